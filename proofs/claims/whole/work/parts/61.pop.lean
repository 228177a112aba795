/-! how many bits are set: Integer.bitCount -/
theorem dv_and1 {w a b x y : Nat} (ha : a < 2 ^ w) (hb : b < 2 ^ w) : (a + 2 ^ w * x) &&& (b + 2 ^ w * y) = (a &&& b) + 2 ^ w * (x &&& y) := by
  apply Nat.eq_of_testBit_eq
  intro i
  rw [Nat.testBit_and, Nat.add_comm a, Nat.add_comm b, Nat.add_comm (a &&& b), Nat.testBit_two_pow_mul_add _ ha, Nat.testBit_two_pow_mul_add _ hb, Nat.testBit_two_pow_mul_add _ (Nat.lt_of_le_of_lt Nat.and_le_left ha)]
  by_cases h : i < w
  · simp [h]
  · simp [h]
def q4 (a b c d : Nat) : Nat := a + 256 * (b + 256 * (c + 256 * d))
theorem q4_and {a b c d m : Nat} (ha : a < 256) (hb : b < 256) (hc : c < 256) (hd : d < 256) (hm : m < 256) : q4 a b c d &&& q4 m m m m = q4 (a &&& m) (b &&& m) (c &&& m) (d &&& m) := by
  unfold q4
  have h8 : (256 : Nat) = 2 ^ 8 := rfl
  rw [h8, dv_and1 ha hm, dv_and1 hb hm, dv_and1 hc hm]
def g1 (b : Nat) : Nat := b - ((b / 2) &&& 85)
def g2 (c : Nat) : Nat := (c &&& 51) + ((c / 4) &&& 51)
def g3 (e : Nat) : Nat := (e + e / 16) &&& 15
theorem gd1 : ∀ b, b < 256 → ∀ t, t < 2 → (b / 2 + 128 * t) &&& 85 = (b / 2) &&& 85 := by decide +kernel
theorem gd2 : ∀ c, c < 256 → ∀ t, t < 4 → (c / 4 + 64 * t) &&& 51 = (c / 4) &&& 51 := by decide +kernel
theorem gd3 : ∀ e, e < 69 → ∀ t, t < 16 → (e + e / 16 + 16 * t) &&& 15 = (e + e / 16) &&& 15 := by decide +kernel
def pop8 (b : Nat) : Nat := (b.testBit 0).toNat + (b.testBit 1).toNat + (b.testBit 2).toNat + (b.testBit 3).toNat + (b.testBit 4).toNat + (b.testBit 5).toNat + (b.testBit 6).toNat + (b.testBit 7).toNat
theorem gd0 : ∀ b, b < 256 → ((b / 2) &&& 85) ≤ b ∧ g1 b < 256 ∧ g2 (g1 b) < 69 ∧ g2 (g1 b) % 16 ≤ 4 ∧ ((g1 b) &&& 51) + ((g1 b / 4) &&& 51) < 256 ∧ g3 (g2 (g1 b)) = pop8 b ∧ pop8 b ≤ 8 := by decide +kernel
theorem tn_sub {x y : Int32} (h : y.toBitVec.toNat ≤ x.toBitVec.toNat) : (x - y).toBitVec.toNat = x.toBitVec.toNat - y.toBitVec.toNat := by
  rw [Int32.toBitVec_sub, BitVec.toNat_sub]
  have h1 := x.toBitVec.isLt
  have h2 := y.toBitVec.isLt
  omega
theorem tn_add {x y : Int32} (h : x.toBitVec.toNat + y.toBitVec.toNat < 4294967296) : (x + y).toBitVec.toNat = x.toBitVec.toNat + y.toBitVec.toNat := by
  rw [Int32.toBitVec_add, BitVec.toNat_add, Nat.mod_eq_of_lt h]
theorem tn_and (x y : Int32) : (x &&& y).toBitVec.toNat = x.toBitVec.toNat &&& y.toBitVec.toNat := by
  rw [Int32.toBitVec_and, BitVec.toNat_and]
theorem tn_ush (x : Int32) {s : Int32} (k : Nat) (hs : ((s.toUInt32 &&& Int32.toUInt32 31).toBitVec % 32).toNat = k) : (ush x s).toBitVec.toNat = x.toBitVec.toNat / 2 ^ k := pk_ushr x s k hs
set_option maxHeartbeats 1000000 in
theorem pop_q4 (x : Int32) {a b c d : Nat} (ha : a < 256) (hb : b < 256) (hc : c < 256) (hd : d < 256) (h : x.toBitVec.toNat = q4 a b c d) : f_J_bitCount x = nI (pop8 a + pop8 b + pop8 c + pop8 d) := by
  have A := gd0 a ha
  have B := gd0 b hb
  have Cc := gd0 c hc
  have Dd := gd0 d hd
  have s1 : (x - ((ush x 1) &&& 1431655765)).toBitVec.toNat = q4 (g1 a) (g1 b) (g1 c) (g1 d) := by
    have e : ((ush x 1) &&& 1431655765).toBitVec.toNat = q4 ((a / 2) &&& 85) ((b / 2) &&& 85) ((c / 2) &&& 85) ((d / 2) &&& 85) := by
      rw [tn_and, tn_ush x 1 (by decide), h, show (1431655765 : Int32).toBitVec.toNat = q4 85 85 85 85 by decide +kernel]
      have e2 : q4 a b c d / 2 ^ 1 = q4 (a / 2 + 128 * (b % 2)) (b / 2 + 128 * (c % 2)) (c / 2 + 128 * (d % 2)) (d / 2) := by unfold q4; omega
      rw [e2, q4_and (by omega) (by omega) (by omega) (by omega) (by decide), gd1 a ha _ (by omega), gd1 b hb _ (by omega), gd1 c hc _ (by omega)]
    have l : q4 ((a / 2) &&& 85) ((b / 2) &&& 85) ((c / 2) &&& 85) ((d / 2) &&& 85) ≤ q4 a b c d := by
      have := A.1; have := B.1; have := Cc.1; have := Dd.1
      unfold q4; omega
    rw [tn_sub (by rw [e, h]; exact l), e, h]
    have := A.1; have := B.1; have := Cc.1; have := Dd.1
    unfold q4 g1; omega
  generalize hy : (x - ((ush x 1) &&& 1431655765)) = y at s1
  have lA := A.2.1; have lB := B.2.1; have lC := Cc.2.1; have lD := Dd.2.1
  have s2 : ((y &&& 858993459) + ((ush y 2) &&& 858993459)).toBitVec.toNat = q4 (g2 (g1 a)) (g2 (g1 b)) (g2 (g1 c)) (g2 (g1 d)) := by
    have hm : (858993459 : Int32).toBitVec.toNat = q4 51 51 51 51 := by decide +kernel
    have e1 : (y &&& 858993459).toBitVec.toNat = q4 (g1 a &&& 51) (g1 b &&& 51) (g1 c &&& 51) (g1 d &&& 51) := by
      rw [tn_and, s1, hm, q4_and lA lB lC lD (by decide)]
    have e2 : ((ush y 2) &&& 858993459).toBitVec.toNat = q4 ((g1 a / 4) &&& 51) ((g1 b / 4) &&& 51) ((g1 c / 4) &&& 51) ((g1 d / 4) &&& 51) := by
      rw [tn_and, tn_ush y 2 (by decide), s1, hm]
      have e3 : q4 (g1 a) (g1 b) (g1 c) (g1 d) / 2 ^ 2 = q4 (g1 a / 4 + 64 * (g1 b % 4)) (g1 b / 4 + 64 * (g1 c % 4)) (g1 c / 4 + 64 * (g1 d % 4)) (g1 d / 4) := by unfold q4; omega
      rw [e3, q4_and (by omega) (by omega) (by omega) (by omega) (by decide), gd2 _ lA _ (by omega), gd2 _ lB _ (by omega), gd2 _ lC _ (by omega)]
    have k1 := A.2.2.2.2.1; have k2 := B.2.2.2.2.1; have k3 := Cc.2.2.2.2.1; have k4 := Dd.2.2.2.2.1
    rw [tn_add (by rw [e1, e2]; unfold q4; omega), e1, e2]
    unfold q4 g2; omega
  generalize hz : ((y &&& 858993459) + ((ush y 2) &&& 858993459)) = z at s2
  have hE : ∀ w, f_J_bitCount w = b_J_bitCount_24 (((w - ((ush w 1) &&& 1431655765)) &&& 858993459) + ((ush (w - ((ush w 1) &&& 1431655765)) 2) &&& 858993459)) := fun _ => rfl
  have pA := A.2.2.1; have pB := B.2.2.1; have pC := Cc.2.2.1; have pD := Dd.2.2.1
  have rA := A.2.2.2.1; have rB := B.2.2.2.1; have rC := Cc.2.2.2.1; have rD := Dd.2.2.2.1
  have s3 : ((z + (ush z 4)) &&& 252645135).toBitVec.toNat = q4 (pop8 a) (pop8 b) (pop8 c) (pop8 d) := by
    have e1 : (ush z 4).toBitVec.toNat = q4 (g2 (g1 a) / 16 + 16 * (g2 (g1 b) % 16)) (g2 (g1 b) / 16 + 16 * (g2 (g1 c) % 16)) (g2 (g1 c) / 16 + 16 * (g2 (g1 d) % 16)) (g2 (g1 d) / 16) := by
      rw [tn_ush z 4 (by decide), s2]; unfold q4; omega
    have e2 : (z + (ush z 4)).toBitVec.toNat = q4 (g2 (g1 a) + g2 (g1 a) / 16 + 16 * (g2 (g1 b) % 16)) (g2 (g1 b) + g2 (g1 b) / 16 + 16 * (g2 (g1 c) % 16)) (g2 (g1 c) + g2 (g1 c) / 16 + 16 * (g2 (g1 d) % 16)) (g2 (g1 d) + g2 (g1 d) / 16) := by
      rw [tn_add (by rw [e1, s2]; unfold q4; omega), e1, s2]; unfold q4; omega
    rw [tn_and, e2, show (252645135 : Int32).toBitVec.toNat = q4 15 15 15 15 by decide +kernel, q4_and (by omega) (by omega) (by omega) (by omega) (by decide), gd3 _ pA _ (by omega), gd3 _ pB _ (by omega), gd3 _ pC _ (by omega)]
    rw [← A.2.2.2.2.2.1, ← B.2.2.2.2.2.1, ← Cc.2.2.2.2.2.1, ← Dd.2.2.2.2.2.1]; rfl
  have fin : b_J_bitCount_24 z = nI (pop8 a + pop8 b + pop8 c + pop8 d) := by
    show b_J_bitCount_34 ((z + (ush z 4)) &&& 252645135) = _
    generalize ((z + (ush z 4)) &&& 252645135) = t at s3
    have hA := A.2.2.2.2.2.2; have hB := B.2.2.2.2.2.2; have hC := Cc.2.2.2.2.2.2; have hD := Dd.2.2.2.2.2.2
    generalize pop8 a = h0 at *
    generalize pop8 b = h1 at *
    generalize pop8 c = h2 at *
    generalize pop8 d = h3 at *
    show ((t + ush t 8) + ush (t + ush t 8) 16) &&& 63 = _
    have e1 : (ush t 8).toBitVec.toNat = h1 + 256 * (h2 + 256 * h3) := by
      rw [tn_ush t 8 (by decide), s3]; unfold q4; omega
    have e2 : (t + ush t 8).toBitVec.toNat = (h0 + h1) + 256 * ((h1 + h2) + 256 * ((h2 + h3) + 256 * h3)) := by
      rw [tn_add (by rw [e1, s3]; unfold q4; omega), e1, s3]; unfold q4; omega
    have e3 : (ush (t + ush t 8) 16).toBitVec.toNat = (h2 + h3) + 256 * h3 := by
      rw [tn_ush _ 16 (by decide), e2]; omega
    have e4 : ((t + ush t 8) + ush (t + ush t 8) 16).toBitVec.toNat = (h0 + h1 + h2 + h3) + 256 * ((h1 + h2 + h3) + 256 * ((h2 + h3) + 256 * h3)) := by
      rw [tn_add (by rw [e2, e3]; omega), e2, e3]; omega
    rw [pk_and _ 6 (by decide), e4]
    congr 1
    omega
  rw [hE, hy, hz]; exact fin
def popS (f : Nat → Bool) : Nat → Nat
  | 0 => 0
  | n + 1 => popS f n + (f n).toNat
theorem pop_bt (x : Int32) : f_J_bitCount x = nI (popS (bt x) 32) := by
  have hN : x.toBitVec.toNat < 4294967296 := x.toBitVec.isLt
  have key := pop_q4 x (a := x.toBitVec.toNat % 256) (b := x.toBitVec.toNat / 256 % 256) (c := x.toBitVec.toNat / 65536 % 256) (d := x.toBitVec.toNat / 16777216 % 256) (by omega) (by omega) (by omega) (by omega) (by unfold q4; omega)
  rw [key]
  congr 1
  have t0 : ∀ i, i < 8 → (x.toBitVec.toNat % 256).testBit i = bt x i := fun i hi => by
    rw [pf_bt, show (256 : Nat) = 2 ^ 8 from rfl, Nat.testBit_mod_two_pow]; simp [hi]
  have t1 : ∀ i, i < 8 → (x.toBitVec.toNat / 256 % 256).testBit i = bt x (8 + i) := fun i hi => by
    rw [pf_bt, show (256 : Nat) = 2 ^ 8 from rfl, Nat.testBit_mod_two_pow, Nat.testBit_div_two_pow]; simp [hi, Nat.add_comm]
  have t2 : ∀ i, i < 8 → (x.toBitVec.toNat / 65536 % 256).testBit i = bt x (16 + i) := fun i hi => by
    rw [pf_bt, show (256 : Nat) = 2 ^ 8 from rfl, show (65536 : Nat) = 2 ^ 16 from rfl, Nat.testBit_mod_two_pow, Nat.testBit_div_two_pow]; simp [hi, Nat.add_comm]
  have t3 : ∀ i, i < 8 → (x.toBitVec.toNat / 16777216 % 256).testBit i = bt x (24 + i) := fun i hi => by
    rw [pf_bt, show (256 : Nat) = 2 ^ 8 from rfl, show (16777216 : Nat) = 2 ^ 24 from rfl, Nat.testBit_mod_two_pow, Nat.testBit_div_two_pow]; simp [hi, Nat.add_comm]
  simp only [pop8, t0 0 (by decide), t0 1 (by decide), t0 2 (by decide), t0 3 (by decide), t0 4 (by decide), t0 5 (by decide), t0 6 (by decide), t0 7 (by decide), t1 0 (by decide), t1 1 (by decide), t1 2 (by decide), t1 3 (by decide), t1 4 (by decide), t1 5 (by decide), t1 6 (by decide), t1 7 (by decide), t2 0 (by decide), t2 1 (by decide), t2 2 (by decide), t2 3 (by decide), t2 4 (by decide), t2 5 (by decide), t2 6 (by decide), t2 7 (by decide), t3 0 (by decide), t3 1 (by decide), t3 2 (by decide), t3 3 (by decide), t3 4 (by decide), t3 5 (by decide), t3 6 (by decide), t3 7 (by decide), popS, Nat.reduceAdd]
  omega
theorem popS_congr {f g : Nat → Bool} : ∀ n, (∀ i, i < n → f i = g i) → popS f n = popS g n := by
  intro n
  induction n with
  | zero => intro _; rfl
  | succ n ih => intro h; unfold popS; rw [ih (fun i hi => h i (by omega)), h n (by omega)]
theorem pop_A (t : TH) : f_J_bitCount (pq_A t) = nI (popS (fun j => t (j / 4) (j % 4)) 28) := by
  rw [pop_bt, popS_congr (g := fun i => decide (i < 28) && t (6 - i / 4) (i % 4)) 32 (fun i _ => by unfold pq_A; exact pq_bt _ i)]
  congr 1
  simp only [popS]
  simp
  omega
theorem pop_enc {d : Nat → Nat} (hd : ∀ p, p < 7 → d p ≤ 4) : f_J_bitCount (pd_enc d) = nI (pc_cn (fun p => !decide (d p = 0)) 7) := by
  unfold pd_enc
  rw [pop_A]
  congr 1
  have k : ∀ p, p < 7 → (decide (d p = 0 + 1)).toNat + (decide (d p = 1 + 1)).toNat + (decide (d p = 2 + 1)).toNat + (decide (d p = 3 + 1)).toNat = (!decide (d p = 0)).toNat := by
    intro p hp
    have := hd p hp
    generalize d p = x at this
    exact (by decide : ∀ x, x ≤ 4 → (decide (x = 0 + 1)).toNat + (decide (x = 1 + 1)).toNat + (decide (x = 2 + 1)).toNat + (decide (x = 3 + 1)).toNat = (!decide (x = 0)).toNat) x this
  have k0 := k 0 (by decide); have k1 := k 1 (by decide); have k2 := k 2 (by decide); have k3 := k 3 (by decide); have k4 := k 4 (by decide); have k5 := k 5 (by decide); have k6 := k 6 (by decide)
  show popS _ 28 = (!decide (d (6 - 6) = 0)).toNat + ((!decide (d (6 - 5) = 0)).toNat + ((!decide (d (6 - 4) = 0)).toNat + ((!decide (d (6 - 3) = 0)).toNat + ((!decide (d (6 - 2) = 0)).toNat + ((!decide (d (6 - 1) = 0)).toNat + ((!decide (d (6 - 0) = 0)).toNat + 0))))))
  rw [← k0, ← k1, ← k2, ← k3, ← k4, ← k5, ← k6]
  show 0 + (decide (d 0 = 0 + 1)).toNat + (decide (d 0 = 1 + 1)).toNat + (decide (d 0 = 2 + 1)).toNat + (decide (d 0 = 3 + 1)).toNat + (decide (d 1 = 0 + 1)).toNat + (decide (d 1 = 1 + 1)).toNat + (decide (d 1 = 2 + 1)).toNat + (decide (d 1 = 3 + 1)).toNat + (decide (d 2 = 0 + 1)).toNat + (decide (d 2 = 1 + 1)).toNat + (decide (d 2 = 2 + 1)).toNat + (decide (d 2 = 3 + 1)).toNat + (decide (d 3 = 0 + 1)).toNat + (decide (d 3 = 1 + 1)).toNat + (decide (d 3 = 2 + 1)).toNat + (decide (d 3 = 3 + 1)).toNat + (decide (d 4 = 0 + 1)).toNat + (decide (d 4 = 1 + 1)).toNat + (decide (d 4 = 2 + 1)).toNat + (decide (d 4 = 3 + 1)).toNat + (decide (d 5 = 0 + 1)).toNat + (decide (d 5 = 1 + 1)).toNat + (decide (d 5 = 2 + 1)).toNat + (decide (d 5 = 3 + 1)).toNat + (decide (d 6 = 0 + 1)).toNat + (decide (d 6 = 1 + 1)).toNat + (decide (d 6 = 2 + 1)).toNat + (decide (d 6 = 3 + 1)).toNat = _
  omega
