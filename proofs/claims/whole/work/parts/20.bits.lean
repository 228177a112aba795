def bt (x : Int32) (i : Nat) : Bool := x.toBitVec.getLsbD i
theorem b_ext {x y : Int32} (h : ∀ i, i < 32 → bt x i = bt y i) : x = y := Int32.toBitVec_inj.mp (BitVec.eq_of_getLsbD_eq (fun i hi => h i hi))
theorem b_or (x y : Int32) (i : Nat) : bt (x ||| y) i = (bt x i || bt y i) := by unfold bt; rw [Int32.toBitVec_or, BitVec.getLsbD_or]
theorem b_and (x y : Int32) (i : Nat) : bt (x &&& y) i = (bt x i && bt y i) := by unfold bt; rw [Int32.toBitVec_and, BitVec.getLsbD_and]
theorem b_xor (x y : Int32) (i : Nat) : bt (x ^^^ y) i = (bt x i ^^ bt y i) := by unfold bt; rw [Int32.toBitVec_xor, BitVec.getLsbD_xor]
theorem b_big {x : Int32} {i : Nat} (h : 32 ≤ i) : bt x i = false := BitVec.getLsbD_of_ge _ _ h
theorem b_255 (i : Nat) : bt 255 i = decide (i < 8) := by
  rcases Nat.lt_or_ge i 32 with h | h
  · exact (by decide +kernel : ∀ i, i < 32 → bt 255 i = decide (i < 8)) i h
  · rw [b_big h, decide_eq_false (by omega)]
theorem b_65535 (i : Nat) : bt 65535 i = decide (i < 16) := by
  rcases Nat.lt_or_ge i 32 with h | h
  · exact (by decide +kernel : ∀ i, i < 32 → bt 65535 i = decide (i < 16)) i h
  · rw [b_big h, decide_eq_false (by omega)]
theorem b_m1 : ∀ i, i < 32 → bt (-1) i = true := by decide +kernel
theorem b_0 (i : Nat) : bt 0 i = false := BitVec.getLsbD_zero
theorem s_l : ∀ n, n < 32 → ((nI n &&& 31).toBitVec.smod 32).toNat = n := by decide +kernel
theorem s_u : ∀ n, n < 32 → (((nI n).toUInt32 &&& Int32.toUInt32 31).toBitVec % 32).toNat = n := by decide +kernel
theorem b_shl (n : Nat) (hn : n < 32) (x : Int32) {i : Nat} (hi : i < 32) : bt (x <<< (nI n &&& 31)) i = (decide (n ≤ i) && bt x (i - n)) := by
  unfold bt
  rw [Int32.toBitVec_shiftLeft]
  show (x.toBitVec <<< ((nI n &&& 31).toBitVec.smod 32).toNat).getLsbD i = _
  rw [s_l n hn, BitVec.getLsbD_shiftLeft]
  rcases Nat.lt_or_ge i n with h | h
  · simp [h, Nat.not_le.mpr h]
  · simp [hi, h, Nat.not_lt.mpr h]
theorem b_ushr (n : Nat) (hn : n < 32) (x : Int32) (i : Nat) : bt ((x.toUInt32 >>> ((nI n).toUInt32 &&& Int32.toUInt32 31)).toInt32) i = bt x (n + i) := by
  show (x.toUInt32 >>> ((nI n).toUInt32 &&& Int32.toUInt32 31)).toBitVec.getLsbD i = x.toUInt32.toBitVec.getLsbD (n + i)
  rw [UInt32.toBitVec_shiftRight]
  show (x.toUInt32.toBitVec >>> (((nI n).toUInt32 &&& Int32.toUInt32 31).toBitVec % 32).toNat).getLsbD i = _
  rw [s_u n hn, BitVec.getLsbD_ushiftRight]
theorem b_sshr (n : Nat) (hn : n < 32) (x : Int32) {i : Nat} (hi : i < 32) : bt (x >>> (nI n &&& 31)) i = if n + i < 32 then bt x (n + i) else bt x 31 := by
  unfold bt
  rw [Int32.toBitVec_shiftRight]
  show (x.toBitVec.sshiftRight ((nI n &&& 31).toBitVec.smod 32).toNat).getLsbD i = _
  rw [s_l n hn, BitVec.getLsbD_sshiftRight, BitVec.msb_eq_getLsbD_last]
  simp [hi]
theorem pq_sc : ∀ n, n < 32 → ((1 : Int32) <<< (nI n &&& 31)).toBitVec = BitVec.twoPow 32 n := by decide +kernel
theorem pq_b1 {n i : Nat} (hn : n < 32) : bt ((1 : Int32) <<< (nI n &&& 31)) i = decide (i = n) := by
  unfold bt
  rw [pq_sc n hn, BitVec.getLsbD_twoPow]
  by_cases h : n = i
  · simp [h, hn]; omega
  · have h2 : ¬ i = n := fun e => h e.symm
    simp [h, h2]
theorem pq_not (x : Int32) {i : Nat} (hi : i < 32) : bt (x ^^^ (-1)) i = !bt x i := by
  rw [b_xor, b_m1 i hi]; cases bt x i <;> rfl
/-- a set of the numbers below n, as bits -/
def pq_mkN (f : Nat → Bool) : Nat → Int32
  | 0 => 0
  | n + 1 => pq_mkN f n ||| (if f n = true then (1 : Int32) <<< (nI n &&& 31) else 0)
theorem pq_mkN_bt (f : Nat → Bool) : ∀ n, n ≤ 32 → ∀ i, bt (pq_mkN f n) i = (decide (i < n) && f i) := by
  intro n
  induction n with
  | zero => intro _ i; simp [pq_mkN, b_0]
  | succ n ih =>
    intro hn i
    unfold pq_mkN
    rw [b_or, ih (by omega)]
    by_cases hf : f n = true
    · rw [if_pos hf, pq_b1 (by omega)]
      by_cases hi : i = n
      · subst hi; simp [hf]
      · have : decide (i < n + 1) = decide (i < n) := by
          by_cases h : i < n
          · simp [h]; omega
          · simp [h]; omega
        rw [this]; simp [hi]
    · rw [if_neg hf, b_0]
      by_cases hi : i = n
      · subst hi; simp [hf]
      · have : decide (i < n + 1) = decide (i < n) := by
          by_cases h : i < n
          · simp [h]; omega
          · simp [h]; omega
        rw [this]; simp
def pq_mk (f : Nat → Bool) : Int32 := pq_mkN f 28
theorem pq_bt (f : Nat → Bool) (i : Nat) : bt (pq_mk f) i = (decide (i < 28) && f i) := pq_mkN_bt f 28 (by omega) i
theorem pq_ext {x y : Int32} (h : ∀ i, i < 32 → bt x i = bt y i) : x = y := b_ext h
theorem pq_congr {f g : Nat → Bool} (h : ∀ i, i < 28 → f i = g i) : pq_mk f = pq_mk g := b_ext fun i _ => by
  rw [pq_bt, pq_bt]
  by_cases hi : i < 28
  · rw [h i hi]
  · simp [hi]
theorem pq_or (f g : Nat → Bool) : pq_mk f ||| pq_mk g = pq_mk (fun i => f i || g i) := b_ext fun i _ => by
  rw [b_or, pq_bt, pq_bt, pq_bt]
  by_cases hi : i < 28 <;> simp [hi]
theorem pq_and (f g : Nat → Bool) : pq_mk f &&& pq_mk g = pq_mk (fun i => f i && g i) := b_ext fun i _ => by
  rw [b_and, pq_bt, pq_bt, pq_bt]
  by_cases hi : i < 28 <;> simp [hi]
theorem pq_xor (f g : Nat → Bool) : pq_mk f ^^^ pq_mk g = pq_mk (fun i => f i ^^ g i) := b_ext fun i _ => by
  rw [b_xor, pq_bt, pq_bt, pq_bt]
  by_cases hi : i < 28 <;> simp [hi]
theorem pq_andn (f g : Nat → Bool) : pq_mk f &&& (pq_mk g ^^^ (-1)) = pq_mk (fun i => f i && !g i) := b_ext fun i h => by
  rw [b_and, pq_not _ h, pq_bt, pq_bt, pq_bt]
  by_cases hi : i < 28 <;> simp [hi]
theorem pq_0 : pq_mk (fun _ => false) = 0 := b_ext fun i _ => by rw [pq_bt, b_0]; simp
theorem pq_eq0 (f : Nat → Bool) : pq_mk f = 0 ↔ ∀ i, i < 28 → f i = false := by
  constructor
  · intro h i hi
    have := pq_bt f i
    rw [h, b_0] at this
    simpa [hi] using this.symm
  · intro h
    rw [← pq_0]
    exact pq_congr h
theorem pq_inj {f g : Nat → Bool} (h : pq_mk f = pq_mk g) {i : Nat} (hi : i < 28) : f i = g i := by
  have h1 := pq_bt f i
  have h2 := pq_bt g i
  rw [h] at h1
  rw [h1] at h2
  simpa [hi] using h2
theorem pq_one {n : Nat} (hn : n < 28) : (1 : Int32) <<< (nI n &&& 31) = pq_mk (fun i => decide (i = n)) := b_ext fun i _ => by
  rw [pq_b1 (by omega), pq_bt]
  by_cases h : i = n
  · subst h; simp [hn]
  · simp [h]
theorem pq_holds (f : Nat → Bool) {n : Nat} (hn : n < 28) : (pq_mk f &&& ((1 : Int32) <<< (nI n &&& 31))) = 0 ↔ f n = false := by
  rw [pq_one hn, pq_and, pq_eq0]
  constructor
  · intro h; simpa using h n hn
  · intro h i hi
    by_cases e : i = n
    · subst e; simp [h]
    · simp [e]
theorem pq_shr (f : Nat → Bool) {n i : Nat} (hn : n < 32) (hi : i < 32) : bt (pq_mk f >>> (nI n &&& 31)) i = (decide (n + i < 28) && f (n + i)) := by
  rw [b_sshr n hn _ hi]
  by_cases h : n + i < 32
  · rw [if_pos h, pq_bt]
  · rw [if_neg h, pq_bt]
    have : ¬ n + i < 28 := by omega
    simp [this]
theorem pq_nn (f : Nat → Bool) : ¬ pq_mk f < 0 := by
  intro h
  have h1 : bt (pq_mk f) 31 = false := by rw [pq_bt]; simp
  unfold bt at h1
  have h2 : (pq_mk f).toBitVec.msb = false := by rw [BitVec.msb_eq_getLsbD_last]; exact h1
  have h3 : (pq_mk f).toInt < 0 := by simpa using Int32.lt_iff_toInt_lt.mp h
  have h4 : (pq_mk f).toBitVec.toInt < 0 := h3
  rw [BitVec.toInt_eq_msb_cond, h2] at h4
  simp at h4
  omega
