/-! CORE: the fewest that hinder each other -/
def sz (n : Nat) : Nat := (n.testBit 0).toNat + (n.testBit 1).toNat + (n.testBit 2).toNat + (n.testBit 3).toNat + (n.testBit 4).toNat + (n.testBit 5).toNat
def rv (n : Nat) : Nat := (n.testBit 0).toNat * 32 + (n.testBit 1).toNat * 16 + (n.testBit 2).toNat * 8 + (n.testBit 3).toNat * 4 + (n.testBit 4).toNat * 2 + (n.testBit 5).toNat
theorem cf_size : ∀ n, n < 64 → f_M_sizeOf (nI n) = some (nI (sz n)) := by decide +kernel
theorem cf_ahead : ∀ n, n < 64 → ∀ m, m < 64 → n ≠ m → f_M_isAhead (nI n) (nI m) = some (if rv m < rv n then 1 else 0) := by decide +kernel
theorem cf_bit : ∀ t, t < 64 → f_J_bitCount (nI t) = nI (sz t) := by decide +kernel
theorem cf_rv : ∀ n, n < 64 → rv n < 64 ∧ rv (rv n) = n ∧ sz (rv n) = sz n ∧ sz n ≤ 6 ∧ (0 < n → 1 ≤ sz n ∧ 0 < rv n) := by decide +kernel
theorem cf_bt : ∀ n, n < 64 → ∀ i, i < 6 → bt (nI (rv n)) (5 - i) = bt (nI n) i := by decide +kernel
theorem cf_hi : ∀ n, n < 64 → ∀ i, i < 32 → 6 ≤ i → bt (nI n) i = false := by decide +kernel
theorem cf_all : ∀ l, l ≤ 6 → ∀ b, b < 32 → bt (nI (rv (2 ^ l - 1))) b = decide (b < 6 ∧ 6 ≤ b + l) := by decide +kernel
theorem cf_mall : ∀ l, l ≤ 6 → ((1 : Int32) <<< (nI l &&& 31)) - 1 = nI (2 ^ l - 1) := by decide +kernel
theorem cf_sub : ∀ l, l ≤ 6 → ∀ t, t < 64 → ((nI t &&& (nI (rv (2 ^ l - 1)) ^^^ (-1 : Int32))) = 0 ↔ rv t < 2 ^ l) := by decide +kernel
theorem cf_le : ∀ l, l ≤ 6 → ∀ n, n < 64 → n < 2 ^ l → rv n ≤ rv (2 ^ l - 1) := by decide +kernel
theorem cf_pow {l : Nat} (h : l ≤ 6) : 2 ^ l ≤ 64 ∧ 1 ≤ 2 ^ l := by
  have := Nat.pow_le_pow_right (show 0 < 2 by decide) h
  exact ⟨this, Nat.one_le_two_pow⟩
section CX
variable {th : TH} {nd : ND} {bn : List pd_B} {ask : List pd_N} {u0 v0 : PS}
def No (th : TH) (nd : ND) (bn : List pd_B) (ask : List pd_N) (n : Nat) : Prop := pf_A th nd bn (pd_sel ask (bt (nI n))) = []
def Gd (th : TH) (nd : ND) (bn : List pd_B) (ask : List pd_N) (z t : Nat) : Prop := rv t < 2 ^ ask.length ∧ sz t = z ∧ No th nd bn ask (rv t)
def Fr (u0 u : PS) : Prop := (∀ k, k < 6 → u.1 k = u0.1 k) ∧ u.2 = u0.2
theorem Fr.rx (h : RX th nd bn ask u0) {u : PS} (f : Fr u0 u) : RX th nd bn ask u := h.fr (fun k hk => f.1 k (by omega)) f.2
theorem cx_has (hX0 : RX th nd bn ask u0) (hM : RM th nd bn ask v0) {t : Nat} (ht : t < 64) {u : PS} (hf : Fr u0 u) : ∃ (y : Int32) (u' : PS), f_X_tallyChoices (nI t) (0 : Int32) (1 : Int32) u = some (y, u') ∧ Fr u0 u' ∧ (y = 0 ↔ No th nd bn ask (rv t)) := by
  have hX := hf.rx hX0
  obtain ⟨b1, b2, b3, b4⟩ := pc_begin 0 1 u
  have hone := pc_one (u := f_T_begin 0 1 u) b1.2.2.1 b2 (px_L th nd bn (pd_sel ask (fun i => bt (nI t) (5 - i))))
  have hsel : pd_sel ask (fun i => bt (nI t) (5 - i)) = pd_sel ask (bt (nI (rv t))) := pd_sel_congr fun i hi => by
    have := cf_bt (rv t) (cf_rv t ht).1 i (by have := hX.2.1.2.1; omega)
    rw [(cf_rv t ht).2.1] at this
    exact this
  rw [hsel] at hone
  have hlen := rs_len hM (bt (nI (rv t)))
  have hiff : px_L th nd bn (pd_sel ask (bt (nI (rv t)))) = [] ↔ No th nd bn ask (rv t) := by
    unfold No
    rw [← List.length_eq_zero_iff, ← List.length_eq_zero_iff, hlen]
  have hfr : Fr u0 ((px_L th nd bn (pd_sel ask (bt (nI (rv t))))).foldl px_ent (f_T_begin 0 1 u)) := ⟨fun k hk => by rw [px_fold1 (by omega), b4 k hk]; exact hf.1 k hk, by rw [px_fold2, b3]; exact hf.2⟩
  refine ⟨_, _, by rw [px_tally hX.2.1 hX.1 hX.2.2.1 (nI t) 0 1, hsel], hfr, ?_⟩
  by_cases hn : No th nd bn ask (rv t)
  · rw [hone, if_pos (hiff.mpr hn)]; simp [hn]
  · rw [hone, if_neg (fun z => hn (hiff.mp z))]; simp [hn]
theorem cx_18 (hX0 : RX th nd bn ask u0) (hM : RM th nd bn ask v0) (k10 : Int32 → Int32 → PS → Option (Int32 × PS)) {z : Nat} (hz : z ≤ 6) : ∀ (m s : Nat) (u : PS), s < 64 → s < m → Fr u0 u →
    (∃ (t : Nat) (u' : PS), 1 ≤ t ∧ t ≤ s ∧ Gd th nd bn ask z t ∧ (∀ t', t < t' → t' ≤ s → ¬ Gd th nd bn ask z t') ∧ l_X_fewestHindering_18 k10 m (nI (rv (2 ^ ask.length - 1))) (nI z) (nI s) u = some (nI t, u') ∧ Fr u0 u') ∨
    ((∀ t', 1 ≤ t' → t' ≤ s → ¬ Gd th nd bn ask z t') ∧ ∃ u', Fr u0 u' ∧ l_X_fewestHindering_18 k10 m (nI (rv (2 ^ ask.length - 1))) (nI z) (nI s) u = k10 (nI (rv (2 ^ ask.length - 1))) (nI (z + 1)) u') := by
  have hl6 := hX0.2.1.2.1
  intro m
  induction m with
  | zero => intro s u _ h; omega
  | succ m ih =>
    intro s u hs hm hf
    have hstep : l_X_fewestHindering_18 k10 (m + 1) (nI (rv (2 ^ ask.length - 1))) (nI z) (nI s) u = b_X_fewestHindering_18 k10 (l_X_fewestHindering_18 k10 m) (nI (rv (2 ^ ask.length - 1))) (nI z) (nI s) u := rfl
    rw [hstep]
    unfold b_X_fewestHindering_18
    by_cases h0 : s = 0
    · subst h0
      exact Or.inr ⟨fun t' h1 h2 => by omega, u, hf, by rw [if_pos (by decide), nI_1]⟩
    obtain ⟨r, rfl⟩ : ∃ r, s = r + 1 := ⟨s - 1, by omega⟩
    rw [if_neg (nI_nle (by omega) (by omega)), pk_m1]
    have skip : ∀ u2, Fr u0 u2 → ¬ Gd th nd bn ask z (r + 1) →
      (∃ (t : Nat) (u' : PS), 1 ≤ t ∧ t ≤ r + 1 ∧ Gd th nd bn ask z t ∧ (∀ t', t < t' → t' ≤ r + 1 → ¬ Gd th nd bn ask z t') ∧ l_X_fewestHindering_18 k10 m (nI (rv (2 ^ ask.length - 1))) (nI z) (nI r) u2 = some (nI t, u') ∧ Fr u0 u') ∨
      ((∀ t', 1 ≤ t' → t' ≤ r + 1 → ¬ Gd th nd bn ask z t') ∧ ∃ u', Fr u0 u' ∧ l_X_fewestHindering_18 k10 m (nI (rv (2 ^ ask.length - 1))) (nI z) (nI r) u2 = k10 (nI (rv (2 ^ ask.length - 1))) (nI (z + 1)) u') := by
      intro u2 hf2 hng
      rcases ih r u2 (by omega) (by omega) hf2 with ⟨t, u', g1, g2, g3, g4, g5, g6⟩ | ⟨g1, u', g2, g3⟩
      · refine Or.inl ⟨t, u', g1, by omega, g3, fun t' h1 h2 => ?_, g5, g6⟩
        by_cases e : t' = r + 1
        · subst e; exact hng
        · exact g4 t' h1 (by omega)
      · refine Or.inr ⟨fun t' h1 h2 => ?_, u', g2, g3⟩
        by_cases e : t' = r + 1
        · subst e; exact hng
        · exact g1 t' h1 (by omega)
    by_cases hsub : rv (r + 1) < 2 ^ ask.length
    · rw [if_pos ((cf_sub _ hl6 _ hs).mpr hsub)]
      by_cases hsz : sz (r + 1) = z
      · rw [if_pos (by rw [cf_bit _ hs, hsz])]
        obtain ⟨y, u', e1, e2, e3⟩ := cx_has hX0 hM hs hf
        rw [e1, Option.bind_some]
        dsimp only
        by_cases hn : No th nd bn ask (rv (r + 1))
        · rw [if_pos (e3.mpr hn)]
          exact Or.inl ⟨r + 1, u', by omega, by omega, ⟨hsub, hsz, hn⟩, fun t' h1 h2 => by omega, rfl, e2⟩
        · rw [if_neg (fun k => hn (e3.mp k))]
          exact skip u' e2 (fun k => hn k.2.2)
      · rw [if_neg (fun k => hsz (by rw [cf_bit _ hs] at k; exact (nI_eq (by have := (cf_rv _ hs).2.2.2.1; omega) (by omega)).mp k))]
        exact skip u hf (fun k => hsz k.2.1)
    · rw [if_neg (fun k => hsub ((cf_sub _ hl6 _ hs).mp k))]
      exact skip u hf (fun k => hsub k.1)
theorem cx_10 (hX0 : RX th nd bn ask u0) (hM : RM th nd bn ask v0) : ∀ (m z : Nat) (u : PS), 1 ≤ z → z ≤ 7 → 7 - z < m → Fr u0 u →
    (∃ (t : Nat) (u' : PS), 1 ≤ t ∧ t ≤ rv (2 ^ ask.length - 1) ∧ Gd th nd bn ask (sz t) t ∧ (∀ t', 1 ≤ t' → t' ≤ rv (2 ^ ask.length - 1) → z ≤ sz t' → Gd th nd bn ask (sz t') t' → sz t < sz t' ∨ (sz t = sz t' ∧ t' ≤ t)) ∧ l_X_fewestHindering_10 m (nI (rv (2 ^ ask.length - 1))) (nI z) u = some (nI t, u') ∧ Fr u0 u') ∨
    ((∀ t', 1 ≤ t' → t' ≤ rv (2 ^ ask.length - 1) → z ≤ sz t' → ¬ Gd th nd bn ask (sz t') t') ∧ ∃ u', l_X_fewestHindering_10 m (nI (rv (2 ^ ask.length - 1))) (nI z) u = some (0, u') ∧ Fr u0 u') := by
  have hl6 := hX0.2.1.2.1
  have hS : rv (2 ^ ask.length - 1) < 64 := (cf_rv _ (by have := cf_pow hl6; omega)).1
  intro m
  induction m with
  | zero => intro z u _ _ h; omega
  | succ m ih =>
    intro z u hz1 hz7 hm hf
    have hstep : l_X_fewestHindering_10 (m + 1) (nI (rv (2 ^ ask.length - 1))) (nI z) u = b_X_fewestHindering_10 (l_X_fewestHindering_10 m) (nI (rv (2 ^ ask.length - 1))) (nI z) u := rfl
    rw [hstep]
    unfold b_X_fewestHindering_10
    by_cases h7 : z = 7
    · subst h7
      refine Or.inr ⟨fun t' h1 h2 h3 => ?_, u, by rw [if_pos (by decide)], hf⟩
      have := (cf_rv t' (by omega)).2.2.2.1
      omega
    rw [if_neg (show ¬ (6 : Int32) < nI z from nI_nlt (b := z) (a := 6) (by omega) (by decide))]
    rcases cx_18 hX0 hM (l_X_fewestHindering_10 m) (z := z) (by omega) NF (rv (2 ^ ask.length - 1)) u hS (show _ < 1000000 by omega) hf with ⟨t, u', g1, g2, g3, g4, g5, g6⟩ | ⟨g1, u1, g2, g3⟩
    · refine Or.inl ⟨t, u', g1, g2, by rw [g3.2.1]; exact g3, fun t' h1 h2 h3 h4 => ?_, g5, g6⟩
      have e := g3.2.1
      by_cases e2 : sz t' = z
      · right
        refine ⟨by omega, ?_⟩
        rw [e2] at h4
        exact Nat.not_lt.mp fun k => g4 t' k h2 h4
      · left; omega
    · rw [g3]
      have hno : ∀ t', 1 ≤ t' → t' ≤ rv (2 ^ ask.length - 1) → Gd th nd bn ask (sz t') t' → sz t' ≠ z := fun t' h1 h2 h3 e => g1 t' h1 h2 (by rw [e] at h3; exact h3)
      rcases ih (z + 1) u1 (by omega) (by omega) (by omega) g2 with ⟨t, u', k1, k2, k3, k4, k5, k6⟩ | ⟨k1, u', k2, k3⟩
      · refine Or.inl ⟨t, u', k1, k2, k3, fun t' h1 h2 h3 h4 => ?_, k5, k6⟩
        have := hno t' h1 h2 h4
        exact k4 t' h1 h2 (by omega) h4
      · refine Or.inr ⟨fun t' h1 h2 h3 h4 => ?_, u', k2, k3⟩
        have := hno t' h1 h2 h4
        exact k1 t' h1 h2 (by omega) h4
end CX
