/-! the order of the choices; the two lists side by side -/
def pf_gt (d e : Nat → Nat) : Prop := ∃ i, i < 7 ∧ (∀ j, j < i → d j = e j) ∧ e i < d i
theorem pf_gt_irr (d : Nat → Nat) : ¬ pf_gt d d := fun ⟨i, _, _, h⟩ => Nat.lt_irrefl _ h
theorem pf_rev_pw : ∀ n : Nat, List.Pairwise (fun a b => b < a) (List.range n).reverse := by
  intro n
  rw [List.pairwise_reverse]
  exact List.pairwise_lt_range
theorem pf_ext_pw : ∀ (k : Nat) (c : Nat → Nat), k ≤ 7 → (pf_ext k c).Pairwise pf_gt := by
  intro k
  induction k with
  | zero => intro c _; unfold pf_ext; exact List.pairwise_singleton _ _
  | succ k ih =>
    intro c hk
    unfold pf_ext
    rw [List.pairwise_flatMap]
    refine ⟨fun v _ => ih _ (by omega), ?_⟩
    refine (pf_rev_pw 5).imp ?_
    intro a b hab x hx y hy
    have h1 := ((pf_ext_mem k _ _ (by omega)).mp hx).1
    have h2 := ((pf_ext_mem k _ _ (by omega)).mp hy).1
    refine ⟨6 - k, by omega, fun j hj => ?_, ?_⟩
    · rw [h1 j (by omega), h2 j (by omega), va_up_ne _ _ (by omega), va_up_ne _ _ (by omega)]
    · rw [h1 (6 - k) (by omega), h2 (6 - k) (by omega), va_up_self, va_up_self]; exact hab
/-- all choices there are, as finds() comes to them -/
def pf_c0 : Nat → Nat := fun i => if i = 0 then 5 else 0
theorem pf_rest_1 (d : Nat → Nat) : d ∈ pf_rest 1 pf_c0 ↔ pd_wf d := by
  show d ∈ (List.range 5).reverse.flatMap (fun v => pf_ext 6 (va_up pf_c0 0 v)) ++ [] ↔ _
  rw [List.append_nil, List.mem_flatMap]
  constructor
  · rintro ⟨v, hv, h⟩
    rw [List.mem_reverse, List.mem_range] at hv
    obtain ⟨h1, h2⟩ := (pf_ext_mem 6 _ _ (by omega)).mp h
    refine ⟨fun p hp => ?_, fun p hp => ?_⟩
    · by_cases e : p = 0
      · subst e; rw [h1 0 (by omega), va_up_self]; omega
      · exact h2 p (by omega) hp
    · rw [h1 p (by omega), va_up_ne _ _ (by omega)]
      show (if p = 0 then 5 else 0) = 0
      rw [if_neg (by omega)]
  · rintro ⟨h1, h2⟩
    refine ⟨d 0, ?_, (pf_ext_mem 6 _ _ (by omega)).mpr ⟨fun i hi => ?_, fun i k1 k2 => h1 i k2⟩⟩
    · rw [List.mem_reverse, List.mem_range]
      have := h1 0 (by omega); omega
    · by_cases e : i = 0
      · subst e; rw [va_up_self]
      · rw [va_up_ne _ _ e, h2 i (by omega)]
        show 0 = (if i = 0 then 5 else 0)
        rw [if_neg e]
theorem pf_rest_1_pw : (pf_rest 1 pf_c0).Pairwise pf_gt := by
  show ((List.range 5).reverse.flatMap (fun v => pf_ext 6 (va_up pf_c0 0 v)) ++ []).Pairwise pf_gt
  rw [List.append_nil, List.pairwise_flatMap]
  refine ⟨fun v _ => pf_ext_pw 6 _ (by omega), ?_⟩
  refine (pf_rev_pw 5).imp ?_
  intro a b hab x hx y hy
  have h1 := ((pf_ext_mem 6 _ _ (by omega)).mp hx).1
  have h2 := ((pf_ext_mem 6 _ _ (by omega)).mp hy).1
  refine ⟨0, by omega, fun j hj => by omega, ?_⟩
  rw [h1 0 (by omega), h2 0 (by omega), va_up_self, va_up_self]; exact hab
theorem pf_ltb {n m i : Nat} (hn : n.testBit i = false) (hm : m.testBit i = true) (h : ∀ j, i < j → n.testBit j = m.testBit j) : n < m := by
  have hq : n / 2 ^ (i + 1) = m / 2 ^ (i + 1) := by
    apply Nat.eq_of_testBit_eq
    intro j
    rw [Nat.testBit_div_two_pow, Nat.testBit_div_two_pow]
    exact h _ (by omega)
  have h1 : n % 2 ^ (i + 1) < 2 ^ i := by
    apply Nat.lt_pow_two_of_testBit
    intro j hj
    rw [Nat.testBit_mod_two_pow]
    by_cases e : j = i
    · subst e; simp [hn]
    · have : ¬ j < i + 1 := by omega
      simp [this]
  have h2 : 2 ^ i ≤ m % 2 ^ (i + 1) := by
    apply Nat.le_of_not_lt
    intro hlt
    have h3 := Nat.testBit_lt_two_pow hlt
    rw [Nat.testBit_mod_two_pow] at h3
    simp [hm] at h3
  have e1 := Nat.div_add_mod n (2 ^ (i + 1))
  have e2 := Nat.div_add_mod m (2 ^ (i + 1))
  rw [hq] at e1
  omega
theorem pf_bt (x : Int32) (i : Nat) : bt x i = x.toBitVec.toNat.testBit i := rfl
theorem pf_A_small (t : Nat → Nat → Bool) : (pq_A t).toBitVec.toNat < 2 ^ 31 := by
  apply Nat.lt_pow_two_of_testBit
  intro i hi
  rw [← pf_bt]
  unfold pq_A
  rw [pq_bt]
  have : ¬ i < 28 := by omega
  simp [this]
theorem pf_A_toInt (t : Nat → Nat → Bool) : (pq_A t).toInt = ((pq_A t).toBitVec.toNat : Int) := by
  have h := pf_A_small t
  show (pq_A t).toBitVec.toInt = _
  rw [BitVec.toInt_eq_toNat_of_lt (by omega)]
theorem pf_A_lt (s t : Nat → Nat → Bool) : pq_A s < pq_A t ↔ (pq_A s).toBitVec.toNat < (pq_A t).toBitVec.toNat := by
  rw [Int32.lt_iff_toInt_lt, pf_A_toInt, pf_A_toInt]; omega
theorem pf_enc_lt {d e : Nat → Nat} (hd : pd_wf d) (h : pf_gt d e) : pd_enc e < pd_enc d := by
  obtain ⟨i, hi, h1, h2⟩ := h
  have h4 := hd.1 i hi
  obtain ⟨w, hw⟩ : ∃ w, d i = w + 1 := ⟨d i - 1, by omega⟩
  have hw4 : w < 4 := by omega
  unfold pd_enc
  rw [pf_A_lt]
  apply pf_ltb (i := pq_sl i w)
  · rw [← pf_bt]; unfold pq_A; rw [pq_bt, pq_sl_p hi hw4, pq_sl_w hi hw4]
    have : ¬ e i = w + 1 := by omega
    simp [this]
  · rw [← pf_bt]; unfold pq_A; rw [pq_bt, pq_sl_p hi hw4, pq_sl_w hi hw4]
    simp [hw, pq_sl_lt hi hw4]
  · intro j hj
    rw [← pf_bt, ← pf_bt]; unfold pq_A; rw [pq_bt, pq_bt]
    by_cases h28 : j < 28
    · by_cases hp : 6 - j / 4 = i
      · have hz : w < j % 4 := by unfold pq_sl at hj; omega
        rw [hp]
        have a1 : ¬ e i = j % 4 + 1 := by omega
        have a2 : ¬ d i = j % 4 + 1 := by omega
        simp [a1, a2]
      · have hlt : 6 - j / 4 < i := by unfold pq_sl at hj; omega
        have hde := h1 _ hlt
        dsimp only
        simp only [hde]
    · simp [h28]
section PO
variable {th : Nat → Nat → Bool} {nd : Nat → Nat → List pd_N} {bn : List pd_B} {ak : List pd_N}
noncomputable def pf_A (th : Nat → Nat → Bool) (nd : Nat → Nat → List pd_N) (bn : List pd_B) (ak : List pd_N) : List (Nat → Nat) := pf_F th nd bn ak (pf_rest 1 pf_c0)
theorem pf_A_mem (d : Nat → Nat) : d ∈ pf_A th nd bn ak ↔ pd_val th nd bn ak d := by
  unfold pf_A
  rw [pf_F_mem, pf_rest_1]
  exact ⟨fun h => h.2, fun h => ⟨h.1, h⟩⟩
theorem pf_A_pw : (pf_A th nd bn ak).Pairwise pf_gt := pf_rest_1_pw.sublist List.filter_sublist
theorem pf_A_nodup : ((pf_A th nd bn ak).map pd_enc).Nodup := by
  rw [List.nodup_iff_pairwise_ne, List.pairwise_map]
  refine (List.Pairwise.imp_of_mem ?_ pf_A_pw)
  intro d e hd he h heq
  have := pf_enc_lt ((pf_A_mem d).mp hd).1 h
  rw [heq] at this
  exact Int32.lt_irrefl this
/-- the class's list and the model's hold the same choices -/
theorem pf_perm (hgn : ∀ n ∈ ak, n.1 < 7) (hnd : ∀ p w, p < 7 → w < 4 → ∀ n ∈ nd p w, n.1 < 7) : (px_L th nd bn ak).Perm ((pf_A th nd bn ak).map pd_enc) := by
  obtain ⟨h1, h2⟩ := px_L_spec (th := th) (bn := bn) hgn hnd
  rw [List.perm_ext_iff_of_nodup h1 pf_A_nodup]
  intro x
  rw [h2 x, List.mem_map]
  constructor
  · rintro ⟨c, k1, k2⟩; exact ⟨c, (pf_A_mem c).mpr k1, k2⟩
  · rintro ⟨c, k1, k2⟩; exact ⟨c, (pf_A_mem c).mp k1, k2⟩
theorem pf_ext_len : ∀ (k : Nat) (c : Nat → Nat), (pf_ext k c).length = 5 ^ k := by
  intro k
  induction k with
  | zero => intro c; rfl
  | succ k ih =>
    intro c
    unfold pf_ext
    rw [List.length_flatMap]
    simp only [ih]
    rw [show (List.range 5).reverse = [4, 3, 2, 1, 0] from rfl]
    simp only [List.map_cons, List.map_nil, List.sum_cons, List.sum_nil]
    rw [Nat.pow_succ]; omega
theorem pf_A_len : (pf_A th nd bn ak).length ≤ 78125 := by
  have h1 : (pf_A th nd bn ak).length ≤ (pf_rest 1 pf_c0).length := List.length_filter_le _ _
  have h2 : (pf_rest 1 pf_c0).length = 78125 := by
    show ((List.range 5).reverse.flatMap (fun v => pf_ext 6 (va_up pf_c0 0 v)) ++ []).length = _
    rw [List.append_nil, List.length_flatMap]
    simp only [pf_ext_len]
    rfl
  omega
end PO
