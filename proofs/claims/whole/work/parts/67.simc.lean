theorem cr_bit (x : Int32) {k : Nat} (hk : k < 31) : (x >>> (nI k &&& 31)) &&& 1 = nI (bt x k).toNat := b_ext fun i hi => by
  rw [b_and, b_sshr k (by omega) x hi]
  have h1 : ∀ i, i < 32 → bt 1 i = decide (i = 0) := by decide +kernel
  rw [h1 i hi]
  by_cases e : i = 0
  · subst e
    rw [if_pos (by omega), Nat.add_zero]
    cases bt x k <;> rfl
  · have : bt (nI (bt x k).toNat) i = false := by
      cases bt x k
      · exact b_0 i
      · show bt 1 i = false
        rw [h1 i hi]; simp [e]
    rw [this]; simp [e]
theorem cr_wish {u v : PS} (hC : RC u v) {k : Nat} (hk : k < 6) : (u.1 2 &&& f_X_wishBit (nI k)) = 0 ↔ bt (v.1 5) k = false := by
  rw [px_wish k hk, px_bit0 _ (by omega), hC.1 (5 - k), show 5 - (5 - k) = k by omega]
  simp [show 5 - k < 6 by omega]
theorem cr_A {u v : PS} (hC : RC u v) {j : Nat} (hj : j < 2 ^ 31) : ∀ (m k b j' : Nat), k ≤ 6 → 6 - k < m → b + j' = j → b ≤ k →
    (∃ r, r < 6 ∧ l_X_core_4 u m (nI j) (nI b) (nI k) = some (nI r) ∧ l_M_core_4 m (nI j) (nI k) (nI j') v = b_M_core_42 (nI j) (nI r) v) ∨ (l_X_core_t_4 m (nI j) (nI b) (nI k) u = some (3, u) ∧ l_M_core_4 m (nI j) (nI k) (nI j') v = b_M_core_42 (nI j) (nI 6) v) := by
  intro m
  induction m with
  | zero => intro k b j' _ h; omega
  | succ m ih =>
    intro k b j' hk hm hbj hbk
    have e1 : l_X_core_4 u (m + 1) (nI j) (nI b) (nI k) = b_X_core_4 u (l_X_core_4 u m) (nI j) (nI b) (nI k) := rfl
    have e2 : l_X_core_t_4 (m + 1) (nI j) (nI b) (nI k) u = b_X_core_t_4 (l_X_core_t_4 m) (nI j) (nI b) (nI k) u := rfl
    have e3 : l_M_core_4 (m + 1) (nI j) (nI k) (nI j') v = b_M_core_4 (l_M_core_4 m) (nI j) (nI k) (nI j') v := rfl
    rw [e1, e2, e3]
    unfold b_X_core_4 b_X_core_t_4 b_M_core_4 b_M_core_25
    by_cases h6 : k = 6
    · subst h6
      exact Or.inr ⟨by rw [if_pos (by decide)], by rw [if_pos (by decide)]⟩
    have hk6 : k < 6 := by omega
    have n6 : ¬ (6 : Int32) ≤ nI k := nI_ge (b := 6) hk6 (by decide)
    rw [if_neg n6, if_neg n6, if_neg n6, cr_bit _ (by omega), nI_1, nI_1]
    have hw := cr_wish hC hk6
    cases hb : bt (v.1 5) k with
    | false =>
      rw [hb] at hw
      rw [if_pos (hw.mpr rfl), if_pos (hw.mpr rfl)]
      have hz : nI false.toNat = 0 := rfl
      rw [hz, if_pos rfl, show nI j' - 0 = nI j' by simp]
      have := ih (k + 1) b j' (by omega) (by omega) hbj (by omega)
      simpa using this
    | true =>
      rw [hb] at hw
      have hnz : ¬ (u.1 2 &&& f_X_wishBit (nI k)) = 0 := fun z => by have := hw.mp z; cases this
      rw [if_neg hnz, if_neg hnz]
      have hz : nI true.toNat = 1 := rfl
      rw [hz, if_neg (show ¬ (1 : Int32) = 0 by decide)]
      by_cases h0 : j' = 0
      · subst h0
        have : b = j := by omega
        subst this
        rw [if_pos rfl, if_neg (show ¬ (0 : Int32) < nI 0 by decide)]
        exact Or.inl ⟨k, hk6, rfl, rfl⟩
      · obtain ⟨q, rfl⟩ : ∃ q, j' = q + 1 := ⟨j' - 1, by omega⟩
        have hne : ¬ nI b = nI j := fun z => by have := (nI_eq (by omega) hj).mp z; omega
        have hp : (0 : Int32) < nI (q + 1) := nI_lt (a := 0) (by omega) (by omega)
        rw [if_neg hne, if_neg hne, if_pos hp, nI_pred]
        exact ih (k + 1) (b + 1) q (by omega) (by omega) (by omega) (by omega)
theorem cr_B {u : PS} {a1 : Int32} (ha : a1 < 0) : ∀ (m k b : Nat), k ≤ 6 → 6 - k < m → b ≤ k → l_X_core_t_4 m a1 (nI b) (nI k) u = some (3, u) := by
  intro m
  induction m with
  | zero => intro k b _ h; omega
  | succ m ih =>
    intro k b hk hm hb
    show b_X_core_t_4 (l_X_core_t_4 m) a1 (nI b) (nI k) u = _
    unfold b_X_core_t_4
    by_cases h6 : k = 6
    · subst h6; rw [if_pos (by decide)]
    rw [if_neg (show ¬ (6 : Int32) ≤ nI k from nI_ge (b := 6) (by omega) (by decide)), nI_1, nI_1]
    have hne : ¬ nI b = a1 := fun z => by
      rw [← z] at ha
      exact nI_pos (by omega) ha
    rw [if_neg hne]
    split
    · exact ih (k + 1) b (by omega) (by omega) (by omega)
    · exact ih (k + 1) (b + 1) (by omega) (by omega) (by omega)
theorem cr_Bm {v : PS} {a1 : Int32} (ha : a1 < 0) : ∀ (m k : Nat), k ≤ 6 → 6 - k < m → l_M_core_4 m a1 (nI k) a1 v = some (0, si v 0 1) := by
  have fin : ∀ x, b_M_core_42 a1 x v = some (0, si v 0 1) := fun x => by
    unfold b_M_core_42; rw [if_pos ha]; rfl
  intro m
  induction m with
  | zero => intro k _ h; omega
  | succ m ih =>
    intro k hk hm
    show b_M_core_4 (l_M_core_4 m) a1 (nI k) a1 v = _
    unfold b_M_core_4 b_M_core_25
    by_cases h6 : k = 6
    · subst h6; rw [if_pos (by decide)]; exact fin _
    have hn : ¬ 0 < a1 := by
      rw [Int32.lt_iff_toInt_lt] at ha ⊢
      have : (0 : Int32).toInt = 0 := rfl
      omega
    rw [if_neg (show ¬ (6 : Int32) ≤ nI k from nI_ge (b := 6) (by omega) (by decide)), if_neg hn, cr_bit _ (by omega), nI_1]
    cases hb : bt (v.1 5) k with
    | false =>
      have hz : nI false.toNat = 0 := rfl
      rw [hz, if_pos rfl, show a1 - 0 = a1 by simp]
      exact ih (k + 1) (by omega) (by omega)
    | true =>
      have hz : nI true.toNat = 1 := rfl
      rw [hz, if_neg (show ¬ (1 : Int32) = 0 by decide)]
      exact fin _
theorem sim_core : Sim_core Rel := by
  intro a1 u v h
  obtain ⟨th, nd, bn, ask, tc, kc, hX, hM, hT, hC⟩ := id h
  by_cases h0 : a1 < 0
  · refine Or.inr ⟨0, u, si v 0 1, ?_, ?_, rfl, h.si0 1⟩
    · exact cr_B h0 NF 0 0 (by omega) (show _ < 1000000 by omega) (by omega)
    · exact cr_Bm h0 NF 0 (by omega) (show _ < 1000000 by omega)
  · obtain ⟨j, hj, rfl⟩ := nI_of h0
    rcases cr_A hC hj NF 0 0 j (by omega) (show _ < 1000000 by omega) (by omega) (by omega) with ⟨r, hr, e1, e2⟩ | ⟨e1, e2⟩
    · refine Or.inl ⟨nI r, si v 0 0, e1, ?_, rfl, h.si0 0⟩
      refine (show f_M_core (nI j) v = _ from e2).trans ?_
      unfold b_M_core_42
      rw [if_neg h0, if_neg (fun z => by have := (nI_eq (a := r) (b := 6) (by omega) (by decide)).mp z; omega)]
      rfl
    · refine Or.inr ⟨0, u, si v 0 1, e1, ?_, rfl, h.si0 1⟩
      refine (show f_M_core (nI j) v = _ from e2).trans ?_
      unfold b_M_core_42
      rw [if_neg h0, if_pos (by decide)]
      rfl
theorem z_other {k : Nat} (h1 : k ≠ 12) (h2 : k ≠ 13) (j : Nat) : ∀ n, (pm_z n).2 k j = 0 := by
  intro n
  induction n with
  | zero => rfl
  | succ n ih =>
    show (sa (sa (pm_z n) 12 n (-1)) 13 n (-1)).2 k j = 0
    rw [sa_2, if_neg h2, sa_2, if_neg h1]; exact ih
theorem z_int (k : Nat) : ∀ n, (pm_z n).1 k = 0 := by
  intro n
  induction n with
  | zero => rfl
  | succ n ih => exact ih
theorem z_told : ∀ p, p < 7 → (pm_z 7).2 12 p = -1 ∧ (pm_z 7).2 13 p = -1 := by decide +kernel
theorem rel_start : Rel px_u0 (pm_z 7) := by
  have e0 : pd_enc (fun _ => 0) = 0 := by
    unfold pd_enc
    rw [pq_A_congr (t := fun _ _ => false) (fun p w _ _ => by simp)]; exact px_A0
  refine ⟨fun _ _ => false, fun _ _ => [], [], [], fun _ => 0, fun _ => 0, ⟨fun p w hp hw => ⟨?_, ?_, ?_⟩, ⟨rfl, by decide, fun i n hn => by simp at hn⟩, ?_, fun p w hp hw => rfl, rfl⟩, ⟨⟨fun p w hp hw => ?_, fun p w hp hw => ⟨?_, Nat.zero_le 4, fun k n hn => by simp at hn⟩, ⟨z_int 2 7, by decide, fun k b hb => by simp at hb⟩, z_int 1 7, by decide, fun i n hn => by simp at hn⟩, ⟨fun _ => 1, fun p hp => ⟨?_, show 1 ≤ 5 by decide⟩⟩, fun _ _ _ _ _ => rfl⟩, ⟨⟨fun _ _ => Nat.zero_le 4, fun _ _ => rfl⟩, ⟨fun _ _ => Nat.zero_le 4, fun _ _ => rfl⟩, e0.symm, e0.symm, fun p hp => ?_⟩, fun i => ?_, fun i _ => ?_⟩
  · exact px_M0.symm
  · exact px_A0.symm
  · exact px_A0.symm
  · exact px_A0.symm
  · rw [z_other (by decide) (by decide)]; rfl
  · rw [z_other (by decide) (by decide)]; rfl
  · rw [z_other (by decide) (by decide)]; exact (show (0 : Int32) = nI 1 - 1 by decide)
  · obtain ⟨a, b⟩ := z_told p hp
    rw [a, b]; exact ⟨(show (-1 : Int32) = nI 0 - 1 by decide), (show (-1 : Int32) = nI 0 - 1 by decide)⟩
  · show bt 0 i = (_ && bt ((pm_z 7).1 5) (5 - i))
    rw [z_int, b_0, b_0]; simp
  · rw [z_int]; exact b_0 i
