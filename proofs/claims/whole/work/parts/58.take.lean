theorem tk_x {N : Nat} (hN : N ≤ 5) : ∀ (m j : Nat) (u : PS), u.1 5 = nI N → N - j < m → j ≤ N → ∃ u', l_W_remove_26 m (nI j) u = some (1, u') ∧ u'.1 = u.1 ∧ ∀ k t, u'.2 k t = if (k = 4 ∨ k = 5) ∧ j ≤ t ∧ t < N then u.2 k (t + 1) else u.2 k t := by
  intro m
  induction m with
  | zero => intro j u _ h; omega
  | succ m ih =>
    intro j u h5 hm hj
    by_cases hle : N ≤ j
    · refine ⟨u, ?_, rfl, fun k t => ?_⟩
      · show b_W_remove_26 (l_W_remove_26 m) (nI j) u = _
        unfold b_W_remove_26
        rw [h5, if_pos (nI_le hle (by omega))]
      · rw [if_neg (by omega)]
    · obtain ⟨u', e1, e2, e3⟩ := ih (j + 1) (sa (sa u 4 j (u.2 4 (j + 1))) 5 j (u.2 5 (j + 1))) h5 (by omega) (by omega)
      refine ⟨u', ?_, e2, fun k t => ?_⟩
      · show b_W_remove_26 (l_W_remove_26 m) (nI j) u = _
        unfold b_W_remove_26
        have hi : inb (nI j) 6 = true := px_inb (by omega) (by decide)
        have hi1 : inb (nI (j + 1)) 6 = true := px_inb (by omega) (by decide)
        have c1 : (nI j).toNatClampNeg = j := nI_clamp (by omega)
        have c2 : (nI (j + 1)).toNatClampNeg = j + 1 := nI_clamp (by omega)
        simp only [h5, if_neg (nI_ge (show j < N by omega) (by omega)), nI_1, hi, hi1, ck_t, c1, c2]
        exact e1
      · have key : ∀ z, (sa (sa u 4 j (u.2 4 (j + 1))) 5 j (u.2 5 (j + 1))).2 k z = if (k = 4 ∨ k = 5) ∧ z = j then u.2 k (z + 1) else u.2 k z := by
          intro z
          simp only [sa_2]
          by_cases hz : z = j
          · subst hz
            by_cases h4 : k = 4
            · subst h4; simp
            · by_cases h5' : k = 5
              · subst h5'; simp
              · simp [h4, h5']
          · simp only [hz, and_false, if_false]
            by_cases h4 : k = 4
            · subst h4; simp
            · by_cases h5' : k = 5
              · subst h5'; simp
              · simp [h4, h5']
        rw [e3, key, key]
        by_cases hk : k = 4 ∨ k = 5
        · simp only [hk, true_and]
          by_cases ht : t = j
          · subst ht; rw [if_neg (by omega), if_pos rfl, if_pos (by omega)]
          · by_cases hh : j + 1 ≤ t ∧ t < N
            · rw [if_pos hh, if_neg (by omega), if_pos (by omega)]
            · rw [if_neg hh, if_neg ht, if_neg (by omega)]
        · simp [hk]
theorem tk_m {N : Nat} (hN : N ≤ 5) : ∀ (m j : Nat) (v : PS), v.1 1 = nI (N + 1) → N - j < m → j ≤ N → ∃ v', l_M_take_21 m (nI j) v = some (1, v') ∧ v'.1 1 = nI N ∧ (∀ k, k ≠ 1 → v'.1 k = v.1 k) ∧ ∀ k t, v'.2 k t = if (k = 5 ∨ k = 6 ∨ k = 7) ∧ j ≤ t ∧ t < N then v.2 k (t + 1) else v.2 k t := by
  intro m
  induction m with
  | zero => intro j v _ h; omega
  | succ m ih =>
    intro j v h5 hm hj
    by_cases hle : N ≤ j
    · refine ⟨si v 1 (nI N), ?_, rfl, fun k hk => by rw [si_1, if_neg hk], fun k t => ?_⟩
      · show b_M_take_21 (l_M_take_21 m) (nI j) v = _
        unfold b_M_take_21
        rw [h5, nI_1, if_pos (nI_le (show N + 1 ≤ j + 1 by omega) (by omega)), nI_pred]
      · rw [if_neg (by omega)]; rfl
    · obtain ⟨v', e1, e2, e4, e3⟩ := ih (j + 1) (sa (sa (sa v 5 j (v.2 5 (j + 1))) 6 j (v.2 6 (j + 1))) 7 j (v.2 7 (j + 1))) h5 (by omega) (by omega)
      refine ⟨v', ?_, e2, e4, fun k t => ?_⟩
      · show b_M_take_21 (l_M_take_21 m) (nI j) v = _
        unfold b_M_take_21
        have hi : inb (nI j) 6 = true := px_inb (by omega) (by decide)
        have hi1 : inb (nI (j + 1)) 6 = true := px_inb (by omega) (by decide)
        have c1 : (nI j).toNatClampNeg = j := nI_clamp (by omega)
        have c2 : (nI (j + 1)).toNatClampNeg = j + 1 := nI_clamp (by omega)
        simp only [h5, nI_1, if_neg (nI_ge (show j + 1 < N + 1 by omega) (by omega)), hi, hi1, ck_t, c1, c2]
        exact e1
      · have key : ∀ z, (sa (sa (sa v 5 j (v.2 5 (j + 1))) 6 j (v.2 6 (j + 1))) 7 j (v.2 7 (j + 1))).2 k z = if (k = 5 ∨ k = 6 ∨ k = 7) ∧ z = j then v.2 k (z + 1) else v.2 k z := by
          intro z
          simp only [sa_2]
          by_cases hz : z = j
          · subst hz
            by_cases h5' : k = 5
            · subst h5'; simp
            · by_cases h6 : k = 6
              · subst h6; simp
              · by_cases h7 : k = 7
                · subst h7; simp
                · simp [h5', h6, h7]
          · simp only [hz, and_false, if_false]
            by_cases h5' : k = 5
            · subst h5'; simp
            · by_cases h6 : k = 6
              · subst h6; simp
              · by_cases h7 : k = 7
                · subst h7; simp
                · simp [h5', h6, h7]
        rw [e3, key, key]
        by_cases hk : k = 5 ∨ k = 6 ∨ k = 7
        · simp only [hk, true_and]
          by_cases ht : t = j
          · subst ht; rw [if_neg (by omega), if_pos rfl, if_pos (by omega)]
          · by_cases hh : j + 1 ≤ t ∧ t < N
            · rw [if_pos hh, if_neg (by omega), if_pos (by omega)]
            · rw [if_neg hh, if_neg ht, if_neg (by omega)]
        · simp [hk]
theorem isb0 : isB 0 = true := decide_eq_true rfl
theorem isb1 : isB 1 = true := decide_eq_true rfl
theorem sim_take : Sim_take Rel := by
  intro a1 u v h
  obtain ⟨th, nd, bn, ask, tc, kc, hX, hM, hT, hC⟩ := id h
  obtain ⟨m1, m2, m3, m41, m42, m43⟩ := hM.1
  obtain ⟨x1, ⟨x21, x22, x23⟩, x3, x4, x5⟩ := hX
  have nop : (a1 < 0 ∨ nI ask.length ≤ a1) → ∃ (r : Int32) (u1 v1 : PS), f_X_take a1 u = some (r, u1) ∧ f_M_take a1 v = some (r, v1) ∧ Rel u1 v1 := by
    intro hc
    refine ⟨0, u, si v 0 0, ?_, ?_, h.si0 0⟩
    · unfold f_X_take f_W_remove
      rw [x21]
      by_cases h0 : a1 < 0
      · rw [if_pos h0, Option.bind_some, isb0]; rfl
      · have h1 : ¬ a1 < nI ask.length := Int32.not_lt.mpr (hc.resolve_left h0)
        rw [if_neg h0, if_neg h1, Option.bind_some, isb0]; rfl
    · unfold f_M_take
      rw [m41]
      by_cases h0 : a1 < 0
      · rw [if_pos h0]
      · have h1 : ¬ a1 < nI ask.length := Int32.not_lt.mpr (hc.resolve_left h0)
        rw [if_neg h0, if_neg h1]
  rcases pk_ix a1 (n := ask.length) (by omega) with h0 | h0 | ⟨i, hi, rfl⟩
  · exact nop (Or.inl h0)
  · exact nop (Or.inr h0)
  obtain ⟨N, hN⟩ : ∃ N, ask.length = N + 1 := ⟨ask.length - 1, by omega⟩
  have e5 : (si u 5 (u.1 5 - 1)).1 5 = nI N := by rw [si_1, if_pos rfl, x21, hN, nI_pred]
  obtain ⟨u', a1', a2, a3⟩ := tk_x (N := N) (by omega) NF i (si u 5 (u.1 5 - 1)) e5 (show N - i < 1000000 by omega) (by omega)
  obtain ⟨v', b1, b2, b4, b3⟩ := tk_m (N := N) (by omega) NF i (si v 0 0) (by rw [si_1, if_neg (by decide), m41, hN]) (show N - i < 1000000 by omega) (by omega)
  have hget : ∀ t, (ask.eraseIdx i)[t]? = if t < i then ask[t]? else ask[t + 1]? := fun t => List.getElem?_eraseIdx ..
  have hlen : (ask.eraseIdx i).length = N := by rw [List.length_eraseIdx, if_pos hi]; omega
  have u1k : ∀ k, k ≠ 5 → u'.1 k = u.1 k := fun k hk => by rw [a2, si_1, if_neg hk]
  refine ⟨1, u', v', ?_, ?_, th, nd, bn, ask.eraseIdx i, tc, kc, ?_, ⟨?_, ?_, hM.2.2⟩, ?_, ?_⟩
  · unfold f_X_take f_W_remove
    rw [x21, if_neg (nI_pos (by omega)), if_pos (nI_lt hi (by omega)), ← x21, a1', Option.bind_some, isb1]; rfl
  · unfold f_M_take
    rw [m41, if_neg (nI_pos (by omega)), if_pos (nI_lt hi (by omega)), b1]
  · refine ⟨fun p w hp hw => ?_, ⟨?_, ?_, fun t n hn => ?_⟩, ?_, fun p w hp hw => ?_, ?_⟩
    · rw [a3, a3, a3, if_neg (by omega), if_neg (by omega), if_neg (by omega)]; exact x1 p w hp hw
    · rw [a2, e5, hlen]
    · omega
    · rw [hget] at hn
      rw [a3, a3]
      by_cases ht : t < i
      · rw [if_pos ht] at hn
        rw [if_neg (by omega), if_neg (by omega)]
        exact x23 t n hn
      · rw [if_neg ht] at hn
        have := (List.getElem?_eq_some_iff.mp hn).1
        rw [if_pos ⟨Or.inl rfl, by omega⟩, if_pos ⟨Or.inr rfl, by omega⟩]
        exact x23 (t + 1) n hn
    · rw [u1k 3 (by decide)]; exact x3
    · rw [a3, if_neg (by omega)]; exact x4 p w hp hw
    · rw [u1k 4 (by decide)]; exact x5
  · refine ⟨fun p w hp hw => ?_, fun p w hp hw => ?_, ⟨?_, m3.2.1, fun k b hb => ?_⟩, ?_, ?_, fun t n hn => ?_⟩
    · rw [b3, if_neg (by omega)]; exact m1 p w hp hw
    · obtain ⟨k1, k2, k3⟩ := m2 p w hp hw
      refine ⟨by rw [b3, if_neg (by omega)]; exact k1, k2, fun k n hn => ?_⟩
      rw [b3, b3, b3, if_neg (by omega), if_neg (by omega), if_neg (by omega)]; exact k3 k n hn
    · rw [b4 2 (by decide)]; exact m3.1
    · rw [b3, b3, if_neg (by omega), if_neg (by omega)]; exact m3.2.2 k b hb
    · rw [b2, hlen]
    · omega
    · rw [hget] at hn
      rw [b3, b3, b3]
      by_cases ht : t < i
      · rw [if_pos ht] at hn
        rw [if_neg (by omega), if_neg (by omega), if_neg (by omega)]
        exact m43 t n hn
      · rw [if_neg ht] at hn
        have := (List.getElem?_eq_some_iff.mp hn).1
        rw [if_pos ⟨Or.inl rfl, by omega⟩, if_pos ⟨Or.inr (Or.inl rfl), by omega⟩, if_pos ⟨Or.inr (Or.inr rfl), by omega⟩]
        exact m43 (t + 1) n hn
  · exact pk_ex hM.2.1 (by funext t; rw [b3, if_neg (by omega)]; rfl)
  · exact hT.fr ⟨u1k 0 (by decide), u1k 1 (by decide)⟩ ⟨by funext t; rw [b3, if_neg (by omega)]; rfl, by funext t; rw [b3, if_neg (by omega)]; rfl⟩
  · exact hC.fr (u1k 2 (by decide)) (b4 5 (by decide))
