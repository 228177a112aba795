def sumS (g : Nat → Nat) : Nat → Nat
  | 0 => 0
  | n + 1 => sumS g n + g n
theorem sim_count : Sim_count Rel := by
  intro a1 u v h
  obtain ⟨th, nd, bn, ask, tc, kc, hX, hM, ⟨t1, t2, t3, t4, t5⟩, hC⟩ := id h
  have hR := h.si0 0
  have key0 : ∀ (m i : Nat), i ≤ 28 → 28 - i < m → l_M_count_54 m (nI (popS (fun j => th (j / 4) (j % 4)) i)) (nI i) (si v 0 0) = some (nI (popS (fun j => th (j / 4) (j % 4)) 28), si v 0 0) := by
    intro m
    induction m with
    | zero => intro i _ h; omega
    | succ m ih =>
      intro i hi hm
      show b_M_count_54 (l_M_count_54 m) _ (nI i) _ = _
      unfold b_M_count_54
      by_cases h7 : i = 28
      · subst h7; rw [if_pos (by decide)]
      · have hlt : i < 28 := by omega
        rw [if_neg (show ¬ (28 : Int32) ≤ nI i from nI_ge (b := 28) hlt (by decide))]
        have hin : inb (nI i) 28 = true := px_inb hlt (by decide)
        have hc : (nI i).toNatClampNeg = i := nI_clamp (by omega)
        have hv := hM.1.1 (i / 4) (i % 4) (by omega) (by omega)
        rw [show 4 * (i / 4) + i % 4 = i by omega] at hv
        have := ih (i + 1) (by omega) (by omega)
        simp only [hin, hc, ck_t, si_2, hv, nI_1]
        cases hth : th (i / 4) (i % 4) with
        | false =>
          rw [if_pos (show (if false = true then (1 : Int32) else 0) = 0 from rfl)]
          have e : popS (fun j => th (j / 4) (j % 4)) (i + 1) = popS (fun j => th (j / 4) (j % 4)) i := by
            show _ + (th (i / 4) (i % 4)).toNat = _
            rw [hth]; rfl
          rw [e] at this
          rw [show nI (popS (fun j => th (j / 4) (j % 4)) i) + 0 = nI (popS (fun j => th (j / 4) (j % 4)) i) by simp]; exact this
        | true =>
          rw [if_neg (by decide)]
          have e : popS (fun j => th (j / 4) (j % 4)) (i + 1) = popS (fun j => th (j / 4) (j % 4)) i + 1 := by
            show _ + (th (i / 4) (i % 4)).toNat = _
            rw [hth]; rfl
          rw [e] at this
          exact this
  have key1 : ∀ (m i : Nat), i ≤ 28 → 28 - i < m → l_M_count_87 m (nI (sumS (fun j => (nd (j / 4) (j % 4)).length) i)) (nI i) (si v 0 0) = some (nI (sumS (fun j => (nd (j / 4) (j % 4)).length) 28), si v 0 0) := by
    intro m
    induction m with
    | zero => intro i _ h; omega
    | succ m ih =>
      intro i hi hm
      show b_M_count_87 (l_M_count_87 m) _ (nI i) _ = _
      unfold b_M_count_87
      by_cases h7 : i = 28
      · subst h7; rw [if_pos (by decide)]
      · have hlt : i < 28 := by omega
        rw [if_neg (show ¬ (28 : Int32) ≤ nI i from nI_ge (b := 28) hlt (by decide))]
        have hin : inb (nI i) 28 = true := px_inb hlt (by decide)
        have hc : (nI i).toNatClampNeg = i := nI_clamp (by omega)
        have hv := (hM.1.2.1 (i / 4) (i % 4) (by omega) (by omega)).1
        rw [show 4 * (i / 4) + i % 4 = i by omega] at hv
        simp only [hin, hc, ck_t, si_2, hv, nI_1, nI_add]
        exact ih (i + 1) (by omega) (by omega)
  have key2 : ∀ (m i : Nat), i ≤ 28 → 28 - i < m → l_C_allNeeds_4 u m (nI (sumS (fun j => (nd (6 - j / 4) (j % 4)).length) i)) (nI i) = some (nI (sumS (fun j => (nd (6 - j / 4) (j % 4)).length) 28)) := by
    intro m
    induction m with
    | zero => intro i _ h; omega
    | succ m ih =>
      intro i hi hm
      show b_C_allNeeds_4 u (l_C_allNeeds_4 u m) _ (nI i) = _
      unfold b_C_allNeeds_4
      by_cases h7 : i = 28
      · subst h7; rw [if_pos (by decide)]
      · have hlt : i < 28 := by omega
        rw [if_neg (show ¬ (28 : Int32) ≤ nI i from nI_ge (b := 28) hlt (by decide))]
        have hin : inb (nI i) 28 = true := px_inb hlt (by decide)
        have hc : (nI i).toNatClampNeg = i := nI_clamp (by omega)
        obtain ⟨s1, s2, s3⟩ := pq_sl_of hlt
        have hv := hX.2.2.2.1 (6 - i / 4) (i % 4) s2 s3
        rw [← s1] at hv
        simp only [hin, hc, ck_t, hv, nI_1, nI_add]
        exact ih (i + 1) (by omega) (by omega)
  have sums : sumS (fun j => (nd (6 - j / 4) (j % 4)).length) 28 = sumS (fun j => (nd (j / 4) (j % 4)).length) 28 := by
    simp only [sumS]
    simp
    omega
  have key4 : ∀ (m i k : Nat), i ≤ 7 → 7 - i < m → l_M_count_122 m (nI k) (nI i) (si v 0 0) = some (nI (k + pc_cn (fun p => !decide (tc p = 0)) (7 - i)), si v 0 0) := by
    intro m
    induction m with
    | zero => intro i k _ h; omega
    | succ m ih =>
      intro i k hi hm
      show b_M_count_122 (l_M_count_122 m) (nI k) (nI i) _ = _
      unfold b_M_count_122
      by_cases h7 : i = 7
      · subst h7; rw [if_pos (by decide)]; rfl
      · have hlt : i < 7 := by omega
        rw [if_neg (show ¬ (7 : Int32) ≤ nI i from nI_ge (b := 7) hlt (by decide)), pc_cn_s _ hlt]
        have hin : inb (nI i) 7 = true := px_inb hlt (by decide)
        have hc : (nI i).toNatClampNeg = i := nI_clamp (by omega)
        have := t1.1 i hlt
        simp only [hin, hc, ck_t, si_2, (t5 i hlt).1, pm_m1 (show tc i < 2 ^ 30 by omega), nI_1]
        by_cases e : tc i = 0
        · rw [if_pos e]
          have := ih (i + 1) k (by omega) (by omega)
          rw [show nI k + 0 = nI k by simp, this]
          simp [e]
        · rw [if_neg e]
          have := ih (i + 1) (k + 1) (by omega) (by omega)
          rw [this]
          simp [e, Nat.add_assoc]
  have key5 : ∀ (m i k : Nat), i ≤ 7 → 7 - i < m → l_M_count_156 m (nI k) (nI i) (si v 0 0) = some (nI (k + pc_cn (fun p => !decide (kc p = 0)) (7 - i)), si v 0 0) := by
    intro m
    induction m with
    | zero => intro i k _ h; omega
    | succ m ih =>
      intro i k hi hm
      show b_M_count_156 (l_M_count_156 m) (nI k) (nI i) _ = _
      unfold b_M_count_156
      by_cases h7 : i = 7
      · subst h7; rw [if_pos (by decide)]; rfl
      · have hlt : i < 7 := by omega
        rw [if_neg (show ¬ (7 : Int32) ≤ nI i from nI_ge (b := 7) hlt (by decide)), pc_cn_s _ hlt]
        have hin : inb (nI i) 7 = true := px_inb hlt (by decide)
        have hc : (nI i).toNatClampNeg = i := nI_clamp (by omega)
        have := t2.1 i hlt
        simp only [hin, hc, ck_t, si_2, (t5 i hlt).2, pm_m1 (show kc i < 2 ^ 30 by omega), nI_1]
        by_cases e : kc i = 0
        · rw [if_pos e]
          have := ih (i + 1) k (by omega) (by omega)
          rw [show nI k + 0 = nI k by simp, this]
          simp [e]
        · rw [if_neg e]
          have := ih (i + 1) (k + 1) (by omega) (by omega)
          rw [this]
          simp [e, Nat.add_assoc]
  have hnf : ∀ n, n ≤ 28 → n < NF := fun n hn => show n < 1000000 by omega
  unfold f_X_count f_M_count
  by_cases h0 : a1 = 0
  · rw [if_pos h0, if_pos h0]
    exact ⟨_, si v 0 0, rfl, by rw [hX.2.2.1, pop_A]; exact key0 NF 0 (by omega) (hnf _ (by omega)), hR⟩
  rw [if_neg h0, if_neg h0]
  by_cases h1 : a1 = 1
  · rw [if_pos h1, if_pos h1]
    refine ⟨nI (sumS (fun j => (nd (j / 4) (j % 4)).length) 28), si v 0 0, ?_, key1 NF 0 (by omega) (hnf _ (by omega)), hR⟩
    unfold f_C_allNeeds
    have := key2 NF 0 (by omega) (hnf _ (by omega))
    rw [sums] at this
    rw [show l_C_allNeeds_4 u NF 0 0 = some (nI (sumS (fun j => (nd (j / 4) (j % 4)).length) 28)) from this]; rfl
  rw [if_neg h1, if_neg h1]
  by_cases h2 : a1 = 2
  · rw [if_pos h2, if_pos h2]
    exact ⟨u.1 4, si v 0 0, rfl, by rw [hX.2.2.2.2, hM.1.2.2.1.1], hR⟩
  rw [if_neg h2, if_neg h2]
  by_cases h3 : a1 = 3
  · rw [if_pos h3, if_pos h3]
    exact ⟨u.1 5, si v 0 0, rfl, by rw [hX.2.1.1, hM.1.2.2.2.1], hR⟩
  rw [if_neg h3, if_neg h3]
  by_cases h4 : a1 = 4
  · rw [if_pos h4, if_pos h4]
    refine ⟨_, si v 0 0, rfl, ?_, hR⟩
    rw [t3, pop_enc t1.1]
    have := key4 NF 0 0 (by omega) (hnf _ (by omega))
    rw [Nat.zero_add] at this; exact this
  rw [if_neg h4, if_neg h4]
  by_cases h5 : a1 = 5
  · rw [if_pos h5, if_pos h5]
    refine ⟨_, si v 0 0, rfl, ?_, hR⟩
    rw [t4, pop_enc t2.1]
    have := key5 NF 0 0 (by omega) (hnf _ (by omega))
    rw [Nat.zero_add] at this; exact this
  rw [if_neg h5, if_neg h5]
  by_cases h6 : a1 = 6
  · rw [if_pos h6, if_pos h6]
    refine ⟨_, si v 0 0, rfl, ?_, hR⟩
    rw [t3, t4, pc_diff t1.1 t2.1, rl_differ (tc := tc) (kc := kc) (v := si v 0 0) (fun p hp => ⟨t1.1 p hp, t2.1 p hp⟩) t5]; rfl
  rw [if_neg h6, if_neg h6]
  exact ⟨-1, si v 0 0, rfl, rfl, hR⟩
