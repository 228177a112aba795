theorem rl_enc (d : Nat → Nat) {p w : Nat} (hp : p < 7) (hw : w < 4) : bt (pd_enc d) (pq_sl p w) = decide (d p = w + 1) := by
  unfold pd_enc pq_A
  rw [pq_bt, pq_sl_p hp hw, pq_sl_w hp hw]
  simp [pq_sl_lt hp hw]
theorem rl_place : ∀ p, p < 7 → f_X_placeOf (nI p) = nI (24 - 4 * p) := by decide +kernel
theorem rl_abs (d : Nat → Nat) {p : Nat} (hp : p < 7) (h4 : d p ≤ 4) : bt (pc_abs (pd_enc d)) (24 - 4 * p) = decide (d p = 0) := by
  unfold pc_abs pd_enc
  rw [pq_marks, b_and, pq_not _ (by omega), pq_bM _ (by omega)]
  unfold pq_M
  rw [pq_bt]
  have e1 : 6 - (24 - 4 * p) / 4 = p := by omega
  have e2 : (24 - 4 * p) % 4 = 0 := by omega
  have e3 : 24 - 4 * p < 28 := by omega
  rw [e1, e2]
  simp only [e3, decide_true, Bool.true_and]
  generalize d p = x at h4
  exact (by decide : ∀ x, x ≤ 4 → (!(decide (x = 0 + 1) || decide (x = 1 + 1) || decide (x = 2 + 1) || decide (x = 3 + 1))) = decide (x = 0)) x h4
theorem rl_15 : ∀ i, i < 32 → bt 15 i = decide (i < 4) := by decide +kernel
theorem rl_16 : ∀ i, i < 32 → bt 16 i = decide (i = 4) := by decide +kernel
theorem sim_can : Sim_can Rel := by
  intro a1 u v h
  rcases rl_pkg a1 with ⟨e1, e2⟩ | ⟨p, hp, rfl, e1, e2⟩
  · exact ⟨-1, u, si v 0 0, by unfold f_X_can; rw [if_pos e1], by unfold f_M_can; rw [if_pos e2], h.si0 0⟩
  obtain ⟨th, nd, bn, ask, tc, kc, hX, hM, hT, hC⟩ := id h
  have hM0 : RM th nd bn ask (si v 0 0) := hM.fr ⟨rfl, rfl⟩ (fun _ _ => rfl) (pk_ex hM.2.1 rfl)
  obtain ⟨X, a1, a2, a3, a4⟩ := rs_all hX hM0
  obtain ⟨u1, b1, b2, b3, b4⟩ := rs_tally hX hM0 X 0
  obtain ⟨v1, c1, c2, c3⟩ := pf_begin hM0.1 hM0.2.1 (f_M_all (si v 0 0))
  rw [a4] at c3
  rw [a3] at b2
  have hle := pf_A_len (th := th) (nd := nd) (bn := bn) (ak := pd_sel ask (fun _ => true))
  obtain ⟨r, v2, d1, d2, d3, d4⟩ := pf_can hp NF _ v1 0 c3 (show _ < 1000000 by omega)
  have hmem := rs_mem hM0 (fun _ => true)
  generalize hA : pf_A th nd bn (pd_sel ask (fun _ => true)) = A at *
  have hwf : ∀ d ∈ A, d p ≤ 4 := fun d hd => by
    rw [← hA] at hd
    exact ((pf_A_mem d).mp hd).1.1 p hp
  obtain ⟨-, -, -, s10, s11, -⟩ := b2
  have hseen : ∀ i, i < 4 → (bt (u1.1 10) (24 - 4 * p + i) = true ↔ ∃ d ∈ A, d p = i + 1) := by
    intro i hi
    rw [s10]
    constructor
    · rintro ⟨x, hx, hb⟩
      obtain ⟨d, hd, rfl⟩ := (hmem x).mp hx
      exact ⟨d, hd, of_decide_eq_true (by rw [← rl_enc d hp hi]; exact hb)⟩
    · rintro ⟨d, hd, e⟩
      exact ⟨pd_enc d, (hmem _).mpr ⟨d, hd, rfl⟩, by have := rl_enc d hp hi; rw [decide_eq_true e] at this; exact this⟩
  have habs : bt (u1.1 11) (24 - 4 * p) = true ↔ ∃ d ∈ A, d p = 0 := by
    rw [s11]
    constructor
    · rintro ⟨x, hx, hb⟩
      obtain ⟨d, hd, rfl⟩ := (hmem x).mp hx
      exact ⟨d, hd, of_decide_eq_true (by rw [← rl_abs d hp (hwf d hd)]; exact hb)⟩
    · rintro ⟨d, hd, e⟩
      exact ⟨pd_enc d, (hmem _).mpr ⟨d, hd, rfl⟩, by rw [rl_abs d hp (hwf d hd)]; exact decide_eq_true e⟩
  have hV : ∀ i, i < 32 → bt ((u1.1 10 >>> (nI (24 - 4 * p) &&& 31)) &&& 15) i = (decide (i < 4) && bt (u1.1 10) (24 - 4 * p + i)) := by
    intro i hi
    rw [b_and, b_sshr _ (by omega) _ hi, rl_15 i hi]
    by_cases h4 : i < 4
    · rw [if_pos (by omega)]; simp [h4]
    · simp [h4]
  have hmk : (u1.1 11 &&& f_X_markOf (nI p)) = 0 ↔ bt (u1.1 11) (24 - 4 * p) = false := by
    unfold f_X_markOf
    rw [rl_place p hp]
    exact px_bit0 _ (by omega)
  have hrb : ∀ i, i < 32 → (bt r i = true ↔ ∃ d ∈ A, i = (if d p = 0 then 4 else d p - 1)) := fun i hi => by
    rw [d4 i hi, b_0]
    exact ⟨fun k => k.elim (fun z => by cases z) id, Or.inr⟩
  refine ⟨r, u1, v2, ?_, ?_, ?_⟩
  · unfold f_X_can
    rw [e1, if_neg (by decide), a1, Option.bind_some, b1, Option.bind_some]
    dsimp only
    rw [rl_place p hp]
    by_cases hab : bt (u1.1 11) (24 - 4 * p) = true
    · rw [if_neg (fun z => by rw [hmk.mp z] at hab; cases hab)]
      congr 2
      refine b_ext fun i hi => ?_
      rw [Bool.eq_iff_iff, hrb i hi, b_or, hV i hi, rl_16 i hi, Bool.or_eq_true, Bool.and_eq_true, decide_eq_true_iff, decide_eq_true_iff]
      constructor
      · rintro (⟨k1, k2⟩ | rfl)
        · obtain ⟨d, hd, e⟩ := (hseen i k1).mp k2
          exact ⟨d, hd, by rw [if_neg (by omega)]; omega⟩
        · obtain ⟨d, hd, e⟩ := habs.mp hab
          exact ⟨d, hd, by rw [if_pos e]⟩
      · rintro ⟨d, hd, e⟩
        have := hwf d hd
        by_cases e0 : d p = 0
        · rw [if_pos e0] at e; exact Or.inr e
        · rw [if_neg e0] at e
          exact Or.inl ⟨by omega, (hseen i (by omega)).mpr ⟨d, hd, by omega⟩⟩
    · rw [if_pos (hmk.mpr (by simpa using hab))]
      congr 2
      refine b_ext fun i hi => ?_
      rw [Bool.eq_iff_iff, hrb i hi, hV i hi, Bool.and_eq_true, decide_eq_true_iff]
      constructor
      · rintro ⟨k1, k2⟩
        obtain ⟨d, hd, e⟩ := (hseen i k1).mp k2
        exact ⟨d, hd, by rw [if_neg (by omega)]; omega⟩
      · rintro ⟨d, hd, e⟩
        have := hwf d hd
        by_cases e0 : d p = 0
        · exact absurd (habs.mpr ⟨d, hd, e0⟩) hab
        · rw [if_neg e0] at e
          exact ⟨by omega, (hseen i (by omega)).mpr ⟨d, hd, by omega⟩⟩
  · unfold f_M_can
    rw [e2, if_neg (by decide), c1, Option.bind_some]
    exact d1
  · have f := c2.tr d2
    exact h.fr b3 b4 ⟨f.1 1 (by decide) (by decide), f.1 2 (by decide) (by decide), f.1 5 (by decide) (by decide)⟩ (fun k h1 h2 _ => f.2 k h1 h2) d3
/-- what the reference counts as differing -/
theorem rl_differ {tc kc : Nat → Nat} {v : PS} (ht : ∀ p, p < 7 → tc p ≤ 4 ∧ kc p ≤ 4) (hv : ∀ p, p < 7 → v.2 12 p = nI (tc p) - 1 ∧ v.2 13 p = nI (kc p) - 1) : f_M_differ v = some (nI (pc_cn (fun p => !decide (tc p = kc p)) 7)) := by
  have key : ∀ (m i k : Nat), i ≤ 7 → 7 - i < m → l_M_differ_4 v m (nI k) (nI i) = some (nI (k + pc_cn (fun p => !decide (tc p = kc p)) (7 - i))) := by
    intro m
    induction m with
    | zero => intro i k _ h; omega
    | succ m ih =>
      intro i k hi hm
      show b_M_differ_4 v (l_M_differ_4 v m) (nI k) (nI i) = _
      unfold b_M_differ_4
      by_cases h7 : i = 7
      · subst h7; rw [if_pos (by decide)]; rfl
      · have hlt : i < 7 := by omega
        rw [if_neg (show ¬ (7 : Int32) ≤ nI i from nI_ge (b := 7) hlt (by decide)), pc_cn_s _ hlt]
        have hin : inb (nI i) 7 = true := px_inb hlt (by decide)
        have hc : (nI i).toNatClampNeg = i := nI_clamp (by omega)
        obtain ⟨v1, v2⟩ := hv i hlt
        obtain ⟨t1, t2⟩ := ht i hlt
        simp only [hin, hc, ck_t, v1, v2, pm_eqq (show tc i < 2 ^ 30 by omega) (show kc i < 2 ^ 30 by omega), nI_1]
        by_cases e : tc i = kc i
        · rw [if_pos e]
          have := ih (i + 1) k (by omega) (by omega)
          rw [show nI k + 0 = nI k by simp, this]
          simp [e]
        · rw [if_neg e]
          have := ih (i + 1) (k + 1) (by omega) (by omega)
          rw [this]
          simp [e, Nat.add_assoc]
  have := key NF 0 0 (by omega) (by show _ < 1000000; omega)
  rw [Nat.zero_add] at this
  exact this
theorem sim_keep : Sim_keep Rel := by
  intro u v h
  obtain ⟨th, nd, bn, ask, tc, kc, hX, hM, ⟨t1, t2, t3, t4, t5⟩, hC⟩ := id h
  have hd := rl_differ (tc := tc) (kc := kc) (v := si v 0 0) (fun p hp => ⟨t1.1 p hp, t2.1 p hp⟩) t5
  have key : ∀ (m i : Nat) (x : Int32) (v : PS), i ≤ 7 → 7 - i < m → ∃ v', l_M_keep_12 m x (nI i) v = some (x, v') ∧ v'.1 = v.1 ∧ (∀ k, k ≠ 13 → v'.2 k = v.2 k) ∧ ∀ t, v'.2 13 t = if i ≤ t ∧ t < 7 then v.2 12 t else v.2 13 t := by
    intro m
    induction m with
    | zero => intro i x v _ h; omega
    | succ m ih =>
      intro i x v hi hm
      by_cases h7 : i = 7
      · subst h7
        refine ⟨v, ?_, rfl, fun _ _ => rfl, fun t => by rw [if_neg (by omega)]⟩
        show b_M_keep_12 (l_M_keep_12 m) x (nI 7) v = _
        unfold b_M_keep_12
        rw [if_pos (by decide)]
      · have hlt : i < 7 := by omega
        have hin : inb (nI i) 7 = true := px_inb hlt (by decide)
        have hc : (nI i).toNatClampNeg = i := nI_clamp (by omega)
        obtain ⟨v', k1, k2, k3, k4⟩ := ih (i + 1) x (sa v 13 i (v.2 12 i)) (by omega) (by omega)
        refine ⟨v', ?_, k2, fun k hk => ?_, fun t => ?_⟩
        · show b_M_keep_12 (l_M_keep_12 m) x (nI i) v = _
          unfold b_M_keep_12
          rw [if_neg (show ¬ (7 : Int32) ≤ nI i from nI_ge (b := 7) hlt (by decide))]
          simp only [hin, hc, ck_t, nI_1]
          exact k1
        · rw [k3 k hk]; funext t; rw [sa_2, if_neg hk]
        · have s12 : (sa v 13 i (v.2 12 i)).2 12 t = v.2 12 t := by simp [sa_2]
          have s13 : (sa v 13 i (v.2 12 i)).2 13 t = if t = i then v.2 12 i else v.2 13 t := by simp [sa_2]
          rw [k4, s12, s13]
          by_cases e : t = i
          · subst e; rw [if_neg (by omega), if_pos rfl, if_pos (by omega)]
          · by_cases hh : i + 1 ≤ t ∧ t < 7
            · rw [if_pos hh, if_pos (by omega)]
            · rw [if_neg hh, if_neg e, if_neg (by omega)]
  obtain ⟨v', k1, k2, k3, k4⟩ := key NF 0 (nI (pc_cn (fun p => !decide (tc p = kc p)) 7)) (si v 0 0) (by omega) (by show _ < 1000000; omega)
  refine ⟨nI (pc_cn (fun p => !decide (tc p = kc p)) 7), si u 1 (u.1 0), v', ?_, ?_, th, nd, bn, ask, tc, tc, ?_, ?_, ⟨t1, t1, ?_, ?_, fun p hp => ?_⟩, ?_⟩
  · unfold f_X_keep
    rw [t3, t4, pc_diff t1.1 t2.1]
  · unfold f_M_keep
    rw [hd, Option.bind_some]; exact k1
  · exact hX.fr (fun k hk => by rw [si_1, if_neg (by omega)]) rfl
  · exact hM.fr ⟨by rw [k2]; rfl, by rw [k2]; rfl⟩ (fun k hk => by rw [k3 k (by omega)]; rfl) (pk_ex hM.2.1 (by rw [k3 10 (by decide)]; rfl))
  · rw [si_1, if_neg (by decide)]; exact t3
  · rw [si_1, if_pos rfl]; exact t3
  · rw [k4, if_pos ⟨by omega, hp⟩, k3 12 (by decide)]
    exact ⟨(t5 p hp).1, (t5 p hp).1⟩
  · exact hC.fr (by rw [si_1, if_neg (by decide)]) (by rw [k2]; rfl)
theorem sim_chosen : Sim_chosen Rel := by
  intro a1 u v h
  rcases rl_pkg a1 with ⟨e1, e2⟩ | ⟨p, hp, rfl, e1, e2⟩
  · exact ⟨-1, si v 0 0, by unfold f_X_chosen; rw [if_pos e1], by unfold f_M_chosen; rw [if_pos e2], h.si0 0⟩
  obtain ⟨th, nd, bn, ask, tc, kc, hX, hM, ⟨t1, t2, t3, t4, t5⟩, hC⟩ := id h
  have hin : inb (nI p) 7 = true := px_inb hp (by decide)
  have hc : (nI p).toNatClampNeg = p := nI_clamp (by omega)
  have key : ∀ (m w : Nat), w ≤ 4 → 4 - w < m → (tc p = 0 ∨ w + 1 ≤ tc p) → l_X_chosen_11 u m (nI p) (nI w) = some (nI (tc p) - 1) := by
    intro m
    induction m with
    | zero => intro w _ h; omega
    | succ m ih =>
      intro w hw hm ht
      show b_X_chosen_11 u (l_X_chosen_11 u m) (nI p) (nI w) = _
      unfold b_X_chosen_11
      have hle := t1.1 p hp
      by_cases h4 : w = 4
      · subst h4
        rw [if_pos (by decide)]
        have : tc p = 0 := by omega
        rw [this]; rfl
      · have hw4 : w < 4 := by omega
        rw [if_neg (show ¬ (4 : Int32) ≤ nI w from nI_ge (b := 4) hw4 (by decide)), t3, rl_slot p hp w hw4]
        by_cases e : tc p = w + 1
        · rw [if_neg (fun z => ?_), e, nI_pred]
          have := (px_hold (fun p w => decide (tc p = w + 1)) hp hw4).mp z
          simp [e] at this
        · rw [if_pos (show f_X_holds (pd_enc tc) (nI (pq_sl p w)) = 0 from (px_hold (fun p w => decide (tc p = w + 1)) hp hw4).mpr (by simpa using e)), nI_1]
          exact ih (w + 1) (by omega) (by omega) (by omega)
  refine ⟨nI (tc p) - 1, si v 0 0, ?_, ?_, h.si0 0⟩
  · unfold f_X_chosen
    rw [e1, if_neg (by decide)]
    exact key NF 0 (by omega) (by show _ < 1000000; omega) (by omega)
  · unfold f_M_chosen
    rw [e2, if_neg (by decide)]
    simp only [hin, hc, ck_t, (t5 p hp).1]
