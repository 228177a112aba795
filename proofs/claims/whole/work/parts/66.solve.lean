set_option maxHeartbeats 1000000 in
theorem sim_solve : Sim_solve Rel := by
  intro a1 u v h
  have bad : (a1 < 0 ∨ nI 3 ≤ a1) → f_X_solve_t a1 u = some (1, u) ∧ f_M_solve a1 v = some (0, si v 0 1) := by
    intro hc
    by_cases h0 : a1 < 0
    · refine ⟨?_, ?_⟩
      · unfold f_X_solve_t; rw [if_pos h0]; rfl
      · unfold f_M_solve; rw [if_pos h0]; rfl
    · have h3 : (3 : Int32) ≤ a1 := hc.resolve_left h0
      refine ⟨?_, ?_⟩
      · unfold f_X_solve_t; rw [if_neg h0, if_neg (Int32.not_lt.mpr h3)]; rfl
      · unfold f_M_solve
        rw [if_neg h0, if_neg (fun z => ?_)]
        · rfl
        · rw [Int32.le_iff_toInt_le] at h3 z
          have : (3 : Int32).toInt = 3 := rfl
          have : (2 : Int32).toInt = 2 := rfl
          omega
  rcases pk_ix a1 (n := 3) (by decide) with h0 | h0 | ⟨a, ha, rfl⟩
  · exact Or.inr (Or.inl ⟨0, u, si v 0 1, (bad (Or.inl h0)).1, (bad (Or.inl h0)).2, rfl, h.si0 1⟩)
  · exact Or.inr (Or.inl ⟨0, u, si v 0 1, (bad (Or.inr h0)).1, (bad (Or.inr h0)).2, rfl, h.si0 1⟩)
  obtain ⟨th, nd, bn, ask, tc, kc, hX, hM, ⟨t1, t2, t3, t4, t5⟩, hC⟩ := id h
  obtain ⟨X, a1, a2, a3, a4⟩ := rs_all hX hM
  obtain ⟨u1, b1, b2, b3, b4⟩ := rs_tally hX hM X (nI a)
  obtain ⟨v1, c1, c2, c3⟩ := pf_begin hM.1 hM.2.1 (f_M_all v)
  rw [a4] at c3
  rw [a3, t4] at b2
  have hlen := rs_len hM (fun _ => true)
  have hmem := rs_mem hM (fun _ => true)
  have hle := pf_A_len (th := th) (nd := nd) (bn := bn) (ak := pd_sel ask (fun _ => true))
  have hwf : ∀ d ∈ pf_A th nd bn (pd_sel ask (fun _ => true)), pd_wf d := fun d hd => ((pf_A_mem d).mp hd).1
  obtain ⟨k', v', d1, d2, d3, d4⟩ := ms_26 (a := a) (by omega) t2.1 NF (pf_A th nd bn (pd_sel ask (fun _ => true))) [] v1 100 c3 (show _ < 1000000 by omega) pf_A_pw hwf (Or.inl ⟨rfl, rfl⟩) (fun p hp => by rw [c2.2 13 (by decide) (by decide)]; exact (t5 p hp).2)
  rw [List.nil_append] at d4
  have hA : ¬ nI a < 0 := nI_pos (by omega)
  have hA3 : nI a < 3 := nI_lt (b := 3) ha (by decide)
  have hA2 : nI a ≤ 2 := nI_le (b := 2) (by omega) (by decide)
  have hmod : f_M_solve (nI a) v = b_M_solve_86 (nI k') v' := by
    unfold f_M_solve
    rw [if_neg hA, if_pos hA2, c1, Option.bind_some]; exact d1
  have hX1 : RX th nd bn ask u1 := hX.fr (fun k hk => b3 k (by omega)) b4
  have fv : ∀ k, k ≠ 3 → k ≠ 4 → v'.1 k = v.1 k := fun k h3 h4 => (d2.1 k h4).trans (c2.1 k h3 h4)
  have fa : ∀ k, k ≠ 10 → k ≠ 11 → k ≠ 14 → v'.2 k = v.2 k := fun k h1 h2 h3 => (d2.2 k h1 h2 h3).trans (c2.2 k h1 h2)
  have hM1 : RM th nd bn ask v' := hM.fr ⟨fv 1 (by decide) (by decide), fv 2 (by decide) (by decide)⟩ (fun k hk => fa k (by omega) (by omega) (by omega)) d3
  rcases d4 with ⟨hnil, rfl⟩ | ⟨d0, hB, hk, h14⟩
  · -- there is no choice
    obtain ⟨t, b, u2, v2, g1, g2, g3, g4, g5, g6, g7, g8⟩ := core_same hX1 hM1 hnil
    refine Or.inr (Or.inr ⟨0, si u2 2 (nI t), si v2 0 2, ?_, ?_, rfl, th, nd, bn, ask, tc, kc, ?_, ?_, ⟨t1, t2, ?_, ?_, fun p hp => ?_⟩, ?_⟩)
    · unfold f_X_solve_t
      rw [if_neg hA, if_pos hA3, a1, Option.bind_some, b1, Option.bind_some]
      dsimp only
      rw [b2.2.2.1, hlen, hnil, if_pos (by decide), g1]; rfl
    · rw [hmod]
      unfold b_M_solve_86
      rw [if_pos (by decide), g3]; rfl
    · exact (g2.rx hX1).fr (fun k hk => by rw [si_1, if_neg (by omega)]) rfl
    · exact g6.fr ⟨rfl, rfl⟩ (fun _ _ => rfl) (pk_ex g6.2.1 rfl)
    · rw [si_1, if_neg (by decide), g2.1 0 (by decide), b3 0 (by decide)]; exact t3
    · rw [si_1, if_neg (by decide), g2.1 1 (by decide), b3 1 (by decide)]; exact t4
    · rw [si_2, g5.2 12 (by decide) (by decide), g5.2 13 (by decide) (by decide), fa 12 (by decide) (by decide) (by decide), fa 13 (by decide) (by decide) (by decide)]; exact t5 p hp
    · have hi : ∀ n, n < 64 → ∀ i, 6 ≤ i → bt (nI n) i = false := fun n hn i h6 => by
        by_cases h32 : i < 32
        · exact cf_hi n hn i h32 h6
        · exact b_big (by omega)
      refine ⟨fun i => ?_, fun i h6 => ?_⟩
      · rw [si_1, if_pos rfl, si_1, if_neg (by decide), g4, g8]
        by_cases h6 : i < 6
        · have := cf_bt b g7 (5 - i) (by omega)
          rw [show 5 - (5 - i) = i by omega] at this
          rw [this]; simp [h6]
        · rw [hi _ (cf_rv b g7).1 i (by omega)]; simp [h6]
      · rw [si_1, if_neg (by decide), g4]; exact hi b g7 i h6
  · -- the best
    have hcl := cst_le a kc d0
    have hne : pf_A th nd bn (pd_sel ask (fun _ => true)) ≠ [] := fun z => by rw [z] at hB; cases hB.1
    have hpos : 0 < (pf_A th nd bn (pd_sel ask (fun _ => true))).length := List.length_pos_iff.mpr hne
    have hneL : px_L th nd bn (pd_sel ask (fun _ => true)) ≠ [] := fun z => by rw [z] at hlen; simp at hlen; omega
    obtain ⟨-, -, s9, -, -, s12⟩ := b2
    obtain ⟨p1, p2, p3⟩ := s12 hneL
    obtain ⟨e0, he0, hee⟩ := (hmem _).mp p1
    have hw0 := hwf d0 hB.1
    have hBc : Best a kc (pf_A th nd bn (pd_sel ask (fun _ => true))) e0 := by
      refine ⟨he0, fun e he => ?_⟩
      have q := p3 (pd_enc e) ((hmem _).mpr ⟨e, he, rfl⟩)
      rw [p2, ← hee, ms_costX (by omega) t2.1 (hwf e0 he0).1, ms_costX (by omega) t2.1 (hwf e he).1] at q
      have l1 := cst_le a kc e0
      have l2 := cst_le a kc e
      rcases q with q | ⟨q1, q2⟩
      · exact Or.inl ((nI_ltI (by omega) (by omega)).mp q)
      · exact Or.inr ⟨(nI_eq (by omega) (by omega)).mp q1, q2⟩
    have heq := Best.uniq hwf hBc hB
    subst heq
    obtain ⟨v2, r1, r2, r3, r4⟩ := ms_112 (d := e0) hw0.1 NF 0 0 (si v' 0 0) (by omega) (show _ < 1000000 by omega) h14
    have hk100 : ¬ nI k' = 100 := fun z => by
      have := (nI_eq (a := k') (b := 100) (by omega) (by decide)).mp z
      omega
    refine Or.inl ⟨nI (pc_cn (fun p => !decide (e0 p = 0)) 7), si u1 0 (u1.1 12), v2, ?_, ?_, ?_, th, nd, bn, ask, e0, kc, ?_, ?_, ⟨hw0, t2, ?_, ?_, fun p hp => ?_⟩, ?_⟩
    · unfold f_X_solve
      rw [if_neg hA, if_pos hA3, a1, Option.bind_some, b1, Option.bind_some]
      dsimp only
      rw [s9, hlen, if_neg (nI_ne0 hpos (by omega)), ← hee, pop_enc hw0.1]
    · rw [hmod]
      unfold b_M_solve_86
      rw [if_neg hk100]
      have := r1
      rw [Nat.zero_add] at this
      exact this
    · show v2.1 0 = 0
      rw [r2]; rfl
    · exact hX1.fr (fun k hk => by rw [si_1, if_neg (by omega)]) rfl
    · exact hM1.fr ⟨by rw [r2]; rfl, by rw [r2]; rfl⟩ (fun k hk => by rw [r3 k (by omega)]; rfl) (pk_ex hM1.2.1 (by rw [r3 10 (by decide)]; rfl))
    · rw [si_1, if_pos rfl]; exact hee.symm
    · rw [si_1, if_neg (by decide), b3 1 (by decide)]; exact t4
    · rw [r4, if_pos ⟨by omega, hp⟩, r3 13 (by decide)]
      refine ⟨h14 p hp, ?_⟩
      show v'.2 13 p = _
      rw [fa 13 (by decide) (by decide) (by decide)]; exact (t5 p hp).2
    · refine hC.fr (by rw [si_1, if_neg (by decide), b3 2 (by decide)]) ?_
      rw [r2]
      show v'.1 5 = _
      exact fv 5 (by decide) (by decide)
