theorem ck_t {α : Type} (k : Option α) : ck true k = k := rfl
theorem sim_version : Sim_version Rel := by
  intro a1 a2 u v h
  rcases rl_ver a1 a2 with ⟨e1, e2⟩ | ⟨p, w, hp, hw, rfl, rfl, e1, e2⟩
  · exact ⟨0, u, si v 0 0, by unfold f_X_version; rw [if_pos e1], by unfold f_M_version; rw [if_pos e2], h.si0 0⟩
  obtain ⟨th, nd, bn, ask, tc, kc, hX, hM, hT, hC⟩ := id h
  have hs := pq_sl_lt hp hw
  have hi : inb (nI (4 * p + w)) 28 = true := px_inb (by omega) (by decide)
  have hcl : (nI (4 * p + w)).toNatClampNeg = 4 * p + w := nI_clamp (by omega)
  cases ht : th p w with
  | true =>
    refine ⟨0, u, si v 0 0, ?_, ?_, h.si0 0⟩
    · unfold f_X_version f_C_add
      rw [e1, rl_slot p hp w hw, rl_isSlot _ hs, rl_has hX.2.2.1 hp hw, ht]; rfl
    · unfold f_M_version
      simp only [e2, pm_4, hi, hcl, ck_t, hM.1.1 p w hp hw, ht]; rfl
  | false =>
    refine ⟨1, si u 3 (u.1 3 ||| (1 : Int32) <<< (nI (pq_sl p w) &&& 31)), sa (sa (si v 0 0) 0 (4 * p + w) 1) 1 (4 * p + w) 0, ?_, ?_, fun q z => th q z || (decide (q = p) && decide (z = w)), nd, bn, ask, tc, kc, ?_, ⟨?_, ?_, ?_⟩, ?_, ?_⟩
    · unfold f_X_version f_C_add
      rw [e1, rl_slot p hp w hw, rl_isSlot _ hs, rl_has hX.2.2.1 hp hw, ht]; rfl
    · unfold f_M_version
      simp only [e2, pm_4, hi, hcl, ck_t, hM.1.1 p w hp hw, ht]; rfl
    · obtain ⟨x1, x2, x3, x4, x5⟩ := hX
      refine ⟨x1, x2, ?_, x4, x5⟩
      show u.1 3 ||| _ = _
      rw [x3, pq_A_one hp hw, pq_A_or]
    · obtain ⟨m1, m2, m3, m4⟩ := hM.1
      refine ⟨fun q z hq hz => ?_, fun q z hq hz => ?_, m3, m4⟩
      · dsimp only
        rw [sa_2, if_neg (by decide), sa_2, if_pos rfl, si_2, m1 q z hq hz]
        by_cases e : 4 * q + z = 4 * p + w
        · obtain ⟨rfl, rfl⟩ := (rl_48 hw hz).mp e
          simp
        · rw [if_neg e]
          have : ¬ (q = p ∧ z = w) := fun k => e ((rl_48 hw hz).mpr k)
          have e3 : (decide (q = p) && decide (z = w)) = false := by simpa using this
          simp only [e3, Bool.or_false]
      · obtain ⟨k1, k2, k3⟩ := m2 q z hq hz
        refine ⟨?_, k2, k3⟩
        rw [sa_2, if_pos rfl]
        by_cases e : 4 * q + z = 4 * p + w
        · obtain ⟨rfl, rfl⟩ := (rl_48 hw hz).mp e
          rw [if_pos rfl, hM.2.2 q z hq hz ht]; rfl
        · rw [if_neg e]; exact k1
    · exact pk_ex hM.2.1 rfl
    · intro q z hq hz hf
      have := Bool.or_eq_false_iff.mp hf
      exact hM.2.2 q z hq hz this.1
    · exact hT.fr ⟨rfl, rfl⟩ ⟨rfl, rfl⟩
    · exact hC.fr rfl rfl
theorem sim_drop : Sim_drop Rel := by
  intro a1 a2 u v h
  rcases rl_ver a1 a2 with ⟨e1, e2⟩ | ⟨p, w, hp, hw, rfl, rfl, e1, e2⟩
  · exact ⟨0, u, si v 0 0, by unfold f_X_drop; rw [if_pos e1], by unfold f_M_drop; rw [if_pos e2], h.si0 0⟩
  obtain ⟨th, nd, bn, ask, tc, kc, hX, hM, hT, hC⟩ := id h
  have hs := pq_sl_lt hp hw
  have hi : inb (nI (4 * p + w)) 28 = true := px_inb (by omega) (by decide)
  have hcl : (nI (4 * p + w)).toNatClampNeg = 4 * p + w := nI_clamp (by omega)
  have hi2 : inb (nI (pq_sl p w)) 28 = true := px_inb hs (by decide)
  have hcl2 : (nI (pq_sl p w)).toNatClampNeg = pq_sl p w := nI_clamp (by omega)
  cases ht : th p w with
  | false =>
    refine ⟨0, u, si v 0 0, ?_, ?_, h.si0 0⟩
    · unfold f_X_drop f_C_remove
      rw [e1, rl_slot p hp w hw, rl_has hX.2.2.1 hp hw, ht]; rfl
    · unfold f_M_drop
      simp only [e2, pm_4, hi, hcl, ck_t, hM.1.1 p w hp hw, ht]; rfl
  | true =>
    refine ⟨1, sa (sa (sa (si u 3 ((u.1 3) &&& (((1 : Int32) <<< (nI (pq_sl p w) &&& 31)) ^^^ (-1 : Int32)))) 0 (pq_sl p w) 0) 1 (pq_sl p w) 0) 2 (pq_sl p w) 0, sa (sa (si v 0 0) 0 (4 * p + w) 0) 1 (4 * p + w) 0, ?_, ?_, fun q z => th q z && !(decide (q = p) && decide (z = w)), fun q z => if q = p ∧ z = w then [] else nd q z, bn, ask, tc, kc, ?_, ⟨?_, ?_, ?_⟩, ?_, ?_⟩
    · unfold f_X_drop f_C_remove
      simp only [e1, rl_slot p hp w hw, rl_has hX.2.2.1 hp hw, ht, hi2, hcl2, ck_t]; rfl
    · unfold f_M_drop
      simp only [e2, pm_4, hi, hcl, ck_t, hM.1.1 p w hp hw, ht]; rfl
    · obtain ⟨x1, x2, x3, x4, x5⟩ := hX
      refine ⟨fun q z hq hz => ?_, x2, ?_, fun q z hq hz => ?_, x5⟩
      · obtain ⟨k1, k2, k3⟩ := x1 q z hq hz
        have hinj := pq_sl_inj hq hz hp hw
        refine ⟨?_, ?_, ?_⟩
        · dsimp only
          rw [sa_2, if_neg (by decide), sa_2, if_pos rfl]
          by_cases e : q = p ∧ z = w
          · rw [if_pos (hinj.mpr e), if_pos e]; exact px_M0.symm
          · rw [if_neg (fun k => e (hinj.mp k)), if_neg e]; exact k1
        · dsimp only
          rw [sa_2, if_pos rfl]
          by_cases e : q = p ∧ z = w
          · rw [if_pos (hinj.mpr e), if_pos e]; exact px_A0.symm
          · rw [if_neg (fun k => e (hinj.mp k)), if_neg e]; exact k2
        · exact k3
      · show u.1 3 &&& _ = _
        rw [x3, pq_A_one hp hw, pq_A_andn]
      · have hinj := pq_sl_inj hq hz hp hw
        dsimp only
        rw [sa_2, if_neg (by decide), sa_2, if_neg (by decide), sa_2, if_pos rfl]
        by_cases e : q = p ∧ z = w
        · rw [if_pos (hinj.mpr e), if_pos e]; rfl
        · rw [if_neg (fun k => e (hinj.mp k)), if_neg e]; exact x4 q z hq hz
    · obtain ⟨m1, m2, m3, m4⟩ := hM.1
      refine ⟨fun q z hq hz => ?_, fun q z hq hz => ?_, m3, m4⟩
      · dsimp only
        rw [sa_2, if_neg (by decide), sa_2, if_pos rfl, si_2, m1 q z hq hz]
        by_cases e : 4 * q + z = 4 * p + w
        · obtain ⟨rfl, rfl⟩ := (rl_48 hw hz).mp e
          simp
        · rw [if_neg e]
          have : ¬ (q = p ∧ z = w) := fun k => e ((rl_48 hw hz).mpr k)
          have e3 : (decide (q = p) && decide (z = w)) = false := by simpa using this
          simp only [e3, Bool.not_false, Bool.and_true]
      · obtain ⟨k1, k2, k3⟩ := m2 q z hq hz
        dsimp only
        rw [sa_2, if_pos rfl]
        by_cases e : 4 * q + z = 4 * p + w
        · have e2 := (rl_48 hw hz).mp e
          rw [if_pos e, if_pos e2]
          exact ⟨rfl, by simp, fun k n hn => by simp at hn⟩
        · have : ¬ (q = p ∧ z = w) := fun k => e ((rl_48 hw hz).mpr k)
          rw [if_neg e, if_neg this]; exact ⟨k1, k2, k3⟩
    · exact pk_ex hM.2.1 rfl
    · intro q z hq hz hf
      dsimp only at hf ⊢
      by_cases e : q = p ∧ z = w
      · rw [if_pos e]
      · rw [if_neg e]
        have e3 : (decide (q = p) && decide (z = w)) = false := by simpa using e
        rw [e3] at hf
        exact hM.2.2 q z hq hz (by simpa using hf)
    · exact hT.fr ⟨rfl, rfl⟩ ⟨rfl, rfl⟩
    · exact hC.fr rfl rfl
