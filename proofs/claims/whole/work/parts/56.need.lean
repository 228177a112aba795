theorem rl_want (l : List pd_N) (n : pd_N) (q : Nat) : pd_want (l ++ [n]) q = (pd_want l q || decide (q = n.1)) := by
  unfold pd_want
  rw [List.any_append]
  simp [eq_comm, Bool.beq_eq_decide_eq]
theorem rl_unm (l : List pd_N) (n : pd_N) (q z : Nat) : pd_unm (l ++ [n]) q z = (pd_unm l q z || (decide (q = n.1) && !(decide (n.2.1 ≤ z) && decide (z ≤ n.2.2)))) := by
  unfold pd_unm
  rw [List.any_append]
  have e : (n.1 == q) = decide (q = n.1) := by
    rw [Bool.eq_iff_iff, beq_iff_eq, decide_eq_true_iff]; exact eq_comm
  rw [List.any_cons, List.any_nil, Bool.or_false, e]
theorem rl_ap {α : Type} {l : List α} {x n : α} {k : Nat} (h : (l ++ [x])[k]? = some n) : (k < l.length ∧ l[k]? = some n) ∨ (k = l.length ∧ n = x) := by
  by_cases hk : k < l.length
  · rw [List.getElem?_append_left hk] at h; exact Or.inl ⟨hk, h⟩
  · rw [List.getElem?_append_right (by omega)] at h
    have hz := (List.getElem?_eq_some_iff.mp h).1
    simp at hz
    have e : k - l.length = 0 := by omega
    rw [e] at h
    exact Or.inr ⟨by omega, by simpa using h.symm⟩
set_option maxHeartbeats 1000000 in
theorem sim_need : Sim_need Rel := by
  intro a1 a2 a3 a4 a5 u v h
  rcases rl_ver a1 a2 with ⟨e1, e2⟩ | ⟨p, w, hp, hw, rfl, rfl, e1, e2⟩
  · exact ⟨0, u, si v 0 0, by unfold f_X_need; rw [if_pos e1], by unfold f_M_need; rw [if_pos e2], h.si0 0⟩
  rcases rl_need a3 a4 a5 with ⟨g1, g2⟩ | ⟨n, hn, rfl, rfl, rfl, g1, g2⟩
  · exact ⟨0, u, si v 0 0, by unfold f_X_need; rw [e1, g1]; rfl, by unfold f_M_need; rw [e2, g2]; rfl, h.si0 0⟩
  obtain ⟨th, nd, bn, ask, tc, kc, hX, hM, hT, hC⟩ := id h
  have hs := pq_sl_lt hp hw
  have hi : inb (nI (4 * p + w)) 28 = true := px_inb (by omega) (by decide)
  have hcl : (nI (4 * p + w)).toNatClampNeg = 4 * p + w := nI_clamp (by omega)
  have hi2 : inb (nI (pq_sl p w)) 28 = true := px_inb hs (by decide)
  have hcl2 : (nI (pq_sl p w)).toNatClampNeg = pq_sl p w := nI_clamp (by omega)
  cases ht : th p w with
  | false =>
    refine ⟨0, u, si v 0 0, ?_, ?_, h.si0 0⟩
    · unfold f_X_need f_C_addNeed
      rw [e1, g1, rl_slot p hp w hw, rl_has hX.2.2.1 hp hw, ht]; rfl
    · unfold f_M_need
      simp only [e2, g2, pm_4, hi, hcl, ck_t, hM.1.1 p w hp hw, ht]; rfl
  | true =>
  obtain ⟨m1, m2, m3, m4⟩ := hM.1
  obtain ⟨l1, l2, l3⟩ := m2 p w hp hw
  have hx4 := hX.2.2.2.1 p w hp hw
  by_cases hl : (nd p w).length = 4
  · refine ⟨0, u, si v 0 0, ?_, ?_, h.si0 0⟩
    · unfold f_X_need f_C_addNeed
      simp only [e1, g1, rl_slot p hp w hw, rl_has hX.2.2.1 hp hw, ht, hi2, hcl2, ck_t, hx4, hl]; rfl
    · unfold f_M_need
      simp only [e2, g2, pm_4, hi, hcl, ck_t, hM.1.1 p w hp hw, ht, l1, hl]; rfl
  have hl4 : (nd p w).length < 4 := by omega
  generalize hln : (nd p w).length = ln at *
  have hi3 : inb (nI (4 * (4 * p + w) + ln)) 112 = true := px_inb (by omega) (by decide)
  have hcl3 : (nI (4 * (4 * p + w) + ln)).toNatClampNeg = 4 * (4 * p + w) + ln := nI_clamp (by omega)
  have c4 : nI ln < 4 := nI_lt (b := 4) hl4 (by decide)
  have c5 : ¬ nI ln = 4 := fun z => hl ((nI_eq (a := ln) (b := 4) (by omega) (by decide)).mp z)
  refine ⟨1, sa (sa (sa u 0 (pq_sl p w) (nI ln + 1)) 1 (pq_sl p w) (u.2 1 (pq_sl p w) ||| pq_M (fun q => decide (q = n.1)))) 2 (pq_sl p w) (u.2 2 (pq_sl p w) ||| pq_A (fun q z => decide (q = n.1) && !(decide (n.2.1 ≤ z) && decide (z ≤ n.2.2)))),
    sa (sa (sa (sa (si v 0 0) 2 (4 * (4 * p + w) + ln) (nI n.1)) 3 (4 * (4 * p + w) + ln) (nI n.2.1)) 4 (4 * (4 * p + w) + ln) (nI n.2.2)) 1 (4 * p + w) (nI ln + 1), ?_, ?_, th, fun q z => if q = p ∧ z = w then nd p w ++ [n] else nd q z, bn, ask, tc, kc, ?_, ⟨?_, ?_, ?_⟩, ?_, ?_⟩
  · unfold f_X_need f_C_addNeed
    simp only [e1, g1, rl_slot p hp w hw, rl_has hX.2.2.1 hp hw, ht, hi2, hcl2, ck_t, hx4, if_pos c4, rl_mark n.1 hn.1, rl_out n.1 hn.1 n.2.1 (by have := hn.2; omega) n.2.2 hn.2.2 hn.2.1]; rfl
  · unfold f_M_need
    simp only [e2, g2, pm_4, hi, hcl, hi3, hcl3, ck_t, hM.1.1 p w hp hw, ht, l1, if_neg c5]; rfl
  · obtain ⟨x1, x2, x3, x4, x5⟩ := hX
    refine ⟨fun q z hq hz => ?_, x2, x3, fun q z hq hz => ?_, x5⟩
    · obtain ⟨k1, k2, k3⟩ := x1 q z hq hz
      have hinj := pq_sl_inj hq hz hp hw
      refine ⟨?_, ?_, k3⟩
      · dsimp only
        rw [sa_2, if_neg (by decide), sa_2, if_pos rfl]
        by_cases e : q = p ∧ z = w
        · obtain ⟨rfl, rfl⟩ := e
          rw [if_pos rfl, if_pos ⟨rfl, rfl⟩, k1, pq_M_or]
          exact pq_M_congr fun r _ => (rl_want _ _ _).symm
        · rw [if_neg (fun k => e (hinj.mp k)), if_neg e]; exact k1
      · dsimp only
        rw [sa_2, if_pos rfl]
        by_cases e : q = p ∧ z = w
        · obtain ⟨rfl, rfl⟩ := e
          rw [if_pos rfl, if_pos ⟨rfl, rfl⟩, k2, pq_A_or]
          exact pq_A_congr fun r s _ _ => (rl_unm _ _ _ _).symm
        · rw [if_neg (fun k => e (hinj.mp k)), if_neg e]; exact k2
    · have hinj := pq_sl_inj hq hz hp hw
      dsimp only
      rw [sa_2, if_neg (by decide), sa_2, if_neg (by decide), sa_2, if_pos rfl]
      by_cases e : q = p ∧ z = w
      · rw [if_pos (hinj.mpr e), if_pos e, List.length_append, hln]; exact nI_1 ln
      · rw [if_neg (fun k => e (hinj.mp k)), if_neg e]; exact x4 q z hq hz
  · refine ⟨m1, fun q z hq hz => ?_, m3, m4⟩
    obtain ⟨k1, k2, k3⟩ := m2 q z hq hz
    dsimp only
    rw [sa_2, if_pos rfl]
    have b2 : ∀ j, (sa (sa (sa (sa (si v 0 0) 2 (4 * (4 * p + w) + ln) (nI n.1)) 3 (4 * (4 * p + w) + ln) (nI n.2.1)) 4 (4 * (4 * p + w) + ln) (nI n.2.2)) 1 (4 * p + w) (nI ln + 1)).2 2 j = if j = 4 * (4 * p + w) + ln then nI n.1 else v.2 2 j := fun j => by
      simp [sa_2, si_2]
    have b3 : ∀ j, (sa (sa (sa (sa (si v 0 0) 2 (4 * (4 * p + w) + ln) (nI n.1)) 3 (4 * (4 * p + w) + ln) (nI n.2.1)) 4 (4 * (4 * p + w) + ln) (nI n.2.2)) 1 (4 * p + w) (nI ln + 1)).2 3 j = if j = 4 * (4 * p + w) + ln then nI n.2.1 else v.2 3 j := fun j => by
      simp [sa_2, si_2]
    have b4 : ∀ j, (sa (sa (sa (sa (si v 0 0) 2 (4 * (4 * p + w) + ln) (nI n.1)) 3 (4 * (4 * p + w) + ln) (nI n.2.1)) 4 (4 * (4 * p + w) + ln) (nI n.2.2)) 1 (4 * p + w) (nI ln + 1)).2 4 j = if j = 4 * (4 * p + w) + ln then nI n.2.2 else v.2 4 j := fun j => by
      simp [sa_2, si_2]
    by_cases e : q = p ∧ z = w
    · obtain ⟨rfl, rfl⟩ := e
      simp only [and_self, if_true]
      refine ⟨?_, ?_, fun k m hm => ?_⟩
      · rw [List.length_append, hln]; exact nI_1 ln
      · rw [List.length_append, hln]; simp; omega
      · rw [b2, b3, b4]
        rcases rl_ap hm with ⟨j1, j2⟩ | ⟨j1, j2⟩
        · rw [hln] at j1
          rw [if_neg (by omega), if_neg (by omega), if_neg (by omega)]
          exact l3 k m j2
        · rw [hln] at j1
          subst j1; subst j2
          rw [if_pos rfl, if_pos rfl, if_pos rfl]
          exact ⟨rfl, rfl, rfl, hn⟩
    · rw [if_neg (fun k => e ((rl_48 hw hz).mp k)), if_neg e]
      refine ⟨k1, k2, fun k m hm => ?_⟩
      have hk : k < 4 := by have := (List.getElem?_eq_some_iff.mp hm).1; omega
      have ne : ¬ 4 * (4 * q + z) + k = 4 * (4 * p + w) + ln := by
        intro hh; exact e ((rl_48 hw hz).mp (by omega))
      rw [b2, b3, b4, if_neg ne, if_neg ne, if_neg ne]
      exact k3 k m hm
  · exact pk_ex hM.2.1 rfl
  · intro q z hq hz hf
    dsimp only
    by_cases e : q = p ∧ z = w
    · obtain ⟨rfl, rfl⟩ := e
      rw [ht] at hf; cases hf
    · rw [if_neg e]; exact hM.2.2 q z hq hz hf
  · exact hT.fr ⟨rfl, rfl⟩ ⟨rfl, rfl⟩
  · exact hC.fr rfl rfl
