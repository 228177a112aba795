theorem rl_ban (bn : List pd_B) (b : pd_B) (p w q z : Nat) : pd_ban (bn ++ [b]) p w q z = (pd_ban bn p w q z || ((b.1 == (p, w) && b.2 == (q, z)) || (b.2 == (p, w) && b.1 == (q, z)))) := by
  unfold pd_ban
  rw [List.any_append, List.any_cons, List.any_nil, Bool.or_false]
set_option maxHeartbeats 1000000 in
theorem sim_ban : Sim_ban Rel := by
  intro a1 a2 a3 a4 u v h
  rcases rl_ver a1 a2 with ⟨e1, e2⟩ | ⟨p, w, hp, hw, rfl, rfl, e1, e2⟩
  · exact ⟨0, u, si v 0 0, by unfold f_X_ban; rw [if_pos e1], by unfold f_M_ban; rw [if_pos e2], h.si0 0⟩
  rcases rl_ver a3 a4 with ⟨g1, g2⟩ | ⟨q, z, hq, hz, rfl, rfl, g1, g2⟩
  · exact ⟨0, u, si v 0 0, by unfold f_X_ban; rw [e1, g1]; rfl, by unfold f_M_ban; rw [e2, g2]; rfl, h.si0 0⟩
  by_cases hpq : nI p = nI q
  · exact ⟨0, u, si v 0 0, by unfold f_X_ban; rw [e1, g1, if_pos hpq]; rfl, by unfold f_M_ban; rw [e2, g2, if_pos hpq]; rfl, h.si0 0⟩
  have npq : p ≠ q := fun k => hpq (by rw [k])
  obtain ⟨th, nd, bn, ask, tc, kc, hX, hM, hT, hC⟩ := id h
  have hs := pq_sl_lt hp hw
  have hs2 := pq_sl_lt hq hz
  obtain ⟨m1, m2, ⟨m31, m32, m33⟩, m4⟩ := hM.1
  obtain ⟨x1, x2, x3, x4, x5⟩ := hX
  have hi : inb (nI (pq_sl p w)) 28 = true := px_inb hs (by decide)
  have hcl : (nI (pq_sl p w)).toNatClampNeg = pq_sl p w := nI_clamp (by omega)
  have hi2 : inb (nI (pq_sl q z)) 28 = true := px_inb hs2 (by decide)
  have hcl2 : (nI (pq_sl q z)).toNatClampNeg = pq_sl q z := nI_clamp (by omega)
  by_cases hl : bn.length = 16
  · refine ⟨0, u, si v 0 0, ?_, ?_, h.si0 0⟩
    · unfold f_X_ban f_C_addBan
      simp only [e1, g1, hpq, rl_slot p hp w hw, rl_slot q hq z hz, rl_isSlot _ hs, rl_isSlot _ hs2, x5, hl]; rfl
    · unfold f_M_ban
      simp only [e2, g2, hpq, m31, hl]; rfl
  have c4 : nI bn.length < 16 := nI_lt (b := 16) (by omega) (by decide)
  have c5 : ¬ nI bn.length = 16 := fun k => hl ((nI_eq (b := 16) (by omega) (by decide)).mp k)
  have hi3 : inb (nI bn.length) 16 = true := px_inb (by omega) (by decide)
  have hcl3 : (nI bn.length).toNatClampNeg = bn.length := nI_clamp (by omega)
  have nsl : ¬ pq_sl q z = pq_sl p w := fun k => npq ((pq_sl_inj hq hz hp hw).mp k).1.symm
  refine ⟨1, sa (sa (si u 4 (nI bn.length + 1)) 3 (pq_sl p w) (u.2 3 (pq_sl p w) ||| (1 : Int32) <<< (nI (pq_sl q z) &&& 31))) 3 (pq_sl q z) (u.2 3 (pq_sl q z) ||| (1 : Int32) <<< (nI (pq_sl p w) &&& 31)),
    si (sa (sa (si v 0 0) 8 bn.length (nI (4 * p + w))) 9 bn.length (nI (4 * q + z))) 2 (nI bn.length + 1), ?_, ?_, th, nd, bn ++ [((p, w), (q, z))], ask, tc, kc, ?_, ⟨?_, ?_, hM.2.2⟩, ?_, ?_⟩
  · unfold f_X_ban f_C_addBan
    have e9 : (sa (si u 4 (nI bn.length + 1)) 3 (pq_sl p w) (u.2 3 (pq_sl p w) ||| (1 : Int32) <<< (nI (pq_sl q z) &&& 31))).2 3 (pq_sl q z) = u.2 3 (pq_sl q z) := by
      rw [sa_2, if_pos rfl, if_neg nsl, si_2]
    simp only [e1, g1, hpq, rl_slot p hp w hw, rl_slot q hq z hz, rl_isSlot _ hs, rl_isSlot _ hs2, x5, if_pos c4, hi, hi2, hcl, hcl2, ck_t, e9]; rfl
  · unfold f_M_ban
    simp only [e2, g2, hpq, m31, if_neg c5, hi3, hcl3, ck_t, pm_4]; rfl
  · refine ⟨fun r x hr hx => ?_, x2, x3, x4, ?_⟩
    · obtain ⟨k1, k2, k3⟩ := x1 r x hr hx
      refine ⟨k1, k2, ?_⟩
      rw [sa_2, if_pos rfl, sa_2, if_pos rfl, si_2]
      by_cases eq : r = q ∧ x = z
      · obtain ⟨rfl, rfl⟩ := eq
        rw [if_pos rfl, k3, pq_A_one hp hw, pq_A_or]
        refine pq_A_congr fun a b _ _ => ?_
        rw [rl_ban]
        have f1 : (((p, w) : Nat × Nat) == (r, x)) = false := by simp [npq]
        have f2 : (((r, x) : Nat × Nat) == (r, x)) = true := by simp
        rw [f1, f2]
        congr 1
        rw [Bool.false_and, Bool.false_or, Bool.true_and, Bool.eq_iff_iff, Bool.and_eq_true, decide_eq_true_iff, decide_eq_true_iff, beq_iff_eq, Prod.mk.injEq]
        exact ⟨fun k => ⟨k.1.symm, k.2.symm⟩, fun k => ⟨k.1.symm, k.2.symm⟩⟩
      · rw [if_neg (fun k => eq ((pq_sl_inj hr hx hq hz).mp k))]
        by_cases ep : r = p ∧ x = w
        · obtain ⟨rfl, rfl⟩ := ep
          rw [if_pos rfl, k3, pq_A_one hq hz, pq_A_or]
          refine pq_A_congr fun a b _ _ => ?_
          rw [rl_ban]
          have f1 : (((q, z) : Nat × Nat) == (r, x)) = false := by simp [Ne.symm npq]
          have f2 : (((r, x) : Nat × Nat) == (r, x)) = true := by simp
          rw [f1, f2]
          congr 1
          rw [Bool.false_and, Bool.or_false, Bool.true_and, Bool.eq_iff_iff, Bool.and_eq_true, decide_eq_true_iff, decide_eq_true_iff, beq_iff_eq, Prod.mk.injEq]
          exact ⟨fun k => ⟨k.1.symm, k.2.symm⟩, fun k => ⟨k.1.symm, k.2.symm⟩⟩
        · rw [if_neg (fun k => ep ((pq_sl_inj hr hx hp hw).mp k)), k3]
          refine pq_A_congr fun a b _ _ => ?_
          rw [rl_ban]
          have f1 : (((q, z) : Nat × Nat) == (r, x)) = false := by
            rw [beq_eq_false_iff_ne]; intro k; exact eq ⟨(Prod.mk.inj k).1.symm, (Prod.mk.inj k).2.symm⟩
          have f2 : (((p, w) : Nat × Nat) == (r, x)) = false := by
            rw [beq_eq_false_iff_ne]; intro k; exact ep ⟨(Prod.mk.inj k).1.symm, (Prod.mk.inj k).2.symm⟩
          rw [f1, f2]; simp
    · rw [sa_1, sa_1, si_1, if_pos rfl, List.length_append]; exact nI_1 _
  · refine ⟨m1, m2, ⟨?_, ?_, fun k b hb => ?_⟩, m4⟩
    · rw [si_1, if_pos rfl, List.length_append]; exact nI_1 _
    · rw [List.length_append]; simp; omega
    · have b8 : (si (sa (sa (si v 0 0) 8 bn.length (nI (4 * p + w))) 9 bn.length (nI (4 * q + z))) 2 (nI bn.length + 1)).2 8 k = if k = bn.length then nI (4 * p + w) else v.2 8 k := by simp [sa_2, si_2]
      have b9 : (si (sa (sa (si v 0 0) 8 bn.length (nI (4 * p + w))) 9 bn.length (nI (4 * q + z))) 2 (nI bn.length + 1)).2 9 k = if k = bn.length then nI (4 * q + z) else v.2 9 k := by simp [sa_2, si_2]
      rw [b8, b9]
      rcases rl_ap hb with ⟨j1, j2⟩ | ⟨j1, j2⟩
      · rw [if_neg (by omega), if_neg (by omega)]
        exact m33 k b j2
      · subst j1; subst j2
        rw [if_pos rfl, if_pos rfl]
        exact ⟨rfl, rfl, hp, hw, hq, hz⟩
  · exact pk_ex hM.2.1 rfl
  · exact hT.fr ⟨rfl, rfl⟩ ⟨rfl, rfl⟩
  · exact hC.fr rfl rfl
theorem sim_ask : Sim_ask Rel := by
  intro a1 a2 a3 u v h
  rcases rl_need a1 a2 a3 with ⟨g1, g2⟩ | ⟨n, hn, rfl, rfl, rfl, g1, g2⟩
  · exact ⟨0, u, si v 0 0, by unfold f_X_ask; rw [g1]; rfl, by unfold f_M_ask; rw [g2]; rfl, h.si0 0⟩
  obtain ⟨th, nd, bn, ask, tc, kc, hX, hM, hT, hC⟩ := id h
  obtain ⟨m1, m2, m3, m41, m42, m43⟩ := hM.1
  obtain ⟨x1, ⟨x21, x22, x23⟩, x3, x4, x5⟩ := hX
  by_cases hl : ask.length = 6
  · refine ⟨0, u, si v 0 0, ?_, ?_, h.si0 0⟩
    · unfold f_X_ask f_W_add
      simp only [g1, x21, hl]; rfl
    · unfold f_M_ask
      simp only [g2, m41, hl]; rfl
  have c4 : nI ask.length < 6 := nI_lt (b := 6) (by omega) (by decide)
  have c5 : ¬ nI ask.length = 6 := fun k => hl ((nI_eq (b := 6) (by omega) (by decide)).mp k)
  have hi3 : inb (nI ask.length) 6 = true := px_inb (by omega) (by decide)
  have hcl3 : (nI ask.length).toNatClampNeg = ask.length := nI_clamp (by omega)
  refine ⟨1, si (sa (sa u 4 ask.length (pq_M (fun q => decide (q = n.1)))) 5 ask.length (pq_A (fun q z => decide (q = n.1) && !(decide (n.2.1 ≤ z) && decide (z ≤ n.2.2))))) 5 (nI ask.length + 1),
    si (sa (sa (sa (si v 0 0) 5 ask.length (nI n.1)) 6 ask.length (nI n.2.1)) 7 ask.length (nI n.2.2)) 1 (nI ask.length + 1), ?_, ?_, th, nd, bn, ask ++ [n], tc, kc, ?_, ⟨?_, ?_, hM.2.2⟩, ?_, ?_⟩
  · unfold f_X_ask f_W_add
    simp only [g1, x21, if_pos c4, hi3, hcl3, ck_t, rl_mark n.1 hn.1, rl_out n.1 hn.1 n.2.1 (by have := hn.2; omega) n.2.2 hn.2.2 hn.2.1]; rfl
  · unfold f_M_ask
    simp only [g2, m41, if_neg c5, hi3, hcl3, ck_t]; rfl
  · refine ⟨x1, ⟨?_, ?_, fun i k hk => ?_⟩, x3, x4, x5⟩
    · rw [si_1, if_pos rfl, List.length_append]; exact nI_1 _
    · rw [List.length_append]; simp; omega
    · have b4 : ∀ X Y Z, (si (sa (sa u 4 ask.length X) 5 ask.length Y) 5 Z).2 4 i = if i = ask.length then X else u.2 4 i := fun X Y Z => by simp [sa_2, si_2]
      have b5 : ∀ X Y Z, (si (sa (sa u 4 ask.length X) 5 ask.length Y) 5 Z).2 5 i = if i = ask.length then Y else u.2 5 i := fun X Y Z => by simp [sa_2, si_2]
      rw [b4, b5]
      rcases rl_ap hk with ⟨j1, j2⟩ | ⟨j1, j2⟩
      · rw [if_neg (by omega), if_neg (by omega)]
        exact x23 i k j2
      · subst j1; subst j2
        rw [if_pos rfl, if_pos rfl]
        exact ⟨rfl, rfl⟩
  · refine ⟨m1, m2, m3, ?_, ?_, fun i k hk => ?_⟩
    · rw [si_1, if_pos rfl, List.length_append]; exact nI_1 _
    · rw [List.length_append]; simp; omega
    · have b5 : (si (sa (sa (sa (si v 0 0) 5 ask.length (nI n.1)) 6 ask.length (nI n.2.1)) 7 ask.length (nI n.2.2)) 1 (nI ask.length + 1)).2 5 i = if i = ask.length then nI n.1 else v.2 5 i := by simp [sa_2, si_2]
      have b6 : (si (sa (sa (sa (si v 0 0) 5 ask.length (nI n.1)) 6 ask.length (nI n.2.1)) 7 ask.length (nI n.2.2)) 1 (nI ask.length + 1)).2 6 i = if i = ask.length then nI n.2.1 else v.2 6 i := by simp [sa_2, si_2]
      have b7 : (si (sa (sa (sa (si v 0 0) 5 ask.length (nI n.1)) 6 ask.length (nI n.2.1)) 7 ask.length (nI n.2.2)) 1 (nI ask.length + 1)).2 7 i = if i = ask.length then nI n.2.2 else v.2 7 i := by simp [sa_2, si_2]
      rw [b5, b6, b7]
      rcases rl_ap hk with ⟨j1, j2⟩ | ⟨j1, j2⟩
      · rw [if_neg (by omega), if_neg (by omega), if_neg (by omega)]
        exact m43 i k j2
      · subst j1; subst j2
        rw [if_pos rfl, if_pos rfl, if_pos rfl]
        exact ⟨rfl, rfl, rfl, hn⟩
  · exact pk_ex hM.2.1 rfl
  · exact hT.fr ⟨rfl, rfl⟩ ⟨rfl, rfl⟩
  · exact hC.fr rfl rfl
