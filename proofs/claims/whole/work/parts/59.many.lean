theorem Rel.fr {u v u' v' : PS} (h : Rel u v) (hu : ∀ k, k < 6 → u'.1 k = u.1 k) (hu2 : u'.2 = u.2) (hv1 : v'.1 1 = v.1 1 ∧ v'.1 2 = v.1 2 ∧ v'.1 5 = v.1 5) (hv2 : ∀ k, k ≠ 10 → k ≠ 11 → k ≠ 14 → v'.2 k = v.2 k) (hk : ∃ c, pm_pk v' c) : Rel u' v' := by
  obtain ⟨th, nd, bn, ask, tc, kc, h1, h2, h3, h4⟩ := h
  exact ⟨th, nd, bn, ask, tc, kc, h1.fr (fun k hk => hu k (by omega)) hu2, h2.fr ⟨hv1.1, hv1.2.1⟩ (fun k hk => hv2 k (by omega) (by omega) (by omega)) hk, h3.fr ⟨hu 0 (by omega), hu 1 (by omega)⟩ ⟨hv2 12 (by decide) (by decide) (by decide), hv2 13 (by decide) (by decide) (by decide)⟩, h4.fr (hu 2 (by omega)) hv1.2.2⟩
theorem pd_sel_congr {ask : List pd_N} {f g : Nat → Bool} (h : ∀ i, i < ask.length → f i = g i) : pd_sel ask f = pd_sel ask g := by
  unfold pd_sel
  have : ∀ L : List Nat, (∀ i ∈ L, i < ask.length) → L.filterMap (fun i => if f i = true then ask[i]? else none) = L.filterMap (fun i => if g i = true then ask[i]? else none) := by
    intro L
    induction L with
    | nil => intro _; rfl
    | cons a L ih =>
      intro hL
      have e : (if f a = true then ask[a]? else none) = (if g a = true then ask[a]? else none) := by rw [h a (hL a List.mem_cons_self)]
      rw [List.filterMap_cons, List.filterMap_cons, e, ih (fun i hi => hL i (List.mem_cons_of_mem _ hi))]
  exact this _ (fun i hi => List.mem_range.mp hi)
theorem rl_all {ask : List pd_N} {u : PS} (h5 : u.1 5 = nI ask.length) (hl : ask.length ≤ 6) : ∃ X, f_W_all u = some X ∧ ∀ b, bt X b = true ↔ ∃ j, j < ask.length ∧ b = 5 - j := by
  have key : ∀ (m i : Nat) (X : Int32), i ≤ ask.length → ask.length - i < m → ∃ Y, l_W_all_4 u m X (nI i) = some Y ∧ ∀ b, bt Y b = true ↔ bt X b = true ∨ ∃ j, i ≤ j ∧ j < ask.length ∧ b = 5 - j := by
    intro m
    induction m with
    | zero => intro i X _ h; omega
    | succ m ih =>
      intro i X hi hm
      by_cases hle : ask.length ≤ i
      · refine ⟨X, ?_, fun b => ⟨fun k => Or.inl k, fun k => k.elim id (fun ⟨j, h1, h2, _⟩ => by omega)⟩⟩
        show b_W_all_4 u (l_W_all_4 u m) X (nI i) = _
        unfold b_W_all_4
        rw [h5, if_pos (nI_le hle (by omega))]
      · obtain ⟨Y, e1, e2⟩ := ih (i + 1) (X ||| f_X_wishBit (nI i)) (by omega) (by omega)
        refine ⟨Y, ?_, fun b => ?_⟩
        · show b_W_all_4 u (l_W_all_4 u m) X (nI i) = _
          unfold b_W_all_4
          rw [h5, if_neg (nI_ge (by omega) (by omega)), nI_1]; exact e1
        · rw [e2, b_or, px_wish i (by omega), pq_b1 (by omega)]
          constructor
          · rintro (k | ⟨j, k1, k2, k3⟩)
            · rcases (Bool.or_eq_true _ _).mp k with k | k
              · exact Or.inl k
              · exact Or.inr ⟨i, by omega, by omega, of_decide_eq_true k⟩
            · exact Or.inr ⟨j, by omega, k2, k3⟩
          · rintro (k | ⟨j, k1, k2, k3⟩)
            · exact Or.inl (by rw [k]; rfl)
            · by_cases e : j = i
              · subst e; exact Or.inl (by rw [decide_eq_true k3]; simp)
              · exact Or.inr ⟨j, by omega, k2, k3⟩
  obtain ⟨Y, e1, e2⟩ := key NF 0 0 (by omega) (show _ < 1000000 by omega)
  refine ⟨Y, e1, fun b => ?_⟩
  rw [e2, b_0]
  exact ⟨fun k => k.elim (fun z => by cases z) (fun ⟨j, _, h1, h2⟩ => ⟨j, h1, h2⟩), fun ⟨j, h1, h2⟩ => Or.inr ⟨j, by omega, h1, h2⟩⟩
theorem rl_mall : ∀ n, n ≤ 6 → ∀ i, i < 32 → bt (((1 : Int32) <<< (nI n &&& 31)) - 1) i = decide (i < n) := by decide +kernel
section RS
variable {th : TH} {nd : ND} {bn : List pd_B} {ask : List pd_N} {u v : PS}
theorem rs_gn (hM : RM th nd bn ask v) (b : Nat → Bool) : ∀ n ∈ pd_sel ask b, n.1 < 7 := by
  intro n hn
  obtain ⟨i, -, hi⟩ := (pd_sel_iff ask b n).mp hn
  exact (hM.1.2.2.2.2.2 i n hi).2.2.2.1
theorem rs_nd (hM : RM th nd bn ask v) : ∀ p w, p < 7 → w < 4 → ∀ n ∈ nd p w, n.1 < 7 := by
  intro p w hp hw n hn
  obtain ⟨k, hk⟩ := List.mem_iff_getElem?.mp hn
  exact ((hM.1.2.1 p w hp hw).2.2 k n hk).2.2.2.1
theorem rs_perm (hM : RM th nd bn ask v) (b : Nat → Bool) : (px_L th nd bn (pd_sel ask b)).Perm ((pf_A th nd bn (pd_sel ask b)).map pd_enc) := pf_perm (rs_gn hM b) (rs_nd hM)
theorem rs_len (hM : RM th nd bn ask v) (b : Nat → Bool) : (px_L th nd bn (pd_sel ask b)).length = (pf_A th nd bn (pd_sel ask b)).length := by
  rw [(rs_perm hM b).length_eq, List.length_map]
theorem rs_mem (hM : RM th nd bn ask v) (b : Nat → Bool) (x : Int32) : x ∈ px_L th nd bn (pd_sel ask b) ↔ ∃ d ∈ pf_A th nd bn (pd_sel ask b), pd_enc d = x := by
  rw [(rs_perm hM b).mem_iff, List.mem_map]
/-- one search of the class, to its end -/
theorem rs_tally (hX : RX th nd bn ask u) (hM : RM th nd bn ask v) (sub aim : Int32) : ∃ u1, f_X_tallyChoices sub aim 1000000 u = some (u1.1 9, u1) ∧ pc_inv aim (u.1 1) (px_L th nd bn (pd_sel ask (fun i => bt sub (5 - i)))) u1 ∧ (∀ k, k < 6 → u1.1 k = u.1 k) ∧ u1.2 = u.2 := by
  obtain ⟨b1, b2, b3, b4⟩ := pc_begin aim 1000000 u
  refine ⟨_, px_tally hX.2.1 hX.1 hX.2.2.1 sub aim 1000000, ?_, fun k hk => ?_, ?_⟩
  · have := pc_fold (aim := aim) (kept := u.1 1) (M := 1000000) (by decide) (px_L th nd bn (pd_sel ask (fun i => bt sub (5 - i)))) [] _ b1 b2 (by
      have := pf_A_len (th := th) (nd := nd) (bn := bn) (ak := pd_sel ask (fun i => bt sub (5 - i)))
      rw [rs_len hM]; simp; omega)
    simpa using this
  · rw [px_fold1 (by omega), b4 k hk]
  · rw [px_fold2, b3]
/-- all that is asked, on both sides -/
theorem rs_all (hX : RX th nd bn ask u) (hM : RM th nd bn ask v) : ∃ X, f_W_all u = some X ∧ (∀ b, bt X b = true ↔ ∃ j, j < ask.length ∧ b = 5 - j) ∧ pd_sel ask (fun i => bt X (5 - i)) = pd_sel ask (fun _ => true) ∧ pd_sel ask (bt (f_M_all v)) = pd_sel ask (fun _ => true) := by
  obtain ⟨X, h1, h2⟩ := rl_all hX.2.1.1 hX.2.1.2.1
  have hl := hX.2.1.2.1
  refine ⟨X, h1, h2, pd_sel_congr fun i hi => (h2 _).mpr ⟨i, hi, rfl⟩, pd_sel_congr fun i hi => ?_⟩
  unfold f_M_all
  rw [hM.1.2.2.2.1, rl_mall _ hl i (by omega), decide_eq_true hi]
end RS
theorem sim_many : Sim_many Rel := by
  intro u v h
  obtain ⟨th, nd, bn, ask, tc, kc, hX, hM, hT, hC⟩ := id h
  have hM0 : RM th nd bn ask (si v 0 0) := hM.fr ⟨rfl, rfl⟩ (fun _ _ => rfl) (pk_ex hM.2.1 rfl)
  obtain ⟨X, a1, a2, a3, a4⟩ := rs_all hX hM0
  obtain ⟨u1, b1, b2, b3, b4⟩ := rs_tally hX hM0 X 0
  obtain ⟨v1, c1, c2, c3⟩ := pf_begin hM0.1 hM0.2.1 (f_M_all (si v 0 0))
  rw [a4] at c3
  rw [a3] at b2
  have hlen := rs_len hM0 (fun _ => true)
  have hle := pf_A_len (th := th) (nd := nd) (bn := bn) (ak := pd_sel ask (fun _ => true))
  obtain ⟨v2, d1, d2, d3⟩ := pf_many NF _ v1 0 c3 (show _ < 1000000 by omega)
  refine ⟨nI (pf_A th nd bn (pd_sel ask (fun _ => true))).length, u1, v2, ?_, ?_, ?_⟩
  · unfold f_X_many
    rw [a1, Option.bind_some, b1, Option.bind_some]
    show some (u1.1 9, u1) = _
    rw [b2.2.2.1, hlen]
  · unfold f_M_many
    rw [c1, Option.bind_some]
    have := d1
    rw [Nat.zero_add] at this
    exact this
  · have f := c2.tr d2
    exact h.fr b3 b4 ⟨f.1 1 (by decide) (by decide), f.1 2 (by decide) (by decide), f.1 5 (by decide) (by decide)⟩ (fun k h1 h2 _ => f.2 k h1 h2) d3
