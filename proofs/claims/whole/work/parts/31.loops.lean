section PL
variable {th : Nat → Nat → Bool} {nd : Nat → Nat → List pd_N} {bn : List pd_B} {ask : List pd_N} {mk : Nat → Bool}
/-- the model stands in its search, with the choices F still to come -/
def pf_St (th : Nat → Nat → Bool) (nd : Nat → Nat → List pd_N) (bn : List pd_B) (ask : List pd_N) (mk : Nat → Bool) (v : PS) (F : List (Nat → Nat)) : Prop :=
  ∃ (c : Nat → Nat) (L : Nat), L ≤ 7 ∧ v.1 4 = nI L - 1 ∧ pm_rep th nd bn ask v ∧ pm_pk v c ∧ (∀ q, q + 1 < L → c q ≤ 4) ∧ (∀ q, 7 ≤ q → c q = 0) ∧ (∀ q, q + 1 < L → pm_G th nd bn ask mk c q) ∧ pf_mu L c < NF ∧ bt (v.1 3) = mk ∧ pf_F th nd bn (pd_sel ask mk) (pf_rest L c) = F
theorem pf_mu_le : ∀ (l : Nat) (c : Nat → Nat), l ≤ 7 → (∀ q, q < l → c q ≤ 4) → pf_mu l c ≤ pf_mu l (fun _ => 4) := by
  intro l
  induction l with
  | zero => intro c _ _; exact Nat.le_refl _
  | succ l ih =>
    intro c hl h
    have h1 := ih c (by omega) (fun q hq => h q (by omega))
    have h2 := Nat.mul_le_mul_right (pf_t (6 - l)) (h l (by omega))
    have e1 : pf_mu (l + 1) c = c l * pf_t (6 - l) + 1 + pf_mu l c := rfl
    have e2 : pf_mu (l + 1) (fun _ => 4) = 4 * pf_t (6 - l) + 1 + pf_mu l (fun _ => 4) := rfl
    omega
theorem pf_next {v : PS} {F : List (Nat → Nat)} (h : pf_St th nd bn ask mk v F) : ∃ (y : Int32) (v' : PS), f_M_finds v = some (y, v') ∧ pf_fr v v' ∧ (∃ c', pm_pk v' c') ∧
    ((F = [] ∧ y = 0) ∨ ∃ d F', F = d :: F' ∧ y = 1 ∧ pd_val th nd bn (pd_sel ask mk) d ∧ pm_pk v' d ∧ pf_St th nd bn ask mk v' F') := by
  obtain ⟨c, L, h1, h2, h3, h4, h5, h6, h7, h8, h9, h10⟩ := h
  obtain ⟨y, v', e1, e2, e3, e4⟩ := pf_finds NF v c L h1 h2 h3 h4 h5 h6 h7 h8 h9
  rw [h10] at e4
  refine ⟨y, v', e1, e2, e3, ?_⟩
  rcases e4 with k | ⟨d, F', k1, k2, k3, k4, k5, k6⟩
  · exact Or.inl k
  · refine Or.inr ⟨d, F', k1, k2, k3, k4, d, 7, by omega, k5, pf_rep h3 e2, k4, fun q hq => k3.1.1 q (by omega), k3.1.2, fun q hq => pf_G_val (fun i n h => (h3.2.2.2.2.2 i n h).2.2.2) k3.2.1 (by omega), ?_, ?_, k6⟩
    · have := pf_mu_le 7 d (by omega) (fun q hq => k3.1.1 q hq)
      have e : pf_mu 7 (fun _ => 4) = 117179 := by decide +kernel
      show _ < 1000000
      omega
    · rw [e2.1 3 (by omega)]; exact h9
/-- begin(M) -/
def pf_f2 (v v' : PS) : Prop := (∀ k, k ≠ 3 → k ≠ 4 → v'.1 k = v.1 k) ∧ ∀ k, k ≠ 10 → k ≠ 11 → v'.2 k = v.2 k
theorem pf_f2.tr {a b c : PS} (h : pf_f2 a b) (h2 : pf_fr b c) : pf_f2 a c := ⟨fun k hk hk2 => (h2.1 k hk2).trans (h.1 k hk hk2), fun k h3 h4 => (h2.2 k h3 h4).trans (h.2 k h3 h4)⟩
theorem pf_rep2 {v v' : PS} (hr : pm_rep th nd bn ask v) (h : pf_f2 v v') : pm_rep th nd bn ask v' := by
  unfold pm_rep
  rw [h.1 1 (by omega) (by omega), h.1 2 (by omega) (by omega), h.2 0 (by omega) (by omega), h.2 1 (by omega) (by omega), h.2 2 (by omega) (by omega), h.2 3 (by omega) (by omega), h.2 4 (by omega) (by omega), h.2 5 (by omega) (by omega), h.2 6 (by omega) (by omega), h.2 7 (by omega) (by omega), h.2 8 (by omega) (by omega), h.2 9 (by omega) (by omega)]
  exact hr
theorem pf_begin {v : PS} (hr : pm_rep th nd bn ask v) (hk : ∃ c, pm_pk v c) (M : Int32) : ∃ v1, f_M_begin M v = some v1 ∧ pf_f2 v v1 ∧ pf_St th nd bn ask (bt M) v1 (pf_A th nd bn (pd_sel ask (bt M))) := by
  obtain ⟨c, hk⟩ := hk
  have hk2 : pm_pk v (fun p => if p < 7 then c p else 0) := fun p hp => by
    dsimp only; rw [if_pos hp]; exact hk p hp
  have f2 : pf_f2 v (sa (si (si v 3 M) 4 0) 10 0 4) := by
    refine ⟨fun k h3 h4 => ?_, fun k h10 _ => ?_⟩
    · unfold sa si; simp [va_up, h3, h4]
    · unfold sa si; simp [va_up, h10]
  refine ⟨sa (si (si v 3 M) 4 0) 10 0 4, ?_, f2, va_up (fun p => if p < 7 then c p else 0) 0 5, 1, by omega, ?_, pf_rep2 hr f2, ?_, fun q hq => by omega, fun q hq => ?_, fun q hq => by omega, ?_, ?_, ?_⟩
  · unfold f_M_begin
    rw [px_ck _ (by decide)]
    rfl
  · show (si (si v 3 M) 4 0).1 4 = _
    simp [si, va_up]; decide
  · exact pf_pk_sa (v := si (si v 3 M) 4 0) hk2 0 5 (by omega) 4 (by decide)
  · rw [va_up_ne _ _ (by omega), if_neg (by omega)]
  · show va_up (fun p => if p < 7 then c p else 0) 0 5 0 * pf_t 6 + 1 + 0 < 1000000
    rw [va_up_self]; decide +kernel
  · show bt ((si (si v 3 M) 4 0).1 3) = _
    simp [si, va_up]
  · unfold pf_A
    rw [pf_rest_congr 1 _ pf_c0 (by omega) fun i hi => ?_]
    by_cases e : i = 0
    · subst e; rw [va_up_self]; rfl
    · rw [va_up_ne _ _ e, if_neg (by omega)]
      show 0 = (if i = 0 then 5 else 0)
      rw [if_neg e]
theorem pf_many : ∀ (m : Nat) (F : List (Nat → Nat)) (v : PS) (k : Nat), pf_St th nd bn ask mk v F → F.length < m → ∃ v', l_M_many_15 m (nI k) v = some (nI (k + F.length), v') ∧ pf_fr v v' ∧ ∃ c', pm_pk v' c' := by
  intro m
  induction m with
  | zero => intro F v k _ h; omega
  | succ m ih =>
    intro F v k hst hm
    show ∃ v', b_M_many_15 (l_M_many_15 m) (nI k) v = _ ∧ _
    unfold b_M_many_15
    obtain ⟨y, v1, e1, e2, e3, e4⟩ := pf_next hst
    rw [e1]
    rw [Option.bind_some]
    dsimp only
    rcases e4 with ⟨k1, k2⟩ | ⟨d, F', k1, k2, -, -, k5⟩
    · subst k1 k2
      rw [if_pos rfl]
      exact ⟨v1, rfl, e2, e3⟩
    · subst k1 k2
      rw [if_neg (by decide), nI_1]
      obtain ⟨v', q1, q2, q3⟩ := ih F' v1 (k + 1) k5 (by rw [List.length_cons] at hm; omega)
      refine ⟨v', ?_, e2.tr q2, q3⟩
      rw [q1, List.length_cons]
      congr 3
      omega
theorem pf_can {p : Nat} (hp : p < 7) : ∀ (m : Nat) (F : List (Nat → Nat)) (v : PS) (x2 : Int32), pf_St th nd bn ask mk v F → F.length < m → ∃ (r : Int32) (v' : PS), l_M_can_24 m (nI p) x2 v = some (r, v') ∧ pf_fr v v' ∧ (∃ c', pm_pk v' c') ∧ ∀ i, i < 32 → (bt r i = true ↔ bt x2 i = true ∨ ∃ d ∈ F, i = (if d p = 0 then 4 else d p - 1)) := by
  intro m
  induction m with
  | zero => intro F v x2 _ h; omega
  | succ m ih =>
    intro F v x2 hst hm
    show ∃ r v', b_M_can_24 (l_M_can_24 m) (nI p) x2 v = _ ∧ _
    unfold b_M_can_24
    obtain ⟨y, v1, e1, e2, e3, e4⟩ := pf_next hst
    rw [e1]
    rw [Option.bind_some]
    dsimp only
    rcases e4 with ⟨k1, k2⟩ | ⟨d, F', k1, k2, k3, k4, k5⟩
    · subst k1 k2
      rw [if_pos rfl]
      exact ⟨x2, v1, rfl, e2, e3, fun i _ => by simp⟩
    · subst k1 k2
      rw [if_neg (by decide), px_ck _ (px_inb hp (by omega)), nI_clamp (show p < 2 ^ 31 by omega), (k4 p hp).1]
      have h5 := (k4 p hp).2
      have h4 := k3.1.1 p hp
      have fin : ∀ (n : Nat) (X : Int32), n < 32 → n = (if d p = 0 then 4 else d p - 1) → X = (1 : Int32) <<< (nI n &&& 31) → ∃ (r : Int32) (v' : PS), l_M_can_24 m (nI p) (x2 ||| X) v1 = some (r, v') ∧ pf_fr v v' ∧ (∃ c', pm_pk v' c') ∧ ∀ i, i < 32 → (bt r i = true ↔ bt x2 i = true ∨ ∃ d' ∈ d :: F', i = (if d' p = 0 then 4 else d' p - 1)) := by
        intro n X hn en eX
        obtain ⟨r, v', q1, q2, q3, q4⟩ := ih F' v1 (x2 ||| X) k5 (by rw [List.length_cons] at hm; omega)
        refine ⟨r, v', q1, e2.tr q2, q3, fun i hi => ?_⟩
        rw [q4 i hi, b_or, Bool.or_eq_true, eX, pq_b1 hn, decide_eq_true_eq]
        constructor
        · rintro ((k | k) | ⟨d', k1, k2⟩)
          · exact Or.inl k
          · exact Or.inr ⟨d, List.mem_cons_self, by rw [k, en]⟩
          · exact Or.inr ⟨d', List.mem_cons_of_mem _ k1, k2⟩
        · rintro (k | ⟨d', k1, k2⟩)
          · exact Or.inl (Or.inl k)
          · rcases List.mem_cons.mp k1 with k | k
            · subst k; exact Or.inl (Or.inr (by rw [k2, en]))
            · exact Or.inr ⟨d', k, k2⟩
      by_cases h0 : d p = 0
      · rw [if_pos ((pm_m1 (by omega)).mpr h0)]
        exact fin 4 _ (by omega) (by rw [if_pos h0]) rfl
      · obtain ⟨w, hw⟩ : ∃ w, d p = w + 1 := ⟨d p - 1, by omega⟩
        rw [if_neg (fun z => h0 ((pm_m1 (by omega)).mp z)), px_ck _ (px_inb hp (by omega)), hw, nI_pred]
        exact fin w _ (by omega) (by rw [if_neg h0]; omega) rfl
end PL
/-! counting over the packages -/
def pc_cn (f : Nat → Bool) : Nat → Nat
  | 0 => 0
  | j + 1 => (f (6 - j)).toNat + pc_cn f j
theorem pc_cn_le (f : Nat → Bool) : ∀ j, pc_cn f j ≤ j := by
  intro j
  induction j with
  | zero => exact Nat.le_refl 0
  | succ j ih =>
    unfold pc_cn
    have : (f (6 - j)).toNat ≤ 1 := by cases f (6 - j) <;> decide
    omega
theorem pc_cn_congr {f g : Nat → Bool} (h : ∀ p, p < 7 → f p = g p) : ∀ j, pc_cn f j = pc_cn g j := by
  intro j
  induction j with
  | zero => rfl
  | succ j ih => unfold pc_cn; rw [h _ (by omega), ih]
theorem pc_cn_s (f : Nat → Bool) {i : Nat} (hi : i < 7) : pc_cn f (7 - i) = (f i).toNat + pc_cn f (7 - (i + 1)) := by
  obtain ⟨j, hj⟩ : ∃ j, 7 - i = j + 1 := ⟨6 - i, by omega⟩
  rw [hj, show 7 - (i + 1) = j by omega]
  show (f (6 - j)).toNat + pc_cn f j = _
  rw [show 6 - j = i by omega]
theorem pc_bitM_d : ∀ m, m < 128 → f_J_bitCount (pq_M (fun p => m.testBit p)) = nI (pc_cn (fun p => m.testBit p) 7) := by decide +kernel
theorem pc_bitM (r : Nat → Bool) : f_J_bitCount (pq_M r) = nI (pc_cn r 7) := by
  obtain ⟨m, hm, h⟩ := pq_num r
  rw [pq_M_congr h, pc_bitM_d m hm, pc_cn_congr h]
theorem pc_diff {c d : Nat → Nat} (hc : ∀ p, p < 7 → c p ≤ 4) (hd : ∀ p, p < 7 → d p ≤ 4) : f_X_differing (pd_enc c) (pd_enc d) = nI (pc_cn (fun p => !decide (c p = d p)) 7) := by
  unfold f_X_differing pd_enc
  rw [pq_A_xor, pq_marks, pq_M_congr (s := _) (t := fun p => !decide (c p = d p)) fun p hp => ?_, pc_bitM]
  have h1 := hc p hp
  have h2 := hd p hp
  generalize c p = x at h1
  generalize d p = y at h2
  exact (by decide : ∀ x, x ≤ 4 → ∀ y, y ≤ 4 → (decide (x = 0 + 1) ^^ decide (y = 0 + 1) || decide (x = 1 + 1) ^^ decide (y = 1 + 1) || decide (x = 2 + 1) ^^ decide (y = 2 + 1) || decide (x = 3 + 1) ^^ decide (y = 3 + 1)) = !decide (x = y)) x h1 y h2
