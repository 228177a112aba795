/-! SOLVE: the best choice -/
def cst (a : Nat) (kc d : Nat → Nat) : Nat := if a = 1 then pc_cn (fun p => !decide (d p = 0)) 7 else if a = 2 then pc_cn (fun p => !decide (d p = kc p)) 7 else 0
theorem cst_le (a : Nat) (kc d : Nat → Nat) : cst a kc d ≤ 7 := by
  unfold cst
  split
  · exact pc_cn_le _ 7
  · split
    · exact pc_cn_le _ 7
    · omega
theorem ms_costX {a : Nat} (ha : a ≤ 2) {kc d : Nat → Nat} (hk : ∀ p, p < 7 → kc p ≤ 4) (hd : ∀ p, p < 7 → d p ≤ 4) : pc_cost (nI a) (pd_enc kc) (pd_enc d) = nI (cst a kc d) := by
  unfold pc_cost cst
  rcases (show a = 0 ∨ a = 1 ∨ a = 2 by omega) with rfl | rfl | rfl
  · rfl
  · rw [if_pos (by decide), if_pos rfl, pop_enc hd]
  · rw [if_neg (by decide), if_pos (by decide), if_neg (by decide), if_pos rfl, pc_diff hd hk]
theorem ms_cost {a : Nat} (ha : a ≤ 2) {kc d : Nat → Nat} {v : PS} (hk : pm_pk v d) (hkc : ∀ p, p < 7 → kc p ≤ 4) (h13 : ∀ p, p < 7 → v.2 13 p = nI (kc p) - 1) : f_M_cost (nI a) v = some (nI (cst a kc d)) := by
  have nf : (7 - 0) < NF := show _ < 1000000 by omega
  have common : ∀ (g : Nat → Bool), (∀ (m i k : Nat), i < 7 → l_M_cost_4 v (m + 1) (nI a) (nI k) (nI i) = if g i = true then l_M_cost_4 v m (nI a) (nI (k + 1)) (nI (i + 1)) else l_M_cost_4 v m (nI a) (nI k) (nI (i + 1))) → f_M_cost (nI a) v = some (nI (pc_cn g 7)) := by
    intro g hg
    have key : ∀ (m i k : Nat), i ≤ 7 → 7 - i < m → l_M_cost_4 v m (nI a) (nI k) (nI i) = some (nI (k + pc_cn g (7 - i))) := by
      intro m
      induction m with
      | zero => intro i k _ h; omega
      | succ m ih =>
        intro i k hi hm
        by_cases h7 : i = 7
        · subst h7
          show b_M_cost_4 v (l_M_cost_4 v m) (nI a) (nI k) (nI 7) = _
          unfold b_M_cost_4
          rw [if_pos (by decide)]; rfl
        · have hlt : i < 7 := by omega
          rw [hg m i k hlt, pc_cn_s _ hlt]
          cases e : g i with
          | true =>
            rw [if_pos rfl, ih (i + 1) (k + 1) (by omega) (by omega)]
            simp [Nat.add_assoc]
          | false =>
            rw [if_neg (by decide), ih (i + 1) k (by omega) (by omega)]
            simp
    have := key NF 0 0 (by omega) nf
    rw [Nat.zero_add] at this
    exact this
  have step : ∀ (m i k : Nat), i < 7 → l_M_cost_4 v (m + 1) (nI a) (nI k) (nI i) = b_M_cost_4 v (l_M_cost_4 v m) (nI a) (nI k) (nI i) := fun _ _ _ _ => rfl
  rcases (show a = 0 ∨ a = 1 ∨ a = 2 by omega) with rfl | rfl | rfl
  · have := common (fun _ => false) (fun m i k hi => by
      rw [step m i k hi]; unfold b_M_cost_4 b_M_cost_26
      rw [if_neg (show ¬ (7 : Int32) ≤ nI i from nI_ge (b := 7) hi (by decide)), if_neg (by decide), if_neg (by decide), nI_1, if_neg (by decide)]
      rw [show nI k + 0 = nI k by simp])
    rw [this]; rfl
  · have := common (fun p => !decide (d p = 0)) (fun m i k hi => by
      have h5 := (hk i hi).2
      have hin : inb (nI i) 7 = true := px_inb hi (by decide)
      have hc : (nI i).toNatClampNeg = i := nI_clamp (by omega)
      rw [step m i k hi]; unfold b_M_cost_4 b_M_cost_26
      rw [if_neg (show ¬ (7 : Int32) ≤ nI i from nI_ge (b := 7) hi (by decide)), if_pos (by decide)]
      simp only [hin, hc, ck_t, (hk i hi).1, pm_m1 (show d i < 2 ^ 30 by omega), nI_1]
      by_cases e : d i = 0
      · rw [if_pos e, if_neg (by decide), show nI k + 0 = nI k by simp, if_neg (by simp [e])]
      · rw [if_neg e, if_pos (by simp [e])])
    rw [this]; rfl
  · have := common (fun p => !decide (d p = kc p)) (fun m i k hi => by
      have h5 := (hk i hi).2
      have h6 := hkc i hi
      have hin : inb (nI i) 7 = true := px_inb hi (by decide)
      have hc : (nI i).toNatClampNeg = i := nI_clamp (by omega)
      rw [step m i k hi]; unfold b_M_cost_4 b_M_cost_26
      rw [if_neg (show ¬ (7 : Int32) ≤ nI i from nI_ge (b := 7) hi (by decide)), if_neg (by decide), if_pos (by decide)]
      simp only [hin, hc, ck_t, (hk i hi).1, h13 i hi, pm_eqq (show d i < 2 ^ 30 by omega) (show kc i < 2 ^ 30 by omega), nI_1]
      by_cases e : d i = kc i
      · rw [if_pos e, show nI k + 0 = nI k by simp, if_neg (by simp [e])]
      · rw [if_neg e, if_pos (by simp [e])])
    rw [this]; rfl
/-- the best of a list of choices -/
def Best (a : Nat) (kc : Nat → Nat) (L : List (Nat → Nat)) (d : Nat → Nat) : Prop := d ∈ L ∧ ∀ e ∈ L, cst a kc d < cst a kc e ∨ (cst a kc d = cst a kc e ∧ pd_enc e ≤ pd_enc d)
theorem Best.uniq {a : Nat} {kc : Nat → Nat} {L : List (Nat → Nat)} {d e : Nat → Nat} (hw : ∀ c ∈ L, pd_wf c) (h1 : Best a kc L d) (h2 : Best a kc L e) : d = e := by
  refine pd_enc_inj (hw d h1.1) (hw e h2.1) ?_
  have a1 := h1.2 e h2.1
  have a2 := h2.2 d h1.1
  have b1 : pd_enc e ≤ pd_enc d := by rcases a1 with k | k <;> rcases a2 with l | l <;> first | omega | exact k.2
  have b2 : pd_enc d ≤ pd_enc e := by rcases a1 with k | k <;> rcases a2 with l | l <;> first | omega | exact l.2
  rw [Int32.le_iff_toInt_le] at b1 b2
  exact Int32.toInt_inj.mp (by omega)
section PSV
variable {th : TH} {nd : ND} {bn : List pd_B} {ask : List pd_N} {mk : Nat → Bool}
def pf_f3 (v v' : PS) : Prop := (∀ k, k ≠ 4 → v'.1 k = v.1 k) ∧ ∀ k, k ≠ 10 → k ≠ 11 → k ≠ 14 → v'.2 k = v.2 k
theorem pf_f3.tr {a b c : PS} (h : pf_f3 a b) (h2 : pf_f3 b c) : pf_f3 a c := ⟨fun k hk => (h2.1 k hk).trans (h.1 k hk), fun k h3 h4 h5 => (h2.2 k h3 h4 h5).trans (h.2 k h3 h4 h5)⟩
theorem pf_f3.of {v v' : PS} (h : pf_fr v v') : pf_f3 v v' := ⟨h.1, fun k h1 h2 _ => h.2 k h1 h2⟩
theorem pf_St.f14 {v v' : PS} {F : List (Nat → Nat)} (h : pf_St th nd bn ask mk v F) (h1 : v'.1 = v.1) (h2 : ∀ k, k ≠ 14 → v'.2 k = v.2 k) : pf_St th nd bn ask mk v' F := by
  obtain ⟨c, L, e1, e2, e3, e4, e5, e6, e7, e8, e9, e10⟩ := h
  refine ⟨c, L, e1, by rw [h1]; exact e2, ?_, ?_, e5, e6, e7, e8, by rw [h1]; exact e9, e10⟩
  · unfold pm_rep at e3 ⊢
    rw [h1, h2 0 (by decide), h2 1 (by decide), h2 2 (by decide), h2 3 (by decide), h2 4 (by decide), h2 5 (by decide), h2 6 (by decide), h2 7 (by decide), h2 8 (by decide), h2 9 (by decide)]
    exact e3
  · unfold pm_pk at e4 ⊢; rw [h2 10 (by decide)]; exact e4
theorem ms_56 (k26 : Int32 → Int32 → PS → Option (Int32 × PS)) (x1 x2 : Int32) : ∀ (m i : Nat) (v : PS), i ≤ 7 → 7 - i < m → ∃ v', l_M_solve_56 k26 m x1 x2 (nI i) v = k26 x1 x2 v' ∧ v'.1 = v.1 ∧ (∀ k, k ≠ 14 → v'.2 k = v.2 k) ∧ ∀ t, v'.2 14 t = if i ≤ t ∧ t < 7 then v.2 10 t else v.2 14 t := by
  intro m
  induction m with
  | zero => intro i v _ h; omega
  | succ m ih =>
    intro i v hi hm
    by_cases h7 : i = 7
    · subst h7
      refine ⟨v, ?_, rfl, fun _ _ => rfl, fun t => by rw [if_neg (by omega)]⟩
      show b_M_solve_56 k26 (l_M_solve_56 k26 m) x1 x2 (nI 7) v = _
      unfold b_M_solve_56
      rw [if_pos (by decide)]
    · have hlt : i < 7 := by omega
      have hin : inb (nI i) 7 = true := px_inb hlt (by decide)
      have hc : (nI i).toNatClampNeg = i := nI_clamp (by omega)
      obtain ⟨v', k1, k2, k3, k4⟩ := ih (i + 1) (sa v 14 i (v.2 10 i)) (by omega) (by omega)
      refine ⟨v', ?_, k2, fun k hk => ?_, fun t => ?_⟩
      · show b_M_solve_56 k26 (l_M_solve_56 k26 m) x1 x2 (nI i) v = _
        unfold b_M_solve_56
        rw [if_neg (show ¬ (7 : Int32) ≤ nI i from nI_ge (b := 7) hlt (by decide))]
        simp only [hin, hc, ck_t, nI_1]
        exact k1
      · rw [k3 k hk]; funext t; rw [sa_2, if_neg hk]
      · have s10 : (sa v 14 i (v.2 10 i)).2 10 t = v.2 10 t := by simp [sa_2]
        have s14 : (sa v 14 i (v.2 10 i)).2 14 t = if t = i then v.2 10 i else v.2 14 t := by simp [sa_2]
        rw [k4, s10, s14]
        by_cases e : t = i
        · subst e; rw [if_neg (by omega), if_pos rfl, if_pos (by omega)]
        · by_cases hh : i + 1 ≤ t ∧ t < 7
          · rw [if_pos hh, if_pos (by omega)]
          · rw [if_neg hh, if_neg e, if_neg (by omega)]
theorem ms_112 {d : Nat → Nat} (hd : ∀ p, p < 7 → d p ≤ 4) : ∀ (m i k : Nat) (v : PS), i ≤ 7 → 7 - i < m → (∀ p, p < 7 → v.2 14 p = nI (d p) - 1) → ∃ v', l_M_solve_112 m (nI k) (nI i) v = some (nI (k + pc_cn (fun p => !decide (d p = 0)) (7 - i)), v') ∧ v'.1 = v.1 ∧ (∀ k, k ≠ 12 → v'.2 k = v.2 k) ∧ ∀ t, v'.2 12 t = if i ≤ t ∧ t < 7 then v.2 14 t else v.2 12 t := by
  intro m
  induction m with
  | zero => intro i k v _ h; omega
  | succ m ih =>
    intro i k v hi hm h14
    by_cases h7 : i = 7
    · subst h7
      refine ⟨v, ?_, rfl, fun _ _ => rfl, fun t => by rw [if_neg (by omega)]⟩
      show b_M_solve_112 (l_M_solve_112 m) (nI k) (nI 7) v = _
      unfold b_M_solve_112
      rw [if_pos (by decide)]; rfl
    · have hlt : i < 7 := by omega
      have hin : inb (nI i) 7 = true := px_inb hlt (by decide)
      have hc : (nI i).toNatClampNeg = i := nI_clamp (by omega)
      have h4 := hd i hlt
      have fin : ∀ (K : Nat) (v' : PS), v'.1 = (sa v 12 i (v.2 14 i)).1 → (∀ k, k ≠ 12 → v'.2 k = (sa v 12 i (v.2 14 i)).2 k) → (∀ t, v'.2 12 t = if i + 1 ≤ t ∧ t < 7 then (sa v 12 i (v.2 14 i)).2 14 t else (sa v 12 i (v.2 14 i)).2 12 t) → v'.1 = v.1 ∧ (∀ k, k ≠ 12 → v'.2 k = v.2 k) ∧ ∀ t, v'.2 12 t = if i ≤ t ∧ t < 7 then v.2 14 t else v.2 12 t := by
        intro K v' k2 k3 k4
        refine ⟨k2, fun k hk => ?_, fun t => ?_⟩
        · rw [k3 k hk]; funext t; rw [sa_2, if_neg hk]
        · have s14 : (sa v 12 i (v.2 14 i)).2 14 t = v.2 14 t := by simp [sa_2]
          have s12 : (sa v 12 i (v.2 14 i)).2 12 t = if t = i then v.2 14 i else v.2 12 t := by simp [sa_2]
          rw [k4, s14, s12]
          by_cases e : t = i
          · subst e; rw [if_neg (by omega), if_pos rfl, if_pos (by omega)]
          · by_cases hh : i + 1 ≤ t ∧ t < 7
            · rw [if_pos hh, if_pos (by omega)]
            · rw [if_neg hh, if_neg e, if_neg (by omega)]
      have h14' : ∀ p, p < 7 → (sa v 12 i (v.2 14 i)).2 14 p = nI (d p) - 1 := fun p hp => by
        rw [sa_2, if_neg (by decide)]; exact h14 p hp
      have hb : l_M_solve_112 (m + 1) (nI k) (nI i) v = if d i = 0 then l_M_solve_112 m (nI k) (nI (i + 1)) (sa v 12 i (v.2 14 i)) else l_M_solve_112 m (nI (k + 1)) (nI (i + 1)) (sa v 12 i (v.2 14 i)) := by
        show b_M_solve_112 (l_M_solve_112 m) (nI k) (nI i) v = _
        unfold b_M_solve_112
        rw [if_neg (show ¬ (7 : Int32) ≤ nI i from nI_ge (b := 7) hlt (by decide))]
        simp only [hin, hc, ck_t, nI_1]
        by_cases e : d i = 0
        · rw [if_pos e, if_pos (by rw [h14 i hlt]; exact (pm_m1 (by omega)).mpr e), show nI k + 0 = nI k by simp]
        · rw [if_neg e, if_neg (fun z => e ((pm_m1 (by omega)).mp (by rw [← h14 i hlt]; exact z)))]
      rw [hb, pc_cn_s _ hlt]
      by_cases e : d i = 0
      · obtain ⟨v', k1, k2, k3, k4⟩ := ih (i + 1) k (sa v 12 i (v.2 14 i)) (by omega) (by omega) h14'
        obtain ⟨j1, j2, j3⟩ := fin k v' k2 k3 k4
        refine ⟨v', ?_, j1, j2, j3⟩
        rw [if_pos e, k1]; simp [e]
      · obtain ⟨v', k1, k2, k3, k4⟩ := ih (i + 1) (k + 1) (sa v 12 i (v.2 14 i)) (by omega) (by omega) h14'
        obtain ⟨j1, j2, j3⟩ := fin k v' k2 k3 k4
        refine ⟨v', ?_, j1, j2, j3⟩
        rw [if_neg e, k1]; simp [e, Nat.add_assoc]
def msI (a : Nat) (kc : Nat → Nat) (D : List (Nat → Nat)) (k : Nat) (v : PS) : Prop := (D = [] ∧ k = 100) ∨ ∃ d0, Best a kc D d0 ∧ k = cst a kc d0 ∧ ∀ p, p < 7 → v.2 14 p = nI (d0 p) - 1
theorem ms_26 {a : Nat} (ha : a ≤ 2) {kc : Nat → Nat} (hkc : ∀ p, p < 7 → kc p ≤ 4) : ∀ (m : Nat) (F D : List (Nat → Nat)) (v : PS) (k : Nat), pf_St th nd bn ask mk v F → F.length < m → (D ++ F).Pairwise pf_gt → (∀ d ∈ D ++ F, pd_wf d) → msI a kc D k v → (∀ p, p < 7 → v.2 13 p = nI (kc p) - 1) →
    ∃ (k' : Nat) (v' : PS), l_M_solve_26 m (nI a) (nI k) v = b_M_solve_86 (nI k') v' ∧ pf_f3 v v' ∧ (∃ c, pm_pk v' c) ∧ msI a kc (D ++ F) k' v' := by
  intro m
  induction m with
  | zero => intro F D v k _ h; omega
  | succ m ih =>
    intro F D v k hst hm hpw hwf hI h13
    have hstep : l_M_solve_26 (m + 1) (nI a) (nI k) v = b_M_solve_26 (l_M_solve_26 m) (nI a) (nI k) v := rfl
    rw [hstep]
    unfold b_M_solve_26
    have hlt : ∀ e ∈ D, ∀ f ∈ F, pd_enc f < pd_enc e := fun e he f hf => pf_enc_lt (hwf e (List.mem_append_left _ he)) ((List.pairwise_append.mp hpw).2.2 e he f hf)
    have hk100 : k ≤ 100 := by
      rcases hI with ⟨-, h⟩ | ⟨d0, -, h, -⟩
      · omega
      · have := cst_le a kc d0; omega
    by_cases hk0 : k = 0
    · subst hk0
      obtain ⟨c, hc⟩ : ∃ c, pm_pk v c := by obtain ⟨c, L, -, -, -, h, -⟩ := hst; exact ⟨c, h⟩
      refine ⟨0, v, by rw [if_pos (by decide)], ⟨fun _ _ => rfl, fun _ _ _ _ => rfl⟩, ⟨c, hc⟩, ?_⟩
      rcases hI with ⟨-, h⟩ | ⟨d0, hB, h, h14⟩
      · omega
      · refine Or.inr ⟨d0, ⟨List.mem_append_left _ hB.1, fun e he => ?_⟩, h, h14⟩
        rcases List.mem_append.mp he with he | he
        · exact hB.2 e he
        · rw [← h]
          by_cases hz : cst a kc e = 0
          · exact Or.inr ⟨hz.symm, Int32.le_of_lt (hlt d0 hB.1 e he)⟩
          · exact Or.inl (by omega)
    rw [if_neg (nI_nle (by omega) (by omega))]
    obtain ⟨y, v1, e1, e2, e3, e4⟩ := pf_next hst
    rw [e1, Option.bind_some]
    rcases e4 with ⟨rfl, rfl⟩ | ⟨d, F', rfl, rfl, hval, hpk, hst'⟩
    · refine ⟨k, v1, by rw [if_pos rfl], pf_f3.of e2, e3, ?_⟩
      rw [List.append_nil]
      rcases hI with h | ⟨d0, hB, h, h14⟩
      · exact Or.inl h
      · exact Or.inr ⟨d0, hB, h, fun p hp => by rw [e2.2 14 (by decide) (by decide)]; exact h14 p hp⟩
    · have h13' : ∀ p, p < 7 → v1.2 13 p = nI (kc p) - 1 := fun p hp => by rw [e2.2 13 (by decide) (by decide)]; exact h13 p hp
      have hcost := ms_cost ha hpk hkc h13'
      have hcle := cst_le a kc d
      have happ : D ++ d :: F' = (D ++ [d]) ++ F' := by simp
      rw [if_neg (show ¬ (1 : Int32) = 0 by decide), hcost, Option.bind_some]
      by_cases hlt2 : cst a kc d < k
      · rw [if_pos ((nI_ltI (by omega) (by omega)).mpr hlt2)]
        obtain ⟨v2, g1, g2, g3, g4⟩ := ms_56 (l_M_solve_26 m) (nI a) (nI (cst a kc d)) NF 0 v1 (by omega) (by show _ < 1000000; omega)
        have hB : Best a kc (D ++ [d]) d := by
          refine ⟨List.mem_append_right _ (List.mem_singleton.mpr rfl), fun e he => ?_⟩
          rcases List.mem_append.mp he with he | he
          · rcases hI with ⟨h, -⟩ | ⟨d0, hB, h, -⟩
            · rw [h] at he; cases he
            · have := hB.2 e he
              exact Or.inl (by omega)
          · rw [List.mem_singleton.mp he]
            exact Or.inr ⟨rfl, Int32.le_refl _⟩
        obtain ⟨k', v', r1, r2, r3, r4⟩ := ih F' (D ++ [d]) v2 (cst a kc d) (hst'.f14 g2 g3) (by simp at hm; omega) (by rw [← happ]; exact hpw) (by rw [← happ]; exact hwf)
          (Or.inr ⟨d, hB, rfl, fun p hp => by rw [g4, if_pos ⟨by omega, hp⟩]; exact (hpk p hp).1⟩) (fun p hp => by rw [g3 13 (by decide)]; exact h13' p hp)
        refine ⟨k', v', ?_, (pf_f3.of e2).tr (pf_f3.tr ⟨fun k _ => by rw [g2], fun k _ _ h => g3 k h⟩ r2), r3, by rw [happ]; exact r4⟩
        exact (show l_M_solve_56 (l_M_solve_26 m) NF (nI a) (nI (cst a kc d)) 0 v1 = _ from g1).trans r1
      · rw [if_neg (fun z => hlt2 ((nI_ltI (by omega) (by omega)).mp z))]
        have hI2 : msI a kc (D ++ [d]) k v1 := by
          rcases hI with ⟨-, h⟩ | ⟨d0, hB, h, h14⟩
          · omega
          · refine Or.inr ⟨d0, ⟨List.mem_append_left _ hB.1, fun e he => ?_⟩, h, fun p hp => by rw [e2.2 14 (by decide) (by decide)]; exact h14 p hp⟩
            rcases List.mem_append.mp he with he | he
            · exact hB.2 e he
            · rw [List.mem_singleton.mp he]
              have hl := hlt d0 hB.1 d List.mem_cons_self
              by_cases hz : cst a kc d0 = cst a kc d
              · exact Or.inr ⟨hz, Int32.le_of_lt hl⟩
              · exact Or.inl (by omega)
        obtain ⟨k', v', r1, r2, r3, r4⟩ := ih F' (D ++ [d]) v1 k hst' (by simp at hm; omega) (by rw [← happ]; exact hpw) (by rw [← happ]; exact hwf) hI2 h13'
        exact ⟨k', v', r1, (pf_f3.of e2).tr r2, r3, by rw [happ]; exact r4⟩
end PSV
