/-! finds(): all choices in their order, greatest first -/
def pf_ext : Nat → (Nat → Nat) → List (Nat → Nat)
  | 0, c => [c]
  | k + 1, c => (List.range 5).reverse.flatMap (fun v => pf_ext k (va_up c (6 - k) v))
def pf_rest : Nat → (Nat → Nat) → List (Nat → Nat)
  | 0, _ => []
  | l + 1, c => (List.range (c l)).reverse.flatMap (fun v => pf_ext (6 - l) (va_up c l v)) ++ pf_rest l c
theorem pf_ext_congr : ∀ (k : Nat) (c d : Nat → Nat), k ≤ 7 → (∀ i, i < 7 - k ∨ 7 ≤ i → c i = d i) → pf_ext k c = pf_ext k d := by
  intro k
  induction k with
  | zero =>
    intro c d _ h
    have : c = d := funext fun i => h i (by omega)
    rw [this]
  | succ k ih =>
    intro c d hk h
    unfold pf_ext
    congr 1
    funext v
    refine ih _ _ (by omega) fun i hi => ?_
    unfold va_up
    by_cases e : i = 6 - k
    · rw [if_pos e, if_pos e]
    · rw [if_neg e, if_neg e]; exact h i (by omega)
theorem pf_rest_congr : ∀ (l : Nat) (c d : Nat → Nat), l ≤ 7 → (∀ i, i < l ∨ 7 ≤ i → c i = d i) → pf_rest l c = pf_rest l d := by
  intro l
  induction l with
  | zero => intro c d _ _; rfl
  | succ l ih =>
    intro c d hl h
    unfold pf_rest
    rw [h l (by omega), ih c d (by omega) (fun i hi => h i (by omega))]
    congr 2
    funext v
    refine pf_ext_congr _ _ _ (by omega) fun i hi => ?_
    unfold va_up
    by_cases e : i = l
    · rw [if_pos e, if_pos e]
    · rw [if_neg e, if_neg e]; exact h i (by omega)
theorem pf_R0 {l : Nat} {c : Nat → Nat} (h : c l = 0) : pf_rest (l + 1) c = pf_rest l c := by
  show (List.range (c l)).reverse.flatMap _ ++ pf_rest l c = _
  rw [h]; rfl
theorem pf_R1 {l v : Nat} {c : Nat → Nat} (hl : l < 7) (h : c l = v + 1) : pf_rest (l + 1) c = pf_ext (6 - l) (va_up c l v) ++ pf_rest (l + 1) (va_up c l v) := by
  show (List.range (c l)).reverse.flatMap (fun v => pf_ext (6 - l) (va_up c l v)) ++ pf_rest l c = pf_ext (6 - l) (va_up c l v) ++ ((List.range (va_up c l v l)).reverse.flatMap (fun z => pf_ext (6 - l) (va_up (va_up c l v) l z)) ++ pf_rest l (va_up c l v))
  rw [h, List.range_succ, List.reverse_append, List.reverse_singleton, List.singleton_append, List.flatMap_cons, va_up_self, List.append_assoc]
  congr 2
  · congr 1
    funext z
    rw [bx_uu]
  · refine pf_rest_congr l _ _ (by omega) fun i hi => ?_
    rw [va_up_ne _ _ (by omega)]
theorem pf_R2 {l : Nat} {c : Nat → Nat} (hl : l < 6) : pf_rest (l + 2) (va_up c (l + 1) 5) = pf_ext (6 - l) c ++ pf_rest (l + 1) c := by
  show (List.range (va_up c (l + 1) 5 (l + 1))).reverse.flatMap (fun z => pf_ext (6 - (l + 1)) (va_up (va_up c (l + 1) 5) (l + 1) z)) ++ pf_rest (l + 1) (va_up c (l + 1) 5) = _
  rw [va_up_self, pf_rest_congr (l + 1) (va_up c (l + 1) 5) c (by omega) (fun i hi => by rw [va_up_ne _ _ (by omega)])]
  obtain ⟨k, hk⟩ : ∃ k, 6 - l = k + 1 := ⟨5 - l, by omega⟩
  rw [hk]
  congr 1
  show _ = (List.range 5).reverse.flatMap (fun v => pf_ext k (va_up c (6 - k) v))
  congr 1
  funext z
  rw [bx_uu, show 6 - (l + 1) = k by omega, show 6 - k = l + 1 by omega]
theorem pf_ext_mem : ∀ (k : Nat) (c d : Nat → Nat), k ≤ 7 → (d ∈ pf_ext k c ↔ (∀ i, i < 7 - k ∨ 7 ≤ i → d i = c i) ∧ ∀ i, 7 - k ≤ i → i < 7 → d i ≤ 4) := by
  intro k
  induction k with
  | zero =>
    intro c d _
    unfold pf_ext
    rw [List.mem_singleton]
    constructor
    · intro h; subst h; exact ⟨fun _ _ => rfl, fun i h1 h2 => by omega⟩
    · intro h; exact funext fun i => h.1 i (by omega)
  | succ k ih =>
    intro c d hk
    unfold pf_ext
    rw [List.mem_flatMap]
    constructor
    · rintro ⟨v, hv, h⟩
      rw [List.mem_reverse, List.mem_range] at hv
      obtain ⟨h1, h2⟩ := (ih _ _ (by omega)).mp h
      refine ⟨fun i hi => ?_, fun i k1 k2 => ?_⟩
      · rw [h1 i (by omega), va_up_ne _ _ (by omega)]
      · by_cases e : i = 6 - k
        · rw [h1 i (by omega), e, va_up_self]; omega
        · exact h2 i (by omega) k2
    · rintro ⟨h1, h2⟩
      refine ⟨d (6 - k), ?_, (ih _ _ (by omega)).mpr ⟨fun i hi => ?_, fun i k1 k2 => h2 i (by omega) k2⟩⟩
      · rw [List.mem_reverse, List.mem_range]
        have := h2 (6 - k) (by omega) (by omega)
        omega
      · by_cases e : i = 6 - k
        · rw [e, va_up_self]
        · rw [va_up_ne _ _ e]; exact h1 i (by omega)
section PF
variable {th : Nat → Nat → Bool} {nd : Nat → Nat → List pd_N} {bn : List pd_B} {ask : List pd_N} {mk : Nat → Bool}
noncomputable def pf_F (th : Nat → Nat → Bool) (nd : Nat → Nat → List pd_N) (bn : List pd_B) (ak : List pd_N) (L : List (Nat → Nat)) : List (Nat → Nat) := L.filter (fun d => @decide (pd_val th nd bn ak d) (Classical.propDecidable _))
theorem pf_F_mem {ak : List pd_N} {L : List (Nat → Nat)} {d : Nat → Nat} : d ∈ pf_F th nd bn ak L ↔ d ∈ L ∧ pd_val th nd bn ak d := by
  unfold pf_F
  rw [List.mem_filter, @decide_eq_true_iff _ (Classical.propDecidable _)]
theorem pf_F_app {ak : List pd_N} (L M : List (Nat → Nat)) : pf_F th nd bn ak (L ++ M) = pf_F th nd bn ak L ++ pf_F th nd bn ak M := List.filter_append ..
theorem pf_F_nil {ak : List pd_N} {L : List (Nat → Nat)} (h : ∀ d ∈ L, ¬ pd_val th nd bn ak d) : pf_F th nd bn ak L = [] := by
  unfold pf_F
  rw [List.filter_eq_nil_iff]
  intro d hd
  rw [@decide_eq_true_iff _ (Classical.propDecidable _)]
  exact h d hd
theorem pf_F_one {ak : List pd_N} {d : Nat → Nat} (h : pd_val th nd bn ak d) : pf_F th nd bn ak [d] = [d] := by
  unfold pf_F
  rw [List.filter_cons, if_pos ((@decide_eq_true_iff _ (Classical.propDecidable _)).mpr h)]
  rfl
/-- a valid choice goes at every level; goes looks at nothing above -/
theorem pf_G_val (hgn : ∀ (i : Nat) (n : pd_N), ask[i]? = some n → pd_gn n) {c : Nat → Nat} (hv : pd_ok th nd bn (pd_sel ask mk) c) {p : Nat} (hp : p < 7) : pm_G th nd bn ask mk c p := by
  obtain ⟨o1, o2, o3, o4⟩ := hv
  refine ⟨fun w e => o1 p w hp e, fun j n _ hj hn _ => o2 n ((pd_sel_iff _ _ _).mpr ⟨j, hj, hn⟩), fun j b _ hb _ _ => o3 b (List.mem_of_getElem? hb), fun q w hq e n hn _ => o4 q w (by omega) e n hn⟩
theorem pf_G_ok (hb : ∀ (k : Nat) (b : pd_B), bn[k]? = some b → pd_gb b) (hnd : ∀ p w, p < 7 → w < 4 → ∀ n ∈ nd p w, n.1 < 7) (hgn : ∀ (i : Nat) (n : pd_N), ask[i]? = some n → pd_gn n) {c : Nat → Nat} (h4 : ∀ p, p < 7 → c p ≤ 4) (h : ∀ p, p < 7 → pm_G th nd bn ask mk c p) : pd_ok th nd bn (pd_sel ask mk) c := by
  refine ⟨fun p w hp e => (h p hp).1 w e, fun n hn => ?_, fun b hbm => ?_, fun p w hp e n hn => ?_⟩
  · obtain ⟨j, h1, h2⟩ := (pd_sel_iff _ _ _).mp hn
    exact (h n.1 (hgn j n h2).1).2.1 j n (by omega) h1 h2 rfl
  · obtain ⟨j, hj⟩ := List.getElem?_of_mem hbm
    have g := hb j b hj
    exact (h 6 (by omega)).2.2.1 j b (by omega) hj (by have := g.1; omega) (by have := g.2.2.1; omega)
  · have := h4 p hp
    exact (h 6 (by omega)).2.2.2 p w (by omega) e n hn (by have := hnd p w hp (by omega) n hn; omega)
theorem pf_G_congr (hnd : ∀ p w, p < 7 → w < 4 → ∀ n ∈ nd p w, n.1 < 7) {c d : Nat → Nat} {p : Nat} (h : ∀ i, i ≤ p → c i = d i) (hc : pm_G th nd bn ask mk c p) : pm_G th nd bn ask mk d p := by
  obtain ⟨h1, h2, h3, h4⟩ := hc
  refine ⟨fun w e => h1 w (by rw [h p (by omega)]; exact e), fun j n hj hm hn e => ?_, fun j b hj hb k1 k2 => ?_, fun q w hq e n hn hn1 => ?_⟩
  · have := h2 j n hj hm hn e
    unfold pd_met at this ⊢
    rw [← h n.1 (by omega)]; exact this
  · rw [← h _ k1, ← h _ k2]; exact h3 j b hj hb k1 k2
  · have := h4 q w hq (by rw [h q hq]; exact e) n hn hn1
    unfold pd_met at this ⊢
    rw [← h n.1 hn1]; exact this
def pf_t : Nat → Nat
  | 0 => 1
  | k + 1 => 2 + 5 * pf_t k
def pf_mu : Nat → (Nat → Nat) → Nat
  | 0, _ => 0
  | l + 1, c => c l * pf_t (6 - l) + 1 + pf_mu l c
theorem pf_mu_congr : ∀ (l : Nat) (c d : Nat → Nat), (∀ i, i < l → c i = d i) → pf_mu l c = pf_mu l d := by
  intro l
  induction l with
  | zero => intro c d _; rfl
  | succ l ih =>
    intro c d h
    unfold pf_mu
    rw [h l (by omega), ih c d (fun i hi => h i (by omega))]
theorem pf_t_pos : ∀ k, 1 ≤ pf_t k := by
  intro k
  cases k with
  | zero => exact Nat.le_refl 1
  | succ k => unfold pf_t; omega
/-- what finds leaves as it is -/
def pf_fr (v v' : PS) : Prop := (∀ k, k ≠ 4 → v'.1 k = v.1 k) ∧ ∀ k, k ≠ 10 → k ≠ 11 → v'.2 k = v.2 k
theorem pf_fr.rf (v : PS) : pf_fr v v := ⟨fun _ _ => rfl, fun _ _ _ => rfl⟩
theorem pf_fr.tr {a b c : PS} (h : pf_fr a b) (h2 : pf_fr b c) : pf_fr a c := ⟨fun k hk => (h2.1 k hk).trans (h.1 k hk), fun k h3 h4 => (h2.2 k h3 h4).trans (h.2 k h3 h4)⟩
theorem pf_fr.of {v v' : PS} (h : pm_fr v v') : pf_fr v v' := ⟨fun k _ => by rw [h.1], fun k _ h11 => h.2 k h11⟩
theorem pf_frsi (v : PS) (x : Int32) : pf_fr v (si v 4 x) := ⟨fun k hk => by unfold si; simp [va_up, hk], fun _ _ _ => rfl⟩
theorem pf_frsa (v : PS) (i : Nat) (x : Int32) : pf_fr v (sa v 10 i x) := ⟨fun _ _ => rfl, fun k hk _ => by unfold sa; simp [va_up, hk]⟩
theorem pf_rep {v v' : PS} (hr : pm_rep th nd bn ask v) (h : pf_fr v v') : pm_rep th nd bn ask v' := by
  unfold pm_rep
  rw [h.1 1 (by omega), h.1 2 (by omega), h.2 0 (by omega) (by omega), h.2 1 (by omega) (by omega), h.2 2 (by omega) (by omega), h.2 3 (by omega) (by omega), h.2 4 (by omega) (by omega), h.2 5 (by omega) (by omega), h.2 6 (by omega) (by omega), h.2 7 (by omega) (by omega), h.2 8 (by omega) (by omega), h.2 9 (by omega) (by omega)]
  exact hr
theorem pf_sa10 (v : PS) (i : Nat) (x : Int32) (j : Nat) : (sa v 10 i x).2 10 j = if j = i then x else v.2 10 j := by
  unfold sa; simp [va_up, upd]
theorem pf_pk_sa {v : PS} {c : Nat → Nat} (hk : pm_pk v c) (i x : Nat) (hx : x ≤ 5) (X : Int32) (hX : X = nI x - 1) : pm_pk (sa v 10 i X) (va_up c i x) := by
  intro p hp
  rw [pf_sa10]
  by_cases e : p = i
  · subst e; rw [if_pos rfl, va_up_self]; exact ⟨hX, hx⟩
  · rw [if_neg e, va_up_ne _ _ e]; exact hk p hp
theorem pf_finds : ∀ (m : Nat) (v : PS) (c : Nat → Nat) (L : Nat), L ≤ 7 → v.1 4 = nI L - 1 → pm_rep th nd bn ask v → pm_pk v c → (∀ q, q + 1 < L → c q ≤ 4) → (∀ q, 7 ≤ q → c q = 0) → (∀ q, q + 1 < L → pm_G th nd bn ask mk c q) → pf_mu L c < m → bt (v.1 3) = mk →
    ∃ (y : Int32) (v' : PS), l_M_finds_0 m v = some (y, v') ∧ pf_fr v v' ∧ (∃ c', pm_pk v' c') ∧
      ((pf_F th nd bn (pd_sel ask mk) (pf_rest L c) = [] ∧ y = 0) ∨
       ∃ d F', pf_F th nd bn (pd_sel ask mk) (pf_rest L c) = d :: F' ∧ y = 1 ∧ pd_val th nd bn (pd_sel ask mk) d ∧ pm_pk v' d ∧ v'.1 4 = nI 7 - 1 ∧ pf_F th nd bn (pd_sel ask mk) (pf_rest 7 d) = F') := by
  intro m
  induction m with
  | zero => intro v c L _ _ _ _ _ _ _ h; omega
  | succ m ih =>
    intro v c L hL hlv hr hk h4 h7 hG0 hm hmk
    have hu : l_M_finds_0 (m + 1) v = b_M_finds_0 (l_M_finds_0 m) v := rfl
    rw [hu]
    unfold b_M_finds_0
    rw [hlv]
    cases L with
    | zero =>
      rw [if_pos (by decide)]
      exact ⟨0, v, rfl, pf_fr.rf v, ⟨c, hk⟩, Or.inl ⟨rfl, rfl⟩⟩
    | succ l =>
      have hl7 : l < 7 := by omega
      have hnd : ∀ p w, p < 7 → w < 4 → ∀ n ∈ nd p w, n.1 < 7 := fun p w hp hw n hn => by
        obtain ⟨j, hj⟩ := List.getElem?_of_mem hn
        exact ((hr.2.1 p w hp hw).2.2 j n hj).2.2.2.1
      have hgn : ∀ (i : Nat) (n : pd_N), ask[i]? = some n → pd_gn n := fun i n h => (hr.2.2.2.2.2 i n h).2.2.2
      have hgb : ∀ (k : Nat) (b : pd_B), bn[k]? = some b → pd_gb b := fun k b h => (hr.2.2.1.2.2 k b h).2.2
      rw [nI_pred, if_neg (nI_pos (show l < 2 ^ 31 by omega)), px_ck _ (px_inb hl7 (by omega)), nI_clamp (show l < 2 ^ 31 by omega), (hk l hl7).1]
      have hc5 := (hk l hl7).2
      by_cases h0 : c l = 0
      · rw [if_pos ((pm_m1 (by omega)).mpr h0)]
        obtain ⟨y, v', e1, e2, e3⟩ := ih (si v 4 (nI l - 1)) c l (by omega) rfl (pf_rep hr (pf_frsi v _)) hk (fun q hq => h4 q (by omega)) h7 (fun q hq => hG0 q (by omega)) (by
          have : pf_mu (l + 1) c = c l * pf_t (6 - l) + 1 + pf_mu l c := rfl
          rw [h0] at this
          omega) hmk
        rw [pf_R0 h0]
        exact ⟨y, v', e1, (pf_frsi v _).tr e2, e3⟩
      · obtain ⟨w, hw⟩ : ∃ w, c l = w + 1 := ⟨c l - 1, by omega⟩
        rw [if_neg (fun z => h0 ((pm_m1 (by omega)).mp z)), px_ck _ (px_inb hl7 (by omega)), px_ck _ (px_inb hl7 (by omega)), hw, nI_pred]
        have hk' : pm_pk (sa v 10 l (nI w - 1)) (va_up c l w) := pf_pk_sa hk l w (by omega) _ rfl
        have hr' := pf_rep hr (pf_frsa v l (nI w - 1))
        have h4' : ∀ q, q ≤ l → va_up c l w q ≤ 4 := fun q hq => by
          by_cases e : q = l
          · subst e; rw [va_up_self]; omega
          · rw [va_up_ne _ _ e]; exact h4 q (by omega)
        have h7' : ∀ q, 7 ≤ q → va_up c l w q = 0 := fun q hq => by rw [va_up_ne _ _ (by omega)]; exact h7 q hq
        have hG1 : ∀ q, q < l → pm_G th nd bn ask mk (va_up c l w) q := fun q hq => pf_G_congr hnd (fun i hi => (va_up_ne _ _ (by omega)).symm) (hG0 q (by omega))
        have hmu : pf_mu (l + 1) (va_up c l w) + pf_t (6 - l) = pf_mu (l + 1) c := by
          have e1 : pf_mu (l + 1) c = c l * pf_t (6 - l) + 1 + pf_mu l c := rfl
          have e2 : pf_mu (l + 1) (va_up c l w) = va_up c l w l * pf_t (6 - l) + 1 + pf_mu l (va_up c l w) := rfl
          rw [va_up_self, pf_mu_congr l (va_up c l w) c (fun i hi => va_up_ne _ _ (by omega))] at e2
          rw [e1, e2, hw, Nat.add_mul]
          omega
        have htp := pf_t_pos (6 - l)
        obtain ⟨g, g1, g2, g3⟩ := pm_goes hr' hk' hl7 h4'
        have hmk' : bt ((sa v 10 l (nI w - 1)).1 3) = mk := hmk
        rw [hmk'] at g3
        rw [g2]
        rw [Option.bind_some]
        rw [pf_R1 hl7 hw, pf_F_app]
        rcases g1 with rfl | rfl
        · rw [if_pos rfl]
          have hnil : pf_F th nd bn (pd_sel ask mk) (pf_ext (6 - l) (va_up c l w)) = [] := pf_F_nil fun d hd hv => by
            have hd' := ((pf_ext_mem _ _ _ (by omega)).mp hd).1
            have := g3.mpr (pf_G_congr hnd (fun i hi => hd' i (by omega)) (pf_G_val hgn hv.2.1 hl7))
            exact absurd this (by decide)
          rw [hnil, List.nil_append]
          obtain ⟨y, v', e1, e2, e3⟩ := ih _ (va_up c l w) (l + 1) hL (by show v.1 4 = _; exact hlv) hr' hk' (fun q hq => h4' q (by omega)) h7' (fun q hq => hG1 q (by omega)) (by omega) hmk'
          exact ⟨y, v', e1, (pf_frsa v _ _).tr e2, e3⟩
        · rw [if_neg (by decide)]
          have hG := g3.mp rfl
          by_cases hl6 : l = 6
          · subst hl6
            rw [if_pos (by decide)]
            obtain ⟨z, v2, z1, z2, z3, z4⟩ := pm_isTight hr' hk' (fun q hq => h4' q (by omega))
            rw [hmk'] at z4
            rw [z3]
            rw [Option.bind_some]
            dsimp only
            have hr2 := hr'.fr z2
            have hk2 := hk'.fr z2
            have hlv2 : v2.1 4 = nI 7 - 1 := by rw [z2.1]; exact hlv
            have hmk2 : bt (v2.1 3) = mk := by rw [z2.1]; exact hmk
            show ∃ y v', _ ∧ pf_fr v v' ∧ (∃ c', pm_pk v' c') ∧ ((pf_F th nd bn (pd_sel ask mk) [va_up c 6 w] ++ _ = [] ∧ y = 0) ∨ ∃ d F', pf_F th nd bn (pd_sel ask mk) [va_up c 6 w] ++ _ = d :: F' ∧ _)
            rcases z1 with rfl | rfl
            · rw [if_pos rfl]
              have hnil : pf_F th nd bn (pd_sel ask mk) [va_up c 6 w] = [] := pf_F_nil fun d hd hv => by
                rw [List.mem_singleton] at hd
                subst hd
                exact absurd (z4.mpr hv.2.2) (by decide)
              rw [hnil, List.nil_append]
              obtain ⟨y, v', e1, e2, e3⟩ := ih v2 (va_up c 6 w) 7 (by omega) hlv2 hr2 hk2 (fun q hq => h4' q (by omega)) h7' (fun q hq => hG1 q (by omega)) (by show pf_mu (6 + 1) (va_up c 6 w) < m; omega) hmk2
              exact ⟨y, v', e1, ((pf_frsa v _ _).tr (pf_fr.of z2)).tr e2, e3⟩
            · rw [if_neg (by decide)]
              have hval : pd_val th nd bn (pd_sel ask mk) (va_up c 6 w) := by
                refine ⟨⟨fun p hp => h4' p (by omega), h7'⟩, pf_G_ok hgb hnd hgn (fun p hp => h4' p (by omega)) (fun p hp => ?_), z4.mp rfl⟩
                by_cases e : p = 6
                · subst e; exact hG
                · exact hG1 p (by omega)
              rw [pf_F_one hval]
              exact ⟨1, v2, rfl, (pf_frsa v _ _).tr (pf_fr.of z2), ⟨_, hk2⟩, Or.inr ⟨va_up c 6 w, _, rfl, rfl, hval, hk2, hlv2, rfl⟩⟩
          · rw [if_neg (show ¬ (7 : Int32) ≤ nI l + 1 from by rw [nI_1]; exact nI_ge (b := 7) (by omega) (by omega)), nI_1, px_ck _ (px_inb (show l + 1 < 7 by omega) (by omega)), nI_clamp (show l + 1 < 2 ^ 31 by omega)]
            have hk2 : pm_pk (sa (si (sa v 10 l (nI w - 1)) 4 (nI (l + 1))) 10 (l + 1) 4) (va_up (va_up c l w) (l + 1) 5) := pf_pk_sa (v := si (sa v 10 l (nI w - 1)) 4 (nI (l + 1))) hk' (l + 1) 5 (by omega) _ (by decide)
            have fr2 : pf_fr v (sa (si (sa v 10 l (nI w - 1)) 4 (nI (l + 1))) 10 (l + 1) 4) := ((pf_frsa v _ _).tr (pf_frsi _ _)).tr (pf_frsa _ _ _)
            obtain ⟨y, v', e1, e2, e3⟩ := ih _ (va_up (va_up c l w) (l + 1) 5) (l + 2) (by omega) (by rw [nI_pred]; rfl) (pf_rep hr fr2) hk2 (fun q hq => by
                rw [va_up_ne _ _ (by omega)]; exact h4' q (by omega)) (fun q hq => by rw [va_up_ne _ _ (by omega)]; exact h7' q hq) (fun q hq => by
                have hc : ∀ i, i ≤ q → va_up c l w i = va_up (va_up c l w) (l + 1) 5 i := fun i hi => (va_up_ne _ _ (by omega)).symm
                by_cases e : q = l
                · subst e; exact pf_G_congr hnd hc hG
                · exact pf_G_congr hnd hc (hG1 q (by omega))) (by
                have e1 : pf_mu (l + 2) (va_up (va_up c l w) (l + 1) 5) = va_up (va_up c l w) (l + 1) 5 (l + 1) * pf_t (6 - (l + 1)) + 1 + pf_mu (l + 1) (va_up (va_up c l w) (l + 1) 5) := rfl
                rw [va_up_self, pf_mu_congr (l + 1) (va_up (va_up c l w) (l + 1) 5) (va_up c l w) (fun i hi => va_up_ne _ _ (by omega))] at e1
                have e2 : pf_t (6 - l) = 2 + 5 * pf_t (6 - (l + 1)) := by
                  rw [show 6 - l = (6 - (l + 1)) + 1 by omega]; rfl
                omega) hmk
            rw [show l + 1 + 1 = l + 2 from rfl, pf_R2 (by omega), pf_F_app] at e3
            exact ⟨y, v', e1, fr2.tr e2, e3⟩
end PF
