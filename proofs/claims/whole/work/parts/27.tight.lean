/-! isTight -/
def pm_fr (v v' : PS) : Prop := v'.1 = v.1 ∧ ∀ k, k ≠ 11 → v'.2 k = v.2 k
theorem pm_fr.rf (v : PS) : pm_fr v v := ⟨rfl, fun _ _ => rfl⟩
theorem pm_fr.tr {a b c : PS} (h : pm_fr a b) (h2 : pm_fr b c) : pm_fr a c := ⟨h2.1.trans h.1, fun k hk => (h2.2 k hk).trans (h.2 k hk)⟩
theorem pm_frsa (v : PS) (i : Nat) (x : Int32) : pm_fr v (sa v 11 i x) := ⟨rfl, fun k hk => by unfold sa; simp [va_up, hk]⟩
def pm_W (v : PS) (W : Nat → Bool) : Prop := ∀ p, p < 7 → v.2 11 p = (if W p = true then 1 else 0)
theorem pm_sa11 (v : PS) (i : Nat) (x : Int32) (j : Nat) : (sa v 11 i x).2 11 j = if j = i then x else v.2 11 j := by
  unfold sa; simp [va_up, upd]
theorem pm_W.set {v : PS} {W : Nat → Bool} (h : pm_W v W) (q : Nat) : pm_W (sa v 11 q 1) (fun p => W p || decide (p = q)) := by
  intro p hp
  rw [pm_sa11]
  by_cases e : p = q
  · simp [e]
  · rw [if_neg e, h p hp]; simp [e]
theorem pm_W.is0 {v : PS} {W : Nat → Bool} (h : pm_W v W) {p : Nat} (hp : p < 7) : v.2 11 p = 0 ↔ W p = false := by
  rw [h p hp]
  cases W p <;> decide
theorem pm_rep.fr {th : Nat → Nat → Bool} {nd : Nat → Nat → List pd_N} {bn : List pd_B} {ask : List pd_N} {v v' : PS} (hr : pm_rep th nd bn ask v) (h : pm_fr v v') : pm_rep th nd bn ask v' := by
  unfold pm_rep
  rw [h.1, h.2 0 (by omega), h.2 1 (by omega), h.2 2 (by omega), h.2 3 (by omega), h.2 4 (by omega), h.2 5 (by omega), h.2 6 (by omega), h.2 7 (by omega), h.2 8 (by omega), h.2 9 (by omega)]
  exact hr
theorem pm_pk.fr {v v' : PS} {c : Nat → Nat} (hk : pm_pk v c) (h : pm_fr v v') : pm_pk v' c := by
  unfold pm_pk; rw [h.2 10 (by omega)]; exact hk
section PT
variable {th : Nat → Nat → Bool} {nd : Nat → Nat → List pd_N} {bn : List pd_B} {ask : List pd_N} {c : Nat → Nat}
theorem pm_t180 {v : PS} {W : Nat → Bool} (hk : pm_pk v c) (hW : pm_W v W) : ∀ (m i : Nat) (x2 : Int32), i ≤ 7 → 7 - i < m → x2 = 0 ∨ x2 = 1 →
    ∃ y : Int32, (y = 0 ∨ y = 1) ∧ l_M_isTight_180 m x2 (nI i) v = some (y, v) ∧ (y = 1 ↔ x2 = 1 ∧ ∀ p, i ≤ p → p < 7 → c p ≠ 0 → W p = true) := by
  intro m
  induction m with
  | zero => intro i x2 _ h; omega
  | succ m ih =>
    intro i x2 hi hm hx
    have hu : l_M_isTight_180 (m + 1) x2 (nI i) v = b_M_isTight_180 (l_M_isTight_180 m) x2 (nI i) v := rfl
    rw [hu]
    unfold b_M_isTight_180
    have hB : isB x2 = true := by rcases hx with rfl | rfl <;> decide
    by_cases h7 : 7 ≤ i
    · rw [if_pos (show (7 : Int32) ≤ nI i from nI_le (a := 7) h7 (by omega)), px_ck _ hB]
      exact ⟨x2, hx, rfl, fun h => ⟨h, fun p h1 h2 => by omega⟩, fun h => h.1⟩
    · rw [if_neg (show ¬ (7 : Int32) ≤ nI i from nI_ge (b := 7) (by omega) (by omega)), nI_1]
      have hi7 : i < 7 := by omega
      have hsplit : (∀ p, i ≤ p → p < 7 → c p ≠ 0 → W p = true) ↔ (c i ≠ 0 → W i = true) ∧ ∀ p, i + 1 ≤ p → p < 7 → c p ≠ 0 → W p = true := by
        constructor
        · intro h; exact ⟨h i (by omega) hi7, fun p h1 => h p (by omega)⟩
        · rintro ⟨h, h'⟩ p h1 h2
          by_cases e : p = i
          · subst e; exact h
          · exact h' p (by omega) h2
      rw [hsplit]
      rcases hx with rfl | rfl
      · rw [if_pos rfl]
        obtain ⟨y, y1, y2, y3⟩ := ih (i + 1) 0 (by omega) (by omega) (Or.inl rfl)
        refine ⟨y, y1, y2, ?_⟩
        rw [y3]
        constructor
        · rintro ⟨h, -⟩; exact absurd h (by decide)
        · rintro ⟨h, -⟩; exact absurd h (by decide)
      · rw [if_neg (by decide), px_ck _ (px_inb hi7 (by omega)), nI_clamp (show i < 2 ^ 31 by omega)]
        have one : (c i ≠ 0 → W i = true) → ∃ y : Int32, (y = 0 ∨ y = 1) ∧ l_M_isTight_180 m 1 (nI (i + 1)) v = some (y, v) ∧ (y = 1 ↔ (1 : Int32) = 1 ∧ (c i ≠ 0 → W i = true) ∧ ∀ p, i + 1 ≤ p → p < 7 → c p ≠ 0 → W p = true) := fun h0 => by
          obtain ⟨y, y1, y2, y3⟩ := ih (i + 1) 1 (by omega) (by omega) (Or.inr rfl)
          refine ⟨y, y1, y2, ?_⟩
          rw [y3]
          constructor
          · rintro ⟨-, h⟩; exact ⟨rfl, h0, h⟩
          · rintro ⟨-, -, h⟩; exact ⟨rfl, h⟩
        by_cases kW : W i = true
        · rw [if_neg (fun z => by rw [(hW.is0 hi7).mp z] at kW; cases kW)]
          exact one (fun _ => kW)
        · rw [if_pos ((hW.is0 hi7).mpr (by simpa using kW)), px_ck _ (px_inb hi7 (by omega)), (hk i hi7).1]
          have q := (hk i hi7).2
          by_cases k0 : c i = 0
          · rw [if_pos ((pm_m1 (by omega)).mpr k0)]
            exact one (fun z => absurd k0 z)
          · rw [if_neg (fun z => k0 ((pm_m1 (by omega)).mp z))]
            obtain ⟨y, y1, y2, y3⟩ := ih (i + 1) 0 (by omega) (by omega) (Or.inl rfl)
            refine ⟨y, y1, y2, ?_⟩
            rw [y3]
            constructor
            · rintro ⟨h, -⟩; exact absurd h (by decide)
            · rintro ⟨-, h, -⟩; exact absurd (h k0) kW
theorem pm_t109 {v0 : PS} (hr0 : pm_rep th nd bn ask v0) {p w : Nat} (hp : p < 7) (hw : w < 4) (k59 : Int32 → PS → Option (Int32 × PS)) (k67 : Int32 → Int32 → PS → Option (Int32 × PS)) : ∀ (m k : Nat) (x1 : Int32) (v : PS) (W : Nat → Bool), k ≤ (nd p w).length → (nd p w).length - k < m → x1 = 0 ∨ x1 = 1 → pm_fr v0 v → pm_W v W →
    ∃ (y : Int32) (v' : PS) (W' : Nat → Bool), (y = 0 ∨ y = 1) ∧ pm_fr v0 v' ∧ pm_W v' W' ∧ l_M_isTight_109 k59 k67 m x1 (nI p) (nI (4 * p + w)) (nI k) v = k67 y (nI (p + 1)) v' ∧
      (∀ q, q < 7 → (W' q = true ↔ W q = true ∨ ∃ j n, k ≤ j ∧ (nd p w)[j]? = some n ∧ n.1 = q)) ∧ (y = 0 → x1 = 0 ∧ ∀ q, q < 7 → W' q = W q) ∧ (y = 1 → x1 = 1 ∨ ∃ q, q < 7 ∧ W' q = true ∧ W q = false) := by
  intro m
  induction m with
  | zero => intro k x1 v W _ h; omega
  | succ m ih =>
    intro k x1 v W hkl hm hx hfr hW
    have hr := hr0.fr hfr
    obtain ⟨n1, n2, n3⟩ := hr.2.1 p w hp hw
    have hu : l_M_isTight_109 k59 k67 (m + 1) x1 (nI p) (nI (4 * p + w)) (nI k) v = b_M_isTight_109 k59 k67 (l_M_isTight_109 k59 k67 m) x1 (nI p) (nI (4 * p + w)) (nI k) v := rfl
    rw [hu]
    unfold b_M_isTight_109
    rw [px_ck _ (px_inb (show 4 * p + w < 28 by omega) (by omega)), nI_clamp (show 4 * p + w < 2 ^ 31 by omega), n1]
    by_cases hle : (nd p w).length ≤ k
    · rw [if_pos (nI_le hle (by omega)), nI_1]
      refine ⟨x1, v, W, hx, hfr, hW, rfl, fun q hq => ⟨fun h => Or.inl h, ?_⟩, fun h => ⟨h, fun _ _ => rfl⟩, fun h => Or.inl h⟩
      rintro (h | ⟨j, n, h1, h2, -⟩)
      · exact h
      · have := (List.getElem?_eq_some_iff.mp h2).1
        omega
    · rw [if_neg (nI_ge (by omega) (by omega))]
      obtain ⟨n, hn⟩ : ∃ n, (nd p w)[k]? = some n := ⟨_, List.getElem?_eq_getElem (by omega)⟩
      obtain ⟨m1, -, -, g1, -, -⟩ := n3 k n hn
      rw [pm_4, px_ck _ (px_inb (show 4 * (4 * p + w) + k < 112 by omega) (by omega)), nI_clamp (show 4 * (4 * p + w) + k < 2 ^ 31 by omega), m1]
      have go : ∀ y0 : Int32, (y0 = 0 ∨ y0 = 1) → (y0 = 0 → x1 = 0 ∧ W n.1 = true) → (y0 = 1 → x1 = 1 ∨ W n.1 = false) → ∃ (y : Int32) (v' : PS) (W' : Nat → Bool), (y = 0 ∨ y = 1) ∧ pm_fr v0 v' ∧ pm_W v' W' ∧ b_M_isTight_152 k59 k67 (l_M_isTight_109 k59 k67 m) (nI p) (nI (4 * p + w)) (nI k) (nI n.1) y0 v = k67 y (nI (p + 1)) v' ∧
          (∀ q, q < 7 → (W' q = true ↔ W q = true ∨ ∃ j n, k ≤ j ∧ (nd p w)[j]? = some n ∧ n.1 = q)) ∧ (y = 0 → x1 = 0 ∧ ∀ q, q < 7 → W' q = W q) ∧ (y = 1 → x1 = 1 ∨ ∃ q, q < 7 ∧ W' q = true ∧ W q = false) := by
        intro y0 hy0 ha hb
        unfold b_M_isTight_152
        rw [px_ck _ (px_inb g1 (by omega)), nI_clamp (show n.1 < 2 ^ 31 by omega), nI_1]
        obtain ⟨y, v', W', y1, y2, y3, y4, y5, y6, y7⟩ := ih (k + 1) y0 (sa v 11 n.1 1) (fun p => W p || decide (p = n.1)) (by omega) (by omega) hy0 (hfr.tr (pm_frsa v n.1 1)) (hW.set n.1)
        refine ⟨y, v', W', y1, y2, y3, y4, fun q hq => ?_, fun h => ?_, fun h => ?_⟩
        · rw [y5 q hq]
          constructor
          · rintro (h | ⟨j, n', h1, h2, h3⟩)
            · rw [Bool.or_eq_true, decide_eq_true_eq] at h
              rcases h with h | h
              · exact Or.inl h
              · exact Or.inr ⟨k, n, by omega, hn, h.symm⟩
            · exact Or.inr ⟨j, n', by omega, h2, h3⟩
          · rintro (h | ⟨j, n', h1, h2, h3⟩)
            · exact Or.inl (by rw [h]; rfl)
            · by_cases e : j = k
              · subst e; rw [hn] at h2; cases h2
                exact Or.inl (by simp [h3])
              · exact Or.inr ⟨j, n', by omega, h2, h3⟩
        · obtain ⟨z1, z2⟩ := y6 h
          obtain ⟨z3, z4⟩ := ha z1
          refine ⟨z3, fun q hq => ?_⟩
          rw [z2 q hq]
          by_cases e : q = n.1
          · subst e; simp [z4]
          · simp [e]
        · rcases y7 h with z | ⟨q, q1, q2, q3⟩
          · rcases hb z with z | z
            · exact Or.inl z
            · refine Or.inr ⟨n.1, g1, ?_, z⟩
              rw [y5 n.1 g1]
              exact Or.inl (by simp)
          · refine Or.inr ⟨q, q1, q2, ?_⟩
            rw [Bool.or_eq_false_iff] at q3
            exact q3.1
      rcases hx with rfl | rfl
      · rw [if_pos rfl, px_ck _ (px_inb g1 (by omega)), nI_clamp (show n.1 < 2 ^ 31 by omega)]
        by_cases kW : W n.1 = true
        · rw [if_neg (fun z => by rw [(hW.is0 g1).mp z] at kW; cases kW)]
          exact go 0 (Or.inl rfl) (fun _ => ⟨rfl, kW⟩) (fun h => absurd h (by decide))
        · rw [if_pos ((hW.is0 g1).mpr (by simpa using kW))]
          exact go 1 (Or.inr rfl) (fun h => absurd h (by decide)) (fun _ => Or.inr (by simpa using kW))
      · rw [if_neg (by decide)]
        exact go 1 (Or.inr rfl) (fun h => absurd h (by decide)) (fun _ => Or.inl rfl)
/-- closed under the needs of what is chosen -/
def pm_cl (nd : Nat → Nat → List pd_N) (c : Nat → Nat) (i : Nat) (W : Nat → Bool) : Prop := ∀ p w, i ≤ p → p < 7 → W p = true → c p = w + 1 → ∀ n ∈ nd p w, W n.1 = true
theorem pm_t67 {v0 : PS} (hr0 : pm_rep th nd bn ask v0) (hk0 : pm_pk v0 c) (h4 : ∀ q, q < 7 → c q ≤ 4) (k59 : Int32 → PS → Option (Int32 × PS)) : ∀ (m i : Nat) (x1 : Int32) (v : PS) (W : Nat → Bool), i ≤ 7 → 7 - i < m → x1 = 0 ∨ x1 = 1 → pm_fr v0 v → pm_W v W →
    ∃ (y : Int32) (v' : PS) (W' : Nat → Bool), (y = 0 ∨ y = 1) ∧ pm_fr v0 v' ∧ pm_W v' W' ∧ l_M_isTight_67 k59 m x1 (nI i) v = k59 y v' ∧ (∀ q, q < 7 → W q = true → W' q = true) ∧
      (y = 0 → x1 = 0 ∧ (∀ q, q < 7 → W' q = W q) ∧ pm_cl nd c i W) ∧ (y = 1 → x1 = 1 ∨ ∃ q, q < 7 ∧ W' q = true ∧ W q = false) ∧ (∀ C : Nat → Bool, pm_cl nd c 0 C → (∀ q, q < 7 → W q = true → C q = true) → ∀ q, q < 7 → W' q = true → C q = true) := by
  intro m
  induction m with
  | zero => intro i x1 v W _ h; omega
  | succ m ih =>
    intro i x1 v W hi hm hx hfr hW
    have hr := hr0.fr hfr
    have hk := hk0.fr hfr
    have hu : l_M_isTight_67 k59 (m + 1) x1 (nI i) v = b_M_isTight_67 k59 (l_M_isTight_67 k59 m) x1 (nI i) v := rfl
    rw [hu]
    unfold b_M_isTight_67
    by_cases h7 : 7 ≤ i
    · rw [if_pos (show (7 : Int32) ≤ nI i from nI_le (a := 7) h7 (by omega))]
      exact ⟨x1, v, W, hx, hfr, hW, rfl, fun _ _ h => h, fun h => ⟨h, fun _ _ => rfl, fun p w h1 h2 => by omega⟩, fun h => Or.inl h, fun C _ h => h⟩
    · have hi7 : i < 7 := by omega
      rw [if_neg (show ¬ (7 : Int32) ≤ nI i from nI_ge (b := 7) (by omega) (by omega)), px_ck _ (px_inb hi7 (by omega)), nI_clamp (show i < 2 ^ 31 by omega)]
      have skip : (W i = true → c i = 0) → ∃ (y : Int32) (v' : PS) (W' : Nat → Bool), (y = 0 ∨ y = 1) ∧ pm_fr v0 v' ∧ pm_W v' W' ∧ l_M_isTight_67 k59 m x1 (nI (i + 1)) v = k59 y v' ∧ (∀ q, q < 7 → W q = true → W' q = true) ∧
          (y = 0 → x1 = 0 ∧ (∀ q, q < 7 → W' q = W q) ∧ pm_cl nd c i W) ∧ (y = 1 → x1 = 1 ∨ ∃ q, q < 7 ∧ W' q = true ∧ W q = false) ∧ (∀ C : Nat → Bool, pm_cl nd c 0 C → (∀ q, q < 7 → W q = true → C q = true) → ∀ q, q < 7 → W' q = true → C q = true) := fun h0 => by
        obtain ⟨y, v', W', y1, y2, y3, y4, y5, y6, y7, y8⟩ := ih (i + 1) x1 v W (by omega) (by omega) hx hfr hW
        refine ⟨y, v', W', y1, y2, y3, y4, y5, fun h => ?_, y7, y8⟩
        obtain ⟨z1, z2, z3⟩ := y6 h
        refine ⟨z1, z2, fun p w k1 k2 k3 k4 => ?_⟩
        by_cases e : p = i
        · subst e
          have := h0 k3
          omega
        · exact z3 p w (by omega) k2 k3 k4
      by_cases kW : W i = true
      · rw [if_neg (fun z => by rw [(hW.is0 hi7).mp z] at kW; cases kW), px_ck _ (px_inb hi7 (by omega)), (hk i hi7).1]
        have q5 := (hk i hi7).2
        by_cases k0 : c i = 0
        · rw [if_pos ((pm_m1 (by omega)).mpr k0), nI_1]
          exact skip (fun _ => k0)
        · obtain ⟨w, hw⟩ : ∃ w, c i = w + 1 := ⟨c i - 1, by omega⟩
          have hw4 : w < 4 := by have := h4 i hi7; omega
          rw [if_neg (fun z => k0 ((pm_m1 (by omega)).mp z)), px_ck _ (px_inb hi7 (by omega)), hw, nI_pred, pm_4]
          obtain ⟨y, v', W', y1, y2, y3, y4, y5, y6, y7⟩ := pm_t109 hr0 hi7 hw4 k59 (l_M_isTight_67 k59 m) NF 0 x1 v W (by omega) (by
            have := (hr0.2.1 i w hi7 hw4).2.1
            show _ < 1000000
            omega) hx hfr hW
          rw [show (0 : Int32) = nI 0 from rfl, y4]
          obtain ⟨z, v2, W2, z1, z2, z3, z4, z5, z6, z7, z8⟩ := ih (i + 1) y v' W' (by omega) (by omega) y1 y2 y3
          have hmono : ∀ q, q < 7 → W q = true → W' q = true := fun q hq h => (y5 q hq).mpr (Or.inl h)
          refine ⟨z, v2, W2, z1, z2, z3, z4, fun q hq h => z5 q hq (hmono q hq h), fun h => ?_, fun h => ?_, fun C hC hWC => ?_⟩
          · obtain ⟨s1, s2, s3⟩ := z6 h
            obtain ⟨s4, s5⟩ := y6 s1
            refine ⟨s4, fun q hq => (s2 q hq).trans (s5 q hq), fun p w2 k1 k2 k3 k4 n hn => ?_⟩
            by_cases e : p = i
            · subst e
              have : w2 = w := by omega
              subst this
              obtain ⟨j, hj⟩ := List.getElem?_of_mem hn
              have g1 := ((hr0.2.1 p w2 k2 hw4).2.2 j n hj).2.2.2.1
              rw [← s5 n.1 g1, y5 n.1 g1]
              exact Or.inr ⟨j, n, by omega, hj, rfl⟩
            · have hp4 : w2 < 4 := by have := h4 p k2; omega
              obtain ⟨j, hj⟩ := List.getElem?_of_mem hn
              have g1 := ((hr0.2.1 p w2 k2 hp4).2.2 j n hj).2.2.2.1
              rw [← s5 n.1 g1]
              exact s3 p w2 (by omega) k2 (by rw [s5 p k2]; exact k3) k4 n hn
          · rcases z7 h with k | ⟨q, q1, q2, q3⟩
            · rcases y7 k with k | ⟨q, q1, q2, q3⟩
              · exact Or.inl k
              · exact Or.inr ⟨q, q1, z5 q q1 q2, q3⟩
            · refine Or.inr ⟨q, q1, q2, ?_⟩
              cases e : W q with
              | false => rfl
              | true => rw [hmono q q1 e] at q3; cases q3
          · refine z8 C hC fun q hq h => ?_
            rcases (y5 q hq).mp h with k | ⟨j, n, -, k2, k3⟩
            · exact hWC q hq k
            · rw [← k3]
              exact hC i w (by omega) hi7 (hWC i hi7 kW) hw n (List.mem_of_getElem? k2)
      · rw [if_pos ((hW.is0 hi7).mpr (by simpa using kW)), nI_1]
        exact skip (fun z => absurd z kW)
theorem pm_um_lt {W W' : Nat → Bool} (h : ∀ q, q < 7 → W q = true → W' q = true) (h2 : ∃ q, q < 7 ∧ W' q = true ∧ W q = false) : px_um W' < px_um W := by
  have key : ∀ a b : Bool, (a = true → b = true) → (!b).toNat ≤ (!a).toNat := by decide
  have k0 := key _ _ (h 0 (by omega))
  have k1 := key _ _ (h 1 (by omega))
  have k2 := key _ _ (h 2 (by omega))
  have k3 := key _ _ (h 3 (by omega))
  have k4 := key _ _ (h 4 (by omega))
  have k5 := key _ _ (h 5 (by omega))
  have k6 := key _ _ (h 6 (by omega))
  obtain ⟨q, hq, e1, e2⟩ := h2
  have e3 : (!W' q).toNat < (!W q).toNat := by rw [e1, e2]; decide
  unfold px_um
  rcases (show q = 0 ∨ q = 1 ∨ q = 2 ∨ q = 3 ∨ q = 4 ∨ q = 5 ∨ q = 6 by omega) with rfl | rfl | rfl | rfl | rfl | rfl | rfl <;> omega
theorem pm_t59 {v0 : PS} (hr0 : pm_rep th nd bn ask v0) (hk0 : pm_pk v0 c) (h4 : ∀ q, q < 7 → c q ≤ 4) : ∀ (m : Nat) (x1 : Int32) (v : PS) (W : Nat → Bool), px_um W + 1 < m → x1 = 0 ∨ x1 = 1 → (x1 = 0 → pm_cl nd c 0 W) → pm_fr v0 v → pm_W v W →
    ∃ (v' : PS) (W' : Nat → Bool), pm_fr v0 v' ∧ pm_W v' W' ∧ l_M_isTight_59 m x1 v = l_M_isTight_180 NF 1 0 v' ∧ (∀ q, q < 7 → W q = true → W' q = true) ∧ pm_cl nd c 0 W' ∧ (∀ C : Nat → Bool, pm_cl nd c 0 C → (∀ q, q < 7 → W q = true → C q = true) → ∀ q, q < 7 → W' q = true → C q = true) := by
  intro m
  induction m with
  | zero => intro x1 v W h; omega
  | succ m ih =>
    intro x1 v W hm hx hcl hfr hW
    have hu : l_M_isTight_59 (m + 1) x1 v = b_M_isTight_59 (l_M_isTight_59 m) x1 v := rfl
    rw [hu]
    unfold b_M_isTight_59
    rcases hx with rfl | rfl
    · rw [if_pos rfl]
      exact ⟨v, W, hfr, hW, rfl, fun _ _ h => h, hcl rfl, fun C _ h => h⟩
    · rw [if_neg (by decide)]
      obtain ⟨y, v', W', y1, y2, y3, y4, y5, y6, y7, y8⟩ := pm_t67 hr0 hk0 h4 (l_M_isTight_59 m) NF 0 0 v W (by omega) (by show _ < 1000000; omega) (Or.inl rfl) hfr hW
      rw [show (0 : Int32) = nI 0 from rfl]
      have y4' : l_M_isTight_67 (l_M_isTight_59 m) NF (nI 0) (nI 0) v = l_M_isTight_59 m y v' := y4
      rw [y4']
      have hstep : px_um W' + 1 < m ∨ y = 0 := by
        rcases y1 with h | h
        · exact Or.inr h
        · rcases y7 h with k | k
          · exact absurd k (by decide)
          · have := pm_um_lt y5 k
            exact Or.inl (by omega)
      rcases y1 with h | h
      · subst h
        obtain ⟨s1, s2, s3⟩ := y6 rfl
        have hm0 : ∃ m', m = m' + 1 := ⟨m - 1, by omega⟩
        obtain ⟨m', rfl⟩ := hm0
        refine ⟨v', W', y2, y3, ?_, y5, ?_, y8⟩
        · show b_M_isTight_59 (l_M_isTight_59 m') 0 v' = _
          unfold b_M_isTight_59
          rw [if_pos rfl]
          rfl
        · intro p w k1 k2 k3 k4 n hn
          have hp4 : w < 4 := by have := h4 p k2; omega
          obtain ⟨j, hj⟩ := List.getElem?_of_mem hn
          have g1 := ((hr0.2.1 p w k2 hp4).2.2 j n hj).2.2.2.1
          rw [s2 n.1 g1]
          exact s3 p w (by omega) k2 (by rw [← s2 p k2]; exact k3) k4 n hn
      · subst h
        have hlt : px_um W' + 1 < m := hstep.resolve_right (by decide)
        obtain ⟨v2, W2, z1, z2, z3, z4, z5, z6⟩ := ih 1 v' W' hlt (Or.inr rfl) (fun h => absurd h (by decide)) y2 y3
        exact ⟨v2, W2, z1, z2, z3, fun q hq h => z4 q hq (y5 q hq h), z5, fun C hC h => z6 C hC (y8 C hC h)⟩
theorem pm_t23 {v0 : PS} (hr0 : pm_rep th nd bn ask v0) : ∀ (m i : Nat) (v : PS) (W : Nat → Bool), i ≤ ask.length → ask.length - i < m → pm_fr v0 v → pm_W v W →
    ∃ (v' : PS) (W' : Nat → Bool), pm_fr v0 v' ∧ pm_W v' W' ∧ l_M_isTight_23 m (nI i) v = l_M_isTight_59 NF 1 v' ∧ (∀ q, q < 7 → (W' q = true ↔ W q = true ∨ ∃ j n, i ≤ j ∧ bt (v0.1 3) j = true ∧ ask[j]? = some n ∧ n.1 = q)) := by
  intro m
  induction m with
  | zero => intro i v W _ h; omega
  | succ m ih =>
    intro i v W hi hm hfr hW
    have hr := hr0.fr hfr
    obtain ⟨a1, a2, a3⟩ := hr.2.2.2
    have hu : l_M_isTight_23 (m + 1) (nI i) v = b_M_isTight_23 (l_M_isTight_23 m) (nI i) v := rfl
    rw [hu]
    unfold b_M_isTight_23
    rw [a1]
    by_cases hle : ask.length ≤ i
    · rw [if_pos (nI_le hle (by omega))]
      refine ⟨v, W, hfr, hW, rfl, fun q hq => ⟨fun h => Or.inl h, ?_⟩⟩
      rintro (h | ⟨j, n, h1, -, h2, -⟩)
      · exact h
      · have := (List.getElem?_eq_some_iff.mp h2).1
        omega
    · rw [if_neg (nI_ge (by omega) (by omega)), nI_1]
      obtain ⟨n, hn⟩ : ∃ n, ask[i]? = some n := ⟨_, List.getElem?_eq_getElem (by omega)⟩
      obtain ⟨m1, -, -, g1, -, -⟩ := a3 i n hn
      have hmk : v.1 3 = v0.1 3 := by rw [hfr.1]
      by_cases kc : bt (v0.1 3) i = true
      · rw [if_neg (fun z => by rw [← hmk, (pm_counts v (by omega)).mp z] at kc; cases kc), px_ck _ (px_inb (show i < 6 by omega) (by omega)), nI_clamp (show i < 2 ^ 31 by omega), m1, px_ck _ (px_inb g1 (by omega)), nI_clamp (show n.1 < 2 ^ 31 by omega)]
        obtain ⟨v', W', y1, y2, y3, y4⟩ := ih (i + 1) (sa v 11 n.1 1) (fun p => W p || decide (p = n.1)) (by omega) (by omega) (hfr.tr (pm_frsa v n.1 1)) (hW.set n.1)
        refine ⟨v', W', y1, y2, y3, fun q hq => ?_⟩
        rw [y4 q hq]
        constructor
        · rintro (h | ⟨j, n', h1, h0, h2, h3⟩)
          · rw [Bool.or_eq_true, decide_eq_true_eq] at h
            rcases h with h | h
            · exact Or.inl h
            · exact Or.inr ⟨i, n, by omega, kc, hn, h.symm⟩
          · exact Or.inr ⟨j, n', by omega, h0, h2, h3⟩
        · rintro (h | ⟨j, n', h1, h0, h2, h3⟩)
          · exact Or.inl (by rw [h]; rfl)
          · by_cases e : j = i
            · subst e; rw [hn] at h2; cases h2
              exact Or.inl (by simp [h3])
            · exact Or.inr ⟨j, n', by omega, h0, h2, h3⟩
      · rw [if_pos ((pm_counts v (by omega)).mpr (by rw [hmk]; simpa using kc))]
        obtain ⟨v', W', y1, y2, y3, y4⟩ := ih (i + 1) v W (by omega) (by omega) hfr hW
        refine ⟨v', W', y1, y2, y3, fun q hq => ?_⟩
        rw [y4 q hq]
        constructor
        · rintro (h | ⟨j, n', h1, h0, h2, h3⟩)
          · exact Or.inl h
          · exact Or.inr ⟨j, n', by omega, h0, h2, h3⟩
        · rintro (h | ⟨j, n', h1, h0, h2, h3⟩)
          · exact Or.inl h
          · by_cases e : j = i
            · subst e; exact absurd h0 kc
            · exact Or.inr ⟨j, n', by omega, h0, h2, h3⟩
theorem pm_t2 {v0 : PS} : ∀ (m i : Nat) (v : PS), i ≤ 7 → 7 - i < m → pm_fr v0 v → (∀ p, p < i → v.2 11 p = 0) →
    ∃ v' : PS, pm_fr v0 v' ∧ pm_W v' (fun _ => false) ∧ l_M_isTight_2 m (nI i) v = l_M_isTight_23 NF 0 v' := by
  intro m
  induction m with
  | zero => intro i v _ h; omega
  | succ m ih =>
    intro i v hi hm hfr h0
    have hu : l_M_isTight_2 (m + 1) (nI i) v = b_M_isTight_2 (l_M_isTight_2 m) (nI i) v := rfl
    rw [hu]
    unfold b_M_isTight_2
    by_cases h7 : 7 ≤ i
    · rw [if_pos (show (7 : Int32) ≤ nI i from nI_le (a := 7) h7 (by omega))]
      exact ⟨v, hfr, fun p hp => by rw [h0 p (by omega)]; rfl, rfl⟩
    · rw [if_neg (show ¬ (7 : Int32) ≤ nI i from nI_ge (b := 7) (by omega) (by omega)), px_ck _ (px_inb (show i < 7 by omega) (by omega)), nI_clamp (show i < 2 ^ 31 by omega), nI_1]
      refine ih (i + 1) _ (by omega) (by omega) (hfr.tr (pm_frsa v i 0)) fun p hp => ?_
      rw [pm_sa11]
      by_cases e : p = i
      · rw [if_pos e]
      · rw [if_neg e]; exact h0 p (by omega)
theorem pm_isTight {v : PS} (hr : pm_rep th nd bn ask v) (hk : pm_pk v c) (h4 : ∀ q, q < 7 → c q ≤ 4) : ∃ (y : Int32) (v' : PS), (y = 0 ∨ y = 1) ∧ pm_fr v v' ∧ f_M_isTight v = some (y, v') ∧ (y = 1 ↔ pd_tight nd (pd_sel ask (bt (v.1 3))) c) := by
  unfold f_M_isTight
  obtain ⟨v1, f1, w1, e1⟩ := pm_t2 (v0 := v) NF 0 v (by omega) (by show _ < 1000000; omega) (pm_fr.rf v) (fun p h => by omega)
  rw [show (0 : Int32) = nI 0 from rfl, e1]
  obtain ⟨v2, W2, f2, w2, e2, h2⟩ := pm_t23 hr NF 0 v1 _ (by omega) (by have := hr.2.2.2.2.1; show _ < 1000000; omega) f1 w1
  rw [show (0 : Int32) = nI 0 from rfl, e2]
  obtain ⟨v3, W3, f3, w3, e3, h3, h3', h3''⟩ := pm_t59 hr hk h4 NF 1 v2 W2 (by
    have : px_um W2 ≤ 7 := by
      unfold px_um
      have key : ∀ b : Bool, (!b).toNat ≤ 1 := by decide
      have := key (W2 0); have := key (W2 1); have := key (W2 2); have := key (W2 3); have := key (W2 4); have := key (W2 5); have := key (W2 6)
      omega
    show _ < 1000000
    omega) (Or.inr rfl) (fun h => absurd h (by decide)) f2 w2
  rw [e3]
  obtain ⟨y, y1, y2, y3⟩ := pm_t180 (hk.fr f3) w3 NF 0 1 (by omega) (by show _ < 1000000; omega) (Or.inr rfl)
  rw [show (0 : Int32) = nI 0 from rfl, y2]
  refine ⟨y, v3, y1, f3, rfl, ?_⟩
  rw [y3]
  have hW2 : ∀ q, q < 7 → (W2 q = true ↔ ∃ n ∈ pd_sel ask (bt (v.1 3)), n.1 = q) := fun q hq => by
    rw [h2 q hq]
    constructor
    · rintro (h | ⟨j, n, -, k1, k2, k3⟩)
      · cases h
      · exact ⟨n, (pd_sel_iff _ _ _).mpr ⟨j, k1, k2⟩, k3⟩
    · rintro ⟨n, hn, k3⟩
      obtain ⟨j, k1, k2⟩ := (pd_sel_iff _ _ _).mp hn
      exact Or.inr ⟨j, n, by omega, k1, k2, k3⟩
  have hsel7 : ∀ n ∈ pd_sel ask (bt (v.1 3)), n.1 < 7 := fun n hn => by
    obtain ⟨j, -, k2⟩ := (pd_sel_iff _ _ _).mp hn
    exact (hr.2.2.2.2.2 j n k2).2.2.2.1
  constructor
  · rintro ⟨-, h⟩ C hC p hp hc
    exact h3'' C (fun p w _ k2 k3 k4 n hn => hC.2 p w k2 k3 k4 n hn) (fun q hq k => by
      obtain ⟨n, hn, e⟩ := (hW2 q hq).mp k
      rw [← e]; exact hC.1 n hn) p hp (h p (by omega) hp hc)
  · intro h
    refine ⟨rfl, fun p _ hp hc => h W3 ⟨fun n hn => h3 n.1 (hsel7 n hn) ((hW2 n.1 (hsel7 n hn)).mpr ⟨n, hn, rfl⟩), fun p w k2 k3 k4 n hn => h3' p w (by omega) k2 k3 k4 n hn⟩ p hp hc⟩
end PT
