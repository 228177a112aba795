/-! THE MODEL: its state, read as what there is -/
theorem pm_ti {x : Nat} (hx : x < 2 ^ 30) : (nI x - 1).toInt = (x : Int) - 1 := pk_sub_toInt (b := 1) hx (by omega)
theorem pm_lt {x a : Nat} (hx : x < 2 ^ 30) (ha : a < 2 ^ 30) : nI x - 1 < nI a ↔ x < a + 1 := by
  rw [Int32.lt_iff_toInt_lt, pm_ti hx, nI_toInt (by omega)]; omega
theorem pm_gt {x a : Nat} (hx : x < 2 ^ 30) (ha : a < 2 ^ 30) : nI a < nI x - 1 ↔ a + 1 < x := by
  rw [Int32.lt_iff_toInt_lt, pm_ti hx, nI_toInt (by omega)]; omega
theorem pm_m1 {x : Nat} (hx : x < 2 ^ 30) : nI x - 1 = -1 ↔ x = 0 := by
  rw [← Int32.toInt_inj, pm_ti hx, show ((-1 : Int32)).toInt = -1 from by decide +kernel]; omega
theorem pm_eq {x w : Nat} (hx : x < 2 ^ 30) (hw : w < 2 ^ 30) : nI x - 1 = nI w ↔ x = w + 1 := by
  rw [← Int32.toInt_inj, pm_ti hx, nI_toInt (by omega)]; omega
theorem pm_eqq {x y : Nat} (hx : x < 2 ^ 30) (hy : y < 2 ^ 30) : nI x - 1 = nI y - 1 ↔ x = y := by
  rw [← Int32.toInt_inj, pm_ti hx, pm_ti hy]; omega
theorem pm_4 (a b : Nat) : (4 : Int32) * nI a + nI b = nI (4 * a + b) := by
  show nI 4 * nI a + nI b = _
  rw [pk_mul, nI_add]
def pm_pk (v : PS) (c : Nat → Nat) : Prop := ∀ p, p < 7 → v.2 10 p = nI (c p) - 1 ∧ c p ≤ 5
def pm_rep (th : Nat → Nat → Bool) (nd : Nat → Nat → List pd_N) (bn : List pd_B) (ask : List pd_N) (v : PS) : Prop :=
  (∀ p w, p < 7 → w < 4 → v.2 0 (4 * p + w) = (if th p w = true then 1 else 0)) ∧
  (∀ p w, p < 7 → w < 4 → v.2 1 (4 * p + w) = nI (nd p w).length ∧ (nd p w).length ≤ 4 ∧ ∀ k n, (nd p w)[k]? = some n → v.2 2 (4 * (4 * p + w) + k) = nI n.1 ∧ v.2 3 (4 * (4 * p + w) + k) = nI n.2.1 ∧ v.2 4 (4 * (4 * p + w) + k) = nI n.2.2 ∧ pd_gn n) ∧
  (v.1 2 = nI bn.length ∧ bn.length ≤ 16 ∧ ∀ k b, bn[k]? = some b → v.2 8 k = nI (4 * b.1.1 + b.1.2) ∧ v.2 9 k = nI (4 * b.2.1 + b.2.2) ∧ pd_gb b) ∧
  (v.1 1 = nI ask.length ∧ ask.length ≤ 6 ∧ ∀ i n, ask[i]? = some n → v.2 5 i = nI n.1 ∧ v.2 6 i = nI n.2.1 ∧ v.2 7 i = nI n.2.2 ∧ pd_gn n)
/-- what of the asked counts -/
def pd_sel (ask : List pd_N) (b : Nat → Bool) : List pd_N := (List.range ask.length).filterMap (fun i => if b i = true then ask[i]? else none)
theorem pd_sel_iff (ask : List pd_N) (b : Nat → Bool) (n : pd_N) : n ∈ pd_sel ask b ↔ ∃ i, b i = true ∧ ask[i]? = some n := by
  unfold pd_sel
  rw [List.mem_filterMap]
  constructor
  · rintro ⟨i, hi, h⟩
    by_cases hb : b i = true
    · rw [if_pos hb] at h; exact ⟨i, hb, h⟩
    · rw [if_neg hb] at h; cases h
  · rintro ⟨i, hb, h⟩
    exact ⟨i, List.mem_range.mpr (List.getElem?_eq_some_iff.mp h).1, by rw [if_pos hb]; exact h⟩
theorem pm_counts (v : PS) {i : Nat} (hi : i < 32) : f_M_counts (nI i) v = 0 ↔ bt (v.1 3) i = false := by
  have key : ((v.1 3) >>> (nI i &&& 31)) &&& (1 : Int32) = if bt (v.1 3) i = true then 1 else 0 := by
    apply b_ext
    intro j hj
    rw [b_and, b_sshr i hi _ hj]
    by_cases h0 : j = 0
    · subst h0
      simp only [Nat.add_zero, if_pos hi]
      cases bt (v.1 3) i <;> decide
    · have h1 : bt 1 j = false := (by decide +kernel : ∀ j, j < 32 → j ≠ 0 → bt 1 j = false) j hj h0
      rw [h1, Bool.and_false]
      cases bt (v.1 3) i
      · exact (b_0 j).symm
      · exact h1.symm
  unfold f_M_counts
  rw [key]
  cases bt (v.1 3) i <;> decide
section PM
variable {th : Nat → Nat → Bool} {nd : Nat → Nat → List pd_N} {bn : List pd_B} {ask : List pd_N} {v : PS} {c : Nat → Nat}
theorem pm_isMet (hk : pm_pk v c) {q a b : Nat} (hq : q < 7) (ha : a < 4) (hb : b < 4) : f_M_isMet (nI q) (nI a) (nI b) v = some (if a + 1 ≤ c q ∧ c q ≤ b + 1 then 1 else 0) := by
  obtain ⟨h1, h2⟩ := hk q hq
  unfold f_M_isMet
  rw [px_ck _ (px_inb hq (by omega)), nI_clamp (by omega), h1]
  by_cases k1 : c q < a + 1
  · rw [if_pos ((pm_lt (by omega) (by omega)).mpr k1), if_neg (by omega)]
  · rw [if_neg (fun z => k1 ((pm_lt (by omega) (by omega)).mp z)), px_ck _ (px_inb hq (by omega))]
    by_cases k2 : b + 1 < c q
    · rw [if_pos ((pm_gt (by omega) (by omega)).mpr k2), if_neg (by omega)]
    · rw [if_neg (fun z => k2 ((pm_gt (by omega) (by omega)).mp z)), if_pos (by omega)]
theorem pm_218 (hr : pm_rep th nd bn ask v) (hk : pm_pk v c) {p q w : Nat} (hp : p < 7) (hq : q < 7) (hw : w < 4) (hcq : c q = w + 1) (kk : Int32 → Int32 → Int32 → Option Int32) : ∀ (m k : Nat) (x2 : Int32), k ≤ (nd q w).length → (nd q w).length - k < m → x2 = 0 ∨ x2 = 1 →
    ∃ y : Int32, (y = 0 ∨ y = 1) ∧ l_M_goes_218 v kk m (nI p) x2 (nI q) (nI (4 * q + w)) (nI k) = kk (nI p) y (nI (q + 1)) ∧ (y = 1 ↔ x2 = 1 ∧ ∀ j n, k ≤ j → (nd q w)[j]? = some n → n.1 ≤ p → pd_met c n) := by
  obtain ⟨-, r2, -, -⟩ := hr
  obtain ⟨n1, n2, n3⟩ := r2 q w hq hw
  obtain ⟨h1, h2⟩ := hk q hq
  intro m
  induction m with
  | zero => intro k x2 _ h; omega
  | succ m ih =>
    intro k x2 hkl hm hx
    have hu : l_M_goes_218 v kk (m + 1) (nI p) x2 (nI q) (nI (4 * q + w)) (nI k) = b_M_goes_218 v kk (l_M_goes_218 v kk m) (nI p) x2 (nI q) (nI (4 * q + w)) (nI k) := rfl
    rw [hu]
    unfold b_M_goes_218
    rw [px_ck _ (px_inb hq (by omega)), nI_clamp (show q < 2 ^ 31 by omega), h1, if_neg (fun z => by have := (pm_m1 (by omega)).mp z; omega), px_ck _ (px_inb (show 4 * q + w < 28 by omega) (by omega)), nI_clamp (show 4 * q + w < 2 ^ 31 by omega), n1, nI_1, nI_1]
    by_cases hle : (nd q w).length ≤ k
    · rw [if_pos (nI_le hle (by omega))]
      refine ⟨x2, hx, rfl, fun h => ⟨h, fun j n hj hn => ?_⟩, fun h => h.1⟩
      have := (List.getElem?_eq_some_iff.mp hn).1
      omega
    · rw [if_neg (nI_ge (by omega) (by omega))]
      have hkn : ∃ n, (nd q w)[k]? = some n := ⟨_, List.getElem?_eq_getElem (by omega)⟩
      obtain ⟨n, hn⟩ := hkn
      obtain ⟨m1, m2, m3, g1, g2, g3⟩ := n3 k n hn
      have hsplit : ∀ P : pd_N → Prop, (∀ j n, k ≤ j → (nd q w)[j]? = some n → P n) ↔ P n ∧ ∀ j n, k + 1 ≤ j → (nd q w)[j]? = some n → P n := by
        intro P
        constructor
        · intro h; exact ⟨h k n (by omega) hn, fun j n' hj => h j n' (by omega)⟩
        · rintro ⟨h, h'⟩ j n' hj hn'
          by_cases e : j = k
          · subst e; rw [hn] at hn'; cases hn'; exact h
          · exact h' j n' (by omega) hn'
      rcases hx with rfl | rfl
      · rw [if_pos rfl]
        obtain ⟨y, y1, y2, y3⟩ := ih (k + 1) 0 (by omega) (by omega) (Or.inl rfl)
        exact ⟨y, y1, y2, by rw [y3]; simp⟩
      · rw [if_neg (by decide), pm_4, px_ck _ (px_inb (show 4 * (4 * q + w) + k < 112 by omega) (by omega)), nI_clamp (show 4 * (4 * q + w) + k < 2 ^ 31 by omega), m1, m2, m3]
        rw [hsplit (fun n => n.1 ≤ p → pd_met c n)]
        by_cases hpn : p < n.1
        · rw [if_pos (nI_lt hpn (by omega))]
          obtain ⟨y, y1, y2, y3⟩ := ih (k + 1) 1 (by omega) (by omega) (Or.inr rfl)
          refine ⟨y, y1, y2, ?_⟩
          rw [y3]
          constructor
          · rintro ⟨-, h⟩; exact ⟨rfl, fun z => by omega, h⟩
          · rintro ⟨-, -, h⟩; exact ⟨rfl, h⟩
        · rw [if_neg (nI_nlt (by omega) (by omega)), px_ck _ (px_inb (show 4 * (4 * q + w) + k < 112 by omega) (by omega)), px_ck _ (px_inb (show 4 * (4 * q + w) + k < 112 by omega) (by omega)), px_ck _ (px_inb (show 4 * (4 * q + w) + k < 112 by omega) (by omega)), pm_isMet hk g1 (by omega) g3]
          rw [Option.bind_some]
          by_cases hmet : n.2.1 + 1 ≤ c n.1 ∧ c n.1 ≤ n.2.2 + 1
          · rw [if_pos hmet, if_neg (by decide)]
            obtain ⟨y, y1, y2, y3⟩ := ih (k + 1) 1 (by omega) (by omega) (Or.inr rfl)
            refine ⟨y, y1, y2, ?_⟩
            rw [y3]
            constructor
            · rintro ⟨-, h⟩; exact ⟨rfl, fun _ => hmet, h⟩
            · rintro ⟨-, -, h⟩; exact ⟨rfl, h⟩
          · rw [if_neg hmet, if_pos rfl]
            obtain ⟨y, y1, y2, y3⟩ := ih (k + 1) 0 (by omega) (by omega) (Or.inl rfl)
            refine ⟨y, y1, y2, ?_⟩
            rw [y3]
            constructor
            · rintro ⟨h, -⟩; exact absurd h (by decide)
            · rintro ⟨-, h, -⟩; exact absurd (h (by omega)) hmet
theorem pm_194 (hr : pm_rep th nd bn ask v) (hk : pm_pk v c) {p : Nat} (hp : p < 7) (h4 : ∀ q, q ≤ p → c q ≤ 4) : ∀ (m q : Nat) (x2 : Int32), q ≤ p + 1 → p + 1 - q < m → x2 = 0 ∨ x2 = 1 →
    ∃ y : Int32, (y = 0 ∨ y = 1) ∧ l_M_goes_194 v m (nI p) x2 (nI q) = some y ∧ (y = 1 ↔ x2 = 1 ∧ ∀ q2 w, q ≤ q2 → q2 ≤ p → c q2 = w + 1 → ∀ n ∈ nd q2 w, n.1 ≤ p → pd_met c n) := by
  intro m
  induction m with
  | zero => intro q x2 _ h; omega
  | succ m ih =>
    intro q x2 hq hm hx
    have hu : l_M_goes_194 v (m + 1) (nI p) x2 (nI q) = b_M_goes_194 v (l_M_goes_194 v m) (nI p) x2 (nI q) := rfl
    rw [hu]
    unfold b_M_goes_194
    have hB : isB x2 = true := by rcases hx with rfl | rfl <;> decide
    by_cases hpq : p < q
    · rw [if_pos (nI_lt hpq (by omega)), px_ck _ hB]
      exact ⟨x2, hx, rfl, fun h => ⟨h, fun q2 w h1 h2 => by omega⟩, fun h => h.1⟩
    · rw [if_neg (nI_nlt (by omega) (by omega))]
      rcases hx with rfl | rfl
      · rw [if_pos rfl, px_ck _ hB]
        exact ⟨0, Or.inl rfl, rfl, by simp⟩
      · rw [if_neg (by decide), px_ck _ (px_inb (show q < 7 by omega) (by omega)), nI_clamp (show q < 2 ^ 31 by omega)]
        obtain ⟨h1, h2⟩ := hk q (by omega)
        rw [h1]
        have hsplit : ∀ P : Nat → Nat → Prop, (∀ q2 w, q ≤ q2 → q2 ≤ p → P q2 w) ↔ (∀ w, P q w) ∧ ∀ q2 w, q + 1 ≤ q2 → q2 ≤ p → P q2 w := by
          intro P
          constructor
          · intro h; exact ⟨fun w => h q w (by omega) (by omega), fun q2 w k1 k2 => h q2 w (by omega) k2⟩
          · rintro ⟨h, h'⟩ q2 w k1 k2
            by_cases e : q2 = q
            · subst e; exact h w
            · exact h' q2 w (by omega) k2
        rw [hsplit (fun q2 w => c q2 = w + 1 → ∀ n ∈ nd q2 w, n.1 ≤ p → pd_met c n)]
        by_cases hc0 : c q = 0
        · have hu2 : l_M_goes_218 v (l_M_goes_194 v m) NF (nI p) 1 (nI q) ((4 : Int32) * nI q + (nI (c q) - 1)) 0 = l_M_goes_194 v m (nI p) 1 (nI (q + 1)) := by
            show b_M_goes_218 v (l_M_goes_194 v m) (l_M_goes_218 v (l_M_goes_194 v m) 999999) (nI p) 1 (nI q) _ 0 = _
            unfold b_M_goes_218
            rw [px_ck _ (px_inb (show q < 7 by omega) (by omega)), nI_clamp (show q < 2 ^ 31 by omega), h1, if_pos ((pm_m1 (by omega)).mpr hc0), nI_1]
          rw [hu2]
          obtain ⟨y, y1, y2, y3⟩ := ih (q + 1) 1 (by omega) (by omega) (Or.inr rfl)
          refine ⟨y, y1, y2, ?_⟩
          rw [y3]
          constructor
          · rintro ⟨-, h⟩; exact ⟨rfl, fun w e => by omega, h⟩
          · rintro ⟨-, -, h⟩; exact ⟨rfl, h⟩
        · obtain ⟨w, hw⟩ : ∃ w, c q = w + 1 := ⟨c q - 1, by omega⟩
          have hw4 : w < 4 := by have := h4 q (by omega); omega
          rw [hw, nI_pred, pm_4]
          obtain ⟨y, y1, y2, y3⟩ := pm_218 hr hk hp (show q < 7 by omega) hw4 hw (l_M_goes_194 v m) NF 0 1 (by omega) (by
            have := (hr.2.1 q w (by omega) hw4).2.1
            show _ < 1000000
            omega) (Or.inr rfl)
          rw [show (0 : Int32) = nI 0 from rfl, y2]
          obtain ⟨z, z1, z2, z3⟩ := ih (q + 1) y (by omega) (by omega) y1
          refine ⟨z, z1, z2, ?_⟩
          rw [z3, y3]
          constructor
          · rintro ⟨⟨-, h⟩, h'⟩
            refine ⟨rfl, fun w2 e n hn => ?_, h'⟩
            have : w2 = w := by omega
            subst this
            obtain ⟨j, hj⟩ := List.getElem?_of_mem hn
            exact h j n (by omega) hj
          · rintro ⟨-, h, h'⟩
            exact ⟨⟨rfl, fun j n _ hj => h w rfl n (List.mem_of_getElem? hj)⟩, h'⟩
/-- what goes(p) asks of the bans and of the needs -/
def pm_B (bn : List pd_B) (c : Nat → Nat) (p k : Nat) : Prop := ∀ j b, k ≤ j → bn[j]? = some b → b.1.1 ≤ p → b.2.1 ≤ p → ¬ (c b.1.1 = b.1.2 + 1 ∧ c b.2.1 = b.2.2 + 1)
def pm_N (nd : Nat → Nat → List pd_N) (c : Nat → Nat) (p : Nat) : Prop := ∀ q w, q ≤ p → c q = w + 1 → ∀ n ∈ nd q w, n.1 ≤ p → pd_met c n
def pm_K (ask : List pd_N) (mk : Nat → Bool) (c : Nat → Nat) (p i : Nat) : Prop := ∀ j n, i ≤ j → mk j = true → ask[j]? = some n → n.1 = p → pd_met c n
theorem pm_100 (hr : pm_rep th nd bn ask v) (hk : pm_pk v c) {p : Nat} (hp : p < 7) (h4 : ∀ q, q ≤ p → c q ≤ 4) : ∀ (m k : Nat) (x2 : Int32), k ≤ bn.length → bn.length - k < m → x2 = 0 ∨ x2 = 1 →
    ∃ y : Int32, (y = 0 ∨ y = 1) ∧ l_M_goes_100 v m (nI p) x2 (nI k) = some y ∧ (y = 1 ↔ x2 = 1 ∧ pm_B bn c p k ∧ pm_N nd c p) := by
  obtain ⟨b1, b2, b3⟩ := hr.2.2.1
  have fin : ∀ x2 : Int32, x2 = 0 ∨ x2 = 1 → ∃ y : Int32, (y = 0 ∨ y = 1) ∧ l_M_goes_194 v NF (nI p) x2 0 = some y ∧ (y = 1 ↔ x2 = 1 ∧ pm_N nd c p) := fun x2 hx => by
    obtain ⟨y, y1, y2, y3⟩ := pm_194 hr hk hp h4 NF 0 x2 (by omega) (by show _ < 1000000; omega) hx
    refine ⟨y, y1, y2, ?_⟩
    rw [y3]
    constructor
    · rintro ⟨h, h'⟩; exact ⟨h, fun q w hq => h' q w (by omega) hq⟩
    · rintro ⟨h, h'⟩; exact ⟨h, fun q w _ hq => h' q w hq⟩
  intro m
  induction m with
  | zero => intro k x2 _ h; omega
  | succ m ih =>
    intro k x2 hkl hm hx
    have hu : l_M_goes_100 v (m + 1) (nI p) x2 (nI k) = b_M_goes_100 v (l_M_goes_100 v m) (nI p) x2 (nI k) := rfl
    rw [hu]
    unfold b_M_goes_100
    rw [b1]
    by_cases hle : bn.length ≤ k
    · rw [if_pos (nI_le hle (by omega))]
      obtain ⟨y, y1, y2, y3⟩ := fin x2 hx
      refine ⟨y, y1, y2, ?_⟩
      rw [y3]
      constructor
      · rintro ⟨h, h'⟩
        refine ⟨h, fun j b hj hb => ?_, h'⟩
        have := (List.getElem?_eq_some_iff.mp hb).1
        omega
      · rintro ⟨h, -, h'⟩; exact ⟨h, h'⟩
    · rw [if_neg (nI_ge (by omega) (by omega))]
      rcases hx with rfl | rfl
      · rw [if_pos rfl]
        obtain ⟨y, y1, y2, y3⟩ := fin 0 (Or.inl rfl)
        refine ⟨y, y1, y2, ?_⟩
        rw [y3]
        constructor
        · rintro ⟨h, -⟩; exact absurd h (by decide)
        · rintro ⟨h, -⟩; exact absurd h (by decide)
      · rw [if_neg (by decide)]
        obtain ⟨b, hb⟩ : ∃ b, bn[k]? = some b := ⟨_, List.getElem?_eq_getElem (by omega)⟩
        obtain ⟨m1, m2, g1, g2, g3, g4⟩ := b3 k b hb
        have hsplit : pm_B bn c p k ↔ (b.1.1 ≤ p → b.2.1 ≤ p → ¬ (c b.1.1 = b.1.2 + 1 ∧ c b.2.1 = b.2.2 + 1)) ∧ pm_B bn c p (k + 1) := by
          constructor
          · intro h; exact ⟨h k b (by omega) hb, fun j b' hj => h j b' (by omega)⟩
          · rintro ⟨h, h'⟩ j b' hj hb'
            by_cases e : j = k
            · subst e; rw [hb] at hb'; cases hb'; exact h
            · exact h' j b' (by omega) hb'
        have hi : k < 16 := by omega
        have d1 : nI (4 * b.1.1 + b.1.2) / (4 : Int32) = nI b.1.1 := by
          rw [show (4 : Int32) = nI 4 from rfl, pk_div (by omega) (by omega) (by omega)]; congr 1; omega
        have d2 : nI (4 * b.2.1 + b.2.2) / (4 : Int32) = nI b.2.1 := by
          rw [show (4 : Int32) = nI 4 from rfl, pk_div (by omega) (by omega) (by omega)]; congr 1; omega
        have e1 : nI (4 * b.1.1 + b.1.2) - nI (4 * b.1.1 + b.1.2) / (4 : Int32) * (4 : Int32) = nI b.1.2 := by
          rw [show (4 : Int32) = nI 4 from rfl, pk_rem (by omega) (by omega) (by omega)]; congr 1; omega
        have e2 : nI (4 * b.2.1 + b.2.2) - nI (4 * b.2.1 + b.2.2) / (4 : Int32) * (4 : Int32) = nI b.2.2 := by
          rw [show (4 : Int32) = nI 4 from rfl, pk_rem (by omega) (by omega) (by omega)]; congr 1; omega
        rw [px_ck _ (px_inb hi (by omega)), px_ck _ (px_inb hi (by omega)), nI_clamp (show k < 2 ^ 31 by omega), m1, m2, e1, e2, d1, d2, nI_1, hsplit]
        have one : (b.1.1 ≤ p → b.2.1 ≤ p → ¬ (c b.1.1 = b.1.2 + 1 ∧ c b.2.1 = b.2.2 + 1)) → ∃ y : Int32, (y = 0 ∨ y = 1) ∧ l_M_goes_100 v m (nI p) 1 (nI (k + 1)) = some y ∧ (y = 1 ↔ (1 : Int32) = 1 ∧ ((b.1.1 ≤ p → b.2.1 ≤ p → ¬ (c b.1.1 = b.1.2 + 1 ∧ c b.2.1 = b.2.2 + 1)) ∧ pm_B bn c p (k + 1)) ∧ pm_N nd c p) := fun hB => by
          obtain ⟨y, y1, y2, y3⟩ := ih (k + 1) 1 (by omega) (by omega) (Or.inr rfl)
          refine ⟨y, y1, y2, ?_⟩
          rw [y3]
          constructor
          · rintro ⟨-, h, h'⟩; exact ⟨rfl, ⟨hB, h⟩, h'⟩
          · rintro ⟨-, ⟨-, h⟩, h'⟩; exact ⟨rfl, h, h'⟩
        by_cases k1 : p < b.1.1
        · rw [if_pos (nI_lt k1 (by omega))]; exact one (fun z => by omega)
        · rw [if_neg (nI_nlt (by omega) (by omega))]
          by_cases k2 : p < b.2.1
          · rw [if_pos (nI_lt k2 (by omega))]; exact one (fun _ z => by omega)
          · rw [if_neg (nI_nlt (by omega) (by omega)), px_ck _ (px_inb g1 (by omega)), px_ck _ (px_inb hi (by omega)), nI_clamp (show b.1.1 < 2 ^ 31 by omega), (hk b.1.1 g1).1]
            have q1 := (hk b.1.1 g1).2
            have q2 := (hk b.2.1 g3).2
            by_cases k3 : c b.1.1 = b.1.2 + 1
            · rw [if_pos ((pm_eq (by omega) (by omega)).mpr k3), px_ck _ (px_inb g3 (by omega)), px_ck _ (px_inb hi (by omega)), nI_clamp (show b.2.1 < 2 ^ 31 by omega), (hk b.2.1 g3).1]
              by_cases k4 : c b.2.1 = b.2.2 + 1
              · rw [if_pos ((pm_eq (by omega) (by omega)).mpr k4)]
                obtain ⟨y, y1, y2, y3⟩ := ih (k + 1) 0 (by omega) (by omega) (Or.inl rfl)
                refine ⟨y, y1, y2, ?_⟩
                rw [y3]
                constructor
                · rintro ⟨h, -⟩; exact absurd h (by decide)
                · rintro ⟨-, ⟨h, -⟩, -⟩; exact absurd ⟨k3, k4⟩ (h (by omega) (by omega))
              · rw [if_neg (fun z => k4 ((pm_eq (by omega) (by omega)).mp z))]
                exact one (fun _ _ z => k4 z.2)
            · rw [if_neg (fun z => k3 ((pm_eq (by omega) (by omega)).mp z))]
              exact one (fun _ _ z => k3 z.1)
theorem pm_36 (hr : pm_rep th nd bn ask v) (hk : pm_pk v c) {p : Nat} (hp : p < 7) (h4 : ∀ q, q ≤ p → c q ≤ 4) : ∀ (m i : Nat) (x2 : Int32), i ≤ ask.length → ask.length - i < m → x2 = 0 ∨ x2 = 1 →
    ∃ y : Int32, (y = 0 ∨ y = 1) ∧ l_M_goes_36 v m (nI p) x2 (nI i) = some y ∧ (y = 1 ↔ x2 = 1 ∧ pm_K ask (bt (v.1 3)) c p i ∧ pm_B bn c p 0 ∧ pm_N nd c p) := by
  obtain ⟨a1, a2, a3⟩ := hr.2.2.2
  intro m
  induction m with
  | zero => intro i x2 _ h; omega
  | succ m ih =>
    intro i x2 hil hm hx
    have hu : l_M_goes_36 v (m + 1) (nI p) x2 (nI i) = b_M_goes_36 v (l_M_goes_36 v m) (nI p) x2 (nI i) := rfl
    rw [hu]
    unfold b_M_goes_36
    rw [a1]
    by_cases hle : ask.length ≤ i
    · rw [if_pos (nI_le hle (by omega))]
      obtain ⟨y, y1, y2, y3⟩ := pm_100 hr hk hp h4 NF 0 x2 (by omega) (by have := hr.2.2.1.2.1; show _ < 1000000; omega) hx
      refine ⟨y, y1, y2, ?_⟩
      rw [y3]
      constructor
      · rintro ⟨h, h'⟩
        refine ⟨h, fun j n hj _ hn => ?_, h'⟩
        have := (List.getElem?_eq_some_iff.mp hn).1
        omega
      · rintro ⟨h, -, h'⟩; exact ⟨h, h'⟩
    · rw [if_neg (nI_ge (by omega) (by omega))]
      rcases hx with rfl | rfl
      · rw [if_pos rfl, nI_1]
        obtain ⟨y, y1, y2, y3⟩ := ih (i + 1) 0 (by omega) (by omega) (Or.inl rfl)
        refine ⟨y, y1, y2, ?_⟩
        rw [y3]
        constructor
        · rintro ⟨h, -⟩; exact absurd h (by decide)
        · rintro ⟨h, -⟩; exact absurd h (by decide)
      · rw [if_neg (by decide), nI_1]
        obtain ⟨n, hn⟩ : ∃ n, ask[i]? = some n := ⟨_, List.getElem?_eq_getElem (by omega)⟩
        obtain ⟨m1, m2, m3, g1, g2, g3⟩ := a3 i n hn
        have hsplit : pm_K ask (bt (v.1 3)) c p i ↔ (bt (v.1 3) i = true → n.1 = p → pd_met c n) ∧ pm_K ask (bt (v.1 3)) c p (i + 1) := by
          constructor
          · intro h; exact ⟨fun k => h i n (by omega) k hn, fun j n' hj => h j n' (by omega)⟩
          · rintro ⟨h, h'⟩ j n' hj kj hn'
            by_cases e : j = i
            · subst e; rw [hn] at hn'; cases hn'; exact h kj
            · exact h' j n' (by omega) kj hn'
        rw [hsplit]
        have one : (bt (v.1 3) i = true → n.1 = p → pd_met c n) → ∃ y : Int32, (y = 0 ∨ y = 1) ∧ l_M_goes_36 v m (nI p) 1 (nI (i + 1)) = some y ∧ (y = 1 ↔ (1 : Int32) = 1 ∧ ((bt (v.1 3) i = true → n.1 = p → pd_met c n) ∧ pm_K ask (bt (v.1 3)) c p (i + 1)) ∧ pm_B bn c p 0 ∧ pm_N nd c p) := fun hB => by
          obtain ⟨y, y1, y2, y3⟩ := ih (i + 1) 1 (by omega) (by omega) (Or.inr rfl)
          refine ⟨y, y1, y2, ?_⟩
          rw [y3]
          constructor
          · rintro ⟨-, h, h'⟩; exact ⟨rfl, ⟨hB, h⟩, h'⟩
          · rintro ⟨-, ⟨-, h⟩, h'⟩; exact ⟨rfl, h, h'⟩
        have hi6 : i < 6 := by omega
        by_cases kc : bt (v.1 3) i = true
        · rw [if_neg (fun z => by rw [(pm_counts v (by omega)).mp z] at kc; cases kc), px_ck _ (px_inb hi6 (by omega)), nI_clamp (show i < 2 ^ 31 by omega), m1]
          by_cases ke : n.1 = p
          · rw [if_pos ((nI_eq (by omega) (by omega)).mpr ke), px_ck _ (px_inb hi6 (by omega)), px_ck _ (px_inb hi6 (by omega)), m2, m3, pm_isMet hk hp (by omega) g3]
            rw [Option.bind_some]
            by_cases hmet : n.2.1 + 1 ≤ c p ∧ c p ≤ n.2.2 + 1
            · rw [if_pos hmet, if_neg (by decide)]
              exact one (fun _ _ => by unfold pd_met; rw [ke]; exact hmet)
            · rw [if_neg hmet, if_pos rfl]
              obtain ⟨y, y1, y2, y3⟩ := ih (i + 1) 0 (by omega) (by omega) (Or.inl rfl)
              refine ⟨y, y1, y2, ?_⟩
              rw [y3]
              constructor
              · rintro ⟨h, -⟩; exact absurd h (by decide)
              · rintro ⟨-, ⟨h, -⟩, -⟩
                have := h kc ke
                unfold pd_met at this
                rw [ke] at this
                exact absurd this hmet
          · rw [if_neg (fun z => ke ((nI_eq (by omega) (by omega)).mp z))]
            exact one (fun _ z => absurd z ke)
        · rw [if_pos ((pm_counts v (by omega)).mpr (by simpa using kc))]
          exact one (fun z => absurd z kc)
/-- goes(p) -/
def pm_G (th : Nat → Nat → Bool) (nd : Nat → Nat → List pd_N) (bn : List pd_B) (ask : List pd_N) (mk : Nat → Bool) (c : Nat → Nat) (p : Nat) : Prop :=
  (∀ w, c p = w + 1 → th p w = true) ∧ pm_K ask mk c p 0 ∧ pm_B bn c p 0 ∧ pm_N nd c p
theorem pm_goes (hr : pm_rep th nd bn ask v) (hk : pm_pk v c) {p : Nat} (hp : p < 7) (h4 : ∀ q, q ≤ p → c q ≤ 4) : ∃ y : Int32, (y = 0 ∨ y = 1) ∧ f_M_goes (nI p) v = some y ∧ (y = 1 ↔ pm_G th nd bn ask (bt (v.1 3)) c p) := by
  have hl : ask.length - 0 < NF := by have := hr.2.2.2.2.1; show _ < 1000000; omega
  unfold f_M_goes
  obtain ⟨h1, h2⟩ := hk p hp
  rw [px_ck _ (px_inb hp (by omega)), nI_clamp (show p < 2 ^ 31 by omega), h1]
  by_cases h0 : c p = 0
  · rw [if_pos ((pm_m1 (by omega)).mpr h0)]
    obtain ⟨y, y1, y2, y3⟩ := pm_36 hr hk hp h4 NF 0 1 (by omega) hl (Or.inr rfl)
    refine ⟨y, y1, y2, ?_⟩
    rw [y3]
    unfold pm_G
    constructor
    · rintro ⟨-, h⟩; exact ⟨fun w e => by omega, h⟩
    · rintro ⟨-, h⟩; exact ⟨rfl, h⟩
  · obtain ⟨w, hw⟩ : ∃ w, c p = w + 1 := ⟨c p - 1, by omega⟩
    have hw4 : w < 4 := by have := h4 p (by omega); omega
    rw [if_neg (fun z => h0 ((pm_m1 (by omega)).mp z)), px_ck _ (px_inb hp (by omega)), hw, nI_pred, pm_4, px_ck _ (px_inb (show 4 * p + w < 28 by omega) (by omega)), nI_clamp (show 4 * p + w < 2 ^ 31 by omega), hr.1 p w hp hw4]
    by_cases ht : th p w = true
    · rw [if_pos ht, if_neg (by decide)]
      obtain ⟨y, y1, y2, y3⟩ := pm_36 hr hk hp h4 NF 0 1 (by omega) hl (Or.inr rfl)
      refine ⟨y, y1, y2, ?_⟩
      rw [y3]
      unfold pm_G
      constructor
      · rintro ⟨-, h⟩
        refine ⟨fun w2 e => ?_, h⟩
        have : w2 = w := by omega
        subst this; exact ht
      · rintro ⟨-, h⟩; exact ⟨rfl, h⟩
    · rw [if_neg ht, if_pos rfl]
      obtain ⟨y, y1, y2, y3⟩ := pm_36 hr hk hp h4 NF 0 0 (by omega) hl (Or.inl rfl)
      refine ⟨y, y1, y2, ?_⟩
      rw [y3]
      unfold pm_G
      constructor
      · rintro ⟨h, -⟩; exact absurd h (by decide)
      · rintro ⟨h, -⟩; exact absurd (h w hw) ht
end PM
