/-! what the tally holds behind a search -/
def pc_cost (aim kept x : Int32) : Int32 := if aim = 1 then f_J_bitCount x else if aim = 2 then f_X_differing x kept else 0
theorem pc_cost_eq (x : Int32) (u : PS) : f_X_costOf x u = pc_cost (u.1 6) (u.1 1) x := rfl
def pc_abs (x : Int32) : Int32 := (17895697 : Int32) &&& (f_X_marksOf x ^^^ (-1 : Int32))
def pc_inv (aim kept : Int32) (done : List Int32) (u : PS) : Prop :=
  u.1 6 = aim ∧ u.1 1 = kept ∧ u.1 9 = nI done.length ∧ (∀ i, bt (u.1 10) i = true ↔ ∃ x ∈ done, bt x i = true) ∧ (∀ i, bt (u.1 11) i = true ↔ ∃ x ∈ done, bt (pc_abs x) i = true) ∧
  (done ≠ [] → u.1 12 ∈ done ∧ u.1 13 = pc_cost aim kept (u.1 12) ∧ ∀ x ∈ done, u.1 13 < pc_cost aim kept x ∨ (u.1 13 = pc_cost aim kept x ∧ x ≤ u.1 12))
theorem pc_47 (x : Int32) (u : PS) : (b_T_enter_41 x u).1 9 = u.1 9 + 1 ∧ (b_T_enter_41 x u).1 10 = u.1 10 ||| x ∧ (b_T_enter_41 x u).1 11 = u.1 11 ||| pc_abs x ∧ (b_T_enter_41 x u).1 6 = u.1 6 ∧ (b_T_enter_41 x u).1 1 = u.1 1 ∧ (b_T_enter_41 x u).1 12 = u.1 12 ∧ (b_T_enter_41 x u).1 13 = u.1 13 := by
  unfold b_T_enter_41 pc_abs
  simp [si, va_up]
theorem pc_37 (x y : Int32) (u : PS) : (b_T_enter_31 x y u).1 9 = u.1 9 + 1 ∧ (b_T_enter_31 x y u).1 10 = u.1 10 ||| x ∧ (b_T_enter_31 x y u).1 11 = u.1 11 ||| pc_abs x ∧ (b_T_enter_31 x y u).1 6 = u.1 6 ∧ (b_T_enter_31 x y u).1 1 = u.1 1 ∧ (b_T_enter_31 x y u).1 12 = x ∧ (b_T_enter_31 x y u).1 13 = y := by
  unfold b_T_enter_31 b_T_enter_41 pc_abs
  simp [si, va_up]
theorem pc_step {aim kept : Int32} {done : List Int32} {u : PS} (h : pc_inv aim kept done u) (hl : done.length < 2 ^ 30) (x : Int32) : pc_inv aim kept (done ++ [x]) (px_put x u) := by
  obtain ⟨h6, h7, h9, h10, h11, hb⟩ := h
  have hcost : f_X_costOf x u = pc_cost aim kept x := by rw [pc_cost_eq, h6, h7]
  have hbits : ∀ (old new : Int32) (g : Int32 → Int32), (∀ i, bt old i = true ↔ ∃ y ∈ done, bt (g y) i = true) → new = old ||| g x → ∀ i, bt new i = true ↔ ∃ y ∈ done ++ [x], bt (g y) i = true := by
    intro old new g ho e i
    subst e
    rw [b_or, Bool.or_eq_true, ho i]
    simp only [List.mem_append, List.mem_singleton]
    constructor
    · rintro (⟨y, k1, k2⟩ | k)
      · exact ⟨y, Or.inl k1, k2⟩
      · exact ⟨x, Or.inr rfl, k⟩
    · rintro ⟨y, k1 | k1, k2⟩
      · exact Or.inl ⟨y, k1, k2⟩
      · subst k1; exact Or.inr k2
  have hlen : nI done.length + 1 = nI (done ++ [x]).length := by rw [nI_1, List.length_append]; rfl
  have takes : (done ≠ [] → (pc_cost aim kept x < u.1 13 ∨ (pc_cost aim kept x = u.1 13 ∧ u.1 12 ≤ x))) → pc_inv aim kept (done ++ [x]) (b_T_enter_31 x (pc_cost aim kept x) u) := by
    intro hc
    obtain ⟨e9, e10, e11, e6, e7, e12, e13⟩ := pc_37 x (pc_cost aim kept x) u
    refine ⟨e6.trans h6, e7.trans h7, by rw [e9, h9, hlen], hbits _ _ id h10 e10, hbits _ _ pc_abs h11 e11, fun _ => ?_⟩
    rw [e12, e13]
    refine ⟨by simp, rfl, fun y hy => ?_⟩
    rcases List.mem_append.mp hy with k | k
    · have hne : done ≠ [] := fun z => by rw [z] at k; cases k
      obtain ⟨-, -, q3⟩ := hb hne
      have k1 := hc hne
      have k2 := q3 y k
      rw [Int32.lt_iff_toInt_lt, Int32.le_iff_toInt_le, ← Int32.toInt_inj] at k1 k2 ⊢
      omega
    · rw [List.mem_singleton] at k
      subst k
      exact Or.inr ⟨rfl, Int32.le_refl _⟩
  have keeps : done ≠ [] → (u.1 13 < pc_cost aim kept x ∨ (u.1 13 = pc_cost aim kept x ∧ x ≤ u.1 12)) → pc_inv aim kept (done ++ [x]) (b_T_enter_41 x u) := by
    intro hne hc
    obtain ⟨e9, e10, e11, e6, e7, e12, e13⟩ := pc_47 x u
    obtain ⟨q1, q2, q3⟩ := hb hne
    refine ⟨e6.trans h6, e7.trans h7, by rw [e9, h9, hlen], hbits _ _ id h10 e10, hbits _ _ pc_abs h11 e11, fun _ => ?_⟩
    rw [e12, e13]
    refine ⟨List.mem_append_left _ q1, q2, fun y hy => ?_⟩
    rcases List.mem_append.mp hy with k | k
    · exact q3 y k
    · rw [List.mem_singleton] at k
      subst k
      exact hc
  unfold px_put f_T_enter
  rw [hcost, h9]
  by_cases h0 : done = []
  · rw [if_pos (by rw [h0]; rfl)]
    exact takes (fun z => absurd h0 z)
  · have hpos : 0 < done.length := List.length_pos_iff.mpr h0
    rw [if_neg (nI_ne0 hpos (by omega))]
    by_cases k1 : pc_cost aim kept x < u.1 13
    · rw [if_pos k1]; exact takes (fun _ => Or.inl k1)
    · rw [if_neg k1]
      by_cases k2 : pc_cost aim kept x = u.1 13
      · rw [if_pos k2]
        by_cases k3 : x ≤ u.1 12
        · rw [if_pos k3]; exact keeps h0 (Or.inr ⟨k2.symm, k3⟩)
        · rw [if_neg k3]; exact takes (fun _ => Or.inr ⟨k2, by rw [Int32.le_iff_toInt_le] at k3 ⊢; omega⟩)
      · rw [if_neg k2]
        refine keeps h0 (Or.inl ?_)
        rw [Int32.lt_iff_toInt_lt] at k1 ⊢
        rw [← Int32.toInt_inj] at k2
        omega
theorem pc_fold {aim kept : Int32} {M : Nat} (hM : M < 2 ^ 30) : ∀ (L done : List Int32) (u : PS), pc_inv aim kept done u → u.1 8 = nI M → done.length + L.length ≤ M → pc_inv aim kept (done ++ L) (L.foldl px_ent u) := by
  intro L
  induction L with
  | nil => intro done u h _ _; rw [List.append_nil]; exact h
  | cons x L ih =>
    intro done u h h8 hl
    rw [List.length_cons] at hl
    have hf : u.1 9 < u.1 8 := by rw [h.2.2.1, h8]; exact nI_lt (by omega) (by omega)
    rw [List.foldl_cons, show px_ent u x = px_put x u from if_pos hf]
    have := ih (done ++ [x]) (px_put x u) (pc_step h (by omega) x) (by rw [px_en1 x u (by omega)]; exact h8) (by rw [List.length_append]; simp; omega)
    rwa [List.append_assoc] at this
theorem pc_one {u : PS} (h9 : u.1 9 = 0) (h8 : u.1 8 = 1) : ∀ L : List Int32, (L.foldl px_ent u).1 9 = if L = [] then 0 else 1 := by
  intro L
  cases L with
  | nil => exact h9
  | cons x L =>
    have hf : u.1 9 < u.1 8 := by rw [h9, h8]; decide
    have e1 : px_ent u x = px_put x u := if_pos hf
    have e9 : (px_put x u).1 9 = 1 := by
      unfold px_put f_T_enter
      rw [if_pos h9, (pc_37 _ _ _).1, h9]; rfl
    rw [List.foldl_cons, e1, px_fullF (u := px_put x u) (by rw [e9, px_en1 x u (by omega), h8]; decide), e9]
    rfl
/-- the start of a tally -/
theorem pc_begin (aim : Int32) (lim : Int32) (u : PS) : pc_inv aim (u.1 1) [] (f_T_begin aim lim u) ∧ (f_T_begin aim lim u).1 8 = lim ∧ (f_T_begin aim lim u).2 = u.2 ∧ ∀ k, k < 6 → (f_T_begin aim lim u).1 k = u.1 k := by
  refine ⟨⟨?_, ?_, ?_, fun i => ?_, fun i => ?_, fun h => absurd rfl h⟩, ?_, rfl, fun k hk => ?_⟩
  · simp [f_T_begin, si, va_up]
  · simp [f_T_begin, si, va_up]
  · simp [f_T_begin, si, va_up]; rfl
  · have : (f_T_begin aim lim u).1 10 = 0 := by simp [f_T_begin, si, va_up]
    rw [this, b_0]; simp
  · have : (f_T_begin aim lim u).1 11 = 0 := by simp [f_T_begin, si, va_up]
    rw [this, b_0]; simp
  · simp [f_T_begin, si, va_up]
  · have a6 : ¬ k = 6 := by omega
    have a7 : ¬ k = 7 := by omega
    have a8 : ¬ k = 8 := by omega
    have a9 : ¬ k = 9 := by omega
    have a10 : ¬ k = 10 := by omega
    have a11 : ¬ k = 11 := by omega
    have a12 : ¬ k = 12 := by omega
    have a13 : ¬ k = 13 := by omega
    simp [f_T_begin, si, va_up, a6, a7, a8, a9, a10, a11, a12, a13]
/-! what is asked, as the class holds it -/
def px_repW (ask : List pd_N) (u : PS) : Prop := u.1 5 = nI ask.length ∧ ask.length ≤ 6 ∧ ∀ i n, ask[i]? = some n → u.2 4 i = pq_M (fun q => decide (q = n.1)) ∧ u.2 5 i = pq_A (fun q z => decide (q = n.1) && !(decide (n.2.1 ≤ z) && decide (z ≤ n.2.2)))
theorem px_bit0 (x : Int32) {n : Nat} (hn : n < 32) : (x &&& ((1 : Int32) <<< (nI n &&& 31))) = 0 ↔ bt x n = false := by
  constructor
  · intro h
    have := b_and x ((1 : Int32) <<< (nI n &&& 31)) n
    rw [h, b_0, pq_b1 hn] at this
    simpa using this.symm
  · intro h
    apply b_ext
    intro i hi
    rw [b_and, pq_b1 hn, b_0]
    by_cases e : i = n
    · subst e; simp [h]
    · simp [e]
theorem px_wish : ∀ i, i < 6 → f_X_wishBit (nI i) = (1 : Int32) <<< (nI (5 - i) &&& 31) := by decide +kernel
section PU
variable {ask : List pd_N} {u : PS}
theorem px_un8 (h : px_repW ask u) (sub : Int32) : ∀ (m i : Nat) (r : Nat → Bool), i ≤ ask.length → ask.length - i < m →
    ∃ r' : Nat → Bool, l_W_union_8_5 u m sub (pq_M r) (nI i) = some (pq_M r') ∧ ∀ q, q < 7 → (r' q = true ↔ r q = true ∨ ∃ j n, i ≤ j ∧ bt sub (5 - j) = true ∧ ask[j]? = some n ∧ n.1 = q) := by
  obtain ⟨h5, h6, ha⟩ := h
  intro m
  induction m with
  | zero => intro i r _ h; omega
  | succ m ih =>
    intro i r hi hm
    have hu : l_W_union_8_5 u (m + 1) sub (pq_M r) (nI i) = b_W_union_8_5 u (l_W_union_8_5 u m) sub (pq_M r) (nI i) := rfl
    rw [hu]
    unfold b_W_union_8_5
    rw [h5]
    by_cases hle : ask.length ≤ i
    · rw [if_pos (nI_le hle (by omega))]
      refine ⟨r, rfl, fun q hq => ⟨fun k => Or.inl k, ?_⟩⟩
      rintro (k | ⟨j, n, k1, -, k2, -⟩)
      · exact k
      · have := (List.getElem?_eq_some_iff.mp k2).1
        omega
    · have hi6 : i < 6 := by omega
      rw [if_neg (nI_ge (by omega) (by omega)), if_neg (show ¬ (6 : Int32) ≤ nI i from nI_ge (b := 6) hi6 (by omega)), px_wish i hi6, nI_1]
      obtain ⟨n, hn⟩ : ∃ n, ask[i]? = some n := ⟨_, List.getElem?_eq_getElem (by omega)⟩
      by_cases kc : bt sub (5 - i) = true
      · rw [if_neg (fun z => by rw [(px_bit0 sub (by omega)).mp z] at kc; cases kc), px_ck _ (px_inb hi6 (by omega)), nI_clamp (show i < 2 ^ 31 by omega), (ha i n hn).1, pq_M_or]
        obtain ⟨r', e1, e2⟩ := ih (i + 1) _ (by omega) (by omega)
        refine ⟨r', e1, fun q hq => ?_⟩
        rw [e2 q hq]
        constructor
        · rintro (k | ⟨j, n', k1, k2, k3, k4⟩)
          · rw [Bool.or_eq_true, decide_eq_true_eq] at k
            rcases k with k | k
            · exact Or.inl k
            · exact Or.inr ⟨i, n, by omega, kc, hn, k.symm⟩
          · exact Or.inr ⟨j, n', by omega, k2, k3, k4⟩
        · rintro (k | ⟨j, n', k1, k2, k3, k4⟩)
          · exact Or.inl (by rw [k]; rfl)
          · by_cases e : j = i
            · subst e; rw [hn] at k3; cases k3
              exact Or.inl (by simp [k4])
            · exact Or.inr ⟨j, n', by omega, k2, k3, k4⟩
      · rw [if_pos ((px_bit0 sub (by omega)).mpr (by simpa using kc))]
        obtain ⟨r', e1, e2⟩ := ih (i + 1) r (by omega) (by omega)
        refine ⟨r', e1, fun q hq => ?_⟩
        rw [e2 q hq]
        constructor
        · rintro (k | ⟨j, n', k1, k2, k3, k4⟩)
          · exact Or.inl k
          · exact Or.inr ⟨j, n', by omega, k2, k3, k4⟩
        · rintro (k | ⟨j, n', k1, k2, k3, k4⟩)
          · exact Or.inl k
          · by_cases e : j = i
            · subst e; exact absurd k2 kc
            · exact Or.inr ⟨j, n', by omega, k2, k3, k4⟩
theorem px_un9 (h : px_repW ask u) (sub : Int32) : ∀ (m i : Nat) (t : Nat → Nat → Bool), i ≤ ask.length → ask.length - i < m →
    ∃ t' : Nat → Nat → Bool, l_W_union_9_5 u m sub (pq_A t) (nI i) = some (pq_A t') ∧ ∀ q z, q < 7 → z < 4 → (t' q z = true ↔ t q z = true ∨ ∃ j n, i ≤ j ∧ bt sub (5 - j) = true ∧ ask[j]? = some n ∧ n.1 = q ∧ ¬ (n.2.1 ≤ z ∧ z ≤ n.2.2)) := by
  obtain ⟨h5, h6, ha⟩ := h
  intro m
  induction m with
  | zero => intro i r _ h; omega
  | succ m ih =>
    intro i t hi hm
    have hu : l_W_union_9_5 u (m + 1) sub (pq_A t) (nI i) = b_W_union_9_5 u (l_W_union_9_5 u m) sub (pq_A t) (nI i) := rfl
    rw [hu]
    unfold b_W_union_9_5
    rw [h5]
    by_cases hle : ask.length ≤ i
    · rw [if_pos (nI_le hle (by omega))]
      refine ⟨t, rfl, fun q z hq hz => ⟨fun k => Or.inl k, ?_⟩⟩
      rintro (k | ⟨j, n, k1, -, k2, -⟩)
      · exact k
      · have := (List.getElem?_eq_some_iff.mp k2).1
        omega
    · have hi6 : i < 6 := by omega
      rw [if_neg (nI_ge (by omega) (by omega)), if_neg (show ¬ (6 : Int32) ≤ nI i from nI_ge (b := 6) hi6 (by omega)), px_wish i hi6, nI_1]
      obtain ⟨n, hn⟩ : ∃ n, ask[i]? = some n := ⟨_, List.getElem?_eq_getElem (by omega)⟩
      by_cases kc : bt sub (5 - i) = true
      · rw [if_neg (fun z => by rw [(px_bit0 sub (by omega)).mp z] at kc; cases kc), px_ck _ (px_inb hi6 (by omega)), nI_clamp (show i < 2 ^ 31 by omega), (ha i n hn).2, pq_A_or]
        obtain ⟨t', e1, e2⟩ := ih (i + 1) _ (by omega) (by omega)
        refine ⟨t', e1, fun q z hq hz => ?_⟩
        rw [e2 q z hq hz]
        have e3 : (decide (q = n.1) && !(decide (n.2.1 ≤ z) && decide (z ≤ n.2.2))) = true ↔ n.1 = q ∧ ¬ (n.2.1 ≤ z ∧ z ≤ n.2.2) := by
          simp only [Bool.and_eq_true, decide_eq_true_eq, Bool.not_eq_true', Bool.and_eq_false_iff, decide_eq_false_iff_not]
          constructor
          · rintro ⟨a, b⟩; exact ⟨a.symm, fun c => by omega⟩
          · rintro ⟨a, b⟩; exact ⟨a.symm, by omega⟩
        constructor
        · rintro (k | ⟨j, n', k1, k2, k3, k4⟩)
          · rw [Bool.or_eq_true, e3] at k
            rcases k with k | k
            · exact Or.inl k
            · exact Or.inr ⟨i, n, by omega, kc, hn, k⟩
          · exact Or.inr ⟨j, n', by omega, k2, k3, k4⟩
        · rintro (k | ⟨j, n', k1, k2, k3, k4⟩)
          · exact Or.inl (by rw [k]; rfl)
          · by_cases e : j = i
            · subst e; rw [hn] at k3; cases k3
              exact Or.inl (by rw [Bool.or_eq_true, e3]; exact Or.inr k4)
            · exact Or.inr ⟨j, n', by omega, k2, k3, k4⟩
      · rw [if_pos ((px_bit0 sub (by omega)).mpr (by simpa using kc))]
        obtain ⟨t', e1, e2⟩ := ih (i + 1) t (by omega) (by omega)
        refine ⟨t', e1, fun q z hq hz => ?_⟩
        rw [e2 q z hq hz]
        constructor
        · rintro (k | ⟨j, n', k1, k2, k3, k4⟩)
          · exact Or.inl k
          · exact Or.inr ⟨j, n', by omega, k2, k3, k4⟩
        · rintro (k | ⟨j, n', k1, k2, k3, k4⟩)
          · exact Or.inl k
          · by_cases e : j = i
            · subst e; exact absurd k2 kc
            · exact Or.inr ⟨j, n', by omega, k2, k3, k4⟩
theorem px_M0 : pq_M (fun _ => false) = 0 := by unfold pq_M; rw [← pq_0]; exact pq_congr fun i _ => by simp
theorem px_A0 : pq_A (fun _ _ => false) = 0 := by unfold pq_A; exact pq_0
/-- one search of the class -/
theorem px_tally {th : Nat → Nat → Bool} {nd : Nat → Nat → List pd_N} {bn : List pd_B} (hw : px_repW ask u) (hu : px_rep nd bn u) (h3 : u.1 3 = pq_A th) (sub aim lim : Int32) :
    f_X_tallyChoices sub aim lim u = some (((px_L th nd bn (pd_sel ask (fun i => bt sub (5 - i)))).foldl px_ent (f_T_begin aim lim u)).1 9, (px_L th nd bn (pd_sel ask (fun i => bt sub (5 - i)))).foldl px_ent (f_T_begin aim lim u)) := by
  obtain ⟨-, -, b2, b1⟩ := pc_begin aim lim u
  generalize hg : f_T_begin aim lim u = u1 at b1 b2
  have hw1 : px_repW ask u1 := by unfold px_repW; rw [b2, b1 5 (by omega)]; exact hw
  have hu1 : px_rep nd bn u1 := by unfold px_rep; rw [b2]; exact hu
  have hl : ask.length - 0 < NF := by have := hw.2.1; show _ < 1000000; omega
  unfold f_X_tallyChoices
  rw [hg]
  obtain ⟨r', r1, r2⟩ := px_un8 hw1 sub NF 0 (fun _ => false) (by omega) hl
  obtain ⟨t', t1, t2⟩ := px_un9 hw1 sub NF 0 (fun _ _ => false) (by omega) hl
  have e8 : f_W_union_8 sub u1 = some (pq_M r') := by
    unfold f_W_union_8; rw [← r1, px_M0]; rfl
  have e9 : f_W_union_9 sub u1 = some (pq_A t') := by
    unfold f_W_union_9; rw [← t1, px_A0]; rfl
  have er : pq_M r' = pq_M (pd_want (pd_sel ask (fun i => bt sub (5 - i)))) := pq_M_congr fun q hq => by
    rw [Bool.eq_iff_iff, r2 q hq, pd_want_iff]
    constructor
    · rintro (k | ⟨j, n, -, k1, k2, k3⟩)
      · cases k
      · exact ⟨n, (pd_sel_iff _ _ _).mpr ⟨j, k1, k2⟩, k3⟩
    · rintro ⟨n, hn, k3⟩
      obtain ⟨j, k1, k2⟩ := (pd_sel_iff _ _ _).mp hn
      exact Or.inr ⟨j, n, by omega, k1, k2, k3⟩
  have et : pq_A t' = pq_A (pd_unm (pd_sel ask (fun i => bt sub (5 - i)))) := pq_A_congr fun q z hq hz => by
    rw [Bool.eq_iff_iff, t2 q z hq hz]
    have hiff : pd_unm (pd_sel ask (fun i => bt sub (5 - i))) q z = true ↔ ¬ ∀ n ∈ pd_sel ask (fun i => bt sub (5 - i)), n.1 = q → n.2.1 ≤ z ∧ z ≤ n.2.2 := by
      rw [← pd_unm_iff]; simp
    rw [hiff]
    constructor
    · rintro (k | ⟨j, n, -, k1, k2, k3, k4⟩)
      · cases k
      · exact fun h => k4 (h n ((pd_sel_iff _ _ _).mpr ⟨j, k1, k2⟩) k3)
    · intro h
      apply Classical.byContradiction
      intro hno
      apply h
      intro n hn e
      obtain ⟨j, k1, k2⟩ := (pd_sel_iff _ _ _).mp hn
      apply Classical.byContradiction
      intro hbad
      exact hno (Or.inr ⟨j, n, by omega, k1, k2, e, hbad⟩)
  rw [e8, Option.bind_some, e9, Option.bind_some, er, et, b1 3 (by omega), h3, pq_A_andn]
  have key := px_explore (nd := nd) (bn := bn) 9 (pd_want (pd_sel ask (fun i => bt sub (5 - i)))) (fun _ => false) (px_t0 th (pd_sel ask (fun i => bt sub (5 - i)))) 0 u1 (by decide) (by decide) hu1
  rw [px_M0] at key
  have key2 : f_X_explore 9 (pq_M (pd_want (pd_sel ask (fun i => bt sub (5 - i))))) 0 (pq_A (fun p w => th p w && !pd_unm (pd_sel ask (fun i => bt sub (5 - i))) p w)) 0 u1 = _ := key
  rw [key2, Option.bind_some]
  rfl
end PU
