/-- what the search does to the tally -/
def px_put (x : Int32) (u : PS) : PS := f_T_enter x (f_X_costOf x u) u
def px_ent (u : PS) (x : Int32) : PS := if u.1 9 < u.1 8 then px_put x u else u
theorem px_en2 (x : Int32) (u : PS) : (px_put x u).2 = u.2 := by
  unfold px_put f_T_enter b_T_enter_31 b_T_enter_41
  repeat' split
  all_goals rfl
theorem px_en1 (x : Int32) (u : PS) {k : Nat} (hk : k < 9) : (px_put x u).1 k = u.1 k := by
  have a9 : ¬ k = 9 := by omega
  have a10 : ¬ k = 10 := by omega
  have a11 : ¬ k = 11 := by omega
  have a12 : ¬ k = 12 := by omega
  have a13 : ¬ k = 13 := by omega
  unfold px_put f_T_enter b_T_enter_31 b_T_enter_41
  repeat' split
  all_goals simp [si, va_up, a9, a10, a11, a12, a13]
theorem px_ent2 (u : PS) (x : Int32) : (px_ent u x).2 = u.2 := by
  unfold px_ent; split
  · exact px_en2 x u
  · rfl
theorem px_ent1 (u : PS) (x : Int32) {k : Nat} (hk : k < 9) : (px_ent u x).1 k = u.1 k := by
  unfold px_ent; split
  · exact px_en1 x u hk
  · rfl
theorem px_fold2 : ∀ (L : List Int32) (u : PS), (L.foldl px_ent u).2 = u.2 := by
  intro L
  induction L with
  | nil => intro u; rfl
  | cons x L ih => intro u; rw [List.foldl_cons, ih, px_ent2]
theorem px_fold1 {k : Nat} (hk : k < 9) : ∀ (L : List Int32) (u : PS), (L.foldl px_ent u).1 k = u.1 k := by
  intro L
  induction L with
  | nil => intro u; rfl
  | cons x L ih => intro u; rw [List.foldl_cons, ih, px_ent1 u x hk]
theorem px_fullF {u : PS} (h : ¬ u.1 9 < u.1 8) : ∀ (L : List Int32), L.foldl px_ent u = u := by
  intro L
  induction L with
  | nil => rfl
  | cons x L ih => rw [List.foldl_cons, show px_ent u x = u from if_neg h]; exact ih
theorem px_full (u : PS) : f_T_isFull u = 0 ↔ u.1 9 < u.1 8 := by
  unfold f_T_isFull
  split
  · simp [*]
  · simp [*]
def px_rep (nd : Nat → Nat → List pd_N) (bn : List pd_B) (u : PS) : Prop := ∀ p w, p < 7 → w < 4 → u.2 1 (pq_sl p w) = pq_M (pd_want (nd p w)) ∧ u.2 2 (pq_sl p w) = pq_A (pd_unm (nd p w)) ∧ u.2 3 (pq_sl p w) = pq_A (pd_ban bn p w)
theorem px_15 : ∀ p, p < 7 → (15 : Int32) <<< (nI (24 - 4 * p) &&& 31) = pq_A (fun q _ => decide (q = p)) := by decide +kernel
theorem px_inb {n N : Nat} (h : n < N) (hN : N < 2 ^ 31) : inb (nI n) N = true := by
  unfold inb
  have h1 : ¬ nI n < 0 := nI_pos (by omega)
  have h2 : (nI n).toNatClampNeg = n := nI_clamp (by omega)
  simp [h1, h2]; omega
theorem px_ck {α : Type} {b : Bool} (k : Option α) (h : b = true) : ck b k = k := if_pos h
theorem px_hold (t : Nat → Nat → Bool) {p w : Nat} (hp : p < 7) (hw : w < 4) : f_X_holds (pq_A t) (nI (pq_sl p w)) = 0 ↔ t p w = false := by
  unfold f_X_holds
  rw [← pq_A_holds t hp hw]
  split
  · simp [*]
  · simp [*]
section PXL
variable {nd : Nat → Nat → List pd_N} {bn : List pd_B} {rc : Int32 → Int32 → Int32 → Int32 → PS → Option PS} {r s : Nat → Bool} {t : Nat → Nat → Bool} {p : Nat} {D : Int32}
theorem px_lend (hp : p < 7) (m : Nat) (u : PS) : l_X_explore_87 rc (m + 1) (pq_M r) (pq_M s) (pq_A t) D (nI (24 - 4 * p)) (nI (28 - 4 * p)) (nI (pq_sl p 4)) u = some u := by
  show b_X_explore_87 rc (l_X_explore_87 rc m) _ _ _ _ _ _ _ u = _
  unfold b_X_explore_87
  exact if_pos (nI_le (by unfold pq_sl; omega) (by unfold pq_sl; omega))
theorem px_lstep (hp : p < 7) {j : Nat} (hj : j < 4) (m : Nat) (u : PS) (hu : px_rep nd bn u) : l_X_explore_87 rc (m + 1) (pq_M r) (pq_M s) (pq_A t) D (nI (24 - 4 * p)) (nI (28 - 4 * p)) (nI (pq_sl p j)) u =
    if t p j = true then (rc (pq_M (px_r nd p j r)) (pq_M (px_s p s)) (pq_A (px_t nd bn p j t)) (D + 1) u).bind (fun v => l_X_explore_87 rc m (pq_M r) (pq_M s) (pq_A t) D (nI (24 - 4 * p)) (nI (28 - 4 * p)) (nI (pq_sl p (j + 1))) v)
    else l_X_explore_87 rc m (pq_M r) (pq_M s) (pq_A t) D (nI (24 - 4 * p)) (nI (28 - 4 * p)) (nI (pq_sl p (j + 1))) u := by
  show b_X_explore_87 rc (l_X_explore_87 rc m) _ _ _ _ _ _ _ u = _
  unfold b_X_explore_87
  rw [if_neg (nI_ge (by unfold pq_sl; omega) (by omega))]
  have hsl := pq_sl_lt hp hj
  have e1 : nI (pq_sl p j) + (1 : Int32) = nI (pq_sl p (j + 1)) := by rw [nI_1]; rfl
  by_cases ht : t p j = true
  · have hh : ¬ f_X_holds (pq_A t) (nI (pq_sl p j)) = 0 := fun h => by rw [(px_hold t hp hj).mp h] at ht; cases ht
    rw [if_neg hh, if_pos ht, px_ck _ (px_inb hsl (by omega)), px_ck _ (px_inb hsl (by omega)), px_ck _ (px_inb hsl (by omega)), nI_clamp (by omega), e1]
    obtain ⟨h1, h2, h3⟩ := hu p j hp hj
    rw [h1, h2, h3, pq_M_or, pq_M_one hp, pq_M_or, px_15 p hp, pq_A_one hp hj, pq_A_andn, pq_A_or, pq_A_or, pq_A_andn]
    have ea : pq_A (fun p1 w => t p1 w && !(decide (p1 = p) && !(decide (p1 = p) && decide (w = j)) || pd_unm (nd p j) p1 w || pd_ban bn p j p1 w)) = pq_A (px_t nd bn p j t) := by
      apply pq_A_congr
      intro q z _ _
      unfold px_t
      by_cases e : q = p
      · simp [e]
      · simp [e]
    rw [ea]
    rfl
  · have ht' : t p j = false := by simpa using ht
    rw [if_pos ((px_hold t hp hj).mpr ht'), if_neg ht, e1]
end PXL
theorem px_cond (r m : Nat → Bool) : (pq_M r &&& (pq_M m ^^^ (-1 : Int32))) = 0 ↔ px_all (fun p => !r p || m p) = true := by
  rw [pq_M_andn, pq_M_eq0, px_all_iff]
  constructor
  · intro h p hp
    have := h p hp
    cases hr : r p <;> cases hm : m p <;> simp_all
  · intro h p hp
    have := h p hp
    cases hr : r p <;> cases hm : m p <;> simp_all
section PXE
variable {nd : Nat → Nat → List pd_N} {bn : List pd_B}
theorem px_rep_fold {u : PS} (h : px_rep nd bn u) (L : List Int32) : px_rep nd bn (L.foldl px_ent u) := by
  unfold px_rep; rw [px_fold2]; exact h
theorem px_explore : ∀ (n : Nat) (r s : Nat → Bool) (t : Nat → Nat → Bool) (d : Nat) (u : PS), px_um s + 1 ≤ n → d + px_um s = 7 → px_rep nd bn u →
    f_X_explore n (pq_M r) (pq_M s) (pq_A t) (nI d) u = some ((px_l nd bn n r s t).foldl px_ent u) := by
  intro n
  induction n with
  | zero => intro r s t d u h; omega
  | succ n ih =>
    intro r s t d u hn hd hu
    show g_X_explore (f_X_explore n) _ _ _ _ u = _
    unfold g_X_explore
    rw [if_neg (show ¬ (7 : Int32) < nI d from nI_nlt (a := 7) (by omega) (by omega))]
    by_cases hf : u.1 9 < u.1 8
    · rw [if_pos ((px_full u).mpr hf), show f_X_marksOf (pq_A t) = pq_M (px_any t) from pq_marks t]
      unfold px_l
      by_cases h1 : px_all (fun p => !r p || px_any t p) = true
      · rw [if_pos ((px_cond _ _).mpr h1), if_pos h1]
        by_cases h2 : px_all (fun p => !r p || s p) = true
        · rw [if_pos ((px_cond _ _).mpr h2), if_pos h2, pq_x15, pq_A_and]
          simp only [List.foldl_cons, List.foldl_nil]
          unfold px_ent px_put
          rw [if_pos hf]
        · rw [if_neg (fun h => h2 ((px_cond _ _).mp h)), if_neg h2, pq_M_andn]
          have hex : ∃ p, p < 7 ∧ (fun p => r p && !s p) p = true := by
            apply Classical.byContradiction
            intro hno
            apply h2
            rw [px_all_iff]
            intro p hp
            cases hr : r p with
            | false => rfl
            | true =>
              cases hs : s p with
              | true => rfl
              | false => exact absurd ⟨p, hp, by simp [hr, hs]⟩ hno
          rw [pq_low hex]
          have hp := pq_hi_lt (fun p => r p && !s p)
          have hin := pq_hi_in hex
          dsimp only
          generalize pq_hi (fun p => r p && !s p) = p at hp hin ⊢
          have hs : s p = false := by simp at hin; exact hin.2
          have hum := px_um_s hp hs
          have ej : jmin (nI (24 - 4 * p) + (4 : Int32)) (28 : Int32) = nI (28 - 4 * p) := by
            have e0 : nI (24 - 4 * p) + (4 : Int32) = nI (28 - 4 * p) := by
              show nI (24 - 4 * p) + nI 4 = _
              rw [nI_add]; congr 1; omega
            unfold jmin
            rw [e0, if_neg (show ¬ (28 : Int32) < nI (28 - 4 * p) from nI_nlt (a := 28) (by omega) (by omega))]
          have e0 : nI (24 - 4 * p) = nI (pq_sl p 0) := rfl
          rw [ej]
          have hD : nI d + (1 : Int32) = nI (d + 1) := nI_1 d
          have hrc : ∀ (w : Nat) (v : PS), w < 4 → px_rep nd bn v → f_X_explore n (pq_M (px_r nd p w r)) (pq_M (px_s p s)) (pq_A (px_t nd bn p w t)) (nI d + 1) v = some ((px_l nd bn n (px_r nd p w r) (px_s p s) (px_t nd bn p w t)).foldl px_ent v) := fun w v hw hv => by
            rw [hD]; exact ih _ _ _ _ v (by omega) (by omega) hv
          have step : ∀ (w : Nat) (v : PS) (m : Nat), w < 4 → px_rep nd bn v → l_X_explore_87 (f_X_explore n) (m + 1) (pq_M r) (pq_M s) (pq_A t) (nI d) (nI (24 - 4 * p)) (nI (28 - 4 * p)) (nI (pq_sl p w)) v = l_X_explore_87 (f_X_explore n) m (pq_M r) (pq_M s) (pq_A t) (nI d) (nI (24 - 4 * p)) (nI (28 - 4 * p)) (nI (pq_sl p (w + 1))) ((if t p w = true then px_l nd bn n (px_r nd p w r) (px_s p s) (px_t nd bn p w t) else []).foldl px_ent v) := by
            intro w v m hw hv
            rw [px_lstep hp hw m v hv]
            by_cases ht : t p w = true
            · rw [if_pos ht, if_pos ht, hrc w v hw hv]; rfl
            · rw [if_neg ht, if_neg ht]; rfl
          show l_X_explore_87 (f_X_explore n) (999995 + 1 + 1 + 1 + 1 + 1) (pq_M r) (pq_M s) (pq_A t) (nI d) (nI (24 - 4 * p)) (nI (28 - 4 * p)) (nI (pq_sl p 0)) u = _
          rw [step 0 u _ (by omega) hu, step 1 _ _ (by omega) (px_rep_fold hu _), step 2 _ _ (by omega) (px_rep_fold (px_rep_fold hu _) _), step 3 _ _ (by omega) (px_rep_fold (px_rep_fold (px_rep_fold hu _) _) _), px_lend hp]
          rw [List.foldl_append, List.foldl_append, List.foldl_append]
      · rw [if_neg (fun h => h1 ((px_cond _ _).mp h)), if_neg h1]
        rfl
    · rw [if_neg (fun h => hf ((px_full u).mp h)), px_fullF hf]
end PXE
