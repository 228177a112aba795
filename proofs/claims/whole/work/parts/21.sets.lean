/-- sets of versions and of packages, as the class holds them -/
def pq_A (t : Nat → Nat → Bool) : Int32 := pq_mk (fun i => t (6 - i / 4) (i % 4))
def pq_M (r : Nat → Bool) : Int32 := pq_mk (fun i => decide (i % 4 = 0) && r (6 - i / 4))
def pq_sl (p w : Nat) : Nat := 24 - 4 * p + w
theorem pq_sl_lt {p w : Nat} (hp : p < 7) (hw : w < 4) : pq_sl p w < 28 := by unfold pq_sl; omega
theorem pq_sl_p {p w : Nat} (hp : p < 7) (hw : w < 4) : 6 - pq_sl p w / 4 = p := by unfold pq_sl; omega
theorem pq_sl_w {p w : Nat} (hp : p < 7) (hw : w < 4) : pq_sl p w % 4 = w := by unfold pq_sl; omega
theorem pq_sl_of {i : Nat} (hi : i < 28) : i = pq_sl (6 - i / 4) (i % 4) ∧ 6 - i / 4 < 7 ∧ i % 4 < 4 := by unfold pq_sl; omega
theorem pq_sl_inj {p w q z : Nat} (hp : p < 7) (hw : w < 4) (hq : q < 7) (hz : z < 4) : pq_sl p w = pq_sl q z ↔ p = q ∧ w = z := by unfold pq_sl; omega
theorem pq_A_congr {s t : Nat → Nat → Bool} (h : ∀ p w, p < 7 → w < 4 → s p w = t p w) : pq_A s = pq_A t := pq_congr fun i hi => h _ _ (by omega) (by omega)
theorem pq_M_congr {s t : Nat → Bool} (h : ∀ p, p < 7 → s p = t p) : pq_M s = pq_M t := pq_congr fun i hi => by rw [h _ (by omega)]
theorem pq_A_or (s t : Nat → Nat → Bool) : pq_A s ||| pq_A t = pq_A (fun p w => s p w || t p w) := pq_or _ _
theorem pq_A_and (s t : Nat → Nat → Bool) : pq_A s &&& pq_A t = pq_A (fun p w => s p w && t p w) := pq_and _ _
theorem pq_A_xor (s t : Nat → Nat → Bool) : pq_A s ^^^ pq_A t = pq_A (fun p w => s p w ^^ t p w) := pq_xor _ _
theorem pq_A_andn (s t : Nat → Nat → Bool) : pq_A s &&& (pq_A t ^^^ (-1)) = pq_A (fun p w => s p w && !t p w) := pq_andn _ _
theorem pq_M_or (s t : Nat → Bool) : pq_M s ||| pq_M t = pq_M (fun p => s p || t p) := by
  unfold pq_M; rw [pq_or]; apply pq_congr; intro i _
  cases decide (i % 4 = 0) <;> rfl
theorem pq_M_andn (s t : Nat → Bool) : pq_M s &&& (pq_M t ^^^ (-1)) = pq_M (fun p => s p && !t p) := by
  unfold pq_M; rw [pq_andn]; apply pq_congr; intro i _
  cases decide (i % 4 = 0) <;> simp
theorem pq_A_eq0 (t : Nat → Nat → Bool) : pq_A t = 0 ↔ ∀ p w, p < 7 → w < 4 → t p w = false := by
  unfold pq_A; rw [pq_eq0]
  constructor
  · intro h p w hp hw
    have := h (pq_sl p w) (pq_sl_lt hp hw)
    rwa [pq_sl_p hp hw, pq_sl_w hp hw] at this
  · intro h i hi
    exact h _ _ (by omega) (by omega)
theorem pq_M_eq0 (r : Nat → Bool) : pq_M r = 0 ↔ ∀ p, p < 7 → r p = false := by
  unfold pq_M; rw [pq_eq0]
  constructor
  · intro h p hp
    have := h (pq_sl p 0) (pq_sl_lt hp (by omega))
    rw [pq_sl_p hp (by omega), pq_sl_w hp (by omega)] at this
    simpa using this
  · intro h i hi
    rw [h _ (by omega)]; simp
theorem pq_A_inj {s t : Nat → Nat → Bool} (h : pq_A s = pq_A t) {p w : Nat} (hp : p < 7) (hw : w < 4) : s p w = t p w := by
  have := pq_inj h (pq_sl_lt hp hw)
  rwa [pq_sl_p hp hw, pq_sl_w hp hw] at this
theorem pq_A_holds (t : Nat → Nat → Bool) {p w : Nat} (hp : p < 7) (hw : w < 4) : (pq_A t &&& ((1 : Int32) <<< (nI (pq_sl p w) &&& 31))) = 0 ↔ t p w = false := by
  unfold pq_A; rw [pq_holds _ (pq_sl_lt hp hw), pq_sl_p hp hw, pq_sl_w hp hw]
theorem pq_A_one {p w : Nat} (hp : p < 7) (hw : w < 4) : (1 : Int32) <<< (nI (pq_sl p w) &&& 31) = pq_A (fun q z => decide (q = p) && decide (z = w)) := by
  rw [pq_one (pq_sl_lt hp hw)]; unfold pq_A; apply pq_congr; intro i hi
  obtain ⟨h1, h2, h3⟩ := pq_sl_of hi
  by_cases e : i = pq_sl p w
  · subst e; rw [pq_sl_p hp hw, pq_sl_w hp hw]; simp
  · have : ¬ (6 - i / 4 = p ∧ i % 4 = w) := fun z => e (by rw [h1, z.1, z.2])
    simp [e]; intro z; exact fun z2 => this ⟨z, z2⟩
theorem pq_M_one {p : Nat} (hp : p < 7) : (1 : Int32) <<< (nI (24 - 4 * p) &&& 31) = pq_M (fun q => decide (q = p)) := by
  have h0 : 24 - 4 * p = pq_sl p 0 := by unfold pq_sl; omega
  rw [h0, pq_one (pq_sl_lt hp (by omega))]; unfold pq_M; apply pq_congr; intro i hi
  obtain ⟨h1, h2, h3⟩ := pq_sl_of hi
  by_cases e : i = pq_sl p 0
  · subst e; rw [pq_sl_p hp (by omega), pq_sl_w hp (by omega)]; simp
  · have : ¬ (6 - i / 4 = p ∧ i % 4 = 0) := fun z => e (by rw [h1, z.1, z.2])
    simp [e]; intro z z2; exact this ⟨z2, z⟩
theorem pq_bM : ∀ i, i < 32 → bt 17895697 i = (decide (i < 28) && decide (i % 4 = 0)) := by decide +kernel
theorem pq_marks (t : Nat → Nat → Bool) : f_X_marksOf (pq_A t) = pq_M (fun p => t p 0 || t p 1 || t p 2 || t p 3) := by
  apply b_ext; intro i hi
  unfold f_X_marksOf pq_A pq_M
  rw [b_and, pq_bM i hi, b_or, b_or, b_or, pq_bt, pq_bt]
  have e1 := pq_shr (fun i => t (6 - i / 4) (i % 4)) (n := 1) (by omega) hi
  have e2 := pq_shr (fun i => t (6 - i / 4) (i % 4)) (n := 2) (by omega) hi
  have e3 := pq_shr (fun i => t (6 - i / 4) (i % 4)) (n := 3) (by omega) hi
  rw [show ((1 : Int32)) = nI 1 from rfl, show ((2 : Int32)) = nI 2 from rfl, show ((3 : Int32)) = nI 3 from rfl, e1, e2, e3]
  by_cases h4 : i % 4 = 0
  · by_cases h28 : i < 28
    · have a1 : 1 + i < 28 := by omega
      have a2 : 2 + i < 28 := by omega
      have a3 : 3 + i < 28 := by omega
      have d1 : (1 + i) / 4 = i / 4 := by omega
      have d2 : (2 + i) / 4 = i / 4 := by omega
      have d3 : (3 + i) / 4 = i / 4 := by omega
      have m1 : (1 + i) % 4 = 1 := by omega
      have m2 : (2 + i) % 4 = 2 := by omega
      have m3 : (3 + i) % 4 = 3 := by omega
      simp [h4, h28, a1, a2, a3, d1, d2, d3, m1, m2, m3]
    · simp [h28]
  · simp [h4]
/-- any set of packages, by a number -/
theorem pq_num (r : Nat → Bool) : ∃ m : Nat, m < 128 ∧ ∀ p, p < 7 → r p = m.testBit p := by
  have key : ∀ b0 b1 b2 b3 b4 b5 b6 : Bool, (fun m : Nat => m < 128 ∧ m.testBit 0 = b0 ∧ m.testBit 1 = b1 ∧ m.testBit 2 = b2 ∧ m.testBit 3 = b3 ∧ m.testBit 4 = b4 ∧ m.testBit 5 = b5 ∧ m.testBit 6 = b6) (b0.toNat + 2 * b1.toNat + 4 * b2.toNat + 8 * b3.toNat + 16 * b4.toNat + 32 * b5.toNat + 64 * b6.toNat) := by decide +kernel
  have h := key (r 0) (r 1) (r 2) (r 3) (r 4) (r 5) (r 6)
  refine ⟨_, h.1, fun p hp => ?_⟩
  obtain ⟨-, h0, h1, h2, h3, h4, h5, h6⟩ := h
  rcases (show p = 0 ∨ p = 1 ∨ p = 2 ∨ p = 3 ∨ p = 4 ∨ p = 5 ∨ p = 6 by omega) with rfl | rfl | rfl | rfl | rfl | rfl | rfl
  · exact h0.symm
  · exact h1.symm
  · exact h2.symm
  · exact h3.symm
  · exact h4.symm
  · exact h5.symm
  · exact h6.symm
theorem pq_x15_d : ∀ m, m < 128 → pq_M (fun p => m.testBit p) * 15 = pq_A (fun p _ => m.testBit p) := by decide +kernel
theorem pq_x15 (r : Nat → Bool) : pq_M r * 15 = pq_A (fun p _ => r p) := by
  obtain ⟨m, hm, h⟩ := pq_num r
  rw [pq_M_congr h, pq_x15_d m hm]
  exact pq_A_congr fun p w hp _ => (h p hp).symm
/-- the greatest package of a set -/
def pq_hi (r : Nat → Bool) : Nat := if r 6 then 6 else if r 5 then 5 else if r 4 then 4 else if r 3 then 3 else if r 2 then 2 else if r 1 then 1 else 0
theorem pq_hi_congr {r s : Nat → Bool} (h : ∀ p, p < 7 → r p = s p) : pq_hi r = pq_hi s := by
  unfold pq_hi; rw [h 6 (by omega), h 5 (by omega), h 4 (by omega), h 3 (by omega), h 2 (by omega), h 1 (by omega)]
theorem pq_low_d : ∀ m, m < 128 → m ≠ 0 → f_X_lowestPlace (pq_M (fun p => m.testBit p)) = nI (24 - 4 * pq_hi (fun p => m.testBit p)) := by decide +kernel
theorem pq_low {r : Nat → Bool} (hr : ∃ p, p < 7 ∧ r p = true) : f_X_lowestPlace (pq_M r) = nI (24 - 4 * pq_hi r) := by
  obtain ⟨m, hm, h⟩ := pq_num r
  have h0 : m ≠ 0 := by
    obtain ⟨p, hp, hr⟩ := hr
    intro e; subst e
    rw [h p hp] at hr; simp at hr
  rw [pq_M_congr h, pq_low_d m hm h0, pq_hi_congr h]
theorem pq_hi_lt (r : Nat → Bool) : pq_hi r < 7 := by
  unfold pq_hi; repeat' split
  all_goals omega
theorem pq_hi_in {r : Nat → Bool} (hr : ∃ p, p < 7 ∧ r p = true) : r (pq_hi r) = true := by
  obtain ⟨p, hp, h⟩ := hr
  unfold pq_hi
  repeat' split
  all_goals (try assumption)
  rcases (show p = 0 ∨ p = 1 ∨ p = 2 ∨ p = 3 ∨ p = 4 ∨ p = 5 ∨ p = 6 by omega) with rfl | rfl | rfl | rfl | rfl | rfl | rfl
  all_goals (first | assumption | contradiction)
