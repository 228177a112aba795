/-! CLASS AND REFERENCE SIDE BY SIDE -/
theorem si_1 (u : PS) (k : Nat) (x : Int32) (j : Nat) : (si u k x).1 j = if j = k then x else u.1 j := rfl
theorem si_2 (u : PS) (k : Nat) (x : Int32) : (si u k x).2 = u.2 := rfl
theorem sa_1 (u : PS) (k i : Nat) (x : Int32) : (sa u k i x).1 = u.1 := rfl
theorem sa_2 (u : PS) (k i : Nat) (x : Int32) (j z : Nat) : (sa u k i x).2 j z = if j = k then (if z = i then x else u.2 k z) else u.2 j z := by
  unfold sa va_up upd
  dsimp only
  by_cases h : j = k
  · rw [if_pos h, if_pos h]
  · rw [if_neg h, if_neg h]
abbrev TH : Type := Nat → Nat → Bool
abbrev ND : Type := Nat → Nat → List pd_N
def RX (th : TH) (nd : ND) (bn : List pd_B) (ask : List pd_N) (u : PS) : Prop :=
  px_rep nd bn u ∧ px_repW ask u ∧ u.1 3 = pq_A th ∧ (∀ p w, p < 7 → w < 4 → u.2 0 (pq_sl p w) = nI (nd p w).length) ∧ u.1 4 = nI bn.length
def RM (th : TH) (nd : ND) (bn : List pd_B) (ask : List pd_N) (v : PS) : Prop :=
  pm_rep th nd bn ask v ∧ (∃ c, pm_pk v c) ∧ ∀ p w, p < 7 → w < 4 → th p w = false → nd p w = []
def RT (tc kc : Nat → Nat) (u v : PS) : Prop := pd_wf tc ∧ pd_wf kc ∧ u.1 0 = pd_enc tc ∧ u.1 1 = pd_enc kc ∧ ∀ p, p < 7 → v.2 12 p = nI (tc p) - 1 ∧ v.2 13 p = nI (kc p) - 1
def RC (u v : PS) : Prop := (∀ i, bt (u.1 2) i = (decide (i < 6) && bt (v.1 5) (5 - i))) ∧ ∀ i, 6 ≤ i → bt (v.1 5) i = false
def Rel (u v : PS) : Prop := ∃ (th : TH) (nd : ND) (bn : List pd_B) (ask : List pd_N) (tc kc : Nat → Nat), RX th nd bn ask u ∧ RM th nd bn ask v ∧ RT tc kc u v ∧ RC u v
section RL
variable {th : TH} {nd : ND} {bn : List pd_B} {ask : List pd_N} {tc kc : Nat → Nat} {u v u' v' : PS}
theorem RX.fr (h : RX th nd bn ask u) (h1 : ∀ k, k = 3 ∨ k = 4 ∨ k = 5 → u'.1 k = u.1 k) (h2 : u'.2 = u.2) : RX th nd bn ask u' := by
  unfold RX px_rep px_repW at h ⊢
  rw [h2, h1 3 (by omega), h1 4 (by omega), h1 5 (by omega)]
  exact h
theorem RM.fr (h : RM th nd bn ask v) (h1 : v'.1 1 = v.1 1 ∧ v'.1 2 = v.1 2) (h2 : ∀ k, k < 10 → v'.2 k = v.2 k) (hk : ∃ c, pm_pk v' c) : RM th nd bn ask v' := by
  refine ⟨?_, hk, h.2.2⟩
  have := h.1
  unfold pm_rep at this ⊢
  rw [h1.1, h1.2, h2 0 (by omega), h2 1 (by omega), h2 2 (by omega), h2 3 (by omega), h2 4 (by omega), h2 5 (by omega), h2 6 (by omega), h2 7 (by omega), h2 8 (by omega), h2 9 (by omega)]
  exact this
theorem RT.fr (h : RT tc kc u v) (h0 : u'.1 0 = u.1 0 ∧ u'.1 1 = u.1 1) (h2 : v'.2 12 = v.2 12 ∧ v'.2 13 = v.2 13) : RT tc kc u' v' := by
  unfold RT at h ⊢
  rw [h0.1, h0.2, h2.1, h2.2]; exact h
theorem RC.fr (h : RC u v) (h1 : u'.1 2 = u.1 2) (h2 : v'.1 5 = v.1 5) : RC u' v' := by
  unfold RC at h ⊢
  rw [h1, h2]; exact h
theorem pk_ex (h : ∃ c, pm_pk v c) (h2 : v'.2 10 = v.2 10) : ∃ c, pm_pk v' c := by
  obtain ⟨c, h⟩ := h
  exact ⟨c, by unfold pm_pk at h ⊢; rw [h2]; exact h⟩
/-- the reference alone notes that nothing was thrown -/
theorem Rel.si0 (h : Rel u v) (x : Int32) : Rel u (si v 0 x) := by
  obtain ⟨th, nd, bn, ask, tc, kc, h1, h2, h3, h4⟩ := h
  exact ⟨th, nd, bn, ask, tc, kc, h1, h2.fr ⟨rfl, rfl⟩ (fun _ _ => rfl) (pk_ex h2.2.1 rfl), h3.fr ⟨rfl, rfl⟩ ⟨rfl, rfl⟩, h4.fr rfl rfl⟩
end RL
theorem rl_pkg (a : Int32) : (f_X_isPackage a = 0 ∧ f_M_isPackage a = 0) ∨ ∃ p, p < 7 ∧ a = nI p ∧ f_X_isPackage a = 1 ∧ f_M_isPackage a = 1 := by
  rcases pk_ix a (n := 7) (by decide) with h | h | ⟨p, hp, rfl⟩
  · left; unfold f_X_isPackage f_M_isPackage; simp [h]
  · left
    have h' : (7 : Int32) ≤ a := h
    unfold f_X_isPackage f_M_isPackage; by_cases h0 : a < 0 <;> simp [h0, h']
  · right
    exact ⟨p, hp, rfl, (by decide +kernel : ∀ p, p < 7 → f_X_isPackage (nI p) = 1) p hp, (by decide +kernel : ∀ p, p < 7 → f_M_isPackage (nI p) = 1) p hp⟩
theorem rl_ver (a b : Int32) : (f_X_isVersion a b = 0 ∧ f_M_isVersion a b = 0) ∨ ∃ p w, p < 7 ∧ w < 4 ∧ a = nI p ∧ b = nI w ∧ f_X_isVersion a b = 1 ∧ f_M_isVersion a b = 1 := by
  rcases rl_pkg a with ⟨h1, h2⟩ | ⟨p, hp, rfl, h1, h2⟩
  · left; unfold f_X_isVersion f_M_isVersion; simp [h1, h2]
  · rcases pk_ix b (n := 4) (by decide) with h | h | ⟨w, hw, rfl⟩
    · left; unfold f_X_isVersion f_M_isVersion; simp [h]
    · left
      have h' : (4 : Int32) ≤ b := h
      unfold f_X_isVersion f_M_isVersion; by_cases h0 : b < 0 <;> simp [h0, h']
    · right
      exact ⟨p, w, hp, hw, rfl, rfl, (by decide +kernel : ∀ p, p < 7 → ∀ w, w < 4 → f_X_isVersion (nI p) (nI w) = 1) p hp w hw, (by decide +kernel : ∀ p, p < 7 → ∀ w, w < 4 → f_M_isVersion (nI p) (nI w) = 1) p hp w hw⟩
theorem rl_need (q a b : Int32) : (f_X_isNeed q a b = 0 ∧ f_M_isNeed q a b = 0) ∨ ∃ n : pd_N, pd_gn n ∧ q = nI n.1 ∧ a = nI n.2.1 ∧ b = nI n.2.2 ∧ f_X_isNeed q a b = 1 ∧ f_M_isNeed q a b = 1 := by
  rcases rl_pkg q with ⟨h1, h2⟩ | ⟨p, hp, rfl, h1, h2⟩
  · left; unfold f_X_isNeed f_X_isVersion f_M_isNeed; simp [h1, h2]
  rcases pk_ix a (n := 4) (by decide) with h | h | ⟨w, hw, rfl⟩
  · left; unfold f_X_isNeed f_X_isVersion f_M_isNeed; simp [h]
  · left
    have h' : (4 : Int32) ≤ a := h
    have h0 : ¬ a < 0 := by rw [Int32.lt_iff_toInt_lt]; rw [Int32.le_iff_toInt_le] at h'; have : (4 : Int32).toInt = 4 := rfl; have : (0 : Int32).toInt = 0 := rfl; omega
    refine ⟨by unfold f_X_isNeed f_X_isVersion; simp [h1, h', h0], ?_⟩
    unfold f_M_isNeed
    by_cases hb : (4 : Int32) ≤ b
    · simp [h2, hb]
    · have : b < a := by rw [Int32.lt_iff_toInt_lt]; rw [Int32.le_iff_toInt_le] at h' hb; omega
      simp [h2, h0, hb, this]
  rcases pk_ix b (n := 4) (by decide) with h | h | ⟨z, hz, rfl⟩
  · left
    have hlt : b < nI w := by
      rw [Int32.lt_iff_toInt_lt, nI_toInt (by omega)]; rw [Int32.lt_iff_toInt_lt] at h; have : (0 : Int32).toInt = 0 := rfl; omega
    refine ⟨by unfold f_X_isNeed f_X_isVersion; simp [h], ?_⟩
    unfold f_M_isNeed
    by_cases hb : (4 : Int32) ≤ b <;> simp [hlt, hb]
  · left
    have h' : (4 : Int32) ≤ b := h
    refine ⟨?_, by unfold f_M_isNeed; simp [h']⟩
    unfold f_X_isNeed f_X_isVersion; by_cases h0 : b < 0 <;> simp [h0, h']
  · have k := (by decide +kernel : ∀ p, p < 7 → ∀ w, w < 4 → ∀ z, z < 4 → (z < w ∧ f_X_isNeed (nI p) (nI w) (nI z) = 0 ∧ f_M_isNeed (nI p) (nI w) (nI z) = 0) ∨ (w ≤ z ∧ f_X_isNeed (nI p) (nI w) (nI z) = 1 ∧ f_M_isNeed (nI p) (nI w) (nI z) = 1)) p hp w hw z hz
    rcases k with ⟨-, k1, k2⟩ | ⟨k0, k1, k2⟩
    · exact Or.inl ⟨k1, k2⟩
    · exact Or.inr ⟨(p, w, z), ⟨hp, k0, hz⟩, rfl, rfl, rfl, k1, k2⟩
theorem rl_slot : ∀ p, p < 7 → ∀ w, w < 4 → f_X_slotOf (nI p) (nI w) = nI (pq_sl p w) := by decide +kernel
theorem rl_isSlot : ∀ s, s < 28 → f_X_isSlot (nI s) = 1 := by decide +kernel
theorem rl_mark : ∀ p, p < 7 → f_X_markOf (nI p) = pq_M (fun q => decide (q = p)) := by decide +kernel
theorem rl_out : ∀ q, q < 7 → ∀ a, a < 4 → ∀ b, b < 4 → a ≤ b → f_X_outside (nI q) (nI a) (nI b) = pq_A (fun p z => decide (p = q) && !(decide (a ≤ z) && decide (z ≤ b))) := by decide +kernel
theorem rl_has {th : TH} {u : PS} (h : u.1 3 = pq_A th) {p w : Nat} (hp : p < 7) (hw : w < 4) : f_C_has (nI (pq_sl p w)) u = if th p w = true then 1 else 0 := by
  unfold f_C_has
  rw [rl_isSlot _ (pq_sl_lt hp hw), if_neg (by decide), h]
  cases ht : th p w with
  | false => rw [if_pos ((px_hold th hp hw).mpr ht)]; rfl
  | true =>
    rw [if_neg (fun z => ?_)]
    · rfl
    · rw [(px_hold th hp hw).mp z] at ht; cases ht
theorem rl_48 {p w q z : Nat} (hw : w < 4) (hz : z < 4) : 4 * q + z = 4 * p + w ↔ q = p ∧ z = w := by omega
