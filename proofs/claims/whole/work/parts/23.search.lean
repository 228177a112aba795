theorem pd_want_iff (l : List pd_N) (q : Nat) : pd_want l q = true ↔ ∃ n ∈ l, n.1 = q := by
  unfold pd_want; simp [List.any_eq_true]
theorem pd_unm_iff (l : List pd_N) (q z : Nat) : pd_unm l q z = false ↔ ∀ n ∈ l, n.1 = q → n.2.1 ≤ z ∧ z ≤ n.2.2 := by
  unfold pd_unm
  rw [List.any_eq_false]
  constructor
  · intro h n hn e
    have := h n hn
    simp [e] at this
    exact this
  · intro h n hn
    by_cases e : n.1 = q
    · have := h n hn e
      simp [e]; exact this
    · simp [e]
theorem pd_ban_iff (bn : List pd_B) (p w q z : Nat) : pd_ban bn p w q z = true ↔ ∃ b ∈ bn, (b.1 = (p, w) ∧ b.2 = (q, z)) ∨ (b.2 = (p, w) ∧ b.1 = (q, z)) := by
  unfold pd_ban; simp [List.any_eq_true]
def px_um (s : Nat → Bool) : Nat := (!s 0).toNat + (!s 1).toNat + (!s 2).toNat + (!s 3).toNat + (!s 4).toNat + (!s 5).toNat + (!s 6).toNat
theorem px_um_s {s : Nat → Bool} {p : Nat} (hp : p < 7) (h : s p = false) : px_um (px_s p s) + 1 = px_um s := by
  unfold px_um px_s
  rcases (show p = 0 ∨ p = 1 ∨ p = 2 ∨ p = 3 ∨ p = 4 ∨ p = 5 ∨ p = 6 by omega) with rfl | rfl | rfl | rfl | rfl | rfl | rfl <;> simp [h] <;> omega
theorem px_um_0 {s : Nat → Bool} (h : px_um s = 0) : ∀ p, p < 7 → s p = true := by
  intro p hp
  unfold px_um at h
  cases e : s p with
  | true => rfl
  | false =>
    exfalso
    rcases (show p = 0 ∨ p = 1 ∨ p = 2 ∨ p = 3 ∨ p = 4 ∨ p = 5 ∨ p = 6 by omega) with rfl | rfl | rfl | rfl | rfl | rfl | rfl <;> simp [e] at h <;> omega
section PX
variable {th : Nat → Nat → Bool} {nd : Nat → Nat → List pd_N} {bn : List pd_B} {ak : List pd_N}
/-- the sets of the search and what is settled, a: the settled versions -/
def px_inv (th : Nat → Nat → Bool) (nd : Nat → Nat → List pd_N) (bn : List pd_B) (ak : List pd_N) (a : Nat → Nat) (r s : Nat → Bool) (t : Nat → Nat → Bool) : Prop :=
  (∀ p, p < 7 → (r p = true ↔ (∃ n ∈ ak, n.1 = p) ∨ ∃ q, q < 7 ∧ s q = true ∧ ∃ n ∈ nd q (a q - 1), n.1 = p)) ∧
  (∀ p, p < 7 → s p = true → r p = true) ∧
  (∀ p w, p < 7 → w < 4 → (t p w = true ↔ th p w = true ∧ (∀ n ∈ ak, n.1 = p → n.2.1 ≤ w ∧ w ≤ n.2.2) ∧ ∀ q, q < 7 → s q = true → (p = q → w + 1 = a q) ∧ (∀ n ∈ nd q (a q - 1), n.1 = p → n.2.1 ≤ w ∧ w ≤ n.2.2) ∧ pd_ban bn q (a q - 1) p w = false)) ∧
  (∀ C : Nat → Bool, (∀ n ∈ ak, C n.1 = true) → (∀ q, q < 7 → s q = true → C q = true → ∀ n ∈ nd q (a q - 1), C n.1 = true) → ∀ p, p < 7 → r p = true → C p = true) ∧
  (∀ q, q < 7 → s q = true → 1 ≤ a q ∧ a q ≤ 4)
def px_ext (s : Nat → Bool) (a c : Nat → Nat) : Prop := ∀ q, q < 7 → s q = true → c q = a q
/-- in a choice that goes on from here all that is required is chosen, in a version that is allowed -/
theorem px_F1 {a c : Nat → Nat} {r s : Nat → Bool} {t : Nat → Nat → Bool} (I : px_inv th nd bn ak a r s t) (hv : pd_val th nd bn ak c) (he : px_ext s a c) {p : Nat} (hp : p < 7) (hr : r p = true) :
    ∃ w, w < 4 ∧ c p = w + 1 ∧ t p w = true := by
  obtain ⟨I1, I2, I3, I4, I5⟩ := I
  obtain ⟨hw, ⟨o1, o2, o3, o4⟩, -⟩ := hv
  have h1 : c p ≠ 0 := by
    rcases (I1 p hp).mp hr with ⟨n, hn, e⟩ | ⟨q, hq, hs, n, hn, e⟩
    · have := (o2 n hn).1; rw [e] at this; omega
    · have h5 := I5 q hq hs
      have := (o4 q (a q - 1) hq (by rw [he q hq hs]; omega) n hn).1
      rw [e] at this; omega
  have h4 := hw.1 p hp
  refine ⟨c p - 1, by omega, by omega, (I3 p (c p - 1) hp (by omega)).mpr ⟨o1 p _ hp (by omega), fun n hn e => ?_, fun q hq hs => ⟨fun e => ?_, fun n hn e => ?_, ?_⟩⟩⟩
  · have := o2 n hn; unfold pd_met at this; rw [e] at this; omega
  · subst e; rw [← he p hp hs]; omega
  · have h5 := I5 q hq hs
    have := o4 q (a q - 1) hq (by rw [he q hq hs]; omega) n hn
    unfold pd_met at this; rw [e] at this; omega
  · cases hb : pd_ban bn q (a q - 1) p (c p - 1) with
    | false => rfl
    | true =>
      exfalso
      have h5 := I5 q hq hs
      have hq2 : c q = a q - 1 + 1 := by rw [he q hq hs]; omega
      have hp2 : c p = c p - 1 + 1 := by omega
      obtain ⟨b, hb1, ⟨e1, e2⟩ | ⟨e1, e2⟩⟩ := (pd_ban_iff _ _ _ _ _).mp hb
      · refine o3 b hb1 ⟨?_, ?_⟩
        · rw [e1]; exact hq2
        · rw [e2]; exact hp2
      · refine o3 b hb1 ⟨?_, ?_⟩
        · rw [e2]; exact hp2
        · rw [e1]; exact hq2
/-- one package more is settled -/
theorem px_step {a : Nat → Nat} {r s : Nat → Bool} {t : Nat → Nat → Bool} (I : px_inv th nd bn ak a r s t) {p w : Nat} (hp : p < 7) (hw : w < 4) (hr : r p = true) (hs : s p = false) :
    px_inv th nd bn ak (fun q => if q = p then w + 1 else a q) (px_r nd p w r) (px_s p s) (px_t nd bn p w t) := by
  obtain ⟨I1, I2, I3, I4, I5⟩ := I
  have hne : ∀ q, s q = true → q ≠ p := fun q h e => by subst e; rw [hs] at h; cases h
  have hss : ∀ q, px_s p s q = true ↔ s q = true ∨ q = p := fun q => by unfold px_s; simp
  refine ⟨fun q hq => ?_, fun q hq h => ?_, fun q z hq hz => ?_, fun C h1 h2 q hq h => ?_, fun q hq h => ?_⟩
  · unfold px_r
    rw [Bool.or_eq_true, I1 q hq, pd_want_iff]
    constructor
    · rintro ((h | ⟨q2, k1, k2, k3⟩) | h)
      · exact Or.inl h
      · exact Or.inr ⟨q2, k1, (hss q2).mpr (Or.inl k2), by simp only [if_neg (hne q2 k2)]; exact k3⟩
      · exact Or.inr ⟨p, hp, (hss p).mpr (Or.inr rfl), by simpa using h⟩
    · rintro (h | ⟨q2, k1, k2, k3⟩)
      · exact Or.inl (Or.inl h)
      · rcases (hss q2).mp k2 with k4 | k4
        · simp only [if_neg (hne q2 k4)] at k3
          exact Or.inl (Or.inr ⟨q2, k1, k4, k3⟩)
        · subst k4
          exact Or.inr (by simpa using k3)
  · unfold px_r
    rcases (hss q).mp h with k | k
    · rw [I2 q hq k]; rfl
    · subst k; rw [hr]; rfl
  · have e1 : px_t nd bn p w t q z = true ↔ t q z = true ∧ (q = p → z = w) ∧ pd_unm (nd p w) q z = false ∧ pd_ban bn p w q z = false := by
      unfold px_t
      rw [Bool.and_eq_true, Bool.not_eq_true', Bool.or_eq_false_iff, Bool.or_eq_false_iff, Bool.and_eq_false_iff]
      simp only [decide_eq_false_iff_not, Bool.not_eq_false', decide_eq_true_eq, and_assoc]
      constructor
      · rintro ⟨h1, h2, h3, h4⟩
        exact ⟨h1, fun e => h2.resolve_left (fun k => k e), h3, h4⟩
      · rintro ⟨h1, h2, h3, h4⟩
        refine ⟨h1, ?_, h3, h4⟩
        by_cases e : q = p
        · exact Or.inr (h2 e)
        · exact Or.inl e
    rw [e1, I3 q z hq hz, pd_unm_iff]
    constructor
    · rintro ⟨⟨h1, h2, h3⟩, h4, h5, h6⟩
      refine ⟨h1, h2, fun q2 k1 k2 => ?_⟩
      rcases (hss q2).mp k2 with k | k
      · simp only [if_neg (hne q2 k)]; exact h3 q2 k1 k
      · subst k
        simp only [if_true, Nat.add_sub_cancel]
        exact ⟨fun e => by rw [h4 e], h5, h6⟩
    · rintro ⟨h1, h2, h3⟩
      have hpp := h3 p hp ((hss p).mpr (Or.inr rfl))
      simp only [if_true, Nat.add_sub_cancel] at hpp
      refine ⟨⟨h1, h2, fun q2 k1 k2 => ?_⟩, fun e => by have := hpp.1 e; omega, hpp.2.1, hpp.2.2⟩
      have := h3 q2 k1 ((hss q2).mpr (Or.inl k2))
      simp only [if_neg (hne q2 k2)] at this
      exact this
  · have hC : ∀ q, q < 7 → r q = true → C q = true := I4 C h1 fun q2 k1 k2 k3 n hn => by
      have := h2 q2 k1 ((hss q2).mpr (Or.inl k2)) k3
      simp only [if_neg (hne q2 k2)] at this
      exact this n hn
    unfold px_r at h
    rw [Bool.or_eq_true] at h
    rcases h with h | h
    · exact hC q hq h
    · obtain ⟨n, hn, e⟩ := (pd_want_iff _ _).mp h
      have := h2 p hp ((hss p).mpr (Or.inr rfl)) (hC p hp hr)
      simp only [if_true, Nat.add_sub_cancel] at this
      rw [← e]; exact this n hn
  · dsimp only
    rcases (hss q).mp h with k | k
    · rw [if_neg (hne q k)]; exact I5 q hq k
    · rw [if_pos k]; omega
theorem px_ext_step {a c : Nat → Nat} {s : Nat → Bool} {p w : Nat} (hp : p < 7) (hs : s p = false) : px_ext (px_s p s) (fun q => if q = p then w + 1 else a q) c ↔ px_ext s a c ∧ c p = w + 1 := by
  have hss : ∀ q, px_s p s q = true ↔ s q = true ∨ q = p := fun q => by unfold px_s; simp
  constructor
  · intro h
    refine ⟨fun q hq k => ?_, ?_⟩
    · have := h q hq ((hss q).mpr (Or.inl k))
      have hqp : ¬ q = p := fun e => by subst e; rw [hs] at k; cases k
      dsimp only at this
      rwa [if_neg hqp] at this
    · have := h p hp ((hss p).mpr (Or.inr rfl))
      simpa using this
  · rintro ⟨h1, h2⟩ q hq k
    by_cases e : q = p
    · subst e; simpa using h2
    · show c q = if q = p then w + 1 else a q
      rw [if_neg e]
      exact h1 q hq (((hss q).mp k).resolve_right e)
/-- the leaf -/
theorem px_leaf (hgn : ∀ n ∈ ak, n.1 < 7) (hnd : ∀ p w, p < 7 → w < 4 → ∀ n ∈ nd p w, n.1 < 7) {a : Nat → Nat} {r s : Nat → Bool} {t : Nat → Nat → Bool} (I : px_inv th nd bn ak a r s t)
    (h1 : ∀ p, p < 7 → r p = true → px_any t p = true) (h2 : ∀ p, p < 7 → r p = true → s p = true) :
    ∃ c0, pd_val th nd bn ak c0 ∧ px_ext s a c0 ∧ pd_enc c0 = pq_A (fun p w => t p w && r p) ∧ ∀ c, pd_val th nd bn ak c → px_ext s a c → c = c0 := by
  obtain ⟨I1, I2, I3, I4, I5⟩ := I
  have ht : ∀ p w, p < 7 → w < 4 → s p = true → (t p w = true ↔ a p = w + 1) := by
    intro p w hp hw hs
    have hr := I2 p hp hs
    have hany := h1 p hp hr
    have hex : ∃ z, z < 4 ∧ t p z = true := by
      unfold px_any at hany
      simp only [Bool.or_eq_true] at hany
      rcases hany with ((h | h) | h) | h
      · exact ⟨0, by omega, h⟩
      · exact ⟨1, by omega, h⟩
      · exact ⟨2, by omega, h⟩
      · exact ⟨3, by omega, h⟩
    obtain ⟨z, hz, htz⟩ := hex
    have e1 := (((I3 p z hp hz).mp htz).2.2 p hp hs).1 rfl
    constructor
    · intro h; exact ((((I3 p w hp hw).mp h).2.2 p hp hs).1 rfl).symm
    · intro h; have : w = z := by omega
      subst this; exact htz
  have hc : ∀ p, p < 7 → s p = true → (if p < 7 ∧ s p = true then a p else 0) = a p := fun p hp hs => if_pos ⟨hp, hs⟩
  have hc2 : ∀ p w, (if p < 7 ∧ s p = true then a p else 0) = w + 1 → p < 7 ∧ s p = true ∧ a p = w + 1 := by
    intro p w h
    by_cases k : p < 7 ∧ s p = true
    · rw [if_pos k] at h; exact ⟨k.1, k.2, h⟩
    · rw [if_neg k] at h; omega
  have hal : ∀ p, p < 7 → s p = true → ∃ w, w < 4 ∧ a p = w + 1 ∧ t p w = true := fun p hp hs => by
    have := I5 p hp hs
    exact ⟨a p - 1, by omega, by omega, (ht p _ hp (by omega) hs).mpr (by omega)⟩
  refine ⟨fun p => if p < 7 ∧ s p = true then a p else 0, ⟨⟨fun p hp => ?_, fun p hp => if_neg (fun k => by omega)⟩, ⟨fun p w hp h => ?_, fun n hn => ?_, fun b hb h => ?_, fun p w hp h n hn => ?_⟩, fun C hC p hp h => ?_⟩, fun q hq hs => hc q hq hs, ?_, fun c hv he => ?_⟩
  · dsimp only
    by_cases k : p < 7 ∧ s p = true
    · rw [if_pos k]; exact (I5 p k.1 k.2).2
    · rw [if_neg k]; omega
  · obtain ⟨k1, k2, k3⟩ := hc2 p w h
    obtain ⟨w2, e1, e2, e3⟩ := hal p hp k2
    have : w = w2 := by omega
    subst this
    exact ((I3 p w hp e1).mp e3).1
  · have hn7 := hgn n hn
    have hs := h2 n.1 hn7 ((I1 n.1 hn7).mpr (Or.inl ⟨n, hn, rfl⟩))
    obtain ⟨w2, e1, e2, e3⟩ := hal n.1 hn7 hs
    have := ((I3 n.1 w2 hn7 e1).mp e3).2.1 n hn rfl
    show n.2.1 + 1 ≤ (if n.1 < 7 ∧ s n.1 = true then a n.1 else 0) ∧ (if n.1 < 7 ∧ s n.1 = true then a n.1 else 0) ≤ n.2.2 + 1
    rw [hc n.1 hn7 hs]; omega
  · obtain ⟨p7, ps, pa⟩ := hc2 _ _ h.1
    obtain ⟨q7, qs, qa⟩ := hc2 _ _ h.2
    obtain ⟨w2, e1, e2, e3⟩ := hal _ q7 qs
    have hw : w2 = b.2.2 := by omega
    subst hw
    have := (((I3 _ _ q7 e1).mp e3).2.2 b.1.1 p7 ps).2.2
    rw [show a b.1.1 - 1 = b.1.2 by omega] at this
    rw [(pd_ban_iff _ _ _ _ _).mpr ⟨b, hb, Or.inl ⟨rfl, rfl⟩⟩] at this
    cases this
  · obtain ⟨k1, k2, k3⟩ := hc2 p w h
    have h5 := I5 p hp k2
    have hwe : a p - 1 = w := by omega
    have hn7 := hnd p w hp (by omega) n hn
    have hs := h2 n.1 hn7 ((I1 n.1 hn7).mpr (Or.inr ⟨p, hp, k2, n, by rw [hwe]; exact hn, rfl⟩))
    obtain ⟨w2, e1, e2, e3⟩ := hal n.1 hn7 hs
    have := (((I3 n.1 w2 hn7 e1).mp e3).2.2 p hp k2).2.1 n (by rw [hwe]; exact hn) rfl
    show n.2.1 + 1 ≤ (if n.1 < 7 ∧ s n.1 = true then a n.1 else 0) ∧ (if n.1 < 7 ∧ s n.1 = true then a n.1 else 0) ≤ n.2.2 + 1
    rw [hc n.1 hn7 hs]; omega
  · have hs : s p = true := by
      by_cases k : p < 7 ∧ s p = true
      · exact k.2
      · exact absurd (if_neg k) h
    refine I4 C hC.1 (fun q hq hqs hCq n hn => ?_) p hp (I2 p hp hs)
    have h5 := I5 q hq hqs
    exact hC.2 q (a q - 1) hq hCq (by dsimp only; rw [hc q hq hqs]; omega) n hn
  · unfold pd_enc
    apply pq_A_congr
    intro p w hp hw
    by_cases hs : s p = true
    · have e1 := ht p w hp hw hs
      rw [I2 p hp hs, Bool.and_true]
      have hcp := hc p hp hs
      simp only [hcp]
      cases htw : t p w with
      | true => simpa using e1.mp htw
      | false =>
        have : ¬ a p = w + 1 := fun k => by rw [e1.mpr k] at htw; cases htw
        simpa using this
    · have hr : r p = false := by
        cases k : r p with
        | false => rfl
        | true => exact absurd (h2 p hp k) hs
      rw [hr]
      simp [hs]
  · obtain ⟨hw, hok, htt⟩ := hv
    funext p
    by_cases hp : p < 7
    · by_cases hs : s p = true
      · rw [hc p hp hs]; exact he p hp hs
      · rw [if_neg (fun k => hs k.2)]
        cases Nat.eq_zero_or_pos (c p) with
        | inl h => exact h
        | inr h =>
          exfalso
          refine hs (h2 p hp (htt r ⟨fun n hn => (I1 n.1 (hgn n hn)).mpr (Or.inl ⟨n, hn, rfl⟩), fun q w hq hrq hcq n hn => ?_⟩ p hp (by omega)))
          have hqs := h2 q hq hrq
          have h5 := I5 q hq hqs
          have e := he q hq hqs
          have hn7 := hnd q w hq (by omega) n hn
          exact (I1 n.1 hn7).mpr (Or.inr ⟨q, hq, hqs, n, by rw [show a q - 1 = w by omega]; exact hn, rfl⟩)
    · rw [if_neg (fun k => hp k.1)]; exact hw.2 p (by omega)
end PX
