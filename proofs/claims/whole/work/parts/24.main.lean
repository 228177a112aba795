section PX2
variable {th : Nat → Nat → Bool} {nd : Nat → Nat → List pd_N} {bn : List pd_B} {ak : List pd_N}
theorem px_main (hgn : ∀ n ∈ ak, n.1 < 7) (hnd : ∀ p w, p < 7 → w < 4 → ∀ n ∈ nd p w, n.1 < 7) : ∀ (n : Nat) (r s : Nat → Bool) (t : Nat → Nat → Bool) (a : Nat → Nat), px_um s + 1 ≤ n → px_inv th nd bn ak a r s t →
    (px_l nd bn n r s t).Nodup ∧ ∀ x, x ∈ px_l nd bn n r s t ↔ ∃ c, pd_val th nd bn ak c ∧ px_ext s a c ∧ pd_enc c = x := by
  intro n
  induction n with
  | zero => intro r s t a h; omega
  | succ n ih =>
    intro r s t a hn I
    unfold px_l
    by_cases h1 : px_all (fun p => !r p || px_any t p) = true
    · rw [if_pos h1]
      have h1' : ∀ p, p < 7 → r p = true → px_any t p = true := fun p hp hr => by
        have := (px_all_iff _).mp h1 p hp
        simpa [hr] using this
      by_cases h2 : px_all (fun p => !r p || s p) = true
      · rw [if_pos h2]
        have h2' : ∀ p, p < 7 → r p = true → s p = true := fun p hp hr => by
          have := (px_all_iff _).mp h2 p hp
          simpa [hr] using this
        obtain ⟨c0, hv, he, hen, hu⟩ := px_leaf hgn hnd I h1' h2'
        refine ⟨by simp, fun x => ?_⟩
        rw [List.mem_singleton]
        constructor
        · intro h; exact ⟨c0, hv, he, by rw [hen, h]⟩
        · rintro ⟨c, hv2, he2, rfl⟩; rw [hu c hv2 he2, hen]
      · rw [if_neg h2]
        have hex : ∃ p, p < 7 ∧ (fun p => r p && !s p) p = true := by
          apply Classical.byContradiction
          intro hno
          apply h2
          rw [px_all_iff]
          intro p hp
          cases hr : r p with
          | false => rfl
          | true =>
            cases hs : s p with
            | true => rfl
            | false => exact absurd ⟨p, hp, by simp [hr, hs]⟩ hno
        have hp := pq_hi_lt (fun p => r p && !s p)
        have hin := pq_hi_in hex
        dsimp only
        generalize pq_hi (fun p => r p && !s p) = p at hp hin ⊢
        have hr : r p = true := by simp at hin; exact hin.1
        have hs : s p = false := by simp at hin; exact hin.2
        have key : ∀ w, w < 4 → (if t p w = true then px_l nd bn n (px_r nd p w r) (px_s p s) (px_t nd bn p w t) else []).Nodup ∧ ∀ x, x ∈ (if t p w = true then px_l nd bn n (px_r nd p w r) (px_s p s) (px_t nd bn p w t) else []) ↔ ∃ c, pd_val th nd bn ak c ∧ px_ext s a c ∧ c p = w + 1 ∧ pd_enc c = x := by
          intro w hw
          by_cases htw : t p w = true
          · rw [if_pos htw]
            have hum := px_um_s hp hs
            obtain ⟨k1, k2⟩ := ih (px_r nd p w r) (px_s p s) (px_t nd bn p w t) (fun q => if q = p then w + 1 else a q) (by omega) (px_step I hp hw hr hs)
            refine ⟨k1, fun x => ?_⟩
            rw [k2 x]
            constructor
            · rintro ⟨c, q1, q2, q3⟩
              obtain ⟨q4, q5⟩ := (px_ext_step hp hs).mp q2
              exact ⟨c, q1, q4, q5, q3⟩
            · rintro ⟨c, q1, q2, q3, q4⟩
              exact ⟨c, q1, (px_ext_step hp hs).mpr ⟨q2, q3⟩, q4⟩
          · rw [if_neg htw]
            refine ⟨List.nodup_nil, fun x => ?_⟩
            constructor
            · intro h; cases h
            · rintro ⟨c, q1, q2, q3, q4⟩
              obtain ⟨w2, e1, e2, e3⟩ := px_F1 I q1 q2 hp hr
              have : w2 = w := by omega
              subst this
              exact absurd e3 htw
        have dis : ∀ w w2, w < 4 → w2 < 4 → w ≠ w2 → ∀ x, (∃ c, pd_val th nd bn ak c ∧ px_ext s a c ∧ c p = w + 1 ∧ pd_enc c = x) → (∃ c, pd_val th nd bn ak c ∧ px_ext s a c ∧ c p = w2 + 1 ∧ pd_enc c = x) → False := by
          rintro w w2 hw hw2 hne x ⟨c, q1, -, q3, q4⟩ ⟨d, k1, -, k3, k4⟩
          have := pd_enc_inj q1.1 k1.1 (by rw [q4, k4])
          subst this
          omega
        have K0 := key 0 (by omega)
        have K1 := key 1 (by omega)
        have K2 := key 2 (by omega)
        have K3 := key 3 (by omega)
        refine ⟨?_, fun x => ?_⟩
        · rw [List.nodup_append, List.nodup_append, List.nodup_append]
          refine ⟨K0.1, ⟨K1.1, ⟨K2.1, K3.1, ?_⟩, ?_⟩, ?_⟩
          · intro x hx y hy e
            subst e
            exact dis 2 3 (by omega) (by omega) (by omega) x ((K2.2 x).mp hx) ((K3.2 x).mp hy)
          · intro x hx y hy e
            subst e
            rcases List.mem_append.mp hy with hy | hy
            · exact dis 1 2 (by omega) (by omega) (by omega) x ((K1.2 x).mp hx) ((K2.2 x).mp hy)
            · exact dis 1 3 (by omega) (by omega) (by omega) x ((K1.2 x).mp hx) ((K3.2 x).mp hy)
          · intro x hx y hy e
            subst e
            rcases List.mem_append.mp hy with hy | hy
            · exact dis 0 1 (by omega) (by omega) (by omega) x ((K0.2 x).mp hx) ((K1.2 x).mp hy)
            · rcases List.mem_append.mp hy with hy | hy
              · exact dis 0 2 (by omega) (by omega) (by omega) x ((K0.2 x).mp hx) ((K2.2 x).mp hy)
              · exact dis 0 3 (by omega) (by omega) (by omega) x ((K0.2 x).mp hx) ((K3.2 x).mp hy)
        · rw [List.mem_append, List.mem_append, List.mem_append, K0.2, K1.2, K2.2, K3.2]
          constructor
          · rintro (⟨c, q1, q2, -, q4⟩ | ⟨c, q1, q2, -, q4⟩ | ⟨c, q1, q2, -, q4⟩ | ⟨c, q1, q2, -, q4⟩) <;> exact ⟨c, q1, q2, q4⟩
          · rintro ⟨c, q1, q2, q4⟩
            obtain ⟨w, e1, e2, e3⟩ := px_F1 I q1 q2 hp hr
            rcases (show w = 0 ∨ w = 1 ∨ w = 2 ∨ w = 3 by omega) with rfl | rfl | rfl | rfl
            · exact Or.inl ⟨c, q1, q2, e2, q4⟩
            · exact Or.inr (Or.inl ⟨c, q1, q2, e2, q4⟩)
            · exact Or.inr (Or.inr (Or.inl ⟨c, q1, q2, e2, q4⟩))
            · exact Or.inr (Or.inr (Or.inr ⟨c, q1, q2, e2, q4⟩))
    · rw [if_neg h1]
      refine ⟨List.nodup_nil, fun x => ?_⟩
      constructor
      · intro h; cases h
      · rintro ⟨c, q1, q2, q4⟩
        exfalso
        apply h1
        rw [px_all_iff]
        intro p hp
        cases hr : r p with
        | false => rfl
        | true =>
          obtain ⟨w, e1, e2, e3⟩ := px_F1 I q1 q2 hp hr
          show px_any t p = true
          unfold px_any
          rcases (show w = 0 ∨ w = 1 ∨ w = 2 ∨ w = 3 by omega) with rfl | rfl | rfl | rfl <;> simp [e3]
/-- the start of a search -/
def px_t0 (th : Nat → Nat → Bool) (ak : List pd_N) : Nat → Nat → Bool := fun p w => th p w && !pd_unm ak p w
theorem px_start : px_inv th nd bn ak (fun _ => 0) (pd_want ak) (fun _ => false) (px_t0 th ak) := by
  refine ⟨fun p hp => ?_, fun p hp h => ?_, fun p w hp hw => ?_, fun C h1 h2 p hp h => ?_, fun q hq h => ?_⟩
  · rw [pd_want_iff]
    constructor
    · intro h; exact Or.inl h
    · rintro (h | ⟨q, -, h, -⟩)
      · exact h
      · cases h
  · cases h
  · unfold px_t0
    rw [Bool.and_eq_true, Bool.not_eq_true', pd_unm_iff]
    constructor
    · rintro ⟨h1, h2⟩; exact ⟨h1, h2, fun q _ h => by cases h⟩
    · rintro ⟨h1, h2, -⟩; exact ⟨h1, h2⟩
  · obtain ⟨n, hn, e⟩ := (pd_want_iff _ _).mp h
    rw [← e]; exact h1 n hn
  · cases h
def px_L (th : Nat → Nat → Bool) (nd : Nat → Nat → List pd_N) (bn : List pd_B) (ak : List pd_N) : List Int32 := px_l nd bn 9 (pd_want ak) (fun _ => false) (px_t0 th ak)
theorem px_L_spec (hgn : ∀ n ∈ ak, n.1 < 7) (hnd : ∀ p w, p < 7 → w < 4 → ∀ n ∈ nd p w, n.1 < 7) : (px_L th nd bn ak).Nodup ∧ ∀ x, x ∈ px_L th nd bn ak ↔ ∃ c, pd_val th nd bn ak c ∧ pd_enc c = x := by
  obtain ⟨h1, h2⟩ := px_main (th := th) (bn := bn) hgn hnd 9 (pd_want ak) (fun _ => false) (px_t0 th ak) (fun _ => 0) (by decide) px_start
  refine ⟨h1, fun x => ?_⟩
  show x ∈ px_l nd bn 9 (pd_want ak) (fun _ => false) (px_t0 th ak) ↔ _
  rw [h2 x]
  constructor
  · rintro ⟨c, q1, -, q2⟩; exact ⟨c, q1, q2⟩
  · rintro ⟨c, q1, q2⟩; exact ⟨c, q1, fun q _ h => (by cases h), q2⟩
end PX2
