/-! WHAT A CHOICE IS: th: which versions are there; nd: their needs; bn: the bans; ak: what is asked (already cut to what counts). A choice c: c p = 0 none, c p = w + 1 version w. -/
abbrev pd_N : Type := Nat × Nat × Nat
abbrev pd_B : Type := (Nat × Nat) × (Nat × Nat)
def pd_want (l : List pd_N) (q : Nat) : Bool := l.any (fun n => n.1 == q)
def pd_unm (l : List pd_N) (q z : Nat) : Bool := l.any (fun n => n.1 == q && !(decide (n.2.1 ≤ z) && decide (z ≤ n.2.2)))
def pd_ban (bn : List pd_B) (p w q z : Nat) : Bool := bn.any (fun b => (b.1 == (p, w) && b.2 == (q, z)) || (b.2 == (p, w) && b.1 == (q, z)))
/-- a need is met -/
def pd_met (c : Nat → Nat) (n : pd_N) : Prop := n.2.1 + 1 ≤ c n.1 ∧ c n.1 ≤ n.2.2 + 1
def pd_wf (c : Nat → Nat) : Prop := (∀ p, p < 7 → c p ≤ 4) ∧ ∀ p, 7 ≤ p → c p = 0
/-- closed: what is asked is in it, and what a chosen version of its packages needs -/
def pd_clo (nd : Nat → Nat → List pd_N) (ak : List pd_N) (c : Nat → Nat) (C : Nat → Bool) : Prop :=
  (∀ n ∈ ak, C n.1 = true) ∧ ∀ p w, p < 7 → C p = true → c p = w + 1 → ∀ n ∈ nd p w, C n.1 = true
def pd_ok (th : Nat → Nat → Bool) (nd : Nat → Nat → List pd_N) (bn : List pd_B) (ak : List pd_N) (c : Nat → Nat) : Prop :=
  (∀ p w, p < 7 → c p = w + 1 → th p w = true) ∧ (∀ n ∈ ak, pd_met c n) ∧ (∀ b ∈ bn, ¬ (c b.1.1 = b.1.2 + 1 ∧ c b.2.1 = b.2.2 + 1)) ∧ (∀ p w, p < 7 → c p = w + 1 → ∀ n ∈ nd p w, pd_met c n)
def pd_tight (nd : Nat → Nat → List pd_N) (ak : List pd_N) (c : Nat → Nat) : Prop := ∀ C : Nat → Bool, pd_clo nd ak c C → ∀ p, p < 7 → c p ≠ 0 → C p = true
def pd_val (th : Nat → Nat → Bool) (nd : Nat → Nat → List pd_N) (bn : List pd_B) (ak : List pd_N) (c : Nat → Nat) : Prop := pd_wf c ∧ pd_ok th nd bn ak c ∧ pd_tight nd ak c
/-- good data: packages below 7, versions below 4 -/
def pd_gn (n : pd_N) : Prop := n.1 < 7 ∧ n.2.1 ≤ n.2.2 ∧ n.2.2 < 4
def pd_gb (b : pd_B) : Prop := b.1.1 < 7 ∧ b.1.2 < 4 ∧ b.2.1 < 7 ∧ b.2.2 < 4
/-- a choice as the class holds it -/
def pd_enc (c : Nat → Nat) : Int32 := pq_A (fun p w => decide (c p = w + 1))
theorem pd_enc_inj {c d : Nat → Nat} (hc : pd_wf c) (hd : pd_wf d) (h : pd_enc c = pd_enc d) : c = d := by
  funext p
  by_cases hp : p < 7
  · have h1 := hc.1 p hp
    have h2 := hd.1 p hp
    have key : ∀ w, w < 4 → (c p = w + 1 ↔ d p = w + 1) := fun w hw => by
      have := pq_A_inj h hp hw
      simpa using this
    have k0 := key 0 (by omega)
    have k1 := key 1 (by omega)
    have k2 := key 2 (by omega)
    have k3 := key 3 (by omega)
    omega
  · rw [hc.2 p (by omega), hd.2 p (by omega)]
/-! THE SEARCH OF THE CLASS, over sets -/
def px_any (t : Nat → Nat → Bool) (p : Nat) : Bool := t p 0 || t p 1 || t p 2 || t p 3
def px_all (f : Nat → Bool) : Bool := f 0 && f 1 && f 2 && f 3 && f 4 && f 5 && f 6
theorem px_all_iff (f : Nat → Bool) : px_all f = true ↔ ∀ p, p < 7 → f p = true := by
  unfold px_all
  simp only [Bool.and_eq_true]
  constructor
  · rintro ⟨⟨⟨⟨⟨⟨h0, h1⟩, h2⟩, h3⟩, h4⟩, h5⟩, h6⟩ p hp
    rcases (show p = 0 ∨ p = 1 ∨ p = 2 ∨ p = 3 ∨ p = 4 ∨ p = 5 ∨ p = 6 by omega) with rfl | rfl | rfl | rfl | rfl | rfl | rfl <;> assumption
  · intro h
    exact ⟨⟨⟨⟨⟨⟨h 0 (by omega), h 1 (by omega)⟩, h 2 (by omega)⟩, h 3 (by omega)⟩, h 4 (by omega)⟩, h 5 (by omega)⟩, h 6 (by omega)⟩
/-- the sets behind the choice of version w of package p -/
def px_r (nd : Nat → Nat → List pd_N) (p w : Nat) (r : Nat → Bool) : Nat → Bool := fun q => r q || pd_want (nd p w) q
def px_s (p : Nat) (s : Nat → Bool) : Nat → Bool := fun q => s q || decide (q = p)
def px_t (nd : Nat → Nat → List pd_N) (bn : List pd_B) (p w : Nat) (t : Nat → Nat → Bool) : Nat → Nat → Bool := fun q z => t q z && !((decide (q = p) && !decide (z = w)) || pd_unm (nd p w) q z || pd_ban bn p w q z)
def px_l (nd : Nat → Nat → List pd_N) (bn : List pd_B) : Nat → (Nat → Bool) → (Nat → Bool) → (Nat → Nat → Bool) → List Int32
  | 0, _, _, _ => []
  | n + 1, r, s, t =>
    if px_all (fun p => !r p || px_any t p) = true then
      if px_all (fun p => !r p || s p) = true then [pq_A (fun p w => t p w && r p)]
      else
        let p := pq_hi (fun p => r p && !s p)
        (if t p 0 = true then px_l nd bn n (px_r nd p 0 r) (px_s p s) (px_t nd bn p 0 t) else []) ++
        ((if t p 1 = true then px_l nd bn n (px_r nd p 1 r) (px_s p s) (px_t nd bn p 1 t) else []) ++
        ((if t p 2 = true then px_l nd bn n (px_r nd p 2 r) (px_s p s) (px_t nd bn p 2 t) else []) ++
        (if t p 3 = true then px_l nd bn n (px_r nd p 3 r) (px_s p s) (px_t nd bn p 3 t) else [])))
    else []
