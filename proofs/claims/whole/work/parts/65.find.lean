section CM
variable {th : TH} {nd : ND} {bn : List pd_B} {ask : List pd_N}
def key6 (n : Nat) : Nat := 64 * sz n + (63 - rv n)
def pf_f5 (v v' : PS) : Prop := (∀ k, k ≠ 3 → k ≠ 4 → k ≠ 5 → v'.1 k = v.1 k) ∧ ∀ k, k ≠ 10 → k ≠ 11 → v'.2 k = v.2 k
theorem pf_f5.rf (v : PS) : pf_f5 v v := ⟨fun _ _ _ _ => rfl, fun _ _ _ => rfl⟩
theorem pf_f5.tr {a b c : PS} (h : pf_f5 a b) (h2 : pf_f5 b c) : pf_f5 a c := ⟨fun k h3 h4 h5 => (h2.1 k h3 h4 h5).trans (h.1 k h3 h4 h5), fun k h3 h4 => (h2.2 k h3 h4).trans (h.2 k h3 h4)⟩
theorem pf_f5.of2 {v v' : PS} (h : pf_f2 v v') : pf_f5 v v' := ⟨fun k h3 h4 _ => h.1 k h3 h4, h.2⟩
theorem pf_f5.rm {v v' : PS} (f : pf_f5 v v') (h : RM th nd bn ask v) (hk : ∃ c, pm_pk v' c) : RM th nd bn ask v' := h.fr ⟨f.1 1 (by decide) (by decide) (by decide), f.1 2 (by decide) (by decide) (by decide)⟩ (fun k hk => f.2 k (by omega) (by omega)) hk
theorem cm_10 (hl6 : ask.length ≤ 6) : ∀ (m n best : Nat) (v : PS), RM th nd bn ask v → 1 ≤ n → 1 ≤ best → best ≤ 2 ^ ask.length - 1 → (best = 2 ^ ask.length - 1 ∨ best < n) → n ≤ 2 ^ ask.length - 1 → 2 ^ ask.length - 1 - n < m → v.1 5 = nI best → No th nd bn ask best → key6 best ≤ key6 (2 ^ ask.length - 1) → (∀ j, 1 ≤ j → j < n → No th nd bn ask j → key6 best ≤ key6 j) →
    ∃ (b' : Nat) (v' : PS), l_M_findCore_10 m (nI n) v = some v' ∧ v'.1 5 = nI b' ∧ pf_f5 v v' ∧ RM th nd bn ask v' ∧ 1 ≤ b' ∧ b' ≤ 2 ^ ask.length - 1 ∧ No th nd bn ask b' ∧ ∀ j, 1 ≤ j → j ≤ 2 ^ ask.length - 1 → No th nd bn ask j → key6 b' ≤ key6 j := by
  have hp := cf_pow hl6
  intro m
  induction m with
  | zero => intro n best v _ _ _ _ _ _ h; omega
  | succ m ih =>
    intro n best v hM hn hb1 hbT hbn hnT hm h5 hno hkT hkey
    have hall : f_M_all v = nI (2 ^ ask.length - 1) := by
      unfold f_M_all; rw [hM.1.2.2.2.1, cf_mall _ hl6]
    have hstep : l_M_findCore_10 (m + 1) (nI n) v = b_M_findCore_10 (l_M_findCore_10 m) (nI n) v := rfl
    rw [hstep]
    unfold b_M_findCore_10
    rw [hall]
    by_cases hend : n = 2 ^ ask.length - 1
    · refine ⟨best, v, by rw [if_pos (nI_le (by omega) (by omega))], h5, pf_f5.rf v, hM, hb1, hbT, hno, fun j h1 h2 h3 => ?_⟩
      by_cases e : j = 2 ^ ask.length - 1
      · rw [e]; exact hkT
      · exact hkey j h1 (by omega) h3
    have hlt : n < 2 ^ ask.length - 1 := by omega
    rw [if_neg (nI_ge hlt (by omega)), cf_size n (by omega), Option.bind_some, h5, cf_size best (by omega), Option.bind_some]
    obtain ⟨a1, a2, a3, a4, -⟩ := cf_rv n (by omega)
    obtain ⟨b1, b2, b3, b4, -⟩ := cf_rv best (by omega)
    have n64 : n < 64 := by omega
    have b64 : best < 64 := by omega
    have nb : n ≠ best := by omega
    have skip : key6 best ≤ key6 n → ∃ (b' : Nat) (v' : PS), l_M_findCore_10 m (nI (n + 1)) v = some v' ∧ v'.1 5 = nI b' ∧ pf_f5 v v' ∧ RM th nd bn ask v' ∧ 1 ≤ b' ∧ b' ≤ 2 ^ ask.length - 1 ∧ No th nd bn ask b' ∧ ∀ j, 1 ≤ j → j ≤ 2 ^ ask.length - 1 → No th nd bn ask j → key6 b' ≤ key6 j := by
      intro hk
      exact ih (n + 1) best v hM (by omega) hb1 hbT (by omega) (by omega) (by omega) h5 hno hkT (fun j h1 h2 h3 => by
        by_cases e : j = n
        · rw [e]; exact hk
        · exact hkey j h1 (by omega) h3)
    have try_ : key6 n < key6 best → ∃ (b' : Nat) (v' : PS), b_M_findCore_59 (l_M_findCore_10 m) (nI n) v = some v' ∧ v'.1 5 = nI b' ∧ pf_f5 v v' ∧ RM th nd bn ask v' ∧ 1 ≤ b' ∧ b' ≤ 2 ^ ask.length - 1 ∧ No th nd bn ask b' ∧ ∀ j, 1 ≤ j → j ≤ 2 ^ ask.length - 1 → No th nd bn ask j → key6 b' ≤ key6 j := by
      clear skip
      intro hk
      obtain ⟨v1, c1, c2, c3⟩ := pf_begin hM.1 hM.2.1 (nI n)
      obtain ⟨y, v2, d1, d2, d3, d4⟩ := pf_next c3
      have f2 : pf_f5 v v2 := pf_f5.of2 (c2.tr d2)
      have hM2 := f2.rm hM d3
      unfold b_M_findCore_59
      rw [c1, Option.bind_some, d1, Option.bind_some, nI_1]
      have e5 : v2.1 5 = nI best := by rw [(c2.tr d2).1 5 (by decide) (by decide)]; exact h5
      rcases d4 with ⟨hF, rfl⟩ | ⟨d, F', hF, rfl, -, -, -⟩
      · rw [if_pos rfl]
        have f3 : pf_f5 v (si v2 5 (nI n)) := f2.tr ⟨fun k _ _ h5 => by rw [si_1, if_neg h5], fun _ _ _ => rfl⟩
        obtain ⟨b', v', r1, r2, r3, r4, r5⟩ := ih (n + 1) n (si v2 5 (nI n)) (hM2.fr ⟨rfl, rfl⟩ (fun _ _ => rfl) (pk_ex hM2.2.1 rfl)) (by omega) (by omega) (by omega) (by omega) (by omega) (by omega) (by rw [si_1, if_pos rfl]) hF (by omega) (fun j h1 h2 h3 => by
          by_cases e : j = n
          · rw [e]; exact Nat.le_refl _
          · have := hkey j h1 (by omega) h3; omega)
        exact ⟨b', v', r1, r2, f3.tr r3, r4, r5⟩
      · rw [if_neg (show ¬ (1 : Int32) = 0 by decide)]
        obtain ⟨b', v', r1, r2, r3, r4, r5⟩ := ih (n + 1) best v2 hM2 (by omega) hb1 hbT (by omega) (by omega) (by omega) e5 hno hkT (fun j h1 h2 h3 => by
          by_cases e : j = n
          · rw [e] at h3
            unfold No at h3
            rw [hF] at h3; cases h3
          · exact hkey j h1 (by omega) h3)
        exact ⟨b', v', r1, r2, f2.tr r3, r4, r5⟩
    unfold key6 at skip try_
    have w1 : sz n < 2 ^ 31 := Nat.lt_of_le_of_lt a4 (by decide)
    have w2 : sz best < 2 ^ 31 := Nat.lt_of_le_of_lt b4 (by decide)
    by_cases c1 : sz best < sz n
    · rw [if_pos (nI_lt c1 w1), nI_1]
      refine skip ?_
      clear skip try_; omega
    rw [if_neg (nI_nlt (Nat.not_lt.mp c1) w2), Option.bind_some]
    by_cases c2 : sz n = sz best
    · rw [if_pos (by rw [c2]), cf_ahead n n64 best b64 nb, Option.bind_some]
      by_cases c3 : rv best < rv n
      · rw [if_pos c3, if_neg (by decide)]
        refine try_ ?_
        clear skip try_; omega
      · rw [if_neg c3, if_pos rfl, nI_1]
        refine skip ?_
        clear skip try_; omega
    · rw [if_neg (fun k => c2 ((nI_eq w1 w2).mp k))]
      refine try_ ?_
      clear skip try_; omega
end CM
/-- both find the same core -/
theorem core_same {th : TH} {nd : ND} {bn : List pd_B} {ask : List pd_N} {u v : PS} (hX : RX th nd bn ask u) (hM : RM th nd bn ask v) (hall : pf_A th nd bn (pd_sel ask (fun _ => true)) = []) :
    ∃ (t b : Nat) (u' v' : PS), f_X_fewestHindering u = some (nI t, u') ∧ Fr u u' ∧ f_M_findCore v = some v' ∧ v'.1 5 = nI b ∧ pf_f5 v v' ∧ RM th nd bn ask v' ∧ b < 64 ∧ t = rv b := by
  have hl6 := hX.2.1.2.1
  have hp := cf_pow hl6
  obtain ⟨X, a1, a2, a3, a4⟩ := rs_all hX hM
  have hXe : X = nI (rv (2 ^ ask.length - 1)) := b_ext fun i hi => by
    rw [cf_all _ hl6 i hi, Bool.eq_iff_iff, a2, decide_eq_true_iff]
    exact ⟨fun ⟨j, h1, h2⟩ => by omega, fun h => ⟨5 - i, by omega, by omega⟩⟩
  subst hXe
  have hallM : f_M_all v = nI (2 ^ ask.length - 1) := by
    unfold f_M_all; rw [hM.1.2.2.2.1, cf_mall _ hl6]
  have hnoT : No th nd bn ask (2 ^ ask.length - 1) := by
    unfold No; rw [← hallM, a4]; exact hall
  have hMs : RM th nd bn ask (si v 5 (f_M_all v)) := hM.fr ⟨rfl, rfl⟩ (fun _ _ => rfl) (pk_ex hM.2.1 rfl)
  have hx := cx_10 hX hM NF 1 u (by omega) (by omega) (show _ < 1000000 by omega) ⟨fun _ _ => rfl, rfl⟩
  have hcls : f_X_fewestHindering u = l_X_fewestHindering_10 NF (nI (rv (2 ^ ask.length - 1))) (nI 1) u := by
    unfold f_X_fewestHindering; rw [a1]; rfl
  have hmod : f_M_findCore v = l_M_findCore_10 NF (nI 1) (si v 5 (f_M_all v)) := rfl
  have f5 : pf_f5 v (si v 5 (f_M_all v)) := ⟨fun k _ _ h5 => by rw [si_1, if_neg h5], fun _ _ _ => rfl⟩
  by_cases hT : ask.length = 0
  · rw [hT] at hx hnoT
    have hz : rv (2 ^ 0 - 1) = 0 := by decide
    rw [hT] at hcls
    refine ⟨0, 0, ?_⟩
    rcases hx with ⟨t, u', g1, g2, -⟩ | ⟨-, u', g2, g3⟩
    · rw [hz] at g2; omega
    · refine ⟨u', si v 5 (f_M_all v), by rw [hcls, g2]; rfl, g3, ?_, ?_, f5, hMs, by decide, by decide⟩
      · rw [hmod]
        show b_M_findCore_10 (l_M_findCore_10 999999) (nI 1) _ = _
        unfold b_M_findCore_10
        rw [if_pos (show f_M_all (si v 5 (f_M_all v)) ≤ nI 1 by
          show f_M_all v ≤ nI 1
          rw [hallM, hT]; decide)]
      · rw [si_1, if_pos rfl, hallM, hT]
  · have h2 : 2 ≤ 2 ^ ask.length := by
      have := Nat.pow_le_pow_right (show 0 < 2 by decide) (show 1 ≤ ask.length by omega)
      simpa using this
    obtain ⟨b, v', m1, m2, m3, m4, m5, m6, m7, m8⟩ := cm_10 hl6 NF 1 (2 ^ ask.length - 1) (si v 5 (f_M_all v)) hMs (by omega) (by omega) (by omega) (Or.inl rfl) (by omega) (show _ < 1000000 by omega) (by rw [si_1, if_pos rfl, hallM]) hnoT (Nat.le_refl _) (fun j h1 h2 _ => by omega)
    obtain ⟨r1, r2, r3, r4, r5⟩ := cf_rv b (by omega)
    replace r5 := r5 (by omega)
    have hGb : Gd th nd bn ask (sz (rv b)) (rv b) := ⟨by rw [r2]; omega, rfl, by rw [r2]; exact m7⟩
    have hle : rv b ≤ rv (2 ^ ask.length - 1) := cf_le _ hl6 b (by omega) (by omega)
    have hS : rv (2 ^ ask.length - 1) < 64 := (cf_rv _ (by omega)).1
    rcases hx with ⟨t, u', g1, g2, g3, g4, g5, g6⟩ | ⟨g1, -⟩
    · have k1 := g4 (rv b) r5.2 hle (by rw [r3]; exact r5.1) hGb
      obtain ⟨s1, s2, s3, s4, s5⟩ := cf_rv t (by omega)
      replace s5 := s5 (by omega)
      have k2 := m8 (rv t) s5.2 (by have := g3.1; omega) g3.2.2
      unfold key6 at k2
      rw [s2, s3] at k2
      rw [r3] at k1
      have e : t = rv b := by omega
      exact ⟨t, b, u', v', by rw [hcls]; exact g5, g6, by rw [hmod]; exact m1, m2, f5.tr m3, m4, by omega, e⟩
    · exact absurd hGb (g1 (rv b) r5.2 hle (by rw [r3]; exact r5.1))
