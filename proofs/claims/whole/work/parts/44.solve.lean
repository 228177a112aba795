-- ---- PackagePick.solve(I)I
def b_X_solve_9 (u : PS) : Option (Int32 × PS) :=
  none
set_option maxRecDepth 100000 in
set_option maxHeartbeats 4000000 in
theorem w_X_solve_9 {γ : CX} {cI : ClassId} {h : Nat → Nat} {r0 : Int32} {u0 : PS} (C : Cx γ b_X_solve 2 (some .int) "PackagePick" (rk 15) [(cI, .int)]) (hQ : QI γ [(cI, .int)] (WX cI h) r0 u0) (u : PS) (hf : b_X_solve_9 u = some (r0, u0)) : AtG γ (WX cI h) 2 0 0 9 [] [] u := by
  unfold b_X_solve_9 at hf
  cases hf
def f_X_solve (a1 : Int32) (u : PS) : Option (Int32 × PS) :=
  if a1 < 0 then
    b_X_solve_9 u
  else
    if a1 < (3 : Int32) then
      (f_W_all u).bind fun r1 =>
      (f_X_tallyChoices r1 a1 (1000000 : Int32) u).bind fun r2 =>
      if r2.1 = 0 then
        (f_X_fewestHindering r2.2).bind fun r4 =>
        none
      else
        some ((f_J_bitCount (r2.2.1 12)), (si r2.2 0 (r2.2.1 12)))
    else
      b_X_solve_9 u
set_option maxRecDepth 100000 in
set_option maxHeartbeats 4000000 in
theorem w_X_solve {γ : CX} {cI : ClassId} {h : Nat → Nat} {r0 : Int32} {u0 : PS} (C : Cx γ b_X_solve 2 (some .int) "PackagePick" (rk 15) [(cI, .int)]) (hQ : QI γ [(cI, .int)] (WX cI h) r0 u0) (a1 : Int32) (u : PS) (hf : f_X_solve a1 u = some (r0, u0)) : AtG γ (WX cI h) 2 0 0 0 [(0, .ref (h 0)), (1, .int a1)] [] u := by
  unfold f_X_solve at hf
  refine x_iload_n C d_X_solve_0 rfl (k := 1) rfl ?_
  refine x_if_lt (tgt := 9) C d_X_solve_1 (by decide) (fun hc => ?_) (fun hc => ?_)
  · rw [if_pos hc] at hf
    refine x_sub (lv' := []) [] rfl ?_
    exact w_X_solve_9 C hQ u hf
  · rw [if_neg hc] at hf
    refine x_iload_n C d_X_solve_4 rfl (k := 1) rfl ?_
    refine x_iconst (v := 3) C d_X_solve_5 (by decide) ?_
    refine x_icmp_lt (tgt := 19) C d_X_solve_6 (by decide) (fun hc => ?_) (fun hc => ?_)
    · rw [if_pos hc] at hf
      refine x_aload_n C d_X_solve_19 rfl (k := 0) rfl ?_
      refine x_aload_n C d_X_solve_20 rfl (k := 0) rfl ?_
      refine gX_X_wishes C mf_X_19 d_X_solve_21 ?_
      obtain ⟨r1, hc1, hf⟩ := Option.bind_eq_some_iff.mp hf
      refine x_callIv (q0 := 2) (ci := 2) (rest := [.ref (h 0)]) C (c_W_all u hc1) kc_W_all (rok (by decide) (by decide)) mm_X_83 ms_W_all ml_W_all rfl rfl rfl rfl (Nat.le_of_ble_eq_true rfl) d_X_solve_24 ?_
      refine x_iload_n C d_X_solve_27 rfl (k := 1) rfl ?_
      refine x_ldc (v := 1000000) C mk_X_87 d_X_solve_28 ?_
      obtain ⟨r2, hc2, hf⟩ := Option.bind_eq_some_iff.mp hf
      refine x_callIv (q0 := 0) (ci := 3) (rest := []) C (c_X_tallyChoices r1 a1 (1000000 : Int32) u hc2) kc_X_tallyChoices (rok (by decide) (by decide)) mm_X_88 ms_X_tallyChoices ml_X_tallyChoices rfl rfl rfl rfl (Nat.le_of_ble_eq_true rfl) d_X_solve_30 ?_
      refine x_if_ne (tgt := 54) C d_X_solve_33 (by decide) (fun hc => ?_) (fun hc => ?_)
      · rw [if_neg hc] at hf
        refine x_aload_n C d_X_solve_54 rfl (k := 0) rfl ?_
        refine x_aload_n C d_X_solve_55 rfl (k := 0) rfl ?_
        refine gX_X_tally C mf_X_26 d_X_solve_56 ?_
        refine gX_T_best (v := (r2.2.1 12)) C mf_X_99 rfl d_X_solve_59 ?_
        refine pX_X_told C mf_X_30 d_X_solve_62 ?_
        refine x_aload_n C d_X_solve_65 rfl (k := 0) rfl ?_
        refine gX_X_told (v := (r2.2.1 12)) C mf_X_30 rfl d_X_solve_66 ?_
        refine x_callIs (rest := []) C (c_J_bitCount (r2.2.1 12)) kc_J_bitCount (rok (by decide) (by decide)) mm_X_102 ms_J_bitCount rfl rfl (Nat.le_of_ble_eq_true rfl) d_X_solve_69 ?_
        exact x_iret C hQ (Prod.mk.inj (Option.some.inj hf)).1 (Prod.mk.inj (Option.some.inj hf)).2 d_X_solve_72
      · rw [if_pos hc] at hf
        refine x_aload_n C d_X_solve_36 rfl (k := 0) rfl ?_
        refine x_aload_n C d_X_solve_37 rfl (k := 0) rfl ?_
        obtain ⟨r4, hc4, hf⟩ := Option.bind_eq_some_iff.mp hf
        refine x_callIv (q0 := 0) (ci := 3) (rest := [.ref (h 0)]) C (c_X_fewestHindering r2.2 hc4) kc_X_fewestHindering (rok (by decide) (by decide)) mm_X_91 ms_X_fewestHindering ml_X_fewestHindering rfl rfl rfl rfl (Nat.le_of_ble_eq_true rfl) d_X_solve_38 ?_
        refine pX_X_hindering C mf_X_37 d_X_solve_41 ?_
        cases hf
    · rw [if_neg hc] at hf
      refine x_sub (lv' := []) [] rfl ?_
      exact w_X_solve_9 C hQ u hf
theorem c_X_solve {l : Launch} {D : va_G} {cI : ClassId} {h : Nat → Nat} (a1 : Int32) (u : PS) {r0 : Int32 × PS} (hf : f_X_solve a1 u = some r0) : CtI l y_X_solve b_X_solve 2 (some .int) (rk 15) D [(cI, .int)] (WX cI h) [.ref (h 0), .int a1] u r0.1 r0.2 := ct_ofI (by decide) (Nat.le_of_ble_eq_true rfl) (fun γ _ _ C hQ => w_X_solve C hQ a1 u hf)
-- ---- PackagePick.core(I)I
def b_X_core_4 (u : PS) (k4 : Int32 → Int32 → Int32 → Option (Int32)) (x1 : Int32) (x2 : Int32) (x3 : Int32) : Option (Int32) :=
  if (6 : Int32) ≤ x3 then
    none
  else
    if ((u.1 2) &&& (f_X_wishBit x3)) = 0 then
      k4 x1 x2 (x3 + (1 : Int32))
    else
      if x2 = x1 then
        some x3
      else
        k4 x1 (x2 + (1 : Int32)) (x3 + (1 : Int32))
set_option maxRecDepth 100000 in
set_option maxHeartbeats 4000000 in
theorem w_X_core_4 {γ : CX} {cI : ClassId} {h : Nat → Nat} {u : PS} {r0 : Int32} (C : Cx γ b_X_core 4 (some .int) "PackagePick" (rk 1) [(cI, .int)]) (hQ : QI γ [(cI, .int)] (WX cI h) r0 u) (k4 : Int32 → Int32 → Int32 → Option (Int32)) (hk4 : ∀ (x1 : Int32) (x2 : Int32) (x3 : Int32), k4 x1 x2 x3 = some r0 → AtG γ (WX cI h) 4 0 0 4 [(0, .ref (h 0)), (1, .int x1), (2, .int x2), (3, .int x3)] [] u) (x1 : Int32) (x2 : Int32) (x3 : Int32) (hf : b_X_core_4 u k4 x1 x2 x3 = some r0) : AtG γ (WX cI h) 4 0 0 4 [(0, .ref (h 0)), (1, .int x1), (2, .int x2), (3, .int x3)] [] u := by
  unfold b_X_core_4 at hf
  refine x_iload_n C d_X_core_4 rfl (k := 3) rfl ?_
  refine x_bipush (v := 6) C d_X_core_5 (by decide) ?_
  refine x_icmp_ge (tgt := 38) C d_X_core_7 (by decide) (fun hc => ?_) (fun hc => ?_)
  · rw [if_pos hc] at hf
    cases hf
  · rw [if_neg hc] at hf
    refine x_aload_n C d_X_core_10 rfl (k := 0) rfl ?_
    refine gX_X_hindering (v := (u.1 2)) C mf_X_37 rfl d_X_core_11 ?_
    refine x_iload_n C d_X_core_14 rfl (k := 3) rfl ?_
    refine x_callIs (rest := [.int (u.1 2)]) C (c_X_wishBit x3) kc_X_wishBit (rok (by decide) (by decide)) mm_X_125 ms_X_wishBit rfl rfl (Nat.le_of_ble_eq_true rfl) d_X_core_15 ?_
    refine x_iand C d_X_core_18 ?_
    refine x_if_eq (tgt := 32) C d_X_core_19 (by decide) (fun hc => ?_) (fun hc => ?_)
    · rw [if_pos hc] at hf
      refine x_iinc (v := (x3 + (1 : Int32))) (lv' := [(3, .int (x3 + (1 : Int32))), (0, .ref (h 0)), (1, .int x1), (2, .int x2)]) C d_X_core_32 (k := 3) rfl rfl (by decide) rfl ?_
      refine x_goto (tgt := 4) C d_X_core_35 (by decide) ?_
      refine x_sub (lv' := [(0, .ref (h 0)), (1, .int x1), (2, .int x2), (3, .int (x3 + (1 : Int32)))]) [1, 2, 3, 0] rfl ?_
      exact hk4 x1 x2 (x3 + (1 : Int32)) hf
    · rw [if_neg hc] at hf
      refine x_iload_n C d_X_core_22 rfl (k := 2) rfl ?_
      refine x_iload_n C d_X_core_23 rfl (k := 1) rfl ?_
      refine x_icmp_ne (tgt := 29) C d_X_core_24 (by decide) (fun hc => ?_) (fun hc => ?_)
      · rw [if_neg hc] at hf
        refine x_iinc (v := (x2 + (1 : Int32))) (lv' := [(2, .int (x2 + (1 : Int32))), (0, .ref (h 0)), (1, .int x1), (3, .int x3)]) C d_X_core_29 (k := 2) rfl rfl (by decide) rfl ?_
        refine x_iinc (v := (x3 + (1 : Int32))) (lv' := [(3, .int (x3 + (1 : Int32))), (2, .int (x2 + (1 : Int32))), (0, .ref (h 0)), (1, .int x1)]) C d_X_core_32 (k := 3) rfl rfl (by decide) rfl ?_
        refine x_goto (tgt := 4) C d_X_core_35 (by decide) ?_
        refine x_sub (lv' := [(0, .ref (h 0)), (1, .int x1), (2, .int (x2 + (1 : Int32))), (3, .int (x3 + (1 : Int32)))]) [2, 3, 1, 0] rfl ?_
        exact hk4 x1 (x2 + (1 : Int32)) (x3 + (1 : Int32)) hf
      · rw [if_pos hc] at hf
        refine x_iload_n C d_X_core_27 rfl (k := 3) rfl ?_
        exact x_iret C hQ (Option.some.inj hf) rfl d_X_core_28
def l_X_core_4 (u : PS) : Nat → Int32 → Int32 → Int32 → Option (Int32)
  | 0 => fun _ _ _ => none
  | n + 1 => b_X_core_4 u (l_X_core_4 u n)
theorem wl_X_core_4 {γ : CX} {cI : ClassId} {h : Nat → Nat} {u : PS} {r0 : Int32} (C : Cx γ b_X_core 4 (some .int) "PackagePick" (rk 1) [(cI, .int)]) (hQ : QI γ [(cI, .int)] (WX cI h) r0 u) (n : Nat) : ∀ (x1 : Int32) (x2 : Int32) (x3 : Int32), l_X_core_4 u n x1 x2 x3 = some r0 → AtG γ (WX cI h) 4 0 0 4 [(0, .ref (h 0)), (1, .int x1), (2, .int x2), (3, .int x3)] [] u := by
  induction n with
  | zero => intro x1 x2 x3 hf; cases hf
  | succ n ih => intro x1 x2 x3 hf; exact w_X_core_4 C hQ (l_X_core_4 u n) ih x1 x2 x3 hf
def f_X_core (a1 : Int32) (u : PS) : Option (Int32) :=
  l_X_core_4 u NF a1 (0 : Int32) (0 : Int32)
set_option maxRecDepth 100000 in
set_option maxHeartbeats 4000000 in
theorem w_X_core {γ : CX} {cI : ClassId} {h : Nat → Nat} {u : PS} {r0 : Int32} (C : Cx γ b_X_core 4 (some .int) "PackagePick" (rk 1) [(cI, .int)]) (hQ : QI γ [(cI, .int)] (WX cI h) r0 u) (a1 : Int32) (hf : f_X_core a1 u = some r0) : AtG γ (WX cI h) 4 0 0 0 [(0, .ref (h 0)), (1, .int a1)] [] u := by
  unfold f_X_core at hf
  refine x_iconst (v := 0) C d_X_core_0 (by decide) ?_
  refine x_istore_n (lv' := [(2, .int (0 : Int32)), (0, .ref (h 0)), (1, .int a1)]) C d_X_core_1 rfl (by decide) rfl ?_
  refine x_iconst (v := 0) C d_X_core_2 (by decide) ?_
  refine x_istore_n (lv' := [(3, .int (0 : Int32)), (2, .int (0 : Int32)), (0, .ref (h 0)), (1, .int a1)]) C d_X_core_3 rfl (by decide) rfl ?_
  refine x_sub (lv' := [(0, .ref (h 0)), (1, .int a1), (2, .int (0 : Int32)), (3, .int (0 : Int32))]) [2, 3, 1, 0] rfl ?_
  exact wl_X_core_4 C hQ NF a1 (0 : Int32) (0 : Int32) hf
theorem c_X_core {l : Launch} {D : va_G} {cI : ClassId} {h : Nat → Nat} (a1 : Int32) (u : PS) {r0 : Int32} (hf : f_X_core a1 u = some r0) : CtI l y_X_core b_X_core 4 (some .int) (rk 1) D [(cI, .int)] (WX cI h) [.ref (h 0), .int a1] u r0 u := ct_ofI (by decide) (Nat.le_of_ble_eq_true rfl) (fun γ _ _ C hQ => w_X_core C hQ a1 hf)
-- ---- PackagePick.solve(I)I
def b_X_solve_t_9 (u : PS) : Option (Nat × PS) :=
  some (1, u)
set_option maxRecDepth 100000 in
set_option maxHeartbeats 4000000 in
theorem w_X_solve_t_9 {γ : CX} {cI : ClassId} {h : Nat → Nat} {e0 B : Nat} {u0 : PS} (C : Cx γ b_X_solve 2 (some .int) "PackagePick" (rkT 15) [(cI, .int)]) (CT : CxT γ B) (hQ : QT γ (WX cI h) (thE e0) u0) (u : PS) (hf : b_X_solve_t_9 u = some (e0, u0)) : AtG γ (WX cI h) 2 0 0 9 [] [] u := by
  unfold b_X_solve_t_9 at hf
  exact xt_1 C CT hQ (by decide) (Prod.mk.inj (Option.some.inj hf)).1 d_X_solve_9 d_X_solve_12 d_X_solve_13 d_X_solve_15 d_X_solve_18 (Prod.mk.inj (Option.some.inj hf)).2
def f_X_solve_t (a1 : Int32) (u : PS) : Option (Nat × PS) :=
  if a1 < 0 then
    b_X_solve_t_9 u
  else
    if a1 < (3 : Int32) then
      (f_W_all u).bind fun r1 =>
      (f_X_tallyChoices r1 a1 (1000000 : Int32) u).bind fun r2 =>
      if r2.1 = 0 then
        (f_X_fewestHindering r2.2).bind fun r4 =>
        some (2, (si r4.2 2 r4.1))
      else
        none
    else
      b_X_solve_t_9 u
set_option maxRecDepth 100000 in
set_option maxHeartbeats 4000000 in
theorem w_X_solve_t {γ : CX} {cI : ClassId} {h : Nat → Nat} {e0 B : Nat} {u0 : PS} (C : Cx γ b_X_solve 2 (some .int) "PackagePick" (rkT 15) [(cI, .int)]) (CT : CxT γ B) (hQ : QT γ (WX cI h) (thE e0) u0) (a1 : Int32) (u : PS) (hf : f_X_solve_t a1 u = some (e0, u0)) : AtG γ (WX cI h) 2 0 0 0 [(0, .ref (h 0)), (1, .int a1)] [] u := by
  unfold f_X_solve_t at hf
  refine x_iload_n C d_X_solve_0 rfl (k := 1) rfl ?_
  refine x_if_lt (tgt := 9) C d_X_solve_1 (by decide) (fun hc => ?_) (fun hc => ?_)
  · rw [if_pos hc] at hf
    refine x_sub (lv' := []) [] rfl ?_
    exact w_X_solve_t_9 C CT hQ u hf
  · rw [if_neg hc] at hf
    refine x_iload_n C d_X_solve_4 rfl (k := 1) rfl ?_
    refine x_iconst (v := 3) C d_X_solve_5 (by decide) ?_
    refine x_icmp_lt (tgt := 19) C d_X_solve_6 (by decide) (fun hc => ?_) (fun hc => ?_)
    · rw [if_pos hc] at hf
      refine x_aload_n C d_X_solve_19 rfl (k := 0) rfl ?_
      refine x_aload_n C d_X_solve_20 rfl (k := 0) rfl ?_
      refine gX_X_wishes C mf_X_19 d_X_solve_21 ?_
      obtain ⟨r1, hc1, hf⟩ := Option.bind_eq_some_iff.mp hf
      refine x_callIv (q0 := 2) (ci := 2) (rest := [.ref (h 0)]) C (c_W_all u hc1) kc_W_all (rokT (by decide) (by decide)) mm_X_83 ms_W_all ml_W_all rfl rfl rfl rfl (Nat.le_of_ble_eq_true rfl) d_X_solve_24 ?_
      refine x_iload_n C d_X_solve_27 rfl (k := 1) rfl ?_
      refine x_ldc (v := 1000000) C mk_X_87 d_X_solve_28 ?_
      obtain ⟨r2, hc2, hf⟩ := Option.bind_eq_some_iff.mp hf
      refine x_callIv (q0 := 0) (ci := 3) (rest := []) C (c_X_tallyChoices r1 a1 (1000000 : Int32) u hc2) kc_X_tallyChoices (rokT (by decide) (by decide)) mm_X_88 ms_X_tallyChoices ml_X_tallyChoices rfl rfl rfl rfl (Nat.le_of_ble_eq_true rfl) d_X_solve_30 ?_
      refine x_if_ne (tgt := 54) C d_X_solve_33 (by decide) (fun hc => ?_) (fun hc => ?_)
      · rw [if_neg hc] at hf
        refine x_aload_n C d_X_solve_54 rfl (k := 0) rfl ?_
        refine x_aload_n C d_X_solve_55 rfl (k := 0) rfl ?_
        refine gX_X_tally C mf_X_26 d_X_solve_56 ?_
        refine gX_T_best (v := (r2.2.1 12)) C mf_X_99 rfl d_X_solve_59 ?_
        refine pX_X_told C mf_X_30 d_X_solve_62 ?_
        refine x_aload_n C d_X_solve_65 rfl (k := 0) rfl ?_
        refine gX_X_told (v := (r2.2.1 12)) C mf_X_30 rfl d_X_solve_66 ?_
        refine x_callIs (rest := []) C (c_J_bitCount (r2.2.1 12)) kc_J_bitCount (rokT (by decide) (by decide)) mm_X_102 ms_J_bitCount rfl rfl (Nat.le_of_ble_eq_true rfl) d_X_solve_69 ?_
        cases hf
      · rw [if_pos hc] at hf
        refine x_aload_n C d_X_solve_36 rfl (k := 0) rfl ?_
        refine x_aload_n C d_X_solve_37 rfl (k := 0) rfl ?_
        obtain ⟨r4, hc4, hf⟩ := Option.bind_eq_some_iff.mp hf
        refine x_callIv (q0 := 0) (ci := 3) (rest := [.ref (h 0)]) C (c_X_fewestHindering r2.2 hc4) kc_X_fewestHindering (rokT (by decide) (by decide)) mm_X_91 ms_X_fewestHindering ml_X_fewestHindering rfl rfl rfl rfl (Nat.le_of_ble_eq_true rfl) d_X_solve_38 ?_
        refine pX_X_hindering C mf_X_37 d_X_solve_41 ?_
        exact xt_2 C CT hQ (by decide) (Prod.mk.inj (Option.some.inj hf)).1 d_X_solve_44 d_X_solve_47 d_X_solve_48 d_X_solve_50 d_X_solve_53 (Prod.mk.inj (Option.some.inj hf)).2
    · rw [if_neg hc] at hf
      refine x_sub (lv' := []) [] rfl ?_
      exact w_X_solve_t_9 C CT hQ u hf
theorem c_X_solve_t {l : Launch} {D : va_G} {cI : ClassId} {h : Nat → Nat} (a1 : Int32) (u : PS) {e0 B : Nat} {u0 : PS} (hfl : l.flags = pinnedFlags ++ [noTraceFlag]) (hf : f_X_solve_t a1 u = some (e0, u0)) : CtT l y_X_solve b_X_solve 2 (some .int) (rkT 15) D [(cI, .int)] (WX cI h) [.ref (h 0), .int a1] u (thE e0) u0 B := ct_ofT hfl (by decide) (Nat.le_of_ble_eq_true rfl) (fun γ _ _ C CT hQ => w_X_solve_t C CT hQ a1 u hf)
-- ---- PackagePick.core(I)I
def b_X_core_t_4 (k4 : Int32 → Int32 → Int32 → PS → Option (Nat × PS)) (x1 : Int32) (x2 : Int32) (x3 : Int32) (u : PS) : Option (Nat × PS) :=
  if (6 : Int32) ≤ x3 then
    some (3, u)
  else
    if ((u.1 2) &&& (f_X_wishBit x3)) = 0 then
      k4 x1 x2 (x3 + (1 : Int32)) u
    else
      if x2 = x1 then
        none
      else
        k4 x1 (x2 + (1 : Int32)) (x3 + (1 : Int32)) u
set_option maxRecDepth 100000 in
set_option maxHeartbeats 4000000 in
theorem w_X_core_t_4 {γ : CX} {cI : ClassId} {h : Nat → Nat} {e0 B : Nat} {u0 : PS} (C : Cx γ b_X_core 4 (some .int) "PackagePick" (rkT 6) [(cI, .int)]) (CT : CxT γ B) (hQ : QT γ (WX cI h) (thE e0) u0) (k4 : Int32 → Int32 → Int32 → PS → Option (Nat × PS)) (hk4 : ∀ (x1 : Int32) (x2 : Int32) (x3 : Int32) (u : PS), k4 x1 x2 x3 u = some (e0, u0) → AtG γ (WX cI h) 4 0 0 4 [(0, .ref (h 0)), (1, .int x1), (2, .int x2), (3, .int x3)] [] u) (x1 : Int32) (x2 : Int32) (x3 : Int32) (u : PS) (hf : b_X_core_t_4 k4 x1 x2 x3 u = some (e0, u0)) : AtG γ (WX cI h) 4 0 0 4 [(0, .ref (h 0)), (1, .int x1), (2, .int x2), (3, .int x3)] [] u := by
  unfold b_X_core_t_4 at hf
  refine x_iload_n C d_X_core_4 rfl (k := 3) rfl ?_
  refine x_bipush (v := 6) C d_X_core_5 (by decide) ?_
  refine x_icmp_ge (tgt := 38) C d_X_core_7 (by decide) (fun hc => ?_) (fun hc => ?_)
  · rw [if_pos hc] at hf
    exact xt_3 C CT hQ (by decide) (Prod.mk.inj (Option.some.inj hf)).1 d_X_core_38 d_X_core_41 d_X_core_42 d_X_core_44 d_X_core_47 (Prod.mk.inj (Option.some.inj hf)).2
  · rw [if_neg hc] at hf
    refine x_aload_n C d_X_core_10 rfl (k := 0) rfl ?_
    refine gX_X_hindering (v := (u.1 2)) C mf_X_37 rfl d_X_core_11 ?_
    refine x_iload_n C d_X_core_14 rfl (k := 3) rfl ?_
    refine x_callIs (rest := [.int (u.1 2)]) C (c_X_wishBit x3) kc_X_wishBit (rokT (by decide) (by decide)) mm_X_125 ms_X_wishBit rfl rfl (Nat.le_of_ble_eq_true rfl) d_X_core_15 ?_
    refine x_iand C d_X_core_18 ?_
    refine x_if_eq (tgt := 32) C d_X_core_19 (by decide) (fun hc => ?_) (fun hc => ?_)
    · rw [if_pos hc] at hf
      refine x_iinc (v := (x3 + (1 : Int32))) (lv' := [(3, .int (x3 + (1 : Int32))), (0, .ref (h 0)), (1, .int x1), (2, .int x2)]) C d_X_core_32 (k := 3) rfl rfl (by decide) rfl ?_
      refine x_goto (tgt := 4) C d_X_core_35 (by decide) ?_
      refine x_sub (lv' := [(0, .ref (h 0)), (1, .int x1), (2, .int x2), (3, .int (x3 + (1 : Int32)))]) [1, 2, 3, 0] rfl ?_
      exact hk4 x1 x2 (x3 + (1 : Int32)) u hf
    · rw [if_neg hc] at hf
      refine x_iload_n C d_X_core_22 rfl (k := 2) rfl ?_
      refine x_iload_n C d_X_core_23 rfl (k := 1) rfl ?_
      refine x_icmp_ne (tgt := 29) C d_X_core_24 (by decide) (fun hc => ?_) (fun hc => ?_)
      · rw [if_neg hc] at hf
        refine x_iinc (v := (x2 + (1 : Int32))) (lv' := [(2, .int (x2 + (1 : Int32))), (0, .ref (h 0)), (1, .int x1), (3, .int x3)]) C d_X_core_29 (k := 2) rfl rfl (by decide) rfl ?_
        refine x_iinc (v := (x3 + (1 : Int32))) (lv' := [(3, .int (x3 + (1 : Int32))), (2, .int (x2 + (1 : Int32))), (0, .ref (h 0)), (1, .int x1)]) C d_X_core_32 (k := 3) rfl rfl (by decide) rfl ?_
        refine x_goto (tgt := 4) C d_X_core_35 (by decide) ?_
        refine x_sub (lv' := [(0, .ref (h 0)), (1, .int x1), (2, .int (x2 + (1 : Int32))), (3, .int (x3 + (1 : Int32)))]) [2, 3, 1, 0] rfl ?_
        exact hk4 x1 (x2 + (1 : Int32)) (x3 + (1 : Int32)) u hf
      · rw [if_pos hc] at hf
        refine x_iload_n C d_X_core_27 rfl (k := 3) rfl ?_
        cases hf
def l_X_core_t_4 : Nat → Int32 → Int32 → Int32 → PS → Option (Nat × PS)
  | 0 => fun _ _ _ _ => none
  | n + 1 => b_X_core_t_4 (l_X_core_t_4 n)
theorem wl_X_core_t_4 {γ : CX} {cI : ClassId} {h : Nat → Nat} {e0 B : Nat} {u0 : PS} (C : Cx γ b_X_core 4 (some .int) "PackagePick" (rkT 6) [(cI, .int)]) (CT : CxT γ B) (hQ : QT γ (WX cI h) (thE e0) u0) (n : Nat) : ∀ (x1 : Int32) (x2 : Int32) (x3 : Int32) (u : PS), l_X_core_t_4 n x1 x2 x3 u = some (e0, u0) → AtG γ (WX cI h) 4 0 0 4 [(0, .ref (h 0)), (1, .int x1), (2, .int x2), (3, .int x3)] [] u := by
  induction n with
  | zero => intro x1 x2 x3 u hf; cases hf
  | succ n ih => intro x1 x2 x3 u hf; exact w_X_core_t_4 C CT hQ (l_X_core_t_4 n) ih x1 x2 x3 u hf
def f_X_core_t (a1 : Int32) (u : PS) : Option (Nat × PS) :=
  l_X_core_t_4 NF a1 (0 : Int32) (0 : Int32) u
set_option maxRecDepth 100000 in
set_option maxHeartbeats 4000000 in
theorem w_X_core_t {γ : CX} {cI : ClassId} {h : Nat → Nat} {e0 B : Nat} {u0 : PS} (C : Cx γ b_X_core 4 (some .int) "PackagePick" (rkT 6) [(cI, .int)]) (CT : CxT γ B) (hQ : QT γ (WX cI h) (thE e0) u0) (a1 : Int32) (u : PS) (hf : f_X_core_t a1 u = some (e0, u0)) : AtG γ (WX cI h) 4 0 0 0 [(0, .ref (h 0)), (1, .int a1)] [] u := by
  unfold f_X_core_t at hf
  refine x_iconst (v := 0) C d_X_core_0 (by decide) ?_
  refine x_istore_n (lv' := [(2, .int (0 : Int32)), (0, .ref (h 0)), (1, .int a1)]) C d_X_core_1 rfl (by decide) rfl ?_
  refine x_iconst (v := 0) C d_X_core_2 (by decide) ?_
  refine x_istore_n (lv' := [(3, .int (0 : Int32)), (2, .int (0 : Int32)), (0, .ref (h 0)), (1, .int a1)]) C d_X_core_3 rfl (by decide) rfl ?_
  refine x_sub (lv' := [(0, .ref (h 0)), (1, .int a1), (2, .int (0 : Int32)), (3, .int (0 : Int32))]) [2, 3, 1, 0] rfl ?_
  exact wl_X_core_t_4 C CT hQ NF a1 (0 : Int32) (0 : Int32) u hf
theorem c_X_core_t {l : Launch} {D : va_G} {cI : ClassId} {h : Nat → Nat} (a1 : Int32) (u : PS) {e0 B : Nat} {u0 : PS} (hfl : l.flags = pinnedFlags ++ [noTraceFlag]) (hf : f_X_core_t a1 u = some (e0, u0)) : CtT l y_X_core b_X_core 4 (some .int) (rkT 6) D [(cI, .int)] (WX cI h) [.ref (h 0), .int a1] u (thE e0) u0 B := ct_ofT hfl (by decide) (Nat.le_of_ble_eq_true rfl) (fun γ _ _ C CT hQ => w_X_core_t C CT hQ a1 u hf)
