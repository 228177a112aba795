theorem ha_i (N : Nat) : ∀ cA : ClassId, vp_cell cA (N, .inl (fun _ => 0)) = arrV cA N (fun _ => defaultValue .int) := fun _ => rfl
theorem ha_z (N : Nat) : ∀ cA : ClassId, vp_cell cA (N, .inl (fun _ => 0)) = arrV cA N (fun _ => defaultValue .boolean) := fun _ => rfl
set_option maxHeartbeats 400000 in
theorem c_C_init {l : Launch} {D : va_G} {cI : ClassId} {a : Nat} : CtN l y_C_init b_C_init 1 (rkJ 1 4 112) 4 112 D [(cI, .int)] [.ref a] [(a, .inr (0, [.null, .null, .null, .null, .int 0, .int 0]))] (fun w => ∃ q1 q2 q3 q4 : Nat, w = [(a, .inr (0, [.ref q1, .ref q2, .ref q3, .ref q4, .int 0, .int 0])), (q1, .inl (cI, 28, .inl (fun _ => 0))), (q2, .inl (cI, 28, .inl (fun _ => 0))), (q3, .inl (cI, 28, .inl (fun _ => 0))), (q4, .inl (cI, 28, .inl (fun _ => 0)))]) := by
  refine ct_ofN (by decide) (Nat.le_of_ble_eq_true rfl) (fun γ hl hD C hnm hQ => ?_)
  refine x_aload_n C d_C_init_0 rfl (k := 0) rfl ?_
  refine x_obj C (wb_t 27 (by decide +kernel) rfl) ⟨by decide, by decide⟩ d_C_init_1 ?_
  refine x_aload_n C d_C_init_4 rfl (k := 0) rfl ?_
  refine x_bipush (v := 28) C d_C_init_5 (by decide) ?_
  refine x_newa (atype := .int) (ty := .int) (cA := cI) (t0 := 0) (N' := 28) (a0 := (28, .inl (fun _ => 0))) C (fun q1 => [(a, .inr (0, [.null, .null, .null, .null, .int 0, .int 0])), (q1, .inl (cI, 28, .inl (fun _ => 0)))]) (wb_t 52 (by decide +kernel) rfl) rfl rfl (fun _ h => by cases h) (ha_i 28) (by decide) (by decide) (by decide) ⟨by decide, by decide⟩ (fun _ => rfl) d_C_init_7 (fun q1 => ?_)
  refine x_putF (q0 := 0) (ci := 0) (Cn := RR_C) (T := FF_C) (N := 6) (ty0 := ft_C) (kf := 0) (ty := .array .int) C hnm ([(a, .inr (0, [.ref q1, .null, .null, .null, .int 0, .int 0])), (q1, .inl (cI, 28, .inl (fun _ => 0)))]) mu_C ft_C_ok fn_C rfl rfl (by decide) mf_C_9 rfl rfl (by decide +kernel) rfl rfl (Nat.le_of_ble_eq_true rfl) rfl d_C_init_9 ?_
  refine x_aload_n C d_C_init_12 rfl (k := 0) rfl ?_
  refine x_bipush (v := 28) C d_C_init_13 (by decide) ?_
  refine x_newa (atype := .int) (ty := .int) (cA := cI) (t0 := 0) (N' := 28) (a0 := (28, .inl (fun _ => 0))) C (fun q2 => [(a, .inr (0, [.ref q1, .null, .null, .null, .int 0, .int 0])), (q1, .inl (cI, 28, .inl (fun _ => 0))), (q2, .inl (cI, 28, .inl (fun _ => 0)))]) (wb_t 52 (by decide +kernel) rfl) rfl rfl (fun _ h => by cases h) (ha_i 28) (by decide) (by decide) (by decide) ⟨by decide, by decide⟩ (fun _ => rfl) d_C_init_15 (fun q2 => ?_)
  refine x_putF (q0 := 0) (ci := 0) (Cn := RR_C) (T := FF_C) (N := 6) (ty0 := ft_C) (kf := 1) (ty := .array .int) C hnm ([(a, .inr (0, [.ref q1, .ref q2, .null, .null, .int 0, .int 0])), (q1, .inl (cI, 28, .inl (fun _ => 0))), (q2, .inl (cI, 28, .inl (fun _ => 0)))]) mu_C ft_C_ok fn_C rfl rfl (by decide) mf_C_15 rfl rfl (by decide +kernel) rfl rfl (Nat.le_of_ble_eq_true rfl) rfl d_C_init_17 ?_
  refine x_aload_n C d_C_init_20 rfl (k := 0) rfl ?_
  refine x_bipush (v := 28) C d_C_init_21 (by decide) ?_
  refine x_newa (atype := .int) (ty := .int) (cA := cI) (t0 := 0) (N' := 28) (a0 := (28, .inl (fun _ => 0))) C (fun q3 => [(a, .inr (0, [.ref q1, .ref q2, .null, .null, .int 0, .int 0])), (q1, .inl (cI, 28, .inl (fun _ => 0))), (q2, .inl (cI, 28, .inl (fun _ => 0))), (q3, .inl (cI, 28, .inl (fun _ => 0)))]) (wb_t 52 (by decide +kernel) rfl) rfl rfl (fun _ h => by cases h) (ha_i 28) (by decide) (by decide) (by decide) ⟨by decide, by decide⟩ (fun _ => rfl) d_C_init_23 (fun q3 => ?_)
  refine x_putF (q0 := 0) (ci := 0) (Cn := RR_C) (T := FF_C) (N := 6) (ty0 := ft_C) (kf := 2) (ty := .array .int) C hnm ([(a, .inr (0, [.ref q1, .ref q2, .ref q3, .null, .int 0, .int 0])), (q1, .inl (cI, 28, .inl (fun _ => 0))), (q2, .inl (cI, 28, .inl (fun _ => 0))), (q3, .inl (cI, 28, .inl (fun _ => 0)))]) mu_C ft_C_ok fn_C rfl rfl (by decide) mf_C_18 rfl rfl (by decide +kernel) rfl rfl (Nat.le_of_ble_eq_true rfl) rfl d_C_init_25 ?_
  refine x_aload_n C d_C_init_28 rfl (k := 0) rfl ?_
  refine x_bipush (v := 28) C d_C_init_29 (by decide) ?_
  refine x_newa (atype := .int) (ty := .int) (cA := cI) (t0 := 0) (N' := 28) (a0 := (28, .inl (fun _ => 0))) C (fun q4 => [(a, .inr (0, [.ref q1, .ref q2, .ref q3, .null, .int 0, .int 0])), (q1, .inl (cI, 28, .inl (fun _ => 0))), (q2, .inl (cI, 28, .inl (fun _ => 0))), (q3, .inl (cI, 28, .inl (fun _ => 0))), (q4, .inl (cI, 28, .inl (fun _ => 0)))]) (wb_t 52 (by decide +kernel) rfl) rfl rfl (fun _ h => by cases h) (ha_i 28) (by decide) (by decide) (by decide) ⟨by decide, by decide⟩ (fun _ => rfl) d_C_init_31 (fun q4 => ?_)
  refine x_putF (q0 := 0) (ci := 0) (Cn := RR_C) (T := FF_C) (N := 6) (ty0 := ft_C) (kf := 3) (ty := .array .int) C hnm ([(a, .inr (0, [.ref q1, .ref q2, .ref q3, .ref q4, .int 0, .int 0])), (q1, .inl (cI, 28, .inl (fun _ => 0))), (q2, .inl (cI, 28, .inl (fun _ => 0))), (q3, .inl (cI, 28, .inl (fun _ => 0))), (q4, .inl (cI, 28, .inl (fun _ => 0)))]) mu_C ft_C_ok fn_C rfl rfl (by decide) mf_C_21 rfl rfl (by decide +kernel) rfl rfl (Nat.le_of_ble_eq_true rfl) rfl d_C_init_33 ?_
  refine x_aload_n C d_C_init_36 rfl (k := 0) rfl ?_
  refine x_iconst (v := 0) C d_C_init_37 (by decide) ?_
  refine x_put (wf := wid) (u0 := [(a, .inr (0, [.ref q1, .ref q2, .ref q3, .ref q4, .int 0, .int 0])), (q1, .inl (cI, 28, .inl (fun _ => 0))), (q2, .inl (cI, 28, .inl (fun _ => 0))), (q3, .inl (cI, 28, .inl (fun _ => 0))), (q4, .inl (cI, 28, .inl (fun _ => 0)))]) (q0 := 0) (ci := 0) (Cn := RR_C) (T := FF_C) (N := 6) (ty0 := ft_C) (kf := 4) (ty := .int) C mu_C ft_C_ok fn_C rfl rfl (by decide) mf_C_24 rfl (by decide +kernel) rfl rfl (Nat.le_of_ble_eq_true rfl) rfl d_C_init_38 ?_
  refine x_aload_n C d_C_init_41 rfl (k := 0) rfl ?_
  refine x_iconst (v := 0) C d_C_init_42 (by decide) ?_
  refine x_put (wf := wid) (u0 := [(a, .inr (0, [.ref q1, .ref q2, .ref q3, .ref q4, .int 0, .int 0])), (q1, .inl (cI, 28, .inl (fun _ => 0))), (q2, .inl (cI, 28, .inl (fun _ => 0))), (q3, .inl (cI, 28, .inl (fun _ => 0))), (q4, .inl (cI, 28, .inl (fun _ => 0)))]) (q0 := 0) (ci := 0) (Cn := RR_C) (T := FF_C) (N := 6) (ty0 := ft_C) (kf := 5) (ty := .int) C mu_C ft_C_ok fn_C rfl rfl (by decide) mf_C_28 rfl (by decide +kernel) rfl rfl (Nat.le_of_ble_eq_true rfl) rfl d_C_init_43 ?_
  exact x_vretN C hQ _ [0, 1, 2, 3, 4] rfl rfl ⟨q1, q2, q3, q4, rfl⟩ d_C_init_46
set_option maxHeartbeats 400000 in
theorem c_W_init {l : Launch} {D : va_G} {cI : ClassId} {a : Nat} : CtN l y_W_init b_W_init 1 (rkJ 1 2 12) 2 12 D [(cI, .int)] [.ref a] [(a, .inr (2, [.null, .null, .int 0]))] (fun w => ∃ q1 q2 : Nat, w = [(a, .inr (2, [.ref q1, .ref q2, .int 0])), (q1, .inl (cI, 6, .inl (fun _ => 0))), (q2, .inl (cI, 6, .inl (fun _ => 0)))]) := by
  refine ct_ofN (by decide) (Nat.le_of_ble_eq_true rfl) (fun γ hl hD C hnm hQ => ?_)
  refine x_aload_n C d_W_init_0 rfl (k := 0) rfl ?_
  refine x_obj C (wb_t 58 (by decide +kernel) rfl) ⟨by decide, by decide⟩ d_W_init_1 ?_
  refine x_aload_n C d_W_init_4 rfl (k := 0) rfl ?_
  refine x_bipush (v := 6) C d_W_init_5 (by decide) ?_
  refine x_newa (atype := .int) (ty := .int) (cA := cI) (t0 := 0) (N' := 6) (a0 := (6, .inl (fun _ => 0))) C (fun q1 => [(a, .inr (2, [.null, .null, .int 0])), (q1, .inl (cI, 6, .inl (fun _ => 0)))]) (wb_t 52 (by decide +kernel) rfl) rfl rfl (fun _ h => by cases h) (ha_i 6) (by decide) (by decide) (by decide) ⟨by decide, by decide⟩ (fun _ => rfl) d_W_init_7 (fun q1 => ?_)
  refine x_putF (q0 := 0) (ci := 2) (Cn := RR_W) (T := FF_W) (N := 3) (ty0 := ft_W) (kf := 0) (ty := .array .int) C hnm ([(a, .inr (2, [.ref q1, .null, .int 0])), (q1, .inl (cI, 6, .inl (fun _ => 0)))]) mu_W ft_W_ok fn_W rfl rfl (by decide) mf_W_9 rfl rfl (by decide +kernel) rfl rfl (Nat.le_of_ble_eq_true rfl) rfl d_W_init_9 ?_
  refine x_aload_n C d_W_init_12 rfl (k := 0) rfl ?_
  refine x_bipush (v := 6) C d_W_init_13 (by decide) ?_
  refine x_newa (atype := .int) (ty := .int) (cA := cI) (t0 := 0) (N' := 6) (a0 := (6, .inl (fun _ => 0))) C (fun q2 => [(a, .inr (2, [.ref q1, .null, .int 0])), (q1, .inl (cI, 6, .inl (fun _ => 0))), (q2, .inl (cI, 6, .inl (fun _ => 0)))]) (wb_t 52 (by decide +kernel) rfl) rfl rfl (fun _ h => by cases h) (ha_i 6) (by decide) (by decide) (by decide) ⟨by decide, by decide⟩ (fun _ => rfl) d_W_init_15 (fun q2 => ?_)
  refine x_putF (q0 := 0) (ci := 2) (Cn := RR_W) (T := FF_W) (N := 3) (ty0 := ft_W) (kf := 1) (ty := .array .int) C hnm ([(a, .inr (2, [.ref q1, .ref q2, .int 0])), (q1, .inl (cI, 6, .inl (fun _ => 0))), (q2, .inl (cI, 6, .inl (fun _ => 0)))]) mu_W ft_W_ok fn_W rfl rfl (by decide) mf_W_15 rfl rfl (by decide +kernel) rfl rfl (Nat.le_of_ble_eq_true rfl) rfl d_W_init_17 ?_
  refine x_aload_n C d_W_init_20 rfl (k := 0) rfl ?_
  refine x_iconst (v := 0) C d_W_init_21 (by decide) ?_
  refine x_put (wf := wid) (u0 := [(a, .inr (2, [.ref q1, .ref q2, .int 0])), (q1, .inl (cI, 6, .inl (fun _ => 0))), (q2, .inl (cI, 6, .inl (fun _ => 0)))]) (q0 := 0) (ci := 2) (Cn := RR_W) (T := FF_W) (N := 3) (ty0 := ft_W) (kf := 2) (ty := .int) C mu_W ft_W_ok fn_W rfl rfl (by decide) mf_W_18 rfl (by decide +kernel) rfl rfl (Nat.le_of_ble_eq_true rfl) rfl d_W_init_22 ?_
  exact x_vretN C hQ _ [0, 1, 2] rfl rfl ⟨q1, q2, rfl⟩ d_W_init_25
set_option maxHeartbeats 400000 in
theorem c_T_init {l : Launch} {D : va_G} {cI : ClassId} {a : Nat} : CtN l y_T_init b_T_init 1 (rkJ 1 0 0) 0 0 D [(cI, .int)] [.ref a] [(a, .inr (1, [.int 0, .int 0, .int 0, .int 0, .int 0, .int 0, .int 0]))] (fun w => w = [(a, .inr (1, [.int 0, .int 0, .int 0, .int 0, .int 0, .int 0, .int 0]))]) := by
  refine ct_ofN (by decide) (Nat.le_of_ble_eq_true rfl) (fun γ hl hD C hnm hQ => ?_)
  refine x_aload_n C d_T_init_0 rfl (k := 0) rfl ?_
  refine x_obj C (wb_t 77 (by decide +kernel) rfl) ⟨by decide, by decide⟩ d_T_init_1 ?_
  refine x_aload_n C d_T_init_4 rfl (k := 0) rfl ?_
  refine x_iconst (v := 0) C d_T_init_5 (by decide) ?_
  refine x_put (wf := wid) (u0 := [(a, .inr (1, [.int 0, .int 0, .int 0, .int 0, .int 0, .int 0, .int 0]))]) (q0 := 0) (ci := 1) (Cn := RR_T) (T := FF_T) (N := 7) (ty0 := ft_T) (kf := 0) (ty := .int) C mu_T ft_T_ok fn_T rfl rfl (by decide) mf_T_9 rfl (by decide +kernel) rfl rfl (Nat.le_of_ble_eq_true rfl) rfl d_T_init_6 ?_
  refine x_aload_n C d_T_init_9 rfl (k := 0) rfl ?_
  refine x_iconst (v := 0) C d_T_init_10 (by decide) ?_
  refine x_put (wf := wid) (u0 := [(a, .inr (1, [.int 0, .int 0, .int 0, .int 0, .int 0, .int 0, .int 0]))]) (q0 := 0) (ci := 1) (Cn := RR_T) (T := FF_T) (N := 7) (ty0 := ft_T) (kf := 1) (ty := .int) C mu_T ft_T_ok fn_T rfl rfl (by decide) mf_T_15 rfl (by decide +kernel) rfl rfl (Nat.le_of_ble_eq_true rfl) rfl d_T_init_11 ?_
  refine x_aload_n C d_T_init_14 rfl (k := 0) rfl ?_
  refine x_iconst (v := 0) C d_T_init_15 (by decide) ?_
  refine x_put (wf := wid) (u0 := [(a, .inr (1, [.int 0, .int 0, .int 0, .int 0, .int 0, .int 0, .int 0]))]) (q0 := 0) (ci := 1) (Cn := RR_T) (T := FF_T) (N := 7) (ty0 := ft_T) (kf := 2) (ty := .int) C mu_T ft_T_ok fn_T rfl rfl (by decide) mf_T_18 rfl (by decide +kernel) rfl rfl (Nat.le_of_ble_eq_true rfl) rfl d_T_init_16 ?_
  refine x_aload_n C d_T_init_19 rfl (k := 0) rfl ?_
  refine x_iconst (v := 0) C d_T_init_20 (by decide) ?_
  refine x_put (wf := wid) (u0 := [(a, .inr (1, [.int 0, .int 0, .int 0, .int 0, .int 0, .int 0, .int 0]))]) (q0 := 0) (ci := 1) (Cn := RR_T) (T := FF_T) (N := 7) (ty0 := ft_T) (kf := 3) (ty := .int) C mu_T ft_T_ok fn_T rfl rfl (by decide) mf_T_21 rfl (by decide +kernel) rfl rfl (Nat.le_of_ble_eq_true rfl) rfl d_T_init_21 ?_
  refine x_aload_n C d_T_init_24 rfl (k := 0) rfl ?_
  refine x_iconst (v := 0) C d_T_init_25 (by decide) ?_
  refine x_put (wf := wid) (u0 := [(a, .inr (1, [.int 0, .int 0, .int 0, .int 0, .int 0, .int 0, .int 0]))]) (q0 := 0) (ci := 1) (Cn := RR_T) (T := FF_T) (N := 7) (ty0 := ft_T) (kf := 4) (ty := .int) C mu_T ft_T_ok fn_T rfl rfl (by decide) mf_T_24 rfl (by decide +kernel) rfl rfl (Nat.le_of_ble_eq_true rfl) rfl d_T_init_26 ?_
  refine x_aload_n C d_T_init_29 rfl (k := 0) rfl ?_
  refine x_iconst (v := 0) C d_T_init_30 (by decide) ?_
  refine x_put (wf := wid) (u0 := [(a, .inr (1, [.int 0, .int 0, .int 0, .int 0, .int 0, .int 0, .int 0]))]) (q0 := 0) (ci := 1) (Cn := RR_T) (T := FF_T) (N := 7) (ty0 := ft_T) (kf := 5) (ty := .int) C mu_T ft_T_ok fn_T rfl rfl (by decide) mf_T_27 rfl (by decide +kernel) rfl rfl (Nat.le_of_ble_eq_true rfl) rfl d_T_init_31 ?_
  refine x_aload_n C d_T_init_34 rfl (k := 0) rfl ?_
  refine x_iconst (v := 0) C d_T_init_35 (by decide) ?_
  refine x_put (wf := wid) (u0 := [(a, .inr (1, [.int 0, .int 0, .int 0, .int 0, .int 0, .int 0, .int 0]))]) (q0 := 0) (ci := 1) (Cn := RR_T) (T := FF_T) (N := 7) (ty0 := ft_T) (kf := 6) (ty := .int) C mu_T ft_T_ok fn_T rfl rfl (by decide) mf_T_30 rfl (by decide +kernel) rfl rfl (Nat.le_of_ble_eq_true rfl) rfl d_T_init_36 ?_
  exact x_vretN C hQ _ [0] rfl rfl rfl d_T_init_39
/-- the states at the start -/
def px_u0 : PS := (fun _ => 0, fun _ _ => 0)
def hOf (L : List Nat) : Nat → Nat := fun k => L.getD k 0
set_option maxHeartbeats 400000 in
theorem c_X_init {l : Launch} {D : va_G} {cI : ClassId} {a : Nat} : CtN l y_X_init b_X_init 1 (rkJ 2 9 140) 9 140 D [(cI, .int)] [.ref a] [(a, .inr (3, [.null, .null, .null, .int 0, .int 0, .int 0]))] (fun w => ∃ L : List Nat, w = WX cI (hOf (a :: L)) px_u0) := by
  refine ct_ofN (by decide) (Nat.le_of_ble_eq_true rfl) (fun γ hl hD C hnm hQ => ?_)
  refine x_aload_n C d_X_init_0 rfl (k := 0) rfl ?_
  refine x_obj C (wb_t 19 (by decide +kernel) rfl) ⟨by decide, by decide⟩ d_X_init_1 ?_
  refine x_aload_n C d_X_init_4 rfl (k := 0) rfl ?_
  refine x_new (ci := 0) (Cn := RR_C) (T := FF_C) (N := 6) (ty0 := ft_C) (fs := [.null, .null, .null, .null, .int 0, .int 0]) C (fun q1 => [(a, .inr (3, [.null, .null, .null, .int 0, .int 0, .int 0])), (q1, .inr (0, [.null, .null, .null, .null, .int 0, .int 0]))]) mu_C ft_C_ok (wb_t 22 (by decide +kernel) rfl) (wb_t 23 (by decide +kernel) rfl) mi_PackagePick_Catalog rfl (fun j hj => match j, hj with | 0, _ => rfl | 1, _ => rfl | 2, _ => rfl | 3, _ => rfl | 4, _ => rfl | 5, _ => rfl | j + 6, h => absurd h (by omega)) ⟨by decide, by decide⟩ (fun _ => rfl) d_X_init_5 (fun q1 => ?_)
  refine x_dup C d_X_init_8 rfl ?_
  refine x_callNn (rest := [.ref q1, .ref a]) (isC := [1]) (isR := [0]) C (c_C_init (a := q1)) kc_C_init rfl ⟨⟨rfl, rfl⟩, by decide, by decide⟩ ⟨by decide, by decide⟩ (by decide +kernel) ms_C_init rfl (wr := [(a, .inr (3, [.null, .null, .null, .int 0, .int 0, .int 0]))]) rfl ⟨rfl, rfl, by decide⟩ (Nat.le_of_ble_eq_true rfl) d_X_init_9 (fun wn hwn => ?_)
  obtain ⟨q2, q3, q4, q5, rfl⟩ := hwn
  refine x_putF (q0 := 0) (ci := 3) (Cn := RR_X) (T := FF_X) (N := 6) (ty0 := ft_X) (kf := 0) (ty := .object "PackagePick$Catalog") C hnm ([(a, .inr (3, [.ref q1, .null, .null, .int 0, .int 0, .int 0])), (q1, .inr (0, [.ref q2, .ref q3, .ref q4, .ref q5, .int 0, .int 0])), (q2, .inl (cI, 28, .inl (fun _ => 0))), (q3, .inl (cI, 28, .inl (fun _ => 0))), (q4, .inl (cI, 28, .inl (fun _ => 0))), (q5, .inl (cI, 28, .inl (fun _ => 0)))]) mu_X ft_X_ok fn_X rfl rfl (by decide) mf_X_12 rfl rfl (by decide +kernel) rfl rfl (Nat.le_of_ble_eq_true rfl) rfl d_X_init_12 ?_
  refine x_aload_n C d_X_init_15 rfl (k := 0) rfl ?_
  refine x_new (ci := 2) (Cn := RR_W) (T := FF_W) (N := 3) (ty0 := ft_W) (fs := [.null, .null, .int 0]) C (fun q6 => [(a, .inr (3, [.ref q1, .null, .null, .int 0, .int 0, .int 0])), (q1, .inr (0, [.ref q2, .ref q3, .ref q4, .ref q5, .int 0, .int 0])), (q2, .inl (cI, 28, .inl (fun _ => 0))), (q3, .inl (cI, 28, .inl (fun _ => 0))), (q4, .inl (cI, 28, .inl (fun _ => 0))), (q5, .inl (cI, 28, .inl (fun _ => 0))), (q6, .inr (2, [.null, .null, .int 0]))]) mu_W ft_W_ok (wb_t 53 (by decide +kernel) rfl) (wb_t 54 (by decide +kernel) rfl) mi_PackagePick_Wishes rfl (fun j hj => match j, hj with | 0, _ => rfl | 1, _ => rfl | 2, _ => rfl | j + 3, h => absurd h (by omega)) ⟨by decide, by decide⟩ (fun _ => rfl) d_X_init_16 (fun q6 => ?_)
  refine x_dup C d_X_init_19 rfl ?_
  refine x_callNn (rest := [.ref q6, .ref a]) (isC := [6]) (isR := [0, 1, 2, 3, 4, 5]) C (c_W_init (a := q6)) kc_W_init rfl ⟨⟨rfl, rfl⟩, by decide, by decide⟩ ⟨by decide, by decide⟩ (by decide +kernel) ms_W_init rfl (wr := [(a, .inr (3, [.ref q1, .null, .null, .int 0, .int 0, .int 0])), (q1, .inr (0, [.ref q2, .ref q3, .ref q4, .ref q5, .int 0, .int 0])), (q2, .inl (cI, 28, .inl (fun _ => 0))), (q3, .inl (cI, 28, .inl (fun _ => 0))), (q4, .inl (cI, 28, .inl (fun _ => 0))), (q5, .inl (cI, 28, .inl (fun _ => 0)))]) rfl ⟨rfl, rfl, by decide⟩ (Nat.le_of_ble_eq_true rfl) d_X_init_20 (fun wn hwn => ?_)
  obtain ⟨q7, q8, rfl⟩ := hwn
  refine x_putF (q0 := 0) (ci := 3) (Cn := RR_X) (T := FF_X) (N := 6) (ty0 := ft_X) (kf := 1) (ty := .object "PackagePick$Wishes") C hnm ([(a, .inr (3, [.ref q1, .ref q6, .null, .int 0, .int 0, .int 0])), (q1, .inr (0, [.ref q2, .ref q3, .ref q4, .ref q5, .int 0, .int 0])), (q2, .inl (cI, 28, .inl (fun _ => 0))), (q3, .inl (cI, 28, .inl (fun _ => 0))), (q4, .inl (cI, 28, .inl (fun _ => 0))), (q5, .inl (cI, 28, .inl (fun _ => 0))), (q6, .inr (2, [.ref q7, .ref q8, .int 0])), (q7, .inl (cI, 6, .inl (fun _ => 0))), (q8, .inl (cI, 6, .inl (fun _ => 0)))]) mu_X ft_X_ok fn_X rfl rfl (by decide) mf_X_19 rfl rfl (by decide +kernel) rfl rfl (Nat.le_of_ble_eq_true rfl) rfl d_X_init_23 ?_
  refine x_aload_n C d_X_init_26 rfl (k := 0) rfl ?_
  refine x_new (ci := 1) (Cn := RR_T) (T := FF_T) (N := 7) (ty0 := ft_T) (fs := [.int 0, .int 0, .int 0, .int 0, .int 0, .int 0, .int 0]) C (fun q9 => [(a, .inr (3, [.ref q1, .ref q6, .null, .int 0, .int 0, .int 0])), (q1, .inr (0, [.ref q2, .ref q3, .ref q4, .ref q5, .int 0, .int 0])), (q2, .inl (cI, 28, .inl (fun _ => 0))), (q3, .inl (cI, 28, .inl (fun _ => 0))), (q4, .inl (cI, 28, .inl (fun _ => 0))), (q5, .inl (cI, 28, .inl (fun _ => 0))), (q6, .inr (2, [.ref q7, .ref q8, .int 0])), (q7, .inl (cI, 6, .inl (fun _ => 0))), (q8, .inl (cI, 6, .inl (fun _ => 0))), (q9, .inr (1, [.int 0, .int 0, .int 0, .int 0, .int 0, .int 0, .int 0]))]) mu_T ft_T_ok (wb_t 72 (by decide +kernel) rfl) (wb_t 73 (by decide +kernel) rfl) mi_PackagePick_Tally rfl (fun j hj => match j, hj with | 0, _ => rfl | 1, _ => rfl | 2, _ => rfl | 3, _ => rfl | 4, _ => rfl | 5, _ => rfl | 6, _ => rfl | j + 7, h => absurd h (by omega)) ⟨by decide, by decide⟩ (fun _ => rfl) d_X_init_27 (fun q9 => ?_)
  refine x_dup C d_X_init_30 rfl ?_
  refine x_callNn (rest := [.ref q9, .ref a]) (isC := [9]) (isR := [0, 1, 2, 3, 4, 5, 6, 7, 8]) C (c_T_init (a := q9)) kc_T_init rfl ⟨⟨rfl, rfl⟩, by decide, by decide⟩ ⟨by decide, by decide⟩ (by decide +kernel) ms_T_init rfl (wr := [(a, .inr (3, [.ref q1, .ref q6, .null, .int 0, .int 0, .int 0])), (q1, .inr (0, [.ref q2, .ref q3, .ref q4, .ref q5, .int 0, .int 0])), (q2, .inl (cI, 28, .inl (fun _ => 0))), (q3, .inl (cI, 28, .inl (fun _ => 0))), (q4, .inl (cI, 28, .inl (fun _ => 0))), (q5, .inl (cI, 28, .inl (fun _ => 0))), (q6, .inr (2, [.ref q7, .ref q8, .int 0])), (q7, .inl (cI, 6, .inl (fun _ => 0))), (q8, .inl (cI, 6, .inl (fun _ => 0)))]) rfl ⟨rfl, rfl, by decide⟩ (Nat.le_of_ble_eq_true rfl) d_X_init_31 (fun wn hwn => ?_)
  obtain rfl := hwn
  refine x_putF (q0 := 0) (ci := 3) (Cn := RR_X) (T := FF_X) (N := 6) (ty0 := ft_X) (kf := 2) (ty := .object "PackagePick$Tally") C hnm ([(a, .inr (3, [.ref q1, .ref q6, .ref q9, .int 0, .int 0, .int 0])), (q1, .inr (0, [.ref q2, .ref q3, .ref q4, .ref q5, .int 0, .int 0])), (q2, .inl (cI, 28, .inl (fun _ => 0))), (q3, .inl (cI, 28, .inl (fun _ => 0))), (q4, .inl (cI, 28, .inl (fun _ => 0))), (q5, .inl (cI, 28, .inl (fun _ => 0))), (q6, .inr (2, [.ref q7, .ref q8, .int 0])), (q7, .inl (cI, 6, .inl (fun _ => 0))), (q8, .inl (cI, 6, .inl (fun _ => 0))), (q9, .inr (1, [.int 0, .int 0, .int 0, .int 0, .int 0, .int 0, .int 0]))]) mu_X ft_X_ok fn_X rfl rfl (by decide) mf_X_26 rfl rfl (by decide +kernel) rfl rfl (Nat.le_of_ble_eq_true rfl) rfl d_X_init_34 ?_
  refine x_aload_n C d_X_init_37 rfl (k := 0) rfl ?_
  refine x_iconst (v := 0) C d_X_init_38 (by decide) ?_
  refine x_put (wf := wid) (u0 := [(a, .inr (3, [.ref q1, .ref q6, .ref q9, .int 0, .int 0, .int 0])), (q1, .inr (0, [.ref q2, .ref q3, .ref q4, .ref q5, .int 0, .int 0])), (q2, .inl (cI, 28, .inl (fun _ => 0))), (q3, .inl (cI, 28, .inl (fun _ => 0))), (q4, .inl (cI, 28, .inl (fun _ => 0))), (q5, .inl (cI, 28, .inl (fun _ => 0))), (q6, .inr (2, [.ref q7, .ref q8, .int 0])), (q7, .inl (cI, 6, .inl (fun _ => 0))), (q8, .inl (cI, 6, .inl (fun _ => 0))), (q9, .inr (1, [.int 0, .int 0, .int 0, .int 0, .int 0, .int 0, .int 0]))]) (q0 := 0) (ci := 3) (Cn := RR_X) (T := FF_X) (N := 6) (ty0 := ft_X) (kf := 3) (ty := .int) C mu_X ft_X_ok fn_X rfl rfl (by decide) mf_X_30 rfl (by decide +kernel) rfl rfl (Nat.le_of_ble_eq_true rfl) rfl d_X_init_39 ?_
  refine x_aload_n C d_X_init_42 rfl (k := 0) rfl ?_
  refine x_iconst (v := 0) C d_X_init_43 (by decide) ?_
  refine x_put (wf := wid) (u0 := [(a, .inr (3, [.ref q1, .ref q6, .ref q9, .int 0, .int 0, .int 0])), (q1, .inr (0, [.ref q2, .ref q3, .ref q4, .ref q5, .int 0, .int 0])), (q2, .inl (cI, 28, .inl (fun _ => 0))), (q3, .inl (cI, 28, .inl (fun _ => 0))), (q4, .inl (cI, 28, .inl (fun _ => 0))), (q5, .inl (cI, 28, .inl (fun _ => 0))), (q6, .inr (2, [.ref q7, .ref q8, .int 0])), (q7, .inl (cI, 6, .inl (fun _ => 0))), (q8, .inl (cI, 6, .inl (fun _ => 0))), (q9, .inr (1, [.int 0, .int 0, .int 0, .int 0, .int 0, .int 0, .int 0]))]) (q0 := 0) (ci := 3) (Cn := RR_X) (T := FF_X) (N := 6) (ty0 := ft_X) (kf := 4) (ty := .int) C mu_X ft_X_ok fn_X rfl rfl (by decide) mf_X_34 rfl (by decide +kernel) rfl rfl (Nat.le_of_ble_eq_true rfl) rfl d_X_init_44 ?_
  refine x_aload_n C d_X_init_47 rfl (k := 0) rfl ?_
  refine x_iconst (v := 0) C d_X_init_48 (by decide) ?_
  refine x_put (wf := wid) (u0 := [(a, .inr (3, [.ref q1, .ref q6, .ref q9, .int 0, .int 0, .int 0])), (q1, .inr (0, [.ref q2, .ref q3, .ref q4, .ref q5, .int 0, .int 0])), (q2, .inl (cI, 28, .inl (fun _ => 0))), (q3, .inl (cI, 28, .inl (fun _ => 0))), (q4, .inl (cI, 28, .inl (fun _ => 0))), (q5, .inl (cI, 28, .inl (fun _ => 0))), (q6, .inr (2, [.ref q7, .ref q8, .int 0])), (q7, .inl (cI, 6, .inl (fun _ => 0))), (q8, .inl (cI, 6, .inl (fun _ => 0))), (q9, .inr (1, [.int 0, .int 0, .int 0, .int 0, .int 0, .int 0, .int 0]))]) (q0 := 0) (ci := 3) (Cn := RR_X) (T := FF_X) (N := 6) (ty0 := ft_X) (kf := 5) (ty := .int) C mu_X ft_X_ok fn_X rfl rfl (by decide) mf_X_37 rfl (by decide +kernel) rfl rfl (Nat.le_of_ble_eq_true rfl) rfl d_X_init_49 ?_
  exact x_vretN C hQ (WX cI (hOf [a, q1, q6, q9, q2, q3, q4, q5, q7, q8]) px_u0) [0, 1, 6, 9, 2, 3, 4, 5, 7, 8] rfl rfl ⟨_, rfl⟩ d_X_init_52
def pm_z : Nat → PS
  | 0 => (fun _ => 0, fun _ _ => 0)
  | n + 1 => sa (sa (pm_z n) 12 n (-1)) 13 n (-1)
theorem at_to {S : Type} {γ : CX} {nL cs sl pc : Nat} {lv : List (Nat × Value)} {st : List Value} {wf : S → va_W} {u : S} {w : va_W} (h : wf u = w) (k : AtG γ wf nL cs sl pc lv st u) : AtG γ wid nL cs sl pc lv st w := by
  subst h; exact k
theorem at_st {S : Type} {γ : CX} {nL cs sl pc : Nat} {lv : List (Nat × Value)} {st : List Value} {wf : S → va_W} {u u1 : S} (h : u = u1) (k : AtG γ wf nL cs sl pc lv st u1) : AtG γ wf nL cs sl pc lv st u := by
  subst h; exact k
theorem at_id {S : Type} {γ : CX} {nL cs sl pc : Nat} {lv : List (Nat × Value)} {st : List Value} {wf : S → va_W} {u : S} {w : va_W} (h : wf u = w) (k : AtG γ wid nL cs sl pc lv st w) : AtG γ wf nL cs sl pc lv st u := by
  subst h; exact k
theorem w_M_init_0 {γ : CX} {cI cZ : ClassId} {h : Nat → Nat} {cs sl : Nat} {rm : Room} (C : Cx γ b_M_init 2 none "PackagePickModel" rm [(cI, .int), (cZ, .boolean)]) (k : AtG γ (WM cI cZ h) 2 cs sl 126 [(0, .ref (h 0)), (1, .int (1 : Int32))] [] (pm_z 1)) : AtG γ (WM cI cZ h) 2 cs sl 126 [(0, .ref (h 0)), (1, .int (0 : Int32))] [] (pm_z 0) := by
  refine x_iload_n C d_M_init_126 rfl (k := 1) rfl ?_
  refine x_bipush (v := 7) C d_M_init_127 (by decide) ?_
  refine x_icmp_ge (tgt := 152) C d_M_init_129 (by decide) (fun hc => absurd hc (by decide)) (fun _ => ?_)
  refine x_aload_n C d_M_init_132 rfl (k := 0) rfl ?_
  refine gM_M_told C mf_M_47 d_M_init_133 ?_
  refine x_iload_n C d_M_init_136 rfl (k := 1) rfl ?_
  refine x_iconst (v := -1) C d_M_init_137 (by decide) ?_
  refine astM_13 C rfl d_M_init_138 ?_
  refine x_aload_n C d_M_init_139 rfl (k := 0) rfl ?_
  refine gM_M_kept C mf_M_50 d_M_init_140 ?_
  refine x_iload_n C d_M_init_143 rfl (k := 1) rfl ?_
  refine x_iconst (v := -1) C d_M_init_144 (by decide) ?_
  refine astM_14 C rfl d_M_init_145 ?_
  refine x_iinc (v := (1 : Int32)) (lv' := [(1, .int (1 : Int32)), (0, .ref (h 0))]) C d_M_init_146 (k := 1) rfl (by decide) (by decide) rfl ?_
  refine x_goto (tgt := 126) C d_M_init_149 (by decide) ?_
  refine x_sub (lv' := [(0, .ref (h 0)), (1, .int (1 : Int32))]) [1, 0] rfl ?_
  exact at_st (u1 := pm_z 1) rfl k
theorem w_M_init_1 {γ : CX} {cI cZ : ClassId} {h : Nat → Nat} {cs sl : Nat} {rm : Room} (C : Cx γ b_M_init 2 none "PackagePickModel" rm [(cI, .int), (cZ, .boolean)]) (k : AtG γ (WM cI cZ h) 2 cs sl 126 [(0, .ref (h 0)), (1, .int (2 : Int32))] [] (pm_z 2)) : AtG γ (WM cI cZ h) 2 cs sl 126 [(0, .ref (h 0)), (1, .int (1 : Int32))] [] (pm_z 1) := by
  refine x_iload_n C d_M_init_126 rfl (k := 1) rfl ?_
  refine x_bipush (v := 7) C d_M_init_127 (by decide) ?_
  refine x_icmp_ge (tgt := 152) C d_M_init_129 (by decide) (fun hc => absurd hc (by decide)) (fun _ => ?_)
  refine x_aload_n C d_M_init_132 rfl (k := 0) rfl ?_
  refine gM_M_told C mf_M_47 d_M_init_133 ?_
  refine x_iload_n C d_M_init_136 rfl (k := 1) rfl ?_
  refine x_iconst (v := -1) C d_M_init_137 (by decide) ?_
  refine astM_13 C rfl d_M_init_138 ?_
  refine x_aload_n C d_M_init_139 rfl (k := 0) rfl ?_
  refine gM_M_kept C mf_M_50 d_M_init_140 ?_
  refine x_iload_n C d_M_init_143 rfl (k := 1) rfl ?_
  refine x_iconst (v := -1) C d_M_init_144 (by decide) ?_
  refine astM_14 C rfl d_M_init_145 ?_
  refine x_iinc (v := (2 : Int32)) (lv' := [(1, .int (2 : Int32)), (0, .ref (h 0))]) C d_M_init_146 (k := 1) rfl (by decide) (by decide) rfl ?_
  refine x_goto (tgt := 126) C d_M_init_149 (by decide) ?_
  refine x_sub (lv' := [(0, .ref (h 0)), (1, .int (2 : Int32))]) [1, 0] rfl ?_
  exact at_st (u1 := pm_z 2) rfl k
theorem w_M_init_2 {γ : CX} {cI cZ : ClassId} {h : Nat → Nat} {cs sl : Nat} {rm : Room} (C : Cx γ b_M_init 2 none "PackagePickModel" rm [(cI, .int), (cZ, .boolean)]) (k : AtG γ (WM cI cZ h) 2 cs sl 126 [(0, .ref (h 0)), (1, .int (3 : Int32))] [] (pm_z 3)) : AtG γ (WM cI cZ h) 2 cs sl 126 [(0, .ref (h 0)), (1, .int (2 : Int32))] [] (pm_z 2) := by
  refine x_iload_n C d_M_init_126 rfl (k := 1) rfl ?_
  refine x_bipush (v := 7) C d_M_init_127 (by decide) ?_
  refine x_icmp_ge (tgt := 152) C d_M_init_129 (by decide) (fun hc => absurd hc (by decide)) (fun _ => ?_)
  refine x_aload_n C d_M_init_132 rfl (k := 0) rfl ?_
  refine gM_M_told C mf_M_47 d_M_init_133 ?_
  refine x_iload_n C d_M_init_136 rfl (k := 1) rfl ?_
  refine x_iconst (v := -1) C d_M_init_137 (by decide) ?_
  refine astM_13 C rfl d_M_init_138 ?_
  refine x_aload_n C d_M_init_139 rfl (k := 0) rfl ?_
  refine gM_M_kept C mf_M_50 d_M_init_140 ?_
  refine x_iload_n C d_M_init_143 rfl (k := 1) rfl ?_
  refine x_iconst (v := -1) C d_M_init_144 (by decide) ?_
  refine astM_14 C rfl d_M_init_145 ?_
  refine x_iinc (v := (3 : Int32)) (lv' := [(1, .int (3 : Int32)), (0, .ref (h 0))]) C d_M_init_146 (k := 1) rfl (by decide) (by decide) rfl ?_
  refine x_goto (tgt := 126) C d_M_init_149 (by decide) ?_
  refine x_sub (lv' := [(0, .ref (h 0)), (1, .int (3 : Int32))]) [1, 0] rfl ?_
  exact at_st (u1 := pm_z 3) rfl k
theorem w_M_init_3 {γ : CX} {cI cZ : ClassId} {h : Nat → Nat} {cs sl : Nat} {rm : Room} (C : Cx γ b_M_init 2 none "PackagePickModel" rm [(cI, .int), (cZ, .boolean)]) (k : AtG γ (WM cI cZ h) 2 cs sl 126 [(0, .ref (h 0)), (1, .int (4 : Int32))] [] (pm_z 4)) : AtG γ (WM cI cZ h) 2 cs sl 126 [(0, .ref (h 0)), (1, .int (3 : Int32))] [] (pm_z 3) := by
  refine x_iload_n C d_M_init_126 rfl (k := 1) rfl ?_
  refine x_bipush (v := 7) C d_M_init_127 (by decide) ?_
  refine x_icmp_ge (tgt := 152) C d_M_init_129 (by decide) (fun hc => absurd hc (by decide)) (fun _ => ?_)
  refine x_aload_n C d_M_init_132 rfl (k := 0) rfl ?_
  refine gM_M_told C mf_M_47 d_M_init_133 ?_
  refine x_iload_n C d_M_init_136 rfl (k := 1) rfl ?_
  refine x_iconst (v := -1) C d_M_init_137 (by decide) ?_
  refine astM_13 C rfl d_M_init_138 ?_
  refine x_aload_n C d_M_init_139 rfl (k := 0) rfl ?_
  refine gM_M_kept C mf_M_50 d_M_init_140 ?_
  refine x_iload_n C d_M_init_143 rfl (k := 1) rfl ?_
  refine x_iconst (v := -1) C d_M_init_144 (by decide) ?_
  refine astM_14 C rfl d_M_init_145 ?_
  refine x_iinc (v := (4 : Int32)) (lv' := [(1, .int (4 : Int32)), (0, .ref (h 0))]) C d_M_init_146 (k := 1) rfl (by decide) (by decide) rfl ?_
  refine x_goto (tgt := 126) C d_M_init_149 (by decide) ?_
  refine x_sub (lv' := [(0, .ref (h 0)), (1, .int (4 : Int32))]) [1, 0] rfl ?_
  exact at_st (u1 := pm_z 4) rfl k
theorem w_M_init_4 {γ : CX} {cI cZ : ClassId} {h : Nat → Nat} {cs sl : Nat} {rm : Room} (C : Cx γ b_M_init 2 none "PackagePickModel" rm [(cI, .int), (cZ, .boolean)]) (k : AtG γ (WM cI cZ h) 2 cs sl 126 [(0, .ref (h 0)), (1, .int (5 : Int32))] [] (pm_z 5)) : AtG γ (WM cI cZ h) 2 cs sl 126 [(0, .ref (h 0)), (1, .int (4 : Int32))] [] (pm_z 4) := by
  refine x_iload_n C d_M_init_126 rfl (k := 1) rfl ?_
  refine x_bipush (v := 7) C d_M_init_127 (by decide) ?_
  refine x_icmp_ge (tgt := 152) C d_M_init_129 (by decide) (fun hc => absurd hc (by decide)) (fun _ => ?_)
  refine x_aload_n C d_M_init_132 rfl (k := 0) rfl ?_
  refine gM_M_told C mf_M_47 d_M_init_133 ?_
  refine x_iload_n C d_M_init_136 rfl (k := 1) rfl ?_
  refine x_iconst (v := -1) C d_M_init_137 (by decide) ?_
  refine astM_13 C rfl d_M_init_138 ?_
  refine x_aload_n C d_M_init_139 rfl (k := 0) rfl ?_
  refine gM_M_kept C mf_M_50 d_M_init_140 ?_
  refine x_iload_n C d_M_init_143 rfl (k := 1) rfl ?_
  refine x_iconst (v := -1) C d_M_init_144 (by decide) ?_
  refine astM_14 C rfl d_M_init_145 ?_
  refine x_iinc (v := (5 : Int32)) (lv' := [(1, .int (5 : Int32)), (0, .ref (h 0))]) C d_M_init_146 (k := 1) rfl (by decide) (by decide) rfl ?_
  refine x_goto (tgt := 126) C d_M_init_149 (by decide) ?_
  refine x_sub (lv' := [(0, .ref (h 0)), (1, .int (5 : Int32))]) [1, 0] rfl ?_
  exact at_st (u1 := pm_z 5) rfl k
theorem w_M_init_5 {γ : CX} {cI cZ : ClassId} {h : Nat → Nat} {cs sl : Nat} {rm : Room} (C : Cx γ b_M_init 2 none "PackagePickModel" rm [(cI, .int), (cZ, .boolean)]) (k : AtG γ (WM cI cZ h) 2 cs sl 126 [(0, .ref (h 0)), (1, .int (6 : Int32))] [] (pm_z 6)) : AtG γ (WM cI cZ h) 2 cs sl 126 [(0, .ref (h 0)), (1, .int (5 : Int32))] [] (pm_z 5) := by
  refine x_iload_n C d_M_init_126 rfl (k := 1) rfl ?_
  refine x_bipush (v := 7) C d_M_init_127 (by decide) ?_
  refine x_icmp_ge (tgt := 152) C d_M_init_129 (by decide) (fun hc => absurd hc (by decide)) (fun _ => ?_)
  refine x_aload_n C d_M_init_132 rfl (k := 0) rfl ?_
  refine gM_M_told C mf_M_47 d_M_init_133 ?_
  refine x_iload_n C d_M_init_136 rfl (k := 1) rfl ?_
  refine x_iconst (v := -1) C d_M_init_137 (by decide) ?_
  refine astM_13 C rfl d_M_init_138 ?_
  refine x_aload_n C d_M_init_139 rfl (k := 0) rfl ?_
  refine gM_M_kept C mf_M_50 d_M_init_140 ?_
  refine x_iload_n C d_M_init_143 rfl (k := 1) rfl ?_
  refine x_iconst (v := -1) C d_M_init_144 (by decide) ?_
  refine astM_14 C rfl d_M_init_145 ?_
  refine x_iinc (v := (6 : Int32)) (lv' := [(1, .int (6 : Int32)), (0, .ref (h 0))]) C d_M_init_146 (k := 1) rfl (by decide) (by decide) rfl ?_
  refine x_goto (tgt := 126) C d_M_init_149 (by decide) ?_
  refine x_sub (lv' := [(0, .ref (h 0)), (1, .int (6 : Int32))]) [1, 0] rfl ?_
  exact at_st (u1 := pm_z 6) rfl k
theorem w_M_init_6 {γ : CX} {cI cZ : ClassId} {h : Nat → Nat} {cs sl : Nat} {rm : Room} (C : Cx γ b_M_init 2 none "PackagePickModel" rm [(cI, .int), (cZ, .boolean)]) (k : AtG γ (WM cI cZ h) 2 cs sl 126 [(0, .ref (h 0)), (1, .int (7 : Int32))] [] (pm_z 7)) : AtG γ (WM cI cZ h) 2 cs sl 126 [(0, .ref (h 0)), (1, .int (6 : Int32))] [] (pm_z 6) := by
  refine x_iload_n C d_M_init_126 rfl (k := 1) rfl ?_
  refine x_bipush (v := 7) C d_M_init_127 (by decide) ?_
  refine x_icmp_ge (tgt := 152) C d_M_init_129 (by decide) (fun hc => absurd hc (by decide)) (fun _ => ?_)
  refine x_aload_n C d_M_init_132 rfl (k := 0) rfl ?_
  refine gM_M_told C mf_M_47 d_M_init_133 ?_
  refine x_iload_n C d_M_init_136 rfl (k := 1) rfl ?_
  refine x_iconst (v := -1) C d_M_init_137 (by decide) ?_
  refine astM_13 C rfl d_M_init_138 ?_
  refine x_aload_n C d_M_init_139 rfl (k := 0) rfl ?_
  refine gM_M_kept C mf_M_50 d_M_init_140 ?_
  refine x_iload_n C d_M_init_143 rfl (k := 1) rfl ?_
  refine x_iconst (v := -1) C d_M_init_144 (by decide) ?_
  refine astM_14 C rfl d_M_init_145 ?_
  refine x_iinc (v := (7 : Int32)) (lv' := [(1, .int (7 : Int32)), (0, .ref (h 0))]) C d_M_init_146 (k := 1) rfl (by decide) (by decide) rfl ?_
  refine x_goto (tgt := 126) C d_M_init_149 (by decide) ?_
  refine x_sub (lv' := [(0, .ref (h 0)), (1, .int (7 : Int32))]) [1, 0] rfl ?_
  exact at_st (u1 := pm_z 7) rfl k
set_option maxHeartbeats 400000 in
theorem c_M_init {l : Launch} {D : va_G} {cI cZ : ClassId} {a : Nat} : CtN l y_M_init b_M_init 2 (rkJ 1 15 477) 15 477 D [(cI, .int), (cZ, .boolean)] [.ref a] [(a, .inr (4, [.int 0, .null, .null, .null, .null, .null, .int 0, .null, .null, .null, .int 0, .null, .null, .int 0, .int 0, .null, .null, .null, .null, .null, .int 0]))] (fun w => ∃ L : List Nat, w = WM cI cZ (hOf (a :: L)) (pm_z 7)) := by
  refine ct_ofN (by decide) (Nat.le_of_ble_eq_true rfl) (fun γ hl hD C hnm hQ => ?_)
  refine x_aload_n C d_M_init_0 rfl (k := 0) rfl ?_
  refine x_obj C (wb_t 412 (by decide +kernel) rfl) ⟨by decide, by decide⟩ d_M_init_1 ?_
  refine x_aload_n C d_M_init_4 rfl (k := 0) rfl ?_
  refine x_bipush (v := 28) C d_M_init_5 (by decide) ?_
  refine x_newa (atype := .boolean) (ty := .boolean) (cA := cZ) (t0 := 1) (N' := 28) (a0 := (28, .inl (fun _ => 0))) C (fun q1 => [(a, .inr (4, [.int 0, .null, .null, .null, .null, .null, .int 0, .null, .null, .null, .int 0, .null, .null, .int 0, .int 0, .null, .null, .null, .null, .null, .int 0])), (q1, .inl (cZ, 28, .inl (fun _ => 0)))]) (wb_t 477 (by decide +kernel) rfl) rfl rfl (fun _ h => by cases h) (ha_z 28) (by decide) (by decide) (by decide) ⟨by decide, by decide⟩ (fun _ => rfl) d_M_init_7 (fun q1 => ?_)
  refine x_putF (q0 := 0) (ci := 4) (Cn := RR_M) (T := FF_M) (N := 21) (ty0 := ft_M) (kf := 1) (ty := .array .boolean) C hnm ([(a, .inr (4, [.int 0, .ref q1, .null, .null, .null, .null, .int 0, .null, .null, .null, .int 0, .null, .null, .int 0, .int 0, .null, .null, .null, .null, .null, .int 0])), (q1, .inl (cZ, 28, .inl (fun _ => 0)))]) mu_M ft_M_ok fn_M rfl rfl (by decide) mf_M_7 rfl rfl (by decide +kernel) rfl rfl (Nat.le_of_ble_eq_true rfl) rfl d_M_init_9 ?_
  refine x_aload_n C d_M_init_12 rfl (k := 0) rfl ?_
  refine x_bipush (v := 28) C d_M_init_13 (by decide) ?_
  refine x_newa (atype := .int) (ty := .int) (cA := cI) (t0 := 0) (N' := 28) (a0 := (28, .inl (fun _ => 0))) C (fun q2 => [(a, .inr (4, [.int 0, .ref q1, .null, .null, .null, .null, .int 0, .null, .null, .null, .int 0, .null, .null, .int 0, .int 0, .null, .null, .null, .null, .null, .int 0])), (q1, .inl (cZ, 28, .inl (fun _ => 0))), (q2, .inl (cI, 28, .inl (fun _ => 0)))]) (wb_t 52 (by decide +kernel) rfl) rfl rfl (fun _ h => by cases h) (ha_i 28) (by decide) (by decide) (by decide) ⟨by decide, by decide⟩ (fun _ => rfl) d_M_init_15 (fun q2 => ?_)
  refine x_putF (q0 := 0) (ci := 4) (Cn := RR_M) (T := FF_M) (N := 21) (ty0 := ft_M) (kf := 2) (ty := .array .int) C hnm ([(a, .inr (4, [.int 0, .ref q1, .ref q2, .null, .null, .null, .int 0, .null, .null, .null, .int 0, .null, .null, .int 0, .int 0, .null, .null, .null, .null, .null, .int 0])), (q1, .inl (cZ, 28, .inl (fun _ => 0))), (q2, .inl (cI, 28, .inl (fun _ => 0)))]) mu_M ft_M_ok fn_M rfl rfl (by decide) mf_M_13 rfl rfl (by decide +kernel) rfl rfl (Nat.le_of_ble_eq_true rfl) rfl d_M_init_17 ?_
  refine x_aload_n C d_M_init_20 rfl (k := 0) rfl ?_
  refine x_bipush (v := 112) C d_M_init_21 (by decide) ?_
  refine x_newa (atype := .int) (ty := .int) (cA := cI) (t0 := 0) (N' := 112) (a0 := (112, .inl (fun _ => 0))) C (fun q3 => [(a, .inr (4, [.int 0, .ref q1, .ref q2, .null, .null, .null, .int 0, .null, .null, .null, .int 0, .null, .null, .int 0, .int 0, .null, .null, .null, .null, .null, .int 0])), (q1, .inl (cZ, 28, .inl (fun _ => 0))), (q2, .inl (cI, 28, .inl (fun _ => 0))), (q3, .inl (cI, 112, .inl (fun _ => 0)))]) (wb_t 52 (by decide +kernel) rfl) rfl rfl (fun _ h => by cases h) (ha_i 112) (by decide) (by decide) (by decide) ⟨by decide, by decide⟩ (fun _ => rfl) d_M_init_23 (fun q3 => ?_)
  refine x_putF (q0 := 0) (ci := 4) (Cn := RR_M) (T := FF_M) (N := 21) (ty0 := ft_M) (kf := 3) (ty := .array .int) C hnm ([(a, .inr (4, [.int 0, .ref q1, .ref q2, .ref q3, .null, .null, .int 0, .null, .null, .null, .int 0, .null, .null, .int 0, .int 0, .null, .null, .null, .null, .null, .int 0])), (q1, .inl (cZ, 28, .inl (fun _ => 0))), (q2, .inl (cI, 28, .inl (fun _ => 0))), (q3, .inl (cI, 112, .inl (fun _ => 0)))]) mu_M ft_M_ok fn_M rfl rfl (by decide) mf_M_17 rfl rfl (by decide +kernel) rfl rfl (Nat.le_of_ble_eq_true rfl) rfl d_M_init_25 ?_
  refine x_aload_n C d_M_init_28 rfl (k := 0) rfl ?_
  refine x_bipush (v := 112) C d_M_init_29 (by decide) ?_
  refine x_newa (atype := .int) (ty := .int) (cA := cI) (t0 := 0) (N' := 112) (a0 := (112, .inl (fun _ => 0))) C (fun q4 => [(a, .inr (4, [.int 0, .ref q1, .ref q2, .ref q3, .null, .null, .int 0, .null, .null, .null, .int 0, .null, .null, .int 0, .int 0, .null, .null, .null, .null, .null, .int 0])), (q1, .inl (cZ, 28, .inl (fun _ => 0))), (q2, .inl (cI, 28, .inl (fun _ => 0))), (q3, .inl (cI, 112, .inl (fun _ => 0))), (q4, .inl (cI, 112, .inl (fun _ => 0)))]) (wb_t 52 (by decide +kernel) rfl) rfl rfl (fun _ h => by cases h) (ha_i 112) (by decide) (by decide) (by decide) ⟨by decide, by decide⟩ (fun _ => rfl) d_M_init_31 (fun q4 => ?_)
  refine x_putF (q0 := 0) (ci := 4) (Cn := RR_M) (T := FF_M) (N := 21) (ty0 := ft_M) (kf := 4) (ty := .array .int) C hnm ([(a, .inr (4, [.int 0, .ref q1, .ref q2, .ref q3, .ref q4, .null, .int 0, .null, .null, .null, .int 0, .null, .null, .int 0, .int 0, .null, .null, .null, .null, .null, .int 0])), (q1, .inl (cZ, 28, .inl (fun _ => 0))), (q2, .inl (cI, 28, .inl (fun _ => 0))), (q3, .inl (cI, 112, .inl (fun _ => 0))), (q4, .inl (cI, 112, .inl (fun _ => 0)))]) mu_M ft_M_ok fn_M rfl rfl (by decide) mf_M_20 rfl rfl (by decide +kernel) rfl rfl (Nat.le_of_ble_eq_true rfl) rfl d_M_init_33 ?_
  refine x_aload_n C d_M_init_36 rfl (k := 0) rfl ?_
  refine x_bipush (v := 112) C d_M_init_37 (by decide) ?_
  refine x_newa (atype := .int) (ty := .int) (cA := cI) (t0 := 0) (N' := 112) (a0 := (112, .inl (fun _ => 0))) C (fun q5 => [(a, .inr (4, [.int 0, .ref q1, .ref q2, .ref q3, .ref q4, .null, .int 0, .null, .null, .null, .int 0, .null, .null, .int 0, .int 0, .null, .null, .null, .null, .null, .int 0])), (q1, .inl (cZ, 28, .inl (fun _ => 0))), (q2, .inl (cI, 28, .inl (fun _ => 0))), (q3, .inl (cI, 112, .inl (fun _ => 0))), (q4, .inl (cI, 112, .inl (fun _ => 0))), (q5, .inl (cI, 112, .inl (fun _ => 0)))]) (wb_t 52 (by decide +kernel) rfl) rfl rfl (fun _ h => by cases h) (ha_i 112) (by decide) (by decide) (by decide) ⟨by decide, by decide⟩ (fun _ => rfl) d_M_init_39 (fun q5 => ?_)
  refine x_putF (q0 := 0) (ci := 4) (Cn := RR_M) (T := FF_M) (N := 21) (ty0 := ft_M) (kf := 5) (ty := .array .int) C hnm ([(a, .inr (4, [.int 0, .ref q1, .ref q2, .ref q3, .ref q4, .ref q5, .int 0, .null, .null, .null, .int 0, .null, .null, .int 0, .int 0, .null, .null, .null, .null, .null, .int 0])), (q1, .inl (cZ, 28, .inl (fun _ => 0))), (q2, .inl (cI, 28, .inl (fun _ => 0))), (q3, .inl (cI, 112, .inl (fun _ => 0))), (q4, .inl (cI, 112, .inl (fun _ => 0))), (q5, .inl (cI, 112, .inl (fun _ => 0)))]) mu_M ft_M_ok fn_M rfl rfl (by decide) mf_M_23 rfl rfl (by decide +kernel) rfl rfl (Nat.le_of_ble_eq_true rfl) rfl d_M_init_41 ?_
  refine x_aload_n C d_M_init_44 rfl (k := 0) rfl ?_
  refine x_bipush (v := 6) C d_M_init_45 (by decide) ?_
  refine x_newa (atype := .int) (ty := .int) (cA := cI) (t0 := 0) (N' := 6) (a0 := (6, .inl (fun _ => 0))) C (fun q6 => [(a, .inr (4, [.int 0, .ref q1, .ref q2, .ref q3, .ref q4, .ref q5, .int 0, .null, .null, .null, .int 0, .null, .null, .int 0, .int 0, .null, .null, .null, .null, .null, .int 0])), (q1, .inl (cZ, 28, .inl (fun _ => 0))), (q2, .inl (cI, 28, .inl (fun _ => 0))), (q3, .inl (cI, 112, .inl (fun _ => 0))), (q4, .inl (cI, 112, .inl (fun _ => 0))), (q5, .inl (cI, 112, .inl (fun _ => 0))), (q6, .inl (cI, 6, .inl (fun _ => 0)))]) (wb_t 52 (by decide +kernel) rfl) rfl rfl (fun _ h => by cases h) (ha_i 6) (by decide) (by decide) (by decide) ⟨by decide, by decide⟩ (fun _ => rfl) d_M_init_47 (fun q6 => ?_)
  refine x_putF (q0 := 0) (ci := 4) (Cn := RR_M) (T := FF_M) (N := 21) (ty0 := ft_M) (kf := 7) (ty := .array .int) C hnm ([(a, .inr (4, [.int 0, .ref q1, .ref q2, .ref q3, .ref q4, .ref q5, .int 0, .ref q6, .null, .null, .int 0, .null, .null, .int 0, .int 0, .null, .null, .null, .null, .null, .int 0])), (q1, .inl (cZ, 28, .inl (fun _ => 0))), (q2, .inl (cI, 28, .inl (fun _ => 0))), (q3, .inl (cI, 112, .inl (fun _ => 0))), (q4, .inl (cI, 112, .inl (fun _ => 0))), (q5, .inl (cI, 112, .inl (fun _ => 0))), (q6, .inl (cI, 6, .inl (fun _ => 0)))]) mu_M ft_M_ok fn_M rfl rfl (by decide) mf_M_26 rfl rfl (by decide +kernel) rfl rfl (Nat.le_of_ble_eq_true rfl) rfl d_M_init_49 ?_
  refine x_aload_n C d_M_init_52 rfl (k := 0) rfl ?_
  refine x_bipush (v := 6) C d_M_init_53 (by decide) ?_
  refine x_newa (atype := .int) (ty := .int) (cA := cI) (t0 := 0) (N' := 6) (a0 := (6, .inl (fun _ => 0))) C (fun q7 => [(a, .inr (4, [.int 0, .ref q1, .ref q2, .ref q3, .ref q4, .ref q5, .int 0, .ref q6, .null, .null, .int 0, .null, .null, .int 0, .int 0, .null, .null, .null, .null, .null, .int 0])), (q1, .inl (cZ, 28, .inl (fun _ => 0))), (q2, .inl (cI, 28, .inl (fun _ => 0))), (q3, .inl (cI, 112, .inl (fun _ => 0))), (q4, .inl (cI, 112, .inl (fun _ => 0))), (q5, .inl (cI, 112, .inl (fun _ => 0))), (q6, .inl (cI, 6, .inl (fun _ => 0))), (q7, .inl (cI, 6, .inl (fun _ => 0)))]) (wb_t 52 (by decide +kernel) rfl) rfl rfl (fun _ h => by cases h) (ha_i 6) (by decide) (by decide) (by decide) ⟨by decide, by decide⟩ (fun _ => rfl) d_M_init_55 (fun q7 => ?_)
  refine x_putF (q0 := 0) (ci := 4) (Cn := RR_M) (T := FF_M) (N := 21) (ty0 := ft_M) (kf := 8) (ty := .array .int) C hnm ([(a, .inr (4, [.int 0, .ref q1, .ref q2, .ref q3, .ref q4, .ref q5, .int 0, .ref q6, .ref q7, .null, .int 0, .null, .null, .int 0, .int 0, .null, .null, .null, .null, .null, .int 0])), (q1, .inl (cZ, 28, .inl (fun _ => 0))), (q2, .inl (cI, 28, .inl (fun _ => 0))), (q3, .inl (cI, 112, .inl (fun _ => 0))), (q4, .inl (cI, 112, .inl (fun _ => 0))), (q5, .inl (cI, 112, .inl (fun _ => 0))), (q6, .inl (cI, 6, .inl (fun _ => 0))), (q7, .inl (cI, 6, .inl (fun _ => 0)))]) mu_M ft_M_ok fn_M rfl rfl (by decide) mf_M_29 rfl rfl (by decide +kernel) rfl rfl (Nat.le_of_ble_eq_true rfl) rfl d_M_init_57 ?_
  refine x_aload_n C d_M_init_60 rfl (k := 0) rfl ?_
  refine x_bipush (v := 6) C d_M_init_61 (by decide) ?_
  refine x_newa (atype := .int) (ty := .int) (cA := cI) (t0 := 0) (N' := 6) (a0 := (6, .inl (fun _ => 0))) C (fun q8 => [(a, .inr (4, [.int 0, .ref q1, .ref q2, .ref q3, .ref q4, .ref q5, .int 0, .ref q6, .ref q7, .null, .int 0, .null, .null, .int 0, .int 0, .null, .null, .null, .null, .null, .int 0])), (q1, .inl (cZ, 28, .inl (fun _ => 0))), (q2, .inl (cI, 28, .inl (fun _ => 0))), (q3, .inl (cI, 112, .inl (fun _ => 0))), (q4, .inl (cI, 112, .inl (fun _ => 0))), (q5, .inl (cI, 112, .inl (fun _ => 0))), (q6, .inl (cI, 6, .inl (fun _ => 0))), (q7, .inl (cI, 6, .inl (fun _ => 0))), (q8, .inl (cI, 6, .inl (fun _ => 0)))]) (wb_t 52 (by decide +kernel) rfl) rfl rfl (fun _ h => by cases h) (ha_i 6) (by decide) (by decide) (by decide) ⟨by decide, by decide⟩ (fun _ => rfl) d_M_init_63 (fun q8 => ?_)
  refine x_putF (q0 := 0) (ci := 4) (Cn := RR_M) (T := FF_M) (N := 21) (ty0 := ft_M) (kf := 9) (ty := .array .int) C hnm ([(a, .inr (4, [.int 0, .ref q1, .ref q2, .ref q3, .ref q4, .ref q5, .int 0, .ref q6, .ref q7, .ref q8, .int 0, .null, .null, .int 0, .int 0, .null, .null, .null, .null, .null, .int 0])), (q1, .inl (cZ, 28, .inl (fun _ => 0))), (q2, .inl (cI, 28, .inl (fun _ => 0))), (q3, .inl (cI, 112, .inl (fun _ => 0))), (q4, .inl (cI, 112, .inl (fun _ => 0))), (q5, .inl (cI, 112, .inl (fun _ => 0))), (q6, .inl (cI, 6, .inl (fun _ => 0))), (q7, .inl (cI, 6, .inl (fun _ => 0))), (q8, .inl (cI, 6, .inl (fun _ => 0)))]) mu_M ft_M_ok fn_M rfl rfl (by decide) mf_M_32 rfl rfl (by decide +kernel) rfl rfl (Nat.le_of_ble_eq_true rfl) rfl d_M_init_65 ?_
  refine x_aload_n C d_M_init_68 rfl (k := 0) rfl ?_
  refine x_bipush (v := 16) C d_M_init_69 (by decide) ?_
  refine x_newa (atype := .int) (ty := .int) (cA := cI) (t0 := 0) (N' := 16) (a0 := (16, .inl (fun _ => 0))) C (fun q9 => [(a, .inr (4, [.int 0, .ref q1, .ref q2, .ref q3, .ref q4, .ref q5, .int 0, .ref q6, .ref q7, .ref q8, .int 0, .null, .null, .int 0, .int 0, .null, .null, .null, .null, .null, .int 0])), (q1, .inl (cZ, 28, .inl (fun _ => 0))), (q2, .inl (cI, 28, .inl (fun _ => 0))), (q3, .inl (cI, 112, .inl (fun _ => 0))), (q4, .inl (cI, 112, .inl (fun _ => 0))), (q5, .inl (cI, 112, .inl (fun _ => 0))), (q6, .inl (cI, 6, .inl (fun _ => 0))), (q7, .inl (cI, 6, .inl (fun _ => 0))), (q8, .inl (cI, 6, .inl (fun _ => 0))), (q9, .inl (cI, 16, .inl (fun _ => 0)))]) (wb_t 52 (by decide +kernel) rfl) rfl rfl (fun _ h => by cases h) (ha_i 16) (by decide) (by decide) (by decide) ⟨by decide, by decide⟩ (fun _ => rfl) d_M_init_71 (fun q9 => ?_)
  refine x_putF (q0 := 0) (ci := 4) (Cn := RR_M) (T := FF_M) (N := 21) (ty0 := ft_M) (kf := 11) (ty := .array .int) C hnm ([(a, .inr (4, [.int 0, .ref q1, .ref q2, .ref q3, .ref q4, .ref q5, .int 0, .ref q6, .ref q7, .ref q8, .int 0, .ref q9, .null, .int 0, .int 0, .null, .null, .null, .null, .null, .int 0])), (q1, .inl (cZ, 28, .inl (fun _ => 0))), (q2, .inl (cI, 28, .inl (fun _ => 0))), (q3, .inl (cI, 112, .inl (fun _ => 0))), (q4, .inl (cI, 112, .inl (fun _ => 0))), (q5, .inl (cI, 112, .inl (fun _ => 0))), (q6, .inl (cI, 6, .inl (fun _ => 0))), (q7, .inl (cI, 6, .inl (fun _ => 0))), (q8, .inl (cI, 6, .inl (fun _ => 0))), (q9, .inl (cI, 16, .inl (fun _ => 0)))]) mu_M ft_M_ok fn_M rfl rfl (by decide) mf_M_35 rfl rfl (by decide +kernel) rfl rfl (Nat.le_of_ble_eq_true rfl) rfl d_M_init_73 ?_
  refine x_aload_n C d_M_init_76 rfl (k := 0) rfl ?_
  refine x_bipush (v := 16) C d_M_init_77 (by decide) ?_
  refine x_newa (atype := .int) (ty := .int) (cA := cI) (t0 := 0) (N' := 16) (a0 := (16, .inl (fun _ => 0))) C (fun q10 => [(a, .inr (4, [.int 0, .ref q1, .ref q2, .ref q3, .ref q4, .ref q5, .int 0, .ref q6, .ref q7, .ref q8, .int 0, .ref q9, .null, .int 0, .int 0, .null, .null, .null, .null, .null, .int 0])), (q1, .inl (cZ, 28, .inl (fun _ => 0))), (q2, .inl (cI, 28, .inl (fun _ => 0))), (q3, .inl (cI, 112, .inl (fun _ => 0))), (q4, .inl (cI, 112, .inl (fun _ => 0))), (q5, .inl (cI, 112, .inl (fun _ => 0))), (q6, .inl (cI, 6, .inl (fun _ => 0))), (q7, .inl (cI, 6, .inl (fun _ => 0))), (q8, .inl (cI, 6, .inl (fun _ => 0))), (q9, .inl (cI, 16, .inl (fun _ => 0))), (q10, .inl (cI, 16, .inl (fun _ => 0)))]) (wb_t 52 (by decide +kernel) rfl) rfl rfl (fun _ h => by cases h) (ha_i 16) (by decide) (by decide) (by decide) ⟨by decide, by decide⟩ (fun _ => rfl) d_M_init_79 (fun q10 => ?_)
  refine x_putF (q0 := 0) (ci := 4) (Cn := RR_M) (T := FF_M) (N := 21) (ty0 := ft_M) (kf := 12) (ty := .array .int) C hnm ([(a, .inr (4, [.int 0, .ref q1, .ref q2, .ref q3, .ref q4, .ref q5, .int 0, .ref q6, .ref q7, .ref q8, .int 0, .ref q9, .ref q10, .int 0, .int 0, .null, .null, .null, .null, .null, .int 0])), (q1, .inl (cZ, 28, .inl (fun _ => 0))), (q2, .inl (cI, 28, .inl (fun _ => 0))), (q3, .inl (cI, 112, .inl (fun _ => 0))), (q4, .inl (cI, 112, .inl (fun _ => 0))), (q5, .inl (cI, 112, .inl (fun _ => 0))), (q6, .inl (cI, 6, .inl (fun _ => 0))), (q7, .inl (cI, 6, .inl (fun _ => 0))), (q8, .inl (cI, 6, .inl (fun _ => 0))), (q9, .inl (cI, 16, .inl (fun _ => 0))), (q10, .inl (cI, 16, .inl (fun _ => 0)))]) mu_M ft_M_ok fn_M rfl rfl (by decide) mf_M_38 rfl rfl (by decide +kernel) rfl rfl (Nat.le_of_ble_eq_true rfl) rfl d_M_init_81 ?_
  refine x_aload_n C d_M_init_84 rfl (k := 0) rfl ?_
  refine x_bipush (v := 7) C d_M_init_85 (by decide) ?_
  refine x_newa (atype := .int) (ty := .int) (cA := cI) (t0 := 0) (N' := 7) (a0 := (7, .inl (fun _ => 0))) C (fun q11 => [(a, .inr (4, [.int 0, .ref q1, .ref q2, .ref q3, .ref q4, .ref q5, .int 0, .ref q6, .ref q7, .ref q8, .int 0, .ref q9, .ref q10, .int 0, .int 0, .null, .null, .null, .null, .null, .int 0])), (q1, .inl (cZ, 28, .inl (fun _ => 0))), (q2, .inl (cI, 28, .inl (fun _ => 0))), (q3, .inl (cI, 112, .inl (fun _ => 0))), (q4, .inl (cI, 112, .inl (fun _ => 0))), (q5, .inl (cI, 112, .inl (fun _ => 0))), (q6, .inl (cI, 6, .inl (fun _ => 0))), (q7, .inl (cI, 6, .inl (fun _ => 0))), (q8, .inl (cI, 6, .inl (fun _ => 0))), (q9, .inl (cI, 16, .inl (fun _ => 0))), (q10, .inl (cI, 16, .inl (fun _ => 0))), (q11, .inl (cI, 7, .inl (fun _ => 0)))]) (wb_t 52 (by decide +kernel) rfl) rfl rfl (fun _ h => by cases h) (ha_i 7) (by decide) (by decide) (by decide) ⟨by decide, by decide⟩ (fun _ => rfl) d_M_init_87 (fun q11 => ?_)
  refine x_putF (q0 := 0) (ci := 4) (Cn := RR_M) (T := FF_M) (N := 21) (ty0 := ft_M) (kf := 15) (ty := .array .int) C hnm ([(a, .inr (4, [.int 0, .ref q1, .ref q2, .ref q3, .ref q4, .ref q5, .int 0, .ref q6, .ref q7, .ref q8, .int 0, .ref q9, .ref q10, .int 0, .int 0, .ref q11, .null, .null, .null, .null, .int 0])), (q1, .inl (cZ, 28, .inl (fun _ => 0))), (q2, .inl (cI, 28, .inl (fun _ => 0))), (q3, .inl (cI, 112, .inl (fun _ => 0))), (q4, .inl (cI, 112, .inl (fun _ => 0))), (q5, .inl (cI, 112, .inl (fun _ => 0))), (q6, .inl (cI, 6, .inl (fun _ => 0))), (q7, .inl (cI, 6, .inl (fun _ => 0))), (q8, .inl (cI, 6, .inl (fun _ => 0))), (q9, .inl (cI, 16, .inl (fun _ => 0))), (q10, .inl (cI, 16, .inl (fun _ => 0))), (q11, .inl (cI, 7, .inl (fun _ => 0)))]) mu_M ft_M_ok fn_M rfl rfl (by decide) mf_M_41 rfl rfl (by decide +kernel) rfl rfl (Nat.le_of_ble_eq_true rfl) rfl d_M_init_89 ?_
  refine x_aload_n C d_M_init_92 rfl (k := 0) rfl ?_
  refine x_bipush (v := 7) C d_M_init_93 (by decide) ?_
  refine x_newa (atype := .boolean) (ty := .boolean) (cA := cZ) (t0 := 1) (N' := 7) (a0 := (7, .inl (fun _ => 0))) C (fun q12 => [(a, .inr (4, [.int 0, .ref q1, .ref q2, .ref q3, .ref q4, .ref q5, .int 0, .ref q6, .ref q7, .ref q8, .int 0, .ref q9, .ref q10, .int 0, .int 0, .ref q11, .null, .null, .null, .null, .int 0])), (q1, .inl (cZ, 28, .inl (fun _ => 0))), (q2, .inl (cI, 28, .inl (fun _ => 0))), (q3, .inl (cI, 112, .inl (fun _ => 0))), (q4, .inl (cI, 112, .inl (fun _ => 0))), (q5, .inl (cI, 112, .inl (fun _ => 0))), (q6, .inl (cI, 6, .inl (fun _ => 0))), (q7, .inl (cI, 6, .inl (fun _ => 0))), (q8, .inl (cI, 6, .inl (fun _ => 0))), (q9, .inl (cI, 16, .inl (fun _ => 0))), (q10, .inl (cI, 16, .inl (fun _ => 0))), (q11, .inl (cI, 7, .inl (fun _ => 0))), (q12, .inl (cZ, 7, .inl (fun _ => 0)))]) (wb_t 477 (by decide +kernel) rfl) rfl rfl (fun _ h => by cases h) (ha_z 7) (by decide) (by decide) (by decide) ⟨by decide, by decide⟩ (fun _ => rfl) d_M_init_95 (fun q12 => ?_)
  refine x_putF (q0 := 0) (ci := 4) (Cn := RR_M) (T := FF_M) (N := 21) (ty0 := ft_M) (kf := 16) (ty := .array .boolean) C hnm ([(a, .inr (4, [.int 0, .ref q1, .ref q2, .ref q3, .ref q4, .ref q5, .int 0, .ref q6, .ref q7, .ref q8, .int 0, .ref q9, .ref q10, .int 0, .int 0, .ref q11, .ref q12, .null, .null, .null, .int 0])), (q1, .inl (cZ, 28, .inl (fun _ => 0))), (q2, .inl (cI, 28, .inl (fun _ => 0))), (q3, .inl (cI, 112, .inl (fun _ => 0))), (q4, .inl (cI, 112, .inl (fun _ => 0))), (q5, .inl (cI, 112, .inl (fun _ => 0))), (q6, .inl (cI, 6, .inl (fun _ => 0))), (q7, .inl (cI, 6, .inl (fun _ => 0))), (q8, .inl (cI, 6, .inl (fun _ => 0))), (q9, .inl (cI, 16, .inl (fun _ => 0))), (q10, .inl (cI, 16, .inl (fun _ => 0))), (q11, .inl (cI, 7, .inl (fun _ => 0))), (q12, .inl (cZ, 7, .inl (fun _ => 0)))]) mu_M ft_M_ok fn_M rfl rfl (by decide) mf_M_44 rfl rfl (by decide +kernel) rfl rfl (Nat.le_of_ble_eq_true rfl) rfl d_M_init_97 ?_
  refine x_aload_n C d_M_init_100 rfl (k := 0) rfl ?_
  refine x_bipush (v := 7) C d_M_init_101 (by decide) ?_
  refine x_newa (atype := .int) (ty := .int) (cA := cI) (t0 := 0) (N' := 7) (a0 := (7, .inl (fun _ => 0))) C (fun q13 => [(a, .inr (4, [.int 0, .ref q1, .ref q2, .ref q3, .ref q4, .ref q5, .int 0, .ref q6, .ref q7, .ref q8, .int 0, .ref q9, .ref q10, .int 0, .int 0, .ref q11, .ref q12, .null, .null, .null, .int 0])), (q1, .inl (cZ, 28, .inl (fun _ => 0))), (q2, .inl (cI, 28, .inl (fun _ => 0))), (q3, .inl (cI, 112, .inl (fun _ => 0))), (q4, .inl (cI, 112, .inl (fun _ => 0))), (q5, .inl (cI, 112, .inl (fun _ => 0))), (q6, .inl (cI, 6, .inl (fun _ => 0))), (q7, .inl (cI, 6, .inl (fun _ => 0))), (q8, .inl (cI, 6, .inl (fun _ => 0))), (q9, .inl (cI, 16, .inl (fun _ => 0))), (q10, .inl (cI, 16, .inl (fun _ => 0))), (q11, .inl (cI, 7, .inl (fun _ => 0))), (q12, .inl (cZ, 7, .inl (fun _ => 0))), (q13, .inl (cI, 7, .inl (fun _ => 0)))]) (wb_t 52 (by decide +kernel) rfl) rfl rfl (fun _ h => by cases h) (ha_i 7) (by decide) (by decide) (by decide) ⟨by decide, by decide⟩ (fun _ => rfl) d_M_init_103 (fun q13 => ?_)
  refine x_putF (q0 := 0) (ci := 4) (Cn := RR_M) (T := FF_M) (N := 21) (ty0 := ft_M) (kf := 17) (ty := .array .int) C hnm ([(a, .inr (4, [.int 0, .ref q1, .ref q2, .ref q3, .ref q4, .ref q5, .int 0, .ref q6, .ref q7, .ref q8, .int 0, .ref q9, .ref q10, .int 0, .int 0, .ref q11, .ref q12, .ref q13, .null, .null, .int 0])), (q1, .inl (cZ, 28, .inl (fun _ => 0))), (q2, .inl (cI, 28, .inl (fun _ => 0))), (q3, .inl (cI, 112, .inl (fun _ => 0))), (q4, .inl (cI, 112, .inl (fun _ => 0))), (q5, .inl (cI, 112, .inl (fun _ => 0))), (q6, .inl (cI, 6, .inl (fun _ => 0))), (q7, .inl (cI, 6, .inl (fun _ => 0))), (q8, .inl (cI, 6, .inl (fun _ => 0))), (q9, .inl (cI, 16, .inl (fun _ => 0))), (q10, .inl (cI, 16, .inl (fun _ => 0))), (q11, .inl (cI, 7, .inl (fun _ => 0))), (q12, .inl (cZ, 7, .inl (fun _ => 0))), (q13, .inl (cI, 7, .inl (fun _ => 0)))]) mu_M ft_M_ok fn_M rfl rfl (by decide) mf_M_47 rfl rfl (by decide +kernel) rfl rfl (Nat.le_of_ble_eq_true rfl) rfl d_M_init_105 ?_
  refine x_aload_n C d_M_init_108 rfl (k := 0) rfl ?_
  refine x_bipush (v := 7) C d_M_init_109 (by decide) ?_
  refine x_newa (atype := .int) (ty := .int) (cA := cI) (t0 := 0) (N' := 7) (a0 := (7, .inl (fun _ => 0))) C (fun q14 => [(a, .inr (4, [.int 0, .ref q1, .ref q2, .ref q3, .ref q4, .ref q5, .int 0, .ref q6, .ref q7, .ref q8, .int 0, .ref q9, .ref q10, .int 0, .int 0, .ref q11, .ref q12, .ref q13, .null, .null, .int 0])), (q1, .inl (cZ, 28, .inl (fun _ => 0))), (q2, .inl (cI, 28, .inl (fun _ => 0))), (q3, .inl (cI, 112, .inl (fun _ => 0))), (q4, .inl (cI, 112, .inl (fun _ => 0))), (q5, .inl (cI, 112, .inl (fun _ => 0))), (q6, .inl (cI, 6, .inl (fun _ => 0))), (q7, .inl (cI, 6, .inl (fun _ => 0))), (q8, .inl (cI, 6, .inl (fun _ => 0))), (q9, .inl (cI, 16, .inl (fun _ => 0))), (q10, .inl (cI, 16, .inl (fun _ => 0))), (q11, .inl (cI, 7, .inl (fun _ => 0))), (q12, .inl (cZ, 7, .inl (fun _ => 0))), (q13, .inl (cI, 7, .inl (fun _ => 0))), (q14, .inl (cI, 7, .inl (fun _ => 0)))]) (wb_t 52 (by decide +kernel) rfl) rfl rfl (fun _ h => by cases h) (ha_i 7) (by decide) (by decide) (by decide) ⟨by decide, by decide⟩ (fun _ => rfl) d_M_init_111 (fun q14 => ?_)
  refine x_putF (q0 := 0) (ci := 4) (Cn := RR_M) (T := FF_M) (N := 21) (ty0 := ft_M) (kf := 18) (ty := .array .int) C hnm ([(a, .inr (4, [.int 0, .ref q1, .ref q2, .ref q3, .ref q4, .ref q5, .int 0, .ref q6, .ref q7, .ref q8, .int 0, .ref q9, .ref q10, .int 0, .int 0, .ref q11, .ref q12, .ref q13, .ref q14, .null, .int 0])), (q1, .inl (cZ, 28, .inl (fun _ => 0))), (q2, .inl (cI, 28, .inl (fun _ => 0))), (q3, .inl (cI, 112, .inl (fun _ => 0))), (q4, .inl (cI, 112, .inl (fun _ => 0))), (q5, .inl (cI, 112, .inl (fun _ => 0))), (q6, .inl (cI, 6, .inl (fun _ => 0))), (q7, .inl (cI, 6, .inl (fun _ => 0))), (q8, .inl (cI, 6, .inl (fun _ => 0))), (q9, .inl (cI, 16, .inl (fun _ => 0))), (q10, .inl (cI, 16, .inl (fun _ => 0))), (q11, .inl (cI, 7, .inl (fun _ => 0))), (q12, .inl (cZ, 7, .inl (fun _ => 0))), (q13, .inl (cI, 7, .inl (fun _ => 0))), (q14, .inl (cI, 7, .inl (fun _ => 0)))]) mu_M ft_M_ok fn_M rfl rfl (by decide) mf_M_50 rfl rfl (by decide +kernel) rfl rfl (Nat.le_of_ble_eq_true rfl) rfl d_M_init_113 ?_
  refine x_aload_n C d_M_init_116 rfl (k := 0) rfl ?_
  refine x_bipush (v := 7) C d_M_init_117 (by decide) ?_
  refine x_newa (atype := .int) (ty := .int) (cA := cI) (t0 := 0) (N' := 7) (a0 := (7, .inl (fun _ => 0))) C (fun q15 => [(a, .inr (4, [.int 0, .ref q1, .ref q2, .ref q3, .ref q4, .ref q5, .int 0, .ref q6, .ref q7, .ref q8, .int 0, .ref q9, .ref q10, .int 0, .int 0, .ref q11, .ref q12, .ref q13, .ref q14, .null, .int 0])), (q1, .inl (cZ, 28, .inl (fun _ => 0))), (q2, .inl (cI, 28, .inl (fun _ => 0))), (q3, .inl (cI, 112, .inl (fun _ => 0))), (q4, .inl (cI, 112, .inl (fun _ => 0))), (q5, .inl (cI, 112, .inl (fun _ => 0))), (q6, .inl (cI, 6, .inl (fun _ => 0))), (q7, .inl (cI, 6, .inl (fun _ => 0))), (q8, .inl (cI, 6, .inl (fun _ => 0))), (q9, .inl (cI, 16, .inl (fun _ => 0))), (q10, .inl (cI, 16, .inl (fun _ => 0))), (q11, .inl (cI, 7, .inl (fun _ => 0))), (q12, .inl (cZ, 7, .inl (fun _ => 0))), (q13, .inl (cI, 7, .inl (fun _ => 0))), (q14, .inl (cI, 7, .inl (fun _ => 0))), (q15, .inl (cI, 7, .inl (fun _ => 0)))]) (wb_t 52 (by decide +kernel) rfl) rfl rfl (fun _ h => by cases h) (ha_i 7) (by decide) (by decide) (by decide) ⟨by decide, by decide⟩ (fun _ => rfl) d_M_init_119 (fun q15 => ?_)
  refine x_putF (q0 := 0) (ci := 4) (Cn := RR_M) (T := FF_M) (N := 21) (ty0 := ft_M) (kf := 19) (ty := .array .int) C hnm ([(a, .inr (4, [.int 0, .ref q1, .ref q2, .ref q3, .ref q4, .ref q5, .int 0, .ref q6, .ref q7, .ref q8, .int 0, .ref q9, .ref q10, .int 0, .int 0, .ref q11, .ref q12, .ref q13, .ref q14, .ref q15, .int 0])), (q1, .inl (cZ, 28, .inl (fun _ => 0))), (q2, .inl (cI, 28, .inl (fun _ => 0))), (q3, .inl (cI, 112, .inl (fun _ => 0))), (q4, .inl (cI, 112, .inl (fun _ => 0))), (q5, .inl (cI, 112, .inl (fun _ => 0))), (q6, .inl (cI, 6, .inl (fun _ => 0))), (q7, .inl (cI, 6, .inl (fun _ => 0))), (q8, .inl (cI, 6, .inl (fun _ => 0))), (q9, .inl (cI, 16, .inl (fun _ => 0))), (q10, .inl (cI, 16, .inl (fun _ => 0))), (q11, .inl (cI, 7, .inl (fun _ => 0))), (q12, .inl (cZ, 7, .inl (fun _ => 0))), (q13, .inl (cI, 7, .inl (fun _ => 0))), (q14, .inl (cI, 7, .inl (fun _ => 0))), (q15, .inl (cI, 7, .inl (fun _ => 0)))]) mu_M ft_M_ok fn_M rfl rfl (by decide) mf_M_53 rfl rfl (by decide +kernel) rfl rfl (Nat.le_of_ble_eq_true rfl) rfl d_M_init_121 ?_
  refine x_iconst (v := 0) C d_M_init_124 (by decide) ?_
  refine x_istore_n (lv' := [(1, .int 0), (0, .ref a)]) C d_M_init_125 rfl (by decide) rfl ?_
  refine x_sub (lv' := [(0, .ref a), (1, .int 0)]) [1, 0] rfl ?_
  refine at_to (wf := WM cI cZ (hOf [a, q1, q2, q3, q4, q5, q6, q7, q8, q9, q10, q11, q12, q13, q14, q15])) (u := pm_z 0) rfl ?_
  refine w_M_init_0 (h := (hOf [a, q1, q2, q3, q4, q5, q6, q7, q8, q9, q10, q11, q12, q13, q14, q15])) C ?_
  refine w_M_init_1 (h := (hOf [a, q1, q2, q3, q4, q5, q6, q7, q8, q9, q10, q11, q12, q13, q14, q15])) C ?_
  refine w_M_init_2 (h := (hOf [a, q1, q2, q3, q4, q5, q6, q7, q8, q9, q10, q11, q12, q13, q14, q15])) C ?_
  refine w_M_init_3 (h := (hOf [a, q1, q2, q3, q4, q5, q6, q7, q8, q9, q10, q11, q12, q13, q14, q15])) C ?_
  refine w_M_init_4 (h := (hOf [a, q1, q2, q3, q4, q5, q6, q7, q8, q9, q10, q11, q12, q13, q14, q15])) C ?_
  refine w_M_init_5 (h := (hOf [a, q1, q2, q3, q4, q5, q6, q7, q8, q9, q10, q11, q12, q13, q14, q15])) C ?_
  refine w_M_init_6 (h := (hOf [a, q1, q2, q3, q4, q5, q6, q7, q8, q9, q10, q11, q12, q13, q14, q15])) C ?_
  refine x_iload_n C d_M_init_126 rfl (k := 1) rfl ?_
  refine x_bipush (v := 7) C d_M_init_127 (by decide) ?_
  refine x_icmp_ge (tgt := 152) C d_M_init_129 (by decide) (fun _ => ?_) (fun hc => absurd (by decide) hc)
  refine at_id rfl ?_
  exact x_vretN C hQ (WM cI cZ (hOf [a, q1, q2, q3, q4, q5, q6, q7, q8, q9, q10, q11, q12, q13, q14, q15]) (pm_z 7)) [0, 1, 2, 3, 4, 5, 6, 7, 8, 9, 10, 11, 12, 13, 14, 15] rfl rfl ⟨_, rfl⟩ d_M_init_152
