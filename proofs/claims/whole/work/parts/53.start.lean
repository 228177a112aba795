/-! THE LAW'S START -/
theorem sq_of {n d : String} {A : Array Value} {U : State} (h1 : (Cond.laysStatic tW n d).before A U = true) (h2 : (Cond.isRef (.static tW n d)).before A U = true) : sq_S n d U.heap.size U U.heap := by
  obtain ⟨c, k, i, f, a, cell, g1, g2, g3, g4, g5, g6, g7, g8, g9⟩ := Cond.laysStatic_spec h1
  have hv : cell.slots[f.slot]? = some cell.slots[f.slot] := Array.getElem?_eq_getElem g8
  have ev : (Term.static tW n d).eval A U none [] U = some cell.slots[f.slot] := by
    simp [Term.eval, State.fieldNamed?, g2, g3, g4, g5, g6, hv]
  refine ⟨c, k, i, f, a, cell, _, g1, g2, g3, g4, g5, g6, g7, g8, g9, hv, ?_, (Array.getElem?_eq_some_iff.mp g5).1⟩
  simp only [Cond.before, Cond.holds, Cond.value, ev] at h2
  generalize cell.slots[f.slot] = v at h2
  cases v <;> simp_all [Value.isRef]
theorem str_of {own tx : String} {k : Nat} {A : Array Value} {U : State} (h1 : (Cond.stringRef own k tx).before A U = true) (h2 : (Cond.exactly (.string own k) "java/lang/String").before A U = true) : ∃ a, vk_R own k tx a U := by
  cases hv : (Term.string own k).eval A U none [] U with
  | none => simp [Cond.before, Cond.holds, Cond.value, hv] at h2
  | some v =>
    cases v with
    | ref a => exact ⟨a, vk_R.of h1 hv⟩
    | _ => cases hf : U.vm.findClass "java/lang/String" <;> simp [Cond.before, Cond.holds, Cond.value, hv, hf] at h2
theorem arr_i {A : Array Value} {s : State} (h : (Cond.arrayClass .int).before A s = true) : ∃ c, ArrOfT s c .int ∧ va_RA s c .int := by
  obtain ⟨cA, kA, comp, hf, hk, hkind⟩ := Cond.arrayClass_spec h
  exact ⟨cA, fun n z => ⟨fun k h => (by cases h), kA, hk, comp, hkind⟩, hf⟩
theorem arr_z {A : Array Value} {s : State} (h : (Cond.arrayClass .boolean).before A s = true) : ∃ c, ArrOfT s c .boolean ∧ va_RA s c .boolean := by
  obtain ⟨cA, kA, comp, hf, hk, hkind⟩ := Cond.arrayClass_spec h
  exact ⟨cA, fun n z => ⟨fun k h => (by cases h), kA, hk, comp, hkind⟩, hf⟩
theorem arr_j {A : Array Value} {s : State} (h : (Cond.arrayClass .long).before A s = true) : ∃ c, ArrOfT s c .long ∧ va_RA s c .long := by
  obtain ⟨cA, kA, comp, hf, hk, hkind⟩ := Cond.arrayClass_spec h
  exact ⟨cA, fun n z => ⟨fun k h => (by cases h), kA, hk, comp, hkind⟩, hf⟩
theorem lw_kn {A : Array Value} {s : State} (hwb : ∀ w ∈ WB, w.before A s = true) : ∃ (D : va_G) (cI cZ cJ : ClassId), va_K D vwCl (tyL cI cZ cJ) s := by
  obtain ⟨c0, i0, K0⟩ := u_known (C := RR_C) (T := FF_C) (N := 6) (n := 6) hwb mu_C (hwb _ (wb_t 23 (by decide +kernel) rfl))
  obtain ⟨c1, i1, K1⟩ := u_known (C := RR_T) (T := FF_T) (N := 7) (n := 7) hwb mu_T (hwb _ (wb_t 73 (by decide +kernel) rfl))
  obtain ⟨c2, i2, K2⟩ := u_known (C := RR_W) (T := FF_W) (N := 3) (n := 3) hwb mu_W (hwb _ (wb_t 54 (by decide +kernel) rfl))
  obtain ⟨c3, i3, K3⟩ := u_known (C := RR_X) (T := FF_X) (N := 6) (n := 6) hwb mu_X (hwb _ (wb_t 15 (by decide +kernel) rfl))
  obtain ⟨c4, i4, K4⟩ := u_known (C := RR_M) (T := FF_M) (N := 21) (n := 21) hwb mu_M (hwb _ (wb_t 408 (by decide +kernel) rfl))
  obtain ⟨cI, gI⟩ := arr_i (hwb _ (wb_t 52 (by decide +kernel) rfl))
  obtain ⟨cZ, gZ⟩ := arr_z (hwb _ (wb_t 477 (by decide +kernel) rfl))
  obtain ⟨cJ, gJ⟩ := arr_j (hwb _ (wb_t 593 (by decide +kernel) rfl))
  refine ⟨(fun c => match c with | 0 => c0 | 1 => c1 | 2 => c2 | 3 => c3 | _ => c4, fun c => match c with | 0 => i0 | 1 => i1 | 2 => i2 | 3 => i3 | _ => i4), cI, cZ, cJ, fun c q hq => ?_, fun k q hk => ?_⟩
  · match c, hq with
    | 0, hq => cases hq; exact K0
    | 1, hq => cases hq; exact K1
    | 2, hq => cases hq; exact K2
    | 3, hq => cases hq; exact K3
    | 4, hq => cases hq; exact K4
    | c + 5, hq => cases hq
  · match k, hk with
    | 0, hk => cases hk; exact gI
    | 1, hk => cases hk; exact gZ
    | 2, hk => cases hk; exact gJ
    | k + 3, hk => cases hk
theorem lw_nst {A : Array Value} {s : State} (hts : ∀ w ∈ lw_tbl, w.before A s = true) : Nst s := by
  have h : ∀ q ∈ nestQ, Cond.methodLinkNest q.1 q.2.1 q.2.2 "PackagePick" ∈ lw_tbl := by decide +kernel
  exact fun q hq => va_Nw.of rfl (hts _ (h q hq))
theorem tb_t {w : Cond} (i : Nat) (h : tables_1[i]? = some w) : w ∈ lw_tbl := List.mem_append_right _ (List.mem_of_getElem? h)
theorem lw_thr {b : Addr} {s : State} (hts : ∀ w ∈ lw_tbl, w.before #[Value.ref b] s = true) (hgv : (Jvm.Cond.and given_1 narrow_1).before #[Value.ref b] s = true) : Thr s.heap.size s ∧ Tcs s := by
  have hs := flat_of_before _ hgv
  refine ⟨⟨sq_of (hts _ (tb_t 321 (by decide +kernel))) (hs _ (by decide +kernel)), sq_of (hts _ (tb_t 323 (by decide +kernel))) (hs _ (by decide +kernel)), ⟨va_Nw.of rfl (hts _ (tb_t 298 (by decide +kernel))), va_Nw.of rfl (hts _ (tb_t 300 (by decide +kernel))), va_Nw.of rfl (hts _ (tb_t 302 (by decide +kernel)))⟩, fun q hq => ?_⟩,
    va_Nc.of (hs (.not (.castable nISE nIAE)) (by decide +kernel)), va_Nw.of rfl (hts _ (tb_t 296 (by decide +kernel))), va_Nw.of rfl (hts _ (tb_t 368 (by decide +kernel))), va_Nw.of rfl (hts _ (tb_t 393 (by decide +kernel)))⟩
  simp only [thR, List.mem_cons, List.not_mem_nil, or_false] at hq
  rcases hq with rfl | rfl | rfl
  · exact str_of (hts (.stringRef "PackagePick" 78 "there is no such aim") (tb_t 335 (by decide +kernel))) (hs (.exactly (.string "PackagePick" 78) "java/lang/String") (by decide +kernel))
  · exact str_of (hts (.stringRef "PackagePick" 96 "there is no choice") (tb_t 375 (by decide +kernel))) (hs (.exactly (.string "PackagePick" 96) "java/lang/String") (by decide +kernel))
  · exact str_of (hts (.stringRef "PackagePick" 130 "the core has no such need") (tb_t 400 (by decide +kernel))) (hs (.exactly (.string "PackagePick" 130) "java/lang/String") (by decide +kernel))
theorem ha_j (N : Nat) : ∀ cA : ClassId, vp_cell cA (N, .inr (.inl (fun _ => 0))) = arrV cA N (fun _ => defaultValue .long) := fun _ => rfl
set_option maxHeartbeats 1000000 in
theorem law_begin {γ : CX} {cI cZ cJ : ClassId} {b L : Nat} {xs : Nat → Int32} (C : Cx γ code 7 ret "PackagePickLaw" room_1 (tyL cI cZ cJ)) (LC : LawC γ b L xs) {R : PS → PS → Prop} (hversion : Sim_version R) (hneed : Sim_need R) (hdrop : Sim_drop R) (hban : Sim_ban R) (hask : Sim_ask R) (htake : Sim_take R) (hkeep : Sim_keep R) (hchosen : Sim_chosen R) (hmany : Sim_many R) (hcan : Sim_can R) (hcount : Sim_count R) (hsolve : Sim_solve R) (hcore : Sim_core R) (h0 : R px_u0 (pm_z 7)) (hL : L ≤ 3072) (hQ : γQ γ = lw_Z (γb γ) (γa γ) (γs γ)) (hal : γa γ = #[.ref b]) : AtG γ wid 7 0 0 0 [(0, .ref b)] [] [] := by
  refine x_new (ci := 3) (Cn := RR_X) (T := FF_X) (N := 6) (ty0 := ft_X) (fs := [.null, .null, .null, .int 0, .int 0, .int 0]) C (fun q1 => [(q1, .inr (3, [.null, .null, .null, .int 0, .int 0, .int 0]))]) mu_X ft_X_ok (wb_t 14 (by decide +kernel) rfl) (wb_t 15 (by decide +kernel) rfl) mi_PackagePick rfl (fun j hj => match j, hj with | 0, _ => rfl | 1, _ => rfl | 2, _ => rfl | 3, _ => rfl | 4, _ => rfl | 5, _ => rfl | j + 6, h => absurd h (by omega)) ⟨by decide, by decide⟩ (fun _ => rfl) d_L_law_0 (fun q1 => ?_)
  refine x_dup C d_L_law_3 rfl ?_
  refine x_callNs (rest := [.ref q1]) (isC := [0]) (isR := []) (isT := [0]) (wr := []) C (c_X_init (cI := cI) (a := q1)) rfl kc_X_init rfl ⟨⟨rfl, rfl⟩, by decide, by decide⟩ ⟨by decide, by decide⟩ mm_L_22 ms_X_init rfl rfl ⟨rfl, rfl, by decide⟩ (Nat.le_of_ble_eq_true rfl) d_L_law_4 (fun w1 hw1 => ?_)
  obtain ⟨L1, rfl⟩ := hw1
  refine x_astore_n (lv' := [(1, .ref q1), (0, .ref b)]) C d_L_law_7 rfl (by decide) rfl ?_
  refine x_new (ci := 4) (Cn := RR_M) (T := FF_M) (N := 21) (ty0 := ft_M) (fs := [.int 0, .null, .null, .null, .null, .null, .int 0, .null, .null, .null, .int 0, .null, .null, .int 0, .int 0, .null, .null, .null, .null, .null, .int 0]) C (fun q2 => WX cI (hOf (q1 :: L1)) px_u0 ++ [(q2, .inr (4, [.int 0, .null, .null, .null, .null, .null, .int 0, .null, .null, .null, .int 0, .null, .null, .int 0, .int 0, .null, .null, .null, .null, .null, .int 0]))]) mu_M ft_M_ok (wb_t 407 (by decide +kernel) rfl) (wb_t 408 (by decide +kernel) rfl) mi_PackagePickModel rfl (fun j hj => match j, hj with | 0, _ => rfl | 1, _ => rfl | 2, _ => rfl | 3, _ => rfl | 4, _ => rfl | 5, _ => rfl | 6, _ => rfl | 7, _ => rfl | 8, _ => rfl | 9, _ => rfl | 10, _ => rfl | 11, _ => rfl | 12, _ => rfl | 13, _ => rfl | 14, _ => rfl | 15, _ => rfl | 16, _ => rfl | 17, _ => rfl | 18, _ => rfl | 19, _ => rfl | 20, _ => rfl | j + 21, h => absurd h (by omega)) ⟨by decide, by decide⟩ (fun _ => rfl) d_L_law_8 (fun q2 => ?_)
  refine x_dup C d_L_law_11 rfl ?_
  refine x_callNs (rest := [.ref q2]) (isC := [10]) (isR := [0, 1, 2, 3, 4, 5, 6, 7, 8, 9]) (isT := [0, 1]) (wr := WX cI (hOf (q1 :: L1)) px_u0) C (c_M_init (cI := cI) (cZ := cZ) (a := q2)) rfl kc_M_init rfl ⟨⟨rfl, rfl⟩, by decide, by decide⟩ ⟨by decide, by decide⟩ mm_L_25 ms_M_init rfl rfl ⟨rfl, rfl, by decide⟩ (Nat.le_of_ble_eq_true rfl) d_L_law_12 (fun w2 hw2 => ?_)
  obtain ⟨L2, rfl⟩ := hw2
  refine x_astore_n (lv' := [(2, .ref q2), (1, .ref q1), (0, .ref b)]) C d_L_law_15 rfl (by decide) rfl ?_
  refine x_iconst (v := 1) C d_L_law_16 (by decide) ?_
  refine x_newa (atype := .long) (ty := .long) (cA := cJ) (t0 := 2) (N' := 1) (a0 := (1, .inr (.inl (fun _ => 0)))) C (fun q3 => WL cI cZ cJ (hOf (q1 :: L1)) (hOf (q2 :: L2)) q3 (px_u0, pm_z 7, fun _ => 0)) (wb_t 593 (by decide +kernel) rfl) rfl rfl (fun _ h => by cases h) (ha_j 1) (by decide) (by decide) (by decide) ⟨by decide, by decide⟩ (fun _ => rfl) d_L_law_17 (fun q3 => ?_)
  refine x_astore_n (lv' := [(3, .ref q3), (2, .ref q2), (1, .ref q1), (0, .ref b)]) C d_L_law_19 rfl (by decide) rfl ?_
  refine x_iconst (v := 0) C d_L_law_20 (by decide) ?_
  refine x_istore (lv' := [(4, .int 0), (3, .ref q3), (2, .ref q2), (1, .ref q1), (0, .ref b)]) C d_L_law_21 (by decide) rfl ?_
  refine x_sub (lv' := lv0 b q1 q2 q3 0) [4, 3, 2, 1, 0] rfl ?_
  refine at_to (wf := WL cI cZ cJ (hOf (q1 :: L1)) (hOf (q2 :: L2)) q3) (u := (px_u0, pm_z 7, fun _ => 0)) rfl ?_
  exact law_loop (hX := hOf (q1 :: L1)) (hM := hOf (q2 :: L2)) (q := q3) C LC (hversion) (hneed) (hdrop) (hban) (hask) (htake) (hkeep) (hchosen) (hmany) (hcan) (hcount) (hsolve) (hcore) hL hQ hal (L / 6 - 0) 0 px_u0 (pm_z 7) (fun _ => 0) rfl (by decide) h0
theorem whole_start0 {p : Program} {e : Env} {s : State} {m : MethodId} {below : List Frame} {meth : Method} {c : Code} (l : Launch) (hfl : l.flags = pinnedFlags ++ [noTraceFlag]) {R : PS → PS → Prop} (hversion : Sim_version R) (hneed : Sim_need R) (hdrop : Sim_drop R) (hban : Sim_ban R) (hask : Sim_ask R) (htake : Sim_take R) (hkeep : Sim_keep R) (hchosen : Sim_chosen R) (hmany : Sim_many R) (hcan : Sim_can R) (hcount : Sim_count R) (hsolve : Sim_solve R) (hcore : Sim_core R) (h0 : R px_u0 (pm_z 7)) {b L : Nat} {xs : Nat → Int32} (hL : L ≤ 3072) (C0 : lw_At p s m meth c b L xs) : W p l e room_1 s m #[Value.ref b] below meth c s.heap [] 0 0 (lw_Z below #[Value.ref b] s) (entryFrame m ([Value.ref b] : List Value).toArray 7) := by
  obtain ⟨hx, hb, hr, hml, hown, hts, hX, hbl, hlocks, hgv⟩ := C0
  have hwb : ∀ w ∈ WB, w.before #[Value.ref b] s = true := fun w h => hts w (wb_in w h)
  obtain ⟨D, cI, cZ, cJ, hK⟩ := lw_kn hwb
  obtain ⟨hT, hTc⟩ := lw_thr hts hgv
  have key := law_begin (γ := (p, l, e, room_1, s, m, #[Value.ref b], below, meth, c, lw_Z below #[Value.ref b] s, D, fun q => s.heap.size ≤ q)) (cI := cI) (cZ := cZ) (cJ := cJ) (b := b) (L := L) (xs := xs) ⟨hx, hb, hml, hr, hown, hwb, hlocks, hK, fun q h => h, rfl, lw_nst hts⟩ ⟨hX, hbl, fun q h => h, hT, hTc, hfl⟩ (hversion) (hneed) (hdrop) (hban) (hask) (htake) (hkeep) (hchosen) (hmany) (hcan) (hcount) (hsolve) (hcore) h0 hL rfl rfl
  rw [lg_entry_eq]
  exact key s.heap [] _ (fun k q h => by cases h) ⟨fun i j p q h => (by cases h), fun k q h => (by cases h)⟩ va_S.rf (lv_entry [Value.ref b] (n := 7) (Nat.le_of_ble_eq_true rfl))
