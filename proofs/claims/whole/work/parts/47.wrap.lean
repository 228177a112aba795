/-! THE LAW'S OWN TWO METHODS, that catch -/
abbrev nIAE : String := "java/lang/IllegalArgumentException"
abbrev nISE : String := "java/lang/IllegalStateException"
abbrev nNSE : String := "java/util/NoSuchElementException"
/-- what a state knows of the three classes -/
def Tcs (U : State) : Prop := va_Nc nISE nIAE U ∧ va_Nw (.castable nIAE nIAE) U ∧ va_Nw (.castable nISE nISE) U ∧ va_Nw (.castable nNSE nNSE) U
theorem Tcs.warm {s U : State} (hW : s.WarmedH U.vm) (h : Tcs s) : Tcs U := ⟨h.1.moved hW.alike, va_Nw.warmC hW h.2.1, va_Nw.warmC hW h.2.2.1, va_Nw.warmC hW h.2.2.2⟩
/-- what a state knows of throwing, and the world lies above -/
def Thq (B : Nat) (w : va_W) (U : State) : Prop := Thr B U ∧ Tcs U ∧ B ≤ U.heap.size ∧ ∀ (k : Nat) (q : Nat × va_E), w[k]? = some q → B ≤ q.1
def rkJ (k mc ms : Nat) : Room := { frames := k, cells := mc, slots := ms, locals := 40 * k }
def PcJ {S : Type} (D : va_G) (tys : Tys) (wf : S → va_W) (av : List Value) (u : S) (sz B : Nat) : Array Value → State → Prop := fun a U => CtP D tys wf av u sz a U ∧ Thq B (wf u) U
def CtJ {S : Type} (l : Launch) (y : MethodName) (b : ByteArray) (L : Nat) (ret : Option FieldType) (hh : List (Nat × Nat × Nat × Nat)) (k mc ms : Nat) (D : va_G) (tys : Tys) (wf : S → va_W) (av : List Value) (u : S) (r0 : Int32) (u0 : S) (B : Nat) : Prop :=
  ∀ sz : Nat, Met l y (.codeWith y b L ret hh :: WB) (rkJ k mc ms) (PcJ D tys wf av u sz B) (va_Qi (fun (r : Int32) (u' : S) => r = r0 ∧ u' = u0) (fun (u' : S) (t : State) => va_P D vwCl (wf u') t.heap ∧ va_K D vwCl tys t ∧ va_D (va_A (wf u) sz) (wf u')) (va_A (wf u) sz)) mc ms (va_A (wf u) sz)
def QIn {S : Type} (γ : CX) (tys : Tys) (wf : S → va_W) (r0 : Int32) (u0 : S) (mc ms : Nat) : Prop :=
  γQ γ = MQ (γb γ) (va_Qi (fun (r : Int32) (u' : S) => r = r0 ∧ u' = u0) (fun (u' : S) (t : State) => va_P (γD γ) vwCl (wf u') t.heap ∧ va_K (γD γ) vwCl tys t ∧ va_D (γA γ) (wf u')) (γA γ)) (γa γ) (γs γ) mc ms (γA γ)
theorem x_iretN {S : Type} {γ : CX} {cc : ByteArray} {nL : Nat} {own : String} {rm : Room} {tys : Tys} {wf : S → va_W} {pc mc ms : Nat} {lv : List (Nat × Value)} {u u0 : S} {v r0 : Int32} (C : Cx γ cc nL (some .int) own rm tys) (hQ : QIn γ tys wf r0 u0 mc ms) (hv : v = r0) (hu : u = u0) (hd : decode cc pc = .ok (.ireturn, 1)) : AtG γ wf nL mc ms pc lv [.int v] u := by
  intro H locs ls hP hD hS hl
  subst hv hu
  have hQ' := hQ
  unfold QIn at hQ'
  rw [hQ']
  exact W.iret C.hx C.hb C.hr (fun t ht hW => ⟨⟨v, u, rfl, ⟨rfl, rfl⟩, by rw [ht]; exact hP, va_K.moved hW.alike C.hK, hD⟩, hS.F ht⟩) hS.2.2 hd C.hlocks
theorem ct_ofJ {S : Type} {l : Launch} {y : MethodName} {hh : List (Nat × Nat × Nat × Nat)} {k mc ms B : Nat} {D : va_G} {tys : Tys} {wf : S → va_W} {av : List Value} {u u0 : S} {r0 : Int32} {cc : ByteArray} {maxL : Nat} {ret : Option FieldType} (hy : plainName y.cls = true) (hlen : (lg_sl av).length ≤ maxL)
    (kk : ∀ γ : CX, γl γ = l → γD γ = D → Cx γ cc maxL ret y.cls (rkJ k mc ms) tys → Thq B (wf u) (γs γ) → (γc γ).exceptionTable.toList.map (fun h => (h.startPc, h.endPc, h.handlerPc, h.catchType)) = hh → (∀ q, γA γ q → B ≤ q) → (γe γ).platform.magicAccessors = ({} : Platform).magicAccessors → QIn γ tys wf r0 u0 mc ms → AtG γ wf maxL 0 0 0 (lv_args 0 av) [] u) : CtJ l y cc maxL ret hh k mc ms D tys wf av u r0 u0 B := by
  intro sz
  refine va_MetW (cc := cc) (maxL := maxL) (ret := ret) (hh := hh) hy rfl ?_
  intro p e s m args below meth c s₁ Bo hml hv
  obtain ⟨⟨rfl, hsz, hP, hK, hD0, hN⟩, hT⟩ := hv
  subst hsz
  have hD := hD0.self (sz := s.heap.size)
  obtain ⟨m9, meth9, c9, hn9, h1, h2, h3, h4, hex, h5, h6, -⟩ := Cond.codeWith_spec (atoms_spec (ws := .codeWith y cc maxL ret hh :: WB) Bo.pre _ List.mem_cons_self)
  cases Bo.named.symm.trans hn9
  cases Bo.method.symm.trans h1
  cases (Stand.of_body Bo).code.symm.trans h2
  have key := kk (p, l, e, (headSpec (.codeWith y cc maxL ret hh :: WB) (rkJ k mc ms)).room, s, m, av.toArray, below, meth, c, MQ below (va_Qi (fun (r : Int32) (u' : S) => r = r0 ∧ u' = u0) (fun (u' : S) (t : State) => va_P D vwCl (wf u') t.heap ∧ va_K D vwCl tys t ∧ va_D (va_A (wf u) s.heap.size) (wf u')) (va_A (wf u) s.heap.size)) av.toArray s mc ms (va_A (wf u) s.heap.size), D, va_A (wf u) s.heap.size) rfl rfl ⟨Bo.exec, Bo.bytes, hml, Bo.returns, findClass_of_methodNamed Bo.named, fun w hw => atoms_spec (ws := .codeWith y cc maxL ret hh :: WB) Bo.pre w (List.mem_cons_of_mem _ hw), Bo.notSynchronized, hK, fun q h => Or.inr h, rfl, hN⟩
    hT hex (fun q h => h.elim (fun ⟨j, e1, hj⟩ => hT.2.2.2 j (q, e1) hj) (fun h => Nat.le_trans hT.2.2.1 h)) (by rw [Bo.admits.platform]) rfl
  have hl := lv_entry av (n := maxL) hlen
  rw [lg_entry_eq]
  exact key s.heap [] _ hP hD va_S.rf hl
/-- the world of the class and of 'out' -/
def WXJ (cI cJ : ClassId) (h : Nat → Nat) (q : Nat) (z : PS × (Nat → Int64)) : va_W := WX cI h z.1 ++ [(q, .inl (cJ, 1, .inr (.inl z.2)))]
theorem prtJ {cI cJ : ClassId} {h : Nat → Nat} {q : Nat} {u u0 : PS} {f : Nat → Int64} : Prt (WXJ cI cJ h q (u, f)) (WX cI h u) [(q, .inl (cJ, 1, .inr (.inl f)))] (WX cI h u0) (WXJ cI cJ h q (u0, f)) [0, 1, 2, 3, 4, 5, 6, 7, 8, 9] [10] [1, 2, 3, 4, 5, 6, 7, 8, 9, 10, 0] := ⟨rfl, rfl, ⟨rfl, rfl, rfl, by decide⟩, rfl⟩
theorem tbl2 {tl : List ExceptionTableEntry} {a1 b1 c1 d1 a2 b2 c2 d2 : Nat} (h : tl.map (fun h => (h.startPc, h.endPc, h.handlerPc, h.catchType)) = [(a1, b1, c1, d1), (a2, b2, c2, d2)]) : tl = [⟨a1, b1, c1, d1⟩, ⟨a2, b2, c2, d2⟩] := by
  rcases tl with _ | ⟨⟨w1, w2, w3, w4⟩, _ | ⟨⟨z1, z2, z3, z4⟩, _ | _⟩⟩ <;> simp_all
theorem tbl1 {tl : List ExceptionTableEntry} {a1 b1 c1 d1 : Nat} (h : tl.map (fun h => (h.startPc, h.endPc, h.handlerPc, h.catchType)) = [(a1, b1, c1, d1)]) : tl = [⟨a1, b1, c1, d1⟩] := by
  rcases tl with _ | ⟨⟨w1, w2, w3, w4⟩, _ | _⟩ <;> simp_all
section WRP
variable {l : Launch} {D : va_G} {cI cJ : ClassId} {h : Nat → Nat} {q B : Nat}
abbrev hhS : List (Nat × Nat × Nat × Nat) := [(0, 9, 12, 13), (0, 9, 15, 15)]
abbrev hhC : List (Nat × Nat × Nat × Nat) := [(0, 9, 12, 20)]
theorem c_L_solve (a1 : Int32) (u : PS) (f : Nat → Int64) {r0 : Int32 × PS} (hf : f_X_solve a1 u = some r0) : CtJ l y_L_solve b_L_solve 4 (some .int) hhS 18 0 0 D [(cI, .int), (cJ, .long)] (WXJ cI cJ h q) [.ref (h 0), .int a1, .ref q] (u, f) 0 (r0.2, vp_updL f 0 r0.1.toInt64) B := by
  refine ct_ofJ (by decide) (Nat.le_of_ble_eq_true rfl) (fun γ hl hD C hT hex hB hpl hQ => ?_)
  refine x_aload_n C d_L_solve_0 rfl (k := 2) rfl ?_
  refine x_iconst (v := 0) C d_L_solve_1 (by decide) ?_
  refine x_aload_n C d_L_solve_2 rfl (k := 0) rfl ?_
  refine x_iload_n C d_L_solve_3 rfl (k := 1) rfl ?_
  refine x_callIvL (isT := [0]) (q0 := 0) (ci := 3) (rest := [.int 0, .ref q]) C (c_X_solve (cI := cI) (h := h) a1 u hf) rfl prtJ kc_X_solve ⟨⟨rfl, rfl⟩, by decide, by decide⟩ ⟨Nat.le_refl _, Nat.le_refl _⟩ mm_L_7 ms_X_solve ml_X_solve rfl rfl rfl rfl (Nat.le_of_ble_eq_true rfl) d_L_solve_4 ?_
  refine x_i2l C d_L_solve_7 ?_
  refine x_last (q0 := 10) (t0 := 1) (nn := 1) (f := f) (u0 := (r0.2, vp_updL f 0 r0.1.toInt64)) C rfl rfl rfl rfl d_L_solve_8 ?_
  refine x_goto (tgt := 18) C d_L_solve_9 (by decide) ?_
  refine x_iconst (v := 0) C d_L_solve_18 (by decide) ?_
  exact x_iretN C hQ rfl rfl d_L_solve_19
theorem c_L_core (a1 : Int32) (u : PS) (f : Nat → Int64) {r0 : Int32} (hf : f_X_core a1 u = some r0) : CtJ l y_L_core b_L_core 4 (some .int) hhC 18 0 0 D [(cI, .int), (cJ, .long)] (WXJ cI cJ h q) [.ref (h 0), .int a1, .ref q] (u, f) 0 (u, vp_updL f 0 r0.toInt64) B := by
  refine ct_ofJ (by decide) (Nat.le_of_ble_eq_true rfl) (fun γ hl hD C hT hex hB hpl hQ => ?_)
  refine x_aload_n C d_L_core_0 rfl (k := 2) rfl ?_
  refine x_iconst (v := 0) C d_L_core_1 (by decide) ?_
  refine x_aload_n C d_L_core_2 rfl (k := 0) rfl ?_
  refine x_iload_n C d_L_core_3 rfl (k := 1) rfl ?_
  refine x_callIvL (isT := [0]) (q0 := 0) (ci := 3) (rest := [.int 0, .ref q]) C (c_X_core (cI := cI) (h := h) a1 u hf) rfl prtJ kc_X_core ⟨⟨rfl, rfl⟩, by decide, by decide⟩ ⟨Nat.le_refl _, Nat.le_refl _⟩ mm_L_17 ms_X_core ml_X_core rfl rfl rfl rfl (Nat.le_of_ble_eq_true rfl) d_L_core_4 ?_
  refine x_i2l C d_L_core_7 ?_
  refine x_last (q0 := 10) (t0 := 1) (nn := 1) (f := f) (u0 := (u, vp_updL f 0 r0.toInt64)) C rfl rfl rfl rfl d_L_core_8 ?_
  refine x_goto (tgt := 15) C d_L_core_9 (by decide) ?_
  refine x_iconst (v := 0) C d_L_core_15 (by decide) ?_
  exact x_iretN C hQ rfl rfl d_L_core_16
theorem c_L_solve_1 (hfl : l.flags = pinnedFlags ++ [noTraceFlag]) (a1 : Int32) (u : PS) (f : Nat → Int64) {u0 : PS} (hf : f_X_solve_t a1 u = some (1, u0)) : CtJ l y_L_solve b_L_solve 4 (some .int) hhS 18 1 6 D [(cI, .int), (cJ, .long)] (WXJ cI cJ h q) [.ref (h 0), .int a1, .ref q] (u, f) 1 (u0, f) B := by
  refine ct_ofJ (by decide) (Nat.le_of_ble_eq_true rfl) (fun γ hl hD C hT hex hB hpl hQ => ?_)
  subst hl; subst hD
  refine x_aload_n C d_L_solve_0 rfl (k := 2) rfl ?_
  refine x_iconst (v := 0) C d_L_solve_1 (by decide) ?_
  refine x_aload_n C d_L_solve_2 rfl (k := 0) rfl ?_
  refine x_iload_n C d_L_solve_3 rfl (k := 1) rfl ?_
  refine x_callT (isT := [0]) (q0 := 0) (ci := 3) (rest := [.int 0, .ref q]) C (c_X_solve_t (cI := cI) (h := h) (B := B) a1 u hfl hf) rfl prtJ kc_X_solve ⟨by decide, by decide⟩ ⟨Nat.le_refl _, Nat.le_refl _⟩ mm_L_7 ms_X_solve ml_X_solve rfl rfl rfl rfl (Nat.le_of_ble_eq_true rfl) d_L_solve_4
    hT.1 hB hT.2.2.1 (ck_1 (x := ⟨0, 9, 12, 13⟩) (nx := nIAE) C hpl (tbl2 hex) (by decide) (by decide) (wb_t 288 (by decide +kernel) rfl) (va_Nw.use rfl hT.2.1.2.1)) (fun x => ?_)
  refine x_astore_n (lv' := [(3, .ref x), (0, .ref (h 0)), (1, .int a1), (2, .ref q)]) C d_L_solve_12 rfl (by decide) rfl ?_
  refine x_iconst (v := 1) C d_L_solve_13 (by decide) ?_
  exact x_iretN C hQ rfl rfl d_L_solve_14
theorem c_L_solve_2 (hfl : l.flags = pinnedFlags ++ [noTraceFlag]) (a1 : Int32) (u : PS) (f : Nat → Int64) {u0 : PS} (hf : f_X_solve_t a1 u = some (2, u0)) : CtJ l y_L_solve b_L_solve 4 (some .int) hhS 18 1 6 D [(cI, .int), (cJ, .long)] (WXJ cI cJ h q) [.ref (h 0), .int a1, .ref q] (u, f) 2 (u0, f) B := by
  refine ct_ofJ (by decide) (Nat.le_of_ble_eq_true rfl) (fun γ hl hD C hT hex hB hpl hQ => ?_)
  subst hl; subst hD
  refine x_aload_n C d_L_solve_0 rfl (k := 2) rfl ?_
  refine x_iconst (v := 0) C d_L_solve_1 (by decide) ?_
  refine x_aload_n C d_L_solve_2 rfl (k := 0) rfl ?_
  refine x_iload_n C d_L_solve_3 rfl (k := 1) rfl ?_
  refine x_callT (isT := [0]) (q0 := 0) (ci := 3) (rest := [.int 0, .ref q]) C (c_X_solve_t (cI := cI) (h := h) (B := B) a1 u hfl hf) rfl prtJ kc_X_solve ⟨by decide, by decide⟩ ⟨Nat.le_refl _, Nat.le_refl _⟩ mm_L_7 ms_X_solve ml_X_solve rfl rfl rfl rfl (Nat.le_of_ble_eq_true rfl) d_L_solve_4
    hT.1 hB hT.2.2.1 (ck_2 (z := ⟨0, 9, 12, 13⟩) (x := ⟨0, 9, 15, 15⟩) (ny := nIAE) (nx := nISE) C hpl (tbl2 hex) (by decide) (by decide) (wb_t 288 (by decide +kernel) rfl) hT.2.1.1 (by decide) (by decide) (wb_t 289 (by decide +kernel) rfl) (va_Nw.use rfl hT.2.1.2.2.1)) (fun x => ?_)
  refine x_astore_n (lv' := [(3, .ref x), (0, .ref (h 0)), (1, .int a1), (2, .ref q)]) C d_L_solve_15 rfl (by decide) rfl ?_
  refine x_iconst (v := 2) C d_L_solve_16 (by decide) ?_
  exact x_iretN C hQ rfl rfl d_L_solve_17
theorem c_L_core_1 (hfl : l.flags = pinnedFlags ++ [noTraceFlag]) (a1 : Int32) (u : PS) (f : Nat → Int64) {u0 : PS} (hf : f_X_core_t a1 u = some (3, u0)) : CtJ l y_L_core b_L_core 4 (some .int) hhC 18 1 6 D [(cI, .int), (cJ, .long)] (WXJ cI cJ h q) [.ref (h 0), .int a1, .ref q] (u, f) 1 (u0, f) B := by
  refine ct_ofJ (by decide) (Nat.le_of_ble_eq_true rfl) (fun γ hl hD C hT hex hB hpl hQ => ?_)
  subst hl; subst hD
  refine x_aload_n C d_L_core_0 rfl (k := 2) rfl ?_
  refine x_iconst (v := 0) C d_L_core_1 (by decide) ?_
  refine x_aload_n C d_L_core_2 rfl (k := 0) rfl ?_
  refine x_iload_n C d_L_core_3 rfl (k := 1) rfl ?_
  refine x_callT (isT := [0]) (q0 := 0) (ci := 3) (rest := [.int 0, .ref q]) C (c_X_core_t (cI := cI) (h := h) (B := B) a1 u hfl hf) rfl prtJ kc_X_core ⟨by decide, by decide⟩ ⟨Nat.le_refl _, Nat.le_refl _⟩ mm_L_17 ms_X_core ml_X_core rfl rfl rfl rfl (Nat.le_of_ble_eq_true rfl) d_L_core_4
    hT.1 hB hT.2.2.1 (ck_1 (x := ⟨0, 9, 12, 20⟩) (nx := nNSE) C hpl (tbl1 hex) (by decide) (by decide) (wb_t 385 (by decide +kernel) rfl) (va_Nw.use rfl hT.2.1.2.2.2)) (fun x => ?_)
  refine x_astore_n (lv' := [(3, .ref x), (0, .ref (h 0)), (1, .int a1), (2, .ref q)]) C d_L_core_12 rfl (by decide) rfl ?_
  refine x_iconst (v := 1) C d_L_core_13 (by decide) ?_
  exact x_iretN C hQ rfl rfl d_L_core_14
end WRP
