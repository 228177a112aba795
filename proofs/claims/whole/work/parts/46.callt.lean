/-! A CALLEE THAT THROWS, CAUGHT HERE -/
theorem thr_blind {S : Type} {D : va_G} {tys : Tys} {wf : S → va_W} {av : List Value} {u : S} {sz B : Nat} : FrameBlind (fun a U => CtP D tys wf av u sz a U ∧ Thr B U) := fun a U g mk q => ⟨CtP.blind a U g mk q.1, Thr.same (U := U.calling g mk a) rfl rfl q.2⟩
/-- one row of the table that covers the place: its class entry is noted, cold or not; then the object's class is asked -/
theorem ck_row {f : JFrame} {q : Addr} {e : Env} {V : State} {x : ExceptionTableEntry} {t : List ExceptionTableEntry} {cT : ClassId} {cell : Cell} {Q : Handler → Pre} {E : CtlPost} {d : Bool} {acts : List Action}
    (hx : covers x f.pc = true) (h0 : x.catchType ≠ 0) (hl : V.vm.ClassLinks e.platform f.method.cls x.catchType cT) (hq : V.heap[q]? = some cell) (hs : cell.vm.isStatics = false) (hk : ∃ k, V.vm.classes[cell.cls]? = some k) :
    wp (findHandler.go f q (x :: t)) Q E e d acts V ↔ (if V.vm.assignable cell.cls cT = true then Q (.found x.handlerPc) d acts (V.setVm (V.vm.noted f.method.cls x.catchType (.cls cT))) else wp (findHandler.go f q t) Q E e d acts (V.setVm (V.vm.noted f.method.cls x.catchType (.cls cT)))) := by
  have hal : V.vm.Alike (V.vm.noted f.method.cls x.catchType (.cls cT)) := (Vm.Alike.refl V.vm).noted _ _ _
  obtain ⟨k0, hk0⟩ := hk
  obtain ⟨k1, hk1, -⟩ := hal.2.2 _ _ hk0
  obtain ⟨-, -, -, kT, -, -, -, -, -, hkT, -, -⟩ := hl.here
  obtain ⟨k2, hk2, -⟩ := hal.2.2 _ _ hkT
  -- behind the note the entry is a resolved one, and the law of resolved entries speaks
  have hw := W.findHandler_go_class (Q := Q) (E := E) (e := e) (d := d) (acts := acts) (s := V.setVm (V.vm.noted f.method.cls x.catchType (.cls cT))) (f := f) (a := q) (x := x) (t := t) (c := cT) (cell := cell) hx h0 hl.ready hq (fun k h => by rw [h] at hs; cases hs) ⟨k1, hk1⟩ ⟨k2, hk2⟩
  rw [show (V.setVm (V.vm.noted f.method.cls x.catchType (.cls cT))).vm.assignable cell.cls cT = V.vm.assignable cell.cls cT from hal.assignable _ _] at hw
  rw [← hw]
  obtain ⟨a1, a2⟩ := (resolveClass_links e.toSetting hl).op (op := VmOp.resolveClass f.method.cls x.catchType) rfl
  obtain ⟨kr, hkr, hres⟩ := hl.ready
  simp only [covers] at hx
  simp [findHandler.go, hx, h0, a1, a2, resolveClass_memo e (vm := V.vm.noted f.method.cls x.catchType (.cls cT)) hkr hres, VmOp.dirties, VmOp.acts]
  exact Iff.rfl
/-- where an object of class E that is thrown at 'pc' is caught: at 'h' -/
def CkTo (γ : CX) (E : String) (pc h : Nat) : Prop :=
  ∀ (f : JFrame) (q : Addr) (V : State) (cell : Cell), f.method = γm γ → f.pc = pc → (γs γ).WarmedH V.vm → V.heap[q]? = some cell → cell.vm = .none → (γs γ).vm.findClass E = some cell.cls →
    ∃ vm' : Vm, (γs γ).WarmedH vm' ∧ ∀ (Q : Handler → Pre) (Y : CtlPost) (d : Bool) (acts : List Action), wp (findHandler.go f q (γc γ).exceptionTable.toList) Q Y (γe γ) d acts V ↔ Q (.found h) d acts (V.setVm vm')
section CKT
variable {γ : CX} {cc : ByteArray} {nL : Nat} {ret : Option FieldType} {own : String} {rm : Room} {tysB : Tys} {E nx ny : String} {x z : ExceptionTableEntry} {post : List ExceptionTableEntry} {pc : Nat}
/-- what a covering row does, from any state of this run on -/
theorem ck_any (C : Cx γ cc nL ret own rm tysB) (hpl : (γe γ).platform.magicAccessors = ({} : Platform).magicAccessors) (hx : covers x pc = true) (h0 : x.catchType ≠ 0) (hl : Cond.classLink own x.catchType nx ∈ WB) {f : JFrame} {q : Addr} {V : State} {cell : Cell} (hm : f.method = γm γ) (hp : f.pc = pc) (hW : (γs γ).WarmedH V.vm) (hq : V.heap[q]? = some cell) (hs : cell.vm = .none) (hE : (γs γ).vm.findClass E = some cell.cls) :
    ∃ (cT : ClassId) (vm' : Vm), (γs γ).vm.findClass nx = some cT ∧ (γs γ).WarmedH vm' ∧ ∀ (t : List ExceptionTableEntry) (Q : Handler → Pre) (Y : CtlPost) (d : Bool) (acts : List Action), wp (findHandler.go f q (x :: t)) Q Y (γe γ) d acts V ↔ (if (γs γ).vm.assignable cell.cls cT = true then Q (.found x.handlerPc) d acts (V.setVm vm') else wp (findHandler.go f q t) Q Y (γe γ) d acts (V.setVm vm')) := by
  subst hp
  obtain ⟨cT, hcT, hlk⟩ := Cond.classLink_spec C.hown (C.hts _ hl) (γe γ).platform hpl
  obtain ⟨dk, -, -, -, hdk, -, -, -, -, -, -, hop⟩ := hlk.here
  obtain ⟨k0, hk0⟩ := Vm.classAt_of_findClass hE
  obtain ⟨k1, hk1, -⟩ := hW.alike.2.2 _ _ hk0
  refine ⟨cT, V.vm.noted (γm γ).cls x.catchType (.cls cT), hcT, hW.noted hdk hop (State.rightAt_cls hlk), fun t Q Y d acts => ?_⟩
  have hr := ck_row (f := f) (q := q) (e := γe γ) (V := V) (x := x) (t := t) (cT := cT) (cell := cell) (Q := Q) (E := Y) (d := d) (acts := acts) hx h0 (by rw [hm]; exact hW.classLinks hlk) hq (by rw [hs]; rfl) ⟨k1, hk1⟩
  rw [hm, hW.alike.assignable] at hr
  exact hr
/-- the table's first row takes it -/
theorem ck_1 (C : Cx γ cc nL ret own rm tysB) (hpl : (γe γ).platform.magicAccessors = ({} : Platform).magicAccessors) (ht : (γc γ).exceptionTable.toList = x :: post) (hx : covers x pc = true) (h0 : x.catchType ≠ 0) (hl : Cond.classLink own x.catchType nx ∈ WB) (hc : (Cond.castable E nx).before (γa γ) (γs γ) = true) : CkTo γ E pc x.handlerPc := by
  intro f q V cell hm hp hW hq hs hE
  obtain ⟨cT, vm', hcT, hW', hr⟩ := ck_any C hpl hx h0 hl hm hp hW hq hs hE
  obtain ⟨c1, c2, g1, g2, g3⟩ := Cond.castable_spec hc
  cases hE.symm.trans g1
  cases hcT.symm.trans g2
  refine ⟨vm', hW', fun Q Y d acts => ?_⟩
  rw [ht, hr, if_pos g3]
/-- the table's first row lets it go by, the second takes it -/
theorem ck_2 (C : Cx γ cc nL ret own rm tysB) (hpl : (γe γ).platform.magicAccessors = ({} : Platform).magicAccessors) (ht : (γc γ).exceptionTable.toList = z :: x :: post) (hz : covers z pc = true) (hz0 : z.catchType ≠ 0) (hzl : Cond.classLink own z.catchType ny ∈ WB) (hn : va_Nc E ny (γs γ)) (hx : covers x pc = true) (h0 : x.catchType ≠ 0) (hl : Cond.classLink own x.catchType nx ∈ WB) (hc : (Cond.castable E nx).before (γa γ) (γs γ) = true) : CkTo γ E pc x.handlerPc := by
  intro f q V cell hm hp hW hq hs hE
  obtain ⟨cY, vm1, hcY, hW1, hr1⟩ := ck_any C hpl hz hz0 hzl hm hp hW hq hs hE
  obtain ⟨cT, vm', hcT, hW', hr⟩ := ck_any (V := V.setVm vm1) C hpl hx h0 hl hm hp hW1 hq hs hE
  obtain ⟨c1, c2, g1, g2, g3⟩ := Cond.castable_spec hc
  obtain ⟨d1, d2, e1, e2, e3⟩ := hn
  cases hE.symm.trans g1
  cases hE.symm.trans e1
  cases hcT.symm.trans g2
  cases hcY.symm.trans e2
  refine ⟨vm', hW', fun Q Y d acts => ?_⟩
  rw [ht, hr1, if_neg (by rw [e3]; decide), hr, if_pos g3]
  exact Iff.rfl
end CKT
/-- the step into the handler -/
theorem ck_step {p : Program} {l : Launch} {e : Env} {R : Room} {s : State} {a0 : Array Value} {below : List Frame} {meth : Method} {c : Code} {T : State} {locs : List Loc} {cs sl : Nat} {g : JFrame} {q : Addr} {h : Nat} {vm' : Vm} (X : Stand p l e R s g.method a0 below meth c T locs cs sl)
    (hf : ∀ (Q : Handler → Pre) (Y : CtlPost) (d : Bool) (acts : List Action), wp (findHandler.go g q c.exceptionTable.toList) Q Y e d acts ((T.setTop g).pushFrame (.throwing q)) ↔ Q (.found h) d acts (((T.setTop g).pushFrame (.throwing q)).setVm vm')) :
    Steps p.tables e below ((T.setTop g).pushFrame (.throwing q)) ((T.setVm vm').setTop { g with pc := h, stack := [.ref q] }) := by
  obtain ⟨hgo, hin⟩ := X.here.throwing (g := g) q
  have hfind : ∀ (Q : Handler → Pre) (Y : CtlPost) (d : Bool) (acts : List Action), wp (findHandler g q) Q Y e d acts ((T.setTop g).pushFrame (.throwing q)) ↔ Q (.found h) d acts (((T.setTop g).pushFrame (.throwing q)).setVm vm') := fun Q Y d acts => (W.findHandler_eq (s := (T.setTop g).pushFrame (.throwing q)) X.method' X.code).trans (hf Q Y d acts)
  obtain ⟨g0, hfr⟩ := X.frames_eq
  refine Steps.head hgo hin ?_
  rw [stepThread_throwing (frames_entered X.here.top _)]
  simp only [stepThrowing, searchFrame, vmDo]
  generalize hr : Sem.go _ e false [] ((T.setTop g).pushFrame (.throwing q)) = res
  obtain ⟨as, rfl, -⟩ := Sem.eq_ok_of hr (a := Handler.found h) (s' := ((T.setTop g).pushFrame (.throwing q)).setVm vm') (acts' := []) (by simp [hfind _ _ _ _])
  have e1 : (T.setTop g).pushFrame (.throwing q) = T.setFrames (.throwing q :: .java g :: below) := by rw [State.pushFrame, State.frames_setTop _ hfr, State.setTop_of_frames _ hfr, State.setFrames_setFrames]
  have e2 : ((((T.setTop g).pushFrame (.throwing q)).setVm vm').setFrames (.java { g with pc := h, stack := [.ref q] } :: T.frames.tail)) = (T.setVm vm').setTop { g with pc := h, stack := [.ref q] } := by
    rw [e1, X.tail, State.setTop_of_frames (s := T.setVm vm') _ hfr]
    exact State.setFrames_setFrames (T.setVm vm') _ _
  show Steps p.tables e below ((((T.setTop g).pushFrame (.throwing q)).setVm vm').setFrames (.java { g with pc := h, stack := [.ref q] } :: T.frames.tail)) _
  rw [e2]
  exact Steps.refl _
section XCT
variable {S S2 : Type} {γ : CX} {cc : ByteArray} {nL : Nat} {ret : Option FieldType} {own : String} {rm : Room} {tysB tys : Tys} {wfB : S2 → va_W} {wf : S → va_W} {cs sl pc : Nat} {lv : List (Nat × Value)} {rest st : List Value} {u u0 : S} {U U0 : S2}
variable {y : MethodName} {b : ByteArray} {L n index k2 B : Nat} {ret2 : Option FieldType} {E : String} {As : List Value} {isC isR isB isT : List Nat} {wr : va_W}
variable {Cn : String} {T : u_T} {N ci q0 a : Nat} {fs : List Value}
/-- the callee has thrown: its object lies over the caller's frame, and the caller stands there as before -/
theorem xt_call (C : Cx γ cc nL ret own rm tysB) {av : List Value} {V : State} {locs : List Loc} {sz : Nat} {g : JFrame} {ig : Instr} {mk : MethodId} (hct : CtT (γl γ) y b L ret2 (rkT k2) (γD γ) tys wf av u E u0 B) (hc : Cal y b L ret2 n) (hr : k2 + 1 ≤ rm.frames ∧ 8 + (L + 11) + 40 * k2 ≤ rm.locals)
    (X : Stand (γp γ) (γl γ) (γe γ) (γR γ) (γs γ) (γm γ) (γa γ) (γb γ) (γM γ) (γc γ) V locs cs sl) (hg : g.method = γm γ) (hsize : g.locals.size = (γc γ).maxLocals) (hd : decode (γc γ).code g.pc = .ok (ig, 3)) (hw : 2 * g.monitorRoom + (g.stack.map fun v => v.category).sum ≤ 8) (hn : V.methodNamed? y = some mk) (hroom : cs + 1 ≤ (γR γ).cells ∧ sl + 6 ≤ (γR γ).slots)
    (hP : CtP (γD γ) tys wf av u sz av.toArray V ∧ Thr B V) :
    ∃ (q : Addr) (V1 : State) (ce : Cell) (L1 : List Loc), Stand (γp γ) (γl γ) (γe γ) (γR γ) (γs γ) (γm γ) (γa γ) (γb γ) (γM γ) (γc γ) V1 (locs ++ L1) (cs + 1) (sl + 6) ∧ V1.heap[q]? = some ce ∧ ce.vm = .none ∧ V.vm.findClass E = some ce.cls ∧ (∀ z ∈ L1, va_A (wf u) sz z.base) ∧ va_P (γD γ) vwCl (wf u0) V1.heap ∧ va_D (va_A (wf u) sz) (wf u0) ∧ V.heap.size ≤ V1.heap.size ∧ (∀ q : Nat, q < V.heap.size → ¬ va_A (wf u) sz q → V1.heap[q]? = V.heap[q]?) ∧
      Steps (γp γ).tables (γe γ) (γb γ) (doInvoke (γe γ) (V.setTop g) [] mk av.toArray).1 ((V1.setTop g).pushFrame (.throwing q)) := by
  have hws : ∀ w ∈ (Cond.code y b L ret2 :: WB), ∀ (a' : Array Value) (V : State), (γs γ).WarmedH V.vm → w.before a' V = true := pay_in C.hts (wb_gi hc.1)
  obtain ⟨mY, cY, h1, h2, -, h4, -, -, -, -⟩ := Cond.code_spec hn (hws _ List.mem_cons_self av.toArray V X.warmed)
  obtain ⟨kY, hkY, -⟩ := className_of_methodNamed hn
  have hini : kY.init = .initialized := Cond.initialized_spec (args := av.toArray) (findClass_of_methodNamed hn) hkY (word_at X.warmed (Or.inl (by first | rfl | simp [Cond.onTables, Cond.keeps, Cond.steady])) (C.hts _ hc.2.1))
  have hat : At V g.method (γc γ) (γb γ) := by rw [hg]; exact X.here
  obtain ⟨g0, hfr⟩ := X.frames_eq
  have happ : (headSpec (.code y b L ret2 :: WB) (rkT k2)).appliesLoose y (γe γ).platform (V.calling g mk av.toArray) = true :=
    Spec.appliesLoose_calling (g := g) hat hd hn hkY hini (X.room_calling (g := g) (R' := rkT k2) hsize h1 h2 (by rw [C.hR]; exact hr.1) (by rw [h4, C.hR]; have := hr.2; show _ + (L + 11) + 40 * k2 ≤ _; omega) hroom.1 hroom.2) (atoms_intro fun w hw => hws w hw _ _ X.warmed)
  have hfm : (V.setTop g).frames = [.java g] ++ γb γ := by rw [State.frames_setTop _ hfr]; rfl
  obtain ⟨o, t, hsteps, -, hend, q, ce, L1, rfl, -, z2, z3, z4, z5, z6, z7, z8, z9, z10⟩ := Steps.callFree (hct sz) (γp γ) X.admits X.cas X.clock (acts := []) hfm happ (thr_blind _ _ _ _ hP) trivial
  have hft : t.frames = .throwing q :: .java g :: γb γ := by have h : t.frames = .throwing q :: (V.setTop g).frames := hend; rw [h, hfm]; rfl
  have hV1 : (({ V with heap := t.heap, slotsUsed := t.slotsUsed } : State).setVm t.vm).frames = .java g0 :: γb γ := hfr
  have ht : t = ((({ V with heap := t.heap, slotsUsed := t.slotsUsed } : State).setVm t.vm).setTop g).pushFrame (.throwing q) := by
    have h := congrArg (fun w : State => w.setVm t.vm) z6.1
    rw [State.pushFrame, State.frames_setTop _ hV1, State.setTop_of_frames _ hV1, State.setFrames_setFrames]
    refine Eq.trans (show t = _ from h) ?_
    show (({ ((V.calling g mk av.toArray).setFrames t.frames) with heap := t.heap, slotsUsed := t.slotsUsed } : State).setVm t.vm) = _
    rw [hft, State.calling_eq X.here.top, State.setFrames_setFrames]
    rfl
  have hsame : V.sameButNew ((({ V with heap := t.heap, slotsUsed := t.slotsUsed } : State).setVm t.vm).setVm V.vm) L1 1 6 := by
    obtain ⟨th, hth, -⟩ := State.frames_cons hfr
    refine ⟨?_, z6.2⟩
    show ({ V with heap := t.heap, slotsUsed := t.slotsUsed } : State) = { V.setFrames V.frames with heap := t.heap, slotsUsed := t.slotsUsed }
    rw [State.setFrames_self hth]
  have hW : V.WarmedH t.vm := z5
  refine ⟨q, (({ V with heap := t.heap, slotsUsed := t.slotsUsed } : State).setVm t.vm), ce, L1, X.moved ((X.here.setHeapUsed t.heap t.slotsUsed).setVm hW.alike) X.tail rfl rfl hW hsame, z2, z3, z4, z7, z8, z9, z10.1, z10.2, ?_⟩
  rw [← ht]
  exact hsteps
set_option maxHeartbeats 2000000 in
theorem x_callT (C : Cx γ cc nL ret own rm tysB) (hct : CtT (γl γ) y b L ret2 (rkT k2) (γD γ) tys wf (.ref a :: As) u E u0 B) (hT : isT.filterMap (fun i => tysB[i]?) = tys) (hp : Prt (wfB U) (wf u) wr (wf u0) (wfB U0) isC isR isB) (hc : Cal y b L ret2 n) (hr : k2 + 1 ≤ rm.frames ∧ 8 + (L + 11) + 40 * k2 ≤ rm.locals) (hroom : cs + 1 ≤ rm.cells ∧ sl + 6 ≤ rm.slots) (hl : Cond.methodLink own index y ∈ WB) (hs : Cond.instanceMethod y ∈ WB) (hse : Cond.selects Cn y y ∈ WB) (hcl : vwCl[ci]? = some (Cn, T, N)) (he : (wf u)[q0]? = some (a, .inr (ci, fs))) (hn : As.length = n) (hst : st = As.reverse ++ .ref a :: rest) (h8 : (rest.map fun v => v.category).sum ≤ 8) (hd : decode cc pc = .ok (.invokevirtual index, 3))
    (hTh : Thr B (γs γ)) (hB : ∀ q, γA γ q → B ≤ q) (hBs : B ≤ (γs γ).heap.size)
    {h : Nat} (hck : CkTo γ E pc h)
    (k : ∀ q, AtG γ wfB nL (cs + 1) (sl + 6) h lv [.ref q] U0) : AtG γ wfB nL cs sl pc lv st U := by
  intro H locs ls hP hD hS hl1 T hTT X
  have hF := xl_free C hp hD hS
  have hPc := hP.sub isC (fm_of_map hp.1)
  obtain ⟨cellB, hcB, hoB, hclB⟩ := va_recv C.hK hPc hcl he
  obtain ⟨mk, methM, hnamed, hmethM, hstM, habM⟩ := Cond.instanceMethod_spec (C.hts _ hs)
  obtain ⟨methM', cM, hmethM', -, -, -, -, -, -, hsigM⟩ := Cond.code_spec hnamed (C.hts _ hc.1)
  cases hmethM.symm.trans hmethM'
  obtain ⟨c2, r2, m2, q1, q2, q3, q4, kP, hkP, hkPi⟩ := Cond.selects_spec (C.hts _ hse)
  cases hclB.symm.trans q1
  have hy : y.cls ≠ "java/lang/invoke/MethodHandle" ∧ y.cls ≠ "java/lang/invoke/VarHandle" := ⟨hc.2.2.1, hc.2.2.2.1⟩
  cases (State.methodFound?_of_named hnamed hy).symm.trans q2
  cases hnamed.symm.trans q3
  have hselP : selectMethod (γe γ).platform (γs γ).vm cellB.cls mk = .method mk := by rw [Launch.admits_selectMethod X.admits]; exact q4
  have hlen : As.length = methM.sig.parameters.length := by
    have h2 := hc.2.2.2.2
    rw [hsigM] at h2
    exact hn.trans (Option.some.inj h2).symm
  obtain ⟨vm₁, X₁, hstep₁⟩ := X.invokevirtual C.hx C.hown (C.hts _ hl) hnamed hmethM hstM hkP hkPi hy (a := a) (cell := cellB) (by rw [hTT]; exact hcB)
    (fun z h => by rw [h] at hoB; cases hoB) hselP hmethM habM hkP hkPi (g := F0 (γm γ) pc ls st) rfl (argsL := As) (rest := rest) hlen hst (by rw [C.hb]; exact hd)
  have hThr : Thr B (T.setVm vm₁) := hTh.warm (U := T.setVm vm₁) X₁.warmed (fun q hq => by
    show T.heap[q]? = _
    rw [hTT]
    exact hS.2.1 q (Nat.lt_of_lt_of_le hq hBs) (fun h => Nat.not_lt.mpr (hB q h) hq))
  have hpre := xl_pre (locs := locs) C hT hp hP hD (.ref a :: As)
  obtain ⟨xa, U', ce, L1, X', g1, g2, g3, g4, g8, g9, g10, g11, hsteps⟩ := xt_call (sz := H.size) (g := { F0 (γm γ) pc ls st with stack := rest }) (ig := .invokevirtual index) (mk := mk) C hct hc hr X₁ rfl (hl1.1.trans C.hml.symm) (by rw [C.hb]; exact hd) (lv_room h8) (X₁.named hnamed) (by rw [C.hR]; exact hroom) ⟨hpre.2 (T.setVm vm₁) hTT X₁.warmed, hThr⟩
  have hcome : Steps (γp γ).tables (γe γ) (γb γ) (T.setTop (F0 (γm γ) pc ls st)) ((U'.setTop { F0 (γm γ) pc ls st with stack := rest }).pushFrame (.throwing xa)) := hstep₁ _ (fun acts => by rw [doInvoke_state]; exact hsteps)
  have hfE : (γs γ).vm.findClass E = some ce.cls := by
    rw [← g3]
    exact (X₁.warmed.alike.findClass E none).symm
  obtain ⟨vm', hWv, hrow⟩ := hck { F0 (γm γ) pc ls st with stack := rest } xa ((U'.setTop { F0 (γm γ) pc ls st with stack := rest }).pushFrame (.throwing xa)) ce rfl rfl X'.warmed g1 g2 hfE
  have XV := X'.noted hWv
  have stV := hcome.trans (ck_step (g := { F0 (γm γ) pc ls st with stack := rest }) X' hrow)
  rw [show (T.setVm vm₁).heap = H from hTT] at g10 g11
  obtain ⟨a1, a2⟩ := xl_join C hp hP hD hS g11 g8 g9
  obtain ⟨t, st1, hq⟩ := k xa U'.heap (locs ++ L1) ls a1 a2 ⟨Nat.le_trans hS.1 g10, fun q h1 h2 => by
      rw [g11 q (Nat.lt_of_lt_of_le h1 hS.1) (fun z => h2 (hF q z))]; exact hS.2.1 q h1 h2, fun q hq => by
      rcases List.mem_append.mp hq with h | h
      · exact hS.2.2 q h
      · exact hF _ (g4 q h)⟩ hl1 (U'.setVm vm') rfl XV
  exact ⟨t, stV.trans st1, hq⟩
end XCT
