/-! A CALLEE THAT THROWS, CAUGHT HERE -/
theorem thr_blind {S : Type} {D : va_G} {tys : Tys} {wf : S → va_W} {av : List Value} {u : S} {sz B : Nat} : FrameBlind (fun a U => CtP D tys wf av u sz a U ∧ Thr B U) := fun a U g mk q => ⟨CtP.blind a U g mk q.1, Thr.same (U := U.calling g mk a) rfl rfl q.2⟩
def PreT {S : Type} (R : Room) (D : va_G) (tys : Tys) (wf : S → va_W) (av : List Value) (u : S) (sz B : Nat) : Jvm.Free.Pt → Array Value → Prop := fun A a => A.cells + 1 ≤ R.cells ∧ A.slots + 6 ≤ R.slots ∧ (CtP D tys wf av u sz a A.U ∧ Thr B A.U)
def PostT {S : Type} (D : va_G) (wf : S → va_W) (E : String) (u0 : S) (Af : Nat → Prop) : Jvm.Free.Pt → Array Value → Addr → Jvm.Free.Pt → Prop := fun A _ x B =>
  ∃ (ce : Cell) (L : List Loc), B.U.heap[x]? = some ce ∧ ce.vm = .none ∧ A.U.vm.findClass E = some ce.cls ∧ (∀ z ∈ L, Af z.base) ∧ B.locs = A.locs ++ L ∧ B.cells = A.cells + 1 ∧ B.slots = A.slots + 6 ∧ va_P D vwCl (wf u0) B.U.heap ∧ va_D Af (wf u0) ∧ A.U.heap.size ≤ B.U.heap.size ∧ ∀ q : Nat, q < A.U.heap.size → ¬ Af q → B.U.heap[q]? = A.U.heap[q]?
section XCT
variable {S S2 : Type} {γ : CX} {cc : ByteArray} {nL : Nat} {ret : Option FieldType} {own : String} {rm : Room} {tysB tys : Tys} {wfB : S2 → va_W} {wf : S → va_W} {cs sl pc : Nat} {lv : List (Nat × Value)} {rest st : List Value} {u u0 : S} {U U0 : S2}
variable {y : MethodName} {b : ByteArray} {L n index k2 B : Nat} {ret2 : Option FieldType} {E : String} {As : List Value} {isC isR isB isT : List Nat} {wr : va_W}
variable {Cn : String} {T : u_T} {N ci q0 a : Nat} {fs : List Value}
theorem xt_back (C : Cx γ cc nL ret own rm tysB) {av : List Value} (hct : CtT (γl γ) y b L ret2 (rkT k2) (γD γ) tys wf av u E u0 B) (hc : Cal y b L ret2 n) (hr : k2 + 1 ≤ rm.frames ∧ 8 + (L + 11) + 40 * k2 ≤ rm.locals) (sz : Nat) :
    Jvm.Free.BackT (γl γ) (γR γ) (γp γ) (γe γ) (γb γ) (γs γ) (γa γ) y 3 8 (PreT (γR γ) (γD γ) tys wf av u sz B) (PostT (γD γ) wf E u0 (va_A (wf u) sz)) := by
  have hws : ∀ w ∈ (Cond.code y b L ret2 :: WB), ∀ (a' : Array Value) (V : State), (γs γ).WarmedH V.vm → w.before a' V = true := pay_in C.hts (wb_gi hc.1)
  refine Jvm.Free.BackT.of_free (bytes := b) (maxL := L) (ret := ret2) (E := fun _ st o t L k n => k = 1 ∧ n = 6 ∧ (∀ z ∈ L, va_A (wf u) sz z.base)) (hct sz) (by rw [C.hR]; exact hr.1) (by rw [C.hR]; exact hr.2) ?_ ?_ (fun _ _ _ _ _ _ _ _ _ => trivial) ?_ ?_
  · intro m meth c A a X hp
    exact ⟨atoms_intro fun w hw => hws w hw _ _ X.warmed, hws _ List.mem_cons_self _ _ X.warmed, word_at X.warmed (Or.inl (by first | rfl | simp [Cond.onTables, Cond.keeps, Cond.steady])) (C.hts _ hc.2.1), hp.1, hp.2.1⟩
  · intro m meth c A a g mk X hp
    exact thr_blind _ _ _ _ hp.2.2
  · rintro a st o t ⟨q, ce, L, rfl, h1, h2, h3, h4, h5, h6, h7, h8, h9, h10⟩
    exact ⟨L, 1, 6, ⟨⟨q, rfl⟩, h5, h6⟩, rfl, rfl, h7⟩
  · rintro m meth c A a g mk v t L k n X hp ⟨q, ce, L2, hq, h1, h2, h3, h4, h5, h6, h7, h8, h9, h10⟩ hF ⟨rfl, rfl, hL⟩
    cases hq
    exact ⟨ce, L, h2, h3, h4, hL, rfl, rfl, rfl, h8, h9, h10.1, h10.2⟩
set_option maxHeartbeats 2000000 in
theorem x_callT (C : Cx γ cc nL ret own rm tysB) (hct : CtT (γl γ) y b L ret2 (rkT k2) (γD γ) tys wf (.ref a :: As) u E u0 B) (hT : isT.filterMap (fun i => tysB[i]?) = tys) (hp : Prt (wfB U) (wf u) wr (wf u0) (wfB U0) isC isR isB) (hc : Cal y b L ret2 n) (hr : k2 + 1 ≤ rm.frames ∧ 8 + (L + 11) + 40 * k2 ≤ rm.locals) (hroom : cs + 1 ≤ rm.cells ∧ sl + 6 ≤ rm.slots) (hl : Cond.methodLink own index y ∈ WB) (hs : Cond.instanceMethod y ∈ WB) (hse : Cond.selects Cn y y ∈ WB) (hcl : vwCl[ci]? = some (Cn, T, N)) (he : (wf u)[q0]? = some (a, .inr (ci, fs))) (hn : As.length = n) (hst : st = As.reverse ++ .ref a :: rest) (h8 : (rest.map fun v => v.category).sum ≤ 8) (hd : decode cc pc = .ok (.invokevirtual index, 3))
    (hTh : Thr B (γs γ)) (hB : ∀ q, γA γ q → B ≤ q) (hBs : B ≤ (γs γ).heap.size)
    (pre : List ExceptionTableEntry) (x : ExceptionTableEntry) (post : List ExceptionTableEntry) (hsplit : (γc γ).exceptionTable.toList = pre ++ x :: post) (hpass : ∀ cX, (γs γ).vm.findClass E = some cX → ∀ z ∈ pre, RowPassed (γe γ).platform (γs γ) (γm γ).cls pc cX z) (hx : covers x pc = true)
    {nmx : String} (h0 : x.catchType ≠ 0) (hlk : Cond.classLink own x.catchType nmx ∈ WB) (hcast : (Cond.castable E nmx).before (γa γ) (γs γ) = true)
    (k : ∀ q, AtG γ wfB nL (cs + 1) (sl + 6) x.handlerPc lv [.ref q] U0) : AtG γ wfB nL cs sl pc lv st U := by
  intro H locs ls hP hD hS hl1 T hTT X
  have hF := xl_free C hp hD hS
  have hPc := hP.sub isC (fm_of_map hp.1)
  obtain ⟨cellB, hcB, hoB, hclB⟩ := va_recv C.hK hPc hcl he
  obtain ⟨mk, methM, hnamed, hmethM, hstM, habM⟩ := Cond.instanceMethod_spec (C.hts _ hs)
  obtain ⟨methM', cM, hmethM', -, -, -, -, -, -, hsigM⟩ := Cond.code_spec hnamed (C.hts _ hc.1)
  cases hmethM.symm.trans hmethM'
  obtain ⟨c2, r2, m2, q1, q2, q3, q4, kP, hkP, hkPi⟩ := Cond.selects_spec (C.hts _ hse)
  cases hclB.symm.trans q1
  have hy : y.cls ≠ "java/lang/invoke/MethodHandle" ∧ y.cls ≠ "java/lang/invoke/VarHandle" := ⟨hc.2.2.1, hc.2.2.2.1⟩
  cases (State.methodFound?_of_named hnamed hy).symm.trans q2
  cases hnamed.symm.trans q3
  have hselP : selectMethod (γe γ).platform (γs γ).vm cellB.cls mk = .method mk := by rw [Launch.admits_selectMethod X.admits]; exact q4
  have hlen : As.length = methM.sig.parameters.length := by
    have h2 := hc.2.2.2.2
    rw [hsigM] at h2
    exact hn.trans (Option.some.inj h2).symm
  obtain ⟨vm₁, X₁, hstep₁⟩ := X.invokevirtual C.hx C.hown (C.hts _ hl) hnamed hmethM hstM hkP hkPi hy (a := a) (cell := cellB) (by rw [hTT]; exact hcB)
    (fun z h => by rw [h] at hoB; cases hoB) hselP hmethM habM hkP hkPi (g := F0 (γm γ) pc ls st) rfl (argsL := As) (rest := rest) hlen hst (by rw [C.hb]; exact hd)
  have hThr : Thr B (T.setVm vm₁) := hTh.warm (U := T.setVm vm₁) X₁.warmed (fun q hq => by
    show T.heap[q]? = _
    rw [hTT]
    exact hS.2.1 q (Nat.lt_of_lt_of_le hq hBs) (fun h => Nat.not_lt.mpr (hB q h) hq))
  have hpre := xl_pre (locs := locs) C hT hp hP hD (.ref a :: As)
  obtain ⟨xa, B', X', ⟨ce, L1, g1, g2, g3, g4, g5, g6, g7, g8, g9, g10, g11⟩, hsteps⟩ := xt_back C hct hc hr H.size (γm γ) (γM γ) (γc γ) ⟨T.setVm vm₁, locs, cs, sl⟩ { F0 (γm γ) pc ls st with stack := rest } (.invokevirtual index) mk (Value.ref a :: As).toArray X₁ rfl (hl1.1.trans C.hml.symm) (by rw [C.hb]; exact hd) (lv_room h8) (X₁.named hnamed)
    ⟨by rw [C.hR]; exact hroom.1, by rw [C.hR]; exact hroom.2, hpre.2 (T.setVm vm₁) hTT X₁.warmed, hThr⟩
  obtain ⟨U', l2, c2, s2⟩ := B'
  dsimp only [Jvm.Free.Pt.U, Jvm.Free.Pt.locs, Jvm.Free.Pt.cells, Jvm.Free.Pt.slots] at X' g1 g3 g5 g6 g7 g8 g10 g11 hsteps
  subst g5; subst g6; subst g7
  have hcome : Steps (γp γ).tables (γe γ) (γb γ) (T.setTop (F0 (γm γ) pc ls st)) ((U'.setTop { F0 (γm γ) pc ls st with stack := rest }).pushFrame (.throwing xa)) := hstep₁ _ (fun acts => by rw [doInvoke_state]; exact hsteps)
  have hfE : (γs γ).vm.findClass E = some ce.cls := by
    have := g3
    rw [show (T.setVm vm₁).vm.findClass E = (γs γ).vm.findClass E from (X₁.warmed.alike.findClass E none)] at this
    exact this
  obtain ⟨c3, cT, hc3, hcT, hasg⟩ := Cond.castable_spec hcast
  cases hfE.symm.trans hc3
  obtain ⟨hend, hk0⟩ := X'.catches_of_link C.hown h0 (C.hts _ hlk) hcT hasg
  obtain ⟨vm', XV, stV⟩ := X'.thenCaughtThrough xa (g := { F0 (γm γ) pc ls st with stack := rest }) rfl hcome g1 (by rw [g2]; rfl) hk0 pre x post hsplit (hpass _ hfE) hx hend
  rw [show (T.setVm vm₁).heap = H from hTT] at g10 g11
  obtain ⟨a1, a2⟩ := xl_join C hp hP hD hS g11 g8 g9
  obtain ⟨t, st1, hq⟩ := k xa U'.heap (locs ++ L1) ls a1 a2 ⟨Nat.le_trans hS.1 g10, fun q h1 h2 => by
      rw [g11 q (Nat.lt_of_lt_of_le h1 hS.1) (fun z => h2 (hF q z))]; exact hS.2.1 q h1 h2, fun q hq => by
      rcases List.mem_append.mp hq with h | h
      · exact hS.2.2 q h
      · exact hF _ (g4 q h)⟩ hl1 (U'.setVm vm') rfl XV
  exact ⟨t, stV.trans st1, hq⟩
end XCT
