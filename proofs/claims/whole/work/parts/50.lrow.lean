/-! ROWS OF THE LAW -/
theorem Thq.same {B : Nat} {w : va_W} {s U : State} (hv : s.vm = U.vm) (hh : U.heap = s.heap) (h : Thq B w s) : Thq B w U := by
  obtain ⟨h1, ⟨c1, c2, c3, c4⟩, h3, h4⟩ := h
  have al : s.vm.Alike U.vm := by rw [hv]; exact Vm.Alike.refl _
  exact ⟨h1.same hv hh, ⟨c1.moved al, va_Nw.same rfl hv c2, va_Nw.same rfl hv c3, va_Nw.same rfl hv c4⟩, by rw [hh]; exact h3, h4⟩
theorem pcj_blind {S : Type} {D : va_G} {tys : Tys} {wf : S → va_W} {av : List Value} {u : S} {sz B : Nat} : FrameBlind (PcJ D tys wf av u sz B) := fun a U g mk q => ⟨CtP.blind a U g mk q.1, Thq.same (U := U.calling g mk a) rfl rfl q.2⟩
section XLR
variable {S S2 : Type} {γ : CX} {cc : ByteArray} {nL : Nat} {ret : Option FieldType} {own : String} {rm : Room} {tysB tys : Tys} {wfB : S2 → va_W} {wf : S → va_W} {cs sl pc : Nat} {lv : List (Nat × Value)} {rest st : List Value} {u u0 : S} {U U0 : S2}
variable {y : MethodName} {b : ByteArray} {L n index k2 B mc ms : Nat} {hh : List (Nat × Nat × Nat × Nat)} {As : List Value} {isC isR isB isT : List Nat} {wr : va_W} {r0 : Int32}
theorem x_callJ (C : Cx γ cc nL ret own rm tysB) (hct : CtJ (γl γ) y b L (some .int) hh k2 mc ms (γD γ) tys wf As u r0 u0 B) (hT : isT.filterMap (fun i => tysB[i]?) = tys) (hp : Prt (wfB U) (wf u) wr (wf u0) (wfB U0) isC isR isB) (hcode : Cond.codeWith y b L (some .int) hh ∈ WB) (hini : Cond.initialized y.cls ∈ WB) (hy : y.cls ≠ "java/lang/invoke/MethodHandle" ∧ y.cls ≠ "java/lang/invoke/VarHandle" ∧ (parseMethodDescriptor y.desc).map (fun d => d.parameters.length) = some n) (hr : k2 + 1 ≤ rm.frames ∧ 8 + (L + 11) + 40 * k2 ≤ rm.locals) (hroom : cs + mc ≤ rm.cells ∧ sl + ms ≤ rm.slots) (hl : Cond.methodLink own index y ∈ WB) (hs : Cond.static y ∈ WB) (hn : As.length = n) (hst : st = As.reverse ++ rest) (h8 : (rest.map fun v => v.category).sum ≤ 8) (hd : decode cc pc = .ok (.invokestatic index, 3))
    (hTh : Thr B (γs γ)) (hTc : Tcs (γs γ)) (hB : ∀ q, γA γ q → B ≤ q) (hBs : B ≤ (γs γ).heap.size)
    (k : AtG γ wfB nL (cs + mc) (sl + ms) (pc + 3) lv (.int r0 :: rest) U0) : AtG γ wfB nL cs sl pc lv st U := by
  intro H locs ls hP hD hS hl1
  have hF := xl_free C hp hD hS
  have hpre := xl_pre (locs := locs) C hT hp hP hD As
  have hws : ∀ w ∈ (Cond.codeWith y b L (some .int) hh :: WB), ∀ (a' : Array Value) (V : State), (γs γ).WarmedH V.vm → w.before a' V = true := pay_in C.hts (fun w hw => (List.mem_cons.mp hw).elim (fun e => by rw [e]; exact ⟨hcode, wb_good _ hcode⟩) (fun h => ⟨h, wb_good w h⟩))
  have hK : Back (γl γ) (γR γ) (γp γ) (γe γ) (γb γ) (γs γ) (γa γ) y 3 8 (PreOf (γR γ) mc ms (PcJ (γD γ) tys wf As u H.size B)) (PostOf (va_Qi (fun (r : Int32) (u' : S) => r = r0 ∧ u' = u0) (fun (u' : S) (t : State) => va_P (γD γ) vwCl (wf u') t.heap ∧ va_K (γD γ) vwCl tys t ∧ va_D (va_A (wf u) H.size) (wf u')) (va_A (wf u) H.size)) mc ms (va_A (wf u) H.size)) :=
    va_backW (hh := hh) (bytes := b) (maxL := L) (ret := some .int) (hct H.size) pcj_blind rfl rfl (by rw [C.hR]; exact hr.1) (by rw [C.hR]; exact hr.2) hws List.mem_cons_self (fun a' V hW => word_at hW (Or.inl (by first | rfl | simp [Cond.onTables, Cond.keeps, Cond.steady])) (C.hts _ hini))
  have run : va_Run (γp γ) (γl γ) (γe γ) (γR γ) (γs γ) (γm γ) (γa γ) (γb γ) (γM γ) (γc γ) H locs cs sl mc ms (F0 (γm γ) pc ls st) rest (va_Qi (fun (r : Int32) (u' : S) => r = r0 ∧ u' = u0) (fun (u' : S) (t : State) => va_P (γD γ) vwCl (wf u') t.heap ∧ va_K (γD γ) vwCl tys t ∧ va_D (va_A (wf u) H.size) (wf u')) (va_A (wf u) H.size) As.toArray) (va_A (wf u) H.size) := by
    intro T hTT X
    obtain ⟨mk, methM, cM, hnamed, hmethM, -, -, -, -, -, -, hsigM⟩ := Cond.codeWith_spec (C.hts _ hcode)
    have hstatic : methM.isStatic = true := Cond.static_spec hnamed hmethM (C.hts _ hs)
    obtain ⟨kP, hkP, -⟩ := className_of_methodNamed hnamed
    have hinitP : kP.init = .initialized := Cond.initialized_spec (findClass_of_methodNamed hnamed) hkP (C.hts _ hini)
    have hlen : As.length = methM.sig.parameters.length := by
      have h2 := hy.2.2
      rw [hsigM] at h2
      exact hn.trans (Option.some.inj h2).symm
    obtain ⟨vm₁, X₁, hstep₁⟩ := X.invokestatic C.hx C.hown (C.hts _ hl) hnamed hmethM hstatic hkP hinitP ⟨hy.1, hy.2.1⟩ (g := F0 (γm γ) pc ls st) rfl (argsL := As) (rest := rest) hlen hst (by rw [C.hb]; exact hd)
    have hThr : Thr B (T.setVm vm₁) := hTh.warm (U := T.setVm vm₁) X₁.warmed (fun q hq => by
      show T.heap[q]? = _
      rw [hTT]
      exact hS.2.1 q (Nat.lt_of_lt_of_le hq hBs) (fun h => Nat.not_lt.mpr (hB q h) hq))
    have hThq : Thq B (wf u) (T.setVm vm₁) := ⟨hThr, hTc.warm (U := T.setVm vm₁) X₁.warmed, by
      show B ≤ T.heap.size
      rw [hTT]; exact Nat.le_trans hBs hS.1, fun j q hj => hB q.1 ((hD.sub isC hp.2.2.1.1 hp.1).2 j q hj)⟩
    obtain ⟨v, ⟨U', l2, c2, s2⟩, X', ⟨g', mk', t, L1, e1, e2, hq, h1, hL, h2, h3⟩, hsteps⟩ := hK (γm γ) (γM γ) (γc γ) ⟨T.setVm vm₁, locs, cs, sl⟩ { F0 (γm γ) pc ls st with stack := rest } (.invokestatic index) mk As.toArray X₁ rfl (hl1.1.trans C.hml.symm) (by rw [C.hb]; exact hd) (lv_room h8) (X₁.named hnamed) ⟨by rw [C.hR]; exact hroom.1, by rw [C.hR]; exact hroom.2, hpre.2 (T.setVm vm₁) hTT X₁.warmed, hThq⟩
    dsimp only [Jvm.Free.Pt.U, Jvm.Free.Pt.locs, Jvm.Free.Pt.cells, Jvm.Free.Pt.slots] at X' e1 e2 h1 h2 h3 hsteps
    subst h1; subst h2; subst h3
    exact ⟨v, (T.setVm vm₁).calling g' mk' As.toArray, t, U', L1, hTT, X', hL, e1, e2, hq, fun target h => hstep₁ _ fun acts => by rw [doInvoke_state]; exact hsteps.trans h⟩
  refine va_calli run hS (fun q _ h => hF q h) hF (fun r u1 t H1 locs1 ht hvm hw hB2 hz1 hk1 hS1 => ?_)
  obtain ⟨rfl, rfl⟩ := hw
  obtain ⟨hP1, hK1, hD1⟩ := hB2
  rw [ht] at hP1
  obtain ⟨a1, a2⟩ := xl_join C hp hP hD hS hk1 hP1 hD1
  exact k H1 locs1 ls a1 a2 hS1 hl1
end XLR
section XLW
variable {S : Type} {γ : CX} {cc : ByteArray} {nL : Nat} {ret : Option FieldType} {own : String} {rm : Room} {tys : Tys} {wf : S → va_W} {cs sl cs1 sl1 pc : Nat} {lv : List (Nat × Value)} {rest st : List Value} {u : S}
theorem x_wide (h1 : cs ≤ cs1) (h2 : sl ≤ sl1) (k : AtG γ wf nL cs1 sl1 pc lv st u) : AtG γ wf nL cs sl pc lv st u := fun H locs ls hP hD hS hl => W.widen h1 h2 (k H locs ls hP hD hS hl)
theorem x_sld (C : Cx γ cc nL ret own rm tys) {b L : Nat} {xs : Nat → Int32} (hX : va_X b L xs (γs γ) (γs γ).heap) (hb : b < (γs γ).heap.size) (hbA : ¬ γA γ b) {i v : Int32} (hin : inb i L = true) (hv : xs i.toNatClampNeg = v) (hd : decode cc pc = .ok (.iaload, 1)) (k : AtG γ wf nL cs sl (pc + 1) lv (.int v :: rest) u) : AtG γ wf nL cs sl pc lv (.int i :: .ref b :: rest) u := by
  subst hv
  exact fun H locs ls hP hD hS hl => va_sld C.hx C.hb hX hb hbA hS (inb_in hin) hd (k H locs ls hP hD hS hl)
theorem x_slen (C : Cx γ cc nL ret own rm tys) {b L : Nat} {xs : Nat → Int32} (hX : va_X b L xs (γs γ) (γs γ).heap) (hb : b < (γs γ).heap.size) (hbA : ¬ γA γ b) (hd : decode cc pc = .ok (.arraylength, 1)) (k : AtG γ wf nL cs sl (pc + 1) lv (.int (Int32.ofNat L) :: rest) u) : AtG γ wf nL cs sl pc lv (.ref b :: rest) u :=
  fun H locs ls hP hD hS hl => va_slen C.hx C.hb hX hb hbA hS hd (k H locs ls hP hD hS hl)
end XLW
theorem mcw_solve : Cond.codeWith y_L_solve b_L_solve 4 (some .int) hhS ∈ WB := wb_t 287 (by decide +kernel) rfl
theorem mcw_core : Cond.codeWith y_L_core b_L_core 4 (some .int) hhC ∈ WB := wb_t 384 (by decide +kernel) rfl
theorem mst_solve : Cond.static y_L_solve ∈ WB := wb_t 286 (by decide +kernel) rfl
theorem mst_core : Cond.static y_L_core ∈ WB := wb_t 383 (by decide +kernel) rfl
