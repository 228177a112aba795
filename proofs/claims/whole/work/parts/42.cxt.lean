/-- the words that don't go along by themselves -/
def thD : List Cond := [.declares (Bundle.initS "java/lang/RuntimeException"), .declares (Bundle.initS "java/lang/Exception"), .declares (Bundle.initS tW)]
def thX : List Cond := [.isRef (.static tW "UNASSIGNED_STACK" tSt), .isRef (.static tW "SUPPRESSED_SENTINEL" tLi), .laysStatic tW "UNASSIGNED_STACK" tSt, .laysStatic tW "SUPPRESSED_SENTINEL" tLi] ++ thD
def thR : List (Nat × String) := [(78, "there is no such aim"), (96, "there is no choice"), (130, "the core has no such need")]
/-- what a state knows of throwing; its cells lie below B -/
def Thr (B : Nat) (U : State) : Prop := sq_S "UNASSIGNED_STACK" tSt B U U.heap ∧ sq_S "SUPPRESSED_SENTINEL" tLi B U U.heap ∧ (va_Nw (.declares (Bundle.initS "java/lang/RuntimeException")) U ∧ va_Nw (.declares (Bundle.initS "java/lang/Exception")) U ∧ va_Nw (.declares (Bundle.initS tW)) U) ∧ ∀ q ∈ thR, ∃ a, vk_R "PackagePick" q.1 q.2 a U
theorem Thr.warm {B : Nat} {s U : State} (hW : s.WarmedH U.vm) (hq : ∀ a : Nat, a < B → U.heap[a]? = s.heap[a]?) (h : Thr B s) : Thr B U := by
  obtain ⟨h1, h2, ⟨d1, d2, d3⟩, h4⟩ := h
  exact ⟨(h1.moved hW.alike).kept hq, (h2.moved hW.alike).kept hq, ⟨va_Nw.warmD hW d1, va_Nw.warmD hW d2, va_Nw.warmD hW d3⟩, fun q hq => (h4 q hq).imp fun a h => h.warm hW⟩
theorem Thr.same {B : Nat} {s U : State} (hv : s.vm = U.vm) (hh : U.heap = s.heap) (h : Thr B s) : Thr B U := by
  obtain ⟨h1, h2, ⟨d1, d2, d3⟩, h4⟩ := h
  have al : s.vm.Alike U.vm := by rw [hv]; exact Vm.Alike.refl _
  exact ⟨(h1.moved al).kept (fun a _ => by rw [hh]), (h2.moved al).kept (fun a _ => by rw [hh]), ⟨va_Nw.same rfl hv d1, va_Nw.same rfl hv d2, va_Nw.same rfl hv d3⟩, fun q hq => (h4 q hq).imp fun a h => h.same hv.symm⟩
theorem Thr.words {B : Nat} {U : State} {A : Array Value} (h : Thr B U) : ∀ w ∈ thX, w.before A U = true := by
  obtain ⟨h1, h2, ⟨d1, d2, d3⟩, -⟩ := h
  intro w hw
  simp only [thX, thD, List.mem_append, List.mem_cons, List.not_mem_nil, or_false] at hw
  rcases hw with (rfl | rfl | rfl | rfl) | (rfl | rfl | rfl)
  · exact h1.isRef
  · exact h2.isRef
  · exact h1.lays
  · exact h2.lays
  · exact va_Nw.use rfl d1
  · exact va_Nw.use rfl d2
  · exact va_Nw.use rfl d3
theorem va_at.plain {D : va_G} {cl : List vw_C} {q : Nat × va_E} {H : Heap} (h : va_at D cl q H) : ∀ cell, H[q.1]? = some cell → cell.vm.isStatics = false := by
  obtain ⟨a, e⟩ := q
  intro cell hc
  cases e with
  | inl x =>
    have h1 : H[a]? = some (vp_cell x.1 x.2) := h
    cases Option.some.inj (hc.symm.trans h1)
    obtain ⟨cA, n, f | f | f | f | f⟩ := x <;> rfl
  | inr o =>
    obtain ⟨r, -, cell', h1, -, h3, -⟩ := h
    cases Option.some.inj (hc.symm.trans h1)
    rw [h3]; rfl
/-- the end of a method that throws -/
def QTo {S : Type} (D : va_G) (wf : S → va_W) (E : String) (u0 : S) (A : Nat → Prop) (st : State) (o : Outcome) (t : State) : Prop :=
  ∃ (q : Addr) (ce : Cell) (L : List Loc), o = .threw q ∧ st.heap.size ≤ q ∧ t.heap[q]? = some ce ∧ ce.vm = .none ∧ st.vm.findClass E = some ce.cls ∧ st.WarmedH t.vm ∧ st.sameButNew ({ t with vm := st.vm } : State) L 1 6 ∧ (∀ z ∈ L, A z.base) ∧ va_P D vwCl (wf u0) t.heap ∧ va_D A (wf u0) ∧ va_F A st t
def QT {S : Type} (γ : CX) (wf : S → va_W) (E : String) (u0 : S) : Prop := γQ γ = fun t => ∃ o, t.status = .running ∧ Ended t (γb γ) o ∧ QTo (γD γ) wf E u0 (γA γ) (γs γ) o t
def rkT (k : Nat) : Room := { frames := k, cells := 1, slots := 6, locals := 40 * k }
def CxT (γ : CX) (B : Nat) : Prop := (γe γ).platform.stackTraces = false ∧ (γc γ).exceptionTable.toList = [] ∧ Thr B (γs γ) ∧ ∀ q, γA γ q → ∀ cell, (γs γ).heap[q]? = some cell → cell.vm.isStatics = false
section XT
variable {S : Type} {γ : CX} {cc : ByteArray} {nL : Nat} {ret : Option FieldType} {own : String} {k B : Nat} {tys : Tys} {wf : S → va_W} {pc : Nat} {lv : List (Nat × Value)} {u u0 : S}
set_option maxHeartbeats 4000000 in
theorem x_throw (C : Cx γ cc nL ret "PackagePick" (rkT k) tys) (CT : CxT γ B) {E cls : String} (hQ : QT γ wf E u0) (hE : cls = E) {ik is ic ix : Nat} {tx : String} {bytes : ByteArray} (hk : 6 ≤ k)
    (hcl : Cond.classLink "PackagePick" ik cls ∈ WB) (hin : Cond.instantiable cls 6 ∈ WB) (hini : Cond.initialized cls ∈ WB)
    (hcls : Bundle.fit cls = true) (hb0 : decode bytes 0 = .ok (.aload_n 0, 1)) (hb1 : decode bytes 1 = .ok (.aload_n 1, 1)) (hb2 : decode bytes 2 = .ok (.invokespecial ix, 3)) (hb5 : decode bytes 5 = .ok (.return_, 1))
    (hw : ∀ w ∈ th_At "PackagePick" ic cls "java/lang/RuntimeException" ix bytes ["java/lang/Exception"], w ∈ WB ∨ w ∈ thX) (hs : (is, tx) ∈ thR)
    (hd0 : decode cc pc = .ok (.new ik, 3)) (hd3 : decode cc (pc + 3) = .ok (.dup, 1)) (hd4 : decode cc (pc + 3 + 1) = .ok (.ldc is, 2)) (hd6 : decode cc (pc + 3 + 1 + 2) = .ok (.invokespecial ic, 3)) (hd9 : decode cc (pc + 3 + 1 + 2 + 3) = .ok (.athrow, 1))
    (hu : u = u0) : AtG γ wf nL 0 0 pc lv [] u := by
  subst hu hE
  intro H locs ls hP hD hS hl
  obtain ⟨htr, hext, hth, hst⟩ := CT
  obtain ⟨cX, kX, hfX, hkX, -, -, -, -⟩ := Cond.instantiable_spec (C.hts _ hin)
  obtain ⟨sa, hsa⟩ := hth.2.2.2 _ hs
  have hR := C.hR
  refine W.newcK C.hx C.hb C.hown (C.hts _ hcl) (C.hts _ hin) (C.hts _ hini) (g := F0 (γm γ) pc ls []) rfl hd0 (by rw [hR]; exact Nat.le_refl 1) (by rw [hR]; exact Nat.le_refl 6) hfX rfl (fun H1 kC hkC e1 z1 o1 => ?_)
  cases Option.some.inj (hkX.symm.trans hkC)
  refine lv_dup (rest := []) C.hx C.hb hd3 rfl ?_
  refine va_ldcS C.hx C.hb C.hown hsa hd4 ?_
  intro T hT X
  have hsz : (γs γ).heap.size ≤ H.size := hS.1
  obtain ⟨U, ce, st, hrun, hend, hWU, hsame, hce, hcv, hcc, hoth⟩ := th_ctor X C.hx htr (own := "PackagePick") (cls := cls) (Y := "java/lang/RuntimeException") (names := ["java/lang/Exception"]) (ic := ic) (ix := ix) (bytes := bytes) C.hown hcls (by decide) (by decide) hb0 hb1 hb2 hb5
    (fun w h => (hw w h).elim (fun h => C.hts w h) (fun h => hth.words w h)) (fun x hx cell hc => hst x.base (hS.2.2 x hx) cell hc) (a := H.size) hfX hkX (by rw [hT]; exact e1) hsz (msg := .ref sa) rfl (g := F0 (γm γ) (pc + 3 + 1 + 2) ls [.ref sa, .ref H.size, .ref H.size]) rfl (hl.1.trans C.hml.symm) rfl rfl (rest := []) rfl
    (by rw [C.hb]; exact hd6) (by rw [C.hb]; exact hd9) (by rw [hext]; intro x hx; cases hx) (by rw [hR]; show 1 + 4 < k; omega) (by rw [hR]; show _ ≤ 40 * k; have : (2 * (F0 (γm γ) (pc + 3 + 1 + 2) ls [.ref sa, .ref H.size, .ref H.size]).monitorRoom + ((Value.ref H.size :: []).map fun v => v.category).sum + (13 * (["java/lang/Exception"].length + 2) + 42)) = 82 := rfl; omega) C.hlocks
  refine ⟨U, st, ?_⟩
  have hQ' := hQ
  unfold QT at hQ'
  rw [hQ']
  have hUH : ∀ q, q < H.size → U.heap[q]? = H[q]? := fun q hq => by rw [hoth q (Nat.ne_of_lt hq), hT, o1 q hq]
  refine ⟨_, hrun, hend, H.size, ce, locs, rfl, hsz, hce, hcv, by rw [hcc]; exact hfX, hWU, hsame, hS.2.2, hP.kept (fun k q hk => hUH q.1 (hP k q hk).lt), hD, ?_, fun q hq hA => ?_⟩
  · have h2 : (γs γ).heap.size ≤ ({ U with vm := (γs γ).vm } : State).heap.size := hsame.2.1
    exact h2
  · rw [hUH q (Nat.lt_of_lt_of_le hq hsz)]; exact hS.2.1 q hq hA
end XT
