/-- contracts of methods that throw -/
def thE (k : Nat) : String := match k with
  | 1 => "java/lang/IllegalArgumentException"
  | 2 => "java/lang/IllegalStateException"
  | _ => "java/util/NoSuchElementException"
def CtT {S : Type} (l : Launch) (y : MethodName) (b : ByteArray) (L : Nat) (ret : Option FieldType) (rm : Room) (D : va_G) (tys : Tys) (wf : S → va_W) (av : List Value) (u : S) (E : String) (u0 : S) (B : Nat) : Prop :=
  ∀ sz : Nat, MetFree l y (headSpec (.code y b L ret :: WB) rm) (fun a U => CtP D tys wf av u sz a U ∧ Thr B U) (fun _ _ _ _ _ => True) (fun _ st o t => QTo D wf E u0 (va_A (wf u) sz) st o t)
theorem ct_ofT {S : Type} {l : Launch} {y : MethodName} {rm : Room} {D : va_G} {tys : Tys} {wf : S → va_W} {av : List Value} {u u0 : S} {E : String} {cc : ByteArray} {maxL B : Nat} {ret : Option FieldType} (hfl : l.flags = pinnedFlags ++ [noTraceFlag]) (hy : plainName y.cls = true) (hlen : (lg_sl av).length ≤ maxL) (k : ∀ γ : CX, γl γ = l → γD γ = D → Cx γ cc maxL ret y.cls rm tys → CxT γ B → QT γ wf E u0 → AtG γ wf maxL 0 0 0 (lv_args 0 av) [] u) : CtT l y cc maxL ret rm D tys wf av u E u0 B := by
  intro sz
  refine MetFree.of_bodyS (code := cc) (maxLocals := maxL) (ret := ret) hy ?_ ?_
  · intro args s m h hn
    obtain ⟨meth, c, h1, h2, h3, h4, h5, h6, -, -⟩ := Cond.code_spec hn (atoms_spec (ws := .code y cc maxL ret :: WB) h _ List.mem_cons_self)
    exact ⟨meth, c, h1, h2, h3, h4, h5, h6⟩
  · intro p e s m args below meth c s₁ Bo hml hv _
    obtain ⟨⟨rfl, hsz, hP, hK, hD0, hN⟩, hT⟩ := hv
    subst hsz
    have hD := hD0.self (sz := s.heap.size)
    have hex := Bo.noHandlers (atoms_spec (ws := .code y cc maxL ret :: WB) Bo.pre _ List.mem_cons_self)
    have hpl : ∀ q, va_A (wf u) s.heap.size q → ∀ cell, s.heap[q]? = some cell → cell.vm.isStatics = false := by
      rintro q (⟨j, e1, hj⟩ | h) cell hc
      · exact (hP j (q, e1) hj).plain cell hc
      · have := (Array.getElem?_eq_some_iff.mp hc).1
        exact absurd this (Nat.not_lt.mpr h)
    have key := k (p, l, e, (headSpec (.code y cc maxL ret :: WB) rm).room, s, m, av.toArray, below, meth, c, (fun t => ∃ o, t.status = .running ∧ Ended t below o ∧ QTo D wf E u0 (va_A (wf u) s.heap.size) s o t), D, va_A (wf u) s.heap.size) rfl rfl ⟨Bo.exec, Bo.bytes, hml, Bo.returns, findClass_of_methodNamed Bo.named, fun w hw => atoms_spec (ws := .code y cc maxL ret :: WB) Bo.pre w (List.mem_cons_of_mem _ hw), Bo.notSynchronized, hK, fun q h => Or.inr h, rfl, hN⟩
      ⟨Launch.traces_off hfl Bo.admits, by simpa [Array.isEmpty_iff] using hex, hT, hpl⟩ rfl
    have hl := lv_entry av (n := maxL) hlen
    have hh0 : s₁.heap = s.heap := by rw [Bo.state]; rfl
    have key2 := key s.heap [] _ hP hD va_S.rf hl
    rw [← lg_entry_eq] at key2
    obtain ⟨t, a1, o, b1, b2, b3⟩ := key2 s₁ hh0 (Stand.of_body Bo)
    exact ⟨t, o, a1, b1, b2, b3⟩
/-- the three throws -/
theorem tw_1 : ∀ w ∈ th_At "PackagePick" 80 "java/lang/IllegalArgumentException" "java/lang/RuntimeException" 7 prog_8_method_2_code ["java/lang/Exception"], w ∈ WB ∨ w ∈ thX := by decide +kernel
theorem tw_2 : ∀ w ∈ th_At "PackagePick" 98 "java/lang/IllegalStateException" "java/lang/RuntimeException" 7 prog_9_method_2_code ["java/lang/Exception"], w ∈ WB ∨ w ∈ thX := by decide +kernel
theorem tw_3 : ∀ w ∈ th_At "PackagePick" 132 "java/util/NoSuchElementException" "java/lang/RuntimeException" 13 prog_15_method_4_code ["java/lang/Exception"], w ∈ WB ∨ w ∈ thX := by decide +kernel
section XT3
variable {S : Type} {γ : CX} {cc : ByteArray} {nL : Nat} {ret : Option FieldType} {k B : Nat} {tys : Tys} {wf : S → va_W} {pc e0 : Nat} {lv : List (Nat × Value)} {u u0 : S}
theorem xt_1 (C : Cx γ cc nL ret "PackagePick" (rkT k) tys) (CT : CxT γ B) (hQ : QT γ wf (thE e0) u0) (hk : 6 ≤ k) (hE : 1 = e0)
    (hd0 : decode cc pc = .ok (.new 76, 3)) (hd3 : decode cc (pc + 3) = .ok (.dup, 1)) (hd4 : decode cc (pc + 3 + 1) = .ok (.ldc 78, 2)) (hd6 : decode cc (pc + 3 + 1 + 2) = .ok (.invokespecial 80, 3)) (hd9 : decode cc (pc + 3 + 1 + 2 + 3) = .ok (.athrow, 1))
    (hu : u = u0) : AtG γ wf nL 0 0 pc lv [] u :=
  x_throw C CT (cls := "java/lang/IllegalArgumentException") hQ (by rw [← hE]; rfl) hk (wb_t 294 (by decide +kernel) rfl) (wb_t 295 (by decide +kernel) rfl) (wb_t 9 (by decide +kernel) rfl) (by decide +kernel) (bytes := prog_8_method_2_code) (by decide +kernel) (by decide +kernel) (by decide +kernel) (by decide +kernel) tw_1 (tx := "there is no such aim") (by decide +kernel) hd0 hd3 hd4 hd6 hd9 hu
theorem xt_2 (C : Cx γ cc nL ret "PackagePick" (rkT k) tys) (CT : CxT γ B) (hQ : QT γ wf (thE e0) u0) (hk : 6 ≤ k) (hE : 2 = e0)
    (hd0 : decode cc pc = .ok (.new 94, 3)) (hd3 : decode cc (pc + 3) = .ok (.dup, 1)) (hd4 : decode cc (pc + 3 + 1) = .ok (.ldc 96, 2)) (hd6 : decode cc (pc + 3 + 1 + 2) = .ok (.invokespecial 98, 3)) (hd9 : decode cc (pc + 3 + 1 + 2 + 3) = .ok (.athrow, 1))
    (hu : u = u0) : AtG γ wf nL 0 0 pc lv [] u :=
  x_throw C CT (cls := "java/lang/IllegalStateException") hQ (by rw [← hE]; rfl) hk (wb_t 366 (by decide +kernel) rfl) (wb_t 367 (by decide +kernel) rfl) (wb_t 12 (by decide +kernel) rfl) (by decide +kernel) (bytes := prog_9_method_2_code) (by decide +kernel) (by decide +kernel) (by decide +kernel) (by decide +kernel) tw_2 (tx := "there is no choice") (by decide +kernel) hd0 hd3 hd4 hd6 hd9 hu
theorem xt_3 (C : Cx γ cc nL ret "PackagePick" (rkT k) tys) (CT : CxT γ B) (hQ : QT γ wf (thE e0) u0) (hk : 6 ≤ k) (hE : 3 = e0)
    (hd0 : decode cc pc = .ok (.new 128, 3)) (hd3 : decode cc (pc + 3) = .ok (.dup, 1)) (hd4 : decode cc (pc + 3 + 1) = .ok (.ldc 130, 2)) (hd6 : decode cc (pc + 3 + 1 + 2) = .ok (.invokespecial 132, 3)) (hd9 : decode cc (pc + 3 + 1 + 2 + 3) = .ok (.athrow, 1))
    (hu : u = u0) : AtG γ wf nL 0 0 pc lv [] u :=
  x_throw C CT (cls := "java/util/NoSuchElementException") hQ (by rw [← hE]; rfl) hk (wb_t 391 (by decide +kernel) rfl) (wb_t 392 (by decide +kernel) rfl) (wb_t 13 (by decide +kernel) rfl) (by decide +kernel) (bytes := prog_15_method_4_code) (by decide +kernel) (by decide +kernel) (by decide +kernel) (by decide +kernel) tw_3 (tx := "the core has no such need") (by decide +kernel) hd0 hd3 hd4 hd6 hd9 hu
end XT3
theorem rokT {j k L : Nat} (h : j + 1 ≤ k) (hL : L ≤ 21) : Rok (rk j) (rkT k) L := ⟨⟨rfl, rfl⟩, h, by show 8 + (L + 11) + 40 * j ≤ 40 * k; omega⟩
