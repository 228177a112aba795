/-! THE WALKER: a context, a judgement over a world that is a function of a pure state, a row an instruction. -/
abbrev CX : Type := Program × Launch × Env × Room × State × MethodId × Array Value × List Frame × Method × Code × (State → Prop) × va_G × (Nat → Prop)
abbrev γp (γ : CX) : Program := γ.1
abbrev γl (γ : CX) : Launch := γ.2.1
abbrev γe (γ : CX) : Env := γ.2.2.1
abbrev γR (γ : CX) : Room := γ.2.2.2.1
abbrev γs (γ : CX) : State := γ.2.2.2.2.1
abbrev γm (γ : CX) : MethodId := γ.2.2.2.2.2.1
abbrev γa (γ : CX) : Array Value := γ.2.2.2.2.2.2.1
abbrev γb (γ : CX) : List Frame := γ.2.2.2.2.2.2.2.1
abbrev γM (γ : CX) : Method := γ.2.2.2.2.2.2.2.2.1
abbrev γc (γ : CX) : Code := γ.2.2.2.2.2.2.2.2.2.1
abbrev γQ (γ : CX) : State → Prop := γ.2.2.2.2.2.2.2.2.2.2.1
abbrev γD (γ : CX) : va_G := γ.2.2.2.2.2.2.2.2.2.2.2.1
abbrev γA (γ : CX) : Nat → Prop := γ.2.2.2.2.2.2.2.2.2.2.2.2
abbrev Tys : Type := List (ClassId × FieldType)
def AtG {S : Type} (γ : CX) (wf : S → va_W) (nL cs sl pc : Nat) (lv : List (Nat × Value)) (st : List Value) (u : S) : Prop :=
  ∀ (H : Heap) (locs : List Loc) (ls : Array Slot), va_P (γD γ) vwCl (wf u) H → va_D (γA γ) (wf u) → va_S (γA γ) (γs γ).heap H locs → lv_has ls nL lv → W (γp γ) (γl γ) (γe γ) (γR γ) (γs γ) (γm γ) (γa γ) (γb γ) (γM γ) (γc γ) H locs cs sl (γQ γ) (F0 (γm γ) pc ls st)
/-- the calls of private methods among the nest -/
def nestQ : List (String × Nat × MethodName) := [("PackagePick", 11, y_C_init), ("PackagePick", 18, y_W_init), ("PackagePick", 25, y_T_init), ("PackagePick$Catalog", 31, y_X_isSlot), ("PackagePick$Catalog", 35, y_X_holds), ("PackagePick$Wishes", 22, y_X_wishBit), ("PackagePick$Tally", 34, y_X_marksOf)]
def Nst (U : State) : Prop := ∀ q ∈ nestQ, va_Nw (.methodLinkNest q.1 q.2.1 q.2.2 "PackagePick") U
theorem Nst.warm {s U : State} (hW : s.WarmedH U.vm) (h : Nst s) : Nst U := fun q hq => va_Nw.warmM hW (h q hq)
theorem Nst.same {s U : State} (h : s.vm = U.vm) (hZ : Nst s) : Nst U := fun q hq => va_Nw.same rfl h (hZ q hq)
def Cx (γ : CX) (cc : ByteArray) (nL : Nat) (ret : Option FieldType) (own : String) (rm : Room) (tys : Tys) : Prop :=
  (γp γ).tables.exec = Jvm.exec ∧ (γc γ).code = cc ∧ (γc γ).maxLocals = nL ∧ (γM γ).sig.returnType = ret ∧ (γs γ).vm.findClass own = some (γm γ).cls ∧ (∀ w ∈ WB, w.before (γa γ) (γs γ) = true) ∧ (γM γ).locks = false ∧ va_K (γD γ) vwCl tys (γs γ) ∧ (∀ q, (γs γ).heap.size ≤ q → γA γ q) ∧ γR γ = rm ∧ Nst (γs γ)
section CXS
variable {γ : CX} {cc : ByteArray} {nL : Nat} {ret : Option FieldType} {own : String} {rm : Room} {tys : Tys}
theorem Cx.hx (C : Cx γ cc nL ret own rm tys) : (γp γ).tables.exec = Jvm.exec := C.1
theorem Cx.hb (C : Cx γ cc nL ret own rm tys) : (γc γ).code = cc := C.2.1
theorem Cx.hml (C : Cx γ cc nL ret own rm tys) : (γc γ).maxLocals = nL := C.2.2.1
theorem Cx.hr (C : Cx γ cc nL ret own rm tys) : (γM γ).sig.returnType = ret := C.2.2.2.1
theorem Cx.hown (C : Cx γ cc nL ret own rm tys) : (γs γ).vm.findClass own = some (γm γ).cls := C.2.2.2.2.1
theorem Cx.hts (C : Cx γ cc nL ret own rm tys) : ∀ w ∈ WB, w.before (γa γ) (γs γ) = true := C.2.2.2.2.2.1
theorem Cx.hlocks (C : Cx γ cc nL ret own rm tys) : (γM γ).locks = false := C.2.2.2.2.2.2.1
theorem Cx.hK (C : Cx γ cc nL ret own rm tys) : va_K (γD γ) vwCl tys (γs γ) := C.2.2.2.2.2.2.2.1
theorem Cx.hA (C : Cx γ cc nL ret own rm tys) : ∀ q, (γs γ).heap.size ≤ q → γA γ q := C.2.2.2.2.2.2.2.2.1
theorem Cx.hR (C : Cx γ cc nL ret own rm tys) : γR γ = rm := C.2.2.2.2.2.2.2.2.2.1
theorem Cx.hN (C : Cx γ cc nL ret own rm tys) : Nst (γs γ) := C.2.2.2.2.2.2.2.2.2.2
end CXS
/-- pure words -/
abbrev PS : Type := (Nat → Int32) × (Nat → Nat → Int32)
def si (u : PS) (k : Nat) (v : Int32) : PS := (va_up u.1 k v, u.2)
def sa (u : PS) (k i : Nat) (x : Int32) : PS := (u.1, va_up u.2 k (upd (u.2 k) i x))
def inb (i : Int32) (n : Nat) : Bool := !(decide (i < 0) || decide (n ≤ i.toNatClampNeg))
theorem inb_in {i : Int32} {n : Nat} (h : inb i n = true) : vp_in i n := by
  unfold inb at h; unfold vp_in; simpa using h
def ck {α : Type} (b : Bool) (k : Option α) : Option α := if b = true then k else none
theorem ck_some {α : Type} {b : Bool} {k : Option α} {r : α} (h : ck b k = some r) : b = true ∧ k = some r := by
  unfold ck at h
  by_cases hb : b = true
  · rw [if_pos hb] at h; exact ⟨hb, h⟩
  · rw [if_neg hb] at h; cases h
def isB (v : Int32) : Bool := decide (narrow .boolean (.int v) = .int v)
theorem isB_nar {v : Int32} (h : isB v = true) : narrow .boolean (.int v) = .int v := of_decide_eq_true h
def ush (x y : Int32) : Int32 := (x.toUInt32 >>> (y.toUInt32 &&& Int32.toUInt32 31)).toInt32
def NF : Nat := 1000000

section XR
variable {S : Type} {γ : CX} {cc : ByteArray} {nL : Nat} {ret : Option FieldType} {own : String} {rm : Room} {tys : Tys} {wf : S → va_W} {cs sl pc : Nat} {lv : List (Nat × Value)} {rest : List Value} {u : S}

theorem x_iconst (C : Cx γ cc nL ret own rm tys) {n : Int} {v : Int32} (hd : decode cc pc = .ok (.iconst n, 1)) (hv : Int32.ofInt n = v) (kk : AtG γ wf nL cs sl (pc + 1) lv (.int v :: rest) u) : AtG γ wf nL cs sl pc lv rest u :=
  fun H locs ls hP hD hS hl => lv_iconst C.hx C.hb hd hv (kk H locs ls hP hD hS hl)
theorem x_bipush (C : Cx γ cc nL ret own rm tys) {n : Int} {v : Int32} (hd : decode cc pc = .ok (.bipush n, 2)) (hv : (Int8.ofInt n).toInt32 = v) (kk : AtG γ wf nL cs sl (pc + 2) lv (.int v :: rest) u) : AtG γ wf nL cs sl pc lv rest u :=
  fun H locs ls hP hD hS hl => lv_bipush C.hx C.hb hd hv (kk H locs ls hP hD hS hl)
theorem x_sipush (C : Cx γ cc nL ret own rm tys) {n : Int} {v : Int32} (hd : decode cc pc = .ok (.sipush n, 3)) (hv : (Int16.ofInt n).toInt32 = v) (kk : AtG γ wf nL cs sl (pc + 3) lv (.int v :: rest) u) : AtG γ wf nL cs sl pc lv rest u :=
  fun H locs ls hP hD hS hl => lv_sipush C.hx C.hb hd hv (kk H locs ls hP hD hS hl)
theorem x_ldcw (C : Cx γ cc nL ret own rm tys) {index : Nat} {v : Int32} (hm : Cond.constant own index v ∈ WB) (hd : decode cc pc = .ok (.ldc_w index, 3)) (k : AtG γ wf nL cs sl (pc + 3) lv (.int v :: rest) u) : AtG γ wf nL cs sl pc lv rest u :=
  fun H locs ls hP hD hS hl => lv_ldcw C.hx C.hb C.hown (C.hts _ hm) hd (k H locs ls hP hD hS hl)
theorem x_ldc (C : Cx γ cc nL ret own rm tys) {index : Nat} {v : Int32} (hm : Cond.constant own index v ∈ WB) (hd : decode cc pc = .ok (.ldc index, 2)) (k : AtG γ wf nL cs sl (pc + 2) lv (.int v :: rest) u) : AtG γ wf nL cs sl pc lv rest u :=
  fun H locs ls hP hD hS hl => lv_ldc C.hx C.hb C.hown (C.hts _ hm) hd (k H locs ls hP hD hS hl)
theorem x_iload_n (C : Cx γ cc nL ret own rm tys) {j : Fin 4} {i k : Nat} {x : Int32} (hd : decode cc pc = .ok (.iload_n j, 1)) (hi : (j : Nat) = i) (hk : lv[k]? = some (i, .int x)) (kk : AtG γ wf nL cs sl (pc + 1) lv (.int x :: rest) u) : AtG γ wf nL cs sl pc lv rest u :=
  fun H locs ls hP hD hS hl => lv_iload_n C.hx C.hb hd hi (lv_at hl k hk) (kk H locs ls hP hD hS hl)
theorem x_iload (C : Cx γ cc nL ret own rm tys) {i k : Nat} {x : Int32} (hd : decode cc pc = .ok (.iload i, 2)) (hk : lv[k]? = some (i, .int x)) (kk : AtG γ wf nL cs sl (pc + 2) lv (.int x :: rest) u) : AtG γ wf nL cs sl pc lv rest u :=
  fun H locs ls hP hD hS hl => lv_iload C.hx C.hb hd (lv_at hl k hk) (kk H locs ls hP hD hS hl)
theorem x_aload_n (C : Cx γ cc nL ret own rm tys) {j : Fin 4} {i k : Nat} {x : Nat} (hd : decode cc pc = .ok (.aload_n j, 1)) (hi : (j : Nat) = i) (hk : lv[k]? = some (i, .ref x)) (kk : AtG γ wf nL cs sl (pc + 1) lv (.ref x :: rest) u) : AtG γ wf nL cs sl pc lv rest u :=
  fun H locs ls hP hD hS hl => lv_aload_n C.hx C.hb hd hi (lv_at hl k hk) (kk H locs ls hP hD hS hl)
theorem x_aload (C : Cx γ cc nL ret own rm tys) {i k : Nat} {x : Nat} (hd : decode cc pc = .ok (.aload i, 2)) (hk : lv[k]? = some (i, .ref x)) (kk : AtG γ wf nL cs sl (pc + 2) lv (.ref x :: rest) u) : AtG γ wf nL cs sl pc lv rest u :=
  fun H locs ls hP hD hS hl => lv_aload C.hx C.hb hd (lv_at hl k hk) (kk H locs ls hP hD hS hl)
theorem x_istore_n (C : Cx γ cc nL ret own rm tys) {j : Fin 4} {i : Nat} {x : Int32} {lv' : List (Nat × Value)} (hd : decode cc pc = .ok (.istore_n j, 1)) (hi : (j : Nat) = i) (hn : i < nL) (hl' : (i, Value.int x) :: lv.filter (fun q => !(q.1 == i) && !(q.1 + 1 == i && q.2.category == 2)) = lv') (k : AtG γ wf nL cs sl (pc + 1) lv' rest u) : AtG γ wf nL cs sl pc lv (.int x :: rest) u :=
  fun H locs ls hP hD hS hl => lv_istore_n C.hx C.hb hd hi hl hn hl' (fun ls1 hl1 => k H locs ls1 hP hD hS hl1)
theorem x_istore (C : Cx γ cc nL ret own rm tys) {i : Nat} {x : Int32} {lv' : List (Nat × Value)} (hd : decode cc pc = .ok (.istore i, 2)) (hn : i < nL) (hl' : (i, Value.int x) :: lv.filter (fun q => !(q.1 == i) && !(q.1 + 1 == i && q.2.category == 2)) = lv') (k : AtG γ wf nL cs sl (pc + 2) lv' rest u) : AtG γ wf nL cs sl pc lv (.int x :: rest) u :=
  fun H locs ls hP hD hS hl => lv_istore C.hx C.hb hd hl hn hl' (fun ls1 hl1 => k H locs ls1 hP hD hS hl1)
theorem x_astore_n (C : Cx γ cc nL ret own rm tys) {j : Fin 4} {i : Nat} {x : Nat} {lv' : List (Nat × Value)} (hd : decode cc pc = .ok (.astore_n j, 1)) (hi : (j : Nat) = i) (hn : i < nL) (hl' : (i, Value.ref x) :: lv.filter (fun q => !(q.1 == i) && !(q.1 + 1 == i && q.2.category == 2)) = lv') (k : AtG γ wf nL cs sl (pc + 1) lv' rest u) : AtG γ wf nL cs sl pc lv (.ref x :: rest) u :=
  fun H locs ls hP hD hS hl => lv_astore_n C.hx C.hb hd hi hl hn hl' (fun ls1 hl1 => k H locs ls1 hP hD hS hl1)
theorem x_astore (C : Cx γ cc nL ret own rm tys) {i : Nat} {x : Nat} {lv' : List (Nat × Value)} (hd : decode cc pc = .ok (.astore i, 2)) (hn : i < nL) (hl' : (i, Value.ref x) :: lv.filter (fun q => !(q.1 == i) && !(q.1 + 1 == i && q.2.category == 2)) = lv') (k : AtG γ wf nL cs sl (pc + 2) lv' rest u) : AtG γ wf nL cs sl pc lv (.ref x :: rest) u :=
  fun H locs ls hP hD hS hl => lv_astore C.hx C.hb hd hl hn hl' (fun ls1 hl1 => k H locs ls1 hP hD hS hl1)
theorem x_iinc (C : Cx γ cc nL ret own rm tys) {i k : Nat} {n : Int} {x v : Int32} {lv' : List (Nat × Value)} (hd : decode cc pc = .ok (.iinc i n, 3)) (hk : lv[k]? = some (i, .int x)) (hv : x + Int32.ofInt n = v) (hn : i < nL) (hl' : (i, Value.int v) :: lv.filter (fun q => !(q.1 == i) && !(q.1 + 1 == i && q.2.category == 2)) = lv') (kk : AtG γ wf nL cs sl (pc + 3) lv' rest u) : AtG γ wf nL cs sl pc lv rest u :=
  fun H locs ls hP hD hS hl => lv_iinc C.hx C.hb hd hl hk hv hn hl' (fun ls1 hl1 => kk H locs ls1 hP hD hS hl1)
theorem x_iadd (C : Cx γ cc nL ret own rm tys) {x y : Int32} (hd : decode cc pc = .ok (.iadd, 1)) (kk : AtG γ wf nL cs sl (pc + 1) lv (.int (x + y) :: rest) u) : AtG γ wf nL cs sl pc lv (.int y :: .int x :: rest) u :=
  fun H locs ls hP hD hS hl => lv_iadd C.hx C.hb hd (kk H locs ls hP hD hS hl)
theorem x_isub (C : Cx γ cc nL ret own rm tys) {x y : Int32} (hd : decode cc pc = .ok (.isub, 1)) (kk : AtG γ wf nL cs sl (pc + 1) lv (.int (x - y) :: rest) u) : AtG γ wf nL cs sl pc lv (.int y :: .int x :: rest) u :=
  fun H locs ls hP hD hS hl => lv_isub C.hx C.hb hd (kk H locs ls hP hD hS hl)
theorem x_imul (C : Cx γ cc nL ret own rm tys) {x y : Int32} (hd : decode cc pc = .ok (.imul, 1)) (kk : AtG γ wf nL cs sl (pc + 1) lv (.int (x * y) :: rest) u) : AtG γ wf nL cs sl pc lv (.int y :: .int x :: rest) u :=
  fun H locs ls hP hD hS hl => lv_imul C.hx C.hb hd (kk H locs ls hP hD hS hl)
theorem x_iand (C : Cx γ cc nL ret own rm tys) {x y : Int32} (hd : decode cc pc = .ok (.iand, 1)) (kk : AtG γ wf nL cs sl (pc + 1) lv (.int (x &&& y) :: rest) u) : AtG γ wf nL cs sl pc lv (.int y :: .int x :: rest) u :=
  fun H locs ls hP hD hS hl => lv_iand C.hx C.hb hd (kk H locs ls hP hD hS hl)
theorem x_ior (C : Cx γ cc nL ret own rm tys) {x y : Int32} (hd : decode cc pc = .ok (.ior, 1)) (kk : AtG γ wf nL cs sl (pc + 1) lv (.int (x ||| y) :: rest) u) : AtG γ wf nL cs sl pc lv (.int y :: .int x :: rest) u :=
  fun H locs ls hP hD hS hl => lv_ior C.hx C.hb hd (kk H locs ls hP hD hS hl)
theorem x_ixor (C : Cx γ cc nL ret own rm tys) {x y : Int32} (hd : decode cc pc = .ok (.ixor, 1)) (kk : AtG γ wf nL cs sl (pc + 1) lv (.int (x ^^^ y) :: rest) u) : AtG γ wf nL cs sl pc lv (.int y :: .int x :: rest) u :=
  fun H locs ls hP hD hS hl => lv_ixor C.hx C.hb hd (kk H locs ls hP hD hS hl)
theorem x_ishl (C : Cx γ cc nL ret own rm tys) {x y : Int32} (hd : decode cc pc = .ok (.ishl, 1)) (kk : AtG γ wf nL cs sl (pc + 1) lv (.int (x <<< (y &&& 31)) :: rest) u) : AtG γ wf nL cs sl pc lv (.int y :: .int x :: rest) u :=
  fun H locs ls hP hD hS hl => lv_ishl C.hx C.hb hd (kk H locs ls hP hD hS hl)
theorem x_ishr (C : Cx γ cc nL ret own rm tys) {x y : Int32} (hd : decode cc pc = .ok (.ishr, 1)) (kk : AtG γ wf nL cs sl (pc + 1) lv (.int (x >>> (y &&& 31)) :: rest) u) : AtG γ wf nL cs sl pc lv (.int y :: .int x :: rest) u :=
  fun H locs ls hP hD hS hl => lv_ishr C.hx C.hb hd (kk H locs ls hP hD hS hl)
theorem x_iushr (C : Cx γ cc nL ret own rm tys) {x y : Int32} (hd : decode cc pc = .ok (.iushr, 1)) (kk : AtG γ wf nL cs sl (pc + 1) lv (.int (ush x y) :: rest) u) : AtG γ wf nL cs sl pc lv (.int y :: .int x :: rest) u :=
  fun H locs ls hP hD hS hl => lv_iushr C.hx C.hb hd rfl (kk H locs ls hP hD hS hl)
theorem x_idiv (C : Cx γ cc nL ret own rm tys) {x y : Int32} (hd : decode cc pc = .ok (.idiv, 1)) (hne : ¬ y = 0) (kk : AtG γ wf nL cs sl (pc + 1) lv (.int (x / y) :: rest) u) : AtG γ wf nL cs sl pc lv (.int y :: .int x :: rest) u :=
  fun H locs ls hP hD hS hl => lv_idiv C.hx C.hb hd hne (kk H locs ls hP hD hS hl)
theorem x_irem (C : Cx γ cc nL ret own rm tys) {x y : Int32} (hd : decode cc pc = .ok (.irem, 1)) (hne : ¬ y = 0) (kk : AtG γ wf nL cs sl (pc + 1) lv (.int (x - x / y * y) :: rest) u) : AtG γ wf nL cs sl pc lv (.int y :: .int x :: rest) u :=
  fun H locs ls hP hD hS hl => lv_irem C.hx C.hb hd hne (kk H locs ls hP hD hS hl)
theorem x_ineg (C : Cx γ cc nL ret own rm tys) {x : Int32} (hd : decode cc pc = .ok (.ineg, 1)) (kk : AtG γ wf nL cs sl (pc + 1) lv (.int (-x) :: rest) u) : AtG γ wf nL cs sl pc lv (.int x :: rest) u :=
  fun H locs ls hP hD hS hl => lv_ineg C.hx C.hb hd (kk H locs ls hP hD hS hl)
theorem x_dup (C : Cx γ cc nL ret own rm tys) {va : Value} (hd : decode cc pc = .ok (.dup, 1)) (h1 : va.category = 1) (kk : AtG γ wf nL cs sl (pc + 1) lv (va :: va :: rest) u) : AtG γ wf nL cs sl pc lv (va :: rest) u :=
  fun H locs ls hP hD hS hl => lv_dup C.hx C.hb hd h1 (kk H locs ls hP hD hS hl)
theorem x_dup2 (C : Cx γ cc nL ret own rm tys) {va vb : Value} (hd : decode cc pc = .ok (.dup2, 1)) (h1 : va.category = 1) (h2 : vb.category = 1) (kk : AtG γ wf nL cs sl (pc + 1) lv (va :: vb :: va :: vb :: rest) u) : AtG γ wf nL cs sl pc lv (va :: vb :: rest) u :=
  fun H locs ls hP hD hS hl => lv_dup2_11 C.hx C.hb hd h1 h2 (kk H locs ls hP hD hS hl)
theorem x_pop (C : Cx γ cc nL ret own rm tys) {va : Value} (hd : decode cc pc = .ok (.pop, 1)) (h1 : va.category = 1) (kk : AtG γ wf nL cs sl (pc + 1) lv rest u) : AtG γ wf nL cs sl pc lv (va :: rest) u :=
  fun H locs ls hP hD hS hl => lv_pop C.hx C.hb hd h1 (kk H locs ls hP hD hS hl)
theorem x_goto (C : Cx γ cc nL ret own rm tys) {off : Int} {tgt : Nat} (hd : decode cc pc = .ok (.goto off, 3)) (ht : (pc : Int) + off = (tgt : Int)) (k : AtG γ wf nL cs sl tgt lv rest u) : AtG γ wf nL cs sl pc lv rest u :=
  fun H locs ls hP hD hS hl => lv_goto C.hx C.hb hd ht (k H locs ls hP hD hS hl)
theorem x_if_eq (C : Cx γ cc nL ret own rm tys) {x : Int32} {off : Int} {tgt : Nat} (hd : decode cc pc = .ok (.ifCond .eq off, 3)) (ht : (pc : Int) + off = (tgt : Int)) (kt : x = 0 → AtG γ wf nL cs sl tgt lv rest u) (kf : ¬ x = 0 → AtG γ wf nL cs sl (pc + 3) lv rest u) : AtG γ wf nL cs sl pc lv (.int x :: rest) u :=
  fun H locs ls hP hD hS hl => lv_if_eq C.hx C.hb hd ht (fun h => kt h H locs ls hP hD hS hl) (fun h => kf h H locs ls hP hD hS hl)
theorem x_if_ne (C : Cx γ cc nL ret own rm tys) {x : Int32} {off : Int} {tgt : Nat} (hd : decode cc pc = .ok (.ifCond .ne off, 3)) (ht : (pc : Int) + off = (tgt : Int)) (kt : ¬ x = 0 → AtG γ wf nL cs sl tgt lv rest u) (kf : x = 0 → AtG γ wf nL cs sl (pc + 3) lv rest u) : AtG γ wf nL cs sl pc lv (.int x :: rest) u :=
  fun H locs ls hP hD hS hl => lv_if_ne C.hx C.hb hd ht (fun h => kt h H locs ls hP hD hS hl) (fun h => kf h H locs ls hP hD hS hl)
theorem x_if_lt (C : Cx γ cc nL ret own rm tys) {x : Int32} {off : Int} {tgt : Nat} (hd : decode cc pc = .ok (.ifCond .lt off, 3)) (ht : (pc : Int) + off = (tgt : Int)) (kt : x < 0 → AtG γ wf nL cs sl tgt lv rest u) (kf : ¬ x < 0 → AtG γ wf nL cs sl (pc + 3) lv rest u) : AtG γ wf nL cs sl pc lv (.int x :: rest) u :=
  fun H locs ls hP hD hS hl => lv_if_lt C.hx C.hb hd ht (fun h => kt h H locs ls hP hD hS hl) (fun h => kf h H locs ls hP hD hS hl)
theorem x_if_ge (C : Cx γ cc nL ret own rm tys) {x : Int32} {off : Int} {tgt : Nat} (hd : decode cc pc = .ok (.ifCond .ge off, 3)) (ht : (pc : Int) + off = (tgt : Int)) (kt : 0 ≤ x → AtG γ wf nL cs sl tgt lv rest u) (kf : ¬ 0 ≤ x → AtG γ wf nL cs sl (pc + 3) lv rest u) : AtG γ wf nL cs sl pc lv (.int x :: rest) u :=
  fun H locs ls hP hD hS hl => lv_if_ge C.hx C.hb hd ht (fun h => kt h H locs ls hP hD hS hl) (fun h => kf h H locs ls hP hD hS hl)
theorem x_if_gt (C : Cx γ cc nL ret own rm tys) {x : Int32} {off : Int} {tgt : Nat} (hd : decode cc pc = .ok (.ifCond .gt off, 3)) (ht : (pc : Int) + off = (tgt : Int)) (kt : 0 < x → AtG γ wf nL cs sl tgt lv rest u) (kf : ¬ 0 < x → AtG γ wf nL cs sl (pc + 3) lv rest u) : AtG γ wf nL cs sl pc lv (.int x :: rest) u :=
  fun H locs ls hP hD hS hl => lv_if_gt C.hx C.hb hd ht (fun h => kt h H locs ls hP hD hS hl) (fun h => kf h H locs ls hP hD hS hl)
theorem x_if_le (C : Cx γ cc nL ret own rm tys) {x : Int32} {off : Int} {tgt : Nat} (hd : decode cc pc = .ok (.ifCond .le off, 3)) (ht : (pc : Int) + off = (tgt : Int)) (kt : x ≤ 0 → AtG γ wf nL cs sl tgt lv rest u) (kf : ¬ x ≤ 0 → AtG γ wf nL cs sl (pc + 3) lv rest u) : AtG γ wf nL cs sl pc lv (.int x :: rest) u :=
  fun H locs ls hP hD hS hl => lv_if_le C.hx C.hb hd ht (fun h => kt h H locs ls hP hD hS hl) (fun h => kf h H locs ls hP hD hS hl)
theorem x_icmp_eq (C : Cx γ cc nL ret own rm tys) {x y : Int32} {off : Int} {tgt : Nat} (hd : decode cc pc = .ok (.if_icmp .eq off, 3)) (ht : (pc : Int) + off = (tgt : Int)) (kt : x = y → AtG γ wf nL cs sl tgt lv rest u) (kf : ¬ x = y → AtG γ wf nL cs sl (pc + 3) lv rest u) : AtG γ wf nL cs sl pc lv (.int y :: .int x :: rest) u :=
  fun H locs ls hP hD hS hl => lv_icmp_eq C.hx C.hb hd ht (fun h => kt h H locs ls hP hD hS hl) (fun h => kf h H locs ls hP hD hS hl)
theorem x_icmp_ne (C : Cx γ cc nL ret own rm tys) {x y : Int32} {off : Int} {tgt : Nat} (hd : decode cc pc = .ok (.if_icmp .ne off, 3)) (ht : (pc : Int) + off = (tgt : Int)) (kt : ¬ x = y → AtG γ wf nL cs sl tgt lv rest u) (kf : x = y → AtG γ wf nL cs sl (pc + 3) lv rest u) : AtG γ wf nL cs sl pc lv (.int y :: .int x :: rest) u :=
  fun H locs ls hP hD hS hl => lv_icmp_ne C.hx C.hb hd ht (fun h => kt h H locs ls hP hD hS hl) (fun h => kf h H locs ls hP hD hS hl)
theorem x_icmp_lt (C : Cx γ cc nL ret own rm tys) {x y : Int32} {off : Int} {tgt : Nat} (hd : decode cc pc = .ok (.if_icmp .lt off, 3)) (ht : (pc : Int) + off = (tgt : Int)) (kt : x < y → AtG γ wf nL cs sl tgt lv rest u) (kf : ¬ x < y → AtG γ wf nL cs sl (pc + 3) lv rest u) : AtG γ wf nL cs sl pc lv (.int y :: .int x :: rest) u :=
  fun H locs ls hP hD hS hl => lv_icmp_lt C.hx C.hb hd ht (fun h => kt h H locs ls hP hD hS hl) (fun h => kf h H locs ls hP hD hS hl)
theorem x_icmp_ge (C : Cx γ cc nL ret own rm tys) {x y : Int32} {off : Int} {tgt : Nat} (hd : decode cc pc = .ok (.if_icmp .ge off, 3)) (ht : (pc : Int) + off = (tgt : Int)) (kt : y ≤ x → AtG γ wf nL cs sl tgt lv rest u) (kf : ¬ y ≤ x → AtG γ wf nL cs sl (pc + 3) lv rest u) : AtG γ wf nL cs sl pc lv (.int y :: .int x :: rest) u :=
  fun H locs ls hP hD hS hl => lv_icmp_ge C.hx C.hb hd ht (fun h => kt h H locs ls hP hD hS hl) (fun h => kf h H locs ls hP hD hS hl)
theorem x_icmp_gt (C : Cx γ cc nL ret own rm tys) {x y : Int32} {off : Int} {tgt : Nat} (hd : decode cc pc = .ok (.if_icmp .gt off, 3)) (ht : (pc : Int) + off = (tgt : Int)) (kt : y < x → AtG γ wf nL cs sl tgt lv rest u) (kf : ¬ y < x → AtG γ wf nL cs sl (pc + 3) lv rest u) : AtG γ wf nL cs sl pc lv (.int y :: .int x :: rest) u :=
  fun H locs ls hP hD hS hl => lv_icmp_gt C.hx C.hb hd ht (fun h => kt h H locs ls hP hD hS hl) (fun h => kf h H locs ls hP hD hS hl)
theorem x_icmp_le (C : Cx γ cc nL ret own rm tys) {x y : Int32} {off : Int} {tgt : Nat} (hd : decode cc pc = .ok (.if_icmp .le off, 3)) (ht : (pc : Int) + off = (tgt : Int)) (kt : x ≤ y → AtG γ wf nL cs sl tgt lv rest u) (kf : ¬ x ≤ y → AtG γ wf nL cs sl (pc + 3) lv rest u) : AtG γ wf nL cs sl pc lv (.int y :: .int x :: rest) u :=
  fun H locs ls hP hD hS hl => lv_icmp_le C.hx C.hb hd ht (fun h => kt h H locs ls hP hD hS hl) (fun h => kf h H locs ls hP hD hS hl)
theorem x_tsw (C : Cx γ cc nL ret own rm tys) {dflt lo hi : Int} {offs : Array Int} {len : Nat} {x c : Int32} {off : Int} {tgt : Nat} (hd : decode cc pc = .ok (.tableswitch dflt lo hi offs, len)) (hx : x = c) (ho : (if c.toInt < lo ∨ hi < c.toInt then none else offs[(c.toInt - lo).toNat]?) = some off) (ht : (pc : Int) + off = (tgt : Int)) (k : AtG γ wf nL cs sl tgt lv rest u) : AtG γ wf nL cs sl pc lv (.int x :: rest) u := by
  intro H locs ls hP hD hS hl
  subst hx
  by_cases h : x.toInt < lo ∨ hi < x.toInt
  · rw [if_pos h] at ho; cases ho
  · rw [if_neg h] at ho
    exact lv_tableIn C.hx C.hb hd (fun z => h (Or.inl z)) (fun z => h (Or.inr z)) ho ht (k H locs ls hP hD hS hl)
theorem x_tswo (C : Cx γ cc nL ret own rm tys) {dflt lo hi : Int} {offs : Array Int} {len : Nat} {x : Int32} {tgt : Nat} (hd : decode cc pc = .ok (.tableswitch dflt lo hi offs, len)) (h : x.toInt < lo ∨ hi < x.toInt) (ht : (pc : Int) + dflt = (tgt : Int)) (k : AtG γ wf nL cs sl tgt lv rest u) : AtG γ wf nL cs sl pc lv (.int x :: rest) u :=
  fun H locs ls hP hD hS hl => lv_tableOut C.hx C.hb hd h ht (k H locs ls hP hD hS hl)
theorem x_lsw (C : Cx γ cc nL ret own rm tys) {dflt : Int} {ps : Array (Int × Int)} {len : Nat} {x c : Int32} {off : Int} {tgt : Nat} (hd : decode cc pc = .ok (.lookupswitch dflt ps, len)) (hx : x = c) (hp : (ps.toList.zip (ps.toList.drop 1)).all (fun (a, next) => a.1 < next.1) = true) (ho : Op.lookupswitch.offset ps.toList dflt c.toInt = off) (ht : (pc : Int) + off = (tgt : Int)) (k : AtG γ wf nL cs sl tgt lv rest u) : AtG γ wf nL cs sl pc lv (.int x :: rest) u := by
  subst hx
  exact fun H locs ls hP hD hS hl => lv_lookup C.hx C.hb hd hp ho ht (k H locs ls hP hD hS hl)
theorem x_lswo (C : Cx γ cc nL ret own rm tys) {dflt : Int} {ps : Array (Int × Int)} {len : Nat} {x : Int32} {tgt : Nat} (hd : decode cc pc = .ok (.lookupswitch dflt ps, len)) (hp : (ps.toList.zip (ps.toList.drop 1)).all (fun (a, next) => a.1 < next.1) = true) (ho : ∀ q ∈ ps.toList, ¬ q.1 = x.toInt) (ht : (pc : Int) + dflt = (tgt : Int)) (k : AtG γ wf nL cs sl tgt lv rest u) : AtG γ wf nL cs sl pc lv (.int x :: rest) u := by
  refine fun H locs ls hP hD hS hl => lv_lookup C.hx C.hb hd hp ?_ ht (k H locs ls hP hD hS hl)
  have key : ∀ L : List (Int × Int), (∀ q ∈ L, ¬ q.1 = x.toInt) → Op.lookupswitch.offset L dflt x.toInt = dflt := by
    intro L h
    induction L with
    | nil => rfl
    | cons q L ih =>
      have h1 := h q List.mem_cons_self
      have h2 := ih (fun z hz => h z (List.mem_cons_of_mem _ hz))
      simp only [Op.lookupswitch.offset] at h2 ⊢
      simp_all
  exact key _ ho
theorem x_sub {lv' : List (Nat × Value)} {st : List Value} (ks : List Nat) (h : lv_pick lv ks = lv') (k : AtG γ wf nL cs sl pc lv' st u) : AtG γ wf nL cs sl pc lv st u :=
  fun H locs ls hP hD hS hl => k H locs ls hP hD hS (lv_sub hl ks h)
end XR
/-- the ends -/
def QI {S : Type} (γ : CX) (tys : Tys) (wf : S → va_W) (r0 : Int32) (u0 : S) : Prop :=
  γQ γ = MQ (γb γ) (va_Qi (fun (r : Int32) (u' : S) => r = r0 ∧ u' = u0) (fun (u' : S) (t : State) => va_P (γD γ) vwCl (wf u') t.heap ∧ va_K (γD γ) vwCl tys t ∧ va_D (γA γ) (wf u')) (γA γ)) (γa γ) (γs γ) 0 0 (γA γ)
def QV {S : Type} (γ : CX) (tys : Tys) (wf : S → va_W) (u0 : S) : Prop :=
  γQ γ = MQ (γb γ) (va_Qv (fun (u' : S) => u' = u0) (fun (u' : S) (t : State) => va_P (γD γ) vwCl (wf u') t.heap ∧ va_K (γD γ) vwCl tys t ∧ va_D (γA γ) (wf u')) (γA γ)) (γa γ) (γs γ) 0 0 (γA γ)
section XE
variable {S : Type} {γ : CX} {cc : ByteArray} {nL : Nat} {own : String} {rm : Room} {tys : Tys} {wf : S → va_W} {pc : Nat} {lv : List (Nat × Value)} {u u0 : S} {v r0 : Int32}
theorem x_iret (C : Cx γ cc nL (some .int) own rm tys) (hQ : QI γ tys wf r0 u0) (hv : v = r0) (hu : u = u0) (hd : decode cc pc = .ok (.ireturn, 1)) : AtG γ wf nL 0 0 pc lv [.int v] u := by
  intro H locs ls hP hD hS hl
  subst hv hu
  have hQ' := hQ
  unfold QI at hQ'
  rw [hQ']
  exact W.iret C.hx C.hb C.hr (fun t ht hW => ⟨⟨v, u, rfl, ⟨rfl, rfl⟩, by rw [ht]; exact hP, va_K.moved hW.alike C.hK, hD⟩, hS.F ht⟩) hS.2.2 hd C.hlocks
theorem x_zret (C : Cx γ cc nL (some .boolean) own rm tys) (hQ : QI γ tys wf r0 u0) (hn : narrow .boolean (.int v) = .int v) (hv : v = r0) (hu : u = u0) (hd : decode cc pc = .ok (.ireturn, 1)) : AtG γ wf nL 0 0 pc lv [.int v] u := by
  intro H locs ls hP hD hS hl
  subst hv hu
  have hQ' := hQ
  unfold QI at hQ'
  rw [hQ']
  exact W.zret C.hx C.hb C.hr hn (fun t ht hW => ⟨⟨v, u, rfl, ⟨rfl, rfl⟩, by rw [ht]; exact hP, va_K.moved hW.alike C.hK, hD⟩, hS.F ht⟩) hS.2.2 hd C.hlocks
theorem x_vret (C : Cx γ cc nL none own rm tys) (hQ : QV γ tys wf u0) (hu : u = u0) (hd : decode cc pc = .ok (.return_, 1)) : AtG γ wf nL 0 0 pc lv [] u := by
  intro H locs ls hP hD hS hl
  subst hu
  have hQ' := hQ
  unfold QV at hQ'
  rw [hQ']
  exact W.vret C.hx C.hb C.hr (fun t ht hW => ⟨⟨u, rfl, rfl, by rw [ht]; exact hP, va_K.moved hW.alike C.hK, hD⟩, hS.F ht⟩) hS.2.2 hd C.hlocks
end XE
/-- contracts over a whole world -/
def CtP {S : Type} (D : va_G) (tys : Tys) (wf : S → va_W) (av : List Value) (u : S) (sz : Nat) : Array Value → State → Prop :=
  va_Pc av (fun U => U.heap.size = sz ∧ va_P D vwCl (wf u) U.heap ∧ va_K D vwCl tys U ∧ va_D (fun _ => True) (wf u) ∧ Nst U)
def CtI {S : Type} (l : Launch) (y : MethodName) (b : ByteArray) (L : Nat) (ret : Option FieldType) (rm : Room) (D : va_G) (tys : Tys) (wf : S → va_W) (av : List Value) (u : S) (r0 : Int32) (u0 : S) : Prop :=
  ∀ sz : Nat, Met l y (.code y b L ret :: WB) rm (CtP D tys wf av u sz) (va_Qi (fun (r : Int32) (u' : S) => r = r0 ∧ u' = u0) (fun (u' : S) (t : State) => va_P D vwCl (wf u') t.heap ∧ va_K D vwCl tys t ∧ va_D (va_A (wf u) sz) (wf u')) (va_A (wf u) sz)) 0 0 (va_A (wf u) sz)
def CtV {S : Type} (l : Launch) (y : MethodName) (b : ByteArray) (L : Nat) (ret : Option FieldType) (rm : Room) (D : va_G) (tys : Tys) (wf : S → va_W) (av : List Value) (u u0 : S) : Prop :=
  ∀ sz : Nat, Met l y (.code y b L ret :: WB) rm (CtP D tys wf av u sz) (va_Qv (fun (u' : S) => u' = u0) (fun (u' : S) (t : State) => va_P D vwCl (wf u') t.heap ∧ va_K D vwCl tys t ∧ va_D (va_A (wf u) sz) (wf u')) (va_A (wf u) sz)) 0 0 (va_A (wf u) sz)
theorem CtP.blind {S : Type} {D : va_G} {tys : Tys} {wf : S → va_W} {av : List Value} {u : S} {sz : Nat} : FrameBlind (CtP D tys wf av u sz) := fun a U g mk q => by
  obtain ⟨q0, q1, qP, qK, qD, qN⟩ := q
  exact ⟨q0, q1, qP, va_K.moved (u := U) (U := U.calling g mk a) (Vm.Alike.refl U.vm) qK, qD, qN.same (U := U.calling g mk a) rfl⟩
section CTO
variable {S : Type} {l : Launch} {y : MethodName} {rm : Room} {D : va_G} {tys : Tys} {wf : S → va_W} {av : List Value} {u u0 : S} {r0 : Int32} {cc : ByteArray} {maxL : Nat} {ret : Option FieldType}
theorem ct_ofI (hy : plainName y.cls = true) (hlen : (lg_sl av).length ≤ maxL) (k : ∀ γ : CX, γl γ = l → γD γ = D → Cx γ cc maxL ret y.cls rm tys → QI γ tys wf r0 u0 → AtG γ wf maxL 0 0 0 (lv_args 0 av) [] u) : CtI l y cc maxL ret rm D tys wf av u r0 u0 := by
  intro sz
  refine Met.ofW (cc := cc) (maxL := maxL) (ret := ret) hy rfl ?_
  intro p e s m args below meth c s₁ B hml hv
  obtain ⟨rfl, hsz, hP, hK, hD0, hN⟩ := hv
  subst hsz
  have hD := hD0.self (sz := s.heap.size)
  have key := k (p, l, e, (headSpec (.code y cc maxL ret :: WB) rm).room, s, m, av.toArray, below, meth, c, MQ below (va_Qi (fun (r : Int32) (u' : S) => r = r0 ∧ u' = u0) (fun (u' : S) (t : State) => va_P D vwCl (wf u') t.heap ∧ va_K D vwCl tys t ∧ va_D (va_A (wf u) s.heap.size) (wf u')) (va_A (wf u) s.heap.size)) av.toArray s 0 0 (va_A (wf u) s.heap.size), D, va_A (wf u) s.heap.size) rfl rfl ⟨B.exec, B.bytes, hml, B.returns, findClass_of_methodNamed B.named, fun w hw => atoms_spec (ws := .code y cc maxL ret :: WB) B.pre w (List.mem_cons_of_mem _ hw), B.notSynchronized, hK, fun q h => Or.inr h, rfl, hN⟩ rfl
  have hl := lv_entry av (n := maxL) hlen
  rw [lg_entry_eq]
  exact key s.heap [] _ hP hD va_S.rf hl
theorem ct_ofV (hy : plainName y.cls = true) (hlen : (lg_sl av).length ≤ maxL) (k : ∀ γ : CX, γl γ = l → γD γ = D → Cx γ cc maxL ret y.cls rm tys → QV γ tys wf u0 → AtG γ wf maxL 0 0 0 (lv_args 0 av) [] u) : CtV l y cc maxL ret rm D tys wf av u u0 := by
  intro sz
  refine Met.ofW (cc := cc) (maxL := maxL) (ret := ret) hy rfl ?_
  intro p e s m args below meth c s₁ B hml hv
  obtain ⟨rfl, hsz, hP, hK, hD0, hN⟩ := hv
  subst hsz
  have hD := hD0.self (sz := s.heap.size)
  have key := k (p, l, e, (headSpec (.code y cc maxL ret :: WB) rm).room, s, m, av.toArray, below, meth, c, MQ below (va_Qv (fun (u' : S) => u' = u0) (fun (u' : S) (t : State) => va_P D vwCl (wf u') t.heap ∧ va_K D vwCl tys t ∧ va_D (va_A (wf u) s.heap.size) (wf u')) (va_A (wf u) s.heap.size)) av.toArray s 0 0 (va_A (wf u) s.heap.size), D, va_A (wf u) s.heap.size) rfl rfl ⟨B.exec, B.bytes, hml, B.returns, findClass_of_methodNamed B.named, fun w hw => atoms_spec (ws := .code y cc maxL ret :: WB) B.pre w (List.mem_cons_of_mem _ hw), B.notSynchronized, hK, fun q h => Or.inr h, rfl, hN⟩ rfl
  have hl := lv_entry av (n := maxL) hlen
  rw [lg_entry_eq]
  exact key s.heap [] _ hP hD va_S.rf hl
end CTO

/-- rooms by rank -/
def rk (k : Nat) : Room := { frames := k, cells := 0, slots := 0, locals := 40 * k }
theorem wb_gi {y : MethodName} {b : ByteArray} {L : Nat} {ret : Option FieldType} (h : Cond.code y b L ret ∈ WB) : GoodIn WB (.code y b L ret :: WB) := fun w hw => (List.mem_cons.mp hw).elim (fun e => by rw [e]; exact ⟨h, wb_good _ h⟩) (fun h => ⟨h, wb_good w h⟩)
/-- what a call asks of the callee -/
def Cal (y : MethodName) (b : ByteArray) (L : Nat) (ret : Option FieldType) (n : Nat) : Prop := Cond.code y b L ret ∈ WB ∧ Cond.initialized y.cls ∈ WB ∧ (y.cls ≠ "java/lang/invoke/MethodHandle" ∧ y.cls ≠ "java/lang/invoke/VarHandle" ∧ (parseMethodDescriptor y.desc).map (fun d => d.parameters.length) = some n)
def Rok (rm2 rm : Room) (L : Nat) : Prop := (rm2.cells = 0 ∧ rm2.slots = 0) ∧ (rm2.frames + 1 ≤ rm.frames ∧ 8 + (L + 11) + rm2.locals ≤ rm.locals)
section XC
variable {S : Type} {γ : CX} {cc : ByteArray} {nL : Nat} {ret : Option FieldType} {own : String} {rm : Room} {tys : Tys} {wf : S → va_W} {pc : Nat} {lv : List (Nat × Value)} {rest st : List Value} {u u0 : S}
variable {y : MethodName} {b : ByteArray} {L n index : Nat} {ret2 : Option FieldType} {rm2 : Room} {As : List Value} {r0 : Int32}
theorem xc_free {H : Heap} {locs : List Loc} (C : Cx γ cc nL ret own rm tys) (hD : va_D (γA γ) (wf u)) (hS : va_S (γA γ) (γs γ).heap H locs) : ∀ q, va_A (wf u) H.size q → γA γ q := by
  rintro q (⟨k, e, hk⟩ | h)
  · exact hD.2 k (q, e) hk
  · exact C.hA q (Nat.le_trans hS.1 h)
theorem xc_pre {H : Heap} (C : Cx γ cc nL ret own rm tys) (hP : va_P (γD γ) vwCl (wf u) H) (hD : va_D (γA γ) (wf u)) (av : List Value) : PreS (γs γ) H (CtP (γD γ) tys wf av u H.size) av :=
  ⟨CtP.blind, fun U hU hW => ⟨rfl, by rw [hU], by rw [hU]; exact hP, va_K.moved hW.alike C.hK, hD.weaken (fun _ _ _ _ => trivial), C.hN.warm hW⟩⟩
theorem xc_B (C : Cx γ cc nL ret own rm tys) (hc : Cal y b L ret2 n) (hr : Rok rm2 rm L) (hl : Cond.methodLink own index y ∈ WB) : CallB (γR γ) (γs γ) (γa γ) own index y b L ret2 (.code y b L ret2 :: WB) rm2 0 0 n := by
  rw [C.hR]
  exact callB_of n C.hts (wb_gi hc.1) rfl hr.1.1 hr.1.2 (C.hts _ hc.2.1) (C.hts _ hl) hc.2.2 hr.2
theorem xc_N (C : Cx γ cc nL ret own rm tys) (hc : Cal y b L ret2 n) (hr : Rok rm2 rm L) (hl : (own, index, y) ∈ nestQ) : va_CN (γR γ) (γs γ) (γa γ) own index y "PackagePick" b L ret2 (.code y b L ret2 :: WB) rm2 0 0 n := by
  rw [C.hR]
  exact va_cnB n C.hts (wb_gi hc.1) rfl hr.1.1 hr.1.2 (C.hN _ hl) (C.hts _ hc.2.1) hc.2.2 hr.2
theorem xc_room (C : Cx γ cc nL ret own rm tys) : 0 + 0 ≤ (γR γ).cells ∧ 0 + 0 ≤ (γR γ).slots := ⟨Nat.zero_le _, Nat.zero_le _⟩
theorem x_callIs (C : Cx γ cc nL ret own rm tys) (hct : CtI (γl γ) y b L ret2 rm2 (γD γ) tys wf As u r0 u0) (hc : Cal y b L ret2 n) (hr : Rok rm2 rm L) (hl : Cond.methodLink own index y ∈ WB) (hs : Cond.static y ∈ WB) (hn : As.length = n) (hst : st = As.reverse ++ rest) (h8 : (rest.map fun v => v.category).sum ≤ 8) (hd : decode cc pc = .ok (.invokestatic index, 3)) (k : AtG γ wf nL 0 0 (pc + 3) lv (.int r0 :: rest) u0) : AtG γ wf nL 0 0 pc lv st u := by
  intro H locs ls hP hD hS hl1
  have hF := xc_free C hD hS
  refine va_calli (va_runS (As := As) (rest := rest) ⟨C.hx, C.hb, C.hml, C.hown, C.hts⟩ (hct H.size) ⟨xc_B C hc hr hl, C.hts _ hs⟩ (xc_pre C hP hD As) rfl hn hl1.1 hst (lv_room h8) hd (xc_room C)) hS (fun q _ h => hF q h) hF (fun r u1 t H1 locs1 ht hvm hw hB hz1 hk1 hS1 => ?_)
  obtain ⟨rfl, rfl⟩ := hw
  obtain ⟨hP1, hK1, hD1⟩ := hB
  rw [ht] at hP1
  exact k H1 locs1 ls hP1 (hD1.weaken (fun _ q _ h => hF q.1 h)) hS1 hl1
theorem x_callIn (C : Cx γ cc nL ret own rm tys) (hct : CtI (γl γ) y b L ret2 rm2 (γD γ) tys wf As u r0 u0) (hc : Cal y b L ret2 n) (hr : Rok rm2 rm L) (hl : (own, index, y) ∈ nestQ) (hs : Cond.static y ∈ WB) (hn : As.length = n) (hst : st = As.reverse ++ rest) (h8 : (rest.map fun v => v.category).sum ≤ 8) (hd : decode cc pc = .ok (.invokestatic index, 3)) (k : AtG γ wf nL 0 0 (pc + 3) lv (.int r0 :: rest) u0) : AtG γ wf nL 0 0 pc lv st u := by
  intro H locs ls hP hD hS hl1
  have hF := xc_free C hD hS
  refine va_calli (va_runSN (As := As) (rest := rest) ⟨C.hx, C.hb, C.hml, C.hown, C.hts⟩ (hct H.size) ⟨xc_N C hc hr hl, C.hts _ hs, trivial⟩ (xc_pre C hP hD As) rfl hn hl1.1 hst (lv_room h8) hd (xc_room C)) hS (fun q _ h => hF q h) hF (fun r u1 t H1 locs1 ht hvm hw hB hz1 hk1 hS1 => ?_)
  obtain ⟨rfl, rfl⟩ := hw
  obtain ⟨hP1, hK1, hD1⟩ := hB
  rw [ht] at hP1
  exact k H1 locs1 ls hP1 (hD1.weaken (fun _ q _ h => hF q.1 h)) hS1 hl1
variable {Cn : String} {T : u_T} {N ci q0 a : Nat} {fs : List Value}
theorem x_callIv (C : Cx γ cc nL ret own rm tys) (hct : CtI (γl γ) y b L ret2 rm2 (γD γ) tys wf (.ref a :: As) u r0 u0) (hc : Cal y b L ret2 n) (hr : Rok rm2 rm L) (hl : Cond.methodLink own index y ∈ WB) (hs : Cond.instanceMethod y ∈ WB) (hse : Cond.selects Cn y y ∈ WB) (hcl : vwCl[ci]? = some (Cn, T, N)) (he : (wf u)[q0]? = some (a, .inr (ci, fs))) (hn : As.length = n) (hst : st = As.reverse ++ .ref a :: rest) (h8 : (rest.map fun v => v.category).sum ≤ 8) (hd : decode cc pc = .ok (.invokevirtual index, 3)) (k : AtG γ wf nL 0 0 (pc + 3) lv (.int r0 :: rest) u0) : AtG γ wf nL 0 0 pc lv st u := by
  intro H locs ls hP hD hS hl1
  have hF := xc_free C hD hS
  have hpre := xc_pre C hP hD (.ref a :: As)
  refine va_calli (va_runV (As := As) (rest := rest) ⟨C.hx, C.hb, C.hml, C.hown, C.hts⟩ (hct H.size) ⟨xc_B C hc hr hl, C.hts _ hs, C.hts _ hse⟩ ⟨hpre.1, va_recv C.hK hP hcl he, hpre.2⟩ rfl hn hl1.1 hst (lv_room h8) hd (xc_room C)) hS (fun q _ h => hF q h) hF (fun r u1 t H1 locs1 ht hvm hw hB hz1 hk1 hS1 => ?_)
  obtain ⟨rfl, rfl⟩ := hw
  obtain ⟨hP1, hK1, hD1⟩ := hB
  rw [ht] at hP1
  exact k H1 locs1 ls hP1 (hD1.weaken (fun _ q _ h => hF q.1 h)) hS1 hl1
theorem x_callVv (C : Cx γ cc nL ret own rm tys) (hct : CtV (γl γ) y b L ret2 rm2 (γD γ) tys wf (.ref a :: As) u u0) (hc : Cal y b L ret2 n) (hr : Rok rm2 rm L) (hl : Cond.methodLink own index y ∈ WB) (hs : Cond.instanceMethod y ∈ WB) (hse : Cond.selects Cn y y ∈ WB) (hcl : vwCl[ci]? = some (Cn, T, N)) (he : (wf u)[q0]? = some (a, .inr (ci, fs))) (hn : As.length = n) (hst : st = As.reverse ++ .ref a :: rest) (h8 : (rest.map fun v => v.category).sum ≤ 8) (hd : decode cc pc = .ok (.invokevirtual index, 3)) (k : AtG γ wf nL 0 0 (pc + 3) lv rest u0) : AtG γ wf nL 0 0 pc lv st u := by
  intro H locs ls hP hD hS hl1
  have hF := xc_free C hD hS
  have hpre := xc_pre C hP hD (.ref a :: As)
  refine va_callv (va_runV (As := As) (rest := rest) ⟨C.hx, C.hb, C.hml, C.hown, C.hts⟩ (hct H.size) ⟨xc_B C hc hr hl, C.hts _ hs, C.hts _ hse⟩ ⟨hpre.1, va_recv C.hK hP hcl he, hpre.2⟩ rfl hn hl1.1 hst (lv_room h8) hd (xc_room C)) hS (fun q _ h => hF q h) hF (fun u1 t H1 locs1 ht hvm hw hB hz1 hk1 hS1 => ?_)
  subst hw
  obtain ⟨hP1, hK1, hD1⟩ := hB
  rw [ht] at hP1
  exact k H1 locs1 ls hP1 (hD1.weaken (fun _ q _ h => hF q.1 h)) hS1 hl1
/-- fields -/
theorem x_get (C : Cx γ cc nL ret own rm tys) {cs sl kf : Nat} {v : Value} (hin : ∀ w ∈ u_ws Cn T N, w ∈ WB) (he : (wf u)[q0]? = some (a, .inr (ci, fs))) (hcl : vwCl[ci]? = some (Cn, T, N)) (hk : kf < N) (hl : Cond.fieldLink own index (T kf).1 (T kf).2.1 (T kf).2.2.1 ∈ WB) (hv : fs[kf]? = some v) (hd : decode cc pc = .ok (.getfield index, 3)) (k : AtG γ wf nL cs sl (pc + 3) lv (v :: rest) u) : AtG γ wf nL cs sl pc lv (.ref a :: rest) u :=
  fun H locs ls hP hD hS hl1 => va_get (D := γD γ) (ci := ci) (C := Cn) (T := T) (N := N) C.hx C.hb C.hts hin C.hown C.hK hP q0 he hcl kf hk (C.hts _ hl) (fun _ h9 => h9) hv hd (k H locs ls hP hD hS hl1)
theorem x_put (C : Cx γ cc nL ret own rm tys) {cs sl kf : Nat} {v : Value} {ty : FieldType} {ty0 : Nat → FieldType} (hin : ∀ w ∈ u_ws Cn T N, w ∈ WB) (hty : ∀ k, k < N → parseFieldDescriptor (T k).2.2.1 = some (ty0 k)) (hnm : ∀ a, a < N → ∀ b, b < N → a ≠ b → (T a).2.1 ≠ (T b).2.1) (he : (wf u)[q0]? = some (a, .inr (ci, fs))) (hcl : vwCl[ci]? = some (Cn, T, N)) (hk : kf < N) (hl : Cond.fieldLink own index (T kf).1 (T kf).2.1 (T kf).2.2.1 ∈ WB) (hfin : (T kf).2.2.2 = false) (hdd : parseFieldDescriptor (T kf).2.2.1 = some ty) (hnv : narrow ty v = v) (hfit : fits ty v = true) (hlen : kf < fs.length) (hset : (wf u).set q0 (a, .inr (ci, fs.set kf v)) = wf u0) (hd : decode cc pc = .ok (.putfield index, 3)) (k : AtG γ wf nL cs sl (pc + 3) lv rest u0) : AtG γ wf nL cs sl pc lv (v :: .ref a :: rest) u :=
  fun H locs ls hP hD hS hl1 => va_put (D := γD γ) (ci := ci) (C := Cn) (T := T) (N := N) C.hx C.hb C.hts hin ty0 hty hnm C.hown C.hK hP hD hS q0 he hcl kf hk (C.hts _ hl) (fun _ h9 => h9) hfin hdd hnv hfit hlen hd (fun H1 locs1 hP1 hD1 hS1 => k H1 locs1 ls (hset ▸ hP1) (hset ▸ hD1) hS1 hl1)
/-- arrays -/
theorem x_iald (C : Cx γ cc nL ret own rm tys) {cs sl t0 nn : Nat} {cA : ClassId} {f : Nat → Int32} {i v : Int32} (ha : (wf u)[q0]? = some (a, .inl (cA, nn, .inl f))) (ht : tys[t0]? = some (cA, .int)) (hin : inb i nn = true) (hv : f i.toNatClampNeg = v) (hd : decode cc pc = .ok (.iaload, 1)) (k : AtG γ wf nL cs sl (pc + 1) lv (.int v :: rest) u) : AtG γ wf nL cs sl pc lv (.int i :: .ref a :: rest) u := by
  subst hv
  exact fun H locs ls hP hD hS hl1 => va_iald C.hx C.hb C.hK hP q0 t0 ha ht (inb_in hin) hd (k H locs ls hP hD hS hl1)
theorem x_zald (C : Cx γ cc nL ret own rm tys) {cs sl t0 nn : Nat} {cA : ClassId} {f : Nat → Int32} {i v : Int32} (ha : (wf u)[q0]? = some (a, .inl (cA, nn, .inl f))) (ht : tys[t0]? = some (cA, .boolean)) (hin : inb i nn = true) (hv : f i.toNatClampNeg = v) (hd : decode cc pc = .ok (.baload, 1)) (k : AtG γ wf nL cs sl (pc + 1) lv (.int v :: rest) u) : AtG γ wf nL cs sl pc lv (.int i :: .ref a :: rest) u := by
  subst hv
  exact fun H locs ls hP hD hS hl1 => va_zald C.hx C.hb C.hK hP q0 t0 ha ht (inb_in hin) hd (k H locs ls hP hD hS hl1)
theorem x_iast (C : Cx γ cc nL ret own rm tys) {cs sl t0 nn : Nat} {cA : ClassId} {f : Nat → Int32} {i x : Int32} (ha : (wf u)[q0]? = some (a, .inl (cA, nn, .inl f))) (ht : tys[t0]? = some (cA, .int)) (hin : inb i nn = true) (hset : (wf u).set q0 (a, .inl (cA, nn, .inl (upd f i.toNatClampNeg x))) = wf u0) (hd : decode cc pc = .ok (.iastore, 1)) (k : AtG γ wf nL cs sl (pc + 1) lv rest u0) : AtG γ wf nL cs sl pc lv (.int x :: .int i :: .ref a :: rest) u :=
  fun H locs ls hP hD hS hl1 => va_iast C.hx C.hb C.hK hP hD hS q0 t0 ha ht (inb_in hin) hd (fun H1 locs1 hP1 hD1 hS1 => k H1 locs1 ls (hset ▸ hP1) (hset ▸ hD1) hS1 hl1)
theorem x_zast (C : Cx γ cc nL ret own rm tys) {cs sl t0 nn : Nat} {cA : ClassId} {f : Nat → Int32} {i x : Int32} (ha : (wf u)[q0]? = some (a, .inl (cA, nn, .inl f))) (ht : tys[t0]? = some (cA, .boolean)) (hin : inb i nn = true) (hz : vp_nar .boolean x = x) (hset : (wf u).set q0 (a, .inl (cA, nn, .inl (upd f i.toNatClampNeg x))) = wf u0) (hd : decode cc pc = .ok (.bastore, 1)) (k : AtG γ wf nL cs sl (pc + 1) lv rest u0) : AtG γ wf nL cs sl pc lv (.int x :: .int i :: .ref a :: rest) u :=
  fun H locs ls hP hD hS hl1 => va_zast C.hx C.hb C.hK hP hD hS q0 t0 ha ht (inb_in hin) hd (fun H1 locs1 hP1 hD1 hS1 => by
    rw [hz] at hP1 hD1
    exact k H1 locs1 ls (hset ▸ hP1) (hset ▸ hD1) hS1 hl1)
theorem x_alen (C : Cx γ cc nL ret own rm tys) {cs sl t0 : Nat} {cA : ClassId} {x : vp_A} {ty : FieldType} {v : Int32} (ha : (wf u)[q0]? = some (a, .inl (cA, x))) (ht : tys[t0]? = some (cA, ty)) (hv : Int32.ofNat x.1 = v) (hd : decode cc pc = .ok (.arraylength, 1)) (k : AtG γ wf nL cs sl (pc + 1) lv (.int v :: rest) u) : AtG γ wf nL cs sl pc lv (.ref a :: rest) u :=
  fun H locs ls hP hD hS hl1 => va_alen C.hx C.hb C.hK hP q0 t0 ha ht hv hd (k H locs ls hP hD hS hl1)
def jmin (x y : Int32) : Int32 := if y < x then y else x
theorem x_mmin (C : Cx γ cc nL ret own rm tys) {x z : Int32} (hl : Cond.methodLink own index y_K_min ∈ WB) (hr : 1 ≤ rm.frames ∧ (rest.map fun v => v.category).sum + 13 ≤ rm.locals) (hd : decode cc pc = .ok (.invokestatic index, 3)) (k : AtG γ wf nL 0 0 (pc + 3) lv (.int (jmin x z) :: rest) u) : AtG γ wf nL 0 0 pc lv (.int z :: .int x :: rest) u :=
  fun H locs ls hP hD hS hl1 => va_mmin C.hx C.hb (by rw [C.hml]; exact hl1.1.symm) C.hown (C.hts _ hl) (C.hts _ ms_K_min) (C.hts _ mi_Math) (C.hts _ mc_K_min) (by rw [C.hR]; exact hr.1) (by rw [C.hR]; exact hr.2) (Nat.zero_le _) (Nat.zero_le _) hd (k H locs ls hP hD hS hl1)
end XC

