/-! THROWING: what must be known of java.lang.Throwable, of the exception's class and its chain -/
abbrev tW : String := "java/lang/Throwable"
abbrev tSt : String := "[Ljava/lang/StackTraceElement;"
abbrev tLi : String := "Ljava/util/List;"
/-- a static reference of Throwable's, in a cell below B -/
def sq_S (n d : String) (B : Nat) (U : State) (H : Heap) : Prop := ∃ (c : ClassId) (k : Class) (i : Nat) (f : Field) (a : Nat) (cell : Cell) (v : Value), U.vm.findClass tW = some c ∧ U.fieldFound? tW n d = some (c, k, i, f) ∧ f.isStatic = true ∧ k.statics = some a ∧ H[a]? = some cell ∧ cell.vm.isStatics = true ∧ cell.cls = c ∧ f.slot < cell.slots.size ∧ k.staticTypes[f.slot]? = some f.type ∧ cell.slots[f.slot]? = some v ∧ v.isRef = true ∧ a < B
theorem sq_S.moved {n d : String} {B : Nat} {u U : State} {H : Heap} (hvm : u.vm.Alike U.vm) (h : sq_S n d B u H) : sq_S n d B U H := by
  obtain ⟨c, k, i, f, a, cell, v, h1, h2, h3, h4, h5, h6, h7, h8, h9, h10, h11, h12⟩ := h
  obtain ⟨k', hi', he⟩ := State.fieldFound?_setVm hvm h2
  exact ⟨c, k', i, f, a, cell, v, by rw [hvm.findClass]; exact h1, hi', h3, by rw [he]; exact h4, h5, h6, h7, h8, by rw [he]; exact h9, h10, h11, h12⟩
theorem sq_S.kept {n d : String} {B : Nat} {U : State} {H H1 : Heap} (h : sq_S n d B U H) (hq : ∀ a : Nat, a < B → H1[a]? = H[a]?) : sq_S n d B U H1 := by
  obtain ⟨c, k, i, f, a, cell, v, h1, h2, h3, h4, h5, h6, h7, h8, h9, h10, h11, h12⟩ := h
  exact ⟨c, k, i, f, a, cell, v, h1, h2, h3, h4, by rw [hq a h12]; exact h5, h6, h7, h8, h9, h10, h11, h12⟩
theorem sq_S.lays {n d : String} {B : Nat} {U : State} {A : Array Value} (h : sq_S n d B U U.heap) : (Cond.laysStatic tW n d).before A U = true := by
  obtain ⟨c, k, i, f, a, cell, v, h1, h2, h3, h4, h5, h6, h7, h8, h9, h10, h11, h12⟩ := h
  simp [Cond.before, Cond.holds, Cond.value, h1, h2, h3, h4, h5, h6, h7, h8, h9]
theorem sq_S.isRef {n d : String} {B : Nat} {U : State} {A : Array Value} (h : sq_S n d B U U.heap) : (Cond.isRef (.static tW n d)).before A U = true := by
  obtain ⟨c, k, i, f, a, cell, v, h1, h2, h3, h4, h5, h6, h7, h8, h9, h10, h11, h12⟩ := h
  have ev : (Term.static tW n d).eval A U none [] U = some v := by
    simp [Term.eval, State.fieldNamed?, h2, h3, h4, h5, h6, h10]
  simp [Cond.before, Cond.holds, Cond.value, ev]
  cases v <;> simp_all [Value.isRef]
