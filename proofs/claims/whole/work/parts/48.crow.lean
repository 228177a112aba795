/-! MAKING: rows over a world that grows (the state is the world itself) -/
abbrev wid : va_W → va_W := fun w => w
def CtN (l : Launch) (y : MethodName) (b : ByteArray) (L : Nat) (rm : Room) (mc ms : Nat) (D : va_G) (tys : Tys) (av : List Value) (w : va_W) (post : va_W → Prop) : Prop :=
  ∀ sz : Nat, Met l y (.code y b L none :: WB) rm (CtP D tys wid av w sz) (va_Qv post (fun (w' : va_W) (t : State) => va_P D vwCl w' t.heap ∧ va_K D vwCl tys t ∧ va_D (va_A w sz) w') (va_A w sz)) mc ms (va_A w sz)
def QN (γ : CX) (tys : Tys) (post : va_W → Prop) (mc ms : Nat) : Prop :=
  γQ γ = MQ (γb γ) (va_Qv post (fun (w' : va_W) (t : State) => va_P (γD γ) vwCl w' t.heap ∧ va_K (γD γ) vwCl tys t ∧ va_D (γA γ) w') (γA γ)) (γa γ) (γs γ) mc ms (γA γ)
theorem ct_ofN {l : Launch} {y : MethodName} {rm : Room} {mc ms : Nat} {D : va_G} {tys : Tys} {av : List Value} {w : va_W} {post : va_W → Prop} {cc : ByteArray} {maxL : Nat} (hy : plainName y.cls = true) (hlen : (lg_sl av).length ≤ maxL) (k : ∀ γ : CX, γl γ = l → γD γ = D → Cx γ cc maxL none y.cls rm tys → (γM γ).name = y.name → QN γ tys post mc ms → AtG γ wid maxL 0 0 0 (lv_args 0 av) [] w) : CtN l y cc maxL rm mc ms D tys av w post := by
  intro sz
  refine Met.ofW (cc := cc) (maxL := maxL) (ret := none) hy rfl ?_
  intro p e s m args below meth c s₁ B hml hv
  obtain ⟨rfl, hsz, hP, hK, hD0, hN⟩ := hv
  subst hsz
  have hD := hD0.self (sz := s.heap.size)
  have key := k (p, l, e, (headSpec (.code y cc maxL none :: WB) rm).room, s, m, av.toArray, below, meth, c, MQ below (va_Qv post (fun (w' : va_W) (t : State) => va_P D vwCl w' t.heap ∧ va_K D vwCl tys t ∧ va_D (va_A w s.heap.size) w') (va_A w s.heap.size)) av.toArray s mc ms (va_A w s.heap.size), D, va_A w s.heap.size) rfl rfl ⟨B.exec, B.bytes, hml, B.returns, findClass_of_methodNamed B.named, fun x hx => atoms_spec (ws := .code y cc maxL none :: WB) B.pre x (List.mem_cons_of_mem _ hx), B.notSynchronized, hK, fun q h => Or.inr h, rfl, hN⟩ (name_of_methodNamed B.named B.method).1 rfl
  have hl := lv_entry av (n := maxL) hlen
  rw [lg_entry_eq]
  exact key s.heap [] _ hP hD va_S.rf hl
theorem mo_in : Cond.instanceMethod objectInit ∈ WB := wb_t 20 (by decide +kernel) rfl
theorem mo_code : Cond.code objectInit ⟨#[0xb1]⟩ 1 none ∈ WB := wb_t 21 (by decide +kernel) rfl
section XN
variable {γ : CX} {cc : ByteArray} {nL : Nat} {ret : Option FieldType} {own : String} {rm : Room} {tys : Tys} {cs sl pc q0 t0 index : Nat} {lv : List (Nat × Value)} {rest st : List Value} {w : va_W}
variable {Cn : String} {T : u_T} {N ci a : Nat} {fs : List Value}
theorem x_obj (C : Cx γ cc nL ret own rm tys) (hl : Cond.methodLink own index objectInit ∈ WB) (hr : 1 ≤ rm.frames ∧ (rest.map fun v => v.category).sum + 12 ≤ rm.locals) (hd : decode cc pc = .ok (.invokespecial index, 3)) (k : AtG γ wid nL cs sl (pc + 3) lv rest w) : AtG γ wid nL cs sl pc lv (.ref a :: rest) w :=
  fun H locs ls hP hD hS hl1 => W.objInit C.hx C.hb C.hown (C.hts _ hl) (C.hts _ mo_in) (C.hts _ mo_code) rfl (by rw [C.hml]; exact hl1.1) rfl hd (by rw [C.hR]; exact hr.1) (by rw [C.hR]; show 2 * 0 + _ + 12 ≤ _; omega) (k H locs ls hP hD hS hl1)
theorem x_new (C : Cx γ cc nL ret own rm tys) {ty0 : Nat → FieldType} (w1 : Nat → va_W) (hin : ∀ w ∈ u_ws Cn T N, w ∈ WB) (hty : ∀ k, k < N → parseFieldDescriptor (T k).2.2.1 = some (ty0 k)) (hcl : Cond.classLink own index Cn ∈ WB) (hinst : Cond.instantiable Cn N ∈ WB) (hini : Cond.initialized Cn ∈ WB) (hci : vwCl[ci]? = some (Cn, T, N)) (hfs : ∀ j, j < N → defaultValue (ty0 j) = vp_V fs j) (hroom : cs + 1 ≤ rm.cells ∧ sl + N ≤ rm.slots) (hw : ∀ q, w ++ [(q, .inr (ci, fs))] = w1 q) (hd : decode cc pc = .ok (.new index, 3))
    (k : ∀ q, AtG γ wid nL (cs + 1) (sl + N) (pc + 3) lv (.ref q :: rest) (w1 q)) : AtG γ wid nL cs sl pc lv rest w :=
  fun H locs ls hP hD hS hl1 => va_new (D := γD γ) (ci := ci) C.hx C.hb C.hts hin ty0 hty C.hown (C.hts _ hcl) (C.hts _ hinst) (C.hts _ hini) C.hK hP hD hS C.hA hci hfs (by rw [C.hR]; exact hroom.1) (by rw [C.hR]; exact hroom.2) hd (fun q H1 hP1 hD1 hS1 => k q H1 locs ls (hw q ▸ hP1) (hw q ▸ hD1) hS1 hl1)
theorem ra_eq {U : State} {c1 c2 : ClassId} {ty : FieldType} (h : ∀ C, ty ≠ .object C) (h1 : va_RA U c1 ty) (h2 : va_RA U c2 ty) : c1 = c2 := by
  cases ty with
  | object C => exact absurd rfl (h C)
  | _ => exact Option.some.inj (h1.symm.trans h2)
theorem x_newa (C : Cx γ cc nL ret own rm tys) {atype : ArrayType} {ty : FieldType} {cA : ClassId} {n : Int32} {N' : Nat} {a0 : vp_A} (w1 : Nat → va_W) (harr : Cond.arrayClass (newarray.typeOf atype) ∈ WB) (hty : newarray.typeOf atype = ty) (ht : tys[t0]? = some (cA, ty)) (hno : ∀ C, ty ≠ .object C) (ha : ∀ cA : ClassId, vp_cell cA a0 = arrV cA N' (fun _ => defaultValue ty)) (hn : ¬ n < 0) (hN : n.toNatClampNeg = N') (hbytes : N' * componentBytes ty ≤ 536870912) (hroom : cs + 1 ≤ rm.cells ∧ sl + N' ≤ rm.slots) (hw : ∀ q, w ++ [(q, .inl (cA, a0))] = w1 q) (hd : decode cc pc = .ok (.newarray atype, 2))
    (k : ∀ q, AtG γ wid nL (cs + 1) (sl + N') (pc + 2) lv (.ref q :: rest) (w1 q)) : AtG γ wid nL cs sl pc lv (.int n :: rest) w :=
  fun H locs ls hP hD hS hl1 => va_newa (D := γD γ) C.hx C.hb (C.hts _ harr) hty C.hK hP hD hS C.hA ha hn hN hbytes (by rw [C.hR]; exact hroom.1) (by rw [C.hR]; exact hroom.2) hd (fun q cB H1 hK1 hP1 hD1 hS1 => by
    have e : cB = cA := ra_eq hno (hK1.2 tys.length (cB, ty) (by simp)).2 (C.hK.2 t0 (cA, ty) ht).2
    subst e
    exact k q H1 locs ls (hw q ▸ hP1) (hw q ▸ hD1) hS1 hl1)
theorem x_putF (C : Cx γ cc nL ret own rm tys) (hnm0 : (γM γ).name = "<init>") (w1 : va_W) {kf : Nat} {v : Value} {ty : FieldType} {ty0 : Nat → FieldType} (hin : ∀ w ∈ u_ws Cn T N, w ∈ WB) (hty : ∀ k, k < N → parseFieldDescriptor (T k).2.2.1 = some (ty0 k)) (hnm : ∀ a, a < N → ∀ b, b < N → a ≠ b → (T a).2.1 ≠ (T b).2.1) (he : w[q0]? = some (a, .inr (ci, fs))) (hcl : vwCl[ci]? = some (Cn, T, N)) (hk : kf < N) (hl : Cond.fieldLink own index (T kf).1 (T kf).2.1 (T kf).2.2.1 ∈ WB) (hfin : (T kf).2.2.2 = true) (hdecl : (T kf).1 = own) (hdd : parseFieldDescriptor (T kf).2.2.1 = some ty) (hnv : narrow ty v = v) (hfit : fits ty v = true) (hlen : kf < fs.length) (hset : w.set q0 (a, .inr (ci, fs.set kf v)) = w1) (hd : decode cc pc = .ok (.putfield index, 3)) (k : AtG γ wid nL cs sl (pc + 3) lv rest w1) : AtG γ wid nL cs sl pc lv (v :: .ref a :: rest) w :=
  fun H locs ls hP hD hS hl1 => va_putF (D := γD γ) (ci := ci) (C := Cn) (T := T) (N := N) C.hx C.hb C.hts hin ty0 hty hnm C.hown C.hK hP hD hS q0 he hcl kf hk (C.hts _ hl) (fun _ h9 => h9) hfin hnm0 hdecl hdd hnv hfit hlen hd (fun H1 locs1 hP1 hD1 hS1 => k H1 locs1 ls (hset ▸ hP1) (hset ▸ hD1) hS1 hl1)
theorem x_vretN {post : va_W → Prop} {mc ms : Nat} (C : Cx γ cc nL none own rm tys) (hQ : QN γ tys post mc ms) (w1 : va_W) (isB : List Nat) (hB : isB.map (fun i => w[i]?) = w1.map some) (hnd : va_nd isB = true) (hp : post w1) (hd : decode cc pc = .ok (.return_, 1)) : AtG γ wid nL mc ms pc lv [] w := by
  intro H locs ls hP hD hS hl
  have hQ' := hQ
  unfold QN at hQ'
  rw [hQ']
  have hP1 := va_P.sub hP isB (fm_of_map hB)
  have hD1 := va_D.sub hD isB hnd hB
  exact W.vret C.hx C.hb C.hr (fun t ht hW => ⟨⟨w1, rfl, hp, by rw [ht]; exact hP1, va_K.moved hW.alike C.hK, hD1⟩, hS.F ht⟩) hS.2.2 hd C.hlocks
variable {y : MethodName} {b : ByteArray} {L mc ms n : Nat} {rm2 : Room} {As : List Value} {wc wr : va_W} {post : va_W → Prop} {isC isR : List Nat}
/-- a constructor is called: another class of the nest -/
theorem x_callNn (C : Cx γ cc nL ret own rm tys) (hct : CtN (γl γ) y b L rm2 mc ms (γD γ) tys [.ref a] wc post) (hc : Cal y b L none 0) (hini : y.name = "<init>") (hr : (rm2.cells = mc ∧ rm2.slots = ms) ∧ (rm2.frames + 1 ≤ rm.frames ∧ 8 + (L + 11) + rm2.locals ≤ rm.locals)) (hroom : cs + mc ≤ rm.cells ∧ sl + ms ≤ rm.slots) (hl : (own, index, y) ∈ nestQ) (hs : Cond.instanceMethod y ∈ WB) (hC : isC.map (fun i => w[i]?) = wc.map some) (hR : isR.map (fun i => w[i]?) = wr.map some) (hnd : va_nd isC = true ∧ va_nd isR = true ∧ ∀ i ∈ isR, i ∉ isC) (h8 : (rest.map fun v => v.category).sum ≤ 8) (hd : decode cc pc = .ok (.invokespecial index, 3))
    (k : ∀ w1, post w1 → AtG γ wid nL (cs + mc) (sl + ms) (pc + 3) lv rest (wr ++ w1)) : AtG γ wid nL cs sl pc lv (.ref a :: rest) w := by
  intro H locs ls hP hD hS hl1
  have hF : ∀ q, va_A wc H.size q → γA γ q := va_free hD hS C.hA isC hC
  have hpre : PreS (γs γ) H (CtP (γD γ) tys wid [.ref a] wc H.size) [.ref a] := ⟨CtP.blind, fun V hV hW => ⟨rfl, by rw [hV], by rw [hV]; exact va_P.sub hP isC (fm_of_map hC), va_K.moved hW.alike C.hK, (va_D.sub hD isC hnd.1 hC).weaken (fun _ _ _ _ => trivial), C.hN.warm hW⟩⟩
  refine va_callv (va_runIN (As := []) (rest := rest) (b := a) ⟨C.hx, C.hb, C.hml, C.hown, C.hts⟩ (hct H.size) ⟨by rw [C.hR]; exact va_cnB 0 C.hts (wb_gi hc.1) rfl hr.1.1 hr.1.2 (C.hN _ hl) (C.hts _ hc.2.1) hc.2.2 hr.2, hini, C.hts _ hs⟩ hpre rfl rfl hl1.1 rfl (lv_room h8) hd (by rw [C.hR]; exact hroom)) hS (fun q _ h => hF q h) hF (fun u1 t H1 locs1 ht hvm hw hB hz1 hk1 hS1 => ?_)
  obtain ⟨hP1, hK1, hD1⟩ := hB
  rw [ht] at hP1
  obtain ⟨a1, a2⟩ := va_join hP hD isC isR hC hR hnd.2.1 hnd.2.2 hk1 hF hP1 hD1
  exact k u1 hw H1 locs1 ls a1 a2 hS1 hl1
/-- a constructor is called: plainly -/
theorem x_callNs (C : Cx γ cc nL ret own rm tys) {tys2 : Tys} {isT : List Nat} (hct : CtN (γl γ) y b L rm2 mc ms (γD γ) tys2 [.ref a] wc post) (hT : isT.filterMap (fun i => tys[i]?) = tys2) (hc : Cal y b L none 0) (hini : y.name = "<init>") (hr : (rm2.cells = mc ∧ rm2.slots = ms) ∧ (rm2.frames + 1 ≤ rm.frames ∧ 8 + (L + 11) + rm2.locals ≤ rm.locals)) (hroom : cs + mc ≤ rm.cells ∧ sl + ms ≤ rm.slots) (hl : Cond.methodLink own index y ∈ WB) (hs : Cond.instanceMethod y ∈ WB) (hC : isC.map (fun i => w[i]?) = wc.map some) (hR : isR.map (fun i => w[i]?) = wr.map some) (hnd : va_nd isC = true ∧ va_nd isR = true ∧ ∀ i ∈ isR, i ∉ isC) (h8 : (rest.map fun v => v.category).sum ≤ 8) (hd : decode cc pc = .ok (.invokespecial index, 3))
    (k : ∀ w1, post w1 → AtG γ wid nL (cs + mc) (sl + ms) (pc + 3) lv rest (wr ++ w1)) : AtG γ wid nL cs sl pc lv (.ref a :: rest) w := by
  intro H locs ls hP hD hS hl1
  have hF : ∀ q, va_A wc H.size q → γA γ q := va_free hD hS C.hA isC hC
  have hpre : PreS (γs γ) H (CtP (γD γ) tys2 wid [.ref a] wc H.size) [.ref a] := ⟨CtP.blind, fun V hV hW => ⟨rfl, by rw [hV], by rw [hV]; exact va_P.sub hP isC (fm_of_map hC), (va_K.moved hW.alike C.hK).sub isT hT, (va_D.sub hD isC hnd.1 hC).weaken (fun _ _ _ _ => trivial), C.hN.warm hW⟩⟩
  refine va_callv (va_runI (As := []) (rest := rest) (b := a) ⟨C.hx, C.hb, C.hml, C.hown, C.hts⟩ (hct H.size) ⟨by rw [C.hR]; exact callB_of 0 C.hts (wb_gi hc.1) rfl hr.1.1 hr.1.2 (C.hts _ hc.2.1) (C.hts _ hl) hc.2.2 hr.2, hini, C.hts _ hs⟩ hpre rfl rfl hl1.1 rfl (lv_room h8) hd (by rw [C.hR]; exact hroom)) hS (fun q _ h => hF q h) hF (fun u1 t H1 locs1 ht hvm hw hB hz1 hk1 hS1 => ?_)
  obtain ⟨hP1, hK1, hD1⟩ := hB
  rw [ht] at hP1
  obtain ⟨a1, a2⟩ := va_join hP hD isC isR hC hR hnd.2.1 hnd.2.2 hk1 hF hP1 hD1
  exact k u1 hw H1 locs1 ls a1 a2 hS1 hl1
end XN
theorem kc_C_init : Cal y_C_init b_C_init 1 none 0 := ⟨mc_C_init, mi_PackagePick_Catalog, by decide +kernel⟩
theorem kc_W_init : Cal y_W_init b_W_init 1 none 0 := ⟨mc_W_init, mi_PackagePick_Wishes, by decide +kernel⟩
theorem kc_T_init : Cal y_T_init b_T_init 1 none 0 := ⟨mc_T_init, mi_PackagePick_Tally, by decide +kernel⟩
theorem kc_X_init : Cal y_X_init b_X_init 1 none 0 := ⟨mc_X_init, mi_PackagePick, by decide +kernel⟩
theorem kc_M_init : Cal y_M_init b_M_init 2 none 0 := ⟨mc_M_init, mi_PackagePickModel, by decide +kernel⟩
