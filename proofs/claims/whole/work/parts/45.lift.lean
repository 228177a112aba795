/-! CALLS WITHIN A LARGER WORLD -/
/-- how a part lies in a world: its places, the others', and the way back -/
def Prt (wB wc wr w1 wB1 : va_W) (isC isR isB : List Nat) : Prop := isC.map (fun i => wB[i]?) = wc.map some ∧ isR.map (fun i => wB[i]?) = wr.map some ∧ (va_nd isC = true ∧ va_nd isR = true ∧ va_nd isB = true ∧ (∀ i ∈ isR, i ∉ isC)) ∧ isB.map (fun i => (wr ++ w1)[i]?) = wB1.map some
theorem fm_of_map {α : Type} {is : List Nat} {f : Nat → Option α} {w : List α} (h : is.map f = w.map some) : is.filterMap f = w := by
  have h1 : is.filterMap f = (is.map f).filterMap id := by rw [List.filterMap_map]; rfl
  rw [h1, h, List.filterMap_map]
  show w.filterMap (fun x => some x) = w
  exact List.filterMap_some
section XL
variable {S S2 : Type} {γ : CX} {cc : ByteArray} {nL : Nat} {ret : Option FieldType} {own : String} {rm : Room} {tysB tys : Tys} {wfB : S2 → va_W} {wf : S → va_W} {cs sl pc : Nat} {lv : List (Nat × Value)} {rest st : List Value} {u u0 : S} {U U0 : S2}
variable {y : MethodName} {b : ByteArray} {L n index : Nat} {ret2 : Option FieldType} {rm2 : Room} {As : List Value} {r0 : Int32} {isC isR isB isT : List Nat} {wr wB1 w1 : va_W}
theorem xl_pre {H : Heap} {locs : List Loc} (C : Cx γ cc nL ret own rm tysB) (hT : isT.filterMap (fun i => tysB[i]?) = tys) (hp : Prt (wfB U) (wf u) wr w1 wB1 isC isR isB) (hP : va_P (γD γ) vwCl (wfB U) H) (hD : va_D (γA γ) (wfB U)) (av : List Value) : PreS (γs γ) H (CtP (γD γ) tys wf av u H.size) av :=
  ⟨CtP.blind, fun V hV hW => ⟨rfl, by rw [hV], by rw [hV]; exact hP.sub isC (fm_of_map hp.1), (va_K.moved hW.alike C.hK).sub isT hT, (hD.sub isC hp.2.2.1.1 hp.1).weaken (fun _ _ _ _ => trivial), C.hN.warm hW⟩⟩
theorem xl_free {H : Heap} {locs : List Loc} (C : Cx γ cc nL ret own rm tysB) (hp : Prt (wfB U) (wf u) wr w1 wB1 isC isR isB) (hD : va_D (γA γ) (wfB U)) (hS : va_S (γA γ) (γs γ).heap H locs) : ∀ q, va_A (wf u) H.size q → γA γ q := va_free hD hS C.hA isC hp.1
theorem xl_join {H H1 : Heap} {locs : List Loc} (C : Cx γ cc nL ret own rm tysB) (hp : Prt (wfB U) (wf u) wr w1 wB1 isC isR isB) (hP : va_P (γD γ) vwCl (wfB U) H) (hD : va_D (γA γ) (wfB U)) (hS : va_S (γA γ) (γs γ).heap H locs)
    (hk : ∀ q : Nat, q < H.size → ¬ va_A (wf u) H.size q → H1[q]? = H[q]?) (hP1 : va_P (γD γ) vwCl w1 H1) (hD1 : va_D (va_A (wf u) H.size) w1) : va_P (γD γ) vwCl wB1 H1 ∧ va_D (γA γ) wB1 := by
  obtain ⟨hC, hR, ⟨h1, h2, h3, h4⟩, hB⟩ := id hp
  obtain ⟨a1, a2⟩ := va_join hP hD isC isR hC hR h2 h4 hk (xl_free C hp hD hS) hP1 hD1
  exact ⟨a1.sub isB (fm_of_map hB), a2.sub isB h3 hB⟩
variable {Cn : String} {T : u_T} {N ci q0 a : Nat} {fs : List Value}
theorem x_callIvL (C : Cx γ cc nL ret own rm tysB) (hct : CtI (γl γ) y b L ret2 rm2 (γD γ) tys wf (.ref a :: As) u r0 u0) (hT : isT.filterMap (fun i => tysB[i]?) = tys) (hp : Prt (wfB U) (wf u) wr (wf u0) (wfB U0) isC isR isB) (hc : Cal y b L ret2 n) (hr : Rok rm2 rm L) (hroom : cs ≤ rm.cells ∧ sl ≤ rm.slots) (hl : Cond.methodLink own index y ∈ WB) (hs : Cond.instanceMethod y ∈ WB) (hse : Cond.selects Cn y y ∈ WB) (hcl : vwCl[ci]? = some (Cn, T, N)) (he : (wf u)[q0]? = some (a, .inr (ci, fs))) (hn : As.length = n) (hst : st = As.reverse ++ .ref a :: rest) (h8 : (rest.map fun v => v.category).sum ≤ 8) (hd : decode cc pc = .ok (.invokevirtual index, 3)) (k : AtG γ wfB nL cs sl (pc + 3) lv (.int r0 :: rest) U0) : AtG γ wfB nL cs sl pc lv st U := by
  intro H locs ls hP hD hS hl1
  have hF := xl_free C hp hD hS
  have hpre := xl_pre (locs := locs) C hT hp hP hD (.ref a :: As)
  refine va_calli (va_runV (As := As) (rest := rest) ⟨C.hx, C.hb, C.hml, C.hown, C.hts⟩ (hct H.size) ⟨xc_B C hc hr hl, C.hts _ hs, C.hts _ hse⟩ ⟨hpre.1, va_recv C.hK (hP.sub isC (fm_of_map hp.1)) hcl he, hpre.2⟩ rfl hn hl1.1 hst (lv_room h8) hd (by rw [C.hR]; exact hroom)) hS (fun q _ h => hF q h) hF (fun r u1 t H1 locs1 ht hvm hw hB hz1 hk1 hS1 => ?_)
  obtain ⟨rfl, rfl⟩ := hw
  obtain ⟨hP1, hK1, hD1⟩ := hB
  rw [ht] at hP1
  obtain ⟨a1, a2⟩ := xl_join C hp hP hD hS hk1 hP1 hD1
  exact k H1 locs1 ls a1 a2 hS1 hl1
end XL
-- the rows of longs
section XLG
variable {S : Type} {γ : CX} {cc : ByteArray} {nL : Nat} {ret : Option FieldType} {own : String} {rm : Room} {tys : Tys} {wf : S → va_W} {cs sl pc q0 t0 nn a : Nat} {lv : List (Nat × Value)} {rest : List Value} {u u0 : S}
theorem x_i2l (C : Cx γ cc nL ret own rm tys) {x : Int32} (hd : decode cc pc = .ok (.i2l, 1)) (kk : AtG γ wf nL cs sl (pc + 1) lv (.long x.toInt64 :: rest) u) : AtG γ wf nL cs sl pc lv (.int x :: rest) u :=
  fun H locs ls hP hD hS hl => lv_i2l C.hx C.hb hd rfl (kk H locs ls hP hD hS hl)
theorem x_lald (C : Cx γ cc nL ret own rm tys) {cA : ClassId} {f : Nat → Int64} {i : Int32} {v : Int64} (ha : (wf u)[q0]? = some (a, .inl (cA, nn, .inr (.inl f)))) (ht : tys[t0]? = some (cA, .long)) (hin : inb i nn = true) (hv : f i.toNatClampNeg = v) (hd : decode cc pc = .ok (.laload, 1)) (k : AtG γ wf nL cs sl (pc + 1) lv (.long v :: rest) u) : AtG γ wf nL cs sl pc lv (.int i :: .ref a :: rest) u := by
  subst hv
  exact fun H locs ls hP hD hS hl1 => va_lald C.hx C.hb C.hK hP q0 t0 ha ht (inb_in hin) hd (k H locs ls hP hD hS hl1)
theorem x_last (C : Cx γ cc nL ret own rm tys) {cA : ClassId} {f : Nat → Int64} {i : Int32} {x : Int64} (ha : (wf u)[q0]? = some (a, .inl (cA, nn, .inr (.inl f)))) (ht : tys[t0]? = some (cA, .long)) (hin : inb i nn = true) (hset : (wf u).set q0 (a, .inl (cA, nn, .inr (.inl (vp_updL f i.toNatClampNeg x)))) = wf u0) (hd : decode cc pc = .ok (.lastore, 1)) (k : AtG γ wf nL cs sl (pc + 1) lv rest u0) : AtG γ wf nL cs sl pc lv (.long x :: .int i :: .ref a :: rest) u :=
  fun H locs ls hP hD hS hl1 => va_last C.hx C.hb C.hK hP hD hS q0 t0 ha ht (inb_in hin) hd (fun H1 locs1 hP1 hD1 hS1 => k H1 locs1 ls (hset ▸ hP1) (hset ▸ hD1) hS1 hl1)
end XLG
