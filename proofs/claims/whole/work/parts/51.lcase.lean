/-! THE LAW: its world, its cases -/
abbrev tyL (cI cZ cJ : ClassId) : Tys := [(cI, .int), (cZ, .boolean), (cJ, .long)]
def WL (cI cZ cJ : ClassId) (hX hM : Nat → Nat) (q : Nat) (z : PS × PS × (Nat → Int64)) : va_W := WX cI hX z.1 ++ (WM cI cZ hM z.2.1 ++ [(q, .inl (cJ, 1, .inr (.inl z.2.2)))])
def LawC (γ : CX) (b L : Nat) (xs : Nat → Int32) : Prop := va_X b L xs (γs γ) (γs γ).heap ∧ b < (γs γ).heap.size ∧ (∀ q, γA γ q → (γs γ).heap.size ≤ q) ∧ Thr (γs γ).heap.size (γs γ) ∧ Tcs (γs γ) ∧ (γl γ).flags = pinnedFlags ++ [noTraceFlag]
theorem LawC.nb {γ : CX} {b L : Nat} {xs : Nat → Int32} (h : LawC γ b L xs) : ¬ γA γ b := fun z => Nat.not_lt.mpr (h.2.2.1 b z) h.2.1
abbrev lv0 (b x m q k : Nat) : List (Nat × Value) := [(0, .ref b), (1, .ref x), (2, .ref m), (3, .ref q), (4, .int (Int32.ofNat (6 * k)))]
/-- the j-th int of the k-th call -/
def pr (xs : Nat → Int32) (k : Nat) (j : Int32) : Int32 := xs (Int32.ofNat (6 * k) + j).toNatClampNeg
theorem ix_in {k L : Nat} (h : 6 * k + 6 ≤ L ∧ L ≤ 3072) (j : Int32) (hj : 0 ≤ j.toInt ∧ j.toInt < 6) : inb (Int32.ofNat (6 * k) + j) L = true := by
  have e1 : (Int32.ofNat (6 * k)).toInt = ((6 * k : Nat) : Int) := Int32.toInt_ofNat_of_lt (by omega)
  have e : (Int32.ofNat (6 * k) + j).toInt = ((6 * k : Nat) : Int) + j.toInt := by
    rw [Int32.toInt_add, e1]
    exact Int.bmod_eq_of_le (by omega) (by omega)
  have hn : (Int32.ofNat (6 * k) + j).toNatClampNeg = ((6 * k : Nat) + j.toInt.toNat) := by
    show (Int32.ofNat (6 * k) + j).toInt.toNat = _
    rw [e]; omega
  unfold inb
  rw [hn]
  have h0 : ¬ (Int32.ofNat (6 * k) + j) < 0 := by
    rw [Int32.lt_iff_toInt_lt, e]; simp; omega
  rw [decide_eq_false h0, decide_eq_false (show ¬ L ≤ 6 * k + j.toInt.toNat by omega)]; rfl
theorem ix_in0 {k L : Nat} (h : 6 * k + 6 ≤ L ∧ L ≤ 3072) : inb (Int32.ofNat (6 * k)) L = true := by
  have := ix_in h 0 (by decide)
  rwa [Int32.add_zero] at this
theorem prtX {cI cZ cJ : ClassId} {hX hM : Nat → Nat} {q : Nat} {u u1 v : PS} {f : Nat → Int64} : Prt (WL cI cZ cJ hX hM q (u, v, f)) (WX cI hX u) (WM cI cZ hM v ++ [(q, .inl (cJ, 1, .inr (.inl f)))]) (WX cI hX u1) (WL cI cZ cJ hX hM q (u1, v, f)) [0, 1, 2, 3, 4, 5, 6, 7, 8, 9] [10, 11, 12, 13, 14, 15, 16, 17, 18, 19, 20, 21, 22, 23, 24, 25, 26] [17, 18, 19, 20, 21, 22, 23, 24, 25, 26, 0, 1, 2, 3, 4, 5, 6, 7, 8, 9, 10, 11, 12, 13, 14, 15, 16] := ⟨rfl, rfl, ⟨rfl, rfl, rfl, by decide⟩, rfl⟩
theorem prtM {cI cZ cJ : ClassId} {hX hM : Nat → Nat} {q : Nat} {u v v1 : PS} {f : Nat → Int64} : Prt (WL cI cZ cJ hX hM q (u, v, f)) (WM cI cZ hM v) (WX cI hX u ++ [(q, .inl (cJ, 1, .inr (.inl f)))]) (WM cI cZ hM v1) (WL cI cZ cJ hX hM q (u, v1, f)) [10, 11, 12, 13, 14, 15, 16, 17, 18, 19, 20, 21, 22, 23, 24, 25] [0, 1, 2, 3, 4, 5, 6, 7, 8, 9, 26] [0, 1, 2, 3, 4, 5, 6, 7, 8, 9, 11, 12, 13, 14, 15, 16, 17, 18, 19, 20, 21, 22, 23, 24, 25, 26, 10] := ⟨rfl, rfl, ⟨rfl, rfl, rfl, by decide⟩, rfl⟩
theorem prtW {cI cZ cJ : ClassId} {hX hM : Nat → Nat} {q : Nat} {u u1 v : PS} {f f1 : Nat → Int64} : Prt (WL cI cZ cJ hX hM q (u, v, f)) (WXJ cI cJ hX q (u, f)) (WM cI cZ hM v) (WXJ cI cJ hX q (u1, f1)) (WL cI cZ cJ hX hM q (u1, v, f1)) [0, 1, 2, 3, 4, 5, 6, 7, 8, 9, 26] [10, 11, 12, 13, 14, 15, 16, 17, 18, 19, 20, 21, 22, 23, 24, 25] [16, 17, 18, 19, 20, 21, 22, 23, 24, 25, 0, 1, 2, 3, 4, 5, 6, 7, 8, 9, 10, 11, 12, 13, 14, 15, 26] := ⟨rfl, rfl, ⟨rfl, rfl, rfl, by decide⟩, rfl⟩
theorem x_lcmp0 {S : Type} {γ : CX} {cc : ByteArray} {nL : Nat} {ret : Option FieldType} {own : String} {rm : Room} {tys : Tys} {wf : S → va_W} {cs sl pc : Nat} {lv : List (Nat × Value)} {rest : List Value} {u : S} (C : Cx γ cc nL ret own rm tys) {x y : Int64} (h : x = y) (hd : decode cc pc = .ok (.lcmp, 1)) (kk : AtG γ wf nL cs sl (pc + 1) lv (.int 0 :: rest) u) : AtG γ wf nL cs sl pc lv (.long y :: .long x :: rest) u := by
  subst h
  intro H locs ls hP hD hS hl
  have := kk H locs ls hP hD hS hl
  exact W.lcmp C.hx C.hb hd (by rw [show lg_cmp x x = 0 by simp [lg_cmp]]; exact this)
set_option maxHeartbeats 1000000 in
theorem la_version {γ : CX} {cI cZ cJ : ClassId} {hX hM : Nat → Nat} {q b L k cs sl : Nat} {xs : Nat → Int32} {f : Nat → Int64} {u v u1 v1 : PS} {r : Int32} (C : Cx γ code 7 ret "PackagePickLaw" room_1 (tyL cI cZ cJ)) (LC : LawC γ b L xs) (hk : 6 * k + 6 ≤ L ∧ L ≤ 3072) (hroom : cs + 1 ≤ 634904 ∧ sl + 6 ≤ 7191392) (hx : CtI (γl γ) y_X_version b_X_version 3 (some .boolean) (rk 3) (γD γ) [(cI, .int)] (WX cI hX) [.ref (hX 0), .int (pr xs k 1), .int (pr xs k 2)] u r u1) (hm : CtI (γl γ) y_M_version b_M_version 3 (some .boolean) (rk 2) (γD γ) [(cI, .int), (cZ, .boolean)] (WM cI cZ hM) [.ref (hM 0), .int (pr xs k 1), .int (pr xs k 2)] v r v1) (kk : AtG γ (WL cI cZ cJ hX hM q) 7 cs sl 603 (lv0 b (hX 0) (hM 0) q k) [] (u1, v1, f)) : AtG γ (WL cI cZ cJ hX hM q) 7 cs sl 108 (lv0 b (hX 0) (hM 0) q k) [] (u, v, f) := by
  refine x_aload_n C d_L_law_108 rfl (k := 1) rfl ?_
  refine x_aload_n C d_L_law_109 rfl (k := 0) rfl ?_
  refine x_iload C d_L_law_110 (k := 4) rfl ?_
  refine x_iconst (v := 1) C d_L_law_112 (by decide) ?_
  refine x_iadd C d_L_law_113 ?_
  refine x_sld (v := (pr xs k 1)) C LC.1 LC.2.1 LC.nb (ix_in hk 1 (by decide)) rfl d_L_law_114 ?_
  refine x_aload_n C d_L_law_115 rfl (k := 0) rfl ?_
  refine x_iload C d_L_law_116 (k := 4) rfl ?_
  refine x_iconst (v := 2) C d_L_law_118 (by decide) ?_
  refine x_iadd C d_L_law_119 ?_
  refine x_sld (v := (pr xs k 2)) C LC.1 LC.2.1 LC.nb (ix_in hk 2 (by decide)) rfl d_L_law_120 ?_
  refine x_callIvL (isT := [0]) (q0 := 0) (ci := 3) (rest := []) C hx rfl prtX kc_X_version ⟨⟨rfl, rfl⟩, by decide, by decide⟩ ⟨show _ ≤ 634904 by omega, show _ ≤ 7191392 by omega⟩ mm_L_26 ms_X_version ml_X_version rfl rfl rfl rfl (Nat.le_of_ble_eq_true rfl) d_L_law_121 ?_
  refine x_aload_n C d_L_law_124 rfl (k := 2) rfl ?_
  refine x_aload_n C d_L_law_125 rfl (k := 0) rfl ?_
  refine x_iload C d_L_law_126 (k := 4) rfl ?_
  refine x_iconst (v := 1) C d_L_law_128 (by decide) ?_
  refine x_iadd C d_L_law_129 ?_
  refine x_sld (v := (pr xs k 1)) C LC.1 LC.2.1 LC.nb (ix_in hk 1 (by decide)) rfl d_L_law_130 ?_
  refine x_aload_n C d_L_law_131 rfl (k := 0) rfl ?_
  refine x_iload C d_L_law_132 (k := 4) rfl ?_
  refine x_iconst (v := 2) C d_L_law_134 (by decide) ?_
  refine x_iadd C d_L_law_135 ?_
  refine x_sld (v := (pr xs k 2)) C LC.1 LC.2.1 LC.nb (ix_in hk 2 (by decide)) rfl d_L_law_136 ?_
  refine x_callIvL (isT := [0, 1]) (q0 := 0) (ci := 4) (rest := [.int r]) C hm rfl prtM kc_M_version ⟨⟨rfl, rfl⟩, by decide, by decide⟩ ⟨show _ ≤ 634904 by omega, show _ ≤ 7191392 by omega⟩ mm_L_30 ms_M_version ml_M_version rfl rfl rfl rfl (Nat.le_of_ble_eq_true rfl) d_L_law_137 ?_
  exact x_icmp_eq (tgt := 603) C d_L_law_140 (by decide) (fun _ => kk) (fun h => absurd rfl h)
set_option maxHeartbeats 1000000 in
theorem la_need {γ : CX} {cI cZ cJ : ClassId} {hX hM : Nat → Nat} {q b L k cs sl : Nat} {xs : Nat → Int32} {f : Nat → Int64} {u v u1 v1 : PS} {r : Int32} (C : Cx γ code 7 ret "PackagePickLaw" room_1 (tyL cI cZ cJ)) (LC : LawC γ b L xs) (hk : 6 * k + 6 ≤ L ∧ L ≤ 3072) (hroom : cs + 1 ≤ 634904 ∧ sl + 6 ≤ 7191392) (hx : CtI (γl γ) y_X_need b_X_need 6 (some .boolean) (rk 3) (γD γ) [(cI, .int)] (WX cI hX) [.ref (hX 0), .int (pr xs k 1), .int (pr xs k 2), .int (pr xs k 3), .int (pr xs k 4), .int (pr xs k 5)] u r u1) (hm : CtI (γl γ) y_M_need b_M_need 8 (some .boolean) (rk 2) (γD γ) [(cI, .int), (cZ, .boolean)] (WM cI cZ hM) [.ref (hM 0), .int (pr xs k 1), .int (pr xs k 2), .int (pr xs k 3), .int (pr xs k 4), .int (pr xs k 5)] v r v1) (kk : AtG γ (WL cI cZ cJ hX hM q) 7 cs sl 603 (lv0 b (hX 0) (hM 0) q k) [] (u1, v1, f)) : AtG γ (WL cI cZ cJ hX hM q) 7 cs sl 145 (lv0 b (hX 0) (hM 0) q k) [] (u, v, f) := by
  refine x_aload_n C d_L_law_145 rfl (k := 1) rfl ?_
  refine x_aload_n C d_L_law_146 rfl (k := 0) rfl ?_
  refine x_iload C d_L_law_147 (k := 4) rfl ?_
  refine x_iconst (v := 1) C d_L_law_149 (by decide) ?_
  refine x_iadd C d_L_law_150 ?_
  refine x_sld (v := (pr xs k 1)) C LC.1 LC.2.1 LC.nb (ix_in hk 1 (by decide)) rfl d_L_law_151 ?_
  refine x_aload_n C d_L_law_152 rfl (k := 0) rfl ?_
  refine x_iload C d_L_law_153 (k := 4) rfl ?_
  refine x_iconst (v := 2) C d_L_law_155 (by decide) ?_
  refine x_iadd C d_L_law_156 ?_
  refine x_sld (v := (pr xs k 2)) C LC.1 LC.2.1 LC.nb (ix_in hk 2 (by decide)) rfl d_L_law_157 ?_
  refine x_aload_n C d_L_law_158 rfl (k := 0) rfl ?_
  refine x_iload C d_L_law_159 (k := 4) rfl ?_
  refine x_iconst (v := 3) C d_L_law_161 (by decide) ?_
  refine x_iadd C d_L_law_162 ?_
  refine x_sld (v := (pr xs k 3)) C LC.1 LC.2.1 LC.nb (ix_in hk 3 (by decide)) rfl d_L_law_163 ?_
  refine x_aload_n C d_L_law_164 rfl (k := 0) rfl ?_
  refine x_iload C d_L_law_165 (k := 4) rfl ?_
  refine x_iconst (v := 4) C d_L_law_167 (by decide) ?_
  refine x_iadd C d_L_law_168 ?_
  refine x_sld (v := (pr xs k 4)) C LC.1 LC.2.1 LC.nb (ix_in hk 4 (by decide)) rfl d_L_law_169 ?_
  refine x_aload_n C d_L_law_170 rfl (k := 0) rfl ?_
  refine x_iload C d_L_law_171 (k := 4) rfl ?_
  refine x_iconst (v := 5) C d_L_law_173 (by decide) ?_
  refine x_iadd C d_L_law_174 ?_
  refine x_sld (v := (pr xs k 5)) C LC.1 LC.2.1 LC.nb (ix_in hk 5 (by decide)) rfl d_L_law_175 ?_
  refine x_callIvL (isT := [0]) (q0 := 0) (ci := 3) (rest := []) C hx rfl prtX kc_X_need ⟨⟨rfl, rfl⟩, by decide, by decide⟩ ⟨show _ ≤ 634904 by omega, show _ ≤ 7191392 by omega⟩ mm_L_31 ms_X_need ml_X_need rfl rfl rfl rfl (Nat.le_of_ble_eq_true rfl) d_L_law_176 ?_
  refine x_aload_n C d_L_law_179 rfl (k := 2) rfl ?_
  refine x_aload_n C d_L_law_180 rfl (k := 0) rfl ?_
  refine x_iload C d_L_law_181 (k := 4) rfl ?_
  refine x_iconst (v := 1) C d_L_law_183 (by decide) ?_
  refine x_iadd C d_L_law_184 ?_
  refine x_sld (v := (pr xs k 1)) C LC.1 LC.2.1 LC.nb (ix_in hk 1 (by decide)) rfl d_L_law_185 ?_
  refine x_aload_n C d_L_law_186 rfl (k := 0) rfl ?_
  refine x_iload C d_L_law_187 (k := 4) rfl ?_
  refine x_iconst (v := 2) C d_L_law_189 (by decide) ?_
  refine x_iadd C d_L_law_190 ?_
  refine x_sld (v := (pr xs k 2)) C LC.1 LC.2.1 LC.nb (ix_in hk 2 (by decide)) rfl d_L_law_191 ?_
  refine x_aload_n C d_L_law_192 rfl (k := 0) rfl ?_
  refine x_iload C d_L_law_193 (k := 4) rfl ?_
  refine x_iconst (v := 3) C d_L_law_195 (by decide) ?_
  refine x_iadd C d_L_law_196 ?_
  refine x_sld (v := (pr xs k 3)) C LC.1 LC.2.1 LC.nb (ix_in hk 3 (by decide)) rfl d_L_law_197 ?_
  refine x_aload_n C d_L_law_198 rfl (k := 0) rfl ?_
  refine x_iload C d_L_law_199 (k := 4) rfl ?_
  refine x_iconst (v := 4) C d_L_law_201 (by decide) ?_
  refine x_iadd C d_L_law_202 ?_
  refine x_sld (v := (pr xs k 4)) C LC.1 LC.2.1 LC.nb (ix_in hk 4 (by decide)) rfl d_L_law_203 ?_
  refine x_aload_n C d_L_law_204 rfl (k := 0) rfl ?_
  refine x_iload C d_L_law_205 (k := 4) rfl ?_
  refine x_iconst (v := 5) C d_L_law_207 (by decide) ?_
  refine x_iadd C d_L_law_208 ?_
  refine x_sld (v := (pr xs k 5)) C LC.1 LC.2.1 LC.nb (ix_in hk 5 (by decide)) rfl d_L_law_209 ?_
  refine x_callIvL (isT := [0, 1]) (q0 := 0) (ci := 4) (rest := [.int r]) C hm rfl prtM kc_M_need ⟨⟨rfl, rfl⟩, by decide, by decide⟩ ⟨show _ ≤ 634904 by omega, show _ ≤ 7191392 by omega⟩ mm_L_35 ms_M_need ml_M_need rfl rfl rfl rfl (Nat.le_of_ble_eq_true rfl) d_L_law_210 ?_
  exact x_icmp_eq (tgt := 603) C d_L_law_213 (by decide) (fun _ => kk) (fun h => absurd rfl h)
set_option maxHeartbeats 1000000 in
theorem la_drop {γ : CX} {cI cZ cJ : ClassId} {hX hM : Nat → Nat} {q b L k cs sl : Nat} {xs : Nat → Int32} {f : Nat → Int64} {u v u1 v1 : PS} {r : Int32} (C : Cx γ code 7 ret "PackagePickLaw" room_1 (tyL cI cZ cJ)) (LC : LawC γ b L xs) (hk : 6 * k + 6 ≤ L ∧ L ≤ 3072) (hroom : cs + 1 ≤ 634904 ∧ sl + 6 ≤ 7191392) (hx : CtI (γl γ) y_X_drop b_X_drop 3 (some .boolean) (rk 3) (γD γ) [(cI, .int)] (WX cI hX) [.ref (hX 0), .int (pr xs k 1), .int (pr xs k 2)] u r u1) (hm : CtI (γl γ) y_M_drop b_M_drop 3 (some .boolean) (rk 2) (γD γ) [(cI, .int), (cZ, .boolean)] (WM cI cZ hM) [.ref (hM 0), .int (pr xs k 1), .int (pr xs k 2)] v r v1) (kk : AtG γ (WL cI cZ cJ hX hM q) 7 cs sl 603 (lv0 b (hX 0) (hM 0) q k) [] (u1, v1, f)) : AtG γ (WL cI cZ cJ hX hM q) 7 cs sl 218 (lv0 b (hX 0) (hM 0) q k) [] (u, v, f) := by
  refine x_aload_n C d_L_law_218 rfl (k := 1) rfl ?_
  refine x_aload_n C d_L_law_219 rfl (k := 0) rfl ?_
  refine x_iload C d_L_law_220 (k := 4) rfl ?_
  refine x_iconst (v := 1) C d_L_law_222 (by decide) ?_
  refine x_iadd C d_L_law_223 ?_
  refine x_sld (v := (pr xs k 1)) C LC.1 LC.2.1 LC.nb (ix_in hk 1 (by decide)) rfl d_L_law_224 ?_
  refine x_aload_n C d_L_law_225 rfl (k := 0) rfl ?_
  refine x_iload C d_L_law_226 (k := 4) rfl ?_
  refine x_iconst (v := 2) C d_L_law_228 (by decide) ?_
  refine x_iadd C d_L_law_229 ?_
  refine x_sld (v := (pr xs k 2)) C LC.1 LC.2.1 LC.nb (ix_in hk 2 (by decide)) rfl d_L_law_230 ?_
  refine x_callIvL (isT := [0]) (q0 := 0) (ci := 3) (rest := []) C hx rfl prtX kc_X_drop ⟨⟨rfl, rfl⟩, by decide, by decide⟩ ⟨show _ ≤ 634904 by omega, show _ ≤ 7191392 by omega⟩ mm_L_36 ms_X_drop ml_X_drop rfl rfl rfl rfl (Nat.le_of_ble_eq_true rfl) d_L_law_231 ?_
  refine x_aload_n C d_L_law_234 rfl (k := 2) rfl ?_
  refine x_aload_n C d_L_law_235 rfl (k := 0) rfl ?_
  refine x_iload C d_L_law_236 (k := 4) rfl ?_
  refine x_iconst (v := 1) C d_L_law_238 (by decide) ?_
  refine x_iadd C d_L_law_239 ?_
  refine x_sld (v := (pr xs k 1)) C LC.1 LC.2.1 LC.nb (ix_in hk 1 (by decide)) rfl d_L_law_240 ?_
  refine x_aload_n C d_L_law_241 rfl (k := 0) rfl ?_
  refine x_iload C d_L_law_242 (k := 4) rfl ?_
  refine x_iconst (v := 2) C d_L_law_244 (by decide) ?_
  refine x_iadd C d_L_law_245 ?_
  refine x_sld (v := (pr xs k 2)) C LC.1 LC.2.1 LC.nb (ix_in hk 2 (by decide)) rfl d_L_law_246 ?_
  refine x_callIvL (isT := [0, 1]) (q0 := 0) (ci := 4) (rest := [.int r]) C hm rfl prtM kc_M_drop ⟨⟨rfl, rfl⟩, by decide, by decide⟩ ⟨show _ ≤ 634904 by omega, show _ ≤ 7191392 by omega⟩ mm_L_39 ms_M_drop ml_M_drop rfl rfl rfl rfl (Nat.le_of_ble_eq_true rfl) d_L_law_247 ?_
  exact x_icmp_eq (tgt := 603) C d_L_law_250 (by decide) (fun _ => kk) (fun h => absurd rfl h)
set_option maxHeartbeats 1000000 in
theorem la_ban {γ : CX} {cI cZ cJ : ClassId} {hX hM : Nat → Nat} {q b L k cs sl : Nat} {xs : Nat → Int32} {f : Nat → Int64} {u v u1 v1 : PS} {r : Int32} (C : Cx γ code 7 ret "PackagePickLaw" room_1 (tyL cI cZ cJ)) (LC : LawC γ b L xs) (hk : 6 * k + 6 ≤ L ∧ L ≤ 3072) (hroom : cs + 1 ≤ 634904 ∧ sl + 6 ≤ 7191392) (hx : CtI (γl γ) y_X_ban b_X_ban 5 (some .boolean) (rk 2) (γD γ) [(cI, .int)] (WX cI hX) [.ref (hX 0), .int (pr xs k 1), .int (pr xs k 2), .int (pr xs k 3), .int (pr xs k 4)] u r u1) (hm : CtI (γl γ) y_M_ban b_M_ban 5 (some .boolean) (rk 2) (γD γ) [(cI, .int), (cZ, .boolean)] (WM cI cZ hM) [.ref (hM 0), .int (pr xs k 1), .int (pr xs k 2), .int (pr xs k 3), .int (pr xs k 4)] v r v1) (kk : AtG γ (WL cI cZ cJ hX hM q) 7 cs sl 603 (lv0 b (hX 0) (hM 0) q k) [] (u1, v1, f)) : AtG γ (WL cI cZ cJ hX hM q) 7 cs sl 255 (lv0 b (hX 0) (hM 0) q k) [] (u, v, f) := by
  refine x_aload_n C d_L_law_255 rfl (k := 1) rfl ?_
  refine x_aload_n C d_L_law_256 rfl (k := 0) rfl ?_
  refine x_iload C d_L_law_257 (k := 4) rfl ?_
  refine x_iconst (v := 1) C d_L_law_259 (by decide) ?_
  refine x_iadd C d_L_law_260 ?_
  refine x_sld (v := (pr xs k 1)) C LC.1 LC.2.1 LC.nb (ix_in hk 1 (by decide)) rfl d_L_law_261 ?_
  refine x_aload_n C d_L_law_262 rfl (k := 0) rfl ?_
  refine x_iload C d_L_law_263 (k := 4) rfl ?_
  refine x_iconst (v := 2) C d_L_law_265 (by decide) ?_
  refine x_iadd C d_L_law_266 ?_
  refine x_sld (v := (pr xs k 2)) C LC.1 LC.2.1 LC.nb (ix_in hk 2 (by decide)) rfl d_L_law_267 ?_
  refine x_aload_n C d_L_law_268 rfl (k := 0) rfl ?_
  refine x_iload C d_L_law_269 (k := 4) rfl ?_
  refine x_iconst (v := 3) C d_L_law_271 (by decide) ?_
  refine x_iadd C d_L_law_272 ?_
  refine x_sld (v := (pr xs k 3)) C LC.1 LC.2.1 LC.nb (ix_in hk 3 (by decide)) rfl d_L_law_273 ?_
  refine x_aload_n C d_L_law_274 rfl (k := 0) rfl ?_
  refine x_iload C d_L_law_275 (k := 4) rfl ?_
  refine x_iconst (v := 4) C d_L_law_277 (by decide) ?_
  refine x_iadd C d_L_law_278 ?_
  refine x_sld (v := (pr xs k 4)) C LC.1 LC.2.1 LC.nb (ix_in hk 4 (by decide)) rfl d_L_law_279 ?_
  refine x_callIvL (isT := [0]) (q0 := 0) (ci := 3) (rest := []) C hx rfl prtX kc_X_ban ⟨⟨rfl, rfl⟩, by decide, by decide⟩ ⟨show _ ≤ 634904 by omega, show _ ≤ 7191392 by omega⟩ mm_L_40 ms_X_ban ml_X_ban rfl rfl rfl rfl (Nat.le_of_ble_eq_true rfl) d_L_law_280 ?_
  refine x_aload_n C d_L_law_283 rfl (k := 2) rfl ?_
  refine x_aload_n C d_L_law_284 rfl (k := 0) rfl ?_
  refine x_iload C d_L_law_285 (k := 4) rfl ?_
  refine x_iconst (v := 1) C d_L_law_287 (by decide) ?_
  refine x_iadd C d_L_law_288 ?_
  refine x_sld (v := (pr xs k 1)) C LC.1 LC.2.1 LC.nb (ix_in hk 1 (by decide)) rfl d_L_law_289 ?_
  refine x_aload_n C d_L_law_290 rfl (k := 0) rfl ?_
  refine x_iload C d_L_law_291 (k := 4) rfl ?_
  refine x_iconst (v := 2) C d_L_law_293 (by decide) ?_
  refine x_iadd C d_L_law_294 ?_
  refine x_sld (v := (pr xs k 2)) C LC.1 LC.2.1 LC.nb (ix_in hk 2 (by decide)) rfl d_L_law_295 ?_
  refine x_aload_n C d_L_law_296 rfl (k := 0) rfl ?_
  refine x_iload C d_L_law_297 (k := 4) rfl ?_
  refine x_iconst (v := 3) C d_L_law_299 (by decide) ?_
  refine x_iadd C d_L_law_300 ?_
  refine x_sld (v := (pr xs k 3)) C LC.1 LC.2.1 LC.nb (ix_in hk 3 (by decide)) rfl d_L_law_301 ?_
  refine x_aload_n C d_L_law_302 rfl (k := 0) rfl ?_
  refine x_iload C d_L_law_303 (k := 4) rfl ?_
  refine x_iconst (v := 4) C d_L_law_305 (by decide) ?_
  refine x_iadd C d_L_law_306 ?_
  refine x_sld (v := (pr xs k 4)) C LC.1 LC.2.1 LC.nb (ix_in hk 4 (by decide)) rfl d_L_law_307 ?_
  refine x_callIvL (isT := [0, 1]) (q0 := 0) (ci := 4) (rest := [.int r]) C hm rfl prtM kc_M_ban ⟨⟨rfl, rfl⟩, by decide, by decide⟩ ⟨show _ ≤ 634904 by omega, show _ ≤ 7191392 by omega⟩ mm_L_44 ms_M_ban ml_M_ban rfl rfl rfl rfl (Nat.le_of_ble_eq_true rfl) d_L_law_308 ?_
  exact x_icmp_eq (tgt := 603) C d_L_law_311 (by decide) (fun _ => kk) (fun h => absurd rfl h)
set_option maxHeartbeats 1000000 in
theorem la_ask {γ : CX} {cI cZ cJ : ClassId} {hX hM : Nat → Nat} {q b L k cs sl : Nat} {xs : Nat → Int32} {f : Nat → Int64} {u v u1 v1 : PS} {r : Int32} (C : Cx γ code 7 ret "PackagePickLaw" room_1 (tyL cI cZ cJ)) (LC : LawC γ b L xs) (hk : 6 * k + 6 ≤ L ∧ L ≤ 3072) (hroom : cs + 1 ≤ 634904 ∧ sl + 6 ≤ 7191392) (hx : CtI (γl γ) y_X_ask b_X_ask 4 (some .boolean) (rk 3) (γD γ) [(cI, .int)] (WX cI hX) [.ref (hX 0), .int (pr xs k 1), .int (pr xs k 2), .int (pr xs k 3)] u r u1) (hm : CtI (γl γ) y_M_ask b_M_ask 4 (some .boolean) (rk 2) (γD γ) [(cI, .int), (cZ, .boolean)] (WM cI cZ hM) [.ref (hM 0), .int (pr xs k 1), .int (pr xs k 2), .int (pr xs k 3)] v r v1) (kk : AtG γ (WL cI cZ cJ hX hM q) 7 cs sl 603 (lv0 b (hX 0) (hM 0) q k) [] (u1, v1, f)) : AtG γ (WL cI cZ cJ hX hM q) 7 cs sl 316 (lv0 b (hX 0) (hM 0) q k) [] (u, v, f) := by
  refine x_aload_n C d_L_law_316 rfl (k := 1) rfl ?_
  refine x_aload_n C d_L_law_317 rfl (k := 0) rfl ?_
  refine x_iload C d_L_law_318 (k := 4) rfl ?_
  refine x_iconst (v := 1) C d_L_law_320 (by decide) ?_
  refine x_iadd C d_L_law_321 ?_
  refine x_sld (v := (pr xs k 1)) C LC.1 LC.2.1 LC.nb (ix_in hk 1 (by decide)) rfl d_L_law_322 ?_
  refine x_aload_n C d_L_law_323 rfl (k := 0) rfl ?_
  refine x_iload C d_L_law_324 (k := 4) rfl ?_
  refine x_iconst (v := 2) C d_L_law_326 (by decide) ?_
  refine x_iadd C d_L_law_327 ?_
  refine x_sld (v := (pr xs k 2)) C LC.1 LC.2.1 LC.nb (ix_in hk 2 (by decide)) rfl d_L_law_328 ?_
  refine x_aload_n C d_L_law_329 rfl (k := 0) rfl ?_
  refine x_iload C d_L_law_330 (k := 4) rfl ?_
  refine x_iconst (v := 3) C d_L_law_332 (by decide) ?_
  refine x_iadd C d_L_law_333 ?_
  refine x_sld (v := (pr xs k 3)) C LC.1 LC.2.1 LC.nb (ix_in hk 3 (by decide)) rfl d_L_law_334 ?_
  refine x_callIvL (isT := [0]) (q0 := 0) (ci := 3) (rest := []) C hx rfl prtX kc_X_ask ⟨⟨rfl, rfl⟩, by decide, by decide⟩ ⟨show _ ≤ 634904 by omega, show _ ≤ 7191392 by omega⟩ mm_L_45 ms_X_ask ml_X_ask rfl rfl rfl rfl (Nat.le_of_ble_eq_true rfl) d_L_law_335 ?_
  refine x_aload_n C d_L_law_338 rfl (k := 2) rfl ?_
  refine x_aload_n C d_L_law_339 rfl (k := 0) rfl ?_
  refine x_iload C d_L_law_340 (k := 4) rfl ?_
  refine x_iconst (v := 1) C d_L_law_342 (by decide) ?_
  refine x_iadd C d_L_law_343 ?_
  refine x_sld (v := (pr xs k 1)) C LC.1 LC.2.1 LC.nb (ix_in hk 1 (by decide)) rfl d_L_law_344 ?_
  refine x_aload_n C d_L_law_345 rfl (k := 0) rfl ?_
  refine x_iload C d_L_law_346 (k := 4) rfl ?_
  refine x_iconst (v := 2) C d_L_law_348 (by decide) ?_
  refine x_iadd C d_L_law_349 ?_
  refine x_sld (v := (pr xs k 2)) C LC.1 LC.2.1 LC.nb (ix_in hk 2 (by decide)) rfl d_L_law_350 ?_
  refine x_aload_n C d_L_law_351 rfl (k := 0) rfl ?_
  refine x_iload C d_L_law_352 (k := 4) rfl ?_
  refine x_iconst (v := 3) C d_L_law_354 (by decide) ?_
  refine x_iadd C d_L_law_355 ?_
  refine x_sld (v := (pr xs k 3)) C LC.1 LC.2.1 LC.nb (ix_in hk 3 (by decide)) rfl d_L_law_356 ?_
  refine x_callIvL (isT := [0, 1]) (q0 := 0) (ci := 4) (rest := [.int r]) C hm rfl prtM kc_M_ask ⟨⟨rfl, rfl⟩, by decide, by decide⟩ ⟨show _ ≤ 634904 by omega, show _ ≤ 7191392 by omega⟩ mm_L_49 ms_M_ask ml_M_ask rfl rfl rfl rfl (Nat.le_of_ble_eq_true rfl) d_L_law_357 ?_
  exact x_icmp_eq (tgt := 603) C d_L_law_360 (by decide) (fun _ => kk) (fun h => absurd rfl h)
set_option maxHeartbeats 1000000 in
theorem la_take {γ : CX} {cI cZ cJ : ClassId} {hX hM : Nat → Nat} {q b L k cs sl : Nat} {xs : Nat → Int32} {f : Nat → Int64} {u v u1 v1 : PS} {r : Int32} (C : Cx γ code 7 ret "PackagePickLaw" room_1 (tyL cI cZ cJ)) (LC : LawC γ b L xs) (hk : 6 * k + 6 ≤ L ∧ L ≤ 3072) (hroom : cs + 1 ≤ 634904 ∧ sl + 6 ≤ 7191392) (hx : CtI (γl γ) y_X_take b_X_take 2 (some .boolean) (rk 1) (γD γ) [(cI, .int)] (WX cI hX) [.ref (hX 0), .int (pr xs k 1)] u r u1) (hm : CtI (γl γ) y_M_take b_M_take 3 (some .boolean) (rk 0) (γD γ) [(cI, .int), (cZ, .boolean)] (WM cI cZ hM) [.ref (hM 0), .int (pr xs k 1)] v r v1) (kk : AtG γ (WL cI cZ cJ hX hM q) 7 cs sl 603 (lv0 b (hX 0) (hM 0) q k) [] (u1, v1, f)) : AtG γ (WL cI cZ cJ hX hM q) 7 cs sl 365 (lv0 b (hX 0) (hM 0) q k) [] (u, v, f) := by
  refine x_aload_n C d_L_law_365 rfl (k := 1) rfl ?_
  refine x_aload_n C d_L_law_366 rfl (k := 0) rfl ?_
  refine x_iload C d_L_law_367 (k := 4) rfl ?_
  refine x_iconst (v := 1) C d_L_law_369 (by decide) ?_
  refine x_iadd C d_L_law_370 ?_
  refine x_sld (v := (pr xs k 1)) C LC.1 LC.2.1 LC.nb (ix_in hk 1 (by decide)) rfl d_L_law_371 ?_
  refine x_callIvL (isT := [0]) (q0 := 0) (ci := 3) (rest := []) C hx rfl prtX kc_X_take ⟨⟨rfl, rfl⟩, by decide, by decide⟩ ⟨show _ ≤ 634904 by omega, show _ ≤ 7191392 by omega⟩ mm_L_50 ms_X_take ml_X_take rfl rfl rfl rfl (Nat.le_of_ble_eq_true rfl) d_L_law_372 ?_
  refine x_aload_n C d_L_law_375 rfl (k := 2) rfl ?_
  refine x_aload_n C d_L_law_376 rfl (k := 0) rfl ?_
  refine x_iload C d_L_law_377 (k := 4) rfl ?_
  refine x_iconst (v := 1) C d_L_law_379 (by decide) ?_
  refine x_iadd C d_L_law_380 ?_
  refine x_sld (v := (pr xs k 1)) C LC.1 LC.2.1 LC.nb (ix_in hk 1 (by decide)) rfl d_L_law_381 ?_
  refine x_callIvL (isT := [0, 1]) (q0 := 0) (ci := 4) (rest := [.int r]) C hm rfl prtM kc_M_take ⟨⟨rfl, rfl⟩, by decide, by decide⟩ ⟨show _ ≤ 634904 by omega, show _ ≤ 7191392 by omega⟩ mm_L_54 ms_M_take ml_M_take rfl rfl rfl rfl (Nat.le_of_ble_eq_true rfl) d_L_law_382 ?_
  exact x_icmp_eq (tgt := 603) C d_L_law_385 (by decide) (fun _ => kk) (fun h => absurd rfl h)
set_option maxHeartbeats 1000000 in
theorem la_keep {γ : CX} {cI cZ cJ : ClassId} {hX hM : Nat → Nat} {q b L k cs sl : Nat} {xs : Nat → Int32} {f : Nat → Int64} {u v u1 v1 : PS} {r : Int32} (C : Cx γ code 7 ret "PackagePickLaw" room_1 (tyL cI cZ cJ)) (LC : LawC γ b L xs) (hk : 6 * k + 6 ≤ L ∧ L ≤ 3072) (hroom : cs + 1 ≤ 634904 ∧ sl + 6 ≤ 7191392) (hx : CtI (γl γ) y_X_keep b_X_keep 2 (some .int) (rk 2) (γD γ) [(cI, .int)] (WX cI hX) [.ref (hX 0)] u r u1) (hm : CtI (γl γ) y_M_keep b_M_keep 3 (some .int) (rk 1) (γD γ) [(cI, .int), (cZ, .boolean)] (WM cI cZ hM) [.ref (hM 0)] v r v1) (kk : AtG γ (WL cI cZ cJ hX hM q) 7 cs sl 603 (lv0 b (hX 0) (hM 0) q k) [] (u1, v1, f)) : AtG γ (WL cI cZ cJ hX hM q) 7 cs sl 446 (lv0 b (hX 0) (hM 0) q k) [] (u, v, f) := by
  refine x_aload_n C d_L_law_446 rfl (k := 1) rfl ?_
  refine x_callIvL (isT := [0]) (q0 := 0) (ci := 3) (rest := []) C hx rfl prtX kc_X_keep ⟨⟨rfl, rfl⟩, by decide, by decide⟩ ⟨show _ ≤ 634904 by omega, show _ ≤ 7191392 by omega⟩ mm_L_65 ms_X_keep ml_X_keep rfl rfl rfl rfl (Nat.le_of_ble_eq_true rfl) d_L_law_447 ?_
  refine x_aload_n C d_L_law_450 rfl (k := 2) rfl ?_
  refine x_callIvL (isT := [0, 1]) (q0 := 0) (ci := 4) (rest := [.int r]) C hm rfl prtM kc_M_keep ⟨⟨rfl, rfl⟩, by decide, by decide⟩ ⟨show _ ≤ 634904 by omega, show _ ≤ 7191392 by omega⟩ mm_L_68 ms_M_keep ml_M_keep rfl rfl rfl rfl (Nat.le_of_ble_eq_true rfl) d_L_law_451 ?_
  exact x_icmp_eq (tgt := 603) C d_L_law_454 (by decide) (fun _ => kk) (fun h => absurd rfl h)
set_option maxHeartbeats 1000000 in
theorem la_chosen {γ : CX} {cI cZ cJ : ClassId} {hX hM : Nat → Nat} {q b L k cs sl : Nat} {xs : Nat → Int32} {f : Nat → Int64} {u v u1 v1 : PS} {r : Int32} (C : Cx γ code 7 ret "PackagePickLaw" room_1 (tyL cI cZ cJ)) (LC : LawC γ b L xs) (hk : 6 * k + 6 ≤ L ∧ L ≤ 3072) (hroom : cs + 1 ≤ 634904 ∧ sl + 6 ≤ 7191392) (hx : CtI (γl γ) y_X_chosen b_X_chosen 3 (some .int) (rk 2) (γD γ) [(cI, .int)] (WX cI hX) [.ref (hX 0), .int (pr xs k 1)] u r u1) (hm : CtI (γl γ) y_M_chosen b_M_chosen 2 (some .int) (rk 1) (γD γ) [(cI, .int), (cZ, .boolean)] (WM cI cZ hM) [.ref (hM 0), .int (pr xs k 1)] v r v1) (kk : AtG γ (WL cI cZ cJ hX hM q) 7 cs sl 603 (lv0 b (hX 0) (hM 0) q k) [] (u1, v1, f)) : AtG γ (WL cI cZ cJ hX hM q) 7 cs sl 459 (lv0 b (hX 0) (hM 0) q k) [] (u, v, f) := by
  refine x_aload_n C d_L_law_459 rfl (k := 1) rfl ?_
  refine x_aload_n C d_L_law_460 rfl (k := 0) rfl ?_
  refine x_iload C d_L_law_461 (k := 4) rfl ?_
  refine x_iconst (v := 1) C d_L_law_463 (by decide) ?_
  refine x_iadd C d_L_law_464 ?_
  refine x_sld (v := (pr xs k 1)) C LC.1 LC.2.1 LC.nb (ix_in hk 1 (by decide)) rfl d_L_law_465 ?_
  refine x_callIvL (isT := [0]) (q0 := 0) (ci := 3) (rest := []) C hx rfl prtX kc_X_chosen ⟨⟨rfl, rfl⟩, by decide, by decide⟩ ⟨show _ ≤ 634904 by omega, show _ ≤ 7191392 by omega⟩ mm_L_69 ms_X_chosen ml_X_chosen rfl rfl rfl rfl (Nat.le_of_ble_eq_true rfl) d_L_law_466 ?_
  refine x_aload_n C d_L_law_469 rfl (k := 2) rfl ?_
  refine x_aload_n C d_L_law_470 rfl (k := 0) rfl ?_
  refine x_iload C d_L_law_471 (k := 4) rfl ?_
  refine x_iconst (v := 1) C d_L_law_473 (by decide) ?_
  refine x_iadd C d_L_law_474 ?_
  refine x_sld (v := (pr xs k 1)) C LC.1 LC.2.1 LC.nb (ix_in hk 1 (by decide)) rfl d_L_law_475 ?_
  refine x_callIvL (isT := [0, 1]) (q0 := 0) (ci := 4) (rest := [.int r]) C hm rfl prtM kc_M_chosen ⟨⟨rfl, rfl⟩, by decide, by decide⟩ ⟨show _ ≤ 634904 by omega, show _ ≤ 7191392 by omega⟩ mm_L_72 ms_M_chosen ml_M_chosen rfl rfl rfl rfl (Nat.le_of_ble_eq_true rfl) d_L_law_476 ?_
  exact x_icmp_eq (tgt := 603) C d_L_law_479 (by decide) (fun _ => kk) (fun h => absurd rfl h)
set_option maxHeartbeats 1000000 in
theorem la_many {γ : CX} {cI cZ cJ : ClassId} {hX hM : Nat → Nat} {q b L k cs sl : Nat} {xs : Nat → Int32} {f : Nat → Int64} {u v u1 v1 : PS} {r : Int32} (C : Cx γ code 7 ret "PackagePickLaw" room_1 (tyL cI cZ cJ)) (LC : LawC γ b L xs) (hk : 6 * k + 6 ≤ L ∧ L ≤ 3072) (hroom : cs + 1 ≤ 634904 ∧ sl + 6 ≤ 7191392) (hx : CtI (γl γ) y_X_many b_X_many 1 (some .int) (rk 14) (γD γ) [(cI, .int)] (WX cI hX) [.ref (hX 0)] u r u1) (hm : CtI (γl γ) y_M_many b_M_many 2 (some .int) (rk 3) (γD γ) [(cI, .int), (cZ, .boolean)] (WM cI cZ hM) [.ref (hM 0)] v r v1) (kk : AtG γ (WL cI cZ cJ hX hM q) 7 cs sl 603 (lv0 b (hX 0) (hM 0) q k) [] (u1, v1, f)) : AtG γ (WL cI cZ cJ hX hM q) 7 cs sl 484 (lv0 b (hX 0) (hM 0) q k) [] (u, v, f) := by
  refine x_aload_n C d_L_law_484 rfl (k := 1) rfl ?_
  refine x_callIvL (isT := [0]) (q0 := 0) (ci := 3) (rest := []) C hx rfl prtX kc_X_many ⟨⟨rfl, rfl⟩, by decide, by decide⟩ ⟨show _ ≤ 634904 by omega, show _ ≤ 7191392 by omega⟩ mm_L_73 ms_X_many ml_X_many rfl rfl rfl rfl (Nat.le_of_ble_eq_true rfl) d_L_law_485 ?_
  refine x_aload_n C d_L_law_488 rfl (k := 2) rfl ?_
  refine x_callIvL (isT := [0, 1]) (q0 := 0) (ci := 4) (rest := [.int r]) C hm rfl prtM kc_M_many ⟨⟨rfl, rfl⟩, by decide, by decide⟩ ⟨show _ ≤ 634904 by omega, show _ ≤ 7191392 by omega⟩ mm_L_76 ms_M_many ml_M_many rfl rfl rfl rfl (Nat.le_of_ble_eq_true rfl) d_L_law_489 ?_
  exact x_icmp_eq (tgt := 603) C d_L_law_492 (by decide) (fun _ => kk) (fun h => absurd rfl h)
set_option maxHeartbeats 1000000 in
theorem la_can {γ : CX} {cI cZ cJ : ClassId} {hX hM : Nat → Nat} {q b L k cs sl : Nat} {xs : Nat → Int32} {f : Nat → Int64} {u v u1 v1 : PS} {r : Int32} (C : Cx γ code 7 ret "PackagePickLaw" room_1 (tyL cI cZ cJ)) (LC : LawC γ b L xs) (hk : 6 * k + 6 ≤ L ∧ L ≤ 3072) (hroom : cs + 1 ≤ 634904 ∧ sl + 6 ≤ 7191392) (hx : CtI (γl γ) y_X_can b_X_can 3 (some .int) (rk 14) (γD γ) [(cI, .int)] (WX cI hX) [.ref (hX 0), .int (pr xs k 1)] u r u1) (hm : CtI (γl γ) y_M_can b_M_can 3 (some .int) (rk 3) (γD γ) [(cI, .int), (cZ, .boolean)] (WM cI cZ hM) [.ref (hM 0), .int (pr xs k 1)] v r v1) (kk : AtG γ (WL cI cZ cJ hX hM q) 7 cs sl 603 (lv0 b (hX 0) (hM 0) q k) [] (u1, v1, f)) : AtG γ (WL cI cZ cJ hX hM q) 7 cs sl 497 (lv0 b (hX 0) (hM 0) q k) [] (u, v, f) := by
  refine x_aload_n C d_L_law_497 rfl (k := 1) rfl ?_
  refine x_aload_n C d_L_law_498 rfl (k := 0) rfl ?_
  refine x_iload C d_L_law_499 (k := 4) rfl ?_
  refine x_iconst (v := 1) C d_L_law_501 (by decide) ?_
  refine x_iadd C d_L_law_502 ?_
  refine x_sld (v := (pr xs k 1)) C LC.1 LC.2.1 LC.nb (ix_in hk 1 (by decide)) rfl d_L_law_503 ?_
  refine x_callIvL (isT := [0]) (q0 := 0) (ci := 3) (rest := []) C hx rfl prtX kc_X_can ⟨⟨rfl, rfl⟩, by decide, by decide⟩ ⟨show _ ≤ 634904 by omega, show _ ≤ 7191392 by omega⟩ mm_L_77 ms_X_can ml_X_can rfl rfl rfl rfl (Nat.le_of_ble_eq_true rfl) d_L_law_504 ?_
  refine x_aload_n C d_L_law_507 rfl (k := 2) rfl ?_
  refine x_aload_n C d_L_law_508 rfl (k := 0) rfl ?_
  refine x_iload C d_L_law_509 (k := 4) rfl ?_
  refine x_iconst (v := 1) C d_L_law_511 (by decide) ?_
  refine x_iadd C d_L_law_512 ?_
  refine x_sld (v := (pr xs k 1)) C LC.1 LC.2.1 LC.nb (ix_in hk 1 (by decide)) rfl d_L_law_513 ?_
  refine x_callIvL (isT := [0, 1]) (q0 := 0) (ci := 4) (rest := [.int r]) C hm rfl prtM kc_M_can ⟨⟨rfl, rfl⟩, by decide, by decide⟩ ⟨show _ ≤ 634904 by omega, show _ ≤ 7191392 by omega⟩ mm_L_80 ms_M_can ml_M_can rfl rfl rfl rfl (Nat.le_of_ble_eq_true rfl) d_L_law_514 ?_
  exact x_icmp_eq (tgt := 603) C d_L_law_517 (by decide) (fun _ => kk) (fun h => absurd rfl h)
set_option maxHeartbeats 1000000 in
theorem la_count {γ : CX} {cI cZ cJ : ClassId} {hX hM : Nat → Nat} {q b L k cs sl : Nat} {xs : Nat → Int32} {f : Nat → Int64} {u v u1 v1 : PS} {r : Int32} (C : Cx γ code 7 ret "PackagePickLaw" room_1 (tyL cI cZ cJ)) (LC : LawC γ b L xs) (hk : 6 * k + 6 ≤ L ∧ L ≤ 3072) (hroom : cs + 1 ≤ 634904 ∧ sl + 6 ≤ 7191392) (hx : CtI (γl γ) y_X_count b_X_count 2 (some .int) (rk 2) (γD γ) [(cI, .int)] (WX cI hX) [.ref (hX 0), .int (pr xs k 1)] u r u1) (hm : CtI (γl γ) y_M_count b_M_count 4 (some .int) (rk 1) (γD γ) [(cI, .int), (cZ, .boolean)] (WM cI cZ hM) [.ref (hM 0), .int (pr xs k 1)] v r v1) (kk : AtG γ (WL cI cZ cJ hX hM q) 7 cs sl 603 (lv0 b (hX 0) (hM 0) q k) [] (u1, v1, f)) : AtG γ (WL cI cZ cJ hX hM q) 7 cs sl 578 (lv0 b (hX 0) (hM 0) q k) [] (u, v, f) := by
  refine x_aload_n C d_L_law_578 rfl (k := 1) rfl ?_
  refine x_aload_n C d_L_law_579 rfl (k := 0) rfl ?_
  refine x_iload C d_L_law_580 (k := 4) rfl ?_
  refine x_iconst (v := 1) C d_L_law_582 (by decide) ?_
  refine x_iadd C d_L_law_583 ?_
  refine x_sld (v := (pr xs k 1)) C LC.1 LC.2.1 LC.nb (ix_in hk 1 (by decide)) rfl d_L_law_584 ?_
  refine x_callIvL (isT := [0]) (q0 := 0) (ci := 3) (rest := []) C hx rfl prtX kc_X_count ⟨⟨rfl, rfl⟩, by decide, by decide⟩ ⟨show _ ≤ 634904 by omega, show _ ≤ 7191392 by omega⟩ mm_L_84 ms_X_count ml_X_count rfl rfl rfl rfl (Nat.le_of_ble_eq_true rfl) d_L_law_585 ?_
  refine x_aload_n C d_L_law_588 rfl (k := 2) rfl ?_
  refine x_aload_n C d_L_law_589 rfl (k := 0) rfl ?_
  refine x_iload C d_L_law_590 (k := 4) rfl ?_
  refine x_iconst (v := 1) C d_L_law_592 (by decide) ?_
  refine x_iadd C d_L_law_593 ?_
  refine x_sld (v := (pr xs k 1)) C LC.1 LC.2.1 LC.nb (ix_in hk 1 (by decide)) rfl d_L_law_594 ?_
  refine x_callIvL (isT := [0, 1]) (q0 := 0) (ci := 4) (rest := [.int r]) C hm rfl prtM kc_M_count ⟨⟨rfl, rfl⟩, by decide, by decide⟩ ⟨show _ ≤ 634904 by omega, show _ ≤ 7191392 by omega⟩ mm_L_87 ms_M_count ml_M_count rfl rfl rfl rfl (Nat.le_of_ble_eq_true rfl) d_L_law_595 ?_
  exact x_icmp_eq (tgt := 603) C d_L_law_598 (by decide) (fun _ => kk) (fun h => absurd rfl h)
set_option maxHeartbeats 1000000 in
theorem la_solve {γ : CX} {cI cZ cJ : ClassId} {hX hM : Nat → Nat} {q b L k cs sl : Nat} {xs : Nat → Int32} {f : Nat → Int64} {u v u1 v1 : PS} {r : Int32} {kc : Int32} {f1 : Nat → Int64} {mc ms : Nat} (hmc : mc ≤ 1 ∧ ms ≤ 6) (C : Cx γ code 7 ret "PackagePickLaw" room_1 (tyL cI cZ cJ)) (LC : LawC γ b L xs) (hk : 6 * k + 6 ≤ L ∧ L ≤ 3072) (hroom : cs + 1 ≤ 634904 ∧ sl + 6 ≤ 7191392) (hx : CtJ (γl γ) y_L_solve b_L_solve 4 (some .int) hhS 18 mc ms (γD γ) [(cI, .int), (cJ, .long)] (WXJ cI cJ hX q) [.ref (hX 0), .int (pr xs k 1), .ref q] (u, f) kc (u1, f1) (γs γ).heap.size) (hm : CtI (γl γ) y_M_solve b_M_solve 5 (some .int) (rk 4) (γD γ) [(cI, .int), (cZ, .boolean)] (WM cI cZ hM) [.ref (hM 0), .int (pr xs k 1)] v r v1) (ht : CtI (γl γ) y_M_thrown b_M_thrown 1 (some .int) (rk 0) (γD γ) [(cI, .int), (cZ, .boolean)] (WM cI cZ hM) [.ref (hM 0)] v1 kc v1) (hcmp : kc = 0 → f1 0 = r.toInt64) (kk : AtG γ (WL cI cZ cJ hX hM q) 7 (cs + mc) (sl + ms) 603 (lv0 b (hX 0) (hM 0) q k) [] (u1, v1, f1)) : AtG γ (WL cI cZ cJ hX hM q) 7 cs sl 390 (lv0 b (hX 0) (hM 0) q k) [] (u, v, f) := by
  refine x_aload_n C d_L_law_390 rfl (k := 1) rfl ?_
  refine x_aload_n C d_L_law_391 rfl (k := 0) rfl ?_
  refine x_iload C d_L_law_392 (k := 4) rfl ?_
  refine x_iconst (v := 1) C d_L_law_394 (by decide) ?_
  refine x_iadd C d_L_law_395 ?_
  refine x_sld (v := (pr xs k 1)) C LC.1 LC.2.1 LC.nb (ix_in hk 1 (by decide)) rfl d_L_law_396 ?_
  refine x_aload_n C d_L_law_397 rfl (k := 3) rfl ?_
  refine x_callJ (isT := [0, 2]) (rest := []) C hx rfl prtW mcw_solve mi_PackagePickLaw (n := 3) (by decide +kernel) ⟨by decide, by decide⟩ ⟨show cs + mc ≤ 634904 by omega, show sl + ms ≤ 7191392 by omega⟩ mm_L_55 mst_solve rfl rfl (Nat.le_of_ble_eq_true rfl) d_L_law_398 LC.2.2.2.1 LC.2.2.2.2.1 LC.2.2.1 (Nat.le_refl _) ?_
  refine x_istore (lv' := (5, .int kc) :: (lv0 b (hX 0) (hM 0) q k)) C d_L_law_401 (by decide) rfl ?_
  refine x_aload_n C d_L_law_403 rfl (k := 3) rfl ?_
  refine x_aload_n C d_L_law_404 rfl (k := 1) rfl ?_
  refine x_iload C d_L_law_405 (k := 5) rfl ?_
  refine x_iconst (v := 1) C d_L_law_407 (by decide) ?_
  refine x_iadd C d_L_law_408 ?_
  refine x_sld (v := (pr xs k 1)) C LC.1 LC.2.1 LC.nb (ix_in hk 1 (by decide)) rfl d_L_law_409 ?_
  refine x_callIvL (isT := [0, 1]) (q0 := 0) (ci := 4) (rest := []) C hm rfl prtM kc_M_solve ⟨⟨rfl, rfl⟩, by decide, by decide⟩ ⟨show cs + mc ≤ 634904 by omega, show sl + ms ≤ 7191392 by omega⟩ mm_L_60 ms_M_solve ml_M_solve rfl rfl rfl rfl (Nat.le_of_ble_eq_true rfl) d_L_law_410 ?_
  refine x_istore (lv' := (6, .int r) :: (5, .int kc) :: (lv0 b (hX 0) (hM 0) q k)) C d_L_law_413 (by decide) rfl ?_
  refine x_aload_n C d_L_law_415 rfl (k := 4) rfl ?_
  refine x_callIvL (isT := [0, 1]) (q0 := 0) (ci := 4) (rest := []) C ht rfl prtM kc_M_thrown ⟨⟨rfl, rfl⟩, by decide, by decide⟩ ⟨show cs + mc ≤ 634904 by omega, show sl + ms ≤ 7191392 by omega⟩ mm_L_61 ms_M_thrown ml_M_thrown rfl rfl rfl rfl (Nat.le_of_ble_eq_true rfl) d_L_law_416 ?_
  refine x_iload C d_L_law_419 (k := 1) rfl ?_
  refine x_icmp_eq (tgt := 426) C d_L_law_421 (by decide) (fun _ => ?_) (fun h => absurd rfl h)
  refine x_iload C d_L_law_426 (k := 1) rfl ?_
  have fin : AtG γ (WL cI cZ cJ hX hM q) 7 (cs + mc) (sl + ms) 443 ((6, .int r) :: (5, .int kc) :: (lv0 b (hX 0) (hM 0) q k)) [] (u1, v1, f1) := x_goto (tgt := 603) C d_L_law_443 (by decide) (x_sub [2, 3, 4, 5, 6] rfl kk)
  refine x_if_ne (tgt := 443) C d_L_law_428 (by decide) (fun _ => fin) (fun h0 => ?_)
  refine x_aload_n C d_L_law_431 rfl (k := 5) rfl ?_
  refine x_iconst (v := 0) C d_L_law_432 (by decide) ?_
  refine x_lald (q0 := 26) (t0 := 2) (nn := 1) (f := f1) (v := f1 0) C rfl rfl rfl rfl d_L_law_433 ?_
  refine x_iload C d_L_law_434 (k := 0) rfl ?_
  refine x_i2l C d_L_law_436 ?_
  refine x_lcmp0 C (hcmp h0) d_L_law_437 ?_
  exact x_if_eq (tgt := 443) C d_L_law_438 (by decide) (fun _ => fin) (fun h => absurd rfl h)
set_option maxHeartbeats 1000000 in
theorem la_core {γ : CX} {cI cZ cJ : ClassId} {hX hM : Nat → Nat} {q b L k cs sl : Nat} {xs : Nat → Int32} {f : Nat → Int64} {u v u1 v1 : PS} {r : Int32} {kc : Int32} {f1 : Nat → Int64} {mc ms : Nat} (hmc : mc ≤ 1 ∧ ms ≤ 6) (C : Cx γ code 7 ret "PackagePickLaw" room_1 (tyL cI cZ cJ)) (LC : LawC γ b L xs) (hk : 6 * k + 6 ≤ L ∧ L ≤ 3072) (hroom : cs + 1 ≤ 634904 ∧ sl + 6 ≤ 7191392) (hx : CtJ (γl γ) y_L_core b_L_core 4 (some .int) hhC 18 mc ms (γD γ) [(cI, .int), (cJ, .long)] (WXJ cI cJ hX q) [.ref (hX 0), .int (pr xs k 1), .ref q] (u, f) kc (u1, f1) (γs γ).heap.size) (hm : CtI (γl γ) y_M_core b_M_core 4 (some .int) (rk 0) (γD γ) [(cI, .int), (cZ, .boolean)] (WM cI cZ hM) [.ref (hM 0), .int (pr xs k 1)] v r v1) (ht : CtI (γl γ) y_M_thrown b_M_thrown 1 (some .int) (rk 0) (γD γ) [(cI, .int), (cZ, .boolean)] (WM cI cZ hM) [.ref (hM 0)] v1 kc v1) (hcmp : kc = 0 → f1 0 = r.toInt64) (kk : AtG γ (WL cI cZ cJ hX hM q) 7 (cs + mc) (sl + ms) 603 (lv0 b (hX 0) (hM 0) q k) [] (u1, v1, f1)) : AtG γ (WL cI cZ cJ hX hM q) 7 cs sl 522 (lv0 b (hX 0) (hM 0) q k) [] (u, v, f) := by
  refine x_aload_n C d_L_law_522 rfl (k := 1) rfl ?_
  refine x_aload_n C d_L_law_523 rfl (k := 0) rfl ?_
  refine x_iload C d_L_law_524 (k := 4) rfl ?_
  refine x_iconst (v := 1) C d_L_law_526 (by decide) ?_
  refine x_iadd C d_L_law_527 ?_
  refine x_sld (v := (pr xs k 1)) C LC.1 LC.2.1 LC.nb (ix_in hk 1 (by decide)) rfl d_L_law_528 ?_
  refine x_aload_n C d_L_law_529 rfl (k := 3) rfl ?_
  refine x_callJ (isT := [0, 2]) (rest := []) C hx rfl prtW mcw_core mi_PackagePickLaw (n := 3) (by decide +kernel) ⟨by decide, by decide⟩ ⟨show cs + mc ≤ 634904 by omega, show sl + ms ≤ 7191392 by omega⟩ mm_L_81 mst_core rfl rfl (Nat.le_of_ble_eq_true rfl) d_L_law_530 LC.2.2.2.1 LC.2.2.2.2.1 LC.2.2.1 (Nat.le_refl _) ?_
  refine x_istore (lv' := (5, .int kc) :: (lv0 b (hX 0) (hM 0) q k)) C d_L_law_533 (by decide) rfl ?_
  refine x_aload_n C d_L_law_535 rfl (k := 3) rfl ?_
  refine x_aload_n C d_L_law_536 rfl (k := 1) rfl ?_
  refine x_iload C d_L_law_537 (k := 5) rfl ?_
  refine x_iconst (v := 1) C d_L_law_539 (by decide) ?_
  refine x_iadd C d_L_law_540 ?_
  refine x_sld (v := (pr xs k 1)) C LC.1 LC.2.1 LC.nb (ix_in hk 1 (by decide)) rfl d_L_law_541 ?_
  refine x_callIvL (isT := [0, 1]) (q0 := 0) (ci := 4) (rest := []) C hm rfl prtM kc_M_core ⟨⟨rfl, rfl⟩, by decide, by decide⟩ ⟨show cs + mc ≤ 634904 by omega, show sl + ms ≤ 7191392 by omega⟩ mm_L_83 ms_M_core ml_M_core rfl rfl rfl rfl (Nat.le_of_ble_eq_true rfl) d_L_law_542 ?_
  refine x_istore (lv' := (6, .int r) :: (5, .int kc) :: (lv0 b (hX 0) (hM 0) q k)) C d_L_law_545 (by decide) rfl ?_
  refine x_aload_n C d_L_law_547 rfl (k := 4) rfl ?_
  refine x_callIvL (isT := [0, 1]) (q0 := 0) (ci := 4) (rest := []) C ht rfl prtM kc_M_thrown ⟨⟨rfl, rfl⟩, by decide, by decide⟩ ⟨show cs + mc ≤ 634904 by omega, show sl + ms ≤ 7191392 by omega⟩ mm_L_61 ms_M_thrown ml_M_thrown rfl rfl rfl rfl (Nat.le_of_ble_eq_true rfl) d_L_law_548 ?_
  refine x_iload C d_L_law_551 (k := 1) rfl ?_
  refine x_icmp_eq (tgt := 558) C d_L_law_553 (by decide) (fun _ => ?_) (fun h => absurd rfl h)
  refine x_iload C d_L_law_558 (k := 1) rfl ?_
  have fin : AtG γ (WL cI cZ cJ hX hM q) 7 (cs + mc) (sl + ms) 575 ((6, .int r) :: (5, .int kc) :: (lv0 b (hX 0) (hM 0) q k)) [] (u1, v1, f1) := x_goto (tgt := 603) C d_L_law_575 (by decide) (x_sub [2, 3, 4, 5, 6] rfl kk)
  refine x_if_ne (tgt := 575) C d_L_law_560 (by decide) (fun _ => fin) (fun h0 => ?_)
  refine x_aload_n C d_L_law_563 rfl (k := 5) rfl ?_
  refine x_iconst (v := 0) C d_L_law_564 (by decide) ?_
  refine x_lald (q0 := 26) (t0 := 2) (nn := 1) (f := f1) (v := f1 0) C rfl rfl rfl rfl d_L_law_565 ?_
  refine x_iload C d_L_law_566 (k := 0) rfl ?_
  refine x_i2l C d_L_law_568 ?_
  refine x_lcmp0 C (hcmp h0) d_L_law_569 ?_
  exact x_if_eq (tgt := 575) C d_L_law_570 (by decide) (fun _ => fin) (fun h => absurd rfl h)
