-- ---- java/lang/Integer.bitCount(I)I
def b_J_bitCount_48 (x0 : Int32) : Int32 :=
  (x0 &&& (63 : Int32))
set_option maxRecDepth 100000 in
set_option maxHeartbeats 4000000 in
theorem w_J_bitCount_48 {γ : CX} {S : Type} {wf : S → va_W} {tys : Tys} {u : S} {r0 : Int32} (C : Cx γ b_J_bitCount 1 (some .int) "java/lang/Integer" (rk 0) tys) (hQ : QI γ tys wf r0 u) (x0 : Int32) (hf : b_J_bitCount_48 x0 = r0) : AtG γ wf 1 0 0 48 [(0, .int x0)] [] u := by
  unfold b_J_bitCount_48 at hf
  refine x_iload_n C d_J_bitCount_48 rfl (k := 0) rfl ?_
  refine x_bipush (v := 63) C d_J_bitCount_49 (by decide) ?_
  refine x_iand C d_J_bitCount_51 ?_
  exact x_iret C hQ hf rfl d_J_bitCount_52
def b_J_bitCount_41 (x0 : Int32) : Int32 :=
  b_J_bitCount_48 (x0 + (ush x0 (16 : Int32)))
set_option maxRecDepth 100000 in
set_option maxHeartbeats 4000000 in
theorem w_J_bitCount_41 {γ : CX} {S : Type} {wf : S → va_W} {tys : Tys} {u : S} {r0 : Int32} (C : Cx γ b_J_bitCount 1 (some .int) "java/lang/Integer" (rk 0) tys) (hQ : QI γ tys wf r0 u) (x0 : Int32) (hf : b_J_bitCount_41 x0 = r0) : AtG γ wf 1 0 0 41 [(0, .int x0)] [] u := by
  unfold b_J_bitCount_41 at hf
  refine x_iload_n C d_J_bitCount_41 rfl (k := 0) rfl ?_
  refine x_iload_n C d_J_bitCount_42 rfl (k := 0) rfl ?_
  refine x_bipush (v := 16) C d_J_bitCount_43 (by decide) ?_
  refine x_iushr C d_J_bitCount_45 ?_
  refine x_iadd C d_J_bitCount_46 ?_
  refine x_istore_n (lv' := [(0, .int (x0 + (ush x0 (16 : Int32))))]) C d_J_bitCount_47 rfl (by decide) rfl ?_
  exact w_J_bitCount_48 C hQ (x0 + (ush x0 (16 : Int32))) hf
def b_J_bitCount_34 (x0 : Int32) : Int32 :=
  b_J_bitCount_41 (x0 + (ush x0 (8 : Int32)))
set_option maxRecDepth 100000 in
set_option maxHeartbeats 4000000 in
theorem w_J_bitCount_34 {γ : CX} {S : Type} {wf : S → va_W} {tys : Tys} {u : S} {r0 : Int32} (C : Cx γ b_J_bitCount 1 (some .int) "java/lang/Integer" (rk 0) tys) (hQ : QI γ tys wf r0 u) (x0 : Int32) (hf : b_J_bitCount_34 x0 = r0) : AtG γ wf 1 0 0 34 [(0, .int x0)] [] u := by
  unfold b_J_bitCount_34 at hf
  refine x_iload_n C d_J_bitCount_34 rfl (k := 0) rfl ?_
  refine x_iload_n C d_J_bitCount_35 rfl (k := 0) rfl ?_
  refine x_bipush (v := 8) C d_J_bitCount_36 (by decide) ?_
  refine x_iushr C d_J_bitCount_38 ?_
  refine x_iadd C d_J_bitCount_39 ?_
  refine x_istore_n (lv' := [(0, .int (x0 + (ush x0 (8 : Int32))))]) C d_J_bitCount_40 rfl (by decide) rfl ?_
  exact w_J_bitCount_41 C hQ (x0 + (ush x0 (8 : Int32))) hf
def b_J_bitCount_24 (x0 : Int32) : Int32 :=
  b_J_bitCount_34 ((x0 + (ush x0 (4 : Int32))) &&& (252645135 : Int32))
set_option maxRecDepth 100000 in
set_option maxHeartbeats 4000000 in
theorem w_J_bitCount_24 {γ : CX} {S : Type} {wf : S → va_W} {tys : Tys} {u : S} {r0 : Int32} (C : Cx γ b_J_bitCount 1 (some .int) "java/lang/Integer" (rk 0) tys) (hQ : QI γ tys wf r0 u) (x0 : Int32) (hf : b_J_bitCount_24 x0 = r0) : AtG γ wf 1 0 0 24 [(0, .int x0)] [] u := by
  unfold b_J_bitCount_24 at hf
  refine x_iload_n C d_J_bitCount_24 rfl (k := 0) rfl ?_
  refine x_iload_n C d_J_bitCount_25 rfl (k := 0) rfl ?_
  refine x_iconst (v := 4) C d_J_bitCount_26 (by decide) ?_
  refine x_iushr C d_J_bitCount_27 ?_
  refine x_iadd C d_J_bitCount_28 ?_
  refine x_ldcw (v := 252645135) C mk_J_267 d_J_bitCount_29 ?_
  refine x_iand C d_J_bitCount_32 ?_
  refine x_istore_n (lv' := [(0, .int ((x0 + (ush x0 (4 : Int32))) &&& (252645135 : Int32)))]) C d_J_bitCount_33 rfl (by decide) rfl ?_
  exact w_J_bitCount_34 C hQ ((x0 + (ush x0 (4 : Int32))) &&& (252645135 : Int32)) hf
def b_J_bitCount_10 (x0 : Int32) : Int32 :=
  b_J_bitCount_24 ((x0 &&& (858993459 : Int32)) + ((ush x0 (2 : Int32)) &&& (858993459 : Int32)))
set_option maxRecDepth 100000 in
set_option maxHeartbeats 4000000 in
theorem w_J_bitCount_10 {γ : CX} {S : Type} {wf : S → va_W} {tys : Tys} {u : S} {r0 : Int32} (C : Cx γ b_J_bitCount 1 (some .int) "java/lang/Integer" (rk 0) tys) (hQ : QI γ tys wf r0 u) (x0 : Int32) (hf : b_J_bitCount_10 x0 = r0) : AtG γ wf 1 0 0 10 [(0, .int x0)] [] u := by
  unfold b_J_bitCount_10 at hf
  refine x_iload_n C d_J_bitCount_10 rfl (k := 0) rfl ?_
  refine x_ldcw (v := 858993459) C mk_J_266 d_J_bitCount_11 ?_
  refine x_iand C d_J_bitCount_14 ?_
  refine x_iload_n C d_J_bitCount_15 rfl (k := 0) rfl ?_
  refine x_iconst (v := 2) C d_J_bitCount_16 (by decide) ?_
  refine x_iushr C d_J_bitCount_17 ?_
  refine x_ldcw (v := 858993459) C mk_J_266 d_J_bitCount_18 ?_
  refine x_iand C d_J_bitCount_21 ?_
  refine x_iadd C d_J_bitCount_22 ?_
  refine x_istore_n (lv' := [(0, .int ((x0 &&& (858993459 : Int32)) + ((ush x0 (2 : Int32)) &&& (858993459 : Int32))))]) C d_J_bitCount_23 rfl (by decide) rfl ?_
  exact w_J_bitCount_24 C hQ ((x0 &&& (858993459 : Int32)) + ((ush x0 (2 : Int32)) &&& (858993459 : Int32))) hf
def f_J_bitCount (a0 : Int32) : Int32 :=
  b_J_bitCount_10 (a0 - ((ush a0 (1 : Int32)) &&& (1431655765 : Int32)))
set_option maxRecDepth 100000 in
set_option maxHeartbeats 4000000 in
theorem w_J_bitCount {γ : CX} {S : Type} {wf : S → va_W} {tys : Tys} {u : S} {r0 : Int32} (C : Cx γ b_J_bitCount 1 (some .int) "java/lang/Integer" (rk 0) tys) (hQ : QI γ tys wf r0 u) (a0 : Int32) (hf : f_J_bitCount a0 = r0) : AtG γ wf 1 0 0 0 [(0, .int a0)] [] u := by
  unfold f_J_bitCount at hf
  refine x_iload_n C d_J_bitCount_0 rfl (k := 0) rfl ?_
  refine x_iload_n C d_J_bitCount_1 rfl (k := 0) rfl ?_
  refine x_iconst (v := 1) C d_J_bitCount_2 (by decide) ?_
  refine x_iushr C d_J_bitCount_3 ?_
  refine x_ldcw (v := 1431655765) C mk_J_265 d_J_bitCount_4 ?_
  refine x_iand C d_J_bitCount_7 ?_
  refine x_isub C d_J_bitCount_8 ?_
  refine x_istore_n (lv' := [(0, .int (a0 - ((ush a0 (1 : Int32)) &&& (1431655765 : Int32))))]) C d_J_bitCount_9 rfl (by decide) rfl ?_
  exact w_J_bitCount_10 C hQ (a0 - ((ush a0 (1 : Int32)) &&& (1431655765 : Int32))) hf
theorem c_J_bitCount {S : Type} {l : Launch} {D : va_G} {tys : Tys} {wf : S → va_W} {u : S} (a0 : Int32) : CtI l y_J_bitCount b_J_bitCount 1 (some .int) (rk 0) D tys wf [.int a0] u (f_J_bitCount a0) u := ct_ofI (by decide) (Nat.le_of_ble_eq_true rfl) (fun γ _ _ C hQ => w_J_bitCount C hQ a0 rfl)
-- ---- PackagePick.isSlot(I)Z
def f_X_isSlot (a0 : Int32) : Int32 :=
  if a0 < 0 then
    (0 : Int32)
  else
    if (28 : Int32) ≤ a0 then
      (0 : Int32)
    else
      (1 : Int32)
set_option maxRecDepth 100000 in
set_option maxHeartbeats 4000000 in
theorem w_X_isSlot {γ : CX} {S : Type} {wf : S → va_W} {tys : Tys} {u : S} {r0 : Int32} (C : Cx γ b_X_isSlot 1 (some .boolean) "PackagePick" (rk 0) tys) (hQ : QI γ tys wf r0 u) (a0 : Int32) (hf : f_X_isSlot a0 = r0) : AtG γ wf 1 0 0 0 [(0, .int a0)] [] u := by
  unfold f_X_isSlot at hf
  refine x_iload_n C d_X_isSlot_0 rfl (k := 0) rfl ?_
  refine x_if_lt (tgt := 14) C d_X_isSlot_1 (by decide) (fun hc => ?_) (fun hc => ?_)
  · rw [if_pos hc] at hf
    refine x_iconst (v := 0) C d_X_isSlot_14 (by decide) ?_
    exact x_zret C hQ rfl hf rfl d_X_isSlot_15
  · rw [if_neg hc] at hf
    refine x_iload_n C d_X_isSlot_4 rfl (k := 0) rfl ?_
    refine x_bipush (v := 28) C d_X_isSlot_5 (by decide) ?_
    refine x_icmp_ge (tgt := 14) C d_X_isSlot_7 (by decide) (fun hc => ?_) (fun hc => ?_)
    · rw [if_pos hc] at hf
      refine x_iconst (v := 0) C d_X_isSlot_14 (by decide) ?_
      exact x_zret C hQ rfl hf rfl d_X_isSlot_15
    · rw [if_neg hc] at hf
      refine x_iconst (v := 1) C d_X_isSlot_10 (by decide) ?_
      refine x_goto (tgt := 15) C d_X_isSlot_11 (by decide) ?_
      exact x_zret C hQ rfl hf rfl d_X_isSlot_15
theorem c_X_isSlot {S : Type} {l : Launch} {D : va_G} {tys : Tys} {wf : S → va_W} {u : S} (a0 : Int32) : CtI l y_X_isSlot b_X_isSlot 1 (some .boolean) (rk 0) D tys wf [.int a0] u (f_X_isSlot a0) u := ct_ofI (by decide) (Nat.le_of_ble_eq_true rfl) (fun γ _ _ C hQ => w_X_isSlot C hQ a0 rfl)
-- ---- PackagePick.holds(II)Z
def f_X_holds (a0 : Int32) (a1 : Int32) : Int32 :=
  if (a0 &&& ((1 : Int32) <<< (a1 &&& 31))) = 0 then
    (0 : Int32)
  else
    (1 : Int32)
set_option maxRecDepth 100000 in
set_option maxHeartbeats 4000000 in
theorem w_X_holds {γ : CX} {S : Type} {wf : S → va_W} {tys : Tys} {u : S} {r0 : Int32} (C : Cx γ b_X_holds 2 (some .boolean) "PackagePick" (rk 0) tys) (hQ : QI γ tys wf r0 u) (a0 : Int32) (a1 : Int32) (hf : f_X_holds a0 a1 = r0) : AtG γ wf 2 0 0 0 [(0, .int a0), (1, .int a1)] [] u := by
  unfold f_X_holds at hf
  refine x_iload_n C d_X_holds_0 rfl (k := 0) rfl ?_
  refine x_iconst (v := 1) C d_X_holds_1 (by decide) ?_
  refine x_iload_n C d_X_holds_2 rfl (k := 1) rfl ?_
  refine x_ishl C d_X_holds_3 ?_
  refine x_iand C d_X_holds_4 ?_
  refine x_if_eq (tgt := 12) C d_X_holds_5 (by decide) (fun hc => ?_) (fun hc => ?_)
  · rw [if_pos hc] at hf
    refine x_iconst (v := 0) C d_X_holds_12 (by decide) ?_
    exact x_zret C hQ rfl hf rfl d_X_holds_13
  · rw [if_neg hc] at hf
    refine x_iconst (v := 1) C d_X_holds_8 (by decide) ?_
    refine x_goto (tgt := 13) C d_X_holds_9 (by decide) ?_
    exact x_zret C hQ rfl hf rfl d_X_holds_13
theorem c_X_holds {S : Type} {l : Launch} {D : va_G} {tys : Tys} {wf : S → va_W} {u : S} (a0 : Int32) (a1 : Int32) : CtI l y_X_holds b_X_holds 2 (some .boolean) (rk 0) D tys wf [.int a0, .int a1] u (f_X_holds a0 a1) u := ct_ofI (by decide) (Nat.le_of_ble_eq_true rfl) (fun γ _ _ C hQ => w_X_holds C hQ a0 a1 rfl)
-- ---- PackagePick$Catalog.has(I)Z
def f_C_has (a1 : Int32) (u : PS) : Int32 :=
  if (f_X_isSlot a1) = 0 then
    (0 : Int32)
  else
    if (f_X_holds (u.1 3) a1) = 0 then
      (0 : Int32)
    else
      (1 : Int32)
set_option maxRecDepth 100000 in
set_option maxHeartbeats 4000000 in
theorem w_C_has {γ : CX} {cI : ClassId} {h : Nat → Nat} {u : PS} {r0 : Int32} (C : Cx γ b_C_has 2 (some .boolean) "PackagePick$Catalog" (rk 1) [(cI, .int)]) (hQ : QI γ [(cI, .int)] (WX cI h) r0 u) (a1 : Int32) (hf : f_C_has a1 u = r0) : AtG γ (WX cI h) 2 0 0 0 [(0, .ref (h 1)), (1, .int a1)] [] u := by
  unfold f_C_has at hf
  refine x_iload_n C d_C_has_0 rfl (k := 1) rfl ?_
  refine x_callIn (rest := []) C (c_X_isSlot a1) kc_X_isSlot (rok (by decide) (by decide)) (by decide +kernel) ms_X_isSlot rfl rfl (Nat.le_of_ble_eq_true rfl) d_C_has_1 ?_
  refine x_if_eq (tgt := 22) C d_C_has_4 (by decide) (fun hc => ?_) (fun hc => ?_)
  · rw [if_pos hc] at hf
    refine x_iconst (v := 0) C d_C_has_22 (by decide) ?_
    exact x_zret C hQ rfl hf rfl d_C_has_23
  · rw [if_neg hc] at hf
    refine x_aload_n C d_C_has_7 rfl (k := 0) rfl ?_
    refine gX_C_there (v := (u.1 3)) C mf_C_24 rfl d_C_has_8 ?_
    refine x_iload_n C d_C_has_11 rfl (k := 1) rfl ?_
    refine x_callIn (rest := []) C (c_X_holds (u.1 3) a1) kc_X_holds (rok (by decide) (by decide)) (by decide +kernel) ms_X_holds rfl rfl (Nat.le_of_ble_eq_true rfl) d_C_has_12 ?_
    refine x_if_eq (tgt := 22) C d_C_has_15 (by decide) (fun hc => ?_) (fun hc => ?_)
    · rw [if_pos hc] at hf
      refine x_iconst (v := 0) C d_C_has_22 (by decide) ?_
      exact x_zret C hQ rfl hf rfl d_C_has_23
    · rw [if_neg hc] at hf
      refine x_iconst (v := 1) C d_C_has_18 (by decide) ?_
      refine x_goto (tgt := 23) C d_C_has_19 (by decide) ?_
      exact x_zret C hQ rfl hf rfl d_C_has_23
theorem c_C_has {l : Launch} {D : va_G} {cI : ClassId} {h : Nat → Nat} (a1 : Int32) (u : PS) : CtI l y_C_has b_C_has 2 (some .boolean) (rk 1) D [(cI, .int)] (WX cI h) [.ref (h 1), .int a1] u (f_C_has a1 u) u := ct_ofI (by decide) (Nat.le_of_ble_eq_true rfl) (fun γ _ _ C hQ => w_C_has C hQ a1 rfl)
-- ---- PackagePick$Catalog.add(I)Z
def f_C_add (a1 : Int32) (u : PS) : Int32 × PS :=
  if (f_X_isSlot a1) = 0 then
    ((0 : Int32), u)
  else
    if (f_C_has a1 u) = 0 then
      ((1 : Int32), (si u 3 ((u.1 3) ||| ((1 : Int32) <<< (a1 &&& 31)))))
    else
      ((0 : Int32), u)
set_option maxRecDepth 100000 in
set_option maxHeartbeats 4000000 in
theorem w_C_add {γ : CX} {cI : ClassId} {h : Nat → Nat} {r0 : Int32} {u0 : PS} (C : Cx γ b_C_add 2 (some .boolean) "PackagePick$Catalog" (rk 2) [(cI, .int)]) (hQ : QI γ [(cI, .int)] (WX cI h) r0 u0) (a1 : Int32) (u : PS) (hf : f_C_add a1 u = (r0, u0)) : AtG γ (WX cI h) 2 0 0 0 [(0, .ref (h 1)), (1, .int a1)] [] u := by
  unfold f_C_add at hf
  refine x_iload_n C d_C_add_0 rfl (k := 1) rfl ?_
  refine x_callIn (rest := []) C (c_X_isSlot a1) kc_X_isSlot (rok (by decide) (by decide)) (by decide +kernel) ms_X_isSlot rfl rfl (Nat.le_of_ble_eq_true rfl) d_C_add_1 ?_
  refine x_if_eq (tgt := 15) C d_C_add_4 (by decide) (fun hc => ?_) (fun hc => ?_)
  · rw [if_pos hc] at hf
    refine x_iconst (v := 0) C d_C_add_15 (by decide) ?_
    exact x_zret C hQ rfl (Prod.mk.inj hf).1 (Prod.mk.inj hf).2 d_C_add_16
  · rw [if_neg hc] at hf
    refine x_aload_n C d_C_add_7 rfl (k := 0) rfl ?_
    refine x_iload_n C d_C_add_8 rfl (k := 1) rfl ?_
    refine x_callIv (q0 := 1) (ci := 0) (rest := []) C (c_C_has a1 u) kc_C_has (rok (by decide) (by decide)) mm_C_39 ms_C_has ml_C_has rfl rfl rfl rfl (Nat.le_of_ble_eq_true rfl) d_C_add_9 ?_
    refine x_if_eq (tgt := 17) C d_C_add_12 (by decide) (fun hc => ?_) (fun hc => ?_)
    · rw [if_pos hc] at hf
      refine x_aload_n C d_C_add_17 rfl (k := 0) rfl ?_
      refine x_dup C d_C_add_18 rfl ?_
      refine gX_C_there (v := (u.1 3)) C mf_C_24 rfl d_C_add_19 ?_
      refine x_iconst (v := 1) C d_C_add_22 (by decide) ?_
      refine x_iload_n C d_C_add_23 rfl (k := 1) rfl ?_
      refine x_ishl C d_C_add_24 ?_
      refine x_ior C d_C_add_25 ?_
      refine pX_C_there C mf_C_24 d_C_add_26 ?_
      refine x_iconst (v := 1) C d_C_add_29 (by decide) ?_
      exact x_zret C hQ rfl (Prod.mk.inj hf).1 (Prod.mk.inj hf).2 d_C_add_30
    · rw [if_neg hc] at hf
      refine x_iconst (v := 0) C d_C_add_15 (by decide) ?_
      exact x_zret C hQ rfl (Prod.mk.inj hf).1 (Prod.mk.inj hf).2 d_C_add_16
theorem c_C_add {l : Launch} {D : va_G} {cI : ClassId} {h : Nat → Nat} (a1 : Int32) (u : PS) : CtI l y_C_add b_C_add 2 (some .boolean) (rk 2) D [(cI, .int)] (WX cI h) [.ref (h 1), .int a1] u (f_C_add a1 u).1 (f_C_add a1 u).2 := ct_ofI (by decide) (Nat.le_of_ble_eq_true rfl) (fun γ _ _ C hQ => w_C_add C hQ a1 u rfl)
-- ---- PackagePick$Catalog.remove(I)Z
def f_C_remove (a1 : Int32) (u : PS) : Option (Int32 × PS) :=
  if (f_C_has a1 u) = 0 then
    some ((0 : Int32), u)
  else
    ck (inb a1 28) <|
    ck (inb a1 28) <|
    ck (inb a1 28) <|
    some ((1 : Int32), (sa (sa (sa (si u 3 ((u.1 3) &&& (((1 : Int32) <<< (a1 &&& 31)) ^^^ (-1 : Int32)))) 0 a1.toNatClampNeg (0 : Int32)) 1 a1.toNatClampNeg (0 : Int32)) 2 a1.toNatClampNeg (0 : Int32)))
set_option maxRecDepth 100000 in
set_option maxHeartbeats 4000000 in
theorem w_C_remove {γ : CX} {cI : ClassId} {h : Nat → Nat} {r0 : Int32} {u0 : PS} (C : Cx γ b_C_remove 2 (some .boolean) "PackagePick$Catalog" (rk 2) [(cI, .int)]) (hQ : QI γ [(cI, .int)] (WX cI h) r0 u0) (a1 : Int32) (u : PS) (hf : f_C_remove a1 u = some (r0, u0)) : AtG γ (WX cI h) 2 0 0 0 [(0, .ref (h 1)), (1, .int a1)] [] u := by
  unfold f_C_remove at hf
  refine x_aload_n C d_C_remove_0 rfl (k := 0) rfl ?_
  refine x_iload_n C d_C_remove_1 rfl (k := 1) rfl ?_
  refine x_callIv (q0 := 1) (ci := 0) (rest := []) C (c_C_has a1 u) kc_C_has (rok (by decide) (by decide)) mm_C_39 ms_C_has ml_C_has rfl rfl rfl rfl (Nat.le_of_ble_eq_true rfl) d_C_remove_2 ?_
  refine x_if_ne (tgt := 10) C d_C_remove_5 (by decide) (fun hc => ?_) (fun hc => ?_)
  · rw [if_neg hc] at hf
    refine x_aload_n C d_C_remove_10 rfl (k := 0) rfl ?_
    refine x_dup C d_C_remove_11 rfl ?_
    refine gX_C_there (v := (u.1 3)) C mf_C_24 rfl d_C_remove_12 ?_
    refine x_iconst (v := 1) C d_C_remove_15 (by decide) ?_
    refine x_iload_n C d_C_remove_16 rfl (k := 1) rfl ?_
    refine x_ishl C d_C_remove_17 ?_
    refine x_iconst (v := -1) C d_C_remove_18 (by decide) ?_
    refine x_ixor C d_C_remove_19 ?_
    refine x_iand C d_C_remove_20 ?_
    refine pX_C_there C mf_C_24 d_C_remove_21 ?_
    refine x_aload_n C d_C_remove_24 rfl (k := 0) rfl ?_
    refine gX_C_needs C mf_C_9 d_C_remove_25 ?_
    refine x_iload_n C d_C_remove_28 rfl (k := 1) rfl ?_
    refine x_iconst (v := 0) C d_C_remove_29 (by decide) ?_
    obtain ⟨hin, hf⟩ := ck_some hf
    refine astX_4 C hin d_C_remove_30 ?_
    refine x_aload_n C d_C_remove_31 rfl (k := 0) rfl ?_
    refine gX_C_wanted C mf_C_15 d_C_remove_32 ?_
    refine x_iload_n C d_C_remove_35 rfl (k := 1) rfl ?_
    refine x_iconst (v := 0) C d_C_remove_36 (by decide) ?_
    obtain ⟨hin, hf⟩ := ck_some hf
    refine astX_5 C hin d_C_remove_37 ?_
    refine x_aload_n C d_C_remove_38 rfl (k := 0) rfl ?_
    refine gX_C_unmet C mf_C_18 d_C_remove_39 ?_
    refine x_iload_n C d_C_remove_42 rfl (k := 1) rfl ?_
    refine x_iconst (v := 0) C d_C_remove_43 (by decide) ?_
    obtain ⟨hin, hf⟩ := ck_some hf
    refine astX_6 C hin d_C_remove_44 ?_
    refine x_iconst (v := 1) C d_C_remove_45 (by decide) ?_
    exact x_zret C hQ rfl (Prod.mk.inj (Option.some.inj hf)).1 (Prod.mk.inj (Option.some.inj hf)).2 d_C_remove_46
  · rw [if_pos hc] at hf
    refine x_iconst (v := 0) C d_C_remove_8 (by decide) ?_
    exact x_zret C hQ rfl (Prod.mk.inj (Option.some.inj hf)).1 (Prod.mk.inj (Option.some.inj hf)).2 d_C_remove_9
theorem c_C_remove {l : Launch} {D : va_G} {cI : ClassId} {h : Nat → Nat} (a1 : Int32) (u : PS) {r0 : Int32 × PS} (hf : f_C_remove a1 u = some r0) : CtI l y_C_remove b_C_remove 2 (some .boolean) (rk 2) D [(cI, .int)] (WX cI h) [.ref (h 1), .int a1] u r0.1 r0.2 := ct_ofI (by decide) (Nat.le_of_ble_eq_true rfl) (fun γ _ _ C hQ => w_C_remove C hQ a1 u hf)
-- ---- PackagePick$Catalog.addNeed(III)Z
def f_C_addNeed (a1 : Int32) (a2 : Int32) (a3 : Int32) (u : PS) : Option (Int32 × PS) :=
  if (f_C_has a1 u) = 0 then
    some ((0 : Int32), u)
  else
    ck (inb a1 28) <|
    if (u.2 0 a1.toNatClampNeg) < (4 : Int32) then
      ck (inb a1 28) <|
      ck (inb a1 28) <|
      ck (inb a1 28) <|
      ck (inb a1 28) <|
      ck (inb a1 28) <|
      ck (inb a1 28) <|
      some ((1 : Int32), (sa (sa (sa u 0 a1.toNatClampNeg ((u.2 0 a1.toNatClampNeg) + (1 : Int32))) 1 a1.toNatClampNeg ((u.2 1 a1.toNatClampNeg) ||| a2)) 2 a1.toNatClampNeg ((u.2 2 a1.toNatClampNeg) ||| a3)))
    else
      some ((0 : Int32), u)
set_option maxRecDepth 100000 in
set_option maxHeartbeats 4000000 in
theorem w_C_addNeed {γ : CX} {cI : ClassId} {h : Nat → Nat} {r0 : Int32} {u0 : PS} (C : Cx γ b_C_addNeed 4 (some .boolean) "PackagePick$Catalog" (rk 2) [(cI, .int)]) (hQ : QI γ [(cI, .int)] (WX cI h) r0 u0) (a1 : Int32) (a2 : Int32) (a3 : Int32) (u : PS) (hf : f_C_addNeed a1 a2 a3 u = some (r0, u0)) : AtG γ (WX cI h) 4 0 0 0 [(0, .ref (h 1)), (1, .int a1), (2, .int a2), (3, .int a3)] [] u := by
  unfold f_C_addNeed at hf
  refine x_aload_n C d_C_addNeed_0 rfl (k := 0) rfl ?_
  refine x_iload_n C d_C_addNeed_1 rfl (k := 1) rfl ?_
  refine x_callIv (q0 := 1) (ci := 0) (rest := []) C (c_C_has a1 u) kc_C_has (rok (by decide) (by decide)) mm_C_39 ms_C_has ml_C_has rfl rfl rfl rfl (Nat.le_of_ble_eq_true rfl) d_C_addNeed_2 ?_
  refine x_if_eq (tgt := 18) C d_C_addNeed_5 (by decide) (fun hc => ?_) (fun hc => ?_)
  · rw [if_pos hc] at hf
    refine x_iconst (v := 0) C d_C_addNeed_18 (by decide) ?_
    exact x_zret C hQ rfl (Prod.mk.inj (Option.some.inj hf)).1 (Prod.mk.inj (Option.some.inj hf)).2 d_C_addNeed_19
  · rw [if_neg hc] at hf
    refine x_aload_n C d_C_addNeed_8 rfl (k := 0) rfl ?_
    refine gX_C_needs C mf_C_9 d_C_addNeed_9 ?_
    refine x_iload_n C d_C_addNeed_12 rfl (k := 1) rfl ?_
    obtain ⟨hin, hf⟩ := ck_some hf
    refine aldX_4 (v := (u.2 0 a1.toNatClampNeg)) C hin rfl d_C_addNeed_13 ?_
    refine x_iconst (v := 4) C d_C_addNeed_14 (by decide) ?_
    refine x_icmp_lt (tgt := 20) C d_C_addNeed_15 (by decide) (fun hc => ?_) (fun hc => ?_)
    · rw [if_pos hc] at hf
      refine x_aload_n C d_C_addNeed_20 rfl (k := 0) rfl ?_
      refine gX_C_needs C mf_C_9 d_C_addNeed_21 ?_
      refine x_iload_n C d_C_addNeed_24 rfl (k := 1) rfl ?_
      refine x_dup2 C d_C_addNeed_25 rfl rfl ?_
      obtain ⟨hin, hf⟩ := ck_some hf
      refine aldX_4 (v := (u.2 0 a1.toNatClampNeg)) C hin rfl d_C_addNeed_26 ?_
      refine x_iconst (v := 1) C d_C_addNeed_27 (by decide) ?_
      refine x_iadd C d_C_addNeed_28 ?_
      obtain ⟨hin, hf⟩ := ck_some hf
      refine astX_4 C hin d_C_addNeed_29 ?_
      refine x_aload_n C d_C_addNeed_30 rfl (k := 0) rfl ?_
      refine gX_C_wanted C mf_C_15 d_C_addNeed_31 ?_
      refine x_iload_n C d_C_addNeed_34 rfl (k := 1) rfl ?_
      refine x_dup2 C d_C_addNeed_35 rfl rfl ?_
      obtain ⟨hin, hf⟩ := ck_some hf
      refine aldX_5 (v := (u.2 1 a1.toNatClampNeg)) C hin rfl d_C_addNeed_36 ?_
      refine x_iload_n C d_C_addNeed_37 rfl (k := 2) rfl ?_
      refine x_ior C d_C_addNeed_38 ?_
      obtain ⟨hin, hf⟩ := ck_some hf
      refine astX_5 C hin d_C_addNeed_39 ?_
      refine x_aload_n C d_C_addNeed_40 rfl (k := 0) rfl ?_
      refine gX_C_unmet C mf_C_18 d_C_addNeed_41 ?_
      refine x_iload_n C d_C_addNeed_44 rfl (k := 1) rfl ?_
      refine x_dup2 C d_C_addNeed_45 rfl rfl ?_
      obtain ⟨hin, hf⟩ := ck_some hf
      refine aldX_6 (v := (u.2 2 a1.toNatClampNeg)) C hin rfl d_C_addNeed_46 ?_
      refine x_iload_n C d_C_addNeed_47 rfl (k := 3) rfl ?_
      refine x_ior C d_C_addNeed_48 ?_
      obtain ⟨hin, hf⟩ := ck_some hf
      refine astX_6 C hin d_C_addNeed_49 ?_
      refine x_iconst (v := 1) C d_C_addNeed_50 (by decide) ?_
      exact x_zret C hQ rfl (Prod.mk.inj (Option.some.inj hf)).1 (Prod.mk.inj (Option.some.inj hf)).2 d_C_addNeed_51
    · rw [if_neg hc] at hf
      refine x_iconst (v := 0) C d_C_addNeed_18 (by decide) ?_
      exact x_zret C hQ rfl (Prod.mk.inj (Option.some.inj hf)).1 (Prod.mk.inj (Option.some.inj hf)).2 d_C_addNeed_19
theorem c_C_addNeed {l : Launch} {D : va_G} {cI : ClassId} {h : Nat → Nat} (a1 : Int32) (a2 : Int32) (a3 : Int32) (u : PS) {r0 : Int32 × PS} (hf : f_C_addNeed a1 a2 a3 u = some r0) : CtI l y_C_addNeed b_C_addNeed 4 (some .boolean) (rk 2) D [(cI, .int)] (WX cI h) [.ref (h 1), .int a1, .int a2, .int a3] u r0.1 r0.2 := ct_ofI (by decide) (Nat.le_of_ble_eq_true rfl) (fun γ _ _ C hQ => w_C_addNeed C hQ a1 a2 a3 u hf)
-- ---- PackagePick$Catalog.addBan(II)Z
def f_C_addBan (a1 : Int32) (a2 : Int32) (u : PS) : Option (Int32 × PS) :=
  if (f_X_isSlot a1) = 0 then
    some ((0 : Int32), u)
  else
    if (f_X_isSlot a2) = 0 then
      some ((0 : Int32), u)
    else
      if (u.1 4) < (16 : Int32) then
        ck (inb a1 28) <|
        ck (inb a1 28) <|
        ck (inb a2 28) <|
        ck (inb a2 28) <|
        some ((1 : Int32), (sa (sa (si u 4 ((u.1 4) + (1 : Int32))) 3 a1.toNatClampNeg ((u.2 3 a1.toNatClampNeg) ||| ((1 : Int32) <<< (a2 &&& 31)))) 3 a2.toNatClampNeg (((sa (si u 4 ((u.1 4) + (1 : Int32))) 3 a1.toNatClampNeg ((u.2 3 a1.toNatClampNeg) ||| ((1 : Int32) <<< (a2 &&& 31)))).2 3 a2.toNatClampNeg) ||| ((1 : Int32) <<< (a1 &&& 31)))))
      else
        some ((0 : Int32), u)
set_option maxRecDepth 100000 in
set_option maxHeartbeats 4000000 in
theorem w_C_addBan {γ : CX} {cI : ClassId} {h : Nat → Nat} {r0 : Int32} {u0 : PS} (C : Cx γ b_C_addBan 3 (some .boolean) "PackagePick$Catalog" (rk 1) [(cI, .int)]) (hQ : QI γ [(cI, .int)] (WX cI h) r0 u0) (a1 : Int32) (a2 : Int32) (u : PS) (hf : f_C_addBan a1 a2 u = some (r0, u0)) : AtG γ (WX cI h) 3 0 0 0 [(0, .ref (h 1)), (1, .int a1), (2, .int a2)] [] u := by
  unfold f_C_addBan at hf
  refine x_iload_n C d_C_addBan_0 rfl (k := 1) rfl ?_
  refine x_callIn (rest := []) C (c_X_isSlot a1) kc_X_isSlot (rok (by decide) (by decide)) (by decide +kernel) ms_X_isSlot rfl rfl (Nat.le_of_ble_eq_true rfl) d_C_addBan_1 ?_
  refine x_if_eq (tgt := 23) C d_C_addBan_4 (by decide) (fun hc => ?_) (fun hc => ?_)
  · rw [if_pos hc] at hf
    refine x_iconst (v := 0) C d_C_addBan_23 (by decide) ?_
    exact x_zret C hQ rfl (Prod.mk.inj (Option.some.inj hf)).1 (Prod.mk.inj (Option.some.inj hf)).2 d_C_addBan_24
  · rw [if_neg hc] at hf
    refine x_iload_n C d_C_addBan_7 rfl (k := 2) rfl ?_
    refine x_callIn (rest := []) C (c_X_isSlot a2) kc_X_isSlot (rok (by decide) (by decide)) (by decide +kernel) ms_X_isSlot rfl rfl (Nat.le_of_ble_eq_true rfl) d_C_addBan_8 ?_
    refine x_if_eq (tgt := 23) C d_C_addBan_11 (by decide) (fun hc => ?_) (fun hc => ?_)
    · rw [if_pos hc] at hf
      refine x_iconst (v := 0) C d_C_addBan_23 (by decide) ?_
      exact x_zret C hQ rfl (Prod.mk.inj (Option.some.inj hf)).1 (Prod.mk.inj (Option.some.inj hf)).2 d_C_addBan_24
    · rw [if_neg hc] at hf
      refine x_aload_n C d_C_addBan_14 rfl (k := 0) rfl ?_
      refine gX_C_bans (v := (u.1 4)) C mf_C_28 rfl d_C_addBan_15 ?_
      refine x_bipush (v := 16) C d_C_addBan_18 (by decide) ?_
      refine x_icmp_lt (tgt := 25) C d_C_addBan_20 (by decide) (fun hc => ?_) (fun hc => ?_)
      · rw [if_pos hc] at hf
        refine x_aload_n C d_C_addBan_25 rfl (k := 0) rfl ?_
        refine x_dup C d_C_addBan_26 rfl ?_
        refine gX_C_bans (v := (u.1 4)) C mf_C_28 rfl d_C_addBan_27 ?_
        refine x_iconst (v := 1) C d_C_addBan_30 (by decide) ?_
        refine x_iadd C d_C_addBan_31 ?_
        refine pX_C_bans C mf_C_28 d_C_addBan_32 ?_
        refine x_aload_n C d_C_addBan_35 rfl (k := 0) rfl ?_
        refine gX_C_banned C mf_C_21 d_C_addBan_36 ?_
        refine x_iload_n C d_C_addBan_39 rfl (k := 1) rfl ?_
        refine x_dup2 C d_C_addBan_40 rfl rfl ?_
        obtain ⟨hin, hf⟩ := ck_some hf
        refine aldX_7 (v := (u.2 3 a1.toNatClampNeg)) C hin rfl d_C_addBan_41 ?_
        refine x_iconst (v := 1) C d_C_addBan_42 (by decide) ?_
        refine x_iload_n C d_C_addBan_43 rfl (k := 2) rfl ?_
        refine x_ishl C d_C_addBan_44 ?_
        refine x_ior C d_C_addBan_45 ?_
        obtain ⟨hin, hf⟩ := ck_some hf
        refine astX_7 C hin d_C_addBan_46 ?_
        refine x_aload_n C d_C_addBan_47 rfl (k := 0) rfl ?_
        refine gX_C_banned C mf_C_21 d_C_addBan_48 ?_
        refine x_iload_n C d_C_addBan_51 rfl (k := 2) rfl ?_
        refine x_dup2 C d_C_addBan_52 rfl rfl ?_
        obtain ⟨hin, hf⟩ := ck_some hf
        refine aldX_7 (v := ((sa (si u 4 ((u.1 4) + (1 : Int32))) 3 a1.toNatClampNeg ((u.2 3 a1.toNatClampNeg) ||| ((1 : Int32) <<< (a2 &&& 31)))).2 3 a2.toNatClampNeg)) C hin rfl d_C_addBan_53 ?_
        refine x_iconst (v := 1) C d_C_addBan_54 (by decide) ?_
        refine x_iload_n C d_C_addBan_55 rfl (k := 1) rfl ?_
        refine x_ishl C d_C_addBan_56 ?_
        refine x_ior C d_C_addBan_57 ?_
        obtain ⟨hin, hf⟩ := ck_some hf
        refine astX_7 C hin d_C_addBan_58 ?_
        refine x_iconst (v := 1) C d_C_addBan_59 (by decide) ?_
        exact x_zret C hQ rfl (Prod.mk.inj (Option.some.inj hf)).1 (Prod.mk.inj (Option.some.inj hf)).2 d_C_addBan_60
      · rw [if_neg hc] at hf
        refine x_iconst (v := 0) C d_C_addBan_23 (by decide) ?_
        exact x_zret C hQ rfl (Prod.mk.inj (Option.some.inj hf)).1 (Prod.mk.inj (Option.some.inj hf)).2 d_C_addBan_24
theorem c_C_addBan {l : Launch} {D : va_G} {cI : ClassId} {h : Nat → Nat} (a1 : Int32) (a2 : Int32) (u : PS) {r0 : Int32 × PS} (hf : f_C_addBan a1 a2 u = some r0) : CtI l y_C_addBan b_C_addBan 3 (some .boolean) (rk 1) D [(cI, .int)] (WX cI h) [.ref (h 1), .int a1, .int a2] u r0.1 r0.2 := ct_ofI (by decide) (Nat.le_of_ble_eq_true rfl) (fun γ _ _ C hQ => w_C_addBan C hQ a1 a2 u hf)
-- ---- PackagePick$Catalog.allNeeds()I
def b_C_allNeeds_4 (u : PS) (k4 : Int32 → Int32 → Option (Int32)) (x1 : Int32) (x2 : Int32) : Option (Int32) :=
  if (28 : Int32) ≤ x2 then
    some x1
  else
    ck (inb x2 28) <|
    k4 (x1 + (u.2 0 x2.toNatClampNeg)) (x2 + (1 : Int32))
set_option maxRecDepth 100000 in
set_option maxHeartbeats 4000000 in
theorem w_C_allNeeds_4 {γ : CX} {cI : ClassId} {h : Nat → Nat} {u : PS} {r0 : Int32} (C : Cx γ b_C_allNeeds 3 (some .int) "PackagePick$Catalog" (rk 0) [(cI, .int)]) (hQ : QI γ [(cI, .int)] (WX cI h) r0 u) (k4 : Int32 → Int32 → Option (Int32)) (hk4 : ∀ (x1 : Int32) (x2 : Int32), k4 x1 x2 = some r0 → AtG γ (WX cI h) 3 0 0 4 [(0, .ref (h 1)), (1, .int x1), (2, .int x2)] [] u) (x1 : Int32) (x2 : Int32) (hf : b_C_allNeeds_4 u k4 x1 x2 = some r0) : AtG γ (WX cI h) 3 0 0 4 [(0, .ref (h 1)), (1, .int x1), (2, .int x2)] [] u := by
  unfold b_C_allNeeds_4 at hf
  refine x_iload_n C d_C_allNeeds_4 rfl (k := 2) rfl ?_
  refine x_bipush (v := 28) C d_C_allNeeds_5 (by decide) ?_
  refine x_icmp_ge (tgt := 25) C d_C_allNeeds_7 (by decide) (fun hc => ?_) (fun hc => ?_)
  · rw [if_pos hc] at hf
    refine x_iload_n C d_C_allNeeds_25 rfl (k := 1) rfl ?_
    exact x_iret C hQ (Option.some.inj hf) rfl d_C_allNeeds_26
  · rw [if_neg hc] at hf
    refine x_iload_n C d_C_allNeeds_10 rfl (k := 1) rfl ?_
    refine x_aload_n C d_C_allNeeds_11 rfl (k := 0) rfl ?_
    refine gX_C_needs C mf_C_9 d_C_allNeeds_12 ?_
    refine x_iload_n C d_C_allNeeds_15 rfl (k := 2) rfl ?_
    obtain ⟨hin, hf⟩ := ck_some hf
    refine aldX_4 (v := (u.2 0 x2.toNatClampNeg)) C hin rfl d_C_allNeeds_16 ?_
    refine x_iadd C d_C_allNeeds_17 ?_
    refine x_istore_n (lv' := [(1, .int (x1 + (u.2 0 x2.toNatClampNeg))), (0, .ref (h 1)), (2, .int x2)]) C d_C_allNeeds_18 rfl (by decide) rfl ?_
    refine x_iinc (v := (x2 + (1 : Int32))) (lv' := [(2, .int (x2 + (1 : Int32))), (1, .int (x1 + (u.2 0 x2.toNatClampNeg))), (0, .ref (h 1))]) C d_C_allNeeds_19 (k := 2) rfl rfl (by decide) rfl ?_
    refine x_goto (tgt := 4) C d_C_allNeeds_22 (by decide) ?_
    refine x_sub (lv' := [(0, .ref (h 1)), (1, .int (x1 + (u.2 0 x2.toNatClampNeg))), (2, .int (x2 + (1 : Int32)))]) [2, 1, 0] rfl ?_
    exact hk4 (x1 + (u.2 0 x2.toNatClampNeg)) (x2 + (1 : Int32)) hf
def l_C_allNeeds_4 (u : PS) : Nat → Int32 → Int32 → Option (Int32)
  | 0 => fun _ _ => none
  | n + 1 => b_C_allNeeds_4 u (l_C_allNeeds_4 u n)
theorem wl_C_allNeeds_4 {γ : CX} {cI : ClassId} {h : Nat → Nat} {u : PS} {r0 : Int32} (C : Cx γ b_C_allNeeds 3 (some .int) "PackagePick$Catalog" (rk 0) [(cI, .int)]) (hQ : QI γ [(cI, .int)] (WX cI h) r0 u) (n : Nat) : ∀ (x1 : Int32) (x2 : Int32), l_C_allNeeds_4 u n x1 x2 = some r0 → AtG γ (WX cI h) 3 0 0 4 [(0, .ref (h 1)), (1, .int x1), (2, .int x2)] [] u := by
  induction n with
  | zero => intro x1 x2 hf; cases hf
  | succ n ih => intro x1 x2 hf; exact w_C_allNeeds_4 C hQ (l_C_allNeeds_4 u n) ih x1 x2 hf
def f_C_allNeeds (u : PS) : Option (Int32) :=
  l_C_allNeeds_4 u NF (0 : Int32) (0 : Int32)
set_option maxRecDepth 100000 in
set_option maxHeartbeats 4000000 in
theorem w_C_allNeeds {γ : CX} {cI : ClassId} {h : Nat → Nat} {u : PS} {r0 : Int32} (C : Cx γ b_C_allNeeds 3 (some .int) "PackagePick$Catalog" (rk 0) [(cI, .int)]) (hQ : QI γ [(cI, .int)] (WX cI h) r0 u) (hf : f_C_allNeeds u = some r0) : AtG γ (WX cI h) 3 0 0 0 [(0, .ref (h 1))] [] u := by
  unfold f_C_allNeeds at hf
  refine x_iconst (v := 0) C d_C_allNeeds_0 (by decide) ?_
  refine x_istore_n (lv' := [(1, .int (0 : Int32)), (0, .ref (h 1))]) C d_C_allNeeds_1 rfl (by decide) rfl ?_
  refine x_iconst (v := 0) C d_C_allNeeds_2 (by decide) ?_
  refine x_istore_n (lv' := [(2, .int (0 : Int32)), (1, .int (0 : Int32)), (0, .ref (h 1))]) C d_C_allNeeds_3 rfl (by decide) rfl ?_
  refine x_sub (lv' := [(0, .ref (h 1)), (1, .int (0 : Int32)), (2, .int (0 : Int32))]) [2, 1, 0] rfl ?_
  exact wl_C_allNeeds_4 C hQ NF (0 : Int32) (0 : Int32) hf
theorem c_C_allNeeds {l : Launch} {D : va_G} {cI : ClassId} {h : Nat → Nat} (u : PS) {r0 : Int32} (hf : f_C_allNeeds u = some r0) : CtI l y_C_allNeeds b_C_allNeeds 3 (some .int) (rk 0) D [(cI, .int)] (WX cI h) [.ref (h 1)] u r0 u := ct_ofI (by decide) (Nat.le_of_ble_eq_true rfl) (fun γ _ _ C hQ => w_C_allNeeds C hQ hf)
-- ---- PackagePick$Tally.begin(II)V
def f_T_begin (a1 : Int32) (a2 : Int32) (u : PS) : PS :=
  (si (si (si (si (si (si (si u 6 a1) 8 a2) 9 (0 : Int32)) 10 (0 : Int32)) 11 (0 : Int32)) 12 (0 : Int32)) 13 (0 : Int32))
set_option maxRecDepth 100000 in
set_option maxHeartbeats 4000000 in
theorem w_T_begin {γ : CX} {cI : ClassId} {h : Nat → Nat} {u0 : PS} (C : Cx γ b_T_begin 3 none "PackagePick$Tally" (rk 0) [(cI, .int)]) (hQ : QV γ [(cI, .int)] (WX cI h) u0) (a1 : Int32) (a2 : Int32) (u : PS) (hf : f_T_begin a1 a2 u = u0) : AtG γ (WX cI h) 3 0 0 0 [(0, .ref (h 3)), (1, .int a1), (2, .int a2)] [] u := by
  unfold f_T_begin at hf
  refine x_aload_n C d_T_begin_0 rfl (k := 0) rfl ?_
  refine x_iload_n C d_T_begin_1 rfl (k := 1) rfl ?_
  refine pX_T_aim C mf_T_9 d_T_begin_2 ?_
  refine x_aload_n C d_T_begin_5 rfl (k := 0) rfl ?_
  refine x_iload_n C d_T_begin_6 rfl (k := 2) rfl ?_
  refine pX_T_limit C mf_T_15 d_T_begin_7 ?_
  refine x_aload_n C d_T_begin_10 rfl (k := 0) rfl ?_
  refine x_iconst (v := 0) C d_T_begin_11 (by decide) ?_
  refine pX_T_found C mf_T_18 d_T_begin_12 ?_
  refine x_aload_n C d_T_begin_15 rfl (k := 0) rfl ?_
  refine x_iconst (v := 0) C d_T_begin_16 (by decide) ?_
  refine pX_T_seen C mf_T_21 d_T_begin_17 ?_
  refine x_aload_n C d_T_begin_20 rfl (k := 0) rfl ?_
  refine x_iconst (v := 0) C d_T_begin_21 (by decide) ?_
  refine pX_T_absent C mf_T_24 d_T_begin_22 ?_
  refine x_aload_n C d_T_begin_25 rfl (k := 0) rfl ?_
  refine x_iconst (v := 0) C d_T_begin_26 (by decide) ?_
  refine pX_T_best C mf_T_27 d_T_begin_27 ?_
  refine x_aload_n C d_T_begin_30 rfl (k := 0) rfl ?_
  refine x_iconst (v := 0) C d_T_begin_31 (by decide) ?_
  refine pX_T_bestCost C mf_T_30 d_T_begin_32 ?_
  exact x_vret C hQ hf d_T_begin_35
theorem c_T_begin {l : Launch} {D : va_G} {cI : ClassId} {h : Nat → Nat} (a1 : Int32) (a2 : Int32) (u : PS) : CtV l y_T_begin b_T_begin 3 none (rk 0) D [(cI, .int)] (WX cI h) [.ref (h 3), .int a1, .int a2] u (f_T_begin a1 a2 u) := ct_ofV (by decide) (Nat.le_of_ble_eq_true rfl) (fun γ _ _ C hQ => w_T_begin C hQ a1 a2 u rfl)
-- ---- PackagePick$Tally.isFull()Z
def f_T_isFull (u : PS) : Int32 :=
  if (u.1 9) < (u.1 8) then
    (0 : Int32)
  else
    (1 : Int32)
set_option maxRecDepth 100000 in
set_option maxHeartbeats 4000000 in
theorem w_T_isFull {γ : CX} {cI : ClassId} {h : Nat → Nat} {u : PS} {r0 : Int32} (C : Cx γ b_T_isFull 1 (some .boolean) "PackagePick$Tally" (rk 0) [(cI, .int)]) (hQ : QI γ [(cI, .int)] (WX cI h) r0 u) (hf : f_T_isFull u = r0) : AtG γ (WX cI h) 1 0 0 0 [(0, .ref (h 3))] [] u := by
  unfold f_T_isFull at hf
  refine x_aload_n C d_T_isFull_0 rfl (k := 0) rfl ?_
  refine gX_T_found (v := (u.1 9)) C mf_T_18 rfl d_T_isFull_1 ?_
  refine x_aload_n C d_T_isFull_4 rfl (k := 0) rfl ?_
  refine gX_T_limit (v := (u.1 8)) C mf_T_15 rfl d_T_isFull_5 ?_
  refine x_icmp_lt (tgt := 15) C d_T_isFull_8 (by decide) (fun hc => ?_) (fun hc => ?_)
  · rw [if_pos hc] at hf
    refine x_iconst (v := 0) C d_T_isFull_15 (by decide) ?_
    exact x_zret C hQ rfl hf rfl d_T_isFull_16
  · rw [if_neg hc] at hf
    refine x_iconst (v := 1) C d_T_isFull_11 (by decide) ?_
    refine x_goto (tgt := 16) C d_T_isFull_12 (by decide) ?_
    exact x_zret C hQ rfl hf rfl d_T_isFull_16
theorem c_T_isFull {l : Launch} {D : va_G} {cI : ClassId} {h : Nat → Nat} (u : PS) : CtI l y_T_isFull b_T_isFull 1 (some .boolean) (rk 0) D [(cI, .int)] (WX cI h) [.ref (h 3)] u (f_T_isFull u) u := ct_ofI (by decide) (Nat.le_of_ble_eq_true rfl) (fun γ _ _ C hQ => w_T_isFull C hQ rfl)
-- ---- PackagePick.marksOf(I)I
def f_X_marksOf (a0 : Int32) : Int32 :=
  ((((a0 ||| (a0 >>> ((1 : Int32) &&& 31))) ||| (a0 >>> ((2 : Int32) &&& 31))) ||| (a0 >>> ((3 : Int32) &&& 31))) &&& (17895697 : Int32))
set_option maxRecDepth 100000 in
set_option maxHeartbeats 4000000 in
theorem w_X_marksOf {γ : CX} {S : Type} {wf : S → va_W} {tys : Tys} {u : S} {r0 : Int32} (C : Cx γ b_X_marksOf 1 (some .int) "PackagePick" (rk 0) tys) (hQ : QI γ tys wf r0 u) (a0 : Int32) (hf : f_X_marksOf a0 = r0) : AtG γ wf 1 0 0 0 [(0, .int a0)] [] u := by
  unfold f_X_marksOf at hf
  refine x_iload_n C d_X_marksOf_0 rfl (k := 0) rfl ?_
  refine x_iload_n C d_X_marksOf_1 rfl (k := 0) rfl ?_
  refine x_iconst (v := 1) C d_X_marksOf_2 (by decide) ?_
  refine x_ishr C d_X_marksOf_3 ?_
  refine x_ior C d_X_marksOf_4 ?_
  refine x_iload_n C d_X_marksOf_5 rfl (k := 0) rfl ?_
  refine x_iconst (v := 2) C d_X_marksOf_6 (by decide) ?_
  refine x_ishr C d_X_marksOf_7 ?_
  refine x_ior C d_X_marksOf_8 ?_
  refine x_iload_n C d_X_marksOf_9 rfl (k := 0) rfl ?_
  refine x_iconst (v := 3) C d_X_marksOf_10 (by decide) ?_
  refine x_ishr C d_X_marksOf_11 ?_
  refine x_ior C d_X_marksOf_12 ?_
  refine x_ldc (v := 17895697) C mk_X_196 d_X_marksOf_13 ?_
  refine x_iand C d_X_marksOf_15 ?_
  exact x_iret C hQ hf rfl d_X_marksOf_16
theorem c_X_marksOf {S : Type} {l : Launch} {D : va_G} {tys : Tys} {wf : S → va_W} {u : S} (a0 : Int32) : CtI l y_X_marksOf b_X_marksOf 1 (some .int) (rk 0) D tys wf [.int a0] u (f_X_marksOf a0) u := ct_ofI (by decide) (Nat.le_of_ble_eq_true rfl) (fun γ _ _ C hQ => w_X_marksOf C hQ a0 rfl)
-- ---- PackagePick$Tally.enter(II)V
def b_T_enter_41 (x1 : Int32) (u : PS) : PS :=
  (si (si (si u 9 ((u.1 9) + (1 : Int32))) 10 ((u.1 10) ||| x1)) 11 ((u.1 11) ||| ((17895697 : Int32) &&& ((f_X_marksOf x1) ^^^ (-1 : Int32)))))
set_option maxRecDepth 100000 in
set_option maxHeartbeats 4000000 in
theorem w_T_enter_41 {γ : CX} {cI : ClassId} {h : Nat → Nat} {u0 : PS} (C : Cx γ b_T_enter 3 none "PackagePick$Tally" (rk 1) [(cI, .int)]) (hQ : QV γ [(cI, .int)] (WX cI h) u0) (x1 : Int32) (u : PS) (hf : b_T_enter_41 x1 u = u0) : AtG γ (WX cI h) 3 0 0 41 [(0, .ref (h 3)), (1, .int x1)] [] u := by
  unfold b_T_enter_41 at hf
  refine x_aload_n C d_T_enter_41 rfl (k := 0) rfl ?_
  refine x_dup C d_T_enter_42 rfl ?_
  refine gX_T_found (v := (u.1 9)) C mf_T_18 rfl d_T_enter_43 ?_
  refine x_iconst (v := 1) C d_T_enter_46 (by decide) ?_
  refine x_iadd C d_T_enter_47 ?_
  refine pX_T_found C mf_T_18 d_T_enter_48 ?_
  refine x_aload_n C d_T_enter_51 rfl (k := 0) rfl ?_
  refine x_dup C d_T_enter_52 rfl ?_
  refine gX_T_seen (v := (u.1 10)) C mf_T_21 rfl d_T_enter_53 ?_
  refine x_iload_n C d_T_enter_56 rfl (k := 1) rfl ?_
  refine x_ior C d_T_enter_57 ?_
  refine pX_T_seen C mf_T_21 d_T_enter_58 ?_
  refine x_aload_n C d_T_enter_61 rfl (k := 0) rfl ?_
  refine x_dup C d_T_enter_62 rfl ?_
  refine gX_T_absent (v := (u.1 11)) C mf_T_24 rfl d_T_enter_63 ?_
  refine x_ldc (v := 17895697) C mk_T_33 d_T_enter_66 ?_
  refine x_iload_n C d_T_enter_68 rfl (k := 1) rfl ?_
  refine x_callIn (rest := [.int (17895697 : Int32), .int (u.1 11), .ref (h 3)]) C (c_X_marksOf x1) kc_X_marksOf (rok (by decide) (by decide)) (by decide +kernel) ms_X_marksOf rfl rfl (Nat.le_of_ble_eq_true rfl) d_T_enter_69 ?_
  refine x_iconst (v := -1) C d_T_enter_72 (by decide) ?_
  refine x_ixor C d_T_enter_73 ?_
  refine x_iand C d_T_enter_74 ?_
  refine x_ior C d_T_enter_75 ?_
  refine pX_T_absent C mf_T_24 d_T_enter_76 ?_
  exact x_vret C hQ hf d_T_enter_79
def b_T_enter_31 (x1 : Int32) (x2 : Int32) (u : PS) : PS :=
  b_T_enter_41 x1 (si (si u 12 x1) 13 x2)
set_option maxRecDepth 100000 in
set_option maxHeartbeats 4000000 in
theorem w_T_enter_31 {γ : CX} {cI : ClassId} {h : Nat → Nat} {u0 : PS} (C : Cx γ b_T_enter 3 none "PackagePick$Tally" (rk 1) [(cI, .int)]) (hQ : QV γ [(cI, .int)] (WX cI h) u0) (x1 : Int32) (x2 : Int32) (u : PS) (hf : b_T_enter_31 x1 x2 u = u0) : AtG γ (WX cI h) 3 0 0 31 [(0, .ref (h 3)), (1, .int x1), (2, .int x2)] [] u := by
  unfold b_T_enter_31 at hf
  refine x_aload_n C d_T_enter_31 rfl (k := 0) rfl ?_
  refine x_iload_n C d_T_enter_32 rfl (k := 1) rfl ?_
  refine pX_T_best C mf_T_27 d_T_enter_33 ?_
  refine x_aload_n C d_T_enter_36 rfl (k := 0) rfl ?_
  refine x_iload_n C d_T_enter_37 rfl (k := 2) rfl ?_
  refine pX_T_bestCost C mf_T_30 d_T_enter_38 ?_
  refine x_sub (lv' := [(0, .ref (h 3)), (1, .int x1)]) [0, 1] rfl ?_
  exact w_T_enter_41 C hQ x1 (si (si u 12 x1) 13 x2) hf
def f_T_enter (a1 : Int32) (a2 : Int32) (u : PS) : PS :=
  if (u.1 9) = 0 then
    b_T_enter_31 a1 a2 u
  else
    if a2 < (u.1 13) then
      b_T_enter_31 a1 a2 u
    else
      if a2 = (u.1 13) then
        if a1 ≤ (u.1 12) then
          b_T_enter_41 a1 u
        else
          b_T_enter_31 a1 a2 u
      else
        b_T_enter_41 a1 u
set_option maxRecDepth 100000 in
set_option maxHeartbeats 4000000 in
theorem w_T_enter {γ : CX} {cI : ClassId} {h : Nat → Nat} {u0 : PS} (C : Cx γ b_T_enter 3 none "PackagePick$Tally" (rk 1) [(cI, .int)]) (hQ : QV γ [(cI, .int)] (WX cI h) u0) (a1 : Int32) (a2 : Int32) (u : PS) (hf : f_T_enter a1 a2 u = u0) : AtG γ (WX cI h) 3 0 0 0 [(0, .ref (h 3)), (1, .int a1), (2, .int a2)] [] u := by
  unfold f_T_enter at hf
  refine x_aload_n C d_T_enter_0 rfl (k := 0) rfl ?_
  refine gX_T_found (v := (u.1 9)) C mf_T_18 rfl d_T_enter_1 ?_
  refine x_if_eq (tgt := 31) C d_T_enter_4 (by decide) (fun hc => ?_) (fun hc => ?_)
  · rw [if_pos hc] at hf
    exact w_T_enter_31 C hQ a1 a2 u hf
  · rw [if_neg hc] at hf
    refine x_iload_n C d_T_enter_7 rfl (k := 2) rfl ?_
    refine x_aload_n C d_T_enter_8 rfl (k := 0) rfl ?_
    refine gX_T_bestCost (v := (u.1 13)) C mf_T_30 rfl d_T_enter_9 ?_
    refine x_icmp_lt (tgt := 31) C d_T_enter_12 (by decide) (fun hc => ?_) (fun hc => ?_)
    · rw [if_pos hc] at hf
      exact w_T_enter_31 C hQ a1 a2 u hf
    · rw [if_neg hc] at hf
      refine x_iload_n C d_T_enter_15 rfl (k := 2) rfl ?_
      refine x_aload_n C d_T_enter_16 rfl (k := 0) rfl ?_
      refine gX_T_bestCost (v := (u.1 13)) C mf_T_30 rfl d_T_enter_17 ?_
      refine x_icmp_ne (tgt := 41) C d_T_enter_20 (by decide) (fun hc => ?_) (fun hc => ?_)
      · rw [if_neg hc] at hf
        refine x_sub (lv' := [(0, .ref (h 3)), (1, .int a1)]) [0, 1] rfl ?_
        exact w_T_enter_41 C hQ a1 u hf
      · rw [if_pos hc] at hf
        refine x_iload_n C d_T_enter_23 rfl (k := 1) rfl ?_
        refine x_aload_n C d_T_enter_24 rfl (k := 0) rfl ?_
        refine gX_T_best (v := (u.1 12)) C mf_T_27 rfl d_T_enter_25 ?_
        refine x_icmp_le (tgt := 41) C d_T_enter_28 (by decide) (fun hc => ?_) (fun hc => ?_)
        · rw [if_pos hc] at hf
          refine x_sub (lv' := [(0, .ref (h 3)), (1, .int a1)]) [0, 1] rfl ?_
          exact w_T_enter_41 C hQ a1 u hf
        · rw [if_neg hc] at hf
          exact w_T_enter_31 C hQ a1 a2 u hf
theorem c_T_enter {l : Launch} {D : va_G} {cI : ClassId} {h : Nat → Nat} (a1 : Int32) (a2 : Int32) (u : PS) : CtV l y_T_enter b_T_enter 3 none (rk 1) D [(cI, .int)] (WX cI h) [.ref (h 3), .int a1, .int a2] u (f_T_enter a1 a2 u) := ct_ofV (by decide) (Nat.le_of_ble_eq_true rfl) (fun γ _ _ C hQ => w_T_enter C hQ a1 a2 u rfl)
-- ---- PackagePick$Wishes.add(II)Z
def f_W_add (a1 : Int32) (a2 : Int32) (u : PS) : Option (Int32 × PS) :=
  if (u.1 5) < (6 : Int32) then
    ck (inb (u.1 5) 6) <|
    ck (inb (u.1 5) 6) <|
    some ((1 : Int32), (si (sa (sa u 4 (u.1 5).toNatClampNeg a1) 5 (u.1 5).toNatClampNeg a2) 5 ((u.1 5) + (1 : Int32))))
  else
    some ((0 : Int32), u)
set_option maxRecDepth 100000 in
set_option maxHeartbeats 4000000 in
theorem w_W_add {γ : CX} {cI : ClassId} {h : Nat → Nat} {r0 : Int32} {u0 : PS} (C : Cx γ b_W_add 3 (some .boolean) "PackagePick$Wishes" (rk 0) [(cI, .int)]) (hQ : QI γ [(cI, .int)] (WX cI h) r0 u0) (a1 : Int32) (a2 : Int32) (u : PS) (hf : f_W_add a1 a2 u = some (r0, u0)) : AtG γ (WX cI h) 3 0 0 0 [(0, .ref (h 2)), (1, .int a1), (2, .int a2)] [] u := by
  unfold f_W_add at hf
  refine x_aload_n C d_W_add_0 rfl (k := 0) rfl ?_
  refine gX_W_size (v := (u.1 5)) C mf_W_18 rfl d_W_add_1 ?_
  refine x_bipush (v := 6) C d_W_add_4 (by decide) ?_
  refine x_icmp_lt (tgt := 11) C d_W_add_6 (by decide) (fun hc => ?_) (fun hc => ?_)
  · rw [if_pos hc] at hf
    refine x_aload_n C d_W_add_11 rfl (k := 0) rfl ?_
    refine gX_W_wanted C mf_W_9 d_W_add_12 ?_
    refine x_aload_n C d_W_add_15 rfl (k := 0) rfl ?_
    refine gX_W_size (v := (u.1 5)) C mf_W_18 rfl d_W_add_16 ?_
    refine x_iload_n C d_W_add_19 rfl (k := 1) rfl ?_
    obtain ⟨hin, hf⟩ := ck_some hf
    refine astX_8 C hin d_W_add_20 ?_
    refine x_aload_n C d_W_add_21 rfl (k := 0) rfl ?_
    refine gX_W_unmet C mf_W_15 d_W_add_22 ?_
    refine x_aload_n C d_W_add_25 rfl (k := 0) rfl ?_
    refine gX_W_size (v := (u.1 5)) C mf_W_18 rfl d_W_add_26 ?_
    refine x_iload_n C d_W_add_29 rfl (k := 2) rfl ?_
    obtain ⟨hin, hf⟩ := ck_some hf
    refine astX_9 C hin d_W_add_30 ?_
    refine x_aload_n C d_W_add_31 rfl (k := 0) rfl ?_
    refine x_dup C d_W_add_32 rfl ?_
    refine gX_W_size (v := (u.1 5)) C mf_W_18 rfl d_W_add_33 ?_
    refine x_iconst (v := 1) C d_W_add_36 (by decide) ?_
    refine x_iadd C d_W_add_37 ?_
    refine pX_W_size C mf_W_18 d_W_add_38 ?_
    refine x_iconst (v := 1) C d_W_add_41 (by decide) ?_
    exact x_zret C hQ rfl (Prod.mk.inj (Option.some.inj hf)).1 (Prod.mk.inj (Option.some.inj hf)).2 d_W_add_42
  · rw [if_neg hc] at hf
    refine x_iconst (v := 0) C d_W_add_9 (by decide) ?_
    exact x_zret C hQ rfl (Prod.mk.inj (Option.some.inj hf)).1 (Prod.mk.inj (Option.some.inj hf)).2 d_W_add_10
theorem c_W_add {l : Launch} {D : va_G} {cI : ClassId} {h : Nat → Nat} (a1 : Int32) (a2 : Int32) (u : PS) {r0 : Int32 × PS} (hf : f_W_add a1 a2 u = some r0) : CtI l y_W_add b_W_add 3 (some .boolean) (rk 0) D [(cI, .int)] (WX cI h) [.ref (h 2), .int a1, .int a2] u r0.1 r0.2 := ct_ofI (by decide) (Nat.le_of_ble_eq_true rfl) (fun γ _ _ C hQ => w_W_add C hQ a1 a2 u hf)
-- ---- PackagePick$Wishes.remove(I)Z
def b_W_remove_26 (k26 : Int32 → PS → Option (Int32 × PS)) (x2 : Int32) (u : PS) : Option (Int32 × PS) :=
  if (u.1 5) ≤ x2 then
    some ((1 : Int32), u)
  else
    ck (inb (x2 + (1 : Int32)) 6) <|
    ck (inb x2 6) <|
    ck (inb (x2 + (1 : Int32)) 6) <|
    ck (inb x2 6) <|
    k26 (x2 + (1 : Int32)) (sa (sa u 4 x2.toNatClampNeg (u.2 4 (x2 + (1 : Int32)).toNatClampNeg)) 5 x2.toNatClampNeg (u.2 5 (x2 + (1 : Int32)).toNatClampNeg))
set_option maxRecDepth 100000 in
set_option maxHeartbeats 4000000 in
theorem w_W_remove_26 {γ : CX} {cI : ClassId} {h : Nat → Nat} {r0 : Int32} {u0 : PS} (C : Cx γ b_W_remove 3 (some .boolean) "PackagePick$Wishes" (rk 0) [(cI, .int)]) (hQ : QI γ [(cI, .int)] (WX cI h) r0 u0) (k26 : Int32 → PS → Option (Int32 × PS)) (hk26 : ∀ (x2 : Int32) (u : PS), k26 x2 u = some (r0, u0) → AtG γ (WX cI h) 3 0 0 26 [(0, .ref (h 2)), (2, .int x2)] [] u) (x2 : Int32) (u : PS) (hf : b_W_remove_26 k26 x2 u = some (r0, u0)) : AtG γ (WX cI h) 3 0 0 26 [(0, .ref (h 2)), (2, .int x2)] [] u := by
  unfold b_W_remove_26 at hf
  refine x_iload_n C d_W_remove_26 rfl (k := 1) rfl ?_
  refine x_aload_n C d_W_remove_27 rfl (k := 0) rfl ?_
  refine gX_W_size (v := (u.1 5)) C mf_W_18 rfl d_W_remove_28 ?_
  refine x_icmp_ge (tgt := 68) C d_W_remove_31 (by decide) (fun hc => ?_) (fun hc => ?_)
  · rw [if_pos hc] at hf
    refine x_iconst (v := 1) C d_W_remove_68 (by decide) ?_
    exact x_zret C hQ rfl (Prod.mk.inj (Option.some.inj hf)).1 (Prod.mk.inj (Option.some.inj hf)).2 d_W_remove_69
  · rw [if_neg hc] at hf
    refine x_aload_n C d_W_remove_34 rfl (k := 0) rfl ?_
    refine gX_W_wanted C mf_W_9 d_W_remove_35 ?_
    refine x_iload_n C d_W_remove_38 rfl (k := 1) rfl ?_
    refine x_aload_n C d_W_remove_39 rfl (k := 0) rfl ?_
    refine gX_W_wanted C mf_W_9 d_W_remove_40 ?_
    refine x_iload_n C d_W_remove_43 rfl (k := 1) rfl ?_
    refine x_iconst (v := 1) C d_W_remove_44 (by decide) ?_
    refine x_iadd C d_W_remove_45 ?_
    obtain ⟨hin, hf⟩ := ck_some hf
    refine aldX_8 (v := (u.2 4 (x2 + (1 : Int32)).toNatClampNeg)) C hin rfl d_W_remove_46 ?_
    obtain ⟨hin, hf⟩ := ck_some hf
    refine astX_8 C hin d_W_remove_47 ?_
    refine x_aload_n C d_W_remove_48 rfl (k := 0) rfl ?_
    refine gX_W_unmet C mf_W_15 d_W_remove_49 ?_
    refine x_iload_n C d_W_remove_52 rfl (k := 1) rfl ?_
    refine x_aload_n C d_W_remove_53 rfl (k := 0) rfl ?_
    refine gX_W_unmet C mf_W_15 d_W_remove_54 ?_
    refine x_iload_n C d_W_remove_57 rfl (k := 1) rfl ?_
    refine x_iconst (v := 1) C d_W_remove_58 (by decide) ?_
    refine x_iadd C d_W_remove_59 ?_
    obtain ⟨hin, hf⟩ := ck_some hf
    refine aldX_9 (v := (u.2 5 (x2 + (1 : Int32)).toNatClampNeg)) C hin rfl d_W_remove_60 ?_
    obtain ⟨hin, hf⟩ := ck_some hf
    refine astX_9 C hin d_W_remove_61 ?_
    refine x_iinc (v := (x2 + (1 : Int32))) (lv' := [(2, .int (x2 + (1 : Int32))), (0, .ref (h 2))]) C d_W_remove_62 (k := 1) rfl rfl (by decide) rfl ?_
    refine x_goto (tgt := 26) C d_W_remove_65 (by decide) ?_
    refine x_sub (lv' := [(0, .ref (h 2)), (2, .int (x2 + (1 : Int32)))]) [1, 0] rfl ?_
    exact hk26 (x2 + (1 : Int32)) (sa (sa u 4 x2.toNatClampNeg (u.2 4 (x2 + (1 : Int32)).toNatClampNeg)) 5 x2.toNatClampNeg (u.2 5 (x2 + (1 : Int32)).toNatClampNeg)) hf
def l_W_remove_26 : Nat → Int32 → PS → Option (Int32 × PS)
  | 0 => fun _ _ => none
  | n + 1 => b_W_remove_26 (l_W_remove_26 n)
theorem wl_W_remove_26 {γ : CX} {cI : ClassId} {h : Nat → Nat} {r0 : Int32} {u0 : PS} (C : Cx γ b_W_remove 3 (some .boolean) "PackagePick$Wishes" (rk 0) [(cI, .int)]) (hQ : QI γ [(cI, .int)] (WX cI h) r0 u0) (n : Nat) : ∀ (x2 : Int32) (u : PS), l_W_remove_26 n x2 u = some (r0, u0) → AtG γ (WX cI h) 3 0 0 26 [(0, .ref (h 2)), (2, .int x2)] [] u := by
  induction n with
  | zero => intro x2 u hf; cases hf
  | succ n ih => intro x2 u hf; exact w_W_remove_26 C hQ (l_W_remove_26 n) ih x2 u hf
def f_W_remove (a1 : Int32) (u : PS) : Option (Int32 × PS) :=
  if a1 < 0 then
    some ((0 : Int32), u)
  else
    if a1 < (u.1 5) then
      l_W_remove_26 NF a1 (si u 5 ((u.1 5) - (1 : Int32)))
    else
      some ((0 : Int32), u)
set_option maxRecDepth 100000 in
set_option maxHeartbeats 4000000 in
theorem w_W_remove {γ : CX} {cI : ClassId} {h : Nat → Nat} {r0 : Int32} {u0 : PS} (C : Cx γ b_W_remove 3 (some .boolean) "PackagePick$Wishes" (rk 0) [(cI, .int)]) (hQ : QI γ [(cI, .int)] (WX cI h) r0 u0) (a1 : Int32) (u : PS) (hf : f_W_remove a1 u = some (r0, u0)) : AtG γ (WX cI h) 3 0 0 0 [(0, .ref (h 2)), (1, .int a1)] [] u := by
  unfold f_W_remove at hf
  refine x_iload_n C d_W_remove_0 rfl (k := 1) rfl ?_
  refine x_if_lt (tgt := 12) C d_W_remove_1 (by decide) (fun hc => ?_) (fun hc => ?_)
  · rw [if_pos hc] at hf
    refine x_iconst (v := 0) C d_W_remove_12 (by decide) ?_
    exact x_zret C hQ rfl (Prod.mk.inj (Option.some.inj hf)).1 (Prod.mk.inj (Option.some.inj hf)).2 d_W_remove_13
  · rw [if_neg hc] at hf
    refine x_iload_n C d_W_remove_4 rfl (k := 1) rfl ?_
    refine x_aload_n C d_W_remove_5 rfl (k := 0) rfl ?_
    refine gX_W_size (v := (u.1 5)) C mf_W_18 rfl d_W_remove_6 ?_
    refine x_icmp_lt (tgt := 14) C d_W_remove_9 (by decide) (fun hc => ?_) (fun hc => ?_)
    · rw [if_pos hc] at hf
      refine x_aload_n C d_W_remove_14 rfl (k := 0) rfl ?_
      refine x_dup C d_W_remove_15 rfl ?_
      refine gX_W_size (v := (u.1 5)) C mf_W_18 rfl d_W_remove_16 ?_
      refine x_iconst (v := 1) C d_W_remove_19 (by decide) ?_
      refine x_isub C d_W_remove_20 ?_
      refine pX_W_size C mf_W_18 d_W_remove_21 ?_
      refine x_iload_n C d_W_remove_24 rfl (k := 1) rfl ?_
      refine x_istore_n (lv' := [(2, .int a1), (0, .ref (h 2)), (1, .int a1)]) C d_W_remove_25 rfl (by decide) rfl ?_
      refine x_sub (lv' := [(0, .ref (h 2)), (2, .int a1)]) [1, 0] rfl ?_
      exact wl_W_remove_26 C hQ NF a1 (si u 5 ((u.1 5) - (1 : Int32))) hf
    · rw [if_neg hc] at hf
      refine x_iconst (v := 0) C d_W_remove_12 (by decide) ?_
      exact x_zret C hQ rfl (Prod.mk.inj (Option.some.inj hf)).1 (Prod.mk.inj (Option.some.inj hf)).2 d_W_remove_13
theorem c_W_remove {l : Launch} {D : va_G} {cI : ClassId} {h : Nat → Nat} (a1 : Int32) (u : PS) {r0 : Int32 × PS} (hf : f_W_remove a1 u = some r0) : CtI l y_W_remove b_W_remove 3 (some .boolean) (rk 0) D [(cI, .int)] (WX cI h) [.ref (h 2), .int a1] u r0.1 r0.2 := ct_ofI (by decide) (Nat.le_of_ble_eq_true rfl) (fun γ _ _ C hQ => w_W_remove C hQ a1 u hf)
-- ---- PackagePick.wishBit(I)I
def f_X_wishBit (a0 : Int32) : Int32 :=
  ((1 : Int32) <<< (((5 : Int32) - a0) &&& 31))
set_option maxRecDepth 100000 in
set_option maxHeartbeats 4000000 in
theorem w_X_wishBit {γ : CX} {S : Type} {wf : S → va_W} {tys : Tys} {u : S} {r0 : Int32} (C : Cx γ b_X_wishBit 1 (some .int) "PackagePick" (rk 0) tys) (hQ : QI γ tys wf r0 u) (a0 : Int32) (hf : f_X_wishBit a0 = r0) : AtG γ wf 1 0 0 0 [(0, .int a0)] [] u := by
  unfold f_X_wishBit at hf
  refine x_iconst (v := 1) C d_X_wishBit_0 (by decide) ?_
  refine x_iconst (v := 5) C d_X_wishBit_1 (by decide) ?_
  refine x_iload_n C d_X_wishBit_2 rfl (k := 0) rfl ?_
  refine x_isub C d_X_wishBit_3 ?_
  refine x_ishl C d_X_wishBit_4 ?_
  exact x_iret C hQ hf rfl d_X_wishBit_5
theorem c_X_wishBit {S : Type} {l : Launch} {D : va_G} {tys : Tys} {wf : S → va_W} {u : S} (a0 : Int32) : CtI l y_X_wishBit b_X_wishBit 1 (some .int) (rk 0) D tys wf [.int a0] u (f_X_wishBit a0) u := ct_ofI (by decide) (Nat.le_of_ble_eq_true rfl) (fun γ _ _ C hQ => w_X_wishBit C hQ a0 rfl)
-- ---- PackagePick$Wishes.all()I
def b_W_all_4 (u : PS) (k4 : Int32 → Int32 → Option (Int32)) (x1 : Int32) (x2 : Int32) : Option (Int32) :=
  if (u.1 5) ≤ x2 then
    some x1
  else
    k4 (x1 ||| (f_X_wishBit x2)) (x2 + (1 : Int32))
set_option maxRecDepth 100000 in
set_option maxHeartbeats 4000000 in
theorem w_W_all_4 {γ : CX} {cI : ClassId} {h : Nat → Nat} {u : PS} {r0 : Int32} (C : Cx γ b_W_all 3 (some .int) "PackagePick$Wishes" (rk 1) [(cI, .int)]) (hQ : QI γ [(cI, .int)] (WX cI h) r0 u) (k4 : Int32 → Int32 → Option (Int32)) (hk4 : ∀ (x1 : Int32) (x2 : Int32), k4 x1 x2 = some r0 → AtG γ (WX cI h) 3 0 0 4 [(0, .ref (h 2)), (1, .int x1), (2, .int x2)] [] u) (x1 : Int32) (x2 : Int32) (hf : b_W_all_4 u k4 x1 x2 = some r0) : AtG γ (WX cI h) 3 0 0 4 [(0, .ref (h 2)), (1, .int x1), (2, .int x2)] [] u := by
  unfold b_W_all_4 at hf
  refine x_iload_n C d_W_all_4 rfl (k := 2) rfl ?_
  refine x_aload_n C d_W_all_5 rfl (k := 0) rfl ?_
  refine gX_W_size (v := (u.1 5)) C mf_W_18 rfl d_W_all_6 ?_
  refine x_icmp_ge (tgt := 25) C d_W_all_9 (by decide) (fun hc => ?_) (fun hc => ?_)
  · rw [if_pos hc] at hf
    refine x_iload_n C d_W_all_25 rfl (k := 1) rfl ?_
    exact x_iret C hQ (Option.some.inj hf) rfl d_W_all_26
  · rw [if_neg hc] at hf
    refine x_iload_n C d_W_all_12 rfl (k := 1) rfl ?_
    refine x_iload_n C d_W_all_13 rfl (k := 2) rfl ?_
    refine x_callIn (rest := [.int x1]) C (c_X_wishBit x2) kc_X_wishBit (rok (by decide) (by decide)) (by decide +kernel) ms_X_wishBit rfl rfl (Nat.le_of_ble_eq_true rfl) d_W_all_14 ?_
    refine x_ior C d_W_all_17 ?_
    refine x_istore_n (lv' := [(1, .int (x1 ||| (f_X_wishBit x2))), (0, .ref (h 2)), (2, .int x2)]) C d_W_all_18 rfl (by decide) rfl ?_
    refine x_iinc (v := (x2 + (1 : Int32))) (lv' := [(2, .int (x2 + (1 : Int32))), (1, .int (x1 ||| (f_X_wishBit x2))), (0, .ref (h 2))]) C d_W_all_19 (k := 2) rfl rfl (by decide) rfl ?_
    refine x_goto (tgt := 4) C d_W_all_22 (by decide) ?_
    refine x_sub (lv' := [(0, .ref (h 2)), (1, .int (x1 ||| (f_X_wishBit x2))), (2, .int (x2 + (1 : Int32)))]) [2, 1, 0] rfl ?_
    exact hk4 (x1 ||| (f_X_wishBit x2)) (x2 + (1 : Int32)) hf
def l_W_all_4 (u : PS) : Nat → Int32 → Int32 → Option (Int32)
  | 0 => fun _ _ => none
  | n + 1 => b_W_all_4 u (l_W_all_4 u n)
theorem wl_W_all_4 {γ : CX} {cI : ClassId} {h : Nat → Nat} {u : PS} {r0 : Int32} (C : Cx γ b_W_all 3 (some .int) "PackagePick$Wishes" (rk 1) [(cI, .int)]) (hQ : QI γ [(cI, .int)] (WX cI h) r0 u) (n : Nat) : ∀ (x1 : Int32) (x2 : Int32), l_W_all_4 u n x1 x2 = some r0 → AtG γ (WX cI h) 3 0 0 4 [(0, .ref (h 2)), (1, .int x1), (2, .int x2)] [] u := by
  induction n with
  | zero => intro x1 x2 hf; cases hf
  | succ n ih => intro x1 x2 hf; exact w_W_all_4 C hQ (l_W_all_4 u n) ih x1 x2 hf
def f_W_all (u : PS) : Option (Int32) :=
  l_W_all_4 u NF (0 : Int32) (0 : Int32)
set_option maxRecDepth 100000 in
set_option maxHeartbeats 4000000 in
theorem w_W_all {γ : CX} {cI : ClassId} {h : Nat → Nat} {u : PS} {r0 : Int32} (C : Cx γ b_W_all 3 (some .int) "PackagePick$Wishes" (rk 1) [(cI, .int)]) (hQ : QI γ [(cI, .int)] (WX cI h) r0 u) (hf : f_W_all u = some r0) : AtG γ (WX cI h) 3 0 0 0 [(0, .ref (h 2))] [] u := by
  unfold f_W_all at hf
  refine x_iconst (v := 0) C d_W_all_0 (by decide) ?_
  refine x_istore_n (lv' := [(1, .int (0 : Int32)), (0, .ref (h 2))]) C d_W_all_1 rfl (by decide) rfl ?_
  refine x_iconst (v := 0) C d_W_all_2 (by decide) ?_
  refine x_istore_n (lv' := [(2, .int (0 : Int32)), (1, .int (0 : Int32)), (0, .ref (h 2))]) C d_W_all_3 rfl (by decide) rfl ?_
  refine x_sub (lv' := [(0, .ref (h 2)), (1, .int (0 : Int32)), (2, .int (0 : Int32))]) [2, 1, 0] rfl ?_
  exact wl_W_all_4 C hQ NF (0 : Int32) (0 : Int32) hf
theorem c_W_all {l : Launch} {D : va_G} {cI : ClassId} {h : Nat → Nat} (u : PS) {r0 : Int32} (hf : f_W_all u = some r0) : CtI l y_W_all b_W_all 3 (some .int) (rk 1) D [(cI, .int)] (WX cI h) [.ref (h 2)] u r0 u := ct_ofI (by decide) (Nat.le_of_ble_eq_true rfl) (fun γ _ _ C hQ => w_W_all C hQ hf)
-- ---- PackagePick$Wishes.union([II)I
def b_W_union_8_5 (u : PS) (k5 : Int32 → Int32 → Int32 → Option (Int32)) (x2 : Int32) (x3 : Int32) (x4 : Int32) : Option (Int32) :=
  if (u.1 5) ≤ x4 then
    some x3
  else
    if (6 : Int32) ≤ x4 then
      some x3
    else
      if (x2 &&& (f_X_wishBit x4)) = 0 then
        k5 x2 x3 (x4 + (1 : Int32))
      else
        ck (inb x4 6) <|
        k5 x2 (x3 ||| (u.2 4 x4.toNatClampNeg)) (x4 + (1 : Int32))
set_option maxRecDepth 100000 in
set_option maxHeartbeats 4000000 in
theorem w_W_union_8_5 {γ : CX} {cI : ClassId} {h : Nat → Nat} {u : PS} {r0 : Int32} (C : Cx γ b_W_union 5 (some .int) "PackagePick$Wishes" (rk 1) [(cI, .int)]) (hQ : QI γ [(cI, .int)] (WX cI h) r0 u) (k5 : Int32 → Int32 → Int32 → Option (Int32)) (hk5 : ∀ (x2 : Int32) (x3 : Int32) (x4 : Int32), k5 x2 x3 x4 = some r0 → AtG γ (WX cI h) 5 0 0 5 [(0, .ref (h 2)), (1, .ref (h 8)), (2, .int x2), (3, .int x3), (4, .int x4)] [] u) (x2 : Int32) (x3 : Int32) (x4 : Int32) (hf : b_W_union_8_5 u k5 x2 x3 x4 = some r0) : AtG γ (WX cI h) 5 0 0 5 [(0, .ref (h 2)), (1, .ref (h 8)), (2, .int x2), (3, .int x3), (4, .int x4)] [] u := by
  unfold b_W_union_8_5 at hf
  refine x_iload C d_W_union_5 (k := 4) rfl ?_
  refine x_aload_n C d_W_union_7 rfl (k := 0) rfl ?_
  refine gX_W_size (v := (u.1 5)) C mf_W_18 rfl d_W_union_8 ?_
  refine x_icmp_ge (tgt := 44) C d_W_union_11 (by decide) (fun hc => ?_) (fun hc => ?_)
  · rw [if_pos hc] at hf
    refine x_iload_n C d_W_union_44 rfl (k := 3) rfl ?_
    exact x_iret C hQ (Option.some.inj hf) rfl d_W_union_45
  · rw [if_neg hc] at hf
    refine x_iload C d_W_union_14 (k := 4) rfl ?_
    refine x_aload_n C d_W_union_16 rfl (k := 1) rfl ?_
    refine lenX_8 C d_W_union_17 ?_
    refine x_icmp_ge (tgt := 44) C d_W_union_18 (by decide) (fun hc => ?_) (fun hc => ?_)
    · rw [if_pos hc] at hf
      refine x_iload_n C d_W_union_44 rfl (k := 3) rfl ?_
      exact x_iret C hQ (Option.some.inj hf) rfl d_W_union_45
    · rw [if_neg hc] at hf
      refine x_iload_n C d_W_union_21 rfl (k := 2) rfl ?_
      refine x_iload C d_W_union_22 (k := 4) rfl ?_
      refine x_callIn (rest := [.int x2]) C (c_X_wishBit x4) kc_X_wishBit (rok (by decide) (by decide)) (by decide +kernel) ms_X_wishBit rfl rfl (Nat.le_of_ble_eq_true rfl) d_W_union_24 ?_
      refine x_iand C d_W_union_27 ?_
      refine x_if_eq (tgt := 38) C d_W_union_28 (by decide) (fun hc => ?_) (fun hc => ?_)
      · rw [if_pos hc] at hf
        refine x_iinc (v := (x4 + (1 : Int32))) (lv' := [(4, .int (x4 + (1 : Int32))), (0, .ref (h 2)), (1, .ref (h 8)), (2, .int x2), (3, .int x3)]) C d_W_union_38 (k := 4) rfl rfl (by decide) rfl ?_
        refine x_goto (tgt := 5) C d_W_union_41 (by decide) ?_
        refine x_sub (lv' := [(0, .ref (h 2)), (1, .ref (h 8)), (2, .int x2), (3, .int x3), (4, .int (x4 + (1 : Int32)))]) [1, 2, 3, 4, 0] rfl ?_
        exact hk5 x2 x3 (x4 + (1 : Int32)) hf
      · rw [if_neg hc] at hf
        refine x_iload_n C d_W_union_31 rfl (k := 3) rfl ?_
        refine x_aload_n C d_W_union_32 rfl (k := 1) rfl ?_
        refine x_iload C d_W_union_33 (k := 4) rfl ?_
        obtain ⟨hin, hf⟩ := ck_some hf
        refine aldX_8 (v := (u.2 4 x4.toNatClampNeg)) C hin rfl d_W_union_35 ?_
        refine x_ior C d_W_union_36 ?_
        refine x_istore_n (lv' := [(3, .int (x3 ||| (u.2 4 x4.toNatClampNeg))), (0, .ref (h 2)), (1, .ref (h 8)), (2, .int x2), (4, .int x4)]) C d_W_union_37 rfl (by decide) rfl ?_
        refine x_iinc (v := (x4 + (1 : Int32))) (lv' := [(4, .int (x4 + (1 : Int32))), (3, .int (x3 ||| (u.2 4 x4.toNatClampNeg))), (0, .ref (h 2)), (1, .ref (h 8)), (2, .int x2)]) C d_W_union_38 (k := 4) rfl rfl (by decide) rfl ?_
        refine x_goto (tgt := 5) C d_W_union_41 (by decide) ?_
        refine x_sub (lv' := [(0, .ref (h 2)), (1, .ref (h 8)), (2, .int x2), (3, .int (x3 ||| (u.2 4 x4.toNatClampNeg))), (4, .int (x4 + (1 : Int32)))]) [2, 3, 4, 1, 0] rfl ?_
        exact hk5 x2 (x3 ||| (u.2 4 x4.toNatClampNeg)) (x4 + (1 : Int32)) hf
def l_W_union_8_5 (u : PS) : Nat → Int32 → Int32 → Int32 → Option (Int32)
  | 0 => fun _ _ _ => none
  | n + 1 => b_W_union_8_5 u (l_W_union_8_5 u n)
theorem wl_W_union_8_5 {γ : CX} {cI : ClassId} {h : Nat → Nat} {u : PS} {r0 : Int32} (C : Cx γ b_W_union 5 (some .int) "PackagePick$Wishes" (rk 1) [(cI, .int)]) (hQ : QI γ [(cI, .int)] (WX cI h) r0 u) (n : Nat) : ∀ (x2 : Int32) (x3 : Int32) (x4 : Int32), l_W_union_8_5 u n x2 x3 x4 = some r0 → AtG γ (WX cI h) 5 0 0 5 [(0, .ref (h 2)), (1, .ref (h 8)), (2, .int x2), (3, .int x3), (4, .int x4)] [] u := by
  induction n with
  | zero => intro x2 x3 x4 hf; cases hf
  | succ n ih => intro x2 x3 x4 hf; exact w_W_union_8_5 C hQ (l_W_union_8_5 u n) ih x2 x3 x4 hf
def f_W_union_8 (a2 : Int32) (u : PS) : Option (Int32) :=
  l_W_union_8_5 u NF a2 (0 : Int32) (0 : Int32)
set_option maxRecDepth 100000 in
set_option maxHeartbeats 4000000 in
theorem w_W_union_8 {γ : CX} {cI : ClassId} {h : Nat → Nat} {u : PS} {r0 : Int32} (C : Cx γ b_W_union 5 (some .int) "PackagePick$Wishes" (rk 1) [(cI, .int)]) (hQ : QI γ [(cI, .int)] (WX cI h) r0 u) (a2 : Int32) (hf : f_W_union_8 a2 u = some r0) : AtG γ (WX cI h) 5 0 0 0 [(0, .ref (h 2)), (1, .ref (h 8)), (2, .int a2)] [] u := by
  unfold f_W_union_8 at hf
  refine x_iconst (v := 0) C d_W_union_0 (by decide) ?_
  refine x_istore_n (lv' := [(3, .int (0 : Int32)), (0, .ref (h 2)), (1, .ref (h 8)), (2, .int a2)]) C d_W_union_1 rfl (by decide) rfl ?_
  refine x_iconst (v := 0) C d_W_union_2 (by decide) ?_
  refine x_istore (lv' := [(4, .int (0 : Int32)), (3, .int (0 : Int32)), (0, .ref (h 2)), (1, .ref (h 8)), (2, .int a2)]) C d_W_union_3 (by decide) rfl ?_
  refine x_sub (lv' := [(0, .ref (h 2)), (1, .ref (h 8)), (2, .int a2), (3, .int (0 : Int32)), (4, .int (0 : Int32))]) [2, 3, 4, 1, 0] rfl ?_
  exact wl_W_union_8_5 C hQ NF a2 (0 : Int32) (0 : Int32) hf
theorem c_W_union_8 {l : Launch} {D : va_G} {cI : ClassId} {h : Nat → Nat} (a2 : Int32) (u : PS) {r0 : Int32} (hf : f_W_union_8 a2 u = some r0) : CtI l y_W_union b_W_union 5 (some .int) (rk 1) D [(cI, .int)] (WX cI h) [.ref (h 2), .ref (h 8), .int a2] u r0 u := ct_ofI (by decide) (Nat.le_of_ble_eq_true rfl) (fun γ _ _ C hQ => w_W_union_8 C hQ a2 hf)
-- ---- PackagePick$Wishes.union([II)I
def b_W_union_9_5 (u : PS) (k5 : Int32 → Int32 → Int32 → Option (Int32)) (x2 : Int32) (x3 : Int32) (x4 : Int32) : Option (Int32) :=
  if (u.1 5) ≤ x4 then
    some x3
  else
    if (6 : Int32) ≤ x4 then
      some x3
    else
      if (x2 &&& (f_X_wishBit x4)) = 0 then
        k5 x2 x3 (x4 + (1 : Int32))
      else
        ck (inb x4 6) <|
        k5 x2 (x3 ||| (u.2 5 x4.toNatClampNeg)) (x4 + (1 : Int32))
set_option maxRecDepth 100000 in
set_option maxHeartbeats 4000000 in
theorem w_W_union_9_5 {γ : CX} {cI : ClassId} {h : Nat → Nat} {u : PS} {r0 : Int32} (C : Cx γ b_W_union 5 (some .int) "PackagePick$Wishes" (rk 1) [(cI, .int)]) (hQ : QI γ [(cI, .int)] (WX cI h) r0 u) (k5 : Int32 → Int32 → Int32 → Option (Int32)) (hk5 : ∀ (x2 : Int32) (x3 : Int32) (x4 : Int32), k5 x2 x3 x4 = some r0 → AtG γ (WX cI h) 5 0 0 5 [(0, .ref (h 2)), (1, .ref (h 9)), (2, .int x2), (3, .int x3), (4, .int x4)] [] u) (x2 : Int32) (x3 : Int32) (x4 : Int32) (hf : b_W_union_9_5 u k5 x2 x3 x4 = some r0) : AtG γ (WX cI h) 5 0 0 5 [(0, .ref (h 2)), (1, .ref (h 9)), (2, .int x2), (3, .int x3), (4, .int x4)] [] u := by
  unfold b_W_union_9_5 at hf
  refine x_iload C d_W_union_5 (k := 4) rfl ?_
  refine x_aload_n C d_W_union_7 rfl (k := 0) rfl ?_
  refine gX_W_size (v := (u.1 5)) C mf_W_18 rfl d_W_union_8 ?_
  refine x_icmp_ge (tgt := 44) C d_W_union_11 (by decide) (fun hc => ?_) (fun hc => ?_)
  · rw [if_pos hc] at hf
    refine x_iload_n C d_W_union_44 rfl (k := 3) rfl ?_
    exact x_iret C hQ (Option.some.inj hf) rfl d_W_union_45
  · rw [if_neg hc] at hf
    refine x_iload C d_W_union_14 (k := 4) rfl ?_
    refine x_aload_n C d_W_union_16 rfl (k := 1) rfl ?_
    refine lenX_9 C d_W_union_17 ?_
    refine x_icmp_ge (tgt := 44) C d_W_union_18 (by decide) (fun hc => ?_) (fun hc => ?_)
    · rw [if_pos hc] at hf
      refine x_iload_n C d_W_union_44 rfl (k := 3) rfl ?_
      exact x_iret C hQ (Option.some.inj hf) rfl d_W_union_45
    · rw [if_neg hc] at hf
      refine x_iload_n C d_W_union_21 rfl (k := 2) rfl ?_
      refine x_iload C d_W_union_22 (k := 4) rfl ?_
      refine x_callIn (rest := [.int x2]) C (c_X_wishBit x4) kc_X_wishBit (rok (by decide) (by decide)) (by decide +kernel) ms_X_wishBit rfl rfl (Nat.le_of_ble_eq_true rfl) d_W_union_24 ?_
      refine x_iand C d_W_union_27 ?_
      refine x_if_eq (tgt := 38) C d_W_union_28 (by decide) (fun hc => ?_) (fun hc => ?_)
      · rw [if_pos hc] at hf
        refine x_iinc (v := (x4 + (1 : Int32))) (lv' := [(4, .int (x4 + (1 : Int32))), (0, .ref (h 2)), (1, .ref (h 9)), (2, .int x2), (3, .int x3)]) C d_W_union_38 (k := 4) rfl rfl (by decide) rfl ?_
        refine x_goto (tgt := 5) C d_W_union_41 (by decide) ?_
        refine x_sub (lv' := [(0, .ref (h 2)), (1, .ref (h 9)), (2, .int x2), (3, .int x3), (4, .int (x4 + (1 : Int32)))]) [1, 2, 3, 4, 0] rfl ?_
        exact hk5 x2 x3 (x4 + (1 : Int32)) hf
      · rw [if_neg hc] at hf
        refine x_iload_n C d_W_union_31 rfl (k := 3) rfl ?_
        refine x_aload_n C d_W_union_32 rfl (k := 1) rfl ?_
        refine x_iload C d_W_union_33 (k := 4) rfl ?_
        obtain ⟨hin, hf⟩ := ck_some hf
        refine aldX_9 (v := (u.2 5 x4.toNatClampNeg)) C hin rfl d_W_union_35 ?_
        refine x_ior C d_W_union_36 ?_
        refine x_istore_n (lv' := [(3, .int (x3 ||| (u.2 5 x4.toNatClampNeg))), (0, .ref (h 2)), (1, .ref (h 9)), (2, .int x2), (4, .int x4)]) C d_W_union_37 rfl (by decide) rfl ?_
        refine x_iinc (v := (x4 + (1 : Int32))) (lv' := [(4, .int (x4 + (1 : Int32))), (3, .int (x3 ||| (u.2 5 x4.toNatClampNeg))), (0, .ref (h 2)), (1, .ref (h 9)), (2, .int x2)]) C d_W_union_38 (k := 4) rfl rfl (by decide) rfl ?_
        refine x_goto (tgt := 5) C d_W_union_41 (by decide) ?_
        refine x_sub (lv' := [(0, .ref (h 2)), (1, .ref (h 9)), (2, .int x2), (3, .int (x3 ||| (u.2 5 x4.toNatClampNeg))), (4, .int (x4 + (1 : Int32)))]) [2, 3, 4, 1, 0] rfl ?_
        exact hk5 x2 (x3 ||| (u.2 5 x4.toNatClampNeg)) (x4 + (1 : Int32)) hf
def l_W_union_9_5 (u : PS) : Nat → Int32 → Int32 → Int32 → Option (Int32)
  | 0 => fun _ _ _ => none
  | n + 1 => b_W_union_9_5 u (l_W_union_9_5 u n)
theorem wl_W_union_9_5 {γ : CX} {cI : ClassId} {h : Nat → Nat} {u : PS} {r0 : Int32} (C : Cx γ b_W_union 5 (some .int) "PackagePick$Wishes" (rk 1) [(cI, .int)]) (hQ : QI γ [(cI, .int)] (WX cI h) r0 u) (n : Nat) : ∀ (x2 : Int32) (x3 : Int32) (x4 : Int32), l_W_union_9_5 u n x2 x3 x4 = some r0 → AtG γ (WX cI h) 5 0 0 5 [(0, .ref (h 2)), (1, .ref (h 9)), (2, .int x2), (3, .int x3), (4, .int x4)] [] u := by
  induction n with
  | zero => intro x2 x3 x4 hf; cases hf
  | succ n ih => intro x2 x3 x4 hf; exact w_W_union_9_5 C hQ (l_W_union_9_5 u n) ih x2 x3 x4 hf
def f_W_union_9 (a2 : Int32) (u : PS) : Option (Int32) :=
  l_W_union_9_5 u NF a2 (0 : Int32) (0 : Int32)
set_option maxRecDepth 100000 in
set_option maxHeartbeats 4000000 in
theorem w_W_union_9 {γ : CX} {cI : ClassId} {h : Nat → Nat} {u : PS} {r0 : Int32} (C : Cx γ b_W_union 5 (some .int) "PackagePick$Wishes" (rk 1) [(cI, .int)]) (hQ : QI γ [(cI, .int)] (WX cI h) r0 u) (a2 : Int32) (hf : f_W_union_9 a2 u = some r0) : AtG γ (WX cI h) 5 0 0 0 [(0, .ref (h 2)), (1, .ref (h 9)), (2, .int a2)] [] u := by
  unfold f_W_union_9 at hf
  refine x_iconst (v := 0) C d_W_union_0 (by decide) ?_
  refine x_istore_n (lv' := [(3, .int (0 : Int32)), (0, .ref (h 2)), (1, .ref (h 9)), (2, .int a2)]) C d_W_union_1 rfl (by decide) rfl ?_
  refine x_iconst (v := 0) C d_W_union_2 (by decide) ?_
  refine x_istore (lv' := [(4, .int (0 : Int32)), (3, .int (0 : Int32)), (0, .ref (h 2)), (1, .ref (h 9)), (2, .int a2)]) C d_W_union_3 (by decide) rfl ?_
  refine x_sub (lv' := [(0, .ref (h 2)), (1, .ref (h 9)), (2, .int a2), (3, .int (0 : Int32)), (4, .int (0 : Int32))]) [2, 3, 4, 1, 0] rfl ?_
  exact wl_W_union_9_5 C hQ NF a2 (0 : Int32) (0 : Int32) hf
theorem c_W_union_9 {l : Launch} {D : va_G} {cI : ClassId} {h : Nat → Nat} (a2 : Int32) (u : PS) {r0 : Int32} (hf : f_W_union_9 a2 u = some r0) : CtI l y_W_union b_W_union 5 (some .int) (rk 1) D [(cI, .int)] (WX cI h) [.ref (h 2), .ref (h 9), .int a2] u r0 u := ct_ofI (by decide) (Nat.le_of_ble_eq_true rfl) (fun γ _ _ C hQ => w_W_union_9 C hQ a2 hf)
-- ---- PackagePick.isPackage(I)Z
def f_X_isPackage (a0 : Int32) : Int32 :=
  if a0 < 0 then
    (0 : Int32)
  else
    if (7 : Int32) ≤ a0 then
      (0 : Int32)
    else
      (1 : Int32)
set_option maxRecDepth 100000 in
set_option maxHeartbeats 4000000 in
theorem w_X_isPackage {γ : CX} {S : Type} {wf : S → va_W} {tys : Tys} {u : S} {r0 : Int32} (C : Cx γ b_X_isPackage 1 (some .boolean) "PackagePick" (rk 0) tys) (hQ : QI γ tys wf r0 u) (a0 : Int32) (hf : f_X_isPackage a0 = r0) : AtG γ wf 1 0 0 0 [(0, .int a0)] [] u := by
  unfold f_X_isPackage at hf
  refine x_iload_n C d_X_isPackage_0 rfl (k := 0) rfl ?_
  refine x_if_lt (tgt := 14) C d_X_isPackage_1 (by decide) (fun hc => ?_) (fun hc => ?_)
  · rw [if_pos hc] at hf
    refine x_iconst (v := 0) C d_X_isPackage_14 (by decide) ?_
    exact x_zret C hQ rfl hf rfl d_X_isPackage_15
  · rw [if_neg hc] at hf
    refine x_iload_n C d_X_isPackage_4 rfl (k := 0) rfl ?_
    refine x_bipush (v := 7) C d_X_isPackage_5 (by decide) ?_
    refine x_icmp_ge (tgt := 14) C d_X_isPackage_7 (by decide) (fun hc => ?_) (fun hc => ?_)
    · rw [if_pos hc] at hf
      refine x_iconst (v := 0) C d_X_isPackage_14 (by decide) ?_
      exact x_zret C hQ rfl hf rfl d_X_isPackage_15
    · rw [if_neg hc] at hf
      refine x_iconst (v := 1) C d_X_isPackage_10 (by decide) ?_
      refine x_goto (tgt := 15) C d_X_isPackage_11 (by decide) ?_
      exact x_zret C hQ rfl hf rfl d_X_isPackage_15
theorem c_X_isPackage {S : Type} {l : Launch} {D : va_G} {tys : Tys} {wf : S → va_W} {u : S} (a0 : Int32) : CtI l y_X_isPackage b_X_isPackage 1 (some .boolean) (rk 0) D tys wf [.int a0] u (f_X_isPackage a0) u := ct_ofI (by decide) (Nat.le_of_ble_eq_true rfl) (fun γ _ _ C hQ => w_X_isPackage C hQ a0 rfl)
-- ---- PackagePick.isVersion(II)Z
def f_X_isVersion (a0 : Int32) (a1 : Int32) : Int32 :=
  if (f_X_isPackage a0) = 0 then
    (0 : Int32)
  else
    if a1 < 0 then
      (0 : Int32)
    else
      if (4 : Int32) ≤ a1 then
        (0 : Int32)
      else
        (1 : Int32)
set_option maxRecDepth 100000 in
set_option maxHeartbeats 4000000 in
theorem w_X_isVersion {γ : CX} {S : Type} {wf : S → va_W} {tys : Tys} {u : S} {r0 : Int32} (C : Cx γ b_X_isVersion 2 (some .boolean) "PackagePick" (rk 1) tys) (hQ : QI γ tys wf r0 u) (a0 : Int32) (a1 : Int32) (hf : f_X_isVersion a0 a1 = r0) : AtG γ wf 2 0 0 0 [(0, .int a0), (1, .int a1)] [] u := by
  unfold f_X_isVersion at hf
  refine x_iload_n C d_X_isVersion_0 rfl (k := 0) rfl ?_
  refine x_callIs (rest := []) C (c_X_isPackage a0) kc_X_isPackage (rok (by decide) (by decide)) mm_X_110 ms_X_isPackage rfl rfl (Nat.le_of_ble_eq_true rfl) d_X_isVersion_1 ?_
  refine x_if_eq (tgt := 20) C d_X_isVersion_4 (by decide) (fun hc => ?_) (fun hc => ?_)
  · rw [if_pos hc] at hf
    refine x_iconst (v := 0) C d_X_isVersion_20 (by decide) ?_
    exact x_zret C hQ rfl hf rfl d_X_isVersion_21
  · rw [if_neg hc] at hf
    refine x_iload_n C d_X_isVersion_7 rfl (k := 1) rfl ?_
    refine x_if_lt (tgt := 20) C d_X_isVersion_8 (by decide) (fun hc => ?_) (fun hc => ?_)
    · rw [if_pos hc] at hf
      refine x_iconst (v := 0) C d_X_isVersion_20 (by decide) ?_
      exact x_zret C hQ rfl hf rfl d_X_isVersion_21
    · rw [if_neg hc] at hf
      refine x_iload_n C d_X_isVersion_11 rfl (k := 1) rfl ?_
      refine x_iconst (v := 4) C d_X_isVersion_12 (by decide) ?_
      refine x_icmp_ge (tgt := 20) C d_X_isVersion_13 (by decide) (fun hc => ?_) (fun hc => ?_)
      · rw [if_pos hc] at hf
        refine x_iconst (v := 0) C d_X_isVersion_20 (by decide) ?_
        exact x_zret C hQ rfl hf rfl d_X_isVersion_21
      · rw [if_neg hc] at hf
        refine x_iconst (v := 1) C d_X_isVersion_16 (by decide) ?_
        refine x_goto (tgt := 21) C d_X_isVersion_17 (by decide) ?_
        exact x_zret C hQ rfl hf rfl d_X_isVersion_21
theorem c_X_isVersion {S : Type} {l : Launch} {D : va_G} {tys : Tys} {wf : S → va_W} {u : S} (a0 : Int32) (a1 : Int32) : CtI l y_X_isVersion b_X_isVersion 2 (some .boolean) (rk 1) D tys wf [.int a0, .int a1] u (f_X_isVersion a0 a1) u := ct_ofI (by decide) (Nat.le_of_ble_eq_true rfl) (fun γ _ _ C hQ => w_X_isVersion C hQ a0 a1 rfl)
-- ---- PackagePick.placeOf(I)I
def f_X_placeOf (a0 : Int32) : Int32 :=
  (((6 : Int32) - a0) * (4 : Int32))
set_option maxRecDepth 100000 in
set_option maxHeartbeats 4000000 in
theorem w_X_placeOf {γ : CX} {S : Type} {wf : S → va_W} {tys : Tys} {u : S} {r0 : Int32} (C : Cx γ b_X_placeOf 1 (some .int) "PackagePick" (rk 0) tys) (hQ : QI γ tys wf r0 u) (a0 : Int32) (hf : f_X_placeOf a0 = r0) : AtG γ wf 1 0 0 0 [(0, .int a0)] [] u := by
  unfold f_X_placeOf at hf
  refine x_bipush (v := 6) C d_X_placeOf_0 (by decide) ?_
  refine x_iload_n C d_X_placeOf_2 rfl (k := 0) rfl ?_
  refine x_isub C d_X_placeOf_3 ?_
  refine x_iconst (v := 4) C d_X_placeOf_4 (by decide) ?_
  refine x_imul C d_X_placeOf_5 ?_
  exact x_iret C hQ hf rfl d_X_placeOf_6
theorem c_X_placeOf {S : Type} {l : Launch} {D : va_G} {tys : Tys} {wf : S → va_W} {u : S} (a0 : Int32) : CtI l y_X_placeOf b_X_placeOf 1 (some .int) (rk 0) D tys wf [.int a0] u (f_X_placeOf a0) u := ct_ofI (by decide) (Nat.le_of_ble_eq_true rfl) (fun γ _ _ C hQ => w_X_placeOf C hQ a0 rfl)
-- ---- PackagePick.slotOf(II)I
def f_X_slotOf (a0 : Int32) (a1 : Int32) : Int32 :=
  ((f_X_placeOf a0) + a1)
set_option maxRecDepth 100000 in
set_option maxHeartbeats 4000000 in
theorem w_X_slotOf {γ : CX} {S : Type} {wf : S → va_W} {tys : Tys} {u : S} {r0 : Int32} (C : Cx γ b_X_slotOf 2 (some .int) "PackagePick" (rk 1) tys) (hQ : QI γ tys wf r0 u) (a0 : Int32) (a1 : Int32) (hf : f_X_slotOf a0 a1 = r0) : AtG γ wf 2 0 0 0 [(0, .int a0), (1, .int a1)] [] u := by
  unfold f_X_slotOf at hf
  refine x_iload_n C d_X_slotOf_0 rfl (k := 0) rfl ?_
  refine x_callIs (rest := []) C (c_X_placeOf a0) kc_X_placeOf (rok (by decide) (by decide)) mm_X_119 ms_X_placeOf rfl rfl (Nat.le_of_ble_eq_true rfl) d_X_slotOf_1 ?_
  refine x_iload_n C d_X_slotOf_4 rfl (k := 1) rfl ?_
  refine x_iadd C d_X_slotOf_5 ?_
  exact x_iret C hQ hf rfl d_X_slotOf_6
theorem c_X_slotOf {S : Type} {l : Launch} {D : va_G} {tys : Tys} {wf : S → va_W} {u : S} (a0 : Int32) (a1 : Int32) : CtI l y_X_slotOf b_X_slotOf 2 (some .int) (rk 1) D tys wf [.int a0, .int a1] u (f_X_slotOf a0 a1) u := ct_ofI (by decide) (Nat.le_of_ble_eq_true rfl) (fun γ _ _ C hQ => w_X_slotOf C hQ a0 a1 rfl)
-- ---- PackagePick.version(II)Z
def f_X_version (a1 : Int32) (a2 : Int32) (u : PS) : Int32 × PS :=
  if (f_X_isVersion a1 a2) = 0 then
    ((0 : Int32), u)
  else
    if (f_C_add (f_X_slotOf a1 a2) u).1 = 0 then
      ((0 : Int32), (f_C_add (f_X_slotOf a1 a2) u).2)
    else
      ((1 : Int32), (f_C_add (f_X_slotOf a1 a2) u).2)
set_option maxRecDepth 100000 in
set_option maxHeartbeats 4000000 in
theorem w_X_version {γ : CX} {cI : ClassId} {h : Nat → Nat} {r0 : Int32} {u0 : PS} (C : Cx γ b_X_version 3 (some .boolean) "PackagePick" (rk 3) [(cI, .int)]) (hQ : QI γ [(cI, .int)] (WX cI h) r0 u0) (a1 : Int32) (a2 : Int32) (u : PS) (hf : f_X_version a1 a2 u = (r0, u0)) : AtG γ (WX cI h) 3 0 0 0 [(0, .ref (h 0)), (1, .int a1), (2, .int a2)] [] u := by
  unfold f_X_version at hf
  refine x_iload_n C d_X_version_0 rfl (k := 1) rfl ?_
  refine x_iload_n C d_X_version_1 rfl (k := 2) rfl ?_
  refine x_callIs (rest := []) C (c_X_isVersion a1 a2) kc_X_isVersion (rok (by decide) (by decide)) mm_X_40 ms_X_isVersion rfl rfl (Nat.le_of_ble_eq_true rfl) d_X_version_2 ?_
  refine x_if_eq (tgt := 27) C d_X_version_5 (by decide) (fun hc => ?_) (fun hc => ?_)
  · rw [if_pos hc] at hf
    refine x_iconst (v := 0) C d_X_version_27 (by decide) ?_
    exact x_zret C hQ rfl (Prod.mk.inj hf).1 (Prod.mk.inj hf).2 d_X_version_28
  · rw [if_neg hc] at hf
    refine x_aload_n C d_X_version_8 rfl (k := 0) rfl ?_
    refine gX_X_catalog C mf_X_12 d_X_version_9 ?_
    refine x_iload_n C d_X_version_12 rfl (k := 1) rfl ?_
    refine x_iload_n C d_X_version_13 rfl (k := 2) rfl ?_
    refine x_callIs (rest := [.ref (h 1)]) C (c_X_slotOf a1 a2) kc_X_slotOf (rok (by decide) (by decide)) mm_X_44 ms_X_slotOf rfl rfl (Nat.le_of_ble_eq_true rfl) d_X_version_14 ?_
    refine x_callIv (q0 := 1) (ci := 0) (rest := []) C (c_C_add (f_X_slotOf a1 a2) u) kc_C_add (rok (by decide) (by decide)) mm_X_48 ms_C_add ml_C_add rfl rfl rfl rfl (Nat.le_of_ble_eq_true rfl) d_X_version_17 ?_
    refine x_if_eq (tgt := 27) C d_X_version_20 (by decide) (fun hc => ?_) (fun hc => ?_)
    · rw [if_pos hc] at hf
      refine x_iconst (v := 0) C d_X_version_27 (by decide) ?_
      exact x_zret C hQ rfl (Prod.mk.inj hf).1 (Prod.mk.inj hf).2 d_X_version_28
    · rw [if_neg hc] at hf
      refine x_iconst (v := 1) C d_X_version_23 (by decide) ?_
      refine x_goto (tgt := 28) C d_X_version_24 (by decide) ?_
      exact x_zret C hQ rfl (Prod.mk.inj hf).1 (Prod.mk.inj hf).2 d_X_version_28
theorem c_X_version {l : Launch} {D : va_G} {cI : ClassId} {h : Nat → Nat} (a1 : Int32) (a2 : Int32) (u : PS) : CtI l y_X_version b_X_version 3 (some .boolean) (rk 3) D [(cI, .int)] (WX cI h) [.ref (h 0), .int a1, .int a2] u (f_X_version a1 a2 u).1 (f_X_version a1 a2 u).2 := ct_ofI (by decide) (Nat.le_of_ble_eq_true rfl) (fun γ _ _ C hQ => w_X_version C hQ a1 a2 u rfl)
-- ---- PackagePick.isNeed(III)Z
def f_X_isNeed (a0 : Int32) (a1 : Int32) (a2 : Int32) : Int32 :=
  if (f_X_isVersion a0 a1) = 0 then
    (0 : Int32)
  else
    if (f_X_isVersion a0 a2) = 0 then
      (0 : Int32)
    else
      if a2 < a1 then
        (0 : Int32)
      else
        (1 : Int32)
set_option maxRecDepth 100000 in
set_option maxHeartbeats 4000000 in
theorem w_X_isNeed {γ : CX} {S : Type} {wf : S → va_W} {tys : Tys} {u : S} {r0 : Int32} (C : Cx γ b_X_isNeed 3 (some .boolean) "PackagePick" (rk 2) tys) (hQ : QI γ tys wf r0 u) (a0 : Int32) (a1 : Int32) (a2 : Int32) (hf : f_X_isNeed a0 a1 a2 = r0) : AtG γ wf 3 0 0 0 [(0, .int a0), (1, .int a1), (2, .int a2)] [] u := by
  unfold f_X_isNeed at hf
  refine x_iload_n C d_X_isNeed_0 rfl (k := 0) rfl ?_
  refine x_iload_n C d_X_isNeed_1 rfl (k := 1) rfl ?_
  refine x_callIs (rest := []) C (c_X_isVersion a0 a1) kc_X_isVersion (rok (by decide) (by decide)) mm_X_40 ms_X_isVersion rfl rfl (Nat.le_of_ble_eq_true rfl) d_X_isNeed_2 ?_
  refine x_if_eq (tgt := 25) C d_X_isNeed_5 (by decide) (fun hc => ?_) (fun hc => ?_)
  · rw [if_pos hc] at hf
    refine x_iconst (v := 0) C d_X_isNeed_25 (by decide) ?_
    exact x_zret C hQ rfl hf rfl d_X_isNeed_26
  · rw [if_neg hc] at hf
    refine x_iload_n C d_X_isNeed_8 rfl (k := 0) rfl ?_
    refine x_iload_n C d_X_isNeed_9 rfl (k := 2) rfl ?_
    refine x_callIs (rest := []) C (c_X_isVersion a0 a2) kc_X_isVersion (rok (by decide) (by decide)) mm_X_40 ms_X_isVersion rfl rfl (Nat.le_of_ble_eq_true rfl) d_X_isNeed_10 ?_
    refine x_if_eq (tgt := 25) C d_X_isNeed_13 (by decide) (fun hc => ?_) (fun hc => ?_)
    · rw [if_pos hc] at hf
      refine x_iconst (v := 0) C d_X_isNeed_25 (by decide) ?_
      exact x_zret C hQ rfl hf rfl d_X_isNeed_26
    · rw [if_neg hc] at hf
      refine x_iload_n C d_X_isNeed_16 rfl (k := 1) rfl ?_
      refine x_iload_n C d_X_isNeed_17 rfl (k := 2) rfl ?_
      refine x_icmp_gt (tgt := 25) C d_X_isNeed_18 (by decide) (fun hc => ?_) (fun hc => ?_)
      · rw [if_pos hc] at hf
        refine x_iconst (v := 0) C d_X_isNeed_25 (by decide) ?_
        exact x_zret C hQ rfl hf rfl d_X_isNeed_26
      · rw [if_neg hc] at hf
        refine x_iconst (v := 1) C d_X_isNeed_21 (by decide) ?_
        refine x_goto (tgt := 26) C d_X_isNeed_22 (by decide) ?_
        exact x_zret C hQ rfl hf rfl d_X_isNeed_26
theorem c_X_isNeed {S : Type} {l : Launch} {D : va_G} {tys : Tys} {wf : S → va_W} {u : S} (a0 : Int32) (a1 : Int32) (a2 : Int32) : CtI l y_X_isNeed b_X_isNeed 3 (some .boolean) (rk 2) D tys wf [.int a0, .int a1, .int a2] u (f_X_isNeed a0 a1 a2) u := ct_ofI (by decide) (Nat.le_of_ble_eq_true rfl) (fun γ _ _ C hQ => w_X_isNeed C hQ a0 a1 a2 rfl)
-- ---- PackagePick.markOf(I)I
def f_X_markOf (a0 : Int32) : Int32 :=
  ((1 : Int32) <<< ((f_X_placeOf a0) &&& 31))
set_option maxRecDepth 100000 in
set_option maxHeartbeats 4000000 in
theorem w_X_markOf {γ : CX} {S : Type} {wf : S → va_W} {tys : Tys} {u : S} {r0 : Int32} (C : Cx γ b_X_markOf 1 (some .int) "PackagePick" (rk 1) tys) (hQ : QI γ tys wf r0 u) (a0 : Int32) (hf : f_X_markOf a0 = r0) : AtG γ wf 1 0 0 0 [(0, .int a0)] [] u := by
  unfold f_X_markOf at hf
  refine x_iconst (v := 1) C d_X_markOf_0 (by decide) ?_
  refine x_iload_n C d_X_markOf_1 rfl (k := 0) rfl ?_
  refine x_callIs (rest := [.int (1 : Int32)]) C (c_X_placeOf a0) kc_X_placeOf (rok (by decide) (by decide)) mm_X_119 ms_X_placeOf rfl rfl (Nat.le_of_ble_eq_true rfl) d_X_markOf_2 ?_
  refine x_ishl C d_X_markOf_5 ?_
  exact x_iret C hQ hf rfl d_X_markOf_6
theorem c_X_markOf {S : Type} {l : Launch} {D : va_G} {tys : Tys} {wf : S → va_W} {u : S} (a0 : Int32) : CtI l y_X_markOf b_X_markOf 1 (some .int) (rk 1) D tys wf [.int a0] u (f_X_markOf a0) u := ct_ofI (by decide) (Nat.le_of_ble_eq_true rfl) (fun γ _ _ C hQ => w_X_markOf C hQ a0 rfl)
-- ---- PackagePick.outside(III)I
def f_X_outside (a0 : Int32) (a1 : Int32) (a2 : Int32) : Int32 :=
  (((15 : Int32) &&& ((((1 : Int32) <<< ((a2 + (1 : Int32)) &&& 31)) - ((1 : Int32) <<< (a1 &&& 31))) ^^^ (-1 : Int32))) <<< ((f_X_placeOf a0) &&& 31))
set_option maxRecDepth 100000 in
set_option maxHeartbeats 4000000 in
theorem w_X_outside {γ : CX} {S : Type} {wf : S → va_W} {tys : Tys} {u : S} {r0 : Int32} (C : Cx γ b_X_outside 4 (some .int) "PackagePick" (rk 1) tys) (hQ : QI γ tys wf r0 u) (a0 : Int32) (a1 : Int32) (a2 : Int32) (hf : f_X_outside a0 a1 a2 = r0) : AtG γ wf 4 0 0 0 [(0, .int a0), (1, .int a1), (2, .int a2)] [] u := by
  unfold f_X_outside at hf
  refine x_iconst (v := 1) C d_X_outside_0 (by decide) ?_
  refine x_iload_n C d_X_outside_1 rfl (k := 2) rfl ?_
  refine x_iconst (v := 1) C d_X_outside_2 (by decide) ?_
  refine x_iadd C d_X_outside_3 ?_
  refine x_ishl C d_X_outside_4 ?_
  refine x_iconst (v := 1) C d_X_outside_5 (by decide) ?_
  refine x_iload_n C d_X_outside_6 rfl (k := 1) rfl ?_
  refine x_ishl C d_X_outside_7 ?_
  refine x_isub C d_X_outside_8 ?_
  refine x_istore_n (lv' := [(3, .int (((1 : Int32) <<< ((a2 + (1 : Int32)) &&& 31)) - ((1 : Int32) <<< (a1 &&& 31)))), (0, .int a0), (1, .int a1), (2, .int a2)]) C d_X_outside_9 rfl (by decide) rfl ?_
  refine x_bipush (v := 15) C d_X_outside_10 (by decide) ?_
  refine x_iload_n C d_X_outside_12 rfl (k := 0) rfl ?_
  refine x_iconst (v := -1) C d_X_outside_13 (by decide) ?_
  refine x_ixor C d_X_outside_14 ?_
  refine x_iand C d_X_outside_15 ?_
  refine x_iload_n C d_X_outside_16 rfl (k := 1) rfl ?_
  refine x_callIs (rest := [.int ((15 : Int32) &&& ((((1 : Int32) <<< ((a2 + (1 : Int32)) &&& 31)) - ((1 : Int32) <<< (a1 &&& 31))) ^^^ (-1 : Int32)))]) C (c_X_placeOf a0) kc_X_placeOf (rok (by decide) (by decide)) mm_X_119 ms_X_placeOf rfl rfl (Nat.le_of_ble_eq_true rfl) d_X_outside_17 ?_
  refine x_ishl C d_X_outside_20 ?_
  exact x_iret C hQ hf rfl d_X_outside_21
theorem c_X_outside {S : Type} {l : Launch} {D : va_G} {tys : Tys} {wf : S → va_W} {u : S} (a0 : Int32) (a1 : Int32) (a2 : Int32) : CtI l y_X_outside b_X_outside 4 (some .int) (rk 1) D tys wf [.int a0, .int a1, .int a2] u (f_X_outside a0 a1 a2) u := ct_ofI (by decide) (Nat.le_of_ble_eq_true rfl) (fun γ _ _ C hQ => w_X_outside C hQ a0 a1 a2 rfl)
-- ---- PackagePick.need(IIIII)Z
def f_X_need (a1 : Int32) (a2 : Int32) (a3 : Int32) (a4 : Int32) (a5 : Int32) (u : PS) : Option (Int32 × PS) :=
  if (f_X_isVersion a1 a2) = 0 then
    some ((0 : Int32), u)
  else
    if (f_X_isNeed a3 a4 a5) = 0 then
      some ((0 : Int32), u)
    else
      (f_C_addNeed (f_X_slotOf a1 a2) (f_X_markOf a3) (f_X_outside a3 a4 a5) u).bind fun r6 =>
      if r6.1 = 0 then
        some ((0 : Int32), r6.2)
      else
        some ((1 : Int32), r6.2)
set_option maxRecDepth 100000 in
set_option maxHeartbeats 4000000 in
theorem w_X_need {γ : CX} {cI : ClassId} {h : Nat → Nat} {r0 : Int32} {u0 : PS} (C : Cx γ b_X_need 6 (some .boolean) "PackagePick" (rk 3) [(cI, .int)]) (hQ : QI γ [(cI, .int)] (WX cI h) r0 u0) (a1 : Int32) (a2 : Int32) (a3 : Int32) (a4 : Int32) (a5 : Int32) (u : PS) (hf : f_X_need a1 a2 a3 a4 a5 u = some (r0, u0)) : AtG γ (WX cI h) 6 0 0 0 [(0, .ref (h 0)), (1, .int a1), (2, .int a2), (3, .int a3), (4, .int a4), (5, .int a5)] [] u := by
  unfold f_X_need at hf
  refine x_iload_n C d_X_need_0 rfl (k := 1) rfl ?_
  refine x_iload_n C d_X_need_1 rfl (k := 2) rfl ?_
  refine x_callIs (rest := []) C (c_X_isVersion a1 a2) kc_X_isVersion (rok (by decide) (by decide)) mm_X_40 ms_X_isVersion rfl rfl (Nat.le_of_ble_eq_true rfl) d_X_need_2 ?_
  refine x_if_eq (tgt := 50) C d_X_need_5 (by decide) (fun hc => ?_) (fun hc => ?_)
  · rw [if_pos hc] at hf
    refine x_iconst (v := 0) C d_X_need_50 (by decide) ?_
    exact x_zret C hQ rfl (Prod.mk.inj (Option.some.inj hf)).1 (Prod.mk.inj (Option.some.inj hf)).2 d_X_need_51
  · rw [if_neg hc] at hf
    refine x_iload_n C d_X_need_8 rfl (k := 3) rfl ?_
    refine x_iload C d_X_need_9 (k := 4) rfl ?_
    refine x_iload C d_X_need_11 (k := 5) rfl ?_
    refine x_callIs (rest := []) C (c_X_isNeed a3 a4 a5) kc_X_isNeed (rok (by decide) (by decide)) mm_X_52 ms_X_isNeed rfl rfl (Nat.le_of_ble_eq_true rfl) d_X_need_13 ?_
    refine x_if_eq (tgt := 50) C d_X_need_16 (by decide) (fun hc => ?_) (fun hc => ?_)
    · rw [if_pos hc] at hf
      refine x_iconst (v := 0) C d_X_need_50 (by decide) ?_
      exact x_zret C hQ rfl (Prod.mk.inj (Option.some.inj hf)).1 (Prod.mk.inj (Option.some.inj hf)).2 d_X_need_51
    · rw [if_neg hc] at hf
      refine x_aload_n C d_X_need_19 rfl (k := 0) rfl ?_
      refine gX_X_catalog C mf_X_12 d_X_need_20 ?_
      refine x_iload_n C d_X_need_23 rfl (k := 1) rfl ?_
      refine x_iload_n C d_X_need_24 rfl (k := 2) rfl ?_
      refine x_callIs (rest := [.ref (h 1)]) C (c_X_slotOf a1 a2) kc_X_slotOf (rok (by decide) (by decide)) mm_X_44 ms_X_slotOf rfl rfl (Nat.le_of_ble_eq_true rfl) d_X_need_25 ?_
      refine x_iload_n C d_X_need_28 rfl (k := 3) rfl ?_
      refine x_callIs (rest := [.int (f_X_slotOf a1 a2), .ref (h 1)]) C (c_X_markOf a3) kc_X_markOf (rok (by decide) (by decide)) mm_X_56 ms_X_markOf rfl rfl (Nat.le_of_ble_eq_true rfl) d_X_need_29 ?_
      refine x_iload_n C d_X_need_32 rfl (k := 3) rfl ?_
      refine x_iload C d_X_need_33 (k := 4) rfl ?_
      refine x_iload C d_X_need_35 (k := 5) rfl ?_
      refine x_callIs (rest := [.int (f_X_markOf a3), .int (f_X_slotOf a1 a2), .ref (h 1)]) C (c_X_outside a3 a4 a5) kc_X_outside (rok (by decide) (by decide)) mm_X_60 ms_X_outside rfl rfl (Nat.le_of_ble_eq_true rfl) d_X_need_37 ?_
      obtain ⟨r6, hc6, hf⟩ := Option.bind_eq_some_iff.mp hf
      refine x_callIv (q0 := 1) (ci := 0) (rest := []) C (c_C_addNeed (f_X_slotOf a1 a2) (f_X_markOf a3) (f_X_outside a3 a4 a5) u hc6) kc_C_addNeed (rok (by decide) (by decide)) mm_X_64 ms_C_addNeed ml_C_addNeed rfl rfl rfl rfl (Nat.le_of_ble_eq_true rfl) d_X_need_40 ?_
      refine x_if_eq (tgt := 50) C d_X_need_43 (by decide) (fun hc => ?_) (fun hc => ?_)
      · rw [if_pos hc] at hf
        refine x_iconst (v := 0) C d_X_need_50 (by decide) ?_
        exact x_zret C hQ rfl (Prod.mk.inj (Option.some.inj hf)).1 (Prod.mk.inj (Option.some.inj hf)).2 d_X_need_51
      · rw [if_neg hc] at hf
        refine x_iconst (v := 1) C d_X_need_46 (by decide) ?_
        refine x_goto (tgt := 51) C d_X_need_47 (by decide) ?_
        exact x_zret C hQ rfl (Prod.mk.inj (Option.some.inj hf)).1 (Prod.mk.inj (Option.some.inj hf)).2 d_X_need_51
theorem c_X_need {l : Launch} {D : va_G} {cI : ClassId} {h : Nat → Nat} (a1 : Int32) (a2 : Int32) (a3 : Int32) (a4 : Int32) (a5 : Int32) (u : PS) {r0 : Int32 × PS} (hf : f_X_need a1 a2 a3 a4 a5 u = some r0) : CtI l y_X_need b_X_need 6 (some .boolean) (rk 3) D [(cI, .int)] (WX cI h) [.ref (h 0), .int a1, .int a2, .int a3, .int a4, .int a5] u r0.1 r0.2 := ct_ofI (by decide) (Nat.le_of_ble_eq_true rfl) (fun γ _ _ C hQ => w_X_need C hQ a1 a2 a3 a4 a5 u hf)
-- ---- PackagePick.drop(II)Z
def f_X_drop (a1 : Int32) (a2 : Int32) (u : PS) : Option (Int32 × PS) :=
  if (f_X_isVersion a1 a2) = 0 then
    some ((0 : Int32), u)
  else
    (f_C_remove (f_X_slotOf a1 a2) u).bind fun r3 =>
    if r3.1 = 0 then
      some ((0 : Int32), r3.2)
    else
      some ((1 : Int32), r3.2)
set_option maxRecDepth 100000 in
set_option maxHeartbeats 4000000 in
theorem w_X_drop {γ : CX} {cI : ClassId} {h : Nat → Nat} {r0 : Int32} {u0 : PS} (C : Cx γ b_X_drop 3 (some .boolean) "PackagePick" (rk 3) [(cI, .int)]) (hQ : QI γ [(cI, .int)] (WX cI h) r0 u0) (a1 : Int32) (a2 : Int32) (u : PS) (hf : f_X_drop a1 a2 u = some (r0, u0)) : AtG γ (WX cI h) 3 0 0 0 [(0, .ref (h 0)), (1, .int a1), (2, .int a2)] [] u := by
  unfold f_X_drop at hf
  refine x_iload_n C d_X_drop_0 rfl (k := 1) rfl ?_
  refine x_iload_n C d_X_drop_1 rfl (k := 2) rfl ?_
  refine x_callIs (rest := []) C (c_X_isVersion a1 a2) kc_X_isVersion (rok (by decide) (by decide)) mm_X_40 ms_X_isVersion rfl rfl (Nat.le_of_ble_eq_true rfl) d_X_drop_2 ?_
  refine x_if_eq (tgt := 27) C d_X_drop_5 (by decide) (fun hc => ?_) (fun hc => ?_)
  · rw [if_pos hc] at hf
    refine x_iconst (v := 0) C d_X_drop_27 (by decide) ?_
    exact x_zret C hQ rfl (Prod.mk.inj (Option.some.inj hf)).1 (Prod.mk.inj (Option.some.inj hf)).2 d_X_drop_28
  · rw [if_neg hc] at hf
    refine x_aload_n C d_X_drop_8 rfl (k := 0) rfl ?_
    refine gX_X_catalog C mf_X_12 d_X_drop_9 ?_
    refine x_iload_n C d_X_drop_12 rfl (k := 1) rfl ?_
    refine x_iload_n C d_X_drop_13 rfl (k := 2) rfl ?_
    refine x_callIs (rest := [.ref (h 1)]) C (c_X_slotOf a1 a2) kc_X_slotOf (rok (by decide) (by decide)) mm_X_44 ms_X_slotOf rfl rfl (Nat.le_of_ble_eq_true rfl) d_X_drop_14 ?_
    obtain ⟨r3, hc3, hf⟩ := Option.bind_eq_some_iff.mp hf
    refine x_callIv (q0 := 1) (ci := 0) (rest := []) C (c_C_remove (f_X_slotOf a1 a2) u hc3) kc_C_remove (rok (by decide) (by decide)) mm_X_67 ms_C_remove ml_C_remove rfl rfl rfl rfl (Nat.le_of_ble_eq_true rfl) d_X_drop_17 ?_
    refine x_if_eq (tgt := 27) C d_X_drop_20 (by decide) (fun hc => ?_) (fun hc => ?_)
    · rw [if_pos hc] at hf
      refine x_iconst (v := 0) C d_X_drop_27 (by decide) ?_
      exact x_zret C hQ rfl (Prod.mk.inj (Option.some.inj hf)).1 (Prod.mk.inj (Option.some.inj hf)).2 d_X_drop_28
    · rw [if_neg hc] at hf
      refine x_iconst (v := 1) C d_X_drop_23 (by decide) ?_
      refine x_goto (tgt := 28) C d_X_drop_24 (by decide) ?_
      exact x_zret C hQ rfl (Prod.mk.inj (Option.some.inj hf)).1 (Prod.mk.inj (Option.some.inj hf)).2 d_X_drop_28
theorem c_X_drop {l : Launch} {D : va_G} {cI : ClassId} {h : Nat → Nat} (a1 : Int32) (a2 : Int32) (u : PS) {r0 : Int32 × PS} (hf : f_X_drop a1 a2 u = some r0) : CtI l y_X_drop b_X_drop 3 (some .boolean) (rk 3) D [(cI, .int)] (WX cI h) [.ref (h 0), .int a1, .int a2] u r0.1 r0.2 := ct_ofI (by decide) (Nat.le_of_ble_eq_true rfl) (fun γ _ _ C hQ => w_X_drop C hQ a1 a2 u hf)
-- ---- PackagePick.ban(IIII)Z
def f_X_ban (a1 : Int32) (a2 : Int32) (a3 : Int32) (a4 : Int32) (u : PS) : Option (Int32 × PS) :=
  if (f_X_isVersion a1 a2) = 0 then
    some ((0 : Int32), u)
  else
    if (f_X_isVersion a3 a4) = 0 then
      some ((0 : Int32), u)
    else
      if a1 = a3 then
        some ((0 : Int32), u)
      else
        (f_C_addBan (f_X_slotOf a1 a2) (f_X_slotOf a3 a4) u).bind fun r5 =>
        if r5.1 = 0 then
          some ((0 : Int32), r5.2)
        else
          some ((1 : Int32), r5.2)
set_option maxRecDepth 100000 in
set_option maxHeartbeats 4000000 in
theorem w_X_ban {γ : CX} {cI : ClassId} {h : Nat → Nat} {r0 : Int32} {u0 : PS} (C : Cx γ b_X_ban 5 (some .boolean) "PackagePick" (rk 2) [(cI, .int)]) (hQ : QI γ [(cI, .int)] (WX cI h) r0 u0) (a1 : Int32) (a2 : Int32) (a3 : Int32) (a4 : Int32) (u : PS) (hf : f_X_ban a1 a2 a3 a4 u = some (r0, u0)) : AtG γ (WX cI h) 5 0 0 0 [(0, .ref (h 0)), (1, .int a1), (2, .int a2), (3, .int a3), (4, .int a4)] [] u := by
  unfold f_X_ban at hf
  refine x_iload_n C d_X_ban_0 rfl (k := 1) rfl ?_
  refine x_iload_n C d_X_ban_1 rfl (k := 2) rfl ?_
  refine x_callIs (rest := []) C (c_X_isVersion a1 a2) kc_X_isVersion (rok (by decide) (by decide)) mm_X_40 ms_X_isVersion rfl rfl (Nat.le_of_ble_eq_true rfl) d_X_ban_2 ?_
  refine x_if_eq (tgt := 47) C d_X_ban_5 (by decide) (fun hc => ?_) (fun hc => ?_)
  · rw [if_pos hc] at hf
    refine x_iconst (v := 0) C d_X_ban_47 (by decide) ?_
    exact x_zret C hQ rfl (Prod.mk.inj (Option.some.inj hf)).1 (Prod.mk.inj (Option.some.inj hf)).2 d_X_ban_48
  · rw [if_neg hc] at hf
    refine x_iload_n C d_X_ban_8 rfl (k := 3) rfl ?_
    refine x_iload C d_X_ban_9 (k := 4) rfl ?_
    refine x_callIs (rest := []) C (c_X_isVersion a3 a4) kc_X_isVersion (rok (by decide) (by decide)) mm_X_40 ms_X_isVersion rfl rfl (Nat.le_of_ble_eq_true rfl) d_X_ban_11 ?_
    refine x_if_eq (tgt := 47) C d_X_ban_14 (by decide) (fun hc => ?_) (fun hc => ?_)
    · rw [if_pos hc] at hf
      refine x_iconst (v := 0) C d_X_ban_47 (by decide) ?_
      exact x_zret C hQ rfl (Prod.mk.inj (Option.some.inj hf)).1 (Prod.mk.inj (Option.some.inj hf)).2 d_X_ban_48
    · rw [if_neg hc] at hf
      refine x_iload_n C d_X_ban_17 rfl (k := 1) rfl ?_
      refine x_iload_n C d_X_ban_18 rfl (k := 3) rfl ?_
      refine x_icmp_eq (tgt := 47) C d_X_ban_19 (by decide) (fun hc => ?_) (fun hc => ?_)
      · rw [if_pos hc] at hf
        refine x_iconst (v := 0) C d_X_ban_47 (by decide) ?_
        exact x_zret C hQ rfl (Prod.mk.inj (Option.some.inj hf)).1 (Prod.mk.inj (Option.some.inj hf)).2 d_X_ban_48
      · rw [if_neg hc] at hf
        refine x_aload_n C d_X_ban_22 rfl (k := 0) rfl ?_
        refine gX_X_catalog C mf_X_12 d_X_ban_23 ?_
        refine x_iload_n C d_X_ban_26 rfl (k := 1) rfl ?_
        refine x_iload_n C d_X_ban_27 rfl (k := 2) rfl ?_
        refine x_callIs (rest := [.ref (h 1)]) C (c_X_slotOf a1 a2) kc_X_slotOf (rok (by decide) (by decide)) mm_X_44 ms_X_slotOf rfl rfl (Nat.le_of_ble_eq_true rfl) d_X_ban_28 ?_
        refine x_iload_n C d_X_ban_31 rfl (k := 3) rfl ?_
        refine x_iload C d_X_ban_32 (k := 4) rfl ?_
        refine x_callIs (rest := [.int (f_X_slotOf a1 a2), .ref (h 1)]) C (c_X_slotOf a3 a4) kc_X_slotOf (rok (by decide) (by decide)) mm_X_44 ms_X_slotOf rfl rfl (Nat.le_of_ble_eq_true rfl) d_X_ban_34 ?_
        obtain ⟨r5, hc5, hf⟩ := Option.bind_eq_some_iff.mp hf
        refine x_callIv (q0 := 1) (ci := 0) (rest := []) C (c_C_addBan (f_X_slotOf a1 a2) (f_X_slotOf a3 a4) u hc5) kc_C_addBan (rok (by decide) (by decide)) mm_X_70 ms_C_addBan ml_C_addBan rfl rfl rfl rfl (Nat.le_of_ble_eq_true rfl) d_X_ban_37 ?_
        refine x_if_eq (tgt := 47) C d_X_ban_40 (by decide) (fun hc => ?_) (fun hc => ?_)
        · rw [if_pos hc] at hf
          refine x_iconst (v := 0) C d_X_ban_47 (by decide) ?_
          exact x_zret C hQ rfl (Prod.mk.inj (Option.some.inj hf)).1 (Prod.mk.inj (Option.some.inj hf)).2 d_X_ban_48
        · rw [if_neg hc] at hf
          refine x_iconst (v := 1) C d_X_ban_43 (by decide) ?_
          refine x_goto (tgt := 48) C d_X_ban_44 (by decide) ?_
          exact x_zret C hQ rfl (Prod.mk.inj (Option.some.inj hf)).1 (Prod.mk.inj (Option.some.inj hf)).2 d_X_ban_48
theorem c_X_ban {l : Launch} {D : va_G} {cI : ClassId} {h : Nat → Nat} (a1 : Int32) (a2 : Int32) (a3 : Int32) (a4 : Int32) (u : PS) {r0 : Int32 × PS} (hf : f_X_ban a1 a2 a3 a4 u = some r0) : CtI l y_X_ban b_X_ban 5 (some .boolean) (rk 2) D [(cI, .int)] (WX cI h) [.ref (h 0), .int a1, .int a2, .int a3, .int a4] u r0.1 r0.2 := ct_ofI (by decide) (Nat.le_of_ble_eq_true rfl) (fun γ _ _ C hQ => w_X_ban C hQ a1 a2 a3 a4 u hf)
-- ---- PackagePick.ask(III)Z
def f_X_ask (a1 : Int32) (a2 : Int32) (a3 : Int32) (u : PS) : Option (Int32 × PS) :=
  if (f_X_isNeed a1 a2 a3) = 0 then
    some ((0 : Int32), u)
  else
    (f_W_add (f_X_markOf a1) (f_X_outside a1 a2 a3) u).bind fun r4 =>
    if r4.1 = 0 then
      some ((0 : Int32), r4.2)
    else
      some ((1 : Int32), r4.2)
set_option maxRecDepth 100000 in
set_option maxHeartbeats 4000000 in
theorem w_X_ask {γ : CX} {cI : ClassId} {h : Nat → Nat} {r0 : Int32} {u0 : PS} (C : Cx γ b_X_ask 4 (some .boolean) "PackagePick" (rk 3) [(cI, .int)]) (hQ : QI γ [(cI, .int)] (WX cI h) r0 u0) (a1 : Int32) (a2 : Int32) (a3 : Int32) (u : PS) (hf : f_X_ask a1 a2 a3 u = some (r0, u0)) : AtG γ (WX cI h) 4 0 0 0 [(0, .ref (h 0)), (1, .int a1), (2, .int a2), (3, .int a3)] [] u := by
  unfold f_X_ask at hf
  refine x_iload_n C d_X_ask_0 rfl (k := 1) rfl ?_
  refine x_iload_n C d_X_ask_1 rfl (k := 2) rfl ?_
  refine x_iload_n C d_X_ask_2 rfl (k := 3) rfl ?_
  refine x_callIs (rest := []) C (c_X_isNeed a1 a2 a3) kc_X_isNeed (rok (by decide) (by decide)) mm_X_52 ms_X_isNeed rfl rfl (Nat.le_of_ble_eq_true rfl) d_X_ask_3 ?_
  refine x_if_eq (tgt := 33) C d_X_ask_6 (by decide) (fun hc => ?_) (fun hc => ?_)
  · rw [if_pos hc] at hf
    refine x_iconst (v := 0) C d_X_ask_33 (by decide) ?_
    exact x_zret C hQ rfl (Prod.mk.inj (Option.some.inj hf)).1 (Prod.mk.inj (Option.some.inj hf)).2 d_X_ask_34
  · rw [if_neg hc] at hf
    refine x_aload_n C d_X_ask_9 rfl (k := 0) rfl ?_
    refine gX_X_wishes C mf_X_19 d_X_ask_10 ?_
    refine x_iload_n C d_X_ask_13 rfl (k := 1) rfl ?_
    refine x_callIs (rest := [.ref (h 2)]) C (c_X_markOf a1) kc_X_markOf (rok (by decide) (by decide)) mm_X_56 ms_X_markOf rfl rfl (Nat.le_of_ble_eq_true rfl) d_X_ask_14 ?_
    refine x_iload_n C d_X_ask_17 rfl (k := 1) rfl ?_
    refine x_iload_n C d_X_ask_18 rfl (k := 2) rfl ?_
    refine x_iload_n C d_X_ask_19 rfl (k := 3) rfl ?_
    refine x_callIs (rest := [.int (f_X_markOf a1), .ref (h 2)]) C (c_X_outside a1 a2 a3) kc_X_outside (rok (by decide) (by decide)) mm_X_60 ms_X_outside rfl rfl (Nat.le_of_ble_eq_true rfl) d_X_ask_20 ?_
    obtain ⟨r4, hc4, hf⟩ := Option.bind_eq_some_iff.mp hf
    refine x_callIv (q0 := 2) (ci := 2) (rest := []) C (c_W_add (f_X_markOf a1) (f_X_outside a1 a2 a3) u hc4) kc_W_add (rok (by decide) (by decide)) mm_X_73 ms_W_add ml_W_add rfl rfl rfl rfl (Nat.le_of_ble_eq_true rfl) d_X_ask_23 ?_
    refine x_if_eq (tgt := 33) C d_X_ask_26 (by decide) (fun hc => ?_) (fun hc => ?_)
    · rw [if_pos hc] at hf
      refine x_iconst (v := 0) C d_X_ask_33 (by decide) ?_
      exact x_zret C hQ rfl (Prod.mk.inj (Option.some.inj hf)).1 (Prod.mk.inj (Option.some.inj hf)).2 d_X_ask_34
    · rw [if_neg hc] at hf
      refine x_iconst (v := 1) C d_X_ask_29 (by decide) ?_
      refine x_goto (tgt := 34) C d_X_ask_30 (by decide) ?_
      exact x_zret C hQ rfl (Prod.mk.inj (Option.some.inj hf)).1 (Prod.mk.inj (Option.some.inj hf)).2 d_X_ask_34
theorem c_X_ask {l : Launch} {D : va_G} {cI : ClassId} {h : Nat → Nat} (a1 : Int32) (a2 : Int32) (a3 : Int32) (u : PS) {r0 : Int32 × PS} (hf : f_X_ask a1 a2 a3 u = some r0) : CtI l y_X_ask b_X_ask 4 (some .boolean) (rk 3) D [(cI, .int)] (WX cI h) [.ref (h 0), .int a1, .int a2, .int a3] u r0.1 r0.2 := ct_ofI (by decide) (Nat.le_of_ble_eq_true rfl) (fun γ _ _ C hQ => w_X_ask C hQ a1 a2 a3 u hf)
-- ---- PackagePick.take(I)Z
def f_X_take (a1 : Int32) (u : PS) : Option (Int32 × PS) :=
  (f_W_remove a1 u).bind fun r1 =>
  ck (isB r1.1) <|
  some (r1.1, r1.2)
set_option maxRecDepth 100000 in
set_option maxHeartbeats 4000000 in
theorem w_X_take {γ : CX} {cI : ClassId} {h : Nat → Nat} {r0 : Int32} {u0 : PS} (C : Cx γ b_X_take 2 (some .boolean) "PackagePick" (rk 1) [(cI, .int)]) (hQ : QI γ [(cI, .int)] (WX cI h) r0 u0) (a1 : Int32) (u : PS) (hf : f_X_take a1 u = some (r0, u0)) : AtG γ (WX cI h) 2 0 0 0 [(0, .ref (h 0)), (1, .int a1)] [] u := by
  unfold f_X_take at hf
  refine x_aload_n C d_X_take_0 rfl (k := 0) rfl ?_
  refine gX_X_wishes C mf_X_19 d_X_take_1 ?_
  refine x_iload_n C d_X_take_4 rfl (k := 1) rfl ?_
  obtain ⟨r1, hc1, hf⟩ := Option.bind_eq_some_iff.mp hf
  refine x_callIv (q0 := 2) (ci := 2) (rest := []) C (c_W_remove a1 u hc1) kc_W_remove (rok (by decide) (by decide)) mm_X_75 ms_W_remove ml_W_remove rfl rfl rfl rfl (Nat.le_of_ble_eq_true rfl) d_X_take_5 ?_
  obtain ⟨hbo, hf⟩ := ck_some hf
  exact x_zret C hQ (isB_nar hbo) (Prod.mk.inj (Option.some.inj hf)).1 (Prod.mk.inj (Option.some.inj hf)).2 d_X_take_8
theorem c_X_take {l : Launch} {D : va_G} {cI : ClassId} {h : Nat → Nat} (a1 : Int32) (u : PS) {r0 : Int32 × PS} (hf : f_X_take a1 u = some r0) : CtI l y_X_take b_X_take 2 (some .boolean) (rk 1) D [(cI, .int)] (WX cI h) [.ref (h 0), .int a1] u r0.1 r0.2 := ct_ofI (by decide) (Nat.le_of_ble_eq_true rfl) (fun γ _ _ C hQ => w_X_take C hQ a1 u hf)
-- ---- PackagePick.differing(II)I
def f_X_differing (a0 : Int32) (a1 : Int32) : Int32 :=
  (f_J_bitCount (f_X_marksOf (a0 ^^^ a1)))
set_option maxRecDepth 100000 in
set_option maxHeartbeats 4000000 in
theorem w_X_differing {γ : CX} {S : Type} {wf : S → va_W} {tys : Tys} {u : S} {r0 : Int32} (C : Cx γ b_X_differing 2 (some .int) "PackagePick" (rk 1) tys) (hQ : QI γ tys wf r0 u) (a0 : Int32) (a1 : Int32) (hf : f_X_differing a0 a1 = r0) : AtG γ wf 2 0 0 0 [(0, .int a0), (1, .int a1)] [] u := by
  unfold f_X_differing at hf
  refine x_iload_n C d_X_differing_0 rfl (k := 0) rfl ?_
  refine x_iload_n C d_X_differing_1 rfl (k := 1) rfl ?_
  refine x_ixor C d_X_differing_2 ?_
  refine x_callIs (rest := []) C (c_X_marksOf (a0 ^^^ a1)) kc_X_marksOf (rok (by decide) (by decide)) mm_X_171 ms_X_marksOf rfl rfl (Nat.le_of_ble_eq_true rfl) d_X_differing_3 ?_
  refine x_callIs (rest := []) C (c_J_bitCount (f_X_marksOf (a0 ^^^ a1))) kc_J_bitCount (rok (by decide) (by decide)) mm_X_102 ms_J_bitCount rfl rfl (Nat.le_of_ble_eq_true rfl) d_X_differing_6 ?_
  exact x_iret C hQ hf rfl d_X_differing_9
theorem c_X_differing {S : Type} {l : Launch} {D : va_G} {tys : Tys} {wf : S → va_W} {u : S} (a0 : Int32) (a1 : Int32) : CtI l y_X_differing b_X_differing 2 (some .int) (rk 1) D tys wf [.int a0, .int a1] u (f_X_differing a0 a1) u := ct_ofI (by decide) (Nat.le_of_ble_eq_true rfl) (fun γ _ _ C hQ => w_X_differing C hQ a0 a1 rfl)
-- ---- PackagePick.keep()I
def f_X_keep (u : PS) : Int32 × PS :=
  ((f_X_differing (u.1 0) (u.1 1)), (si u 1 (u.1 0)))
set_option maxRecDepth 100000 in
set_option maxHeartbeats 4000000 in
theorem w_X_keep {γ : CX} {cI : ClassId} {h : Nat → Nat} {r0 : Int32} {u0 : PS} (C : Cx γ b_X_keep 2 (some .int) "PackagePick" (rk 2) [(cI, .int)]) (hQ : QI γ [(cI, .int)] (WX cI h) r0 u0) (u : PS) (hf : f_X_keep u = (r0, u0)) : AtG γ (WX cI h) 2 0 0 0 [(0, .ref (h 0))] [] u := by
  unfold f_X_keep at hf
  refine x_aload_n C d_X_keep_0 rfl (k := 0) rfl ?_
  refine gX_X_told (v := (u.1 0)) C mf_X_30 rfl d_X_keep_1 ?_
  refine x_aload_n C d_X_keep_4 rfl (k := 0) rfl ?_
  refine gX_X_kept (v := (u.1 1)) C mf_X_34 rfl d_X_keep_5 ?_
  refine x_callIs (rest := []) C (c_X_differing (u.1 0) (u.1 1)) kc_X_differing (rok (by decide) (by decide)) mm_X_107 ms_X_differing rfl rfl (Nat.le_of_ble_eq_true rfl) d_X_keep_8 ?_
  refine x_istore_n (lv' := [(1, .int (f_X_differing (u.1 0) (u.1 1))), (0, .ref (h 0))]) C d_X_keep_11 rfl (by decide) rfl ?_
  refine x_aload_n C d_X_keep_12 rfl (k := 1) rfl ?_
  refine x_aload_n C d_X_keep_13 rfl (k := 1) rfl ?_
  refine gX_X_told (v := (u.1 0)) C mf_X_30 rfl d_X_keep_14 ?_
  refine pX_X_kept C mf_X_34 d_X_keep_17 ?_
  refine x_iload_n C d_X_keep_20 rfl (k := 0) rfl ?_
  exact x_iret C hQ (Prod.mk.inj hf).1 (Prod.mk.inj hf).2 d_X_keep_21
theorem c_X_keep {l : Launch} {D : va_G} {cI : ClassId} {h : Nat → Nat} (u : PS) : CtI l y_X_keep b_X_keep 2 (some .int) (rk 2) D [(cI, .int)] (WX cI h) [.ref (h 0)] u (f_X_keep u).1 (f_X_keep u).2 := ct_ofI (by decide) (Nat.le_of_ble_eq_true rfl) (fun γ _ _ C hQ => w_X_keep C hQ u rfl)
-- ---- PackagePick.chosen(I)I
def b_X_chosen_11 (u : PS) (k11 : Int32 → Int32 → Option (Int32)) (x1 : Int32) (x2 : Int32) : Option (Int32) :=
  if (4 : Int32) ≤ x2 then
    some (-1 : Int32)
  else
    if (f_X_holds (u.1 0) (f_X_slotOf x1 x2)) = 0 then
      k11 x1 (x2 + (1 : Int32))
    else
      some x2
set_option maxRecDepth 100000 in
set_option maxHeartbeats 4000000 in
theorem w_X_chosen_11 {γ : CX} {cI : ClassId} {h : Nat → Nat} {u : PS} {r0 : Int32} (C : Cx γ b_X_chosen 3 (some .int) "PackagePick" (rk 2) [(cI, .int)]) (hQ : QI γ [(cI, .int)] (WX cI h) r0 u) (k11 : Int32 → Int32 → Option (Int32)) (hk11 : ∀ (x1 : Int32) (x2 : Int32), k11 x1 x2 = some r0 → AtG γ (WX cI h) 3 0 0 11 [(0, .ref (h 0)), (1, .int x1), (2, .int x2)] [] u) (x1 : Int32) (x2 : Int32) (hf : b_X_chosen_11 u k11 x1 x2 = some r0) : AtG γ (WX cI h) 3 0 0 11 [(0, .ref (h 0)), (1, .int x1), (2, .int x2)] [] u := by
  unfold b_X_chosen_11 at hf
  refine x_iload_n C d_X_chosen_11 rfl (k := 2) rfl ?_
  refine x_iconst (v := 4) C d_X_chosen_12 (by decide) ?_
  refine x_icmp_ge (tgt := 39) C d_X_chosen_13 (by decide) (fun hc => ?_) (fun hc => ?_)
  · rw [if_pos hc] at hf
    refine x_iconst (v := -1) C d_X_chosen_39 (by decide) ?_
    exact x_iret C hQ (Option.some.inj hf) rfl d_X_chosen_40
  · rw [if_neg hc] at hf
    refine x_aload_n C d_X_chosen_16 rfl (k := 0) rfl ?_
    refine gX_X_told (v := (u.1 0)) C mf_X_30 rfl d_X_chosen_17 ?_
    refine x_iload_n C d_X_chosen_20 rfl (k := 1) rfl ?_
    refine x_iload_n C d_X_chosen_21 rfl (k := 2) rfl ?_
    refine x_callIs (rest := [.int (u.1 0)]) C (c_X_slotOf x1 x2) kc_X_slotOf (rok (by decide) (by decide)) mm_X_44 ms_X_slotOf rfl rfl (Nat.le_of_ble_eq_true rfl) d_X_chosen_22 ?_
    refine x_callIs (rest := []) C (c_X_holds (u.1 0) (f_X_slotOf x1 x2)) kc_X_holds (rok (by decide) (by decide)) mm_X_113 ms_X_holds rfl rfl (Nat.le_of_ble_eq_true rfl) d_X_chosen_25 ?_
    refine x_if_eq (tgt := 33) C d_X_chosen_28 (by decide) (fun hc => ?_) (fun hc => ?_)
    · rw [if_pos hc] at hf
      refine x_iinc (v := (x2 + (1 : Int32))) (lv' := [(2, .int (x2 + (1 : Int32))), (0, .ref (h 0)), (1, .int x1)]) C d_X_chosen_33 (k := 2) rfl rfl (by decide) rfl ?_
      refine x_goto (tgt := 11) C d_X_chosen_36 (by decide) ?_
      refine x_sub (lv' := [(0, .ref (h 0)), (1, .int x1), (2, .int (x2 + (1 : Int32)))]) [1, 2, 0] rfl ?_
      exact hk11 x1 (x2 + (1 : Int32)) hf
    · rw [if_neg hc] at hf
      refine x_iload_n C d_X_chosen_31 rfl (k := 2) rfl ?_
      exact x_iret C hQ (Option.some.inj hf) rfl d_X_chosen_32
def l_X_chosen_11 (u : PS) : Nat → Int32 → Int32 → Option (Int32)
  | 0 => fun _ _ => none
  | n + 1 => b_X_chosen_11 u (l_X_chosen_11 u n)
theorem wl_X_chosen_11 {γ : CX} {cI : ClassId} {h : Nat → Nat} {u : PS} {r0 : Int32} (C : Cx γ b_X_chosen 3 (some .int) "PackagePick" (rk 2) [(cI, .int)]) (hQ : QI γ [(cI, .int)] (WX cI h) r0 u) (n : Nat) : ∀ (x1 : Int32) (x2 : Int32), l_X_chosen_11 u n x1 x2 = some r0 → AtG γ (WX cI h) 3 0 0 11 [(0, .ref (h 0)), (1, .int x1), (2, .int x2)] [] u := by
  induction n with
  | zero => intro x1 x2 hf; cases hf
  | succ n ih => intro x1 x2 hf; exact w_X_chosen_11 C hQ (l_X_chosen_11 u n) ih x1 x2 hf
def f_X_chosen (a1 : Int32) (u : PS) : Option (Int32) :=
  if (f_X_isPackage a1) = 0 then
    some (-1 : Int32)
  else
    l_X_chosen_11 u NF a1 (0 : Int32)
set_option maxRecDepth 100000 in
set_option maxHeartbeats 4000000 in
theorem w_X_chosen {γ : CX} {cI : ClassId} {h : Nat → Nat} {u : PS} {r0 : Int32} (C : Cx γ b_X_chosen 3 (some .int) "PackagePick" (rk 2) [(cI, .int)]) (hQ : QI γ [(cI, .int)] (WX cI h) r0 u) (a1 : Int32) (hf : f_X_chosen a1 u = some r0) : AtG γ (WX cI h) 3 0 0 0 [(0, .ref (h 0)), (1, .int a1)] [] u := by
  unfold f_X_chosen at hf
  refine x_iload_n C d_X_chosen_0 rfl (k := 1) rfl ?_
  refine x_callIs (rest := []) C (c_X_isPackage a1) kc_X_isPackage (rok (by decide) (by decide)) mm_X_110 ms_X_isPackage rfl rfl (Nat.le_of_ble_eq_true rfl) d_X_chosen_1 ?_
  refine x_if_ne (tgt := 9) C d_X_chosen_4 (by decide) (fun hc => ?_) (fun hc => ?_)
  · rw [if_neg hc] at hf
    refine x_iconst (v := 0) C d_X_chosen_9 (by decide) ?_
    refine x_istore_n (lv' := [(2, .int (0 : Int32)), (0, .ref (h 0)), (1, .int a1)]) C d_X_chosen_10 rfl (by decide) rfl ?_
    refine x_sub (lv' := [(0, .ref (h 0)), (1, .int a1), (2, .int (0 : Int32))]) [1, 2, 0] rfl ?_
    exact wl_X_chosen_11 C hQ NF a1 (0 : Int32) hf
  · rw [if_pos hc] at hf
    refine x_iconst (v := -1) C d_X_chosen_7 (by decide) ?_
    exact x_iret C hQ (Option.some.inj hf) rfl d_X_chosen_8
theorem c_X_chosen {l : Launch} {D : va_G} {cI : ClassId} {h : Nat → Nat} (a1 : Int32) (u : PS) {r0 : Int32} (hf : f_X_chosen a1 u = some r0) : CtI l y_X_chosen b_X_chosen 3 (some .int) (rk 2) D [(cI, .int)] (WX cI h) [.ref (h 0), .int a1] u r0 u := ct_ofI (by decide) (Nat.le_of_ble_eq_true rfl) (fun γ _ _ C hQ => w_X_chosen C hQ a1 hf)
-- ---- PackagePick.costOf(I)I
def f_X_costOf (a1 : Int32) (u : PS) : Int32 :=
  if (u.1 6) = (1 : Int32) then
    (f_J_bitCount a1)
  else
  if (u.1 6) = (2 : Int32) then
    (f_X_differing a1 (u.1 1))
  else
  (0 : Int32)
set_option maxRecDepth 100000 in
set_option maxHeartbeats 4000000 in
theorem w_X_costOf {γ : CX} {cI : ClassId} {h : Nat → Nat} {u : PS} {r0 : Int32} (C : Cx γ b_X_costOf 2 (some .int) "PackagePick" (rk 2) [(cI, .int)]) (hQ : QI γ [(cI, .int)] (WX cI h) r0 u) (a1 : Int32) (hf : f_X_costOf a1 u = r0) : AtG γ (WX cI h) 2 0 0 0 [(0, .ref (h 0)), (1, .int a1)] [] u := by
  unfold f_X_costOf at hf
  refine x_aload_n C d_X_costOf_0 rfl (k := 0) rfl ?_
  refine gX_X_tally C mf_X_26 d_X_costOf_1 ?_
  refine gX_T_aim (v := (u.1 6)) C mf_X_193 rfl d_X_costOf_4 ?_
  by_cases hc1 : (u.1 6) = (1 : Int32)
  · rw [if_pos hc1] at hf
    refine x_lsw (tgt := 32) C d_X_costOf_7 hc1 rfl rfl (by decide) ?_
    refine x_iload_n C d_X_costOf_32 rfl (k := 1) rfl ?_
    refine x_callIs (rest := []) C (c_J_bitCount a1) kc_J_bitCount (rok (by decide) (by decide)) mm_X_102 ms_J_bitCount rfl rfl (Nat.le_of_ble_eq_true rfl) d_X_costOf_33 ?_
    exact x_iret C hQ hf rfl d_X_costOf_36
  rw [if_neg hc1] at hf
  by_cases hc2 : (u.1 6) = (2 : Int32)
  · rw [if_pos hc2] at hf
    refine x_lsw (tgt := 37) C d_X_costOf_7 hc2 rfl rfl (by decide) ?_
    refine x_iload_n C d_X_costOf_37 rfl (k := 1) rfl ?_
    refine x_aload_n C d_X_costOf_38 rfl (k := 0) rfl ?_
    refine gX_X_kept (v := (u.1 1)) C mf_X_34 rfl d_X_costOf_39 ?_
    refine x_callIs (rest := []) C (c_X_differing a1 (u.1 1)) kc_X_differing (rok (by decide) (by decide)) mm_X_107 ms_X_differing rfl rfl (Nat.le_of_ble_eq_true rfl) d_X_costOf_42 ?_
    exact x_iret C hQ hf rfl d_X_costOf_45
  rw [if_neg hc2] at hf
  refine x_lswo (tgt := 46) C d_X_costOf_7 rfl (sw_lk_1_2 hc1 hc2) (by decide) ?_
  refine x_iconst (v := 0) C d_X_costOf_46 (by decide) ?_
  exact x_iret C hQ hf rfl d_X_costOf_47
theorem c_X_costOf {l : Launch} {D : va_G} {cI : ClassId} {h : Nat → Nat} (a1 : Int32) (u : PS) : CtI l y_X_costOf b_X_costOf 2 (some .int) (rk 2) D [(cI, .int)] (WX cI h) [.ref (h 0), .int a1] u (f_X_costOf a1 u) u := ct_ofI (by decide) (Nat.le_of_ble_eq_true rfl) (fun γ _ _ C hQ => w_X_costOf C hQ a1 rfl)
-- ---- PackagePick.lowestPlace(I)I
def f_X_lowestPlace (a0 : Int32) : Int32 :=
  (f_J_bitCount ((a0 &&& (-a0)) - (1 : Int32)))
set_option maxRecDepth 100000 in
set_option maxHeartbeats 4000000 in
theorem w_X_lowestPlace {γ : CX} {S : Type} {wf : S → va_W} {tys : Tys} {u : S} {r0 : Int32} (C : Cx γ b_X_lowestPlace 1 (some .int) "PackagePick" (rk 1) tys) (hQ : QI γ tys wf r0 u) (a0 : Int32) (hf : f_X_lowestPlace a0 = r0) : AtG γ wf 1 0 0 0 [(0, .int a0)] [] u := by
  unfold f_X_lowestPlace at hf
  refine x_iload_n C d_X_lowestPlace_0 rfl (k := 0) rfl ?_
  refine x_iload_n C d_X_lowestPlace_1 rfl (k := 0) rfl ?_
  refine x_ineg C d_X_lowestPlace_2 ?_
  refine x_iand C d_X_lowestPlace_3 ?_
  refine x_iconst (v := 1) C d_X_lowestPlace_4 (by decide) ?_
  refine x_isub C d_X_lowestPlace_5 ?_
  refine x_callIs (rest := []) C (c_J_bitCount ((a0 &&& (-a0)) - (1 : Int32))) kc_J_bitCount (rok (by decide) (by decide)) mm_X_102 ms_J_bitCount rfl rfl (Nat.le_of_ble_eq_true rfl) d_X_lowestPlace_6 ?_
  exact x_iret C hQ hf rfl d_X_lowestPlace_9
theorem c_X_lowestPlace {S : Type} {l : Launch} {D : va_G} {tys : Tys} {wf : S → va_W} {u : S} (a0 : Int32) : CtI l y_X_lowestPlace b_X_lowestPlace 1 (some .int) (rk 1) D tys wf [.int a0] u (f_X_lowestPlace a0) u := ct_ofI (by decide) (Nat.le_of_ble_eq_true rfl) (fun γ _ _ C hQ => w_X_lowestPlace C hQ a0 rfl)
-- ---- PackagePick.explore(IIII)V
def b_X_explore_87 (rc : Int32 → Int32 → Int32 → Int32 → PS → Option (PS)) (k87 : Int32 → Int32 → Int32 → Int32 → Int32 → Int32 → Int32 → PS → Option (PS)) (x1 : Int32) (x2 : Int32) (x3 : Int32) (x4 : Int32) (x6 : Int32) (x7 : Int32) (x8 : Int32) (u : PS) : Option (PS) :=
  if x7 ≤ x8 then
    some u
  else
    if (f_X_holds x3 x8) = 0 then
      k87 x1 x2 x3 x4 x6 x7 (x8 + (1 : Int32)) u
    else
      ck (inb x8 28) <|
      ck (inb x8 28) <|
      ck (inb x8 28) <|
      (rc (x1 ||| (u.2 1 x8.toNatClampNeg)) (x2 ||| ((1 : Int32) <<< (x6 &&& 31))) (x3 &&& ((((((15 : Int32) <<< (x6 &&& 31)) &&& (((1 : Int32) <<< (x8 &&& 31)) ^^^ (-1 : Int32))) ||| (u.2 2 x8.toNatClampNeg)) ||| (u.2 3 x8.toNatClampNeg)) ^^^ (-1 : Int32))) (x4 + (1 : Int32)) u).bind fun r5 =>
      k87 x1 x2 x3 x4 x6 x7 (x8 + (1 : Int32)) r5
set_option maxRecDepth 100000 in
set_option maxHeartbeats 4000000 in
theorem w_X_explore_87 {γ : CX} {cI : ClassId} {h : Nat → Nat} {u0 : PS} {k0 : Nat} (hk0 : 2 ≤ k0) (C : Cx γ b_X_explore 10 none "PackagePick" (rk (k0 + 1)) [(cI, .int)]) (hQ : QV γ [(cI, .int)] (WX cI h) u0) (rc : Int32 → Int32 → Int32 → Int32 → PS → Option (PS)) (hrc : ∀ (a1 a2 a3 a4 : Int32) (u : PS) (u1 : PS), rc a1 a2 a3 a4 u = some u1 → CtV (γl γ) y_X_explore b_X_explore 10 none (rk k0) (γD γ) [(cI, .int)] (WX cI h) [.ref (h 0), .int a1, .int a2, .int a3, .int a4] u u1) (k87 : Int32 → Int32 → Int32 → Int32 → Int32 → Int32 → Int32 → PS → Option (PS)) (hk87 : ∀ (x1 : Int32) (x2 : Int32) (x3 : Int32) (x4 : Int32) (x6 : Int32) (x7 : Int32) (x8 : Int32) (u : PS), k87 x1 x2 x3 x4 x6 x7 x8 u = some u0 → AtG γ (WX cI h) 10 0 0 87 [(0, .ref (h 0)), (1, .int x1), (2, .int x2), (3, .int x3), (4, .int x4), (6, .int x6), (7, .int x7), (8, .int x8)] [] u) (x1 : Int32) (x2 : Int32) (x3 : Int32) (x4 : Int32) (x6 : Int32) (x7 : Int32) (x8 : Int32) (u : PS) (hf : b_X_explore_87 rc k87 x1 x2 x3 x4 x6 x7 x8 u = some u0) : AtG γ (WX cI h) 10 0 0 87 [(0, .ref (h 0)), (1, .int x1), (2, .int x2), (3, .int x3), (4, .int x4), (6, .int x6), (7, .int x7), (8, .int x8)] [] u := by
  unfold b_X_explore_87 at hf
  refine x_iload C d_X_explore_87 (k := 7) rfl ?_
  refine x_iload C d_X_explore_89 (k := 6) rfl ?_
  refine x_icmp_ge (tgt := 177) C d_X_explore_91 (by decide) (fun hc => ?_) (fun hc => ?_)
  · rw [if_pos hc] at hf
    exact x_vret C hQ (Option.some.inj hf) d_X_explore_177
  · rw [if_neg hc] at hf
    refine x_iload_n C d_X_explore_94 rfl (k := 3) rfl ?_
    refine x_iload C d_X_explore_95 (k := 7) rfl ?_
    refine x_callIs (rest := []) C (c_X_holds x3 x8) kc_X_holds (rok (show 0 + 1 ≤ k0 + 1 by omega) (by decide)) mm_X_113 ms_X_holds rfl rfl (Nat.le_of_ble_eq_true rfl) d_X_explore_97 ?_
    refine x_if_eq (tgt := 171) C d_X_explore_100 (by decide) (fun hc => ?_) (fun hc => ?_)
    · rw [if_pos hc] at hf
      refine x_iinc (v := (x8 + (1 : Int32))) (lv' := [(8, .int (x8 + (1 : Int32))), (0, .ref (h 0)), (1, .int x1), (2, .int x2), (3, .int x3), (4, .int x4), (6, .int x6), (7, .int x7)]) C d_X_explore_171 (k := 7) rfl rfl (by decide) rfl ?_
      refine x_goto (tgt := 87) C d_X_explore_174 (by decide) ?_
      refine x_sub (lv' := [(0, .ref (h 0)), (1, .int x1), (2, .int x2), (3, .int x3), (4, .int x4), (6, .int x6), (7, .int x7), (8, .int (x8 + (1 : Int32)))]) [1, 2, 3, 4, 5, 6, 7, 0] rfl ?_
      exact hk87 x1 x2 x3 x4 x6 x7 (x8 + (1 : Int32)) u hf
    · rw [if_neg hc] at hf
      refine x_bipush (v := 15) C d_X_explore_103 (by decide) ?_
      refine x_iload C d_X_explore_105 (k := 5) rfl ?_
      refine x_ishl C d_X_explore_107 ?_
      refine x_iconst (v := 1) C d_X_explore_108 (by decide) ?_
      refine x_iload C d_X_explore_109 (k := 7) rfl ?_
      refine x_ishl C d_X_explore_111 ?_
      refine x_iconst (v := -1) C d_X_explore_112 (by decide) ?_
      refine x_ixor C d_X_explore_113 ?_
      refine x_iand C d_X_explore_114 ?_
      refine x_istore (lv' := [(9, .int (((15 : Int32) <<< (x6 &&& 31)) &&& (((1 : Int32) <<< (x8 &&& 31)) ^^^ (-1 : Int32)))), (0, .ref (h 0)), (1, .int x1), (2, .int x2), (3, .int x3), (4, .int x4), (6, .int x6), (7, .int x7), (8, .int x8)]) C d_X_explore_115 (by decide) rfl ?_
      refine x_aload_n C d_X_explore_117 rfl (k := 1) rfl ?_
      refine x_iload_n C d_X_explore_118 rfl (k := 2) rfl ?_
      refine x_aload_n C d_X_explore_119 rfl (k := 1) rfl ?_
      refine gX_X_catalog C mf_X_12 d_X_explore_120 ?_
      refine gX_C_wanted C mf_X_188 d_X_explore_123 ?_
      refine x_iload C d_X_explore_126 (k := 8) rfl ?_
      obtain ⟨hin, hf⟩ := ck_some hf
      refine aldX_5 (v := (u.2 1 x8.toNatClampNeg)) C hin rfl d_X_explore_128 ?_
      refine x_ior C d_X_explore_129 ?_
      refine x_iload_n C d_X_explore_130 rfl (k := 3) rfl ?_
      refine x_iconst (v := 1) C d_X_explore_131 (by decide) ?_
      refine x_iload C d_X_explore_132 (k := 6) rfl ?_
      refine x_ishl C d_X_explore_134 ?_
      refine x_ior C d_X_explore_135 ?_
      refine x_iload_n C d_X_explore_136 rfl (k := 4) rfl ?_
      refine x_iload C d_X_explore_137 (k := 0) rfl ?_
      refine x_aload_n C d_X_explore_139 rfl (k := 1) rfl ?_
      refine gX_X_catalog C mf_X_12 d_X_explore_140 ?_
      refine gX_C_unmet C mf_X_189 d_X_explore_143 ?_
      refine x_iload C d_X_explore_146 (k := 8) rfl ?_
      obtain ⟨hin, hf⟩ := ck_some hf
      refine aldX_6 (v := (u.2 2 x8.toNatClampNeg)) C hin rfl d_X_explore_148 ?_
      refine x_ior C d_X_explore_149 ?_
      refine x_aload_n C d_X_explore_150 rfl (k := 1) rfl ?_
      refine gX_X_catalog C mf_X_12 d_X_explore_151 ?_
      refine gX_C_banned C mf_X_190 d_X_explore_154 ?_
      refine x_iload C d_X_explore_157 (k := 8) rfl ?_
      obtain ⟨hin, hf⟩ := ck_some hf
      refine aldX_7 (v := (u.2 3 x8.toNatClampNeg)) C hin rfl d_X_explore_159 ?_
      refine x_ior C d_X_explore_160 ?_
      refine x_iconst (v := -1) C d_X_explore_161 (by decide) ?_
      refine x_ixor C d_X_explore_162 ?_
      refine x_iand C d_X_explore_163 ?_
      refine x_iload C d_X_explore_164 (k := 5) rfl ?_
      refine x_iconst (v := 1) C d_X_explore_166 (by decide) ?_
      refine x_iadd C d_X_explore_167 ?_
      obtain ⟨r5, hc5, hf⟩ := Option.bind_eq_some_iff.mp hf
      refine x_callVv (q0 := 0) (ci := 3) (rest := []) C (hrc (x1 ||| (u.2 1 x8.toNatClampNeg)) (x2 ||| ((1 : Int32) <<< (x6 &&& 31))) (x3 &&& ((((((15 : Int32) <<< (x6 &&& 31)) &&& (((1 : Int32) <<< (x8 &&& 31)) ^^^ (-1 : Int32))) ||| (u.2 2 x8.toNatClampNeg)) ||| (u.2 3 x8.toNatClampNeg)) ^^^ (-1 : Int32))) (x4 + (1 : Int32)) u r5 hc5) kc_X_explore (rok (by omega) (by decide)) mm_X_160 ms_X_explore ml_X_explore rfl rfl rfl rfl (Nat.le_of_ble_eq_true rfl) d_X_explore_168 ?_
      refine x_iinc (v := (x8 + (1 : Int32))) (lv' := [(8, .int (x8 + (1 : Int32))), (9, .int (((15 : Int32) <<< (x6 &&& 31)) &&& (((1 : Int32) <<< (x8 &&& 31)) ^^^ (-1 : Int32)))), (0, .ref (h 0)), (1, .int x1), (2, .int x2), (3, .int x3), (4, .int x4), (6, .int x6), (7, .int x7)]) C d_X_explore_171 (k := 8) rfl rfl (by decide) rfl ?_
      refine x_goto (tgt := 87) C d_X_explore_174 (by decide) ?_
      refine x_sub (lv' := [(0, .ref (h 0)), (1, .int x1), (2, .int x2), (3, .int x3), (4, .int x4), (6, .int x6), (7, .int x7), (8, .int (x8 + (1 : Int32)))]) [2, 3, 4, 5, 6, 7, 8, 0] rfl ?_
      exact hk87 x1 x2 x3 x4 x6 x7 (x8 + (1 : Int32)) r5 hf
def l_X_explore_87 (rc : Int32 → Int32 → Int32 → Int32 → PS → Option (PS)) : Nat → Int32 → Int32 → Int32 → Int32 → Int32 → Int32 → Int32 → PS → Option (PS)
  | 0 => fun _ _ _ _ _ _ _ _ => none
  | n + 1 => b_X_explore_87 rc (l_X_explore_87 rc n)
theorem wl_X_explore_87 {γ : CX} {cI : ClassId} {h : Nat → Nat} {u0 : PS} {k0 : Nat} (hk0 : 2 ≤ k0) (C : Cx γ b_X_explore 10 none "PackagePick" (rk (k0 + 1)) [(cI, .int)]) (hQ : QV γ [(cI, .int)] (WX cI h) u0) (rc : Int32 → Int32 → Int32 → Int32 → PS → Option (PS)) (hrc : ∀ (a1 a2 a3 a4 : Int32) (u : PS) (u1 : PS), rc a1 a2 a3 a4 u = some u1 → CtV (γl γ) y_X_explore b_X_explore 10 none (rk k0) (γD γ) [(cI, .int)] (WX cI h) [.ref (h 0), .int a1, .int a2, .int a3, .int a4] u u1) (n : Nat) : ∀ (x1 : Int32) (x2 : Int32) (x3 : Int32) (x4 : Int32) (x6 : Int32) (x7 : Int32) (x8 : Int32) (u : PS), l_X_explore_87 rc n x1 x2 x3 x4 x6 x7 x8 u = some u0 → AtG γ (WX cI h) 10 0 0 87 [(0, .ref (h 0)), (1, .int x1), (2, .int x2), (3, .int x3), (4, .int x4), (6, .int x6), (7, .int x7), (8, .int x8)] [] u := by
  induction n with
  | zero => intro x1 x2 x3 x4 x6 x7 x8 u hf; cases hf
  | succ n ih => intro x1 x2 x3 x4 x6 x7 x8 u hf; exact w_X_explore_87 hk0 C hQ rc hrc (l_X_explore_87 rc n) ih x1 x2 x3 x4 x6 x7 x8 u hf
def g_X_explore (rc : Int32 → Int32 → Int32 → Int32 → PS → Option (PS)) (a1 : Int32) (a2 : Int32) (a3 : Int32) (a4 : Int32) (u : PS) : Option (PS) :=
  if (7 : Int32) < a4 then
    some u
  else
    if (f_T_isFull u) = 0 then
      if (a1 &&& ((f_X_marksOf a3) ^^^ (-1 : Int32))) = 0 then
        if (a1 &&& (a2 ^^^ (-1 : Int32))) = 0 then
          some (f_T_enter (a3 &&& (a1 * (15 : Int32))) (f_X_costOf (a3 &&& (a1 * (15 : Int32))) u) u)
        else
          l_X_explore_87 rc NF a1 a2 a3 a4 (f_X_lowestPlace (a1 &&& (a2 ^^^ (-1 : Int32)))) (jmin ((f_X_lowestPlace (a1 &&& (a2 ^^^ (-1 : Int32)))) + (4 : Int32)) (28 : Int32)) (f_X_lowestPlace (a1 &&& (a2 ^^^ (-1 : Int32)))) u
      else
        some u
    else
      some u
set_option maxRecDepth 100000 in
set_option maxHeartbeats 4000000 in
theorem w_X_explore {γ : CX} {cI : ClassId} {h : Nat → Nat} {u0 : PS} {k0 : Nat} (hk0 : 2 ≤ k0) (C : Cx γ b_X_explore 10 none "PackagePick" (rk (k0 + 1)) [(cI, .int)]) (hQ : QV γ [(cI, .int)] (WX cI h) u0) (rc : Int32 → Int32 → Int32 → Int32 → PS → Option (PS)) (hrc : ∀ (a1 a2 a3 a4 : Int32) (u : PS) (u1 : PS), rc a1 a2 a3 a4 u = some u1 → CtV (γl γ) y_X_explore b_X_explore 10 none (rk k0) (γD γ) [(cI, .int)] (WX cI h) [.ref (h 0), .int a1, .int a2, .int a3, .int a4] u u1) (a1 : Int32) (a2 : Int32) (a3 : Int32) (a4 : Int32) (u : PS) (hf : g_X_explore rc a1 a2 a3 a4 u = some u0) : AtG γ (WX cI h) 10 0 0 0 [(0, .ref (h 0)), (1, .int a1), (2, .int a2), (3, .int a3), (4, .int a4)] [] u := by
  unfold g_X_explore at hf
  refine x_iload C d_X_explore_0 (k := 4) rfl ?_
  refine x_bipush (v := 7) C d_X_explore_2 (by decide) ?_
  refine x_icmp_gt (tgt := 28) C d_X_explore_4 (by decide) (fun hc => ?_) (fun hc => ?_)
  · rw [if_pos hc] at hf
    exact x_vret C hQ (Option.some.inj hf) d_X_explore_28
  · rw [if_neg hc] at hf
    refine x_aload_n C d_X_explore_7 rfl (k := 0) rfl ?_
    refine gX_X_tally C mf_X_26 d_X_explore_8 ?_
    refine x_callIv (q0 := 3) (ci := 1) (rest := []) C (c_T_isFull u) kc_T_isFull (rok (show 0 + 1 ≤ k0 + 1 by omega) (by decide)) mm_X_167 ms_T_isFull ml_T_isFull rfl rfl rfl rfl (Nat.le_of_ble_eq_true rfl) d_X_explore_11 ?_
    refine x_if_ne (tgt := 28) C d_X_explore_14 (by decide) (fun hc => ?_) (fun hc => ?_)
    · rw [if_neg hc] at hf
      exact x_vret C hQ (Option.some.inj hf) d_X_explore_28
    · rw [if_pos hc] at hf
      refine x_iload_n C d_X_explore_17 rfl (k := 1) rfl ?_
      refine x_iload_n C d_X_explore_18 rfl (k := 3) rfl ?_
      refine x_callIs (rest := [.int a1]) C (c_X_marksOf a3) kc_X_marksOf (rok (show 0 + 1 ≤ k0 + 1 by omega) (by decide)) mm_X_171 ms_X_marksOf rfl rfl (Nat.le_of_ble_eq_true rfl) d_X_explore_19 ?_
      refine x_iconst (v := -1) C d_X_explore_22 (by decide) ?_
      refine x_ixor C d_X_explore_23 ?_
      refine x_iand C d_X_explore_24 ?_
      refine x_if_eq (tgt := 29) C d_X_explore_25 (by decide) (fun hc => ?_) (fun hc => ?_)
      · rw [if_pos hc] at hf
        refine x_iload_n C d_X_explore_29 rfl (k := 1) rfl ?_
        refine x_iload_n C d_X_explore_30 rfl (k := 2) rfl ?_
        refine x_iconst (v := -1) C d_X_explore_31 (by decide) ?_
        refine x_ixor C d_X_explore_32 ?_
        refine x_iand C d_X_explore_33 ?_
        refine x_istore (lv' := [(5, .int (a1 &&& (a2 ^^^ (-1 : Int32)))), (0, .ref (h 0)), (1, .int a1), (2, .int a2), (3, .int a3), (4, .int a4)]) C d_X_explore_34 (by decide) rfl ?_
        refine x_iload C d_X_explore_36 (k := 0) rfl ?_
        refine x_if_ne (tgt := 65) C d_X_explore_38 (by decide) (fun hc => ?_) (fun hc => ?_)
        · rw [if_neg hc] at hf
          refine x_iload C d_X_explore_65 (k := 0) rfl ?_
          refine x_callIs (rest := []) C (c_X_lowestPlace (a1 &&& (a2 ^^^ (-1 : Int32)))) kc_X_lowestPlace (rok (show 1 + 1 ≤ k0 + 1 by omega) (by decide)) mm_X_180 ms_X_lowestPlace rfl rfl (Nat.le_of_ble_eq_true rfl) d_X_explore_67 ?_
          refine x_istore (lv' := [(6, .int (f_X_lowestPlace (a1 &&& (a2 ^^^ (-1 : Int32))))), (5, .int (a1 &&& (a2 ^^^ (-1 : Int32)))), (0, .ref (h 0)), (1, .int a1), (2, .int a2), (3, .int a3), (4, .int a4)]) C d_X_explore_70 (by decide) rfl ?_
          refine x_iload C d_X_explore_72 (k := 0) rfl ?_
          refine x_iconst (v := 4) C d_X_explore_74 (by decide) ?_
          refine x_iadd C d_X_explore_75 ?_
          refine x_bipush (v := 28) C d_X_explore_76 (by decide) ?_
          refine x_mmin (rest := []) C mm_X_183 (rmin0 (show 1 ≤ k0 + 1 by omega)) d_X_explore_78 ?_
          refine x_istore (lv' := [(7, .int (jmin ((f_X_lowestPlace (a1 &&& (a2 ^^^ (-1 : Int32)))) + (4 : Int32)) (28 : Int32))), (6, .int (f_X_lowestPlace (a1 &&& (a2 ^^^ (-1 : Int32))))), (5, .int (a1 &&& (a2 ^^^ (-1 : Int32)))), (0, .ref (h 0)), (1, .int a1), (2, .int a2), (3, .int a3), (4, .int a4)]) C d_X_explore_81 (by decide) rfl ?_
          refine x_iload C d_X_explore_83 (k := 1) rfl ?_
          refine x_istore (lv' := [(8, .int (f_X_lowestPlace (a1 &&& (a2 ^^^ (-1 : Int32))))), (7, .int (jmin ((f_X_lowestPlace (a1 &&& (a2 ^^^ (-1 : Int32)))) + (4 : Int32)) (28 : Int32))), (6, .int (f_X_lowestPlace (a1 &&& (a2 ^^^ (-1 : Int32))))), (5, .int (a1 &&& (a2 ^^^ (-1 : Int32)))), (0, .ref (h 0)), (1, .int a1), (2, .int a2), (3, .int a3), (4, .int a4)]) C d_X_explore_85 (by decide) rfl ?_
          refine x_sub (lv' := [(0, .ref (h 0)), (1, .int a1), (2, .int a2), (3, .int a3), (4, .int a4), (6, .int (f_X_lowestPlace (a1 &&& (a2 ^^^ (-1 : Int32))))), (7, .int (jmin ((f_X_lowestPlace (a1 &&& (a2 ^^^ (-1 : Int32)))) + (4 : Int32)) (28 : Int32))), (8, .int (f_X_lowestPlace (a1 &&& (a2 ^^^ (-1 : Int32)))))]) [4, 5, 6, 7, 8, 2, 1, 0] rfl ?_
          exact wl_X_explore_87 hk0 C hQ rc hrc NF a1 a2 a3 a4 (f_X_lowestPlace (a1 &&& (a2 ^^^ (-1 : Int32)))) (jmin ((f_X_lowestPlace (a1 &&& (a2 ^^^ (-1 : Int32)))) + (4 : Int32)) (28 : Int32)) (f_X_lowestPlace (a1 &&& (a2 ^^^ (-1 : Int32)))) u hf
        · rw [if_pos hc] at hf
          refine x_iload_n C d_X_explore_41 rfl (k := 4) rfl ?_
          refine x_iload_n C d_X_explore_42 rfl (k := 2) rfl ?_
          refine x_bipush (v := 15) C d_X_explore_43 (by decide) ?_
          refine x_imul C d_X_explore_45 ?_
          refine x_iand C d_X_explore_46 ?_
          refine x_istore (lv' := [(6, .int (a3 &&& (a1 * (15 : Int32)))), (5, .int (a1 &&& (a2 ^^^ (-1 : Int32)))), (0, .ref (h 0)), (1, .int a1), (2, .int a2), (3, .int a3), (4, .int a4)]) C d_X_explore_47 (by decide) rfl ?_
          refine x_aload_n C d_X_explore_49 rfl (k := 2) rfl ?_
          refine gX_X_tally C mf_X_26 d_X_explore_50 ?_
          refine x_iload C d_X_explore_53 (k := 0) rfl ?_
          refine x_aload_n C d_X_explore_55 rfl (k := 2) rfl ?_
          refine x_iload C d_X_explore_56 (k := 0) rfl ?_
          refine x_callIv (q0 := 0) (ci := 3) (rest := [.int (a3 &&& (a1 * (15 : Int32))), .ref (h 3)]) C (c_X_costOf (a3 &&& (a1 * (15 : Int32))) u) kc_X_costOf (rok (show 2 + 1 ≤ k0 + 1 by omega) (by decide)) mm_X_174 ms_X_costOf ml_X_costOf rfl rfl rfl rfl (Nat.le_of_ble_eq_true rfl) d_X_explore_58 ?_
          refine x_callVv (q0 := 3) (ci := 1) (rest := []) C (c_T_enter (a3 &&& (a1 * (15 : Int32))) (f_X_costOf (a3 &&& (a1 * (15 : Int32))) u) u) kc_T_enter (rok (show 1 + 1 ≤ k0 + 1 by omega) (by decide)) mm_X_177 ms_T_enter ml_T_enter rfl rfl rfl rfl (Nat.le_of_ble_eq_true rfl) d_X_explore_61 ?_
          exact x_vret C hQ (Option.some.inj hf) d_X_explore_64
      · rw [if_neg hc] at hf
        exact x_vret C hQ (Option.some.inj hf) d_X_explore_28
def f_X_explore : Nat → Int32 → Int32 → Int32 → Int32 → PS → Option (PS)
  | 0 => fun _ _ _ _ _ => none
  | n + 1 => g_X_explore (f_X_explore n)
theorem c_X_explore {l : Launch} {D : va_G} {cI : ClassId} {h : Nat → Nat} : ∀ (n : Nat) (a1 : Int32) (a2 : Int32) (a3 : Int32) (a4 : Int32) (u : PS) {u0 : PS}, f_X_explore n a1 a2 a3 a4 u = some u0 → CtV l y_X_explore b_X_explore 10 none (rk (3 + n)) D [(cI, .int)] (WX cI h) [.ref (h 0), .int a1, .int a2, .int a3, .int a4] u u0
  | 0, _, _, _, _, _, _, hf => by cases hf
  | n + 1, a1, a2, a3, a4, u, _, hf => ct_ofV (by decide) (Nat.le_of_ble_eq_true rfl) (fun γ hl hD C hQ => w_X_explore (k0 := 3 + n) (by omega) C hQ (f_X_explore n) (fun z0 z1 z2 z3 u1 u2 h => by subst hl; subst hD; exact c_X_explore n z0 z1 z2 z3 u1 h) a1 a2 a3 a4 u hf)
-- ---- PackagePick.tallyChoices(III)I
def f_X_tallyChoices (a1 : Int32) (a2 : Int32) (a3 : Int32) (u : PS) : Option (Int32 × PS) :=
  (f_W_union_8 a1 (f_T_begin a2 a3 u)).bind fun r2 =>
  (f_W_union_9 a1 (f_T_begin a2 a3 u)).bind fun r3 =>
  (f_X_explore 9 r2 (0 : Int32) (((f_T_begin a2 a3 u).1 3) &&& (r3 ^^^ (-1 : Int32))) (0 : Int32) (f_T_begin a2 a3 u)).bind fun r4 =>
  some ((r4.1 9), r4)
set_option maxRecDepth 100000 in
set_option maxHeartbeats 4000000 in
theorem w_X_tallyChoices {γ : CX} {cI : ClassId} {h : Nat → Nat} {r0 : Int32} {u0 : PS} (C : Cx γ b_X_tallyChoices 6 (some .int) "PackagePick" (rk 13) [(cI, .int)]) (hQ : QI γ [(cI, .int)] (WX cI h) r0 u0) (a1 : Int32) (a2 : Int32) (a3 : Int32) (u : PS) (hf : f_X_tallyChoices a1 a2 a3 u = some (r0, u0)) : AtG γ (WX cI h) 6 0 0 0 [(0, .ref (h 0)), (1, .int a1), (2, .int a2), (3, .int a3)] [] u := by
  unfold f_X_tallyChoices at hf
  refine x_aload_n C d_X_tallyChoices_0 rfl (k := 0) rfl ?_
  refine gX_X_tally C mf_X_26 d_X_tallyChoices_1 ?_
  refine x_iload_n C d_X_tallyChoices_4 rfl (k := 2) rfl ?_
  refine x_iload_n C d_X_tallyChoices_5 rfl (k := 3) rfl ?_
  refine x_callVv (q0 := 3) (ci := 1) (rest := []) C (c_T_begin a2 a3 u) kc_T_begin (rok (by decide) (by decide)) mm_X_145 ms_T_begin ml_T_begin rfl rfl rfl rfl (Nat.le_of_ble_eq_true rfl) d_X_tallyChoices_6 ?_
  refine x_aload_n C d_X_tallyChoices_9 rfl (k := 0) rfl ?_
  refine gX_X_wishes C mf_X_19 d_X_tallyChoices_10 ?_
  refine x_aload_n C d_X_tallyChoices_13 rfl (k := 0) rfl ?_
  refine gX_X_wishes C mf_X_19 d_X_tallyChoices_14 ?_
  refine gX_W_wanted C mf_X_149 d_X_tallyChoices_17 ?_
  refine x_iload_n C d_X_tallyChoices_20 rfl (k := 1) rfl ?_
  obtain ⟨r2, hc2, hf⟩ := Option.bind_eq_some_iff.mp hf
  refine x_callIv (q0 := 2) (ci := 2) (rest := []) C (c_W_union_8 a1 (f_T_begin a2 a3 u) hc2) kc_W_union (rok (by decide) (by decide)) mm_X_153 ms_W_union ml_W_union rfl rfl rfl rfl (Nat.le_of_ble_eq_true rfl) d_X_tallyChoices_21 ?_
  refine x_istore (lv' := [(4, .int r2), (0, .ref (h 0)), (1, .int a1), (2, .int a2), (3, .int a3)]) C d_X_tallyChoices_24 (by decide) rfl ?_
  refine x_aload_n C d_X_tallyChoices_26 rfl (k := 1) rfl ?_
  refine gX_X_wishes C mf_X_19 d_X_tallyChoices_27 ?_
  refine x_aload_n C d_X_tallyChoices_30 rfl (k := 1) rfl ?_
  refine gX_X_wishes C mf_X_19 d_X_tallyChoices_31 ?_
  refine gX_W_unmet C mf_X_157 d_X_tallyChoices_34 ?_
  refine x_iload_n C d_X_tallyChoices_37 rfl (k := 2) rfl ?_
  obtain ⟨r3, hc3, hf⟩ := Option.bind_eq_some_iff.mp hf
  refine x_callIv (q0 := 2) (ci := 2) (rest := []) C (c_W_union_9 a1 (f_T_begin a2 a3 u) hc3) kc_W_union (rok (by decide) (by decide)) mm_X_153 ms_W_union ml_W_union rfl rfl rfl rfl (Nat.le_of_ble_eq_true rfl) d_X_tallyChoices_38 ?_
  refine x_istore (lv' := [(5, .int r3), (4, .int r2), (0, .ref (h 0)), (1, .int a1), (2, .int a2), (3, .int a3)]) C d_X_tallyChoices_41 (by decide) rfl ?_
  refine x_aload_n C d_X_tallyChoices_43 rfl (k := 2) rfl ?_
  refine x_iload C d_X_tallyChoices_44 (k := 1) rfl ?_
  refine x_iconst (v := 0) C d_X_tallyChoices_46 (by decide) ?_
  refine x_aload_n C d_X_tallyChoices_47 rfl (k := 2) rfl ?_
  refine gX_X_catalog C mf_X_12 d_X_tallyChoices_48 ?_
  refine gX_C_there (v := ((f_T_begin a2 a3 u).1 3)) C mf_X_133 rfl d_X_tallyChoices_51 ?_
  refine x_iload C d_X_tallyChoices_54 (k := 0) rfl ?_
  refine x_iconst (v := -1) C d_X_tallyChoices_56 (by decide) ?_
  refine x_ixor C d_X_tallyChoices_57 ?_
  refine x_iand C d_X_tallyChoices_58 ?_
  refine x_iconst (v := 0) C d_X_tallyChoices_59 (by decide) ?_
  obtain ⟨r4, hc4, hf⟩ := Option.bind_eq_some_iff.mp hf
  refine x_callVv (q0 := 0) (ci := 3) (rest := []) C (c_X_explore 9 r2 (0 : Int32) (((f_T_begin a2 a3 u).1 3) &&& (r3 ^^^ (-1 : Int32))) (0 : Int32) (f_T_begin a2 a3 u) hc4) kc_X_explore (rok (by decide) (by decide)) mm_X_160 ms_X_explore ml_X_explore rfl rfl rfl rfl (Nat.le_of_ble_eq_true rfl) d_X_tallyChoices_60 ?_
  refine x_aload_n C d_X_tallyChoices_63 rfl (k := 2) rfl ?_
  refine gX_X_tally C mf_X_26 d_X_tallyChoices_64 ?_
  refine gX_T_found (v := (r4.1 9)) C mf_X_164 rfl d_X_tallyChoices_67 ?_
  exact x_iret C hQ (Prod.mk.inj (Option.some.inj hf)).1 (Prod.mk.inj (Option.some.inj hf)).2 d_X_tallyChoices_70
theorem c_X_tallyChoices {l : Launch} {D : va_G} {cI : ClassId} {h : Nat → Nat} (a1 : Int32) (a2 : Int32) (a3 : Int32) (u : PS) {r0 : Int32 × PS} (hf : f_X_tallyChoices a1 a2 a3 u = some r0) : CtI l y_X_tallyChoices b_X_tallyChoices 6 (some .int) (rk 13) D [(cI, .int)] (WX cI h) [.ref (h 0), .int a1, .int a2, .int a3] u r0.1 r0.2 := ct_ofI (by decide) (Nat.le_of_ble_eq_true rfl) (fun γ _ _ C hQ => w_X_tallyChoices C hQ a1 a2 a3 u hf)
-- ---- PackagePick.many()I
def f_X_many (u : PS) : Option (Int32 × PS) :=
  (f_W_all u).bind fun r1 =>
  (f_X_tallyChoices r1 (0 : Int32) (1000000 : Int32) u).bind fun r2 =>
  some (r2.1, r2.2)
set_option maxRecDepth 100000 in
set_option maxHeartbeats 4000000 in
theorem w_X_many {γ : CX} {cI : ClassId} {h : Nat → Nat} {r0 : Int32} {u0 : PS} (C : Cx γ b_X_many 1 (some .int) "PackagePick" (rk 14) [(cI, .int)]) (hQ : QI γ [(cI, .int)] (WX cI h) r0 u0) (u : PS) (hf : f_X_many u = some (r0, u0)) : AtG γ (WX cI h) 1 0 0 0 [(0, .ref (h 0))] [] u := by
  unfold f_X_many at hf
  refine x_aload_n C d_X_many_0 rfl (k := 0) rfl ?_
  refine x_aload_n C d_X_many_1 rfl (k := 0) rfl ?_
  refine gX_X_wishes C mf_X_19 d_X_many_2 ?_
  obtain ⟨r1, hc1, hf⟩ := Option.bind_eq_some_iff.mp hf
  refine x_callIv (q0 := 2) (ci := 2) (rest := [.ref (h 0)]) C (c_W_all u hc1) kc_W_all (rok (by decide) (by decide)) mm_X_83 ms_W_all ml_W_all rfl rfl rfl rfl (Nat.le_of_ble_eq_true rfl) d_X_many_5 ?_
  refine x_iconst (v := 0) C d_X_many_8 (by decide) ?_
  refine x_ldc (v := 1000000) C mk_X_87 d_X_many_9 ?_
  obtain ⟨r2, hc2, hf⟩ := Option.bind_eq_some_iff.mp hf
  refine x_callIv (q0 := 0) (ci := 3) (rest := []) C (c_X_tallyChoices r1 (0 : Int32) (1000000 : Int32) u hc2) kc_X_tallyChoices (rok (by decide) (by decide)) mm_X_88 ms_X_tallyChoices ml_X_tallyChoices rfl rfl rfl rfl (Nat.le_of_ble_eq_true rfl) d_X_many_11 ?_
  exact x_iret C hQ (Prod.mk.inj (Option.some.inj hf)).1 (Prod.mk.inj (Option.some.inj hf)).2 d_X_many_14
theorem c_X_many {l : Launch} {D : va_G} {cI : ClassId} {h : Nat → Nat} (u : PS) {r0 : Int32 × PS} (hf : f_X_many u = some r0) : CtI l y_X_many b_X_many 1 (some .int) (rk 14) D [(cI, .int)] (WX cI h) [.ref (h 0)] u r0.1 r0.2 := ct_ofI (by decide) (Nat.le_of_ble_eq_true rfl) (fun γ _ _ C hQ => w_X_many C hQ u hf)
-- ---- PackagePick.can(I)I
def f_X_can (a1 : Int32) (u : PS) : Option (Int32 × PS) :=
  if (f_X_isPackage a1) = 0 then
    some ((-1 : Int32), u)
  else
    (f_W_all u).bind fun r2 =>
    (f_X_tallyChoices r2 (0 : Int32) (1000000 : Int32) u).bind fun r3 =>
    if ((r3.2.1 11) &&& (f_X_markOf a1)) = 0 then
      some ((((r3.2.1 10) >>> ((f_X_placeOf a1) &&& 31)) &&& (15 : Int32)), r3.2)
    else
      some (((((r3.2.1 10) >>> ((f_X_placeOf a1) &&& 31)) &&& (15 : Int32)) ||| (16 : Int32)), r3.2)
set_option maxRecDepth 100000 in
set_option maxHeartbeats 4000000 in
theorem w_X_can {γ : CX} {cI : ClassId} {h : Nat → Nat} {r0 : Int32} {u0 : PS} (C : Cx γ b_X_can 3 (some .int) "PackagePick" (rk 14) [(cI, .int)]) (hQ : QI γ [(cI, .int)] (WX cI h) r0 u0) (a1 : Int32) (u : PS) (hf : f_X_can a1 u = some (r0, u0)) : AtG γ (WX cI h) 3 0 0 0 [(0, .ref (h 0)), (1, .int a1)] [] u := by
  unfold f_X_can at hf
  refine x_iload_n C d_X_can_0 rfl (k := 1) rfl ?_
  refine x_callIs (rest := []) C (c_X_isPackage a1) kc_X_isPackage (rok (by decide) (by decide)) mm_X_110 ms_X_isPackage rfl rfl (Nat.le_of_ble_eq_true rfl) d_X_can_1 ?_
  refine x_if_ne (tgt := 9) C d_X_can_4 (by decide) (fun hc => ?_) (fun hc => ?_)
  · rw [if_neg hc] at hf
    refine x_aload_n C d_X_can_9 rfl (k := 0) rfl ?_
    refine x_aload_n C d_X_can_10 rfl (k := 0) rfl ?_
    refine gX_X_wishes C mf_X_19 d_X_can_11 ?_
    obtain ⟨r2, hc2, hf⟩ := Option.bind_eq_some_iff.mp hf
    refine x_callIv (q0 := 2) (ci := 2) (rest := [.ref (h 0)]) C (c_W_all u hc2) kc_W_all (rok (by decide) (by decide)) mm_X_83 ms_W_all ml_W_all rfl rfl rfl rfl (Nat.le_of_ble_eq_true rfl) d_X_can_14 ?_
    refine x_iconst (v := 0) C d_X_can_17 (by decide) ?_
    refine x_ldc (v := 1000000) C mk_X_87 d_X_can_18 ?_
    obtain ⟨r3, hc3, hf⟩ := Option.bind_eq_some_iff.mp hf
    refine x_callIv (q0 := 0) (ci := 3) (rest := []) C (c_X_tallyChoices r2 (0 : Int32) (1000000 : Int32) u hc3) kc_X_tallyChoices (rok (by decide) (by decide)) mm_X_88 ms_X_tallyChoices ml_X_tallyChoices rfl rfl rfl rfl (Nat.le_of_ble_eq_true rfl) d_X_can_20 ?_
    refine x_pop C d_X_can_23 rfl ?_
    refine x_aload_n C d_X_can_24 rfl (k := 0) rfl ?_
    refine gX_X_tally C mf_X_26 d_X_can_25 ?_
    refine gX_T_seen (v := (r3.2.1 10)) C mf_X_116 rfl d_X_can_28 ?_
    refine x_iload_n C d_X_can_31 rfl (k := 1) rfl ?_
    refine x_callIs (rest := [.int (r3.2.1 10)]) C (c_X_placeOf a1) kc_X_placeOf (rok (by decide) (by decide)) mm_X_119 ms_X_placeOf rfl rfl (Nat.le_of_ble_eq_true rfl) d_X_can_32 ?_
    refine x_ishr C d_X_can_35 ?_
    refine x_bipush (v := 15) C d_X_can_36 (by decide) ?_
    refine x_iand C d_X_can_38 ?_
    refine x_istore_n (lv' := [(2, .int (((r3.2.1 10) >>> ((f_X_placeOf a1) &&& 31)) &&& (15 : Int32))), (0, .ref (h 0)), (1, .int a1)]) C d_X_can_39 rfl (by decide) rfl ?_
    refine x_aload_n C d_X_can_40 rfl (k := 1) rfl ?_
    refine gX_X_tally C mf_X_26 d_X_can_41 ?_
    refine gX_T_absent (v := (r3.2.1 11)) C mf_X_122 rfl d_X_can_44 ?_
    refine x_iload_n C d_X_can_47 rfl (k := 2) rfl ?_
    refine x_callIs (rest := [.int (r3.2.1 11)]) C (c_X_markOf a1) kc_X_markOf (rok (by decide) (by decide)) mm_X_56 ms_X_markOf rfl rfl (Nat.le_of_ble_eq_true rfl) d_X_can_48 ?_
    refine x_iand C d_X_can_51 ?_
    refine x_if_ne (tgt := 59) C d_X_can_52 (by decide) (fun hc => ?_) (fun hc => ?_)
    · rw [if_neg hc] at hf
      refine x_iload_n C d_X_can_59 rfl (k := 0) rfl ?_
      refine x_bipush (v := 16) C d_X_can_60 (by decide) ?_
      refine x_ior C d_X_can_62 ?_
      exact x_iret C hQ (Prod.mk.inj (Option.some.inj hf)).1 (Prod.mk.inj (Option.some.inj hf)).2 d_X_can_63
    · rw [if_pos hc] at hf
      refine x_iload_n C d_X_can_55 rfl (k := 0) rfl ?_
      refine x_goto (tgt := 63) C d_X_can_56 (by decide) ?_
      exact x_iret C hQ (Prod.mk.inj (Option.some.inj hf)).1 (Prod.mk.inj (Option.some.inj hf)).2 d_X_can_63
  · rw [if_pos hc] at hf
    refine x_iconst (v := -1) C d_X_can_7 (by decide) ?_
    exact x_iret C hQ (Prod.mk.inj (Option.some.inj hf)).1 (Prod.mk.inj (Option.some.inj hf)).2 d_X_can_8
theorem c_X_can {l : Launch} {D : va_G} {cI : ClassId} {h : Nat → Nat} (a1 : Int32) (u : PS) {r0 : Int32 × PS} (hf : f_X_can a1 u = some r0) : CtI l y_X_can b_X_can 3 (some .int) (rk 14) D [(cI, .int)] (WX cI h) [.ref (h 0), .int a1] u r0.1 r0.2 := ct_ofI (by decide) (Nat.le_of_ble_eq_true rfl) (fun γ _ _ C hQ => w_X_can C hQ a1 u hf)
-- ---- PackagePick.count(I)I
def f_X_count (a1 : Int32) (u : PS) : Option (Int32) :=
  if a1 = (0 : Int32) then
    some (f_J_bitCount (u.1 3))
  else
  if a1 = (1 : Int32) then
    (f_C_allNeeds u).bind fun r2 =>
    some r2
  else
  if a1 = (2 : Int32) then
    some (u.1 4)
  else
  if a1 = (3 : Int32) then
    some (u.1 5)
  else
  if a1 = (4 : Int32) then
    some (f_J_bitCount (u.1 0))
  else
  if a1 = (5 : Int32) then
    some (f_J_bitCount (u.1 1))
  else
  if a1 = (6 : Int32) then
    some (f_X_differing (u.1 0) (u.1 1))
  else
  some (-1 : Int32)
set_option maxRecDepth 100000 in
set_option maxHeartbeats 4000000 in
theorem w_X_count {γ : CX} {cI : ClassId} {h : Nat → Nat} {u : PS} {r0 : Int32} (C : Cx γ b_X_count 2 (some .int) "PackagePick" (rk 2) [(cI, .int)]) (hQ : QI γ [(cI, .int)] (WX cI h) r0 u) (a1 : Int32) (hf : f_X_count a1 u = some r0) : AtG γ (WX cI h) 2 0 0 0 [(0, .ref (h 0)), (1, .int a1)] [] u := by
  unfold f_X_count at hf
  refine x_iload_n C d_X_count_0 rfl (k := 1) rfl ?_
  by_cases hc0 : a1 = (0 : Int32)
  · rw [if_pos hc0] at hf
    refine x_tsw (tgt := 44) C d_X_count_1 hc0 rfl (by decide) ?_
    refine x_aload_n C d_X_count_44 rfl (k := 0) rfl ?_
    refine gX_X_catalog C mf_X_12 d_X_count_45 ?_
    refine gX_C_there (v := (u.1 3)) C mf_X_133 rfl d_X_count_48 ?_
    refine x_callIs (rest := []) C (c_J_bitCount (u.1 3)) kc_J_bitCount (rok (by decide) (by decide)) mm_X_102 ms_J_bitCount rfl rfl (Nat.le_of_ble_eq_true rfl) d_X_count_51 ?_
    exact x_iret C hQ (Option.some.inj hf) rfl d_X_count_54
  rw [if_neg hc0] at hf
  by_cases hc1 : a1 = (1 : Int32)
  · rw [if_pos hc1] at hf
    refine x_tsw (tgt := 55) C d_X_count_1 hc1 rfl (by decide) ?_
    refine x_aload_n C d_X_count_55 rfl (k := 0) rfl ?_
    refine gX_X_catalog C mf_X_12 d_X_count_56 ?_
    obtain ⟨r2, hc2, hf⟩ := Option.bind_eq_some_iff.mp hf
    refine x_callIv (q0 := 1) (ci := 0) (rest := []) C (c_C_allNeeds u hc2) kc_C_allNeeds (rok (by decide) (by decide)) mm_X_136 ms_C_allNeeds ml_C_allNeeds rfl rfl rfl rfl (Nat.le_of_ble_eq_true rfl) d_X_count_59 ?_
    exact x_iret C hQ (Option.some.inj hf) rfl d_X_count_62
  rw [if_neg hc1] at hf
  by_cases hc2 : a1 = (2 : Int32)
  · rw [if_pos hc2] at hf
    refine x_tsw (tgt := 63) C d_X_count_1 hc2 rfl (by decide) ?_
    refine x_aload_n C d_X_count_63 rfl (k := 0) rfl ?_
    refine gX_X_catalog C mf_X_12 d_X_count_64 ?_
    refine gX_C_bans (v := (u.1 4)) C mf_X_139 rfl d_X_count_67 ?_
    exact x_iret C hQ (Option.some.inj hf) rfl d_X_count_70
  rw [if_neg hc2] at hf
  by_cases hc3 : a1 = (3 : Int32)
  · rw [if_pos hc3] at hf
    refine x_tsw (tgt := 71) C d_X_count_1 hc3 rfl (by decide) ?_
    refine x_aload_n C d_X_count_71 rfl (k := 0) rfl ?_
    refine gX_X_wishes C mf_X_19 d_X_count_72 ?_
    refine gX_W_size (v := (u.1 5)) C mf_X_142 rfl d_X_count_75 ?_
    exact x_iret C hQ (Option.some.inj hf) rfl d_X_count_78
  rw [if_neg hc3] at hf
  by_cases hc4 : a1 = (4 : Int32)
  · rw [if_pos hc4] at hf
    refine x_tsw (tgt := 79) C d_X_count_1 hc4 rfl (by decide) ?_
    refine x_aload_n C d_X_count_79 rfl (k := 0) rfl ?_
    refine gX_X_told (v := (u.1 0)) C mf_X_30 rfl d_X_count_80 ?_
    refine x_callIs (rest := []) C (c_J_bitCount (u.1 0)) kc_J_bitCount (rok (by decide) (by decide)) mm_X_102 ms_J_bitCount rfl rfl (Nat.le_of_ble_eq_true rfl) d_X_count_83 ?_
    exact x_iret C hQ (Option.some.inj hf) rfl d_X_count_86
  rw [if_neg hc4] at hf
  by_cases hc5 : a1 = (5 : Int32)
  · rw [if_pos hc5] at hf
    refine x_tsw (tgt := 87) C d_X_count_1 hc5 rfl (by decide) ?_
    refine x_aload_n C d_X_count_87 rfl (k := 0) rfl ?_
    refine gX_X_kept (v := (u.1 1)) C mf_X_34 rfl d_X_count_88 ?_
    refine x_callIs (rest := []) C (c_J_bitCount (u.1 1)) kc_J_bitCount (rok (by decide) (by decide)) mm_X_102 ms_J_bitCount rfl rfl (Nat.le_of_ble_eq_true rfl) d_X_count_91 ?_
    exact x_iret C hQ (Option.some.inj hf) rfl d_X_count_94
  rw [if_neg hc5] at hf
  by_cases hc6 : a1 = (6 : Int32)
  · rw [if_pos hc6] at hf
    refine x_tsw (tgt := 95) C d_X_count_1 hc6 rfl (by decide) ?_
    refine x_aload_n C d_X_count_95 rfl (k := 0) rfl ?_
    refine gX_X_told (v := (u.1 0)) C mf_X_30 rfl d_X_count_96 ?_
    refine x_aload_n C d_X_count_99 rfl (k := 0) rfl ?_
    refine gX_X_kept (v := (u.1 1)) C mf_X_34 rfl d_X_count_100 ?_
    refine x_callIs (rest := []) C (c_X_differing (u.1 0) (u.1 1)) kc_X_differing (rok (by decide) (by decide)) mm_X_107 ms_X_differing rfl rfl (Nat.le_of_ble_eq_true rfl) d_X_count_103 ?_
    exact x_iret C hQ (Option.some.inj hf) rfl d_X_count_106
  rw [if_neg hc6] at hf
  refine x_tswo (tgt := 107) C d_X_count_1 (sw_out_0_6 hc0 hc1 hc2 hc3 hc4 hc5 hc6) (by decide) ?_
  refine x_iconst (v := -1) C d_X_count_107 (by decide) ?_
  exact x_iret C hQ (Option.some.inj hf) rfl d_X_count_108
theorem c_X_count {l : Launch} {D : va_G} {cI : ClassId} {h : Nat → Nat} (a1 : Int32) (u : PS) {r0 : Int32} (hf : f_X_count a1 u = some r0) : CtI l y_X_count b_X_count 2 (some .int) (rk 2) D [(cI, .int)] (WX cI h) [.ref (h 0), .int a1] u r0 u := ct_ofI (by decide) (Nat.le_of_ble_eq_true rfl) (fun γ _ _ C hQ => w_X_count C hQ a1 hf)
-- ---- PackagePick.fewestHindering()I
def b_X_fewestHindering_18 (k10 : Int32 → Int32 → PS → Option (Int32 × PS)) (k18 : Int32 → Int32 → Int32 → PS → Option (Int32 × PS)) (x1 : Int32) (x2 : Int32) (x3 : Int32) (u : PS) : Option (Int32 × PS) :=
  if x3 ≤ 0 then
    k10 x1 (x2 + (1 : Int32)) u
  else
    if (x3 &&& (x1 ^^^ (-1 : Int32))) = 0 then
      if (f_J_bitCount x3) = x2 then
        (f_X_tallyChoices x3 (0 : Int32) (1 : Int32) u).bind fun r3 =>
        if r3.1 = 0 then
          some (x3, r3.2)
        else
          k18 x1 x2 (x3 + (-1 : Int32)) r3.2
      else
        k18 x1 x2 (x3 + (-1 : Int32)) u
    else
      k18 x1 x2 (x3 + (-1 : Int32)) u
set_option maxRecDepth 100000 in
set_option maxHeartbeats 4000000 in
theorem w_X_fewestHindering_18 {γ : CX} {cI : ClassId} {h : Nat → Nat} {r0 : Int32} {u0 : PS} (C : Cx γ b_X_fewestHindering 4 (some .int) "PackagePick" (rk 14) [(cI, .int)]) (hQ : QI γ [(cI, .int)] (WX cI h) r0 u0) (k10 : Int32 → Int32 → PS → Option (Int32 × PS)) (k18 : Int32 → Int32 → Int32 → PS → Option (Int32 × PS)) (hk10 : ∀ (x1 : Int32) (x2 : Int32) (u : PS), k10 x1 x2 u = some (r0, u0) → AtG γ (WX cI h) 4 0 0 10 [(0, .ref (h 0)), (1, .int x1), (2, .int x2)] [] u) (hk18 : ∀ (x1 : Int32) (x2 : Int32) (x3 : Int32) (u : PS), k18 x1 x2 x3 u = some (r0, u0) → AtG γ (WX cI h) 4 0 0 18 [(0, .ref (h 0)), (1, .int x1), (2, .int x2), (3, .int x3)] [] u) (x1 : Int32) (x2 : Int32) (x3 : Int32) (u : PS) (hf : b_X_fewestHindering_18 k10 k18 x1 x2 x3 u = some (r0, u0)) : AtG γ (WX cI h) 4 0 0 18 [(0, .ref (h 0)), (1, .int x1), (2, .int x2), (3, .int x3)] [] u := by
  unfold b_X_fewestHindering_18 at hf
  refine x_iload_n C d_X_fewestHindering_18 rfl (k := 3) rfl ?_
  refine x_if_le (tgt := 56) C d_X_fewestHindering_19 (by decide) (fun hc => ?_) (fun hc => ?_)
  · rw [if_pos hc] at hf
    refine x_iinc (v := (x2 + (1 : Int32))) (lv' := [(2, .int (x2 + (1 : Int32))), (0, .ref (h 0)), (1, .int x1), (3, .int x3)]) C d_X_fewestHindering_56 (k := 2) rfl rfl (by decide) rfl ?_
    refine x_goto (tgt := 10) C d_X_fewestHindering_59 (by decide) ?_
    refine x_sub (lv' := [(0, .ref (h 0)), (1, .int x1), (2, .int (x2 + (1 : Int32)))]) [1, 2, 0] rfl ?_
    exact hk10 x1 (x2 + (1 : Int32)) u hf
  · rw [if_neg hc] at hf
    refine x_iload_n C d_X_fewestHindering_22 rfl (k := 3) rfl ?_
    refine x_iload_n C d_X_fewestHindering_23 rfl (k := 1) rfl ?_
    refine x_iconst (v := -1) C d_X_fewestHindering_24 (by decide) ?_
    refine x_ixor C d_X_fewestHindering_25 ?_
    refine x_iand C d_X_fewestHindering_26 ?_
    refine x_if_ne (tgt := 50) C d_X_fewestHindering_27 (by decide) (fun hc => ?_) (fun hc => ?_)
    · rw [if_neg hc] at hf
      refine x_iinc (v := (x3 + (-1 : Int32))) (lv' := [(3, .int (x3 + (-1 : Int32))), (0, .ref (h 0)), (1, .int x1), (2, .int x2)]) C d_X_fewestHindering_50 (k := 3) rfl rfl (by decide) rfl ?_
      refine x_goto (tgt := 18) C d_X_fewestHindering_53 (by decide) ?_
      refine x_sub (lv' := [(0, .ref (h 0)), (1, .int x1), (2, .int x2), (3, .int (x3 + (-1 : Int32)))]) [1, 2, 3, 0] rfl ?_
      exact hk18 x1 x2 (x3 + (-1 : Int32)) u hf
    · rw [if_pos hc] at hf
      refine x_iload_n C d_X_fewestHindering_30 rfl (k := 3) rfl ?_
      refine x_callIs (rest := []) C (c_J_bitCount x3) kc_J_bitCount (rok (by decide) (by decide)) mm_X_102 ms_J_bitCount rfl rfl (Nat.le_of_ble_eq_true rfl) d_X_fewestHindering_31 ?_
      refine x_iload_n C d_X_fewestHindering_34 rfl (k := 2) rfl ?_
      refine x_icmp_ne (tgt := 50) C d_X_fewestHindering_35 (by decide) (fun hc => ?_) (fun hc => ?_)
      · rw [if_neg hc] at hf
        refine x_iinc (v := (x3 + (-1 : Int32))) (lv' := [(3, .int (x3 + (-1 : Int32))), (0, .ref (h 0)), (1, .int x1), (2, .int x2)]) C d_X_fewestHindering_50 (k := 3) rfl rfl (by decide) rfl ?_
        refine x_goto (tgt := 18) C d_X_fewestHindering_53 (by decide) ?_
        refine x_sub (lv' := [(0, .ref (h 0)), (1, .int x1), (2, .int x2), (3, .int (x3 + (-1 : Int32)))]) [1, 2, 3, 0] rfl ?_
        exact hk18 x1 x2 (x3 + (-1 : Int32)) u hf
      · rw [if_pos hc] at hf
        refine x_aload_n C d_X_fewestHindering_38 rfl (k := 0) rfl ?_
        refine x_iload_n C d_X_fewestHindering_39 rfl (k := 3) rfl ?_
        refine x_iconst (v := 0) C d_X_fewestHindering_40 (by decide) ?_
        refine x_iconst (v := 1) C d_X_fewestHindering_41 (by decide) ?_
        obtain ⟨r3, hc3, hf⟩ := Option.bind_eq_some_iff.mp hf
        refine x_callIv (q0 := 0) (ci := 3) (rest := []) C (c_X_tallyChoices x3 (0 : Int32) (1 : Int32) u hc3) kc_X_tallyChoices (rok (by decide) (by decide)) mm_X_88 ms_X_tallyChoices ml_X_tallyChoices rfl rfl rfl rfl (Nat.le_of_ble_eq_true rfl) d_X_fewestHindering_42 ?_
        refine x_if_ne (tgt := 50) C d_X_fewestHindering_45 (by decide) (fun hc => ?_) (fun hc => ?_)
        · rw [if_neg hc] at hf
          refine x_iinc (v := (x3 + (-1 : Int32))) (lv' := [(3, .int (x3 + (-1 : Int32))), (0, .ref (h 0)), (1, .int x1), (2, .int x2)]) C d_X_fewestHindering_50 (k := 3) rfl rfl (by decide) rfl ?_
          refine x_goto (tgt := 18) C d_X_fewestHindering_53 (by decide) ?_
          refine x_sub (lv' := [(0, .ref (h 0)), (1, .int x1), (2, .int x2), (3, .int (x3 + (-1 : Int32)))]) [1, 2, 3, 0] rfl ?_
          exact hk18 x1 x2 (x3 + (-1 : Int32)) r3.2 hf
        · rw [if_pos hc] at hf
          refine x_iload_n C d_X_fewestHindering_48 rfl (k := 3) rfl ?_
          exact x_iret C hQ (Prod.mk.inj (Option.some.inj hf)).1 (Prod.mk.inj (Option.some.inj hf)).2 d_X_fewestHindering_49
def l_X_fewestHindering_18 (k10 : Int32 → Int32 → PS → Option (Int32 × PS)) : Nat → Int32 → Int32 → Int32 → PS → Option (Int32 × PS)
  | 0 => fun _ _ _ _ => none
  | n + 1 => b_X_fewestHindering_18 k10 (l_X_fewestHindering_18 k10 n)
theorem wl_X_fewestHindering_18 {γ : CX} {cI : ClassId} {h : Nat → Nat} {r0 : Int32} {u0 : PS} (C : Cx γ b_X_fewestHindering 4 (some .int) "PackagePick" (rk 14) [(cI, .int)]) (hQ : QI γ [(cI, .int)] (WX cI h) r0 u0) (k10 : Int32 → Int32 → PS → Option (Int32 × PS)) (hk10 : ∀ (x1 : Int32) (x2 : Int32) (u : PS), k10 x1 x2 u = some (r0, u0) → AtG γ (WX cI h) 4 0 0 10 [(0, .ref (h 0)), (1, .int x1), (2, .int x2)] [] u) (n : Nat) : ∀ (x1 : Int32) (x2 : Int32) (x3 : Int32) (u : PS), l_X_fewestHindering_18 k10 n x1 x2 x3 u = some (r0, u0) → AtG γ (WX cI h) 4 0 0 18 [(0, .ref (h 0)), (1, .int x1), (2, .int x2), (3, .int x3)] [] u := by
  induction n with
  | zero => intro x1 x2 x3 u hf; cases hf
  | succ n ih => intro x1 x2 x3 u hf; exact w_X_fewestHindering_18 C hQ k10 (l_X_fewestHindering_18 k10 n) hk10 ih x1 x2 x3 u hf
def b_X_fewestHindering_10 (k10 : Int32 → Int32 → PS → Option (Int32 × PS)) (x1 : Int32) (x2 : Int32) (u : PS) : Option (Int32 × PS) :=
  if (6 : Int32) < x2 then
    some ((0 : Int32), u)
  else
    l_X_fewestHindering_18 k10 NF x1 x2 x1 u
set_option maxRecDepth 100000 in
set_option maxHeartbeats 4000000 in
theorem w_X_fewestHindering_10 {γ : CX} {cI : ClassId} {h : Nat → Nat} {r0 : Int32} {u0 : PS} (C : Cx γ b_X_fewestHindering 4 (some .int) "PackagePick" (rk 14) [(cI, .int)]) (hQ : QI γ [(cI, .int)] (WX cI h) r0 u0) (k10 : Int32 → Int32 → PS → Option (Int32 × PS)) (hk10 : ∀ (x1 : Int32) (x2 : Int32) (u : PS), k10 x1 x2 u = some (r0, u0) → AtG γ (WX cI h) 4 0 0 10 [(0, .ref (h 0)), (1, .int x1), (2, .int x2)] [] u) (x1 : Int32) (x2 : Int32) (u : PS) (hf : b_X_fewestHindering_10 k10 x1 x2 u = some (r0, u0)) : AtG γ (WX cI h) 4 0 0 10 [(0, .ref (h 0)), (1, .int x1), (2, .int x2)] [] u := by
  unfold b_X_fewestHindering_10 at hf
  refine x_iload_n C d_X_fewestHindering_10 rfl (k := 2) rfl ?_
  refine x_bipush (v := 6) C d_X_fewestHindering_11 (by decide) ?_
  refine x_icmp_gt (tgt := 62) C d_X_fewestHindering_13 (by decide) (fun hc => ?_) (fun hc => ?_)
  · rw [if_pos hc] at hf
    refine x_iconst (v := 0) C d_X_fewestHindering_62 (by decide) ?_
    exact x_iret C hQ (Prod.mk.inj (Option.some.inj hf)).1 (Prod.mk.inj (Option.some.inj hf)).2 d_X_fewestHindering_63
  · rw [if_neg hc] at hf
    refine x_iload_n C d_X_fewestHindering_16 rfl (k := 1) rfl ?_
    refine x_istore_n (lv' := [(3, .int x1), (0, .ref (h 0)), (1, .int x1), (2, .int x2)]) C d_X_fewestHindering_17 rfl (by decide) rfl ?_
    refine x_sub (lv' := [(0, .ref (h 0)), (1, .int x1), (2, .int x2), (3, .int x1)]) [1, 2, 3, 0] rfl ?_
    exact wl_X_fewestHindering_18 C hQ k10 hk10 NF x1 x2 x1 u hf
def l_X_fewestHindering_10 : Nat → Int32 → Int32 → PS → Option (Int32 × PS)
  | 0 => fun _ _ _ => none
  | n + 1 => b_X_fewestHindering_10 (l_X_fewestHindering_10 n)
theorem wl_X_fewestHindering_10 {γ : CX} {cI : ClassId} {h : Nat → Nat} {r0 : Int32} {u0 : PS} (C : Cx γ b_X_fewestHindering 4 (some .int) "PackagePick" (rk 14) [(cI, .int)]) (hQ : QI γ [(cI, .int)] (WX cI h) r0 u0) (n : Nat) : ∀ (x1 : Int32) (x2 : Int32) (u : PS), l_X_fewestHindering_10 n x1 x2 u = some (r0, u0) → AtG γ (WX cI h) 4 0 0 10 [(0, .ref (h 0)), (1, .int x1), (2, .int x2)] [] u := by
  induction n with
  | zero => intro x1 x2 u hf; cases hf
  | succ n ih => intro x1 x2 u hf; exact w_X_fewestHindering_10 C hQ (l_X_fewestHindering_10 n) ih x1 x2 u hf
def f_X_fewestHindering (u : PS) : Option (Int32 × PS) :=
  (f_W_all u).bind fun r1 =>
  l_X_fewestHindering_10 NF r1 (1 : Int32) u
set_option maxRecDepth 100000 in
set_option maxHeartbeats 4000000 in
theorem w_X_fewestHindering {γ : CX} {cI : ClassId} {h : Nat → Nat} {r0 : Int32} {u0 : PS} (C : Cx γ b_X_fewestHindering 4 (some .int) "PackagePick" (rk 14) [(cI, .int)]) (hQ : QI γ [(cI, .int)] (WX cI h) r0 u0) (u : PS) (hf : f_X_fewestHindering u = some (r0, u0)) : AtG γ (WX cI h) 4 0 0 0 [(0, .ref (h 0))] [] u := by
  unfold f_X_fewestHindering at hf
  refine x_aload_n C d_X_fewestHindering_0 rfl (k := 0) rfl ?_
  refine gX_X_wishes C mf_X_19 d_X_fewestHindering_1 ?_
  obtain ⟨r1, hc1, hf⟩ := Option.bind_eq_some_iff.mp hf
  refine x_callIv (q0 := 2) (ci := 2) (rest := []) C (c_W_all u hc1) kc_W_all (rok (by decide) (by decide)) mm_X_83 ms_W_all ml_W_all rfl rfl rfl rfl (Nat.le_of_ble_eq_true rfl) d_X_fewestHindering_4 ?_
  refine x_istore_n (lv' := [(1, .int r1), (0, .ref (h 0))]) C d_X_fewestHindering_7 rfl (by decide) rfl ?_
  refine x_iconst (v := 1) C d_X_fewestHindering_8 (by decide) ?_
  refine x_istore_n (lv' := [(2, .int (1 : Int32)), (1, .int r1), (0, .ref (h 0))]) C d_X_fewestHindering_9 rfl (by decide) rfl ?_
  refine x_sub (lv' := [(0, .ref (h 0)), (1, .int r1), (2, .int (1 : Int32))]) [2, 1, 0] rfl ?_
  exact wl_X_fewestHindering_10 C hQ NF r1 (1 : Int32) u hf
theorem c_X_fewestHindering {l : Launch} {D : va_G} {cI : ClassId} {h : Nat → Nat} (u : PS) {r0 : Int32 × PS} (hf : f_X_fewestHindering u = some r0) : CtI l y_X_fewestHindering b_X_fewestHindering 4 (some .int) (rk 14) D [(cI, .int)] (WX cI h) [.ref (h 0)] u r0.1 r0.2 := ct_ofI (by decide) (Nat.le_of_ble_eq_true rfl) (fun γ _ _ C hQ => w_X_fewestHindering C hQ u hf)
