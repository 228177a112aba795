-- ---- PackagePickModel.thrown()I
def f_M_thrown (u : PS) : Int32 :=
  (u.1 0)
set_option maxRecDepth 100000 in
set_option maxHeartbeats 4000000 in
theorem w_M_thrown {γ : CX} {cI cZ : ClassId} {h : Nat → Nat} {u : PS} {r0 : Int32} (C : Cx γ b_M_thrown 1 (some .int) "PackagePickModel" (rk 0) [(cI, .int), (cZ, .boolean)]) (hQ : QI γ [(cI, .int), (cZ, .boolean)] (WM cI cZ h) r0 u) (hf : f_M_thrown u = r0) : AtG γ (WM cI cZ h) 1 0 0 0 [(0, .ref (h 0))] [] u := by
  unfold f_M_thrown at hf
  refine x_aload_n C d_M_thrown_0 rfl (k := 0) rfl ?_
  refine gM_M_thrown (v := (u.1 0)) C mf_M_56 rfl d_M_thrown_1 ?_
  exact x_iret C hQ hf rfl d_M_thrown_4
theorem c_M_thrown {l : Launch} {D : va_G} {cI cZ : ClassId} {h : Nat → Nat} (u : PS) : CtI l y_M_thrown b_M_thrown 1 (some .int) (rk 0) D [(cI, .int), (cZ, .boolean)] (WM cI cZ h) [.ref (h 0)] u (f_M_thrown u) u := ct_ofI (by decide) (Nat.le_of_ble_eq_true rfl) (fun γ _ _ C hQ => w_M_thrown C hQ rfl)
-- ---- PackagePickModel.raise(I)I
def f_M_raise (a1 : Int32) (u : PS) : Int32 × PS :=
  ((0 : Int32), (si u 0 a1))
set_option maxRecDepth 100000 in
set_option maxHeartbeats 4000000 in
theorem w_M_raise {γ : CX} {cI cZ : ClassId} {h : Nat → Nat} {r0 : Int32} {u0 : PS} (C : Cx γ b_M_raise 2 (some .int) "PackagePickModel" (rk 0) [(cI, .int), (cZ, .boolean)]) (hQ : QI γ [(cI, .int), (cZ, .boolean)] (WM cI cZ h) r0 u0) (a1 : Int32) (u : PS) (hf : f_M_raise a1 u = (r0, u0)) : AtG γ (WM cI cZ h) 2 0 0 0 [(0, .ref (h 0)), (1, .int a1)] [] u := by
  unfold f_M_raise at hf
  refine x_aload_n C d_M_raise_0 rfl (k := 0) rfl ?_
  refine x_iload_n C d_M_raise_1 rfl (k := 1) rfl ?_
  refine pM_M_thrown C mf_M_56 d_M_raise_2 ?_
  refine x_iconst (v := 0) C d_M_raise_5 (by decide) ?_
  exact x_iret C hQ (Prod.mk.inj hf).1 (Prod.mk.inj hf).2 d_M_raise_6
theorem c_M_raise {l : Launch} {D : va_G} {cI cZ : ClassId} {h : Nat → Nat} (a1 : Int32) (u : PS) : CtI l y_M_raise b_M_raise 2 (some .int) (rk 0) D [(cI, .int), (cZ, .boolean)] (WM cI cZ h) [.ref (h 0), .int a1] u (f_M_raise a1 u).1 (f_M_raise a1 u).2 := ct_ofI (by decide) (Nat.le_of_ble_eq_true rfl) (fun γ _ _ C hQ => w_M_raise C hQ a1 u rfl)
-- ---- PackagePickModel.isPackage(I)Z
def f_M_isPackage (a0 : Int32) : Int32 :=
  if a0 < 0 then
    (0 : Int32)
  else
    if (7 : Int32) ≤ a0 then
      (0 : Int32)
    else
      (1 : Int32)
set_option maxRecDepth 100000 in
set_option maxHeartbeats 4000000 in
theorem w_M_isPackage {γ : CX} {S : Type} {wf : S → va_W} {tys : Tys} {u : S} {r0 : Int32} (C : Cx γ b_M_isPackage 1 (some .boolean) "PackagePickModel" (rk 0) tys) (hQ : QI γ tys wf r0 u) (a0 : Int32) (hf : f_M_isPackage a0 = r0) : AtG γ wf 1 0 0 0 [(0, .int a0)] [] u := by
  unfold f_M_isPackage at hf
  refine x_iload_n C d_M_isPackage_0 rfl (k := 0) rfl ?_
  refine x_if_lt (tgt := 14) C d_M_isPackage_1 (by decide) (fun hc => ?_) (fun hc => ?_)
  · rw [if_pos hc] at hf
    refine x_iconst (v := 0) C d_M_isPackage_14 (by decide) ?_
    exact x_zret C hQ rfl hf rfl d_M_isPackage_15
  · rw [if_neg hc] at hf
    refine x_iload_n C d_M_isPackage_4 rfl (k := 0) rfl ?_
    refine x_bipush (v := 7) C d_M_isPackage_5 (by decide) ?_
    refine x_icmp_ge (tgt := 14) C d_M_isPackage_7 (by decide) (fun hc => ?_) (fun hc => ?_)
    · rw [if_pos hc] at hf
      refine x_iconst (v := 0) C d_M_isPackage_14 (by decide) ?_
      exact x_zret C hQ rfl hf rfl d_M_isPackage_15
    · rw [if_neg hc] at hf
      refine x_iconst (v := 1) C d_M_isPackage_10 (by decide) ?_
      refine x_goto (tgt := 15) C d_M_isPackage_11 (by decide) ?_
      exact x_zret C hQ rfl hf rfl d_M_isPackage_15
theorem c_M_isPackage {S : Type} {l : Launch} {D : va_G} {tys : Tys} {wf : S → va_W} {u : S} (a0 : Int32) : CtI l y_M_isPackage b_M_isPackage 1 (some .boolean) (rk 0) D tys wf [.int a0] u (f_M_isPackage a0) u := ct_ofI (by decide) (Nat.le_of_ble_eq_true rfl) (fun γ _ _ C hQ => w_M_isPackage C hQ a0 rfl)
-- ---- PackagePickModel.isVersion(II)Z
def f_M_isVersion (a0 : Int32) (a1 : Int32) : Int32 :=
  if (f_M_isPackage a0) = 0 then
    (0 : Int32)
  else
    if a1 < 0 then
      (0 : Int32)
    else
      if (4 : Int32) ≤ a1 then
        (0 : Int32)
      else
        (1 : Int32)
set_option maxRecDepth 100000 in
set_option maxHeartbeats 4000000 in
theorem w_M_isVersion {γ : CX} {S : Type} {wf : S → va_W} {tys : Tys} {u : S} {r0 : Int32} (C : Cx γ b_M_isVersion 2 (some .boolean) "PackagePickModel" (rk 1) tys) (hQ : QI γ tys wf r0 u) (a0 : Int32) (a1 : Int32) (hf : f_M_isVersion a0 a1 = r0) : AtG γ wf 2 0 0 0 [(0, .int a0), (1, .int a1)] [] u := by
  unfold f_M_isVersion at hf
  refine x_iload_n C d_M_isVersion_0 rfl (k := 0) rfl ?_
  refine x_callIs (rest := []) C (c_M_isPackage a0) kc_M_isPackage (rok (by decide) (by decide)) mm_M_60 ms_M_isPackage rfl rfl (Nat.le_of_ble_eq_true rfl) d_M_isVersion_1 ?_
  refine x_if_eq (tgt := 20) C d_M_isVersion_4 (by decide) (fun hc => ?_) (fun hc => ?_)
  · rw [if_pos hc] at hf
    refine x_iconst (v := 0) C d_M_isVersion_20 (by decide) ?_
    exact x_zret C hQ rfl hf rfl d_M_isVersion_21
  · rw [if_neg hc] at hf
    refine x_iload_n C d_M_isVersion_7 rfl (k := 1) rfl ?_
    refine x_if_lt (tgt := 20) C d_M_isVersion_8 (by decide) (fun hc => ?_) (fun hc => ?_)
    · rw [if_pos hc] at hf
      refine x_iconst (v := 0) C d_M_isVersion_20 (by decide) ?_
      exact x_zret C hQ rfl hf rfl d_M_isVersion_21
    · rw [if_neg hc] at hf
      refine x_iload_n C d_M_isVersion_11 rfl (k := 1) rfl ?_
      refine x_iconst (v := 4) C d_M_isVersion_12 (by decide) ?_
      refine x_icmp_ge (tgt := 20) C d_M_isVersion_13 (by decide) (fun hc => ?_) (fun hc => ?_)
      · rw [if_pos hc] at hf
        refine x_iconst (v := 0) C d_M_isVersion_20 (by decide) ?_
        exact x_zret C hQ rfl hf rfl d_M_isVersion_21
      · rw [if_neg hc] at hf
        refine x_iconst (v := 1) C d_M_isVersion_16 (by decide) ?_
        refine x_goto (tgt := 21) C d_M_isVersion_17 (by decide) ?_
        exact x_zret C hQ rfl hf rfl d_M_isVersion_21
theorem c_M_isVersion {S : Type} {l : Launch} {D : va_G} {tys : Tys} {wf : S → va_W} {u : S} (a0 : Int32) (a1 : Int32) : CtI l y_M_isVersion b_M_isVersion 2 (some .boolean) (rk 1) D tys wf [.int a0, .int a1] u (f_M_isVersion a0 a1) u := ct_ofI (by decide) (Nat.le_of_ble_eq_true rfl) (fun γ _ _ C hQ => w_M_isVersion C hQ a0 a1 rfl)
-- ---- PackagePickModel.isNeed(III)Z
def f_M_isNeed (a0 : Int32) (a1 : Int32) (a2 : Int32) : Int32 :=
  if (f_M_isPackage a0) = 0 then
    (0 : Int32)
  else
    if a1 < 0 then
      (0 : Int32)
    else
      if (4 : Int32) ≤ a2 then
        (0 : Int32)
      else
        if a2 < a1 then
          (0 : Int32)
        else
          (1 : Int32)
set_option maxRecDepth 100000 in
set_option maxHeartbeats 4000000 in
theorem w_M_isNeed {γ : CX} {S : Type} {wf : S → va_W} {tys : Tys} {u : S} {r0 : Int32} (C : Cx γ b_M_isNeed 3 (some .boolean) "PackagePickModel" (rk 1) tys) (hQ : QI γ tys wf r0 u) (a0 : Int32) (a1 : Int32) (a2 : Int32) (hf : f_M_isNeed a0 a1 a2 = r0) : AtG γ wf 3 0 0 0 [(0, .int a0), (1, .int a1), (2, .int a2)] [] u := by
  unfold f_M_isNeed at hf
  refine x_iload_n C d_M_isNeed_0 rfl (k := 0) rfl ?_
  refine x_callIs (rest := []) C (c_M_isPackage a0) kc_M_isPackage (rok (by decide) (by decide)) mm_M_60 ms_M_isPackage rfl rfl (Nat.le_of_ble_eq_true rfl) d_M_isNeed_1 ?_
  refine x_if_eq (tgt := 25) C d_M_isNeed_4 (by decide) (fun hc => ?_) (fun hc => ?_)
  · rw [if_pos hc] at hf
    refine x_iconst (v := 0) C d_M_isNeed_25 (by decide) ?_
    exact x_zret C hQ rfl hf rfl d_M_isNeed_26
  · rw [if_neg hc] at hf
    refine x_iload_n C d_M_isNeed_7 rfl (k := 1) rfl ?_
    refine x_if_lt (tgt := 25) C d_M_isNeed_8 (by decide) (fun hc => ?_) (fun hc => ?_)
    · rw [if_pos hc] at hf
      refine x_iconst (v := 0) C d_M_isNeed_25 (by decide) ?_
      exact x_zret C hQ rfl hf rfl d_M_isNeed_26
    · rw [if_neg hc] at hf
      refine x_iload_n C d_M_isNeed_11 rfl (k := 2) rfl ?_
      refine x_iconst (v := 4) C d_M_isNeed_12 (by decide) ?_
      refine x_icmp_ge (tgt := 25) C d_M_isNeed_13 (by decide) (fun hc => ?_) (fun hc => ?_)
      · rw [if_pos hc] at hf
        refine x_iconst (v := 0) C d_M_isNeed_25 (by decide) ?_
        exact x_zret C hQ rfl hf rfl d_M_isNeed_26
      · rw [if_neg hc] at hf
        refine x_iload_n C d_M_isNeed_16 rfl (k := 1) rfl ?_
        refine x_iload_n C d_M_isNeed_17 rfl (k := 2) rfl ?_
        refine x_icmp_gt (tgt := 25) C d_M_isNeed_18 (by decide) (fun hc => ?_) (fun hc => ?_)
        · rw [if_pos hc] at hf
          refine x_iconst (v := 0) C d_M_isNeed_25 (by decide) ?_
          exact x_zret C hQ rfl hf rfl d_M_isNeed_26
        · rw [if_neg hc] at hf
          refine x_iconst (v := 1) C d_M_isNeed_21 (by decide) ?_
          refine x_goto (tgt := 26) C d_M_isNeed_22 (by decide) ?_
          exact x_zret C hQ rfl hf rfl d_M_isNeed_26
theorem c_M_isNeed {S : Type} {l : Launch} {D : va_G} {tys : Tys} {wf : S → va_W} {u : S} (a0 : Int32) (a1 : Int32) (a2 : Int32) : CtI l y_M_isNeed b_M_isNeed 3 (some .boolean) (rk 1) D tys wf [.int a0, .int a1, .int a2] u (f_M_isNeed a0 a1 a2) u := ct_ofI (by decide) (Nat.le_of_ble_eq_true rfl) (fun γ _ _ C hQ => w_M_isNeed C hQ a0 a1 a2 rfl)
-- ---- PackagePickModel.version(II)Z
def f_M_version (a1 : Int32) (a2 : Int32) (u : PS) : Option (Int32 × PS) :=
  if (f_M_isVersion a1 a2) = 0 then
    some ((0 : Int32), (si u 0 (0 : Int32)))
  else
    ck (inb (((4 : Int32) * a1) + a2) 28) <|
    if (u.2 0 (((4 : Int32) * a1) + a2).toNatClampNeg) = 0 then
      ck (inb (((4 : Int32) * a1) + a2) 28) <|
      ck (inb (((4 : Int32) * a1) + a2) 28) <|
      some ((1 : Int32), (sa (sa (si u 0 (0 : Int32)) 0 (((4 : Int32) * a1) + a2).toNatClampNeg (1 : Int32)) 1 (((4 : Int32) * a1) + a2).toNatClampNeg (0 : Int32)))
    else
      some ((0 : Int32), (si u 0 (0 : Int32)))
set_option maxRecDepth 100000 in
set_option maxHeartbeats 4000000 in
theorem w_M_version {γ : CX} {cI cZ : ClassId} {h : Nat → Nat} {r0 : Int32} {u0 : PS} (C : Cx γ b_M_version 3 (some .boolean) "PackagePickModel" (rk 2) [(cI, .int), (cZ, .boolean)]) (hQ : QI γ [(cI, .int), (cZ, .boolean)] (WM cI cZ h) r0 u0) (a1 : Int32) (a2 : Int32) (u : PS) (hf : f_M_version a1 a2 u = some (r0, u0)) : AtG γ (WM cI cZ h) 3 0 0 0 [(0, .ref (h 0)), (1, .int a1), (2, .int a2)] [] u := by
  unfold f_M_version at hf
  refine x_aload_n C d_M_version_0 rfl (k := 0) rfl ?_
  refine x_iconst (v := 0) C d_M_version_1 (by decide) ?_
  refine pM_M_thrown C mf_M_56 d_M_version_2 ?_
  refine x_iload_n C d_M_version_5 rfl (k := 1) rfl ?_
  refine x_iload_n C d_M_version_6 rfl (k := 2) rfl ?_
  refine x_callIs (rest := []) C (c_M_isVersion a1 a2) kc_M_isVersion (rok (by decide) (by decide)) mm_M_64 ms_M_isVersion rfl rfl (Nat.le_of_ble_eq_true rfl) d_M_version_7 ?_
  refine x_if_eq (tgt := 26) C d_M_version_10 (by decide) (fun hc => ?_) (fun hc => ?_)
  · rw [if_pos hc] at hf
    refine x_iconst (v := 0) C d_M_version_26 (by decide) ?_
    exact x_zret C hQ rfl (Prod.mk.inj (Option.some.inj hf)).1 (Prod.mk.inj (Option.some.inj hf)).2 d_M_version_27
  · rw [if_neg hc] at hf
    refine x_aload_n C d_M_version_13 rfl (k := 0) rfl ?_
    refine gM_M_there C mf_M_7 d_M_version_14 ?_
    refine x_iconst (v := 4) C d_M_version_17 (by decide) ?_
    refine x_iload_n C d_M_version_18 rfl (k := 1) rfl ?_
    refine x_imul C d_M_version_19 ?_
    refine x_iload_n C d_M_version_20 rfl (k := 2) rfl ?_
    refine x_iadd C d_M_version_21 ?_
    obtain ⟨hin, hf⟩ := ck_some hf
    refine aldM_1 (v := (u.2 0 (((4 : Int32) * a1) + a2).toNatClampNeg)) C hin rfl d_M_version_22 ?_
    refine x_if_eq (tgt := 28) C d_M_version_23 (by decide) (fun hc => ?_) (fun hc => ?_)
    · rw [if_pos hc] at hf
      refine x_aload_n C d_M_version_28 rfl (k := 0) rfl ?_
      refine gM_M_there C mf_M_7 d_M_version_29 ?_
      refine x_iconst (v := 4) C d_M_version_32 (by decide) ?_
      refine x_iload_n C d_M_version_33 rfl (k := 1) rfl ?_
      refine x_imul C d_M_version_34 ?_
      refine x_iload_n C d_M_version_35 rfl (k := 2) rfl ?_
      refine x_iadd C d_M_version_36 ?_
      refine x_iconst (v := 1) C d_M_version_37 (by decide) ?_
      obtain ⟨hin, hf⟩ := ck_some hf
      refine astM_1 C hin rfl d_M_version_38 ?_
      refine x_aload_n C d_M_version_39 rfl (k := 0) rfl ?_
      refine gM_M_needs C mf_M_13 d_M_version_40 ?_
      refine x_iconst (v := 4) C d_M_version_43 (by decide) ?_
      refine x_iload_n C d_M_version_44 rfl (k := 1) rfl ?_
      refine x_imul C d_M_version_45 ?_
      refine x_iload_n C d_M_version_46 rfl (k := 2) rfl ?_
      refine x_iadd C d_M_version_47 ?_
      refine x_iconst (v := 0) C d_M_version_48 (by decide) ?_
      obtain ⟨hin, hf⟩ := ck_some hf
      refine astM_2 C hin d_M_version_49 ?_
      refine x_iconst (v := 1) C d_M_version_50 (by decide) ?_
      exact x_zret C hQ rfl (Prod.mk.inj (Option.some.inj hf)).1 (Prod.mk.inj (Option.some.inj hf)).2 d_M_version_51
    · rw [if_neg hc] at hf
      refine x_iconst (v := 0) C d_M_version_26 (by decide) ?_
      exact x_zret C hQ rfl (Prod.mk.inj (Option.some.inj hf)).1 (Prod.mk.inj (Option.some.inj hf)).2 d_M_version_27
theorem c_M_version {l : Launch} {D : va_G} {cI cZ : ClassId} {h : Nat → Nat} (a1 : Int32) (a2 : Int32) (u : PS) {r0 : Int32 × PS} (hf : f_M_version a1 a2 u = some r0) : CtI l y_M_version b_M_version 3 (some .boolean) (rk 2) D [(cI, .int), (cZ, .boolean)] (WM cI cZ h) [.ref (h 0), .int a1, .int a2] u r0.1 r0.2 := ct_ofI (by decide) (Nat.le_of_ble_eq_true rfl) (fun γ _ _ C hQ => w_M_version C hQ a1 a2 u hf)
-- ---- PackagePickModel.need(IIIII)Z
def f_M_need (a1 : Int32) (a2 : Int32) (a3 : Int32) (a4 : Int32) (a5 : Int32) (u : PS) : Option (Int32 × PS) :=
  if (f_M_isVersion a1 a2) = 0 then
    some ((0 : Int32), (si u 0 (0 : Int32)))
  else
    if (f_M_isNeed a3 a4 a5) = 0 then
      some ((0 : Int32), (si u 0 (0 : Int32)))
    else
      ck (inb (((4 : Int32) * a1) + a2) 28) <|
      if (u.2 0 (((4 : Int32) * a1) + a2).toNatClampNeg) = 0 then
        some ((0 : Int32), (si u 0 (0 : Int32)))
      else
        ck (inb (((4 : Int32) * a1) + a2) 28) <|
        if (u.2 1 (((4 : Int32) * a1) + a2).toNatClampNeg) = (4 : Int32) then
          some ((0 : Int32), (si u 0 (0 : Int32)))
        else
          ck (inb (((4 : Int32) * a1) + a2) 28) <|
          ck (inb (((4 : Int32) * (((4 : Int32) * a1) + a2)) + (u.2 1 (((4 : Int32) * a1) + a2).toNatClampNeg)) 112) <|
          ck (inb (((4 : Int32) * (((4 : Int32) * a1) + a2)) + (u.2 1 (((4 : Int32) * a1) + a2).toNatClampNeg)) 112) <|
          ck (inb (((4 : Int32) * (((4 : Int32) * a1) + a2)) + (u.2 1 (((4 : Int32) * a1) + a2).toNatClampNeg)) 112) <|
          ck (inb (((4 : Int32) * a1) + a2) 28) <|
          ck (inb (((4 : Int32) * a1) + a2) 28) <|
          some ((1 : Int32), (sa (sa (sa (sa (si u 0 (0 : Int32)) 2 (((4 : Int32) * (((4 : Int32) * a1) + a2)) + (u.2 1 (((4 : Int32) * a1) + a2).toNatClampNeg)).toNatClampNeg a3) 3 (((4 : Int32) * (((4 : Int32) * a1) + a2)) + (u.2 1 (((4 : Int32) * a1) + a2).toNatClampNeg)).toNatClampNeg a4) 4 (((4 : Int32) * (((4 : Int32) * a1) + a2)) + (u.2 1 (((4 : Int32) * a1) + a2).toNatClampNeg)).toNatClampNeg a5) 1 (((4 : Int32) * a1) + a2).toNatClampNeg ((u.2 1 (((4 : Int32) * a1) + a2).toNatClampNeg) + (1 : Int32))))
set_option maxRecDepth 100000 in
set_option maxHeartbeats 4000000 in
theorem w_M_need {γ : CX} {cI cZ : ClassId} {h : Nat → Nat} {r0 : Int32} {u0 : PS} (C : Cx γ b_M_need 8 (some .boolean) "PackagePickModel" (rk 2) [(cI, .int), (cZ, .boolean)]) (hQ : QI γ [(cI, .int), (cZ, .boolean)] (WM cI cZ h) r0 u0) (a1 : Int32) (a2 : Int32) (a3 : Int32) (a4 : Int32) (a5 : Int32) (u : PS) (hf : f_M_need a1 a2 a3 a4 a5 u = some (r0, u0)) : AtG γ (WM cI cZ h) 8 0 0 0 [(0, .ref (h 0)), (1, .int a1), (2, .int a2), (3, .int a3), (4, .int a4), (5, .int a5)] [] u := by
  unfold f_M_need at hf
  refine x_aload_n C d_M_need_0 rfl (k := 0) rfl ?_
  refine x_iconst (v := 0) C d_M_need_1 (by decide) ?_
  refine pM_M_thrown C mf_M_56 d_M_need_2 ?_
  refine x_iload_n C d_M_need_5 rfl (k := 1) rfl ?_
  refine x_iload_n C d_M_need_6 rfl (k := 2) rfl ?_
  refine x_callIs (rest := []) C (c_M_isVersion a1 a2) kc_M_isVersion (rok (by decide) (by decide)) mm_M_64 ms_M_isVersion rfl rfl (Nat.le_of_ble_eq_true rfl) d_M_need_7 ?_
  refine x_if_eq (tgt := 24) C d_M_need_10 (by decide) (fun hc => ?_) (fun hc => ?_)
  · rw [if_pos hc] at hf
    refine x_iconst (v := 0) C d_M_need_24 (by decide) ?_
    exact x_zret C hQ rfl (Prod.mk.inj (Option.some.inj hf)).1 (Prod.mk.inj (Option.some.inj hf)).2 d_M_need_25
  · rw [if_neg hc] at hf
    refine x_iload_n C d_M_need_13 rfl (k := 3) rfl ?_
    refine x_iload C d_M_need_14 (k := 4) rfl ?_
    refine x_iload C d_M_need_16 (k := 5) rfl ?_
    refine x_callIs (rest := []) C (c_M_isNeed a3 a4 a5) kc_M_isNeed (rok (by decide) (by decide)) mm_M_68 ms_M_isNeed rfl rfl (Nat.le_of_ble_eq_true rfl) d_M_need_18 ?_
    refine x_if_ne (tgt := 26) C d_M_need_21 (by decide) (fun hc => ?_) (fun hc => ?_)
    · rw [if_neg hc] at hf
      refine x_iconst (v := 4) C d_M_need_26 (by decide) ?_
      refine x_iload_n C d_M_need_27 rfl (k := 1) rfl ?_
      refine x_imul C d_M_need_28 ?_
      refine x_iload_n C d_M_need_29 rfl (k := 2) rfl ?_
      refine x_iadd C d_M_need_30 ?_
      refine x_istore (lv' := [(6, .int (((4 : Int32) * a1) + a2)), (0, .ref (h 0)), (1, .int a1), (2, .int a2), (3, .int a3), (4, .int a4), (5, .int a5)]) C d_M_need_31 (by decide) rfl ?_
      refine x_aload_n C d_M_need_33 rfl (k := 1) rfl ?_
      refine gM_M_there C mf_M_7 d_M_need_34 ?_
      refine x_iload C d_M_need_37 (k := 0) rfl ?_
      obtain ⟨hin, hf⟩ := ck_some hf
      refine aldM_1 (v := (u.2 0 (((4 : Int32) * a1) + a2).toNatClampNeg)) C hin rfl d_M_need_39 ?_
      refine x_if_eq (tgt := 54) C d_M_need_40 (by decide) (fun hc => ?_) (fun hc => ?_)
      · rw [if_pos hc] at hf
        refine x_iconst (v := 0) C d_M_need_54 (by decide) ?_
        exact x_zret C hQ rfl (Prod.mk.inj (Option.some.inj hf)).1 (Prod.mk.inj (Option.some.inj hf)).2 d_M_need_55
      · rw [if_neg hc] at hf
        refine x_aload_n C d_M_need_43 rfl (k := 1) rfl ?_
        refine gM_M_needs C mf_M_13 d_M_need_44 ?_
        refine x_iload C d_M_need_47 (k := 0) rfl ?_
        obtain ⟨hin, hf⟩ := ck_some hf
        refine aldM_2 (v := (u.2 1 (((4 : Int32) * a1) + a2).toNatClampNeg)) C hin rfl d_M_need_49 ?_
        refine x_iconst (v := 4) C d_M_need_50 (by decide) ?_
        refine x_icmp_ne (tgt := 56) C d_M_need_51 (by decide) (fun hc => ?_) (fun hc => ?_)
        · rw [if_neg hc] at hf
          refine x_iconst (v := 4) C d_M_need_56 (by decide) ?_
          refine x_iload C d_M_need_57 (k := 0) rfl ?_
          refine x_imul C d_M_need_59 ?_
          refine x_aload_n C d_M_need_60 rfl (k := 1) rfl ?_
          refine gM_M_needs C mf_M_13 d_M_need_61 ?_
          refine x_iload C d_M_need_64 (k := 0) rfl ?_
          obtain ⟨hin, hf⟩ := ck_some hf
          refine aldM_2 (v := (u.2 1 (((4 : Int32) * a1) + a2).toNatClampNeg)) C hin rfl d_M_need_66 ?_
          refine x_iadd C d_M_need_67 ?_
          refine x_istore (lv' := [(7, .int (((4 : Int32) * (((4 : Int32) * a1) + a2)) + (u.2 1 (((4 : Int32) * a1) + a2).toNatClampNeg))), (6, .int (((4 : Int32) * a1) + a2)), (0, .ref (h 0)), (1, .int a1), (2, .int a2), (3, .int a3), (4, .int a4), (5, .int a5)]) C d_M_need_68 (by decide) rfl ?_
          refine x_aload_n C d_M_need_70 rfl (k := 2) rfl ?_
          refine gM_M_needOf C mf_M_17 d_M_need_71 ?_
          refine x_iload C d_M_need_74 (k := 0) rfl ?_
          refine x_iload_n C d_M_need_76 rfl (k := 5) rfl ?_
          obtain ⟨hin, hf⟩ := ck_some hf
          refine astM_3 C hin d_M_need_77 ?_
          refine x_aload_n C d_M_need_78 rfl (k := 2) rfl ?_
          refine gM_M_needFrom C mf_M_20 d_M_need_79 ?_
          refine x_iload C d_M_need_82 (k := 0) rfl ?_
          refine x_iload C d_M_need_84 (k := 6) rfl ?_
          obtain ⟨hin, hf⟩ := ck_some hf
          refine astM_4 C hin d_M_need_86 ?_
          refine x_aload_n C d_M_need_87 rfl (k := 2) rfl ?_
          refine gM_M_needTo C mf_M_23 d_M_need_88 ?_
          refine x_iload C d_M_need_91 (k := 0) rfl ?_
          refine x_iload C d_M_need_93 (k := 7) rfl ?_
          obtain ⟨hin, hf⟩ := ck_some hf
          refine astM_5 C hin d_M_need_95 ?_
          refine x_aload_n C d_M_need_96 rfl (k := 2) rfl ?_
          refine gM_M_needs C mf_M_13 d_M_need_97 ?_
          refine x_iload C d_M_need_100 (k := 1) rfl ?_
          refine x_dup2 C d_M_need_102 rfl rfl ?_
          obtain ⟨hin, hf⟩ := ck_some hf
          refine aldM_2 (v := (u.2 1 (((4 : Int32) * a1) + a2).toNatClampNeg)) C hin rfl d_M_need_103 ?_
          refine x_iconst (v := 1) C d_M_need_104 (by decide) ?_
          refine x_iadd C d_M_need_105 ?_
          obtain ⟨hin, hf⟩ := ck_some hf
          refine astM_2 C hin d_M_need_106 ?_
          refine x_iconst (v := 1) C d_M_need_107 (by decide) ?_
          exact x_zret C hQ rfl (Prod.mk.inj (Option.some.inj hf)).1 (Prod.mk.inj (Option.some.inj hf)).2 d_M_need_108
        · rw [if_pos hc] at hf
          refine x_iconst (v := 0) C d_M_need_54 (by decide) ?_
          exact x_zret C hQ rfl (Prod.mk.inj (Option.some.inj hf)).1 (Prod.mk.inj (Option.some.inj hf)).2 d_M_need_55
    · rw [if_pos hc] at hf
      refine x_iconst (v := 0) C d_M_need_24 (by decide) ?_
      exact x_zret C hQ rfl (Prod.mk.inj (Option.some.inj hf)).1 (Prod.mk.inj (Option.some.inj hf)).2 d_M_need_25
theorem c_M_need {l : Launch} {D : va_G} {cI cZ : ClassId} {h : Nat → Nat} (a1 : Int32) (a2 : Int32) (a3 : Int32) (a4 : Int32) (a5 : Int32) (u : PS) {r0 : Int32 × PS} (hf : f_M_need a1 a2 a3 a4 a5 u = some r0) : CtI l y_M_need b_M_need 8 (some .boolean) (rk 2) D [(cI, .int), (cZ, .boolean)] (WM cI cZ h) [.ref (h 0), .int a1, .int a2, .int a3, .int a4, .int a5] u r0.1 r0.2 := ct_ofI (by decide) (Nat.le_of_ble_eq_true rfl) (fun γ _ _ C hQ => w_M_need C hQ a1 a2 a3 a4 a5 u hf)
-- ---- PackagePickModel.drop(II)Z
def f_M_drop (a1 : Int32) (a2 : Int32) (u : PS) : Option (Int32 × PS) :=
  if (f_M_isVersion a1 a2) = 0 then
    some ((0 : Int32), (si u 0 (0 : Int32)))
  else
    ck (inb (((4 : Int32) * a1) + a2) 28) <|
    if (u.2 0 (((4 : Int32) * a1) + a2).toNatClampNeg) = 0 then
      some ((0 : Int32), (si u 0 (0 : Int32)))
    else
      ck (inb (((4 : Int32) * a1) + a2) 28) <|
      ck (inb (((4 : Int32) * a1) + a2) 28) <|
      some ((1 : Int32), (sa (sa (si u 0 (0 : Int32)) 0 (((4 : Int32) * a1) + a2).toNatClampNeg (0 : Int32)) 1 (((4 : Int32) * a1) + a2).toNatClampNeg (0 : Int32)))
set_option maxRecDepth 100000 in
set_option maxHeartbeats 4000000 in
theorem w_M_drop {γ : CX} {cI cZ : ClassId} {h : Nat → Nat} {r0 : Int32} {u0 : PS} (C : Cx γ b_M_drop 3 (some .boolean) "PackagePickModel" (rk 2) [(cI, .int), (cZ, .boolean)]) (hQ : QI γ [(cI, .int), (cZ, .boolean)] (WM cI cZ h) r0 u0) (a1 : Int32) (a2 : Int32) (u : PS) (hf : f_M_drop a1 a2 u = some (r0, u0)) : AtG γ (WM cI cZ h) 3 0 0 0 [(0, .ref (h 0)), (1, .int a1), (2, .int a2)] [] u := by
  unfold f_M_drop at hf
  refine x_aload_n C d_M_drop_0 rfl (k := 0) rfl ?_
  refine x_iconst (v := 0) C d_M_drop_1 (by decide) ?_
  refine pM_M_thrown C mf_M_56 d_M_drop_2 ?_
  refine x_iload_n C d_M_drop_5 rfl (k := 1) rfl ?_
  refine x_iload_n C d_M_drop_6 rfl (k := 2) rfl ?_
  refine x_callIs (rest := []) C (c_M_isVersion a1 a2) kc_M_isVersion (rok (by decide) (by decide)) mm_M_64 ms_M_isVersion rfl rfl (Nat.le_of_ble_eq_true rfl) d_M_drop_7 ?_
  refine x_if_eq (tgt := 26) C d_M_drop_10 (by decide) (fun hc => ?_) (fun hc => ?_)
  · rw [if_pos hc] at hf
    refine x_iconst (v := 0) C d_M_drop_26 (by decide) ?_
    exact x_zret C hQ rfl (Prod.mk.inj (Option.some.inj hf)).1 (Prod.mk.inj (Option.some.inj hf)).2 d_M_drop_27
  · rw [if_neg hc] at hf
    refine x_aload_n C d_M_drop_13 rfl (k := 0) rfl ?_
    refine gM_M_there C mf_M_7 d_M_drop_14 ?_
    refine x_iconst (v := 4) C d_M_drop_17 (by decide) ?_
    refine x_iload_n C d_M_drop_18 rfl (k := 1) rfl ?_
    refine x_imul C d_M_drop_19 ?_
    refine x_iload_n C d_M_drop_20 rfl (k := 2) rfl ?_
    refine x_iadd C d_M_drop_21 ?_
    obtain ⟨hin, hf⟩ := ck_some hf
    refine aldM_1 (v := (u.2 0 (((4 : Int32) * a1) + a2).toNatClampNeg)) C hin rfl d_M_drop_22 ?_
    refine x_if_ne (tgt := 28) C d_M_drop_23 (by decide) (fun hc => ?_) (fun hc => ?_)
    · rw [if_neg hc] at hf
      refine x_aload_n C d_M_drop_28 rfl (k := 0) rfl ?_
      refine gM_M_there C mf_M_7 d_M_drop_29 ?_
      refine x_iconst (v := 4) C d_M_drop_32 (by decide) ?_
      refine x_iload_n C d_M_drop_33 rfl (k := 1) rfl ?_
      refine x_imul C d_M_drop_34 ?_
      refine x_iload_n C d_M_drop_35 rfl (k := 2) rfl ?_
      refine x_iadd C d_M_drop_36 ?_
      refine x_iconst (v := 0) C d_M_drop_37 (by decide) ?_
      obtain ⟨hin, hf⟩ := ck_some hf
      refine astM_1 C hin rfl d_M_drop_38 ?_
      refine x_aload_n C d_M_drop_39 rfl (k := 0) rfl ?_
      refine gM_M_needs C mf_M_13 d_M_drop_40 ?_
      refine x_iconst (v := 4) C d_M_drop_43 (by decide) ?_
      refine x_iload_n C d_M_drop_44 rfl (k := 1) rfl ?_
      refine x_imul C d_M_drop_45 ?_
      refine x_iload_n C d_M_drop_46 rfl (k := 2) rfl ?_
      refine x_iadd C d_M_drop_47 ?_
      refine x_iconst (v := 0) C d_M_drop_48 (by decide) ?_
      obtain ⟨hin, hf⟩ := ck_some hf
      refine astM_2 C hin d_M_drop_49 ?_
      refine x_iconst (v := 1) C d_M_drop_50 (by decide) ?_
      exact x_zret C hQ rfl (Prod.mk.inj (Option.some.inj hf)).1 (Prod.mk.inj (Option.some.inj hf)).2 d_M_drop_51
    · rw [if_pos hc] at hf
      refine x_iconst (v := 0) C d_M_drop_26 (by decide) ?_
      exact x_zret C hQ rfl (Prod.mk.inj (Option.some.inj hf)).1 (Prod.mk.inj (Option.some.inj hf)).2 d_M_drop_27
theorem c_M_drop {l : Launch} {D : va_G} {cI cZ : ClassId} {h : Nat → Nat} (a1 : Int32) (a2 : Int32) (u : PS) {r0 : Int32 × PS} (hf : f_M_drop a1 a2 u = some r0) : CtI l y_M_drop b_M_drop 3 (some .boolean) (rk 2) D [(cI, .int), (cZ, .boolean)] (WM cI cZ h) [.ref (h 0), .int a1, .int a2] u r0.1 r0.2 := ct_ofI (by decide) (Nat.le_of_ble_eq_true rfl) (fun γ _ _ C hQ => w_M_drop C hQ a1 a2 u hf)
-- ---- PackagePickModel.ban(IIII)Z
def f_M_ban (a1 : Int32) (a2 : Int32) (a3 : Int32) (a4 : Int32) (u : PS) : Option (Int32 × PS) :=
  if (f_M_isVersion a1 a2) = 0 then
    some ((0 : Int32), (si u 0 (0 : Int32)))
  else
    if (f_M_isVersion a3 a4) = 0 then
      some ((0 : Int32), (si u 0 (0 : Int32)))
    else
      if a1 = a3 then
        some ((0 : Int32), (si u 0 (0 : Int32)))
      else
        if (u.1 2) = (16 : Int32) then
          some ((0 : Int32), (si u 0 (0 : Int32)))
        else
          ck (inb (u.1 2) 16) <|
          ck (inb (u.1 2) 16) <|
          some ((1 : Int32), (si (sa (sa (si u 0 (0 : Int32)) 8 (u.1 2).toNatClampNeg (((4 : Int32) * a1) + a2)) 9 (u.1 2).toNatClampNeg (((4 : Int32) * a3) + a4)) 2 ((u.1 2) + (1 : Int32))))
set_option maxRecDepth 100000 in
set_option maxHeartbeats 4000000 in
theorem w_M_ban {γ : CX} {cI cZ : ClassId} {h : Nat → Nat} {r0 : Int32} {u0 : PS} (C : Cx γ b_M_ban 5 (some .boolean) "PackagePickModel" (rk 2) [(cI, .int), (cZ, .boolean)]) (hQ : QI γ [(cI, .int), (cZ, .boolean)] (WM cI cZ h) r0 u0) (a1 : Int32) (a2 : Int32) (a3 : Int32) (a4 : Int32) (u : PS) (hf : f_M_ban a1 a2 a3 a4 u = some (r0, u0)) : AtG γ (WM cI cZ h) 5 0 0 0 [(0, .ref (h 0)), (1, .int a1), (2, .int a2), (3, .int a3), (4, .int a4)] [] u := by
  unfold f_M_ban at hf
  refine x_aload_n C d_M_ban_0 rfl (k := 0) rfl ?_
  refine x_iconst (v := 0) C d_M_ban_1 (by decide) ?_
  refine pM_M_thrown C mf_M_56 d_M_ban_2 ?_
  refine x_iload_n C d_M_ban_5 rfl (k := 1) rfl ?_
  refine x_iload_n C d_M_ban_6 rfl (k := 2) rfl ?_
  refine x_callIs (rest := []) C (c_M_isVersion a1 a2) kc_M_isVersion (rok (by decide) (by decide)) mm_M_64 ms_M_isVersion rfl rfl (Nat.le_of_ble_eq_true rfl) d_M_ban_7 ?_
  refine x_if_eq (tgt := 36) C d_M_ban_10 (by decide) (fun hc => ?_) (fun hc => ?_)
  · rw [if_pos hc] at hf
    refine x_iconst (v := 0) C d_M_ban_36 (by decide) ?_
    exact x_zret C hQ rfl (Prod.mk.inj (Option.some.inj hf)).1 (Prod.mk.inj (Option.some.inj hf)).2 d_M_ban_37
  · rw [if_neg hc] at hf
    refine x_iload_n C d_M_ban_13 rfl (k := 3) rfl ?_
    refine x_iload C d_M_ban_14 (k := 4) rfl ?_
    refine x_callIs (rest := []) C (c_M_isVersion a3 a4) kc_M_isVersion (rok (by decide) (by decide)) mm_M_64 ms_M_isVersion rfl rfl (Nat.le_of_ble_eq_true rfl) d_M_ban_16 ?_
    refine x_if_eq (tgt := 36) C d_M_ban_19 (by decide) (fun hc => ?_) (fun hc => ?_)
    · rw [if_pos hc] at hf
      refine x_iconst (v := 0) C d_M_ban_36 (by decide) ?_
      exact x_zret C hQ rfl (Prod.mk.inj (Option.some.inj hf)).1 (Prod.mk.inj (Option.some.inj hf)).2 d_M_ban_37
    · rw [if_neg hc] at hf
      refine x_iload_n C d_M_ban_22 rfl (k := 1) rfl ?_
      refine x_iload_n C d_M_ban_23 rfl (k := 3) rfl ?_
      refine x_icmp_eq (tgt := 36) C d_M_ban_24 (by decide) (fun hc => ?_) (fun hc => ?_)
      · rw [if_pos hc] at hf
        refine x_iconst (v := 0) C d_M_ban_36 (by decide) ?_
        exact x_zret C hQ rfl (Prod.mk.inj (Option.some.inj hf)).1 (Prod.mk.inj (Option.some.inj hf)).2 d_M_ban_37
      · rw [if_neg hc] at hf
        refine x_aload_n C d_M_ban_27 rfl (k := 0) rfl ?_
        refine gM_M_bans (v := (u.1 2)) C mf_M_72 rfl d_M_ban_28 ?_
        refine x_bipush (v := 16) C d_M_ban_31 (by decide) ?_
        refine x_icmp_ne (tgt := 38) C d_M_ban_33 (by decide) (fun hc => ?_) (fun hc => ?_)
        · rw [if_neg hc] at hf
          refine x_aload_n C d_M_ban_38 rfl (k := 0) rfl ?_
          refine gM_M_banOne C mf_M_35 d_M_ban_39 ?_
          refine x_aload_n C d_M_ban_42 rfl (k := 0) rfl ?_
          refine gM_M_bans (v := (u.1 2)) C mf_M_72 rfl d_M_ban_43 ?_
          refine x_iconst (v := 4) C d_M_ban_46 (by decide) ?_
          refine x_iload_n C d_M_ban_47 rfl (k := 1) rfl ?_
          refine x_imul C d_M_ban_48 ?_
          refine x_iload_n C d_M_ban_49 rfl (k := 2) rfl ?_
          refine x_iadd C d_M_ban_50 ?_
          obtain ⟨hin, hf⟩ := ck_some hf
          refine astM_9 C hin d_M_ban_51 ?_
          refine x_aload_n C d_M_ban_52 rfl (k := 0) rfl ?_
          refine gM_M_banTwo C mf_M_38 d_M_ban_53 ?_
          refine x_aload_n C d_M_ban_56 rfl (k := 0) rfl ?_
          refine gM_M_bans (v := (u.1 2)) C mf_M_72 rfl d_M_ban_57 ?_
          refine x_iconst (v := 4) C d_M_ban_60 (by decide) ?_
          refine x_iload_n C d_M_ban_61 rfl (k := 3) rfl ?_
          refine x_imul C d_M_ban_62 ?_
          refine x_iload C d_M_ban_63 (k := 4) rfl ?_
          refine x_iadd C d_M_ban_65 ?_
          obtain ⟨hin, hf⟩ := ck_some hf
          refine astM_10 C hin d_M_ban_66 ?_
          refine x_aload_n C d_M_ban_67 rfl (k := 0) rfl ?_
          refine x_dup C d_M_ban_68 rfl ?_
          refine gM_M_bans (v := (u.1 2)) C mf_M_72 rfl d_M_ban_69 ?_
          refine x_iconst (v := 1) C d_M_ban_72 (by decide) ?_
          refine x_iadd C d_M_ban_73 ?_
          refine pM_M_bans C mf_M_72 d_M_ban_74 ?_
          refine x_iconst (v := 1) C d_M_ban_77 (by decide) ?_
          exact x_zret C hQ rfl (Prod.mk.inj (Option.some.inj hf)).1 (Prod.mk.inj (Option.some.inj hf)).2 d_M_ban_78
        · rw [if_pos hc] at hf
          refine x_iconst (v := 0) C d_M_ban_36 (by decide) ?_
          exact x_zret C hQ rfl (Prod.mk.inj (Option.some.inj hf)).1 (Prod.mk.inj (Option.some.inj hf)).2 d_M_ban_37
theorem c_M_ban {l : Launch} {D : va_G} {cI cZ : ClassId} {h : Nat → Nat} (a1 : Int32) (a2 : Int32) (a3 : Int32) (a4 : Int32) (u : PS) {r0 : Int32 × PS} (hf : f_M_ban a1 a2 a3 a4 u = some r0) : CtI l y_M_ban b_M_ban 5 (some .boolean) (rk 2) D [(cI, .int), (cZ, .boolean)] (WM cI cZ h) [.ref (h 0), .int a1, .int a2, .int a3, .int a4] u r0.1 r0.2 := ct_ofI (by decide) (Nat.le_of_ble_eq_true rfl) (fun γ _ _ C hQ => w_M_ban C hQ a1 a2 a3 a4 u hf)
-- ---- PackagePickModel.ask(III)Z
def f_M_ask (a1 : Int32) (a2 : Int32) (a3 : Int32) (u : PS) : Option (Int32 × PS) :=
  if (f_M_isNeed a1 a2 a3) = 0 then
    some ((0 : Int32), (si u 0 (0 : Int32)))
  else
    if (u.1 1) = (6 : Int32) then
      some ((0 : Int32), (si u 0 (0 : Int32)))
    else
      ck (inb (u.1 1) 6) <|
      ck (inb (u.1 1) 6) <|
      ck (inb (u.1 1) 6) <|
      some ((1 : Int32), (si (sa (sa (sa (si u 0 (0 : Int32)) 5 (u.1 1).toNatClampNeg a1) 6 (u.1 1).toNatClampNeg a2) 7 (u.1 1).toNatClampNeg a3) 1 ((u.1 1) + (1 : Int32))))
set_option maxRecDepth 100000 in
set_option maxHeartbeats 4000000 in
theorem w_M_ask {γ : CX} {cI cZ : ClassId} {h : Nat → Nat} {r0 : Int32} {u0 : PS} (C : Cx γ b_M_ask 4 (some .boolean) "PackagePickModel" (rk 2) [(cI, .int), (cZ, .boolean)]) (hQ : QI γ [(cI, .int), (cZ, .boolean)] (WM cI cZ h) r0 u0) (a1 : Int32) (a2 : Int32) (a3 : Int32) (u : PS) (hf : f_M_ask a1 a2 a3 u = some (r0, u0)) : AtG γ (WM cI cZ h) 4 0 0 0 [(0, .ref (h 0)), (1, .int a1), (2, .int a2), (3, .int a3)] [] u := by
  unfold f_M_ask at hf
  refine x_aload_n C d_M_ask_0 rfl (k := 0) rfl ?_
  refine x_iconst (v := 0) C d_M_ask_1 (by decide) ?_
  refine pM_M_thrown C mf_M_56 d_M_ask_2 ?_
  refine x_iload_n C d_M_ask_5 rfl (k := 1) rfl ?_
  refine x_iload_n C d_M_ask_6 rfl (k := 2) rfl ?_
  refine x_iload_n C d_M_ask_7 rfl (k := 3) rfl ?_
  refine x_callIs (rest := []) C (c_M_isNeed a1 a2 a3) kc_M_isNeed (rok (by decide) (by decide)) mm_M_68 ms_M_isNeed rfl rfl (Nat.le_of_ble_eq_true rfl) d_M_ask_8 ?_
  refine x_if_eq (tgt := 23) C d_M_ask_11 (by decide) (fun hc => ?_) (fun hc => ?_)
  · rw [if_pos hc] at hf
    refine x_iconst (v := 0) C d_M_ask_23 (by decide) ?_
    exact x_zret C hQ rfl (Prod.mk.inj (Option.some.inj hf)).1 (Prod.mk.inj (Option.some.inj hf)).2 d_M_ask_24
  · rw [if_neg hc] at hf
    refine x_aload_n C d_M_ask_14 rfl (k := 0) rfl ?_
    refine gM_M_asked (v := (u.1 1)) C mf_M_75 rfl d_M_ask_15 ?_
    refine x_bipush (v := 6) C d_M_ask_18 (by decide) ?_
    refine x_icmp_ne (tgt := 25) C d_M_ask_20 (by decide) (fun hc => ?_) (fun hc => ?_)
    · rw [if_neg hc] at hf
      refine x_aload_n C d_M_ask_25 rfl (k := 0) rfl ?_
      refine gM_M_askedOf C mf_M_26 d_M_ask_26 ?_
      refine x_aload_n C d_M_ask_29 rfl (k := 0) rfl ?_
      refine gM_M_asked (v := (u.1 1)) C mf_M_75 rfl d_M_ask_30 ?_
      refine x_iload_n C d_M_ask_33 rfl (k := 1) rfl ?_
      obtain ⟨hin, hf⟩ := ck_some hf
      refine astM_6 C hin d_M_ask_34 ?_
      refine x_aload_n C d_M_ask_35 rfl (k := 0) rfl ?_
      refine gM_M_askedFrom C mf_M_29 d_M_ask_36 ?_
      refine x_aload_n C d_M_ask_39 rfl (k := 0) rfl ?_
      refine gM_M_asked (v := (u.1 1)) C mf_M_75 rfl d_M_ask_40 ?_
      refine x_iload_n C d_M_ask_43 rfl (k := 2) rfl ?_
      obtain ⟨hin, hf⟩ := ck_some hf
      refine astM_7 C hin d_M_ask_44 ?_
      refine x_aload_n C d_M_ask_45 rfl (k := 0) rfl ?_
      refine gM_M_askedTo C mf_M_32 d_M_ask_46 ?_
      refine x_aload_n C d_M_ask_49 rfl (k := 0) rfl ?_
      refine gM_M_asked (v := (u.1 1)) C mf_M_75 rfl d_M_ask_50 ?_
      refine x_iload_n C d_M_ask_53 rfl (k := 3) rfl ?_
      obtain ⟨hin, hf⟩ := ck_some hf
      refine astM_8 C hin d_M_ask_54 ?_
      refine x_aload_n C d_M_ask_55 rfl (k := 0) rfl ?_
      refine x_dup C d_M_ask_56 rfl ?_
      refine gM_M_asked (v := (u.1 1)) C mf_M_75 rfl d_M_ask_57 ?_
      refine x_iconst (v := 1) C d_M_ask_60 (by decide) ?_
      refine x_iadd C d_M_ask_61 ?_
      refine pM_M_asked C mf_M_75 d_M_ask_62 ?_
      refine x_iconst (v := 1) C d_M_ask_65 (by decide) ?_
      exact x_zret C hQ rfl (Prod.mk.inj (Option.some.inj hf)).1 (Prod.mk.inj (Option.some.inj hf)).2 d_M_ask_66
    · rw [if_pos hc] at hf
      refine x_iconst (v := 0) C d_M_ask_23 (by decide) ?_
      exact x_zret C hQ rfl (Prod.mk.inj (Option.some.inj hf)).1 (Prod.mk.inj (Option.some.inj hf)).2 d_M_ask_24
theorem c_M_ask {l : Launch} {D : va_G} {cI cZ : ClassId} {h : Nat → Nat} (a1 : Int32) (a2 : Int32) (a3 : Int32) (u : PS) {r0 : Int32 × PS} (hf : f_M_ask a1 a2 a3 u = some r0) : CtI l y_M_ask b_M_ask 4 (some .boolean) (rk 2) D [(cI, .int), (cZ, .boolean)] (WM cI cZ h) [.ref (h 0), .int a1, .int a2, .int a3] u r0.1 r0.2 := ct_ofI (by decide) (Nat.le_of_ble_eq_true rfl) (fun γ _ _ C hQ => w_M_ask C hQ a1 a2 a3 u hf)
-- ---- PackagePickModel.take(I)Z
def b_M_take_21 (k21 : Int32 → PS → Option (Int32 × PS)) (x2 : Int32) (u : PS) : Option (Int32 × PS) :=
  if (u.1 1) ≤ (x2 + (1 : Int32)) then
    some ((1 : Int32), (si u 1 ((u.1 1) - (1 : Int32))))
  else
    ck (inb (x2 + (1 : Int32)) 6) <|
    ck (inb x2 6) <|
    ck (inb (x2 + (1 : Int32)) 6) <|
    ck (inb x2 6) <|
    ck (inb (x2 + (1 : Int32)) 6) <|
    ck (inb x2 6) <|
    k21 (x2 + (1 : Int32)) (sa (sa (sa u 5 x2.toNatClampNeg (u.2 5 (x2 + (1 : Int32)).toNatClampNeg)) 6 x2.toNatClampNeg (u.2 6 (x2 + (1 : Int32)).toNatClampNeg)) 7 x2.toNatClampNeg (u.2 7 (x2 + (1 : Int32)).toNatClampNeg))
set_option maxRecDepth 100000 in
set_option maxHeartbeats 4000000 in
theorem w_M_take_21 {γ : CX} {cI cZ : ClassId} {h : Nat → Nat} {r0 : Int32} {u0 : PS} (C : Cx γ b_M_take 3 (some .boolean) "PackagePickModel" (rk 0) [(cI, .int), (cZ, .boolean)]) (hQ : QI γ [(cI, .int), (cZ, .boolean)] (WM cI cZ h) r0 u0) (k21 : Int32 → PS → Option (Int32 × PS)) (hk21 : ∀ (x2 : Int32) (u : PS), k21 x2 u = some (r0, u0) → AtG γ (WM cI cZ h) 3 0 0 21 [(0, .ref (h 0)), (2, .int x2)] [] u) (x2 : Int32) (u : PS) (hf : b_M_take_21 k21 x2 u = some (r0, u0)) : AtG γ (WM cI cZ h) 3 0 0 21 [(0, .ref (h 0)), (2, .int x2)] [] u := by
  unfold b_M_take_21 at hf
  refine x_iload_n C d_M_take_21 rfl (k := 1) rfl ?_
  refine x_iconst (v := 1) C d_M_take_22 (by decide) ?_
  refine x_iadd C d_M_take_23 ?_
  refine x_aload_n C d_M_take_24 rfl (k := 0) rfl ?_
  refine gM_M_asked (v := (u.1 1)) C mf_M_75 rfl d_M_take_25 ?_
  refine x_icmp_ge (tgt := 79) C d_M_take_28 (by decide) (fun hc => ?_) (fun hc => ?_)
  · rw [if_pos hc] at hf
    refine x_aload_n C d_M_take_79 rfl (k := 0) rfl ?_
    refine x_dup C d_M_take_80 rfl ?_
    refine gM_M_asked (v := (u.1 1)) C mf_M_75 rfl d_M_take_81 ?_
    refine x_iconst (v := 1) C d_M_take_84 (by decide) ?_
    refine x_isub C d_M_take_85 ?_
    refine pM_M_asked C mf_M_75 d_M_take_86 ?_
    refine x_iconst (v := 1) C d_M_take_89 (by decide) ?_
    exact x_zret C hQ rfl (Prod.mk.inj (Option.some.inj hf)).1 (Prod.mk.inj (Option.some.inj hf)).2 d_M_take_90
  · rw [if_neg hc] at hf
    refine x_aload_n C d_M_take_31 rfl (k := 0) rfl ?_
    refine gM_M_askedOf C mf_M_26 d_M_take_32 ?_
    refine x_iload_n C d_M_take_35 rfl (k := 1) rfl ?_
    refine x_aload_n C d_M_take_36 rfl (k := 0) rfl ?_
    refine gM_M_askedOf C mf_M_26 d_M_take_37 ?_
    refine x_iload_n C d_M_take_40 rfl (k := 1) rfl ?_
    refine x_iconst (v := 1) C d_M_take_41 (by decide) ?_
    refine x_iadd C d_M_take_42 ?_
    obtain ⟨hin, hf⟩ := ck_some hf
    refine aldM_6 (v := (u.2 5 (x2 + (1 : Int32)).toNatClampNeg)) C hin rfl d_M_take_43 ?_
    obtain ⟨hin, hf⟩ := ck_some hf
    refine astM_6 C hin d_M_take_44 ?_
    refine x_aload_n C d_M_take_45 rfl (k := 0) rfl ?_
    refine gM_M_askedFrom C mf_M_29 d_M_take_46 ?_
    refine x_iload_n C d_M_take_49 rfl (k := 1) rfl ?_
    refine x_aload_n C d_M_take_50 rfl (k := 0) rfl ?_
    refine gM_M_askedFrom C mf_M_29 d_M_take_51 ?_
    refine x_iload_n C d_M_take_54 rfl (k := 1) rfl ?_
    refine x_iconst (v := 1) C d_M_take_55 (by decide) ?_
    refine x_iadd C d_M_take_56 ?_
    obtain ⟨hin, hf⟩ := ck_some hf
    refine aldM_7 (v := (u.2 6 (x2 + (1 : Int32)).toNatClampNeg)) C hin rfl d_M_take_57 ?_
    obtain ⟨hin, hf⟩ := ck_some hf
    refine astM_7 C hin d_M_take_58 ?_
    refine x_aload_n C d_M_take_59 rfl (k := 0) rfl ?_
    refine gM_M_askedTo C mf_M_32 d_M_take_60 ?_
    refine x_iload_n C d_M_take_63 rfl (k := 1) rfl ?_
    refine x_aload_n C d_M_take_64 rfl (k := 0) rfl ?_
    refine gM_M_askedTo C mf_M_32 d_M_take_65 ?_
    refine x_iload_n C d_M_take_68 rfl (k := 1) rfl ?_
    refine x_iconst (v := 1) C d_M_take_69 (by decide) ?_
    refine x_iadd C d_M_take_70 ?_
    obtain ⟨hin, hf⟩ := ck_some hf
    refine aldM_8 (v := (u.2 7 (x2 + (1 : Int32)).toNatClampNeg)) C hin rfl d_M_take_71 ?_
    obtain ⟨hin, hf⟩ := ck_some hf
    refine astM_8 C hin d_M_take_72 ?_
    refine x_iinc (v := (x2 + (1 : Int32))) (lv' := [(2, .int (x2 + (1 : Int32))), (0, .ref (h 0))]) C d_M_take_73 (k := 1) rfl rfl (by decide) rfl ?_
    refine x_goto (tgt := 21) C d_M_take_76 (by decide) ?_
    refine x_sub (lv' := [(0, .ref (h 0)), (2, .int (x2 + (1 : Int32)))]) [1, 0] rfl ?_
    exact hk21 (x2 + (1 : Int32)) (sa (sa (sa u 5 x2.toNatClampNeg (u.2 5 (x2 + (1 : Int32)).toNatClampNeg)) 6 x2.toNatClampNeg (u.2 6 (x2 + (1 : Int32)).toNatClampNeg)) 7 x2.toNatClampNeg (u.2 7 (x2 + (1 : Int32)).toNatClampNeg)) hf
def l_M_take_21 : Nat → Int32 → PS → Option (Int32 × PS)
  | 0 => fun _ _ => none
  | n + 1 => b_M_take_21 (l_M_take_21 n)
theorem wl_M_take_21 {γ : CX} {cI cZ : ClassId} {h : Nat → Nat} {r0 : Int32} {u0 : PS} (C : Cx γ b_M_take 3 (some .boolean) "PackagePickModel" (rk 0) [(cI, .int), (cZ, .boolean)]) (hQ : QI γ [(cI, .int), (cZ, .boolean)] (WM cI cZ h) r0 u0) (n : Nat) : ∀ (x2 : Int32) (u : PS), l_M_take_21 n x2 u = some (r0, u0) → AtG γ (WM cI cZ h) 3 0 0 21 [(0, .ref (h 0)), (2, .int x2)] [] u := by
  induction n with
  | zero => intro x2 u hf; cases hf
  | succ n ih => intro x2 u hf; exact w_M_take_21 C hQ (l_M_take_21 n) ih x2 u hf
def f_M_take (a1 : Int32) (u : PS) : Option (Int32 × PS) :=
  if a1 < 0 then
    some ((0 : Int32), (si u 0 (0 : Int32)))
  else
    if a1 < (u.1 1) then
      l_M_take_21 NF a1 (si u 0 (0 : Int32))
    else
      some ((0 : Int32), (si u 0 (0 : Int32)))
set_option maxRecDepth 100000 in
set_option maxHeartbeats 4000000 in
theorem w_M_take {γ : CX} {cI cZ : ClassId} {h : Nat → Nat} {r0 : Int32} {u0 : PS} (C : Cx γ b_M_take 3 (some .boolean) "PackagePickModel" (rk 0) [(cI, .int), (cZ, .boolean)]) (hQ : QI γ [(cI, .int), (cZ, .boolean)] (WM cI cZ h) r0 u0) (a1 : Int32) (u : PS) (hf : f_M_take a1 u = some (r0, u0)) : AtG γ (WM cI cZ h) 3 0 0 0 [(0, .ref (h 0)), (1, .int a1)] [] u := by
  unfold f_M_take at hf
  refine x_aload_n C d_M_take_0 rfl (k := 0) rfl ?_
  refine x_iconst (v := 0) C d_M_take_1 (by decide) ?_
  refine pM_M_thrown C mf_M_56 d_M_take_2 ?_
  refine x_iload_n C d_M_take_5 rfl (k := 1) rfl ?_
  refine x_if_lt (tgt := 17) C d_M_take_6 (by decide) (fun hc => ?_) (fun hc => ?_)
  · rw [if_pos hc] at hf
    refine x_iconst (v := 0) C d_M_take_17 (by decide) ?_
    exact x_zret C hQ rfl (Prod.mk.inj (Option.some.inj hf)).1 (Prod.mk.inj (Option.some.inj hf)).2 d_M_take_18
  · rw [if_neg hc] at hf
    refine x_iload_n C d_M_take_9 rfl (k := 1) rfl ?_
    refine x_aload_n C d_M_take_10 rfl (k := 0) rfl ?_
    refine gM_M_asked (v := (u.1 1)) C mf_M_75 rfl d_M_take_11 ?_
    refine x_icmp_lt (tgt := 19) C d_M_take_14 (by decide) (fun hc => ?_) (fun hc => ?_)
    · rw [if_pos hc] at hf
      refine x_iload_n C d_M_take_19 rfl (k := 1) rfl ?_
      refine x_istore_n (lv' := [(2, .int a1), (0, .ref (h 0)), (1, .int a1)]) C d_M_take_20 rfl (by decide) rfl ?_
      refine x_sub (lv' := [(0, .ref (h 0)), (2, .int a1)]) [1, 0] rfl ?_
      exact wl_M_take_21 C hQ NF a1 (si u 0 (0 : Int32)) hf
    · rw [if_neg hc] at hf
      refine x_iconst (v := 0) C d_M_take_17 (by decide) ?_
      exact x_zret C hQ rfl (Prod.mk.inj (Option.some.inj hf)).1 (Prod.mk.inj (Option.some.inj hf)).2 d_M_take_18
theorem c_M_take {l : Launch} {D : va_G} {cI cZ : ClassId} {h : Nat → Nat} (a1 : Int32) (u : PS) {r0 : Int32 × PS} (hf : f_M_take a1 u = some r0) : CtI l y_M_take b_M_take 3 (some .boolean) (rk 0) D [(cI, .int), (cZ, .boolean)] (WM cI cZ h) [.ref (h 0), .int a1] u r0.1 r0.2 := ct_ofI (by decide) (Nat.le_of_ble_eq_true rfl) (fun γ _ _ C hQ => w_M_take C hQ a1 u hf)
-- ---- PackagePickModel.isMet(III)Z
def f_M_isMet (a1 : Int32) (a2 : Int32) (a3 : Int32) (u : PS) : Option (Int32) :=
  ck (inb a1 7) <|
  if (u.2 10 a1.toNatClampNeg) < a2 then
    some (0 : Int32)
  else
    ck (inb a1 7) <|
    if a3 < (u.2 10 a1.toNatClampNeg) then
      some (0 : Int32)
    else
      some (1 : Int32)
set_option maxRecDepth 100000 in
set_option maxHeartbeats 4000000 in
theorem w_M_isMet {γ : CX} {cI cZ : ClassId} {h : Nat → Nat} {u : PS} {r0 : Int32} (C : Cx γ b_M_isMet 4 (some .boolean) "PackagePickModel" (rk 0) [(cI, .int), (cZ, .boolean)]) (hQ : QI γ [(cI, .int), (cZ, .boolean)] (WM cI cZ h) r0 u) (a1 : Int32) (a2 : Int32) (a3 : Int32) (hf : f_M_isMet a1 a2 a3 u = some r0) : AtG γ (WM cI cZ h) 4 0 0 0 [(0, .ref (h 0)), (1, .int a1), (2, .int a2), (3, .int a3)] [] u := by
  unfold f_M_isMet at hf
  refine x_aload_n C d_M_isMet_0 rfl (k := 0) rfl ?_
  refine gM_M_pick C mf_M_41 d_M_isMet_1 ?_
  refine x_iload_n C d_M_isMet_4 rfl (k := 1) rfl ?_
  obtain ⟨hin, hf⟩ := ck_some hf
  refine aldM_11 (v := (u.2 10 a1.toNatClampNeg)) C hin rfl d_M_isMet_5 ?_
  refine x_iload_n C d_M_isMet_6 rfl (k := 2) rfl ?_
  refine x_icmp_lt (tgt := 24) C d_M_isMet_7 (by decide) (fun hc => ?_) (fun hc => ?_)
  · rw [if_pos hc] at hf
    refine x_iconst (v := 0) C d_M_isMet_24 (by decide) ?_
    exact x_zret C hQ rfl (Option.some.inj hf) rfl d_M_isMet_25
  · rw [if_neg hc] at hf
    refine x_aload_n C d_M_isMet_10 rfl (k := 0) rfl ?_
    refine gM_M_pick C mf_M_41 d_M_isMet_11 ?_
    refine x_iload_n C d_M_isMet_14 rfl (k := 1) rfl ?_
    obtain ⟨hin, hf⟩ := ck_some hf
    refine aldM_11 (v := (u.2 10 a1.toNatClampNeg)) C hin rfl d_M_isMet_15 ?_
    refine x_iload_n C d_M_isMet_16 rfl (k := 3) rfl ?_
    refine x_icmp_gt (tgt := 24) C d_M_isMet_17 (by decide) (fun hc => ?_) (fun hc => ?_)
    · rw [if_pos hc] at hf
      refine x_iconst (v := 0) C d_M_isMet_24 (by decide) ?_
      exact x_zret C hQ rfl (Option.some.inj hf) rfl d_M_isMet_25
    · rw [if_neg hc] at hf
      refine x_iconst (v := 1) C d_M_isMet_20 (by decide) ?_
      refine x_goto (tgt := 25) C d_M_isMet_21 (by decide) ?_
      exact x_zret C hQ rfl (Option.some.inj hf) rfl d_M_isMet_25
theorem c_M_isMet {l : Launch} {D : va_G} {cI cZ : ClassId} {h : Nat → Nat} (a1 : Int32) (a2 : Int32) (a3 : Int32) (u : PS) {r0 : Int32} (hf : f_M_isMet a1 a2 a3 u = some r0) : CtI l y_M_isMet b_M_isMet 4 (some .boolean) (rk 0) D [(cI, .int), (cZ, .boolean)] (WM cI cZ h) [.ref (h 0), .int a1, .int a2, .int a3] u r0 u := ct_ofI (by decide) (Nat.le_of_ble_eq_true rfl) (fun γ _ _ C hQ => w_M_isMet C hQ a1 a2 a3 hf)
-- ---- PackagePickModel.counts(I)Z
def f_M_counts (a1 : Int32) (u : PS) : Int32 :=
  if (((u.1 3) >>> (a1 &&& 31)) &&& (1 : Int32)) = (1 : Int32) then
    (1 : Int32)
  else
    (0 : Int32)
set_option maxRecDepth 100000 in
set_option maxHeartbeats 4000000 in
theorem w_M_counts {γ : CX} {cI cZ : ClassId} {h : Nat → Nat} {u : PS} {r0 : Int32} (C : Cx γ b_M_counts 2 (some .boolean) "PackagePickModel" (rk 0) [(cI, .int), (cZ, .boolean)]) (hQ : QI γ [(cI, .int), (cZ, .boolean)] (WM cI cZ h) r0 u) (a1 : Int32) (hf : f_M_counts a1 u = r0) : AtG γ (WM cI cZ h) 2 0 0 0 [(0, .ref (h 0)), (1, .int a1)] [] u := by
  unfold f_M_counts at hf
  refine x_aload_n C d_M_counts_0 rfl (k := 0) rfl ?_
  refine gM_M_counting (v := (u.1 3)) C mf_M_78 rfl d_M_counts_1 ?_
  refine x_iload_n C d_M_counts_4 rfl (k := 1) rfl ?_
  refine x_ishr C d_M_counts_5 ?_
  refine x_iconst (v := 1) C d_M_counts_6 (by decide) ?_
  refine x_iand C d_M_counts_7 ?_
  refine x_iconst (v := 1) C d_M_counts_8 (by decide) ?_
  refine x_icmp_ne (tgt := 16) C d_M_counts_9 (by decide) (fun hc => ?_) (fun hc => ?_)
  · rw [if_neg hc] at hf
    refine x_iconst (v := 0) C d_M_counts_16 (by decide) ?_
    exact x_zret C hQ rfl hf rfl d_M_counts_17
  · rw [if_pos hc] at hf
    refine x_iconst (v := 1) C d_M_counts_12 (by decide) ?_
    refine x_goto (tgt := 17) C d_M_counts_13 (by decide) ?_
    exact x_zret C hQ rfl hf rfl d_M_counts_17
theorem c_M_counts {l : Launch} {D : va_G} {cI cZ : ClassId} {h : Nat → Nat} (a1 : Int32) (u : PS) : CtI l y_M_counts b_M_counts 2 (some .boolean) (rk 0) D [(cI, .int), (cZ, .boolean)] (WM cI cZ h) [.ref (h 0), .int a1] u (f_M_counts a1 u) u := ct_ofI (by decide) (Nat.le_of_ble_eq_true rfl) (fun γ _ _ C hQ => w_M_counts C hQ a1 rfl)
-- ---- PackagePickModel.goes(I)Z
def b_M_goes_218 (u : PS) (k194 : Int32 → Int32 → Int32 → Option (Int32)) (k218 : Int32 → Int32 → Int32 → Int32 → Int32 → Option (Int32)) (x1 : Int32) (x2 : Int32) (x3 : Int32) (x4 : Int32) (x5 : Int32) : Option (Int32) :=
  ck (inb x3 7) <|
  if (u.2 10 x3.toNatClampNeg) = (-1 : Int32) then
    k194 x1 x2 (x3 + (1 : Int32))
  else
    ck (inb x4 28) <|
    if (u.2 1 x4.toNatClampNeg) ≤ x5 then
      k194 x1 x2 (x3 + (1 : Int32))
    else
      if x2 = 0 then
        k218 x1 (0 : Int32) x3 x4 (x5 + (1 : Int32))
      else
        ck (inb (((4 : Int32) * x4) + x5) 112) <|
        if x1 < (u.2 2 (((4 : Int32) * x4) + x5).toNatClampNeg) then
          k218 x1 (1 : Int32) x3 x4 (x5 + (1 : Int32))
        else
          ck (inb (((4 : Int32) * x4) + x5) 112) <|
          ck (inb (((4 : Int32) * x4) + x5) 112) <|
          ck (inb (((4 : Int32) * x4) + x5) 112) <|
          (f_M_isMet (u.2 2 (((4 : Int32) * x4) + x5).toNatClampNeg) (u.2 3 (((4 : Int32) * x4) + x5).toNatClampNeg) (u.2 4 (((4 : Int32) * x4) + x5).toNatClampNeg) u).bind fun r1 =>
          if r1 = 0 then
            k218 x1 (0 : Int32) x3 x4 (x5 + (1 : Int32))
          else
            k218 x1 (1 : Int32) x3 x4 (x5 + (1 : Int32))
set_option maxRecDepth 100000 in
set_option maxHeartbeats 4000000 in
theorem w_M_goes_218 {γ : CX} {cI cZ : ClassId} {h : Nat → Nat} {u : PS} {r0 : Int32} (C : Cx γ b_M_goes 7 (some .boolean) "PackagePickModel" (rk 1) [(cI, .int), (cZ, .boolean)]) (hQ : QI γ [(cI, .int), (cZ, .boolean)] (WM cI cZ h) r0 u) (k194 : Int32 → Int32 → Int32 → Option (Int32)) (k218 : Int32 → Int32 → Int32 → Int32 → Int32 → Option (Int32)) (hk194 : ∀ (x1 : Int32) (x2 : Int32) (x3 : Int32), k194 x1 x2 x3 = some r0 → AtG γ (WM cI cZ h) 7 0 0 194 [(0, .ref (h 0)), (1, .int x1), (2, .int x2), (3, .int x3)] [] u) (hk218 : ∀ (x1 : Int32) (x2 : Int32) (x3 : Int32) (x4 : Int32) (x5 : Int32), k218 x1 x2 x3 x4 x5 = some r0 → AtG γ (WM cI cZ h) 7 0 0 218 [(0, .ref (h 0)), (1, .int x1), (2, .int x2), (3, .int x3), (4, .int x4), (5, .int x5)] [] u) (x1 : Int32) (x2 : Int32) (x3 : Int32) (x4 : Int32) (x5 : Int32) (hf : b_M_goes_218 u k194 k218 x1 x2 x3 x4 x5 = some r0) : AtG γ (WM cI cZ h) 7 0 0 218 [(0, .ref (h 0)), (1, .int x1), (2, .int x2), (3, .int x3), (4, .int x4), (5, .int x5)] [] u := by
  unfold b_M_goes_218 at hf
  refine x_aload_n C d_M_goes_218 rfl (k := 0) rfl ?_
  refine gM_M_pick C mf_M_41 d_M_goes_219 ?_
  refine x_iload_n C d_M_goes_222 rfl (k := 3) rfl ?_
  obtain ⟨hin, hf⟩ := ck_some hf
  refine aldM_11 (v := (u.2 10 x3.toNatClampNeg)) C hin rfl d_M_goes_223 ?_
  refine x_iconst (v := -1) C d_M_goes_224 (by decide) ?_
  refine x_icmp_eq (tgt := 304) C d_M_goes_225 (by decide) (fun hc => ?_) (fun hc => ?_)
  · rw [if_pos hc] at hf
    refine x_iinc (v := (x3 + (1 : Int32))) (lv' := [(3, .int (x3 + (1 : Int32))), (0, .ref (h 0)), (1, .int x1), (2, .int x2), (4, .int x4), (5, .int x5)]) C d_M_goes_304 (k := 3) rfl rfl (by decide) rfl ?_
    refine x_goto (tgt := 194) C d_M_goes_307 (by decide) ?_
    refine x_sub (lv' := [(0, .ref (h 0)), (1, .int x1), (2, .int x2), (3, .int (x3 + (1 : Int32)))]) [1, 2, 3, 0] rfl ?_
    exact hk194 x1 x2 (x3 + (1 : Int32)) hf
  · rw [if_neg hc] at hf
    refine x_iload C d_M_goes_228 (k := 5) rfl ?_
    refine x_aload_n C d_M_goes_230 rfl (k := 0) rfl ?_
    refine gM_M_needs C mf_M_13 d_M_goes_231 ?_
    refine x_iload C d_M_goes_234 (k := 4) rfl ?_
    obtain ⟨hin, hf⟩ := ck_some hf
    refine aldM_2 (v := (u.2 1 x4.toNatClampNeg)) C hin rfl d_M_goes_236 ?_
    refine x_icmp_ge (tgt := 304) C d_M_goes_237 (by decide) (fun hc => ?_) (fun hc => ?_)
    · rw [if_pos hc] at hf
      refine x_iinc (v := (x3 + (1 : Int32))) (lv' := [(3, .int (x3 + (1 : Int32))), (0, .ref (h 0)), (1, .int x1), (2, .int x2), (4, .int x4), (5, .int x5)]) C d_M_goes_304 (k := 3) rfl rfl (by decide) rfl ?_
      refine x_goto (tgt := 194) C d_M_goes_307 (by decide) ?_
      refine x_sub (lv' := [(0, .ref (h 0)), (1, .int x1), (2, .int x2), (3, .int (x3 + (1 : Int32)))]) [1, 2, 3, 0] rfl ?_
      exact hk194 x1 x2 (x3 + (1 : Int32)) hf
    · rw [if_neg hc] at hf
      refine x_iconst (v := 4) C d_M_goes_240 (by decide) ?_
      refine x_iload C d_M_goes_241 (k := 4) rfl ?_
      refine x_imul C d_M_goes_243 ?_
      refine x_iload C d_M_goes_244 (k := 5) rfl ?_
      refine x_iadd C d_M_goes_246 ?_
      refine x_istore (lv' := [(6, .int (((4 : Int32) * x4) + x5)), (0, .ref (h 0)), (1, .int x1), (2, .int x2), (3, .int x3), (4, .int x4), (5, .int x5)]) C d_M_goes_247 (by decide) rfl ?_
      refine x_iload_n C d_M_goes_249 rfl (k := 3) rfl ?_
      refine x_if_eq (tgt := 296) C d_M_goes_250 (by decide) (fun hc => ?_) (fun hc => ?_)
      · rw [if_pos hc] at hf
        refine x_iconst (v := 0) C d_M_goes_296 (by decide) ?_
        refine x_istore_n (lv' := [(2, .int (0 : Int32)), (6, .int (((4 : Int32) * x4) + x5)), (0, .ref (h 0)), (1, .int x1), (3, .int x3), (4, .int x4), (5, .int x5)]) C d_M_goes_297 rfl (by decide) rfl ?_
        refine x_iinc (v := (x5 + (1 : Int32))) (lv' := [(5, .int (x5 + (1 : Int32))), (2, .int (0 : Int32)), (6, .int (((4 : Int32) * x4) + x5)), (0, .ref (h 0)), (1, .int x1), (3, .int x3), (4, .int x4)]) C d_M_goes_298 (k := 6) rfl rfl (by decide) rfl ?_
        refine x_goto (tgt := 218) C d_M_goes_301 (by decide) ?_
        refine x_sub (lv' := [(0, .ref (h 0)), (1, .int x1), (2, .int (0 : Int32)), (3, .int x3), (4, .int x4), (5, .int (x5 + (1 : Int32)))]) [3, 4, 1, 5, 6, 0] rfl ?_
        exact hk218 x1 (0 : Int32) x3 x4 (x5 + (1 : Int32)) hf
      · rw [if_neg hc] at hf
        refine x_aload_n C d_M_goes_253 rfl (k := 1) rfl ?_
        refine gM_M_needOf C mf_M_17 d_M_goes_254 ?_
        refine x_iload C d_M_goes_257 (k := 0) rfl ?_
        obtain ⟨hin, hf⟩ := ck_some hf
        refine aldM_3 (v := (u.2 2 (((4 : Int32) * x4) + x5).toNatClampNeg)) C hin rfl d_M_goes_259 ?_
        refine x_iload_n C d_M_goes_260 rfl (k := 2) rfl ?_
        refine x_icmp_gt (tgt := 292) C d_M_goes_261 (by decide) (fun hc => ?_) (fun hc => ?_)
        · rw [if_pos hc] at hf
          refine x_iconst (v := 1) C d_M_goes_292 (by decide) ?_
          refine x_goto (tgt := 297) C d_M_goes_293 (by decide) ?_
          refine x_istore_n (lv' := [(2, .int (1 : Int32)), (6, .int (((4 : Int32) * x4) + x5)), (0, .ref (h 0)), (1, .int x1), (3, .int x3), (4, .int x4), (5, .int x5)]) C d_M_goes_297 rfl (by decide) rfl ?_
          refine x_iinc (v := (x5 + (1 : Int32))) (lv' := [(5, .int (x5 + (1 : Int32))), (2, .int (1 : Int32)), (6, .int (((4 : Int32) * x4) + x5)), (0, .ref (h 0)), (1, .int x1), (3, .int x3), (4, .int x4)]) C d_M_goes_298 (k := 6) rfl rfl (by decide) rfl ?_
          refine x_goto (tgt := 218) C d_M_goes_301 (by decide) ?_
          refine x_sub (lv' := [(0, .ref (h 0)), (1, .int x1), (2, .int (1 : Int32)), (3, .int x3), (4, .int x4), (5, .int (x5 + (1 : Int32)))]) [3, 4, 1, 5, 6, 0] rfl ?_
          exact hk218 x1 (1 : Int32) x3 x4 (x5 + (1 : Int32)) hf
        · rw [if_neg hc] at hf
          refine x_aload_n C d_M_goes_264 rfl (k := 1) rfl ?_
          refine x_aload_n C d_M_goes_265 rfl (k := 1) rfl ?_
          refine gM_M_needOf C mf_M_17 d_M_goes_266 ?_
          refine x_iload C d_M_goes_269 (k := 0) rfl ?_
          obtain ⟨hin, hf⟩ := ck_some hf
          refine aldM_3 (v := (u.2 2 (((4 : Int32) * x4) + x5).toNatClampNeg)) C hin rfl d_M_goes_271 ?_
          refine x_aload_n C d_M_goes_272 rfl (k := 1) rfl ?_
          refine gM_M_needFrom C mf_M_20 d_M_goes_273 ?_
          refine x_iload C d_M_goes_276 (k := 0) rfl ?_
          obtain ⟨hin, hf⟩ := ck_some hf
          refine aldM_4 (v := (u.2 3 (((4 : Int32) * x4) + x5).toNatClampNeg)) C hin rfl d_M_goes_278 ?_
          refine x_aload_n C d_M_goes_279 rfl (k := 1) rfl ?_
          refine gM_M_needTo C mf_M_23 d_M_goes_280 ?_
          refine x_iload C d_M_goes_283 (k := 0) rfl ?_
          obtain ⟨hin, hf⟩ := ck_some hf
          refine aldM_5 (v := (u.2 4 (((4 : Int32) * x4) + x5).toNatClampNeg)) C hin rfl d_M_goes_285 ?_
          obtain ⟨r1, hc1, hf⟩ := Option.bind_eq_some_iff.mp hf
          refine x_callIv (q0 := 0) (ci := 4) (rest := []) C (c_M_isMet (u.2 2 (((4 : Int32) * x4) + x5).toNatClampNeg) (u.2 3 (((4 : Int32) * x4) + x5).toNatClampNeg) (u.2 4 (((4 : Int32) * x4) + x5).toNatClampNeg) u hc1) kc_M_isMet (rok (by decide) (by decide)) mm_M_84 ms_M_isMet ml_M_isMet rfl rfl rfl rfl (Nat.le_of_ble_eq_true rfl) d_M_goes_286 ?_
          refine x_if_eq (tgt := 296) C d_M_goes_289 (by decide) (fun hc => ?_) (fun hc => ?_)
          · rw [if_pos hc] at hf
            refine x_iconst (v := 0) C d_M_goes_296 (by decide) ?_
            refine x_istore_n (lv' := [(2, .int (0 : Int32)), (6, .int (((4 : Int32) * x4) + x5)), (0, .ref (h 0)), (1, .int x1), (3, .int x3), (4, .int x4), (5, .int x5)]) C d_M_goes_297 rfl (by decide) rfl ?_
            refine x_iinc (v := (x5 + (1 : Int32))) (lv' := [(5, .int (x5 + (1 : Int32))), (2, .int (0 : Int32)), (6, .int (((4 : Int32) * x4) + x5)), (0, .ref (h 0)), (1, .int x1), (3, .int x3), (4, .int x4)]) C d_M_goes_298 (k := 6) rfl rfl (by decide) rfl ?_
            refine x_goto (tgt := 218) C d_M_goes_301 (by decide) ?_
            refine x_sub (lv' := [(0, .ref (h 0)), (1, .int x1), (2, .int (0 : Int32)), (3, .int x3), (4, .int x4), (5, .int (x5 + (1 : Int32)))]) [3, 4, 1, 5, 6, 0] rfl ?_
            exact hk218 x1 (0 : Int32) x3 x4 (x5 + (1 : Int32)) hf
          · rw [if_neg hc] at hf
            refine x_iconst (v := 1) C d_M_goes_292 (by decide) ?_
            refine x_goto (tgt := 297) C d_M_goes_293 (by decide) ?_
            refine x_istore_n (lv' := [(2, .int (1 : Int32)), (6, .int (((4 : Int32) * x4) + x5)), (0, .ref (h 0)), (1, .int x1), (3, .int x3), (4, .int x4), (5, .int x5)]) C d_M_goes_297 rfl (by decide) rfl ?_
            refine x_iinc (v := (x5 + (1 : Int32))) (lv' := [(5, .int (x5 + (1 : Int32))), (2, .int (1 : Int32)), (6, .int (((4 : Int32) * x4) + x5)), (0, .ref (h 0)), (1, .int x1), (3, .int x3), (4, .int x4)]) C d_M_goes_298 (k := 6) rfl rfl (by decide) rfl ?_
            refine x_goto (tgt := 218) C d_M_goes_301 (by decide) ?_
            refine x_sub (lv' := [(0, .ref (h 0)), (1, .int x1), (2, .int (1 : Int32)), (3, .int x3), (4, .int x4), (5, .int (x5 + (1 : Int32)))]) [3, 4, 1, 5, 6, 0] rfl ?_
            exact hk218 x1 (1 : Int32) x3 x4 (x5 + (1 : Int32)) hf
def l_M_goes_218 (u : PS) (k194 : Int32 → Int32 → Int32 → Option (Int32)) : Nat → Int32 → Int32 → Int32 → Int32 → Int32 → Option (Int32)
  | 0 => fun _ _ _ _ _ => none
  | n + 1 => b_M_goes_218 u k194 (l_M_goes_218 u k194 n)
theorem wl_M_goes_218 {γ : CX} {cI cZ : ClassId} {h : Nat → Nat} {u : PS} {r0 : Int32} (C : Cx γ b_M_goes 7 (some .boolean) "PackagePickModel" (rk 1) [(cI, .int), (cZ, .boolean)]) (hQ : QI γ [(cI, .int), (cZ, .boolean)] (WM cI cZ h) r0 u) (k194 : Int32 → Int32 → Int32 → Option (Int32)) (hk194 : ∀ (x1 : Int32) (x2 : Int32) (x3 : Int32), k194 x1 x2 x3 = some r0 → AtG γ (WM cI cZ h) 7 0 0 194 [(0, .ref (h 0)), (1, .int x1), (2, .int x2), (3, .int x3)] [] u) (n : Nat) : ∀ (x1 : Int32) (x2 : Int32) (x3 : Int32) (x4 : Int32) (x5 : Int32), l_M_goes_218 u k194 n x1 x2 x3 x4 x5 = some r0 → AtG γ (WM cI cZ h) 7 0 0 218 [(0, .ref (h 0)), (1, .int x1), (2, .int x2), (3, .int x3), (4, .int x4), (5, .int x5)] [] u := by
  induction n with
  | zero => intro x1 x2 x3 x4 x5 hf; cases hf
  | succ n ih => intro x1 x2 x3 x4 x5 hf; exact w_M_goes_218 C hQ k194 (l_M_goes_218 u k194 n) hk194 ih x1 x2 x3 x4 x5 hf
def b_M_goes_194 (u : PS) (k194 : Int32 → Int32 → Int32 → Option (Int32)) (x1 : Int32) (x2 : Int32) (x3 : Int32) : Option (Int32) :=
  if x1 < x3 then
    ck (isB x2) <|
    some x2
  else
    if x2 = 0 then
      ck (isB x2) <|
      some x2
    else
      ck (inb x3 7) <|
      l_M_goes_218 u k194 NF x1 x2 x3 (((4 : Int32) * x3) + (u.2 10 x3.toNatClampNeg)) (0 : Int32)
set_option maxRecDepth 100000 in
set_option maxHeartbeats 4000000 in
theorem w_M_goes_194 {γ : CX} {cI cZ : ClassId} {h : Nat → Nat} {u : PS} {r0 : Int32} (C : Cx γ b_M_goes 7 (some .boolean) "PackagePickModel" (rk 1) [(cI, .int), (cZ, .boolean)]) (hQ : QI γ [(cI, .int), (cZ, .boolean)] (WM cI cZ h) r0 u) (k194 : Int32 → Int32 → Int32 → Option (Int32)) (hk194 : ∀ (x1 : Int32) (x2 : Int32) (x3 : Int32), k194 x1 x2 x3 = some r0 → AtG γ (WM cI cZ h) 7 0 0 194 [(0, .ref (h 0)), (1, .int x1), (2, .int x2), (3, .int x3)] [] u) (x1 : Int32) (x2 : Int32) (x3 : Int32) (hf : b_M_goes_194 u k194 x1 x2 x3 = some r0) : AtG γ (WM cI cZ h) 7 0 0 194 [(0, .ref (h 0)), (1, .int x1), (2, .int x2), (3, .int x3)] [] u := by
  unfold b_M_goes_194 at hf
  refine x_iload_n C d_M_goes_194 rfl (k := 3) rfl ?_
  refine x_iload_n C d_M_goes_195 rfl (k := 1) rfl ?_
  refine x_icmp_gt (tgt := 310) C d_M_goes_196 (by decide) (fun hc => ?_) (fun hc => ?_)
  · rw [if_pos hc] at hf
    refine x_iload_n C d_M_goes_310 rfl (k := 2) rfl ?_
    obtain ⟨hbo, hf⟩ := ck_some hf
    exact x_zret C hQ (isB_nar hbo) (Option.some.inj hf) rfl d_M_goes_311
  · rw [if_neg hc] at hf
    refine x_iload_n C d_M_goes_199 rfl (k := 2) rfl ?_
    refine x_if_eq (tgt := 310) C d_M_goes_200 (by decide) (fun hc => ?_) (fun hc => ?_)
    · rw [if_pos hc] at hf
      refine x_iload_n C d_M_goes_310 rfl (k := 2) rfl ?_
      obtain ⟨hbo, hf⟩ := ck_some hf
      exact x_zret C hQ (isB_nar hbo) (Option.some.inj hf) rfl d_M_goes_311
    · rw [if_neg hc] at hf
      refine x_iconst (v := 4) C d_M_goes_203 (by decide) ?_
      refine x_iload_n C d_M_goes_204 rfl (k := 3) rfl ?_
      refine x_imul C d_M_goes_205 ?_
      refine x_aload_n C d_M_goes_206 rfl (k := 0) rfl ?_
      refine gM_M_pick C mf_M_41 d_M_goes_207 ?_
      refine x_iload_n C d_M_goes_210 rfl (k := 3) rfl ?_
      obtain ⟨hin, hf⟩ := ck_some hf
      refine aldM_11 (v := (u.2 10 x3.toNatClampNeg)) C hin rfl d_M_goes_211 ?_
      refine x_iadd C d_M_goes_212 ?_
      refine x_istore (lv' := [(4, .int (((4 : Int32) * x3) + (u.2 10 x3.toNatClampNeg))), (0, .ref (h 0)), (1, .int x1), (2, .int x2), (3, .int x3)]) C d_M_goes_213 (by decide) rfl ?_
      refine x_iconst (v := 0) C d_M_goes_215 (by decide) ?_
      refine x_istore (lv' := [(5, .int (0 : Int32)), (4, .int (((4 : Int32) * x3) + (u.2 10 x3.toNatClampNeg))), (0, .ref (h 0)), (1, .int x1), (2, .int x2), (3, .int x3)]) C d_M_goes_216 (by decide) rfl ?_
      refine x_sub (lv' := [(0, .ref (h 0)), (1, .int x1), (2, .int x2), (3, .int x3), (4, .int (((4 : Int32) * x3) + (u.2 10 x3.toNatClampNeg))), (5, .int (0 : Int32))]) [2, 3, 4, 5, 1, 0] rfl ?_
      exact wl_M_goes_218 C hQ k194 hk194 NF x1 x2 x3 (((4 : Int32) * x3) + (u.2 10 x3.toNatClampNeg)) (0 : Int32) hf
def l_M_goes_194 (u : PS) : Nat → Int32 → Int32 → Int32 → Option (Int32)
  | 0 => fun _ _ _ => none
  | n + 1 => b_M_goes_194 u (l_M_goes_194 u n)
theorem wl_M_goes_194 {γ : CX} {cI cZ : ClassId} {h : Nat → Nat} {u : PS} {r0 : Int32} (C : Cx γ b_M_goes 7 (some .boolean) "PackagePickModel" (rk 1) [(cI, .int), (cZ, .boolean)]) (hQ : QI γ [(cI, .int), (cZ, .boolean)] (WM cI cZ h) r0 u) (n : Nat) : ∀ (x1 : Int32) (x2 : Int32) (x3 : Int32), l_M_goes_194 u n x1 x2 x3 = some r0 → AtG γ (WM cI cZ h) 7 0 0 194 [(0, .ref (h 0)), (1, .int x1), (2, .int x2), (3, .int x3)] [] u := by
  induction n with
  | zero => intro x1 x2 x3 hf; cases hf
  | succ n ih => intro x1 x2 x3 hf; exact w_M_goes_194 C hQ (l_M_goes_194 u n) ih x1 x2 x3 hf
def b_M_goes_100 (u : PS) (k100 : Int32 → Int32 → Int32 → Option (Int32)) (x1 : Int32) (x2 : Int32) (x3 : Int32) : Option (Int32) :=
  if (u.1 2) ≤ x3 then
    l_M_goes_194 u NF x1 x2 (0 : Int32)
  else
    if x2 = 0 then
      l_M_goes_194 u NF x1 x2 (0 : Int32)
    else
      ck (inb x3 16) <|
      ck (inb x3 16) <|
      if x1 < ((u.2 8 x3.toNatClampNeg) / (4 : Int32)) then
        k100 x1 (1 : Int32) (x3 + (1 : Int32))
      else
        if x1 < ((u.2 9 x3.toNatClampNeg) / (4 : Int32)) then
          k100 x1 (1 : Int32) (x3 + (1 : Int32))
        else
          ck (inb ((u.2 8 x3.toNatClampNeg) / (4 : Int32)) 7) <|
          ck (inb x3 16) <|
          if (u.2 10 ((u.2 8 x3.toNatClampNeg) / (4 : Int32)).toNatClampNeg) = ((u.2 8 x3.toNatClampNeg) - (u.2 8 x3.toNatClampNeg) / (4 : Int32) * (4 : Int32)) then
            ck (inb ((u.2 9 x3.toNatClampNeg) / (4 : Int32)) 7) <|
            ck (inb x3 16) <|
            if (u.2 10 ((u.2 9 x3.toNatClampNeg) / (4 : Int32)).toNatClampNeg) = ((u.2 9 x3.toNatClampNeg) - (u.2 9 x3.toNatClampNeg) / (4 : Int32) * (4 : Int32)) then
              k100 x1 (0 : Int32) (x3 + (1 : Int32))
            else
              k100 x1 (1 : Int32) (x3 + (1 : Int32))
          else
            k100 x1 (1 : Int32) (x3 + (1 : Int32))
set_option maxRecDepth 100000 in
set_option maxHeartbeats 4000000 in
theorem w_M_goes_100 {γ : CX} {cI cZ : ClassId} {h : Nat → Nat} {u : PS} {r0 : Int32} (C : Cx γ b_M_goes 7 (some .boolean) "PackagePickModel" (rk 1) [(cI, .int), (cZ, .boolean)]) (hQ : QI γ [(cI, .int), (cZ, .boolean)] (WM cI cZ h) r0 u) (k100 : Int32 → Int32 → Int32 → Option (Int32)) (hk100 : ∀ (x1 : Int32) (x2 : Int32) (x3 : Int32), k100 x1 x2 x3 = some r0 → AtG γ (WM cI cZ h) 7 0 0 100 [(0, .ref (h 0)), (1, .int x1), (2, .int x2), (3, .int x3)] [] u) (x1 : Int32) (x2 : Int32) (x3 : Int32) (hf : b_M_goes_100 u k100 x1 x2 x3 = some r0) : AtG γ (WM cI cZ h) 7 0 0 100 [(0, .ref (h 0)), (1, .int x1), (2, .int x2), (3, .int x3)] [] u := by
  unfold b_M_goes_100 at hf
  refine x_iload_n C d_M_goes_100 rfl (k := 3) rfl ?_
  refine x_aload_n C d_M_goes_101 rfl (k := 0) rfl ?_
  refine gM_M_bans (v := (u.1 2)) C mf_M_72 rfl d_M_goes_102 ?_
  refine x_icmp_ge (tgt := 192) C d_M_goes_105 (by decide) (fun hc => ?_) (fun hc => ?_)
  · rw [if_pos hc] at hf
    refine x_iconst (v := 0) C d_M_goes_192 (by decide) ?_
    refine x_istore_n (lv' := [(3, .int (0 : Int32)), (0, .ref (h 0)), (1, .int x1), (2, .int x2)]) C d_M_goes_193 rfl (by decide) rfl ?_
    refine x_sub (lv' := [(0, .ref (h 0)), (1, .int x1), (2, .int x2), (3, .int (0 : Int32))]) [1, 2, 3, 0] rfl ?_
    exact wl_M_goes_194 C hQ NF x1 x2 (0 : Int32) hf
  · rw [if_neg hc] at hf
    refine x_iload_n C d_M_goes_108 rfl (k := 2) rfl ?_
    refine x_if_eq (tgt := 192) C d_M_goes_109 (by decide) (fun hc => ?_) (fun hc => ?_)
    · rw [if_pos hc] at hf
      refine x_iconst (v := 0) C d_M_goes_192 (by decide) ?_
      refine x_istore_n (lv' := [(3, .int (0 : Int32)), (0, .ref (h 0)), (1, .int x1), (2, .int x2)]) C d_M_goes_193 rfl (by decide) rfl ?_
      refine x_sub (lv' := [(0, .ref (h 0)), (1, .int x1), (2, .int x2), (3, .int (0 : Int32))]) [1, 2, 3, 0] rfl ?_
      exact wl_M_goes_194 C hQ NF x1 x2 (0 : Int32) hf
    · rw [if_neg hc] at hf
      refine x_aload_n C d_M_goes_112 rfl (k := 0) rfl ?_
      refine gM_M_banOne C mf_M_35 d_M_goes_113 ?_
      refine x_iload_n C d_M_goes_116 rfl (k := 3) rfl ?_
      obtain ⟨hin, hf⟩ := ck_some hf
      refine aldM_9 (v := (u.2 8 x3.toNatClampNeg)) C hin rfl d_M_goes_117 ?_
      refine x_iconst (v := 4) C d_M_goes_118 (by decide) ?_
      refine x_idiv C d_M_goes_119 (by decide) ?_
      refine x_istore (lv' := [(4, .int ((u.2 8 x3.toNatClampNeg) / (4 : Int32))), (0, .ref (h 0)), (1, .int x1), (2, .int x2), (3, .int x3)]) C d_M_goes_120 (by decide) rfl ?_
      refine x_aload_n C d_M_goes_122 rfl (k := 1) rfl ?_
      refine gM_M_banTwo C mf_M_38 d_M_goes_123 ?_
      refine x_iload_n C d_M_goes_126 rfl (k := 4) rfl ?_
      obtain ⟨hin, hf⟩ := ck_some hf
      refine aldM_10 (v := (u.2 9 x3.toNatClampNeg)) C hin rfl d_M_goes_127 ?_
      refine x_iconst (v := 4) C d_M_goes_128 (by decide) ?_
      refine x_idiv C d_M_goes_129 (by decide) ?_
      refine x_istore (lv' := [(5, .int ((u.2 9 x3.toNatClampNeg) / (4 : Int32))), (4, .int ((u.2 8 x3.toNatClampNeg) / (4 : Int32))), (0, .ref (h 0)), (1, .int x1), (2, .int x2), (3, .int x3)]) C d_M_goes_130 (by decide) rfl ?_
      refine x_iload C d_M_goes_132 (k := 1) rfl ?_
      refine x_iload_n C d_M_goes_134 rfl (k := 3) rfl ?_
      refine x_icmp_gt (tgt := 180) C d_M_goes_135 (by decide) (fun hc => ?_) (fun hc => ?_)
      · rw [if_pos hc] at hf
        refine x_iconst (v := 1) C d_M_goes_180 (by decide) ?_
        refine x_goto (tgt := 185) C d_M_goes_181 (by decide) ?_
        refine x_istore_n (lv' := [(2, .int (1 : Int32)), (5, .int ((u.2 9 x3.toNatClampNeg) / (4 : Int32))), (4, .int ((u.2 8 x3.toNatClampNeg) / (4 : Int32))), (0, .ref (h 0)), (1, .int x1), (3, .int x3)]) C d_M_goes_185 rfl (by decide) rfl ?_
        refine x_iinc (v := (x3 + (1 : Int32))) (lv' := [(3, .int (x3 + (1 : Int32))), (2, .int (1 : Int32)), (5, .int ((u.2 9 x3.toNatClampNeg) / (4 : Int32))), (4, .int ((u.2 8 x3.toNatClampNeg) / (4 : Int32))), (0, .ref (h 0)), (1, .int x1)]) C d_M_goes_186 (k := 5) rfl rfl (by decide) rfl ?_
        refine x_goto (tgt := 100) C d_M_goes_189 (by decide) ?_
        refine x_sub (lv' := [(0, .ref (h 0)), (1, .int x1), (2, .int (1 : Int32)), (3, .int (x3 + (1 : Int32)))]) [4, 5, 1, 0] rfl ?_
        exact hk100 x1 (1 : Int32) (x3 + (1 : Int32)) hf
      · rw [if_neg hc] at hf
        refine x_iload C d_M_goes_138 (k := 0) rfl ?_
        refine x_iload_n C d_M_goes_140 rfl (k := 3) rfl ?_
        refine x_icmp_gt (tgt := 180) C d_M_goes_141 (by decide) (fun hc => ?_) (fun hc => ?_)
        · rw [if_pos hc] at hf
          refine x_iconst (v := 1) C d_M_goes_180 (by decide) ?_
          refine x_goto (tgt := 185) C d_M_goes_181 (by decide) ?_
          refine x_istore_n (lv' := [(2, .int (1 : Int32)), (5, .int ((u.2 9 x3.toNatClampNeg) / (4 : Int32))), (4, .int ((u.2 8 x3.toNatClampNeg) / (4 : Int32))), (0, .ref (h 0)), (1, .int x1), (3, .int x3)]) C d_M_goes_185 rfl (by decide) rfl ?_
          refine x_iinc (v := (x3 + (1 : Int32))) (lv' := [(3, .int (x3 + (1 : Int32))), (2, .int (1 : Int32)), (5, .int ((u.2 9 x3.toNatClampNeg) / (4 : Int32))), (4, .int ((u.2 8 x3.toNatClampNeg) / (4 : Int32))), (0, .ref (h 0)), (1, .int x1)]) C d_M_goes_186 (k := 5) rfl rfl (by decide) rfl ?_
          refine x_goto (tgt := 100) C d_M_goes_189 (by decide) ?_
          refine x_sub (lv' := [(0, .ref (h 0)), (1, .int x1), (2, .int (1 : Int32)), (3, .int (x3 + (1 : Int32)))]) [4, 5, 1, 0] rfl ?_
          exact hk100 x1 (1 : Int32) (x3 + (1 : Int32)) hf
        · rw [if_neg hc] at hf
          refine x_aload_n C d_M_goes_144 rfl (k := 2) rfl ?_
          refine gM_M_pick C mf_M_41 d_M_goes_145 ?_
          refine x_iload C d_M_goes_148 (k := 1) rfl ?_
          obtain ⟨hin, hf⟩ := ck_some hf
          refine aldM_11 (v := (u.2 10 ((u.2 8 x3.toNatClampNeg) / (4 : Int32)).toNatClampNeg)) C hin rfl d_M_goes_150 ?_
          refine x_aload_n C d_M_goes_151 rfl (k := 2) rfl ?_
          refine gM_M_banOne C mf_M_35 d_M_goes_152 ?_
          refine x_iload_n C d_M_goes_155 rfl (k := 5) rfl ?_
          obtain ⟨hin, hf⟩ := ck_some hf
          refine aldM_9 (v := (u.2 8 x3.toNatClampNeg)) C hin rfl d_M_goes_156 ?_
          refine x_iconst (v := 4) C d_M_goes_157 (by decide) ?_
          refine x_irem C d_M_goes_158 (by decide) ?_
          refine x_icmp_ne (tgt := 180) C d_M_goes_159 (by decide) (fun hc => ?_) (fun hc => ?_)
          · rw [if_neg hc] at hf
            refine x_iconst (v := 1) C d_M_goes_180 (by decide) ?_
            refine x_goto (tgt := 185) C d_M_goes_181 (by decide) ?_
            refine x_istore_n (lv' := [(2, .int (1 : Int32)), (5, .int ((u.2 9 x3.toNatClampNeg) / (4 : Int32))), (4, .int ((u.2 8 x3.toNatClampNeg) / (4 : Int32))), (0, .ref (h 0)), (1, .int x1), (3, .int x3)]) C d_M_goes_185 rfl (by decide) rfl ?_
            refine x_iinc (v := (x3 + (1 : Int32))) (lv' := [(3, .int (x3 + (1 : Int32))), (2, .int (1 : Int32)), (5, .int ((u.2 9 x3.toNatClampNeg) / (4 : Int32))), (4, .int ((u.2 8 x3.toNatClampNeg) / (4 : Int32))), (0, .ref (h 0)), (1, .int x1)]) C d_M_goes_186 (k := 5) rfl rfl (by decide) rfl ?_
            refine x_goto (tgt := 100) C d_M_goes_189 (by decide) ?_
            refine x_sub (lv' := [(0, .ref (h 0)), (1, .int x1), (2, .int (1 : Int32)), (3, .int (x3 + (1 : Int32)))]) [4, 5, 1, 0] rfl ?_
            exact hk100 x1 (1 : Int32) (x3 + (1 : Int32)) hf
          · rw [if_pos hc] at hf
            refine x_aload_n C d_M_goes_162 rfl (k := 2) rfl ?_
            refine gM_M_pick C mf_M_41 d_M_goes_163 ?_
            refine x_iload C d_M_goes_166 (k := 0) rfl ?_
            obtain ⟨hin, hf⟩ := ck_some hf
            refine aldM_11 (v := (u.2 10 ((u.2 9 x3.toNatClampNeg) / (4 : Int32)).toNatClampNeg)) C hin rfl d_M_goes_168 ?_
            refine x_aload_n C d_M_goes_169 rfl (k := 2) rfl ?_
            refine gM_M_banTwo C mf_M_38 d_M_goes_170 ?_
            refine x_iload_n C d_M_goes_173 rfl (k := 5) rfl ?_
            obtain ⟨hin, hf⟩ := ck_some hf
            refine aldM_10 (v := (u.2 9 x3.toNatClampNeg)) C hin rfl d_M_goes_174 ?_
            refine x_iconst (v := 4) C d_M_goes_175 (by decide) ?_
            refine x_irem C d_M_goes_176 (by decide) ?_
            refine x_icmp_eq (tgt := 184) C d_M_goes_177 (by decide) (fun hc => ?_) (fun hc => ?_)
            · rw [if_pos hc] at hf
              refine x_iconst (v := 0) C d_M_goes_184 (by decide) ?_
              refine x_istore_n (lv' := [(2, .int (0 : Int32)), (5, .int ((u.2 9 x3.toNatClampNeg) / (4 : Int32))), (4, .int ((u.2 8 x3.toNatClampNeg) / (4 : Int32))), (0, .ref (h 0)), (1, .int x1), (3, .int x3)]) C d_M_goes_185 rfl (by decide) rfl ?_
              refine x_iinc (v := (x3 + (1 : Int32))) (lv' := [(3, .int (x3 + (1 : Int32))), (2, .int (0 : Int32)), (5, .int ((u.2 9 x3.toNatClampNeg) / (4 : Int32))), (4, .int ((u.2 8 x3.toNatClampNeg) / (4 : Int32))), (0, .ref (h 0)), (1, .int x1)]) C d_M_goes_186 (k := 5) rfl rfl (by decide) rfl ?_
              refine x_goto (tgt := 100) C d_M_goes_189 (by decide) ?_
              refine x_sub (lv' := [(0, .ref (h 0)), (1, .int x1), (2, .int (0 : Int32)), (3, .int (x3 + (1 : Int32)))]) [4, 5, 1, 0] rfl ?_
              exact hk100 x1 (0 : Int32) (x3 + (1 : Int32)) hf
            · rw [if_neg hc] at hf
              refine x_iconst (v := 1) C d_M_goes_180 (by decide) ?_
              refine x_goto (tgt := 185) C d_M_goes_181 (by decide) ?_
              refine x_istore_n (lv' := [(2, .int (1 : Int32)), (5, .int ((u.2 9 x3.toNatClampNeg) / (4 : Int32))), (4, .int ((u.2 8 x3.toNatClampNeg) / (4 : Int32))), (0, .ref (h 0)), (1, .int x1), (3, .int x3)]) C d_M_goes_185 rfl (by decide) rfl ?_
              refine x_iinc (v := (x3 + (1 : Int32))) (lv' := [(3, .int (x3 + (1 : Int32))), (2, .int (1 : Int32)), (5, .int ((u.2 9 x3.toNatClampNeg) / (4 : Int32))), (4, .int ((u.2 8 x3.toNatClampNeg) / (4 : Int32))), (0, .ref (h 0)), (1, .int x1)]) C d_M_goes_186 (k := 5) rfl rfl (by decide) rfl ?_
              refine x_goto (tgt := 100) C d_M_goes_189 (by decide) ?_
              refine x_sub (lv' := [(0, .ref (h 0)), (1, .int x1), (2, .int (1 : Int32)), (3, .int (x3 + (1 : Int32)))]) [4, 5, 1, 0] rfl ?_
              exact hk100 x1 (1 : Int32) (x3 + (1 : Int32)) hf
def l_M_goes_100 (u : PS) : Nat → Int32 → Int32 → Int32 → Option (Int32)
  | 0 => fun _ _ _ => none
  | n + 1 => b_M_goes_100 u (l_M_goes_100 u n)
theorem wl_M_goes_100 {γ : CX} {cI cZ : ClassId} {h : Nat → Nat} {u : PS} {r0 : Int32} (C : Cx γ b_M_goes 7 (some .boolean) "PackagePickModel" (rk 1) [(cI, .int), (cZ, .boolean)]) (hQ : QI γ [(cI, .int), (cZ, .boolean)] (WM cI cZ h) r0 u) (n : Nat) : ∀ (x1 : Int32) (x2 : Int32) (x3 : Int32), l_M_goes_100 u n x1 x2 x3 = some r0 → AtG γ (WM cI cZ h) 7 0 0 100 [(0, .ref (h 0)), (1, .int x1), (2, .int x2), (3, .int x3)] [] u := by
  induction n with
  | zero => intro x1 x2 x3 hf; cases hf
  | succ n ih => intro x1 x2 x3 hf; exact w_M_goes_100 C hQ (l_M_goes_100 u n) ih x1 x2 x3 hf
def b_M_goes_36 (u : PS) (k36 : Int32 → Int32 → Int32 → Option (Int32)) (x1 : Int32) (x2 : Int32) (x3 : Int32) : Option (Int32) :=
  if (u.1 1) ≤ x3 then
    l_M_goes_100 u NF x1 x2 (0 : Int32)
  else
    if x2 = 0 then
      k36 x1 (0 : Int32) (x3 + (1 : Int32))
    else
      if (f_M_counts x3 u) = 0 then
        k36 x1 (1 : Int32) (x3 + (1 : Int32))
      else
        ck (inb x3 6) <|
        if (u.2 5 x3.toNatClampNeg) = x1 then
          ck (inb x3 6) <|
          ck (inb x3 6) <|
          (f_M_isMet x1 (u.2 6 x3.toNatClampNeg) (u.2 7 x3.toNatClampNeg) u).bind fun r3 =>
          if r3 = 0 then
            k36 x1 (0 : Int32) (x3 + (1 : Int32))
          else
            k36 x1 (1 : Int32) (x3 + (1 : Int32))
        else
          k36 x1 (1 : Int32) (x3 + (1 : Int32))
set_option maxRecDepth 100000 in
set_option maxHeartbeats 4000000 in
theorem w_M_goes_36 {γ : CX} {cI cZ : ClassId} {h : Nat → Nat} {u : PS} {r0 : Int32} (C : Cx γ b_M_goes 7 (some .boolean) "PackagePickModel" (rk 1) [(cI, .int), (cZ, .boolean)]) (hQ : QI γ [(cI, .int), (cZ, .boolean)] (WM cI cZ h) r0 u) (k36 : Int32 → Int32 → Int32 → Option (Int32)) (hk36 : ∀ (x1 : Int32) (x2 : Int32) (x3 : Int32), k36 x1 x2 x3 = some r0 → AtG γ (WM cI cZ h) 7 0 0 36 [(0, .ref (h 0)), (1, .int x1), (2, .int x2), (3, .int x3)] [] u) (x1 : Int32) (x2 : Int32) (x3 : Int32) (hf : b_M_goes_36 u k36 x1 x2 x3 = some r0) : AtG γ (WM cI cZ h) 7 0 0 36 [(0, .ref (h 0)), (1, .int x1), (2, .int x2), (3, .int x3)] [] u := by
  unfold b_M_goes_36 at hf
  refine x_iload_n C d_M_goes_36 rfl (k := 3) rfl ?_
  refine x_aload_n C d_M_goes_37 rfl (k := 0) rfl ?_
  refine gM_M_asked (v := (u.1 1)) C mf_M_75 rfl d_M_goes_38 ?_
  refine x_icmp_ge (tgt := 98) C d_M_goes_41 (by decide) (fun hc => ?_) (fun hc => ?_)
  · rw [if_pos hc] at hf
    refine x_iconst (v := 0) C d_M_goes_98 (by decide) ?_
    refine x_istore_n (lv' := [(3, .int (0 : Int32)), (0, .ref (h 0)), (1, .int x1), (2, .int x2)]) C d_M_goes_99 rfl (by decide) rfl ?_
    refine x_sub (lv' := [(0, .ref (h 0)), (1, .int x1), (2, .int x2), (3, .int (0 : Int32))]) [1, 2, 3, 0] rfl ?_
    exact wl_M_goes_100 C hQ NF x1 x2 (0 : Int32) hf
  · rw [if_neg hc] at hf
    refine x_iload_n C d_M_goes_44 rfl (k := 2) rfl ?_
    refine x_if_eq (tgt := 90) C d_M_goes_45 (by decide) (fun hc => ?_) (fun hc => ?_)
    · rw [if_pos hc] at hf
      refine x_iconst (v := 0) C d_M_goes_90 (by decide) ?_
      refine x_istore_n (lv' := [(2, .int (0 : Int32)), (0, .ref (h 0)), (1, .int x1), (3, .int x3)]) C d_M_goes_91 rfl (by decide) rfl ?_
      refine x_iinc (v := (x3 + (1 : Int32))) (lv' := [(3, .int (x3 + (1 : Int32))), (2, .int (0 : Int32)), (0, .ref (h 0)), (1, .int x1)]) C d_M_goes_92 (k := 3) rfl rfl (by decide) rfl ?_
      refine x_goto (tgt := 36) C d_M_goes_95 (by decide) ?_
      refine x_sub (lv' := [(0, .ref (h 0)), (1, .int x1), (2, .int (0 : Int32)), (3, .int (x3 + (1 : Int32)))]) [2, 3, 1, 0] rfl ?_
      exact hk36 x1 (0 : Int32) (x3 + (1 : Int32)) hf
    · rw [if_neg hc] at hf
      refine x_aload_n C d_M_goes_48 rfl (k := 0) rfl ?_
      refine x_iload_n C d_M_goes_49 rfl (k := 3) rfl ?_
      refine x_callIv (q0 := 0) (ci := 4) (rest := []) C (c_M_counts x3 u) kc_M_counts (rok (by decide) (by decide)) mm_M_81 ms_M_counts ml_M_counts rfl rfl rfl rfl (Nat.le_of_ble_eq_true rfl) d_M_goes_50 ?_
      refine x_if_eq (tgt := 86) C d_M_goes_53 (by decide) (fun hc => ?_) (fun hc => ?_)
      · rw [if_pos hc] at hf
        refine x_iconst (v := 1) C d_M_goes_86 (by decide) ?_
        refine x_goto (tgt := 91) C d_M_goes_87 (by decide) ?_
        refine x_istore_n (lv' := [(2, .int (1 : Int32)), (0, .ref (h 0)), (1, .int x1), (3, .int x3)]) C d_M_goes_91 rfl (by decide) rfl ?_
        refine x_iinc (v := (x3 + (1 : Int32))) (lv' := [(3, .int (x3 + (1 : Int32))), (2, .int (1 : Int32)), (0, .ref (h 0)), (1, .int x1)]) C d_M_goes_92 (k := 3) rfl rfl (by decide) rfl ?_
        refine x_goto (tgt := 36) C d_M_goes_95 (by decide) ?_
        refine x_sub (lv' := [(0, .ref (h 0)), (1, .int x1), (2, .int (1 : Int32)), (3, .int (x3 + (1 : Int32)))]) [2, 3, 1, 0] rfl ?_
        exact hk36 x1 (1 : Int32) (x3 + (1 : Int32)) hf
      · rw [if_neg hc] at hf
        refine x_aload_n C d_M_goes_56 rfl (k := 0) rfl ?_
        refine gM_M_askedOf C mf_M_26 d_M_goes_57 ?_
        refine x_iload_n C d_M_goes_60 rfl (k := 3) rfl ?_
        obtain ⟨hin, hf⟩ := ck_some hf
        refine aldM_6 (v := (u.2 5 x3.toNatClampNeg)) C hin rfl d_M_goes_61 ?_
        refine x_iload_n C d_M_goes_62 rfl (k := 1) rfl ?_
        refine x_icmp_ne (tgt := 86) C d_M_goes_63 (by decide) (fun hc => ?_) (fun hc => ?_)
        · rw [if_neg hc] at hf
          refine x_iconst (v := 1) C d_M_goes_86 (by decide) ?_
          refine x_goto (tgt := 91) C d_M_goes_87 (by decide) ?_
          refine x_istore_n (lv' := [(2, .int (1 : Int32)), (0, .ref (h 0)), (1, .int x1), (3, .int x3)]) C d_M_goes_91 rfl (by decide) rfl ?_
          refine x_iinc (v := (x3 + (1 : Int32))) (lv' := [(3, .int (x3 + (1 : Int32))), (2, .int (1 : Int32)), (0, .ref (h 0)), (1, .int x1)]) C d_M_goes_92 (k := 3) rfl rfl (by decide) rfl ?_
          refine x_goto (tgt := 36) C d_M_goes_95 (by decide) ?_
          refine x_sub (lv' := [(0, .ref (h 0)), (1, .int x1), (2, .int (1 : Int32)), (3, .int (x3 + (1 : Int32)))]) [2, 3, 1, 0] rfl ?_
          exact hk36 x1 (1 : Int32) (x3 + (1 : Int32)) hf
        · rw [if_pos hc] at hf
          refine x_aload_n C d_M_goes_66 rfl (k := 0) rfl ?_
          refine x_iload_n C d_M_goes_67 rfl (k := 1) rfl ?_
          refine x_aload_n C d_M_goes_68 rfl (k := 0) rfl ?_
          refine gM_M_askedFrom C mf_M_29 d_M_goes_69 ?_
          refine x_iload_n C d_M_goes_72 rfl (k := 3) rfl ?_
          obtain ⟨hin, hf⟩ := ck_some hf
          refine aldM_7 (v := (u.2 6 x3.toNatClampNeg)) C hin rfl d_M_goes_73 ?_
          refine x_aload_n C d_M_goes_74 rfl (k := 0) rfl ?_
          refine gM_M_askedTo C mf_M_32 d_M_goes_75 ?_
          refine x_iload_n C d_M_goes_78 rfl (k := 3) rfl ?_
          obtain ⟨hin, hf⟩ := ck_some hf
          refine aldM_8 (v := (u.2 7 x3.toNatClampNeg)) C hin rfl d_M_goes_79 ?_
          obtain ⟨r3, hc3, hf⟩ := Option.bind_eq_some_iff.mp hf
          refine x_callIv (q0 := 0) (ci := 4) (rest := []) C (c_M_isMet x1 (u.2 6 x3.toNatClampNeg) (u.2 7 x3.toNatClampNeg) u hc3) kc_M_isMet (rok (by decide) (by decide)) mm_M_84 ms_M_isMet ml_M_isMet rfl rfl rfl rfl (Nat.le_of_ble_eq_true rfl) d_M_goes_80 ?_
          refine x_if_eq (tgt := 90) C d_M_goes_83 (by decide) (fun hc => ?_) (fun hc => ?_)
          · rw [if_pos hc] at hf
            refine x_iconst (v := 0) C d_M_goes_90 (by decide) ?_
            refine x_istore_n (lv' := [(2, .int (0 : Int32)), (0, .ref (h 0)), (1, .int x1), (3, .int x3)]) C d_M_goes_91 rfl (by decide) rfl ?_
            refine x_iinc (v := (x3 + (1 : Int32))) (lv' := [(3, .int (x3 + (1 : Int32))), (2, .int (0 : Int32)), (0, .ref (h 0)), (1, .int x1)]) C d_M_goes_92 (k := 3) rfl rfl (by decide) rfl ?_
            refine x_goto (tgt := 36) C d_M_goes_95 (by decide) ?_
            refine x_sub (lv' := [(0, .ref (h 0)), (1, .int x1), (2, .int (0 : Int32)), (3, .int (x3 + (1 : Int32)))]) [2, 3, 1, 0] rfl ?_
            exact hk36 x1 (0 : Int32) (x3 + (1 : Int32)) hf
          · rw [if_neg hc] at hf
            refine x_iconst (v := 1) C d_M_goes_86 (by decide) ?_
            refine x_goto (tgt := 91) C d_M_goes_87 (by decide) ?_
            refine x_istore_n (lv' := [(2, .int (1 : Int32)), (0, .ref (h 0)), (1, .int x1), (3, .int x3)]) C d_M_goes_91 rfl (by decide) rfl ?_
            refine x_iinc (v := (x3 + (1 : Int32))) (lv' := [(3, .int (x3 + (1 : Int32))), (2, .int (1 : Int32)), (0, .ref (h 0)), (1, .int x1)]) C d_M_goes_92 (k := 3) rfl rfl (by decide) rfl ?_
            refine x_goto (tgt := 36) C d_M_goes_95 (by decide) ?_
            refine x_sub (lv' := [(0, .ref (h 0)), (1, .int x1), (2, .int (1 : Int32)), (3, .int (x3 + (1 : Int32)))]) [2, 3, 1, 0] rfl ?_
            exact hk36 x1 (1 : Int32) (x3 + (1 : Int32)) hf
def l_M_goes_36 (u : PS) : Nat → Int32 → Int32 → Int32 → Option (Int32)
  | 0 => fun _ _ _ => none
  | n + 1 => b_M_goes_36 u (l_M_goes_36 u n)
theorem wl_M_goes_36 {γ : CX} {cI cZ : ClassId} {h : Nat → Nat} {u : PS} {r0 : Int32} (C : Cx γ b_M_goes 7 (some .boolean) "PackagePickModel" (rk 1) [(cI, .int), (cZ, .boolean)]) (hQ : QI γ [(cI, .int), (cZ, .boolean)] (WM cI cZ h) r0 u) (n : Nat) : ∀ (x1 : Int32) (x2 : Int32) (x3 : Int32), l_M_goes_36 u n x1 x2 x3 = some r0 → AtG γ (WM cI cZ h) 7 0 0 36 [(0, .ref (h 0)), (1, .int x1), (2, .int x2), (3, .int x3)] [] u := by
  induction n with
  | zero => intro x1 x2 x3 hf; cases hf
  | succ n ih => intro x1 x2 x3 hf; exact w_M_goes_36 C hQ (l_M_goes_36 u n) ih x1 x2 x3 hf
def f_M_goes (a1 : Int32) (u : PS) : Option (Int32) :=
  ck (inb a1 7) <|
  if (u.2 10 a1.toNatClampNeg) = (-1 : Int32) then
    l_M_goes_36 u NF a1 (1 : Int32) (0 : Int32)
  else
    ck (inb a1 7) <|
    ck (inb (((4 : Int32) * a1) + (u.2 10 a1.toNatClampNeg)) 28) <|
    if (u.2 0 (((4 : Int32) * a1) + (u.2 10 a1.toNatClampNeg)).toNatClampNeg) = 0 then
      l_M_goes_36 u NF a1 (0 : Int32) (0 : Int32)
    else
      l_M_goes_36 u NF a1 (1 : Int32) (0 : Int32)
set_option maxRecDepth 100000 in
set_option maxHeartbeats 4000000 in
theorem w_M_goes {γ : CX} {cI cZ : ClassId} {h : Nat → Nat} {u : PS} {r0 : Int32} (C : Cx γ b_M_goes 7 (some .boolean) "PackagePickModel" (rk 1) [(cI, .int), (cZ, .boolean)]) (hQ : QI γ [(cI, .int), (cZ, .boolean)] (WM cI cZ h) r0 u) (a1 : Int32) (hf : f_M_goes a1 u = some r0) : AtG γ (WM cI cZ h) 7 0 0 0 [(0, .ref (h 0)), (1, .int a1)] [] u := by
  unfold f_M_goes at hf
  refine x_aload_n C d_M_goes_0 rfl (k := 0) rfl ?_
  refine gM_M_pick C mf_M_41 d_M_goes_1 ?_
  refine x_iload_n C d_M_goes_4 rfl (k := 1) rfl ?_
  obtain ⟨hin, hf⟩ := ck_some hf
  refine aldM_11 (v := (u.2 10 a1.toNatClampNeg)) C hin rfl d_M_goes_5 ?_
  refine x_iconst (v := -1) C d_M_goes_6 (by decide) ?_
  refine x_icmp_eq (tgt := 28) C d_M_goes_7 (by decide) (fun hc => ?_) (fun hc => ?_)
  · rw [if_pos hc] at hf
    refine x_iconst (v := 1) C d_M_goes_28 (by decide) ?_
    refine x_goto (tgt := 33) C d_M_goes_29 (by decide) ?_
    refine x_istore_n (lv' := [(2, .int (1 : Int32)), (0, .ref (h 0)), (1, .int a1)]) C d_M_goes_33 rfl (by decide) rfl ?_
    refine x_iconst (v := 0) C d_M_goes_34 (by decide) ?_
    refine x_istore_n (lv' := [(3, .int (0 : Int32)), (2, .int (1 : Int32)), (0, .ref (h 0)), (1, .int a1)]) C d_M_goes_35 rfl (by decide) rfl ?_
    refine x_sub (lv' := [(0, .ref (h 0)), (1, .int a1), (2, .int (1 : Int32)), (3, .int (0 : Int32))]) [2, 3, 1, 0] rfl ?_
    exact wl_M_goes_36 C hQ NF a1 (1 : Int32) (0 : Int32) hf
  · rw [if_neg hc] at hf
    refine x_aload_n C d_M_goes_10 rfl (k := 0) rfl ?_
    refine gM_M_there C mf_M_7 d_M_goes_11 ?_
    refine x_iconst (v := 4) C d_M_goes_14 (by decide) ?_
    refine x_iload_n C d_M_goes_15 rfl (k := 1) rfl ?_
    refine x_imul C d_M_goes_16 ?_
    refine x_aload_n C d_M_goes_17 rfl (k := 0) rfl ?_
    refine gM_M_pick C mf_M_41 d_M_goes_18 ?_
    refine x_iload_n C d_M_goes_21 rfl (k := 1) rfl ?_
    obtain ⟨hin, hf⟩ := ck_some hf
    refine aldM_11 (v := (u.2 10 a1.toNatClampNeg)) C hin rfl d_M_goes_22 ?_
    refine x_iadd C d_M_goes_23 ?_
    obtain ⟨hin, hf⟩ := ck_some hf
    refine aldM_1 (v := (u.2 0 (((4 : Int32) * a1) + (u.2 10 a1.toNatClampNeg)).toNatClampNeg)) C hin rfl d_M_goes_24 ?_
    refine x_if_eq (tgt := 32) C d_M_goes_25 (by decide) (fun hc => ?_) (fun hc => ?_)
    · rw [if_pos hc] at hf
      refine x_iconst (v := 0) C d_M_goes_32 (by decide) ?_
      refine x_istore_n (lv' := [(2, .int (0 : Int32)), (0, .ref (h 0)), (1, .int a1)]) C d_M_goes_33 rfl (by decide) rfl ?_
      refine x_iconst (v := 0) C d_M_goes_34 (by decide) ?_
      refine x_istore_n (lv' := [(3, .int (0 : Int32)), (2, .int (0 : Int32)), (0, .ref (h 0)), (1, .int a1)]) C d_M_goes_35 rfl (by decide) rfl ?_
      refine x_sub (lv' := [(0, .ref (h 0)), (1, .int a1), (2, .int (0 : Int32)), (3, .int (0 : Int32))]) [2, 3, 1, 0] rfl ?_
      exact wl_M_goes_36 C hQ NF a1 (0 : Int32) (0 : Int32) hf
    · rw [if_neg hc] at hf
      refine x_iconst (v := 1) C d_M_goes_28 (by decide) ?_
      refine x_goto (tgt := 33) C d_M_goes_29 (by decide) ?_
      refine x_istore_n (lv' := [(2, .int (1 : Int32)), (0, .ref (h 0)), (1, .int a1)]) C d_M_goes_33 rfl (by decide) rfl ?_
      refine x_iconst (v := 0) C d_M_goes_34 (by decide) ?_
      refine x_istore_n (lv' := [(3, .int (0 : Int32)), (2, .int (1 : Int32)), (0, .ref (h 0)), (1, .int a1)]) C d_M_goes_35 rfl (by decide) rfl ?_
      refine x_sub (lv' := [(0, .ref (h 0)), (1, .int a1), (2, .int (1 : Int32)), (3, .int (0 : Int32))]) [2, 3, 1, 0] rfl ?_
      exact wl_M_goes_36 C hQ NF a1 (1 : Int32) (0 : Int32) hf
theorem c_M_goes {l : Launch} {D : va_G} {cI cZ : ClassId} {h : Nat → Nat} (a1 : Int32) (u : PS) {r0 : Int32} (hf : f_M_goes a1 u = some r0) : CtI l y_M_goes b_M_goes 7 (some .boolean) (rk 1) D [(cI, .int), (cZ, .boolean)] (WM cI cZ h) [.ref (h 0), .int a1] u r0 u := ct_ofI (by decide) (Nat.le_of_ble_eq_true rfl) (fun γ _ _ C hQ => w_M_goes C hQ a1 hf)
-- ---- PackagePickModel.isTight()Z
def b_M_isTight_180 (k180 : Int32 → Int32 → PS → Option (Int32 × PS)) (x2 : Int32) (x3 : Int32) (u : PS) : Option (Int32 × PS) :=
  if (7 : Int32) ≤ x3 then
    ck (isB x2) <|
    some (x2, u)
  else
    if x2 = 0 then
      k180 (0 : Int32) (x3 + (1 : Int32)) u
    else
      ck (inb x3 7) <|
      if (u.2 11 x3.toNatClampNeg) = 0 then
        ck (inb x3 7) <|
        if (u.2 10 x3.toNatClampNeg) = (-1 : Int32) then
          k180 (1 : Int32) (x3 + (1 : Int32)) u
        else
          k180 (0 : Int32) (x3 + (1 : Int32)) u
      else
        k180 (1 : Int32) (x3 + (1 : Int32)) u
set_option maxRecDepth 100000 in
set_option maxHeartbeats 4000000 in
theorem w_M_isTight_180 {γ : CX} {cI cZ : ClassId} {h : Nat → Nat} {r0 : Int32} {u0 : PS} (C : Cx γ b_M_isTight 6 (some .boolean) "PackagePickModel" (rk 1) [(cI, .int), (cZ, .boolean)]) (hQ : QI γ [(cI, .int), (cZ, .boolean)] (WM cI cZ h) r0 u0) (k180 : Int32 → Int32 → PS → Option (Int32 × PS)) (hk180 : ∀ (x2 : Int32) (x3 : Int32) (u : PS), k180 x2 x3 u = some (r0, u0) → AtG γ (WM cI cZ h) 6 0 0 180 [(0, .ref (h 0)), (2, .int x2), (3, .int x3)] [] u) (x2 : Int32) (x3 : Int32) (u : PS) (hf : b_M_isTight_180 k180 x2 x3 u = some (r0, u0)) : AtG γ (WM cI cZ h) 6 0 0 180 [(0, .ref (h 0)), (2, .int x2), (3, .int x3)] [] u := by
  unfold b_M_isTight_180 at hf
  refine x_iload_n C d_M_isTight_180 rfl (k := 2) rfl ?_
  refine x_bipush (v := 7) C d_M_isTight_181 (by decide) ?_
  refine x_icmp_ge (tgt := 221) C d_M_isTight_183 (by decide) (fun hc => ?_) (fun hc => ?_)
  · rw [if_pos hc] at hf
    refine x_iload_n C d_M_isTight_221 rfl (k := 1) rfl ?_
    obtain ⟨hbo, hf⟩ := ck_some hf
    exact x_zret C hQ (isB_nar hbo) (Prod.mk.inj (Option.some.inj hf)).1 (Prod.mk.inj (Option.some.inj hf)).2 d_M_isTight_222
  · rw [if_neg hc] at hf
    refine x_iload_n C d_M_isTight_186 rfl (k := 1) rfl ?_
    refine x_if_eq (tgt := 213) C d_M_isTight_187 (by decide) (fun hc => ?_) (fun hc => ?_)
    · rw [if_pos hc] at hf
      refine x_iconst (v := 0) C d_M_isTight_213 (by decide) ?_
      refine x_istore_n (lv' := [(2, .int (0 : Int32)), (0, .ref (h 0)), (3, .int x3)]) C d_M_isTight_214 rfl (by decide) rfl ?_
      refine x_iinc (v := (x3 + (1 : Int32))) (lv' := [(3, .int (x3 + (1 : Int32))), (2, .int (0 : Int32)), (0, .ref (h 0))]) C d_M_isTight_215 (k := 2) rfl rfl (by decide) rfl ?_
      refine x_goto (tgt := 180) C d_M_isTight_218 (by decide) ?_
      refine x_sub (lv' := [(0, .ref (h 0)), (2, .int (0 : Int32)), (3, .int (x3 + (1 : Int32)))]) [2, 1, 0] rfl ?_
      exact hk180 (0 : Int32) (x3 + (1 : Int32)) u hf
    · rw [if_neg hc] at hf
      refine x_aload_n C d_M_isTight_190 rfl (k := 0) rfl ?_
      refine gM_M_wanted C mf_M_44 d_M_isTight_191 ?_
      refine x_iload_n C d_M_isTight_194 rfl (k := 2) rfl ?_
      obtain ⟨hin, hf⟩ := ck_some hf
      refine aldM_12 (v := (u.2 11 x3.toNatClampNeg)) C hin rfl d_M_isTight_195 ?_
      refine x_if_ne (tgt := 209) C d_M_isTight_196 (by decide) (fun hc => ?_) (fun hc => ?_)
      · rw [if_neg hc] at hf
        refine x_iconst (v := 1) C d_M_isTight_209 (by decide) ?_
        refine x_goto (tgt := 214) C d_M_isTight_210 (by decide) ?_
        refine x_istore_n (lv' := [(2, .int (1 : Int32)), (0, .ref (h 0)), (3, .int x3)]) C d_M_isTight_214 rfl (by decide) rfl ?_
        refine x_iinc (v := (x3 + (1 : Int32))) (lv' := [(3, .int (x3 + (1 : Int32))), (2, .int (1 : Int32)), (0, .ref (h 0))]) C d_M_isTight_215 (k := 2) rfl rfl (by decide) rfl ?_
        refine x_goto (tgt := 180) C d_M_isTight_218 (by decide) ?_
        refine x_sub (lv' := [(0, .ref (h 0)), (2, .int (1 : Int32)), (3, .int (x3 + (1 : Int32)))]) [2, 1, 0] rfl ?_
        exact hk180 (1 : Int32) (x3 + (1 : Int32)) u hf
      · rw [if_pos hc] at hf
        refine x_aload_n C d_M_isTight_199 rfl (k := 0) rfl ?_
        refine gM_M_pick C mf_M_41 d_M_isTight_200 ?_
        refine x_iload_n C d_M_isTight_203 rfl (k := 2) rfl ?_
        obtain ⟨hin, hf⟩ := ck_some hf
        refine aldM_11 (v := (u.2 10 x3.toNatClampNeg)) C hin rfl d_M_isTight_204 ?_
        refine x_iconst (v := -1) C d_M_isTight_205 (by decide) ?_
        refine x_icmp_ne (tgt := 213) C d_M_isTight_206 (by decide) (fun hc => ?_) (fun hc => ?_)
        · rw [if_neg hc] at hf
          refine x_iconst (v := 0) C d_M_isTight_213 (by decide) ?_
          refine x_istore_n (lv' := [(2, .int (0 : Int32)), (0, .ref (h 0)), (3, .int x3)]) C d_M_isTight_214 rfl (by decide) rfl ?_
          refine x_iinc (v := (x3 + (1 : Int32))) (lv' := [(3, .int (x3 + (1 : Int32))), (2, .int (0 : Int32)), (0, .ref (h 0))]) C d_M_isTight_215 (k := 2) rfl rfl (by decide) rfl ?_
          refine x_goto (tgt := 180) C d_M_isTight_218 (by decide) ?_
          refine x_sub (lv' := [(0, .ref (h 0)), (2, .int (0 : Int32)), (3, .int (x3 + (1 : Int32)))]) [2, 1, 0] rfl ?_
          exact hk180 (0 : Int32) (x3 + (1 : Int32)) u hf
        · rw [if_pos hc] at hf
          refine x_iconst (v := 1) C d_M_isTight_209 (by decide) ?_
          refine x_goto (tgt := 214) C d_M_isTight_210 (by decide) ?_
          refine x_istore_n (lv' := [(2, .int (1 : Int32)), (0, .ref (h 0)), (3, .int x3)]) C d_M_isTight_214 rfl (by decide) rfl ?_
          refine x_iinc (v := (x3 + (1 : Int32))) (lv' := [(3, .int (x3 + (1 : Int32))), (2, .int (1 : Int32)), (0, .ref (h 0))]) C d_M_isTight_215 (k := 2) rfl rfl (by decide) rfl ?_
          refine x_goto (tgt := 180) C d_M_isTight_218 (by decide) ?_
          refine x_sub (lv' := [(0, .ref (h 0)), (2, .int (1 : Int32)), (3, .int (x3 + (1 : Int32)))]) [2, 1, 0] rfl ?_
          exact hk180 (1 : Int32) (x3 + (1 : Int32)) u hf
def l_M_isTight_180 : Nat → Int32 → Int32 → PS → Option (Int32 × PS)
  | 0 => fun _ _ _ => none
  | n + 1 => b_M_isTight_180 (l_M_isTight_180 n)
theorem wl_M_isTight_180 {γ : CX} {cI cZ : ClassId} {h : Nat → Nat} {r0 : Int32} {u0 : PS} (C : Cx γ b_M_isTight 6 (some .boolean) "PackagePickModel" (rk 1) [(cI, .int), (cZ, .boolean)]) (hQ : QI γ [(cI, .int), (cZ, .boolean)] (WM cI cZ h) r0 u0) (n : Nat) : ∀ (x2 : Int32) (x3 : Int32) (u : PS), l_M_isTight_180 n x2 x3 u = some (r0, u0) → AtG γ (WM cI cZ h) 6 0 0 180 [(0, .ref (h 0)), (2, .int x2), (3, .int x3)] [] u := by
  induction n with
  | zero => intro x2 x3 u hf; cases hf
  | succ n ih => intro x2 x3 u hf; exact w_M_isTight_180 C hQ (l_M_isTight_180 n) ih x2 x3 u hf
def b_M_isTight_152 (k59 : Int32 → PS → Option (Int32 × PS)) (k67 : Int32 → Int32 → PS → Option (Int32 × PS)) (k109 : Int32 → Int32 → Int32 → Int32 → PS → Option (Int32 × PS)) (x2 : Int32) (x3 : Int32) (x4 : Int32) (x5 : Int32) (t0 : Int32) (u : PS) : Option (Int32 × PS) :=
  ck (inb x5 7) <|
  k109 t0 x2 x3 (x4 + (1 : Int32)) (sa u 11 x5.toNatClampNeg (1 : Int32))
set_option maxRecDepth 100000 in
set_option maxHeartbeats 4000000 in
theorem w_M_isTight_152 {γ : CX} {cI cZ : ClassId} {h : Nat → Nat} {r0 : Int32} {u0 : PS} (C : Cx γ b_M_isTight 6 (some .boolean) "PackagePickModel" (rk 1) [(cI, .int), (cZ, .boolean)]) (hQ : QI γ [(cI, .int), (cZ, .boolean)] (WM cI cZ h) r0 u0) (k59 : Int32 → PS → Option (Int32 × PS)) (k67 : Int32 → Int32 → PS → Option (Int32 × PS)) (k109 : Int32 → Int32 → Int32 → Int32 → PS → Option (Int32 × PS)) (hk59 : ∀ (x1 : Int32) (u : PS), k59 x1 u = some (r0, u0) → AtG γ (WM cI cZ h) 6 0 0 59 [(0, .ref (h 0)), (1, .int x1)] [] u) (hk67 : ∀ (x1 : Int32) (x2 : Int32) (u : PS), k67 x1 x2 u = some (r0, u0) → AtG γ (WM cI cZ h) 6 0 0 67 [(0, .ref (h 0)), (1, .int x1), (2, .int x2)] [] u) (hk109 : ∀ (x1 : Int32) (x2 : Int32) (x3 : Int32) (x4 : Int32) (u : PS), k109 x1 x2 x3 x4 u = some (r0, u0) → AtG γ (WM cI cZ h) 6 0 0 109 [(0, .ref (h 0)), (1, .int x1), (2, .int x2), (3, .int x3), (4, .int x4)] [] u) (x2 : Int32) (x3 : Int32) (x4 : Int32) (x5 : Int32) (t0 : Int32) (u : PS) (hf : b_M_isTight_152 k59 k67 k109 x2 x3 x4 x5 t0 u = some (r0, u0)) : AtG γ (WM cI cZ h) 6 0 0 152 [(0, .ref (h 0)), (2, .int x2), (3, .int x3), (4, .int x4), (5, .int x5)] [.int t0] u := by
  unfold b_M_isTight_152 at hf
  refine x_istore_n (lv' := [(1, .int t0), (0, .ref (h 0)), (2, .int x2), (3, .int x3), (4, .int x4), (5, .int x5)]) C d_M_isTight_152 rfl (by decide) rfl ?_
  refine x_aload_n C d_M_isTight_153 rfl (k := 1) rfl ?_
  refine gM_M_wanted C mf_M_44 d_M_isTight_154 ?_
  refine x_iload C d_M_isTight_157 (k := 5) rfl ?_
  refine x_iconst (v := 1) C d_M_isTight_159 (by decide) ?_
  obtain ⟨hin, hf⟩ := ck_some hf
  refine astM_12 C hin rfl d_M_isTight_160 ?_
  refine x_iinc (v := (x4 + (1 : Int32))) (lv' := [(4, .int (x4 + (1 : Int32))), (1, .int t0), (0, .ref (h 0)), (2, .int x2), (3, .int x3), (5, .int x5)]) C d_M_isTight_161 (k := 4) rfl rfl (by decide) rfl ?_
  refine x_goto (tgt := 109) C d_M_isTight_164 (by decide) ?_
  refine x_sub (lv' := [(0, .ref (h 0)), (1, .int t0), (2, .int x2), (3, .int x3), (4, .int (x4 + (1 : Int32)))]) [2, 1, 3, 4, 0] rfl ?_
  exact hk109 t0 x2 x3 (x4 + (1 : Int32)) (sa u 11 x5.toNatClampNeg (1 : Int32)) hf
def b_M_isTight_109 (k59 : Int32 → PS → Option (Int32 × PS)) (k67 : Int32 → Int32 → PS → Option (Int32 × PS)) (k109 : Int32 → Int32 → Int32 → Int32 → PS → Option (Int32 × PS)) (x1 : Int32) (x2 : Int32) (x3 : Int32) (x4 : Int32) (u : PS) : Option (Int32 × PS) :=
  ck (inb x3 28) <|
  if (u.2 1 x3.toNatClampNeg) ≤ x4 then
    k67 x1 (x2 + (1 : Int32)) u
  else
    ck (inb (((4 : Int32) * x3) + x4) 112) <|
    if x1 = 0 then
      ck (inb (u.2 2 (((4 : Int32) * x3) + x4).toNatClampNeg) 7) <|
      if (u.2 11 (u.2 2 (((4 : Int32) * x3) + x4).toNatClampNeg).toNatClampNeg) = 0 then
        b_M_isTight_152 k59 k67 k109 x2 x3 x4 (u.2 2 (((4 : Int32) * x3) + x4).toNatClampNeg) (1 : Int32) u
      else
        b_M_isTight_152 k59 k67 k109 x2 x3 x4 (u.2 2 (((4 : Int32) * x3) + x4).toNatClampNeg) (0 : Int32) u
    else
      b_M_isTight_152 k59 k67 k109 x2 x3 x4 (u.2 2 (((4 : Int32) * x3) + x4).toNatClampNeg) (1 : Int32) u
set_option maxRecDepth 100000 in
set_option maxHeartbeats 4000000 in
theorem w_M_isTight_109 {γ : CX} {cI cZ : ClassId} {h : Nat → Nat} {r0 : Int32} {u0 : PS} (C : Cx γ b_M_isTight 6 (some .boolean) "PackagePickModel" (rk 1) [(cI, .int), (cZ, .boolean)]) (hQ : QI γ [(cI, .int), (cZ, .boolean)] (WM cI cZ h) r0 u0) (k59 : Int32 → PS → Option (Int32 × PS)) (k67 : Int32 → Int32 → PS → Option (Int32 × PS)) (k109 : Int32 → Int32 → Int32 → Int32 → PS → Option (Int32 × PS)) (hk59 : ∀ (x1 : Int32) (u : PS), k59 x1 u = some (r0, u0) → AtG γ (WM cI cZ h) 6 0 0 59 [(0, .ref (h 0)), (1, .int x1)] [] u) (hk67 : ∀ (x1 : Int32) (x2 : Int32) (u : PS), k67 x1 x2 u = some (r0, u0) → AtG γ (WM cI cZ h) 6 0 0 67 [(0, .ref (h 0)), (1, .int x1), (2, .int x2)] [] u) (hk109 : ∀ (x1 : Int32) (x2 : Int32) (x3 : Int32) (x4 : Int32) (u : PS), k109 x1 x2 x3 x4 u = some (r0, u0) → AtG γ (WM cI cZ h) 6 0 0 109 [(0, .ref (h 0)), (1, .int x1), (2, .int x2), (3, .int x3), (4, .int x4)] [] u) (x1 : Int32) (x2 : Int32) (x3 : Int32) (x4 : Int32) (u : PS) (hf : b_M_isTight_109 k59 k67 k109 x1 x2 x3 x4 u = some (r0, u0)) : AtG γ (WM cI cZ h) 6 0 0 109 [(0, .ref (h 0)), (1, .int x1), (2, .int x2), (3, .int x3), (4, .int x4)] [] u := by
  unfold b_M_isTight_109 at hf
  refine x_iload C d_M_isTight_109 (k := 4) rfl ?_
  refine x_aload_n C d_M_isTight_111 rfl (k := 0) rfl ?_
  refine gM_M_needs C mf_M_13 d_M_isTight_112 ?_
  refine x_iload_n C d_M_isTight_115 rfl (k := 3) rfl ?_
  obtain ⟨hin, hf⟩ := ck_some hf
  refine aldM_2 (v := (u.2 1 x3.toNatClampNeg)) C hin rfl d_M_isTight_116 ?_
  refine x_icmp_ge (tgt := 167) C d_M_isTight_117 (by decide) (fun hc => ?_) (fun hc => ?_)
  · rw [if_pos hc] at hf
    refine x_iinc (v := (x2 + (1 : Int32))) (lv' := [(2, .int (x2 + (1 : Int32))), (0, .ref (h 0)), (1, .int x1), (3, .int x3), (4, .int x4)]) C d_M_isTight_167 (k := 2) rfl rfl (by decide) rfl ?_
    refine x_goto (tgt := 67) C d_M_isTight_170 (by decide) ?_
    refine x_sub (lv' := [(0, .ref (h 0)), (1, .int x1), (2, .int (x2 + (1 : Int32)))]) [1, 2, 0] rfl ?_
    exact hk67 x1 (x2 + (1 : Int32)) u hf
  · rw [if_neg hc] at hf
    refine x_aload_n C d_M_isTight_120 rfl (k := 0) rfl ?_
    refine gM_M_needOf C mf_M_17 d_M_isTight_121 ?_
    refine x_iconst (v := 4) C d_M_isTight_124 (by decide) ?_
    refine x_iload_n C d_M_isTight_125 rfl (k := 3) rfl ?_
    refine x_imul C d_M_isTight_126 ?_
    refine x_iload C d_M_isTight_127 (k := 4) rfl ?_
    refine x_iadd C d_M_isTight_129 ?_
    obtain ⟨hin, hf⟩ := ck_some hf
    refine aldM_3 (v := (u.2 2 (((4 : Int32) * x3) + x4).toNatClampNeg)) C hin rfl d_M_isTight_130 ?_
    refine x_istore (lv' := [(5, .int (u.2 2 (((4 : Int32) * x3) + x4).toNatClampNeg)), (0, .ref (h 0)), (1, .int x1), (2, .int x2), (3, .int x3), (4, .int x4)]) C d_M_isTight_131 (by decide) rfl ?_
    refine x_iload_n C d_M_isTight_133 rfl (k := 2) rfl ?_
    refine x_if_ne (tgt := 147) C d_M_isTight_134 (by decide) (fun hc => ?_) (fun hc => ?_)
    · rw [if_neg hc] at hf
      refine x_iconst (v := 1) C d_M_isTight_147 (by decide) ?_
      refine x_goto (tgt := 152) C d_M_isTight_148 (by decide) ?_
      refine x_sub (lv' := [(0, .ref (h 0)), (2, .int x2), (3, .int x3), (4, .int x4), (5, .int (u.2 2 (((4 : Int32) * x3) + x4).toNatClampNeg))]) [1, 3, 4, 5, 0] rfl ?_
      exact w_M_isTight_152 C hQ k59 k67 k109 hk59 hk67 hk109 x2 x3 x4 (u.2 2 (((4 : Int32) * x3) + x4).toNatClampNeg) (1 : Int32) u hf
    · rw [if_pos hc] at hf
      refine x_aload_n C d_M_isTight_137 rfl (k := 1) rfl ?_
      refine gM_M_wanted C mf_M_44 d_M_isTight_138 ?_
      refine x_iload C d_M_isTight_141 (k := 0) rfl ?_
      obtain ⟨hin, hf⟩ := ck_some hf
      refine aldM_12 (v := (u.2 11 (u.2 2 (((4 : Int32) * x3) + x4).toNatClampNeg).toNatClampNeg)) C hin rfl d_M_isTight_143 ?_
      refine x_if_ne (tgt := 151) C d_M_isTight_144 (by decide) (fun hc => ?_) (fun hc => ?_)
      · rw [if_neg hc] at hf
        refine x_iconst (v := 0) C d_M_isTight_151 (by decide) ?_
        refine x_sub (lv' := [(0, .ref (h 0)), (2, .int x2), (3, .int x3), (4, .int x4), (5, .int (u.2 2 (((4 : Int32) * x3) + x4).toNatClampNeg))]) [1, 3, 4, 5, 0] rfl ?_
        exact w_M_isTight_152 C hQ k59 k67 k109 hk59 hk67 hk109 x2 x3 x4 (u.2 2 (((4 : Int32) * x3) + x4).toNatClampNeg) (0 : Int32) u hf
      · rw [if_pos hc] at hf
        refine x_iconst (v := 1) C d_M_isTight_147 (by decide) ?_
        refine x_goto (tgt := 152) C d_M_isTight_148 (by decide) ?_
        refine x_sub (lv' := [(0, .ref (h 0)), (2, .int x2), (3, .int x3), (4, .int x4), (5, .int (u.2 2 (((4 : Int32) * x3) + x4).toNatClampNeg))]) [1, 3, 4, 5, 0] rfl ?_
        exact w_M_isTight_152 C hQ k59 k67 k109 hk59 hk67 hk109 x2 x3 x4 (u.2 2 (((4 : Int32) * x3) + x4).toNatClampNeg) (1 : Int32) u hf
def l_M_isTight_109 (k59 : Int32 → PS → Option (Int32 × PS)) (k67 : Int32 → Int32 → PS → Option (Int32 × PS)) : Nat → Int32 → Int32 → Int32 → Int32 → PS → Option (Int32 × PS)
  | 0 => fun _ _ _ _ _ => none
  | n + 1 => b_M_isTight_109 k59 k67 (l_M_isTight_109 k59 k67 n)
theorem wl_M_isTight_109 {γ : CX} {cI cZ : ClassId} {h : Nat → Nat} {r0 : Int32} {u0 : PS} (C : Cx γ b_M_isTight 6 (some .boolean) "PackagePickModel" (rk 1) [(cI, .int), (cZ, .boolean)]) (hQ : QI γ [(cI, .int), (cZ, .boolean)] (WM cI cZ h) r0 u0) (k59 : Int32 → PS → Option (Int32 × PS)) (k67 : Int32 → Int32 → PS → Option (Int32 × PS)) (hk59 : ∀ (x1 : Int32) (u : PS), k59 x1 u = some (r0, u0) → AtG γ (WM cI cZ h) 6 0 0 59 [(0, .ref (h 0)), (1, .int x1)] [] u) (hk67 : ∀ (x1 : Int32) (x2 : Int32) (u : PS), k67 x1 x2 u = some (r0, u0) → AtG γ (WM cI cZ h) 6 0 0 67 [(0, .ref (h 0)), (1, .int x1), (2, .int x2)] [] u) (n : Nat) : ∀ (x1 : Int32) (x2 : Int32) (x3 : Int32) (x4 : Int32) (u : PS), l_M_isTight_109 k59 k67 n x1 x2 x3 x4 u = some (r0, u0) → AtG γ (WM cI cZ h) 6 0 0 109 [(0, .ref (h 0)), (1, .int x1), (2, .int x2), (3, .int x3), (4, .int x4)] [] u := by
  induction n with
  | zero => intro x1 x2 x3 x4 u hf; cases hf
  | succ n ih => intro x1 x2 x3 x4 u hf; exact w_M_isTight_109 C hQ k59 k67 (l_M_isTight_109 k59 k67 n) hk59 hk67 ih x1 x2 x3 x4 u hf
def b_M_isTight_67 (k59 : Int32 → PS → Option (Int32 × PS)) (k67 : Int32 → Int32 → PS → Option (Int32 × PS)) (x1 : Int32) (x2 : Int32) (u : PS) : Option (Int32 × PS) :=
  if (7 : Int32) ≤ x2 then
    k59 x1 u
  else
    ck (inb x2 7) <|
    if (u.2 11 x2.toNatClampNeg) = 0 then
      k67 x1 (x2 + (1 : Int32)) u
    else
      ck (inb x2 7) <|
      if (u.2 10 x2.toNatClampNeg) = (-1 : Int32) then
        k67 x1 (x2 + (1 : Int32)) u
      else
        ck (inb x2 7) <|
        l_M_isTight_109 k59 k67 NF x1 x2 (((4 : Int32) * x2) + (u.2 10 x2.toNatClampNeg)) (0 : Int32) u
set_option maxRecDepth 100000 in
set_option maxHeartbeats 4000000 in
theorem w_M_isTight_67 {γ : CX} {cI cZ : ClassId} {h : Nat → Nat} {r0 : Int32} {u0 : PS} (C : Cx γ b_M_isTight 6 (some .boolean) "PackagePickModel" (rk 1) [(cI, .int), (cZ, .boolean)]) (hQ : QI γ [(cI, .int), (cZ, .boolean)] (WM cI cZ h) r0 u0) (k59 : Int32 → PS → Option (Int32 × PS)) (k67 : Int32 → Int32 → PS → Option (Int32 × PS)) (hk59 : ∀ (x1 : Int32) (u : PS), k59 x1 u = some (r0, u0) → AtG γ (WM cI cZ h) 6 0 0 59 [(0, .ref (h 0)), (1, .int x1)] [] u) (hk67 : ∀ (x1 : Int32) (x2 : Int32) (u : PS), k67 x1 x2 u = some (r0, u0) → AtG γ (WM cI cZ h) 6 0 0 67 [(0, .ref (h 0)), (1, .int x1), (2, .int x2)] [] u) (x1 : Int32) (x2 : Int32) (u : PS) (hf : b_M_isTight_67 k59 k67 x1 x2 u = some (r0, u0)) : AtG γ (WM cI cZ h) 6 0 0 67 [(0, .ref (h 0)), (1, .int x1), (2, .int x2)] [] u := by
  unfold b_M_isTight_67 at hf
  refine x_iload_n C d_M_isTight_67 rfl (k := 2) rfl ?_
  refine x_bipush (v := 7) C d_M_isTight_68 (by decide) ?_
  refine x_icmp_ge (tgt := 173) C d_M_isTight_70 (by decide) (fun hc => ?_) (fun hc => ?_)
  · rw [if_pos hc] at hf
    refine x_goto (tgt := 59) C d_M_isTight_173 (by decide) ?_
    refine x_sub (lv' := [(0, .ref (h 0)), (1, .int x1)]) [0, 1] rfl ?_
    exact hk59 x1 u hf
  · rw [if_neg hc] at hf
    refine x_aload_n C d_M_isTight_73 rfl (k := 0) rfl ?_
    refine gM_M_wanted C mf_M_44 d_M_isTight_74 ?_
    refine x_iload_n C d_M_isTight_77 rfl (k := 2) rfl ?_
    obtain ⟨hin, hf⟩ := ck_some hf
    refine aldM_12 (v := (u.2 11 x2.toNatClampNeg)) C hin rfl d_M_isTight_78 ?_
    refine x_if_eq (tgt := 167) C d_M_isTight_79 (by decide) (fun hc => ?_) (fun hc => ?_)
    · rw [if_pos hc] at hf
      refine x_iinc (v := (x2 + (1 : Int32))) (lv' := [(2, .int (x2 + (1 : Int32))), (0, .ref (h 0)), (1, .int x1)]) C d_M_isTight_167 (k := 2) rfl rfl (by decide) rfl ?_
      refine x_goto (tgt := 67) C d_M_isTight_170 (by decide) ?_
      refine x_sub (lv' := [(0, .ref (h 0)), (1, .int x1), (2, .int (x2 + (1 : Int32)))]) [1, 2, 0] rfl ?_
      exact hk67 x1 (x2 + (1 : Int32)) u hf
    · rw [if_neg hc] at hf
      refine x_aload_n C d_M_isTight_82 rfl (k := 0) rfl ?_
      refine gM_M_pick C mf_M_41 d_M_isTight_83 ?_
      refine x_iload_n C d_M_isTight_86 rfl (k := 2) rfl ?_
      obtain ⟨hin, hf⟩ := ck_some hf
      refine aldM_11 (v := (u.2 10 x2.toNatClampNeg)) C hin rfl d_M_isTight_87 ?_
      refine x_iconst (v := -1) C d_M_isTight_88 (by decide) ?_
      refine x_icmp_ne (tgt := 95) C d_M_isTight_89 (by decide) (fun hc => ?_) (fun hc => ?_)
      · rw [if_neg hc] at hf
        refine x_iconst (v := 4) C d_M_isTight_95 (by decide) ?_
        refine x_iload_n C d_M_isTight_96 rfl (k := 2) rfl ?_
        refine x_imul C d_M_isTight_97 ?_
        refine x_aload_n C d_M_isTight_98 rfl (k := 0) rfl ?_
        refine gM_M_pick C mf_M_41 d_M_isTight_99 ?_
        refine x_iload_n C d_M_isTight_102 rfl (k := 2) rfl ?_
        obtain ⟨hin, hf⟩ := ck_some hf
        refine aldM_11 (v := (u.2 10 x2.toNatClampNeg)) C hin rfl d_M_isTight_103 ?_
        refine x_iadd C d_M_isTight_104 ?_
        refine x_istore_n (lv' := [(3, .int (((4 : Int32) * x2) + (u.2 10 x2.toNatClampNeg))), (0, .ref (h 0)), (1, .int x1), (2, .int x2)]) C d_M_isTight_105 rfl (by decide) rfl ?_
        refine x_iconst (v := 0) C d_M_isTight_106 (by decide) ?_
        refine x_istore (lv' := [(4, .int (0 : Int32)), (3, .int (((4 : Int32) * x2) + (u.2 10 x2.toNatClampNeg))), (0, .ref (h 0)), (1, .int x1), (2, .int x2)]) C d_M_isTight_107 (by decide) rfl ?_
        refine x_sub (lv' := [(0, .ref (h 0)), (1, .int x1), (2, .int x2), (3, .int (((4 : Int32) * x2) + (u.2 10 x2.toNatClampNeg))), (4, .int (0 : Int32))]) [2, 3, 4, 1, 0] rfl ?_
        exact wl_M_isTight_109 C hQ k59 k67 hk59 hk67 NF x1 x2 (((4 : Int32) * x2) + (u.2 10 x2.toNatClampNeg)) (0 : Int32) u hf
      · rw [if_pos hc] at hf
        refine x_goto (tgt := 167) C d_M_isTight_92 (by decide) ?_
        refine x_iinc (v := (x2 + (1 : Int32))) (lv' := [(2, .int (x2 + (1 : Int32))), (0, .ref (h 0)), (1, .int x1)]) C d_M_isTight_167 (k := 2) rfl rfl (by decide) rfl ?_
        refine x_goto (tgt := 67) C d_M_isTight_170 (by decide) ?_
        refine x_sub (lv' := [(0, .ref (h 0)), (1, .int x1), (2, .int (x2 + (1 : Int32)))]) [1, 2, 0] rfl ?_
        exact hk67 x1 (x2 + (1 : Int32)) u hf
def l_M_isTight_67 (k59 : Int32 → PS → Option (Int32 × PS)) : Nat → Int32 → Int32 → PS → Option (Int32 × PS)
  | 0 => fun _ _ _ => none
  | n + 1 => b_M_isTight_67 k59 (l_M_isTight_67 k59 n)
theorem wl_M_isTight_67 {γ : CX} {cI cZ : ClassId} {h : Nat → Nat} {r0 : Int32} {u0 : PS} (C : Cx γ b_M_isTight 6 (some .boolean) "PackagePickModel" (rk 1) [(cI, .int), (cZ, .boolean)]) (hQ : QI γ [(cI, .int), (cZ, .boolean)] (WM cI cZ h) r0 u0) (k59 : Int32 → PS → Option (Int32 × PS)) (hk59 : ∀ (x1 : Int32) (u : PS), k59 x1 u = some (r0, u0) → AtG γ (WM cI cZ h) 6 0 0 59 [(0, .ref (h 0)), (1, .int x1)] [] u) (n : Nat) : ∀ (x1 : Int32) (x2 : Int32) (u : PS), l_M_isTight_67 k59 n x1 x2 u = some (r0, u0) → AtG γ (WM cI cZ h) 6 0 0 67 [(0, .ref (h 0)), (1, .int x1), (2, .int x2)] [] u := by
  induction n with
  | zero => intro x1 x2 u hf; cases hf
  | succ n ih => intro x1 x2 u hf; exact w_M_isTight_67 C hQ k59 (l_M_isTight_67 k59 n) hk59 ih x1 x2 u hf
def b_M_isTight_59 (k59 : Int32 → PS → Option (Int32 × PS)) (x1 : Int32) (u : PS) : Option (Int32 × PS) :=
  if x1 = 0 then
    l_M_isTight_180 NF (1 : Int32) (0 : Int32) u
  else
    l_M_isTight_67 k59 NF (0 : Int32) (0 : Int32) u
set_option maxRecDepth 100000 in
set_option maxHeartbeats 4000000 in
theorem w_M_isTight_59 {γ : CX} {cI cZ : ClassId} {h : Nat → Nat} {r0 : Int32} {u0 : PS} (C : Cx γ b_M_isTight 6 (some .boolean) "PackagePickModel" (rk 1) [(cI, .int), (cZ, .boolean)]) (hQ : QI γ [(cI, .int), (cZ, .boolean)] (WM cI cZ h) r0 u0) (k59 : Int32 → PS → Option (Int32 × PS)) (hk59 : ∀ (x1 : Int32) (u : PS), k59 x1 u = some (r0, u0) → AtG γ (WM cI cZ h) 6 0 0 59 [(0, .ref (h 0)), (1, .int x1)] [] u) (x1 : Int32) (u : PS) (hf : b_M_isTight_59 k59 x1 u = some (r0, u0)) : AtG γ (WM cI cZ h) 6 0 0 59 [(0, .ref (h 0)), (1, .int x1)] [] u := by
  unfold b_M_isTight_59 at hf
  refine x_iload_n C d_M_isTight_59 rfl (k := 1) rfl ?_
  refine x_if_eq (tgt := 176) C d_M_isTight_60 (by decide) (fun hc => ?_) (fun hc => ?_)
  · rw [if_pos hc] at hf
    refine x_iconst (v := 1) C d_M_isTight_176 (by decide) ?_
    refine x_istore_n (lv' := [(2, .int (1 : Int32)), (0, .ref (h 0)), (1, .int x1)]) C d_M_isTight_177 rfl (by decide) rfl ?_
    refine x_iconst (v := 0) C d_M_isTight_178 (by decide) ?_
    refine x_istore_n (lv' := [(3, .int (0 : Int32)), (2, .int (1 : Int32)), (0, .ref (h 0)), (1, .int x1)]) C d_M_isTight_179 rfl (by decide) rfl ?_
    refine x_sub (lv' := [(0, .ref (h 0)), (2, .int (1 : Int32)), (3, .int (0 : Int32))]) [2, 1, 0] rfl ?_
    exact wl_M_isTight_180 C hQ NF (1 : Int32) (0 : Int32) u hf
  · rw [if_neg hc] at hf
    refine x_iconst (v := 0) C d_M_isTight_63 (by decide) ?_
    refine x_istore_n (lv' := [(1, .int (0 : Int32)), (0, .ref (h 0))]) C d_M_isTight_64 rfl (by decide) rfl ?_
    refine x_iconst (v := 0) C d_M_isTight_65 (by decide) ?_
    refine x_istore_n (lv' := [(2, .int (0 : Int32)), (1, .int (0 : Int32)), (0, .ref (h 0))]) C d_M_isTight_66 rfl (by decide) rfl ?_
    refine x_sub (lv' := [(0, .ref (h 0)), (1, .int (0 : Int32)), (2, .int (0 : Int32))]) [2, 1, 0] rfl ?_
    exact wl_M_isTight_67 C hQ k59 hk59 NF (0 : Int32) (0 : Int32) u hf
def l_M_isTight_59 : Nat → Int32 → PS → Option (Int32 × PS)
  | 0 => fun _ _ => none
  | n + 1 => b_M_isTight_59 (l_M_isTight_59 n)
theorem wl_M_isTight_59 {γ : CX} {cI cZ : ClassId} {h : Nat → Nat} {r0 : Int32} {u0 : PS} (C : Cx γ b_M_isTight 6 (some .boolean) "PackagePickModel" (rk 1) [(cI, .int), (cZ, .boolean)]) (hQ : QI γ [(cI, .int), (cZ, .boolean)] (WM cI cZ h) r0 u0) (n : Nat) : ∀ (x1 : Int32) (u : PS), l_M_isTight_59 n x1 u = some (r0, u0) → AtG γ (WM cI cZ h) 6 0 0 59 [(0, .ref (h 0)), (1, .int x1)] [] u := by
  induction n with
  | zero => intro x1 u hf; cases hf
  | succ n ih => intro x1 u hf; exact w_M_isTight_59 C hQ (l_M_isTight_59 n) ih x1 u hf
def b_M_isTight_23 (k23 : Int32 → PS → Option (Int32 × PS)) (x1 : Int32) (u : PS) : Option (Int32 × PS) :=
  if (u.1 1) ≤ x1 then
    l_M_isTight_59 NF (1 : Int32) u
  else
    if (f_M_counts x1 u) = 0 then
      k23 (x1 + (1 : Int32)) u
    else
      ck (inb x1 6) <|
      ck (inb (u.2 5 x1.toNatClampNeg) 7) <|
      k23 (x1 + (1 : Int32)) (sa u 11 (u.2 5 x1.toNatClampNeg).toNatClampNeg (1 : Int32))
set_option maxRecDepth 100000 in
set_option maxHeartbeats 4000000 in
theorem w_M_isTight_23 {γ : CX} {cI cZ : ClassId} {h : Nat → Nat} {r0 : Int32} {u0 : PS} (C : Cx γ b_M_isTight 6 (some .boolean) "PackagePickModel" (rk 1) [(cI, .int), (cZ, .boolean)]) (hQ : QI γ [(cI, .int), (cZ, .boolean)] (WM cI cZ h) r0 u0) (k23 : Int32 → PS → Option (Int32 × PS)) (hk23 : ∀ (x1 : Int32) (u : PS), k23 x1 u = some (r0, u0) → AtG γ (WM cI cZ h) 6 0 0 23 [(0, .ref (h 0)), (1, .int x1)] [] u) (x1 : Int32) (u : PS) (hf : b_M_isTight_23 k23 x1 u = some (r0, u0)) : AtG γ (WM cI cZ h) 6 0 0 23 [(0, .ref (h 0)), (1, .int x1)] [] u := by
  unfold b_M_isTight_23 at hf
  refine x_iload_n C d_M_isTight_23 rfl (k := 1) rfl ?_
  refine x_aload_n C d_M_isTight_24 rfl (k := 0) rfl ?_
  refine gM_M_asked (v := (u.1 1)) C mf_M_75 rfl d_M_isTight_25 ?_
  refine x_icmp_ge (tgt := 57) C d_M_isTight_28 (by decide) (fun hc => ?_) (fun hc => ?_)
  · rw [if_pos hc] at hf
    refine x_iconst (v := 1) C d_M_isTight_57 (by decide) ?_
    refine x_istore_n (lv' := [(1, .int (1 : Int32)), (0, .ref (h 0))]) C d_M_isTight_58 rfl (by decide) rfl ?_
    refine x_sub (lv' := [(0, .ref (h 0)), (1, .int (1 : Int32))]) [1, 0] rfl ?_
    exact wl_M_isTight_59 C hQ NF (1 : Int32) u hf
  · rw [if_neg hc] at hf
    refine x_aload_n C d_M_isTight_31 rfl (k := 0) rfl ?_
    refine x_iload_n C d_M_isTight_32 rfl (k := 1) rfl ?_
    refine x_callIv (q0 := 0) (ci := 4) (rest := []) C (c_M_counts x1 u) kc_M_counts (rok (by decide) (by decide)) mm_M_81 ms_M_counts ml_M_counts rfl rfl rfl rfl (Nat.le_of_ble_eq_true rfl) d_M_isTight_33 ?_
    refine x_if_eq (tgt := 51) C d_M_isTight_36 (by decide) (fun hc => ?_) (fun hc => ?_)
    · rw [if_pos hc] at hf
      refine x_iinc (v := (x1 + (1 : Int32))) (lv' := [(1, .int (x1 + (1 : Int32))), (0, .ref (h 0))]) C d_M_isTight_51 (k := 1) rfl rfl (by decide) rfl ?_
      refine x_goto (tgt := 23) C d_M_isTight_54 (by decide) ?_
      refine x_sub (lv' := [(0, .ref (h 0)), (1, .int (x1 + (1 : Int32)))]) [1, 0] rfl ?_
      exact hk23 (x1 + (1 : Int32)) u hf
    · rw [if_neg hc] at hf
      refine x_aload_n C d_M_isTight_39 rfl (k := 0) rfl ?_
      refine gM_M_wanted C mf_M_44 d_M_isTight_40 ?_
      refine x_aload_n C d_M_isTight_43 rfl (k := 0) rfl ?_
      refine gM_M_askedOf C mf_M_26 d_M_isTight_44 ?_
      refine x_iload_n C d_M_isTight_47 rfl (k := 1) rfl ?_
      obtain ⟨hin, hf⟩ := ck_some hf
      refine aldM_6 (v := (u.2 5 x1.toNatClampNeg)) C hin rfl d_M_isTight_48 ?_
      refine x_iconst (v := 1) C d_M_isTight_49 (by decide) ?_
      obtain ⟨hin, hf⟩ := ck_some hf
      refine astM_12 C hin rfl d_M_isTight_50 ?_
      refine x_iinc (v := (x1 + (1 : Int32))) (lv' := [(1, .int (x1 + (1 : Int32))), (0, .ref (h 0))]) C d_M_isTight_51 (k := 1) rfl rfl (by decide) rfl ?_
      refine x_goto (tgt := 23) C d_M_isTight_54 (by decide) ?_
      refine x_sub (lv' := [(0, .ref (h 0)), (1, .int (x1 + (1 : Int32)))]) [1, 0] rfl ?_
      exact hk23 (x1 + (1 : Int32)) (sa u 11 (u.2 5 x1.toNatClampNeg).toNatClampNeg (1 : Int32)) hf
def l_M_isTight_23 : Nat → Int32 → PS → Option (Int32 × PS)
  | 0 => fun _ _ => none
  | n + 1 => b_M_isTight_23 (l_M_isTight_23 n)
theorem wl_M_isTight_23 {γ : CX} {cI cZ : ClassId} {h : Nat → Nat} {r0 : Int32} {u0 : PS} (C : Cx γ b_M_isTight 6 (some .boolean) "PackagePickModel" (rk 1) [(cI, .int), (cZ, .boolean)]) (hQ : QI γ [(cI, .int), (cZ, .boolean)] (WM cI cZ h) r0 u0) (n : Nat) : ∀ (x1 : Int32) (u : PS), l_M_isTight_23 n x1 u = some (r0, u0) → AtG γ (WM cI cZ h) 6 0 0 23 [(0, .ref (h 0)), (1, .int x1)] [] u := by
  induction n with
  | zero => intro x1 u hf; cases hf
  | succ n ih => intro x1 u hf; exact w_M_isTight_23 C hQ (l_M_isTight_23 n) ih x1 u hf
def b_M_isTight_2 (k2 : Int32 → PS → Option (Int32 × PS)) (x1 : Int32) (u : PS) : Option (Int32 × PS) :=
  if (7 : Int32) ≤ x1 then
    l_M_isTight_23 NF (0 : Int32) u
  else
    ck (inb x1 7) <|
    k2 (x1 + (1 : Int32)) (sa u 11 x1.toNatClampNeg (0 : Int32))
set_option maxRecDepth 100000 in
set_option maxHeartbeats 4000000 in
theorem w_M_isTight_2 {γ : CX} {cI cZ : ClassId} {h : Nat → Nat} {r0 : Int32} {u0 : PS} (C : Cx γ b_M_isTight 6 (some .boolean) "PackagePickModel" (rk 1) [(cI, .int), (cZ, .boolean)]) (hQ : QI γ [(cI, .int), (cZ, .boolean)] (WM cI cZ h) r0 u0) (k2 : Int32 → PS → Option (Int32 × PS)) (hk2 : ∀ (x1 : Int32) (u : PS), k2 x1 u = some (r0, u0) → AtG γ (WM cI cZ h) 6 0 0 2 [(0, .ref (h 0)), (1, .int x1)] [] u) (x1 : Int32) (u : PS) (hf : b_M_isTight_2 k2 x1 u = some (r0, u0)) : AtG γ (WM cI cZ h) 6 0 0 2 [(0, .ref (h 0)), (1, .int x1)] [] u := by
  unfold b_M_isTight_2 at hf
  refine x_iload_n C d_M_isTight_2 rfl (k := 1) rfl ?_
  refine x_bipush (v := 7) C d_M_isTight_3 (by decide) ?_
  refine x_icmp_ge (tgt := 21) C d_M_isTight_5 (by decide) (fun hc => ?_) (fun hc => ?_)
  · rw [if_pos hc] at hf
    refine x_iconst (v := 0) C d_M_isTight_21 (by decide) ?_
    refine x_istore_n (lv' := [(1, .int (0 : Int32)), (0, .ref (h 0))]) C d_M_isTight_22 rfl (by decide) rfl ?_
    refine x_sub (lv' := [(0, .ref (h 0)), (1, .int (0 : Int32))]) [1, 0] rfl ?_
    exact wl_M_isTight_23 C hQ NF (0 : Int32) u hf
  · rw [if_neg hc] at hf
    refine x_aload_n C d_M_isTight_8 rfl (k := 0) rfl ?_
    refine gM_M_wanted C mf_M_44 d_M_isTight_9 ?_
    refine x_iload_n C d_M_isTight_12 rfl (k := 1) rfl ?_
    refine x_iconst (v := 0) C d_M_isTight_13 (by decide) ?_
    obtain ⟨hin, hf⟩ := ck_some hf
    refine astM_12 C hin rfl d_M_isTight_14 ?_
    refine x_iinc (v := (x1 + (1 : Int32))) (lv' := [(1, .int (x1 + (1 : Int32))), (0, .ref (h 0))]) C d_M_isTight_15 (k := 1) rfl rfl (by decide) rfl ?_
    refine x_goto (tgt := 2) C d_M_isTight_18 (by decide) ?_
    refine x_sub (lv' := [(0, .ref (h 0)), (1, .int (x1 + (1 : Int32)))]) [1, 0] rfl ?_
    exact hk2 (x1 + (1 : Int32)) (sa u 11 x1.toNatClampNeg (0 : Int32)) hf
def l_M_isTight_2 : Nat → Int32 → PS → Option (Int32 × PS)
  | 0 => fun _ _ => none
  | n + 1 => b_M_isTight_2 (l_M_isTight_2 n)
theorem wl_M_isTight_2 {γ : CX} {cI cZ : ClassId} {h : Nat → Nat} {r0 : Int32} {u0 : PS} (C : Cx γ b_M_isTight 6 (some .boolean) "PackagePickModel" (rk 1) [(cI, .int), (cZ, .boolean)]) (hQ : QI γ [(cI, .int), (cZ, .boolean)] (WM cI cZ h) r0 u0) (n : Nat) : ∀ (x1 : Int32) (u : PS), l_M_isTight_2 n x1 u = some (r0, u0) → AtG γ (WM cI cZ h) 6 0 0 2 [(0, .ref (h 0)), (1, .int x1)] [] u := by
  induction n with
  | zero => intro x1 u hf; cases hf
  | succ n ih => intro x1 u hf; exact w_M_isTight_2 C hQ (l_M_isTight_2 n) ih x1 u hf
def f_M_isTight (u : PS) : Option (Int32 × PS) :=
  l_M_isTight_2 NF (0 : Int32) u
set_option maxRecDepth 100000 in
set_option maxHeartbeats 4000000 in
theorem w_M_isTight {γ : CX} {cI cZ : ClassId} {h : Nat → Nat} {r0 : Int32} {u0 : PS} (C : Cx γ b_M_isTight 6 (some .boolean) "PackagePickModel" (rk 1) [(cI, .int), (cZ, .boolean)]) (hQ : QI γ [(cI, .int), (cZ, .boolean)] (WM cI cZ h) r0 u0) (u : PS) (hf : f_M_isTight u = some (r0, u0)) : AtG γ (WM cI cZ h) 6 0 0 0 [(0, .ref (h 0))] [] u := by
  unfold f_M_isTight at hf
  refine x_iconst (v := 0) C d_M_isTight_0 (by decide) ?_
  refine x_istore_n (lv' := [(1, .int (0 : Int32)), (0, .ref (h 0))]) C d_M_isTight_1 rfl (by decide) rfl ?_
  refine x_sub (lv' := [(0, .ref (h 0)), (1, .int (0 : Int32))]) [1, 0] rfl ?_
  exact wl_M_isTight_2 C hQ NF (0 : Int32) u hf
theorem c_M_isTight {l : Launch} {D : va_G} {cI cZ : ClassId} {h : Nat → Nat} (u : PS) {r0 : Int32 × PS} (hf : f_M_isTight u = some r0) : CtI l y_M_isTight b_M_isTight 6 (some .boolean) (rk 1) D [(cI, .int), (cZ, .boolean)] (WM cI cZ h) [.ref (h 0)] u r0.1 r0.2 := ct_ofI (by decide) (Nat.le_of_ble_eq_true rfl) (fun γ _ _ C hQ => w_M_isTight C hQ u hf)
-- ---- PackagePickModel.begin(I)V
def f_M_begin (a1 : Int32) (u : PS) : Option (PS) :=
  ck (inb (0 : Int32) 7) <|
  some (sa (si (si u 3 a1) 4 (0 : Int32)) 10 (0 : Int32).toNatClampNeg (4 : Int32))
set_option maxRecDepth 100000 in
set_option maxHeartbeats 4000000 in
theorem w_M_begin {γ : CX} {cI cZ : ClassId} {h : Nat → Nat} {u0 : PS} (C : Cx γ b_M_begin 2 none "PackagePickModel" (rk 0) [(cI, .int), (cZ, .boolean)]) (hQ : QV γ [(cI, .int), (cZ, .boolean)] (WM cI cZ h) u0) (a1 : Int32) (u : PS) (hf : f_M_begin a1 u = some u0) : AtG γ (WM cI cZ h) 2 0 0 0 [(0, .ref (h 0)), (1, .int a1)] [] u := by
  unfold f_M_begin at hf
  refine x_aload_n C d_M_begin_0 rfl (k := 0) rfl ?_
  refine x_iload_n C d_M_begin_1 rfl (k := 1) rfl ?_
  refine pM_M_counting C mf_M_78 d_M_begin_2 ?_
  refine x_aload_n C d_M_begin_5 rfl (k := 0) rfl ?_
  refine x_iconst (v := 0) C d_M_begin_6 (by decide) ?_
  refine pM_M_level C mf_M_87 d_M_begin_7 ?_
  refine x_aload_n C d_M_begin_10 rfl (k := 0) rfl ?_
  refine gM_M_pick C mf_M_41 d_M_begin_11 ?_
  refine x_iconst (v := 0) C d_M_begin_14 (by decide) ?_
  refine x_iconst (v := 4) C d_M_begin_15 (by decide) ?_
  obtain ⟨hin, hf⟩ := ck_some hf
  refine astM_11 C hin d_M_begin_16 ?_
  exact x_vret C hQ (Option.some.inj hf) d_M_begin_17
theorem c_M_begin {l : Launch} {D : va_G} {cI cZ : ClassId} {h : Nat → Nat} (a1 : Int32) (u : PS) {u0 : PS} (hf : f_M_begin a1 u = some u0) : CtV l y_M_begin b_M_begin 2 none (rk 0) D [(cI, .int), (cZ, .boolean)] (WM cI cZ h) [.ref (h 0), .int a1] u u0 := ct_ofV (by decide) (Nat.le_of_ble_eq_true rfl) (fun γ _ _ C hQ => w_M_begin C hQ a1 u hf)
-- ---- PackagePickModel.finds()Z
def b_M_finds_0 (k0 : PS → Option (Int32 × PS)) (u : PS) : Option (Int32 × PS) :=
  if (u.1 4) < 0 then
    some ((0 : Int32), u)
  else
    ck (inb (u.1 4) 7) <|
    if (u.2 10 (u.1 4).toNatClampNeg) = (-1 : Int32) then
      k0 (si u 4 ((u.1 4) - (1 : Int32)))
    else
      ck (inb (u.1 4) 7) <|
      ck (inb (u.1 4) 7) <|
      (f_M_goes (u.1 4) (sa u 10 (u.1 4).toNatClampNeg ((u.2 10 (u.1 4).toNatClampNeg) - (1 : Int32)))).bind fun r1 =>
      if r1 = 0 then
        k0 (sa u 10 (u.1 4).toNatClampNeg ((u.2 10 (u.1 4).toNatClampNeg) - (1 : Int32)))
      else
        if (7 : Int32) ≤ ((u.1 4) + (1 : Int32)) then
          (f_M_isTight (sa u 10 (u.1 4).toNatClampNeg ((u.2 10 (u.1 4).toNatClampNeg) - (1 : Int32)))).bind fun r2 =>
          if r2.1 = 0 then
            k0 r2.2
          else
            some ((1 : Int32), r2.2)
        else
          ck (inb ((u.1 4) + (1 : Int32)) 7) <|
          k0 (sa (si (sa u 10 (u.1 4).toNatClampNeg ((u.2 10 (u.1 4).toNatClampNeg) - (1 : Int32))) 4 ((u.1 4) + (1 : Int32))) 10 ((u.1 4) + (1 : Int32)).toNatClampNeg (4 : Int32))
set_option maxRecDepth 100000 in
set_option maxHeartbeats 4000000 in
theorem w_M_finds_0 {γ : CX} {cI cZ : ClassId} {h : Nat → Nat} {r0 : Int32} {u0 : PS} (C : Cx γ b_M_finds 1 (some .boolean) "PackagePickModel" (rk 2) [(cI, .int), (cZ, .boolean)]) (hQ : QI γ [(cI, .int), (cZ, .boolean)] (WM cI cZ h) r0 u0) (k0 : PS → Option (Int32 × PS)) (hk0 : ∀ (u : PS), k0 u = some (r0, u0) → AtG γ (WM cI cZ h) 1 0 0 0 [(0, .ref (h 0))] [] u) (u : PS) (hf : b_M_finds_0 k0 u = some (r0, u0)) : AtG γ (WM cI cZ h) 1 0 0 0 [(0, .ref (h 0))] [] u := by
  unfold b_M_finds_0 at hf
  refine x_aload_n C d_M_finds_0 rfl (k := 0) rfl ?_
  refine gM_M_level (v := (u.1 4)) C mf_M_87 rfl d_M_finds_1 ?_
  refine x_if_lt (tgt := 103) C d_M_finds_4 (by decide) (fun hc => ?_) (fun hc => ?_)
  · rw [if_pos hc] at hf
    refine x_iconst (v := 0) C d_M_finds_103 (by decide) ?_
    exact x_zret C hQ rfl (Prod.mk.inj (Option.some.inj hf)).1 (Prod.mk.inj (Option.some.inj hf)).2 d_M_finds_104
  · rw [if_neg hc] at hf
    refine x_aload_n C d_M_finds_7 rfl (k := 0) rfl ?_
    refine gM_M_pick C mf_M_41 d_M_finds_8 ?_
    refine x_aload_n C d_M_finds_11 rfl (k := 0) rfl ?_
    refine gM_M_level (v := (u.1 4)) C mf_M_87 rfl d_M_finds_12 ?_
    obtain ⟨hin, hf⟩ := ck_some hf
    refine aldM_11 (v := (u.2 10 (u.1 4).toNatClampNeg)) C hin rfl d_M_finds_15 ?_
    refine x_iconst (v := -1) C d_M_finds_16 (by decide) ?_
    refine x_icmp_ne (tgt := 33) C d_M_finds_17 (by decide) (fun hc => ?_) (fun hc => ?_)
    · rw [if_neg hc] at hf
      refine x_aload_n C d_M_finds_33 rfl (k := 0) rfl ?_
      refine gM_M_pick C mf_M_41 d_M_finds_34 ?_
      refine x_aload_n C d_M_finds_37 rfl (k := 0) rfl ?_
      refine gM_M_level (v := (u.1 4)) C mf_M_87 rfl d_M_finds_38 ?_
      refine x_dup2 C d_M_finds_41 rfl rfl ?_
      obtain ⟨hin, hf⟩ := ck_some hf
      refine aldM_11 (v := (u.2 10 (u.1 4).toNatClampNeg)) C hin rfl d_M_finds_42 ?_
      refine x_iconst (v := 1) C d_M_finds_43 (by decide) ?_
      refine x_isub C d_M_finds_44 ?_
      obtain ⟨hin, hf⟩ := ck_some hf
      refine astM_11 C hin d_M_finds_45 ?_
      refine x_aload_n C d_M_finds_46 rfl (k := 0) rfl ?_
      refine x_aload_n C d_M_finds_47 rfl (k := 0) rfl ?_
      refine gM_M_level (v := (u.1 4)) C mf_M_87 rfl d_M_finds_48 ?_
      obtain ⟨r1, hc1, hf⟩ := Option.bind_eq_some_iff.mp hf
      refine x_callIv (q0 := 0) (ci := 4) (rest := []) C (c_M_goes (u.1 4) (sa u 10 (u.1 4).toNatClampNeg ((u.2 10 (u.1 4).toNatClampNeg) - (1 : Int32))) hc1) kc_M_goes (rok (by decide) (by decide)) mm_M_90 ms_M_goes ml_M_goes rfl rfl rfl rfl (Nat.le_of_ble_eq_true rfl) d_M_finds_51 ?_
      refine x_if_ne (tgt := 60) C d_M_finds_54 (by decide) (fun hc => ?_) (fun hc => ?_)
      · rw [if_neg hc] at hf
        refine x_aload_n C d_M_finds_60 rfl (k := 0) rfl ?_
        refine gM_M_level (v := (u.1 4)) C mf_M_87 rfl d_M_finds_61 ?_
        refine x_iconst (v := 1) C d_M_finds_64 (by decide) ?_
        refine x_iadd C d_M_finds_65 ?_
        refine x_bipush (v := 7) C d_M_finds_66 (by decide) ?_
        refine x_icmp_ge (tgt := 94) C d_M_finds_68 (by decide) (fun hc => ?_) (fun hc => ?_)
        · rw [if_pos hc] at hf
          refine x_aload_n C d_M_finds_94 rfl (k := 0) rfl ?_
          obtain ⟨r2, hc2, hf⟩ := Option.bind_eq_some_iff.mp hf
          refine x_callIv (q0 := 0) (ci := 4) (rest := []) C (c_M_isTight (sa u 10 (u.1 4).toNatClampNeg ((u.2 10 (u.1 4).toNatClampNeg) - (1 : Int32))) hc2) kc_M_isTight (rok (by decide) (by decide)) mm_M_93 ms_M_isTight ml_M_isTight rfl rfl rfl rfl (Nat.le_of_ble_eq_true rfl) d_M_finds_95 ?_
          refine x_if_eq (tgt := 0) C d_M_finds_98 (by decide) (fun hc => ?_) (fun hc => ?_)
          · rw [if_pos hc] at hf
            exact hk0 r2.2 hf
          · rw [if_neg hc] at hf
            refine x_iconst (v := 1) C d_M_finds_101 (by decide) ?_
            exact x_zret C hQ rfl (Prod.mk.inj (Option.some.inj hf)).1 (Prod.mk.inj (Option.some.inj hf)).2 d_M_finds_102
        · rw [if_neg hc] at hf
          refine x_aload_n C d_M_finds_71 rfl (k := 0) rfl ?_
          refine x_dup C d_M_finds_72 rfl ?_
          refine gM_M_level (v := (u.1 4)) C mf_M_87 rfl d_M_finds_73 ?_
          refine x_iconst (v := 1) C d_M_finds_76 (by decide) ?_
          refine x_iadd C d_M_finds_77 ?_
          refine pM_M_level C mf_M_87 d_M_finds_78 ?_
          refine x_aload_n C d_M_finds_81 rfl (k := 0) rfl ?_
          refine gM_M_pick C mf_M_41 d_M_finds_82 ?_
          refine x_aload_n C d_M_finds_85 rfl (k := 0) rfl ?_
          refine gM_M_level (v := ((u.1 4) + (1 : Int32))) C mf_M_87 rfl d_M_finds_86 ?_
          refine x_iconst (v := 4) C d_M_finds_89 (by decide) ?_
          obtain ⟨hin, hf⟩ := ck_some hf
          refine astM_11 C hin d_M_finds_90 ?_
          refine x_goto (tgt := 0) C d_M_finds_91 (by decide) ?_
          exact hk0 (sa (si (sa u 10 (u.1 4).toNatClampNeg ((u.2 10 (u.1 4).toNatClampNeg) - (1 : Int32))) 4 ((u.1 4) + (1 : Int32))) 10 ((u.1 4) + (1 : Int32)).toNatClampNeg (4 : Int32)) hf
      · rw [if_pos hc] at hf
        refine x_goto (tgt := 0) C d_M_finds_57 (by decide) ?_
        exact hk0 (sa u 10 (u.1 4).toNatClampNeg ((u.2 10 (u.1 4).toNatClampNeg) - (1 : Int32))) hf
    · rw [if_pos hc] at hf
      refine x_aload_n C d_M_finds_20 rfl (k := 0) rfl ?_
      refine x_dup C d_M_finds_21 rfl ?_
      refine gM_M_level (v := (u.1 4)) C mf_M_87 rfl d_M_finds_22 ?_
      refine x_iconst (v := 1) C d_M_finds_25 (by decide) ?_
      refine x_isub C d_M_finds_26 ?_
      refine pM_M_level C mf_M_87 d_M_finds_27 ?_
      refine x_goto (tgt := 0) C d_M_finds_30 (by decide) ?_
      exact hk0 (si u 4 ((u.1 4) - (1 : Int32))) hf
def l_M_finds_0 : Nat → PS → Option (Int32 × PS)
  | 0 => fun _ => none
  | n + 1 => b_M_finds_0 (l_M_finds_0 n)
theorem wl_M_finds_0 {γ : CX} {cI cZ : ClassId} {h : Nat → Nat} {r0 : Int32} {u0 : PS} (C : Cx γ b_M_finds 1 (some .boolean) "PackagePickModel" (rk 2) [(cI, .int), (cZ, .boolean)]) (hQ : QI γ [(cI, .int), (cZ, .boolean)] (WM cI cZ h) r0 u0) (n : Nat) : ∀ (u : PS), l_M_finds_0 n u = some (r0, u0) → AtG γ (WM cI cZ h) 1 0 0 0 [(0, .ref (h 0))] [] u := by
  induction n with
  | zero => intro u hf; cases hf
  | succ n ih => intro u hf; exact w_M_finds_0 C hQ (l_M_finds_0 n) ih u hf
def f_M_finds (u : PS) : Option (Int32 × PS) :=
  l_M_finds_0 NF u
set_option maxRecDepth 100000 in
set_option maxHeartbeats 4000000 in
theorem w_M_finds {γ : CX} {cI cZ : ClassId} {h : Nat → Nat} {r0 : Int32} {u0 : PS} (C : Cx γ b_M_finds 1 (some .boolean) "PackagePickModel" (rk 2) [(cI, .int), (cZ, .boolean)]) (hQ : QI γ [(cI, .int), (cZ, .boolean)] (WM cI cZ h) r0 u0) (u : PS) (hf : f_M_finds u = some (r0, u0)) : AtG γ (WM cI cZ h) 1 0 0 0 [(0, .ref (h 0))] [] u := by
  unfold f_M_finds at hf
  exact wl_M_finds_0 C hQ NF u hf
theorem c_M_finds {l : Launch} {D : va_G} {cI cZ : ClassId} {h : Nat → Nat} (u : PS) {r0 : Int32 × PS} (hf : f_M_finds u = some r0) : CtI l y_M_finds b_M_finds 1 (some .boolean) (rk 2) D [(cI, .int), (cZ, .boolean)] (WM cI cZ h) [.ref (h 0)] u r0.1 r0.2 := ct_ofI (by decide) (Nat.le_of_ble_eq_true rfl) (fun γ _ _ C hQ => w_M_finds C hQ u hf)
-- ---- PackagePickModel.all()I
def f_M_all (u : PS) : Int32 :=
  (((1 : Int32) <<< ((u.1 1) &&& 31)) - (1 : Int32))
set_option maxRecDepth 100000 in
set_option maxHeartbeats 4000000 in
theorem w_M_all {γ : CX} {cI cZ : ClassId} {h : Nat → Nat} {u : PS} {r0 : Int32} (C : Cx γ b_M_all 1 (some .int) "PackagePickModel" (rk 0) [(cI, .int), (cZ, .boolean)]) (hQ : QI γ [(cI, .int), (cZ, .boolean)] (WM cI cZ h) r0 u) (hf : f_M_all u = r0) : AtG γ (WM cI cZ h) 1 0 0 0 [(0, .ref (h 0))] [] u := by
  unfold f_M_all at hf
  refine x_iconst (v := 1) C d_M_all_0 (by decide) ?_
  refine x_aload_n C d_M_all_1 rfl (k := 0) rfl ?_
  refine gM_M_asked (v := (u.1 1)) C mf_M_75 rfl d_M_all_2 ?_
  refine x_ishl C d_M_all_5 ?_
  refine x_iconst (v := 1) C d_M_all_6 (by decide) ?_
  refine x_isub C d_M_all_7 ?_
  exact x_iret C hQ hf rfl d_M_all_8
theorem c_M_all {l : Launch} {D : va_G} {cI cZ : ClassId} {h : Nat → Nat} (u : PS) : CtI l y_M_all b_M_all 1 (some .int) (rk 0) D [(cI, .int), (cZ, .boolean)] (WM cI cZ h) [.ref (h 0)] u (f_M_all u) u := ct_ofI (by decide) (Nat.le_of_ble_eq_true rfl) (fun γ _ _ C hQ => w_M_all C hQ rfl)
-- ---- PackagePickModel.cost(I)I
def b_M_cost_26 (u : PS) (k4 : Int32 → Int32 → Int32 → Option (Int32)) (x1 : Int32) (x3 : Int32) (t0 : Int32) : Option (Int32) :=
  if x1 = (2 : Int32) then
    ck (inb x3 7) <|
    ck (inb x3 7) <|
    if (u.2 10 x3.toNatClampNeg) = (u.2 13 x3.toNatClampNeg) then
      k4 x1 (t0 + (0 : Int32)) (x3 + (1 : Int32))
    else
      k4 x1 (t0 + (1 : Int32)) (x3 + (1 : Int32))
  else
    k4 x1 (t0 + (0 : Int32)) (x3 + (1 : Int32))
set_option maxRecDepth 100000 in
set_option maxHeartbeats 4000000 in
theorem w_M_cost_26 {γ : CX} {cI cZ : ClassId} {h : Nat → Nat} {u : PS} {r0 : Int32} (C : Cx γ b_M_cost 4 (some .int) "PackagePickModel" (rk 0) [(cI, .int), (cZ, .boolean)]) (hQ : QI γ [(cI, .int), (cZ, .boolean)] (WM cI cZ h) r0 u) (k4 : Int32 → Int32 → Int32 → Option (Int32)) (hk4 : ∀ (x1 : Int32) (x2 : Int32) (x3 : Int32), k4 x1 x2 x3 = some r0 → AtG γ (WM cI cZ h) 4 0 0 4 [(0, .ref (h 0)), (1, .int x1), (2, .int x2), (3, .int x3)] [] u) (x1 : Int32) (x3 : Int32) (t0 : Int32) (hf : b_M_cost_26 u k4 x1 x3 t0 = some r0) : AtG γ (WM cI cZ h) 4 0 0 26 [(0, .ref (h 0)), (1, .int x1), (3, .int x3)] [.int t0] u := by
  unfold b_M_cost_26 at hf
  refine x_iload_n C d_M_cost_26 rfl (k := 1) rfl ?_
  refine x_iconst (v := 2) C d_M_cost_27 (by decide) ?_
  refine x_icmp_ne (tgt := 50) C d_M_cost_28 (by decide) (fun hc => ?_) (fun hc => ?_)
  · rw [if_neg hc] at hf
    refine x_iconst (v := 0) C d_M_cost_50 (by decide) ?_
    refine x_iadd C d_M_cost_51 ?_
    refine x_istore_n (lv' := [(2, .int (t0 + (0 : Int32))), (0, .ref (h 0)), (1, .int x1), (3, .int x3)]) C d_M_cost_52 rfl (by decide) rfl ?_
    refine x_iinc (v := (x3 + (1 : Int32))) (lv' := [(3, .int (x3 + (1 : Int32))), (2, .int (t0 + (0 : Int32))), (0, .ref (h 0)), (1, .int x1)]) C d_M_cost_53 (k := 3) rfl rfl (by decide) rfl ?_
    refine x_goto (tgt := 4) C d_M_cost_56 (by decide) ?_
    refine x_sub (lv' := [(0, .ref (h 0)), (1, .int x1), (2, .int (t0 + (0 : Int32))), (3, .int (x3 + (1 : Int32)))]) [2, 3, 1, 0] rfl ?_
    exact hk4 x1 (t0 + (0 : Int32)) (x3 + (1 : Int32)) hf
  · rw [if_pos hc] at hf
    refine x_aload_n C d_M_cost_31 rfl (k := 0) rfl ?_
    refine gM_M_pick C mf_M_41 d_M_cost_32 ?_
    refine x_iload_n C d_M_cost_35 rfl (k := 2) rfl ?_
    obtain ⟨hin, hf⟩ := ck_some hf
    refine aldM_11 (v := (u.2 10 x3.toNatClampNeg)) C hin rfl d_M_cost_36 ?_
    refine x_aload_n C d_M_cost_37 rfl (k := 0) rfl ?_
    refine gM_M_kept C mf_M_50 d_M_cost_38 ?_
    refine x_iload_n C d_M_cost_41 rfl (k := 2) rfl ?_
    obtain ⟨hin, hf⟩ := ck_some hf
    refine aldM_14 (v := (u.2 13 x3.toNatClampNeg)) C hin rfl d_M_cost_42 ?_
    refine x_icmp_eq (tgt := 50) C d_M_cost_43 (by decide) (fun hc => ?_) (fun hc => ?_)
    · rw [if_pos hc] at hf
      refine x_iconst (v := 0) C d_M_cost_50 (by decide) ?_
      refine x_iadd C d_M_cost_51 ?_
      refine x_istore_n (lv' := [(2, .int (t0 + (0 : Int32))), (0, .ref (h 0)), (1, .int x1), (3, .int x3)]) C d_M_cost_52 rfl (by decide) rfl ?_
      refine x_iinc (v := (x3 + (1 : Int32))) (lv' := [(3, .int (x3 + (1 : Int32))), (2, .int (t0 + (0 : Int32))), (0, .ref (h 0)), (1, .int x1)]) C d_M_cost_53 (k := 3) rfl rfl (by decide) rfl ?_
      refine x_goto (tgt := 4) C d_M_cost_56 (by decide) ?_
      refine x_sub (lv' := [(0, .ref (h 0)), (1, .int x1), (2, .int (t0 + (0 : Int32))), (3, .int (x3 + (1 : Int32)))]) [2, 3, 1, 0] rfl ?_
      exact hk4 x1 (t0 + (0 : Int32)) (x3 + (1 : Int32)) hf
    · rw [if_neg hc] at hf
      refine x_iconst (v := 1) C d_M_cost_46 (by decide) ?_
      refine x_goto (tgt := 51) C d_M_cost_47 (by decide) ?_
      refine x_iadd C d_M_cost_51 ?_
      refine x_istore_n (lv' := [(2, .int (t0 + (1 : Int32))), (0, .ref (h 0)), (1, .int x1), (3, .int x3)]) C d_M_cost_52 rfl (by decide) rfl ?_
      refine x_iinc (v := (x3 + (1 : Int32))) (lv' := [(3, .int (x3 + (1 : Int32))), (2, .int (t0 + (1 : Int32))), (0, .ref (h 0)), (1, .int x1)]) C d_M_cost_53 (k := 3) rfl rfl (by decide) rfl ?_
      refine x_goto (tgt := 4) C d_M_cost_56 (by decide) ?_
      refine x_sub (lv' := [(0, .ref (h 0)), (1, .int x1), (2, .int (t0 + (1 : Int32))), (3, .int (x3 + (1 : Int32)))]) [2, 3, 1, 0] rfl ?_
      exact hk4 x1 (t0 + (1 : Int32)) (x3 + (1 : Int32)) hf
def b_M_cost_4 (u : PS) (k4 : Int32 → Int32 → Int32 → Option (Int32)) (x1 : Int32) (x2 : Int32) (x3 : Int32) : Option (Int32) :=
  if (7 : Int32) ≤ x3 then
    some x2
  else
    if x1 = (1 : Int32) then
      ck (inb x3 7) <|
      if (u.2 10 x3.toNatClampNeg) = (-1 : Int32) then
        b_M_cost_26 u k4 x1 x3 x2
      else
        k4 x1 (x2 + (1 : Int32)) (x3 + (1 : Int32))
    else
      b_M_cost_26 u k4 x1 x3 x2
set_option maxRecDepth 100000 in
set_option maxHeartbeats 4000000 in
theorem w_M_cost_4 {γ : CX} {cI cZ : ClassId} {h : Nat → Nat} {u : PS} {r0 : Int32} (C : Cx γ b_M_cost 4 (some .int) "PackagePickModel" (rk 0) [(cI, .int), (cZ, .boolean)]) (hQ : QI γ [(cI, .int), (cZ, .boolean)] (WM cI cZ h) r0 u) (k4 : Int32 → Int32 → Int32 → Option (Int32)) (hk4 : ∀ (x1 : Int32) (x2 : Int32) (x3 : Int32), k4 x1 x2 x3 = some r0 → AtG γ (WM cI cZ h) 4 0 0 4 [(0, .ref (h 0)), (1, .int x1), (2, .int x2), (3, .int x3)] [] u) (x1 : Int32) (x2 : Int32) (x3 : Int32) (hf : b_M_cost_4 u k4 x1 x2 x3 = some r0) : AtG γ (WM cI cZ h) 4 0 0 4 [(0, .ref (h 0)), (1, .int x1), (2, .int x2), (3, .int x3)] [] u := by
  unfold b_M_cost_4 at hf
  refine x_iload_n C d_M_cost_4 rfl (k := 3) rfl ?_
  refine x_bipush (v := 7) C d_M_cost_5 (by decide) ?_
  refine x_icmp_ge (tgt := 59) C d_M_cost_7 (by decide) (fun hc => ?_) (fun hc => ?_)
  · rw [if_pos hc] at hf
    refine x_iload_n C d_M_cost_59 rfl (k := 2) rfl ?_
    exact x_iret C hQ (Option.some.inj hf) rfl d_M_cost_60
  · rw [if_neg hc] at hf
    refine x_iload_n C d_M_cost_10 rfl (k := 2) rfl ?_
    refine x_iload_n C d_M_cost_11 rfl (k := 1) rfl ?_
    refine x_iconst (v := 1) C d_M_cost_12 (by decide) ?_
    refine x_icmp_ne (tgt := 26) C d_M_cost_13 (by decide) (fun hc => ?_) (fun hc => ?_)
    · rw [if_neg hc] at hf
      refine x_sub (lv' := [(0, .ref (h 0)), (1, .int x1), (3, .int x3)]) [0, 1, 3] rfl ?_
      exact w_M_cost_26 C hQ k4 hk4 x1 x3 x2 hf
    · rw [if_pos hc] at hf
      refine x_aload_n C d_M_cost_16 rfl (k := 0) rfl ?_
      refine gM_M_pick C mf_M_41 d_M_cost_17 ?_
      refine x_iload_n C d_M_cost_20 rfl (k := 3) rfl ?_
      obtain ⟨hin, hf⟩ := ck_some hf
      refine aldM_11 (v := (u.2 10 x3.toNatClampNeg)) C hin rfl d_M_cost_21 ?_
      refine x_iconst (v := -1) C d_M_cost_22 (by decide) ?_
      refine x_icmp_ne (tgt := 46) C d_M_cost_23 (by decide) (fun hc => ?_) (fun hc => ?_)
      · rw [if_neg hc] at hf
        refine x_iconst (v := 1) C d_M_cost_46 (by decide) ?_
        refine x_goto (tgt := 51) C d_M_cost_47 (by decide) ?_
        refine x_iadd C d_M_cost_51 ?_
        refine x_istore_n (lv' := [(2, .int (x2 + (1 : Int32))), (0, .ref (h 0)), (1, .int x1), (3, .int x3)]) C d_M_cost_52 rfl (by decide) rfl ?_
        refine x_iinc (v := (x3 + (1 : Int32))) (lv' := [(3, .int (x3 + (1 : Int32))), (2, .int (x2 + (1 : Int32))), (0, .ref (h 0)), (1, .int x1)]) C d_M_cost_53 (k := 3) rfl rfl (by decide) rfl ?_
        refine x_goto (tgt := 4) C d_M_cost_56 (by decide) ?_
        refine x_sub (lv' := [(0, .ref (h 0)), (1, .int x1), (2, .int (x2 + (1 : Int32))), (3, .int (x3 + (1 : Int32)))]) [2, 3, 1, 0] rfl ?_
        exact hk4 x1 (x2 + (1 : Int32)) (x3 + (1 : Int32)) hf
      · rw [if_pos hc] at hf
        refine x_sub (lv' := [(0, .ref (h 0)), (1, .int x1), (3, .int x3)]) [0, 1, 3] rfl ?_
        exact w_M_cost_26 C hQ k4 hk4 x1 x3 x2 hf
def l_M_cost_4 (u : PS) : Nat → Int32 → Int32 → Int32 → Option (Int32)
  | 0 => fun _ _ _ => none
  | n + 1 => b_M_cost_4 u (l_M_cost_4 u n)
theorem wl_M_cost_4 {γ : CX} {cI cZ : ClassId} {h : Nat → Nat} {u : PS} {r0 : Int32} (C : Cx γ b_M_cost 4 (some .int) "PackagePickModel" (rk 0) [(cI, .int), (cZ, .boolean)]) (hQ : QI γ [(cI, .int), (cZ, .boolean)] (WM cI cZ h) r0 u) (n : Nat) : ∀ (x1 : Int32) (x2 : Int32) (x3 : Int32), l_M_cost_4 u n x1 x2 x3 = some r0 → AtG γ (WM cI cZ h) 4 0 0 4 [(0, .ref (h 0)), (1, .int x1), (2, .int x2), (3, .int x3)] [] u := by
  induction n with
  | zero => intro x1 x2 x3 hf; cases hf
  | succ n ih => intro x1 x2 x3 hf; exact w_M_cost_4 C hQ (l_M_cost_4 u n) ih x1 x2 x3 hf
def f_M_cost (a1 : Int32) (u : PS) : Option (Int32) :=
  l_M_cost_4 u NF a1 (0 : Int32) (0 : Int32)
set_option maxRecDepth 100000 in
set_option maxHeartbeats 4000000 in
theorem w_M_cost {γ : CX} {cI cZ : ClassId} {h : Nat → Nat} {u : PS} {r0 : Int32} (C : Cx γ b_M_cost 4 (some .int) "PackagePickModel" (rk 0) [(cI, .int), (cZ, .boolean)]) (hQ : QI γ [(cI, .int), (cZ, .boolean)] (WM cI cZ h) r0 u) (a1 : Int32) (hf : f_M_cost a1 u = some r0) : AtG γ (WM cI cZ h) 4 0 0 0 [(0, .ref (h 0)), (1, .int a1)] [] u := by
  unfold f_M_cost at hf
  refine x_iconst (v := 0) C d_M_cost_0 (by decide) ?_
  refine x_istore_n (lv' := [(2, .int (0 : Int32)), (0, .ref (h 0)), (1, .int a1)]) C d_M_cost_1 rfl (by decide) rfl ?_
  refine x_iconst (v := 0) C d_M_cost_2 (by decide) ?_
  refine x_istore_n (lv' := [(3, .int (0 : Int32)), (2, .int (0 : Int32)), (0, .ref (h 0)), (1, .int a1)]) C d_M_cost_3 rfl (by decide) rfl ?_
  refine x_sub (lv' := [(0, .ref (h 0)), (1, .int a1), (2, .int (0 : Int32)), (3, .int (0 : Int32))]) [2, 3, 1, 0] rfl ?_
  exact wl_M_cost_4 C hQ NF a1 (0 : Int32) (0 : Int32) hf
theorem c_M_cost {l : Launch} {D : va_G} {cI cZ : ClassId} {h : Nat → Nat} (a1 : Int32) (u : PS) {r0 : Int32} (hf : f_M_cost a1 u = some r0) : CtI l y_M_cost b_M_cost 4 (some .int) (rk 0) D [(cI, .int), (cZ, .boolean)] (WM cI cZ h) [.ref (h 0), .int a1] u r0 u := ct_ofI (by decide) (Nat.le_of_ble_eq_true rfl) (fun γ _ _ C hQ => w_M_cost C hQ a1 hf)
-- ---- PackagePickModel.sizeOf(I)I
def b_M_sizeOf_4 (k4 : Int32 → Int32 → Int32 → Option (Int32)) (x0 : Int32) (x1 : Int32) (x2 : Int32) : Option (Int32) :=
  if (6 : Int32) ≤ x2 then
    some x1
  else
    k4 x0 (x1 + ((x0 >>> (x2 &&& 31)) &&& (1 : Int32))) (x2 + (1 : Int32))
set_option maxRecDepth 100000 in
set_option maxHeartbeats 4000000 in
theorem w_M_sizeOf_4 {γ : CX} {S : Type} {wf : S → va_W} {tys : Tys} {u : S} {r0 : Int32} (C : Cx γ b_M_sizeOf 3 (some .int) "PackagePickModel" (rk 0) tys) (hQ : QI γ tys wf r0 u) (k4 : Int32 → Int32 → Int32 → Option (Int32)) (hk4 : ∀ (x0 : Int32) (x1 : Int32) (x2 : Int32), k4 x0 x1 x2 = some r0 → AtG γ wf 3 0 0 4 [(0, .int x0), (1, .int x1), (2, .int x2)] [] u) (x0 : Int32) (x1 : Int32) (x2 : Int32) (hf : b_M_sizeOf_4 k4 x0 x1 x2 = some r0) : AtG γ wf 3 0 0 4 [(0, .int x0), (1, .int x1), (2, .int x2)] [] u := by
  unfold b_M_sizeOf_4 at hf
  refine x_iload_n C d_M_sizeOf_4 rfl (k := 2) rfl ?_
  refine x_bipush (v := 6) C d_M_sizeOf_5 (by decide) ?_
  refine x_icmp_ge (tgt := 24) C d_M_sizeOf_7 (by decide) (fun hc => ?_) (fun hc => ?_)
  · rw [if_pos hc] at hf
    refine x_iload_n C d_M_sizeOf_24 rfl (k := 1) rfl ?_
    exact x_iret C hQ (Option.some.inj hf) rfl d_M_sizeOf_25
  · rw [if_neg hc] at hf
    refine x_iload_n C d_M_sizeOf_10 rfl (k := 1) rfl ?_
    refine x_iload_n C d_M_sizeOf_11 rfl (k := 0) rfl ?_
    refine x_iload_n C d_M_sizeOf_12 rfl (k := 2) rfl ?_
    refine x_ishr C d_M_sizeOf_13 ?_
    refine x_iconst (v := 1) C d_M_sizeOf_14 (by decide) ?_
    refine x_iand C d_M_sizeOf_15 ?_
    refine x_iadd C d_M_sizeOf_16 ?_
    refine x_istore_n (lv' := [(1, .int (x1 + ((x0 >>> (x2 &&& 31)) &&& (1 : Int32)))), (0, .int x0), (2, .int x2)]) C d_M_sizeOf_17 rfl (by decide) rfl ?_
    refine x_iinc (v := (x2 + (1 : Int32))) (lv' := [(2, .int (x2 + (1 : Int32))), (1, .int (x1 + ((x0 >>> (x2 &&& 31)) &&& (1 : Int32)))), (0, .int x0)]) C d_M_sizeOf_18 (k := 2) rfl rfl (by decide) rfl ?_
    refine x_goto (tgt := 4) C d_M_sizeOf_21 (by decide) ?_
    refine x_sub (lv' := [(0, .int x0), (1, .int (x1 + ((x0 >>> (x2 &&& 31)) &&& (1 : Int32)))), (2, .int (x2 + (1 : Int32)))]) [2, 1, 0] rfl ?_
    exact hk4 x0 (x1 + ((x0 >>> (x2 &&& 31)) &&& (1 : Int32))) (x2 + (1 : Int32)) hf
def l_M_sizeOf_4 : Nat → Int32 → Int32 → Int32 → Option (Int32)
  | 0 => fun _ _ _ => none
  | n + 1 => b_M_sizeOf_4 (l_M_sizeOf_4 n)
theorem wl_M_sizeOf_4 {γ : CX} {S : Type} {wf : S → va_W} {tys : Tys} {u : S} {r0 : Int32} (C : Cx γ b_M_sizeOf 3 (some .int) "PackagePickModel" (rk 0) tys) (hQ : QI γ tys wf r0 u) (n : Nat) : ∀ (x0 : Int32) (x1 : Int32) (x2 : Int32), l_M_sizeOf_4 n x0 x1 x2 = some r0 → AtG γ wf 3 0 0 4 [(0, .int x0), (1, .int x1), (2, .int x2)] [] u := by
  induction n with
  | zero => intro x0 x1 x2 hf; cases hf
  | succ n ih => intro x0 x1 x2 hf; exact w_M_sizeOf_4 C hQ (l_M_sizeOf_4 n) ih x0 x1 x2 hf
def f_M_sizeOf (a0 : Int32) : Option (Int32) :=
  l_M_sizeOf_4 NF a0 (0 : Int32) (0 : Int32)
set_option maxRecDepth 100000 in
set_option maxHeartbeats 4000000 in
theorem w_M_sizeOf {γ : CX} {S : Type} {wf : S → va_W} {tys : Tys} {u : S} {r0 : Int32} (C : Cx γ b_M_sizeOf 3 (some .int) "PackagePickModel" (rk 0) tys) (hQ : QI γ tys wf r0 u) (a0 : Int32) (hf : f_M_sizeOf a0 = some r0) : AtG γ wf 3 0 0 0 [(0, .int a0)] [] u := by
  unfold f_M_sizeOf at hf
  refine x_iconst (v := 0) C d_M_sizeOf_0 (by decide) ?_
  refine x_istore_n (lv' := [(1, .int (0 : Int32)), (0, .int a0)]) C d_M_sizeOf_1 rfl (by decide) rfl ?_
  refine x_iconst (v := 0) C d_M_sizeOf_2 (by decide) ?_
  refine x_istore_n (lv' := [(2, .int (0 : Int32)), (1, .int (0 : Int32)), (0, .int a0)]) C d_M_sizeOf_3 rfl (by decide) rfl ?_
  refine x_sub (lv' := [(0, .int a0), (1, .int (0 : Int32)), (2, .int (0 : Int32))]) [2, 1, 0] rfl ?_
  exact wl_M_sizeOf_4 C hQ NF a0 (0 : Int32) (0 : Int32) hf
theorem c_M_sizeOf {S : Type} {l : Launch} {D : va_G} {tys : Tys} {wf : S → va_W} {u : S} (a0 : Int32) {r0 : Int32} (hf : f_M_sizeOf a0 = some r0) : CtI l y_M_sizeOf b_M_sizeOf 3 (some .int) (rk 0) D tys wf [.int a0] u r0 u := ct_ofI (by decide) (Nat.le_of_ble_eq_true rfl) (fun γ _ _ C hQ => w_M_sizeOf C hQ a0 hf)
-- ---- PackagePickModel.isAhead(II)Z
def b_M_isAhead_2 (k2 : Int32 → Int32 → Int32 → Option (Int32)) (x0 : Int32) (x1 : Int32) (x2 : Int32) : Option (Int32) :=
  if ((x0 >>> (x2 &&& 31)) &&& (1 : Int32)) = ((x1 >>> (x2 &&& 31)) &&& (1 : Int32)) then
    k2 x0 x1 (x2 + (1 : Int32))
  else
    if ((x0 >>> (x2 &&& 31)) &&& (1 : Int32)) = (1 : Int32) then
      some (1 : Int32)
    else
      some (0 : Int32)
set_option maxRecDepth 100000 in
set_option maxHeartbeats 4000000 in
theorem w_M_isAhead_2 {γ : CX} {S : Type} {wf : S → va_W} {tys : Tys} {u : S} {r0 : Int32} (C : Cx γ b_M_isAhead 3 (some .boolean) "PackagePickModel" (rk 0) tys) (hQ : QI γ tys wf r0 u) (k2 : Int32 → Int32 → Int32 → Option (Int32)) (hk2 : ∀ (x0 : Int32) (x1 : Int32) (x2 : Int32), k2 x0 x1 x2 = some r0 → AtG γ wf 3 0 0 2 [(0, .int x0), (1, .int x1), (2, .int x2)] [] u) (x0 : Int32) (x1 : Int32) (x2 : Int32) (hf : b_M_isAhead_2 k2 x0 x1 x2 = some r0) : AtG γ wf 3 0 0 2 [(0, .int x0), (1, .int x1), (2, .int x2)] [] u := by
  unfold b_M_isAhead_2 at hf
  refine x_iload_n C d_M_isAhead_2 rfl (k := 0) rfl ?_
  refine x_iload_n C d_M_isAhead_3 rfl (k := 2) rfl ?_
  refine x_ishr C d_M_isAhead_4 ?_
  refine x_iconst (v := 1) C d_M_isAhead_5 (by decide) ?_
  refine x_iand C d_M_isAhead_6 ?_
  refine x_iload_n C d_M_isAhead_7 rfl (k := 1) rfl ?_
  refine x_iload_n C d_M_isAhead_8 rfl (k := 2) rfl ?_
  refine x_ishr C d_M_isAhead_9 ?_
  refine x_iconst (v := 1) C d_M_isAhead_10 (by decide) ?_
  refine x_iand C d_M_isAhead_11 ?_
  refine x_icmp_ne (tgt := 21) C d_M_isAhead_12 (by decide) (fun hc => ?_) (fun hc => ?_)
  · rw [if_neg hc] at hf
    refine x_iload_n C d_M_isAhead_21 rfl (k := 0) rfl ?_
    refine x_iload_n C d_M_isAhead_22 rfl (k := 2) rfl ?_
    refine x_ishr C d_M_isAhead_23 ?_
    refine x_iconst (v := 1) C d_M_isAhead_24 (by decide) ?_
    refine x_iand C d_M_isAhead_25 ?_
    refine x_iconst (v := 1) C d_M_isAhead_26 (by decide) ?_
    refine x_icmp_ne (tgt := 34) C d_M_isAhead_27 (by decide) (fun hc => ?_) (fun hc => ?_)
    · rw [if_neg hc] at hf
      refine x_iconst (v := 0) C d_M_isAhead_34 (by decide) ?_
      exact x_zret C hQ rfl (Option.some.inj hf) rfl d_M_isAhead_35
    · rw [if_pos hc] at hf
      refine x_iconst (v := 1) C d_M_isAhead_30 (by decide) ?_
      refine x_goto (tgt := 35) C d_M_isAhead_31 (by decide) ?_
      exact x_zret C hQ rfl (Option.some.inj hf) rfl d_M_isAhead_35
  · rw [if_pos hc] at hf
    refine x_iinc (v := (x2 + (1 : Int32))) (lv' := [(2, .int (x2 + (1 : Int32))), (0, .int x0), (1, .int x1)]) C d_M_isAhead_15 (k := 2) rfl rfl (by decide) rfl ?_
    refine x_goto (tgt := 2) C d_M_isAhead_18 (by decide) ?_
    refine x_sub (lv' := [(0, .int x0), (1, .int x1), (2, .int (x2 + (1 : Int32)))]) [1, 2, 0] rfl ?_
    exact hk2 x0 x1 (x2 + (1 : Int32)) hf
def l_M_isAhead_2 : Nat → Int32 → Int32 → Int32 → Option (Int32)
  | 0 => fun _ _ _ => none
  | n + 1 => b_M_isAhead_2 (l_M_isAhead_2 n)
theorem wl_M_isAhead_2 {γ : CX} {S : Type} {wf : S → va_W} {tys : Tys} {u : S} {r0 : Int32} (C : Cx γ b_M_isAhead 3 (some .boolean) "PackagePickModel" (rk 0) tys) (hQ : QI γ tys wf r0 u) (n : Nat) : ∀ (x0 : Int32) (x1 : Int32) (x2 : Int32), l_M_isAhead_2 n x0 x1 x2 = some r0 → AtG γ wf 3 0 0 2 [(0, .int x0), (1, .int x1), (2, .int x2)] [] u := by
  induction n with
  | zero => intro x0 x1 x2 hf; cases hf
  | succ n ih => intro x0 x1 x2 hf; exact w_M_isAhead_2 C hQ (l_M_isAhead_2 n) ih x0 x1 x2 hf
def f_M_isAhead (a0 : Int32) (a1 : Int32) : Option (Int32) :=
  l_M_isAhead_2 NF a0 a1 (0 : Int32)
set_option maxRecDepth 100000 in
set_option maxHeartbeats 4000000 in
theorem w_M_isAhead {γ : CX} {S : Type} {wf : S → va_W} {tys : Tys} {u : S} {r0 : Int32} (C : Cx γ b_M_isAhead 3 (some .boolean) "PackagePickModel" (rk 0) tys) (hQ : QI γ tys wf r0 u) (a0 : Int32) (a1 : Int32) (hf : f_M_isAhead a0 a1 = some r0) : AtG γ wf 3 0 0 0 [(0, .int a0), (1, .int a1)] [] u := by
  unfold f_M_isAhead at hf
  refine x_iconst (v := 0) C d_M_isAhead_0 (by decide) ?_
  refine x_istore_n (lv' := [(2, .int (0 : Int32)), (0, .int a0), (1, .int a1)]) C d_M_isAhead_1 rfl (by decide) rfl ?_
  refine x_sub (lv' := [(0, .int a0), (1, .int a1), (2, .int (0 : Int32))]) [1, 2, 0] rfl ?_
  exact wl_M_isAhead_2 C hQ NF a0 a1 (0 : Int32) hf
theorem c_M_isAhead {S : Type} {l : Launch} {D : va_G} {tys : Tys} {wf : S → va_W} {u : S} (a0 : Int32) (a1 : Int32) {r0 : Int32} (hf : f_M_isAhead a0 a1 = some r0) : CtI l y_M_isAhead b_M_isAhead 3 (some .boolean) (rk 0) D tys wf [.int a0, .int a1] u r0 u := ct_ofI (by decide) (Nat.le_of_ble_eq_true rfl) (fun γ _ _ C hQ => w_M_isAhead C hQ a0 a1 hf)
-- ---- PackagePickModel.findCore()V
def b_M_findCore_59 (k10 : Int32 → PS → Option (PS)) (x1 : Int32) (u : PS) : Option (PS) :=
  (f_M_begin x1 u).bind fun r6 =>
  (f_M_finds r6).bind fun r7 =>
  if r7.1 = 0 then
    k10 (x1 + (1 : Int32)) (si r7.2 5 x1)
  else
    k10 (x1 + (1 : Int32)) r7.2
set_option maxRecDepth 100000 in
set_option maxHeartbeats 4000000 in
theorem w_M_findCore_59 {γ : CX} {cI cZ : ClassId} {h : Nat → Nat} {u0 : PS} (C : Cx γ b_M_findCore 3 none "PackagePickModel" (rk 3) [(cI, .int), (cZ, .boolean)]) (hQ : QV γ [(cI, .int), (cZ, .boolean)] (WM cI cZ h) u0) (k10 : Int32 → PS → Option (PS)) (hk10 : ∀ (x1 : Int32) (u : PS), k10 x1 u = some u0 → AtG γ (WM cI cZ h) 3 0 0 10 [(0, .ref (h 0)), (1, .int x1)] [] u) (x1 : Int32) (u : PS) (hf : b_M_findCore_59 k10 x1 u = some u0) : AtG γ (WM cI cZ h) 3 0 0 59 [(0, .ref (h 0)), (1, .int x1)] [] u := by
  unfold b_M_findCore_59 at hf
  refine x_aload_n C d_M_findCore_59 rfl (k := 0) rfl ?_
  refine x_iload_n C d_M_findCore_60 rfl (k := 1) rfl ?_
  obtain ⟨r6, hc6, hf⟩ := Option.bind_eq_some_iff.mp hf
  refine x_callVv (q0 := 0) (ci := 4) (rest := []) C (c_M_begin x1 u hc6) kc_M_begin (rok (by decide) (by decide)) mm_M_111 ms_M_begin ml_M_begin rfl rfl rfl rfl (Nat.le_of_ble_eq_true rfl) d_M_findCore_61 ?_
  refine x_aload_n C d_M_findCore_64 rfl (k := 0) rfl ?_
  obtain ⟨r7, hc7, hf⟩ := Option.bind_eq_some_iff.mp hf
  refine x_callIv (q0 := 0) (ci := 4) (rest := []) C (c_M_finds r6 hc7) kc_M_finds (rok (by decide) (by decide)) mm_M_115 ms_M_finds ml_M_finds rfl rfl rfl rfl (Nat.le_of_ble_eq_true rfl) d_M_findCore_65 ?_
  refine x_if_ne (tgt := 76) C d_M_findCore_68 (by decide) (fun hc => ?_) (fun hc => ?_)
  · rw [if_neg hc] at hf
    refine x_iinc (v := (x1 + (1 : Int32))) (lv' := [(1, .int (x1 + (1 : Int32))), (0, .ref (h 0))]) C d_M_findCore_76 (k := 1) rfl rfl (by decide) rfl ?_
    refine x_goto (tgt := 10) C d_M_findCore_79 (by decide) ?_
    refine x_sub (lv' := [(0, .ref (h 0)), (1, .int (x1 + (1 : Int32)))]) [1, 0] rfl ?_
    exact hk10 (x1 + (1 : Int32)) r7.2 hf
  · rw [if_pos hc] at hf
    refine x_aload_n C d_M_findCore_71 rfl (k := 0) rfl ?_
    refine x_iload_n C d_M_findCore_72 rfl (k := 1) rfl ?_
    refine pM_M_coreMask C mf_M_101 d_M_findCore_73 ?_
    refine x_iinc (v := (x1 + (1 : Int32))) (lv' := [(1, .int (x1 + (1 : Int32))), (0, .ref (h 0))]) C d_M_findCore_76 (k := 1) rfl rfl (by decide) rfl ?_
    refine x_goto (tgt := 10) C d_M_findCore_79 (by decide) ?_
    refine x_sub (lv' := [(0, .ref (h 0)), (1, .int (x1 + (1 : Int32)))]) [1, 0] rfl ?_
    exact hk10 (x1 + (1 : Int32)) (si r7.2 5 x1) hf
def b_M_findCore_10 (k10 : Int32 → PS → Option (PS)) (x1 : Int32) (u : PS) : Option (PS) :=
  if (f_M_all u) ≤ x1 then
    some u
  else
    (f_M_sizeOf x1).bind fun r3 =>
    (f_M_sizeOf (u.1 5)).bind fun r4 =>
    if r4 < r3 then
      k10 (x1 + (1 : Int32)) u
    else
      (f_M_sizeOf (u.1 5)).bind fun r5 =>
      if r3 = r5 then
        (f_M_isAhead x1 (u.1 5)).bind fun r8 =>
        if r8 = 0 then
          k10 (x1 + (1 : Int32)) u
        else
          b_M_findCore_59 k10 x1 u
      else
        b_M_findCore_59 k10 x1 u
set_option maxRecDepth 100000 in
set_option maxHeartbeats 4000000 in
theorem w_M_findCore_10 {γ : CX} {cI cZ : ClassId} {h : Nat → Nat} {u0 : PS} (C : Cx γ b_M_findCore 3 none "PackagePickModel" (rk 3) [(cI, .int), (cZ, .boolean)]) (hQ : QV γ [(cI, .int), (cZ, .boolean)] (WM cI cZ h) u0) (k10 : Int32 → PS → Option (PS)) (hk10 : ∀ (x1 : Int32) (u : PS), k10 x1 u = some u0 → AtG γ (WM cI cZ h) 3 0 0 10 [(0, .ref (h 0)), (1, .int x1)] [] u) (x1 : Int32) (u : PS) (hf : b_M_findCore_10 k10 x1 u = some u0) : AtG γ (WM cI cZ h) 3 0 0 10 [(0, .ref (h 0)), (1, .int x1)] [] u := by
  unfold b_M_findCore_10 at hf
  refine x_iload_n C d_M_findCore_10 rfl (k := 1) rfl ?_
  refine x_aload_n C d_M_findCore_11 rfl (k := 0) rfl ?_
  refine x_callIv (q0 := 0) (ci := 4) (rest := [.int x1]) C (c_M_all u) kc_M_all (rok (by decide) (by decide)) mm_M_97 ms_M_all ml_M_all rfl rfl rfl rfl (Nat.le_of_ble_eq_true rfl) d_M_findCore_12 ?_
  refine x_icmp_ge (tgt := 82) C d_M_findCore_15 (by decide) (fun hc => ?_) (fun hc => ?_)
  · rw [if_pos hc] at hf
    exact x_vret C hQ (Option.some.inj hf) d_M_findCore_82
  · rw [if_neg hc] at hf
    refine x_iload_n C d_M_findCore_18 rfl (k := 1) rfl ?_
    obtain ⟨r3, hc3, hf⟩ := Option.bind_eq_some_iff.mp hf
    refine x_callIs (rest := []) C (c_M_sizeOf x1 hc3) kc_M_sizeOf (rok (by decide) (by decide)) mm_M_104 ms_M_sizeOf rfl rfl (Nat.le_of_ble_eq_true rfl) d_M_findCore_19 ?_
    refine x_istore_n (lv' := [(2, .int r3), (0, .ref (h 0)), (1, .int x1)]) C d_M_findCore_22 rfl (by decide) rfl ?_
    refine x_iload_n C d_M_findCore_23 rfl (k := 0) rfl ?_
    refine x_aload_n C d_M_findCore_24 rfl (k := 1) rfl ?_
    refine gM_M_coreMask (v := (u.1 5)) C mf_M_101 rfl d_M_findCore_25 ?_
    obtain ⟨r4, hc4, hf⟩ := Option.bind_eq_some_iff.mp hf
    refine x_callIs (rest := [.int r3]) C (c_M_sizeOf (u.1 5) hc4) kc_M_sizeOf (rok (by decide) (by decide)) mm_M_104 ms_M_sizeOf rfl rfl (Nat.le_of_ble_eq_true rfl) d_M_findCore_28 ?_
    refine x_icmp_gt (tgt := 76) C d_M_findCore_31 (by decide) (fun hc => ?_) (fun hc => ?_)
    · rw [if_pos hc] at hf
      refine x_iinc (v := (x1 + (1 : Int32))) (lv' := [(1, .int (x1 + (1 : Int32))), (2, .int r3), (0, .ref (h 0))]) C d_M_findCore_76 (k := 2) rfl rfl (by decide) rfl ?_
      refine x_goto (tgt := 10) C d_M_findCore_79 (by decide) ?_
      refine x_sub (lv' := [(0, .ref (h 0)), (1, .int (x1 + (1 : Int32)))]) [2, 0] rfl ?_
      exact hk10 (x1 + (1 : Int32)) u hf
    · rw [if_neg hc] at hf
      refine x_iload_n C d_M_findCore_34 rfl (k := 0) rfl ?_
      refine x_aload_n C d_M_findCore_35 rfl (k := 1) rfl ?_
      refine gM_M_coreMask (v := (u.1 5)) C mf_M_101 rfl d_M_findCore_36 ?_
      obtain ⟨r5, hc5, hf⟩ := Option.bind_eq_some_iff.mp hf
      refine x_callIs (rest := [.int r3]) C (c_M_sizeOf (u.1 5) hc5) kc_M_sizeOf (rok (by decide) (by decide)) mm_M_104 ms_M_sizeOf rfl rfl (Nat.le_of_ble_eq_true rfl) d_M_findCore_39 ?_
      refine x_icmp_ne (tgt := 59) C d_M_findCore_42 (by decide) (fun hc => ?_) (fun hc => ?_)
      · rw [if_neg hc] at hf
        refine x_sub (lv' := [(0, .ref (h 0)), (1, .int x1)]) [1, 2] rfl ?_
        exact w_M_findCore_59 C hQ k10 hk10 x1 u hf
      · rw [if_pos hc] at hf
        refine x_iload_n C d_M_findCore_45 rfl (k := 2) rfl ?_
        refine x_aload_n C d_M_findCore_46 rfl (k := 1) rfl ?_
        refine gM_M_coreMask (v := (u.1 5)) C mf_M_101 rfl d_M_findCore_47 ?_
        obtain ⟨r8, hc8, hf⟩ := Option.bind_eq_some_iff.mp hf
        refine x_callIs (rest := []) C (c_M_isAhead x1 (u.1 5) hc8) kc_M_isAhead (rok (by decide) (by decide)) mm_M_108 ms_M_isAhead rfl rfl (Nat.le_of_ble_eq_true rfl) d_M_findCore_50 ?_
        refine x_if_ne (tgt := 59) C d_M_findCore_53 (by decide) (fun hc => ?_) (fun hc => ?_)
        · rw [if_neg hc] at hf
          refine x_sub (lv' := [(0, .ref (h 0)), (1, .int x1)]) [1, 2] rfl ?_
          exact w_M_findCore_59 C hQ k10 hk10 x1 u hf
        · rw [if_pos hc] at hf
          refine x_goto (tgt := 76) C d_M_findCore_56 (by decide) ?_
          refine x_iinc (v := (x1 + (1 : Int32))) (lv' := [(1, .int (x1 + (1 : Int32))), (2, .int r3), (0, .ref (h 0))]) C d_M_findCore_76 (k := 2) rfl rfl (by decide) rfl ?_
          refine x_goto (tgt := 10) C d_M_findCore_79 (by decide) ?_
          refine x_sub (lv' := [(0, .ref (h 0)), (1, .int (x1 + (1 : Int32)))]) [2, 0] rfl ?_
          exact hk10 (x1 + (1 : Int32)) u hf
def l_M_findCore_10 : Nat → Int32 → PS → Option (PS)
  | 0 => fun _ _ => none
  | n + 1 => b_M_findCore_10 (l_M_findCore_10 n)
theorem wl_M_findCore_10 {γ : CX} {cI cZ : ClassId} {h : Nat → Nat} {u0 : PS} (C : Cx γ b_M_findCore 3 none "PackagePickModel" (rk 3) [(cI, .int), (cZ, .boolean)]) (hQ : QV γ [(cI, .int), (cZ, .boolean)] (WM cI cZ h) u0) (n : Nat) : ∀ (x1 : Int32) (u : PS), l_M_findCore_10 n x1 u = some u0 → AtG γ (WM cI cZ h) 3 0 0 10 [(0, .ref (h 0)), (1, .int x1)] [] u := by
  induction n with
  | zero => intro x1 u hf; cases hf
  | succ n ih => intro x1 u hf; exact w_M_findCore_10 C hQ (l_M_findCore_10 n) ih x1 u hf
def f_M_findCore (u : PS) : Option (PS) :=
  l_M_findCore_10 NF (1 : Int32) (si u 5 (f_M_all u))
set_option maxRecDepth 100000 in
set_option maxHeartbeats 4000000 in
theorem w_M_findCore {γ : CX} {cI cZ : ClassId} {h : Nat → Nat} {u0 : PS} (C : Cx γ b_M_findCore 3 none "PackagePickModel" (rk 3) [(cI, .int), (cZ, .boolean)]) (hQ : QV γ [(cI, .int), (cZ, .boolean)] (WM cI cZ h) u0) (u : PS) (hf : f_M_findCore u = some u0) : AtG γ (WM cI cZ h) 3 0 0 0 [(0, .ref (h 0))] [] u := by
  unfold f_M_findCore at hf
  refine x_aload_n C d_M_findCore_0 rfl (k := 0) rfl ?_
  refine x_aload_n C d_M_findCore_1 rfl (k := 0) rfl ?_
  refine x_callIv (q0 := 0) (ci := 4) (rest := [.ref (h 0)]) C (c_M_all u) kc_M_all (rok (by decide) (by decide)) mm_M_97 ms_M_all ml_M_all rfl rfl rfl rfl (Nat.le_of_ble_eq_true rfl) d_M_findCore_2 ?_
  refine pM_M_coreMask C mf_M_101 d_M_findCore_5 ?_
  refine x_iconst (v := 1) C d_M_findCore_8 (by decide) ?_
  refine x_istore_n (lv' := [(1, .int (1 : Int32)), (0, .ref (h 0))]) C d_M_findCore_9 rfl (by decide) rfl ?_
  refine x_sub (lv' := [(0, .ref (h 0)), (1, .int (1 : Int32))]) [1, 0] rfl ?_
  exact wl_M_findCore_10 C hQ NF (1 : Int32) (si u 5 (f_M_all u)) hf
theorem c_M_findCore {l : Launch} {D : va_G} {cI cZ : ClassId} {h : Nat → Nat} (u : PS) {u0 : PS} (hf : f_M_findCore u = some u0) : CtV l y_M_findCore b_M_findCore 3 none (rk 3) D [(cI, .int), (cZ, .boolean)] (WM cI cZ h) [.ref (h 0)] u u0 := ct_ofV (by decide) (Nat.le_of_ble_eq_true rfl) (fun γ _ _ C hQ => w_M_findCore C hQ u hf)
-- ---- PackagePickModel.solve(I)I
def b_M_solve_9 (u : PS) : Option (Int32 × PS) :=
  some ((f_M_raise (1 : Int32) u).1, (f_M_raise (1 : Int32) u).2)
set_option maxRecDepth 100000 in
set_option maxHeartbeats 4000000 in
theorem w_M_solve_9 {γ : CX} {cI cZ : ClassId} {h : Nat → Nat} {r0 : Int32} {u0 : PS} (C : Cx γ b_M_solve 5 (some .int) "PackagePickModel" (rk 4) [(cI, .int), (cZ, .boolean)]) (hQ : QI γ [(cI, .int), (cZ, .boolean)] (WM cI cZ h) r0 u0) (u : PS) (hf : b_M_solve_9 u = some (r0, u0)) : AtG γ (WM cI cZ h) 5 0 0 9 [(0, .ref (h 0))] [] u := by
  unfold b_M_solve_9 at hf
  refine x_aload_n C d_M_solve_9 rfl (k := 0) rfl ?_
  refine x_iconst (v := 1) C d_M_solve_10 (by decide) ?_
  refine x_callIv (q0 := 0) (ci := 4) (rest := []) C (c_M_raise (1 : Int32) u) kc_M_raise (rok (by decide) (by decide)) mm_M_118 ms_M_raise ml_M_raise rfl rfl rfl rfl (Nat.le_of_ble_eq_true rfl) d_M_solve_11 ?_
  exact x_iret C hQ (Prod.mk.inj (Option.some.inj hf)).1 (Prod.mk.inj (Option.some.inj hf)).2 d_M_solve_14
def b_M_solve_112 (k112 : Int32 → Int32 → PS → Option (Int32 × PS)) (x3 : Int32) (x4 : Int32) (u : PS) : Option (Int32 × PS) :=
  if (7 : Int32) ≤ x4 then
    some (x3, u)
  else
    ck (inb x4 7) <|
    ck (inb x4 7) <|
    ck (inb x4 7) <|
    if (u.2 14 x4.toNatClampNeg) = (-1 : Int32) then
      k112 (x3 + (0 : Int32)) (x4 + (1 : Int32)) (sa u 12 x4.toNatClampNeg (u.2 14 x4.toNatClampNeg))
    else
      k112 (x3 + (1 : Int32)) (x4 + (1 : Int32)) (sa u 12 x4.toNatClampNeg (u.2 14 x4.toNatClampNeg))
set_option maxRecDepth 100000 in
set_option maxHeartbeats 4000000 in
theorem w_M_solve_112 {γ : CX} {cI cZ : ClassId} {h : Nat → Nat} {r0 : Int32} {u0 : PS} (C : Cx γ b_M_solve 5 (some .int) "PackagePickModel" (rk 4) [(cI, .int), (cZ, .boolean)]) (hQ : QI γ [(cI, .int), (cZ, .boolean)] (WM cI cZ h) r0 u0) (k112 : Int32 → Int32 → PS → Option (Int32 × PS)) (hk112 : ∀ (x3 : Int32) (x4 : Int32) (u : PS), k112 x3 x4 u = some (r0, u0) → AtG γ (WM cI cZ h) 5 0 0 112 [(0, .ref (h 0)), (3, .int x3), (4, .int x4)] [] u) (x3 : Int32) (x4 : Int32) (u : PS) (hf : b_M_solve_112 k112 x3 x4 u = some (r0, u0)) : AtG γ (WM cI cZ h) 5 0 0 112 [(0, .ref (h 0)), (3, .int x3), (4, .int x4)] [] u := by
  unfold b_M_solve_112 at hf
  refine x_iload C d_M_solve_112 (k := 2) rfl ?_
  refine x_bipush (v := 7) C d_M_solve_114 (by decide) ?_
  refine x_icmp_ge (tgt := 158) C d_M_solve_116 (by decide) (fun hc => ?_) (fun hc => ?_)
  · rw [if_pos hc] at hf
    refine x_iload_n C d_M_solve_158 rfl (k := 1) rfl ?_
    exact x_iret C hQ (Prod.mk.inj (Option.some.inj hf)).1 (Prod.mk.inj (Option.some.inj hf)).2 d_M_solve_159
  · rw [if_neg hc] at hf
    refine x_aload_n C d_M_solve_119 rfl (k := 0) rfl ?_
    refine gM_M_told C mf_M_47 d_M_solve_120 ?_
    refine x_iload C d_M_solve_123 (k := 2) rfl ?_
    refine x_aload_n C d_M_solve_125 rfl (k := 0) rfl ?_
    refine gM_M_best C mf_M_53 d_M_solve_126 ?_
    refine x_iload C d_M_solve_129 (k := 2) rfl ?_
    obtain ⟨hin, hf⟩ := ck_some hf
    refine aldM_15 (v := (u.2 14 x4.toNatClampNeg)) C hin rfl d_M_solve_131 ?_
    obtain ⟨hin, hf⟩ := ck_some hf
    refine astM_13 C hin d_M_solve_132 ?_
    refine x_iload_n C d_M_solve_133 rfl (k := 1) rfl ?_
    refine x_aload_n C d_M_solve_134 rfl (k := 0) rfl ?_
    refine gM_M_best C mf_M_53 d_M_solve_135 ?_
    refine x_iload C d_M_solve_138 (k := 2) rfl ?_
    obtain ⟨hin, hf⟩ := ck_some hf
    refine aldM_15 (v := (u.2 14 x4.toNatClampNeg)) C hin rfl d_M_solve_140 ?_
    refine x_iconst (v := -1) C d_M_solve_141 (by decide) ?_
    refine x_icmp_eq (tgt := 149) C d_M_solve_142 (by decide) (fun hc => ?_) (fun hc => ?_)
    · rw [if_pos hc] at hf
      refine x_iconst (v := 0) C d_M_solve_149 (by decide) ?_
      refine x_iadd C d_M_solve_150 ?_
      refine x_istore_n (lv' := [(3, .int (x3 + (0 : Int32))), (0, .ref (h 0)), (4, .int x4)]) C d_M_solve_151 rfl (by decide) rfl ?_
      refine x_iinc (v := (x4 + (1 : Int32))) (lv' := [(4, .int (x4 + (1 : Int32))), (3, .int (x3 + (0 : Int32))), (0, .ref (h 0))]) C d_M_solve_152 (k := 2) rfl rfl (by decide) rfl ?_
      refine x_goto (tgt := 112) C d_M_solve_155 (by decide) ?_
      refine x_sub (lv' := [(0, .ref (h 0)), (3, .int (x3 + (0 : Int32))), (4, .int (x4 + (1 : Int32)))]) [2, 1, 0] rfl ?_
      exact hk112 (x3 + (0 : Int32)) (x4 + (1 : Int32)) (sa u 12 x4.toNatClampNeg (u.2 14 x4.toNatClampNeg)) hf
    · rw [if_neg hc] at hf
      refine x_iconst (v := 1) C d_M_solve_145 (by decide) ?_
      refine x_goto (tgt := 150) C d_M_solve_146 (by decide) ?_
      refine x_iadd C d_M_solve_150 ?_
      refine x_istore_n (lv' := [(3, .int (x3 + (1 : Int32))), (0, .ref (h 0)), (4, .int x4)]) C d_M_solve_151 rfl (by decide) rfl ?_
      refine x_iinc (v := (x4 + (1 : Int32))) (lv' := [(4, .int (x4 + (1 : Int32))), (3, .int (x3 + (1 : Int32))), (0, .ref (h 0))]) C d_M_solve_152 (k := 2) rfl rfl (by decide) rfl ?_
      refine x_goto (tgt := 112) C d_M_solve_155 (by decide) ?_
      refine x_sub (lv' := [(0, .ref (h 0)), (3, .int (x3 + (1 : Int32))), (4, .int (x4 + (1 : Int32)))]) [2, 1, 0] rfl ?_
      exact hk112 (x3 + (1 : Int32)) (x4 + (1 : Int32)) (sa u 12 x4.toNatClampNeg (u.2 14 x4.toNatClampNeg)) hf
def l_M_solve_112 : Nat → Int32 → Int32 → PS → Option (Int32 × PS)
  | 0 => fun _ _ _ => none
  | n + 1 => b_M_solve_112 (l_M_solve_112 n)
theorem wl_M_solve_112 {γ : CX} {cI cZ : ClassId} {h : Nat → Nat} {r0 : Int32} {u0 : PS} (C : Cx γ b_M_solve 5 (some .int) "PackagePickModel" (rk 4) [(cI, .int), (cZ, .boolean)]) (hQ : QI γ [(cI, .int), (cZ, .boolean)] (WM cI cZ h) r0 u0) (n : Nat) : ∀ (x3 : Int32) (x4 : Int32) (u : PS), l_M_solve_112 n x3 x4 u = some (r0, u0) → AtG γ (WM cI cZ h) 5 0 0 112 [(0, .ref (h 0)), (3, .int x3), (4, .int x4)] [] u := by
  induction n with
  | zero => intro x3 x4 u hf; cases hf
  | succ n ih => intro x3 x4 u hf; exact w_M_solve_112 C hQ (l_M_solve_112 n) ih x3 x4 u hf
def b_M_solve_86 (x2 : Int32) (u : PS) : Option (Int32 × PS) :=
  if x2 = (100 : Int32) then
    (f_M_findCore u).bind fun r4 =>
    some ((f_M_raise (2 : Int32) r4).1, (f_M_raise (2 : Int32) r4).2)
  else
    l_M_solve_112 NF (0 : Int32) (0 : Int32) (si u 0 (0 : Int32))
set_option maxRecDepth 100000 in
set_option maxHeartbeats 4000000 in
theorem w_M_solve_86 {γ : CX} {cI cZ : ClassId} {h : Nat → Nat} {r0 : Int32} {u0 : PS} (C : Cx γ b_M_solve 5 (some .int) "PackagePickModel" (rk 4) [(cI, .int), (cZ, .boolean)]) (hQ : QI γ [(cI, .int), (cZ, .boolean)] (WM cI cZ h) r0 u0) (x2 : Int32) (u : PS) (hf : b_M_solve_86 x2 u = some (r0, u0)) : AtG γ (WM cI cZ h) 5 0 0 86 [(0, .ref (h 0)), (2, .int x2)] [] u := by
  unfold b_M_solve_86 at hf
  refine x_iload_n C d_M_solve_86 rfl (k := 1) rfl ?_
  refine x_bipush (v := 100) C d_M_solve_87 (by decide) ?_
  refine x_icmp_ne (tgt := 102) C d_M_solve_89 (by decide) (fun hc => ?_) (fun hc => ?_)
  · rw [if_neg hc] at hf
    refine x_aload_n C d_M_solve_102 rfl (k := 0) rfl ?_
    refine x_iconst (v := 0) C d_M_solve_103 (by decide) ?_
    refine pM_M_thrown C mf_M_56 d_M_solve_104 ?_
    refine x_iconst (v := 0) C d_M_solve_107 (by decide) ?_
    refine x_istore_n (lv' := [(3, .int (0 : Int32)), (0, .ref (h 0)), (2, .int x2)]) C d_M_solve_108 rfl (by decide) rfl ?_
    refine x_iconst (v := 0) C d_M_solve_109 (by decide) ?_
    refine x_istore (lv' := [(4, .int (0 : Int32)), (3, .int (0 : Int32)), (0, .ref (h 0)), (2, .int x2)]) C d_M_solve_110 (by decide) rfl ?_
    refine x_sub (lv' := [(0, .ref (h 0)), (3, .int (0 : Int32)), (4, .int (0 : Int32))]) [2, 1, 0] rfl ?_
    exact wl_M_solve_112 C hQ NF (0 : Int32) (0 : Int32) (si u 0 (0 : Int32)) hf
  · rw [if_pos hc] at hf
    refine x_aload_n C d_M_solve_92 rfl (k := 0) rfl ?_
    obtain ⟨r4, hc4, hf⟩ := Option.bind_eq_some_iff.mp hf
    refine x_callVv (q0 := 0) (ci := 4) (rest := []) C (c_M_findCore u hc4) kc_M_findCore (rok (by decide) (by decide)) mm_M_124 ms_M_findCore ml_M_findCore rfl rfl rfl rfl (Nat.le_of_ble_eq_true rfl) d_M_solve_93 ?_
    refine x_aload_n C d_M_solve_96 rfl (k := 0) rfl ?_
    refine x_iconst (v := 2) C d_M_solve_97 (by decide) ?_
    refine x_callIv (q0 := 0) (ci := 4) (rest := []) C (c_M_raise (2 : Int32) r4) kc_M_raise (rok (by decide) (by decide)) mm_M_118 ms_M_raise ml_M_raise rfl rfl rfl rfl (Nat.le_of_ble_eq_true rfl) d_M_solve_98 ?_
    exact x_iret C hQ (Prod.mk.inj (Option.some.inj hf)).1 (Prod.mk.inj (Option.some.inj hf)).2 d_M_solve_101
def b_M_solve_56 (k26 : Int32 → Int32 → PS → Option (Int32 × PS)) (k56 : Int32 → Int32 → Int32 → PS → Option (Int32 × PS)) (x1 : Int32) (x2 : Int32) (x4 : Int32) (u : PS) : Option (Int32 × PS) :=
  if (7 : Int32) ≤ x4 then
    k26 x1 x2 u
  else
    ck (inb x4 7) <|
    ck (inb x4 7) <|
    k56 x1 x2 (x4 + (1 : Int32)) (sa u 14 x4.toNatClampNeg (u.2 10 x4.toNatClampNeg))
set_option maxRecDepth 100000 in
set_option maxHeartbeats 4000000 in
theorem w_M_solve_56 {γ : CX} {cI cZ : ClassId} {h : Nat → Nat} {r0 : Int32} {u0 : PS} (C : Cx γ b_M_solve 5 (some .int) "PackagePickModel" (rk 4) [(cI, .int), (cZ, .boolean)]) (hQ : QI γ [(cI, .int), (cZ, .boolean)] (WM cI cZ h) r0 u0) (k26 : Int32 → Int32 → PS → Option (Int32 × PS)) (k56 : Int32 → Int32 → Int32 → PS → Option (Int32 × PS)) (hk26 : ∀ (x1 : Int32) (x2 : Int32) (u : PS), k26 x1 x2 u = some (r0, u0) → AtG γ (WM cI cZ h) 5 0 0 26 [(0, .ref (h 0)), (1, .int x1), (2, .int x2)] [] u) (hk56 : ∀ (x1 : Int32) (x2 : Int32) (x4 : Int32) (u : PS), k56 x1 x2 x4 u = some (r0, u0) → AtG γ (WM cI cZ h) 5 0 0 56 [(0, .ref (h 0)), (1, .int x1), (2, .int x2), (4, .int x4)] [] u) (x1 : Int32) (x2 : Int32) (x4 : Int32) (u : PS) (hf : b_M_solve_56 k26 k56 x1 x2 x4 u = some (r0, u0)) : AtG γ (WM cI cZ h) 5 0 0 56 [(0, .ref (h 0)), (1, .int x1), (2, .int x2), (4, .int x4)] [] u := by
  unfold b_M_solve_56 at hf
  refine x_iload C d_M_solve_56 (k := 3) rfl ?_
  refine x_bipush (v := 7) C d_M_solve_58 (by decide) ?_
  refine x_icmp_ge (tgt := 83) C d_M_solve_60 (by decide) (fun hc => ?_) (fun hc => ?_)
  · rw [if_pos hc] at hf
    refine x_goto (tgt := 26) C d_M_solve_83 (by decide) ?_
    refine x_sub (lv' := [(0, .ref (h 0)), (1, .int x1), (2, .int x2)]) [0, 1, 2] rfl ?_
    exact hk26 x1 x2 u hf
  · rw [if_neg hc] at hf
    refine x_aload_n C d_M_solve_63 rfl (k := 0) rfl ?_
    refine gM_M_best C mf_M_53 d_M_solve_64 ?_
    refine x_iload C d_M_solve_67 (k := 3) rfl ?_
    refine x_aload_n C d_M_solve_69 rfl (k := 0) rfl ?_
    refine gM_M_pick C mf_M_41 d_M_solve_70 ?_
    refine x_iload C d_M_solve_73 (k := 3) rfl ?_
    obtain ⟨hin, hf⟩ := ck_some hf
    refine aldM_11 (v := (u.2 10 x4.toNatClampNeg)) C hin rfl d_M_solve_75 ?_
    obtain ⟨hin, hf⟩ := ck_some hf
    refine astM_15 C hin d_M_solve_76 ?_
    refine x_iinc (v := (x4 + (1 : Int32))) (lv' := [(4, .int (x4 + (1 : Int32))), (0, .ref (h 0)), (1, .int x1), (2, .int x2)]) C d_M_solve_77 (k := 3) rfl rfl (by decide) rfl ?_
    refine x_goto (tgt := 56) C d_M_solve_80 (by decide) ?_
    refine x_sub (lv' := [(0, .ref (h 0)), (1, .int x1), (2, .int x2), (4, .int (x4 + (1 : Int32)))]) [1, 2, 3, 0] rfl ?_
    exact hk56 x1 x2 (x4 + (1 : Int32)) (sa u 14 x4.toNatClampNeg (u.2 10 x4.toNatClampNeg)) hf
def l_M_solve_56 (k26 : Int32 → Int32 → PS → Option (Int32 × PS)) : Nat → Int32 → Int32 → Int32 → PS → Option (Int32 × PS)
  | 0 => fun _ _ _ _ => none
  | n + 1 => b_M_solve_56 k26 (l_M_solve_56 k26 n)
theorem wl_M_solve_56 {γ : CX} {cI cZ : ClassId} {h : Nat → Nat} {r0 : Int32} {u0 : PS} (C : Cx γ b_M_solve 5 (some .int) "PackagePickModel" (rk 4) [(cI, .int), (cZ, .boolean)]) (hQ : QI γ [(cI, .int), (cZ, .boolean)] (WM cI cZ h) r0 u0) (k26 : Int32 → Int32 → PS → Option (Int32 × PS)) (hk26 : ∀ (x1 : Int32) (x2 : Int32) (u : PS), k26 x1 x2 u = some (r0, u0) → AtG γ (WM cI cZ h) 5 0 0 26 [(0, .ref (h 0)), (1, .int x1), (2, .int x2)] [] u) (n : Nat) : ∀ (x1 : Int32) (x2 : Int32) (x4 : Int32) (u : PS), l_M_solve_56 k26 n x1 x2 x4 u = some (r0, u0) → AtG γ (WM cI cZ h) 5 0 0 56 [(0, .ref (h 0)), (1, .int x1), (2, .int x2), (4, .int x4)] [] u := by
  induction n with
  | zero => intro x1 x2 x4 u hf; cases hf
  | succ n ih => intro x1 x2 x4 u hf; exact w_M_solve_56 C hQ k26 (l_M_solve_56 k26 n) hk26 ih x1 x2 x4 u hf
def b_M_solve_26 (k26 : Int32 → Int32 → PS → Option (Int32 × PS)) (x1 : Int32) (x2 : Int32) (u : PS) : Option (Int32 × PS) :=
  if x2 ≤ 0 then
    b_M_solve_86 x2 u
  else
    (f_M_finds u).bind fun r6 =>
    if r6.1 = 0 then
      b_M_solve_86 x2 r6.2
    else
      (f_M_cost x1 r6.2).bind fun r7 =>
      if r7 < x2 then
        l_M_solve_56 k26 NF x1 r7 (0 : Int32) r6.2
      else
        k26 x1 x2 r6.2
set_option maxRecDepth 100000 in
set_option maxHeartbeats 4000000 in
theorem w_M_solve_26 {γ : CX} {cI cZ : ClassId} {h : Nat → Nat} {r0 : Int32} {u0 : PS} (C : Cx γ b_M_solve 5 (some .int) "PackagePickModel" (rk 4) [(cI, .int), (cZ, .boolean)]) (hQ : QI γ [(cI, .int), (cZ, .boolean)] (WM cI cZ h) r0 u0) (k26 : Int32 → Int32 → PS → Option (Int32 × PS)) (hk26 : ∀ (x1 : Int32) (x2 : Int32) (u : PS), k26 x1 x2 u = some (r0, u0) → AtG γ (WM cI cZ h) 5 0 0 26 [(0, .ref (h 0)), (1, .int x1), (2, .int x2)] [] u) (x1 : Int32) (x2 : Int32) (u : PS) (hf : b_M_solve_26 k26 x1 x2 u = some (r0, u0)) : AtG γ (WM cI cZ h) 5 0 0 26 [(0, .ref (h 0)), (1, .int x1), (2, .int x2)] [] u := by
  unfold b_M_solve_26 at hf
  refine x_iload_n C d_M_solve_26 rfl (k := 2) rfl ?_
  refine x_if_le (tgt := 86) C d_M_solve_27 (by decide) (fun hc => ?_) (fun hc => ?_)
  · rw [if_pos hc] at hf
    refine x_sub (lv' := [(0, .ref (h 0)), (2, .int x2)]) [0, 2] rfl ?_
    exact w_M_solve_86 C hQ x2 u hf
  · rw [if_neg hc] at hf
    refine x_aload_n C d_M_solve_30 rfl (k := 0) rfl ?_
    obtain ⟨r6, hc6, hf⟩ := Option.bind_eq_some_iff.mp hf
    refine x_callIv (q0 := 0) (ci := 4) (rest := []) C (c_M_finds u hc6) kc_M_finds (rok (by decide) (by decide)) mm_M_115 ms_M_finds ml_M_finds rfl rfl rfl rfl (Nat.le_of_ble_eq_true rfl) d_M_solve_31 ?_
    refine x_if_eq (tgt := 86) C d_M_solve_34 (by decide) (fun hc => ?_) (fun hc => ?_)
    · rw [if_pos hc] at hf
      refine x_sub (lv' := [(0, .ref (h 0)), (2, .int x2)]) [0, 2] rfl ?_
      exact w_M_solve_86 C hQ x2 r6.2 hf
    · rw [if_neg hc] at hf
      refine x_aload_n C d_M_solve_37 rfl (k := 0) rfl ?_
      refine x_iload_n C d_M_solve_38 rfl (k := 1) rfl ?_
      obtain ⟨r7, hc7, hf⟩ := Option.bind_eq_some_iff.mp hf
      refine x_callIv (q0 := 0) (ci := 4) (rest := []) C (c_M_cost x1 r6.2 hc7) kc_M_cost (rok (by decide) (by decide)) mm_M_121 ms_M_cost ml_M_cost rfl rfl rfl rfl (Nat.le_of_ble_eq_true rfl) d_M_solve_39 ?_
      refine x_istore_n (lv' := [(3, .int r7), (0, .ref (h 0)), (1, .int x1), (2, .int x2)]) C d_M_solve_42 rfl (by decide) rfl ?_
      refine x_iload_n C d_M_solve_43 rfl (k := 0) rfl ?_
      refine x_iload_n C d_M_solve_44 rfl (k := 3) rfl ?_
      refine x_icmp_lt (tgt := 51) C d_M_solve_45 (by decide) (fun hc => ?_) (fun hc => ?_)
      · rw [if_pos hc] at hf
        refine x_iload_n C d_M_solve_51 rfl (k := 0) rfl ?_
        refine x_istore_n (lv' := [(2, .int r7), (3, .int r7), (0, .ref (h 0)), (1, .int x1)]) C d_M_solve_52 rfl (by decide) rfl ?_
        refine x_iconst (v := 0) C d_M_solve_53 (by decide) ?_
        refine x_istore (lv' := [(4, .int (0 : Int32)), (2, .int r7), (3, .int r7), (0, .ref (h 0)), (1, .int x1)]) C d_M_solve_54 (by decide) rfl ?_
        refine x_sub (lv' := [(0, .ref (h 0)), (1, .int x1), (2, .int r7), (4, .int (0 : Int32))]) [3, 4, 1, 0] rfl ?_
        exact wl_M_solve_56 C hQ k26 hk26 NF x1 r7 (0 : Int32) r6.2 hf
      · rw [if_neg hc] at hf
        refine x_goto (tgt := 26) C d_M_solve_48 (by decide) ?_
        refine x_sub (lv' := [(0, .ref (h 0)), (1, .int x1), (2, .int x2)]) [1, 2, 3] rfl ?_
        exact hk26 x1 x2 r6.2 hf
def l_M_solve_26 : Nat → Int32 → Int32 → PS → Option (Int32 × PS)
  | 0 => fun _ _ _ => none
  | n + 1 => b_M_solve_26 (l_M_solve_26 n)
theorem wl_M_solve_26 {γ : CX} {cI cZ : ClassId} {h : Nat → Nat} {r0 : Int32} {u0 : PS} (C : Cx γ b_M_solve 5 (some .int) "PackagePickModel" (rk 4) [(cI, .int), (cZ, .boolean)]) (hQ : QI γ [(cI, .int), (cZ, .boolean)] (WM cI cZ h) r0 u0) (n : Nat) : ∀ (x1 : Int32) (x2 : Int32) (u : PS), l_M_solve_26 n x1 x2 u = some (r0, u0) → AtG γ (WM cI cZ h) 5 0 0 26 [(0, .ref (h 0)), (1, .int x1), (2, .int x2)] [] u := by
  induction n with
  | zero => intro x1 x2 u hf; cases hf
  | succ n ih => intro x1 x2 u hf; exact w_M_solve_26 C hQ (l_M_solve_26 n) ih x1 x2 u hf
def f_M_solve (a1 : Int32) (u : PS) : Option (Int32 × PS) :=
  if a1 < 0 then
    b_M_solve_9 u
  else
    if a1 ≤ (2 : Int32) then
      (f_M_begin (f_M_all u) u).bind fun r3 =>
      l_M_solve_26 NF a1 (100 : Int32) r3
    else
      b_M_solve_9 u
set_option maxRecDepth 100000 in
set_option maxHeartbeats 4000000 in
theorem w_M_solve {γ : CX} {cI cZ : ClassId} {h : Nat → Nat} {r0 : Int32} {u0 : PS} (C : Cx γ b_M_solve 5 (some .int) "PackagePickModel" (rk 4) [(cI, .int), (cZ, .boolean)]) (hQ : QI γ [(cI, .int), (cZ, .boolean)] (WM cI cZ h) r0 u0) (a1 : Int32) (u : PS) (hf : f_M_solve a1 u = some (r0, u0)) : AtG γ (WM cI cZ h) 5 0 0 0 [(0, .ref (h 0)), (1, .int a1)] [] u := by
  unfold f_M_solve at hf
  refine x_iload_n C d_M_solve_0 rfl (k := 1) rfl ?_
  refine x_if_lt (tgt := 9) C d_M_solve_1 (by decide) (fun hc => ?_) (fun hc => ?_)
  · rw [if_pos hc] at hf
    refine x_sub (lv' := [(0, .ref (h 0))]) [0] rfl ?_
    exact w_M_solve_9 C hQ u hf
  · rw [if_neg hc] at hf
    refine x_iload_n C d_M_solve_4 rfl (k := 1) rfl ?_
    refine x_iconst (v := 2) C d_M_solve_5 (by decide) ?_
    refine x_icmp_le (tgt := 15) C d_M_solve_6 (by decide) (fun hc => ?_) (fun hc => ?_)
    · rw [if_pos hc] at hf
      refine x_bipush (v := 100) C d_M_solve_15 (by decide) ?_
      refine x_istore_n (lv' := [(2, .int (100 : Int32)), (0, .ref (h 0)), (1, .int a1)]) C d_M_solve_17 rfl (by decide) rfl ?_
      refine x_aload_n C d_M_solve_18 rfl (k := 1) rfl ?_
      refine x_aload_n C d_M_solve_19 rfl (k := 1) rfl ?_
      refine x_callIv (q0 := 0) (ci := 4) (rest := [.ref (h 0)]) C (c_M_all u) kc_M_all (rok (by decide) (by decide)) mm_M_97 ms_M_all ml_M_all rfl rfl rfl rfl (Nat.le_of_ble_eq_true rfl) d_M_solve_20 ?_
      obtain ⟨r3, hc3, hf⟩ := Option.bind_eq_some_iff.mp hf
      refine x_callVv (q0 := 0) (ci := 4) (rest := []) C (c_M_begin (f_M_all u) u hc3) kc_M_begin (rok (by decide) (by decide)) mm_M_111 ms_M_begin ml_M_begin rfl rfl rfl rfl (Nat.le_of_ble_eq_true rfl) d_M_solve_23 ?_
      refine x_sub (lv' := [(0, .ref (h 0)), (1, .int a1), (2, .int (100 : Int32))]) [1, 2, 0] rfl ?_
      exact wl_M_solve_26 C hQ NF a1 (100 : Int32) r3 hf
    · rw [if_neg hc] at hf
      refine x_sub (lv' := [(0, .ref (h 0))]) [0] rfl ?_
      exact w_M_solve_9 C hQ u hf
theorem c_M_solve {l : Launch} {D : va_G} {cI cZ : ClassId} {h : Nat → Nat} (a1 : Int32) (u : PS) {r0 : Int32 × PS} (hf : f_M_solve a1 u = some r0) : CtI l y_M_solve b_M_solve 5 (some .int) (rk 4) D [(cI, .int), (cZ, .boolean)] (WM cI cZ h) [.ref (h 0), .int a1] u r0.1 r0.2 := ct_ofI (by decide) (Nat.le_of_ble_eq_true rfl) (fun γ _ _ C hQ => w_M_solve C hQ a1 u hf)
-- ---- PackagePickModel.differ()I
def b_M_differ_4 (u : PS) (k4 : Int32 → Int32 → Option (Int32)) (x1 : Int32) (x2 : Int32) : Option (Int32) :=
  if (7 : Int32) ≤ x2 then
    some x1
  else
    ck (inb x2 7) <|
    ck (inb x2 7) <|
    if (u.2 12 x2.toNatClampNeg) = (u.2 13 x2.toNatClampNeg) then
      k4 (x1 + (0 : Int32)) (x2 + (1 : Int32))
    else
      k4 (x1 + (1 : Int32)) (x2 + (1 : Int32))
set_option maxRecDepth 100000 in
set_option maxHeartbeats 4000000 in
theorem w_M_differ_4 {γ : CX} {cI cZ : ClassId} {h : Nat → Nat} {u : PS} {r0 : Int32} (C : Cx γ b_M_differ 3 (some .int) "PackagePickModel" (rk 0) [(cI, .int), (cZ, .boolean)]) (hQ : QI γ [(cI, .int), (cZ, .boolean)] (WM cI cZ h) r0 u) (k4 : Int32 → Int32 → Option (Int32)) (hk4 : ∀ (x1 : Int32) (x2 : Int32), k4 x1 x2 = some r0 → AtG γ (WM cI cZ h) 3 0 0 4 [(0, .ref (h 0)), (1, .int x1), (2, .int x2)] [] u) (x1 : Int32) (x2 : Int32) (hf : b_M_differ_4 u k4 x1 x2 = some r0) : AtG γ (WM cI cZ h) 3 0 0 4 [(0, .ref (h 0)), (1, .int x1), (2, .int x2)] [] u := by
  unfold b_M_differ_4 at hf
  refine x_iload_n C d_M_differ_4 rfl (k := 2) rfl ?_
  refine x_bipush (v := 7) C d_M_differ_5 (by decide) ?_
  refine x_icmp_ge (tgt := 39) C d_M_differ_7 (by decide) (fun hc => ?_) (fun hc => ?_)
  · rw [if_pos hc] at hf
    refine x_iload_n C d_M_differ_39 rfl (k := 1) rfl ?_
    exact x_iret C hQ (Option.some.inj hf) rfl d_M_differ_40
  · rw [if_neg hc] at hf
    refine x_iload_n C d_M_differ_10 rfl (k := 1) rfl ?_
    refine x_aload_n C d_M_differ_11 rfl (k := 0) rfl ?_
    refine gM_M_told C mf_M_47 d_M_differ_12 ?_
    refine x_iload_n C d_M_differ_15 rfl (k := 2) rfl ?_
    obtain ⟨hin, hf⟩ := ck_some hf
    refine aldM_13 (v := (u.2 12 x2.toNatClampNeg)) C hin rfl d_M_differ_16 ?_
    refine x_aload_n C d_M_differ_17 rfl (k := 0) rfl ?_
    refine gM_M_kept C mf_M_50 d_M_differ_18 ?_
    refine x_iload_n C d_M_differ_21 rfl (k := 2) rfl ?_
    obtain ⟨hin, hf⟩ := ck_some hf
    refine aldM_14 (v := (u.2 13 x2.toNatClampNeg)) C hin rfl d_M_differ_22 ?_
    refine x_icmp_eq (tgt := 30) C d_M_differ_23 (by decide) (fun hc => ?_) (fun hc => ?_)
    · rw [if_pos hc] at hf
      refine x_iconst (v := 0) C d_M_differ_30 (by decide) ?_
      refine x_iadd C d_M_differ_31 ?_
      refine x_istore_n (lv' := [(1, .int (x1 + (0 : Int32))), (0, .ref (h 0)), (2, .int x2)]) C d_M_differ_32 rfl (by decide) rfl ?_
      refine x_iinc (v := (x2 + (1 : Int32))) (lv' := [(2, .int (x2 + (1 : Int32))), (1, .int (x1 + (0 : Int32))), (0, .ref (h 0))]) C d_M_differ_33 (k := 2) rfl rfl (by decide) rfl ?_
      refine x_goto (tgt := 4) C d_M_differ_36 (by decide) ?_
      refine x_sub (lv' := [(0, .ref (h 0)), (1, .int (x1 + (0 : Int32))), (2, .int (x2 + (1 : Int32)))]) [2, 1, 0] rfl ?_
      exact hk4 (x1 + (0 : Int32)) (x2 + (1 : Int32)) hf
    · rw [if_neg hc] at hf
      refine x_iconst (v := 1) C d_M_differ_26 (by decide) ?_
      refine x_goto (tgt := 31) C d_M_differ_27 (by decide) ?_
      refine x_iadd C d_M_differ_31 ?_
      refine x_istore_n (lv' := [(1, .int (x1 + (1 : Int32))), (0, .ref (h 0)), (2, .int x2)]) C d_M_differ_32 rfl (by decide) rfl ?_
      refine x_iinc (v := (x2 + (1 : Int32))) (lv' := [(2, .int (x2 + (1 : Int32))), (1, .int (x1 + (1 : Int32))), (0, .ref (h 0))]) C d_M_differ_33 (k := 2) rfl rfl (by decide) rfl ?_
      refine x_goto (tgt := 4) C d_M_differ_36 (by decide) ?_
      refine x_sub (lv' := [(0, .ref (h 0)), (1, .int (x1 + (1 : Int32))), (2, .int (x2 + (1 : Int32)))]) [2, 1, 0] rfl ?_
      exact hk4 (x1 + (1 : Int32)) (x2 + (1 : Int32)) hf
def l_M_differ_4 (u : PS) : Nat → Int32 → Int32 → Option (Int32)
  | 0 => fun _ _ => none
  | n + 1 => b_M_differ_4 u (l_M_differ_4 u n)
theorem wl_M_differ_4 {γ : CX} {cI cZ : ClassId} {h : Nat → Nat} {u : PS} {r0 : Int32} (C : Cx γ b_M_differ 3 (some .int) "PackagePickModel" (rk 0) [(cI, .int), (cZ, .boolean)]) (hQ : QI γ [(cI, .int), (cZ, .boolean)] (WM cI cZ h) r0 u) (n : Nat) : ∀ (x1 : Int32) (x2 : Int32), l_M_differ_4 u n x1 x2 = some r0 → AtG γ (WM cI cZ h) 3 0 0 4 [(0, .ref (h 0)), (1, .int x1), (2, .int x2)] [] u := by
  induction n with
  | zero => intro x1 x2 hf; cases hf
  | succ n ih => intro x1 x2 hf; exact w_M_differ_4 C hQ (l_M_differ_4 u n) ih x1 x2 hf
def f_M_differ (u : PS) : Option (Int32) :=
  l_M_differ_4 u NF (0 : Int32) (0 : Int32)
set_option maxRecDepth 100000 in
set_option maxHeartbeats 4000000 in
theorem w_M_differ {γ : CX} {cI cZ : ClassId} {h : Nat → Nat} {u : PS} {r0 : Int32} (C : Cx γ b_M_differ 3 (some .int) "PackagePickModel" (rk 0) [(cI, .int), (cZ, .boolean)]) (hQ : QI γ [(cI, .int), (cZ, .boolean)] (WM cI cZ h) r0 u) (hf : f_M_differ u = some r0) : AtG γ (WM cI cZ h) 3 0 0 0 [(0, .ref (h 0))] [] u := by
  unfold f_M_differ at hf
  refine x_iconst (v := 0) C d_M_differ_0 (by decide) ?_
  refine x_istore_n (lv' := [(1, .int (0 : Int32)), (0, .ref (h 0))]) C d_M_differ_1 rfl (by decide) rfl ?_
  refine x_iconst (v := 0) C d_M_differ_2 (by decide) ?_
  refine x_istore_n (lv' := [(2, .int (0 : Int32)), (1, .int (0 : Int32)), (0, .ref (h 0))]) C d_M_differ_3 rfl (by decide) rfl ?_
  refine x_sub (lv' := [(0, .ref (h 0)), (1, .int (0 : Int32)), (2, .int (0 : Int32))]) [2, 1, 0] rfl ?_
  exact wl_M_differ_4 C hQ NF (0 : Int32) (0 : Int32) hf
theorem c_M_differ {l : Launch} {D : va_G} {cI cZ : ClassId} {h : Nat → Nat} (u : PS) {r0 : Int32} (hf : f_M_differ u = some r0) : CtI l y_M_differ b_M_differ 3 (some .int) (rk 0) D [(cI, .int), (cZ, .boolean)] (WM cI cZ h) [.ref (h 0)] u r0 u := ct_ofI (by decide) (Nat.le_of_ble_eq_true rfl) (fun γ _ _ C hQ => w_M_differ C hQ hf)
-- ---- PackagePickModel.keep()I
def b_M_keep_12 (k12 : Int32 → Int32 → PS → Option (Int32 × PS)) (x1 : Int32) (x2 : Int32) (u : PS) : Option (Int32 × PS) :=
  if (7 : Int32) ≤ x2 then
    some (x1, u)
  else
    ck (inb x2 7) <|
    ck (inb x2 7) <|
    k12 x1 (x2 + (1 : Int32)) (sa u 13 x2.toNatClampNeg (u.2 12 x2.toNatClampNeg))
set_option maxRecDepth 100000 in
set_option maxHeartbeats 4000000 in
theorem w_M_keep_12 {γ : CX} {cI cZ : ClassId} {h : Nat → Nat} {r0 : Int32} {u0 : PS} (C : Cx γ b_M_keep 3 (some .int) "PackagePickModel" (rk 1) [(cI, .int), (cZ, .boolean)]) (hQ : QI γ [(cI, .int), (cZ, .boolean)] (WM cI cZ h) r0 u0) (k12 : Int32 → Int32 → PS → Option (Int32 × PS)) (hk12 : ∀ (x1 : Int32) (x2 : Int32) (u : PS), k12 x1 x2 u = some (r0, u0) → AtG γ (WM cI cZ h) 3 0 0 12 [(0, .ref (h 0)), (1, .int x1), (2, .int x2)] [] u) (x1 : Int32) (x2 : Int32) (u : PS) (hf : b_M_keep_12 k12 x1 x2 u = some (r0, u0)) : AtG γ (WM cI cZ h) 3 0 0 12 [(0, .ref (h 0)), (1, .int x1), (2, .int x2)] [] u := by
  unfold b_M_keep_12 at hf
  refine x_iload_n C d_M_keep_12 rfl (k := 2) rfl ?_
  refine x_bipush (v := 7) C d_M_keep_13 (by decide) ?_
  refine x_icmp_ge (tgt := 36) C d_M_keep_15 (by decide) (fun hc => ?_) (fun hc => ?_)
  · rw [if_pos hc] at hf
    refine x_iload_n C d_M_keep_36 rfl (k := 1) rfl ?_
    exact x_iret C hQ (Prod.mk.inj (Option.some.inj hf)).1 (Prod.mk.inj (Option.some.inj hf)).2 d_M_keep_37
  · rw [if_neg hc] at hf
    refine x_aload_n C d_M_keep_18 rfl (k := 0) rfl ?_
    refine gM_M_kept C mf_M_50 d_M_keep_19 ?_
    refine x_iload_n C d_M_keep_22 rfl (k := 2) rfl ?_
    refine x_aload_n C d_M_keep_23 rfl (k := 0) rfl ?_
    refine gM_M_told C mf_M_47 d_M_keep_24 ?_
    refine x_iload_n C d_M_keep_27 rfl (k := 2) rfl ?_
    obtain ⟨hin, hf⟩ := ck_some hf
    refine aldM_13 (v := (u.2 12 x2.toNatClampNeg)) C hin rfl d_M_keep_28 ?_
    obtain ⟨hin, hf⟩ := ck_some hf
    refine astM_14 C hin d_M_keep_29 ?_
    refine x_iinc (v := (x2 + (1 : Int32))) (lv' := [(2, .int (x2 + (1 : Int32))), (0, .ref (h 0)), (1, .int x1)]) C d_M_keep_30 (k := 2) rfl rfl (by decide) rfl ?_
    refine x_goto (tgt := 12) C d_M_keep_33 (by decide) ?_
    refine x_sub (lv' := [(0, .ref (h 0)), (1, .int x1), (2, .int (x2 + (1 : Int32)))]) [1, 2, 0] rfl ?_
    exact hk12 x1 (x2 + (1 : Int32)) (sa u 13 x2.toNatClampNeg (u.2 12 x2.toNatClampNeg)) hf
def l_M_keep_12 : Nat → Int32 → Int32 → PS → Option (Int32 × PS)
  | 0 => fun _ _ _ => none
  | n + 1 => b_M_keep_12 (l_M_keep_12 n)
theorem wl_M_keep_12 {γ : CX} {cI cZ : ClassId} {h : Nat → Nat} {r0 : Int32} {u0 : PS} (C : Cx γ b_M_keep 3 (some .int) "PackagePickModel" (rk 1) [(cI, .int), (cZ, .boolean)]) (hQ : QI γ [(cI, .int), (cZ, .boolean)] (WM cI cZ h) r0 u0) (n : Nat) : ∀ (x1 : Int32) (x2 : Int32) (u : PS), l_M_keep_12 n x1 x2 u = some (r0, u0) → AtG γ (WM cI cZ h) 3 0 0 12 [(0, .ref (h 0)), (1, .int x1), (2, .int x2)] [] u := by
  induction n with
  | zero => intro x1 x2 u hf; cases hf
  | succ n ih => intro x1 x2 u hf; exact w_M_keep_12 C hQ (l_M_keep_12 n) ih x1 x2 u hf
def f_M_keep (u : PS) : Option (Int32 × PS) :=
  (f_M_differ (si u 0 (0 : Int32))).bind fun r1 =>
  l_M_keep_12 NF r1 (0 : Int32) (si u 0 (0 : Int32))
set_option maxRecDepth 100000 in
set_option maxHeartbeats 4000000 in
theorem w_M_keep {γ : CX} {cI cZ : ClassId} {h : Nat → Nat} {r0 : Int32} {u0 : PS} (C : Cx γ b_M_keep 3 (some .int) "PackagePickModel" (rk 1) [(cI, .int), (cZ, .boolean)]) (hQ : QI γ [(cI, .int), (cZ, .boolean)] (WM cI cZ h) r0 u0) (u : PS) (hf : f_M_keep u = some (r0, u0)) : AtG γ (WM cI cZ h) 3 0 0 0 [(0, .ref (h 0))] [] u := by
  unfold f_M_keep at hf
  refine x_aload_n C d_M_keep_0 rfl (k := 0) rfl ?_
  refine x_iconst (v := 0) C d_M_keep_1 (by decide) ?_
  refine pM_M_thrown C mf_M_56 d_M_keep_2 ?_
  refine x_aload_n C d_M_keep_5 rfl (k := 0) rfl ?_
  obtain ⟨r1, hc1, hf⟩ := Option.bind_eq_some_iff.mp hf
  refine x_callIv (q0 := 0) (ci := 4) (rest := []) C (c_M_differ (si u 0 (0 : Int32)) hc1) kc_M_differ (rok (by decide) (by decide)) mm_M_127 ms_M_differ ml_M_differ rfl rfl rfl rfl (Nat.le_of_ble_eq_true rfl) d_M_keep_6 ?_
  refine x_istore_n (lv' := [(1, .int r1), (0, .ref (h 0))]) C d_M_keep_9 rfl (by decide) rfl ?_
  refine x_iconst (v := 0) C d_M_keep_10 (by decide) ?_
  refine x_istore_n (lv' := [(2, .int (0 : Int32)), (1, .int r1), (0, .ref (h 0))]) C d_M_keep_11 rfl (by decide) rfl ?_
  refine x_sub (lv' := [(0, .ref (h 0)), (1, .int r1), (2, .int (0 : Int32))]) [2, 1, 0] rfl ?_
  exact wl_M_keep_12 C hQ NF r1 (0 : Int32) (si u 0 (0 : Int32)) hf
theorem c_M_keep {l : Launch} {D : va_G} {cI cZ : ClassId} {h : Nat → Nat} (u : PS) {r0 : Int32 × PS} (hf : f_M_keep u = some r0) : CtI l y_M_keep b_M_keep 3 (some .int) (rk 1) D [(cI, .int), (cZ, .boolean)] (WM cI cZ h) [.ref (h 0)] u r0.1 r0.2 := ct_ofI (by decide) (Nat.le_of_ble_eq_true rfl) (fun γ _ _ C hQ => w_M_keep C hQ u hf)
-- ---- PackagePickModel.chosen(I)I
def f_M_chosen (a1 : Int32) (u : PS) : Option (Int32 × PS) :=
  if (f_M_isPackage a1) = 0 then
    some ((-1 : Int32), (si u 0 (0 : Int32)))
  else
    ck (inb a1 7) <|
    some ((u.2 12 a1.toNatClampNeg), (si u 0 (0 : Int32)))
set_option maxRecDepth 100000 in
set_option maxHeartbeats 4000000 in
theorem w_M_chosen {γ : CX} {cI cZ : ClassId} {h : Nat → Nat} {r0 : Int32} {u0 : PS} (C : Cx γ b_M_chosen 2 (some .int) "PackagePickModel" (rk 1) [(cI, .int), (cZ, .boolean)]) (hQ : QI γ [(cI, .int), (cZ, .boolean)] (WM cI cZ h) r0 u0) (a1 : Int32) (u : PS) (hf : f_M_chosen a1 u = some (r0, u0)) : AtG γ (WM cI cZ h) 2 0 0 0 [(0, .ref (h 0)), (1, .int a1)] [] u := by
  unfold f_M_chosen at hf
  refine x_aload_n C d_M_chosen_0 rfl (k := 0) rfl ?_
  refine x_iconst (v := 0) C d_M_chosen_1 (by decide) ?_
  refine pM_M_thrown C mf_M_56 d_M_chosen_2 ?_
  refine x_iload_n C d_M_chosen_5 rfl (k := 1) rfl ?_
  refine x_callIs (rest := []) C (c_M_isPackage a1) kc_M_isPackage (rok (by decide) (by decide)) mm_M_60 ms_M_isPackage rfl rfl (Nat.le_of_ble_eq_true rfl) d_M_chosen_6 ?_
  refine x_if_eq (tgt := 21) C d_M_chosen_9 (by decide) (fun hc => ?_) (fun hc => ?_)
  · rw [if_pos hc] at hf
    refine x_iconst (v := -1) C d_M_chosen_21 (by decide) ?_
    exact x_iret C hQ (Prod.mk.inj (Option.some.inj hf)).1 (Prod.mk.inj (Option.some.inj hf)).2 d_M_chosen_22
  · rw [if_neg hc] at hf
    refine x_aload_n C d_M_chosen_12 rfl (k := 0) rfl ?_
    refine gM_M_told C mf_M_47 d_M_chosen_13 ?_
    refine x_iload_n C d_M_chosen_16 rfl (k := 1) rfl ?_
    obtain ⟨hin, hf⟩ := ck_some hf
    refine aldM_13 (v := (u.2 12 a1.toNatClampNeg)) C hin rfl d_M_chosen_17 ?_
    refine x_goto (tgt := 22) C d_M_chosen_18 (by decide) ?_
    exact x_iret C hQ (Prod.mk.inj (Option.some.inj hf)).1 (Prod.mk.inj (Option.some.inj hf)).2 d_M_chosen_22
theorem c_M_chosen {l : Launch} {D : va_G} {cI cZ : ClassId} {h : Nat → Nat} (a1 : Int32) (u : PS) {r0 : Int32 × PS} (hf : f_M_chosen a1 u = some r0) : CtI l y_M_chosen b_M_chosen 2 (some .int) (rk 1) D [(cI, .int), (cZ, .boolean)] (WM cI cZ h) [.ref (h 0), .int a1] u r0.1 r0.2 := ct_ofI (by decide) (Nat.le_of_ble_eq_true rfl) (fun γ _ _ C hQ => w_M_chosen C hQ a1 u hf)
-- ---- PackagePickModel.many()I
def b_M_many_15 (k15 : Int32 → PS → Option (Int32 × PS)) (x1 : Int32) (u : PS) : Option (Int32 × PS) :=
  (f_M_finds u).bind fun r3 =>
  if r3.1 = 0 then
    some (x1, r3.2)
  else
    k15 (x1 + (1 : Int32)) r3.2
set_option maxRecDepth 100000 in
set_option maxHeartbeats 4000000 in
theorem w_M_many_15 {γ : CX} {cI cZ : ClassId} {h : Nat → Nat} {r0 : Int32} {u0 : PS} (C : Cx γ b_M_many 2 (some .int) "PackagePickModel" (rk 3) [(cI, .int), (cZ, .boolean)]) (hQ : QI γ [(cI, .int), (cZ, .boolean)] (WM cI cZ h) r0 u0) (k15 : Int32 → PS → Option (Int32 × PS)) (hk15 : ∀ (x1 : Int32) (u : PS), k15 x1 u = some (r0, u0) → AtG γ (WM cI cZ h) 2 0 0 15 [(0, .ref (h 0)), (1, .int x1)] [] u) (x1 : Int32) (u : PS) (hf : b_M_many_15 k15 x1 u = some (r0, u0)) : AtG γ (WM cI cZ h) 2 0 0 15 [(0, .ref (h 0)), (1, .int x1)] [] u := by
  unfold b_M_many_15 at hf
  refine x_aload_n C d_M_many_15 rfl (k := 0) rfl ?_
  obtain ⟨r3, hc3, hf⟩ := Option.bind_eq_some_iff.mp hf
  refine x_callIv (q0 := 0) (ci := 4) (rest := []) C (c_M_finds u hc3) kc_M_finds (rok (by decide) (by decide)) mm_M_115 ms_M_finds ml_M_finds rfl rfl rfl rfl (Nat.le_of_ble_eq_true rfl) d_M_many_16 ?_
  refine x_if_eq (tgt := 28) C d_M_many_19 (by decide) (fun hc => ?_) (fun hc => ?_)
  · rw [if_pos hc] at hf
    refine x_iload_n C d_M_many_28 rfl (k := 1) rfl ?_
    exact x_iret C hQ (Prod.mk.inj (Option.some.inj hf)).1 (Prod.mk.inj (Option.some.inj hf)).2 d_M_many_29
  · rw [if_neg hc] at hf
    refine x_iinc (v := (x1 + (1 : Int32))) (lv' := [(1, .int (x1 + (1 : Int32))), (0, .ref (h 0))]) C d_M_many_22 (k := 1) rfl rfl (by decide) rfl ?_
    refine x_goto (tgt := 15) C d_M_many_25 (by decide) ?_
    refine x_sub (lv' := [(0, .ref (h 0)), (1, .int (x1 + (1 : Int32)))]) [1, 0] rfl ?_
    exact hk15 (x1 + (1 : Int32)) r3.2 hf
def l_M_many_15 : Nat → Int32 → PS → Option (Int32 × PS)
  | 0 => fun _ _ => none
  | n + 1 => b_M_many_15 (l_M_many_15 n)
theorem wl_M_many_15 {γ : CX} {cI cZ : ClassId} {h : Nat → Nat} {r0 : Int32} {u0 : PS} (C : Cx γ b_M_many 2 (some .int) "PackagePickModel" (rk 3) [(cI, .int), (cZ, .boolean)]) (hQ : QI γ [(cI, .int), (cZ, .boolean)] (WM cI cZ h) r0 u0) (n : Nat) : ∀ (x1 : Int32) (u : PS), l_M_many_15 n x1 u = some (r0, u0) → AtG γ (WM cI cZ h) 2 0 0 15 [(0, .ref (h 0)), (1, .int x1)] [] u := by
  induction n with
  | zero => intro x1 u hf; cases hf
  | succ n ih => intro x1 u hf; exact w_M_many_15 C hQ (l_M_many_15 n) ih x1 u hf
def f_M_many (u : PS) : Option (Int32 × PS) :=
  (f_M_begin (f_M_all (si u 0 (0 : Int32))) (si u 0 (0 : Int32))).bind fun r2 =>
  l_M_many_15 NF (0 : Int32) r2
set_option maxRecDepth 100000 in
set_option maxHeartbeats 4000000 in
theorem w_M_many {γ : CX} {cI cZ : ClassId} {h : Nat → Nat} {r0 : Int32} {u0 : PS} (C : Cx γ b_M_many 2 (some .int) "PackagePickModel" (rk 3) [(cI, .int), (cZ, .boolean)]) (hQ : QI γ [(cI, .int), (cZ, .boolean)] (WM cI cZ h) r0 u0) (u : PS) (hf : f_M_many u = some (r0, u0)) : AtG γ (WM cI cZ h) 2 0 0 0 [(0, .ref (h 0))] [] u := by
  unfold f_M_many at hf
  refine x_aload_n C d_M_many_0 rfl (k := 0) rfl ?_
  refine x_iconst (v := 0) C d_M_many_1 (by decide) ?_
  refine pM_M_thrown C mf_M_56 d_M_many_2 ?_
  refine x_iconst (v := 0) C d_M_many_5 (by decide) ?_
  refine x_istore_n (lv' := [(1, .int (0 : Int32)), (0, .ref (h 0))]) C d_M_many_6 rfl (by decide) rfl ?_
  refine x_aload_n C d_M_many_7 rfl (k := 1) rfl ?_
  refine x_aload_n C d_M_many_8 rfl (k := 1) rfl ?_
  refine x_callIv (q0 := 0) (ci := 4) (rest := [.ref (h 0)]) C (c_M_all (si u 0 (0 : Int32))) kc_M_all (rok (by decide) (by decide)) mm_M_97 ms_M_all ml_M_all rfl rfl rfl rfl (Nat.le_of_ble_eq_true rfl) d_M_many_9 ?_
  obtain ⟨r2, hc2, hf⟩ := Option.bind_eq_some_iff.mp hf
  refine x_callVv (q0 := 0) (ci := 4) (rest := []) C (c_M_begin (f_M_all (si u 0 (0 : Int32))) (si u 0 (0 : Int32)) hc2) kc_M_begin (rok (by decide) (by decide)) mm_M_111 ms_M_begin ml_M_begin rfl rfl rfl rfl (Nat.le_of_ble_eq_true rfl) d_M_many_12 ?_
  refine x_sub (lv' := [(0, .ref (h 0)), (1, .int (0 : Int32))]) [1, 0] rfl ?_
  exact wl_M_many_15 C hQ NF (0 : Int32) r2 hf
theorem c_M_many {l : Launch} {D : va_G} {cI cZ : ClassId} {h : Nat → Nat} (u : PS) {r0 : Int32 × PS} (hf : f_M_many u = some r0) : CtI l y_M_many b_M_many 2 (some .int) (rk 3) D [(cI, .int), (cZ, .boolean)] (WM cI cZ h) [.ref (h 0)] u r0.1 r0.2 := ct_ofI (by decide) (Nat.le_of_ble_eq_true rfl) (fun γ _ _ C hQ => w_M_many C hQ u hf)
-- ---- PackagePickModel.can(I)I
def b_M_can_24 (k24 : Int32 → Int32 → PS → Option (Int32 × PS)) (x1 : Int32) (x2 : Int32) (u : PS) : Option (Int32 × PS) :=
  (f_M_finds u).bind fun r4 =>
  if r4.1 = 0 then
    some (x2, r4.2)
  else
    ck (inb x1 7) <|
    if (r4.2.2 10 x1.toNatClampNeg) = (-1 : Int32) then
      k24 x1 (x2 ||| ((1 : Int32) <<< ((4 : Int32) &&& 31))) r4.2
    else
      ck (inb x1 7) <|
      k24 x1 (x2 ||| ((1 : Int32) <<< ((r4.2.2 10 x1.toNatClampNeg) &&& 31))) r4.2
set_option maxRecDepth 100000 in
set_option maxHeartbeats 4000000 in
theorem w_M_can_24 {γ : CX} {cI cZ : ClassId} {h : Nat → Nat} {r0 : Int32} {u0 : PS} (C : Cx γ b_M_can 3 (some .int) "PackagePickModel" (rk 3) [(cI, .int), (cZ, .boolean)]) (hQ : QI γ [(cI, .int), (cZ, .boolean)] (WM cI cZ h) r0 u0) (k24 : Int32 → Int32 → PS → Option (Int32 × PS)) (hk24 : ∀ (x1 : Int32) (x2 : Int32) (u : PS), k24 x1 x2 u = some (r0, u0) → AtG γ (WM cI cZ h) 3 0 0 24 [(0, .ref (h 0)), (1, .int x1), (2, .int x2)] [] u) (x1 : Int32) (x2 : Int32) (u : PS) (hf : b_M_can_24 k24 x1 x2 u = some (r0, u0)) : AtG γ (WM cI cZ h) 3 0 0 24 [(0, .ref (h 0)), (1, .int x1), (2, .int x2)] [] u := by
  unfold b_M_can_24 at hf
  refine x_aload_n C d_M_can_24 rfl (k := 0) rfl ?_
  obtain ⟨r4, hc4, hf⟩ := Option.bind_eq_some_iff.mp hf
  refine x_callIv (q0 := 0) (ci := 4) (rest := []) C (c_M_finds u hc4) kc_M_finds (rok (by decide) (by decide)) mm_M_115 ms_M_finds ml_M_finds rfl rfl rfl rfl (Nat.le_of_ble_eq_true rfl) d_M_can_25 ?_
  refine x_if_eq (tgt := 59) C d_M_can_28 (by decide) (fun hc => ?_) (fun hc => ?_)
  · rw [if_pos hc] at hf
    refine x_iload_n C d_M_can_59 rfl (k := 2) rfl ?_
    exact x_iret C hQ (Prod.mk.inj (Option.some.inj hf)).1 (Prod.mk.inj (Option.some.inj hf)).2 d_M_can_60
  · rw [if_neg hc] at hf
    refine x_iload_n C d_M_can_31 rfl (k := 2) rfl ?_
    refine x_iconst (v := 1) C d_M_can_32 (by decide) ?_
    refine x_aload_n C d_M_can_33 rfl (k := 0) rfl ?_
    refine gM_M_pick C mf_M_41 d_M_can_34 ?_
    refine x_iload_n C d_M_can_37 rfl (k := 1) rfl ?_
    obtain ⟨hin, hf⟩ := ck_some hf
    refine aldM_11 (v := (r4.2.2 10 x1.toNatClampNeg)) C hin rfl d_M_can_38 ?_
    refine x_iconst (v := -1) C d_M_can_39 (by decide) ?_
    refine x_icmp_ne (tgt := 47) C d_M_can_40 (by decide) (fun hc => ?_) (fun hc => ?_)
    · rw [if_neg hc] at hf
      refine x_aload_n C d_M_can_47 rfl (k := 0) rfl ?_
      refine gM_M_pick C mf_M_41 d_M_can_48 ?_
      refine x_iload_n C d_M_can_51 rfl (k := 1) rfl ?_
      obtain ⟨hin, hf⟩ := ck_some hf
      refine aldM_11 (v := (r4.2.2 10 x1.toNatClampNeg)) C hin rfl d_M_can_52 ?_
      refine x_ishl C d_M_can_53 ?_
      refine x_ior C d_M_can_54 ?_
      refine x_istore_n (lv' := [(2, .int (x2 ||| ((1 : Int32) <<< ((r4.2.2 10 x1.toNatClampNeg) &&& 31)))), (0, .ref (h 0)), (1, .int x1)]) C d_M_can_55 rfl (by decide) rfl ?_
      refine x_goto (tgt := 24) C d_M_can_56 (by decide) ?_
      refine x_sub (lv' := [(0, .ref (h 0)), (1, .int x1), (2, .int (x2 ||| ((1 : Int32) <<< ((r4.2.2 10 x1.toNatClampNeg) &&& 31))))]) [1, 2, 0] rfl ?_
      exact hk24 x1 (x2 ||| ((1 : Int32) <<< ((r4.2.2 10 x1.toNatClampNeg) &&& 31))) r4.2 hf
    · rw [if_pos hc] at hf
      refine x_iconst (v := 4) C d_M_can_43 (by decide) ?_
      refine x_goto (tgt := 53) C d_M_can_44 (by decide) ?_
      refine x_ishl C d_M_can_53 ?_
      refine x_ior C d_M_can_54 ?_
      refine x_istore_n (lv' := [(2, .int (x2 ||| ((1 : Int32) <<< ((4 : Int32) &&& 31)))), (0, .ref (h 0)), (1, .int x1)]) C d_M_can_55 rfl (by decide) rfl ?_
      refine x_goto (tgt := 24) C d_M_can_56 (by decide) ?_
      refine x_sub (lv' := [(0, .ref (h 0)), (1, .int x1), (2, .int (x2 ||| ((1 : Int32) <<< ((4 : Int32) &&& 31))))]) [1, 2, 0] rfl ?_
      exact hk24 x1 (x2 ||| ((1 : Int32) <<< ((4 : Int32) &&& 31))) r4.2 hf
def l_M_can_24 : Nat → Int32 → Int32 → PS → Option (Int32 × PS)
  | 0 => fun _ _ _ => none
  | n + 1 => b_M_can_24 (l_M_can_24 n)
theorem wl_M_can_24 {γ : CX} {cI cZ : ClassId} {h : Nat → Nat} {r0 : Int32} {u0 : PS} (C : Cx γ b_M_can 3 (some .int) "PackagePickModel" (rk 3) [(cI, .int), (cZ, .boolean)]) (hQ : QI γ [(cI, .int), (cZ, .boolean)] (WM cI cZ h) r0 u0) (n : Nat) : ∀ (x1 : Int32) (x2 : Int32) (u : PS), l_M_can_24 n x1 x2 u = some (r0, u0) → AtG γ (WM cI cZ h) 3 0 0 24 [(0, .ref (h 0)), (1, .int x1), (2, .int x2)] [] u := by
  induction n with
  | zero => intro x1 x2 u hf; cases hf
  | succ n ih => intro x1 x2 u hf; exact w_M_can_24 C hQ (l_M_can_24 n) ih x1 x2 u hf
def f_M_can (a1 : Int32) (u : PS) : Option (Int32 × PS) :=
  if (f_M_isPackage a1) = 0 then
    some ((-1 : Int32), (si u 0 (0 : Int32)))
  else
    (f_M_begin (f_M_all (si u 0 (0 : Int32))) (si u 0 (0 : Int32))).bind fun r3 =>
    l_M_can_24 NF a1 (0 : Int32) r3
set_option maxRecDepth 100000 in
set_option maxHeartbeats 4000000 in
theorem w_M_can {γ : CX} {cI cZ : ClassId} {h : Nat → Nat} {r0 : Int32} {u0 : PS} (C : Cx γ b_M_can 3 (some .int) "PackagePickModel" (rk 3) [(cI, .int), (cZ, .boolean)]) (hQ : QI γ [(cI, .int), (cZ, .boolean)] (WM cI cZ h) r0 u0) (a1 : Int32) (u : PS) (hf : f_M_can a1 u = some (r0, u0)) : AtG γ (WM cI cZ h) 3 0 0 0 [(0, .ref (h 0)), (1, .int a1)] [] u := by
  unfold f_M_can at hf
  refine x_aload_n C d_M_can_0 rfl (k := 0) rfl ?_
  refine x_iconst (v := 0) C d_M_can_1 (by decide) ?_
  refine pM_M_thrown C mf_M_56 d_M_can_2 ?_
  refine x_iload_n C d_M_can_5 rfl (k := 1) rfl ?_
  refine x_callIs (rest := []) C (c_M_isPackage a1) kc_M_isPackage (rok (by decide) (by decide)) mm_M_60 ms_M_isPackage rfl rfl (Nat.le_of_ble_eq_true rfl) d_M_can_6 ?_
  refine x_if_ne (tgt := 14) C d_M_can_9 (by decide) (fun hc => ?_) (fun hc => ?_)
  · rw [if_neg hc] at hf
    refine x_iconst (v := 0) C d_M_can_14 (by decide) ?_
    refine x_istore_n (lv' := [(2, .int (0 : Int32)), (0, .ref (h 0)), (1, .int a1)]) C d_M_can_15 rfl (by decide) rfl ?_
    refine x_aload_n C d_M_can_16 rfl (k := 1) rfl ?_
    refine x_aload_n C d_M_can_17 rfl (k := 1) rfl ?_
    refine x_callIv (q0 := 0) (ci := 4) (rest := [.ref (h 0)]) C (c_M_all (si u 0 (0 : Int32))) kc_M_all (rok (by decide) (by decide)) mm_M_97 ms_M_all ml_M_all rfl rfl rfl rfl (Nat.le_of_ble_eq_true rfl) d_M_can_18 ?_
    obtain ⟨r3, hc3, hf⟩ := Option.bind_eq_some_iff.mp hf
    refine x_callVv (q0 := 0) (ci := 4) (rest := []) C (c_M_begin (f_M_all (si u 0 (0 : Int32))) (si u 0 (0 : Int32)) hc3) kc_M_begin (rok (by decide) (by decide)) mm_M_111 ms_M_begin ml_M_begin rfl rfl rfl rfl (Nat.le_of_ble_eq_true rfl) d_M_can_21 ?_
    refine x_sub (lv' := [(0, .ref (h 0)), (1, .int a1), (2, .int (0 : Int32))]) [1, 2, 0] rfl ?_
    exact wl_M_can_24 C hQ NF a1 (0 : Int32) r3 hf
  · rw [if_pos hc] at hf
    refine x_iconst (v := -1) C d_M_can_12 (by decide) ?_
    exact x_iret C hQ (Prod.mk.inj (Option.some.inj hf)).1 (Prod.mk.inj (Option.some.inj hf)).2 d_M_can_13
theorem c_M_can {l : Launch} {D : va_G} {cI cZ : ClassId} {h : Nat → Nat} (a1 : Int32) (u : PS) {r0 : Int32 × PS} (hf : f_M_can a1 u = some r0) : CtI l y_M_can b_M_can 3 (some .int) (rk 3) D [(cI, .int), (cZ, .boolean)] (WM cI cZ h) [.ref (h 0), .int a1] u r0.1 r0.2 := ct_ofI (by decide) (Nat.le_of_ble_eq_true rfl) (fun γ _ _ C hQ => w_M_can C hQ a1 u hf)
-- ---- PackagePickModel.core(I)I
def b_M_core_58 (x2 : Int32) (t0 : Int32) (u : PS) : Option (Int32 × PS) :=
  if t0 ≤ 0 then
    some (x2, (si u 0 t0))
  else
    some ((0 : Int32), (si u 0 t0))
set_option maxRecDepth 100000 in
set_option maxHeartbeats 4000000 in
theorem w_M_core_58 {γ : CX} {cI cZ : ClassId} {h : Nat → Nat} {r0 : Int32} {u0 : PS} (C : Cx γ b_M_core 4 (some .int) "PackagePickModel" (rk 0) [(cI, .int), (cZ, .boolean)]) (hQ : QI γ [(cI, .int), (cZ, .boolean)] (WM cI cZ h) r0 u0) (x2 : Int32) (t0 : Int32) (u : PS) (hf : b_M_core_58 x2 t0 u = some (r0, u0)) : AtG γ (WM cI cZ h) 4 0 0 58 [(0, .ref (h 0)), (2, .int x2)] [.int t0, .ref (h 0)] u := by
  unfold b_M_core_58 at hf
  refine pM_M_thrown C mf_M_56 d_M_core_58 ?_
  refine x_aload_n C d_M_core_61 rfl (k := 0) rfl ?_
  refine gM_M_thrown (v := t0) C mf_M_56 rfl d_M_core_62 ?_
  refine x_if_le (tgt := 72) C d_M_core_65 (by decide) (fun hc => ?_) (fun hc => ?_)
  · rw [if_pos hc] at hf
    refine x_iload_n C d_M_core_72 rfl (k := 1) rfl ?_
    exact x_iret C hQ (Prod.mk.inj (Option.some.inj hf)).1 (Prod.mk.inj (Option.some.inj hf)).2 d_M_core_73
  · rw [if_neg hc] at hf
    refine x_iconst (v := 0) C d_M_core_68 (by decide) ?_
    refine x_goto (tgt := 73) C d_M_core_69 (by decide) ?_
    exact x_iret C hQ (Prod.mk.inj (Option.some.inj hf)).1 (Prod.mk.inj (Option.some.inj hf)).2 d_M_core_73
def b_M_core_42 (x1 : Int32) (x2 : Int32) (u : PS) : Option (Int32 × PS) :=
  if x1 < 0 then
    b_M_core_58 x2 (1 : Int32) u
  else
    if x2 = (6 : Int32) then
      b_M_core_58 x2 (1 : Int32) u
    else
      b_M_core_58 x2 (0 : Int32) u
set_option maxRecDepth 100000 in
set_option maxHeartbeats 4000000 in
theorem w_M_core_42 {γ : CX} {cI cZ : ClassId} {h : Nat → Nat} {r0 : Int32} {u0 : PS} (C : Cx γ b_M_core 4 (some .int) "PackagePickModel" (rk 0) [(cI, .int), (cZ, .boolean)]) (hQ : QI γ [(cI, .int), (cZ, .boolean)] (WM cI cZ h) r0 u0) (x1 : Int32) (x2 : Int32) (u : PS) (hf : b_M_core_42 x1 x2 u = some (r0, u0)) : AtG γ (WM cI cZ h) 4 0 0 42 [(0, .ref (h 0)), (1, .int x1), (2, .int x2)] [] u := by
  unfold b_M_core_42 at hf
  refine x_aload_n C d_M_core_42 rfl (k := 0) rfl ?_
  refine x_iload_n C d_M_core_43 rfl (k := 1) rfl ?_
  refine x_if_lt (tgt := 53) C d_M_core_44 (by decide) (fun hc => ?_) (fun hc => ?_)
  · rw [if_pos hc] at hf
    refine x_iconst (v := 1) C d_M_core_53 (by decide) ?_
    refine x_goto (tgt := 58) C d_M_core_54 (by decide) ?_
    refine x_sub (lv' := [(0, .ref (h 0)), (2, .int x2)]) [0, 2] rfl ?_
    exact w_M_core_58 C hQ x2 (1 : Int32) u hf
  · rw [if_neg hc] at hf
    refine x_iload_n C d_M_core_47 rfl (k := 2) rfl ?_
    refine x_bipush (v := 6) C d_M_core_48 (by decide) ?_
    refine x_icmp_ne (tgt := 57) C d_M_core_50 (by decide) (fun hc => ?_) (fun hc => ?_)
    · rw [if_neg hc] at hf
      refine x_iconst (v := 0) C d_M_core_57 (by decide) ?_
      refine x_sub (lv' := [(0, .ref (h 0)), (2, .int x2)]) [0, 2] rfl ?_
      exact w_M_core_58 C hQ x2 (0 : Int32) u hf
    · rw [if_pos hc] at hf
      refine x_iconst (v := 1) C d_M_core_53 (by decide) ?_
      refine x_goto (tgt := 58) C d_M_core_54 (by decide) ?_
      refine x_sub (lv' := [(0, .ref (h 0)), (2, .int x2)]) [0, 2] rfl ?_
      exact w_M_core_58 C hQ x2 (1 : Int32) u hf
def b_M_core_25 (k4 : Int32 → Int32 → Int32 → PS → Option (Int32 × PS)) (x1 : Int32) (x2 : Int32) (x3 : Int32) (u : PS) : Option (Int32 × PS) :=
  k4 x1 (x2 + (1 : Int32)) (x3 - (((u.1 5) >>> (x2 &&& 31)) &&& (1 : Int32))) u
set_option maxRecDepth 100000 in
set_option maxHeartbeats 4000000 in
theorem w_M_core_25 {γ : CX} {cI cZ : ClassId} {h : Nat → Nat} {r0 : Int32} {u0 : PS} (C : Cx γ b_M_core 4 (some .int) "PackagePickModel" (rk 0) [(cI, .int), (cZ, .boolean)]) (hQ : QI γ [(cI, .int), (cZ, .boolean)] (WM cI cZ h) r0 u0) (k4 : Int32 → Int32 → Int32 → PS → Option (Int32 × PS)) (hk4 : ∀ (x1 : Int32) (x2 : Int32) (x3 : Int32) (u : PS), k4 x1 x2 x3 u = some (r0, u0) → AtG γ (WM cI cZ h) 4 0 0 4 [(0, .ref (h 0)), (1, .int x1), (2, .int x2), (3, .int x3)] [] u) (x1 : Int32) (x2 : Int32) (x3 : Int32) (u : PS) (hf : b_M_core_25 k4 x1 x2 x3 u = some (r0, u0)) : AtG γ (WM cI cZ h) 4 0 0 25 [(0, .ref (h 0)), (1, .int x1), (2, .int x2), (3, .int x3)] [] u := by
  unfold b_M_core_25 at hf
  refine x_iload_n C d_M_core_25 rfl (k := 3) rfl ?_
  refine x_aload_n C d_M_core_26 rfl (k := 0) rfl ?_
  refine gM_M_coreMask (v := (u.1 5)) C mf_M_101 rfl d_M_core_27 ?_
  refine x_iload_n C d_M_core_30 rfl (k := 2) rfl ?_
  refine x_ishr C d_M_core_31 ?_
  refine x_iconst (v := 1) C d_M_core_32 (by decide) ?_
  refine x_iand C d_M_core_33 ?_
  refine x_isub C d_M_core_34 ?_
  refine x_istore_n (lv' := [(3, .int (x3 - (((u.1 5) >>> (x2 &&& 31)) &&& (1 : Int32)))), (0, .ref (h 0)), (1, .int x1), (2, .int x2)]) C d_M_core_35 rfl (by decide) rfl ?_
  refine x_iinc (v := (x2 + (1 : Int32))) (lv' := [(2, .int (x2 + (1 : Int32))), (3, .int (x3 - (((u.1 5) >>> (x2 &&& 31)) &&& (1 : Int32)))), (0, .ref (h 0)), (1, .int x1)]) C d_M_core_36 (k := 3) rfl rfl (by decide) rfl ?_
  refine x_goto (tgt := 4) C d_M_core_39 (by decide) ?_
  refine x_sub (lv' := [(0, .ref (h 0)), (1, .int x1), (2, .int (x2 + (1 : Int32))), (3, .int (x3 - (((u.1 5) >>> (x2 &&& 31)) &&& (1 : Int32))))]) [2, 3, 0, 1] rfl ?_
  exact hk4 x1 (x2 + (1 : Int32)) (x3 - (((u.1 5) >>> (x2 &&& 31)) &&& (1 : Int32))) u hf
def b_M_core_4 (k4 : Int32 → Int32 → Int32 → PS → Option (Int32 × PS)) (x1 : Int32) (x2 : Int32) (x3 : Int32) (u : PS) : Option (Int32 × PS) :=
  if (6 : Int32) ≤ x2 then
    b_M_core_42 x1 x2 u
  else
    if 0 < x3 then
      b_M_core_25 k4 x1 x2 x3 u
    else
      if (((u.1 5) >>> (x2 &&& 31)) &&& (1 : Int32)) = 0 then
        b_M_core_25 k4 x1 x2 x3 u
      else
        b_M_core_42 x1 x2 u
set_option maxRecDepth 100000 in
set_option maxHeartbeats 4000000 in
theorem w_M_core_4 {γ : CX} {cI cZ : ClassId} {h : Nat → Nat} {r0 : Int32} {u0 : PS} (C : Cx γ b_M_core 4 (some .int) "PackagePickModel" (rk 0) [(cI, .int), (cZ, .boolean)]) (hQ : QI γ [(cI, .int), (cZ, .boolean)] (WM cI cZ h) r0 u0) (k4 : Int32 → Int32 → Int32 → PS → Option (Int32 × PS)) (hk4 : ∀ (x1 : Int32) (x2 : Int32) (x3 : Int32) (u : PS), k4 x1 x2 x3 u = some (r0, u0) → AtG γ (WM cI cZ h) 4 0 0 4 [(0, .ref (h 0)), (1, .int x1), (2, .int x2), (3, .int x3)] [] u) (x1 : Int32) (x2 : Int32) (x3 : Int32) (u : PS) (hf : b_M_core_4 k4 x1 x2 x3 u = some (r0, u0)) : AtG γ (WM cI cZ h) 4 0 0 4 [(0, .ref (h 0)), (1, .int x1), (2, .int x2), (3, .int x3)] [] u := by
  unfold b_M_core_4 at hf
  refine x_iload_n C d_M_core_4 rfl (k := 2) rfl ?_
  refine x_bipush (v := 6) C d_M_core_5 (by decide) ?_
  refine x_icmp_ge (tgt := 42) C d_M_core_7 (by decide) (fun hc => ?_) (fun hc => ?_)
  · rw [if_pos hc] at hf
    refine x_sub (lv' := [(0, .ref (h 0)), (1, .int x1), (2, .int x2)]) [0, 1, 2] rfl ?_
    exact w_M_core_42 C hQ x1 x2 u hf
  · rw [if_neg hc] at hf
    refine x_iload_n C d_M_core_10 rfl (k := 3) rfl ?_
    refine x_if_gt (tgt := 25) C d_M_core_11 (by decide) (fun hc => ?_) (fun hc => ?_)
    · rw [if_pos hc] at hf
      exact w_M_core_25 C hQ k4 hk4 x1 x2 x3 u hf
    · rw [if_neg hc] at hf
      refine x_aload_n C d_M_core_14 rfl (k := 0) rfl ?_
      refine gM_M_coreMask (v := (u.1 5)) C mf_M_101 rfl d_M_core_15 ?_
      refine x_iload_n C d_M_core_18 rfl (k := 2) rfl ?_
      refine x_ishr C d_M_core_19 ?_
      refine x_iconst (v := 1) C d_M_core_20 (by decide) ?_
      refine x_iand C d_M_core_21 ?_
      refine x_if_ne (tgt := 42) C d_M_core_22 (by decide) (fun hc => ?_) (fun hc => ?_)
      · rw [if_neg hc] at hf
        refine x_sub (lv' := [(0, .ref (h 0)), (1, .int x1), (2, .int x2)]) [0, 1, 2] rfl ?_
        exact w_M_core_42 C hQ x1 x2 u hf
      · rw [if_pos hc] at hf
        exact w_M_core_25 C hQ k4 hk4 x1 x2 x3 u hf
def l_M_core_4 : Nat → Int32 → Int32 → Int32 → PS → Option (Int32 × PS)
  | 0 => fun _ _ _ _ => none
  | n + 1 => b_M_core_4 (l_M_core_4 n)
theorem wl_M_core_4 {γ : CX} {cI cZ : ClassId} {h : Nat → Nat} {r0 : Int32} {u0 : PS} (C : Cx γ b_M_core 4 (some .int) "PackagePickModel" (rk 0) [(cI, .int), (cZ, .boolean)]) (hQ : QI γ [(cI, .int), (cZ, .boolean)] (WM cI cZ h) r0 u0) (n : Nat) : ∀ (x1 : Int32) (x2 : Int32) (x3 : Int32) (u : PS), l_M_core_4 n x1 x2 x3 u = some (r0, u0) → AtG γ (WM cI cZ h) 4 0 0 4 [(0, .ref (h 0)), (1, .int x1), (2, .int x2), (3, .int x3)] [] u := by
  induction n with
  | zero => intro x1 x2 x3 u hf; cases hf
  | succ n ih => intro x1 x2 x3 u hf; exact w_M_core_4 C hQ (l_M_core_4 n) ih x1 x2 x3 u hf
def f_M_core (a1 : Int32) (u : PS) : Option (Int32 × PS) :=
  l_M_core_4 NF a1 (0 : Int32) a1 u
set_option maxRecDepth 100000 in
set_option maxHeartbeats 4000000 in
theorem w_M_core {γ : CX} {cI cZ : ClassId} {h : Nat → Nat} {r0 : Int32} {u0 : PS} (C : Cx γ b_M_core 4 (some .int) "PackagePickModel" (rk 0) [(cI, .int), (cZ, .boolean)]) (hQ : QI γ [(cI, .int), (cZ, .boolean)] (WM cI cZ h) r0 u0) (a1 : Int32) (u : PS) (hf : f_M_core a1 u = some (r0, u0)) : AtG γ (WM cI cZ h) 4 0 0 0 [(0, .ref (h 0)), (1, .int a1)] [] u := by
  unfold f_M_core at hf
  refine x_iconst (v := 0) C d_M_core_0 (by decide) ?_
  refine x_istore_n (lv' := [(2, .int (0 : Int32)), (0, .ref (h 0)), (1, .int a1)]) C d_M_core_1 rfl (by decide) rfl ?_
  refine x_iload_n C d_M_core_2 rfl (k := 2) rfl ?_
  refine x_istore_n (lv' := [(3, .int a1), (2, .int (0 : Int32)), (0, .ref (h 0)), (1, .int a1)]) C d_M_core_3 rfl (by decide) rfl ?_
  refine x_sub (lv' := [(0, .ref (h 0)), (1, .int a1), (2, .int (0 : Int32)), (3, .int a1)]) [2, 3, 1, 0] rfl ?_
  exact wl_M_core_4 C hQ NF a1 (0 : Int32) a1 u hf
theorem c_M_core {l : Launch} {D : va_G} {cI cZ : ClassId} {h : Nat → Nat} (a1 : Int32) (u : PS) {r0 : Int32 × PS} (hf : f_M_core a1 u = some r0) : CtI l y_M_core b_M_core 4 (some .int) (rk 0) D [(cI, .int), (cZ, .boolean)] (WM cI cZ h) [.ref (h 0), .int a1] u r0.1 r0.2 := ct_ofI (by decide) (Nat.le_of_ble_eq_true rfl) (fun γ _ _ C hQ => w_M_core C hQ a1 u hf)
-- ---- PackagePickModel.count(I)I
def b_M_count_54 (k54 : Int32 → Int32 → PS → Option (Int32 × PS)) (x2 : Int32) (x3 : Int32) (u : PS) : Option (Int32 × PS) :=
  if (28 : Int32) ≤ x3 then
    some (x2, u)
  else
    ck (inb x3 28) <|
    if (u.2 0 x3.toNatClampNeg) = 0 then
      k54 (x2 + (0 : Int32)) (x3 + (1 : Int32)) u
    else
      k54 (x2 + (1 : Int32)) (x3 + (1 : Int32)) u
set_option maxRecDepth 100000 in
set_option maxHeartbeats 4000000 in
theorem w_M_count_54 {γ : CX} {cI cZ : ClassId} {h : Nat → Nat} {r0 : Int32} {u0 : PS} (C : Cx γ b_M_count 4 (some .int) "PackagePickModel" (rk 1) [(cI, .int), (cZ, .boolean)]) (hQ : QI γ [(cI, .int), (cZ, .boolean)] (WM cI cZ h) r0 u0) (k54 : Int32 → Int32 → PS → Option (Int32 × PS)) (hk54 : ∀ (x2 : Int32) (x3 : Int32) (u : PS), k54 x2 x3 u = some (r0, u0) → AtG γ (WM cI cZ h) 4 0 0 54 [(0, .ref (h 0)), (2, .int x2), (3, .int x3)] [] u) (x2 : Int32) (x3 : Int32) (u : PS) (hf : b_M_count_54 k54 x2 x3 u = some (r0, u0)) : AtG γ (WM cI cZ h) 4 0 0 54 [(0, .ref (h 0)), (2, .int x2), (3, .int x3)] [] u := by
  unfold b_M_count_54 at hf
  refine x_iload_n C d_M_count_54 rfl (k := 2) rfl ?_
  refine x_bipush (v := 28) C d_M_count_55 (by decide) ?_
  refine x_icmp_ge (tgt := 83) C d_M_count_57 (by decide) (fun hc => ?_) (fun hc => ?_)
  · rw [if_pos hc] at hf
    refine x_iload_n C d_M_count_83 rfl (k := 1) rfl ?_
    exact x_iret C hQ (Prod.mk.inj (Option.some.inj hf)).1 (Prod.mk.inj (Option.some.inj hf)).2 d_M_count_84
  · rw [if_neg hc] at hf
    refine x_iload_n C d_M_count_60 rfl (k := 1) rfl ?_
    refine x_aload_n C d_M_count_61 rfl (k := 0) rfl ?_
    refine gM_M_there C mf_M_7 d_M_count_62 ?_
    refine x_iload_n C d_M_count_65 rfl (k := 2) rfl ?_
    obtain ⟨hin, hf⟩ := ck_some hf
    refine aldM_1 (v := (u.2 0 x3.toNatClampNeg)) C hin rfl d_M_count_66 ?_
    refine x_if_eq (tgt := 74) C d_M_count_67 (by decide) (fun hc => ?_) (fun hc => ?_)
    · rw [if_pos hc] at hf
      refine x_iconst (v := 0) C d_M_count_74 (by decide) ?_
      refine x_iadd C d_M_count_75 ?_
      refine x_istore_n (lv' := [(2, .int (x2 + (0 : Int32))), (0, .ref (h 0)), (3, .int x3)]) C d_M_count_76 rfl (by decide) rfl ?_
      refine x_iinc (v := (x3 + (1 : Int32))) (lv' := [(3, .int (x3 + (1 : Int32))), (2, .int (x2 + (0 : Int32))), (0, .ref (h 0))]) C d_M_count_77 (k := 2) rfl rfl (by decide) rfl ?_
      refine x_goto (tgt := 54) C d_M_count_80 (by decide) ?_
      refine x_sub (lv' := [(0, .ref (h 0)), (2, .int (x2 + (0 : Int32))), (3, .int (x3 + (1 : Int32)))]) [2, 1, 0] rfl ?_
      exact hk54 (x2 + (0 : Int32)) (x3 + (1 : Int32)) u hf
    · rw [if_neg hc] at hf
      refine x_iconst (v := 1) C d_M_count_70 (by decide) ?_
      refine x_goto (tgt := 75) C d_M_count_71 (by decide) ?_
      refine x_iadd C d_M_count_75 ?_
      refine x_istore_n (lv' := [(2, .int (x2 + (1 : Int32))), (0, .ref (h 0)), (3, .int x3)]) C d_M_count_76 rfl (by decide) rfl ?_
      refine x_iinc (v := (x3 + (1 : Int32))) (lv' := [(3, .int (x3 + (1 : Int32))), (2, .int (x2 + (1 : Int32))), (0, .ref (h 0))]) C d_M_count_77 (k := 2) rfl rfl (by decide) rfl ?_
      refine x_goto (tgt := 54) C d_M_count_80 (by decide) ?_
      refine x_sub (lv' := [(0, .ref (h 0)), (2, .int (x2 + (1 : Int32))), (3, .int (x3 + (1 : Int32)))]) [2, 1, 0] rfl ?_
      exact hk54 (x2 + (1 : Int32)) (x3 + (1 : Int32)) u hf
def l_M_count_54 : Nat → Int32 → Int32 → PS → Option (Int32 × PS)
  | 0 => fun _ _ _ => none
  | n + 1 => b_M_count_54 (l_M_count_54 n)
theorem wl_M_count_54 {γ : CX} {cI cZ : ClassId} {h : Nat → Nat} {r0 : Int32} {u0 : PS} (C : Cx γ b_M_count 4 (some .int) "PackagePickModel" (rk 1) [(cI, .int), (cZ, .boolean)]) (hQ : QI γ [(cI, .int), (cZ, .boolean)] (WM cI cZ h) r0 u0) (n : Nat) : ∀ (x2 : Int32) (x3 : Int32) (u : PS), l_M_count_54 n x2 x3 u = some (r0, u0) → AtG γ (WM cI cZ h) 4 0 0 54 [(0, .ref (h 0)), (2, .int x2), (3, .int x3)] [] u := by
  induction n with
  | zero => intro x2 x3 u hf; cases hf
  | succ n ih => intro x2 x3 u hf; exact w_M_count_54 C hQ (l_M_count_54 n) ih x2 x3 u hf
def b_M_count_87 (k87 : Int32 → Int32 → PS → Option (Int32 × PS)) (x2 : Int32) (x3 : Int32) (u : PS) : Option (Int32 × PS) :=
  if (28 : Int32) ≤ x3 then
    some (x2, u)
  else
    ck (inb x3 28) <|
    k87 (x2 + (u.2 1 x3.toNatClampNeg)) (x3 + (1 : Int32)) u
set_option maxRecDepth 100000 in
set_option maxHeartbeats 4000000 in
theorem w_M_count_87 {γ : CX} {cI cZ : ClassId} {h : Nat → Nat} {r0 : Int32} {u0 : PS} (C : Cx γ b_M_count 4 (some .int) "PackagePickModel" (rk 1) [(cI, .int), (cZ, .boolean)]) (hQ : QI γ [(cI, .int), (cZ, .boolean)] (WM cI cZ h) r0 u0) (k87 : Int32 → Int32 → PS → Option (Int32 × PS)) (hk87 : ∀ (x2 : Int32) (x3 : Int32) (u : PS), k87 x2 x3 u = some (r0, u0) → AtG γ (WM cI cZ h) 4 0 0 87 [(0, .ref (h 0)), (2, .int x2), (3, .int x3)] [] u) (x2 : Int32) (x3 : Int32) (u : PS) (hf : b_M_count_87 k87 x2 x3 u = some (r0, u0)) : AtG γ (WM cI cZ h) 4 0 0 87 [(0, .ref (h 0)), (2, .int x2), (3, .int x3)] [] u := by
  unfold b_M_count_87 at hf
  refine x_iload_n C d_M_count_87 rfl (k := 2) rfl ?_
  refine x_bipush (v := 28) C d_M_count_88 (by decide) ?_
  refine x_icmp_ge (tgt := 108) C d_M_count_90 (by decide) (fun hc => ?_) (fun hc => ?_)
  · rw [if_pos hc] at hf
    refine x_iload_n C d_M_count_108 rfl (k := 1) rfl ?_
    exact x_iret C hQ (Prod.mk.inj (Option.some.inj hf)).1 (Prod.mk.inj (Option.some.inj hf)).2 d_M_count_109
  · rw [if_neg hc] at hf
    refine x_iload_n C d_M_count_93 rfl (k := 1) rfl ?_
    refine x_aload_n C d_M_count_94 rfl (k := 0) rfl ?_
    refine gM_M_needs C mf_M_13 d_M_count_95 ?_
    refine x_iload_n C d_M_count_98 rfl (k := 2) rfl ?_
    obtain ⟨hin, hf⟩ := ck_some hf
    refine aldM_2 (v := (u.2 1 x3.toNatClampNeg)) C hin rfl d_M_count_99 ?_
    refine x_iadd C d_M_count_100 ?_
    refine x_istore_n (lv' := [(2, .int (x2 + (u.2 1 x3.toNatClampNeg))), (0, .ref (h 0)), (3, .int x3)]) C d_M_count_101 rfl (by decide) rfl ?_
    refine x_iinc (v := (x3 + (1 : Int32))) (lv' := [(3, .int (x3 + (1 : Int32))), (2, .int (x2 + (u.2 1 x3.toNatClampNeg))), (0, .ref (h 0))]) C d_M_count_102 (k := 2) rfl rfl (by decide) rfl ?_
    refine x_goto (tgt := 87) C d_M_count_105 (by decide) ?_
    refine x_sub (lv' := [(0, .ref (h 0)), (2, .int (x2 + (u.2 1 x3.toNatClampNeg))), (3, .int (x3 + (1 : Int32)))]) [2, 1, 0] rfl ?_
    exact hk87 (x2 + (u.2 1 x3.toNatClampNeg)) (x3 + (1 : Int32)) u hf
def l_M_count_87 : Nat → Int32 → Int32 → PS → Option (Int32 × PS)
  | 0 => fun _ _ _ => none
  | n + 1 => b_M_count_87 (l_M_count_87 n)
theorem wl_M_count_87 {γ : CX} {cI cZ : ClassId} {h : Nat → Nat} {r0 : Int32} {u0 : PS} (C : Cx γ b_M_count 4 (some .int) "PackagePickModel" (rk 1) [(cI, .int), (cZ, .boolean)]) (hQ : QI γ [(cI, .int), (cZ, .boolean)] (WM cI cZ h) r0 u0) (n : Nat) : ∀ (x2 : Int32) (x3 : Int32) (u : PS), l_M_count_87 n x2 x3 u = some (r0, u0) → AtG γ (WM cI cZ h) 4 0 0 87 [(0, .ref (h 0)), (2, .int x2), (3, .int x3)] [] u := by
  induction n with
  | zero => intro x2 x3 u hf; cases hf
  | succ n ih => intro x2 x3 u hf; exact w_M_count_87 C hQ (l_M_count_87 n) ih x2 x3 u hf
def b_M_count_122 (k122 : Int32 → Int32 → PS → Option (Int32 × PS)) (x2 : Int32) (x3 : Int32) (u : PS) : Option (Int32 × PS) :=
  if (7 : Int32) ≤ x3 then
    some (x2, u)
  else
    ck (inb x3 7) <|
    if (u.2 12 x3.toNatClampNeg) = (-1 : Int32) then
      k122 (x2 + (0 : Int32)) (x3 + (1 : Int32)) u
    else
      k122 (x2 + (1 : Int32)) (x3 + (1 : Int32)) u
set_option maxRecDepth 100000 in
set_option maxHeartbeats 4000000 in
theorem w_M_count_122 {γ : CX} {cI cZ : ClassId} {h : Nat → Nat} {r0 : Int32} {u0 : PS} (C : Cx γ b_M_count 4 (some .int) "PackagePickModel" (rk 1) [(cI, .int), (cZ, .boolean)]) (hQ : QI γ [(cI, .int), (cZ, .boolean)] (WM cI cZ h) r0 u0) (k122 : Int32 → Int32 → PS → Option (Int32 × PS)) (hk122 : ∀ (x2 : Int32) (x3 : Int32) (u : PS), k122 x2 x3 u = some (r0, u0) → AtG γ (WM cI cZ h) 4 0 0 122 [(0, .ref (h 0)), (2, .int x2), (3, .int x3)] [] u) (x2 : Int32) (x3 : Int32) (u : PS) (hf : b_M_count_122 k122 x2 x3 u = some (r0, u0)) : AtG γ (WM cI cZ h) 4 0 0 122 [(0, .ref (h 0)), (2, .int x2), (3, .int x3)] [] u := by
  unfold b_M_count_122 at hf
  refine x_iload_n C d_M_count_122 rfl (k := 2) rfl ?_
  refine x_bipush (v := 7) C d_M_count_123 (by decide) ?_
  refine x_icmp_ge (tgt := 152) C d_M_count_125 (by decide) (fun hc => ?_) (fun hc => ?_)
  · rw [if_pos hc] at hf
    refine x_iload_n C d_M_count_152 rfl (k := 1) rfl ?_
    exact x_iret C hQ (Prod.mk.inj (Option.some.inj hf)).1 (Prod.mk.inj (Option.some.inj hf)).2 d_M_count_153
  · rw [if_neg hc] at hf
    refine x_iload_n C d_M_count_128 rfl (k := 1) rfl ?_
    refine x_aload_n C d_M_count_129 rfl (k := 0) rfl ?_
    refine gM_M_told C mf_M_47 d_M_count_130 ?_
    refine x_iload_n C d_M_count_133 rfl (k := 2) rfl ?_
    obtain ⟨hin, hf⟩ := ck_some hf
    refine aldM_13 (v := (u.2 12 x3.toNatClampNeg)) C hin rfl d_M_count_134 ?_
    refine x_iconst (v := -1) C d_M_count_135 (by decide) ?_
    refine x_icmp_eq (tgt := 143) C d_M_count_136 (by decide) (fun hc => ?_) (fun hc => ?_)
    · rw [if_pos hc] at hf
      refine x_iconst (v := 0) C d_M_count_143 (by decide) ?_
      refine x_iadd C d_M_count_144 ?_
      refine x_istore_n (lv' := [(2, .int (x2 + (0 : Int32))), (0, .ref (h 0)), (3, .int x3)]) C d_M_count_145 rfl (by decide) rfl ?_
      refine x_iinc (v := (x3 + (1 : Int32))) (lv' := [(3, .int (x3 + (1 : Int32))), (2, .int (x2 + (0 : Int32))), (0, .ref (h 0))]) C d_M_count_146 (k := 2) rfl rfl (by decide) rfl ?_
      refine x_goto (tgt := 122) C d_M_count_149 (by decide) ?_
      refine x_sub (lv' := [(0, .ref (h 0)), (2, .int (x2 + (0 : Int32))), (3, .int (x3 + (1 : Int32)))]) [2, 1, 0] rfl ?_
      exact hk122 (x2 + (0 : Int32)) (x3 + (1 : Int32)) u hf
    · rw [if_neg hc] at hf
      refine x_iconst (v := 1) C d_M_count_139 (by decide) ?_
      refine x_goto (tgt := 144) C d_M_count_140 (by decide) ?_
      refine x_iadd C d_M_count_144 ?_
      refine x_istore_n (lv' := [(2, .int (x2 + (1 : Int32))), (0, .ref (h 0)), (3, .int x3)]) C d_M_count_145 rfl (by decide) rfl ?_
      refine x_iinc (v := (x3 + (1 : Int32))) (lv' := [(3, .int (x3 + (1 : Int32))), (2, .int (x2 + (1 : Int32))), (0, .ref (h 0))]) C d_M_count_146 (k := 2) rfl rfl (by decide) rfl ?_
      refine x_goto (tgt := 122) C d_M_count_149 (by decide) ?_
      refine x_sub (lv' := [(0, .ref (h 0)), (2, .int (x2 + (1 : Int32))), (3, .int (x3 + (1 : Int32)))]) [2, 1, 0] rfl ?_
      exact hk122 (x2 + (1 : Int32)) (x3 + (1 : Int32)) u hf
def l_M_count_122 : Nat → Int32 → Int32 → PS → Option (Int32 × PS)
  | 0 => fun _ _ _ => none
  | n + 1 => b_M_count_122 (l_M_count_122 n)
theorem wl_M_count_122 {γ : CX} {cI cZ : ClassId} {h : Nat → Nat} {r0 : Int32} {u0 : PS} (C : Cx γ b_M_count 4 (some .int) "PackagePickModel" (rk 1) [(cI, .int), (cZ, .boolean)]) (hQ : QI γ [(cI, .int), (cZ, .boolean)] (WM cI cZ h) r0 u0) (n : Nat) : ∀ (x2 : Int32) (x3 : Int32) (u : PS), l_M_count_122 n x2 x3 u = some (r0, u0) → AtG γ (WM cI cZ h) 4 0 0 122 [(0, .ref (h 0)), (2, .int x2), (3, .int x3)] [] u := by
  induction n with
  | zero => intro x2 x3 u hf; cases hf
  | succ n ih => intro x2 x3 u hf; exact w_M_count_122 C hQ (l_M_count_122 n) ih x2 x3 u hf
def b_M_count_156 (k156 : Int32 → Int32 → PS → Option (Int32 × PS)) (x2 : Int32) (x3 : Int32) (u : PS) : Option (Int32 × PS) :=
  if (7 : Int32) ≤ x3 then
    some (x2, u)
  else
    ck (inb x3 7) <|
    if (u.2 13 x3.toNatClampNeg) = (-1 : Int32) then
      k156 (x2 + (0 : Int32)) (x3 + (1 : Int32)) u
    else
      k156 (x2 + (1 : Int32)) (x3 + (1 : Int32)) u
set_option maxRecDepth 100000 in
set_option maxHeartbeats 4000000 in
theorem w_M_count_156 {γ : CX} {cI cZ : ClassId} {h : Nat → Nat} {r0 : Int32} {u0 : PS} (C : Cx γ b_M_count 4 (some .int) "PackagePickModel" (rk 1) [(cI, .int), (cZ, .boolean)]) (hQ : QI γ [(cI, .int), (cZ, .boolean)] (WM cI cZ h) r0 u0) (k156 : Int32 → Int32 → PS → Option (Int32 × PS)) (hk156 : ∀ (x2 : Int32) (x3 : Int32) (u : PS), k156 x2 x3 u = some (r0, u0) → AtG γ (WM cI cZ h) 4 0 0 156 [(0, .ref (h 0)), (2, .int x2), (3, .int x3)] [] u) (x2 : Int32) (x3 : Int32) (u : PS) (hf : b_M_count_156 k156 x2 x3 u = some (r0, u0)) : AtG γ (WM cI cZ h) 4 0 0 156 [(0, .ref (h 0)), (2, .int x2), (3, .int x3)] [] u := by
  unfold b_M_count_156 at hf
  refine x_iload_n C d_M_count_156 rfl (k := 2) rfl ?_
  refine x_bipush (v := 7) C d_M_count_157 (by decide) ?_
  refine x_icmp_ge (tgt := 186) C d_M_count_159 (by decide) (fun hc => ?_) (fun hc => ?_)
  · rw [if_pos hc] at hf
    refine x_iload_n C d_M_count_186 rfl (k := 1) rfl ?_
    exact x_iret C hQ (Prod.mk.inj (Option.some.inj hf)).1 (Prod.mk.inj (Option.some.inj hf)).2 d_M_count_187
  · rw [if_neg hc] at hf
    refine x_iload_n C d_M_count_162 rfl (k := 1) rfl ?_
    refine x_aload_n C d_M_count_163 rfl (k := 0) rfl ?_
    refine gM_M_kept C mf_M_50 d_M_count_164 ?_
    refine x_iload_n C d_M_count_167 rfl (k := 2) rfl ?_
    obtain ⟨hin, hf⟩ := ck_some hf
    refine aldM_14 (v := (u.2 13 x3.toNatClampNeg)) C hin rfl d_M_count_168 ?_
    refine x_iconst (v := -1) C d_M_count_169 (by decide) ?_
    refine x_icmp_eq (tgt := 177) C d_M_count_170 (by decide) (fun hc => ?_) (fun hc => ?_)
    · rw [if_pos hc] at hf
      refine x_iconst (v := 0) C d_M_count_177 (by decide) ?_
      refine x_iadd C d_M_count_178 ?_
      refine x_istore_n (lv' := [(2, .int (x2 + (0 : Int32))), (0, .ref (h 0)), (3, .int x3)]) C d_M_count_179 rfl (by decide) rfl ?_
      refine x_iinc (v := (x3 + (1 : Int32))) (lv' := [(3, .int (x3 + (1 : Int32))), (2, .int (x2 + (0 : Int32))), (0, .ref (h 0))]) C d_M_count_180 (k := 2) rfl rfl (by decide) rfl ?_
      refine x_goto (tgt := 156) C d_M_count_183 (by decide) ?_
      refine x_sub (lv' := [(0, .ref (h 0)), (2, .int (x2 + (0 : Int32))), (3, .int (x3 + (1 : Int32)))]) [2, 1, 0] rfl ?_
      exact hk156 (x2 + (0 : Int32)) (x3 + (1 : Int32)) u hf
    · rw [if_neg hc] at hf
      refine x_iconst (v := 1) C d_M_count_173 (by decide) ?_
      refine x_goto (tgt := 178) C d_M_count_174 (by decide) ?_
      refine x_iadd C d_M_count_178 ?_
      refine x_istore_n (lv' := [(2, .int (x2 + (1 : Int32))), (0, .ref (h 0)), (3, .int x3)]) C d_M_count_179 rfl (by decide) rfl ?_
      refine x_iinc (v := (x3 + (1 : Int32))) (lv' := [(3, .int (x3 + (1 : Int32))), (2, .int (x2 + (1 : Int32))), (0, .ref (h 0))]) C d_M_count_180 (k := 2) rfl rfl (by decide) rfl ?_
      refine x_goto (tgt := 156) C d_M_count_183 (by decide) ?_
      refine x_sub (lv' := [(0, .ref (h 0)), (2, .int (x2 + (1 : Int32))), (3, .int (x3 + (1 : Int32)))]) [2, 1, 0] rfl ?_
      exact hk156 (x2 + (1 : Int32)) (x3 + (1 : Int32)) u hf
def l_M_count_156 : Nat → Int32 → Int32 → PS → Option (Int32 × PS)
  | 0 => fun _ _ _ => none
  | n + 1 => b_M_count_156 (l_M_count_156 n)
theorem wl_M_count_156 {γ : CX} {cI cZ : ClassId} {h : Nat → Nat} {r0 : Int32} {u0 : PS} (C : Cx γ b_M_count 4 (some .int) "PackagePickModel" (rk 1) [(cI, .int), (cZ, .boolean)]) (hQ : QI γ [(cI, .int), (cZ, .boolean)] (WM cI cZ h) r0 u0) (n : Nat) : ∀ (x2 : Int32) (x3 : Int32) (u : PS), l_M_count_156 n x2 x3 u = some (r0, u0) → AtG γ (WM cI cZ h) 4 0 0 156 [(0, .ref (h 0)), (2, .int x2), (3, .int x3)] [] u := by
  induction n with
  | zero => intro x2 x3 u hf; cases hf
  | succ n ih => intro x2 x3 u hf; exact w_M_count_156 C hQ (l_M_count_156 n) ih x2 x3 u hf
def f_M_count (a1 : Int32) (u : PS) : Option (Int32 × PS) :=
  if a1 = (0 : Int32) then
    l_M_count_54 NF (0 : Int32) (0 : Int32) (si u 0 (0 : Int32))
  else
  if a1 = (1 : Int32) then
    l_M_count_87 NF (0 : Int32) (0 : Int32) (si u 0 (0 : Int32))
  else
  if a1 = (2 : Int32) then
    some ((u.1 2), (si u 0 (0 : Int32)))
  else
  if a1 = (3 : Int32) then
    some ((u.1 1), (si u 0 (0 : Int32)))
  else
  if a1 = (4 : Int32) then
    l_M_count_122 NF (0 : Int32) (0 : Int32) (si u 0 (0 : Int32))
  else
  if a1 = (5 : Int32) then
    l_M_count_156 NF (0 : Int32) (0 : Int32) (si u 0 (0 : Int32))
  else
  if a1 = (6 : Int32) then
    (f_M_differ (si u 0 (0 : Int32))).bind fun r1 =>
    some (r1, (si u 0 (0 : Int32)))
  else
  some ((-1 : Int32), (si u 0 (0 : Int32)))
set_option maxRecDepth 100000 in
set_option maxHeartbeats 4000000 in
theorem w_M_count {γ : CX} {cI cZ : ClassId} {h : Nat → Nat} {r0 : Int32} {u0 : PS} (C : Cx γ b_M_count 4 (some .int) "PackagePickModel" (rk 1) [(cI, .int), (cZ, .boolean)]) (hQ : QI γ [(cI, .int), (cZ, .boolean)] (WM cI cZ h) r0 u0) (a1 : Int32) (u : PS) (hf : f_M_count a1 u = some (r0, u0)) : AtG γ (WM cI cZ h) 4 0 0 0 [(0, .ref (h 0)), (1, .int a1)] [] u := by
  unfold f_M_count at hf
  refine x_aload_n C d_M_count_0 rfl (k := 0) rfl ?_
  refine x_iconst (v := 0) C d_M_count_1 (by decide) ?_
  refine pM_M_thrown C mf_M_56 d_M_count_2 ?_
  refine x_iconst (v := 0) C d_M_count_5 (by decide) ?_
  refine x_istore_n (lv' := [(2, .int (0 : Int32)), (0, .ref (h 0)), (1, .int a1)]) C d_M_count_6 rfl (by decide) rfl ?_
  refine x_iload_n C d_M_count_7 rfl (k := 2) rfl ?_
  by_cases hc0 : a1 = (0 : Int32)
  · rw [if_pos hc0] at hf
    refine x_tsw (tgt := 52) C d_M_count_8 hc0 rfl (by decide) ?_
    refine x_iconst (v := 0) C d_M_count_52 (by decide) ?_
    refine x_istore_n (lv' := [(3, .int (0 : Int32)), (2, .int (0 : Int32)), (0, .ref (h 0)), (1, .int a1)]) C d_M_count_53 rfl (by decide) rfl ?_
    refine x_sub (lv' := [(0, .ref (h 0)), (2, .int (0 : Int32)), (3, .int (0 : Int32))]) [2, 1, 0] rfl ?_
    exact wl_M_count_54 C hQ NF (0 : Int32) (0 : Int32) (si u 0 (0 : Int32)) hf
  rw [if_neg hc0] at hf
  by_cases hc1 : a1 = (1 : Int32)
  · rw [if_pos hc1] at hf
    refine x_tsw (tgt := 85) C d_M_count_8 hc1 rfl (by decide) ?_
    refine x_iconst (v := 0) C d_M_count_85 (by decide) ?_
    refine x_istore_n (lv' := [(3, .int (0 : Int32)), (2, .int (0 : Int32)), (0, .ref (h 0)), (1, .int a1)]) C d_M_count_86 rfl (by decide) rfl ?_
    refine x_sub (lv' := [(0, .ref (h 0)), (2, .int (0 : Int32)), (3, .int (0 : Int32))]) [2, 1, 0] rfl ?_
    exact wl_M_count_87 C hQ NF (0 : Int32) (0 : Int32) (si u 0 (0 : Int32)) hf
  rw [if_neg hc1] at hf
  by_cases hc2 : a1 = (2 : Int32)
  · rw [if_pos hc2] at hf
    refine x_tsw (tgt := 110) C d_M_count_8 hc2 rfl (by decide) ?_
    refine x_aload_n C d_M_count_110 rfl (k := 1) rfl ?_
    refine gM_M_bans (v := (u.1 2)) C mf_M_72 rfl d_M_count_111 ?_
    exact x_iret C hQ (Prod.mk.inj (Option.some.inj hf)).1 (Prod.mk.inj (Option.some.inj hf)).2 d_M_count_114
  rw [if_neg hc2] at hf
  by_cases hc3 : a1 = (3 : Int32)
  · rw [if_pos hc3] at hf
    refine x_tsw (tgt := 115) C d_M_count_8 hc3 rfl (by decide) ?_
    refine x_aload_n C d_M_count_115 rfl (k := 1) rfl ?_
    refine gM_M_asked (v := (u.1 1)) C mf_M_75 rfl d_M_count_116 ?_
    exact x_iret C hQ (Prod.mk.inj (Option.some.inj hf)).1 (Prod.mk.inj (Option.some.inj hf)).2 d_M_count_119
  rw [if_neg hc3] at hf
  by_cases hc4 : a1 = (4 : Int32)
  · rw [if_pos hc4] at hf
    refine x_tsw (tgt := 120) C d_M_count_8 hc4 rfl (by decide) ?_
    refine x_iconst (v := 0) C d_M_count_120 (by decide) ?_
    refine x_istore_n (lv' := [(3, .int (0 : Int32)), (2, .int (0 : Int32)), (0, .ref (h 0)), (1, .int a1)]) C d_M_count_121 rfl (by decide) rfl ?_
    refine x_sub (lv' := [(0, .ref (h 0)), (2, .int (0 : Int32)), (3, .int (0 : Int32))]) [2, 1, 0] rfl ?_
    exact wl_M_count_122 C hQ NF (0 : Int32) (0 : Int32) (si u 0 (0 : Int32)) hf
  rw [if_neg hc4] at hf
  by_cases hc5 : a1 = (5 : Int32)
  · rw [if_pos hc5] at hf
    refine x_tsw (tgt := 154) C d_M_count_8 hc5 rfl (by decide) ?_
    refine x_iconst (v := 0) C d_M_count_154 (by decide) ?_
    refine x_istore_n (lv' := [(3, .int (0 : Int32)), (2, .int (0 : Int32)), (0, .ref (h 0)), (1, .int a1)]) C d_M_count_155 rfl (by decide) rfl ?_
    refine x_sub (lv' := [(0, .ref (h 0)), (2, .int (0 : Int32)), (3, .int (0 : Int32))]) [2, 1, 0] rfl ?_
    exact wl_M_count_156 C hQ NF (0 : Int32) (0 : Int32) (si u 0 (0 : Int32)) hf
  rw [if_neg hc5] at hf
  by_cases hc6 : a1 = (6 : Int32)
  · rw [if_pos hc6] at hf
    refine x_tsw (tgt := 188) C d_M_count_8 hc6 rfl (by decide) ?_
    refine x_aload_n C d_M_count_188 rfl (k := 1) rfl ?_
    obtain ⟨r1, hc1, hf⟩ := Option.bind_eq_some_iff.mp hf
    refine x_callIv (q0 := 0) (ci := 4) (rest := []) C (c_M_differ (si u 0 (0 : Int32)) hc1) kc_M_differ (rok (by decide) (by decide)) mm_M_127 ms_M_differ ml_M_differ rfl rfl rfl rfl (Nat.le_of_ble_eq_true rfl) d_M_count_189 ?_
    exact x_iret C hQ (Prod.mk.inj (Option.some.inj hf)).1 (Prod.mk.inj (Option.some.inj hf)).2 d_M_count_192
  rw [if_neg hc6] at hf
  refine x_tswo (tgt := 193) C d_M_count_8 (sw_out_0_6 hc0 hc1 hc2 hc3 hc4 hc5 hc6) (by decide) ?_
  refine x_iconst (v := -1) C d_M_count_193 (by decide) ?_
  exact x_iret C hQ (Prod.mk.inj (Option.some.inj hf)).1 (Prod.mk.inj (Option.some.inj hf)).2 d_M_count_194
theorem c_M_count {l : Launch} {D : va_G} {cI cZ : ClassId} {h : Nat → Nat} (a1 : Int32) (u : PS) {r0 : Int32 × PS} (hf : f_M_count a1 u = some r0) : CtI l y_M_count b_M_count 4 (some .int) (rk 1) D [(cI, .int), (cZ, .boolean)] (WM cI cZ h) [.ref (h 0), .int a1] u r0.1 r0.2 := ct_ofI (by decide) (Nat.le_of_ble_eq_true rfl) (fun γ _ _ C hQ => w_M_count C hQ a1 u hf)
