section
-- ===== PART A: goes FIRST, ahead of the names: the tables' words, and 'selects' of the private methods out of them =====
/-- a private method of a class that the tables say can be made, by its rows of tables_1 -/
def lw_okq (q : MethodName × Nat) : Prop := (q.1.cls ≠ "java/lang/invoke/MethodHandle" ∧ q.1.cls ≠ "java/lang/invoke/VarHandle") ∧ Cond.instantiable q.1.cls q.2 ∈ tables_1 ∧ Cond.privateMethod q.1 ∈ tables_1 ∧ Cond.instanceMethod q.1 ∈ tables_1
theorem lw_p0 : lw_okq (⟨"PackagePick", "tallyChoices", "(III)V"⟩, 6) := ⟨⟨by decide +kernel, by decide +kernel⟩, List.mem_of_getElem? (i := 15) (by decide +kernel), List.mem_of_getElem? (i := 240) (by decide +kernel), List.mem_of_getElem? (i := 241) (by decide +kernel)⟩
theorem lw_p1 : lw_okq (⟨"PackagePick", "explore", "(IIII)V"⟩, 6) := ⟨⟨by decide +kernel, by decide +kernel⟩, List.mem_of_getElem? (i := 15) (by decide +kernel), List.mem_of_getElem? (i := 252) (by decide +kernel), List.mem_of_getElem? (i := 253) (by decide +kernel)⟩
theorem lw_p2 : lw_okq (⟨"java/lang/Throwable", "fillInStackTrace", "(I)Ljava/lang/Throwable;"⟩, 6) := ⟨⟨by decide +kernel, by decide +kernel⟩, List.mem_of_getElem? (i := 337) (by decide +kernel), List.mem_of_getElem? (i := 335) (by decide +kernel), List.mem_of_getElem? (i := 336) (by decide +kernel)⟩
theorem lw_p3 : lw_okq (⟨"PackagePick", "fewestHindering", "()I"⟩, 6) := ⟨⟨by decide +kernel, by decide +kernel⟩, List.mem_of_getElem? (i := 15) (by decide +kernel), List.mem_of_getElem? (i := 367) (by decide +kernel), List.mem_of_getElem? (i := 368) (by decide +kernel)⟩
theorem lw_p4 : lw_okq (⟨"PackagePick", "hasChoice", "(I)Z"⟩, 6) := ⟨⟨by decide +kernel, by decide +kernel⟩, List.mem_of_getElem? (i := 15) (by decide +kernel), List.mem_of_getElem? (i := 371) (by decide +kernel), List.mem_of_getElem? (i := 372) (by decide +kernel)⟩
theorem lw_p5 : lw_okq (⟨"PackagePickModel", "raise", "(I)I"⟩, 21) := ⟨⟨by decide +kernel, by decide +kernel⟩, List.mem_of_getElem? (i := 416) (by decide +kernel), List.mem_of_getElem? (i := 528) (by decide +kernel), List.mem_of_getElem? (i := 529) (by decide +kernel)⟩
theorem lw_p6 : lw_okq (⟨"PackagePickModel", "all", "()I"⟩, 21) := ⟨⟨by decide +kernel, by decide +kernel⟩, List.mem_of_getElem? (i := 416) (by decide +kernel), List.mem_of_getElem? (i := 532) (by decide +kernel), List.mem_of_getElem? (i := 533) (by decide +kernel)⟩
theorem lw_p7 : lw_okq (⟨"PackagePickModel", "begin", "(I)V"⟩, 21) := ⟨⟨by decide +kernel, by decide +kernel⟩, List.mem_of_getElem? (i := 416) (by decide +kernel), List.mem_of_getElem? (i := 536) (by decide +kernel), List.mem_of_getElem? (i := 537) (by decide +kernel)⟩
theorem lw_p8 : lw_okq (⟨"PackagePickModel", "finds", "()Z"⟩, 21) := ⟨⟨by decide +kernel, by decide +kernel⟩, List.mem_of_getElem? (i := 416) (by decide +kernel), List.mem_of_getElem? (i := 540) (by decide +kernel), List.mem_of_getElem? (i := 541) (by decide +kernel)⟩
theorem lw_p9 : lw_okq (⟨"PackagePickModel", "goes", "(I)Z"⟩, 21) := ⟨⟨by decide +kernel, by decide +kernel⟩, List.mem_of_getElem? (i := 416) (by decide +kernel), List.mem_of_getElem? (i := 544) (by decide +kernel), List.mem_of_getElem? (i := 545) (by decide +kernel)⟩
theorem lw_p10 : lw_okq (⟨"PackagePickModel", "counts", "(I)Z"⟩, 21) := ⟨⟨by decide +kernel, by decide +kernel⟩, List.mem_of_getElem? (i := 416) (by decide +kernel), List.mem_of_getElem? (i := 548) (by decide +kernel), List.mem_of_getElem? (i := 549) (by decide +kernel)⟩
theorem lw_p11 : lw_okq (⟨"PackagePickModel", "isMet", "(III)Z"⟩, 21) := ⟨⟨by decide +kernel, by decide +kernel⟩, List.mem_of_getElem? (i := 416) (by decide +kernel), List.mem_of_getElem? (i := 552) (by decide +kernel), List.mem_of_getElem? (i := 553) (by decide +kernel)⟩
theorem lw_p12 : lw_okq (⟨"PackagePickModel", "isTight", "()Z"⟩, 21) := ⟨⟨by decide +kernel, by decide +kernel⟩, List.mem_of_getElem? (i := 416) (by decide +kernel), List.mem_of_getElem? (i := 556) (by decide +kernel), List.mem_of_getElem? (i := 557) (by decide +kernel)⟩
theorem lw_p13 : lw_okq (⟨"PackagePickModel", "cost", "(I)I"⟩, 21) := ⟨⟨by decide +kernel, by decide +kernel⟩, List.mem_of_getElem? (i := 416) (by decide +kernel), List.mem_of_getElem? (i := 560) (by decide +kernel), List.mem_of_getElem? (i := 561) (by decide +kernel)⟩
theorem lw_p14 : lw_okq (⟨"PackagePickModel", "findCore", "()V"⟩, 21) := ⟨⟨by decide +kernel, by decide +kernel⟩, List.mem_of_getElem? (i := 416) (by decide +kernel), List.mem_of_getElem? (i := 564) (by decide +kernel), List.mem_of_getElem? (i := 565) (by decide +kernel)⟩
theorem lw_p15 : lw_okq (⟨"PackagePickModel", "differ", "()I"⟩, 21) := ⟨⟨by decide +kernel, by decide +kernel⟩, List.mem_of_getElem? (i := 416) (by decide +kernel), List.mem_of_getElem? (i := 578) (by decide +kernel), List.mem_of_getElem? (i := 579) (by decide +kernel)⟩
def lw_privs_1 : List (MethodName × Nat) := [(⟨"PackagePick", "tallyChoices", "(III)V"⟩, 6), (⟨"PackagePick", "explore", "(IIII)V"⟩, 6), (⟨"java/lang/Throwable", "fillInStackTrace", "(I)Ljava/lang/Throwable;"⟩, 6), (⟨"PackagePick", "fewestHindering", "()I"⟩, 6), (⟨"PackagePick", "hasChoice", "(I)Z"⟩, 6), (⟨"PackagePickModel", "raise", "(I)I"⟩, 21), (⟨"PackagePickModel", "all", "()I"⟩, 21), (⟨"PackagePickModel", "begin", "(I)V"⟩, 21), (⟨"PackagePickModel", "finds", "()Z"⟩, 21), (⟨"PackagePickModel", "goes", "(I)Z"⟩, 21), (⟨"PackagePickModel", "counts", "(I)Z"⟩, 21), (⟨"PackagePickModel", "isMet", "(III)Z"⟩, 21), (⟨"PackagePickModel", "isTight", "()Z"⟩, 21), (⟨"PackagePickModel", "cost", "(I)I"⟩, 21), (⟨"PackagePickModel", "findCore", "()V"⟩, 21), (⟨"PackagePickModel", "differ", "()I"⟩, 21)]
theorem lw_r1 : ∀ q ∈ lw_privs_1, lw_okq q := List.forall_mem_cons.mpr ⟨lw_p0, List.forall_mem_cons.mpr ⟨lw_p1, List.forall_mem_cons.mpr ⟨lw_p2, List.forall_mem_cons.mpr ⟨lw_p3, List.forall_mem_cons.mpr ⟨lw_p4, List.forall_mem_cons.mpr ⟨lw_p5, List.forall_mem_cons.mpr ⟨lw_p6, List.forall_mem_cons.mpr ⟨lw_p7, List.forall_mem_cons.mpr ⟨lw_p8, List.forall_mem_cons.mpr ⟨lw_p9, List.forall_mem_cons.mpr ⟨lw_p10, List.forall_mem_cons.mpr ⟨lw_p11, List.forall_mem_cons.mpr ⟨lw_p12, List.forall_mem_cons.mpr ⟨lw_p13, List.forall_mem_cons.mpr ⟨lw_p14, List.forall_mem_cons.mpr ⟨lw_p15, fun _ h => absurd h List.not_mem_nil⟩⟩⟩⟩⟩⟩⟩⟩⟩⟩⟩⟩⟩⟩⟩⟩
def lw_privs : List (MethodName × Nat) := lw_privs_1
def lw_tbl : List Cond := k2_sels lw_privs ++ tables_1
theorem lw_privs_ok : ∀ q ∈ lw_privs, lw_okq q := lw_r1
def RR_C : String := "PackagePick$Catalog"
def FF_C : u_T := fun k => match k with
  | 0 => ("PackagePick$Catalog", "needs", "[I", true)
  | 1 => ("PackagePick$Catalog", "wanted", "[I", true)
  | 2 => ("PackagePick$Catalog", "unmet", "[I", true)
  | 3 => ("PackagePick$Catalog", "banned", "[I", true)
  | 4 => ("PackagePick$Catalog", "there", "I", false)
  | _ => ("PackagePick$Catalog", "bans", "I", false)
def ft_C : Nat → FieldType := fun k => match k with
  | 0 => .array .int
  | 1 => .array .int
  | 2 => .array .int
  | 3 => .array .int
  | 4 => .int
  | _ => .int
theorem fn_C : ∀ a, a < 6 → ∀ b, b < 6 → a ≠ b → (FF_C a).2.1 ≠ (FF_C b).2.1 := by decide +kernel
theorem ft_C_ok : ∀ k, k < 6 → parseFieldDescriptor (FF_C k).2.2.1 = some (ft_C k) := by decide +kernel
def RR_T : String := "PackagePick$Tally"
def FF_T : u_T := fun k => match k with
  | 0 => ("PackagePick$Tally", "aim", "I", false)
  | 1 => ("PackagePick$Tally", "kept", "I", false)
  | 2 => ("PackagePick$Tally", "limit", "I", false)
  | 3 => ("PackagePick$Tally", "found", "I", false)
  | 4 => ("PackagePick$Tally", "seen", "I", false)
  | 5 => ("PackagePick$Tally", "absent", "I", false)
  | 6 => ("PackagePick$Tally", "best", "I", false)
  | _ => ("PackagePick$Tally", "bestCost", "I", false)
def ft_T : Nat → FieldType := fun k => match k with
  | 0 => .int
  | 1 => .int
  | 2 => .int
  | 3 => .int
  | 4 => .int
  | 5 => .int
  | 6 => .int
  | _ => .int
theorem fn_T : ∀ a, a < 8 → ∀ b, b < 8 → a ≠ b → (FF_T a).2.1 ≠ (FF_T b).2.1 := by decide +kernel
theorem ft_T_ok : ∀ k, k < 8 → parseFieldDescriptor (FF_T k).2.2.1 = some (ft_T k) := by decide +kernel
def RR_W : String := "PackagePick$Wishes"
def FF_W : u_T := fun k => match k with
  | 0 => ("PackagePick$Wishes", "wanted", "[I", true)
  | 1 => ("PackagePick$Wishes", "unmet", "[I", true)
  | _ => ("PackagePick$Wishes", "size", "I", false)
def ft_W : Nat → FieldType := fun k => match k with
  | 0 => .array .int
  | 1 => .array .int
  | _ => .int
theorem fn_W : ∀ a, a < 3 → ∀ b, b < 3 → a ≠ b → (FF_W a).2.1 ≠ (FF_W b).2.1 := by decide +kernel
theorem ft_W_ok : ∀ k, k < 3 → parseFieldDescriptor (FF_W k).2.2.1 = some (ft_W k) := by decide +kernel
def RR_X : String := "PackagePick"
def FF_X : u_T := fun k => match k with
  | 0 => ("PackagePick", "catalog", "LPackagePick$Catalog;", true)
  | 1 => ("PackagePick", "wishes", "LPackagePick$Wishes;", true)
  | 2 => ("PackagePick", "tally", "LPackagePick$Tally;", true)
  | 3 => ("PackagePick", "told", "I", false)
  | 4 => ("PackagePick", "kept", "I", false)
  | _ => ("PackagePick", "hindering", "I", false)
def ft_X : Nat → FieldType := fun k => match k with
  | 0 => .object "PackagePick$Catalog"
  | 1 => .object "PackagePick$Wishes"
  | 2 => .object "PackagePick$Tally"
  | 3 => .int
  | 4 => .int
  | _ => .int
theorem fn_X : ∀ a, a < 6 → ∀ b, b < 6 → a ≠ b → (FF_X a).2.1 ≠ (FF_X b).2.1 := by decide +kernel
theorem ft_X_ok : ∀ k, k < 6 → parseFieldDescriptor (FF_X k).2.2.1 = some (ft_X k) := by decide +kernel
def RR_M : String := "PackagePickModel"
def FF_M : u_T := fun k => match k with
  | 0 => ("PackagePickModel", "thrown", "I", false)
  | 1 => ("PackagePickModel", "there", "[Z", true)
  | 2 => ("PackagePickModel", "needs", "[I", true)
  | 3 => ("PackagePickModel", "needOf", "[I", true)
  | 4 => ("PackagePickModel", "needFrom", "[I", true)
  | 5 => ("PackagePickModel", "needTo", "[I", true)
  | 6 => ("PackagePickModel", "asked", "I", false)
  | 7 => ("PackagePickModel", "askedOf", "[I", true)
  | 8 => ("PackagePickModel", "askedFrom", "[I", true)
  | 9 => ("PackagePickModel", "askedTo", "[I", true)
  | 10 => ("PackagePickModel", "bans", "I", false)
  | 11 => ("PackagePickModel", "banOne", "[I", true)
  | 12 => ("PackagePickModel", "banTwo", "[I", true)
  | 13 => ("PackagePickModel", "counting", "I", false)
  | 14 => ("PackagePickModel", "level", "I", false)
  | 15 => ("PackagePickModel", "pick", "[I", true)
  | 16 => ("PackagePickModel", "wanted", "[Z", true)
  | 17 => ("PackagePickModel", "told", "[I", true)
  | 18 => ("PackagePickModel", "kept", "[I", true)
  | 19 => ("PackagePickModel", "best", "[I", true)
  | _ => ("PackagePickModel", "coreMask", "I", false)
def ft_M : Nat → FieldType := fun k => match k with
  | 0 => .int
  | 1 => .array .boolean
  | 2 => .array .int
  | 3 => .array .int
  | 4 => .array .int
  | 5 => .array .int
  | 6 => .int
  | 7 => .array .int
  | 8 => .array .int
  | 9 => .array .int
  | 10 => .int
  | 11 => .array .int
  | 12 => .array .int
  | 13 => .int
  | 14 => .int
  | 15 => .array .int
  | 16 => .array .boolean
  | 17 => .array .int
  | 18 => .array .int
  | 19 => .array .int
  | _ => .int
theorem fn_M : ∀ a, a < 21 → ∀ b, b < 21 → a ≠ b → (FF_M a).2.1 ≠ (FF_M b).2.1 := by decide +kernel
theorem ft_M_ok : ∀ k, k < 21 → parseFieldDescriptor (FF_M k).2.2.1 = some (ft_M k) := by decide +kernel
/-- the classes whose objects the worlds hold -/
abbrev vwCl : List vw_C := [(RR_C, FF_C, 6), (RR_T, FF_T, 8), (RR_W, FF_W, 3), (RR_X, FF_X, 6), (RR_M, FF_M, 21)]
abbrev b_X_init : ByteArray := prog_1_method_1_code
abbrev y_X_init : MethodName := ⟨"PackagePick", "<init>", "()V"⟩
abbrev b_C_init : ByteArray := prog_2_method_1_code
abbrev y_C_init : MethodName := ⟨"PackagePick$Catalog", "<init>", "()V"⟩
abbrev b_W_init : ByteArray := prog_4_method_1_code
abbrev y_W_init : MethodName := ⟨"PackagePick$Wishes", "<init>", "()V"⟩
abbrev b_T_init : ByteArray := prog_3_method_1_code
abbrev y_T_init : MethodName := ⟨"PackagePick$Tally", "<init>", "()V"⟩
abbrev b_X_version : ByteArray := prog_1_method_2_code
abbrev y_X_version : MethodName := ⟨"PackagePick", "version", "(II)Z"⟩
abbrev b_X_isVersion : ByteArray := prog_1_method_20_code
abbrev y_X_isVersion : MethodName := ⟨"PackagePick", "isVersion", "(II)Z"⟩
abbrev b_X_isPackage : ByteArray := prog_1_method_19_code
abbrev y_X_isPackage : MethodName := ⟨"PackagePick", "isPackage", "(I)Z"⟩
abbrev b_X_slotOf : ByteArray := prog_1_method_24_code
abbrev y_X_slotOf : MethodName := ⟨"PackagePick", "slotOf", "(II)I"⟩
abbrev b_X_placeOf : ByteArray := prog_1_method_23_code
abbrev y_X_placeOf : MethodName := ⟨"PackagePick", "placeOf", "(I)I"⟩
abbrev b_C_add : ByteArray := prog_2_method_3_code
abbrev y_C_add : MethodName := ⟨"PackagePick$Catalog", "add", "(I)Z"⟩
abbrev b_X_isSlot : ByteArray := prog_1_method_22_code
abbrev y_X_isSlot : MethodName := ⟨"PackagePick", "isSlot", "(I)Z"⟩
abbrev b_C_has : ByteArray := prog_2_method_2_code
abbrev y_C_has : MethodName := ⟨"PackagePick$Catalog", "has", "(I)Z"⟩
abbrev b_X_holds : ByteArray := prog_1_method_27_code
abbrev y_X_holds : MethodName := ⟨"PackagePick", "holds", "(II)Z"⟩
abbrev b_X_need : ByteArray := prog_1_method_3_code
abbrev y_X_need : MethodName := ⟨"PackagePick", "need", "(IIIII)Z"⟩
abbrev b_X_isNeed : ByteArray := prog_1_method_21_code
abbrev y_X_isNeed : MethodName := ⟨"PackagePick", "isNeed", "(III)Z"⟩
abbrev b_X_markOf : ByteArray := prog_1_method_25_code
abbrev y_X_markOf : MethodName := ⟨"PackagePick", "markOf", "(I)I"⟩
abbrev b_X_outside : ByteArray := prog_1_method_28_code
abbrev y_X_outside : MethodName := ⟨"PackagePick", "outside", "(III)I"⟩
abbrev b_C_addNeed : ByteArray := prog_2_method_5_code
abbrev y_C_addNeed : MethodName := ⟨"PackagePick$Catalog", "addNeed", "(III)Z"⟩
abbrev b_X_drop : ByteArray := prog_1_method_4_code
abbrev y_X_drop : MethodName := ⟨"PackagePick", "drop", "(II)Z"⟩
abbrev b_C_remove : ByteArray := prog_2_method_4_code
abbrev y_C_remove : MethodName := ⟨"PackagePick$Catalog", "remove", "(I)Z"⟩
abbrev b_X_ban : ByteArray := prog_1_method_5_code
abbrev y_X_ban : MethodName := ⟨"PackagePick", "ban", "(IIII)Z"⟩
abbrev b_C_addBan : ByteArray := prog_2_method_6_code
abbrev y_C_addBan : MethodName := ⟨"PackagePick$Catalog", "addBan", "(II)Z"⟩
abbrev b_X_ask : ByteArray := prog_1_method_6_code
abbrev y_X_ask : MethodName := ⟨"PackagePick", "ask", "(III)Z"⟩
abbrev b_W_add : ByteArray := prog_4_method_2_code
abbrev y_W_add : MethodName := ⟨"PackagePick$Wishes", "add", "(II)Z"⟩
abbrev b_X_take : ByteArray := prog_1_method_7_code
abbrev y_X_take : MethodName := ⟨"PackagePick", "take", "(I)Z"⟩
abbrev b_W_remove : ByteArray := prog_4_method_3_code
abbrev y_W_remove : MethodName := ⟨"PackagePick$Wishes", "remove", "(I)Z"⟩
abbrev b_X_keep : ByteArray := prog_1_method_9_code
abbrev y_X_keep : MethodName := ⟨"PackagePick", "keep", "()I"⟩
abbrev b_X_differing : ByteArray := prog_1_method_30_code
abbrev y_X_differing : MethodName := ⟨"PackagePick", "differing", "(II)I"⟩
abbrev b_X_marksOf : ByteArray := prog_1_method_29_code
abbrev y_X_marksOf : MethodName := ⟨"PackagePick", "marksOf", "(I)I"⟩
abbrev b_J_bitCount : ByteArray := prog_10_method_49_code
abbrev y_J_bitCount : MethodName := ⟨"java/lang/Integer", "bitCount", "(I)I"⟩
abbrev b_X_chosen : ByteArray := prog_1_method_10_code
abbrev y_X_chosen : MethodName := ⟨"PackagePick", "chosen", "(I)I"⟩
abbrev b_X_many : ByteArray := prog_1_method_11_code
abbrev y_X_many : MethodName := ⟨"PackagePick", "many", "()I"⟩
abbrev b_W_all : ByteArray := prog_4_method_4_code
abbrev y_W_all : MethodName := ⟨"PackagePick$Wishes", "all", "()I"⟩
abbrev b_X_wishBit : ByteArray := prog_1_method_26_code
abbrev y_X_wishBit : MethodName := ⟨"PackagePick", "wishBit", "(I)I"⟩
abbrev b_X_tallyChoices : ByteArray := prog_1_method_15_code
abbrev y_X_tallyChoices : MethodName := ⟨"PackagePick", "tallyChoices", "(III)V"⟩
abbrev b_T_begin : ByteArray := prog_3_method_2_code
abbrev y_T_begin : MethodName := ⟨"PackagePick$Tally", "begin", "(III)V"⟩
abbrev b_W_union : ByteArray := prog_4_method_5_code
abbrev y_W_union : MethodName := ⟨"PackagePick$Wishes", "union", "([II)I"⟩
abbrev b_X_explore : ByteArray := prog_1_method_16_code
abbrev y_X_explore : MethodName := ⟨"PackagePick", "explore", "(IIII)V"⟩
abbrev b_T_isFull : ByteArray := prog_3_method_3_code
abbrev y_T_isFull : MethodName := ⟨"PackagePick$Tally", "isFull", "()Z"⟩
abbrev b_T_enter : ByteArray := prog_3_method_4_code
abbrev y_T_enter : MethodName := ⟨"PackagePick$Tally", "enter", "(I)V"⟩
abbrev b_T_costOf : ByteArray := prog_3_method_5_code
abbrev y_T_costOf : MethodName := ⟨"PackagePick$Tally", "costOf", "(I)I"⟩
abbrev b_X_lowestPlace : ByteArray := prog_1_method_31_code
abbrev y_X_lowestPlace : MethodName := ⟨"PackagePick", "lowestPlace", "(I)I"⟩
abbrev b_K_min : ByteArray := prog_11_method_69_code
abbrev y_K_min : MethodName := ⟨"java/lang/Math", "min", "(II)I"⟩
abbrev b_X_can : ByteArray := prog_1_method_12_code
abbrev y_X_can : MethodName := ⟨"PackagePick", "can", "(I)I"⟩
abbrev b_X_count : ByteArray := prog_1_method_14_code
abbrev y_X_count : MethodName := ⟨"PackagePick", "count", "(I)I"⟩
abbrev b_C_allNeeds : ByteArray := prog_2_method_7_code
abbrev y_C_allNeeds : MethodName := ⟨"PackagePick$Catalog", "allNeeds", "()I"⟩
abbrev b_X_solve : ByteArray := prog_1_method_8_code
abbrev y_X_solve : MethodName := ⟨"PackagePick", "solve", "(I)I"⟩
abbrev b_X_fewestHindering : ByteArray := prog_1_method_17_code
abbrev y_X_fewestHindering : MethodName := ⟨"PackagePick", "fewestHindering", "()I"⟩
abbrev b_X_hasChoice : ByteArray := prog_1_method_18_code
abbrev y_X_hasChoice : MethodName := ⟨"PackagePick", "hasChoice", "(I)Z"⟩
abbrev b_X_core : ByteArray := prog_1_method_13_code
abbrev y_X_core : MethodName := ⟨"PackagePick", "core", "(I)I"⟩
abbrev b_M_init : ByteArray := prog_6_method_1_code
abbrev y_M_init : MethodName := ⟨"PackagePickModel", "<init>", "()V"⟩
abbrev b_M_thrown : ByteArray := prog_6_method_2_code
abbrev y_M_thrown : MethodName := ⟨"PackagePickModel", "thrown", "()I"⟩
abbrev b_M_version : ByteArray := prog_6_method_7_code
abbrev y_M_version : MethodName := ⟨"PackagePickModel", "version", "(II)Z"⟩
abbrev b_M_isVersion : ByteArray := prog_6_method_5_code
abbrev y_M_isVersion : MethodName := ⟨"PackagePickModel", "isVersion", "(II)Z"⟩
abbrev b_M_isPackage : ByteArray := prog_6_method_4_code
abbrev y_M_isPackage : MethodName := ⟨"PackagePickModel", "isPackage", "(I)Z"⟩
abbrev b_M_need : ByteArray := prog_6_method_8_code
abbrev y_M_need : MethodName := ⟨"PackagePickModel", "need", "(IIIII)Z"⟩
abbrev b_M_isNeed : ByteArray := prog_6_method_6_code
abbrev y_M_isNeed : MethodName := ⟨"PackagePickModel", "isNeed", "(III)Z"⟩
abbrev b_M_drop : ByteArray := prog_6_method_9_code
abbrev y_M_drop : MethodName := ⟨"PackagePickModel", "drop", "(II)Z"⟩
abbrev b_M_ban : ByteArray := prog_6_method_10_code
abbrev y_M_ban : MethodName := ⟨"PackagePickModel", "ban", "(IIII)Z"⟩
abbrev b_M_ask : ByteArray := prog_6_method_11_code
abbrev y_M_ask : MethodName := ⟨"PackagePickModel", "ask", "(III)Z"⟩
abbrev b_M_take : ByteArray := prog_6_method_12_code
abbrev y_M_take : MethodName := ⟨"PackagePickModel", "take", "(I)Z"⟩
abbrev b_M_solve : ByteArray := prog_6_method_24_code
abbrev y_M_solve : MethodName := ⟨"PackagePickModel", "solve", "(I)I"⟩
abbrev b_M_raise : ByteArray := prog_6_method_3_code
abbrev y_M_raise : MethodName := ⟨"PackagePickModel", "raise", "(I)I"⟩
abbrev b_M_all : ByteArray := prog_6_method_19_code
abbrev y_M_all : MethodName := ⟨"PackagePickModel", "all", "()I"⟩
abbrev b_M_begin : ByteArray := prog_6_method_17_code
abbrev y_M_begin : MethodName := ⟨"PackagePickModel", "begin", "(I)V"⟩
abbrev b_M_finds : ByteArray := prog_6_method_18_code
abbrev y_M_finds : MethodName := ⟨"PackagePickModel", "finds", "()Z"⟩
abbrev b_M_goes : ByteArray := prog_6_method_15_code
abbrev y_M_goes : MethodName := ⟨"PackagePickModel", "goes", "(I)Z"⟩
abbrev b_M_counts : ByteArray := prog_6_method_14_code
abbrev y_M_counts : MethodName := ⟨"PackagePickModel", "counts", "(I)Z"⟩
abbrev b_M_isMet : ByteArray := prog_6_method_13_code
abbrev y_M_isMet : MethodName := ⟨"PackagePickModel", "isMet", "(III)Z"⟩
abbrev b_M_isTight : ByteArray := prog_6_method_16_code
abbrev y_M_isTight : MethodName := ⟨"PackagePickModel", "isTight", "()Z"⟩
abbrev b_M_cost : ByteArray := prog_6_method_20_code
abbrev y_M_cost : MethodName := ⟨"PackagePickModel", "cost", "(I)I"⟩
abbrev b_M_findCore : ByteArray := prog_6_method_23_code
abbrev y_M_findCore : MethodName := ⟨"PackagePickModel", "findCore", "()V"⟩
abbrev b_M_sizeOf : ByteArray := prog_6_method_21_code
abbrev y_M_sizeOf : MethodName := ⟨"PackagePickModel", "sizeOf", "(I)I"⟩
abbrev b_M_isAhead : ByteArray := prog_6_method_22_code
abbrev y_M_isAhead : MethodName := ⟨"PackagePickModel", "isAhead", "(II)Z"⟩
abbrev b_M_keep : ByteArray := prog_6_method_26_code
abbrev y_M_keep : MethodName := ⟨"PackagePickModel", "keep", "()I"⟩
abbrev b_M_differ : ByteArray := prog_6_method_25_code
abbrev y_M_differ : MethodName := ⟨"PackagePickModel", "differ", "()I"⟩
abbrev b_M_chosen : ByteArray := prog_6_method_27_code
abbrev y_M_chosen : MethodName := ⟨"PackagePickModel", "chosen", "(I)I"⟩
abbrev b_M_many : ByteArray := prog_6_method_28_code
abbrev y_M_many : MethodName := ⟨"PackagePickModel", "many", "()I"⟩
abbrev b_M_can : ByteArray := prog_6_method_29_code
abbrev y_M_can : MethodName := ⟨"PackagePickModel", "can", "(I)I"⟩
abbrev b_M_core : ByteArray := prog_6_method_30_code
abbrev y_M_core : MethodName := ⟨"PackagePickModel", "core", "(I)I"⟩
abbrev b_M_count : ByteArray := prog_6_method_31_code
abbrev y_M_count : MethodName := ⟨"PackagePickModel", "count", "(I)I"⟩
abbrev b_L_solve : ByteArray := method_3_code
abbrev y_L_solve : MethodName := ⟨"PackagePickLaw", "solve", "(LPackagePick;I[J)I"⟩
abbrev b_L_core : ByteArray := method_4_code
abbrev y_L_core : MethodName := ⟨"PackagePickLaw", "core", "(LPackagePick;I[J)I"⟩
/-- the words that go along with every call -/
def WB : List Cond := lw_tbl.filter goodWord
theorem wb_t {w : Cond} (i : Nat) (h : tables_1[i]? = some w) (g : goodWord w = true) : w ∈ WB := List.mem_filter.mpr ⟨List.mem_append_right _ (List.mem_of_getElem? h), g⟩
theorem wb_s {w : Cond} (i : Nat) (h : (k2_sels lw_privs)[i]? = some w) (g : goodWord w = true) : w ∈ WB := List.mem_filter.mpr ⟨List.mem_append_left _ (List.mem_of_getElem? h), g⟩
theorem wb_good : ∀ w ∈ WB, (w.onTables && w.keeps) = true ∨ ∃ ty, w = .arrayClass ty := fun w h => good_of_word (List.mem_filter.mp h).2
theorem wb_in : ∀ w ∈ WB, w ∈ lw_tbl := fun w h => (List.mem_filter.mp h).1
end
section
theorem mc_X_init : Cond.code y_X_init b_X_init 1 none ∈ WB := wb_t 18 (by decide +kernel) rfl
theorem ms_X_init : Cond.instanceMethod y_X_init ∈ WB := wb_t 17 (by decide +kernel) rfl
theorem mc_C_init : Cond.code y_C_init b_C_init 1 none ∈ WB := wb_t 26 (by decide +kernel) rfl
theorem ms_C_init : Cond.instanceMethod y_C_init ∈ WB := wb_t 25 (by decide +kernel) rfl
theorem mc_W_init : Cond.code y_W_init b_W_init 1 none ∈ WB := wb_t 57 (by decide +kernel) rfl
theorem ms_W_init : Cond.instanceMethod y_W_init ∈ WB := wb_t 56 (by decide +kernel) rfl
theorem mc_T_init : Cond.code y_T_init b_T_init 1 none ∈ WB := wb_t 76 (by decide +kernel) rfl
theorem ms_T_init : Cond.instanceMethod y_T_init ∈ WB := wb_t 75 (by decide +kernel) rfl
theorem mc_X_version : Cond.code y_X_version b_X_version 3 (some .boolean) ∈ WB := wb_t 129 (by decide +kernel) rfl
theorem ms_X_version : Cond.instanceMethod y_X_version ∈ WB := wb_t 127 (by decide +kernel) rfl
theorem ml_X_version : Cond.selects "PackagePick" y_X_version y_X_version ∈ WB := wb_t 128 (by decide +kernel) rfl
theorem mc_X_isVersion : Cond.code y_X_isVersion b_X_isVersion 2 (some .boolean) ∈ WB := wb_t 132 (by decide +kernel) rfl
theorem ms_X_isVersion : Cond.static y_X_isVersion ∈ WB := wb_t 131 (by decide +kernel) rfl
theorem mc_X_isPackage : Cond.code y_X_isPackage b_X_isPackage 1 (some .boolean) ∈ WB := wb_t 135 (by decide +kernel) rfl
theorem ms_X_isPackage : Cond.static y_X_isPackage ∈ WB := wb_t 134 (by decide +kernel) rfl
theorem mc_X_slotOf : Cond.code y_X_slotOf b_X_slotOf 2 (some .int) ∈ WB := wb_t 138 (by decide +kernel) rfl
theorem ms_X_slotOf : Cond.static y_X_slotOf ∈ WB := wb_t 137 (by decide +kernel) rfl
theorem mc_X_placeOf : Cond.code y_X_placeOf b_X_placeOf 1 (some .int) ∈ WB := wb_t 141 (by decide +kernel) rfl
theorem ms_X_placeOf : Cond.static y_X_placeOf ∈ WB := wb_t 140 (by decide +kernel) rfl
theorem mc_C_add : Cond.code y_C_add b_C_add 2 (some .boolean) ∈ WB := wb_t 145 (by decide +kernel) rfl
theorem ms_C_add : Cond.instanceMethod y_C_add ∈ WB := wb_t 143 (by decide +kernel) rfl
theorem ml_C_add : Cond.selects "PackagePick$Catalog" y_C_add y_C_add ∈ WB := wb_t 144 (by decide +kernel) rfl
theorem mc_X_isSlot : Cond.code y_X_isSlot b_X_isSlot 1 (some .boolean) ∈ WB := wb_t 148 (by decide +kernel) rfl
theorem ms_X_isSlot : Cond.static y_X_isSlot ∈ WB := wb_t 147 (by decide +kernel) rfl
theorem mc_C_has : Cond.code y_C_has b_C_has 2 (some .boolean) ∈ WB := wb_t 152 (by decide +kernel) rfl
theorem ms_C_has : Cond.instanceMethod y_C_has ∈ WB := wb_t 150 (by decide +kernel) rfl
theorem ml_C_has : Cond.selects "PackagePick$Catalog" y_C_has y_C_has ∈ WB := wb_t 151 (by decide +kernel) rfl
theorem mc_X_holds : Cond.code y_X_holds b_X_holds 2 (some .boolean) ∈ WB := wb_t 155 (by decide +kernel) rfl
theorem ms_X_holds : Cond.static y_X_holds ∈ WB := wb_t 154 (by decide +kernel) rfl
theorem mc_X_need : Cond.code y_X_need b_X_need 6 (some .boolean) ∈ WB := wb_t 159 (by decide +kernel) rfl
theorem ms_X_need : Cond.instanceMethod y_X_need ∈ WB := wb_t 157 (by decide +kernel) rfl
theorem ml_X_need : Cond.selects "PackagePick" y_X_need y_X_need ∈ WB := wb_t 158 (by decide +kernel) rfl
theorem mc_X_isNeed : Cond.code y_X_isNeed b_X_isNeed 3 (some .boolean) ∈ WB := wb_t 162 (by decide +kernel) rfl
theorem ms_X_isNeed : Cond.static y_X_isNeed ∈ WB := wb_t 161 (by decide +kernel) rfl
theorem mc_X_markOf : Cond.code y_X_markOf b_X_markOf 1 (some .int) ∈ WB := wb_t 165 (by decide +kernel) rfl
theorem ms_X_markOf : Cond.static y_X_markOf ∈ WB := wb_t 164 (by decide +kernel) rfl
theorem mc_X_outside : Cond.code y_X_outside b_X_outside 4 (some .int) ∈ WB := wb_t 168 (by decide +kernel) rfl
theorem ms_X_outside : Cond.static y_X_outside ∈ WB := wb_t 167 (by decide +kernel) rfl
theorem mc_C_addNeed : Cond.code y_C_addNeed b_C_addNeed 4 (some .boolean) ∈ WB := wb_t 172 (by decide +kernel) rfl
theorem ms_C_addNeed : Cond.instanceMethod y_C_addNeed ∈ WB := wb_t 170 (by decide +kernel) rfl
theorem ml_C_addNeed : Cond.selects "PackagePick$Catalog" y_C_addNeed y_C_addNeed ∈ WB := wb_t 171 (by decide +kernel) rfl
theorem mc_X_drop : Cond.code y_X_drop b_X_drop 3 (some .boolean) ∈ WB := wb_t 176 (by decide +kernel) rfl
theorem ms_X_drop : Cond.instanceMethod y_X_drop ∈ WB := wb_t 174 (by decide +kernel) rfl
theorem ml_X_drop : Cond.selects "PackagePick" y_X_drop y_X_drop ∈ WB := wb_t 175 (by decide +kernel) rfl
theorem mc_C_remove : Cond.code y_C_remove b_C_remove 2 (some .boolean) ∈ WB := wb_t 180 (by decide +kernel) rfl
theorem ms_C_remove : Cond.instanceMethod y_C_remove ∈ WB := wb_t 178 (by decide +kernel) rfl
theorem ml_C_remove : Cond.selects "PackagePick$Catalog" y_C_remove y_C_remove ∈ WB := wb_t 179 (by decide +kernel) rfl
theorem mc_X_ban : Cond.code y_X_ban b_X_ban 5 (some .boolean) ∈ WB := wb_t 184 (by decide +kernel) rfl
theorem ms_X_ban : Cond.instanceMethod y_X_ban ∈ WB := wb_t 182 (by decide +kernel) rfl
theorem ml_X_ban : Cond.selects "PackagePick" y_X_ban y_X_ban ∈ WB := wb_t 183 (by decide +kernel) rfl
theorem mc_C_addBan : Cond.code y_C_addBan b_C_addBan 3 (some .boolean) ∈ WB := wb_t 188 (by decide +kernel) rfl
theorem ms_C_addBan : Cond.instanceMethod y_C_addBan ∈ WB := wb_t 186 (by decide +kernel) rfl
theorem ml_C_addBan : Cond.selects "PackagePick$Catalog" y_C_addBan y_C_addBan ∈ WB := wb_t 187 (by decide +kernel) rfl
theorem mc_X_ask : Cond.code y_X_ask b_X_ask 4 (some .boolean) ∈ WB := wb_t 192 (by decide +kernel) rfl
theorem ms_X_ask : Cond.instanceMethod y_X_ask ∈ WB := wb_t 190 (by decide +kernel) rfl
theorem ml_X_ask : Cond.selects "PackagePick" y_X_ask y_X_ask ∈ WB := wb_t 191 (by decide +kernel) rfl
theorem mc_W_add : Cond.code y_W_add b_W_add 3 (some .boolean) ∈ WB := wb_t 196 (by decide +kernel) rfl
theorem ms_W_add : Cond.instanceMethod y_W_add ∈ WB := wb_t 194 (by decide +kernel) rfl
theorem ml_W_add : Cond.selects "PackagePick$Wishes" y_W_add y_W_add ∈ WB := wb_t 195 (by decide +kernel) rfl
theorem mc_X_take : Cond.code y_X_take b_X_take 2 (some .boolean) ∈ WB := wb_t 200 (by decide +kernel) rfl
theorem ms_X_take : Cond.instanceMethod y_X_take ∈ WB := wb_t 198 (by decide +kernel) rfl
theorem ml_X_take : Cond.selects "PackagePick" y_X_take y_X_take ∈ WB := wb_t 199 (by decide +kernel) rfl
theorem mc_W_remove : Cond.code y_W_remove b_W_remove 3 (some .boolean) ∈ WB := wb_t 204 (by decide +kernel) rfl
theorem ms_W_remove : Cond.instanceMethod y_W_remove ∈ WB := wb_t 202 (by decide +kernel) rfl
theorem ml_W_remove : Cond.selects "PackagePick$Wishes" y_W_remove y_W_remove ∈ WB := wb_t 203 (by decide +kernel) rfl
theorem mc_X_keep : Cond.code y_X_keep b_X_keep 2 (some .int) ∈ WB := wb_t 208 (by decide +kernel) rfl
theorem ms_X_keep : Cond.instanceMethod y_X_keep ∈ WB := wb_t 206 (by decide +kernel) rfl
theorem ml_X_keep : Cond.selects "PackagePick" y_X_keep y_X_keep ∈ WB := wb_t 207 (by decide +kernel) rfl
theorem mc_X_differing : Cond.code y_X_differing b_X_differing 2 (some .int) ∈ WB := wb_t 211 (by decide +kernel) rfl
theorem ms_X_differing : Cond.static y_X_differing ∈ WB := wb_t 210 (by decide +kernel) rfl
theorem mc_X_marksOf : Cond.code y_X_marksOf b_X_marksOf 1 (some .int) ∈ WB := wb_t 214 (by decide +kernel) rfl
theorem ms_X_marksOf : Cond.static y_X_marksOf ∈ WB := wb_t 213 (by decide +kernel) rfl
theorem mc_J_bitCount : Cond.code y_J_bitCount b_J_bitCount 1 (some .int) ∈ WB := wb_t 218 (by decide +kernel) rfl
theorem ms_J_bitCount : Cond.static y_J_bitCount ∈ WB := wb_t 217 (by decide +kernel) rfl
theorem mc_X_chosen : Cond.code y_X_chosen b_X_chosen 3 (some .int) ∈ WB := wb_t 225 (by decide +kernel) rfl
theorem ms_X_chosen : Cond.instanceMethod y_X_chosen ∈ WB := wb_t 223 (by decide +kernel) rfl
theorem ml_X_chosen : Cond.selects "PackagePick" y_X_chosen y_X_chosen ∈ WB := wb_t 224 (by decide +kernel) rfl
theorem mc_X_many : Cond.code y_X_many b_X_many 1 (some .int) ∈ WB := wb_t 230 (by decide +kernel) rfl
theorem ms_X_many : Cond.instanceMethod y_X_many ∈ WB := wb_t 228 (by decide +kernel) rfl
theorem ml_X_many : Cond.selects "PackagePick" y_X_many y_X_many ∈ WB := wb_t 229 (by decide +kernel) rfl
theorem mc_W_all : Cond.code y_W_all b_W_all 3 (some .int) ∈ WB := wb_t 234 (by decide +kernel) rfl
theorem ms_W_all : Cond.instanceMethod y_W_all ∈ WB := wb_t 232 (by decide +kernel) rfl
theorem ml_W_all : Cond.selects "PackagePick$Wishes" y_W_all y_W_all ∈ WB := wb_t 233 (by decide +kernel) rfl
theorem mc_X_wishBit : Cond.code y_X_wishBit b_X_wishBit 1 (some .int) ∈ WB := wb_t 237 (by decide +kernel) rfl
theorem ms_X_wishBit : Cond.static y_X_wishBit ∈ WB := wb_t 236 (by decide +kernel) rfl
theorem mc_X_tallyChoices : Cond.code y_X_tallyChoices b_X_tallyChoices 6 none ∈ WB := wb_t 242 (by decide +kernel) rfl
theorem ms_X_tallyChoices : Cond.instanceMethod y_X_tallyChoices ∈ WB := wb_t 241 (by decide +kernel) rfl
theorem ml_X_tallyChoices : Cond.selects "PackagePick" y_X_tallyChoices y_X_tallyChoices ∈ WB := wb_s 0 (by decide +kernel) rfl
theorem mc_T_begin : Cond.code y_T_begin b_T_begin 4 none ∈ WB := wb_t 246 (by decide +kernel) rfl
theorem ms_T_begin : Cond.instanceMethod y_T_begin ∈ WB := wb_t 244 (by decide +kernel) rfl
theorem ml_T_begin : Cond.selects "PackagePick$Tally" y_T_begin y_T_begin ∈ WB := wb_t 245 (by decide +kernel) rfl
theorem mc_W_union : Cond.code y_W_union b_W_union 5 (some .int) ∈ WB := wb_t 250 (by decide +kernel) rfl
theorem ms_W_union : Cond.instanceMethod y_W_union ∈ WB := wb_t 248 (by decide +kernel) rfl
theorem ml_W_union : Cond.selects "PackagePick$Wishes" y_W_union y_W_union ∈ WB := wb_t 249 (by decide +kernel) rfl
theorem mc_X_explore : Cond.code y_X_explore b_X_explore 10 none ∈ WB := wb_t 254 (by decide +kernel) rfl
theorem ms_X_explore : Cond.instanceMethod y_X_explore ∈ WB := wb_t 253 (by decide +kernel) rfl
theorem ml_X_explore : Cond.selects "PackagePick" y_X_explore y_X_explore ∈ WB := wb_s 1 (by decide +kernel) rfl
theorem mc_T_isFull : Cond.code y_T_isFull b_T_isFull 1 (some .boolean) ∈ WB := wb_t 258 (by decide +kernel) rfl
theorem ms_T_isFull : Cond.instanceMethod y_T_isFull ∈ WB := wb_t 256 (by decide +kernel) rfl
theorem ml_T_isFull : Cond.selects "PackagePick$Tally" y_T_isFull y_T_isFull ∈ WB := wb_t 257 (by decide +kernel) rfl
theorem mc_T_enter : Cond.code y_T_enter b_T_enter 3 none ∈ WB := wb_t 262 (by decide +kernel) rfl
theorem ms_T_enter : Cond.instanceMethod y_T_enter ∈ WB := wb_t 260 (by decide +kernel) rfl
theorem ml_T_enter : Cond.selects "PackagePick$Tally" y_T_enter y_T_enter ∈ WB := wb_t 261 (by decide +kernel) rfl
theorem mc_T_costOf : Cond.code y_T_costOf b_T_costOf 2 (some .int) ∈ WB := wb_t 266 (by decide +kernel) rfl
theorem ms_T_costOf : Cond.instanceMethod y_T_costOf ∈ WB := wb_t 264 (by decide +kernel) rfl
theorem ml_T_costOf : Cond.selects "PackagePick$Tally" y_T_costOf y_T_costOf ∈ WB := wb_t 265 (by decide +kernel) rfl
theorem mc_X_lowestPlace : Cond.code y_X_lowestPlace b_X_lowestPlace 1 (some .int) ∈ WB := wb_t 273 (by decide +kernel) rfl
theorem ms_X_lowestPlace : Cond.static y_X_lowestPlace ∈ WB := wb_t 272 (by decide +kernel) rfl
theorem mc_K_min : Cond.code y_K_min b_K_min 2 (some .int) ∈ WB := wb_t 276 (by decide +kernel) rfl
theorem ms_K_min : Cond.static y_K_min ∈ WB := wb_t 275 (by decide +kernel) rfl
theorem mc_X_can : Cond.code y_X_can b_X_can 3 (some .int) ∈ WB := wb_t 280 (by decide +kernel) rfl
theorem ms_X_can : Cond.instanceMethod y_X_can ∈ WB := wb_t 278 (by decide +kernel) rfl
theorem ml_X_can : Cond.selects "PackagePick" y_X_can y_X_can ∈ WB := wb_t 279 (by decide +kernel) rfl
theorem mc_X_count : Cond.code y_X_count b_X_count 2 (some .int) ∈ WB := wb_t 284 (by decide +kernel) rfl
theorem ms_X_count : Cond.instanceMethod y_X_count ∈ WB := wb_t 282 (by decide +kernel) rfl
theorem ml_X_count : Cond.selects "PackagePick" y_X_count y_X_count ∈ WB := wb_t 283 (by decide +kernel) rfl
theorem mc_C_allNeeds : Cond.code y_C_allNeeds b_C_allNeeds 3 (some .int) ∈ WB := wb_t 288 (by decide +kernel) rfl
theorem ms_C_allNeeds : Cond.instanceMethod y_C_allNeeds ∈ WB := wb_t 286 (by decide +kernel) rfl
theorem ml_C_allNeeds : Cond.selects "PackagePick$Catalog" y_C_allNeeds y_C_allNeeds ∈ WB := wb_t 287 (by decide +kernel) rfl
theorem mc_X_solve : Cond.code y_X_solve b_X_solve 2 (some .int) ∈ WB := wb_t 297 (by decide +kernel) rfl
theorem ms_X_solve : Cond.instanceMethod y_X_solve ∈ WB := wb_t 295 (by decide +kernel) rfl
theorem ml_X_solve : Cond.selects "PackagePick" y_X_solve y_X_solve ∈ WB := wb_t 296 (by decide +kernel) rfl
theorem mc_X_fewestHindering : Cond.code y_X_fewestHindering b_X_fewestHindering 4 (some .int) ∈ WB := wb_t 369 (by decide +kernel) rfl
theorem ms_X_fewestHindering : Cond.instanceMethod y_X_fewestHindering ∈ WB := wb_t 368 (by decide +kernel) rfl
theorem ml_X_fewestHindering : Cond.selects "PackagePick" y_X_fewestHindering y_X_fewestHindering ∈ WB := wb_s 3 (by decide +kernel) rfl
theorem mc_X_hasChoice : Cond.code y_X_hasChoice b_X_hasChoice 2 (some .boolean) ∈ WB := wb_t 373 (by decide +kernel) rfl
theorem ms_X_hasChoice : Cond.instanceMethod y_X_hasChoice ∈ WB := wb_t 372 (by decide +kernel) rfl
theorem ml_X_hasChoice : Cond.selects "PackagePick" y_X_hasChoice y_X_hasChoice ∈ WB := wb_s 4 (by decide +kernel) rfl
theorem mc_X_core : Cond.code y_X_core b_X_core 4 (some .int) ∈ WB := wb_t 397 (by decide +kernel) rfl
theorem ms_X_core : Cond.instanceMethod y_X_core ∈ WB := wb_t 395 (by decide +kernel) rfl
theorem ml_X_core : Cond.selects "PackagePick" y_X_core y_X_core ∈ WB := wb_t 396 (by decide +kernel) rfl
theorem mc_M_init : Cond.code y_M_init b_M_init 2 none ∈ WB := wb_t 419 (by decide +kernel) rfl
theorem ms_M_init : Cond.instanceMethod y_M_init ∈ WB := wb_t 418 (by decide +kernel) rfl
theorem mc_M_thrown : Cond.code y_M_thrown b_M_thrown 1 (some .int) ∈ WB := wb_t 489 (by decide +kernel) rfl
theorem ms_M_thrown : Cond.instanceMethod y_M_thrown ∈ WB := wb_t 487 (by decide +kernel) rfl
theorem ml_M_thrown : Cond.selects "PackagePickModel" y_M_thrown y_M_thrown ∈ WB := wb_t 488 (by decide +kernel) rfl
theorem mc_M_version : Cond.code y_M_version b_M_version 3 (some .boolean) ∈ WB := wb_t 493 (by decide +kernel) rfl
theorem ms_M_version : Cond.instanceMethod y_M_version ∈ WB := wb_t 491 (by decide +kernel) rfl
theorem ml_M_version : Cond.selects "PackagePickModel" y_M_version y_M_version ∈ WB := wb_t 492 (by decide +kernel) rfl
theorem mc_M_isVersion : Cond.code y_M_isVersion b_M_isVersion 2 (some .boolean) ∈ WB := wb_t 496 (by decide +kernel) rfl
theorem ms_M_isVersion : Cond.static y_M_isVersion ∈ WB := wb_t 495 (by decide +kernel) rfl
theorem mc_M_isPackage : Cond.code y_M_isPackage b_M_isPackage 1 (some .boolean) ∈ WB := wb_t 499 (by decide +kernel) rfl
theorem ms_M_isPackage : Cond.static y_M_isPackage ∈ WB := wb_t 498 (by decide +kernel) rfl
theorem mc_M_need : Cond.code y_M_need b_M_need 8 (some .boolean) ∈ WB := wb_t 503 (by decide +kernel) rfl
theorem ms_M_need : Cond.instanceMethod y_M_need ∈ WB := wb_t 501 (by decide +kernel) rfl
theorem ml_M_need : Cond.selects "PackagePickModel" y_M_need y_M_need ∈ WB := wb_t 502 (by decide +kernel) rfl
theorem mc_M_isNeed : Cond.code y_M_isNeed b_M_isNeed 3 (some .boolean) ∈ WB := wb_t 506 (by decide +kernel) rfl
theorem ms_M_isNeed : Cond.static y_M_isNeed ∈ WB := wb_t 505 (by decide +kernel) rfl
theorem mc_M_drop : Cond.code y_M_drop b_M_drop 3 (some .boolean) ∈ WB := wb_t 510 (by decide +kernel) rfl
theorem ms_M_drop : Cond.instanceMethod y_M_drop ∈ WB := wb_t 508 (by decide +kernel) rfl
theorem ml_M_drop : Cond.selects "PackagePickModel" y_M_drop y_M_drop ∈ WB := wb_t 509 (by decide +kernel) rfl
theorem mc_M_ban : Cond.code y_M_ban b_M_ban 5 (some .boolean) ∈ WB := wb_t 514 (by decide +kernel) rfl
theorem ms_M_ban : Cond.instanceMethod y_M_ban ∈ WB := wb_t 512 (by decide +kernel) rfl
theorem ml_M_ban : Cond.selects "PackagePickModel" y_M_ban y_M_ban ∈ WB := wb_t 513 (by decide +kernel) rfl
theorem mc_M_ask : Cond.code y_M_ask b_M_ask 4 (some .boolean) ∈ WB := wb_t 518 (by decide +kernel) rfl
theorem ms_M_ask : Cond.instanceMethod y_M_ask ∈ WB := wb_t 516 (by decide +kernel) rfl
theorem ml_M_ask : Cond.selects "PackagePickModel" y_M_ask y_M_ask ∈ WB := wb_t 517 (by decide +kernel) rfl
theorem mc_M_take : Cond.code y_M_take b_M_take 3 (some .boolean) ∈ WB := wb_t 522 (by decide +kernel) rfl
theorem ms_M_take : Cond.instanceMethod y_M_take ∈ WB := wb_t 520 (by decide +kernel) rfl
theorem ml_M_take : Cond.selects "PackagePickModel" y_M_take y_M_take ∈ WB := wb_t 521 (by decide +kernel) rfl
theorem mc_M_solve : Cond.code y_M_solve b_M_solve 5 (some .int) ∈ WB := wb_t 526 (by decide +kernel) rfl
theorem ms_M_solve : Cond.instanceMethod y_M_solve ∈ WB := wb_t 524 (by decide +kernel) rfl
theorem ml_M_solve : Cond.selects "PackagePickModel" y_M_solve y_M_solve ∈ WB := wb_t 525 (by decide +kernel) rfl
theorem mc_M_raise : Cond.code y_M_raise b_M_raise 2 (some .int) ∈ WB := wb_t 530 (by decide +kernel) rfl
theorem ms_M_raise : Cond.instanceMethod y_M_raise ∈ WB := wb_t 529 (by decide +kernel) rfl
theorem ml_M_raise : Cond.selects "PackagePickModel" y_M_raise y_M_raise ∈ WB := wb_s 5 (by decide +kernel) rfl
theorem mc_M_all : Cond.code y_M_all b_M_all 1 (some .int) ∈ WB := wb_t 534 (by decide +kernel) rfl
theorem ms_M_all : Cond.instanceMethod y_M_all ∈ WB := wb_t 533 (by decide +kernel) rfl
theorem ml_M_all : Cond.selects "PackagePickModel" y_M_all y_M_all ∈ WB := wb_s 6 (by decide +kernel) rfl
theorem mc_M_begin : Cond.code y_M_begin b_M_begin 2 none ∈ WB := wb_t 538 (by decide +kernel) rfl
theorem ms_M_begin : Cond.instanceMethod y_M_begin ∈ WB := wb_t 537 (by decide +kernel) rfl
theorem ml_M_begin : Cond.selects "PackagePickModel" y_M_begin y_M_begin ∈ WB := wb_s 7 (by decide +kernel) rfl
theorem mc_M_finds : Cond.code y_M_finds b_M_finds 1 (some .boolean) ∈ WB := wb_t 542 (by decide +kernel) rfl
theorem ms_M_finds : Cond.instanceMethod y_M_finds ∈ WB := wb_t 541 (by decide +kernel) rfl
theorem ml_M_finds : Cond.selects "PackagePickModel" y_M_finds y_M_finds ∈ WB := wb_s 8 (by decide +kernel) rfl
theorem mc_M_goes : Cond.code y_M_goes b_M_goes 7 (some .boolean) ∈ WB := wb_t 546 (by decide +kernel) rfl
theorem ms_M_goes : Cond.instanceMethod y_M_goes ∈ WB := wb_t 545 (by decide +kernel) rfl
theorem ml_M_goes : Cond.selects "PackagePickModel" y_M_goes y_M_goes ∈ WB := wb_s 9 (by decide +kernel) rfl
theorem mc_M_counts : Cond.code y_M_counts b_M_counts 2 (some .boolean) ∈ WB := wb_t 550 (by decide +kernel) rfl
theorem ms_M_counts : Cond.instanceMethod y_M_counts ∈ WB := wb_t 549 (by decide +kernel) rfl
theorem ml_M_counts : Cond.selects "PackagePickModel" y_M_counts y_M_counts ∈ WB := wb_s 10 (by decide +kernel) rfl
theorem mc_M_isMet : Cond.code y_M_isMet b_M_isMet 4 (some .boolean) ∈ WB := wb_t 554 (by decide +kernel) rfl
theorem ms_M_isMet : Cond.instanceMethod y_M_isMet ∈ WB := wb_t 553 (by decide +kernel) rfl
theorem ml_M_isMet : Cond.selects "PackagePickModel" y_M_isMet y_M_isMet ∈ WB := wb_s 11 (by decide +kernel) rfl
theorem mc_M_isTight : Cond.code y_M_isTight b_M_isTight 6 (some .boolean) ∈ WB := wb_t 558 (by decide +kernel) rfl
theorem ms_M_isTight : Cond.instanceMethod y_M_isTight ∈ WB := wb_t 557 (by decide +kernel) rfl
theorem ml_M_isTight : Cond.selects "PackagePickModel" y_M_isTight y_M_isTight ∈ WB := wb_s 12 (by decide +kernel) rfl
theorem mc_M_cost : Cond.code y_M_cost b_M_cost 4 (some .int) ∈ WB := wb_t 562 (by decide +kernel) rfl
theorem ms_M_cost : Cond.instanceMethod y_M_cost ∈ WB := wb_t 561 (by decide +kernel) rfl
theorem ml_M_cost : Cond.selects "PackagePickModel" y_M_cost y_M_cost ∈ WB := wb_s 13 (by decide +kernel) rfl
theorem mc_M_findCore : Cond.code y_M_findCore b_M_findCore 3 none ∈ WB := wb_t 566 (by decide +kernel) rfl
theorem ms_M_findCore : Cond.instanceMethod y_M_findCore ∈ WB := wb_t 565 (by decide +kernel) rfl
theorem ml_M_findCore : Cond.selects "PackagePickModel" y_M_findCore y_M_findCore ∈ WB := wb_s 14 (by decide +kernel) rfl
theorem mc_M_sizeOf : Cond.code y_M_sizeOf b_M_sizeOf 3 (some .int) ∈ WB := wb_t 569 (by decide +kernel) rfl
theorem ms_M_sizeOf : Cond.static y_M_sizeOf ∈ WB := wb_t 568 (by decide +kernel) rfl
theorem mc_M_isAhead : Cond.code y_M_isAhead b_M_isAhead 3 (some .boolean) ∈ WB := wb_t 572 (by decide +kernel) rfl
theorem ms_M_isAhead : Cond.static y_M_isAhead ∈ WB := wb_t 571 (by decide +kernel) rfl
theorem mc_M_keep : Cond.code y_M_keep b_M_keep 3 (some .int) ∈ WB := wb_t 576 (by decide +kernel) rfl
theorem ms_M_keep : Cond.instanceMethod y_M_keep ∈ WB := wb_t 574 (by decide +kernel) rfl
theorem ml_M_keep : Cond.selects "PackagePickModel" y_M_keep y_M_keep ∈ WB := wb_t 575 (by decide +kernel) rfl
theorem mc_M_differ : Cond.code y_M_differ b_M_differ 3 (some .int) ∈ WB := wb_t 580 (by decide +kernel) rfl
theorem ms_M_differ : Cond.instanceMethod y_M_differ ∈ WB := wb_t 579 (by decide +kernel) rfl
theorem ml_M_differ : Cond.selects "PackagePickModel" y_M_differ y_M_differ ∈ WB := wb_s 15 (by decide +kernel) rfl
theorem mc_M_chosen : Cond.code y_M_chosen b_M_chosen 2 (some .int) ∈ WB := wb_t 584 (by decide +kernel) rfl
theorem ms_M_chosen : Cond.instanceMethod y_M_chosen ∈ WB := wb_t 582 (by decide +kernel) rfl
theorem ml_M_chosen : Cond.selects "PackagePickModel" y_M_chosen y_M_chosen ∈ WB := wb_t 583 (by decide +kernel) rfl
theorem mc_M_many : Cond.code y_M_many b_M_many 2 (some .int) ∈ WB := wb_t 588 (by decide +kernel) rfl
theorem ms_M_many : Cond.instanceMethod y_M_many ∈ WB := wb_t 586 (by decide +kernel) rfl
theorem ml_M_many : Cond.selects "PackagePickModel" y_M_many y_M_many ∈ WB := wb_t 587 (by decide +kernel) rfl
theorem mc_M_can : Cond.code y_M_can b_M_can 3 (some .int) ∈ WB := wb_t 592 (by decide +kernel) rfl
theorem ms_M_can : Cond.instanceMethod y_M_can ∈ WB := wb_t 590 (by decide +kernel) rfl
theorem ml_M_can : Cond.selects "PackagePickModel" y_M_can y_M_can ∈ WB := wb_t 591 (by decide +kernel) rfl
theorem mc_M_core : Cond.code y_M_core b_M_core 4 (some .int) ∈ WB := wb_t 596 (by decide +kernel) rfl
theorem ms_M_core : Cond.instanceMethod y_M_core ∈ WB := wb_t 594 (by decide +kernel) rfl
theorem ml_M_core : Cond.selects "PackagePickModel" y_M_core y_M_core ∈ WB := wb_t 595 (by decide +kernel) rfl
theorem mc_M_count : Cond.code y_M_count b_M_count 4 (some .int) ∈ WB := wb_t 600 (by decide +kernel) rfl
theorem ms_M_count : Cond.instanceMethod y_M_count ∈ WB := wb_t 598 (by decide +kernel) rfl
theorem ml_M_count : Cond.selects "PackagePickModel" y_M_count y_M_count ∈ WB := wb_t 599 (by decide +kernel) rfl
theorem mi_PackagePickLaw : Cond.initialized "PackagePickLaw" ∈ WB := wb_t 0 (by decide +kernel) rfl
theorem mi_PackagePick : Cond.initialized "PackagePick" ∈ WB := wb_t 1 (by decide +kernel) rfl
theorem mi_PackagePick_Catalog : Cond.initialized "PackagePick$Catalog" ∈ WB := wb_t 2 (by decide +kernel) rfl
theorem mi_PackagePick_Wishes : Cond.initialized "PackagePick$Wishes" ∈ WB := wb_t 3 (by decide +kernel) rfl
theorem mi_PackagePick_Tally : Cond.initialized "PackagePick$Tally" ∈ WB := wb_t 4 (by decide +kernel) rfl
theorem mi_PackagePickModel : Cond.initialized "PackagePickModel" ∈ WB := wb_t 5 (by decide +kernel) rfl
theorem mi_Throwable : Cond.initialized "java/lang/Throwable" ∈ WB := wb_t 6 (by decide +kernel) rfl
theorem mi_Exception : Cond.initialized "java/lang/Exception" ∈ WB := wb_t 7 (by decide +kernel) rfl
theorem mi_RuntimeException : Cond.initialized "java/lang/RuntimeException" ∈ WB := wb_t 8 (by decide +kernel) rfl
theorem mi_IllegalArgumentException : Cond.initialized "java/lang/IllegalArgumentException" ∈ WB := wb_t 9 (by decide +kernel) rfl
theorem mi_Integer : Cond.initialized "java/lang/Integer" ∈ WB := wb_t 10 (by decide +kernel) rfl
theorem mi_Math : Cond.initialized "java/lang/Math" ∈ WB := wb_t 11 (by decide +kernel) rfl
theorem mi_IllegalStateException : Cond.initialized "java/lang/IllegalStateException" ∈ WB := wb_t 12 (by decide +kernel) rfl
theorem mi_NoSuchElementException : Cond.initialized "java/util/NoSuchElementException" ∈ WB := wb_t 13 (by decide +kernel) rfl
theorem mm_L_22 : Cond.methodLink "PackagePickLaw" 22 y_X_init ∈ WB := wb_t 16 (by decide +kernel) rfl
theorem mf_C_9 : Cond.fieldLink "PackagePick$Catalog" 9 "PackagePick$Catalog" "needs" "[I" ∈ WB := wb_t 28 (by decide +kernel) rfl
theorem mf_C_15 : Cond.fieldLink "PackagePick$Catalog" 15 "PackagePick$Catalog" "wanted" "[I" ∈ WB := wb_t 29 (by decide +kernel) rfl
theorem mf_X_186 : Cond.fieldLink "PackagePick" 186 "PackagePick$Catalog" "wanted" "[I" ∈ WB := wb_t 30 (by decide +kernel) rfl
theorem mf_C_18 : Cond.fieldLink "PackagePick$Catalog" 18 "PackagePick$Catalog" "unmet" "[I" ∈ WB := wb_t 31 (by decide +kernel) rfl
theorem mf_X_187 : Cond.fieldLink "PackagePick" 187 "PackagePick$Catalog" "unmet" "[I" ∈ WB := wb_t 32 (by decide +kernel) rfl
theorem mf_C_21 : Cond.fieldLink "PackagePick$Catalog" 21 "PackagePick$Catalog" "banned" "[I" ∈ WB := wb_t 33 (by decide +kernel) rfl
theorem mf_X_188 : Cond.fieldLink "PackagePick" 188 "PackagePick$Catalog" "banned" "[I" ∈ WB := wb_t 34 (by decide +kernel) rfl
theorem mf_C_24 : Cond.fieldLink "PackagePick$Catalog" 24 "PackagePick$Catalog" "there" "I" ∈ WB := wb_t 35 (by decide +kernel) rfl
theorem mf_X_137 : Cond.fieldLink "PackagePick" 137 "PackagePick$Catalog" "there" "I" ∈ WB := wb_t 36 (by decide +kernel) rfl
theorem mf_C_28 : Cond.fieldLink "PackagePick$Catalog" 28 "PackagePick$Catalog" "bans" "I" ∈ WB := wb_t 37 (by decide +kernel) rfl
theorem mf_X_143 : Cond.fieldLink "PackagePick" 143 "PackagePick$Catalog" "bans" "I" ∈ WB := wb_t 38 (by decide +kernel) rfl
theorem mf_W_9 : Cond.fieldLink "PackagePick$Wishes" 9 "PackagePick$Wishes" "wanted" "[I" ∈ WB := wb_t 59 (by decide +kernel) rfl
theorem mf_X_152 : Cond.fieldLink "PackagePick" 152 "PackagePick$Wishes" "wanted" "[I" ∈ WB := wb_t 60 (by decide +kernel) rfl
theorem mf_W_15 : Cond.fieldLink "PackagePick$Wishes" 15 "PackagePick$Wishes" "unmet" "[I" ∈ WB := wb_t 61 (by decide +kernel) rfl
theorem mf_X_160 : Cond.fieldLink "PackagePick" 160 "PackagePick$Wishes" "unmet" "[I" ∈ WB := wb_t 62 (by decide +kernel) rfl
theorem mf_W_18 : Cond.fieldLink "PackagePick$Wishes" 18 "PackagePick$Wishes" "size" "I" ∈ WB := wb_t 63 (by decide +kernel) rfl
theorem mf_X_146 : Cond.fieldLink "PackagePick" 146 "PackagePick$Wishes" "size" "I" ∈ WB := wb_t 64 (by decide +kernel) rfl
theorem mf_T_9 : Cond.fieldLink "PackagePick$Tally" 9 "PackagePick$Tally" "aim" "I" ∈ WB := wb_t 78 (by decide +kernel) rfl
theorem mf_T_15 : Cond.fieldLink "PackagePick$Tally" 15 "PackagePick$Tally" "kept" "I" ∈ WB := wb_t 79 (by decide +kernel) rfl
theorem mf_T_18 : Cond.fieldLink "PackagePick$Tally" 18 "PackagePick$Tally" "limit" "I" ∈ WB := wb_t 80 (by decide +kernel) rfl
theorem mf_T_21 : Cond.fieldLink "PackagePick$Tally" 21 "PackagePick$Tally" "found" "I" ∈ WB := wb_t 81 (by decide +kernel) rfl
theorem mf_X_92 : Cond.fieldLink "PackagePick" 92 "PackagePick$Tally" "found" "I" ∈ WB := wb_t 82 (by decide +kernel) rfl
theorem mf_T_24 : Cond.fieldLink "PackagePick$Tally" 24 "PackagePick$Tally" "seen" "I" ∈ WB := wb_t 83 (by decide +kernel) rfl
theorem mf_X_120 : Cond.fieldLink "PackagePick" 120 "PackagePick$Tally" "seen" "I" ∈ WB := wb_t 84 (by decide +kernel) rfl
theorem mf_T_27 : Cond.fieldLink "PackagePick$Tally" 27 "PackagePick$Tally" "absent" "I" ∈ WB := wb_t 85 (by decide +kernel) rfl
theorem mf_X_126 : Cond.fieldLink "PackagePick" 126 "PackagePick$Tally" "absent" "I" ∈ WB := wb_t 86 (by decide +kernel) rfl
theorem mf_T_30 : Cond.fieldLink "PackagePick$Tally" 30 "PackagePick$Tally" "best" "I" ∈ WB := wb_t 87 (by decide +kernel) rfl
theorem mf_X_103 : Cond.fieldLink "PackagePick" 103 "PackagePick$Tally" "best" "I" ∈ WB := wb_t 88 (by decide +kernel) rfl
theorem mf_T_33 : Cond.fieldLink "PackagePick$Tally" 33 "PackagePick$Tally" "bestCost" "I" ∈ WB := wb_t 89 (by decide +kernel) rfl
theorem mf_X_12 : Cond.fieldLink "PackagePick" 12 "PackagePick" "catalog" "LPackagePick$Catalog;" ∈ WB := wb_t 107 (by decide +kernel) rfl
theorem mf_X_19 : Cond.fieldLink "PackagePick" 19 "PackagePick" "wishes" "LPackagePick$Wishes;" ∈ WB := wb_t 108 (by decide +kernel) rfl
theorem mf_X_26 : Cond.fieldLink "PackagePick" 26 "PackagePick" "tally" "LPackagePick$Tally;" ∈ WB := wb_t 109 (by decide +kernel) rfl
theorem mf_X_30 : Cond.fieldLink "PackagePick" 30 "PackagePick" "told" "I" ∈ WB := wb_t 110 (by decide +kernel) rfl
theorem mf_X_34 : Cond.fieldLink "PackagePick" 34 "PackagePick" "kept" "I" ∈ WB := wb_t 111 (by decide +kernel) rfl
theorem mf_X_37 : Cond.fieldLink "PackagePick" 37 "PackagePick" "hindering" "I" ∈ WB := wb_t 112 (by decide +kernel) rfl
theorem mm_L_26 : Cond.methodLink "PackagePickLaw" 26 y_X_version ∈ WB := wb_t 126 (by decide +kernel) rfl
theorem mm_X_40 : Cond.methodLink "PackagePick" 40 y_X_isVersion ∈ WB := wb_t 130 (by decide +kernel) rfl
theorem mm_X_114 : Cond.methodLink "PackagePick" 114 y_X_isPackage ∈ WB := wb_t 133 (by decide +kernel) rfl
theorem mm_X_44 : Cond.methodLink "PackagePick" 44 y_X_slotOf ∈ WB := wb_t 136 (by decide +kernel) rfl
theorem mm_X_123 : Cond.methodLink "PackagePick" 123 y_X_placeOf ∈ WB := wb_t 139 (by decide +kernel) rfl
theorem mm_X_48 : Cond.methodLink "PackagePick" 48 y_C_add ∈ WB := wb_t 142 (by decide +kernel) rfl
theorem mm_C_39 : Cond.methodLink "PackagePick$Catalog" 39 y_C_has ∈ WB := wb_t 149 (by decide +kernel) rfl
theorem mm_L_31 : Cond.methodLink "PackagePickLaw" 31 y_X_need ∈ WB := wb_t 156 (by decide +kernel) rfl
theorem mm_X_52 : Cond.methodLink "PackagePick" 52 y_X_isNeed ∈ WB := wb_t 160 (by decide +kernel) rfl
theorem mm_X_56 : Cond.methodLink "PackagePick" 56 y_X_markOf ∈ WB := wb_t 163 (by decide +kernel) rfl
theorem mm_X_60 : Cond.methodLink "PackagePick" 60 y_X_outside ∈ WB := wb_t 166 (by decide +kernel) rfl
theorem mm_X_64 : Cond.methodLink "PackagePick" 64 y_C_addNeed ∈ WB := wb_t 169 (by decide +kernel) rfl
theorem mm_L_36 : Cond.methodLink "PackagePickLaw" 36 y_X_drop ∈ WB := wb_t 173 (by decide +kernel) rfl
theorem mm_X_67 : Cond.methodLink "PackagePick" 67 y_C_remove ∈ WB := wb_t 177 (by decide +kernel) rfl
theorem mm_L_40 : Cond.methodLink "PackagePickLaw" 40 y_X_ban ∈ WB := wb_t 181 (by decide +kernel) rfl
theorem mm_X_70 : Cond.methodLink "PackagePick" 70 y_C_addBan ∈ WB := wb_t 185 (by decide +kernel) rfl
theorem mm_L_45 : Cond.methodLink "PackagePickLaw" 45 y_X_ask ∈ WB := wb_t 189 (by decide +kernel) rfl
theorem mm_X_73 : Cond.methodLink "PackagePick" 73 y_W_add ∈ WB := wb_t 193 (by decide +kernel) rfl
theorem mm_L_50 : Cond.methodLink "PackagePickLaw" 50 y_X_take ∈ WB := wb_t 197 (by decide +kernel) rfl
theorem mm_X_75 : Cond.methodLink "PackagePick" 75 y_W_remove ∈ WB := wb_t 201 (by decide +kernel) rfl
theorem mm_L_65 : Cond.methodLink "PackagePickLaw" 65 y_X_keep ∈ WB := wb_t 205 (by decide +kernel) rfl
theorem mm_X_111 : Cond.methodLink "PackagePick" 111 y_X_differing ∈ WB := wb_t 209 (by decide +kernel) rfl
theorem mm_X_171 : Cond.methodLink "PackagePick" 171 y_X_marksOf ∈ WB := wb_t 212 (by decide +kernel) rfl
theorem mk_X_194 : Cond.constant "PackagePick" 194 17895697 ∈ WB := wb_t 215 (by decide +kernel) rfl
theorem mm_X_106 : Cond.methodLink "PackagePick" 106 y_J_bitCount ∈ WB := wb_t 216 (by decide +kernel) rfl
theorem mk_J_265 : Cond.constant "java/lang/Integer" 265 1431655765 ∈ WB := wb_t 219 (by decide +kernel) rfl
theorem mk_J_266 : Cond.constant "java/lang/Integer" 266 858993459 ∈ WB := wb_t 220 (by decide +kernel) rfl
theorem mk_J_267 : Cond.constant "java/lang/Integer" 267 252645135 ∈ WB := wb_t 221 (by decide +kernel) rfl
theorem mm_L_69 : Cond.methodLink "PackagePickLaw" 69 y_X_chosen ∈ WB := wb_t 222 (by decide +kernel) rfl
theorem mm_X_117 : Cond.methodLink "PackagePick" 117 y_X_holds ∈ WB := wb_t 226 (by decide +kernel) rfl
theorem mm_L_73 : Cond.methodLink "PackagePickLaw" 73 y_X_many ∈ WB := wb_t 227 (by decide +kernel) rfl
theorem mm_X_83 : Cond.methodLink "PackagePick" 83 y_W_all ∈ WB := wb_t 231 (by decide +kernel) rfl
theorem mk_X_87 : Cond.constant "PackagePick" 87 1000000 ∈ WB := wb_t 238 (by decide +kernel) rfl
theorem mm_X_88 : Cond.methodLink "PackagePick" 88 y_X_tallyChoices ∈ WB := wb_t 239 (by decide +kernel) rfl
theorem mm_X_149 : Cond.methodLink "PackagePick" 149 y_T_begin ∈ WB := wb_t 243 (by decide +kernel) rfl
theorem mm_X_156 : Cond.methodLink "PackagePick" 156 y_W_union ∈ WB := wb_t 247 (by decide +kernel) rfl
theorem mm_X_163 : Cond.methodLink "PackagePick" 163 y_X_explore ∈ WB := wb_t 251 (by decide +kernel) rfl
theorem mm_X_167 : Cond.methodLink "PackagePick" 167 y_T_isFull ∈ WB := wb_t 255 (by decide +kernel) rfl
theorem mm_X_174 : Cond.methodLink "PackagePick" 174 y_T_enter ∈ WB := wb_t 259 (by decide +kernel) rfl
theorem mm_T_36 : Cond.methodLink "PackagePick$Tally" 36 y_T_costOf ∈ WB := wb_t 263 (by decide +kernel) rfl
theorem mm_T_44 : Cond.methodLink "PackagePick$Tally" 44 y_J_bitCount ∈ WB := wb_t 267 (by decide +kernel) rfl
theorem mk_T_40 : Cond.constant "PackagePick$Tally" 40 17895697 ∈ WB := wb_t 269 (by decide +kernel) rfl
theorem mm_X_178 : Cond.methodLink "PackagePick" 178 y_X_lowestPlace ∈ WB := wb_t 271 (by decide +kernel) rfl
theorem mm_X_181 : Cond.methodLink "PackagePick" 181 y_K_min ∈ WB := wb_t 274 (by decide +kernel) rfl
theorem mm_L_77 : Cond.methodLink "PackagePickLaw" 77 y_X_can ∈ WB := wb_t 277 (by decide +kernel) rfl
theorem mm_L_84 : Cond.methodLink "PackagePickLaw" 84 y_X_count ∈ WB := wb_t 281 (by decide +kernel) rfl
theorem mm_X_140 : Cond.methodLink "PackagePick" 140 y_C_allNeeds ∈ WB := wb_t 285 (by decide +kernel) rfl
theorem mm_L_55 : Cond.methodLink "PackagePickLaw" 55 y_L_solve ∈ WB := wb_t 289 (by decide +kernel) rfl
theorem mm_L_7 : Cond.methodLink "PackagePickLaw" 7 y_X_solve ∈ WB := wb_t 294 (by decide +kernel) rfl
theorem mm_X_95 : Cond.methodLink "PackagePick" 95 y_X_fewestHindering ∈ WB := wb_t 366 (by decide +kernel) rfl
theorem mm_X_191 : Cond.methodLink "PackagePick" 191 y_X_hasChoice ∈ WB := wb_t 370 (by decide +kernel) rfl
theorem mm_L_81 : Cond.methodLink "PackagePickLaw" 81 y_L_core ∈ WB := wb_t 390 (by decide +kernel) rfl
theorem mm_L_17 : Cond.methodLink "PackagePickLaw" 17 y_X_core ∈ WB := wb_t 394 (by decide +kernel) rfl
theorem mm_X_129 : Cond.methodLink "PackagePick" 129 y_X_wishBit ∈ WB := wb_t 398 (by decide +kernel) rfl
theorem mm_L_25 : Cond.methodLink "PackagePickLaw" 25 y_M_init ∈ WB := wb_t 417 (by decide +kernel) rfl
theorem mf_M_56 : Cond.fieldLink "PackagePickModel" 56 "PackagePickModel" "thrown" "I" ∈ WB := wb_t 421 (by decide +kernel) rfl
theorem mf_M_7 : Cond.fieldLink "PackagePickModel" 7 "PackagePickModel" "there" "[Z" ∈ WB := wb_t 422 (by decide +kernel) rfl
theorem mf_M_13 : Cond.fieldLink "PackagePickModel" 13 "PackagePickModel" "needs" "[I" ∈ WB := wb_t 423 (by decide +kernel) rfl
theorem mf_M_17 : Cond.fieldLink "PackagePickModel" 17 "PackagePickModel" "needOf" "[I" ∈ WB := wb_t 424 (by decide +kernel) rfl
theorem mf_M_20 : Cond.fieldLink "PackagePickModel" 20 "PackagePickModel" "needFrom" "[I" ∈ WB := wb_t 425 (by decide +kernel) rfl
theorem mf_M_23 : Cond.fieldLink "PackagePickModel" 23 "PackagePickModel" "needTo" "[I" ∈ WB := wb_t 426 (by decide +kernel) rfl
theorem mf_M_75 : Cond.fieldLink "PackagePickModel" 75 "PackagePickModel" "asked" "I" ∈ WB := wb_t 427 (by decide +kernel) rfl
theorem mf_M_26 : Cond.fieldLink "PackagePickModel" 26 "PackagePickModel" "askedOf" "[I" ∈ WB := wb_t 428 (by decide +kernel) rfl
theorem mf_M_29 : Cond.fieldLink "PackagePickModel" 29 "PackagePickModel" "askedFrom" "[I" ∈ WB := wb_t 429 (by decide +kernel) rfl
theorem mf_M_32 : Cond.fieldLink "PackagePickModel" 32 "PackagePickModel" "askedTo" "[I" ∈ WB := wb_t 430 (by decide +kernel) rfl
theorem mf_M_72 : Cond.fieldLink "PackagePickModel" 72 "PackagePickModel" "bans" "I" ∈ WB := wb_t 431 (by decide +kernel) rfl
theorem mf_M_35 : Cond.fieldLink "PackagePickModel" 35 "PackagePickModel" "banOne" "[I" ∈ WB := wb_t 432 (by decide +kernel) rfl
theorem mf_M_38 : Cond.fieldLink "PackagePickModel" 38 "PackagePickModel" "banTwo" "[I" ∈ WB := wb_t 433 (by decide +kernel) rfl
theorem mf_M_78 : Cond.fieldLink "PackagePickModel" 78 "PackagePickModel" "counting" "I" ∈ WB := wb_t 434 (by decide +kernel) rfl
theorem mf_M_87 : Cond.fieldLink "PackagePickModel" 87 "PackagePickModel" "level" "I" ∈ WB := wb_t 435 (by decide +kernel) rfl
theorem mf_M_41 : Cond.fieldLink "PackagePickModel" 41 "PackagePickModel" "pick" "[I" ∈ WB := wb_t 436 (by decide +kernel) rfl
theorem mf_M_44 : Cond.fieldLink "PackagePickModel" 44 "PackagePickModel" "wanted" "[Z" ∈ WB := wb_t 437 (by decide +kernel) rfl
theorem mf_M_47 : Cond.fieldLink "PackagePickModel" 47 "PackagePickModel" "told" "[I" ∈ WB := wb_t 438 (by decide +kernel) rfl
theorem mf_M_50 : Cond.fieldLink "PackagePickModel" 50 "PackagePickModel" "kept" "[I" ∈ WB := wb_t 439 (by decide +kernel) rfl
theorem mf_M_53 : Cond.fieldLink "PackagePickModel" 53 "PackagePickModel" "best" "[I" ∈ WB := wb_t 440 (by decide +kernel) rfl
theorem mf_M_101 : Cond.fieldLink "PackagePickModel" 101 "PackagePickModel" "coreMask" "I" ∈ WB := wb_t 441 (by decide +kernel) rfl
theorem mm_L_61 : Cond.methodLink "PackagePickLaw" 61 y_M_thrown ∈ WB := wb_t 486 (by decide +kernel) rfl
theorem mm_L_30 : Cond.methodLink "PackagePickLaw" 30 y_M_version ∈ WB := wb_t 490 (by decide +kernel) rfl
theorem mm_M_64 : Cond.methodLink "PackagePickModel" 64 y_M_isVersion ∈ WB := wb_t 494 (by decide +kernel) rfl
theorem mm_M_60 : Cond.methodLink "PackagePickModel" 60 y_M_isPackage ∈ WB := wb_t 497 (by decide +kernel) rfl
theorem mm_L_35 : Cond.methodLink "PackagePickLaw" 35 y_M_need ∈ WB := wb_t 500 (by decide +kernel) rfl
theorem mm_M_68 : Cond.methodLink "PackagePickModel" 68 y_M_isNeed ∈ WB := wb_t 504 (by decide +kernel) rfl
theorem mm_L_39 : Cond.methodLink "PackagePickLaw" 39 y_M_drop ∈ WB := wb_t 507 (by decide +kernel) rfl
theorem mm_L_44 : Cond.methodLink "PackagePickLaw" 44 y_M_ban ∈ WB := wb_t 511 (by decide +kernel) rfl
theorem mm_L_49 : Cond.methodLink "PackagePickLaw" 49 y_M_ask ∈ WB := wb_t 515 (by decide +kernel) rfl
theorem mm_L_54 : Cond.methodLink "PackagePickLaw" 54 y_M_take ∈ WB := wb_t 519 (by decide +kernel) rfl
theorem mm_L_60 : Cond.methodLink "PackagePickLaw" 60 y_M_solve ∈ WB := wb_t 523 (by decide +kernel) rfl
theorem mm_M_118 : Cond.methodLink "PackagePickModel" 118 y_M_raise ∈ WB := wb_t 527 (by decide +kernel) rfl
theorem mm_M_97 : Cond.methodLink "PackagePickModel" 97 y_M_all ∈ WB := wb_t 531 (by decide +kernel) rfl
theorem mm_M_111 : Cond.methodLink "PackagePickModel" 111 y_M_begin ∈ WB := wb_t 535 (by decide +kernel) rfl
theorem mm_M_115 : Cond.methodLink "PackagePickModel" 115 y_M_finds ∈ WB := wb_t 539 (by decide +kernel) rfl
theorem mm_M_90 : Cond.methodLink "PackagePickModel" 90 y_M_goes ∈ WB := wb_t 543 (by decide +kernel) rfl
theorem mm_M_81 : Cond.methodLink "PackagePickModel" 81 y_M_counts ∈ WB := wb_t 547 (by decide +kernel) rfl
theorem mm_M_84 : Cond.methodLink "PackagePickModel" 84 y_M_isMet ∈ WB := wb_t 551 (by decide +kernel) rfl
theorem mm_M_93 : Cond.methodLink "PackagePickModel" 93 y_M_isTight ∈ WB := wb_t 555 (by decide +kernel) rfl
theorem mm_M_121 : Cond.methodLink "PackagePickModel" 121 y_M_cost ∈ WB := wb_t 559 (by decide +kernel) rfl
theorem mm_M_124 : Cond.methodLink "PackagePickModel" 124 y_M_findCore ∈ WB := wb_t 563 (by decide +kernel) rfl
theorem mm_M_104 : Cond.methodLink "PackagePickModel" 104 y_M_sizeOf ∈ WB := wb_t 567 (by decide +kernel) rfl
theorem mm_M_108 : Cond.methodLink "PackagePickModel" 108 y_M_isAhead ∈ WB := wb_t 570 (by decide +kernel) rfl
theorem mm_L_68 : Cond.methodLink "PackagePickLaw" 68 y_M_keep ∈ WB := wb_t 573 (by decide +kernel) rfl
theorem mm_M_127 : Cond.methodLink "PackagePickModel" 127 y_M_differ ∈ WB := wb_t 577 (by decide +kernel) rfl
theorem mm_L_72 : Cond.methodLink "PackagePickLaw" 72 y_M_chosen ∈ WB := wb_t 581 (by decide +kernel) rfl
theorem mm_L_76 : Cond.methodLink "PackagePickLaw" 76 y_M_many ∈ WB := wb_t 585 (by decide +kernel) rfl
theorem mm_L_80 : Cond.methodLink "PackagePickLaw" 80 y_M_can ∈ WB := wb_t 589 (by decide +kernel) rfl
theorem mm_L_83 : Cond.methodLink "PackagePickLaw" 83 y_M_core ∈ WB := wb_t 593 (by decide +kernel) rfl
theorem mm_L_87 : Cond.methodLink "PackagePickLaw" 87 y_M_count ∈ WB := wb_t 597 (by decide +kernel) rfl
theorem mu_C : ∀ w ∈ u_ws RR_C FF_C 6, w ∈ WB := fun w h => List.mem_filter.mpr ⟨(by decide +kernel : ∀ w ∈ u_ws RR_C FF_C 6, w ∈ lw_tbl) w h, (by decide +kernel : ∀ w ∈ u_ws RR_C FF_C 6, goodWord w = true) w h⟩
theorem mu_T : ∀ w ∈ u_ws RR_T FF_T 8, w ∈ WB := fun w h => List.mem_filter.mpr ⟨(by decide +kernel : ∀ w ∈ u_ws RR_T FF_T 8, w ∈ lw_tbl) w h, (by decide +kernel : ∀ w ∈ u_ws RR_T FF_T 8, goodWord w = true) w h⟩
theorem mu_W : ∀ w ∈ u_ws RR_W FF_W 3, w ∈ WB := fun w h => List.mem_filter.mpr ⟨(by decide +kernel : ∀ w ∈ u_ws RR_W FF_W 3, w ∈ lw_tbl) w h, (by decide +kernel : ∀ w ∈ u_ws RR_W FF_W 3, goodWord w = true) w h⟩
theorem mu_X : ∀ w ∈ u_ws RR_X FF_X 6, w ∈ WB := fun w h => List.mem_filter.mpr ⟨(by decide +kernel : ∀ w ∈ u_ws RR_X FF_X 6, w ∈ lw_tbl) w h, (by decide +kernel : ∀ w ∈ u_ws RR_X FF_X 6, goodWord w = true) w h⟩
theorem mu_M : ∀ w ∈ u_ws RR_M FF_M 21, w ∈ WB := fun w h => List.mem_filter.mpr ⟨(by decide +kernel : ∀ w ∈ u_ws RR_M FF_M 21, w ∈ lw_tbl) w h, (by decide +kernel : ∀ w ∈ u_ws RR_M FF_M 21, goodWord w = true) w h⟩
end
section
theorem d_J_bitCount_0 : decode b_J_bitCount 0 = .ok (.iload_n 0, 1) := by decide +kernel
theorem d_J_bitCount_1 : decode b_J_bitCount 1 = .ok (.iload_n 0, 1) := by decide +kernel
theorem d_J_bitCount_2 : decode b_J_bitCount 2 = .ok (.iconst 1, 1) := by decide +kernel
theorem d_J_bitCount_3 : decode b_J_bitCount 3 = .ok (.iushr, 1) := by decide +kernel
theorem d_J_bitCount_4 : decode b_J_bitCount 4 = .ok (.ldc_w 265, 3) := by decide +kernel
theorem d_J_bitCount_7 : decode b_J_bitCount 7 = .ok (.iand, 1) := by decide +kernel
theorem d_J_bitCount_8 : decode b_J_bitCount 8 = .ok (.isub, 1) := by decide +kernel
theorem d_J_bitCount_9 : decode b_J_bitCount 9 = .ok (.istore_n 0, 1) := by decide +kernel
theorem d_J_bitCount_10 : decode b_J_bitCount 10 = .ok (.iload_n 0, 1) := by decide +kernel
theorem d_J_bitCount_11 : decode b_J_bitCount 11 = .ok (.ldc_w 266, 3) := by decide +kernel
theorem d_J_bitCount_14 : decode b_J_bitCount 14 = .ok (.iand, 1) := by decide +kernel
theorem d_J_bitCount_15 : decode b_J_bitCount 15 = .ok (.iload_n 0, 1) := by decide +kernel
theorem d_J_bitCount_16 : decode b_J_bitCount 16 = .ok (.iconst 2, 1) := by decide +kernel
theorem d_J_bitCount_17 : decode b_J_bitCount 17 = .ok (.iushr, 1) := by decide +kernel
theorem d_J_bitCount_18 : decode b_J_bitCount 18 = .ok (.ldc_w 266, 3) := by decide +kernel
theorem d_J_bitCount_21 : decode b_J_bitCount 21 = .ok (.iand, 1) := by decide +kernel
theorem d_J_bitCount_22 : decode b_J_bitCount 22 = .ok (.iadd, 1) := by decide +kernel
theorem d_J_bitCount_23 : decode b_J_bitCount 23 = .ok (.istore_n 0, 1) := by decide +kernel
theorem d_J_bitCount_24 : decode b_J_bitCount 24 = .ok (.iload_n 0, 1) := by decide +kernel
theorem d_J_bitCount_25 : decode b_J_bitCount 25 = .ok (.iload_n 0, 1) := by decide +kernel
theorem d_J_bitCount_26 : decode b_J_bitCount 26 = .ok (.iconst 4, 1) := by decide +kernel
theorem d_J_bitCount_27 : decode b_J_bitCount 27 = .ok (.iushr, 1) := by decide +kernel
theorem d_J_bitCount_28 : decode b_J_bitCount 28 = .ok (.iadd, 1) := by decide +kernel
theorem d_J_bitCount_29 : decode b_J_bitCount 29 = .ok (.ldc_w 267, 3) := by decide +kernel
theorem d_J_bitCount_32 : decode b_J_bitCount 32 = .ok (.iand, 1) := by decide +kernel
theorem d_J_bitCount_33 : decode b_J_bitCount 33 = .ok (.istore_n 0, 1) := by decide +kernel
theorem d_J_bitCount_34 : decode b_J_bitCount 34 = .ok (.iload_n 0, 1) := by decide +kernel
theorem d_J_bitCount_35 : decode b_J_bitCount 35 = .ok (.iload_n 0, 1) := by decide +kernel
theorem d_J_bitCount_36 : decode b_J_bitCount 36 = .ok (.bipush 8, 2) := by decide +kernel
theorem d_J_bitCount_38 : decode b_J_bitCount 38 = .ok (.iushr, 1) := by decide +kernel
theorem d_J_bitCount_39 : decode b_J_bitCount 39 = .ok (.iadd, 1) := by decide +kernel
theorem d_J_bitCount_40 : decode b_J_bitCount 40 = .ok (.istore_n 0, 1) := by decide +kernel
theorem d_J_bitCount_41 : decode b_J_bitCount 41 = .ok (.iload_n 0, 1) := by decide +kernel
theorem d_J_bitCount_42 : decode b_J_bitCount 42 = .ok (.iload_n 0, 1) := by decide +kernel
theorem d_J_bitCount_43 : decode b_J_bitCount 43 = .ok (.bipush 16, 2) := by decide +kernel
theorem d_J_bitCount_45 : decode b_J_bitCount 45 = .ok (.iushr, 1) := by decide +kernel
theorem d_J_bitCount_46 : decode b_J_bitCount 46 = .ok (.iadd, 1) := by decide +kernel
theorem d_J_bitCount_47 : decode b_J_bitCount 47 = .ok (.istore_n 0, 1) := by decide +kernel
theorem d_J_bitCount_48 : decode b_J_bitCount 48 = .ok (.iload_n 0, 1) := by decide +kernel
theorem d_J_bitCount_49 : decode b_J_bitCount 49 = .ok (.bipush 63, 2) := by decide +kernel
theorem d_J_bitCount_51 : decode b_J_bitCount 51 = .ok (.iand, 1) := by decide +kernel
theorem d_J_bitCount_52 : decode b_J_bitCount 52 = .ok (.ireturn, 1) := by decide +kernel
theorem d_C_init_0 : decode b_C_init 0 = .ok (.aload_n 0, 1) := by decide +kernel
theorem d_C_init_1 : decode b_C_init 1 = .ok (.invokespecial 3, 3) := by decide +kernel
theorem d_C_init_4 : decode b_C_init 4 = .ok (.aload_n 0, 1) := by decide +kernel
theorem d_C_init_5 : decode b_C_init 5 = .ok (.bipush 28, 2) := by decide +kernel
theorem d_C_init_7 : decode b_C_init 7 = .ok (.newarray .int, 2) := by decide +kernel
theorem d_C_init_9 : decode b_C_init 9 = .ok (.putfield 9, 3) := by decide +kernel
theorem d_C_init_12 : decode b_C_init 12 = .ok (.aload_n 0, 1) := by decide +kernel
theorem d_C_init_13 : decode b_C_init 13 = .ok (.bipush 28, 2) := by decide +kernel
theorem d_C_init_15 : decode b_C_init 15 = .ok (.newarray .int, 2) := by decide +kernel
theorem d_C_init_17 : decode b_C_init 17 = .ok (.putfield 15, 3) := by decide +kernel
theorem d_C_init_20 : decode b_C_init 20 = .ok (.aload_n 0, 1) := by decide +kernel
theorem d_C_init_21 : decode b_C_init 21 = .ok (.bipush 28, 2) := by decide +kernel
theorem d_C_init_23 : decode b_C_init 23 = .ok (.newarray .int, 2) := by decide +kernel
theorem d_C_init_25 : decode b_C_init 25 = .ok (.putfield 18, 3) := by decide +kernel
theorem d_C_init_28 : decode b_C_init 28 = .ok (.aload_n 0, 1) := by decide +kernel
theorem d_C_init_29 : decode b_C_init 29 = .ok (.bipush 28, 2) := by decide +kernel
theorem d_C_init_31 : decode b_C_init 31 = .ok (.newarray .int, 2) := by decide +kernel
theorem d_C_init_33 : decode b_C_init 33 = .ok (.putfield 21, 3) := by decide +kernel
theorem d_C_init_36 : decode b_C_init 36 = .ok (.aload_n 0, 1) := by decide +kernel
theorem d_C_init_37 : decode b_C_init 37 = .ok (.iconst 0, 1) := by decide +kernel
theorem d_C_init_38 : decode b_C_init 38 = .ok (.putfield 24, 3) := by decide +kernel
theorem d_C_init_41 : decode b_C_init 41 = .ok (.aload_n 0, 1) := by decide +kernel
theorem d_C_init_42 : decode b_C_init 42 = .ok (.iconst 0, 1) := by decide +kernel
theorem d_C_init_43 : decode b_C_init 43 = .ok (.putfield 28, 3) := by decide +kernel
theorem d_C_init_46 : decode b_C_init 46 = .ok (.return_, 1) := by decide +kernel
theorem d_C_has_0 : decode b_C_has 0 = .ok (.iload_n 1, 1) := by decide +kernel
theorem d_C_has_1 : decode b_C_has 1 = .ok (.invokestatic 31, 3) := by decide +kernel
theorem d_C_has_4 : decode b_C_has 4 = .ok (.ifCond .eq 18, 3) := by decide +kernel
theorem d_C_has_7 : decode b_C_has 7 = .ok (.aload_n 0, 1) := by decide +kernel
theorem d_C_has_8 : decode b_C_has 8 = .ok (.getfield 24, 3) := by decide +kernel
theorem d_C_has_11 : decode b_C_has 11 = .ok (.iload_n 1, 1) := by decide +kernel
theorem d_C_has_12 : decode b_C_has 12 = .ok (.invokestatic 35, 3) := by decide +kernel
theorem d_C_has_15 : decode b_C_has 15 = .ok (.ifCond .eq 7, 3) := by decide +kernel
theorem d_C_has_18 : decode b_C_has 18 = .ok (.iconst 1, 1) := by decide +kernel
theorem d_C_has_19 : decode b_C_has 19 = .ok (.goto 4, 3) := by decide +kernel
theorem d_C_has_22 : decode b_C_has 22 = .ok (.iconst 0, 1) := by decide +kernel
theorem d_C_has_23 : decode b_C_has 23 = .ok (.ireturn, 1) := by decide +kernel
theorem d_C_add_0 : decode b_C_add 0 = .ok (.iload_n 1, 1) := by decide +kernel
theorem d_C_add_1 : decode b_C_add 1 = .ok (.invokestatic 31, 3) := by decide +kernel
theorem d_C_add_4 : decode b_C_add 4 = .ok (.ifCond .eq 11, 3) := by decide +kernel
theorem d_C_add_7 : decode b_C_add 7 = .ok (.aload_n 0, 1) := by decide +kernel
theorem d_C_add_8 : decode b_C_add 8 = .ok (.iload_n 1, 1) := by decide +kernel
theorem d_C_add_9 : decode b_C_add 9 = .ok (.invokevirtual 39, 3) := by decide +kernel
theorem d_C_add_12 : decode b_C_add 12 = .ok (.ifCond .eq 5, 3) := by decide +kernel
theorem d_C_add_15 : decode b_C_add 15 = .ok (.iconst 0, 1) := by decide +kernel
theorem d_C_add_16 : decode b_C_add 16 = .ok (.ireturn, 1) := by decide +kernel
theorem d_C_add_17 : decode b_C_add 17 = .ok (.aload_n 0, 1) := by decide +kernel
theorem d_C_add_18 : decode b_C_add 18 = .ok (.dup, 1) := by decide +kernel
theorem d_C_add_19 : decode b_C_add 19 = .ok (.getfield 24, 3) := by decide +kernel
theorem d_C_add_22 : decode b_C_add 22 = .ok (.iconst 1, 1) := by decide +kernel
theorem d_C_add_23 : decode b_C_add 23 = .ok (.iload_n 1, 1) := by decide +kernel
theorem d_C_add_24 : decode b_C_add 24 = .ok (.ishl, 1) := by decide +kernel
theorem d_C_add_25 : decode b_C_add 25 = .ok (.ior, 1) := by decide +kernel
theorem d_C_add_26 : decode b_C_add 26 = .ok (.putfield 24, 3) := by decide +kernel
theorem d_C_add_29 : decode b_C_add 29 = .ok (.iconst 1, 1) := by decide +kernel
theorem d_C_add_30 : decode b_C_add 30 = .ok (.ireturn, 1) := by decide +kernel
theorem d_C_remove_0 : decode b_C_remove 0 = .ok (.aload_n 0, 1) := by decide +kernel
theorem d_C_remove_1 : decode b_C_remove 1 = .ok (.iload_n 1, 1) := by decide +kernel
theorem d_C_remove_2 : decode b_C_remove 2 = .ok (.invokevirtual 39, 3) := by decide +kernel
theorem d_C_remove_5 : decode b_C_remove 5 = .ok (.ifCond .ne 5, 3) := by decide +kernel
theorem d_C_remove_8 : decode b_C_remove 8 = .ok (.iconst 0, 1) := by decide +kernel
theorem d_C_remove_9 : decode b_C_remove 9 = .ok (.ireturn, 1) := by decide +kernel
theorem d_C_remove_10 : decode b_C_remove 10 = .ok (.aload_n 0, 1) := by decide +kernel
theorem d_C_remove_11 : decode b_C_remove 11 = .ok (.dup, 1) := by decide +kernel
theorem d_C_remove_12 : decode b_C_remove 12 = .ok (.getfield 24, 3) := by decide +kernel
theorem d_C_remove_15 : decode b_C_remove 15 = .ok (.iconst 1, 1) := by decide +kernel
theorem d_C_remove_16 : decode b_C_remove 16 = .ok (.iload_n 1, 1) := by decide +kernel
theorem d_C_remove_17 : decode b_C_remove 17 = .ok (.ishl, 1) := by decide +kernel
theorem d_C_remove_18 : decode b_C_remove 18 = .ok (.iconst (-1), 1) := by decide +kernel
theorem d_C_remove_19 : decode b_C_remove 19 = .ok (.ixor, 1) := by decide +kernel
theorem d_C_remove_20 : decode b_C_remove 20 = .ok (.iand, 1) := by decide +kernel
theorem d_C_remove_21 : decode b_C_remove 21 = .ok (.putfield 24, 3) := by decide +kernel
theorem d_C_remove_24 : decode b_C_remove 24 = .ok (.aload_n 0, 1) := by decide +kernel
theorem d_C_remove_25 : decode b_C_remove 25 = .ok (.getfield 9, 3) := by decide +kernel
theorem d_C_remove_28 : decode b_C_remove 28 = .ok (.iload_n 1, 1) := by decide +kernel
theorem d_C_remove_29 : decode b_C_remove 29 = .ok (.iconst 0, 1) := by decide +kernel
theorem d_C_remove_30 : decode b_C_remove 30 = .ok (.iastore, 1) := by decide +kernel
theorem d_C_remove_31 : decode b_C_remove 31 = .ok (.aload_n 0, 1) := by decide +kernel
theorem d_C_remove_32 : decode b_C_remove 32 = .ok (.getfield 15, 3) := by decide +kernel
theorem d_C_remove_35 : decode b_C_remove 35 = .ok (.iload_n 1, 1) := by decide +kernel
theorem d_C_remove_36 : decode b_C_remove 36 = .ok (.iconst 0, 1) := by decide +kernel
theorem d_C_remove_37 : decode b_C_remove 37 = .ok (.iastore, 1) := by decide +kernel
theorem d_C_remove_38 : decode b_C_remove 38 = .ok (.aload_n 0, 1) := by decide +kernel
theorem d_C_remove_39 : decode b_C_remove 39 = .ok (.getfield 18, 3) := by decide +kernel
theorem d_C_remove_42 : decode b_C_remove 42 = .ok (.iload_n 1, 1) := by decide +kernel
theorem d_C_remove_43 : decode b_C_remove 43 = .ok (.iconst 0, 1) := by decide +kernel
theorem d_C_remove_44 : decode b_C_remove 44 = .ok (.iastore, 1) := by decide +kernel
theorem d_C_remove_45 : decode b_C_remove 45 = .ok (.iconst 1, 1) := by decide +kernel
theorem d_C_remove_46 : decode b_C_remove 46 = .ok (.ireturn, 1) := by decide +kernel
theorem d_C_addNeed_0 : decode b_C_addNeed 0 = .ok (.aload_n 0, 1) := by decide +kernel
theorem d_C_addNeed_1 : decode b_C_addNeed 1 = .ok (.iload_n 1, 1) := by decide +kernel
theorem d_C_addNeed_2 : decode b_C_addNeed 2 = .ok (.invokevirtual 39, 3) := by decide +kernel
theorem d_C_addNeed_5 : decode b_C_addNeed 5 = .ok (.ifCond .eq 13, 3) := by decide +kernel
theorem d_C_addNeed_8 : decode b_C_addNeed 8 = .ok (.aload_n 0, 1) := by decide +kernel
theorem d_C_addNeed_9 : decode b_C_addNeed 9 = .ok (.getfield 9, 3) := by decide +kernel
theorem d_C_addNeed_12 : decode b_C_addNeed 12 = .ok (.iload_n 1, 1) := by decide +kernel
theorem d_C_addNeed_13 : decode b_C_addNeed 13 = .ok (.iaload, 1) := by decide +kernel
theorem d_C_addNeed_14 : decode b_C_addNeed 14 = .ok (.iconst 4, 1) := by decide +kernel
theorem d_C_addNeed_15 : decode b_C_addNeed 15 = .ok (.if_icmp .lt 5, 3) := by decide +kernel
theorem d_C_addNeed_18 : decode b_C_addNeed 18 = .ok (.iconst 0, 1) := by decide +kernel
theorem d_C_addNeed_19 : decode b_C_addNeed 19 = .ok (.ireturn, 1) := by decide +kernel
theorem d_C_addNeed_20 : decode b_C_addNeed 20 = .ok (.aload_n 0, 1) := by decide +kernel
theorem d_C_addNeed_21 : decode b_C_addNeed 21 = .ok (.getfield 9, 3) := by decide +kernel
theorem d_C_addNeed_24 : decode b_C_addNeed 24 = .ok (.iload_n 1, 1) := by decide +kernel
theorem d_C_addNeed_25 : decode b_C_addNeed 25 = .ok (.dup2, 1) := by decide +kernel
theorem d_C_addNeed_26 : decode b_C_addNeed 26 = .ok (.iaload, 1) := by decide +kernel
theorem d_C_addNeed_27 : decode b_C_addNeed 27 = .ok (.iconst 1, 1) := by decide +kernel
theorem d_C_addNeed_28 : decode b_C_addNeed 28 = .ok (.iadd, 1) := by decide +kernel
theorem d_C_addNeed_29 : decode b_C_addNeed 29 = .ok (.iastore, 1) := by decide +kernel
theorem d_C_addNeed_30 : decode b_C_addNeed 30 = .ok (.aload_n 0, 1) := by decide +kernel
theorem d_C_addNeed_31 : decode b_C_addNeed 31 = .ok (.getfield 15, 3) := by decide +kernel
theorem d_C_addNeed_34 : decode b_C_addNeed 34 = .ok (.iload_n 1, 1) := by decide +kernel
theorem d_C_addNeed_35 : decode b_C_addNeed 35 = .ok (.dup2, 1) := by decide +kernel
theorem d_C_addNeed_36 : decode b_C_addNeed 36 = .ok (.iaload, 1) := by decide +kernel
theorem d_C_addNeed_37 : decode b_C_addNeed 37 = .ok (.iload_n 2, 1) := by decide +kernel
theorem d_C_addNeed_38 : decode b_C_addNeed 38 = .ok (.ior, 1) := by decide +kernel
theorem d_C_addNeed_39 : decode b_C_addNeed 39 = .ok (.iastore, 1) := by decide +kernel
theorem d_C_addNeed_40 : decode b_C_addNeed 40 = .ok (.aload_n 0, 1) := by decide +kernel
theorem d_C_addNeed_41 : decode b_C_addNeed 41 = .ok (.getfield 18, 3) := by decide +kernel
theorem d_C_addNeed_44 : decode b_C_addNeed 44 = .ok (.iload_n 1, 1) := by decide +kernel
theorem d_C_addNeed_45 : decode b_C_addNeed 45 = .ok (.dup2, 1) := by decide +kernel
theorem d_C_addNeed_46 : decode b_C_addNeed 46 = .ok (.iaload, 1) := by decide +kernel
theorem d_C_addNeed_47 : decode b_C_addNeed 47 = .ok (.iload_n 3, 1) := by decide +kernel
theorem d_C_addNeed_48 : decode b_C_addNeed 48 = .ok (.ior, 1) := by decide +kernel
theorem d_C_addNeed_49 : decode b_C_addNeed 49 = .ok (.iastore, 1) := by decide +kernel
theorem d_C_addNeed_50 : decode b_C_addNeed 50 = .ok (.iconst 1, 1) := by decide +kernel
theorem d_C_addNeed_51 : decode b_C_addNeed 51 = .ok (.ireturn, 1) := by decide +kernel
theorem d_C_addBan_0 : decode b_C_addBan 0 = .ok (.iload_n 1, 1) := by decide +kernel
theorem d_C_addBan_1 : decode b_C_addBan 1 = .ok (.invokestatic 31, 3) := by decide +kernel
theorem d_C_addBan_4 : decode b_C_addBan 4 = .ok (.ifCond .eq 19, 3) := by decide +kernel
theorem d_C_addBan_7 : decode b_C_addBan 7 = .ok (.iload_n 2, 1) := by decide +kernel
theorem d_C_addBan_8 : decode b_C_addBan 8 = .ok (.invokestatic 31, 3) := by decide +kernel
theorem d_C_addBan_11 : decode b_C_addBan 11 = .ok (.ifCond .eq 12, 3) := by decide +kernel
theorem d_C_addBan_14 : decode b_C_addBan 14 = .ok (.aload_n 0, 1) := by decide +kernel
theorem d_C_addBan_15 : decode b_C_addBan 15 = .ok (.getfield 28, 3) := by decide +kernel
theorem d_C_addBan_18 : decode b_C_addBan 18 = .ok (.bipush 16, 2) := by decide +kernel
theorem d_C_addBan_20 : decode b_C_addBan 20 = .ok (.if_icmp .lt 5, 3) := by decide +kernel
theorem d_C_addBan_23 : decode b_C_addBan 23 = .ok (.iconst 0, 1) := by decide +kernel
theorem d_C_addBan_24 : decode b_C_addBan 24 = .ok (.ireturn, 1) := by decide +kernel
theorem d_C_addBan_25 : decode b_C_addBan 25 = .ok (.aload_n 0, 1) := by decide +kernel
theorem d_C_addBan_26 : decode b_C_addBan 26 = .ok (.dup, 1) := by decide +kernel
theorem d_C_addBan_27 : decode b_C_addBan 27 = .ok (.getfield 28, 3) := by decide +kernel
theorem d_C_addBan_30 : decode b_C_addBan 30 = .ok (.iconst 1, 1) := by decide +kernel
theorem d_C_addBan_31 : decode b_C_addBan 31 = .ok (.iadd, 1) := by decide +kernel
theorem d_C_addBan_32 : decode b_C_addBan 32 = .ok (.putfield 28, 3) := by decide +kernel
theorem d_C_addBan_35 : decode b_C_addBan 35 = .ok (.aload_n 0, 1) := by decide +kernel
theorem d_C_addBan_36 : decode b_C_addBan 36 = .ok (.getfield 21, 3) := by decide +kernel
theorem d_C_addBan_39 : decode b_C_addBan 39 = .ok (.iload_n 1, 1) := by decide +kernel
theorem d_C_addBan_40 : decode b_C_addBan 40 = .ok (.dup2, 1) := by decide +kernel
theorem d_C_addBan_41 : decode b_C_addBan 41 = .ok (.iaload, 1) := by decide +kernel
theorem d_C_addBan_42 : decode b_C_addBan 42 = .ok (.iconst 1, 1) := by decide +kernel
theorem d_C_addBan_43 : decode b_C_addBan 43 = .ok (.iload_n 2, 1) := by decide +kernel
theorem d_C_addBan_44 : decode b_C_addBan 44 = .ok (.ishl, 1) := by decide +kernel
theorem d_C_addBan_45 : decode b_C_addBan 45 = .ok (.ior, 1) := by decide +kernel
theorem d_C_addBan_46 : decode b_C_addBan 46 = .ok (.iastore, 1) := by decide +kernel
theorem d_C_addBan_47 : decode b_C_addBan 47 = .ok (.aload_n 0, 1) := by decide +kernel
theorem d_C_addBan_48 : decode b_C_addBan 48 = .ok (.getfield 21, 3) := by decide +kernel
theorem d_C_addBan_51 : decode b_C_addBan 51 = .ok (.iload_n 2, 1) := by decide +kernel
theorem d_C_addBan_52 : decode b_C_addBan 52 = .ok (.dup2, 1) := by decide +kernel
theorem d_C_addBan_53 : decode b_C_addBan 53 = .ok (.iaload, 1) := by decide +kernel
theorem d_C_addBan_54 : decode b_C_addBan 54 = .ok (.iconst 1, 1) := by decide +kernel
theorem d_C_addBan_55 : decode b_C_addBan 55 = .ok (.iload_n 1, 1) := by decide +kernel
theorem d_C_addBan_56 : decode b_C_addBan 56 = .ok (.ishl, 1) := by decide +kernel
theorem d_C_addBan_57 : decode b_C_addBan 57 = .ok (.ior, 1) := by decide +kernel
theorem d_C_addBan_58 : decode b_C_addBan 58 = .ok (.iastore, 1) := by decide +kernel
theorem d_C_addBan_59 : decode b_C_addBan 59 = .ok (.iconst 1, 1) := by decide +kernel
theorem d_C_addBan_60 : decode b_C_addBan 60 = .ok (.ireturn, 1) := by decide +kernel
theorem d_C_allNeeds_0 : decode b_C_allNeeds 0 = .ok (.iconst 0, 1) := by decide +kernel
theorem d_C_allNeeds_1 : decode b_C_allNeeds 1 = .ok (.istore_n 1, 1) := by decide +kernel
theorem d_C_allNeeds_2 : decode b_C_allNeeds 2 = .ok (.iconst 0, 1) := by decide +kernel
theorem d_C_allNeeds_3 : decode b_C_allNeeds 3 = .ok (.istore_n 2, 1) := by decide +kernel
theorem d_C_allNeeds_4 : decode b_C_allNeeds 4 = .ok (.iload_n 2, 1) := by decide +kernel
theorem d_C_allNeeds_5 : decode b_C_allNeeds 5 = .ok (.bipush 28, 2) := by decide +kernel
theorem d_C_allNeeds_7 : decode b_C_allNeeds 7 = .ok (.if_icmp .ge 18, 3) := by decide +kernel
theorem d_C_allNeeds_10 : decode b_C_allNeeds 10 = .ok (.iload_n 1, 1) := by decide +kernel
theorem d_C_allNeeds_11 : decode b_C_allNeeds 11 = .ok (.aload_n 0, 1) := by decide +kernel
theorem d_C_allNeeds_12 : decode b_C_allNeeds 12 = .ok (.getfield 9, 3) := by decide +kernel
theorem d_C_allNeeds_15 : decode b_C_allNeeds 15 = .ok (.iload_n 2, 1) := by decide +kernel
theorem d_C_allNeeds_16 : decode b_C_allNeeds 16 = .ok (.iaload, 1) := by decide +kernel
theorem d_C_allNeeds_17 : decode b_C_allNeeds 17 = .ok (.iadd, 1) := by decide +kernel
theorem d_C_allNeeds_18 : decode b_C_allNeeds 18 = .ok (.istore_n 1, 1) := by decide +kernel
theorem d_C_allNeeds_19 : decode b_C_allNeeds 19 = .ok (.iinc 2 1, 3) := by decide +kernel
theorem d_C_allNeeds_22 : decode b_C_allNeeds 22 = .ok (.goto (-18), 3) := by decide +kernel
theorem d_C_allNeeds_25 : decode b_C_allNeeds 25 = .ok (.iload_n 1, 1) := by decide +kernel
theorem d_C_allNeeds_26 : decode b_C_allNeeds 26 = .ok (.ireturn, 1) := by decide +kernel
theorem d_T_init_0 : decode b_T_init 0 = .ok (.aload_n 0, 1) := by decide +kernel
theorem d_T_init_1 : decode b_T_init 1 = .ok (.invokespecial 3, 3) := by decide +kernel
theorem d_T_init_4 : decode b_T_init 4 = .ok (.aload_n 0, 1) := by decide +kernel
theorem d_T_init_5 : decode b_T_init 5 = .ok (.iconst 0, 1) := by decide +kernel
theorem d_T_init_6 : decode b_T_init 6 = .ok (.putfield 9, 3) := by decide +kernel
theorem d_T_init_9 : decode b_T_init 9 = .ok (.aload_n 0, 1) := by decide +kernel
theorem d_T_init_10 : decode b_T_init 10 = .ok (.iconst 0, 1) := by decide +kernel
theorem d_T_init_11 : decode b_T_init 11 = .ok (.putfield 15, 3) := by decide +kernel
theorem d_T_init_14 : decode b_T_init 14 = .ok (.aload_n 0, 1) := by decide +kernel
theorem d_T_init_15 : decode b_T_init 15 = .ok (.iconst 0, 1) := by decide +kernel
theorem d_T_init_16 : decode b_T_init 16 = .ok (.putfield 18, 3) := by decide +kernel
theorem d_T_init_19 : decode b_T_init 19 = .ok (.aload_n 0, 1) := by decide +kernel
theorem d_T_init_20 : decode b_T_init 20 = .ok (.iconst 0, 1) := by decide +kernel
theorem d_T_init_21 : decode b_T_init 21 = .ok (.putfield 21, 3) := by decide +kernel
theorem d_T_init_24 : decode b_T_init 24 = .ok (.aload_n 0, 1) := by decide +kernel
theorem d_T_init_25 : decode b_T_init 25 = .ok (.iconst 0, 1) := by decide +kernel
theorem d_T_init_26 : decode b_T_init 26 = .ok (.putfield 24, 3) := by decide +kernel
theorem d_T_init_29 : decode b_T_init 29 = .ok (.aload_n 0, 1) := by decide +kernel
theorem d_T_init_30 : decode b_T_init 30 = .ok (.iconst 0, 1) := by decide +kernel
theorem d_T_init_31 : decode b_T_init 31 = .ok (.putfield 27, 3) := by decide +kernel
theorem d_T_init_34 : decode b_T_init 34 = .ok (.aload_n 0, 1) := by decide +kernel
theorem d_T_init_35 : decode b_T_init 35 = .ok (.iconst 0, 1) := by decide +kernel
theorem d_T_init_36 : decode b_T_init 36 = .ok (.putfield 30, 3) := by decide +kernel
theorem d_T_init_39 : decode b_T_init 39 = .ok (.aload_n 0, 1) := by decide +kernel
theorem d_T_init_40 : decode b_T_init 40 = .ok (.iconst 0, 1) := by decide +kernel
theorem d_T_init_41 : decode b_T_init 41 = .ok (.putfield 33, 3) := by decide +kernel
theorem d_T_init_44 : decode b_T_init 44 = .ok (.return_, 1) := by decide +kernel
theorem d_T_begin_0 : decode b_T_begin 0 = .ok (.aload_n 0, 1) := by decide +kernel
theorem d_T_begin_1 : decode b_T_begin 1 = .ok (.iload_n 1, 1) := by decide +kernel
theorem d_T_begin_2 : decode b_T_begin 2 = .ok (.putfield 9, 3) := by decide +kernel
theorem d_T_begin_5 : decode b_T_begin 5 = .ok (.aload_n 0, 1) := by decide +kernel
theorem d_T_begin_6 : decode b_T_begin 6 = .ok (.iload_n 2, 1) := by decide +kernel
theorem d_T_begin_7 : decode b_T_begin 7 = .ok (.putfield 15, 3) := by decide +kernel
theorem d_T_begin_10 : decode b_T_begin 10 = .ok (.aload_n 0, 1) := by decide +kernel
theorem d_T_begin_11 : decode b_T_begin 11 = .ok (.iload_n 3, 1) := by decide +kernel
theorem d_T_begin_12 : decode b_T_begin 12 = .ok (.putfield 18, 3) := by decide +kernel
theorem d_T_begin_15 : decode b_T_begin 15 = .ok (.aload_n 0, 1) := by decide +kernel
theorem d_T_begin_16 : decode b_T_begin 16 = .ok (.iconst 0, 1) := by decide +kernel
theorem d_T_begin_17 : decode b_T_begin 17 = .ok (.putfield 21, 3) := by decide +kernel
theorem d_T_begin_20 : decode b_T_begin 20 = .ok (.aload_n 0, 1) := by decide +kernel
theorem d_T_begin_21 : decode b_T_begin 21 = .ok (.iconst 0, 1) := by decide +kernel
theorem d_T_begin_22 : decode b_T_begin 22 = .ok (.putfield 24, 3) := by decide +kernel
theorem d_T_begin_25 : decode b_T_begin 25 = .ok (.aload_n 0, 1) := by decide +kernel
theorem d_T_begin_26 : decode b_T_begin 26 = .ok (.iconst 0, 1) := by decide +kernel
theorem d_T_begin_27 : decode b_T_begin 27 = .ok (.putfield 27, 3) := by decide +kernel
theorem d_T_begin_30 : decode b_T_begin 30 = .ok (.aload_n 0, 1) := by decide +kernel
theorem d_T_begin_31 : decode b_T_begin 31 = .ok (.iconst 0, 1) := by decide +kernel
theorem d_T_begin_32 : decode b_T_begin 32 = .ok (.putfield 30, 3) := by decide +kernel
theorem d_T_begin_35 : decode b_T_begin 35 = .ok (.aload_n 0, 1) := by decide +kernel
theorem d_T_begin_36 : decode b_T_begin 36 = .ok (.iconst 0, 1) := by decide +kernel
theorem d_T_begin_37 : decode b_T_begin 37 = .ok (.putfield 33, 3) := by decide +kernel
theorem d_T_begin_40 : decode b_T_begin 40 = .ok (.return_, 1) := by decide +kernel
theorem d_T_isFull_0 : decode b_T_isFull 0 = .ok (.aload_n 0, 1) := by decide +kernel
theorem d_T_isFull_1 : decode b_T_isFull 1 = .ok (.getfield 21, 3) := by decide +kernel
theorem d_T_isFull_4 : decode b_T_isFull 4 = .ok (.aload_n 0, 1) := by decide +kernel
theorem d_T_isFull_5 : decode b_T_isFull 5 = .ok (.getfield 18, 3) := by decide +kernel
theorem d_T_isFull_8 : decode b_T_isFull 8 = .ok (.if_icmp .lt 7, 3) := by decide +kernel
theorem d_T_isFull_11 : decode b_T_isFull 11 = .ok (.iconst 1, 1) := by decide +kernel
theorem d_T_isFull_12 : decode b_T_isFull 12 = .ok (.goto 4, 3) := by decide +kernel
theorem d_T_isFull_15 : decode b_T_isFull 15 = .ok (.iconst 0, 1) := by decide +kernel
theorem d_T_isFull_16 : decode b_T_isFull 16 = .ok (.ireturn, 1) := by decide +kernel
theorem d_T_enter_0 : decode b_T_enter 0 = .ok (.aload_n 0, 1) := by decide +kernel
theorem d_T_enter_1 : decode b_T_enter 1 = .ok (.iload_n 1, 1) := by decide +kernel
theorem d_T_enter_2 : decode b_T_enter 2 = .ok (.invokevirtual 36, 3) := by decide +kernel
theorem d_T_enter_5 : decode b_T_enter 5 = .ok (.istore_n 2, 1) := by decide +kernel
theorem d_T_enter_6 : decode b_T_enter 6 = .ok (.aload_n 0, 1) := by decide +kernel
theorem d_T_enter_7 : decode b_T_enter 7 = .ok (.getfield 21, 3) := by decide +kernel
theorem d_T_enter_10 : decode b_T_enter 10 = .ok (.ifCond .eq 27, 3) := by decide +kernel
theorem d_T_enter_13 : decode b_T_enter 13 = .ok (.iload_n 2, 1) := by decide +kernel
theorem d_T_enter_14 : decode b_T_enter 14 = .ok (.aload_n 0, 1) := by decide +kernel
theorem d_T_enter_15 : decode b_T_enter 15 = .ok (.getfield 33, 3) := by decide +kernel
theorem d_T_enter_18 : decode b_T_enter 18 = .ok (.if_icmp .lt 19, 3) := by decide +kernel
theorem d_T_enter_21 : decode b_T_enter 21 = .ok (.iload_n 2, 1) := by decide +kernel
theorem d_T_enter_22 : decode b_T_enter 22 = .ok (.aload_n 0, 1) := by decide +kernel
theorem d_T_enter_23 : decode b_T_enter 23 = .ok (.getfield 33, 3) := by decide +kernel
theorem d_T_enter_26 : decode b_T_enter 26 = .ok (.if_icmp .ne 21, 3) := by decide +kernel
theorem d_T_enter_29 : decode b_T_enter 29 = .ok (.iload_n 1, 1) := by decide +kernel
theorem d_T_enter_30 : decode b_T_enter 30 = .ok (.aload_n 0, 1) := by decide +kernel
theorem d_T_enter_31 : decode b_T_enter 31 = .ok (.getfield 30, 3) := by decide +kernel
theorem d_T_enter_34 : decode b_T_enter 34 = .ok (.if_icmp .le 13, 3) := by decide +kernel
theorem d_T_enter_37 : decode b_T_enter 37 = .ok (.aload_n 0, 1) := by decide +kernel
theorem d_T_enter_38 : decode b_T_enter 38 = .ok (.iload_n 1, 1) := by decide +kernel
theorem d_T_enter_39 : decode b_T_enter 39 = .ok (.putfield 30, 3) := by decide +kernel
theorem d_T_enter_42 : decode b_T_enter 42 = .ok (.aload_n 0, 1) := by decide +kernel
theorem d_T_enter_43 : decode b_T_enter 43 = .ok (.iload_n 2, 1) := by decide +kernel
theorem d_T_enter_44 : decode b_T_enter 44 = .ok (.putfield 33, 3) := by decide +kernel
theorem d_T_enter_47 : decode b_T_enter 47 = .ok (.aload_n 0, 1) := by decide +kernel
theorem d_T_enter_48 : decode b_T_enter 48 = .ok (.dup, 1) := by decide +kernel
theorem d_T_enter_49 : decode b_T_enter 49 = .ok (.getfield 21, 3) := by decide +kernel
theorem d_T_enter_52 : decode b_T_enter 52 = .ok (.iconst 1, 1) := by decide +kernel
theorem d_T_enter_53 : decode b_T_enter 53 = .ok (.iadd, 1) := by decide +kernel
theorem d_T_enter_54 : decode b_T_enter 54 = .ok (.putfield 21, 3) := by decide +kernel
theorem d_T_enter_57 : decode b_T_enter 57 = .ok (.aload_n 0, 1) := by decide +kernel
theorem d_T_enter_58 : decode b_T_enter 58 = .ok (.dup, 1) := by decide +kernel
theorem d_T_enter_59 : decode b_T_enter 59 = .ok (.getfield 24, 3) := by decide +kernel
theorem d_T_enter_62 : decode b_T_enter 62 = .ok (.iload_n 1, 1) := by decide +kernel
theorem d_T_enter_63 : decode b_T_enter 63 = .ok (.ior, 1) := by decide +kernel
theorem d_T_enter_64 : decode b_T_enter 64 = .ok (.putfield 24, 3) := by decide +kernel
theorem d_T_enter_67 : decode b_T_enter 67 = .ok (.aload_n 0, 1) := by decide +kernel
theorem d_T_enter_68 : decode b_T_enter 68 = .ok (.dup, 1) := by decide +kernel
theorem d_T_enter_69 : decode b_T_enter 69 = .ok (.getfield 27, 3) := by decide +kernel
theorem d_T_enter_72 : decode b_T_enter 72 = .ok (.ldc 40, 2) := by decide +kernel
theorem d_T_enter_74 : decode b_T_enter 74 = .ok (.iload_n 1, 1) := by decide +kernel
theorem d_T_enter_75 : decode b_T_enter 75 = .ok (.invokestatic 41, 3) := by decide +kernel
theorem d_T_enter_78 : decode b_T_enter 78 = .ok (.iconst (-1), 1) := by decide +kernel
theorem d_T_enter_79 : decode b_T_enter 79 = .ok (.ixor, 1) := by decide +kernel
theorem d_T_enter_80 : decode b_T_enter 80 = .ok (.iand, 1) := by decide +kernel
theorem d_T_enter_81 : decode b_T_enter 81 = .ok (.ior, 1) := by decide +kernel
theorem d_T_enter_82 : decode b_T_enter 82 = .ok (.putfield 27, 3) := by decide +kernel
theorem d_T_enter_85 : decode b_T_enter 85 = .ok (.return_, 1) := by decide +kernel
theorem d_T_costOf_0 : decode b_T_costOf 0 = .ok (.aload_n 0, 1) := by decide +kernel
theorem d_T_costOf_1 : decode b_T_costOf 1 = .ok (.getfield 9, 3) := by decide +kernel
theorem d_T_costOf_4 : decode b_T_costOf 4 = .ok (.lookupswitch 42 #[(1, 28), (2, 33)], 28) := by decide +kernel
theorem d_T_costOf_32 : decode b_T_costOf 32 = .ok (.iload_n 1, 1) := by decide +kernel
theorem d_T_costOf_33 : decode b_T_costOf 33 = .ok (.invokestatic 44, 3) := by decide +kernel
theorem d_T_costOf_36 : decode b_T_costOf 36 = .ok (.ireturn, 1) := by decide +kernel
theorem d_T_costOf_37 : decode b_T_costOf 37 = .ok (.iload_n 1, 1) := by decide +kernel
theorem d_T_costOf_38 : decode b_T_costOf 38 = .ok (.aload_n 0, 1) := by decide +kernel
theorem d_T_costOf_39 : decode b_T_costOf 39 = .ok (.getfield 15, 3) := by decide +kernel
theorem d_T_costOf_42 : decode b_T_costOf 42 = .ok (.invokestatic 49, 3) := by decide +kernel
theorem d_T_costOf_45 : decode b_T_costOf 45 = .ok (.ireturn, 1) := by decide +kernel
theorem d_T_costOf_46 : decode b_T_costOf 46 = .ok (.iconst 0, 1) := by decide +kernel
theorem d_T_costOf_47 : decode b_T_costOf 47 = .ok (.ireturn, 1) := by decide +kernel
theorem d_W_init_0 : decode b_W_init 0 = .ok (.aload_n 0, 1) := by decide +kernel
theorem d_W_init_1 : decode b_W_init 1 = .ok (.invokespecial 3, 3) := by decide +kernel
theorem d_W_init_4 : decode b_W_init 4 = .ok (.aload_n 0, 1) := by decide +kernel
theorem d_W_init_5 : decode b_W_init 5 = .ok (.bipush 6, 2) := by decide +kernel
theorem d_W_init_7 : decode b_W_init 7 = .ok (.newarray .int, 2) := by decide +kernel
theorem d_W_init_9 : decode b_W_init 9 = .ok (.putfield 9, 3) := by decide +kernel
theorem d_W_init_12 : decode b_W_init 12 = .ok (.aload_n 0, 1) := by decide +kernel
theorem d_W_init_13 : decode b_W_init 13 = .ok (.bipush 6, 2) := by decide +kernel
theorem d_W_init_15 : decode b_W_init 15 = .ok (.newarray .int, 2) := by decide +kernel
theorem d_W_init_17 : decode b_W_init 17 = .ok (.putfield 15, 3) := by decide +kernel
theorem d_W_init_20 : decode b_W_init 20 = .ok (.aload_n 0, 1) := by decide +kernel
theorem d_W_init_21 : decode b_W_init 21 = .ok (.iconst 0, 1) := by decide +kernel
theorem d_W_init_22 : decode b_W_init 22 = .ok (.putfield 18, 3) := by decide +kernel
theorem d_W_init_25 : decode b_W_init 25 = .ok (.return_, 1) := by decide +kernel
theorem d_W_add_0 : decode b_W_add 0 = .ok (.aload_n 0, 1) := by decide +kernel
theorem d_W_add_1 : decode b_W_add 1 = .ok (.getfield 18, 3) := by decide +kernel
theorem d_W_add_4 : decode b_W_add 4 = .ok (.bipush 6, 2) := by decide +kernel
theorem d_W_add_6 : decode b_W_add 6 = .ok (.if_icmp .lt 5, 3) := by decide +kernel
theorem d_W_add_9 : decode b_W_add 9 = .ok (.iconst 0, 1) := by decide +kernel
theorem d_W_add_10 : decode b_W_add 10 = .ok (.ireturn, 1) := by decide +kernel
theorem d_W_add_11 : decode b_W_add 11 = .ok (.aload_n 0, 1) := by decide +kernel
theorem d_W_add_12 : decode b_W_add 12 = .ok (.getfield 9, 3) := by decide +kernel
theorem d_W_add_15 : decode b_W_add 15 = .ok (.aload_n 0, 1) := by decide +kernel
theorem d_W_add_16 : decode b_W_add 16 = .ok (.getfield 18, 3) := by decide +kernel
theorem d_W_add_19 : decode b_W_add 19 = .ok (.iload_n 1, 1) := by decide +kernel
theorem d_W_add_20 : decode b_W_add 20 = .ok (.iastore, 1) := by decide +kernel
theorem d_W_add_21 : decode b_W_add 21 = .ok (.aload_n 0, 1) := by decide +kernel
theorem d_W_add_22 : decode b_W_add 22 = .ok (.getfield 15, 3) := by decide +kernel
theorem d_W_add_25 : decode b_W_add 25 = .ok (.aload_n 0, 1) := by decide +kernel
theorem d_W_add_26 : decode b_W_add 26 = .ok (.getfield 18, 3) := by decide +kernel
theorem d_W_add_29 : decode b_W_add 29 = .ok (.iload_n 2, 1) := by decide +kernel
theorem d_W_add_30 : decode b_W_add 30 = .ok (.iastore, 1) := by decide +kernel
theorem d_W_add_31 : decode b_W_add 31 = .ok (.aload_n 0, 1) := by decide +kernel
theorem d_W_add_32 : decode b_W_add 32 = .ok (.dup, 1) := by decide +kernel
theorem d_W_add_33 : decode b_W_add 33 = .ok (.getfield 18, 3) := by decide +kernel
theorem d_W_add_36 : decode b_W_add 36 = .ok (.iconst 1, 1) := by decide +kernel
theorem d_W_add_37 : decode b_W_add 37 = .ok (.iadd, 1) := by decide +kernel
theorem d_W_add_38 : decode b_W_add 38 = .ok (.putfield 18, 3) := by decide +kernel
theorem d_W_add_41 : decode b_W_add 41 = .ok (.iconst 1, 1) := by decide +kernel
theorem d_W_add_42 : decode b_W_add 42 = .ok (.ireturn, 1) := by decide +kernel
theorem d_W_remove_0 : decode b_W_remove 0 = .ok (.iload_n 1, 1) := by decide +kernel
theorem d_W_remove_1 : decode b_W_remove 1 = .ok (.ifCond .lt 11, 3) := by decide +kernel
theorem d_W_remove_4 : decode b_W_remove 4 = .ok (.iload_n 1, 1) := by decide +kernel
theorem d_W_remove_5 : decode b_W_remove 5 = .ok (.aload_n 0, 1) := by decide +kernel
theorem d_W_remove_6 : decode b_W_remove 6 = .ok (.getfield 18, 3) := by decide +kernel
theorem d_W_remove_9 : decode b_W_remove 9 = .ok (.if_icmp .lt 5, 3) := by decide +kernel
theorem d_W_remove_12 : decode b_W_remove 12 = .ok (.iconst 0, 1) := by decide +kernel
theorem d_W_remove_13 : decode b_W_remove 13 = .ok (.ireturn, 1) := by decide +kernel
theorem d_W_remove_14 : decode b_W_remove 14 = .ok (.aload_n 0, 1) := by decide +kernel
theorem d_W_remove_15 : decode b_W_remove 15 = .ok (.dup, 1) := by decide +kernel
theorem d_W_remove_16 : decode b_W_remove 16 = .ok (.getfield 18, 3) := by decide +kernel
theorem d_W_remove_19 : decode b_W_remove 19 = .ok (.iconst 1, 1) := by decide +kernel
theorem d_W_remove_20 : decode b_W_remove 20 = .ok (.isub, 1) := by decide +kernel
theorem d_W_remove_21 : decode b_W_remove 21 = .ok (.putfield 18, 3) := by decide +kernel
theorem d_W_remove_24 : decode b_W_remove 24 = .ok (.iload_n 1, 1) := by decide +kernel
theorem d_W_remove_25 : decode b_W_remove 25 = .ok (.istore_n 2, 1) := by decide +kernel
theorem d_W_remove_26 : decode b_W_remove 26 = .ok (.iload_n 2, 1) := by decide +kernel
theorem d_W_remove_27 : decode b_W_remove 27 = .ok (.aload_n 0, 1) := by decide +kernel
theorem d_W_remove_28 : decode b_W_remove 28 = .ok (.getfield 18, 3) := by decide +kernel
theorem d_W_remove_31 : decode b_W_remove 31 = .ok (.if_icmp .ge 37, 3) := by decide +kernel
theorem d_W_remove_34 : decode b_W_remove 34 = .ok (.aload_n 0, 1) := by decide +kernel
theorem d_W_remove_35 : decode b_W_remove 35 = .ok (.getfield 9, 3) := by decide +kernel
theorem d_W_remove_38 : decode b_W_remove 38 = .ok (.iload_n 2, 1) := by decide +kernel
theorem d_W_remove_39 : decode b_W_remove 39 = .ok (.aload_n 0, 1) := by decide +kernel
theorem d_W_remove_40 : decode b_W_remove 40 = .ok (.getfield 9, 3) := by decide +kernel
theorem d_W_remove_43 : decode b_W_remove 43 = .ok (.iload_n 2, 1) := by decide +kernel
theorem d_W_remove_44 : decode b_W_remove 44 = .ok (.iconst 1, 1) := by decide +kernel
theorem d_W_remove_45 : decode b_W_remove 45 = .ok (.iadd, 1) := by decide +kernel
theorem d_W_remove_46 : decode b_W_remove 46 = .ok (.iaload, 1) := by decide +kernel
theorem d_W_remove_47 : decode b_W_remove 47 = .ok (.iastore, 1) := by decide +kernel
theorem d_W_remove_48 : decode b_W_remove 48 = .ok (.aload_n 0, 1) := by decide +kernel
theorem d_W_remove_49 : decode b_W_remove 49 = .ok (.getfield 15, 3) := by decide +kernel
theorem d_W_remove_52 : decode b_W_remove 52 = .ok (.iload_n 2, 1) := by decide +kernel
theorem d_W_remove_53 : decode b_W_remove 53 = .ok (.aload_n 0, 1) := by decide +kernel
theorem d_W_remove_54 : decode b_W_remove 54 = .ok (.getfield 15, 3) := by decide +kernel
theorem d_W_remove_57 : decode b_W_remove 57 = .ok (.iload_n 2, 1) := by decide +kernel
theorem d_W_remove_58 : decode b_W_remove 58 = .ok (.iconst 1, 1) := by decide +kernel
theorem d_W_remove_59 : decode b_W_remove 59 = .ok (.iadd, 1) := by decide +kernel
theorem d_W_remove_60 : decode b_W_remove 60 = .ok (.iaload, 1) := by decide +kernel
theorem d_W_remove_61 : decode b_W_remove 61 = .ok (.iastore, 1) := by decide +kernel
theorem d_W_remove_62 : decode b_W_remove 62 = .ok (.iinc 2 1, 3) := by decide +kernel
theorem d_W_remove_65 : decode b_W_remove 65 = .ok (.goto (-39), 3) := by decide +kernel
theorem d_W_remove_68 : decode b_W_remove 68 = .ok (.iconst 1, 1) := by decide +kernel
theorem d_W_remove_69 : decode b_W_remove 69 = .ok (.ireturn, 1) := by decide +kernel
theorem d_W_all_0 : decode b_W_all 0 = .ok (.iconst 0, 1) := by decide +kernel
theorem d_W_all_1 : decode b_W_all 1 = .ok (.istore_n 1, 1) := by decide +kernel
theorem d_W_all_2 : decode b_W_all 2 = .ok (.iconst 0, 1) := by decide +kernel
theorem d_W_all_3 : decode b_W_all 3 = .ok (.istore_n 2, 1) := by decide +kernel
theorem d_W_all_4 : decode b_W_all 4 = .ok (.iload_n 2, 1) := by decide +kernel
theorem d_W_all_5 : decode b_W_all 5 = .ok (.aload_n 0, 1) := by decide +kernel
theorem d_W_all_6 : decode b_W_all 6 = .ok (.getfield 18, 3) := by decide +kernel
theorem d_W_all_9 : decode b_W_all 9 = .ok (.if_icmp .ge 16, 3) := by decide +kernel
theorem d_W_all_12 : decode b_W_all 12 = .ok (.iload_n 1, 1) := by decide +kernel
theorem d_W_all_13 : decode b_W_all 13 = .ok (.iload_n 2, 1) := by decide +kernel
theorem d_W_all_14 : decode b_W_all 14 = .ok (.invokestatic 22, 3) := by decide +kernel
theorem d_W_all_17 : decode b_W_all 17 = .ok (.ior, 1) := by decide +kernel
theorem d_W_all_18 : decode b_W_all 18 = .ok (.istore_n 1, 1) := by decide +kernel
theorem d_W_all_19 : decode b_W_all 19 = .ok (.iinc 2 1, 3) := by decide +kernel
theorem d_W_all_22 : decode b_W_all 22 = .ok (.goto (-18), 3) := by decide +kernel
theorem d_W_all_25 : decode b_W_all 25 = .ok (.iload_n 1, 1) := by decide +kernel
theorem d_W_all_26 : decode b_W_all 26 = .ok (.ireturn, 1) := by decide +kernel
theorem d_W_union_0 : decode b_W_union 0 = .ok (.iconst 0, 1) := by decide +kernel
theorem d_W_union_1 : decode b_W_union 1 = .ok (.istore_n 3, 1) := by decide +kernel
theorem d_W_union_2 : decode b_W_union 2 = .ok (.iconst 0, 1) := by decide +kernel
theorem d_W_union_3 : decode b_W_union 3 = .ok (.istore 4, 2) := by decide +kernel
theorem d_W_union_5 : decode b_W_union 5 = .ok (.iload 4, 2) := by decide +kernel
theorem d_W_union_7 : decode b_W_union 7 = .ok (.aload_n 0, 1) := by decide +kernel
theorem d_W_union_8 : decode b_W_union 8 = .ok (.getfield 18, 3) := by decide +kernel
theorem d_W_union_11 : decode b_W_union 11 = .ok (.if_icmp .ge 33, 3) := by decide +kernel
theorem d_W_union_14 : decode b_W_union 14 = .ok (.iload 4, 2) := by decide +kernel
theorem d_W_union_16 : decode b_W_union 16 = .ok (.aload_n 1, 1) := by decide +kernel
theorem d_W_union_17 : decode b_W_union 17 = .ok (.arraylength, 1) := by decide +kernel
theorem d_W_union_18 : decode b_W_union 18 = .ok (.if_icmp .ge 26, 3) := by decide +kernel
theorem d_W_union_21 : decode b_W_union 21 = .ok (.iload_n 2, 1) := by decide +kernel
theorem d_W_union_22 : decode b_W_union 22 = .ok (.iload 4, 2) := by decide +kernel
theorem d_W_union_24 : decode b_W_union 24 = .ok (.invokestatic 22, 3) := by decide +kernel
theorem d_W_union_27 : decode b_W_union 27 = .ok (.iand, 1) := by decide +kernel
theorem d_W_union_28 : decode b_W_union 28 = .ok (.ifCond .eq 10, 3) := by decide +kernel
theorem d_W_union_31 : decode b_W_union 31 = .ok (.iload_n 3, 1) := by decide +kernel
theorem d_W_union_32 : decode b_W_union 32 = .ok (.aload_n 1, 1) := by decide +kernel
theorem d_W_union_33 : decode b_W_union 33 = .ok (.iload 4, 2) := by decide +kernel
theorem d_W_union_35 : decode b_W_union 35 = .ok (.iaload, 1) := by decide +kernel
theorem d_W_union_36 : decode b_W_union 36 = .ok (.ior, 1) := by decide +kernel
theorem d_W_union_37 : decode b_W_union 37 = .ok (.istore_n 3, 1) := by decide +kernel
theorem d_W_union_38 : decode b_W_union 38 = .ok (.iinc 4 1, 3) := by decide +kernel
theorem d_W_union_41 : decode b_W_union 41 = .ok (.goto (-36), 3) := by decide +kernel
theorem d_W_union_44 : decode b_W_union 44 = .ok (.iload_n 3, 1) := by decide +kernel
theorem d_W_union_45 : decode b_W_union 45 = .ok (.ireturn, 1) := by decide +kernel
theorem d_X_init_0 : decode b_X_init 0 = .ok (.aload_n 0, 1) := by decide +kernel
theorem d_X_init_1 : decode b_X_init 1 = .ok (.invokespecial 3, 3) := by decide +kernel
theorem d_X_init_4 : decode b_X_init 4 = .ok (.aload_n 0, 1) := by decide +kernel
theorem d_X_init_5 : decode b_X_init 5 = .ok (.new 9, 3) := by decide +kernel
theorem d_X_init_8 : decode b_X_init 8 = .ok (.dup, 1) := by decide +kernel
theorem d_X_init_9 : decode b_X_init 9 = .ok (.invokespecial 11, 3) := by decide +kernel
theorem d_X_init_12 : decode b_X_init 12 = .ok (.putfield 12, 3) := by decide +kernel
theorem d_X_init_15 : decode b_X_init 15 = .ok (.aload_n 0, 1) := by decide +kernel
theorem d_X_init_16 : decode b_X_init 16 = .ok (.new 16, 3) := by decide +kernel
theorem d_X_init_19 : decode b_X_init 19 = .ok (.dup, 1) := by decide +kernel
theorem d_X_init_20 : decode b_X_init 20 = .ok (.invokespecial 18, 3) := by decide +kernel
theorem d_X_init_23 : decode b_X_init 23 = .ok (.putfield 19, 3) := by decide +kernel
theorem d_X_init_26 : decode b_X_init 26 = .ok (.aload_n 0, 1) := by decide +kernel
theorem d_X_init_27 : decode b_X_init 27 = .ok (.new 23, 3) := by decide +kernel
theorem d_X_init_30 : decode b_X_init 30 = .ok (.dup, 1) := by decide +kernel
theorem d_X_init_31 : decode b_X_init 31 = .ok (.invokespecial 25, 3) := by decide +kernel
theorem d_X_init_34 : decode b_X_init 34 = .ok (.putfield 26, 3) := by decide +kernel
theorem d_X_init_37 : decode b_X_init 37 = .ok (.aload_n 0, 1) := by decide +kernel
theorem d_X_init_38 : decode b_X_init 38 = .ok (.iconst 0, 1) := by decide +kernel
theorem d_X_init_39 : decode b_X_init 39 = .ok (.putfield 30, 3) := by decide +kernel
theorem d_X_init_42 : decode b_X_init 42 = .ok (.aload_n 0, 1) := by decide +kernel
theorem d_X_init_43 : decode b_X_init 43 = .ok (.iconst 0, 1) := by decide +kernel
theorem d_X_init_44 : decode b_X_init 44 = .ok (.putfield 34, 3) := by decide +kernel
theorem d_X_init_47 : decode b_X_init 47 = .ok (.aload_n 0, 1) := by decide +kernel
theorem d_X_init_48 : decode b_X_init 48 = .ok (.iconst 0, 1) := by decide +kernel
theorem d_X_init_49 : decode b_X_init 49 = .ok (.putfield 37, 3) := by decide +kernel
theorem d_X_init_52 : decode b_X_init 52 = .ok (.return_, 1) := by decide +kernel
theorem d_X_version_0 : decode b_X_version 0 = .ok (.iload_n 1, 1) := by decide +kernel
theorem d_X_version_1 : decode b_X_version 1 = .ok (.iload_n 2, 1) := by decide +kernel
theorem d_X_version_2 : decode b_X_version 2 = .ok (.invokestatic 40, 3) := by decide +kernel
theorem d_X_version_5 : decode b_X_version 5 = .ok (.ifCond .eq 22, 3) := by decide +kernel
theorem d_X_version_8 : decode b_X_version 8 = .ok (.aload_n 0, 1) := by decide +kernel
theorem d_X_version_9 : decode b_X_version 9 = .ok (.getfield 12, 3) := by decide +kernel
theorem d_X_version_12 : decode b_X_version 12 = .ok (.iload_n 1, 1) := by decide +kernel
theorem d_X_version_13 : decode b_X_version 13 = .ok (.iload_n 2, 1) := by decide +kernel
theorem d_X_version_14 : decode b_X_version 14 = .ok (.invokestatic 44, 3) := by decide +kernel
theorem d_X_version_17 : decode b_X_version 17 = .ok (.invokevirtual 48, 3) := by decide +kernel
theorem d_X_version_20 : decode b_X_version 20 = .ok (.ifCond .eq 7, 3) := by decide +kernel
theorem d_X_version_23 : decode b_X_version 23 = .ok (.iconst 1, 1) := by decide +kernel
theorem d_X_version_24 : decode b_X_version 24 = .ok (.goto 4, 3) := by decide +kernel
theorem d_X_version_27 : decode b_X_version 27 = .ok (.iconst 0, 1) := by decide +kernel
theorem d_X_version_28 : decode b_X_version 28 = .ok (.ireturn, 1) := by decide +kernel
theorem d_X_need_0 : decode b_X_need 0 = .ok (.iload_n 1, 1) := by decide +kernel
theorem d_X_need_1 : decode b_X_need 1 = .ok (.iload_n 2, 1) := by decide +kernel
theorem d_X_need_2 : decode b_X_need 2 = .ok (.invokestatic 40, 3) := by decide +kernel
theorem d_X_need_5 : decode b_X_need 5 = .ok (.ifCond .eq 45, 3) := by decide +kernel
theorem d_X_need_8 : decode b_X_need 8 = .ok (.iload_n 3, 1) := by decide +kernel
theorem d_X_need_9 : decode b_X_need 9 = .ok (.iload 4, 2) := by decide +kernel
theorem d_X_need_11 : decode b_X_need 11 = .ok (.iload 5, 2) := by decide +kernel
theorem d_X_need_13 : decode b_X_need 13 = .ok (.invokestatic 52, 3) := by decide +kernel
theorem d_X_need_16 : decode b_X_need 16 = .ok (.ifCond .eq 34, 3) := by decide +kernel
theorem d_X_need_19 : decode b_X_need 19 = .ok (.aload_n 0, 1) := by decide +kernel
theorem d_X_need_20 : decode b_X_need 20 = .ok (.getfield 12, 3) := by decide +kernel
theorem d_X_need_23 : decode b_X_need 23 = .ok (.iload_n 1, 1) := by decide +kernel
theorem d_X_need_24 : decode b_X_need 24 = .ok (.iload_n 2, 1) := by decide +kernel
theorem d_X_need_25 : decode b_X_need 25 = .ok (.invokestatic 44, 3) := by decide +kernel
theorem d_X_need_28 : decode b_X_need 28 = .ok (.iload_n 3, 1) := by decide +kernel
theorem d_X_need_29 : decode b_X_need 29 = .ok (.invokestatic 56, 3) := by decide +kernel
theorem d_X_need_32 : decode b_X_need 32 = .ok (.iload_n 3, 1) := by decide +kernel
theorem d_X_need_33 : decode b_X_need 33 = .ok (.iload 4, 2) := by decide +kernel
theorem d_X_need_35 : decode b_X_need 35 = .ok (.iload 5, 2) := by decide +kernel
theorem d_X_need_37 : decode b_X_need 37 = .ok (.invokestatic 60, 3) := by decide +kernel
theorem d_X_need_40 : decode b_X_need 40 = .ok (.invokevirtual 64, 3) := by decide +kernel
theorem d_X_need_43 : decode b_X_need 43 = .ok (.ifCond .eq 7, 3) := by decide +kernel
theorem d_X_need_46 : decode b_X_need 46 = .ok (.iconst 1, 1) := by decide +kernel
theorem d_X_need_47 : decode b_X_need 47 = .ok (.goto 4, 3) := by decide +kernel
theorem d_X_need_50 : decode b_X_need 50 = .ok (.iconst 0, 1) := by decide +kernel
theorem d_X_need_51 : decode b_X_need 51 = .ok (.ireturn, 1) := by decide +kernel
theorem d_X_drop_0 : decode b_X_drop 0 = .ok (.iload_n 1, 1) := by decide +kernel
theorem d_X_drop_1 : decode b_X_drop 1 = .ok (.iload_n 2, 1) := by decide +kernel
theorem d_X_drop_2 : decode b_X_drop 2 = .ok (.invokestatic 40, 3) := by decide +kernel
theorem d_X_drop_5 : decode b_X_drop 5 = .ok (.ifCond .eq 22, 3) := by decide +kernel
theorem d_X_drop_8 : decode b_X_drop 8 = .ok (.aload_n 0, 1) := by decide +kernel
theorem d_X_drop_9 : decode b_X_drop 9 = .ok (.getfield 12, 3) := by decide +kernel
theorem d_X_drop_12 : decode b_X_drop 12 = .ok (.iload_n 1, 1) := by decide +kernel
theorem d_X_drop_13 : decode b_X_drop 13 = .ok (.iload_n 2, 1) := by decide +kernel
theorem d_X_drop_14 : decode b_X_drop 14 = .ok (.invokestatic 44, 3) := by decide +kernel
theorem d_X_drop_17 : decode b_X_drop 17 = .ok (.invokevirtual 67, 3) := by decide +kernel
theorem d_X_drop_20 : decode b_X_drop 20 = .ok (.ifCond .eq 7, 3) := by decide +kernel
theorem d_X_drop_23 : decode b_X_drop 23 = .ok (.iconst 1, 1) := by decide +kernel
theorem d_X_drop_24 : decode b_X_drop 24 = .ok (.goto 4, 3) := by decide +kernel
theorem d_X_drop_27 : decode b_X_drop 27 = .ok (.iconst 0, 1) := by decide +kernel
theorem d_X_drop_28 : decode b_X_drop 28 = .ok (.ireturn, 1) := by decide +kernel
theorem d_X_ban_0 : decode b_X_ban 0 = .ok (.iload_n 1, 1) := by decide +kernel
theorem d_X_ban_1 : decode b_X_ban 1 = .ok (.iload_n 2, 1) := by decide +kernel
theorem d_X_ban_2 : decode b_X_ban 2 = .ok (.invokestatic 40, 3) := by decide +kernel
theorem d_X_ban_5 : decode b_X_ban 5 = .ok (.ifCond .eq 42, 3) := by decide +kernel
theorem d_X_ban_8 : decode b_X_ban 8 = .ok (.iload_n 3, 1) := by decide +kernel
theorem d_X_ban_9 : decode b_X_ban 9 = .ok (.iload 4, 2) := by decide +kernel
theorem d_X_ban_11 : decode b_X_ban 11 = .ok (.invokestatic 40, 3) := by decide +kernel
theorem d_X_ban_14 : decode b_X_ban 14 = .ok (.ifCond .eq 33, 3) := by decide +kernel
theorem d_X_ban_17 : decode b_X_ban 17 = .ok (.iload_n 1, 1) := by decide +kernel
theorem d_X_ban_18 : decode b_X_ban 18 = .ok (.iload_n 3, 1) := by decide +kernel
theorem d_X_ban_19 : decode b_X_ban 19 = .ok (.if_icmp .eq 28, 3) := by decide +kernel
theorem d_X_ban_22 : decode b_X_ban 22 = .ok (.aload_n 0, 1) := by decide +kernel
theorem d_X_ban_23 : decode b_X_ban 23 = .ok (.getfield 12, 3) := by decide +kernel
theorem d_X_ban_26 : decode b_X_ban 26 = .ok (.iload_n 1, 1) := by decide +kernel
theorem d_X_ban_27 : decode b_X_ban 27 = .ok (.iload_n 2, 1) := by decide +kernel
theorem d_X_ban_28 : decode b_X_ban 28 = .ok (.invokestatic 44, 3) := by decide +kernel
theorem d_X_ban_31 : decode b_X_ban 31 = .ok (.iload_n 3, 1) := by decide +kernel
theorem d_X_ban_32 : decode b_X_ban 32 = .ok (.iload 4, 2) := by decide +kernel
theorem d_X_ban_34 : decode b_X_ban 34 = .ok (.invokestatic 44, 3) := by decide +kernel
theorem d_X_ban_37 : decode b_X_ban 37 = .ok (.invokevirtual 70, 3) := by decide +kernel
theorem d_X_ban_40 : decode b_X_ban 40 = .ok (.ifCond .eq 7, 3) := by decide +kernel
theorem d_X_ban_43 : decode b_X_ban 43 = .ok (.iconst 1, 1) := by decide +kernel
theorem d_X_ban_44 : decode b_X_ban 44 = .ok (.goto 4, 3) := by decide +kernel
theorem d_X_ban_47 : decode b_X_ban 47 = .ok (.iconst 0, 1) := by decide +kernel
theorem d_X_ban_48 : decode b_X_ban 48 = .ok (.ireturn, 1) := by decide +kernel
theorem d_X_ask_0 : decode b_X_ask 0 = .ok (.iload_n 1, 1) := by decide +kernel
theorem d_X_ask_1 : decode b_X_ask 1 = .ok (.iload_n 2, 1) := by decide +kernel
theorem d_X_ask_2 : decode b_X_ask 2 = .ok (.iload_n 3, 1) := by decide +kernel
theorem d_X_ask_3 : decode b_X_ask 3 = .ok (.invokestatic 52, 3) := by decide +kernel
theorem d_X_ask_6 : decode b_X_ask 6 = .ok (.ifCond .eq 27, 3) := by decide +kernel
theorem d_X_ask_9 : decode b_X_ask 9 = .ok (.aload_n 0, 1) := by decide +kernel
theorem d_X_ask_10 : decode b_X_ask 10 = .ok (.getfield 19, 3) := by decide +kernel
theorem d_X_ask_13 : decode b_X_ask 13 = .ok (.iload_n 1, 1) := by decide +kernel
theorem d_X_ask_14 : decode b_X_ask 14 = .ok (.invokestatic 56, 3) := by decide +kernel
theorem d_X_ask_17 : decode b_X_ask 17 = .ok (.iload_n 1, 1) := by decide +kernel
theorem d_X_ask_18 : decode b_X_ask 18 = .ok (.iload_n 2, 1) := by decide +kernel
theorem d_X_ask_19 : decode b_X_ask 19 = .ok (.iload_n 3, 1) := by decide +kernel
theorem d_X_ask_20 : decode b_X_ask 20 = .ok (.invokestatic 60, 3) := by decide +kernel
theorem d_X_ask_23 : decode b_X_ask 23 = .ok (.invokevirtual 73, 3) := by decide +kernel
theorem d_X_ask_26 : decode b_X_ask 26 = .ok (.ifCond .eq 7, 3) := by decide +kernel
theorem d_X_ask_29 : decode b_X_ask 29 = .ok (.iconst 1, 1) := by decide +kernel
theorem d_X_ask_30 : decode b_X_ask 30 = .ok (.goto 4, 3) := by decide +kernel
theorem d_X_ask_33 : decode b_X_ask 33 = .ok (.iconst 0, 1) := by decide +kernel
theorem d_X_ask_34 : decode b_X_ask 34 = .ok (.ireturn, 1) := by decide +kernel
theorem d_X_take_0 : decode b_X_take 0 = .ok (.aload_n 0, 1) := by decide +kernel
theorem d_X_take_1 : decode b_X_take 1 = .ok (.getfield 19, 3) := by decide +kernel
theorem d_X_take_4 : decode b_X_take 4 = .ok (.iload_n 1, 1) := by decide +kernel
theorem d_X_take_5 : decode b_X_take 5 = .ok (.invokevirtual 75, 3) := by decide +kernel
theorem d_X_take_8 : decode b_X_take 8 = .ok (.ireturn, 1) := by decide +kernel
theorem d_X_solve_0 : decode b_X_solve 0 = .ok (.iload_n 1, 1) := by decide +kernel
theorem d_X_solve_1 : decode b_X_solve 1 = .ok (.ifCond .lt 8, 3) := by decide +kernel
theorem d_X_solve_4 : decode b_X_solve 4 = .ok (.iload_n 1, 1) := by decide +kernel
theorem d_X_solve_5 : decode b_X_solve 5 = .ok (.iconst 3, 1) := by decide +kernel
theorem d_X_solve_6 : decode b_X_solve 6 = .ok (.if_icmp .lt 13, 3) := by decide +kernel
theorem d_X_solve_9 : decode b_X_solve 9 = .ok (.new 76, 3) := by decide +kernel
theorem d_X_solve_12 : decode b_X_solve 12 = .ok (.dup, 1) := by decide +kernel
theorem d_X_solve_13 : decode b_X_solve 13 = .ok (.ldc 78, 2) := by decide +kernel
theorem d_X_solve_15 : decode b_X_solve 15 = .ok (.invokespecial 80, 3) := by decide +kernel
theorem d_X_solve_18 : decode b_X_solve 18 = .ok (.athrow, 1) := by decide +kernel
theorem d_X_solve_19 : decode b_X_solve 19 = .ok (.aload_n 0, 1) := by decide +kernel
theorem d_X_solve_20 : decode b_X_solve 20 = .ok (.aload_n 0, 1) := by decide +kernel
theorem d_X_solve_21 : decode b_X_solve 21 = .ok (.getfield 19, 3) := by decide +kernel
theorem d_X_solve_24 : decode b_X_solve 24 = .ok (.invokevirtual 83, 3) := by decide +kernel
theorem d_X_solve_27 : decode b_X_solve 27 = .ok (.iload_n 1, 1) := by decide +kernel
theorem d_X_solve_28 : decode b_X_solve 28 = .ok (.ldc 87, 2) := by decide +kernel
theorem d_X_solve_30 : decode b_X_solve 30 = .ok (.invokevirtual 88, 3) := by decide +kernel
theorem d_X_solve_33 : decode b_X_solve 33 = .ok (.aload_n 0, 1) := by decide +kernel
theorem d_X_solve_34 : decode b_X_solve 34 = .ok (.getfield 26, 3) := by decide +kernel
theorem d_X_solve_37 : decode b_X_solve 37 = .ok (.getfield 92, 3) := by decide +kernel
theorem d_X_solve_40 : decode b_X_solve 40 = .ok (.ifCond .ne 21, 3) := by decide +kernel
theorem d_X_solve_43 : decode b_X_solve 43 = .ok (.aload_n 0, 1) := by decide +kernel
theorem d_X_solve_44 : decode b_X_solve 44 = .ok (.aload_n 0, 1) := by decide +kernel
theorem d_X_solve_45 : decode b_X_solve 45 = .ok (.invokevirtual 95, 3) := by decide +kernel
theorem d_X_solve_48 : decode b_X_solve 48 = .ok (.putfield 37, 3) := by decide +kernel
theorem d_X_solve_51 : decode b_X_solve 51 = .ok (.new 98, 3) := by decide +kernel
theorem d_X_solve_54 : decode b_X_solve 54 = .ok (.dup, 1) := by decide +kernel
theorem d_X_solve_55 : decode b_X_solve 55 = .ok (.ldc 100, 2) := by decide +kernel
theorem d_X_solve_57 : decode b_X_solve 57 = .ok (.invokespecial 102, 3) := by decide +kernel
theorem d_X_solve_60 : decode b_X_solve 60 = .ok (.athrow, 1) := by decide +kernel
theorem d_X_solve_61 : decode b_X_solve 61 = .ok (.aload_n 0, 1) := by decide +kernel
theorem d_X_solve_62 : decode b_X_solve 62 = .ok (.aload_n 0, 1) := by decide +kernel
theorem d_X_solve_63 : decode b_X_solve 63 = .ok (.getfield 26, 3) := by decide +kernel
theorem d_X_solve_66 : decode b_X_solve 66 = .ok (.getfield 103, 3) := by decide +kernel
theorem d_X_solve_69 : decode b_X_solve 69 = .ok (.putfield 30, 3) := by decide +kernel
theorem d_X_solve_72 : decode b_X_solve 72 = .ok (.aload_n 0, 1) := by decide +kernel
theorem d_X_solve_73 : decode b_X_solve 73 = .ok (.getfield 30, 3) := by decide +kernel
theorem d_X_solve_76 : decode b_X_solve 76 = .ok (.invokestatic 106, 3) := by decide +kernel
theorem d_X_solve_79 : decode b_X_solve 79 = .ok (.ireturn, 1) := by decide +kernel
theorem d_X_keep_0 : decode b_X_keep 0 = .ok (.aload_n 0, 1) := by decide +kernel
theorem d_X_keep_1 : decode b_X_keep 1 = .ok (.getfield 30, 3) := by decide +kernel
theorem d_X_keep_4 : decode b_X_keep 4 = .ok (.aload_n 0, 1) := by decide +kernel
theorem d_X_keep_5 : decode b_X_keep 5 = .ok (.getfield 34, 3) := by decide +kernel
theorem d_X_keep_8 : decode b_X_keep 8 = .ok (.invokestatic 111, 3) := by decide +kernel
theorem d_X_keep_11 : decode b_X_keep 11 = .ok (.istore_n 1, 1) := by decide +kernel
theorem d_X_keep_12 : decode b_X_keep 12 = .ok (.aload_n 0, 1) := by decide +kernel
theorem d_X_keep_13 : decode b_X_keep 13 = .ok (.aload_n 0, 1) := by decide +kernel
theorem d_X_keep_14 : decode b_X_keep 14 = .ok (.getfield 30, 3) := by decide +kernel
theorem d_X_keep_17 : decode b_X_keep 17 = .ok (.putfield 34, 3) := by decide +kernel
theorem d_X_keep_20 : decode b_X_keep 20 = .ok (.iload_n 1, 1) := by decide +kernel
theorem d_X_keep_21 : decode b_X_keep 21 = .ok (.ireturn, 1) := by decide +kernel
theorem d_X_chosen_0 : decode b_X_chosen 0 = .ok (.iload_n 1, 1) := by decide +kernel
theorem d_X_chosen_1 : decode b_X_chosen 1 = .ok (.invokestatic 114, 3) := by decide +kernel
theorem d_X_chosen_4 : decode b_X_chosen 4 = .ok (.ifCond .ne 5, 3) := by decide +kernel
theorem d_X_chosen_7 : decode b_X_chosen 7 = .ok (.iconst (-1), 1) := by decide +kernel
theorem d_X_chosen_8 : decode b_X_chosen 8 = .ok (.ireturn, 1) := by decide +kernel
theorem d_X_chosen_9 : decode b_X_chosen 9 = .ok (.iconst 0, 1) := by decide +kernel
theorem d_X_chosen_10 : decode b_X_chosen 10 = .ok (.istore_n 2, 1) := by decide +kernel
theorem d_X_chosen_11 : decode b_X_chosen 11 = .ok (.iload_n 2, 1) := by decide +kernel
theorem d_X_chosen_12 : decode b_X_chosen 12 = .ok (.iconst 4, 1) := by decide +kernel
theorem d_X_chosen_13 : decode b_X_chosen 13 = .ok (.if_icmp .ge 26, 3) := by decide +kernel
theorem d_X_chosen_16 : decode b_X_chosen 16 = .ok (.aload_n 0, 1) := by decide +kernel
theorem d_X_chosen_17 : decode b_X_chosen 17 = .ok (.getfield 30, 3) := by decide +kernel
theorem d_X_chosen_20 : decode b_X_chosen 20 = .ok (.iload_n 1, 1) := by decide +kernel
theorem d_X_chosen_21 : decode b_X_chosen 21 = .ok (.iload_n 2, 1) := by decide +kernel
theorem d_X_chosen_22 : decode b_X_chosen 22 = .ok (.invokestatic 44, 3) := by decide +kernel
theorem d_X_chosen_25 : decode b_X_chosen 25 = .ok (.invokestatic 117, 3) := by decide +kernel
theorem d_X_chosen_28 : decode b_X_chosen 28 = .ok (.ifCond .eq 5, 3) := by decide +kernel
theorem d_X_chosen_31 : decode b_X_chosen 31 = .ok (.iload_n 2, 1) := by decide +kernel
theorem d_X_chosen_32 : decode b_X_chosen 32 = .ok (.ireturn, 1) := by decide +kernel
theorem d_X_chosen_33 : decode b_X_chosen 33 = .ok (.iinc 2 1, 3) := by decide +kernel
theorem d_X_chosen_36 : decode b_X_chosen 36 = .ok (.goto (-25), 3) := by decide +kernel
theorem d_X_chosen_39 : decode b_X_chosen 39 = .ok (.iconst (-1), 1) := by decide +kernel
theorem d_X_chosen_40 : decode b_X_chosen 40 = .ok (.ireturn, 1) := by decide +kernel
theorem d_X_many_0 : decode b_X_many 0 = .ok (.aload_n 0, 1) := by decide +kernel
theorem d_X_many_1 : decode b_X_many 1 = .ok (.aload_n 0, 1) := by decide +kernel
theorem d_X_many_2 : decode b_X_many 2 = .ok (.getfield 19, 3) := by decide +kernel
theorem d_X_many_5 : decode b_X_many 5 = .ok (.invokevirtual 83, 3) := by decide +kernel
theorem d_X_many_8 : decode b_X_many 8 = .ok (.iconst 0, 1) := by decide +kernel
theorem d_X_many_9 : decode b_X_many 9 = .ok (.ldc 87, 2) := by decide +kernel
theorem d_X_many_11 : decode b_X_many 11 = .ok (.invokevirtual 88, 3) := by decide +kernel
theorem d_X_many_14 : decode b_X_many 14 = .ok (.aload_n 0, 1) := by decide +kernel
theorem d_X_many_15 : decode b_X_many 15 = .ok (.getfield 26, 3) := by decide +kernel
theorem d_X_many_18 : decode b_X_many 18 = .ok (.getfield 92, 3) := by decide +kernel
theorem d_X_many_21 : decode b_X_many 21 = .ok (.ireturn, 1) := by decide +kernel
theorem d_X_can_0 : decode b_X_can 0 = .ok (.iload_n 1, 1) := by decide +kernel
theorem d_X_can_1 : decode b_X_can 1 = .ok (.invokestatic 114, 3) := by decide +kernel
theorem d_X_can_4 : decode b_X_can 4 = .ok (.ifCond .ne 5, 3) := by decide +kernel
theorem d_X_can_7 : decode b_X_can 7 = .ok (.iconst (-1), 1) := by decide +kernel
theorem d_X_can_8 : decode b_X_can 8 = .ok (.ireturn, 1) := by decide +kernel
end
section
theorem d_X_can_9 : decode b_X_can 9 = .ok (.aload_n 0, 1) := by decide +kernel
theorem d_X_can_10 : decode b_X_can 10 = .ok (.aload_n 0, 1) := by decide +kernel
theorem d_X_can_11 : decode b_X_can 11 = .ok (.getfield 19, 3) := by decide +kernel
theorem d_X_can_14 : decode b_X_can 14 = .ok (.invokevirtual 83, 3) := by decide +kernel
theorem d_X_can_17 : decode b_X_can 17 = .ok (.iconst 0, 1) := by decide +kernel
theorem d_X_can_18 : decode b_X_can 18 = .ok (.ldc 87, 2) := by decide +kernel
theorem d_X_can_20 : decode b_X_can 20 = .ok (.invokevirtual 88, 3) := by decide +kernel
theorem d_X_can_23 : decode b_X_can 23 = .ok (.aload_n 0, 1) := by decide +kernel
theorem d_X_can_24 : decode b_X_can 24 = .ok (.getfield 26, 3) := by decide +kernel
theorem d_X_can_27 : decode b_X_can 27 = .ok (.getfield 120, 3) := by decide +kernel
theorem d_X_can_30 : decode b_X_can 30 = .ok (.iload_n 1, 1) := by decide +kernel
theorem d_X_can_31 : decode b_X_can 31 = .ok (.invokestatic 123, 3) := by decide +kernel
theorem d_X_can_34 : decode b_X_can 34 = .ok (.ishr, 1) := by decide +kernel
theorem d_X_can_35 : decode b_X_can 35 = .ok (.bipush 15, 2) := by decide +kernel
theorem d_X_can_37 : decode b_X_can 37 = .ok (.iand, 1) := by decide +kernel
theorem d_X_can_38 : decode b_X_can 38 = .ok (.istore_n 2, 1) := by decide +kernel
theorem d_X_can_39 : decode b_X_can 39 = .ok (.aload_n 0, 1) := by decide +kernel
theorem d_X_can_40 : decode b_X_can 40 = .ok (.getfield 26, 3) := by decide +kernel
theorem d_X_can_43 : decode b_X_can 43 = .ok (.getfield 126, 3) := by decide +kernel
theorem d_X_can_46 : decode b_X_can 46 = .ok (.iload_n 1, 1) := by decide +kernel
theorem d_X_can_47 : decode b_X_can 47 = .ok (.invokestatic 56, 3) := by decide +kernel
theorem d_X_can_50 : decode b_X_can 50 = .ok (.iand, 1) := by decide +kernel
theorem d_X_can_51 : decode b_X_can 51 = .ok (.ifCond .ne 7, 3) := by decide +kernel
theorem d_X_can_54 : decode b_X_can 54 = .ok (.iload_n 2, 1) := by decide +kernel
theorem d_X_can_55 : decode b_X_can 55 = .ok (.goto 7, 3) := by decide +kernel
theorem d_X_can_58 : decode b_X_can 58 = .ok (.iload_n 2, 1) := by decide +kernel
theorem d_X_can_59 : decode b_X_can 59 = .ok (.bipush 16, 2) := by decide +kernel
theorem d_X_can_61 : decode b_X_can 61 = .ok (.ior, 1) := by decide +kernel
theorem d_X_can_62 : decode b_X_can 62 = .ok (.ireturn, 1) := by decide +kernel
theorem d_X_core_0 : decode b_X_core 0 = .ok (.iconst 0, 1) := by decide +kernel
theorem d_X_core_1 : decode b_X_core 1 = .ok (.istore_n 2, 1) := by decide +kernel
theorem d_X_core_2 : decode b_X_core 2 = .ok (.iconst 0, 1) := by decide +kernel
theorem d_X_core_3 : decode b_X_core 3 = .ok (.istore_n 3, 1) := by decide +kernel
theorem d_X_core_4 : decode b_X_core 4 = .ok (.iload_n 3, 1) := by decide +kernel
theorem d_X_core_5 : decode b_X_core 5 = .ok (.bipush 6, 2) := by decide +kernel
theorem d_X_core_7 : decode b_X_core 7 = .ok (.if_icmp .ge 31, 3) := by decide +kernel
theorem d_X_core_10 : decode b_X_core 10 = .ok (.aload_n 0, 1) := by decide +kernel
theorem d_X_core_11 : decode b_X_core 11 = .ok (.getfield 37, 3) := by decide +kernel
theorem d_X_core_14 : decode b_X_core 14 = .ok (.iload_n 3, 1) := by decide +kernel
theorem d_X_core_15 : decode b_X_core 15 = .ok (.invokestatic 129, 3) := by decide +kernel
theorem d_X_core_18 : decode b_X_core 18 = .ok (.iand, 1) := by decide +kernel
theorem d_X_core_19 : decode b_X_core 19 = .ok (.ifCond .eq 13, 3) := by decide +kernel
theorem d_X_core_22 : decode b_X_core 22 = .ok (.iload_n 2, 1) := by decide +kernel
theorem d_X_core_23 : decode b_X_core 23 = .ok (.iload_n 1, 1) := by decide +kernel
theorem d_X_core_24 : decode b_X_core 24 = .ok (.if_icmp .ne 5, 3) := by decide +kernel
theorem d_X_core_27 : decode b_X_core 27 = .ok (.iload_n 3, 1) := by decide +kernel
theorem d_X_core_28 : decode b_X_core 28 = .ok (.ireturn, 1) := by decide +kernel
theorem d_X_core_29 : decode b_X_core 29 = .ok (.iinc 2 1, 3) := by decide +kernel
theorem d_X_core_32 : decode b_X_core 32 = .ok (.iinc 3 1, 3) := by decide +kernel
theorem d_X_core_35 : decode b_X_core 35 = .ok (.goto (-31), 3) := by decide +kernel
theorem d_X_core_38 : decode b_X_core 38 = .ok (.new 132, 3) := by decide +kernel
theorem d_X_core_41 : decode b_X_core 41 = .ok (.dup, 1) := by decide +kernel
theorem d_X_core_42 : decode b_X_core 42 = .ok (.ldc 134, 2) := by decide +kernel
theorem d_X_core_44 : decode b_X_core 44 = .ok (.invokespecial 136, 3) := by decide +kernel
theorem d_X_core_47 : decode b_X_core 47 = .ok (.athrow, 1) := by decide +kernel
theorem d_X_count_0 : decode b_X_count 0 = .ok (.iload_n 1, 1) := by decide +kernel
theorem d_X_count_1 : decode b_X_count 1 = .ok (.tableswitch 106 0 6 #[43, 54, 62, 70, 78, 86, 94], 43) := by decide +kernel
theorem d_X_count_44 : decode b_X_count 44 = .ok (.aload_n 0, 1) := by decide +kernel
theorem d_X_count_45 : decode b_X_count 45 = .ok (.getfield 12, 3) := by decide +kernel
theorem d_X_count_48 : decode b_X_count 48 = .ok (.getfield 137, 3) := by decide +kernel
theorem d_X_count_51 : decode b_X_count 51 = .ok (.invokestatic 106, 3) := by decide +kernel
theorem d_X_count_54 : decode b_X_count 54 = .ok (.ireturn, 1) := by decide +kernel
theorem d_X_count_55 : decode b_X_count 55 = .ok (.aload_n 0, 1) := by decide +kernel
theorem d_X_count_56 : decode b_X_count 56 = .ok (.getfield 12, 3) := by decide +kernel
theorem d_X_count_59 : decode b_X_count 59 = .ok (.invokevirtual 140, 3) := by decide +kernel
theorem d_X_count_62 : decode b_X_count 62 = .ok (.ireturn, 1) := by decide +kernel
theorem d_X_count_63 : decode b_X_count 63 = .ok (.aload_n 0, 1) := by decide +kernel
theorem d_X_count_64 : decode b_X_count 64 = .ok (.getfield 12, 3) := by decide +kernel
theorem d_X_count_67 : decode b_X_count 67 = .ok (.getfield 143, 3) := by decide +kernel
theorem d_X_count_70 : decode b_X_count 70 = .ok (.ireturn, 1) := by decide +kernel
theorem d_X_count_71 : decode b_X_count 71 = .ok (.aload_n 0, 1) := by decide +kernel
theorem d_X_count_72 : decode b_X_count 72 = .ok (.getfield 19, 3) := by decide +kernel
theorem d_X_count_75 : decode b_X_count 75 = .ok (.getfield 146, 3) := by decide +kernel
theorem d_X_count_78 : decode b_X_count 78 = .ok (.ireturn, 1) := by decide +kernel
theorem d_X_count_79 : decode b_X_count 79 = .ok (.aload_n 0, 1) := by decide +kernel
theorem d_X_count_80 : decode b_X_count 80 = .ok (.getfield 30, 3) := by decide +kernel
theorem d_X_count_83 : decode b_X_count 83 = .ok (.invokestatic 106, 3) := by decide +kernel
theorem d_X_count_86 : decode b_X_count 86 = .ok (.ireturn, 1) := by decide +kernel
theorem d_X_count_87 : decode b_X_count 87 = .ok (.aload_n 0, 1) := by decide +kernel
theorem d_X_count_88 : decode b_X_count 88 = .ok (.getfield 34, 3) := by decide +kernel
theorem d_X_count_91 : decode b_X_count 91 = .ok (.invokestatic 106, 3) := by decide +kernel
theorem d_X_count_94 : decode b_X_count 94 = .ok (.ireturn, 1) := by decide +kernel
theorem d_X_count_95 : decode b_X_count 95 = .ok (.aload_n 0, 1) := by decide +kernel
theorem d_X_count_96 : decode b_X_count 96 = .ok (.getfield 30, 3) := by decide +kernel
theorem d_X_count_99 : decode b_X_count 99 = .ok (.aload_n 0, 1) := by decide +kernel
theorem d_X_count_100 : decode b_X_count 100 = .ok (.getfield 34, 3) := by decide +kernel
theorem d_X_count_103 : decode b_X_count 103 = .ok (.invokestatic 111, 3) := by decide +kernel
theorem d_X_count_106 : decode b_X_count 106 = .ok (.ireturn, 1) := by decide +kernel
theorem d_X_count_107 : decode b_X_count 107 = .ok (.iconst (-1), 1) := by decide +kernel
theorem d_X_count_108 : decode b_X_count 108 = .ok (.ireturn, 1) := by decide +kernel
theorem d_X_tallyChoices_0 : decode b_X_tallyChoices 0 = .ok (.aload_n 0, 1) := by decide +kernel
theorem d_X_tallyChoices_1 : decode b_X_tallyChoices 1 = .ok (.getfield 26, 3) := by decide +kernel
theorem d_X_tallyChoices_4 : decode b_X_tallyChoices 4 = .ok (.iload_n 2, 1) := by decide +kernel
theorem d_X_tallyChoices_5 : decode b_X_tallyChoices 5 = .ok (.aload_n 0, 1) := by decide +kernel
theorem d_X_tallyChoices_6 : decode b_X_tallyChoices 6 = .ok (.getfield 34, 3) := by decide +kernel
theorem d_X_tallyChoices_9 : decode b_X_tallyChoices 9 = .ok (.iload_n 3, 1) := by decide +kernel
theorem d_X_tallyChoices_10 : decode b_X_tallyChoices 10 = .ok (.invokevirtual 149, 3) := by decide +kernel
theorem d_X_tallyChoices_13 : decode b_X_tallyChoices 13 = .ok (.aload_n 0, 1) := by decide +kernel
theorem d_X_tallyChoices_14 : decode b_X_tallyChoices 14 = .ok (.getfield 19, 3) := by decide +kernel
theorem d_X_tallyChoices_17 : decode b_X_tallyChoices 17 = .ok (.aload_n 0, 1) := by decide +kernel
theorem d_X_tallyChoices_18 : decode b_X_tallyChoices 18 = .ok (.getfield 19, 3) := by decide +kernel
theorem d_X_tallyChoices_21 : decode b_X_tallyChoices 21 = .ok (.getfield 152, 3) := by decide +kernel
theorem d_X_tallyChoices_24 : decode b_X_tallyChoices 24 = .ok (.iload_n 1, 1) := by decide +kernel
theorem d_X_tallyChoices_25 : decode b_X_tallyChoices 25 = .ok (.invokevirtual 156, 3) := by decide +kernel
theorem d_X_tallyChoices_28 : decode b_X_tallyChoices 28 = .ok (.istore 4, 2) := by decide +kernel
theorem d_X_tallyChoices_30 : decode b_X_tallyChoices 30 = .ok (.aload_n 0, 1) := by decide +kernel
theorem d_X_tallyChoices_31 : decode b_X_tallyChoices 31 = .ok (.getfield 19, 3) := by decide +kernel
theorem d_X_tallyChoices_34 : decode b_X_tallyChoices 34 = .ok (.aload_n 0, 1) := by decide +kernel
theorem d_X_tallyChoices_35 : decode b_X_tallyChoices 35 = .ok (.getfield 19, 3) := by decide +kernel
theorem d_X_tallyChoices_38 : decode b_X_tallyChoices 38 = .ok (.getfield 160, 3) := by decide +kernel
theorem d_X_tallyChoices_41 : decode b_X_tallyChoices 41 = .ok (.iload_n 1, 1) := by decide +kernel
theorem d_X_tallyChoices_42 : decode b_X_tallyChoices 42 = .ok (.invokevirtual 156, 3) := by decide +kernel
theorem d_X_tallyChoices_45 : decode b_X_tallyChoices 45 = .ok (.istore 5, 2) := by decide +kernel
theorem d_X_tallyChoices_47 : decode b_X_tallyChoices 47 = .ok (.aload_n 0, 1) := by decide +kernel
theorem d_X_tallyChoices_48 : decode b_X_tallyChoices 48 = .ok (.iload 4, 2) := by decide +kernel
theorem d_X_tallyChoices_50 : decode b_X_tallyChoices 50 = .ok (.iconst 0, 1) := by decide +kernel
theorem d_X_tallyChoices_51 : decode b_X_tallyChoices 51 = .ok (.aload_n 0, 1) := by decide +kernel
theorem d_X_tallyChoices_52 : decode b_X_tallyChoices 52 = .ok (.getfield 12, 3) := by decide +kernel
theorem d_X_tallyChoices_55 : decode b_X_tallyChoices 55 = .ok (.getfield 137, 3) := by decide +kernel
theorem d_X_tallyChoices_58 : decode b_X_tallyChoices 58 = .ok (.iload 5, 2) := by decide +kernel
theorem d_X_tallyChoices_60 : decode b_X_tallyChoices 60 = .ok (.iconst (-1), 1) := by decide +kernel
theorem d_X_tallyChoices_61 : decode b_X_tallyChoices 61 = .ok (.ixor, 1) := by decide +kernel
theorem d_X_tallyChoices_62 : decode b_X_tallyChoices 62 = .ok (.iand, 1) := by decide +kernel
theorem d_X_tallyChoices_63 : decode b_X_tallyChoices 63 = .ok (.iconst 0, 1) := by decide +kernel
theorem d_X_tallyChoices_64 : decode b_X_tallyChoices 64 = .ok (.invokevirtual 163, 3) := by decide +kernel
theorem d_X_tallyChoices_67 : decode b_X_tallyChoices 67 = .ok (.return_, 1) := by decide +kernel
theorem d_X_explore_0 : decode b_X_explore 0 = .ok (.iload 4, 2) := by decide +kernel
theorem d_X_explore_2 : decode b_X_explore 2 = .ok (.bipush 7, 2) := by decide +kernel
theorem d_X_explore_4 : decode b_X_explore 4 = .ok (.if_icmp .gt 24, 3) := by decide +kernel
theorem d_X_explore_7 : decode b_X_explore 7 = .ok (.aload_n 0, 1) := by decide +kernel
theorem d_X_explore_8 : decode b_X_explore 8 = .ok (.getfield 26, 3) := by decide +kernel
theorem d_X_explore_11 : decode b_X_explore 11 = .ok (.invokevirtual 167, 3) := by decide +kernel
theorem d_X_explore_14 : decode b_X_explore 14 = .ok (.ifCond .ne 14, 3) := by decide +kernel
theorem d_X_explore_17 : decode b_X_explore 17 = .ok (.iload_n 1, 1) := by decide +kernel
theorem d_X_explore_18 : decode b_X_explore 18 = .ok (.iload_n 3, 1) := by decide +kernel
theorem d_X_explore_19 : decode b_X_explore 19 = .ok (.invokestatic 171, 3) := by decide +kernel
theorem d_X_explore_22 : decode b_X_explore 22 = .ok (.iconst (-1), 1) := by decide +kernel
theorem d_X_explore_23 : decode b_X_explore 23 = .ok (.ixor, 1) := by decide +kernel
theorem d_X_explore_24 : decode b_X_explore 24 = .ok (.iand, 1) := by decide +kernel
theorem d_X_explore_25 : decode b_X_explore 25 = .ok (.ifCond .eq 4, 3) := by decide +kernel
theorem d_X_explore_28 : decode b_X_explore 28 = .ok (.return_, 1) := by decide +kernel
theorem d_X_explore_29 : decode b_X_explore 29 = .ok (.iload_n 1, 1) := by decide +kernel
theorem d_X_explore_30 : decode b_X_explore 30 = .ok (.iload_n 2, 1) := by decide +kernel
theorem d_X_explore_31 : decode b_X_explore 31 = .ok (.iconst (-1), 1) := by decide +kernel
theorem d_X_explore_32 : decode b_X_explore 32 = .ok (.ixor, 1) := by decide +kernel
theorem d_X_explore_33 : decode b_X_explore 33 = .ok (.iand, 1) := by decide +kernel
theorem d_X_explore_34 : decode b_X_explore 34 = .ok (.istore 5, 2) := by decide +kernel
theorem d_X_explore_36 : decode b_X_explore 36 = .ok (.iload 5, 2) := by decide +kernel
theorem d_X_explore_38 : decode b_X_explore 38 = .ok (.ifCond .ne 17, 3) := by decide +kernel
theorem d_X_explore_41 : decode b_X_explore 41 = .ok (.aload_n 0, 1) := by decide +kernel
theorem d_X_explore_42 : decode b_X_explore 42 = .ok (.getfield 26, 3) := by decide +kernel
theorem d_X_explore_45 : decode b_X_explore 45 = .ok (.iload_n 3, 1) := by decide +kernel
theorem d_X_explore_46 : decode b_X_explore 46 = .ok (.iload_n 1, 1) := by decide +kernel
theorem d_X_explore_47 : decode b_X_explore 47 = .ok (.bipush 15, 2) := by decide +kernel
theorem d_X_explore_49 : decode b_X_explore 49 = .ok (.imul, 1) := by decide +kernel
theorem d_X_explore_50 : decode b_X_explore 50 = .ok (.iand, 1) := by decide +kernel
theorem d_X_explore_51 : decode b_X_explore 51 = .ok (.invokevirtual 174, 3) := by decide +kernel
theorem d_X_explore_54 : decode b_X_explore 54 = .ok (.return_, 1) := by decide +kernel
theorem d_X_explore_55 : decode b_X_explore 55 = .ok (.iload 5, 2) := by decide +kernel
theorem d_X_explore_57 : decode b_X_explore 57 = .ok (.invokestatic 178, 3) := by decide +kernel
theorem d_X_explore_60 : decode b_X_explore 60 = .ok (.istore 6, 2) := by decide +kernel
theorem d_X_explore_62 : decode b_X_explore 62 = .ok (.iload 6, 2) := by decide +kernel
theorem d_X_explore_64 : decode b_X_explore 64 = .ok (.iconst 4, 1) := by decide +kernel
theorem d_X_explore_65 : decode b_X_explore 65 = .ok (.iadd, 1) := by decide +kernel
theorem d_X_explore_66 : decode b_X_explore 66 = .ok (.bipush 28, 2) := by decide +kernel
theorem d_X_explore_68 : decode b_X_explore 68 = .ok (.invokestatic 181, 3) := by decide +kernel
theorem d_X_explore_71 : decode b_X_explore 71 = .ok (.istore 7, 2) := by decide +kernel
theorem d_X_explore_73 : decode b_X_explore 73 = .ok (.iload 6, 2) := by decide +kernel
theorem d_X_explore_75 : decode b_X_explore 75 = .ok (.istore 8, 2) := by decide +kernel
theorem d_X_explore_77 : decode b_X_explore 77 = .ok (.iload 8, 2) := by decide +kernel
theorem d_X_explore_79 : decode b_X_explore 79 = .ok (.iload 7, 2) := by decide +kernel
theorem d_X_explore_81 : decode b_X_explore 81 = .ok (.if_icmp .ge 86, 3) := by decide +kernel
theorem d_X_explore_84 : decode b_X_explore 84 = .ok (.iload_n 3, 1) := by decide +kernel
theorem d_X_explore_85 : decode b_X_explore 85 = .ok (.iload 8, 2) := by decide +kernel
theorem d_X_explore_87 : decode b_X_explore 87 = .ok (.invokestatic 117, 3) := by decide +kernel
theorem d_X_explore_90 : decode b_X_explore 90 = .ok (.ifCond .eq 71, 3) := by decide +kernel
theorem d_X_explore_93 : decode b_X_explore 93 = .ok (.bipush 15, 2) := by decide +kernel
theorem d_X_explore_95 : decode b_X_explore 95 = .ok (.iload 6, 2) := by decide +kernel
theorem d_X_explore_97 : decode b_X_explore 97 = .ok (.ishl, 1) := by decide +kernel
theorem d_X_explore_98 : decode b_X_explore 98 = .ok (.iconst 1, 1) := by decide +kernel
theorem d_X_explore_99 : decode b_X_explore 99 = .ok (.iload 8, 2) := by decide +kernel
theorem d_X_explore_101 : decode b_X_explore 101 = .ok (.ishl, 1) := by decide +kernel
theorem d_X_explore_102 : decode b_X_explore 102 = .ok (.iconst (-1), 1) := by decide +kernel
theorem d_X_explore_103 : decode b_X_explore 103 = .ok (.ixor, 1) := by decide +kernel
theorem d_X_explore_104 : decode b_X_explore 104 = .ok (.iand, 1) := by decide +kernel
theorem d_X_explore_105 : decode b_X_explore 105 = .ok (.istore 9, 2) := by decide +kernel
theorem d_X_explore_107 : decode b_X_explore 107 = .ok (.aload_n 0, 1) := by decide +kernel
theorem d_X_explore_108 : decode b_X_explore 108 = .ok (.iload_n 1, 1) := by decide +kernel
theorem d_X_explore_109 : decode b_X_explore 109 = .ok (.aload_n 0, 1) := by decide +kernel
theorem d_X_explore_110 : decode b_X_explore 110 = .ok (.getfield 12, 3) := by decide +kernel
theorem d_X_explore_113 : decode b_X_explore 113 = .ok (.getfield 186, 3) := by decide +kernel
theorem d_X_explore_116 : decode b_X_explore 116 = .ok (.iload 8, 2) := by decide +kernel
theorem d_X_explore_118 : decode b_X_explore 118 = .ok (.iaload, 1) := by decide +kernel
theorem d_X_explore_119 : decode b_X_explore 119 = .ok (.ior, 1) := by decide +kernel
theorem d_X_explore_120 : decode b_X_explore 120 = .ok (.iload_n 2, 1) := by decide +kernel
theorem d_X_explore_121 : decode b_X_explore 121 = .ok (.iconst 1, 1) := by decide +kernel
theorem d_X_explore_122 : decode b_X_explore 122 = .ok (.iload 6, 2) := by decide +kernel
theorem d_X_explore_124 : decode b_X_explore 124 = .ok (.ishl, 1) := by decide +kernel
theorem d_X_explore_125 : decode b_X_explore 125 = .ok (.ior, 1) := by decide +kernel
theorem d_X_explore_126 : decode b_X_explore 126 = .ok (.iload_n 3, 1) := by decide +kernel
theorem d_X_explore_127 : decode b_X_explore 127 = .ok (.iload 9, 2) := by decide +kernel
theorem d_X_explore_129 : decode b_X_explore 129 = .ok (.aload_n 0, 1) := by decide +kernel
theorem d_X_explore_130 : decode b_X_explore 130 = .ok (.getfield 12, 3) := by decide +kernel
theorem d_X_explore_133 : decode b_X_explore 133 = .ok (.getfield 187, 3) := by decide +kernel
theorem d_X_explore_136 : decode b_X_explore 136 = .ok (.iload 8, 2) := by decide +kernel
theorem d_X_explore_138 : decode b_X_explore 138 = .ok (.iaload, 1) := by decide +kernel
theorem d_X_explore_139 : decode b_X_explore 139 = .ok (.ior, 1) := by decide +kernel
theorem d_X_explore_140 : decode b_X_explore 140 = .ok (.aload_n 0, 1) := by decide +kernel
theorem d_X_explore_141 : decode b_X_explore 141 = .ok (.getfield 12, 3) := by decide +kernel
theorem d_X_explore_144 : decode b_X_explore 144 = .ok (.getfield 188, 3) := by decide +kernel
theorem d_X_explore_147 : decode b_X_explore 147 = .ok (.iload 8, 2) := by decide +kernel
theorem d_X_explore_149 : decode b_X_explore 149 = .ok (.iaload, 1) := by decide +kernel
theorem d_X_explore_150 : decode b_X_explore 150 = .ok (.ior, 1) := by decide +kernel
theorem d_X_explore_151 : decode b_X_explore 151 = .ok (.iconst (-1), 1) := by decide +kernel
theorem d_X_explore_152 : decode b_X_explore 152 = .ok (.ixor, 1) := by decide +kernel
theorem d_X_explore_153 : decode b_X_explore 153 = .ok (.iand, 1) := by decide +kernel
theorem d_X_explore_154 : decode b_X_explore 154 = .ok (.iload 4, 2) := by decide +kernel
theorem d_X_explore_156 : decode b_X_explore 156 = .ok (.iconst 1, 1) := by decide +kernel
theorem d_X_explore_157 : decode b_X_explore 157 = .ok (.iadd, 1) := by decide +kernel
theorem d_X_explore_158 : decode b_X_explore 158 = .ok (.invokevirtual 163, 3) := by decide +kernel
theorem d_X_explore_161 : decode b_X_explore 161 = .ok (.iinc 8 1, 3) := by decide +kernel
theorem d_X_explore_164 : decode b_X_explore 164 = .ok (.goto (-87), 3) := by decide +kernel
theorem d_X_explore_167 : decode b_X_explore 167 = .ok (.return_, 1) := by decide +kernel
theorem d_X_fewestHindering_0 : decode b_X_fewestHindering 0 = .ok (.aload_n 0, 1) := by decide +kernel
theorem d_X_fewestHindering_1 : decode b_X_fewestHindering 1 = .ok (.getfield 19, 3) := by decide +kernel
theorem d_X_fewestHindering_4 : decode b_X_fewestHindering 4 = .ok (.invokevirtual 83, 3) := by decide +kernel
theorem d_X_fewestHindering_7 : decode b_X_fewestHindering 7 = .ok (.istore_n 1, 1) := by decide +kernel
theorem d_X_fewestHindering_8 : decode b_X_fewestHindering 8 = .ok (.iconst 1, 1) := by decide +kernel
theorem d_X_fewestHindering_9 : decode b_X_fewestHindering 9 = .ok (.istore_n 2, 1) := by decide +kernel
theorem d_X_fewestHindering_10 : decode b_X_fewestHindering 10 = .ok (.iload_n 2, 1) := by decide +kernel
theorem d_X_fewestHindering_11 : decode b_X_fewestHindering 11 = .ok (.bipush 6, 2) := by decide +kernel
theorem d_X_fewestHindering_13 : decode b_X_fewestHindering 13 = .ok (.if_icmp .gt 47, 3) := by decide +kernel
theorem d_X_fewestHindering_16 : decode b_X_fewestHindering 16 = .ok (.iload_n 1, 1) := by decide +kernel
theorem d_X_fewestHindering_17 : decode b_X_fewestHindering 17 = .ok (.istore_n 3, 1) := by decide +kernel
theorem d_X_fewestHindering_18 : decode b_X_fewestHindering 18 = .ok (.iload_n 3, 1) := by decide +kernel
theorem d_X_fewestHindering_19 : decode b_X_fewestHindering 19 = .ok (.ifCond .le 35, 3) := by decide +kernel
theorem d_X_fewestHindering_22 : decode b_X_fewestHindering 22 = .ok (.iload_n 3, 1) := by decide +kernel
theorem d_X_fewestHindering_23 : decode b_X_fewestHindering 23 = .ok (.iload_n 1, 1) := by decide +kernel
theorem d_X_fewestHindering_24 : decode b_X_fewestHindering 24 = .ok (.iconst (-1), 1) := by decide +kernel
theorem d_X_fewestHindering_25 : decode b_X_fewestHindering 25 = .ok (.ixor, 1) := by decide +kernel
theorem d_X_fewestHindering_26 : decode b_X_fewestHindering 26 = .ok (.iand, 1) := by decide +kernel
theorem d_X_fewestHindering_27 : decode b_X_fewestHindering 27 = .ok (.ifCond .ne 21, 3) := by decide +kernel
theorem d_X_fewestHindering_30 : decode b_X_fewestHindering 30 = .ok (.iload_n 3, 1) := by decide +kernel
theorem d_X_fewestHindering_31 : decode b_X_fewestHindering 31 = .ok (.invokestatic 106, 3) := by decide +kernel
theorem d_X_fewestHindering_34 : decode b_X_fewestHindering 34 = .ok (.iload_n 2, 1) := by decide +kernel
theorem d_X_fewestHindering_35 : decode b_X_fewestHindering 35 = .ok (.if_icmp .ne 13, 3) := by decide +kernel
theorem d_X_fewestHindering_38 : decode b_X_fewestHindering 38 = .ok (.aload_n 0, 1) := by decide +kernel
theorem d_X_fewestHindering_39 : decode b_X_fewestHindering 39 = .ok (.iload_n 3, 1) := by decide +kernel
theorem d_X_fewestHindering_40 : decode b_X_fewestHindering 40 = .ok (.invokevirtual 191, 3) := by decide +kernel
theorem d_X_fewestHindering_43 : decode b_X_fewestHindering 43 = .ok (.ifCond .ne 5, 3) := by decide +kernel
theorem d_X_fewestHindering_46 : decode b_X_fewestHindering 46 = .ok (.iload_n 3, 1) := by decide +kernel
theorem d_X_fewestHindering_47 : decode b_X_fewestHindering 47 = .ok (.ireturn, 1) := by decide +kernel
theorem d_X_fewestHindering_48 : decode b_X_fewestHindering 48 = .ok (.iinc 3 (-1), 3) := by decide +kernel
theorem d_X_fewestHindering_51 : decode b_X_fewestHindering 51 = .ok (.goto (-33), 3) := by decide +kernel
theorem d_X_fewestHindering_54 : decode b_X_fewestHindering 54 = .ok (.iinc 2 1, 3) := by decide +kernel
theorem d_X_fewestHindering_57 : decode b_X_fewestHindering 57 = .ok (.goto (-47), 3) := by decide +kernel
theorem d_X_fewestHindering_60 : decode b_X_fewestHindering 60 = .ok (.iconst 0, 1) := by decide +kernel
theorem d_X_fewestHindering_61 : decode b_X_fewestHindering 61 = .ok (.ireturn, 1) := by decide +kernel
theorem d_X_hasChoice_0 : decode b_X_hasChoice 0 = .ok (.aload_n 0, 1) := by decide +kernel
theorem d_X_hasChoice_1 : decode b_X_hasChoice 1 = .ok (.iload_n 1, 1) := by decide +kernel
theorem d_X_hasChoice_2 : decode b_X_hasChoice 2 = .ok (.iconst 0, 1) := by decide +kernel
theorem d_X_hasChoice_3 : decode b_X_hasChoice 3 = .ok (.iconst 1, 1) := by decide +kernel
theorem d_X_hasChoice_4 : decode b_X_hasChoice 4 = .ok (.invokevirtual 88, 3) := by decide +kernel
theorem d_X_hasChoice_7 : decode b_X_hasChoice 7 = .ok (.aload_n 0, 1) := by decide +kernel
theorem d_X_hasChoice_8 : decode b_X_hasChoice 8 = .ok (.getfield 26, 3) := by decide +kernel
theorem d_X_hasChoice_11 : decode b_X_hasChoice 11 = .ok (.getfield 92, 3) := by decide +kernel
theorem d_X_hasChoice_14 : decode b_X_hasChoice 14 = .ok (.ifCond .le 7, 3) := by decide +kernel
theorem d_X_hasChoice_17 : decode b_X_hasChoice 17 = .ok (.iconst 1, 1) := by decide +kernel
theorem d_X_hasChoice_18 : decode b_X_hasChoice 18 = .ok (.goto 4, 3) := by decide +kernel
theorem d_X_hasChoice_21 : decode b_X_hasChoice 21 = .ok (.iconst 0, 1) := by decide +kernel
theorem d_X_hasChoice_22 : decode b_X_hasChoice 22 = .ok (.ireturn, 1) := by decide +kernel
theorem d_X_isPackage_0 : decode b_X_isPackage 0 = .ok (.iload_n 0, 1) := by decide +kernel
theorem d_X_isPackage_1 : decode b_X_isPackage 1 = .ok (.ifCond .lt 13, 3) := by decide +kernel
theorem d_X_isPackage_4 : decode b_X_isPackage 4 = .ok (.iload_n 0, 1) := by decide +kernel
theorem d_X_isPackage_5 : decode b_X_isPackage 5 = .ok (.bipush 7, 2) := by decide +kernel
theorem d_X_isPackage_7 : decode b_X_isPackage 7 = .ok (.if_icmp .ge 7, 3) := by decide +kernel
theorem d_X_isPackage_10 : decode b_X_isPackage 10 = .ok (.iconst 1, 1) := by decide +kernel
theorem d_X_isPackage_11 : decode b_X_isPackage 11 = .ok (.goto 4, 3) := by decide +kernel
theorem d_X_isPackage_14 : decode b_X_isPackage 14 = .ok (.iconst 0, 1) := by decide +kernel
theorem d_X_isPackage_15 : decode b_X_isPackage 15 = .ok (.ireturn, 1) := by decide +kernel
theorem d_X_isVersion_0 : decode b_X_isVersion 0 = .ok (.iload_n 0, 1) := by decide +kernel
theorem d_X_isVersion_1 : decode b_X_isVersion 1 = .ok (.invokestatic 114, 3) := by decide +kernel
theorem d_X_isVersion_4 : decode b_X_isVersion 4 = .ok (.ifCond .eq 16, 3) := by decide +kernel
theorem d_X_isVersion_7 : decode b_X_isVersion 7 = .ok (.iload_n 1, 1) := by decide +kernel
theorem d_X_isVersion_8 : decode b_X_isVersion 8 = .ok (.ifCond .lt 12, 3) := by decide +kernel
theorem d_X_isVersion_11 : decode b_X_isVersion 11 = .ok (.iload_n 1, 1) := by decide +kernel
theorem d_X_isVersion_12 : decode b_X_isVersion 12 = .ok (.iconst 4, 1) := by decide +kernel
theorem d_X_isVersion_13 : decode b_X_isVersion 13 = .ok (.if_icmp .ge 7, 3) := by decide +kernel
theorem d_X_isVersion_16 : decode b_X_isVersion 16 = .ok (.iconst 1, 1) := by decide +kernel
theorem d_X_isVersion_17 : decode b_X_isVersion 17 = .ok (.goto 4, 3) := by decide +kernel
theorem d_X_isVersion_20 : decode b_X_isVersion 20 = .ok (.iconst 0, 1) := by decide +kernel
theorem d_X_isVersion_21 : decode b_X_isVersion 21 = .ok (.ireturn, 1) := by decide +kernel
theorem d_X_isNeed_0 : decode b_X_isNeed 0 = .ok (.iload_n 0, 1) := by decide +kernel
theorem d_X_isNeed_1 : decode b_X_isNeed 1 = .ok (.iload_n 1, 1) := by decide +kernel
theorem d_X_isNeed_2 : decode b_X_isNeed 2 = .ok (.invokestatic 40, 3) := by decide +kernel
theorem d_X_isNeed_5 : decode b_X_isNeed 5 = .ok (.ifCond .eq 20, 3) := by decide +kernel
theorem d_X_isNeed_8 : decode b_X_isNeed 8 = .ok (.iload_n 0, 1) := by decide +kernel
theorem d_X_isNeed_9 : decode b_X_isNeed 9 = .ok (.iload_n 2, 1) := by decide +kernel
theorem d_X_isNeed_10 : decode b_X_isNeed 10 = .ok (.invokestatic 40, 3) := by decide +kernel
theorem d_X_isNeed_13 : decode b_X_isNeed 13 = .ok (.ifCond .eq 12, 3) := by decide +kernel
theorem d_X_isNeed_16 : decode b_X_isNeed 16 = .ok (.iload_n 1, 1) := by decide +kernel
theorem d_X_isNeed_17 : decode b_X_isNeed 17 = .ok (.iload_n 2, 1) := by decide +kernel
theorem d_X_isNeed_18 : decode b_X_isNeed 18 = .ok (.if_icmp .gt 7, 3) := by decide +kernel
theorem d_X_isNeed_21 : decode b_X_isNeed 21 = .ok (.iconst 1, 1) := by decide +kernel
theorem d_X_isNeed_22 : decode b_X_isNeed 22 = .ok (.goto 4, 3) := by decide +kernel
theorem d_X_isNeed_25 : decode b_X_isNeed 25 = .ok (.iconst 0, 1) := by decide +kernel
theorem d_X_isNeed_26 : decode b_X_isNeed 26 = .ok (.ireturn, 1) := by decide +kernel
theorem d_X_isSlot_0 : decode b_X_isSlot 0 = .ok (.iload_n 0, 1) := by decide +kernel
theorem d_X_isSlot_1 : decode b_X_isSlot 1 = .ok (.ifCond .lt 13, 3) := by decide +kernel
theorem d_X_isSlot_4 : decode b_X_isSlot 4 = .ok (.iload_n 0, 1) := by decide +kernel
theorem d_X_isSlot_5 : decode b_X_isSlot 5 = .ok (.bipush 28, 2) := by decide +kernel
theorem d_X_isSlot_7 : decode b_X_isSlot 7 = .ok (.if_icmp .ge 7, 3) := by decide +kernel
theorem d_X_isSlot_10 : decode b_X_isSlot 10 = .ok (.iconst 1, 1) := by decide +kernel
theorem d_X_isSlot_11 : decode b_X_isSlot 11 = .ok (.goto 4, 3) := by decide +kernel
theorem d_X_isSlot_14 : decode b_X_isSlot 14 = .ok (.iconst 0, 1) := by decide +kernel
theorem d_X_isSlot_15 : decode b_X_isSlot 15 = .ok (.ireturn, 1) := by decide +kernel
theorem d_X_placeOf_0 : decode b_X_placeOf 0 = .ok (.bipush 6, 2) := by decide +kernel
theorem d_X_placeOf_2 : decode b_X_placeOf 2 = .ok (.iload_n 0, 1) := by decide +kernel
theorem d_X_placeOf_3 : decode b_X_placeOf 3 = .ok (.isub, 1) := by decide +kernel
theorem d_X_placeOf_4 : decode b_X_placeOf 4 = .ok (.iconst 4, 1) := by decide +kernel
theorem d_X_placeOf_5 : decode b_X_placeOf 5 = .ok (.imul, 1) := by decide +kernel
theorem d_X_placeOf_6 : decode b_X_placeOf 6 = .ok (.ireturn, 1) := by decide +kernel
theorem d_X_slotOf_0 : decode b_X_slotOf 0 = .ok (.iload_n 0, 1) := by decide +kernel
theorem d_X_slotOf_1 : decode b_X_slotOf 1 = .ok (.invokestatic 123, 3) := by decide +kernel
theorem d_X_slotOf_4 : decode b_X_slotOf 4 = .ok (.iload_n 1, 1) := by decide +kernel
theorem d_X_slotOf_5 : decode b_X_slotOf 5 = .ok (.iadd, 1) := by decide +kernel
theorem d_X_slotOf_6 : decode b_X_slotOf 6 = .ok (.ireturn, 1) := by decide +kernel
theorem d_X_markOf_0 : decode b_X_markOf 0 = .ok (.iconst 1, 1) := by decide +kernel
theorem d_X_markOf_1 : decode b_X_markOf 1 = .ok (.iload_n 0, 1) := by decide +kernel
theorem d_X_markOf_2 : decode b_X_markOf 2 = .ok (.invokestatic 123, 3) := by decide +kernel
theorem d_X_markOf_5 : decode b_X_markOf 5 = .ok (.ishl, 1) := by decide +kernel
theorem d_X_markOf_6 : decode b_X_markOf 6 = .ok (.ireturn, 1) := by decide +kernel
theorem d_X_wishBit_0 : decode b_X_wishBit 0 = .ok (.iconst 1, 1) := by decide +kernel
theorem d_X_wishBit_1 : decode b_X_wishBit 1 = .ok (.iconst 5, 1) := by decide +kernel
theorem d_X_wishBit_2 : decode b_X_wishBit 2 = .ok (.iload_n 0, 1) := by decide +kernel
theorem d_X_wishBit_3 : decode b_X_wishBit 3 = .ok (.isub, 1) := by decide +kernel
theorem d_X_wishBit_4 : decode b_X_wishBit 4 = .ok (.ishl, 1) := by decide +kernel
theorem d_X_wishBit_5 : decode b_X_wishBit 5 = .ok (.ireturn, 1) := by decide +kernel
theorem d_X_holds_0 : decode b_X_holds 0 = .ok (.iload_n 0, 1) := by decide +kernel
theorem d_X_holds_1 : decode b_X_holds 1 = .ok (.iconst 1, 1) := by decide +kernel
theorem d_X_holds_2 : decode b_X_holds 2 = .ok (.iload_n 1, 1) := by decide +kernel
theorem d_X_holds_3 : decode b_X_holds 3 = .ok (.ishl, 1) := by decide +kernel
theorem d_X_holds_4 : decode b_X_holds 4 = .ok (.iand, 1) := by decide +kernel
theorem d_X_holds_5 : decode b_X_holds 5 = .ok (.ifCond .eq 7, 3) := by decide +kernel
theorem d_X_holds_8 : decode b_X_holds 8 = .ok (.iconst 1, 1) := by decide +kernel
theorem d_X_holds_9 : decode b_X_holds 9 = .ok (.goto 4, 3) := by decide +kernel
theorem d_X_holds_12 : decode b_X_holds 12 = .ok (.iconst 0, 1) := by decide +kernel
theorem d_X_holds_13 : decode b_X_holds 13 = .ok (.ireturn, 1) := by decide +kernel
theorem d_X_outside_0 : decode b_X_outside 0 = .ok (.iconst 1, 1) := by decide +kernel
theorem d_X_outside_1 : decode b_X_outside 1 = .ok (.iload_n 2, 1) := by decide +kernel
theorem d_X_outside_2 : decode b_X_outside 2 = .ok (.iconst 1, 1) := by decide +kernel
theorem d_X_outside_3 : decode b_X_outside 3 = .ok (.iadd, 1) := by decide +kernel
theorem d_X_outside_4 : decode b_X_outside 4 = .ok (.ishl, 1) := by decide +kernel
theorem d_X_outside_5 : decode b_X_outside 5 = .ok (.iconst 1, 1) := by decide +kernel
theorem d_X_outside_6 : decode b_X_outside 6 = .ok (.iload_n 1, 1) := by decide +kernel
theorem d_X_outside_7 : decode b_X_outside 7 = .ok (.ishl, 1) := by decide +kernel
theorem d_X_outside_8 : decode b_X_outside 8 = .ok (.isub, 1) := by decide +kernel
theorem d_X_outside_9 : decode b_X_outside 9 = .ok (.istore_n 3, 1) := by decide +kernel
theorem d_X_outside_10 : decode b_X_outside 10 = .ok (.bipush 15, 2) := by decide +kernel
theorem d_X_outside_12 : decode b_X_outside 12 = .ok (.iload_n 3, 1) := by decide +kernel
theorem d_X_outside_13 : decode b_X_outside 13 = .ok (.iconst (-1), 1) := by decide +kernel
theorem d_X_outside_14 : decode b_X_outside 14 = .ok (.ixor, 1) := by decide +kernel
theorem d_X_outside_15 : decode b_X_outside 15 = .ok (.iand, 1) := by decide +kernel
theorem d_X_outside_16 : decode b_X_outside 16 = .ok (.iload_n 0, 1) := by decide +kernel
theorem d_X_outside_17 : decode b_X_outside 17 = .ok (.invokestatic 123, 3) := by decide +kernel
theorem d_X_outside_20 : decode b_X_outside 20 = .ok (.ishl, 1) := by decide +kernel
theorem d_X_outside_21 : decode b_X_outside 21 = .ok (.ireturn, 1) := by decide +kernel
theorem d_X_marksOf_0 : decode b_X_marksOf 0 = .ok (.iload_n 0, 1) := by decide +kernel
theorem d_X_marksOf_1 : decode b_X_marksOf 1 = .ok (.iload_n 0, 1) := by decide +kernel
theorem d_X_marksOf_2 : decode b_X_marksOf 2 = .ok (.iconst 1, 1) := by decide +kernel
theorem d_X_marksOf_3 : decode b_X_marksOf 3 = .ok (.ishr, 1) := by decide +kernel
theorem d_X_marksOf_4 : decode b_X_marksOf 4 = .ok (.ior, 1) := by decide +kernel
theorem d_X_marksOf_5 : decode b_X_marksOf 5 = .ok (.iload_n 0, 1) := by decide +kernel
theorem d_X_marksOf_6 : decode b_X_marksOf 6 = .ok (.iconst 2, 1) := by decide +kernel
theorem d_X_marksOf_7 : decode b_X_marksOf 7 = .ok (.ishr, 1) := by decide +kernel
theorem d_X_marksOf_8 : decode b_X_marksOf 8 = .ok (.ior, 1) := by decide +kernel
theorem d_X_marksOf_9 : decode b_X_marksOf 9 = .ok (.iload_n 0, 1) := by decide +kernel
theorem d_X_marksOf_10 : decode b_X_marksOf 10 = .ok (.iconst 3, 1) := by decide +kernel
theorem d_X_marksOf_11 : decode b_X_marksOf 11 = .ok (.ishr, 1) := by decide +kernel
theorem d_X_marksOf_12 : decode b_X_marksOf 12 = .ok (.ior, 1) := by decide +kernel
theorem d_X_marksOf_13 : decode b_X_marksOf 13 = .ok (.ldc 194, 2) := by decide +kernel
theorem d_X_marksOf_15 : decode b_X_marksOf 15 = .ok (.iand, 1) := by decide +kernel
theorem d_X_marksOf_16 : decode b_X_marksOf 16 = .ok (.ireturn, 1) := by decide +kernel
theorem d_X_differing_0 : decode b_X_differing 0 = .ok (.iload_n 0, 1) := by decide +kernel
theorem d_X_differing_1 : decode b_X_differing 1 = .ok (.iload_n 1, 1) := by decide +kernel
theorem d_X_differing_2 : decode b_X_differing 2 = .ok (.ixor, 1) := by decide +kernel
theorem d_X_differing_3 : decode b_X_differing 3 = .ok (.invokestatic 171, 3) := by decide +kernel
theorem d_X_differing_6 : decode b_X_differing 6 = .ok (.invokestatic 106, 3) := by decide +kernel
theorem d_X_differing_9 : decode b_X_differing 9 = .ok (.ireturn, 1) := by decide +kernel
theorem d_X_lowestPlace_0 : decode b_X_lowestPlace 0 = .ok (.iload_n 0, 1) := by decide +kernel
theorem d_X_lowestPlace_1 : decode b_X_lowestPlace 1 = .ok (.iload_n 0, 1) := by decide +kernel
theorem d_X_lowestPlace_2 : decode b_X_lowestPlace 2 = .ok (.ineg, 1) := by decide +kernel
theorem d_X_lowestPlace_3 : decode b_X_lowestPlace 3 = .ok (.iand, 1) := by decide +kernel
theorem d_X_lowestPlace_4 : decode b_X_lowestPlace 4 = .ok (.iconst 1, 1) := by decide +kernel
theorem d_X_lowestPlace_5 : decode b_X_lowestPlace 5 = .ok (.isub, 1) := by decide +kernel
theorem d_X_lowestPlace_6 : decode b_X_lowestPlace 6 = .ok (.invokestatic 106, 3) := by decide +kernel
theorem d_X_lowestPlace_9 : decode b_X_lowestPlace 9 = .ok (.ireturn, 1) := by decide +kernel
end
section
theorem d_M_init_0 : decode b_M_init 0 = .ok (.aload_n 0, 1) := by decide +kernel
theorem d_M_init_1 : decode b_M_init 1 = .ok (.invokespecial 1, 3) := by decide +kernel
theorem d_M_init_4 : decode b_M_init 4 = .ok (.aload_n 0, 1) := by decide +kernel
theorem d_M_init_5 : decode b_M_init 5 = .ok (.bipush 28, 2) := by decide +kernel
theorem d_M_init_7 : decode b_M_init 7 = .ok (.newarray .boolean, 2) := by decide +kernel
theorem d_M_init_9 : decode b_M_init 9 = .ok (.putfield 7, 3) := by decide +kernel
theorem d_M_init_12 : decode b_M_init 12 = .ok (.aload_n 0, 1) := by decide +kernel
theorem d_M_init_13 : decode b_M_init 13 = .ok (.bipush 28, 2) := by decide +kernel
theorem d_M_init_15 : decode b_M_init 15 = .ok (.newarray .int, 2) := by decide +kernel
theorem d_M_init_17 : decode b_M_init 17 = .ok (.putfield 13, 3) := by decide +kernel
theorem d_M_init_20 : decode b_M_init 20 = .ok (.aload_n 0, 1) := by decide +kernel
theorem d_M_init_21 : decode b_M_init 21 = .ok (.bipush 112, 2) := by decide +kernel
theorem d_M_init_23 : decode b_M_init 23 = .ok (.newarray .int, 2) := by decide +kernel
theorem d_M_init_25 : decode b_M_init 25 = .ok (.putfield 17, 3) := by decide +kernel
theorem d_M_init_28 : decode b_M_init 28 = .ok (.aload_n 0, 1) := by decide +kernel
theorem d_M_init_29 : decode b_M_init 29 = .ok (.bipush 112, 2) := by decide +kernel
theorem d_M_init_31 : decode b_M_init 31 = .ok (.newarray .int, 2) := by decide +kernel
theorem d_M_init_33 : decode b_M_init 33 = .ok (.putfield 20, 3) := by decide +kernel
theorem d_M_init_36 : decode b_M_init 36 = .ok (.aload_n 0, 1) := by decide +kernel
theorem d_M_init_37 : decode b_M_init 37 = .ok (.bipush 112, 2) := by decide +kernel
theorem d_M_init_39 : decode b_M_init 39 = .ok (.newarray .int, 2) := by decide +kernel
theorem d_M_init_41 : decode b_M_init 41 = .ok (.putfield 23, 3) := by decide +kernel
theorem d_M_init_44 : decode b_M_init 44 = .ok (.aload_n 0, 1) := by decide +kernel
theorem d_M_init_45 : decode b_M_init 45 = .ok (.bipush 6, 2) := by decide +kernel
theorem d_M_init_47 : decode b_M_init 47 = .ok (.newarray .int, 2) := by decide +kernel
theorem d_M_init_49 : decode b_M_init 49 = .ok (.putfield 26, 3) := by decide +kernel
theorem d_M_init_52 : decode b_M_init 52 = .ok (.aload_n 0, 1) := by decide +kernel
theorem d_M_init_53 : decode b_M_init 53 = .ok (.bipush 6, 2) := by decide +kernel
theorem d_M_init_55 : decode b_M_init 55 = .ok (.newarray .int, 2) := by decide +kernel
theorem d_M_init_57 : decode b_M_init 57 = .ok (.putfield 29, 3) := by decide +kernel
theorem d_M_init_60 : decode b_M_init 60 = .ok (.aload_n 0, 1) := by decide +kernel
theorem d_M_init_61 : decode b_M_init 61 = .ok (.bipush 6, 2) := by decide +kernel
theorem d_M_init_63 : decode b_M_init 63 = .ok (.newarray .int, 2) := by decide +kernel
theorem d_M_init_65 : decode b_M_init 65 = .ok (.putfield 32, 3) := by decide +kernel
theorem d_M_init_68 : decode b_M_init 68 = .ok (.aload_n 0, 1) := by decide +kernel
theorem d_M_init_69 : decode b_M_init 69 = .ok (.bipush 16, 2) := by decide +kernel
theorem d_M_init_71 : decode b_M_init 71 = .ok (.newarray .int, 2) := by decide +kernel
theorem d_M_init_73 : decode b_M_init 73 = .ok (.putfield 35, 3) := by decide +kernel
theorem d_M_init_76 : decode b_M_init 76 = .ok (.aload_n 0, 1) := by decide +kernel
theorem d_M_init_77 : decode b_M_init 77 = .ok (.bipush 16, 2) := by decide +kernel
theorem d_M_init_79 : decode b_M_init 79 = .ok (.newarray .int, 2) := by decide +kernel
theorem d_M_init_81 : decode b_M_init 81 = .ok (.putfield 38, 3) := by decide +kernel
theorem d_M_init_84 : decode b_M_init 84 = .ok (.aload_n 0, 1) := by decide +kernel
theorem d_M_init_85 : decode b_M_init 85 = .ok (.bipush 7, 2) := by decide +kernel
theorem d_M_init_87 : decode b_M_init 87 = .ok (.newarray .int, 2) := by decide +kernel
theorem d_M_init_89 : decode b_M_init 89 = .ok (.putfield 41, 3) := by decide +kernel
theorem d_M_init_92 : decode b_M_init 92 = .ok (.aload_n 0, 1) := by decide +kernel
theorem d_M_init_93 : decode b_M_init 93 = .ok (.bipush 7, 2) := by decide +kernel
theorem d_M_init_95 : decode b_M_init 95 = .ok (.newarray .boolean, 2) := by decide +kernel
theorem d_M_init_97 : decode b_M_init 97 = .ok (.putfield 44, 3) := by decide +kernel
theorem d_M_init_100 : decode b_M_init 100 = .ok (.aload_n 0, 1) := by decide +kernel
theorem d_M_init_101 : decode b_M_init 101 = .ok (.bipush 7, 2) := by decide +kernel
theorem d_M_init_103 : decode b_M_init 103 = .ok (.newarray .int, 2) := by decide +kernel
theorem d_M_init_105 : decode b_M_init 105 = .ok (.putfield 47, 3) := by decide +kernel
theorem d_M_init_108 : decode b_M_init 108 = .ok (.aload_n 0, 1) := by decide +kernel
theorem d_M_init_109 : decode b_M_init 109 = .ok (.bipush 7, 2) := by decide +kernel
theorem d_M_init_111 : decode b_M_init 111 = .ok (.newarray .int, 2) := by decide +kernel
theorem d_M_init_113 : decode b_M_init 113 = .ok (.putfield 50, 3) := by decide +kernel
theorem d_M_init_116 : decode b_M_init 116 = .ok (.aload_n 0, 1) := by decide +kernel
theorem d_M_init_117 : decode b_M_init 117 = .ok (.bipush 7, 2) := by decide +kernel
theorem d_M_init_119 : decode b_M_init 119 = .ok (.newarray .int, 2) := by decide +kernel
theorem d_M_init_121 : decode b_M_init 121 = .ok (.putfield 53, 3) := by decide +kernel
theorem d_M_init_124 : decode b_M_init 124 = .ok (.iconst 0, 1) := by decide +kernel
theorem d_M_init_125 : decode b_M_init 125 = .ok (.istore_n 1, 1) := by decide +kernel
theorem d_M_init_126 : decode b_M_init 126 = .ok (.iload_n 1, 1) := by decide +kernel
theorem d_M_init_127 : decode b_M_init 127 = .ok (.bipush 7, 2) := by decide +kernel
theorem d_M_init_129 : decode b_M_init 129 = .ok (.if_icmp .ge 23, 3) := by decide +kernel
theorem d_M_init_132 : decode b_M_init 132 = .ok (.aload_n 0, 1) := by decide +kernel
theorem d_M_init_133 : decode b_M_init 133 = .ok (.getfield 47, 3) := by decide +kernel
theorem d_M_init_136 : decode b_M_init 136 = .ok (.iload_n 1, 1) := by decide +kernel
theorem d_M_init_137 : decode b_M_init 137 = .ok (.iconst (-1), 1) := by decide +kernel
theorem d_M_init_138 : decode b_M_init 138 = .ok (.iastore, 1) := by decide +kernel
theorem d_M_init_139 : decode b_M_init 139 = .ok (.aload_n 0, 1) := by decide +kernel
theorem d_M_init_140 : decode b_M_init 140 = .ok (.getfield 50, 3) := by decide +kernel
theorem d_M_init_143 : decode b_M_init 143 = .ok (.iload_n 1, 1) := by decide +kernel
theorem d_M_init_144 : decode b_M_init 144 = .ok (.iconst (-1), 1) := by decide +kernel
theorem d_M_init_145 : decode b_M_init 145 = .ok (.iastore, 1) := by decide +kernel
theorem d_M_init_146 : decode b_M_init 146 = .ok (.iinc 1 1, 3) := by decide +kernel
theorem d_M_init_149 : decode b_M_init 149 = .ok (.goto (-23), 3) := by decide +kernel
theorem d_M_init_152 : decode b_M_init 152 = .ok (.return_, 1) := by decide +kernel
theorem d_M_thrown_0 : decode b_M_thrown 0 = .ok (.aload_n 0, 1) := by decide +kernel
theorem d_M_thrown_1 : decode b_M_thrown 1 = .ok (.getfield 56, 3) := by decide +kernel
theorem d_M_thrown_4 : decode b_M_thrown 4 = .ok (.ireturn, 1) := by decide +kernel
theorem d_M_raise_0 : decode b_M_raise 0 = .ok (.aload_n 0, 1) := by decide +kernel
theorem d_M_raise_1 : decode b_M_raise 1 = .ok (.iload_n 1, 1) := by decide +kernel
theorem d_M_raise_2 : decode b_M_raise 2 = .ok (.putfield 56, 3) := by decide +kernel
theorem d_M_raise_5 : decode b_M_raise 5 = .ok (.iconst 0, 1) := by decide +kernel
theorem d_M_raise_6 : decode b_M_raise 6 = .ok (.ireturn, 1) := by decide +kernel
theorem d_M_isPackage_0 : decode b_M_isPackage 0 = .ok (.iload_n 0, 1) := by decide +kernel
theorem d_M_isPackage_1 : decode b_M_isPackage 1 = .ok (.ifCond .lt 13, 3) := by decide +kernel
theorem d_M_isPackage_4 : decode b_M_isPackage 4 = .ok (.iload_n 0, 1) := by decide +kernel
theorem d_M_isPackage_5 : decode b_M_isPackage 5 = .ok (.bipush 7, 2) := by decide +kernel
theorem d_M_isPackage_7 : decode b_M_isPackage 7 = .ok (.if_icmp .ge 7, 3) := by decide +kernel
theorem d_M_isPackage_10 : decode b_M_isPackage 10 = .ok (.iconst 1, 1) := by decide +kernel
theorem d_M_isPackage_11 : decode b_M_isPackage 11 = .ok (.goto 4, 3) := by decide +kernel
theorem d_M_isPackage_14 : decode b_M_isPackage 14 = .ok (.iconst 0, 1) := by decide +kernel
theorem d_M_isPackage_15 : decode b_M_isPackage 15 = .ok (.ireturn, 1) := by decide +kernel
theorem d_M_isVersion_0 : decode b_M_isVersion 0 = .ok (.iload_n 0, 1) := by decide +kernel
theorem d_M_isVersion_1 : decode b_M_isVersion 1 = .ok (.invokestatic 60, 3) := by decide +kernel
theorem d_M_isVersion_4 : decode b_M_isVersion 4 = .ok (.ifCond .eq 16, 3) := by decide +kernel
theorem d_M_isVersion_7 : decode b_M_isVersion 7 = .ok (.iload_n 1, 1) := by decide +kernel
theorem d_M_isVersion_8 : decode b_M_isVersion 8 = .ok (.ifCond .lt 12, 3) := by decide +kernel
theorem d_M_isVersion_11 : decode b_M_isVersion 11 = .ok (.iload_n 1, 1) := by decide +kernel
theorem d_M_isVersion_12 : decode b_M_isVersion 12 = .ok (.iconst 4, 1) := by decide +kernel
theorem d_M_isVersion_13 : decode b_M_isVersion 13 = .ok (.if_icmp .ge 7, 3) := by decide +kernel
theorem d_M_isVersion_16 : decode b_M_isVersion 16 = .ok (.iconst 1, 1) := by decide +kernel
theorem d_M_isVersion_17 : decode b_M_isVersion 17 = .ok (.goto 4, 3) := by decide +kernel
theorem d_M_isVersion_20 : decode b_M_isVersion 20 = .ok (.iconst 0, 1) := by decide +kernel
theorem d_M_isVersion_21 : decode b_M_isVersion 21 = .ok (.ireturn, 1) := by decide +kernel
theorem d_M_isNeed_0 : decode b_M_isNeed 0 = .ok (.iload_n 0, 1) := by decide +kernel
theorem d_M_isNeed_1 : decode b_M_isNeed 1 = .ok (.invokestatic 60, 3) := by decide +kernel
theorem d_M_isNeed_4 : decode b_M_isNeed 4 = .ok (.ifCond .eq 21, 3) := by decide +kernel
theorem d_M_isNeed_7 : decode b_M_isNeed 7 = .ok (.iload_n 1, 1) := by decide +kernel
theorem d_M_isNeed_8 : decode b_M_isNeed 8 = .ok (.ifCond .lt 17, 3) := by decide +kernel
theorem d_M_isNeed_11 : decode b_M_isNeed 11 = .ok (.iload_n 2, 1) := by decide +kernel
theorem d_M_isNeed_12 : decode b_M_isNeed 12 = .ok (.iconst 4, 1) := by decide +kernel
theorem d_M_isNeed_13 : decode b_M_isNeed 13 = .ok (.if_icmp .ge 12, 3) := by decide +kernel
theorem d_M_isNeed_16 : decode b_M_isNeed 16 = .ok (.iload_n 1, 1) := by decide +kernel
theorem d_M_isNeed_17 : decode b_M_isNeed 17 = .ok (.iload_n 2, 1) := by decide +kernel
theorem d_M_isNeed_18 : decode b_M_isNeed 18 = .ok (.if_icmp .gt 7, 3) := by decide +kernel
theorem d_M_isNeed_21 : decode b_M_isNeed 21 = .ok (.iconst 1, 1) := by decide +kernel
theorem d_M_isNeed_22 : decode b_M_isNeed 22 = .ok (.goto 4, 3) := by decide +kernel
theorem d_M_isNeed_25 : decode b_M_isNeed 25 = .ok (.iconst 0, 1) := by decide +kernel
theorem d_M_isNeed_26 : decode b_M_isNeed 26 = .ok (.ireturn, 1) := by decide +kernel
theorem d_M_version_0 : decode b_M_version 0 = .ok (.aload_n 0, 1) := by decide +kernel
theorem d_M_version_1 : decode b_M_version 1 = .ok (.iconst 0, 1) := by decide +kernel
theorem d_M_version_2 : decode b_M_version 2 = .ok (.putfield 56, 3) := by decide +kernel
theorem d_M_version_5 : decode b_M_version 5 = .ok (.iload_n 1, 1) := by decide +kernel
theorem d_M_version_6 : decode b_M_version 6 = .ok (.iload_n 2, 1) := by decide +kernel
theorem d_M_version_7 : decode b_M_version 7 = .ok (.invokestatic 64, 3) := by decide +kernel
theorem d_M_version_10 : decode b_M_version 10 = .ok (.ifCond .eq 16, 3) := by decide +kernel
theorem d_M_version_13 : decode b_M_version 13 = .ok (.aload_n 0, 1) := by decide +kernel
theorem d_M_version_14 : decode b_M_version 14 = .ok (.getfield 7, 3) := by decide +kernel
theorem d_M_version_17 : decode b_M_version 17 = .ok (.iconst 4, 1) := by decide +kernel
theorem d_M_version_18 : decode b_M_version 18 = .ok (.iload_n 1, 1) := by decide +kernel
theorem d_M_version_19 : decode b_M_version 19 = .ok (.imul, 1) := by decide +kernel
theorem d_M_version_20 : decode b_M_version 20 = .ok (.iload_n 2, 1) := by decide +kernel
theorem d_M_version_21 : decode b_M_version 21 = .ok (.iadd, 1) := by decide +kernel
theorem d_M_version_22 : decode b_M_version 22 = .ok (.baload, 1) := by decide +kernel
theorem d_M_version_23 : decode b_M_version 23 = .ok (.ifCond .eq 5, 3) := by decide +kernel
theorem d_M_version_26 : decode b_M_version 26 = .ok (.iconst 0, 1) := by decide +kernel
theorem d_M_version_27 : decode b_M_version 27 = .ok (.ireturn, 1) := by decide +kernel
theorem d_M_version_28 : decode b_M_version 28 = .ok (.aload_n 0, 1) := by decide +kernel
theorem d_M_version_29 : decode b_M_version 29 = .ok (.getfield 7, 3) := by decide +kernel
theorem d_M_version_32 : decode b_M_version 32 = .ok (.iconst 4, 1) := by decide +kernel
theorem d_M_version_33 : decode b_M_version 33 = .ok (.iload_n 1, 1) := by decide +kernel
theorem d_M_version_34 : decode b_M_version 34 = .ok (.imul, 1) := by decide +kernel
theorem d_M_version_35 : decode b_M_version 35 = .ok (.iload_n 2, 1) := by decide +kernel
theorem d_M_version_36 : decode b_M_version 36 = .ok (.iadd, 1) := by decide +kernel
theorem d_M_version_37 : decode b_M_version 37 = .ok (.iconst 1, 1) := by decide +kernel
theorem d_M_version_38 : decode b_M_version 38 = .ok (.bastore, 1) := by decide +kernel
theorem d_M_version_39 : decode b_M_version 39 = .ok (.aload_n 0, 1) := by decide +kernel
theorem d_M_version_40 : decode b_M_version 40 = .ok (.getfield 13, 3) := by decide +kernel
theorem d_M_version_43 : decode b_M_version 43 = .ok (.iconst 4, 1) := by decide +kernel
theorem d_M_version_44 : decode b_M_version 44 = .ok (.iload_n 1, 1) := by decide +kernel
theorem d_M_version_45 : decode b_M_version 45 = .ok (.imul, 1) := by decide +kernel
theorem d_M_version_46 : decode b_M_version 46 = .ok (.iload_n 2, 1) := by decide +kernel
theorem d_M_version_47 : decode b_M_version 47 = .ok (.iadd, 1) := by decide +kernel
theorem d_M_version_48 : decode b_M_version 48 = .ok (.iconst 0, 1) := by decide +kernel
theorem d_M_version_49 : decode b_M_version 49 = .ok (.iastore, 1) := by decide +kernel
theorem d_M_version_50 : decode b_M_version 50 = .ok (.iconst 1, 1) := by decide +kernel
theorem d_M_version_51 : decode b_M_version 51 = .ok (.ireturn, 1) := by decide +kernel
theorem d_M_need_0 : decode b_M_need 0 = .ok (.aload_n 0, 1) := by decide +kernel
theorem d_M_need_1 : decode b_M_need 1 = .ok (.iconst 0, 1) := by decide +kernel
theorem d_M_need_2 : decode b_M_need 2 = .ok (.putfield 56, 3) := by decide +kernel
theorem d_M_need_5 : decode b_M_need 5 = .ok (.iload_n 1, 1) := by decide +kernel
theorem d_M_need_6 : decode b_M_need 6 = .ok (.iload_n 2, 1) := by decide +kernel
theorem d_M_need_7 : decode b_M_need 7 = .ok (.invokestatic 64, 3) := by decide +kernel
theorem d_M_need_10 : decode b_M_need 10 = .ok (.ifCond .eq 14, 3) := by decide +kernel
theorem d_M_need_13 : decode b_M_need 13 = .ok (.iload_n 3, 1) := by decide +kernel
theorem d_M_need_14 : decode b_M_need 14 = .ok (.iload 4, 2) := by decide +kernel
theorem d_M_need_16 : decode b_M_need 16 = .ok (.iload 5, 2) := by decide +kernel
theorem d_M_need_18 : decode b_M_need 18 = .ok (.invokestatic 68, 3) := by decide +kernel
theorem d_M_need_21 : decode b_M_need 21 = .ok (.ifCond .ne 5, 3) := by decide +kernel
theorem d_M_need_24 : decode b_M_need 24 = .ok (.iconst 0, 1) := by decide +kernel
theorem d_M_need_25 : decode b_M_need 25 = .ok (.ireturn, 1) := by decide +kernel
theorem d_M_need_26 : decode b_M_need 26 = .ok (.iconst 4, 1) := by decide +kernel
theorem d_M_need_27 : decode b_M_need 27 = .ok (.iload_n 1, 1) := by decide +kernel
theorem d_M_need_28 : decode b_M_need 28 = .ok (.imul, 1) := by decide +kernel
theorem d_M_need_29 : decode b_M_need 29 = .ok (.iload_n 2, 1) := by decide +kernel
theorem d_M_need_30 : decode b_M_need 30 = .ok (.iadd, 1) := by decide +kernel
theorem d_M_need_31 : decode b_M_need 31 = .ok (.istore 6, 2) := by decide +kernel
theorem d_M_need_33 : decode b_M_need 33 = .ok (.aload_n 0, 1) := by decide +kernel
theorem d_M_need_34 : decode b_M_need 34 = .ok (.getfield 7, 3) := by decide +kernel
theorem d_M_need_37 : decode b_M_need 37 = .ok (.iload 6, 2) := by decide +kernel
theorem d_M_need_39 : decode b_M_need 39 = .ok (.baload, 1) := by decide +kernel
theorem d_M_need_40 : decode b_M_need 40 = .ok (.ifCond .eq 14, 3) := by decide +kernel
theorem d_M_need_43 : decode b_M_need 43 = .ok (.aload_n 0, 1) := by decide +kernel
theorem d_M_need_44 : decode b_M_need 44 = .ok (.getfield 13, 3) := by decide +kernel
theorem d_M_need_47 : decode b_M_need 47 = .ok (.iload 6, 2) := by decide +kernel
theorem d_M_need_49 : decode b_M_need 49 = .ok (.iaload, 1) := by decide +kernel
theorem d_M_need_50 : decode b_M_need 50 = .ok (.iconst 4, 1) := by decide +kernel
theorem d_M_need_51 : decode b_M_need 51 = .ok (.if_icmp .ne 5, 3) := by decide +kernel
theorem d_M_need_54 : decode b_M_need 54 = .ok (.iconst 0, 1) := by decide +kernel
theorem d_M_need_55 : decode b_M_need 55 = .ok (.ireturn, 1) := by decide +kernel
theorem d_M_need_56 : decode b_M_need 56 = .ok (.iconst 4, 1) := by decide +kernel
theorem d_M_need_57 : decode b_M_need 57 = .ok (.iload 6, 2) := by decide +kernel
theorem d_M_need_59 : decode b_M_need 59 = .ok (.imul, 1) := by decide +kernel
theorem d_M_need_60 : decode b_M_need 60 = .ok (.aload_n 0, 1) := by decide +kernel
theorem d_M_need_61 : decode b_M_need 61 = .ok (.getfield 13, 3) := by decide +kernel
theorem d_M_need_64 : decode b_M_need 64 = .ok (.iload 6, 2) := by decide +kernel
theorem d_M_need_66 : decode b_M_need 66 = .ok (.iaload, 1) := by decide +kernel
theorem d_M_need_67 : decode b_M_need 67 = .ok (.iadd, 1) := by decide +kernel
theorem d_M_need_68 : decode b_M_need 68 = .ok (.istore 7, 2) := by decide +kernel
theorem d_M_need_70 : decode b_M_need 70 = .ok (.aload_n 0, 1) := by decide +kernel
theorem d_M_need_71 : decode b_M_need 71 = .ok (.getfield 17, 3) := by decide +kernel
theorem d_M_need_74 : decode b_M_need 74 = .ok (.iload 7, 2) := by decide +kernel
theorem d_M_need_76 : decode b_M_need 76 = .ok (.iload_n 3, 1) := by decide +kernel
theorem d_M_need_77 : decode b_M_need 77 = .ok (.iastore, 1) := by decide +kernel
theorem d_M_need_78 : decode b_M_need 78 = .ok (.aload_n 0, 1) := by decide +kernel
theorem d_M_need_79 : decode b_M_need 79 = .ok (.getfield 20, 3) := by decide +kernel
theorem d_M_need_82 : decode b_M_need 82 = .ok (.iload 7, 2) := by decide +kernel
theorem d_M_need_84 : decode b_M_need 84 = .ok (.iload 4, 2) := by decide +kernel
theorem d_M_need_86 : decode b_M_need 86 = .ok (.iastore, 1) := by decide +kernel
theorem d_M_need_87 : decode b_M_need 87 = .ok (.aload_n 0, 1) := by decide +kernel
theorem d_M_need_88 : decode b_M_need 88 = .ok (.getfield 23, 3) := by decide +kernel
theorem d_M_need_91 : decode b_M_need 91 = .ok (.iload 7, 2) := by decide +kernel
theorem d_M_need_93 : decode b_M_need 93 = .ok (.iload 5, 2) := by decide +kernel
theorem d_M_need_95 : decode b_M_need 95 = .ok (.iastore, 1) := by decide +kernel
theorem d_M_need_96 : decode b_M_need 96 = .ok (.aload_n 0, 1) := by decide +kernel
theorem d_M_need_97 : decode b_M_need 97 = .ok (.getfield 13, 3) := by decide +kernel
theorem d_M_need_100 : decode b_M_need 100 = .ok (.iload 6, 2) := by decide +kernel
theorem d_M_need_102 : decode b_M_need 102 = .ok (.dup2, 1) := by decide +kernel
theorem d_M_need_103 : decode b_M_need 103 = .ok (.iaload, 1) := by decide +kernel
theorem d_M_need_104 : decode b_M_need 104 = .ok (.iconst 1, 1) := by decide +kernel
theorem d_M_need_105 : decode b_M_need 105 = .ok (.iadd, 1) := by decide +kernel
theorem d_M_need_106 : decode b_M_need 106 = .ok (.iastore, 1) := by decide +kernel
theorem d_M_need_107 : decode b_M_need 107 = .ok (.iconst 1, 1) := by decide +kernel
theorem d_M_need_108 : decode b_M_need 108 = .ok (.ireturn, 1) := by decide +kernel
theorem d_M_drop_0 : decode b_M_drop 0 = .ok (.aload_n 0, 1) := by decide +kernel
theorem d_M_drop_1 : decode b_M_drop 1 = .ok (.iconst 0, 1) := by decide +kernel
theorem d_M_drop_2 : decode b_M_drop 2 = .ok (.putfield 56, 3) := by decide +kernel
theorem d_M_drop_5 : decode b_M_drop 5 = .ok (.iload_n 1, 1) := by decide +kernel
theorem d_M_drop_6 : decode b_M_drop 6 = .ok (.iload_n 2, 1) := by decide +kernel
theorem d_M_drop_7 : decode b_M_drop 7 = .ok (.invokestatic 64, 3) := by decide +kernel
theorem d_M_drop_10 : decode b_M_drop 10 = .ok (.ifCond .eq 16, 3) := by decide +kernel
theorem d_M_drop_13 : decode b_M_drop 13 = .ok (.aload_n 0, 1) := by decide +kernel
theorem d_M_drop_14 : decode b_M_drop 14 = .ok (.getfield 7, 3) := by decide +kernel
theorem d_M_drop_17 : decode b_M_drop 17 = .ok (.iconst 4, 1) := by decide +kernel
theorem d_M_drop_18 : decode b_M_drop 18 = .ok (.iload_n 1, 1) := by decide +kernel
theorem d_M_drop_19 : decode b_M_drop 19 = .ok (.imul, 1) := by decide +kernel
theorem d_M_drop_20 : decode b_M_drop 20 = .ok (.iload_n 2, 1) := by decide +kernel
theorem d_M_drop_21 : decode b_M_drop 21 = .ok (.iadd, 1) := by decide +kernel
theorem d_M_drop_22 : decode b_M_drop 22 = .ok (.baload, 1) := by decide +kernel
theorem d_M_drop_23 : decode b_M_drop 23 = .ok (.ifCond .ne 5, 3) := by decide +kernel
theorem d_M_drop_26 : decode b_M_drop 26 = .ok (.iconst 0, 1) := by decide +kernel
theorem d_M_drop_27 : decode b_M_drop 27 = .ok (.ireturn, 1) := by decide +kernel
theorem d_M_drop_28 : decode b_M_drop 28 = .ok (.aload_n 0, 1) := by decide +kernel
theorem d_M_drop_29 : decode b_M_drop 29 = .ok (.getfield 7, 3) := by decide +kernel
theorem d_M_drop_32 : decode b_M_drop 32 = .ok (.iconst 4, 1) := by decide +kernel
theorem d_M_drop_33 : decode b_M_drop 33 = .ok (.iload_n 1, 1) := by decide +kernel
theorem d_M_drop_34 : decode b_M_drop 34 = .ok (.imul, 1) := by decide +kernel
theorem d_M_drop_35 : decode b_M_drop 35 = .ok (.iload_n 2, 1) := by decide +kernel
theorem d_M_drop_36 : decode b_M_drop 36 = .ok (.iadd, 1) := by decide +kernel
theorem d_M_drop_37 : decode b_M_drop 37 = .ok (.iconst 0, 1) := by decide +kernel
theorem d_M_drop_38 : decode b_M_drop 38 = .ok (.bastore, 1) := by decide +kernel
theorem d_M_drop_39 : decode b_M_drop 39 = .ok (.aload_n 0, 1) := by decide +kernel
theorem d_M_drop_40 : decode b_M_drop 40 = .ok (.getfield 13, 3) := by decide +kernel
theorem d_M_drop_43 : decode b_M_drop 43 = .ok (.iconst 4, 1) := by decide +kernel
theorem d_M_drop_44 : decode b_M_drop 44 = .ok (.iload_n 1, 1) := by decide +kernel
theorem d_M_drop_45 : decode b_M_drop 45 = .ok (.imul, 1) := by decide +kernel
theorem d_M_drop_46 : decode b_M_drop 46 = .ok (.iload_n 2, 1) := by decide +kernel
theorem d_M_drop_47 : decode b_M_drop 47 = .ok (.iadd, 1) := by decide +kernel
theorem d_M_drop_48 : decode b_M_drop 48 = .ok (.iconst 0, 1) := by decide +kernel
theorem d_M_drop_49 : decode b_M_drop 49 = .ok (.iastore, 1) := by decide +kernel
theorem d_M_drop_50 : decode b_M_drop 50 = .ok (.iconst 1, 1) := by decide +kernel
theorem d_M_drop_51 : decode b_M_drop 51 = .ok (.ireturn, 1) := by decide +kernel
theorem d_M_ban_0 : decode b_M_ban 0 = .ok (.aload_n 0, 1) := by decide +kernel
theorem d_M_ban_1 : decode b_M_ban 1 = .ok (.iconst 0, 1) := by decide +kernel
theorem d_M_ban_2 : decode b_M_ban 2 = .ok (.putfield 56, 3) := by decide +kernel
theorem d_M_ban_5 : decode b_M_ban 5 = .ok (.iload_n 1, 1) := by decide +kernel
theorem d_M_ban_6 : decode b_M_ban 6 = .ok (.iload_n 2, 1) := by decide +kernel
theorem d_M_ban_7 : decode b_M_ban 7 = .ok (.invokestatic 64, 3) := by decide +kernel
theorem d_M_ban_10 : decode b_M_ban 10 = .ok (.ifCond .eq 26, 3) := by decide +kernel
theorem d_M_ban_13 : decode b_M_ban 13 = .ok (.iload_n 3, 1) := by decide +kernel
theorem d_M_ban_14 : decode b_M_ban 14 = .ok (.iload 4, 2) := by decide +kernel
theorem d_M_ban_16 : decode b_M_ban 16 = .ok (.invokestatic 64, 3) := by decide +kernel
theorem d_M_ban_19 : decode b_M_ban 19 = .ok (.ifCond .eq 17, 3) := by decide +kernel
theorem d_M_ban_22 : decode b_M_ban 22 = .ok (.iload_n 1, 1) := by decide +kernel
theorem d_M_ban_23 : decode b_M_ban 23 = .ok (.iload_n 3, 1) := by decide +kernel
theorem d_M_ban_24 : decode b_M_ban 24 = .ok (.if_icmp .eq 12, 3) := by decide +kernel
theorem d_M_ban_27 : decode b_M_ban 27 = .ok (.aload_n 0, 1) := by decide +kernel
theorem d_M_ban_28 : decode b_M_ban 28 = .ok (.getfield 72, 3) := by decide +kernel
theorem d_M_ban_31 : decode b_M_ban 31 = .ok (.bipush 16, 2) := by decide +kernel
theorem d_M_ban_33 : decode b_M_ban 33 = .ok (.if_icmp .ne 5, 3) := by decide +kernel
theorem d_M_ban_36 : decode b_M_ban 36 = .ok (.iconst 0, 1) := by decide +kernel
theorem d_M_ban_37 : decode b_M_ban 37 = .ok (.ireturn, 1) := by decide +kernel
theorem d_M_ban_38 : decode b_M_ban 38 = .ok (.aload_n 0, 1) := by decide +kernel
theorem d_M_ban_39 : decode b_M_ban 39 = .ok (.getfield 35, 3) := by decide +kernel
theorem d_M_ban_42 : decode b_M_ban 42 = .ok (.aload_n 0, 1) := by decide +kernel
theorem d_M_ban_43 : decode b_M_ban 43 = .ok (.getfield 72, 3) := by decide +kernel
theorem d_M_ban_46 : decode b_M_ban 46 = .ok (.iconst 4, 1) := by decide +kernel
theorem d_M_ban_47 : decode b_M_ban 47 = .ok (.iload_n 1, 1) := by decide +kernel
theorem d_M_ban_48 : decode b_M_ban 48 = .ok (.imul, 1) := by decide +kernel
theorem d_M_ban_49 : decode b_M_ban 49 = .ok (.iload_n 2, 1) := by decide +kernel
theorem d_M_ban_50 : decode b_M_ban 50 = .ok (.iadd, 1) := by decide +kernel
theorem d_M_ban_51 : decode b_M_ban 51 = .ok (.iastore, 1) := by decide +kernel
theorem d_M_ban_52 : decode b_M_ban 52 = .ok (.aload_n 0, 1) := by decide +kernel
theorem d_M_ban_53 : decode b_M_ban 53 = .ok (.getfield 38, 3) := by decide +kernel
theorem d_M_ban_56 : decode b_M_ban 56 = .ok (.aload_n 0, 1) := by decide +kernel
theorem d_M_ban_57 : decode b_M_ban 57 = .ok (.getfield 72, 3) := by decide +kernel
theorem d_M_ban_60 : decode b_M_ban 60 = .ok (.iconst 4, 1) := by decide +kernel
theorem d_M_ban_61 : decode b_M_ban 61 = .ok (.iload_n 3, 1) := by decide +kernel
theorem d_M_ban_62 : decode b_M_ban 62 = .ok (.imul, 1) := by decide +kernel
theorem d_M_ban_63 : decode b_M_ban 63 = .ok (.iload 4, 2) := by decide +kernel
theorem d_M_ban_65 : decode b_M_ban 65 = .ok (.iadd, 1) := by decide +kernel
theorem d_M_ban_66 : decode b_M_ban 66 = .ok (.iastore, 1) := by decide +kernel
theorem d_M_ban_67 : decode b_M_ban 67 = .ok (.aload_n 0, 1) := by decide +kernel
theorem d_M_ban_68 : decode b_M_ban 68 = .ok (.dup, 1) := by decide +kernel
theorem d_M_ban_69 : decode b_M_ban 69 = .ok (.getfield 72, 3) := by decide +kernel
theorem d_M_ban_72 : decode b_M_ban 72 = .ok (.iconst 1, 1) := by decide +kernel
theorem d_M_ban_73 : decode b_M_ban 73 = .ok (.iadd, 1) := by decide +kernel
theorem d_M_ban_74 : decode b_M_ban 74 = .ok (.putfield 72, 3) := by decide +kernel
theorem d_M_ban_77 : decode b_M_ban 77 = .ok (.iconst 1, 1) := by decide +kernel
theorem d_M_ban_78 : decode b_M_ban 78 = .ok (.ireturn, 1) := by decide +kernel
theorem d_M_ask_0 : decode b_M_ask 0 = .ok (.aload_n 0, 1) := by decide +kernel
theorem d_M_ask_1 : decode b_M_ask 1 = .ok (.iconst 0, 1) := by decide +kernel
theorem d_M_ask_2 : decode b_M_ask 2 = .ok (.putfield 56, 3) := by decide +kernel
theorem d_M_ask_5 : decode b_M_ask 5 = .ok (.iload_n 1, 1) := by decide +kernel
theorem d_M_ask_6 : decode b_M_ask 6 = .ok (.iload_n 2, 1) := by decide +kernel
theorem d_M_ask_7 : decode b_M_ask 7 = .ok (.iload_n 3, 1) := by decide +kernel
theorem d_M_ask_8 : decode b_M_ask 8 = .ok (.invokestatic 68, 3) := by decide +kernel
theorem d_M_ask_11 : decode b_M_ask 11 = .ok (.ifCond .eq 12, 3) := by decide +kernel
theorem d_M_ask_14 : decode b_M_ask 14 = .ok (.aload_n 0, 1) := by decide +kernel
theorem d_M_ask_15 : decode b_M_ask 15 = .ok (.getfield 75, 3) := by decide +kernel
theorem d_M_ask_18 : decode b_M_ask 18 = .ok (.bipush 6, 2) := by decide +kernel
theorem d_M_ask_20 : decode b_M_ask 20 = .ok (.if_icmp .ne 5, 3) := by decide +kernel
theorem d_M_ask_23 : decode b_M_ask 23 = .ok (.iconst 0, 1) := by decide +kernel
theorem d_M_ask_24 : decode b_M_ask 24 = .ok (.ireturn, 1) := by decide +kernel
theorem d_M_ask_25 : decode b_M_ask 25 = .ok (.aload_n 0, 1) := by decide +kernel
theorem d_M_ask_26 : decode b_M_ask 26 = .ok (.getfield 26, 3) := by decide +kernel
theorem d_M_ask_29 : decode b_M_ask 29 = .ok (.aload_n 0, 1) := by decide +kernel
theorem d_M_ask_30 : decode b_M_ask 30 = .ok (.getfield 75, 3) := by decide +kernel
theorem d_M_ask_33 : decode b_M_ask 33 = .ok (.iload_n 1, 1) := by decide +kernel
theorem d_M_ask_34 : decode b_M_ask 34 = .ok (.iastore, 1) := by decide +kernel
theorem d_M_ask_35 : decode b_M_ask 35 = .ok (.aload_n 0, 1) := by decide +kernel
theorem d_M_ask_36 : decode b_M_ask 36 = .ok (.getfield 29, 3) := by decide +kernel
theorem d_M_ask_39 : decode b_M_ask 39 = .ok (.aload_n 0, 1) := by decide +kernel
theorem d_M_ask_40 : decode b_M_ask 40 = .ok (.getfield 75, 3) := by decide +kernel
theorem d_M_ask_43 : decode b_M_ask 43 = .ok (.iload_n 2, 1) := by decide +kernel
theorem d_M_ask_44 : decode b_M_ask 44 = .ok (.iastore, 1) := by decide +kernel
theorem d_M_ask_45 : decode b_M_ask 45 = .ok (.aload_n 0, 1) := by decide +kernel
theorem d_M_ask_46 : decode b_M_ask 46 = .ok (.getfield 32, 3) := by decide +kernel
theorem d_M_ask_49 : decode b_M_ask 49 = .ok (.aload_n 0, 1) := by decide +kernel
theorem d_M_ask_50 : decode b_M_ask 50 = .ok (.getfield 75, 3) := by decide +kernel
theorem d_M_ask_53 : decode b_M_ask 53 = .ok (.iload_n 3, 1) := by decide +kernel
theorem d_M_ask_54 : decode b_M_ask 54 = .ok (.iastore, 1) := by decide +kernel
theorem d_M_ask_55 : decode b_M_ask 55 = .ok (.aload_n 0, 1) := by decide +kernel
theorem d_M_ask_56 : decode b_M_ask 56 = .ok (.dup, 1) := by decide +kernel
theorem d_M_ask_57 : decode b_M_ask 57 = .ok (.getfield 75, 3) := by decide +kernel
theorem d_M_ask_60 : decode b_M_ask 60 = .ok (.iconst 1, 1) := by decide +kernel
theorem d_M_ask_61 : decode b_M_ask 61 = .ok (.iadd, 1) := by decide +kernel
theorem d_M_ask_62 : decode b_M_ask 62 = .ok (.putfield 75, 3) := by decide +kernel
theorem d_M_ask_65 : decode b_M_ask 65 = .ok (.iconst 1, 1) := by decide +kernel
theorem d_M_ask_66 : decode b_M_ask 66 = .ok (.ireturn, 1) := by decide +kernel
theorem d_M_take_0 : decode b_M_take 0 = .ok (.aload_n 0, 1) := by decide +kernel
theorem d_M_take_1 : decode b_M_take 1 = .ok (.iconst 0, 1) := by decide +kernel
theorem d_M_take_2 : decode b_M_take 2 = .ok (.putfield 56, 3) := by decide +kernel
theorem d_M_take_5 : decode b_M_take 5 = .ok (.iload_n 1, 1) := by decide +kernel
theorem d_M_take_6 : decode b_M_take 6 = .ok (.ifCond .lt 11, 3) := by decide +kernel
theorem d_M_take_9 : decode b_M_take 9 = .ok (.iload_n 1, 1) := by decide +kernel
theorem d_M_take_10 : decode b_M_take 10 = .ok (.aload_n 0, 1) := by decide +kernel
theorem d_M_take_11 : decode b_M_take 11 = .ok (.getfield 75, 3) := by decide +kernel
theorem d_M_take_14 : decode b_M_take 14 = .ok (.if_icmp .lt 5, 3) := by decide +kernel
theorem d_M_take_17 : decode b_M_take 17 = .ok (.iconst 0, 1) := by decide +kernel
theorem d_M_take_18 : decode b_M_take 18 = .ok (.ireturn, 1) := by decide +kernel
theorem d_M_take_19 : decode b_M_take 19 = .ok (.iload_n 1, 1) := by decide +kernel
theorem d_M_take_20 : decode b_M_take 20 = .ok (.istore_n 2, 1) := by decide +kernel
theorem d_M_take_21 : decode b_M_take 21 = .ok (.iload_n 2, 1) := by decide +kernel
theorem d_M_take_22 : decode b_M_take 22 = .ok (.iconst 1, 1) := by decide +kernel
theorem d_M_take_23 : decode b_M_take 23 = .ok (.iadd, 1) := by decide +kernel
theorem d_M_take_24 : decode b_M_take 24 = .ok (.aload_n 0, 1) := by decide +kernel
theorem d_M_take_25 : decode b_M_take 25 = .ok (.getfield 75, 3) := by decide +kernel
theorem d_M_take_28 : decode b_M_take 28 = .ok (.if_icmp .ge 51, 3) := by decide +kernel
theorem d_M_take_31 : decode b_M_take 31 = .ok (.aload_n 0, 1) := by decide +kernel
theorem d_M_take_32 : decode b_M_take 32 = .ok (.getfield 26, 3) := by decide +kernel
theorem d_M_take_35 : decode b_M_take 35 = .ok (.iload_n 2, 1) := by decide +kernel
theorem d_M_take_36 : decode b_M_take 36 = .ok (.aload_n 0, 1) := by decide +kernel
theorem d_M_take_37 : decode b_M_take 37 = .ok (.getfield 26, 3) := by decide +kernel
theorem d_M_take_40 : decode b_M_take 40 = .ok (.iload_n 2, 1) := by decide +kernel
theorem d_M_take_41 : decode b_M_take 41 = .ok (.iconst 1, 1) := by decide +kernel
theorem d_M_take_42 : decode b_M_take 42 = .ok (.iadd, 1) := by decide +kernel
theorem d_M_take_43 : decode b_M_take 43 = .ok (.iaload, 1) := by decide +kernel
theorem d_M_take_44 : decode b_M_take 44 = .ok (.iastore, 1) := by decide +kernel
theorem d_M_take_45 : decode b_M_take 45 = .ok (.aload_n 0, 1) := by decide +kernel
theorem d_M_take_46 : decode b_M_take 46 = .ok (.getfield 29, 3) := by decide +kernel
theorem d_M_take_49 : decode b_M_take 49 = .ok (.iload_n 2, 1) := by decide +kernel
theorem d_M_take_50 : decode b_M_take 50 = .ok (.aload_n 0, 1) := by decide +kernel
theorem d_M_take_51 : decode b_M_take 51 = .ok (.getfield 29, 3) := by decide +kernel
theorem d_M_take_54 : decode b_M_take 54 = .ok (.iload_n 2, 1) := by decide +kernel
theorem d_M_take_55 : decode b_M_take 55 = .ok (.iconst 1, 1) := by decide +kernel
theorem d_M_take_56 : decode b_M_take 56 = .ok (.iadd, 1) := by decide +kernel
theorem d_M_take_57 : decode b_M_take 57 = .ok (.iaload, 1) := by decide +kernel
theorem d_M_take_58 : decode b_M_take 58 = .ok (.iastore, 1) := by decide +kernel
theorem d_M_take_59 : decode b_M_take 59 = .ok (.aload_n 0, 1) := by decide +kernel
theorem d_M_take_60 : decode b_M_take 60 = .ok (.getfield 32, 3) := by decide +kernel
theorem d_M_take_63 : decode b_M_take 63 = .ok (.iload_n 2, 1) := by decide +kernel
theorem d_M_take_64 : decode b_M_take 64 = .ok (.aload_n 0, 1) := by decide +kernel
theorem d_M_take_65 : decode b_M_take 65 = .ok (.getfield 32, 3) := by decide +kernel
theorem d_M_take_68 : decode b_M_take 68 = .ok (.iload_n 2, 1) := by decide +kernel
theorem d_M_take_69 : decode b_M_take 69 = .ok (.iconst 1, 1) := by decide +kernel
theorem d_M_take_70 : decode b_M_take 70 = .ok (.iadd, 1) := by decide +kernel
theorem d_M_take_71 : decode b_M_take 71 = .ok (.iaload, 1) := by decide +kernel
theorem d_M_take_72 : decode b_M_take 72 = .ok (.iastore, 1) := by decide +kernel
theorem d_M_take_73 : decode b_M_take 73 = .ok (.iinc 2 1, 3) := by decide +kernel
theorem d_M_take_76 : decode b_M_take 76 = .ok (.goto (-55), 3) := by decide +kernel
theorem d_M_take_79 : decode b_M_take 79 = .ok (.aload_n 0, 1) := by decide +kernel
theorem d_M_take_80 : decode b_M_take 80 = .ok (.dup, 1) := by decide +kernel
theorem d_M_take_81 : decode b_M_take 81 = .ok (.getfield 75, 3) := by decide +kernel
theorem d_M_take_84 : decode b_M_take 84 = .ok (.iconst 1, 1) := by decide +kernel
theorem d_M_take_85 : decode b_M_take 85 = .ok (.isub, 1) := by decide +kernel
theorem d_M_take_86 : decode b_M_take 86 = .ok (.putfield 75, 3) := by decide +kernel
theorem d_M_take_89 : decode b_M_take 89 = .ok (.iconst 1, 1) := by decide +kernel
theorem d_M_take_90 : decode b_M_take 90 = .ok (.ireturn, 1) := by decide +kernel
theorem d_M_isMet_0 : decode b_M_isMet 0 = .ok (.aload_n 0, 1) := by decide +kernel
theorem d_M_isMet_1 : decode b_M_isMet 1 = .ok (.getfield 41, 3) := by decide +kernel
theorem d_M_isMet_4 : decode b_M_isMet 4 = .ok (.iload_n 1, 1) := by decide +kernel
theorem d_M_isMet_5 : decode b_M_isMet 5 = .ok (.iaload, 1) := by decide +kernel
theorem d_M_isMet_6 : decode b_M_isMet 6 = .ok (.iload_n 2, 1) := by decide +kernel
theorem d_M_isMet_7 : decode b_M_isMet 7 = .ok (.if_icmp .lt 17, 3) := by decide +kernel
theorem d_M_isMet_10 : decode b_M_isMet 10 = .ok (.aload_n 0, 1) := by decide +kernel
theorem d_M_isMet_11 : decode b_M_isMet 11 = .ok (.getfield 41, 3) := by decide +kernel
theorem d_M_isMet_14 : decode b_M_isMet 14 = .ok (.iload_n 1, 1) := by decide +kernel
theorem d_M_isMet_15 : decode b_M_isMet 15 = .ok (.iaload, 1) := by decide +kernel
theorem d_M_isMet_16 : decode b_M_isMet 16 = .ok (.iload_n 3, 1) := by decide +kernel
theorem d_M_isMet_17 : decode b_M_isMet 17 = .ok (.if_icmp .gt 7, 3) := by decide +kernel
theorem d_M_isMet_20 : decode b_M_isMet 20 = .ok (.iconst 1, 1) := by decide +kernel
theorem d_M_isMet_21 : decode b_M_isMet 21 = .ok (.goto 4, 3) := by decide +kernel
theorem d_M_isMet_24 : decode b_M_isMet 24 = .ok (.iconst 0, 1) := by decide +kernel
theorem d_M_isMet_25 : decode b_M_isMet 25 = .ok (.ireturn, 1) := by decide +kernel
theorem d_M_counts_0 : decode b_M_counts 0 = .ok (.aload_n 0, 1) := by decide +kernel
theorem d_M_counts_1 : decode b_M_counts 1 = .ok (.getfield 78, 3) := by decide +kernel
theorem d_M_counts_4 : decode b_M_counts 4 = .ok (.iload_n 1, 1) := by decide +kernel
theorem d_M_counts_5 : decode b_M_counts 5 = .ok (.ishr, 1) := by decide +kernel
theorem d_M_counts_6 : decode b_M_counts 6 = .ok (.iconst 1, 1) := by decide +kernel
theorem d_M_counts_7 : decode b_M_counts 7 = .ok (.iand, 1) := by decide +kernel
theorem d_M_counts_8 : decode b_M_counts 8 = .ok (.iconst 1, 1) := by decide +kernel
theorem d_M_counts_9 : decode b_M_counts 9 = .ok (.if_icmp .ne 7, 3) := by decide +kernel
theorem d_M_counts_12 : decode b_M_counts 12 = .ok (.iconst 1, 1) := by decide +kernel
theorem d_M_counts_13 : decode b_M_counts 13 = .ok (.goto 4, 3) := by decide +kernel
theorem d_M_counts_16 : decode b_M_counts 16 = .ok (.iconst 0, 1) := by decide +kernel
theorem d_M_counts_17 : decode b_M_counts 17 = .ok (.ireturn, 1) := by decide +kernel
theorem d_M_goes_0 : decode b_M_goes 0 = .ok (.aload_n 0, 1) := by decide +kernel
theorem d_M_goes_1 : decode b_M_goes 1 = .ok (.getfield 41, 3) := by decide +kernel
theorem d_M_goes_4 : decode b_M_goes 4 = .ok (.iload_n 1, 1) := by decide +kernel
theorem d_M_goes_5 : decode b_M_goes 5 = .ok (.iaload, 1) := by decide +kernel
theorem d_M_goes_6 : decode b_M_goes 6 = .ok (.iconst (-1), 1) := by decide +kernel
theorem d_M_goes_7 : decode b_M_goes 7 = .ok (.if_icmp .eq 21, 3) := by decide +kernel
theorem d_M_goes_10 : decode b_M_goes 10 = .ok (.aload_n 0, 1) := by decide +kernel
theorem d_M_goes_11 : decode b_M_goes 11 = .ok (.getfield 7, 3) := by decide +kernel
theorem d_M_goes_14 : decode b_M_goes 14 = .ok (.iconst 4, 1) := by decide +kernel
theorem d_M_goes_15 : decode b_M_goes 15 = .ok (.iload_n 1, 1) := by decide +kernel
theorem d_M_goes_16 : decode b_M_goes 16 = .ok (.imul, 1) := by decide +kernel
theorem d_M_goes_17 : decode b_M_goes 17 = .ok (.aload_n 0, 1) := by decide +kernel
theorem d_M_goes_18 : decode b_M_goes 18 = .ok (.getfield 41, 3) := by decide +kernel
theorem d_M_goes_21 : decode b_M_goes 21 = .ok (.iload_n 1, 1) := by decide +kernel
theorem d_M_goes_22 : decode b_M_goes 22 = .ok (.iaload, 1) := by decide +kernel
theorem d_M_goes_23 : decode b_M_goes 23 = .ok (.iadd, 1) := by decide +kernel
theorem d_M_goes_24 : decode b_M_goes 24 = .ok (.baload, 1) := by decide +kernel
theorem d_M_goes_25 : decode b_M_goes 25 = .ok (.ifCond .eq 7, 3) := by decide +kernel
theorem d_M_goes_28 : decode b_M_goes 28 = .ok (.iconst 1, 1) := by decide +kernel
theorem d_M_goes_29 : decode b_M_goes 29 = .ok (.goto 4, 3) := by decide +kernel
theorem d_M_goes_32 : decode b_M_goes 32 = .ok (.iconst 0, 1) := by decide +kernel
theorem d_M_goes_33 : decode b_M_goes 33 = .ok (.istore_n 2, 1) := by decide +kernel
theorem d_M_goes_34 : decode b_M_goes 34 = .ok (.iconst 0, 1) := by decide +kernel
theorem d_M_goes_35 : decode b_M_goes 35 = .ok (.istore_n 3, 1) := by decide +kernel
theorem d_M_goes_36 : decode b_M_goes 36 = .ok (.iload_n 3, 1) := by decide +kernel
theorem d_M_goes_37 : decode b_M_goes 37 = .ok (.aload_n 0, 1) := by decide +kernel
theorem d_M_goes_38 : decode b_M_goes 38 = .ok (.getfield 75, 3) := by decide +kernel
theorem d_M_goes_41 : decode b_M_goes 41 = .ok (.if_icmp .ge 57, 3) := by decide +kernel
theorem d_M_goes_44 : decode b_M_goes 44 = .ok (.iload_n 2, 1) := by decide +kernel
theorem d_M_goes_45 : decode b_M_goes 45 = .ok (.ifCond .eq 45, 3) := by decide +kernel
theorem d_M_goes_48 : decode b_M_goes 48 = .ok (.aload_n 0, 1) := by decide +kernel
theorem d_M_goes_49 : decode b_M_goes 49 = .ok (.iload_n 3, 1) := by decide +kernel
theorem d_M_goes_50 : decode b_M_goes 50 = .ok (.invokevirtual 81, 3) := by decide +kernel
theorem d_M_goes_53 : decode b_M_goes 53 = .ok (.ifCond .eq 33, 3) := by decide +kernel
theorem d_M_goes_56 : decode b_M_goes 56 = .ok (.aload_n 0, 1) := by decide +kernel
theorem d_M_goes_57 : decode b_M_goes 57 = .ok (.getfield 26, 3) := by decide +kernel
theorem d_M_goes_60 : decode b_M_goes 60 = .ok (.iload_n 3, 1) := by decide +kernel
theorem d_M_goes_61 : decode b_M_goes 61 = .ok (.iaload, 1) := by decide +kernel
theorem d_M_goes_62 : decode b_M_goes 62 = .ok (.iload_n 1, 1) := by decide +kernel
theorem d_M_goes_63 : decode b_M_goes 63 = .ok (.if_icmp .ne 23, 3) := by decide +kernel
theorem d_M_goes_66 : decode b_M_goes 66 = .ok (.aload_n 0, 1) := by decide +kernel
theorem d_M_goes_67 : decode b_M_goes 67 = .ok (.iload_n 1, 1) := by decide +kernel
theorem d_M_goes_68 : decode b_M_goes 68 = .ok (.aload_n 0, 1) := by decide +kernel
theorem d_M_goes_69 : decode b_M_goes 69 = .ok (.getfield 29, 3) := by decide +kernel
theorem d_M_goes_72 : decode b_M_goes 72 = .ok (.iload_n 3, 1) := by decide +kernel
theorem d_M_goes_73 : decode b_M_goes 73 = .ok (.iaload, 1) := by decide +kernel
theorem d_M_goes_74 : decode b_M_goes 74 = .ok (.aload_n 0, 1) := by decide +kernel
theorem d_M_goes_75 : decode b_M_goes 75 = .ok (.getfield 32, 3) := by decide +kernel
theorem d_M_goes_78 : decode b_M_goes 78 = .ok (.iload_n 3, 1) := by decide +kernel
theorem d_M_goes_79 : decode b_M_goes 79 = .ok (.iaload, 1) := by decide +kernel
theorem d_M_goes_80 : decode b_M_goes 80 = .ok (.invokevirtual 84, 3) := by decide +kernel
theorem d_M_goes_83 : decode b_M_goes 83 = .ok (.ifCond .eq 7, 3) := by decide +kernel
theorem d_M_goes_86 : decode b_M_goes 86 = .ok (.iconst 1, 1) := by decide +kernel
theorem d_M_goes_87 : decode b_M_goes 87 = .ok (.goto 4, 3) := by decide +kernel
theorem d_M_goes_90 : decode b_M_goes 90 = .ok (.iconst 0, 1) := by decide +kernel
theorem d_M_goes_91 : decode b_M_goes 91 = .ok (.istore_n 2, 1) := by decide +kernel
theorem d_M_goes_92 : decode b_M_goes 92 = .ok (.iinc 3 1, 3) := by decide +kernel
theorem d_M_goes_95 : decode b_M_goes 95 = .ok (.goto (-59), 3) := by decide +kernel
theorem d_M_goes_98 : decode b_M_goes 98 = .ok (.iconst 0, 1) := by decide +kernel
theorem d_M_goes_99 : decode b_M_goes 99 = .ok (.istore_n 3, 1) := by decide +kernel
theorem d_M_goes_100 : decode b_M_goes 100 = .ok (.iload_n 3, 1) := by decide +kernel
theorem d_M_goes_101 : decode b_M_goes 101 = .ok (.aload_n 0, 1) := by decide +kernel
theorem d_M_goes_102 : decode b_M_goes 102 = .ok (.getfield 72, 3) := by decide +kernel
theorem d_M_goes_105 : decode b_M_goes 105 = .ok (.if_icmp .ge 87, 3) := by decide +kernel
theorem d_M_goes_108 : decode b_M_goes 108 = .ok (.iload_n 2, 1) := by decide +kernel
theorem d_M_goes_109 : decode b_M_goes 109 = .ok (.ifCond .eq 83, 3) := by decide +kernel
theorem d_M_goes_112 : decode b_M_goes 112 = .ok (.aload_n 0, 1) := by decide +kernel
theorem d_M_goes_113 : decode b_M_goes 113 = .ok (.getfield 35, 3) := by decide +kernel
theorem d_M_goes_116 : decode b_M_goes 116 = .ok (.iload_n 3, 1) := by decide +kernel
theorem d_M_goes_117 : decode b_M_goes 117 = .ok (.iaload, 1) := by decide +kernel
theorem d_M_goes_118 : decode b_M_goes 118 = .ok (.iconst 4, 1) := by decide +kernel
theorem d_M_goes_119 : decode b_M_goes 119 = .ok (.idiv, 1) := by decide +kernel
theorem d_M_goes_120 : decode b_M_goes 120 = .ok (.istore 4, 2) := by decide +kernel
theorem d_M_goes_122 : decode b_M_goes 122 = .ok (.aload_n 0, 1) := by decide +kernel
theorem d_M_goes_123 : decode b_M_goes 123 = .ok (.getfield 38, 3) := by decide +kernel
theorem d_M_goes_126 : decode b_M_goes 126 = .ok (.iload_n 3, 1) := by decide +kernel
theorem d_M_goes_127 : decode b_M_goes 127 = .ok (.iaload, 1) := by decide +kernel
theorem d_M_goes_128 : decode b_M_goes 128 = .ok (.iconst 4, 1) := by decide +kernel
theorem d_M_goes_129 : decode b_M_goes 129 = .ok (.idiv, 1) := by decide +kernel
theorem d_M_goes_130 : decode b_M_goes 130 = .ok (.istore 5, 2) := by decide +kernel
theorem d_M_goes_132 : decode b_M_goes 132 = .ok (.iload 4, 2) := by decide +kernel
theorem d_M_goes_134 : decode b_M_goes 134 = .ok (.iload_n 1, 1) := by decide +kernel
theorem d_M_goes_135 : decode b_M_goes 135 = .ok (.if_icmp .gt 45, 3) := by decide +kernel
theorem d_M_goes_138 : decode b_M_goes 138 = .ok (.iload 5, 2) := by decide +kernel
theorem d_M_goes_140 : decode b_M_goes 140 = .ok (.iload_n 1, 1) := by decide +kernel
theorem d_M_goes_141 : decode b_M_goes 141 = .ok (.if_icmp .gt 39, 3) := by decide +kernel
theorem d_M_goes_144 : decode b_M_goes 144 = .ok (.aload_n 0, 1) := by decide +kernel
theorem d_M_goes_145 : decode b_M_goes 145 = .ok (.getfield 41, 3) := by decide +kernel
theorem d_M_goes_148 : decode b_M_goes 148 = .ok (.iload 4, 2) := by decide +kernel
theorem d_M_goes_150 : decode b_M_goes 150 = .ok (.iaload, 1) := by decide +kernel
theorem d_M_goes_151 : decode b_M_goes 151 = .ok (.aload_n 0, 1) := by decide +kernel
theorem d_M_goes_152 : decode b_M_goes 152 = .ok (.getfield 35, 3) := by decide +kernel
theorem d_M_goes_155 : decode b_M_goes 155 = .ok (.iload_n 3, 1) := by decide +kernel
theorem d_M_goes_156 : decode b_M_goes 156 = .ok (.iaload, 1) := by decide +kernel
theorem d_M_goes_157 : decode b_M_goes 157 = .ok (.iconst 4, 1) := by decide +kernel
theorem d_M_goes_158 : decode b_M_goes 158 = .ok (.irem, 1) := by decide +kernel
theorem d_M_goes_159 : decode b_M_goes 159 = .ok (.if_icmp .ne 21, 3) := by decide +kernel
theorem d_M_goes_162 : decode b_M_goes 162 = .ok (.aload_n 0, 1) := by decide +kernel
theorem d_M_goes_163 : decode b_M_goes 163 = .ok (.getfield 41, 3) := by decide +kernel
theorem d_M_goes_166 : decode b_M_goes 166 = .ok (.iload 5, 2) := by decide +kernel
theorem d_M_goes_168 : decode b_M_goes 168 = .ok (.iaload, 1) := by decide +kernel
theorem d_M_goes_169 : decode b_M_goes 169 = .ok (.aload_n 0, 1) := by decide +kernel
theorem d_M_goes_170 : decode b_M_goes 170 = .ok (.getfield 38, 3) := by decide +kernel
theorem d_M_goes_173 : decode b_M_goes 173 = .ok (.iload_n 3, 1) := by decide +kernel
theorem d_M_goes_174 : decode b_M_goes 174 = .ok (.iaload, 1) := by decide +kernel
theorem d_M_goes_175 : decode b_M_goes 175 = .ok (.iconst 4, 1) := by decide +kernel
theorem d_M_goes_176 : decode b_M_goes 176 = .ok (.irem, 1) := by decide +kernel
theorem d_M_goes_177 : decode b_M_goes 177 = .ok (.if_icmp .eq 7, 3) := by decide +kernel
theorem d_M_goes_180 : decode b_M_goes 180 = .ok (.iconst 1, 1) := by decide +kernel
theorem d_M_goes_181 : decode b_M_goes 181 = .ok (.goto 4, 3) := by decide +kernel
theorem d_M_goes_184 : decode b_M_goes 184 = .ok (.iconst 0, 1) := by decide +kernel
theorem d_M_goes_185 : decode b_M_goes 185 = .ok (.istore_n 2, 1) := by decide +kernel
theorem d_M_goes_186 : decode b_M_goes 186 = .ok (.iinc 3 1, 3) := by decide +kernel
theorem d_M_goes_189 : decode b_M_goes 189 = .ok (.goto (-89), 3) := by decide +kernel
theorem d_M_goes_192 : decode b_M_goes 192 = .ok (.iconst 0, 1) := by decide +kernel
theorem d_M_goes_193 : decode b_M_goes 193 = .ok (.istore_n 3, 1) := by decide +kernel
theorem d_M_goes_194 : decode b_M_goes 194 = .ok (.iload_n 3, 1) := by decide +kernel
theorem d_M_goes_195 : decode b_M_goes 195 = .ok (.iload_n 1, 1) := by decide +kernel
theorem d_M_goes_196 : decode b_M_goes 196 = .ok (.if_icmp .gt 114, 3) := by decide +kernel
theorem d_M_goes_199 : decode b_M_goes 199 = .ok (.iload_n 2, 1) := by decide +kernel
theorem d_M_goes_200 : decode b_M_goes 200 = .ok (.ifCond .eq 110, 3) := by decide +kernel
theorem d_M_goes_203 : decode b_M_goes 203 = .ok (.iconst 4, 1) := by decide +kernel
theorem d_M_goes_204 : decode b_M_goes 204 = .ok (.iload_n 3, 1) := by decide +kernel
theorem d_M_goes_205 : decode b_M_goes 205 = .ok (.imul, 1) := by decide +kernel
theorem d_M_goes_206 : decode b_M_goes 206 = .ok (.aload_n 0, 1) := by decide +kernel
theorem d_M_goes_207 : decode b_M_goes 207 = .ok (.getfield 41, 3) := by decide +kernel
theorem d_M_goes_210 : decode b_M_goes 210 = .ok (.iload_n 3, 1) := by decide +kernel
theorem d_M_goes_211 : decode b_M_goes 211 = .ok (.iaload, 1) := by decide +kernel
theorem d_M_goes_212 : decode b_M_goes 212 = .ok (.iadd, 1) := by decide +kernel
theorem d_M_goes_213 : decode b_M_goes 213 = .ok (.istore 4, 2) := by decide +kernel
theorem d_M_goes_215 : decode b_M_goes 215 = .ok (.iconst 0, 1) := by decide +kernel
theorem d_M_goes_216 : decode b_M_goes 216 = .ok (.istore 5, 2) := by decide +kernel
theorem d_M_goes_218 : decode b_M_goes 218 = .ok (.aload_n 0, 1) := by decide +kernel
theorem d_M_goes_219 : decode b_M_goes 219 = .ok (.getfield 41, 3) := by decide +kernel
theorem d_M_goes_222 : decode b_M_goes 222 = .ok (.iload_n 3, 1) := by decide +kernel
theorem d_M_goes_223 : decode b_M_goes 223 = .ok (.iaload, 1) := by decide +kernel
theorem d_M_goes_224 : decode b_M_goes 224 = .ok (.iconst (-1), 1) := by decide +kernel
theorem d_M_goes_225 : decode b_M_goes 225 = .ok (.if_icmp .eq 79, 3) := by decide +kernel
theorem d_M_goes_228 : decode b_M_goes 228 = .ok (.iload 5, 2) := by decide +kernel
theorem d_M_goes_230 : decode b_M_goes 230 = .ok (.aload_n 0, 1) := by decide +kernel
theorem d_M_goes_231 : decode b_M_goes 231 = .ok (.getfield 13, 3) := by decide +kernel
theorem d_M_goes_234 : decode b_M_goes 234 = .ok (.iload 4, 2) := by decide +kernel
theorem d_M_goes_236 : decode b_M_goes 236 = .ok (.iaload, 1) := by decide +kernel
theorem d_M_goes_237 : decode b_M_goes 237 = .ok (.if_icmp .ge 67, 3) := by decide +kernel
theorem d_M_goes_240 : decode b_M_goes 240 = .ok (.iconst 4, 1) := by decide +kernel
theorem d_M_goes_241 : decode b_M_goes 241 = .ok (.iload 4, 2) := by decide +kernel
theorem d_M_goes_243 : decode b_M_goes 243 = .ok (.imul, 1) := by decide +kernel
theorem d_M_goes_244 : decode b_M_goes 244 = .ok (.iload 5, 2) := by decide +kernel
theorem d_M_goes_246 : decode b_M_goes 246 = .ok (.iadd, 1) := by decide +kernel
theorem d_M_goes_247 : decode b_M_goes 247 = .ok (.istore 6, 2) := by decide +kernel
theorem d_M_goes_249 : decode b_M_goes 249 = .ok (.iload_n 2, 1) := by decide +kernel
theorem d_M_goes_250 : decode b_M_goes 250 = .ok (.ifCond .eq 46, 3) := by decide +kernel
theorem d_M_goes_253 : decode b_M_goes 253 = .ok (.aload_n 0, 1) := by decide +kernel
theorem d_M_goes_254 : decode b_M_goes 254 = .ok (.getfield 17, 3) := by decide +kernel
theorem d_M_goes_257 : decode b_M_goes 257 = .ok (.iload 6, 2) := by decide +kernel
theorem d_M_goes_259 : decode b_M_goes 259 = .ok (.iaload, 1) := by decide +kernel
theorem d_M_goes_260 : decode b_M_goes 260 = .ok (.iload_n 1, 1) := by decide +kernel
theorem d_M_goes_261 : decode b_M_goes 261 = .ok (.if_icmp .gt 31, 3) := by decide +kernel
theorem d_M_goes_264 : decode b_M_goes 264 = .ok (.aload_n 0, 1) := by decide +kernel
theorem d_M_goes_265 : decode b_M_goes 265 = .ok (.aload_n 0, 1) := by decide +kernel
theorem d_M_goes_266 : decode b_M_goes 266 = .ok (.getfield 17, 3) := by decide +kernel
theorem d_M_goes_269 : decode b_M_goes 269 = .ok (.iload 6, 2) := by decide +kernel
theorem d_M_goes_271 : decode b_M_goes 271 = .ok (.iaload, 1) := by decide +kernel
theorem d_M_goes_272 : decode b_M_goes 272 = .ok (.aload_n 0, 1) := by decide +kernel
theorem d_M_goes_273 : decode b_M_goes 273 = .ok (.getfield 20, 3) := by decide +kernel
theorem d_M_goes_276 : decode b_M_goes 276 = .ok (.iload 6, 2) := by decide +kernel
theorem d_M_goes_278 : decode b_M_goes 278 = .ok (.iaload, 1) := by decide +kernel
theorem d_M_goes_279 : decode b_M_goes 279 = .ok (.aload_n 0, 1) := by decide +kernel
theorem d_M_goes_280 : decode b_M_goes 280 = .ok (.getfield 23, 3) := by decide +kernel
theorem d_M_goes_283 : decode b_M_goes 283 = .ok (.iload 6, 2) := by decide +kernel
theorem d_M_goes_285 : decode b_M_goes 285 = .ok (.iaload, 1) := by decide +kernel
theorem d_M_goes_286 : decode b_M_goes 286 = .ok (.invokevirtual 84, 3) := by decide +kernel
theorem d_M_goes_289 : decode b_M_goes 289 = .ok (.ifCond .eq 7, 3) := by decide +kernel
theorem d_M_goes_292 : decode b_M_goes 292 = .ok (.iconst 1, 1) := by decide +kernel
theorem d_M_goes_293 : decode b_M_goes 293 = .ok (.goto 4, 3) := by decide +kernel
theorem d_M_goes_296 : decode b_M_goes 296 = .ok (.iconst 0, 1) := by decide +kernel
theorem d_M_goes_297 : decode b_M_goes 297 = .ok (.istore_n 2, 1) := by decide +kernel
theorem d_M_goes_298 : decode b_M_goes 298 = .ok (.iinc 5 1, 3) := by decide +kernel
theorem d_M_goes_301 : decode b_M_goes 301 = .ok (.goto (-83), 3) := by decide +kernel
theorem d_M_goes_304 : decode b_M_goes 304 = .ok (.iinc 3 1, 3) := by decide +kernel
theorem d_M_goes_307 : decode b_M_goes 307 = .ok (.goto (-113), 3) := by decide +kernel
theorem d_M_goes_310 : decode b_M_goes 310 = .ok (.iload_n 2, 1) := by decide +kernel
theorem d_M_goes_311 : decode b_M_goes 311 = .ok (.ireturn, 1) := by decide +kernel
theorem d_M_isTight_0 : decode b_M_isTight 0 = .ok (.iconst 0, 1) := by decide +kernel
theorem d_M_isTight_1 : decode b_M_isTight 1 = .ok (.istore_n 1, 1) := by decide +kernel
theorem d_M_isTight_2 : decode b_M_isTight 2 = .ok (.iload_n 1, 1) := by decide +kernel
theorem d_M_isTight_3 : decode b_M_isTight 3 = .ok (.bipush 7, 2) := by decide +kernel
theorem d_M_isTight_5 : decode b_M_isTight 5 = .ok (.if_icmp .ge 16, 3) := by decide +kernel
theorem d_M_isTight_8 : decode b_M_isTight 8 = .ok (.aload_n 0, 1) := by decide +kernel
theorem d_M_isTight_9 : decode b_M_isTight 9 = .ok (.getfield 44, 3) := by decide +kernel
theorem d_M_isTight_12 : decode b_M_isTight 12 = .ok (.iload_n 1, 1) := by decide +kernel
theorem d_M_isTight_13 : decode b_M_isTight 13 = .ok (.iconst 0, 1) := by decide +kernel
theorem d_M_isTight_14 : decode b_M_isTight 14 = .ok (.bastore, 1) := by decide +kernel
theorem d_M_isTight_15 : decode b_M_isTight 15 = .ok (.iinc 1 1, 3) := by decide +kernel
theorem d_M_isTight_18 : decode b_M_isTight 18 = .ok (.goto (-16), 3) := by decide +kernel
theorem d_M_isTight_21 : decode b_M_isTight 21 = .ok (.iconst 0, 1) := by decide +kernel
theorem d_M_isTight_22 : decode b_M_isTight 22 = .ok (.istore_n 1, 1) := by decide +kernel
theorem d_M_isTight_23 : decode b_M_isTight 23 = .ok (.iload_n 1, 1) := by decide +kernel
theorem d_M_isTight_24 : decode b_M_isTight 24 = .ok (.aload_n 0, 1) := by decide +kernel
theorem d_M_isTight_25 : decode b_M_isTight 25 = .ok (.getfield 75, 3) := by decide +kernel
theorem d_M_isTight_28 : decode b_M_isTight 28 = .ok (.if_icmp .ge 29, 3) := by decide +kernel
theorem d_M_isTight_31 : decode b_M_isTight 31 = .ok (.aload_n 0, 1) := by decide +kernel
theorem d_M_isTight_32 : decode b_M_isTight 32 = .ok (.iload_n 1, 1) := by decide +kernel
theorem d_M_isTight_33 : decode b_M_isTight 33 = .ok (.invokevirtual 81, 3) := by decide +kernel
theorem d_M_isTight_36 : decode b_M_isTight 36 = .ok (.ifCond .eq 15, 3) := by decide +kernel
theorem d_M_isTight_39 : decode b_M_isTight 39 = .ok (.aload_n 0, 1) := by decide +kernel
theorem d_M_isTight_40 : decode b_M_isTight 40 = .ok (.getfield 44, 3) := by decide +kernel
theorem d_M_isTight_43 : decode b_M_isTight 43 = .ok (.aload_n 0, 1) := by decide +kernel
theorem d_M_isTight_44 : decode b_M_isTight 44 = .ok (.getfield 26, 3) := by decide +kernel
theorem d_M_isTight_47 : decode b_M_isTight 47 = .ok (.iload_n 1, 1) := by decide +kernel
theorem d_M_isTight_48 : decode b_M_isTight 48 = .ok (.iaload, 1) := by decide +kernel
theorem d_M_isTight_49 : decode b_M_isTight 49 = .ok (.iconst 1, 1) := by decide +kernel
theorem d_M_isTight_50 : decode b_M_isTight 50 = .ok (.bastore, 1) := by decide +kernel
theorem d_M_isTight_51 : decode b_M_isTight 51 = .ok (.iinc 1 1, 3) := by decide +kernel
theorem d_M_isTight_54 : decode b_M_isTight 54 = .ok (.goto (-31), 3) := by decide +kernel
theorem d_M_isTight_57 : decode b_M_isTight 57 = .ok (.iconst 1, 1) := by decide +kernel
theorem d_M_isTight_58 : decode b_M_isTight 58 = .ok (.istore_n 1, 1) := by decide +kernel
theorem d_M_isTight_59 : decode b_M_isTight 59 = .ok (.iload_n 1, 1) := by decide +kernel
theorem d_M_isTight_60 : decode b_M_isTight 60 = .ok (.ifCond .eq 116, 3) := by decide +kernel
theorem d_M_isTight_63 : decode b_M_isTight 63 = .ok (.iconst 0, 1) := by decide +kernel
theorem d_M_isTight_64 : decode b_M_isTight 64 = .ok (.istore_n 1, 1) := by decide +kernel
theorem d_M_isTight_65 : decode b_M_isTight 65 = .ok (.iconst 0, 1) := by decide +kernel
theorem d_M_isTight_66 : decode b_M_isTight 66 = .ok (.istore_n 2, 1) := by decide +kernel
theorem d_M_isTight_67 : decode b_M_isTight 67 = .ok (.iload_n 2, 1) := by decide +kernel
theorem d_M_isTight_68 : decode b_M_isTight 68 = .ok (.bipush 7, 2) := by decide +kernel
theorem d_M_isTight_70 : decode b_M_isTight 70 = .ok (.if_icmp .ge 103, 3) := by decide +kernel
theorem d_M_isTight_73 : decode b_M_isTight 73 = .ok (.aload_n 0, 1) := by decide +kernel
theorem d_M_isTight_74 : decode b_M_isTight 74 = .ok (.getfield 44, 3) := by decide +kernel
theorem d_M_isTight_77 : decode b_M_isTight 77 = .ok (.iload_n 2, 1) := by decide +kernel
theorem d_M_isTight_78 : decode b_M_isTight 78 = .ok (.baload, 1) := by decide +kernel
theorem d_M_isTight_79 : decode b_M_isTight 79 = .ok (.ifCond .eq 88, 3) := by decide +kernel
theorem d_M_isTight_82 : decode b_M_isTight 82 = .ok (.aload_n 0, 1) := by decide +kernel
theorem d_M_isTight_83 : decode b_M_isTight 83 = .ok (.getfield 41, 3) := by decide +kernel
theorem d_M_isTight_86 : decode b_M_isTight 86 = .ok (.iload_n 2, 1) := by decide +kernel
theorem d_M_isTight_87 : decode b_M_isTight 87 = .ok (.iaload, 1) := by decide +kernel
theorem d_M_isTight_88 : decode b_M_isTight 88 = .ok (.iconst (-1), 1) := by decide +kernel
theorem d_M_isTight_89 : decode b_M_isTight 89 = .ok (.if_icmp .ne 6, 3) := by decide +kernel
theorem d_M_isTight_92 : decode b_M_isTight 92 = .ok (.goto 75, 3) := by decide +kernel
theorem d_M_isTight_95 : decode b_M_isTight 95 = .ok (.iconst 4, 1) := by decide +kernel
theorem d_M_isTight_96 : decode b_M_isTight 96 = .ok (.iload_n 2, 1) := by decide +kernel
theorem d_M_isTight_97 : decode b_M_isTight 97 = .ok (.imul, 1) := by decide +kernel
theorem d_M_isTight_98 : decode b_M_isTight 98 = .ok (.aload_n 0, 1) := by decide +kernel
theorem d_M_isTight_99 : decode b_M_isTight 99 = .ok (.getfield 41, 3) := by decide +kernel
theorem d_M_isTight_102 : decode b_M_isTight 102 = .ok (.iload_n 2, 1) := by decide +kernel
theorem d_M_isTight_103 : decode b_M_isTight 103 = .ok (.iaload, 1) := by decide +kernel
theorem d_M_isTight_104 : decode b_M_isTight 104 = .ok (.iadd, 1) := by decide +kernel
theorem d_M_isTight_105 : decode b_M_isTight 105 = .ok (.istore_n 3, 1) := by decide +kernel
theorem d_M_isTight_106 : decode b_M_isTight 106 = .ok (.iconst 0, 1) := by decide +kernel
theorem d_M_isTight_107 : decode b_M_isTight 107 = .ok (.istore 4, 2) := by decide +kernel
theorem d_M_isTight_109 : decode b_M_isTight 109 = .ok (.iload 4, 2) := by decide +kernel
theorem d_M_isTight_111 : decode b_M_isTight 111 = .ok (.aload_n 0, 1) := by decide +kernel
theorem d_M_isTight_112 : decode b_M_isTight 112 = .ok (.getfield 13, 3) := by decide +kernel
theorem d_M_isTight_115 : decode b_M_isTight 115 = .ok (.iload_n 3, 1) := by decide +kernel
theorem d_M_isTight_116 : decode b_M_isTight 116 = .ok (.iaload, 1) := by decide +kernel
theorem d_M_isTight_117 : decode b_M_isTight 117 = .ok (.if_icmp .ge 50, 3) := by decide +kernel
theorem d_M_isTight_120 : decode b_M_isTight 120 = .ok (.aload_n 0, 1) := by decide +kernel
theorem d_M_isTight_121 : decode b_M_isTight 121 = .ok (.getfield 17, 3) := by decide +kernel
theorem d_M_isTight_124 : decode b_M_isTight 124 = .ok (.iconst 4, 1) := by decide +kernel
end
section
theorem d_M_isTight_125 : decode b_M_isTight 125 = .ok (.iload_n 3, 1) := by decide +kernel
theorem d_M_isTight_126 : decode b_M_isTight 126 = .ok (.imul, 1) := by decide +kernel
theorem d_M_isTight_127 : decode b_M_isTight 127 = .ok (.iload 4, 2) := by decide +kernel
theorem d_M_isTight_129 : decode b_M_isTight 129 = .ok (.iadd, 1) := by decide +kernel
theorem d_M_isTight_130 : decode b_M_isTight 130 = .ok (.iaload, 1) := by decide +kernel
theorem d_M_isTight_131 : decode b_M_isTight 131 = .ok (.istore 5, 2) := by decide +kernel
theorem d_M_isTight_133 : decode b_M_isTight 133 = .ok (.iload_n 1, 1) := by decide +kernel
theorem d_M_isTight_134 : decode b_M_isTight 134 = .ok (.ifCond .ne 13, 3) := by decide +kernel
theorem d_M_isTight_137 : decode b_M_isTight 137 = .ok (.aload_n 0, 1) := by decide +kernel
theorem d_M_isTight_138 : decode b_M_isTight 138 = .ok (.getfield 44, 3) := by decide +kernel
theorem d_M_isTight_141 : decode b_M_isTight 141 = .ok (.iload 5, 2) := by decide +kernel
theorem d_M_isTight_143 : decode b_M_isTight 143 = .ok (.baload, 1) := by decide +kernel
theorem d_M_isTight_144 : decode b_M_isTight 144 = .ok (.ifCond .ne 7, 3) := by decide +kernel
theorem d_M_isTight_147 : decode b_M_isTight 147 = .ok (.iconst 1, 1) := by decide +kernel
theorem d_M_isTight_148 : decode b_M_isTight 148 = .ok (.goto 4, 3) := by decide +kernel
theorem d_M_isTight_151 : decode b_M_isTight 151 = .ok (.iconst 0, 1) := by decide +kernel
theorem d_M_isTight_152 : decode b_M_isTight 152 = .ok (.istore_n 1, 1) := by decide +kernel
theorem d_M_isTight_153 : decode b_M_isTight 153 = .ok (.aload_n 0, 1) := by decide +kernel
theorem d_M_isTight_154 : decode b_M_isTight 154 = .ok (.getfield 44, 3) := by decide +kernel
theorem d_M_isTight_157 : decode b_M_isTight 157 = .ok (.iload 5, 2) := by decide +kernel
theorem d_M_isTight_159 : decode b_M_isTight 159 = .ok (.iconst 1, 1) := by decide +kernel
theorem d_M_isTight_160 : decode b_M_isTight 160 = .ok (.bastore, 1) := by decide +kernel
theorem d_M_isTight_161 : decode b_M_isTight 161 = .ok (.iinc 4 1, 3) := by decide +kernel
theorem d_M_isTight_164 : decode b_M_isTight 164 = .ok (.goto (-55), 3) := by decide +kernel
theorem d_M_isTight_167 : decode b_M_isTight 167 = .ok (.iinc 2 1, 3) := by decide +kernel
theorem d_M_isTight_170 : decode b_M_isTight 170 = .ok (.goto (-103), 3) := by decide +kernel
theorem d_M_isTight_173 : decode b_M_isTight 173 = .ok (.goto (-114), 3) := by decide +kernel
theorem d_M_isTight_176 : decode b_M_isTight 176 = .ok (.iconst 1, 1) := by decide +kernel
theorem d_M_isTight_177 : decode b_M_isTight 177 = .ok (.istore_n 2, 1) := by decide +kernel
theorem d_M_isTight_178 : decode b_M_isTight 178 = .ok (.iconst 0, 1) := by decide +kernel
theorem d_M_isTight_179 : decode b_M_isTight 179 = .ok (.istore_n 3, 1) := by decide +kernel
theorem d_M_isTight_180 : decode b_M_isTight 180 = .ok (.iload_n 3, 1) := by decide +kernel
theorem d_M_isTight_181 : decode b_M_isTight 181 = .ok (.bipush 7, 2) := by decide +kernel
theorem d_M_isTight_183 : decode b_M_isTight 183 = .ok (.if_icmp .ge 38, 3) := by decide +kernel
theorem d_M_isTight_186 : decode b_M_isTight 186 = .ok (.iload_n 2, 1) := by decide +kernel
theorem d_M_isTight_187 : decode b_M_isTight 187 = .ok (.ifCond .eq 26, 3) := by decide +kernel
theorem d_M_isTight_190 : decode b_M_isTight 190 = .ok (.aload_n 0, 1) := by decide +kernel
theorem d_M_isTight_191 : decode b_M_isTight 191 = .ok (.getfield 44, 3) := by decide +kernel
theorem d_M_isTight_194 : decode b_M_isTight 194 = .ok (.iload_n 3, 1) := by decide +kernel
theorem d_M_isTight_195 : decode b_M_isTight 195 = .ok (.baload, 1) := by decide +kernel
theorem d_M_isTight_196 : decode b_M_isTight 196 = .ok (.ifCond .ne 13, 3) := by decide +kernel
theorem d_M_isTight_199 : decode b_M_isTight 199 = .ok (.aload_n 0, 1) := by decide +kernel
theorem d_M_isTight_200 : decode b_M_isTight 200 = .ok (.getfield 41, 3) := by decide +kernel
theorem d_M_isTight_203 : decode b_M_isTight 203 = .ok (.iload_n 3, 1) := by decide +kernel
theorem d_M_isTight_204 : decode b_M_isTight 204 = .ok (.iaload, 1) := by decide +kernel
theorem d_M_isTight_205 : decode b_M_isTight 205 = .ok (.iconst (-1), 1) := by decide +kernel
theorem d_M_isTight_206 : decode b_M_isTight 206 = .ok (.if_icmp .ne 7, 3) := by decide +kernel
theorem d_M_isTight_209 : decode b_M_isTight 209 = .ok (.iconst 1, 1) := by decide +kernel
theorem d_M_isTight_210 : decode b_M_isTight 210 = .ok (.goto 4, 3) := by decide +kernel
theorem d_M_isTight_213 : decode b_M_isTight 213 = .ok (.iconst 0, 1) := by decide +kernel
theorem d_M_isTight_214 : decode b_M_isTight 214 = .ok (.istore_n 2, 1) := by decide +kernel
theorem d_M_isTight_215 : decode b_M_isTight 215 = .ok (.iinc 3 1, 3) := by decide +kernel
theorem d_M_isTight_218 : decode b_M_isTight 218 = .ok (.goto (-38), 3) := by decide +kernel
theorem d_M_isTight_221 : decode b_M_isTight 221 = .ok (.iload_n 2, 1) := by decide +kernel
theorem d_M_isTight_222 : decode b_M_isTight 222 = .ok (.ireturn, 1) := by decide +kernel
theorem d_M_begin_0 : decode b_M_begin 0 = .ok (.aload_n 0, 1) := by decide +kernel
theorem d_M_begin_1 : decode b_M_begin 1 = .ok (.iload_n 1, 1) := by decide +kernel
theorem d_M_begin_2 : decode b_M_begin 2 = .ok (.putfield 78, 3) := by decide +kernel
theorem d_M_begin_5 : decode b_M_begin 5 = .ok (.aload_n 0, 1) := by decide +kernel
theorem d_M_begin_6 : decode b_M_begin 6 = .ok (.iconst 0, 1) := by decide +kernel
theorem d_M_begin_7 : decode b_M_begin 7 = .ok (.putfield 87, 3) := by decide +kernel
theorem d_M_begin_10 : decode b_M_begin 10 = .ok (.aload_n 0, 1) := by decide +kernel
theorem d_M_begin_11 : decode b_M_begin 11 = .ok (.getfield 41, 3) := by decide +kernel
theorem d_M_begin_14 : decode b_M_begin 14 = .ok (.iconst 0, 1) := by decide +kernel
theorem d_M_begin_15 : decode b_M_begin 15 = .ok (.iconst 4, 1) := by decide +kernel
theorem d_M_begin_16 : decode b_M_begin 16 = .ok (.iastore, 1) := by decide +kernel
theorem d_M_begin_17 : decode b_M_begin 17 = .ok (.return_, 1) := by decide +kernel
theorem d_M_finds_0 : decode b_M_finds 0 = .ok (.aload_n 0, 1) := by decide +kernel
theorem d_M_finds_1 : decode b_M_finds 1 = .ok (.getfield 87, 3) := by decide +kernel
theorem d_M_finds_4 : decode b_M_finds 4 = .ok (.ifCond .lt 99, 3) := by decide +kernel
theorem d_M_finds_7 : decode b_M_finds 7 = .ok (.aload_n 0, 1) := by decide +kernel
theorem d_M_finds_8 : decode b_M_finds 8 = .ok (.getfield 41, 3) := by decide +kernel
theorem d_M_finds_11 : decode b_M_finds 11 = .ok (.aload_n 0, 1) := by decide +kernel
theorem d_M_finds_12 : decode b_M_finds 12 = .ok (.getfield 87, 3) := by decide +kernel
theorem d_M_finds_15 : decode b_M_finds 15 = .ok (.iaload, 1) := by decide +kernel
theorem d_M_finds_16 : decode b_M_finds 16 = .ok (.iconst (-1), 1) := by decide +kernel
theorem d_M_finds_17 : decode b_M_finds 17 = .ok (.if_icmp .ne 16, 3) := by decide +kernel
theorem d_M_finds_20 : decode b_M_finds 20 = .ok (.aload_n 0, 1) := by decide +kernel
theorem d_M_finds_21 : decode b_M_finds 21 = .ok (.dup, 1) := by decide +kernel
theorem d_M_finds_22 : decode b_M_finds 22 = .ok (.getfield 87, 3) := by decide +kernel
theorem d_M_finds_25 : decode b_M_finds 25 = .ok (.iconst 1, 1) := by decide +kernel
theorem d_M_finds_26 : decode b_M_finds 26 = .ok (.isub, 1) := by decide +kernel
theorem d_M_finds_27 : decode b_M_finds 27 = .ok (.putfield 87, 3) := by decide +kernel
theorem d_M_finds_30 : decode b_M_finds 30 = .ok (.goto (-30), 3) := by decide +kernel
theorem d_M_finds_33 : decode b_M_finds 33 = .ok (.aload_n 0, 1) := by decide +kernel
theorem d_M_finds_34 : decode b_M_finds 34 = .ok (.getfield 41, 3) := by decide +kernel
theorem d_M_finds_37 : decode b_M_finds 37 = .ok (.aload_n 0, 1) := by decide +kernel
theorem d_M_finds_38 : decode b_M_finds 38 = .ok (.getfield 87, 3) := by decide +kernel
theorem d_M_finds_41 : decode b_M_finds 41 = .ok (.dup2, 1) := by decide +kernel
theorem d_M_finds_42 : decode b_M_finds 42 = .ok (.iaload, 1) := by decide +kernel
theorem d_M_finds_43 : decode b_M_finds 43 = .ok (.iconst 1, 1) := by decide +kernel
theorem d_M_finds_44 : decode b_M_finds 44 = .ok (.isub, 1) := by decide +kernel
theorem d_M_finds_45 : decode b_M_finds 45 = .ok (.iastore, 1) := by decide +kernel
theorem d_M_finds_46 : decode b_M_finds 46 = .ok (.aload_n 0, 1) := by decide +kernel
theorem d_M_finds_47 : decode b_M_finds 47 = .ok (.aload_n 0, 1) := by decide +kernel
theorem d_M_finds_48 : decode b_M_finds 48 = .ok (.getfield 87, 3) := by decide +kernel
theorem d_M_finds_51 : decode b_M_finds 51 = .ok (.invokevirtual 90, 3) := by decide +kernel
theorem d_M_finds_54 : decode b_M_finds 54 = .ok (.ifCond .ne 6, 3) := by decide +kernel
theorem d_M_finds_57 : decode b_M_finds 57 = .ok (.goto (-57), 3) := by decide +kernel
theorem d_M_finds_60 : decode b_M_finds 60 = .ok (.aload_n 0, 1) := by decide +kernel
theorem d_M_finds_61 : decode b_M_finds 61 = .ok (.getfield 87, 3) := by decide +kernel
theorem d_M_finds_64 : decode b_M_finds 64 = .ok (.iconst 1, 1) := by decide +kernel
theorem d_M_finds_65 : decode b_M_finds 65 = .ok (.iadd, 1) := by decide +kernel
theorem d_M_finds_66 : decode b_M_finds 66 = .ok (.bipush 7, 2) := by decide +kernel
theorem d_M_finds_68 : decode b_M_finds 68 = .ok (.if_icmp .ge 26, 3) := by decide +kernel
theorem d_M_finds_71 : decode b_M_finds 71 = .ok (.aload_n 0, 1) := by decide +kernel
theorem d_M_finds_72 : decode b_M_finds 72 = .ok (.dup, 1) := by decide +kernel
theorem d_M_finds_73 : decode b_M_finds 73 = .ok (.getfield 87, 3) := by decide +kernel
theorem d_M_finds_76 : decode b_M_finds 76 = .ok (.iconst 1, 1) := by decide +kernel
theorem d_M_finds_77 : decode b_M_finds 77 = .ok (.iadd, 1) := by decide +kernel
theorem d_M_finds_78 : decode b_M_finds 78 = .ok (.putfield 87, 3) := by decide +kernel
theorem d_M_finds_81 : decode b_M_finds 81 = .ok (.aload_n 0, 1) := by decide +kernel
theorem d_M_finds_82 : decode b_M_finds 82 = .ok (.getfield 41, 3) := by decide +kernel
theorem d_M_finds_85 : decode b_M_finds 85 = .ok (.aload_n 0, 1) := by decide +kernel
theorem d_M_finds_86 : decode b_M_finds 86 = .ok (.getfield 87, 3) := by decide +kernel
theorem d_M_finds_89 : decode b_M_finds 89 = .ok (.iconst 4, 1) := by decide +kernel
theorem d_M_finds_90 : decode b_M_finds 90 = .ok (.iastore, 1) := by decide +kernel
theorem d_M_finds_91 : decode b_M_finds 91 = .ok (.goto (-91), 3) := by decide +kernel
theorem d_M_finds_94 : decode b_M_finds 94 = .ok (.aload_n 0, 1) := by decide +kernel
theorem d_M_finds_95 : decode b_M_finds 95 = .ok (.invokevirtual 93, 3) := by decide +kernel
theorem d_M_finds_98 : decode b_M_finds 98 = .ok (.ifCond .eq (-98), 3) := by decide +kernel
theorem d_M_finds_101 : decode b_M_finds 101 = .ok (.iconst 1, 1) := by decide +kernel
theorem d_M_finds_102 : decode b_M_finds 102 = .ok (.ireturn, 1) := by decide +kernel
theorem d_M_finds_103 : decode b_M_finds 103 = .ok (.iconst 0, 1) := by decide +kernel
theorem d_M_finds_104 : decode b_M_finds 104 = .ok (.ireturn, 1) := by decide +kernel
theorem d_M_all_0 : decode b_M_all 0 = .ok (.iconst 1, 1) := by decide +kernel
theorem d_M_all_1 : decode b_M_all 1 = .ok (.aload_n 0, 1) := by decide +kernel
theorem d_M_all_2 : decode b_M_all 2 = .ok (.getfield 75, 3) := by decide +kernel
theorem d_M_all_5 : decode b_M_all 5 = .ok (.ishl, 1) := by decide +kernel
theorem d_M_all_6 : decode b_M_all 6 = .ok (.iconst 1, 1) := by decide +kernel
theorem d_M_all_7 : decode b_M_all 7 = .ok (.isub, 1) := by decide +kernel
theorem d_M_all_8 : decode b_M_all 8 = .ok (.ireturn, 1) := by decide +kernel
theorem d_M_cost_0 : decode b_M_cost 0 = .ok (.iconst 0, 1) := by decide +kernel
theorem d_M_cost_1 : decode b_M_cost 1 = .ok (.istore_n 2, 1) := by decide +kernel
theorem d_M_cost_2 : decode b_M_cost 2 = .ok (.iconst 0, 1) := by decide +kernel
theorem d_M_cost_3 : decode b_M_cost 3 = .ok (.istore_n 3, 1) := by decide +kernel
theorem d_M_cost_4 : decode b_M_cost 4 = .ok (.iload_n 3, 1) := by decide +kernel
theorem d_M_cost_5 : decode b_M_cost 5 = .ok (.bipush 7, 2) := by decide +kernel
theorem d_M_cost_7 : decode b_M_cost 7 = .ok (.if_icmp .ge 52, 3) := by decide +kernel
theorem d_M_cost_10 : decode b_M_cost 10 = .ok (.iload_n 2, 1) := by decide +kernel
theorem d_M_cost_11 : decode b_M_cost 11 = .ok (.iload_n 1, 1) := by decide +kernel
theorem d_M_cost_12 : decode b_M_cost 12 = .ok (.iconst 1, 1) := by decide +kernel
theorem d_M_cost_13 : decode b_M_cost 13 = .ok (.if_icmp .ne 13, 3) := by decide +kernel
theorem d_M_cost_16 : decode b_M_cost 16 = .ok (.aload_n 0, 1) := by decide +kernel
theorem d_M_cost_17 : decode b_M_cost 17 = .ok (.getfield 41, 3) := by decide +kernel
theorem d_M_cost_20 : decode b_M_cost 20 = .ok (.iload_n 3, 1) := by decide +kernel
theorem d_M_cost_21 : decode b_M_cost 21 = .ok (.iaload, 1) := by decide +kernel
theorem d_M_cost_22 : decode b_M_cost 22 = .ok (.iconst (-1), 1) := by decide +kernel
theorem d_M_cost_23 : decode b_M_cost 23 = .ok (.if_icmp .ne 23, 3) := by decide +kernel
theorem d_M_cost_26 : decode b_M_cost 26 = .ok (.iload_n 1, 1) := by decide +kernel
theorem d_M_cost_27 : decode b_M_cost 27 = .ok (.iconst 2, 1) := by decide +kernel
theorem d_M_cost_28 : decode b_M_cost 28 = .ok (.if_icmp .ne 22, 3) := by decide +kernel
theorem d_M_cost_31 : decode b_M_cost 31 = .ok (.aload_n 0, 1) := by decide +kernel
theorem d_M_cost_32 : decode b_M_cost 32 = .ok (.getfield 41, 3) := by decide +kernel
theorem d_M_cost_35 : decode b_M_cost 35 = .ok (.iload_n 3, 1) := by decide +kernel
theorem d_M_cost_36 : decode b_M_cost 36 = .ok (.iaload, 1) := by decide +kernel
theorem d_M_cost_37 : decode b_M_cost 37 = .ok (.aload_n 0, 1) := by decide +kernel
theorem d_M_cost_38 : decode b_M_cost 38 = .ok (.getfield 50, 3) := by decide +kernel
theorem d_M_cost_41 : decode b_M_cost 41 = .ok (.iload_n 3, 1) := by decide +kernel
theorem d_M_cost_42 : decode b_M_cost 42 = .ok (.iaload, 1) := by decide +kernel
theorem d_M_cost_43 : decode b_M_cost 43 = .ok (.if_icmp .eq 7, 3) := by decide +kernel
theorem d_M_cost_46 : decode b_M_cost 46 = .ok (.iconst 1, 1) := by decide +kernel
theorem d_M_cost_47 : decode b_M_cost 47 = .ok (.goto 4, 3) := by decide +kernel
theorem d_M_cost_50 : decode b_M_cost 50 = .ok (.iconst 0, 1) := by decide +kernel
theorem d_M_cost_51 : decode b_M_cost 51 = .ok (.iadd, 1) := by decide +kernel
theorem d_M_cost_52 : decode b_M_cost 52 = .ok (.istore_n 2, 1) := by decide +kernel
theorem d_M_cost_53 : decode b_M_cost 53 = .ok (.iinc 3 1, 3) := by decide +kernel
theorem d_M_cost_56 : decode b_M_cost 56 = .ok (.goto (-52), 3) := by decide +kernel
theorem d_M_cost_59 : decode b_M_cost 59 = .ok (.iload_n 2, 1) := by decide +kernel
theorem d_M_cost_60 : decode b_M_cost 60 = .ok (.ireturn, 1) := by decide +kernel
theorem d_M_sizeOf_0 : decode b_M_sizeOf 0 = .ok (.iconst 0, 1) := by decide +kernel
theorem d_M_sizeOf_1 : decode b_M_sizeOf 1 = .ok (.istore_n 1, 1) := by decide +kernel
theorem d_M_sizeOf_2 : decode b_M_sizeOf 2 = .ok (.iconst 0, 1) := by decide +kernel
theorem d_M_sizeOf_3 : decode b_M_sizeOf 3 = .ok (.istore_n 2, 1) := by decide +kernel
theorem d_M_sizeOf_4 : decode b_M_sizeOf 4 = .ok (.iload_n 2, 1) := by decide +kernel
theorem d_M_sizeOf_5 : decode b_M_sizeOf 5 = .ok (.bipush 6, 2) := by decide +kernel
theorem d_M_sizeOf_7 : decode b_M_sizeOf 7 = .ok (.if_icmp .ge 17, 3) := by decide +kernel
theorem d_M_sizeOf_10 : decode b_M_sizeOf 10 = .ok (.iload_n 1, 1) := by decide +kernel
theorem d_M_sizeOf_11 : decode b_M_sizeOf 11 = .ok (.iload_n 0, 1) := by decide +kernel
theorem d_M_sizeOf_12 : decode b_M_sizeOf 12 = .ok (.iload_n 2, 1) := by decide +kernel
theorem d_M_sizeOf_13 : decode b_M_sizeOf 13 = .ok (.ishr, 1) := by decide +kernel
theorem d_M_sizeOf_14 : decode b_M_sizeOf 14 = .ok (.iconst 1, 1) := by decide +kernel
theorem d_M_sizeOf_15 : decode b_M_sizeOf 15 = .ok (.iand, 1) := by decide +kernel
theorem d_M_sizeOf_16 : decode b_M_sizeOf 16 = .ok (.iadd, 1) := by decide +kernel
theorem d_M_sizeOf_17 : decode b_M_sizeOf 17 = .ok (.istore_n 1, 1) := by decide +kernel
theorem d_M_sizeOf_18 : decode b_M_sizeOf 18 = .ok (.iinc 2 1, 3) := by decide +kernel
theorem d_M_sizeOf_21 : decode b_M_sizeOf 21 = .ok (.goto (-17), 3) := by decide +kernel
theorem d_M_sizeOf_24 : decode b_M_sizeOf 24 = .ok (.iload_n 1, 1) := by decide +kernel
theorem d_M_sizeOf_25 : decode b_M_sizeOf 25 = .ok (.ireturn, 1) := by decide +kernel
theorem d_M_isAhead_0 : decode b_M_isAhead 0 = .ok (.iconst 0, 1) := by decide +kernel
theorem d_M_isAhead_1 : decode b_M_isAhead 1 = .ok (.istore_n 2, 1) := by decide +kernel
theorem d_M_isAhead_2 : decode b_M_isAhead 2 = .ok (.iload_n 0, 1) := by decide +kernel
theorem d_M_isAhead_3 : decode b_M_isAhead 3 = .ok (.iload_n 2, 1) := by decide +kernel
theorem d_M_isAhead_4 : decode b_M_isAhead 4 = .ok (.ishr, 1) := by decide +kernel
theorem d_M_isAhead_5 : decode b_M_isAhead 5 = .ok (.iconst 1, 1) := by decide +kernel
theorem d_M_isAhead_6 : decode b_M_isAhead 6 = .ok (.iand, 1) := by decide +kernel
theorem d_M_isAhead_7 : decode b_M_isAhead 7 = .ok (.iload_n 1, 1) := by decide +kernel
theorem d_M_isAhead_8 : decode b_M_isAhead 8 = .ok (.iload_n 2, 1) := by decide +kernel
theorem d_M_isAhead_9 : decode b_M_isAhead 9 = .ok (.ishr, 1) := by decide +kernel
theorem d_M_isAhead_10 : decode b_M_isAhead 10 = .ok (.iconst 1, 1) := by decide +kernel
theorem d_M_isAhead_11 : decode b_M_isAhead 11 = .ok (.iand, 1) := by decide +kernel
theorem d_M_isAhead_12 : decode b_M_isAhead 12 = .ok (.if_icmp .ne 9, 3) := by decide +kernel
theorem d_M_isAhead_15 : decode b_M_isAhead 15 = .ok (.iinc 2 1, 3) := by decide +kernel
theorem d_M_isAhead_18 : decode b_M_isAhead 18 = .ok (.goto (-16), 3) := by decide +kernel
theorem d_M_isAhead_21 : decode b_M_isAhead 21 = .ok (.iload_n 0, 1) := by decide +kernel
theorem d_M_isAhead_22 : decode b_M_isAhead 22 = .ok (.iload_n 2, 1) := by decide +kernel
theorem d_M_isAhead_23 : decode b_M_isAhead 23 = .ok (.ishr, 1) := by decide +kernel
theorem d_M_isAhead_24 : decode b_M_isAhead 24 = .ok (.iconst 1, 1) := by decide +kernel
theorem d_M_isAhead_25 : decode b_M_isAhead 25 = .ok (.iand, 1) := by decide +kernel
theorem d_M_isAhead_26 : decode b_M_isAhead 26 = .ok (.iconst 1, 1) := by decide +kernel
theorem d_M_isAhead_27 : decode b_M_isAhead 27 = .ok (.if_icmp .ne 7, 3) := by decide +kernel
theorem d_M_isAhead_30 : decode b_M_isAhead 30 = .ok (.iconst 1, 1) := by decide +kernel
theorem d_M_isAhead_31 : decode b_M_isAhead 31 = .ok (.goto 4, 3) := by decide +kernel
theorem d_M_isAhead_34 : decode b_M_isAhead 34 = .ok (.iconst 0, 1) := by decide +kernel
theorem d_M_isAhead_35 : decode b_M_isAhead 35 = .ok (.ireturn, 1) := by decide +kernel
theorem d_M_findCore_0 : decode b_M_findCore 0 = .ok (.aload_n 0, 1) := by decide +kernel
theorem d_M_findCore_1 : decode b_M_findCore 1 = .ok (.aload_n 0, 1) := by decide +kernel
theorem d_M_findCore_2 : decode b_M_findCore 2 = .ok (.invokevirtual 97, 3) := by decide +kernel
theorem d_M_findCore_5 : decode b_M_findCore 5 = .ok (.putfield 101, 3) := by decide +kernel
theorem d_M_findCore_8 : decode b_M_findCore 8 = .ok (.iconst 1, 1) := by decide +kernel
theorem d_M_findCore_9 : decode b_M_findCore 9 = .ok (.istore_n 1, 1) := by decide +kernel
theorem d_M_findCore_10 : decode b_M_findCore 10 = .ok (.iload_n 1, 1) := by decide +kernel
theorem d_M_findCore_11 : decode b_M_findCore 11 = .ok (.aload_n 0, 1) := by decide +kernel
theorem d_M_findCore_12 : decode b_M_findCore 12 = .ok (.invokevirtual 97, 3) := by decide +kernel
theorem d_M_findCore_15 : decode b_M_findCore 15 = .ok (.if_icmp .ge 67, 3) := by decide +kernel
theorem d_M_findCore_18 : decode b_M_findCore 18 = .ok (.iload_n 1, 1) := by decide +kernel
theorem d_M_findCore_19 : decode b_M_findCore 19 = .ok (.invokestatic 104, 3) := by decide +kernel
theorem d_M_findCore_22 : decode b_M_findCore 22 = .ok (.istore_n 2, 1) := by decide +kernel
theorem d_M_findCore_23 : decode b_M_findCore 23 = .ok (.iload_n 2, 1) := by decide +kernel
theorem d_M_findCore_24 : decode b_M_findCore 24 = .ok (.aload_n 0, 1) := by decide +kernel
theorem d_M_findCore_25 : decode b_M_findCore 25 = .ok (.getfield 101, 3) := by decide +kernel
theorem d_M_findCore_28 : decode b_M_findCore 28 = .ok (.invokestatic 104, 3) := by decide +kernel
theorem d_M_findCore_31 : decode b_M_findCore 31 = .ok (.if_icmp .gt 45, 3) := by decide +kernel
theorem d_M_findCore_34 : decode b_M_findCore 34 = .ok (.iload_n 2, 1) := by decide +kernel
theorem d_M_findCore_35 : decode b_M_findCore 35 = .ok (.aload_n 0, 1) := by decide +kernel
theorem d_M_findCore_36 : decode b_M_findCore 36 = .ok (.getfield 101, 3) := by decide +kernel
theorem d_M_findCore_39 : decode b_M_findCore 39 = .ok (.invokestatic 104, 3) := by decide +kernel
theorem d_M_findCore_42 : decode b_M_findCore 42 = .ok (.if_icmp .ne 17, 3) := by decide +kernel
theorem d_M_findCore_45 : decode b_M_findCore 45 = .ok (.iload_n 1, 1) := by decide +kernel
theorem d_M_findCore_46 : decode b_M_findCore 46 = .ok (.aload_n 0, 1) := by decide +kernel
theorem d_M_findCore_47 : decode b_M_findCore 47 = .ok (.getfield 101, 3) := by decide +kernel
theorem d_M_findCore_50 : decode b_M_findCore 50 = .ok (.invokestatic 108, 3) := by decide +kernel
theorem d_M_findCore_53 : decode b_M_findCore 53 = .ok (.ifCond .ne 6, 3) := by decide +kernel
theorem d_M_findCore_56 : decode b_M_findCore 56 = .ok (.goto 20, 3) := by decide +kernel
theorem d_M_findCore_59 : decode b_M_findCore 59 = .ok (.aload_n 0, 1) := by decide +kernel
theorem d_M_findCore_60 : decode b_M_findCore 60 = .ok (.iload_n 1, 1) := by decide +kernel
theorem d_M_findCore_61 : decode b_M_findCore 61 = .ok (.invokevirtual 111, 3) := by decide +kernel
theorem d_M_findCore_64 : decode b_M_findCore 64 = .ok (.aload_n 0, 1) := by decide +kernel
theorem d_M_findCore_65 : decode b_M_findCore 65 = .ok (.invokevirtual 115, 3) := by decide +kernel
theorem d_M_findCore_68 : decode b_M_findCore 68 = .ok (.ifCond .ne 8, 3) := by decide +kernel
theorem d_M_findCore_71 : decode b_M_findCore 71 = .ok (.aload_n 0, 1) := by decide +kernel
theorem d_M_findCore_72 : decode b_M_findCore 72 = .ok (.iload_n 1, 1) := by decide +kernel
theorem d_M_findCore_73 : decode b_M_findCore 73 = .ok (.putfield 101, 3) := by decide +kernel
theorem d_M_findCore_76 : decode b_M_findCore 76 = .ok (.iinc 1 1, 3) := by decide +kernel
theorem d_M_findCore_79 : decode b_M_findCore 79 = .ok (.goto (-69), 3) := by decide +kernel
theorem d_M_findCore_82 : decode b_M_findCore 82 = .ok (.return_, 1) := by decide +kernel
theorem d_M_solve_0 : decode b_M_solve 0 = .ok (.iload_n 1, 1) := by decide +kernel
theorem d_M_solve_1 : decode b_M_solve 1 = .ok (.ifCond .lt 8, 3) := by decide +kernel
theorem d_M_solve_4 : decode b_M_solve 4 = .ok (.iload_n 1, 1) := by decide +kernel
theorem d_M_solve_5 : decode b_M_solve 5 = .ok (.iconst 2, 1) := by decide +kernel
theorem d_M_solve_6 : decode b_M_solve 6 = .ok (.if_icmp .le 9, 3) := by decide +kernel
theorem d_M_solve_9 : decode b_M_solve 9 = .ok (.aload_n 0, 1) := by decide +kernel
theorem d_M_solve_10 : decode b_M_solve 10 = .ok (.iconst 1, 1) := by decide +kernel
theorem d_M_solve_11 : decode b_M_solve 11 = .ok (.invokevirtual 118, 3) := by decide +kernel
theorem d_M_solve_14 : decode b_M_solve 14 = .ok (.ireturn, 1) := by decide +kernel
theorem d_M_solve_15 : decode b_M_solve 15 = .ok (.bipush 100, 2) := by decide +kernel
theorem d_M_solve_17 : decode b_M_solve 17 = .ok (.istore_n 2, 1) := by decide +kernel
theorem d_M_solve_18 : decode b_M_solve 18 = .ok (.aload_n 0, 1) := by decide +kernel
theorem d_M_solve_19 : decode b_M_solve 19 = .ok (.aload_n 0, 1) := by decide +kernel
theorem d_M_solve_20 : decode b_M_solve 20 = .ok (.invokevirtual 97, 3) := by decide +kernel
theorem d_M_solve_23 : decode b_M_solve 23 = .ok (.invokevirtual 111, 3) := by decide +kernel
theorem d_M_solve_26 : decode b_M_solve 26 = .ok (.iload_n 2, 1) := by decide +kernel
theorem d_M_solve_27 : decode b_M_solve 27 = .ok (.ifCond .le 59, 3) := by decide +kernel
theorem d_M_solve_30 : decode b_M_solve 30 = .ok (.aload_n 0, 1) := by decide +kernel
theorem d_M_solve_31 : decode b_M_solve 31 = .ok (.invokevirtual 115, 3) := by decide +kernel
theorem d_M_solve_34 : decode b_M_solve 34 = .ok (.ifCond .eq 52, 3) := by decide +kernel
theorem d_M_solve_37 : decode b_M_solve 37 = .ok (.aload_n 0, 1) := by decide +kernel
theorem d_M_solve_38 : decode b_M_solve 38 = .ok (.iload_n 1, 1) := by decide +kernel
theorem d_M_solve_39 : decode b_M_solve 39 = .ok (.invokevirtual 121, 3) := by decide +kernel
theorem d_M_solve_42 : decode b_M_solve 42 = .ok (.istore_n 3, 1) := by decide +kernel
theorem d_M_solve_43 : decode b_M_solve 43 = .ok (.iload_n 3, 1) := by decide +kernel
theorem d_M_solve_44 : decode b_M_solve 44 = .ok (.iload_n 2, 1) := by decide +kernel
theorem d_M_solve_45 : decode b_M_solve 45 = .ok (.if_icmp .lt 6, 3) := by decide +kernel
theorem d_M_solve_48 : decode b_M_solve 48 = .ok (.goto (-22), 3) := by decide +kernel
theorem d_M_solve_51 : decode b_M_solve 51 = .ok (.iload_n 3, 1) := by decide +kernel
theorem d_M_solve_52 : decode b_M_solve 52 = .ok (.istore_n 2, 1) := by decide +kernel
theorem d_M_solve_53 : decode b_M_solve 53 = .ok (.iconst 0, 1) := by decide +kernel
theorem d_M_solve_54 : decode b_M_solve 54 = .ok (.istore 4, 2) := by decide +kernel
theorem d_M_solve_56 : decode b_M_solve 56 = .ok (.iload 4, 2) := by decide +kernel
theorem d_M_solve_58 : decode b_M_solve 58 = .ok (.bipush 7, 2) := by decide +kernel
theorem d_M_solve_60 : decode b_M_solve 60 = .ok (.if_icmp .ge 23, 3) := by decide +kernel
theorem d_M_solve_63 : decode b_M_solve 63 = .ok (.aload_n 0, 1) := by decide +kernel
theorem d_M_solve_64 : decode b_M_solve 64 = .ok (.getfield 53, 3) := by decide +kernel
theorem d_M_solve_67 : decode b_M_solve 67 = .ok (.iload 4, 2) := by decide +kernel
theorem d_M_solve_69 : decode b_M_solve 69 = .ok (.aload_n 0, 1) := by decide +kernel
theorem d_M_solve_70 : decode b_M_solve 70 = .ok (.getfield 41, 3) := by decide +kernel
theorem d_M_solve_73 : decode b_M_solve 73 = .ok (.iload 4, 2) := by decide +kernel
theorem d_M_solve_75 : decode b_M_solve 75 = .ok (.iaload, 1) := by decide +kernel
theorem d_M_solve_76 : decode b_M_solve 76 = .ok (.iastore, 1) := by decide +kernel
theorem d_M_solve_77 : decode b_M_solve 77 = .ok (.iinc 4 1, 3) := by decide +kernel
theorem d_M_solve_80 : decode b_M_solve 80 = .ok (.goto (-24), 3) := by decide +kernel
theorem d_M_solve_83 : decode b_M_solve 83 = .ok (.goto (-57), 3) := by decide +kernel
theorem d_M_solve_86 : decode b_M_solve 86 = .ok (.iload_n 2, 1) := by decide +kernel
theorem d_M_solve_87 : decode b_M_solve 87 = .ok (.bipush 100, 2) := by decide +kernel
theorem d_M_solve_89 : decode b_M_solve 89 = .ok (.if_icmp .ne 13, 3) := by decide +kernel
theorem d_M_solve_92 : decode b_M_solve 92 = .ok (.aload_n 0, 1) := by decide +kernel
theorem d_M_solve_93 : decode b_M_solve 93 = .ok (.invokevirtual 124, 3) := by decide +kernel
theorem d_M_solve_96 : decode b_M_solve 96 = .ok (.aload_n 0, 1) := by decide +kernel
theorem d_M_solve_97 : decode b_M_solve 97 = .ok (.iconst 2, 1) := by decide +kernel
theorem d_M_solve_98 : decode b_M_solve 98 = .ok (.invokevirtual 118, 3) := by decide +kernel
theorem d_M_solve_101 : decode b_M_solve 101 = .ok (.ireturn, 1) := by decide +kernel
theorem d_M_solve_102 : decode b_M_solve 102 = .ok (.aload_n 0, 1) := by decide +kernel
theorem d_M_solve_103 : decode b_M_solve 103 = .ok (.iconst 0, 1) := by decide +kernel
theorem d_M_solve_104 : decode b_M_solve 104 = .ok (.putfield 56, 3) := by decide +kernel
theorem d_M_solve_107 : decode b_M_solve 107 = .ok (.iconst 0, 1) := by decide +kernel
theorem d_M_solve_108 : decode b_M_solve 108 = .ok (.istore_n 3, 1) := by decide +kernel
theorem d_M_solve_109 : decode b_M_solve 109 = .ok (.iconst 0, 1) := by decide +kernel
theorem d_M_solve_110 : decode b_M_solve 110 = .ok (.istore 4, 2) := by decide +kernel
theorem d_M_solve_112 : decode b_M_solve 112 = .ok (.iload 4, 2) := by decide +kernel
theorem d_M_solve_114 : decode b_M_solve 114 = .ok (.bipush 7, 2) := by decide +kernel
theorem d_M_solve_116 : decode b_M_solve 116 = .ok (.if_icmp .ge 42, 3) := by decide +kernel
theorem d_M_solve_119 : decode b_M_solve 119 = .ok (.aload_n 0, 1) := by decide +kernel
theorem d_M_solve_120 : decode b_M_solve 120 = .ok (.getfield 47, 3) := by decide +kernel
theorem d_M_solve_123 : decode b_M_solve 123 = .ok (.iload 4, 2) := by decide +kernel
theorem d_M_solve_125 : decode b_M_solve 125 = .ok (.aload_n 0, 1) := by decide +kernel
theorem d_M_solve_126 : decode b_M_solve 126 = .ok (.getfield 53, 3) := by decide +kernel
theorem d_M_solve_129 : decode b_M_solve 129 = .ok (.iload 4, 2) := by decide +kernel
theorem d_M_solve_131 : decode b_M_solve 131 = .ok (.iaload, 1) := by decide +kernel
theorem d_M_solve_132 : decode b_M_solve 132 = .ok (.iastore, 1) := by decide +kernel
theorem d_M_solve_133 : decode b_M_solve 133 = .ok (.iload_n 3, 1) := by decide +kernel
theorem d_M_solve_134 : decode b_M_solve 134 = .ok (.aload_n 0, 1) := by decide +kernel
theorem d_M_solve_135 : decode b_M_solve 135 = .ok (.getfield 53, 3) := by decide +kernel
theorem d_M_solve_138 : decode b_M_solve 138 = .ok (.iload 4, 2) := by decide +kernel
theorem d_M_solve_140 : decode b_M_solve 140 = .ok (.iaload, 1) := by decide +kernel
theorem d_M_solve_141 : decode b_M_solve 141 = .ok (.iconst (-1), 1) := by decide +kernel
theorem d_M_solve_142 : decode b_M_solve 142 = .ok (.if_icmp .eq 7, 3) := by decide +kernel
theorem d_M_solve_145 : decode b_M_solve 145 = .ok (.iconst 1, 1) := by decide +kernel
theorem d_M_solve_146 : decode b_M_solve 146 = .ok (.goto 4, 3) := by decide +kernel
theorem d_M_solve_149 : decode b_M_solve 149 = .ok (.iconst 0, 1) := by decide +kernel
theorem d_M_solve_150 : decode b_M_solve 150 = .ok (.iadd, 1) := by decide +kernel
theorem d_M_solve_151 : decode b_M_solve 151 = .ok (.istore_n 3, 1) := by decide +kernel
theorem d_M_solve_152 : decode b_M_solve 152 = .ok (.iinc 4 1, 3) := by decide +kernel
theorem d_M_solve_155 : decode b_M_solve 155 = .ok (.goto (-43), 3) := by decide +kernel
theorem d_M_solve_158 : decode b_M_solve 158 = .ok (.iload_n 3, 1) := by decide +kernel
theorem d_M_solve_159 : decode b_M_solve 159 = .ok (.ireturn, 1) := by decide +kernel
theorem d_M_differ_0 : decode b_M_differ 0 = .ok (.iconst 0, 1) := by decide +kernel
theorem d_M_differ_1 : decode b_M_differ 1 = .ok (.istore_n 1, 1) := by decide +kernel
theorem d_M_differ_2 : decode b_M_differ 2 = .ok (.iconst 0, 1) := by decide +kernel
theorem d_M_differ_3 : decode b_M_differ 3 = .ok (.istore_n 2, 1) := by decide +kernel
theorem d_M_differ_4 : decode b_M_differ 4 = .ok (.iload_n 2, 1) := by decide +kernel
theorem d_M_differ_5 : decode b_M_differ 5 = .ok (.bipush 7, 2) := by decide +kernel
theorem d_M_differ_7 : decode b_M_differ 7 = .ok (.if_icmp .ge 32, 3) := by decide +kernel
theorem d_M_differ_10 : decode b_M_differ 10 = .ok (.iload_n 1, 1) := by decide +kernel
theorem d_M_differ_11 : decode b_M_differ 11 = .ok (.aload_n 0, 1) := by decide +kernel
theorem d_M_differ_12 : decode b_M_differ 12 = .ok (.getfield 47, 3) := by decide +kernel
theorem d_M_differ_15 : decode b_M_differ 15 = .ok (.iload_n 2, 1) := by decide +kernel
theorem d_M_differ_16 : decode b_M_differ 16 = .ok (.iaload, 1) := by decide +kernel
theorem d_M_differ_17 : decode b_M_differ 17 = .ok (.aload_n 0, 1) := by decide +kernel
theorem d_M_differ_18 : decode b_M_differ 18 = .ok (.getfield 50, 3) := by decide +kernel
theorem d_M_differ_21 : decode b_M_differ 21 = .ok (.iload_n 2, 1) := by decide +kernel
theorem d_M_differ_22 : decode b_M_differ 22 = .ok (.iaload, 1) := by decide +kernel
theorem d_M_differ_23 : decode b_M_differ 23 = .ok (.if_icmp .eq 7, 3) := by decide +kernel
theorem d_M_differ_26 : decode b_M_differ 26 = .ok (.iconst 1, 1) := by decide +kernel
theorem d_M_differ_27 : decode b_M_differ 27 = .ok (.goto 4, 3) := by decide +kernel
theorem d_M_differ_30 : decode b_M_differ 30 = .ok (.iconst 0, 1) := by decide +kernel
theorem d_M_differ_31 : decode b_M_differ 31 = .ok (.iadd, 1) := by decide +kernel
theorem d_M_differ_32 : decode b_M_differ 32 = .ok (.istore_n 1, 1) := by decide +kernel
theorem d_M_differ_33 : decode b_M_differ 33 = .ok (.iinc 2 1, 3) := by decide +kernel
theorem d_M_differ_36 : decode b_M_differ 36 = .ok (.goto (-32), 3) := by decide +kernel
theorem d_M_differ_39 : decode b_M_differ 39 = .ok (.iload_n 1, 1) := by decide +kernel
theorem d_M_differ_40 : decode b_M_differ 40 = .ok (.ireturn, 1) := by decide +kernel
theorem d_M_keep_0 : decode b_M_keep 0 = .ok (.aload_n 0, 1) := by decide +kernel
theorem d_M_keep_1 : decode b_M_keep 1 = .ok (.iconst 0, 1) := by decide +kernel
theorem d_M_keep_2 : decode b_M_keep 2 = .ok (.putfield 56, 3) := by decide +kernel
theorem d_M_keep_5 : decode b_M_keep 5 = .ok (.aload_n 0, 1) := by decide +kernel
theorem d_M_keep_6 : decode b_M_keep 6 = .ok (.invokevirtual 127, 3) := by decide +kernel
theorem d_M_keep_9 : decode b_M_keep 9 = .ok (.istore_n 1, 1) := by decide +kernel
theorem d_M_keep_10 : decode b_M_keep 10 = .ok (.iconst 0, 1) := by decide +kernel
theorem d_M_keep_11 : decode b_M_keep 11 = .ok (.istore_n 2, 1) := by decide +kernel
theorem d_M_keep_12 : decode b_M_keep 12 = .ok (.iload_n 2, 1) := by decide +kernel
theorem d_M_keep_13 : decode b_M_keep 13 = .ok (.bipush 7, 2) := by decide +kernel
theorem d_M_keep_15 : decode b_M_keep 15 = .ok (.if_icmp .ge 21, 3) := by decide +kernel
theorem d_M_keep_18 : decode b_M_keep 18 = .ok (.aload_n 0, 1) := by decide +kernel
theorem d_M_keep_19 : decode b_M_keep 19 = .ok (.getfield 50, 3) := by decide +kernel
theorem d_M_keep_22 : decode b_M_keep 22 = .ok (.iload_n 2, 1) := by decide +kernel
theorem d_M_keep_23 : decode b_M_keep 23 = .ok (.aload_n 0, 1) := by decide +kernel
theorem d_M_keep_24 : decode b_M_keep 24 = .ok (.getfield 47, 3) := by decide +kernel
theorem d_M_keep_27 : decode b_M_keep 27 = .ok (.iload_n 2, 1) := by decide +kernel
theorem d_M_keep_28 : decode b_M_keep 28 = .ok (.iaload, 1) := by decide +kernel
theorem d_M_keep_29 : decode b_M_keep 29 = .ok (.iastore, 1) := by decide +kernel
theorem d_M_keep_30 : decode b_M_keep 30 = .ok (.iinc 2 1, 3) := by decide +kernel
theorem d_M_keep_33 : decode b_M_keep 33 = .ok (.goto (-21), 3) := by decide +kernel
theorem d_M_keep_36 : decode b_M_keep 36 = .ok (.iload_n 1, 1) := by decide +kernel
theorem d_M_keep_37 : decode b_M_keep 37 = .ok (.ireturn, 1) := by decide +kernel
theorem d_M_chosen_0 : decode b_M_chosen 0 = .ok (.aload_n 0, 1) := by decide +kernel
theorem d_M_chosen_1 : decode b_M_chosen 1 = .ok (.iconst 0, 1) := by decide +kernel
theorem d_M_chosen_2 : decode b_M_chosen 2 = .ok (.putfield 56, 3) := by decide +kernel
theorem d_M_chosen_5 : decode b_M_chosen 5 = .ok (.iload_n 1, 1) := by decide +kernel
theorem d_M_chosen_6 : decode b_M_chosen 6 = .ok (.invokestatic 60, 3) := by decide +kernel
theorem d_M_chosen_9 : decode b_M_chosen 9 = .ok (.ifCond .eq 12, 3) := by decide +kernel
theorem d_M_chosen_12 : decode b_M_chosen 12 = .ok (.aload_n 0, 1) := by decide +kernel
theorem d_M_chosen_13 : decode b_M_chosen 13 = .ok (.getfield 47, 3) := by decide +kernel
theorem d_M_chosen_16 : decode b_M_chosen 16 = .ok (.iload_n 1, 1) := by decide +kernel
theorem d_M_chosen_17 : decode b_M_chosen 17 = .ok (.iaload, 1) := by decide +kernel
theorem d_M_chosen_18 : decode b_M_chosen 18 = .ok (.goto 4, 3) := by decide +kernel
theorem d_M_chosen_21 : decode b_M_chosen 21 = .ok (.iconst (-1), 1) := by decide +kernel
theorem d_M_chosen_22 : decode b_M_chosen 22 = .ok (.ireturn, 1) := by decide +kernel
theorem d_M_many_0 : decode b_M_many 0 = .ok (.aload_n 0, 1) := by decide +kernel
theorem d_M_many_1 : decode b_M_many 1 = .ok (.iconst 0, 1) := by decide +kernel
theorem d_M_many_2 : decode b_M_many 2 = .ok (.putfield 56, 3) := by decide +kernel
theorem d_M_many_5 : decode b_M_many 5 = .ok (.iconst 0, 1) := by decide +kernel
theorem d_M_many_6 : decode b_M_many 6 = .ok (.istore_n 1, 1) := by decide +kernel
theorem d_M_many_7 : decode b_M_many 7 = .ok (.aload_n 0, 1) := by decide +kernel
theorem d_M_many_8 : decode b_M_many 8 = .ok (.aload_n 0, 1) := by decide +kernel
theorem d_M_many_9 : decode b_M_many 9 = .ok (.invokevirtual 97, 3) := by decide +kernel
theorem d_M_many_12 : decode b_M_many 12 = .ok (.invokevirtual 111, 3) := by decide +kernel
theorem d_M_many_15 : decode b_M_many 15 = .ok (.aload_n 0, 1) := by decide +kernel
theorem d_M_many_16 : decode b_M_many 16 = .ok (.invokevirtual 115, 3) := by decide +kernel
theorem d_M_many_19 : decode b_M_many 19 = .ok (.ifCond .eq 9, 3) := by decide +kernel
theorem d_M_many_22 : decode b_M_many 22 = .ok (.iinc 1 1, 3) := by decide +kernel
theorem d_M_many_25 : decode b_M_many 25 = .ok (.goto (-10), 3) := by decide +kernel
theorem d_M_many_28 : decode b_M_many 28 = .ok (.iload_n 1, 1) := by decide +kernel
theorem d_M_many_29 : decode b_M_many 29 = .ok (.ireturn, 1) := by decide +kernel
theorem d_M_can_0 : decode b_M_can 0 = .ok (.aload_n 0, 1) := by decide +kernel
theorem d_M_can_1 : decode b_M_can 1 = .ok (.iconst 0, 1) := by decide +kernel
theorem d_M_can_2 : decode b_M_can 2 = .ok (.putfield 56, 3) := by decide +kernel
theorem d_M_can_5 : decode b_M_can 5 = .ok (.iload_n 1, 1) := by decide +kernel
theorem d_M_can_6 : decode b_M_can 6 = .ok (.invokestatic 60, 3) := by decide +kernel
theorem d_M_can_9 : decode b_M_can 9 = .ok (.ifCond .ne 5, 3) := by decide +kernel
theorem d_M_can_12 : decode b_M_can 12 = .ok (.iconst (-1), 1) := by decide +kernel
theorem d_M_can_13 : decode b_M_can 13 = .ok (.ireturn, 1) := by decide +kernel
theorem d_M_can_14 : decode b_M_can 14 = .ok (.iconst 0, 1) := by decide +kernel
theorem d_M_can_15 : decode b_M_can 15 = .ok (.istore_n 2, 1) := by decide +kernel
theorem d_M_can_16 : decode b_M_can 16 = .ok (.aload_n 0, 1) := by decide +kernel
theorem d_M_can_17 : decode b_M_can 17 = .ok (.aload_n 0, 1) := by decide +kernel
theorem d_M_can_18 : decode b_M_can 18 = .ok (.invokevirtual 97, 3) := by decide +kernel
theorem d_M_can_21 : decode b_M_can 21 = .ok (.invokevirtual 111, 3) := by decide +kernel
theorem d_M_can_24 : decode b_M_can 24 = .ok (.aload_n 0, 1) := by decide +kernel
theorem d_M_can_25 : decode b_M_can 25 = .ok (.invokevirtual 115, 3) := by decide +kernel
theorem d_M_can_28 : decode b_M_can 28 = .ok (.ifCond .eq 31, 3) := by decide +kernel
theorem d_M_can_31 : decode b_M_can 31 = .ok (.iload_n 2, 1) := by decide +kernel
theorem d_M_can_32 : decode b_M_can 32 = .ok (.iconst 1, 1) := by decide +kernel
theorem d_M_can_33 : decode b_M_can 33 = .ok (.aload_n 0, 1) := by decide +kernel
theorem d_M_can_34 : decode b_M_can 34 = .ok (.getfield 41, 3) := by decide +kernel
theorem d_M_can_37 : decode b_M_can 37 = .ok (.iload_n 1, 1) := by decide +kernel
theorem d_M_can_38 : decode b_M_can 38 = .ok (.iaload, 1) := by decide +kernel
theorem d_M_can_39 : decode b_M_can 39 = .ok (.iconst (-1), 1) := by decide +kernel
theorem d_M_can_40 : decode b_M_can 40 = .ok (.if_icmp .ne 7, 3) := by decide +kernel
theorem d_M_can_43 : decode b_M_can 43 = .ok (.iconst 4, 1) := by decide +kernel
theorem d_M_can_44 : decode b_M_can 44 = .ok (.goto 9, 3) := by decide +kernel
theorem d_M_can_47 : decode b_M_can 47 = .ok (.aload_n 0, 1) := by decide +kernel
theorem d_M_can_48 : decode b_M_can 48 = .ok (.getfield 41, 3) := by decide +kernel
theorem d_M_can_51 : decode b_M_can 51 = .ok (.iload_n 1, 1) := by decide +kernel
theorem d_M_can_52 : decode b_M_can 52 = .ok (.iaload, 1) := by decide +kernel
theorem d_M_can_53 : decode b_M_can 53 = .ok (.ishl, 1) := by decide +kernel
theorem d_M_can_54 : decode b_M_can 54 = .ok (.ior, 1) := by decide +kernel
theorem d_M_can_55 : decode b_M_can 55 = .ok (.istore_n 2, 1) := by decide +kernel
theorem d_M_can_56 : decode b_M_can 56 = .ok (.goto (-32), 3) := by decide +kernel
theorem d_M_can_59 : decode b_M_can 59 = .ok (.iload_n 2, 1) := by decide +kernel
theorem d_M_can_60 : decode b_M_can 60 = .ok (.ireturn, 1) := by decide +kernel
theorem d_M_core_0 : decode b_M_core 0 = .ok (.iconst 0, 1) := by decide +kernel
theorem d_M_core_1 : decode b_M_core 1 = .ok (.istore_n 2, 1) := by decide +kernel
theorem d_M_core_2 : decode b_M_core 2 = .ok (.iload_n 1, 1) := by decide +kernel
theorem d_M_core_3 : decode b_M_core 3 = .ok (.istore_n 3, 1) := by decide +kernel
theorem d_M_core_4 : decode b_M_core 4 = .ok (.iload_n 2, 1) := by decide +kernel
theorem d_M_core_5 : decode b_M_core 5 = .ok (.bipush 6, 2) := by decide +kernel
theorem d_M_core_7 : decode b_M_core 7 = .ok (.if_icmp .ge 35, 3) := by decide +kernel
theorem d_M_core_10 : decode b_M_core 10 = .ok (.iload_n 3, 1) := by decide +kernel
theorem d_M_core_11 : decode b_M_core 11 = .ok (.ifCond .gt 14, 3) := by decide +kernel
theorem d_M_core_14 : decode b_M_core 14 = .ok (.aload_n 0, 1) := by decide +kernel
theorem d_M_core_15 : decode b_M_core 15 = .ok (.getfield 101, 3) := by decide +kernel
theorem d_M_core_18 : decode b_M_core 18 = .ok (.iload_n 2, 1) := by decide +kernel
theorem d_M_core_19 : decode b_M_core 19 = .ok (.ishr, 1) := by decide +kernel
theorem d_M_core_20 : decode b_M_core 20 = .ok (.iconst 1, 1) := by decide +kernel
theorem d_M_core_21 : decode b_M_core 21 = .ok (.iand, 1) := by decide +kernel
theorem d_M_core_22 : decode b_M_core 22 = .ok (.ifCond .ne 20, 3) := by decide +kernel
theorem d_M_core_25 : decode b_M_core 25 = .ok (.iload_n 3, 1) := by decide +kernel
theorem d_M_core_26 : decode b_M_core 26 = .ok (.aload_n 0, 1) := by decide +kernel
theorem d_M_core_27 : decode b_M_core 27 = .ok (.getfield 101, 3) := by decide +kernel
theorem d_M_core_30 : decode b_M_core 30 = .ok (.iload_n 2, 1) := by decide +kernel
theorem d_M_core_31 : decode b_M_core 31 = .ok (.ishr, 1) := by decide +kernel
theorem d_M_core_32 : decode b_M_core 32 = .ok (.iconst 1, 1) := by decide +kernel
theorem d_M_core_33 : decode b_M_core 33 = .ok (.iand, 1) := by decide +kernel
theorem d_M_core_34 : decode b_M_core 34 = .ok (.isub, 1) := by decide +kernel
theorem d_M_core_35 : decode b_M_core 35 = .ok (.istore_n 3, 1) := by decide +kernel
theorem d_M_core_36 : decode b_M_core 36 = .ok (.iinc 2 1, 3) := by decide +kernel
theorem d_M_core_39 : decode b_M_core 39 = .ok (.goto (-35), 3) := by decide +kernel
theorem d_M_core_42 : decode b_M_core 42 = .ok (.aload_n 0, 1) := by decide +kernel
theorem d_M_core_43 : decode b_M_core 43 = .ok (.iload_n 1, 1) := by decide +kernel
theorem d_M_core_44 : decode b_M_core 44 = .ok (.ifCond .lt 9, 3) := by decide +kernel
theorem d_M_core_47 : decode b_M_core 47 = .ok (.iload_n 2, 1) := by decide +kernel
theorem d_M_core_48 : decode b_M_core 48 = .ok (.bipush 6, 2) := by decide +kernel
theorem d_M_core_50 : decode b_M_core 50 = .ok (.if_icmp .ne 7, 3) := by decide +kernel
theorem d_M_core_53 : decode b_M_core 53 = .ok (.iconst 1, 1) := by decide +kernel
theorem d_M_core_54 : decode b_M_core 54 = .ok (.goto 4, 3) := by decide +kernel
theorem d_M_core_57 : decode b_M_core 57 = .ok (.iconst 0, 1) := by decide +kernel
theorem d_M_core_58 : decode b_M_core 58 = .ok (.putfield 56, 3) := by decide +kernel
theorem d_M_core_61 : decode b_M_core 61 = .ok (.aload_n 0, 1) := by decide +kernel
theorem d_M_core_62 : decode b_M_core 62 = .ok (.getfield 56, 3) := by decide +kernel
theorem d_M_core_65 : decode b_M_core 65 = .ok (.ifCond .le 7, 3) := by decide +kernel
theorem d_M_core_68 : decode b_M_core 68 = .ok (.iconst 0, 1) := by decide +kernel
theorem d_M_core_69 : decode b_M_core 69 = .ok (.goto 4, 3) := by decide +kernel
theorem d_M_core_72 : decode b_M_core 72 = .ok (.iload_n 2, 1) := by decide +kernel
theorem d_M_core_73 : decode b_M_core 73 = .ok (.ireturn, 1) := by decide +kernel
theorem d_M_count_0 : decode b_M_count 0 = .ok (.aload_n 0, 1) := by decide +kernel
theorem d_M_count_1 : decode b_M_count 1 = .ok (.iconst 0, 1) := by decide +kernel
theorem d_M_count_2 : decode b_M_count 2 = .ok (.putfield 56, 3) := by decide +kernel
theorem d_M_count_5 : decode b_M_count 5 = .ok (.iconst 0, 1) := by decide +kernel
theorem d_M_count_6 : decode b_M_count 6 = .ok (.istore_n 2, 1) := by decide +kernel
theorem d_M_count_7 : decode b_M_count 7 = .ok (.iload_n 1, 1) := by decide +kernel
theorem d_M_count_8 : decode b_M_count 8 = .ok (.tableswitch 185 0 6 #[44, 77, 102, 107, 112, 146, 180], 44) := by decide +kernel
theorem d_M_count_52 : decode b_M_count 52 = .ok (.iconst 0, 1) := by decide +kernel
theorem d_M_count_53 : decode b_M_count 53 = .ok (.istore_n 3, 1) := by decide +kernel
theorem d_M_count_54 : decode b_M_count 54 = .ok (.iload_n 3, 1) := by decide +kernel
theorem d_M_count_55 : decode b_M_count 55 = .ok (.bipush 28, 2) := by decide +kernel
theorem d_M_count_57 : decode b_M_count 57 = .ok (.if_icmp .ge 26, 3) := by decide +kernel
theorem d_M_count_60 : decode b_M_count 60 = .ok (.iload_n 2, 1) := by decide +kernel
theorem d_M_count_61 : decode b_M_count 61 = .ok (.aload_n 0, 1) := by decide +kernel
theorem d_M_count_62 : decode b_M_count 62 = .ok (.getfield 7, 3) := by decide +kernel
theorem d_M_count_65 : decode b_M_count 65 = .ok (.iload_n 3, 1) := by decide +kernel
theorem d_M_count_66 : decode b_M_count 66 = .ok (.baload, 1) := by decide +kernel
theorem d_M_count_67 : decode b_M_count 67 = .ok (.ifCond .eq 7, 3) := by decide +kernel
theorem d_M_count_70 : decode b_M_count 70 = .ok (.iconst 1, 1) := by decide +kernel
theorem d_M_count_71 : decode b_M_count 71 = .ok (.goto 4, 3) := by decide +kernel
theorem d_M_count_74 : decode b_M_count 74 = .ok (.iconst 0, 1) := by decide +kernel
theorem d_M_count_75 : decode b_M_count 75 = .ok (.iadd, 1) := by decide +kernel
theorem d_M_count_76 : decode b_M_count 76 = .ok (.istore_n 2, 1) := by decide +kernel
theorem d_M_count_77 : decode b_M_count 77 = .ok (.iinc 3 1, 3) := by decide +kernel
theorem d_M_count_80 : decode b_M_count 80 = .ok (.goto (-26), 3) := by decide +kernel
theorem d_M_count_83 : decode b_M_count 83 = .ok (.iload_n 2, 1) := by decide +kernel
theorem d_M_count_84 : decode b_M_count 84 = .ok (.ireturn, 1) := by decide +kernel
theorem d_M_count_85 : decode b_M_count 85 = .ok (.iconst 0, 1) := by decide +kernel
theorem d_M_count_86 : decode b_M_count 86 = .ok (.istore_n 3, 1) := by decide +kernel
theorem d_M_count_87 : decode b_M_count 87 = .ok (.iload_n 3, 1) := by decide +kernel
theorem d_M_count_88 : decode b_M_count 88 = .ok (.bipush 28, 2) := by decide +kernel
theorem d_M_count_90 : decode b_M_count 90 = .ok (.if_icmp .ge 18, 3) := by decide +kernel
theorem d_M_count_93 : decode b_M_count 93 = .ok (.iload_n 2, 1) := by decide +kernel
theorem d_M_count_94 : decode b_M_count 94 = .ok (.aload_n 0, 1) := by decide +kernel
theorem d_M_count_95 : decode b_M_count 95 = .ok (.getfield 13, 3) := by decide +kernel
theorem d_M_count_98 : decode b_M_count 98 = .ok (.iload_n 3, 1) := by decide +kernel
theorem d_M_count_99 : decode b_M_count 99 = .ok (.iaload, 1) := by decide +kernel
theorem d_M_count_100 : decode b_M_count 100 = .ok (.iadd, 1) := by decide +kernel
theorem d_M_count_101 : decode b_M_count 101 = .ok (.istore_n 2, 1) := by decide +kernel
theorem d_M_count_102 : decode b_M_count 102 = .ok (.iinc 3 1, 3) := by decide +kernel
theorem d_M_count_105 : decode b_M_count 105 = .ok (.goto (-18), 3) := by decide +kernel
theorem d_M_count_108 : decode b_M_count 108 = .ok (.iload_n 2, 1) := by decide +kernel
theorem d_M_count_109 : decode b_M_count 109 = .ok (.ireturn, 1) := by decide +kernel
theorem d_M_count_110 : decode b_M_count 110 = .ok (.aload_n 0, 1) := by decide +kernel
theorem d_M_count_111 : decode b_M_count 111 = .ok (.getfield 72, 3) := by decide +kernel
theorem d_M_count_114 : decode b_M_count 114 = .ok (.ireturn, 1) := by decide +kernel
theorem d_M_count_115 : decode b_M_count 115 = .ok (.aload_n 0, 1) := by decide +kernel
theorem d_M_count_116 : decode b_M_count 116 = .ok (.getfield 75, 3) := by decide +kernel
theorem d_M_count_119 : decode b_M_count 119 = .ok (.ireturn, 1) := by decide +kernel
theorem d_M_count_120 : decode b_M_count 120 = .ok (.iconst 0, 1) := by decide +kernel
theorem d_M_count_121 : decode b_M_count 121 = .ok (.istore_n 3, 1) := by decide +kernel
theorem d_M_count_122 : decode b_M_count 122 = .ok (.iload_n 3, 1) := by decide +kernel
theorem d_M_count_123 : decode b_M_count 123 = .ok (.bipush 7, 2) := by decide +kernel
theorem d_M_count_125 : decode b_M_count 125 = .ok (.if_icmp .ge 27, 3) := by decide +kernel
theorem d_M_count_128 : decode b_M_count 128 = .ok (.iload_n 2, 1) := by decide +kernel
theorem d_M_count_129 : decode b_M_count 129 = .ok (.aload_n 0, 1) := by decide +kernel
theorem d_M_count_130 : decode b_M_count 130 = .ok (.getfield 47, 3) := by decide +kernel
theorem d_M_count_133 : decode b_M_count 133 = .ok (.iload_n 3, 1) := by decide +kernel
theorem d_M_count_134 : decode b_M_count 134 = .ok (.iaload, 1) := by decide +kernel
theorem d_M_count_135 : decode b_M_count 135 = .ok (.iconst (-1), 1) := by decide +kernel
theorem d_M_count_136 : decode b_M_count 136 = .ok (.if_icmp .eq 7, 3) := by decide +kernel
theorem d_M_count_139 : decode b_M_count 139 = .ok (.iconst 1, 1) := by decide +kernel
theorem d_M_count_140 : decode b_M_count 140 = .ok (.goto 4, 3) := by decide +kernel
theorem d_M_count_143 : decode b_M_count 143 = .ok (.iconst 0, 1) := by decide +kernel
theorem d_M_count_144 : decode b_M_count 144 = .ok (.iadd, 1) := by decide +kernel
theorem d_M_count_145 : decode b_M_count 145 = .ok (.istore_n 2, 1) := by decide +kernel
theorem d_M_count_146 : decode b_M_count 146 = .ok (.iinc 3 1, 3) := by decide +kernel
theorem d_M_count_149 : decode b_M_count 149 = .ok (.goto (-27), 3) := by decide +kernel
theorem d_M_count_152 : decode b_M_count 152 = .ok (.iload_n 2, 1) := by decide +kernel
theorem d_M_count_153 : decode b_M_count 153 = .ok (.ireturn, 1) := by decide +kernel
theorem d_M_count_154 : decode b_M_count 154 = .ok (.iconst 0, 1) := by decide +kernel
theorem d_M_count_155 : decode b_M_count 155 = .ok (.istore_n 3, 1) := by decide +kernel
theorem d_M_count_156 : decode b_M_count 156 = .ok (.iload_n 3, 1) := by decide +kernel
theorem d_M_count_157 : decode b_M_count 157 = .ok (.bipush 7, 2) := by decide +kernel
theorem d_M_count_159 : decode b_M_count 159 = .ok (.if_icmp .ge 27, 3) := by decide +kernel
theorem d_M_count_162 : decode b_M_count 162 = .ok (.iload_n 2, 1) := by decide +kernel
theorem d_M_count_163 : decode b_M_count 163 = .ok (.aload_n 0, 1) := by decide +kernel
theorem d_M_count_164 : decode b_M_count 164 = .ok (.getfield 50, 3) := by decide +kernel
theorem d_M_count_167 : decode b_M_count 167 = .ok (.iload_n 3, 1) := by decide +kernel
theorem d_M_count_168 : decode b_M_count 168 = .ok (.iaload, 1) := by decide +kernel
theorem d_M_count_169 : decode b_M_count 169 = .ok (.iconst (-1), 1) := by decide +kernel
theorem d_M_count_170 : decode b_M_count 170 = .ok (.if_icmp .eq 7, 3) := by decide +kernel
theorem d_M_count_173 : decode b_M_count 173 = .ok (.iconst 1, 1) := by decide +kernel
theorem d_M_count_174 : decode b_M_count 174 = .ok (.goto 4, 3) := by decide +kernel
theorem d_M_count_177 : decode b_M_count 177 = .ok (.iconst 0, 1) := by decide +kernel
theorem d_M_count_178 : decode b_M_count 178 = .ok (.iadd, 1) := by decide +kernel
theorem d_M_count_179 : decode b_M_count 179 = .ok (.istore_n 2, 1) := by decide +kernel
theorem d_M_count_180 : decode b_M_count 180 = .ok (.iinc 3 1, 3) := by decide +kernel
theorem d_M_count_183 : decode b_M_count 183 = .ok (.goto (-27), 3) := by decide +kernel
theorem d_M_count_186 : decode b_M_count 186 = .ok (.iload_n 2, 1) := by decide +kernel
theorem d_M_count_187 : decode b_M_count 187 = .ok (.ireturn, 1) := by decide +kernel
theorem d_M_count_188 : decode b_M_count 188 = .ok (.aload_n 0, 1) := by decide +kernel
theorem d_M_count_189 : decode b_M_count 189 = .ok (.invokevirtual 127, 3) := by decide +kernel
theorem d_M_count_192 : decode b_M_count 192 = .ok (.ireturn, 1) := by decide +kernel
theorem d_M_count_193 : decode b_M_count 193 = .ok (.iconst (-1), 1) := by decide +kernel
theorem d_M_count_194 : decode b_M_count 194 = .ok (.ireturn, 1) := by decide +kernel
end
section
theorem d_L_solve_0 : decode b_L_solve 0 = .ok (.aload_n 2, 1) := by decide +kernel
theorem d_L_solve_1 : decode b_L_solve 1 = .ok (.iconst 0, 1) := by decide +kernel
theorem d_L_solve_2 : decode b_L_solve 2 = .ok (.aload_n 0, 1) := by decide +kernel
theorem d_L_solve_3 : decode b_L_solve 3 = .ok (.iload_n 1, 1) := by decide +kernel
theorem d_L_solve_4 : decode b_L_solve 4 = .ok (.invokevirtual 7, 3) := by decide +kernel
theorem d_L_solve_7 : decode b_L_solve 7 = .ok (.i2l, 1) := by decide +kernel
theorem d_L_solve_8 : decode b_L_solve 8 = .ok (.lastore, 1) := by decide +kernel
theorem d_L_solve_9 : decode b_L_solve 9 = .ok (.goto 9, 3) := by decide +kernel
theorem d_L_solve_12 : decode b_L_solve 12 = .ok (.astore_n 3, 1) := by decide +kernel
theorem d_L_solve_13 : decode b_L_solve 13 = .ok (.iconst 1, 1) := by decide +kernel
theorem d_L_solve_14 : decode b_L_solve 14 = .ok (.ireturn, 1) := by decide +kernel
theorem d_L_solve_15 : decode b_L_solve 15 = .ok (.astore_n 3, 1) := by decide +kernel
theorem d_L_solve_16 : decode b_L_solve 16 = .ok (.iconst 2, 1) := by decide +kernel
theorem d_L_solve_17 : decode b_L_solve 17 = .ok (.ireturn, 1) := by decide +kernel
theorem d_L_solve_18 : decode b_L_solve 18 = .ok (.iconst 0, 1) := by decide +kernel
theorem d_L_solve_19 : decode b_L_solve 19 = .ok (.ireturn, 1) := by decide +kernel
theorem d_L_core_0 : decode b_L_core 0 = .ok (.aload_n 2, 1) := by decide +kernel
theorem d_L_core_1 : decode b_L_core 1 = .ok (.iconst 0, 1) := by decide +kernel
theorem d_L_core_2 : decode b_L_core 2 = .ok (.aload_n 0, 1) := by decide +kernel
theorem d_L_core_3 : decode b_L_core 3 = .ok (.iload_n 1, 1) := by decide +kernel
theorem d_L_core_4 : decode b_L_core 4 = .ok (.invokevirtual 17, 3) := by decide +kernel
theorem d_L_core_7 : decode b_L_core 7 = .ok (.i2l, 1) := by decide +kernel
theorem d_L_core_8 : decode b_L_core 8 = .ok (.lastore, 1) := by decide +kernel
theorem d_L_core_9 : decode b_L_core 9 = .ok (.goto 6, 3) := by decide +kernel
theorem d_L_core_12 : decode b_L_core 12 = .ok (.astore_n 3, 1) := by decide +kernel
theorem d_L_core_13 : decode b_L_core 13 = .ok (.iconst 1, 1) := by decide +kernel
theorem d_L_core_14 : decode b_L_core 14 = .ok (.ireturn, 1) := by decide +kernel
theorem d_L_core_15 : decode b_L_core 15 = .ok (.iconst 0, 1) := by decide +kernel
theorem d_L_core_16 : decode b_L_core 16 = .ok (.ireturn, 1) := by decide +kernel
theorem d_L_law_0 : decode code 0 = .ok (.new 8, 3) := by decide +kernel
theorem d_L_law_3 : decode code 3 = .ok (.dup, 1) := by decide +kernel
theorem d_L_law_4 : decode code 4 = .ok (.invokespecial 22, 3) := by decide +kernel
theorem d_L_law_7 : decode code 7 = .ok (.astore_n 1, 1) := by decide +kernel
theorem d_L_law_8 : decode code 8 = .ok (.new 23, 3) := by decide +kernel
theorem d_L_law_11 : decode code 11 = .ok (.dup, 1) := by decide +kernel
theorem d_L_law_12 : decode code 12 = .ok (.invokespecial 25, 3) := by decide +kernel
theorem d_L_law_15 : decode code 15 = .ok (.astore_n 2, 1) := by decide +kernel
theorem d_L_law_16 : decode code 16 = .ok (.iconst 1, 1) := by decide +kernel
theorem d_L_law_17 : decode code 17 = .ok (.newarray .long, 2) := by decide +kernel
theorem d_L_law_19 : decode code 19 = .ok (.astore_n 3, 1) := by decide +kernel
theorem d_L_law_20 : decode code 20 = .ok (.iconst 0, 1) := by decide +kernel
theorem d_L_law_21 : decode code 21 = .ok (.istore 4, 2) := by decide +kernel
theorem d_L_law_23 : decode code 23 = .ok (.iload 4, 2) := by decide +kernel
theorem d_L_law_25 : decode code 25 = .ok (.aload_n 0, 1) := by decide +kernel
theorem d_L_law_26 : decode code 26 = .ok (.arraylength, 1) := by decide +kernel
theorem d_L_law_27 : decode code 27 = .ok (.bipush 6, 2) := by decide +kernel
theorem d_L_law_29 : decode code 29 = .ok (.isub, 1) := by decide +kernel
theorem d_L_law_30 : decode code 30 = .ok (.if_icmp .gt 579, 3) := by decide +kernel
theorem d_L_law_33 : decode code 33 = .ok (.aload_n 0, 1) := by decide +kernel
theorem d_L_law_34 : decode code 34 = .ok (.iload 4, 2) := by decide +kernel
theorem d_L_law_36 : decode code 36 = .ok (.iaload, 1) := by decide +kernel
theorem d_L_law_37 : decode code 37 = .ok (.bipush 15, 2) := by decide +kernel
theorem d_L_law_39 : decode code 39 = .ok (.iand, 1) := by decide +kernel
theorem d_L_law_40 : decode code 40 = .ok (.tableswitch 563 0 12 #[68, 105, 178, 215, 276, 325, 350, 406, 419, 444, 457, 482, 538], 68) := by decide +kernel
theorem d_L_law_108 : decode code 108 = .ok (.aload_n 1, 1) := by decide +kernel
theorem d_L_law_109 : decode code 109 = .ok (.aload_n 0, 1) := by decide +kernel
theorem d_L_law_110 : decode code 110 = .ok (.iload 4, 2) := by decide +kernel
theorem d_L_law_112 : decode code 112 = .ok (.iconst 1, 1) := by decide +kernel
theorem d_L_law_113 : decode code 113 = .ok (.iadd, 1) := by decide +kernel
theorem d_L_law_114 : decode code 114 = .ok (.iaload, 1) := by decide +kernel
theorem d_L_law_115 : decode code 115 = .ok (.aload_n 0, 1) := by decide +kernel
theorem d_L_law_116 : decode code 116 = .ok (.iload 4, 2) := by decide +kernel
theorem d_L_law_118 : decode code 118 = .ok (.iconst 2, 1) := by decide +kernel
theorem d_L_law_119 : decode code 119 = .ok (.iadd, 1) := by decide +kernel
theorem d_L_law_120 : decode code 120 = .ok (.iaload, 1) := by decide +kernel
theorem d_L_law_121 : decode code 121 = .ok (.invokevirtual 26, 3) := by decide +kernel
theorem d_L_law_124 : decode code 124 = .ok (.aload_n 2, 1) := by decide +kernel
theorem d_L_law_125 : decode code 125 = .ok (.aload_n 0, 1) := by decide +kernel
theorem d_L_law_126 : decode code 126 = .ok (.iload 4, 2) := by decide +kernel
theorem d_L_law_128 : decode code 128 = .ok (.iconst 1, 1) := by decide +kernel
theorem d_L_law_129 : decode code 129 = .ok (.iadd, 1) := by decide +kernel
theorem d_L_law_130 : decode code 130 = .ok (.iaload, 1) := by decide +kernel
theorem d_L_law_131 : decode code 131 = .ok (.aload_n 0, 1) := by decide +kernel
theorem d_L_law_132 : decode code 132 = .ok (.iload 4, 2) := by decide +kernel
theorem d_L_law_134 : decode code 134 = .ok (.iconst 2, 1) := by decide +kernel
theorem d_L_law_135 : decode code 135 = .ok (.iadd, 1) := by decide +kernel
theorem d_L_law_136 : decode code 136 = .ok (.iaload, 1) := by decide +kernel
theorem d_L_law_137 : decode code 137 = .ok (.invokevirtual 30, 3) := by decide +kernel
theorem d_L_law_140 : decode code 140 = .ok (.if_icmp .eq 463, 3) := by decide +kernel
theorem d_L_law_143 : decode code 143 = .ok (.iconst 0, 1) := by decide +kernel
theorem d_L_law_144 : decode code 144 = .ok (.ireturn, 1) := by decide +kernel
theorem d_L_law_145 : decode code 145 = .ok (.aload_n 1, 1) := by decide +kernel
theorem d_L_law_146 : decode code 146 = .ok (.aload_n 0, 1) := by decide +kernel
theorem d_L_law_147 : decode code 147 = .ok (.iload 4, 2) := by decide +kernel
theorem d_L_law_149 : decode code 149 = .ok (.iconst 1, 1) := by decide +kernel
theorem d_L_law_150 : decode code 150 = .ok (.iadd, 1) := by decide +kernel
theorem d_L_law_151 : decode code 151 = .ok (.iaload, 1) := by decide +kernel
theorem d_L_law_152 : decode code 152 = .ok (.aload_n 0, 1) := by decide +kernel
theorem d_L_law_153 : decode code 153 = .ok (.iload 4, 2) := by decide +kernel
theorem d_L_law_155 : decode code 155 = .ok (.iconst 2, 1) := by decide +kernel
theorem d_L_law_156 : decode code 156 = .ok (.iadd, 1) := by decide +kernel
theorem d_L_law_157 : decode code 157 = .ok (.iaload, 1) := by decide +kernel
theorem d_L_law_158 : decode code 158 = .ok (.aload_n 0, 1) := by decide +kernel
theorem d_L_law_159 : decode code 159 = .ok (.iload 4, 2) := by decide +kernel
theorem d_L_law_161 : decode code 161 = .ok (.iconst 3, 1) := by decide +kernel
theorem d_L_law_162 : decode code 162 = .ok (.iadd, 1) := by decide +kernel
theorem d_L_law_163 : decode code 163 = .ok (.iaload, 1) := by decide +kernel
theorem d_L_law_164 : decode code 164 = .ok (.aload_n 0, 1) := by decide +kernel
theorem d_L_law_165 : decode code 165 = .ok (.iload 4, 2) := by decide +kernel
theorem d_L_law_167 : decode code 167 = .ok (.iconst 4, 1) := by decide +kernel
theorem d_L_law_168 : decode code 168 = .ok (.iadd, 1) := by decide +kernel
theorem d_L_law_169 : decode code 169 = .ok (.iaload, 1) := by decide +kernel
theorem d_L_law_170 : decode code 170 = .ok (.aload_n 0, 1) := by decide +kernel
theorem d_L_law_171 : decode code 171 = .ok (.iload 4, 2) := by decide +kernel
theorem d_L_law_173 : decode code 173 = .ok (.iconst 5, 1) := by decide +kernel
theorem d_L_law_174 : decode code 174 = .ok (.iadd, 1) := by decide +kernel
theorem d_L_law_175 : decode code 175 = .ok (.iaload, 1) := by decide +kernel
theorem d_L_law_176 : decode code 176 = .ok (.invokevirtual 31, 3) := by decide +kernel
theorem d_L_law_179 : decode code 179 = .ok (.aload_n 2, 1) := by decide +kernel
theorem d_L_law_180 : decode code 180 = .ok (.aload_n 0, 1) := by decide +kernel
theorem d_L_law_181 : decode code 181 = .ok (.iload 4, 2) := by decide +kernel
theorem d_L_law_183 : decode code 183 = .ok (.iconst 1, 1) := by decide +kernel
theorem d_L_law_184 : decode code 184 = .ok (.iadd, 1) := by decide +kernel
theorem d_L_law_185 : decode code 185 = .ok (.iaload, 1) := by decide +kernel
theorem d_L_law_186 : decode code 186 = .ok (.aload_n 0, 1) := by decide +kernel
theorem d_L_law_187 : decode code 187 = .ok (.iload 4, 2) := by decide +kernel
theorem d_L_law_189 : decode code 189 = .ok (.iconst 2, 1) := by decide +kernel
theorem d_L_law_190 : decode code 190 = .ok (.iadd, 1) := by decide +kernel
theorem d_L_law_191 : decode code 191 = .ok (.iaload, 1) := by decide +kernel
theorem d_L_law_192 : decode code 192 = .ok (.aload_n 0, 1) := by decide +kernel
theorem d_L_law_193 : decode code 193 = .ok (.iload 4, 2) := by decide +kernel
theorem d_L_law_195 : decode code 195 = .ok (.iconst 3, 1) := by decide +kernel
theorem d_L_law_196 : decode code 196 = .ok (.iadd, 1) := by decide +kernel
theorem d_L_law_197 : decode code 197 = .ok (.iaload, 1) := by decide +kernel
theorem d_L_law_198 : decode code 198 = .ok (.aload_n 0, 1) := by decide +kernel
theorem d_L_law_199 : decode code 199 = .ok (.iload 4, 2) := by decide +kernel
theorem d_L_law_201 : decode code 201 = .ok (.iconst 4, 1) := by decide +kernel
theorem d_L_law_202 : decode code 202 = .ok (.iadd, 1) := by decide +kernel
theorem d_L_law_203 : decode code 203 = .ok (.iaload, 1) := by decide +kernel
theorem d_L_law_204 : decode code 204 = .ok (.aload_n 0, 1) := by decide +kernel
theorem d_L_law_205 : decode code 205 = .ok (.iload 4, 2) := by decide +kernel
theorem d_L_law_207 : decode code 207 = .ok (.iconst 5, 1) := by decide +kernel
theorem d_L_law_208 : decode code 208 = .ok (.iadd, 1) := by decide +kernel
theorem d_L_law_209 : decode code 209 = .ok (.iaload, 1) := by decide +kernel
theorem d_L_law_210 : decode code 210 = .ok (.invokevirtual 35, 3) := by decide +kernel
theorem d_L_law_213 : decode code 213 = .ok (.if_icmp .eq 390, 3) := by decide +kernel
theorem d_L_law_216 : decode code 216 = .ok (.iconst 0, 1) := by decide +kernel
theorem d_L_law_217 : decode code 217 = .ok (.ireturn, 1) := by decide +kernel
theorem d_L_law_218 : decode code 218 = .ok (.aload_n 1, 1) := by decide +kernel
theorem d_L_law_219 : decode code 219 = .ok (.aload_n 0, 1) := by decide +kernel
theorem d_L_law_220 : decode code 220 = .ok (.iload 4, 2) := by decide +kernel
theorem d_L_law_222 : decode code 222 = .ok (.iconst 1, 1) := by decide +kernel
theorem d_L_law_223 : decode code 223 = .ok (.iadd, 1) := by decide +kernel
theorem d_L_law_224 : decode code 224 = .ok (.iaload, 1) := by decide +kernel
theorem d_L_law_225 : decode code 225 = .ok (.aload_n 0, 1) := by decide +kernel
theorem d_L_law_226 : decode code 226 = .ok (.iload 4, 2) := by decide +kernel
theorem d_L_law_228 : decode code 228 = .ok (.iconst 2, 1) := by decide +kernel
theorem d_L_law_229 : decode code 229 = .ok (.iadd, 1) := by decide +kernel
theorem d_L_law_230 : decode code 230 = .ok (.iaload, 1) := by decide +kernel
theorem d_L_law_231 : decode code 231 = .ok (.invokevirtual 36, 3) := by decide +kernel
theorem d_L_law_234 : decode code 234 = .ok (.aload_n 2, 1) := by decide +kernel
theorem d_L_law_235 : decode code 235 = .ok (.aload_n 0, 1) := by decide +kernel
theorem d_L_law_236 : decode code 236 = .ok (.iload 4, 2) := by decide +kernel
theorem d_L_law_238 : decode code 238 = .ok (.iconst 1, 1) := by decide +kernel
theorem d_L_law_239 : decode code 239 = .ok (.iadd, 1) := by decide +kernel
theorem d_L_law_240 : decode code 240 = .ok (.iaload, 1) := by decide +kernel
theorem d_L_law_241 : decode code 241 = .ok (.aload_n 0, 1) := by decide +kernel
theorem d_L_law_242 : decode code 242 = .ok (.iload 4, 2) := by decide +kernel
theorem d_L_law_244 : decode code 244 = .ok (.iconst 2, 1) := by decide +kernel
theorem d_L_law_245 : decode code 245 = .ok (.iadd, 1) := by decide +kernel
theorem d_L_law_246 : decode code 246 = .ok (.iaload, 1) := by decide +kernel
theorem d_L_law_247 : decode code 247 = .ok (.invokevirtual 39, 3) := by decide +kernel
theorem d_L_law_250 : decode code 250 = .ok (.if_icmp .eq 353, 3) := by decide +kernel
theorem d_L_law_253 : decode code 253 = .ok (.iconst 0, 1) := by decide +kernel
theorem d_L_law_254 : decode code 254 = .ok (.ireturn, 1) := by decide +kernel
theorem d_L_law_255 : decode code 255 = .ok (.aload_n 1, 1) := by decide +kernel
theorem d_L_law_256 : decode code 256 = .ok (.aload_n 0, 1) := by decide +kernel
theorem d_L_law_257 : decode code 257 = .ok (.iload 4, 2) := by decide +kernel
theorem d_L_law_259 : decode code 259 = .ok (.iconst 1, 1) := by decide +kernel
theorem d_L_law_260 : decode code 260 = .ok (.iadd, 1) := by decide +kernel
theorem d_L_law_261 : decode code 261 = .ok (.iaload, 1) := by decide +kernel
theorem d_L_law_262 : decode code 262 = .ok (.aload_n 0, 1) := by decide +kernel
theorem d_L_law_263 : decode code 263 = .ok (.iload 4, 2) := by decide +kernel
theorem d_L_law_265 : decode code 265 = .ok (.iconst 2, 1) := by decide +kernel
theorem d_L_law_266 : decode code 266 = .ok (.iadd, 1) := by decide +kernel
theorem d_L_law_267 : decode code 267 = .ok (.iaload, 1) := by decide +kernel
theorem d_L_law_268 : decode code 268 = .ok (.aload_n 0, 1) := by decide +kernel
theorem d_L_law_269 : decode code 269 = .ok (.iload 4, 2) := by decide +kernel
theorem d_L_law_271 : decode code 271 = .ok (.iconst 3, 1) := by decide +kernel
theorem d_L_law_272 : decode code 272 = .ok (.iadd, 1) := by decide +kernel
theorem d_L_law_273 : decode code 273 = .ok (.iaload, 1) := by decide +kernel
theorem d_L_law_274 : decode code 274 = .ok (.aload_n 0, 1) := by decide +kernel
theorem d_L_law_275 : decode code 275 = .ok (.iload 4, 2) := by decide +kernel
theorem d_L_law_277 : decode code 277 = .ok (.iconst 4, 1) := by decide +kernel
theorem d_L_law_278 : decode code 278 = .ok (.iadd, 1) := by decide +kernel
theorem d_L_law_279 : decode code 279 = .ok (.iaload, 1) := by decide +kernel
theorem d_L_law_280 : decode code 280 = .ok (.invokevirtual 40, 3) := by decide +kernel
theorem d_L_law_283 : decode code 283 = .ok (.aload_n 2, 1) := by decide +kernel
theorem d_L_law_284 : decode code 284 = .ok (.aload_n 0, 1) := by decide +kernel
theorem d_L_law_285 : decode code 285 = .ok (.iload 4, 2) := by decide +kernel
theorem d_L_law_287 : decode code 287 = .ok (.iconst 1, 1) := by decide +kernel
theorem d_L_law_288 : decode code 288 = .ok (.iadd, 1) := by decide +kernel
theorem d_L_law_289 : decode code 289 = .ok (.iaload, 1) := by decide +kernel
theorem d_L_law_290 : decode code 290 = .ok (.aload_n 0, 1) := by decide +kernel
theorem d_L_law_291 : decode code 291 = .ok (.iload 4, 2) := by decide +kernel
theorem d_L_law_293 : decode code 293 = .ok (.iconst 2, 1) := by decide +kernel
theorem d_L_law_294 : decode code 294 = .ok (.iadd, 1) := by decide +kernel
theorem d_L_law_295 : decode code 295 = .ok (.iaload, 1) := by decide +kernel
theorem d_L_law_296 : decode code 296 = .ok (.aload_n 0, 1) := by decide +kernel
theorem d_L_law_297 : decode code 297 = .ok (.iload 4, 2) := by decide +kernel
theorem d_L_law_299 : decode code 299 = .ok (.iconst 3, 1) := by decide +kernel
theorem d_L_law_300 : decode code 300 = .ok (.iadd, 1) := by decide +kernel
theorem d_L_law_301 : decode code 301 = .ok (.iaload, 1) := by decide +kernel
theorem d_L_law_302 : decode code 302 = .ok (.aload_n 0, 1) := by decide +kernel
theorem d_L_law_303 : decode code 303 = .ok (.iload 4, 2) := by decide +kernel
theorem d_L_law_305 : decode code 305 = .ok (.iconst 4, 1) := by decide +kernel
theorem d_L_law_306 : decode code 306 = .ok (.iadd, 1) := by decide +kernel
theorem d_L_law_307 : decode code 307 = .ok (.iaload, 1) := by decide +kernel
theorem d_L_law_308 : decode code 308 = .ok (.invokevirtual 44, 3) := by decide +kernel
theorem d_L_law_311 : decode code 311 = .ok (.if_icmp .eq 292, 3) := by decide +kernel
theorem d_L_law_314 : decode code 314 = .ok (.iconst 0, 1) := by decide +kernel
theorem d_L_law_315 : decode code 315 = .ok (.ireturn, 1) := by decide +kernel
theorem d_L_law_316 : decode code 316 = .ok (.aload_n 1, 1) := by decide +kernel
theorem d_L_law_317 : decode code 317 = .ok (.aload_n 0, 1) := by decide +kernel
theorem d_L_law_318 : decode code 318 = .ok (.iload 4, 2) := by decide +kernel
theorem d_L_law_320 : decode code 320 = .ok (.iconst 1, 1) := by decide +kernel
theorem d_L_law_321 : decode code 321 = .ok (.iadd, 1) := by decide +kernel
theorem d_L_law_322 : decode code 322 = .ok (.iaload, 1) := by decide +kernel
theorem d_L_law_323 : decode code 323 = .ok (.aload_n 0, 1) := by decide +kernel
theorem d_L_law_324 : decode code 324 = .ok (.iload 4, 2) := by decide +kernel
theorem d_L_law_326 : decode code 326 = .ok (.iconst 2, 1) := by decide +kernel
theorem d_L_law_327 : decode code 327 = .ok (.iadd, 1) := by decide +kernel
theorem d_L_law_328 : decode code 328 = .ok (.iaload, 1) := by decide +kernel
theorem d_L_law_329 : decode code 329 = .ok (.aload_n 0, 1) := by decide +kernel
theorem d_L_law_330 : decode code 330 = .ok (.iload 4, 2) := by decide +kernel
theorem d_L_law_332 : decode code 332 = .ok (.iconst 3, 1) := by decide +kernel
theorem d_L_law_333 : decode code 333 = .ok (.iadd, 1) := by decide +kernel
theorem d_L_law_334 : decode code 334 = .ok (.iaload, 1) := by decide +kernel
theorem d_L_law_335 : decode code 335 = .ok (.invokevirtual 45, 3) := by decide +kernel
theorem d_L_law_338 : decode code 338 = .ok (.aload_n 2, 1) := by decide +kernel
theorem d_L_law_339 : decode code 339 = .ok (.aload_n 0, 1) := by decide +kernel
theorem d_L_law_340 : decode code 340 = .ok (.iload 4, 2) := by decide +kernel
theorem d_L_law_342 : decode code 342 = .ok (.iconst 1, 1) := by decide +kernel
theorem d_L_law_343 : decode code 343 = .ok (.iadd, 1) := by decide +kernel
theorem d_L_law_344 : decode code 344 = .ok (.iaload, 1) := by decide +kernel
theorem d_L_law_345 : decode code 345 = .ok (.aload_n 0, 1) := by decide +kernel
theorem d_L_law_346 : decode code 346 = .ok (.iload 4, 2) := by decide +kernel
theorem d_L_law_348 : decode code 348 = .ok (.iconst 2, 1) := by decide +kernel
theorem d_L_law_349 : decode code 349 = .ok (.iadd, 1) := by decide +kernel
theorem d_L_law_350 : decode code 350 = .ok (.iaload, 1) := by decide +kernel
theorem d_L_law_351 : decode code 351 = .ok (.aload_n 0, 1) := by decide +kernel
theorem d_L_law_352 : decode code 352 = .ok (.iload 4, 2) := by decide +kernel
theorem d_L_law_354 : decode code 354 = .ok (.iconst 3, 1) := by decide +kernel
theorem d_L_law_355 : decode code 355 = .ok (.iadd, 1) := by decide +kernel
theorem d_L_law_356 : decode code 356 = .ok (.iaload, 1) := by decide +kernel
theorem d_L_law_357 : decode code 357 = .ok (.invokevirtual 49, 3) := by decide +kernel
theorem d_L_law_360 : decode code 360 = .ok (.if_icmp .eq 243, 3) := by decide +kernel
theorem d_L_law_363 : decode code 363 = .ok (.iconst 0, 1) := by decide +kernel
theorem d_L_law_364 : decode code 364 = .ok (.ireturn, 1) := by decide +kernel
theorem d_L_law_365 : decode code 365 = .ok (.aload_n 1, 1) := by decide +kernel
theorem d_L_law_366 : decode code 366 = .ok (.aload_n 0, 1) := by decide +kernel
theorem d_L_law_367 : decode code 367 = .ok (.iload 4, 2) := by decide +kernel
theorem d_L_law_369 : decode code 369 = .ok (.iconst 1, 1) := by decide +kernel
theorem d_L_law_370 : decode code 370 = .ok (.iadd, 1) := by decide +kernel
theorem d_L_law_371 : decode code 371 = .ok (.iaload, 1) := by decide +kernel
theorem d_L_law_372 : decode code 372 = .ok (.invokevirtual 50, 3) := by decide +kernel
theorem d_L_law_375 : decode code 375 = .ok (.aload_n 2, 1) := by decide +kernel
theorem d_L_law_376 : decode code 376 = .ok (.aload_n 0, 1) := by decide +kernel
theorem d_L_law_377 : decode code 377 = .ok (.iload 4, 2) := by decide +kernel
theorem d_L_law_379 : decode code 379 = .ok (.iconst 1, 1) := by decide +kernel
theorem d_L_law_380 : decode code 380 = .ok (.iadd, 1) := by decide +kernel
theorem d_L_law_381 : decode code 381 = .ok (.iaload, 1) := by decide +kernel
theorem d_L_law_382 : decode code 382 = .ok (.invokevirtual 54, 3) := by decide +kernel
theorem d_L_law_385 : decode code 385 = .ok (.if_icmp .eq 218, 3) := by decide +kernel
theorem d_L_law_388 : decode code 388 = .ok (.iconst 0, 1) := by decide +kernel
theorem d_L_law_389 : decode code 389 = .ok (.ireturn, 1) := by decide +kernel
theorem d_L_law_390 : decode code 390 = .ok (.aload_n 1, 1) := by decide +kernel
theorem d_L_law_391 : decode code 391 = .ok (.aload_n 0, 1) := by decide +kernel
theorem d_L_law_392 : decode code 392 = .ok (.iload 4, 2) := by decide +kernel
theorem d_L_law_394 : decode code 394 = .ok (.iconst 1, 1) := by decide +kernel
theorem d_L_law_395 : decode code 395 = .ok (.iadd, 1) := by decide +kernel
theorem d_L_law_396 : decode code 396 = .ok (.iaload, 1) := by decide +kernel
theorem d_L_law_397 : decode code 397 = .ok (.aload_n 3, 1) := by decide +kernel
theorem d_L_law_398 : decode code 398 = .ok (.invokestatic 55, 3) := by decide +kernel
theorem d_L_law_401 : decode code 401 = .ok (.istore 5, 2) := by decide +kernel
theorem d_L_law_403 : decode code 403 = .ok (.aload_n 2, 1) := by decide +kernel
theorem d_L_law_404 : decode code 404 = .ok (.aload_n 0, 1) := by decide +kernel
theorem d_L_law_405 : decode code 405 = .ok (.iload 4, 2) := by decide +kernel
theorem d_L_law_407 : decode code 407 = .ok (.iconst 1, 1) := by decide +kernel
theorem d_L_law_408 : decode code 408 = .ok (.iadd, 1) := by decide +kernel
theorem d_L_law_409 : decode code 409 = .ok (.iaload, 1) := by decide +kernel
theorem d_L_law_410 : decode code 410 = .ok (.invokevirtual 60, 3) := by decide +kernel
theorem d_L_law_413 : decode code 413 = .ok (.istore 6, 2) := by decide +kernel
theorem d_L_law_415 : decode code 415 = .ok (.aload_n 2, 1) := by decide +kernel
theorem d_L_law_416 : decode code 416 = .ok (.invokevirtual 61, 3) := by decide +kernel
theorem d_L_law_419 : decode code 419 = .ok (.iload 5, 2) := by decide +kernel
theorem d_L_law_421 : decode code 421 = .ok (.if_icmp .eq 5, 3) := by decide +kernel
theorem d_L_law_424 : decode code 424 = .ok (.iconst 0, 1) := by decide +kernel
theorem d_L_law_425 : decode code 425 = .ok (.ireturn, 1) := by decide +kernel
theorem d_L_law_426 : decode code 426 = .ok (.iload 5, 2) := by decide +kernel
theorem d_L_law_428 : decode code 428 = .ok (.ifCond .ne 15, 3) := by decide +kernel
theorem d_L_law_431 : decode code 431 = .ok (.aload_n 3, 1) := by decide +kernel
theorem d_L_law_432 : decode code 432 = .ok (.iconst 0, 1) := by decide +kernel
theorem d_L_law_433 : decode code 433 = .ok (.laload, 1) := by decide +kernel
theorem d_L_law_434 : decode code 434 = .ok (.iload 6, 2) := by decide +kernel
theorem d_L_law_436 : decode code 436 = .ok (.i2l, 1) := by decide +kernel
theorem d_L_law_437 : decode code 437 = .ok (.lcmp, 1) := by decide +kernel
theorem d_L_law_438 : decode code 438 = .ok (.ifCond .eq 5, 3) := by decide +kernel
theorem d_L_law_441 : decode code 441 = .ok (.iconst 0, 1) := by decide +kernel
theorem d_L_law_442 : decode code 442 = .ok (.ireturn, 1) := by decide +kernel
theorem d_L_law_443 : decode code 443 = .ok (.goto 160, 3) := by decide +kernel
theorem d_L_law_446 : decode code 446 = .ok (.aload_n 1, 1) := by decide +kernel
theorem d_L_law_447 : decode code 447 = .ok (.invokevirtual 65, 3) := by decide +kernel
theorem d_L_law_450 : decode code 450 = .ok (.aload_n 2, 1) := by decide +kernel
theorem d_L_law_451 : decode code 451 = .ok (.invokevirtual 68, 3) := by decide +kernel
theorem d_L_law_454 : decode code 454 = .ok (.if_icmp .eq 149, 3) := by decide +kernel
theorem d_L_law_457 : decode code 457 = .ok (.iconst 0, 1) := by decide +kernel
theorem d_L_law_458 : decode code 458 = .ok (.ireturn, 1) := by decide +kernel
theorem d_L_law_459 : decode code 459 = .ok (.aload_n 1, 1) := by decide +kernel
theorem d_L_law_460 : decode code 460 = .ok (.aload_n 0, 1) := by decide +kernel
theorem d_L_law_461 : decode code 461 = .ok (.iload 4, 2) := by decide +kernel
theorem d_L_law_463 : decode code 463 = .ok (.iconst 1, 1) := by decide +kernel
theorem d_L_law_464 : decode code 464 = .ok (.iadd, 1) := by decide +kernel
theorem d_L_law_465 : decode code 465 = .ok (.iaload, 1) := by decide +kernel
theorem d_L_law_466 : decode code 466 = .ok (.invokevirtual 69, 3) := by decide +kernel
theorem d_L_law_469 : decode code 469 = .ok (.aload_n 2, 1) := by decide +kernel
theorem d_L_law_470 : decode code 470 = .ok (.aload_n 0, 1) := by decide +kernel
theorem d_L_law_471 : decode code 471 = .ok (.iload 4, 2) := by decide +kernel
theorem d_L_law_473 : decode code 473 = .ok (.iconst 1, 1) := by decide +kernel
theorem d_L_law_474 : decode code 474 = .ok (.iadd, 1) := by decide +kernel
theorem d_L_law_475 : decode code 475 = .ok (.iaload, 1) := by decide +kernel
theorem d_L_law_476 : decode code 476 = .ok (.invokevirtual 72, 3) := by decide +kernel
theorem d_L_law_479 : decode code 479 = .ok (.if_icmp .eq 124, 3) := by decide +kernel
theorem d_L_law_482 : decode code 482 = .ok (.iconst 0, 1) := by decide +kernel
theorem d_L_law_483 : decode code 483 = .ok (.ireturn, 1) := by decide +kernel
theorem d_L_law_484 : decode code 484 = .ok (.aload_n 1, 1) := by decide +kernel
theorem d_L_law_485 : decode code 485 = .ok (.invokevirtual 73, 3) := by decide +kernel
theorem d_L_law_488 : decode code 488 = .ok (.aload_n 2, 1) := by decide +kernel
theorem d_L_law_489 : decode code 489 = .ok (.invokevirtual 76, 3) := by decide +kernel
theorem d_L_law_492 : decode code 492 = .ok (.if_icmp .eq 111, 3) := by decide +kernel
theorem d_L_law_495 : decode code 495 = .ok (.iconst 0, 1) := by decide +kernel
theorem d_L_law_496 : decode code 496 = .ok (.ireturn, 1) := by decide +kernel
theorem d_L_law_497 : decode code 497 = .ok (.aload_n 1, 1) := by decide +kernel
theorem d_L_law_498 : decode code 498 = .ok (.aload_n 0, 1) := by decide +kernel
theorem d_L_law_499 : decode code 499 = .ok (.iload 4, 2) := by decide +kernel
theorem d_L_law_501 : decode code 501 = .ok (.iconst 1, 1) := by decide +kernel
theorem d_L_law_502 : decode code 502 = .ok (.iadd, 1) := by decide +kernel
theorem d_L_law_503 : decode code 503 = .ok (.iaload, 1) := by decide +kernel
theorem d_L_law_504 : decode code 504 = .ok (.invokevirtual 77, 3) := by decide +kernel
theorem d_L_law_507 : decode code 507 = .ok (.aload_n 2, 1) := by decide +kernel
theorem d_L_law_508 : decode code 508 = .ok (.aload_n 0, 1) := by decide +kernel
theorem d_L_law_509 : decode code 509 = .ok (.iload 4, 2) := by decide +kernel
theorem d_L_law_511 : decode code 511 = .ok (.iconst 1, 1) := by decide +kernel
theorem d_L_law_512 : decode code 512 = .ok (.iadd, 1) := by decide +kernel
theorem d_L_law_513 : decode code 513 = .ok (.iaload, 1) := by decide +kernel
theorem d_L_law_514 : decode code 514 = .ok (.invokevirtual 80, 3) := by decide +kernel
theorem d_L_law_517 : decode code 517 = .ok (.if_icmp .eq 86, 3) := by decide +kernel
theorem d_L_law_520 : decode code 520 = .ok (.iconst 0, 1) := by decide +kernel
theorem d_L_law_521 : decode code 521 = .ok (.ireturn, 1) := by decide +kernel
theorem d_L_law_522 : decode code 522 = .ok (.aload_n 1, 1) := by decide +kernel
theorem d_L_law_523 : decode code 523 = .ok (.aload_n 0, 1) := by decide +kernel
theorem d_L_law_524 : decode code 524 = .ok (.iload 4, 2) := by decide +kernel
theorem d_L_law_526 : decode code 526 = .ok (.iconst 1, 1) := by decide +kernel
theorem d_L_law_527 : decode code 527 = .ok (.iadd, 1) := by decide +kernel
theorem d_L_law_528 : decode code 528 = .ok (.iaload, 1) := by decide +kernel
theorem d_L_law_529 : decode code 529 = .ok (.aload_n 3, 1) := by decide +kernel
theorem d_L_law_530 : decode code 530 = .ok (.invokestatic 81, 3) := by decide +kernel
theorem d_L_law_533 : decode code 533 = .ok (.istore 5, 2) := by decide +kernel
theorem d_L_law_535 : decode code 535 = .ok (.aload_n 2, 1) := by decide +kernel
theorem d_L_law_536 : decode code 536 = .ok (.aload_n 0, 1) := by decide +kernel
theorem d_L_law_537 : decode code 537 = .ok (.iload 4, 2) := by decide +kernel
theorem d_L_law_539 : decode code 539 = .ok (.iconst 1, 1) := by decide +kernel
theorem d_L_law_540 : decode code 540 = .ok (.iadd, 1) := by decide +kernel
theorem d_L_law_541 : decode code 541 = .ok (.iaload, 1) := by decide +kernel
theorem d_L_law_542 : decode code 542 = .ok (.invokevirtual 83, 3) := by decide +kernel
theorem d_L_law_545 : decode code 545 = .ok (.istore 6, 2) := by decide +kernel
theorem d_L_law_547 : decode code 547 = .ok (.aload_n 2, 1) := by decide +kernel
theorem d_L_law_548 : decode code 548 = .ok (.invokevirtual 61, 3) := by decide +kernel
theorem d_L_law_551 : decode code 551 = .ok (.iload 5, 2) := by decide +kernel
theorem d_L_law_553 : decode code 553 = .ok (.if_icmp .eq 5, 3) := by decide +kernel
theorem d_L_law_556 : decode code 556 = .ok (.iconst 0, 1) := by decide +kernel
theorem d_L_law_557 : decode code 557 = .ok (.ireturn, 1) := by decide +kernel
theorem d_L_law_558 : decode code 558 = .ok (.iload 5, 2) := by decide +kernel
theorem d_L_law_560 : decode code 560 = .ok (.ifCond .ne 15, 3) := by decide +kernel
theorem d_L_law_563 : decode code 563 = .ok (.aload_n 3, 1) := by decide +kernel
theorem d_L_law_564 : decode code 564 = .ok (.iconst 0, 1) := by decide +kernel
theorem d_L_law_565 : decode code 565 = .ok (.laload, 1) := by decide +kernel
theorem d_L_law_566 : decode code 566 = .ok (.iload 6, 2) := by decide +kernel
theorem d_L_law_568 : decode code 568 = .ok (.i2l, 1) := by decide +kernel
theorem d_L_law_569 : decode code 569 = .ok (.lcmp, 1) := by decide +kernel
theorem d_L_law_570 : decode code 570 = .ok (.ifCond .eq 5, 3) := by decide +kernel
theorem d_L_law_573 : decode code 573 = .ok (.iconst 0, 1) := by decide +kernel
theorem d_L_law_574 : decode code 574 = .ok (.ireturn, 1) := by decide +kernel
theorem d_L_law_575 : decode code 575 = .ok (.goto 28, 3) := by decide +kernel
theorem d_L_law_578 : decode code 578 = .ok (.aload_n 1, 1) := by decide +kernel
theorem d_L_law_579 : decode code 579 = .ok (.aload_n 0, 1) := by decide +kernel
theorem d_L_law_580 : decode code 580 = .ok (.iload 4, 2) := by decide +kernel
theorem d_L_law_582 : decode code 582 = .ok (.iconst 1, 1) := by decide +kernel
theorem d_L_law_583 : decode code 583 = .ok (.iadd, 1) := by decide +kernel
theorem d_L_law_584 : decode code 584 = .ok (.iaload, 1) := by decide +kernel
theorem d_L_law_585 : decode code 585 = .ok (.invokevirtual 84, 3) := by decide +kernel
theorem d_L_law_588 : decode code 588 = .ok (.aload_n 2, 1) := by decide +kernel
theorem d_L_law_589 : decode code 589 = .ok (.aload_n 0, 1) := by decide +kernel
theorem d_L_law_590 : decode code 590 = .ok (.iload 4, 2) := by decide +kernel
theorem d_L_law_592 : decode code 592 = .ok (.iconst 1, 1) := by decide +kernel
theorem d_L_law_593 : decode code 593 = .ok (.iadd, 1) := by decide +kernel
theorem d_L_law_594 : decode code 594 = .ok (.iaload, 1) := by decide +kernel
theorem d_L_law_595 : decode code 595 = .ok (.invokevirtual 87, 3) := by decide +kernel
theorem d_L_law_598 : decode code 598 = .ok (.if_icmp .eq 5, 3) := by decide +kernel
theorem d_L_law_601 : decode code 601 = .ok (.iconst 0, 1) := by decide +kernel
theorem d_L_law_602 : decode code 602 = .ok (.ireturn, 1) := by decide +kernel
theorem d_L_law_603 : decode code 603 = .ok (.iinc 4 6, 3) := by decide +kernel
theorem d_L_law_606 : decode code 606 = .ok (.goto (-583), 3) := by decide +kernel
theorem d_L_law_609 : decode code 609 = .ok (.iconst 1, 1) := by decide +kernel
theorem d_L_law_610 : decode code 610 = .ok (.ireturn, 1) := by decide +kernel
end
section
/-! THE WALKER: a context, a judgement over a world that is a function of a pure state, a row an instruction. -/
abbrev CX : Type := Program × Launch × Env × Room × State × MethodId × Array Value × List Frame × Method × Code × (State → Prop) × va_G × (Nat → Prop)
abbrev γp (γ : CX) : Program := γ.1
abbrev γl (γ : CX) : Launch := γ.2.1
abbrev γe (γ : CX) : Env := γ.2.2.1
abbrev γR (γ : CX) : Room := γ.2.2.2.1
abbrev γs (γ : CX) : State := γ.2.2.2.2.1
abbrev γm (γ : CX) : MethodId := γ.2.2.2.2.2.1
abbrev γa (γ : CX) : Array Value := γ.2.2.2.2.2.2.1
abbrev γb (γ : CX) : List Frame := γ.2.2.2.2.2.2.2.1
abbrev γM (γ : CX) : Method := γ.2.2.2.2.2.2.2.2.1
abbrev γc (γ : CX) : Code := γ.2.2.2.2.2.2.2.2.2.1
abbrev γQ (γ : CX) : State → Prop := γ.2.2.2.2.2.2.2.2.2.2.1
abbrev γD (γ : CX) : va_G := γ.2.2.2.2.2.2.2.2.2.2.2.1
abbrev γA (γ : CX) : Nat → Prop := γ.2.2.2.2.2.2.2.2.2.2.2.2
abbrev Tys : Type := List (ClassId × FieldType)
def AtG {S : Type} (γ : CX) (wf : S → va_W) (nL cs sl pc : Nat) (lv : List (Nat × Value)) (st : List Value) (u : S) : Prop :=
  ∀ (H : Heap) (locs : List Loc) (ls : Array Slot), va_P (γD γ) vwCl (wf u) H → va_D (γA γ) (wf u) → va_S (γA γ) (γs γ).heap H locs → lv_has ls nL lv → W (γp γ) (γl γ) (γe γ) (γR γ) (γs γ) (γm γ) (γa γ) (γb γ) (γM γ) (γc γ) H locs cs sl (γQ γ) (F0 (γm γ) pc ls st)
/-- the calls of private methods among the nest -/
def nestQ : List (String × Nat × MethodName) := [("PackagePick", 11, y_C_init), ("PackagePick", 18, y_W_init), ("PackagePick", 25, y_T_init), ("PackagePick$Catalog", 31, y_X_isSlot), ("PackagePick$Catalog", 35, y_X_holds), ("PackagePick$Wishes", 22, y_X_wishBit), ("PackagePick$Tally", 49, y_X_differing), ("PackagePick$Tally", 41, y_X_marksOf)]
def Nst (U : State) : Prop := ∀ q ∈ nestQ, va_Nw (.methodLinkNest q.1 q.2.1 q.2.2 "PackagePick") U
theorem Nst.warm {s U : State} (hW : s.WarmedH U.vm) (h : Nst s) : Nst U := fun q hq => va_Nw.warmM hW (h q hq)
theorem Nst.same {s U : State} (h : s.vm = U.vm) (hZ : Nst s) : Nst U := fun q hq => va_Nw.same rfl h (hZ q hq)
def Cx (γ : CX) (cc : ByteArray) (nL : Nat) (ret : Option FieldType) (own : String) (rm : Room) (tys : Tys) : Prop :=
  (γp γ).tables.exec = Jvm.exec ∧ (γc γ).code = cc ∧ (γc γ).maxLocals = nL ∧ (γM γ).sig.returnType = ret ∧ (γs γ).vm.findClass own = some (γm γ).cls ∧ (∀ w ∈ WB, w.before (γa γ) (γs γ) = true) ∧ (γM γ).locks = false ∧ va_K (γD γ) vwCl tys (γs γ) ∧ (∀ q, (γs γ).heap.size ≤ q → γA γ q) ∧ γR γ = rm ∧ Nst (γs γ)
section CXS
variable {γ : CX} {cc : ByteArray} {nL : Nat} {ret : Option FieldType} {own : String} {rm : Room} {tys : Tys}
theorem Cx.hx (C : Cx γ cc nL ret own rm tys) : (γp γ).tables.exec = Jvm.exec := C.1
theorem Cx.hb (C : Cx γ cc nL ret own rm tys) : (γc γ).code = cc := C.2.1
theorem Cx.hml (C : Cx γ cc nL ret own rm tys) : (γc γ).maxLocals = nL := C.2.2.1
theorem Cx.hr (C : Cx γ cc nL ret own rm tys) : (γM γ).sig.returnType = ret := C.2.2.2.1
theorem Cx.hown (C : Cx γ cc nL ret own rm tys) : (γs γ).vm.findClass own = some (γm γ).cls := C.2.2.2.2.1
theorem Cx.hts (C : Cx γ cc nL ret own rm tys) : ∀ w ∈ WB, w.before (γa γ) (γs γ) = true := C.2.2.2.2.2.1
theorem Cx.hlocks (C : Cx γ cc nL ret own rm tys) : (γM γ).locks = false := C.2.2.2.2.2.2.1
theorem Cx.hK (C : Cx γ cc nL ret own rm tys) : va_K (γD γ) vwCl tys (γs γ) := C.2.2.2.2.2.2.2.1
theorem Cx.hA (C : Cx γ cc nL ret own rm tys) : ∀ q, (γs γ).heap.size ≤ q → γA γ q := C.2.2.2.2.2.2.2.2.1
theorem Cx.hR (C : Cx γ cc nL ret own rm tys) : γR γ = rm := C.2.2.2.2.2.2.2.2.2.1
theorem Cx.hN (C : Cx γ cc nL ret own rm tys) : Nst (γs γ) := C.2.2.2.2.2.2.2.2.2.2
end CXS
/-- pure words -/
abbrev PS : Type := (Nat → Int32) × (Nat → Nat → Int32)
def si (u : PS) (k : Nat) (v : Int32) : PS := (va_up u.1 k v, u.2)
def sa (u : PS) (k i : Nat) (x : Int32) : PS := (u.1, va_up u.2 k (upd (u.2 k) i x))
def inb (i : Int32) (n : Nat) : Bool := !(decide (i < 0) || decide (n ≤ i.toNatClampNeg))
theorem inb_in {i : Int32} {n : Nat} (h : inb i n = true) : vp_in i n := by
  unfold inb at h; unfold vp_in; simpa using h
def ck {α : Type} (b : Bool) (k : Option α) : Option α := if b = true then k else none
theorem ck_some {α : Type} {b : Bool} {k : Option α} {r : α} (h : ck b k = some r) : b = true ∧ k = some r := by
  unfold ck at h
  by_cases hb : b = true
  · rw [if_pos hb] at h; exact ⟨hb, h⟩
  · rw [if_neg hb] at h; cases h
def isB (v : Int32) : Bool := decide (narrow .boolean (.int v) = .int v)
theorem isB_nar {v : Int32} (h : isB v = true) : narrow .boolean (.int v) = .int v := of_decide_eq_true h
def ush (x y : Int32) : Int32 := (x.toUInt32 >>> (y.toUInt32 &&& Int32.toUInt32 31)).toInt32
def NF : Nat := 1000000

section XR
variable {S : Type} {γ : CX} {cc : ByteArray} {nL : Nat} {ret : Option FieldType} {own : String} {rm : Room} {tys : Tys} {wf : S → va_W} {cs sl pc : Nat} {lv : List (Nat × Value)} {rest : List Value} {u : S}

theorem x_iconst (C : Cx γ cc nL ret own rm tys) {n : Int} {v : Int32} (hd : decode cc pc = .ok (.iconst n, 1)) (hv : Int32.ofInt n = v) (kk : AtG γ wf nL cs sl (pc + 1) lv (.int v :: rest) u) : AtG γ wf nL cs sl pc lv rest u :=
  fun H locs ls hP hD hS hl => lv_iconst C.hx C.hb hd hv (kk H locs ls hP hD hS hl)
theorem x_bipush (C : Cx γ cc nL ret own rm tys) {n : Int} {v : Int32} (hd : decode cc pc = .ok (.bipush n, 2)) (hv : (Int8.ofInt n).toInt32 = v) (kk : AtG γ wf nL cs sl (pc + 2) lv (.int v :: rest) u) : AtG γ wf nL cs sl pc lv rest u :=
  fun H locs ls hP hD hS hl => lv_bipush C.hx C.hb hd hv (kk H locs ls hP hD hS hl)
theorem x_sipush (C : Cx γ cc nL ret own rm tys) {n : Int} {v : Int32} (hd : decode cc pc = .ok (.sipush n, 3)) (hv : (Int16.ofInt n).toInt32 = v) (kk : AtG γ wf nL cs sl (pc + 3) lv (.int v :: rest) u) : AtG γ wf nL cs sl pc lv rest u :=
  fun H locs ls hP hD hS hl => lv_sipush C.hx C.hb hd hv (kk H locs ls hP hD hS hl)
theorem x_ldcw (C : Cx γ cc nL ret own rm tys) {index : Nat} {v : Int32} (hm : Cond.constant own index v ∈ WB) (hd : decode cc pc = .ok (.ldc_w index, 3)) (k : AtG γ wf nL cs sl (pc + 3) lv (.int v :: rest) u) : AtG γ wf nL cs sl pc lv rest u :=
  fun H locs ls hP hD hS hl => lv_ldcw C.hx C.hb C.hown (C.hts _ hm) hd (k H locs ls hP hD hS hl)
theorem x_ldc (C : Cx γ cc nL ret own rm tys) {index : Nat} {v : Int32} (hm : Cond.constant own index v ∈ WB) (hd : decode cc pc = .ok (.ldc index, 2)) (k : AtG γ wf nL cs sl (pc + 2) lv (.int v :: rest) u) : AtG γ wf nL cs sl pc lv rest u :=
  fun H locs ls hP hD hS hl => lv_ldc C.hx C.hb C.hown (C.hts _ hm) hd (k H locs ls hP hD hS hl)
theorem x_iload_n (C : Cx γ cc nL ret own rm tys) {j : Fin 4} {i k : Nat} {x : Int32} (hd : decode cc pc = .ok (.iload_n j, 1)) (hi : (j : Nat) = i) (hk : lv[k]? = some (i, .int x)) (kk : AtG γ wf nL cs sl (pc + 1) lv (.int x :: rest) u) : AtG γ wf nL cs sl pc lv rest u :=
  fun H locs ls hP hD hS hl => lv_iload_n C.hx C.hb hd hi (lv_at hl k hk) (kk H locs ls hP hD hS hl)
theorem x_iload (C : Cx γ cc nL ret own rm tys) {i k : Nat} {x : Int32} (hd : decode cc pc = .ok (.iload i, 2)) (hk : lv[k]? = some (i, .int x)) (kk : AtG γ wf nL cs sl (pc + 2) lv (.int x :: rest) u) : AtG γ wf nL cs sl pc lv rest u :=
  fun H locs ls hP hD hS hl => lv_iload C.hx C.hb hd (lv_at hl k hk) (kk H locs ls hP hD hS hl)
theorem x_aload_n (C : Cx γ cc nL ret own rm tys) {j : Fin 4} {i k : Nat} {x : Nat} (hd : decode cc pc = .ok (.aload_n j, 1)) (hi : (j : Nat) = i) (hk : lv[k]? = some (i, .ref x)) (kk : AtG γ wf nL cs sl (pc + 1) lv (.ref x :: rest) u) : AtG γ wf nL cs sl pc lv rest u :=
  fun H locs ls hP hD hS hl => lv_aload_n C.hx C.hb hd hi (lv_at hl k hk) (kk H locs ls hP hD hS hl)
theorem x_aload (C : Cx γ cc nL ret own rm tys) {i k : Nat} {x : Nat} (hd : decode cc pc = .ok (.aload i, 2)) (hk : lv[k]? = some (i, .ref x)) (kk : AtG γ wf nL cs sl (pc + 2) lv (.ref x :: rest) u) : AtG γ wf nL cs sl pc lv rest u :=
  fun H locs ls hP hD hS hl => lv_aload C.hx C.hb hd (lv_at hl k hk) (kk H locs ls hP hD hS hl)
theorem x_istore_n (C : Cx γ cc nL ret own rm tys) {j : Fin 4} {i : Nat} {x : Int32} {lv' : List (Nat × Value)} (hd : decode cc pc = .ok (.istore_n j, 1)) (hi : (j : Nat) = i) (hn : i < nL) (hl' : (i, Value.int x) :: lv.filter (fun q => !(q.1 == i) && !(q.1 + 1 == i && q.2.category == 2)) = lv') (k : AtG γ wf nL cs sl (pc + 1) lv' rest u) : AtG γ wf nL cs sl pc lv (.int x :: rest) u :=
  fun H locs ls hP hD hS hl => lv_istore_n C.hx C.hb hd hi hl hn hl' (fun ls1 hl1 => k H locs ls1 hP hD hS hl1)
theorem x_istore (C : Cx γ cc nL ret own rm tys) {i : Nat} {x : Int32} {lv' : List (Nat × Value)} (hd : decode cc pc = .ok (.istore i, 2)) (hn : i < nL) (hl' : (i, Value.int x) :: lv.filter (fun q => !(q.1 == i) && !(q.1 + 1 == i && q.2.category == 2)) = lv') (k : AtG γ wf nL cs sl (pc + 2) lv' rest u) : AtG γ wf nL cs sl pc lv (.int x :: rest) u :=
  fun H locs ls hP hD hS hl => lv_istore C.hx C.hb hd hl hn hl' (fun ls1 hl1 => k H locs ls1 hP hD hS hl1)
theorem x_astore_n (C : Cx γ cc nL ret own rm tys) {j : Fin 4} {i : Nat} {x : Nat} {lv' : List (Nat × Value)} (hd : decode cc pc = .ok (.astore_n j, 1)) (hi : (j : Nat) = i) (hn : i < nL) (hl' : (i, Value.ref x) :: lv.filter (fun q => !(q.1 == i) && !(q.1 + 1 == i && q.2.category == 2)) = lv') (k : AtG γ wf nL cs sl (pc + 1) lv' rest u) : AtG γ wf nL cs sl pc lv (.ref x :: rest) u :=
  fun H locs ls hP hD hS hl => lv_astore_n C.hx C.hb hd hi hl hn hl' (fun ls1 hl1 => k H locs ls1 hP hD hS hl1)
theorem x_astore (C : Cx γ cc nL ret own rm tys) {i : Nat} {x : Nat} {lv' : List (Nat × Value)} (hd : decode cc pc = .ok (.astore i, 2)) (hn : i < nL) (hl' : (i, Value.ref x) :: lv.filter (fun q => !(q.1 == i) && !(q.1 + 1 == i && q.2.category == 2)) = lv') (k : AtG γ wf nL cs sl (pc + 2) lv' rest u) : AtG γ wf nL cs sl pc lv (.ref x :: rest) u :=
  fun H locs ls hP hD hS hl => lv_astore C.hx C.hb hd hl hn hl' (fun ls1 hl1 => k H locs ls1 hP hD hS hl1)
theorem x_iinc (C : Cx γ cc nL ret own rm tys) {i k : Nat} {n : Int} {x v : Int32} {lv' : List (Nat × Value)} (hd : decode cc pc = .ok (.iinc i n, 3)) (hk : lv[k]? = some (i, .int x)) (hv : x + Int32.ofInt n = v) (hn : i < nL) (hl' : (i, Value.int v) :: lv.filter (fun q => !(q.1 == i) && !(q.1 + 1 == i && q.2.category == 2)) = lv') (kk : AtG γ wf nL cs sl (pc + 3) lv' rest u) : AtG γ wf nL cs sl pc lv rest u :=
  fun H locs ls hP hD hS hl => lv_iinc C.hx C.hb hd hl hk hv hn hl' (fun ls1 hl1 => kk H locs ls1 hP hD hS hl1)
theorem x_iadd (C : Cx γ cc nL ret own rm tys) {x y : Int32} (hd : decode cc pc = .ok (.iadd, 1)) (kk : AtG γ wf nL cs sl (pc + 1) lv (.int (x + y) :: rest) u) : AtG γ wf nL cs sl pc lv (.int y :: .int x :: rest) u :=
  fun H locs ls hP hD hS hl => lv_iadd C.hx C.hb hd (kk H locs ls hP hD hS hl)
theorem x_isub (C : Cx γ cc nL ret own rm tys) {x y : Int32} (hd : decode cc pc = .ok (.isub, 1)) (kk : AtG γ wf nL cs sl (pc + 1) lv (.int (x - y) :: rest) u) : AtG γ wf nL cs sl pc lv (.int y :: .int x :: rest) u :=
  fun H locs ls hP hD hS hl => lv_isub C.hx C.hb hd (kk H locs ls hP hD hS hl)
theorem x_imul (C : Cx γ cc nL ret own rm tys) {x y : Int32} (hd : decode cc pc = .ok (.imul, 1)) (kk : AtG γ wf nL cs sl (pc + 1) lv (.int (x * y) :: rest) u) : AtG γ wf nL cs sl pc lv (.int y :: .int x :: rest) u :=
  fun H locs ls hP hD hS hl => lv_imul C.hx C.hb hd (kk H locs ls hP hD hS hl)
theorem x_iand (C : Cx γ cc nL ret own rm tys) {x y : Int32} (hd : decode cc pc = .ok (.iand, 1)) (kk : AtG γ wf nL cs sl (pc + 1) lv (.int (x &&& y) :: rest) u) : AtG γ wf nL cs sl pc lv (.int y :: .int x :: rest) u :=
  fun H locs ls hP hD hS hl => lv_iand C.hx C.hb hd (kk H locs ls hP hD hS hl)
theorem x_ior (C : Cx γ cc nL ret own rm tys) {x y : Int32} (hd : decode cc pc = .ok (.ior, 1)) (kk : AtG γ wf nL cs sl (pc + 1) lv (.int (x ||| y) :: rest) u) : AtG γ wf nL cs sl pc lv (.int y :: .int x :: rest) u :=
  fun H locs ls hP hD hS hl => lv_ior C.hx C.hb hd (kk H locs ls hP hD hS hl)
theorem x_ixor (C : Cx γ cc nL ret own rm tys) {x y : Int32} (hd : decode cc pc = .ok (.ixor, 1)) (kk : AtG γ wf nL cs sl (pc + 1) lv (.int (x ^^^ y) :: rest) u) : AtG γ wf nL cs sl pc lv (.int y :: .int x :: rest) u :=
  fun H locs ls hP hD hS hl => lv_ixor C.hx C.hb hd (kk H locs ls hP hD hS hl)
theorem x_ishl (C : Cx γ cc nL ret own rm tys) {x y : Int32} (hd : decode cc pc = .ok (.ishl, 1)) (kk : AtG γ wf nL cs sl (pc + 1) lv (.int (x <<< (y &&& 31)) :: rest) u) : AtG γ wf nL cs sl pc lv (.int y :: .int x :: rest) u :=
  fun H locs ls hP hD hS hl => lv_ishl C.hx C.hb hd (kk H locs ls hP hD hS hl)
theorem x_ishr (C : Cx γ cc nL ret own rm tys) {x y : Int32} (hd : decode cc pc = .ok (.ishr, 1)) (kk : AtG γ wf nL cs sl (pc + 1) lv (.int (x >>> (y &&& 31)) :: rest) u) : AtG γ wf nL cs sl pc lv (.int y :: .int x :: rest) u :=
  fun H locs ls hP hD hS hl => lv_ishr C.hx C.hb hd (kk H locs ls hP hD hS hl)
theorem x_iushr (C : Cx γ cc nL ret own rm tys) {x y : Int32} (hd : decode cc pc = .ok (.iushr, 1)) (kk : AtG γ wf nL cs sl (pc + 1) lv (.int (ush x y) :: rest) u) : AtG γ wf nL cs sl pc lv (.int y :: .int x :: rest) u :=
  fun H locs ls hP hD hS hl => lv_iushr C.hx C.hb hd rfl (kk H locs ls hP hD hS hl)
theorem x_idiv (C : Cx γ cc nL ret own rm tys) {x y : Int32} (hd : decode cc pc = .ok (.idiv, 1)) (hne : ¬ y = 0) (kk : AtG γ wf nL cs sl (pc + 1) lv (.int (x / y) :: rest) u) : AtG γ wf nL cs sl pc lv (.int y :: .int x :: rest) u :=
  fun H locs ls hP hD hS hl => lv_idiv C.hx C.hb hd hne (kk H locs ls hP hD hS hl)
theorem x_irem (C : Cx γ cc nL ret own rm tys) {x y : Int32} (hd : decode cc pc = .ok (.irem, 1)) (hne : ¬ y = 0) (kk : AtG γ wf nL cs sl (pc + 1) lv (.int (x - x / y * y) :: rest) u) : AtG γ wf nL cs sl pc lv (.int y :: .int x :: rest) u :=
  fun H locs ls hP hD hS hl => lv_irem C.hx C.hb hd hne (kk H locs ls hP hD hS hl)
theorem x_ineg (C : Cx γ cc nL ret own rm tys) {x : Int32} (hd : decode cc pc = .ok (.ineg, 1)) (kk : AtG γ wf nL cs sl (pc + 1) lv (.int (-x) :: rest) u) : AtG γ wf nL cs sl pc lv (.int x :: rest) u :=
  fun H locs ls hP hD hS hl => lv_ineg C.hx C.hb hd (kk H locs ls hP hD hS hl)
theorem x_dup (C : Cx γ cc nL ret own rm tys) {va : Value} (hd : decode cc pc = .ok (.dup, 1)) (h1 : va.category = 1) (kk : AtG γ wf nL cs sl (pc + 1) lv (va :: va :: rest) u) : AtG γ wf nL cs sl pc lv (va :: rest) u :=
  fun H locs ls hP hD hS hl => lv_dup C.hx C.hb hd h1 (kk H locs ls hP hD hS hl)
theorem x_dup2 (C : Cx γ cc nL ret own rm tys) {va vb : Value} (hd : decode cc pc = .ok (.dup2, 1)) (h1 : va.category = 1) (h2 : vb.category = 1) (kk : AtG γ wf nL cs sl (pc + 1) lv (va :: vb :: va :: vb :: rest) u) : AtG γ wf nL cs sl pc lv (va :: vb :: rest) u :=
  fun H locs ls hP hD hS hl => lv_dup2_11 C.hx C.hb hd h1 h2 (kk H locs ls hP hD hS hl)
theorem x_pop (C : Cx γ cc nL ret own rm tys) {va : Value} (hd : decode cc pc = .ok (.pop, 1)) (h1 : va.category = 1) (kk : AtG γ wf nL cs sl (pc + 1) lv rest u) : AtG γ wf nL cs sl pc lv (va :: rest) u :=
  fun H locs ls hP hD hS hl => lv_pop C.hx C.hb hd h1 (kk H locs ls hP hD hS hl)
theorem x_goto (C : Cx γ cc nL ret own rm tys) {off : Int} {tgt : Nat} (hd : decode cc pc = .ok (.goto off, 3)) (ht : (pc : Int) + off = (tgt : Int)) (k : AtG γ wf nL cs sl tgt lv rest u) : AtG γ wf nL cs sl pc lv rest u :=
  fun H locs ls hP hD hS hl => lv_goto C.hx C.hb hd ht (k H locs ls hP hD hS hl)
theorem x_if_eq (C : Cx γ cc nL ret own rm tys) {x : Int32} {off : Int} {tgt : Nat} (hd : decode cc pc = .ok (.ifCond .eq off, 3)) (ht : (pc : Int) + off = (tgt : Int)) (kt : x = 0 → AtG γ wf nL cs sl tgt lv rest u) (kf : ¬ x = 0 → AtG γ wf nL cs sl (pc + 3) lv rest u) : AtG γ wf nL cs sl pc lv (.int x :: rest) u :=
  fun H locs ls hP hD hS hl => lv_if_eq C.hx C.hb hd ht (fun h => kt h H locs ls hP hD hS hl) (fun h => kf h H locs ls hP hD hS hl)
theorem x_if_ne (C : Cx γ cc nL ret own rm tys) {x : Int32} {off : Int} {tgt : Nat} (hd : decode cc pc = .ok (.ifCond .ne off, 3)) (ht : (pc : Int) + off = (tgt : Int)) (kt : ¬ x = 0 → AtG γ wf nL cs sl tgt lv rest u) (kf : x = 0 → AtG γ wf nL cs sl (pc + 3) lv rest u) : AtG γ wf nL cs sl pc lv (.int x :: rest) u :=
  fun H locs ls hP hD hS hl => lv_if_ne C.hx C.hb hd ht (fun h => kt h H locs ls hP hD hS hl) (fun h => kf h H locs ls hP hD hS hl)
theorem x_if_lt (C : Cx γ cc nL ret own rm tys) {x : Int32} {off : Int} {tgt : Nat} (hd : decode cc pc = .ok (.ifCond .lt off, 3)) (ht : (pc : Int) + off = (tgt : Int)) (kt : x < 0 → AtG γ wf nL cs sl tgt lv rest u) (kf : ¬ x < 0 → AtG γ wf nL cs sl (pc + 3) lv rest u) : AtG γ wf nL cs sl pc lv (.int x :: rest) u :=
  fun H locs ls hP hD hS hl => lv_if_lt C.hx C.hb hd ht (fun h => kt h H locs ls hP hD hS hl) (fun h => kf h H locs ls hP hD hS hl)
theorem x_if_ge (C : Cx γ cc nL ret own rm tys) {x : Int32} {off : Int} {tgt : Nat} (hd : decode cc pc = .ok (.ifCond .ge off, 3)) (ht : (pc : Int) + off = (tgt : Int)) (kt : 0 ≤ x → AtG γ wf nL cs sl tgt lv rest u) (kf : ¬ 0 ≤ x → AtG γ wf nL cs sl (pc + 3) lv rest u) : AtG γ wf nL cs sl pc lv (.int x :: rest) u :=
  fun H locs ls hP hD hS hl => lv_if_ge C.hx C.hb hd ht (fun h => kt h H locs ls hP hD hS hl) (fun h => kf h H locs ls hP hD hS hl)
theorem x_if_gt (C : Cx γ cc nL ret own rm tys) {x : Int32} {off : Int} {tgt : Nat} (hd : decode cc pc = .ok (.ifCond .gt off, 3)) (ht : (pc : Int) + off = (tgt : Int)) (kt : 0 < x → AtG γ wf nL cs sl tgt lv rest u) (kf : ¬ 0 < x → AtG γ wf nL cs sl (pc + 3) lv rest u) : AtG γ wf nL cs sl pc lv (.int x :: rest) u :=
  fun H locs ls hP hD hS hl => lv_if_gt C.hx C.hb hd ht (fun h => kt h H locs ls hP hD hS hl) (fun h => kf h H locs ls hP hD hS hl)
theorem x_if_le (C : Cx γ cc nL ret own rm tys) {x : Int32} {off : Int} {tgt : Nat} (hd : decode cc pc = .ok (.ifCond .le off, 3)) (ht : (pc : Int) + off = (tgt : Int)) (kt : x ≤ 0 → AtG γ wf nL cs sl tgt lv rest u) (kf : ¬ x ≤ 0 → AtG γ wf nL cs sl (pc + 3) lv rest u) : AtG γ wf nL cs sl pc lv (.int x :: rest) u :=
  fun H locs ls hP hD hS hl => lv_if_le C.hx C.hb hd ht (fun h => kt h H locs ls hP hD hS hl) (fun h => kf h H locs ls hP hD hS hl)
theorem x_icmp_eq (C : Cx γ cc nL ret own rm tys) {x y : Int32} {off : Int} {tgt : Nat} (hd : decode cc pc = .ok (.if_icmp .eq off, 3)) (ht : (pc : Int) + off = (tgt : Int)) (kt : x = y → AtG γ wf nL cs sl tgt lv rest u) (kf : ¬ x = y → AtG γ wf nL cs sl (pc + 3) lv rest u) : AtG γ wf nL cs sl pc lv (.int y :: .int x :: rest) u :=
  fun H locs ls hP hD hS hl => lv_icmp_eq C.hx C.hb hd ht (fun h => kt h H locs ls hP hD hS hl) (fun h => kf h H locs ls hP hD hS hl)
theorem x_icmp_ne (C : Cx γ cc nL ret own rm tys) {x y : Int32} {off : Int} {tgt : Nat} (hd : decode cc pc = .ok (.if_icmp .ne off, 3)) (ht : (pc : Int) + off = (tgt : Int)) (kt : ¬ x = y → AtG γ wf nL cs sl tgt lv rest u) (kf : x = y → AtG γ wf nL cs sl (pc + 3) lv rest u) : AtG γ wf nL cs sl pc lv (.int y :: .int x :: rest) u :=
  fun H locs ls hP hD hS hl => lv_icmp_ne C.hx C.hb hd ht (fun h => kt h H locs ls hP hD hS hl) (fun h => kf h H locs ls hP hD hS hl)
theorem x_icmp_lt (C : Cx γ cc nL ret own rm tys) {x y : Int32} {off : Int} {tgt : Nat} (hd : decode cc pc = .ok (.if_icmp .lt off, 3)) (ht : (pc : Int) + off = (tgt : Int)) (kt : x < y → AtG γ wf nL cs sl tgt lv rest u) (kf : ¬ x < y → AtG γ wf nL cs sl (pc + 3) lv rest u) : AtG γ wf nL cs sl pc lv (.int y :: .int x :: rest) u :=
  fun H locs ls hP hD hS hl => lv_icmp_lt C.hx C.hb hd ht (fun h => kt h H locs ls hP hD hS hl) (fun h => kf h H locs ls hP hD hS hl)
theorem x_icmp_ge (C : Cx γ cc nL ret own rm tys) {x y : Int32} {off : Int} {tgt : Nat} (hd : decode cc pc = .ok (.if_icmp .ge off, 3)) (ht : (pc : Int) + off = (tgt : Int)) (kt : y ≤ x → AtG γ wf nL cs sl tgt lv rest u) (kf : ¬ y ≤ x → AtG γ wf nL cs sl (pc + 3) lv rest u) : AtG γ wf nL cs sl pc lv (.int y :: .int x :: rest) u :=
  fun H locs ls hP hD hS hl => lv_icmp_ge C.hx C.hb hd ht (fun h => kt h H locs ls hP hD hS hl) (fun h => kf h H locs ls hP hD hS hl)
theorem x_icmp_gt (C : Cx γ cc nL ret own rm tys) {x y : Int32} {off : Int} {tgt : Nat} (hd : decode cc pc = .ok (.if_icmp .gt off, 3)) (ht : (pc : Int) + off = (tgt : Int)) (kt : y < x → AtG γ wf nL cs sl tgt lv rest u) (kf : ¬ y < x → AtG γ wf nL cs sl (pc + 3) lv rest u) : AtG γ wf nL cs sl pc lv (.int y :: .int x :: rest) u :=
  fun H locs ls hP hD hS hl => lv_icmp_gt C.hx C.hb hd ht (fun h => kt h H locs ls hP hD hS hl) (fun h => kf h H locs ls hP hD hS hl)
theorem x_icmp_le (C : Cx γ cc nL ret own rm tys) {x y : Int32} {off : Int} {tgt : Nat} (hd : decode cc pc = .ok (.if_icmp .le off, 3)) (ht : (pc : Int) + off = (tgt : Int)) (kt : x ≤ y → AtG γ wf nL cs sl tgt lv rest u) (kf : ¬ x ≤ y → AtG γ wf nL cs sl (pc + 3) lv rest u) : AtG γ wf nL cs sl pc lv (.int y :: .int x :: rest) u :=
  fun H locs ls hP hD hS hl => lv_icmp_le C.hx C.hb hd ht (fun h => kt h H locs ls hP hD hS hl) (fun h => kf h H locs ls hP hD hS hl)
theorem x_tsw (C : Cx γ cc nL ret own rm tys) {dflt lo hi : Int} {offs : Array Int} {len : Nat} {x c : Int32} {off : Int} {tgt : Nat} (hd : decode cc pc = .ok (.tableswitch dflt lo hi offs, len)) (hx : x = c) (ho : (if c.toInt < lo ∨ hi < c.toInt then none else offs[(c.toInt - lo).toNat]?) = some off) (ht : (pc : Int) + off = (tgt : Int)) (k : AtG γ wf nL cs sl tgt lv rest u) : AtG γ wf nL cs sl pc lv (.int x :: rest) u := by
  intro H locs ls hP hD hS hl
  subst hx
  by_cases h : x.toInt < lo ∨ hi < x.toInt
  · rw [if_pos h] at ho; cases ho
  · rw [if_neg h] at ho
    exact lv_tableIn C.hx C.hb hd (fun z => h (Or.inl z)) (fun z => h (Or.inr z)) ho ht (k H locs ls hP hD hS hl)
theorem x_tswo (C : Cx γ cc nL ret own rm tys) {dflt lo hi : Int} {offs : Array Int} {len : Nat} {x : Int32} {tgt : Nat} (hd : decode cc pc = .ok (.tableswitch dflt lo hi offs, len)) (h : x.toInt < lo ∨ hi < x.toInt) (ht : (pc : Int) + dflt = (tgt : Int)) (k : AtG γ wf nL cs sl tgt lv rest u) : AtG γ wf nL cs sl pc lv (.int x :: rest) u :=
  fun H locs ls hP hD hS hl => lv_tableOut C.hx C.hb hd h ht (k H locs ls hP hD hS hl)
theorem x_lsw (C : Cx γ cc nL ret own rm tys) {dflt : Int} {ps : Array (Int × Int)} {len : Nat} {x c : Int32} {off : Int} {tgt : Nat} (hd : decode cc pc = .ok (.lookupswitch dflt ps, len)) (hx : x = c) (hp : (ps.toList.zip (ps.toList.drop 1)).all (fun (a, next) => a.1 < next.1) = true) (ho : Op.lookupswitch.offset ps.toList dflt c.toInt = off) (ht : (pc : Int) + off = (tgt : Int)) (k : AtG γ wf nL cs sl tgt lv rest u) : AtG γ wf nL cs sl pc lv (.int x :: rest) u := by
  subst hx
  exact fun H locs ls hP hD hS hl => lv_lookup C.hx C.hb hd hp ho ht (k H locs ls hP hD hS hl)
theorem x_lswo (C : Cx γ cc nL ret own rm tys) {dflt : Int} {ps : Array (Int × Int)} {len : Nat} {x : Int32} {tgt : Nat} (hd : decode cc pc = .ok (.lookupswitch dflt ps, len)) (hp : (ps.toList.zip (ps.toList.drop 1)).all (fun (a, next) => a.1 < next.1) = true) (ho : ∀ q ∈ ps.toList, ¬ q.1 = x.toInt) (ht : (pc : Int) + dflt = (tgt : Int)) (k : AtG γ wf nL cs sl tgt lv rest u) : AtG γ wf nL cs sl pc lv (.int x :: rest) u := by
  refine fun H locs ls hP hD hS hl => lv_lookup C.hx C.hb hd hp ?_ ht (k H locs ls hP hD hS hl)
  have key : ∀ L : List (Int × Int), (∀ q ∈ L, ¬ q.1 = x.toInt) → Op.lookupswitch.offset L dflt x.toInt = dflt := by
    intro L h
    induction L with
    | nil => rfl
    | cons q L ih =>
      have h1 := h q List.mem_cons_self
      have h2 := ih (fun z hz => h z (List.mem_cons_of_mem _ hz))
      simp only [Op.lookupswitch.offset] at h2 ⊢
      simp_all
  exact key _ ho
theorem x_sub {lv' : List (Nat × Value)} {st : List Value} (ks : List Nat) (h : lv_pick lv ks = lv') (k : AtG γ wf nL cs sl pc lv' st u) : AtG γ wf nL cs sl pc lv st u :=
  fun H locs ls hP hD hS hl => k H locs ls hP hD hS (lv_sub hl ks h)
end XR
/-- the ends -/
def QI {S : Type} (γ : CX) (tys : Tys) (wf : S → va_W) (r0 : Int32) (u0 : S) : Prop :=
  γQ γ = MQ (γb γ) (va_Qi (fun (r : Int32) (u' : S) => r = r0 ∧ u' = u0) (fun (u' : S) (t : State) => va_P (γD γ) vwCl (wf u') t.heap ∧ va_K (γD γ) vwCl tys t ∧ va_D (γA γ) (wf u')) (γA γ)) (γa γ) (γs γ) 0 0 (γA γ)
def QV {S : Type} (γ : CX) (tys : Tys) (wf : S → va_W) (u0 : S) : Prop :=
  γQ γ = MQ (γb γ) (va_Qv (fun (u' : S) => u' = u0) (fun (u' : S) (t : State) => va_P (γD γ) vwCl (wf u') t.heap ∧ va_K (γD γ) vwCl tys t ∧ va_D (γA γ) (wf u')) (γA γ)) (γa γ) (γs γ) 0 0 (γA γ)
section XE
variable {S : Type} {γ : CX} {cc : ByteArray} {nL : Nat} {own : String} {rm : Room} {tys : Tys} {wf : S → va_W} {pc : Nat} {lv : List (Nat × Value)} {u u0 : S} {v r0 : Int32}
theorem x_iret (C : Cx γ cc nL (some .int) own rm tys) (hQ : QI γ tys wf r0 u0) (hv : v = r0) (hu : u = u0) (hd : decode cc pc = .ok (.ireturn, 1)) : AtG γ wf nL 0 0 pc lv [.int v] u := by
  intro H locs ls hP hD hS hl
  subst hv hu
  have hQ' := hQ
  unfold QI at hQ'
  rw [hQ']
  exact W.iret C.hx C.hb C.hr (fun t ht hW => ⟨⟨v, u, rfl, ⟨rfl, rfl⟩, by rw [ht]; exact hP, va_K.moved hW.alike C.hK, hD⟩, hS.F ht⟩) hS.2.2 hd C.hlocks
theorem x_zret (C : Cx γ cc nL (some .boolean) own rm tys) (hQ : QI γ tys wf r0 u0) (hn : narrow .boolean (.int v) = .int v) (hv : v = r0) (hu : u = u0) (hd : decode cc pc = .ok (.ireturn, 1)) : AtG γ wf nL 0 0 pc lv [.int v] u := by
  intro H locs ls hP hD hS hl
  subst hv hu
  have hQ' := hQ
  unfold QI at hQ'
  rw [hQ']
  exact W.zret C.hx C.hb C.hr hn (fun t ht hW => ⟨⟨v, u, rfl, ⟨rfl, rfl⟩, by rw [ht]; exact hP, va_K.moved hW.alike C.hK, hD⟩, hS.F ht⟩) hS.2.2 hd C.hlocks
theorem x_vret (C : Cx γ cc nL none own rm tys) (hQ : QV γ tys wf u0) (hu : u = u0) (hd : decode cc pc = .ok (.return_, 1)) : AtG γ wf nL 0 0 pc lv [] u := by
  intro H locs ls hP hD hS hl
  subst hu
  have hQ' := hQ
  unfold QV at hQ'
  rw [hQ']
  exact W.vret C.hx C.hb C.hr (fun t ht hW => ⟨⟨u, rfl, rfl, by rw [ht]; exact hP, va_K.moved hW.alike C.hK, hD⟩, hS.F ht⟩) hS.2.2 hd C.hlocks
end XE
/-- contracts over a whole world -/
def CtP {S : Type} (D : va_G) (tys : Tys) (wf : S → va_W) (av : List Value) (u : S) (sz : Nat) : Array Value → State → Prop :=
  va_Pc av (fun U => U.heap.size = sz ∧ va_P D vwCl (wf u) U.heap ∧ va_K D vwCl tys U ∧ va_D (fun _ => True) (wf u) ∧ Nst U)
def CtI {S : Type} (l : Launch) (y : MethodName) (b : ByteArray) (L : Nat) (ret : Option FieldType) (rm : Room) (D : va_G) (tys : Tys) (wf : S → va_W) (av : List Value) (u : S) (r0 : Int32) (u0 : S) : Prop :=
  ∀ sz : Nat, Met l y (.code y b L ret :: WB) rm (CtP D tys wf av u sz) (va_Qi (fun (r : Int32) (u' : S) => r = r0 ∧ u' = u0) (fun (u' : S) (t : State) => va_P D vwCl (wf u') t.heap ∧ va_K D vwCl tys t ∧ va_D (va_A (wf u) sz) (wf u')) (va_A (wf u) sz)) 0 0 (va_A (wf u) sz)
def CtV {S : Type} (l : Launch) (y : MethodName) (b : ByteArray) (L : Nat) (ret : Option FieldType) (rm : Room) (D : va_G) (tys : Tys) (wf : S → va_W) (av : List Value) (u u0 : S) : Prop :=
  ∀ sz : Nat, Met l y (.code y b L ret :: WB) rm (CtP D tys wf av u sz) (va_Qv (fun (u' : S) => u' = u0) (fun (u' : S) (t : State) => va_P D vwCl (wf u') t.heap ∧ va_K D vwCl tys t ∧ va_D (va_A (wf u) sz) (wf u')) (va_A (wf u) sz)) 0 0 (va_A (wf u) sz)
theorem CtP.blind {S : Type} {D : va_G} {tys : Tys} {wf : S → va_W} {av : List Value} {u : S} {sz : Nat} : FrameBlind (CtP D tys wf av u sz) := fun a U g mk q => by
  obtain ⟨q0, q1, qP, qK, qD, qN⟩ := q
  exact ⟨q0, q1, qP, va_K.moved (u := U) (U := U.calling g mk a) (Vm.Alike.refl U.vm) qK, qD, qN.same (U := U.calling g mk a) rfl⟩
section CTO
variable {S : Type} {l : Launch} {y : MethodName} {rm : Room} {D : va_G} {tys : Tys} {wf : S → va_W} {av : List Value} {u u0 : S} {r0 : Int32} {cc : ByteArray} {maxL : Nat} {ret : Option FieldType}
theorem ct_ofI (hy : plainName y.cls = true) (hlen : (lg_sl av).length ≤ maxL) (k : ∀ γ : CX, γl γ = l → γD γ = D → Cx γ cc maxL ret y.cls rm tys → QI γ tys wf r0 u0 → AtG γ wf maxL 0 0 0 (lv_args 0 av) [] u) : CtI l y cc maxL ret rm D tys wf av u r0 u0 := by
  intro sz
  refine Met.ofW (cc := cc) (maxL := maxL) (ret := ret) hy rfl ?_
  intro p e s m args below meth c s₁ B hml hv
  obtain ⟨rfl, hsz, hP, hK, hD0, hN⟩ := hv
  subst hsz
  have hD := hD0.self (sz := s.heap.size)
  have key := k (p, l, e, (headSpec (.code y cc maxL ret :: WB) rm).room, s, m, av.toArray, below, meth, c, MQ below (va_Qi (fun (r : Int32) (u' : S) => r = r0 ∧ u' = u0) (fun (u' : S) (t : State) => va_P D vwCl (wf u') t.heap ∧ va_K D vwCl tys t ∧ va_D (va_A (wf u) s.heap.size) (wf u')) (va_A (wf u) s.heap.size)) av.toArray s 0 0 (va_A (wf u) s.heap.size), D, va_A (wf u) s.heap.size) rfl rfl ⟨B.exec, B.bytes, hml, B.returns, findClass_of_methodNamed B.named, fun w hw => atoms_spec (ws := .code y cc maxL ret :: WB) B.pre w (List.mem_cons_of_mem _ hw), B.notSynchronized, hK, fun q h => Or.inr h, rfl, hN⟩ rfl
  have hl := lv_entry av (n := maxL) hlen
  rw [lg_entry_eq]
  exact key s.heap [] _ hP hD va_S.rf hl
theorem ct_ofV (hy : plainName y.cls = true) (hlen : (lg_sl av).length ≤ maxL) (k : ∀ γ : CX, γl γ = l → γD γ = D → Cx γ cc maxL ret y.cls rm tys → QV γ tys wf u0 → AtG γ wf maxL 0 0 0 (lv_args 0 av) [] u) : CtV l y cc maxL ret rm D tys wf av u u0 := by
  intro sz
  refine Met.ofW (cc := cc) (maxL := maxL) (ret := ret) hy rfl ?_
  intro p e s m args below meth c s₁ B hml hv
  obtain ⟨rfl, hsz, hP, hK, hD0, hN⟩ := hv
  subst hsz
  have hD := hD0.self (sz := s.heap.size)
  have key := k (p, l, e, (headSpec (.code y cc maxL ret :: WB) rm).room, s, m, av.toArray, below, meth, c, MQ below (va_Qv (fun (u' : S) => u' = u0) (fun (u' : S) (t : State) => va_P D vwCl (wf u') t.heap ∧ va_K D vwCl tys t ∧ va_D (va_A (wf u) s.heap.size) (wf u')) (va_A (wf u) s.heap.size)) av.toArray s 0 0 (va_A (wf u) s.heap.size), D, va_A (wf u) s.heap.size) rfl rfl ⟨B.exec, B.bytes, hml, B.returns, findClass_of_methodNamed B.named, fun w hw => atoms_spec (ws := .code y cc maxL ret :: WB) B.pre w (List.mem_cons_of_mem _ hw), B.notSynchronized, hK, fun q h => Or.inr h, rfl, hN⟩ rfl
  have hl := lv_entry av (n := maxL) hlen
  rw [lg_entry_eq]
  exact key s.heap [] _ hP hD va_S.rf hl
end CTO

/-- rooms by rank -/
def rk (k : Nat) : Room := { frames := k, cells := 0, slots := 0, locals := 40 * k }
theorem wb_gi {y : MethodName} {b : ByteArray} {L : Nat} {ret : Option FieldType} (h : Cond.code y b L ret ∈ WB) : GoodIn WB (.code y b L ret :: WB) := fun w hw => (List.mem_cons.mp hw).elim (fun e => by rw [e]; exact ⟨h, wb_good _ h⟩) (fun h => ⟨h, wb_good w h⟩)
/-- what a call asks of the callee -/
def Cal (y : MethodName) (b : ByteArray) (L : Nat) (ret : Option FieldType) (n : Nat) : Prop := Cond.code y b L ret ∈ WB ∧ Cond.initialized y.cls ∈ WB ∧ (y.cls ≠ "java/lang/invoke/MethodHandle" ∧ y.cls ≠ "java/lang/invoke/VarHandle" ∧ (parseMethodDescriptor y.desc).map (fun d => d.parameters.length) = some n)
def Rok (rm2 rm : Room) (L : Nat) : Prop := (rm2.cells = 0 ∧ rm2.slots = 0) ∧ (rm2.frames + 1 ≤ rm.frames ∧ 8 + (L + 11) + rm2.locals ≤ rm.locals)
section XC
variable {S : Type} {γ : CX} {cc : ByteArray} {nL : Nat} {ret : Option FieldType} {own : String} {rm : Room} {tys : Tys} {wf : S → va_W} {pc : Nat} {lv : List (Nat × Value)} {rest st : List Value} {u u0 : S}
variable {y : MethodName} {b : ByteArray} {L n index : Nat} {ret2 : Option FieldType} {rm2 : Room} {As : List Value} {r0 : Int32}
theorem xc_free {H : Heap} {locs : List Loc} (C : Cx γ cc nL ret own rm tys) (hD : va_D (γA γ) (wf u)) (hS : va_S (γA γ) (γs γ).heap H locs) : ∀ q, va_A (wf u) H.size q → γA γ q := by
  rintro q (⟨k, e, hk⟩ | h)
  · exact hD.2 k (q, e) hk
  · exact C.hA q (Nat.le_trans hS.1 h)
theorem xc_pre {H : Heap} (C : Cx γ cc nL ret own rm tys) (hP : va_P (γD γ) vwCl (wf u) H) (hD : va_D (γA γ) (wf u)) (av : List Value) : PreS (γs γ) H (CtP (γD γ) tys wf av u H.size) av :=
  ⟨CtP.blind, fun U hU hW => ⟨rfl, by rw [hU], by rw [hU]; exact hP, va_K.moved hW.alike C.hK, hD.weaken (fun _ _ _ _ => trivial), C.hN.warm hW⟩⟩
theorem xc_B (C : Cx γ cc nL ret own rm tys) (hc : Cal y b L ret2 n) (hr : Rok rm2 rm L) (hl : Cond.methodLink own index y ∈ WB) : CallB (γR γ) (γs γ) (γa γ) own index y b L ret2 (.code y b L ret2 :: WB) rm2 0 0 n := by
  rw [C.hR]
  exact callB_of n C.hts (wb_gi hc.1) rfl hr.1.1 hr.1.2 (C.hts _ hc.2.1) (C.hts _ hl) hc.2.2 hr.2
theorem xc_N (C : Cx γ cc nL ret own rm tys) (hc : Cal y b L ret2 n) (hr : Rok rm2 rm L) (hl : (own, index, y) ∈ nestQ) : va_CN (γR γ) (γs γ) (γa γ) own index y "PackagePick" b L ret2 (.code y b L ret2 :: WB) rm2 0 0 n := by
  rw [C.hR]
  exact va_cnB n C.hts (wb_gi hc.1) rfl hr.1.1 hr.1.2 (C.hN _ hl) (C.hts _ hc.2.1) hc.2.2 hr.2
theorem xc_room (C : Cx γ cc nL ret own rm tys) : 0 + 0 ≤ (γR γ).cells ∧ 0 + 0 ≤ (γR γ).slots := ⟨Nat.zero_le _, Nat.zero_le _⟩
theorem x_callIs (C : Cx γ cc nL ret own rm tys) (hct : CtI (γl γ) y b L ret2 rm2 (γD γ) tys wf As u r0 u0) (hc : Cal y b L ret2 n) (hr : Rok rm2 rm L) (hl : Cond.methodLink own index y ∈ WB) (hs : Cond.static y ∈ WB) (hn : As.length = n) (hst : st = As.reverse ++ rest) (h8 : (rest.map fun v => v.category).sum ≤ 8) (hd : decode cc pc = .ok (.invokestatic index, 3)) (k : AtG γ wf nL 0 0 (pc + 3) lv (.int r0 :: rest) u0) : AtG γ wf nL 0 0 pc lv st u := by
  intro H locs ls hP hD hS hl1
  have hF := xc_free C hD hS
  refine va_calli (va_runS (As := As) (rest := rest) ⟨C.hx, C.hb, C.hml, C.hown, C.hts⟩ (hct H.size) ⟨xc_B C hc hr hl, C.hts _ hs⟩ (xc_pre C hP hD As) rfl hn hl1.1 hst (lv_room h8) hd (xc_room C)) hS (fun q _ h => hF q h) hF (fun r u1 t H1 locs1 ht hvm hw hB hz1 hk1 hS1 => ?_)
  obtain ⟨rfl, rfl⟩ := hw
  obtain ⟨hP1, hK1, hD1⟩ := hB
  rw [ht] at hP1
  exact k H1 locs1 ls hP1 (hD1.weaken (fun _ q _ h => hF q.1 h)) hS1 hl1
theorem x_callIn (C : Cx γ cc nL ret own rm tys) (hct : CtI (γl γ) y b L ret2 rm2 (γD γ) tys wf As u r0 u0) (hc : Cal y b L ret2 n) (hr : Rok rm2 rm L) (hl : (own, index, y) ∈ nestQ) (hs : Cond.static y ∈ WB) (hn : As.length = n) (hst : st = As.reverse ++ rest) (h8 : (rest.map fun v => v.category).sum ≤ 8) (hd : decode cc pc = .ok (.invokestatic index, 3)) (k : AtG γ wf nL 0 0 (pc + 3) lv (.int r0 :: rest) u0) : AtG γ wf nL 0 0 pc lv st u := by
  intro H locs ls hP hD hS hl1
  have hF := xc_free C hD hS
  refine va_calli (va_runSN (As := As) (rest := rest) ⟨C.hx, C.hb, C.hml, C.hown, C.hts⟩ (hct H.size) ⟨xc_N C hc hr hl, C.hts _ hs, trivial⟩ (xc_pre C hP hD As) rfl hn hl1.1 hst (lv_room h8) hd (xc_room C)) hS (fun q _ h => hF q h) hF (fun r u1 t H1 locs1 ht hvm hw hB hz1 hk1 hS1 => ?_)
  obtain ⟨rfl, rfl⟩ := hw
  obtain ⟨hP1, hK1, hD1⟩ := hB
  rw [ht] at hP1
  exact k H1 locs1 ls hP1 (hD1.weaken (fun _ q _ h => hF q.1 h)) hS1 hl1
variable {Cn : String} {T : u_T} {N ci q0 a : Nat} {fs : List Value}
theorem x_callIv (C : Cx γ cc nL ret own rm tys) (hct : CtI (γl γ) y b L ret2 rm2 (γD γ) tys wf (.ref a :: As) u r0 u0) (hc : Cal y b L ret2 n) (hr : Rok rm2 rm L) (hl : Cond.methodLink own index y ∈ WB) (hs : Cond.instanceMethod y ∈ WB) (hse : Cond.selects Cn y y ∈ WB) (hcl : vwCl[ci]? = some (Cn, T, N)) (he : (wf u)[q0]? = some (a, .inr (ci, fs))) (hn : As.length = n) (hst : st = As.reverse ++ .ref a :: rest) (h8 : (rest.map fun v => v.category).sum ≤ 8) (hd : decode cc pc = .ok (.invokevirtual index, 3)) (k : AtG γ wf nL 0 0 (pc + 3) lv (.int r0 :: rest) u0) : AtG γ wf nL 0 0 pc lv st u := by
  intro H locs ls hP hD hS hl1
  have hF := xc_free C hD hS
  have hpre := xc_pre C hP hD (.ref a :: As)
  refine va_calli (va_runV (As := As) (rest := rest) ⟨C.hx, C.hb, C.hml, C.hown, C.hts⟩ (hct H.size) ⟨xc_B C hc hr hl, C.hts _ hs, C.hts _ hse⟩ ⟨hpre.1, va_recv C.hK hP hcl he, hpre.2⟩ rfl hn hl1.1 hst (lv_room h8) hd (xc_room C)) hS (fun q _ h => hF q h) hF (fun r u1 t H1 locs1 ht hvm hw hB hz1 hk1 hS1 => ?_)
  obtain ⟨rfl, rfl⟩ := hw
  obtain ⟨hP1, hK1, hD1⟩ := hB
  rw [ht] at hP1
  exact k H1 locs1 ls hP1 (hD1.weaken (fun _ q _ h => hF q.1 h)) hS1 hl1
theorem x_callVv (C : Cx γ cc nL ret own rm tys) (hct : CtV (γl γ) y b L ret2 rm2 (γD γ) tys wf (.ref a :: As) u u0) (hc : Cal y b L ret2 n) (hr : Rok rm2 rm L) (hl : Cond.methodLink own index y ∈ WB) (hs : Cond.instanceMethod y ∈ WB) (hse : Cond.selects Cn y y ∈ WB) (hcl : vwCl[ci]? = some (Cn, T, N)) (he : (wf u)[q0]? = some (a, .inr (ci, fs))) (hn : As.length = n) (hst : st = As.reverse ++ .ref a :: rest) (h8 : (rest.map fun v => v.category).sum ≤ 8) (hd : decode cc pc = .ok (.invokevirtual index, 3)) (k : AtG γ wf nL 0 0 (pc + 3) lv rest u0) : AtG γ wf nL 0 0 pc lv st u := by
  intro H locs ls hP hD hS hl1
  have hF := xc_free C hD hS
  have hpre := xc_pre C hP hD (.ref a :: As)
  refine va_callv (va_runV (As := As) (rest := rest) ⟨C.hx, C.hb, C.hml, C.hown, C.hts⟩ (hct H.size) ⟨xc_B C hc hr hl, C.hts _ hs, C.hts _ hse⟩ ⟨hpre.1, va_recv C.hK hP hcl he, hpre.2⟩ rfl hn hl1.1 hst (lv_room h8) hd (xc_room C)) hS (fun q _ h => hF q h) hF (fun u1 t H1 locs1 ht hvm hw hB hz1 hk1 hS1 => ?_)
  subst hw
  obtain ⟨hP1, hK1, hD1⟩ := hB
  rw [ht] at hP1
  exact k H1 locs1 ls hP1 (hD1.weaken (fun _ q _ h => hF q.1 h)) hS1 hl1
/-- fields -/
theorem x_get (C : Cx γ cc nL ret own rm tys) {cs sl kf : Nat} {v : Value} (hin : ∀ w ∈ u_ws Cn T N, w ∈ WB) (he : (wf u)[q0]? = some (a, .inr (ci, fs))) (hcl : vwCl[ci]? = some (Cn, T, N)) (hk : kf < N) (hl : Cond.fieldLink own index (T kf).1 (T kf).2.1 (T kf).2.2.1 ∈ WB) (hv : fs[kf]? = some v) (hd : decode cc pc = .ok (.getfield index, 3)) (k : AtG γ wf nL cs sl (pc + 3) lv (v :: rest) u) : AtG γ wf nL cs sl pc lv (.ref a :: rest) u :=
  fun H locs ls hP hD hS hl1 => va_get (D := γD γ) (ci := ci) (C := Cn) (T := T) (N := N) C.hx C.hb C.hts hin C.hown C.hK hP q0 he hcl kf hk (C.hts _ hl) (fun _ h9 => h9) hv hd (k H locs ls hP hD hS hl1)
theorem x_put (C : Cx γ cc nL ret own rm tys) {cs sl kf : Nat} {v : Value} {ty : FieldType} {ty0 : Nat → FieldType} (hin : ∀ w ∈ u_ws Cn T N, w ∈ WB) (hty : ∀ k, k < N → parseFieldDescriptor (T k).2.2.1 = some (ty0 k)) (hnm : ∀ a, a < N → ∀ b, b < N → a ≠ b → (T a).2.1 ≠ (T b).2.1) (he : (wf u)[q0]? = some (a, .inr (ci, fs))) (hcl : vwCl[ci]? = some (Cn, T, N)) (hk : kf < N) (hl : Cond.fieldLink own index (T kf).1 (T kf).2.1 (T kf).2.2.1 ∈ WB) (hfin : (T kf).2.2.2 = false) (hdd : parseFieldDescriptor (T kf).2.2.1 = some ty) (hnv : narrow ty v = v) (hfit : fits ty v = true) (hlen : kf < fs.length) (hset : (wf u).set q0 (a, .inr (ci, fs.set kf v)) = wf u0) (hd : decode cc pc = .ok (.putfield index, 3)) (k : AtG γ wf nL cs sl (pc + 3) lv rest u0) : AtG γ wf nL cs sl pc lv (v :: .ref a :: rest) u :=
  fun H locs ls hP hD hS hl1 => va_put (D := γD γ) (ci := ci) (C := Cn) (T := T) (N := N) C.hx C.hb C.hts hin ty0 hty hnm C.hown C.hK hP hD hS q0 he hcl kf hk (C.hts _ hl) (fun _ h9 => h9) hfin hdd hnv hfit hlen hd (fun H1 locs1 hP1 hD1 hS1 => k H1 locs1 ls (hset ▸ hP1) (hset ▸ hD1) hS1 hl1)
/-- arrays -/
theorem x_iald (C : Cx γ cc nL ret own rm tys) {cs sl t0 nn : Nat} {cA : ClassId} {f : Nat → Int32} {i v : Int32} (ha : (wf u)[q0]? = some (a, .inl (cA, nn, .inl f))) (ht : tys[t0]? = some (cA, .int)) (hin : inb i nn = true) (hv : f i.toNatClampNeg = v) (hd : decode cc pc = .ok (.iaload, 1)) (k : AtG γ wf nL cs sl (pc + 1) lv (.int v :: rest) u) : AtG γ wf nL cs sl pc lv (.int i :: .ref a :: rest) u := by
  subst hv
  exact fun H locs ls hP hD hS hl1 => va_iald C.hx C.hb C.hK hP q0 t0 ha ht (inb_in hin) hd (k H locs ls hP hD hS hl1)
theorem x_zald (C : Cx γ cc nL ret own rm tys) {cs sl t0 nn : Nat} {cA : ClassId} {f : Nat → Int32} {i v : Int32} (ha : (wf u)[q0]? = some (a, .inl (cA, nn, .inl f))) (ht : tys[t0]? = some (cA, .boolean)) (hin : inb i nn = true) (hv : f i.toNatClampNeg = v) (hd : decode cc pc = .ok (.baload, 1)) (k : AtG γ wf nL cs sl (pc + 1) lv (.int v :: rest) u) : AtG γ wf nL cs sl pc lv (.int i :: .ref a :: rest) u := by
  subst hv
  exact fun H locs ls hP hD hS hl1 => va_zald C.hx C.hb C.hK hP q0 t0 ha ht (inb_in hin) hd (k H locs ls hP hD hS hl1)
theorem x_iast (C : Cx γ cc nL ret own rm tys) {cs sl t0 nn : Nat} {cA : ClassId} {f : Nat → Int32} {i x : Int32} (ha : (wf u)[q0]? = some (a, .inl (cA, nn, .inl f))) (ht : tys[t0]? = some (cA, .int)) (hin : inb i nn = true) (hset : (wf u).set q0 (a, .inl (cA, nn, .inl (upd f i.toNatClampNeg x))) = wf u0) (hd : decode cc pc = .ok (.iastore, 1)) (k : AtG γ wf nL cs sl (pc + 1) lv rest u0) : AtG γ wf nL cs sl pc lv (.int x :: .int i :: .ref a :: rest) u :=
  fun H locs ls hP hD hS hl1 => va_iast C.hx C.hb C.hK hP hD hS q0 t0 ha ht (inb_in hin) hd (fun H1 locs1 hP1 hD1 hS1 => k H1 locs1 ls (hset ▸ hP1) (hset ▸ hD1) hS1 hl1)
theorem x_zast (C : Cx γ cc nL ret own rm tys) {cs sl t0 nn : Nat} {cA : ClassId} {f : Nat → Int32} {i x : Int32} (ha : (wf u)[q0]? = some (a, .inl (cA, nn, .inl f))) (ht : tys[t0]? = some (cA, .boolean)) (hin : inb i nn = true) (hz : vp_nar .boolean x = x) (hset : (wf u).set q0 (a, .inl (cA, nn, .inl (upd f i.toNatClampNeg x))) = wf u0) (hd : decode cc pc = .ok (.bastore, 1)) (k : AtG γ wf nL cs sl (pc + 1) lv rest u0) : AtG γ wf nL cs sl pc lv (.int x :: .int i :: .ref a :: rest) u :=
  fun H locs ls hP hD hS hl1 => va_zast C.hx C.hb C.hK hP hD hS q0 t0 ha ht (inb_in hin) hd (fun H1 locs1 hP1 hD1 hS1 => by
    rw [hz] at hP1 hD1
    exact k H1 locs1 ls (hset ▸ hP1) (hset ▸ hD1) hS1 hl1)
theorem x_alen (C : Cx γ cc nL ret own rm tys) {cs sl t0 : Nat} {cA : ClassId} {x : vp_A} {ty : FieldType} {v : Int32} (ha : (wf u)[q0]? = some (a, .inl (cA, x))) (ht : tys[t0]? = some (cA, ty)) (hv : Int32.ofNat x.1 = v) (hd : decode cc pc = .ok (.arraylength, 1)) (k : AtG γ wf nL cs sl (pc + 1) lv (.int v :: rest) u) : AtG γ wf nL cs sl pc lv (.ref a :: rest) u :=
  fun H locs ls hP hD hS hl1 => va_alen C.hx C.hb C.hK hP q0 t0 ha ht hv hd (k H locs ls hP hD hS hl1)
def jmin (x y : Int32) : Int32 := if y < x then y else x
theorem x_mmin (C : Cx γ cc nL ret own rm tys) {x z : Int32} (hl : Cond.methodLink own index y_K_min ∈ WB) (hr : 1 ≤ rm.frames ∧ (rest.map fun v => v.category).sum + 13 ≤ rm.locals) (hd : decode cc pc = .ok (.invokestatic index, 3)) (k : AtG γ wf nL 0 0 (pc + 3) lv (.int (jmin x z) :: rest) u) : AtG γ wf nL 0 0 pc lv (.int z :: .int x :: rest) u :=
  fun H locs ls hP hD hS hl1 => va_mmin C.hx C.hb (by rw [C.hml]; exact hl1.1.symm) C.hown (C.hts _ hl) (C.hts _ ms_K_min) (C.hts _ mi_Math) (C.hts _ mc_K_min) (by rw [C.hR]; exact hr.1) (by rw [C.hR]; exact hr.2) (Nat.zero_le _) (Nat.zero_le _) hd (k H locs ls hP hD hS hl1)
end XC
end
section
theorem rok {j k L : Nat} (h : j + 1 ≤ k) (hL : L ≤ 21) : Rok (rk j) (rk k) L := ⟨⟨rfl, rfl⟩, h, by show 8 + (L + 11) + 40 * j ≤ 40 * k; omega⟩
theorem rmin0 {k : Nat} (h : 1 ≤ k) : 1 ≤ (rk k).frames ∧ ((([] : List Value)).map fun v => v.category).sum + 13 ≤ (rk k).locals := ⟨h, by show 0 + 13 ≤ 40 * k; omega⟩
theorem sw_out_0_6 {x : Int32} (h0 : ¬ x = 0) (h1 : ¬ x = 1) (h2 : ¬ x = 2) (h3 : ¬ x = 3) (h4 : ¬ x = 4) (h5 : ¬ x = 5) (h6 : ¬ x = 6) : x.toInt < 0 ∨ 6 < x.toInt := by
  rw [← Int32.toInt_inj] at h0 h1 h2 h3 h4 h5 h6
  have e : ∀ n : Int32, n.toInt = n.toInt := fun _ => rfl
  simp only [show (0 : Int32).toInt = 0 from rfl, show (1 : Int32).toInt = 1 from rfl, show (2 : Int32).toInt = 2 from rfl, show (3 : Int32).toInt = 3 from rfl, show (4 : Int32).toInt = 4 from rfl, show (5 : Int32).toInt = 5 from rfl, show (6 : Int32).toInt = 6 from rfl] at h0 h1 h2 h3 h4 h5 h6
  omega
theorem sw_lk_1_2 {x : Int32} {a b : Int} (h1 : ¬ x = 1) (h2 : ¬ x = 2) : ∀ q ∈ (#[((1 : Int), a), ((2 : Int), b)] : Array (Int × Int)).toList, ¬ q.1 = x.toInt := by
  rw [← Int32.toInt_inj] at h1 h2
  simp only [show (1 : Int32).toInt = 1 from rfl, show (2 : Int32).toInt = 2 from rfl] at h1 h2
  intro q hq
  simp at hq
  rcases hq with rfl | rfl
  · show ¬ (1 : Int) = _; omega
  · show ¬ (2 : Int) = _; omega
theorem kc_X_version : Cal y_X_version b_X_version 3 (some .boolean) 2 := ⟨mc_X_version, mi_PackagePick, by decide +kernel⟩
theorem kc_X_isVersion : Cal y_X_isVersion b_X_isVersion 2 (some .boolean) 2 := ⟨mc_X_isVersion, mi_PackagePick, by decide +kernel⟩
theorem kc_X_isPackage : Cal y_X_isPackage b_X_isPackage 1 (some .boolean) 1 := ⟨mc_X_isPackage, mi_PackagePick, by decide +kernel⟩
theorem kc_X_slotOf : Cal y_X_slotOf b_X_slotOf 2 (some .int) 2 := ⟨mc_X_slotOf, mi_PackagePick, by decide +kernel⟩
theorem kc_X_placeOf : Cal y_X_placeOf b_X_placeOf 1 (some .int) 1 := ⟨mc_X_placeOf, mi_PackagePick, by decide +kernel⟩
theorem kc_C_add : Cal y_C_add b_C_add 2 (some .boolean) 1 := ⟨mc_C_add, mi_PackagePick_Catalog, by decide +kernel⟩
theorem kc_X_isSlot : Cal y_X_isSlot b_X_isSlot 1 (some .boolean) 1 := ⟨mc_X_isSlot, mi_PackagePick, by decide +kernel⟩
theorem kc_C_has : Cal y_C_has b_C_has 2 (some .boolean) 1 := ⟨mc_C_has, mi_PackagePick_Catalog, by decide +kernel⟩
theorem kc_X_holds : Cal y_X_holds b_X_holds 2 (some .boolean) 2 := ⟨mc_X_holds, mi_PackagePick, by decide +kernel⟩
theorem kc_X_need : Cal y_X_need b_X_need 6 (some .boolean) 5 := ⟨mc_X_need, mi_PackagePick, by decide +kernel⟩
theorem kc_X_isNeed : Cal y_X_isNeed b_X_isNeed 3 (some .boolean) 3 := ⟨mc_X_isNeed, mi_PackagePick, by decide +kernel⟩
theorem kc_X_markOf : Cal y_X_markOf b_X_markOf 1 (some .int) 1 := ⟨mc_X_markOf, mi_PackagePick, by decide +kernel⟩
theorem kc_X_outside : Cal y_X_outside b_X_outside 4 (some .int) 3 := ⟨mc_X_outside, mi_PackagePick, by decide +kernel⟩
theorem kc_C_addNeed : Cal y_C_addNeed b_C_addNeed 4 (some .boolean) 3 := ⟨mc_C_addNeed, mi_PackagePick_Catalog, by decide +kernel⟩
theorem kc_X_drop : Cal y_X_drop b_X_drop 3 (some .boolean) 2 := ⟨mc_X_drop, mi_PackagePick, by decide +kernel⟩
theorem kc_C_remove : Cal y_C_remove b_C_remove 2 (some .boolean) 1 := ⟨mc_C_remove, mi_PackagePick_Catalog, by decide +kernel⟩
theorem kc_X_ban : Cal y_X_ban b_X_ban 5 (some .boolean) 4 := ⟨mc_X_ban, mi_PackagePick, by decide +kernel⟩
theorem kc_C_addBan : Cal y_C_addBan b_C_addBan 3 (some .boolean) 2 := ⟨mc_C_addBan, mi_PackagePick_Catalog, by decide +kernel⟩
theorem kc_X_ask : Cal y_X_ask b_X_ask 4 (some .boolean) 3 := ⟨mc_X_ask, mi_PackagePick, by decide +kernel⟩
theorem kc_W_add : Cal y_W_add b_W_add 3 (some .boolean) 2 := ⟨mc_W_add, mi_PackagePick_Wishes, by decide +kernel⟩
theorem kc_X_take : Cal y_X_take b_X_take 2 (some .boolean) 1 := ⟨mc_X_take, mi_PackagePick, by decide +kernel⟩
theorem kc_W_remove : Cal y_W_remove b_W_remove 3 (some .boolean) 1 := ⟨mc_W_remove, mi_PackagePick_Wishes, by decide +kernel⟩
theorem kc_X_keep : Cal y_X_keep b_X_keep 2 (some .int) 0 := ⟨mc_X_keep, mi_PackagePick, by decide +kernel⟩
theorem kc_X_differing : Cal y_X_differing b_X_differing 2 (some .int) 2 := ⟨mc_X_differing, mi_PackagePick, by decide +kernel⟩
theorem kc_X_marksOf : Cal y_X_marksOf b_X_marksOf 1 (some .int) 1 := ⟨mc_X_marksOf, mi_PackagePick, by decide +kernel⟩
theorem kc_J_bitCount : Cal y_J_bitCount b_J_bitCount 1 (some .int) 1 := ⟨mc_J_bitCount, mi_Integer, by decide +kernel⟩
theorem kc_X_chosen : Cal y_X_chosen b_X_chosen 3 (some .int) 1 := ⟨mc_X_chosen, mi_PackagePick, by decide +kernel⟩
theorem kc_X_many : Cal y_X_many b_X_many 1 (some .int) 0 := ⟨mc_X_many, mi_PackagePick, by decide +kernel⟩
theorem kc_W_all : Cal y_W_all b_W_all 3 (some .int) 0 := ⟨mc_W_all, mi_PackagePick_Wishes, by decide +kernel⟩
theorem kc_X_wishBit : Cal y_X_wishBit b_X_wishBit 1 (some .int) 1 := ⟨mc_X_wishBit, mi_PackagePick, by decide +kernel⟩
theorem kc_X_tallyChoices : Cal y_X_tallyChoices b_X_tallyChoices 6 none 3 := ⟨mc_X_tallyChoices, mi_PackagePick, by decide +kernel⟩
theorem kc_T_begin : Cal y_T_begin b_T_begin 4 none 3 := ⟨mc_T_begin, mi_PackagePick_Tally, by decide +kernel⟩
theorem kc_W_union : Cal y_W_union b_W_union 5 (some .int) 2 := ⟨mc_W_union, mi_PackagePick_Wishes, by decide +kernel⟩
theorem kc_X_explore : Cal y_X_explore b_X_explore 10 none 4 := ⟨mc_X_explore, mi_PackagePick, by decide +kernel⟩
theorem kc_T_isFull : Cal y_T_isFull b_T_isFull 1 (some .boolean) 0 := ⟨mc_T_isFull, mi_PackagePick_Tally, by decide +kernel⟩
theorem kc_T_enter : Cal y_T_enter b_T_enter 3 none 1 := ⟨mc_T_enter, mi_PackagePick_Tally, by decide +kernel⟩
theorem kc_T_costOf : Cal y_T_costOf b_T_costOf 2 (some .int) 1 := ⟨mc_T_costOf, mi_PackagePick_Tally, by decide +kernel⟩
theorem kc_X_lowestPlace : Cal y_X_lowestPlace b_X_lowestPlace 1 (some .int) 1 := ⟨mc_X_lowestPlace, mi_PackagePick, by decide +kernel⟩
theorem kc_X_can : Cal y_X_can b_X_can 3 (some .int) 1 := ⟨mc_X_can, mi_PackagePick, by decide +kernel⟩
theorem kc_X_count : Cal y_X_count b_X_count 2 (some .int) 1 := ⟨mc_X_count, mi_PackagePick, by decide +kernel⟩
theorem kc_C_allNeeds : Cal y_C_allNeeds b_C_allNeeds 3 (some .int) 0 := ⟨mc_C_allNeeds, mi_PackagePick_Catalog, by decide +kernel⟩
theorem kc_X_solve : Cal y_X_solve b_X_solve 2 (some .int) 1 := ⟨mc_X_solve, mi_PackagePick, by decide +kernel⟩
theorem kc_X_fewestHindering : Cal y_X_fewestHindering b_X_fewestHindering 4 (some .int) 0 := ⟨mc_X_fewestHindering, mi_PackagePick, by decide +kernel⟩
theorem kc_X_hasChoice : Cal y_X_hasChoice b_X_hasChoice 2 (some .boolean) 1 := ⟨mc_X_hasChoice, mi_PackagePick, by decide +kernel⟩
theorem kc_X_core : Cal y_X_core b_X_core 4 (some .int) 1 := ⟨mc_X_core, mi_PackagePick, by decide +kernel⟩
def WX (cI : ClassId) (h : Nat → Nat) (u : PS) : va_W := [(h 0, .inr (3, [.ref (h 1), .ref (h 2), .ref (h 3), .int (u.1 0), .int (u.1 1), .int (u.1 2)])),
  (h 1, .inr (0, [.ref (h 4), .ref (h 5), .ref (h 6), .ref (h 7), .int (u.1 3), .int (u.1 4)])),
  (h 2, .inr (2, [.ref (h 8), .ref (h 9), .int (u.1 5)])),
  (h 3, .inr (1, [.int (u.1 6), .int (u.1 7), .int (u.1 8), .int (u.1 9), .int (u.1 10), .int (u.1 11), .int (u.1 12), .int (u.1 13)])),
  (h 4, .inl (cI, 28, .inl (u.2 0))),
  (h 5, .inl (cI, 28, .inl (u.2 1))),
  (h 6, .inl (cI, 28, .inl (u.2 2))),
  (h 7, .inl (cI, 28, .inl (u.2 3))),
  (h 8, .inl (cI, 6, .inl (u.2 4))),
  (h 9, .inl (cI, 6, .inl (u.2 5)))]
theorem gX_X_catalog {γ : CX} {cI : ClassId} {h : Nat → Nat} {cc : ByteArray} {nL : Nat} {ret : Option FieldType} {own : String} {rm : Room} {pc : Nat} {lv : List (Nat × Value)} {rest : List Value} {u : PS} {cs sl index : Nat} (C : Cx γ cc nL ret own rm [(cI, .int)]) (hl : Cond.fieldLink own index "PackagePick" "catalog" "LPackagePick$Catalog;" ∈ WB) (hd : decode cc pc = .ok (.getfield index, 3)) (k : AtG γ (WX cI h) nL cs sl (pc + 3) lv (.ref (h 1) :: rest) u) : AtG γ (WX cI h) nL cs sl pc lv (.ref (h 0) :: rest) u :=
  x_get (q0 := 0) (ci := 3) (kf := 0) C mu_X rfl rfl (by decide) hl rfl hd k
theorem gX_X_wishes {γ : CX} {cI : ClassId} {h : Nat → Nat} {cc : ByteArray} {nL : Nat} {ret : Option FieldType} {own : String} {rm : Room} {pc : Nat} {lv : List (Nat × Value)} {rest : List Value} {u : PS} {cs sl index : Nat} (C : Cx γ cc nL ret own rm [(cI, .int)]) (hl : Cond.fieldLink own index "PackagePick" "wishes" "LPackagePick$Wishes;" ∈ WB) (hd : decode cc pc = .ok (.getfield index, 3)) (k : AtG γ (WX cI h) nL cs sl (pc + 3) lv (.ref (h 2) :: rest) u) : AtG γ (WX cI h) nL cs sl pc lv (.ref (h 0) :: rest) u :=
  x_get (q0 := 0) (ci := 3) (kf := 1) C mu_X rfl rfl (by decide) hl rfl hd k
theorem gX_X_tally {γ : CX} {cI : ClassId} {h : Nat → Nat} {cc : ByteArray} {nL : Nat} {ret : Option FieldType} {own : String} {rm : Room} {pc : Nat} {lv : List (Nat × Value)} {rest : List Value} {u : PS} {cs sl index : Nat} (C : Cx γ cc nL ret own rm [(cI, .int)]) (hl : Cond.fieldLink own index "PackagePick" "tally" "LPackagePick$Tally;" ∈ WB) (hd : decode cc pc = .ok (.getfield index, 3)) (k : AtG γ (WX cI h) nL cs sl (pc + 3) lv (.ref (h 3) :: rest) u) : AtG γ (WX cI h) nL cs sl pc lv (.ref (h 0) :: rest) u :=
  x_get (q0 := 0) (ci := 3) (kf := 2) C mu_X rfl rfl (by decide) hl rfl hd k
theorem gX_X_told {γ : CX} {cI : ClassId} {h : Nat → Nat} {cc : ByteArray} {nL : Nat} {ret : Option FieldType} {own : String} {rm : Room} {pc : Nat} {lv : List (Nat × Value)} {rest : List Value} {u : PS} {cs sl index : Nat} {v : Int32} (C : Cx γ cc nL ret own rm [(cI, .int)]) (hl : Cond.fieldLink own index "PackagePick" "told" "I" ∈ WB) (hv : u.1 0 = v) (hd : decode cc pc = .ok (.getfield index, 3)) (k : AtG γ (WX cI h) nL cs sl (pc + 3) lv (.int v :: rest) u) : AtG γ (WX cI h) nL cs sl pc lv (.ref (h 0) :: rest) u := by
  subst hv
  exact x_get (q0 := 0) (ci := 3) (kf := 3) C mu_X rfl rfl (by decide) hl rfl hd k
theorem pX_X_told {γ : CX} {cI : ClassId} {h : Nat → Nat} {cc : ByteArray} {nL : Nat} {ret : Option FieldType} {own : String} {rm : Room} {pc : Nat} {lv : List (Nat × Value)} {rest : List Value} {u : PS} {cs sl index : Nat} {v : Int32} (C : Cx γ cc nL ret own rm [(cI, .int)]) (hl : Cond.fieldLink own index "PackagePick" "told" "I" ∈ WB) (hd : decode cc pc = .ok (.putfield index, 3)) (k : AtG γ (WX cI h) nL cs sl (pc + 3) lv rest (si u 0 v)) : AtG γ (WX cI h) nL cs sl pc lv (.int v :: .ref (h 0) :: rest) u :=
  x_put (q0 := 0) (ci := 3) (kf := 3) (ty := .int) C mu_X ft_X_ok fn_X rfl rfl (by decide) hl rfl (by decide +kernel) rfl rfl (Nat.le_of_ble_eq_true rfl) rfl hd k
theorem gX_X_kept {γ : CX} {cI : ClassId} {h : Nat → Nat} {cc : ByteArray} {nL : Nat} {ret : Option FieldType} {own : String} {rm : Room} {pc : Nat} {lv : List (Nat × Value)} {rest : List Value} {u : PS} {cs sl index : Nat} {v : Int32} (C : Cx γ cc nL ret own rm [(cI, .int)]) (hl : Cond.fieldLink own index "PackagePick" "kept" "I" ∈ WB) (hv : u.1 1 = v) (hd : decode cc pc = .ok (.getfield index, 3)) (k : AtG γ (WX cI h) nL cs sl (pc + 3) lv (.int v :: rest) u) : AtG γ (WX cI h) nL cs sl pc lv (.ref (h 0) :: rest) u := by
  subst hv
  exact x_get (q0 := 0) (ci := 3) (kf := 4) C mu_X rfl rfl (by decide) hl rfl hd k
theorem pX_X_kept {γ : CX} {cI : ClassId} {h : Nat → Nat} {cc : ByteArray} {nL : Nat} {ret : Option FieldType} {own : String} {rm : Room} {pc : Nat} {lv : List (Nat × Value)} {rest : List Value} {u : PS} {cs sl index : Nat} {v : Int32} (C : Cx γ cc nL ret own rm [(cI, .int)]) (hl : Cond.fieldLink own index "PackagePick" "kept" "I" ∈ WB) (hd : decode cc pc = .ok (.putfield index, 3)) (k : AtG γ (WX cI h) nL cs sl (pc + 3) lv rest (si u 1 v)) : AtG γ (WX cI h) nL cs sl pc lv (.int v :: .ref (h 0) :: rest) u :=
  x_put (q0 := 0) (ci := 3) (kf := 4) (ty := .int) C mu_X ft_X_ok fn_X rfl rfl (by decide) hl rfl (by decide +kernel) rfl rfl (Nat.le_of_ble_eq_true rfl) rfl hd k
theorem gX_X_hindering {γ : CX} {cI : ClassId} {h : Nat → Nat} {cc : ByteArray} {nL : Nat} {ret : Option FieldType} {own : String} {rm : Room} {pc : Nat} {lv : List (Nat × Value)} {rest : List Value} {u : PS} {cs sl index : Nat} {v : Int32} (C : Cx γ cc nL ret own rm [(cI, .int)]) (hl : Cond.fieldLink own index "PackagePick" "hindering" "I" ∈ WB) (hv : u.1 2 = v) (hd : decode cc pc = .ok (.getfield index, 3)) (k : AtG γ (WX cI h) nL cs sl (pc + 3) lv (.int v :: rest) u) : AtG γ (WX cI h) nL cs sl pc lv (.ref (h 0) :: rest) u := by
  subst hv
  exact x_get (q0 := 0) (ci := 3) (kf := 5) C mu_X rfl rfl (by decide) hl rfl hd k
theorem pX_X_hindering {γ : CX} {cI : ClassId} {h : Nat → Nat} {cc : ByteArray} {nL : Nat} {ret : Option FieldType} {own : String} {rm : Room} {pc : Nat} {lv : List (Nat × Value)} {rest : List Value} {u : PS} {cs sl index : Nat} {v : Int32} (C : Cx γ cc nL ret own rm [(cI, .int)]) (hl : Cond.fieldLink own index "PackagePick" "hindering" "I" ∈ WB) (hd : decode cc pc = .ok (.putfield index, 3)) (k : AtG γ (WX cI h) nL cs sl (pc + 3) lv rest (si u 2 v)) : AtG γ (WX cI h) nL cs sl pc lv (.int v :: .ref (h 0) :: rest) u :=
  x_put (q0 := 0) (ci := 3) (kf := 5) (ty := .int) C mu_X ft_X_ok fn_X rfl rfl (by decide) hl rfl (by decide +kernel) rfl rfl (Nat.le_of_ble_eq_true rfl) rfl hd k
theorem gX_C_needs {γ : CX} {cI : ClassId} {h : Nat → Nat} {cc : ByteArray} {nL : Nat} {ret : Option FieldType} {own : String} {rm : Room} {pc : Nat} {lv : List (Nat × Value)} {rest : List Value} {u : PS} {cs sl index : Nat} (C : Cx γ cc nL ret own rm [(cI, .int)]) (hl : Cond.fieldLink own index "PackagePick$Catalog" "needs" "[I" ∈ WB) (hd : decode cc pc = .ok (.getfield index, 3)) (k : AtG γ (WX cI h) nL cs sl (pc + 3) lv (.ref (h 4) :: rest) u) : AtG γ (WX cI h) nL cs sl pc lv (.ref (h 1) :: rest) u :=
  x_get (q0 := 1) (ci := 0) (kf := 0) C mu_C rfl rfl (by decide) hl rfl hd k
theorem gX_C_wanted {γ : CX} {cI : ClassId} {h : Nat → Nat} {cc : ByteArray} {nL : Nat} {ret : Option FieldType} {own : String} {rm : Room} {pc : Nat} {lv : List (Nat × Value)} {rest : List Value} {u : PS} {cs sl index : Nat} (C : Cx γ cc nL ret own rm [(cI, .int)]) (hl : Cond.fieldLink own index "PackagePick$Catalog" "wanted" "[I" ∈ WB) (hd : decode cc pc = .ok (.getfield index, 3)) (k : AtG γ (WX cI h) nL cs sl (pc + 3) lv (.ref (h 5) :: rest) u) : AtG γ (WX cI h) nL cs sl pc lv (.ref (h 1) :: rest) u :=
  x_get (q0 := 1) (ci := 0) (kf := 1) C mu_C rfl rfl (by decide) hl rfl hd k
theorem gX_C_unmet {γ : CX} {cI : ClassId} {h : Nat → Nat} {cc : ByteArray} {nL : Nat} {ret : Option FieldType} {own : String} {rm : Room} {pc : Nat} {lv : List (Nat × Value)} {rest : List Value} {u : PS} {cs sl index : Nat} (C : Cx γ cc nL ret own rm [(cI, .int)]) (hl : Cond.fieldLink own index "PackagePick$Catalog" "unmet" "[I" ∈ WB) (hd : decode cc pc = .ok (.getfield index, 3)) (k : AtG γ (WX cI h) nL cs sl (pc + 3) lv (.ref (h 6) :: rest) u) : AtG γ (WX cI h) nL cs sl pc lv (.ref (h 1) :: rest) u :=
  x_get (q0 := 1) (ci := 0) (kf := 2) C mu_C rfl rfl (by decide) hl rfl hd k
theorem gX_C_banned {γ : CX} {cI : ClassId} {h : Nat → Nat} {cc : ByteArray} {nL : Nat} {ret : Option FieldType} {own : String} {rm : Room} {pc : Nat} {lv : List (Nat × Value)} {rest : List Value} {u : PS} {cs sl index : Nat} (C : Cx γ cc nL ret own rm [(cI, .int)]) (hl : Cond.fieldLink own index "PackagePick$Catalog" "banned" "[I" ∈ WB) (hd : decode cc pc = .ok (.getfield index, 3)) (k : AtG γ (WX cI h) nL cs sl (pc + 3) lv (.ref (h 7) :: rest) u) : AtG γ (WX cI h) nL cs sl pc lv (.ref (h 1) :: rest) u :=
  x_get (q0 := 1) (ci := 0) (kf := 3) C mu_C rfl rfl (by decide) hl rfl hd k
theorem gX_C_there {γ : CX} {cI : ClassId} {h : Nat → Nat} {cc : ByteArray} {nL : Nat} {ret : Option FieldType} {own : String} {rm : Room} {pc : Nat} {lv : List (Nat × Value)} {rest : List Value} {u : PS} {cs sl index : Nat} {v : Int32} (C : Cx γ cc nL ret own rm [(cI, .int)]) (hl : Cond.fieldLink own index "PackagePick$Catalog" "there" "I" ∈ WB) (hv : u.1 3 = v) (hd : decode cc pc = .ok (.getfield index, 3)) (k : AtG γ (WX cI h) nL cs sl (pc + 3) lv (.int v :: rest) u) : AtG γ (WX cI h) nL cs sl pc lv (.ref (h 1) :: rest) u := by
  subst hv
  exact x_get (q0 := 1) (ci := 0) (kf := 4) C mu_C rfl rfl (by decide) hl rfl hd k
theorem pX_C_there {γ : CX} {cI : ClassId} {h : Nat → Nat} {cc : ByteArray} {nL : Nat} {ret : Option FieldType} {own : String} {rm : Room} {pc : Nat} {lv : List (Nat × Value)} {rest : List Value} {u : PS} {cs sl index : Nat} {v : Int32} (C : Cx γ cc nL ret own rm [(cI, .int)]) (hl : Cond.fieldLink own index "PackagePick$Catalog" "there" "I" ∈ WB) (hd : decode cc pc = .ok (.putfield index, 3)) (k : AtG γ (WX cI h) nL cs sl (pc + 3) lv rest (si u 3 v)) : AtG γ (WX cI h) nL cs sl pc lv (.int v :: .ref (h 1) :: rest) u :=
  x_put (q0 := 1) (ci := 0) (kf := 4) (ty := .int) C mu_C ft_C_ok fn_C rfl rfl (by decide) hl rfl (by decide +kernel) rfl rfl (Nat.le_of_ble_eq_true rfl) rfl hd k
theorem gX_C_bans {γ : CX} {cI : ClassId} {h : Nat → Nat} {cc : ByteArray} {nL : Nat} {ret : Option FieldType} {own : String} {rm : Room} {pc : Nat} {lv : List (Nat × Value)} {rest : List Value} {u : PS} {cs sl index : Nat} {v : Int32} (C : Cx γ cc nL ret own rm [(cI, .int)]) (hl : Cond.fieldLink own index "PackagePick$Catalog" "bans" "I" ∈ WB) (hv : u.1 4 = v) (hd : decode cc pc = .ok (.getfield index, 3)) (k : AtG γ (WX cI h) nL cs sl (pc + 3) lv (.int v :: rest) u) : AtG γ (WX cI h) nL cs sl pc lv (.ref (h 1) :: rest) u := by
  subst hv
  exact x_get (q0 := 1) (ci := 0) (kf := 5) C mu_C rfl rfl (by decide) hl rfl hd k
theorem pX_C_bans {γ : CX} {cI : ClassId} {h : Nat → Nat} {cc : ByteArray} {nL : Nat} {ret : Option FieldType} {own : String} {rm : Room} {pc : Nat} {lv : List (Nat × Value)} {rest : List Value} {u : PS} {cs sl index : Nat} {v : Int32} (C : Cx γ cc nL ret own rm [(cI, .int)]) (hl : Cond.fieldLink own index "PackagePick$Catalog" "bans" "I" ∈ WB) (hd : decode cc pc = .ok (.putfield index, 3)) (k : AtG γ (WX cI h) nL cs sl (pc + 3) lv rest (si u 4 v)) : AtG γ (WX cI h) nL cs sl pc lv (.int v :: .ref (h 1) :: rest) u :=
  x_put (q0 := 1) (ci := 0) (kf := 5) (ty := .int) C mu_C ft_C_ok fn_C rfl rfl (by decide) hl rfl (by decide +kernel) rfl rfl (Nat.le_of_ble_eq_true rfl) rfl hd k
theorem gX_W_wanted {γ : CX} {cI : ClassId} {h : Nat → Nat} {cc : ByteArray} {nL : Nat} {ret : Option FieldType} {own : String} {rm : Room} {pc : Nat} {lv : List (Nat × Value)} {rest : List Value} {u : PS} {cs sl index : Nat} (C : Cx γ cc nL ret own rm [(cI, .int)]) (hl : Cond.fieldLink own index "PackagePick$Wishes" "wanted" "[I" ∈ WB) (hd : decode cc pc = .ok (.getfield index, 3)) (k : AtG γ (WX cI h) nL cs sl (pc + 3) lv (.ref (h 8) :: rest) u) : AtG γ (WX cI h) nL cs sl pc lv (.ref (h 2) :: rest) u :=
  x_get (q0 := 2) (ci := 2) (kf := 0) C mu_W rfl rfl (by decide) hl rfl hd k
theorem gX_W_unmet {γ : CX} {cI : ClassId} {h : Nat → Nat} {cc : ByteArray} {nL : Nat} {ret : Option FieldType} {own : String} {rm : Room} {pc : Nat} {lv : List (Nat × Value)} {rest : List Value} {u : PS} {cs sl index : Nat} (C : Cx γ cc nL ret own rm [(cI, .int)]) (hl : Cond.fieldLink own index "PackagePick$Wishes" "unmet" "[I" ∈ WB) (hd : decode cc pc = .ok (.getfield index, 3)) (k : AtG γ (WX cI h) nL cs sl (pc + 3) lv (.ref (h 9) :: rest) u) : AtG γ (WX cI h) nL cs sl pc lv (.ref (h 2) :: rest) u :=
  x_get (q0 := 2) (ci := 2) (kf := 1) C mu_W rfl rfl (by decide) hl rfl hd k
theorem gX_W_size {γ : CX} {cI : ClassId} {h : Nat → Nat} {cc : ByteArray} {nL : Nat} {ret : Option FieldType} {own : String} {rm : Room} {pc : Nat} {lv : List (Nat × Value)} {rest : List Value} {u : PS} {cs sl index : Nat} {v : Int32} (C : Cx γ cc nL ret own rm [(cI, .int)]) (hl : Cond.fieldLink own index "PackagePick$Wishes" "size" "I" ∈ WB) (hv : u.1 5 = v) (hd : decode cc pc = .ok (.getfield index, 3)) (k : AtG γ (WX cI h) nL cs sl (pc + 3) lv (.int v :: rest) u) : AtG γ (WX cI h) nL cs sl pc lv (.ref (h 2) :: rest) u := by
  subst hv
  exact x_get (q0 := 2) (ci := 2) (kf := 2) C mu_W rfl rfl (by decide) hl rfl hd k
theorem pX_W_size {γ : CX} {cI : ClassId} {h : Nat → Nat} {cc : ByteArray} {nL : Nat} {ret : Option FieldType} {own : String} {rm : Room} {pc : Nat} {lv : List (Nat × Value)} {rest : List Value} {u : PS} {cs sl index : Nat} {v : Int32} (C : Cx γ cc nL ret own rm [(cI, .int)]) (hl : Cond.fieldLink own index "PackagePick$Wishes" "size" "I" ∈ WB) (hd : decode cc pc = .ok (.putfield index, 3)) (k : AtG γ (WX cI h) nL cs sl (pc + 3) lv rest (si u 5 v)) : AtG γ (WX cI h) nL cs sl pc lv (.int v :: .ref (h 2) :: rest) u :=
  x_put (q0 := 2) (ci := 2) (kf := 2) (ty := .int) C mu_W ft_W_ok fn_W rfl rfl (by decide) hl rfl (by decide +kernel) rfl rfl (Nat.le_of_ble_eq_true rfl) rfl hd k
theorem gX_T_aim {γ : CX} {cI : ClassId} {h : Nat → Nat} {cc : ByteArray} {nL : Nat} {ret : Option FieldType} {own : String} {rm : Room} {pc : Nat} {lv : List (Nat × Value)} {rest : List Value} {u : PS} {cs sl index : Nat} {v : Int32} (C : Cx γ cc nL ret own rm [(cI, .int)]) (hl : Cond.fieldLink own index "PackagePick$Tally" "aim" "I" ∈ WB) (hv : u.1 6 = v) (hd : decode cc pc = .ok (.getfield index, 3)) (k : AtG γ (WX cI h) nL cs sl (pc + 3) lv (.int v :: rest) u) : AtG γ (WX cI h) nL cs sl pc lv (.ref (h 3) :: rest) u := by
  subst hv
  exact x_get (q0 := 3) (ci := 1) (kf := 0) C mu_T rfl rfl (by decide) hl rfl hd k
theorem pX_T_aim {γ : CX} {cI : ClassId} {h : Nat → Nat} {cc : ByteArray} {nL : Nat} {ret : Option FieldType} {own : String} {rm : Room} {pc : Nat} {lv : List (Nat × Value)} {rest : List Value} {u : PS} {cs sl index : Nat} {v : Int32} (C : Cx γ cc nL ret own rm [(cI, .int)]) (hl : Cond.fieldLink own index "PackagePick$Tally" "aim" "I" ∈ WB) (hd : decode cc pc = .ok (.putfield index, 3)) (k : AtG γ (WX cI h) nL cs sl (pc + 3) lv rest (si u 6 v)) : AtG γ (WX cI h) nL cs sl pc lv (.int v :: .ref (h 3) :: rest) u :=
  x_put (q0 := 3) (ci := 1) (kf := 0) (ty := .int) C mu_T ft_T_ok fn_T rfl rfl (by decide) hl rfl (by decide +kernel) rfl rfl (Nat.le_of_ble_eq_true rfl) rfl hd k
theorem gX_T_kept {γ : CX} {cI : ClassId} {h : Nat → Nat} {cc : ByteArray} {nL : Nat} {ret : Option FieldType} {own : String} {rm : Room} {pc : Nat} {lv : List (Nat × Value)} {rest : List Value} {u : PS} {cs sl index : Nat} {v : Int32} (C : Cx γ cc nL ret own rm [(cI, .int)]) (hl : Cond.fieldLink own index "PackagePick$Tally" "kept" "I" ∈ WB) (hv : u.1 7 = v) (hd : decode cc pc = .ok (.getfield index, 3)) (k : AtG γ (WX cI h) nL cs sl (pc + 3) lv (.int v :: rest) u) : AtG γ (WX cI h) nL cs sl pc lv (.ref (h 3) :: rest) u := by
  subst hv
  exact x_get (q0 := 3) (ci := 1) (kf := 1) C mu_T rfl rfl (by decide) hl rfl hd k
theorem pX_T_kept {γ : CX} {cI : ClassId} {h : Nat → Nat} {cc : ByteArray} {nL : Nat} {ret : Option FieldType} {own : String} {rm : Room} {pc : Nat} {lv : List (Nat × Value)} {rest : List Value} {u : PS} {cs sl index : Nat} {v : Int32} (C : Cx γ cc nL ret own rm [(cI, .int)]) (hl : Cond.fieldLink own index "PackagePick$Tally" "kept" "I" ∈ WB) (hd : decode cc pc = .ok (.putfield index, 3)) (k : AtG γ (WX cI h) nL cs sl (pc + 3) lv rest (si u 7 v)) : AtG γ (WX cI h) nL cs sl pc lv (.int v :: .ref (h 3) :: rest) u :=
  x_put (q0 := 3) (ci := 1) (kf := 1) (ty := .int) C mu_T ft_T_ok fn_T rfl rfl (by decide) hl rfl (by decide +kernel) rfl rfl (Nat.le_of_ble_eq_true rfl) rfl hd k
theorem gX_T_limit {γ : CX} {cI : ClassId} {h : Nat → Nat} {cc : ByteArray} {nL : Nat} {ret : Option FieldType} {own : String} {rm : Room} {pc : Nat} {lv : List (Nat × Value)} {rest : List Value} {u : PS} {cs sl index : Nat} {v : Int32} (C : Cx γ cc nL ret own rm [(cI, .int)]) (hl : Cond.fieldLink own index "PackagePick$Tally" "limit" "I" ∈ WB) (hv : u.1 8 = v) (hd : decode cc pc = .ok (.getfield index, 3)) (k : AtG γ (WX cI h) nL cs sl (pc + 3) lv (.int v :: rest) u) : AtG γ (WX cI h) nL cs sl pc lv (.ref (h 3) :: rest) u := by
  subst hv
  exact x_get (q0 := 3) (ci := 1) (kf := 2) C mu_T rfl rfl (by decide) hl rfl hd k
theorem pX_T_limit {γ : CX} {cI : ClassId} {h : Nat → Nat} {cc : ByteArray} {nL : Nat} {ret : Option FieldType} {own : String} {rm : Room} {pc : Nat} {lv : List (Nat × Value)} {rest : List Value} {u : PS} {cs sl index : Nat} {v : Int32} (C : Cx γ cc nL ret own rm [(cI, .int)]) (hl : Cond.fieldLink own index "PackagePick$Tally" "limit" "I" ∈ WB) (hd : decode cc pc = .ok (.putfield index, 3)) (k : AtG γ (WX cI h) nL cs sl (pc + 3) lv rest (si u 8 v)) : AtG γ (WX cI h) nL cs sl pc lv (.int v :: .ref (h 3) :: rest) u :=
  x_put (q0 := 3) (ci := 1) (kf := 2) (ty := .int) C mu_T ft_T_ok fn_T rfl rfl (by decide) hl rfl (by decide +kernel) rfl rfl (Nat.le_of_ble_eq_true rfl) rfl hd k
theorem gX_T_found {γ : CX} {cI : ClassId} {h : Nat → Nat} {cc : ByteArray} {nL : Nat} {ret : Option FieldType} {own : String} {rm : Room} {pc : Nat} {lv : List (Nat × Value)} {rest : List Value} {u : PS} {cs sl index : Nat} {v : Int32} (C : Cx γ cc nL ret own rm [(cI, .int)]) (hl : Cond.fieldLink own index "PackagePick$Tally" "found" "I" ∈ WB) (hv : u.1 9 = v) (hd : decode cc pc = .ok (.getfield index, 3)) (k : AtG γ (WX cI h) nL cs sl (pc + 3) lv (.int v :: rest) u) : AtG γ (WX cI h) nL cs sl pc lv (.ref (h 3) :: rest) u := by
  subst hv
  exact x_get (q0 := 3) (ci := 1) (kf := 3) C mu_T rfl rfl (by decide) hl rfl hd k
theorem pX_T_found {γ : CX} {cI : ClassId} {h : Nat → Nat} {cc : ByteArray} {nL : Nat} {ret : Option FieldType} {own : String} {rm : Room} {pc : Nat} {lv : List (Nat × Value)} {rest : List Value} {u : PS} {cs sl index : Nat} {v : Int32} (C : Cx γ cc nL ret own rm [(cI, .int)]) (hl : Cond.fieldLink own index "PackagePick$Tally" "found" "I" ∈ WB) (hd : decode cc pc = .ok (.putfield index, 3)) (k : AtG γ (WX cI h) nL cs sl (pc + 3) lv rest (si u 9 v)) : AtG γ (WX cI h) nL cs sl pc lv (.int v :: .ref (h 3) :: rest) u :=
  x_put (q0 := 3) (ci := 1) (kf := 3) (ty := .int) C mu_T ft_T_ok fn_T rfl rfl (by decide) hl rfl (by decide +kernel) rfl rfl (Nat.le_of_ble_eq_true rfl) rfl hd k
theorem gX_T_seen {γ : CX} {cI : ClassId} {h : Nat → Nat} {cc : ByteArray} {nL : Nat} {ret : Option FieldType} {own : String} {rm : Room} {pc : Nat} {lv : List (Nat × Value)} {rest : List Value} {u : PS} {cs sl index : Nat} {v : Int32} (C : Cx γ cc nL ret own rm [(cI, .int)]) (hl : Cond.fieldLink own index "PackagePick$Tally" "seen" "I" ∈ WB) (hv : u.1 10 = v) (hd : decode cc pc = .ok (.getfield index, 3)) (k : AtG γ (WX cI h) nL cs sl (pc + 3) lv (.int v :: rest) u) : AtG γ (WX cI h) nL cs sl pc lv (.ref (h 3) :: rest) u := by
  subst hv
  exact x_get (q0 := 3) (ci := 1) (kf := 4) C mu_T rfl rfl (by decide) hl rfl hd k
theorem pX_T_seen {γ : CX} {cI : ClassId} {h : Nat → Nat} {cc : ByteArray} {nL : Nat} {ret : Option FieldType} {own : String} {rm : Room} {pc : Nat} {lv : List (Nat × Value)} {rest : List Value} {u : PS} {cs sl index : Nat} {v : Int32} (C : Cx γ cc nL ret own rm [(cI, .int)]) (hl : Cond.fieldLink own index "PackagePick$Tally" "seen" "I" ∈ WB) (hd : decode cc pc = .ok (.putfield index, 3)) (k : AtG γ (WX cI h) nL cs sl (pc + 3) lv rest (si u 10 v)) : AtG γ (WX cI h) nL cs sl pc lv (.int v :: .ref (h 3) :: rest) u :=
  x_put (q0 := 3) (ci := 1) (kf := 4) (ty := .int) C mu_T ft_T_ok fn_T rfl rfl (by decide) hl rfl (by decide +kernel) rfl rfl (Nat.le_of_ble_eq_true rfl) rfl hd k
theorem gX_T_absent {γ : CX} {cI : ClassId} {h : Nat → Nat} {cc : ByteArray} {nL : Nat} {ret : Option FieldType} {own : String} {rm : Room} {pc : Nat} {lv : List (Nat × Value)} {rest : List Value} {u : PS} {cs sl index : Nat} {v : Int32} (C : Cx γ cc nL ret own rm [(cI, .int)]) (hl : Cond.fieldLink own index "PackagePick$Tally" "absent" "I" ∈ WB) (hv : u.1 11 = v) (hd : decode cc pc = .ok (.getfield index, 3)) (k : AtG γ (WX cI h) nL cs sl (pc + 3) lv (.int v :: rest) u) : AtG γ (WX cI h) nL cs sl pc lv (.ref (h 3) :: rest) u := by
  subst hv
  exact x_get (q0 := 3) (ci := 1) (kf := 5) C mu_T rfl rfl (by decide) hl rfl hd k
theorem pX_T_absent {γ : CX} {cI : ClassId} {h : Nat → Nat} {cc : ByteArray} {nL : Nat} {ret : Option FieldType} {own : String} {rm : Room} {pc : Nat} {lv : List (Nat × Value)} {rest : List Value} {u : PS} {cs sl index : Nat} {v : Int32} (C : Cx γ cc nL ret own rm [(cI, .int)]) (hl : Cond.fieldLink own index "PackagePick$Tally" "absent" "I" ∈ WB) (hd : decode cc pc = .ok (.putfield index, 3)) (k : AtG γ (WX cI h) nL cs sl (pc + 3) lv rest (si u 11 v)) : AtG γ (WX cI h) nL cs sl pc lv (.int v :: .ref (h 3) :: rest) u :=
  x_put (q0 := 3) (ci := 1) (kf := 5) (ty := .int) C mu_T ft_T_ok fn_T rfl rfl (by decide) hl rfl (by decide +kernel) rfl rfl (Nat.le_of_ble_eq_true rfl) rfl hd k
theorem gX_T_best {γ : CX} {cI : ClassId} {h : Nat → Nat} {cc : ByteArray} {nL : Nat} {ret : Option FieldType} {own : String} {rm : Room} {pc : Nat} {lv : List (Nat × Value)} {rest : List Value} {u : PS} {cs sl index : Nat} {v : Int32} (C : Cx γ cc nL ret own rm [(cI, .int)]) (hl : Cond.fieldLink own index "PackagePick$Tally" "best" "I" ∈ WB) (hv : u.1 12 = v) (hd : decode cc pc = .ok (.getfield index, 3)) (k : AtG γ (WX cI h) nL cs sl (pc + 3) lv (.int v :: rest) u) : AtG γ (WX cI h) nL cs sl pc lv (.ref (h 3) :: rest) u := by
  subst hv
  exact x_get (q0 := 3) (ci := 1) (kf := 6) C mu_T rfl rfl (by decide) hl rfl hd k
theorem pX_T_best {γ : CX} {cI : ClassId} {h : Nat → Nat} {cc : ByteArray} {nL : Nat} {ret : Option FieldType} {own : String} {rm : Room} {pc : Nat} {lv : List (Nat × Value)} {rest : List Value} {u : PS} {cs sl index : Nat} {v : Int32} (C : Cx γ cc nL ret own rm [(cI, .int)]) (hl : Cond.fieldLink own index "PackagePick$Tally" "best" "I" ∈ WB) (hd : decode cc pc = .ok (.putfield index, 3)) (k : AtG γ (WX cI h) nL cs sl (pc + 3) lv rest (si u 12 v)) : AtG γ (WX cI h) nL cs sl pc lv (.int v :: .ref (h 3) :: rest) u :=
  x_put (q0 := 3) (ci := 1) (kf := 6) (ty := .int) C mu_T ft_T_ok fn_T rfl rfl (by decide) hl rfl (by decide +kernel) rfl rfl (Nat.le_of_ble_eq_true rfl) rfl hd k
theorem gX_T_bestCost {γ : CX} {cI : ClassId} {h : Nat → Nat} {cc : ByteArray} {nL : Nat} {ret : Option FieldType} {own : String} {rm : Room} {pc : Nat} {lv : List (Nat × Value)} {rest : List Value} {u : PS} {cs sl index : Nat} {v : Int32} (C : Cx γ cc nL ret own rm [(cI, .int)]) (hl : Cond.fieldLink own index "PackagePick$Tally" "bestCost" "I" ∈ WB) (hv : u.1 13 = v) (hd : decode cc pc = .ok (.getfield index, 3)) (k : AtG γ (WX cI h) nL cs sl (pc + 3) lv (.int v :: rest) u) : AtG γ (WX cI h) nL cs sl pc lv (.ref (h 3) :: rest) u := by
  subst hv
  exact x_get (q0 := 3) (ci := 1) (kf := 7) C mu_T rfl rfl (by decide) hl rfl hd k
theorem pX_T_bestCost {γ : CX} {cI : ClassId} {h : Nat → Nat} {cc : ByteArray} {nL : Nat} {ret : Option FieldType} {own : String} {rm : Room} {pc : Nat} {lv : List (Nat × Value)} {rest : List Value} {u : PS} {cs sl index : Nat} {v : Int32} (C : Cx γ cc nL ret own rm [(cI, .int)]) (hl : Cond.fieldLink own index "PackagePick$Tally" "bestCost" "I" ∈ WB) (hd : decode cc pc = .ok (.putfield index, 3)) (k : AtG γ (WX cI h) nL cs sl (pc + 3) lv rest (si u 13 v)) : AtG γ (WX cI h) nL cs sl pc lv (.int v :: .ref (h 3) :: rest) u :=
  x_put (q0 := 3) (ci := 1) (kf := 7) (ty := .int) C mu_T ft_T_ok fn_T rfl rfl (by decide) hl rfl (by decide +kernel) rfl rfl (Nat.le_of_ble_eq_true rfl) rfl hd k
theorem aldX_4 {γ : CX} {cI : ClassId} {h : Nat → Nat} {cc : ByteArray} {nL : Nat} {ret : Option FieldType} {own : String} {rm : Room} {pc : Nat} {lv : List (Nat × Value)} {rest : List Value} {u : PS} {cs sl : Nat} {i v : Int32} (C : Cx γ cc nL ret own rm [(cI, .int)]) (hin : inb i 28 = true) (hv : u.2 0 i.toNatClampNeg = v) (hd : decode cc pc = .ok (.iaload, 1)) (k : AtG γ (WX cI h) nL cs sl (pc + 1) lv (.int v :: rest) u) : AtG γ (WX cI h) nL cs sl pc lv (.int i :: .ref (h 4) :: rest) u :=
  x_iald (q0 := 4) (t0 := 0) C rfl rfl hin hv hd k
theorem astX_4 {γ : CX} {cI : ClassId} {h : Nat → Nat} {cc : ByteArray} {nL : Nat} {ret : Option FieldType} {own : String} {rm : Room} {pc : Nat} {lv : List (Nat × Value)} {rest : List Value} {u : PS} {cs sl : Nat} {i x : Int32} (C : Cx γ cc nL ret own rm [(cI, .int)]) (hin : inb i 28 = true) (hd : decode cc pc = .ok (.iastore, 1)) (k : AtG γ (WX cI h) nL cs sl (pc + 1) lv rest (sa u 0 i.toNatClampNeg x)) : AtG γ (WX cI h) nL cs sl pc lv (.int x :: .int i :: .ref (h 4) :: rest) u :=
  x_iast (q0 := 4) (t0 := 0) C rfl rfl hin rfl hd k
theorem lenX_4 {γ : CX} {cI : ClassId} {h : Nat → Nat} {cc : ByteArray} {nL : Nat} {ret : Option FieldType} {own : String} {rm : Room} {pc : Nat} {lv : List (Nat × Value)} {rest : List Value} {u : PS} {cs sl : Nat} (C : Cx γ cc nL ret own rm [(cI, .int)]) (hd : decode cc pc = .ok (.arraylength, 1)) (k : AtG γ (WX cI h) nL cs sl (pc + 1) lv (.int 28 :: rest) u) : AtG γ (WX cI h) nL cs sl pc lv (.ref (h 4) :: rest) u :=
  x_alen (q0 := 4) (t0 := 0) C rfl rfl rfl hd k
theorem aldX_5 {γ : CX} {cI : ClassId} {h : Nat → Nat} {cc : ByteArray} {nL : Nat} {ret : Option FieldType} {own : String} {rm : Room} {pc : Nat} {lv : List (Nat × Value)} {rest : List Value} {u : PS} {cs sl : Nat} {i v : Int32} (C : Cx γ cc nL ret own rm [(cI, .int)]) (hin : inb i 28 = true) (hv : u.2 1 i.toNatClampNeg = v) (hd : decode cc pc = .ok (.iaload, 1)) (k : AtG γ (WX cI h) nL cs sl (pc + 1) lv (.int v :: rest) u) : AtG γ (WX cI h) nL cs sl pc lv (.int i :: .ref (h 5) :: rest) u :=
  x_iald (q0 := 5) (t0 := 0) C rfl rfl hin hv hd k
theorem astX_5 {γ : CX} {cI : ClassId} {h : Nat → Nat} {cc : ByteArray} {nL : Nat} {ret : Option FieldType} {own : String} {rm : Room} {pc : Nat} {lv : List (Nat × Value)} {rest : List Value} {u : PS} {cs sl : Nat} {i x : Int32} (C : Cx γ cc nL ret own rm [(cI, .int)]) (hin : inb i 28 = true) (hd : decode cc pc = .ok (.iastore, 1)) (k : AtG γ (WX cI h) nL cs sl (pc + 1) lv rest (sa u 1 i.toNatClampNeg x)) : AtG γ (WX cI h) nL cs sl pc lv (.int x :: .int i :: .ref (h 5) :: rest) u :=
  x_iast (q0 := 5) (t0 := 0) C rfl rfl hin rfl hd k
theorem lenX_5 {γ : CX} {cI : ClassId} {h : Nat → Nat} {cc : ByteArray} {nL : Nat} {ret : Option FieldType} {own : String} {rm : Room} {pc : Nat} {lv : List (Nat × Value)} {rest : List Value} {u : PS} {cs sl : Nat} (C : Cx γ cc nL ret own rm [(cI, .int)]) (hd : decode cc pc = .ok (.arraylength, 1)) (k : AtG γ (WX cI h) nL cs sl (pc + 1) lv (.int 28 :: rest) u) : AtG γ (WX cI h) nL cs sl pc lv (.ref (h 5) :: rest) u :=
  x_alen (q0 := 5) (t0 := 0) C rfl rfl rfl hd k
theorem aldX_6 {γ : CX} {cI : ClassId} {h : Nat → Nat} {cc : ByteArray} {nL : Nat} {ret : Option FieldType} {own : String} {rm : Room} {pc : Nat} {lv : List (Nat × Value)} {rest : List Value} {u : PS} {cs sl : Nat} {i v : Int32} (C : Cx γ cc nL ret own rm [(cI, .int)]) (hin : inb i 28 = true) (hv : u.2 2 i.toNatClampNeg = v) (hd : decode cc pc = .ok (.iaload, 1)) (k : AtG γ (WX cI h) nL cs sl (pc + 1) lv (.int v :: rest) u) : AtG γ (WX cI h) nL cs sl pc lv (.int i :: .ref (h 6) :: rest) u :=
  x_iald (q0 := 6) (t0 := 0) C rfl rfl hin hv hd k
theorem astX_6 {γ : CX} {cI : ClassId} {h : Nat → Nat} {cc : ByteArray} {nL : Nat} {ret : Option FieldType} {own : String} {rm : Room} {pc : Nat} {lv : List (Nat × Value)} {rest : List Value} {u : PS} {cs sl : Nat} {i x : Int32} (C : Cx γ cc nL ret own rm [(cI, .int)]) (hin : inb i 28 = true) (hd : decode cc pc = .ok (.iastore, 1)) (k : AtG γ (WX cI h) nL cs sl (pc + 1) lv rest (sa u 2 i.toNatClampNeg x)) : AtG γ (WX cI h) nL cs sl pc lv (.int x :: .int i :: .ref (h 6) :: rest) u :=
  x_iast (q0 := 6) (t0 := 0) C rfl rfl hin rfl hd k
theorem lenX_6 {γ : CX} {cI : ClassId} {h : Nat → Nat} {cc : ByteArray} {nL : Nat} {ret : Option FieldType} {own : String} {rm : Room} {pc : Nat} {lv : List (Nat × Value)} {rest : List Value} {u : PS} {cs sl : Nat} (C : Cx γ cc nL ret own rm [(cI, .int)]) (hd : decode cc pc = .ok (.arraylength, 1)) (k : AtG γ (WX cI h) nL cs sl (pc + 1) lv (.int 28 :: rest) u) : AtG γ (WX cI h) nL cs sl pc lv (.ref (h 6) :: rest) u :=
  x_alen (q0 := 6) (t0 := 0) C rfl rfl rfl hd k
theorem aldX_7 {γ : CX} {cI : ClassId} {h : Nat → Nat} {cc : ByteArray} {nL : Nat} {ret : Option FieldType} {own : String} {rm : Room} {pc : Nat} {lv : List (Nat × Value)} {rest : List Value} {u : PS} {cs sl : Nat} {i v : Int32} (C : Cx γ cc nL ret own rm [(cI, .int)]) (hin : inb i 28 = true) (hv : u.2 3 i.toNatClampNeg = v) (hd : decode cc pc = .ok (.iaload, 1)) (k : AtG γ (WX cI h) nL cs sl (pc + 1) lv (.int v :: rest) u) : AtG γ (WX cI h) nL cs sl pc lv (.int i :: .ref (h 7) :: rest) u :=
  x_iald (q0 := 7) (t0 := 0) C rfl rfl hin hv hd k
theorem astX_7 {γ : CX} {cI : ClassId} {h : Nat → Nat} {cc : ByteArray} {nL : Nat} {ret : Option FieldType} {own : String} {rm : Room} {pc : Nat} {lv : List (Nat × Value)} {rest : List Value} {u : PS} {cs sl : Nat} {i x : Int32} (C : Cx γ cc nL ret own rm [(cI, .int)]) (hin : inb i 28 = true) (hd : decode cc pc = .ok (.iastore, 1)) (k : AtG γ (WX cI h) nL cs sl (pc + 1) lv rest (sa u 3 i.toNatClampNeg x)) : AtG γ (WX cI h) nL cs sl pc lv (.int x :: .int i :: .ref (h 7) :: rest) u :=
  x_iast (q0 := 7) (t0 := 0) C rfl rfl hin rfl hd k
theorem lenX_7 {γ : CX} {cI : ClassId} {h : Nat → Nat} {cc : ByteArray} {nL : Nat} {ret : Option FieldType} {own : String} {rm : Room} {pc : Nat} {lv : List (Nat × Value)} {rest : List Value} {u : PS} {cs sl : Nat} (C : Cx γ cc nL ret own rm [(cI, .int)]) (hd : decode cc pc = .ok (.arraylength, 1)) (k : AtG γ (WX cI h) nL cs sl (pc + 1) lv (.int 28 :: rest) u) : AtG γ (WX cI h) nL cs sl pc lv (.ref (h 7) :: rest) u :=
  x_alen (q0 := 7) (t0 := 0) C rfl rfl rfl hd k
theorem aldX_8 {γ : CX} {cI : ClassId} {h : Nat → Nat} {cc : ByteArray} {nL : Nat} {ret : Option FieldType} {own : String} {rm : Room} {pc : Nat} {lv : List (Nat × Value)} {rest : List Value} {u : PS} {cs sl : Nat} {i v : Int32} (C : Cx γ cc nL ret own rm [(cI, .int)]) (hin : inb i 6 = true) (hv : u.2 4 i.toNatClampNeg = v) (hd : decode cc pc = .ok (.iaload, 1)) (k : AtG γ (WX cI h) nL cs sl (pc + 1) lv (.int v :: rest) u) : AtG γ (WX cI h) nL cs sl pc lv (.int i :: .ref (h 8) :: rest) u :=
  x_iald (q0 := 8) (t0 := 0) C rfl rfl hin hv hd k
theorem astX_8 {γ : CX} {cI : ClassId} {h : Nat → Nat} {cc : ByteArray} {nL : Nat} {ret : Option FieldType} {own : String} {rm : Room} {pc : Nat} {lv : List (Nat × Value)} {rest : List Value} {u : PS} {cs sl : Nat} {i x : Int32} (C : Cx γ cc nL ret own rm [(cI, .int)]) (hin : inb i 6 = true) (hd : decode cc pc = .ok (.iastore, 1)) (k : AtG γ (WX cI h) nL cs sl (pc + 1) lv rest (sa u 4 i.toNatClampNeg x)) : AtG γ (WX cI h) nL cs sl pc lv (.int x :: .int i :: .ref (h 8) :: rest) u :=
  x_iast (q0 := 8) (t0 := 0) C rfl rfl hin rfl hd k
theorem lenX_8 {γ : CX} {cI : ClassId} {h : Nat → Nat} {cc : ByteArray} {nL : Nat} {ret : Option FieldType} {own : String} {rm : Room} {pc : Nat} {lv : List (Nat × Value)} {rest : List Value} {u : PS} {cs sl : Nat} (C : Cx γ cc nL ret own rm [(cI, .int)]) (hd : decode cc pc = .ok (.arraylength, 1)) (k : AtG γ (WX cI h) nL cs sl (pc + 1) lv (.int 6 :: rest) u) : AtG γ (WX cI h) nL cs sl pc lv (.ref (h 8) :: rest) u :=
  x_alen (q0 := 8) (t0 := 0) C rfl rfl rfl hd k
theorem aldX_9 {γ : CX} {cI : ClassId} {h : Nat → Nat} {cc : ByteArray} {nL : Nat} {ret : Option FieldType} {own : String} {rm : Room} {pc : Nat} {lv : List (Nat × Value)} {rest : List Value} {u : PS} {cs sl : Nat} {i v : Int32} (C : Cx γ cc nL ret own rm [(cI, .int)]) (hin : inb i 6 = true) (hv : u.2 5 i.toNatClampNeg = v) (hd : decode cc pc = .ok (.iaload, 1)) (k : AtG γ (WX cI h) nL cs sl (pc + 1) lv (.int v :: rest) u) : AtG γ (WX cI h) nL cs sl pc lv (.int i :: .ref (h 9) :: rest) u :=
  x_iald (q0 := 9) (t0 := 0) C rfl rfl hin hv hd k
theorem astX_9 {γ : CX} {cI : ClassId} {h : Nat → Nat} {cc : ByteArray} {nL : Nat} {ret : Option FieldType} {own : String} {rm : Room} {pc : Nat} {lv : List (Nat × Value)} {rest : List Value} {u : PS} {cs sl : Nat} {i x : Int32} (C : Cx γ cc nL ret own rm [(cI, .int)]) (hin : inb i 6 = true) (hd : decode cc pc = .ok (.iastore, 1)) (k : AtG γ (WX cI h) nL cs sl (pc + 1) lv rest (sa u 5 i.toNatClampNeg x)) : AtG γ (WX cI h) nL cs sl pc lv (.int x :: .int i :: .ref (h 9) :: rest) u :=
  x_iast (q0 := 9) (t0 := 0) C rfl rfl hin rfl hd k
theorem lenX_9 {γ : CX} {cI : ClassId} {h : Nat → Nat} {cc : ByteArray} {nL : Nat} {ret : Option FieldType} {own : String} {rm : Room} {pc : Nat} {lv : List (Nat × Value)} {rest : List Value} {u : PS} {cs sl : Nat} (C : Cx γ cc nL ret own rm [(cI, .int)]) (hd : decode cc pc = .ok (.arraylength, 1)) (k : AtG γ (WX cI h) nL cs sl (pc + 1) lv (.int 6 :: rest) u) : AtG γ (WX cI h) nL cs sl pc lv (.ref (h 9) :: rest) u :=
  x_alen (q0 := 9) (t0 := 0) C rfl rfl rfl hd k
end
section
-- ---- java/lang/Integer.bitCount(I)I
def b_J_bitCount_48 (x0 : Int32) : Int32 :=
  (x0 &&& (63 : Int32))
set_option maxRecDepth 100000 in
set_option maxHeartbeats 4000000 in
theorem w_J_bitCount_48 {γ : CX} {S : Type} {wf : S → va_W} {tys : Tys} {u : S} {r0 : Int32} (C : Cx γ b_J_bitCount 1 (some .int) "java/lang/Integer" (rk 0) tys) (hQ : QI γ tys wf r0 u) (x0 : Int32) (hf : b_J_bitCount_48 x0 = r0) : AtG γ wf 1 0 0 48 [(0, .int x0)] [] u := by
  unfold b_J_bitCount_48 at hf
  refine x_iload_n C d_J_bitCount_48 rfl (k := 0) rfl ?_
  refine x_bipush (v := 63) C d_J_bitCount_49 (by decide) ?_
  refine x_iand C d_J_bitCount_51 ?_
  exact x_iret C hQ hf rfl d_J_bitCount_52
def b_J_bitCount_41 (x0 : Int32) : Int32 :=
  b_J_bitCount_48 (x0 + (ush x0 (16 : Int32)))
set_option maxRecDepth 100000 in
set_option maxHeartbeats 4000000 in
theorem w_J_bitCount_41 {γ : CX} {S : Type} {wf : S → va_W} {tys : Tys} {u : S} {r0 : Int32} (C : Cx γ b_J_bitCount 1 (some .int) "java/lang/Integer" (rk 0) tys) (hQ : QI γ tys wf r0 u) (x0 : Int32) (hf : b_J_bitCount_41 x0 = r0) : AtG γ wf 1 0 0 41 [(0, .int x0)] [] u := by
  unfold b_J_bitCount_41 at hf
  refine x_iload_n C d_J_bitCount_41 rfl (k := 0) rfl ?_
  refine x_iload_n C d_J_bitCount_42 rfl (k := 0) rfl ?_
  refine x_bipush (v := 16) C d_J_bitCount_43 (by decide) ?_
  refine x_iushr C d_J_bitCount_45 ?_
  refine x_iadd C d_J_bitCount_46 ?_
  refine x_istore_n (lv' := [(0, .int (x0 + (ush x0 (16 : Int32))))]) C d_J_bitCount_47 rfl (by decide) rfl ?_
  exact w_J_bitCount_48 C hQ (x0 + (ush x0 (16 : Int32))) hf
def b_J_bitCount_34 (x0 : Int32) : Int32 :=
  b_J_bitCount_41 (x0 + (ush x0 (8 : Int32)))
set_option maxRecDepth 100000 in
set_option maxHeartbeats 4000000 in
theorem w_J_bitCount_34 {γ : CX} {S : Type} {wf : S → va_W} {tys : Tys} {u : S} {r0 : Int32} (C : Cx γ b_J_bitCount 1 (some .int) "java/lang/Integer" (rk 0) tys) (hQ : QI γ tys wf r0 u) (x0 : Int32) (hf : b_J_bitCount_34 x0 = r0) : AtG γ wf 1 0 0 34 [(0, .int x0)] [] u := by
  unfold b_J_bitCount_34 at hf
  refine x_iload_n C d_J_bitCount_34 rfl (k := 0) rfl ?_
  refine x_iload_n C d_J_bitCount_35 rfl (k := 0) rfl ?_
  refine x_bipush (v := 8) C d_J_bitCount_36 (by decide) ?_
  refine x_iushr C d_J_bitCount_38 ?_
  refine x_iadd C d_J_bitCount_39 ?_
  refine x_istore_n (lv' := [(0, .int (x0 + (ush x0 (8 : Int32))))]) C d_J_bitCount_40 rfl (by decide) rfl ?_
  exact w_J_bitCount_41 C hQ (x0 + (ush x0 (8 : Int32))) hf
def b_J_bitCount_24 (x0 : Int32) : Int32 :=
  b_J_bitCount_34 ((x0 + (ush x0 (4 : Int32))) &&& (252645135 : Int32))
set_option maxRecDepth 100000 in
set_option maxHeartbeats 4000000 in
theorem w_J_bitCount_24 {γ : CX} {S : Type} {wf : S → va_W} {tys : Tys} {u : S} {r0 : Int32} (C : Cx γ b_J_bitCount 1 (some .int) "java/lang/Integer" (rk 0) tys) (hQ : QI γ tys wf r0 u) (x0 : Int32) (hf : b_J_bitCount_24 x0 = r0) : AtG γ wf 1 0 0 24 [(0, .int x0)] [] u := by
  unfold b_J_bitCount_24 at hf
  refine x_iload_n C d_J_bitCount_24 rfl (k := 0) rfl ?_
  refine x_iload_n C d_J_bitCount_25 rfl (k := 0) rfl ?_
  refine x_iconst (v := 4) C d_J_bitCount_26 (by decide) ?_
  refine x_iushr C d_J_bitCount_27 ?_
  refine x_iadd C d_J_bitCount_28 ?_
  refine x_ldcw (v := 252645135) C mk_J_267 d_J_bitCount_29 ?_
  refine x_iand C d_J_bitCount_32 ?_
  refine x_istore_n (lv' := [(0, .int ((x0 + (ush x0 (4 : Int32))) &&& (252645135 : Int32)))]) C d_J_bitCount_33 rfl (by decide) rfl ?_
  exact w_J_bitCount_34 C hQ ((x0 + (ush x0 (4 : Int32))) &&& (252645135 : Int32)) hf
def b_J_bitCount_10 (x0 : Int32) : Int32 :=
  b_J_bitCount_24 ((x0 &&& (858993459 : Int32)) + ((ush x0 (2 : Int32)) &&& (858993459 : Int32)))
set_option maxRecDepth 100000 in
set_option maxHeartbeats 4000000 in
theorem w_J_bitCount_10 {γ : CX} {S : Type} {wf : S → va_W} {tys : Tys} {u : S} {r0 : Int32} (C : Cx γ b_J_bitCount 1 (some .int) "java/lang/Integer" (rk 0) tys) (hQ : QI γ tys wf r0 u) (x0 : Int32) (hf : b_J_bitCount_10 x0 = r0) : AtG γ wf 1 0 0 10 [(0, .int x0)] [] u := by
  unfold b_J_bitCount_10 at hf
  refine x_iload_n C d_J_bitCount_10 rfl (k := 0) rfl ?_
  refine x_ldcw (v := 858993459) C mk_J_266 d_J_bitCount_11 ?_
  refine x_iand C d_J_bitCount_14 ?_
  refine x_iload_n C d_J_bitCount_15 rfl (k := 0) rfl ?_
  refine x_iconst (v := 2) C d_J_bitCount_16 (by decide) ?_
  refine x_iushr C d_J_bitCount_17 ?_
  refine x_ldcw (v := 858993459) C mk_J_266 d_J_bitCount_18 ?_
  refine x_iand C d_J_bitCount_21 ?_
  refine x_iadd C d_J_bitCount_22 ?_
  refine x_istore_n (lv' := [(0, .int ((x0 &&& (858993459 : Int32)) + ((ush x0 (2 : Int32)) &&& (858993459 : Int32))))]) C d_J_bitCount_23 rfl (by decide) rfl ?_
  exact w_J_bitCount_24 C hQ ((x0 &&& (858993459 : Int32)) + ((ush x0 (2 : Int32)) &&& (858993459 : Int32))) hf
def f_J_bitCount (a0 : Int32) : Int32 :=
  b_J_bitCount_10 (a0 - ((ush a0 (1 : Int32)) &&& (1431655765 : Int32)))
set_option maxRecDepth 100000 in
set_option maxHeartbeats 4000000 in
theorem w_J_bitCount {γ : CX} {S : Type} {wf : S → va_W} {tys : Tys} {u : S} {r0 : Int32} (C : Cx γ b_J_bitCount 1 (some .int) "java/lang/Integer" (rk 0) tys) (hQ : QI γ tys wf r0 u) (a0 : Int32) (hf : f_J_bitCount a0 = r0) : AtG γ wf 1 0 0 0 [(0, .int a0)] [] u := by
  unfold f_J_bitCount at hf
  refine x_iload_n C d_J_bitCount_0 rfl (k := 0) rfl ?_
  refine x_iload_n C d_J_bitCount_1 rfl (k := 0) rfl ?_
  refine x_iconst (v := 1) C d_J_bitCount_2 (by decide) ?_
  refine x_iushr C d_J_bitCount_3 ?_
  refine x_ldcw (v := 1431655765) C mk_J_265 d_J_bitCount_4 ?_
  refine x_iand C d_J_bitCount_7 ?_
  refine x_isub C d_J_bitCount_8 ?_
  refine x_istore_n (lv' := [(0, .int (a0 - ((ush a0 (1 : Int32)) &&& (1431655765 : Int32))))]) C d_J_bitCount_9 rfl (by decide) rfl ?_
  exact w_J_bitCount_10 C hQ (a0 - ((ush a0 (1 : Int32)) &&& (1431655765 : Int32))) hf
theorem c_J_bitCount {S : Type} {l : Launch} {D : va_G} {tys : Tys} {wf : S → va_W} {u : S} (a0 : Int32) : CtI l y_J_bitCount b_J_bitCount 1 (some .int) (rk 0) D tys wf [.int a0] u (f_J_bitCount a0) u := ct_ofI (by decide) (Nat.le_of_ble_eq_true rfl) (fun γ _ _ C hQ => w_J_bitCount C hQ a0 rfl)
-- ---- PackagePick.isSlot(I)Z
def f_X_isSlot (a0 : Int32) : Int32 :=
  if a0 < 0 then
    (0 : Int32)
  else
    if (28 : Int32) ≤ a0 then
      (0 : Int32)
    else
      (1 : Int32)
set_option maxRecDepth 100000 in
set_option maxHeartbeats 4000000 in
theorem w_X_isSlot {γ : CX} {S : Type} {wf : S → va_W} {tys : Tys} {u : S} {r0 : Int32} (C : Cx γ b_X_isSlot 1 (some .boolean) "PackagePick" (rk 0) tys) (hQ : QI γ tys wf r0 u) (a0 : Int32) (hf : f_X_isSlot a0 = r0) : AtG γ wf 1 0 0 0 [(0, .int a0)] [] u := by
  unfold f_X_isSlot at hf
  refine x_iload_n C d_X_isSlot_0 rfl (k := 0) rfl ?_
  refine x_if_lt (tgt := 14) C d_X_isSlot_1 (by decide) (fun hc => ?_) (fun hc => ?_)
  · rw [if_pos hc] at hf
    refine x_iconst (v := 0) C d_X_isSlot_14 (by decide) ?_
    exact x_zret C hQ rfl hf rfl d_X_isSlot_15
  · rw [if_neg hc] at hf
    refine x_iload_n C d_X_isSlot_4 rfl (k := 0) rfl ?_
    refine x_bipush (v := 28) C d_X_isSlot_5 (by decide) ?_
    refine x_icmp_ge (tgt := 14) C d_X_isSlot_7 (by decide) (fun hc => ?_) (fun hc => ?_)
    · rw [if_pos hc] at hf
      refine x_iconst (v := 0) C d_X_isSlot_14 (by decide) ?_
      exact x_zret C hQ rfl hf rfl d_X_isSlot_15
    · rw [if_neg hc] at hf
      refine x_iconst (v := 1) C d_X_isSlot_10 (by decide) ?_
      refine x_goto (tgt := 15) C d_X_isSlot_11 (by decide) ?_
      exact x_zret C hQ rfl hf rfl d_X_isSlot_15
theorem c_X_isSlot {S : Type} {l : Launch} {D : va_G} {tys : Tys} {wf : S → va_W} {u : S} (a0 : Int32) : CtI l y_X_isSlot b_X_isSlot 1 (some .boolean) (rk 0) D tys wf [.int a0] u (f_X_isSlot a0) u := ct_ofI (by decide) (Nat.le_of_ble_eq_true rfl) (fun γ _ _ C hQ => w_X_isSlot C hQ a0 rfl)
-- ---- PackagePick.holds(II)Z
def f_X_holds (a0 : Int32) (a1 : Int32) : Int32 :=
  if (a0 &&& ((1 : Int32) <<< (a1 &&& 31))) = 0 then
    (0 : Int32)
  else
    (1 : Int32)
set_option maxRecDepth 100000 in
set_option maxHeartbeats 4000000 in
theorem w_X_holds {γ : CX} {S : Type} {wf : S → va_W} {tys : Tys} {u : S} {r0 : Int32} (C : Cx γ b_X_holds 2 (some .boolean) "PackagePick" (rk 0) tys) (hQ : QI γ tys wf r0 u) (a0 : Int32) (a1 : Int32) (hf : f_X_holds a0 a1 = r0) : AtG γ wf 2 0 0 0 [(0, .int a0), (1, .int a1)] [] u := by
  unfold f_X_holds at hf
  refine x_iload_n C d_X_holds_0 rfl (k := 0) rfl ?_
  refine x_iconst (v := 1) C d_X_holds_1 (by decide) ?_
  refine x_iload_n C d_X_holds_2 rfl (k := 1) rfl ?_
  refine x_ishl C d_X_holds_3 ?_
  refine x_iand C d_X_holds_4 ?_
  refine x_if_eq (tgt := 12) C d_X_holds_5 (by decide) (fun hc => ?_) (fun hc => ?_)
  · rw [if_pos hc] at hf
    refine x_iconst (v := 0) C d_X_holds_12 (by decide) ?_
    exact x_zret C hQ rfl hf rfl d_X_holds_13
  · rw [if_neg hc] at hf
    refine x_iconst (v := 1) C d_X_holds_8 (by decide) ?_
    refine x_goto (tgt := 13) C d_X_holds_9 (by decide) ?_
    exact x_zret C hQ rfl hf rfl d_X_holds_13
theorem c_X_holds {S : Type} {l : Launch} {D : va_G} {tys : Tys} {wf : S → va_W} {u : S} (a0 : Int32) (a1 : Int32) : CtI l y_X_holds b_X_holds 2 (some .boolean) (rk 0) D tys wf [.int a0, .int a1] u (f_X_holds a0 a1) u := ct_ofI (by decide) (Nat.le_of_ble_eq_true rfl) (fun γ _ _ C hQ => w_X_holds C hQ a0 a1 rfl)
-- ---- PackagePick$Catalog.has(I)Z
def f_C_has (a1 : Int32) (u : PS) : Int32 :=
  if (f_X_isSlot a1) = 0 then
    (0 : Int32)
  else
    if (f_X_holds (u.1 3) a1) = 0 then
      (0 : Int32)
    else
      (1 : Int32)
set_option maxRecDepth 100000 in
set_option maxHeartbeats 4000000 in
theorem w_C_has {γ : CX} {cI : ClassId} {h : Nat → Nat} {u : PS} {r0 : Int32} (C : Cx γ b_C_has 2 (some .boolean) "PackagePick$Catalog" (rk 1) [(cI, .int)]) (hQ : QI γ [(cI, .int)] (WX cI h) r0 u) (a1 : Int32) (hf : f_C_has a1 u = r0) : AtG γ (WX cI h) 2 0 0 0 [(0, .ref (h 1)), (1, .int a1)] [] u := by
  unfold f_C_has at hf
  refine x_iload_n C d_C_has_0 rfl (k := 1) rfl ?_
  refine x_callIn (rest := []) C (c_X_isSlot a1) kc_X_isSlot (rok (by decide) (by decide)) (by decide +kernel) ms_X_isSlot rfl rfl (Nat.le_of_ble_eq_true rfl) d_C_has_1 ?_
  refine x_if_eq (tgt := 22) C d_C_has_4 (by decide) (fun hc => ?_) (fun hc => ?_)
  · rw [if_pos hc] at hf
    refine x_iconst (v := 0) C d_C_has_22 (by decide) ?_
    exact x_zret C hQ rfl hf rfl d_C_has_23
  · rw [if_neg hc] at hf
    refine x_aload_n C d_C_has_7 rfl (k := 0) rfl ?_
    refine gX_C_there (v := (u.1 3)) C mf_C_24 rfl d_C_has_8 ?_
    refine x_iload_n C d_C_has_11 rfl (k := 1) rfl ?_
    refine x_callIn (rest := []) C (c_X_holds (u.1 3) a1) kc_X_holds (rok (by decide) (by decide)) (by decide +kernel) ms_X_holds rfl rfl (Nat.le_of_ble_eq_true rfl) d_C_has_12 ?_
    refine x_if_eq (tgt := 22) C d_C_has_15 (by decide) (fun hc => ?_) (fun hc => ?_)
    · rw [if_pos hc] at hf
      refine x_iconst (v := 0) C d_C_has_22 (by decide) ?_
      exact x_zret C hQ rfl hf rfl d_C_has_23
    · rw [if_neg hc] at hf
      refine x_iconst (v := 1) C d_C_has_18 (by decide) ?_
      refine x_goto (tgt := 23) C d_C_has_19 (by decide) ?_
      exact x_zret C hQ rfl hf rfl d_C_has_23
theorem c_C_has {l : Launch} {D : va_G} {cI : ClassId} {h : Nat → Nat} (a1 : Int32) (u : PS) : CtI l y_C_has b_C_has 2 (some .boolean) (rk 1) D [(cI, .int)] (WX cI h) [.ref (h 1), .int a1] u (f_C_has a1 u) u := ct_ofI (by decide) (Nat.le_of_ble_eq_true rfl) (fun γ _ _ C hQ => w_C_has C hQ a1 rfl)
-- ---- PackagePick$Catalog.add(I)Z
def f_C_add (a1 : Int32) (u : PS) : Int32 × PS :=
  if (f_X_isSlot a1) = 0 then
    ((0 : Int32), u)
  else
    if (f_C_has a1 u) = 0 then
      ((1 : Int32), (si u 3 ((u.1 3) ||| ((1 : Int32) <<< (a1 &&& 31)))))
    else
      ((0 : Int32), u)
set_option maxRecDepth 100000 in
set_option maxHeartbeats 4000000 in
theorem w_C_add {γ : CX} {cI : ClassId} {h : Nat → Nat} {r0 : Int32} {u0 : PS} (C : Cx γ b_C_add 2 (some .boolean) "PackagePick$Catalog" (rk 2) [(cI, .int)]) (hQ : QI γ [(cI, .int)] (WX cI h) r0 u0) (a1 : Int32) (u : PS) (hf : f_C_add a1 u = (r0, u0)) : AtG γ (WX cI h) 2 0 0 0 [(0, .ref (h 1)), (1, .int a1)] [] u := by
  unfold f_C_add at hf
  refine x_iload_n C d_C_add_0 rfl (k := 1) rfl ?_
  refine x_callIn (rest := []) C (c_X_isSlot a1) kc_X_isSlot (rok (by decide) (by decide)) (by decide +kernel) ms_X_isSlot rfl rfl (Nat.le_of_ble_eq_true rfl) d_C_add_1 ?_
  refine x_if_eq (tgt := 15) C d_C_add_4 (by decide) (fun hc => ?_) (fun hc => ?_)
  · rw [if_pos hc] at hf
    refine x_iconst (v := 0) C d_C_add_15 (by decide) ?_
    exact x_zret C hQ rfl (Prod.mk.inj hf).1 (Prod.mk.inj hf).2 d_C_add_16
  · rw [if_neg hc] at hf
    refine x_aload_n C d_C_add_7 rfl (k := 0) rfl ?_
    refine x_iload_n C d_C_add_8 rfl (k := 1) rfl ?_
    refine x_callIv (q0 := 1) (ci := 0) (rest := []) C (c_C_has a1 u) kc_C_has (rok (by decide) (by decide)) mm_C_39 ms_C_has ml_C_has rfl rfl rfl rfl (Nat.le_of_ble_eq_true rfl) d_C_add_9 ?_
    refine x_if_eq (tgt := 17) C d_C_add_12 (by decide) (fun hc => ?_) (fun hc => ?_)
    · rw [if_pos hc] at hf
      refine x_aload_n C d_C_add_17 rfl (k := 0) rfl ?_
      refine x_dup C d_C_add_18 rfl ?_
      refine gX_C_there (v := (u.1 3)) C mf_C_24 rfl d_C_add_19 ?_
      refine x_iconst (v := 1) C d_C_add_22 (by decide) ?_
      refine x_iload_n C d_C_add_23 rfl (k := 1) rfl ?_
      refine x_ishl C d_C_add_24 ?_
      refine x_ior C d_C_add_25 ?_
      refine pX_C_there C mf_C_24 d_C_add_26 ?_
      refine x_iconst (v := 1) C d_C_add_29 (by decide) ?_
      exact x_zret C hQ rfl (Prod.mk.inj hf).1 (Prod.mk.inj hf).2 d_C_add_30
    · rw [if_neg hc] at hf
      refine x_iconst (v := 0) C d_C_add_15 (by decide) ?_
      exact x_zret C hQ rfl (Prod.mk.inj hf).1 (Prod.mk.inj hf).2 d_C_add_16
theorem c_C_add {l : Launch} {D : va_G} {cI : ClassId} {h : Nat → Nat} (a1 : Int32) (u : PS) : CtI l y_C_add b_C_add 2 (some .boolean) (rk 2) D [(cI, .int)] (WX cI h) [.ref (h 1), .int a1] u (f_C_add a1 u).1 (f_C_add a1 u).2 := ct_ofI (by decide) (Nat.le_of_ble_eq_true rfl) (fun γ _ _ C hQ => w_C_add C hQ a1 u rfl)
-- ---- PackagePick$Catalog.remove(I)Z
def f_C_remove (a1 : Int32) (u : PS) : Option (Int32 × PS) :=
  if (f_C_has a1 u) = 0 then
    some ((0 : Int32), u)
  else
    ck (inb a1 28) <|
    ck (inb a1 28) <|
    ck (inb a1 28) <|
    some ((1 : Int32), (sa (sa (sa (si u 3 ((u.1 3) &&& (((1 : Int32) <<< (a1 &&& 31)) ^^^ (-1 : Int32)))) 0 a1.toNatClampNeg (0 : Int32)) 1 a1.toNatClampNeg (0 : Int32)) 2 a1.toNatClampNeg (0 : Int32)))
set_option maxRecDepth 100000 in
set_option maxHeartbeats 4000000 in
theorem w_C_remove {γ : CX} {cI : ClassId} {h : Nat → Nat} {r0 : Int32} {u0 : PS} (C : Cx γ b_C_remove 2 (some .boolean) "PackagePick$Catalog" (rk 2) [(cI, .int)]) (hQ : QI γ [(cI, .int)] (WX cI h) r0 u0) (a1 : Int32) (u : PS) (hf : f_C_remove a1 u = some (r0, u0)) : AtG γ (WX cI h) 2 0 0 0 [(0, .ref (h 1)), (1, .int a1)] [] u := by
  unfold f_C_remove at hf
  refine x_aload_n C d_C_remove_0 rfl (k := 0) rfl ?_
  refine x_iload_n C d_C_remove_1 rfl (k := 1) rfl ?_
  refine x_callIv (q0 := 1) (ci := 0) (rest := []) C (c_C_has a1 u) kc_C_has (rok (by decide) (by decide)) mm_C_39 ms_C_has ml_C_has rfl rfl rfl rfl (Nat.le_of_ble_eq_true rfl) d_C_remove_2 ?_
  refine x_if_ne (tgt := 10) C d_C_remove_5 (by decide) (fun hc => ?_) (fun hc => ?_)
  · rw [if_neg hc] at hf
    refine x_aload_n C d_C_remove_10 rfl (k := 0) rfl ?_
    refine x_dup C d_C_remove_11 rfl ?_
    refine gX_C_there (v := (u.1 3)) C mf_C_24 rfl d_C_remove_12 ?_
    refine x_iconst (v := 1) C d_C_remove_15 (by decide) ?_
    refine x_iload_n C d_C_remove_16 rfl (k := 1) rfl ?_
    refine x_ishl C d_C_remove_17 ?_
    refine x_iconst (v := -1) C d_C_remove_18 (by decide) ?_
    refine x_ixor C d_C_remove_19 ?_
    refine x_iand C d_C_remove_20 ?_
    refine pX_C_there C mf_C_24 d_C_remove_21 ?_
    refine x_aload_n C d_C_remove_24 rfl (k := 0) rfl ?_
    refine gX_C_needs C mf_C_9 d_C_remove_25 ?_
    refine x_iload_n C d_C_remove_28 rfl (k := 1) rfl ?_
    refine x_iconst (v := 0) C d_C_remove_29 (by decide) ?_
    obtain ⟨hin, hf⟩ := ck_some hf
    refine astX_4 C hin d_C_remove_30 ?_
    refine x_aload_n C d_C_remove_31 rfl (k := 0) rfl ?_
    refine gX_C_wanted C mf_C_15 d_C_remove_32 ?_
    refine x_iload_n C d_C_remove_35 rfl (k := 1) rfl ?_
    refine x_iconst (v := 0) C d_C_remove_36 (by decide) ?_
    obtain ⟨hin, hf⟩ := ck_some hf
    refine astX_5 C hin d_C_remove_37 ?_
    refine x_aload_n C d_C_remove_38 rfl (k := 0) rfl ?_
    refine gX_C_unmet C mf_C_18 d_C_remove_39 ?_
    refine x_iload_n C d_C_remove_42 rfl (k := 1) rfl ?_
    refine x_iconst (v := 0) C d_C_remove_43 (by decide) ?_
    obtain ⟨hin, hf⟩ := ck_some hf
    refine astX_6 C hin d_C_remove_44 ?_
    refine x_iconst (v := 1) C d_C_remove_45 (by decide) ?_
    exact x_zret C hQ rfl (Prod.mk.inj (Option.some.inj hf)).1 (Prod.mk.inj (Option.some.inj hf)).2 d_C_remove_46
  · rw [if_pos hc] at hf
    refine x_iconst (v := 0) C d_C_remove_8 (by decide) ?_
    exact x_zret C hQ rfl (Prod.mk.inj (Option.some.inj hf)).1 (Prod.mk.inj (Option.some.inj hf)).2 d_C_remove_9
theorem c_C_remove {l : Launch} {D : va_G} {cI : ClassId} {h : Nat → Nat} (a1 : Int32) (u : PS) {r0 : Int32 × PS} (hf : f_C_remove a1 u = some r0) : CtI l y_C_remove b_C_remove 2 (some .boolean) (rk 2) D [(cI, .int)] (WX cI h) [.ref (h 1), .int a1] u r0.1 r0.2 := ct_ofI (by decide) (Nat.le_of_ble_eq_true rfl) (fun γ _ _ C hQ => w_C_remove C hQ a1 u hf)
-- ---- PackagePick$Catalog.addNeed(III)Z
def f_C_addNeed (a1 : Int32) (a2 : Int32) (a3 : Int32) (u : PS) : Option (Int32 × PS) :=
  if (f_C_has a1 u) = 0 then
    some ((0 : Int32), u)
  else
    ck (inb a1 28) <|
    if (u.2 0 a1.toNatClampNeg) < (4 : Int32) then
      ck (inb a1 28) <|
      ck (inb a1 28) <|
      ck (inb a1 28) <|
      ck (inb a1 28) <|
      ck (inb a1 28) <|
      ck (inb a1 28) <|
      some ((1 : Int32), (sa (sa (sa u 0 a1.toNatClampNeg ((u.2 0 a1.toNatClampNeg) + (1 : Int32))) 1 a1.toNatClampNeg ((u.2 1 a1.toNatClampNeg) ||| a2)) 2 a1.toNatClampNeg ((u.2 2 a1.toNatClampNeg) ||| a3)))
    else
      some ((0 : Int32), u)
set_option maxRecDepth 100000 in
set_option maxHeartbeats 4000000 in
theorem w_C_addNeed {γ : CX} {cI : ClassId} {h : Nat → Nat} {r0 : Int32} {u0 : PS} (C : Cx γ b_C_addNeed 4 (some .boolean) "PackagePick$Catalog" (rk 2) [(cI, .int)]) (hQ : QI γ [(cI, .int)] (WX cI h) r0 u0) (a1 : Int32) (a2 : Int32) (a3 : Int32) (u : PS) (hf : f_C_addNeed a1 a2 a3 u = some (r0, u0)) : AtG γ (WX cI h) 4 0 0 0 [(0, .ref (h 1)), (1, .int a1), (2, .int a2), (3, .int a3)] [] u := by
  unfold f_C_addNeed at hf
  refine x_aload_n C d_C_addNeed_0 rfl (k := 0) rfl ?_
  refine x_iload_n C d_C_addNeed_1 rfl (k := 1) rfl ?_
  refine x_callIv (q0 := 1) (ci := 0) (rest := []) C (c_C_has a1 u) kc_C_has (rok (by decide) (by decide)) mm_C_39 ms_C_has ml_C_has rfl rfl rfl rfl (Nat.le_of_ble_eq_true rfl) d_C_addNeed_2 ?_
  refine x_if_eq (tgt := 18) C d_C_addNeed_5 (by decide) (fun hc => ?_) (fun hc => ?_)
  · rw [if_pos hc] at hf
    refine x_iconst (v := 0) C d_C_addNeed_18 (by decide) ?_
    exact x_zret C hQ rfl (Prod.mk.inj (Option.some.inj hf)).1 (Prod.mk.inj (Option.some.inj hf)).2 d_C_addNeed_19
  · rw [if_neg hc] at hf
    refine x_aload_n C d_C_addNeed_8 rfl (k := 0) rfl ?_
    refine gX_C_needs C mf_C_9 d_C_addNeed_9 ?_
    refine x_iload_n C d_C_addNeed_12 rfl (k := 1) rfl ?_
    obtain ⟨hin, hf⟩ := ck_some hf
    refine aldX_4 (v := (u.2 0 a1.toNatClampNeg)) C hin rfl d_C_addNeed_13 ?_
    refine x_iconst (v := 4) C d_C_addNeed_14 (by decide) ?_
    refine x_icmp_lt (tgt := 20) C d_C_addNeed_15 (by decide) (fun hc => ?_) (fun hc => ?_)
    · rw [if_pos hc] at hf
      refine x_aload_n C d_C_addNeed_20 rfl (k := 0) rfl ?_
      refine gX_C_needs C mf_C_9 d_C_addNeed_21 ?_
      refine x_iload_n C d_C_addNeed_24 rfl (k := 1) rfl ?_
      refine x_dup2 C d_C_addNeed_25 rfl rfl ?_
      obtain ⟨hin, hf⟩ := ck_some hf
      refine aldX_4 (v := (u.2 0 a1.toNatClampNeg)) C hin rfl d_C_addNeed_26 ?_
      refine x_iconst (v := 1) C d_C_addNeed_27 (by decide) ?_
      refine x_iadd C d_C_addNeed_28 ?_
      obtain ⟨hin, hf⟩ := ck_some hf
      refine astX_4 C hin d_C_addNeed_29 ?_
      refine x_aload_n C d_C_addNeed_30 rfl (k := 0) rfl ?_
      refine gX_C_wanted C mf_C_15 d_C_addNeed_31 ?_
      refine x_iload_n C d_C_addNeed_34 rfl (k := 1) rfl ?_
      refine x_dup2 C d_C_addNeed_35 rfl rfl ?_
      obtain ⟨hin, hf⟩ := ck_some hf
      refine aldX_5 (v := (u.2 1 a1.toNatClampNeg)) C hin rfl d_C_addNeed_36 ?_
      refine x_iload_n C d_C_addNeed_37 rfl (k := 2) rfl ?_
      refine x_ior C d_C_addNeed_38 ?_
      obtain ⟨hin, hf⟩ := ck_some hf
      refine astX_5 C hin d_C_addNeed_39 ?_
      refine x_aload_n C d_C_addNeed_40 rfl (k := 0) rfl ?_
      refine gX_C_unmet C mf_C_18 d_C_addNeed_41 ?_
      refine x_iload_n C d_C_addNeed_44 rfl (k := 1) rfl ?_
      refine x_dup2 C d_C_addNeed_45 rfl rfl ?_
      obtain ⟨hin, hf⟩ := ck_some hf
      refine aldX_6 (v := (u.2 2 a1.toNatClampNeg)) C hin rfl d_C_addNeed_46 ?_
      refine x_iload_n C d_C_addNeed_47 rfl (k := 3) rfl ?_
      refine x_ior C d_C_addNeed_48 ?_
      obtain ⟨hin, hf⟩ := ck_some hf
      refine astX_6 C hin d_C_addNeed_49 ?_
      refine x_iconst (v := 1) C d_C_addNeed_50 (by decide) ?_
      exact x_zret C hQ rfl (Prod.mk.inj (Option.some.inj hf)).1 (Prod.mk.inj (Option.some.inj hf)).2 d_C_addNeed_51
    · rw [if_neg hc] at hf
      refine x_iconst (v := 0) C d_C_addNeed_18 (by decide) ?_
      exact x_zret C hQ rfl (Prod.mk.inj (Option.some.inj hf)).1 (Prod.mk.inj (Option.some.inj hf)).2 d_C_addNeed_19
theorem c_C_addNeed {l : Launch} {D : va_G} {cI : ClassId} {h : Nat → Nat} (a1 : Int32) (a2 : Int32) (a3 : Int32) (u : PS) {r0 : Int32 × PS} (hf : f_C_addNeed a1 a2 a3 u = some r0) : CtI l y_C_addNeed b_C_addNeed 4 (some .boolean) (rk 2) D [(cI, .int)] (WX cI h) [.ref (h 1), .int a1, .int a2, .int a3] u r0.1 r0.2 := ct_ofI (by decide) (Nat.le_of_ble_eq_true rfl) (fun γ _ _ C hQ => w_C_addNeed C hQ a1 a2 a3 u hf)
-- ---- PackagePick$Catalog.addBan(II)Z
def f_C_addBan (a1 : Int32) (a2 : Int32) (u : PS) : Option (Int32 × PS) :=
  if (f_X_isSlot a1) = 0 then
    some ((0 : Int32), u)
  else
    if (f_X_isSlot a2) = 0 then
      some ((0 : Int32), u)
    else
      if (u.1 4) < (16 : Int32) then
        ck (inb a1 28) <|
        ck (inb a1 28) <|
        ck (inb a2 28) <|
        ck (inb a2 28) <|
        some ((1 : Int32), (sa (sa (si u 4 ((u.1 4) + (1 : Int32))) 3 a1.toNatClampNeg ((u.2 3 a1.toNatClampNeg) ||| ((1 : Int32) <<< (a2 &&& 31)))) 3 a2.toNatClampNeg (((sa (si u 4 ((u.1 4) + (1 : Int32))) 3 a1.toNatClampNeg ((u.2 3 a1.toNatClampNeg) ||| ((1 : Int32) <<< (a2 &&& 31)))).2 3 a2.toNatClampNeg) ||| ((1 : Int32) <<< (a1 &&& 31)))))
      else
        some ((0 : Int32), u)
set_option maxRecDepth 100000 in
set_option maxHeartbeats 4000000 in
theorem w_C_addBan {γ : CX} {cI : ClassId} {h : Nat → Nat} {r0 : Int32} {u0 : PS} (C : Cx γ b_C_addBan 3 (some .boolean) "PackagePick$Catalog" (rk 1) [(cI, .int)]) (hQ : QI γ [(cI, .int)] (WX cI h) r0 u0) (a1 : Int32) (a2 : Int32) (u : PS) (hf : f_C_addBan a1 a2 u = some (r0, u0)) : AtG γ (WX cI h) 3 0 0 0 [(0, .ref (h 1)), (1, .int a1), (2, .int a2)] [] u := by
  unfold f_C_addBan at hf
  refine x_iload_n C d_C_addBan_0 rfl (k := 1) rfl ?_
  refine x_callIn (rest := []) C (c_X_isSlot a1) kc_X_isSlot (rok (by decide) (by decide)) (by decide +kernel) ms_X_isSlot rfl rfl (Nat.le_of_ble_eq_true rfl) d_C_addBan_1 ?_
  refine x_if_eq (tgt := 23) C d_C_addBan_4 (by decide) (fun hc => ?_) (fun hc => ?_)
  · rw [if_pos hc] at hf
    refine x_iconst (v := 0) C d_C_addBan_23 (by decide) ?_
    exact x_zret C hQ rfl (Prod.mk.inj (Option.some.inj hf)).1 (Prod.mk.inj (Option.some.inj hf)).2 d_C_addBan_24
  · rw [if_neg hc] at hf
    refine x_iload_n C d_C_addBan_7 rfl (k := 2) rfl ?_
    refine x_callIn (rest := []) C (c_X_isSlot a2) kc_X_isSlot (rok (by decide) (by decide)) (by decide +kernel) ms_X_isSlot rfl rfl (Nat.le_of_ble_eq_true rfl) d_C_addBan_8 ?_
    refine x_if_eq (tgt := 23) C d_C_addBan_11 (by decide) (fun hc => ?_) (fun hc => ?_)
    · rw [if_pos hc] at hf
      refine x_iconst (v := 0) C d_C_addBan_23 (by decide) ?_
      exact x_zret C hQ rfl (Prod.mk.inj (Option.some.inj hf)).1 (Prod.mk.inj (Option.some.inj hf)).2 d_C_addBan_24
    · rw [if_neg hc] at hf
      refine x_aload_n C d_C_addBan_14 rfl (k := 0) rfl ?_
      refine gX_C_bans (v := (u.1 4)) C mf_C_28 rfl d_C_addBan_15 ?_
      refine x_bipush (v := 16) C d_C_addBan_18 (by decide) ?_
      refine x_icmp_lt (tgt := 25) C d_C_addBan_20 (by decide) (fun hc => ?_) (fun hc => ?_)
      · rw [if_pos hc] at hf
        refine x_aload_n C d_C_addBan_25 rfl (k := 0) rfl ?_
        refine x_dup C d_C_addBan_26 rfl ?_
        refine gX_C_bans (v := (u.1 4)) C mf_C_28 rfl d_C_addBan_27 ?_
        refine x_iconst (v := 1) C d_C_addBan_30 (by decide) ?_
        refine x_iadd C d_C_addBan_31 ?_
        refine pX_C_bans C mf_C_28 d_C_addBan_32 ?_
        refine x_aload_n C d_C_addBan_35 rfl (k := 0) rfl ?_
        refine gX_C_banned C mf_C_21 d_C_addBan_36 ?_
        refine x_iload_n C d_C_addBan_39 rfl (k := 1) rfl ?_
        refine x_dup2 C d_C_addBan_40 rfl rfl ?_
        obtain ⟨hin, hf⟩ := ck_some hf
        refine aldX_7 (v := (u.2 3 a1.toNatClampNeg)) C hin rfl d_C_addBan_41 ?_
        refine x_iconst (v := 1) C d_C_addBan_42 (by decide) ?_
        refine x_iload_n C d_C_addBan_43 rfl (k := 2) rfl ?_
        refine x_ishl C d_C_addBan_44 ?_
        refine x_ior C d_C_addBan_45 ?_
        obtain ⟨hin, hf⟩ := ck_some hf
        refine astX_7 C hin d_C_addBan_46 ?_
        refine x_aload_n C d_C_addBan_47 rfl (k := 0) rfl ?_
        refine gX_C_banned C mf_C_21 d_C_addBan_48 ?_
        refine x_iload_n C d_C_addBan_51 rfl (k := 2) rfl ?_
        refine x_dup2 C d_C_addBan_52 rfl rfl ?_
        obtain ⟨hin, hf⟩ := ck_some hf
        refine aldX_7 (v := ((sa (si u 4 ((u.1 4) + (1 : Int32))) 3 a1.toNatClampNeg ((u.2 3 a1.toNatClampNeg) ||| ((1 : Int32) <<< (a2 &&& 31)))).2 3 a2.toNatClampNeg)) C hin rfl d_C_addBan_53 ?_
        refine x_iconst (v := 1) C d_C_addBan_54 (by decide) ?_
        refine x_iload_n C d_C_addBan_55 rfl (k := 1) rfl ?_
        refine x_ishl C d_C_addBan_56 ?_
        refine x_ior C d_C_addBan_57 ?_
        obtain ⟨hin, hf⟩ := ck_some hf
        refine astX_7 C hin d_C_addBan_58 ?_
        refine x_iconst (v := 1) C d_C_addBan_59 (by decide) ?_
        exact x_zret C hQ rfl (Prod.mk.inj (Option.some.inj hf)).1 (Prod.mk.inj (Option.some.inj hf)).2 d_C_addBan_60
      · rw [if_neg hc] at hf
        refine x_iconst (v := 0) C d_C_addBan_23 (by decide) ?_
        exact x_zret C hQ rfl (Prod.mk.inj (Option.some.inj hf)).1 (Prod.mk.inj (Option.some.inj hf)).2 d_C_addBan_24
theorem c_C_addBan {l : Launch} {D : va_G} {cI : ClassId} {h : Nat → Nat} (a1 : Int32) (a2 : Int32) (u : PS) {r0 : Int32 × PS} (hf : f_C_addBan a1 a2 u = some r0) : CtI l y_C_addBan b_C_addBan 3 (some .boolean) (rk 1) D [(cI, .int)] (WX cI h) [.ref (h 1), .int a1, .int a2] u r0.1 r0.2 := ct_ofI (by decide) (Nat.le_of_ble_eq_true rfl) (fun γ _ _ C hQ => w_C_addBan C hQ a1 a2 u hf)
-- ---- PackagePick$Catalog.allNeeds()I
def b_C_allNeeds_4 (u : PS) (k4 : Int32 → Int32 → Option (Int32)) (x1 : Int32) (x2 : Int32) : Option (Int32) :=
  if (28 : Int32) ≤ x2 then
    some x1
  else
    ck (inb x2 28) <|
    k4 (x1 + (u.2 0 x2.toNatClampNeg)) (x2 + (1 : Int32))
set_option maxRecDepth 100000 in
set_option maxHeartbeats 4000000 in
theorem w_C_allNeeds_4 {γ : CX} {cI : ClassId} {h : Nat → Nat} {u : PS} {r0 : Int32} (C : Cx γ b_C_allNeeds 3 (some .int) "PackagePick$Catalog" (rk 0) [(cI, .int)]) (hQ : QI γ [(cI, .int)] (WX cI h) r0 u) (k4 : Int32 → Int32 → Option (Int32)) (hk4 : ∀ (x1 : Int32) (x2 : Int32), k4 x1 x2 = some r0 → AtG γ (WX cI h) 3 0 0 4 [(0, .ref (h 1)), (1, .int x1), (2, .int x2)] [] u) (x1 : Int32) (x2 : Int32) (hf : b_C_allNeeds_4 u k4 x1 x2 = some r0) : AtG γ (WX cI h) 3 0 0 4 [(0, .ref (h 1)), (1, .int x1), (2, .int x2)] [] u := by
  unfold b_C_allNeeds_4 at hf
  refine x_iload_n C d_C_allNeeds_4 rfl (k := 2) rfl ?_
  refine x_bipush (v := 28) C d_C_allNeeds_5 (by decide) ?_
  refine x_icmp_ge (tgt := 25) C d_C_allNeeds_7 (by decide) (fun hc => ?_) (fun hc => ?_)
  · rw [if_pos hc] at hf
    refine x_iload_n C d_C_allNeeds_25 rfl (k := 1) rfl ?_
    exact x_iret C hQ (Option.some.inj hf) rfl d_C_allNeeds_26
  · rw [if_neg hc] at hf
    refine x_iload_n C d_C_allNeeds_10 rfl (k := 1) rfl ?_
    refine x_aload_n C d_C_allNeeds_11 rfl (k := 0) rfl ?_
    refine gX_C_needs C mf_C_9 d_C_allNeeds_12 ?_
    refine x_iload_n C d_C_allNeeds_15 rfl (k := 2) rfl ?_
    obtain ⟨hin, hf⟩ := ck_some hf
    refine aldX_4 (v := (u.2 0 x2.toNatClampNeg)) C hin rfl d_C_allNeeds_16 ?_
    refine x_iadd C d_C_allNeeds_17 ?_
    refine x_istore_n (lv' := [(1, .int (x1 + (u.2 0 x2.toNatClampNeg))), (0, .ref (h 1)), (2, .int x2)]) C d_C_allNeeds_18 rfl (by decide) rfl ?_
    refine x_iinc (v := (x2 + (1 : Int32))) (lv' := [(2, .int (x2 + (1 : Int32))), (1, .int (x1 + (u.2 0 x2.toNatClampNeg))), (0, .ref (h 1))]) C d_C_allNeeds_19 (k := 2) rfl rfl (by decide) rfl ?_
    refine x_goto (tgt := 4) C d_C_allNeeds_22 (by decide) ?_
    refine x_sub (lv' := [(0, .ref (h 1)), (1, .int (x1 + (u.2 0 x2.toNatClampNeg))), (2, .int (x2 + (1 : Int32)))]) [2, 1, 0] rfl ?_
    exact hk4 (x1 + (u.2 0 x2.toNatClampNeg)) (x2 + (1 : Int32)) hf
def l_C_allNeeds_4 (u : PS) : Nat → Int32 → Int32 → Option (Int32)
  | 0 => fun _ _ => none
  | n + 1 => b_C_allNeeds_4 u (l_C_allNeeds_4 u n)
theorem wl_C_allNeeds_4 {γ : CX} {cI : ClassId} {h : Nat → Nat} {u : PS} {r0 : Int32} (C : Cx γ b_C_allNeeds 3 (some .int) "PackagePick$Catalog" (rk 0) [(cI, .int)]) (hQ : QI γ [(cI, .int)] (WX cI h) r0 u) (n : Nat) : ∀ (x1 : Int32) (x2 : Int32), l_C_allNeeds_4 u n x1 x2 = some r0 → AtG γ (WX cI h) 3 0 0 4 [(0, .ref (h 1)), (1, .int x1), (2, .int x2)] [] u := by
  induction n with
  | zero => intro x1 x2 hf; cases hf
  | succ n ih => intro x1 x2 hf; exact w_C_allNeeds_4 C hQ (l_C_allNeeds_4 u n) ih x1 x2 hf
def f_C_allNeeds (u : PS) : Option (Int32) :=
  l_C_allNeeds_4 u NF (0 : Int32) (0 : Int32)
set_option maxRecDepth 100000 in
set_option maxHeartbeats 4000000 in
theorem w_C_allNeeds {γ : CX} {cI : ClassId} {h : Nat → Nat} {u : PS} {r0 : Int32} (C : Cx γ b_C_allNeeds 3 (some .int) "PackagePick$Catalog" (rk 0) [(cI, .int)]) (hQ : QI γ [(cI, .int)] (WX cI h) r0 u) (hf : f_C_allNeeds u = some r0) : AtG γ (WX cI h) 3 0 0 0 [(0, .ref (h 1))] [] u := by
  unfold f_C_allNeeds at hf
  refine x_iconst (v := 0) C d_C_allNeeds_0 (by decide) ?_
  refine x_istore_n (lv' := [(1, .int (0 : Int32)), (0, .ref (h 1))]) C d_C_allNeeds_1 rfl (by decide) rfl ?_
  refine x_iconst (v := 0) C d_C_allNeeds_2 (by decide) ?_
  refine x_istore_n (lv' := [(2, .int (0 : Int32)), (1, .int (0 : Int32)), (0, .ref (h 1))]) C d_C_allNeeds_3 rfl (by decide) rfl ?_
  refine x_sub (lv' := [(0, .ref (h 1)), (1, .int (0 : Int32)), (2, .int (0 : Int32))]) [2, 1, 0] rfl ?_
  exact wl_C_allNeeds_4 C hQ NF (0 : Int32) (0 : Int32) hf
theorem c_C_allNeeds {l : Launch} {D : va_G} {cI : ClassId} {h : Nat → Nat} (u : PS) {r0 : Int32} (hf : f_C_allNeeds u = some r0) : CtI l y_C_allNeeds b_C_allNeeds 3 (some .int) (rk 0) D [(cI, .int)] (WX cI h) [.ref (h 1)] u r0 u := ct_ofI (by decide) (Nat.le_of_ble_eq_true rfl) (fun γ _ _ C hQ => w_C_allNeeds C hQ hf)
-- ---- PackagePick$Tally.begin(III)V
def f_T_begin (a1 : Int32) (a2 : Int32) (a3 : Int32) (u : PS) : PS :=
  (si (si (si (si (si (si (si (si u 6 a1) 7 a2) 8 a3) 9 (0 : Int32)) 10 (0 : Int32)) 11 (0 : Int32)) 12 (0 : Int32)) 13 (0 : Int32))
set_option maxRecDepth 100000 in
set_option maxHeartbeats 4000000 in
theorem w_T_begin {γ : CX} {cI : ClassId} {h : Nat → Nat} {u0 : PS} (C : Cx γ b_T_begin 4 none "PackagePick$Tally" (rk 0) [(cI, .int)]) (hQ : QV γ [(cI, .int)] (WX cI h) u0) (a1 : Int32) (a2 : Int32) (a3 : Int32) (u : PS) (hf : f_T_begin a1 a2 a3 u = u0) : AtG γ (WX cI h) 4 0 0 0 [(0, .ref (h 3)), (1, .int a1), (2, .int a2), (3, .int a3)] [] u := by
  unfold f_T_begin at hf
  refine x_aload_n C d_T_begin_0 rfl (k := 0) rfl ?_
  refine x_iload_n C d_T_begin_1 rfl (k := 1) rfl ?_
  refine pX_T_aim C mf_T_9 d_T_begin_2 ?_
  refine x_aload_n C d_T_begin_5 rfl (k := 0) rfl ?_
  refine x_iload_n C d_T_begin_6 rfl (k := 2) rfl ?_
  refine pX_T_kept C mf_T_15 d_T_begin_7 ?_
  refine x_aload_n C d_T_begin_10 rfl (k := 0) rfl ?_
  refine x_iload_n C d_T_begin_11 rfl (k := 3) rfl ?_
  refine pX_T_limit C mf_T_18 d_T_begin_12 ?_
  refine x_aload_n C d_T_begin_15 rfl (k := 0) rfl ?_
  refine x_iconst (v := 0) C d_T_begin_16 (by decide) ?_
  refine pX_T_found C mf_T_21 d_T_begin_17 ?_
  refine x_aload_n C d_T_begin_20 rfl (k := 0) rfl ?_
  refine x_iconst (v := 0) C d_T_begin_21 (by decide) ?_
  refine pX_T_seen C mf_T_24 d_T_begin_22 ?_
  refine x_aload_n C d_T_begin_25 rfl (k := 0) rfl ?_
  refine x_iconst (v := 0) C d_T_begin_26 (by decide) ?_
  refine pX_T_absent C mf_T_27 d_T_begin_27 ?_
  refine x_aload_n C d_T_begin_30 rfl (k := 0) rfl ?_
  refine x_iconst (v := 0) C d_T_begin_31 (by decide) ?_
  refine pX_T_best C mf_T_30 d_T_begin_32 ?_
  refine x_aload_n C d_T_begin_35 rfl (k := 0) rfl ?_
  refine x_iconst (v := 0) C d_T_begin_36 (by decide) ?_
  refine pX_T_bestCost C mf_T_33 d_T_begin_37 ?_
  exact x_vret C hQ hf d_T_begin_40
theorem c_T_begin {l : Launch} {D : va_G} {cI : ClassId} {h : Nat → Nat} (a1 : Int32) (a2 : Int32) (a3 : Int32) (u : PS) : CtV l y_T_begin b_T_begin 4 none (rk 0) D [(cI, .int)] (WX cI h) [.ref (h 3), .int a1, .int a2, .int a3] u (f_T_begin a1 a2 a3 u) := ct_ofV (by decide) (Nat.le_of_ble_eq_true rfl) (fun γ _ _ C hQ => w_T_begin C hQ a1 a2 a3 u rfl)
-- ---- PackagePick$Tally.isFull()Z
def f_T_isFull (u : PS) : Int32 :=
  if (u.1 9) < (u.1 8) then
    (0 : Int32)
  else
    (1 : Int32)
set_option maxRecDepth 100000 in
set_option maxHeartbeats 4000000 in
theorem w_T_isFull {γ : CX} {cI : ClassId} {h : Nat → Nat} {u : PS} {r0 : Int32} (C : Cx γ b_T_isFull 1 (some .boolean) "PackagePick$Tally" (rk 0) [(cI, .int)]) (hQ : QI γ [(cI, .int)] (WX cI h) r0 u) (hf : f_T_isFull u = r0) : AtG γ (WX cI h) 1 0 0 0 [(0, .ref (h 3))] [] u := by
  unfold f_T_isFull at hf
  refine x_aload_n C d_T_isFull_0 rfl (k := 0) rfl ?_
  refine gX_T_found (v := (u.1 9)) C mf_T_21 rfl d_T_isFull_1 ?_
  refine x_aload_n C d_T_isFull_4 rfl (k := 0) rfl ?_
  refine gX_T_limit (v := (u.1 8)) C mf_T_18 rfl d_T_isFull_5 ?_
  refine x_icmp_lt (tgt := 15) C d_T_isFull_8 (by decide) (fun hc => ?_) (fun hc => ?_)
  · rw [if_pos hc] at hf
    refine x_iconst (v := 0) C d_T_isFull_15 (by decide) ?_
    exact x_zret C hQ rfl hf rfl d_T_isFull_16
  · rw [if_neg hc] at hf
    refine x_iconst (v := 1) C d_T_isFull_11 (by decide) ?_
    refine x_goto (tgt := 16) C d_T_isFull_12 (by decide) ?_
    exact x_zret C hQ rfl hf rfl d_T_isFull_16
theorem c_T_isFull {l : Launch} {D : va_G} {cI : ClassId} {h : Nat → Nat} (u : PS) : CtI l y_T_isFull b_T_isFull 1 (some .boolean) (rk 0) D [(cI, .int)] (WX cI h) [.ref (h 3)] u (f_T_isFull u) u := ct_ofI (by decide) (Nat.le_of_ble_eq_true rfl) (fun γ _ _ C hQ => w_T_isFull C hQ rfl)
-- ---- PackagePick.marksOf(I)I
def f_X_marksOf (a0 : Int32) : Int32 :=
  ((((a0 ||| (a0 >>> ((1 : Int32) &&& 31))) ||| (a0 >>> ((2 : Int32) &&& 31))) ||| (a0 >>> ((3 : Int32) &&& 31))) &&& (17895697 : Int32))
set_option maxRecDepth 100000 in
set_option maxHeartbeats 4000000 in
theorem w_X_marksOf {γ : CX} {S : Type} {wf : S → va_W} {tys : Tys} {u : S} {r0 : Int32} (C : Cx γ b_X_marksOf 1 (some .int) "PackagePick" (rk 0) tys) (hQ : QI γ tys wf r0 u) (a0 : Int32) (hf : f_X_marksOf a0 = r0) : AtG γ wf 1 0 0 0 [(0, .int a0)] [] u := by
  unfold f_X_marksOf at hf
  refine x_iload_n C d_X_marksOf_0 rfl (k := 0) rfl ?_
  refine x_iload_n C d_X_marksOf_1 rfl (k := 0) rfl ?_
  refine x_iconst (v := 1) C d_X_marksOf_2 (by decide) ?_
  refine x_ishr C d_X_marksOf_3 ?_
  refine x_ior C d_X_marksOf_4 ?_
  refine x_iload_n C d_X_marksOf_5 rfl (k := 0) rfl ?_
  refine x_iconst (v := 2) C d_X_marksOf_6 (by decide) ?_
  refine x_ishr C d_X_marksOf_7 ?_
  refine x_ior C d_X_marksOf_8 ?_
  refine x_iload_n C d_X_marksOf_9 rfl (k := 0) rfl ?_
  refine x_iconst (v := 3) C d_X_marksOf_10 (by decide) ?_
  refine x_ishr C d_X_marksOf_11 ?_
  refine x_ior C d_X_marksOf_12 ?_
  refine x_ldc (v := 17895697) C mk_X_194 d_X_marksOf_13 ?_
  refine x_iand C d_X_marksOf_15 ?_
  exact x_iret C hQ hf rfl d_X_marksOf_16
theorem c_X_marksOf {S : Type} {l : Launch} {D : va_G} {tys : Tys} {wf : S → va_W} {u : S} (a0 : Int32) : CtI l y_X_marksOf b_X_marksOf 1 (some .int) (rk 0) D tys wf [.int a0] u (f_X_marksOf a0) u := ct_ofI (by decide) (Nat.le_of_ble_eq_true rfl) (fun γ _ _ C hQ => w_X_marksOf C hQ a0 rfl)
-- ---- PackagePick.differing(II)I
def f_X_differing (a0 : Int32) (a1 : Int32) : Int32 :=
  (f_J_bitCount (f_X_marksOf (a0 ^^^ a1)))
set_option maxRecDepth 100000 in
set_option maxHeartbeats 4000000 in
theorem w_X_differing {γ : CX} {S : Type} {wf : S → va_W} {tys : Tys} {u : S} {r0 : Int32} (C : Cx γ b_X_differing 2 (some .int) "PackagePick" (rk 1) tys) (hQ : QI γ tys wf r0 u) (a0 : Int32) (a1 : Int32) (hf : f_X_differing a0 a1 = r0) : AtG γ wf 2 0 0 0 [(0, .int a0), (1, .int a1)] [] u := by
  unfold f_X_differing at hf
  refine x_iload_n C d_X_differing_0 rfl (k := 0) rfl ?_
  refine x_iload_n C d_X_differing_1 rfl (k := 1) rfl ?_
  refine x_ixor C d_X_differing_2 ?_
  refine x_callIs (rest := []) C (c_X_marksOf (a0 ^^^ a1)) kc_X_marksOf (rok (by decide) (by decide)) mm_X_171 ms_X_marksOf rfl rfl (Nat.le_of_ble_eq_true rfl) d_X_differing_3 ?_
  refine x_callIs (rest := []) C (c_J_bitCount (f_X_marksOf (a0 ^^^ a1))) kc_J_bitCount (rok (by decide) (by decide)) mm_X_106 ms_J_bitCount rfl rfl (Nat.le_of_ble_eq_true rfl) d_X_differing_6 ?_
  exact x_iret C hQ hf rfl d_X_differing_9
theorem c_X_differing {S : Type} {l : Launch} {D : va_G} {tys : Tys} {wf : S → va_W} {u : S} (a0 : Int32) (a1 : Int32) : CtI l y_X_differing b_X_differing 2 (some .int) (rk 1) D tys wf [.int a0, .int a1] u (f_X_differing a0 a1) u := ct_ofI (by decide) (Nat.le_of_ble_eq_true rfl) (fun γ _ _ C hQ => w_X_differing C hQ a0 a1 rfl)
-- ---- PackagePick$Tally.costOf(I)I
def f_T_costOf (a1 : Int32) (u : PS) : Int32 :=
  if (u.1 6) = (1 : Int32) then
    (f_J_bitCount a1)
  else
  if (u.1 6) = (2 : Int32) then
    (f_X_differing a1 (u.1 7))
  else
  (0 : Int32)
set_option maxRecDepth 100000 in
set_option maxHeartbeats 4000000 in
theorem w_T_costOf {γ : CX} {cI : ClassId} {h : Nat → Nat} {u : PS} {r0 : Int32} (C : Cx γ b_T_costOf 2 (some .int) "PackagePick$Tally" (rk 2) [(cI, .int)]) (hQ : QI γ [(cI, .int)] (WX cI h) r0 u) (a1 : Int32) (hf : f_T_costOf a1 u = r0) : AtG γ (WX cI h) 2 0 0 0 [(0, .ref (h 3)), (1, .int a1)] [] u := by
  unfold f_T_costOf at hf
  refine x_aload_n C d_T_costOf_0 rfl (k := 0) rfl ?_
  refine gX_T_aim (v := (u.1 6)) C mf_T_9 rfl d_T_costOf_1 ?_
  by_cases hc1 : (u.1 6) = (1 : Int32)
  · rw [if_pos hc1] at hf
    refine x_lsw (tgt := 32) C d_T_costOf_4 hc1 rfl rfl (by decide) ?_
    refine x_iload_n C d_T_costOf_32 rfl (k := 1) rfl ?_
    refine x_callIs (rest := []) C (c_J_bitCount a1) kc_J_bitCount (rok (by decide) (by decide)) mm_T_44 ms_J_bitCount rfl rfl (Nat.le_of_ble_eq_true rfl) d_T_costOf_33 ?_
    exact x_iret C hQ hf rfl d_T_costOf_36
  rw [if_neg hc1] at hf
  by_cases hc2 : (u.1 6) = (2 : Int32)
  · rw [if_pos hc2] at hf
    refine x_lsw (tgt := 37) C d_T_costOf_4 hc2 rfl rfl (by decide) ?_
    refine x_iload_n C d_T_costOf_37 rfl (k := 1) rfl ?_
    refine x_aload_n C d_T_costOf_38 rfl (k := 0) rfl ?_
    refine gX_T_kept (v := (u.1 7)) C mf_T_15 rfl d_T_costOf_39 ?_
    refine x_callIn (rest := []) C (c_X_differing a1 (u.1 7)) kc_X_differing (rok (by decide) (by decide)) (by decide +kernel) ms_X_differing rfl rfl (Nat.le_of_ble_eq_true rfl) d_T_costOf_42 ?_
    exact x_iret C hQ hf rfl d_T_costOf_45
  rw [if_neg hc2] at hf
  refine x_lswo (tgt := 46) C d_T_costOf_4 rfl (sw_lk_1_2 hc1 hc2) (by decide) ?_
  refine x_iconst (v := 0) C d_T_costOf_46 (by decide) ?_
  exact x_iret C hQ hf rfl d_T_costOf_47
theorem c_T_costOf {l : Launch} {D : va_G} {cI : ClassId} {h : Nat → Nat} (a1 : Int32) (u : PS) : CtI l y_T_costOf b_T_costOf 2 (some .int) (rk 2) D [(cI, .int)] (WX cI h) [.ref (h 3), .int a1] u (f_T_costOf a1 u) u := ct_ofI (by decide) (Nat.le_of_ble_eq_true rfl) (fun γ _ _ C hQ => w_T_costOf C hQ a1 rfl)
-- ---- PackagePick$Tally.enter(I)V
def b_T_enter_47 (x1 : Int32) (u : PS) : PS :=
  (si (si (si u 9 ((u.1 9) + (1 : Int32))) 10 ((u.1 10) ||| x1)) 11 ((u.1 11) ||| ((17895697 : Int32) &&& ((f_X_marksOf x1) ^^^ (-1 : Int32)))))
set_option maxRecDepth 100000 in
set_option maxHeartbeats 4000000 in
theorem w_T_enter_47 {γ : CX} {cI : ClassId} {h : Nat → Nat} {u0 : PS} (C : Cx γ b_T_enter 3 none "PackagePick$Tally" (rk 3) [(cI, .int)]) (hQ : QV γ [(cI, .int)] (WX cI h) u0) (x1 : Int32) (u : PS) (hf : b_T_enter_47 x1 u = u0) : AtG γ (WX cI h) 3 0 0 47 [(0, .ref (h 3)), (1, .int x1)] [] u := by
  unfold b_T_enter_47 at hf
  refine x_aload_n C d_T_enter_47 rfl (k := 0) rfl ?_
  refine x_dup C d_T_enter_48 rfl ?_
  refine gX_T_found (v := (u.1 9)) C mf_T_21 rfl d_T_enter_49 ?_
  refine x_iconst (v := 1) C d_T_enter_52 (by decide) ?_
  refine x_iadd C d_T_enter_53 ?_
  refine pX_T_found C mf_T_21 d_T_enter_54 ?_
  refine x_aload_n C d_T_enter_57 rfl (k := 0) rfl ?_
  refine x_dup C d_T_enter_58 rfl ?_
  refine gX_T_seen (v := (u.1 10)) C mf_T_24 rfl d_T_enter_59 ?_
  refine x_iload_n C d_T_enter_62 rfl (k := 1) rfl ?_
  refine x_ior C d_T_enter_63 ?_
  refine pX_T_seen C mf_T_24 d_T_enter_64 ?_
  refine x_aload_n C d_T_enter_67 rfl (k := 0) rfl ?_
  refine x_dup C d_T_enter_68 rfl ?_
  refine gX_T_absent (v := (u.1 11)) C mf_T_27 rfl d_T_enter_69 ?_
  refine x_ldc (v := 17895697) C mk_T_40 d_T_enter_72 ?_
  refine x_iload_n C d_T_enter_74 rfl (k := 1) rfl ?_
  refine x_callIn (rest := [.int (17895697 : Int32), .int (u.1 11), .ref (h 3)]) C (c_X_marksOf x1) kc_X_marksOf (rok (by decide) (by decide)) (by decide +kernel) ms_X_marksOf rfl rfl (Nat.le_of_ble_eq_true rfl) d_T_enter_75 ?_
  refine x_iconst (v := -1) C d_T_enter_78 (by decide) ?_
  refine x_ixor C d_T_enter_79 ?_
  refine x_iand C d_T_enter_80 ?_
  refine x_ior C d_T_enter_81 ?_
  refine pX_T_absent C mf_T_27 d_T_enter_82 ?_
  exact x_vret C hQ hf d_T_enter_85
def b_T_enter_37 (x1 : Int32) (x2 : Int32) (u : PS) : PS :=
  b_T_enter_47 x1 (si (si u 12 x1) 13 x2)
set_option maxRecDepth 100000 in
set_option maxHeartbeats 4000000 in
theorem w_T_enter_37 {γ : CX} {cI : ClassId} {h : Nat → Nat} {u0 : PS} (C : Cx γ b_T_enter 3 none "PackagePick$Tally" (rk 3) [(cI, .int)]) (hQ : QV γ [(cI, .int)] (WX cI h) u0) (x1 : Int32) (x2 : Int32) (u : PS) (hf : b_T_enter_37 x1 x2 u = u0) : AtG γ (WX cI h) 3 0 0 37 [(0, .ref (h 3)), (1, .int x1), (2, .int x2)] [] u := by
  unfold b_T_enter_37 at hf
  refine x_aload_n C d_T_enter_37 rfl (k := 0) rfl ?_
  refine x_iload_n C d_T_enter_38 rfl (k := 1) rfl ?_
  refine pX_T_best C mf_T_30 d_T_enter_39 ?_
  refine x_aload_n C d_T_enter_42 rfl (k := 0) rfl ?_
  refine x_iload_n C d_T_enter_43 rfl (k := 2) rfl ?_
  refine pX_T_bestCost C mf_T_33 d_T_enter_44 ?_
  refine x_sub (lv' := [(0, .ref (h 3)), (1, .int x1)]) [0, 1] rfl ?_
  exact w_T_enter_47 C hQ x1 (si (si u 12 x1) 13 x2) hf
def f_T_enter (a1 : Int32) (u : PS) : PS :=
  if (u.1 9) = 0 then
    b_T_enter_37 a1 (f_T_costOf a1 u) u
  else
    if (f_T_costOf a1 u) < (u.1 13) then
      b_T_enter_37 a1 (f_T_costOf a1 u) u
    else
      if (f_T_costOf a1 u) = (u.1 13) then
        if a1 ≤ (u.1 12) then
          b_T_enter_47 a1 u
        else
          b_T_enter_37 a1 (f_T_costOf a1 u) u
      else
        b_T_enter_47 a1 u
set_option maxRecDepth 100000 in
set_option maxHeartbeats 4000000 in
theorem w_T_enter {γ : CX} {cI : ClassId} {h : Nat → Nat} {u0 : PS} (C : Cx γ b_T_enter 3 none "PackagePick$Tally" (rk 3) [(cI, .int)]) (hQ : QV γ [(cI, .int)] (WX cI h) u0) (a1 : Int32) (u : PS) (hf : f_T_enter a1 u = u0) : AtG γ (WX cI h) 3 0 0 0 [(0, .ref (h 3)), (1, .int a1)] [] u := by
  unfold f_T_enter at hf
  refine x_aload_n C d_T_enter_0 rfl (k := 0) rfl ?_
  refine x_iload_n C d_T_enter_1 rfl (k := 1) rfl ?_
  refine x_callIv (q0 := 3) (ci := 1) (rest := []) C (c_T_costOf a1 u) kc_T_costOf (rok (by decide) (by decide)) mm_T_36 ms_T_costOf ml_T_costOf rfl rfl rfl rfl (Nat.le_of_ble_eq_true rfl) d_T_enter_2 ?_
  refine x_istore_n (lv' := [(2, .int (f_T_costOf a1 u)), (0, .ref (h 3)), (1, .int a1)]) C d_T_enter_5 rfl (by decide) rfl ?_
  refine x_aload_n C d_T_enter_6 rfl (k := 1) rfl ?_
  refine gX_T_found (v := (u.1 9)) C mf_T_21 rfl d_T_enter_7 ?_
  refine x_if_eq (tgt := 37) C d_T_enter_10 (by decide) (fun hc => ?_) (fun hc => ?_)
  · rw [if_pos hc] at hf
    refine x_sub (lv' := [(0, .ref (h 3)), (1, .int a1), (2, .int (f_T_costOf a1 u))]) [1, 2, 0] rfl ?_
    exact w_T_enter_37 C hQ a1 (f_T_costOf a1 u) u hf
  · rw [if_neg hc] at hf
    refine x_iload_n C d_T_enter_13 rfl (k := 0) rfl ?_
    refine x_aload_n C d_T_enter_14 rfl (k := 1) rfl ?_
    refine gX_T_bestCost (v := (u.1 13)) C mf_T_33 rfl d_T_enter_15 ?_
    refine x_icmp_lt (tgt := 37) C d_T_enter_18 (by decide) (fun hc => ?_) (fun hc => ?_)
    · rw [if_pos hc] at hf
      refine x_sub (lv' := [(0, .ref (h 3)), (1, .int a1), (2, .int (f_T_costOf a1 u))]) [1, 2, 0] rfl ?_
      exact w_T_enter_37 C hQ a1 (f_T_costOf a1 u) u hf
    · rw [if_neg hc] at hf
      refine x_iload_n C d_T_enter_21 rfl (k := 0) rfl ?_
      refine x_aload_n C d_T_enter_22 rfl (k := 1) rfl ?_
      refine gX_T_bestCost (v := (u.1 13)) C mf_T_33 rfl d_T_enter_23 ?_
      refine x_icmp_ne (tgt := 47) C d_T_enter_26 (by decide) (fun hc => ?_) (fun hc => ?_)
      · rw [if_neg hc] at hf
        refine x_sub (lv' := [(0, .ref (h 3)), (1, .int a1)]) [1, 2] rfl ?_
        exact w_T_enter_47 C hQ a1 u hf
      · rw [if_pos hc] at hf
        refine x_iload_n C d_T_enter_29 rfl (k := 2) rfl ?_
        refine x_aload_n C d_T_enter_30 rfl (k := 1) rfl ?_
        refine gX_T_best (v := (u.1 12)) C mf_T_30 rfl d_T_enter_31 ?_
        refine x_icmp_le (tgt := 47) C d_T_enter_34 (by decide) (fun hc => ?_) (fun hc => ?_)
        · rw [if_pos hc] at hf
          refine x_sub (lv' := [(0, .ref (h 3)), (1, .int a1)]) [1, 2] rfl ?_
          exact w_T_enter_47 C hQ a1 u hf
        · rw [if_neg hc] at hf
          refine x_sub (lv' := [(0, .ref (h 3)), (1, .int a1), (2, .int (f_T_costOf a1 u))]) [1, 2, 0] rfl ?_
          exact w_T_enter_37 C hQ a1 (f_T_costOf a1 u) u hf
theorem c_T_enter {l : Launch} {D : va_G} {cI : ClassId} {h : Nat → Nat} (a1 : Int32) (u : PS) : CtV l y_T_enter b_T_enter 3 none (rk 3) D [(cI, .int)] (WX cI h) [.ref (h 3), .int a1] u (f_T_enter a1 u) := ct_ofV (by decide) (Nat.le_of_ble_eq_true rfl) (fun γ _ _ C hQ => w_T_enter C hQ a1 u rfl)
-- ---- PackagePick$Wishes.add(II)Z
def f_W_add (a1 : Int32) (a2 : Int32) (u : PS) : Option (Int32 × PS) :=
  if (u.1 5) < (6 : Int32) then
    ck (inb (u.1 5) 6) <|
    ck (inb (u.1 5) 6) <|
    some ((1 : Int32), (si (sa (sa u 4 (u.1 5).toNatClampNeg a1) 5 (u.1 5).toNatClampNeg a2) 5 ((u.1 5) + (1 : Int32))))
  else
    some ((0 : Int32), u)
set_option maxRecDepth 100000 in
set_option maxHeartbeats 4000000 in
theorem w_W_add {γ : CX} {cI : ClassId} {h : Nat → Nat} {r0 : Int32} {u0 : PS} (C : Cx γ b_W_add 3 (some .boolean) "PackagePick$Wishes" (rk 0) [(cI, .int)]) (hQ : QI γ [(cI, .int)] (WX cI h) r0 u0) (a1 : Int32) (a2 : Int32) (u : PS) (hf : f_W_add a1 a2 u = some (r0, u0)) : AtG γ (WX cI h) 3 0 0 0 [(0, .ref (h 2)), (1, .int a1), (2, .int a2)] [] u := by
  unfold f_W_add at hf
  refine x_aload_n C d_W_add_0 rfl (k := 0) rfl ?_
  refine gX_W_size (v := (u.1 5)) C mf_W_18 rfl d_W_add_1 ?_
  refine x_bipush (v := 6) C d_W_add_4 (by decide) ?_
  refine x_icmp_lt (tgt := 11) C d_W_add_6 (by decide) (fun hc => ?_) (fun hc => ?_)
  · rw [if_pos hc] at hf
    refine x_aload_n C d_W_add_11 rfl (k := 0) rfl ?_
    refine gX_W_wanted C mf_W_9 d_W_add_12 ?_
    refine x_aload_n C d_W_add_15 rfl (k := 0) rfl ?_
    refine gX_W_size (v := (u.1 5)) C mf_W_18 rfl d_W_add_16 ?_
    refine x_iload_n C d_W_add_19 rfl (k := 1) rfl ?_
    obtain ⟨hin, hf⟩ := ck_some hf
    refine astX_8 C hin d_W_add_20 ?_
    refine x_aload_n C d_W_add_21 rfl (k := 0) rfl ?_
    refine gX_W_unmet C mf_W_15 d_W_add_22 ?_
    refine x_aload_n C d_W_add_25 rfl (k := 0) rfl ?_
    refine gX_W_size (v := (u.1 5)) C mf_W_18 rfl d_W_add_26 ?_
    refine x_iload_n C d_W_add_29 rfl (k := 2) rfl ?_
    obtain ⟨hin, hf⟩ := ck_some hf
    refine astX_9 C hin d_W_add_30 ?_
    refine x_aload_n C d_W_add_31 rfl (k := 0) rfl ?_
    refine x_dup C d_W_add_32 rfl ?_
    refine gX_W_size (v := (u.1 5)) C mf_W_18 rfl d_W_add_33 ?_
    refine x_iconst (v := 1) C d_W_add_36 (by decide) ?_
    refine x_iadd C d_W_add_37 ?_
    refine pX_W_size C mf_W_18 d_W_add_38 ?_
    refine x_iconst (v := 1) C d_W_add_41 (by decide) ?_
    exact x_zret C hQ rfl (Prod.mk.inj (Option.some.inj hf)).1 (Prod.mk.inj (Option.some.inj hf)).2 d_W_add_42
  · rw [if_neg hc] at hf
    refine x_iconst (v := 0) C d_W_add_9 (by decide) ?_
    exact x_zret C hQ rfl (Prod.mk.inj (Option.some.inj hf)).1 (Prod.mk.inj (Option.some.inj hf)).2 d_W_add_10
theorem c_W_add {l : Launch} {D : va_G} {cI : ClassId} {h : Nat → Nat} (a1 : Int32) (a2 : Int32) (u : PS) {r0 : Int32 × PS} (hf : f_W_add a1 a2 u = some r0) : CtI l y_W_add b_W_add 3 (some .boolean) (rk 0) D [(cI, .int)] (WX cI h) [.ref (h 2), .int a1, .int a2] u r0.1 r0.2 := ct_ofI (by decide) (Nat.le_of_ble_eq_true rfl) (fun γ _ _ C hQ => w_W_add C hQ a1 a2 u hf)
-- ---- PackagePick$Wishes.remove(I)Z
def b_W_remove_26 (k26 : Int32 → PS → Option (Int32 × PS)) (x2 : Int32) (u : PS) : Option (Int32 × PS) :=
  if (u.1 5) ≤ x2 then
    some ((1 : Int32), u)
  else
    ck (inb (x2 + (1 : Int32)) 6) <|
    ck (inb x2 6) <|
    ck (inb (x2 + (1 : Int32)) 6) <|
    ck (inb x2 6) <|
    k26 (x2 + (1 : Int32)) (sa (sa u 4 x2.toNatClampNeg (u.2 4 (x2 + (1 : Int32)).toNatClampNeg)) 5 x2.toNatClampNeg (u.2 5 (x2 + (1 : Int32)).toNatClampNeg))
set_option maxRecDepth 100000 in
set_option maxHeartbeats 4000000 in
theorem w_W_remove_26 {γ : CX} {cI : ClassId} {h : Nat → Nat} {r0 : Int32} {u0 : PS} (C : Cx γ b_W_remove 3 (some .boolean) "PackagePick$Wishes" (rk 0) [(cI, .int)]) (hQ : QI γ [(cI, .int)] (WX cI h) r0 u0) (k26 : Int32 → PS → Option (Int32 × PS)) (hk26 : ∀ (x2 : Int32) (u : PS), k26 x2 u = some (r0, u0) → AtG γ (WX cI h) 3 0 0 26 [(0, .ref (h 2)), (2, .int x2)] [] u) (x2 : Int32) (u : PS) (hf : b_W_remove_26 k26 x2 u = some (r0, u0)) : AtG γ (WX cI h) 3 0 0 26 [(0, .ref (h 2)), (2, .int x2)] [] u := by
  unfold b_W_remove_26 at hf
  refine x_iload_n C d_W_remove_26 rfl (k := 1) rfl ?_
  refine x_aload_n C d_W_remove_27 rfl (k := 0) rfl ?_
  refine gX_W_size (v := (u.1 5)) C mf_W_18 rfl d_W_remove_28 ?_
  refine x_icmp_ge (tgt := 68) C d_W_remove_31 (by decide) (fun hc => ?_) (fun hc => ?_)
  · rw [if_pos hc] at hf
    refine x_iconst (v := 1) C d_W_remove_68 (by decide) ?_
    exact x_zret C hQ rfl (Prod.mk.inj (Option.some.inj hf)).1 (Prod.mk.inj (Option.some.inj hf)).2 d_W_remove_69
  · rw [if_neg hc] at hf
    refine x_aload_n C d_W_remove_34 rfl (k := 0) rfl ?_
    refine gX_W_wanted C mf_W_9 d_W_remove_35 ?_
    refine x_iload_n C d_W_remove_38 rfl (k := 1) rfl ?_
    refine x_aload_n C d_W_remove_39 rfl (k := 0) rfl ?_
    refine gX_W_wanted C mf_W_9 d_W_remove_40 ?_
    refine x_iload_n C d_W_remove_43 rfl (k := 1) rfl ?_
    refine x_iconst (v := 1) C d_W_remove_44 (by decide) ?_
    refine x_iadd C d_W_remove_45 ?_
    obtain ⟨hin, hf⟩ := ck_some hf
    refine aldX_8 (v := (u.2 4 (x2 + (1 : Int32)).toNatClampNeg)) C hin rfl d_W_remove_46 ?_
    obtain ⟨hin, hf⟩ := ck_some hf
    refine astX_8 C hin d_W_remove_47 ?_
    refine x_aload_n C d_W_remove_48 rfl (k := 0) rfl ?_
    refine gX_W_unmet C mf_W_15 d_W_remove_49 ?_
    refine x_iload_n C d_W_remove_52 rfl (k := 1) rfl ?_
    refine x_aload_n C d_W_remove_53 rfl (k := 0) rfl ?_
    refine gX_W_unmet C mf_W_15 d_W_remove_54 ?_
    refine x_iload_n C d_W_remove_57 rfl (k := 1) rfl ?_
    refine x_iconst (v := 1) C d_W_remove_58 (by decide) ?_
    refine x_iadd C d_W_remove_59 ?_
    obtain ⟨hin, hf⟩ := ck_some hf
    refine aldX_9 (v := (u.2 5 (x2 + (1 : Int32)).toNatClampNeg)) C hin rfl d_W_remove_60 ?_
    obtain ⟨hin, hf⟩ := ck_some hf
    refine astX_9 C hin d_W_remove_61 ?_
    refine x_iinc (v := (x2 + (1 : Int32))) (lv' := [(2, .int (x2 + (1 : Int32))), (0, .ref (h 2))]) C d_W_remove_62 (k := 1) rfl rfl (by decide) rfl ?_
    refine x_goto (tgt := 26) C d_W_remove_65 (by decide) ?_
    refine x_sub (lv' := [(0, .ref (h 2)), (2, .int (x2 + (1 : Int32)))]) [1, 0] rfl ?_
    exact hk26 (x2 + (1 : Int32)) (sa (sa u 4 x2.toNatClampNeg (u.2 4 (x2 + (1 : Int32)).toNatClampNeg)) 5 x2.toNatClampNeg (u.2 5 (x2 + (1 : Int32)).toNatClampNeg)) hf
def l_W_remove_26 : Nat → Int32 → PS → Option (Int32 × PS)
  | 0 => fun _ _ => none
  | n + 1 => b_W_remove_26 (l_W_remove_26 n)
theorem wl_W_remove_26 {γ : CX} {cI : ClassId} {h : Nat → Nat} {r0 : Int32} {u0 : PS} (C : Cx γ b_W_remove 3 (some .boolean) "PackagePick$Wishes" (rk 0) [(cI, .int)]) (hQ : QI γ [(cI, .int)] (WX cI h) r0 u0) (n : Nat) : ∀ (x2 : Int32) (u : PS), l_W_remove_26 n x2 u = some (r0, u0) → AtG γ (WX cI h) 3 0 0 26 [(0, .ref (h 2)), (2, .int x2)] [] u := by
  induction n with
  | zero => intro x2 u hf; cases hf
  | succ n ih => intro x2 u hf; exact w_W_remove_26 C hQ (l_W_remove_26 n) ih x2 u hf
def f_W_remove (a1 : Int32) (u : PS) : Option (Int32 × PS) :=
  if a1 < 0 then
    some ((0 : Int32), u)
  else
    if a1 < (u.1 5) then
      l_W_remove_26 NF a1 (si u 5 ((u.1 5) - (1 : Int32)))
    else
      some ((0 : Int32), u)
set_option maxRecDepth 100000 in
set_option maxHeartbeats 4000000 in
theorem w_W_remove {γ : CX} {cI : ClassId} {h : Nat → Nat} {r0 : Int32} {u0 : PS} (C : Cx γ b_W_remove 3 (some .boolean) "PackagePick$Wishes" (rk 0) [(cI, .int)]) (hQ : QI γ [(cI, .int)] (WX cI h) r0 u0) (a1 : Int32) (u : PS) (hf : f_W_remove a1 u = some (r0, u0)) : AtG γ (WX cI h) 3 0 0 0 [(0, .ref (h 2)), (1, .int a1)] [] u := by
  unfold f_W_remove at hf
  refine x_iload_n C d_W_remove_0 rfl (k := 1) rfl ?_
  refine x_if_lt (tgt := 12) C d_W_remove_1 (by decide) (fun hc => ?_) (fun hc => ?_)
  · rw [if_pos hc] at hf
    refine x_iconst (v := 0) C d_W_remove_12 (by decide) ?_
    exact x_zret C hQ rfl (Prod.mk.inj (Option.some.inj hf)).1 (Prod.mk.inj (Option.some.inj hf)).2 d_W_remove_13
  · rw [if_neg hc] at hf
    refine x_iload_n C d_W_remove_4 rfl (k := 1) rfl ?_
    refine x_aload_n C d_W_remove_5 rfl (k := 0) rfl ?_
    refine gX_W_size (v := (u.1 5)) C mf_W_18 rfl d_W_remove_6 ?_
    refine x_icmp_lt (tgt := 14) C d_W_remove_9 (by decide) (fun hc => ?_) (fun hc => ?_)
    · rw [if_pos hc] at hf
      refine x_aload_n C d_W_remove_14 rfl (k := 0) rfl ?_
      refine x_dup C d_W_remove_15 rfl ?_
      refine gX_W_size (v := (u.1 5)) C mf_W_18 rfl d_W_remove_16 ?_
      refine x_iconst (v := 1) C d_W_remove_19 (by decide) ?_
      refine x_isub C d_W_remove_20 ?_
      refine pX_W_size C mf_W_18 d_W_remove_21 ?_
      refine x_iload_n C d_W_remove_24 rfl (k := 1) rfl ?_
      refine x_istore_n (lv' := [(2, .int a1), (0, .ref (h 2)), (1, .int a1)]) C d_W_remove_25 rfl (by decide) rfl ?_
      refine x_sub (lv' := [(0, .ref (h 2)), (2, .int a1)]) [1, 0] rfl ?_
      exact wl_W_remove_26 C hQ NF a1 (si u 5 ((u.1 5) - (1 : Int32))) hf
    · rw [if_neg hc] at hf
      refine x_iconst (v := 0) C d_W_remove_12 (by decide) ?_
      exact x_zret C hQ rfl (Prod.mk.inj (Option.some.inj hf)).1 (Prod.mk.inj (Option.some.inj hf)).2 d_W_remove_13
theorem c_W_remove {l : Launch} {D : va_G} {cI : ClassId} {h : Nat → Nat} (a1 : Int32) (u : PS) {r0 : Int32 × PS} (hf : f_W_remove a1 u = some r0) : CtI l y_W_remove b_W_remove 3 (some .boolean) (rk 0) D [(cI, .int)] (WX cI h) [.ref (h 2), .int a1] u r0.1 r0.2 := ct_ofI (by decide) (Nat.le_of_ble_eq_true rfl) (fun γ _ _ C hQ => w_W_remove C hQ a1 u hf)
-- ---- PackagePick.wishBit(I)I
def f_X_wishBit (a0 : Int32) : Int32 :=
  ((1 : Int32) <<< (((5 : Int32) - a0) &&& 31))
set_option maxRecDepth 100000 in
set_option maxHeartbeats 4000000 in
theorem w_X_wishBit {γ : CX} {S : Type} {wf : S → va_W} {tys : Tys} {u : S} {r0 : Int32} (C : Cx γ b_X_wishBit 1 (some .int) "PackagePick" (rk 0) tys) (hQ : QI γ tys wf r0 u) (a0 : Int32) (hf : f_X_wishBit a0 = r0) : AtG γ wf 1 0 0 0 [(0, .int a0)] [] u := by
  unfold f_X_wishBit at hf
  refine x_iconst (v := 1) C d_X_wishBit_0 (by decide) ?_
  refine x_iconst (v := 5) C d_X_wishBit_1 (by decide) ?_
  refine x_iload_n C d_X_wishBit_2 rfl (k := 0) rfl ?_
  refine x_isub C d_X_wishBit_3 ?_
  refine x_ishl C d_X_wishBit_4 ?_
  exact x_iret C hQ hf rfl d_X_wishBit_5
theorem c_X_wishBit {S : Type} {l : Launch} {D : va_G} {tys : Tys} {wf : S → va_W} {u : S} (a0 : Int32) : CtI l y_X_wishBit b_X_wishBit 1 (some .int) (rk 0) D tys wf [.int a0] u (f_X_wishBit a0) u := ct_ofI (by decide) (Nat.le_of_ble_eq_true rfl) (fun γ _ _ C hQ => w_X_wishBit C hQ a0 rfl)
-- ---- PackagePick$Wishes.all()I
def b_W_all_4 (u : PS) (k4 : Int32 → Int32 → Option (Int32)) (x1 : Int32) (x2 : Int32) : Option (Int32) :=
  if (u.1 5) ≤ x2 then
    some x1
  else
    k4 (x1 ||| (f_X_wishBit x2)) (x2 + (1 : Int32))
set_option maxRecDepth 100000 in
set_option maxHeartbeats 4000000 in
theorem w_W_all_4 {γ : CX} {cI : ClassId} {h : Nat → Nat} {u : PS} {r0 : Int32} (C : Cx γ b_W_all 3 (some .int) "PackagePick$Wishes" (rk 1) [(cI, .int)]) (hQ : QI γ [(cI, .int)] (WX cI h) r0 u) (k4 : Int32 → Int32 → Option (Int32)) (hk4 : ∀ (x1 : Int32) (x2 : Int32), k4 x1 x2 = some r0 → AtG γ (WX cI h) 3 0 0 4 [(0, .ref (h 2)), (1, .int x1), (2, .int x2)] [] u) (x1 : Int32) (x2 : Int32) (hf : b_W_all_4 u k4 x1 x2 = some r0) : AtG γ (WX cI h) 3 0 0 4 [(0, .ref (h 2)), (1, .int x1), (2, .int x2)] [] u := by
  unfold b_W_all_4 at hf
  refine x_iload_n C d_W_all_4 rfl (k := 2) rfl ?_
  refine x_aload_n C d_W_all_5 rfl (k := 0) rfl ?_
  refine gX_W_size (v := (u.1 5)) C mf_W_18 rfl d_W_all_6 ?_
  refine x_icmp_ge (tgt := 25) C d_W_all_9 (by decide) (fun hc => ?_) (fun hc => ?_)
  · rw [if_pos hc] at hf
    refine x_iload_n C d_W_all_25 rfl (k := 1) rfl ?_
    exact x_iret C hQ (Option.some.inj hf) rfl d_W_all_26
  · rw [if_neg hc] at hf
    refine x_iload_n C d_W_all_12 rfl (k := 1) rfl ?_
    refine x_iload_n C d_W_all_13 rfl (k := 2) rfl ?_
    refine x_callIn (rest := [.int x1]) C (c_X_wishBit x2) kc_X_wishBit (rok (by decide) (by decide)) (by decide +kernel) ms_X_wishBit rfl rfl (Nat.le_of_ble_eq_true rfl) d_W_all_14 ?_
    refine x_ior C d_W_all_17 ?_
    refine x_istore_n (lv' := [(1, .int (x1 ||| (f_X_wishBit x2))), (0, .ref (h 2)), (2, .int x2)]) C d_W_all_18 rfl (by decide) rfl ?_
    refine x_iinc (v := (x2 + (1 : Int32))) (lv' := [(2, .int (x2 + (1 : Int32))), (1, .int (x1 ||| (f_X_wishBit x2))), (0, .ref (h 2))]) C d_W_all_19 (k := 2) rfl rfl (by decide) rfl ?_
    refine x_goto (tgt := 4) C d_W_all_22 (by decide) ?_
    refine x_sub (lv' := [(0, .ref (h 2)), (1, .int (x1 ||| (f_X_wishBit x2))), (2, .int (x2 + (1 : Int32)))]) [2, 1, 0] rfl ?_
    exact hk4 (x1 ||| (f_X_wishBit x2)) (x2 + (1 : Int32)) hf
def l_W_all_4 (u : PS) : Nat → Int32 → Int32 → Option (Int32)
  | 0 => fun _ _ => none
  | n + 1 => b_W_all_4 u (l_W_all_4 u n)
theorem wl_W_all_4 {γ : CX} {cI : ClassId} {h : Nat → Nat} {u : PS} {r0 : Int32} (C : Cx γ b_W_all 3 (some .int) "PackagePick$Wishes" (rk 1) [(cI, .int)]) (hQ : QI γ [(cI, .int)] (WX cI h) r0 u) (n : Nat) : ∀ (x1 : Int32) (x2 : Int32), l_W_all_4 u n x1 x2 = some r0 → AtG γ (WX cI h) 3 0 0 4 [(0, .ref (h 2)), (1, .int x1), (2, .int x2)] [] u := by
  induction n with
  | zero => intro x1 x2 hf; cases hf
  | succ n ih => intro x1 x2 hf; exact w_W_all_4 C hQ (l_W_all_4 u n) ih x1 x2 hf
def f_W_all (u : PS) : Option (Int32) :=
  l_W_all_4 u NF (0 : Int32) (0 : Int32)
set_option maxRecDepth 100000 in
set_option maxHeartbeats 4000000 in
theorem w_W_all {γ : CX} {cI : ClassId} {h : Nat → Nat} {u : PS} {r0 : Int32} (C : Cx γ b_W_all 3 (some .int) "PackagePick$Wishes" (rk 1) [(cI, .int)]) (hQ : QI γ [(cI, .int)] (WX cI h) r0 u) (hf : f_W_all u = some r0) : AtG γ (WX cI h) 3 0 0 0 [(0, .ref (h 2))] [] u := by
  unfold f_W_all at hf
  refine x_iconst (v := 0) C d_W_all_0 (by decide) ?_
  refine x_istore_n (lv' := [(1, .int (0 : Int32)), (0, .ref (h 2))]) C d_W_all_1 rfl (by decide) rfl ?_
  refine x_iconst (v := 0) C d_W_all_2 (by decide) ?_
  refine x_istore_n (lv' := [(2, .int (0 : Int32)), (1, .int (0 : Int32)), (0, .ref (h 2))]) C d_W_all_3 rfl (by decide) rfl ?_
  refine x_sub (lv' := [(0, .ref (h 2)), (1, .int (0 : Int32)), (2, .int (0 : Int32))]) [2, 1, 0] rfl ?_
  exact wl_W_all_4 C hQ NF (0 : Int32) (0 : Int32) hf
theorem c_W_all {l : Launch} {D : va_G} {cI : ClassId} {h : Nat → Nat} (u : PS) {r0 : Int32} (hf : f_W_all u = some r0) : CtI l y_W_all b_W_all 3 (some .int) (rk 1) D [(cI, .int)] (WX cI h) [.ref (h 2)] u r0 u := ct_ofI (by decide) (Nat.le_of_ble_eq_true rfl) (fun γ _ _ C hQ => w_W_all C hQ hf)
-- ---- PackagePick$Wishes.union([II)I
def b_W_union_8_5 (u : PS) (k5 : Int32 → Int32 → Int32 → Option (Int32)) (x2 : Int32) (x3 : Int32) (x4 : Int32) : Option (Int32) :=
  if (u.1 5) ≤ x4 then
    some x3
  else
    if (6 : Int32) ≤ x4 then
      some x3
    else
      if (x2 &&& (f_X_wishBit x4)) = 0 then
        k5 x2 x3 (x4 + (1 : Int32))
      else
        ck (inb x4 6) <|
        k5 x2 (x3 ||| (u.2 4 x4.toNatClampNeg)) (x4 + (1 : Int32))
set_option maxRecDepth 100000 in
set_option maxHeartbeats 4000000 in
theorem w_W_union_8_5 {γ : CX} {cI : ClassId} {h : Nat → Nat} {u : PS} {r0 : Int32} (C : Cx γ b_W_union 5 (some .int) "PackagePick$Wishes" (rk 1) [(cI, .int)]) (hQ : QI γ [(cI, .int)] (WX cI h) r0 u) (k5 : Int32 → Int32 → Int32 → Option (Int32)) (hk5 : ∀ (x2 : Int32) (x3 : Int32) (x4 : Int32), k5 x2 x3 x4 = some r0 → AtG γ (WX cI h) 5 0 0 5 [(0, .ref (h 2)), (1, .ref (h 8)), (2, .int x2), (3, .int x3), (4, .int x4)] [] u) (x2 : Int32) (x3 : Int32) (x4 : Int32) (hf : b_W_union_8_5 u k5 x2 x3 x4 = some r0) : AtG γ (WX cI h) 5 0 0 5 [(0, .ref (h 2)), (1, .ref (h 8)), (2, .int x2), (3, .int x3), (4, .int x4)] [] u := by
  unfold b_W_union_8_5 at hf
  refine x_iload C d_W_union_5 (k := 4) rfl ?_
  refine x_aload_n C d_W_union_7 rfl (k := 0) rfl ?_
  refine gX_W_size (v := (u.1 5)) C mf_W_18 rfl d_W_union_8 ?_
  refine x_icmp_ge (tgt := 44) C d_W_union_11 (by decide) (fun hc => ?_) (fun hc => ?_)
  · rw [if_pos hc] at hf
    refine x_iload_n C d_W_union_44 rfl (k := 3) rfl ?_
    exact x_iret C hQ (Option.some.inj hf) rfl d_W_union_45
  · rw [if_neg hc] at hf
    refine x_iload C d_W_union_14 (k := 4) rfl ?_
    refine x_aload_n C d_W_union_16 rfl (k := 1) rfl ?_
    refine lenX_8 C d_W_union_17 ?_
    refine x_icmp_ge (tgt := 44) C d_W_union_18 (by decide) (fun hc => ?_) (fun hc => ?_)
    · rw [if_pos hc] at hf
      refine x_iload_n C d_W_union_44 rfl (k := 3) rfl ?_
      exact x_iret C hQ (Option.some.inj hf) rfl d_W_union_45
    · rw [if_neg hc] at hf
      refine x_iload_n C d_W_union_21 rfl (k := 2) rfl ?_
      refine x_iload C d_W_union_22 (k := 4) rfl ?_
      refine x_callIn (rest := [.int x2]) C (c_X_wishBit x4) kc_X_wishBit (rok (by decide) (by decide)) (by decide +kernel) ms_X_wishBit rfl rfl (Nat.le_of_ble_eq_true rfl) d_W_union_24 ?_
      refine x_iand C d_W_union_27 ?_
      refine x_if_eq (tgt := 38) C d_W_union_28 (by decide) (fun hc => ?_) (fun hc => ?_)
      · rw [if_pos hc] at hf
        refine x_iinc (v := (x4 + (1 : Int32))) (lv' := [(4, .int (x4 + (1 : Int32))), (0, .ref (h 2)), (1, .ref (h 8)), (2, .int x2), (3, .int x3)]) C d_W_union_38 (k := 4) rfl rfl (by decide) rfl ?_
        refine x_goto (tgt := 5) C d_W_union_41 (by decide) ?_
        refine x_sub (lv' := [(0, .ref (h 2)), (1, .ref (h 8)), (2, .int x2), (3, .int x3), (4, .int (x4 + (1 : Int32)))]) [1, 2, 3, 4, 0] rfl ?_
        exact hk5 x2 x3 (x4 + (1 : Int32)) hf
      · rw [if_neg hc] at hf
        refine x_iload_n C d_W_union_31 rfl (k := 3) rfl ?_
        refine x_aload_n C d_W_union_32 rfl (k := 1) rfl ?_
        refine x_iload C d_W_union_33 (k := 4) rfl ?_
        obtain ⟨hin, hf⟩ := ck_some hf
        refine aldX_8 (v := (u.2 4 x4.toNatClampNeg)) C hin rfl d_W_union_35 ?_
        refine x_ior C d_W_union_36 ?_
        refine x_istore_n (lv' := [(3, .int (x3 ||| (u.2 4 x4.toNatClampNeg))), (0, .ref (h 2)), (1, .ref (h 8)), (2, .int x2), (4, .int x4)]) C d_W_union_37 rfl (by decide) rfl ?_
        refine x_iinc (v := (x4 + (1 : Int32))) (lv' := [(4, .int (x4 + (1 : Int32))), (3, .int (x3 ||| (u.2 4 x4.toNatClampNeg))), (0, .ref (h 2)), (1, .ref (h 8)), (2, .int x2)]) C d_W_union_38 (k := 4) rfl rfl (by decide) rfl ?_
        refine x_goto (tgt := 5) C d_W_union_41 (by decide) ?_
        refine x_sub (lv' := [(0, .ref (h 2)), (1, .ref (h 8)), (2, .int x2), (3, .int (x3 ||| (u.2 4 x4.toNatClampNeg))), (4, .int (x4 + (1 : Int32)))]) [2, 3, 4, 1, 0] rfl ?_
        exact hk5 x2 (x3 ||| (u.2 4 x4.toNatClampNeg)) (x4 + (1 : Int32)) hf
def l_W_union_8_5 (u : PS) : Nat → Int32 → Int32 → Int32 → Option (Int32)
  | 0 => fun _ _ _ => none
  | n + 1 => b_W_union_8_5 u (l_W_union_8_5 u n)
theorem wl_W_union_8_5 {γ : CX} {cI : ClassId} {h : Nat → Nat} {u : PS} {r0 : Int32} (C : Cx γ b_W_union 5 (some .int) "PackagePick$Wishes" (rk 1) [(cI, .int)]) (hQ : QI γ [(cI, .int)] (WX cI h) r0 u) (n : Nat) : ∀ (x2 : Int32) (x3 : Int32) (x4 : Int32), l_W_union_8_5 u n x2 x3 x4 = some r0 → AtG γ (WX cI h) 5 0 0 5 [(0, .ref (h 2)), (1, .ref (h 8)), (2, .int x2), (3, .int x3), (4, .int x4)] [] u := by
  induction n with
  | zero => intro x2 x3 x4 hf; cases hf
  | succ n ih => intro x2 x3 x4 hf; exact w_W_union_8_5 C hQ (l_W_union_8_5 u n) ih x2 x3 x4 hf
def f_W_union_8 (a2 : Int32) (u : PS) : Option (Int32) :=
  l_W_union_8_5 u NF a2 (0 : Int32) (0 : Int32)
set_option maxRecDepth 100000 in
set_option maxHeartbeats 4000000 in
theorem w_W_union_8 {γ : CX} {cI : ClassId} {h : Nat → Nat} {u : PS} {r0 : Int32} (C : Cx γ b_W_union 5 (some .int) "PackagePick$Wishes" (rk 1) [(cI, .int)]) (hQ : QI γ [(cI, .int)] (WX cI h) r0 u) (a2 : Int32) (hf : f_W_union_8 a2 u = some r0) : AtG γ (WX cI h) 5 0 0 0 [(0, .ref (h 2)), (1, .ref (h 8)), (2, .int a2)] [] u := by
  unfold f_W_union_8 at hf
  refine x_iconst (v := 0) C d_W_union_0 (by decide) ?_
  refine x_istore_n (lv' := [(3, .int (0 : Int32)), (0, .ref (h 2)), (1, .ref (h 8)), (2, .int a2)]) C d_W_union_1 rfl (by decide) rfl ?_
  refine x_iconst (v := 0) C d_W_union_2 (by decide) ?_
  refine x_istore (lv' := [(4, .int (0 : Int32)), (3, .int (0 : Int32)), (0, .ref (h 2)), (1, .ref (h 8)), (2, .int a2)]) C d_W_union_3 (by decide) rfl ?_
  refine x_sub (lv' := [(0, .ref (h 2)), (1, .ref (h 8)), (2, .int a2), (3, .int (0 : Int32)), (4, .int (0 : Int32))]) [2, 3, 4, 1, 0] rfl ?_
  exact wl_W_union_8_5 C hQ NF a2 (0 : Int32) (0 : Int32) hf
theorem c_W_union_8 {l : Launch} {D : va_G} {cI : ClassId} {h : Nat → Nat} (a2 : Int32) (u : PS) {r0 : Int32} (hf : f_W_union_8 a2 u = some r0) : CtI l y_W_union b_W_union 5 (some .int) (rk 1) D [(cI, .int)] (WX cI h) [.ref (h 2), .ref (h 8), .int a2] u r0 u := ct_ofI (by decide) (Nat.le_of_ble_eq_true rfl) (fun γ _ _ C hQ => w_W_union_8 C hQ a2 hf)
-- ---- PackagePick$Wishes.union([II)I
def b_W_union_9_5 (u : PS) (k5 : Int32 → Int32 → Int32 → Option (Int32)) (x2 : Int32) (x3 : Int32) (x4 : Int32) : Option (Int32) :=
  if (u.1 5) ≤ x4 then
    some x3
  else
    if (6 : Int32) ≤ x4 then
      some x3
    else
      if (x2 &&& (f_X_wishBit x4)) = 0 then
        k5 x2 x3 (x4 + (1 : Int32))
      else
        ck (inb x4 6) <|
        k5 x2 (x3 ||| (u.2 5 x4.toNatClampNeg)) (x4 + (1 : Int32))
set_option maxRecDepth 100000 in
set_option maxHeartbeats 4000000 in
theorem w_W_union_9_5 {γ : CX} {cI : ClassId} {h : Nat → Nat} {u : PS} {r0 : Int32} (C : Cx γ b_W_union 5 (some .int) "PackagePick$Wishes" (rk 1) [(cI, .int)]) (hQ : QI γ [(cI, .int)] (WX cI h) r0 u) (k5 : Int32 → Int32 → Int32 → Option (Int32)) (hk5 : ∀ (x2 : Int32) (x3 : Int32) (x4 : Int32), k5 x2 x3 x4 = some r0 → AtG γ (WX cI h) 5 0 0 5 [(0, .ref (h 2)), (1, .ref (h 9)), (2, .int x2), (3, .int x3), (4, .int x4)] [] u) (x2 : Int32) (x3 : Int32) (x4 : Int32) (hf : b_W_union_9_5 u k5 x2 x3 x4 = some r0) : AtG γ (WX cI h) 5 0 0 5 [(0, .ref (h 2)), (1, .ref (h 9)), (2, .int x2), (3, .int x3), (4, .int x4)] [] u := by
  unfold b_W_union_9_5 at hf
  refine x_iload C d_W_union_5 (k := 4) rfl ?_
  refine x_aload_n C d_W_union_7 rfl (k := 0) rfl ?_
  refine gX_W_size (v := (u.1 5)) C mf_W_18 rfl d_W_union_8 ?_
  refine x_icmp_ge (tgt := 44) C d_W_union_11 (by decide) (fun hc => ?_) (fun hc => ?_)
  · rw [if_pos hc] at hf
    refine x_iload_n C d_W_union_44 rfl (k := 3) rfl ?_
    exact x_iret C hQ (Option.some.inj hf) rfl d_W_union_45
  · rw [if_neg hc] at hf
    refine x_iload C d_W_union_14 (k := 4) rfl ?_
    refine x_aload_n C d_W_union_16 rfl (k := 1) rfl ?_
    refine lenX_9 C d_W_union_17 ?_
    refine x_icmp_ge (tgt := 44) C d_W_union_18 (by decide) (fun hc => ?_) (fun hc => ?_)
    · rw [if_pos hc] at hf
      refine x_iload_n C d_W_union_44 rfl (k := 3) rfl ?_
      exact x_iret C hQ (Option.some.inj hf) rfl d_W_union_45
    · rw [if_neg hc] at hf
      refine x_iload_n C d_W_union_21 rfl (k := 2) rfl ?_
      refine x_iload C d_W_union_22 (k := 4) rfl ?_
      refine x_callIn (rest := [.int x2]) C (c_X_wishBit x4) kc_X_wishBit (rok (by decide) (by decide)) (by decide +kernel) ms_X_wishBit rfl rfl (Nat.le_of_ble_eq_true rfl) d_W_union_24 ?_
      refine x_iand C d_W_union_27 ?_
      refine x_if_eq (tgt := 38) C d_W_union_28 (by decide) (fun hc => ?_) (fun hc => ?_)
      · rw [if_pos hc] at hf
        refine x_iinc (v := (x4 + (1 : Int32))) (lv' := [(4, .int (x4 + (1 : Int32))), (0, .ref (h 2)), (1, .ref (h 9)), (2, .int x2), (3, .int x3)]) C d_W_union_38 (k := 4) rfl rfl (by decide) rfl ?_
        refine x_goto (tgt := 5) C d_W_union_41 (by decide) ?_
        refine x_sub (lv' := [(0, .ref (h 2)), (1, .ref (h 9)), (2, .int x2), (3, .int x3), (4, .int (x4 + (1 : Int32)))]) [1, 2, 3, 4, 0] rfl ?_
        exact hk5 x2 x3 (x4 + (1 : Int32)) hf
      · rw [if_neg hc] at hf
        refine x_iload_n C d_W_union_31 rfl (k := 3) rfl ?_
        refine x_aload_n C d_W_union_32 rfl (k := 1) rfl ?_
        refine x_iload C d_W_union_33 (k := 4) rfl ?_
        obtain ⟨hin, hf⟩ := ck_some hf
        refine aldX_9 (v := (u.2 5 x4.toNatClampNeg)) C hin rfl d_W_union_35 ?_
        refine x_ior C d_W_union_36 ?_
        refine x_istore_n (lv' := [(3, .int (x3 ||| (u.2 5 x4.toNatClampNeg))), (0, .ref (h 2)), (1, .ref (h 9)), (2, .int x2), (4, .int x4)]) C d_W_union_37 rfl (by decide) rfl ?_
        refine x_iinc (v := (x4 + (1 : Int32))) (lv' := [(4, .int (x4 + (1 : Int32))), (3, .int (x3 ||| (u.2 5 x4.toNatClampNeg))), (0, .ref (h 2)), (1, .ref (h 9)), (2, .int x2)]) C d_W_union_38 (k := 4) rfl rfl (by decide) rfl ?_
        refine x_goto (tgt := 5) C d_W_union_41 (by decide) ?_
        refine x_sub (lv' := [(0, .ref (h 2)), (1, .ref (h 9)), (2, .int x2), (3, .int (x3 ||| (u.2 5 x4.toNatClampNeg))), (4, .int (x4 + (1 : Int32)))]) [2, 3, 4, 1, 0] rfl ?_
        exact hk5 x2 (x3 ||| (u.2 5 x4.toNatClampNeg)) (x4 + (1 : Int32)) hf
def l_W_union_9_5 (u : PS) : Nat → Int32 → Int32 → Int32 → Option (Int32)
  | 0 => fun _ _ _ => none
  | n + 1 => b_W_union_9_5 u (l_W_union_9_5 u n)
theorem wl_W_union_9_5 {γ : CX} {cI : ClassId} {h : Nat → Nat} {u : PS} {r0 : Int32} (C : Cx γ b_W_union 5 (some .int) "PackagePick$Wishes" (rk 1) [(cI, .int)]) (hQ : QI γ [(cI, .int)] (WX cI h) r0 u) (n : Nat) : ∀ (x2 : Int32) (x3 : Int32) (x4 : Int32), l_W_union_9_5 u n x2 x3 x4 = some r0 → AtG γ (WX cI h) 5 0 0 5 [(0, .ref (h 2)), (1, .ref (h 9)), (2, .int x2), (3, .int x3), (4, .int x4)] [] u := by
  induction n with
  | zero => intro x2 x3 x4 hf; cases hf
  | succ n ih => intro x2 x3 x4 hf; exact w_W_union_9_5 C hQ (l_W_union_9_5 u n) ih x2 x3 x4 hf
def f_W_union_9 (a2 : Int32) (u : PS) : Option (Int32) :=
  l_W_union_9_5 u NF a2 (0 : Int32) (0 : Int32)
set_option maxRecDepth 100000 in
set_option maxHeartbeats 4000000 in
theorem w_W_union_9 {γ : CX} {cI : ClassId} {h : Nat → Nat} {u : PS} {r0 : Int32} (C : Cx γ b_W_union 5 (some .int) "PackagePick$Wishes" (rk 1) [(cI, .int)]) (hQ : QI γ [(cI, .int)] (WX cI h) r0 u) (a2 : Int32) (hf : f_W_union_9 a2 u = some r0) : AtG γ (WX cI h) 5 0 0 0 [(0, .ref (h 2)), (1, .ref (h 9)), (2, .int a2)] [] u := by
  unfold f_W_union_9 at hf
  refine x_iconst (v := 0) C d_W_union_0 (by decide) ?_
  refine x_istore_n (lv' := [(3, .int (0 : Int32)), (0, .ref (h 2)), (1, .ref (h 9)), (2, .int a2)]) C d_W_union_1 rfl (by decide) rfl ?_
  refine x_iconst (v := 0) C d_W_union_2 (by decide) ?_
  refine x_istore (lv' := [(4, .int (0 : Int32)), (3, .int (0 : Int32)), (0, .ref (h 2)), (1, .ref (h 9)), (2, .int a2)]) C d_W_union_3 (by decide) rfl ?_
  refine x_sub (lv' := [(0, .ref (h 2)), (1, .ref (h 9)), (2, .int a2), (3, .int (0 : Int32)), (4, .int (0 : Int32))]) [2, 3, 4, 1, 0] rfl ?_
  exact wl_W_union_9_5 C hQ NF a2 (0 : Int32) (0 : Int32) hf
theorem c_W_union_9 {l : Launch} {D : va_G} {cI : ClassId} {h : Nat → Nat} (a2 : Int32) (u : PS) {r0 : Int32} (hf : f_W_union_9 a2 u = some r0) : CtI l y_W_union b_W_union 5 (some .int) (rk 1) D [(cI, .int)] (WX cI h) [.ref (h 2), .ref (h 9), .int a2] u r0 u := ct_ofI (by decide) (Nat.le_of_ble_eq_true rfl) (fun γ _ _ C hQ => w_W_union_9 C hQ a2 hf)
-- ---- PackagePick.isPackage(I)Z
def f_X_isPackage (a0 : Int32) : Int32 :=
  if a0 < 0 then
    (0 : Int32)
  else
    if (7 : Int32) ≤ a0 then
      (0 : Int32)
    else
      (1 : Int32)
set_option maxRecDepth 100000 in
set_option maxHeartbeats 4000000 in
theorem w_X_isPackage {γ : CX} {S : Type} {wf : S → va_W} {tys : Tys} {u : S} {r0 : Int32} (C : Cx γ b_X_isPackage 1 (some .boolean) "PackagePick" (rk 0) tys) (hQ : QI γ tys wf r0 u) (a0 : Int32) (hf : f_X_isPackage a0 = r0) : AtG γ wf 1 0 0 0 [(0, .int a0)] [] u := by
  unfold f_X_isPackage at hf
  refine x_iload_n C d_X_isPackage_0 rfl (k := 0) rfl ?_
  refine x_if_lt (tgt := 14) C d_X_isPackage_1 (by decide) (fun hc => ?_) (fun hc => ?_)
  · rw [if_pos hc] at hf
    refine x_iconst (v := 0) C d_X_isPackage_14 (by decide) ?_
    exact x_zret C hQ rfl hf rfl d_X_isPackage_15
  · rw [if_neg hc] at hf
    refine x_iload_n C d_X_isPackage_4 rfl (k := 0) rfl ?_
    refine x_bipush (v := 7) C d_X_isPackage_5 (by decide) ?_
    refine x_icmp_ge (tgt := 14) C d_X_isPackage_7 (by decide) (fun hc => ?_) (fun hc => ?_)
    · rw [if_pos hc] at hf
      refine x_iconst (v := 0) C d_X_isPackage_14 (by decide) ?_
      exact x_zret C hQ rfl hf rfl d_X_isPackage_15
    · rw [if_neg hc] at hf
      refine x_iconst (v := 1) C d_X_isPackage_10 (by decide) ?_
      refine x_goto (tgt := 15) C d_X_isPackage_11 (by decide) ?_
      exact x_zret C hQ rfl hf rfl d_X_isPackage_15
theorem c_X_isPackage {S : Type} {l : Launch} {D : va_G} {tys : Tys} {wf : S → va_W} {u : S} (a0 : Int32) : CtI l y_X_isPackage b_X_isPackage 1 (some .boolean) (rk 0) D tys wf [.int a0] u (f_X_isPackage a0) u := ct_ofI (by decide) (Nat.le_of_ble_eq_true rfl) (fun γ _ _ C hQ => w_X_isPackage C hQ a0 rfl)
-- ---- PackagePick.isVersion(II)Z
def f_X_isVersion (a0 : Int32) (a1 : Int32) : Int32 :=
  if (f_X_isPackage a0) = 0 then
    (0 : Int32)
  else
    if a1 < 0 then
      (0 : Int32)
    else
      if (4 : Int32) ≤ a1 then
        (0 : Int32)
      else
        (1 : Int32)
set_option maxRecDepth 100000 in
set_option maxHeartbeats 4000000 in
theorem w_X_isVersion {γ : CX} {S : Type} {wf : S → va_W} {tys : Tys} {u : S} {r0 : Int32} (C : Cx γ b_X_isVersion 2 (some .boolean) "PackagePick" (rk 1) tys) (hQ : QI γ tys wf r0 u) (a0 : Int32) (a1 : Int32) (hf : f_X_isVersion a0 a1 = r0) : AtG γ wf 2 0 0 0 [(0, .int a0), (1, .int a1)] [] u := by
  unfold f_X_isVersion at hf
  refine x_iload_n C d_X_isVersion_0 rfl (k := 0) rfl ?_
  refine x_callIs (rest := []) C (c_X_isPackage a0) kc_X_isPackage (rok (by decide) (by decide)) mm_X_114 ms_X_isPackage rfl rfl (Nat.le_of_ble_eq_true rfl) d_X_isVersion_1 ?_
  refine x_if_eq (tgt := 20) C d_X_isVersion_4 (by decide) (fun hc => ?_) (fun hc => ?_)
  · rw [if_pos hc] at hf
    refine x_iconst (v := 0) C d_X_isVersion_20 (by decide) ?_
    exact x_zret C hQ rfl hf rfl d_X_isVersion_21
  · rw [if_neg hc] at hf
    refine x_iload_n C d_X_isVersion_7 rfl (k := 1) rfl ?_
    refine x_if_lt (tgt := 20) C d_X_isVersion_8 (by decide) (fun hc => ?_) (fun hc => ?_)
    · rw [if_pos hc] at hf
      refine x_iconst (v := 0) C d_X_isVersion_20 (by decide) ?_
      exact x_zret C hQ rfl hf rfl d_X_isVersion_21
    · rw [if_neg hc] at hf
      refine x_iload_n C d_X_isVersion_11 rfl (k := 1) rfl ?_
      refine x_iconst (v := 4) C d_X_isVersion_12 (by decide) ?_
      refine x_icmp_ge (tgt := 20) C d_X_isVersion_13 (by decide) (fun hc => ?_) (fun hc => ?_)
      · rw [if_pos hc] at hf
        refine x_iconst (v := 0) C d_X_isVersion_20 (by decide) ?_
        exact x_zret C hQ rfl hf rfl d_X_isVersion_21
      · rw [if_neg hc] at hf
        refine x_iconst (v := 1) C d_X_isVersion_16 (by decide) ?_
        refine x_goto (tgt := 21) C d_X_isVersion_17 (by decide) ?_
        exact x_zret C hQ rfl hf rfl d_X_isVersion_21
theorem c_X_isVersion {S : Type} {l : Launch} {D : va_G} {tys : Tys} {wf : S → va_W} {u : S} (a0 : Int32) (a1 : Int32) : CtI l y_X_isVersion b_X_isVersion 2 (some .boolean) (rk 1) D tys wf [.int a0, .int a1] u (f_X_isVersion a0 a1) u := ct_ofI (by decide) (Nat.le_of_ble_eq_true rfl) (fun γ _ _ C hQ => w_X_isVersion C hQ a0 a1 rfl)
-- ---- PackagePick.placeOf(I)I
def f_X_placeOf (a0 : Int32) : Int32 :=
  (((6 : Int32) - a0) * (4 : Int32))
set_option maxRecDepth 100000 in
set_option maxHeartbeats 4000000 in
theorem w_X_placeOf {γ : CX} {S : Type} {wf : S → va_W} {tys : Tys} {u : S} {r0 : Int32} (C : Cx γ b_X_placeOf 1 (some .int) "PackagePick" (rk 0) tys) (hQ : QI γ tys wf r0 u) (a0 : Int32) (hf : f_X_placeOf a0 = r0) : AtG γ wf 1 0 0 0 [(0, .int a0)] [] u := by
  unfold f_X_placeOf at hf
  refine x_bipush (v := 6) C d_X_placeOf_0 (by decide) ?_
  refine x_iload_n C d_X_placeOf_2 rfl (k := 0) rfl ?_
  refine x_isub C d_X_placeOf_3 ?_
  refine x_iconst (v := 4) C d_X_placeOf_4 (by decide) ?_
  refine x_imul C d_X_placeOf_5 ?_
  exact x_iret C hQ hf rfl d_X_placeOf_6
theorem c_X_placeOf {S : Type} {l : Launch} {D : va_G} {tys : Tys} {wf : S → va_W} {u : S} (a0 : Int32) : CtI l y_X_placeOf b_X_placeOf 1 (some .int) (rk 0) D tys wf [.int a0] u (f_X_placeOf a0) u := ct_ofI (by decide) (Nat.le_of_ble_eq_true rfl) (fun γ _ _ C hQ => w_X_placeOf C hQ a0 rfl)
-- ---- PackagePick.slotOf(II)I
def f_X_slotOf (a0 : Int32) (a1 : Int32) : Int32 :=
  ((f_X_placeOf a0) + a1)
set_option maxRecDepth 100000 in
set_option maxHeartbeats 4000000 in
theorem w_X_slotOf {γ : CX} {S : Type} {wf : S → va_W} {tys : Tys} {u : S} {r0 : Int32} (C : Cx γ b_X_slotOf 2 (some .int) "PackagePick" (rk 1) tys) (hQ : QI γ tys wf r0 u) (a0 : Int32) (a1 : Int32) (hf : f_X_slotOf a0 a1 = r0) : AtG γ wf 2 0 0 0 [(0, .int a0), (1, .int a1)] [] u := by
  unfold f_X_slotOf at hf
  refine x_iload_n C d_X_slotOf_0 rfl (k := 0) rfl ?_
  refine x_callIs (rest := []) C (c_X_placeOf a0) kc_X_placeOf (rok (by decide) (by decide)) mm_X_123 ms_X_placeOf rfl rfl (Nat.le_of_ble_eq_true rfl) d_X_slotOf_1 ?_
  refine x_iload_n C d_X_slotOf_4 rfl (k := 1) rfl ?_
  refine x_iadd C d_X_slotOf_5 ?_
  exact x_iret C hQ hf rfl d_X_slotOf_6
theorem c_X_slotOf {S : Type} {l : Launch} {D : va_G} {tys : Tys} {wf : S → va_W} {u : S} (a0 : Int32) (a1 : Int32) : CtI l y_X_slotOf b_X_slotOf 2 (some .int) (rk 1) D tys wf [.int a0, .int a1] u (f_X_slotOf a0 a1) u := ct_ofI (by decide) (Nat.le_of_ble_eq_true rfl) (fun γ _ _ C hQ => w_X_slotOf C hQ a0 a1 rfl)
-- ---- PackagePick.version(II)Z
def f_X_version (a1 : Int32) (a2 : Int32) (u : PS) : Int32 × PS :=
  if (f_X_isVersion a1 a2) = 0 then
    ((0 : Int32), u)
  else
    if (f_C_add (f_X_slotOf a1 a2) u).1 = 0 then
      ((0 : Int32), (f_C_add (f_X_slotOf a1 a2) u).2)
    else
      ((1 : Int32), (f_C_add (f_X_slotOf a1 a2) u).2)
set_option maxRecDepth 100000 in
set_option maxHeartbeats 4000000 in
theorem w_X_version {γ : CX} {cI : ClassId} {h : Nat → Nat} {r0 : Int32} {u0 : PS} (C : Cx γ b_X_version 3 (some .boolean) "PackagePick" (rk 3) [(cI, .int)]) (hQ : QI γ [(cI, .int)] (WX cI h) r0 u0) (a1 : Int32) (a2 : Int32) (u : PS) (hf : f_X_version a1 a2 u = (r0, u0)) : AtG γ (WX cI h) 3 0 0 0 [(0, .ref (h 0)), (1, .int a1), (2, .int a2)] [] u := by
  unfold f_X_version at hf
  refine x_iload_n C d_X_version_0 rfl (k := 1) rfl ?_
  refine x_iload_n C d_X_version_1 rfl (k := 2) rfl ?_
  refine x_callIs (rest := []) C (c_X_isVersion a1 a2) kc_X_isVersion (rok (by decide) (by decide)) mm_X_40 ms_X_isVersion rfl rfl (Nat.le_of_ble_eq_true rfl) d_X_version_2 ?_
  refine x_if_eq (tgt := 27) C d_X_version_5 (by decide) (fun hc => ?_) (fun hc => ?_)
  · rw [if_pos hc] at hf
    refine x_iconst (v := 0) C d_X_version_27 (by decide) ?_
    exact x_zret C hQ rfl (Prod.mk.inj hf).1 (Prod.mk.inj hf).2 d_X_version_28
  · rw [if_neg hc] at hf
    refine x_aload_n C d_X_version_8 rfl (k := 0) rfl ?_
    refine gX_X_catalog C mf_X_12 d_X_version_9 ?_
    refine x_iload_n C d_X_version_12 rfl (k := 1) rfl ?_
    refine x_iload_n C d_X_version_13 rfl (k := 2) rfl ?_
    refine x_callIs (rest := [.ref (h 1)]) C (c_X_slotOf a1 a2) kc_X_slotOf (rok (by decide) (by decide)) mm_X_44 ms_X_slotOf rfl rfl (Nat.le_of_ble_eq_true rfl) d_X_version_14 ?_
    refine x_callIv (q0 := 1) (ci := 0) (rest := []) C (c_C_add (f_X_slotOf a1 a2) u) kc_C_add (rok (by decide) (by decide)) mm_X_48 ms_C_add ml_C_add rfl rfl rfl rfl (Nat.le_of_ble_eq_true rfl) d_X_version_17 ?_
    refine x_if_eq (tgt := 27) C d_X_version_20 (by decide) (fun hc => ?_) (fun hc => ?_)
    · rw [if_pos hc] at hf
      refine x_iconst (v := 0) C d_X_version_27 (by decide) ?_
      exact x_zret C hQ rfl (Prod.mk.inj hf).1 (Prod.mk.inj hf).2 d_X_version_28
    · rw [if_neg hc] at hf
      refine x_iconst (v := 1) C d_X_version_23 (by decide) ?_
      refine x_goto (tgt := 28) C d_X_version_24 (by decide) ?_
      exact x_zret C hQ rfl (Prod.mk.inj hf).1 (Prod.mk.inj hf).2 d_X_version_28
theorem c_X_version {l : Launch} {D : va_G} {cI : ClassId} {h : Nat → Nat} (a1 : Int32) (a2 : Int32) (u : PS) : CtI l y_X_version b_X_version 3 (some .boolean) (rk 3) D [(cI, .int)] (WX cI h) [.ref (h 0), .int a1, .int a2] u (f_X_version a1 a2 u).1 (f_X_version a1 a2 u).2 := ct_ofI (by decide) (Nat.le_of_ble_eq_true rfl) (fun γ _ _ C hQ => w_X_version C hQ a1 a2 u rfl)
-- ---- PackagePick.isNeed(III)Z
def f_X_isNeed (a0 : Int32) (a1 : Int32) (a2 : Int32) : Int32 :=
  if (f_X_isVersion a0 a1) = 0 then
    (0 : Int32)
  else
    if (f_X_isVersion a0 a2) = 0 then
      (0 : Int32)
    else
      if a2 < a1 then
        (0 : Int32)
      else
        (1 : Int32)
set_option maxRecDepth 100000 in
set_option maxHeartbeats 4000000 in
theorem w_X_isNeed {γ : CX} {S : Type} {wf : S → va_W} {tys : Tys} {u : S} {r0 : Int32} (C : Cx γ b_X_isNeed 3 (some .boolean) "PackagePick" (rk 2) tys) (hQ : QI γ tys wf r0 u) (a0 : Int32) (a1 : Int32) (a2 : Int32) (hf : f_X_isNeed a0 a1 a2 = r0) : AtG γ wf 3 0 0 0 [(0, .int a0), (1, .int a1), (2, .int a2)] [] u := by
  unfold f_X_isNeed at hf
  refine x_iload_n C d_X_isNeed_0 rfl (k := 0) rfl ?_
  refine x_iload_n C d_X_isNeed_1 rfl (k := 1) rfl ?_
  refine x_callIs (rest := []) C (c_X_isVersion a0 a1) kc_X_isVersion (rok (by decide) (by decide)) mm_X_40 ms_X_isVersion rfl rfl (Nat.le_of_ble_eq_true rfl) d_X_isNeed_2 ?_
  refine x_if_eq (tgt := 25) C d_X_isNeed_5 (by decide) (fun hc => ?_) (fun hc => ?_)
  · rw [if_pos hc] at hf
    refine x_iconst (v := 0) C d_X_isNeed_25 (by decide) ?_
    exact x_zret C hQ rfl hf rfl d_X_isNeed_26
  · rw [if_neg hc] at hf
    refine x_iload_n C d_X_isNeed_8 rfl (k := 0) rfl ?_
    refine x_iload_n C d_X_isNeed_9 rfl (k := 2) rfl ?_
    refine x_callIs (rest := []) C (c_X_isVersion a0 a2) kc_X_isVersion (rok (by decide) (by decide)) mm_X_40 ms_X_isVersion rfl rfl (Nat.le_of_ble_eq_true rfl) d_X_isNeed_10 ?_
    refine x_if_eq (tgt := 25) C d_X_isNeed_13 (by decide) (fun hc => ?_) (fun hc => ?_)
    · rw [if_pos hc] at hf
      refine x_iconst (v := 0) C d_X_isNeed_25 (by decide) ?_
      exact x_zret C hQ rfl hf rfl d_X_isNeed_26
    · rw [if_neg hc] at hf
      refine x_iload_n C d_X_isNeed_16 rfl (k := 1) rfl ?_
      refine x_iload_n C d_X_isNeed_17 rfl (k := 2) rfl ?_
      refine x_icmp_gt (tgt := 25) C d_X_isNeed_18 (by decide) (fun hc => ?_) (fun hc => ?_)
      · rw [if_pos hc] at hf
        refine x_iconst (v := 0) C d_X_isNeed_25 (by decide) ?_
        exact x_zret C hQ rfl hf rfl d_X_isNeed_26
      · rw [if_neg hc] at hf
        refine x_iconst (v := 1) C d_X_isNeed_21 (by decide) ?_
        refine x_goto (tgt := 26) C d_X_isNeed_22 (by decide) ?_
        exact x_zret C hQ rfl hf rfl d_X_isNeed_26
theorem c_X_isNeed {S : Type} {l : Launch} {D : va_G} {tys : Tys} {wf : S → va_W} {u : S} (a0 : Int32) (a1 : Int32) (a2 : Int32) : CtI l y_X_isNeed b_X_isNeed 3 (some .boolean) (rk 2) D tys wf [.int a0, .int a1, .int a2] u (f_X_isNeed a0 a1 a2) u := ct_ofI (by decide) (Nat.le_of_ble_eq_true rfl) (fun γ _ _ C hQ => w_X_isNeed C hQ a0 a1 a2 rfl)
-- ---- PackagePick.markOf(I)I
def f_X_markOf (a0 : Int32) : Int32 :=
  ((1 : Int32) <<< ((f_X_placeOf a0) &&& 31))
set_option maxRecDepth 100000 in
set_option maxHeartbeats 4000000 in
theorem w_X_markOf {γ : CX} {S : Type} {wf : S → va_W} {tys : Tys} {u : S} {r0 : Int32} (C : Cx γ b_X_markOf 1 (some .int) "PackagePick" (rk 1) tys) (hQ : QI γ tys wf r0 u) (a0 : Int32) (hf : f_X_markOf a0 = r0) : AtG γ wf 1 0 0 0 [(0, .int a0)] [] u := by
  unfold f_X_markOf at hf
  refine x_iconst (v := 1) C d_X_markOf_0 (by decide) ?_
  refine x_iload_n C d_X_markOf_1 rfl (k := 0) rfl ?_
  refine x_callIs (rest := [.int (1 : Int32)]) C (c_X_placeOf a0) kc_X_placeOf (rok (by decide) (by decide)) mm_X_123 ms_X_placeOf rfl rfl (Nat.le_of_ble_eq_true rfl) d_X_markOf_2 ?_
  refine x_ishl C d_X_markOf_5 ?_
  exact x_iret C hQ hf rfl d_X_markOf_6
theorem c_X_markOf {S : Type} {l : Launch} {D : va_G} {tys : Tys} {wf : S → va_W} {u : S} (a0 : Int32) : CtI l y_X_markOf b_X_markOf 1 (some .int) (rk 1) D tys wf [.int a0] u (f_X_markOf a0) u := ct_ofI (by decide) (Nat.le_of_ble_eq_true rfl) (fun γ _ _ C hQ => w_X_markOf C hQ a0 rfl)
-- ---- PackagePick.outside(III)I
def f_X_outside (a0 : Int32) (a1 : Int32) (a2 : Int32) : Int32 :=
  (((15 : Int32) &&& ((((1 : Int32) <<< ((a2 + (1 : Int32)) &&& 31)) - ((1 : Int32) <<< (a1 &&& 31))) ^^^ (-1 : Int32))) <<< ((f_X_placeOf a0) &&& 31))
set_option maxRecDepth 100000 in
set_option maxHeartbeats 4000000 in
theorem w_X_outside {γ : CX} {S : Type} {wf : S → va_W} {tys : Tys} {u : S} {r0 : Int32} (C : Cx γ b_X_outside 4 (some .int) "PackagePick" (rk 1) tys) (hQ : QI γ tys wf r0 u) (a0 : Int32) (a1 : Int32) (a2 : Int32) (hf : f_X_outside a0 a1 a2 = r0) : AtG γ wf 4 0 0 0 [(0, .int a0), (1, .int a1), (2, .int a2)] [] u := by
  unfold f_X_outside at hf
  refine x_iconst (v := 1) C d_X_outside_0 (by decide) ?_
  refine x_iload_n C d_X_outside_1 rfl (k := 2) rfl ?_
  refine x_iconst (v := 1) C d_X_outside_2 (by decide) ?_
  refine x_iadd C d_X_outside_3 ?_
  refine x_ishl C d_X_outside_4 ?_
  refine x_iconst (v := 1) C d_X_outside_5 (by decide) ?_
  refine x_iload_n C d_X_outside_6 rfl (k := 1) rfl ?_
  refine x_ishl C d_X_outside_7 ?_
  refine x_isub C d_X_outside_8 ?_
  refine x_istore_n (lv' := [(3, .int (((1 : Int32) <<< ((a2 + (1 : Int32)) &&& 31)) - ((1 : Int32) <<< (a1 &&& 31)))), (0, .int a0), (1, .int a1), (2, .int a2)]) C d_X_outside_9 rfl (by decide) rfl ?_
  refine x_bipush (v := 15) C d_X_outside_10 (by decide) ?_
  refine x_iload_n C d_X_outside_12 rfl (k := 0) rfl ?_
  refine x_iconst (v := -1) C d_X_outside_13 (by decide) ?_
  refine x_ixor C d_X_outside_14 ?_
  refine x_iand C d_X_outside_15 ?_
  refine x_iload_n C d_X_outside_16 rfl (k := 1) rfl ?_
  refine x_callIs (rest := [.int ((15 : Int32) &&& ((((1 : Int32) <<< ((a2 + (1 : Int32)) &&& 31)) - ((1 : Int32) <<< (a1 &&& 31))) ^^^ (-1 : Int32)))]) C (c_X_placeOf a0) kc_X_placeOf (rok (by decide) (by decide)) mm_X_123 ms_X_placeOf rfl rfl (Nat.le_of_ble_eq_true rfl) d_X_outside_17 ?_
  refine x_ishl C d_X_outside_20 ?_
  exact x_iret C hQ hf rfl d_X_outside_21
theorem c_X_outside {S : Type} {l : Launch} {D : va_G} {tys : Tys} {wf : S → va_W} {u : S} (a0 : Int32) (a1 : Int32) (a2 : Int32) : CtI l y_X_outside b_X_outside 4 (some .int) (rk 1) D tys wf [.int a0, .int a1, .int a2] u (f_X_outside a0 a1 a2) u := ct_ofI (by decide) (Nat.le_of_ble_eq_true rfl) (fun γ _ _ C hQ => w_X_outside C hQ a0 a1 a2 rfl)
-- ---- PackagePick.need(IIIII)Z
def f_X_need (a1 : Int32) (a2 : Int32) (a3 : Int32) (a4 : Int32) (a5 : Int32) (u : PS) : Option (Int32 × PS) :=
  if (f_X_isVersion a1 a2) = 0 then
    some ((0 : Int32), u)
  else
    if (f_X_isNeed a3 a4 a5) = 0 then
      some ((0 : Int32), u)
    else
      (f_C_addNeed (f_X_slotOf a1 a2) (f_X_markOf a3) (f_X_outside a3 a4 a5) u).bind fun r6 =>
      if r6.1 = 0 then
        some ((0 : Int32), r6.2)
      else
        some ((1 : Int32), r6.2)
set_option maxRecDepth 100000 in
set_option maxHeartbeats 4000000 in
theorem w_X_need {γ : CX} {cI : ClassId} {h : Nat → Nat} {r0 : Int32} {u0 : PS} (C : Cx γ b_X_need 6 (some .boolean) "PackagePick" (rk 3) [(cI, .int)]) (hQ : QI γ [(cI, .int)] (WX cI h) r0 u0) (a1 : Int32) (a2 : Int32) (a3 : Int32) (a4 : Int32) (a5 : Int32) (u : PS) (hf : f_X_need a1 a2 a3 a4 a5 u = some (r0, u0)) : AtG γ (WX cI h) 6 0 0 0 [(0, .ref (h 0)), (1, .int a1), (2, .int a2), (3, .int a3), (4, .int a4), (5, .int a5)] [] u := by
  unfold f_X_need at hf
  refine x_iload_n C d_X_need_0 rfl (k := 1) rfl ?_
  refine x_iload_n C d_X_need_1 rfl (k := 2) rfl ?_
  refine x_callIs (rest := []) C (c_X_isVersion a1 a2) kc_X_isVersion (rok (by decide) (by decide)) mm_X_40 ms_X_isVersion rfl rfl (Nat.le_of_ble_eq_true rfl) d_X_need_2 ?_
  refine x_if_eq (tgt := 50) C d_X_need_5 (by decide) (fun hc => ?_) (fun hc => ?_)
  · rw [if_pos hc] at hf
    refine x_iconst (v := 0) C d_X_need_50 (by decide) ?_
    exact x_zret C hQ rfl (Prod.mk.inj (Option.some.inj hf)).1 (Prod.mk.inj (Option.some.inj hf)).2 d_X_need_51
  · rw [if_neg hc] at hf
    refine x_iload_n C d_X_need_8 rfl (k := 3) rfl ?_
    refine x_iload C d_X_need_9 (k := 4) rfl ?_
    refine x_iload C d_X_need_11 (k := 5) rfl ?_
    refine x_callIs (rest := []) C (c_X_isNeed a3 a4 a5) kc_X_isNeed (rok (by decide) (by decide)) mm_X_52 ms_X_isNeed rfl rfl (Nat.le_of_ble_eq_true rfl) d_X_need_13 ?_
    refine x_if_eq (tgt := 50) C d_X_need_16 (by decide) (fun hc => ?_) (fun hc => ?_)
    · rw [if_pos hc] at hf
      refine x_iconst (v := 0) C d_X_need_50 (by decide) ?_
      exact x_zret C hQ rfl (Prod.mk.inj (Option.some.inj hf)).1 (Prod.mk.inj (Option.some.inj hf)).2 d_X_need_51
    · rw [if_neg hc] at hf
      refine x_aload_n C d_X_need_19 rfl (k := 0) rfl ?_
      refine gX_X_catalog C mf_X_12 d_X_need_20 ?_
      refine x_iload_n C d_X_need_23 rfl (k := 1) rfl ?_
      refine x_iload_n C d_X_need_24 rfl (k := 2) rfl ?_
      refine x_callIs (rest := [.ref (h 1)]) C (c_X_slotOf a1 a2) kc_X_slotOf (rok (by decide) (by decide)) mm_X_44 ms_X_slotOf rfl rfl (Nat.le_of_ble_eq_true rfl) d_X_need_25 ?_
      refine x_iload_n C d_X_need_28 rfl (k := 3) rfl ?_
      refine x_callIs (rest := [.int (f_X_slotOf a1 a2), .ref (h 1)]) C (c_X_markOf a3) kc_X_markOf (rok (by decide) (by decide)) mm_X_56 ms_X_markOf rfl rfl (Nat.le_of_ble_eq_true rfl) d_X_need_29 ?_
      refine x_iload_n C d_X_need_32 rfl (k := 3) rfl ?_
      refine x_iload C d_X_need_33 (k := 4) rfl ?_
      refine x_iload C d_X_need_35 (k := 5) rfl ?_
      refine x_callIs (rest := [.int (f_X_markOf a3), .int (f_X_slotOf a1 a2), .ref (h 1)]) C (c_X_outside a3 a4 a5) kc_X_outside (rok (by decide) (by decide)) mm_X_60 ms_X_outside rfl rfl (Nat.le_of_ble_eq_true rfl) d_X_need_37 ?_
      obtain ⟨r6, hc6, hf⟩ := Option.bind_eq_some_iff.mp hf
      refine x_callIv (q0 := 1) (ci := 0) (rest := []) C (c_C_addNeed (f_X_slotOf a1 a2) (f_X_markOf a3) (f_X_outside a3 a4 a5) u hc6) kc_C_addNeed (rok (by decide) (by decide)) mm_X_64 ms_C_addNeed ml_C_addNeed rfl rfl rfl rfl (Nat.le_of_ble_eq_true rfl) d_X_need_40 ?_
      refine x_if_eq (tgt := 50) C d_X_need_43 (by decide) (fun hc => ?_) (fun hc => ?_)
      · rw [if_pos hc] at hf
        refine x_iconst (v := 0) C d_X_need_50 (by decide) ?_
        exact x_zret C hQ rfl (Prod.mk.inj (Option.some.inj hf)).1 (Prod.mk.inj (Option.some.inj hf)).2 d_X_need_51
      · rw [if_neg hc] at hf
        refine x_iconst (v := 1) C d_X_need_46 (by decide) ?_
        refine x_goto (tgt := 51) C d_X_need_47 (by decide) ?_
        exact x_zret C hQ rfl (Prod.mk.inj (Option.some.inj hf)).1 (Prod.mk.inj (Option.some.inj hf)).2 d_X_need_51
theorem c_X_need {l : Launch} {D : va_G} {cI : ClassId} {h : Nat → Nat} (a1 : Int32) (a2 : Int32) (a3 : Int32) (a4 : Int32) (a5 : Int32) (u : PS) {r0 : Int32 × PS} (hf : f_X_need a1 a2 a3 a4 a5 u = some r0) : CtI l y_X_need b_X_need 6 (some .boolean) (rk 3) D [(cI, .int)] (WX cI h) [.ref (h 0), .int a1, .int a2, .int a3, .int a4, .int a5] u r0.1 r0.2 := ct_ofI (by decide) (Nat.le_of_ble_eq_true rfl) (fun γ _ _ C hQ => w_X_need C hQ a1 a2 a3 a4 a5 u hf)
-- ---- PackagePick.drop(II)Z
def f_X_drop (a1 : Int32) (a2 : Int32) (u : PS) : Option (Int32 × PS) :=
  if (f_X_isVersion a1 a2) = 0 then
    some ((0 : Int32), u)
  else
    (f_C_remove (f_X_slotOf a1 a2) u).bind fun r3 =>
    if r3.1 = 0 then
      some ((0 : Int32), r3.2)
    else
      some ((1 : Int32), r3.2)
set_option maxRecDepth 100000 in
set_option maxHeartbeats 4000000 in
theorem w_X_drop {γ : CX} {cI : ClassId} {h : Nat → Nat} {r0 : Int32} {u0 : PS} (C : Cx γ b_X_drop 3 (some .boolean) "PackagePick" (rk 3) [(cI, .int)]) (hQ : QI γ [(cI, .int)] (WX cI h) r0 u0) (a1 : Int32) (a2 : Int32) (u : PS) (hf : f_X_drop a1 a2 u = some (r0, u0)) : AtG γ (WX cI h) 3 0 0 0 [(0, .ref (h 0)), (1, .int a1), (2, .int a2)] [] u := by
  unfold f_X_drop at hf
  refine x_iload_n C d_X_drop_0 rfl (k := 1) rfl ?_
  refine x_iload_n C d_X_drop_1 rfl (k := 2) rfl ?_
  refine x_callIs (rest := []) C (c_X_isVersion a1 a2) kc_X_isVersion (rok (by decide) (by decide)) mm_X_40 ms_X_isVersion rfl rfl (Nat.le_of_ble_eq_true rfl) d_X_drop_2 ?_
  refine x_if_eq (tgt := 27) C d_X_drop_5 (by decide) (fun hc => ?_) (fun hc => ?_)
  · rw [if_pos hc] at hf
    refine x_iconst (v := 0) C d_X_drop_27 (by decide) ?_
    exact x_zret C hQ rfl (Prod.mk.inj (Option.some.inj hf)).1 (Prod.mk.inj (Option.some.inj hf)).2 d_X_drop_28
  · rw [if_neg hc] at hf
    refine x_aload_n C d_X_drop_8 rfl (k := 0) rfl ?_
    refine gX_X_catalog C mf_X_12 d_X_drop_9 ?_
    refine x_iload_n C d_X_drop_12 rfl (k := 1) rfl ?_
    refine x_iload_n C d_X_drop_13 rfl (k := 2) rfl ?_
    refine x_callIs (rest := [.ref (h 1)]) C (c_X_slotOf a1 a2) kc_X_slotOf (rok (by decide) (by decide)) mm_X_44 ms_X_slotOf rfl rfl (Nat.le_of_ble_eq_true rfl) d_X_drop_14 ?_
    obtain ⟨r3, hc3, hf⟩ := Option.bind_eq_some_iff.mp hf
    refine x_callIv (q0 := 1) (ci := 0) (rest := []) C (c_C_remove (f_X_slotOf a1 a2) u hc3) kc_C_remove (rok (by decide) (by decide)) mm_X_67 ms_C_remove ml_C_remove rfl rfl rfl rfl (Nat.le_of_ble_eq_true rfl) d_X_drop_17 ?_
    refine x_if_eq (tgt := 27) C d_X_drop_20 (by decide) (fun hc => ?_) (fun hc => ?_)
    · rw [if_pos hc] at hf
      refine x_iconst (v := 0) C d_X_drop_27 (by decide) ?_
      exact x_zret C hQ rfl (Prod.mk.inj (Option.some.inj hf)).1 (Prod.mk.inj (Option.some.inj hf)).2 d_X_drop_28
    · rw [if_neg hc] at hf
      refine x_iconst (v := 1) C d_X_drop_23 (by decide) ?_
      refine x_goto (tgt := 28) C d_X_drop_24 (by decide) ?_
      exact x_zret C hQ rfl (Prod.mk.inj (Option.some.inj hf)).1 (Prod.mk.inj (Option.some.inj hf)).2 d_X_drop_28
theorem c_X_drop {l : Launch} {D : va_G} {cI : ClassId} {h : Nat → Nat} (a1 : Int32) (a2 : Int32) (u : PS) {r0 : Int32 × PS} (hf : f_X_drop a1 a2 u = some r0) : CtI l y_X_drop b_X_drop 3 (some .boolean) (rk 3) D [(cI, .int)] (WX cI h) [.ref (h 0), .int a1, .int a2] u r0.1 r0.2 := ct_ofI (by decide) (Nat.le_of_ble_eq_true rfl) (fun γ _ _ C hQ => w_X_drop C hQ a1 a2 u hf)
-- ---- PackagePick.ban(IIII)Z
def f_X_ban (a1 : Int32) (a2 : Int32) (a3 : Int32) (a4 : Int32) (u : PS) : Option (Int32 × PS) :=
  if (f_X_isVersion a1 a2) = 0 then
    some ((0 : Int32), u)
  else
    if (f_X_isVersion a3 a4) = 0 then
      some ((0 : Int32), u)
    else
      if a1 = a3 then
        some ((0 : Int32), u)
      else
        (f_C_addBan (f_X_slotOf a1 a2) (f_X_slotOf a3 a4) u).bind fun r5 =>
        if r5.1 = 0 then
          some ((0 : Int32), r5.2)
        else
          some ((1 : Int32), r5.2)
set_option maxRecDepth 100000 in
set_option maxHeartbeats 4000000 in
theorem w_X_ban {γ : CX} {cI : ClassId} {h : Nat → Nat} {r0 : Int32} {u0 : PS} (C : Cx γ b_X_ban 5 (some .boolean) "PackagePick" (rk 2) [(cI, .int)]) (hQ : QI γ [(cI, .int)] (WX cI h) r0 u0) (a1 : Int32) (a2 : Int32) (a3 : Int32) (a4 : Int32) (u : PS) (hf : f_X_ban a1 a2 a3 a4 u = some (r0, u0)) : AtG γ (WX cI h) 5 0 0 0 [(0, .ref (h 0)), (1, .int a1), (2, .int a2), (3, .int a3), (4, .int a4)] [] u := by
  unfold f_X_ban at hf
  refine x_iload_n C d_X_ban_0 rfl (k := 1) rfl ?_
  refine x_iload_n C d_X_ban_1 rfl (k := 2) rfl ?_
  refine x_callIs (rest := []) C (c_X_isVersion a1 a2) kc_X_isVersion (rok (by decide) (by decide)) mm_X_40 ms_X_isVersion rfl rfl (Nat.le_of_ble_eq_true rfl) d_X_ban_2 ?_
  refine x_if_eq (tgt := 47) C d_X_ban_5 (by decide) (fun hc => ?_) (fun hc => ?_)
  · rw [if_pos hc] at hf
    refine x_iconst (v := 0) C d_X_ban_47 (by decide) ?_
    exact x_zret C hQ rfl (Prod.mk.inj (Option.some.inj hf)).1 (Prod.mk.inj (Option.some.inj hf)).2 d_X_ban_48
  · rw [if_neg hc] at hf
    refine x_iload_n C d_X_ban_8 rfl (k := 3) rfl ?_
    refine x_iload C d_X_ban_9 (k := 4) rfl ?_
    refine x_callIs (rest := []) C (c_X_isVersion a3 a4) kc_X_isVersion (rok (by decide) (by decide)) mm_X_40 ms_X_isVersion rfl rfl (Nat.le_of_ble_eq_true rfl) d_X_ban_11 ?_
    refine x_if_eq (tgt := 47) C d_X_ban_14 (by decide) (fun hc => ?_) (fun hc => ?_)
    · rw [if_pos hc] at hf
      refine x_iconst (v := 0) C d_X_ban_47 (by decide) ?_
      exact x_zret C hQ rfl (Prod.mk.inj (Option.some.inj hf)).1 (Prod.mk.inj (Option.some.inj hf)).2 d_X_ban_48
    · rw [if_neg hc] at hf
      refine x_iload_n C d_X_ban_17 rfl (k := 1) rfl ?_
      refine x_iload_n C d_X_ban_18 rfl (k := 3) rfl ?_
      refine x_icmp_eq (tgt := 47) C d_X_ban_19 (by decide) (fun hc => ?_) (fun hc => ?_)
      · rw [if_pos hc] at hf
        refine x_iconst (v := 0) C d_X_ban_47 (by decide) ?_
        exact x_zret C hQ rfl (Prod.mk.inj (Option.some.inj hf)).1 (Prod.mk.inj (Option.some.inj hf)).2 d_X_ban_48
      · rw [if_neg hc] at hf
        refine x_aload_n C d_X_ban_22 rfl (k := 0) rfl ?_
        refine gX_X_catalog C mf_X_12 d_X_ban_23 ?_
        refine x_iload_n C d_X_ban_26 rfl (k := 1) rfl ?_
        refine x_iload_n C d_X_ban_27 rfl (k := 2) rfl ?_
        refine x_callIs (rest := [.ref (h 1)]) C (c_X_slotOf a1 a2) kc_X_slotOf (rok (by decide) (by decide)) mm_X_44 ms_X_slotOf rfl rfl (Nat.le_of_ble_eq_true rfl) d_X_ban_28 ?_
        refine x_iload_n C d_X_ban_31 rfl (k := 3) rfl ?_
        refine x_iload C d_X_ban_32 (k := 4) rfl ?_
        refine x_callIs (rest := [.int (f_X_slotOf a1 a2), .ref (h 1)]) C (c_X_slotOf a3 a4) kc_X_slotOf (rok (by decide) (by decide)) mm_X_44 ms_X_slotOf rfl rfl (Nat.le_of_ble_eq_true rfl) d_X_ban_34 ?_
        obtain ⟨r5, hc5, hf⟩ := Option.bind_eq_some_iff.mp hf
        refine x_callIv (q0 := 1) (ci := 0) (rest := []) C (c_C_addBan (f_X_slotOf a1 a2) (f_X_slotOf a3 a4) u hc5) kc_C_addBan (rok (by decide) (by decide)) mm_X_70 ms_C_addBan ml_C_addBan rfl rfl rfl rfl (Nat.le_of_ble_eq_true rfl) d_X_ban_37 ?_
        refine x_if_eq (tgt := 47) C d_X_ban_40 (by decide) (fun hc => ?_) (fun hc => ?_)
        · rw [if_pos hc] at hf
          refine x_iconst (v := 0) C d_X_ban_47 (by decide) ?_
          exact x_zret C hQ rfl (Prod.mk.inj (Option.some.inj hf)).1 (Prod.mk.inj (Option.some.inj hf)).2 d_X_ban_48
        · rw [if_neg hc] at hf
          refine x_iconst (v := 1) C d_X_ban_43 (by decide) ?_
          refine x_goto (tgt := 48) C d_X_ban_44 (by decide) ?_
          exact x_zret C hQ rfl (Prod.mk.inj (Option.some.inj hf)).1 (Prod.mk.inj (Option.some.inj hf)).2 d_X_ban_48
theorem c_X_ban {l : Launch} {D : va_G} {cI : ClassId} {h : Nat → Nat} (a1 : Int32) (a2 : Int32) (a3 : Int32) (a4 : Int32) (u : PS) {r0 : Int32 × PS} (hf : f_X_ban a1 a2 a3 a4 u = some r0) : CtI l y_X_ban b_X_ban 5 (some .boolean) (rk 2) D [(cI, .int)] (WX cI h) [.ref (h 0), .int a1, .int a2, .int a3, .int a4] u r0.1 r0.2 := ct_ofI (by decide) (Nat.le_of_ble_eq_true rfl) (fun γ _ _ C hQ => w_X_ban C hQ a1 a2 a3 a4 u hf)
-- ---- PackagePick.ask(III)Z
def f_X_ask (a1 : Int32) (a2 : Int32) (a3 : Int32) (u : PS) : Option (Int32 × PS) :=
  if (f_X_isNeed a1 a2 a3) = 0 then
    some ((0 : Int32), u)
  else
    (f_W_add (f_X_markOf a1) (f_X_outside a1 a2 a3) u).bind fun r4 =>
    if r4.1 = 0 then
      some ((0 : Int32), r4.2)
    else
      some ((1 : Int32), r4.2)
set_option maxRecDepth 100000 in
set_option maxHeartbeats 4000000 in
theorem w_X_ask {γ : CX} {cI : ClassId} {h : Nat → Nat} {r0 : Int32} {u0 : PS} (C : Cx γ b_X_ask 4 (some .boolean) "PackagePick" (rk 3) [(cI, .int)]) (hQ : QI γ [(cI, .int)] (WX cI h) r0 u0) (a1 : Int32) (a2 : Int32) (a3 : Int32) (u : PS) (hf : f_X_ask a1 a2 a3 u = some (r0, u0)) : AtG γ (WX cI h) 4 0 0 0 [(0, .ref (h 0)), (1, .int a1), (2, .int a2), (3, .int a3)] [] u := by
  unfold f_X_ask at hf
  refine x_iload_n C d_X_ask_0 rfl (k := 1) rfl ?_
  refine x_iload_n C d_X_ask_1 rfl (k := 2) rfl ?_
  refine x_iload_n C d_X_ask_2 rfl (k := 3) rfl ?_
  refine x_callIs (rest := []) C (c_X_isNeed a1 a2 a3) kc_X_isNeed (rok (by decide) (by decide)) mm_X_52 ms_X_isNeed rfl rfl (Nat.le_of_ble_eq_true rfl) d_X_ask_3 ?_
  refine x_if_eq (tgt := 33) C d_X_ask_6 (by decide) (fun hc => ?_) (fun hc => ?_)
  · rw [if_pos hc] at hf
    refine x_iconst (v := 0) C d_X_ask_33 (by decide) ?_
    exact x_zret C hQ rfl (Prod.mk.inj (Option.some.inj hf)).1 (Prod.mk.inj (Option.some.inj hf)).2 d_X_ask_34
  · rw [if_neg hc] at hf
    refine x_aload_n C d_X_ask_9 rfl (k := 0) rfl ?_
    refine gX_X_wishes C mf_X_19 d_X_ask_10 ?_
    refine x_iload_n C d_X_ask_13 rfl (k := 1) rfl ?_
    refine x_callIs (rest := [.ref (h 2)]) C (c_X_markOf a1) kc_X_markOf (rok (by decide) (by decide)) mm_X_56 ms_X_markOf rfl rfl (Nat.le_of_ble_eq_true rfl) d_X_ask_14 ?_
    refine x_iload_n C d_X_ask_17 rfl (k := 1) rfl ?_
    refine x_iload_n C d_X_ask_18 rfl (k := 2) rfl ?_
    refine x_iload_n C d_X_ask_19 rfl (k := 3) rfl ?_
    refine x_callIs (rest := [.int (f_X_markOf a1), .ref (h 2)]) C (c_X_outside a1 a2 a3) kc_X_outside (rok (by decide) (by decide)) mm_X_60 ms_X_outside rfl rfl (Nat.le_of_ble_eq_true rfl) d_X_ask_20 ?_
    obtain ⟨r4, hc4, hf⟩ := Option.bind_eq_some_iff.mp hf
    refine x_callIv (q0 := 2) (ci := 2) (rest := []) C (c_W_add (f_X_markOf a1) (f_X_outside a1 a2 a3) u hc4) kc_W_add (rok (by decide) (by decide)) mm_X_73 ms_W_add ml_W_add rfl rfl rfl rfl (Nat.le_of_ble_eq_true rfl) d_X_ask_23 ?_
    refine x_if_eq (tgt := 33) C d_X_ask_26 (by decide) (fun hc => ?_) (fun hc => ?_)
    · rw [if_pos hc] at hf
      refine x_iconst (v := 0) C d_X_ask_33 (by decide) ?_
      exact x_zret C hQ rfl (Prod.mk.inj (Option.some.inj hf)).1 (Prod.mk.inj (Option.some.inj hf)).2 d_X_ask_34
    · rw [if_neg hc] at hf
      refine x_iconst (v := 1) C d_X_ask_29 (by decide) ?_
      refine x_goto (tgt := 34) C d_X_ask_30 (by decide) ?_
      exact x_zret C hQ rfl (Prod.mk.inj (Option.some.inj hf)).1 (Prod.mk.inj (Option.some.inj hf)).2 d_X_ask_34
theorem c_X_ask {l : Launch} {D : va_G} {cI : ClassId} {h : Nat → Nat} (a1 : Int32) (a2 : Int32) (a3 : Int32) (u : PS) {r0 : Int32 × PS} (hf : f_X_ask a1 a2 a3 u = some r0) : CtI l y_X_ask b_X_ask 4 (some .boolean) (rk 3) D [(cI, .int)] (WX cI h) [.ref (h 0), .int a1, .int a2, .int a3] u r0.1 r0.2 := ct_ofI (by decide) (Nat.le_of_ble_eq_true rfl) (fun γ _ _ C hQ => w_X_ask C hQ a1 a2 a3 u hf)
-- ---- PackagePick.take(I)Z
def f_X_take (a1 : Int32) (u : PS) : Option (Int32 × PS) :=
  (f_W_remove a1 u).bind fun r1 =>
  ck (isB r1.1) <|
  some (r1.1, r1.2)
set_option maxRecDepth 100000 in
set_option maxHeartbeats 4000000 in
theorem w_X_take {γ : CX} {cI : ClassId} {h : Nat → Nat} {r0 : Int32} {u0 : PS} (C : Cx γ b_X_take 2 (some .boolean) "PackagePick" (rk 1) [(cI, .int)]) (hQ : QI γ [(cI, .int)] (WX cI h) r0 u0) (a1 : Int32) (u : PS) (hf : f_X_take a1 u = some (r0, u0)) : AtG γ (WX cI h) 2 0 0 0 [(0, .ref (h 0)), (1, .int a1)] [] u := by
  unfold f_X_take at hf
  refine x_aload_n C d_X_take_0 rfl (k := 0) rfl ?_
  refine gX_X_wishes C mf_X_19 d_X_take_1 ?_
  refine x_iload_n C d_X_take_4 rfl (k := 1) rfl ?_
  obtain ⟨r1, hc1, hf⟩ := Option.bind_eq_some_iff.mp hf
  refine x_callIv (q0 := 2) (ci := 2) (rest := []) C (c_W_remove a1 u hc1) kc_W_remove (rok (by decide) (by decide)) mm_X_75 ms_W_remove ml_W_remove rfl rfl rfl rfl (Nat.le_of_ble_eq_true rfl) d_X_take_5 ?_
  obtain ⟨hbo, hf⟩ := ck_some hf
  exact x_zret C hQ (isB_nar hbo) (Prod.mk.inj (Option.some.inj hf)).1 (Prod.mk.inj (Option.some.inj hf)).2 d_X_take_8
theorem c_X_take {l : Launch} {D : va_G} {cI : ClassId} {h : Nat → Nat} (a1 : Int32) (u : PS) {r0 : Int32 × PS} (hf : f_X_take a1 u = some r0) : CtI l y_X_take b_X_take 2 (some .boolean) (rk 1) D [(cI, .int)] (WX cI h) [.ref (h 0), .int a1] u r0.1 r0.2 := ct_ofI (by decide) (Nat.le_of_ble_eq_true rfl) (fun γ _ _ C hQ => w_X_take C hQ a1 u hf)
-- ---- PackagePick.keep()I
def f_X_keep (u : PS) : Int32 × PS :=
  ((f_X_differing (u.1 0) (u.1 1)), (si u 1 (u.1 0)))
set_option maxRecDepth 100000 in
set_option maxHeartbeats 4000000 in
theorem w_X_keep {γ : CX} {cI : ClassId} {h : Nat → Nat} {r0 : Int32} {u0 : PS} (C : Cx γ b_X_keep 2 (some .int) "PackagePick" (rk 2) [(cI, .int)]) (hQ : QI γ [(cI, .int)] (WX cI h) r0 u0) (u : PS) (hf : f_X_keep u = (r0, u0)) : AtG γ (WX cI h) 2 0 0 0 [(0, .ref (h 0))] [] u := by
  unfold f_X_keep at hf
  refine x_aload_n C d_X_keep_0 rfl (k := 0) rfl ?_
  refine gX_X_told (v := (u.1 0)) C mf_X_30 rfl d_X_keep_1 ?_
  refine x_aload_n C d_X_keep_4 rfl (k := 0) rfl ?_
  refine gX_X_kept (v := (u.1 1)) C mf_X_34 rfl d_X_keep_5 ?_
  refine x_callIs (rest := []) C (c_X_differing (u.1 0) (u.1 1)) kc_X_differing (rok (by decide) (by decide)) mm_X_111 ms_X_differing rfl rfl (Nat.le_of_ble_eq_true rfl) d_X_keep_8 ?_
  refine x_istore_n (lv' := [(1, .int (f_X_differing (u.1 0) (u.1 1))), (0, .ref (h 0))]) C d_X_keep_11 rfl (by decide) rfl ?_
  refine x_aload_n C d_X_keep_12 rfl (k := 1) rfl ?_
  refine x_aload_n C d_X_keep_13 rfl (k := 1) rfl ?_
  refine gX_X_told (v := (u.1 0)) C mf_X_30 rfl d_X_keep_14 ?_
  refine pX_X_kept C mf_X_34 d_X_keep_17 ?_
  refine x_iload_n C d_X_keep_20 rfl (k := 0) rfl ?_
  exact x_iret C hQ (Prod.mk.inj hf).1 (Prod.mk.inj hf).2 d_X_keep_21
theorem c_X_keep {l : Launch} {D : va_G} {cI : ClassId} {h : Nat → Nat} (u : PS) : CtI l y_X_keep b_X_keep 2 (some .int) (rk 2) D [(cI, .int)] (WX cI h) [.ref (h 0)] u (f_X_keep u).1 (f_X_keep u).2 := ct_ofI (by decide) (Nat.le_of_ble_eq_true rfl) (fun γ _ _ C hQ => w_X_keep C hQ u rfl)
-- ---- PackagePick.chosen(I)I
def b_X_chosen_11 (u : PS) (k11 : Int32 → Int32 → Option (Int32)) (x1 : Int32) (x2 : Int32) : Option (Int32) :=
  if (4 : Int32) ≤ x2 then
    some (-1 : Int32)
  else
    if (f_X_holds (u.1 0) (f_X_slotOf x1 x2)) = 0 then
      k11 x1 (x2 + (1 : Int32))
    else
      some x2
set_option maxRecDepth 100000 in
set_option maxHeartbeats 4000000 in
theorem w_X_chosen_11 {γ : CX} {cI : ClassId} {h : Nat → Nat} {u : PS} {r0 : Int32} (C : Cx γ b_X_chosen 3 (some .int) "PackagePick" (rk 2) [(cI, .int)]) (hQ : QI γ [(cI, .int)] (WX cI h) r0 u) (k11 : Int32 → Int32 → Option (Int32)) (hk11 : ∀ (x1 : Int32) (x2 : Int32), k11 x1 x2 = some r0 → AtG γ (WX cI h) 3 0 0 11 [(0, .ref (h 0)), (1, .int x1), (2, .int x2)] [] u) (x1 : Int32) (x2 : Int32) (hf : b_X_chosen_11 u k11 x1 x2 = some r0) : AtG γ (WX cI h) 3 0 0 11 [(0, .ref (h 0)), (1, .int x1), (2, .int x2)] [] u := by
  unfold b_X_chosen_11 at hf
  refine x_iload_n C d_X_chosen_11 rfl (k := 2) rfl ?_
  refine x_iconst (v := 4) C d_X_chosen_12 (by decide) ?_
  refine x_icmp_ge (tgt := 39) C d_X_chosen_13 (by decide) (fun hc => ?_) (fun hc => ?_)
  · rw [if_pos hc] at hf
    refine x_iconst (v := -1) C d_X_chosen_39 (by decide) ?_
    exact x_iret C hQ (Option.some.inj hf) rfl d_X_chosen_40
  · rw [if_neg hc] at hf
    refine x_aload_n C d_X_chosen_16 rfl (k := 0) rfl ?_
    refine gX_X_told (v := (u.1 0)) C mf_X_30 rfl d_X_chosen_17 ?_
    refine x_iload_n C d_X_chosen_20 rfl (k := 1) rfl ?_
    refine x_iload_n C d_X_chosen_21 rfl (k := 2) rfl ?_
    refine x_callIs (rest := [.int (u.1 0)]) C (c_X_slotOf x1 x2) kc_X_slotOf (rok (by decide) (by decide)) mm_X_44 ms_X_slotOf rfl rfl (Nat.le_of_ble_eq_true rfl) d_X_chosen_22 ?_
    refine x_callIs (rest := []) C (c_X_holds (u.1 0) (f_X_slotOf x1 x2)) kc_X_holds (rok (by decide) (by decide)) mm_X_117 ms_X_holds rfl rfl (Nat.le_of_ble_eq_true rfl) d_X_chosen_25 ?_
    refine x_if_eq (tgt := 33) C d_X_chosen_28 (by decide) (fun hc => ?_) (fun hc => ?_)
    · rw [if_pos hc] at hf
      refine x_iinc (v := (x2 + (1 : Int32))) (lv' := [(2, .int (x2 + (1 : Int32))), (0, .ref (h 0)), (1, .int x1)]) C d_X_chosen_33 (k := 2) rfl rfl (by decide) rfl ?_
      refine x_goto (tgt := 11) C d_X_chosen_36 (by decide) ?_
      refine x_sub (lv' := [(0, .ref (h 0)), (1, .int x1), (2, .int (x2 + (1 : Int32)))]) [1, 2, 0] rfl ?_
      exact hk11 x1 (x2 + (1 : Int32)) hf
    · rw [if_neg hc] at hf
      refine x_iload_n C d_X_chosen_31 rfl (k := 2) rfl ?_
      exact x_iret C hQ (Option.some.inj hf) rfl d_X_chosen_32
def l_X_chosen_11 (u : PS) : Nat → Int32 → Int32 → Option (Int32)
  | 0 => fun _ _ => none
  | n + 1 => b_X_chosen_11 u (l_X_chosen_11 u n)
theorem wl_X_chosen_11 {γ : CX} {cI : ClassId} {h : Nat → Nat} {u : PS} {r0 : Int32} (C : Cx γ b_X_chosen 3 (some .int) "PackagePick" (rk 2) [(cI, .int)]) (hQ : QI γ [(cI, .int)] (WX cI h) r0 u) (n : Nat) : ∀ (x1 : Int32) (x2 : Int32), l_X_chosen_11 u n x1 x2 = some r0 → AtG γ (WX cI h) 3 0 0 11 [(0, .ref (h 0)), (1, .int x1), (2, .int x2)] [] u := by
  induction n with
  | zero => intro x1 x2 hf; cases hf
  | succ n ih => intro x1 x2 hf; exact w_X_chosen_11 C hQ (l_X_chosen_11 u n) ih x1 x2 hf
def f_X_chosen (a1 : Int32) (u : PS) : Option (Int32) :=
  if (f_X_isPackage a1) = 0 then
    some (-1 : Int32)
  else
    l_X_chosen_11 u NF a1 (0 : Int32)
set_option maxRecDepth 100000 in
set_option maxHeartbeats 4000000 in
theorem w_X_chosen {γ : CX} {cI : ClassId} {h : Nat → Nat} {u : PS} {r0 : Int32} (C : Cx γ b_X_chosen 3 (some .int) "PackagePick" (rk 2) [(cI, .int)]) (hQ : QI γ [(cI, .int)] (WX cI h) r0 u) (a1 : Int32) (hf : f_X_chosen a1 u = some r0) : AtG γ (WX cI h) 3 0 0 0 [(0, .ref (h 0)), (1, .int a1)] [] u := by
  unfold f_X_chosen at hf
  refine x_iload_n C d_X_chosen_0 rfl (k := 1) rfl ?_
  refine x_callIs (rest := []) C (c_X_isPackage a1) kc_X_isPackage (rok (by decide) (by decide)) mm_X_114 ms_X_isPackage rfl rfl (Nat.le_of_ble_eq_true rfl) d_X_chosen_1 ?_
  refine x_if_ne (tgt := 9) C d_X_chosen_4 (by decide) (fun hc => ?_) (fun hc => ?_)
  · rw [if_neg hc] at hf
    refine x_iconst (v := 0) C d_X_chosen_9 (by decide) ?_
    refine x_istore_n (lv' := [(2, .int (0 : Int32)), (0, .ref (h 0)), (1, .int a1)]) C d_X_chosen_10 rfl (by decide) rfl ?_
    refine x_sub (lv' := [(0, .ref (h 0)), (1, .int a1), (2, .int (0 : Int32))]) [1, 2, 0] rfl ?_
    exact wl_X_chosen_11 C hQ NF a1 (0 : Int32) hf
  · rw [if_pos hc] at hf
    refine x_iconst (v := -1) C d_X_chosen_7 (by decide) ?_
    exact x_iret C hQ (Option.some.inj hf) rfl d_X_chosen_8
theorem c_X_chosen {l : Launch} {D : va_G} {cI : ClassId} {h : Nat → Nat} (a1 : Int32) (u : PS) {r0 : Int32} (hf : f_X_chosen a1 u = some r0) : CtI l y_X_chosen b_X_chosen 3 (some .int) (rk 2) D [(cI, .int)] (WX cI h) [.ref (h 0), .int a1] u r0 u := ct_ofI (by decide) (Nat.le_of_ble_eq_true rfl) (fun γ _ _ C hQ => w_X_chosen C hQ a1 hf)
-- ---- PackagePick.lowestPlace(I)I
def f_X_lowestPlace (a0 : Int32) : Int32 :=
  (f_J_bitCount ((a0 &&& (-a0)) - (1 : Int32)))
set_option maxRecDepth 100000 in
set_option maxHeartbeats 4000000 in
theorem w_X_lowestPlace {γ : CX} {S : Type} {wf : S → va_W} {tys : Tys} {u : S} {r0 : Int32} (C : Cx γ b_X_lowestPlace 1 (some .int) "PackagePick" (rk 1) tys) (hQ : QI γ tys wf r0 u) (a0 : Int32) (hf : f_X_lowestPlace a0 = r0) : AtG γ wf 1 0 0 0 [(0, .int a0)] [] u := by
  unfold f_X_lowestPlace at hf
  refine x_iload_n C d_X_lowestPlace_0 rfl (k := 0) rfl ?_
  refine x_iload_n C d_X_lowestPlace_1 rfl (k := 0) rfl ?_
  refine x_ineg C d_X_lowestPlace_2 ?_
  refine x_iand C d_X_lowestPlace_3 ?_
  refine x_iconst (v := 1) C d_X_lowestPlace_4 (by decide) ?_
  refine x_isub C d_X_lowestPlace_5 ?_
  refine x_callIs (rest := []) C (c_J_bitCount ((a0 &&& (-a0)) - (1 : Int32))) kc_J_bitCount (rok (by decide) (by decide)) mm_X_106 ms_J_bitCount rfl rfl (Nat.le_of_ble_eq_true rfl) d_X_lowestPlace_6 ?_
  exact x_iret C hQ hf rfl d_X_lowestPlace_9
theorem c_X_lowestPlace {S : Type} {l : Launch} {D : va_G} {tys : Tys} {wf : S → va_W} {u : S} (a0 : Int32) : CtI l y_X_lowestPlace b_X_lowestPlace 1 (some .int) (rk 1) D tys wf [.int a0] u (f_X_lowestPlace a0) u := ct_ofI (by decide) (Nat.le_of_ble_eq_true rfl) (fun γ _ _ C hQ => w_X_lowestPlace C hQ a0 rfl)
-- ---- PackagePick.explore(IIII)V
def b_X_explore_77 (rc : Int32 → Int32 → Int32 → Int32 → PS → Option (PS)) (k77 : Int32 → Int32 → Int32 → Int32 → Int32 → Int32 → Int32 → PS → Option (PS)) (x1 : Int32) (x2 : Int32) (x3 : Int32) (x4 : Int32) (x6 : Int32) (x7 : Int32) (x8 : Int32) (u : PS) : Option (PS) :=
  if x7 ≤ x8 then
    some u
  else
    if (f_X_holds x3 x8) = 0 then
      k77 x1 x2 x3 x4 x6 x7 (x8 + (1 : Int32)) u
    else
      ck (inb x8 28) <|
      ck (inb x8 28) <|
      ck (inb x8 28) <|
      (rc (x1 ||| (u.2 1 x8.toNatClampNeg)) (x2 ||| ((1 : Int32) <<< (x6 &&& 31))) (x3 &&& ((((((15 : Int32) <<< (x6 &&& 31)) &&& (((1 : Int32) <<< (x8 &&& 31)) ^^^ (-1 : Int32))) ||| (u.2 2 x8.toNatClampNeg)) ||| (u.2 3 x8.toNatClampNeg)) ^^^ (-1 : Int32))) (x4 + (1 : Int32)) u).bind fun r5 =>
      k77 x1 x2 x3 x4 x6 x7 (x8 + (1 : Int32)) r5
set_option maxRecDepth 100000 in
set_option maxHeartbeats 4000000 in
theorem w_X_explore_77 {γ : CX} {cI : ClassId} {h : Nat → Nat} {u0 : PS} {k0 : Nat} (hk0 : 3 ≤ k0) (C : Cx γ b_X_explore 10 none "PackagePick" (rk (k0 + 1)) [(cI, .int)]) (hQ : QV γ [(cI, .int)] (WX cI h) u0) (rc : Int32 → Int32 → Int32 → Int32 → PS → Option (PS)) (hrc : ∀ (a1 a2 a3 a4 : Int32) (u : PS) (u1 : PS), rc a1 a2 a3 a4 u = some u1 → CtV (γl γ) y_X_explore b_X_explore 10 none (rk k0) (γD γ) [(cI, .int)] (WX cI h) [.ref (h 0), .int a1, .int a2, .int a3, .int a4] u u1) (k77 : Int32 → Int32 → Int32 → Int32 → Int32 → Int32 → Int32 → PS → Option (PS)) (hk77 : ∀ (x1 : Int32) (x2 : Int32) (x3 : Int32) (x4 : Int32) (x6 : Int32) (x7 : Int32) (x8 : Int32) (u : PS), k77 x1 x2 x3 x4 x6 x7 x8 u = some u0 → AtG γ (WX cI h) 10 0 0 77 [(0, .ref (h 0)), (1, .int x1), (2, .int x2), (3, .int x3), (4, .int x4), (6, .int x6), (7, .int x7), (8, .int x8)] [] u) (x1 : Int32) (x2 : Int32) (x3 : Int32) (x4 : Int32) (x6 : Int32) (x7 : Int32) (x8 : Int32) (u : PS) (hf : b_X_explore_77 rc k77 x1 x2 x3 x4 x6 x7 x8 u = some u0) : AtG γ (WX cI h) 10 0 0 77 [(0, .ref (h 0)), (1, .int x1), (2, .int x2), (3, .int x3), (4, .int x4), (6, .int x6), (7, .int x7), (8, .int x8)] [] u := by
  unfold b_X_explore_77 at hf
  refine x_iload C d_X_explore_77 (k := 7) rfl ?_
  refine x_iload C d_X_explore_79 (k := 6) rfl ?_
  refine x_icmp_ge (tgt := 167) C d_X_explore_81 (by decide) (fun hc => ?_) (fun hc => ?_)
  · rw [if_pos hc] at hf
    exact x_vret C hQ (Option.some.inj hf) d_X_explore_167
  · rw [if_neg hc] at hf
    refine x_iload_n C d_X_explore_84 rfl (k := 3) rfl ?_
    refine x_iload C d_X_explore_85 (k := 7) rfl ?_
    refine x_callIs (rest := []) C (c_X_holds x3 x8) kc_X_holds (rok (show 0 + 1 ≤ k0 + 1 by omega) (by decide)) mm_X_117 ms_X_holds rfl rfl (Nat.le_of_ble_eq_true rfl) d_X_explore_87 ?_
    refine x_if_eq (tgt := 161) C d_X_explore_90 (by decide) (fun hc => ?_) (fun hc => ?_)
    · rw [if_pos hc] at hf
      refine x_iinc (v := (x8 + (1 : Int32))) (lv' := [(8, .int (x8 + (1 : Int32))), (0, .ref (h 0)), (1, .int x1), (2, .int x2), (3, .int x3), (4, .int x4), (6, .int x6), (7, .int x7)]) C d_X_explore_161 (k := 7) rfl rfl (by decide) rfl ?_
      refine x_goto (tgt := 77) C d_X_explore_164 (by decide) ?_
      refine x_sub (lv' := [(0, .ref (h 0)), (1, .int x1), (2, .int x2), (3, .int x3), (4, .int x4), (6, .int x6), (7, .int x7), (8, .int (x8 + (1 : Int32)))]) [1, 2, 3, 4, 5, 6, 7, 0] rfl ?_
      exact hk77 x1 x2 x3 x4 x6 x7 (x8 + (1 : Int32)) u hf
    · rw [if_neg hc] at hf
      refine x_bipush (v := 15) C d_X_explore_93 (by decide) ?_
      refine x_iload C d_X_explore_95 (k := 5) rfl ?_
      refine x_ishl C d_X_explore_97 ?_
      refine x_iconst (v := 1) C d_X_explore_98 (by decide) ?_
      refine x_iload C d_X_explore_99 (k := 7) rfl ?_
      refine x_ishl C d_X_explore_101 ?_
      refine x_iconst (v := -1) C d_X_explore_102 (by decide) ?_
      refine x_ixor C d_X_explore_103 ?_
      refine x_iand C d_X_explore_104 ?_
      refine x_istore (lv' := [(9, .int (((15 : Int32) <<< (x6 &&& 31)) &&& (((1 : Int32) <<< (x8 &&& 31)) ^^^ (-1 : Int32)))), (0, .ref (h 0)), (1, .int x1), (2, .int x2), (3, .int x3), (4, .int x4), (6, .int x6), (7, .int x7), (8, .int x8)]) C d_X_explore_105 (by decide) rfl ?_
      refine x_aload_n C d_X_explore_107 rfl (k := 1) rfl ?_
      refine x_iload_n C d_X_explore_108 rfl (k := 2) rfl ?_
      refine x_aload_n C d_X_explore_109 rfl (k := 1) rfl ?_
      refine gX_X_catalog C mf_X_12 d_X_explore_110 ?_
      refine gX_C_wanted C mf_X_186 d_X_explore_113 ?_
      refine x_iload C d_X_explore_116 (k := 8) rfl ?_
      obtain ⟨hin, hf⟩ := ck_some hf
      refine aldX_5 (v := (u.2 1 x8.toNatClampNeg)) C hin rfl d_X_explore_118 ?_
      refine x_ior C d_X_explore_119 ?_
      refine x_iload_n C d_X_explore_120 rfl (k := 3) rfl ?_
      refine x_iconst (v := 1) C d_X_explore_121 (by decide) ?_
      refine x_iload C d_X_explore_122 (k := 6) rfl ?_
      refine x_ishl C d_X_explore_124 ?_
      refine x_ior C d_X_explore_125 ?_
      refine x_iload_n C d_X_explore_126 rfl (k := 4) rfl ?_
      refine x_iload C d_X_explore_127 (k := 0) rfl ?_
      refine x_aload_n C d_X_explore_129 rfl (k := 1) rfl ?_
      refine gX_X_catalog C mf_X_12 d_X_explore_130 ?_
      refine gX_C_unmet C mf_X_187 d_X_explore_133 ?_
      refine x_iload C d_X_explore_136 (k := 8) rfl ?_
      obtain ⟨hin, hf⟩ := ck_some hf
      refine aldX_6 (v := (u.2 2 x8.toNatClampNeg)) C hin rfl d_X_explore_138 ?_
      refine x_ior C d_X_explore_139 ?_
      refine x_aload_n C d_X_explore_140 rfl (k := 1) rfl ?_
      refine gX_X_catalog C mf_X_12 d_X_explore_141 ?_
      refine gX_C_banned C mf_X_188 d_X_explore_144 ?_
      refine x_iload C d_X_explore_147 (k := 8) rfl ?_
      obtain ⟨hin, hf⟩ := ck_some hf
      refine aldX_7 (v := (u.2 3 x8.toNatClampNeg)) C hin rfl d_X_explore_149 ?_
      refine x_ior C d_X_explore_150 ?_
      refine x_iconst (v := -1) C d_X_explore_151 (by decide) ?_
      refine x_ixor C d_X_explore_152 ?_
      refine x_iand C d_X_explore_153 ?_
      refine x_iload C d_X_explore_154 (k := 5) rfl ?_
      refine x_iconst (v := 1) C d_X_explore_156 (by decide) ?_
      refine x_iadd C d_X_explore_157 ?_
      obtain ⟨r5, hc5, hf⟩ := Option.bind_eq_some_iff.mp hf
      refine x_callVv (q0 := 0) (ci := 3) (rest := []) C (hrc (x1 ||| (u.2 1 x8.toNatClampNeg)) (x2 ||| ((1 : Int32) <<< (x6 &&& 31))) (x3 &&& ((((((15 : Int32) <<< (x6 &&& 31)) &&& (((1 : Int32) <<< (x8 &&& 31)) ^^^ (-1 : Int32))) ||| (u.2 2 x8.toNatClampNeg)) ||| (u.2 3 x8.toNatClampNeg)) ^^^ (-1 : Int32))) (x4 + (1 : Int32)) u r5 hc5) kc_X_explore (rok (by omega) (by decide)) mm_X_163 ms_X_explore ml_X_explore rfl rfl rfl rfl (Nat.le_of_ble_eq_true rfl) d_X_explore_158 ?_
      refine x_iinc (v := (x8 + (1 : Int32))) (lv' := [(8, .int (x8 + (1 : Int32))), (9, .int (((15 : Int32) <<< (x6 &&& 31)) &&& (((1 : Int32) <<< (x8 &&& 31)) ^^^ (-1 : Int32)))), (0, .ref (h 0)), (1, .int x1), (2, .int x2), (3, .int x3), (4, .int x4), (6, .int x6), (7, .int x7)]) C d_X_explore_161 (k := 8) rfl rfl (by decide) rfl ?_
      refine x_goto (tgt := 77) C d_X_explore_164 (by decide) ?_
      refine x_sub (lv' := [(0, .ref (h 0)), (1, .int x1), (2, .int x2), (3, .int x3), (4, .int x4), (6, .int x6), (7, .int x7), (8, .int (x8 + (1 : Int32)))]) [2, 3, 4, 5, 6, 7, 8, 0] rfl ?_
      exact hk77 x1 x2 x3 x4 x6 x7 (x8 + (1 : Int32)) r5 hf
def l_X_explore_77 (rc : Int32 → Int32 → Int32 → Int32 → PS → Option (PS)) : Nat → Int32 → Int32 → Int32 → Int32 → Int32 → Int32 → Int32 → PS → Option (PS)
  | 0 => fun _ _ _ _ _ _ _ _ => none
  | n + 1 => b_X_explore_77 rc (l_X_explore_77 rc n)
theorem wl_X_explore_77 {γ : CX} {cI : ClassId} {h : Nat → Nat} {u0 : PS} {k0 : Nat} (hk0 : 3 ≤ k0) (C : Cx γ b_X_explore 10 none "PackagePick" (rk (k0 + 1)) [(cI, .int)]) (hQ : QV γ [(cI, .int)] (WX cI h) u0) (rc : Int32 → Int32 → Int32 → Int32 → PS → Option (PS)) (hrc : ∀ (a1 a2 a3 a4 : Int32) (u : PS) (u1 : PS), rc a1 a2 a3 a4 u = some u1 → CtV (γl γ) y_X_explore b_X_explore 10 none (rk k0) (γD γ) [(cI, .int)] (WX cI h) [.ref (h 0), .int a1, .int a2, .int a3, .int a4] u u1) (n : Nat) : ∀ (x1 : Int32) (x2 : Int32) (x3 : Int32) (x4 : Int32) (x6 : Int32) (x7 : Int32) (x8 : Int32) (u : PS), l_X_explore_77 rc n x1 x2 x3 x4 x6 x7 x8 u = some u0 → AtG γ (WX cI h) 10 0 0 77 [(0, .ref (h 0)), (1, .int x1), (2, .int x2), (3, .int x3), (4, .int x4), (6, .int x6), (7, .int x7), (8, .int x8)] [] u := by
  induction n with
  | zero => intro x1 x2 x3 x4 x6 x7 x8 u hf; cases hf
  | succ n ih => intro x1 x2 x3 x4 x6 x7 x8 u hf; exact w_X_explore_77 hk0 C hQ rc hrc (l_X_explore_77 rc n) ih x1 x2 x3 x4 x6 x7 x8 u hf
def g_X_explore (rc : Int32 → Int32 → Int32 → Int32 → PS → Option (PS)) (a1 : Int32) (a2 : Int32) (a3 : Int32) (a4 : Int32) (u : PS) : Option (PS) :=
  if (7 : Int32) < a4 then
    some u
  else
    if (f_T_isFull u) = 0 then
      if (a1 &&& ((f_X_marksOf a3) ^^^ (-1 : Int32))) = 0 then
        if (a1 &&& (a2 ^^^ (-1 : Int32))) = 0 then
          some (f_T_enter (a3 &&& (a1 * (15 : Int32))) u)
        else
          l_X_explore_77 rc NF a1 a2 a3 a4 (f_X_lowestPlace (a1 &&& (a2 ^^^ (-1 : Int32)))) (jmin ((f_X_lowestPlace (a1 &&& (a2 ^^^ (-1 : Int32)))) + (4 : Int32)) (28 : Int32)) (f_X_lowestPlace (a1 &&& (a2 ^^^ (-1 : Int32)))) u
      else
        some u
    else
      some u
set_option maxRecDepth 100000 in
set_option maxHeartbeats 4000000 in
theorem w_X_explore {γ : CX} {cI : ClassId} {h : Nat → Nat} {u0 : PS} {k0 : Nat} (hk0 : 3 ≤ k0) (C : Cx γ b_X_explore 10 none "PackagePick" (rk (k0 + 1)) [(cI, .int)]) (hQ : QV γ [(cI, .int)] (WX cI h) u0) (rc : Int32 → Int32 → Int32 → Int32 → PS → Option (PS)) (hrc : ∀ (a1 a2 a3 a4 : Int32) (u : PS) (u1 : PS), rc a1 a2 a3 a4 u = some u1 → CtV (γl γ) y_X_explore b_X_explore 10 none (rk k0) (γD γ) [(cI, .int)] (WX cI h) [.ref (h 0), .int a1, .int a2, .int a3, .int a4] u u1) (a1 : Int32) (a2 : Int32) (a3 : Int32) (a4 : Int32) (u : PS) (hf : g_X_explore rc a1 a2 a3 a4 u = some u0) : AtG γ (WX cI h) 10 0 0 0 [(0, .ref (h 0)), (1, .int a1), (2, .int a2), (3, .int a3), (4, .int a4)] [] u := by
  unfold g_X_explore at hf
  refine x_iload C d_X_explore_0 (k := 4) rfl ?_
  refine x_bipush (v := 7) C d_X_explore_2 (by decide) ?_
  refine x_icmp_gt (tgt := 28) C d_X_explore_4 (by decide) (fun hc => ?_) (fun hc => ?_)
  · rw [if_pos hc] at hf
    exact x_vret C hQ (Option.some.inj hf) d_X_explore_28
  · rw [if_neg hc] at hf
    refine x_aload_n C d_X_explore_7 rfl (k := 0) rfl ?_
    refine gX_X_tally C mf_X_26 d_X_explore_8 ?_
    refine x_callIv (q0 := 3) (ci := 1) (rest := []) C (c_T_isFull u) kc_T_isFull (rok (show 0 + 1 ≤ k0 + 1 by omega) (by decide)) mm_X_167 ms_T_isFull ml_T_isFull rfl rfl rfl rfl (Nat.le_of_ble_eq_true rfl) d_X_explore_11 ?_
    refine x_if_ne (tgt := 28) C d_X_explore_14 (by decide) (fun hc => ?_) (fun hc => ?_)
    · rw [if_neg hc] at hf
      exact x_vret C hQ (Option.some.inj hf) d_X_explore_28
    · rw [if_pos hc] at hf
      refine x_iload_n C d_X_explore_17 rfl (k := 1) rfl ?_
      refine x_iload_n C d_X_explore_18 rfl (k := 3) rfl ?_
      refine x_callIs (rest := [.int a1]) C (c_X_marksOf a3) kc_X_marksOf (rok (show 0 + 1 ≤ k0 + 1 by omega) (by decide)) mm_X_171 ms_X_marksOf rfl rfl (Nat.le_of_ble_eq_true rfl) d_X_explore_19 ?_
      refine x_iconst (v := -1) C d_X_explore_22 (by decide) ?_
      refine x_ixor C d_X_explore_23 ?_
      refine x_iand C d_X_explore_24 ?_
      refine x_if_eq (tgt := 29) C d_X_explore_25 (by decide) (fun hc => ?_) (fun hc => ?_)
      · rw [if_pos hc] at hf
        refine x_iload_n C d_X_explore_29 rfl (k := 1) rfl ?_
        refine x_iload_n C d_X_explore_30 rfl (k := 2) rfl ?_
        refine x_iconst (v := -1) C d_X_explore_31 (by decide) ?_
        refine x_ixor C d_X_explore_32 ?_
        refine x_iand C d_X_explore_33 ?_
        refine x_istore (lv' := [(5, .int (a1 &&& (a2 ^^^ (-1 : Int32)))), (0, .ref (h 0)), (1, .int a1), (2, .int a2), (3, .int a3), (4, .int a4)]) C d_X_explore_34 (by decide) rfl ?_
        refine x_iload C d_X_explore_36 (k := 0) rfl ?_
        refine x_if_ne (tgt := 55) C d_X_explore_38 (by decide) (fun hc => ?_) (fun hc => ?_)
        · rw [if_neg hc] at hf
          refine x_iload C d_X_explore_55 (k := 0) rfl ?_
          refine x_callIs (rest := []) C (c_X_lowestPlace (a1 &&& (a2 ^^^ (-1 : Int32)))) kc_X_lowestPlace (rok (show 1 + 1 ≤ k0 + 1 by omega) (by decide)) mm_X_178 ms_X_lowestPlace rfl rfl (Nat.le_of_ble_eq_true rfl) d_X_explore_57 ?_
          refine x_istore (lv' := [(6, .int (f_X_lowestPlace (a1 &&& (a2 ^^^ (-1 : Int32))))), (5, .int (a1 &&& (a2 ^^^ (-1 : Int32)))), (0, .ref (h 0)), (1, .int a1), (2, .int a2), (3, .int a3), (4, .int a4)]) C d_X_explore_60 (by decide) rfl ?_
          refine x_iload C d_X_explore_62 (k := 0) rfl ?_
          refine x_iconst (v := 4) C d_X_explore_64 (by decide) ?_
          refine x_iadd C d_X_explore_65 ?_
          refine x_bipush (v := 28) C d_X_explore_66 (by decide) ?_
          refine x_mmin (rest := []) C mm_X_181 (rmin0 (show 1 ≤ k0 + 1 by omega)) d_X_explore_68 ?_
          refine x_istore (lv' := [(7, .int (jmin ((f_X_lowestPlace (a1 &&& (a2 ^^^ (-1 : Int32)))) + (4 : Int32)) (28 : Int32))), (6, .int (f_X_lowestPlace (a1 &&& (a2 ^^^ (-1 : Int32))))), (5, .int (a1 &&& (a2 ^^^ (-1 : Int32)))), (0, .ref (h 0)), (1, .int a1), (2, .int a2), (3, .int a3), (4, .int a4)]) C d_X_explore_71 (by decide) rfl ?_
          refine x_iload C d_X_explore_73 (k := 1) rfl ?_
          refine x_istore (lv' := [(8, .int (f_X_lowestPlace (a1 &&& (a2 ^^^ (-1 : Int32))))), (7, .int (jmin ((f_X_lowestPlace (a1 &&& (a2 ^^^ (-1 : Int32)))) + (4 : Int32)) (28 : Int32))), (6, .int (f_X_lowestPlace (a1 &&& (a2 ^^^ (-1 : Int32))))), (5, .int (a1 &&& (a2 ^^^ (-1 : Int32)))), (0, .ref (h 0)), (1, .int a1), (2, .int a2), (3, .int a3), (4, .int a4)]) C d_X_explore_75 (by decide) rfl ?_
          refine x_sub (lv' := [(0, .ref (h 0)), (1, .int a1), (2, .int a2), (3, .int a3), (4, .int a4), (6, .int (f_X_lowestPlace (a1 &&& (a2 ^^^ (-1 : Int32))))), (7, .int (jmin ((f_X_lowestPlace (a1 &&& (a2 ^^^ (-1 : Int32)))) + (4 : Int32)) (28 : Int32))), (8, .int (f_X_lowestPlace (a1 &&& (a2 ^^^ (-1 : Int32)))))]) [4, 5, 6, 7, 8, 2, 1, 0] rfl ?_
          exact wl_X_explore_77 hk0 C hQ rc hrc NF a1 a2 a3 a4 (f_X_lowestPlace (a1 &&& (a2 ^^^ (-1 : Int32)))) (jmin ((f_X_lowestPlace (a1 &&& (a2 ^^^ (-1 : Int32)))) + (4 : Int32)) (28 : Int32)) (f_X_lowestPlace (a1 &&& (a2 ^^^ (-1 : Int32)))) u hf
        · rw [if_pos hc] at hf
          refine x_aload_n C d_X_explore_41 rfl (k := 1) rfl ?_
          refine gX_X_tally C mf_X_26 d_X_explore_42 ?_
          refine x_iload_n C d_X_explore_45 rfl (k := 4) rfl ?_
          refine x_iload_n C d_X_explore_46 rfl (k := 2) rfl ?_
          refine x_bipush (v := 15) C d_X_explore_47 (by decide) ?_
          refine x_imul C d_X_explore_49 ?_
          refine x_iand C d_X_explore_50 ?_
          refine x_callVv (q0 := 3) (ci := 1) (rest := []) C (c_T_enter (a3 &&& (a1 * (15 : Int32))) u) kc_T_enter (rok (show 3 + 1 ≤ k0 + 1 by omega) (by decide)) mm_X_174 ms_T_enter ml_T_enter rfl rfl rfl rfl (Nat.le_of_ble_eq_true rfl) d_X_explore_51 ?_
          exact x_vret C hQ (Option.some.inj hf) d_X_explore_54
      · rw [if_neg hc] at hf
        exact x_vret C hQ (Option.some.inj hf) d_X_explore_28
def f_X_explore : Nat → Int32 → Int32 → Int32 → Int32 → PS → Option (PS)
  | 0 => fun _ _ _ _ _ => none
  | n + 1 => g_X_explore (f_X_explore n)
theorem c_X_explore {l : Launch} {D : va_G} {cI : ClassId} {h : Nat → Nat} : ∀ (n : Nat) (a1 : Int32) (a2 : Int32) (a3 : Int32) (a4 : Int32) (u : PS) {u0 : PS}, f_X_explore n a1 a2 a3 a4 u = some u0 → CtV l y_X_explore b_X_explore 10 none (rk (4 + n)) D [(cI, .int)] (WX cI h) [.ref (h 0), .int a1, .int a2, .int a3, .int a4] u u0
  | 0, _, _, _, _, _, _, hf => by cases hf
  | n + 1, a1, a2, a3, a4, u, _, hf => ct_ofV (by decide) (Nat.le_of_ble_eq_true rfl) (fun γ hl hD C hQ => w_X_explore (k0 := 4 + n) (by omega) C hQ (f_X_explore n) (fun z0 z1 z2 z3 u1 u2 h => by subst hl; subst hD; exact c_X_explore n z0 z1 z2 z3 u1 h) a1 a2 a3 a4 u hf)
-- ---- PackagePick.tallyChoices(III)V
def f_X_tallyChoices (a1 : Int32) (a2 : Int32) (a3 : Int32) (u : PS) : Option (PS) :=
  (f_W_union_8 a1 (f_T_begin a2 (u.1 1) a3 u)).bind fun r2 =>
  (f_W_union_9 a1 (f_T_begin a2 (u.1 1) a3 u)).bind fun r3 =>
  (f_X_explore 9 r2 (0 : Int32) (((f_T_begin a2 (u.1 1) a3 u).1 3) &&& (r3 ^^^ (-1 : Int32))) (0 : Int32) (f_T_begin a2 (u.1 1) a3 u)).bind fun r4 =>
  some r4
set_option maxRecDepth 100000 in
set_option maxHeartbeats 4000000 in
theorem w_X_tallyChoices {γ : CX} {cI : ClassId} {h : Nat → Nat} {u0 : PS} (C : Cx γ b_X_tallyChoices 6 none "PackagePick" (rk 14) [(cI, .int)]) (hQ : QV γ [(cI, .int)] (WX cI h) u0) (a1 : Int32) (a2 : Int32) (a3 : Int32) (u : PS) (hf : f_X_tallyChoices a1 a2 a3 u = some u0) : AtG γ (WX cI h) 6 0 0 0 [(0, .ref (h 0)), (1, .int a1), (2, .int a2), (3, .int a3)] [] u := by
  unfold f_X_tallyChoices at hf
  refine x_aload_n C d_X_tallyChoices_0 rfl (k := 0) rfl ?_
  refine gX_X_tally C mf_X_26 d_X_tallyChoices_1 ?_
  refine x_iload_n C d_X_tallyChoices_4 rfl (k := 2) rfl ?_
  refine x_aload_n C d_X_tallyChoices_5 rfl (k := 0) rfl ?_
  refine gX_X_kept (v := (u.1 1)) C mf_X_34 rfl d_X_tallyChoices_6 ?_
  refine x_iload_n C d_X_tallyChoices_9 rfl (k := 3) rfl ?_
  refine x_callVv (q0 := 3) (ci := 1) (rest := []) C (c_T_begin a2 (u.1 1) a3 u) kc_T_begin (rok (by decide) (by decide)) mm_X_149 ms_T_begin ml_T_begin rfl rfl rfl rfl (Nat.le_of_ble_eq_true rfl) d_X_tallyChoices_10 ?_
  refine x_aload_n C d_X_tallyChoices_13 rfl (k := 0) rfl ?_
  refine gX_X_wishes C mf_X_19 d_X_tallyChoices_14 ?_
  refine x_aload_n C d_X_tallyChoices_17 rfl (k := 0) rfl ?_
  refine gX_X_wishes C mf_X_19 d_X_tallyChoices_18 ?_
  refine gX_W_wanted C mf_X_152 d_X_tallyChoices_21 ?_
  refine x_iload_n C d_X_tallyChoices_24 rfl (k := 1) rfl ?_
  obtain ⟨r2, hc2, hf⟩ := Option.bind_eq_some_iff.mp hf
  refine x_callIv (q0 := 2) (ci := 2) (rest := []) C (c_W_union_8 a1 (f_T_begin a2 (u.1 1) a3 u) hc2) kc_W_union (rok (by decide) (by decide)) mm_X_156 ms_W_union ml_W_union rfl rfl rfl rfl (Nat.le_of_ble_eq_true rfl) d_X_tallyChoices_25 ?_
  refine x_istore (lv' := [(4, .int r2), (0, .ref (h 0)), (1, .int a1), (2, .int a2), (3, .int a3)]) C d_X_tallyChoices_28 (by decide) rfl ?_
  refine x_aload_n C d_X_tallyChoices_30 rfl (k := 1) rfl ?_
  refine gX_X_wishes C mf_X_19 d_X_tallyChoices_31 ?_
  refine x_aload_n C d_X_tallyChoices_34 rfl (k := 1) rfl ?_
  refine gX_X_wishes C mf_X_19 d_X_tallyChoices_35 ?_
  refine gX_W_unmet C mf_X_160 d_X_tallyChoices_38 ?_
  refine x_iload_n C d_X_tallyChoices_41 rfl (k := 2) rfl ?_
  obtain ⟨r3, hc3, hf⟩ := Option.bind_eq_some_iff.mp hf
  refine x_callIv (q0 := 2) (ci := 2) (rest := []) C (c_W_union_9 a1 (f_T_begin a2 (u.1 1) a3 u) hc3) kc_W_union (rok (by decide) (by decide)) mm_X_156 ms_W_union ml_W_union rfl rfl rfl rfl (Nat.le_of_ble_eq_true rfl) d_X_tallyChoices_42 ?_
  refine x_istore (lv' := [(5, .int r3), (4, .int r2), (0, .ref (h 0)), (1, .int a1), (2, .int a2), (3, .int a3)]) C d_X_tallyChoices_45 (by decide) rfl ?_
  refine x_aload_n C d_X_tallyChoices_47 rfl (k := 2) rfl ?_
  refine x_iload C d_X_tallyChoices_48 (k := 1) rfl ?_
  refine x_iconst (v := 0) C d_X_tallyChoices_50 (by decide) ?_
  refine x_aload_n C d_X_tallyChoices_51 rfl (k := 2) rfl ?_
  refine gX_X_catalog C mf_X_12 d_X_tallyChoices_52 ?_
  refine gX_C_there (v := ((f_T_begin a2 (u.1 1) a3 u).1 3)) C mf_X_137 rfl d_X_tallyChoices_55 ?_
  refine x_iload C d_X_tallyChoices_58 (k := 0) rfl ?_
  refine x_iconst (v := -1) C d_X_tallyChoices_60 (by decide) ?_
  refine x_ixor C d_X_tallyChoices_61 ?_
  refine x_iand C d_X_tallyChoices_62 ?_
  refine x_iconst (v := 0) C d_X_tallyChoices_63 (by decide) ?_
  obtain ⟨r4, hc4, hf⟩ := Option.bind_eq_some_iff.mp hf
  refine x_callVv (q0 := 0) (ci := 3) (rest := []) C (c_X_explore 9 r2 (0 : Int32) (((f_T_begin a2 (u.1 1) a3 u).1 3) &&& (r3 ^^^ (-1 : Int32))) (0 : Int32) (f_T_begin a2 (u.1 1) a3 u) hc4) kc_X_explore (rok (by decide) (by decide)) mm_X_163 ms_X_explore ml_X_explore rfl rfl rfl rfl (Nat.le_of_ble_eq_true rfl) d_X_tallyChoices_64 ?_
  exact x_vret C hQ (Option.some.inj hf) d_X_tallyChoices_67
theorem c_X_tallyChoices {l : Launch} {D : va_G} {cI : ClassId} {h : Nat → Nat} (a1 : Int32) (a2 : Int32) (a3 : Int32) (u : PS) {u0 : PS} (hf : f_X_tallyChoices a1 a2 a3 u = some u0) : CtV l y_X_tallyChoices b_X_tallyChoices 6 none (rk 14) D [(cI, .int)] (WX cI h) [.ref (h 0), .int a1, .int a2, .int a3] u u0 := ct_ofV (by decide) (Nat.le_of_ble_eq_true rfl) (fun γ _ _ C hQ => w_X_tallyChoices C hQ a1 a2 a3 u hf)
-- ---- PackagePick.many()I
def f_X_many (u : PS) : Option (Int32 × PS) :=
  (f_W_all u).bind fun r1 =>
  (f_X_tallyChoices r1 (0 : Int32) (1000000 : Int32) u).bind fun r2 =>
  some ((r2.1 9), r2)
set_option maxRecDepth 100000 in
set_option maxHeartbeats 4000000 in
theorem w_X_many {γ : CX} {cI : ClassId} {h : Nat → Nat} {r0 : Int32} {u0 : PS} (C : Cx γ b_X_many 1 (some .int) "PackagePick" (rk 15) [(cI, .int)]) (hQ : QI γ [(cI, .int)] (WX cI h) r0 u0) (u : PS) (hf : f_X_many u = some (r0, u0)) : AtG γ (WX cI h) 1 0 0 0 [(0, .ref (h 0))] [] u := by
  unfold f_X_many at hf
  refine x_aload_n C d_X_many_0 rfl (k := 0) rfl ?_
  refine x_aload_n C d_X_many_1 rfl (k := 0) rfl ?_
  refine gX_X_wishes C mf_X_19 d_X_many_2 ?_
  obtain ⟨r1, hc1, hf⟩ := Option.bind_eq_some_iff.mp hf
  refine x_callIv (q0 := 2) (ci := 2) (rest := [.ref (h 0)]) C (c_W_all u hc1) kc_W_all (rok (by decide) (by decide)) mm_X_83 ms_W_all ml_W_all rfl rfl rfl rfl (Nat.le_of_ble_eq_true rfl) d_X_many_5 ?_
  refine x_iconst (v := 0) C d_X_many_8 (by decide) ?_
  refine x_ldc (v := 1000000) C mk_X_87 d_X_many_9 ?_
  obtain ⟨r2, hc2, hf⟩ := Option.bind_eq_some_iff.mp hf
  refine x_callVv (q0 := 0) (ci := 3) (rest := []) C (c_X_tallyChoices r1 (0 : Int32) (1000000 : Int32) u hc2) kc_X_tallyChoices (rok (by decide) (by decide)) mm_X_88 ms_X_tallyChoices ml_X_tallyChoices rfl rfl rfl rfl (Nat.le_of_ble_eq_true rfl) d_X_many_11 ?_
  refine x_aload_n C d_X_many_14 rfl (k := 0) rfl ?_
  refine gX_X_tally C mf_X_26 d_X_many_15 ?_
  refine gX_T_found (v := (r2.1 9)) C mf_X_92 rfl d_X_many_18 ?_
  exact x_iret C hQ (Prod.mk.inj (Option.some.inj hf)).1 (Prod.mk.inj (Option.some.inj hf)).2 d_X_many_21
theorem c_X_many {l : Launch} {D : va_G} {cI : ClassId} {h : Nat → Nat} (u : PS) {r0 : Int32 × PS} (hf : f_X_many u = some r0) : CtI l y_X_many b_X_many 1 (some .int) (rk 15) D [(cI, .int)] (WX cI h) [.ref (h 0)] u r0.1 r0.2 := ct_ofI (by decide) (Nat.le_of_ble_eq_true rfl) (fun γ _ _ C hQ => w_X_many C hQ u hf)
-- ---- PackagePick.can(I)I
def f_X_can (a1 : Int32) (u : PS) : Option (Int32 × PS) :=
  if (f_X_isPackage a1) = 0 then
    some ((-1 : Int32), u)
  else
    (f_W_all u).bind fun r2 =>
    (f_X_tallyChoices r2 (0 : Int32) (1000000 : Int32) u).bind fun r3 =>
    if ((r3.1 11) &&& (f_X_markOf a1)) = 0 then
      some ((((r3.1 10) >>> ((f_X_placeOf a1) &&& 31)) &&& (15 : Int32)), r3)
    else
      some (((((r3.1 10) >>> ((f_X_placeOf a1) &&& 31)) &&& (15 : Int32)) ||| (16 : Int32)), r3)
set_option maxRecDepth 100000 in
set_option maxHeartbeats 4000000 in
theorem w_X_can {γ : CX} {cI : ClassId} {h : Nat → Nat} {r0 : Int32} {u0 : PS} (C : Cx γ b_X_can 3 (some .int) "PackagePick" (rk 15) [(cI, .int)]) (hQ : QI γ [(cI, .int)] (WX cI h) r0 u0) (a1 : Int32) (u : PS) (hf : f_X_can a1 u = some (r0, u0)) : AtG γ (WX cI h) 3 0 0 0 [(0, .ref (h 0)), (1, .int a1)] [] u := by
  unfold f_X_can at hf
  refine x_iload_n C d_X_can_0 rfl (k := 1) rfl ?_
  refine x_callIs (rest := []) C (c_X_isPackage a1) kc_X_isPackage (rok (by decide) (by decide)) mm_X_114 ms_X_isPackage rfl rfl (Nat.le_of_ble_eq_true rfl) d_X_can_1 ?_
  refine x_if_ne (tgt := 9) C d_X_can_4 (by decide) (fun hc => ?_) (fun hc => ?_)
  · rw [if_neg hc] at hf
    refine x_aload_n C d_X_can_9 rfl (k := 0) rfl ?_
    refine x_aload_n C d_X_can_10 rfl (k := 0) rfl ?_
    refine gX_X_wishes C mf_X_19 d_X_can_11 ?_
    obtain ⟨r2, hc2, hf⟩ := Option.bind_eq_some_iff.mp hf
    refine x_callIv (q0 := 2) (ci := 2) (rest := [.ref (h 0)]) C (c_W_all u hc2) kc_W_all (rok (by decide) (by decide)) mm_X_83 ms_W_all ml_W_all rfl rfl rfl rfl (Nat.le_of_ble_eq_true rfl) d_X_can_14 ?_
    refine x_iconst (v := 0) C d_X_can_17 (by decide) ?_
    refine x_ldc (v := 1000000) C mk_X_87 d_X_can_18 ?_
    obtain ⟨r3, hc3, hf⟩ := Option.bind_eq_some_iff.mp hf
    refine x_callVv (q0 := 0) (ci := 3) (rest := []) C (c_X_tallyChoices r2 (0 : Int32) (1000000 : Int32) u hc3) kc_X_tallyChoices (rok (by decide) (by decide)) mm_X_88 ms_X_tallyChoices ml_X_tallyChoices rfl rfl rfl rfl (Nat.le_of_ble_eq_true rfl) d_X_can_20 ?_
    refine x_aload_n C d_X_can_23 rfl (k := 0) rfl ?_
    refine gX_X_tally C mf_X_26 d_X_can_24 ?_
    refine gX_T_seen (v := (r3.1 10)) C mf_X_120 rfl d_X_can_27 ?_
    refine x_iload_n C d_X_can_30 rfl (k := 1) rfl ?_
    refine x_callIs (rest := [.int (r3.1 10)]) C (c_X_placeOf a1) kc_X_placeOf (rok (by decide) (by decide)) mm_X_123 ms_X_placeOf rfl rfl (Nat.le_of_ble_eq_true rfl) d_X_can_31 ?_
    refine x_ishr C d_X_can_34 ?_
    refine x_bipush (v := 15) C d_X_can_35 (by decide) ?_
    refine x_iand C d_X_can_37 ?_
    refine x_istore_n (lv' := [(2, .int (((r3.1 10) >>> ((f_X_placeOf a1) &&& 31)) &&& (15 : Int32))), (0, .ref (h 0)), (1, .int a1)]) C d_X_can_38 rfl (by decide) rfl ?_
    refine x_aload_n C d_X_can_39 rfl (k := 1) rfl ?_
    refine gX_X_tally C mf_X_26 d_X_can_40 ?_
    refine gX_T_absent (v := (r3.1 11)) C mf_X_126 rfl d_X_can_43 ?_
    refine x_iload_n C d_X_can_46 rfl (k := 2) rfl ?_
    refine x_callIs (rest := [.int (r3.1 11)]) C (c_X_markOf a1) kc_X_markOf (rok (by decide) (by decide)) mm_X_56 ms_X_markOf rfl rfl (Nat.le_of_ble_eq_true rfl) d_X_can_47 ?_
    refine x_iand C d_X_can_50 ?_
    refine x_if_ne (tgt := 58) C d_X_can_51 (by decide) (fun hc => ?_) (fun hc => ?_)
    · rw [if_neg hc] at hf
      refine x_iload_n C d_X_can_58 rfl (k := 0) rfl ?_
      refine x_bipush (v := 16) C d_X_can_59 (by decide) ?_
      refine x_ior C d_X_can_61 ?_
      exact x_iret C hQ (Prod.mk.inj (Option.some.inj hf)).1 (Prod.mk.inj (Option.some.inj hf)).2 d_X_can_62
    · rw [if_pos hc] at hf
      refine x_iload_n C d_X_can_54 rfl (k := 0) rfl ?_
      refine x_goto (tgt := 62) C d_X_can_55 (by decide) ?_
      exact x_iret C hQ (Prod.mk.inj (Option.some.inj hf)).1 (Prod.mk.inj (Option.some.inj hf)).2 d_X_can_62
  · rw [if_pos hc] at hf
    refine x_iconst (v := -1) C d_X_can_7 (by decide) ?_
    exact x_iret C hQ (Prod.mk.inj (Option.some.inj hf)).1 (Prod.mk.inj (Option.some.inj hf)).2 d_X_can_8
theorem c_X_can {l : Launch} {D : va_G} {cI : ClassId} {h : Nat → Nat} (a1 : Int32) (u : PS) {r0 : Int32 × PS} (hf : f_X_can a1 u = some r0) : CtI l y_X_can b_X_can 3 (some .int) (rk 15) D [(cI, .int)] (WX cI h) [.ref (h 0), .int a1] u r0.1 r0.2 := ct_ofI (by decide) (Nat.le_of_ble_eq_true rfl) (fun γ _ _ C hQ => w_X_can C hQ a1 u hf)
-- ---- PackagePick.count(I)I
def f_X_count (a1 : Int32) (u : PS) : Option (Int32) :=
  if a1 = (0 : Int32) then
    some (f_J_bitCount (u.1 3))
  else
  if a1 = (1 : Int32) then
    (f_C_allNeeds u).bind fun r2 =>
    some r2
  else
  if a1 = (2 : Int32) then
    some (u.1 4)
  else
  if a1 = (3 : Int32) then
    some (u.1 5)
  else
  if a1 = (4 : Int32) then
    some (f_J_bitCount (u.1 0))
  else
  if a1 = (5 : Int32) then
    some (f_J_bitCount (u.1 1))
  else
  if a1 = (6 : Int32) then
    some (f_X_differing (u.1 0) (u.1 1))
  else
  some (-1 : Int32)
set_option maxRecDepth 100000 in
set_option maxHeartbeats 4000000 in
theorem w_X_count {γ : CX} {cI : ClassId} {h : Nat → Nat} {u : PS} {r0 : Int32} (C : Cx γ b_X_count 2 (some .int) "PackagePick" (rk 2) [(cI, .int)]) (hQ : QI γ [(cI, .int)] (WX cI h) r0 u) (a1 : Int32) (hf : f_X_count a1 u = some r0) : AtG γ (WX cI h) 2 0 0 0 [(0, .ref (h 0)), (1, .int a1)] [] u := by
  unfold f_X_count at hf
  refine x_iload_n C d_X_count_0 rfl (k := 1) rfl ?_
  by_cases hc0 : a1 = (0 : Int32)
  · rw [if_pos hc0] at hf
    refine x_tsw (tgt := 44) C d_X_count_1 hc0 rfl (by decide) ?_
    refine x_aload_n C d_X_count_44 rfl (k := 0) rfl ?_
    refine gX_X_catalog C mf_X_12 d_X_count_45 ?_
    refine gX_C_there (v := (u.1 3)) C mf_X_137 rfl d_X_count_48 ?_
    refine x_callIs (rest := []) C (c_J_bitCount (u.1 3)) kc_J_bitCount (rok (by decide) (by decide)) mm_X_106 ms_J_bitCount rfl rfl (Nat.le_of_ble_eq_true rfl) d_X_count_51 ?_
    exact x_iret C hQ (Option.some.inj hf) rfl d_X_count_54
  rw [if_neg hc0] at hf
  by_cases hc1 : a1 = (1 : Int32)
  · rw [if_pos hc1] at hf
    refine x_tsw (tgt := 55) C d_X_count_1 hc1 rfl (by decide) ?_
    refine x_aload_n C d_X_count_55 rfl (k := 0) rfl ?_
    refine gX_X_catalog C mf_X_12 d_X_count_56 ?_
    obtain ⟨r2, hc2, hf⟩ := Option.bind_eq_some_iff.mp hf
    refine x_callIv (q0 := 1) (ci := 0) (rest := []) C (c_C_allNeeds u hc2) kc_C_allNeeds (rok (by decide) (by decide)) mm_X_140 ms_C_allNeeds ml_C_allNeeds rfl rfl rfl rfl (Nat.le_of_ble_eq_true rfl) d_X_count_59 ?_
    exact x_iret C hQ (Option.some.inj hf) rfl d_X_count_62
  rw [if_neg hc1] at hf
  by_cases hc2 : a1 = (2 : Int32)
  · rw [if_pos hc2] at hf
    refine x_tsw (tgt := 63) C d_X_count_1 hc2 rfl (by decide) ?_
    refine x_aload_n C d_X_count_63 rfl (k := 0) rfl ?_
    refine gX_X_catalog C mf_X_12 d_X_count_64 ?_
    refine gX_C_bans (v := (u.1 4)) C mf_X_143 rfl d_X_count_67 ?_
    exact x_iret C hQ (Option.some.inj hf) rfl d_X_count_70
  rw [if_neg hc2] at hf
  by_cases hc3 : a1 = (3 : Int32)
  · rw [if_pos hc3] at hf
    refine x_tsw (tgt := 71) C d_X_count_1 hc3 rfl (by decide) ?_
    refine x_aload_n C d_X_count_71 rfl (k := 0) rfl ?_
    refine gX_X_wishes C mf_X_19 d_X_count_72 ?_
    refine gX_W_size (v := (u.1 5)) C mf_X_146 rfl d_X_count_75 ?_
    exact x_iret C hQ (Option.some.inj hf) rfl d_X_count_78
  rw [if_neg hc3] at hf
  by_cases hc4 : a1 = (4 : Int32)
  · rw [if_pos hc4] at hf
    refine x_tsw (tgt := 79) C d_X_count_1 hc4 rfl (by decide) ?_
    refine x_aload_n C d_X_count_79 rfl (k := 0) rfl ?_
    refine gX_X_told (v := (u.1 0)) C mf_X_30 rfl d_X_count_80 ?_
    refine x_callIs (rest := []) C (c_J_bitCount (u.1 0)) kc_J_bitCount (rok (by decide) (by decide)) mm_X_106 ms_J_bitCount rfl rfl (Nat.le_of_ble_eq_true rfl) d_X_count_83 ?_
    exact x_iret C hQ (Option.some.inj hf) rfl d_X_count_86
  rw [if_neg hc4] at hf
  by_cases hc5 : a1 = (5 : Int32)
  · rw [if_pos hc5] at hf
    refine x_tsw (tgt := 87) C d_X_count_1 hc5 rfl (by decide) ?_
    refine x_aload_n C d_X_count_87 rfl (k := 0) rfl ?_
    refine gX_X_kept (v := (u.1 1)) C mf_X_34 rfl d_X_count_88 ?_
    refine x_callIs (rest := []) C (c_J_bitCount (u.1 1)) kc_J_bitCount (rok (by decide) (by decide)) mm_X_106 ms_J_bitCount rfl rfl (Nat.le_of_ble_eq_true rfl) d_X_count_91 ?_
    exact x_iret C hQ (Option.some.inj hf) rfl d_X_count_94
  rw [if_neg hc5] at hf
  by_cases hc6 : a1 = (6 : Int32)
  · rw [if_pos hc6] at hf
    refine x_tsw (tgt := 95) C d_X_count_1 hc6 rfl (by decide) ?_
    refine x_aload_n C d_X_count_95 rfl (k := 0) rfl ?_
    refine gX_X_told (v := (u.1 0)) C mf_X_30 rfl d_X_count_96 ?_
    refine x_aload_n C d_X_count_99 rfl (k := 0) rfl ?_
    refine gX_X_kept (v := (u.1 1)) C mf_X_34 rfl d_X_count_100 ?_
    refine x_callIs (rest := []) C (c_X_differing (u.1 0) (u.1 1)) kc_X_differing (rok (by decide) (by decide)) mm_X_111 ms_X_differing rfl rfl (Nat.le_of_ble_eq_true rfl) d_X_count_103 ?_
    exact x_iret C hQ (Option.some.inj hf) rfl d_X_count_106
  rw [if_neg hc6] at hf
  refine x_tswo (tgt := 107) C d_X_count_1 (sw_out_0_6 hc0 hc1 hc2 hc3 hc4 hc5 hc6) (by decide) ?_
  refine x_iconst (v := -1) C d_X_count_107 (by decide) ?_
  exact x_iret C hQ (Option.some.inj hf) rfl d_X_count_108
theorem c_X_count {l : Launch} {D : va_G} {cI : ClassId} {h : Nat → Nat} (a1 : Int32) (u : PS) {r0 : Int32} (hf : f_X_count a1 u = some r0) : CtI l y_X_count b_X_count 2 (some .int) (rk 2) D [(cI, .int)] (WX cI h) [.ref (h 0), .int a1] u r0 u := ct_ofI (by decide) (Nat.le_of_ble_eq_true rfl) (fun γ _ _ C hQ => w_X_count C hQ a1 hf)
-- ---- PackagePick.hasChoice(I)Z
def f_X_hasChoice (a1 : Int32) (u : PS) : Option (Int32 × PS) :=
  (f_X_tallyChoices a1 (0 : Int32) (1 : Int32) u).bind fun r1 =>
  if (r1.1 9) ≤ 0 then
    some ((0 : Int32), r1)
  else
    some ((1 : Int32), r1)
set_option maxRecDepth 100000 in
set_option maxHeartbeats 4000000 in
theorem w_X_hasChoice {γ : CX} {cI : ClassId} {h : Nat → Nat} {r0 : Int32} {u0 : PS} (C : Cx γ b_X_hasChoice 2 (some .boolean) "PackagePick" (rk 15) [(cI, .int)]) (hQ : QI γ [(cI, .int)] (WX cI h) r0 u0) (a1 : Int32) (u : PS) (hf : f_X_hasChoice a1 u = some (r0, u0)) : AtG γ (WX cI h) 2 0 0 0 [(0, .ref (h 0)), (1, .int a1)] [] u := by
  unfold f_X_hasChoice at hf
  refine x_aload_n C d_X_hasChoice_0 rfl (k := 0) rfl ?_
  refine x_iload_n C d_X_hasChoice_1 rfl (k := 1) rfl ?_
  refine x_iconst (v := 0) C d_X_hasChoice_2 (by decide) ?_
  refine x_iconst (v := 1) C d_X_hasChoice_3 (by decide) ?_
  obtain ⟨r1, hc1, hf⟩ := Option.bind_eq_some_iff.mp hf
  refine x_callVv (q0 := 0) (ci := 3) (rest := []) C (c_X_tallyChoices a1 (0 : Int32) (1 : Int32) u hc1) kc_X_tallyChoices (rok (by decide) (by decide)) mm_X_88 ms_X_tallyChoices ml_X_tallyChoices rfl rfl rfl rfl (Nat.le_of_ble_eq_true rfl) d_X_hasChoice_4 ?_
  refine x_aload_n C d_X_hasChoice_7 rfl (k := 0) rfl ?_
  refine gX_X_tally C mf_X_26 d_X_hasChoice_8 ?_
  refine gX_T_found (v := (r1.1 9)) C mf_X_92 rfl d_X_hasChoice_11 ?_
  refine x_if_le (tgt := 21) C d_X_hasChoice_14 (by decide) (fun hc => ?_) (fun hc => ?_)
  · rw [if_pos hc] at hf
    refine x_iconst (v := 0) C d_X_hasChoice_21 (by decide) ?_
    exact x_zret C hQ rfl (Prod.mk.inj (Option.some.inj hf)).1 (Prod.mk.inj (Option.some.inj hf)).2 d_X_hasChoice_22
  · rw [if_neg hc] at hf
    refine x_iconst (v := 1) C d_X_hasChoice_17 (by decide) ?_
    refine x_goto (tgt := 22) C d_X_hasChoice_18 (by decide) ?_
    exact x_zret C hQ rfl (Prod.mk.inj (Option.some.inj hf)).1 (Prod.mk.inj (Option.some.inj hf)).2 d_X_hasChoice_22
theorem c_X_hasChoice {l : Launch} {D : va_G} {cI : ClassId} {h : Nat → Nat} (a1 : Int32) (u : PS) {r0 : Int32 × PS} (hf : f_X_hasChoice a1 u = some r0) : CtI l y_X_hasChoice b_X_hasChoice 2 (some .boolean) (rk 15) D [(cI, .int)] (WX cI h) [.ref (h 0), .int a1] u r0.1 r0.2 := ct_ofI (by decide) (Nat.le_of_ble_eq_true rfl) (fun γ _ _ C hQ => w_X_hasChoice C hQ a1 u hf)
-- ---- PackagePick.fewestHindering()I
def b_X_fewestHindering_18 (k10 : Int32 → Int32 → PS → Option (Int32 × PS)) (k18 : Int32 → Int32 → Int32 → PS → Option (Int32 × PS)) (x1 : Int32) (x2 : Int32) (x3 : Int32) (u : PS) : Option (Int32 × PS) :=
  if x3 ≤ 0 then
    k10 x1 (x2 + (1 : Int32)) u
  else
    if (x3 &&& (x1 ^^^ (-1 : Int32))) = 0 then
      if (f_J_bitCount x3) = x2 then
        (f_X_hasChoice x3 u).bind fun r3 =>
        if r3.1 = 0 then
          some (x3, r3.2)
        else
          k18 x1 x2 (x3 + (-1 : Int32)) r3.2
      else
        k18 x1 x2 (x3 + (-1 : Int32)) u
    else
      k18 x1 x2 (x3 + (-1 : Int32)) u
set_option maxRecDepth 100000 in
set_option maxHeartbeats 4000000 in
theorem w_X_fewestHindering_18 {γ : CX} {cI : ClassId} {h : Nat → Nat} {r0 : Int32} {u0 : PS} (C : Cx γ b_X_fewestHindering 4 (some .int) "PackagePick" (rk 16) [(cI, .int)]) (hQ : QI γ [(cI, .int)] (WX cI h) r0 u0) (k10 : Int32 → Int32 → PS → Option (Int32 × PS)) (k18 : Int32 → Int32 → Int32 → PS → Option (Int32 × PS)) (hk10 : ∀ (x1 : Int32) (x2 : Int32) (u : PS), k10 x1 x2 u = some (r0, u0) → AtG γ (WX cI h) 4 0 0 10 [(0, .ref (h 0)), (1, .int x1), (2, .int x2)] [] u) (hk18 : ∀ (x1 : Int32) (x2 : Int32) (x3 : Int32) (u : PS), k18 x1 x2 x3 u = some (r0, u0) → AtG γ (WX cI h) 4 0 0 18 [(0, .ref (h 0)), (1, .int x1), (2, .int x2), (3, .int x3)] [] u) (x1 : Int32) (x2 : Int32) (x3 : Int32) (u : PS) (hf : b_X_fewestHindering_18 k10 k18 x1 x2 x3 u = some (r0, u0)) : AtG γ (WX cI h) 4 0 0 18 [(0, .ref (h 0)), (1, .int x1), (2, .int x2), (3, .int x3)] [] u := by
  unfold b_X_fewestHindering_18 at hf
  refine x_iload_n C d_X_fewestHindering_18 rfl (k := 3) rfl ?_
  refine x_if_le (tgt := 54) C d_X_fewestHindering_19 (by decide) (fun hc => ?_) (fun hc => ?_)
  · rw [if_pos hc] at hf
    refine x_iinc (v := (x2 + (1 : Int32))) (lv' := [(2, .int (x2 + (1 : Int32))), (0, .ref (h 0)), (1, .int x1), (3, .int x3)]) C d_X_fewestHindering_54 (k := 2) rfl rfl (by decide) rfl ?_
    refine x_goto (tgt := 10) C d_X_fewestHindering_57 (by decide) ?_
    refine x_sub (lv' := [(0, .ref (h 0)), (1, .int x1), (2, .int (x2 + (1 : Int32)))]) [1, 2, 0] rfl ?_
    exact hk10 x1 (x2 + (1 : Int32)) u hf
  · rw [if_neg hc] at hf
    refine x_iload_n C d_X_fewestHindering_22 rfl (k := 3) rfl ?_
    refine x_iload_n C d_X_fewestHindering_23 rfl (k := 1) rfl ?_
    refine x_iconst (v := -1) C d_X_fewestHindering_24 (by decide) ?_
    refine x_ixor C d_X_fewestHindering_25 ?_
    refine x_iand C d_X_fewestHindering_26 ?_
    refine x_if_ne (tgt := 48) C d_X_fewestHindering_27 (by decide) (fun hc => ?_) (fun hc => ?_)
    · rw [if_neg hc] at hf
      refine x_iinc (v := (x3 + (-1 : Int32))) (lv' := [(3, .int (x3 + (-1 : Int32))), (0, .ref (h 0)), (1, .int x1), (2, .int x2)]) C d_X_fewestHindering_48 (k := 3) rfl rfl (by decide) rfl ?_
      refine x_goto (tgt := 18) C d_X_fewestHindering_51 (by decide) ?_
      refine x_sub (lv' := [(0, .ref (h 0)), (1, .int x1), (2, .int x2), (3, .int (x3 + (-1 : Int32)))]) [1, 2, 3, 0] rfl ?_
      exact hk18 x1 x2 (x3 + (-1 : Int32)) u hf
    · rw [if_pos hc] at hf
      refine x_iload_n C d_X_fewestHindering_30 rfl (k := 3) rfl ?_
      refine x_callIs (rest := []) C (c_J_bitCount x3) kc_J_bitCount (rok (by decide) (by decide)) mm_X_106 ms_J_bitCount rfl rfl (Nat.le_of_ble_eq_true rfl) d_X_fewestHindering_31 ?_
      refine x_iload_n C d_X_fewestHindering_34 rfl (k := 2) rfl ?_
      refine x_icmp_ne (tgt := 48) C d_X_fewestHindering_35 (by decide) (fun hc => ?_) (fun hc => ?_)
      · rw [if_neg hc] at hf
        refine x_iinc (v := (x3 + (-1 : Int32))) (lv' := [(3, .int (x3 + (-1 : Int32))), (0, .ref (h 0)), (1, .int x1), (2, .int x2)]) C d_X_fewestHindering_48 (k := 3) rfl rfl (by decide) rfl ?_
        refine x_goto (tgt := 18) C d_X_fewestHindering_51 (by decide) ?_
        refine x_sub (lv' := [(0, .ref (h 0)), (1, .int x1), (2, .int x2), (3, .int (x3 + (-1 : Int32)))]) [1, 2, 3, 0] rfl ?_
        exact hk18 x1 x2 (x3 + (-1 : Int32)) u hf
      · rw [if_pos hc] at hf
        refine x_aload_n C d_X_fewestHindering_38 rfl (k := 0) rfl ?_
        refine x_iload_n C d_X_fewestHindering_39 rfl (k := 3) rfl ?_
        obtain ⟨r3, hc3, hf⟩ := Option.bind_eq_some_iff.mp hf
        refine x_callIv (q0 := 0) (ci := 3) (rest := []) C (c_X_hasChoice x3 u hc3) kc_X_hasChoice (rok (by decide) (by decide)) mm_X_191 ms_X_hasChoice ml_X_hasChoice rfl rfl rfl rfl (Nat.le_of_ble_eq_true rfl) d_X_fewestHindering_40 ?_
        refine x_if_ne (tgt := 48) C d_X_fewestHindering_43 (by decide) (fun hc => ?_) (fun hc => ?_)
        · rw [if_neg hc] at hf
          refine x_iinc (v := (x3 + (-1 : Int32))) (lv' := [(3, .int (x3 + (-1 : Int32))), (0, .ref (h 0)), (1, .int x1), (2, .int x2)]) C d_X_fewestHindering_48 (k := 3) rfl rfl (by decide) rfl ?_
          refine x_goto (tgt := 18) C d_X_fewestHindering_51 (by decide) ?_
          refine x_sub (lv' := [(0, .ref (h 0)), (1, .int x1), (2, .int x2), (3, .int (x3 + (-1 : Int32)))]) [1, 2, 3, 0] rfl ?_
          exact hk18 x1 x2 (x3 + (-1 : Int32)) r3.2 hf
        · rw [if_pos hc] at hf
          refine x_iload_n C d_X_fewestHindering_46 rfl (k := 3) rfl ?_
          exact x_iret C hQ (Prod.mk.inj (Option.some.inj hf)).1 (Prod.mk.inj (Option.some.inj hf)).2 d_X_fewestHindering_47
def l_X_fewestHindering_18 (k10 : Int32 → Int32 → PS → Option (Int32 × PS)) : Nat → Int32 → Int32 → Int32 → PS → Option (Int32 × PS)
  | 0 => fun _ _ _ _ => none
  | n + 1 => b_X_fewestHindering_18 k10 (l_X_fewestHindering_18 k10 n)
theorem wl_X_fewestHindering_18 {γ : CX} {cI : ClassId} {h : Nat → Nat} {r0 : Int32} {u0 : PS} (C : Cx γ b_X_fewestHindering 4 (some .int) "PackagePick" (rk 16) [(cI, .int)]) (hQ : QI γ [(cI, .int)] (WX cI h) r0 u0) (k10 : Int32 → Int32 → PS → Option (Int32 × PS)) (hk10 : ∀ (x1 : Int32) (x2 : Int32) (u : PS), k10 x1 x2 u = some (r0, u0) → AtG γ (WX cI h) 4 0 0 10 [(0, .ref (h 0)), (1, .int x1), (2, .int x2)] [] u) (n : Nat) : ∀ (x1 : Int32) (x2 : Int32) (x3 : Int32) (u : PS), l_X_fewestHindering_18 k10 n x1 x2 x3 u = some (r0, u0) → AtG γ (WX cI h) 4 0 0 18 [(0, .ref (h 0)), (1, .int x1), (2, .int x2), (3, .int x3)] [] u := by
  induction n with
  | zero => intro x1 x2 x3 u hf; cases hf
  | succ n ih => intro x1 x2 x3 u hf; exact w_X_fewestHindering_18 C hQ k10 (l_X_fewestHindering_18 k10 n) hk10 ih x1 x2 x3 u hf
def b_X_fewestHindering_10 (k10 : Int32 → Int32 → PS → Option (Int32 × PS)) (x1 : Int32) (x2 : Int32) (u : PS) : Option (Int32 × PS) :=
  if (6 : Int32) < x2 then
    some ((0 : Int32), u)
  else
    l_X_fewestHindering_18 k10 NF x1 x2 x1 u
set_option maxRecDepth 100000 in
set_option maxHeartbeats 4000000 in
theorem w_X_fewestHindering_10 {γ : CX} {cI : ClassId} {h : Nat → Nat} {r0 : Int32} {u0 : PS} (C : Cx γ b_X_fewestHindering 4 (some .int) "PackagePick" (rk 16) [(cI, .int)]) (hQ : QI γ [(cI, .int)] (WX cI h) r0 u0) (k10 : Int32 → Int32 → PS → Option (Int32 × PS)) (hk10 : ∀ (x1 : Int32) (x2 : Int32) (u : PS), k10 x1 x2 u = some (r0, u0) → AtG γ (WX cI h) 4 0 0 10 [(0, .ref (h 0)), (1, .int x1), (2, .int x2)] [] u) (x1 : Int32) (x2 : Int32) (u : PS) (hf : b_X_fewestHindering_10 k10 x1 x2 u = some (r0, u0)) : AtG γ (WX cI h) 4 0 0 10 [(0, .ref (h 0)), (1, .int x1), (2, .int x2)] [] u := by
  unfold b_X_fewestHindering_10 at hf
  refine x_iload_n C d_X_fewestHindering_10 rfl (k := 2) rfl ?_
  refine x_bipush (v := 6) C d_X_fewestHindering_11 (by decide) ?_
  refine x_icmp_gt (tgt := 60) C d_X_fewestHindering_13 (by decide) (fun hc => ?_) (fun hc => ?_)
  · rw [if_pos hc] at hf
    refine x_iconst (v := 0) C d_X_fewestHindering_60 (by decide) ?_
    exact x_iret C hQ (Prod.mk.inj (Option.some.inj hf)).1 (Prod.mk.inj (Option.some.inj hf)).2 d_X_fewestHindering_61
  · rw [if_neg hc] at hf
    refine x_iload_n C d_X_fewestHindering_16 rfl (k := 1) rfl ?_
    refine x_istore_n (lv' := [(3, .int x1), (0, .ref (h 0)), (1, .int x1), (2, .int x2)]) C d_X_fewestHindering_17 rfl (by decide) rfl ?_
    refine x_sub (lv' := [(0, .ref (h 0)), (1, .int x1), (2, .int x2), (3, .int x1)]) [1, 2, 3, 0] rfl ?_
    exact wl_X_fewestHindering_18 C hQ k10 hk10 NF x1 x2 x1 u hf
def l_X_fewestHindering_10 : Nat → Int32 → Int32 → PS → Option (Int32 × PS)
  | 0 => fun _ _ _ => none
  | n + 1 => b_X_fewestHindering_10 (l_X_fewestHindering_10 n)
theorem wl_X_fewestHindering_10 {γ : CX} {cI : ClassId} {h : Nat → Nat} {r0 : Int32} {u0 : PS} (C : Cx γ b_X_fewestHindering 4 (some .int) "PackagePick" (rk 16) [(cI, .int)]) (hQ : QI γ [(cI, .int)] (WX cI h) r0 u0) (n : Nat) : ∀ (x1 : Int32) (x2 : Int32) (u : PS), l_X_fewestHindering_10 n x1 x2 u = some (r0, u0) → AtG γ (WX cI h) 4 0 0 10 [(0, .ref (h 0)), (1, .int x1), (2, .int x2)] [] u := by
  induction n with
  | zero => intro x1 x2 u hf; cases hf
  | succ n ih => intro x1 x2 u hf; exact w_X_fewestHindering_10 C hQ (l_X_fewestHindering_10 n) ih x1 x2 u hf
def f_X_fewestHindering (u : PS) : Option (Int32 × PS) :=
  (f_W_all u).bind fun r1 =>
  l_X_fewestHindering_10 NF r1 (1 : Int32) u
set_option maxRecDepth 100000 in
set_option maxHeartbeats 4000000 in
theorem w_X_fewestHindering {γ : CX} {cI : ClassId} {h : Nat → Nat} {r0 : Int32} {u0 : PS} (C : Cx γ b_X_fewestHindering 4 (some .int) "PackagePick" (rk 16) [(cI, .int)]) (hQ : QI γ [(cI, .int)] (WX cI h) r0 u0) (u : PS) (hf : f_X_fewestHindering u = some (r0, u0)) : AtG γ (WX cI h) 4 0 0 0 [(0, .ref (h 0))] [] u := by
  unfold f_X_fewestHindering at hf
  refine x_aload_n C d_X_fewestHindering_0 rfl (k := 0) rfl ?_
  refine gX_X_wishes C mf_X_19 d_X_fewestHindering_1 ?_
  obtain ⟨r1, hc1, hf⟩ := Option.bind_eq_some_iff.mp hf
  refine x_callIv (q0 := 2) (ci := 2) (rest := []) C (c_W_all u hc1) kc_W_all (rok (by decide) (by decide)) mm_X_83 ms_W_all ml_W_all rfl rfl rfl rfl (Nat.le_of_ble_eq_true rfl) d_X_fewestHindering_4 ?_
  refine x_istore_n (lv' := [(1, .int r1), (0, .ref (h 0))]) C d_X_fewestHindering_7 rfl (by decide) rfl ?_
  refine x_iconst (v := 1) C d_X_fewestHindering_8 (by decide) ?_
  refine x_istore_n (lv' := [(2, .int (1 : Int32)), (1, .int r1), (0, .ref (h 0))]) C d_X_fewestHindering_9 rfl (by decide) rfl ?_
  refine x_sub (lv' := [(0, .ref (h 0)), (1, .int r1), (2, .int (1 : Int32))]) [2, 1, 0] rfl ?_
  exact wl_X_fewestHindering_10 C hQ NF r1 (1 : Int32) u hf
theorem c_X_fewestHindering {l : Launch} {D : va_G} {cI : ClassId} {h : Nat → Nat} (u : PS) {r0 : Int32 × PS} (hf : f_X_fewestHindering u = some r0) : CtI l y_X_fewestHindering b_X_fewestHindering 4 (some .int) (rk 16) D [(cI, .int)] (WX cI h) [.ref (h 0)] u r0.1 r0.2 := ct_ofI (by decide) (Nat.le_of_ble_eq_true rfl) (fun γ _ _ C hQ => w_X_fewestHindering C hQ u hf)
end
section
theorem kc_M_thrown : Cal y_M_thrown b_M_thrown 1 (some .int) 0 := ⟨mc_M_thrown, mi_PackagePickModel, by decide +kernel⟩
theorem kc_M_version : Cal y_M_version b_M_version 3 (some .boolean) 2 := ⟨mc_M_version, mi_PackagePickModel, by decide +kernel⟩
theorem kc_M_isVersion : Cal y_M_isVersion b_M_isVersion 2 (some .boolean) 2 := ⟨mc_M_isVersion, mi_PackagePickModel, by decide +kernel⟩
theorem kc_M_isPackage : Cal y_M_isPackage b_M_isPackage 1 (some .boolean) 1 := ⟨mc_M_isPackage, mi_PackagePickModel, by decide +kernel⟩
theorem kc_M_need : Cal y_M_need b_M_need 8 (some .boolean) 5 := ⟨mc_M_need, mi_PackagePickModel, by decide +kernel⟩
theorem kc_M_isNeed : Cal y_M_isNeed b_M_isNeed 3 (some .boolean) 3 := ⟨mc_M_isNeed, mi_PackagePickModel, by decide +kernel⟩
theorem kc_M_drop : Cal y_M_drop b_M_drop 3 (some .boolean) 2 := ⟨mc_M_drop, mi_PackagePickModel, by decide +kernel⟩
theorem kc_M_ban : Cal y_M_ban b_M_ban 5 (some .boolean) 4 := ⟨mc_M_ban, mi_PackagePickModel, by decide +kernel⟩
theorem kc_M_ask : Cal y_M_ask b_M_ask 4 (some .boolean) 3 := ⟨mc_M_ask, mi_PackagePickModel, by decide +kernel⟩
theorem kc_M_take : Cal y_M_take b_M_take 3 (some .boolean) 1 := ⟨mc_M_take, mi_PackagePickModel, by decide +kernel⟩
theorem kc_M_solve : Cal y_M_solve b_M_solve 5 (some .int) 1 := ⟨mc_M_solve, mi_PackagePickModel, by decide +kernel⟩
theorem kc_M_raise : Cal y_M_raise b_M_raise 2 (some .int) 1 := ⟨mc_M_raise, mi_PackagePickModel, by decide +kernel⟩
theorem kc_M_all : Cal y_M_all b_M_all 1 (some .int) 0 := ⟨mc_M_all, mi_PackagePickModel, by decide +kernel⟩
theorem kc_M_begin : Cal y_M_begin b_M_begin 2 none 1 := ⟨mc_M_begin, mi_PackagePickModel, by decide +kernel⟩
theorem kc_M_finds : Cal y_M_finds b_M_finds 1 (some .boolean) 0 := ⟨mc_M_finds, mi_PackagePickModel, by decide +kernel⟩
theorem kc_M_goes : Cal y_M_goes b_M_goes 7 (some .boolean) 1 := ⟨mc_M_goes, mi_PackagePickModel, by decide +kernel⟩
theorem kc_M_counts : Cal y_M_counts b_M_counts 2 (some .boolean) 1 := ⟨mc_M_counts, mi_PackagePickModel, by decide +kernel⟩
theorem kc_M_isMet : Cal y_M_isMet b_M_isMet 4 (some .boolean) 3 := ⟨mc_M_isMet, mi_PackagePickModel, by decide +kernel⟩
theorem kc_M_isTight : Cal y_M_isTight b_M_isTight 6 (some .boolean) 0 := ⟨mc_M_isTight, mi_PackagePickModel, by decide +kernel⟩
theorem kc_M_cost : Cal y_M_cost b_M_cost 4 (some .int) 1 := ⟨mc_M_cost, mi_PackagePickModel, by decide +kernel⟩
theorem kc_M_findCore : Cal y_M_findCore b_M_findCore 3 none 0 := ⟨mc_M_findCore, mi_PackagePickModel, by decide +kernel⟩
theorem kc_M_sizeOf : Cal y_M_sizeOf b_M_sizeOf 3 (some .int) 1 := ⟨mc_M_sizeOf, mi_PackagePickModel, by decide +kernel⟩
theorem kc_M_isAhead : Cal y_M_isAhead b_M_isAhead 3 (some .boolean) 2 := ⟨mc_M_isAhead, mi_PackagePickModel, by decide +kernel⟩
theorem kc_M_keep : Cal y_M_keep b_M_keep 3 (some .int) 0 := ⟨mc_M_keep, mi_PackagePickModel, by decide +kernel⟩
theorem kc_M_differ : Cal y_M_differ b_M_differ 3 (some .int) 0 := ⟨mc_M_differ, mi_PackagePickModel, by decide +kernel⟩
theorem kc_M_chosen : Cal y_M_chosen b_M_chosen 2 (some .int) 1 := ⟨mc_M_chosen, mi_PackagePickModel, by decide +kernel⟩
theorem kc_M_many : Cal y_M_many b_M_many 2 (some .int) 0 := ⟨mc_M_many, mi_PackagePickModel, by decide +kernel⟩
theorem kc_M_can : Cal y_M_can b_M_can 3 (some .int) 1 := ⟨mc_M_can, mi_PackagePickModel, by decide +kernel⟩
theorem kc_M_core : Cal y_M_core b_M_core 4 (some .int) 1 := ⟨mc_M_core, mi_PackagePickModel, by decide +kernel⟩
theorem kc_M_count : Cal y_M_count b_M_count 4 (some .int) 1 := ⟨mc_M_count, mi_PackagePickModel, by decide +kernel⟩
def WM (cI cZ : ClassId) (h : Nat → Nat) (u : PS) : va_W := [(h 0, .inr (4, [.int (u.1 0), .ref (h 1), .ref (h 2), .ref (h 3), .ref (h 4), .ref (h 5), .int (u.1 1), .ref (h 6), .ref (h 7), .ref (h 8), .int (u.1 2), .ref (h 9), .ref (h 10), .int (u.1 3), .int (u.1 4), .ref (h 11), .ref (h 12), .ref (h 13), .ref (h 14), .ref (h 15), .int (u.1 5)])),
  (h 1, .inl (cZ, 28, .inl (u.2 0))),
  (h 2, .inl (cI, 28, .inl (u.2 1))),
  (h 3, .inl (cI, 112, .inl (u.2 2))),
  (h 4, .inl (cI, 112, .inl (u.2 3))),
  (h 5, .inl (cI, 112, .inl (u.2 4))),
  (h 6, .inl (cI, 6, .inl (u.2 5))),
  (h 7, .inl (cI, 6, .inl (u.2 6))),
  (h 8, .inl (cI, 6, .inl (u.2 7))),
  (h 9, .inl (cI, 16, .inl (u.2 8))),
  (h 10, .inl (cI, 16, .inl (u.2 9))),
  (h 11, .inl (cI, 7, .inl (u.2 10))),
  (h 12, .inl (cZ, 7, .inl (u.2 11))),
  (h 13, .inl (cI, 7, .inl (u.2 12))),
  (h 14, .inl (cI, 7, .inl (u.2 13))),
  (h 15, .inl (cI, 7, .inl (u.2 14)))]
theorem gM_M_thrown {γ : CX} {cI cZ : ClassId} {h : Nat → Nat} {cc : ByteArray} {nL : Nat} {ret : Option FieldType} {own : String} {rm : Room} {pc : Nat} {lv : List (Nat × Value)} {rest : List Value} {u : PS} {cs sl index : Nat} {v : Int32} (C : Cx γ cc nL ret own rm [(cI, .int), (cZ, .boolean)]) (hl : Cond.fieldLink own index "PackagePickModel" "thrown" "I" ∈ WB) (hv : u.1 0 = v) (hd : decode cc pc = .ok (.getfield index, 3)) (k : AtG γ (WM cI cZ h) nL cs sl (pc + 3) lv (.int v :: rest) u) : AtG γ (WM cI cZ h) nL cs sl pc lv (.ref (h 0) :: rest) u := by
  subst hv
  exact x_get (q0 := 0) (ci := 4) (kf := 0) C mu_M rfl rfl (by decide) hl rfl hd k
theorem pM_M_thrown {γ : CX} {cI cZ : ClassId} {h : Nat → Nat} {cc : ByteArray} {nL : Nat} {ret : Option FieldType} {own : String} {rm : Room} {pc : Nat} {lv : List (Nat × Value)} {rest : List Value} {u : PS} {cs sl index : Nat} {v : Int32} (C : Cx γ cc nL ret own rm [(cI, .int), (cZ, .boolean)]) (hl : Cond.fieldLink own index "PackagePickModel" "thrown" "I" ∈ WB) (hd : decode cc pc = .ok (.putfield index, 3)) (k : AtG γ (WM cI cZ h) nL cs sl (pc + 3) lv rest (si u 0 v)) : AtG γ (WM cI cZ h) nL cs sl pc lv (.int v :: .ref (h 0) :: rest) u :=
  x_put (q0 := 0) (ci := 4) (kf := 0) (ty := .int) C mu_M ft_M_ok fn_M rfl rfl (by decide) hl rfl (by decide +kernel) rfl rfl (Nat.le_of_ble_eq_true rfl) rfl hd k
theorem gM_M_there {γ : CX} {cI cZ : ClassId} {h : Nat → Nat} {cc : ByteArray} {nL : Nat} {ret : Option FieldType} {own : String} {rm : Room} {pc : Nat} {lv : List (Nat × Value)} {rest : List Value} {u : PS} {cs sl index : Nat} (C : Cx γ cc nL ret own rm [(cI, .int), (cZ, .boolean)]) (hl : Cond.fieldLink own index "PackagePickModel" "there" "[Z" ∈ WB) (hd : decode cc pc = .ok (.getfield index, 3)) (k : AtG γ (WM cI cZ h) nL cs sl (pc + 3) lv (.ref (h 1) :: rest) u) : AtG γ (WM cI cZ h) nL cs sl pc lv (.ref (h 0) :: rest) u :=
  x_get (q0 := 0) (ci := 4) (kf := 1) C mu_M rfl rfl (by decide) hl rfl hd k
theorem gM_M_needs {γ : CX} {cI cZ : ClassId} {h : Nat → Nat} {cc : ByteArray} {nL : Nat} {ret : Option FieldType} {own : String} {rm : Room} {pc : Nat} {lv : List (Nat × Value)} {rest : List Value} {u : PS} {cs sl index : Nat} (C : Cx γ cc nL ret own rm [(cI, .int), (cZ, .boolean)]) (hl : Cond.fieldLink own index "PackagePickModel" "needs" "[I" ∈ WB) (hd : decode cc pc = .ok (.getfield index, 3)) (k : AtG γ (WM cI cZ h) nL cs sl (pc + 3) lv (.ref (h 2) :: rest) u) : AtG γ (WM cI cZ h) nL cs sl pc lv (.ref (h 0) :: rest) u :=
  x_get (q0 := 0) (ci := 4) (kf := 2) C mu_M rfl rfl (by decide) hl rfl hd k
theorem gM_M_needOf {γ : CX} {cI cZ : ClassId} {h : Nat → Nat} {cc : ByteArray} {nL : Nat} {ret : Option FieldType} {own : String} {rm : Room} {pc : Nat} {lv : List (Nat × Value)} {rest : List Value} {u : PS} {cs sl index : Nat} (C : Cx γ cc nL ret own rm [(cI, .int), (cZ, .boolean)]) (hl : Cond.fieldLink own index "PackagePickModel" "needOf" "[I" ∈ WB) (hd : decode cc pc = .ok (.getfield index, 3)) (k : AtG γ (WM cI cZ h) nL cs sl (pc + 3) lv (.ref (h 3) :: rest) u) : AtG γ (WM cI cZ h) nL cs sl pc lv (.ref (h 0) :: rest) u :=
  x_get (q0 := 0) (ci := 4) (kf := 3) C mu_M rfl rfl (by decide) hl rfl hd k
theorem gM_M_needFrom {γ : CX} {cI cZ : ClassId} {h : Nat → Nat} {cc : ByteArray} {nL : Nat} {ret : Option FieldType} {own : String} {rm : Room} {pc : Nat} {lv : List (Nat × Value)} {rest : List Value} {u : PS} {cs sl index : Nat} (C : Cx γ cc nL ret own rm [(cI, .int), (cZ, .boolean)]) (hl : Cond.fieldLink own index "PackagePickModel" "needFrom" "[I" ∈ WB) (hd : decode cc pc = .ok (.getfield index, 3)) (k : AtG γ (WM cI cZ h) nL cs sl (pc + 3) lv (.ref (h 4) :: rest) u) : AtG γ (WM cI cZ h) nL cs sl pc lv (.ref (h 0) :: rest) u :=
  x_get (q0 := 0) (ci := 4) (kf := 4) C mu_M rfl rfl (by decide) hl rfl hd k
theorem gM_M_needTo {γ : CX} {cI cZ : ClassId} {h : Nat → Nat} {cc : ByteArray} {nL : Nat} {ret : Option FieldType} {own : String} {rm : Room} {pc : Nat} {lv : List (Nat × Value)} {rest : List Value} {u : PS} {cs sl index : Nat} (C : Cx γ cc nL ret own rm [(cI, .int), (cZ, .boolean)]) (hl : Cond.fieldLink own index "PackagePickModel" "needTo" "[I" ∈ WB) (hd : decode cc pc = .ok (.getfield index, 3)) (k : AtG γ (WM cI cZ h) nL cs sl (pc + 3) lv (.ref (h 5) :: rest) u) : AtG γ (WM cI cZ h) nL cs sl pc lv (.ref (h 0) :: rest) u :=
  x_get (q0 := 0) (ci := 4) (kf := 5) C mu_M rfl rfl (by decide) hl rfl hd k
theorem gM_M_asked {γ : CX} {cI cZ : ClassId} {h : Nat → Nat} {cc : ByteArray} {nL : Nat} {ret : Option FieldType} {own : String} {rm : Room} {pc : Nat} {lv : List (Nat × Value)} {rest : List Value} {u : PS} {cs sl index : Nat} {v : Int32} (C : Cx γ cc nL ret own rm [(cI, .int), (cZ, .boolean)]) (hl : Cond.fieldLink own index "PackagePickModel" "asked" "I" ∈ WB) (hv : u.1 1 = v) (hd : decode cc pc = .ok (.getfield index, 3)) (k : AtG γ (WM cI cZ h) nL cs sl (pc + 3) lv (.int v :: rest) u) : AtG γ (WM cI cZ h) nL cs sl pc lv (.ref (h 0) :: rest) u := by
  subst hv
  exact x_get (q0 := 0) (ci := 4) (kf := 6) C mu_M rfl rfl (by decide) hl rfl hd k
theorem pM_M_asked {γ : CX} {cI cZ : ClassId} {h : Nat → Nat} {cc : ByteArray} {nL : Nat} {ret : Option FieldType} {own : String} {rm : Room} {pc : Nat} {lv : List (Nat × Value)} {rest : List Value} {u : PS} {cs sl index : Nat} {v : Int32} (C : Cx γ cc nL ret own rm [(cI, .int), (cZ, .boolean)]) (hl : Cond.fieldLink own index "PackagePickModel" "asked" "I" ∈ WB) (hd : decode cc pc = .ok (.putfield index, 3)) (k : AtG γ (WM cI cZ h) nL cs sl (pc + 3) lv rest (si u 1 v)) : AtG γ (WM cI cZ h) nL cs sl pc lv (.int v :: .ref (h 0) :: rest) u :=
  x_put (q0 := 0) (ci := 4) (kf := 6) (ty := .int) C mu_M ft_M_ok fn_M rfl rfl (by decide) hl rfl (by decide +kernel) rfl rfl (Nat.le_of_ble_eq_true rfl) rfl hd k
theorem gM_M_askedOf {γ : CX} {cI cZ : ClassId} {h : Nat → Nat} {cc : ByteArray} {nL : Nat} {ret : Option FieldType} {own : String} {rm : Room} {pc : Nat} {lv : List (Nat × Value)} {rest : List Value} {u : PS} {cs sl index : Nat} (C : Cx γ cc nL ret own rm [(cI, .int), (cZ, .boolean)]) (hl : Cond.fieldLink own index "PackagePickModel" "askedOf" "[I" ∈ WB) (hd : decode cc pc = .ok (.getfield index, 3)) (k : AtG γ (WM cI cZ h) nL cs sl (pc + 3) lv (.ref (h 6) :: rest) u) : AtG γ (WM cI cZ h) nL cs sl pc lv (.ref (h 0) :: rest) u :=
  x_get (q0 := 0) (ci := 4) (kf := 7) C mu_M rfl rfl (by decide) hl rfl hd k
theorem gM_M_askedFrom {γ : CX} {cI cZ : ClassId} {h : Nat → Nat} {cc : ByteArray} {nL : Nat} {ret : Option FieldType} {own : String} {rm : Room} {pc : Nat} {lv : List (Nat × Value)} {rest : List Value} {u : PS} {cs sl index : Nat} (C : Cx γ cc nL ret own rm [(cI, .int), (cZ, .boolean)]) (hl : Cond.fieldLink own index "PackagePickModel" "askedFrom" "[I" ∈ WB) (hd : decode cc pc = .ok (.getfield index, 3)) (k : AtG γ (WM cI cZ h) nL cs sl (pc + 3) lv (.ref (h 7) :: rest) u) : AtG γ (WM cI cZ h) nL cs sl pc lv (.ref (h 0) :: rest) u :=
  x_get (q0 := 0) (ci := 4) (kf := 8) C mu_M rfl rfl (by decide) hl rfl hd k
theorem gM_M_askedTo {γ : CX} {cI cZ : ClassId} {h : Nat → Nat} {cc : ByteArray} {nL : Nat} {ret : Option FieldType} {own : String} {rm : Room} {pc : Nat} {lv : List (Nat × Value)} {rest : List Value} {u : PS} {cs sl index : Nat} (C : Cx γ cc nL ret own rm [(cI, .int), (cZ, .boolean)]) (hl : Cond.fieldLink own index "PackagePickModel" "askedTo" "[I" ∈ WB) (hd : decode cc pc = .ok (.getfield index, 3)) (k : AtG γ (WM cI cZ h) nL cs sl (pc + 3) lv (.ref (h 8) :: rest) u) : AtG γ (WM cI cZ h) nL cs sl pc lv (.ref (h 0) :: rest) u :=
  x_get (q0 := 0) (ci := 4) (kf := 9) C mu_M rfl rfl (by decide) hl rfl hd k
theorem gM_M_bans {γ : CX} {cI cZ : ClassId} {h : Nat → Nat} {cc : ByteArray} {nL : Nat} {ret : Option FieldType} {own : String} {rm : Room} {pc : Nat} {lv : List (Nat × Value)} {rest : List Value} {u : PS} {cs sl index : Nat} {v : Int32} (C : Cx γ cc nL ret own rm [(cI, .int), (cZ, .boolean)]) (hl : Cond.fieldLink own index "PackagePickModel" "bans" "I" ∈ WB) (hv : u.1 2 = v) (hd : decode cc pc = .ok (.getfield index, 3)) (k : AtG γ (WM cI cZ h) nL cs sl (pc + 3) lv (.int v :: rest) u) : AtG γ (WM cI cZ h) nL cs sl pc lv (.ref (h 0) :: rest) u := by
  subst hv
  exact x_get (q0 := 0) (ci := 4) (kf := 10) C mu_M rfl rfl (by decide) hl rfl hd k
theorem pM_M_bans {γ : CX} {cI cZ : ClassId} {h : Nat → Nat} {cc : ByteArray} {nL : Nat} {ret : Option FieldType} {own : String} {rm : Room} {pc : Nat} {lv : List (Nat × Value)} {rest : List Value} {u : PS} {cs sl index : Nat} {v : Int32} (C : Cx γ cc nL ret own rm [(cI, .int), (cZ, .boolean)]) (hl : Cond.fieldLink own index "PackagePickModel" "bans" "I" ∈ WB) (hd : decode cc pc = .ok (.putfield index, 3)) (k : AtG γ (WM cI cZ h) nL cs sl (pc + 3) lv rest (si u 2 v)) : AtG γ (WM cI cZ h) nL cs sl pc lv (.int v :: .ref (h 0) :: rest) u :=
  x_put (q0 := 0) (ci := 4) (kf := 10) (ty := .int) C mu_M ft_M_ok fn_M rfl rfl (by decide) hl rfl (by decide +kernel) rfl rfl (Nat.le_of_ble_eq_true rfl) rfl hd k
theorem gM_M_banOne {γ : CX} {cI cZ : ClassId} {h : Nat → Nat} {cc : ByteArray} {nL : Nat} {ret : Option FieldType} {own : String} {rm : Room} {pc : Nat} {lv : List (Nat × Value)} {rest : List Value} {u : PS} {cs sl index : Nat} (C : Cx γ cc nL ret own rm [(cI, .int), (cZ, .boolean)]) (hl : Cond.fieldLink own index "PackagePickModel" "banOne" "[I" ∈ WB) (hd : decode cc pc = .ok (.getfield index, 3)) (k : AtG γ (WM cI cZ h) nL cs sl (pc + 3) lv (.ref (h 9) :: rest) u) : AtG γ (WM cI cZ h) nL cs sl pc lv (.ref (h 0) :: rest) u :=
  x_get (q0 := 0) (ci := 4) (kf := 11) C mu_M rfl rfl (by decide) hl rfl hd k
theorem gM_M_banTwo {γ : CX} {cI cZ : ClassId} {h : Nat → Nat} {cc : ByteArray} {nL : Nat} {ret : Option FieldType} {own : String} {rm : Room} {pc : Nat} {lv : List (Nat × Value)} {rest : List Value} {u : PS} {cs sl index : Nat} (C : Cx γ cc nL ret own rm [(cI, .int), (cZ, .boolean)]) (hl : Cond.fieldLink own index "PackagePickModel" "banTwo" "[I" ∈ WB) (hd : decode cc pc = .ok (.getfield index, 3)) (k : AtG γ (WM cI cZ h) nL cs sl (pc + 3) lv (.ref (h 10) :: rest) u) : AtG γ (WM cI cZ h) nL cs sl pc lv (.ref (h 0) :: rest) u :=
  x_get (q0 := 0) (ci := 4) (kf := 12) C mu_M rfl rfl (by decide) hl rfl hd k
theorem gM_M_counting {γ : CX} {cI cZ : ClassId} {h : Nat → Nat} {cc : ByteArray} {nL : Nat} {ret : Option FieldType} {own : String} {rm : Room} {pc : Nat} {lv : List (Nat × Value)} {rest : List Value} {u : PS} {cs sl index : Nat} {v : Int32} (C : Cx γ cc nL ret own rm [(cI, .int), (cZ, .boolean)]) (hl : Cond.fieldLink own index "PackagePickModel" "counting" "I" ∈ WB) (hv : u.1 3 = v) (hd : decode cc pc = .ok (.getfield index, 3)) (k : AtG γ (WM cI cZ h) nL cs sl (pc + 3) lv (.int v :: rest) u) : AtG γ (WM cI cZ h) nL cs sl pc lv (.ref (h 0) :: rest) u := by
  subst hv
  exact x_get (q0 := 0) (ci := 4) (kf := 13) C mu_M rfl rfl (by decide) hl rfl hd k
theorem pM_M_counting {γ : CX} {cI cZ : ClassId} {h : Nat → Nat} {cc : ByteArray} {nL : Nat} {ret : Option FieldType} {own : String} {rm : Room} {pc : Nat} {lv : List (Nat × Value)} {rest : List Value} {u : PS} {cs sl index : Nat} {v : Int32} (C : Cx γ cc nL ret own rm [(cI, .int), (cZ, .boolean)]) (hl : Cond.fieldLink own index "PackagePickModel" "counting" "I" ∈ WB) (hd : decode cc pc = .ok (.putfield index, 3)) (k : AtG γ (WM cI cZ h) nL cs sl (pc + 3) lv rest (si u 3 v)) : AtG γ (WM cI cZ h) nL cs sl pc lv (.int v :: .ref (h 0) :: rest) u :=
  x_put (q0 := 0) (ci := 4) (kf := 13) (ty := .int) C mu_M ft_M_ok fn_M rfl rfl (by decide) hl rfl (by decide +kernel) rfl rfl (Nat.le_of_ble_eq_true rfl) rfl hd k
theorem gM_M_level {γ : CX} {cI cZ : ClassId} {h : Nat → Nat} {cc : ByteArray} {nL : Nat} {ret : Option FieldType} {own : String} {rm : Room} {pc : Nat} {lv : List (Nat × Value)} {rest : List Value} {u : PS} {cs sl index : Nat} {v : Int32} (C : Cx γ cc nL ret own rm [(cI, .int), (cZ, .boolean)]) (hl : Cond.fieldLink own index "PackagePickModel" "level" "I" ∈ WB) (hv : u.1 4 = v) (hd : decode cc pc = .ok (.getfield index, 3)) (k : AtG γ (WM cI cZ h) nL cs sl (pc + 3) lv (.int v :: rest) u) : AtG γ (WM cI cZ h) nL cs sl pc lv (.ref (h 0) :: rest) u := by
  subst hv
  exact x_get (q0 := 0) (ci := 4) (kf := 14) C mu_M rfl rfl (by decide) hl rfl hd k
theorem pM_M_level {γ : CX} {cI cZ : ClassId} {h : Nat → Nat} {cc : ByteArray} {nL : Nat} {ret : Option FieldType} {own : String} {rm : Room} {pc : Nat} {lv : List (Nat × Value)} {rest : List Value} {u : PS} {cs sl index : Nat} {v : Int32} (C : Cx γ cc nL ret own rm [(cI, .int), (cZ, .boolean)]) (hl : Cond.fieldLink own index "PackagePickModel" "level" "I" ∈ WB) (hd : decode cc pc = .ok (.putfield index, 3)) (k : AtG γ (WM cI cZ h) nL cs sl (pc + 3) lv rest (si u 4 v)) : AtG γ (WM cI cZ h) nL cs sl pc lv (.int v :: .ref (h 0) :: rest) u :=
  x_put (q0 := 0) (ci := 4) (kf := 14) (ty := .int) C mu_M ft_M_ok fn_M rfl rfl (by decide) hl rfl (by decide +kernel) rfl rfl (Nat.le_of_ble_eq_true rfl) rfl hd k
theorem gM_M_pick {γ : CX} {cI cZ : ClassId} {h : Nat → Nat} {cc : ByteArray} {nL : Nat} {ret : Option FieldType} {own : String} {rm : Room} {pc : Nat} {lv : List (Nat × Value)} {rest : List Value} {u : PS} {cs sl index : Nat} (C : Cx γ cc nL ret own rm [(cI, .int), (cZ, .boolean)]) (hl : Cond.fieldLink own index "PackagePickModel" "pick" "[I" ∈ WB) (hd : decode cc pc = .ok (.getfield index, 3)) (k : AtG γ (WM cI cZ h) nL cs sl (pc + 3) lv (.ref (h 11) :: rest) u) : AtG γ (WM cI cZ h) nL cs sl pc lv (.ref (h 0) :: rest) u :=
  x_get (q0 := 0) (ci := 4) (kf := 15) C mu_M rfl rfl (by decide) hl rfl hd k
theorem gM_M_wanted {γ : CX} {cI cZ : ClassId} {h : Nat → Nat} {cc : ByteArray} {nL : Nat} {ret : Option FieldType} {own : String} {rm : Room} {pc : Nat} {lv : List (Nat × Value)} {rest : List Value} {u : PS} {cs sl index : Nat} (C : Cx γ cc nL ret own rm [(cI, .int), (cZ, .boolean)]) (hl : Cond.fieldLink own index "PackagePickModel" "wanted" "[Z" ∈ WB) (hd : decode cc pc = .ok (.getfield index, 3)) (k : AtG γ (WM cI cZ h) nL cs sl (pc + 3) lv (.ref (h 12) :: rest) u) : AtG γ (WM cI cZ h) nL cs sl pc lv (.ref (h 0) :: rest) u :=
  x_get (q0 := 0) (ci := 4) (kf := 16) C mu_M rfl rfl (by decide) hl rfl hd k
theorem gM_M_told {γ : CX} {cI cZ : ClassId} {h : Nat → Nat} {cc : ByteArray} {nL : Nat} {ret : Option FieldType} {own : String} {rm : Room} {pc : Nat} {lv : List (Nat × Value)} {rest : List Value} {u : PS} {cs sl index : Nat} (C : Cx γ cc nL ret own rm [(cI, .int), (cZ, .boolean)]) (hl : Cond.fieldLink own index "PackagePickModel" "told" "[I" ∈ WB) (hd : decode cc pc = .ok (.getfield index, 3)) (k : AtG γ (WM cI cZ h) nL cs sl (pc + 3) lv (.ref (h 13) :: rest) u) : AtG γ (WM cI cZ h) nL cs sl pc lv (.ref (h 0) :: rest) u :=
  x_get (q0 := 0) (ci := 4) (kf := 17) C mu_M rfl rfl (by decide) hl rfl hd k
theorem gM_M_kept {γ : CX} {cI cZ : ClassId} {h : Nat → Nat} {cc : ByteArray} {nL : Nat} {ret : Option FieldType} {own : String} {rm : Room} {pc : Nat} {lv : List (Nat × Value)} {rest : List Value} {u : PS} {cs sl index : Nat} (C : Cx γ cc nL ret own rm [(cI, .int), (cZ, .boolean)]) (hl : Cond.fieldLink own index "PackagePickModel" "kept" "[I" ∈ WB) (hd : decode cc pc = .ok (.getfield index, 3)) (k : AtG γ (WM cI cZ h) nL cs sl (pc + 3) lv (.ref (h 14) :: rest) u) : AtG γ (WM cI cZ h) nL cs sl pc lv (.ref (h 0) :: rest) u :=
  x_get (q0 := 0) (ci := 4) (kf := 18) C mu_M rfl rfl (by decide) hl rfl hd k
theorem gM_M_best {γ : CX} {cI cZ : ClassId} {h : Nat → Nat} {cc : ByteArray} {nL : Nat} {ret : Option FieldType} {own : String} {rm : Room} {pc : Nat} {lv : List (Nat × Value)} {rest : List Value} {u : PS} {cs sl index : Nat} (C : Cx γ cc nL ret own rm [(cI, .int), (cZ, .boolean)]) (hl : Cond.fieldLink own index "PackagePickModel" "best" "[I" ∈ WB) (hd : decode cc pc = .ok (.getfield index, 3)) (k : AtG γ (WM cI cZ h) nL cs sl (pc + 3) lv (.ref (h 15) :: rest) u) : AtG γ (WM cI cZ h) nL cs sl pc lv (.ref (h 0) :: rest) u :=
  x_get (q0 := 0) (ci := 4) (kf := 19) C mu_M rfl rfl (by decide) hl rfl hd k
theorem gM_M_coreMask {γ : CX} {cI cZ : ClassId} {h : Nat → Nat} {cc : ByteArray} {nL : Nat} {ret : Option FieldType} {own : String} {rm : Room} {pc : Nat} {lv : List (Nat × Value)} {rest : List Value} {u : PS} {cs sl index : Nat} {v : Int32} (C : Cx γ cc nL ret own rm [(cI, .int), (cZ, .boolean)]) (hl : Cond.fieldLink own index "PackagePickModel" "coreMask" "I" ∈ WB) (hv : u.1 5 = v) (hd : decode cc pc = .ok (.getfield index, 3)) (k : AtG γ (WM cI cZ h) nL cs sl (pc + 3) lv (.int v :: rest) u) : AtG γ (WM cI cZ h) nL cs sl pc lv (.ref (h 0) :: rest) u := by
  subst hv
  exact x_get (q0 := 0) (ci := 4) (kf := 20) C mu_M rfl rfl (by decide) hl rfl hd k
theorem pM_M_coreMask {γ : CX} {cI cZ : ClassId} {h : Nat → Nat} {cc : ByteArray} {nL : Nat} {ret : Option FieldType} {own : String} {rm : Room} {pc : Nat} {lv : List (Nat × Value)} {rest : List Value} {u : PS} {cs sl index : Nat} {v : Int32} (C : Cx γ cc nL ret own rm [(cI, .int), (cZ, .boolean)]) (hl : Cond.fieldLink own index "PackagePickModel" "coreMask" "I" ∈ WB) (hd : decode cc pc = .ok (.putfield index, 3)) (k : AtG γ (WM cI cZ h) nL cs sl (pc + 3) lv rest (si u 5 v)) : AtG γ (WM cI cZ h) nL cs sl pc lv (.int v :: .ref (h 0) :: rest) u :=
  x_put (q0 := 0) (ci := 4) (kf := 20) (ty := .int) C mu_M ft_M_ok fn_M rfl rfl (by decide) hl rfl (by decide +kernel) rfl rfl (Nat.le_of_ble_eq_true rfl) rfl hd k
theorem aldM_1 {γ : CX} {cI cZ : ClassId} {h : Nat → Nat} {cc : ByteArray} {nL : Nat} {ret : Option FieldType} {own : String} {rm : Room} {pc : Nat} {lv : List (Nat × Value)} {rest : List Value} {u : PS} {cs sl : Nat} {i v : Int32} (C : Cx γ cc nL ret own rm [(cI, .int), (cZ, .boolean)]) (hin : inb i 28 = true) (hv : u.2 0 i.toNatClampNeg = v) (hd : decode cc pc = .ok (.baload, 1)) (k : AtG γ (WM cI cZ h) nL cs sl (pc + 1) lv (.int v :: rest) u) : AtG γ (WM cI cZ h) nL cs sl pc lv (.int i :: .ref (h 1) :: rest) u :=
  x_zald (q0 := 1) (t0 := 1) C rfl rfl hin hv hd k
theorem astM_1 {γ : CX} {cI cZ : ClassId} {h : Nat → Nat} {cc : ByteArray} {nL : Nat} {ret : Option FieldType} {own : String} {rm : Room} {pc : Nat} {lv : List (Nat × Value)} {rest : List Value} {u : PS} {cs sl : Nat} {i x : Int32} (C : Cx γ cc nL ret own rm [(cI, .int), (cZ, .boolean)]) (hin : inb i 28 = true) (hz : vp_nar .boolean x = x) (hd : decode cc pc = .ok (.bastore, 1)) (k : AtG γ (WM cI cZ h) nL cs sl (pc + 1) lv rest (sa u 0 i.toNatClampNeg x)) : AtG γ (WM cI cZ h) nL cs sl pc lv (.int x :: .int i :: .ref (h 1) :: rest) u :=
  x_zast (q0 := 1) (t0 := 1) C rfl rfl hin hz rfl hd k
theorem lenM_1 {γ : CX} {cI cZ : ClassId} {h : Nat → Nat} {cc : ByteArray} {nL : Nat} {ret : Option FieldType} {own : String} {rm : Room} {pc : Nat} {lv : List (Nat × Value)} {rest : List Value} {u : PS} {cs sl : Nat} (C : Cx γ cc nL ret own rm [(cI, .int), (cZ, .boolean)]) (hd : decode cc pc = .ok (.arraylength, 1)) (k : AtG γ (WM cI cZ h) nL cs sl (pc + 1) lv (.int 28 :: rest) u) : AtG γ (WM cI cZ h) nL cs sl pc lv (.ref (h 1) :: rest) u :=
  x_alen (q0 := 1) (t0 := 1) C rfl rfl rfl hd k
theorem aldM_2 {γ : CX} {cI cZ : ClassId} {h : Nat → Nat} {cc : ByteArray} {nL : Nat} {ret : Option FieldType} {own : String} {rm : Room} {pc : Nat} {lv : List (Nat × Value)} {rest : List Value} {u : PS} {cs sl : Nat} {i v : Int32} (C : Cx γ cc nL ret own rm [(cI, .int), (cZ, .boolean)]) (hin : inb i 28 = true) (hv : u.2 1 i.toNatClampNeg = v) (hd : decode cc pc = .ok (.iaload, 1)) (k : AtG γ (WM cI cZ h) nL cs sl (pc + 1) lv (.int v :: rest) u) : AtG γ (WM cI cZ h) nL cs sl pc lv (.int i :: .ref (h 2) :: rest) u :=
  x_iald (q0 := 2) (t0 := 0) C rfl rfl hin hv hd k
theorem astM_2 {γ : CX} {cI cZ : ClassId} {h : Nat → Nat} {cc : ByteArray} {nL : Nat} {ret : Option FieldType} {own : String} {rm : Room} {pc : Nat} {lv : List (Nat × Value)} {rest : List Value} {u : PS} {cs sl : Nat} {i x : Int32} (C : Cx γ cc nL ret own rm [(cI, .int), (cZ, .boolean)]) (hin : inb i 28 = true) (hd : decode cc pc = .ok (.iastore, 1)) (k : AtG γ (WM cI cZ h) nL cs sl (pc + 1) lv rest (sa u 1 i.toNatClampNeg x)) : AtG γ (WM cI cZ h) nL cs sl pc lv (.int x :: .int i :: .ref (h 2) :: rest) u :=
  x_iast (q0 := 2) (t0 := 0) C rfl rfl hin rfl hd k
theorem lenM_2 {γ : CX} {cI cZ : ClassId} {h : Nat → Nat} {cc : ByteArray} {nL : Nat} {ret : Option FieldType} {own : String} {rm : Room} {pc : Nat} {lv : List (Nat × Value)} {rest : List Value} {u : PS} {cs sl : Nat} (C : Cx γ cc nL ret own rm [(cI, .int), (cZ, .boolean)]) (hd : decode cc pc = .ok (.arraylength, 1)) (k : AtG γ (WM cI cZ h) nL cs sl (pc + 1) lv (.int 28 :: rest) u) : AtG γ (WM cI cZ h) nL cs sl pc lv (.ref (h 2) :: rest) u :=
  x_alen (q0 := 2) (t0 := 0) C rfl rfl rfl hd k
theorem aldM_3 {γ : CX} {cI cZ : ClassId} {h : Nat → Nat} {cc : ByteArray} {nL : Nat} {ret : Option FieldType} {own : String} {rm : Room} {pc : Nat} {lv : List (Nat × Value)} {rest : List Value} {u : PS} {cs sl : Nat} {i v : Int32} (C : Cx γ cc nL ret own rm [(cI, .int), (cZ, .boolean)]) (hin : inb i 112 = true) (hv : u.2 2 i.toNatClampNeg = v) (hd : decode cc pc = .ok (.iaload, 1)) (k : AtG γ (WM cI cZ h) nL cs sl (pc + 1) lv (.int v :: rest) u) : AtG γ (WM cI cZ h) nL cs sl pc lv (.int i :: .ref (h 3) :: rest) u :=
  x_iald (q0 := 3) (t0 := 0) C rfl rfl hin hv hd k
theorem astM_3 {γ : CX} {cI cZ : ClassId} {h : Nat → Nat} {cc : ByteArray} {nL : Nat} {ret : Option FieldType} {own : String} {rm : Room} {pc : Nat} {lv : List (Nat × Value)} {rest : List Value} {u : PS} {cs sl : Nat} {i x : Int32} (C : Cx γ cc nL ret own rm [(cI, .int), (cZ, .boolean)]) (hin : inb i 112 = true) (hd : decode cc pc = .ok (.iastore, 1)) (k : AtG γ (WM cI cZ h) nL cs sl (pc + 1) lv rest (sa u 2 i.toNatClampNeg x)) : AtG γ (WM cI cZ h) nL cs sl pc lv (.int x :: .int i :: .ref (h 3) :: rest) u :=
  x_iast (q0 := 3) (t0 := 0) C rfl rfl hin rfl hd k
theorem lenM_3 {γ : CX} {cI cZ : ClassId} {h : Nat → Nat} {cc : ByteArray} {nL : Nat} {ret : Option FieldType} {own : String} {rm : Room} {pc : Nat} {lv : List (Nat × Value)} {rest : List Value} {u : PS} {cs sl : Nat} (C : Cx γ cc nL ret own rm [(cI, .int), (cZ, .boolean)]) (hd : decode cc pc = .ok (.arraylength, 1)) (k : AtG γ (WM cI cZ h) nL cs sl (pc + 1) lv (.int 112 :: rest) u) : AtG γ (WM cI cZ h) nL cs sl pc lv (.ref (h 3) :: rest) u :=
  x_alen (q0 := 3) (t0 := 0) C rfl rfl rfl hd k
theorem aldM_4 {γ : CX} {cI cZ : ClassId} {h : Nat → Nat} {cc : ByteArray} {nL : Nat} {ret : Option FieldType} {own : String} {rm : Room} {pc : Nat} {lv : List (Nat × Value)} {rest : List Value} {u : PS} {cs sl : Nat} {i v : Int32} (C : Cx γ cc nL ret own rm [(cI, .int), (cZ, .boolean)]) (hin : inb i 112 = true) (hv : u.2 3 i.toNatClampNeg = v) (hd : decode cc pc = .ok (.iaload, 1)) (k : AtG γ (WM cI cZ h) nL cs sl (pc + 1) lv (.int v :: rest) u) : AtG γ (WM cI cZ h) nL cs sl pc lv (.int i :: .ref (h 4) :: rest) u :=
  x_iald (q0 := 4) (t0 := 0) C rfl rfl hin hv hd k
theorem astM_4 {γ : CX} {cI cZ : ClassId} {h : Nat → Nat} {cc : ByteArray} {nL : Nat} {ret : Option FieldType} {own : String} {rm : Room} {pc : Nat} {lv : List (Nat × Value)} {rest : List Value} {u : PS} {cs sl : Nat} {i x : Int32} (C : Cx γ cc nL ret own rm [(cI, .int), (cZ, .boolean)]) (hin : inb i 112 = true) (hd : decode cc pc = .ok (.iastore, 1)) (k : AtG γ (WM cI cZ h) nL cs sl (pc + 1) lv rest (sa u 3 i.toNatClampNeg x)) : AtG γ (WM cI cZ h) nL cs sl pc lv (.int x :: .int i :: .ref (h 4) :: rest) u :=
  x_iast (q0 := 4) (t0 := 0) C rfl rfl hin rfl hd k
theorem lenM_4 {γ : CX} {cI cZ : ClassId} {h : Nat → Nat} {cc : ByteArray} {nL : Nat} {ret : Option FieldType} {own : String} {rm : Room} {pc : Nat} {lv : List (Nat × Value)} {rest : List Value} {u : PS} {cs sl : Nat} (C : Cx γ cc nL ret own rm [(cI, .int), (cZ, .boolean)]) (hd : decode cc pc = .ok (.arraylength, 1)) (k : AtG γ (WM cI cZ h) nL cs sl (pc + 1) lv (.int 112 :: rest) u) : AtG γ (WM cI cZ h) nL cs sl pc lv (.ref (h 4) :: rest) u :=
  x_alen (q0 := 4) (t0 := 0) C rfl rfl rfl hd k
theorem aldM_5 {γ : CX} {cI cZ : ClassId} {h : Nat → Nat} {cc : ByteArray} {nL : Nat} {ret : Option FieldType} {own : String} {rm : Room} {pc : Nat} {lv : List (Nat × Value)} {rest : List Value} {u : PS} {cs sl : Nat} {i v : Int32} (C : Cx γ cc nL ret own rm [(cI, .int), (cZ, .boolean)]) (hin : inb i 112 = true) (hv : u.2 4 i.toNatClampNeg = v) (hd : decode cc pc = .ok (.iaload, 1)) (k : AtG γ (WM cI cZ h) nL cs sl (pc + 1) lv (.int v :: rest) u) : AtG γ (WM cI cZ h) nL cs sl pc lv (.int i :: .ref (h 5) :: rest) u :=
  x_iald (q0 := 5) (t0 := 0) C rfl rfl hin hv hd k
theorem astM_5 {γ : CX} {cI cZ : ClassId} {h : Nat → Nat} {cc : ByteArray} {nL : Nat} {ret : Option FieldType} {own : String} {rm : Room} {pc : Nat} {lv : List (Nat × Value)} {rest : List Value} {u : PS} {cs sl : Nat} {i x : Int32} (C : Cx γ cc nL ret own rm [(cI, .int), (cZ, .boolean)]) (hin : inb i 112 = true) (hd : decode cc pc = .ok (.iastore, 1)) (k : AtG γ (WM cI cZ h) nL cs sl (pc + 1) lv rest (sa u 4 i.toNatClampNeg x)) : AtG γ (WM cI cZ h) nL cs sl pc lv (.int x :: .int i :: .ref (h 5) :: rest) u :=
  x_iast (q0 := 5) (t0 := 0) C rfl rfl hin rfl hd k
theorem lenM_5 {γ : CX} {cI cZ : ClassId} {h : Nat → Nat} {cc : ByteArray} {nL : Nat} {ret : Option FieldType} {own : String} {rm : Room} {pc : Nat} {lv : List (Nat × Value)} {rest : List Value} {u : PS} {cs sl : Nat} (C : Cx γ cc nL ret own rm [(cI, .int), (cZ, .boolean)]) (hd : decode cc pc = .ok (.arraylength, 1)) (k : AtG γ (WM cI cZ h) nL cs sl (pc + 1) lv (.int 112 :: rest) u) : AtG γ (WM cI cZ h) nL cs sl pc lv (.ref (h 5) :: rest) u :=
  x_alen (q0 := 5) (t0 := 0) C rfl rfl rfl hd k
theorem aldM_6 {γ : CX} {cI cZ : ClassId} {h : Nat → Nat} {cc : ByteArray} {nL : Nat} {ret : Option FieldType} {own : String} {rm : Room} {pc : Nat} {lv : List (Nat × Value)} {rest : List Value} {u : PS} {cs sl : Nat} {i v : Int32} (C : Cx γ cc nL ret own rm [(cI, .int), (cZ, .boolean)]) (hin : inb i 6 = true) (hv : u.2 5 i.toNatClampNeg = v) (hd : decode cc pc = .ok (.iaload, 1)) (k : AtG γ (WM cI cZ h) nL cs sl (pc + 1) lv (.int v :: rest) u) : AtG γ (WM cI cZ h) nL cs sl pc lv (.int i :: .ref (h 6) :: rest) u :=
  x_iald (q0 := 6) (t0 := 0) C rfl rfl hin hv hd k
theorem astM_6 {γ : CX} {cI cZ : ClassId} {h : Nat → Nat} {cc : ByteArray} {nL : Nat} {ret : Option FieldType} {own : String} {rm : Room} {pc : Nat} {lv : List (Nat × Value)} {rest : List Value} {u : PS} {cs sl : Nat} {i x : Int32} (C : Cx γ cc nL ret own rm [(cI, .int), (cZ, .boolean)]) (hin : inb i 6 = true) (hd : decode cc pc = .ok (.iastore, 1)) (k : AtG γ (WM cI cZ h) nL cs sl (pc + 1) lv rest (sa u 5 i.toNatClampNeg x)) : AtG γ (WM cI cZ h) nL cs sl pc lv (.int x :: .int i :: .ref (h 6) :: rest) u :=
  x_iast (q0 := 6) (t0 := 0) C rfl rfl hin rfl hd k
theorem lenM_6 {γ : CX} {cI cZ : ClassId} {h : Nat → Nat} {cc : ByteArray} {nL : Nat} {ret : Option FieldType} {own : String} {rm : Room} {pc : Nat} {lv : List (Nat × Value)} {rest : List Value} {u : PS} {cs sl : Nat} (C : Cx γ cc nL ret own rm [(cI, .int), (cZ, .boolean)]) (hd : decode cc pc = .ok (.arraylength, 1)) (k : AtG γ (WM cI cZ h) nL cs sl (pc + 1) lv (.int 6 :: rest) u) : AtG γ (WM cI cZ h) nL cs sl pc lv (.ref (h 6) :: rest) u :=
  x_alen (q0 := 6) (t0 := 0) C rfl rfl rfl hd k
theorem aldM_7 {γ : CX} {cI cZ : ClassId} {h : Nat → Nat} {cc : ByteArray} {nL : Nat} {ret : Option FieldType} {own : String} {rm : Room} {pc : Nat} {lv : List (Nat × Value)} {rest : List Value} {u : PS} {cs sl : Nat} {i v : Int32} (C : Cx γ cc nL ret own rm [(cI, .int), (cZ, .boolean)]) (hin : inb i 6 = true) (hv : u.2 6 i.toNatClampNeg = v) (hd : decode cc pc = .ok (.iaload, 1)) (k : AtG γ (WM cI cZ h) nL cs sl (pc + 1) lv (.int v :: rest) u) : AtG γ (WM cI cZ h) nL cs sl pc lv (.int i :: .ref (h 7) :: rest) u :=
  x_iald (q0 := 7) (t0 := 0) C rfl rfl hin hv hd k
theorem astM_7 {γ : CX} {cI cZ : ClassId} {h : Nat → Nat} {cc : ByteArray} {nL : Nat} {ret : Option FieldType} {own : String} {rm : Room} {pc : Nat} {lv : List (Nat × Value)} {rest : List Value} {u : PS} {cs sl : Nat} {i x : Int32} (C : Cx γ cc nL ret own rm [(cI, .int), (cZ, .boolean)]) (hin : inb i 6 = true) (hd : decode cc pc = .ok (.iastore, 1)) (k : AtG γ (WM cI cZ h) nL cs sl (pc + 1) lv rest (sa u 6 i.toNatClampNeg x)) : AtG γ (WM cI cZ h) nL cs sl pc lv (.int x :: .int i :: .ref (h 7) :: rest) u :=
  x_iast (q0 := 7) (t0 := 0) C rfl rfl hin rfl hd k
theorem lenM_7 {γ : CX} {cI cZ : ClassId} {h : Nat → Nat} {cc : ByteArray} {nL : Nat} {ret : Option FieldType} {own : String} {rm : Room} {pc : Nat} {lv : List (Nat × Value)} {rest : List Value} {u : PS} {cs sl : Nat} (C : Cx γ cc nL ret own rm [(cI, .int), (cZ, .boolean)]) (hd : decode cc pc = .ok (.arraylength, 1)) (k : AtG γ (WM cI cZ h) nL cs sl (pc + 1) lv (.int 6 :: rest) u) : AtG γ (WM cI cZ h) nL cs sl pc lv (.ref (h 7) :: rest) u :=
  x_alen (q0 := 7) (t0 := 0) C rfl rfl rfl hd k
theorem aldM_8 {γ : CX} {cI cZ : ClassId} {h : Nat → Nat} {cc : ByteArray} {nL : Nat} {ret : Option FieldType} {own : String} {rm : Room} {pc : Nat} {lv : List (Nat × Value)} {rest : List Value} {u : PS} {cs sl : Nat} {i v : Int32} (C : Cx γ cc nL ret own rm [(cI, .int), (cZ, .boolean)]) (hin : inb i 6 = true) (hv : u.2 7 i.toNatClampNeg = v) (hd : decode cc pc = .ok (.iaload, 1)) (k : AtG γ (WM cI cZ h) nL cs sl (pc + 1) lv (.int v :: rest) u) : AtG γ (WM cI cZ h) nL cs sl pc lv (.int i :: .ref (h 8) :: rest) u :=
  x_iald (q0 := 8) (t0 := 0) C rfl rfl hin hv hd k
theorem astM_8 {γ : CX} {cI cZ : ClassId} {h : Nat → Nat} {cc : ByteArray} {nL : Nat} {ret : Option FieldType} {own : String} {rm : Room} {pc : Nat} {lv : List (Nat × Value)} {rest : List Value} {u : PS} {cs sl : Nat} {i x : Int32} (C : Cx γ cc nL ret own rm [(cI, .int), (cZ, .boolean)]) (hin : inb i 6 = true) (hd : decode cc pc = .ok (.iastore, 1)) (k : AtG γ (WM cI cZ h) nL cs sl (pc + 1) lv rest (sa u 7 i.toNatClampNeg x)) : AtG γ (WM cI cZ h) nL cs sl pc lv (.int x :: .int i :: .ref (h 8) :: rest) u :=
  x_iast (q0 := 8) (t0 := 0) C rfl rfl hin rfl hd k
theorem lenM_8 {γ : CX} {cI cZ : ClassId} {h : Nat → Nat} {cc : ByteArray} {nL : Nat} {ret : Option FieldType} {own : String} {rm : Room} {pc : Nat} {lv : List (Nat × Value)} {rest : List Value} {u : PS} {cs sl : Nat} (C : Cx γ cc nL ret own rm [(cI, .int), (cZ, .boolean)]) (hd : decode cc pc = .ok (.arraylength, 1)) (k : AtG γ (WM cI cZ h) nL cs sl (pc + 1) lv (.int 6 :: rest) u) : AtG γ (WM cI cZ h) nL cs sl pc lv (.ref (h 8) :: rest) u :=
  x_alen (q0 := 8) (t0 := 0) C rfl rfl rfl hd k
theorem aldM_9 {γ : CX} {cI cZ : ClassId} {h : Nat → Nat} {cc : ByteArray} {nL : Nat} {ret : Option FieldType} {own : String} {rm : Room} {pc : Nat} {lv : List (Nat × Value)} {rest : List Value} {u : PS} {cs sl : Nat} {i v : Int32} (C : Cx γ cc nL ret own rm [(cI, .int), (cZ, .boolean)]) (hin : inb i 16 = true) (hv : u.2 8 i.toNatClampNeg = v) (hd : decode cc pc = .ok (.iaload, 1)) (k : AtG γ (WM cI cZ h) nL cs sl (pc + 1) lv (.int v :: rest) u) : AtG γ (WM cI cZ h) nL cs sl pc lv (.int i :: .ref (h 9) :: rest) u :=
  x_iald (q0 := 9) (t0 := 0) C rfl rfl hin hv hd k
theorem astM_9 {γ : CX} {cI cZ : ClassId} {h : Nat → Nat} {cc : ByteArray} {nL : Nat} {ret : Option FieldType} {own : String} {rm : Room} {pc : Nat} {lv : List (Nat × Value)} {rest : List Value} {u : PS} {cs sl : Nat} {i x : Int32} (C : Cx γ cc nL ret own rm [(cI, .int), (cZ, .boolean)]) (hin : inb i 16 = true) (hd : decode cc pc = .ok (.iastore, 1)) (k : AtG γ (WM cI cZ h) nL cs sl (pc + 1) lv rest (sa u 8 i.toNatClampNeg x)) : AtG γ (WM cI cZ h) nL cs sl pc lv (.int x :: .int i :: .ref (h 9) :: rest) u :=
  x_iast (q0 := 9) (t0 := 0) C rfl rfl hin rfl hd k
theorem lenM_9 {γ : CX} {cI cZ : ClassId} {h : Nat → Nat} {cc : ByteArray} {nL : Nat} {ret : Option FieldType} {own : String} {rm : Room} {pc : Nat} {lv : List (Nat × Value)} {rest : List Value} {u : PS} {cs sl : Nat} (C : Cx γ cc nL ret own rm [(cI, .int), (cZ, .boolean)]) (hd : decode cc pc = .ok (.arraylength, 1)) (k : AtG γ (WM cI cZ h) nL cs sl (pc + 1) lv (.int 16 :: rest) u) : AtG γ (WM cI cZ h) nL cs sl pc lv (.ref (h 9) :: rest) u :=
  x_alen (q0 := 9) (t0 := 0) C rfl rfl rfl hd k
theorem aldM_10 {γ : CX} {cI cZ : ClassId} {h : Nat → Nat} {cc : ByteArray} {nL : Nat} {ret : Option FieldType} {own : String} {rm : Room} {pc : Nat} {lv : List (Nat × Value)} {rest : List Value} {u : PS} {cs sl : Nat} {i v : Int32} (C : Cx γ cc nL ret own rm [(cI, .int), (cZ, .boolean)]) (hin : inb i 16 = true) (hv : u.2 9 i.toNatClampNeg = v) (hd : decode cc pc = .ok (.iaload, 1)) (k : AtG γ (WM cI cZ h) nL cs sl (pc + 1) lv (.int v :: rest) u) : AtG γ (WM cI cZ h) nL cs sl pc lv (.int i :: .ref (h 10) :: rest) u :=
  x_iald (q0 := 10) (t0 := 0) C rfl rfl hin hv hd k
theorem astM_10 {γ : CX} {cI cZ : ClassId} {h : Nat → Nat} {cc : ByteArray} {nL : Nat} {ret : Option FieldType} {own : String} {rm : Room} {pc : Nat} {lv : List (Nat × Value)} {rest : List Value} {u : PS} {cs sl : Nat} {i x : Int32} (C : Cx γ cc nL ret own rm [(cI, .int), (cZ, .boolean)]) (hin : inb i 16 = true) (hd : decode cc pc = .ok (.iastore, 1)) (k : AtG γ (WM cI cZ h) nL cs sl (pc + 1) lv rest (sa u 9 i.toNatClampNeg x)) : AtG γ (WM cI cZ h) nL cs sl pc lv (.int x :: .int i :: .ref (h 10) :: rest) u :=
  x_iast (q0 := 10) (t0 := 0) C rfl rfl hin rfl hd k
theorem lenM_10 {γ : CX} {cI cZ : ClassId} {h : Nat → Nat} {cc : ByteArray} {nL : Nat} {ret : Option FieldType} {own : String} {rm : Room} {pc : Nat} {lv : List (Nat × Value)} {rest : List Value} {u : PS} {cs sl : Nat} (C : Cx γ cc nL ret own rm [(cI, .int), (cZ, .boolean)]) (hd : decode cc pc = .ok (.arraylength, 1)) (k : AtG γ (WM cI cZ h) nL cs sl (pc + 1) lv (.int 16 :: rest) u) : AtG γ (WM cI cZ h) nL cs sl pc lv (.ref (h 10) :: rest) u :=
  x_alen (q0 := 10) (t0 := 0) C rfl rfl rfl hd k
theorem aldM_11 {γ : CX} {cI cZ : ClassId} {h : Nat → Nat} {cc : ByteArray} {nL : Nat} {ret : Option FieldType} {own : String} {rm : Room} {pc : Nat} {lv : List (Nat × Value)} {rest : List Value} {u : PS} {cs sl : Nat} {i v : Int32} (C : Cx γ cc nL ret own rm [(cI, .int), (cZ, .boolean)]) (hin : inb i 7 = true) (hv : u.2 10 i.toNatClampNeg = v) (hd : decode cc pc = .ok (.iaload, 1)) (k : AtG γ (WM cI cZ h) nL cs sl (pc + 1) lv (.int v :: rest) u) : AtG γ (WM cI cZ h) nL cs sl pc lv (.int i :: .ref (h 11) :: rest) u :=
  x_iald (q0 := 11) (t0 := 0) C rfl rfl hin hv hd k
theorem astM_11 {γ : CX} {cI cZ : ClassId} {h : Nat → Nat} {cc : ByteArray} {nL : Nat} {ret : Option FieldType} {own : String} {rm : Room} {pc : Nat} {lv : List (Nat × Value)} {rest : List Value} {u : PS} {cs sl : Nat} {i x : Int32} (C : Cx γ cc nL ret own rm [(cI, .int), (cZ, .boolean)]) (hin : inb i 7 = true) (hd : decode cc pc = .ok (.iastore, 1)) (k : AtG γ (WM cI cZ h) nL cs sl (pc + 1) lv rest (sa u 10 i.toNatClampNeg x)) : AtG γ (WM cI cZ h) nL cs sl pc lv (.int x :: .int i :: .ref (h 11) :: rest) u :=
  x_iast (q0 := 11) (t0 := 0) C rfl rfl hin rfl hd k
theorem lenM_11 {γ : CX} {cI cZ : ClassId} {h : Nat → Nat} {cc : ByteArray} {nL : Nat} {ret : Option FieldType} {own : String} {rm : Room} {pc : Nat} {lv : List (Nat × Value)} {rest : List Value} {u : PS} {cs sl : Nat} (C : Cx γ cc nL ret own rm [(cI, .int), (cZ, .boolean)]) (hd : decode cc pc = .ok (.arraylength, 1)) (k : AtG γ (WM cI cZ h) nL cs sl (pc + 1) lv (.int 7 :: rest) u) : AtG γ (WM cI cZ h) nL cs sl pc lv (.ref (h 11) :: rest) u :=
  x_alen (q0 := 11) (t0 := 0) C rfl rfl rfl hd k
theorem aldM_12 {γ : CX} {cI cZ : ClassId} {h : Nat → Nat} {cc : ByteArray} {nL : Nat} {ret : Option FieldType} {own : String} {rm : Room} {pc : Nat} {lv : List (Nat × Value)} {rest : List Value} {u : PS} {cs sl : Nat} {i v : Int32} (C : Cx γ cc nL ret own rm [(cI, .int), (cZ, .boolean)]) (hin : inb i 7 = true) (hv : u.2 11 i.toNatClampNeg = v) (hd : decode cc pc = .ok (.baload, 1)) (k : AtG γ (WM cI cZ h) nL cs sl (pc + 1) lv (.int v :: rest) u) : AtG γ (WM cI cZ h) nL cs sl pc lv (.int i :: .ref (h 12) :: rest) u :=
  x_zald (q0 := 12) (t0 := 1) C rfl rfl hin hv hd k
theorem astM_12 {γ : CX} {cI cZ : ClassId} {h : Nat → Nat} {cc : ByteArray} {nL : Nat} {ret : Option FieldType} {own : String} {rm : Room} {pc : Nat} {lv : List (Nat × Value)} {rest : List Value} {u : PS} {cs sl : Nat} {i x : Int32} (C : Cx γ cc nL ret own rm [(cI, .int), (cZ, .boolean)]) (hin : inb i 7 = true) (hz : vp_nar .boolean x = x) (hd : decode cc pc = .ok (.bastore, 1)) (k : AtG γ (WM cI cZ h) nL cs sl (pc + 1) lv rest (sa u 11 i.toNatClampNeg x)) : AtG γ (WM cI cZ h) nL cs sl pc lv (.int x :: .int i :: .ref (h 12) :: rest) u :=
  x_zast (q0 := 12) (t0 := 1) C rfl rfl hin hz rfl hd k
theorem lenM_12 {γ : CX} {cI cZ : ClassId} {h : Nat → Nat} {cc : ByteArray} {nL : Nat} {ret : Option FieldType} {own : String} {rm : Room} {pc : Nat} {lv : List (Nat × Value)} {rest : List Value} {u : PS} {cs sl : Nat} (C : Cx γ cc nL ret own rm [(cI, .int), (cZ, .boolean)]) (hd : decode cc pc = .ok (.arraylength, 1)) (k : AtG γ (WM cI cZ h) nL cs sl (pc + 1) lv (.int 7 :: rest) u) : AtG γ (WM cI cZ h) nL cs sl pc lv (.ref (h 12) :: rest) u :=
  x_alen (q0 := 12) (t0 := 1) C rfl rfl rfl hd k
theorem aldM_13 {γ : CX} {cI cZ : ClassId} {h : Nat → Nat} {cc : ByteArray} {nL : Nat} {ret : Option FieldType} {own : String} {rm : Room} {pc : Nat} {lv : List (Nat × Value)} {rest : List Value} {u : PS} {cs sl : Nat} {i v : Int32} (C : Cx γ cc nL ret own rm [(cI, .int), (cZ, .boolean)]) (hin : inb i 7 = true) (hv : u.2 12 i.toNatClampNeg = v) (hd : decode cc pc = .ok (.iaload, 1)) (k : AtG γ (WM cI cZ h) nL cs sl (pc + 1) lv (.int v :: rest) u) : AtG γ (WM cI cZ h) nL cs sl pc lv (.int i :: .ref (h 13) :: rest) u :=
  x_iald (q0 := 13) (t0 := 0) C rfl rfl hin hv hd k
theorem astM_13 {γ : CX} {cI cZ : ClassId} {h : Nat → Nat} {cc : ByteArray} {nL : Nat} {ret : Option FieldType} {own : String} {rm : Room} {pc : Nat} {lv : List (Nat × Value)} {rest : List Value} {u : PS} {cs sl : Nat} {i x : Int32} (C : Cx γ cc nL ret own rm [(cI, .int), (cZ, .boolean)]) (hin : inb i 7 = true) (hd : decode cc pc = .ok (.iastore, 1)) (k : AtG γ (WM cI cZ h) nL cs sl (pc + 1) lv rest (sa u 12 i.toNatClampNeg x)) : AtG γ (WM cI cZ h) nL cs sl pc lv (.int x :: .int i :: .ref (h 13) :: rest) u :=
  x_iast (q0 := 13) (t0 := 0) C rfl rfl hin rfl hd k
theorem lenM_13 {γ : CX} {cI cZ : ClassId} {h : Nat → Nat} {cc : ByteArray} {nL : Nat} {ret : Option FieldType} {own : String} {rm : Room} {pc : Nat} {lv : List (Nat × Value)} {rest : List Value} {u : PS} {cs sl : Nat} (C : Cx γ cc nL ret own rm [(cI, .int), (cZ, .boolean)]) (hd : decode cc pc = .ok (.arraylength, 1)) (k : AtG γ (WM cI cZ h) nL cs sl (pc + 1) lv (.int 7 :: rest) u) : AtG γ (WM cI cZ h) nL cs sl pc lv (.ref (h 13) :: rest) u :=
  x_alen (q0 := 13) (t0 := 0) C rfl rfl rfl hd k
theorem aldM_14 {γ : CX} {cI cZ : ClassId} {h : Nat → Nat} {cc : ByteArray} {nL : Nat} {ret : Option FieldType} {own : String} {rm : Room} {pc : Nat} {lv : List (Nat × Value)} {rest : List Value} {u : PS} {cs sl : Nat} {i v : Int32} (C : Cx γ cc nL ret own rm [(cI, .int), (cZ, .boolean)]) (hin : inb i 7 = true) (hv : u.2 13 i.toNatClampNeg = v) (hd : decode cc pc = .ok (.iaload, 1)) (k : AtG γ (WM cI cZ h) nL cs sl (pc + 1) lv (.int v :: rest) u) : AtG γ (WM cI cZ h) nL cs sl pc lv (.int i :: .ref (h 14) :: rest) u :=
  x_iald (q0 := 14) (t0 := 0) C rfl rfl hin hv hd k
theorem astM_14 {γ : CX} {cI cZ : ClassId} {h : Nat → Nat} {cc : ByteArray} {nL : Nat} {ret : Option FieldType} {own : String} {rm : Room} {pc : Nat} {lv : List (Nat × Value)} {rest : List Value} {u : PS} {cs sl : Nat} {i x : Int32} (C : Cx γ cc nL ret own rm [(cI, .int), (cZ, .boolean)]) (hin : inb i 7 = true) (hd : decode cc pc = .ok (.iastore, 1)) (k : AtG γ (WM cI cZ h) nL cs sl (pc + 1) lv rest (sa u 13 i.toNatClampNeg x)) : AtG γ (WM cI cZ h) nL cs sl pc lv (.int x :: .int i :: .ref (h 14) :: rest) u :=
  x_iast (q0 := 14) (t0 := 0) C rfl rfl hin rfl hd k
theorem lenM_14 {γ : CX} {cI cZ : ClassId} {h : Nat → Nat} {cc : ByteArray} {nL : Nat} {ret : Option FieldType} {own : String} {rm : Room} {pc : Nat} {lv : List (Nat × Value)} {rest : List Value} {u : PS} {cs sl : Nat} (C : Cx γ cc nL ret own rm [(cI, .int), (cZ, .boolean)]) (hd : decode cc pc = .ok (.arraylength, 1)) (k : AtG γ (WM cI cZ h) nL cs sl (pc + 1) lv (.int 7 :: rest) u) : AtG γ (WM cI cZ h) nL cs sl pc lv (.ref (h 14) :: rest) u :=
  x_alen (q0 := 14) (t0 := 0) C rfl rfl rfl hd k
theorem aldM_15 {γ : CX} {cI cZ : ClassId} {h : Nat → Nat} {cc : ByteArray} {nL : Nat} {ret : Option FieldType} {own : String} {rm : Room} {pc : Nat} {lv : List (Nat × Value)} {rest : List Value} {u : PS} {cs sl : Nat} {i v : Int32} (C : Cx γ cc nL ret own rm [(cI, .int), (cZ, .boolean)]) (hin : inb i 7 = true) (hv : u.2 14 i.toNatClampNeg = v) (hd : decode cc pc = .ok (.iaload, 1)) (k : AtG γ (WM cI cZ h) nL cs sl (pc + 1) lv (.int v :: rest) u) : AtG γ (WM cI cZ h) nL cs sl pc lv (.int i :: .ref (h 15) :: rest) u :=
  x_iald (q0 := 15) (t0 := 0) C rfl rfl hin hv hd k
theorem astM_15 {γ : CX} {cI cZ : ClassId} {h : Nat → Nat} {cc : ByteArray} {nL : Nat} {ret : Option FieldType} {own : String} {rm : Room} {pc : Nat} {lv : List (Nat × Value)} {rest : List Value} {u : PS} {cs sl : Nat} {i x : Int32} (C : Cx γ cc nL ret own rm [(cI, .int), (cZ, .boolean)]) (hin : inb i 7 = true) (hd : decode cc pc = .ok (.iastore, 1)) (k : AtG γ (WM cI cZ h) nL cs sl (pc + 1) lv rest (sa u 14 i.toNatClampNeg x)) : AtG γ (WM cI cZ h) nL cs sl pc lv (.int x :: .int i :: .ref (h 15) :: rest) u :=
  x_iast (q0 := 15) (t0 := 0) C rfl rfl hin rfl hd k
theorem lenM_15 {γ : CX} {cI cZ : ClassId} {h : Nat → Nat} {cc : ByteArray} {nL : Nat} {ret : Option FieldType} {own : String} {rm : Room} {pc : Nat} {lv : List (Nat × Value)} {rest : List Value} {u : PS} {cs sl : Nat} (C : Cx γ cc nL ret own rm [(cI, .int), (cZ, .boolean)]) (hd : decode cc pc = .ok (.arraylength, 1)) (k : AtG γ (WM cI cZ h) nL cs sl (pc + 1) lv (.int 7 :: rest) u) : AtG γ (WM cI cZ h) nL cs sl pc lv (.ref (h 15) :: rest) u :=
  x_alen (q0 := 15) (t0 := 0) C rfl rfl rfl hd k
end
section
-- ---- PackagePickModel.thrown()I
def f_M_thrown (u : PS) : Int32 :=
  (u.1 0)
set_option maxRecDepth 100000 in
set_option maxHeartbeats 4000000 in
theorem w_M_thrown {γ : CX} {cI cZ : ClassId} {h : Nat → Nat} {u : PS} {r0 : Int32} (C : Cx γ b_M_thrown 1 (some .int) "PackagePickModel" (rk 0) [(cI, .int), (cZ, .boolean)]) (hQ : QI γ [(cI, .int), (cZ, .boolean)] (WM cI cZ h) r0 u) (hf : f_M_thrown u = r0) : AtG γ (WM cI cZ h) 1 0 0 0 [(0, .ref (h 0))] [] u := by
  unfold f_M_thrown at hf
  refine x_aload_n C d_M_thrown_0 rfl (k := 0) rfl ?_
  refine gM_M_thrown (v := (u.1 0)) C mf_M_56 rfl d_M_thrown_1 ?_
  exact x_iret C hQ hf rfl d_M_thrown_4
theorem c_M_thrown {l : Launch} {D : va_G} {cI cZ : ClassId} {h : Nat → Nat} (u : PS) : CtI l y_M_thrown b_M_thrown 1 (some .int) (rk 0) D [(cI, .int), (cZ, .boolean)] (WM cI cZ h) [.ref (h 0)] u (f_M_thrown u) u := ct_ofI (by decide) (Nat.le_of_ble_eq_true rfl) (fun γ _ _ C hQ => w_M_thrown C hQ rfl)
-- ---- PackagePickModel.raise(I)I
def f_M_raise (a1 : Int32) (u : PS) : Int32 × PS :=
  ((0 : Int32), (si u 0 a1))
set_option maxRecDepth 100000 in
set_option maxHeartbeats 4000000 in
theorem w_M_raise {γ : CX} {cI cZ : ClassId} {h : Nat → Nat} {r0 : Int32} {u0 : PS} (C : Cx γ b_M_raise 2 (some .int) "PackagePickModel" (rk 0) [(cI, .int), (cZ, .boolean)]) (hQ : QI γ [(cI, .int), (cZ, .boolean)] (WM cI cZ h) r0 u0) (a1 : Int32) (u : PS) (hf : f_M_raise a1 u = (r0, u0)) : AtG γ (WM cI cZ h) 2 0 0 0 [(0, .ref (h 0)), (1, .int a1)] [] u := by
  unfold f_M_raise at hf
  refine x_aload_n C d_M_raise_0 rfl (k := 0) rfl ?_
  refine x_iload_n C d_M_raise_1 rfl (k := 1) rfl ?_
  refine pM_M_thrown C mf_M_56 d_M_raise_2 ?_
  refine x_iconst (v := 0) C d_M_raise_5 (by decide) ?_
  exact x_iret C hQ (Prod.mk.inj hf).1 (Prod.mk.inj hf).2 d_M_raise_6
theorem c_M_raise {l : Launch} {D : va_G} {cI cZ : ClassId} {h : Nat → Nat} (a1 : Int32) (u : PS) : CtI l y_M_raise b_M_raise 2 (some .int) (rk 0) D [(cI, .int), (cZ, .boolean)] (WM cI cZ h) [.ref (h 0), .int a1] u (f_M_raise a1 u).1 (f_M_raise a1 u).2 := ct_ofI (by decide) (Nat.le_of_ble_eq_true rfl) (fun γ _ _ C hQ => w_M_raise C hQ a1 u rfl)
-- ---- PackagePickModel.isPackage(I)Z
def f_M_isPackage (a0 : Int32) : Int32 :=
  if a0 < 0 then
    (0 : Int32)
  else
    if (7 : Int32) ≤ a0 then
      (0 : Int32)
    else
      (1 : Int32)
set_option maxRecDepth 100000 in
set_option maxHeartbeats 4000000 in
theorem w_M_isPackage {γ : CX} {S : Type} {wf : S → va_W} {tys : Tys} {u : S} {r0 : Int32} (C : Cx γ b_M_isPackage 1 (some .boolean) "PackagePickModel" (rk 0) tys) (hQ : QI γ tys wf r0 u) (a0 : Int32) (hf : f_M_isPackage a0 = r0) : AtG γ wf 1 0 0 0 [(0, .int a0)] [] u := by
  unfold f_M_isPackage at hf
  refine x_iload_n C d_M_isPackage_0 rfl (k := 0) rfl ?_
  refine x_if_lt (tgt := 14) C d_M_isPackage_1 (by decide) (fun hc => ?_) (fun hc => ?_)
  · rw [if_pos hc] at hf
    refine x_iconst (v := 0) C d_M_isPackage_14 (by decide) ?_
    exact x_zret C hQ rfl hf rfl d_M_isPackage_15
  · rw [if_neg hc] at hf
    refine x_iload_n C d_M_isPackage_4 rfl (k := 0) rfl ?_
    refine x_bipush (v := 7) C d_M_isPackage_5 (by decide) ?_
    refine x_icmp_ge (tgt := 14) C d_M_isPackage_7 (by decide) (fun hc => ?_) (fun hc => ?_)
    · rw [if_pos hc] at hf
      refine x_iconst (v := 0) C d_M_isPackage_14 (by decide) ?_
      exact x_zret C hQ rfl hf rfl d_M_isPackage_15
    · rw [if_neg hc] at hf
      refine x_iconst (v := 1) C d_M_isPackage_10 (by decide) ?_
      refine x_goto (tgt := 15) C d_M_isPackage_11 (by decide) ?_
      exact x_zret C hQ rfl hf rfl d_M_isPackage_15
theorem c_M_isPackage {S : Type} {l : Launch} {D : va_G} {tys : Tys} {wf : S → va_W} {u : S} (a0 : Int32) : CtI l y_M_isPackage b_M_isPackage 1 (some .boolean) (rk 0) D tys wf [.int a0] u (f_M_isPackage a0) u := ct_ofI (by decide) (Nat.le_of_ble_eq_true rfl) (fun γ _ _ C hQ => w_M_isPackage C hQ a0 rfl)
-- ---- PackagePickModel.isVersion(II)Z
def f_M_isVersion (a0 : Int32) (a1 : Int32) : Int32 :=
  if (f_M_isPackage a0) = 0 then
    (0 : Int32)
  else
    if a1 < 0 then
      (0 : Int32)
    else
      if (4 : Int32) ≤ a1 then
        (0 : Int32)
      else
        (1 : Int32)
set_option maxRecDepth 100000 in
set_option maxHeartbeats 4000000 in
theorem w_M_isVersion {γ : CX} {S : Type} {wf : S → va_W} {tys : Tys} {u : S} {r0 : Int32} (C : Cx γ b_M_isVersion 2 (some .boolean) "PackagePickModel" (rk 1) tys) (hQ : QI γ tys wf r0 u) (a0 : Int32) (a1 : Int32) (hf : f_M_isVersion a0 a1 = r0) : AtG γ wf 2 0 0 0 [(0, .int a0), (1, .int a1)] [] u := by
  unfold f_M_isVersion at hf
  refine x_iload_n C d_M_isVersion_0 rfl (k := 0) rfl ?_
  refine x_callIs (rest := []) C (c_M_isPackage a0) kc_M_isPackage (rok (by decide) (by decide)) mm_M_60 ms_M_isPackage rfl rfl (Nat.le_of_ble_eq_true rfl) d_M_isVersion_1 ?_
  refine x_if_eq (tgt := 20) C d_M_isVersion_4 (by decide) (fun hc => ?_) (fun hc => ?_)
  · rw [if_pos hc] at hf
    refine x_iconst (v := 0) C d_M_isVersion_20 (by decide) ?_
    exact x_zret C hQ rfl hf rfl d_M_isVersion_21
  · rw [if_neg hc] at hf
    refine x_iload_n C d_M_isVersion_7 rfl (k := 1) rfl ?_
    refine x_if_lt (tgt := 20) C d_M_isVersion_8 (by decide) (fun hc => ?_) (fun hc => ?_)
    · rw [if_pos hc] at hf
      refine x_iconst (v := 0) C d_M_isVersion_20 (by decide) ?_
      exact x_zret C hQ rfl hf rfl d_M_isVersion_21
    · rw [if_neg hc] at hf
      refine x_iload_n C d_M_isVersion_11 rfl (k := 1) rfl ?_
      refine x_iconst (v := 4) C d_M_isVersion_12 (by decide) ?_
      refine x_icmp_ge (tgt := 20) C d_M_isVersion_13 (by decide) (fun hc => ?_) (fun hc => ?_)
      · rw [if_pos hc] at hf
        refine x_iconst (v := 0) C d_M_isVersion_20 (by decide) ?_
        exact x_zret C hQ rfl hf rfl d_M_isVersion_21
      · rw [if_neg hc] at hf
        refine x_iconst (v := 1) C d_M_isVersion_16 (by decide) ?_
        refine x_goto (tgt := 21) C d_M_isVersion_17 (by decide) ?_
        exact x_zret C hQ rfl hf rfl d_M_isVersion_21
theorem c_M_isVersion {S : Type} {l : Launch} {D : va_G} {tys : Tys} {wf : S → va_W} {u : S} (a0 : Int32) (a1 : Int32) : CtI l y_M_isVersion b_M_isVersion 2 (some .boolean) (rk 1) D tys wf [.int a0, .int a1] u (f_M_isVersion a0 a1) u := ct_ofI (by decide) (Nat.le_of_ble_eq_true rfl) (fun γ _ _ C hQ => w_M_isVersion C hQ a0 a1 rfl)
-- ---- PackagePickModel.isNeed(III)Z
def f_M_isNeed (a0 : Int32) (a1 : Int32) (a2 : Int32) : Int32 :=
  if (f_M_isPackage a0) = 0 then
    (0 : Int32)
  else
    if a1 < 0 then
      (0 : Int32)
    else
      if (4 : Int32) ≤ a2 then
        (0 : Int32)
      else
        if a2 < a1 then
          (0 : Int32)
        else
          (1 : Int32)
set_option maxRecDepth 100000 in
set_option maxHeartbeats 4000000 in
theorem w_M_isNeed {γ : CX} {S : Type} {wf : S → va_W} {tys : Tys} {u : S} {r0 : Int32} (C : Cx γ b_M_isNeed 3 (some .boolean) "PackagePickModel" (rk 1) tys) (hQ : QI γ tys wf r0 u) (a0 : Int32) (a1 : Int32) (a2 : Int32) (hf : f_M_isNeed a0 a1 a2 = r0) : AtG γ wf 3 0 0 0 [(0, .int a0), (1, .int a1), (2, .int a2)] [] u := by
  unfold f_M_isNeed at hf
  refine x_iload_n C d_M_isNeed_0 rfl (k := 0) rfl ?_
  refine x_callIs (rest := []) C (c_M_isPackage a0) kc_M_isPackage (rok (by decide) (by decide)) mm_M_60 ms_M_isPackage rfl rfl (Nat.le_of_ble_eq_true rfl) d_M_isNeed_1 ?_
  refine x_if_eq (tgt := 25) C d_M_isNeed_4 (by decide) (fun hc => ?_) (fun hc => ?_)
  · rw [if_pos hc] at hf
    refine x_iconst (v := 0) C d_M_isNeed_25 (by decide) ?_
    exact x_zret C hQ rfl hf rfl d_M_isNeed_26
  · rw [if_neg hc] at hf
    refine x_iload_n C d_M_isNeed_7 rfl (k := 1) rfl ?_
    refine x_if_lt (tgt := 25) C d_M_isNeed_8 (by decide) (fun hc => ?_) (fun hc => ?_)
    · rw [if_pos hc] at hf
      refine x_iconst (v := 0) C d_M_isNeed_25 (by decide) ?_
      exact x_zret C hQ rfl hf rfl d_M_isNeed_26
    · rw [if_neg hc] at hf
      refine x_iload_n C d_M_isNeed_11 rfl (k := 2) rfl ?_
      refine x_iconst (v := 4) C d_M_isNeed_12 (by decide) ?_
      refine x_icmp_ge (tgt := 25) C d_M_isNeed_13 (by decide) (fun hc => ?_) (fun hc => ?_)
      · rw [if_pos hc] at hf
        refine x_iconst (v := 0) C d_M_isNeed_25 (by decide) ?_
        exact x_zret C hQ rfl hf rfl d_M_isNeed_26
      · rw [if_neg hc] at hf
        refine x_iload_n C d_M_isNeed_16 rfl (k := 1) rfl ?_
        refine x_iload_n C d_M_isNeed_17 rfl (k := 2) rfl ?_
        refine x_icmp_gt (tgt := 25) C d_M_isNeed_18 (by decide) (fun hc => ?_) (fun hc => ?_)
        · rw [if_pos hc] at hf
          refine x_iconst (v := 0) C d_M_isNeed_25 (by decide) ?_
          exact x_zret C hQ rfl hf rfl d_M_isNeed_26
        · rw [if_neg hc] at hf
          refine x_iconst (v := 1) C d_M_isNeed_21 (by decide) ?_
          refine x_goto (tgt := 26) C d_M_isNeed_22 (by decide) ?_
          exact x_zret C hQ rfl hf rfl d_M_isNeed_26
theorem c_M_isNeed {S : Type} {l : Launch} {D : va_G} {tys : Tys} {wf : S → va_W} {u : S} (a0 : Int32) (a1 : Int32) (a2 : Int32) : CtI l y_M_isNeed b_M_isNeed 3 (some .boolean) (rk 1) D tys wf [.int a0, .int a1, .int a2] u (f_M_isNeed a0 a1 a2) u := ct_ofI (by decide) (Nat.le_of_ble_eq_true rfl) (fun γ _ _ C hQ => w_M_isNeed C hQ a0 a1 a2 rfl)
-- ---- PackagePickModel.version(II)Z
def f_M_version (a1 : Int32) (a2 : Int32) (u : PS) : Option (Int32 × PS) :=
  if (f_M_isVersion a1 a2) = 0 then
    some ((0 : Int32), (si u 0 (0 : Int32)))
  else
    ck (inb (((4 : Int32) * a1) + a2) 28) <|
    if (u.2 0 (((4 : Int32) * a1) + a2).toNatClampNeg) = 0 then
      ck (inb (((4 : Int32) * a1) + a2) 28) <|
      ck (inb (((4 : Int32) * a1) + a2) 28) <|
      some ((1 : Int32), (sa (sa (si u 0 (0 : Int32)) 0 (((4 : Int32) * a1) + a2).toNatClampNeg (1 : Int32)) 1 (((4 : Int32) * a1) + a2).toNatClampNeg (0 : Int32)))
    else
      some ((0 : Int32), (si u 0 (0 : Int32)))
set_option maxRecDepth 100000 in
set_option maxHeartbeats 4000000 in
theorem w_M_version {γ : CX} {cI cZ : ClassId} {h : Nat → Nat} {r0 : Int32} {u0 : PS} (C : Cx γ b_M_version 3 (some .boolean) "PackagePickModel" (rk 2) [(cI, .int), (cZ, .boolean)]) (hQ : QI γ [(cI, .int), (cZ, .boolean)] (WM cI cZ h) r0 u0) (a1 : Int32) (a2 : Int32) (u : PS) (hf : f_M_version a1 a2 u = some (r0, u0)) : AtG γ (WM cI cZ h) 3 0 0 0 [(0, .ref (h 0)), (1, .int a1), (2, .int a2)] [] u := by
  unfold f_M_version at hf
  refine x_aload_n C d_M_version_0 rfl (k := 0) rfl ?_
  refine x_iconst (v := 0) C d_M_version_1 (by decide) ?_
  refine pM_M_thrown C mf_M_56 d_M_version_2 ?_
  refine x_iload_n C d_M_version_5 rfl (k := 1) rfl ?_
  refine x_iload_n C d_M_version_6 rfl (k := 2) rfl ?_
  refine x_callIs (rest := []) C (c_M_isVersion a1 a2) kc_M_isVersion (rok (by decide) (by decide)) mm_M_64 ms_M_isVersion rfl rfl (Nat.le_of_ble_eq_true rfl) d_M_version_7 ?_
  refine x_if_eq (tgt := 26) C d_M_version_10 (by decide) (fun hc => ?_) (fun hc => ?_)
  · rw [if_pos hc] at hf
    refine x_iconst (v := 0) C d_M_version_26 (by decide) ?_
    exact x_zret C hQ rfl (Prod.mk.inj (Option.some.inj hf)).1 (Prod.mk.inj (Option.some.inj hf)).2 d_M_version_27
  · rw [if_neg hc] at hf
    refine x_aload_n C d_M_version_13 rfl (k := 0) rfl ?_
    refine gM_M_there C mf_M_7 d_M_version_14 ?_
    refine x_iconst (v := 4) C d_M_version_17 (by decide) ?_
    refine x_iload_n C d_M_version_18 rfl (k := 1) rfl ?_
    refine x_imul C d_M_version_19 ?_
    refine x_iload_n C d_M_version_20 rfl (k := 2) rfl ?_
    refine x_iadd C d_M_version_21 ?_
    obtain ⟨hin, hf⟩ := ck_some hf
    refine aldM_1 (v := (u.2 0 (((4 : Int32) * a1) + a2).toNatClampNeg)) C hin rfl d_M_version_22 ?_
    refine x_if_eq (tgt := 28) C d_M_version_23 (by decide) (fun hc => ?_) (fun hc => ?_)
    · rw [if_pos hc] at hf
      refine x_aload_n C d_M_version_28 rfl (k := 0) rfl ?_
      refine gM_M_there C mf_M_7 d_M_version_29 ?_
      refine x_iconst (v := 4) C d_M_version_32 (by decide) ?_
      refine x_iload_n C d_M_version_33 rfl (k := 1) rfl ?_
      refine x_imul C d_M_version_34 ?_
      refine x_iload_n C d_M_version_35 rfl (k := 2) rfl ?_
      refine x_iadd C d_M_version_36 ?_
      refine x_iconst (v := 1) C d_M_version_37 (by decide) ?_
      obtain ⟨hin, hf⟩ := ck_some hf
      refine astM_1 C hin rfl d_M_version_38 ?_
      refine x_aload_n C d_M_version_39 rfl (k := 0) rfl ?_
      refine gM_M_needs C mf_M_13 d_M_version_40 ?_
      refine x_iconst (v := 4) C d_M_version_43 (by decide) ?_
      refine x_iload_n C d_M_version_44 rfl (k := 1) rfl ?_
      refine x_imul C d_M_version_45 ?_
      refine x_iload_n C d_M_version_46 rfl (k := 2) rfl ?_
      refine x_iadd C d_M_version_47 ?_
      refine x_iconst (v := 0) C d_M_version_48 (by decide) ?_
      obtain ⟨hin, hf⟩ := ck_some hf
      refine astM_2 C hin d_M_version_49 ?_
      refine x_iconst (v := 1) C d_M_version_50 (by decide) ?_
      exact x_zret C hQ rfl (Prod.mk.inj (Option.some.inj hf)).1 (Prod.mk.inj (Option.some.inj hf)).2 d_M_version_51
    · rw [if_neg hc] at hf
      refine x_iconst (v := 0) C d_M_version_26 (by decide) ?_
      exact x_zret C hQ rfl (Prod.mk.inj (Option.some.inj hf)).1 (Prod.mk.inj (Option.some.inj hf)).2 d_M_version_27
theorem c_M_version {l : Launch} {D : va_G} {cI cZ : ClassId} {h : Nat → Nat} (a1 : Int32) (a2 : Int32) (u : PS) {r0 : Int32 × PS} (hf : f_M_version a1 a2 u = some r0) : CtI l y_M_version b_M_version 3 (some .boolean) (rk 2) D [(cI, .int), (cZ, .boolean)] (WM cI cZ h) [.ref (h 0), .int a1, .int a2] u r0.1 r0.2 := ct_ofI (by decide) (Nat.le_of_ble_eq_true rfl) (fun γ _ _ C hQ => w_M_version C hQ a1 a2 u hf)
-- ---- PackagePickModel.need(IIIII)Z
def f_M_need (a1 : Int32) (a2 : Int32) (a3 : Int32) (a4 : Int32) (a5 : Int32) (u : PS) : Option (Int32 × PS) :=
  if (f_M_isVersion a1 a2) = 0 then
    some ((0 : Int32), (si u 0 (0 : Int32)))
  else
    if (f_M_isNeed a3 a4 a5) = 0 then
      some ((0 : Int32), (si u 0 (0 : Int32)))
    else
      ck (inb (((4 : Int32) * a1) + a2) 28) <|
      if (u.2 0 (((4 : Int32) * a1) + a2).toNatClampNeg) = 0 then
        some ((0 : Int32), (si u 0 (0 : Int32)))
      else
        ck (inb (((4 : Int32) * a1) + a2) 28) <|
        if (u.2 1 (((4 : Int32) * a1) + a2).toNatClampNeg) = (4 : Int32) then
          some ((0 : Int32), (si u 0 (0 : Int32)))
        else
          ck (inb (((4 : Int32) * a1) + a2) 28) <|
          ck (inb (((4 : Int32) * (((4 : Int32) * a1) + a2)) + (u.2 1 (((4 : Int32) * a1) + a2).toNatClampNeg)) 112) <|
          ck (inb (((4 : Int32) * (((4 : Int32) * a1) + a2)) + (u.2 1 (((4 : Int32) * a1) + a2).toNatClampNeg)) 112) <|
          ck (inb (((4 : Int32) * (((4 : Int32) * a1) + a2)) + (u.2 1 (((4 : Int32) * a1) + a2).toNatClampNeg)) 112) <|
          ck (inb (((4 : Int32) * a1) + a2) 28) <|
          ck (inb (((4 : Int32) * a1) + a2) 28) <|
          some ((1 : Int32), (sa (sa (sa (sa (si u 0 (0 : Int32)) 2 (((4 : Int32) * (((4 : Int32) * a1) + a2)) + (u.2 1 (((4 : Int32) * a1) + a2).toNatClampNeg)).toNatClampNeg a3) 3 (((4 : Int32) * (((4 : Int32) * a1) + a2)) + (u.2 1 (((4 : Int32) * a1) + a2).toNatClampNeg)).toNatClampNeg a4) 4 (((4 : Int32) * (((4 : Int32) * a1) + a2)) + (u.2 1 (((4 : Int32) * a1) + a2).toNatClampNeg)).toNatClampNeg a5) 1 (((4 : Int32) * a1) + a2).toNatClampNeg ((u.2 1 (((4 : Int32) * a1) + a2).toNatClampNeg) + (1 : Int32))))
set_option maxRecDepth 100000 in
set_option maxHeartbeats 4000000 in
theorem w_M_need {γ : CX} {cI cZ : ClassId} {h : Nat → Nat} {r0 : Int32} {u0 : PS} (C : Cx γ b_M_need 8 (some .boolean) "PackagePickModel" (rk 2) [(cI, .int), (cZ, .boolean)]) (hQ : QI γ [(cI, .int), (cZ, .boolean)] (WM cI cZ h) r0 u0) (a1 : Int32) (a2 : Int32) (a3 : Int32) (a4 : Int32) (a5 : Int32) (u : PS) (hf : f_M_need a1 a2 a3 a4 a5 u = some (r0, u0)) : AtG γ (WM cI cZ h) 8 0 0 0 [(0, .ref (h 0)), (1, .int a1), (2, .int a2), (3, .int a3), (4, .int a4), (5, .int a5)] [] u := by
  unfold f_M_need at hf
  refine x_aload_n C d_M_need_0 rfl (k := 0) rfl ?_
  refine x_iconst (v := 0) C d_M_need_1 (by decide) ?_
  refine pM_M_thrown C mf_M_56 d_M_need_2 ?_
  refine x_iload_n C d_M_need_5 rfl (k := 1) rfl ?_
  refine x_iload_n C d_M_need_6 rfl (k := 2) rfl ?_
  refine x_callIs (rest := []) C (c_M_isVersion a1 a2) kc_M_isVersion (rok (by decide) (by decide)) mm_M_64 ms_M_isVersion rfl rfl (Nat.le_of_ble_eq_true rfl) d_M_need_7 ?_
  refine x_if_eq (tgt := 24) C d_M_need_10 (by decide) (fun hc => ?_) (fun hc => ?_)
  · rw [if_pos hc] at hf
    refine x_iconst (v := 0) C d_M_need_24 (by decide) ?_
    exact x_zret C hQ rfl (Prod.mk.inj (Option.some.inj hf)).1 (Prod.mk.inj (Option.some.inj hf)).2 d_M_need_25
  · rw [if_neg hc] at hf
    refine x_iload_n C d_M_need_13 rfl (k := 3) rfl ?_
    refine x_iload C d_M_need_14 (k := 4) rfl ?_
    refine x_iload C d_M_need_16 (k := 5) rfl ?_
    refine x_callIs (rest := []) C (c_M_isNeed a3 a4 a5) kc_M_isNeed (rok (by decide) (by decide)) mm_M_68 ms_M_isNeed rfl rfl (Nat.le_of_ble_eq_true rfl) d_M_need_18 ?_
    refine x_if_ne (tgt := 26) C d_M_need_21 (by decide) (fun hc => ?_) (fun hc => ?_)
    · rw [if_neg hc] at hf
      refine x_iconst (v := 4) C d_M_need_26 (by decide) ?_
      refine x_iload_n C d_M_need_27 rfl (k := 1) rfl ?_
      refine x_imul C d_M_need_28 ?_
      refine x_iload_n C d_M_need_29 rfl (k := 2) rfl ?_
      refine x_iadd C d_M_need_30 ?_
      refine x_istore (lv' := [(6, .int (((4 : Int32) * a1) + a2)), (0, .ref (h 0)), (1, .int a1), (2, .int a2), (3, .int a3), (4, .int a4), (5, .int a5)]) C d_M_need_31 (by decide) rfl ?_
      refine x_aload_n C d_M_need_33 rfl (k := 1) rfl ?_
      refine gM_M_there C mf_M_7 d_M_need_34 ?_
      refine x_iload C d_M_need_37 (k := 0) rfl ?_
      obtain ⟨hin, hf⟩ := ck_some hf
      refine aldM_1 (v := (u.2 0 (((4 : Int32) * a1) + a2).toNatClampNeg)) C hin rfl d_M_need_39 ?_
      refine x_if_eq (tgt := 54) C d_M_need_40 (by decide) (fun hc => ?_) (fun hc => ?_)
      · rw [if_pos hc] at hf
        refine x_iconst (v := 0) C d_M_need_54 (by decide) ?_
        exact x_zret C hQ rfl (Prod.mk.inj (Option.some.inj hf)).1 (Prod.mk.inj (Option.some.inj hf)).2 d_M_need_55
      · rw [if_neg hc] at hf
        refine x_aload_n C d_M_need_43 rfl (k := 1) rfl ?_
        refine gM_M_needs C mf_M_13 d_M_need_44 ?_
        refine x_iload C d_M_need_47 (k := 0) rfl ?_
        obtain ⟨hin, hf⟩ := ck_some hf
        refine aldM_2 (v := (u.2 1 (((4 : Int32) * a1) + a2).toNatClampNeg)) C hin rfl d_M_need_49 ?_
        refine x_iconst (v := 4) C d_M_need_50 (by decide) ?_
        refine x_icmp_ne (tgt := 56) C d_M_need_51 (by decide) (fun hc => ?_) (fun hc => ?_)
        · rw [if_neg hc] at hf
          refine x_iconst (v := 4) C d_M_need_56 (by decide) ?_
          refine x_iload C d_M_need_57 (k := 0) rfl ?_
          refine x_imul C d_M_need_59 ?_
          refine x_aload_n C d_M_need_60 rfl (k := 1) rfl ?_
          refine gM_M_needs C mf_M_13 d_M_need_61 ?_
          refine x_iload C d_M_need_64 (k := 0) rfl ?_
          obtain ⟨hin, hf⟩ := ck_some hf
          refine aldM_2 (v := (u.2 1 (((4 : Int32) * a1) + a2).toNatClampNeg)) C hin rfl d_M_need_66 ?_
          refine x_iadd C d_M_need_67 ?_
          refine x_istore (lv' := [(7, .int (((4 : Int32) * (((4 : Int32) * a1) + a2)) + (u.2 1 (((4 : Int32) * a1) + a2).toNatClampNeg))), (6, .int (((4 : Int32) * a1) + a2)), (0, .ref (h 0)), (1, .int a1), (2, .int a2), (3, .int a3), (4, .int a4), (5, .int a5)]) C d_M_need_68 (by decide) rfl ?_
          refine x_aload_n C d_M_need_70 rfl (k := 2) rfl ?_
          refine gM_M_needOf C mf_M_17 d_M_need_71 ?_
          refine x_iload C d_M_need_74 (k := 0) rfl ?_
          refine x_iload_n C d_M_need_76 rfl (k := 5) rfl ?_
          obtain ⟨hin, hf⟩ := ck_some hf
          refine astM_3 C hin d_M_need_77 ?_
          refine x_aload_n C d_M_need_78 rfl (k := 2) rfl ?_
          refine gM_M_needFrom C mf_M_20 d_M_need_79 ?_
          refine x_iload C d_M_need_82 (k := 0) rfl ?_
          refine x_iload C d_M_need_84 (k := 6) rfl ?_
          obtain ⟨hin, hf⟩ := ck_some hf
          refine astM_4 C hin d_M_need_86 ?_
          refine x_aload_n C d_M_need_87 rfl (k := 2) rfl ?_
          refine gM_M_needTo C mf_M_23 d_M_need_88 ?_
          refine x_iload C d_M_need_91 (k := 0) rfl ?_
          refine x_iload C d_M_need_93 (k := 7) rfl ?_
          obtain ⟨hin, hf⟩ := ck_some hf
          refine astM_5 C hin d_M_need_95 ?_
          refine x_aload_n C d_M_need_96 rfl (k := 2) rfl ?_
          refine gM_M_needs C mf_M_13 d_M_need_97 ?_
          refine x_iload C d_M_need_100 (k := 1) rfl ?_
          refine x_dup2 C d_M_need_102 rfl rfl ?_
          obtain ⟨hin, hf⟩ := ck_some hf
          refine aldM_2 (v := (u.2 1 (((4 : Int32) * a1) + a2).toNatClampNeg)) C hin rfl d_M_need_103 ?_
          refine x_iconst (v := 1) C d_M_need_104 (by decide) ?_
          refine x_iadd C d_M_need_105 ?_
          obtain ⟨hin, hf⟩ := ck_some hf
          refine astM_2 C hin d_M_need_106 ?_
          refine x_iconst (v := 1) C d_M_need_107 (by decide) ?_
          exact x_zret C hQ rfl (Prod.mk.inj (Option.some.inj hf)).1 (Prod.mk.inj (Option.some.inj hf)).2 d_M_need_108
        · rw [if_pos hc] at hf
          refine x_iconst (v := 0) C d_M_need_54 (by decide) ?_
          exact x_zret C hQ rfl (Prod.mk.inj (Option.some.inj hf)).1 (Prod.mk.inj (Option.some.inj hf)).2 d_M_need_55
    · rw [if_pos hc] at hf
      refine x_iconst (v := 0) C d_M_need_24 (by decide) ?_
      exact x_zret C hQ rfl (Prod.mk.inj (Option.some.inj hf)).1 (Prod.mk.inj (Option.some.inj hf)).2 d_M_need_25
theorem c_M_need {l : Launch} {D : va_G} {cI cZ : ClassId} {h : Nat → Nat} (a1 : Int32) (a2 : Int32) (a3 : Int32) (a4 : Int32) (a5 : Int32) (u : PS) {r0 : Int32 × PS} (hf : f_M_need a1 a2 a3 a4 a5 u = some r0) : CtI l y_M_need b_M_need 8 (some .boolean) (rk 2) D [(cI, .int), (cZ, .boolean)] (WM cI cZ h) [.ref (h 0), .int a1, .int a2, .int a3, .int a4, .int a5] u r0.1 r0.2 := ct_ofI (by decide) (Nat.le_of_ble_eq_true rfl) (fun γ _ _ C hQ => w_M_need C hQ a1 a2 a3 a4 a5 u hf)
-- ---- PackagePickModel.drop(II)Z
def f_M_drop (a1 : Int32) (a2 : Int32) (u : PS) : Option (Int32 × PS) :=
  if (f_M_isVersion a1 a2) = 0 then
    some ((0 : Int32), (si u 0 (0 : Int32)))
  else
    ck (inb (((4 : Int32) * a1) + a2) 28) <|
    if (u.2 0 (((4 : Int32) * a1) + a2).toNatClampNeg) = 0 then
      some ((0 : Int32), (si u 0 (0 : Int32)))
    else
      ck (inb (((4 : Int32) * a1) + a2) 28) <|
      ck (inb (((4 : Int32) * a1) + a2) 28) <|
      some ((1 : Int32), (sa (sa (si u 0 (0 : Int32)) 0 (((4 : Int32) * a1) + a2).toNatClampNeg (0 : Int32)) 1 (((4 : Int32) * a1) + a2).toNatClampNeg (0 : Int32)))
set_option maxRecDepth 100000 in
set_option maxHeartbeats 4000000 in
theorem w_M_drop {γ : CX} {cI cZ : ClassId} {h : Nat → Nat} {r0 : Int32} {u0 : PS} (C : Cx γ b_M_drop 3 (some .boolean) "PackagePickModel" (rk 2) [(cI, .int), (cZ, .boolean)]) (hQ : QI γ [(cI, .int), (cZ, .boolean)] (WM cI cZ h) r0 u0) (a1 : Int32) (a2 : Int32) (u : PS) (hf : f_M_drop a1 a2 u = some (r0, u0)) : AtG γ (WM cI cZ h) 3 0 0 0 [(0, .ref (h 0)), (1, .int a1), (2, .int a2)] [] u := by
  unfold f_M_drop at hf
  refine x_aload_n C d_M_drop_0 rfl (k := 0) rfl ?_
  refine x_iconst (v := 0) C d_M_drop_1 (by decide) ?_
  refine pM_M_thrown C mf_M_56 d_M_drop_2 ?_
  refine x_iload_n C d_M_drop_5 rfl (k := 1) rfl ?_
  refine x_iload_n C d_M_drop_6 rfl (k := 2) rfl ?_
  refine x_callIs (rest := []) C (c_M_isVersion a1 a2) kc_M_isVersion (rok (by decide) (by decide)) mm_M_64 ms_M_isVersion rfl rfl (Nat.le_of_ble_eq_true rfl) d_M_drop_7 ?_
  refine x_if_eq (tgt := 26) C d_M_drop_10 (by decide) (fun hc => ?_) (fun hc => ?_)
  · rw [if_pos hc] at hf
    refine x_iconst (v := 0) C d_M_drop_26 (by decide) ?_
    exact x_zret C hQ rfl (Prod.mk.inj (Option.some.inj hf)).1 (Prod.mk.inj (Option.some.inj hf)).2 d_M_drop_27
  · rw [if_neg hc] at hf
    refine x_aload_n C d_M_drop_13 rfl (k := 0) rfl ?_
    refine gM_M_there C mf_M_7 d_M_drop_14 ?_
    refine x_iconst (v := 4) C d_M_drop_17 (by decide) ?_
    refine x_iload_n C d_M_drop_18 rfl (k := 1) rfl ?_
    refine x_imul C d_M_drop_19 ?_
    refine x_iload_n C d_M_drop_20 rfl (k := 2) rfl ?_
    refine x_iadd C d_M_drop_21 ?_
    obtain ⟨hin, hf⟩ := ck_some hf
    refine aldM_1 (v := (u.2 0 (((4 : Int32) * a1) + a2).toNatClampNeg)) C hin rfl d_M_drop_22 ?_
    refine x_if_ne (tgt := 28) C d_M_drop_23 (by decide) (fun hc => ?_) (fun hc => ?_)
    · rw [if_neg hc] at hf
      refine x_aload_n C d_M_drop_28 rfl (k := 0) rfl ?_
      refine gM_M_there C mf_M_7 d_M_drop_29 ?_
      refine x_iconst (v := 4) C d_M_drop_32 (by decide) ?_
      refine x_iload_n C d_M_drop_33 rfl (k := 1) rfl ?_
      refine x_imul C d_M_drop_34 ?_
      refine x_iload_n C d_M_drop_35 rfl (k := 2) rfl ?_
      refine x_iadd C d_M_drop_36 ?_
      refine x_iconst (v := 0) C d_M_drop_37 (by decide) ?_
      obtain ⟨hin, hf⟩ := ck_some hf
      refine astM_1 C hin rfl d_M_drop_38 ?_
      refine x_aload_n C d_M_drop_39 rfl (k := 0) rfl ?_
      refine gM_M_needs C mf_M_13 d_M_drop_40 ?_
      refine x_iconst (v := 4) C d_M_drop_43 (by decide) ?_
      refine x_iload_n C d_M_drop_44 rfl (k := 1) rfl ?_
      refine x_imul C d_M_drop_45 ?_
      refine x_iload_n C d_M_drop_46 rfl (k := 2) rfl ?_
      refine x_iadd C d_M_drop_47 ?_
      refine x_iconst (v := 0) C d_M_drop_48 (by decide) ?_
      obtain ⟨hin, hf⟩ := ck_some hf
      refine astM_2 C hin d_M_drop_49 ?_
      refine x_iconst (v := 1) C d_M_drop_50 (by decide) ?_
      exact x_zret C hQ rfl (Prod.mk.inj (Option.some.inj hf)).1 (Prod.mk.inj (Option.some.inj hf)).2 d_M_drop_51
    · rw [if_pos hc] at hf
      refine x_iconst (v := 0) C d_M_drop_26 (by decide) ?_
      exact x_zret C hQ rfl (Prod.mk.inj (Option.some.inj hf)).1 (Prod.mk.inj (Option.some.inj hf)).2 d_M_drop_27
theorem c_M_drop {l : Launch} {D : va_G} {cI cZ : ClassId} {h : Nat → Nat} (a1 : Int32) (a2 : Int32) (u : PS) {r0 : Int32 × PS} (hf : f_M_drop a1 a2 u = some r0) : CtI l y_M_drop b_M_drop 3 (some .boolean) (rk 2) D [(cI, .int), (cZ, .boolean)] (WM cI cZ h) [.ref (h 0), .int a1, .int a2] u r0.1 r0.2 := ct_ofI (by decide) (Nat.le_of_ble_eq_true rfl) (fun γ _ _ C hQ => w_M_drop C hQ a1 a2 u hf)
-- ---- PackagePickModel.ban(IIII)Z
def f_M_ban (a1 : Int32) (a2 : Int32) (a3 : Int32) (a4 : Int32) (u : PS) : Option (Int32 × PS) :=
  if (f_M_isVersion a1 a2) = 0 then
    some ((0 : Int32), (si u 0 (0 : Int32)))
  else
    if (f_M_isVersion a3 a4) = 0 then
      some ((0 : Int32), (si u 0 (0 : Int32)))
    else
      if a1 = a3 then
        some ((0 : Int32), (si u 0 (0 : Int32)))
      else
        if (u.1 2) = (16 : Int32) then
          some ((0 : Int32), (si u 0 (0 : Int32)))
        else
          ck (inb (u.1 2) 16) <|
          ck (inb (u.1 2) 16) <|
          some ((1 : Int32), (si (sa (sa (si u 0 (0 : Int32)) 8 (u.1 2).toNatClampNeg (((4 : Int32) * a1) + a2)) 9 (u.1 2).toNatClampNeg (((4 : Int32) * a3) + a4)) 2 ((u.1 2) + (1 : Int32))))
set_option maxRecDepth 100000 in
set_option maxHeartbeats 4000000 in
theorem w_M_ban {γ : CX} {cI cZ : ClassId} {h : Nat → Nat} {r0 : Int32} {u0 : PS} (C : Cx γ b_M_ban 5 (some .boolean) "PackagePickModel" (rk 2) [(cI, .int), (cZ, .boolean)]) (hQ : QI γ [(cI, .int), (cZ, .boolean)] (WM cI cZ h) r0 u0) (a1 : Int32) (a2 : Int32) (a3 : Int32) (a4 : Int32) (u : PS) (hf : f_M_ban a1 a2 a3 a4 u = some (r0, u0)) : AtG γ (WM cI cZ h) 5 0 0 0 [(0, .ref (h 0)), (1, .int a1), (2, .int a2), (3, .int a3), (4, .int a4)] [] u := by
  unfold f_M_ban at hf
  refine x_aload_n C d_M_ban_0 rfl (k := 0) rfl ?_
  refine x_iconst (v := 0) C d_M_ban_1 (by decide) ?_
  refine pM_M_thrown C mf_M_56 d_M_ban_2 ?_
  refine x_iload_n C d_M_ban_5 rfl (k := 1) rfl ?_
  refine x_iload_n C d_M_ban_6 rfl (k := 2) rfl ?_
  refine x_callIs (rest := []) C (c_M_isVersion a1 a2) kc_M_isVersion (rok (by decide) (by decide)) mm_M_64 ms_M_isVersion rfl rfl (Nat.le_of_ble_eq_true rfl) d_M_ban_7 ?_
  refine x_if_eq (tgt := 36) C d_M_ban_10 (by decide) (fun hc => ?_) (fun hc => ?_)
  · rw [if_pos hc] at hf
    refine x_iconst (v := 0) C d_M_ban_36 (by decide) ?_
    exact x_zret C hQ rfl (Prod.mk.inj (Option.some.inj hf)).1 (Prod.mk.inj (Option.some.inj hf)).2 d_M_ban_37
  · rw [if_neg hc] at hf
    refine x_iload_n C d_M_ban_13 rfl (k := 3) rfl ?_
    refine x_iload C d_M_ban_14 (k := 4) rfl ?_
    refine x_callIs (rest := []) C (c_M_isVersion a3 a4) kc_M_isVersion (rok (by decide) (by decide)) mm_M_64 ms_M_isVersion rfl rfl (Nat.le_of_ble_eq_true rfl) d_M_ban_16 ?_
    refine x_if_eq (tgt := 36) C d_M_ban_19 (by decide) (fun hc => ?_) (fun hc => ?_)
    · rw [if_pos hc] at hf
      refine x_iconst (v := 0) C d_M_ban_36 (by decide) ?_
      exact x_zret C hQ rfl (Prod.mk.inj (Option.some.inj hf)).1 (Prod.mk.inj (Option.some.inj hf)).2 d_M_ban_37
    · rw [if_neg hc] at hf
      refine x_iload_n C d_M_ban_22 rfl (k := 1) rfl ?_
      refine x_iload_n C d_M_ban_23 rfl (k := 3) rfl ?_
      refine x_icmp_eq (tgt := 36) C d_M_ban_24 (by decide) (fun hc => ?_) (fun hc => ?_)
      · rw [if_pos hc] at hf
        refine x_iconst (v := 0) C d_M_ban_36 (by decide) ?_
        exact x_zret C hQ rfl (Prod.mk.inj (Option.some.inj hf)).1 (Prod.mk.inj (Option.some.inj hf)).2 d_M_ban_37
      · rw [if_neg hc] at hf
        refine x_aload_n C d_M_ban_27 rfl (k := 0) rfl ?_
        refine gM_M_bans (v := (u.1 2)) C mf_M_72 rfl d_M_ban_28 ?_
        refine x_bipush (v := 16) C d_M_ban_31 (by decide) ?_
        refine x_icmp_ne (tgt := 38) C d_M_ban_33 (by decide) (fun hc => ?_) (fun hc => ?_)
        · rw [if_neg hc] at hf
          refine x_aload_n C d_M_ban_38 rfl (k := 0) rfl ?_
          refine gM_M_banOne C mf_M_35 d_M_ban_39 ?_
          refine x_aload_n C d_M_ban_42 rfl (k := 0) rfl ?_
          refine gM_M_bans (v := (u.1 2)) C mf_M_72 rfl d_M_ban_43 ?_
          refine x_iconst (v := 4) C d_M_ban_46 (by decide) ?_
          refine x_iload_n C d_M_ban_47 rfl (k := 1) rfl ?_
          refine x_imul C d_M_ban_48 ?_
          refine x_iload_n C d_M_ban_49 rfl (k := 2) rfl ?_
          refine x_iadd C d_M_ban_50 ?_
          obtain ⟨hin, hf⟩ := ck_some hf
          refine astM_9 C hin d_M_ban_51 ?_
          refine x_aload_n C d_M_ban_52 rfl (k := 0) rfl ?_
          refine gM_M_banTwo C mf_M_38 d_M_ban_53 ?_
          refine x_aload_n C d_M_ban_56 rfl (k := 0) rfl ?_
          refine gM_M_bans (v := (u.1 2)) C mf_M_72 rfl d_M_ban_57 ?_
          refine x_iconst (v := 4) C d_M_ban_60 (by decide) ?_
          refine x_iload_n C d_M_ban_61 rfl (k := 3) rfl ?_
          refine x_imul C d_M_ban_62 ?_
          refine x_iload C d_M_ban_63 (k := 4) rfl ?_
          refine x_iadd C d_M_ban_65 ?_
          obtain ⟨hin, hf⟩ := ck_some hf
          refine astM_10 C hin d_M_ban_66 ?_
          refine x_aload_n C d_M_ban_67 rfl (k := 0) rfl ?_
          refine x_dup C d_M_ban_68 rfl ?_
          refine gM_M_bans (v := (u.1 2)) C mf_M_72 rfl d_M_ban_69 ?_
          refine x_iconst (v := 1) C d_M_ban_72 (by decide) ?_
          refine x_iadd C d_M_ban_73 ?_
          refine pM_M_bans C mf_M_72 d_M_ban_74 ?_
          refine x_iconst (v := 1) C d_M_ban_77 (by decide) ?_
          exact x_zret C hQ rfl (Prod.mk.inj (Option.some.inj hf)).1 (Prod.mk.inj (Option.some.inj hf)).2 d_M_ban_78
        · rw [if_pos hc] at hf
          refine x_iconst (v := 0) C d_M_ban_36 (by decide) ?_
          exact x_zret C hQ rfl (Prod.mk.inj (Option.some.inj hf)).1 (Prod.mk.inj (Option.some.inj hf)).2 d_M_ban_37
theorem c_M_ban {l : Launch} {D : va_G} {cI cZ : ClassId} {h : Nat → Nat} (a1 : Int32) (a2 : Int32) (a3 : Int32) (a4 : Int32) (u : PS) {r0 : Int32 × PS} (hf : f_M_ban a1 a2 a3 a4 u = some r0) : CtI l y_M_ban b_M_ban 5 (some .boolean) (rk 2) D [(cI, .int), (cZ, .boolean)] (WM cI cZ h) [.ref (h 0), .int a1, .int a2, .int a3, .int a4] u r0.1 r0.2 := ct_ofI (by decide) (Nat.le_of_ble_eq_true rfl) (fun γ _ _ C hQ => w_M_ban C hQ a1 a2 a3 a4 u hf)
-- ---- PackagePickModel.ask(III)Z
def f_M_ask (a1 : Int32) (a2 : Int32) (a3 : Int32) (u : PS) : Option (Int32 × PS) :=
  if (f_M_isNeed a1 a2 a3) = 0 then
    some ((0 : Int32), (si u 0 (0 : Int32)))
  else
    if (u.1 1) = (6 : Int32) then
      some ((0 : Int32), (si u 0 (0 : Int32)))
    else
      ck (inb (u.1 1) 6) <|
      ck (inb (u.1 1) 6) <|
      ck (inb (u.1 1) 6) <|
      some ((1 : Int32), (si (sa (sa (sa (si u 0 (0 : Int32)) 5 (u.1 1).toNatClampNeg a1) 6 (u.1 1).toNatClampNeg a2) 7 (u.1 1).toNatClampNeg a3) 1 ((u.1 1) + (1 : Int32))))
set_option maxRecDepth 100000 in
set_option maxHeartbeats 4000000 in
theorem w_M_ask {γ : CX} {cI cZ : ClassId} {h : Nat → Nat} {r0 : Int32} {u0 : PS} (C : Cx γ b_M_ask 4 (some .boolean) "PackagePickModel" (rk 2) [(cI, .int), (cZ, .boolean)]) (hQ : QI γ [(cI, .int), (cZ, .boolean)] (WM cI cZ h) r0 u0) (a1 : Int32) (a2 : Int32) (a3 : Int32) (u : PS) (hf : f_M_ask a1 a2 a3 u = some (r0, u0)) : AtG γ (WM cI cZ h) 4 0 0 0 [(0, .ref (h 0)), (1, .int a1), (2, .int a2), (3, .int a3)] [] u := by
  unfold f_M_ask at hf
  refine x_aload_n C d_M_ask_0 rfl (k := 0) rfl ?_
  refine x_iconst (v := 0) C d_M_ask_1 (by decide) ?_
  refine pM_M_thrown C mf_M_56 d_M_ask_2 ?_
  refine x_iload_n C d_M_ask_5 rfl (k := 1) rfl ?_
  refine x_iload_n C d_M_ask_6 rfl (k := 2) rfl ?_
  refine x_iload_n C d_M_ask_7 rfl (k := 3) rfl ?_
  refine x_callIs (rest := []) C (c_M_isNeed a1 a2 a3) kc_M_isNeed (rok (by decide) (by decide)) mm_M_68 ms_M_isNeed rfl rfl (Nat.le_of_ble_eq_true rfl) d_M_ask_8 ?_
  refine x_if_eq (tgt := 23) C d_M_ask_11 (by decide) (fun hc => ?_) (fun hc => ?_)
  · rw [if_pos hc] at hf
    refine x_iconst (v := 0) C d_M_ask_23 (by decide) ?_
    exact x_zret C hQ rfl (Prod.mk.inj (Option.some.inj hf)).1 (Prod.mk.inj (Option.some.inj hf)).2 d_M_ask_24
  · rw [if_neg hc] at hf
    refine x_aload_n C d_M_ask_14 rfl (k := 0) rfl ?_
    refine gM_M_asked (v := (u.1 1)) C mf_M_75 rfl d_M_ask_15 ?_
    refine x_bipush (v := 6) C d_M_ask_18 (by decide) ?_
    refine x_icmp_ne (tgt := 25) C d_M_ask_20 (by decide) (fun hc => ?_) (fun hc => ?_)
    · rw [if_neg hc] at hf
      refine x_aload_n C d_M_ask_25 rfl (k := 0) rfl ?_
      refine gM_M_askedOf C mf_M_26 d_M_ask_26 ?_
      refine x_aload_n C d_M_ask_29 rfl (k := 0) rfl ?_
      refine gM_M_asked (v := (u.1 1)) C mf_M_75 rfl d_M_ask_30 ?_
      refine x_iload_n C d_M_ask_33 rfl (k := 1) rfl ?_
      obtain ⟨hin, hf⟩ := ck_some hf
      refine astM_6 C hin d_M_ask_34 ?_
      refine x_aload_n C d_M_ask_35 rfl (k := 0) rfl ?_
      refine gM_M_askedFrom C mf_M_29 d_M_ask_36 ?_
      refine x_aload_n C d_M_ask_39 rfl (k := 0) rfl ?_
      refine gM_M_asked (v := (u.1 1)) C mf_M_75 rfl d_M_ask_40 ?_
      refine x_iload_n C d_M_ask_43 rfl (k := 2) rfl ?_
      obtain ⟨hin, hf⟩ := ck_some hf
      refine astM_7 C hin d_M_ask_44 ?_
      refine x_aload_n C d_M_ask_45 rfl (k := 0) rfl ?_
      refine gM_M_askedTo C mf_M_32 d_M_ask_46 ?_
      refine x_aload_n C d_M_ask_49 rfl (k := 0) rfl ?_
      refine gM_M_asked (v := (u.1 1)) C mf_M_75 rfl d_M_ask_50 ?_
      refine x_iload_n C d_M_ask_53 rfl (k := 3) rfl ?_
      obtain ⟨hin, hf⟩ := ck_some hf
      refine astM_8 C hin d_M_ask_54 ?_
      refine x_aload_n C d_M_ask_55 rfl (k := 0) rfl ?_
      refine x_dup C d_M_ask_56 rfl ?_
      refine gM_M_asked (v := (u.1 1)) C mf_M_75 rfl d_M_ask_57 ?_
      refine x_iconst (v := 1) C d_M_ask_60 (by decide) ?_
      refine x_iadd C d_M_ask_61 ?_
      refine pM_M_asked C mf_M_75 d_M_ask_62 ?_
      refine x_iconst (v := 1) C d_M_ask_65 (by decide) ?_
      exact x_zret C hQ rfl (Prod.mk.inj (Option.some.inj hf)).1 (Prod.mk.inj (Option.some.inj hf)).2 d_M_ask_66
    · rw [if_pos hc] at hf
      refine x_iconst (v := 0) C d_M_ask_23 (by decide) ?_
      exact x_zret C hQ rfl (Prod.mk.inj (Option.some.inj hf)).1 (Prod.mk.inj (Option.some.inj hf)).2 d_M_ask_24
theorem c_M_ask {l : Launch} {D : va_G} {cI cZ : ClassId} {h : Nat → Nat} (a1 : Int32) (a2 : Int32) (a3 : Int32) (u : PS) {r0 : Int32 × PS} (hf : f_M_ask a1 a2 a3 u = some r0) : CtI l y_M_ask b_M_ask 4 (some .boolean) (rk 2) D [(cI, .int), (cZ, .boolean)] (WM cI cZ h) [.ref (h 0), .int a1, .int a2, .int a3] u r0.1 r0.2 := ct_ofI (by decide) (Nat.le_of_ble_eq_true rfl) (fun γ _ _ C hQ => w_M_ask C hQ a1 a2 a3 u hf)
-- ---- PackagePickModel.take(I)Z
def b_M_take_21 (k21 : Int32 → PS → Option (Int32 × PS)) (x2 : Int32) (u : PS) : Option (Int32 × PS) :=
  if (u.1 1) ≤ (x2 + (1 : Int32)) then
    some ((1 : Int32), (si u 1 ((u.1 1) - (1 : Int32))))
  else
    ck (inb (x2 + (1 : Int32)) 6) <|
    ck (inb x2 6) <|
    ck (inb (x2 + (1 : Int32)) 6) <|
    ck (inb x2 6) <|
    ck (inb (x2 + (1 : Int32)) 6) <|
    ck (inb x2 6) <|
    k21 (x2 + (1 : Int32)) (sa (sa (sa u 5 x2.toNatClampNeg (u.2 5 (x2 + (1 : Int32)).toNatClampNeg)) 6 x2.toNatClampNeg (u.2 6 (x2 + (1 : Int32)).toNatClampNeg)) 7 x2.toNatClampNeg (u.2 7 (x2 + (1 : Int32)).toNatClampNeg))
set_option maxRecDepth 100000 in
set_option maxHeartbeats 4000000 in
theorem w_M_take_21 {γ : CX} {cI cZ : ClassId} {h : Nat → Nat} {r0 : Int32} {u0 : PS} (C : Cx γ b_M_take 3 (some .boolean) "PackagePickModel" (rk 0) [(cI, .int), (cZ, .boolean)]) (hQ : QI γ [(cI, .int), (cZ, .boolean)] (WM cI cZ h) r0 u0) (k21 : Int32 → PS → Option (Int32 × PS)) (hk21 : ∀ (x2 : Int32) (u : PS), k21 x2 u = some (r0, u0) → AtG γ (WM cI cZ h) 3 0 0 21 [(0, .ref (h 0)), (2, .int x2)] [] u) (x2 : Int32) (u : PS) (hf : b_M_take_21 k21 x2 u = some (r0, u0)) : AtG γ (WM cI cZ h) 3 0 0 21 [(0, .ref (h 0)), (2, .int x2)] [] u := by
  unfold b_M_take_21 at hf
  refine x_iload_n C d_M_take_21 rfl (k := 1) rfl ?_
  refine x_iconst (v := 1) C d_M_take_22 (by decide) ?_
  refine x_iadd C d_M_take_23 ?_
  refine x_aload_n C d_M_take_24 rfl (k := 0) rfl ?_
  refine gM_M_asked (v := (u.1 1)) C mf_M_75 rfl d_M_take_25 ?_
  refine x_icmp_ge (tgt := 79) C d_M_take_28 (by decide) (fun hc => ?_) (fun hc => ?_)
  · rw [if_pos hc] at hf
    refine x_aload_n C d_M_take_79 rfl (k := 0) rfl ?_
    refine x_dup C d_M_take_80 rfl ?_
    refine gM_M_asked (v := (u.1 1)) C mf_M_75 rfl d_M_take_81 ?_
    refine x_iconst (v := 1) C d_M_take_84 (by decide) ?_
    refine x_isub C d_M_take_85 ?_
    refine pM_M_asked C mf_M_75 d_M_take_86 ?_
    refine x_iconst (v := 1) C d_M_take_89 (by decide) ?_
    exact x_zret C hQ rfl (Prod.mk.inj (Option.some.inj hf)).1 (Prod.mk.inj (Option.some.inj hf)).2 d_M_take_90
  · rw [if_neg hc] at hf
    refine x_aload_n C d_M_take_31 rfl (k := 0) rfl ?_
    refine gM_M_askedOf C mf_M_26 d_M_take_32 ?_
    refine x_iload_n C d_M_take_35 rfl (k := 1) rfl ?_
    refine x_aload_n C d_M_take_36 rfl (k := 0) rfl ?_
    refine gM_M_askedOf C mf_M_26 d_M_take_37 ?_
    refine x_iload_n C d_M_take_40 rfl (k := 1) rfl ?_
    refine x_iconst (v := 1) C d_M_take_41 (by decide) ?_
    refine x_iadd C d_M_take_42 ?_
    obtain ⟨hin, hf⟩ := ck_some hf
    refine aldM_6 (v := (u.2 5 (x2 + (1 : Int32)).toNatClampNeg)) C hin rfl d_M_take_43 ?_
    obtain ⟨hin, hf⟩ := ck_some hf
    refine astM_6 C hin d_M_take_44 ?_
    refine x_aload_n C d_M_take_45 rfl (k := 0) rfl ?_
    refine gM_M_askedFrom C mf_M_29 d_M_take_46 ?_
    refine x_iload_n C d_M_take_49 rfl (k := 1) rfl ?_
    refine x_aload_n C d_M_take_50 rfl (k := 0) rfl ?_
    refine gM_M_askedFrom C mf_M_29 d_M_take_51 ?_
    refine x_iload_n C d_M_take_54 rfl (k := 1) rfl ?_
    refine x_iconst (v := 1) C d_M_take_55 (by decide) ?_
    refine x_iadd C d_M_take_56 ?_
    obtain ⟨hin, hf⟩ := ck_some hf
    refine aldM_7 (v := (u.2 6 (x2 + (1 : Int32)).toNatClampNeg)) C hin rfl d_M_take_57 ?_
    obtain ⟨hin, hf⟩ := ck_some hf
    refine astM_7 C hin d_M_take_58 ?_
    refine x_aload_n C d_M_take_59 rfl (k := 0) rfl ?_
    refine gM_M_askedTo C mf_M_32 d_M_take_60 ?_
    refine x_iload_n C d_M_take_63 rfl (k := 1) rfl ?_
    refine x_aload_n C d_M_take_64 rfl (k := 0) rfl ?_
    refine gM_M_askedTo C mf_M_32 d_M_take_65 ?_
    refine x_iload_n C d_M_take_68 rfl (k := 1) rfl ?_
    refine x_iconst (v := 1) C d_M_take_69 (by decide) ?_
    refine x_iadd C d_M_take_70 ?_
    obtain ⟨hin, hf⟩ := ck_some hf
    refine aldM_8 (v := (u.2 7 (x2 + (1 : Int32)).toNatClampNeg)) C hin rfl d_M_take_71 ?_
    obtain ⟨hin, hf⟩ := ck_some hf
    refine astM_8 C hin d_M_take_72 ?_
    refine x_iinc (v := (x2 + (1 : Int32))) (lv' := [(2, .int (x2 + (1 : Int32))), (0, .ref (h 0))]) C d_M_take_73 (k := 1) rfl rfl (by decide) rfl ?_
    refine x_goto (tgt := 21) C d_M_take_76 (by decide) ?_
    refine x_sub (lv' := [(0, .ref (h 0)), (2, .int (x2 + (1 : Int32)))]) [1, 0] rfl ?_
    exact hk21 (x2 + (1 : Int32)) (sa (sa (sa u 5 x2.toNatClampNeg (u.2 5 (x2 + (1 : Int32)).toNatClampNeg)) 6 x2.toNatClampNeg (u.2 6 (x2 + (1 : Int32)).toNatClampNeg)) 7 x2.toNatClampNeg (u.2 7 (x2 + (1 : Int32)).toNatClampNeg)) hf
def l_M_take_21 : Nat → Int32 → PS → Option (Int32 × PS)
  | 0 => fun _ _ => none
  | n + 1 => b_M_take_21 (l_M_take_21 n)
theorem wl_M_take_21 {γ : CX} {cI cZ : ClassId} {h : Nat → Nat} {r0 : Int32} {u0 : PS} (C : Cx γ b_M_take 3 (some .boolean) "PackagePickModel" (rk 0) [(cI, .int), (cZ, .boolean)]) (hQ : QI γ [(cI, .int), (cZ, .boolean)] (WM cI cZ h) r0 u0) (n : Nat) : ∀ (x2 : Int32) (u : PS), l_M_take_21 n x2 u = some (r0, u0) → AtG γ (WM cI cZ h) 3 0 0 21 [(0, .ref (h 0)), (2, .int x2)] [] u := by
  induction n with
  | zero => intro x2 u hf; cases hf
  | succ n ih => intro x2 u hf; exact w_M_take_21 C hQ (l_M_take_21 n) ih x2 u hf
def f_M_take (a1 : Int32) (u : PS) : Option (Int32 × PS) :=
  if a1 < 0 then
    some ((0 : Int32), (si u 0 (0 : Int32)))
  else
    if a1 < (u.1 1) then
      l_M_take_21 NF a1 (si u 0 (0 : Int32))
    else
      some ((0 : Int32), (si u 0 (0 : Int32)))
set_option maxRecDepth 100000 in
set_option maxHeartbeats 4000000 in
theorem w_M_take {γ : CX} {cI cZ : ClassId} {h : Nat → Nat} {r0 : Int32} {u0 : PS} (C : Cx γ b_M_take 3 (some .boolean) "PackagePickModel" (rk 0) [(cI, .int), (cZ, .boolean)]) (hQ : QI γ [(cI, .int), (cZ, .boolean)] (WM cI cZ h) r0 u0) (a1 : Int32) (u : PS) (hf : f_M_take a1 u = some (r0, u0)) : AtG γ (WM cI cZ h) 3 0 0 0 [(0, .ref (h 0)), (1, .int a1)] [] u := by
  unfold f_M_take at hf
  refine x_aload_n C d_M_take_0 rfl (k := 0) rfl ?_
  refine x_iconst (v := 0) C d_M_take_1 (by decide) ?_
  refine pM_M_thrown C mf_M_56 d_M_take_2 ?_
  refine x_iload_n C d_M_take_5 rfl (k := 1) rfl ?_
  refine x_if_lt (tgt := 17) C d_M_take_6 (by decide) (fun hc => ?_) (fun hc => ?_)
  · rw [if_pos hc] at hf
    refine x_iconst (v := 0) C d_M_take_17 (by decide) ?_
    exact x_zret C hQ rfl (Prod.mk.inj (Option.some.inj hf)).1 (Prod.mk.inj (Option.some.inj hf)).2 d_M_take_18
  · rw [if_neg hc] at hf
    refine x_iload_n C d_M_take_9 rfl (k := 1) rfl ?_
    refine x_aload_n C d_M_take_10 rfl (k := 0) rfl ?_
    refine gM_M_asked (v := (u.1 1)) C mf_M_75 rfl d_M_take_11 ?_
    refine x_icmp_lt (tgt := 19) C d_M_take_14 (by decide) (fun hc => ?_) (fun hc => ?_)
    · rw [if_pos hc] at hf
      refine x_iload_n C d_M_take_19 rfl (k := 1) rfl ?_
      refine x_istore_n (lv' := [(2, .int a1), (0, .ref (h 0)), (1, .int a1)]) C d_M_take_20 rfl (by decide) rfl ?_
      refine x_sub (lv' := [(0, .ref (h 0)), (2, .int a1)]) [1, 0] rfl ?_
      exact wl_M_take_21 C hQ NF a1 (si u 0 (0 : Int32)) hf
    · rw [if_neg hc] at hf
      refine x_iconst (v := 0) C d_M_take_17 (by decide) ?_
      exact x_zret C hQ rfl (Prod.mk.inj (Option.some.inj hf)).1 (Prod.mk.inj (Option.some.inj hf)).2 d_M_take_18
theorem c_M_take {l : Launch} {D : va_G} {cI cZ : ClassId} {h : Nat → Nat} (a1 : Int32) (u : PS) {r0 : Int32 × PS} (hf : f_M_take a1 u = some r0) : CtI l y_M_take b_M_take 3 (some .boolean) (rk 0) D [(cI, .int), (cZ, .boolean)] (WM cI cZ h) [.ref (h 0), .int a1] u r0.1 r0.2 := ct_ofI (by decide) (Nat.le_of_ble_eq_true rfl) (fun γ _ _ C hQ => w_M_take C hQ a1 u hf)
-- ---- PackagePickModel.isMet(III)Z
def f_M_isMet (a1 : Int32) (a2 : Int32) (a3 : Int32) (u : PS) : Option (Int32) :=
  ck (inb a1 7) <|
  if (u.2 10 a1.toNatClampNeg) < a2 then
    some (0 : Int32)
  else
    ck (inb a1 7) <|
    if a3 < (u.2 10 a1.toNatClampNeg) then
      some (0 : Int32)
    else
      some (1 : Int32)
set_option maxRecDepth 100000 in
set_option maxHeartbeats 4000000 in
theorem w_M_isMet {γ : CX} {cI cZ : ClassId} {h : Nat → Nat} {u : PS} {r0 : Int32} (C : Cx γ b_M_isMet 4 (some .boolean) "PackagePickModel" (rk 0) [(cI, .int), (cZ, .boolean)]) (hQ : QI γ [(cI, .int), (cZ, .boolean)] (WM cI cZ h) r0 u) (a1 : Int32) (a2 : Int32) (a3 : Int32) (hf : f_M_isMet a1 a2 a3 u = some r0) : AtG γ (WM cI cZ h) 4 0 0 0 [(0, .ref (h 0)), (1, .int a1), (2, .int a2), (3, .int a3)] [] u := by
  unfold f_M_isMet at hf
  refine x_aload_n C d_M_isMet_0 rfl (k := 0) rfl ?_
  refine gM_M_pick C mf_M_41 d_M_isMet_1 ?_
  refine x_iload_n C d_M_isMet_4 rfl (k := 1) rfl ?_
  obtain ⟨hin, hf⟩ := ck_some hf
  refine aldM_11 (v := (u.2 10 a1.toNatClampNeg)) C hin rfl d_M_isMet_5 ?_
  refine x_iload_n C d_M_isMet_6 rfl (k := 2) rfl ?_
  refine x_icmp_lt (tgt := 24) C d_M_isMet_7 (by decide) (fun hc => ?_) (fun hc => ?_)
  · rw [if_pos hc] at hf
    refine x_iconst (v := 0) C d_M_isMet_24 (by decide) ?_
    exact x_zret C hQ rfl (Option.some.inj hf) rfl d_M_isMet_25
  · rw [if_neg hc] at hf
    refine x_aload_n C d_M_isMet_10 rfl (k := 0) rfl ?_
    refine gM_M_pick C mf_M_41 d_M_isMet_11 ?_
    refine x_iload_n C d_M_isMet_14 rfl (k := 1) rfl ?_
    obtain ⟨hin, hf⟩ := ck_some hf
    refine aldM_11 (v := (u.2 10 a1.toNatClampNeg)) C hin rfl d_M_isMet_15 ?_
    refine x_iload_n C d_M_isMet_16 rfl (k := 3) rfl ?_
    refine x_icmp_gt (tgt := 24) C d_M_isMet_17 (by decide) (fun hc => ?_) (fun hc => ?_)
    · rw [if_pos hc] at hf
      refine x_iconst (v := 0) C d_M_isMet_24 (by decide) ?_
      exact x_zret C hQ rfl (Option.some.inj hf) rfl d_M_isMet_25
    · rw [if_neg hc] at hf
      refine x_iconst (v := 1) C d_M_isMet_20 (by decide) ?_
      refine x_goto (tgt := 25) C d_M_isMet_21 (by decide) ?_
      exact x_zret C hQ rfl (Option.some.inj hf) rfl d_M_isMet_25
theorem c_M_isMet {l : Launch} {D : va_G} {cI cZ : ClassId} {h : Nat → Nat} (a1 : Int32) (a2 : Int32) (a3 : Int32) (u : PS) {r0 : Int32} (hf : f_M_isMet a1 a2 a3 u = some r0) : CtI l y_M_isMet b_M_isMet 4 (some .boolean) (rk 0) D [(cI, .int), (cZ, .boolean)] (WM cI cZ h) [.ref (h 0), .int a1, .int a2, .int a3] u r0 u := ct_ofI (by decide) (Nat.le_of_ble_eq_true rfl) (fun γ _ _ C hQ => w_M_isMet C hQ a1 a2 a3 hf)
-- ---- PackagePickModel.counts(I)Z
def f_M_counts (a1 : Int32) (u : PS) : Int32 :=
  if (((u.1 3) >>> (a1 &&& 31)) &&& (1 : Int32)) = (1 : Int32) then
    (1 : Int32)
  else
    (0 : Int32)
set_option maxRecDepth 100000 in
set_option maxHeartbeats 4000000 in
theorem w_M_counts {γ : CX} {cI cZ : ClassId} {h : Nat → Nat} {u : PS} {r0 : Int32} (C : Cx γ b_M_counts 2 (some .boolean) "PackagePickModel" (rk 0) [(cI, .int), (cZ, .boolean)]) (hQ : QI γ [(cI, .int), (cZ, .boolean)] (WM cI cZ h) r0 u) (a1 : Int32) (hf : f_M_counts a1 u = r0) : AtG γ (WM cI cZ h) 2 0 0 0 [(0, .ref (h 0)), (1, .int a1)] [] u := by
  unfold f_M_counts at hf
  refine x_aload_n C d_M_counts_0 rfl (k := 0) rfl ?_
  refine gM_M_counting (v := (u.1 3)) C mf_M_78 rfl d_M_counts_1 ?_
  refine x_iload_n C d_M_counts_4 rfl (k := 1) rfl ?_
  refine x_ishr C d_M_counts_5 ?_
  refine x_iconst (v := 1) C d_M_counts_6 (by decide) ?_
  refine x_iand C d_M_counts_7 ?_
  refine x_iconst (v := 1) C d_M_counts_8 (by decide) ?_
  refine x_icmp_ne (tgt := 16) C d_M_counts_9 (by decide) (fun hc => ?_) (fun hc => ?_)
  · rw [if_neg hc] at hf
    refine x_iconst (v := 0) C d_M_counts_16 (by decide) ?_
    exact x_zret C hQ rfl hf rfl d_M_counts_17
  · rw [if_pos hc] at hf
    refine x_iconst (v := 1) C d_M_counts_12 (by decide) ?_
    refine x_goto (tgt := 17) C d_M_counts_13 (by decide) ?_
    exact x_zret C hQ rfl hf rfl d_M_counts_17
theorem c_M_counts {l : Launch} {D : va_G} {cI cZ : ClassId} {h : Nat → Nat} (a1 : Int32) (u : PS) : CtI l y_M_counts b_M_counts 2 (some .boolean) (rk 0) D [(cI, .int), (cZ, .boolean)] (WM cI cZ h) [.ref (h 0), .int a1] u (f_M_counts a1 u) u := ct_ofI (by decide) (Nat.le_of_ble_eq_true rfl) (fun γ _ _ C hQ => w_M_counts C hQ a1 rfl)
-- ---- PackagePickModel.goes(I)Z
def b_M_goes_218 (u : PS) (k194 : Int32 → Int32 → Int32 → Option (Int32)) (k218 : Int32 → Int32 → Int32 → Int32 → Int32 → Option (Int32)) (x1 : Int32) (x2 : Int32) (x3 : Int32) (x4 : Int32) (x5 : Int32) : Option (Int32) :=
  ck (inb x3 7) <|
  if (u.2 10 x3.toNatClampNeg) = (-1 : Int32) then
    k194 x1 x2 (x3 + (1 : Int32))
  else
    ck (inb x4 28) <|
    if (u.2 1 x4.toNatClampNeg) ≤ x5 then
      k194 x1 x2 (x3 + (1 : Int32))
    else
      if x2 = 0 then
        k218 x1 (0 : Int32) x3 x4 (x5 + (1 : Int32))
      else
        ck (inb (((4 : Int32) * x4) + x5) 112) <|
        if x1 < (u.2 2 (((4 : Int32) * x4) + x5).toNatClampNeg) then
          k218 x1 (1 : Int32) x3 x4 (x5 + (1 : Int32))
        else
          ck (inb (((4 : Int32) * x4) + x5) 112) <|
          ck (inb (((4 : Int32) * x4) + x5) 112) <|
          ck (inb (((4 : Int32) * x4) + x5) 112) <|
          (f_M_isMet (u.2 2 (((4 : Int32) * x4) + x5).toNatClampNeg) (u.2 3 (((4 : Int32) * x4) + x5).toNatClampNeg) (u.2 4 (((4 : Int32) * x4) + x5).toNatClampNeg) u).bind fun r1 =>
          if r1 = 0 then
            k218 x1 (0 : Int32) x3 x4 (x5 + (1 : Int32))
          else
            k218 x1 (1 : Int32) x3 x4 (x5 + (1 : Int32))
set_option maxRecDepth 100000 in
set_option maxHeartbeats 4000000 in
theorem w_M_goes_218 {γ : CX} {cI cZ : ClassId} {h : Nat → Nat} {u : PS} {r0 : Int32} (C : Cx γ b_M_goes 7 (some .boolean) "PackagePickModel" (rk 1) [(cI, .int), (cZ, .boolean)]) (hQ : QI γ [(cI, .int), (cZ, .boolean)] (WM cI cZ h) r0 u) (k194 : Int32 → Int32 → Int32 → Option (Int32)) (k218 : Int32 → Int32 → Int32 → Int32 → Int32 → Option (Int32)) (hk194 : ∀ (x1 : Int32) (x2 : Int32) (x3 : Int32), k194 x1 x2 x3 = some r0 → AtG γ (WM cI cZ h) 7 0 0 194 [(0, .ref (h 0)), (1, .int x1), (2, .int x2), (3, .int x3)] [] u) (hk218 : ∀ (x1 : Int32) (x2 : Int32) (x3 : Int32) (x4 : Int32) (x5 : Int32), k218 x1 x2 x3 x4 x5 = some r0 → AtG γ (WM cI cZ h) 7 0 0 218 [(0, .ref (h 0)), (1, .int x1), (2, .int x2), (3, .int x3), (4, .int x4), (5, .int x5)] [] u) (x1 : Int32) (x2 : Int32) (x3 : Int32) (x4 : Int32) (x5 : Int32) (hf : b_M_goes_218 u k194 k218 x1 x2 x3 x4 x5 = some r0) : AtG γ (WM cI cZ h) 7 0 0 218 [(0, .ref (h 0)), (1, .int x1), (2, .int x2), (3, .int x3), (4, .int x4), (5, .int x5)] [] u := by
  unfold b_M_goes_218 at hf
  refine x_aload_n C d_M_goes_218 rfl (k := 0) rfl ?_
  refine gM_M_pick C mf_M_41 d_M_goes_219 ?_
  refine x_iload_n C d_M_goes_222 rfl (k := 3) rfl ?_
  obtain ⟨hin, hf⟩ := ck_some hf
  refine aldM_11 (v := (u.2 10 x3.toNatClampNeg)) C hin rfl d_M_goes_223 ?_
  refine x_iconst (v := -1) C d_M_goes_224 (by decide) ?_
  refine x_icmp_eq (tgt := 304) C d_M_goes_225 (by decide) (fun hc => ?_) (fun hc => ?_)
  · rw [if_pos hc] at hf
    refine x_iinc (v := (x3 + (1 : Int32))) (lv' := [(3, .int (x3 + (1 : Int32))), (0, .ref (h 0)), (1, .int x1), (2, .int x2), (4, .int x4), (5, .int x5)]) C d_M_goes_304 (k := 3) rfl rfl (by decide) rfl ?_
    refine x_goto (tgt := 194) C d_M_goes_307 (by decide) ?_
    refine x_sub (lv' := [(0, .ref (h 0)), (1, .int x1), (2, .int x2), (3, .int (x3 + (1 : Int32)))]) [1, 2, 3, 0] rfl ?_
    exact hk194 x1 x2 (x3 + (1 : Int32)) hf
  · rw [if_neg hc] at hf
    refine x_iload C d_M_goes_228 (k := 5) rfl ?_
    refine x_aload_n C d_M_goes_230 rfl (k := 0) rfl ?_
    refine gM_M_needs C mf_M_13 d_M_goes_231 ?_
    refine x_iload C d_M_goes_234 (k := 4) rfl ?_
    obtain ⟨hin, hf⟩ := ck_some hf
    refine aldM_2 (v := (u.2 1 x4.toNatClampNeg)) C hin rfl d_M_goes_236 ?_
    refine x_icmp_ge (tgt := 304) C d_M_goes_237 (by decide) (fun hc => ?_) (fun hc => ?_)
    · rw [if_pos hc] at hf
      refine x_iinc (v := (x3 + (1 : Int32))) (lv' := [(3, .int (x3 + (1 : Int32))), (0, .ref (h 0)), (1, .int x1), (2, .int x2), (4, .int x4), (5, .int x5)]) C d_M_goes_304 (k := 3) rfl rfl (by decide) rfl ?_
      refine x_goto (tgt := 194) C d_M_goes_307 (by decide) ?_
      refine x_sub (lv' := [(0, .ref (h 0)), (1, .int x1), (2, .int x2), (3, .int (x3 + (1 : Int32)))]) [1, 2, 3, 0] rfl ?_
      exact hk194 x1 x2 (x3 + (1 : Int32)) hf
    · rw [if_neg hc] at hf
      refine x_iconst (v := 4) C d_M_goes_240 (by decide) ?_
      refine x_iload C d_M_goes_241 (k := 4) rfl ?_
      refine x_imul C d_M_goes_243 ?_
      refine x_iload C d_M_goes_244 (k := 5) rfl ?_
      refine x_iadd C d_M_goes_246 ?_
      refine x_istore (lv' := [(6, .int (((4 : Int32) * x4) + x5)), (0, .ref (h 0)), (1, .int x1), (2, .int x2), (3, .int x3), (4, .int x4), (5, .int x5)]) C d_M_goes_247 (by decide) rfl ?_
      refine x_iload_n C d_M_goes_249 rfl (k := 3) rfl ?_
      refine x_if_eq (tgt := 296) C d_M_goes_250 (by decide) (fun hc => ?_) (fun hc => ?_)
      · rw [if_pos hc] at hf
        refine x_iconst (v := 0) C d_M_goes_296 (by decide) ?_
        refine x_istore_n (lv' := [(2, .int (0 : Int32)), (6, .int (((4 : Int32) * x4) + x5)), (0, .ref (h 0)), (1, .int x1), (3, .int x3), (4, .int x4), (5, .int x5)]) C d_M_goes_297 rfl (by decide) rfl ?_
        refine x_iinc (v := (x5 + (1 : Int32))) (lv' := [(5, .int (x5 + (1 : Int32))), (2, .int (0 : Int32)), (6, .int (((4 : Int32) * x4) + x5)), (0, .ref (h 0)), (1, .int x1), (3, .int x3), (4, .int x4)]) C d_M_goes_298 (k := 6) rfl rfl (by decide) rfl ?_
        refine x_goto (tgt := 218) C d_M_goes_301 (by decide) ?_
        refine x_sub (lv' := [(0, .ref (h 0)), (1, .int x1), (2, .int (0 : Int32)), (3, .int x3), (4, .int x4), (5, .int (x5 + (1 : Int32)))]) [3, 4, 1, 5, 6, 0] rfl ?_
        exact hk218 x1 (0 : Int32) x3 x4 (x5 + (1 : Int32)) hf
      · rw [if_neg hc] at hf
        refine x_aload_n C d_M_goes_253 rfl (k := 1) rfl ?_
        refine gM_M_needOf C mf_M_17 d_M_goes_254 ?_
        refine x_iload C d_M_goes_257 (k := 0) rfl ?_
        obtain ⟨hin, hf⟩ := ck_some hf
        refine aldM_3 (v := (u.2 2 (((4 : Int32) * x4) + x5).toNatClampNeg)) C hin rfl d_M_goes_259 ?_
        refine x_iload_n C d_M_goes_260 rfl (k := 2) rfl ?_
        refine x_icmp_gt (tgt := 292) C d_M_goes_261 (by decide) (fun hc => ?_) (fun hc => ?_)
        · rw [if_pos hc] at hf
          refine x_iconst (v := 1) C d_M_goes_292 (by decide) ?_
          refine x_goto (tgt := 297) C d_M_goes_293 (by decide) ?_
          refine x_istore_n (lv' := [(2, .int (1 : Int32)), (6, .int (((4 : Int32) * x4) + x5)), (0, .ref (h 0)), (1, .int x1), (3, .int x3), (4, .int x4), (5, .int x5)]) C d_M_goes_297 rfl (by decide) rfl ?_
          refine x_iinc (v := (x5 + (1 : Int32))) (lv' := [(5, .int (x5 + (1 : Int32))), (2, .int (1 : Int32)), (6, .int (((4 : Int32) * x4) + x5)), (0, .ref (h 0)), (1, .int x1), (3, .int x3), (4, .int x4)]) C d_M_goes_298 (k := 6) rfl rfl (by decide) rfl ?_
          refine x_goto (tgt := 218) C d_M_goes_301 (by decide) ?_
          refine x_sub (lv' := [(0, .ref (h 0)), (1, .int x1), (2, .int (1 : Int32)), (3, .int x3), (4, .int x4), (5, .int (x5 + (1 : Int32)))]) [3, 4, 1, 5, 6, 0] rfl ?_
          exact hk218 x1 (1 : Int32) x3 x4 (x5 + (1 : Int32)) hf
        · rw [if_neg hc] at hf
          refine x_aload_n C d_M_goes_264 rfl (k := 1) rfl ?_
          refine x_aload_n C d_M_goes_265 rfl (k := 1) rfl ?_
          refine gM_M_needOf C mf_M_17 d_M_goes_266 ?_
          refine x_iload C d_M_goes_269 (k := 0) rfl ?_
          obtain ⟨hin, hf⟩ := ck_some hf
          refine aldM_3 (v := (u.2 2 (((4 : Int32) * x4) + x5).toNatClampNeg)) C hin rfl d_M_goes_271 ?_
          refine x_aload_n C d_M_goes_272 rfl (k := 1) rfl ?_
          refine gM_M_needFrom C mf_M_20 d_M_goes_273 ?_
          refine x_iload C d_M_goes_276 (k := 0) rfl ?_
          obtain ⟨hin, hf⟩ := ck_some hf
          refine aldM_4 (v := (u.2 3 (((4 : Int32) * x4) + x5).toNatClampNeg)) C hin rfl d_M_goes_278 ?_
          refine x_aload_n C d_M_goes_279 rfl (k := 1) rfl ?_
          refine gM_M_needTo C mf_M_23 d_M_goes_280 ?_
          refine x_iload C d_M_goes_283 (k := 0) rfl ?_
          obtain ⟨hin, hf⟩ := ck_some hf
          refine aldM_5 (v := (u.2 4 (((4 : Int32) * x4) + x5).toNatClampNeg)) C hin rfl d_M_goes_285 ?_
          obtain ⟨r1, hc1, hf⟩ := Option.bind_eq_some_iff.mp hf
          refine x_callIv (q0 := 0) (ci := 4) (rest := []) C (c_M_isMet (u.2 2 (((4 : Int32) * x4) + x5).toNatClampNeg) (u.2 3 (((4 : Int32) * x4) + x5).toNatClampNeg) (u.2 4 (((4 : Int32) * x4) + x5).toNatClampNeg) u hc1) kc_M_isMet (rok (by decide) (by decide)) mm_M_84 ms_M_isMet ml_M_isMet rfl rfl rfl rfl (Nat.le_of_ble_eq_true rfl) d_M_goes_286 ?_
          refine x_if_eq (tgt := 296) C d_M_goes_289 (by decide) (fun hc => ?_) (fun hc => ?_)
          · rw [if_pos hc] at hf
            refine x_iconst (v := 0) C d_M_goes_296 (by decide) ?_
            refine x_istore_n (lv' := [(2, .int (0 : Int32)), (6, .int (((4 : Int32) * x4) + x5)), (0, .ref (h 0)), (1, .int x1), (3, .int x3), (4, .int x4), (5, .int x5)]) C d_M_goes_297 rfl (by decide) rfl ?_
            refine x_iinc (v := (x5 + (1 : Int32))) (lv' := [(5, .int (x5 + (1 : Int32))), (2, .int (0 : Int32)), (6, .int (((4 : Int32) * x4) + x5)), (0, .ref (h 0)), (1, .int x1), (3, .int x3), (4, .int x4)]) C d_M_goes_298 (k := 6) rfl rfl (by decide) rfl ?_
            refine x_goto (tgt := 218) C d_M_goes_301 (by decide) ?_
            refine x_sub (lv' := [(0, .ref (h 0)), (1, .int x1), (2, .int (0 : Int32)), (3, .int x3), (4, .int x4), (5, .int (x5 + (1 : Int32)))]) [3, 4, 1, 5, 6, 0] rfl ?_
            exact hk218 x1 (0 : Int32) x3 x4 (x5 + (1 : Int32)) hf
          · rw [if_neg hc] at hf
            refine x_iconst (v := 1) C d_M_goes_292 (by decide) ?_
            refine x_goto (tgt := 297) C d_M_goes_293 (by decide) ?_
            refine x_istore_n (lv' := [(2, .int (1 : Int32)), (6, .int (((4 : Int32) * x4) + x5)), (0, .ref (h 0)), (1, .int x1), (3, .int x3), (4, .int x4), (5, .int x5)]) C d_M_goes_297 rfl (by decide) rfl ?_
            refine x_iinc (v := (x5 + (1 : Int32))) (lv' := [(5, .int (x5 + (1 : Int32))), (2, .int (1 : Int32)), (6, .int (((4 : Int32) * x4) + x5)), (0, .ref (h 0)), (1, .int x1), (3, .int x3), (4, .int x4)]) C d_M_goes_298 (k := 6) rfl rfl (by decide) rfl ?_
            refine x_goto (tgt := 218) C d_M_goes_301 (by decide) ?_
            refine x_sub (lv' := [(0, .ref (h 0)), (1, .int x1), (2, .int (1 : Int32)), (3, .int x3), (4, .int x4), (5, .int (x5 + (1 : Int32)))]) [3, 4, 1, 5, 6, 0] rfl ?_
            exact hk218 x1 (1 : Int32) x3 x4 (x5 + (1 : Int32)) hf
def l_M_goes_218 (u : PS) (k194 : Int32 → Int32 → Int32 → Option (Int32)) : Nat → Int32 → Int32 → Int32 → Int32 → Int32 → Option (Int32)
  | 0 => fun _ _ _ _ _ => none
  | n + 1 => b_M_goes_218 u k194 (l_M_goes_218 u k194 n)
theorem wl_M_goes_218 {γ : CX} {cI cZ : ClassId} {h : Nat → Nat} {u : PS} {r0 : Int32} (C : Cx γ b_M_goes 7 (some .boolean) "PackagePickModel" (rk 1) [(cI, .int), (cZ, .boolean)]) (hQ : QI γ [(cI, .int), (cZ, .boolean)] (WM cI cZ h) r0 u) (k194 : Int32 → Int32 → Int32 → Option (Int32)) (hk194 : ∀ (x1 : Int32) (x2 : Int32) (x3 : Int32), k194 x1 x2 x3 = some r0 → AtG γ (WM cI cZ h) 7 0 0 194 [(0, .ref (h 0)), (1, .int x1), (2, .int x2), (3, .int x3)] [] u) (n : Nat) : ∀ (x1 : Int32) (x2 : Int32) (x3 : Int32) (x4 : Int32) (x5 : Int32), l_M_goes_218 u k194 n x1 x2 x3 x4 x5 = some r0 → AtG γ (WM cI cZ h) 7 0 0 218 [(0, .ref (h 0)), (1, .int x1), (2, .int x2), (3, .int x3), (4, .int x4), (5, .int x5)] [] u := by
  induction n with
  | zero => intro x1 x2 x3 x4 x5 hf; cases hf
  | succ n ih => intro x1 x2 x3 x4 x5 hf; exact w_M_goes_218 C hQ k194 (l_M_goes_218 u k194 n) hk194 ih x1 x2 x3 x4 x5 hf
def b_M_goes_194 (u : PS) (k194 : Int32 → Int32 → Int32 → Option (Int32)) (x1 : Int32) (x2 : Int32) (x3 : Int32) : Option (Int32) :=
  if x1 < x3 then
    ck (isB x2) <|
    some x2
  else
    if x2 = 0 then
      ck (isB x2) <|
      some x2
    else
      ck (inb x3 7) <|
      l_M_goes_218 u k194 NF x1 x2 x3 (((4 : Int32) * x3) + (u.2 10 x3.toNatClampNeg)) (0 : Int32)
set_option maxRecDepth 100000 in
set_option maxHeartbeats 4000000 in
theorem w_M_goes_194 {γ : CX} {cI cZ : ClassId} {h : Nat → Nat} {u : PS} {r0 : Int32} (C : Cx γ b_M_goes 7 (some .boolean) "PackagePickModel" (rk 1) [(cI, .int), (cZ, .boolean)]) (hQ : QI γ [(cI, .int), (cZ, .boolean)] (WM cI cZ h) r0 u) (k194 : Int32 → Int32 → Int32 → Option (Int32)) (hk194 : ∀ (x1 : Int32) (x2 : Int32) (x3 : Int32), k194 x1 x2 x3 = some r0 → AtG γ (WM cI cZ h) 7 0 0 194 [(0, .ref (h 0)), (1, .int x1), (2, .int x2), (3, .int x3)] [] u) (x1 : Int32) (x2 : Int32) (x3 : Int32) (hf : b_M_goes_194 u k194 x1 x2 x3 = some r0) : AtG γ (WM cI cZ h) 7 0 0 194 [(0, .ref (h 0)), (1, .int x1), (2, .int x2), (3, .int x3)] [] u := by
  unfold b_M_goes_194 at hf
  refine x_iload_n C d_M_goes_194 rfl (k := 3) rfl ?_
  refine x_iload_n C d_M_goes_195 rfl (k := 1) rfl ?_
  refine x_icmp_gt (tgt := 310) C d_M_goes_196 (by decide) (fun hc => ?_) (fun hc => ?_)
  · rw [if_pos hc] at hf
    refine x_iload_n C d_M_goes_310 rfl (k := 2) rfl ?_
    obtain ⟨hbo, hf⟩ := ck_some hf
    exact x_zret C hQ (isB_nar hbo) (Option.some.inj hf) rfl d_M_goes_311
  · rw [if_neg hc] at hf
    refine x_iload_n C d_M_goes_199 rfl (k := 2) rfl ?_
    refine x_if_eq (tgt := 310) C d_M_goes_200 (by decide) (fun hc => ?_) (fun hc => ?_)
    · rw [if_pos hc] at hf
      refine x_iload_n C d_M_goes_310 rfl (k := 2) rfl ?_
      obtain ⟨hbo, hf⟩ := ck_some hf
      exact x_zret C hQ (isB_nar hbo) (Option.some.inj hf) rfl d_M_goes_311
    · rw [if_neg hc] at hf
      refine x_iconst (v := 4) C d_M_goes_203 (by decide) ?_
      refine x_iload_n C d_M_goes_204 rfl (k := 3) rfl ?_
      refine x_imul C d_M_goes_205 ?_
      refine x_aload_n C d_M_goes_206 rfl (k := 0) rfl ?_
      refine gM_M_pick C mf_M_41 d_M_goes_207 ?_
      refine x_iload_n C d_M_goes_210 rfl (k := 3) rfl ?_
      obtain ⟨hin, hf⟩ := ck_some hf
      refine aldM_11 (v := (u.2 10 x3.toNatClampNeg)) C hin rfl d_M_goes_211 ?_
      refine x_iadd C d_M_goes_212 ?_
      refine x_istore (lv' := [(4, .int (((4 : Int32) * x3) + (u.2 10 x3.toNatClampNeg))), (0, .ref (h 0)), (1, .int x1), (2, .int x2), (3, .int x3)]) C d_M_goes_213 (by decide) rfl ?_
      refine x_iconst (v := 0) C d_M_goes_215 (by decide) ?_
      refine x_istore (lv' := [(5, .int (0 : Int32)), (4, .int (((4 : Int32) * x3) + (u.2 10 x3.toNatClampNeg))), (0, .ref (h 0)), (1, .int x1), (2, .int x2), (3, .int x3)]) C d_M_goes_216 (by decide) rfl ?_
      refine x_sub (lv' := [(0, .ref (h 0)), (1, .int x1), (2, .int x2), (3, .int x3), (4, .int (((4 : Int32) * x3) + (u.2 10 x3.toNatClampNeg))), (5, .int (0 : Int32))]) [2, 3, 4, 5, 1, 0] rfl ?_
      exact wl_M_goes_218 C hQ k194 hk194 NF x1 x2 x3 (((4 : Int32) * x3) + (u.2 10 x3.toNatClampNeg)) (0 : Int32) hf
def l_M_goes_194 (u : PS) : Nat → Int32 → Int32 → Int32 → Option (Int32)
  | 0 => fun _ _ _ => none
  | n + 1 => b_M_goes_194 u (l_M_goes_194 u n)
theorem wl_M_goes_194 {γ : CX} {cI cZ : ClassId} {h : Nat → Nat} {u : PS} {r0 : Int32} (C : Cx γ b_M_goes 7 (some .boolean) "PackagePickModel" (rk 1) [(cI, .int), (cZ, .boolean)]) (hQ : QI γ [(cI, .int), (cZ, .boolean)] (WM cI cZ h) r0 u) (n : Nat) : ∀ (x1 : Int32) (x2 : Int32) (x3 : Int32), l_M_goes_194 u n x1 x2 x3 = some r0 → AtG γ (WM cI cZ h) 7 0 0 194 [(0, .ref (h 0)), (1, .int x1), (2, .int x2), (3, .int x3)] [] u := by
  induction n with
  | zero => intro x1 x2 x3 hf; cases hf
  | succ n ih => intro x1 x2 x3 hf; exact w_M_goes_194 C hQ (l_M_goes_194 u n) ih x1 x2 x3 hf
def b_M_goes_100 (u : PS) (k100 : Int32 → Int32 → Int32 → Option (Int32)) (x1 : Int32) (x2 : Int32) (x3 : Int32) : Option (Int32) :=
  if (u.1 2) ≤ x3 then
    l_M_goes_194 u NF x1 x2 (0 : Int32)
  else
    if x2 = 0 then
      l_M_goes_194 u NF x1 x2 (0 : Int32)
    else
      ck (inb x3 16) <|
      ck (inb x3 16) <|
      if x1 < ((u.2 8 x3.toNatClampNeg) / (4 : Int32)) then
        k100 x1 (1 : Int32) (x3 + (1 : Int32))
      else
        if x1 < ((u.2 9 x3.toNatClampNeg) / (4 : Int32)) then
          k100 x1 (1 : Int32) (x3 + (1 : Int32))
        else
          ck (inb ((u.2 8 x3.toNatClampNeg) / (4 : Int32)) 7) <|
          ck (inb x3 16) <|
          if (u.2 10 ((u.2 8 x3.toNatClampNeg) / (4 : Int32)).toNatClampNeg) = ((u.2 8 x3.toNatClampNeg) - (u.2 8 x3.toNatClampNeg) / (4 : Int32) * (4 : Int32)) then
            ck (inb ((u.2 9 x3.toNatClampNeg) / (4 : Int32)) 7) <|
            ck (inb x3 16) <|
            if (u.2 10 ((u.2 9 x3.toNatClampNeg) / (4 : Int32)).toNatClampNeg) = ((u.2 9 x3.toNatClampNeg) - (u.2 9 x3.toNatClampNeg) / (4 : Int32) * (4 : Int32)) then
              k100 x1 (0 : Int32) (x3 + (1 : Int32))
            else
              k100 x1 (1 : Int32) (x3 + (1 : Int32))
          else
            k100 x1 (1 : Int32) (x3 + (1 : Int32))
set_option maxRecDepth 100000 in
set_option maxHeartbeats 4000000 in
theorem w_M_goes_100 {γ : CX} {cI cZ : ClassId} {h : Nat → Nat} {u : PS} {r0 : Int32} (C : Cx γ b_M_goes 7 (some .boolean) "PackagePickModel" (rk 1) [(cI, .int), (cZ, .boolean)]) (hQ : QI γ [(cI, .int), (cZ, .boolean)] (WM cI cZ h) r0 u) (k100 : Int32 → Int32 → Int32 → Option (Int32)) (hk100 : ∀ (x1 : Int32) (x2 : Int32) (x3 : Int32), k100 x1 x2 x3 = some r0 → AtG γ (WM cI cZ h) 7 0 0 100 [(0, .ref (h 0)), (1, .int x1), (2, .int x2), (3, .int x3)] [] u) (x1 : Int32) (x2 : Int32) (x3 : Int32) (hf : b_M_goes_100 u k100 x1 x2 x3 = some r0) : AtG γ (WM cI cZ h) 7 0 0 100 [(0, .ref (h 0)), (1, .int x1), (2, .int x2), (3, .int x3)] [] u := by
  unfold b_M_goes_100 at hf
  refine x_iload_n C d_M_goes_100 rfl (k := 3) rfl ?_
  refine x_aload_n C d_M_goes_101 rfl (k := 0) rfl ?_
  refine gM_M_bans (v := (u.1 2)) C mf_M_72 rfl d_M_goes_102 ?_
  refine x_icmp_ge (tgt := 192) C d_M_goes_105 (by decide) (fun hc => ?_) (fun hc => ?_)
  · rw [if_pos hc] at hf
    refine x_iconst (v := 0) C d_M_goes_192 (by decide) ?_
    refine x_istore_n (lv' := [(3, .int (0 : Int32)), (0, .ref (h 0)), (1, .int x1), (2, .int x2)]) C d_M_goes_193 rfl (by decide) rfl ?_
    refine x_sub (lv' := [(0, .ref (h 0)), (1, .int x1), (2, .int x2), (3, .int (0 : Int32))]) [1, 2, 3, 0] rfl ?_
    exact wl_M_goes_194 C hQ NF x1 x2 (0 : Int32) hf
  · rw [if_neg hc] at hf
    refine x_iload_n C d_M_goes_108 rfl (k := 2) rfl ?_
    refine x_if_eq (tgt := 192) C d_M_goes_109 (by decide) (fun hc => ?_) (fun hc => ?_)
    · rw [if_pos hc] at hf
      refine x_iconst (v := 0) C d_M_goes_192 (by decide) ?_
      refine x_istore_n (lv' := [(3, .int (0 : Int32)), (0, .ref (h 0)), (1, .int x1), (2, .int x2)]) C d_M_goes_193 rfl (by decide) rfl ?_
      refine x_sub (lv' := [(0, .ref (h 0)), (1, .int x1), (2, .int x2), (3, .int (0 : Int32))]) [1, 2, 3, 0] rfl ?_
      exact wl_M_goes_194 C hQ NF x1 x2 (0 : Int32) hf
    · rw [if_neg hc] at hf
      refine x_aload_n C d_M_goes_112 rfl (k := 0) rfl ?_
      refine gM_M_banOne C mf_M_35 d_M_goes_113 ?_
      refine x_iload_n C d_M_goes_116 rfl (k := 3) rfl ?_
      obtain ⟨hin, hf⟩ := ck_some hf
      refine aldM_9 (v := (u.2 8 x3.toNatClampNeg)) C hin rfl d_M_goes_117 ?_
      refine x_iconst (v := 4) C d_M_goes_118 (by decide) ?_
      refine x_idiv C d_M_goes_119 (by decide) ?_
      refine x_istore (lv' := [(4, .int ((u.2 8 x3.toNatClampNeg) / (4 : Int32))), (0, .ref (h 0)), (1, .int x1), (2, .int x2), (3, .int x3)]) C d_M_goes_120 (by decide) rfl ?_
      refine x_aload_n C d_M_goes_122 rfl (k := 1) rfl ?_
      refine gM_M_banTwo C mf_M_38 d_M_goes_123 ?_
      refine x_iload_n C d_M_goes_126 rfl (k := 4) rfl ?_
      obtain ⟨hin, hf⟩ := ck_some hf
      refine aldM_10 (v := (u.2 9 x3.toNatClampNeg)) C hin rfl d_M_goes_127 ?_
      refine x_iconst (v := 4) C d_M_goes_128 (by decide) ?_
      refine x_idiv C d_M_goes_129 (by decide) ?_
      refine x_istore (lv' := [(5, .int ((u.2 9 x3.toNatClampNeg) / (4 : Int32))), (4, .int ((u.2 8 x3.toNatClampNeg) / (4 : Int32))), (0, .ref (h 0)), (1, .int x1), (2, .int x2), (3, .int x3)]) C d_M_goes_130 (by decide) rfl ?_
      refine x_iload C d_M_goes_132 (k := 1) rfl ?_
      refine x_iload_n C d_M_goes_134 rfl (k := 3) rfl ?_
      refine x_icmp_gt (tgt := 180) C d_M_goes_135 (by decide) (fun hc => ?_) (fun hc => ?_)
      · rw [if_pos hc] at hf
        refine x_iconst (v := 1) C d_M_goes_180 (by decide) ?_
        refine x_goto (tgt := 185) C d_M_goes_181 (by decide) ?_
        refine x_istore_n (lv' := [(2, .int (1 : Int32)), (5, .int ((u.2 9 x3.toNatClampNeg) / (4 : Int32))), (4, .int ((u.2 8 x3.toNatClampNeg) / (4 : Int32))), (0, .ref (h 0)), (1, .int x1), (3, .int x3)]) C d_M_goes_185 rfl (by decide) rfl ?_
        refine x_iinc (v := (x3 + (1 : Int32))) (lv' := [(3, .int (x3 + (1 : Int32))), (2, .int (1 : Int32)), (5, .int ((u.2 9 x3.toNatClampNeg) / (4 : Int32))), (4, .int ((u.2 8 x3.toNatClampNeg) / (4 : Int32))), (0, .ref (h 0)), (1, .int x1)]) C d_M_goes_186 (k := 5) rfl rfl (by decide) rfl ?_
        refine x_goto (tgt := 100) C d_M_goes_189 (by decide) ?_
        refine x_sub (lv' := [(0, .ref (h 0)), (1, .int x1), (2, .int (1 : Int32)), (3, .int (x3 + (1 : Int32)))]) [4, 5, 1, 0] rfl ?_
        exact hk100 x1 (1 : Int32) (x3 + (1 : Int32)) hf
      · rw [if_neg hc] at hf
        refine x_iload C d_M_goes_138 (k := 0) rfl ?_
        refine x_iload_n C d_M_goes_140 rfl (k := 3) rfl ?_
        refine x_icmp_gt (tgt := 180) C d_M_goes_141 (by decide) (fun hc => ?_) (fun hc => ?_)
        · rw [if_pos hc] at hf
          refine x_iconst (v := 1) C d_M_goes_180 (by decide) ?_
          refine x_goto (tgt := 185) C d_M_goes_181 (by decide) ?_
          refine x_istore_n (lv' := [(2, .int (1 : Int32)), (5, .int ((u.2 9 x3.toNatClampNeg) / (4 : Int32))), (4, .int ((u.2 8 x3.toNatClampNeg) / (4 : Int32))), (0, .ref (h 0)), (1, .int x1), (3, .int x3)]) C d_M_goes_185 rfl (by decide) rfl ?_
          refine x_iinc (v := (x3 + (1 : Int32))) (lv' := [(3, .int (x3 + (1 : Int32))), (2, .int (1 : Int32)), (5, .int ((u.2 9 x3.toNatClampNeg) / (4 : Int32))), (4, .int ((u.2 8 x3.toNatClampNeg) / (4 : Int32))), (0, .ref (h 0)), (1, .int x1)]) C d_M_goes_186 (k := 5) rfl rfl (by decide) rfl ?_
          refine x_goto (tgt := 100) C d_M_goes_189 (by decide) ?_
          refine x_sub (lv' := [(0, .ref (h 0)), (1, .int x1), (2, .int (1 : Int32)), (3, .int (x3 + (1 : Int32)))]) [4, 5, 1, 0] rfl ?_
          exact hk100 x1 (1 : Int32) (x3 + (1 : Int32)) hf
        · rw [if_neg hc] at hf
          refine x_aload_n C d_M_goes_144 rfl (k := 2) rfl ?_
          refine gM_M_pick C mf_M_41 d_M_goes_145 ?_
          refine x_iload C d_M_goes_148 (k := 1) rfl ?_
          obtain ⟨hin, hf⟩ := ck_some hf
          refine aldM_11 (v := (u.2 10 ((u.2 8 x3.toNatClampNeg) / (4 : Int32)).toNatClampNeg)) C hin rfl d_M_goes_150 ?_
          refine x_aload_n C d_M_goes_151 rfl (k := 2) rfl ?_
          refine gM_M_banOne C mf_M_35 d_M_goes_152 ?_
          refine x_iload_n C d_M_goes_155 rfl (k := 5) rfl ?_
          obtain ⟨hin, hf⟩ := ck_some hf
          refine aldM_9 (v := (u.2 8 x3.toNatClampNeg)) C hin rfl d_M_goes_156 ?_
          refine x_iconst (v := 4) C d_M_goes_157 (by decide) ?_
          refine x_irem C d_M_goes_158 (by decide) ?_
          refine x_icmp_ne (tgt := 180) C d_M_goes_159 (by decide) (fun hc => ?_) (fun hc => ?_)
          · rw [if_neg hc] at hf
            refine x_iconst (v := 1) C d_M_goes_180 (by decide) ?_
            refine x_goto (tgt := 185) C d_M_goes_181 (by decide) ?_
            refine x_istore_n (lv' := [(2, .int (1 : Int32)), (5, .int ((u.2 9 x3.toNatClampNeg) / (4 : Int32))), (4, .int ((u.2 8 x3.toNatClampNeg) / (4 : Int32))), (0, .ref (h 0)), (1, .int x1), (3, .int x3)]) C d_M_goes_185 rfl (by decide) rfl ?_
            refine x_iinc (v := (x3 + (1 : Int32))) (lv' := [(3, .int (x3 + (1 : Int32))), (2, .int (1 : Int32)), (5, .int ((u.2 9 x3.toNatClampNeg) / (4 : Int32))), (4, .int ((u.2 8 x3.toNatClampNeg) / (4 : Int32))), (0, .ref (h 0)), (1, .int x1)]) C d_M_goes_186 (k := 5) rfl rfl (by decide) rfl ?_
            refine x_goto (tgt := 100) C d_M_goes_189 (by decide) ?_
            refine x_sub (lv' := [(0, .ref (h 0)), (1, .int x1), (2, .int (1 : Int32)), (3, .int (x3 + (1 : Int32)))]) [4, 5, 1, 0] rfl ?_
            exact hk100 x1 (1 : Int32) (x3 + (1 : Int32)) hf
          · rw [if_pos hc] at hf
            refine x_aload_n C d_M_goes_162 rfl (k := 2) rfl ?_
            refine gM_M_pick C mf_M_41 d_M_goes_163 ?_
            refine x_iload C d_M_goes_166 (k := 0) rfl ?_
            obtain ⟨hin, hf⟩ := ck_some hf
            refine aldM_11 (v := (u.2 10 ((u.2 9 x3.toNatClampNeg) / (4 : Int32)).toNatClampNeg)) C hin rfl d_M_goes_168 ?_
            refine x_aload_n C d_M_goes_169 rfl (k := 2) rfl ?_
            refine gM_M_banTwo C mf_M_38 d_M_goes_170 ?_
            refine x_iload_n C d_M_goes_173 rfl (k := 5) rfl ?_
            obtain ⟨hin, hf⟩ := ck_some hf
            refine aldM_10 (v := (u.2 9 x3.toNatClampNeg)) C hin rfl d_M_goes_174 ?_
            refine x_iconst (v := 4) C d_M_goes_175 (by decide) ?_
            refine x_irem C d_M_goes_176 (by decide) ?_
            refine x_icmp_eq (tgt := 184) C d_M_goes_177 (by decide) (fun hc => ?_) (fun hc => ?_)
            · rw [if_pos hc] at hf
              refine x_iconst (v := 0) C d_M_goes_184 (by decide) ?_
              refine x_istore_n (lv' := [(2, .int (0 : Int32)), (5, .int ((u.2 9 x3.toNatClampNeg) / (4 : Int32))), (4, .int ((u.2 8 x3.toNatClampNeg) / (4 : Int32))), (0, .ref (h 0)), (1, .int x1), (3, .int x3)]) C d_M_goes_185 rfl (by decide) rfl ?_
              refine x_iinc (v := (x3 + (1 : Int32))) (lv' := [(3, .int (x3 + (1 : Int32))), (2, .int (0 : Int32)), (5, .int ((u.2 9 x3.toNatClampNeg) / (4 : Int32))), (4, .int ((u.2 8 x3.toNatClampNeg) / (4 : Int32))), (0, .ref (h 0)), (1, .int x1)]) C d_M_goes_186 (k := 5) rfl rfl (by decide) rfl ?_
              refine x_goto (tgt := 100) C d_M_goes_189 (by decide) ?_
              refine x_sub (lv' := [(0, .ref (h 0)), (1, .int x1), (2, .int (0 : Int32)), (3, .int (x3 + (1 : Int32)))]) [4, 5, 1, 0] rfl ?_
              exact hk100 x1 (0 : Int32) (x3 + (1 : Int32)) hf
            · rw [if_neg hc] at hf
              refine x_iconst (v := 1) C d_M_goes_180 (by decide) ?_
              refine x_goto (tgt := 185) C d_M_goes_181 (by decide) ?_
              refine x_istore_n (lv' := [(2, .int (1 : Int32)), (5, .int ((u.2 9 x3.toNatClampNeg) / (4 : Int32))), (4, .int ((u.2 8 x3.toNatClampNeg) / (4 : Int32))), (0, .ref (h 0)), (1, .int x1), (3, .int x3)]) C d_M_goes_185 rfl (by decide) rfl ?_
              refine x_iinc (v := (x3 + (1 : Int32))) (lv' := [(3, .int (x3 + (1 : Int32))), (2, .int (1 : Int32)), (5, .int ((u.2 9 x3.toNatClampNeg) / (4 : Int32))), (4, .int ((u.2 8 x3.toNatClampNeg) / (4 : Int32))), (0, .ref (h 0)), (1, .int x1)]) C d_M_goes_186 (k := 5) rfl rfl (by decide) rfl ?_
              refine x_goto (tgt := 100) C d_M_goes_189 (by decide) ?_
              refine x_sub (lv' := [(0, .ref (h 0)), (1, .int x1), (2, .int (1 : Int32)), (3, .int (x3 + (1 : Int32)))]) [4, 5, 1, 0] rfl ?_
              exact hk100 x1 (1 : Int32) (x3 + (1 : Int32)) hf
def l_M_goes_100 (u : PS) : Nat → Int32 → Int32 → Int32 → Option (Int32)
  | 0 => fun _ _ _ => none
  | n + 1 => b_M_goes_100 u (l_M_goes_100 u n)
theorem wl_M_goes_100 {γ : CX} {cI cZ : ClassId} {h : Nat → Nat} {u : PS} {r0 : Int32} (C : Cx γ b_M_goes 7 (some .boolean) "PackagePickModel" (rk 1) [(cI, .int), (cZ, .boolean)]) (hQ : QI γ [(cI, .int), (cZ, .boolean)] (WM cI cZ h) r0 u) (n : Nat) : ∀ (x1 : Int32) (x2 : Int32) (x3 : Int32), l_M_goes_100 u n x1 x2 x3 = some r0 → AtG γ (WM cI cZ h) 7 0 0 100 [(0, .ref (h 0)), (1, .int x1), (2, .int x2), (3, .int x3)] [] u := by
  induction n with
  | zero => intro x1 x2 x3 hf; cases hf
  | succ n ih => intro x1 x2 x3 hf; exact w_M_goes_100 C hQ (l_M_goes_100 u n) ih x1 x2 x3 hf
def b_M_goes_36 (u : PS) (k36 : Int32 → Int32 → Int32 → Option (Int32)) (x1 : Int32) (x2 : Int32) (x3 : Int32) : Option (Int32) :=
  if (u.1 1) ≤ x3 then
    l_M_goes_100 u NF x1 x2 (0 : Int32)
  else
    if x2 = 0 then
      k36 x1 (0 : Int32) (x3 + (1 : Int32))
    else
      if (f_M_counts x3 u) = 0 then
        k36 x1 (1 : Int32) (x3 + (1 : Int32))
      else
        ck (inb x3 6) <|
        if (u.2 5 x3.toNatClampNeg) = x1 then
          ck (inb x3 6) <|
          ck (inb x3 6) <|
          (f_M_isMet x1 (u.2 6 x3.toNatClampNeg) (u.2 7 x3.toNatClampNeg) u).bind fun r3 =>
          if r3 = 0 then
            k36 x1 (0 : Int32) (x3 + (1 : Int32))
          else
            k36 x1 (1 : Int32) (x3 + (1 : Int32))
        else
          k36 x1 (1 : Int32) (x3 + (1 : Int32))
set_option maxRecDepth 100000 in
set_option maxHeartbeats 4000000 in
theorem w_M_goes_36 {γ : CX} {cI cZ : ClassId} {h : Nat → Nat} {u : PS} {r0 : Int32} (C : Cx γ b_M_goes 7 (some .boolean) "PackagePickModel" (rk 1) [(cI, .int), (cZ, .boolean)]) (hQ : QI γ [(cI, .int), (cZ, .boolean)] (WM cI cZ h) r0 u) (k36 : Int32 → Int32 → Int32 → Option (Int32)) (hk36 : ∀ (x1 : Int32) (x2 : Int32) (x3 : Int32), k36 x1 x2 x3 = some r0 → AtG γ (WM cI cZ h) 7 0 0 36 [(0, .ref (h 0)), (1, .int x1), (2, .int x2), (3, .int x3)] [] u) (x1 : Int32) (x2 : Int32) (x3 : Int32) (hf : b_M_goes_36 u k36 x1 x2 x3 = some r0) : AtG γ (WM cI cZ h) 7 0 0 36 [(0, .ref (h 0)), (1, .int x1), (2, .int x2), (3, .int x3)] [] u := by
  unfold b_M_goes_36 at hf
  refine x_iload_n C d_M_goes_36 rfl (k := 3) rfl ?_
  refine x_aload_n C d_M_goes_37 rfl (k := 0) rfl ?_
  refine gM_M_asked (v := (u.1 1)) C mf_M_75 rfl d_M_goes_38 ?_
  refine x_icmp_ge (tgt := 98) C d_M_goes_41 (by decide) (fun hc => ?_) (fun hc => ?_)
  · rw [if_pos hc] at hf
    refine x_iconst (v := 0) C d_M_goes_98 (by decide) ?_
    refine x_istore_n (lv' := [(3, .int (0 : Int32)), (0, .ref (h 0)), (1, .int x1), (2, .int x2)]) C d_M_goes_99 rfl (by decide) rfl ?_
    refine x_sub (lv' := [(0, .ref (h 0)), (1, .int x1), (2, .int x2), (3, .int (0 : Int32))]) [1, 2, 3, 0] rfl ?_
    exact wl_M_goes_100 C hQ NF x1 x2 (0 : Int32) hf
  · rw [if_neg hc] at hf
    refine x_iload_n C d_M_goes_44 rfl (k := 2) rfl ?_
    refine x_if_eq (tgt := 90) C d_M_goes_45 (by decide) (fun hc => ?_) (fun hc => ?_)
    · rw [if_pos hc] at hf
      refine x_iconst (v := 0) C d_M_goes_90 (by decide) ?_
      refine x_istore_n (lv' := [(2, .int (0 : Int32)), (0, .ref (h 0)), (1, .int x1), (3, .int x3)]) C d_M_goes_91 rfl (by decide) rfl ?_
      refine x_iinc (v := (x3 + (1 : Int32))) (lv' := [(3, .int (x3 + (1 : Int32))), (2, .int (0 : Int32)), (0, .ref (h 0)), (1, .int x1)]) C d_M_goes_92 (k := 3) rfl rfl (by decide) rfl ?_
      refine x_goto (tgt := 36) C d_M_goes_95 (by decide) ?_
      refine x_sub (lv' := [(0, .ref (h 0)), (1, .int x1), (2, .int (0 : Int32)), (3, .int (x3 + (1 : Int32)))]) [2, 3, 1, 0] rfl ?_
      exact hk36 x1 (0 : Int32) (x3 + (1 : Int32)) hf
    · rw [if_neg hc] at hf
      refine x_aload_n C d_M_goes_48 rfl (k := 0) rfl ?_
      refine x_iload_n C d_M_goes_49 rfl (k := 3) rfl ?_
      refine x_callIv (q0 := 0) (ci := 4) (rest := []) C (c_M_counts x3 u) kc_M_counts (rok (by decide) (by decide)) mm_M_81 ms_M_counts ml_M_counts rfl rfl rfl rfl (Nat.le_of_ble_eq_true rfl) d_M_goes_50 ?_
      refine x_if_eq (tgt := 86) C d_M_goes_53 (by decide) (fun hc => ?_) (fun hc => ?_)
      · rw [if_pos hc] at hf
        refine x_iconst (v := 1) C d_M_goes_86 (by decide) ?_
        refine x_goto (tgt := 91) C d_M_goes_87 (by decide) ?_
        refine x_istore_n (lv' := [(2, .int (1 : Int32)), (0, .ref (h 0)), (1, .int x1), (3, .int x3)]) C d_M_goes_91 rfl (by decide) rfl ?_
        refine x_iinc (v := (x3 + (1 : Int32))) (lv' := [(3, .int (x3 + (1 : Int32))), (2, .int (1 : Int32)), (0, .ref (h 0)), (1, .int x1)]) C d_M_goes_92 (k := 3) rfl rfl (by decide) rfl ?_
        refine x_goto (tgt := 36) C d_M_goes_95 (by decide) ?_
        refine x_sub (lv' := [(0, .ref (h 0)), (1, .int x1), (2, .int (1 : Int32)), (3, .int (x3 + (1 : Int32)))]) [2, 3, 1, 0] rfl ?_
        exact hk36 x1 (1 : Int32) (x3 + (1 : Int32)) hf
      · rw [if_neg hc] at hf
        refine x_aload_n C d_M_goes_56 rfl (k := 0) rfl ?_
        refine gM_M_askedOf C mf_M_26 d_M_goes_57 ?_
        refine x_iload_n C d_M_goes_60 rfl (k := 3) rfl ?_
        obtain ⟨hin, hf⟩ := ck_some hf
        refine aldM_6 (v := (u.2 5 x3.toNatClampNeg)) C hin rfl d_M_goes_61 ?_
        refine x_iload_n C d_M_goes_62 rfl (k := 1) rfl ?_
        refine x_icmp_ne (tgt := 86) C d_M_goes_63 (by decide) (fun hc => ?_) (fun hc => ?_)
        · rw [if_neg hc] at hf
          refine x_iconst (v := 1) C d_M_goes_86 (by decide) ?_
          refine x_goto (tgt := 91) C d_M_goes_87 (by decide) ?_
          refine x_istore_n (lv' := [(2, .int (1 : Int32)), (0, .ref (h 0)), (1, .int x1), (3, .int x3)]) C d_M_goes_91 rfl (by decide) rfl ?_
          refine x_iinc (v := (x3 + (1 : Int32))) (lv' := [(3, .int (x3 + (1 : Int32))), (2, .int (1 : Int32)), (0, .ref (h 0)), (1, .int x1)]) C d_M_goes_92 (k := 3) rfl rfl (by decide) rfl ?_
          refine x_goto (tgt := 36) C d_M_goes_95 (by decide) ?_
          refine x_sub (lv' := [(0, .ref (h 0)), (1, .int x1), (2, .int (1 : Int32)), (3, .int (x3 + (1 : Int32)))]) [2, 3, 1, 0] rfl ?_
          exact hk36 x1 (1 : Int32) (x3 + (1 : Int32)) hf
        · rw [if_pos hc] at hf
          refine x_aload_n C d_M_goes_66 rfl (k := 0) rfl ?_
          refine x_iload_n C d_M_goes_67 rfl (k := 1) rfl ?_
          refine x_aload_n C d_M_goes_68 rfl (k := 0) rfl ?_
          refine gM_M_askedFrom C mf_M_29 d_M_goes_69 ?_
          refine x_iload_n C d_M_goes_72 rfl (k := 3) rfl ?_
          obtain ⟨hin, hf⟩ := ck_some hf
          refine aldM_7 (v := (u.2 6 x3.toNatClampNeg)) C hin rfl d_M_goes_73 ?_
          refine x_aload_n C d_M_goes_74 rfl (k := 0) rfl ?_
          refine gM_M_askedTo C mf_M_32 d_M_goes_75 ?_
          refine x_iload_n C d_M_goes_78 rfl (k := 3) rfl ?_
          obtain ⟨hin, hf⟩ := ck_some hf
          refine aldM_8 (v := (u.2 7 x3.toNatClampNeg)) C hin rfl d_M_goes_79 ?_
          obtain ⟨r3, hc3, hf⟩ := Option.bind_eq_some_iff.mp hf
          refine x_callIv (q0 := 0) (ci := 4) (rest := []) C (c_M_isMet x1 (u.2 6 x3.toNatClampNeg) (u.2 7 x3.toNatClampNeg) u hc3) kc_M_isMet (rok (by decide) (by decide)) mm_M_84 ms_M_isMet ml_M_isMet rfl rfl rfl rfl (Nat.le_of_ble_eq_true rfl) d_M_goes_80 ?_
          refine x_if_eq (tgt := 90) C d_M_goes_83 (by decide) (fun hc => ?_) (fun hc => ?_)
          · rw [if_pos hc] at hf
            refine x_iconst (v := 0) C d_M_goes_90 (by decide) ?_
            refine x_istore_n (lv' := [(2, .int (0 : Int32)), (0, .ref (h 0)), (1, .int x1), (3, .int x3)]) C d_M_goes_91 rfl (by decide) rfl ?_
            refine x_iinc (v := (x3 + (1 : Int32))) (lv' := [(3, .int (x3 + (1 : Int32))), (2, .int (0 : Int32)), (0, .ref (h 0)), (1, .int x1)]) C d_M_goes_92 (k := 3) rfl rfl (by decide) rfl ?_
            refine x_goto (tgt := 36) C d_M_goes_95 (by decide) ?_
            refine x_sub (lv' := [(0, .ref (h 0)), (1, .int x1), (2, .int (0 : Int32)), (3, .int (x3 + (1 : Int32)))]) [2, 3, 1, 0] rfl ?_
            exact hk36 x1 (0 : Int32) (x3 + (1 : Int32)) hf
          · rw [if_neg hc] at hf
            refine x_iconst (v := 1) C d_M_goes_86 (by decide) ?_
            refine x_goto (tgt := 91) C d_M_goes_87 (by decide) ?_
            refine x_istore_n (lv' := [(2, .int (1 : Int32)), (0, .ref (h 0)), (1, .int x1), (3, .int x3)]) C d_M_goes_91 rfl (by decide) rfl ?_
            refine x_iinc (v := (x3 + (1 : Int32))) (lv' := [(3, .int (x3 + (1 : Int32))), (2, .int (1 : Int32)), (0, .ref (h 0)), (1, .int x1)]) C d_M_goes_92 (k := 3) rfl rfl (by decide) rfl ?_
            refine x_goto (tgt := 36) C d_M_goes_95 (by decide) ?_
            refine x_sub (lv' := [(0, .ref (h 0)), (1, .int x1), (2, .int (1 : Int32)), (3, .int (x3 + (1 : Int32)))]) [2, 3, 1, 0] rfl ?_
            exact hk36 x1 (1 : Int32) (x3 + (1 : Int32)) hf
def l_M_goes_36 (u : PS) : Nat → Int32 → Int32 → Int32 → Option (Int32)
  | 0 => fun _ _ _ => none
  | n + 1 => b_M_goes_36 u (l_M_goes_36 u n)
theorem wl_M_goes_36 {γ : CX} {cI cZ : ClassId} {h : Nat → Nat} {u : PS} {r0 : Int32} (C : Cx γ b_M_goes 7 (some .boolean) "PackagePickModel" (rk 1) [(cI, .int), (cZ, .boolean)]) (hQ : QI γ [(cI, .int), (cZ, .boolean)] (WM cI cZ h) r0 u) (n : Nat) : ∀ (x1 : Int32) (x2 : Int32) (x3 : Int32), l_M_goes_36 u n x1 x2 x3 = some r0 → AtG γ (WM cI cZ h) 7 0 0 36 [(0, .ref (h 0)), (1, .int x1), (2, .int x2), (3, .int x3)] [] u := by
  induction n with
  | zero => intro x1 x2 x3 hf; cases hf
  | succ n ih => intro x1 x2 x3 hf; exact w_M_goes_36 C hQ (l_M_goes_36 u n) ih x1 x2 x3 hf
def f_M_goes (a1 : Int32) (u : PS) : Option (Int32) :=
  ck (inb a1 7) <|
  if (u.2 10 a1.toNatClampNeg) = (-1 : Int32) then
    l_M_goes_36 u NF a1 (1 : Int32) (0 : Int32)
  else
    ck (inb a1 7) <|
    ck (inb (((4 : Int32) * a1) + (u.2 10 a1.toNatClampNeg)) 28) <|
    if (u.2 0 (((4 : Int32) * a1) + (u.2 10 a1.toNatClampNeg)).toNatClampNeg) = 0 then
      l_M_goes_36 u NF a1 (0 : Int32) (0 : Int32)
    else
      l_M_goes_36 u NF a1 (1 : Int32) (0 : Int32)
set_option maxRecDepth 100000 in
set_option maxHeartbeats 4000000 in
theorem w_M_goes {γ : CX} {cI cZ : ClassId} {h : Nat → Nat} {u : PS} {r0 : Int32} (C : Cx γ b_M_goes 7 (some .boolean) "PackagePickModel" (rk 1) [(cI, .int), (cZ, .boolean)]) (hQ : QI γ [(cI, .int), (cZ, .boolean)] (WM cI cZ h) r0 u) (a1 : Int32) (hf : f_M_goes a1 u = some r0) : AtG γ (WM cI cZ h) 7 0 0 0 [(0, .ref (h 0)), (1, .int a1)] [] u := by
  unfold f_M_goes at hf
  refine x_aload_n C d_M_goes_0 rfl (k := 0) rfl ?_
  refine gM_M_pick C mf_M_41 d_M_goes_1 ?_
  refine x_iload_n C d_M_goes_4 rfl (k := 1) rfl ?_
  obtain ⟨hin, hf⟩ := ck_some hf
  refine aldM_11 (v := (u.2 10 a1.toNatClampNeg)) C hin rfl d_M_goes_5 ?_
  refine x_iconst (v := -1) C d_M_goes_6 (by decide) ?_
  refine x_icmp_eq (tgt := 28) C d_M_goes_7 (by decide) (fun hc => ?_) (fun hc => ?_)
  · rw [if_pos hc] at hf
    refine x_iconst (v := 1) C d_M_goes_28 (by decide) ?_
    refine x_goto (tgt := 33) C d_M_goes_29 (by decide) ?_
    refine x_istore_n (lv' := [(2, .int (1 : Int32)), (0, .ref (h 0)), (1, .int a1)]) C d_M_goes_33 rfl (by decide) rfl ?_
    refine x_iconst (v := 0) C d_M_goes_34 (by decide) ?_
    refine x_istore_n (lv' := [(3, .int (0 : Int32)), (2, .int (1 : Int32)), (0, .ref (h 0)), (1, .int a1)]) C d_M_goes_35 rfl (by decide) rfl ?_
    refine x_sub (lv' := [(0, .ref (h 0)), (1, .int a1), (2, .int (1 : Int32)), (3, .int (0 : Int32))]) [2, 3, 1, 0] rfl ?_
    exact wl_M_goes_36 C hQ NF a1 (1 : Int32) (0 : Int32) hf
  · rw [if_neg hc] at hf
    refine x_aload_n C d_M_goes_10 rfl (k := 0) rfl ?_
    refine gM_M_there C mf_M_7 d_M_goes_11 ?_
    refine x_iconst (v := 4) C d_M_goes_14 (by decide) ?_
    refine x_iload_n C d_M_goes_15 rfl (k := 1) rfl ?_
    refine x_imul C d_M_goes_16 ?_
    refine x_aload_n C d_M_goes_17 rfl (k := 0) rfl ?_
    refine gM_M_pick C mf_M_41 d_M_goes_18 ?_
    refine x_iload_n C d_M_goes_21 rfl (k := 1) rfl ?_
    obtain ⟨hin, hf⟩ := ck_some hf
    refine aldM_11 (v := (u.2 10 a1.toNatClampNeg)) C hin rfl d_M_goes_22 ?_
    refine x_iadd C d_M_goes_23 ?_
    obtain ⟨hin, hf⟩ := ck_some hf
    refine aldM_1 (v := (u.2 0 (((4 : Int32) * a1) + (u.2 10 a1.toNatClampNeg)).toNatClampNeg)) C hin rfl d_M_goes_24 ?_
    refine x_if_eq (tgt := 32) C d_M_goes_25 (by decide) (fun hc => ?_) (fun hc => ?_)
    · rw [if_pos hc] at hf
      refine x_iconst (v := 0) C d_M_goes_32 (by decide) ?_
      refine x_istore_n (lv' := [(2, .int (0 : Int32)), (0, .ref (h 0)), (1, .int a1)]) C d_M_goes_33 rfl (by decide) rfl ?_
      refine x_iconst (v := 0) C d_M_goes_34 (by decide) ?_
      refine x_istore_n (lv' := [(3, .int (0 : Int32)), (2, .int (0 : Int32)), (0, .ref (h 0)), (1, .int a1)]) C d_M_goes_35 rfl (by decide) rfl ?_
      refine x_sub (lv' := [(0, .ref (h 0)), (1, .int a1), (2, .int (0 : Int32)), (3, .int (0 : Int32))]) [2, 3, 1, 0] rfl ?_
      exact wl_M_goes_36 C hQ NF a1 (0 : Int32) (0 : Int32) hf
    · rw [if_neg hc] at hf
      refine x_iconst (v := 1) C d_M_goes_28 (by decide) ?_
      refine x_goto (tgt := 33) C d_M_goes_29 (by decide) ?_
      refine x_istore_n (lv' := [(2, .int (1 : Int32)), (0, .ref (h 0)), (1, .int a1)]) C d_M_goes_33 rfl (by decide) rfl ?_
      refine x_iconst (v := 0) C d_M_goes_34 (by decide) ?_
      refine x_istore_n (lv' := [(3, .int (0 : Int32)), (2, .int (1 : Int32)), (0, .ref (h 0)), (1, .int a1)]) C d_M_goes_35 rfl (by decide) rfl ?_
      refine x_sub (lv' := [(0, .ref (h 0)), (1, .int a1), (2, .int (1 : Int32)), (3, .int (0 : Int32))]) [2, 3, 1, 0] rfl ?_
      exact wl_M_goes_36 C hQ NF a1 (1 : Int32) (0 : Int32) hf
theorem c_M_goes {l : Launch} {D : va_G} {cI cZ : ClassId} {h : Nat → Nat} (a1 : Int32) (u : PS) {r0 : Int32} (hf : f_M_goes a1 u = some r0) : CtI l y_M_goes b_M_goes 7 (some .boolean) (rk 1) D [(cI, .int), (cZ, .boolean)] (WM cI cZ h) [.ref (h 0), .int a1] u r0 u := ct_ofI (by decide) (Nat.le_of_ble_eq_true rfl) (fun γ _ _ C hQ => w_M_goes C hQ a1 hf)
-- ---- PackagePickModel.isTight()Z
def b_M_isTight_180 (k180 : Int32 → Int32 → PS → Option (Int32 × PS)) (x2 : Int32) (x3 : Int32) (u : PS) : Option (Int32 × PS) :=
  if (7 : Int32) ≤ x3 then
    ck (isB x2) <|
    some (x2, u)
  else
    if x2 = 0 then
      k180 (0 : Int32) (x3 + (1 : Int32)) u
    else
      ck (inb x3 7) <|
      if (u.2 11 x3.toNatClampNeg) = 0 then
        ck (inb x3 7) <|
        if (u.2 10 x3.toNatClampNeg) = (-1 : Int32) then
          k180 (1 : Int32) (x3 + (1 : Int32)) u
        else
          k180 (0 : Int32) (x3 + (1 : Int32)) u
      else
        k180 (1 : Int32) (x3 + (1 : Int32)) u
set_option maxRecDepth 100000 in
set_option maxHeartbeats 4000000 in
theorem w_M_isTight_180 {γ : CX} {cI cZ : ClassId} {h : Nat → Nat} {r0 : Int32} {u0 : PS} (C : Cx γ b_M_isTight 6 (some .boolean) "PackagePickModel" (rk 1) [(cI, .int), (cZ, .boolean)]) (hQ : QI γ [(cI, .int), (cZ, .boolean)] (WM cI cZ h) r0 u0) (k180 : Int32 → Int32 → PS → Option (Int32 × PS)) (hk180 : ∀ (x2 : Int32) (x3 : Int32) (u : PS), k180 x2 x3 u = some (r0, u0) → AtG γ (WM cI cZ h) 6 0 0 180 [(0, .ref (h 0)), (2, .int x2), (3, .int x3)] [] u) (x2 : Int32) (x3 : Int32) (u : PS) (hf : b_M_isTight_180 k180 x2 x3 u = some (r0, u0)) : AtG γ (WM cI cZ h) 6 0 0 180 [(0, .ref (h 0)), (2, .int x2), (3, .int x3)] [] u := by
  unfold b_M_isTight_180 at hf
  refine x_iload_n C d_M_isTight_180 rfl (k := 2) rfl ?_
  refine x_bipush (v := 7) C d_M_isTight_181 (by decide) ?_
  refine x_icmp_ge (tgt := 221) C d_M_isTight_183 (by decide) (fun hc => ?_) (fun hc => ?_)
  · rw [if_pos hc] at hf
    refine x_iload_n C d_M_isTight_221 rfl (k := 1) rfl ?_
    obtain ⟨hbo, hf⟩ := ck_some hf
    exact x_zret C hQ (isB_nar hbo) (Prod.mk.inj (Option.some.inj hf)).1 (Prod.mk.inj (Option.some.inj hf)).2 d_M_isTight_222
  · rw [if_neg hc] at hf
    refine x_iload_n C d_M_isTight_186 rfl (k := 1) rfl ?_
    refine x_if_eq (tgt := 213) C d_M_isTight_187 (by decide) (fun hc => ?_) (fun hc => ?_)
    · rw [if_pos hc] at hf
      refine x_iconst (v := 0) C d_M_isTight_213 (by decide) ?_
      refine x_istore_n (lv' := [(2, .int (0 : Int32)), (0, .ref (h 0)), (3, .int x3)]) C d_M_isTight_214 rfl (by decide) rfl ?_
      refine x_iinc (v := (x3 + (1 : Int32))) (lv' := [(3, .int (x3 + (1 : Int32))), (2, .int (0 : Int32)), (0, .ref (h 0))]) C d_M_isTight_215 (k := 2) rfl rfl (by decide) rfl ?_
      refine x_goto (tgt := 180) C d_M_isTight_218 (by decide) ?_
      refine x_sub (lv' := [(0, .ref (h 0)), (2, .int (0 : Int32)), (3, .int (x3 + (1 : Int32)))]) [2, 1, 0] rfl ?_
      exact hk180 (0 : Int32) (x3 + (1 : Int32)) u hf
    · rw [if_neg hc] at hf
      refine x_aload_n C d_M_isTight_190 rfl (k := 0) rfl ?_
      refine gM_M_wanted C mf_M_44 d_M_isTight_191 ?_
      refine x_iload_n C d_M_isTight_194 rfl (k := 2) rfl ?_
      obtain ⟨hin, hf⟩ := ck_some hf
      refine aldM_12 (v := (u.2 11 x3.toNatClampNeg)) C hin rfl d_M_isTight_195 ?_
      refine x_if_ne (tgt := 209) C d_M_isTight_196 (by decide) (fun hc => ?_) (fun hc => ?_)
      · rw [if_neg hc] at hf
        refine x_iconst (v := 1) C d_M_isTight_209 (by decide) ?_
        refine x_goto (tgt := 214) C d_M_isTight_210 (by decide) ?_
        refine x_istore_n (lv' := [(2, .int (1 : Int32)), (0, .ref (h 0)), (3, .int x3)]) C d_M_isTight_214 rfl (by decide) rfl ?_
        refine x_iinc (v := (x3 + (1 : Int32))) (lv' := [(3, .int (x3 + (1 : Int32))), (2, .int (1 : Int32)), (0, .ref (h 0))]) C d_M_isTight_215 (k := 2) rfl rfl (by decide) rfl ?_
        refine x_goto (tgt := 180) C d_M_isTight_218 (by decide) ?_
        refine x_sub (lv' := [(0, .ref (h 0)), (2, .int (1 : Int32)), (3, .int (x3 + (1 : Int32)))]) [2, 1, 0] rfl ?_
        exact hk180 (1 : Int32) (x3 + (1 : Int32)) u hf
      · rw [if_pos hc] at hf
        refine x_aload_n C d_M_isTight_199 rfl (k := 0) rfl ?_
        refine gM_M_pick C mf_M_41 d_M_isTight_200 ?_
        refine x_iload_n C d_M_isTight_203 rfl (k := 2) rfl ?_
        obtain ⟨hin, hf⟩ := ck_some hf
        refine aldM_11 (v := (u.2 10 x3.toNatClampNeg)) C hin rfl d_M_isTight_204 ?_
        refine x_iconst (v := -1) C d_M_isTight_205 (by decide) ?_
        refine x_icmp_ne (tgt := 213) C d_M_isTight_206 (by decide) (fun hc => ?_) (fun hc => ?_)
        · rw [if_neg hc] at hf
          refine x_iconst (v := 0) C d_M_isTight_213 (by decide) ?_
          refine x_istore_n (lv' := [(2, .int (0 : Int32)), (0, .ref (h 0)), (3, .int x3)]) C d_M_isTight_214 rfl (by decide) rfl ?_
          refine x_iinc (v := (x3 + (1 : Int32))) (lv' := [(3, .int (x3 + (1 : Int32))), (2, .int (0 : Int32)), (0, .ref (h 0))]) C d_M_isTight_215 (k := 2) rfl rfl (by decide) rfl ?_
          refine x_goto (tgt := 180) C d_M_isTight_218 (by decide) ?_
          refine x_sub (lv' := [(0, .ref (h 0)), (2, .int (0 : Int32)), (3, .int (x3 + (1 : Int32)))]) [2, 1, 0] rfl ?_
          exact hk180 (0 : Int32) (x3 + (1 : Int32)) u hf
        · rw [if_pos hc] at hf
          refine x_iconst (v := 1) C d_M_isTight_209 (by decide) ?_
          refine x_goto (tgt := 214) C d_M_isTight_210 (by decide) ?_
          refine x_istore_n (lv' := [(2, .int (1 : Int32)), (0, .ref (h 0)), (3, .int x3)]) C d_M_isTight_214 rfl (by decide) rfl ?_
          refine x_iinc (v := (x3 + (1 : Int32))) (lv' := [(3, .int (x3 + (1 : Int32))), (2, .int (1 : Int32)), (0, .ref (h 0))]) C d_M_isTight_215 (k := 2) rfl rfl (by decide) rfl ?_
          refine x_goto (tgt := 180) C d_M_isTight_218 (by decide) ?_
          refine x_sub (lv' := [(0, .ref (h 0)), (2, .int (1 : Int32)), (3, .int (x3 + (1 : Int32)))]) [2, 1, 0] rfl ?_
          exact hk180 (1 : Int32) (x3 + (1 : Int32)) u hf
def l_M_isTight_180 : Nat → Int32 → Int32 → PS → Option (Int32 × PS)
  | 0 => fun _ _ _ => none
  | n + 1 => b_M_isTight_180 (l_M_isTight_180 n)
theorem wl_M_isTight_180 {γ : CX} {cI cZ : ClassId} {h : Nat → Nat} {r0 : Int32} {u0 : PS} (C : Cx γ b_M_isTight 6 (some .boolean) "PackagePickModel" (rk 1) [(cI, .int), (cZ, .boolean)]) (hQ : QI γ [(cI, .int), (cZ, .boolean)] (WM cI cZ h) r0 u0) (n : Nat) : ∀ (x2 : Int32) (x3 : Int32) (u : PS), l_M_isTight_180 n x2 x3 u = some (r0, u0) → AtG γ (WM cI cZ h) 6 0 0 180 [(0, .ref (h 0)), (2, .int x2), (3, .int x3)] [] u := by
  induction n with
  | zero => intro x2 x3 u hf; cases hf
  | succ n ih => intro x2 x3 u hf; exact w_M_isTight_180 C hQ (l_M_isTight_180 n) ih x2 x3 u hf
def b_M_isTight_152 (k59 : Int32 → PS → Option (Int32 × PS)) (k67 : Int32 → Int32 → PS → Option (Int32 × PS)) (k109 : Int32 → Int32 → Int32 → Int32 → PS → Option (Int32 × PS)) (x2 : Int32) (x3 : Int32) (x4 : Int32) (x5 : Int32) (t0 : Int32) (u : PS) : Option (Int32 × PS) :=
  ck (inb x5 7) <|
  k109 t0 x2 x3 (x4 + (1 : Int32)) (sa u 11 x5.toNatClampNeg (1 : Int32))
set_option maxRecDepth 100000 in
set_option maxHeartbeats 4000000 in
theorem w_M_isTight_152 {γ : CX} {cI cZ : ClassId} {h : Nat → Nat} {r0 : Int32} {u0 : PS} (C : Cx γ b_M_isTight 6 (some .boolean) "PackagePickModel" (rk 1) [(cI, .int), (cZ, .boolean)]) (hQ : QI γ [(cI, .int), (cZ, .boolean)] (WM cI cZ h) r0 u0) (k59 : Int32 → PS → Option (Int32 × PS)) (k67 : Int32 → Int32 → PS → Option (Int32 × PS)) (k109 : Int32 → Int32 → Int32 → Int32 → PS → Option (Int32 × PS)) (hk59 : ∀ (x1 : Int32) (u : PS), k59 x1 u = some (r0, u0) → AtG γ (WM cI cZ h) 6 0 0 59 [(0, .ref (h 0)), (1, .int x1)] [] u) (hk67 : ∀ (x1 : Int32) (x2 : Int32) (u : PS), k67 x1 x2 u = some (r0, u0) → AtG γ (WM cI cZ h) 6 0 0 67 [(0, .ref (h 0)), (1, .int x1), (2, .int x2)] [] u) (hk109 : ∀ (x1 : Int32) (x2 : Int32) (x3 : Int32) (x4 : Int32) (u : PS), k109 x1 x2 x3 x4 u = some (r0, u0) → AtG γ (WM cI cZ h) 6 0 0 109 [(0, .ref (h 0)), (1, .int x1), (2, .int x2), (3, .int x3), (4, .int x4)] [] u) (x2 : Int32) (x3 : Int32) (x4 : Int32) (x5 : Int32) (t0 : Int32) (u : PS) (hf : b_M_isTight_152 k59 k67 k109 x2 x3 x4 x5 t0 u = some (r0, u0)) : AtG γ (WM cI cZ h) 6 0 0 152 [(0, .ref (h 0)), (2, .int x2), (3, .int x3), (4, .int x4), (5, .int x5)] [.int t0] u := by
  unfold b_M_isTight_152 at hf
  refine x_istore_n (lv' := [(1, .int t0), (0, .ref (h 0)), (2, .int x2), (3, .int x3), (4, .int x4), (5, .int x5)]) C d_M_isTight_152 rfl (by decide) rfl ?_
  refine x_aload_n C d_M_isTight_153 rfl (k := 1) rfl ?_
  refine gM_M_wanted C mf_M_44 d_M_isTight_154 ?_
  refine x_iload C d_M_isTight_157 (k := 5) rfl ?_
  refine x_iconst (v := 1) C d_M_isTight_159 (by decide) ?_
  obtain ⟨hin, hf⟩ := ck_some hf
  refine astM_12 C hin rfl d_M_isTight_160 ?_
  refine x_iinc (v := (x4 + (1 : Int32))) (lv' := [(4, .int (x4 + (1 : Int32))), (1, .int t0), (0, .ref (h 0)), (2, .int x2), (3, .int x3), (5, .int x5)]) C d_M_isTight_161 (k := 4) rfl rfl (by decide) rfl ?_
  refine x_goto (tgt := 109) C d_M_isTight_164 (by decide) ?_
  refine x_sub (lv' := [(0, .ref (h 0)), (1, .int t0), (2, .int x2), (3, .int x3), (4, .int (x4 + (1 : Int32)))]) [2, 1, 3, 4, 0] rfl ?_
  exact hk109 t0 x2 x3 (x4 + (1 : Int32)) (sa u 11 x5.toNatClampNeg (1 : Int32)) hf
def b_M_isTight_109 (k59 : Int32 → PS → Option (Int32 × PS)) (k67 : Int32 → Int32 → PS → Option (Int32 × PS)) (k109 : Int32 → Int32 → Int32 → Int32 → PS → Option (Int32 × PS)) (x1 : Int32) (x2 : Int32) (x3 : Int32) (x4 : Int32) (u : PS) : Option (Int32 × PS) :=
  ck (inb x3 28) <|
  if (u.2 1 x3.toNatClampNeg) ≤ x4 then
    k67 x1 (x2 + (1 : Int32)) u
  else
    ck (inb (((4 : Int32) * x3) + x4) 112) <|
    if x1 = 0 then
      ck (inb (u.2 2 (((4 : Int32) * x3) + x4).toNatClampNeg) 7) <|
      if (u.2 11 (u.2 2 (((4 : Int32) * x3) + x4).toNatClampNeg).toNatClampNeg) = 0 then
        b_M_isTight_152 k59 k67 k109 x2 x3 x4 (u.2 2 (((4 : Int32) * x3) + x4).toNatClampNeg) (1 : Int32) u
      else
        b_M_isTight_152 k59 k67 k109 x2 x3 x4 (u.2 2 (((4 : Int32) * x3) + x4).toNatClampNeg) (0 : Int32) u
    else
      b_M_isTight_152 k59 k67 k109 x2 x3 x4 (u.2 2 (((4 : Int32) * x3) + x4).toNatClampNeg) (1 : Int32) u
set_option maxRecDepth 100000 in
set_option maxHeartbeats 4000000 in
theorem w_M_isTight_109 {γ : CX} {cI cZ : ClassId} {h : Nat → Nat} {r0 : Int32} {u0 : PS} (C : Cx γ b_M_isTight 6 (some .boolean) "PackagePickModel" (rk 1) [(cI, .int), (cZ, .boolean)]) (hQ : QI γ [(cI, .int), (cZ, .boolean)] (WM cI cZ h) r0 u0) (k59 : Int32 → PS → Option (Int32 × PS)) (k67 : Int32 → Int32 → PS → Option (Int32 × PS)) (k109 : Int32 → Int32 → Int32 → Int32 → PS → Option (Int32 × PS)) (hk59 : ∀ (x1 : Int32) (u : PS), k59 x1 u = some (r0, u0) → AtG γ (WM cI cZ h) 6 0 0 59 [(0, .ref (h 0)), (1, .int x1)] [] u) (hk67 : ∀ (x1 : Int32) (x2 : Int32) (u : PS), k67 x1 x2 u = some (r0, u0) → AtG γ (WM cI cZ h) 6 0 0 67 [(0, .ref (h 0)), (1, .int x1), (2, .int x2)] [] u) (hk109 : ∀ (x1 : Int32) (x2 : Int32) (x3 : Int32) (x4 : Int32) (u : PS), k109 x1 x2 x3 x4 u = some (r0, u0) → AtG γ (WM cI cZ h) 6 0 0 109 [(0, .ref (h 0)), (1, .int x1), (2, .int x2), (3, .int x3), (4, .int x4)] [] u) (x1 : Int32) (x2 : Int32) (x3 : Int32) (x4 : Int32) (u : PS) (hf : b_M_isTight_109 k59 k67 k109 x1 x2 x3 x4 u = some (r0, u0)) : AtG γ (WM cI cZ h) 6 0 0 109 [(0, .ref (h 0)), (1, .int x1), (2, .int x2), (3, .int x3), (4, .int x4)] [] u := by
  unfold b_M_isTight_109 at hf
  refine x_iload C d_M_isTight_109 (k := 4) rfl ?_
  refine x_aload_n C d_M_isTight_111 rfl (k := 0) rfl ?_
  refine gM_M_needs C mf_M_13 d_M_isTight_112 ?_
  refine x_iload_n C d_M_isTight_115 rfl (k := 3) rfl ?_
  obtain ⟨hin, hf⟩ := ck_some hf
  refine aldM_2 (v := (u.2 1 x3.toNatClampNeg)) C hin rfl d_M_isTight_116 ?_
  refine x_icmp_ge (tgt := 167) C d_M_isTight_117 (by decide) (fun hc => ?_) (fun hc => ?_)
  · rw [if_pos hc] at hf
    refine x_iinc (v := (x2 + (1 : Int32))) (lv' := [(2, .int (x2 + (1 : Int32))), (0, .ref (h 0)), (1, .int x1), (3, .int x3), (4, .int x4)]) C d_M_isTight_167 (k := 2) rfl rfl (by decide) rfl ?_
    refine x_goto (tgt := 67) C d_M_isTight_170 (by decide) ?_
    refine x_sub (lv' := [(0, .ref (h 0)), (1, .int x1), (2, .int (x2 + (1 : Int32)))]) [1, 2, 0] rfl ?_
    exact hk67 x1 (x2 + (1 : Int32)) u hf
  · rw [if_neg hc] at hf
    refine x_aload_n C d_M_isTight_120 rfl (k := 0) rfl ?_
    refine gM_M_needOf C mf_M_17 d_M_isTight_121 ?_
    refine x_iconst (v := 4) C d_M_isTight_124 (by decide) ?_
    refine x_iload_n C d_M_isTight_125 rfl (k := 3) rfl ?_
    refine x_imul C d_M_isTight_126 ?_
    refine x_iload C d_M_isTight_127 (k := 4) rfl ?_
    refine x_iadd C d_M_isTight_129 ?_
    obtain ⟨hin, hf⟩ := ck_some hf
    refine aldM_3 (v := (u.2 2 (((4 : Int32) * x3) + x4).toNatClampNeg)) C hin rfl d_M_isTight_130 ?_
    refine x_istore (lv' := [(5, .int (u.2 2 (((4 : Int32) * x3) + x4).toNatClampNeg)), (0, .ref (h 0)), (1, .int x1), (2, .int x2), (3, .int x3), (4, .int x4)]) C d_M_isTight_131 (by decide) rfl ?_
    refine x_iload_n C d_M_isTight_133 rfl (k := 2) rfl ?_
    refine x_if_ne (tgt := 147) C d_M_isTight_134 (by decide) (fun hc => ?_) (fun hc => ?_)
    · rw [if_neg hc] at hf
      refine x_iconst (v := 1) C d_M_isTight_147 (by decide) ?_
      refine x_goto (tgt := 152) C d_M_isTight_148 (by decide) ?_
      refine x_sub (lv' := [(0, .ref (h 0)), (2, .int x2), (3, .int x3), (4, .int x4), (5, .int (u.2 2 (((4 : Int32) * x3) + x4).toNatClampNeg))]) [1, 3, 4, 5, 0] rfl ?_
      exact w_M_isTight_152 C hQ k59 k67 k109 hk59 hk67 hk109 x2 x3 x4 (u.2 2 (((4 : Int32) * x3) + x4).toNatClampNeg) (1 : Int32) u hf
    · rw [if_pos hc] at hf
      refine x_aload_n C d_M_isTight_137 rfl (k := 1) rfl ?_
      refine gM_M_wanted C mf_M_44 d_M_isTight_138 ?_
      refine x_iload C d_M_isTight_141 (k := 0) rfl ?_
      obtain ⟨hin, hf⟩ := ck_some hf
      refine aldM_12 (v := (u.2 11 (u.2 2 (((4 : Int32) * x3) + x4).toNatClampNeg).toNatClampNeg)) C hin rfl d_M_isTight_143 ?_
      refine x_if_ne (tgt := 151) C d_M_isTight_144 (by decide) (fun hc => ?_) (fun hc => ?_)
      · rw [if_neg hc] at hf
        refine x_iconst (v := 0) C d_M_isTight_151 (by decide) ?_
        refine x_sub (lv' := [(0, .ref (h 0)), (2, .int x2), (3, .int x3), (4, .int x4), (5, .int (u.2 2 (((4 : Int32) * x3) + x4).toNatClampNeg))]) [1, 3, 4, 5, 0] rfl ?_
        exact w_M_isTight_152 C hQ k59 k67 k109 hk59 hk67 hk109 x2 x3 x4 (u.2 2 (((4 : Int32) * x3) + x4).toNatClampNeg) (0 : Int32) u hf
      · rw [if_pos hc] at hf
        refine x_iconst (v := 1) C d_M_isTight_147 (by decide) ?_
        refine x_goto (tgt := 152) C d_M_isTight_148 (by decide) ?_
        refine x_sub (lv' := [(0, .ref (h 0)), (2, .int x2), (3, .int x3), (4, .int x4), (5, .int (u.2 2 (((4 : Int32) * x3) + x4).toNatClampNeg))]) [1, 3, 4, 5, 0] rfl ?_
        exact w_M_isTight_152 C hQ k59 k67 k109 hk59 hk67 hk109 x2 x3 x4 (u.2 2 (((4 : Int32) * x3) + x4).toNatClampNeg) (1 : Int32) u hf
def l_M_isTight_109 (k59 : Int32 → PS → Option (Int32 × PS)) (k67 : Int32 → Int32 → PS → Option (Int32 × PS)) : Nat → Int32 → Int32 → Int32 → Int32 → PS → Option (Int32 × PS)
  | 0 => fun _ _ _ _ _ => none
  | n + 1 => b_M_isTight_109 k59 k67 (l_M_isTight_109 k59 k67 n)
theorem wl_M_isTight_109 {γ : CX} {cI cZ : ClassId} {h : Nat → Nat} {r0 : Int32} {u0 : PS} (C : Cx γ b_M_isTight 6 (some .boolean) "PackagePickModel" (rk 1) [(cI, .int), (cZ, .boolean)]) (hQ : QI γ [(cI, .int), (cZ, .boolean)] (WM cI cZ h) r0 u0) (k59 : Int32 → PS → Option (Int32 × PS)) (k67 : Int32 → Int32 → PS → Option (Int32 × PS)) (hk59 : ∀ (x1 : Int32) (u : PS), k59 x1 u = some (r0, u0) → AtG γ (WM cI cZ h) 6 0 0 59 [(0, .ref (h 0)), (1, .int x1)] [] u) (hk67 : ∀ (x1 : Int32) (x2 : Int32) (u : PS), k67 x1 x2 u = some (r0, u0) → AtG γ (WM cI cZ h) 6 0 0 67 [(0, .ref (h 0)), (1, .int x1), (2, .int x2)] [] u) (n : Nat) : ∀ (x1 : Int32) (x2 : Int32) (x3 : Int32) (x4 : Int32) (u : PS), l_M_isTight_109 k59 k67 n x1 x2 x3 x4 u = some (r0, u0) → AtG γ (WM cI cZ h) 6 0 0 109 [(0, .ref (h 0)), (1, .int x1), (2, .int x2), (3, .int x3), (4, .int x4)] [] u := by
  induction n with
  | zero => intro x1 x2 x3 x4 u hf; cases hf
  | succ n ih => intro x1 x2 x3 x4 u hf; exact w_M_isTight_109 C hQ k59 k67 (l_M_isTight_109 k59 k67 n) hk59 hk67 ih x1 x2 x3 x4 u hf
def b_M_isTight_67 (k59 : Int32 → PS → Option (Int32 × PS)) (k67 : Int32 → Int32 → PS → Option (Int32 × PS)) (x1 : Int32) (x2 : Int32) (u : PS) : Option (Int32 × PS) :=
  if (7 : Int32) ≤ x2 then
    k59 x1 u
  else
    ck (inb x2 7) <|
    if (u.2 11 x2.toNatClampNeg) = 0 then
      k67 x1 (x2 + (1 : Int32)) u
    else
      ck (inb x2 7) <|
      if (u.2 10 x2.toNatClampNeg) = (-1 : Int32) then
        k67 x1 (x2 + (1 : Int32)) u
      else
        ck (inb x2 7) <|
        l_M_isTight_109 k59 k67 NF x1 x2 (((4 : Int32) * x2) + (u.2 10 x2.toNatClampNeg)) (0 : Int32) u
set_option maxRecDepth 100000 in
set_option maxHeartbeats 4000000 in
theorem w_M_isTight_67 {γ : CX} {cI cZ : ClassId} {h : Nat → Nat} {r0 : Int32} {u0 : PS} (C : Cx γ b_M_isTight 6 (some .boolean) "PackagePickModel" (rk 1) [(cI, .int), (cZ, .boolean)]) (hQ : QI γ [(cI, .int), (cZ, .boolean)] (WM cI cZ h) r0 u0) (k59 : Int32 → PS → Option (Int32 × PS)) (k67 : Int32 → Int32 → PS → Option (Int32 × PS)) (hk59 : ∀ (x1 : Int32) (u : PS), k59 x1 u = some (r0, u0) → AtG γ (WM cI cZ h) 6 0 0 59 [(0, .ref (h 0)), (1, .int x1)] [] u) (hk67 : ∀ (x1 : Int32) (x2 : Int32) (u : PS), k67 x1 x2 u = some (r0, u0) → AtG γ (WM cI cZ h) 6 0 0 67 [(0, .ref (h 0)), (1, .int x1), (2, .int x2)] [] u) (x1 : Int32) (x2 : Int32) (u : PS) (hf : b_M_isTight_67 k59 k67 x1 x2 u = some (r0, u0)) : AtG γ (WM cI cZ h) 6 0 0 67 [(0, .ref (h 0)), (1, .int x1), (2, .int x2)] [] u := by
  unfold b_M_isTight_67 at hf
  refine x_iload_n C d_M_isTight_67 rfl (k := 2) rfl ?_
  refine x_bipush (v := 7) C d_M_isTight_68 (by decide) ?_
  refine x_icmp_ge (tgt := 173) C d_M_isTight_70 (by decide) (fun hc => ?_) (fun hc => ?_)
  · rw [if_pos hc] at hf
    refine x_goto (tgt := 59) C d_M_isTight_173 (by decide) ?_
    refine x_sub (lv' := [(0, .ref (h 0)), (1, .int x1)]) [0, 1] rfl ?_
    exact hk59 x1 u hf
  · rw [if_neg hc] at hf
    refine x_aload_n C d_M_isTight_73 rfl (k := 0) rfl ?_
    refine gM_M_wanted C mf_M_44 d_M_isTight_74 ?_
    refine x_iload_n C d_M_isTight_77 rfl (k := 2) rfl ?_
    obtain ⟨hin, hf⟩ := ck_some hf
    refine aldM_12 (v := (u.2 11 x2.toNatClampNeg)) C hin rfl d_M_isTight_78 ?_
    refine x_if_eq (tgt := 167) C d_M_isTight_79 (by decide) (fun hc => ?_) (fun hc => ?_)
    · rw [if_pos hc] at hf
      refine x_iinc (v := (x2 + (1 : Int32))) (lv' := [(2, .int (x2 + (1 : Int32))), (0, .ref (h 0)), (1, .int x1)]) C d_M_isTight_167 (k := 2) rfl rfl (by decide) rfl ?_
      refine x_goto (tgt := 67) C d_M_isTight_170 (by decide) ?_
      refine x_sub (lv' := [(0, .ref (h 0)), (1, .int x1), (2, .int (x2 + (1 : Int32)))]) [1, 2, 0] rfl ?_
      exact hk67 x1 (x2 + (1 : Int32)) u hf
    · rw [if_neg hc] at hf
      refine x_aload_n C d_M_isTight_82 rfl (k := 0) rfl ?_
      refine gM_M_pick C mf_M_41 d_M_isTight_83 ?_
      refine x_iload_n C d_M_isTight_86 rfl (k := 2) rfl ?_
      obtain ⟨hin, hf⟩ := ck_some hf
      refine aldM_11 (v := (u.2 10 x2.toNatClampNeg)) C hin rfl d_M_isTight_87 ?_
      refine x_iconst (v := -1) C d_M_isTight_88 (by decide) ?_
      refine x_icmp_ne (tgt := 95) C d_M_isTight_89 (by decide) (fun hc => ?_) (fun hc => ?_)
      · rw [if_neg hc] at hf
        refine x_iconst (v := 4) C d_M_isTight_95 (by decide) ?_
        refine x_iload_n C d_M_isTight_96 rfl (k := 2) rfl ?_
        refine x_imul C d_M_isTight_97 ?_
        refine x_aload_n C d_M_isTight_98 rfl (k := 0) rfl ?_
        refine gM_M_pick C mf_M_41 d_M_isTight_99 ?_
        refine x_iload_n C d_M_isTight_102 rfl (k := 2) rfl ?_
        obtain ⟨hin, hf⟩ := ck_some hf
        refine aldM_11 (v := (u.2 10 x2.toNatClampNeg)) C hin rfl d_M_isTight_103 ?_
        refine x_iadd C d_M_isTight_104 ?_
        refine x_istore_n (lv' := [(3, .int (((4 : Int32) * x2) + (u.2 10 x2.toNatClampNeg))), (0, .ref (h 0)), (1, .int x1), (2, .int x2)]) C d_M_isTight_105 rfl (by decide) rfl ?_
        refine x_iconst (v := 0) C d_M_isTight_106 (by decide) ?_
        refine x_istore (lv' := [(4, .int (0 : Int32)), (3, .int (((4 : Int32) * x2) + (u.2 10 x2.toNatClampNeg))), (0, .ref (h 0)), (1, .int x1), (2, .int x2)]) C d_M_isTight_107 (by decide) rfl ?_
        refine x_sub (lv' := [(0, .ref (h 0)), (1, .int x1), (2, .int x2), (3, .int (((4 : Int32) * x2) + (u.2 10 x2.toNatClampNeg))), (4, .int (0 : Int32))]) [2, 3, 4, 1, 0] rfl ?_
        exact wl_M_isTight_109 C hQ k59 k67 hk59 hk67 NF x1 x2 (((4 : Int32) * x2) + (u.2 10 x2.toNatClampNeg)) (0 : Int32) u hf
      · rw [if_pos hc] at hf
        refine x_goto (tgt := 167) C d_M_isTight_92 (by decide) ?_
        refine x_iinc (v := (x2 + (1 : Int32))) (lv' := [(2, .int (x2 + (1 : Int32))), (0, .ref (h 0)), (1, .int x1)]) C d_M_isTight_167 (k := 2) rfl rfl (by decide) rfl ?_
        refine x_goto (tgt := 67) C d_M_isTight_170 (by decide) ?_
        refine x_sub (lv' := [(0, .ref (h 0)), (1, .int x1), (2, .int (x2 + (1 : Int32)))]) [1, 2, 0] rfl ?_
        exact hk67 x1 (x2 + (1 : Int32)) u hf
def l_M_isTight_67 (k59 : Int32 → PS → Option (Int32 × PS)) : Nat → Int32 → Int32 → PS → Option (Int32 × PS)
  | 0 => fun _ _ _ => none
  | n + 1 => b_M_isTight_67 k59 (l_M_isTight_67 k59 n)
theorem wl_M_isTight_67 {γ : CX} {cI cZ : ClassId} {h : Nat → Nat} {r0 : Int32} {u0 : PS} (C : Cx γ b_M_isTight 6 (some .boolean) "PackagePickModel" (rk 1) [(cI, .int), (cZ, .boolean)]) (hQ : QI γ [(cI, .int), (cZ, .boolean)] (WM cI cZ h) r0 u0) (k59 : Int32 → PS → Option (Int32 × PS)) (hk59 : ∀ (x1 : Int32) (u : PS), k59 x1 u = some (r0, u0) → AtG γ (WM cI cZ h) 6 0 0 59 [(0, .ref (h 0)), (1, .int x1)] [] u) (n : Nat) : ∀ (x1 : Int32) (x2 : Int32) (u : PS), l_M_isTight_67 k59 n x1 x2 u = some (r0, u0) → AtG γ (WM cI cZ h) 6 0 0 67 [(0, .ref (h 0)), (1, .int x1), (2, .int x2)] [] u := by
  induction n with
  | zero => intro x1 x2 u hf; cases hf
  | succ n ih => intro x1 x2 u hf; exact w_M_isTight_67 C hQ k59 (l_M_isTight_67 k59 n) hk59 ih x1 x2 u hf
def b_M_isTight_59 (k59 : Int32 → PS → Option (Int32 × PS)) (x1 : Int32) (u : PS) : Option (Int32 × PS) :=
  if x1 = 0 then
    l_M_isTight_180 NF (1 : Int32) (0 : Int32) u
  else
    l_M_isTight_67 k59 NF (0 : Int32) (0 : Int32) u
set_option maxRecDepth 100000 in
set_option maxHeartbeats 4000000 in
theorem w_M_isTight_59 {γ : CX} {cI cZ : ClassId} {h : Nat → Nat} {r0 : Int32} {u0 : PS} (C : Cx γ b_M_isTight 6 (some .boolean) "PackagePickModel" (rk 1) [(cI, .int), (cZ, .boolean)]) (hQ : QI γ [(cI, .int), (cZ, .boolean)] (WM cI cZ h) r0 u0) (k59 : Int32 → PS → Option (Int32 × PS)) (hk59 : ∀ (x1 : Int32) (u : PS), k59 x1 u = some (r0, u0) → AtG γ (WM cI cZ h) 6 0 0 59 [(0, .ref (h 0)), (1, .int x1)] [] u) (x1 : Int32) (u : PS) (hf : b_M_isTight_59 k59 x1 u = some (r0, u0)) : AtG γ (WM cI cZ h) 6 0 0 59 [(0, .ref (h 0)), (1, .int x1)] [] u := by
  unfold b_M_isTight_59 at hf
  refine x_iload_n C d_M_isTight_59 rfl (k := 1) rfl ?_
  refine x_if_eq (tgt := 176) C d_M_isTight_60 (by decide) (fun hc => ?_) (fun hc => ?_)
  · rw [if_pos hc] at hf
    refine x_iconst (v := 1) C d_M_isTight_176 (by decide) ?_
    refine x_istore_n (lv' := [(2, .int (1 : Int32)), (0, .ref (h 0)), (1, .int x1)]) C d_M_isTight_177 rfl (by decide) rfl ?_
    refine x_iconst (v := 0) C d_M_isTight_178 (by decide) ?_
    refine x_istore_n (lv' := [(3, .int (0 : Int32)), (2, .int (1 : Int32)), (0, .ref (h 0)), (1, .int x1)]) C d_M_isTight_179 rfl (by decide) rfl ?_
    refine x_sub (lv' := [(0, .ref (h 0)), (2, .int (1 : Int32)), (3, .int (0 : Int32))]) [2, 1, 0] rfl ?_
    exact wl_M_isTight_180 C hQ NF (1 : Int32) (0 : Int32) u hf
  · rw [if_neg hc] at hf
    refine x_iconst (v := 0) C d_M_isTight_63 (by decide) ?_
    refine x_istore_n (lv' := [(1, .int (0 : Int32)), (0, .ref (h 0))]) C d_M_isTight_64 rfl (by decide) rfl ?_
    refine x_iconst (v := 0) C d_M_isTight_65 (by decide) ?_
    refine x_istore_n (lv' := [(2, .int (0 : Int32)), (1, .int (0 : Int32)), (0, .ref (h 0))]) C d_M_isTight_66 rfl (by decide) rfl ?_
    refine x_sub (lv' := [(0, .ref (h 0)), (1, .int (0 : Int32)), (2, .int (0 : Int32))]) [2, 1, 0] rfl ?_
    exact wl_M_isTight_67 C hQ k59 hk59 NF (0 : Int32) (0 : Int32) u hf
def l_M_isTight_59 : Nat → Int32 → PS → Option (Int32 × PS)
  | 0 => fun _ _ => none
  | n + 1 => b_M_isTight_59 (l_M_isTight_59 n)
theorem wl_M_isTight_59 {γ : CX} {cI cZ : ClassId} {h : Nat → Nat} {r0 : Int32} {u0 : PS} (C : Cx γ b_M_isTight 6 (some .boolean) "PackagePickModel" (rk 1) [(cI, .int), (cZ, .boolean)]) (hQ : QI γ [(cI, .int), (cZ, .boolean)] (WM cI cZ h) r0 u0) (n : Nat) : ∀ (x1 : Int32) (u : PS), l_M_isTight_59 n x1 u = some (r0, u0) → AtG γ (WM cI cZ h) 6 0 0 59 [(0, .ref (h 0)), (1, .int x1)] [] u := by
  induction n with
  | zero => intro x1 u hf; cases hf
  | succ n ih => intro x1 u hf; exact w_M_isTight_59 C hQ (l_M_isTight_59 n) ih x1 u hf
def b_M_isTight_23 (k23 : Int32 → PS → Option (Int32 × PS)) (x1 : Int32) (u : PS) : Option (Int32 × PS) :=
  if (u.1 1) ≤ x1 then
    l_M_isTight_59 NF (1 : Int32) u
  else
    if (f_M_counts x1 u) = 0 then
      k23 (x1 + (1 : Int32)) u
    else
      ck (inb x1 6) <|
      ck (inb (u.2 5 x1.toNatClampNeg) 7) <|
      k23 (x1 + (1 : Int32)) (sa u 11 (u.2 5 x1.toNatClampNeg).toNatClampNeg (1 : Int32))
set_option maxRecDepth 100000 in
set_option maxHeartbeats 4000000 in
theorem w_M_isTight_23 {γ : CX} {cI cZ : ClassId} {h : Nat → Nat} {r0 : Int32} {u0 : PS} (C : Cx γ b_M_isTight 6 (some .boolean) "PackagePickModel" (rk 1) [(cI, .int), (cZ, .boolean)]) (hQ : QI γ [(cI, .int), (cZ, .boolean)] (WM cI cZ h) r0 u0) (k23 : Int32 → PS → Option (Int32 × PS)) (hk23 : ∀ (x1 : Int32) (u : PS), k23 x1 u = some (r0, u0) → AtG γ (WM cI cZ h) 6 0 0 23 [(0, .ref (h 0)), (1, .int x1)] [] u) (x1 : Int32) (u : PS) (hf : b_M_isTight_23 k23 x1 u = some (r0, u0)) : AtG γ (WM cI cZ h) 6 0 0 23 [(0, .ref (h 0)), (1, .int x1)] [] u := by
  unfold b_M_isTight_23 at hf
  refine x_iload_n C d_M_isTight_23 rfl (k := 1) rfl ?_
  refine x_aload_n C d_M_isTight_24 rfl (k := 0) rfl ?_
  refine gM_M_asked (v := (u.1 1)) C mf_M_75 rfl d_M_isTight_25 ?_
  refine x_icmp_ge (tgt := 57) C d_M_isTight_28 (by decide) (fun hc => ?_) (fun hc => ?_)
  · rw [if_pos hc] at hf
    refine x_iconst (v := 1) C d_M_isTight_57 (by decide) ?_
    refine x_istore_n (lv' := [(1, .int (1 : Int32)), (0, .ref (h 0))]) C d_M_isTight_58 rfl (by decide) rfl ?_
    refine x_sub (lv' := [(0, .ref (h 0)), (1, .int (1 : Int32))]) [1, 0] rfl ?_
    exact wl_M_isTight_59 C hQ NF (1 : Int32) u hf
  · rw [if_neg hc] at hf
    refine x_aload_n C d_M_isTight_31 rfl (k := 0) rfl ?_
    refine x_iload_n C d_M_isTight_32 rfl (k := 1) rfl ?_
    refine x_callIv (q0 := 0) (ci := 4) (rest := []) C (c_M_counts x1 u) kc_M_counts (rok (by decide) (by decide)) mm_M_81 ms_M_counts ml_M_counts rfl rfl rfl rfl (Nat.le_of_ble_eq_true rfl) d_M_isTight_33 ?_
    refine x_if_eq (tgt := 51) C d_M_isTight_36 (by decide) (fun hc => ?_) (fun hc => ?_)
    · rw [if_pos hc] at hf
      refine x_iinc (v := (x1 + (1 : Int32))) (lv' := [(1, .int (x1 + (1 : Int32))), (0, .ref (h 0))]) C d_M_isTight_51 (k := 1) rfl rfl (by decide) rfl ?_
      refine x_goto (tgt := 23) C d_M_isTight_54 (by decide) ?_
      refine x_sub (lv' := [(0, .ref (h 0)), (1, .int (x1 + (1 : Int32)))]) [1, 0] rfl ?_
      exact hk23 (x1 + (1 : Int32)) u hf
    · rw [if_neg hc] at hf
      refine x_aload_n C d_M_isTight_39 rfl (k := 0) rfl ?_
      refine gM_M_wanted C mf_M_44 d_M_isTight_40 ?_
      refine x_aload_n C d_M_isTight_43 rfl (k := 0) rfl ?_
      refine gM_M_askedOf C mf_M_26 d_M_isTight_44 ?_
      refine x_iload_n C d_M_isTight_47 rfl (k := 1) rfl ?_
      obtain ⟨hin, hf⟩ := ck_some hf
      refine aldM_6 (v := (u.2 5 x1.toNatClampNeg)) C hin rfl d_M_isTight_48 ?_
      refine x_iconst (v := 1) C d_M_isTight_49 (by decide) ?_
      obtain ⟨hin, hf⟩ := ck_some hf
      refine astM_12 C hin rfl d_M_isTight_50 ?_
      refine x_iinc (v := (x1 + (1 : Int32))) (lv' := [(1, .int (x1 + (1 : Int32))), (0, .ref (h 0))]) C d_M_isTight_51 (k := 1) rfl rfl (by decide) rfl ?_
      refine x_goto (tgt := 23) C d_M_isTight_54 (by decide) ?_
      refine x_sub (lv' := [(0, .ref (h 0)), (1, .int (x1 + (1 : Int32)))]) [1, 0] rfl ?_
      exact hk23 (x1 + (1 : Int32)) (sa u 11 (u.2 5 x1.toNatClampNeg).toNatClampNeg (1 : Int32)) hf
def l_M_isTight_23 : Nat → Int32 → PS → Option (Int32 × PS)
  | 0 => fun _ _ => none
  | n + 1 => b_M_isTight_23 (l_M_isTight_23 n)
theorem wl_M_isTight_23 {γ : CX} {cI cZ : ClassId} {h : Nat → Nat} {r0 : Int32} {u0 : PS} (C : Cx γ b_M_isTight 6 (some .boolean) "PackagePickModel" (rk 1) [(cI, .int), (cZ, .boolean)]) (hQ : QI γ [(cI, .int), (cZ, .boolean)] (WM cI cZ h) r0 u0) (n : Nat) : ∀ (x1 : Int32) (u : PS), l_M_isTight_23 n x1 u = some (r0, u0) → AtG γ (WM cI cZ h) 6 0 0 23 [(0, .ref (h 0)), (1, .int x1)] [] u := by
  induction n with
  | zero => intro x1 u hf; cases hf
  | succ n ih => intro x1 u hf; exact w_M_isTight_23 C hQ (l_M_isTight_23 n) ih x1 u hf
def b_M_isTight_2 (k2 : Int32 → PS → Option (Int32 × PS)) (x1 : Int32) (u : PS) : Option (Int32 × PS) :=
  if (7 : Int32) ≤ x1 then
    l_M_isTight_23 NF (0 : Int32) u
  else
    ck (inb x1 7) <|
    k2 (x1 + (1 : Int32)) (sa u 11 x1.toNatClampNeg (0 : Int32))
set_option maxRecDepth 100000 in
set_option maxHeartbeats 4000000 in
theorem w_M_isTight_2 {γ : CX} {cI cZ : ClassId} {h : Nat → Nat} {r0 : Int32} {u0 : PS} (C : Cx γ b_M_isTight 6 (some .boolean) "PackagePickModel" (rk 1) [(cI, .int), (cZ, .boolean)]) (hQ : QI γ [(cI, .int), (cZ, .boolean)] (WM cI cZ h) r0 u0) (k2 : Int32 → PS → Option (Int32 × PS)) (hk2 : ∀ (x1 : Int32) (u : PS), k2 x1 u = some (r0, u0) → AtG γ (WM cI cZ h) 6 0 0 2 [(0, .ref (h 0)), (1, .int x1)] [] u) (x1 : Int32) (u : PS) (hf : b_M_isTight_2 k2 x1 u = some (r0, u0)) : AtG γ (WM cI cZ h) 6 0 0 2 [(0, .ref (h 0)), (1, .int x1)] [] u := by
  unfold b_M_isTight_2 at hf
  refine x_iload_n C d_M_isTight_2 rfl (k := 1) rfl ?_
  refine x_bipush (v := 7) C d_M_isTight_3 (by decide) ?_
  refine x_icmp_ge (tgt := 21) C d_M_isTight_5 (by decide) (fun hc => ?_) (fun hc => ?_)
  · rw [if_pos hc] at hf
    refine x_iconst (v := 0) C d_M_isTight_21 (by decide) ?_
    refine x_istore_n (lv' := [(1, .int (0 : Int32)), (0, .ref (h 0))]) C d_M_isTight_22 rfl (by decide) rfl ?_
    refine x_sub (lv' := [(0, .ref (h 0)), (1, .int (0 : Int32))]) [1, 0] rfl ?_
    exact wl_M_isTight_23 C hQ NF (0 : Int32) u hf
  · rw [if_neg hc] at hf
    refine x_aload_n C d_M_isTight_8 rfl (k := 0) rfl ?_
    refine gM_M_wanted C mf_M_44 d_M_isTight_9 ?_
    refine x_iload_n C d_M_isTight_12 rfl (k := 1) rfl ?_
    refine x_iconst (v := 0) C d_M_isTight_13 (by decide) ?_
    obtain ⟨hin, hf⟩ := ck_some hf
    refine astM_12 C hin rfl d_M_isTight_14 ?_
    refine x_iinc (v := (x1 + (1 : Int32))) (lv' := [(1, .int (x1 + (1 : Int32))), (0, .ref (h 0))]) C d_M_isTight_15 (k := 1) rfl rfl (by decide) rfl ?_
    refine x_goto (tgt := 2) C d_M_isTight_18 (by decide) ?_
    refine x_sub (lv' := [(0, .ref (h 0)), (1, .int (x1 + (1 : Int32)))]) [1, 0] rfl ?_
    exact hk2 (x1 + (1 : Int32)) (sa u 11 x1.toNatClampNeg (0 : Int32)) hf
def l_M_isTight_2 : Nat → Int32 → PS → Option (Int32 × PS)
  | 0 => fun _ _ => none
  | n + 1 => b_M_isTight_2 (l_M_isTight_2 n)
theorem wl_M_isTight_2 {γ : CX} {cI cZ : ClassId} {h : Nat → Nat} {r0 : Int32} {u0 : PS} (C : Cx γ b_M_isTight 6 (some .boolean) "PackagePickModel" (rk 1) [(cI, .int), (cZ, .boolean)]) (hQ : QI γ [(cI, .int), (cZ, .boolean)] (WM cI cZ h) r0 u0) (n : Nat) : ∀ (x1 : Int32) (u : PS), l_M_isTight_2 n x1 u = some (r0, u0) → AtG γ (WM cI cZ h) 6 0 0 2 [(0, .ref (h 0)), (1, .int x1)] [] u := by
  induction n with
  | zero => intro x1 u hf; cases hf
  | succ n ih => intro x1 u hf; exact w_M_isTight_2 C hQ (l_M_isTight_2 n) ih x1 u hf
def f_M_isTight (u : PS) : Option (Int32 × PS) :=
  l_M_isTight_2 NF (0 : Int32) u
set_option maxRecDepth 100000 in
set_option maxHeartbeats 4000000 in
theorem w_M_isTight {γ : CX} {cI cZ : ClassId} {h : Nat → Nat} {r0 : Int32} {u0 : PS} (C : Cx γ b_M_isTight 6 (some .boolean) "PackagePickModel" (rk 1) [(cI, .int), (cZ, .boolean)]) (hQ : QI γ [(cI, .int), (cZ, .boolean)] (WM cI cZ h) r0 u0) (u : PS) (hf : f_M_isTight u = some (r0, u0)) : AtG γ (WM cI cZ h) 6 0 0 0 [(0, .ref (h 0))] [] u := by
  unfold f_M_isTight at hf
  refine x_iconst (v := 0) C d_M_isTight_0 (by decide) ?_
  refine x_istore_n (lv' := [(1, .int (0 : Int32)), (0, .ref (h 0))]) C d_M_isTight_1 rfl (by decide) rfl ?_
  refine x_sub (lv' := [(0, .ref (h 0)), (1, .int (0 : Int32))]) [1, 0] rfl ?_
  exact wl_M_isTight_2 C hQ NF (0 : Int32) u hf
theorem c_M_isTight {l : Launch} {D : va_G} {cI cZ : ClassId} {h : Nat → Nat} (u : PS) {r0 : Int32 × PS} (hf : f_M_isTight u = some r0) : CtI l y_M_isTight b_M_isTight 6 (some .boolean) (rk 1) D [(cI, .int), (cZ, .boolean)] (WM cI cZ h) [.ref (h 0)] u r0.1 r0.2 := ct_ofI (by decide) (Nat.le_of_ble_eq_true rfl) (fun γ _ _ C hQ => w_M_isTight C hQ u hf)
-- ---- PackagePickModel.begin(I)V
def f_M_begin (a1 : Int32) (u : PS) : Option (PS) :=
  ck (inb (0 : Int32) 7) <|
  some (sa (si (si u 3 a1) 4 (0 : Int32)) 10 (0 : Int32).toNatClampNeg (4 : Int32))
set_option maxRecDepth 100000 in
set_option maxHeartbeats 4000000 in
theorem w_M_begin {γ : CX} {cI cZ : ClassId} {h : Nat → Nat} {u0 : PS} (C : Cx γ b_M_begin 2 none "PackagePickModel" (rk 0) [(cI, .int), (cZ, .boolean)]) (hQ : QV γ [(cI, .int), (cZ, .boolean)] (WM cI cZ h) u0) (a1 : Int32) (u : PS) (hf : f_M_begin a1 u = some u0) : AtG γ (WM cI cZ h) 2 0 0 0 [(0, .ref (h 0)), (1, .int a1)] [] u := by
  unfold f_M_begin at hf
  refine x_aload_n C d_M_begin_0 rfl (k := 0) rfl ?_
  refine x_iload_n C d_M_begin_1 rfl (k := 1) rfl ?_
  refine pM_M_counting C mf_M_78 d_M_begin_2 ?_
  refine x_aload_n C d_M_begin_5 rfl (k := 0) rfl ?_
  refine x_iconst (v := 0) C d_M_begin_6 (by decide) ?_
  refine pM_M_level C mf_M_87 d_M_begin_7 ?_
  refine x_aload_n C d_M_begin_10 rfl (k := 0) rfl ?_
  refine gM_M_pick C mf_M_41 d_M_begin_11 ?_
  refine x_iconst (v := 0) C d_M_begin_14 (by decide) ?_
  refine x_iconst (v := 4) C d_M_begin_15 (by decide) ?_
  obtain ⟨hin, hf⟩ := ck_some hf
  refine astM_11 C hin d_M_begin_16 ?_
  exact x_vret C hQ (Option.some.inj hf) d_M_begin_17
theorem c_M_begin {l : Launch} {D : va_G} {cI cZ : ClassId} {h : Nat → Nat} (a1 : Int32) (u : PS) {u0 : PS} (hf : f_M_begin a1 u = some u0) : CtV l y_M_begin b_M_begin 2 none (rk 0) D [(cI, .int), (cZ, .boolean)] (WM cI cZ h) [.ref (h 0), .int a1] u u0 := ct_ofV (by decide) (Nat.le_of_ble_eq_true rfl) (fun γ _ _ C hQ => w_M_begin C hQ a1 u hf)
-- ---- PackagePickModel.finds()Z
def b_M_finds_0 (k0 : PS → Option (Int32 × PS)) (u : PS) : Option (Int32 × PS) :=
  if (u.1 4) < 0 then
    some ((0 : Int32), u)
  else
    ck (inb (u.1 4) 7) <|
    if (u.2 10 (u.1 4).toNatClampNeg) = (-1 : Int32) then
      k0 (si u 4 ((u.1 4) - (1 : Int32)))
    else
      ck (inb (u.1 4) 7) <|
      ck (inb (u.1 4) 7) <|
      (f_M_goes (u.1 4) (sa u 10 (u.1 4).toNatClampNeg ((u.2 10 (u.1 4).toNatClampNeg) - (1 : Int32)))).bind fun r1 =>
      if r1 = 0 then
        k0 (sa u 10 (u.1 4).toNatClampNeg ((u.2 10 (u.1 4).toNatClampNeg) - (1 : Int32)))
      else
        if (7 : Int32) ≤ ((u.1 4) + (1 : Int32)) then
          (f_M_isTight (sa u 10 (u.1 4).toNatClampNeg ((u.2 10 (u.1 4).toNatClampNeg) - (1 : Int32)))).bind fun r2 =>
          if r2.1 = 0 then
            k0 r2.2
          else
            some ((1 : Int32), r2.2)
        else
          ck (inb ((u.1 4) + (1 : Int32)) 7) <|
          k0 (sa (si (sa u 10 (u.1 4).toNatClampNeg ((u.2 10 (u.1 4).toNatClampNeg) - (1 : Int32))) 4 ((u.1 4) + (1 : Int32))) 10 ((u.1 4) + (1 : Int32)).toNatClampNeg (4 : Int32))
set_option maxRecDepth 100000 in
set_option maxHeartbeats 4000000 in
theorem w_M_finds_0 {γ : CX} {cI cZ : ClassId} {h : Nat → Nat} {r0 : Int32} {u0 : PS} (C : Cx γ b_M_finds 1 (some .boolean) "PackagePickModel" (rk 2) [(cI, .int), (cZ, .boolean)]) (hQ : QI γ [(cI, .int), (cZ, .boolean)] (WM cI cZ h) r0 u0) (k0 : PS → Option (Int32 × PS)) (hk0 : ∀ (u : PS), k0 u = some (r0, u0) → AtG γ (WM cI cZ h) 1 0 0 0 [(0, .ref (h 0))] [] u) (u : PS) (hf : b_M_finds_0 k0 u = some (r0, u0)) : AtG γ (WM cI cZ h) 1 0 0 0 [(0, .ref (h 0))] [] u := by
  unfold b_M_finds_0 at hf
  refine x_aload_n C d_M_finds_0 rfl (k := 0) rfl ?_
  refine gM_M_level (v := (u.1 4)) C mf_M_87 rfl d_M_finds_1 ?_
  refine x_if_lt (tgt := 103) C d_M_finds_4 (by decide) (fun hc => ?_) (fun hc => ?_)
  · rw [if_pos hc] at hf
    refine x_iconst (v := 0) C d_M_finds_103 (by decide) ?_
    exact x_zret C hQ rfl (Prod.mk.inj (Option.some.inj hf)).1 (Prod.mk.inj (Option.some.inj hf)).2 d_M_finds_104
  · rw [if_neg hc] at hf
    refine x_aload_n C d_M_finds_7 rfl (k := 0) rfl ?_
    refine gM_M_pick C mf_M_41 d_M_finds_8 ?_
    refine x_aload_n C d_M_finds_11 rfl (k := 0) rfl ?_
    refine gM_M_level (v := (u.1 4)) C mf_M_87 rfl d_M_finds_12 ?_
    obtain ⟨hin, hf⟩ := ck_some hf
    refine aldM_11 (v := (u.2 10 (u.1 4).toNatClampNeg)) C hin rfl d_M_finds_15 ?_
    refine x_iconst (v := -1) C d_M_finds_16 (by decide) ?_
    refine x_icmp_ne (tgt := 33) C d_M_finds_17 (by decide) (fun hc => ?_) (fun hc => ?_)
    · rw [if_neg hc] at hf
      refine x_aload_n C d_M_finds_33 rfl (k := 0) rfl ?_
      refine gM_M_pick C mf_M_41 d_M_finds_34 ?_
      refine x_aload_n C d_M_finds_37 rfl (k := 0) rfl ?_
      refine gM_M_level (v := (u.1 4)) C mf_M_87 rfl d_M_finds_38 ?_
      refine x_dup2 C d_M_finds_41 rfl rfl ?_
      obtain ⟨hin, hf⟩ := ck_some hf
      refine aldM_11 (v := (u.2 10 (u.1 4).toNatClampNeg)) C hin rfl d_M_finds_42 ?_
      refine x_iconst (v := 1) C d_M_finds_43 (by decide) ?_
      refine x_isub C d_M_finds_44 ?_
      obtain ⟨hin, hf⟩ := ck_some hf
      refine astM_11 C hin d_M_finds_45 ?_
      refine x_aload_n C d_M_finds_46 rfl (k := 0) rfl ?_
      refine x_aload_n C d_M_finds_47 rfl (k := 0) rfl ?_
      refine gM_M_level (v := (u.1 4)) C mf_M_87 rfl d_M_finds_48 ?_
      obtain ⟨r1, hc1, hf⟩ := Option.bind_eq_some_iff.mp hf
      refine x_callIv (q0 := 0) (ci := 4) (rest := []) C (c_M_goes (u.1 4) (sa u 10 (u.1 4).toNatClampNeg ((u.2 10 (u.1 4).toNatClampNeg) - (1 : Int32))) hc1) kc_M_goes (rok (by decide) (by decide)) mm_M_90 ms_M_goes ml_M_goes rfl rfl rfl rfl (Nat.le_of_ble_eq_true rfl) d_M_finds_51 ?_
      refine x_if_ne (tgt := 60) C d_M_finds_54 (by decide) (fun hc => ?_) (fun hc => ?_)
      · rw [if_neg hc] at hf
        refine x_aload_n C d_M_finds_60 rfl (k := 0) rfl ?_
        refine gM_M_level (v := (u.1 4)) C mf_M_87 rfl d_M_finds_61 ?_
        refine x_iconst (v := 1) C d_M_finds_64 (by decide) ?_
        refine x_iadd C d_M_finds_65 ?_
        refine x_bipush (v := 7) C d_M_finds_66 (by decide) ?_
        refine x_icmp_ge (tgt := 94) C d_M_finds_68 (by decide) (fun hc => ?_) (fun hc => ?_)
        · rw [if_pos hc] at hf
          refine x_aload_n C d_M_finds_94 rfl (k := 0) rfl ?_
          obtain ⟨r2, hc2, hf⟩ := Option.bind_eq_some_iff.mp hf
          refine x_callIv (q0 := 0) (ci := 4) (rest := []) C (c_M_isTight (sa u 10 (u.1 4).toNatClampNeg ((u.2 10 (u.1 4).toNatClampNeg) - (1 : Int32))) hc2) kc_M_isTight (rok (by decide) (by decide)) mm_M_93 ms_M_isTight ml_M_isTight rfl rfl rfl rfl (Nat.le_of_ble_eq_true rfl) d_M_finds_95 ?_
          refine x_if_eq (tgt := 0) C d_M_finds_98 (by decide) (fun hc => ?_) (fun hc => ?_)
          · rw [if_pos hc] at hf
            exact hk0 r2.2 hf
          · rw [if_neg hc] at hf
            refine x_iconst (v := 1) C d_M_finds_101 (by decide) ?_
            exact x_zret C hQ rfl (Prod.mk.inj (Option.some.inj hf)).1 (Prod.mk.inj (Option.some.inj hf)).2 d_M_finds_102
        · rw [if_neg hc] at hf
          refine x_aload_n C d_M_finds_71 rfl (k := 0) rfl ?_
          refine x_dup C d_M_finds_72 rfl ?_
          refine gM_M_level (v := (u.1 4)) C mf_M_87 rfl d_M_finds_73 ?_
          refine x_iconst (v := 1) C d_M_finds_76 (by decide) ?_
          refine x_iadd C d_M_finds_77 ?_
          refine pM_M_level C mf_M_87 d_M_finds_78 ?_
          refine x_aload_n C d_M_finds_81 rfl (k := 0) rfl ?_
          refine gM_M_pick C mf_M_41 d_M_finds_82 ?_
          refine x_aload_n C d_M_finds_85 rfl (k := 0) rfl ?_
          refine gM_M_level (v := ((u.1 4) + (1 : Int32))) C mf_M_87 rfl d_M_finds_86 ?_
          refine x_iconst (v := 4) C d_M_finds_89 (by decide) ?_
          obtain ⟨hin, hf⟩ := ck_some hf
          refine astM_11 C hin d_M_finds_90 ?_
          refine x_goto (tgt := 0) C d_M_finds_91 (by decide) ?_
          exact hk0 (sa (si (sa u 10 (u.1 4).toNatClampNeg ((u.2 10 (u.1 4).toNatClampNeg) - (1 : Int32))) 4 ((u.1 4) + (1 : Int32))) 10 ((u.1 4) + (1 : Int32)).toNatClampNeg (4 : Int32)) hf
      · rw [if_pos hc] at hf
        refine x_goto (tgt := 0) C d_M_finds_57 (by decide) ?_
        exact hk0 (sa u 10 (u.1 4).toNatClampNeg ((u.2 10 (u.1 4).toNatClampNeg) - (1 : Int32))) hf
    · rw [if_pos hc] at hf
      refine x_aload_n C d_M_finds_20 rfl (k := 0) rfl ?_
      refine x_dup C d_M_finds_21 rfl ?_
      refine gM_M_level (v := (u.1 4)) C mf_M_87 rfl d_M_finds_22 ?_
      refine x_iconst (v := 1) C d_M_finds_25 (by decide) ?_
      refine x_isub C d_M_finds_26 ?_
      refine pM_M_level C mf_M_87 d_M_finds_27 ?_
      refine x_goto (tgt := 0) C d_M_finds_30 (by decide) ?_
      exact hk0 (si u 4 ((u.1 4) - (1 : Int32))) hf
def l_M_finds_0 : Nat → PS → Option (Int32 × PS)
  | 0 => fun _ => none
  | n + 1 => b_M_finds_0 (l_M_finds_0 n)
theorem wl_M_finds_0 {γ : CX} {cI cZ : ClassId} {h : Nat → Nat} {r0 : Int32} {u0 : PS} (C : Cx γ b_M_finds 1 (some .boolean) "PackagePickModel" (rk 2) [(cI, .int), (cZ, .boolean)]) (hQ : QI γ [(cI, .int), (cZ, .boolean)] (WM cI cZ h) r0 u0) (n : Nat) : ∀ (u : PS), l_M_finds_0 n u = some (r0, u0) → AtG γ (WM cI cZ h) 1 0 0 0 [(0, .ref (h 0))] [] u := by
  induction n with
  | zero => intro u hf; cases hf
  | succ n ih => intro u hf; exact w_M_finds_0 C hQ (l_M_finds_0 n) ih u hf
def f_M_finds (u : PS) : Option (Int32 × PS) :=
  l_M_finds_0 NF u
set_option maxRecDepth 100000 in
set_option maxHeartbeats 4000000 in
theorem w_M_finds {γ : CX} {cI cZ : ClassId} {h : Nat → Nat} {r0 : Int32} {u0 : PS} (C : Cx γ b_M_finds 1 (some .boolean) "PackagePickModel" (rk 2) [(cI, .int), (cZ, .boolean)]) (hQ : QI γ [(cI, .int), (cZ, .boolean)] (WM cI cZ h) r0 u0) (u : PS) (hf : f_M_finds u = some (r0, u0)) : AtG γ (WM cI cZ h) 1 0 0 0 [(0, .ref (h 0))] [] u := by
  unfold f_M_finds at hf
  exact wl_M_finds_0 C hQ NF u hf
theorem c_M_finds {l : Launch} {D : va_G} {cI cZ : ClassId} {h : Nat → Nat} (u : PS) {r0 : Int32 × PS} (hf : f_M_finds u = some r0) : CtI l y_M_finds b_M_finds 1 (some .boolean) (rk 2) D [(cI, .int), (cZ, .boolean)] (WM cI cZ h) [.ref (h 0)] u r0.1 r0.2 := ct_ofI (by decide) (Nat.le_of_ble_eq_true rfl) (fun γ _ _ C hQ => w_M_finds C hQ u hf)
-- ---- PackagePickModel.all()I
def f_M_all (u : PS) : Int32 :=
  (((1 : Int32) <<< ((u.1 1) &&& 31)) - (1 : Int32))
set_option maxRecDepth 100000 in
set_option maxHeartbeats 4000000 in
theorem w_M_all {γ : CX} {cI cZ : ClassId} {h : Nat → Nat} {u : PS} {r0 : Int32} (C : Cx γ b_M_all 1 (some .int) "PackagePickModel" (rk 0) [(cI, .int), (cZ, .boolean)]) (hQ : QI γ [(cI, .int), (cZ, .boolean)] (WM cI cZ h) r0 u) (hf : f_M_all u = r0) : AtG γ (WM cI cZ h) 1 0 0 0 [(0, .ref (h 0))] [] u := by
  unfold f_M_all at hf
  refine x_iconst (v := 1) C d_M_all_0 (by decide) ?_
  refine x_aload_n C d_M_all_1 rfl (k := 0) rfl ?_
  refine gM_M_asked (v := (u.1 1)) C mf_M_75 rfl d_M_all_2 ?_
  refine x_ishl C d_M_all_5 ?_
  refine x_iconst (v := 1) C d_M_all_6 (by decide) ?_
  refine x_isub C d_M_all_7 ?_
  exact x_iret C hQ hf rfl d_M_all_8
theorem c_M_all {l : Launch} {D : va_G} {cI cZ : ClassId} {h : Nat → Nat} (u : PS) : CtI l y_M_all b_M_all 1 (some .int) (rk 0) D [(cI, .int), (cZ, .boolean)] (WM cI cZ h) [.ref (h 0)] u (f_M_all u) u := ct_ofI (by decide) (Nat.le_of_ble_eq_true rfl) (fun γ _ _ C hQ => w_M_all C hQ rfl)
-- ---- PackagePickModel.cost(I)I
def b_M_cost_26 (u : PS) (k4 : Int32 → Int32 → Int32 → Option (Int32)) (x1 : Int32) (x3 : Int32) (t0 : Int32) : Option (Int32) :=
  if x1 = (2 : Int32) then
    ck (inb x3 7) <|
    ck (inb x3 7) <|
    if (u.2 10 x3.toNatClampNeg) = (u.2 13 x3.toNatClampNeg) then
      k4 x1 (t0 + (0 : Int32)) (x3 + (1 : Int32))
    else
      k4 x1 (t0 + (1 : Int32)) (x3 + (1 : Int32))
  else
    k4 x1 (t0 + (0 : Int32)) (x3 + (1 : Int32))
set_option maxRecDepth 100000 in
set_option maxHeartbeats 4000000 in
theorem w_M_cost_26 {γ : CX} {cI cZ : ClassId} {h : Nat → Nat} {u : PS} {r0 : Int32} (C : Cx γ b_M_cost 4 (some .int) "PackagePickModel" (rk 0) [(cI, .int), (cZ, .boolean)]) (hQ : QI γ [(cI, .int), (cZ, .boolean)] (WM cI cZ h) r0 u) (k4 : Int32 → Int32 → Int32 → Option (Int32)) (hk4 : ∀ (x1 : Int32) (x2 : Int32) (x3 : Int32), k4 x1 x2 x3 = some r0 → AtG γ (WM cI cZ h) 4 0 0 4 [(0, .ref (h 0)), (1, .int x1), (2, .int x2), (3, .int x3)] [] u) (x1 : Int32) (x3 : Int32) (t0 : Int32) (hf : b_M_cost_26 u k4 x1 x3 t0 = some r0) : AtG γ (WM cI cZ h) 4 0 0 26 [(0, .ref (h 0)), (1, .int x1), (3, .int x3)] [.int t0] u := by
  unfold b_M_cost_26 at hf
  refine x_iload_n C d_M_cost_26 rfl (k := 1) rfl ?_
  refine x_iconst (v := 2) C d_M_cost_27 (by decide) ?_
  refine x_icmp_ne (tgt := 50) C d_M_cost_28 (by decide) (fun hc => ?_) (fun hc => ?_)
  · rw [if_neg hc] at hf
    refine x_iconst (v := 0) C d_M_cost_50 (by decide) ?_
    refine x_iadd C d_M_cost_51 ?_
    refine x_istore_n (lv' := [(2, .int (t0 + (0 : Int32))), (0, .ref (h 0)), (1, .int x1), (3, .int x3)]) C d_M_cost_52 rfl (by decide) rfl ?_
    refine x_iinc (v := (x3 + (1 : Int32))) (lv' := [(3, .int (x3 + (1 : Int32))), (2, .int (t0 + (0 : Int32))), (0, .ref (h 0)), (1, .int x1)]) C d_M_cost_53 (k := 3) rfl rfl (by decide) rfl ?_
    refine x_goto (tgt := 4) C d_M_cost_56 (by decide) ?_
    refine x_sub (lv' := [(0, .ref (h 0)), (1, .int x1), (2, .int (t0 + (0 : Int32))), (3, .int (x3 + (1 : Int32)))]) [2, 3, 1, 0] rfl ?_
    exact hk4 x1 (t0 + (0 : Int32)) (x3 + (1 : Int32)) hf
  · rw [if_pos hc] at hf
    refine x_aload_n C d_M_cost_31 rfl (k := 0) rfl ?_
    refine gM_M_pick C mf_M_41 d_M_cost_32 ?_
    refine x_iload_n C d_M_cost_35 rfl (k := 2) rfl ?_
    obtain ⟨hin, hf⟩ := ck_some hf
    refine aldM_11 (v := (u.2 10 x3.toNatClampNeg)) C hin rfl d_M_cost_36 ?_
    refine x_aload_n C d_M_cost_37 rfl (k := 0) rfl ?_
    refine gM_M_kept C mf_M_50 d_M_cost_38 ?_
    refine x_iload_n C d_M_cost_41 rfl (k := 2) rfl ?_
    obtain ⟨hin, hf⟩ := ck_some hf
    refine aldM_14 (v := (u.2 13 x3.toNatClampNeg)) C hin rfl d_M_cost_42 ?_
    refine x_icmp_eq (tgt := 50) C d_M_cost_43 (by decide) (fun hc => ?_) (fun hc => ?_)
    · rw [if_pos hc] at hf
      refine x_iconst (v := 0) C d_M_cost_50 (by decide) ?_
      refine x_iadd C d_M_cost_51 ?_
      refine x_istore_n (lv' := [(2, .int (t0 + (0 : Int32))), (0, .ref (h 0)), (1, .int x1), (3, .int x3)]) C d_M_cost_52 rfl (by decide) rfl ?_
      refine x_iinc (v := (x3 + (1 : Int32))) (lv' := [(3, .int (x3 + (1 : Int32))), (2, .int (t0 + (0 : Int32))), (0, .ref (h 0)), (1, .int x1)]) C d_M_cost_53 (k := 3) rfl rfl (by decide) rfl ?_
      refine x_goto (tgt := 4) C d_M_cost_56 (by decide) ?_
      refine x_sub (lv' := [(0, .ref (h 0)), (1, .int x1), (2, .int (t0 + (0 : Int32))), (3, .int (x3 + (1 : Int32)))]) [2, 3, 1, 0] rfl ?_
      exact hk4 x1 (t0 + (0 : Int32)) (x3 + (1 : Int32)) hf
    · rw [if_neg hc] at hf
      refine x_iconst (v := 1) C d_M_cost_46 (by decide) ?_
      refine x_goto (tgt := 51) C d_M_cost_47 (by decide) ?_
      refine x_iadd C d_M_cost_51 ?_
      refine x_istore_n (lv' := [(2, .int (t0 + (1 : Int32))), (0, .ref (h 0)), (1, .int x1), (3, .int x3)]) C d_M_cost_52 rfl (by decide) rfl ?_
      refine x_iinc (v := (x3 + (1 : Int32))) (lv' := [(3, .int (x3 + (1 : Int32))), (2, .int (t0 + (1 : Int32))), (0, .ref (h 0)), (1, .int x1)]) C d_M_cost_53 (k := 3) rfl rfl (by decide) rfl ?_
      refine x_goto (tgt := 4) C d_M_cost_56 (by decide) ?_
      refine x_sub (lv' := [(0, .ref (h 0)), (1, .int x1), (2, .int (t0 + (1 : Int32))), (3, .int (x3 + (1 : Int32)))]) [2, 3, 1, 0] rfl ?_
      exact hk4 x1 (t0 + (1 : Int32)) (x3 + (1 : Int32)) hf
def b_M_cost_4 (u : PS) (k4 : Int32 → Int32 → Int32 → Option (Int32)) (x1 : Int32) (x2 : Int32) (x3 : Int32) : Option (Int32) :=
  if (7 : Int32) ≤ x3 then
    some x2
  else
    if x1 = (1 : Int32) then
      ck (inb x3 7) <|
      if (u.2 10 x3.toNatClampNeg) = (-1 : Int32) then
        b_M_cost_26 u k4 x1 x3 x2
      else
        k4 x1 (x2 + (1 : Int32)) (x3 + (1 : Int32))
    else
      b_M_cost_26 u k4 x1 x3 x2
set_option maxRecDepth 100000 in
set_option maxHeartbeats 4000000 in
theorem w_M_cost_4 {γ : CX} {cI cZ : ClassId} {h : Nat → Nat} {u : PS} {r0 : Int32} (C : Cx γ b_M_cost 4 (some .int) "PackagePickModel" (rk 0) [(cI, .int), (cZ, .boolean)]) (hQ : QI γ [(cI, .int), (cZ, .boolean)] (WM cI cZ h) r0 u) (k4 : Int32 → Int32 → Int32 → Option (Int32)) (hk4 : ∀ (x1 : Int32) (x2 : Int32) (x3 : Int32), k4 x1 x2 x3 = some r0 → AtG γ (WM cI cZ h) 4 0 0 4 [(0, .ref (h 0)), (1, .int x1), (2, .int x2), (3, .int x3)] [] u) (x1 : Int32) (x2 : Int32) (x3 : Int32) (hf : b_M_cost_4 u k4 x1 x2 x3 = some r0) : AtG γ (WM cI cZ h) 4 0 0 4 [(0, .ref (h 0)), (1, .int x1), (2, .int x2), (3, .int x3)] [] u := by
  unfold b_M_cost_4 at hf
  refine x_iload_n C d_M_cost_4 rfl (k := 3) rfl ?_
  refine x_bipush (v := 7) C d_M_cost_5 (by decide) ?_
  refine x_icmp_ge (tgt := 59) C d_M_cost_7 (by decide) (fun hc => ?_) (fun hc => ?_)
  · rw [if_pos hc] at hf
    refine x_iload_n C d_M_cost_59 rfl (k := 2) rfl ?_
    exact x_iret C hQ (Option.some.inj hf) rfl d_M_cost_60
  · rw [if_neg hc] at hf
    refine x_iload_n C d_M_cost_10 rfl (k := 2) rfl ?_
    refine x_iload_n C d_M_cost_11 rfl (k := 1) rfl ?_
    refine x_iconst (v := 1) C d_M_cost_12 (by decide) ?_
    refine x_icmp_ne (tgt := 26) C d_M_cost_13 (by decide) (fun hc => ?_) (fun hc => ?_)
    · rw [if_neg hc] at hf
      refine x_sub (lv' := [(0, .ref (h 0)), (1, .int x1), (3, .int x3)]) [0, 1, 3] rfl ?_
      exact w_M_cost_26 C hQ k4 hk4 x1 x3 x2 hf
    · rw [if_pos hc] at hf
      refine x_aload_n C d_M_cost_16 rfl (k := 0) rfl ?_
      refine gM_M_pick C mf_M_41 d_M_cost_17 ?_
      refine x_iload_n C d_M_cost_20 rfl (k := 3) rfl ?_
      obtain ⟨hin, hf⟩ := ck_some hf
      refine aldM_11 (v := (u.2 10 x3.toNatClampNeg)) C hin rfl d_M_cost_21 ?_
      refine x_iconst (v := -1) C d_M_cost_22 (by decide) ?_
      refine x_icmp_ne (tgt := 46) C d_M_cost_23 (by decide) (fun hc => ?_) (fun hc => ?_)
      · rw [if_neg hc] at hf
        refine x_iconst (v := 1) C d_M_cost_46 (by decide) ?_
        refine x_goto (tgt := 51) C d_M_cost_47 (by decide) ?_
        refine x_iadd C d_M_cost_51 ?_
        refine x_istore_n (lv' := [(2, .int (x2 + (1 : Int32))), (0, .ref (h 0)), (1, .int x1), (3, .int x3)]) C d_M_cost_52 rfl (by decide) rfl ?_
        refine x_iinc (v := (x3 + (1 : Int32))) (lv' := [(3, .int (x3 + (1 : Int32))), (2, .int (x2 + (1 : Int32))), (0, .ref (h 0)), (1, .int x1)]) C d_M_cost_53 (k := 3) rfl rfl (by decide) rfl ?_
        refine x_goto (tgt := 4) C d_M_cost_56 (by decide) ?_
        refine x_sub (lv' := [(0, .ref (h 0)), (1, .int x1), (2, .int (x2 + (1 : Int32))), (3, .int (x3 + (1 : Int32)))]) [2, 3, 1, 0] rfl ?_
        exact hk4 x1 (x2 + (1 : Int32)) (x3 + (1 : Int32)) hf
      · rw [if_pos hc] at hf
        refine x_sub (lv' := [(0, .ref (h 0)), (1, .int x1), (3, .int x3)]) [0, 1, 3] rfl ?_
        exact w_M_cost_26 C hQ k4 hk4 x1 x3 x2 hf
def l_M_cost_4 (u : PS) : Nat → Int32 → Int32 → Int32 → Option (Int32)
  | 0 => fun _ _ _ => none
  | n + 1 => b_M_cost_4 u (l_M_cost_4 u n)
theorem wl_M_cost_4 {γ : CX} {cI cZ : ClassId} {h : Nat → Nat} {u : PS} {r0 : Int32} (C : Cx γ b_M_cost 4 (some .int) "PackagePickModel" (rk 0) [(cI, .int), (cZ, .boolean)]) (hQ : QI γ [(cI, .int), (cZ, .boolean)] (WM cI cZ h) r0 u) (n : Nat) : ∀ (x1 : Int32) (x2 : Int32) (x3 : Int32), l_M_cost_4 u n x1 x2 x3 = some r0 → AtG γ (WM cI cZ h) 4 0 0 4 [(0, .ref (h 0)), (1, .int x1), (2, .int x2), (3, .int x3)] [] u := by
  induction n with
  | zero => intro x1 x2 x3 hf; cases hf
  | succ n ih => intro x1 x2 x3 hf; exact w_M_cost_4 C hQ (l_M_cost_4 u n) ih x1 x2 x3 hf
def f_M_cost (a1 : Int32) (u : PS) : Option (Int32) :=
  l_M_cost_4 u NF a1 (0 : Int32) (0 : Int32)
set_option maxRecDepth 100000 in
set_option maxHeartbeats 4000000 in
theorem w_M_cost {γ : CX} {cI cZ : ClassId} {h : Nat → Nat} {u : PS} {r0 : Int32} (C : Cx γ b_M_cost 4 (some .int) "PackagePickModel" (rk 0) [(cI, .int), (cZ, .boolean)]) (hQ : QI γ [(cI, .int), (cZ, .boolean)] (WM cI cZ h) r0 u) (a1 : Int32) (hf : f_M_cost a1 u = some r0) : AtG γ (WM cI cZ h) 4 0 0 0 [(0, .ref (h 0)), (1, .int a1)] [] u := by
  unfold f_M_cost at hf
  refine x_iconst (v := 0) C d_M_cost_0 (by decide) ?_
  refine x_istore_n (lv' := [(2, .int (0 : Int32)), (0, .ref (h 0)), (1, .int a1)]) C d_M_cost_1 rfl (by decide) rfl ?_
  refine x_iconst (v := 0) C d_M_cost_2 (by decide) ?_
  refine x_istore_n (lv' := [(3, .int (0 : Int32)), (2, .int (0 : Int32)), (0, .ref (h 0)), (1, .int a1)]) C d_M_cost_3 rfl (by decide) rfl ?_
  refine x_sub (lv' := [(0, .ref (h 0)), (1, .int a1), (2, .int (0 : Int32)), (3, .int (0 : Int32))]) [2, 3, 1, 0] rfl ?_
  exact wl_M_cost_4 C hQ NF a1 (0 : Int32) (0 : Int32) hf
theorem c_M_cost {l : Launch} {D : va_G} {cI cZ : ClassId} {h : Nat → Nat} (a1 : Int32) (u : PS) {r0 : Int32} (hf : f_M_cost a1 u = some r0) : CtI l y_M_cost b_M_cost 4 (some .int) (rk 0) D [(cI, .int), (cZ, .boolean)] (WM cI cZ h) [.ref (h 0), .int a1] u r0 u := ct_ofI (by decide) (Nat.le_of_ble_eq_true rfl) (fun γ _ _ C hQ => w_M_cost C hQ a1 hf)
-- ---- PackagePickModel.sizeOf(I)I
def b_M_sizeOf_4 (k4 : Int32 → Int32 → Int32 → Option (Int32)) (x0 : Int32) (x1 : Int32) (x2 : Int32) : Option (Int32) :=
  if (6 : Int32) ≤ x2 then
    some x1
  else
    k4 x0 (x1 + ((x0 >>> (x2 &&& 31)) &&& (1 : Int32))) (x2 + (1 : Int32))
set_option maxRecDepth 100000 in
set_option maxHeartbeats 4000000 in
theorem w_M_sizeOf_4 {γ : CX} {S : Type} {wf : S → va_W} {tys : Tys} {u : S} {r0 : Int32} (C : Cx γ b_M_sizeOf 3 (some .int) "PackagePickModel" (rk 0) tys) (hQ : QI γ tys wf r0 u) (k4 : Int32 → Int32 → Int32 → Option (Int32)) (hk4 : ∀ (x0 : Int32) (x1 : Int32) (x2 : Int32), k4 x0 x1 x2 = some r0 → AtG γ wf 3 0 0 4 [(0, .int x0), (1, .int x1), (2, .int x2)] [] u) (x0 : Int32) (x1 : Int32) (x2 : Int32) (hf : b_M_sizeOf_4 k4 x0 x1 x2 = some r0) : AtG γ wf 3 0 0 4 [(0, .int x0), (1, .int x1), (2, .int x2)] [] u := by
  unfold b_M_sizeOf_4 at hf
  refine x_iload_n C d_M_sizeOf_4 rfl (k := 2) rfl ?_
  refine x_bipush (v := 6) C d_M_sizeOf_5 (by decide) ?_
  refine x_icmp_ge (tgt := 24) C d_M_sizeOf_7 (by decide) (fun hc => ?_) (fun hc => ?_)
  · rw [if_pos hc] at hf
    refine x_iload_n C d_M_sizeOf_24 rfl (k := 1) rfl ?_
    exact x_iret C hQ (Option.some.inj hf) rfl d_M_sizeOf_25
  · rw [if_neg hc] at hf
    refine x_iload_n C d_M_sizeOf_10 rfl (k := 1) rfl ?_
    refine x_iload_n C d_M_sizeOf_11 rfl (k := 0) rfl ?_
    refine x_iload_n C d_M_sizeOf_12 rfl (k := 2) rfl ?_
    refine x_ishr C d_M_sizeOf_13 ?_
    refine x_iconst (v := 1) C d_M_sizeOf_14 (by decide) ?_
    refine x_iand C d_M_sizeOf_15 ?_
    refine x_iadd C d_M_sizeOf_16 ?_
    refine x_istore_n (lv' := [(1, .int (x1 + ((x0 >>> (x2 &&& 31)) &&& (1 : Int32)))), (0, .int x0), (2, .int x2)]) C d_M_sizeOf_17 rfl (by decide) rfl ?_
    refine x_iinc (v := (x2 + (1 : Int32))) (lv' := [(2, .int (x2 + (1 : Int32))), (1, .int (x1 + ((x0 >>> (x2 &&& 31)) &&& (1 : Int32)))), (0, .int x0)]) C d_M_sizeOf_18 (k := 2) rfl rfl (by decide) rfl ?_
    refine x_goto (tgt := 4) C d_M_sizeOf_21 (by decide) ?_
    refine x_sub (lv' := [(0, .int x0), (1, .int (x1 + ((x0 >>> (x2 &&& 31)) &&& (1 : Int32)))), (2, .int (x2 + (1 : Int32)))]) [2, 1, 0] rfl ?_
    exact hk4 x0 (x1 + ((x0 >>> (x2 &&& 31)) &&& (1 : Int32))) (x2 + (1 : Int32)) hf
def l_M_sizeOf_4 : Nat → Int32 → Int32 → Int32 → Option (Int32)
  | 0 => fun _ _ _ => none
  | n + 1 => b_M_sizeOf_4 (l_M_sizeOf_4 n)
theorem wl_M_sizeOf_4 {γ : CX} {S : Type} {wf : S → va_W} {tys : Tys} {u : S} {r0 : Int32} (C : Cx γ b_M_sizeOf 3 (some .int) "PackagePickModel" (rk 0) tys) (hQ : QI γ tys wf r0 u) (n : Nat) : ∀ (x0 : Int32) (x1 : Int32) (x2 : Int32), l_M_sizeOf_4 n x0 x1 x2 = some r0 → AtG γ wf 3 0 0 4 [(0, .int x0), (1, .int x1), (2, .int x2)] [] u := by
  induction n with
  | zero => intro x0 x1 x2 hf; cases hf
  | succ n ih => intro x0 x1 x2 hf; exact w_M_sizeOf_4 C hQ (l_M_sizeOf_4 n) ih x0 x1 x2 hf
def f_M_sizeOf (a0 : Int32) : Option (Int32) :=
  l_M_sizeOf_4 NF a0 (0 : Int32) (0 : Int32)
set_option maxRecDepth 100000 in
set_option maxHeartbeats 4000000 in
theorem w_M_sizeOf {γ : CX} {S : Type} {wf : S → va_W} {tys : Tys} {u : S} {r0 : Int32} (C : Cx γ b_M_sizeOf 3 (some .int) "PackagePickModel" (rk 0) tys) (hQ : QI γ tys wf r0 u) (a0 : Int32) (hf : f_M_sizeOf a0 = some r0) : AtG γ wf 3 0 0 0 [(0, .int a0)] [] u := by
  unfold f_M_sizeOf at hf
  refine x_iconst (v := 0) C d_M_sizeOf_0 (by decide) ?_
  refine x_istore_n (lv' := [(1, .int (0 : Int32)), (0, .int a0)]) C d_M_sizeOf_1 rfl (by decide) rfl ?_
  refine x_iconst (v := 0) C d_M_sizeOf_2 (by decide) ?_
  refine x_istore_n (lv' := [(2, .int (0 : Int32)), (1, .int (0 : Int32)), (0, .int a0)]) C d_M_sizeOf_3 rfl (by decide) rfl ?_
  refine x_sub (lv' := [(0, .int a0), (1, .int (0 : Int32)), (2, .int (0 : Int32))]) [2, 1, 0] rfl ?_
  exact wl_M_sizeOf_4 C hQ NF a0 (0 : Int32) (0 : Int32) hf
theorem c_M_sizeOf {S : Type} {l : Launch} {D : va_G} {tys : Tys} {wf : S → va_W} {u : S} (a0 : Int32) {r0 : Int32} (hf : f_M_sizeOf a0 = some r0) : CtI l y_M_sizeOf b_M_sizeOf 3 (some .int) (rk 0) D tys wf [.int a0] u r0 u := ct_ofI (by decide) (Nat.le_of_ble_eq_true rfl) (fun γ _ _ C hQ => w_M_sizeOf C hQ a0 hf)
-- ---- PackagePickModel.isAhead(II)Z
def b_M_isAhead_2 (k2 : Int32 → Int32 → Int32 → Option (Int32)) (x0 : Int32) (x1 : Int32) (x2 : Int32) : Option (Int32) :=
  if ((x0 >>> (x2 &&& 31)) &&& (1 : Int32)) = ((x1 >>> (x2 &&& 31)) &&& (1 : Int32)) then
    k2 x0 x1 (x2 + (1 : Int32))
  else
    if ((x0 >>> (x2 &&& 31)) &&& (1 : Int32)) = (1 : Int32) then
      some (1 : Int32)
    else
      some (0 : Int32)
set_option maxRecDepth 100000 in
set_option maxHeartbeats 4000000 in
theorem w_M_isAhead_2 {γ : CX} {S : Type} {wf : S → va_W} {tys : Tys} {u : S} {r0 : Int32} (C : Cx γ b_M_isAhead 3 (some .boolean) "PackagePickModel" (rk 0) tys) (hQ : QI γ tys wf r0 u) (k2 : Int32 → Int32 → Int32 → Option (Int32)) (hk2 : ∀ (x0 : Int32) (x1 : Int32) (x2 : Int32), k2 x0 x1 x2 = some r0 → AtG γ wf 3 0 0 2 [(0, .int x0), (1, .int x1), (2, .int x2)] [] u) (x0 : Int32) (x1 : Int32) (x2 : Int32) (hf : b_M_isAhead_2 k2 x0 x1 x2 = some r0) : AtG γ wf 3 0 0 2 [(0, .int x0), (1, .int x1), (2, .int x2)] [] u := by
  unfold b_M_isAhead_2 at hf
  refine x_iload_n C d_M_isAhead_2 rfl (k := 0) rfl ?_
  refine x_iload_n C d_M_isAhead_3 rfl (k := 2) rfl ?_
  refine x_ishr C d_M_isAhead_4 ?_
  refine x_iconst (v := 1) C d_M_isAhead_5 (by decide) ?_
  refine x_iand C d_M_isAhead_6 ?_
  refine x_iload_n C d_M_isAhead_7 rfl (k := 1) rfl ?_
  refine x_iload_n C d_M_isAhead_8 rfl (k := 2) rfl ?_
  refine x_ishr C d_M_isAhead_9 ?_
  refine x_iconst (v := 1) C d_M_isAhead_10 (by decide) ?_
  refine x_iand C d_M_isAhead_11 ?_
  refine x_icmp_ne (tgt := 21) C d_M_isAhead_12 (by decide) (fun hc => ?_) (fun hc => ?_)
  · rw [if_neg hc] at hf
    refine x_iload_n C d_M_isAhead_21 rfl (k := 0) rfl ?_
    refine x_iload_n C d_M_isAhead_22 rfl (k := 2) rfl ?_
    refine x_ishr C d_M_isAhead_23 ?_
    refine x_iconst (v := 1) C d_M_isAhead_24 (by decide) ?_
    refine x_iand C d_M_isAhead_25 ?_
    refine x_iconst (v := 1) C d_M_isAhead_26 (by decide) ?_
    refine x_icmp_ne (tgt := 34) C d_M_isAhead_27 (by decide) (fun hc => ?_) (fun hc => ?_)
    · rw [if_neg hc] at hf
      refine x_iconst (v := 0) C d_M_isAhead_34 (by decide) ?_
      exact x_zret C hQ rfl (Option.some.inj hf) rfl d_M_isAhead_35
    · rw [if_pos hc] at hf
      refine x_iconst (v := 1) C d_M_isAhead_30 (by decide) ?_
      refine x_goto (tgt := 35) C d_M_isAhead_31 (by decide) ?_
      exact x_zret C hQ rfl (Option.some.inj hf) rfl d_M_isAhead_35
  · rw [if_pos hc] at hf
    refine x_iinc (v := (x2 + (1 : Int32))) (lv' := [(2, .int (x2 + (1 : Int32))), (0, .int x0), (1, .int x1)]) C d_M_isAhead_15 (k := 2) rfl rfl (by decide) rfl ?_
    refine x_goto (tgt := 2) C d_M_isAhead_18 (by decide) ?_
    refine x_sub (lv' := [(0, .int x0), (1, .int x1), (2, .int (x2 + (1 : Int32)))]) [1, 2, 0] rfl ?_
    exact hk2 x0 x1 (x2 + (1 : Int32)) hf
def l_M_isAhead_2 : Nat → Int32 → Int32 → Int32 → Option (Int32)
  | 0 => fun _ _ _ => none
  | n + 1 => b_M_isAhead_2 (l_M_isAhead_2 n)
theorem wl_M_isAhead_2 {γ : CX} {S : Type} {wf : S → va_W} {tys : Tys} {u : S} {r0 : Int32} (C : Cx γ b_M_isAhead 3 (some .boolean) "PackagePickModel" (rk 0) tys) (hQ : QI γ tys wf r0 u) (n : Nat) : ∀ (x0 : Int32) (x1 : Int32) (x2 : Int32), l_M_isAhead_2 n x0 x1 x2 = some r0 → AtG γ wf 3 0 0 2 [(0, .int x0), (1, .int x1), (2, .int x2)] [] u := by
  induction n with
  | zero => intro x0 x1 x2 hf; cases hf
  | succ n ih => intro x0 x1 x2 hf; exact w_M_isAhead_2 C hQ (l_M_isAhead_2 n) ih x0 x1 x2 hf
def f_M_isAhead (a0 : Int32) (a1 : Int32) : Option (Int32) :=
  l_M_isAhead_2 NF a0 a1 (0 : Int32)
set_option maxRecDepth 100000 in
set_option maxHeartbeats 4000000 in
theorem w_M_isAhead {γ : CX} {S : Type} {wf : S → va_W} {tys : Tys} {u : S} {r0 : Int32} (C : Cx γ b_M_isAhead 3 (some .boolean) "PackagePickModel" (rk 0) tys) (hQ : QI γ tys wf r0 u) (a0 : Int32) (a1 : Int32) (hf : f_M_isAhead a0 a1 = some r0) : AtG γ wf 3 0 0 0 [(0, .int a0), (1, .int a1)] [] u := by
  unfold f_M_isAhead at hf
  refine x_iconst (v := 0) C d_M_isAhead_0 (by decide) ?_
  refine x_istore_n (lv' := [(2, .int (0 : Int32)), (0, .int a0), (1, .int a1)]) C d_M_isAhead_1 rfl (by decide) rfl ?_
  refine x_sub (lv' := [(0, .int a0), (1, .int a1), (2, .int (0 : Int32))]) [1, 2, 0] rfl ?_
  exact wl_M_isAhead_2 C hQ NF a0 a1 (0 : Int32) hf
theorem c_M_isAhead {S : Type} {l : Launch} {D : va_G} {tys : Tys} {wf : S → va_W} {u : S} (a0 : Int32) (a1 : Int32) {r0 : Int32} (hf : f_M_isAhead a0 a1 = some r0) : CtI l y_M_isAhead b_M_isAhead 3 (some .boolean) (rk 0) D tys wf [.int a0, .int a1] u r0 u := ct_ofI (by decide) (Nat.le_of_ble_eq_true rfl) (fun γ _ _ C hQ => w_M_isAhead C hQ a0 a1 hf)
-- ---- PackagePickModel.findCore()V
def b_M_findCore_59 (k10 : Int32 → PS → Option (PS)) (x1 : Int32) (u : PS) : Option (PS) :=
  (f_M_begin x1 u).bind fun r6 =>
  (f_M_finds r6).bind fun r7 =>
  if r7.1 = 0 then
    k10 (x1 + (1 : Int32)) (si r7.2 5 x1)
  else
    k10 (x1 + (1 : Int32)) r7.2
set_option maxRecDepth 100000 in
set_option maxHeartbeats 4000000 in
theorem w_M_findCore_59 {γ : CX} {cI cZ : ClassId} {h : Nat → Nat} {u0 : PS} (C : Cx γ b_M_findCore 3 none "PackagePickModel" (rk 3) [(cI, .int), (cZ, .boolean)]) (hQ : QV γ [(cI, .int), (cZ, .boolean)] (WM cI cZ h) u0) (k10 : Int32 → PS → Option (PS)) (hk10 : ∀ (x1 : Int32) (u : PS), k10 x1 u = some u0 → AtG γ (WM cI cZ h) 3 0 0 10 [(0, .ref (h 0)), (1, .int x1)] [] u) (x1 : Int32) (u : PS) (hf : b_M_findCore_59 k10 x1 u = some u0) : AtG γ (WM cI cZ h) 3 0 0 59 [(0, .ref (h 0)), (1, .int x1)] [] u := by
  unfold b_M_findCore_59 at hf
  refine x_aload_n C d_M_findCore_59 rfl (k := 0) rfl ?_
  refine x_iload_n C d_M_findCore_60 rfl (k := 1) rfl ?_
  obtain ⟨r6, hc6, hf⟩ := Option.bind_eq_some_iff.mp hf
  refine x_callVv (q0 := 0) (ci := 4) (rest := []) C (c_M_begin x1 u hc6) kc_M_begin (rok (by decide) (by decide)) mm_M_111 ms_M_begin ml_M_begin rfl rfl rfl rfl (Nat.le_of_ble_eq_true rfl) d_M_findCore_61 ?_
  refine x_aload_n C d_M_findCore_64 rfl (k := 0) rfl ?_
  obtain ⟨r7, hc7, hf⟩ := Option.bind_eq_some_iff.mp hf
  refine x_callIv (q0 := 0) (ci := 4) (rest := []) C (c_M_finds r6 hc7) kc_M_finds (rok (by decide) (by decide)) mm_M_115 ms_M_finds ml_M_finds rfl rfl rfl rfl (Nat.le_of_ble_eq_true rfl) d_M_findCore_65 ?_
  refine x_if_ne (tgt := 76) C d_M_findCore_68 (by decide) (fun hc => ?_) (fun hc => ?_)
  · rw [if_neg hc] at hf
    refine x_iinc (v := (x1 + (1 : Int32))) (lv' := [(1, .int (x1 + (1 : Int32))), (0, .ref (h 0))]) C d_M_findCore_76 (k := 1) rfl rfl (by decide) rfl ?_
    refine x_goto (tgt := 10) C d_M_findCore_79 (by decide) ?_
    refine x_sub (lv' := [(0, .ref (h 0)), (1, .int (x1 + (1 : Int32)))]) [1, 0] rfl ?_
    exact hk10 (x1 + (1 : Int32)) r7.2 hf
  · rw [if_pos hc] at hf
    refine x_aload_n C d_M_findCore_71 rfl (k := 0) rfl ?_
    refine x_iload_n C d_M_findCore_72 rfl (k := 1) rfl ?_
    refine pM_M_coreMask C mf_M_101 d_M_findCore_73 ?_
    refine x_iinc (v := (x1 + (1 : Int32))) (lv' := [(1, .int (x1 + (1 : Int32))), (0, .ref (h 0))]) C d_M_findCore_76 (k := 1) rfl rfl (by decide) rfl ?_
    refine x_goto (tgt := 10) C d_M_findCore_79 (by decide) ?_
    refine x_sub (lv' := [(0, .ref (h 0)), (1, .int (x1 + (1 : Int32)))]) [1, 0] rfl ?_
    exact hk10 (x1 + (1 : Int32)) (si r7.2 5 x1) hf
def b_M_findCore_10 (k10 : Int32 → PS → Option (PS)) (x1 : Int32) (u : PS) : Option (PS) :=
  if (f_M_all u) ≤ x1 then
    some u
  else
    (f_M_sizeOf x1).bind fun r3 =>
    (f_M_sizeOf (u.1 5)).bind fun r4 =>
    if r4 < r3 then
      k10 (x1 + (1 : Int32)) u
    else
      (f_M_sizeOf (u.1 5)).bind fun r5 =>
      if r3 = r5 then
        (f_M_isAhead x1 (u.1 5)).bind fun r8 =>
        if r8 = 0 then
          k10 (x1 + (1 : Int32)) u
        else
          b_M_findCore_59 k10 x1 u
      else
        b_M_findCore_59 k10 x1 u
set_option maxRecDepth 100000 in
set_option maxHeartbeats 4000000 in
theorem w_M_findCore_10 {γ : CX} {cI cZ : ClassId} {h : Nat → Nat} {u0 : PS} (C : Cx γ b_M_findCore 3 none "PackagePickModel" (rk 3) [(cI, .int), (cZ, .boolean)]) (hQ : QV γ [(cI, .int), (cZ, .boolean)] (WM cI cZ h) u0) (k10 : Int32 → PS → Option (PS)) (hk10 : ∀ (x1 : Int32) (u : PS), k10 x1 u = some u0 → AtG γ (WM cI cZ h) 3 0 0 10 [(0, .ref (h 0)), (1, .int x1)] [] u) (x1 : Int32) (u : PS) (hf : b_M_findCore_10 k10 x1 u = some u0) : AtG γ (WM cI cZ h) 3 0 0 10 [(0, .ref (h 0)), (1, .int x1)] [] u := by
  unfold b_M_findCore_10 at hf
  refine x_iload_n C d_M_findCore_10 rfl (k := 1) rfl ?_
  refine x_aload_n C d_M_findCore_11 rfl (k := 0) rfl ?_
  refine x_callIv (q0 := 0) (ci := 4) (rest := [.int x1]) C (c_M_all u) kc_M_all (rok (by decide) (by decide)) mm_M_97 ms_M_all ml_M_all rfl rfl rfl rfl (Nat.le_of_ble_eq_true rfl) d_M_findCore_12 ?_
  refine x_icmp_ge (tgt := 82) C d_M_findCore_15 (by decide) (fun hc => ?_) (fun hc => ?_)
  · rw [if_pos hc] at hf
    exact x_vret C hQ (Option.some.inj hf) d_M_findCore_82
  · rw [if_neg hc] at hf
    refine x_iload_n C d_M_findCore_18 rfl (k := 1) rfl ?_
    obtain ⟨r3, hc3, hf⟩ := Option.bind_eq_some_iff.mp hf
    refine x_callIs (rest := []) C (c_M_sizeOf x1 hc3) kc_M_sizeOf (rok (by decide) (by decide)) mm_M_104 ms_M_sizeOf rfl rfl (Nat.le_of_ble_eq_true rfl) d_M_findCore_19 ?_
    refine x_istore_n (lv' := [(2, .int r3), (0, .ref (h 0)), (1, .int x1)]) C d_M_findCore_22 rfl (by decide) rfl ?_
    refine x_iload_n C d_M_findCore_23 rfl (k := 0) rfl ?_
    refine x_aload_n C d_M_findCore_24 rfl (k := 1) rfl ?_
    refine gM_M_coreMask (v := (u.1 5)) C mf_M_101 rfl d_M_findCore_25 ?_
    obtain ⟨r4, hc4, hf⟩ := Option.bind_eq_some_iff.mp hf
    refine x_callIs (rest := [.int r3]) C (c_M_sizeOf (u.1 5) hc4) kc_M_sizeOf (rok (by decide) (by decide)) mm_M_104 ms_M_sizeOf rfl rfl (Nat.le_of_ble_eq_true rfl) d_M_findCore_28 ?_
    refine x_icmp_gt (tgt := 76) C d_M_findCore_31 (by decide) (fun hc => ?_) (fun hc => ?_)
    · rw [if_pos hc] at hf
      refine x_iinc (v := (x1 + (1 : Int32))) (lv' := [(1, .int (x1 + (1 : Int32))), (2, .int r3), (0, .ref (h 0))]) C d_M_findCore_76 (k := 2) rfl rfl (by decide) rfl ?_
      refine x_goto (tgt := 10) C d_M_findCore_79 (by decide) ?_
      refine x_sub (lv' := [(0, .ref (h 0)), (1, .int (x1 + (1 : Int32)))]) [2, 0] rfl ?_
      exact hk10 (x1 + (1 : Int32)) u hf
    · rw [if_neg hc] at hf
      refine x_iload_n C d_M_findCore_34 rfl (k := 0) rfl ?_
      refine x_aload_n C d_M_findCore_35 rfl (k := 1) rfl ?_
      refine gM_M_coreMask (v := (u.1 5)) C mf_M_101 rfl d_M_findCore_36 ?_
      obtain ⟨r5, hc5, hf⟩ := Option.bind_eq_some_iff.mp hf
      refine x_callIs (rest := [.int r3]) C (c_M_sizeOf (u.1 5) hc5) kc_M_sizeOf (rok (by decide) (by decide)) mm_M_104 ms_M_sizeOf rfl rfl (Nat.le_of_ble_eq_true rfl) d_M_findCore_39 ?_
      refine x_icmp_ne (tgt := 59) C d_M_findCore_42 (by decide) (fun hc => ?_) (fun hc => ?_)
      · rw [if_neg hc] at hf
        refine x_sub (lv' := [(0, .ref (h 0)), (1, .int x1)]) [1, 2] rfl ?_
        exact w_M_findCore_59 C hQ k10 hk10 x1 u hf
      · rw [if_pos hc] at hf
        refine x_iload_n C d_M_findCore_45 rfl (k := 2) rfl ?_
        refine x_aload_n C d_M_findCore_46 rfl (k := 1) rfl ?_
        refine gM_M_coreMask (v := (u.1 5)) C mf_M_101 rfl d_M_findCore_47 ?_
        obtain ⟨r8, hc8, hf⟩ := Option.bind_eq_some_iff.mp hf
        refine x_callIs (rest := []) C (c_M_isAhead x1 (u.1 5) hc8) kc_M_isAhead (rok (by decide) (by decide)) mm_M_108 ms_M_isAhead rfl rfl (Nat.le_of_ble_eq_true rfl) d_M_findCore_50 ?_
        refine x_if_ne (tgt := 59) C d_M_findCore_53 (by decide) (fun hc => ?_) (fun hc => ?_)
        · rw [if_neg hc] at hf
          refine x_sub (lv' := [(0, .ref (h 0)), (1, .int x1)]) [1, 2] rfl ?_
          exact w_M_findCore_59 C hQ k10 hk10 x1 u hf
        · rw [if_pos hc] at hf
          refine x_goto (tgt := 76) C d_M_findCore_56 (by decide) ?_
          refine x_iinc (v := (x1 + (1 : Int32))) (lv' := [(1, .int (x1 + (1 : Int32))), (2, .int r3), (0, .ref (h 0))]) C d_M_findCore_76 (k := 2) rfl rfl (by decide) rfl ?_
          refine x_goto (tgt := 10) C d_M_findCore_79 (by decide) ?_
          refine x_sub (lv' := [(0, .ref (h 0)), (1, .int (x1 + (1 : Int32)))]) [2, 0] rfl ?_
          exact hk10 (x1 + (1 : Int32)) u hf
def l_M_findCore_10 : Nat → Int32 → PS → Option (PS)
  | 0 => fun _ _ => none
  | n + 1 => b_M_findCore_10 (l_M_findCore_10 n)
theorem wl_M_findCore_10 {γ : CX} {cI cZ : ClassId} {h : Nat → Nat} {u0 : PS} (C : Cx γ b_M_findCore 3 none "PackagePickModel" (rk 3) [(cI, .int), (cZ, .boolean)]) (hQ : QV γ [(cI, .int), (cZ, .boolean)] (WM cI cZ h) u0) (n : Nat) : ∀ (x1 : Int32) (u : PS), l_M_findCore_10 n x1 u = some u0 → AtG γ (WM cI cZ h) 3 0 0 10 [(0, .ref (h 0)), (1, .int x1)] [] u := by
  induction n with
  | zero => intro x1 u hf; cases hf
  | succ n ih => intro x1 u hf; exact w_M_findCore_10 C hQ (l_M_findCore_10 n) ih x1 u hf
def f_M_findCore (u : PS) : Option (PS) :=
  l_M_findCore_10 NF (1 : Int32) (si u 5 (f_M_all u))
set_option maxRecDepth 100000 in
set_option maxHeartbeats 4000000 in
theorem w_M_findCore {γ : CX} {cI cZ : ClassId} {h : Nat → Nat} {u0 : PS} (C : Cx γ b_M_findCore 3 none "PackagePickModel" (rk 3) [(cI, .int), (cZ, .boolean)]) (hQ : QV γ [(cI, .int), (cZ, .boolean)] (WM cI cZ h) u0) (u : PS) (hf : f_M_findCore u = some u0) : AtG γ (WM cI cZ h) 3 0 0 0 [(0, .ref (h 0))] [] u := by
  unfold f_M_findCore at hf
  refine x_aload_n C d_M_findCore_0 rfl (k := 0) rfl ?_
  refine x_aload_n C d_M_findCore_1 rfl (k := 0) rfl ?_
  refine x_callIv (q0 := 0) (ci := 4) (rest := [.ref (h 0)]) C (c_M_all u) kc_M_all (rok (by decide) (by decide)) mm_M_97 ms_M_all ml_M_all rfl rfl rfl rfl (Nat.le_of_ble_eq_true rfl) d_M_findCore_2 ?_
  refine pM_M_coreMask C mf_M_101 d_M_findCore_5 ?_
  refine x_iconst (v := 1) C d_M_findCore_8 (by decide) ?_
  refine x_istore_n (lv' := [(1, .int (1 : Int32)), (0, .ref (h 0))]) C d_M_findCore_9 rfl (by decide) rfl ?_
  refine x_sub (lv' := [(0, .ref (h 0)), (1, .int (1 : Int32))]) [1, 0] rfl ?_
  exact wl_M_findCore_10 C hQ NF (1 : Int32) (si u 5 (f_M_all u)) hf
theorem c_M_findCore {l : Launch} {D : va_G} {cI cZ : ClassId} {h : Nat → Nat} (u : PS) {u0 : PS} (hf : f_M_findCore u = some u0) : CtV l y_M_findCore b_M_findCore 3 none (rk 3) D [(cI, .int), (cZ, .boolean)] (WM cI cZ h) [.ref (h 0)] u u0 := ct_ofV (by decide) (Nat.le_of_ble_eq_true rfl) (fun γ _ _ C hQ => w_M_findCore C hQ u hf)
-- ---- PackagePickModel.solve(I)I
def b_M_solve_9 (u : PS) : Option (Int32 × PS) :=
  some ((f_M_raise (1 : Int32) u).1, (f_M_raise (1 : Int32) u).2)
set_option maxRecDepth 100000 in
set_option maxHeartbeats 4000000 in
theorem w_M_solve_9 {γ : CX} {cI cZ : ClassId} {h : Nat → Nat} {r0 : Int32} {u0 : PS} (C : Cx γ b_M_solve 5 (some .int) "PackagePickModel" (rk 4) [(cI, .int), (cZ, .boolean)]) (hQ : QI γ [(cI, .int), (cZ, .boolean)] (WM cI cZ h) r0 u0) (u : PS) (hf : b_M_solve_9 u = some (r0, u0)) : AtG γ (WM cI cZ h) 5 0 0 9 [(0, .ref (h 0))] [] u := by
  unfold b_M_solve_9 at hf
  refine x_aload_n C d_M_solve_9 rfl (k := 0) rfl ?_
  refine x_iconst (v := 1) C d_M_solve_10 (by decide) ?_
  refine x_callIv (q0 := 0) (ci := 4) (rest := []) C (c_M_raise (1 : Int32) u) kc_M_raise (rok (by decide) (by decide)) mm_M_118 ms_M_raise ml_M_raise rfl rfl rfl rfl (Nat.le_of_ble_eq_true rfl) d_M_solve_11 ?_
  exact x_iret C hQ (Prod.mk.inj (Option.some.inj hf)).1 (Prod.mk.inj (Option.some.inj hf)).2 d_M_solve_14
def b_M_solve_112 (k112 : Int32 → Int32 → PS → Option (Int32 × PS)) (x3 : Int32) (x4 : Int32) (u : PS) : Option (Int32 × PS) :=
  if (7 : Int32) ≤ x4 then
    some (x3, u)
  else
    ck (inb x4 7) <|
    ck (inb x4 7) <|
    ck (inb x4 7) <|
    if (u.2 14 x4.toNatClampNeg) = (-1 : Int32) then
      k112 (x3 + (0 : Int32)) (x4 + (1 : Int32)) (sa u 12 x4.toNatClampNeg (u.2 14 x4.toNatClampNeg))
    else
      k112 (x3 + (1 : Int32)) (x4 + (1 : Int32)) (sa u 12 x4.toNatClampNeg (u.2 14 x4.toNatClampNeg))
set_option maxRecDepth 100000 in
set_option maxHeartbeats 4000000 in
theorem w_M_solve_112 {γ : CX} {cI cZ : ClassId} {h : Nat → Nat} {r0 : Int32} {u0 : PS} (C : Cx γ b_M_solve 5 (some .int) "PackagePickModel" (rk 4) [(cI, .int), (cZ, .boolean)]) (hQ : QI γ [(cI, .int), (cZ, .boolean)] (WM cI cZ h) r0 u0) (k112 : Int32 → Int32 → PS → Option (Int32 × PS)) (hk112 : ∀ (x3 : Int32) (x4 : Int32) (u : PS), k112 x3 x4 u = some (r0, u0) → AtG γ (WM cI cZ h) 5 0 0 112 [(0, .ref (h 0)), (3, .int x3), (4, .int x4)] [] u) (x3 : Int32) (x4 : Int32) (u : PS) (hf : b_M_solve_112 k112 x3 x4 u = some (r0, u0)) : AtG γ (WM cI cZ h) 5 0 0 112 [(0, .ref (h 0)), (3, .int x3), (4, .int x4)] [] u := by
  unfold b_M_solve_112 at hf
  refine x_iload C d_M_solve_112 (k := 2) rfl ?_
  refine x_bipush (v := 7) C d_M_solve_114 (by decide) ?_
  refine x_icmp_ge (tgt := 158) C d_M_solve_116 (by decide) (fun hc => ?_) (fun hc => ?_)
  · rw [if_pos hc] at hf
    refine x_iload_n C d_M_solve_158 rfl (k := 1) rfl ?_
    exact x_iret C hQ (Prod.mk.inj (Option.some.inj hf)).1 (Prod.mk.inj (Option.some.inj hf)).2 d_M_solve_159
  · rw [if_neg hc] at hf
    refine x_aload_n C d_M_solve_119 rfl (k := 0) rfl ?_
    refine gM_M_told C mf_M_47 d_M_solve_120 ?_
    refine x_iload C d_M_solve_123 (k := 2) rfl ?_
    refine x_aload_n C d_M_solve_125 rfl (k := 0) rfl ?_
    refine gM_M_best C mf_M_53 d_M_solve_126 ?_
    refine x_iload C d_M_solve_129 (k := 2) rfl ?_
    obtain ⟨hin, hf⟩ := ck_some hf
    refine aldM_15 (v := (u.2 14 x4.toNatClampNeg)) C hin rfl d_M_solve_131 ?_
    obtain ⟨hin, hf⟩ := ck_some hf
    refine astM_13 C hin d_M_solve_132 ?_
    refine x_iload_n C d_M_solve_133 rfl (k := 1) rfl ?_
    refine x_aload_n C d_M_solve_134 rfl (k := 0) rfl ?_
    refine gM_M_best C mf_M_53 d_M_solve_135 ?_
    refine x_iload C d_M_solve_138 (k := 2) rfl ?_
    obtain ⟨hin, hf⟩ := ck_some hf
    refine aldM_15 (v := (u.2 14 x4.toNatClampNeg)) C hin rfl d_M_solve_140 ?_
    refine x_iconst (v := -1) C d_M_solve_141 (by decide) ?_
    refine x_icmp_eq (tgt := 149) C d_M_solve_142 (by decide) (fun hc => ?_) (fun hc => ?_)
    · rw [if_pos hc] at hf
      refine x_iconst (v := 0) C d_M_solve_149 (by decide) ?_
      refine x_iadd C d_M_solve_150 ?_
      refine x_istore_n (lv' := [(3, .int (x3 + (0 : Int32))), (0, .ref (h 0)), (4, .int x4)]) C d_M_solve_151 rfl (by decide) rfl ?_
      refine x_iinc (v := (x4 + (1 : Int32))) (lv' := [(4, .int (x4 + (1 : Int32))), (3, .int (x3 + (0 : Int32))), (0, .ref (h 0))]) C d_M_solve_152 (k := 2) rfl rfl (by decide) rfl ?_
      refine x_goto (tgt := 112) C d_M_solve_155 (by decide) ?_
      refine x_sub (lv' := [(0, .ref (h 0)), (3, .int (x3 + (0 : Int32))), (4, .int (x4 + (1 : Int32)))]) [2, 1, 0] rfl ?_
      exact hk112 (x3 + (0 : Int32)) (x4 + (1 : Int32)) (sa u 12 x4.toNatClampNeg (u.2 14 x4.toNatClampNeg)) hf
    · rw [if_neg hc] at hf
      refine x_iconst (v := 1) C d_M_solve_145 (by decide) ?_
      refine x_goto (tgt := 150) C d_M_solve_146 (by decide) ?_
      refine x_iadd C d_M_solve_150 ?_
      refine x_istore_n (lv' := [(3, .int (x3 + (1 : Int32))), (0, .ref (h 0)), (4, .int x4)]) C d_M_solve_151 rfl (by decide) rfl ?_
      refine x_iinc (v := (x4 + (1 : Int32))) (lv' := [(4, .int (x4 + (1 : Int32))), (3, .int (x3 + (1 : Int32))), (0, .ref (h 0))]) C d_M_solve_152 (k := 2) rfl rfl (by decide) rfl ?_
      refine x_goto (tgt := 112) C d_M_solve_155 (by decide) ?_
      refine x_sub (lv' := [(0, .ref (h 0)), (3, .int (x3 + (1 : Int32))), (4, .int (x4 + (1 : Int32)))]) [2, 1, 0] rfl ?_
      exact hk112 (x3 + (1 : Int32)) (x4 + (1 : Int32)) (sa u 12 x4.toNatClampNeg (u.2 14 x4.toNatClampNeg)) hf
def l_M_solve_112 : Nat → Int32 → Int32 → PS → Option (Int32 × PS)
  | 0 => fun _ _ _ => none
  | n + 1 => b_M_solve_112 (l_M_solve_112 n)
theorem wl_M_solve_112 {γ : CX} {cI cZ : ClassId} {h : Nat → Nat} {r0 : Int32} {u0 : PS} (C : Cx γ b_M_solve 5 (some .int) "PackagePickModel" (rk 4) [(cI, .int), (cZ, .boolean)]) (hQ : QI γ [(cI, .int), (cZ, .boolean)] (WM cI cZ h) r0 u0) (n : Nat) : ∀ (x3 : Int32) (x4 : Int32) (u : PS), l_M_solve_112 n x3 x4 u = some (r0, u0) → AtG γ (WM cI cZ h) 5 0 0 112 [(0, .ref (h 0)), (3, .int x3), (4, .int x4)] [] u := by
  induction n with
  | zero => intro x3 x4 u hf; cases hf
  | succ n ih => intro x3 x4 u hf; exact w_M_solve_112 C hQ (l_M_solve_112 n) ih x3 x4 u hf
def b_M_solve_86 (x2 : Int32) (u : PS) : Option (Int32 × PS) :=
  if x2 = (100 : Int32) then
    (f_M_findCore u).bind fun r4 =>
    some ((f_M_raise (2 : Int32) r4).1, (f_M_raise (2 : Int32) r4).2)
  else
    l_M_solve_112 NF (0 : Int32) (0 : Int32) (si u 0 (0 : Int32))
set_option maxRecDepth 100000 in
set_option maxHeartbeats 4000000 in
theorem w_M_solve_86 {γ : CX} {cI cZ : ClassId} {h : Nat → Nat} {r0 : Int32} {u0 : PS} (C : Cx γ b_M_solve 5 (some .int) "PackagePickModel" (rk 4) [(cI, .int), (cZ, .boolean)]) (hQ : QI γ [(cI, .int), (cZ, .boolean)] (WM cI cZ h) r0 u0) (x2 : Int32) (u : PS) (hf : b_M_solve_86 x2 u = some (r0, u0)) : AtG γ (WM cI cZ h) 5 0 0 86 [(0, .ref (h 0)), (2, .int x2)] [] u := by
  unfold b_M_solve_86 at hf
  refine x_iload_n C d_M_solve_86 rfl (k := 1) rfl ?_
  refine x_bipush (v := 100) C d_M_solve_87 (by decide) ?_
  refine x_icmp_ne (tgt := 102) C d_M_solve_89 (by decide) (fun hc => ?_) (fun hc => ?_)
  · rw [if_neg hc] at hf
    refine x_aload_n C d_M_solve_102 rfl (k := 0) rfl ?_
    refine x_iconst (v := 0) C d_M_solve_103 (by decide) ?_
    refine pM_M_thrown C mf_M_56 d_M_solve_104 ?_
    refine x_iconst (v := 0) C d_M_solve_107 (by decide) ?_
    refine x_istore_n (lv' := [(3, .int (0 : Int32)), (0, .ref (h 0)), (2, .int x2)]) C d_M_solve_108 rfl (by decide) rfl ?_
    refine x_iconst (v := 0) C d_M_solve_109 (by decide) ?_
    refine x_istore (lv' := [(4, .int (0 : Int32)), (3, .int (0 : Int32)), (0, .ref (h 0)), (2, .int x2)]) C d_M_solve_110 (by decide) rfl ?_
    refine x_sub (lv' := [(0, .ref (h 0)), (3, .int (0 : Int32)), (4, .int (0 : Int32))]) [2, 1, 0] rfl ?_
    exact wl_M_solve_112 C hQ NF (0 : Int32) (0 : Int32) (si u 0 (0 : Int32)) hf
  · rw [if_pos hc] at hf
    refine x_aload_n C d_M_solve_92 rfl (k := 0) rfl ?_
    obtain ⟨r4, hc4, hf⟩ := Option.bind_eq_some_iff.mp hf
    refine x_callVv (q0 := 0) (ci := 4) (rest := []) C (c_M_findCore u hc4) kc_M_findCore (rok (by decide) (by decide)) mm_M_124 ms_M_findCore ml_M_findCore rfl rfl rfl rfl (Nat.le_of_ble_eq_true rfl) d_M_solve_93 ?_
    refine x_aload_n C d_M_solve_96 rfl (k := 0) rfl ?_
    refine x_iconst (v := 2) C d_M_solve_97 (by decide) ?_
    refine x_callIv (q0 := 0) (ci := 4) (rest := []) C (c_M_raise (2 : Int32) r4) kc_M_raise (rok (by decide) (by decide)) mm_M_118 ms_M_raise ml_M_raise rfl rfl rfl rfl (Nat.le_of_ble_eq_true rfl) d_M_solve_98 ?_
    exact x_iret C hQ (Prod.mk.inj (Option.some.inj hf)).1 (Prod.mk.inj (Option.some.inj hf)).2 d_M_solve_101
def b_M_solve_56 (k26 : Int32 → Int32 → PS → Option (Int32 × PS)) (k56 : Int32 → Int32 → Int32 → PS → Option (Int32 × PS)) (x1 : Int32) (x2 : Int32) (x4 : Int32) (u : PS) : Option (Int32 × PS) :=
  if (7 : Int32) ≤ x4 then
    k26 x1 x2 u
  else
    ck (inb x4 7) <|
    ck (inb x4 7) <|
    k56 x1 x2 (x4 + (1 : Int32)) (sa u 14 x4.toNatClampNeg (u.2 10 x4.toNatClampNeg))
set_option maxRecDepth 100000 in
set_option maxHeartbeats 4000000 in
theorem w_M_solve_56 {γ : CX} {cI cZ : ClassId} {h : Nat → Nat} {r0 : Int32} {u0 : PS} (C : Cx γ b_M_solve 5 (some .int) "PackagePickModel" (rk 4) [(cI, .int), (cZ, .boolean)]) (hQ : QI γ [(cI, .int), (cZ, .boolean)] (WM cI cZ h) r0 u0) (k26 : Int32 → Int32 → PS → Option (Int32 × PS)) (k56 : Int32 → Int32 → Int32 → PS → Option (Int32 × PS)) (hk26 : ∀ (x1 : Int32) (x2 : Int32) (u : PS), k26 x1 x2 u = some (r0, u0) → AtG γ (WM cI cZ h) 5 0 0 26 [(0, .ref (h 0)), (1, .int x1), (2, .int x2)] [] u) (hk56 : ∀ (x1 : Int32) (x2 : Int32) (x4 : Int32) (u : PS), k56 x1 x2 x4 u = some (r0, u0) → AtG γ (WM cI cZ h) 5 0 0 56 [(0, .ref (h 0)), (1, .int x1), (2, .int x2), (4, .int x4)] [] u) (x1 : Int32) (x2 : Int32) (x4 : Int32) (u : PS) (hf : b_M_solve_56 k26 k56 x1 x2 x4 u = some (r0, u0)) : AtG γ (WM cI cZ h) 5 0 0 56 [(0, .ref (h 0)), (1, .int x1), (2, .int x2), (4, .int x4)] [] u := by
  unfold b_M_solve_56 at hf
  refine x_iload C d_M_solve_56 (k := 3) rfl ?_
  refine x_bipush (v := 7) C d_M_solve_58 (by decide) ?_
  refine x_icmp_ge (tgt := 83) C d_M_solve_60 (by decide) (fun hc => ?_) (fun hc => ?_)
  · rw [if_pos hc] at hf
    refine x_goto (tgt := 26) C d_M_solve_83 (by decide) ?_
    refine x_sub (lv' := [(0, .ref (h 0)), (1, .int x1), (2, .int x2)]) [0, 1, 2] rfl ?_
    exact hk26 x1 x2 u hf
  · rw [if_neg hc] at hf
    refine x_aload_n C d_M_solve_63 rfl (k := 0) rfl ?_
    refine gM_M_best C mf_M_53 d_M_solve_64 ?_
    refine x_iload C d_M_solve_67 (k := 3) rfl ?_
    refine x_aload_n C d_M_solve_69 rfl (k := 0) rfl ?_
    refine gM_M_pick C mf_M_41 d_M_solve_70 ?_
    refine x_iload C d_M_solve_73 (k := 3) rfl ?_
    obtain ⟨hin, hf⟩ := ck_some hf
    refine aldM_11 (v := (u.2 10 x4.toNatClampNeg)) C hin rfl d_M_solve_75 ?_
    obtain ⟨hin, hf⟩ := ck_some hf
    refine astM_15 C hin d_M_solve_76 ?_
    refine x_iinc (v := (x4 + (1 : Int32))) (lv' := [(4, .int (x4 + (1 : Int32))), (0, .ref (h 0)), (1, .int x1), (2, .int x2)]) C d_M_solve_77 (k := 3) rfl rfl (by decide) rfl ?_
    refine x_goto (tgt := 56) C d_M_solve_80 (by decide) ?_
    refine x_sub (lv' := [(0, .ref (h 0)), (1, .int x1), (2, .int x2), (4, .int (x4 + (1 : Int32)))]) [1, 2, 3, 0] rfl ?_
    exact hk56 x1 x2 (x4 + (1 : Int32)) (sa u 14 x4.toNatClampNeg (u.2 10 x4.toNatClampNeg)) hf
def l_M_solve_56 (k26 : Int32 → Int32 → PS → Option (Int32 × PS)) : Nat → Int32 → Int32 → Int32 → PS → Option (Int32 × PS)
  | 0 => fun _ _ _ _ => none
  | n + 1 => b_M_solve_56 k26 (l_M_solve_56 k26 n)
theorem wl_M_solve_56 {γ : CX} {cI cZ : ClassId} {h : Nat → Nat} {r0 : Int32} {u0 : PS} (C : Cx γ b_M_solve 5 (some .int) "PackagePickModel" (rk 4) [(cI, .int), (cZ, .boolean)]) (hQ : QI γ [(cI, .int), (cZ, .boolean)] (WM cI cZ h) r0 u0) (k26 : Int32 → Int32 → PS → Option (Int32 × PS)) (hk26 : ∀ (x1 : Int32) (x2 : Int32) (u : PS), k26 x1 x2 u = some (r0, u0) → AtG γ (WM cI cZ h) 5 0 0 26 [(0, .ref (h 0)), (1, .int x1), (2, .int x2)] [] u) (n : Nat) : ∀ (x1 : Int32) (x2 : Int32) (x4 : Int32) (u : PS), l_M_solve_56 k26 n x1 x2 x4 u = some (r0, u0) → AtG γ (WM cI cZ h) 5 0 0 56 [(0, .ref (h 0)), (1, .int x1), (2, .int x2), (4, .int x4)] [] u := by
  induction n with
  | zero => intro x1 x2 x4 u hf; cases hf
  | succ n ih => intro x1 x2 x4 u hf; exact w_M_solve_56 C hQ k26 (l_M_solve_56 k26 n) hk26 ih x1 x2 x4 u hf
def b_M_solve_26 (k26 : Int32 → Int32 → PS → Option (Int32 × PS)) (x1 : Int32) (x2 : Int32) (u : PS) : Option (Int32 × PS) :=
  if x2 ≤ 0 then
    b_M_solve_86 x2 u
  else
    (f_M_finds u).bind fun r6 =>
    if r6.1 = 0 then
      b_M_solve_86 x2 r6.2
    else
      (f_M_cost x1 r6.2).bind fun r7 =>
      if r7 < x2 then
        l_M_solve_56 k26 NF x1 r7 (0 : Int32) r6.2
      else
        k26 x1 x2 r6.2
set_option maxRecDepth 100000 in
set_option maxHeartbeats 4000000 in
theorem w_M_solve_26 {γ : CX} {cI cZ : ClassId} {h : Nat → Nat} {r0 : Int32} {u0 : PS} (C : Cx γ b_M_solve 5 (some .int) "PackagePickModel" (rk 4) [(cI, .int), (cZ, .boolean)]) (hQ : QI γ [(cI, .int), (cZ, .boolean)] (WM cI cZ h) r0 u0) (k26 : Int32 → Int32 → PS → Option (Int32 × PS)) (hk26 : ∀ (x1 : Int32) (x2 : Int32) (u : PS), k26 x1 x2 u = some (r0, u0) → AtG γ (WM cI cZ h) 5 0 0 26 [(0, .ref (h 0)), (1, .int x1), (2, .int x2)] [] u) (x1 : Int32) (x2 : Int32) (u : PS) (hf : b_M_solve_26 k26 x1 x2 u = some (r0, u0)) : AtG γ (WM cI cZ h) 5 0 0 26 [(0, .ref (h 0)), (1, .int x1), (2, .int x2)] [] u := by
  unfold b_M_solve_26 at hf
  refine x_iload_n C d_M_solve_26 rfl (k := 2) rfl ?_
  refine x_if_le (tgt := 86) C d_M_solve_27 (by decide) (fun hc => ?_) (fun hc => ?_)
  · rw [if_pos hc] at hf
    refine x_sub (lv' := [(0, .ref (h 0)), (2, .int x2)]) [0, 2] rfl ?_
    exact w_M_solve_86 C hQ x2 u hf
  · rw [if_neg hc] at hf
    refine x_aload_n C d_M_solve_30 rfl (k := 0) rfl ?_
    obtain ⟨r6, hc6, hf⟩ := Option.bind_eq_some_iff.mp hf
    refine x_callIv (q0 := 0) (ci := 4) (rest := []) C (c_M_finds u hc6) kc_M_finds (rok (by decide) (by decide)) mm_M_115 ms_M_finds ml_M_finds rfl rfl rfl rfl (Nat.le_of_ble_eq_true rfl) d_M_solve_31 ?_
    refine x_if_eq (tgt := 86) C d_M_solve_34 (by decide) (fun hc => ?_) (fun hc => ?_)
    · rw [if_pos hc] at hf
      refine x_sub (lv' := [(0, .ref (h 0)), (2, .int x2)]) [0, 2] rfl ?_
      exact w_M_solve_86 C hQ x2 r6.2 hf
    · rw [if_neg hc] at hf
      refine x_aload_n C d_M_solve_37 rfl (k := 0) rfl ?_
      refine x_iload_n C d_M_solve_38 rfl (k := 1) rfl ?_
      obtain ⟨r7, hc7, hf⟩ := Option.bind_eq_some_iff.mp hf
      refine x_callIv (q0 := 0) (ci := 4) (rest := []) C (c_M_cost x1 r6.2 hc7) kc_M_cost (rok (by decide) (by decide)) mm_M_121 ms_M_cost ml_M_cost rfl rfl rfl rfl (Nat.le_of_ble_eq_true rfl) d_M_solve_39 ?_
      refine x_istore_n (lv' := [(3, .int r7), (0, .ref (h 0)), (1, .int x1), (2, .int x2)]) C d_M_solve_42 rfl (by decide) rfl ?_
      refine x_iload_n C d_M_solve_43 rfl (k := 0) rfl ?_
      refine x_iload_n C d_M_solve_44 rfl (k := 3) rfl ?_
      refine x_icmp_lt (tgt := 51) C d_M_solve_45 (by decide) (fun hc => ?_) (fun hc => ?_)
      · rw [if_pos hc] at hf
        refine x_iload_n C d_M_solve_51 rfl (k := 0) rfl ?_
        refine x_istore_n (lv' := [(2, .int r7), (3, .int r7), (0, .ref (h 0)), (1, .int x1)]) C d_M_solve_52 rfl (by decide) rfl ?_
        refine x_iconst (v := 0) C d_M_solve_53 (by decide) ?_
        refine x_istore (lv' := [(4, .int (0 : Int32)), (2, .int r7), (3, .int r7), (0, .ref (h 0)), (1, .int x1)]) C d_M_solve_54 (by decide) rfl ?_
        refine x_sub (lv' := [(0, .ref (h 0)), (1, .int x1), (2, .int r7), (4, .int (0 : Int32))]) [3, 4, 1, 0] rfl ?_
        exact wl_M_solve_56 C hQ k26 hk26 NF x1 r7 (0 : Int32) r6.2 hf
      · rw [if_neg hc] at hf
        refine x_goto (tgt := 26) C d_M_solve_48 (by decide) ?_
        refine x_sub (lv' := [(0, .ref (h 0)), (1, .int x1), (2, .int x2)]) [1, 2, 3] rfl ?_
        exact hk26 x1 x2 r6.2 hf
def l_M_solve_26 : Nat → Int32 → Int32 → PS → Option (Int32 × PS)
  | 0 => fun _ _ _ => none
  | n + 1 => b_M_solve_26 (l_M_solve_26 n)
theorem wl_M_solve_26 {γ : CX} {cI cZ : ClassId} {h : Nat → Nat} {r0 : Int32} {u0 : PS} (C : Cx γ b_M_solve 5 (some .int) "PackagePickModel" (rk 4) [(cI, .int), (cZ, .boolean)]) (hQ : QI γ [(cI, .int), (cZ, .boolean)] (WM cI cZ h) r0 u0) (n : Nat) : ∀ (x1 : Int32) (x2 : Int32) (u : PS), l_M_solve_26 n x1 x2 u = some (r0, u0) → AtG γ (WM cI cZ h) 5 0 0 26 [(0, .ref (h 0)), (1, .int x1), (2, .int x2)] [] u := by
  induction n with
  | zero => intro x1 x2 u hf; cases hf
  | succ n ih => intro x1 x2 u hf; exact w_M_solve_26 C hQ (l_M_solve_26 n) ih x1 x2 u hf
def f_M_solve (a1 : Int32) (u : PS) : Option (Int32 × PS) :=
  if a1 < 0 then
    b_M_solve_9 u
  else
    if a1 ≤ (2 : Int32) then
      (f_M_begin (f_M_all u) u).bind fun r3 =>
      l_M_solve_26 NF a1 (100 : Int32) r3
    else
      b_M_solve_9 u
set_option maxRecDepth 100000 in
set_option maxHeartbeats 4000000 in
theorem w_M_solve {γ : CX} {cI cZ : ClassId} {h : Nat → Nat} {r0 : Int32} {u0 : PS} (C : Cx γ b_M_solve 5 (some .int) "PackagePickModel" (rk 4) [(cI, .int), (cZ, .boolean)]) (hQ : QI γ [(cI, .int), (cZ, .boolean)] (WM cI cZ h) r0 u0) (a1 : Int32) (u : PS) (hf : f_M_solve a1 u = some (r0, u0)) : AtG γ (WM cI cZ h) 5 0 0 0 [(0, .ref (h 0)), (1, .int a1)] [] u := by
  unfold f_M_solve at hf
  refine x_iload_n C d_M_solve_0 rfl (k := 1) rfl ?_
  refine x_if_lt (tgt := 9) C d_M_solve_1 (by decide) (fun hc => ?_) (fun hc => ?_)
  · rw [if_pos hc] at hf
    refine x_sub (lv' := [(0, .ref (h 0))]) [0] rfl ?_
    exact w_M_solve_9 C hQ u hf
  · rw [if_neg hc] at hf
    refine x_iload_n C d_M_solve_4 rfl (k := 1) rfl ?_
    refine x_iconst (v := 2) C d_M_solve_5 (by decide) ?_
    refine x_icmp_le (tgt := 15) C d_M_solve_6 (by decide) (fun hc => ?_) (fun hc => ?_)
    · rw [if_pos hc] at hf
      refine x_bipush (v := 100) C d_M_solve_15 (by decide) ?_
      refine x_istore_n (lv' := [(2, .int (100 : Int32)), (0, .ref (h 0)), (1, .int a1)]) C d_M_solve_17 rfl (by decide) rfl ?_
      refine x_aload_n C d_M_solve_18 rfl (k := 1) rfl ?_
      refine x_aload_n C d_M_solve_19 rfl (k := 1) rfl ?_
      refine x_callIv (q0 := 0) (ci := 4) (rest := [.ref (h 0)]) C (c_M_all u) kc_M_all (rok (by decide) (by decide)) mm_M_97 ms_M_all ml_M_all rfl rfl rfl rfl (Nat.le_of_ble_eq_true rfl) d_M_solve_20 ?_
      obtain ⟨r3, hc3, hf⟩ := Option.bind_eq_some_iff.mp hf
      refine x_callVv (q0 := 0) (ci := 4) (rest := []) C (c_M_begin (f_M_all u) u hc3) kc_M_begin (rok (by decide) (by decide)) mm_M_111 ms_M_begin ml_M_begin rfl rfl rfl rfl (Nat.le_of_ble_eq_true rfl) d_M_solve_23 ?_
      refine x_sub (lv' := [(0, .ref (h 0)), (1, .int a1), (2, .int (100 : Int32))]) [1, 2, 0] rfl ?_
      exact wl_M_solve_26 C hQ NF a1 (100 : Int32) r3 hf
    · rw [if_neg hc] at hf
      refine x_sub (lv' := [(0, .ref (h 0))]) [0] rfl ?_
      exact w_M_solve_9 C hQ u hf
theorem c_M_solve {l : Launch} {D : va_G} {cI cZ : ClassId} {h : Nat → Nat} (a1 : Int32) (u : PS) {r0 : Int32 × PS} (hf : f_M_solve a1 u = some r0) : CtI l y_M_solve b_M_solve 5 (some .int) (rk 4) D [(cI, .int), (cZ, .boolean)] (WM cI cZ h) [.ref (h 0), .int a1] u r0.1 r0.2 := ct_ofI (by decide) (Nat.le_of_ble_eq_true rfl) (fun γ _ _ C hQ => w_M_solve C hQ a1 u hf)
-- ---- PackagePickModel.differ()I
def b_M_differ_4 (u : PS) (k4 : Int32 → Int32 → Option (Int32)) (x1 : Int32) (x2 : Int32) : Option (Int32) :=
  if (7 : Int32) ≤ x2 then
    some x1
  else
    ck (inb x2 7) <|
    ck (inb x2 7) <|
    if (u.2 12 x2.toNatClampNeg) = (u.2 13 x2.toNatClampNeg) then
      k4 (x1 + (0 : Int32)) (x2 + (1 : Int32))
    else
      k4 (x1 + (1 : Int32)) (x2 + (1 : Int32))
set_option maxRecDepth 100000 in
set_option maxHeartbeats 4000000 in
theorem w_M_differ_4 {γ : CX} {cI cZ : ClassId} {h : Nat → Nat} {u : PS} {r0 : Int32} (C : Cx γ b_M_differ 3 (some .int) "PackagePickModel" (rk 0) [(cI, .int), (cZ, .boolean)]) (hQ : QI γ [(cI, .int), (cZ, .boolean)] (WM cI cZ h) r0 u) (k4 : Int32 → Int32 → Option (Int32)) (hk4 : ∀ (x1 : Int32) (x2 : Int32), k4 x1 x2 = some r0 → AtG γ (WM cI cZ h) 3 0 0 4 [(0, .ref (h 0)), (1, .int x1), (2, .int x2)] [] u) (x1 : Int32) (x2 : Int32) (hf : b_M_differ_4 u k4 x1 x2 = some r0) : AtG γ (WM cI cZ h) 3 0 0 4 [(0, .ref (h 0)), (1, .int x1), (2, .int x2)] [] u := by
  unfold b_M_differ_4 at hf
  refine x_iload_n C d_M_differ_4 rfl (k := 2) rfl ?_
  refine x_bipush (v := 7) C d_M_differ_5 (by decide) ?_
  refine x_icmp_ge (tgt := 39) C d_M_differ_7 (by decide) (fun hc => ?_) (fun hc => ?_)
  · rw [if_pos hc] at hf
    refine x_iload_n C d_M_differ_39 rfl (k := 1) rfl ?_
    exact x_iret C hQ (Option.some.inj hf) rfl d_M_differ_40
  · rw [if_neg hc] at hf
    refine x_iload_n C d_M_differ_10 rfl (k := 1) rfl ?_
    refine x_aload_n C d_M_differ_11 rfl (k := 0) rfl ?_
    refine gM_M_told C mf_M_47 d_M_differ_12 ?_
    refine x_iload_n C d_M_differ_15 rfl (k := 2) rfl ?_
    obtain ⟨hin, hf⟩ := ck_some hf
    refine aldM_13 (v := (u.2 12 x2.toNatClampNeg)) C hin rfl d_M_differ_16 ?_
    refine x_aload_n C d_M_differ_17 rfl (k := 0) rfl ?_
    refine gM_M_kept C mf_M_50 d_M_differ_18 ?_
    refine x_iload_n C d_M_differ_21 rfl (k := 2) rfl ?_
    obtain ⟨hin, hf⟩ := ck_some hf
    refine aldM_14 (v := (u.2 13 x2.toNatClampNeg)) C hin rfl d_M_differ_22 ?_
    refine x_icmp_eq (tgt := 30) C d_M_differ_23 (by decide) (fun hc => ?_) (fun hc => ?_)
    · rw [if_pos hc] at hf
      refine x_iconst (v := 0) C d_M_differ_30 (by decide) ?_
      refine x_iadd C d_M_differ_31 ?_
      refine x_istore_n (lv' := [(1, .int (x1 + (0 : Int32))), (0, .ref (h 0)), (2, .int x2)]) C d_M_differ_32 rfl (by decide) rfl ?_
      refine x_iinc (v := (x2 + (1 : Int32))) (lv' := [(2, .int (x2 + (1 : Int32))), (1, .int (x1 + (0 : Int32))), (0, .ref (h 0))]) C d_M_differ_33 (k := 2) rfl rfl (by decide) rfl ?_
      refine x_goto (tgt := 4) C d_M_differ_36 (by decide) ?_
      refine x_sub (lv' := [(0, .ref (h 0)), (1, .int (x1 + (0 : Int32))), (2, .int (x2 + (1 : Int32)))]) [2, 1, 0] rfl ?_
      exact hk4 (x1 + (0 : Int32)) (x2 + (1 : Int32)) hf
    · rw [if_neg hc] at hf
      refine x_iconst (v := 1) C d_M_differ_26 (by decide) ?_
      refine x_goto (tgt := 31) C d_M_differ_27 (by decide) ?_
      refine x_iadd C d_M_differ_31 ?_
      refine x_istore_n (lv' := [(1, .int (x1 + (1 : Int32))), (0, .ref (h 0)), (2, .int x2)]) C d_M_differ_32 rfl (by decide) rfl ?_
      refine x_iinc (v := (x2 + (1 : Int32))) (lv' := [(2, .int (x2 + (1 : Int32))), (1, .int (x1 + (1 : Int32))), (0, .ref (h 0))]) C d_M_differ_33 (k := 2) rfl rfl (by decide) rfl ?_
      refine x_goto (tgt := 4) C d_M_differ_36 (by decide) ?_
      refine x_sub (lv' := [(0, .ref (h 0)), (1, .int (x1 + (1 : Int32))), (2, .int (x2 + (1 : Int32)))]) [2, 1, 0] rfl ?_
      exact hk4 (x1 + (1 : Int32)) (x2 + (1 : Int32)) hf
def l_M_differ_4 (u : PS) : Nat → Int32 → Int32 → Option (Int32)
  | 0 => fun _ _ => none
  | n + 1 => b_M_differ_4 u (l_M_differ_4 u n)
theorem wl_M_differ_4 {γ : CX} {cI cZ : ClassId} {h : Nat → Nat} {u : PS} {r0 : Int32} (C : Cx γ b_M_differ 3 (some .int) "PackagePickModel" (rk 0) [(cI, .int), (cZ, .boolean)]) (hQ : QI γ [(cI, .int), (cZ, .boolean)] (WM cI cZ h) r0 u) (n : Nat) : ∀ (x1 : Int32) (x2 : Int32), l_M_differ_4 u n x1 x2 = some r0 → AtG γ (WM cI cZ h) 3 0 0 4 [(0, .ref (h 0)), (1, .int x1), (2, .int x2)] [] u := by
  induction n with
  | zero => intro x1 x2 hf; cases hf
  | succ n ih => intro x1 x2 hf; exact w_M_differ_4 C hQ (l_M_differ_4 u n) ih x1 x2 hf
def f_M_differ (u : PS) : Option (Int32) :=
  l_M_differ_4 u NF (0 : Int32) (0 : Int32)
set_option maxRecDepth 100000 in
set_option maxHeartbeats 4000000 in
theorem w_M_differ {γ : CX} {cI cZ : ClassId} {h : Nat → Nat} {u : PS} {r0 : Int32} (C : Cx γ b_M_differ 3 (some .int) "PackagePickModel" (rk 0) [(cI, .int), (cZ, .boolean)]) (hQ : QI γ [(cI, .int), (cZ, .boolean)] (WM cI cZ h) r0 u) (hf : f_M_differ u = some r0) : AtG γ (WM cI cZ h) 3 0 0 0 [(0, .ref (h 0))] [] u := by
  unfold f_M_differ at hf
  refine x_iconst (v := 0) C d_M_differ_0 (by decide) ?_
  refine x_istore_n (lv' := [(1, .int (0 : Int32)), (0, .ref (h 0))]) C d_M_differ_1 rfl (by decide) rfl ?_
  refine x_iconst (v := 0) C d_M_differ_2 (by decide) ?_
  refine x_istore_n (lv' := [(2, .int (0 : Int32)), (1, .int (0 : Int32)), (0, .ref (h 0))]) C d_M_differ_3 rfl (by decide) rfl ?_
  refine x_sub (lv' := [(0, .ref (h 0)), (1, .int (0 : Int32)), (2, .int (0 : Int32))]) [2, 1, 0] rfl ?_
  exact wl_M_differ_4 C hQ NF (0 : Int32) (0 : Int32) hf
theorem c_M_differ {l : Launch} {D : va_G} {cI cZ : ClassId} {h : Nat → Nat} (u : PS) {r0 : Int32} (hf : f_M_differ u = some r0) : CtI l y_M_differ b_M_differ 3 (some .int) (rk 0) D [(cI, .int), (cZ, .boolean)] (WM cI cZ h) [.ref (h 0)] u r0 u := ct_ofI (by decide) (Nat.le_of_ble_eq_true rfl) (fun γ _ _ C hQ => w_M_differ C hQ hf)
-- ---- PackagePickModel.keep()I
def b_M_keep_12 (k12 : Int32 → Int32 → PS → Option (Int32 × PS)) (x1 : Int32) (x2 : Int32) (u : PS) : Option (Int32 × PS) :=
  if (7 : Int32) ≤ x2 then
    some (x1, u)
  else
    ck (inb x2 7) <|
    ck (inb x2 7) <|
    k12 x1 (x2 + (1 : Int32)) (sa u 13 x2.toNatClampNeg (u.2 12 x2.toNatClampNeg))
set_option maxRecDepth 100000 in
set_option maxHeartbeats 4000000 in
theorem w_M_keep_12 {γ : CX} {cI cZ : ClassId} {h : Nat → Nat} {r0 : Int32} {u0 : PS} (C : Cx γ b_M_keep 3 (some .int) "PackagePickModel" (rk 1) [(cI, .int), (cZ, .boolean)]) (hQ : QI γ [(cI, .int), (cZ, .boolean)] (WM cI cZ h) r0 u0) (k12 : Int32 → Int32 → PS → Option (Int32 × PS)) (hk12 : ∀ (x1 : Int32) (x2 : Int32) (u : PS), k12 x1 x2 u = some (r0, u0) → AtG γ (WM cI cZ h) 3 0 0 12 [(0, .ref (h 0)), (1, .int x1), (2, .int x2)] [] u) (x1 : Int32) (x2 : Int32) (u : PS) (hf : b_M_keep_12 k12 x1 x2 u = some (r0, u0)) : AtG γ (WM cI cZ h) 3 0 0 12 [(0, .ref (h 0)), (1, .int x1), (2, .int x2)] [] u := by
  unfold b_M_keep_12 at hf
  refine x_iload_n C d_M_keep_12 rfl (k := 2) rfl ?_
  refine x_bipush (v := 7) C d_M_keep_13 (by decide) ?_
  refine x_icmp_ge (tgt := 36) C d_M_keep_15 (by decide) (fun hc => ?_) (fun hc => ?_)
  · rw [if_pos hc] at hf
    refine x_iload_n C d_M_keep_36 rfl (k := 1) rfl ?_
    exact x_iret C hQ (Prod.mk.inj (Option.some.inj hf)).1 (Prod.mk.inj (Option.some.inj hf)).2 d_M_keep_37
  · rw [if_neg hc] at hf
    refine x_aload_n C d_M_keep_18 rfl (k := 0) rfl ?_
    refine gM_M_kept C mf_M_50 d_M_keep_19 ?_
    refine x_iload_n C d_M_keep_22 rfl (k := 2) rfl ?_
    refine x_aload_n C d_M_keep_23 rfl (k := 0) rfl ?_
    refine gM_M_told C mf_M_47 d_M_keep_24 ?_
    refine x_iload_n C d_M_keep_27 rfl (k := 2) rfl ?_
    obtain ⟨hin, hf⟩ := ck_some hf
    refine aldM_13 (v := (u.2 12 x2.toNatClampNeg)) C hin rfl d_M_keep_28 ?_
    obtain ⟨hin, hf⟩ := ck_some hf
    refine astM_14 C hin d_M_keep_29 ?_
    refine x_iinc (v := (x2 + (1 : Int32))) (lv' := [(2, .int (x2 + (1 : Int32))), (0, .ref (h 0)), (1, .int x1)]) C d_M_keep_30 (k := 2) rfl rfl (by decide) rfl ?_
    refine x_goto (tgt := 12) C d_M_keep_33 (by decide) ?_
    refine x_sub (lv' := [(0, .ref (h 0)), (1, .int x1), (2, .int (x2 + (1 : Int32)))]) [1, 2, 0] rfl ?_
    exact hk12 x1 (x2 + (1 : Int32)) (sa u 13 x2.toNatClampNeg (u.2 12 x2.toNatClampNeg)) hf
def l_M_keep_12 : Nat → Int32 → Int32 → PS → Option (Int32 × PS)
  | 0 => fun _ _ _ => none
  | n + 1 => b_M_keep_12 (l_M_keep_12 n)
theorem wl_M_keep_12 {γ : CX} {cI cZ : ClassId} {h : Nat → Nat} {r0 : Int32} {u0 : PS} (C : Cx γ b_M_keep 3 (some .int) "PackagePickModel" (rk 1) [(cI, .int), (cZ, .boolean)]) (hQ : QI γ [(cI, .int), (cZ, .boolean)] (WM cI cZ h) r0 u0) (n : Nat) : ∀ (x1 : Int32) (x2 : Int32) (u : PS), l_M_keep_12 n x1 x2 u = some (r0, u0) → AtG γ (WM cI cZ h) 3 0 0 12 [(0, .ref (h 0)), (1, .int x1), (2, .int x2)] [] u := by
  induction n with
  | zero => intro x1 x2 u hf; cases hf
  | succ n ih => intro x1 x2 u hf; exact w_M_keep_12 C hQ (l_M_keep_12 n) ih x1 x2 u hf
def f_M_keep (u : PS) : Option (Int32 × PS) :=
  (f_M_differ (si u 0 (0 : Int32))).bind fun r1 =>
  l_M_keep_12 NF r1 (0 : Int32) (si u 0 (0 : Int32))
set_option maxRecDepth 100000 in
set_option maxHeartbeats 4000000 in
theorem w_M_keep {γ : CX} {cI cZ : ClassId} {h : Nat → Nat} {r0 : Int32} {u0 : PS} (C : Cx γ b_M_keep 3 (some .int) "PackagePickModel" (rk 1) [(cI, .int), (cZ, .boolean)]) (hQ : QI γ [(cI, .int), (cZ, .boolean)] (WM cI cZ h) r0 u0) (u : PS) (hf : f_M_keep u = some (r0, u0)) : AtG γ (WM cI cZ h) 3 0 0 0 [(0, .ref (h 0))] [] u := by
  unfold f_M_keep at hf
  refine x_aload_n C d_M_keep_0 rfl (k := 0) rfl ?_
  refine x_iconst (v := 0) C d_M_keep_1 (by decide) ?_
  refine pM_M_thrown C mf_M_56 d_M_keep_2 ?_
  refine x_aload_n C d_M_keep_5 rfl (k := 0) rfl ?_
  obtain ⟨r1, hc1, hf⟩ := Option.bind_eq_some_iff.mp hf
  refine x_callIv (q0 := 0) (ci := 4) (rest := []) C (c_M_differ (si u 0 (0 : Int32)) hc1) kc_M_differ (rok (by decide) (by decide)) mm_M_127 ms_M_differ ml_M_differ rfl rfl rfl rfl (Nat.le_of_ble_eq_true rfl) d_M_keep_6 ?_
  refine x_istore_n (lv' := [(1, .int r1), (0, .ref (h 0))]) C d_M_keep_9 rfl (by decide) rfl ?_
  refine x_iconst (v := 0) C d_M_keep_10 (by decide) ?_
  refine x_istore_n (lv' := [(2, .int (0 : Int32)), (1, .int r1), (0, .ref (h 0))]) C d_M_keep_11 rfl (by decide) rfl ?_
  refine x_sub (lv' := [(0, .ref (h 0)), (1, .int r1), (2, .int (0 : Int32))]) [2, 1, 0] rfl ?_
  exact wl_M_keep_12 C hQ NF r1 (0 : Int32) (si u 0 (0 : Int32)) hf
theorem c_M_keep {l : Launch} {D : va_G} {cI cZ : ClassId} {h : Nat → Nat} (u : PS) {r0 : Int32 × PS} (hf : f_M_keep u = some r0) : CtI l y_M_keep b_M_keep 3 (some .int) (rk 1) D [(cI, .int), (cZ, .boolean)] (WM cI cZ h) [.ref (h 0)] u r0.1 r0.2 := ct_ofI (by decide) (Nat.le_of_ble_eq_true rfl) (fun γ _ _ C hQ => w_M_keep C hQ u hf)
-- ---- PackagePickModel.chosen(I)I
def f_M_chosen (a1 : Int32) (u : PS) : Option (Int32 × PS) :=
  if (f_M_isPackage a1) = 0 then
    some ((-1 : Int32), (si u 0 (0 : Int32)))
  else
    ck (inb a1 7) <|
    some ((u.2 12 a1.toNatClampNeg), (si u 0 (0 : Int32)))
set_option maxRecDepth 100000 in
set_option maxHeartbeats 4000000 in
theorem w_M_chosen {γ : CX} {cI cZ : ClassId} {h : Nat → Nat} {r0 : Int32} {u0 : PS} (C : Cx γ b_M_chosen 2 (some .int) "PackagePickModel" (rk 1) [(cI, .int), (cZ, .boolean)]) (hQ : QI γ [(cI, .int), (cZ, .boolean)] (WM cI cZ h) r0 u0) (a1 : Int32) (u : PS) (hf : f_M_chosen a1 u = some (r0, u0)) : AtG γ (WM cI cZ h) 2 0 0 0 [(0, .ref (h 0)), (1, .int a1)] [] u := by
  unfold f_M_chosen at hf
  refine x_aload_n C d_M_chosen_0 rfl (k := 0) rfl ?_
  refine x_iconst (v := 0) C d_M_chosen_1 (by decide) ?_
  refine pM_M_thrown C mf_M_56 d_M_chosen_2 ?_
  refine x_iload_n C d_M_chosen_5 rfl (k := 1) rfl ?_
  refine x_callIs (rest := []) C (c_M_isPackage a1) kc_M_isPackage (rok (by decide) (by decide)) mm_M_60 ms_M_isPackage rfl rfl (Nat.le_of_ble_eq_true rfl) d_M_chosen_6 ?_
  refine x_if_eq (tgt := 21) C d_M_chosen_9 (by decide) (fun hc => ?_) (fun hc => ?_)
  · rw [if_pos hc] at hf
    refine x_iconst (v := -1) C d_M_chosen_21 (by decide) ?_
    exact x_iret C hQ (Prod.mk.inj (Option.some.inj hf)).1 (Prod.mk.inj (Option.some.inj hf)).2 d_M_chosen_22
  · rw [if_neg hc] at hf
    refine x_aload_n C d_M_chosen_12 rfl (k := 0) rfl ?_
    refine gM_M_told C mf_M_47 d_M_chosen_13 ?_
    refine x_iload_n C d_M_chosen_16 rfl (k := 1) rfl ?_
    obtain ⟨hin, hf⟩ := ck_some hf
    refine aldM_13 (v := (u.2 12 a1.toNatClampNeg)) C hin rfl d_M_chosen_17 ?_
    refine x_goto (tgt := 22) C d_M_chosen_18 (by decide) ?_
    exact x_iret C hQ (Prod.mk.inj (Option.some.inj hf)).1 (Prod.mk.inj (Option.some.inj hf)).2 d_M_chosen_22
theorem c_M_chosen {l : Launch} {D : va_G} {cI cZ : ClassId} {h : Nat → Nat} (a1 : Int32) (u : PS) {r0 : Int32 × PS} (hf : f_M_chosen a1 u = some r0) : CtI l y_M_chosen b_M_chosen 2 (some .int) (rk 1) D [(cI, .int), (cZ, .boolean)] (WM cI cZ h) [.ref (h 0), .int a1] u r0.1 r0.2 := ct_ofI (by decide) (Nat.le_of_ble_eq_true rfl) (fun γ _ _ C hQ => w_M_chosen C hQ a1 u hf)
-- ---- PackagePickModel.many()I
def b_M_many_15 (k15 : Int32 → PS → Option (Int32 × PS)) (x1 : Int32) (u : PS) : Option (Int32 × PS) :=
  (f_M_finds u).bind fun r3 =>
  if r3.1 = 0 then
    some (x1, r3.2)
  else
    k15 (x1 + (1 : Int32)) r3.2
set_option maxRecDepth 100000 in
set_option maxHeartbeats 4000000 in
theorem w_M_many_15 {γ : CX} {cI cZ : ClassId} {h : Nat → Nat} {r0 : Int32} {u0 : PS} (C : Cx γ b_M_many 2 (some .int) "PackagePickModel" (rk 3) [(cI, .int), (cZ, .boolean)]) (hQ : QI γ [(cI, .int), (cZ, .boolean)] (WM cI cZ h) r0 u0) (k15 : Int32 → PS → Option (Int32 × PS)) (hk15 : ∀ (x1 : Int32) (u : PS), k15 x1 u = some (r0, u0) → AtG γ (WM cI cZ h) 2 0 0 15 [(0, .ref (h 0)), (1, .int x1)] [] u) (x1 : Int32) (u : PS) (hf : b_M_many_15 k15 x1 u = some (r0, u0)) : AtG γ (WM cI cZ h) 2 0 0 15 [(0, .ref (h 0)), (1, .int x1)] [] u := by
  unfold b_M_many_15 at hf
  refine x_aload_n C d_M_many_15 rfl (k := 0) rfl ?_
  obtain ⟨r3, hc3, hf⟩ := Option.bind_eq_some_iff.mp hf
  refine x_callIv (q0 := 0) (ci := 4) (rest := []) C (c_M_finds u hc3) kc_M_finds (rok (by decide) (by decide)) mm_M_115 ms_M_finds ml_M_finds rfl rfl rfl rfl (Nat.le_of_ble_eq_true rfl) d_M_many_16 ?_
  refine x_if_eq (tgt := 28) C d_M_many_19 (by decide) (fun hc => ?_) (fun hc => ?_)
  · rw [if_pos hc] at hf
    refine x_iload_n C d_M_many_28 rfl (k := 1) rfl ?_
    exact x_iret C hQ (Prod.mk.inj (Option.some.inj hf)).1 (Prod.mk.inj (Option.some.inj hf)).2 d_M_many_29
  · rw [if_neg hc] at hf
    refine x_iinc (v := (x1 + (1 : Int32))) (lv' := [(1, .int (x1 + (1 : Int32))), (0, .ref (h 0))]) C d_M_many_22 (k := 1) rfl rfl (by decide) rfl ?_
    refine x_goto (tgt := 15) C d_M_many_25 (by decide) ?_
    refine x_sub (lv' := [(0, .ref (h 0)), (1, .int (x1 + (1 : Int32)))]) [1, 0] rfl ?_
    exact hk15 (x1 + (1 : Int32)) r3.2 hf
def l_M_many_15 : Nat → Int32 → PS → Option (Int32 × PS)
  | 0 => fun _ _ => none
  | n + 1 => b_M_many_15 (l_M_many_15 n)
theorem wl_M_many_15 {γ : CX} {cI cZ : ClassId} {h : Nat → Nat} {r0 : Int32} {u0 : PS} (C : Cx γ b_M_many 2 (some .int) "PackagePickModel" (rk 3) [(cI, .int), (cZ, .boolean)]) (hQ : QI γ [(cI, .int), (cZ, .boolean)] (WM cI cZ h) r0 u0) (n : Nat) : ∀ (x1 : Int32) (u : PS), l_M_many_15 n x1 u = some (r0, u0) → AtG γ (WM cI cZ h) 2 0 0 15 [(0, .ref (h 0)), (1, .int x1)] [] u := by
  induction n with
  | zero => intro x1 u hf; cases hf
  | succ n ih => intro x1 u hf; exact w_M_many_15 C hQ (l_M_many_15 n) ih x1 u hf
def f_M_many (u : PS) : Option (Int32 × PS) :=
  (f_M_begin (f_M_all (si u 0 (0 : Int32))) (si u 0 (0 : Int32))).bind fun r2 =>
  l_M_many_15 NF (0 : Int32) r2
set_option maxRecDepth 100000 in
set_option maxHeartbeats 4000000 in
theorem w_M_many {γ : CX} {cI cZ : ClassId} {h : Nat → Nat} {r0 : Int32} {u0 : PS} (C : Cx γ b_M_many 2 (some .int) "PackagePickModel" (rk 3) [(cI, .int), (cZ, .boolean)]) (hQ : QI γ [(cI, .int), (cZ, .boolean)] (WM cI cZ h) r0 u0) (u : PS) (hf : f_M_many u = some (r0, u0)) : AtG γ (WM cI cZ h) 2 0 0 0 [(0, .ref (h 0))] [] u := by
  unfold f_M_many at hf
  refine x_aload_n C d_M_many_0 rfl (k := 0) rfl ?_
  refine x_iconst (v := 0) C d_M_many_1 (by decide) ?_
  refine pM_M_thrown C mf_M_56 d_M_many_2 ?_
  refine x_iconst (v := 0) C d_M_many_5 (by decide) ?_
  refine x_istore_n (lv' := [(1, .int (0 : Int32)), (0, .ref (h 0))]) C d_M_many_6 rfl (by decide) rfl ?_
  refine x_aload_n C d_M_many_7 rfl (k := 1) rfl ?_
  refine x_aload_n C d_M_many_8 rfl (k := 1) rfl ?_
  refine x_callIv (q0 := 0) (ci := 4) (rest := [.ref (h 0)]) C (c_M_all (si u 0 (0 : Int32))) kc_M_all (rok (by decide) (by decide)) mm_M_97 ms_M_all ml_M_all rfl rfl rfl rfl (Nat.le_of_ble_eq_true rfl) d_M_many_9 ?_
  obtain ⟨r2, hc2, hf⟩ := Option.bind_eq_some_iff.mp hf
  refine x_callVv (q0 := 0) (ci := 4) (rest := []) C (c_M_begin (f_M_all (si u 0 (0 : Int32))) (si u 0 (0 : Int32)) hc2) kc_M_begin (rok (by decide) (by decide)) mm_M_111 ms_M_begin ml_M_begin rfl rfl rfl rfl (Nat.le_of_ble_eq_true rfl) d_M_many_12 ?_
  refine x_sub (lv' := [(0, .ref (h 0)), (1, .int (0 : Int32))]) [1, 0] rfl ?_
  exact wl_M_many_15 C hQ NF (0 : Int32) r2 hf
theorem c_M_many {l : Launch} {D : va_G} {cI cZ : ClassId} {h : Nat → Nat} (u : PS) {r0 : Int32 × PS} (hf : f_M_many u = some r0) : CtI l y_M_many b_M_many 2 (some .int) (rk 3) D [(cI, .int), (cZ, .boolean)] (WM cI cZ h) [.ref (h 0)] u r0.1 r0.2 := ct_ofI (by decide) (Nat.le_of_ble_eq_true rfl) (fun γ _ _ C hQ => w_M_many C hQ u hf)
-- ---- PackagePickModel.can(I)I
def b_M_can_24 (k24 : Int32 → Int32 → PS → Option (Int32 × PS)) (x1 : Int32) (x2 : Int32) (u : PS) : Option (Int32 × PS) :=
  (f_M_finds u).bind fun r4 =>
  if r4.1 = 0 then
    some (x2, r4.2)
  else
    ck (inb x1 7) <|
    if (r4.2.2 10 x1.toNatClampNeg) = (-1 : Int32) then
      k24 x1 (x2 ||| ((1 : Int32) <<< ((4 : Int32) &&& 31))) r4.2
    else
      ck (inb x1 7) <|
      k24 x1 (x2 ||| ((1 : Int32) <<< ((r4.2.2 10 x1.toNatClampNeg) &&& 31))) r4.2
set_option maxRecDepth 100000 in
set_option maxHeartbeats 4000000 in
theorem w_M_can_24 {γ : CX} {cI cZ : ClassId} {h : Nat → Nat} {r0 : Int32} {u0 : PS} (C : Cx γ b_M_can 3 (some .int) "PackagePickModel" (rk 3) [(cI, .int), (cZ, .boolean)]) (hQ : QI γ [(cI, .int), (cZ, .boolean)] (WM cI cZ h) r0 u0) (k24 : Int32 → Int32 → PS → Option (Int32 × PS)) (hk24 : ∀ (x1 : Int32) (x2 : Int32) (u : PS), k24 x1 x2 u = some (r0, u0) → AtG γ (WM cI cZ h) 3 0 0 24 [(0, .ref (h 0)), (1, .int x1), (2, .int x2)] [] u) (x1 : Int32) (x2 : Int32) (u : PS) (hf : b_M_can_24 k24 x1 x2 u = some (r0, u0)) : AtG γ (WM cI cZ h) 3 0 0 24 [(0, .ref (h 0)), (1, .int x1), (2, .int x2)] [] u := by
  unfold b_M_can_24 at hf
  refine x_aload_n C d_M_can_24 rfl (k := 0) rfl ?_
  obtain ⟨r4, hc4, hf⟩ := Option.bind_eq_some_iff.mp hf
  refine x_callIv (q0 := 0) (ci := 4) (rest := []) C (c_M_finds u hc4) kc_M_finds (rok (by decide) (by decide)) mm_M_115 ms_M_finds ml_M_finds rfl rfl rfl rfl (Nat.le_of_ble_eq_true rfl) d_M_can_25 ?_
  refine x_if_eq (tgt := 59) C d_M_can_28 (by decide) (fun hc => ?_) (fun hc => ?_)
  · rw [if_pos hc] at hf
    refine x_iload_n C d_M_can_59 rfl (k := 2) rfl ?_
    exact x_iret C hQ (Prod.mk.inj (Option.some.inj hf)).1 (Prod.mk.inj (Option.some.inj hf)).2 d_M_can_60
  · rw [if_neg hc] at hf
    refine x_iload_n C d_M_can_31 rfl (k := 2) rfl ?_
    refine x_iconst (v := 1) C d_M_can_32 (by decide) ?_
    refine x_aload_n C d_M_can_33 rfl (k := 0) rfl ?_
    refine gM_M_pick C mf_M_41 d_M_can_34 ?_
    refine x_iload_n C d_M_can_37 rfl (k := 1) rfl ?_
    obtain ⟨hin, hf⟩ := ck_some hf
    refine aldM_11 (v := (r4.2.2 10 x1.toNatClampNeg)) C hin rfl d_M_can_38 ?_
    refine x_iconst (v := -1) C d_M_can_39 (by decide) ?_
    refine x_icmp_ne (tgt := 47) C d_M_can_40 (by decide) (fun hc => ?_) (fun hc => ?_)
    · rw [if_neg hc] at hf
      refine x_aload_n C d_M_can_47 rfl (k := 0) rfl ?_
      refine gM_M_pick C mf_M_41 d_M_can_48 ?_
      refine x_iload_n C d_M_can_51 rfl (k := 1) rfl ?_
      obtain ⟨hin, hf⟩ := ck_some hf
      refine aldM_11 (v := (r4.2.2 10 x1.toNatClampNeg)) C hin rfl d_M_can_52 ?_
      refine x_ishl C d_M_can_53 ?_
      refine x_ior C d_M_can_54 ?_
      refine x_istore_n (lv' := [(2, .int (x2 ||| ((1 : Int32) <<< ((r4.2.2 10 x1.toNatClampNeg) &&& 31)))), (0, .ref (h 0)), (1, .int x1)]) C d_M_can_55 rfl (by decide) rfl ?_
      refine x_goto (tgt := 24) C d_M_can_56 (by decide) ?_
      refine x_sub (lv' := [(0, .ref (h 0)), (1, .int x1), (2, .int (x2 ||| ((1 : Int32) <<< ((r4.2.2 10 x1.toNatClampNeg) &&& 31))))]) [1, 2, 0] rfl ?_
      exact hk24 x1 (x2 ||| ((1 : Int32) <<< ((r4.2.2 10 x1.toNatClampNeg) &&& 31))) r4.2 hf
    · rw [if_pos hc] at hf
      refine x_iconst (v := 4) C d_M_can_43 (by decide) ?_
      refine x_goto (tgt := 53) C d_M_can_44 (by decide) ?_
      refine x_ishl C d_M_can_53 ?_
      refine x_ior C d_M_can_54 ?_
      refine x_istore_n (lv' := [(2, .int (x2 ||| ((1 : Int32) <<< ((4 : Int32) &&& 31)))), (0, .ref (h 0)), (1, .int x1)]) C d_M_can_55 rfl (by decide) rfl ?_
      refine x_goto (tgt := 24) C d_M_can_56 (by decide) ?_
      refine x_sub (lv' := [(0, .ref (h 0)), (1, .int x1), (2, .int (x2 ||| ((1 : Int32) <<< ((4 : Int32) &&& 31))))]) [1, 2, 0] rfl ?_
      exact hk24 x1 (x2 ||| ((1 : Int32) <<< ((4 : Int32) &&& 31))) r4.2 hf
def l_M_can_24 : Nat → Int32 → Int32 → PS → Option (Int32 × PS)
  | 0 => fun _ _ _ => none
  | n + 1 => b_M_can_24 (l_M_can_24 n)
theorem wl_M_can_24 {γ : CX} {cI cZ : ClassId} {h : Nat → Nat} {r0 : Int32} {u0 : PS} (C : Cx γ b_M_can 3 (some .int) "PackagePickModel" (rk 3) [(cI, .int), (cZ, .boolean)]) (hQ : QI γ [(cI, .int), (cZ, .boolean)] (WM cI cZ h) r0 u0) (n : Nat) : ∀ (x1 : Int32) (x2 : Int32) (u : PS), l_M_can_24 n x1 x2 u = some (r0, u0) → AtG γ (WM cI cZ h) 3 0 0 24 [(0, .ref (h 0)), (1, .int x1), (2, .int x2)] [] u := by
  induction n with
  | zero => intro x1 x2 u hf; cases hf
  | succ n ih => intro x1 x2 u hf; exact w_M_can_24 C hQ (l_M_can_24 n) ih x1 x2 u hf
def f_M_can (a1 : Int32) (u : PS) : Option (Int32 × PS) :=
  if (f_M_isPackage a1) = 0 then
    some ((-1 : Int32), (si u 0 (0 : Int32)))
  else
    (f_M_begin (f_M_all (si u 0 (0 : Int32))) (si u 0 (0 : Int32))).bind fun r3 =>
    l_M_can_24 NF a1 (0 : Int32) r3
set_option maxRecDepth 100000 in
set_option maxHeartbeats 4000000 in
theorem w_M_can {γ : CX} {cI cZ : ClassId} {h : Nat → Nat} {r0 : Int32} {u0 : PS} (C : Cx γ b_M_can 3 (some .int) "PackagePickModel" (rk 3) [(cI, .int), (cZ, .boolean)]) (hQ : QI γ [(cI, .int), (cZ, .boolean)] (WM cI cZ h) r0 u0) (a1 : Int32) (u : PS) (hf : f_M_can a1 u = some (r0, u0)) : AtG γ (WM cI cZ h) 3 0 0 0 [(0, .ref (h 0)), (1, .int a1)] [] u := by
  unfold f_M_can at hf
  refine x_aload_n C d_M_can_0 rfl (k := 0) rfl ?_
  refine x_iconst (v := 0) C d_M_can_1 (by decide) ?_
  refine pM_M_thrown C mf_M_56 d_M_can_2 ?_
  refine x_iload_n C d_M_can_5 rfl (k := 1) rfl ?_
  refine x_callIs (rest := []) C (c_M_isPackage a1) kc_M_isPackage (rok (by decide) (by decide)) mm_M_60 ms_M_isPackage rfl rfl (Nat.le_of_ble_eq_true rfl) d_M_can_6 ?_
  refine x_if_ne (tgt := 14) C d_M_can_9 (by decide) (fun hc => ?_) (fun hc => ?_)
  · rw [if_neg hc] at hf
    refine x_iconst (v := 0) C d_M_can_14 (by decide) ?_
    refine x_istore_n (lv' := [(2, .int (0 : Int32)), (0, .ref (h 0)), (1, .int a1)]) C d_M_can_15 rfl (by decide) rfl ?_
    refine x_aload_n C d_M_can_16 rfl (k := 1) rfl ?_
    refine x_aload_n C d_M_can_17 rfl (k := 1) rfl ?_
    refine x_callIv (q0 := 0) (ci := 4) (rest := [.ref (h 0)]) C (c_M_all (si u 0 (0 : Int32))) kc_M_all (rok (by decide) (by decide)) mm_M_97 ms_M_all ml_M_all rfl rfl rfl rfl (Nat.le_of_ble_eq_true rfl) d_M_can_18 ?_
    obtain ⟨r3, hc3, hf⟩ := Option.bind_eq_some_iff.mp hf
    refine x_callVv (q0 := 0) (ci := 4) (rest := []) C (c_M_begin (f_M_all (si u 0 (0 : Int32))) (si u 0 (0 : Int32)) hc3) kc_M_begin (rok (by decide) (by decide)) mm_M_111 ms_M_begin ml_M_begin rfl rfl rfl rfl (Nat.le_of_ble_eq_true rfl) d_M_can_21 ?_
    refine x_sub (lv' := [(0, .ref (h 0)), (1, .int a1), (2, .int (0 : Int32))]) [1, 2, 0] rfl ?_
    exact wl_M_can_24 C hQ NF a1 (0 : Int32) r3 hf
  · rw [if_pos hc] at hf
    refine x_iconst (v := -1) C d_M_can_12 (by decide) ?_
    exact x_iret C hQ (Prod.mk.inj (Option.some.inj hf)).1 (Prod.mk.inj (Option.some.inj hf)).2 d_M_can_13
theorem c_M_can {l : Launch} {D : va_G} {cI cZ : ClassId} {h : Nat → Nat} (a1 : Int32) (u : PS) {r0 : Int32 × PS} (hf : f_M_can a1 u = some r0) : CtI l y_M_can b_M_can 3 (some .int) (rk 3) D [(cI, .int), (cZ, .boolean)] (WM cI cZ h) [.ref (h 0), .int a1] u r0.1 r0.2 := ct_ofI (by decide) (Nat.le_of_ble_eq_true rfl) (fun γ _ _ C hQ => w_M_can C hQ a1 u hf)
-- ---- PackagePickModel.core(I)I
def b_M_core_58 (x2 : Int32) (t0 : Int32) (u : PS) : Option (Int32 × PS) :=
  if t0 ≤ 0 then
    some (x2, (si u 0 t0))
  else
    some ((0 : Int32), (si u 0 t0))
set_option maxRecDepth 100000 in
set_option maxHeartbeats 4000000 in
theorem w_M_core_58 {γ : CX} {cI cZ : ClassId} {h : Nat → Nat} {r0 : Int32} {u0 : PS} (C : Cx γ b_M_core 4 (some .int) "PackagePickModel" (rk 0) [(cI, .int), (cZ, .boolean)]) (hQ : QI γ [(cI, .int), (cZ, .boolean)] (WM cI cZ h) r0 u0) (x2 : Int32) (t0 : Int32) (u : PS) (hf : b_M_core_58 x2 t0 u = some (r0, u0)) : AtG γ (WM cI cZ h) 4 0 0 58 [(0, .ref (h 0)), (2, .int x2)] [.int t0, .ref (h 0)] u := by
  unfold b_M_core_58 at hf
  refine pM_M_thrown C mf_M_56 d_M_core_58 ?_
  refine x_aload_n C d_M_core_61 rfl (k := 0) rfl ?_
  refine gM_M_thrown (v := t0) C mf_M_56 rfl d_M_core_62 ?_
  refine x_if_le (tgt := 72) C d_M_core_65 (by decide) (fun hc => ?_) (fun hc => ?_)
  · rw [if_pos hc] at hf
    refine x_iload_n C d_M_core_72 rfl (k := 1) rfl ?_
    exact x_iret C hQ (Prod.mk.inj (Option.some.inj hf)).1 (Prod.mk.inj (Option.some.inj hf)).2 d_M_core_73
  · rw [if_neg hc] at hf
    refine x_iconst (v := 0) C d_M_core_68 (by decide) ?_
    refine x_goto (tgt := 73) C d_M_core_69 (by decide) ?_
    exact x_iret C hQ (Prod.mk.inj (Option.some.inj hf)).1 (Prod.mk.inj (Option.some.inj hf)).2 d_M_core_73
def b_M_core_42 (x1 : Int32) (x2 : Int32) (u : PS) : Option (Int32 × PS) :=
  if x1 < 0 then
    b_M_core_58 x2 (1 : Int32) u
  else
    if x2 = (6 : Int32) then
      b_M_core_58 x2 (1 : Int32) u
    else
      b_M_core_58 x2 (0 : Int32) u
set_option maxRecDepth 100000 in
set_option maxHeartbeats 4000000 in
theorem w_M_core_42 {γ : CX} {cI cZ : ClassId} {h : Nat → Nat} {r0 : Int32} {u0 : PS} (C : Cx γ b_M_core 4 (some .int) "PackagePickModel" (rk 0) [(cI, .int), (cZ, .boolean)]) (hQ : QI γ [(cI, .int), (cZ, .boolean)] (WM cI cZ h) r0 u0) (x1 : Int32) (x2 : Int32) (u : PS) (hf : b_M_core_42 x1 x2 u = some (r0, u0)) : AtG γ (WM cI cZ h) 4 0 0 42 [(0, .ref (h 0)), (1, .int x1), (2, .int x2)] [] u := by
  unfold b_M_core_42 at hf
  refine x_aload_n C d_M_core_42 rfl (k := 0) rfl ?_
  refine x_iload_n C d_M_core_43 rfl (k := 1) rfl ?_
  refine x_if_lt (tgt := 53) C d_M_core_44 (by decide) (fun hc => ?_) (fun hc => ?_)
  · rw [if_pos hc] at hf
    refine x_iconst (v := 1) C d_M_core_53 (by decide) ?_
    refine x_goto (tgt := 58) C d_M_core_54 (by decide) ?_
    refine x_sub (lv' := [(0, .ref (h 0)), (2, .int x2)]) [0, 2] rfl ?_
    exact w_M_core_58 C hQ x2 (1 : Int32) u hf
  · rw [if_neg hc] at hf
    refine x_iload_n C d_M_core_47 rfl (k := 2) rfl ?_
    refine x_bipush (v := 6) C d_M_core_48 (by decide) ?_
    refine x_icmp_ne (tgt := 57) C d_M_core_50 (by decide) (fun hc => ?_) (fun hc => ?_)
    · rw [if_neg hc] at hf
      refine x_iconst (v := 0) C d_M_core_57 (by decide) ?_
      refine x_sub (lv' := [(0, .ref (h 0)), (2, .int x2)]) [0, 2] rfl ?_
      exact w_M_core_58 C hQ x2 (0 : Int32) u hf
    · rw [if_pos hc] at hf
      refine x_iconst (v := 1) C d_M_core_53 (by decide) ?_
      refine x_goto (tgt := 58) C d_M_core_54 (by decide) ?_
      refine x_sub (lv' := [(0, .ref (h 0)), (2, .int x2)]) [0, 2] rfl ?_
      exact w_M_core_58 C hQ x2 (1 : Int32) u hf
def b_M_core_25 (k4 : Int32 → Int32 → Int32 → PS → Option (Int32 × PS)) (x1 : Int32) (x2 : Int32) (x3 : Int32) (u : PS) : Option (Int32 × PS) :=
  k4 x1 (x2 + (1 : Int32)) (x3 - (((u.1 5) >>> (x2 &&& 31)) &&& (1 : Int32))) u
set_option maxRecDepth 100000 in
set_option maxHeartbeats 4000000 in
theorem w_M_core_25 {γ : CX} {cI cZ : ClassId} {h : Nat → Nat} {r0 : Int32} {u0 : PS} (C : Cx γ b_M_core 4 (some .int) "PackagePickModel" (rk 0) [(cI, .int), (cZ, .boolean)]) (hQ : QI γ [(cI, .int), (cZ, .boolean)] (WM cI cZ h) r0 u0) (k4 : Int32 → Int32 → Int32 → PS → Option (Int32 × PS)) (hk4 : ∀ (x1 : Int32) (x2 : Int32) (x3 : Int32) (u : PS), k4 x1 x2 x3 u = some (r0, u0) → AtG γ (WM cI cZ h) 4 0 0 4 [(0, .ref (h 0)), (1, .int x1), (2, .int x2), (3, .int x3)] [] u) (x1 : Int32) (x2 : Int32) (x3 : Int32) (u : PS) (hf : b_M_core_25 k4 x1 x2 x3 u = some (r0, u0)) : AtG γ (WM cI cZ h) 4 0 0 25 [(0, .ref (h 0)), (1, .int x1), (2, .int x2), (3, .int x3)] [] u := by
  unfold b_M_core_25 at hf
  refine x_iload_n C d_M_core_25 rfl (k := 3) rfl ?_
  refine x_aload_n C d_M_core_26 rfl (k := 0) rfl ?_
  refine gM_M_coreMask (v := (u.1 5)) C mf_M_101 rfl d_M_core_27 ?_
  refine x_iload_n C d_M_core_30 rfl (k := 2) rfl ?_
  refine x_ishr C d_M_core_31 ?_
  refine x_iconst (v := 1) C d_M_core_32 (by decide) ?_
  refine x_iand C d_M_core_33 ?_
  refine x_isub C d_M_core_34 ?_
  refine x_istore_n (lv' := [(3, .int (x3 - (((u.1 5) >>> (x2 &&& 31)) &&& (1 : Int32)))), (0, .ref (h 0)), (1, .int x1), (2, .int x2)]) C d_M_core_35 rfl (by decide) rfl ?_
  refine x_iinc (v := (x2 + (1 : Int32))) (lv' := [(2, .int (x2 + (1 : Int32))), (3, .int (x3 - (((u.1 5) >>> (x2 &&& 31)) &&& (1 : Int32)))), (0, .ref (h 0)), (1, .int x1)]) C d_M_core_36 (k := 3) rfl rfl (by decide) rfl ?_
  refine x_goto (tgt := 4) C d_M_core_39 (by decide) ?_
  refine x_sub (lv' := [(0, .ref (h 0)), (1, .int x1), (2, .int (x2 + (1 : Int32))), (3, .int (x3 - (((u.1 5) >>> (x2 &&& 31)) &&& (1 : Int32))))]) [2, 3, 0, 1] rfl ?_
  exact hk4 x1 (x2 + (1 : Int32)) (x3 - (((u.1 5) >>> (x2 &&& 31)) &&& (1 : Int32))) u hf
def b_M_core_4 (k4 : Int32 → Int32 → Int32 → PS → Option (Int32 × PS)) (x1 : Int32) (x2 : Int32) (x3 : Int32) (u : PS) : Option (Int32 × PS) :=
  if (6 : Int32) ≤ x2 then
    b_M_core_42 x1 x2 u
  else
    if 0 < x3 then
      b_M_core_25 k4 x1 x2 x3 u
    else
      if (((u.1 5) >>> (x2 &&& 31)) &&& (1 : Int32)) = 0 then
        b_M_core_25 k4 x1 x2 x3 u
      else
        b_M_core_42 x1 x2 u
set_option maxRecDepth 100000 in
set_option maxHeartbeats 4000000 in
theorem w_M_core_4 {γ : CX} {cI cZ : ClassId} {h : Nat → Nat} {r0 : Int32} {u0 : PS} (C : Cx γ b_M_core 4 (some .int) "PackagePickModel" (rk 0) [(cI, .int), (cZ, .boolean)]) (hQ : QI γ [(cI, .int), (cZ, .boolean)] (WM cI cZ h) r0 u0) (k4 : Int32 → Int32 → Int32 → PS → Option (Int32 × PS)) (hk4 : ∀ (x1 : Int32) (x2 : Int32) (x3 : Int32) (u : PS), k4 x1 x2 x3 u = some (r0, u0) → AtG γ (WM cI cZ h) 4 0 0 4 [(0, .ref (h 0)), (1, .int x1), (2, .int x2), (3, .int x3)] [] u) (x1 : Int32) (x2 : Int32) (x3 : Int32) (u : PS) (hf : b_M_core_4 k4 x1 x2 x3 u = some (r0, u0)) : AtG γ (WM cI cZ h) 4 0 0 4 [(0, .ref (h 0)), (1, .int x1), (2, .int x2), (3, .int x3)] [] u := by
  unfold b_M_core_4 at hf
  refine x_iload_n C d_M_core_4 rfl (k := 2) rfl ?_
  refine x_bipush (v := 6) C d_M_core_5 (by decide) ?_
  refine x_icmp_ge (tgt := 42) C d_M_core_7 (by decide) (fun hc => ?_) (fun hc => ?_)
  · rw [if_pos hc] at hf
    refine x_sub (lv' := [(0, .ref (h 0)), (1, .int x1), (2, .int x2)]) [0, 1, 2] rfl ?_
    exact w_M_core_42 C hQ x1 x2 u hf
  · rw [if_neg hc] at hf
    refine x_iload_n C d_M_core_10 rfl (k := 3) rfl ?_
    refine x_if_gt (tgt := 25) C d_M_core_11 (by decide) (fun hc => ?_) (fun hc => ?_)
    · rw [if_pos hc] at hf
      exact w_M_core_25 C hQ k4 hk4 x1 x2 x3 u hf
    · rw [if_neg hc] at hf
      refine x_aload_n C d_M_core_14 rfl (k := 0) rfl ?_
      refine gM_M_coreMask (v := (u.1 5)) C mf_M_101 rfl d_M_core_15 ?_
      refine x_iload_n C d_M_core_18 rfl (k := 2) rfl ?_
      refine x_ishr C d_M_core_19 ?_
      refine x_iconst (v := 1) C d_M_core_20 (by decide) ?_
      refine x_iand C d_M_core_21 ?_
      refine x_if_ne (tgt := 42) C d_M_core_22 (by decide) (fun hc => ?_) (fun hc => ?_)
      · rw [if_neg hc] at hf
        refine x_sub (lv' := [(0, .ref (h 0)), (1, .int x1), (2, .int x2)]) [0, 1, 2] rfl ?_
        exact w_M_core_42 C hQ x1 x2 u hf
      · rw [if_pos hc] at hf
        exact w_M_core_25 C hQ k4 hk4 x1 x2 x3 u hf
def l_M_core_4 : Nat → Int32 → Int32 → Int32 → PS → Option (Int32 × PS)
  | 0 => fun _ _ _ _ => none
  | n + 1 => b_M_core_4 (l_M_core_4 n)
theorem wl_M_core_4 {γ : CX} {cI cZ : ClassId} {h : Nat → Nat} {r0 : Int32} {u0 : PS} (C : Cx γ b_M_core 4 (some .int) "PackagePickModel" (rk 0) [(cI, .int), (cZ, .boolean)]) (hQ : QI γ [(cI, .int), (cZ, .boolean)] (WM cI cZ h) r0 u0) (n : Nat) : ∀ (x1 : Int32) (x2 : Int32) (x3 : Int32) (u : PS), l_M_core_4 n x1 x2 x3 u = some (r0, u0) → AtG γ (WM cI cZ h) 4 0 0 4 [(0, .ref (h 0)), (1, .int x1), (2, .int x2), (3, .int x3)] [] u := by
  induction n with
  | zero => intro x1 x2 x3 u hf; cases hf
  | succ n ih => intro x1 x2 x3 u hf; exact w_M_core_4 C hQ (l_M_core_4 n) ih x1 x2 x3 u hf
def f_M_core (a1 : Int32) (u : PS) : Option (Int32 × PS) :=
  l_M_core_4 NF a1 (0 : Int32) a1 u
set_option maxRecDepth 100000 in
set_option maxHeartbeats 4000000 in
theorem w_M_core {γ : CX} {cI cZ : ClassId} {h : Nat → Nat} {r0 : Int32} {u0 : PS} (C : Cx γ b_M_core 4 (some .int) "PackagePickModel" (rk 0) [(cI, .int), (cZ, .boolean)]) (hQ : QI γ [(cI, .int), (cZ, .boolean)] (WM cI cZ h) r0 u0) (a1 : Int32) (u : PS) (hf : f_M_core a1 u = some (r0, u0)) : AtG γ (WM cI cZ h) 4 0 0 0 [(0, .ref (h 0)), (1, .int a1)] [] u := by
  unfold f_M_core at hf
  refine x_iconst (v := 0) C d_M_core_0 (by decide) ?_
  refine x_istore_n (lv' := [(2, .int (0 : Int32)), (0, .ref (h 0)), (1, .int a1)]) C d_M_core_1 rfl (by decide) rfl ?_
  refine x_iload_n C d_M_core_2 rfl (k := 2) rfl ?_
  refine x_istore_n (lv' := [(3, .int a1), (2, .int (0 : Int32)), (0, .ref (h 0)), (1, .int a1)]) C d_M_core_3 rfl (by decide) rfl ?_
  refine x_sub (lv' := [(0, .ref (h 0)), (1, .int a1), (2, .int (0 : Int32)), (3, .int a1)]) [2, 3, 1, 0] rfl ?_
  exact wl_M_core_4 C hQ NF a1 (0 : Int32) a1 u hf
theorem c_M_core {l : Launch} {D : va_G} {cI cZ : ClassId} {h : Nat → Nat} (a1 : Int32) (u : PS) {r0 : Int32 × PS} (hf : f_M_core a1 u = some r0) : CtI l y_M_core b_M_core 4 (some .int) (rk 0) D [(cI, .int), (cZ, .boolean)] (WM cI cZ h) [.ref (h 0), .int a1] u r0.1 r0.2 := ct_ofI (by decide) (Nat.le_of_ble_eq_true rfl) (fun γ _ _ C hQ => w_M_core C hQ a1 u hf)
-- ---- PackagePickModel.count(I)I
def b_M_count_54 (k54 : Int32 → Int32 → PS → Option (Int32 × PS)) (x2 : Int32) (x3 : Int32) (u : PS) : Option (Int32 × PS) :=
  if (28 : Int32) ≤ x3 then
    some (x2, u)
  else
    ck (inb x3 28) <|
    if (u.2 0 x3.toNatClampNeg) = 0 then
      k54 (x2 + (0 : Int32)) (x3 + (1 : Int32)) u
    else
      k54 (x2 + (1 : Int32)) (x3 + (1 : Int32)) u
set_option maxRecDepth 100000 in
set_option maxHeartbeats 4000000 in
theorem w_M_count_54 {γ : CX} {cI cZ : ClassId} {h : Nat → Nat} {r0 : Int32} {u0 : PS} (C : Cx γ b_M_count 4 (some .int) "PackagePickModel" (rk 1) [(cI, .int), (cZ, .boolean)]) (hQ : QI γ [(cI, .int), (cZ, .boolean)] (WM cI cZ h) r0 u0) (k54 : Int32 → Int32 → PS → Option (Int32 × PS)) (hk54 : ∀ (x2 : Int32) (x3 : Int32) (u : PS), k54 x2 x3 u = some (r0, u0) → AtG γ (WM cI cZ h) 4 0 0 54 [(0, .ref (h 0)), (2, .int x2), (3, .int x3)] [] u) (x2 : Int32) (x3 : Int32) (u : PS) (hf : b_M_count_54 k54 x2 x3 u = some (r0, u0)) : AtG γ (WM cI cZ h) 4 0 0 54 [(0, .ref (h 0)), (2, .int x2), (3, .int x3)] [] u := by
  unfold b_M_count_54 at hf
  refine x_iload_n C d_M_count_54 rfl (k := 2) rfl ?_
  refine x_bipush (v := 28) C d_M_count_55 (by decide) ?_
  refine x_icmp_ge (tgt := 83) C d_M_count_57 (by decide) (fun hc => ?_) (fun hc => ?_)
  · rw [if_pos hc] at hf
    refine x_iload_n C d_M_count_83 rfl (k := 1) rfl ?_
    exact x_iret C hQ (Prod.mk.inj (Option.some.inj hf)).1 (Prod.mk.inj (Option.some.inj hf)).2 d_M_count_84
  · rw [if_neg hc] at hf
    refine x_iload_n C d_M_count_60 rfl (k := 1) rfl ?_
    refine x_aload_n C d_M_count_61 rfl (k := 0) rfl ?_
    refine gM_M_there C mf_M_7 d_M_count_62 ?_
    refine x_iload_n C d_M_count_65 rfl (k := 2) rfl ?_
    obtain ⟨hin, hf⟩ := ck_some hf
    refine aldM_1 (v := (u.2 0 x3.toNatClampNeg)) C hin rfl d_M_count_66 ?_
    refine x_if_eq (tgt := 74) C d_M_count_67 (by decide) (fun hc => ?_) (fun hc => ?_)
    · rw [if_pos hc] at hf
      refine x_iconst (v := 0) C d_M_count_74 (by decide) ?_
      refine x_iadd C d_M_count_75 ?_
      refine x_istore_n (lv' := [(2, .int (x2 + (0 : Int32))), (0, .ref (h 0)), (3, .int x3)]) C d_M_count_76 rfl (by decide) rfl ?_
      refine x_iinc (v := (x3 + (1 : Int32))) (lv' := [(3, .int (x3 + (1 : Int32))), (2, .int (x2 + (0 : Int32))), (0, .ref (h 0))]) C d_M_count_77 (k := 2) rfl rfl (by decide) rfl ?_
      refine x_goto (tgt := 54) C d_M_count_80 (by decide) ?_
      refine x_sub (lv' := [(0, .ref (h 0)), (2, .int (x2 + (0 : Int32))), (3, .int (x3 + (1 : Int32)))]) [2, 1, 0] rfl ?_
      exact hk54 (x2 + (0 : Int32)) (x3 + (1 : Int32)) u hf
    · rw [if_neg hc] at hf
      refine x_iconst (v := 1) C d_M_count_70 (by decide) ?_
      refine x_goto (tgt := 75) C d_M_count_71 (by decide) ?_
      refine x_iadd C d_M_count_75 ?_
      refine x_istore_n (lv' := [(2, .int (x2 + (1 : Int32))), (0, .ref (h 0)), (3, .int x3)]) C d_M_count_76 rfl (by decide) rfl ?_
      refine x_iinc (v := (x3 + (1 : Int32))) (lv' := [(3, .int (x3 + (1 : Int32))), (2, .int (x2 + (1 : Int32))), (0, .ref (h 0))]) C d_M_count_77 (k := 2) rfl rfl (by decide) rfl ?_
      refine x_goto (tgt := 54) C d_M_count_80 (by decide) ?_
      refine x_sub (lv' := [(0, .ref (h 0)), (2, .int (x2 + (1 : Int32))), (3, .int (x3 + (1 : Int32)))]) [2, 1, 0] rfl ?_
      exact hk54 (x2 + (1 : Int32)) (x3 + (1 : Int32)) u hf
def l_M_count_54 : Nat → Int32 → Int32 → PS → Option (Int32 × PS)
  | 0 => fun _ _ _ => none
  | n + 1 => b_M_count_54 (l_M_count_54 n)
theorem wl_M_count_54 {γ : CX} {cI cZ : ClassId} {h : Nat → Nat} {r0 : Int32} {u0 : PS} (C : Cx γ b_M_count 4 (some .int) "PackagePickModel" (rk 1) [(cI, .int), (cZ, .boolean)]) (hQ : QI γ [(cI, .int), (cZ, .boolean)] (WM cI cZ h) r0 u0) (n : Nat) : ∀ (x2 : Int32) (x3 : Int32) (u : PS), l_M_count_54 n x2 x3 u = some (r0, u0) → AtG γ (WM cI cZ h) 4 0 0 54 [(0, .ref (h 0)), (2, .int x2), (3, .int x3)] [] u := by
  induction n with
  | zero => intro x2 x3 u hf; cases hf
  | succ n ih => intro x2 x3 u hf; exact w_M_count_54 C hQ (l_M_count_54 n) ih x2 x3 u hf
def b_M_count_87 (k87 : Int32 → Int32 → PS → Option (Int32 × PS)) (x2 : Int32) (x3 : Int32) (u : PS) : Option (Int32 × PS) :=
  if (28 : Int32) ≤ x3 then
    some (x2, u)
  else
    ck (inb x3 28) <|
    k87 (x2 + (u.2 1 x3.toNatClampNeg)) (x3 + (1 : Int32)) u
set_option maxRecDepth 100000 in
set_option maxHeartbeats 4000000 in
theorem w_M_count_87 {γ : CX} {cI cZ : ClassId} {h : Nat → Nat} {r0 : Int32} {u0 : PS} (C : Cx γ b_M_count 4 (some .int) "PackagePickModel" (rk 1) [(cI, .int), (cZ, .boolean)]) (hQ : QI γ [(cI, .int), (cZ, .boolean)] (WM cI cZ h) r0 u0) (k87 : Int32 → Int32 → PS → Option (Int32 × PS)) (hk87 : ∀ (x2 : Int32) (x3 : Int32) (u : PS), k87 x2 x3 u = some (r0, u0) → AtG γ (WM cI cZ h) 4 0 0 87 [(0, .ref (h 0)), (2, .int x2), (3, .int x3)] [] u) (x2 : Int32) (x3 : Int32) (u : PS) (hf : b_M_count_87 k87 x2 x3 u = some (r0, u0)) : AtG γ (WM cI cZ h) 4 0 0 87 [(0, .ref (h 0)), (2, .int x2), (3, .int x3)] [] u := by
  unfold b_M_count_87 at hf
  refine x_iload_n C d_M_count_87 rfl (k := 2) rfl ?_
  refine x_bipush (v := 28) C d_M_count_88 (by decide) ?_
  refine x_icmp_ge (tgt := 108) C d_M_count_90 (by decide) (fun hc => ?_) (fun hc => ?_)
  · rw [if_pos hc] at hf
    refine x_iload_n C d_M_count_108 rfl (k := 1) rfl ?_
    exact x_iret C hQ (Prod.mk.inj (Option.some.inj hf)).1 (Prod.mk.inj (Option.some.inj hf)).2 d_M_count_109
  · rw [if_neg hc] at hf
    refine x_iload_n C d_M_count_93 rfl (k := 1) rfl ?_
    refine x_aload_n C d_M_count_94 rfl (k := 0) rfl ?_
    refine gM_M_needs C mf_M_13 d_M_count_95 ?_
    refine x_iload_n C d_M_count_98 rfl (k := 2) rfl ?_
    obtain ⟨hin, hf⟩ := ck_some hf
    refine aldM_2 (v := (u.2 1 x3.toNatClampNeg)) C hin rfl d_M_count_99 ?_
    refine x_iadd C d_M_count_100 ?_
    refine x_istore_n (lv' := [(2, .int (x2 + (u.2 1 x3.toNatClampNeg))), (0, .ref (h 0)), (3, .int x3)]) C d_M_count_101 rfl (by decide) rfl ?_
    refine x_iinc (v := (x3 + (1 : Int32))) (lv' := [(3, .int (x3 + (1 : Int32))), (2, .int (x2 + (u.2 1 x3.toNatClampNeg))), (0, .ref (h 0))]) C d_M_count_102 (k := 2) rfl rfl (by decide) rfl ?_
    refine x_goto (tgt := 87) C d_M_count_105 (by decide) ?_
    refine x_sub (lv' := [(0, .ref (h 0)), (2, .int (x2 + (u.2 1 x3.toNatClampNeg))), (3, .int (x3 + (1 : Int32)))]) [2, 1, 0] rfl ?_
    exact hk87 (x2 + (u.2 1 x3.toNatClampNeg)) (x3 + (1 : Int32)) u hf
def l_M_count_87 : Nat → Int32 → Int32 → PS → Option (Int32 × PS)
  | 0 => fun _ _ _ => none
  | n + 1 => b_M_count_87 (l_M_count_87 n)
theorem wl_M_count_87 {γ : CX} {cI cZ : ClassId} {h : Nat → Nat} {r0 : Int32} {u0 : PS} (C : Cx γ b_M_count 4 (some .int) "PackagePickModel" (rk 1) [(cI, .int), (cZ, .boolean)]) (hQ : QI γ [(cI, .int), (cZ, .boolean)] (WM cI cZ h) r0 u0) (n : Nat) : ∀ (x2 : Int32) (x3 : Int32) (u : PS), l_M_count_87 n x2 x3 u = some (r0, u0) → AtG γ (WM cI cZ h) 4 0 0 87 [(0, .ref (h 0)), (2, .int x2), (3, .int x3)] [] u := by
  induction n with
  | zero => intro x2 x3 u hf; cases hf
  | succ n ih => intro x2 x3 u hf; exact w_M_count_87 C hQ (l_M_count_87 n) ih x2 x3 u hf
def b_M_count_122 (k122 : Int32 → Int32 → PS → Option (Int32 × PS)) (x2 : Int32) (x3 : Int32) (u : PS) : Option (Int32 × PS) :=
  if (7 : Int32) ≤ x3 then
    some (x2, u)
  else
    ck (inb x3 7) <|
    if (u.2 12 x3.toNatClampNeg) = (-1 : Int32) then
      k122 (x2 + (0 : Int32)) (x3 + (1 : Int32)) u
    else
      k122 (x2 + (1 : Int32)) (x3 + (1 : Int32)) u
set_option maxRecDepth 100000 in
set_option maxHeartbeats 4000000 in
theorem w_M_count_122 {γ : CX} {cI cZ : ClassId} {h : Nat → Nat} {r0 : Int32} {u0 : PS} (C : Cx γ b_M_count 4 (some .int) "PackagePickModel" (rk 1) [(cI, .int), (cZ, .boolean)]) (hQ : QI γ [(cI, .int), (cZ, .boolean)] (WM cI cZ h) r0 u0) (k122 : Int32 → Int32 → PS → Option (Int32 × PS)) (hk122 : ∀ (x2 : Int32) (x3 : Int32) (u : PS), k122 x2 x3 u = some (r0, u0) → AtG γ (WM cI cZ h) 4 0 0 122 [(0, .ref (h 0)), (2, .int x2), (3, .int x3)] [] u) (x2 : Int32) (x3 : Int32) (u : PS) (hf : b_M_count_122 k122 x2 x3 u = some (r0, u0)) : AtG γ (WM cI cZ h) 4 0 0 122 [(0, .ref (h 0)), (2, .int x2), (3, .int x3)] [] u := by
  unfold b_M_count_122 at hf
  refine x_iload_n C d_M_count_122 rfl (k := 2) rfl ?_
  refine x_bipush (v := 7) C d_M_count_123 (by decide) ?_
  refine x_icmp_ge (tgt := 152) C d_M_count_125 (by decide) (fun hc => ?_) (fun hc => ?_)
  · rw [if_pos hc] at hf
    refine x_iload_n C d_M_count_152 rfl (k := 1) rfl ?_
    exact x_iret C hQ (Prod.mk.inj (Option.some.inj hf)).1 (Prod.mk.inj (Option.some.inj hf)).2 d_M_count_153
  · rw [if_neg hc] at hf
    refine x_iload_n C d_M_count_128 rfl (k := 1) rfl ?_
    refine x_aload_n C d_M_count_129 rfl (k := 0) rfl ?_
    refine gM_M_told C mf_M_47 d_M_count_130 ?_
    refine x_iload_n C d_M_count_133 rfl (k := 2) rfl ?_
    obtain ⟨hin, hf⟩ := ck_some hf
    refine aldM_13 (v := (u.2 12 x3.toNatClampNeg)) C hin rfl d_M_count_134 ?_
    refine x_iconst (v := -1) C d_M_count_135 (by decide) ?_
    refine x_icmp_eq (tgt := 143) C d_M_count_136 (by decide) (fun hc => ?_) (fun hc => ?_)
    · rw [if_pos hc] at hf
      refine x_iconst (v := 0) C d_M_count_143 (by decide) ?_
      refine x_iadd C d_M_count_144 ?_
      refine x_istore_n (lv' := [(2, .int (x2 + (0 : Int32))), (0, .ref (h 0)), (3, .int x3)]) C d_M_count_145 rfl (by decide) rfl ?_
      refine x_iinc (v := (x3 + (1 : Int32))) (lv' := [(3, .int (x3 + (1 : Int32))), (2, .int (x2 + (0 : Int32))), (0, .ref (h 0))]) C d_M_count_146 (k := 2) rfl rfl (by decide) rfl ?_
      refine x_goto (tgt := 122) C d_M_count_149 (by decide) ?_
      refine x_sub (lv' := [(0, .ref (h 0)), (2, .int (x2 + (0 : Int32))), (3, .int (x3 + (1 : Int32)))]) [2, 1, 0] rfl ?_
      exact hk122 (x2 + (0 : Int32)) (x3 + (1 : Int32)) u hf
    · rw [if_neg hc] at hf
      refine x_iconst (v := 1) C d_M_count_139 (by decide) ?_
      refine x_goto (tgt := 144) C d_M_count_140 (by decide) ?_
      refine x_iadd C d_M_count_144 ?_
      refine x_istore_n (lv' := [(2, .int (x2 + (1 : Int32))), (0, .ref (h 0)), (3, .int x3)]) C d_M_count_145 rfl (by decide) rfl ?_
      refine x_iinc (v := (x3 + (1 : Int32))) (lv' := [(3, .int (x3 + (1 : Int32))), (2, .int (x2 + (1 : Int32))), (0, .ref (h 0))]) C d_M_count_146 (k := 2) rfl rfl (by decide) rfl ?_
      refine x_goto (tgt := 122) C d_M_count_149 (by decide) ?_
      refine x_sub (lv' := [(0, .ref (h 0)), (2, .int (x2 + (1 : Int32))), (3, .int (x3 + (1 : Int32)))]) [2, 1, 0] rfl ?_
      exact hk122 (x2 + (1 : Int32)) (x3 + (1 : Int32)) u hf
def l_M_count_122 : Nat → Int32 → Int32 → PS → Option (Int32 × PS)
  | 0 => fun _ _ _ => none
  | n + 1 => b_M_count_122 (l_M_count_122 n)
theorem wl_M_count_122 {γ : CX} {cI cZ : ClassId} {h : Nat → Nat} {r0 : Int32} {u0 : PS} (C : Cx γ b_M_count 4 (some .int) "PackagePickModel" (rk 1) [(cI, .int), (cZ, .boolean)]) (hQ : QI γ [(cI, .int), (cZ, .boolean)] (WM cI cZ h) r0 u0) (n : Nat) : ∀ (x2 : Int32) (x3 : Int32) (u : PS), l_M_count_122 n x2 x3 u = some (r0, u0) → AtG γ (WM cI cZ h) 4 0 0 122 [(0, .ref (h 0)), (2, .int x2), (3, .int x3)] [] u := by
  induction n with
  | zero => intro x2 x3 u hf; cases hf
  | succ n ih => intro x2 x3 u hf; exact w_M_count_122 C hQ (l_M_count_122 n) ih x2 x3 u hf
def b_M_count_156 (k156 : Int32 → Int32 → PS → Option (Int32 × PS)) (x2 : Int32) (x3 : Int32) (u : PS) : Option (Int32 × PS) :=
  if (7 : Int32) ≤ x3 then
    some (x2, u)
  else
    ck (inb x3 7) <|
    if (u.2 13 x3.toNatClampNeg) = (-1 : Int32) then
      k156 (x2 + (0 : Int32)) (x3 + (1 : Int32)) u
    else
      k156 (x2 + (1 : Int32)) (x3 + (1 : Int32)) u
set_option maxRecDepth 100000 in
set_option maxHeartbeats 4000000 in
theorem w_M_count_156 {γ : CX} {cI cZ : ClassId} {h : Nat → Nat} {r0 : Int32} {u0 : PS} (C : Cx γ b_M_count 4 (some .int) "PackagePickModel" (rk 1) [(cI, .int), (cZ, .boolean)]) (hQ : QI γ [(cI, .int), (cZ, .boolean)] (WM cI cZ h) r0 u0) (k156 : Int32 → Int32 → PS → Option (Int32 × PS)) (hk156 : ∀ (x2 : Int32) (x3 : Int32) (u : PS), k156 x2 x3 u = some (r0, u0) → AtG γ (WM cI cZ h) 4 0 0 156 [(0, .ref (h 0)), (2, .int x2), (3, .int x3)] [] u) (x2 : Int32) (x3 : Int32) (u : PS) (hf : b_M_count_156 k156 x2 x3 u = some (r0, u0)) : AtG γ (WM cI cZ h) 4 0 0 156 [(0, .ref (h 0)), (2, .int x2), (3, .int x3)] [] u := by
  unfold b_M_count_156 at hf
  refine x_iload_n C d_M_count_156 rfl (k := 2) rfl ?_
  refine x_bipush (v := 7) C d_M_count_157 (by decide) ?_
  refine x_icmp_ge (tgt := 186) C d_M_count_159 (by decide) (fun hc => ?_) (fun hc => ?_)
  · rw [if_pos hc] at hf
    refine x_iload_n C d_M_count_186 rfl (k := 1) rfl ?_
    exact x_iret C hQ (Prod.mk.inj (Option.some.inj hf)).1 (Prod.mk.inj (Option.some.inj hf)).2 d_M_count_187
  · rw [if_neg hc] at hf
    refine x_iload_n C d_M_count_162 rfl (k := 1) rfl ?_
    refine x_aload_n C d_M_count_163 rfl (k := 0) rfl ?_
    refine gM_M_kept C mf_M_50 d_M_count_164 ?_
    refine x_iload_n C d_M_count_167 rfl (k := 2) rfl ?_
    obtain ⟨hin, hf⟩ := ck_some hf
    refine aldM_14 (v := (u.2 13 x3.toNatClampNeg)) C hin rfl d_M_count_168 ?_
    refine x_iconst (v := -1) C d_M_count_169 (by decide) ?_
    refine x_icmp_eq (tgt := 177) C d_M_count_170 (by decide) (fun hc => ?_) (fun hc => ?_)
    · rw [if_pos hc] at hf
      refine x_iconst (v := 0) C d_M_count_177 (by decide) ?_
      refine x_iadd C d_M_count_178 ?_
      refine x_istore_n (lv' := [(2, .int (x2 + (0 : Int32))), (0, .ref (h 0)), (3, .int x3)]) C d_M_count_179 rfl (by decide) rfl ?_
      refine x_iinc (v := (x3 + (1 : Int32))) (lv' := [(3, .int (x3 + (1 : Int32))), (2, .int (x2 + (0 : Int32))), (0, .ref (h 0))]) C d_M_count_180 (k := 2) rfl rfl (by decide) rfl ?_
      refine x_goto (tgt := 156) C d_M_count_183 (by decide) ?_
      refine x_sub (lv' := [(0, .ref (h 0)), (2, .int (x2 + (0 : Int32))), (3, .int (x3 + (1 : Int32)))]) [2, 1, 0] rfl ?_
      exact hk156 (x2 + (0 : Int32)) (x3 + (1 : Int32)) u hf
    · rw [if_neg hc] at hf
      refine x_iconst (v := 1) C d_M_count_173 (by decide) ?_
      refine x_goto (tgt := 178) C d_M_count_174 (by decide) ?_
      refine x_iadd C d_M_count_178 ?_
      refine x_istore_n (lv' := [(2, .int (x2 + (1 : Int32))), (0, .ref (h 0)), (3, .int x3)]) C d_M_count_179 rfl (by decide) rfl ?_
      refine x_iinc (v := (x3 + (1 : Int32))) (lv' := [(3, .int (x3 + (1 : Int32))), (2, .int (x2 + (1 : Int32))), (0, .ref (h 0))]) C d_M_count_180 (k := 2) rfl rfl (by decide) rfl ?_
      refine x_goto (tgt := 156) C d_M_count_183 (by decide) ?_
      refine x_sub (lv' := [(0, .ref (h 0)), (2, .int (x2 + (1 : Int32))), (3, .int (x3 + (1 : Int32)))]) [2, 1, 0] rfl ?_
      exact hk156 (x2 + (1 : Int32)) (x3 + (1 : Int32)) u hf
def l_M_count_156 : Nat → Int32 → Int32 → PS → Option (Int32 × PS)
  | 0 => fun _ _ _ => none
  | n + 1 => b_M_count_156 (l_M_count_156 n)
theorem wl_M_count_156 {γ : CX} {cI cZ : ClassId} {h : Nat → Nat} {r0 : Int32} {u0 : PS} (C : Cx γ b_M_count 4 (some .int) "PackagePickModel" (rk 1) [(cI, .int), (cZ, .boolean)]) (hQ : QI γ [(cI, .int), (cZ, .boolean)] (WM cI cZ h) r0 u0) (n : Nat) : ∀ (x2 : Int32) (x3 : Int32) (u : PS), l_M_count_156 n x2 x3 u = some (r0, u0) → AtG γ (WM cI cZ h) 4 0 0 156 [(0, .ref (h 0)), (2, .int x2), (3, .int x3)] [] u := by
  induction n with
  | zero => intro x2 x3 u hf; cases hf
  | succ n ih => intro x2 x3 u hf; exact w_M_count_156 C hQ (l_M_count_156 n) ih x2 x3 u hf
def f_M_count (a1 : Int32) (u : PS) : Option (Int32 × PS) :=
  if a1 = (0 : Int32) then
    l_M_count_54 NF (0 : Int32) (0 : Int32) (si u 0 (0 : Int32))
  else
  if a1 = (1 : Int32) then
    l_M_count_87 NF (0 : Int32) (0 : Int32) (si u 0 (0 : Int32))
  else
  if a1 = (2 : Int32) then
    some ((u.1 2), (si u 0 (0 : Int32)))
  else
  if a1 = (3 : Int32) then
    some ((u.1 1), (si u 0 (0 : Int32)))
  else
  if a1 = (4 : Int32) then
    l_M_count_122 NF (0 : Int32) (0 : Int32) (si u 0 (0 : Int32))
  else
  if a1 = (5 : Int32) then
    l_M_count_156 NF (0 : Int32) (0 : Int32) (si u 0 (0 : Int32))
  else
  if a1 = (6 : Int32) then
    (f_M_differ (si u 0 (0 : Int32))).bind fun r1 =>
    some (r1, (si u 0 (0 : Int32)))
  else
  some ((-1 : Int32), (si u 0 (0 : Int32)))
set_option maxRecDepth 100000 in
set_option maxHeartbeats 4000000 in
theorem w_M_count {γ : CX} {cI cZ : ClassId} {h : Nat → Nat} {r0 : Int32} {u0 : PS} (C : Cx γ b_M_count 4 (some .int) "PackagePickModel" (rk 1) [(cI, .int), (cZ, .boolean)]) (hQ : QI γ [(cI, .int), (cZ, .boolean)] (WM cI cZ h) r0 u0) (a1 : Int32) (u : PS) (hf : f_M_count a1 u = some (r0, u0)) : AtG γ (WM cI cZ h) 4 0 0 0 [(0, .ref (h 0)), (1, .int a1)] [] u := by
  unfold f_M_count at hf
  refine x_aload_n C d_M_count_0 rfl (k := 0) rfl ?_
  refine x_iconst (v := 0) C d_M_count_1 (by decide) ?_
  refine pM_M_thrown C mf_M_56 d_M_count_2 ?_
  refine x_iconst (v := 0) C d_M_count_5 (by decide) ?_
  refine x_istore_n (lv' := [(2, .int (0 : Int32)), (0, .ref (h 0)), (1, .int a1)]) C d_M_count_6 rfl (by decide) rfl ?_
  refine x_iload_n C d_M_count_7 rfl (k := 2) rfl ?_
  by_cases hc0 : a1 = (0 : Int32)
  · rw [if_pos hc0] at hf
    refine x_tsw (tgt := 52) C d_M_count_8 hc0 rfl (by decide) ?_
    refine x_iconst (v := 0) C d_M_count_52 (by decide) ?_
    refine x_istore_n (lv' := [(3, .int (0 : Int32)), (2, .int (0 : Int32)), (0, .ref (h 0)), (1, .int a1)]) C d_M_count_53 rfl (by decide) rfl ?_
    refine x_sub (lv' := [(0, .ref (h 0)), (2, .int (0 : Int32)), (3, .int (0 : Int32))]) [2, 1, 0] rfl ?_
    exact wl_M_count_54 C hQ NF (0 : Int32) (0 : Int32) (si u 0 (0 : Int32)) hf
  rw [if_neg hc0] at hf
  by_cases hc1 : a1 = (1 : Int32)
  · rw [if_pos hc1] at hf
    refine x_tsw (tgt := 85) C d_M_count_8 hc1 rfl (by decide) ?_
    refine x_iconst (v := 0) C d_M_count_85 (by decide) ?_
    refine x_istore_n (lv' := [(3, .int (0 : Int32)), (2, .int (0 : Int32)), (0, .ref (h 0)), (1, .int a1)]) C d_M_count_86 rfl (by decide) rfl ?_
    refine x_sub (lv' := [(0, .ref (h 0)), (2, .int (0 : Int32)), (3, .int (0 : Int32))]) [2, 1, 0] rfl ?_
    exact wl_M_count_87 C hQ NF (0 : Int32) (0 : Int32) (si u 0 (0 : Int32)) hf
  rw [if_neg hc1] at hf
  by_cases hc2 : a1 = (2 : Int32)
  · rw [if_pos hc2] at hf
    refine x_tsw (tgt := 110) C d_M_count_8 hc2 rfl (by decide) ?_
    refine x_aload_n C d_M_count_110 rfl (k := 1) rfl ?_
    refine gM_M_bans (v := (u.1 2)) C mf_M_72 rfl d_M_count_111 ?_
    exact x_iret C hQ (Prod.mk.inj (Option.some.inj hf)).1 (Prod.mk.inj (Option.some.inj hf)).2 d_M_count_114
  rw [if_neg hc2] at hf
  by_cases hc3 : a1 = (3 : Int32)
  · rw [if_pos hc3] at hf
    refine x_tsw (tgt := 115) C d_M_count_8 hc3 rfl (by decide) ?_
    refine x_aload_n C d_M_count_115 rfl (k := 1) rfl ?_
    refine gM_M_asked (v := (u.1 1)) C mf_M_75 rfl d_M_count_116 ?_
    exact x_iret C hQ (Prod.mk.inj (Option.some.inj hf)).1 (Prod.mk.inj (Option.some.inj hf)).2 d_M_count_119
  rw [if_neg hc3] at hf
  by_cases hc4 : a1 = (4 : Int32)
  · rw [if_pos hc4] at hf
    refine x_tsw (tgt := 120) C d_M_count_8 hc4 rfl (by decide) ?_
    refine x_iconst (v := 0) C d_M_count_120 (by decide) ?_
    refine x_istore_n (lv' := [(3, .int (0 : Int32)), (2, .int (0 : Int32)), (0, .ref (h 0)), (1, .int a1)]) C d_M_count_121 rfl (by decide) rfl ?_
    refine x_sub (lv' := [(0, .ref (h 0)), (2, .int (0 : Int32)), (3, .int (0 : Int32))]) [2, 1, 0] rfl ?_
    exact wl_M_count_122 C hQ NF (0 : Int32) (0 : Int32) (si u 0 (0 : Int32)) hf
  rw [if_neg hc4] at hf
  by_cases hc5 : a1 = (5 : Int32)
  · rw [if_pos hc5] at hf
    refine x_tsw (tgt := 154) C d_M_count_8 hc5 rfl (by decide) ?_
    refine x_iconst (v := 0) C d_M_count_154 (by decide) ?_
    refine x_istore_n (lv' := [(3, .int (0 : Int32)), (2, .int (0 : Int32)), (0, .ref (h 0)), (1, .int a1)]) C d_M_count_155 rfl (by decide) rfl ?_
    refine x_sub (lv' := [(0, .ref (h 0)), (2, .int (0 : Int32)), (3, .int (0 : Int32))]) [2, 1, 0] rfl ?_
    exact wl_M_count_156 C hQ NF (0 : Int32) (0 : Int32) (si u 0 (0 : Int32)) hf
  rw [if_neg hc5] at hf
  by_cases hc6 : a1 = (6 : Int32)
  · rw [if_pos hc6] at hf
    refine x_tsw (tgt := 188) C d_M_count_8 hc6 rfl (by decide) ?_
    refine x_aload_n C d_M_count_188 rfl (k := 1) rfl ?_
    obtain ⟨r1, hc1, hf⟩ := Option.bind_eq_some_iff.mp hf
    refine x_callIv (q0 := 0) (ci := 4) (rest := []) C (c_M_differ (si u 0 (0 : Int32)) hc1) kc_M_differ (rok (by decide) (by decide)) mm_M_127 ms_M_differ ml_M_differ rfl rfl rfl rfl (Nat.le_of_ble_eq_true rfl) d_M_count_189 ?_
    exact x_iret C hQ (Prod.mk.inj (Option.some.inj hf)).1 (Prod.mk.inj (Option.some.inj hf)).2 d_M_count_192
  rw [if_neg hc6] at hf
  refine x_tswo (tgt := 193) C d_M_count_8 (sw_out_0_6 hc0 hc1 hc2 hc3 hc4 hc5 hc6) (by decide) ?_
  refine x_iconst (v := -1) C d_M_count_193 (by decide) ?_
  exact x_iret C hQ (Prod.mk.inj (Option.some.inj hf)).1 (Prod.mk.inj (Option.some.inj hf)).2 d_M_count_194
theorem c_M_count {l : Launch} {D : va_G} {cI cZ : ClassId} {h : Nat → Nat} (a1 : Int32) (u : PS) {r0 : Int32 × PS} (hf : f_M_count a1 u = some r0) : CtI l y_M_count b_M_count 4 (some .int) (rk 1) D [(cI, .int), (cZ, .boolean)] (WM cI cZ h) [.ref (h 0), .int a1] u r0.1 r0.2 := ct_ofI (by decide) (Nat.le_of_ble_eq_true rfl) (fun γ _ _ C hQ => w_M_count C hQ a1 u hf)
end
section
def bt (x : Int32) (i : Nat) : Bool := x.toBitVec.getLsbD i
theorem b_ext {x y : Int32} (h : ∀ i, i < 32 → bt x i = bt y i) : x = y := Int32.toBitVec_inj.mp (BitVec.eq_of_getLsbD_eq (fun i hi => h i hi))
theorem b_or (x y : Int32) (i : Nat) : bt (x ||| y) i = (bt x i || bt y i) := by unfold bt; rw [Int32.toBitVec_or, BitVec.getLsbD_or]
theorem b_and (x y : Int32) (i : Nat) : bt (x &&& y) i = (bt x i && bt y i) := by unfold bt; rw [Int32.toBitVec_and, BitVec.getLsbD_and]
theorem b_xor (x y : Int32) (i : Nat) : bt (x ^^^ y) i = (bt x i ^^ bt y i) := by unfold bt; rw [Int32.toBitVec_xor, BitVec.getLsbD_xor]
theorem b_big {x : Int32} {i : Nat} (h : 32 ≤ i) : bt x i = false := BitVec.getLsbD_of_ge _ _ h
theorem b_255 (i : Nat) : bt 255 i = decide (i < 8) := by
  rcases Nat.lt_or_ge i 32 with h | h
  · exact (by decide +kernel : ∀ i, i < 32 → bt 255 i = decide (i < 8)) i h
  · rw [b_big h, decide_eq_false (by omega)]
theorem b_65535 (i : Nat) : bt 65535 i = decide (i < 16) := by
  rcases Nat.lt_or_ge i 32 with h | h
  · exact (by decide +kernel : ∀ i, i < 32 → bt 65535 i = decide (i < 16)) i h
  · rw [b_big h, decide_eq_false (by omega)]
theorem b_m1 : ∀ i, i < 32 → bt (-1) i = true := by decide +kernel
theorem b_0 (i : Nat) : bt 0 i = false := BitVec.getLsbD_zero
theorem s_l : ∀ n, n < 32 → ((nI n &&& 31).toBitVec.smod 32).toNat = n := by decide +kernel
theorem s_u : ∀ n, n < 32 → (((nI n).toUInt32 &&& Int32.toUInt32 31).toBitVec % 32).toNat = n := by decide +kernel
theorem b_shl (n : Nat) (hn : n < 32) (x : Int32) {i : Nat} (hi : i < 32) : bt (x <<< (nI n &&& 31)) i = (decide (n ≤ i) && bt x (i - n)) := by
  unfold bt
  rw [Int32.toBitVec_shiftLeft]
  show (x.toBitVec <<< ((nI n &&& 31).toBitVec.smod 32).toNat).getLsbD i = _
  rw [s_l n hn, BitVec.getLsbD_shiftLeft]
  rcases Nat.lt_or_ge i n with h | h
  · simp [h, Nat.not_le.mpr h]
  · simp [hi, h, Nat.not_lt.mpr h]
theorem b_ushr (n : Nat) (hn : n < 32) (x : Int32) (i : Nat) : bt ((x.toUInt32 >>> ((nI n).toUInt32 &&& Int32.toUInt32 31)).toInt32) i = bt x (n + i) := by
  show (x.toUInt32 >>> ((nI n).toUInt32 &&& Int32.toUInt32 31)).toBitVec.getLsbD i = x.toUInt32.toBitVec.getLsbD (n + i)
  rw [UInt32.toBitVec_shiftRight]
  show (x.toUInt32.toBitVec >>> (((nI n).toUInt32 &&& Int32.toUInt32 31).toBitVec % 32).toNat).getLsbD i = _
  rw [s_u n hn, BitVec.getLsbD_ushiftRight]
theorem b_sshr (n : Nat) (hn : n < 32) (x : Int32) {i : Nat} (hi : i < 32) : bt (x >>> (nI n &&& 31)) i = if n + i < 32 then bt x (n + i) else bt x 31 := by
  unfold bt
  rw [Int32.toBitVec_shiftRight]
  show (x.toBitVec.sshiftRight ((nI n &&& 31).toBitVec.smod 32).toNat).getLsbD i = _
  rw [s_l n hn, BitVec.getLsbD_sshiftRight, BitVec.msb_eq_getLsbD_last]
  simp [hi]
theorem pq_sc : ∀ n, n < 32 → ((1 : Int32) <<< (nI n &&& 31)).toBitVec = BitVec.twoPow 32 n := by decide +kernel
theorem pq_b1 {n i : Nat} (hn : n < 32) : bt ((1 : Int32) <<< (nI n &&& 31)) i = decide (i = n) := by
  unfold bt
  rw [pq_sc n hn, BitVec.getLsbD_twoPow]
  by_cases h : n = i
  · simp [h, hn]; omega
  · have h2 : ¬ i = n := fun e => h e.symm
    simp [h, h2]
theorem pq_not (x : Int32) {i : Nat} (hi : i < 32) : bt (x ^^^ (-1)) i = !bt x i := by
  rw [b_xor, b_m1 i hi]; cases bt x i <;> rfl
/-- a set of the numbers below n, as bits -/
def pq_mkN (f : Nat → Bool) : Nat → Int32
  | 0 => 0
  | n + 1 => pq_mkN f n ||| (if f n = true then (1 : Int32) <<< (nI n &&& 31) else 0)
theorem pq_mkN_bt (f : Nat → Bool) : ∀ n, n ≤ 32 → ∀ i, bt (pq_mkN f n) i = (decide (i < n) && f i) := by
  intro n
  induction n with
  | zero => intro _ i; simp [pq_mkN, b_0]
  | succ n ih =>
    intro hn i
    unfold pq_mkN
    rw [b_or, ih (by omega)]
    by_cases hf : f n = true
    · rw [if_pos hf, pq_b1 (by omega)]
      by_cases hi : i = n
      · subst hi; simp [hf]
      · have : decide (i < n + 1) = decide (i < n) := by
          by_cases h : i < n
          · simp [h]; omega
          · simp [h]; omega
        rw [this]; simp [hi]
    · rw [if_neg hf, b_0]
      by_cases hi : i = n
      · subst hi; simp [hf]
      · have : decide (i < n + 1) = decide (i < n) := by
          by_cases h : i < n
          · simp [h]; omega
          · simp [h]; omega
        rw [this]; simp
def pq_mk (f : Nat → Bool) : Int32 := pq_mkN f 28
theorem pq_bt (f : Nat → Bool) (i : Nat) : bt (pq_mk f) i = (decide (i < 28) && f i) := pq_mkN_bt f 28 (by omega) i
theorem pq_ext {x y : Int32} (h : ∀ i, i < 32 → bt x i = bt y i) : x = y := b_ext h
theorem pq_congr {f g : Nat → Bool} (h : ∀ i, i < 28 → f i = g i) : pq_mk f = pq_mk g := b_ext fun i _ => by
  rw [pq_bt, pq_bt]
  by_cases hi : i < 28
  · rw [h i hi]
  · simp [hi]
theorem pq_or (f g : Nat → Bool) : pq_mk f ||| pq_mk g = pq_mk (fun i => f i || g i) := b_ext fun i _ => by
  rw [b_or, pq_bt, pq_bt, pq_bt]
  by_cases hi : i < 28 <;> simp [hi]
theorem pq_and (f g : Nat → Bool) : pq_mk f &&& pq_mk g = pq_mk (fun i => f i && g i) := b_ext fun i _ => by
  rw [b_and, pq_bt, pq_bt, pq_bt]
  by_cases hi : i < 28 <;> simp [hi]
theorem pq_xor (f g : Nat → Bool) : pq_mk f ^^^ pq_mk g = pq_mk (fun i => f i ^^ g i) := b_ext fun i _ => by
  rw [b_xor, pq_bt, pq_bt, pq_bt]
  by_cases hi : i < 28 <;> simp [hi]
theorem pq_andn (f g : Nat → Bool) : pq_mk f &&& (pq_mk g ^^^ (-1)) = pq_mk (fun i => f i && !g i) := b_ext fun i h => by
  rw [b_and, pq_not _ h, pq_bt, pq_bt, pq_bt]
  by_cases hi : i < 28 <;> simp [hi]
theorem pq_0 : pq_mk (fun _ => false) = 0 := b_ext fun i _ => by rw [pq_bt, b_0]; simp
theorem pq_eq0 (f : Nat → Bool) : pq_mk f = 0 ↔ ∀ i, i < 28 → f i = false := by
  constructor
  · intro h i hi
    have := pq_bt f i
    rw [h, b_0] at this
    simpa [hi] using this.symm
  · intro h
    rw [← pq_0]
    exact pq_congr h
theorem pq_inj {f g : Nat → Bool} (h : pq_mk f = pq_mk g) {i : Nat} (hi : i < 28) : f i = g i := by
  have h1 := pq_bt f i
  have h2 := pq_bt g i
  rw [h] at h1
  rw [h1] at h2
  simpa [hi] using h2
theorem pq_one {n : Nat} (hn : n < 28) : (1 : Int32) <<< (nI n &&& 31) = pq_mk (fun i => decide (i = n)) := b_ext fun i _ => by
  rw [pq_b1 (by omega), pq_bt]
  by_cases h : i = n
  · subst h; simp [hn]
  · simp [h]
theorem pq_holds (f : Nat → Bool) {n : Nat} (hn : n < 28) : (pq_mk f &&& ((1 : Int32) <<< (nI n &&& 31))) = 0 ↔ f n = false := by
  rw [pq_one hn, pq_and, pq_eq0]
  constructor
  · intro h; simpa using h n hn
  · intro h i hi
    by_cases e : i = n
    · subst e; simp [h]
    · simp [e]
theorem pq_shr (f : Nat → Bool) {n i : Nat} (hn : n < 32) (hi : i < 32) : bt (pq_mk f >>> (nI n &&& 31)) i = (decide (n + i < 28) && f (n + i)) := by
  rw [b_sshr n hn _ hi]
  by_cases h : n + i < 32
  · rw [if_pos h, pq_bt]
  · rw [if_neg h, pq_bt]
    have : ¬ n + i < 28 := by omega
    simp [this]
theorem pq_nn (f : Nat → Bool) : ¬ pq_mk f < 0 := by
  intro h
  have h1 : bt (pq_mk f) 31 = false := by rw [pq_bt]; simp
  unfold bt at h1
  have h2 : (pq_mk f).toBitVec.msb = false := by rw [BitVec.msb_eq_getLsbD_last]; exact h1
  have h3 : (pq_mk f).toInt < 0 := by simpa using Int32.lt_iff_toInt_lt.mp h
  have h4 : (pq_mk f).toBitVec.toInt < 0 := h3
  rw [BitVec.toInt_eq_msb_cond, h2] at h4
  simp at h4
  omega
end
section
/-- sets of versions and of packages, as the class holds them -/
def pq_A (t : Nat → Nat → Bool) : Int32 := pq_mk (fun i => t (6 - i / 4) (i % 4))
def pq_M (r : Nat → Bool) : Int32 := pq_mk (fun i => decide (i % 4 = 0) && r (6 - i / 4))
def pq_sl (p w : Nat) : Nat := 24 - 4 * p + w
theorem pq_sl_lt {p w : Nat} (hp : p < 7) (hw : w < 4) : pq_sl p w < 28 := by unfold pq_sl; omega
theorem pq_sl_p {p w : Nat} (hp : p < 7) (hw : w < 4) : 6 - pq_sl p w / 4 = p := by unfold pq_sl; omega
theorem pq_sl_w {p w : Nat} (hp : p < 7) (hw : w < 4) : pq_sl p w % 4 = w := by unfold pq_sl; omega
theorem pq_sl_of {i : Nat} (hi : i < 28) : i = pq_sl (6 - i / 4) (i % 4) ∧ 6 - i / 4 < 7 ∧ i % 4 < 4 := by unfold pq_sl; omega
theorem pq_sl_inj {p w q z : Nat} (hp : p < 7) (hw : w < 4) (hq : q < 7) (hz : z < 4) : pq_sl p w = pq_sl q z ↔ p = q ∧ w = z := by unfold pq_sl; omega
theorem pq_A_congr {s t : Nat → Nat → Bool} (h : ∀ p w, p < 7 → w < 4 → s p w = t p w) : pq_A s = pq_A t := pq_congr fun i hi => h _ _ (by omega) (by omega)
theorem pq_M_congr {s t : Nat → Bool} (h : ∀ p, p < 7 → s p = t p) : pq_M s = pq_M t := pq_congr fun i hi => by rw [h _ (by omega)]
theorem pq_A_or (s t : Nat → Nat → Bool) : pq_A s ||| pq_A t = pq_A (fun p w => s p w || t p w) := pq_or _ _
theorem pq_A_and (s t : Nat → Nat → Bool) : pq_A s &&& pq_A t = pq_A (fun p w => s p w && t p w) := pq_and _ _
theorem pq_A_xor (s t : Nat → Nat → Bool) : pq_A s ^^^ pq_A t = pq_A (fun p w => s p w ^^ t p w) := pq_xor _ _
theorem pq_A_andn (s t : Nat → Nat → Bool) : pq_A s &&& (pq_A t ^^^ (-1)) = pq_A (fun p w => s p w && !t p w) := pq_andn _ _
theorem pq_M_or (s t : Nat → Bool) : pq_M s ||| pq_M t = pq_M (fun p => s p || t p) := by
  unfold pq_M; rw [pq_or]; apply pq_congr; intro i _
  cases decide (i % 4 = 0) <;> rfl
theorem pq_M_andn (s t : Nat → Bool) : pq_M s &&& (pq_M t ^^^ (-1)) = pq_M (fun p => s p && !t p) := by
  unfold pq_M; rw [pq_andn]; apply pq_congr; intro i _
  cases decide (i % 4 = 0) <;> simp
theorem pq_A_eq0 (t : Nat → Nat → Bool) : pq_A t = 0 ↔ ∀ p w, p < 7 → w < 4 → t p w = false := by
  unfold pq_A; rw [pq_eq0]
  constructor
  · intro h p w hp hw
    have := h (pq_sl p w) (pq_sl_lt hp hw)
    rwa [pq_sl_p hp hw, pq_sl_w hp hw] at this
  · intro h i hi
    exact h _ _ (by omega) (by omega)
theorem pq_M_eq0 (r : Nat → Bool) : pq_M r = 0 ↔ ∀ p, p < 7 → r p = false := by
  unfold pq_M; rw [pq_eq0]
  constructor
  · intro h p hp
    have := h (pq_sl p 0) (pq_sl_lt hp (by omega))
    rw [pq_sl_p hp (by omega), pq_sl_w hp (by omega)] at this
    simpa using this
  · intro h i hi
    rw [h _ (by omega)]; simp
theorem pq_A_inj {s t : Nat → Nat → Bool} (h : pq_A s = pq_A t) {p w : Nat} (hp : p < 7) (hw : w < 4) : s p w = t p w := by
  have := pq_inj h (pq_sl_lt hp hw)
  rwa [pq_sl_p hp hw, pq_sl_w hp hw] at this
theorem pq_A_holds (t : Nat → Nat → Bool) {p w : Nat} (hp : p < 7) (hw : w < 4) : (pq_A t &&& ((1 : Int32) <<< (nI (pq_sl p w) &&& 31))) = 0 ↔ t p w = false := by
  unfold pq_A; rw [pq_holds _ (pq_sl_lt hp hw), pq_sl_p hp hw, pq_sl_w hp hw]
theorem pq_A_one {p w : Nat} (hp : p < 7) (hw : w < 4) : (1 : Int32) <<< (nI (pq_sl p w) &&& 31) = pq_A (fun q z => decide (q = p) && decide (z = w)) := by
  rw [pq_one (pq_sl_lt hp hw)]; unfold pq_A; apply pq_congr; intro i hi
  obtain ⟨h1, h2, h3⟩ := pq_sl_of hi
  by_cases e : i = pq_sl p w
  · subst e; rw [pq_sl_p hp hw, pq_sl_w hp hw]; simp
  · have : ¬ (6 - i / 4 = p ∧ i % 4 = w) := fun z => e (by rw [h1, z.1, z.2])
    simp [e]; intro z; exact fun z2 => this ⟨z, z2⟩
theorem pq_M_one {p : Nat} (hp : p < 7) : (1 : Int32) <<< (nI (24 - 4 * p) &&& 31) = pq_M (fun q => decide (q = p)) := by
  have h0 : 24 - 4 * p = pq_sl p 0 := by unfold pq_sl; omega
  rw [h0, pq_one (pq_sl_lt hp (by omega))]; unfold pq_M; apply pq_congr; intro i hi
  obtain ⟨h1, h2, h3⟩ := pq_sl_of hi
  by_cases e : i = pq_sl p 0
  · subst e; rw [pq_sl_p hp (by omega), pq_sl_w hp (by omega)]; simp
  · have : ¬ (6 - i / 4 = p ∧ i % 4 = 0) := fun z => e (by rw [h1, z.1, z.2])
    simp [e]; intro z z2; exact this ⟨z2, z⟩
theorem pq_bM : ∀ i, i < 32 → bt 17895697 i = (decide (i < 28) && decide (i % 4 = 0)) := by decide +kernel
theorem pq_marks (t : Nat → Nat → Bool) : f_X_marksOf (pq_A t) = pq_M (fun p => t p 0 || t p 1 || t p 2 || t p 3) := by
  apply b_ext; intro i hi
  unfold f_X_marksOf pq_A pq_M
  rw [b_and, pq_bM i hi, b_or, b_or, b_or, pq_bt, pq_bt]
  have e1 := pq_shr (fun i => t (6 - i / 4) (i % 4)) (n := 1) (by omega) hi
  have e2 := pq_shr (fun i => t (6 - i / 4) (i % 4)) (n := 2) (by omega) hi
  have e3 := pq_shr (fun i => t (6 - i / 4) (i % 4)) (n := 3) (by omega) hi
  rw [show ((1 : Int32)) = nI 1 from rfl, show ((2 : Int32)) = nI 2 from rfl, show ((3 : Int32)) = nI 3 from rfl, e1, e2, e3]
  by_cases h4 : i % 4 = 0
  · by_cases h28 : i < 28
    · have a1 : 1 + i < 28 := by omega
      have a2 : 2 + i < 28 := by omega
      have a3 : 3 + i < 28 := by omega
      have d1 : (1 + i) / 4 = i / 4 := by omega
      have d2 : (2 + i) / 4 = i / 4 := by omega
      have d3 : (3 + i) / 4 = i / 4 := by omega
      have m1 : (1 + i) % 4 = 1 := by omega
      have m2 : (2 + i) % 4 = 2 := by omega
      have m3 : (3 + i) % 4 = 3 := by omega
      simp [h4, h28, a1, a2, a3, d1, d2, d3, m1, m2, m3]
    · simp [h28]
  · simp [h4]
/-- any set of packages, by a number -/
theorem pq_num (r : Nat → Bool) : ∃ m : Nat, m < 128 ∧ ∀ p, p < 7 → r p = m.testBit p := by
  have key : ∀ b0 b1 b2 b3 b4 b5 b6 : Bool, (fun m : Nat => m < 128 ∧ m.testBit 0 = b0 ∧ m.testBit 1 = b1 ∧ m.testBit 2 = b2 ∧ m.testBit 3 = b3 ∧ m.testBit 4 = b4 ∧ m.testBit 5 = b5 ∧ m.testBit 6 = b6) (b0.toNat + 2 * b1.toNat + 4 * b2.toNat + 8 * b3.toNat + 16 * b4.toNat + 32 * b5.toNat + 64 * b6.toNat) := by decide +kernel
  have h := key (r 0) (r 1) (r 2) (r 3) (r 4) (r 5) (r 6)
  refine ⟨_, h.1, fun p hp => ?_⟩
  obtain ⟨-, h0, h1, h2, h3, h4, h5, h6⟩ := h
  rcases (show p = 0 ∨ p = 1 ∨ p = 2 ∨ p = 3 ∨ p = 4 ∨ p = 5 ∨ p = 6 by omega) with rfl | rfl | rfl | rfl | rfl | rfl | rfl
  · exact h0.symm
  · exact h1.symm
  · exact h2.symm
  · exact h3.symm
  · exact h4.symm
  · exact h5.symm
  · exact h6.symm
theorem pq_x15_d : ∀ m, m < 128 → pq_M (fun p => m.testBit p) * 15 = pq_A (fun p _ => m.testBit p) := by decide +kernel
theorem pq_x15 (r : Nat → Bool) : pq_M r * 15 = pq_A (fun p _ => r p) := by
  obtain ⟨m, hm, h⟩ := pq_num r
  rw [pq_M_congr h, pq_x15_d m hm]
  exact pq_A_congr fun p w hp _ => (h p hp).symm
/-- the greatest package of a set -/
def pq_hi (r : Nat → Bool) : Nat := if r 6 then 6 else if r 5 then 5 else if r 4 then 4 else if r 3 then 3 else if r 2 then 2 else if r 1 then 1 else 0
theorem pq_hi_congr {r s : Nat → Bool} (h : ∀ p, p < 7 → r p = s p) : pq_hi r = pq_hi s := by
  unfold pq_hi; rw [h 6 (by omega), h 5 (by omega), h 4 (by omega), h 3 (by omega), h 2 (by omega), h 1 (by omega)]
theorem pq_low_d : ∀ m, m < 128 → m ≠ 0 → f_X_lowestPlace (pq_M (fun p => m.testBit p)) = nI (24 - 4 * pq_hi (fun p => m.testBit p)) := by decide +kernel
theorem pq_low {r : Nat → Bool} (hr : ∃ p, p < 7 ∧ r p = true) : f_X_lowestPlace (pq_M r) = nI (24 - 4 * pq_hi r) := by
  obtain ⟨m, hm, h⟩ := pq_num r
  have h0 : m ≠ 0 := by
    obtain ⟨p, hp, hr⟩ := hr
    intro e; subst e
    rw [h p hp] at hr; simp at hr
  rw [pq_M_congr h, pq_low_d m hm h0, pq_hi_congr h]
theorem pq_hi_lt (r : Nat → Bool) : pq_hi r < 7 := by
  unfold pq_hi; repeat' split
  all_goals omega
theorem pq_hi_in {r : Nat → Bool} (hr : ∃ p, p < 7 ∧ r p = true) : r (pq_hi r) = true := by
  obtain ⟨p, hp, h⟩ := hr
  unfold pq_hi
  repeat' split
  all_goals (try assumption)
  rcases (show p = 0 ∨ p = 1 ∨ p = 2 ∨ p = 3 ∨ p = 4 ∨ p = 5 ∨ p = 6 by omega) with rfl | rfl | rfl | rfl | rfl | rfl | rfl
  all_goals (first | assumption | contradiction)
end
section
/-! WHAT A CHOICE IS: th: which versions are there; nd: their needs; bn: the bans; ak: what is asked (already cut to what counts). A choice c: c p = 0 none, c p = w + 1 version w. -/
abbrev pd_N : Type := Nat × Nat × Nat
abbrev pd_B : Type := (Nat × Nat) × (Nat × Nat)
def pd_want (l : List pd_N) (q : Nat) : Bool := l.any (fun n => n.1 == q)
def pd_unm (l : List pd_N) (q z : Nat) : Bool := l.any (fun n => n.1 == q && !(decide (n.2.1 ≤ z) && decide (z ≤ n.2.2)))
def pd_ban (bn : List pd_B) (p w q z : Nat) : Bool := bn.any (fun b => (b.1 == (p, w) && b.2 == (q, z)) || (b.2 == (p, w) && b.1 == (q, z)))
/-- a need is met -/
def pd_met (c : Nat → Nat) (n : pd_N) : Prop := n.2.1 + 1 ≤ c n.1 ∧ c n.1 ≤ n.2.2 + 1
def pd_wf (c : Nat → Nat) : Prop := (∀ p, p < 7 → c p ≤ 4) ∧ ∀ p, 7 ≤ p → c p = 0
/-- closed: what is asked is in it, and what a chosen version of its packages needs -/
def pd_clo (nd : Nat → Nat → List pd_N) (ak : List pd_N) (c : Nat → Nat) (C : Nat → Bool) : Prop :=
  (∀ n ∈ ak, C n.1 = true) ∧ ∀ p w, p < 7 → C p = true → c p = w + 1 → ∀ n ∈ nd p w, C n.1 = true
def pd_ok (th : Nat → Nat → Bool) (nd : Nat → Nat → List pd_N) (bn : List pd_B) (ak : List pd_N) (c : Nat → Nat) : Prop :=
  (∀ p w, p < 7 → c p = w + 1 → th p w = true) ∧ (∀ n ∈ ak, pd_met c n) ∧ (∀ b ∈ bn, ¬ (c b.1.1 = b.1.2 + 1 ∧ c b.2.1 = b.2.2 + 1)) ∧ (∀ p w, p < 7 → c p = w + 1 → ∀ n ∈ nd p w, pd_met c n)
def pd_tight (nd : Nat → Nat → List pd_N) (ak : List pd_N) (c : Nat → Nat) : Prop := ∀ C : Nat → Bool, pd_clo nd ak c C → ∀ p, p < 7 → c p ≠ 0 → C p = true
def pd_val (th : Nat → Nat → Bool) (nd : Nat → Nat → List pd_N) (bn : List pd_B) (ak : List pd_N) (c : Nat → Nat) : Prop := pd_wf c ∧ pd_ok th nd bn ak c ∧ pd_tight nd ak c
/-- good data: packages below 7, versions below 4 -/
def pd_gn (n : pd_N) : Prop := n.1 < 7 ∧ n.2.1 ≤ n.2.2 ∧ n.2.2 < 4
def pd_gb (b : pd_B) : Prop := b.1.1 < 7 ∧ b.1.2 < 4 ∧ b.2.1 < 7 ∧ b.2.2 < 4
/-- a choice as the class holds it -/
def pd_enc (c : Nat → Nat) : Int32 := pq_A (fun p w => decide (c p = w + 1))
theorem pd_enc_inj {c d : Nat → Nat} (hc : pd_wf c) (hd : pd_wf d) (h : pd_enc c = pd_enc d) : c = d := by
  funext p
  by_cases hp : p < 7
  · have h1 := hc.1 p hp
    have h2 := hd.1 p hp
    have key : ∀ w, w < 4 → (c p = w + 1 ↔ d p = w + 1) := fun w hw => by
      have := pq_A_inj h hp hw
      simpa using this
    have k0 := key 0 (by omega)
    have k1 := key 1 (by omega)
    have k2 := key 2 (by omega)
    have k3 := key 3 (by omega)
    omega
  · rw [hc.2 p (by omega), hd.2 p (by omega)]
/-! THE SEARCH OF THE CLASS, over sets -/
def px_any (t : Nat → Nat → Bool) (p : Nat) : Bool := t p 0 || t p 1 || t p 2 || t p 3
def px_all (f : Nat → Bool) : Bool := f 0 && f 1 && f 2 && f 3 && f 4 && f 5 && f 6
theorem px_all_iff (f : Nat → Bool) : px_all f = true ↔ ∀ p, p < 7 → f p = true := by
  unfold px_all
  simp only [Bool.and_eq_true]
  constructor
  · rintro ⟨⟨⟨⟨⟨⟨h0, h1⟩, h2⟩, h3⟩, h4⟩, h5⟩, h6⟩ p hp
    rcases (show p = 0 ∨ p = 1 ∨ p = 2 ∨ p = 3 ∨ p = 4 ∨ p = 5 ∨ p = 6 by omega) with rfl | rfl | rfl | rfl | rfl | rfl | rfl <;> assumption
  · intro h
    exact ⟨⟨⟨⟨⟨⟨h 0 (by omega), h 1 (by omega)⟩, h 2 (by omega)⟩, h 3 (by omega)⟩, h 4 (by omega)⟩, h 5 (by omega)⟩, h 6 (by omega)⟩
/-- the sets behind the choice of version w of package p -/
def px_r (nd : Nat → Nat → List pd_N) (p w : Nat) (r : Nat → Bool) : Nat → Bool := fun q => r q || pd_want (nd p w) q
def px_s (p : Nat) (s : Nat → Bool) : Nat → Bool := fun q => s q || decide (q = p)
def px_t (nd : Nat → Nat → List pd_N) (bn : List pd_B) (p w : Nat) (t : Nat → Nat → Bool) : Nat → Nat → Bool := fun q z => t q z && !((decide (q = p) && !decide (z = w)) || pd_unm (nd p w) q z || pd_ban bn p w q z)
def px_l (nd : Nat → Nat → List pd_N) (bn : List pd_B) : Nat → (Nat → Bool) → (Nat → Bool) → (Nat → Nat → Bool) → List Int32
  | 0, _, _, _ => []
  | n + 1, r, s, t =>
    if px_all (fun p => !r p || px_any t p) = true then
      if px_all (fun p => !r p || s p) = true then [pq_A (fun p w => t p w && r p)]
      else
        let p := pq_hi (fun p => r p && !s p)
        (if t p 0 = true then px_l nd bn n (px_r nd p 0 r) (px_s p s) (px_t nd bn p 0 t) else []) ++
        ((if t p 1 = true then px_l nd bn n (px_r nd p 1 r) (px_s p s) (px_t nd bn p 1 t) else []) ++
        ((if t p 2 = true then px_l nd bn n (px_r nd p 2 r) (px_s p s) (px_t nd bn p 2 t) else []) ++
        (if t p 3 = true then px_l nd bn n (px_r nd p 3 r) (px_s p s) (px_t nd bn p 3 t) else [])))
    else []
end
section
theorem pd_want_iff (l : List pd_N) (q : Nat) : pd_want l q = true ↔ ∃ n ∈ l, n.1 = q := by
  unfold pd_want; simp [List.any_eq_true]
theorem pd_unm_iff (l : List pd_N) (q z : Nat) : pd_unm l q z = false ↔ ∀ n ∈ l, n.1 = q → n.2.1 ≤ z ∧ z ≤ n.2.2 := by
  unfold pd_unm
  rw [List.any_eq_false]
  constructor
  · intro h n hn e
    have := h n hn
    simp [e] at this
    exact this
  · intro h n hn
    by_cases e : n.1 = q
    · have := h n hn e
      simp [e]; exact this
    · simp [e]
theorem pd_ban_iff (bn : List pd_B) (p w q z : Nat) : pd_ban bn p w q z = true ↔ ∃ b ∈ bn, (b.1 = (p, w) ∧ b.2 = (q, z)) ∨ (b.2 = (p, w) ∧ b.1 = (q, z)) := by
  unfold pd_ban; simp [List.any_eq_true]
def px_um (s : Nat → Bool) : Nat := (!s 0).toNat + (!s 1).toNat + (!s 2).toNat + (!s 3).toNat + (!s 4).toNat + (!s 5).toNat + (!s 6).toNat
theorem px_um_s {s : Nat → Bool} {p : Nat} (hp : p < 7) (h : s p = false) : px_um (px_s p s) + 1 = px_um s := by
  unfold px_um px_s
  rcases (show p = 0 ∨ p = 1 ∨ p = 2 ∨ p = 3 ∨ p = 4 ∨ p = 5 ∨ p = 6 by omega) with rfl | rfl | rfl | rfl | rfl | rfl | rfl <;> simp [h] <;> omega
theorem px_um_0 {s : Nat → Bool} (h : px_um s = 0) : ∀ p, p < 7 → s p = true := by
  intro p hp
  unfold px_um at h
  cases e : s p with
  | true => rfl
  | false =>
    exfalso
    rcases (show p = 0 ∨ p = 1 ∨ p = 2 ∨ p = 3 ∨ p = 4 ∨ p = 5 ∨ p = 6 by omega) with rfl | rfl | rfl | rfl | rfl | rfl | rfl <;> simp [e] at h <;> omega
section PX
variable {th : Nat → Nat → Bool} {nd : Nat → Nat → List pd_N} {bn : List pd_B} {ak : List pd_N}
/-- the sets of the search and what is settled, a: the settled versions -/
def px_inv (th : Nat → Nat → Bool) (nd : Nat → Nat → List pd_N) (bn : List pd_B) (ak : List pd_N) (a : Nat → Nat) (r s : Nat → Bool) (t : Nat → Nat → Bool) : Prop :=
  (∀ p, p < 7 → (r p = true ↔ (∃ n ∈ ak, n.1 = p) ∨ ∃ q, q < 7 ∧ s q = true ∧ ∃ n ∈ nd q (a q - 1), n.1 = p)) ∧
  (∀ p, p < 7 → s p = true → r p = true) ∧
  (∀ p w, p < 7 → w < 4 → (t p w = true ↔ th p w = true ∧ (∀ n ∈ ak, n.1 = p → n.2.1 ≤ w ∧ w ≤ n.2.2) ∧ ∀ q, q < 7 → s q = true → (p = q → w + 1 = a q) ∧ (∀ n ∈ nd q (a q - 1), n.1 = p → n.2.1 ≤ w ∧ w ≤ n.2.2) ∧ pd_ban bn q (a q - 1) p w = false)) ∧
  (∀ C : Nat → Bool, (∀ n ∈ ak, C n.1 = true) → (∀ q, q < 7 → s q = true → C q = true → ∀ n ∈ nd q (a q - 1), C n.1 = true) → ∀ p, p < 7 → r p = true → C p = true) ∧
  (∀ q, q < 7 → s q = true → 1 ≤ a q ∧ a q ≤ 4)
def px_ext (s : Nat → Bool) (a c : Nat → Nat) : Prop := ∀ q, q < 7 → s q = true → c q = a q
/-- in a choice that goes on from here all that is required is chosen, in a version that is allowed -/
theorem px_F1 {a c : Nat → Nat} {r s : Nat → Bool} {t : Nat → Nat → Bool} (I : px_inv th nd bn ak a r s t) (hv : pd_val th nd bn ak c) (he : px_ext s a c) {p : Nat} (hp : p < 7) (hr : r p = true) :
    ∃ w, w < 4 ∧ c p = w + 1 ∧ t p w = true := by
  obtain ⟨I1, I2, I3, I4, I5⟩ := I
  obtain ⟨hw, ⟨o1, o2, o3, o4⟩, -⟩ := hv
  have h1 : c p ≠ 0 := by
    rcases (I1 p hp).mp hr with ⟨n, hn, e⟩ | ⟨q, hq, hs, n, hn, e⟩
    · have := (o2 n hn).1; rw [e] at this; omega
    · have h5 := I5 q hq hs
      have := (o4 q (a q - 1) hq (by rw [he q hq hs]; omega) n hn).1
      rw [e] at this; omega
  have h4 := hw.1 p hp
  refine ⟨c p - 1, by omega, by omega, (I3 p (c p - 1) hp (by omega)).mpr ⟨o1 p _ hp (by omega), fun n hn e => ?_, fun q hq hs => ⟨fun e => ?_, fun n hn e => ?_, ?_⟩⟩⟩
  · have := o2 n hn; unfold pd_met at this; rw [e] at this; omega
  · subst e; rw [← he p hp hs]; omega
  · have h5 := I5 q hq hs
    have := o4 q (a q - 1) hq (by rw [he q hq hs]; omega) n hn
    unfold pd_met at this; rw [e] at this; omega
  · cases hb : pd_ban bn q (a q - 1) p (c p - 1) with
    | false => rfl
    | true =>
      exfalso
      have h5 := I5 q hq hs
      have hq2 : c q = a q - 1 + 1 := by rw [he q hq hs]; omega
      have hp2 : c p = c p - 1 + 1 := by omega
      obtain ⟨b, hb1, ⟨e1, e2⟩ | ⟨e1, e2⟩⟩ := (pd_ban_iff _ _ _ _ _).mp hb
      · refine o3 b hb1 ⟨?_, ?_⟩
        · rw [e1]; exact hq2
        · rw [e2]; exact hp2
      · refine o3 b hb1 ⟨?_, ?_⟩
        · rw [e2]; exact hp2
        · rw [e1]; exact hq2
/-- one package more is settled -/
theorem px_step {a : Nat → Nat} {r s : Nat → Bool} {t : Nat → Nat → Bool} (I : px_inv th nd bn ak a r s t) {p w : Nat} (hp : p < 7) (hw : w < 4) (hr : r p = true) (hs : s p = false) :
    px_inv th nd bn ak (fun q => if q = p then w + 1 else a q) (px_r nd p w r) (px_s p s) (px_t nd bn p w t) := by
  obtain ⟨I1, I2, I3, I4, I5⟩ := I
  have hne : ∀ q, s q = true → q ≠ p := fun q h e => by subst e; rw [hs] at h; cases h
  have hss : ∀ q, px_s p s q = true ↔ s q = true ∨ q = p := fun q => by unfold px_s; simp
  refine ⟨fun q hq => ?_, fun q hq h => ?_, fun q z hq hz => ?_, fun C h1 h2 q hq h => ?_, fun q hq h => ?_⟩
  · unfold px_r
    rw [Bool.or_eq_true, I1 q hq, pd_want_iff]
    constructor
    · rintro ((h | ⟨q2, k1, k2, k3⟩) | h)
      · exact Or.inl h
      · exact Or.inr ⟨q2, k1, (hss q2).mpr (Or.inl k2), by simp only [if_neg (hne q2 k2)]; exact k3⟩
      · exact Or.inr ⟨p, hp, (hss p).mpr (Or.inr rfl), by simpa using h⟩
    · rintro (h | ⟨q2, k1, k2, k3⟩)
      · exact Or.inl (Or.inl h)
      · rcases (hss q2).mp k2 with k4 | k4
        · simp only [if_neg (hne q2 k4)] at k3
          exact Or.inl (Or.inr ⟨q2, k1, k4, k3⟩)
        · subst k4
          exact Or.inr (by simpa using k3)
  · unfold px_r
    rcases (hss q).mp h with k | k
    · rw [I2 q hq k]; rfl
    · subst k; rw [hr]; rfl
  · have e1 : px_t nd bn p w t q z = true ↔ t q z = true ∧ (q = p → z = w) ∧ pd_unm (nd p w) q z = false ∧ pd_ban bn p w q z = false := by
      unfold px_t
      rw [Bool.and_eq_true, Bool.not_eq_true', Bool.or_eq_false_iff, Bool.or_eq_false_iff, Bool.and_eq_false_iff]
      simp only [decide_eq_false_iff_not, Bool.not_eq_false', decide_eq_true_eq, and_assoc]
      constructor
      · rintro ⟨h1, h2, h3, h4⟩
        exact ⟨h1, fun e => h2.resolve_left (fun k => k e), h3, h4⟩
      · rintro ⟨h1, h2, h3, h4⟩
        refine ⟨h1, ?_, h3, h4⟩
        by_cases e : q = p
        · exact Or.inr (h2 e)
        · exact Or.inl e
    rw [e1, I3 q z hq hz, pd_unm_iff]
    constructor
    · rintro ⟨⟨h1, h2, h3⟩, h4, h5, h6⟩
      refine ⟨h1, h2, fun q2 k1 k2 => ?_⟩
      rcases (hss q2).mp k2 with k | k
      · simp only [if_neg (hne q2 k)]; exact h3 q2 k1 k
      · subst k
        simp only [if_true, Nat.add_sub_cancel]
        exact ⟨fun e => by rw [h4 e], h5, h6⟩
    · rintro ⟨h1, h2, h3⟩
      have hpp := h3 p hp ((hss p).mpr (Or.inr rfl))
      simp only [if_true, Nat.add_sub_cancel] at hpp
      refine ⟨⟨h1, h2, fun q2 k1 k2 => ?_⟩, fun e => by have := hpp.1 e; omega, hpp.2.1, hpp.2.2⟩
      have := h3 q2 k1 ((hss q2).mpr (Or.inl k2))
      simp only [if_neg (hne q2 k2)] at this
      exact this
  · have hC : ∀ q, q < 7 → r q = true → C q = true := I4 C h1 fun q2 k1 k2 k3 n hn => by
      have := h2 q2 k1 ((hss q2).mpr (Or.inl k2)) k3
      simp only [if_neg (hne q2 k2)] at this
      exact this n hn
    unfold px_r at h
    rw [Bool.or_eq_true] at h
    rcases h with h | h
    · exact hC q hq h
    · obtain ⟨n, hn, e⟩ := (pd_want_iff _ _).mp h
      have := h2 p hp ((hss p).mpr (Or.inr rfl)) (hC p hp hr)
      simp only [if_true, Nat.add_sub_cancel] at this
      rw [← e]; exact this n hn
  · dsimp only
    rcases (hss q).mp h with k | k
    · rw [if_neg (hne q k)]; exact I5 q hq k
    · rw [if_pos k]; omega
theorem px_ext_step {a c : Nat → Nat} {s : Nat → Bool} {p w : Nat} (hp : p < 7) (hs : s p = false) : px_ext (px_s p s) (fun q => if q = p then w + 1 else a q) c ↔ px_ext s a c ∧ c p = w + 1 := by
  have hss : ∀ q, px_s p s q = true ↔ s q = true ∨ q = p := fun q => by unfold px_s; simp
  constructor
  · intro h
    refine ⟨fun q hq k => ?_, ?_⟩
    · have := h q hq ((hss q).mpr (Or.inl k))
      have hqp : ¬ q = p := fun e => by subst e; rw [hs] at k; cases k
      dsimp only at this
      rwa [if_neg hqp] at this
    · have := h p hp ((hss p).mpr (Or.inr rfl))
      simpa using this
  · rintro ⟨h1, h2⟩ q hq k
    by_cases e : q = p
    · subst e; simpa using h2
    · show c q = if q = p then w + 1 else a q
      rw [if_neg e]
      exact h1 q hq (((hss q).mp k).resolve_right e)
/-- the leaf -/
theorem px_leaf (hgn : ∀ n ∈ ak, n.1 < 7) (hnd : ∀ p w, p < 7 → w < 4 → ∀ n ∈ nd p w, n.1 < 7) {a : Nat → Nat} {r s : Nat → Bool} {t : Nat → Nat → Bool} (I : px_inv th nd bn ak a r s t)
    (h1 : ∀ p, p < 7 → r p = true → px_any t p = true) (h2 : ∀ p, p < 7 → r p = true → s p = true) :
    ∃ c0, pd_val th nd bn ak c0 ∧ px_ext s a c0 ∧ pd_enc c0 = pq_A (fun p w => t p w && r p) ∧ ∀ c, pd_val th nd bn ak c → px_ext s a c → c = c0 := by
  obtain ⟨I1, I2, I3, I4, I5⟩ := I
  have ht : ∀ p w, p < 7 → w < 4 → s p = true → (t p w = true ↔ a p = w + 1) := by
    intro p w hp hw hs
    have hr := I2 p hp hs
    have hany := h1 p hp hr
    have hex : ∃ z, z < 4 ∧ t p z = true := by
      unfold px_any at hany
      simp only [Bool.or_eq_true] at hany
      rcases hany with ((h | h) | h) | h
      · exact ⟨0, by omega, h⟩
      · exact ⟨1, by omega, h⟩
      · exact ⟨2, by omega, h⟩
      · exact ⟨3, by omega, h⟩
    obtain ⟨z, hz, htz⟩ := hex
    have e1 := (((I3 p z hp hz).mp htz).2.2 p hp hs).1 rfl
    constructor
    · intro h; exact ((((I3 p w hp hw).mp h).2.2 p hp hs).1 rfl).symm
    · intro h; have : w = z := by omega
      subst this; exact htz
  have hc : ∀ p, p < 7 → s p = true → (if p < 7 ∧ s p = true then a p else 0) = a p := fun p hp hs => if_pos ⟨hp, hs⟩
  have hc2 : ∀ p w, (if p < 7 ∧ s p = true then a p else 0) = w + 1 → p < 7 ∧ s p = true ∧ a p = w + 1 := by
    intro p w h
    by_cases k : p < 7 ∧ s p = true
    · rw [if_pos k] at h; exact ⟨k.1, k.2, h⟩
    · rw [if_neg k] at h; omega
  have hal : ∀ p, p < 7 → s p = true → ∃ w, w < 4 ∧ a p = w + 1 ∧ t p w = true := fun p hp hs => by
    have := I5 p hp hs
    exact ⟨a p - 1, by omega, by omega, (ht p _ hp (by omega) hs).mpr (by omega)⟩
  refine ⟨fun p => if p < 7 ∧ s p = true then a p else 0, ⟨⟨fun p hp => ?_, fun p hp => if_neg (fun k => by omega)⟩, ⟨fun p w hp h => ?_, fun n hn => ?_, fun b hb h => ?_, fun p w hp h n hn => ?_⟩, fun C hC p hp h => ?_⟩, fun q hq hs => hc q hq hs, ?_, fun c hv he => ?_⟩
  · dsimp only
    by_cases k : p < 7 ∧ s p = true
    · rw [if_pos k]; exact (I5 p k.1 k.2).2
    · rw [if_neg k]; omega
  · obtain ⟨k1, k2, k3⟩ := hc2 p w h
    obtain ⟨w2, e1, e2, e3⟩ := hal p hp k2
    have : w = w2 := by omega
    subst this
    exact ((I3 p w hp e1).mp e3).1
  · have hn7 := hgn n hn
    have hs := h2 n.1 hn7 ((I1 n.1 hn7).mpr (Or.inl ⟨n, hn, rfl⟩))
    obtain ⟨w2, e1, e2, e3⟩ := hal n.1 hn7 hs
    have := ((I3 n.1 w2 hn7 e1).mp e3).2.1 n hn rfl
    show n.2.1 + 1 ≤ (if n.1 < 7 ∧ s n.1 = true then a n.1 else 0) ∧ (if n.1 < 7 ∧ s n.1 = true then a n.1 else 0) ≤ n.2.2 + 1
    rw [hc n.1 hn7 hs]; omega
  · obtain ⟨p7, ps, pa⟩ := hc2 _ _ h.1
    obtain ⟨q7, qs, qa⟩ := hc2 _ _ h.2
    obtain ⟨w2, e1, e2, e3⟩ := hal _ q7 qs
    have hw : w2 = b.2.2 := by omega
    subst hw
    have := (((I3 _ _ q7 e1).mp e3).2.2 b.1.1 p7 ps).2.2
    rw [show a b.1.1 - 1 = b.1.2 by omega] at this
    rw [(pd_ban_iff _ _ _ _ _).mpr ⟨b, hb, Or.inl ⟨rfl, rfl⟩⟩] at this
    cases this
  · obtain ⟨k1, k2, k3⟩ := hc2 p w h
    have h5 := I5 p hp k2
    have hwe : a p - 1 = w := by omega
    have hn7 := hnd p w hp (by omega) n hn
    have hs := h2 n.1 hn7 ((I1 n.1 hn7).mpr (Or.inr ⟨p, hp, k2, n, by rw [hwe]; exact hn, rfl⟩))
    obtain ⟨w2, e1, e2, e3⟩ := hal n.1 hn7 hs
    have := (((I3 n.1 w2 hn7 e1).mp e3).2.2 p hp k2).2.1 n (by rw [hwe]; exact hn) rfl
    show n.2.1 + 1 ≤ (if n.1 < 7 ∧ s n.1 = true then a n.1 else 0) ∧ (if n.1 < 7 ∧ s n.1 = true then a n.1 else 0) ≤ n.2.2 + 1
    rw [hc n.1 hn7 hs]; omega
  · have hs : s p = true := by
      by_cases k : p < 7 ∧ s p = true
      · exact k.2
      · exact absurd (if_neg k) h
    refine I4 C hC.1 (fun q hq hqs hCq n hn => ?_) p hp (I2 p hp hs)
    have h5 := I5 q hq hqs
    exact hC.2 q (a q - 1) hq hCq (by dsimp only; rw [hc q hq hqs]; omega) n hn
  · unfold pd_enc
    apply pq_A_congr
    intro p w hp hw
    by_cases hs : s p = true
    · have e1 := ht p w hp hw hs
      rw [I2 p hp hs, Bool.and_true]
      have hcp := hc p hp hs
      simp only [hcp]
      cases htw : t p w with
      | true => simpa using e1.mp htw
      | false =>
        have : ¬ a p = w + 1 := fun k => by rw [e1.mpr k] at htw; cases htw
        simpa using this
    · have hr : r p = false := by
        cases k : r p with
        | false => rfl
        | true => exact absurd (h2 p hp k) hs
      rw [hr]
      simp [hs]
  · obtain ⟨hw, hok, htt⟩ := hv
    funext p
    by_cases hp : p < 7
    · by_cases hs : s p = true
      · rw [hc p hp hs]; exact he p hp hs
      · rw [if_neg (fun k => hs k.2)]
        cases Nat.eq_zero_or_pos (c p) with
        | inl h => exact h
        | inr h =>
          exfalso
          refine hs (h2 p hp (htt r ⟨fun n hn => (I1 n.1 (hgn n hn)).mpr (Or.inl ⟨n, hn, rfl⟩), fun q w hq hrq hcq n hn => ?_⟩ p hp (by omega)))
          have hqs := h2 q hq hrq
          have h5 := I5 q hq hqs
          have e := he q hq hqs
          have hn7 := hnd q w hq (by omega) n hn
          exact (I1 n.1 hn7).mpr (Or.inr ⟨q, hq, hqs, n, by rw [show a q - 1 = w by omega]; exact hn, rfl⟩)
    · rw [if_neg (fun k => hp k.1)]; exact hw.2 p (by omega)
end PX
end
section
section PX2
variable {th : Nat → Nat → Bool} {nd : Nat → Nat → List pd_N} {bn : List pd_B} {ak : List pd_N}
theorem px_main (hgn : ∀ n ∈ ak, n.1 < 7) (hnd : ∀ p w, p < 7 → w < 4 → ∀ n ∈ nd p w, n.1 < 7) : ∀ (n : Nat) (r s : Nat → Bool) (t : Nat → Nat → Bool) (a : Nat → Nat), px_um s + 1 ≤ n → px_inv th nd bn ak a r s t →
    (px_l nd bn n r s t).Nodup ∧ ∀ x, x ∈ px_l nd bn n r s t ↔ ∃ c, pd_val th nd bn ak c ∧ px_ext s a c ∧ pd_enc c = x := by
  intro n
  induction n with
  | zero => intro r s t a h; omega
  | succ n ih =>
    intro r s t a hn I
    unfold px_l
    by_cases h1 : px_all (fun p => !r p || px_any t p) = true
    · rw [if_pos h1]
      have h1' : ∀ p, p < 7 → r p = true → px_any t p = true := fun p hp hr => by
        have := (px_all_iff _).mp h1 p hp
        simpa [hr] using this
      by_cases h2 : px_all (fun p => !r p || s p) = true
      · rw [if_pos h2]
        have h2' : ∀ p, p < 7 → r p = true → s p = true := fun p hp hr => by
          have := (px_all_iff _).mp h2 p hp
          simpa [hr] using this
        obtain ⟨c0, hv, he, hen, hu⟩ := px_leaf hgn hnd I h1' h2'
        refine ⟨by simp, fun x => ?_⟩
        rw [List.mem_singleton]
        constructor
        · intro h; exact ⟨c0, hv, he, by rw [hen, h]⟩
        · rintro ⟨c, hv2, he2, rfl⟩; rw [hu c hv2 he2, hen]
      · rw [if_neg h2]
        have hex : ∃ p, p < 7 ∧ (fun p => r p && !s p) p = true := by
          apply Classical.byContradiction
          intro hno
          apply h2
          rw [px_all_iff]
          intro p hp
          cases hr : r p with
          | false => rfl
          | true =>
            cases hs : s p with
            | true => rfl
            | false => exact absurd ⟨p, hp, by simp [hr, hs]⟩ hno
        have hp := pq_hi_lt (fun p => r p && !s p)
        have hin := pq_hi_in hex
        dsimp only
        generalize pq_hi (fun p => r p && !s p) = p at hp hin ⊢
        have hr : r p = true := by simp at hin; exact hin.1
        have hs : s p = false := by simp at hin; exact hin.2
        have key : ∀ w, w < 4 → (if t p w = true then px_l nd bn n (px_r nd p w r) (px_s p s) (px_t nd bn p w t) else []).Nodup ∧ ∀ x, x ∈ (if t p w = true then px_l nd bn n (px_r nd p w r) (px_s p s) (px_t nd bn p w t) else []) ↔ ∃ c, pd_val th nd bn ak c ∧ px_ext s a c ∧ c p = w + 1 ∧ pd_enc c = x := by
          intro w hw
          by_cases htw : t p w = true
          · rw [if_pos htw]
            have hum := px_um_s hp hs
            obtain ⟨k1, k2⟩ := ih (px_r nd p w r) (px_s p s) (px_t nd bn p w t) (fun q => if q = p then w + 1 else a q) (by omega) (px_step I hp hw hr hs)
            refine ⟨k1, fun x => ?_⟩
            rw [k2 x]
            constructor
            · rintro ⟨c, q1, q2, q3⟩
              obtain ⟨q4, q5⟩ := (px_ext_step hp hs).mp q2
              exact ⟨c, q1, q4, q5, q3⟩
            · rintro ⟨c, q1, q2, q3, q4⟩
              exact ⟨c, q1, (px_ext_step hp hs).mpr ⟨q2, q3⟩, q4⟩
          · rw [if_neg htw]
            refine ⟨List.nodup_nil, fun x => ?_⟩
            constructor
            · intro h; cases h
            · rintro ⟨c, q1, q2, q3, q4⟩
              obtain ⟨w2, e1, e2, e3⟩ := px_F1 I q1 q2 hp hr
              have : w2 = w := by omega
              subst this
              exact absurd e3 htw
        have dis : ∀ w w2, w < 4 → w2 < 4 → w ≠ w2 → ∀ x, (∃ c, pd_val th nd bn ak c ∧ px_ext s a c ∧ c p = w + 1 ∧ pd_enc c = x) → (∃ c, pd_val th nd bn ak c ∧ px_ext s a c ∧ c p = w2 + 1 ∧ pd_enc c = x) → False := by
          rintro w w2 hw hw2 hne x ⟨c, q1, -, q3, q4⟩ ⟨d, k1, -, k3, k4⟩
          have := pd_enc_inj q1.1 k1.1 (by rw [q4, k4])
          subst this
          omega
        have K0 := key 0 (by omega)
        have K1 := key 1 (by omega)
        have K2 := key 2 (by omega)
        have K3 := key 3 (by omega)
        refine ⟨?_, fun x => ?_⟩
        · rw [List.nodup_append, List.nodup_append, List.nodup_append]
          refine ⟨K0.1, ⟨K1.1, ⟨K2.1, K3.1, ?_⟩, ?_⟩, ?_⟩
          · intro x hx y hy e
            subst e
            exact dis 2 3 (by omega) (by omega) (by omega) x ((K2.2 x).mp hx) ((K3.2 x).mp hy)
          · intro x hx y hy e
            subst e
            rcases List.mem_append.mp hy with hy | hy
            · exact dis 1 2 (by omega) (by omega) (by omega) x ((K1.2 x).mp hx) ((K2.2 x).mp hy)
            · exact dis 1 3 (by omega) (by omega) (by omega) x ((K1.2 x).mp hx) ((K3.2 x).mp hy)
          · intro x hx y hy e
            subst e
            rcases List.mem_append.mp hy with hy | hy
            · exact dis 0 1 (by omega) (by omega) (by omega) x ((K0.2 x).mp hx) ((K1.2 x).mp hy)
            · rcases List.mem_append.mp hy with hy | hy
              · exact dis 0 2 (by omega) (by omega) (by omega) x ((K0.2 x).mp hx) ((K2.2 x).mp hy)
              · exact dis 0 3 (by omega) (by omega) (by omega) x ((K0.2 x).mp hx) ((K3.2 x).mp hy)
        · rw [List.mem_append, List.mem_append, List.mem_append, K0.2, K1.2, K2.2, K3.2]
          constructor
          · rintro (⟨c, q1, q2, -, q4⟩ | ⟨c, q1, q2, -, q4⟩ | ⟨c, q1, q2, -, q4⟩ | ⟨c, q1, q2, -, q4⟩) <;> exact ⟨c, q1, q2, q4⟩
          · rintro ⟨c, q1, q2, q4⟩
            obtain ⟨w, e1, e2, e3⟩ := px_F1 I q1 q2 hp hr
            rcases (show w = 0 ∨ w = 1 ∨ w = 2 ∨ w = 3 by omega) with rfl | rfl | rfl | rfl
            · exact Or.inl ⟨c, q1, q2, e2, q4⟩
            · exact Or.inr (Or.inl ⟨c, q1, q2, e2, q4⟩)
            · exact Or.inr (Or.inr (Or.inl ⟨c, q1, q2, e2, q4⟩))
            · exact Or.inr (Or.inr (Or.inr ⟨c, q1, q2, e2, q4⟩))
    · rw [if_neg h1]
      refine ⟨List.nodup_nil, fun x => ?_⟩
      constructor
      · intro h; cases h
      · rintro ⟨c, q1, q2, q4⟩
        exfalso
        apply h1
        rw [px_all_iff]
        intro p hp
        cases hr : r p with
        | false => rfl
        | true =>
          obtain ⟨w, e1, e2, e3⟩ := px_F1 I q1 q2 hp hr
          show px_any t p = true
          unfold px_any
          rcases (show w = 0 ∨ w = 1 ∨ w = 2 ∨ w = 3 by omega) with rfl | rfl | rfl | rfl <;> simp [e3]
/-- the start of a search -/
def px_t0 (th : Nat → Nat → Bool) (ak : List pd_N) : Nat → Nat → Bool := fun p w => th p w && !pd_unm ak p w
theorem px_start : px_inv th nd bn ak (fun _ => 0) (pd_want ak) (fun _ => false) (px_t0 th ak) := by
  refine ⟨fun p hp => ?_, fun p hp h => ?_, fun p w hp hw => ?_, fun C h1 h2 p hp h => ?_, fun q hq h => ?_⟩
  · rw [pd_want_iff]
    constructor
    · intro h; exact Or.inl h
    · rintro (h | ⟨q, -, h, -⟩)
      · exact h
      · cases h
  · cases h
  · unfold px_t0
    rw [Bool.and_eq_true, Bool.not_eq_true', pd_unm_iff]
    constructor
    · rintro ⟨h1, h2⟩; exact ⟨h1, h2, fun q _ h => by cases h⟩
    · rintro ⟨h1, h2, -⟩; exact ⟨h1, h2⟩
  · obtain ⟨n, hn, e⟩ := (pd_want_iff _ _).mp h
    rw [← e]; exact h1 n hn
  · cases h
def px_L (th : Nat → Nat → Bool) (nd : Nat → Nat → List pd_N) (bn : List pd_B) (ak : List pd_N) : List Int32 := px_l nd bn 9 (pd_want ak) (fun _ => false) (px_t0 th ak)
theorem px_L_spec (hgn : ∀ n ∈ ak, n.1 < 7) (hnd : ∀ p w, p < 7 → w < 4 → ∀ n ∈ nd p w, n.1 < 7) : (px_L th nd bn ak).Nodup ∧ ∀ x, x ∈ px_L th nd bn ak ↔ ∃ c, pd_val th nd bn ak c ∧ pd_enc c = x := by
  obtain ⟨h1, h2⟩ := px_main (th := th) (bn := bn) hgn hnd 9 (pd_want ak) (fun _ => false) (px_t0 th ak) (fun _ => 0) (by decide) px_start
  refine ⟨h1, fun x => ?_⟩
  show x ∈ px_l nd bn 9 (pd_want ak) (fun _ => false) (px_t0 th ak) ↔ _
  rw [h2 x]
  constructor
  · rintro ⟨c, q1, -, q2⟩; exact ⟨c, q1, q2⟩
  · rintro ⟨c, q1, q2⟩; exact ⟨c, q1, fun q _ h => (by cases h), q2⟩
end PX2
end
section
/-- what the search does to the tally -/
def px_ent (u : PS) (x : Int32) : PS := if u.1 9 < u.1 8 then f_T_enter x u else u
theorem px_en2 (x : Int32) (u : PS) : (f_T_enter x u).2 = u.2 := by
  unfold f_T_enter b_T_enter_37 b_T_enter_47
  repeat' split
  all_goals rfl
theorem px_en1 (x : Int32) (u : PS) {k : Nat} (hk : k < 9) : (f_T_enter x u).1 k = u.1 k := by
  have a9 : ¬ k = 9 := by omega
  have a10 : ¬ k = 10 := by omega
  have a11 : ¬ k = 11 := by omega
  have a12 : ¬ k = 12 := by omega
  have a13 : ¬ k = 13 := by omega
  unfold f_T_enter b_T_enter_37 b_T_enter_47
  repeat' split
  all_goals simp [si, va_up, a9, a10, a11, a12, a13]
theorem px_ent2 (u : PS) (x : Int32) : (px_ent u x).2 = u.2 := by
  unfold px_ent; split
  · exact px_en2 x u
  · rfl
theorem px_ent1 (u : PS) (x : Int32) {k : Nat} (hk : k < 9) : (px_ent u x).1 k = u.1 k := by
  unfold px_ent; split
  · exact px_en1 x u hk
  · rfl
theorem px_fold2 : ∀ (L : List Int32) (u : PS), (L.foldl px_ent u).2 = u.2 := by
  intro L
  induction L with
  | nil => intro u; rfl
  | cons x L ih => intro u; rw [List.foldl_cons, ih, px_ent2]
theorem px_fold1 {k : Nat} (hk : k < 9) : ∀ (L : List Int32) (u : PS), (L.foldl px_ent u).1 k = u.1 k := by
  intro L
  induction L with
  | nil => intro u; rfl
  | cons x L ih => intro u; rw [List.foldl_cons, ih, px_ent1 u x hk]
theorem px_fullF {u : PS} (h : ¬ u.1 9 < u.1 8) : ∀ (L : List Int32), L.foldl px_ent u = u := by
  intro L
  induction L with
  | nil => rfl
  | cons x L ih => rw [List.foldl_cons, show px_ent u x = u from if_neg h]; exact ih
theorem px_full (u : PS) : f_T_isFull u = 0 ↔ u.1 9 < u.1 8 := by
  unfold f_T_isFull
  split
  · simp [*]
  · simp [*]
def px_rep (nd : Nat → Nat → List pd_N) (bn : List pd_B) (u : PS) : Prop := ∀ p w, p < 7 → w < 4 → u.2 1 (pq_sl p w) = pq_M (pd_want (nd p w)) ∧ u.2 2 (pq_sl p w) = pq_A (pd_unm (nd p w)) ∧ u.2 3 (pq_sl p w) = pq_A (pd_ban bn p w)
theorem px_15 : ∀ p, p < 7 → (15 : Int32) <<< (nI (24 - 4 * p) &&& 31) = pq_A (fun q _ => decide (q = p)) := by decide +kernel
theorem px_inb {n N : Nat} (h : n < N) (hN : N < 2 ^ 31) : inb (nI n) N = true := by
  unfold inb
  have h1 : ¬ nI n < 0 := nI_pos (by omega)
  have h2 : (nI n).toNatClampNeg = n := nI_clamp (by omega)
  simp [h1, h2]; omega
theorem px_ck {α : Type} {b : Bool} (k : Option α) (h : b = true) : ck b k = k := if_pos h
theorem px_hold (t : Nat → Nat → Bool) {p w : Nat} (hp : p < 7) (hw : w < 4) : f_X_holds (pq_A t) (nI (pq_sl p w)) = 0 ↔ t p w = false := by
  unfold f_X_holds
  rw [← pq_A_holds t hp hw]
  split
  · simp [*]
  · simp [*]
section PXL
variable {nd : Nat → Nat → List pd_N} {bn : List pd_B} {rc : Int32 → Int32 → Int32 → Int32 → PS → Option PS} {r s : Nat → Bool} {t : Nat → Nat → Bool} {p : Nat} {D : Int32}
theorem px_lend (hp : p < 7) (m : Nat) (u : PS) : l_X_explore_77 rc (m + 1) (pq_M r) (pq_M s) (pq_A t) D (nI (24 - 4 * p)) (nI (28 - 4 * p)) (nI (pq_sl p 4)) u = some u := by
  show b_X_explore_77 rc (l_X_explore_77 rc m) _ _ _ _ _ _ _ u = _
  unfold b_X_explore_77
  exact if_pos (nI_le (by unfold pq_sl; omega) (by unfold pq_sl; omega))
theorem px_lstep (hp : p < 7) {j : Nat} (hj : j < 4) (m : Nat) (u : PS) (hu : px_rep nd bn u) : l_X_explore_77 rc (m + 1) (pq_M r) (pq_M s) (pq_A t) D (nI (24 - 4 * p)) (nI (28 - 4 * p)) (nI (pq_sl p j)) u =
    if t p j = true then (rc (pq_M (px_r nd p j r)) (pq_M (px_s p s)) (pq_A (px_t nd bn p j t)) (D + 1) u).bind (fun v => l_X_explore_77 rc m (pq_M r) (pq_M s) (pq_A t) D (nI (24 - 4 * p)) (nI (28 - 4 * p)) (nI (pq_sl p (j + 1))) v)
    else l_X_explore_77 rc m (pq_M r) (pq_M s) (pq_A t) D (nI (24 - 4 * p)) (nI (28 - 4 * p)) (nI (pq_sl p (j + 1))) u := by
  show b_X_explore_77 rc (l_X_explore_77 rc m) _ _ _ _ _ _ _ u = _
  unfold b_X_explore_77
  rw [if_neg (nI_ge (by unfold pq_sl; omega) (by omega))]
  have hsl := pq_sl_lt hp hj
  have e1 : nI (pq_sl p j) + (1 : Int32) = nI (pq_sl p (j + 1)) := by rw [nI_1]; rfl
  by_cases ht : t p j = true
  · have hh : ¬ f_X_holds (pq_A t) (nI (pq_sl p j)) = 0 := fun h => by rw [(px_hold t hp hj).mp h] at ht; cases ht
    rw [if_neg hh, if_pos ht, px_ck _ (px_inb hsl (by omega)), px_ck _ (px_inb hsl (by omega)), px_ck _ (px_inb hsl (by omega)), nI_clamp (by omega), e1]
    obtain ⟨h1, h2, h3⟩ := hu p j hp hj
    rw [h1, h2, h3, pq_M_or, pq_M_one hp, pq_M_or, px_15 p hp, pq_A_one hp hj, pq_A_andn, pq_A_or, pq_A_or, pq_A_andn]
    have ea : pq_A (fun p1 w => t p1 w && !(decide (p1 = p) && !(decide (p1 = p) && decide (w = j)) || pd_unm (nd p j) p1 w || pd_ban bn p j p1 w)) = pq_A (px_t nd bn p j t) := by
      apply pq_A_congr
      intro q z _ _
      unfold px_t
      by_cases e : q = p
      · simp [e]
      · simp [e]
    rw [ea]
    rfl
  · have ht' : t p j = false := by simpa using ht
    rw [if_pos ((px_hold t hp hj).mpr ht'), if_neg ht, e1]
end PXL
theorem px_cond (r m : Nat → Bool) : (pq_M r &&& (pq_M m ^^^ (-1 : Int32))) = 0 ↔ px_all (fun p => !r p || m p) = true := by
  rw [pq_M_andn, pq_M_eq0, px_all_iff]
  constructor
  · intro h p hp
    have := h p hp
    cases hr : r p <;> cases hm : m p <;> simp_all
  · intro h p hp
    have := h p hp
    cases hr : r p <;> cases hm : m p <;> simp_all
section PXE
variable {nd : Nat → Nat → List pd_N} {bn : List pd_B}
theorem px_rep_fold {u : PS} (h : px_rep nd bn u) (L : List Int32) : px_rep nd bn (L.foldl px_ent u) := by
  unfold px_rep; rw [px_fold2]; exact h
theorem px_explore : ∀ (n : Nat) (r s : Nat → Bool) (t : Nat → Nat → Bool) (d : Nat) (u : PS), px_um s + 1 ≤ n → d + px_um s = 7 → px_rep nd bn u →
    f_X_explore n (pq_M r) (pq_M s) (pq_A t) (nI d) u = some ((px_l nd bn n r s t).foldl px_ent u) := by
  intro n
  induction n with
  | zero => intro r s t d u h; omega
  | succ n ih =>
    intro r s t d u hn hd hu
    show g_X_explore (f_X_explore n) _ _ _ _ u = _
    unfold g_X_explore
    rw [if_neg (show ¬ (7 : Int32) < nI d from nI_nlt (a := 7) (by omega) (by omega))]
    by_cases hf : u.1 9 < u.1 8
    · rw [if_pos ((px_full u).mpr hf), show f_X_marksOf (pq_A t) = pq_M (px_any t) from pq_marks t]
      unfold px_l
      by_cases h1 : px_all (fun p => !r p || px_any t p) = true
      · rw [if_pos ((px_cond _ _).mpr h1), if_pos h1]
        by_cases h2 : px_all (fun p => !r p || s p) = true
        · rw [if_pos ((px_cond _ _).mpr h2), if_pos h2, pq_x15, pq_A_and]
          simp only [List.foldl_cons, List.foldl_nil]
          unfold px_ent
          rw [if_pos hf]
        · rw [if_neg (fun h => h2 ((px_cond _ _).mp h)), if_neg h2, pq_M_andn]
          have hex : ∃ p, p < 7 ∧ (fun p => r p && !s p) p = true := by
            apply Classical.byContradiction
            intro hno
            apply h2
            rw [px_all_iff]
            intro p hp
            cases hr : r p with
            | false => rfl
            | true =>
              cases hs : s p with
              | true => rfl
              | false => exact absurd ⟨p, hp, by simp [hr, hs]⟩ hno
          rw [pq_low hex]
          have hp := pq_hi_lt (fun p => r p && !s p)
          have hin := pq_hi_in hex
          dsimp only
          generalize pq_hi (fun p => r p && !s p) = p at hp hin ⊢
          have hs : s p = false := by simp at hin; exact hin.2
          have hum := px_um_s hp hs
          have ej : jmin (nI (24 - 4 * p) + (4 : Int32)) (28 : Int32) = nI (28 - 4 * p) := by
            have e0 : nI (24 - 4 * p) + (4 : Int32) = nI (28 - 4 * p) := by
              show nI (24 - 4 * p) + nI 4 = _
              rw [nI_add]; congr 1; omega
            unfold jmin
            rw [e0, if_neg (show ¬ (28 : Int32) < nI (28 - 4 * p) from nI_nlt (a := 28) (by omega) (by omega))]
          have e0 : nI (24 - 4 * p) = nI (pq_sl p 0) := rfl
          rw [ej]
          have hD : nI d + (1 : Int32) = nI (d + 1) := nI_1 d
          have hrc : ∀ (w : Nat) (v : PS), w < 4 → px_rep nd bn v → f_X_explore n (pq_M (px_r nd p w r)) (pq_M (px_s p s)) (pq_A (px_t nd bn p w t)) (nI d + 1) v = some ((px_l nd bn n (px_r nd p w r) (px_s p s) (px_t nd bn p w t)).foldl px_ent v) := fun w v hw hv => by
            rw [hD]; exact ih _ _ _ _ v (by omega) (by omega) hv
          have step : ∀ (w : Nat) (v : PS) (m : Nat), w < 4 → px_rep nd bn v → l_X_explore_77 (f_X_explore n) (m + 1) (pq_M r) (pq_M s) (pq_A t) (nI d) (nI (24 - 4 * p)) (nI (28 - 4 * p)) (nI (pq_sl p w)) v = l_X_explore_77 (f_X_explore n) m (pq_M r) (pq_M s) (pq_A t) (nI d) (nI (24 - 4 * p)) (nI (28 - 4 * p)) (nI (pq_sl p (w + 1))) ((if t p w = true then px_l nd bn n (px_r nd p w r) (px_s p s) (px_t nd bn p w t) else []).foldl px_ent v) := by
            intro w v m hw hv
            rw [px_lstep hp hw m v hv]
            by_cases ht : t p w = true
            · rw [if_pos ht, if_pos ht, hrc w v hw hv]; rfl
            · rw [if_neg ht, if_neg ht]; rfl
          show l_X_explore_77 (f_X_explore n) (999995 + 1 + 1 + 1 + 1 + 1) (pq_M r) (pq_M s) (pq_A t) (nI d) (nI (24 - 4 * p)) (nI (28 - 4 * p)) (nI (pq_sl p 0)) u = _
          rw [step 0 u _ (by omega) hu, step 1 _ _ (by omega) (px_rep_fold hu _), step 2 _ _ (by omega) (px_rep_fold (px_rep_fold hu _) _), step 3 _ _ (by omega) (px_rep_fold (px_rep_fold (px_rep_fold hu _) _) _), px_lend hp]
          rw [List.foldl_append, List.foldl_append, List.foldl_append]
      · rw [if_neg (fun h => h1 ((px_cond _ _).mp h)), if_neg h1]
        rfl
    · rw [if_neg (fun h => hf ((px_full u).mp h)), px_fullF hf]
end PXE
end
section
/-! THE MODEL: its state, read as what there is -/
theorem pm_ti {x : Nat} (hx : x < 2 ^ 30) : (nI x - 1).toInt = (x : Int) - 1 := pk_sub_toInt (b := 1) hx (by omega)
theorem pm_lt {x a : Nat} (hx : x < 2 ^ 30) (ha : a < 2 ^ 30) : nI x - 1 < nI a ↔ x < a + 1 := by
  rw [Int32.lt_iff_toInt_lt, pm_ti hx, nI_toInt (by omega)]; omega
theorem pm_gt {x a : Nat} (hx : x < 2 ^ 30) (ha : a < 2 ^ 30) : nI a < nI x - 1 ↔ a + 1 < x := by
  rw [Int32.lt_iff_toInt_lt, pm_ti hx, nI_toInt (by omega)]; omega
theorem pm_m1 {x : Nat} (hx : x < 2 ^ 30) : nI x - 1 = -1 ↔ x = 0 := by
  rw [← Int32.toInt_inj, pm_ti hx, show ((-1 : Int32)).toInt = -1 from by decide +kernel]; omega
theorem pm_eq {x w : Nat} (hx : x < 2 ^ 30) (hw : w < 2 ^ 30) : nI x - 1 = nI w ↔ x = w + 1 := by
  rw [← Int32.toInt_inj, pm_ti hx, nI_toInt (by omega)]; omega
theorem pm_eqq {x y : Nat} (hx : x < 2 ^ 30) (hy : y < 2 ^ 30) : nI x - 1 = nI y - 1 ↔ x = y := by
  rw [← Int32.toInt_inj, pm_ti hx, pm_ti hy]; omega
theorem pm_4 (a b : Nat) : (4 : Int32) * nI a + nI b = nI (4 * a + b) := by
  show nI 4 * nI a + nI b = _
  rw [pk_mul, nI_add]
def pm_pk (v : PS) (c : Nat → Nat) : Prop := ∀ p, p < 7 → v.2 10 p = nI (c p) - 1 ∧ c p ≤ 5
def pm_rep (th : Nat → Nat → Bool) (nd : Nat → Nat → List pd_N) (bn : List pd_B) (ask : List pd_N) (v : PS) : Prop :=
  (∀ p w, p < 7 → w < 4 → v.2 0 (4 * p + w) = (if th p w = true then 1 else 0)) ∧
  (∀ p w, p < 7 → w < 4 → v.2 1 (4 * p + w) = nI (nd p w).length ∧ (nd p w).length ≤ 4 ∧ ∀ k n, (nd p w)[k]? = some n → v.2 2 (4 * (4 * p + w) + k) = nI n.1 ∧ v.2 3 (4 * (4 * p + w) + k) = nI n.2.1 ∧ v.2 4 (4 * (4 * p + w) + k) = nI n.2.2 ∧ pd_gn n) ∧
  (v.1 2 = nI bn.length ∧ bn.length ≤ 16 ∧ ∀ k b, bn[k]? = some b → v.2 8 k = nI (4 * b.1.1 + b.1.2) ∧ v.2 9 k = nI (4 * b.2.1 + b.2.2) ∧ pd_gb b) ∧
  (v.1 1 = nI ask.length ∧ ask.length ≤ 6 ∧ ∀ i n, ask[i]? = some n → v.2 5 i = nI n.1 ∧ v.2 6 i = nI n.2.1 ∧ v.2 7 i = nI n.2.2 ∧ pd_gn n)
/-- what of the asked counts -/
def pd_sel (ask : List pd_N) (b : Nat → Bool) : List pd_N := (List.range ask.length).filterMap (fun i => if b i = true then ask[i]? else none)
theorem pd_sel_iff (ask : List pd_N) (b : Nat → Bool) (n : pd_N) : n ∈ pd_sel ask b ↔ ∃ i, b i = true ∧ ask[i]? = some n := by
  unfold pd_sel
  rw [List.mem_filterMap]
  constructor
  · rintro ⟨i, hi, h⟩
    by_cases hb : b i = true
    · rw [if_pos hb] at h; exact ⟨i, hb, h⟩
    · rw [if_neg hb] at h; cases h
  · rintro ⟨i, hb, h⟩
    exact ⟨i, List.mem_range.mpr (List.getElem?_eq_some_iff.mp h).1, by rw [if_pos hb]; exact h⟩
theorem pm_counts (v : PS) {i : Nat} (hi : i < 32) : f_M_counts (nI i) v = 0 ↔ bt (v.1 3) i = false := by
  have key : ((v.1 3) >>> (nI i &&& 31)) &&& (1 : Int32) = if bt (v.1 3) i = true then 1 else 0 := by
    apply b_ext
    intro j hj
    rw [b_and, b_sshr i hi _ hj]
    by_cases h0 : j = 0
    · subst h0
      simp only [Nat.add_zero, if_pos hi]
      cases bt (v.1 3) i <;> decide
    · have h1 : bt 1 j = false := (by decide +kernel : ∀ j, j < 32 → j ≠ 0 → bt 1 j = false) j hj h0
      rw [h1, Bool.and_false]
      cases bt (v.1 3) i
      · exact (b_0 j).symm
      · exact h1.symm
  unfold f_M_counts
  rw [key]
  cases bt (v.1 3) i <;> decide
section PM
variable {th : Nat → Nat → Bool} {nd : Nat → Nat → List pd_N} {bn : List pd_B} {ask : List pd_N} {v : PS} {c : Nat → Nat}
theorem pm_isMet (hk : pm_pk v c) {q a b : Nat} (hq : q < 7) (ha : a < 4) (hb : b < 4) : f_M_isMet (nI q) (nI a) (nI b) v = some (if a + 1 ≤ c q ∧ c q ≤ b + 1 then 1 else 0) := by
  obtain ⟨h1, h2⟩ := hk q hq
  unfold f_M_isMet
  rw [px_ck _ (px_inb hq (by omega)), nI_clamp (by omega), h1]
  by_cases k1 : c q < a + 1
  · rw [if_pos ((pm_lt (by omega) (by omega)).mpr k1), if_neg (by omega)]
  · rw [if_neg (fun z => k1 ((pm_lt (by omega) (by omega)).mp z)), px_ck _ (px_inb hq (by omega))]
    by_cases k2 : b + 1 < c q
    · rw [if_pos ((pm_gt (by omega) (by omega)).mpr k2), if_neg (by omega)]
    · rw [if_neg (fun z => k2 ((pm_gt (by omega) (by omega)).mp z)), if_pos (by omega)]
theorem pm_218 (hr : pm_rep th nd bn ask v) (hk : pm_pk v c) {p q w : Nat} (hp : p < 7) (hq : q < 7) (hw : w < 4) (hcq : c q = w + 1) (kk : Int32 → Int32 → Int32 → Option Int32) : ∀ (m k : Nat) (x2 : Int32), k ≤ (nd q w).length → (nd q w).length - k < m → x2 = 0 ∨ x2 = 1 →
    ∃ y : Int32, (y = 0 ∨ y = 1) ∧ l_M_goes_218 v kk m (nI p) x2 (nI q) (nI (4 * q + w)) (nI k) = kk (nI p) y (nI (q + 1)) ∧ (y = 1 ↔ x2 = 1 ∧ ∀ j n, k ≤ j → (nd q w)[j]? = some n → n.1 ≤ p → pd_met c n) := by
  obtain ⟨-, r2, -, -⟩ := hr
  obtain ⟨n1, n2, n3⟩ := r2 q w hq hw
  obtain ⟨h1, h2⟩ := hk q hq
  intro m
  induction m with
  | zero => intro k x2 _ h; omega
  | succ m ih =>
    intro k x2 hkl hm hx
    have hu : l_M_goes_218 v kk (m + 1) (nI p) x2 (nI q) (nI (4 * q + w)) (nI k) = b_M_goes_218 v kk (l_M_goes_218 v kk m) (nI p) x2 (nI q) (nI (4 * q + w)) (nI k) := rfl
    rw [hu]
    unfold b_M_goes_218
    rw [px_ck _ (px_inb hq (by omega)), nI_clamp (show q < 2 ^ 31 by omega), h1, if_neg (fun z => by have := (pm_m1 (by omega)).mp z; omega), px_ck _ (px_inb (show 4 * q + w < 28 by omega) (by omega)), nI_clamp (show 4 * q + w < 2 ^ 31 by omega), n1, nI_1, nI_1]
    by_cases hle : (nd q w).length ≤ k
    · rw [if_pos (nI_le hle (by omega))]
      refine ⟨x2, hx, rfl, fun h => ⟨h, fun j n hj hn => ?_⟩, fun h => h.1⟩
      have := (List.getElem?_eq_some_iff.mp hn).1
      omega
    · rw [if_neg (nI_ge (by omega) (by omega))]
      have hkn : ∃ n, (nd q w)[k]? = some n := ⟨_, List.getElem?_eq_getElem (by omega)⟩
      obtain ⟨n, hn⟩ := hkn
      obtain ⟨m1, m2, m3, g1, g2, g3⟩ := n3 k n hn
      have hsplit : ∀ P : pd_N → Prop, (∀ j n, k ≤ j → (nd q w)[j]? = some n → P n) ↔ P n ∧ ∀ j n, k + 1 ≤ j → (nd q w)[j]? = some n → P n := by
        intro P
        constructor
        · intro h; exact ⟨h k n (by omega) hn, fun j n' hj => h j n' (by omega)⟩
        · rintro ⟨h, h'⟩ j n' hj hn'
          by_cases e : j = k
          · subst e; rw [hn] at hn'; cases hn'; exact h
          · exact h' j n' (by omega) hn'
      rcases hx with rfl | rfl
      · rw [if_pos rfl]
        obtain ⟨y, y1, y2, y3⟩ := ih (k + 1) 0 (by omega) (by omega) (Or.inl rfl)
        exact ⟨y, y1, y2, by rw [y3]; simp⟩
      · rw [if_neg (by decide), pm_4, px_ck _ (px_inb (show 4 * (4 * q + w) + k < 112 by omega) (by omega)), nI_clamp (show 4 * (4 * q + w) + k < 2 ^ 31 by omega), m1, m2, m3]
        rw [hsplit (fun n => n.1 ≤ p → pd_met c n)]
        by_cases hpn : p < n.1
        · rw [if_pos (nI_lt hpn (by omega))]
          obtain ⟨y, y1, y2, y3⟩ := ih (k + 1) 1 (by omega) (by omega) (Or.inr rfl)
          refine ⟨y, y1, y2, ?_⟩
          rw [y3]
          constructor
          · rintro ⟨-, h⟩; exact ⟨rfl, fun z => by omega, h⟩
          · rintro ⟨-, -, h⟩; exact ⟨rfl, h⟩
        · rw [if_neg (nI_nlt (by omega) (by omega)), px_ck _ (px_inb (show 4 * (4 * q + w) + k < 112 by omega) (by omega)), px_ck _ (px_inb (show 4 * (4 * q + w) + k < 112 by omega) (by omega)), px_ck _ (px_inb (show 4 * (4 * q + w) + k < 112 by omega) (by omega)), pm_isMet hk g1 (by omega) g3]
          rw [Option.bind_some]
          by_cases hmet : n.2.1 + 1 ≤ c n.1 ∧ c n.1 ≤ n.2.2 + 1
          · rw [if_pos hmet, if_neg (by decide)]
            obtain ⟨y, y1, y2, y3⟩ := ih (k + 1) 1 (by omega) (by omega) (Or.inr rfl)
            refine ⟨y, y1, y2, ?_⟩
            rw [y3]
            constructor
            · rintro ⟨-, h⟩; exact ⟨rfl, fun _ => hmet, h⟩
            · rintro ⟨-, -, h⟩; exact ⟨rfl, h⟩
          · rw [if_neg hmet, if_pos rfl]
            obtain ⟨y, y1, y2, y3⟩ := ih (k + 1) 0 (by omega) (by omega) (Or.inl rfl)
            refine ⟨y, y1, y2, ?_⟩
            rw [y3]
            constructor
            · rintro ⟨h, -⟩; exact absurd h (by decide)
            · rintro ⟨-, h, -⟩; exact absurd (h (by omega)) hmet
theorem pm_194 (hr : pm_rep th nd bn ask v) (hk : pm_pk v c) {p : Nat} (hp : p < 7) (h4 : ∀ q, q ≤ p → c q ≤ 4) : ∀ (m q : Nat) (x2 : Int32), q ≤ p + 1 → p + 1 - q < m → x2 = 0 ∨ x2 = 1 →
    ∃ y : Int32, (y = 0 ∨ y = 1) ∧ l_M_goes_194 v m (nI p) x2 (nI q) = some y ∧ (y = 1 ↔ x2 = 1 ∧ ∀ q2 w, q ≤ q2 → q2 ≤ p → c q2 = w + 1 → ∀ n ∈ nd q2 w, n.1 ≤ p → pd_met c n) := by
  intro m
  induction m with
  | zero => intro q x2 _ h; omega
  | succ m ih =>
    intro q x2 hq hm hx
    have hu : l_M_goes_194 v (m + 1) (nI p) x2 (nI q) = b_M_goes_194 v (l_M_goes_194 v m) (nI p) x2 (nI q) := rfl
    rw [hu]
    unfold b_M_goes_194
    have hB : isB x2 = true := by rcases hx with rfl | rfl <;> decide
    by_cases hpq : p < q
    · rw [if_pos (nI_lt hpq (by omega)), px_ck _ hB]
      exact ⟨x2, hx, rfl, fun h => ⟨h, fun q2 w h1 h2 => by omega⟩, fun h => h.1⟩
    · rw [if_neg (nI_nlt (by omega) (by omega))]
      rcases hx with rfl | rfl
      · rw [if_pos rfl, px_ck _ hB]
        exact ⟨0, Or.inl rfl, rfl, by simp⟩
      · rw [if_neg (by decide), px_ck _ (px_inb (show q < 7 by omega) (by omega)), nI_clamp (show q < 2 ^ 31 by omega)]
        obtain ⟨h1, h2⟩ := hk q (by omega)
        rw [h1]
        have hsplit : ∀ P : Nat → Nat → Prop, (∀ q2 w, q ≤ q2 → q2 ≤ p → P q2 w) ↔ (∀ w, P q w) ∧ ∀ q2 w, q + 1 ≤ q2 → q2 ≤ p → P q2 w := by
          intro P
          constructor
          · intro h; exact ⟨fun w => h q w (by omega) (by omega), fun q2 w k1 k2 => h q2 w (by omega) k2⟩
          · rintro ⟨h, h'⟩ q2 w k1 k2
            by_cases e : q2 = q
            · subst e; exact h w
            · exact h' q2 w (by omega) k2
        rw [hsplit (fun q2 w => c q2 = w + 1 → ∀ n ∈ nd q2 w, n.1 ≤ p → pd_met c n)]
        by_cases hc0 : c q = 0
        · have hu2 : l_M_goes_218 v (l_M_goes_194 v m) NF (nI p) 1 (nI q) ((4 : Int32) * nI q + (nI (c q) - 1)) 0 = l_M_goes_194 v m (nI p) 1 (nI (q + 1)) := by
            show b_M_goes_218 v (l_M_goes_194 v m) (l_M_goes_218 v (l_M_goes_194 v m) 999999) (nI p) 1 (nI q) _ 0 = _
            unfold b_M_goes_218
            rw [px_ck _ (px_inb (show q < 7 by omega) (by omega)), nI_clamp (show q < 2 ^ 31 by omega), h1, if_pos ((pm_m1 (by omega)).mpr hc0), nI_1]
          rw [hu2]
          obtain ⟨y, y1, y2, y3⟩ := ih (q + 1) 1 (by omega) (by omega) (Or.inr rfl)
          refine ⟨y, y1, y2, ?_⟩
          rw [y3]
          constructor
          · rintro ⟨-, h⟩; exact ⟨rfl, fun w e => by omega, h⟩
          · rintro ⟨-, -, h⟩; exact ⟨rfl, h⟩
        · obtain ⟨w, hw⟩ : ∃ w, c q = w + 1 := ⟨c q - 1, by omega⟩
          have hw4 : w < 4 := by have := h4 q (by omega); omega
          rw [hw, nI_pred, pm_4]
          obtain ⟨y, y1, y2, y3⟩ := pm_218 hr hk hp (show q < 7 by omega) hw4 hw (l_M_goes_194 v m) NF 0 1 (by omega) (by
            have := (hr.2.1 q w (by omega) hw4).2.1
            show _ < 1000000
            omega) (Or.inr rfl)
          rw [show (0 : Int32) = nI 0 from rfl, y2]
          obtain ⟨z, z1, z2, z3⟩ := ih (q + 1) y (by omega) (by omega) y1
          refine ⟨z, z1, z2, ?_⟩
          rw [z3, y3]
          constructor
          · rintro ⟨⟨-, h⟩, h'⟩
            refine ⟨rfl, fun w2 e n hn => ?_, h'⟩
            have : w2 = w := by omega
            subst this
            obtain ⟨j, hj⟩ := List.getElem?_of_mem hn
            exact h j n (by omega) hj
          · rintro ⟨-, h, h'⟩
            exact ⟨⟨rfl, fun j n _ hj => h w rfl n (List.mem_of_getElem? hj)⟩, h'⟩
/-- what goes(p) asks of the bans and of the needs -/
def pm_B (bn : List pd_B) (c : Nat → Nat) (p k : Nat) : Prop := ∀ j b, k ≤ j → bn[j]? = some b → b.1.1 ≤ p → b.2.1 ≤ p → ¬ (c b.1.1 = b.1.2 + 1 ∧ c b.2.1 = b.2.2 + 1)
def pm_N (nd : Nat → Nat → List pd_N) (c : Nat → Nat) (p : Nat) : Prop := ∀ q w, q ≤ p → c q = w + 1 → ∀ n ∈ nd q w, n.1 ≤ p → pd_met c n
def pm_K (ask : List pd_N) (mk : Nat → Bool) (c : Nat → Nat) (p i : Nat) : Prop := ∀ j n, i ≤ j → mk j = true → ask[j]? = some n → n.1 = p → pd_met c n
theorem pm_100 (hr : pm_rep th nd bn ask v) (hk : pm_pk v c) {p : Nat} (hp : p < 7) (h4 : ∀ q, q ≤ p → c q ≤ 4) : ∀ (m k : Nat) (x2 : Int32), k ≤ bn.length → bn.length - k < m → x2 = 0 ∨ x2 = 1 →
    ∃ y : Int32, (y = 0 ∨ y = 1) ∧ l_M_goes_100 v m (nI p) x2 (nI k) = some y ∧ (y = 1 ↔ x2 = 1 ∧ pm_B bn c p k ∧ pm_N nd c p) := by
  obtain ⟨b1, b2, b3⟩ := hr.2.2.1
  have fin : ∀ x2 : Int32, x2 = 0 ∨ x2 = 1 → ∃ y : Int32, (y = 0 ∨ y = 1) ∧ l_M_goes_194 v NF (nI p) x2 0 = some y ∧ (y = 1 ↔ x2 = 1 ∧ pm_N nd c p) := fun x2 hx => by
    obtain ⟨y, y1, y2, y3⟩ := pm_194 hr hk hp h4 NF 0 x2 (by omega) (by show _ < 1000000; omega) hx
    refine ⟨y, y1, y2, ?_⟩
    rw [y3]
    constructor
    · rintro ⟨h, h'⟩; exact ⟨h, fun q w hq => h' q w (by omega) hq⟩
    · rintro ⟨h, h'⟩; exact ⟨h, fun q w _ hq => h' q w hq⟩
  intro m
  induction m with
  | zero => intro k x2 _ h; omega
  | succ m ih =>
    intro k x2 hkl hm hx
    have hu : l_M_goes_100 v (m + 1) (nI p) x2 (nI k) = b_M_goes_100 v (l_M_goes_100 v m) (nI p) x2 (nI k) := rfl
    rw [hu]
    unfold b_M_goes_100
    rw [b1]
    by_cases hle : bn.length ≤ k
    · rw [if_pos (nI_le hle (by omega))]
      obtain ⟨y, y1, y2, y3⟩ := fin x2 hx
      refine ⟨y, y1, y2, ?_⟩
      rw [y3]
      constructor
      · rintro ⟨h, h'⟩
        refine ⟨h, fun j b hj hb => ?_, h'⟩
        have := (List.getElem?_eq_some_iff.mp hb).1
        omega
      · rintro ⟨h, -, h'⟩; exact ⟨h, h'⟩
    · rw [if_neg (nI_ge (by omega) (by omega))]
      rcases hx with rfl | rfl
      · rw [if_pos rfl]
        obtain ⟨y, y1, y2, y3⟩ := fin 0 (Or.inl rfl)
        refine ⟨y, y1, y2, ?_⟩
        rw [y3]
        constructor
        · rintro ⟨h, -⟩; exact absurd h (by decide)
        · rintro ⟨h, -⟩; exact absurd h (by decide)
      · rw [if_neg (by decide)]
        obtain ⟨b, hb⟩ : ∃ b, bn[k]? = some b := ⟨_, List.getElem?_eq_getElem (by omega)⟩
        obtain ⟨m1, m2, g1, g2, g3, g4⟩ := b3 k b hb
        have hsplit : pm_B bn c p k ↔ (b.1.1 ≤ p → b.2.1 ≤ p → ¬ (c b.1.1 = b.1.2 + 1 ∧ c b.2.1 = b.2.2 + 1)) ∧ pm_B bn c p (k + 1) := by
          constructor
          · intro h; exact ⟨h k b (by omega) hb, fun j b' hj => h j b' (by omega)⟩
          · rintro ⟨h, h'⟩ j b' hj hb'
            by_cases e : j = k
            · subst e; rw [hb] at hb'; cases hb'; exact h
            · exact h' j b' (by omega) hb'
        have hi : k < 16 := by omega
        have d1 : nI (4 * b.1.1 + b.1.2) / (4 : Int32) = nI b.1.1 := by
          rw [show (4 : Int32) = nI 4 from rfl, pk_div (by omega) (by omega) (by omega)]; congr 1; omega
        have d2 : nI (4 * b.2.1 + b.2.2) / (4 : Int32) = nI b.2.1 := by
          rw [show (4 : Int32) = nI 4 from rfl, pk_div (by omega) (by omega) (by omega)]; congr 1; omega
        have e1 : nI (4 * b.1.1 + b.1.2) - nI (4 * b.1.1 + b.1.2) / (4 : Int32) * (4 : Int32) = nI b.1.2 := by
          rw [show (4 : Int32) = nI 4 from rfl, pk_rem (by omega) (by omega) (by omega)]; congr 1; omega
        have e2 : nI (4 * b.2.1 + b.2.2) - nI (4 * b.2.1 + b.2.2) / (4 : Int32) * (4 : Int32) = nI b.2.2 := by
          rw [show (4 : Int32) = nI 4 from rfl, pk_rem (by omega) (by omega) (by omega)]; congr 1; omega
        rw [px_ck _ (px_inb hi (by omega)), px_ck _ (px_inb hi (by omega)), nI_clamp (show k < 2 ^ 31 by omega), m1, m2, e1, e2, d1, d2, nI_1, hsplit]
        have one : (b.1.1 ≤ p → b.2.1 ≤ p → ¬ (c b.1.1 = b.1.2 + 1 ∧ c b.2.1 = b.2.2 + 1)) → ∃ y : Int32, (y = 0 ∨ y = 1) ∧ l_M_goes_100 v m (nI p) 1 (nI (k + 1)) = some y ∧ (y = 1 ↔ (1 : Int32) = 1 ∧ ((b.1.1 ≤ p → b.2.1 ≤ p → ¬ (c b.1.1 = b.1.2 + 1 ∧ c b.2.1 = b.2.2 + 1)) ∧ pm_B bn c p (k + 1)) ∧ pm_N nd c p) := fun hB => by
          obtain ⟨y, y1, y2, y3⟩ := ih (k + 1) 1 (by omega) (by omega) (Or.inr rfl)
          refine ⟨y, y1, y2, ?_⟩
          rw [y3]
          constructor
          · rintro ⟨-, h, h'⟩; exact ⟨rfl, ⟨hB, h⟩, h'⟩
          · rintro ⟨-, ⟨-, h⟩, h'⟩; exact ⟨rfl, h, h'⟩
        by_cases k1 : p < b.1.1
        · rw [if_pos (nI_lt k1 (by omega))]; exact one (fun z => by omega)
        · rw [if_neg (nI_nlt (by omega) (by omega))]
          by_cases k2 : p < b.2.1
          · rw [if_pos (nI_lt k2 (by omega))]; exact one (fun _ z => by omega)
          · rw [if_neg (nI_nlt (by omega) (by omega)), px_ck _ (px_inb g1 (by omega)), px_ck _ (px_inb hi (by omega)), nI_clamp (show b.1.1 < 2 ^ 31 by omega), (hk b.1.1 g1).1]
            have q1 := (hk b.1.1 g1).2
            have q2 := (hk b.2.1 g3).2
            by_cases k3 : c b.1.1 = b.1.2 + 1
            · rw [if_pos ((pm_eq (by omega) (by omega)).mpr k3), px_ck _ (px_inb g3 (by omega)), px_ck _ (px_inb hi (by omega)), nI_clamp (show b.2.1 < 2 ^ 31 by omega), (hk b.2.1 g3).1]
              by_cases k4 : c b.2.1 = b.2.2 + 1
              · rw [if_pos ((pm_eq (by omega) (by omega)).mpr k4)]
                obtain ⟨y, y1, y2, y3⟩ := ih (k + 1) 0 (by omega) (by omega) (Or.inl rfl)
                refine ⟨y, y1, y2, ?_⟩
                rw [y3]
                constructor
                · rintro ⟨h, -⟩; exact absurd h (by decide)
                · rintro ⟨-, ⟨h, -⟩, -⟩; exact absurd ⟨k3, k4⟩ (h (by omega) (by omega))
              · rw [if_neg (fun z => k4 ((pm_eq (by omega) (by omega)).mp z))]
                exact one (fun _ _ z => k4 z.2)
            · rw [if_neg (fun z => k3 ((pm_eq (by omega) (by omega)).mp z))]
              exact one (fun _ _ z => k3 z.1)
theorem pm_36 (hr : pm_rep th nd bn ask v) (hk : pm_pk v c) {p : Nat} (hp : p < 7) (h4 : ∀ q, q ≤ p → c q ≤ 4) : ∀ (m i : Nat) (x2 : Int32), i ≤ ask.length → ask.length - i < m → x2 = 0 ∨ x2 = 1 →
    ∃ y : Int32, (y = 0 ∨ y = 1) ∧ l_M_goes_36 v m (nI p) x2 (nI i) = some y ∧ (y = 1 ↔ x2 = 1 ∧ pm_K ask (bt (v.1 3)) c p i ∧ pm_B bn c p 0 ∧ pm_N nd c p) := by
  obtain ⟨a1, a2, a3⟩ := hr.2.2.2
  intro m
  induction m with
  | zero => intro i x2 _ h; omega
  | succ m ih =>
    intro i x2 hil hm hx
    have hu : l_M_goes_36 v (m + 1) (nI p) x2 (nI i) = b_M_goes_36 v (l_M_goes_36 v m) (nI p) x2 (nI i) := rfl
    rw [hu]
    unfold b_M_goes_36
    rw [a1]
    by_cases hle : ask.length ≤ i
    · rw [if_pos (nI_le hle (by omega))]
      obtain ⟨y, y1, y2, y3⟩ := pm_100 hr hk hp h4 NF 0 x2 (by omega) (by have := hr.2.2.1.2.1; show _ < 1000000; omega) hx
      refine ⟨y, y1, y2, ?_⟩
      rw [y3]
      constructor
      · rintro ⟨h, h'⟩
        refine ⟨h, fun j n hj _ hn => ?_, h'⟩
        have := (List.getElem?_eq_some_iff.mp hn).1
        omega
      · rintro ⟨h, -, h'⟩; exact ⟨h, h'⟩
    · rw [if_neg (nI_ge (by omega) (by omega))]
      rcases hx with rfl | rfl
      · rw [if_pos rfl, nI_1]
        obtain ⟨y, y1, y2, y3⟩ := ih (i + 1) 0 (by omega) (by omega) (Or.inl rfl)
        refine ⟨y, y1, y2, ?_⟩
        rw [y3]
        constructor
        · rintro ⟨h, -⟩; exact absurd h (by decide)
        · rintro ⟨h, -⟩; exact absurd h (by decide)
      · rw [if_neg (by decide), nI_1]
        obtain ⟨n, hn⟩ : ∃ n, ask[i]? = some n := ⟨_, List.getElem?_eq_getElem (by omega)⟩
        obtain ⟨m1, m2, m3, g1, g2, g3⟩ := a3 i n hn
        have hsplit : pm_K ask (bt (v.1 3)) c p i ↔ (bt (v.1 3) i = true → n.1 = p → pd_met c n) ∧ pm_K ask (bt (v.1 3)) c p (i + 1) := by
          constructor
          · intro h; exact ⟨fun k => h i n (by omega) k hn, fun j n' hj => h j n' (by omega)⟩
          · rintro ⟨h, h'⟩ j n' hj kj hn'
            by_cases e : j = i
            · subst e; rw [hn] at hn'; cases hn'; exact h kj
            · exact h' j n' (by omega) kj hn'
        rw [hsplit]
        have one : (bt (v.1 3) i = true → n.1 = p → pd_met c n) → ∃ y : Int32, (y = 0 ∨ y = 1) ∧ l_M_goes_36 v m (nI p) 1 (nI (i + 1)) = some y ∧ (y = 1 ↔ (1 : Int32) = 1 ∧ ((bt (v.1 3) i = true → n.1 = p → pd_met c n) ∧ pm_K ask (bt (v.1 3)) c p (i + 1)) ∧ pm_B bn c p 0 ∧ pm_N nd c p) := fun hB => by
          obtain ⟨y, y1, y2, y3⟩ := ih (i + 1) 1 (by omega) (by omega) (Or.inr rfl)
          refine ⟨y, y1, y2, ?_⟩
          rw [y3]
          constructor
          · rintro ⟨-, h, h'⟩; exact ⟨rfl, ⟨hB, h⟩, h'⟩
          · rintro ⟨-, ⟨-, h⟩, h'⟩; exact ⟨rfl, h, h'⟩
        have hi6 : i < 6 := by omega
        by_cases kc : bt (v.1 3) i = true
        · rw [if_neg (fun z => by rw [(pm_counts v (by omega)).mp z] at kc; cases kc), px_ck _ (px_inb hi6 (by omega)), nI_clamp (show i < 2 ^ 31 by omega), m1]
          by_cases ke : n.1 = p
          · rw [if_pos ((nI_eq (by omega) (by omega)).mpr ke), px_ck _ (px_inb hi6 (by omega)), px_ck _ (px_inb hi6 (by omega)), m2, m3, pm_isMet hk hp (by omega) g3]
            rw [Option.bind_some]
            by_cases hmet : n.2.1 + 1 ≤ c p ∧ c p ≤ n.2.2 + 1
            · rw [if_pos hmet, if_neg (by decide)]
              exact one (fun _ _ => by unfold pd_met; rw [ke]; exact hmet)
            · rw [if_neg hmet, if_pos rfl]
              obtain ⟨y, y1, y2, y3⟩ := ih (i + 1) 0 (by omega) (by omega) (Or.inl rfl)
              refine ⟨y, y1, y2, ?_⟩
              rw [y3]
              constructor
              · rintro ⟨h, -⟩; exact absurd h (by decide)
              · rintro ⟨-, ⟨h, -⟩, -⟩
                have := h kc ke
                unfold pd_met at this
                rw [ke] at this
                exact absurd this hmet
          · rw [if_neg (fun z => ke ((nI_eq (by omega) (by omega)).mp z))]
            exact one (fun _ z => absurd z ke)
        · rw [if_pos ((pm_counts v (by omega)).mpr (by simpa using kc))]
          exact one (fun z => absurd z kc)
/-- goes(p) -/
def pm_G (th : Nat → Nat → Bool) (nd : Nat → Nat → List pd_N) (bn : List pd_B) (ask : List pd_N) (mk : Nat → Bool) (c : Nat → Nat) (p : Nat) : Prop :=
  (∀ w, c p = w + 1 → th p w = true) ∧ pm_K ask mk c p 0 ∧ pm_B bn c p 0 ∧ pm_N nd c p
theorem pm_goes (hr : pm_rep th nd bn ask v) (hk : pm_pk v c) {p : Nat} (hp : p < 7) (h4 : ∀ q, q ≤ p → c q ≤ 4) : ∃ y : Int32, (y = 0 ∨ y = 1) ∧ f_M_goes (nI p) v = some y ∧ (y = 1 ↔ pm_G th nd bn ask (bt (v.1 3)) c p) := by
  have hl : ask.length - 0 < NF := by have := hr.2.2.2.2.1; show _ < 1000000; omega
  unfold f_M_goes
  obtain ⟨h1, h2⟩ := hk p hp
  rw [px_ck _ (px_inb hp (by omega)), nI_clamp (show p < 2 ^ 31 by omega), h1]
  by_cases h0 : c p = 0
  · rw [if_pos ((pm_m1 (by omega)).mpr h0)]
    obtain ⟨y, y1, y2, y3⟩ := pm_36 hr hk hp h4 NF 0 1 (by omega) hl (Or.inr rfl)
    refine ⟨y, y1, y2, ?_⟩
    rw [y3]
    unfold pm_G
    constructor
    · rintro ⟨-, h⟩; exact ⟨fun w e => by omega, h⟩
    · rintro ⟨-, h⟩; exact ⟨rfl, h⟩
  · obtain ⟨w, hw⟩ : ∃ w, c p = w + 1 := ⟨c p - 1, by omega⟩
    have hw4 : w < 4 := by have := h4 p (by omega); omega
    rw [if_neg (fun z => h0 ((pm_m1 (by omega)).mp z)), px_ck _ (px_inb hp (by omega)), hw, nI_pred, pm_4, px_ck _ (px_inb (show 4 * p + w < 28 by omega) (by omega)), nI_clamp (show 4 * p + w < 2 ^ 31 by omega), hr.1 p w hp hw4]
    by_cases ht : th p w = true
    · rw [if_pos ht, if_neg (by decide)]
      obtain ⟨y, y1, y2, y3⟩ := pm_36 hr hk hp h4 NF 0 1 (by omega) hl (Or.inr rfl)
      refine ⟨y, y1, y2, ?_⟩
      rw [y3]
      unfold pm_G
      constructor
      · rintro ⟨-, h⟩
        refine ⟨fun w2 e => ?_, h⟩
        have : w2 = w := by omega
        subst this; exact ht
      · rintro ⟨-, h⟩; exact ⟨rfl, h⟩
    · rw [if_neg ht, if_pos rfl]
      obtain ⟨y, y1, y2, y3⟩ := pm_36 hr hk hp h4 NF 0 0 (by omega) hl (Or.inl rfl)
      refine ⟨y, y1, y2, ?_⟩
      rw [y3]
      unfold pm_G
      constructor
      · rintro ⟨h, -⟩; exact absurd h (by decide)
      · rintro ⟨h, -⟩; exact absurd (h w hw) ht
end PM
end
section
/-! isTight -/
def pm_fr (v v' : PS) : Prop := v'.1 = v.1 ∧ ∀ k, k ≠ 11 → v'.2 k = v.2 k
theorem pm_fr.rf (v : PS) : pm_fr v v := ⟨rfl, fun _ _ => rfl⟩
theorem pm_fr.tr {a b c : PS} (h : pm_fr a b) (h2 : pm_fr b c) : pm_fr a c := ⟨h2.1.trans h.1, fun k hk => (h2.2 k hk).trans (h.2 k hk)⟩
theorem pm_frsa (v : PS) (i : Nat) (x : Int32) : pm_fr v (sa v 11 i x) := ⟨rfl, fun k hk => by unfold sa; simp [va_up, hk]⟩
def pm_W (v : PS) (W : Nat → Bool) : Prop := ∀ p, p < 7 → v.2 11 p = (if W p = true then 1 else 0)
theorem pm_sa11 (v : PS) (i : Nat) (x : Int32) (j : Nat) : (sa v 11 i x).2 11 j = if j = i then x else v.2 11 j := by
  unfold sa; simp [va_up, upd]
theorem pm_W.set {v : PS} {W : Nat → Bool} (h : pm_W v W) (q : Nat) : pm_W (sa v 11 q 1) (fun p => W p || decide (p = q)) := by
  intro p hp
  rw [pm_sa11]
  by_cases e : p = q
  · simp [e]
  · rw [if_neg e, h p hp]; simp [e]
theorem pm_W.is0 {v : PS} {W : Nat → Bool} (h : pm_W v W) {p : Nat} (hp : p < 7) : v.2 11 p = 0 ↔ W p = false := by
  rw [h p hp]
  cases W p <;> decide
theorem pm_rep.fr {th : Nat → Nat → Bool} {nd : Nat → Nat → List pd_N} {bn : List pd_B} {ask : List pd_N} {v v' : PS} (hr : pm_rep th nd bn ask v) (h : pm_fr v v') : pm_rep th nd bn ask v' := by
  unfold pm_rep
  rw [h.1, h.2 0 (by omega), h.2 1 (by omega), h.2 2 (by omega), h.2 3 (by omega), h.2 4 (by omega), h.2 5 (by omega), h.2 6 (by omega), h.2 7 (by omega), h.2 8 (by omega), h.2 9 (by omega)]
  exact hr
theorem pm_pk.fr {v v' : PS} {c : Nat → Nat} (hk : pm_pk v c) (h : pm_fr v v') : pm_pk v' c := by
  unfold pm_pk; rw [h.2 10 (by omega)]; exact hk
section PT
variable {th : Nat → Nat → Bool} {nd : Nat → Nat → List pd_N} {bn : List pd_B} {ask : List pd_N} {c : Nat → Nat}
theorem pm_t180 {v : PS} {W : Nat → Bool} (hk : pm_pk v c) (hW : pm_W v W) : ∀ (m i : Nat) (x2 : Int32), i ≤ 7 → 7 - i < m → x2 = 0 ∨ x2 = 1 →
    ∃ y : Int32, (y = 0 ∨ y = 1) ∧ l_M_isTight_180 m x2 (nI i) v = some (y, v) ∧ (y = 1 ↔ x2 = 1 ∧ ∀ p, i ≤ p → p < 7 → c p ≠ 0 → W p = true) := by
  intro m
  induction m with
  | zero => intro i x2 _ h; omega
  | succ m ih =>
    intro i x2 hi hm hx
    have hu : l_M_isTight_180 (m + 1) x2 (nI i) v = b_M_isTight_180 (l_M_isTight_180 m) x2 (nI i) v := rfl
    rw [hu]
    unfold b_M_isTight_180
    have hB : isB x2 = true := by rcases hx with rfl | rfl <;> decide
    by_cases h7 : 7 ≤ i
    · rw [if_pos (show (7 : Int32) ≤ nI i from nI_le (a := 7) h7 (by omega)), px_ck _ hB]
      exact ⟨x2, hx, rfl, fun h => ⟨h, fun p h1 h2 => by omega⟩, fun h => h.1⟩
    · rw [if_neg (show ¬ (7 : Int32) ≤ nI i from nI_ge (b := 7) (by omega) (by omega)), nI_1]
      have hi7 : i < 7 := by omega
      have hsplit : (∀ p, i ≤ p → p < 7 → c p ≠ 0 → W p = true) ↔ (c i ≠ 0 → W i = true) ∧ ∀ p, i + 1 ≤ p → p < 7 → c p ≠ 0 → W p = true := by
        constructor
        · intro h; exact ⟨h i (by omega) hi7, fun p h1 => h p (by omega)⟩
        · rintro ⟨h, h'⟩ p h1 h2
          by_cases e : p = i
          · subst e; exact h
          · exact h' p (by omega) h2
      rw [hsplit]
      rcases hx with rfl | rfl
      · rw [if_pos rfl]
        obtain ⟨y, y1, y2, y3⟩ := ih (i + 1) 0 (by omega) (by omega) (Or.inl rfl)
        refine ⟨y, y1, y2, ?_⟩
        rw [y3]
        constructor
        · rintro ⟨h, -⟩; exact absurd h (by decide)
        · rintro ⟨h, -⟩; exact absurd h (by decide)
      · rw [if_neg (by decide), px_ck _ (px_inb hi7 (by omega)), nI_clamp (show i < 2 ^ 31 by omega)]
        have one : (c i ≠ 0 → W i = true) → ∃ y : Int32, (y = 0 ∨ y = 1) ∧ l_M_isTight_180 m 1 (nI (i + 1)) v = some (y, v) ∧ (y = 1 ↔ (1 : Int32) = 1 ∧ (c i ≠ 0 → W i = true) ∧ ∀ p, i + 1 ≤ p → p < 7 → c p ≠ 0 → W p = true) := fun h0 => by
          obtain ⟨y, y1, y2, y3⟩ := ih (i + 1) 1 (by omega) (by omega) (Or.inr rfl)
          refine ⟨y, y1, y2, ?_⟩
          rw [y3]
          constructor
          · rintro ⟨-, h⟩; exact ⟨rfl, h0, h⟩
          · rintro ⟨-, -, h⟩; exact ⟨rfl, h⟩
        by_cases kW : W i = true
        · rw [if_neg (fun z => by rw [(hW.is0 hi7).mp z] at kW; cases kW)]
          exact one (fun _ => kW)
        · rw [if_pos ((hW.is0 hi7).mpr (by simpa using kW)), px_ck _ (px_inb hi7 (by omega)), (hk i hi7).1]
          have q := (hk i hi7).2
          by_cases k0 : c i = 0
          · rw [if_pos ((pm_m1 (by omega)).mpr k0)]
            exact one (fun z => absurd k0 z)
          · rw [if_neg (fun z => k0 ((pm_m1 (by omega)).mp z))]
            obtain ⟨y, y1, y2, y3⟩ := ih (i + 1) 0 (by omega) (by omega) (Or.inl rfl)
            refine ⟨y, y1, y2, ?_⟩
            rw [y3]
            constructor
            · rintro ⟨h, -⟩; exact absurd h (by decide)
            · rintro ⟨-, h, -⟩; exact absurd (h k0) kW
theorem pm_t109 {v0 : PS} (hr0 : pm_rep th nd bn ask v0) {p w : Nat} (hp : p < 7) (hw : w < 4) (k59 : Int32 → PS → Option (Int32 × PS)) (k67 : Int32 → Int32 → PS → Option (Int32 × PS)) : ∀ (m k : Nat) (x1 : Int32) (v : PS) (W : Nat → Bool), k ≤ (nd p w).length → (nd p w).length - k < m → x1 = 0 ∨ x1 = 1 → pm_fr v0 v → pm_W v W →
    ∃ (y : Int32) (v' : PS) (W' : Nat → Bool), (y = 0 ∨ y = 1) ∧ pm_fr v0 v' ∧ pm_W v' W' ∧ l_M_isTight_109 k59 k67 m x1 (nI p) (nI (4 * p + w)) (nI k) v = k67 y (nI (p + 1)) v' ∧
      (∀ q, q < 7 → (W' q = true ↔ W q = true ∨ ∃ j n, k ≤ j ∧ (nd p w)[j]? = some n ∧ n.1 = q)) ∧ (y = 0 → x1 = 0 ∧ ∀ q, q < 7 → W' q = W q) ∧ (y = 1 → x1 = 1 ∨ ∃ q, q < 7 ∧ W' q = true ∧ W q = false) := by
  intro m
  induction m with
  | zero => intro k x1 v W _ h; omega
  | succ m ih =>
    intro k x1 v W hkl hm hx hfr hW
    have hr := hr0.fr hfr
    obtain ⟨n1, n2, n3⟩ := hr.2.1 p w hp hw
    have hu : l_M_isTight_109 k59 k67 (m + 1) x1 (nI p) (nI (4 * p + w)) (nI k) v = b_M_isTight_109 k59 k67 (l_M_isTight_109 k59 k67 m) x1 (nI p) (nI (4 * p + w)) (nI k) v := rfl
    rw [hu]
    unfold b_M_isTight_109
    rw [px_ck _ (px_inb (show 4 * p + w < 28 by omega) (by omega)), nI_clamp (show 4 * p + w < 2 ^ 31 by omega), n1]
    by_cases hle : (nd p w).length ≤ k
    · rw [if_pos (nI_le hle (by omega)), nI_1]
      refine ⟨x1, v, W, hx, hfr, hW, rfl, fun q hq => ⟨fun h => Or.inl h, ?_⟩, fun h => ⟨h, fun _ _ => rfl⟩, fun h => Or.inl h⟩
      rintro (h | ⟨j, n, h1, h2, -⟩)
      · exact h
      · have := (List.getElem?_eq_some_iff.mp h2).1
        omega
    · rw [if_neg (nI_ge (by omega) (by omega))]
      obtain ⟨n, hn⟩ : ∃ n, (nd p w)[k]? = some n := ⟨_, List.getElem?_eq_getElem (by omega)⟩
      obtain ⟨m1, -, -, g1, -, -⟩ := n3 k n hn
      rw [pm_4, px_ck _ (px_inb (show 4 * (4 * p + w) + k < 112 by omega) (by omega)), nI_clamp (show 4 * (4 * p + w) + k < 2 ^ 31 by omega), m1]
      have go : ∀ y0 : Int32, (y0 = 0 ∨ y0 = 1) → (y0 = 0 → x1 = 0 ∧ W n.1 = true) → (y0 = 1 → x1 = 1 ∨ W n.1 = false) → ∃ (y : Int32) (v' : PS) (W' : Nat → Bool), (y = 0 ∨ y = 1) ∧ pm_fr v0 v' ∧ pm_W v' W' ∧ b_M_isTight_152 k59 k67 (l_M_isTight_109 k59 k67 m) (nI p) (nI (4 * p + w)) (nI k) (nI n.1) y0 v = k67 y (nI (p + 1)) v' ∧
          (∀ q, q < 7 → (W' q = true ↔ W q = true ∨ ∃ j n, k ≤ j ∧ (nd p w)[j]? = some n ∧ n.1 = q)) ∧ (y = 0 → x1 = 0 ∧ ∀ q, q < 7 → W' q = W q) ∧ (y = 1 → x1 = 1 ∨ ∃ q, q < 7 ∧ W' q = true ∧ W q = false) := by
        intro y0 hy0 ha hb
        unfold b_M_isTight_152
        rw [px_ck _ (px_inb g1 (by omega)), nI_clamp (show n.1 < 2 ^ 31 by omega), nI_1]
        obtain ⟨y, v', W', y1, y2, y3, y4, y5, y6, y7⟩ := ih (k + 1) y0 (sa v 11 n.1 1) (fun p => W p || decide (p = n.1)) (by omega) (by omega) hy0 (hfr.tr (pm_frsa v n.1 1)) (hW.set n.1)
        refine ⟨y, v', W', y1, y2, y3, y4, fun q hq => ?_, fun h => ?_, fun h => ?_⟩
        · rw [y5 q hq]
          constructor
          · rintro (h | ⟨j, n', h1, h2, h3⟩)
            · rw [Bool.or_eq_true, decide_eq_true_eq] at h
              rcases h with h | h
              · exact Or.inl h
              · exact Or.inr ⟨k, n, by omega, hn, h.symm⟩
            · exact Or.inr ⟨j, n', by omega, h2, h3⟩
          · rintro (h | ⟨j, n', h1, h2, h3⟩)
            · exact Or.inl (by rw [h]; rfl)
            · by_cases e : j = k
              · subst e; rw [hn] at h2; cases h2
                exact Or.inl (by simp [h3])
              · exact Or.inr ⟨j, n', by omega, h2, h3⟩
        · obtain ⟨z1, z2⟩ := y6 h
          obtain ⟨z3, z4⟩ := ha z1
          refine ⟨z3, fun q hq => ?_⟩
          rw [z2 q hq]
          by_cases e : q = n.1
          · subst e; simp [z4]
          · simp [e]
        · rcases y7 h with z | ⟨q, q1, q2, q3⟩
          · rcases hb z with z | z
            · exact Or.inl z
            · refine Or.inr ⟨n.1, g1, ?_, z⟩
              rw [y5 n.1 g1]
              exact Or.inl (by simp)
          · refine Or.inr ⟨q, q1, q2, ?_⟩
            rw [Bool.or_eq_false_iff] at q3
            exact q3.1
      rcases hx with rfl | rfl
      · rw [if_pos rfl, px_ck _ (px_inb g1 (by omega)), nI_clamp (show n.1 < 2 ^ 31 by omega)]
        by_cases kW : W n.1 = true
        · rw [if_neg (fun z => by rw [(hW.is0 g1).mp z] at kW; cases kW)]
          exact go 0 (Or.inl rfl) (fun _ => ⟨rfl, kW⟩) (fun h => absurd h (by decide))
        · rw [if_pos ((hW.is0 g1).mpr (by simpa using kW))]
          exact go 1 (Or.inr rfl) (fun h => absurd h (by decide)) (fun _ => Or.inr (by simpa using kW))
      · rw [if_neg (by decide)]
        exact go 1 (Or.inr rfl) (fun h => absurd h (by decide)) (fun _ => Or.inl rfl)
/-- closed under the needs of what is chosen -/
def pm_cl (nd : Nat → Nat → List pd_N) (c : Nat → Nat) (i : Nat) (W : Nat → Bool) : Prop := ∀ p w, i ≤ p → p < 7 → W p = true → c p = w + 1 → ∀ n ∈ nd p w, W n.1 = true
theorem pm_t67 {v0 : PS} (hr0 : pm_rep th nd bn ask v0) (hk0 : pm_pk v0 c) (h4 : ∀ q, q < 7 → c q ≤ 4) (k59 : Int32 → PS → Option (Int32 × PS)) : ∀ (m i : Nat) (x1 : Int32) (v : PS) (W : Nat → Bool), i ≤ 7 → 7 - i < m → x1 = 0 ∨ x1 = 1 → pm_fr v0 v → pm_W v W →
    ∃ (y : Int32) (v' : PS) (W' : Nat → Bool), (y = 0 ∨ y = 1) ∧ pm_fr v0 v' ∧ pm_W v' W' ∧ l_M_isTight_67 k59 m x1 (nI i) v = k59 y v' ∧ (∀ q, q < 7 → W q = true → W' q = true) ∧
      (y = 0 → x1 = 0 ∧ (∀ q, q < 7 → W' q = W q) ∧ pm_cl nd c i W) ∧ (y = 1 → x1 = 1 ∨ ∃ q, q < 7 ∧ W' q = true ∧ W q = false) ∧ (∀ C : Nat → Bool, pm_cl nd c 0 C → (∀ q, q < 7 → W q = true → C q = true) → ∀ q, q < 7 → W' q = true → C q = true) := by
  intro m
  induction m with
  | zero => intro i x1 v W _ h; omega
  | succ m ih =>
    intro i x1 v W hi hm hx hfr hW
    have hr := hr0.fr hfr
    have hk := hk0.fr hfr
    have hu : l_M_isTight_67 k59 (m + 1) x1 (nI i) v = b_M_isTight_67 k59 (l_M_isTight_67 k59 m) x1 (nI i) v := rfl
    rw [hu]
    unfold b_M_isTight_67
    by_cases h7 : 7 ≤ i
    · rw [if_pos (show (7 : Int32) ≤ nI i from nI_le (a := 7) h7 (by omega))]
      exact ⟨x1, v, W, hx, hfr, hW, rfl, fun _ _ h => h, fun h => ⟨h, fun _ _ => rfl, fun p w h1 h2 => by omega⟩, fun h => Or.inl h, fun C _ h => h⟩
    · have hi7 : i < 7 := by omega
      rw [if_neg (show ¬ (7 : Int32) ≤ nI i from nI_ge (b := 7) (by omega) (by omega)), px_ck _ (px_inb hi7 (by omega)), nI_clamp (show i < 2 ^ 31 by omega)]
      have skip : (W i = true → c i = 0) → ∃ (y : Int32) (v' : PS) (W' : Nat → Bool), (y = 0 ∨ y = 1) ∧ pm_fr v0 v' ∧ pm_W v' W' ∧ l_M_isTight_67 k59 m x1 (nI (i + 1)) v = k59 y v' ∧ (∀ q, q < 7 → W q = true → W' q = true) ∧
          (y = 0 → x1 = 0 ∧ (∀ q, q < 7 → W' q = W q) ∧ pm_cl nd c i W) ∧ (y = 1 → x1 = 1 ∨ ∃ q, q < 7 ∧ W' q = true ∧ W q = false) ∧ (∀ C : Nat → Bool, pm_cl nd c 0 C → (∀ q, q < 7 → W q = true → C q = true) → ∀ q, q < 7 → W' q = true → C q = true) := fun h0 => by
        obtain ⟨y, v', W', y1, y2, y3, y4, y5, y6, y7, y8⟩ := ih (i + 1) x1 v W (by omega) (by omega) hx hfr hW
        refine ⟨y, v', W', y1, y2, y3, y4, y5, fun h => ?_, y7, y8⟩
        obtain ⟨z1, z2, z3⟩ := y6 h
        refine ⟨z1, z2, fun p w k1 k2 k3 k4 => ?_⟩
        by_cases e : p = i
        · subst e
          have := h0 k3
          omega
        · exact z3 p w (by omega) k2 k3 k4
      by_cases kW : W i = true
      · rw [if_neg (fun z => by rw [(hW.is0 hi7).mp z] at kW; cases kW), px_ck _ (px_inb hi7 (by omega)), (hk i hi7).1]
        have q5 := (hk i hi7).2
        by_cases k0 : c i = 0
        · rw [if_pos ((pm_m1 (by omega)).mpr k0), nI_1]
          exact skip (fun _ => k0)
        · obtain ⟨w, hw⟩ : ∃ w, c i = w + 1 := ⟨c i - 1, by omega⟩
          have hw4 : w < 4 := by have := h4 i hi7; omega
          rw [if_neg (fun z => k0 ((pm_m1 (by omega)).mp z)), px_ck _ (px_inb hi7 (by omega)), hw, nI_pred, pm_4]
          obtain ⟨y, v', W', y1, y2, y3, y4, y5, y6, y7⟩ := pm_t109 hr0 hi7 hw4 k59 (l_M_isTight_67 k59 m) NF 0 x1 v W (by omega) (by
            have := (hr0.2.1 i w hi7 hw4).2.1
            show _ < 1000000
            omega) hx hfr hW
          rw [show (0 : Int32) = nI 0 from rfl, y4]
          obtain ⟨z, v2, W2, z1, z2, z3, z4, z5, z6, z7, z8⟩ := ih (i + 1) y v' W' (by omega) (by omega) y1 y2 y3
          have hmono : ∀ q, q < 7 → W q = true → W' q = true := fun q hq h => (y5 q hq).mpr (Or.inl h)
          refine ⟨z, v2, W2, z1, z2, z3, z4, fun q hq h => z5 q hq (hmono q hq h), fun h => ?_, fun h => ?_, fun C hC hWC => ?_⟩
          · obtain ⟨s1, s2, s3⟩ := z6 h
            obtain ⟨s4, s5⟩ := y6 s1
            refine ⟨s4, fun q hq => (s2 q hq).trans (s5 q hq), fun p w2 k1 k2 k3 k4 n hn => ?_⟩
            by_cases e : p = i
            · subst e
              have : w2 = w := by omega
              subst this
              obtain ⟨j, hj⟩ := List.getElem?_of_mem hn
              have g1 := ((hr0.2.1 p w2 k2 hw4).2.2 j n hj).2.2.2.1
              rw [← s5 n.1 g1, y5 n.1 g1]
              exact Or.inr ⟨j, n, by omega, hj, rfl⟩
            · have hp4 : w2 < 4 := by have := h4 p k2; omega
              obtain ⟨j, hj⟩ := List.getElem?_of_mem hn
              have g1 := ((hr0.2.1 p w2 k2 hp4).2.2 j n hj).2.2.2.1
              rw [← s5 n.1 g1]
              exact s3 p w2 (by omega) k2 (by rw [s5 p k2]; exact k3) k4 n hn
          · rcases z7 h with k | ⟨q, q1, q2, q3⟩
            · rcases y7 k with k | ⟨q, q1, q2, q3⟩
              · exact Or.inl k
              · exact Or.inr ⟨q, q1, z5 q q1 q2, q3⟩
            · refine Or.inr ⟨q, q1, q2, ?_⟩
              cases e : W q with
              | false => rfl
              | true => rw [hmono q q1 e] at q3; cases q3
          · refine z8 C hC fun q hq h => ?_
            rcases (y5 q hq).mp h with k | ⟨j, n, -, k2, k3⟩
            · exact hWC q hq k
            · rw [← k3]
              exact hC i w (by omega) hi7 (hWC i hi7 kW) hw n (List.mem_of_getElem? k2)
      · rw [if_pos ((hW.is0 hi7).mpr (by simpa using kW)), nI_1]
        exact skip (fun z => absurd z kW)
theorem pm_um_lt {W W' : Nat → Bool} (h : ∀ q, q < 7 → W q = true → W' q = true) (h2 : ∃ q, q < 7 ∧ W' q = true ∧ W q = false) : px_um W' < px_um W := by
  have key : ∀ a b : Bool, (a = true → b = true) → (!b).toNat ≤ (!a).toNat := by decide
  have k0 := key _ _ (h 0 (by omega))
  have k1 := key _ _ (h 1 (by omega))
  have k2 := key _ _ (h 2 (by omega))
  have k3 := key _ _ (h 3 (by omega))
  have k4 := key _ _ (h 4 (by omega))
  have k5 := key _ _ (h 5 (by omega))
  have k6 := key _ _ (h 6 (by omega))
  obtain ⟨q, hq, e1, e2⟩ := h2
  have e3 : (!W' q).toNat < (!W q).toNat := by rw [e1, e2]; decide
  unfold px_um
  rcases (show q = 0 ∨ q = 1 ∨ q = 2 ∨ q = 3 ∨ q = 4 ∨ q = 5 ∨ q = 6 by omega) with rfl | rfl | rfl | rfl | rfl | rfl | rfl <;> omega
theorem pm_t59 {v0 : PS} (hr0 : pm_rep th nd bn ask v0) (hk0 : pm_pk v0 c) (h4 : ∀ q, q < 7 → c q ≤ 4) : ∀ (m : Nat) (x1 : Int32) (v : PS) (W : Nat → Bool), px_um W + 1 < m → x1 = 0 ∨ x1 = 1 → (x1 = 0 → pm_cl nd c 0 W) → pm_fr v0 v → pm_W v W →
    ∃ (v' : PS) (W' : Nat → Bool), pm_fr v0 v' ∧ pm_W v' W' ∧ l_M_isTight_59 m x1 v = l_M_isTight_180 NF 1 0 v' ∧ (∀ q, q < 7 → W q = true → W' q = true) ∧ pm_cl nd c 0 W' ∧ (∀ C : Nat → Bool, pm_cl nd c 0 C → (∀ q, q < 7 → W q = true → C q = true) → ∀ q, q < 7 → W' q = true → C q = true) := by
  intro m
  induction m with
  | zero => intro x1 v W h; omega
  | succ m ih =>
    intro x1 v W hm hx hcl hfr hW
    have hu : l_M_isTight_59 (m + 1) x1 v = b_M_isTight_59 (l_M_isTight_59 m) x1 v := rfl
    rw [hu]
    unfold b_M_isTight_59
    rcases hx with rfl | rfl
    · rw [if_pos rfl]
      exact ⟨v, W, hfr, hW, rfl, fun _ _ h => h, hcl rfl, fun C _ h => h⟩
    · rw [if_neg (by decide)]
      obtain ⟨y, v', W', y1, y2, y3, y4, y5, y6, y7, y8⟩ := pm_t67 hr0 hk0 h4 (l_M_isTight_59 m) NF 0 0 v W (by omega) (by show _ < 1000000; omega) (Or.inl rfl) hfr hW
      rw [show (0 : Int32) = nI 0 from rfl]
      have y4' : l_M_isTight_67 (l_M_isTight_59 m) NF (nI 0) (nI 0) v = l_M_isTight_59 m y v' := y4
      rw [y4']
      have hstep : px_um W' + 1 < m ∨ y = 0 := by
        rcases y1 with h | h
        · exact Or.inr h
        · rcases y7 h with k | k
          · exact absurd k (by decide)
          · have := pm_um_lt y5 k
            exact Or.inl (by omega)
      rcases y1 with h | h
      · subst h
        obtain ⟨s1, s2, s3⟩ := y6 rfl
        have hm0 : ∃ m', m = m' + 1 := ⟨m - 1, by omega⟩
        obtain ⟨m', rfl⟩ := hm0
        refine ⟨v', W', y2, y3, ?_, y5, ?_, y8⟩
        · show b_M_isTight_59 (l_M_isTight_59 m') 0 v' = _
          unfold b_M_isTight_59
          rw [if_pos rfl]
          rfl
        · intro p w k1 k2 k3 k4 n hn
          have hp4 : w < 4 := by have := h4 p k2; omega
          obtain ⟨j, hj⟩ := List.getElem?_of_mem hn
          have g1 := ((hr0.2.1 p w k2 hp4).2.2 j n hj).2.2.2.1
          rw [s2 n.1 g1]
          exact s3 p w (by omega) k2 (by rw [← s2 p k2]; exact k3) k4 n hn
      · subst h
        have hlt : px_um W' + 1 < m := hstep.resolve_right (by decide)
        obtain ⟨v2, W2, z1, z2, z3, z4, z5, z6⟩ := ih 1 v' W' hlt (Or.inr rfl) (fun h => absurd h (by decide)) y2 y3
        exact ⟨v2, W2, z1, z2, z3, fun q hq h => z4 q hq (y5 q hq h), z5, fun C hC h => z6 C hC (y8 C hC h)⟩
theorem pm_t23 {v0 : PS} (hr0 : pm_rep th nd bn ask v0) : ∀ (m i : Nat) (v : PS) (W : Nat → Bool), i ≤ ask.length → ask.length - i < m → pm_fr v0 v → pm_W v W →
    ∃ (v' : PS) (W' : Nat → Bool), pm_fr v0 v' ∧ pm_W v' W' ∧ l_M_isTight_23 m (nI i) v = l_M_isTight_59 NF 1 v' ∧ (∀ q, q < 7 → (W' q = true ↔ W q = true ∨ ∃ j n, i ≤ j ∧ bt (v0.1 3) j = true ∧ ask[j]? = some n ∧ n.1 = q)) := by
  intro m
  induction m with
  | zero => intro i v W _ h; omega
  | succ m ih =>
    intro i v W hi hm hfr hW
    have hr := hr0.fr hfr
    obtain ⟨a1, a2, a3⟩ := hr.2.2.2
    have hu : l_M_isTight_23 (m + 1) (nI i) v = b_M_isTight_23 (l_M_isTight_23 m) (nI i) v := rfl
    rw [hu]
    unfold b_M_isTight_23
    rw [a1]
    by_cases hle : ask.length ≤ i
    · rw [if_pos (nI_le hle (by omega))]
      refine ⟨v, W, hfr, hW, rfl, fun q hq => ⟨fun h => Or.inl h, ?_⟩⟩
      rintro (h | ⟨j, n, h1, -, h2, -⟩)
      · exact h
      · have := (List.getElem?_eq_some_iff.mp h2).1
        omega
    · rw [if_neg (nI_ge (by omega) (by omega)), nI_1]
      obtain ⟨n, hn⟩ : ∃ n, ask[i]? = some n := ⟨_, List.getElem?_eq_getElem (by omega)⟩
      obtain ⟨m1, -, -, g1, -, -⟩ := a3 i n hn
      have hmk : v.1 3 = v0.1 3 := by rw [hfr.1]
      by_cases kc : bt (v0.1 3) i = true
      · rw [if_neg (fun z => by rw [← hmk, (pm_counts v (by omega)).mp z] at kc; cases kc), px_ck _ (px_inb (show i < 6 by omega) (by omega)), nI_clamp (show i < 2 ^ 31 by omega), m1, px_ck _ (px_inb g1 (by omega)), nI_clamp (show n.1 < 2 ^ 31 by omega)]
        obtain ⟨v', W', y1, y2, y3, y4⟩ := ih (i + 1) (sa v 11 n.1 1) (fun p => W p || decide (p = n.1)) (by omega) (by omega) (hfr.tr (pm_frsa v n.1 1)) (hW.set n.1)
        refine ⟨v', W', y1, y2, y3, fun q hq => ?_⟩
        rw [y4 q hq]
        constructor
        · rintro (h | ⟨j, n', h1, h0, h2, h3⟩)
          · rw [Bool.or_eq_true, decide_eq_true_eq] at h
            rcases h with h | h
            · exact Or.inl h
            · exact Or.inr ⟨i, n, by omega, kc, hn, h.symm⟩
          · exact Or.inr ⟨j, n', by omega, h0, h2, h3⟩
        · rintro (h | ⟨j, n', h1, h0, h2, h3⟩)
          · exact Or.inl (by rw [h]; rfl)
          · by_cases e : j = i
            · subst e; rw [hn] at h2; cases h2
              exact Or.inl (by simp [h3])
            · exact Or.inr ⟨j, n', by omega, h0, h2, h3⟩
      · rw [if_pos ((pm_counts v (by omega)).mpr (by rw [hmk]; simpa using kc))]
        obtain ⟨v', W', y1, y2, y3, y4⟩ := ih (i + 1) v W (by omega) (by omega) hfr hW
        refine ⟨v', W', y1, y2, y3, fun q hq => ?_⟩
        rw [y4 q hq]
        constructor
        · rintro (h | ⟨j, n', h1, h0, h2, h3⟩)
          · exact Or.inl h
          · exact Or.inr ⟨j, n', by omega, h0, h2, h3⟩
        · rintro (h | ⟨j, n', h1, h0, h2, h3⟩)
          · exact Or.inl h
          · by_cases e : j = i
            · subst e; exact absurd h0 kc
            · exact Or.inr ⟨j, n', by omega, h0, h2, h3⟩
theorem pm_t2 {v0 : PS} : ∀ (m i : Nat) (v : PS), i ≤ 7 → 7 - i < m → pm_fr v0 v → (∀ p, p < i → v.2 11 p = 0) →
    ∃ v' : PS, pm_fr v0 v' ∧ pm_W v' (fun _ => false) ∧ l_M_isTight_2 m (nI i) v = l_M_isTight_23 NF 0 v' := by
  intro m
  induction m with
  | zero => intro i v _ h; omega
  | succ m ih =>
    intro i v hi hm hfr h0
    have hu : l_M_isTight_2 (m + 1) (nI i) v = b_M_isTight_2 (l_M_isTight_2 m) (nI i) v := rfl
    rw [hu]
    unfold b_M_isTight_2
    by_cases h7 : 7 ≤ i
    · rw [if_pos (show (7 : Int32) ≤ nI i from nI_le (a := 7) h7 (by omega))]
      exact ⟨v, hfr, fun p hp => by rw [h0 p (by omega)]; rfl, rfl⟩
    · rw [if_neg (show ¬ (7 : Int32) ≤ nI i from nI_ge (b := 7) (by omega) (by omega)), px_ck _ (px_inb (show i < 7 by omega) (by omega)), nI_clamp (show i < 2 ^ 31 by omega), nI_1]
      refine ih (i + 1) _ (by omega) (by omega) (hfr.tr (pm_frsa v i 0)) fun p hp => ?_
      rw [pm_sa11]
      by_cases e : p = i
      · rw [if_pos e]
      · rw [if_neg e]; exact h0 p (by omega)
theorem pm_isTight {v : PS} (hr : pm_rep th nd bn ask v) (hk : pm_pk v c) (h4 : ∀ q, q < 7 → c q ≤ 4) : ∃ (y : Int32) (v' : PS), (y = 0 ∨ y = 1) ∧ pm_fr v v' ∧ f_M_isTight v = some (y, v') ∧ (y = 1 ↔ pd_tight nd (pd_sel ask (bt (v.1 3))) c) := by
  unfold f_M_isTight
  obtain ⟨v1, f1, w1, e1⟩ := pm_t2 (v0 := v) NF 0 v (by omega) (by show _ < 1000000; omega) (pm_fr.rf v) (fun p h => by omega)
  rw [show (0 : Int32) = nI 0 from rfl, e1]
  obtain ⟨v2, W2, f2, w2, e2, h2⟩ := pm_t23 hr NF 0 v1 _ (by omega) (by have := hr.2.2.2.2.1; show _ < 1000000; omega) f1 w1
  rw [show (0 : Int32) = nI 0 from rfl, e2]
  obtain ⟨v3, W3, f3, w3, e3, h3, h3', h3''⟩ := pm_t59 hr hk h4 NF 1 v2 W2 (by
    have : px_um W2 ≤ 7 := by
      unfold px_um
      have key : ∀ b : Bool, (!b).toNat ≤ 1 := by decide
      have := key (W2 0); have := key (W2 1); have := key (W2 2); have := key (W2 3); have := key (W2 4); have := key (W2 5); have := key (W2 6)
      omega
    show _ < 1000000
    omega) (Or.inr rfl) (fun h => absurd h (by decide)) f2 w2
  rw [e3]
  obtain ⟨y, y1, y2, y3⟩ := pm_t180 (hk.fr f3) w3 NF 0 1 (by omega) (by show _ < 1000000; omega) (Or.inr rfl)
  rw [show (0 : Int32) = nI 0 from rfl, y2]
  refine ⟨y, v3, y1, f3, rfl, ?_⟩
  rw [y3]
  have hW2 : ∀ q, q < 7 → (W2 q = true ↔ ∃ n ∈ pd_sel ask (bt (v.1 3)), n.1 = q) := fun q hq => by
    rw [h2 q hq]
    constructor
    · rintro (h | ⟨j, n, -, k1, k2, k3⟩)
      · cases h
      · exact ⟨n, (pd_sel_iff _ _ _).mpr ⟨j, k1, k2⟩, k3⟩
    · rintro ⟨n, hn, k3⟩
      obtain ⟨j, k1, k2⟩ := (pd_sel_iff _ _ _).mp hn
      exact Or.inr ⟨j, n, by omega, k1, k2, k3⟩
  have hsel7 : ∀ n ∈ pd_sel ask (bt (v.1 3)), n.1 < 7 := fun n hn => by
    obtain ⟨j, -, k2⟩ := (pd_sel_iff _ _ _).mp hn
    exact (hr.2.2.2.2.2 j n k2).2.2.2.1
  constructor
  · rintro ⟨-, h⟩ C hC p hp hc
    exact h3'' C (fun p w _ k2 k3 k4 n hn => hC.2 p w k2 k3 k4 n hn) (fun q hq k => by
      obtain ⟨n, hn, e⟩ := (hW2 q hq).mp k
      rw [← e]; exact hC.1 n hn) p hp (h p (by omega) hp hc)
  · intro h
    refine ⟨rfl, fun p _ hp hc => h W3 ⟨fun n hn => h3 n.1 (hsel7 n hn) ((hW2 n.1 (hsel7 n hn)).mpr ⟨n, hn, rfl⟩), fun p w k2 k3 k4 n hn => h3' p w (by omega) k2 k3 k4 n hn⟩ p hp hc⟩
end PT
end
section
/-! finds(): all choices in their order, greatest first -/
def pf_ext : Nat → (Nat → Nat) → List (Nat → Nat)
  | 0, c => [c]
  | k + 1, c => (List.range 5).reverse.flatMap (fun v => pf_ext k (va_up c (6 - k) v))
def pf_rest : Nat → (Nat → Nat) → List (Nat → Nat)
  | 0, _ => []
  | l + 1, c => (List.range (c l)).reverse.flatMap (fun v => pf_ext (6 - l) (va_up c l v)) ++ pf_rest l c
theorem pf_ext_congr : ∀ (k : Nat) (c d : Nat → Nat), k ≤ 7 → (∀ i, i < 7 - k ∨ 7 ≤ i → c i = d i) → pf_ext k c = pf_ext k d := by
  intro k
  induction k with
  | zero =>
    intro c d _ h
    have : c = d := funext fun i => h i (by omega)
    rw [this]
  | succ k ih =>
    intro c d hk h
    unfold pf_ext
    congr 1
    funext v
    refine ih _ _ (by omega) fun i hi => ?_
    unfold va_up
    by_cases e : i = 6 - k
    · rw [if_pos e, if_pos e]
    · rw [if_neg e, if_neg e]; exact h i (by omega)
theorem pf_rest_congr : ∀ (l : Nat) (c d : Nat → Nat), l ≤ 7 → (∀ i, i < l ∨ 7 ≤ i → c i = d i) → pf_rest l c = pf_rest l d := by
  intro l
  induction l with
  | zero => intro c d _ _; rfl
  | succ l ih =>
    intro c d hl h
    unfold pf_rest
    rw [h l (by omega), ih c d (by omega) (fun i hi => h i (by omega))]
    congr 2
    funext v
    refine pf_ext_congr _ _ _ (by omega) fun i hi => ?_
    unfold va_up
    by_cases e : i = l
    · rw [if_pos e, if_pos e]
    · rw [if_neg e, if_neg e]; exact h i (by omega)
theorem pf_R0 {l : Nat} {c : Nat → Nat} (h : c l = 0) : pf_rest (l + 1) c = pf_rest l c := by
  show (List.range (c l)).reverse.flatMap _ ++ pf_rest l c = _
  rw [h]; rfl
theorem pf_R1 {l v : Nat} {c : Nat → Nat} (hl : l < 7) (h : c l = v + 1) : pf_rest (l + 1) c = pf_ext (6 - l) (va_up c l v) ++ pf_rest (l + 1) (va_up c l v) := by
  show (List.range (c l)).reverse.flatMap (fun v => pf_ext (6 - l) (va_up c l v)) ++ pf_rest l c = pf_ext (6 - l) (va_up c l v) ++ ((List.range (va_up c l v l)).reverse.flatMap (fun z => pf_ext (6 - l) (va_up (va_up c l v) l z)) ++ pf_rest l (va_up c l v))
  rw [h, List.range_succ, List.reverse_append, List.reverse_singleton, List.singleton_append, List.flatMap_cons, va_up_self, List.append_assoc]
  congr 2
  · congr 1
    funext z
    rw [bx_uu]
  · refine pf_rest_congr l _ _ (by omega) fun i hi => ?_
    rw [va_up_ne _ _ (by omega)]
theorem pf_R2 {l : Nat} {c : Nat → Nat} (hl : l < 6) : pf_rest (l + 2) (va_up c (l + 1) 5) = pf_ext (6 - l) c ++ pf_rest (l + 1) c := by
  show (List.range (va_up c (l + 1) 5 (l + 1))).reverse.flatMap (fun z => pf_ext (6 - (l + 1)) (va_up (va_up c (l + 1) 5) (l + 1) z)) ++ pf_rest (l + 1) (va_up c (l + 1) 5) = _
  rw [va_up_self, pf_rest_congr (l + 1) (va_up c (l + 1) 5) c (by omega) (fun i hi => by rw [va_up_ne _ _ (by omega)])]
  obtain ⟨k, hk⟩ : ∃ k, 6 - l = k + 1 := ⟨5 - l, by omega⟩
  rw [hk]
  congr 1
  show _ = (List.range 5).reverse.flatMap (fun v => pf_ext k (va_up c (6 - k) v))
  congr 1
  funext z
  rw [bx_uu, show 6 - (l + 1) = k by omega, show 6 - k = l + 1 by omega]
theorem pf_ext_mem : ∀ (k : Nat) (c d : Nat → Nat), k ≤ 7 → (d ∈ pf_ext k c ↔ (∀ i, i < 7 - k ∨ 7 ≤ i → d i = c i) ∧ ∀ i, 7 - k ≤ i → i < 7 → d i ≤ 4) := by
  intro k
  induction k with
  | zero =>
    intro c d _
    unfold pf_ext
    rw [List.mem_singleton]
    constructor
    · intro h; subst h; exact ⟨fun _ _ => rfl, fun i h1 h2 => by omega⟩
    · intro h; exact funext fun i => h.1 i (by omega)
  | succ k ih =>
    intro c d hk
    unfold pf_ext
    rw [List.mem_flatMap]
    constructor
    · rintro ⟨v, hv, h⟩
      rw [List.mem_reverse, List.mem_range] at hv
      obtain ⟨h1, h2⟩ := (ih _ _ (by omega)).mp h
      refine ⟨fun i hi => ?_, fun i k1 k2 => ?_⟩
      · rw [h1 i (by omega), va_up_ne _ _ (by omega)]
      · by_cases e : i = 6 - k
        · rw [h1 i (by omega), e, va_up_self]; omega
        · exact h2 i (by omega) k2
    · rintro ⟨h1, h2⟩
      refine ⟨d (6 - k), ?_, (ih _ _ (by omega)).mpr ⟨fun i hi => ?_, fun i k1 k2 => h2 i (by omega) k2⟩⟩
      · rw [List.mem_reverse, List.mem_range]
        have := h2 (6 - k) (by omega) (by omega)
        omega
      · by_cases e : i = 6 - k
        · rw [e, va_up_self]
        · rw [va_up_ne _ _ e]; exact h1 i (by omega)
section PF
variable {th : Nat → Nat → Bool} {nd : Nat → Nat → List pd_N} {bn : List pd_B} {ask : List pd_N} {mk : Nat → Bool}
noncomputable def pf_F (th : Nat → Nat → Bool) (nd : Nat → Nat → List pd_N) (bn : List pd_B) (ak : List pd_N) (L : List (Nat → Nat)) : List (Nat → Nat) := L.filter (fun d => @decide (pd_val th nd bn ak d) (Classical.propDecidable _))
theorem pf_F_mem {ak : List pd_N} {L : List (Nat → Nat)} {d : Nat → Nat} : d ∈ pf_F th nd bn ak L ↔ d ∈ L ∧ pd_val th nd bn ak d := by
  unfold pf_F
  rw [List.mem_filter, @decide_eq_true_iff _ (Classical.propDecidable _)]
theorem pf_F_app {ak : List pd_N} (L M : List (Nat → Nat)) : pf_F th nd bn ak (L ++ M) = pf_F th nd bn ak L ++ pf_F th nd bn ak M := List.filter_append ..
theorem pf_F_nil {ak : List pd_N} {L : List (Nat → Nat)} (h : ∀ d ∈ L, ¬ pd_val th nd bn ak d) : pf_F th nd bn ak L = [] := by
  unfold pf_F
  rw [List.filter_eq_nil_iff]
  intro d hd
  rw [@decide_eq_true_iff _ (Classical.propDecidable _)]
  exact h d hd
theorem pf_F_one {ak : List pd_N} {d : Nat → Nat} (h : pd_val th nd bn ak d) : pf_F th nd bn ak [d] = [d] := by
  unfold pf_F
  rw [List.filter_cons, if_pos ((@decide_eq_true_iff _ (Classical.propDecidable _)).mpr h)]
  rfl
/-- a valid choice goes at every level; goes looks at nothing above -/
theorem pf_G_val (hgn : ∀ (i : Nat) (n : pd_N), ask[i]? = some n → pd_gn n) {c : Nat → Nat} (hv : pd_ok th nd bn (pd_sel ask mk) c) {p : Nat} (hp : p < 7) : pm_G th nd bn ask mk c p := by
  obtain ⟨o1, o2, o3, o4⟩ := hv
  refine ⟨fun w e => o1 p w hp e, fun j n _ hj hn _ => o2 n ((pd_sel_iff _ _ _).mpr ⟨j, hj, hn⟩), fun j b _ hb _ _ => o3 b (List.mem_of_getElem? hb), fun q w hq e n hn _ => o4 q w (by omega) e n hn⟩
theorem pf_G_ok (hb : ∀ (k : Nat) (b : pd_B), bn[k]? = some b → pd_gb b) (hnd : ∀ p w, p < 7 → w < 4 → ∀ n ∈ nd p w, n.1 < 7) (hgn : ∀ (i : Nat) (n : pd_N), ask[i]? = some n → pd_gn n) {c : Nat → Nat} (h4 : ∀ p, p < 7 → c p ≤ 4) (h : ∀ p, p < 7 → pm_G th nd bn ask mk c p) : pd_ok th nd bn (pd_sel ask mk) c := by
  refine ⟨fun p w hp e => (h p hp).1 w e, fun n hn => ?_, fun b hbm => ?_, fun p w hp e n hn => ?_⟩
  · obtain ⟨j, h1, h2⟩ := (pd_sel_iff _ _ _).mp hn
    exact (h n.1 (hgn j n h2).1).2.1 j n (by omega) h1 h2 rfl
  · obtain ⟨j, hj⟩ := List.getElem?_of_mem hbm
    have g := hb j b hj
    exact (h 6 (by omega)).2.2.1 j b (by omega) hj (by have := g.1; omega) (by have := g.2.2.1; omega)
  · have := h4 p hp
    exact (h 6 (by omega)).2.2.2 p w (by omega) e n hn (by have := hnd p w hp (by omega) n hn; omega)
theorem pf_G_congr (hnd : ∀ p w, p < 7 → w < 4 → ∀ n ∈ nd p w, n.1 < 7) {c d : Nat → Nat} {p : Nat} (h : ∀ i, i ≤ p → c i = d i) (hc : pm_G th nd bn ask mk c p) : pm_G th nd bn ask mk d p := by
  obtain ⟨h1, h2, h3, h4⟩ := hc
  refine ⟨fun w e => h1 w (by rw [h p (by omega)]; exact e), fun j n hj hm hn e => ?_, fun j b hj hb k1 k2 => ?_, fun q w hq e n hn hn1 => ?_⟩
  · have := h2 j n hj hm hn e
    unfold pd_met at this ⊢
    rw [← h n.1 (by omega)]; exact this
  · rw [← h _ k1, ← h _ k2]; exact h3 j b hj hb k1 k2
  · have := h4 q w hq (by rw [h q hq]; exact e) n hn hn1
    unfold pd_met at this ⊢
    rw [← h n.1 hn1]; exact this
def pf_t : Nat → Nat
  | 0 => 1
  | k + 1 => 2 + 5 * pf_t k
def pf_mu : Nat → (Nat → Nat) → Nat
  | 0, _ => 0
  | l + 1, c => c l * pf_t (6 - l) + 1 + pf_mu l c
theorem pf_mu_congr : ∀ (l : Nat) (c d : Nat → Nat), (∀ i, i < l → c i = d i) → pf_mu l c = pf_mu l d := by
  intro l
  induction l with
  | zero => intro c d _; rfl
  | succ l ih =>
    intro c d h
    unfold pf_mu
    rw [h l (by omega), ih c d (fun i hi => h i (by omega))]
theorem pf_t_pos : ∀ k, 1 ≤ pf_t k := by
  intro k
  cases k with
  | zero => exact Nat.le_refl 1
  | succ k => unfold pf_t; omega
/-- what finds leaves as it is -/
def pf_fr (v v' : PS) : Prop := (∀ k, k ≠ 4 → v'.1 k = v.1 k) ∧ ∀ k, k ≠ 10 → k ≠ 11 → v'.2 k = v.2 k
theorem pf_fr.rf (v : PS) : pf_fr v v := ⟨fun _ _ => rfl, fun _ _ _ => rfl⟩
theorem pf_fr.tr {a b c : PS} (h : pf_fr a b) (h2 : pf_fr b c) : pf_fr a c := ⟨fun k hk => (h2.1 k hk).trans (h.1 k hk), fun k h3 h4 => (h2.2 k h3 h4).trans (h.2 k h3 h4)⟩
theorem pf_fr.of {v v' : PS} (h : pm_fr v v') : pf_fr v v' := ⟨fun k _ => by rw [h.1], fun k _ h11 => h.2 k h11⟩
theorem pf_frsi (v : PS) (x : Int32) : pf_fr v (si v 4 x) := ⟨fun k hk => by unfold si; simp [va_up, hk], fun _ _ _ => rfl⟩
theorem pf_frsa (v : PS) (i : Nat) (x : Int32) : pf_fr v (sa v 10 i x) := ⟨fun _ _ => rfl, fun k hk _ => by unfold sa; simp [va_up, hk]⟩
theorem pf_rep {v v' : PS} (hr : pm_rep th nd bn ask v) (h : pf_fr v v') : pm_rep th nd bn ask v' := by
  unfold pm_rep
  rw [h.1 1 (by omega), h.1 2 (by omega), h.2 0 (by omega) (by omega), h.2 1 (by omega) (by omega), h.2 2 (by omega) (by omega), h.2 3 (by omega) (by omega), h.2 4 (by omega) (by omega), h.2 5 (by omega) (by omega), h.2 6 (by omega) (by omega), h.2 7 (by omega) (by omega), h.2 8 (by omega) (by omega), h.2 9 (by omega) (by omega)]
  exact hr
theorem pf_sa10 (v : PS) (i : Nat) (x : Int32) (j : Nat) : (sa v 10 i x).2 10 j = if j = i then x else v.2 10 j := by
  unfold sa; simp [va_up, upd]
theorem pf_pk_sa {v : PS} {c : Nat → Nat} (hk : pm_pk v c) (i x : Nat) (hx : x ≤ 5) (X : Int32) (hX : X = nI x - 1) : pm_pk (sa v 10 i X) (va_up c i x) := by
  intro p hp
  rw [pf_sa10]
  by_cases e : p = i
  · subst e; rw [if_pos rfl, va_up_self]; exact ⟨hX, hx⟩
  · rw [if_neg e, va_up_ne _ _ e]; exact hk p hp
theorem pf_finds : ∀ (m : Nat) (v : PS) (c : Nat → Nat) (L : Nat), L ≤ 7 → v.1 4 = nI L - 1 → pm_rep th nd bn ask v → pm_pk v c → (∀ q, q + 1 < L → c q ≤ 4) → (∀ q, 7 ≤ q → c q = 0) → (∀ q, q + 1 < L → pm_G th nd bn ask mk c q) → pf_mu L c < m → bt (v.1 3) = mk →
    ∃ (y : Int32) (v' : PS), l_M_finds_0 m v = some (y, v') ∧ pf_fr v v' ∧ (∃ c', pm_pk v' c') ∧
      ((pf_F th nd bn (pd_sel ask mk) (pf_rest L c) = [] ∧ y = 0) ∨
       ∃ d F', pf_F th nd bn (pd_sel ask mk) (pf_rest L c) = d :: F' ∧ y = 1 ∧ pd_val th nd bn (pd_sel ask mk) d ∧ pm_pk v' d ∧ v'.1 4 = nI 7 - 1 ∧ pf_F th nd bn (pd_sel ask mk) (pf_rest 7 d) = F') := by
  intro m
  induction m with
  | zero => intro v c L _ _ _ _ _ _ _ h; omega
  | succ m ih =>
    intro v c L hL hlv hr hk h4 h7 hG0 hm hmk
    have hu : l_M_finds_0 (m + 1) v = b_M_finds_0 (l_M_finds_0 m) v := rfl
    rw [hu]
    unfold b_M_finds_0
    rw [hlv]
    cases L with
    | zero =>
      rw [if_pos (by decide)]
      exact ⟨0, v, rfl, pf_fr.rf v, ⟨c, hk⟩, Or.inl ⟨rfl, rfl⟩⟩
    | succ l =>
      have hl7 : l < 7 := by omega
      have hnd : ∀ p w, p < 7 → w < 4 → ∀ n ∈ nd p w, n.1 < 7 := fun p w hp hw n hn => by
        obtain ⟨j, hj⟩ := List.getElem?_of_mem hn
        exact ((hr.2.1 p w hp hw).2.2 j n hj).2.2.2.1
      have hgn : ∀ (i : Nat) (n : pd_N), ask[i]? = some n → pd_gn n := fun i n h => (hr.2.2.2.2.2 i n h).2.2.2
      have hgb : ∀ (k : Nat) (b : pd_B), bn[k]? = some b → pd_gb b := fun k b h => (hr.2.2.1.2.2 k b h).2.2
      rw [nI_pred, if_neg (nI_pos (show l < 2 ^ 31 by omega)), px_ck _ (px_inb hl7 (by omega)), nI_clamp (show l < 2 ^ 31 by omega), (hk l hl7).1]
      have hc5 := (hk l hl7).2
      by_cases h0 : c l = 0
      · rw [if_pos ((pm_m1 (by omega)).mpr h0)]
        obtain ⟨y, v', e1, e2, e3⟩ := ih (si v 4 (nI l - 1)) c l (by omega) rfl (pf_rep hr (pf_frsi v _)) hk (fun q hq => h4 q (by omega)) h7 (fun q hq => hG0 q (by omega)) (by
          have : pf_mu (l + 1) c = c l * pf_t (6 - l) + 1 + pf_mu l c := rfl
          rw [h0] at this
          omega) hmk
        rw [pf_R0 h0]
        exact ⟨y, v', e1, (pf_frsi v _).tr e2, e3⟩
      · obtain ⟨w, hw⟩ : ∃ w, c l = w + 1 := ⟨c l - 1, by omega⟩
        rw [if_neg (fun z => h0 ((pm_m1 (by omega)).mp z)), px_ck _ (px_inb hl7 (by omega)), px_ck _ (px_inb hl7 (by omega)), hw, nI_pred]
        have hk' : pm_pk (sa v 10 l (nI w - 1)) (va_up c l w) := pf_pk_sa hk l w (by omega) _ rfl
        have hr' := pf_rep hr (pf_frsa v l (nI w - 1))
        have h4' : ∀ q, q ≤ l → va_up c l w q ≤ 4 := fun q hq => by
          by_cases e : q = l
          · subst e; rw [va_up_self]; omega
          · rw [va_up_ne _ _ e]; exact h4 q (by omega)
        have h7' : ∀ q, 7 ≤ q → va_up c l w q = 0 := fun q hq => by rw [va_up_ne _ _ (by omega)]; exact h7 q hq
        have hG1 : ∀ q, q < l → pm_G th nd bn ask mk (va_up c l w) q := fun q hq => pf_G_congr hnd (fun i hi => (va_up_ne _ _ (by omega)).symm) (hG0 q (by omega))
        have hmu : pf_mu (l + 1) (va_up c l w) + pf_t (6 - l) = pf_mu (l + 1) c := by
          have e1 : pf_mu (l + 1) c = c l * pf_t (6 - l) + 1 + pf_mu l c := rfl
          have e2 : pf_mu (l + 1) (va_up c l w) = va_up c l w l * pf_t (6 - l) + 1 + pf_mu l (va_up c l w) := rfl
          rw [va_up_self, pf_mu_congr l (va_up c l w) c (fun i hi => va_up_ne _ _ (by omega))] at e2
          rw [e1, e2, hw, Nat.add_mul]
          omega
        have htp := pf_t_pos (6 - l)
        obtain ⟨g, g1, g2, g3⟩ := pm_goes hr' hk' hl7 h4'
        have hmk' : bt ((sa v 10 l (nI w - 1)).1 3) = mk := hmk
        rw [hmk'] at g3
        rw [g2]
        rw [Option.bind_some]
        rw [pf_R1 hl7 hw, pf_F_app]
        rcases g1 with rfl | rfl
        · rw [if_pos rfl]
          have hnil : pf_F th nd bn (pd_sel ask mk) (pf_ext (6 - l) (va_up c l w)) = [] := pf_F_nil fun d hd hv => by
            have hd' := ((pf_ext_mem _ _ _ (by omega)).mp hd).1
            have := g3.mpr (pf_G_congr hnd (fun i hi => hd' i (by omega)) (pf_G_val hgn hv.2.1 hl7))
            exact absurd this (by decide)
          rw [hnil, List.nil_append]
          obtain ⟨y, v', e1, e2, e3⟩ := ih _ (va_up c l w) (l + 1) hL (by show v.1 4 = _; exact hlv) hr' hk' (fun q hq => h4' q (by omega)) h7' (fun q hq => hG1 q (by omega)) (by omega) hmk'
          exact ⟨y, v', e1, (pf_frsa v _ _).tr e2, e3⟩
        · rw [if_neg (by decide)]
          have hG := g3.mp rfl
          by_cases hl6 : l = 6
          · subst hl6
            rw [if_pos (by decide)]
            obtain ⟨z, v2, z1, z2, z3, z4⟩ := pm_isTight hr' hk' (fun q hq => h4' q (by omega))
            rw [hmk'] at z4
            rw [z3]
            rw [Option.bind_some]
            dsimp only
            have hr2 := hr'.fr z2
            have hk2 := hk'.fr z2
            have hlv2 : v2.1 4 = nI 7 - 1 := by rw [z2.1]; exact hlv
            have hmk2 : bt (v2.1 3) = mk := by rw [z2.1]; exact hmk
            show ∃ y v', _ ∧ pf_fr v v' ∧ (∃ c', pm_pk v' c') ∧ ((pf_F th nd bn (pd_sel ask mk) [va_up c 6 w] ++ _ = [] ∧ y = 0) ∨ ∃ d F', pf_F th nd bn (pd_sel ask mk) [va_up c 6 w] ++ _ = d :: F' ∧ _)
            rcases z1 with rfl | rfl
            · rw [if_pos rfl]
              have hnil : pf_F th nd bn (pd_sel ask mk) [va_up c 6 w] = [] := pf_F_nil fun d hd hv => by
                rw [List.mem_singleton] at hd
                subst hd
                exact absurd (z4.mpr hv.2.2) (by decide)
              rw [hnil, List.nil_append]
              obtain ⟨y, v', e1, e2, e3⟩ := ih v2 (va_up c 6 w) 7 (by omega) hlv2 hr2 hk2 (fun q hq => h4' q (by omega)) h7' (fun q hq => hG1 q (by omega)) (by show pf_mu (6 + 1) (va_up c 6 w) < m; omega) hmk2
              exact ⟨y, v', e1, ((pf_frsa v _ _).tr (pf_fr.of z2)).tr e2, e3⟩
            · rw [if_neg (by decide)]
              have hval : pd_val th nd bn (pd_sel ask mk) (va_up c 6 w) := by
                refine ⟨⟨fun p hp => h4' p (by omega), h7'⟩, pf_G_ok hgb hnd hgn (fun p hp => h4' p (by omega)) (fun p hp => ?_), z4.mp rfl⟩
                by_cases e : p = 6
                · subst e; exact hG
                · exact hG1 p (by omega)
              rw [pf_F_one hval]
              exact ⟨1, v2, rfl, (pf_frsa v _ _).tr (pf_fr.of z2), ⟨_, hk2⟩, Or.inr ⟨va_up c 6 w, _, rfl, rfl, hval, hk2, hlv2, rfl⟩⟩
          · rw [if_neg (show ¬ (7 : Int32) ≤ nI l + 1 from by rw [nI_1]; exact nI_ge (b := 7) (by omega) (by omega)), nI_1, px_ck _ (px_inb (show l + 1 < 7 by omega) (by omega)), nI_clamp (show l + 1 < 2 ^ 31 by omega)]
            have hk2 : pm_pk (sa (si (sa v 10 l (nI w - 1)) 4 (nI (l + 1))) 10 (l + 1) 4) (va_up (va_up c l w) (l + 1) 5) := pf_pk_sa (v := si (sa v 10 l (nI w - 1)) 4 (nI (l + 1))) hk' (l + 1) 5 (by omega) _ (by decide)
            have fr2 : pf_fr v (sa (si (sa v 10 l (nI w - 1)) 4 (nI (l + 1))) 10 (l + 1) 4) := ((pf_frsa v _ _).tr (pf_frsi _ _)).tr (pf_frsa _ _ _)
            obtain ⟨y, v', e1, e2, e3⟩ := ih _ (va_up (va_up c l w) (l + 1) 5) (l + 2) (by omega) (by rw [nI_pred]; rfl) (pf_rep hr fr2) hk2 (fun q hq => by
                rw [va_up_ne _ _ (by omega)]; exact h4' q (by omega)) (fun q hq => by rw [va_up_ne _ _ (by omega)]; exact h7' q hq) (fun q hq => by
                have hc : ∀ i, i ≤ q → va_up c l w i = va_up (va_up c l w) (l + 1) 5 i := fun i hi => (va_up_ne _ _ (by omega)).symm
                by_cases e : q = l
                · subst e; exact pf_G_congr hnd hc hG
                · exact pf_G_congr hnd hc (hG1 q (by omega))) (by
                have e1 : pf_mu (l + 2) (va_up (va_up c l w) (l + 1) 5) = va_up (va_up c l w) (l + 1) 5 (l + 1) * pf_t (6 - (l + 1)) + 1 + pf_mu (l + 1) (va_up (va_up c l w) (l + 1) 5) := rfl
                rw [va_up_self, pf_mu_congr (l + 1) (va_up (va_up c l w) (l + 1) 5) (va_up c l w) (fun i hi => va_up_ne _ _ (by omega))] at e1
                have e2 : pf_t (6 - l) = 2 + 5 * pf_t (6 - (l + 1)) := by
                  rw [show 6 - l = (6 - (l + 1)) + 1 by omega]; rfl
                omega) hmk
            rw [show l + 1 + 1 = l + 2 from rfl, pf_R2 (by omega), pf_F_app] at e3
            exact ⟨y, v', e1, fr2.tr e2, e3⟩
end PF
end
section
/-! the order of the choices; the two lists side by side -/
def pf_gt (d e : Nat → Nat) : Prop := ∃ i, i < 7 ∧ (∀ j, j < i → d j = e j) ∧ e i < d i
theorem pf_gt_irr (d : Nat → Nat) : ¬ pf_gt d d := fun ⟨i, _, _, h⟩ => Nat.lt_irrefl _ h
theorem pf_rev_pw : ∀ n : Nat, List.Pairwise (fun a b => b < a) (List.range n).reverse := by
  intro n
  rw [List.pairwise_reverse]
  exact List.pairwise_lt_range
theorem pf_ext_pw : ∀ (k : Nat) (c : Nat → Nat), k ≤ 7 → (pf_ext k c).Pairwise pf_gt := by
  intro k
  induction k with
  | zero => intro c _; unfold pf_ext; exact List.pairwise_singleton _ _
  | succ k ih =>
    intro c hk
    unfold pf_ext
    rw [List.pairwise_flatMap]
    refine ⟨fun v _ => ih _ (by omega), ?_⟩
    refine (pf_rev_pw 5).imp ?_
    intro a b hab x hx y hy
    have h1 := ((pf_ext_mem k _ _ (by omega)).mp hx).1
    have h2 := ((pf_ext_mem k _ _ (by omega)).mp hy).1
    refine ⟨6 - k, by omega, fun j hj => ?_, ?_⟩
    · rw [h1 j (by omega), h2 j (by omega), va_up_ne _ _ (by omega), va_up_ne _ _ (by omega)]
    · rw [h1 (6 - k) (by omega), h2 (6 - k) (by omega), va_up_self, va_up_self]; exact hab
/-- all choices there are, as finds() comes to them -/
def pf_c0 : Nat → Nat := fun i => if i = 0 then 5 else 0
theorem pf_rest_1 (d : Nat → Nat) : d ∈ pf_rest 1 pf_c0 ↔ pd_wf d := by
  show d ∈ (List.range 5).reverse.flatMap (fun v => pf_ext 6 (va_up pf_c0 0 v)) ++ [] ↔ _
  rw [List.append_nil, List.mem_flatMap]
  constructor
  · rintro ⟨v, hv, h⟩
    rw [List.mem_reverse, List.mem_range] at hv
    obtain ⟨h1, h2⟩ := (pf_ext_mem 6 _ _ (by omega)).mp h
    refine ⟨fun p hp => ?_, fun p hp => ?_⟩
    · by_cases e : p = 0
      · subst e; rw [h1 0 (by omega), va_up_self]; omega
      · exact h2 p (by omega) hp
    · rw [h1 p (by omega), va_up_ne _ _ (by omega)]
      show (if p = 0 then 5 else 0) = 0
      rw [if_neg (by omega)]
  · rintro ⟨h1, h2⟩
    refine ⟨d 0, ?_, (pf_ext_mem 6 _ _ (by omega)).mpr ⟨fun i hi => ?_, fun i k1 k2 => h1 i k2⟩⟩
    · rw [List.mem_reverse, List.mem_range]
      have := h1 0 (by omega); omega
    · by_cases e : i = 0
      · subst e; rw [va_up_self]
      · rw [va_up_ne _ _ e, h2 i (by omega)]
        show 0 = (if i = 0 then 5 else 0)
        rw [if_neg e]
theorem pf_rest_1_pw : (pf_rest 1 pf_c0).Pairwise pf_gt := by
  show ((List.range 5).reverse.flatMap (fun v => pf_ext 6 (va_up pf_c0 0 v)) ++ []).Pairwise pf_gt
  rw [List.append_nil, List.pairwise_flatMap]
  refine ⟨fun v _ => pf_ext_pw 6 _ (by omega), ?_⟩
  refine (pf_rev_pw 5).imp ?_
  intro a b hab x hx y hy
  have h1 := ((pf_ext_mem 6 _ _ (by omega)).mp hx).1
  have h2 := ((pf_ext_mem 6 _ _ (by omega)).mp hy).1
  refine ⟨0, by omega, fun j hj => by omega, ?_⟩
  rw [h1 0 (by omega), h2 0 (by omega), va_up_self, va_up_self]; exact hab
theorem pf_ltb {n m i : Nat} (hn : n.testBit i = false) (hm : m.testBit i = true) (h : ∀ j, i < j → n.testBit j = m.testBit j) : n < m := by
  have hq : n / 2 ^ (i + 1) = m / 2 ^ (i + 1) := by
    apply Nat.eq_of_testBit_eq
    intro j
    rw [Nat.testBit_div_two_pow, Nat.testBit_div_two_pow]
    exact h _ (by omega)
  have h1 : n % 2 ^ (i + 1) < 2 ^ i := by
    apply Nat.lt_pow_two_of_testBit
    intro j hj
    rw [Nat.testBit_mod_two_pow]
    by_cases e : j = i
    · subst e; simp [hn]
    · have : ¬ j < i + 1 := by omega
      simp [this]
  have h2 : 2 ^ i ≤ m % 2 ^ (i + 1) := by
    apply Nat.le_of_not_lt
    intro hlt
    have h3 := Nat.testBit_lt_two_pow hlt
    rw [Nat.testBit_mod_two_pow] at h3
    simp [hm] at h3
  have e1 := Nat.div_add_mod n (2 ^ (i + 1))
  have e2 := Nat.div_add_mod m (2 ^ (i + 1))
  rw [hq] at e1
  omega
theorem pf_bt (x : Int32) (i : Nat) : bt x i = x.toBitVec.toNat.testBit i := rfl
theorem pf_A_small (t : Nat → Nat → Bool) : (pq_A t).toBitVec.toNat < 2 ^ 31 := by
  apply Nat.lt_pow_two_of_testBit
  intro i hi
  rw [← pf_bt]
  unfold pq_A
  rw [pq_bt]
  have : ¬ i < 28 := by omega
  simp [this]
theorem pf_A_toInt (t : Nat → Nat → Bool) : (pq_A t).toInt = ((pq_A t).toBitVec.toNat : Int) := by
  have h := pf_A_small t
  show (pq_A t).toBitVec.toInt = _
  rw [BitVec.toInt_eq_toNat_of_lt (by omega)]
theorem pf_A_lt (s t : Nat → Nat → Bool) : pq_A s < pq_A t ↔ (pq_A s).toBitVec.toNat < (pq_A t).toBitVec.toNat := by
  rw [Int32.lt_iff_toInt_lt, pf_A_toInt, pf_A_toInt]; omega
theorem pf_enc_lt {d e : Nat → Nat} (hd : pd_wf d) (h : pf_gt d e) : pd_enc e < pd_enc d := by
  obtain ⟨i, hi, h1, h2⟩ := h
  have h4 := hd.1 i hi
  obtain ⟨w, hw⟩ : ∃ w, d i = w + 1 := ⟨d i - 1, by omega⟩
  have hw4 : w < 4 := by omega
  unfold pd_enc
  rw [pf_A_lt]
  apply pf_ltb (i := pq_sl i w)
  · rw [← pf_bt]; unfold pq_A; rw [pq_bt, pq_sl_p hi hw4, pq_sl_w hi hw4]
    have : ¬ e i = w + 1 := by omega
    simp [this]
  · rw [← pf_bt]; unfold pq_A; rw [pq_bt, pq_sl_p hi hw4, pq_sl_w hi hw4]
    simp [hw, pq_sl_lt hi hw4]
  · intro j hj
    rw [← pf_bt, ← pf_bt]; unfold pq_A; rw [pq_bt, pq_bt]
    by_cases h28 : j < 28
    · by_cases hp : 6 - j / 4 = i
      · have hz : w < j % 4 := by unfold pq_sl at hj; omega
        rw [hp]
        have a1 : ¬ e i = j % 4 + 1 := by omega
        have a2 : ¬ d i = j % 4 + 1 := by omega
        simp [a1, a2]
      · have hlt : 6 - j / 4 < i := by unfold pq_sl at hj; omega
        have hde := h1 _ hlt
        dsimp only
        simp only [hde]
    · simp [h28]
section PO
variable {th : Nat → Nat → Bool} {nd : Nat → Nat → List pd_N} {bn : List pd_B} {ak : List pd_N}
noncomputable def pf_A (th : Nat → Nat → Bool) (nd : Nat → Nat → List pd_N) (bn : List pd_B) (ak : List pd_N) : List (Nat → Nat) := pf_F th nd bn ak (pf_rest 1 pf_c0)
theorem pf_A_mem (d : Nat → Nat) : d ∈ pf_A th nd bn ak ↔ pd_val th nd bn ak d := by
  unfold pf_A
  rw [pf_F_mem, pf_rest_1]
  exact ⟨fun h => h.2, fun h => ⟨h.1, h⟩⟩
theorem pf_A_pw : (pf_A th nd bn ak).Pairwise pf_gt := pf_rest_1_pw.sublist List.filter_sublist
theorem pf_A_nodup : ((pf_A th nd bn ak).map pd_enc).Nodup := by
  rw [List.nodup_iff_pairwise_ne, List.pairwise_map]
  refine (List.Pairwise.imp_of_mem ?_ pf_A_pw)
  intro d e hd he h heq
  have := pf_enc_lt ((pf_A_mem d).mp hd).1 h
  rw [heq] at this
  exact Int32.lt_irrefl this
/-- the class's list and the model's hold the same choices -/
theorem pf_perm (hgn : ∀ n ∈ ak, n.1 < 7) (hnd : ∀ p w, p < 7 → w < 4 → ∀ n ∈ nd p w, n.1 < 7) : (px_L th nd bn ak).Perm ((pf_A th nd bn ak).map pd_enc) := by
  obtain ⟨h1, h2⟩ := px_L_spec (th := th) (bn := bn) hgn hnd
  rw [List.perm_ext_iff_of_nodup h1 pf_A_nodup]
  intro x
  rw [h2 x, List.mem_map]
  constructor
  · rintro ⟨c, k1, k2⟩; exact ⟨c, (pf_A_mem c).mpr k1, k2⟩
  · rintro ⟨c, k1, k2⟩; exact ⟨c, (pf_A_mem c).mp k1, k2⟩
theorem pf_ext_len : ∀ (k : Nat) (c : Nat → Nat), (pf_ext k c).length = 5 ^ k := by
  intro k
  induction k with
  | zero => intro c; rfl
  | succ k ih =>
    intro c
    unfold pf_ext
    rw [List.length_flatMap]
    simp only [ih]
    rw [show (List.range 5).reverse = [4, 3, 2, 1, 0] from rfl]
    simp only [List.map_cons, List.map_nil, List.sum_cons, List.sum_nil]
    rw [Nat.pow_succ]; omega
theorem pf_A_len : (pf_A th nd bn ak).length ≤ 78125 := by
  have h1 : (pf_A th nd bn ak).length ≤ (pf_rest 1 pf_c0).length := List.length_filter_le _ _
  have h2 : (pf_rest 1 pf_c0).length = 78125 := by
    show ((List.range 5).reverse.flatMap (fun v => pf_ext 6 (va_up pf_c0 0 v)) ++ []).length = _
    rw [List.append_nil, List.length_flatMap]
    simp only [pf_ext_len]
    rfl
  omega
end PO
end
section
/-! what the tally holds behind a search -/
def pc_cost (aim kept x : Int32) : Int32 := if aim = 1 then f_J_bitCount x else if aim = 2 then f_X_differing x kept else 0
theorem pc_cost_eq (x : Int32) (u : PS) : f_T_costOf x u = pc_cost (u.1 6) (u.1 7) x := rfl
def pc_abs (x : Int32) : Int32 := (17895697 : Int32) &&& (f_X_marksOf x ^^^ (-1 : Int32))
def pc_inv (aim kept : Int32) (done : List Int32) (u : PS) : Prop :=
  u.1 6 = aim ∧ u.1 7 = kept ∧ u.1 9 = nI done.length ∧ (∀ i, bt (u.1 10) i = true ↔ ∃ x ∈ done, bt x i = true) ∧ (∀ i, bt (u.1 11) i = true ↔ ∃ x ∈ done, bt (pc_abs x) i = true) ∧
  (done ≠ [] → u.1 12 ∈ done ∧ u.1 13 = pc_cost aim kept (u.1 12) ∧ ∀ x ∈ done, u.1 13 < pc_cost aim kept x ∨ (u.1 13 = pc_cost aim kept x ∧ x ≤ u.1 12))
theorem pc_47 (x : Int32) (u : PS) : (b_T_enter_47 x u).1 9 = u.1 9 + 1 ∧ (b_T_enter_47 x u).1 10 = u.1 10 ||| x ∧ (b_T_enter_47 x u).1 11 = u.1 11 ||| pc_abs x ∧ (b_T_enter_47 x u).1 6 = u.1 6 ∧ (b_T_enter_47 x u).1 7 = u.1 7 ∧ (b_T_enter_47 x u).1 12 = u.1 12 ∧ (b_T_enter_47 x u).1 13 = u.1 13 := by
  unfold b_T_enter_47 pc_abs
  simp [si, va_up]
theorem pc_37 (x y : Int32) (u : PS) : (b_T_enter_37 x y u).1 9 = u.1 9 + 1 ∧ (b_T_enter_37 x y u).1 10 = u.1 10 ||| x ∧ (b_T_enter_37 x y u).1 11 = u.1 11 ||| pc_abs x ∧ (b_T_enter_37 x y u).1 6 = u.1 6 ∧ (b_T_enter_37 x y u).1 7 = u.1 7 ∧ (b_T_enter_37 x y u).1 12 = x ∧ (b_T_enter_37 x y u).1 13 = y := by
  unfold b_T_enter_37 b_T_enter_47 pc_abs
  simp [si, va_up]
theorem pc_step {aim kept : Int32} {done : List Int32} {u : PS} (h : pc_inv aim kept done u) (hl : done.length < 2 ^ 30) (x : Int32) : pc_inv aim kept (done ++ [x]) (f_T_enter x u) := by
  obtain ⟨h6, h7, h9, h10, h11, hb⟩ := h
  have hcost : f_T_costOf x u = pc_cost aim kept x := by rw [pc_cost_eq, h6, h7]
  have hbits : ∀ (old new : Int32) (g : Int32 → Int32), (∀ i, bt old i = true ↔ ∃ y ∈ done, bt (g y) i = true) → new = old ||| g x → ∀ i, bt new i = true ↔ ∃ y ∈ done ++ [x], bt (g y) i = true := by
    intro old new g ho e i
    subst e
    rw [b_or, Bool.or_eq_true, ho i]
    simp only [List.mem_append, List.mem_singleton]
    constructor
    · rintro (⟨y, k1, k2⟩ | k)
      · exact ⟨y, Or.inl k1, k2⟩
      · exact ⟨x, Or.inr rfl, k⟩
    · rintro ⟨y, k1 | k1, k2⟩
      · exact Or.inl ⟨y, k1, k2⟩
      · subst k1; exact Or.inr k2
  have hlen : nI done.length + 1 = nI (done ++ [x]).length := by rw [nI_1, List.length_append]; rfl
  have takes : (done ≠ [] → (pc_cost aim kept x < u.1 13 ∨ (pc_cost aim kept x = u.1 13 ∧ u.1 12 ≤ x))) → pc_inv aim kept (done ++ [x]) (b_T_enter_37 x (pc_cost aim kept x) u) := by
    intro hc
    obtain ⟨e9, e10, e11, e6, e7, e12, e13⟩ := pc_37 x (pc_cost aim kept x) u
    refine ⟨e6.trans h6, e7.trans h7, by rw [e9, h9, hlen], hbits _ _ id h10 e10, hbits _ _ pc_abs h11 e11, fun _ => ?_⟩
    rw [e12, e13]
    refine ⟨by simp, rfl, fun y hy => ?_⟩
    rcases List.mem_append.mp hy with k | k
    · have hne : done ≠ [] := fun z => by rw [z] at k; cases k
      obtain ⟨-, -, q3⟩ := hb hne
      have k1 := hc hne
      have k2 := q3 y k
      rw [Int32.lt_iff_toInt_lt, Int32.le_iff_toInt_le, ← Int32.toInt_inj] at k1 k2 ⊢
      omega
    · rw [List.mem_singleton] at k
      subst k
      exact Or.inr ⟨rfl, Int32.le_refl _⟩
  have keeps : done ≠ [] → (u.1 13 < pc_cost aim kept x ∨ (u.1 13 = pc_cost aim kept x ∧ x ≤ u.1 12)) → pc_inv aim kept (done ++ [x]) (b_T_enter_47 x u) := by
    intro hne hc
    obtain ⟨e9, e10, e11, e6, e7, e12, e13⟩ := pc_47 x u
    obtain ⟨q1, q2, q3⟩ := hb hne
    refine ⟨e6.trans h6, e7.trans h7, by rw [e9, h9, hlen], hbits _ _ id h10 e10, hbits _ _ pc_abs h11 e11, fun _ => ?_⟩
    rw [e12, e13]
    refine ⟨List.mem_append_left _ q1, q2, fun y hy => ?_⟩
    rcases List.mem_append.mp hy with k | k
    · exact q3 y k
    · rw [List.mem_singleton] at k
      subst k
      exact hc
  unfold f_T_enter
  rw [hcost, h9]
  by_cases h0 : done = []
  · rw [if_pos (by rw [h0]; rfl)]
    exact takes (fun z => absurd h0 z)
  · have hpos : 0 < done.length := List.length_pos_iff.mpr h0
    rw [if_neg (nI_ne0 hpos (by omega))]
    by_cases k1 : pc_cost aim kept x < u.1 13
    · rw [if_pos k1]; exact takes (fun _ => Or.inl k1)
    · rw [if_neg k1]
      by_cases k2 : pc_cost aim kept x = u.1 13
      · rw [if_pos k2]
        by_cases k3 : x ≤ u.1 12
        · rw [if_pos k3]; exact keeps h0 (Or.inr ⟨k2.symm, k3⟩)
        · rw [if_neg k3]; exact takes (fun _ => Or.inr ⟨k2, by rw [Int32.le_iff_toInt_le] at k3 ⊢; omega⟩)
      · rw [if_neg k2]
        refine keeps h0 (Or.inl ?_)
        rw [Int32.lt_iff_toInt_lt] at k1 ⊢
        rw [← Int32.toInt_inj] at k2
        omega
theorem pc_fold {aim kept : Int32} {M : Nat} (hM : M < 2 ^ 30) : ∀ (L done : List Int32) (u : PS), pc_inv aim kept done u → u.1 8 = nI M → done.length + L.length ≤ M → pc_inv aim kept (done ++ L) (L.foldl px_ent u) := by
  intro L
  induction L with
  | nil => intro done u h _ _; rw [List.append_nil]; exact h
  | cons x L ih =>
    intro done u h h8 hl
    rw [List.length_cons] at hl
    have hf : u.1 9 < u.1 8 := by rw [h.2.2.1, h8]; exact nI_lt (by omega) (by omega)
    rw [List.foldl_cons, show px_ent u x = f_T_enter x u from if_pos hf]
    have := ih (done ++ [x]) (f_T_enter x u) (pc_step h (by omega) x) (by rw [px_en1 x u (by omega)]; exact h8) (by rw [List.length_append]; simp; omega)
    rwa [List.append_assoc] at this
theorem pc_one {u : PS} (h9 : u.1 9 = 0) (h8 : u.1 8 = 1) : ∀ L : List Int32, (L.foldl px_ent u).1 9 = if L = [] then 0 else 1 := by
  intro L
  cases L with
  | nil => exact h9
  | cons x L =>
    have hf : u.1 9 < u.1 8 := by rw [h9, h8]; decide
    have e1 : px_ent u x = f_T_enter x u := if_pos hf
    have e9 : (f_T_enter x u).1 9 = 1 := by
      unfold f_T_enter
      rw [if_pos h9, (pc_37 _ _ _).1, h9]; rfl
    rw [List.foldl_cons, e1, px_fullF (u := f_T_enter x u) (by rw [e9, px_en1 x u (by omega), h8]; decide), e9]
    rfl
/-- the start of a tally -/
theorem pc_begin (aim kept : Int32) (lim : Int32) (u : PS) : pc_inv aim kept [] (f_T_begin aim kept lim u) ∧ (f_T_begin aim kept lim u).1 8 = lim ∧ (f_T_begin aim kept lim u).2 = u.2 ∧ ∀ k, k < 6 → (f_T_begin aim kept lim u).1 k = u.1 k := by
  refine ⟨⟨?_, ?_, ?_, fun i => ?_, fun i => ?_, fun h => absurd rfl h⟩, ?_, rfl, fun k hk => ?_⟩
  · simp [f_T_begin, si, va_up]
  · simp [f_T_begin, si, va_up]
  · simp [f_T_begin, si, va_up]; rfl
  · have : (f_T_begin aim kept lim u).1 10 = 0 := by simp [f_T_begin, si, va_up]
    rw [this, b_0]; simp
  · have : (f_T_begin aim kept lim u).1 11 = 0 := by simp [f_T_begin, si, va_up]
    rw [this, b_0]; simp
  · simp [f_T_begin, si, va_up]
  · have a6 : ¬ k = 6 := by omega
    have a7 : ¬ k = 7 := by omega
    have a8 : ¬ k = 8 := by omega
    have a9 : ¬ k = 9 := by omega
    have a10 : ¬ k = 10 := by omega
    have a11 : ¬ k = 11 := by omega
    have a12 : ¬ k = 12 := by omega
    have a13 : ¬ k = 13 := by omega
    simp [f_T_begin, si, va_up, a6, a7, a8, a9, a10, a11, a12, a13]
/-! what is asked, as the class holds it -/
def px_repW (ask : List pd_N) (u : PS) : Prop := u.1 5 = nI ask.length ∧ ask.length ≤ 6 ∧ ∀ i n, ask[i]? = some n → u.2 4 i = pq_M (fun q => decide (q = n.1)) ∧ u.2 5 i = pq_A (fun q z => decide (q = n.1) && !(decide (n.2.1 ≤ z) && decide (z ≤ n.2.2)))
theorem px_bit0 (x : Int32) {n : Nat} (hn : n < 32) : (x &&& ((1 : Int32) <<< (nI n &&& 31))) = 0 ↔ bt x n = false := by
  constructor
  · intro h
    have := b_and x ((1 : Int32) <<< (nI n &&& 31)) n
    rw [h, b_0, pq_b1 hn] at this
    simpa using this.symm
  · intro h
    apply b_ext
    intro i hi
    rw [b_and, pq_b1 hn, b_0]
    by_cases e : i = n
    · subst e; simp [h]
    · simp [e]
theorem px_wish : ∀ i, i < 6 → f_X_wishBit (nI i) = (1 : Int32) <<< (nI (5 - i) &&& 31) := by decide +kernel
section PU
variable {ask : List pd_N} {u : PS}
theorem px_un8 (h : px_repW ask u) (sub : Int32) : ∀ (m i : Nat) (r : Nat → Bool), i ≤ ask.length → ask.length - i < m →
    ∃ r' : Nat → Bool, l_W_union_8_5 u m sub (pq_M r) (nI i) = some (pq_M r') ∧ ∀ q, q < 7 → (r' q = true ↔ r q = true ∨ ∃ j n, i ≤ j ∧ bt sub (5 - j) = true ∧ ask[j]? = some n ∧ n.1 = q) := by
  obtain ⟨h5, h6, ha⟩ := h
  intro m
  induction m with
  | zero => intro i r _ h; omega
  | succ m ih =>
    intro i r hi hm
    have hu : l_W_union_8_5 u (m + 1) sub (pq_M r) (nI i) = b_W_union_8_5 u (l_W_union_8_5 u m) sub (pq_M r) (nI i) := rfl
    rw [hu]
    unfold b_W_union_8_5
    rw [h5]
    by_cases hle : ask.length ≤ i
    · rw [if_pos (nI_le hle (by omega))]
      refine ⟨r, rfl, fun q hq => ⟨fun k => Or.inl k, ?_⟩⟩
      rintro (k | ⟨j, n, k1, -, k2, -⟩)
      · exact k
      · have := (List.getElem?_eq_some_iff.mp k2).1
        omega
    · have hi6 : i < 6 := by omega
      rw [if_neg (nI_ge (by omega) (by omega)), if_neg (show ¬ (6 : Int32) ≤ nI i from nI_ge (b := 6) hi6 (by omega)), px_wish i hi6, nI_1]
      obtain ⟨n, hn⟩ : ∃ n, ask[i]? = some n := ⟨_, List.getElem?_eq_getElem (by omega)⟩
      by_cases kc : bt sub (5 - i) = true
      · rw [if_neg (fun z => by rw [(px_bit0 sub (by omega)).mp z] at kc; cases kc), px_ck _ (px_inb hi6 (by omega)), nI_clamp (show i < 2 ^ 31 by omega), (ha i n hn).1, pq_M_or]
        obtain ⟨r', e1, e2⟩ := ih (i + 1) _ (by omega) (by omega)
        refine ⟨r', e1, fun q hq => ?_⟩
        rw [e2 q hq]
        constructor
        · rintro (k | ⟨j, n', k1, k2, k3, k4⟩)
          · rw [Bool.or_eq_true, decide_eq_true_eq] at k
            rcases k with k | k
            · exact Or.inl k
            · exact Or.inr ⟨i, n, by omega, kc, hn, k.symm⟩
          · exact Or.inr ⟨j, n', by omega, k2, k3, k4⟩
        · rintro (k | ⟨j, n', k1, k2, k3, k4⟩)
          · exact Or.inl (by rw [k]; rfl)
          · by_cases e : j = i
            · subst e; rw [hn] at k3; cases k3
              exact Or.inl (by simp [k4])
            · exact Or.inr ⟨j, n', by omega, k2, k3, k4⟩
      · rw [if_pos ((px_bit0 sub (by omega)).mpr (by simpa using kc))]
        obtain ⟨r', e1, e2⟩ := ih (i + 1) r (by omega) (by omega)
        refine ⟨r', e1, fun q hq => ?_⟩
        rw [e2 q hq]
        constructor
        · rintro (k | ⟨j, n', k1, k2, k3, k4⟩)
          · exact Or.inl k
          · exact Or.inr ⟨j, n', by omega, k2, k3, k4⟩
        · rintro (k | ⟨j, n', k1, k2, k3, k4⟩)
          · exact Or.inl k
          · by_cases e : j = i
            · subst e; exact absurd k2 kc
            · exact Or.inr ⟨j, n', by omega, k2, k3, k4⟩
theorem px_un9 (h : px_repW ask u) (sub : Int32) : ∀ (m i : Nat) (t : Nat → Nat → Bool), i ≤ ask.length → ask.length - i < m →
    ∃ t' : Nat → Nat → Bool, l_W_union_9_5 u m sub (pq_A t) (nI i) = some (pq_A t') ∧ ∀ q z, q < 7 → z < 4 → (t' q z = true ↔ t q z = true ∨ ∃ j n, i ≤ j ∧ bt sub (5 - j) = true ∧ ask[j]? = some n ∧ n.1 = q ∧ ¬ (n.2.1 ≤ z ∧ z ≤ n.2.2)) := by
  obtain ⟨h5, h6, ha⟩ := h
  intro m
  induction m with
  | zero => intro i r _ h; omega
  | succ m ih =>
    intro i t hi hm
    have hu : l_W_union_9_5 u (m + 1) sub (pq_A t) (nI i) = b_W_union_9_5 u (l_W_union_9_5 u m) sub (pq_A t) (nI i) := rfl
    rw [hu]
    unfold b_W_union_9_5
    rw [h5]
    by_cases hle : ask.length ≤ i
    · rw [if_pos (nI_le hle (by omega))]
      refine ⟨t, rfl, fun q z hq hz => ⟨fun k => Or.inl k, ?_⟩⟩
      rintro (k | ⟨j, n, k1, -, k2, -⟩)
      · exact k
      · have := (List.getElem?_eq_some_iff.mp k2).1
        omega
    · have hi6 : i < 6 := by omega
      rw [if_neg (nI_ge (by omega) (by omega)), if_neg (show ¬ (6 : Int32) ≤ nI i from nI_ge (b := 6) hi6 (by omega)), px_wish i hi6, nI_1]
      obtain ⟨n, hn⟩ : ∃ n, ask[i]? = some n := ⟨_, List.getElem?_eq_getElem (by omega)⟩
      by_cases kc : bt sub (5 - i) = true
      · rw [if_neg (fun z => by rw [(px_bit0 sub (by omega)).mp z] at kc; cases kc), px_ck _ (px_inb hi6 (by omega)), nI_clamp (show i < 2 ^ 31 by omega), (ha i n hn).2, pq_A_or]
        obtain ⟨t', e1, e2⟩ := ih (i + 1) _ (by omega) (by omega)
        refine ⟨t', e1, fun q z hq hz => ?_⟩
        rw [e2 q z hq hz]
        have e3 : (decide (q = n.1) && !(decide (n.2.1 ≤ z) && decide (z ≤ n.2.2))) = true ↔ n.1 = q ∧ ¬ (n.2.1 ≤ z ∧ z ≤ n.2.2) := by
          simp only [Bool.and_eq_true, decide_eq_true_eq, Bool.not_eq_true', Bool.and_eq_false_iff, decide_eq_false_iff_not]
          constructor
          · rintro ⟨a, b⟩; exact ⟨a.symm, fun c => by omega⟩
          · rintro ⟨a, b⟩; exact ⟨a.symm, by omega⟩
        constructor
        · rintro (k | ⟨j, n', k1, k2, k3, k4⟩)
          · rw [Bool.or_eq_true, e3] at k
            rcases k with k | k
            · exact Or.inl k
            · exact Or.inr ⟨i, n, by omega, kc, hn, k⟩
          · exact Or.inr ⟨j, n', by omega, k2, k3, k4⟩
        · rintro (k | ⟨j, n', k1, k2, k3, k4⟩)
          · exact Or.inl (by rw [k]; rfl)
          · by_cases e : j = i
            · subst e; rw [hn] at k3; cases k3
              exact Or.inl (by rw [Bool.or_eq_true, e3]; exact Or.inr k4)
            · exact Or.inr ⟨j, n', by omega, k2, k3, k4⟩
      · rw [if_pos ((px_bit0 sub (by omega)).mpr (by simpa using kc))]
        obtain ⟨t', e1, e2⟩ := ih (i + 1) t (by omega) (by omega)
        refine ⟨t', e1, fun q z hq hz => ?_⟩
        rw [e2 q z hq hz]
        constructor
        · rintro (k | ⟨j, n', k1, k2, k3, k4⟩)
          · exact Or.inl k
          · exact Or.inr ⟨j, n', by omega, k2, k3, k4⟩
        · rintro (k | ⟨j, n', k1, k2, k3, k4⟩)
          · exact Or.inl k
          · by_cases e : j = i
            · subst e; exact absurd k2 kc
            · exact Or.inr ⟨j, n', by omega, k2, k3, k4⟩
theorem px_M0 : pq_M (fun _ => false) = 0 := by unfold pq_M; rw [← pq_0]; exact pq_congr fun i _ => by simp
theorem px_A0 : pq_A (fun _ _ => false) = 0 := by unfold pq_A; exact pq_0
/-- one search of the class -/
theorem px_tally {th : Nat → Nat → Bool} {nd : Nat → Nat → List pd_N} {bn : List pd_B} (hw : px_repW ask u) (hu : px_rep nd bn u) (h3 : u.1 3 = pq_A th) (sub aim lim : Int32) :
    f_X_tallyChoices sub aim lim u = some ((px_L th nd bn (pd_sel ask (fun i => bt sub (5 - i)))).foldl px_ent (f_T_begin aim (u.1 1) lim u)) := by
  obtain ⟨-, -, b2, b1⟩ := pc_begin aim (u.1 1) lim u
  generalize hg : f_T_begin aim (u.1 1) lim u = u1 at b1 b2
  have hw1 : px_repW ask u1 := by unfold px_repW; rw [b2, b1 5 (by omega)]; exact hw
  have hu1 : px_rep nd bn u1 := by unfold px_rep; rw [b2]; exact hu
  have hl : ask.length - 0 < NF := by have := hw.2.1; show _ < 1000000; omega
  unfold f_X_tallyChoices
  rw [hg]
  obtain ⟨r', r1, r2⟩ := px_un8 hw1 sub NF 0 (fun _ => false) (by omega) hl
  obtain ⟨t', t1, t2⟩ := px_un9 hw1 sub NF 0 (fun _ _ => false) (by omega) hl
  have e8 : f_W_union_8 sub u1 = some (pq_M r') := by
    unfold f_W_union_8; rw [← r1, px_M0]; rfl
  have e9 : f_W_union_9 sub u1 = some (pq_A t') := by
    unfold f_W_union_9; rw [← t1, px_A0]; rfl
  have er : pq_M r' = pq_M (pd_want (pd_sel ask (fun i => bt sub (5 - i)))) := pq_M_congr fun q hq => by
    rw [Bool.eq_iff_iff, r2 q hq, pd_want_iff]
    constructor
    · rintro (k | ⟨j, n, -, k1, k2, k3⟩)
      · cases k
      · exact ⟨n, (pd_sel_iff _ _ _).mpr ⟨j, k1, k2⟩, k3⟩
    · rintro ⟨n, hn, k3⟩
      obtain ⟨j, k1, k2⟩ := (pd_sel_iff _ _ _).mp hn
      exact Or.inr ⟨j, n, by omega, k1, k2, k3⟩
  have et : pq_A t' = pq_A (pd_unm (pd_sel ask (fun i => bt sub (5 - i)))) := pq_A_congr fun q z hq hz => by
    rw [Bool.eq_iff_iff, t2 q z hq hz]
    have hiff : pd_unm (pd_sel ask (fun i => bt sub (5 - i))) q z = true ↔ ¬ ∀ n ∈ pd_sel ask (fun i => bt sub (5 - i)), n.1 = q → n.2.1 ≤ z ∧ z ≤ n.2.2 := by
      rw [← pd_unm_iff]; simp
    rw [hiff]
    constructor
    · rintro (k | ⟨j, n, -, k1, k2, k3, k4⟩)
      · cases k
      · exact fun h => k4 (h n ((pd_sel_iff _ _ _).mpr ⟨j, k1, k2⟩) k3)
    · intro h
      apply Classical.byContradiction
      intro hno
      apply h
      intro n hn e
      obtain ⟨j, k1, k2⟩ := (pd_sel_iff _ _ _).mp hn
      apply Classical.byContradiction
      intro hbad
      exact hno (Or.inr ⟨j, n, by omega, k1, k2, e, hbad⟩)
  rw [e8, Option.bind_some, e9, Option.bind_some, er, et, b1 3 (by omega), h3, pq_A_andn]
  have key := px_explore (nd := nd) (bn := bn) 9 (pd_want (pd_sel ask (fun i => bt sub (5 - i)))) (fun _ => false) (px_t0 th (pd_sel ask (fun i => bt sub (5 - i)))) 0 u1 (by decide) (by decide) hu1
  rw [px_M0] at key
  have key2 : f_X_explore 9 (pq_M (pd_want (pd_sel ask (fun i => bt sub (5 - i))))) 0 (pq_A (fun p w => th p w && !pd_unm (pd_sel ask (fun i => bt sub (5 - i))) p w)) 0 u1 = _ := key
  rw [key2, Option.bind_some]
  rfl
end PU
end
section
section PL
variable {th : Nat → Nat → Bool} {nd : Nat → Nat → List pd_N} {bn : List pd_B} {ask : List pd_N} {mk : Nat → Bool}
/-- the model stands in its search, with the choices F still to come -/
def pf_St (th : Nat → Nat → Bool) (nd : Nat → Nat → List pd_N) (bn : List pd_B) (ask : List pd_N) (mk : Nat → Bool) (v : PS) (F : List (Nat → Nat)) : Prop :=
  ∃ (c : Nat → Nat) (L : Nat), L ≤ 7 ∧ v.1 4 = nI L - 1 ∧ pm_rep th nd bn ask v ∧ pm_pk v c ∧ (∀ q, q + 1 < L → c q ≤ 4) ∧ (∀ q, 7 ≤ q → c q = 0) ∧ (∀ q, q + 1 < L → pm_G th nd bn ask mk c q) ∧ pf_mu L c < NF ∧ bt (v.1 3) = mk ∧ pf_F th nd bn (pd_sel ask mk) (pf_rest L c) = F
theorem pf_mu_le : ∀ (l : Nat) (c : Nat → Nat), l ≤ 7 → (∀ q, q < l → c q ≤ 4) → pf_mu l c ≤ pf_mu l (fun _ => 4) := by
  intro l
  induction l with
  | zero => intro c _ _; exact Nat.le_refl _
  | succ l ih =>
    intro c hl h
    have h1 := ih c (by omega) (fun q hq => h q (by omega))
    have h2 := Nat.mul_le_mul_right (pf_t (6 - l)) (h l (by omega))
    have e1 : pf_mu (l + 1) c = c l * pf_t (6 - l) + 1 + pf_mu l c := rfl
    have e2 : pf_mu (l + 1) (fun _ => 4) = 4 * pf_t (6 - l) + 1 + pf_mu l (fun _ => 4) := rfl
    omega
theorem pf_next {v : PS} {F : List (Nat → Nat)} (h : pf_St th nd bn ask mk v F) : ∃ (y : Int32) (v' : PS), f_M_finds v = some (y, v') ∧ pf_fr v v' ∧ (∃ c', pm_pk v' c') ∧
    ((F = [] ∧ y = 0) ∨ ∃ d F', F = d :: F' ∧ y = 1 ∧ pd_val th nd bn (pd_sel ask mk) d ∧ pm_pk v' d ∧ pf_St th nd bn ask mk v' F') := by
  obtain ⟨c, L, h1, h2, h3, h4, h5, h6, h7, h8, h9, h10⟩ := h
  obtain ⟨y, v', e1, e2, e3, e4⟩ := pf_finds NF v c L h1 h2 h3 h4 h5 h6 h7 h8 h9
  rw [h10] at e4
  refine ⟨y, v', e1, e2, e3, ?_⟩
  rcases e4 with k | ⟨d, F', k1, k2, k3, k4, k5, k6⟩
  · exact Or.inl k
  · refine Or.inr ⟨d, F', k1, k2, k3, k4, d, 7, by omega, k5, pf_rep h3 e2, k4, fun q hq => k3.1.1 q (by omega), k3.1.2, fun q hq => pf_G_val (fun i n h => (h3.2.2.2.2.2 i n h).2.2.2) k3.2.1 (by omega), ?_, ?_, k6⟩
    · have := pf_mu_le 7 d (by omega) (fun q hq => k3.1.1 q hq)
      have e : pf_mu 7 (fun _ => 4) = 117179 := by decide +kernel
      show _ < 1000000
      omega
    · rw [e2.1 3 (by omega)]; exact h9
/-- begin(M) -/
def pf_f2 (v v' : PS) : Prop := (∀ k, k ≠ 3 → k ≠ 4 → v'.1 k = v.1 k) ∧ ∀ k, k ≠ 10 → k ≠ 11 → v'.2 k = v.2 k
theorem pf_f2.tr {a b c : PS} (h : pf_f2 a b) (h2 : pf_fr b c) : pf_f2 a c := ⟨fun k hk hk2 => (h2.1 k hk2).trans (h.1 k hk hk2), fun k h3 h4 => (h2.2 k h3 h4).trans (h.2 k h3 h4)⟩
theorem pf_rep2 {v v' : PS} (hr : pm_rep th nd bn ask v) (h : pf_f2 v v') : pm_rep th nd bn ask v' := by
  unfold pm_rep
  rw [h.1 1 (by omega) (by omega), h.1 2 (by omega) (by omega), h.2 0 (by omega) (by omega), h.2 1 (by omega) (by omega), h.2 2 (by omega) (by omega), h.2 3 (by omega) (by omega), h.2 4 (by omega) (by omega), h.2 5 (by omega) (by omega), h.2 6 (by omega) (by omega), h.2 7 (by omega) (by omega), h.2 8 (by omega) (by omega), h.2 9 (by omega) (by omega)]
  exact hr
theorem pf_begin {v : PS} (hr : pm_rep th nd bn ask v) (hk : ∃ c, pm_pk v c) (M : Int32) : ∃ v1, f_M_begin M v = some v1 ∧ pf_f2 v v1 ∧ pf_St th nd bn ask (bt M) v1 (pf_A th nd bn (pd_sel ask (bt M))) := by
  obtain ⟨c, hk⟩ := hk
  have hk2 : pm_pk v (fun p => if p < 7 then c p else 0) := fun p hp => by
    dsimp only; rw [if_pos hp]; exact hk p hp
  have f2 : pf_f2 v (sa (si (si v 3 M) 4 0) 10 0 4) := by
    refine ⟨fun k h3 h4 => ?_, fun k h10 _ => ?_⟩
    · unfold sa si; simp [va_up, h3, h4]
    · unfold sa si; simp [va_up, h10]
  refine ⟨sa (si (si v 3 M) 4 0) 10 0 4, ?_, f2, va_up (fun p => if p < 7 then c p else 0) 0 5, 1, by omega, ?_, pf_rep2 hr f2, ?_, fun q hq => by omega, fun q hq => ?_, fun q hq => by omega, ?_, ?_, ?_⟩
  · unfold f_M_begin
    rw [px_ck _ (by decide)]
    rfl
  · show (si (si v 3 M) 4 0).1 4 = _
    simp [si, va_up]; decide
  · exact pf_pk_sa (v := si (si v 3 M) 4 0) hk2 0 5 (by omega) 4 (by decide)
  · rw [va_up_ne _ _ (by omega), if_neg (by omega)]
  · show va_up (fun p => if p < 7 then c p else 0) 0 5 0 * pf_t 6 + 1 + 0 < 1000000
    rw [va_up_self]; decide +kernel
  · show bt ((si (si v 3 M) 4 0).1 3) = _
    simp [si, va_up]
  · unfold pf_A
    rw [pf_rest_congr 1 _ pf_c0 (by omega) fun i hi => ?_]
    by_cases e : i = 0
    · subst e; rw [va_up_self]; rfl
    · rw [va_up_ne _ _ e, if_neg (by omega)]
      show 0 = (if i = 0 then 5 else 0)
      rw [if_neg e]
theorem pf_many : ∀ (m : Nat) (F : List (Nat → Nat)) (v : PS) (k : Nat), pf_St th nd bn ask mk v F → F.length < m → ∃ v', l_M_many_15 m (nI k) v = some (nI (k + F.length), v') ∧ pf_fr v v' ∧ ∃ c', pm_pk v' c' := by
  intro m
  induction m with
  | zero => intro F v k _ h; omega
  | succ m ih =>
    intro F v k hst hm
    show ∃ v', b_M_many_15 (l_M_many_15 m) (nI k) v = _ ∧ _
    unfold b_M_many_15
    obtain ⟨y, v1, e1, e2, e3, e4⟩ := pf_next hst
    rw [e1]
    rw [Option.bind_some]
    dsimp only
    rcases e4 with ⟨k1, k2⟩ | ⟨d, F', k1, k2, -, -, k5⟩
    · subst k1 k2
      rw [if_pos rfl]
      exact ⟨v1, rfl, e2, e3⟩
    · subst k1 k2
      rw [if_neg (by decide), nI_1]
      obtain ⟨v', q1, q2, q3⟩ := ih F' v1 (k + 1) k5 (by rw [List.length_cons] at hm; omega)
      refine ⟨v', ?_, e2.tr q2, q3⟩
      rw [q1, List.length_cons]
      congr 3
      omega
theorem pf_can {p : Nat} (hp : p < 7) : ∀ (m : Nat) (F : List (Nat → Nat)) (v : PS) (x2 : Int32), pf_St th nd bn ask mk v F → F.length < m → ∃ (r : Int32) (v' : PS), l_M_can_24 m (nI p) x2 v = some (r, v') ∧ pf_fr v v' ∧ (∃ c', pm_pk v' c') ∧ ∀ i, i < 32 → (bt r i = true ↔ bt x2 i = true ∨ ∃ d ∈ F, i = (if d p = 0 then 4 else d p - 1)) := by
  intro m
  induction m with
  | zero => intro F v x2 _ h; omega
  | succ m ih =>
    intro F v x2 hst hm
    show ∃ r v', b_M_can_24 (l_M_can_24 m) (nI p) x2 v = _ ∧ _
    unfold b_M_can_24
    obtain ⟨y, v1, e1, e2, e3, e4⟩ := pf_next hst
    rw [e1]
    rw [Option.bind_some]
    dsimp only
    rcases e4 with ⟨k1, k2⟩ | ⟨d, F', k1, k2, k3, k4, k5⟩
    · subst k1 k2
      rw [if_pos rfl]
      exact ⟨x2, v1, rfl, e2, e3, fun i _ => by simp⟩
    · subst k1 k2
      rw [if_neg (by decide), px_ck _ (px_inb hp (by omega)), nI_clamp (show p < 2 ^ 31 by omega), (k4 p hp).1]
      have h5 := (k4 p hp).2
      have h4 := k3.1.1 p hp
      have fin : ∀ (n : Nat) (X : Int32), n < 32 → n = (if d p = 0 then 4 else d p - 1) → X = (1 : Int32) <<< (nI n &&& 31) → ∃ (r : Int32) (v' : PS), l_M_can_24 m (nI p) (x2 ||| X) v1 = some (r, v') ∧ pf_fr v v' ∧ (∃ c', pm_pk v' c') ∧ ∀ i, i < 32 → (bt r i = true ↔ bt x2 i = true ∨ ∃ d' ∈ d :: F', i = (if d' p = 0 then 4 else d' p - 1)) := by
        intro n X hn en eX
        obtain ⟨r, v', q1, q2, q3, q4⟩ := ih F' v1 (x2 ||| X) k5 (by rw [List.length_cons] at hm; omega)
        refine ⟨r, v', q1, e2.tr q2, q3, fun i hi => ?_⟩
        rw [q4 i hi, b_or, Bool.or_eq_true, eX, pq_b1 hn, decide_eq_true_eq]
        constructor
        · rintro ((k | k) | ⟨d', k1, k2⟩)
          · exact Or.inl k
          · exact Or.inr ⟨d, List.mem_cons_self, by rw [k, en]⟩
          · exact Or.inr ⟨d', List.mem_cons_of_mem _ k1, k2⟩
        · rintro (k | ⟨d', k1, k2⟩)
          · exact Or.inl (Or.inl k)
          · rcases List.mem_cons.mp k1 with k | k
            · subst k; exact Or.inl (Or.inr (by rw [k2, en]))
            · exact Or.inr ⟨d', k, k2⟩
      by_cases h0 : d p = 0
      · rw [if_pos ((pm_m1 (by omega)).mpr h0)]
        exact fin 4 _ (by omega) (by rw [if_pos h0]) rfl
      · obtain ⟨w, hw⟩ : ∃ w, d p = w + 1 := ⟨d p - 1, by omega⟩
        rw [if_neg (fun z => h0 ((pm_m1 (by omega)).mp z)), px_ck _ (px_inb hp (by omega)), hw, nI_pred]
        exact fin w _ (by omega) (by rw [if_neg h0]; omega) rfl
end PL
/-! counting over the packages -/
def pc_cn (f : Nat → Bool) : Nat → Nat
  | 0 => 0
  | j + 1 => (f (6 - j)).toNat + pc_cn f j
theorem pc_cn_le (f : Nat → Bool) : ∀ j, pc_cn f j ≤ j := by
  intro j
  induction j with
  | zero => exact Nat.le_refl 0
  | succ j ih =>
    unfold pc_cn
    have : (f (6 - j)).toNat ≤ 1 := by cases f (6 - j) <;> decide
    omega
theorem pc_cn_congr {f g : Nat → Bool} (h : ∀ p, p < 7 → f p = g p) : ∀ j, pc_cn f j = pc_cn g j := by
  intro j
  induction j with
  | zero => rfl
  | succ j ih => unfold pc_cn; rw [h _ (by omega), ih]
theorem pc_cn_s (f : Nat → Bool) {i : Nat} (hi : i < 7) : pc_cn f (7 - i) = (f i).toNat + pc_cn f (7 - (i + 1)) := by
  obtain ⟨j, hj⟩ : ∃ j, 7 - i = j + 1 := ⟨6 - i, by omega⟩
  rw [hj, show 7 - (i + 1) = j by omega]
  show (f (6 - j)).toNat + pc_cn f j = _
  rw [show 6 - j = i by omega]
theorem pc_bitM_d : ∀ m, m < 128 → f_J_bitCount (pq_M (fun p => m.testBit p)) = nI (pc_cn (fun p => m.testBit p) 7) := by decide +kernel
theorem pc_bitM (r : Nat → Bool) : f_J_bitCount (pq_M r) = nI (pc_cn r 7) := by
  obtain ⟨m, hm, h⟩ := pq_num r
  rw [pq_M_congr h, pc_bitM_d m hm, pc_cn_congr h]
theorem pc_diff {c d : Nat → Nat} (hc : ∀ p, p < 7 → c p ≤ 4) (hd : ∀ p, p < 7 → d p ≤ 4) : f_X_differing (pd_enc c) (pd_enc d) = nI (pc_cn (fun p => !decide (c p = d p)) 7) := by
  unfold f_X_differing pd_enc
  rw [pq_A_xor, pq_marks, pq_M_congr (s := _) (t := fun p => !decide (c p = d p)) fun p hp => ?_, pc_bitM]
  have h1 := hc p hp
  have h2 := hd p hp
  generalize c p = x at h1
  generalize d p = y at h2
  exact (by decide : ∀ x, x ≤ 4 → ∀ y, y ≤ 4 → (decide (x = 0 + 1) ^^ decide (y = 0 + 1) || decide (x = 1 + 1) ^^ decide (y = 1 + 1) || decide (x = 2 + 1) ^^ decide (y = 2 + 1) || decide (x = 3 + 1) ^^ decide (y = 3 + 1)) = !decide (x = y)) x h1 y h2
end
section
/-! THROWING: what must be known of java.lang.Throwable, of the exception's class and its chain -/
abbrev tW : String := "java/lang/Throwable"
abbrev tSt : String := "[Ljava/lang/StackTraceElement;"
abbrev tLi : String := "Ljava/util/List;"
/-- a static reference of Throwable's, in a cell below B -/
def sq_S (n d : String) (B : Nat) (U : State) (H : Heap) : Prop := ∃ (c : ClassId) (k : Class) (i : Nat) (f : Field) (a : Nat) (cell : Cell) (v : Value), U.vm.findClass tW = some c ∧ U.fieldFound? tW n d = some (c, k, i, f) ∧ f.isStatic = true ∧ k.statics = some a ∧ H[a]? = some cell ∧ cell.vm.isStatics = true ∧ cell.cls = c ∧ f.slot < cell.slots.size ∧ k.staticTypes[f.slot]? = some f.type ∧ cell.slots[f.slot]? = some v ∧ v.isRef = true ∧ a < B
theorem sq_S.moved {n d : String} {B : Nat} {u U : State} {H : Heap} (hvm : u.vm.Alike U.vm) (h : sq_S n d B u H) : sq_S n d B U H := by
  obtain ⟨c, k, i, f, a, cell, v, h1, h2, h3, h4, h5, h6, h7, h8, h9, h10, h11, h12⟩ := h
  obtain ⟨k', hi', he⟩ := State.fieldFound?_setVm hvm h2
  exact ⟨c, k', i, f, a, cell, v, by rw [hvm.findClass]; exact h1, hi', h3, by rw [he]; exact h4, h5, h6, h7, h8, by rw [he]; exact h9, h10, h11, h12⟩
theorem sq_S.kept {n d : String} {B : Nat} {U : State} {H H1 : Heap} (h : sq_S n d B U H) (hq : ∀ a : Nat, a < B → H1[a]? = H[a]?) : sq_S n d B U H1 := by
  obtain ⟨c, k, i, f, a, cell, v, h1, h2, h3, h4, h5, h6, h7, h8, h9, h10, h11, h12⟩ := h
  exact ⟨c, k, i, f, a, cell, v, h1, h2, h3, h4, by rw [hq a h12]; exact h5, h6, h7, h8, h9, h10, h11, h12⟩
theorem sq_S.lays {n d : String} {B : Nat} {U : State} {A : Array Value} (h : sq_S n d B U U.heap) : (Cond.laysStatic tW n d).before A U = true := by
  obtain ⟨c, k, i, f, a, cell, v, h1, h2, h3, h4, h5, h6, h7, h8, h9, h10, h11, h12⟩ := h
  simp [Cond.before, Cond.holds, Cond.value, h1, h2, h3, h4, h5, h6, h7, h8, h9]
theorem sq_S.isRef {n d : String} {B : Nat} {U : State} {A : Array Value} (h : sq_S n d B U U.heap) : (Cond.isRef (.static tW n d)).before A U = true := by
  obtain ⟨c, k, i, f, a, cell, v, h1, h2, h3, h4, h5, h6, h7, h8, h9, h10, h11, h12⟩ := h
  have ev : (Term.static tW n d).eval A U none [] U = some v := by
    simp [Term.eval, State.fieldNamed?, h2, h3, h4, h5, h6, h10]
  simp [Cond.before, Cond.holds, Cond.value, ev]
  cases v <;> simp_all [Value.isRef]
end
section
/-- the words on an exception class cls, whose constructor (bytes) goes on to that of Y by the entry ix, and Y's to those of names -/
def th_At (own : String) (ic : Nat) (cls Y : String) (ix : Nat) (bytes : ByteArray) (names : List String) : List Cond :=
  Bundle.throwableAtoms ++ (Bundle.throwableSAtoms ++ (Bundle.passSAtoms cls Y ix bytes ++ (Bundle.chainSAtoms Y names ++
  [.methodLink own ic (Bundle.initS cls), .instantiable cls 6, .selects cls Bundle.tFill0 Bundle.tFill0, .selects cls Bundle.tFill Bundle.tFill,
   .lays cls tW "cause" "Ljava/lang/Throwable;", .lays cls tW "stackTrace" tSt, .lays cls tW "suppressedExceptions" tLi, .lays cls tW "detailMessage" "Ljava/lang/String;",
   .isRef (.static tW "UNASSIGNED_STACK" tSt), .isRef (.static tW "SUPPRESSED_SENTINEL" tLi),
   .fieldLink tW 198 tW "backtrace" "Ljava/lang/Object;", .lays tW tW "backtrace" "Ljava/lang/Object;", .lays cls tW "backtrace" "Ljava/lang/Object;"])))
section THC
variable {p : Program} {l : Launch} {e : Env} {R : Room} {s : State} {m0 : MethodId} {args : Array Value} {below : List Frame} {meth : Method} {c : Code} {W0 : State} {locs : List Loc} {cells slots : Nat}
set_option maxHeartbeats 4000000 in
theorem th_ctor (X : Stand p l e R s m0 args below meth c W0 locs cells slots) (hexec : p.tables.exec = Jvm.exec) (htr : e.platform.stackTraces = false) {own cls Y : String} {names : List String} {ic ix : Nat} {bytes : ByteArray}
    (hown : s.vm.findClass own = some m0.cls) (hcls : Bundle.fit cls = true) (hY : Bundle.fit Y = true) (hnames : ∀ n ∈ names, Bundle.fit n = true)
    (hb0 : decode bytes 0 = .ok (.aload_n 0, 1)) (hb1 : decode bytes 1 = .ok (.aload_n 1, 1)) (hb2 : decode bytes 2 = .ok (.invokespecial ix, 3)) (hb5 : decode bytes 5 = .ok (.return_, 1))
    (h : ∀ w ∈ th_At own ic cls Y ix bytes names, w.before args s = true)
    (hlocs : ∀ x ∈ locs, ∀ cell, s.heap[x.base]? = some cell → cell.vm.isStatics = false)
    {a : Addr} {cX : ClassId} {kX : Class} (hfX : s.vm.findClass cls = some cX) (hkX : s.vm.classes[cX]? = some kX) (hcell : W0.heap[a]? = some (freshCell cX kX)) (hnew : s.heap.size ≤ a)
    {msg : Value} (hmsg : msg.isRef = true) {g : JFrame} (hg : g.method = m0) (hsize : g.locals.size = c.maxLocals) (hlocked : g.locked = none) (hentered : g.entered = [])
    {rest : List Value} (hstack : g.stack = msg :: .ref a :: .ref a :: rest) (hd6 : decode c.code g.pc = .ok (.invokespecial ic, 3)) (hd9 : decode c.code (g.pc + 3) = .ok (.athrow, 1))
    (hout : ∀ x ∈ c.exceptionTable.toList, covers x (g.pc + 3) = false) (hRf : names.length + 4 < R.frames) (hRl : 2 * g.monitorRoom + ((Value.ref a :: rest).map fun v => v.category).sum + (13 * (names.length + 2) + 42) ≤ R.locals) (hlocks : meth.locks = false) :
    ∃ (U : State) (ce : Cell), Steps p.tables e below (W0.setTop g) U ∧ U.status = .running ∧ Ended U below (.threw a) ∧ s.WarmedH U.vm ∧ s.sameButNew ({ U with vm := s.vm } : State) locs cells slots ∧
      U.heap[a]? = some ce ∧ ce.vm = .none ∧ ce.cls = cX ∧ ∀ q, q ≠ a → U.heap[q]? = W0.heap[q]? := by
  have howns : e.platform.frameOwnsMonitors = true := by rw [X.admits.platform]
  have hfin : e.platform.finalization = false := by rw [X.admits.platform]
  have hpl : e.platform.magicAccessors = ({} : Platform).magicAccessors := by rw [X.admits.platform]
  have hH : ∀ w, w ∈ th_At own ic cls Y ix bytes names → w.holds args s none s [] = true := fun w hw => h w hw
  obtain ⟨T, Z0, L, -, Ti⟩ := ThrowableC.of_atoms (args := args) howns hfin hpl (fun w hw => h w (by unfold th_At; exact List.mem_append_left _ hw))
  obtain ⟨Z, M, LZ, LM, hnZ⟩ := Init0T.ofS_atoms (args := args) hpl L Ti (fun w hw => h w (by unfold th_At; exact List.mem_append_right _ (List.mem_append_left _ hw)))
  have hpa : ∀ w ∈ Bundle.passSAtoms cls Y ix bytes, w.before args s = true := fun w hw => h w (by unfold th_At; exact List.mem_append_right _ (List.mem_append_right _ (List.mem_append_left _ hw)))
  obtain ⟨P0, L0, hP0m, hP0s⟩ := PassC.ofS_atoms (args := args) hpl (Bundle.fit_spec hcls).1 (Bundle.fit_spec hY).2 hb0 hb1 hb2 hb5 hpa
  obtain ⟨P1, Ps, hlen, L1, hLs, hP1m, hk1, hks⟩ := Bundle.chainS (args := args) hpl hnZ names Y hY hnames (fun w hw => h w (by unfold th_At; exact List.mem_append_right _ (List.mem_append_right _ (List.mem_append_right _ (List.mem_append_left _ hw)))))
  have hlast : ∀ w, w ∈ ([.methodLink own ic (Bundle.initS cls), .instantiable cls 6, .selects cls Bundle.tFill0 Bundle.tFill0, .selects cls Bundle.tFill Bundle.tFill,
   .lays cls tW "cause" "Ljava/lang/Throwable;", .lays cls tW "stackTrace" tSt, .lays cls tW "suppressedExceptions" tLi, .lays cls tW "detailMessage" "Ljava/lang/String;",
   .isRef (.static tW "UNASSIGNED_STACK" tSt), .isRef (.static tW "SUPPRESSED_SENTINEL" tLi),
   .fieldLink tW 198 tW "backtrace" "Ljava/lang/Object;", .lays tW tW "backtrace" "Ljava/lang/Object;", .lays cls tW "backtrace" "Ljava/lang/Object;"] : List Cond) → w.holds args s none s [] = true := fun w hw => hH w (by unfold th_At; exact List.mem_append_right _ (List.mem_append_right _ (List.mem_append_right _ (List.mem_append_right _ hw))))
  have hfound : s.vm.findClass cls = some P0.m.cls := findClass_of_methodNamed hP0m
  cases Option.some.inj (hfX.symm.trans hfound)
  obtain ⟨c1, kX', hc1, hk, hord, -, -, hn6⟩ := Cond.instantiable_spec (hlast (.instantiable cls 6) (by simp))
  cases Option.some.inj (hc1.symm.trans hfound)
  cases Option.some.inj (hkX.symm.trans hk)
  have pick : ∀ {y : MethodName} {r : MethodId}, s.methodNamed? y = some r → (y.cls ≠ "java/lang/invoke/MethodHandle" ∧ y.cls ≠ "java/lang/invoke/VarHandle") → (Cond.selects cls y y).holds args s none s [] = true → selectMethod e.platform s.vm P0.m.cls r = .method r := by
    intro y r hr hy hs
    obtain ⟨c2, r2, m2, q1, q2, q3, q4, -⟩ := Cond.selects_spec hs
    cases Option.some.inj (q1.symm.trans hfound)
    cases Option.some.inj (q2.symm.trans (State.methodFound?_of_named hr hy))
    cases Option.some.inj (q3.symm.trans hr)
    rw [Launch.admits_selectMethod X.admits]
    exact q4
  have hsel0 := pick Ti.fill0 (by decide) (hlast (.selects cls Bundle.tFill0 Bundle.tFill0) (by simp))
  have hselF := pick Ti.fill (by decide) (hlast (.selects cls Bundle.tFill Bundle.tFill) (by simp))
  obtain ⟨cellS0, hcS0, hiss⟩ := Ti.statics
  obtain ⟨u0, hu0⟩ := Cond.staticRefV Ti.unassigned L.unassignedStatic L.statics hcS0 hiss (hlast (.isRef (.static tW "UNASSIGNED_STACK" tSt)) (by simp))
  obtain ⟨sen, hsen⟩ := Cond.staticRefV Ti.sentinel L.sentinelStatic L.statics hcS0 hiss (hlast (.isRef (.static tW "SUPPRESSED_SENTINEL" tLi)) (by simp))
  obtain ⟨ciB, iB, fB, hkB, hgB, haB, hsB, -, hnB, htB, hffB⟩ := Cond.ownField (t := .object "java/lang/Object") Ti.found L.cls (by decide +kernel) (hlast (.fieldLink tW 198 tW "backtrace" "Ljava/lang/Object;") (by simp)) (hlast (.lays tW tW "backtrace" "Ljava/lang/Object;") (by simp)) e.platform hpl
  obtain ⟨cellS, hcellS, heS, -, hkeep⟩ := X.same.2.2.2.2.2 T.aS cellS0 hcS0
  have hnotin : ∀ i, (⟨T.aS, i⟩ : Loc) ∉ locs := fun i hmem => by
    have := hlocs _ hmem cellS0 hcS0
    rw [hiss] at this; cases this
  have hknownS : cellS.vm ≠ .unknown := by
    rw [heS]; intro hu
    rw [show cellS0.vm = .unknown from hu] at hiss
    cases hiss
  have hneS : T.aS ≠ a := Nat.ne_of_lt (Nat.lt_of_lt_of_le (Array.getElem?_eq_some_iff.mp hcS0).1 hnew)
  obtain ⟨iM, hffM⟩ := Ti.msg
  obtain ⟨tyC, dC, hdC, hdnC⟩ := Cond.laysAt hfound hk Ti.cause (hlast (.lays cls tW "cause" "Ljava/lang/Throwable;") (by simp))
  obtain ⟨tyS, dS, hdS, hdnS⟩ := Cond.laysAt hfound hk Ti.stack (hlast (.lays cls tW "stackTrace" tSt) (by simp))
  obtain ⟨tyP, dP, hdP, hdnP⟩ := Cond.laysAt hfound hk Ti.supp (hlast (.lays cls tW "suppressedExceptions" tLi) (by simp))
  obtain ⟨tyM, dM, hdM, hdnM⟩ := Cond.laysAt hfound hk hffM (hlast (.lays cls tW "detailMessage" "Ljava/lang/String;") (by simp))
  obtain ⟨tyB, dB, hdB, hdnB⟩ := Cond.laysAt hfound hk hffB (hlast (.lays cls tW "backtrace" "Ljava/lang/Object;") (by simp))
  have bC := Cond.laysApart hdB hdC hdnB hdnC (by rw [hnB, Ti.causeName]; decide)
  have bS := Cond.laysApart hdB hdS hdnB hdnS (by rw [hnB, Ti.stackName]; decide)
  have bP := Cond.laysApart hdB hdP hdnB hdnP (by rw [hnB, Ti.suppName]; decide)
  have hskip : SkipFacts T e.platform s (fun u => u) u0 ((preparedCellV T.toThrowableT (freshCell P0.m.cls kX) a u0 sen).withEntry W0.cur) := by
    refine ⟨{ ci198 := ciB, i198 := iB, fBack := fB }, ⟨hkB, hgB, haB, hsB⟩, ?_, fun _ _ => rfl⟩
    have hz := fresh_default (c := P0.m.cls) tyB
    rw [htB] at hz
    simpa [preparedCellV, Cell.setSlot, Cell.withEntry, Array.getElem?_setIfInBounds, bC, bS, bP, bC.symm, bS.symm, bP.symm, defaultValue] using hz
  obtain ⟨tm, -, -, -, vm1, hnC, -, -, -, -, -, -, -, hW1, st1⟩ := Steps.initColdS (tb := p.tables) (e := e) (below := below) (s := s) (U := W0) X.here hexec X.warmed hpl hown (t := Bundle.initS cls) rfl rfl (Bundle.fit_spec hcls).2
    (hlast (.methodLink own ic (Bundle.initS cls)) (by simp)) (hpa (.instanceMethod (Bundle.initS cls)) (by simp [Bundle.passSAtoms])) (bytes := bytes) (maxL := 2) (hpa (.code (Bundle.initS cls) bytes 2 none) (by simp [Bundle.passSAtoms]))
    (f := g) hg (a := a) (msg := msg) (rest := .ref a :: rest) hstack hd6
  cases Option.some.inj (hnC.symm.trans hP0m)
  have X1 := X.noted hW1
  have hsup : P0.sup = P1.m := Option.some.inj (hP0s.symm.trans hP1m)
  obtain ⟨vm2, X2, st2⟩ := X1.ctorMessageOffV hexec (g := { g with stack := .ref a :: rest }) hg hsize T L Z LZ M LM (P0 :: P1 :: Ps)
    (fun P hP => by
      rcases List.mem_cons.mp hP with rfl | hP
      · exact L0
      · rcases List.mem_cons.mp hP with rfl | hP
        · exact L1
        · exact hLs P hP) ⟨hsup, hk1, hks⟩ (u0 := u0) (sen := sen) (self := a) hmsg (cell := freshCell P0.m.cls kX) (cellS := cellS)
    hcell (fun _ => by simp) (by simp) rfl rfl hsel0 hselF hcellS hneS hknownS (by rw [hkeep _ (hnotin _)]; exact hu0) (by rw [hkeep _ (hnotin _)]; exact hsen)
    (Takes.of_laid hk hord tyC (by rw [Ti.causeType]; rfl)) (Takes.of_laid hk hord tyS (by rw [Ti.stackType]; exact fits_refV_array _ u0)) (Takes.of_laid hk hord tyP (by rw [Ti.suppType]; exact fits_refV_object _ sen))
    (Takes.of_laid hk hord tyM (by rw [Ti.msgType]; exact fits_refV_object _ ⟨msg, hmsg⟩)) Ti.objLocals hskip htr [] hd6
    (by simp only [List.length_cons, hlen]; omega) (by simp only [List.length_cons, hlen]; exact hRl)
  obtain ⟨hwalk, hrun, hended, hWU, hsame⟩ := X2.athrowLeaves hexec (g := { g with stack := .ref a :: rest, pc := g.pc + 3 }) hg hlocked hentered hout (a := a) (rest := rest) rfl hd9 hlocks
  have hlt : a < ((W0.setVm vm1).setVm vm2).heap.size := (Array.getElem?_eq_some_iff.mp hcell).1
  refine ⟨_, plainBareV T.toThrowableT (freshCell P0.m.cls kX) a u0 sen msg, st1 _ (fun acts => ?_), hrun, hended, hWU, hsame.weaken (fun y hy hlt' => ?_) (Nat.le_refl _) (Nat.le_refl _), ?_, rfl, rfl, fun q hq => ?_⟩
  · rw [doInvoke_state]
    exact st2 _ hwalk
  · rcases List.mem_append.mp hy with h1 | h1
    · exact h1
    · exfalso
      have hb : y.base = a := by
        simp only [List.mem_cons, List.not_mem_nil, or_false] at h1
        rcases h1 with rfl | rfl | rfl | rfl | rfl <;> rfl
      rw [hb] at hlt'
      exact Nat.not_lt.mpr hnew hlt'
  · exact heapAt_setCell_self (s := (W0.setVm vm1).setVm vm2) _ hlt
  · exact heapAt_setCell_ne (s := (W0.setVm vm1).setVm vm2) _ (Ne.symm hq)
end THC
end
section
/-- the words that don't go along by themselves -/
def thD : List Cond := [.declares (Bundle.initS "java/lang/RuntimeException"), .declares (Bundle.initS "java/lang/Exception"), .declares (Bundle.initS tW)]
def thX : List Cond := [.isRef (.static tW "UNASSIGNED_STACK" tSt), .isRef (.static tW "SUPPRESSED_SENTINEL" tLi), .laysStatic tW "UNASSIGNED_STACK" tSt, .laysStatic tW "SUPPRESSED_SENTINEL" tLi] ++ thD
def thR : List (Nat × String) := [(78, "there is no such aim"), (100, "there is no choice"), (134, "the core has no such need")]
/-- what a state knows of throwing; its cells lie below B -/
def Thr (B : Nat) (U : State) : Prop := sq_S "UNASSIGNED_STACK" tSt B U U.heap ∧ sq_S "SUPPRESSED_SENTINEL" tLi B U U.heap ∧ (va_Nw (.declares (Bundle.initS "java/lang/RuntimeException")) U ∧ va_Nw (.declares (Bundle.initS "java/lang/Exception")) U ∧ va_Nw (.declares (Bundle.initS tW)) U) ∧ ∀ q ∈ thR, ∃ a, vk_R "PackagePick" q.1 q.2 a U
theorem Thr.warm {B : Nat} {s U : State} (hW : s.WarmedH U.vm) (hq : ∀ a : Nat, a < B → U.heap[a]? = s.heap[a]?) (h : Thr B s) : Thr B U := by
  obtain ⟨h1, h2, ⟨d1, d2, d3⟩, h4⟩ := h
  exact ⟨(h1.moved hW.alike).kept hq, (h2.moved hW.alike).kept hq, ⟨va_Nw.warmD hW d1, va_Nw.warmD hW d2, va_Nw.warmD hW d3⟩, fun q hq => (h4 q hq).imp fun a h => h.warm hW⟩
theorem Thr.same {B : Nat} {s U : State} (hv : s.vm = U.vm) (hh : U.heap = s.heap) (h : Thr B s) : Thr B U := by
  obtain ⟨h1, h2, ⟨d1, d2, d3⟩, h4⟩ := h
  have al : s.vm.Alike U.vm := by rw [hv]; exact Vm.Alike.refl _
  exact ⟨(h1.moved al).kept (fun a _ => by rw [hh]), (h2.moved al).kept (fun a _ => by rw [hh]), ⟨va_Nw.same rfl hv d1, va_Nw.same rfl hv d2, va_Nw.same rfl hv d3⟩, fun q hq => (h4 q hq).imp fun a h => h.same hv.symm⟩
theorem Thr.words {B : Nat} {U : State} {A : Array Value} (h : Thr B U) : ∀ w ∈ thX, w.before A U = true := by
  obtain ⟨h1, h2, ⟨d1, d2, d3⟩, -⟩ := h
  intro w hw
  simp only [thX, thD, List.mem_append, List.mem_cons, List.not_mem_nil, or_false] at hw
  rcases hw with (rfl | rfl | rfl | rfl) | (rfl | rfl | rfl)
  · exact h1.isRef
  · exact h2.isRef
  · exact h1.lays
  · exact h2.lays
  · exact va_Nw.use rfl d1
  · exact va_Nw.use rfl d2
  · exact va_Nw.use rfl d3
theorem va_at.plain {D : va_G} {cl : List vw_C} {q : Nat × va_E} {H : Heap} (h : va_at D cl q H) : ∀ cell, H[q.1]? = some cell → cell.vm.isStatics = false := by
  obtain ⟨a, e⟩ := q
  intro cell hc
  cases e with
  | inl x =>
    have h1 : H[a]? = some (vp_cell x.1 x.2) := h
    cases Option.some.inj (hc.symm.trans h1)
    obtain ⟨cA, n, f | f | f | f | f⟩ := x <;> rfl
  | inr o =>
    obtain ⟨r, -, cell', h1, -, h3, -⟩ := h
    cases Option.some.inj (hc.symm.trans h1)
    rw [h3]; rfl
/-- the end of a method that throws -/
def QTo {S : Type} (D : va_G) (wf : S → va_W) (E : String) (u0 : S) (A : Nat → Prop) (st : State) (o : Outcome) (t : State) : Prop :=
  ∃ (q : Addr) (ce : Cell) (L : List Loc), o = .threw q ∧ st.heap.size ≤ q ∧ t.heap[q]? = some ce ∧ ce.vm = .none ∧ st.vm.findClass E = some ce.cls ∧ st.WarmedH t.vm ∧ st.sameButNew ({ t with vm := st.vm } : State) L 1 6 ∧ (∀ z ∈ L, A z.base) ∧ va_P D vwCl (wf u0) t.heap ∧ va_D A (wf u0) ∧ va_F A st t
def QT {S : Type} (γ : CX) (wf : S → va_W) (E : String) (u0 : S) : Prop := γQ γ = fun t => ∃ o, t.status = .running ∧ Ended t (γb γ) o ∧ QTo (γD γ) wf E u0 (γA γ) (γs γ) o t
def rkT (k : Nat) : Room := { frames := k, cells := 1, slots := 6, locals := 40 * k }
def CxT (γ : CX) (B : Nat) : Prop := (γe γ).platform.stackTraces = false ∧ (γc γ).exceptionTable.toList = [] ∧ Thr B (γs γ) ∧ ∀ q, γA γ q → ∀ cell, (γs γ).heap[q]? = some cell → cell.vm.isStatics = false
section XT
variable {S : Type} {γ : CX} {cc : ByteArray} {nL : Nat} {ret : Option FieldType} {own : String} {k B : Nat} {tys : Tys} {wf : S → va_W} {pc : Nat} {lv : List (Nat × Value)} {u u0 : S}
set_option maxHeartbeats 4000000 in
theorem x_throw (C : Cx γ cc nL ret "PackagePick" (rkT k) tys) (CT : CxT γ B) {E cls : String} (hQ : QT γ wf E u0) (hE : cls = E) {ik is ic ix : Nat} {tx : String} {bytes : ByteArray} (hk : 6 ≤ k)
    (hcl : Cond.classLink "PackagePick" ik cls ∈ WB) (hin : Cond.instantiable cls 6 ∈ WB) (hini : Cond.initialized cls ∈ WB)
    (hcls : Bundle.fit cls = true) (hb0 : decode bytes 0 = .ok (.aload_n 0, 1)) (hb1 : decode bytes 1 = .ok (.aload_n 1, 1)) (hb2 : decode bytes 2 = .ok (.invokespecial ix, 3)) (hb5 : decode bytes 5 = .ok (.return_, 1))
    (hw : ∀ w ∈ th_At "PackagePick" ic cls "java/lang/RuntimeException" ix bytes ["java/lang/Exception"], w ∈ WB ∨ w ∈ thX) (hs : (is, tx) ∈ thR)
    (hd0 : decode cc pc = .ok (.new ik, 3)) (hd3 : decode cc (pc + 3) = .ok (.dup, 1)) (hd4 : decode cc (pc + 3 + 1) = .ok (.ldc is, 2)) (hd6 : decode cc (pc + 3 + 1 + 2) = .ok (.invokespecial ic, 3)) (hd9 : decode cc (pc + 3 + 1 + 2 + 3) = .ok (.athrow, 1))
    (hu : u = u0) : AtG γ wf nL 0 0 pc lv [] u := by
  subst hu hE
  intro H locs ls hP hD hS hl
  obtain ⟨htr, hext, hth, hst⟩ := CT
  obtain ⟨cX, kX, hfX, hkX, -, -, -, -⟩ := Cond.instantiable_spec (C.hts _ hin)
  obtain ⟨sa, hsa⟩ := hth.2.2.2 _ hs
  have hR := C.hR
  refine W.newcK C.hx C.hb C.hown (C.hts _ hcl) (C.hts _ hin) (C.hts _ hini) (g := F0 (γm γ) pc ls []) rfl hd0 (by rw [hR]; exact Nat.le_refl 1) (by rw [hR]; exact Nat.le_refl 6) hfX rfl (fun H1 kC hkC e1 z1 o1 => ?_)
  cases Option.some.inj (hkX.symm.trans hkC)
  refine lv_dup (rest := []) C.hx C.hb hd3 rfl ?_
  refine va_ldcS C.hx C.hb C.hown hsa hd4 ?_
  intro T hT X
  have hsz : (γs γ).heap.size ≤ H.size := hS.1
  obtain ⟨U, ce, st, hrun, hend, hWU, hsame, hce, hcv, hcc, hoth⟩ := th_ctor X C.hx htr (own := "PackagePick") (cls := cls) (Y := "java/lang/RuntimeException") (names := ["java/lang/Exception"]) (ic := ic) (ix := ix) (bytes := bytes) C.hown hcls (by decide) (by decide) hb0 hb1 hb2 hb5
    (fun w h => (hw w h).elim (fun h => C.hts w h) (fun h => hth.words w h)) (fun x hx cell hc => hst x.base (hS.2.2 x hx) cell hc) (a := H.size) hfX hkX (by rw [hT]; exact e1) hsz (msg := .ref sa) rfl (g := F0 (γm γ) (pc + 3 + 1 + 2) ls [.ref sa, .ref H.size, .ref H.size]) rfl (hl.1.trans C.hml.symm) rfl rfl (rest := []) rfl
    (by rw [C.hb]; exact hd6) (by rw [C.hb]; exact hd9) (by rw [hext]; intro x hx; cases hx) (by rw [hR]; show 1 + 4 < k; omega) (by rw [hR]; show _ ≤ 40 * k; have : (2 * (F0 (γm γ) (pc + 3 + 1 + 2) ls [.ref sa, .ref H.size, .ref H.size]).monitorRoom + ((Value.ref H.size :: []).map fun v => v.category).sum + (13 * (["java/lang/Exception"].length + 2) + 42)) = 82 := rfl; omega) C.hlocks
  refine ⟨U, st, ?_⟩
  have hQ' := hQ
  unfold QT at hQ'
  rw [hQ']
  have hUH : ∀ q, q < H.size → U.heap[q]? = H[q]? := fun q hq => by rw [hoth q (Nat.ne_of_lt hq), hT, o1 q hq]
  refine ⟨_, hrun, hend, H.size, ce, locs, rfl, hsz, hce, hcv, by rw [hcc]; exact hfX, hWU, hsame, hS.2.2, hP.kept (fun k q hk => hUH q.1 (hP k q hk).lt), hD, ?_, fun q hq hA => ?_⟩
  · have h2 : (γs γ).heap.size ≤ ({ U with vm := (γs γ).vm } : State).heap.size := hsame.2.1
    exact h2
  · rw [hUH q (Nat.lt_of_lt_of_le hq hsz)]; exact hS.2.1 q hq hA
end XT
end
