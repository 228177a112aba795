section
-- ===== PART A: goes FIRST, ahead of the names: the tables' words, and 'selects' of the private methods out of them =====
/-- a private method of a class that the tables say can be made, by its rows of tables_1 -/
def lw_okq (q : MethodName × Nat) : Prop := (q.1.cls ≠ "java/lang/invoke/MethodHandle" ∧ q.1.cls ≠ "java/lang/invoke/VarHandle") ∧ Cond.instantiable q.1.cls q.2 ∈ tables_1 ∧ Cond.privateMethod q.1 ∈ tables_1 ∧ Cond.instanceMethod q.1 ∈ tables_1
theorem lw_p0 : lw_okq (⟨"PackagePick", "tallyChoices", "(III)V"⟩, 6) := ⟨⟨by decide +kernel, by decide +kernel⟩, List.mem_of_getElem? (i := 15) (by decide +kernel), List.mem_of_getElem? (i := 240) (by decide +kernel), List.mem_of_getElem? (i := 241) (by decide +kernel)⟩
theorem lw_p1 : lw_okq (⟨"PackagePick", "explore", "(IIII)V"⟩, 6) := ⟨⟨by decide +kernel, by decide +kernel⟩, List.mem_of_getElem? (i := 15) (by decide +kernel), List.mem_of_getElem? (i := 252) (by decide +kernel), List.mem_of_getElem? (i := 253) (by decide +kernel)⟩
theorem lw_p2 : lw_okq (⟨"java/lang/Throwable", "fillInStackTrace", "(I)Ljava/lang/Throwable;"⟩, 6) := ⟨⟨by decide +kernel, by decide +kernel⟩, List.mem_of_getElem? (i := 337) (by decide +kernel), List.mem_of_getElem? (i := 335) (by decide +kernel), List.mem_of_getElem? (i := 336) (by decide +kernel)⟩
theorem lw_p3 : lw_okq (⟨"PackagePick", "fewestHindering", "()I"⟩, 6) := ⟨⟨by decide +kernel, by decide +kernel⟩, List.mem_of_getElem? (i := 15) (by decide +kernel), List.mem_of_getElem? (i := 367) (by decide +kernel), List.mem_of_getElem? (i := 368) (by decide +kernel)⟩
theorem lw_p4 : lw_okq (⟨"PackagePick", "hasChoice", "(I)Z"⟩, 6) := ⟨⟨by decide +kernel, by decide +kernel⟩, List.mem_of_getElem? (i := 15) (by decide +kernel), List.mem_of_getElem? (i := 371) (by decide +kernel), List.mem_of_getElem? (i := 372) (by decide +kernel)⟩
theorem lw_p5 : lw_okq (⟨"PackagePickModel", "raise", "(I)I"⟩, 21) := ⟨⟨by decide +kernel, by decide +kernel⟩, List.mem_of_getElem? (i := 416) (by decide +kernel), List.mem_of_getElem? (i := 528) (by decide +kernel), List.mem_of_getElem? (i := 529) (by decide +kernel)⟩
theorem lw_p6 : lw_okq (⟨"PackagePickModel", "all", "()I"⟩, 21) := ⟨⟨by decide +kernel, by decide +kernel⟩, List.mem_of_getElem? (i := 416) (by decide +kernel), List.mem_of_getElem? (i := 532) (by decide +kernel), List.mem_of_getElem? (i := 533) (by decide +kernel)⟩
theorem lw_p7 : lw_okq (⟨"PackagePickModel", "begin", "(I)V"⟩, 21) := ⟨⟨by decide +kernel, by decide +kernel⟩, List.mem_of_getElem? (i := 416) (by decide +kernel), List.mem_of_getElem? (i := 536) (by decide +kernel), List.mem_of_getElem? (i := 537) (by decide +kernel)⟩
theorem lw_p8 : lw_okq (⟨"PackagePickModel", "finds", "()Z"⟩, 21) := ⟨⟨by decide +kernel, by decide +kernel⟩, List.mem_of_getElem? (i := 416) (by decide +kernel), List.mem_of_getElem? (i := 540) (by decide +kernel), List.mem_of_getElem? (i := 541) (by decide +kernel)⟩
theorem lw_p9 : lw_okq (⟨"PackagePickModel", "goes", "(I)Z"⟩, 21) := ⟨⟨by decide +kernel, by decide +kernel⟩, List.mem_of_getElem? (i := 416) (by decide +kernel), List.mem_of_getElem? (i := 544) (by decide +kernel), List.mem_of_getElem? (i := 545) (by decide +kernel)⟩
theorem lw_p10 : lw_okq (⟨"PackagePickModel", "counts", "(I)Z"⟩, 21) := ⟨⟨by decide +kernel, by decide +kernel⟩, List.mem_of_getElem? (i := 416) (by decide +kernel), List.mem_of_getElem? (i := 548) (by decide +kernel), List.mem_of_getElem? (i := 549) (by decide +kernel)⟩
theorem lw_p11 : lw_okq (⟨"PackagePickModel", "isMet", "(III)Z"⟩, 21) := ⟨⟨by decide +kernel, by decide +kernel⟩, List.mem_of_getElem? (i := 416) (by decide +kernel), List.mem_of_getElem? (i := 552) (by decide +kernel), List.mem_of_getElem? (i := 553) (by decide +kernel)⟩
theorem lw_p12 : lw_okq (⟨"PackagePickModel", "isTight", "()Z"⟩, 21) := ⟨⟨by decide +kernel, by decide +kernel⟩, List.mem_of_getElem? (i := 416) (by decide +kernel), List.mem_of_getElem? (i := 556) (by decide +kernel), List.mem_of_getElem? (i := 557) (by decide +kernel)⟩
theorem lw_p13 : lw_okq (⟨"PackagePickModel", "cost", "(I)I"⟩, 21) := ⟨⟨by decide +kernel, by decide +kernel⟩, List.mem_of_getElem? (i := 416) (by decide +kernel), List.mem_of_getElem? (i := 560) (by decide +kernel), List.mem_of_getElem? (i := 561) (by decide +kernel)⟩
theorem lw_p14 : lw_okq (⟨"PackagePickModel", "findCore", "()V"⟩, 21) := ⟨⟨by decide +kernel, by decide +kernel⟩, List.mem_of_getElem? (i := 416) (by decide +kernel), List.mem_of_getElem? (i := 564) (by decide +kernel), List.mem_of_getElem? (i := 565) (by decide +kernel)⟩
theorem lw_p15 : lw_okq (⟨"PackagePickModel", "differ", "()I"⟩, 21) := ⟨⟨by decide +kernel, by decide +kernel⟩, List.mem_of_getElem? (i := 416) (by decide +kernel), List.mem_of_getElem? (i := 578) (by decide +kernel), List.mem_of_getElem? (i := 579) (by decide +kernel)⟩
def lw_privs_1 : List (MethodName × Nat) := [(⟨"PackagePick", "tallyChoices", "(III)V"⟩, 6), (⟨"PackagePick", "explore", "(IIII)V"⟩, 6), (⟨"java/lang/Throwable", "fillInStackTrace", "(I)Ljava/lang/Throwable;"⟩, 6), (⟨"PackagePick", "fewestHindering", "()I"⟩, 6), (⟨"PackagePick", "hasChoice", "(I)Z"⟩, 6), (⟨"PackagePickModel", "raise", "(I)I"⟩, 21), (⟨"PackagePickModel", "all", "()I"⟩, 21), (⟨"PackagePickModel", "begin", "(I)V"⟩, 21), (⟨"PackagePickModel", "finds", "()Z"⟩, 21), (⟨"PackagePickModel", "goes", "(I)Z"⟩, 21), (⟨"PackagePickModel", "counts", "(I)Z"⟩, 21), (⟨"PackagePickModel", "isMet", "(III)Z"⟩, 21), (⟨"PackagePickModel", "isTight", "()Z"⟩, 21), (⟨"PackagePickModel", "cost", "(I)I"⟩, 21), (⟨"PackagePickModel", "findCore", "()V"⟩, 21), (⟨"PackagePickModel", "differ", "()I"⟩, 21)]
theorem lw_r1 : ∀ q ∈ lw_privs_1, lw_okq q := List.forall_mem_cons.mpr ⟨lw_p0, List.forall_mem_cons.mpr ⟨lw_p1, List.forall_mem_cons.mpr ⟨lw_p2, List.forall_mem_cons.mpr ⟨lw_p3, List.forall_mem_cons.mpr ⟨lw_p4, List.forall_mem_cons.mpr ⟨lw_p5, List.forall_mem_cons.mpr ⟨lw_p6, List.forall_mem_cons.mpr ⟨lw_p7, List.forall_mem_cons.mpr ⟨lw_p8, List.forall_mem_cons.mpr ⟨lw_p9, List.forall_mem_cons.mpr ⟨lw_p10, List.forall_mem_cons.mpr ⟨lw_p11, List.forall_mem_cons.mpr ⟨lw_p12, List.forall_mem_cons.mpr ⟨lw_p13, List.forall_mem_cons.mpr ⟨lw_p14, List.forall_mem_cons.mpr ⟨lw_p15, fun _ h => absurd h List.not_mem_nil⟩⟩⟩⟩⟩⟩⟩⟩⟩⟩⟩⟩⟩⟩⟩⟩
def lw_privs : List (MethodName × Nat) := lw_privs_1
def lw_tbl : List Cond := k2_sels lw_privs ++ tables_1
theorem lw_privs_ok : ∀ q ∈ lw_privs, lw_okq q := lw_r1
def RR_C : String := "PackagePick$Catalog"
def FF_C : u_T := fun k => match k with
  | 0 => ("PackagePick$Catalog", "needs", "[I", true)
  | 1 => ("PackagePick$Catalog", "wanted", "[I", true)
  | 2 => ("PackagePick$Catalog", "unmet", "[I", true)
  | 3 => ("PackagePick$Catalog", "banned", "[I", true)
  | 4 => ("PackagePick$Catalog", "there", "I", false)
  | _ => ("PackagePick$Catalog", "bans", "I", false)
def ft_C : Nat → FieldType := fun k => match k with
  | 0 => .array .int
  | 1 => .array .int
  | 2 => .array .int
  | 3 => .array .int
  | 4 => .int
  | _ => .int
theorem fn_C : ∀ a, a < 6 → ∀ b, b < 6 → a ≠ b → (FF_C a).2.1 ≠ (FF_C b).2.1 := by decide +kernel
theorem ft_C_ok : ∀ k, k < 6 → parseFieldDescriptor (FF_C k).2.2.1 = some (ft_C k) := by decide +kernel
def RR_T : String := "PackagePick$Tally"
def FF_T : u_T := fun k => match k with
  | 0 => ("PackagePick$Tally", "aim", "I", false)
  | 1 => ("PackagePick$Tally", "kept", "I", false)
  | 2 => ("PackagePick$Tally", "limit", "I", false)
  | 3 => ("PackagePick$Tally", "found", "I", false)
  | 4 => ("PackagePick$Tally", "seen", "I", false)
  | 5 => ("PackagePick$Tally", "absent", "I", false)
  | 6 => ("PackagePick$Tally", "best", "I", false)
  | _ => ("PackagePick$Tally", "bestCost", "I", false)
def ft_T : Nat → FieldType := fun k => match k with
  | 0 => .int
  | 1 => .int
  | 2 => .int
  | 3 => .int
  | 4 => .int
  | 5 => .int
  | 6 => .int
  | _ => .int
theorem fn_T : ∀ a, a < 8 → ∀ b, b < 8 → a ≠ b → (FF_T a).2.1 ≠ (FF_T b).2.1 := by decide +kernel
theorem ft_T_ok : ∀ k, k < 8 → parseFieldDescriptor (FF_T k).2.2.1 = some (ft_T k) := by decide +kernel
def RR_W : String := "PackagePick$Wishes"
def FF_W : u_T := fun k => match k with
  | 0 => ("PackagePick$Wishes", "wanted", "[I", true)
  | 1 => ("PackagePick$Wishes", "unmet", "[I", true)
  | _ => ("PackagePick$Wishes", "size", "I", false)
def ft_W : Nat → FieldType := fun k => match k with
  | 0 => .array .int
  | 1 => .array .int
  | _ => .int
theorem fn_W : ∀ a, a < 3 → ∀ b, b < 3 → a ≠ b → (FF_W a).2.1 ≠ (FF_W b).2.1 := by decide +kernel
theorem ft_W_ok : ∀ k, k < 3 → parseFieldDescriptor (FF_W k).2.2.1 = some (ft_W k) := by decide +kernel
def RR_X : String := "PackagePick"
def FF_X : u_T := fun k => match k with
  | 0 => ("PackagePick", "catalog", "LPackagePick$Catalog;", true)
  | 1 => ("PackagePick", "wishes", "LPackagePick$Wishes;", true)
  | 2 => ("PackagePick", "tally", "LPackagePick$Tally;", true)
  | 3 => ("PackagePick", "told", "I", false)
  | 4 => ("PackagePick", "kept", "I", false)
  | _ => ("PackagePick", "hindering", "I", false)
def ft_X : Nat → FieldType := fun k => match k with
  | 0 => .object "PackagePick$Catalog"
  | 1 => .object "PackagePick$Wishes"
  | 2 => .object "PackagePick$Tally"
  | 3 => .int
  | 4 => .int
  | _ => .int
theorem fn_X : ∀ a, a < 6 → ∀ b, b < 6 → a ≠ b → (FF_X a).2.1 ≠ (FF_X b).2.1 := by decide +kernel
theorem ft_X_ok : ∀ k, k < 6 → parseFieldDescriptor (FF_X k).2.2.1 = some (ft_X k) := by decide +kernel
def RR_M : String := "PackagePickModel"
def FF_M : u_T := fun k => match k with
  | 0 => ("PackagePickModel", "thrown", "I", false)
  | 1 => ("PackagePickModel", "there", "[Z", true)
  | 2 => ("PackagePickModel", "needs", "[I", true)
  | 3 => ("PackagePickModel", "needOf", "[I", true)
  | 4 => ("PackagePickModel", "needFrom", "[I", true)
  | 5 => ("PackagePickModel", "needTo", "[I", true)
  | 6 => ("PackagePickModel", "asked", "I", false)
  | 7 => ("PackagePickModel", "askedOf", "[I", true)
  | 8 => ("PackagePickModel", "askedFrom", "[I", true)
  | 9 => ("PackagePickModel", "askedTo", "[I", true)
  | 10 => ("PackagePickModel", "bans", "I", false)
  | 11 => ("PackagePickModel", "banOne", "[I", true)
  | 12 => ("PackagePickModel", "banTwo", "[I", true)
  | 13 => ("PackagePickModel", "counting", "I", false)
  | 14 => ("PackagePickModel", "level", "I", false)
  | 15 => ("PackagePickModel", "pick", "[I", true)
  | 16 => ("PackagePickModel", "wanted", "[Z", true)
  | 17 => ("PackagePickModel", "told", "[I", true)
  | 18 => ("PackagePickModel", "kept", "[I", true)
  | 19 => ("PackagePickModel", "best", "[I", true)
  | _ => ("PackagePickModel", "coreMask", "I", false)
def ft_M : Nat → FieldType := fun k => match k with
  | 0 => .int
  | 1 => .array .boolean
  | 2 => .array .int
  | 3 => .array .int
  | 4 => .array .int
  | 5 => .array .int
  | 6 => .int
  | 7 => .array .int
  | 8 => .array .int
  | 9 => .array .int
  | 10 => .int
  | 11 => .array .int
  | 12 => .array .int
  | 13 => .int
  | 14 => .int
  | 15 => .array .int
  | 16 => .array .boolean
  | 17 => .array .int
  | 18 => .array .int
  | 19 => .array .int
  | _ => .int
theorem fn_M : ∀ a, a < 21 → ∀ b, b < 21 → a ≠ b → (FF_M a).2.1 ≠ (FF_M b).2.1 := by decide +kernel
theorem ft_M_ok : ∀ k, k < 21 → parseFieldDescriptor (FF_M k).2.2.1 = some (ft_M k) := by decide +kernel
/-- the classes whose objects the worlds hold -/
abbrev vwCl : List vw_C := [(RR_C, FF_C, 6), (RR_T, FF_T, 8), (RR_W, FF_W, 3), (RR_X, FF_X, 6), (RR_M, FF_M, 21)]
abbrev b_X_init : ByteArray := prog_1_method_1_code
abbrev y_X_init : MethodName := ⟨"PackagePick", "<init>", "()V"⟩
abbrev b_C_init : ByteArray := prog_2_method_1_code
abbrev y_C_init : MethodName := ⟨"PackagePick$Catalog", "<init>", "()V"⟩
abbrev b_W_init : ByteArray := prog_4_method_1_code
abbrev y_W_init : MethodName := ⟨"PackagePick$Wishes", "<init>", "()V"⟩
abbrev b_T_init : ByteArray := prog_3_method_1_code
abbrev y_T_init : MethodName := ⟨"PackagePick$Tally", "<init>", "()V"⟩
abbrev b_X_version : ByteArray := prog_1_method_2_code
abbrev y_X_version : MethodName := ⟨"PackagePick", "version", "(II)Z"⟩
abbrev b_X_isVersion : ByteArray := prog_1_method_20_code
abbrev y_X_isVersion : MethodName := ⟨"PackagePick", "isVersion", "(II)Z"⟩
abbrev b_X_isPackage : ByteArray := prog_1_method_19_code
abbrev y_X_isPackage : MethodName := ⟨"PackagePick", "isPackage", "(I)Z"⟩
abbrev b_X_slotOf : ByteArray := prog_1_method_24_code
abbrev y_X_slotOf : MethodName := ⟨"PackagePick", "slotOf", "(II)I"⟩
abbrev b_X_placeOf : ByteArray := prog_1_method_23_code
abbrev y_X_placeOf : MethodName := ⟨"PackagePick", "placeOf", "(I)I"⟩
abbrev b_C_add : ByteArray := prog_2_method_3_code
abbrev y_C_add : MethodName := ⟨"PackagePick$Catalog", "add", "(I)Z"⟩
abbrev b_X_isSlot : ByteArray := prog_1_method_22_code
abbrev y_X_isSlot : MethodName := ⟨"PackagePick", "isSlot", "(I)Z"⟩
abbrev b_C_has : ByteArray := prog_2_method_2_code
abbrev y_C_has : MethodName := ⟨"PackagePick$Catalog", "has", "(I)Z"⟩
abbrev b_X_holds : ByteArray := prog_1_method_27_code
abbrev y_X_holds : MethodName := ⟨"PackagePick", "holds", "(II)Z"⟩
abbrev b_X_need : ByteArray := prog_1_method_3_code
abbrev y_X_need : MethodName := ⟨"PackagePick", "need", "(IIIII)Z"⟩
abbrev b_X_isNeed : ByteArray := prog_1_method_21_code
abbrev y_X_isNeed : MethodName := ⟨"PackagePick", "isNeed", "(III)Z"⟩
abbrev b_X_markOf : ByteArray := prog_1_method_25_code
abbrev y_X_markOf : MethodName := ⟨"PackagePick", "markOf", "(I)I"⟩
abbrev b_X_outside : ByteArray := prog_1_method_28_code
abbrev y_X_outside : MethodName := ⟨"PackagePick", "outside", "(III)I"⟩
abbrev b_C_addNeed : ByteArray := prog_2_method_5_code
abbrev y_C_addNeed : MethodName := ⟨"PackagePick$Catalog", "addNeed", "(III)Z"⟩
abbrev b_X_drop : ByteArray := prog_1_method_4_code
abbrev y_X_drop : MethodName := ⟨"PackagePick", "drop", "(II)Z"⟩
abbrev b_C_remove : ByteArray := prog_2_method_4_code
abbrev y_C_remove : MethodName := ⟨"PackagePick$Catalog", "remove", "(I)Z"⟩
abbrev b_X_ban : ByteArray := prog_1_method_5_code
abbrev y_X_ban : MethodName := ⟨"PackagePick", "ban", "(IIII)Z"⟩
abbrev b_C_addBan : ByteArray := prog_2_method_6_code
abbrev y_C_addBan : MethodName := ⟨"PackagePick$Catalog", "addBan", "(II)Z"⟩
abbrev b_X_ask : ByteArray := prog_1_method_6_code
abbrev y_X_ask : MethodName := ⟨"PackagePick", "ask", "(III)Z"⟩
abbrev b_W_add : ByteArray := prog_4_method_2_code
abbrev y_W_add : MethodName := ⟨"PackagePick$Wishes", "add", "(II)Z"⟩
abbrev b_X_take : ByteArray := prog_1_method_7_code
abbrev y_X_take : MethodName := ⟨"PackagePick", "take", "(I)Z"⟩
abbrev b_W_remove : ByteArray := prog_4_method_3_code
abbrev y_W_remove : MethodName := ⟨"PackagePick$Wishes", "remove", "(I)Z"⟩
abbrev b_X_keep : ByteArray := prog_1_method_9_code
abbrev y_X_keep : MethodName := ⟨"PackagePick", "keep", "()I"⟩
abbrev b_X_differing : ByteArray := prog_1_method_30_code
abbrev y_X_differing : MethodName := ⟨"PackagePick", "differing", "(II)I"⟩
abbrev b_X_marksOf : ByteArray := prog_1_method_29_code
abbrev y_X_marksOf : MethodName := ⟨"PackagePick", "marksOf", "(I)I"⟩
abbrev b_J_bitCount : ByteArray := prog_10_method_49_code
abbrev y_J_bitCount : MethodName := ⟨"java/lang/Integer", "bitCount", "(I)I"⟩
abbrev b_X_chosen : ByteArray := prog_1_method_10_code
abbrev y_X_chosen : MethodName := ⟨"PackagePick", "chosen", "(I)I"⟩
abbrev b_X_many : ByteArray := prog_1_method_11_code
abbrev y_X_many : MethodName := ⟨"PackagePick", "many", "()I"⟩
abbrev b_W_all : ByteArray := prog_4_method_4_code
abbrev y_W_all : MethodName := ⟨"PackagePick$Wishes", "all", "()I"⟩
abbrev b_X_wishBit : ByteArray := prog_1_method_26_code
abbrev y_X_wishBit : MethodName := ⟨"PackagePick", "wishBit", "(I)I"⟩
abbrev b_X_tallyChoices : ByteArray := prog_1_method_15_code
abbrev y_X_tallyChoices : MethodName := ⟨"PackagePick", "tallyChoices", "(III)V"⟩
abbrev b_T_begin : ByteArray := prog_3_method_2_code
abbrev y_T_begin : MethodName := ⟨"PackagePick$Tally", "begin", "(III)V"⟩
abbrev b_W_union : ByteArray := prog_4_method_5_code
abbrev y_W_union : MethodName := ⟨"PackagePick$Wishes", "union", "([II)I"⟩
abbrev b_X_explore : ByteArray := prog_1_method_16_code
abbrev y_X_explore : MethodName := ⟨"PackagePick", "explore", "(IIII)V"⟩
abbrev b_T_isFull : ByteArray := prog_3_method_3_code
abbrev y_T_isFull : MethodName := ⟨"PackagePick$Tally", "isFull", "()Z"⟩
abbrev b_T_enter : ByteArray := prog_3_method_4_code
abbrev y_T_enter : MethodName := ⟨"PackagePick$Tally", "enter", "(I)V"⟩
abbrev b_T_costOf : ByteArray := prog_3_method_5_code
abbrev y_T_costOf : MethodName := ⟨"PackagePick$Tally", "costOf", "(I)I"⟩
abbrev b_X_lowestPlace : ByteArray := prog_1_method_31_code
abbrev y_X_lowestPlace : MethodName := ⟨"PackagePick", "lowestPlace", "(I)I"⟩
abbrev b_K_min : ByteArray := prog_11_method_69_code
abbrev y_K_min : MethodName := ⟨"java/lang/Math", "min", "(II)I"⟩
abbrev b_X_can : ByteArray := prog_1_method_12_code
abbrev y_X_can : MethodName := ⟨"PackagePick", "can", "(I)I"⟩
abbrev b_X_count : ByteArray := prog_1_method_14_code
abbrev y_X_count : MethodName := ⟨"PackagePick", "count", "(I)I"⟩
abbrev b_C_allNeeds : ByteArray := prog_2_method_7_code
abbrev y_C_allNeeds : MethodName := ⟨"PackagePick$Catalog", "allNeeds", "()I"⟩
abbrev b_X_solve : ByteArray := prog_1_method_8_code
abbrev y_X_solve : MethodName := ⟨"PackagePick", "solve", "(I)I"⟩
abbrev b_X_fewestHindering : ByteArray := prog_1_method_17_code
abbrev y_X_fewestHindering : MethodName := ⟨"PackagePick", "fewestHindering", "()I"⟩
abbrev b_X_hasChoice : ByteArray := prog_1_method_18_code
abbrev y_X_hasChoice : MethodName := ⟨"PackagePick", "hasChoice", "(I)Z"⟩
abbrev b_X_core : ByteArray := prog_1_method_13_code
abbrev y_X_core : MethodName := ⟨"PackagePick", "core", "(I)I"⟩
abbrev b_M_init : ByteArray := prog_6_method_1_code
abbrev y_M_init : MethodName := ⟨"PackagePickModel", "<init>", "()V"⟩
abbrev b_M_thrown : ByteArray := prog_6_method_2_code
abbrev y_M_thrown : MethodName := ⟨"PackagePickModel", "thrown", "()I"⟩
abbrev b_M_version : ByteArray := prog_6_method_7_code
abbrev y_M_version : MethodName := ⟨"PackagePickModel", "version", "(II)Z"⟩
abbrev b_M_isVersion : ByteArray := prog_6_method_5_code
abbrev y_M_isVersion : MethodName := ⟨"PackagePickModel", "isVersion", "(II)Z"⟩
abbrev b_M_isPackage : ByteArray := prog_6_method_4_code
abbrev y_M_isPackage : MethodName := ⟨"PackagePickModel", "isPackage", "(I)Z"⟩
abbrev b_M_need : ByteArray := prog_6_method_8_code
abbrev y_M_need : MethodName := ⟨"PackagePickModel", "need", "(IIIII)Z"⟩
abbrev b_M_isNeed : ByteArray := prog_6_method_6_code
abbrev y_M_isNeed : MethodName := ⟨"PackagePickModel", "isNeed", "(III)Z"⟩
abbrev b_M_drop : ByteArray := prog_6_method_9_code
abbrev y_M_drop : MethodName := ⟨"PackagePickModel", "drop", "(II)Z"⟩
abbrev b_M_ban : ByteArray := prog_6_method_10_code
abbrev y_M_ban : MethodName := ⟨"PackagePickModel", "ban", "(IIII)Z"⟩
abbrev b_M_ask : ByteArray := prog_6_method_11_code
abbrev y_M_ask : MethodName := ⟨"PackagePickModel", "ask", "(III)Z"⟩
abbrev b_M_take : ByteArray := prog_6_method_12_code
abbrev y_M_take : MethodName := ⟨"PackagePickModel", "take", "(I)Z"⟩
abbrev b_M_solve : ByteArray := prog_6_method_24_code
abbrev y_M_solve : MethodName := ⟨"PackagePickModel", "solve", "(I)I"⟩
abbrev b_M_raise : ByteArray := prog_6_method_3_code
abbrev y_M_raise : MethodName := ⟨"PackagePickModel", "raise", "(I)I"⟩
abbrev b_M_all : ByteArray := prog_6_method_19_code
abbrev y_M_all : MethodName := ⟨"PackagePickModel", "all", "()I"⟩
abbrev b_M_begin : ByteArray := prog_6_method_17_code
abbrev y_M_begin : MethodName := ⟨"PackagePickModel", "begin", "(I)V"⟩
abbrev b_M_finds : ByteArray := prog_6_method_18_code
abbrev y_M_finds : MethodName := ⟨"PackagePickModel", "finds", "()Z"⟩
abbrev b_M_goes : ByteArray := prog_6_method_15_code
abbrev y_M_goes : MethodName := ⟨"PackagePickModel", "goes", "(I)Z"⟩
abbrev b_M_counts : ByteArray := prog_6_method_14_code
abbrev y_M_counts : MethodName := ⟨"PackagePickModel", "counts", "(I)Z"⟩
abbrev b_M_isMet : ByteArray := prog_6_method_13_code
abbrev y_M_isMet : MethodName := ⟨"PackagePickModel", "isMet", "(III)Z"⟩
abbrev b_M_isTight : ByteArray := prog_6_method_16_code
abbrev y_M_isTight : MethodName := ⟨"PackagePickModel", "isTight", "()Z"⟩
abbrev b_M_cost : ByteArray := prog_6_method_20_code
abbrev y_M_cost : MethodName := ⟨"PackagePickModel", "cost", "(I)I"⟩
abbrev b_M_findCore : ByteArray := prog_6_method_23_code
abbrev y_M_findCore : MethodName := ⟨"PackagePickModel", "findCore", "()V"⟩
abbrev b_M_sizeOf : ByteArray := prog_6_method_21_code
abbrev y_M_sizeOf : MethodName := ⟨"PackagePickModel", "sizeOf", "(I)I"⟩
abbrev b_M_isAhead : ByteArray := prog_6_method_22_code
abbrev y_M_isAhead : MethodName := ⟨"PackagePickModel", "isAhead", "(II)Z"⟩
abbrev b_M_keep : ByteArray := prog_6_method_26_code
abbrev y_M_keep : MethodName := ⟨"PackagePickModel", "keep", "()I"⟩
abbrev b_M_differ : ByteArray := prog_6_method_25_code
abbrev y_M_differ : MethodName := ⟨"PackagePickModel", "differ", "()I"⟩
abbrev b_M_chosen : ByteArray := prog_6_method_27_code
abbrev y_M_chosen : MethodName := ⟨"PackagePickModel", "chosen", "(I)I"⟩
abbrev b_M_many : ByteArray := prog_6_method_28_code
abbrev y_M_many : MethodName := ⟨"PackagePickModel", "many", "()I"⟩
abbrev b_M_can : ByteArray := prog_6_method_29_code
abbrev y_M_can : MethodName := ⟨"PackagePickModel", "can", "(I)I"⟩
abbrev b_M_core : ByteArray := prog_6_method_30_code
abbrev y_M_core : MethodName := ⟨"PackagePickModel", "core", "(I)I"⟩
abbrev b_M_count : ByteArray := prog_6_method_31_code
abbrev y_M_count : MethodName := ⟨"PackagePickModel", "count", "(I)I"⟩
abbrev b_L_solve : ByteArray := method_3_code
abbrev y_L_solve : MethodName := ⟨"PackagePickLaw", "solve", "(LPackagePick;I[J)I"⟩
abbrev b_L_core : ByteArray := method_4_code
abbrev y_L_core : MethodName := ⟨"PackagePickLaw", "core", "(LPackagePick;I[J)I"⟩
/-- the words that go along with every call -/
def WB : List Cond := lw_tbl.filter goodWord
theorem wb_t {w : Cond} (i : Nat) (h : tables_1[i]? = some w) (g : goodWord w = true) : w ∈ WB := List.mem_filter.mpr ⟨List.mem_append_right _ (List.mem_of_getElem? h), g⟩
theorem wb_s {w : Cond} (i : Nat) (h : (k2_sels lw_privs)[i]? = some w) (g : goodWord w = true) : w ∈ WB := List.mem_filter.mpr ⟨List.mem_append_left _ (List.mem_of_getElem? h), g⟩
theorem wb_good : ∀ w ∈ WB, (w.onTables && w.keeps) = true ∨ ∃ ty, w = .arrayClass ty := fun w h => good_of_word (List.mem_filter.mp h).2
theorem wb_in : ∀ w ∈ WB, w ∈ lw_tbl := fun w h => (List.mem_filter.mp h).1
end
section
theorem mc_X_init : Cond.code y_X_init b_X_init 1 none ∈ WB := wb_t 18 (by decide +kernel) rfl
theorem ms_X_init : Cond.instanceMethod y_X_init ∈ WB := wb_t 17 (by decide +kernel) rfl
theorem mc_C_init : Cond.code y_C_init b_C_init 1 none ∈ WB := wb_t 26 (by decide +kernel) rfl
theorem ms_C_init : Cond.instanceMethod y_C_init ∈ WB := wb_t 25 (by decide +kernel) rfl
theorem mc_W_init : Cond.code y_W_init b_W_init 1 none ∈ WB := wb_t 57 (by decide +kernel) rfl
theorem ms_W_init : Cond.instanceMethod y_W_init ∈ WB := wb_t 56 (by decide +kernel) rfl
theorem mc_T_init : Cond.code y_T_init b_T_init 1 none ∈ WB := wb_t 76 (by decide +kernel) rfl
theorem ms_T_init : Cond.instanceMethod y_T_init ∈ WB := wb_t 75 (by decide +kernel) rfl
theorem mc_X_version : Cond.code y_X_version b_X_version 3 (some .boolean) ∈ WB := wb_t 129 (by decide +kernel) rfl
theorem ms_X_version : Cond.instanceMethod y_X_version ∈ WB := wb_t 127 (by decide +kernel) rfl
theorem ml_X_version : Cond.selects "PackagePick" y_X_version y_X_version ∈ WB := wb_t 128 (by decide +kernel) rfl
theorem mc_X_isVersion : Cond.code y_X_isVersion b_X_isVersion 2 (some .boolean) ∈ WB := wb_t 132 (by decide +kernel) rfl
theorem ms_X_isVersion : Cond.static y_X_isVersion ∈ WB := wb_t 131 (by decide +kernel) rfl
theorem mc_X_isPackage : Cond.code y_X_isPackage b_X_isPackage 1 (some .boolean) ∈ WB := wb_t 135 (by decide +kernel) rfl
theorem ms_X_isPackage : Cond.static y_X_isPackage ∈ WB := wb_t 134 (by decide +kernel) rfl
theorem mc_X_slotOf : Cond.code y_X_slotOf b_X_slotOf 2 (some .int) ∈ WB := wb_t 138 (by decide +kernel) rfl
theorem ms_X_slotOf : Cond.static y_X_slotOf ∈ WB := wb_t 137 (by decide +kernel) rfl
theorem mc_X_placeOf : Cond.code y_X_placeOf b_X_placeOf 1 (some .int) ∈ WB := wb_t 141 (by decide +kernel) rfl
theorem ms_X_placeOf : Cond.static y_X_placeOf ∈ WB := wb_t 140 (by decide +kernel) rfl
theorem mc_C_add : Cond.code y_C_add b_C_add 2 (some .boolean) ∈ WB := wb_t 145 (by decide +kernel) rfl
theorem ms_C_add : Cond.instanceMethod y_C_add ∈ WB := wb_t 143 (by decide +kernel) rfl
theorem ml_C_add : Cond.selects "PackagePick$Catalog" y_C_add y_C_add ∈ WB := wb_t 144 (by decide +kernel) rfl
theorem mc_X_isSlot : Cond.code y_X_isSlot b_X_isSlot 1 (some .boolean) ∈ WB := wb_t 148 (by decide +kernel) rfl
theorem ms_X_isSlot : Cond.static y_X_isSlot ∈ WB := wb_t 147 (by decide +kernel) rfl
theorem mc_C_has : Cond.code y_C_has b_C_has 2 (some .boolean) ∈ WB := wb_t 152 (by decide +kernel) rfl
theorem ms_C_has : Cond.instanceMethod y_C_has ∈ WB := wb_t 150 (by decide +kernel) rfl
theorem ml_C_has : Cond.selects "PackagePick$Catalog" y_C_has y_C_has ∈ WB := wb_t 151 (by decide +kernel) rfl
theorem mc_X_holds : Cond.code y_X_holds b_X_holds 2 (some .boolean) ∈ WB := wb_t 155 (by decide +kernel) rfl
theorem ms_X_holds : Cond.static y_X_holds ∈ WB := wb_t 154 (by decide +kernel) rfl
theorem mc_X_need : Cond.code y_X_need b_X_need 6 (some .boolean) ∈ WB := wb_t 159 (by decide +kernel) rfl
theorem ms_X_need : Cond.instanceMethod y_X_need ∈ WB := wb_t 157 (by decide +kernel) rfl
theorem ml_X_need : Cond.selects "PackagePick" y_X_need y_X_need ∈ WB := wb_t 158 (by decide +kernel) rfl
theorem mc_X_isNeed : Cond.code y_X_isNeed b_X_isNeed 3 (some .boolean) ∈ WB := wb_t 162 (by decide +kernel) rfl
theorem ms_X_isNeed : Cond.static y_X_isNeed ∈ WB := wb_t 161 (by decide +kernel) rfl
theorem mc_X_markOf : Cond.code y_X_markOf b_X_markOf 1 (some .int) ∈ WB := wb_t 165 (by decide +kernel) rfl
theorem ms_X_markOf : Cond.static y_X_markOf ∈ WB := wb_t 164 (by decide +kernel) rfl
theorem mc_X_outside : Cond.code y_X_outside b_X_outside 4 (some .int) ∈ WB := wb_t 168 (by decide +kernel) rfl
theorem ms_X_outside : Cond.static y_X_outside ∈ WB := wb_t 167 (by decide +kernel) rfl
theorem mc_C_addNeed : Cond.code y_C_addNeed b_C_addNeed 4 (some .boolean) ∈ WB := wb_t 172 (by decide +kernel) rfl
theorem ms_C_addNeed : Cond.instanceMethod y_C_addNeed ∈ WB := wb_t 170 (by decide +kernel) rfl
theorem ml_C_addNeed : Cond.selects "PackagePick$Catalog" y_C_addNeed y_C_addNeed ∈ WB := wb_t 171 (by decide +kernel) rfl
theorem mc_X_drop : Cond.code y_X_drop b_X_drop 3 (some .boolean) ∈ WB := wb_t 176 (by decide +kernel) rfl
theorem ms_X_drop : Cond.instanceMethod y_X_drop ∈ WB := wb_t 174 (by decide +kernel) rfl
theorem ml_X_drop : Cond.selects "PackagePick" y_X_drop y_X_drop ∈ WB := wb_t 175 (by decide +kernel) rfl
theorem mc_C_remove : Cond.code y_C_remove b_C_remove 2 (some .boolean) ∈ WB := wb_t 180 (by decide +kernel) rfl
theorem ms_C_remove : Cond.instanceMethod y_C_remove ∈ WB := wb_t 178 (by decide +kernel) rfl
theorem ml_C_remove : Cond.selects "PackagePick$Catalog" y_C_remove y_C_remove ∈ WB := wb_t 179 (by decide +kernel) rfl
theorem mc_X_ban : Cond.code y_X_ban b_X_ban 5 (some .boolean) ∈ WB := wb_t 184 (by decide +kernel) rfl
theorem ms_X_ban : Cond.instanceMethod y_X_ban ∈ WB := wb_t 182 (by decide +kernel) rfl
theorem ml_X_ban : Cond.selects "PackagePick" y_X_ban y_X_ban ∈ WB := wb_t 183 (by decide +kernel) rfl
theorem mc_C_addBan : Cond.code y_C_addBan b_C_addBan 3 (some .boolean) ∈ WB := wb_t 188 (by decide +kernel) rfl
theorem ms_C_addBan : Cond.instanceMethod y_C_addBan ∈ WB := wb_t 186 (by decide +kernel) rfl
theorem ml_C_addBan : Cond.selects "PackagePick$Catalog" y_C_addBan y_C_addBan ∈ WB := wb_t 187 (by decide +kernel) rfl
theorem mc_X_ask : Cond.code y_X_ask b_X_ask 4 (some .boolean) ∈ WB := wb_t 192 (by decide +kernel) rfl
theorem ms_X_ask : Cond.instanceMethod y_X_ask ∈ WB := wb_t 190 (by decide +kernel) rfl
theorem ml_X_ask : Cond.selects "PackagePick" y_X_ask y_X_ask ∈ WB := wb_t 191 (by decide +kernel) rfl
theorem mc_W_add : Cond.code y_W_add b_W_add 3 (some .boolean) ∈ WB := wb_t 196 (by decide +kernel) rfl
theorem ms_W_add : Cond.instanceMethod y_W_add ∈ WB := wb_t 194 (by decide +kernel) rfl
theorem ml_W_add : Cond.selects "PackagePick$Wishes" y_W_add y_W_add ∈ WB := wb_t 195 (by decide +kernel) rfl
theorem mc_X_take : Cond.code y_X_take b_X_take 2 (some .boolean) ∈ WB := wb_t 200 (by decide +kernel) rfl
theorem ms_X_take : Cond.instanceMethod y_X_take ∈ WB := wb_t 198 (by decide +kernel) rfl
theorem ml_X_take : Cond.selects "PackagePick" y_X_take y_X_take ∈ WB := wb_t 199 (by decide +kernel) rfl
theorem mc_W_remove : Cond.code y_W_remove b_W_remove 3 (some .boolean) ∈ WB := wb_t 204 (by decide +kernel) rfl
theorem ms_W_remove : Cond.instanceMethod y_W_remove ∈ WB := wb_t 202 (by decide +kernel) rfl
theorem ml_W_remove : Cond.selects "PackagePick$Wishes" y_W_remove y_W_remove ∈ WB := wb_t 203 (by decide +kernel) rfl
theorem mc_X_keep : Cond.code y_X_keep b_X_keep 2 (some .int) ∈ WB := wb_t 208 (by decide +kernel) rfl
theorem ms_X_keep : Cond.instanceMethod y_X_keep ∈ WB := wb_t 206 (by decide +kernel) rfl
theorem ml_X_keep : Cond.selects "PackagePick" y_X_keep y_X_keep ∈ WB := wb_t 207 (by decide +kernel) rfl
theorem mc_X_differing : Cond.code y_X_differing b_X_differing 2 (some .int) ∈ WB := wb_t 211 (by decide +kernel) rfl
theorem ms_X_differing : Cond.static y_X_differing ∈ WB := wb_t 210 (by decide +kernel) rfl
theorem mc_X_marksOf : Cond.code y_X_marksOf b_X_marksOf 1 (some .int) ∈ WB := wb_t 214 (by decide +kernel) rfl
theorem ms_X_marksOf : Cond.static y_X_marksOf ∈ WB := wb_t 213 (by decide +kernel) rfl
theorem mc_J_bitCount : Cond.code y_J_bitCount b_J_bitCount 1 (some .int) ∈ WB := wb_t 218 (by decide +kernel) rfl
theorem ms_J_bitCount : Cond.static y_J_bitCount ∈ WB := wb_t 217 (by decide +kernel) rfl
theorem mc_X_chosen : Cond.code y_X_chosen b_X_chosen 3 (some .int) ∈ WB := wb_t 225 (by decide +kernel) rfl
theorem ms_X_chosen : Cond.instanceMethod y_X_chosen ∈ WB := wb_t 223 (by decide +kernel) rfl
theorem ml_X_chosen : Cond.selects "PackagePick" y_X_chosen y_X_chosen ∈ WB := wb_t 224 (by decide +kernel) rfl
theorem mc_X_many : Cond.code y_X_many b_X_many 1 (some .int) ∈ WB := wb_t 230 (by decide +kernel) rfl
theorem ms_X_many : Cond.instanceMethod y_X_many ∈ WB := wb_t 228 (by decide +kernel) rfl
theorem ml_X_many : Cond.selects "PackagePick" y_X_many y_X_many ∈ WB := wb_t 229 (by decide +kernel) rfl
theorem mc_W_all : Cond.code y_W_all b_W_all 3 (some .int) ∈ WB := wb_t 234 (by decide +kernel) rfl
theorem ms_W_all : Cond.instanceMethod y_W_all ∈ WB := wb_t 232 (by decide +kernel) rfl
theorem ml_W_all : Cond.selects "PackagePick$Wishes" y_W_all y_W_all ∈ WB := wb_t 233 (by decide +kernel) rfl
theorem mc_X_wishBit : Cond.code y_X_wishBit b_X_wishBit 1 (some .int) ∈ WB := wb_t 237 (by decide +kernel) rfl
theorem ms_X_wishBit : Cond.static y_X_wishBit ∈ WB := wb_t 236 (by decide +kernel) rfl
theorem mc_X_tallyChoices : Cond.code y_X_tallyChoices b_X_tallyChoices 6 none ∈ WB := wb_t 242 (by decide +kernel) rfl
theorem ms_X_tallyChoices : Cond.instanceMethod y_X_tallyChoices ∈ WB := wb_t 241 (by decide +kernel) rfl
theorem ml_X_tallyChoices : Cond.selects "PackagePick" y_X_tallyChoices y_X_tallyChoices ∈ WB := wb_s 0 (by decide +kernel) rfl
theorem mc_T_begin : Cond.code y_T_begin b_T_begin 4 none ∈ WB := wb_t 246 (by decide +kernel) rfl
theorem ms_T_begin : Cond.instanceMethod y_T_begin ∈ WB := wb_t 244 (by decide +kernel) rfl
theorem ml_T_begin : Cond.selects "PackagePick$Tally" y_T_begin y_T_begin ∈ WB := wb_t 245 (by decide +kernel) rfl
theorem mc_W_union : Cond.code y_W_union b_W_union 5 (some .int) ∈ WB := wb_t 250 (by decide +kernel) rfl
theorem ms_W_union : Cond.instanceMethod y_W_union ∈ WB := wb_t 248 (by decide +kernel) rfl
theorem ml_W_union : Cond.selects "PackagePick$Wishes" y_W_union y_W_union ∈ WB := wb_t 249 (by decide +kernel) rfl
theorem mc_X_explore : Cond.code y_X_explore b_X_explore 10 none ∈ WB := wb_t 254 (by decide +kernel) rfl
theorem ms_X_explore : Cond.instanceMethod y_X_explore ∈ WB := wb_t 253 (by decide +kernel) rfl
theorem ml_X_explore : Cond.selects "PackagePick" y_X_explore y_X_explore ∈ WB := wb_s 1 (by decide +kernel) rfl
theorem mc_T_isFull : Cond.code y_T_isFull b_T_isFull 1 (some .boolean) ∈ WB := wb_t 258 (by decide +kernel) rfl
theorem ms_T_isFull : Cond.instanceMethod y_T_isFull ∈ WB := wb_t 256 (by decide +kernel) rfl
theorem ml_T_isFull : Cond.selects "PackagePick$Tally" y_T_isFull y_T_isFull ∈ WB := wb_t 257 (by decide +kernel) rfl
theorem mc_T_enter : Cond.code y_T_enter b_T_enter 3 none ∈ WB := wb_t 262 (by decide +kernel) rfl
theorem ms_T_enter : Cond.instanceMethod y_T_enter ∈ WB := wb_t 260 (by decide +kernel) rfl
theorem ml_T_enter : Cond.selects "PackagePick$Tally" y_T_enter y_T_enter ∈ WB := wb_t 261 (by decide +kernel) rfl
theorem mc_T_costOf : Cond.code y_T_costOf b_T_costOf 2 (some .int) ∈ WB := wb_t 266 (by decide +kernel) rfl
theorem ms_T_costOf : Cond.instanceMethod y_T_costOf ∈ WB := wb_t 264 (by decide +kernel) rfl
theorem ml_T_costOf : Cond.selects "PackagePick$Tally" y_T_costOf y_T_costOf ∈ WB := wb_t 265 (by decide +kernel) rfl
theorem mc_X_lowestPlace : Cond.code y_X_lowestPlace b_X_lowestPlace 1 (some .int) ∈ WB := wb_t 273 (by decide +kernel) rfl
theorem ms_X_lowestPlace : Cond.static y_X_lowestPlace ∈ WB := wb_t 272 (by decide +kernel) rfl
theorem mc_K_min : Cond.code y_K_min b_K_min 2 (some .int) ∈ WB := wb_t 276 (by decide +kernel) rfl
theorem ms_K_min : Cond.static y_K_min ∈ WB := wb_t 275 (by decide +kernel) rfl
theorem mc_X_can : Cond.code y_X_can b_X_can 3 (some .int) ∈ WB := wb_t 280 (by decide +kernel) rfl
theorem ms_X_can : Cond.instanceMethod y_X_can ∈ WB := wb_t 278 (by decide +kernel) rfl
theorem ml_X_can : Cond.selects "PackagePick" y_X_can y_X_can ∈ WB := wb_t 279 (by decide +kernel) rfl
theorem mc_X_count : Cond.code y_X_count b_X_count 2 (some .int) ∈ WB := wb_t 284 (by decide +kernel) rfl
theorem ms_X_count : Cond.instanceMethod y_X_count ∈ WB := wb_t 282 (by decide +kernel) rfl
theorem ml_X_count : Cond.selects "PackagePick" y_X_count y_X_count ∈ WB := wb_t 283 (by decide +kernel) rfl
theorem mc_C_allNeeds : Cond.code y_C_allNeeds b_C_allNeeds 3 (some .int) ∈ WB := wb_t 288 (by decide +kernel) rfl
theorem ms_C_allNeeds : Cond.instanceMethod y_C_allNeeds ∈ WB := wb_t 286 (by decide +kernel) rfl
theorem ml_C_allNeeds : Cond.selects "PackagePick$Catalog" y_C_allNeeds y_C_allNeeds ∈ WB := wb_t 287 (by decide +kernel) rfl
theorem mc_X_solve : Cond.code y_X_solve b_X_solve 2 (some .int) ∈ WB := wb_t 297 (by decide +kernel) rfl
theorem ms_X_solve : Cond.instanceMethod y_X_solve ∈ WB := wb_t 295 (by decide +kernel) rfl
theorem ml_X_solve : Cond.selects "PackagePick" y_X_solve y_X_solve ∈ WB := wb_t 296 (by decide +kernel) rfl
theorem mc_X_fewestHindering : Cond.code y_X_fewestHindering b_X_fewestHindering 4 (some .int) ∈ WB := wb_t 369 (by decide +kernel) rfl
theorem ms_X_fewestHindering : Cond.instanceMethod y_X_fewestHindering ∈ WB := wb_t 368 (by decide +kernel) rfl
theorem ml_X_fewestHindering : Cond.selects "PackagePick" y_X_fewestHindering y_X_fewestHindering ∈ WB := wb_s 3 (by decide +kernel) rfl
theorem mc_X_hasChoice : Cond.code y_X_hasChoice b_X_hasChoice 2 (some .boolean) ∈ WB := wb_t 373 (by decide +kernel) rfl
theorem ms_X_hasChoice : Cond.instanceMethod y_X_hasChoice ∈ WB := wb_t 372 (by decide +kernel) rfl
theorem ml_X_hasChoice : Cond.selects "PackagePick" y_X_hasChoice y_X_hasChoice ∈ WB := wb_s 4 (by decide +kernel) rfl
theorem mc_X_core : Cond.code y_X_core b_X_core 4 (some .int) ∈ WB := wb_t 397 (by decide +kernel) rfl
theorem ms_X_core : Cond.instanceMethod y_X_core ∈ WB := wb_t 395 (by decide +kernel) rfl
theorem ml_X_core : Cond.selects "PackagePick" y_X_core y_X_core ∈ WB := wb_t 396 (by decide +kernel) rfl
theorem mc_M_init : Cond.code y_M_init b_M_init 2 none ∈ WB := wb_t 419 (by decide +kernel) rfl
theorem ms_M_init : Cond.instanceMethod y_M_init ∈ WB := wb_t 418 (by decide +kernel) rfl
theorem mc_M_thrown : Cond.code y_M_thrown b_M_thrown 1 (some .int) ∈ WB := wb_t 489 (by decide +kernel) rfl
theorem ms_M_thrown : Cond.instanceMethod y_M_thrown ∈ WB := wb_t 487 (by decide +kernel) rfl
theorem ml_M_thrown : Cond.selects "PackagePickModel" y_M_thrown y_M_thrown ∈ WB := wb_t 488 (by decide +kernel) rfl
theorem mc_M_version : Cond.code y_M_version b_M_version 3 (some .boolean) ∈ WB := wb_t 493 (by decide +kernel) rfl
theorem ms_M_version : Cond.instanceMethod y_M_version ∈ WB := wb_t 491 (by decide +kernel) rfl
theorem ml_M_version : Cond.selects "PackagePickModel" y_M_version y_M_version ∈ WB := wb_t 492 (by decide +kernel) rfl
theorem mc_M_isVersion : Cond.code y_M_isVersion b_M_isVersion 2 (some .boolean) ∈ WB := wb_t 496 (by decide +kernel) rfl
theorem ms_M_isVersion : Cond.static y_M_isVersion ∈ WB := wb_t 495 (by decide +kernel) rfl
theorem mc_M_isPackage : Cond.code y_M_isPackage b_M_isPackage 1 (some .boolean) ∈ WB := wb_t 499 (by decide +kernel) rfl
theorem ms_M_isPackage : Cond.static y_M_isPackage ∈ WB := wb_t 498 (by decide +kernel) rfl
theorem mc_M_need : Cond.code y_M_need b_M_need 8 (some .boolean) ∈ WB := wb_t 503 (by decide +kernel) rfl
theorem ms_M_need : Cond.instanceMethod y_M_need ∈ WB := wb_t 501 (by decide +kernel) rfl
theorem ml_M_need : Cond.selects "PackagePickModel" y_M_need y_M_need ∈ WB := wb_t 502 (by decide +kernel) rfl
theorem mc_M_isNeed : Cond.code y_M_isNeed b_M_isNeed 3 (some .boolean) ∈ WB := wb_t 506 (by decide +kernel) rfl
theorem ms_M_isNeed : Cond.static y_M_isNeed ∈ WB := wb_t 505 (by decide +kernel) rfl
theorem mc_M_drop : Cond.code y_M_drop b_M_drop 3 (some .boolean) ∈ WB := wb_t 510 (by decide +kernel) rfl
theorem ms_M_drop : Cond.instanceMethod y_M_drop ∈ WB := wb_t 508 (by decide +kernel) rfl
theorem ml_M_drop : Cond.selects "PackagePickModel" y_M_drop y_M_drop ∈ WB := wb_t 509 (by decide +kernel) rfl
theorem mc_M_ban : Cond.code y_M_ban b_M_ban 5 (some .boolean) ∈ WB := wb_t 514 (by decide +kernel) rfl
theorem ms_M_ban : Cond.instanceMethod y_M_ban ∈ WB := wb_t 512 (by decide +kernel) rfl
theorem ml_M_ban : Cond.selects "PackagePickModel" y_M_ban y_M_ban ∈ WB := wb_t 513 (by decide +kernel) rfl
theorem mc_M_ask : Cond.code y_M_ask b_M_ask 4 (some .boolean) ∈ WB := wb_t 518 (by decide +kernel) rfl
theorem ms_M_ask : Cond.instanceMethod y_M_ask ∈ WB := wb_t 516 (by decide +kernel) rfl
theorem ml_M_ask : Cond.selects "PackagePickModel" y_M_ask y_M_ask ∈ WB := wb_t 517 (by decide +kernel) rfl
theorem mc_M_take : Cond.code y_M_take b_M_take 3 (some .boolean) ∈ WB := wb_t 522 (by decide +kernel) rfl
theorem ms_M_take : Cond.instanceMethod y_M_take ∈ WB := wb_t 520 (by decide +kernel) rfl
theorem ml_M_take : Cond.selects "PackagePickModel" y_M_take y_M_take ∈ WB := wb_t 521 (by decide +kernel) rfl
theorem mc_M_solve : Cond.code y_M_solve b_M_solve 5 (some .int) ∈ WB := wb_t 526 (by decide +kernel) rfl
theorem ms_M_solve : Cond.instanceMethod y_M_solve ∈ WB := wb_t 524 (by decide +kernel) rfl
theorem ml_M_solve : Cond.selects "PackagePickModel" y_M_solve y_M_solve ∈ WB := wb_t 525 (by decide +kernel) rfl
theorem mc_M_raise : Cond.code y_M_raise b_M_raise 2 (some .int) ∈ WB := wb_t 530 (by decide +kernel) rfl
theorem ms_M_raise : Cond.instanceMethod y_M_raise ∈ WB := wb_t 529 (by decide +kernel) rfl
theorem ml_M_raise : Cond.selects "PackagePickModel" y_M_raise y_M_raise ∈ WB := wb_s 5 (by decide +kernel) rfl
theorem mc_M_all : Cond.code y_M_all b_M_all 1 (some .int) ∈ WB := wb_t 534 (by decide +kernel) rfl
theorem ms_M_all : Cond.instanceMethod y_M_all ∈ WB := wb_t 533 (by decide +kernel) rfl
theorem ml_M_all : Cond.selects "PackagePickModel" y_M_all y_M_all ∈ WB := wb_s 6 (by decide +kernel) rfl
theorem mc_M_begin : Cond.code y_M_begin b_M_begin 2 none ∈ WB := wb_t 538 (by decide +kernel) rfl
theorem ms_M_begin : Cond.instanceMethod y_M_begin ∈ WB := wb_t 537 (by decide +kernel) rfl
theorem ml_M_begin : Cond.selects "PackagePickModel" y_M_begin y_M_begin ∈ WB := wb_s 7 (by decide +kernel) rfl
theorem mc_M_finds : Cond.code y_M_finds b_M_finds 1 (some .boolean) ∈ WB := wb_t 542 (by decide +kernel) rfl
theorem ms_M_finds : Cond.instanceMethod y_M_finds ∈ WB := wb_t 541 (by decide +kernel) rfl
theorem ml_M_finds : Cond.selects "PackagePickModel" y_M_finds y_M_finds ∈ WB := wb_s 8 (by decide +kernel) rfl
theorem mc_M_goes : Cond.code y_M_goes b_M_goes 7 (some .boolean) ∈ WB := wb_t 546 (by decide +kernel) rfl
theorem ms_M_goes : Cond.instanceMethod y_M_goes ∈ WB := wb_t 545 (by decide +kernel) rfl
theorem ml_M_goes : Cond.selects "PackagePickModel" y_M_goes y_M_goes ∈ WB := wb_s 9 (by decide +kernel) rfl
theorem mc_M_counts : Cond.code y_M_counts b_M_counts 2 (some .boolean) ∈ WB := wb_t 550 (by decide +kernel) rfl
theorem ms_M_counts : Cond.instanceMethod y_M_counts ∈ WB := wb_t 549 (by decide +kernel) rfl
theorem ml_M_counts : Cond.selects "PackagePickModel" y_M_counts y_M_counts ∈ WB := wb_s 10 (by decide +kernel) rfl
theorem mc_M_isMet : Cond.code y_M_isMet b_M_isMet 4 (some .boolean) ∈ WB := wb_t 554 (by decide +kernel) rfl
theorem ms_M_isMet : Cond.instanceMethod y_M_isMet ∈ WB := wb_t 553 (by decide +kernel) rfl
theorem ml_M_isMet : Cond.selects "PackagePickModel" y_M_isMet y_M_isMet ∈ WB := wb_s 11 (by decide +kernel) rfl
theorem mc_M_isTight : Cond.code y_M_isTight b_M_isTight 6 (some .boolean) ∈ WB := wb_t 558 (by decide +kernel) rfl
theorem ms_M_isTight : Cond.instanceMethod y_M_isTight ∈ WB := wb_t 557 (by decide +kernel) rfl
theorem ml_M_isTight : Cond.selects "PackagePickModel" y_M_isTight y_M_isTight ∈ WB := wb_s 12 (by decide +kernel) rfl
theorem mc_M_cost : Cond.code y_M_cost b_M_cost 4 (some .int) ∈ WB := wb_t 562 (by decide +kernel) rfl
theorem ms_M_cost : Cond.instanceMethod y_M_cost ∈ WB := wb_t 561 (by decide +kernel) rfl
theorem ml_M_cost : Cond.selects "PackagePickModel" y_M_cost y_M_cost ∈ WB := wb_s 13 (by decide +kernel) rfl
theorem mc_M_findCore : Cond.code y_M_findCore b_M_findCore 3 none ∈ WB := wb_t 566 (by decide +kernel) rfl
theorem ms_M_findCore : Cond.instanceMethod y_M_findCore ∈ WB := wb_t 565 (by decide +kernel) rfl
theorem ml_M_findCore : Cond.selects "PackagePickModel" y_M_findCore y_M_findCore ∈ WB := wb_s 14 (by decide +kernel) rfl
theorem mc_M_sizeOf : Cond.code y_M_sizeOf b_M_sizeOf 3 (some .int) ∈ WB := wb_t 569 (by decide +kernel) rfl
theorem ms_M_sizeOf : Cond.static y_M_sizeOf ∈ WB := wb_t 568 (by decide +kernel) rfl
theorem mc_M_isAhead : Cond.code y_M_isAhead b_M_isAhead 3 (some .boolean) ∈ WB := wb_t 572 (by decide +kernel) rfl
theorem ms_M_isAhead : Cond.static y_M_isAhead ∈ WB := wb_t 571 (by decide +kernel) rfl
theorem mc_M_keep : Cond.code y_M_keep b_M_keep 3 (some .int) ∈ WB := wb_t 576 (by decide +kernel) rfl
theorem ms_M_keep : Cond.instanceMethod y_M_keep ∈ WB := wb_t 574 (by decide +kernel) rfl
theorem ml_M_keep : Cond.selects "PackagePickModel" y_M_keep y_M_keep ∈ WB := wb_t 575 (by decide +kernel) rfl
theorem mc_M_differ : Cond.code y_M_differ b_M_differ 3 (some .int) ∈ WB := wb_t 580 (by decide +kernel) rfl
theorem ms_M_differ : Cond.instanceMethod y_M_differ ∈ WB := wb_t 579 (by decide +kernel) rfl
theorem ml_M_differ : Cond.selects "PackagePickModel" y_M_differ y_M_differ ∈ WB := wb_s 15 (by decide +kernel) rfl
theorem mc_M_chosen : Cond.code y_M_chosen b_M_chosen 2 (some .int) ∈ WB := wb_t 584 (by decide +kernel) rfl
theorem ms_M_chosen : Cond.instanceMethod y_M_chosen ∈ WB := wb_t 582 (by decide +kernel) rfl
theorem ml_M_chosen : Cond.selects "PackagePickModel" y_M_chosen y_M_chosen ∈ WB := wb_t 583 (by decide +kernel) rfl
theorem mc_M_many : Cond.code y_M_many b_M_many 2 (some .int) ∈ WB := wb_t 588 (by decide +kernel) rfl
theorem ms_M_many : Cond.instanceMethod y_M_many ∈ WB := wb_t 586 (by decide +kernel) rfl
theorem ml_M_many : Cond.selects "PackagePickModel" y_M_many y_M_many ∈ WB := wb_t 587 (by decide +kernel) rfl
theorem mc_M_can : Cond.code y_M_can b_M_can 3 (some .int) ∈ WB := wb_t 592 (by decide +kernel) rfl
theorem ms_M_can : Cond.instanceMethod y_M_can ∈ WB := wb_t 590 (by decide +kernel) rfl
theorem ml_M_can : Cond.selects "PackagePickModel" y_M_can y_M_can ∈ WB := wb_t 591 (by decide +kernel) rfl
theorem mc_M_core : Cond.code y_M_core b_M_core 4 (some .int) ∈ WB := wb_t 596 (by decide +kernel) rfl
theorem ms_M_core : Cond.instanceMethod y_M_core ∈ WB := wb_t 594 (by decide +kernel) rfl
theorem ml_M_core : Cond.selects "PackagePickModel" y_M_core y_M_core ∈ WB := wb_t 595 (by decide +kernel) rfl
theorem mc_M_count : Cond.code y_M_count b_M_count 4 (some .int) ∈ WB := wb_t 600 (by decide +kernel) rfl
theorem ms_M_count : Cond.instanceMethod y_M_count ∈ WB := wb_t 598 (by decide +kernel) rfl
theorem ml_M_count : Cond.selects "PackagePickModel" y_M_count y_M_count ∈ WB := wb_t 599 (by decide +kernel) rfl
theorem mi_PackagePickLaw : Cond.initialized "PackagePickLaw" ∈ WB := wb_t 0 (by decide +kernel) rfl
theorem mi_PackagePick : Cond.initialized "PackagePick" ∈ WB := wb_t 1 (by decide +kernel) rfl
theorem mi_PackagePick_Catalog : Cond.initialized "PackagePick$Catalog" ∈ WB := wb_t 2 (by decide +kernel) rfl
theorem mi_PackagePick_Wishes : Cond.initialized "PackagePick$Wishes" ∈ WB := wb_t 3 (by decide +kernel) rfl
theorem mi_PackagePick_Tally : Cond.initialized "PackagePick$Tally" ∈ WB := wb_t 4 (by decide +kernel) rfl
theorem mi_PackagePickModel : Cond.initialized "PackagePickModel" ∈ WB := wb_t 5 (by decide +kernel) rfl
theorem mi_Throwable : Cond.initialized "java/lang/Throwable" ∈ WB := wb_t 6 (by decide +kernel) rfl
theorem mi_Exception : Cond.initialized "java/lang/Exception" ∈ WB := wb_t 7 (by decide +kernel) rfl
theorem mi_RuntimeException : Cond.initialized "java/lang/RuntimeException" ∈ WB := wb_t 8 (by decide +kernel) rfl
theorem mi_IllegalArgumentException : Cond.initialized "java/lang/IllegalArgumentException" ∈ WB := wb_t 9 (by decide +kernel) rfl
theorem mi_Integer : Cond.initialized "java/lang/Integer" ∈ WB := wb_t 10 (by decide +kernel) rfl
theorem mi_Math : Cond.initialized "java/lang/Math" ∈ WB := wb_t 11 (by decide +kernel) rfl
theorem mi_IllegalStateException : Cond.initialized "java/lang/IllegalStateException" ∈ WB := wb_t 12 (by decide +kernel) rfl
theorem mi_NoSuchElementException : Cond.initialized "java/util/NoSuchElementException" ∈ WB := wb_t 13 (by decide +kernel) rfl
theorem mm_L_22 : Cond.methodLink "PackagePickLaw" 22 y_X_init ∈ WB := wb_t 16 (by decide +kernel) rfl
theorem mf_C_9 : Cond.fieldLink "PackagePick$Catalog" 9 "PackagePick$Catalog" "needs" "[I" ∈ WB := wb_t 28 (by decide +kernel) rfl
theorem mf_C_15 : Cond.fieldLink "PackagePick$Catalog" 15 "PackagePick$Catalog" "wanted" "[I" ∈ WB := wb_t 29 (by decide +kernel) rfl
theorem mf_X_186 : Cond.fieldLink "PackagePick" 186 "PackagePick$Catalog" "wanted" "[I" ∈ WB := wb_t 30 (by decide +kernel) rfl
theorem mf_C_18 : Cond.fieldLink "PackagePick$Catalog" 18 "PackagePick$Catalog" "unmet" "[I" ∈ WB := wb_t 31 (by decide +kernel) rfl
theorem mf_X_187 : Cond.fieldLink "PackagePick" 187 "PackagePick$Catalog" "unmet" "[I" ∈ WB := wb_t 32 (by decide +kernel) rfl
theorem mf_C_21 : Cond.fieldLink "PackagePick$Catalog" 21 "PackagePick$Catalog" "banned" "[I" ∈ WB := wb_t 33 (by decide +kernel) rfl
theorem mf_X_188 : Cond.fieldLink "PackagePick" 188 "PackagePick$Catalog" "banned" "[I" ∈ WB := wb_t 34 (by decide +kernel) rfl
theorem mf_C_24 : Cond.fieldLink "PackagePick$Catalog" 24 "PackagePick$Catalog" "there" "I" ∈ WB := wb_t 35 (by decide +kernel) rfl
theorem mf_X_137 : Cond.fieldLink "PackagePick" 137 "PackagePick$Catalog" "there" "I" ∈ WB := wb_t 36 (by decide +kernel) rfl
theorem mf_C_28 : Cond.fieldLink "PackagePick$Catalog" 28 "PackagePick$Catalog" "bans" "I" ∈ WB := wb_t 37 (by decide +kernel) rfl
theorem mf_X_143 : Cond.fieldLink "PackagePick" 143 "PackagePick$Catalog" "bans" "I" ∈ WB := wb_t 38 (by decide +kernel) rfl
theorem mf_W_9 : Cond.fieldLink "PackagePick$Wishes" 9 "PackagePick$Wishes" "wanted" "[I" ∈ WB := wb_t 59 (by decide +kernel) rfl
theorem mf_X_152 : Cond.fieldLink "PackagePick" 152 "PackagePick$Wishes" "wanted" "[I" ∈ WB := wb_t 60 (by decide +kernel) rfl
theorem mf_W_15 : Cond.fieldLink "PackagePick$Wishes" 15 "PackagePick$Wishes" "unmet" "[I" ∈ WB := wb_t 61 (by decide +kernel) rfl
theorem mf_X_160 : Cond.fieldLink "PackagePick" 160 "PackagePick$Wishes" "unmet" "[I" ∈ WB := wb_t 62 (by decide +kernel) rfl
theorem mf_W_18 : Cond.fieldLink "PackagePick$Wishes" 18 "PackagePick$Wishes" "size" "I" ∈ WB := wb_t 63 (by decide +kernel) rfl
theorem mf_X_146 : Cond.fieldLink "PackagePick" 146 "PackagePick$Wishes" "size" "I" ∈ WB := wb_t 64 (by decide +kernel) rfl
theorem mf_T_9 : Cond.fieldLink "PackagePick$Tally" 9 "PackagePick$Tally" "aim" "I" ∈ WB := wb_t 78 (by decide +kernel) rfl
theorem mf_T_15 : Cond.fieldLink "PackagePick$Tally" 15 "PackagePick$Tally" "kept" "I" ∈ WB := wb_t 79 (by decide +kernel) rfl
theorem mf_T_18 : Cond.fieldLink "PackagePick$Tally" 18 "PackagePick$Tally" "limit" "I" ∈ WB := wb_t 80 (by decide +kernel) rfl
theorem mf_T_21 : Cond.fieldLink "PackagePick$Tally" 21 "PackagePick$Tally" "found" "I" ∈ WB := wb_t 81 (by decide +kernel) rfl
theorem mf_X_92 : Cond.fieldLink "PackagePick" 92 "PackagePick$Tally" "found" "I" ∈ WB := wb_t 82 (by decide +kernel) rfl
theorem mf_T_24 : Cond.fieldLink "PackagePick$Tally" 24 "PackagePick$Tally" "seen" "I" ∈ WB := wb_t 83 (by decide +kernel) rfl
theorem mf_X_120 : Cond.fieldLink "PackagePick" 120 "PackagePick$Tally" "seen" "I" ∈ WB := wb_t 84 (by decide +kernel) rfl
theorem mf_T_27 : Cond.fieldLink "PackagePick$Tally" 27 "PackagePick$Tally" "absent" "I" ∈ WB := wb_t 85 (by decide +kernel) rfl
theorem mf_X_126 : Cond.fieldLink "PackagePick" 126 "PackagePick$Tally" "absent" "I" ∈ WB := wb_t 86 (by decide +kernel) rfl
theorem mf_T_30 : Cond.fieldLink "PackagePick$Tally" 30 "PackagePick$Tally" "best" "I" ∈ WB := wb_t 87 (by decide +kernel) rfl
theorem mf_X_103 : Cond.fieldLink "PackagePick" 103 "PackagePick$Tally" "best" "I" ∈ WB := wb_t 88 (by decide +kernel) rfl
theorem mf_T_33 : Cond.fieldLink "PackagePick$Tally" 33 "PackagePick$Tally" "bestCost" "I" ∈ WB := wb_t 89 (by decide +kernel) rfl
theorem mf_X_12 : Cond.fieldLink "PackagePick" 12 "PackagePick" "catalog" "LPackagePick$Catalog;" ∈ WB := wb_t 107 (by decide +kernel) rfl
theorem mf_X_19 : Cond.fieldLink "PackagePick" 19 "PackagePick" "wishes" "LPackagePick$Wishes;" ∈ WB := wb_t 108 (by decide +kernel) rfl
theorem mf_X_26 : Cond.fieldLink "PackagePick" 26 "PackagePick" "tally" "LPackagePick$Tally;" ∈ WB := wb_t 109 (by decide +kernel) rfl
theorem mf_X_30 : Cond.fieldLink "PackagePick" 30 "PackagePick" "told" "I" ∈ WB := wb_t 110 (by decide +kernel) rfl
theorem mf_X_34 : Cond.fieldLink "PackagePick" 34 "PackagePick" "kept" "I" ∈ WB := wb_t 111 (by decide +kernel) rfl
theorem mf_X_37 : Cond.fieldLink "PackagePick" 37 "PackagePick" "hindering" "I" ∈ WB := wb_t 112 (by decide +kernel) rfl
theorem mm_L_26 : Cond.methodLink "PackagePickLaw" 26 y_X_version ∈ WB := wb_t 126 (by decide +kernel) rfl
theorem mm_X_40 : Cond.methodLink "PackagePick" 40 y_X_isVersion ∈ WB := wb_t 130 (by decide +kernel) rfl
theorem mm_X_114 : Cond.methodLink "PackagePick" 114 y_X_isPackage ∈ WB := wb_t 133 (by decide +kernel) rfl
theorem mm_X_44 : Cond.methodLink "PackagePick" 44 y_X_slotOf ∈ WB := wb_t 136 (by decide +kernel) rfl
theorem mm_X_123 : Cond.methodLink "PackagePick" 123 y_X_placeOf ∈ WB := wb_t 139 (by decide +kernel) rfl
theorem mm_X_48 : Cond.methodLink "PackagePick" 48 y_C_add ∈ WB := wb_t 142 (by decide +kernel) rfl
theorem mm_C_39 : Cond.methodLink "PackagePick$Catalog" 39 y_C_has ∈ WB := wb_t 149 (by decide +kernel) rfl
theorem mm_L_31 : Cond.methodLink "PackagePickLaw" 31 y_X_need ∈ WB := wb_t 156 (by decide +kernel) rfl
theorem mm_X_52 : Cond.methodLink "PackagePick" 52 y_X_isNeed ∈ WB := wb_t 160 (by decide +kernel) rfl
theorem mm_X_56 : Cond.methodLink "PackagePick" 56 y_X_markOf ∈ WB := wb_t 163 (by decide +kernel) rfl
theorem mm_X_60 : Cond.methodLink "PackagePick" 60 y_X_outside ∈ WB := wb_t 166 (by decide +kernel) rfl
theorem mm_X_64 : Cond.methodLink "PackagePick" 64 y_C_addNeed ∈ WB := wb_t 169 (by decide +kernel) rfl
theorem mm_L_36 : Cond.methodLink "PackagePickLaw" 36 y_X_drop ∈ WB := wb_t 173 (by decide +kernel) rfl
theorem mm_X_67 : Cond.methodLink "PackagePick" 67 y_C_remove ∈ WB := wb_t 177 (by decide +kernel) rfl
theorem mm_L_40 : Cond.methodLink "PackagePickLaw" 40 y_X_ban ∈ WB := wb_t 181 (by decide +kernel) rfl
theorem mm_X_70 : Cond.methodLink "PackagePick" 70 y_C_addBan ∈ WB := wb_t 185 (by decide +kernel) rfl
theorem mm_L_45 : Cond.methodLink "PackagePickLaw" 45 y_X_ask ∈ WB := wb_t 189 (by decide +kernel) rfl
theorem mm_X_73 : Cond.methodLink "PackagePick" 73 y_W_add ∈ WB := wb_t 193 (by decide +kernel) rfl
theorem mm_L_50 : Cond.methodLink "PackagePickLaw" 50 y_X_take ∈ WB := wb_t 197 (by decide +kernel) rfl
theorem mm_X_75 : Cond.methodLink "PackagePick" 75 y_W_remove ∈ WB := wb_t 201 (by decide +kernel) rfl
theorem mm_L_65 : Cond.methodLink "PackagePickLaw" 65 y_X_keep ∈ WB := wb_t 205 (by decide +kernel) rfl
theorem mm_X_111 : Cond.methodLink "PackagePick" 111 y_X_differing ∈ WB := wb_t 209 (by decide +kernel) rfl
theorem mm_X_171 : Cond.methodLink "PackagePick" 171 y_X_marksOf ∈ WB := wb_t 212 (by decide +kernel) rfl
theorem mk_X_194 : Cond.constant "PackagePick" 194 17895697 ∈ WB := wb_t 215 (by decide +kernel) rfl
theorem mm_X_106 : Cond.methodLink "PackagePick" 106 y_J_bitCount ∈ WB := wb_t 216 (by decide +kernel) rfl
theorem mk_J_265 : Cond.constant "java/lang/Integer" 265 1431655765 ∈ WB := wb_t 219 (by decide +kernel) rfl
theorem mk_J_266 : Cond.constant "java/lang/Integer" 266 858993459 ∈ WB := wb_t 220 (by decide +kernel) rfl
theorem mk_J_267 : Cond.constant "java/lang/Integer" 267 252645135 ∈ WB := wb_t 221 (by decide +kernel) rfl
theorem mm_L_69 : Cond.methodLink "PackagePickLaw" 69 y_X_chosen ∈ WB := wb_t 222 (by decide +kernel) rfl
theorem mm_X_117 : Cond.methodLink "PackagePick" 117 y_X_holds ∈ WB := wb_t 226 (by decide +kernel) rfl
theorem mm_L_73 : Cond.methodLink "PackagePickLaw" 73 y_X_many ∈ WB := wb_t 227 (by decide +kernel) rfl
theorem mm_X_83 : Cond.methodLink "PackagePick" 83 y_W_all ∈ WB := wb_t 231 (by decide +kernel) rfl
theorem mk_X_87 : Cond.constant "PackagePick" 87 1000000 ∈ WB := wb_t 238 (by decide +kernel) rfl
theorem mm_X_88 : Cond.methodLink "PackagePick" 88 y_X_tallyChoices ∈ WB := wb_t 239 (by decide +kernel) rfl
theorem mm_X_149 : Cond.methodLink "PackagePick" 149 y_T_begin ∈ WB := wb_t 243 (by decide +kernel) rfl
theorem mm_X_156 : Cond.methodLink "PackagePick" 156 y_W_union ∈ WB := wb_t 247 (by decide +kernel) rfl
theorem mm_X_163 : Cond.methodLink "PackagePick" 163 y_X_explore ∈ WB := wb_t 251 (by decide +kernel) rfl
theorem mm_X_167 : Cond.methodLink "PackagePick" 167 y_T_isFull ∈ WB := wb_t 255 (by decide +kernel) rfl
theorem mm_X_174 : Cond.methodLink "PackagePick" 174 y_T_enter ∈ WB := wb_t 259 (by decide +kernel) rfl
theorem mm_T_36 : Cond.methodLink "PackagePick$Tally" 36 y_T_costOf ∈ WB := wb_t 263 (by decide +kernel) rfl
theorem mm_T_44 : Cond.methodLink "PackagePick$Tally" 44 y_J_bitCount ∈ WB := wb_t 267 (by decide +kernel) rfl
theorem mk_T_40 : Cond.constant "PackagePick$Tally" 40 17895697 ∈ WB := wb_t 269 (by decide +kernel) rfl
theorem mm_X_178 : Cond.methodLink "PackagePick" 178 y_X_lowestPlace ∈ WB := wb_t 271 (by decide +kernel) rfl
theorem mm_X_181 : Cond.methodLink "PackagePick" 181 y_K_min ∈ WB := wb_t 274 (by decide +kernel) rfl
theorem mm_L_77 : Cond.methodLink "PackagePickLaw" 77 y_X_can ∈ WB := wb_t 277 (by decide +kernel) rfl
theorem mm_L_84 : Cond.methodLink "PackagePickLaw" 84 y_X_count ∈ WB := wb_t 281 (by decide +kernel) rfl
theorem mm_X_140 : Cond.methodLink "PackagePick" 140 y_C_allNeeds ∈ WB := wb_t 285 (by decide +kernel) rfl
theorem mm_L_55 : Cond.methodLink "PackagePickLaw" 55 y_L_solve ∈ WB := wb_t 289 (by decide +kernel) rfl
theorem mm_L_7 : Cond.methodLink "PackagePickLaw" 7 y_X_solve ∈ WB := wb_t 294 (by decide +kernel) rfl
theorem mm_X_95 : Cond.methodLink "PackagePick" 95 y_X_fewestHindering ∈ WB := wb_t 366 (by decide +kernel) rfl
theorem mm_X_191 : Cond.methodLink "PackagePick" 191 y_X_hasChoice ∈ WB := wb_t 370 (by decide +kernel) rfl
theorem mm_L_81 : Cond.methodLink "PackagePickLaw" 81 y_L_core ∈ WB := wb_t 390 (by decide +kernel) rfl
theorem mm_L_17 : Cond.methodLink "PackagePickLaw" 17 y_X_core ∈ WB := wb_t 394 (by decide +kernel) rfl
theorem mm_X_129 : Cond.methodLink "PackagePick" 129 y_X_wishBit ∈ WB := wb_t 398 (by decide +kernel) rfl
theorem mm_L_25 : Cond.methodLink "PackagePickLaw" 25 y_M_init ∈ WB := wb_t 417 (by decide +kernel) rfl
theorem mf_M_56 : Cond.fieldLink "PackagePickModel" 56 "PackagePickModel" "thrown" "I" ∈ WB := wb_t 421 (by decide +kernel) rfl
theorem mf_M_7 : Cond.fieldLink "PackagePickModel" 7 "PackagePickModel" "there" "[Z" ∈ WB := wb_t 422 (by decide +kernel) rfl
theorem mf_M_13 : Cond.fieldLink "PackagePickModel" 13 "PackagePickModel" "needs" "[I" ∈ WB := wb_t 423 (by decide +kernel) rfl
theorem mf_M_17 : Cond.fieldLink "PackagePickModel" 17 "PackagePickModel" "needOf" "[I" ∈ WB := wb_t 424 (by decide +kernel) rfl
theorem mf_M_20 : Cond.fieldLink "PackagePickModel" 20 "PackagePickModel" "needFrom" "[I" ∈ WB := wb_t 425 (by decide +kernel) rfl
theorem mf_M_23 : Cond.fieldLink "PackagePickModel" 23 "PackagePickModel" "needTo" "[I" ∈ WB := wb_t 426 (by decide +kernel) rfl
theorem mf_M_75 : Cond.fieldLink "PackagePickModel" 75 "PackagePickModel" "asked" "I" ∈ WB := wb_t 427 (by decide +kernel) rfl
theorem mf_M_26 : Cond.fieldLink "PackagePickModel" 26 "PackagePickModel" "askedOf" "[I" ∈ WB := wb_t 428 (by decide +kernel) rfl
theorem mf_M_29 : Cond.fieldLink "PackagePickModel" 29 "PackagePickModel" "askedFrom" "[I" ∈ WB := wb_t 429 (by decide +kernel) rfl
theorem mf_M_32 : Cond.fieldLink "PackagePickModel" 32 "PackagePickModel" "askedTo" "[I" ∈ WB := wb_t 430 (by decide +kernel) rfl
theorem mf_M_72 : Cond.fieldLink "PackagePickModel" 72 "PackagePickModel" "bans" "I" ∈ WB := wb_t 431 (by decide +kernel) rfl
theorem mf_M_35 : Cond.fieldLink "PackagePickModel" 35 "PackagePickModel" "banOne" "[I" ∈ WB := wb_t 432 (by decide +kernel) rfl
theorem mf_M_38 : Cond.fieldLink "PackagePickModel" 38 "PackagePickModel" "banTwo" "[I" ∈ WB := wb_t 433 (by decide +kernel) rfl
theorem mf_M_78 : Cond.fieldLink "PackagePickModel" 78 "PackagePickModel" "counting" "I" ∈ WB := wb_t 434 (by decide +kernel) rfl
theorem mf_M_87 : Cond.fieldLink "PackagePickModel" 87 "PackagePickModel" "level" "I" ∈ WB := wb_t 435 (by decide +kernel) rfl
theorem mf_M_41 : Cond.fieldLink "PackagePickModel" 41 "PackagePickModel" "pick" "[I" ∈ WB := wb_t 436 (by decide +kernel) rfl
theorem mf_M_44 : Cond.fieldLink "PackagePickModel" 44 "PackagePickModel" "wanted" "[Z" ∈ WB := wb_t 437 (by decide +kernel) rfl
theorem mf_M_47 : Cond.fieldLink "PackagePickModel" 47 "PackagePickModel" "told" "[I" ∈ WB := wb_t 438 (by decide +kernel) rfl
theorem mf_M_50 : Cond.fieldLink "PackagePickModel" 50 "PackagePickModel" "kept" "[I" ∈ WB := wb_t 439 (by decide +kernel) rfl
theorem mf_M_53 : Cond.fieldLink "PackagePickModel" 53 "PackagePickModel" "best" "[I" ∈ WB := wb_t 440 (by decide +kernel) rfl
theorem mf_M_101 : Cond.fieldLink "PackagePickModel" 101 "PackagePickModel" "coreMask" "I" ∈ WB := wb_t 441 (by decide +kernel) rfl
theorem mm_L_61 : Cond.methodLink "PackagePickLaw" 61 y_M_thrown ∈ WB := wb_t 486 (by decide +kernel) rfl
theorem mm_L_30 : Cond.methodLink "PackagePickLaw" 30 y_M_version ∈ WB := wb_t 490 (by decide +kernel) rfl
theorem mm_M_64 : Cond.methodLink "PackagePickModel" 64 y_M_isVersion ∈ WB := wb_t 494 (by decide +kernel) rfl
theorem mm_M_60 : Cond.methodLink "PackagePickModel" 60 y_M_isPackage ∈ WB := wb_t 497 (by decide +kernel) rfl
theorem mm_L_35 : Cond.methodLink "PackagePickLaw" 35 y_M_need ∈ WB := wb_t 500 (by decide +kernel) rfl
theorem mm_M_68 : Cond.methodLink "PackagePickModel" 68 y_M_isNeed ∈ WB := wb_t 504 (by decide +kernel) rfl
theorem mm_L_39 : Cond.methodLink "PackagePickLaw" 39 y_M_drop ∈ WB := wb_t 507 (by decide +kernel) rfl
theorem mm_L_44 : Cond.methodLink "PackagePickLaw" 44 y_M_ban ∈ WB := wb_t 511 (by decide +kernel) rfl
theorem mm_L_49 : Cond.methodLink "PackagePickLaw" 49 y_M_ask ∈ WB := wb_t 515 (by decide +kernel) rfl
theorem mm_L_54 : Cond.methodLink "PackagePickLaw" 54 y_M_take ∈ WB := wb_t 519 (by decide +kernel) rfl
theorem mm_L_60 : Cond.methodLink "PackagePickLaw" 60 y_M_solve ∈ WB := wb_t 523 (by decide +kernel) rfl
theorem mm_M_118 : Cond.methodLink "PackagePickModel" 118 y_M_raise ∈ WB := wb_t 527 (by decide +kernel) rfl
theorem mm_M_97 : Cond.methodLink "PackagePickModel" 97 y_M_all ∈ WB := wb_t 531 (by decide +kernel) rfl
theorem mm_M_111 : Cond.methodLink "PackagePickModel" 111 y_M_begin ∈ WB := wb_t 535 (by decide +kernel) rfl
theorem mm_M_115 : Cond.methodLink "PackagePickModel" 115 y_M_finds ∈ WB := wb_t 539 (by decide +kernel) rfl
theorem mm_M_90 : Cond.methodLink "PackagePickModel" 90 y_M_goes ∈ WB := wb_t 543 (by decide +kernel) rfl
theorem mm_M_81 : Cond.methodLink "PackagePickModel" 81 y_M_counts ∈ WB := wb_t 547 (by decide +kernel) rfl
theorem mm_M_84 : Cond.methodLink "PackagePickModel" 84 y_M_isMet ∈ WB := wb_t 551 (by decide +kernel) rfl
theorem mm_M_93 : Cond.methodLink "PackagePickModel" 93 y_M_isTight ∈ WB := wb_t 555 (by decide +kernel) rfl
theorem mm_M_121 : Cond.methodLink "PackagePickModel" 121 y_M_cost ∈ WB := wb_t 559 (by decide +kernel) rfl
theorem mm_M_124 : Cond.methodLink "PackagePickModel" 124 y_M_findCore ∈ WB := wb_t 563 (by decide +kernel) rfl
theorem mm_M_104 : Cond.methodLink "PackagePickModel" 104 y_M_sizeOf ∈ WB := wb_t 567 (by decide +kernel) rfl
theorem mm_M_108 : Cond.methodLink "PackagePickModel" 108 y_M_isAhead ∈ WB := wb_t 570 (by decide +kernel) rfl
theorem mm_L_68 : Cond.methodLink "PackagePickLaw" 68 y_M_keep ∈ WB := wb_t 573 (by decide +kernel) rfl
theorem mm_M_127 : Cond.methodLink "PackagePickModel" 127 y_M_differ ∈ WB := wb_t 577 (by decide +kernel) rfl
theorem mm_L_72 : Cond.methodLink "PackagePickLaw" 72 y_M_chosen ∈ WB := wb_t 581 (by decide +kernel) rfl
theorem mm_L_76 : Cond.methodLink "PackagePickLaw" 76 y_M_many ∈ WB := wb_t 585 (by decide +kernel) rfl
theorem mm_L_80 : Cond.methodLink "PackagePickLaw" 80 y_M_can ∈ WB := wb_t 589 (by decide +kernel) rfl
theorem mm_L_83 : Cond.methodLink "PackagePickLaw" 83 y_M_core ∈ WB := wb_t 593 (by decide +kernel) rfl
theorem mm_L_87 : Cond.methodLink "PackagePickLaw" 87 y_M_count ∈ WB := wb_t 597 (by decide +kernel) rfl
theorem mu_C : ∀ w ∈ u_ws RR_C FF_C 6, w ∈ WB := fun w h => List.mem_filter.mpr ⟨(by decide +kernel : ∀ w ∈ u_ws RR_C FF_C 6, w ∈ lw_tbl) w h, (by decide +kernel : ∀ w ∈ u_ws RR_C FF_C 6, goodWord w = true) w h⟩
theorem mu_T : ∀ w ∈ u_ws RR_T FF_T 8, w ∈ WB := fun w h => List.mem_filter.mpr ⟨(by decide +kernel : ∀ w ∈ u_ws RR_T FF_T 8, w ∈ lw_tbl) w h, (by decide +kernel : ∀ w ∈ u_ws RR_T FF_T 8, goodWord w = true) w h⟩
theorem mu_W : ∀ w ∈ u_ws RR_W FF_W 3, w ∈ WB := fun w h => List.mem_filter.mpr ⟨(by decide +kernel : ∀ w ∈ u_ws RR_W FF_W 3, w ∈ lw_tbl) w h, (by decide +kernel : ∀ w ∈ u_ws RR_W FF_W 3, goodWord w = true) w h⟩
theorem mu_X : ∀ w ∈ u_ws RR_X FF_X 6, w ∈ WB := fun w h => List.mem_filter.mpr ⟨(by decide +kernel : ∀ w ∈ u_ws RR_X FF_X 6, w ∈ lw_tbl) w h, (by decide +kernel : ∀ w ∈ u_ws RR_X FF_X 6, goodWord w = true) w h⟩
theorem mu_M : ∀ w ∈ u_ws RR_M FF_M 21, w ∈ WB := fun w h => List.mem_filter.mpr ⟨(by decide +kernel : ∀ w ∈ u_ws RR_M FF_M 21, w ∈ lw_tbl) w h, (by decide +kernel : ∀ w ∈ u_ws RR_M FF_M 21, goodWord w = true) w h⟩
end
section
/-! THE WALKER: a context, a judgement over a world that is a function of a pure state, a row an instruction. -/
abbrev CX : Type := Program × Launch × Env × Room × State × MethodId × Array Value × List Frame × Method × Code × (State → Prop) × va_G × (Nat → Prop)
abbrev γp (γ : CX) : Program := γ.1
abbrev γl (γ : CX) : Launch := γ.2.1
abbrev γe (γ : CX) : Env := γ.2.2.1
abbrev γR (γ : CX) : Room := γ.2.2.2.1
abbrev γs (γ : CX) : State := γ.2.2.2.2.1
abbrev γm (γ : CX) : MethodId := γ.2.2.2.2.2.1
abbrev γa (γ : CX) : Array Value := γ.2.2.2.2.2.2.1
abbrev γb (γ : CX) : List Frame := γ.2.2.2.2.2.2.2.1
abbrev γM (γ : CX) : Method := γ.2.2.2.2.2.2.2.2.1
abbrev γc (γ : CX) : Code := γ.2.2.2.2.2.2.2.2.2.1
abbrev γQ (γ : CX) : State → Prop := γ.2.2.2.2.2.2.2.2.2.2.1
abbrev γD (γ : CX) : va_G := γ.2.2.2.2.2.2.2.2.2.2.2.1
abbrev γA (γ : CX) : Nat → Prop := γ.2.2.2.2.2.2.2.2.2.2.2.2
abbrev Tys : Type := List (ClassId × FieldType)
def AtG {S : Type} (γ : CX) (wf : S → va_W) (nL cs sl pc : Nat) (lv : List (Nat × Value)) (st : List Value) (u : S) : Prop :=
  ∀ (H : Heap) (locs : List Loc) (ls : Array Slot), va_P (γD γ) vwCl (wf u) H → va_D (γA γ) (wf u) → va_S (γA γ) (γs γ).heap H locs → lv_has ls nL lv → W (γp γ) (γl γ) (γe γ) (γR γ) (γs γ) (γm γ) (γa γ) (γb γ) (γM γ) (γc γ) H locs cs sl (γQ γ) (F0 (γm γ) pc ls st)
/-- the calls of private methods among the nest -/
def nestQ : List (String × Nat × MethodName) := [("PackagePick", 11, y_C_init), ("PackagePick", 18, y_W_init), ("PackagePick", 25, y_T_init), ("PackagePick$Catalog", 31, y_X_isSlot), ("PackagePick$Catalog", 35, y_X_holds), ("PackagePick$Wishes", 22, y_X_wishBit), ("PackagePick$Tally", 49, y_X_differing), ("PackagePick$Tally", 41, y_X_marksOf)]
def Nst (U : State) : Prop := ∀ q ∈ nestQ, va_Nw (.methodLinkNest q.1 q.2.1 q.2.2 "PackagePick") U
theorem Nst.warm {s U : State} (hW : s.WarmedH U.vm) (h : Nst s) : Nst U := fun q hq => va_Nw.warmM hW (h q hq)
theorem Nst.same {s U : State} (h : s.vm = U.vm) (hZ : Nst s) : Nst U := fun q hq => va_Nw.same rfl h (hZ q hq)
def Cx (γ : CX) (cc : ByteArray) (nL : Nat) (ret : Option FieldType) (own : String) (rm : Room) (tys : Tys) : Prop :=
  (γp γ).tables.exec = Jvm.exec ∧ (γc γ).code = cc ∧ (γc γ).maxLocals = nL ∧ (γM γ).sig.returnType = ret ∧ (γs γ).vm.findClass own = some (γm γ).cls ∧ (∀ w ∈ WB, w.before (γa γ) (γs γ) = true) ∧ (γM γ).locks = false ∧ va_K (γD γ) vwCl tys (γs γ) ∧ (∀ q, (γs γ).heap.size ≤ q → γA γ q) ∧ γR γ = rm ∧ Nst (γs γ)
section CXS
variable {γ : CX} {cc : ByteArray} {nL : Nat} {ret : Option FieldType} {own : String} {rm : Room} {tys : Tys}
theorem Cx.hx (C : Cx γ cc nL ret own rm tys) : (γp γ).tables.exec = Jvm.exec := C.1
theorem Cx.hb (C : Cx γ cc nL ret own rm tys) : (γc γ).code = cc := C.2.1
theorem Cx.hml (C : Cx γ cc nL ret own rm tys) : (γc γ).maxLocals = nL := C.2.2.1
theorem Cx.hr (C : Cx γ cc nL ret own rm tys) : (γM γ).sig.returnType = ret := C.2.2.2.1
theorem Cx.hown (C : Cx γ cc nL ret own rm tys) : (γs γ).vm.findClass own = some (γm γ).cls := C.2.2.2.2.1
theorem Cx.hts (C : Cx γ cc nL ret own rm tys) : ∀ w ∈ WB, w.before (γa γ) (γs γ) = true := C.2.2.2.2.2.1
theorem Cx.hlocks (C : Cx γ cc nL ret own rm tys) : (γM γ).locks = false := C.2.2.2.2.2.2.1
theorem Cx.hK (C : Cx γ cc nL ret own rm tys) : va_K (γD γ) vwCl tys (γs γ) := C.2.2.2.2.2.2.2.1
theorem Cx.hA (C : Cx γ cc nL ret own rm tys) : ∀ q, (γs γ).heap.size ≤ q → γA γ q := C.2.2.2.2.2.2.2.2.1
theorem Cx.hR (C : Cx γ cc nL ret own rm tys) : γR γ = rm := C.2.2.2.2.2.2.2.2.2.1
theorem Cx.hN (C : Cx γ cc nL ret own rm tys) : Nst (γs γ) := C.2.2.2.2.2.2.2.2.2.2
end CXS
/-- pure words -/
abbrev PS : Type := (Nat → Int32) × (Nat → Nat → Int32)
def si (u : PS) (k : Nat) (v : Int32) : PS := (va_up u.1 k v, u.2)
def sa (u : PS) (k i : Nat) (x : Int32) : PS := (u.1, va_up u.2 k (upd (u.2 k) i x))
def inb (i : Int32) (n : Nat) : Bool := !(decide (i < 0) || decide (n ≤ i.toNatClampNeg))
theorem inb_in {i : Int32} {n : Nat} (h : inb i n = true) : vp_in i n := by
  unfold inb at h; unfold vp_in; simpa using h
def ck {α : Type} (b : Bool) (k : Option α) : Option α := if b = true then k else none
theorem ck_some {α : Type} {b : Bool} {k : Option α} {r : α} (h : ck b k = some r) : b = true ∧ k = some r := by
  unfold ck at h
  by_cases hb : b = true
  · rw [if_pos hb] at h; exact ⟨hb, h⟩
  · rw [if_neg hb] at h; cases h
def isB (v : Int32) : Bool := decide (narrow .boolean (.int v) = .int v)
theorem isB_nar {v : Int32} (h : isB v = true) : narrow .boolean (.int v) = .int v := of_decide_eq_true h
def ush (x y : Int32) : Int32 := (x.toUInt32 >>> (y.toUInt32 &&& Int32.toUInt32 31)).toInt32
def NF : Nat := 1000000

section XR
variable {S : Type} {γ : CX} {cc : ByteArray} {nL : Nat} {ret : Option FieldType} {own : String} {rm : Room} {tys : Tys} {wf : S → va_W} {cs sl pc : Nat} {lv : List (Nat × Value)} {rest : List Value} {u : S}

theorem x_iconst (C : Cx γ cc nL ret own rm tys) {n : Int} {v : Int32} (hd : decode cc pc = .ok (.iconst n, 1)) (hv : Int32.ofInt n = v) (kk : AtG γ wf nL cs sl (pc + 1) lv (.int v :: rest) u) : AtG γ wf nL cs sl pc lv rest u :=
  fun H locs ls hP hD hS hl => lv_iconst C.hx C.hb hd hv (kk H locs ls hP hD hS hl)
theorem x_bipush (C : Cx γ cc nL ret own rm tys) {n : Int} {v : Int32} (hd : decode cc pc = .ok (.bipush n, 2)) (hv : (Int8.ofInt n).toInt32 = v) (kk : AtG γ wf nL cs sl (pc + 2) lv (.int v :: rest) u) : AtG γ wf nL cs sl pc lv rest u :=
  fun H locs ls hP hD hS hl => lv_bipush C.hx C.hb hd hv (kk H locs ls hP hD hS hl)
theorem x_sipush (C : Cx γ cc nL ret own rm tys) {n : Int} {v : Int32} (hd : decode cc pc = .ok (.sipush n, 3)) (hv : (Int16.ofInt n).toInt32 = v) (kk : AtG γ wf nL cs sl (pc + 3) lv (.int v :: rest) u) : AtG γ wf nL cs sl pc lv rest u :=
  fun H locs ls hP hD hS hl => lv_sipush C.hx C.hb hd hv (kk H locs ls hP hD hS hl)
theorem x_ldcw (C : Cx γ cc nL ret own rm tys) {index : Nat} {v : Int32} (hm : Cond.constant own index v ∈ WB) (hd : decode cc pc = .ok (.ldc_w index, 3)) (k : AtG γ wf nL cs sl (pc + 3) lv (.int v :: rest) u) : AtG γ wf nL cs sl pc lv rest u :=
  fun H locs ls hP hD hS hl => lv_ldcw C.hx C.hb C.hown (C.hts _ hm) hd (k H locs ls hP hD hS hl)
theorem x_ldc (C : Cx γ cc nL ret own rm tys) {index : Nat} {v : Int32} (hm : Cond.constant own index v ∈ WB) (hd : decode cc pc = .ok (.ldc index, 2)) (k : AtG γ wf nL cs sl (pc + 2) lv (.int v :: rest) u) : AtG γ wf nL cs sl pc lv rest u :=
  fun H locs ls hP hD hS hl => lv_ldc C.hx C.hb C.hown (C.hts _ hm) hd (k H locs ls hP hD hS hl)
theorem x_iload_n (C : Cx γ cc nL ret own rm tys) {j : Fin 4} {i k : Nat} {x : Int32} (hd : decode cc pc = .ok (.iload_n j, 1)) (hi : (j : Nat) = i) (hk : lv[k]? = some (i, .int x)) (kk : AtG γ wf nL cs sl (pc + 1) lv (.int x :: rest) u) : AtG γ wf nL cs sl pc lv rest u :=
  fun H locs ls hP hD hS hl => lv_iload_n C.hx C.hb hd hi (lv_at hl k hk) (kk H locs ls hP hD hS hl)
theorem x_iload (C : Cx γ cc nL ret own rm tys) {i k : Nat} {x : Int32} (hd : decode cc pc = .ok (.iload i, 2)) (hk : lv[k]? = some (i, .int x)) (kk : AtG γ wf nL cs sl (pc + 2) lv (.int x :: rest) u) : AtG γ wf nL cs sl pc lv rest u :=
  fun H locs ls hP hD hS hl => lv_iload C.hx C.hb hd (lv_at hl k hk) (kk H locs ls hP hD hS hl)
theorem x_aload_n (C : Cx γ cc nL ret own rm tys) {j : Fin 4} {i k : Nat} {x : Nat} (hd : decode cc pc = .ok (.aload_n j, 1)) (hi : (j : Nat) = i) (hk : lv[k]? = some (i, .ref x)) (kk : AtG γ wf nL cs sl (pc + 1) lv (.ref x :: rest) u) : AtG γ wf nL cs sl pc lv rest u :=
  fun H locs ls hP hD hS hl => lv_aload_n C.hx C.hb hd hi (lv_at hl k hk) (kk H locs ls hP hD hS hl)
theorem x_aload (C : Cx γ cc nL ret own rm tys) {i k : Nat} {x : Nat} (hd : decode cc pc = .ok (.aload i, 2)) (hk : lv[k]? = some (i, .ref x)) (kk : AtG γ wf nL cs sl (pc + 2) lv (.ref x :: rest) u) : AtG γ wf nL cs sl pc lv rest u :=
  fun H locs ls hP hD hS hl => lv_aload C.hx C.hb hd (lv_at hl k hk) (kk H locs ls hP hD hS hl)
theorem x_istore_n (C : Cx γ cc nL ret own rm tys) {j : Fin 4} {i : Nat} {x : Int32} {lv' : List (Nat × Value)} (hd : decode cc pc = .ok (.istore_n j, 1)) (hi : (j : Nat) = i) (hn : i < nL) (hl' : (i, Value.int x) :: lv.filter (fun q => !(q.1 == i) && !(q.1 + 1 == i && q.2.category == 2)) = lv') (k : AtG γ wf nL cs sl (pc + 1) lv' rest u) : AtG γ wf nL cs sl pc lv (.int x :: rest) u :=
  fun H locs ls hP hD hS hl => lv_istore_n C.hx C.hb hd hi hl hn hl' (fun ls1 hl1 => k H locs ls1 hP hD hS hl1)
theorem x_istore (C : Cx γ cc nL ret own rm tys) {i : Nat} {x : Int32} {lv' : List (Nat × Value)} (hd : decode cc pc = .ok (.istore i, 2)) (hn : i < nL) (hl' : (i, Value.int x) :: lv.filter (fun q => !(q.1 == i) && !(q.1 + 1 == i && q.2.category == 2)) = lv') (k : AtG γ wf nL cs sl (pc + 2) lv' rest u) : AtG γ wf nL cs sl pc lv (.int x :: rest) u :=
  fun H locs ls hP hD hS hl => lv_istore C.hx C.hb hd hl hn hl' (fun ls1 hl1 => k H locs ls1 hP hD hS hl1)
theorem x_astore_n (C : Cx γ cc nL ret own rm tys) {j : Fin 4} {i : Nat} {x : Nat} {lv' : List (Nat × Value)} (hd : decode cc pc = .ok (.astore_n j, 1)) (hi : (j : Nat) = i) (hn : i < nL) (hl' : (i, Value.ref x) :: lv.filter (fun q => !(q.1 == i) && !(q.1 + 1 == i && q.2.category == 2)) = lv') (k : AtG γ wf nL cs sl (pc + 1) lv' rest u) : AtG γ wf nL cs sl pc lv (.ref x :: rest) u :=
  fun H locs ls hP hD hS hl => lv_astore_n C.hx C.hb hd hi hl hn hl' (fun ls1 hl1 => k H locs ls1 hP hD hS hl1)
theorem x_astore (C : Cx γ cc nL ret own rm tys) {i : Nat} {x : Nat} {lv' : List (Nat × Value)} (hd : decode cc pc = .ok (.astore i, 2)) (hn : i < nL) (hl' : (i, Value.ref x) :: lv.filter (fun q => !(q.1 == i) && !(q.1 + 1 == i && q.2.category == 2)) = lv') (k : AtG γ wf nL cs sl (pc + 2) lv' rest u) : AtG γ wf nL cs sl pc lv (.ref x :: rest) u :=
  fun H locs ls hP hD hS hl => lv_astore C.hx C.hb hd hl hn hl' (fun ls1 hl1 => k H locs ls1 hP hD hS hl1)
theorem x_iinc (C : Cx γ cc nL ret own rm tys) {i k : Nat} {n : Int} {x v : Int32} {lv' : List (Nat × Value)} (hd : decode cc pc = .ok (.iinc i n, 3)) (hk : lv[k]? = some (i, .int x)) (hv : x + Int32.ofInt n = v) (hn : i < nL) (hl' : (i, Value.int v) :: lv.filter (fun q => !(q.1 == i) && !(q.1 + 1 == i && q.2.category == 2)) = lv') (kk : AtG γ wf nL cs sl (pc + 3) lv' rest u) : AtG γ wf nL cs sl pc lv rest u :=
  fun H locs ls hP hD hS hl => lv_iinc C.hx C.hb hd hl hk hv hn hl' (fun ls1 hl1 => kk H locs ls1 hP hD hS hl1)
theorem x_iadd (C : Cx γ cc nL ret own rm tys) {x y : Int32} (hd : decode cc pc = .ok (.iadd, 1)) (kk : AtG γ wf nL cs sl (pc + 1) lv (.int (x + y) :: rest) u) : AtG γ wf nL cs sl pc lv (.int y :: .int x :: rest) u :=
  fun H locs ls hP hD hS hl => lv_iadd C.hx C.hb hd (kk H locs ls hP hD hS hl)
theorem x_isub (C : Cx γ cc nL ret own rm tys) {x y : Int32} (hd : decode cc pc = .ok (.isub, 1)) (kk : AtG γ wf nL cs sl (pc + 1) lv (.int (x - y) :: rest) u) : AtG γ wf nL cs sl pc lv (.int y :: .int x :: rest) u :=
  fun H locs ls hP hD hS hl => lv_isub C.hx C.hb hd (kk H locs ls hP hD hS hl)
theorem x_imul (C : Cx γ cc nL ret own rm tys) {x y : Int32} (hd : decode cc pc = .ok (.imul, 1)) (kk : AtG γ wf nL cs sl (pc + 1) lv (.int (x * y) :: rest) u) : AtG γ wf nL cs sl pc lv (.int y :: .int x :: rest) u :=
  fun H locs ls hP hD hS hl => lv_imul C.hx C.hb hd (kk H locs ls hP hD hS hl)
theorem x_iand (C : Cx γ cc nL ret own rm tys) {x y : Int32} (hd : decode cc pc = .ok (.iand, 1)) (kk : AtG γ wf nL cs sl (pc + 1) lv (.int (x &&& y) :: rest) u) : AtG γ wf nL cs sl pc lv (.int y :: .int x :: rest) u :=
  fun H locs ls hP hD hS hl => lv_iand C.hx C.hb hd (kk H locs ls hP hD hS hl)
theorem x_ior (C : Cx γ cc nL ret own rm tys) {x y : Int32} (hd : decode cc pc = .ok (.ior, 1)) (kk : AtG γ wf nL cs sl (pc + 1) lv (.int (x ||| y) :: rest) u) : AtG γ wf nL cs sl pc lv (.int y :: .int x :: rest) u :=
  fun H locs ls hP hD hS hl => lv_ior C.hx C.hb hd (kk H locs ls hP hD hS hl)
theorem x_ixor (C : Cx γ cc nL ret own rm tys) {x y : Int32} (hd : decode cc pc = .ok (.ixor, 1)) (kk : AtG γ wf nL cs sl (pc + 1) lv (.int (x ^^^ y) :: rest) u) : AtG γ wf nL cs sl pc lv (.int y :: .int x :: rest) u :=
  fun H locs ls hP hD hS hl => lv_ixor C.hx C.hb hd (kk H locs ls hP hD hS hl)
theorem x_ishl (C : Cx γ cc nL ret own rm tys) {x y : Int32} (hd : decode cc pc = .ok (.ishl, 1)) (kk : AtG γ wf nL cs sl (pc + 1) lv (.int (x <<< (y &&& 31)) :: rest) u) : AtG γ wf nL cs sl pc lv (.int y :: .int x :: rest) u :=
  fun H locs ls hP hD hS hl => lv_ishl C.hx C.hb hd (kk H locs ls hP hD hS hl)
theorem x_ishr (C : Cx γ cc nL ret own rm tys) {x y : Int32} (hd : decode cc pc = .ok (.ishr, 1)) (kk : AtG γ wf nL cs sl (pc + 1) lv (.int (x >>> (y &&& 31)) :: rest) u) : AtG γ wf nL cs sl pc lv (.int y :: .int x :: rest) u :=
  fun H locs ls hP hD hS hl => lv_ishr C.hx C.hb hd (kk H locs ls hP hD hS hl)
theorem x_iushr (C : Cx γ cc nL ret own rm tys) {x y : Int32} (hd : decode cc pc = .ok (.iushr, 1)) (kk : AtG γ wf nL cs sl (pc + 1) lv (.int (ush x y) :: rest) u) : AtG γ wf nL cs sl pc lv (.int y :: .int x :: rest) u :=
  fun H locs ls hP hD hS hl => lv_iushr C.hx C.hb hd rfl (kk H locs ls hP hD hS hl)
theorem x_idiv (C : Cx γ cc nL ret own rm tys) {x y : Int32} (hd : decode cc pc = .ok (.idiv, 1)) (hne : ¬ y = 0) (kk : AtG γ wf nL cs sl (pc + 1) lv (.int (x / y) :: rest) u) : AtG γ wf nL cs sl pc lv (.int y :: .int x :: rest) u :=
  fun H locs ls hP hD hS hl => lv_idiv C.hx C.hb hd hne (kk H locs ls hP hD hS hl)
theorem x_irem (C : Cx γ cc nL ret own rm tys) {x y : Int32} (hd : decode cc pc = .ok (.irem, 1)) (hne : ¬ y = 0) (kk : AtG γ wf nL cs sl (pc + 1) lv (.int (x - x / y * y) :: rest) u) : AtG γ wf nL cs sl pc lv (.int y :: .int x :: rest) u :=
  fun H locs ls hP hD hS hl => lv_irem C.hx C.hb hd hne (kk H locs ls hP hD hS hl)
theorem x_ineg (C : Cx γ cc nL ret own rm tys) {x : Int32} (hd : decode cc pc = .ok (.ineg, 1)) (kk : AtG γ wf nL cs sl (pc + 1) lv (.int (-x) :: rest) u) : AtG γ wf nL cs sl pc lv (.int x :: rest) u :=
  fun H locs ls hP hD hS hl => lv_ineg C.hx C.hb hd (kk H locs ls hP hD hS hl)
theorem x_dup (C : Cx γ cc nL ret own rm tys) {va : Value} (hd : decode cc pc = .ok (.dup, 1)) (h1 : va.category = 1) (kk : AtG γ wf nL cs sl (pc + 1) lv (va :: va :: rest) u) : AtG γ wf nL cs sl pc lv (va :: rest) u :=
  fun H locs ls hP hD hS hl => lv_dup C.hx C.hb hd h1 (kk H locs ls hP hD hS hl)
theorem x_dup2 (C : Cx γ cc nL ret own rm tys) {va vb : Value} (hd : decode cc pc = .ok (.dup2, 1)) (h1 : va.category = 1) (h2 : vb.category = 1) (kk : AtG γ wf nL cs sl (pc + 1) lv (va :: vb :: va :: vb :: rest) u) : AtG γ wf nL cs sl pc lv (va :: vb :: rest) u :=
  fun H locs ls hP hD hS hl => lv_dup2_11 C.hx C.hb hd h1 h2 (kk H locs ls hP hD hS hl)
theorem x_pop (C : Cx γ cc nL ret own rm tys) {va : Value} (hd : decode cc pc = .ok (.pop, 1)) (h1 : va.category = 1) (kk : AtG γ wf nL cs sl (pc + 1) lv rest u) : AtG γ wf nL cs sl pc lv (va :: rest) u :=
  fun H locs ls hP hD hS hl => lv_pop C.hx C.hb hd h1 (kk H locs ls hP hD hS hl)
theorem x_goto (C : Cx γ cc nL ret own rm tys) {off : Int} {tgt : Nat} (hd : decode cc pc = .ok (.goto off, 3)) (ht : (pc : Int) + off = (tgt : Int)) (k : AtG γ wf nL cs sl tgt lv rest u) : AtG γ wf nL cs sl pc lv rest u :=
  fun H locs ls hP hD hS hl => lv_goto C.hx C.hb hd ht (k H locs ls hP hD hS hl)
theorem x_if_eq (C : Cx γ cc nL ret own rm tys) {x : Int32} {off : Int} {tgt : Nat} (hd : decode cc pc = .ok (.ifCond .eq off, 3)) (ht : (pc : Int) + off = (tgt : Int)) (kt : x = 0 → AtG γ wf nL cs sl tgt lv rest u) (kf : ¬ x = 0 → AtG γ wf nL cs sl (pc + 3) lv rest u) : AtG γ wf nL cs sl pc lv (.int x :: rest) u :=
  fun H locs ls hP hD hS hl => lv_if_eq C.hx C.hb hd ht (fun h => kt h H locs ls hP hD hS hl) (fun h => kf h H locs ls hP hD hS hl)
theorem x_if_ne (C : Cx γ cc nL ret own rm tys) {x : Int32} {off : Int} {tgt : Nat} (hd : decode cc pc = .ok (.ifCond .ne off, 3)) (ht : (pc : Int) + off = (tgt : Int)) (kt : ¬ x = 0 → AtG γ wf nL cs sl tgt lv rest u) (kf : x = 0 → AtG γ wf nL cs sl (pc + 3) lv rest u) : AtG γ wf nL cs sl pc lv (.int x :: rest) u :=
  fun H locs ls hP hD hS hl => lv_if_ne C.hx C.hb hd ht (fun h => kt h H locs ls hP hD hS hl) (fun h => kf h H locs ls hP hD hS hl)
theorem x_if_lt (C : Cx γ cc nL ret own rm tys) {x : Int32} {off : Int} {tgt : Nat} (hd : decode cc pc = .ok (.ifCond .lt off, 3)) (ht : (pc : Int) + off = (tgt : Int)) (kt : x < 0 → AtG γ wf nL cs sl tgt lv rest u) (kf : ¬ x < 0 → AtG γ wf nL cs sl (pc + 3) lv rest u) : AtG γ wf nL cs sl pc lv (.int x :: rest) u :=
  fun H locs ls hP hD hS hl => lv_if_lt C.hx C.hb hd ht (fun h => kt h H locs ls hP hD hS hl) (fun h => kf h H locs ls hP hD hS hl)
theorem x_if_ge (C : Cx γ cc nL ret own rm tys) {x : Int32} {off : Int} {tgt : Nat} (hd : decode cc pc = .ok (.ifCond .ge off, 3)) (ht : (pc : Int) + off = (tgt : Int)) (kt : 0 ≤ x → AtG γ wf nL cs sl tgt lv rest u) (kf : ¬ 0 ≤ x → AtG γ wf nL cs sl (pc + 3) lv rest u) : AtG γ wf nL cs sl pc lv (.int x :: rest) u :=
  fun H locs ls hP hD hS hl => lv_if_ge C.hx C.hb hd ht (fun h => kt h H locs ls hP hD hS hl) (fun h => kf h H locs ls hP hD hS hl)
theorem x_if_gt (C : Cx γ cc nL ret own rm tys) {x : Int32} {off : Int} {tgt : Nat} (hd : decode cc pc = .ok (.ifCond .gt off, 3)) (ht : (pc : Int) + off = (tgt : Int)) (kt : 0 < x → AtG γ wf nL cs sl tgt lv rest u) (kf : ¬ 0 < x → AtG γ wf nL cs sl (pc + 3) lv rest u) : AtG γ wf nL cs sl pc lv (.int x :: rest) u :=
  fun H locs ls hP hD hS hl => lv_if_gt C.hx C.hb hd ht (fun h => kt h H locs ls hP hD hS hl) (fun h => kf h H locs ls hP hD hS hl)
theorem x_if_le (C : Cx γ cc nL ret own rm tys) {x : Int32} {off : Int} {tgt : Nat} (hd : decode cc pc = .ok (.ifCond .le off, 3)) (ht : (pc : Int) + off = (tgt : Int)) (kt : x ≤ 0 → AtG γ wf nL cs sl tgt lv rest u) (kf : ¬ x ≤ 0 → AtG γ wf nL cs sl (pc + 3) lv rest u) : AtG γ wf nL cs sl pc lv (.int x :: rest) u :=
  fun H locs ls hP hD hS hl => lv_if_le C.hx C.hb hd ht (fun h => kt h H locs ls hP hD hS hl) (fun h => kf h H locs ls hP hD hS hl)
theorem x_icmp_eq (C : Cx γ cc nL ret own rm tys) {x y : Int32} {off : Int} {tgt : Nat} (hd : decode cc pc = .ok (.if_icmp .eq off, 3)) (ht : (pc : Int) + off = (tgt : Int)) (kt : x = y → AtG γ wf nL cs sl tgt lv rest u) (kf : ¬ x = y → AtG γ wf nL cs sl (pc + 3) lv rest u) : AtG γ wf nL cs sl pc lv (.int y :: .int x :: rest) u :=
  fun H locs ls hP hD hS hl => lv_icmp_eq C.hx C.hb hd ht (fun h => kt h H locs ls hP hD hS hl) (fun h => kf h H locs ls hP hD hS hl)
theorem x_icmp_ne (C : Cx γ cc nL ret own rm tys) {x y : Int32} {off : Int} {tgt : Nat} (hd : decode cc pc = .ok (.if_icmp .ne off, 3)) (ht : (pc : Int) + off = (tgt : Int)) (kt : ¬ x = y → AtG γ wf nL cs sl tgt lv rest u) (kf : x = y → AtG γ wf nL cs sl (pc + 3) lv rest u) : AtG γ wf nL cs sl pc lv (.int y :: .int x :: rest) u :=
  fun H locs ls hP hD hS hl => lv_icmp_ne C.hx C.hb hd ht (fun h => kt h H locs ls hP hD hS hl) (fun h => kf h H locs ls hP hD hS hl)
theorem x_icmp_lt (C : Cx γ cc nL ret own rm tys) {x y : Int32} {off : Int} {tgt : Nat} (hd : decode cc pc = .ok (.if_icmp .lt off, 3)) (ht : (pc : Int) + off = (tgt : Int)) (kt : x < y → AtG γ wf nL cs sl tgt lv rest u) (kf : ¬ x < y → AtG γ wf nL cs sl (pc + 3) lv rest u) : AtG γ wf nL cs sl pc lv (.int y :: .int x :: rest) u :=
  fun H locs ls hP hD hS hl => lv_icmp_lt C.hx C.hb hd ht (fun h => kt h H locs ls hP hD hS hl) (fun h => kf h H locs ls hP hD hS hl)
theorem x_icmp_ge (C : Cx γ cc nL ret own rm tys) {x y : Int32} {off : Int} {tgt : Nat} (hd : decode cc pc = .ok (.if_icmp .ge off, 3)) (ht : (pc : Int) + off = (tgt : Int)) (kt : y ≤ x → AtG γ wf nL cs sl tgt lv rest u) (kf : ¬ y ≤ x → AtG γ wf nL cs sl (pc + 3) lv rest u) : AtG γ wf nL cs sl pc lv (.int y :: .int x :: rest) u :=
  fun H locs ls hP hD hS hl => lv_icmp_ge C.hx C.hb hd ht (fun h => kt h H locs ls hP hD hS hl) (fun h => kf h H locs ls hP hD hS hl)
theorem x_icmp_gt (C : Cx γ cc nL ret own rm tys) {x y : Int32} {off : Int} {tgt : Nat} (hd : decode cc pc = .ok (.if_icmp .gt off, 3)) (ht : (pc : Int) + off = (tgt : Int)) (kt : y < x → AtG γ wf nL cs sl tgt lv rest u) (kf : ¬ y < x → AtG γ wf nL cs sl (pc + 3) lv rest u) : AtG γ wf nL cs sl pc lv (.int y :: .int x :: rest) u :=
  fun H locs ls hP hD hS hl => lv_icmp_gt C.hx C.hb hd ht (fun h => kt h H locs ls hP hD hS hl) (fun h => kf h H locs ls hP hD hS hl)
theorem x_icmp_le (C : Cx γ cc nL ret own rm tys) {x y : Int32} {off : Int} {tgt : Nat} (hd : decode cc pc = .ok (.if_icmp .le off, 3)) (ht : (pc : Int) + off = (tgt : Int)) (kt : x ≤ y → AtG γ wf nL cs sl tgt lv rest u) (kf : ¬ x ≤ y → AtG γ wf nL cs sl (pc + 3) lv rest u) : AtG γ wf nL cs sl pc lv (.int y :: .int x :: rest) u :=
  fun H locs ls hP hD hS hl => lv_icmp_le C.hx C.hb hd ht (fun h => kt h H locs ls hP hD hS hl) (fun h => kf h H locs ls hP hD hS hl)
theorem x_tsw (C : Cx γ cc nL ret own rm tys) {dflt lo hi : Int} {offs : Array Int} {len : Nat} {x c : Int32} {off : Int} {tgt : Nat} (hd : decode cc pc = .ok (.tableswitch dflt lo hi offs, len)) (hx : x = c) (ho : (if c.toInt < lo ∨ hi < c.toInt then none else offs[(c.toInt - lo).toNat]?) = some off) (ht : (pc : Int) + off = (tgt : Int)) (k : AtG γ wf nL cs sl tgt lv rest u) : AtG γ wf nL cs sl pc lv (.int x :: rest) u := by
  intro H locs ls hP hD hS hl
  subst hx
  by_cases h : x.toInt < lo ∨ hi < x.toInt
  · rw [if_pos h] at ho; cases ho
  · rw [if_neg h] at ho
    exact lv_tableIn C.hx C.hb hd (fun z => h (Or.inl z)) (fun z => h (Or.inr z)) ho ht (k H locs ls hP hD hS hl)
theorem x_tswo (C : Cx γ cc nL ret own rm tys) {dflt lo hi : Int} {offs : Array Int} {len : Nat} {x : Int32} {tgt : Nat} (hd : decode cc pc = .ok (.tableswitch dflt lo hi offs, len)) (h : x.toInt < lo ∨ hi < x.toInt) (ht : (pc : Int) + dflt = (tgt : Int)) (k : AtG γ wf nL cs sl tgt lv rest u) : AtG γ wf nL cs sl pc lv (.int x :: rest) u :=
  fun H locs ls hP hD hS hl => lv_tableOut C.hx C.hb hd h ht (k H locs ls hP hD hS hl)
theorem x_lsw (C : Cx γ cc nL ret own rm tys) {dflt : Int} {ps : Array (Int × Int)} {len : Nat} {x : Int32} {off : Int} {tgt : Nat} (hd : decode cc pc = .ok (.lookupswitch dflt ps, len)) (hp : (ps.toList.zip (ps.toList.drop 1)).all (fun (a, next) => a.1 < next.1) = true) (ho : Op.lookupswitch.offset ps.toList dflt x.toInt = off) (ht : (pc : Int) + off = (tgt : Int)) (k : AtG γ wf nL cs sl tgt lv rest u) : AtG γ wf nL cs sl pc lv (.int x :: rest) u :=
  fun H locs ls hP hD hS hl => lv_lookup C.hx C.hb hd hp ho ht (k H locs ls hP hD hS hl)
theorem x_sub {lv' : List (Nat × Value)} {st : List Value} (ks : List Nat) (h : lv_pick lv ks = lv') (k : AtG γ wf nL cs sl pc lv' st u) : AtG γ wf nL cs sl pc lv st u :=
  fun H locs ls hP hD hS hl => k H locs ls hP hD hS (lv_sub hl ks h)
end XR
/-- the ends -/
def QI {S : Type} (γ : CX) (tys : Tys) (wf : S → va_W) (r0 : Int32) (u0 : S) : Prop :=
  γQ γ = MQ (γb γ) (va_Qi (fun (r : Int32) (u' : S) => r = r0 ∧ u' = u0) (fun (u' : S) (t : State) => va_P (γD γ) vwCl (wf u') t.heap ∧ va_K (γD γ) vwCl tys t ∧ va_D (γA γ) (wf u')) (γA γ)) (γa γ) (γs γ) 0 0 (γA γ)
def QV {S : Type} (γ : CX) (tys : Tys) (wf : S → va_W) (u0 : S) : Prop :=
  γQ γ = MQ (γb γ) (va_Qv (fun (u' : S) => u' = u0) (fun (u' : S) (t : State) => va_P (γD γ) vwCl (wf u') t.heap ∧ va_K (γD γ) vwCl tys t ∧ va_D (γA γ) (wf u')) (γA γ)) (γa γ) (γs γ) 0 0 (γA γ)
section XE
variable {S : Type} {γ : CX} {cc : ByteArray} {nL : Nat} {own : String} {rm : Room} {tys : Tys} {wf : S → va_W} {pc : Nat} {lv : List (Nat × Value)} {u u0 : S} {v r0 : Int32}
theorem x_iret (C : Cx γ cc nL (some .int) own rm tys) (hQ : QI γ tys wf r0 u0) (hv : v = r0) (hu : u = u0) (hd : decode cc pc = .ok (.ireturn, 1)) : AtG γ wf nL 0 0 pc lv [.int v] u := by
  intro H locs ls hP hD hS hl
  subst hv hu
  have hQ' := hQ
  unfold QI at hQ'
  rw [hQ']
  exact W.iret C.hx C.hb C.hr (fun t ht hW => ⟨⟨v, u, rfl, ⟨rfl, rfl⟩, by rw [ht]; exact hP, va_K.moved hW.alike C.hK, hD⟩, hS.F ht⟩) hS.2.2 hd C.hlocks
theorem x_zret (C : Cx γ cc nL (some .boolean) own rm tys) (hQ : QI γ tys wf r0 u0) (hn : narrow .boolean (.int v) = .int v) (hv : v = r0) (hu : u = u0) (hd : decode cc pc = .ok (.ireturn, 1)) : AtG γ wf nL 0 0 pc lv [.int v] u := by
  intro H locs ls hP hD hS hl
  subst hv hu
  have hQ' := hQ
  unfold QI at hQ'
  rw [hQ']
  exact W.zret C.hx C.hb C.hr hn (fun t ht hW => ⟨⟨v, u, rfl, ⟨rfl, rfl⟩, by rw [ht]; exact hP, va_K.moved hW.alike C.hK, hD⟩, hS.F ht⟩) hS.2.2 hd C.hlocks
theorem x_vret (C : Cx γ cc nL none own rm tys) (hQ : QV γ tys wf u0) (hu : u = u0) (hd : decode cc pc = .ok (.return_, 1)) : AtG γ wf nL 0 0 pc lv [] u := by
  intro H locs ls hP hD hS hl
  subst hu
  have hQ' := hQ
  unfold QV at hQ'
  rw [hQ']
  exact W.vret C.hx C.hb C.hr (fun t ht hW => ⟨⟨u, rfl, rfl, by rw [ht]; exact hP, va_K.moved hW.alike C.hK, hD⟩, hS.F ht⟩) hS.2.2 hd C.hlocks
end XE
/-- contracts over a whole world -/
def CtP {S : Type} (D : va_G) (tys : Tys) (wf : S → va_W) (av : List Value) (u : S) (sz : Nat) : Array Value → State → Prop :=
  va_Pc av (fun U => U.heap.size = sz ∧ va_P D vwCl (wf u) U.heap ∧ va_K D vwCl tys U ∧ va_D (fun _ => True) (wf u) ∧ Nst U)
def CtI {S : Type} (l : Launch) (y : MethodName) (b : ByteArray) (L : Nat) (ret : Option FieldType) (rm : Room) (D : va_G) (tys : Tys) (wf : S → va_W) (av : List Value) (u : S) (r0 : Int32) (u0 : S) : Prop :=
  ∀ sz : Nat, Met l y (.code y b L ret :: WB) rm (CtP D tys wf av u sz) (va_Qi (fun (r : Int32) (u' : S) => r = r0 ∧ u' = u0) (fun (u' : S) (t : State) => va_P D vwCl (wf u') t.heap ∧ va_K D vwCl tys t ∧ va_D (va_A (wf u) sz) (wf u')) (va_A (wf u) sz)) 0 0 (va_A (wf u) sz)
def CtV {S : Type} (l : Launch) (y : MethodName) (b : ByteArray) (L : Nat) (ret : Option FieldType) (rm : Room) (D : va_G) (tys : Tys) (wf : S → va_W) (av : List Value) (u u0 : S) : Prop :=
  ∀ sz : Nat, Met l y (.code y b L ret :: WB) rm (CtP D tys wf av u sz) (va_Qv (fun (u' : S) => u' = u0) (fun (u' : S) (t : State) => va_P D vwCl (wf u') t.heap ∧ va_K D vwCl tys t ∧ va_D (va_A (wf u) sz) (wf u')) (va_A (wf u) sz)) 0 0 (va_A (wf u) sz)
theorem CtP.blind {S : Type} {D : va_G} {tys : Tys} {wf : S → va_W} {av : List Value} {u : S} {sz : Nat} : FrameBlind (CtP D tys wf av u sz) := fun a U g mk q => by
  obtain ⟨q0, q1, qP, qK, qD, qN⟩ := q
  exact ⟨q0, q1, qP, va_K.moved (u := U) (U := U.calling g mk a) (Vm.Alike.refl U.vm) qK, qD, qN.same (U := U.calling g mk a) rfl⟩
section CTO
variable {S : Type} {l : Launch} {y : MethodName} {rm : Room} {D : va_G} {tys : Tys} {wf : S → va_W} {av : List Value} {u u0 : S} {r0 : Int32} {cc : ByteArray} {maxL : Nat} {ret : Option FieldType}
theorem ct_ofI (hy : plainName y.cls = true) (hlen : (lg_sl av).length ≤ maxL) (k : ∀ γ : CX, γl γ = l → γD γ = D → Cx γ cc maxL ret y.cls rm tys → QI γ tys wf r0 u0 → AtG γ wf maxL 0 0 0 (lv_args 0 av) [] u) : CtI l y cc maxL ret rm D tys wf av u r0 u0 := by
  intro sz
  refine Met.ofW (cc := cc) (maxL := maxL) (ret := ret) hy rfl ?_
  intro p e s m args below meth c s₁ B hml hv
  obtain ⟨rfl, hsz, hP, hK, hD0, hN⟩ := hv
  subst hsz
  have hD := hD0.self (sz := s.heap.size)
  have key := k (p, l, e, (headSpec (.code y cc maxL ret :: WB) rm).room, s, m, av.toArray, below, meth, c, MQ below (va_Qi (fun (r : Int32) (u' : S) => r = r0 ∧ u' = u0) (fun (u' : S) (t : State) => va_P D vwCl (wf u') t.heap ∧ va_K D vwCl tys t ∧ va_D (va_A (wf u) s.heap.size) (wf u')) (va_A (wf u) s.heap.size)) av.toArray s 0 0 (va_A (wf u) s.heap.size), D, va_A (wf u) s.heap.size) rfl rfl ⟨B.exec, B.bytes, hml, B.returns, findClass_of_methodNamed B.named, fun w hw => atoms_spec (ws := .code y cc maxL ret :: WB) B.pre w (List.mem_cons_of_mem _ hw), B.notSynchronized, hK, fun q h => Or.inr h, rfl, hN⟩ rfl
  have hl := lv_entry av (n := maxL) hlen
  rw [lg_entry_eq]
  exact key s.heap [] _ hP hD va_S.rf hl
theorem ct_ofV (hy : plainName y.cls = true) (hlen : (lg_sl av).length ≤ maxL) (k : ∀ γ : CX, γl γ = l → γD γ = D → Cx γ cc maxL ret y.cls rm tys → QV γ tys wf u0 → AtG γ wf maxL 0 0 0 (lv_args 0 av) [] u) : CtV l y cc maxL ret rm D tys wf av u u0 := by
  intro sz
  refine Met.ofW (cc := cc) (maxL := maxL) (ret := ret) hy rfl ?_
  intro p e s m args below meth c s₁ B hml hv
  obtain ⟨rfl, hsz, hP, hK, hD0, hN⟩ := hv
  subst hsz
  have hD := hD0.self (sz := s.heap.size)
  have key := k (p, l, e, (headSpec (.code y cc maxL ret :: WB) rm).room, s, m, av.toArray, below, meth, c, MQ below (va_Qv (fun (u' : S) => u' = u0) (fun (u' : S) (t : State) => va_P D vwCl (wf u') t.heap ∧ va_K D vwCl tys t ∧ va_D (va_A (wf u) s.heap.size) (wf u')) (va_A (wf u) s.heap.size)) av.toArray s 0 0 (va_A (wf u) s.heap.size), D, va_A (wf u) s.heap.size) rfl rfl ⟨B.exec, B.bytes, hml, B.returns, findClass_of_methodNamed B.named, fun w hw => atoms_spec (ws := .code y cc maxL ret :: WB) B.pre w (List.mem_cons_of_mem _ hw), B.notSynchronized, hK, fun q h => Or.inr h, rfl, hN⟩ rfl
  have hl := lv_entry av (n := maxL) hlen
  rw [lg_entry_eq]
  exact key s.heap [] _ hP hD va_S.rf hl
end CTO

/-- rooms by rank -/
def rk (k : Nat) : Room := { frames := k, cells := 0, slots := 0, locals := 40 * k }
theorem wb_gi {y : MethodName} {b : ByteArray} {L : Nat} {ret : Option FieldType} (h : Cond.code y b L ret ∈ WB) : GoodIn WB (.code y b L ret :: WB) := fun w hw => (List.mem_cons.mp hw).elim (fun e => by rw [e]; exact ⟨h, wb_good _ h⟩) (fun h => ⟨h, wb_good w h⟩)
/-- what a call asks of the callee -/
def Cal (y : MethodName) (b : ByteArray) (L : Nat) (ret : Option FieldType) (n : Nat) : Prop := Cond.code y b L ret ∈ WB ∧ Cond.initialized y.cls ∈ WB ∧ (y.cls ≠ "java/lang/invoke/MethodHandle" ∧ y.cls ≠ "java/lang/invoke/VarHandle" ∧ (parseMethodDescriptor y.desc).map (fun d => d.parameters.length) = some n)
def Rok (rm2 rm : Room) (L : Nat) : Prop := (rm2.cells = 0 ∧ rm2.slots = 0) ∧ (rm2.frames + 1 ≤ rm.frames ∧ 8 + (L + 11) + rm2.locals ≤ rm.locals)
section XC
variable {S : Type} {γ : CX} {cc : ByteArray} {nL : Nat} {ret : Option FieldType} {own : String} {rm : Room} {tys : Tys} {wf : S → va_W} {pc : Nat} {lv : List (Nat × Value)} {rest st : List Value} {u u0 : S}
variable {y : MethodName} {b : ByteArray} {L n index : Nat} {ret2 : Option FieldType} {rm2 : Room} {As : List Value} {r0 : Int32}
theorem xc_free {H : Heap} {locs : List Loc} (C : Cx γ cc nL ret own rm tys) (hD : va_D (γA γ) (wf u)) (hS : va_S (γA γ) (γs γ).heap H locs) : ∀ q, va_A (wf u) H.size q → γA γ q := by
  rintro q (⟨k, e, hk⟩ | h)
  · exact hD.2 k (q, e) hk
  · exact C.hA q (Nat.le_trans hS.1 h)
theorem xc_pre {H : Heap} (C : Cx γ cc nL ret own rm tys) (hP : va_P (γD γ) vwCl (wf u) H) (hD : va_D (γA γ) (wf u)) (av : List Value) : PreS (γs γ) H (CtP (γD γ) tys wf av u H.size) av :=
  ⟨CtP.blind, fun U hU hW => ⟨rfl, by rw [hU], by rw [hU]; exact hP, va_K.moved hW.alike C.hK, hD.weaken (fun _ _ _ _ => trivial), C.hN.warm hW⟩⟩
theorem xc_B (C : Cx γ cc nL ret own rm tys) (hc : Cal y b L ret2 n) (hr : Rok rm2 rm L) (hl : Cond.methodLink own index y ∈ WB) : CallB (γR γ) (γs γ) (γa γ) own index y b L ret2 (.code y b L ret2 :: WB) rm2 0 0 n := by
  rw [C.hR]
  exact callB_of n C.hts (wb_gi hc.1) rfl hr.1.1 hr.1.2 (C.hts _ hc.2.1) (C.hts _ hl) hc.2.2 hr.2
theorem xc_N (C : Cx γ cc nL ret own rm tys) (hc : Cal y b L ret2 n) (hr : Rok rm2 rm L) (hl : (own, index, y) ∈ nestQ) : va_CN (γR γ) (γs γ) (γa γ) own index y "PackagePick" b L ret2 (.code y b L ret2 :: WB) rm2 0 0 n := by
  rw [C.hR]
  exact va_cnB n C.hts (wb_gi hc.1) rfl hr.1.1 hr.1.2 (C.hN _ hl) (C.hts _ hc.2.1) hc.2.2 hr.2
theorem xc_room (C : Cx γ cc nL ret own rm tys) : 0 + 0 ≤ (γR γ).cells ∧ 0 + 0 ≤ (γR γ).slots := ⟨Nat.zero_le _, Nat.zero_le _⟩
theorem x_callIs (C : Cx γ cc nL ret own rm tys) (hct : CtI (γl γ) y b L ret2 rm2 (γD γ) tys wf As u r0 u0) (hc : Cal y b L ret2 n) (hr : Rok rm2 rm L) (hl : Cond.methodLink own index y ∈ WB) (hs : Cond.static y ∈ WB) (hn : As.length = n) (hst : st = As.reverse ++ rest) (h8 : (rest.map fun v => v.category).sum ≤ 8) (hd : decode cc pc = .ok (.invokestatic index, 3)) (k : AtG γ wf nL 0 0 (pc + 3) lv (.int r0 :: rest) u0) : AtG γ wf nL 0 0 pc lv st u := by
  intro H locs ls hP hD hS hl1
  have hF := xc_free C hD hS
  refine va_calli (va_runS (As := As) (rest := rest) ⟨C.hx, C.hb, C.hml, C.hown, C.hts⟩ (hct H.size) ⟨xc_B C hc hr hl, C.hts _ hs⟩ (xc_pre C hP hD As) rfl hn hl1.1 hst (lv_room h8) hd (xc_room C)) hS (fun q _ h => hF q h) hF (fun r u1 t H1 locs1 ht hvm hw hB hz1 hk1 hS1 => ?_)
  obtain ⟨rfl, rfl⟩ := hw
  obtain ⟨hP1, hK1, hD1⟩ := hB
  rw [ht] at hP1
  exact k H1 locs1 ls hP1 (hD1.weaken (fun _ q _ h => hF q.1 h)) hS1 hl1
theorem x_callIn (C : Cx γ cc nL ret own rm tys) (hct : CtI (γl γ) y b L ret2 rm2 (γD γ) tys wf As u r0 u0) (hc : Cal y b L ret2 n) (hr : Rok rm2 rm L) (hl : (own, index, y) ∈ nestQ) (hs : Cond.static y ∈ WB) (hn : As.length = n) (hst : st = As.reverse ++ rest) (h8 : (rest.map fun v => v.category).sum ≤ 8) (hd : decode cc pc = .ok (.invokestatic index, 3)) (k : AtG γ wf nL 0 0 (pc + 3) lv (.int r0 :: rest) u0) : AtG γ wf nL 0 0 pc lv st u := by
  intro H locs ls hP hD hS hl1
  have hF := xc_free C hD hS
  refine va_calli (va_runSN (As := As) (rest := rest) ⟨C.hx, C.hb, C.hml, C.hown, C.hts⟩ (hct H.size) ⟨xc_N C hc hr hl, C.hts _ hs, trivial⟩ (xc_pre C hP hD As) rfl hn hl1.1 hst (lv_room h8) hd (xc_room C)) hS (fun q _ h => hF q h) hF (fun r u1 t H1 locs1 ht hvm hw hB hz1 hk1 hS1 => ?_)
  obtain ⟨rfl, rfl⟩ := hw
  obtain ⟨hP1, hK1, hD1⟩ := hB
  rw [ht] at hP1
  exact k H1 locs1 ls hP1 (hD1.weaken (fun _ q _ h => hF q.1 h)) hS1 hl1
variable {Cn : String} {T : u_T} {N ci q0 a : Nat} {fs : List Value}
theorem x_callIv (C : Cx γ cc nL ret own rm tys) (hct : CtI (γl γ) y b L ret2 rm2 (γD γ) tys wf (.ref a :: As) u r0 u0) (hc : Cal y b L ret2 n) (hr : Rok rm2 rm L) (hl : Cond.methodLink own index y ∈ WB) (hs : Cond.instanceMethod y ∈ WB) (hse : Cond.selects Cn y y ∈ WB) (hcl : vwCl[ci]? = some (Cn, T, N)) (he : (wf u)[q0]? = some (a, .inr (ci, fs))) (hn : As.length = n) (hst : st = As.reverse ++ .ref a :: rest) (h8 : (rest.map fun v => v.category).sum ≤ 8) (hd : decode cc pc = .ok (.invokevirtual index, 3)) (k : AtG γ wf nL 0 0 (pc + 3) lv (.int r0 :: rest) u0) : AtG γ wf nL 0 0 pc lv st u := by
  intro H locs ls hP hD hS hl1
  have hF := xc_free C hD hS
  have hpre := xc_pre C hP hD (.ref a :: As)
  refine va_calli (va_runV (As := As) (rest := rest) ⟨C.hx, C.hb, C.hml, C.hown, C.hts⟩ (hct H.size) ⟨xc_B C hc hr hl, C.hts _ hs, C.hts _ hse⟩ ⟨hpre.1, va_recv C.hK hP hcl he, hpre.2⟩ rfl hn hl1.1 hst (lv_room h8) hd (xc_room C)) hS (fun q _ h => hF q h) hF (fun r u1 t H1 locs1 ht hvm hw hB hz1 hk1 hS1 => ?_)
  obtain ⟨rfl, rfl⟩ := hw
  obtain ⟨hP1, hK1, hD1⟩ := hB
  rw [ht] at hP1
  exact k H1 locs1 ls hP1 (hD1.weaken (fun _ q _ h => hF q.1 h)) hS1 hl1
theorem x_callVv (C : Cx γ cc nL ret own rm tys) (hct : CtV (γl γ) y b L ret2 rm2 (γD γ) tys wf (.ref a :: As) u u0) (hc : Cal y b L ret2 n) (hr : Rok rm2 rm L) (hl : Cond.methodLink own index y ∈ WB) (hs : Cond.instanceMethod y ∈ WB) (hse : Cond.selects Cn y y ∈ WB) (hcl : vwCl[ci]? = some (Cn, T, N)) (he : (wf u)[q0]? = some (a, .inr (ci, fs))) (hn : As.length = n) (hst : st = As.reverse ++ .ref a :: rest) (h8 : (rest.map fun v => v.category).sum ≤ 8) (hd : decode cc pc = .ok (.invokevirtual index, 3)) (k : AtG γ wf nL 0 0 (pc + 3) lv rest u0) : AtG γ wf nL 0 0 pc lv st u := by
  intro H locs ls hP hD hS hl1
  have hF := xc_free C hD hS
  have hpre := xc_pre C hP hD (.ref a :: As)
  refine va_callv (va_runV (As := As) (rest := rest) ⟨C.hx, C.hb, C.hml, C.hown, C.hts⟩ (hct H.size) ⟨xc_B C hc hr hl, C.hts _ hs, C.hts _ hse⟩ ⟨hpre.1, va_recv C.hK hP hcl he, hpre.2⟩ rfl hn hl1.1 hst (lv_room h8) hd (xc_room C)) hS (fun q _ h => hF q h) hF (fun u1 t H1 locs1 ht hvm hw hB hz1 hk1 hS1 => ?_)
  subst hw
  obtain ⟨hP1, hK1, hD1⟩ := hB
  rw [ht] at hP1
  exact k H1 locs1 ls hP1 (hD1.weaken (fun _ q _ h => hF q.1 h)) hS1 hl1
/-- fields -/
theorem x_get (C : Cx γ cc nL ret own rm tys) {cs sl kf : Nat} {v : Value} (hin : ∀ w ∈ u_ws Cn T N, w ∈ WB) (he : (wf u)[q0]? = some (a, .inr (ci, fs))) (hcl : vwCl[ci]? = some (Cn, T, N)) (hk : kf < N) (hl : Cond.fieldLink own index (T kf).1 (T kf).2.1 (T kf).2.2.1 ∈ WB) (hv : fs[kf]? = some v) (hd : decode cc pc = .ok (.getfield index, 3)) (k : AtG γ wf nL cs sl (pc + 3) lv (v :: rest) u) : AtG γ wf nL cs sl pc lv (.ref a :: rest) u :=
  fun H locs ls hP hD hS hl1 => va_get (D := γD γ) (ci := ci) (C := Cn) (T := T) (N := N) C.hx C.hb C.hts hin C.hown C.hK hP q0 he hcl kf hk (C.hts _ hl) (fun _ h9 => h9) hv hd (k H locs ls hP hD hS hl1)
theorem x_put (C : Cx γ cc nL ret own rm tys) {cs sl kf : Nat} {v : Value} {ty : FieldType} {ty0 : Nat → FieldType} (hin : ∀ w ∈ u_ws Cn T N, w ∈ WB) (hty : ∀ k, k < N → parseFieldDescriptor (T k).2.2.1 = some (ty0 k)) (hnm : ∀ a, a < N → ∀ b, b < N → a ≠ b → (T a).2.1 ≠ (T b).2.1) (he : (wf u)[q0]? = some (a, .inr (ci, fs))) (hcl : vwCl[ci]? = some (Cn, T, N)) (hk : kf < N) (hl : Cond.fieldLink own index (T kf).1 (T kf).2.1 (T kf).2.2.1 ∈ WB) (hfin : (T kf).2.2.2 = false) (hdd : parseFieldDescriptor (T kf).2.2.1 = some ty) (hnv : narrow ty v = v) (hfit : fits ty v = true) (hlen : kf < fs.length) (hset : (wf u).set q0 (a, .inr (ci, fs.set kf v)) = wf u0) (hd : decode cc pc = .ok (.putfield index, 3)) (k : AtG γ wf nL cs sl (pc + 3) lv rest u0) : AtG γ wf nL cs sl pc lv (v :: .ref a :: rest) u :=
  fun H locs ls hP hD hS hl1 => va_put (D := γD γ) (ci := ci) (C := Cn) (T := T) (N := N) C.hx C.hb C.hts hin ty0 hty hnm C.hown C.hK hP hD hS q0 he hcl kf hk (C.hts _ hl) (fun _ h9 => h9) hfin hdd hnv hfit hlen hd (fun H1 locs1 hP1 hD1 hS1 => k H1 locs1 ls (hset ▸ hP1) (hset ▸ hD1) hS1 hl1)
/-- arrays -/
theorem x_iald (C : Cx γ cc nL ret own rm tys) {cs sl t0 nn : Nat} {cA : ClassId} {f : Nat → Int32} {i v : Int32} (ha : (wf u)[q0]? = some (a, .inl (cA, nn, .inl f))) (ht : tys[t0]? = some (cA, .int)) (hin : inb i nn = true) (hv : f i.toNatClampNeg = v) (hd : decode cc pc = .ok (.iaload, 1)) (k : AtG γ wf nL cs sl (pc + 1) lv (.int v :: rest) u) : AtG γ wf nL cs sl pc lv (.int i :: .ref a :: rest) u := by
  subst hv
  exact fun H locs ls hP hD hS hl1 => va_iald C.hx C.hb C.hK hP q0 t0 ha ht (inb_in hin) hd (k H locs ls hP hD hS hl1)
theorem x_zald (C : Cx γ cc nL ret own rm tys) {cs sl t0 nn : Nat} {cA : ClassId} {f : Nat → Int32} {i v : Int32} (ha : (wf u)[q0]? = some (a, .inl (cA, nn, .inl f))) (ht : tys[t0]? = some (cA, .boolean)) (hin : inb i nn = true) (hv : f i.toNatClampNeg = v) (hd : decode cc pc = .ok (.baload, 1)) (k : AtG γ wf nL cs sl (pc + 1) lv (.int v :: rest) u) : AtG γ wf nL cs sl pc lv (.int i :: .ref a :: rest) u := by
  subst hv
  exact fun H locs ls hP hD hS hl1 => va_zald C.hx C.hb C.hK hP q0 t0 ha ht (inb_in hin) hd (k H locs ls hP hD hS hl1)
theorem x_iast (C : Cx γ cc nL ret own rm tys) {cs sl t0 nn : Nat} {cA : ClassId} {f : Nat → Int32} {i x : Int32} (ha : (wf u)[q0]? = some (a, .inl (cA, nn, .inl f))) (ht : tys[t0]? = some (cA, .int)) (hin : inb i nn = true) (hset : (wf u).set q0 (a, .inl (cA, nn, .inl (upd f i.toNatClampNeg x))) = wf u0) (hd : decode cc pc = .ok (.iastore, 1)) (k : AtG γ wf nL cs sl (pc + 1) lv rest u0) : AtG γ wf nL cs sl pc lv (.int x :: .int i :: .ref a :: rest) u :=
  fun H locs ls hP hD hS hl1 => va_iast C.hx C.hb C.hK hP hD hS q0 t0 ha ht (inb_in hin) hd (fun H1 locs1 hP1 hD1 hS1 => k H1 locs1 ls (hset ▸ hP1) (hset ▸ hD1) hS1 hl1)
theorem x_zast (C : Cx γ cc nL ret own rm tys) {cs sl t0 nn : Nat} {cA : ClassId} {f : Nat → Int32} {i x : Int32} (ha : (wf u)[q0]? = some (a, .inl (cA, nn, .inl f))) (ht : tys[t0]? = some (cA, .boolean)) (hin : inb i nn = true) (hz : vp_nar .boolean x = x) (hset : (wf u).set q0 (a, .inl (cA, nn, .inl (upd f i.toNatClampNeg x))) = wf u0) (hd : decode cc pc = .ok (.bastore, 1)) (k : AtG γ wf nL cs sl (pc + 1) lv rest u0) : AtG γ wf nL cs sl pc lv (.int x :: .int i :: .ref a :: rest) u :=
  fun H locs ls hP hD hS hl1 => va_zast C.hx C.hb C.hK hP hD hS q0 t0 ha ht (inb_in hin) hd (fun H1 locs1 hP1 hD1 hS1 => by
    rw [hz] at hP1 hD1
    exact k H1 locs1 ls (hset ▸ hP1) (hset ▸ hD1) hS1 hl1)
theorem x_alen (C : Cx γ cc nL ret own rm tys) {cs sl t0 : Nat} {cA : ClassId} {x : vp_A} {ty : FieldType} {v : Int32} (ha : (wf u)[q0]? = some (a, .inl (cA, x))) (ht : tys[t0]? = some (cA, ty)) (hv : Int32.ofNat x.1 = v) (hd : decode cc pc = .ok (.arraylength, 1)) (k : AtG γ wf nL cs sl (pc + 1) lv (.int v :: rest) u) : AtG γ wf nL cs sl pc lv (.ref a :: rest) u :=
  fun H locs ls hP hD hS hl1 => va_alen C.hx C.hb C.hK hP q0 t0 ha ht hv hd (k H locs ls hP hD hS hl1)
def jmin (x y : Int32) : Int32 := if y < x then y else x
theorem x_mmin (C : Cx γ cc nL ret own rm tys) {x z : Int32} (hl : Cond.methodLink own index y_K_min ∈ WB) (hr : 1 ≤ rm.frames ∧ (rest.map fun v => v.category).sum + 13 ≤ rm.locals) (hd : decode cc pc = .ok (.invokestatic index, 3)) (k : AtG γ wf nL 0 0 (pc + 3) lv (.int (jmin x z) :: rest) u) : AtG γ wf nL 0 0 pc lv (.int z :: .int x :: rest) u :=
  fun H locs ls hP hD hS hl1 => va_mmin C.hx C.hb (by rw [C.hml]; exact hl1.1.symm) C.hown (C.hts _ hl) (C.hts _ ms_K_min) (C.hts _ mi_Math) (C.hts _ mc_K_min) (by rw [C.hR]; exact hr.1) (by rw [C.hR]; exact hr.2) (Nat.zero_le _) (Nat.zero_le _) hd (k H locs ls hP hD hS hl1)
end XC
end
