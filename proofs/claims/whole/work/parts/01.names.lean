-- ===== PART A: goes FIRST, ahead of the names: the tables' words, and 'selects' of the private methods out of them =====
/-- a private method of a class that the tables say can be made, by its rows of tables_1 -/
def lw_okq (q : MethodName × Nat) : Prop := (q.1.cls ≠ "java/lang/invoke/MethodHandle" ∧ q.1.cls ≠ "java/lang/invoke/VarHandle") ∧ Cond.instantiable q.1.cls q.2 ∈ tables_1 ∧ Cond.privateMethod q.1 ∈ tables_1 ∧ Cond.instanceMethod q.1 ∈ tables_1
theorem lw_p0 : lw_okq (⟨"PackagePick", "tallyChoices", "(III)I"⟩, 6) := ⟨⟨by decide +kernel, by decide +kernel⟩, List.mem_of_getElem? (i := 15) (by decide +kernel), List.mem_of_getElem? (i := 238) (by decide +kernel), List.mem_of_getElem? (i := 239) (by decide +kernel)⟩
theorem lw_p1 : lw_okq (⟨"PackagePick", "explore", "(IIII)V"⟩, 6) := ⟨⟨by decide +kernel, by decide +kernel⟩, List.mem_of_getElem? (i := 15) (by decide +kernel), List.mem_of_getElem? (i := 250) (by decide +kernel), List.mem_of_getElem? (i := 251) (by decide +kernel)⟩
theorem lw_p2 : lw_okq (⟨"PackagePick", "costOf", "(I)I"⟩, 6) := ⟨⟨by decide +kernel, by decide +kernel⟩, List.mem_of_getElem? (i := 15) (by decide +kernel), List.mem_of_getElem? (i := 258) (by decide +kernel), List.mem_of_getElem? (i := 259) (by decide +kernel)⟩
theorem lw_p3 : lw_okq (⟨"java/lang/Throwable", "fillInStackTrace", "(I)Ljava/lang/Throwable;"⟩, 6) := ⟨⟨by decide +kernel, by decide +kernel⟩, List.mem_of_getElem? (i := 333) (by decide +kernel), List.mem_of_getElem? (i := 331) (by decide +kernel), List.mem_of_getElem? (i := 332) (by decide +kernel)⟩
theorem lw_p4 : lw_okq (⟨"PackagePick", "fewestHindering", "()I"⟩, 6) := ⟨⟨by decide +kernel, by decide +kernel⟩, List.mem_of_getElem? (i := 15) (by decide +kernel), List.mem_of_getElem? (i := 363) (by decide +kernel), List.mem_of_getElem? (i := 364) (by decide +kernel)⟩
theorem lw_p5 : lw_okq (⟨"PackagePickModel", "raise", "(I)I"⟩, 21) := ⟨⟨by decide +kernel, by decide +kernel⟩, List.mem_of_getElem? (i := 408) (by decide +kernel), List.mem_of_getElem? (i := 520) (by decide +kernel), List.mem_of_getElem? (i := 521) (by decide +kernel)⟩
theorem lw_p6 : lw_okq (⟨"PackagePickModel", "all", "()I"⟩, 21) := ⟨⟨by decide +kernel, by decide +kernel⟩, List.mem_of_getElem? (i := 408) (by decide +kernel), List.mem_of_getElem? (i := 524) (by decide +kernel), List.mem_of_getElem? (i := 525) (by decide +kernel)⟩
theorem lw_p7 : lw_okq (⟨"PackagePickModel", "begin", "(I)V"⟩, 21) := ⟨⟨by decide +kernel, by decide +kernel⟩, List.mem_of_getElem? (i := 408) (by decide +kernel), List.mem_of_getElem? (i := 528) (by decide +kernel), List.mem_of_getElem? (i := 529) (by decide +kernel)⟩
theorem lw_p8 : lw_okq (⟨"PackagePickModel", "finds", "()Z"⟩, 21) := ⟨⟨by decide +kernel, by decide +kernel⟩, List.mem_of_getElem? (i := 408) (by decide +kernel), List.mem_of_getElem? (i := 532) (by decide +kernel), List.mem_of_getElem? (i := 533) (by decide +kernel)⟩
theorem lw_p9 : lw_okq (⟨"PackagePickModel", "goes", "(I)Z"⟩, 21) := ⟨⟨by decide +kernel, by decide +kernel⟩, List.mem_of_getElem? (i := 408) (by decide +kernel), List.mem_of_getElem? (i := 536) (by decide +kernel), List.mem_of_getElem? (i := 537) (by decide +kernel)⟩
theorem lw_p10 : lw_okq (⟨"PackagePickModel", "counts", "(I)Z"⟩, 21) := ⟨⟨by decide +kernel, by decide +kernel⟩, List.mem_of_getElem? (i := 408) (by decide +kernel), List.mem_of_getElem? (i := 540) (by decide +kernel), List.mem_of_getElem? (i := 541) (by decide +kernel)⟩
theorem lw_p11 : lw_okq (⟨"PackagePickModel", "isMet", "(III)Z"⟩, 21) := ⟨⟨by decide +kernel, by decide +kernel⟩, List.mem_of_getElem? (i := 408) (by decide +kernel), List.mem_of_getElem? (i := 544) (by decide +kernel), List.mem_of_getElem? (i := 545) (by decide +kernel)⟩
theorem lw_p12 : lw_okq (⟨"PackagePickModel", "isTight", "()Z"⟩, 21) := ⟨⟨by decide +kernel, by decide +kernel⟩, List.mem_of_getElem? (i := 408) (by decide +kernel), List.mem_of_getElem? (i := 548) (by decide +kernel), List.mem_of_getElem? (i := 549) (by decide +kernel)⟩
theorem lw_p13 : lw_okq (⟨"PackagePickModel", "cost", "(I)I"⟩, 21) := ⟨⟨by decide +kernel, by decide +kernel⟩, List.mem_of_getElem? (i := 408) (by decide +kernel), List.mem_of_getElem? (i := 552) (by decide +kernel), List.mem_of_getElem? (i := 553) (by decide +kernel)⟩
theorem lw_p14 : lw_okq (⟨"PackagePickModel", "findCore", "()V"⟩, 21) := ⟨⟨by decide +kernel, by decide +kernel⟩, List.mem_of_getElem? (i := 408) (by decide +kernel), List.mem_of_getElem? (i := 556) (by decide +kernel), List.mem_of_getElem? (i := 557) (by decide +kernel)⟩
theorem lw_p15 : lw_okq (⟨"PackagePickModel", "differ", "()I"⟩, 21) := ⟨⟨by decide +kernel, by decide +kernel⟩, List.mem_of_getElem? (i := 408) (by decide +kernel), List.mem_of_getElem? (i := 570) (by decide +kernel), List.mem_of_getElem? (i := 571) (by decide +kernel)⟩
def lw_privs_1 : List (MethodName × Nat) := [(⟨"PackagePick", "tallyChoices", "(III)I"⟩, 6), (⟨"PackagePick", "explore", "(IIII)V"⟩, 6), (⟨"PackagePick", "costOf", "(I)I"⟩, 6), (⟨"java/lang/Throwable", "fillInStackTrace", "(I)Ljava/lang/Throwable;"⟩, 6), (⟨"PackagePick", "fewestHindering", "()I"⟩, 6), (⟨"PackagePickModel", "raise", "(I)I"⟩, 21), (⟨"PackagePickModel", "all", "()I"⟩, 21), (⟨"PackagePickModel", "begin", "(I)V"⟩, 21), (⟨"PackagePickModel", "finds", "()Z"⟩, 21), (⟨"PackagePickModel", "goes", "(I)Z"⟩, 21), (⟨"PackagePickModel", "counts", "(I)Z"⟩, 21), (⟨"PackagePickModel", "isMet", "(III)Z"⟩, 21), (⟨"PackagePickModel", "isTight", "()Z"⟩, 21), (⟨"PackagePickModel", "cost", "(I)I"⟩, 21), (⟨"PackagePickModel", "findCore", "()V"⟩, 21), (⟨"PackagePickModel", "differ", "()I"⟩, 21)]
theorem lw_r1 : ∀ q ∈ lw_privs_1, lw_okq q := List.forall_mem_cons.mpr ⟨lw_p0, List.forall_mem_cons.mpr ⟨lw_p1, List.forall_mem_cons.mpr ⟨lw_p2, List.forall_mem_cons.mpr ⟨lw_p3, List.forall_mem_cons.mpr ⟨lw_p4, List.forall_mem_cons.mpr ⟨lw_p5, List.forall_mem_cons.mpr ⟨lw_p6, List.forall_mem_cons.mpr ⟨lw_p7, List.forall_mem_cons.mpr ⟨lw_p8, List.forall_mem_cons.mpr ⟨lw_p9, List.forall_mem_cons.mpr ⟨lw_p10, List.forall_mem_cons.mpr ⟨lw_p11, List.forall_mem_cons.mpr ⟨lw_p12, List.forall_mem_cons.mpr ⟨lw_p13, List.forall_mem_cons.mpr ⟨lw_p14, List.forall_mem_cons.mpr ⟨lw_p15, fun _ h => absurd h List.not_mem_nil⟩⟩⟩⟩⟩⟩⟩⟩⟩⟩⟩⟩⟩⟩⟩⟩
def lw_privs : List (MethodName × Nat) := lw_privs_1
def lw_tbl : List Cond := k2_sels lw_privs ++ tables_1
theorem lw_privs_ok : ∀ q ∈ lw_privs, lw_okq q := lw_r1
def RR_C : String := "PackagePick$Catalog"
def FF_C : u_T := fun k => match k with
  | 0 => ("PackagePick$Catalog", "needs", "[I", true)
  | 1 => ("PackagePick$Catalog", "wanted", "[I", true)
  | 2 => ("PackagePick$Catalog", "unmet", "[I", true)
  | 3 => ("PackagePick$Catalog", "banned", "[I", true)
  | 4 => ("PackagePick$Catalog", "there", "I", false)
  | _ => ("PackagePick$Catalog", "bans", "I", false)
def ft_C : Nat → FieldType := fun k => match k with
  | 0 => .array .int
  | 1 => .array .int
  | 2 => .array .int
  | 3 => .array .int
  | 4 => .int
  | _ => .int
theorem fn_C : ∀ a, a < 6 → ∀ b, b < 6 → a ≠ b → (FF_C a).2.1 ≠ (FF_C b).2.1 := by decide +kernel
theorem ft_C_ok : ∀ k, k < 6 → parseFieldDescriptor (FF_C k).2.2.1 = some (ft_C k) := by decide +kernel
def RR_T : String := "PackagePick$Tally"
def FF_T : u_T := fun k => match k with
  | 0 => ("PackagePick$Tally", "aim", "I", false)
  | 1 => ("PackagePick$Tally", "limit", "I", false)
  | 2 => ("PackagePick$Tally", "found", "I", false)
  | 3 => ("PackagePick$Tally", "seen", "I", false)
  | 4 => ("PackagePick$Tally", "absent", "I", false)
  | 5 => ("PackagePick$Tally", "best", "I", false)
  | _ => ("PackagePick$Tally", "bestCost", "I", false)
def ft_T : Nat → FieldType := fun k => match k with
  | 0 => .int
  | 1 => .int
  | 2 => .int
  | 3 => .int
  | 4 => .int
  | 5 => .int
  | _ => .int
theorem fn_T : ∀ a, a < 7 → ∀ b, b < 7 → a ≠ b → (FF_T a).2.1 ≠ (FF_T b).2.1 := by decide +kernel
theorem ft_T_ok : ∀ k, k < 7 → parseFieldDescriptor (FF_T k).2.2.1 = some (ft_T k) := by decide +kernel
def RR_W : String := "PackagePick$Wishes"
def FF_W : u_T := fun k => match k with
  | 0 => ("PackagePick$Wishes", "wanted", "[I", true)
  | 1 => ("PackagePick$Wishes", "unmet", "[I", true)
  | _ => ("PackagePick$Wishes", "size", "I", false)
def ft_W : Nat → FieldType := fun k => match k with
  | 0 => .array .int
  | 1 => .array .int
  | _ => .int
theorem fn_W : ∀ a, a < 3 → ∀ b, b < 3 → a ≠ b → (FF_W a).2.1 ≠ (FF_W b).2.1 := by decide +kernel
theorem ft_W_ok : ∀ k, k < 3 → parseFieldDescriptor (FF_W k).2.2.1 = some (ft_W k) := by decide +kernel
def RR_X : String := "PackagePick"
def FF_X : u_T := fun k => match k with
  | 0 => ("PackagePick", "catalog", "LPackagePick$Catalog;", true)
  | 1 => ("PackagePick", "wishes", "LPackagePick$Wishes;", true)
  | 2 => ("PackagePick", "tally", "LPackagePick$Tally;", true)
  | 3 => ("PackagePick", "told", "I", false)
  | 4 => ("PackagePick", "kept", "I", false)
  | _ => ("PackagePick", "hindering", "I", false)
def ft_X : Nat → FieldType := fun k => match k with
  | 0 => .object "PackagePick$Catalog"
  | 1 => .object "PackagePick$Wishes"
  | 2 => .object "PackagePick$Tally"
  | 3 => .int
  | 4 => .int
  | _ => .int
theorem fn_X : ∀ a, a < 6 → ∀ b, b < 6 → a ≠ b → (FF_X a).2.1 ≠ (FF_X b).2.1 := by decide +kernel
theorem ft_X_ok : ∀ k, k < 6 → parseFieldDescriptor (FF_X k).2.2.1 = some (ft_X k) := by decide +kernel
def RR_M : String := "PackagePickModel"
def FF_M : u_T := fun k => match k with
  | 0 => ("PackagePickModel", "thrown", "I", false)
  | 1 => ("PackagePickModel", "there", "[Z", true)
  | 2 => ("PackagePickModel", "needs", "[I", true)
  | 3 => ("PackagePickModel", "needOf", "[I", true)
  | 4 => ("PackagePickModel", "needFrom", "[I", true)
  | 5 => ("PackagePickModel", "needTo", "[I", true)
  | 6 => ("PackagePickModel", "asked", "I", false)
  | 7 => ("PackagePickModel", "askedOf", "[I", true)
  | 8 => ("PackagePickModel", "askedFrom", "[I", true)
  | 9 => ("PackagePickModel", "askedTo", "[I", true)
  | 10 => ("PackagePickModel", "bans", "I", false)
  | 11 => ("PackagePickModel", "banOne", "[I", true)
  | 12 => ("PackagePickModel", "banTwo", "[I", true)
  | 13 => ("PackagePickModel", "counting", "I", false)
  | 14 => ("PackagePickModel", "level", "I", false)
  | 15 => ("PackagePickModel", "pick", "[I", true)
  | 16 => ("PackagePickModel", "wanted", "[Z", true)
  | 17 => ("PackagePickModel", "told", "[I", true)
  | 18 => ("PackagePickModel", "kept", "[I", true)
  | 19 => ("PackagePickModel", "best", "[I", true)
  | _ => ("PackagePickModel", "coreMask", "I", false)
def ft_M : Nat → FieldType := fun k => match k with
  | 0 => .int
  | 1 => .array .boolean
  | 2 => .array .int
  | 3 => .array .int
  | 4 => .array .int
  | 5 => .array .int
  | 6 => .int
  | 7 => .array .int
  | 8 => .array .int
  | 9 => .array .int
  | 10 => .int
  | 11 => .array .int
  | 12 => .array .int
  | 13 => .int
  | 14 => .int
  | 15 => .array .int
  | 16 => .array .boolean
  | 17 => .array .int
  | 18 => .array .int
  | 19 => .array .int
  | _ => .int
theorem fn_M : ∀ a, a < 21 → ∀ b, b < 21 → a ≠ b → (FF_M a).2.1 ≠ (FF_M b).2.1 := by decide +kernel
theorem ft_M_ok : ∀ k, k < 21 → parseFieldDescriptor (FF_M k).2.2.1 = some (ft_M k) := by decide +kernel
/-- the classes whose objects the worlds hold -/
abbrev vwCl : List vw_C := [(RR_C, FF_C, 6), (RR_T, FF_T, 7), (RR_W, FF_W, 3), (RR_X, FF_X, 6), (RR_M, FF_M, 21)]
abbrev b_X_init : ByteArray := prog_1_method_1_code
abbrev y_X_init : MethodName := ⟨"PackagePick", "<init>", "()V"⟩
abbrev b_C_init : ByteArray := prog_2_method_1_code
abbrev y_C_init : MethodName := ⟨"PackagePick$Catalog", "<init>", "()V"⟩
abbrev b_W_init : ByteArray := prog_4_method_1_code
abbrev y_W_init : MethodName := ⟨"PackagePick$Wishes", "<init>", "()V"⟩
abbrev b_T_init : ByteArray := prog_3_method_1_code
abbrev y_T_init : MethodName := ⟨"PackagePick$Tally", "<init>", "()V"⟩
abbrev b_X_version : ByteArray := prog_1_method_2_code
abbrev y_X_version : MethodName := ⟨"PackagePick", "version", "(II)Z"⟩
abbrev b_X_isVersion : ByteArray := prog_1_method_20_code
abbrev y_X_isVersion : MethodName := ⟨"PackagePick", "isVersion", "(II)Z"⟩
abbrev b_X_isPackage : ByteArray := prog_1_method_19_code
abbrev y_X_isPackage : MethodName := ⟨"PackagePick", "isPackage", "(I)Z"⟩
abbrev b_X_slotOf : ByteArray := prog_1_method_24_code
abbrev y_X_slotOf : MethodName := ⟨"PackagePick", "slotOf", "(II)I"⟩
abbrev b_X_placeOf : ByteArray := prog_1_method_23_code
abbrev y_X_placeOf : MethodName := ⟨"PackagePick", "placeOf", "(I)I"⟩
abbrev b_C_add : ByteArray := prog_2_method_3_code
abbrev y_C_add : MethodName := ⟨"PackagePick$Catalog", "add", "(I)Z"⟩
abbrev b_X_isSlot : ByteArray := prog_1_method_22_code
abbrev y_X_isSlot : MethodName := ⟨"PackagePick", "isSlot", "(I)Z"⟩
abbrev b_C_has : ByteArray := prog_2_method_2_code
abbrev y_C_has : MethodName := ⟨"PackagePick$Catalog", "has", "(I)Z"⟩
abbrev b_X_holds : ByteArray := prog_1_method_27_code
abbrev y_X_holds : MethodName := ⟨"PackagePick", "holds", "(II)Z"⟩
abbrev b_X_need : ByteArray := prog_1_method_3_code
abbrev y_X_need : MethodName := ⟨"PackagePick", "need", "(IIIII)Z"⟩
abbrev b_X_isNeed : ByteArray := prog_1_method_21_code
abbrev y_X_isNeed : MethodName := ⟨"PackagePick", "isNeed", "(III)Z"⟩
abbrev b_X_markOf : ByteArray := prog_1_method_25_code
abbrev y_X_markOf : MethodName := ⟨"PackagePick", "markOf", "(I)I"⟩
abbrev b_X_outside : ByteArray := prog_1_method_28_code
abbrev y_X_outside : MethodName := ⟨"PackagePick", "outside", "(III)I"⟩
abbrev b_C_addNeed : ByteArray := prog_2_method_5_code
abbrev y_C_addNeed : MethodName := ⟨"PackagePick$Catalog", "addNeed", "(III)Z"⟩
abbrev b_X_drop : ByteArray := prog_1_method_4_code
abbrev y_X_drop : MethodName := ⟨"PackagePick", "drop", "(II)Z"⟩
abbrev b_C_remove : ByteArray := prog_2_method_4_code
abbrev y_C_remove : MethodName := ⟨"PackagePick$Catalog", "remove", "(I)Z"⟩
abbrev b_X_ban : ByteArray := prog_1_method_5_code
abbrev y_X_ban : MethodName := ⟨"PackagePick", "ban", "(IIII)Z"⟩
abbrev b_C_addBan : ByteArray := prog_2_method_6_code
abbrev y_C_addBan : MethodName := ⟨"PackagePick$Catalog", "addBan", "(II)Z"⟩
abbrev b_X_ask : ByteArray := prog_1_method_6_code
abbrev y_X_ask : MethodName := ⟨"PackagePick", "ask", "(III)Z"⟩
abbrev b_W_add : ByteArray := prog_4_method_2_code
abbrev y_W_add : MethodName := ⟨"PackagePick$Wishes", "add", "(II)Z"⟩
abbrev b_X_take : ByteArray := prog_1_method_7_code
abbrev y_X_take : MethodName := ⟨"PackagePick", "take", "(I)Z"⟩
abbrev b_W_remove : ByteArray := prog_4_method_3_code
abbrev y_W_remove : MethodName := ⟨"PackagePick$Wishes", "remove", "(I)Z"⟩
abbrev b_X_keep : ByteArray := prog_1_method_9_code
abbrev y_X_keep : MethodName := ⟨"PackagePick", "keep", "()I"⟩
abbrev b_X_differing : ByteArray := prog_1_method_30_code
abbrev y_X_differing : MethodName := ⟨"PackagePick", "differing", "(II)I"⟩
abbrev b_X_marksOf : ByteArray := prog_1_method_29_code
abbrev y_X_marksOf : MethodName := ⟨"PackagePick", "marksOf", "(I)I"⟩
abbrev b_J_bitCount : ByteArray := prog_10_method_49_code
abbrev y_J_bitCount : MethodName := ⟨"java/lang/Integer", "bitCount", "(I)I"⟩
abbrev b_X_chosen : ByteArray := prog_1_method_10_code
abbrev y_X_chosen : MethodName := ⟨"PackagePick", "chosen", "(I)I"⟩
abbrev b_X_many : ByteArray := prog_1_method_11_code
abbrev y_X_many : MethodName := ⟨"PackagePick", "many", "()I"⟩
abbrev b_W_all : ByteArray := prog_4_method_4_code
abbrev y_W_all : MethodName := ⟨"PackagePick$Wishes", "all", "()I"⟩
abbrev b_X_wishBit : ByteArray := prog_1_method_26_code
abbrev y_X_wishBit : MethodName := ⟨"PackagePick", "wishBit", "(I)I"⟩
abbrev b_X_tallyChoices : ByteArray := prog_1_method_15_code
abbrev y_X_tallyChoices : MethodName := ⟨"PackagePick", "tallyChoices", "(III)I"⟩
abbrev b_T_begin : ByteArray := prog_3_method_2_code
abbrev y_T_begin : MethodName := ⟨"PackagePick$Tally", "begin", "(II)V"⟩
abbrev b_W_union : ByteArray := prog_4_method_5_code
abbrev y_W_union : MethodName := ⟨"PackagePick$Wishes", "union", "([II)I"⟩
abbrev b_X_explore : ByteArray := prog_1_method_16_code
abbrev y_X_explore : MethodName := ⟨"PackagePick", "explore", "(IIII)V"⟩
abbrev b_T_isFull : ByteArray := prog_3_method_3_code
abbrev y_T_isFull : MethodName := ⟨"PackagePick$Tally", "isFull", "()Z"⟩
abbrev b_X_costOf : ByteArray := prog_1_method_17_code
abbrev y_X_costOf : MethodName := ⟨"PackagePick", "costOf", "(I)I"⟩
abbrev b_T_enter : ByteArray := prog_3_method_4_code
abbrev y_T_enter : MethodName := ⟨"PackagePick$Tally", "enter", "(II)V"⟩
abbrev b_X_lowestPlace : ByteArray := prog_1_method_31_code
abbrev y_X_lowestPlace : MethodName := ⟨"PackagePick", "lowestPlace", "(I)I"⟩
abbrev b_K_min : ByteArray := prog_11_method_69_code
abbrev y_K_min : MethodName := ⟨"java/lang/Math", "min", "(II)I"⟩
abbrev b_X_can : ByteArray := prog_1_method_12_code
abbrev y_X_can : MethodName := ⟨"PackagePick", "can", "(I)I"⟩
abbrev b_X_count : ByteArray := prog_1_method_14_code
abbrev y_X_count : MethodName := ⟨"PackagePick", "count", "(I)I"⟩
abbrev b_C_allNeeds : ByteArray := prog_2_method_7_code
abbrev y_C_allNeeds : MethodName := ⟨"PackagePick$Catalog", "allNeeds", "()I"⟩
abbrev b_X_solve : ByteArray := prog_1_method_8_code
abbrev y_X_solve : MethodName := ⟨"PackagePick", "solve", "(I)I"⟩
abbrev b_X_fewestHindering : ByteArray := prog_1_method_18_code
abbrev y_X_fewestHindering : MethodName := ⟨"PackagePick", "fewestHindering", "()I"⟩
abbrev b_X_core : ByteArray := prog_1_method_13_code
abbrev y_X_core : MethodName := ⟨"PackagePick", "core", "(I)I"⟩
abbrev b_M_init : ByteArray := prog_6_method_1_code
abbrev y_M_init : MethodName := ⟨"PackagePickModel", "<init>", "()V"⟩
abbrev b_M_thrown : ByteArray := prog_6_method_2_code
abbrev y_M_thrown : MethodName := ⟨"PackagePickModel", "thrown", "()I"⟩
abbrev b_M_version : ByteArray := prog_6_method_7_code
abbrev y_M_version : MethodName := ⟨"PackagePickModel", "version", "(II)Z"⟩
abbrev b_M_isVersion : ByteArray := prog_6_method_5_code
abbrev y_M_isVersion : MethodName := ⟨"PackagePickModel", "isVersion", "(II)Z"⟩
abbrev b_M_isPackage : ByteArray := prog_6_method_4_code
abbrev y_M_isPackage : MethodName := ⟨"PackagePickModel", "isPackage", "(I)Z"⟩
abbrev b_M_need : ByteArray := prog_6_method_8_code
abbrev y_M_need : MethodName := ⟨"PackagePickModel", "need", "(IIIII)Z"⟩
abbrev b_M_isNeed : ByteArray := prog_6_method_6_code
abbrev y_M_isNeed : MethodName := ⟨"PackagePickModel", "isNeed", "(III)Z"⟩
abbrev b_M_drop : ByteArray := prog_6_method_9_code
abbrev y_M_drop : MethodName := ⟨"PackagePickModel", "drop", "(II)Z"⟩
abbrev b_M_ban : ByteArray := prog_6_method_10_code
abbrev y_M_ban : MethodName := ⟨"PackagePickModel", "ban", "(IIII)Z"⟩
abbrev b_M_ask : ByteArray := prog_6_method_11_code
abbrev y_M_ask : MethodName := ⟨"PackagePickModel", "ask", "(III)Z"⟩
abbrev b_M_take : ByteArray := prog_6_method_12_code
abbrev y_M_take : MethodName := ⟨"PackagePickModel", "take", "(I)Z"⟩
abbrev b_M_solve : ByteArray := prog_6_method_24_code
abbrev y_M_solve : MethodName := ⟨"PackagePickModel", "solve", "(I)I"⟩
abbrev b_M_raise : ByteArray := prog_6_method_3_code
abbrev y_M_raise : MethodName := ⟨"PackagePickModel", "raise", "(I)I"⟩
abbrev b_M_all : ByteArray := prog_6_method_19_code
abbrev y_M_all : MethodName := ⟨"PackagePickModel", "all", "()I"⟩
abbrev b_M_begin : ByteArray := prog_6_method_17_code
abbrev y_M_begin : MethodName := ⟨"PackagePickModel", "begin", "(I)V"⟩
abbrev b_M_finds : ByteArray := prog_6_method_18_code
abbrev y_M_finds : MethodName := ⟨"PackagePickModel", "finds", "()Z"⟩
abbrev b_M_goes : ByteArray := prog_6_method_15_code
abbrev y_M_goes : MethodName := ⟨"PackagePickModel", "goes", "(I)Z"⟩
abbrev b_M_counts : ByteArray := prog_6_method_14_code
abbrev y_M_counts : MethodName := ⟨"PackagePickModel", "counts", "(I)Z"⟩
abbrev b_M_isMet : ByteArray := prog_6_method_13_code
abbrev y_M_isMet : MethodName := ⟨"PackagePickModel", "isMet", "(III)Z"⟩
abbrev b_M_isTight : ByteArray := prog_6_method_16_code
abbrev y_M_isTight : MethodName := ⟨"PackagePickModel", "isTight", "()Z"⟩
abbrev b_M_cost : ByteArray := prog_6_method_20_code
abbrev y_M_cost : MethodName := ⟨"PackagePickModel", "cost", "(I)I"⟩
abbrev b_M_findCore : ByteArray := prog_6_method_23_code
abbrev y_M_findCore : MethodName := ⟨"PackagePickModel", "findCore", "()V"⟩
abbrev b_M_sizeOf : ByteArray := prog_6_method_21_code
abbrev y_M_sizeOf : MethodName := ⟨"PackagePickModel", "sizeOf", "(I)I"⟩
abbrev b_M_isAhead : ByteArray := prog_6_method_22_code
abbrev y_M_isAhead : MethodName := ⟨"PackagePickModel", "isAhead", "(II)Z"⟩
abbrev b_M_keep : ByteArray := prog_6_method_26_code
abbrev y_M_keep : MethodName := ⟨"PackagePickModel", "keep", "()I"⟩
abbrev b_M_differ : ByteArray := prog_6_method_25_code
abbrev y_M_differ : MethodName := ⟨"PackagePickModel", "differ", "()I"⟩
abbrev b_M_chosen : ByteArray := prog_6_method_27_code
abbrev y_M_chosen : MethodName := ⟨"PackagePickModel", "chosen", "(I)I"⟩
abbrev b_M_many : ByteArray := prog_6_method_28_code
abbrev y_M_many : MethodName := ⟨"PackagePickModel", "many", "()I"⟩
abbrev b_M_can : ByteArray := prog_6_method_29_code
abbrev y_M_can : MethodName := ⟨"PackagePickModel", "can", "(I)I"⟩
abbrev b_M_core : ByteArray := prog_6_method_30_code
abbrev y_M_core : MethodName := ⟨"PackagePickModel", "core", "(I)I"⟩
abbrev b_M_count : ByteArray := prog_6_method_31_code
abbrev y_M_count : MethodName := ⟨"PackagePickModel", "count", "(I)I"⟩
abbrev b_L_solve : ByteArray := method_3_code
abbrev y_L_solve : MethodName := ⟨"PackagePickLaw", "solve", "(LPackagePick;I[J)I"⟩
abbrev b_L_core : ByteArray := method_4_code
abbrev y_L_core : MethodName := ⟨"PackagePickLaw", "core", "(LPackagePick;I[J)I"⟩
/-- the words that go along with every call -/
def WB : List Cond := lw_tbl.filter goodWord
theorem wb_t {w : Cond} (i : Nat) (h : tables_1[i]? = some w) (g : goodWord w = true) : w ∈ WB := List.mem_filter.mpr ⟨List.mem_append_right _ (List.mem_of_getElem? h), g⟩
theorem wb_s {w : Cond} (i : Nat) (h : (k2_sels lw_privs)[i]? = some w) (g : goodWord w = true) : w ∈ WB := List.mem_filter.mpr ⟨List.mem_append_left _ (List.mem_of_getElem? h), g⟩
theorem wb_good : ∀ w ∈ WB, (w.onTables && w.keeps) = true ∨ ∃ ty, w = .arrayClass ty := fun w h => good_of_word (List.mem_filter.mp h).2
theorem wb_in : ∀ w ∈ WB, w ∈ lw_tbl := fun w h => (List.mem_filter.mp h).1
