section
-- ===== PART A: goes FIRST, ahead of the names: the tables' words, and 'selects' of the private methods out of them =====
/-- a private method of a class that the tables say can be made, by its rows of tables_1 -/
def lw_okq (q : MethodName × Nat) : Prop := (q.1.cls ≠ "java/lang/invoke/MethodHandle" ∧ q.1.cls ≠ "java/lang/invoke/VarHandle") ∧ Cond.instantiable q.1.cls q.2 ∈ tables_1 ∧ Cond.privateMethod q.1 ∈ tables_1 ∧ Cond.instanceMethod q.1 ∈ tables_1
theorem lw_p0 : lw_okq (⟨"java/util/ArrayList", "add", "(Ljava/lang/Object;[Ljava/lang/Object;I)V"⟩, 3) := ⟨⟨by decide +kernel, by decide +kernel⟩, List.mem_of_getElem? (i := 30) (by decide +kernel), List.mem_of_getElem? (i := 137) (by decide +kernel), List.mem_of_getElem? (i := 138) (by decide +kernel)⟩
theorem lw_p1 : lw_okq (⟨"java/util/ArrayList", "grow", "()[Ljava/lang/Object;"⟩, 3) := ⟨⟨by decide +kernel, by decide +kernel⟩, List.mem_of_getElem? (i := 30) (by decide +kernel), List.mem_of_getElem? (i := 141) (by decide +kernel), List.mem_of_getElem? (i := 142) (by decide +kernel)⟩
theorem lw_p2 : lw_okq (⟨"java/util/ArrayList", "grow", "(I)[Ljava/lang/Object;"⟩, 3) := ⟨⟨by decide +kernel, by decide +kernel⟩, List.mem_of_getElem? (i := 30) (by decide +kernel), List.mem_of_getElem? (i := 145) (by decide +kernel), List.mem_of_getElem? (i := 146) (by decide +kernel)⟩
theorem lw_p3 : lw_okq (⟨"BoxGlue", "isBox", "(I)Z"⟩, 3) := ⟨⟨by decide +kernel, by decide +kernel⟩, List.mem_of_getElem? (i := 22) (by decide +kernel), List.mem_of_getElem? (i := 195) (by decide +kernel), List.mem_of_getElem? (i := 196) (by decide +kernel)⟩
theorem lw_p4 : lw_okq (⟨"BoxGlue", "append", "(LBoxGlue$Item;)I"⟩, 3) := ⟨⟨by decide +kernel, by decide +kernel⟩, List.mem_of_getElem? (i := 22) (by decide +kernel), List.mem_of_getElem? (i := 245) (by decide +kernel), List.mem_of_getElem? (i := 246) (by decide +kernel)⟩
theorem lw_p5 : lw_okq (⟨"BoxGlue$Fit", "share", "(I)I"⟩, 4) := ⟨⟨by decide +kernel, by decide +kernel⟩, List.mem_of_getElem? (i := 83) (by decide +kernel), List.mem_of_getElem? (i := 424) (by decide +kernel), List.mem_of_getElem? (i := 425) (by decide +kernel)⟩
theorem lw_p6 : lw_okq (⟨"BoxGlue$Fit", "cubed", "(J)I"⟩, 4) := ⟨⟨by decide +kernel, by decide +kernel⟩, List.mem_of_getElem? (i := 83) (by decide +kernel), List.mem_of_getElem? (i := 476) (by decide +kernel), List.mem_of_getElem? (i := 477) (by decide +kernel)⟩
theorem lw_p7 : lw_okq (⟨"BoxGlue$Leaders", "alignedFrom", "(I)I"⟩, 2) := ⟨⟨by decide +kernel, by decide +kernel⟩, List.mem_of_getElem? (i := 258) (by decide +kernel), List.mem_of_getElem? (i := 508) (by decide +kernel), List.mem_of_getElem? (i := 509) (by decide +kernel)⟩
theorem lw_p8 : lw_okq (⟨"BoxGlue$Leaders", "gap", "(I)I"⟩, 2) := ⟨⟨by decide +kernel, by decide +kernel⟩, List.mem_of_getElem? (i := 258) (by decide +kernel), List.mem_of_getElem? (i := 527) (by decide +kernel), List.mem_of_getElem? (i := 528) (by decide +kernel)⟩
theorem lw_p9 : lw_okq (⟨"java/util/ArrayList", "fastRemove", "([Ljava/lang/Object;I)V"⟩, 3) := ⟨⟨by decide +kernel, by decide +kernel⟩, List.mem_of_getElem? (i := 30) (by decide +kernel), List.mem_of_getElem? (i := 567) (by decide +kernel), List.mem_of_getElem? (i := 568) (by decide +kernel)⟩
theorem lw_p10 : lw_okq (⟨"BoxGlueModel", "isBox", "(I)Z"⟩, 24) := ⟨⟨by decide +kernel, by decide +kernel⟩, List.mem_of_getElem? (i := 576) (by decide +kernel), List.mem_of_getElem? (i := 669) (by decide +kernel), List.mem_of_getElem? (i := 670) (by decide +kernel)⟩
theorem lw_p11 : lw_okq (⟨"BoxGlueModel", "more", "(II)I"⟩, 24) := ⟨⟨by decide +kernel, by decide +kernel⟩, List.mem_of_getElem? (i := 576) (by decide +kernel), List.mem_of_getElem? (i := 674) (by decide +kernel), List.mem_of_getElem? (i := 675) (by decide +kernel)⟩
theorem lw_p12 : lw_okq (⟨"BoxGlueModel", "lengthOf", "(I)I"⟩, 24) := ⟨⟨by decide +kernel, by decide +kernel⟩, List.mem_of_getElem? (i := 576) (by decide +kernel), List.mem_of_getElem? (i := 699) (by decide +kernel), List.mem_of_getElem? (i := 700) (by decide +kernel)⟩
theorem lw_p13 : lw_okq (⟨"BoxGlueModel", "greatestOrder", "(Z)I"⟩, 24) := ⟨⟨by decide +kernel, by decide +kernel⟩, List.mem_of_getElem? (i := 576) (by decide +kernel), List.mem_of_getElem? (i := 710) (by decide +kernel), List.mem_of_getElem? (i := 711) (by decide +kernel)⟩
theorem lw_p14 : lw_okq (⟨"BoxGlueModel", "sumOf", "(ZII)J"⟩, 24) := ⟨⟨by decide +kernel, by decide +kernel⟩, List.mem_of_getElem? (i := 576) (by decide +kernel), List.mem_of_getElem? (i := 714) (by decide +kernel), List.mem_of_getElem? (i := 715) (by decide +kernel)⟩
theorem lw_p15 : lw_okq (⟨"BoxGlueModel", "heightOf", "(II)I"⟩, 24) := ⟨⟨by decide +kernel, by decide +kernel⟩, List.mem_of_getElem? (i := 576) (by decide +kernel), List.mem_of_getElem? (i := 724) (by decide +kernel), List.mem_of_getElem? (i := 725) (by decide +kernel)⟩
def lw_privs_1 : List (MethodName × Nat) := [(⟨"java/util/ArrayList", "add", "(Ljava/lang/Object;[Ljava/lang/Object;I)V"⟩, 3), (⟨"java/util/ArrayList", "grow", "()[Ljava/lang/Object;"⟩, 3), (⟨"java/util/ArrayList", "grow", "(I)[Ljava/lang/Object;"⟩, 3), (⟨"BoxGlue", "isBox", "(I)Z"⟩, 3), (⟨"BoxGlue", "append", "(LBoxGlue$Item;)I"⟩, 3), (⟨"BoxGlue$Fit", "share", "(I)I"⟩, 4), (⟨"BoxGlue$Fit", "cubed", "(J)I"⟩, 4), (⟨"BoxGlue$Leaders", "alignedFrom", "(I)I"⟩, 2), (⟨"BoxGlue$Leaders", "gap", "(I)I"⟩, 2), (⟨"java/util/ArrayList", "fastRemove", "([Ljava/lang/Object;I)V"⟩, 3), (⟨"BoxGlueModel", "isBox", "(I)Z"⟩, 24), (⟨"BoxGlueModel", "more", "(II)I"⟩, 24), (⟨"BoxGlueModel", "lengthOf", "(I)I"⟩, 24), (⟨"BoxGlueModel", "greatestOrder", "(Z)I"⟩, 24), (⟨"BoxGlueModel", "sumOf", "(ZII)J"⟩, 24), (⟨"BoxGlueModel", "heightOf", "(II)I"⟩, 24)]
theorem lw_r1 : ∀ q ∈ lw_privs_1, lw_okq q := List.forall_mem_cons.mpr ⟨lw_p0, List.forall_mem_cons.mpr ⟨lw_p1, List.forall_mem_cons.mpr ⟨lw_p2, List.forall_mem_cons.mpr ⟨lw_p3, List.forall_mem_cons.mpr ⟨lw_p4, List.forall_mem_cons.mpr ⟨lw_p5, List.forall_mem_cons.mpr ⟨lw_p6, List.forall_mem_cons.mpr ⟨lw_p7, List.forall_mem_cons.mpr ⟨lw_p8, List.forall_mem_cons.mpr ⟨lw_p9, List.forall_mem_cons.mpr ⟨lw_p10, List.forall_mem_cons.mpr ⟨lw_p11, List.forall_mem_cons.mpr ⟨lw_p12, List.forall_mem_cons.mpr ⟨lw_p13, List.forall_mem_cons.mpr ⟨lw_p14, List.forall_mem_cons.mpr ⟨lw_p15, fun _ h => absurd h List.not_mem_nil⟩⟩⟩⟩⟩⟩⟩⟩⟩⟩⟩⟩⟩⟩⟩⟩
theorem lw_p16 : lw_okq (⟨"BoxGlueModel", "depthOf", "(II)I"⟩, 24) := ⟨⟨by decide +kernel, by decide +kernel⟩, List.mem_of_getElem? (i := 576) (by decide +kernel), List.mem_of_getElem? (i := 728) (by decide +kernel), List.mem_of_getElem? (i := 729) (by decide +kernel)⟩
theorem lw_p17 : lw_okq (⟨"BoxGlueModel", "copy", "(II)V"⟩, 24) := ⟨⟨by decide +kernel, by decide +kernel⟩, List.mem_of_getElem? (i := 576) (by decide +kernel), List.mem_of_getElem? (i := 732) (by decide +kernel), List.mem_of_getElem? (i := 733) (by decide +kernel)⟩
theorem lw_p18 : lw_okq (⟨"BoxGlueModel", "drawn", "(I)I"⟩, 24) := ⟨⟨by decide +kernel, by decide +kernel⟩, List.mem_of_getElem? (i := 576) (by decide +kernel), List.mem_of_getElem? (i := 748) (by decide +kernel), List.mem_of_getElem? (i := 749) (by decide +kernel)⟩
theorem lw_p19 : lw_okq (⟨"BoxGlueModel", "leaderLength", "(I)I"⟩, 24) := ⟨⟨by decide +kernel, by decide +kernel⟩, List.mem_of_getElem? (i := 576) (by decide +kernel), List.mem_of_getElem? (i := 752) (by decide +kernel), List.mem_of_getElem? (i := 753) (by decide +kernel)⟩
theorem lw_p20 : lw_okq (⟨"BoxGlueModel", "firstPlace", "(I)J"⟩, 24) := ⟨⟨by decide +kernel, by decide +kernel⟩, List.mem_of_getElem? (i := 576) (by decide +kernel), List.mem_of_getElem? (i := 756) (by decide +kernel), List.mem_of_getElem? (i := 757) (by decide +kernel)⟩
theorem lw_p21 : lw_okq (⟨"BoxGlueModel", "firstOf", "(I)J"⟩, 24) := ⟨⟨by decide +kernel, by decide +kernel⟩, List.mem_of_getElem? (i := 576) (by decide +kernel), List.mem_of_getElem? (i := 760) (by decide +kernel), List.mem_of_getElem? (i := 761) (by decide +kernel)⟩
theorem lw_p22 : lw_okq (⟨"BoxGlueModel", "stepOf", "(I)J"⟩, 24) := ⟨⟨by decide +kernel, by decide +kernel⟩, List.mem_of_getElem? (i := 576) (by decide +kernel), List.mem_of_getElem? (i := 765) (by decide +kernel), List.mem_of_getElem? (i := 766) (by decide +kernel)⟩
def lw_privs_2 : List (MethodName × Nat) := [(⟨"BoxGlueModel", "depthOf", "(II)I"⟩, 24), (⟨"BoxGlueModel", "copy", "(II)V"⟩, 24), (⟨"BoxGlueModel", "drawn", "(I)I"⟩, 24), (⟨"BoxGlueModel", "leaderLength", "(I)I"⟩, 24), (⟨"BoxGlueModel", "firstPlace", "(I)J"⟩, 24), (⟨"BoxGlueModel", "firstOf", "(I)J"⟩, 24), (⟨"BoxGlueModel", "stepOf", "(I)J"⟩, 24)]
theorem lw_r2 : ∀ q ∈ lw_privs_2, lw_okq q := List.forall_mem_cons.mpr ⟨lw_p16, List.forall_mem_cons.mpr ⟨lw_p17, List.forall_mem_cons.mpr ⟨lw_p18, List.forall_mem_cons.mpr ⟨lw_p19, List.forall_mem_cons.mpr ⟨lw_p20, List.forall_mem_cons.mpr ⟨lw_p21, List.forall_mem_cons.mpr ⟨lw_p22, fun _ h => absurd h List.not_mem_nil⟩⟩⟩⟩⟩⟩⟩
def lw_privs : List (MethodName × Nat) := lw_privs_1 ++ (lw_privs_2)
def lw_tbl : List Cond := k2_sels lw_privs ++ tables_1
theorem lw_privs_ok : ∀ q ∈ lw_privs, lw_okq q := by
  show ∀ q ∈ lw_privs_1 ++ (lw_privs_2), lw_okq q
  exact List.forall_mem_append.mpr ⟨lw_r1, lw_r2⟩
end
section
/-! names: classes, their fields, methods (written by wip/whole/mknames.py) -/
abbrev y_BG_init : MethodName := ⟨"BoxGlue", "<init>", "()V"⟩
abbrev b_BG_init : ByteArray := prog_1_method_1_code
abbrev y_Obj_init : MethodName := ⟨"java/lang/Object", "<init>", "()V"⟩
abbrev b_Obj_init : ByteArray := object_method_1_code
abbrev y_AL_init : MethodName := ⟨"java/util/ArrayList", "<init>", "()V"⟩
abbrev b_AL_init : ByteArray := prog_20_method_2_code
abbrev y_AbL_init : MethodName := ⟨"java/util/AbstractList", "<init>", "()V"⟩
abbrev b_AbL_init : ByteArray := prog_19_method_1_code
abbrev y_AbC_init : MethodName := ⟨"java/util/AbstractCollection", "<init>", "()V"⟩
abbrev b_AbC_init : ByteArray := prog_18_method_1_code
abbrev y_BG_box : MethodName := ⟨"BoxGlue", "box", "(III)I"⟩
abbrev b_BG_box : ByteArray := prog_1_method_2_code
abbrev y_BG_isExtent : MethodName := ⟨"BoxGlue", "isExtent", "(I)Z"⟩
abbrev b_BG_isExtent : ByteArray := prog_1_method_19_code
abbrev y_AL_size : MethodName := ⟨"java/util/ArrayList", "size", "()I"⟩
abbrev b_AL_size : ByteArray := prog_20_method_8_code
abbrev y_Box_bare : MethodName := ⟨"BoxGlue$Box", "bare", "(III)LBoxGlue$Box;"⟩
abbrev b_Box_bare : ByteArray := prog_2_method_2_code
abbrev y_Fit_init : MethodName := ⟨"BoxGlue$Fit", "<init>", "(IIII)V"⟩
abbrev b_Fit_init : ByteArray := prog_3_method_1_code
abbrev y_Box_init : MethodName := ⟨"BoxGlue$Box", "<init>", "(IIILBoxGlue$Fit;Ljava/util/ArrayList;)V"⟩
abbrev b_Box_init : ByteArray := prog_2_method_1_code
abbrev y_AL_add : MethodName := ⟨"java/util/ArrayList", "add", "(Ljava/lang/Object;)Z"⟩
abbrev b_AL_add : ByteArray := prog_20_method_25_code
abbrev y_AL_add2 : MethodName := ⟨"java/util/ArrayList", "add", "(Ljava/lang/Object;[Ljava/lang/Object;I)V"⟩
abbrev b_AL_add2 : ByteArray := prog_20_method_24_code
abbrev y_AL_grow : MethodName := ⟨"java/util/ArrayList", "grow", "()[Ljava/lang/Object;"⟩
abbrev b_AL_grow : ByteArray := prog_20_method_7_code
abbrev y_AL_grow2 : MethodName := ⟨"java/util/ArrayList", "grow", "(I)[Ljava/lang/Object;"⟩
abbrev b_AL_grow2 : ByteArray := prog_20_method_6_code
abbrev y_ASup_newLength : MethodName := ⟨"jdk/internal/util/ArraysSupport", "newLength", "(III)I"⟩
abbrev b_ASup_newLength : ByteArray := prog_27_method_27_code
abbrev y_Math_max : MethodName := ⟨"java/lang/Math", "max", "(II)I"⟩
abbrev b_Math_max : ByteArray := prog_16_method_65_code
abbrev y_ASup_hugeLength : MethodName := ⟨"jdk/internal/util/ArraysSupport", "hugeLength", "(II)I"⟩
abbrev b_ASup_hugeLength : ByteArray := prog_27_method_28_code
abbrev y_Arrs_copyOf : MethodName := ⟨"java/util/Arrays", "copyOf", "([Ljava/lang/Object;I)[Ljava/lang/Object;"⟩
abbrev b_Arrs_copyOf : ByteArray := prog_21_method_119_code
abbrev y_Arrs_copyOf2 : MethodName := ⟨"java/util/Arrays", "copyOf", "([Ljava/lang/Object;ILjava/lang/Class;)[Ljava/lang/Object;"⟩
abbrev b_Arrs_copyOf2 : ByteArray := prog_21_method_120_code
abbrev y_Math_min : MethodName := ⟨"java/lang/Math", "min", "(II)I"⟩
abbrev b_Math_min : ByteArray := prog_16_method_69_code
abbrev y_Math_min2 : MethodName := ⟨"java/lang/Math", "min", "(JJ)J"⟩
abbrev b_Math_min2 : ByteArray := prog_16_method_70_code
abbrev y_BG_put : MethodName := ⟨"BoxGlue", "put", "(II)I"⟩
abbrev b_BG_put : ByteArray := prog_1_method_3_code
abbrev y_BG_isBox : MethodName := ⟨"BoxGlue", "isBox", "(I)Z"⟩
abbrev b_BG_isBox : ByteArray := prog_1_method_17_code
abbrev y_BG_isLength : MethodName := ⟨"BoxGlue", "isLength", "(I)Z"⟩
abbrev b_BG_isLength : ByteArray := prog_1_method_18_code
abbrev y_AL_get : MethodName := ⟨"java/util/ArrayList", "get", "(I)Ljava/lang/Object;"⟩
abbrev b_AL_get : ByteArray := prog_20_method_20_code
abbrev y_Objs_checkIndex : MethodName := ⟨"java/util/Objects", "checkIndex", "(II)I"⟩
abbrev b_Objs_checkIndex : ByteArray := prog_24_method_17_code
abbrev y_Pre_checkIndex : MethodName := ⟨"jdk/internal/util/Preconditions", "checkIndex", "(IILjava/util/function/BiFunction;)I"⟩
abbrev b_Pre_checkIndex : ByteArray := prog_28_method_11_code
abbrev y_AL_elementData : MethodName := ⟨"java/util/ArrayList", "elementData", "(I)Ljava/lang/Object;"⟩
abbrev b_AL_elementData : ByteArray := prog_20_method_18_code
abbrev y_Put_init : MethodName := ⟨"BoxGlue$Put", "<init>", "(LBoxGlue$Box;I)V"⟩
abbrev b_Put_init : ByteArray := prog_9_method_1_code
abbrev y_Item_init : MethodName := ⟨"BoxGlue$Item", "<init>", "(II)V"⟩
abbrev b_Item_init : ByteArray := prog_5_method_1_code
abbrev y_BG_append : MethodName := ⟨"BoxGlue", "append", "(LBoxGlue$Item;)I"⟩
abbrev b_BG_append : ByteArray := prog_1_method_16_code
abbrev y_BG_glue : MethodName := ⟨"BoxGlue", "glue", "(IIIII)I"⟩
abbrev b_BG_glue : ByteArray := prog_1_method_4_code
abbrev y_BG_isGiving : MethodName := ⟨"BoxGlue", "isGiving", "(II)Z"⟩
abbrev b_BG_isGiving : ByteArray := prog_1_method_21_code
abbrev y_Leaders_init : MethodName := ⟨"BoxGlue$Leaders", "<init>", "(II)V"⟩
abbrev b_Leaders_init : ByteArray := prog_7_method_1_code
abbrev y_Glue_init : MethodName := ⟨"BoxGlue$Glue", "<init>", "(IIIIILBoxGlue$Leaders;)V"⟩
abbrev b_Glue_init : ByteArray := prog_4_method_1_code
abbrev y_BG_kern : MethodName := ⟨"BoxGlue", "kern", "(I)I"⟩
abbrev b_BG_kern : ByteArray := prog_1_method_5_code
abbrev y_Kern_init : MethodName := ⟨"BoxGlue$Kern", "<init>", "(I)V"⟩
abbrev b_Kern_init : ByteArray := prog_6_method_1_code
abbrev y_BG_rule : MethodName := ⟨"BoxGlue", "rule", "(III)I"⟩
abbrev b_BG_rule : ByteArray := prog_1_method_6_code
abbrev y_BG_isExtentOrRunning : MethodName := ⟨"BoxGlue", "isExtentOrRunning", "(I)Z"⟩
abbrev b_BG_isExtentOrRunning : ByteArray := prog_1_method_20_code
abbrev y_Rule_init : MethodName := ⟨"BoxGlue$Rule", "<init>", "(III)V"⟩
abbrev b_Rule_init : ByteArray := prog_10_method_1_code
abbrev y_BG_leaders : MethodName := ⟨"BoxGlue", "leaders", "(II)I"⟩
abbrev b_BG_leaders : ByteArray := prog_1_method_7_code
abbrev y_AL_isEmpty : MethodName := ⟨"java/util/ArrayList", "isEmpty", "()Z"⟩
abbrev b_AL_isEmpty : ByteArray := prog_20_method_9_code
abbrev y_Glue_with : MethodName := ⟨"BoxGlue$Glue", "with", "(LBoxGlue$Leaders;)LBoxGlue$Glue;"⟩
abbrev b_Glue_with : ByteArray := prog_4_method_2_code
abbrev y_AL_set : MethodName := ⟨"java/util/ArrayList", "set", "(ILjava/lang/Object;)Ljava/lang/Object;"⟩
abbrev b_AL_set : ByteArray := prog_20_method_23_code
abbrev y_BG_pack : MethodName := ⟨"BoxGlue", "pack", "(I)I"⟩
abbrev b_BG_pack : ByteArray := prog_1_method_8_code
abbrev y_Fit_lengthOf : MethodName := ⟨"BoxGlue$Fit", "lengthOf", "(Ljava/util/ArrayList;)I"⟩
abbrev b_Fit_lengthOf : ByteArray := prog_3_method_3_code
abbrev y_Box_packed : MethodName := ⟨"BoxGlue$Box", "packed", "(Ljava/util/ArrayList;I)LBoxGlue$Box;"⟩
abbrev b_Box_packed : ByteArray := prog_2_method_3_code
abbrev y_Put_heightWhere : MethodName := ⟨"BoxGlue$Put", "heightWhere", "(I)I"⟩
abbrev b_Put_heightWhere : ByteArray := prog_9_method_2_code
abbrev y_Rule_heightWhere : MethodName := ⟨"BoxGlue$Rule", "heightWhere", "(I)I"⟩
abbrev b_Rule_heightWhere : ByteArray := prog_10_method_2_code
abbrev y_Item_heightWhere : MethodName := ⟨"BoxGlue$Item", "heightWhere", "(I)I"⟩
abbrev b_Item_heightWhere : ByteArray := prog_5_method_3_code
abbrev y_Put_depthWhere : MethodName := ⟨"BoxGlue$Put", "depthWhere", "(I)I"⟩
abbrev b_Put_depthWhere : ByteArray := prog_9_method_3_code
abbrev y_Rule_depthWhere : MethodName := ⟨"BoxGlue$Rule", "depthWhere", "(I)I"⟩
abbrev b_Rule_depthWhere : ByteArray := prog_10_method_3_code
abbrev y_Item_depthWhere : MethodName := ⟨"BoxGlue$Item", "depthWhere", "(I)I"⟩
abbrev b_Item_depthWhere : ByteArray := prog_5_method_4_code
abbrev y_Fit_of : MethodName := ⟨"BoxGlue$Fit", "of", "(Ljava/util/ArrayList;I)LBoxGlue$Fit;"⟩
abbrev b_Fit_of : ByteArray := prog_3_method_2_code
abbrev y_Fit_greatestOrder : MethodName := ⟨"BoxGlue$Fit", "greatestOrder", "(Ljava/util/ArrayList;Z)I"⟩
abbrev b_Fit_greatestOrder : ByteArray := prog_3_method_4_code
abbrev y_Fit_sumOf : MethodName := ⟨"BoxGlue$Fit", "sumOf", "(Ljava/util/ArrayList;ZI)I"⟩
abbrev b_Fit_sumOf : ByteArray := prog_3_method_5_code
abbrev y_Glue_giving : MethodName := ⟨"BoxGlue$Glue", "giving", "(ZI)I"⟩
abbrev b_Glue_giving : ByteArray := prog_4_method_3_code
abbrev y_Item_giving : MethodName := ⟨"BoxGlue$Item", "giving", "(ZI)I"⟩
abbrev b_Item_giving : ByteArray := prog_5_method_2_code
abbrev y_Box_placed : MethodName := ⟨"BoxGlue$Box", "placed", "(Ljava/util/ArrayList;LBoxGlue$Fit;)Ljava/util/ArrayList;"⟩
abbrev b_Box_placed : ByteArray := prog_2_method_4_code
abbrev y_Fit_givingOf : MethodName := ⟨"BoxGlue$Fit", "givingOf", "(LBoxGlue$Item;)I"⟩
abbrev b_Fit_givingOf : ByteArray := prog_3_method_6_code
abbrev y_Fit_change : MethodName := ⟨"BoxGlue$Fit", "change", "(II)I"⟩
abbrev b_Fit_change : ByteArray := prog_3_method_7_code
abbrev y_Fit_share : MethodName := ⟨"BoxGlue$Fit", "share", "(I)I"⟩
abbrev b_Fit_share : ByteArray := prog_3_method_8_code
abbrev y_Fit_over : MethodName := ⟨"BoxGlue$Fit", "over", "()I"⟩
abbrev b_Fit_over : ByteArray := prog_3_method_9_code
abbrev y_Placed_init : MethodName := ⟨"BoxGlue$Placed", "<init>", "(LBoxGlue$Item;II)V"⟩
abbrev b_Placed_init : ByteArray := prog_8_method_1_code
abbrev y_AL_clear : MethodName := ⟨"java/util/ArrayList", "clear", "()V"⟩
abbrev b_AL_clear : ByteArray := prog_20_method_40_code
abbrev y_BG_unpack : MethodName := ⟨"BoxGlue", "unpack", "(I)I"⟩
abbrev b_BG_unpack : ByteArray := prog_1_method_9_code
abbrev y_BG_told : MethodName := ⟨"BoxGlue", "told", "(II)I"⟩
abbrev b_BG_told : ByteArray := prog_1_method_10_code
abbrev y_Box_answer : MethodName := ⟨"BoxGlue$Box", "answer", "(I)I"⟩
abbrev b_Box_answer : ByteArray := prog_2_method_5_code
abbrev y_Fit_badness : MethodName := ⟨"BoxGlue$Fit", "badness", "()I"⟩
abbrev b_Fit_badness : ByteArray := prog_3_method_10_code
abbrev y_Math_abs : MethodName := ⟨"java/lang/Math", "abs", "(I)I"⟩
abbrev b_Math_abs : ByteArray := prog_16_method_59_code
abbrev y_Fit_cubed : MethodName := ⟨"BoxGlue$Fit", "cubed", "(J)I"⟩
abbrev b_Fit_cubed : ByteArray := prog_3_method_11_code
abbrev y_BG_item : MethodName := ⟨"BoxGlue", "item", "(III)I"⟩
abbrev b_BG_item : ByteArray := prog_1_method_11_code
abbrev y_Placed_answer : MethodName := ⟨"BoxGlue$Placed", "answer", "(ILBoxGlue$Box;)I"⟩
abbrev b_Placed_answer : ByteArray := prog_8_method_2_code
abbrev y_Glue_leadersDrawn : MethodName := ⟨"BoxGlue$Glue", "leadersDrawn", "(II)I"⟩
abbrev b_Glue_leadersDrawn : ByteArray := prog_4_method_4_code
abbrev y_Leaders_drawn : MethodName := ⟨"BoxGlue$Leaders", "drawn", "(II)I"⟩
abbrev b_Leaders_drawn : ByteArray := prog_7_method_2_code
abbrev y_Math_floorDiv : MethodName := ⟨"java/lang/Math", "floorDiv", "(II)I"⟩
abbrev b_Math_floorDiv : ByteArray := prog_16_method_47_code
abbrev y_Leaders_alignedFrom : MethodName := ⟨"BoxGlue$Leaders", "alignedFrom", "(I)I"⟩
abbrev b_Leaders_alignedFrom : ByteArray := prog_7_method_5_code
abbrev y_Item_leadersDrawn : MethodName := ⟨"BoxGlue$Item", "leadersDrawn", "(II)I"⟩
abbrev b_Item_leadersDrawn : ByteArray := prog_5_method_5_code
abbrev y_Glue_firstLeader : MethodName := ⟨"BoxGlue$Glue", "firstLeader", "(II)I"⟩
abbrev b_Glue_firstLeader : ByteArray := prog_4_method_5_code
abbrev y_Leaders_first : MethodName := ⟨"BoxGlue$Leaders", "first", "(II)I"⟩
abbrev b_Leaders_first : ByteArray := prog_7_method_3_code
abbrev y_Leaders_gap : MethodName := ⟨"BoxGlue$Leaders", "gap", "(I)I"⟩
abbrev b_Leaders_gap : ByteArray := prog_7_method_6_code
abbrev y_Item_firstLeader : MethodName := ⟨"BoxGlue$Item", "firstLeader", "(II)I"⟩
abbrev b_Item_firstLeader : ByteArray := prog_5_method_6_code
abbrev y_Glue_leaderStep : MethodName := ⟨"BoxGlue$Glue", "leaderStep", "(II)I"⟩
abbrev b_Glue_leaderStep : ByteArray := prog_4_method_6_code
abbrev y_Leaders_step : MethodName := ⟨"BoxGlue$Leaders", "step", "(II)I"⟩
abbrev b_Leaders_step : ByteArray := prog_7_method_4_code
abbrev y_Item_leaderStep : MethodName := ⟨"BoxGlue$Item", "leaderStep", "(II)I"⟩
abbrev b_Item_leaderStep : ByteArray := prog_5_method_7_code
abbrev y_BG_size : MethodName := ⟨"BoxGlue", "size", "()I"⟩
abbrev b_BG_size : ByteArray := prog_1_method_12_code
abbrev y_BG_natural : MethodName := ⟨"BoxGlue", "natural", "()J"⟩
abbrev b_BG_natural : ByteArray := prog_1_method_13_code
abbrev y_BG_drop : MethodName := ⟨"BoxGlue", "drop", "()I"⟩
abbrev b_BG_drop : ByteArray := prog_1_method_14_code
abbrev y_AL_remove : MethodName := ⟨"java/util/ArrayList", "remove", "(I)Ljava/lang/Object;"⟩
abbrev b_AL_remove : ByteArray := prog_20_method_29_code
abbrev y_AL_fastRemove : MethodName := ⟨"java/util/ArrayList", "fastRemove", "([Ljava/lang/Object;I)V"⟩
abbrev b_AL_fastRemove : ByteArray := prog_20_method_39_code
abbrev y_BG_boxes : MethodName := ⟨"BoxGlue", "boxes", "()I"⟩
abbrev b_BG_boxes : ByteArray := prog_1_method_15_code
abbrev y_Mod_init : MethodName := ⟨"BoxGlueModel", "<init>", "()V"⟩
abbrev b_Mod_init : ByteArray := prog_12_method_1_code
abbrev y_Mod_box : MethodName := ⟨"BoxGlueModel", "box", "(III)I"⟩
abbrev b_Mod_box : ByteArray := prog_12_method_5_code
abbrev y_Mod_isIn : MethodName := ⟨"BoxGlueModel", "isIn", "(III)Z"⟩
abbrev b_Mod_isIn : ByteArray := prog_12_method_3_code
abbrev y_Mod_put : MethodName := ⟨"BoxGlueModel", "put", "(II)I"⟩
abbrev b_Mod_put : ByteArray := prog_12_method_7_code
abbrev y_Mod_isBox : MethodName := ⟨"BoxGlueModel", "isBox", "(I)Z"⟩
abbrev b_Mod_isBox : ByteArray := prog_12_method_4_code
abbrev y_Mod_more : MethodName := ⟨"BoxGlueModel", "more", "(II)I"⟩
abbrev b_Mod_more : ByteArray := prog_12_method_6_code
abbrev y_Mod_glue : MethodName := ⟨"BoxGlueModel", "glue", "(IIIII)I"⟩
abbrev b_Mod_glue : ByteArray := prog_12_method_8_code
abbrev y_Mod_kern : MethodName := ⟨"BoxGlueModel", "kern", "(I)I"⟩
abbrev b_Mod_kern : ByteArray := prog_12_method_9_code
abbrev y_Mod_rule : MethodName := ⟨"BoxGlueModel", "rule", "(III)I"⟩
abbrev b_Mod_rule : ByteArray := prog_12_method_10_code
abbrev y_Mod_leaders : MethodName := ⟨"BoxGlueModel", "leaders", "(II)I"⟩
abbrev b_Mod_leaders : ByteArray := prog_12_method_11_code
abbrev y_Mod_natural : MethodName := ⟨"BoxGlueModel", "natural", "()J"⟩
abbrev b_Mod_natural : ByteArray := prog_12_method_13_code
abbrev y_Mod_lengthOf : MethodName := ⟨"BoxGlueModel", "lengthOf", "(I)I"⟩
abbrev b_Mod_lengthOf : ByteArray := prog_12_method_12_code
abbrev y_Mod_pack : MethodName := ⟨"BoxGlueModel", "pack", "(I)I"⟩
abbrev b_Mod_pack : ByteArray := prog_12_method_17_code
abbrev y_Mod_greatestOrder : MethodName := ⟨"BoxGlueModel", "greatestOrder", "(Z)I"⟩
abbrev b_Mod_greatestOrder : ByteArray := prog_12_method_16_code
abbrev y_Mod_sumOf : MethodName := ⟨"BoxGlueModel", "sumOf", "(ZII)J"⟩
abbrev b_Mod_sumOf : ByteArray := prog_12_method_14_code
abbrev y_Mod_badness : MethodName := ⟨"BoxGlueModel", "badness", "(JJ)I"⟩
abbrev b_Mod_badness : ByteArray := prog_12_method_15_code
abbrev y_Mod_heightOf : MethodName := ⟨"BoxGlueModel", "heightOf", "(II)I"⟩
abbrev b_Mod_heightOf : ByteArray := prog_12_method_21_code
abbrev y_Mod_depthOf : MethodName := ⟨"BoxGlueModel", "depthOf", "(II)I"⟩
abbrev b_Mod_depthOf : ByteArray := prog_12_method_22_code
abbrev y_Mod_copy : MethodName := ⟨"BoxGlueModel", "copy", "(II)V"⟩
abbrev b_Mod_copy : ByteArray := prog_12_method_18_code
abbrev y_Mod_unpack : MethodName := ⟨"BoxGlueModel", "unpack", "(I)I"⟩
abbrev b_Mod_unpack : ByteArray := prog_12_method_19_code
abbrev y_Mod_told : MethodName := ⟨"BoxGlueModel", "told", "(II)I"⟩
abbrev b_Mod_told : ByteArray := prog_12_method_20_code
abbrev y_Mod_item : MethodName := ⟨"BoxGlueModel", "item", "(III)I"⟩
abbrev b_Mod_item : ByteArray := prog_12_method_28_code
abbrev y_Mod_drawn : MethodName := ⟨"BoxGlueModel", "drawn", "(I)I"⟩
abbrev b_Mod_drawn : ByteArray := prog_12_method_24_code
abbrev y_Mod_leaderLength : MethodName := ⟨"BoxGlueModel", "leaderLength", "(I)I"⟩
abbrev b_Mod_leaderLength : ByteArray := prog_12_method_23_code
abbrev y_Mod_firstPlace : MethodName := ⟨"BoxGlueModel", "firstPlace", "(I)J"⟩
abbrev b_Mod_firstPlace : ByteArray := prog_12_method_25_code
abbrev y_Mod_firstOf : MethodName := ⟨"BoxGlueModel", "firstOf", "(I)J"⟩
abbrev b_Mod_firstOf : ByteArray := prog_12_method_26_code
abbrev y_Mod_stepOf : MethodName := ⟨"BoxGlueModel", "stepOf", "(I)J"⟩
abbrev b_Mod_stepOf : ByteArray := prog_12_method_27_code
abbrev y_Mod_size : MethodName := ⟨"BoxGlueModel", "size", "()I"⟩
abbrev b_Mod_size : ByteArray := prog_12_method_29_code
abbrev y_Mod_drop : MethodName := ⟨"BoxGlueModel", "drop", "()I"⟩
abbrev b_Mod_drop : ByteArray := prog_12_method_30_code
abbrev y_Mod_boxes : MethodName := ⟨"BoxGlueModel", "boxes", "()I"⟩
abbrev b_Mod_boxes : ByteArray := prog_12_method_31_code
def kT_BG : u_T := fun k => match k with
  | 0 => ("BoxGlue", "list", "Ljava/util/ArrayList;", true)
  | 1 => ("BoxGlue", "made", "Ljava/util/ArrayList;", true)
  | _ => ("BoxGlue", "inBoxes", "I", false)
def kt_BG : Nat → FieldType := fun k => match k with
  | 0 => .object "java/util/ArrayList"
  | 1 => .object "java/util/ArrayList"
  | _ => .int
theorem kn_BG : ∀ a, a < 3 → ∀ b, b < 3 → a ≠ b → (kT_BG a).2.1 ≠ (kT_BG b).2.1 := by decide +kernel
theorem ko_BG : ∀ k, k < 3 → parseFieldDescriptor (kT_BG k).2.2.1 = some (kt_BG k) := by decide +kernel
def kT_AL : u_T := fun k => match k with
  | 0 => ("java/util/ArrayList", "elementData", "[Ljava/lang/Object;", false)
  | 1 => ("java/util/ArrayList", "size", "I", false)
  | _ => ("java/util/AbstractList", "modCount", "I", false)
def kt_AL : Nat → FieldType := fun k => match k with
  | 0 => .array (.object "java/lang/Object")
  | 1 => .int
  | _ => .int
theorem kn_AL : ∀ a, a < 3 → ∀ b, b < 3 → a ≠ b → (kT_AL a).2.1 ≠ (kT_AL b).2.1 := by decide +kernel
theorem ko_AL : ∀ k, k < 3 → parseFieldDescriptor (kT_AL k).2.2.1 = some (kt_AL k) := by decide +kernel
def kT_Box : u_T := fun k => match k with
  | 0 => ("BoxGlue$Box", "length", "I", true)
  | 1 => ("BoxGlue$Box", "height", "I", true)
  | 2 => ("BoxGlue$Box", "depth", "I", true)
  | 3 => ("BoxGlue$Box", "contents", "Ljava/util/ArrayList;", true)
  | _ => ("BoxGlue$Box", "fit", "LBoxGlue$Fit;", true)
def kt_Box : Nat → FieldType := fun k => match k with
  | 0 => .int
  | 1 => .int
  | 2 => .int
  | 3 => .object "java/util/ArrayList"
  | _ => .object "BoxGlue$Fit"
theorem kn_Box : ∀ a, a < 5 → ∀ b, b < 5 → a ≠ b → (kT_Box a).2.1 ≠ (kT_Box b).2.1 := by decide +kernel
theorem ko_Box : ∀ k, k < 5 → parseFieldDescriptor (kT_Box k).2.2.1 = some (kt_Box k) := by decide +kernel
def kT_Fit : u_T := fun k => match k with
  | 0 => ("BoxGlue$Fit", "ownLength", "I", true)
  | 1 => ("BoxGlue$Fit", "order", "I", true)
  | 2 => ("BoxGlue$Fit", "missing", "I", true)
  | _ => ("BoxGlue$Fit", "sum", "I", true)
def kt_Fit : Nat → FieldType := fun k => match k with
  | 0 => .int
  | 1 => .int
  | 2 => .int
  | _ => .int
theorem kn_Fit : ∀ a, a < 4 → ∀ b, b < 4 → a ≠ b → (kT_Fit a).2.1 ≠ (kT_Fit b).2.1 := by decide +kernel
theorem ko_Fit : ∀ k, k < 4 → parseFieldDescriptor (kT_Fit k).2.2.1 = some (kt_Fit k) := by decide +kernel
def kT_Put : u_T := fun k => match k with
  | 0 => ("BoxGlue$Item", "sort", "I", true)
  | 1 => ("BoxGlue$Item", "ownLength", "I", true)
  | 2 => ("BoxGlue$Put", "height", "I", true)
  | _ => ("BoxGlue$Put", "depth", "I", true)
def kt_Put : Nat → FieldType := fun k => match k with
  | 0 => .int
  | 1 => .int
  | 2 => .int
  | _ => .int
theorem kn_Put : ∀ a, a < 4 → ∀ b, b < 4 → a ≠ b → (kT_Put a).2.1 ≠ (kT_Put b).2.1 := by decide +kernel
theorem ko_Put : ∀ k, k < 4 → parseFieldDescriptor (kT_Put k).2.2.1 = some (kt_Put k) := by decide +kernel
def kT_Glue : u_T := fun k => match k with
  | 0 => ("BoxGlue$Item", "sort", "I", true)
  | 1 => ("BoxGlue$Item", "ownLength", "I", true)
  | 2 => ("BoxGlue$Glue", "stretch", "I", true)
  | 3 => ("BoxGlue$Glue", "stretchOrder", "I", true)
  | 4 => ("BoxGlue$Glue", "shrink", "I", true)
  | 5 => ("BoxGlue$Glue", "shrinkOrder", "I", true)
  | _ => ("BoxGlue$Glue", "row", "LBoxGlue$Leaders;", true)
def kt_Glue : Nat → FieldType := fun k => match k with
  | 0 => .int
  | 1 => .int
  | 2 => .int
  | 3 => .int
  | 4 => .int
  | 5 => .int
  | _ => .object "BoxGlue$Leaders"
theorem kn_Glue : ∀ a, a < 7 → ∀ b, b < 7 → a ≠ b → (kT_Glue a).2.1 ≠ (kT_Glue b).2.1 := by decide +kernel
theorem ko_Glue : ∀ k, k < 7 → parseFieldDescriptor (kT_Glue k).2.2.1 = some (kt_Glue k) := by decide +kernel
def kT_Kern : u_T := fun k => match k with
  | 0 => ("BoxGlue$Item", "sort", "I", true)
  | _ => ("BoxGlue$Item", "ownLength", "I", true)
def kt_Kern : Nat → FieldType := fun k => match k with
  | 0 => .int
  | _ => .int
theorem kn_Kern : ∀ a, a < 2 → ∀ b, b < 2 → a ≠ b → (kT_Kern a).2.1 ≠ (kT_Kern b).2.1 := by decide +kernel
theorem ko_Kern : ∀ k, k < 2 → parseFieldDescriptor (kT_Kern k).2.2.1 = some (kt_Kern k) := by decide +kernel
def kT_Rule : u_T := fun k => match k with
  | 0 => ("BoxGlue$Item", "sort", "I", true)
  | 1 => ("BoxGlue$Item", "ownLength", "I", true)
  | 2 => ("BoxGlue$Rule", "height", "I", true)
  | _ => ("BoxGlue$Rule", "depth", "I", true)
def kt_Rule : Nat → FieldType := fun k => match k with
  | 0 => .int
  | 1 => .int
  | 2 => .int
  | _ => .int
theorem kn_Rule : ∀ a, a < 4 → ∀ b, b < 4 → a ≠ b → (kT_Rule a).2.1 ≠ (kT_Rule b).2.1 := by decide +kernel
theorem ko_Rule : ∀ k, k < 4 → parseFieldDescriptor (kT_Rule k).2.2.1 = some (kt_Rule k) := by decide +kernel
def kT_Leaders : u_T := fun k => match k with
  | 0 => ("BoxGlue$Leaders", "kind", "I", true)
  | _ => ("BoxGlue$Leaders", "boxLength", "I", true)
def kt_Leaders : Nat → FieldType := fun k => match k with
  | 0 => .int
  | _ => .int
theorem kn_Leaders : ∀ a, a < 2 → ∀ b, b < 2 → a ≠ b → (kT_Leaders a).2.1 ≠ (kT_Leaders b).2.1 := by decide +kernel
theorem ko_Leaders : ∀ k, k < 2 → parseFieldDescriptor (kT_Leaders k).2.2.1 = some (kt_Leaders k) := by decide +kernel
def kT_Placed : u_T := fun k => match k with
  | 0 => ("BoxGlue$Placed", "given", "LBoxGlue$Item;", true)
  | 1 => ("BoxGlue$Placed", "place", "I", true)
  | _ => ("BoxGlue$Placed", "length", "I", true)
def kt_Placed : Nat → FieldType := fun k => match k with
  | 0 => .object "BoxGlue$Item"
  | 1 => .int
  | _ => .int
theorem kn_Placed : ∀ a, a < 3 → ∀ b, b < 3 → a ≠ b → (kT_Placed a).2.1 ≠ (kT_Placed b).2.1 := by decide +kernel
theorem ko_Placed : ∀ k, k < 3 → parseFieldDescriptor (kT_Placed k).2.2.1 = some (kt_Placed k) := by decide +kernel
def kT_Mod : u_T := fun k => match k with
  | 0 => ("BoxGlueModel", "sort", "[I", true)
  | 1 => ("BoxGlueModel", "own", "[I", true)
  | 2 => ("BoxGlueModel", "high", "[I", true)
  | 3 => ("BoxGlueModel", "deep", "[I", true)
  | 4 => ("BoxGlueModel", "stretch", "[I", true)
  | 5 => ("BoxGlueModel", "order", "[I", true)
  | 6 => ("BoxGlueModel", "shrink", "[I", true)
  | 7 => ("BoxGlueModel", "order2", "[I", true)
  | 8 => ("BoxGlueModel", "kind", "[I", true)
  | 9 => ("BoxGlueModel", "leader", "[I", true)
  | 10 => ("BoxGlueModel", "came", "[J", true)
  | 11 => ("BoxGlueModel", "place", "[J", true)
  | 12 => ("BoxGlueModel", "size", "I", false)
  | 13 => ("BoxGlueModel", "used", "I", false)
  | 14 => ("BoxGlueModel", "boxes", "I", false)
  | 15 => ("BoxGlueModel", "length", "[I", true)
  | 16 => ("BoxGlueModel", "height", "[I", true)
  | 17 => ("BoxGlueModel", "depth", "[I", true)
  | 18 => ("BoxGlueModel", "from", "[I", true)
  | 19 => ("BoxGlueModel", "many", "[I", true)
  | 20 => ("BoxGlueModel", "bad", "[I", true)
  | 21 => ("BoxGlueModel", "over", "[I", true)
  | 22 => ("BoxGlueModel", "gave", "[I", true)
  | _ => ("BoxGlueModel", "plain", "[I", true)
def kt_Mod : Nat → FieldType := fun k => match k with
  | 0 => .array (.int)
  | 1 => .array (.int)
  | 2 => .array (.int)
  | 3 => .array (.int)
  | 4 => .array (.int)
  | 5 => .array (.int)
  | 6 => .array (.int)
  | 7 => .array (.int)
  | 8 => .array (.int)
  | 9 => .array (.int)
  | 10 => .array (.long)
  | 11 => .array (.long)
  | 12 => .int
  | 13 => .int
  | 14 => .int
  | 15 => .array (.int)
  | 16 => .array (.int)
  | 17 => .array (.int)
  | 18 => .array (.int)
  | 19 => .array (.int)
  | 20 => .array (.int)
  | 21 => .array (.int)
  | 22 => .array (.int)
  | _ => .array (.int)
theorem kn_Mod : ∀ a, a < 24 → ∀ b, b < 24 → a ≠ b → (kT_Mod a).2.1 ≠ (kT_Mod b).2.1 := by decide +kernel
theorem ko_Mod : ∀ k, k < 24 → parseFieldDescriptor (kT_Mod k).2.2.1 = some (kt_Mod k) := by decide +kernel
abbrev kcl : List vw_C := [("BoxGlue", kT_BG, 3), ("java/util/ArrayList", kT_AL, 3), ("BoxGlue$Box", kT_Box, 5), ("BoxGlue$Fit", kT_Fit, 4), ("BoxGlue$Put", kT_Put, 4), ("BoxGlue$Glue", kT_Glue, 7), ("BoxGlue$Kern", kT_Kern, 2), ("BoxGlue$Rule", kT_Rule, 4), ("BoxGlue$Leaders", kT_Leaders, 2), ("BoxGlue$Placed", kT_Placed, 3), ("BoxGlueModel", kT_Mod, 24)]
end
section
/-! words of the tables, each with its place -/
def kG : List Cond := lw_tbl.filter goodWord
theorem kG_in {w : Cond} (h : w ∈ kG) : w ∈ lw_tbl := (List.mem_filter.mp h).1
theorem kG_good : GoodIn kG kG := fun w h => ⟨h, good_of_word (List.mem_filter.mp h).2⟩
theorem kG_of {w : Cond} (h : w ∈ tables_1) (g : goodWord w = true) : w ∈ kG := List.mem_filter.mpr ⟨List.mem_append_right _ h, g⟩
theorem kG_sel {w : Cond} (h : w ∈ k2_sels lw_privs) (g : goodWord w = true) : w ∈ kG := List.mem_filter.mpr ⟨List.mem_append_left _ h, g⟩
theorem k1 {w : Cond} {i : Nat} (h : tables_1_1[i]? = some w) : w ∈ tables_1 := List.mem_append_left _ (List.mem_of_getElem? h)
theorem k2 {w : Cond} {i : Nat} (h : tables_1_2[i]? = some w) : w ∈ tables_1 := List.mem_append_right _ (List.mem_append_left _ (List.mem_of_getElem? h))
theorem k3 {w : Cond} {i : Nat} (h : tables_1_3[i]? = some w) : w ∈ tables_1 := List.mem_append_right _ (List.mem_append_right _ (List.mem_append_left _ (List.mem_of_getElem? h)))
theorem k4 {w : Cond} {i : Nat} (h : tables_1_4[i]? = some w) : w ∈ tables_1 := List.mem_append_right _ (List.mem_append_right _ (List.mem_append_right _ (List.mem_of_getElem? h)))
theorem kw_0 : (Jvm.Cond.initialized "BoxGlueLaw") ∈ kG := kG_of (k1 (i := 0) (by decide +kernel)) rfl
theorem kw_1 : (Jvm.Cond.initialized "BoxGlue") ∈ kG := kG_of (k1 (i := 1) (by decide +kernel)) rfl
theorem kw_2 : (Jvm.Cond.initialized "java/util/AbstractCollection") ∈ kG := kG_of (k1 (i := 2) (by decide +kernel)) rfl
theorem kw_3 : (Jvm.Cond.initialized "java/util/AbstractList") ∈ kG := kG_of (k1 (i := 3) (by decide +kernel)) rfl
theorem kw_4 : (Jvm.Cond.initialized "java/util/ArrayList") ∈ kG := kG_of (k1 (i := 4) (by decide +kernel)) rfl
theorem kw_5 : (Jvm.Cond.initialized "BoxGlueModel") ∈ kG := kG_of (k1 (i := 5) (by decide +kernel)) rfl
theorem kw_6 : (Jvm.Cond.initialized "BoxGlue$Box") ∈ kG := kG_of (k1 (i := 6) (by decide +kernel)) rfl
theorem kw_7 : (Jvm.Cond.initialized "BoxGlue$Fit") ∈ kG := kG_of (k1 (i := 7) (by decide +kernel)) rfl
theorem kw_8 : (Jvm.Cond.initialized "jdk/internal/util/ArraysSupport") ∈ kG := kG_of (k1 (i := 8) (by decide +kernel)) rfl
theorem kw_9 : (Jvm.Cond.initialized "java/lang/Math") ∈ kG := kG_of (k1 (i := 9) (by decide +kernel)) rfl
theorem kw_10 : (Jvm.Cond.initialized "java/util/Arrays") ∈ kG := kG_of (k1 (i := 10) (by decide +kernel)) rfl
theorem kw_11 : (Jvm.Cond.initialized "java/lang/System") ∈ kG := kG_of (k1 (i := 11) (by decide +kernel)) rfl
theorem kw_12 : (Jvm.Cond.initialized "BoxGlue$Item") ∈ kG := kG_of (k1 (i := 12) (by decide +kernel)) rfl
theorem kw_13 : (Jvm.Cond.initialized "BoxGlue$Put") ∈ kG := kG_of (k1 (i := 13) (by decide +kernel)) rfl
theorem kw_14 : (Jvm.Cond.initialized "java/util/Objects") ∈ kG := kG_of (k1 (i := 14) (by decide +kernel)) rfl
theorem kw_15 : (Jvm.Cond.initialized "jdk/internal/util/Preconditions") ∈ kG := kG_of (k1 (i := 15) (by decide +kernel)) rfl
theorem kw_16 : (Jvm.Cond.initialized "BoxGlue$Glue") ∈ kG := kG_of (k1 (i := 16) (by decide +kernel)) rfl
theorem kw_17 : (Jvm.Cond.initialized "BoxGlue$Leaders") ∈ kG := kG_of (k1 (i := 17) (by decide +kernel)) rfl
theorem kw_18 : (Jvm.Cond.initialized "BoxGlue$Kern") ∈ kG := kG_of (k1 (i := 18) (by decide +kernel)) rfl
theorem kw_19 : (Jvm.Cond.initialized "BoxGlue$Rule") ∈ kG := kG_of (k1 (i := 19) (by decide +kernel)) rfl
theorem kw_20 : (Jvm.Cond.initialized "BoxGlue$Placed") ∈ kG := kG_of (k1 (i := 20) (by decide +kernel)) rfl
theorem kw_21 : (Jvm.Cond.classLink "BoxGlueLaw" (7 : Nat) "BoxGlue") ∈ kG := kG_of (k1 (i := 21) (by decide +kernel)) rfl
theorem kw_22 : (Jvm.Cond.instantiable "BoxGlue" (3 : Nat)) ∈ kG := kG_of (k1 (i := 22) (by decide +kernel)) rfl
theorem kw_23 : (Jvm.Cond.methodLink "BoxGlueLaw" (9 : Nat) y_BG_init) ∈ kG := kG_of (k1 (i := 23) (by decide +kernel)) rfl
theorem kw_24 : (Jvm.Cond.instanceMethod y_BG_init) ∈ kG := kG_of (k1 (i := 24) (by decide +kernel)) rfl
theorem kw_25 : (Jvm.Cond.code y_BG_init prog_1_method_1_code (1 : Nat) (Option.none : Option Jvm.ClassFile.FieldType)) ∈ kG := kG_of (k1 (i := 25) rfl) rfl
theorem kw_26 : (Jvm.Cond.methodLink "BoxGlue" (1 : Nat) y_Obj_init) ∈ kG := kG_of (k1 (i := 26) (by decide +kernel)) rfl
theorem kw_27 : (Jvm.Cond.instanceMethod y_Obj_init) ∈ kG := kG_of (k1 (i := 27) (by decide +kernel)) rfl
theorem kw_28 : (Jvm.Cond.code y_Obj_init object_method_1_code (1 : Nat) (Option.none : Option Jvm.ClassFile.FieldType)) ∈ kG := kG_of (k1 (i := 28) rfl) rfl
theorem kw_29 : (Jvm.Cond.classLink "BoxGlue" (7 : Nat) "java/util/ArrayList") ∈ kG := kG_of (k1 (i := 29) (by decide +kernel)) rfl
theorem kw_30 : (Jvm.Cond.instantiable "java/util/ArrayList" (3 : Nat)) ∈ kG := kG_of (k1 (i := 30) (by decide +kernel)) rfl
theorem kw_31 : (Jvm.Cond.methodLink "BoxGlue" (9 : Nat) y_AL_init) ∈ kG := kG_of (k1 (i := 31) (by decide +kernel)) rfl
theorem kw_32 : (Jvm.Cond.instanceMethod y_AL_init) ∈ kG := kG_of (k1 (i := 32) (by decide +kernel)) rfl
theorem kw_33 : (Jvm.Cond.code y_AL_init prog_20_method_2_code (1 : Nat) (Option.none : Option Jvm.ClassFile.FieldType)) ∈ kG := kG_of (k1 (i := 33) rfl) rfl
theorem kw_34 : (Jvm.Cond.methodLink "java/util/ArrayList" (1 : Nat) y_AbL_init) ∈ kG := kG_of (k1 (i := 34) (by decide +kernel)) rfl
theorem kw_35 : (Jvm.Cond.instanceMethod y_AbL_init) ∈ kG := kG_of (k1 (i := 35) (by decide +kernel)) rfl
theorem kw_36 : (Jvm.Cond.code y_AbL_init prog_19_method_1_code (1 : Nat) (Option.none : Option Jvm.ClassFile.FieldType)) ∈ kG := kG_of (k1 (i := 36) rfl) rfl
theorem kw_37 : (Jvm.Cond.methodLink "java/util/AbstractList" (1 : Nat) y_AbC_init) ∈ kG := kG_of (k1 (i := 37) (by decide +kernel)) rfl
theorem kw_38 : (Jvm.Cond.instanceMethod y_AbC_init) ∈ kG := kG_of (k1 (i := 38) (by decide +kernel)) rfl
theorem kw_39 : (Jvm.Cond.code y_AbC_init prog_18_method_1_code (1 : Nat) (Option.none : Option Jvm.ClassFile.FieldType)) ∈ kG := kG_of (k1 (i := 39) rfl) rfl
theorem kw_40 : (Jvm.Cond.methodLink "java/util/AbstractCollection" (1 : Nat) y_Obj_init) ∈ kG := kG_of (k1 (i := 40) (by decide +kernel)) rfl
theorem kw_41 : (Jvm.Cond.fieldLink "java/util/ArrayList" (39 : Nat) "java/util/ArrayList" "DEFAULTCAPACITY_EMPTY_ELEMENTDATA" "[Ljava/lang/Object;") ∈ kG := kG_of (k1 (i := 41) (by decide +kernel)) rfl
theorem kw_42 : (Jvm.Cond.laysStatic "java/util/ArrayList" "DEFAULTCAPACITY_EMPTY_ELEMENTDATA" "[Ljava/lang/Object;") ∈ tables_1 := k1 (i := 42) (by decide +kernel)
theorem kw_43 : (Jvm.Cond.fieldLink "java/util/ArrayList" (9 : Nat) "java/util/ArrayList" "elementData" "[Ljava/lang/Object;") ∈ kG := kG_of (k1 (i := 43) (by decide +kernel)) rfl
theorem kw_44 : (Jvm.Cond.fieldLink "java/util/ArrayList" (48 : Nat) "java/util/ArrayList" "size" "I") ∈ kG := kG_of (k1 (i := 44) (by decide +kernel)) rfl
theorem kw_45 : (Jvm.Cond.fieldLink "java/util/AbstractList" (7 : Nat) "java/util/AbstractList" "modCount" "I") ∈ kG := kG_of (k1 (i := 45) (by decide +kernel)) rfl
theorem kw_46 : (Jvm.Cond.fieldLink "java/util/ArrayList" (63 : Nat) "java/util/ArrayList" "modCount" "I") ∈ kG := kG_of (k1 (i := 46) (by decide +kernel)) rfl
theorem kw_47 : (Jvm.Cond.sameField "java/util/ArrayList" "java/util/AbstractList" "modCount" "I") ∈ kG := kG_of (k1 (i := 47) (by decide +kernel)) rfl
theorem kw_48 : (Jvm.Cond.lays "java/util/ArrayList" "java/util/ArrayList" "elementData" "[Ljava/lang/Object;") ∈ kG := kG_of (k1 (i := 48) (by decide +kernel)) rfl
theorem kw_49 : (Jvm.Cond.soleField "java/util/ArrayList" "elementData") ∈ tables_1 := k1 (i := 49) (by decide +kernel)
theorem kw_50 : (Jvm.Cond.lays "java/util/ArrayList" "java/util/ArrayList" "size" "I") ∈ kG := kG_of (k1 (i := 50) (by decide +kernel)) rfl
theorem kw_51 : (Jvm.Cond.soleField "java/util/ArrayList" "size") ∈ tables_1 := k1 (i := 51) (by decide +kernel)
theorem kw_52 : (Jvm.Cond.lays "java/util/ArrayList" "java/util/AbstractList" "modCount" "I") ∈ kG := kG_of (k1 (i := 52) (by decide +kernel)) rfl
theorem kw_53 : (Jvm.Cond.soleField "java/util/AbstractList" "modCount") ∈ tables_1 := k1 (i := 53) (by decide +kernel)
theorem kw_54 : (Jvm.Cond.superclass "java/util/ArrayList" "java/util/AbstractList") ∈ tables_1 := k1 (i := 54) (by decide +kernel)
theorem kw_55 : (Jvm.Cond.fieldLink "BoxGlue" (10 : Nat) "BoxGlue" "list" "Ljava/util/ArrayList;") ∈ kG := kG_of (k1 (i := 55) (by decide +kernel)) rfl
theorem kw_56 : (Jvm.Cond.fieldLink "BoxGlue" (16 : Nat) "BoxGlue" "made" "Ljava/util/ArrayList;") ∈ kG := kG_of (k1 (i := 56) (by decide +kernel)) rfl
theorem kw_57 : (Jvm.Cond.fieldLink "BoxGlue" (19 : Nat) "BoxGlue" "inBoxes" "I") ∈ kG := kG_of (k1 (i := 57) (by decide +kernel)) rfl
theorem kw_58 : (Jvm.Cond.laysFinal "BoxGlue" "BoxGlue" "list" "Ljava/util/ArrayList;") ∈ kG := kG_of (k1 (i := 58) (by decide +kernel)) rfl
theorem kw_59 : (Jvm.Cond.soleField "BoxGlue" "list") ∈ tables_1 := k1 (i := 59) (by decide +kernel)
theorem kw_60 : (Jvm.Cond.laysFinal "BoxGlue" "BoxGlue" "made" "Ljava/util/ArrayList;") ∈ kG := kG_of (k1 (i := 60) (by decide +kernel)) rfl
theorem kw_61 : (Jvm.Cond.soleField "BoxGlue" "made") ∈ tables_1 := k1 (i := 61) (by decide +kernel)
theorem kw_62 : (Jvm.Cond.lays "BoxGlue" "BoxGlue" "inBoxes" "I") ∈ kG := kG_of (k1 (i := 62) (by decide +kernel)) rfl
theorem kw_63 : (Jvm.Cond.soleField "BoxGlue" "inBoxes") ∈ tables_1 := k1 (i := 63) (by decide +kernel)
theorem kw_64 : (Jvm.Cond.superclass "BoxGlue" "java/lang/Object") ∈ tables_1 := k1 (i := 64) (by decide +kernel)
theorem kw_65 : (Jvm.Cond.methodLink "BoxGlueLaw" (13 : Nat) y_BG_box) ∈ kG := kG_of (k1 (i := 65) (by decide +kernel)) rfl
theorem kw_66 : (Jvm.Cond.instanceMethod y_BG_box) ∈ kG := kG_of (k1 (i := 66) (by decide +kernel)) rfl
theorem kw_67 : (Jvm.Cond.selects "BoxGlue" y_BG_box y_BG_box) ∈ kG := kG_of (k1 (i := 67) (by decide +kernel)) rfl
theorem kw_68 : (Jvm.Cond.code y_BG_box prog_1_method_2_code (4 : Nat) (Option.some Jvm.ClassFile.FieldType.int)) ∈ kG := kG_of (k1 (i := 68) rfl) rfl
theorem kw_69 : (Jvm.Cond.methodLink "BoxGlue" (23 : Nat) y_BG_isExtent) ∈ kG := kG_of (k1 (i := 69) (by decide +kernel)) rfl
theorem kw_70 : (Jvm.Cond.static y_BG_isExtent) ∈ kG := kG_of (k1 (i := 70) (by decide +kernel)) rfl
theorem kw_71 : (Jvm.Cond.code y_BG_isExtent prog_1_method_19_code (1 : Nat) (Option.some Jvm.ClassFile.FieldType.boolean)) ∈ kG := kG_of (k1 (i := 71) rfl) rfl
theorem kw_72 : (Jvm.Cond.constant "BoxGlue" (142 : Nat) (100000 : Int32)) ∈ kG := kG_of (k1 (i := 72) (by decide +kernel)) rfl
theorem kw_73 : (Jvm.Cond.methodLink "BoxGlue" (27 : Nat) y_AL_size) ∈ kG := kG_of (k1 (i := 73) (by decide +kernel)) rfl
theorem kw_74 : (Jvm.Cond.instanceMethod y_AL_size) ∈ kG := kG_of (k1 (i := 74) (by decide +kernel)) rfl
theorem kw_75 : (Jvm.Cond.selects "java/util/ArrayList" y_AL_size y_AL_size) ∈ kG := kG_of (k1 (i := 75) (by decide +kernel)) rfl
theorem kw_76 : (Jvm.Cond.code y_AL_size prog_20_method_8_code (1 : Nat) (Option.some Jvm.ClassFile.FieldType.int)) ∈ kG := kG_of (k1 (i := 76) rfl) rfl
theorem kw_77 : (Jvm.Cond.methodLink "BoxGlue" (31 : Nat) y_Box_bare) ∈ kG := kG_of (k1 (i := 77) (by decide +kernel)) rfl
theorem kw_78 : (Jvm.Cond.static y_Box_bare) ∈ kG := kG_of (k1 (i := 78) (by decide +kernel)) rfl
theorem kw_79 : (Jvm.Cond.code y_Box_bare prog_2_method_2_code (3 : Nat) (Option.some (Jvm.ClassFile.FieldType.object "BoxGlue$Box"))) ∈ kG := kG_of (k1 (i := 79) rfl) rfl
theorem kw_80 : (Jvm.Cond.classLink "BoxGlue$Box" (10 : Nat) "BoxGlue$Box") ∈ kG := kG_of (k1 (i := 80) (by decide +kernel)) rfl
theorem kw_81 : (Jvm.Cond.instantiable "BoxGlue$Box" (5 : Nat)) ∈ kG := kG_of (k1 (i := 81) (by decide +kernel)) rfl
theorem kw_82 : (Jvm.Cond.classLink "BoxGlue$Box" (29 : Nat) "BoxGlue$Fit") ∈ kG := kG_of (k1 (i := 82) (by decide +kernel)) rfl
theorem kw_83 : (Jvm.Cond.instantiable "BoxGlue$Fit" (4 : Nat)) ∈ kG := kG_of (k1 (i := 83) (by decide +kernel)) rfl
theorem kw_84 : (Jvm.Cond.methodLink "BoxGlue$Box" (31 : Nat) y_Fit_init) ∈ kG := kG_of (k1 (i := 84) (by decide +kernel)) rfl
theorem kw_85 : (Jvm.Cond.instanceMethod y_Fit_init) ∈ kG := kG_of (k1 (i := 85) (by decide +kernel)) rfl
theorem kw_86 : (Jvm.Cond.code y_Fit_init prog_3_method_1_code (5 : Nat) (Option.none : Option Jvm.ClassFile.FieldType)) ∈ kG := kG_of (k1 (i := 86) rfl) rfl
theorem kw_87 : (Jvm.Cond.methodLink "BoxGlue$Fit" (3 : Nat) y_Obj_init) ∈ kG := kG_of (k1 (i := 87) (by decide +kernel)) rfl
theorem kw_88 : (Jvm.Cond.fieldLink "BoxGlue$Fit" (9 : Nat) "BoxGlue$Fit" "ownLength" "I") ∈ kG := kG_of (k1 (i := 88) (by decide +kernel)) rfl
theorem kw_89 : (Jvm.Cond.fieldLink "BoxGlue$Box" (99 : Nat) "BoxGlue$Fit" "ownLength" "I") ∈ kG := kG_of (k1 (i := 89) (by decide +kernel)) rfl
theorem kw_90 : (Jvm.Cond.fieldLink "BoxGlue$Fit" (18 : Nat) "BoxGlue$Fit" "order" "I") ∈ kG := kG_of (k1 (i := 90) (by decide +kernel)) rfl
theorem kw_91 : (Jvm.Cond.fieldLink "BoxGlue$Box" (96 : Nat) "BoxGlue$Fit" "order" "I") ∈ kG := kG_of (k1 (i := 91) (by decide +kernel)) rfl
theorem kw_92 : (Jvm.Cond.fieldLink "BoxGlue$Fit" (15 : Nat) "BoxGlue$Fit" "missing" "I") ∈ kG := kG_of (k1 (i := 92) (by decide +kernel)) rfl
theorem kw_93 : (Jvm.Cond.fieldLink "BoxGlue$Fit" (21 : Nat) "BoxGlue$Fit" "sum" "I") ∈ kG := kG_of (k1 (i := 93) (by decide +kernel)) rfl
theorem kw_94 : (Jvm.Cond.laysFinal "BoxGlue$Fit" "BoxGlue$Fit" "ownLength" "I") ∈ kG := kG_of (k1 (i := 94) (by decide +kernel)) rfl
theorem kw_95 : (Jvm.Cond.soleField "BoxGlue$Fit" "ownLength") ∈ tables_1 := k1 (i := 95) (by decide +kernel)
theorem kw_96 : (Jvm.Cond.laysFinal "BoxGlue$Fit" "BoxGlue$Fit" "order" "I") ∈ kG := kG_of (k1 (i := 96) (by decide +kernel)) rfl
theorem kw_97 : (Jvm.Cond.soleField "BoxGlue$Fit" "order") ∈ tables_1 := k1 (i := 97) (by decide +kernel)
theorem kw_98 : (Jvm.Cond.laysFinal "BoxGlue$Fit" "BoxGlue$Fit" "missing" "I") ∈ kG := kG_of (k1 (i := 98) (by decide +kernel)) rfl
theorem kw_99 : (Jvm.Cond.soleField "BoxGlue$Fit" "missing") ∈ tables_1 := k1 (i := 99) (by decide +kernel)
theorem kw_100 : (Jvm.Cond.laysFinal "BoxGlue$Fit" "BoxGlue$Fit" "sum" "I") ∈ kG := kG_of (k1 (i := 100) (by decide +kernel)) rfl
theorem kw_101 : (Jvm.Cond.soleField "BoxGlue$Fit" "sum") ∈ tables_1 := k1 (i := 101) (by decide +kernel)
theorem kw_102 : (Jvm.Cond.superclass "BoxGlue$Fit" "java/lang/Object") ∈ tables_1 := k1 (i := 102) (by decide +kernel)
theorem kw_103 : (Jvm.Cond.classLink "BoxGlue$Box" (34 : Nat) "java/util/ArrayList") ∈ kG := kG_of (k1 (i := 103) (by decide +kernel)) rfl
theorem kw_104 : (Jvm.Cond.methodLink "BoxGlue$Box" (36 : Nat) y_AL_init) ∈ kG := kG_of (k1 (i := 104) (by decide +kernel)) rfl
theorem kw_105 : (Jvm.Cond.methodLink "BoxGlue$Box" (37 : Nat) y_Box_init) ∈ kG := kG_of (k1 (i := 105) (by decide +kernel)) rfl
theorem kw_106 : (Jvm.Cond.instanceMethod y_Box_init) ∈ kG := kG_of (k1 (i := 106) (by decide +kernel)) rfl
theorem kw_107 : (Jvm.Cond.code y_Box_init prog_2_method_1_code (6 : Nat) (Option.none : Option Jvm.ClassFile.FieldType)) ∈ kG := kG_of (k1 (i := 107) rfl) rfl
theorem kw_108 : (Jvm.Cond.methodLink "BoxGlue$Box" (3 : Nat) y_Obj_init) ∈ kG := kG_of (k1 (i := 108) (by decide +kernel)) rfl
theorem kw_109 : (Jvm.Cond.fieldLink "BoxGlue$Put" (1 : Nat) "BoxGlue$Box" "length" "I") ∈ kG := kG_of (k1 (i := 109) (by decide +kernel)) rfl
theorem kw_110 : (Jvm.Cond.fieldLink "BoxGlue$Box" (9 : Nat) "BoxGlue$Box" "length" "I") ∈ kG := kG_of (k1 (i := 110) (by decide +kernel)) rfl
theorem kw_111 : (Jvm.Cond.fieldLink "BoxGlue" (91 : Nat) "BoxGlue$Box" "length" "I") ∈ kG := kG_of (k1 (i := 111) (by decide +kernel)) rfl
theorem kw_112 : (Jvm.Cond.fieldLink "BoxGlue$Box" (15 : Nat) "BoxGlue$Box" "height" "I") ∈ kG := kG_of (k1 (i := 112) (by decide +kernel)) rfl
theorem kw_113 : (Jvm.Cond.fieldLink "BoxGlue$Put" (13 : Nat) "BoxGlue$Box" "height" "I") ∈ kG := kG_of (k1 (i := 113) (by decide +kernel)) rfl
theorem kw_114 : (Jvm.Cond.fieldLink "BoxGlue$Placed" (37 : Nat) "BoxGlue$Box" "height" "I") ∈ kG := kG_of (k1 (i := 114) (by decide +kernel)) rfl
theorem kw_115 : (Jvm.Cond.fieldLink "BoxGlue$Box" (18 : Nat) "BoxGlue$Box" "depth" "I") ∈ kG := kG_of (k1 (i := 115) (by decide +kernel)) rfl
theorem kw_116 : (Jvm.Cond.fieldLink "BoxGlue$Put" (19 : Nat) "BoxGlue$Box" "depth" "I") ∈ kG := kG_of (k1 (i := 116) (by decide +kernel)) rfl
theorem kw_117 : (Jvm.Cond.fieldLink "BoxGlue$Placed" (46 : Nat) "BoxGlue$Box" "depth" "I") ∈ kG := kG_of (k1 (i := 117) (by decide +kernel)) rfl
theorem kw_118 : (Jvm.Cond.fieldLink "BoxGlue$Box" (25 : Nat) "BoxGlue$Box" "contents" "Ljava/util/ArrayList;") ∈ kG := kG_of (k1 (i := 118) (by decide +kernel)) rfl
theorem kw_119 : (Jvm.Cond.fieldLink "BoxGlue" (122 : Nat) "BoxGlue$Box" "contents" "Ljava/util/ArrayList;") ∈ kG := kG_of (k1 (i := 119) (by decide +kernel)) rfl
theorem kw_120 : (Jvm.Cond.fieldLink "BoxGlue$Box" (21 : Nat) "BoxGlue$Box" "fit" "LBoxGlue$Fit;") ∈ kG := kG_of (k1 (i := 120) (by decide +kernel)) rfl
theorem kw_121 : (Jvm.Cond.laysFinal "BoxGlue$Box" "BoxGlue$Box" "length" "I") ∈ kG := kG_of (k1 (i := 121) (by decide +kernel)) rfl
theorem kw_122 : (Jvm.Cond.soleField "BoxGlue$Box" "length") ∈ tables_1 := k1 (i := 122) (by decide +kernel)
theorem kw_123 : (Jvm.Cond.laysFinal "BoxGlue$Box" "BoxGlue$Box" "height" "I") ∈ kG := kG_of (k1 (i := 123) (by decide +kernel)) rfl
theorem kw_124 : (Jvm.Cond.soleField "BoxGlue$Box" "height") ∈ tables_1 := k1 (i := 124) (by decide +kernel)
theorem kw_125 : (Jvm.Cond.laysFinal "BoxGlue$Box" "BoxGlue$Box" "depth" "I") ∈ kG := kG_of (k1 (i := 125) (by decide +kernel)) rfl
theorem kw_126 : (Jvm.Cond.soleField "BoxGlue$Box" "depth") ∈ tables_1 := k1 (i := 126) (by decide +kernel)
theorem kw_127 : (Jvm.Cond.laysFinal "BoxGlue$Box" "BoxGlue$Box" "contents" "Ljava/util/ArrayList;") ∈ kG := kG_of (k1 (i := 127) (by decide +kernel)) rfl
theorem kw_128 : (Jvm.Cond.soleField "BoxGlue$Box" "contents") ∈ tables_1 := k1 (i := 128) (by decide +kernel)
theorem kw_129 : (Jvm.Cond.laysFinal "BoxGlue$Box" "BoxGlue$Box" "fit" "LBoxGlue$Fit;") ∈ kG := kG_of (k1 (i := 129) (by decide +kernel)) rfl
theorem kw_130 : (Jvm.Cond.soleField "BoxGlue$Box" "fit") ∈ tables_1 := k1 (i := 130) (by decide +kernel)
theorem kw_131 : (Jvm.Cond.superclass "BoxGlue$Box" "java/lang/Object") ∈ tables_1 := k1 (i := 131) (by decide +kernel)
theorem kw_132 : (Jvm.Cond.methodLink "BoxGlue" (37 : Nat) y_AL_add) ∈ kG := kG_of (k1 (i := 132) (by decide +kernel)) rfl
theorem kw_133 : (Jvm.Cond.instanceMethod y_AL_add) ∈ kG := kG_of (k1 (i := 133) (by decide +kernel)) rfl
theorem kw_134 : (Jvm.Cond.selects "java/util/ArrayList" y_AL_add y_AL_add) ∈ kG := kG_of (k1 (i := 134) (by decide +kernel)) rfl
theorem kw_135 : (Jvm.Cond.code y_AL_add prog_20_method_25_code (2 : Nat) (Option.some Jvm.ClassFile.FieldType.boolean)) ∈ kG := kG_of (k1 (i := 135) rfl) rfl
theorem kw_136 : (Jvm.Cond.methodLink "java/util/ArrayList" (131 : Nat) y_AL_add2) ∈ kG := kG_of (k1 (i := 136) (by decide +kernel)) rfl
theorem kw_137 : (Jvm.Cond.privateMethod y_AL_add2) ∈ tables_1 := k1 (i := 137) (by decide +kernel)
theorem kw_138 : (Jvm.Cond.instanceMethod y_AL_add2) ∈ kG := kG_of (k1 (i := 138) (by decide +kernel)) rfl
theorem kw_139 : (Jvm.Cond.code y_AL_add2 prog_20_method_24_code (4 : Nat) (Option.none : Option Jvm.ClassFile.FieldType)) ∈ kG := kG_of (k1 (i := 139) rfl) rfl
theorem kw_140 : (Jvm.Cond.methodLink "java/util/ArrayList" (129 : Nat) y_AL_grow) ∈ kG := kG_of (k1 (i := 140) (by decide +kernel)) rfl
theorem kw_141 : (Jvm.Cond.privateMethod y_AL_grow) ∈ tables_1 := k1 (i := 141) (by decide +kernel)
theorem kw_142 : (Jvm.Cond.instanceMethod y_AL_grow) ∈ kG := kG_of (k1 (i := 142) (by decide +kernel)) rfl
theorem kw_143 : (Jvm.Cond.code y_AL_grow prog_20_method_7_code (1 : Nat) (Option.some (Jvm.ClassFile.FieldType.array (Jvm.ClassFile.FieldType.object "java/lang/Object")))) ∈ kG := kG_of (k1 (i := 143) rfl) rfl
theorem kw_144 : (Jvm.Cond.methodLink "java/util/ArrayList" (69 : Nat) y_AL_grow2) ∈ kG := kG_of (k1 (i := 144) (by decide +kernel)) rfl
theorem kw_145 : (Jvm.Cond.privateMethod y_AL_grow2) ∈ tables_1 := k1 (i := 145) (by decide +kernel)
theorem kw_146 : (Jvm.Cond.instanceMethod y_AL_grow2) ∈ kG := kG_of (k1 (i := 146) (by decide +kernel)) rfl
theorem kw_147 : (Jvm.Cond.code y_AL_grow2 prog_20_method_6_code (4 : Nat) (Option.some (Jvm.ClassFile.FieldType.array (Jvm.ClassFile.FieldType.object "java/lang/Object")))) ∈ kG := kG_of (k1 (i := 147) rfl) rfl
theorem kw_148 : (Jvm.Cond.methodLink "java/util/ArrayList" (73 : Nat) y_ASup_newLength) ∈ kG := kG_of (k1 (i := 148) (by decide +kernel)) rfl
theorem kw_149 : (Jvm.Cond.static y_ASup_newLength) ∈ kG := kG_of (k1 (i := 149) (by decide +kernel)) rfl
theorem kw_150 : (Jvm.Cond.code y_ASup_newLength prog_27_method_27_code (4 : Nat) (Option.some Jvm.ClassFile.FieldType.int)) ∈ kG := kG_of (k1 (i := 150) rfl) rfl
theorem kw_151 : (Jvm.Cond.methodLink "jdk/internal/util/ArraysSupport" (194 : Nat) y_Math_max) ∈ kG := kG_of (k1 (i := 151) (by decide +kernel)) rfl
theorem kw_152 : (Jvm.Cond.static y_Math_max) ∈ kG := kG_of (k1 (i := 152) (by decide +kernel)) rfl
theorem kw_153 : (Jvm.Cond.code y_Math_max prog_16_method_65_code (2 : Nat) (Option.some Jvm.ClassFile.FieldType.int)) ∈ kG := kG_of (k1 (i := 153) rfl) rfl
theorem kw_154 : (Jvm.Cond.constant "jdk/internal/util/ArraysSupport" (200 : Nat) (2147483639 : Int32)) ∈ kG := kG_of (k1 (i := 154) (by decide +kernel)) rfl
theorem kw_155 : (Jvm.Cond.methodLink "jdk/internal/util/ArraysSupport" (201 : Nat) y_ASup_hugeLength) ∈ kG := kG_of (k1 (i := 155) (by decide +kernel)) rfl
theorem kw_156 : (Jvm.Cond.static y_ASup_hugeLength) ∈ kG := kG_of (k1 (i := 156) (by decide +kernel)) rfl
theorem kw_157 : (Jvm.Cond.code y_ASup_hugeLength prog_27_method_28_code (3 : Nat) (Option.some Jvm.ClassFile.FieldType.int)) ∈ kG := kG_of (k1 (i := 157) rfl) rfl
theorem kw_158 : (Jvm.Cond.methodLink "java/util/ArrayList" (66 : Nat) y_Arrs_copyOf) ∈ kG := kG_of (k1 (i := 158) (by decide +kernel)) rfl
theorem kw_159 : (Jvm.Cond.static y_Arrs_copyOf) ∈ kG := kG_of (k1 (i := 159) (by decide +kernel)) rfl
theorem kw_160 : (Jvm.Cond.code y_Arrs_copyOf prog_21_method_119_code (2 : Nat) (Option.some (Jvm.ClassFile.FieldType.array (Jvm.ClassFile.FieldType.object "java/lang/Object")))) ∈ kG := kG_of (k1 (i := 160) rfl) rfl
theorem kw_161 : (Jvm.Cond.methodLink "java/util/Arrays" (86 : Nat) ({ cls := "java/lang/Object", name := "getClass", desc := "()Ljava/lang/Class;" } : Jvm.MethodName)) ∈ kG := kG_of (k1 (i := 161) (by decide +kernel)) rfl
theorem kw_162 : (Jvm.Cond.instanceMethod ({ cls := "java/lang/Object", name := "getClass", desc := "()Ljava/lang/Class;" } : Jvm.MethodName)) ∈ kG := kG_of (k1 (i := 162) (by decide +kernel)) rfl
theorem kw_163 : (Jvm.Cond.sameMethod "java/lang/Object" "java/lang/Object" "getClass" "()Ljava/lang/Class;") ∈ kG := kG_of (k1 (i := 163) (by decide +kernel)) rfl
theorem kw_164 : (Jvm.Cond.selects "BoxGlue" ({ cls := "java/lang/Object", name := "getClass", desc := "()Ljava/lang/Class;" } : Jvm.MethodName) ({ cls := "java/lang/Object", name := "getClass", desc := "()Ljava/lang/Class;" } : Jvm.MethodName)) ∈ kG := kG_of (k1 (i := 164) (by decide +kernel)) rfl
theorem kw_165 : (Jvm.Cond.selects "BoxGlue$Box" ({ cls := "java/lang/Object", name := "getClass", desc := "()Ljava/lang/Class;" } : Jvm.MethodName) ({ cls := "java/lang/Object", name := "getClass", desc := "()Ljava/lang/Class;" } : Jvm.MethodName)) ∈ kG := kG_of (k1 (i := 165) (by decide +kernel)) rfl
theorem kw_166 : (Jvm.Cond.selects "BoxGlue$Fit" ({ cls := "java/lang/Object", name := "getClass", desc := "()Ljava/lang/Class;" } : Jvm.MethodName) ({ cls := "java/lang/Object", name := "getClass", desc := "()Ljava/lang/Class;" } : Jvm.MethodName)) ∈ kG := kG_of (k1 (i := 166) (by decide +kernel)) rfl
theorem kw_167 : (Jvm.Cond.selects "BoxGlue$Glue" ({ cls := "java/lang/Object", name := "getClass", desc := "()Ljava/lang/Class;" } : Jvm.MethodName) ({ cls := "java/lang/Object", name := "getClass", desc := "()Ljava/lang/Class;" } : Jvm.MethodName)) ∈ kG := kG_of (k1 (i := 167) (by decide +kernel)) rfl
theorem kw_168 : (Jvm.Cond.selects "BoxGlue$Kern" ({ cls := "java/lang/Object", name := "getClass", desc := "()Ljava/lang/Class;" } : Jvm.MethodName) ({ cls := "java/lang/Object", name := "getClass", desc := "()Ljava/lang/Class;" } : Jvm.MethodName)) ∈ kG := kG_of (k1 (i := 168) (by decide +kernel)) rfl
theorem kw_169 : (Jvm.Cond.selects "BoxGlue$Leaders" ({ cls := "java/lang/Object", name := "getClass", desc := "()Ljava/lang/Class;" } : Jvm.MethodName) ({ cls := "java/lang/Object", name := "getClass", desc := "()Ljava/lang/Class;" } : Jvm.MethodName)) ∈ kG := kG_of (k1 (i := 169) (by decide +kernel)) rfl
theorem kw_170 : (Jvm.Cond.selects "BoxGlue$Placed" ({ cls := "java/lang/Object", name := "getClass", desc := "()Ljava/lang/Class;" } : Jvm.MethodName) ({ cls := "java/lang/Object", name := "getClass", desc := "()Ljava/lang/Class;" } : Jvm.MethodName)) ∈ kG := kG_of (k1 (i := 170) (by decide +kernel)) rfl
theorem kw_171 : (Jvm.Cond.selects "BoxGlue$Put" ({ cls := "java/lang/Object", name := "getClass", desc := "()Ljava/lang/Class;" } : Jvm.MethodName) ({ cls := "java/lang/Object", name := "getClass", desc := "()Ljava/lang/Class;" } : Jvm.MethodName)) ∈ kG := kG_of (k1 (i := 171) (by decide +kernel)) rfl
theorem kw_172 : (Jvm.Cond.selects "BoxGlue$Rule" ({ cls := "java/lang/Object", name := "getClass", desc := "()Ljava/lang/Class;" } : Jvm.MethodName) ({ cls := "java/lang/Object", name := "getClass", desc := "()Ljava/lang/Class;" } : Jvm.MethodName)) ∈ kG := kG_of (k1 (i := 172) (by decide +kernel)) rfl
theorem kw_173 : (Jvm.Cond.selects "BoxGlueModel" ({ cls := "java/lang/Object", name := "getClass", desc := "()Ljava/lang/Class;" } : Jvm.MethodName) ({ cls := "java/lang/Object", name := "getClass", desc := "()Ljava/lang/Class;" } : Jvm.MethodName)) ∈ kG := kG_of (k1 (i := 173) (by decide +kernel)) rfl
theorem kw_174 : (Jvm.Cond.selects "java/util/ArrayList" ({ cls := "java/lang/Object", name := "getClass", desc := "()Ljava/lang/Class;" } : Jvm.MethodName) ({ cls := "java/lang/Object", name := "getClass", desc := "()Ljava/lang/Class;" } : Jvm.MethodName)) ∈ kG := kG_of (k1 (i := 174) (by decide +kernel)) rfl
theorem kw_175 : (Jvm.Cond.native ({ cls := "java/lang/Object", name := "getClass", desc := "()Ljava/lang/Class;" } : Jvm.MethodName)) ∈ kG := kG_of (k1 (i := 175) (by decide +kernel)) rfl
theorem kw_176 : (Jvm.Cond.methodLink "java/util/Arrays" (300 : Nat) y_Arrs_copyOf2) ∈ kG := kG_of (k1 (i := 176) (by decide +kernel)) rfl
theorem kw_177 : (Jvm.Cond.static y_Arrs_copyOf2) ∈ kG := kG_of (k1 (i := 177) (by decide +kernel)) rfl
theorem kw_178 : (Jvm.Cond.code y_Arrs_copyOf2 prog_21_method_120_code (4 : Nat) (Option.some (Jvm.ClassFile.FieldType.array (Jvm.ClassFile.FieldType.object "java/lang/Object")))) ∈ kG := kG_of (k1 (i := 178) rfl) rfl
theorem kw_179 : (Jvm.Cond.classLink "java/util/Arrays" (110 : Nat) "[Ljava/lang/Object;") ∈ kG := kG_of (k1 (i := 179) (by decide +kernel)) rfl
theorem kw_180 : (Jvm.Cond.arrayOver (Jvm.ClassFile.FieldType.object "java/lang/Object")) ∈ tables_1 := k1 (i := 180) (by decide +kernel)
theorem kw_181 : (Jvm.Cond.classLink "java/util/Arrays" (2 : Nat) "java/lang/Object") ∈ kG := kG_of (k1 (i := 181) (by decide +kernel)) rfl
theorem kw_182 : (Jvm.Cond.methodLink "java/util/Arrays" (304 : Nat) y_Math_min) ∈ kG := kG_of (k1 (i := 182) (by decide +kernel)) rfl
theorem kw_183 : (Jvm.Cond.static y_Math_min) ∈ kG := kG_of (k1 (i := 183) (by decide +kernel)) rfl
theorem kw_184 : (Jvm.Cond.code y_Math_min prog_16_method_69_code (2 : Nat) (Option.some Jvm.ClassFile.FieldType.int)) ∈ kG := kG_of (k1 (i := 184) rfl) rfl
theorem kw_185 : (Jvm.Cond.methodLink "java/util/Arrays" (150 : Nat) ({ cls := "java/lang/System", name := "arraycopy", desc := "(Ljava/lang/Object;ILjava/lang/Object;II)V" } : Jvm.MethodName)) ∈ kG := kG_of (k1 (i := 185) (by decide +kernel)) rfl
theorem kw_186 : (Jvm.Cond.static ({ cls := "java/lang/System", name := "arraycopy", desc := "(Ljava/lang/Object;ILjava/lang/Object;II)V" } : Jvm.MethodName)) ∈ kG := kG_of (k1 (i := 186) (by decide +kernel)) rfl
theorem kw_187 : (Jvm.Cond.native ({ cls := "java/lang/System", name := "arraycopy", desc := "(Ljava/lang/Object;ILjava/lang/Object;II)V" } : Jvm.MethodName)) ∈ kG := kG_of (k1 (i := 187) (by decide +kernel)) rfl
theorem kw_188 : (Jvm.Cond.methodLink "java/util/ArrayList" (79 : Nat) y_Math_max) ∈ kG := kG_of (k1 (i := 188) (by decide +kernel)) rfl
theorem kw_189 : (Jvm.Cond.classLink "java/util/ArrayList" (7 : Nat) "java/lang/Object") ∈ kG := kG_of (k1 (i := 189) (by decide +kernel)) rfl
theorem kw_190 : (Jvm.Cond.methodLink "BoxGlueLaw" (18 : Nat) y_BG_put) ∈ kG := kG_of (k1 (i := 190) (by decide +kernel)) rfl
theorem kw_191 : (Jvm.Cond.instanceMethod y_BG_put) ∈ kG := kG_of (k1 (i := 191) (by decide +kernel)) rfl
theorem kw_192 : (Jvm.Cond.selects "BoxGlue" y_BG_put y_BG_put) ∈ kG := kG_of (k1 (i := 192) (by decide +kernel)) rfl
theorem kw_193 : (Jvm.Cond.code y_BG_put prog_1_method_3_code (3 : Nat) (Option.some Jvm.ClassFile.FieldType.int)) ∈ kG := kG_of (k1 (i := 193) rfl) rfl
theorem kw_194 : (Jvm.Cond.methodLink "BoxGlue" (41 : Nat) y_BG_isBox) ∈ kG := kG_of (k1 (i := 194) (by decide +kernel)) rfl
theorem kw_195 : (Jvm.Cond.privateMethod y_BG_isBox) ∈ tables_1 := k1 (i := 195) (by decide +kernel)
theorem kw_196 : (Jvm.Cond.instanceMethod y_BG_isBox) ∈ kG := kG_of (k1 (i := 196) (by decide +kernel)) rfl
theorem kw_197 : (Jvm.Cond.code y_BG_isBox prog_1_method_17_code (2 : Nat) (Option.some Jvm.ClassFile.FieldType.boolean)) ∈ kG := kG_of (k1 (i := 197) rfl) rfl
theorem kw_198 : (Jvm.Cond.methodLink "BoxGlue" (44 : Nat) y_BG_isLength) ∈ kG := kG_of (k1 (i := 198) (by decide +kernel)) rfl
theorem kw_199 : (Jvm.Cond.static y_BG_isLength) ∈ kG := kG_of (k1 (i := 199) (by decide +kernel)) rfl
theorem kw_200 : (Jvm.Cond.code y_BG_isLength prog_1_method_18_code (1 : Nat) (Option.some Jvm.ClassFile.FieldType.boolean)) ∈ kG := kG_of (k1 (i := 200) rfl) rfl
theorem kw_201 : (Jvm.Cond.constant "BoxGlue" (141 : Nat) (-100000 : Int32)) ∈ kG := kG_of (k1 (i := 201) (by decide +kernel)) rfl
theorem kw_202 : (Jvm.Cond.classLink "BoxGlue" (47 : Nat) "BoxGlue$Put") ∈ kG := kG_of (k1 (i := 202) (by decide +kernel)) rfl
theorem kw_203 : (Jvm.Cond.instantiable "BoxGlue$Put" (4 : Nat)) ∈ kG := kG_of (k1 (i := 203) (by decide +kernel)) rfl
theorem kw_204 : (Jvm.Cond.methodLink "BoxGlue" (49 : Nat) y_AL_get) ∈ kG := kG_of (k1 (i := 204) (by decide +kernel)) rfl
theorem kw_205 : (Jvm.Cond.instanceMethod y_AL_get) ∈ kG := kG_of (k1 (i := 205) (by decide +kernel)) rfl
theorem kw_206 : (Jvm.Cond.selects "java/util/ArrayList" y_AL_get y_AL_get) ∈ kG := kG_of (k1 (i := 206) (by decide +kernel)) rfl
theorem kw_207 : (Jvm.Cond.code y_AL_get prog_20_method_20_code (2 : Nat) (Option.some (Jvm.ClassFile.FieldType.object "java/lang/Object"))) ∈ kG := kG_of (k1 (i := 207) rfl) rfl
theorem kw_208 : (Jvm.Cond.methodLink "java/util/ArrayList" (118 : Nat) y_Objs_checkIndex) ∈ kG := kG_of (k1 (i := 208) (by decide +kernel)) rfl
theorem kw_209 : (Jvm.Cond.static y_Objs_checkIndex) ∈ kG := kG_of (k1 (i := 209) (by decide +kernel)) rfl
theorem kw_210 : (Jvm.Cond.code y_Objs_checkIndex prog_24_method_17_code (2 : Nat) (Option.some Jvm.ClassFile.FieldType.int)) ∈ kG := kG_of (k1 (i := 210) rfl) rfl
theorem kw_211 : (Jvm.Cond.methodLink "java/util/Objects" (105 : Nat) y_Pre_checkIndex) ∈ kG := kG_of (k1 (i := 211) (by decide +kernel)) rfl
theorem kw_212 : (Jvm.Cond.static y_Pre_checkIndex) ∈ kG := kG_of (k1 (i := 212) (by decide +kernel)) rfl
theorem kw_213 : (Jvm.Cond.code y_Pre_checkIndex prog_28_method_11_code (3 : Nat) (Option.some Jvm.ClassFile.FieldType.int)) ∈ kG := kG_of (k1 (i := 213) rfl) rfl
theorem kw_214 : (Jvm.Cond.methodLink "java/util/ArrayList" (123 : Nat) y_AL_elementData) ∈ kG := kG_of (k1 (i := 214) (by decide +kernel)) rfl
theorem kw_215 : (Jvm.Cond.instanceMethod y_AL_elementData) ∈ kG := kG_of (k1 (i := 215) (by decide +kernel)) rfl
theorem kw_216 : (Jvm.Cond.selects "java/util/ArrayList" y_AL_elementData y_AL_elementData) ∈ kG := kG_of (k1 (i := 216) (by decide +kernel)) rfl
theorem kw_217 : (Jvm.Cond.code y_AL_elementData prog_20_method_18_code (2 : Nat) (Option.some (Jvm.ClassFile.FieldType.object "java/lang/Object"))) ∈ kG := kG_of (k1 (i := 217) rfl) rfl
theorem kw_218 : (Jvm.Cond.classLink "BoxGlue" (32 : Nat) "BoxGlue$Box") ∈ kG := kG_of (k1 (i := 218) (by decide +kernel)) rfl
theorem kw_219 : (Jvm.Cond.methodLink "BoxGlue" (53 : Nat) y_Put_init) ∈ kG := kG_of (k1 (i := 219) (by decide +kernel)) rfl
theorem kw_220 : (Jvm.Cond.instanceMethod y_Put_init) ∈ kG := kG_of (k1 (i := 220) (by decide +kernel)) rfl
theorem kw_221 : (Jvm.Cond.code y_Put_init prog_9_method_1_code (3 : Nat) (Option.none : Option Jvm.ClassFile.FieldType)) ∈ kG := kG_of (k1 (i := 221) rfl) rfl
theorem kw_222 : (Jvm.Cond.methodLink "BoxGlue$Put" (7 : Nat) y_Item_init) ∈ kG := kG_of (k1 (i := 222) (by decide +kernel)) rfl
theorem kw_223 : (Jvm.Cond.instanceMethod y_Item_init) ∈ kG := kG_of (k1 (i := 223) (by decide +kernel)) rfl
theorem kw_224 : (Jvm.Cond.code y_Item_init prog_5_method_1_code (3 : Nat) (Option.none : Option Jvm.ClassFile.FieldType)) ∈ kG := kG_of (k1 (i := 224) rfl) rfl
theorem kw_225 : (Jvm.Cond.methodLink "BoxGlue$Item" (1 : Nat) y_Obj_init) ∈ kG := kG_of (k1 (i := 225) (by decide +kernel)) rfl
theorem kw_226 : (Jvm.Cond.fieldLink "BoxGlue$Put" (16 : Nat) "BoxGlue$Put" "height" "I") ∈ kG := kG_of (k1 (i := 226) (by decide +kernel)) rfl
theorem kw_227 : (Jvm.Cond.fieldLink "BoxGlue$Put" (22 : Nat) "BoxGlue$Put" "depth" "I") ∈ kG := kG_of (k1 (i := 227) (by decide +kernel)) rfl
theorem kw_228 : (Jvm.Cond.fieldLink "BoxGlue$Item" (7 : Nat) "BoxGlue$Item" "sort" "I") ∈ kG := kG_of (k1 (i := 228) (by decide +kernel)) rfl
theorem kw_229 : (Jvm.Cond.fieldLink "BoxGlue$Placed" (22 : Nat) "BoxGlue$Item" "sort" "I") ∈ kG := kG_of (k1 (i := 229) (by decide +kernel)) rfl
theorem kw_230 : (Jvm.Cond.fieldLink "BoxGlue$Item" (13 : Nat) "BoxGlue$Item" "ownLength" "I") ∈ kG := kG_of (k1 (i := 230) (by decide +kernel)) rfl
theorem kw_231 : (Jvm.Cond.fieldLink "BoxGlue$Glue" (26 : Nat) "BoxGlue$Glue" "ownLength" "I") ∈ kG := kG_of (k1 (i := 231) (by decide +kernel)) rfl
theorem kw_232 : (Jvm.Cond.sameField "BoxGlue$Glue" "BoxGlue$Item" "ownLength" "I") ∈ kG := kG_of (k1 (i := 232) (by decide +kernel)) rfl
theorem kw_233 : (Jvm.Cond.fieldLink "BoxGlue$Fit" (51 : Nat) "BoxGlue$Item" "ownLength" "I") ∈ kG := kG_of (k1 (i := 233) (by decide +kernel)) rfl
theorem kw_234 : (Jvm.Cond.fieldLink "BoxGlue$Box" (75 : Nat) "BoxGlue$Item" "ownLength" "I") ∈ kG := kG_of (k1 (i := 234) (by decide +kernel)) rfl
theorem kw_235 : (Jvm.Cond.laysFinal "BoxGlue$Put" "BoxGlue$Put" "height" "I") ∈ kG := kG_of (k1 (i := 235) (by decide +kernel)) rfl
theorem kw_236 : (Jvm.Cond.soleField "BoxGlue$Put" "height") ∈ tables_1 := k1 (i := 236) (by decide +kernel)
theorem kw_237 : (Jvm.Cond.laysFinal "BoxGlue$Put" "BoxGlue$Put" "depth" "I") ∈ kG := kG_of (k1 (i := 237) (by decide +kernel)) rfl
theorem kw_238 : (Jvm.Cond.soleField "BoxGlue$Put" "depth") ∈ tables_1 := k1 (i := 238) (by decide +kernel)
theorem kw_239 : (Jvm.Cond.laysFinal "BoxGlue$Put" "BoxGlue$Item" "sort" "I") ∈ kG := kG_of (k1 (i := 239) (by decide +kernel)) rfl
theorem kw_240 : (Jvm.Cond.soleField "BoxGlue$Item" "sort") ∈ tables_1 := k2 (i := 0) (by decide +kernel)
theorem kw_241 : (Jvm.Cond.laysFinal "BoxGlue$Put" "BoxGlue$Item" "ownLength" "I") ∈ kG := kG_of (k2 (i := 1) (by decide +kernel)) rfl
theorem kw_242 : (Jvm.Cond.soleField "BoxGlue$Item" "ownLength") ∈ tables_1 := k2 (i := 2) (by decide +kernel)
theorem kw_243 : (Jvm.Cond.superclass "BoxGlue$Put" "BoxGlue$Item") ∈ tables_1 := k2 (i := 3) (by decide +kernel)
theorem kw_244 : (Jvm.Cond.methodLink "BoxGlue" (56 : Nat) y_BG_append) ∈ kG := kG_of (k2 (i := 4) (by decide +kernel)) rfl
theorem kw_245 : (Jvm.Cond.privateMethod y_BG_append) ∈ tables_1 := k2 (i := 5) (by decide +kernel)
theorem kw_246 : (Jvm.Cond.instanceMethod y_BG_append) ∈ kG := kG_of (k2 (i := 6) (by decide +kernel)) rfl
theorem kw_247 : (Jvm.Cond.code y_BG_append prog_1_method_16_code (2 : Nat) (Option.some Jvm.ClassFile.FieldType.int)) ∈ kG := kG_of (k2 (i := 7) rfl) rfl
theorem kw_248 : (Jvm.Cond.methodLink "BoxGlueLaw" (23 : Nat) y_BG_glue) ∈ kG := kG_of (k2 (i := 8) (by decide +kernel)) rfl
theorem kw_249 : (Jvm.Cond.instanceMethod y_BG_glue) ∈ kG := kG_of (k2 (i := 9) (by decide +kernel)) rfl
theorem kw_250 : (Jvm.Cond.selects "BoxGlue" y_BG_glue y_BG_glue) ∈ kG := kG_of (k2 (i := 10) (by decide +kernel)) rfl
theorem kw_251 : (Jvm.Cond.code y_BG_glue prog_1_method_4_code (6 : Nat) (Option.some Jvm.ClassFile.FieldType.int)) ∈ kG := kG_of (k2 (i := 11) rfl) rfl
theorem kw_252 : (Jvm.Cond.methodLink "BoxGlue" (60 : Nat) y_BG_isGiving) ∈ kG := kG_of (k2 (i := 12) (by decide +kernel)) rfl
theorem kw_253 : (Jvm.Cond.static y_BG_isGiving) ∈ kG := kG_of (k2 (i := 13) (by decide +kernel)) rfl
theorem kw_254 : (Jvm.Cond.code y_BG_isGiving prog_1_method_21_code (2 : Nat) (Option.some Jvm.ClassFile.FieldType.boolean)) ∈ kG := kG_of (k2 (i := 14) rfl) rfl
theorem kw_255 : (Jvm.Cond.classLink "BoxGlue" (64 : Nat) "BoxGlue$Glue") ∈ kG := kG_of (k2 (i := 15) (by decide +kernel)) rfl
theorem kw_256 : (Jvm.Cond.instantiable "BoxGlue$Glue" (7 : Nat)) ∈ kG := kG_of (k2 (i := 16) (by decide +kernel)) rfl
theorem kw_257 : (Jvm.Cond.classLink "BoxGlue" (66 : Nat) "BoxGlue$Leaders") ∈ kG := kG_of (k2 (i := 17) (by decide +kernel)) rfl
theorem kw_258 : (Jvm.Cond.instantiable "BoxGlue$Leaders" (2 : Nat)) ∈ kG := kG_of (k2 (i := 18) (by decide +kernel)) rfl
theorem kw_259 : (Jvm.Cond.methodLink "BoxGlue" (68 : Nat) y_Leaders_init) ∈ kG := kG_of (k2 (i := 19) (by decide +kernel)) rfl
theorem kw_260 : (Jvm.Cond.instanceMethod y_Leaders_init) ∈ kG := kG_of (k2 (i := 20) (by decide +kernel)) rfl
theorem kw_261 : (Jvm.Cond.code y_Leaders_init prog_7_method_1_code (3 : Nat) (Option.none : Option Jvm.ClassFile.FieldType)) ∈ kG := kG_of (k2 (i := 21) rfl) rfl
theorem kw_262 : (Jvm.Cond.methodLink "BoxGlue$Leaders" (1 : Nat) y_Obj_init) ∈ kG := kG_of (k2 (i := 22) (by decide +kernel)) rfl
theorem kw_263 : (Jvm.Cond.fieldLink "BoxGlue$Leaders" (7 : Nat) "BoxGlue$Leaders" "kind" "I") ∈ kG := kG_of (k2 (i := 23) (by decide +kernel)) rfl
theorem kw_264 : (Jvm.Cond.fieldLink "BoxGlue$Leaders" (13 : Nat) "BoxGlue$Leaders" "boxLength" "I") ∈ kG := kG_of (k2 (i := 24) (by decide +kernel)) rfl
theorem kw_265 : (Jvm.Cond.laysFinal "BoxGlue$Leaders" "BoxGlue$Leaders" "kind" "I") ∈ kG := kG_of (k2 (i := 25) (by decide +kernel)) rfl
theorem kw_266 : (Jvm.Cond.soleField "BoxGlue$Leaders" "kind") ∈ tables_1 := k2 (i := 26) (by decide +kernel)
theorem kw_267 : (Jvm.Cond.laysFinal "BoxGlue$Leaders" "BoxGlue$Leaders" "boxLength" "I") ∈ kG := kG_of (k2 (i := 27) (by decide +kernel)) rfl
theorem kw_268 : (Jvm.Cond.soleField "BoxGlue$Leaders" "boxLength") ∈ tables_1 := k2 (i := 28) (by decide +kernel)
theorem kw_269 : (Jvm.Cond.superclass "BoxGlue$Leaders" "java/lang/Object") ∈ tables_1 := k2 (i := 29) (by decide +kernel)
theorem kw_270 : (Jvm.Cond.methodLink "BoxGlue" (71 : Nat) y_Glue_init) ∈ kG := kG_of (k2 (i := 30) (by decide +kernel)) rfl
theorem kw_271 : (Jvm.Cond.instanceMethod y_Glue_init) ∈ kG := kG_of (k2 (i := 31) (by decide +kernel)) rfl
theorem kw_272 : (Jvm.Cond.code y_Glue_init prog_4_method_1_code (7 : Nat) (Option.none : Option Jvm.ClassFile.FieldType)) ∈ kG := kG_of (k2 (i := 32) rfl) rfl
theorem kw_273 : (Jvm.Cond.methodLink "BoxGlue$Glue" (1 : Nat) y_Item_init) ∈ kG := kG_of (k2 (i := 33) (by decide +kernel)) rfl
theorem kw_274 : (Jvm.Cond.fieldLink "BoxGlue$Glue" (7 : Nat) "BoxGlue$Glue" "stretch" "I") ∈ kG := kG_of (k2 (i := 34) (by decide +kernel)) rfl
theorem kw_275 : (Jvm.Cond.fieldLink "BoxGlue$Glue" (13 : Nat) "BoxGlue$Glue" "stretchOrder" "I") ∈ kG := kG_of (k2 (i := 35) (by decide +kernel)) rfl
theorem kw_276 : (Jvm.Cond.fieldLink "BoxGlue$Glue" (16 : Nat) "BoxGlue$Glue" "shrink" "I") ∈ kG := kG_of (k2 (i := 36) (by decide +kernel)) rfl
theorem kw_277 : (Jvm.Cond.fieldLink "BoxGlue$Glue" (19 : Nat) "BoxGlue$Glue" "shrinkOrder" "I") ∈ kG := kG_of (k2 (i := 37) (by decide +kernel)) rfl
theorem kw_278 : (Jvm.Cond.fieldLink "BoxGlue$Glue" (22 : Nat) "BoxGlue$Glue" "row" "LBoxGlue$Leaders;") ∈ kG := kG_of (k2 (i := 38) (by decide +kernel)) rfl
theorem kw_279 : (Jvm.Cond.laysFinal "BoxGlue$Glue" "BoxGlue$Glue" "stretch" "I") ∈ kG := kG_of (k2 (i := 39) (by decide +kernel)) rfl
theorem kw_280 : (Jvm.Cond.soleField "BoxGlue$Glue" "stretch") ∈ tables_1 := k2 (i := 40) (by decide +kernel)
theorem kw_281 : (Jvm.Cond.laysFinal "BoxGlue$Glue" "BoxGlue$Glue" "stretchOrder" "I") ∈ kG := kG_of (k2 (i := 41) (by decide +kernel)) rfl
theorem kw_282 : (Jvm.Cond.soleField "BoxGlue$Glue" "stretchOrder") ∈ tables_1 := k2 (i := 42) (by decide +kernel)
theorem kw_283 : (Jvm.Cond.laysFinal "BoxGlue$Glue" "BoxGlue$Glue" "shrink" "I") ∈ kG := kG_of (k2 (i := 43) (by decide +kernel)) rfl
theorem kw_284 : (Jvm.Cond.soleField "BoxGlue$Glue" "shrink") ∈ tables_1 := k2 (i := 44) (by decide +kernel)
theorem kw_285 : (Jvm.Cond.laysFinal "BoxGlue$Glue" "BoxGlue$Glue" "shrinkOrder" "I") ∈ kG := kG_of (k2 (i := 45) (by decide +kernel)) rfl
theorem kw_286 : (Jvm.Cond.soleField "BoxGlue$Glue" "shrinkOrder") ∈ tables_1 := k2 (i := 46) (by decide +kernel)
theorem kw_287 : (Jvm.Cond.laysFinal "BoxGlue$Glue" "BoxGlue$Glue" "row" "LBoxGlue$Leaders;") ∈ kG := kG_of (k2 (i := 47) (by decide +kernel)) rfl
theorem kw_288 : (Jvm.Cond.soleField "BoxGlue$Glue" "row") ∈ tables_1 := k2 (i := 48) (by decide +kernel)
theorem kw_289 : (Jvm.Cond.laysFinal "BoxGlue$Glue" "BoxGlue$Item" "sort" "I") ∈ kG := kG_of (k2 (i := 49) (by decide +kernel)) rfl
theorem kw_290 : (Jvm.Cond.laysFinal "BoxGlue$Glue" "BoxGlue$Item" "ownLength" "I") ∈ kG := kG_of (k2 (i := 50) (by decide +kernel)) rfl
theorem kw_291 : (Jvm.Cond.superclass "BoxGlue$Glue" "BoxGlue$Item") ∈ tables_1 := k2 (i := 51) (by decide +kernel)
theorem kw_292 : (Jvm.Cond.methodLink "BoxGlueLaw" (28 : Nat) y_BG_kern) ∈ kG := kG_of (k2 (i := 52) (by decide +kernel)) rfl
theorem kw_293 : (Jvm.Cond.instanceMethod y_BG_kern) ∈ kG := kG_of (k2 (i := 53) (by decide +kernel)) rfl
theorem kw_294 : (Jvm.Cond.selects "BoxGlue" y_BG_kern y_BG_kern) ∈ kG := kG_of (k2 (i := 54) (by decide +kernel)) rfl
theorem kw_295 : (Jvm.Cond.code y_BG_kern prog_1_method_5_code (2 : Nat) (Option.some Jvm.ClassFile.FieldType.int)) ∈ kG := kG_of (k2 (i := 55) rfl) rfl
theorem kw_296 : (Jvm.Cond.classLink "BoxGlue" (74 : Nat) "BoxGlue$Kern") ∈ kG := kG_of (k2 (i := 56) (by decide +kernel)) rfl
theorem kw_297 : (Jvm.Cond.instantiable "BoxGlue$Kern" (2 : Nat)) ∈ kG := kG_of (k2 (i := 57) (by decide +kernel)) rfl
theorem kw_298 : (Jvm.Cond.methodLink "BoxGlue" (76 : Nat) y_Kern_init) ∈ kG := kG_of (k2 (i := 58) (by decide +kernel)) rfl
theorem kw_299 : (Jvm.Cond.instanceMethod y_Kern_init) ∈ kG := kG_of (k2 (i := 59) (by decide +kernel)) rfl
theorem kw_300 : (Jvm.Cond.code y_Kern_init prog_6_method_1_code (2 : Nat) (Option.none : Option Jvm.ClassFile.FieldType)) ∈ kG := kG_of (k2 (i := 60) rfl) rfl
theorem kw_301 : (Jvm.Cond.methodLink "BoxGlue$Kern" (1 : Nat) y_Item_init) ∈ kG := kG_of (k2 (i := 61) (by decide +kernel)) rfl
theorem kw_302 : (Jvm.Cond.laysFinal "BoxGlue$Kern" "BoxGlue$Item" "sort" "I") ∈ kG := kG_of (k2 (i := 62) (by decide +kernel)) rfl
theorem kw_303 : (Jvm.Cond.laysFinal "BoxGlue$Kern" "BoxGlue$Item" "ownLength" "I") ∈ kG := kG_of (k2 (i := 63) (by decide +kernel)) rfl
theorem kw_304 : (Jvm.Cond.superclass "BoxGlue$Kern" "BoxGlue$Item") ∈ tables_1 := k2 (i := 64) (by decide +kernel)
theorem kw_305 : (Jvm.Cond.methodLink "BoxGlueLaw" (33 : Nat) y_BG_rule) ∈ kG := kG_of (k2 (i := 65) (by decide +kernel)) rfl
theorem kw_306 : (Jvm.Cond.instanceMethod y_BG_rule) ∈ kG := kG_of (k2 (i := 66) (by decide +kernel)) rfl
theorem kw_307 : (Jvm.Cond.selects "BoxGlue" y_BG_rule y_BG_rule) ∈ kG := kG_of (k2 (i := 67) (by decide +kernel)) rfl
theorem kw_308 : (Jvm.Cond.code y_BG_rule prog_1_method_6_code (4 : Nat) (Option.some Jvm.ClassFile.FieldType.int)) ∈ kG := kG_of (k2 (i := 68) rfl) rfl
theorem kw_309 : (Jvm.Cond.methodLink "BoxGlue" (79 : Nat) y_BG_isExtentOrRunning) ∈ kG := kG_of (k2 (i := 69) (by decide +kernel)) rfl
theorem kw_310 : (Jvm.Cond.static y_BG_isExtentOrRunning) ∈ kG := kG_of (k2 (i := 70) (by decide +kernel)) rfl
theorem kw_311 : (Jvm.Cond.code y_BG_isExtentOrRunning prog_1_method_20_code (1 : Nat) (Option.some Jvm.ClassFile.FieldType.boolean)) ∈ kG := kG_of (k2 (i := 71) rfl) rfl
theorem kw_312 : (Jvm.Cond.constant "BoxGlue" (143 : Nat) (-1000000 : Int32)) ∈ kG := kG_of (k2 (i := 72) (by decide +kernel)) rfl
theorem kw_313 : (Jvm.Cond.classLink "BoxGlue" (82 : Nat) "BoxGlue$Rule") ∈ kG := kG_of (k2 (i := 73) (by decide +kernel)) rfl
theorem kw_314 : (Jvm.Cond.instantiable "BoxGlue$Rule" (4 : Nat)) ∈ kG := kG_of (k2 (i := 74) (by decide +kernel)) rfl
theorem kw_315 : (Jvm.Cond.methodLink "BoxGlue" (84 : Nat) y_Rule_init) ∈ kG := kG_of (k2 (i := 75) (by decide +kernel)) rfl
theorem kw_316 : (Jvm.Cond.instanceMethod y_Rule_init) ∈ kG := kG_of (k2 (i := 76) (by decide +kernel)) rfl
theorem kw_317 : (Jvm.Cond.code y_Rule_init prog_10_method_1_code (4 : Nat) (Option.none : Option Jvm.ClassFile.FieldType)) ∈ kG := kG_of (k2 (i := 77) rfl) rfl
theorem kw_318 : (Jvm.Cond.methodLink "BoxGlue$Rule" (3 : Nat) y_Item_init) ∈ kG := kG_of (k2 (i := 78) (by decide +kernel)) rfl
theorem kw_319 : (Jvm.Cond.fieldLink "BoxGlue$Rule" (9 : Nat) "BoxGlue$Rule" "height" "I") ∈ kG := kG_of (k2 (i := 79) (by decide +kernel)) rfl
theorem kw_320 : (Jvm.Cond.fieldLink "BoxGlue$Rule" (15 : Nat) "BoxGlue$Rule" "depth" "I") ∈ kG := kG_of (k2 (i := 80) (by decide +kernel)) rfl
theorem kw_321 : (Jvm.Cond.laysFinal "BoxGlue$Rule" "BoxGlue$Rule" "height" "I") ∈ kG := kG_of (k2 (i := 81) (by decide +kernel)) rfl
theorem kw_322 : (Jvm.Cond.soleField "BoxGlue$Rule" "height") ∈ tables_1 := k2 (i := 82) (by decide +kernel)
theorem kw_323 : (Jvm.Cond.laysFinal "BoxGlue$Rule" "BoxGlue$Rule" "depth" "I") ∈ kG := kG_of (k2 (i := 83) (by decide +kernel)) rfl
theorem kw_324 : (Jvm.Cond.soleField "BoxGlue$Rule" "depth") ∈ tables_1 := k2 (i := 84) (by decide +kernel)
theorem kw_325 : (Jvm.Cond.laysFinal "BoxGlue$Rule" "BoxGlue$Item" "sort" "I") ∈ kG := kG_of (k2 (i := 85) (by decide +kernel)) rfl
theorem kw_326 : (Jvm.Cond.laysFinal "BoxGlue$Rule" "BoxGlue$Item" "ownLength" "I") ∈ kG := kG_of (k2 (i := 86) (by decide +kernel)) rfl
theorem kw_327 : (Jvm.Cond.superclass "BoxGlue$Rule" "BoxGlue$Item") ∈ tables_1 := k2 (i := 87) (by decide +kernel)
theorem kw_328 : (Jvm.Cond.methodLink "BoxGlueLaw" (37 : Nat) y_BG_leaders) ∈ kG := kG_of (k2 (i := 88) (by decide +kernel)) rfl
theorem kw_329 : (Jvm.Cond.instanceMethod y_BG_leaders) ∈ kG := kG_of (k2 (i := 89) (by decide +kernel)) rfl
theorem kw_330 : (Jvm.Cond.selects "BoxGlue" y_BG_leaders y_BG_leaders) ∈ kG := kG_of (k2 (i := 90) (by decide +kernel)) rfl
theorem kw_331 : (Jvm.Cond.code y_BG_leaders prog_1_method_7_code (6 : Nat) (Option.some Jvm.ClassFile.FieldType.int)) ∈ kG := kG_of (k2 (i := 91) rfl) rfl
theorem kw_332 : (Jvm.Cond.methodLink "BoxGlue" (87 : Nat) y_AL_isEmpty) ∈ kG := kG_of (k2 (i := 92) (by decide +kernel)) rfl
theorem kw_333 : (Jvm.Cond.instanceMethod y_AL_isEmpty) ∈ kG := kG_of (k2 (i := 93) (by decide +kernel)) rfl
theorem kw_334 : (Jvm.Cond.selects "java/util/ArrayList" y_AL_isEmpty y_AL_isEmpty) ∈ kG := kG_of (k2 (i := 94) (by decide +kernel)) rfl
theorem kw_335 : (Jvm.Cond.code y_AL_isEmpty prog_20_method_9_code (1 : Nat) (Option.some Jvm.ClassFile.FieldType.boolean)) ∈ kG := kG_of (k2 (i := 95) rfl) rfl
theorem kw_336 : (Jvm.Cond.methodLink "BoxGlue" (94 : Nat) y_Glue_with) ∈ kG := kG_of (k2 (i := 96) (by decide +kernel)) rfl
theorem kw_337 : (Jvm.Cond.instanceMethod y_Glue_with) ∈ kG := kG_of (k2 (i := 97) (by decide +kernel)) rfl
theorem kw_338 : (Jvm.Cond.selects "BoxGlue$Glue" y_Glue_with y_Glue_with) ∈ kG := kG_of (k2 (i := 98) (by decide +kernel)) rfl
theorem kw_339 : (Jvm.Cond.code y_Glue_with prog_4_method_2_code (2 : Nat) (Option.some (Jvm.ClassFile.FieldType.object "BoxGlue$Glue"))) ∈ kG := kG_of (k2 (i := 99) rfl) rfl
theorem kw_340 : (Jvm.Cond.classLink "BoxGlue$Glue" (8 : Nat) "BoxGlue$Glue") ∈ kG := kG_of (k2 (i := 100) (by decide +kernel)) rfl
theorem kw_341 : (Jvm.Cond.methodLink "BoxGlue$Glue" (29 : Nat) y_Glue_init) ∈ kG := kG_of (k2 (i := 101) (by decide +kernel)) rfl
theorem kw_342 : (Jvm.Cond.methodLink "BoxGlue" (98 : Nat) y_AL_set) ∈ kG := kG_of (k2 (i := 102) (by decide +kernel)) rfl
theorem kw_343 : (Jvm.Cond.instanceMethod y_AL_set) ∈ kG := kG_of (k2 (i := 103) (by decide +kernel)) rfl
theorem kw_344 : (Jvm.Cond.selects "java/util/ArrayList" y_AL_set y_AL_set) ∈ kG := kG_of (k2 (i := 104) (by decide +kernel)) rfl
theorem kw_345 : (Jvm.Cond.code y_AL_set prog_20_method_23_code (4 : Nat) (Option.some (Jvm.ClassFile.FieldType.object "java/lang/Object"))) ∈ kG := kG_of (k2 (i := 105) rfl) rfl
theorem kw_346 : (Jvm.Cond.methodLink "BoxGlueLaw" (41 : Nat) y_BG_pack) ∈ kG := kG_of (k2 (i := 106) (by decide +kernel)) rfl
theorem kw_347 : (Jvm.Cond.instanceMethod y_BG_pack) ∈ kG := kG_of (k2 (i := 107) (by decide +kernel)) rfl
theorem kw_348 : (Jvm.Cond.selects "BoxGlue" y_BG_pack y_BG_pack) ∈ kG := kG_of (k2 (i := 108) (by decide +kernel)) rfl
theorem kw_349 : (Jvm.Cond.code y_BG_pack prog_1_method_8_code (3 : Nat) (Option.some Jvm.ClassFile.FieldType.int)) ∈ kG := kG_of (k2 (i := 109) rfl) rfl
theorem kw_350 : (Jvm.Cond.constant "BoxGlue" (102 : Nat) (1000000 : Int32)) ∈ kG := kG_of (k2 (i := 110) (by decide +kernel)) rfl
theorem kw_351 : (Jvm.Cond.methodLink "BoxGlue" (103 : Nat) y_Fit_lengthOf) ∈ kG := kG_of (k2 (i := 111) (by decide +kernel)) rfl
theorem kw_352 : (Jvm.Cond.static y_Fit_lengthOf) ∈ kG := kG_of (k2 (i := 112) (by decide +kernel)) rfl
theorem kw_353 : (Jvm.Cond.code y_Fit_lengthOf prog_3_method_3_code (3 : Nat) (Option.some Jvm.ClassFile.FieldType.int)) ∈ kG := kG_of (k2 (i := 113) rfl) rfl
theorem kw_354 : (Jvm.Cond.methodLink "BoxGlue$Fit" (39 : Nat) y_AL_size) ∈ kG := kG_of (k2 (i := 114) (by decide +kernel)) rfl
theorem kw_355 : (Jvm.Cond.methodLink "BoxGlue$Fit" (45 : Nat) y_AL_get) ∈ kG := kG_of (k2 (i := 115) (by decide +kernel)) rfl
theorem kw_356 : (Jvm.Cond.classLink "BoxGlue$Fit" (49 : Nat) "BoxGlue$Item") ∈ kG := kG_of (k2 (i := 116) (by decide +kernel)) rfl
theorem kw_357 : (Jvm.Cond.methodLink "BoxGlue" (109 : Nat) y_Math_max) ∈ kG := kG_of (k2 (i := 117) (by decide +kernel)) rfl
theorem kw_358 : (Jvm.Cond.methodLink "BoxGlue" (115 : Nat) y_Box_packed) ∈ kG := kG_of (k2 (i := 118) (by decide +kernel)) rfl
theorem kw_359 : (Jvm.Cond.static y_Box_packed) ∈ kG := kG_of (k2 (i := 119) (by decide +kernel)) rfl
theorem kw_360 : (Jvm.Cond.code y_Box_packed prog_2_method_3_code (5 : Nat) (Option.some (Jvm.ClassFile.FieldType.object "BoxGlue$Box"))) ∈ kG := kG_of (k2 (i := 120) rfl) rfl
theorem kw_361 : (Jvm.Cond.methodLink "BoxGlue$Box" (40 : Nat) y_AL_size) ∈ kG := kG_of (k2 (i := 121) (by decide +kernel)) rfl
theorem kw_362 : (Jvm.Cond.methodLink "BoxGlue$Box" (44 : Nat) y_AL_get) ∈ kG := kG_of (k2 (i := 122) (by decide +kernel)) rfl
theorem kw_363 : (Jvm.Cond.classLink "BoxGlue$Box" (48 : Nat) "BoxGlue$Item") ∈ kG := kG_of (k2 (i := 123) (by decide +kernel)) rfl
theorem kw_364 : (Jvm.Cond.methodLink "BoxGlue$Box" (50 : Nat) y_Item_heightWhere) ∈ kG := kG_of (k2 (i := 124) (by decide +kernel)) rfl
theorem kw_365 : (Jvm.Cond.instanceMethod y_Item_heightWhere) ∈ kG := kG_of (k2 (i := 125) (by decide +kernel)) rfl
theorem kw_366 : (Jvm.Cond.sameMethod "BoxGlue$Item" "BoxGlue$Item" "heightWhere" "(I)I") ∈ kG := kG_of (k2 (i := 126) (by decide +kernel)) rfl
theorem kw_367 : (Jvm.Cond.selects "BoxGlue$Glue" y_Item_heightWhere y_Item_heightWhere) ∈ kG := kG_of (k2 (i := 127) (by decide +kernel)) rfl
theorem kw_368 : (Jvm.Cond.selects "BoxGlue$Kern" y_Item_heightWhere y_Item_heightWhere) ∈ kG := kG_of (k2 (i := 128) (by decide +kernel)) rfl
theorem kw_369 : (Jvm.Cond.selects "BoxGlue$Put" y_Item_heightWhere y_Put_heightWhere) ∈ kG := kG_of (k2 (i := 129) (by decide +kernel)) rfl
theorem kw_370 : (Jvm.Cond.instanceMethod y_Put_heightWhere) ∈ kG := kG_of (k2 (i := 130) (by decide +kernel)) rfl
theorem kw_371 : (Jvm.Cond.code y_Put_heightWhere prog_9_method_2_code (2 : Nat) (Option.some Jvm.ClassFile.FieldType.int)) ∈ kG := kG_of (k2 (i := 131) rfl) rfl
theorem kw_372 : (Jvm.Cond.selects "BoxGlue$Rule" y_Item_heightWhere y_Rule_heightWhere) ∈ kG := kG_of (k2 (i := 132) (by decide +kernel)) rfl
theorem kw_373 : (Jvm.Cond.instanceMethod y_Rule_heightWhere) ∈ kG := kG_of (k2 (i := 133) (by decide +kernel)) rfl
theorem kw_374 : (Jvm.Cond.code y_Rule_heightWhere prog_10_method_2_code (2 : Nat) (Option.some Jvm.ClassFile.FieldType.int)) ∈ kG := kG_of (k2 (i := 134) rfl) rfl
theorem kw_375 : (Jvm.Cond.constant "BoxGlue$Rule" (18 : Nat) (-1000000 : Int32)) ∈ kG := kG_of (k2 (i := 135) (by decide +kernel)) rfl
theorem kw_376 : (Jvm.Cond.code y_Item_heightWhere prog_5_method_3_code (2 : Nat) (Option.some Jvm.ClassFile.FieldType.int)) ∈ kG := kG_of (k2 (i := 136) rfl) rfl
theorem kw_377 : (Jvm.Cond.methodLink "BoxGlue$Box" (54 : Nat) y_Math_max) ∈ kG := kG_of (k2 (i := 137) (by decide +kernel)) rfl
theorem kw_378 : (Jvm.Cond.methodLink "BoxGlue$Box" (60 : Nat) y_Item_depthWhere) ∈ kG := kG_of (k2 (i := 138) (by decide +kernel)) rfl
theorem kw_379 : (Jvm.Cond.instanceMethod y_Item_depthWhere) ∈ kG := kG_of (k2 (i := 139) (by decide +kernel)) rfl
theorem kw_380 : (Jvm.Cond.sameMethod "BoxGlue$Item" "BoxGlue$Item" "depthWhere" "(I)I") ∈ kG := kG_of (k2 (i := 140) (by decide +kernel)) rfl
theorem kw_381 : (Jvm.Cond.selects "BoxGlue$Glue" y_Item_depthWhere y_Item_depthWhere) ∈ kG := kG_of (k2 (i := 141) (by decide +kernel)) rfl
theorem kw_382 : (Jvm.Cond.selects "BoxGlue$Kern" y_Item_depthWhere y_Item_depthWhere) ∈ kG := kG_of (k2 (i := 142) (by decide +kernel)) rfl
theorem kw_383 : (Jvm.Cond.selects "BoxGlue$Put" y_Item_depthWhere y_Put_depthWhere) ∈ kG := kG_of (k2 (i := 143) (by decide +kernel)) rfl
theorem kw_384 : (Jvm.Cond.instanceMethod y_Put_depthWhere) ∈ kG := kG_of (k2 (i := 144) (by decide +kernel)) rfl
theorem kw_385 : (Jvm.Cond.code y_Put_depthWhere prog_9_method_3_code (2 : Nat) (Option.some Jvm.ClassFile.FieldType.int)) ∈ kG := kG_of (k2 (i := 145) rfl) rfl
theorem kw_386 : (Jvm.Cond.selects "BoxGlue$Rule" y_Item_depthWhere y_Rule_depthWhere) ∈ kG := kG_of (k2 (i := 146) (by decide +kernel)) rfl
theorem kw_387 : (Jvm.Cond.instanceMethod y_Rule_depthWhere) ∈ kG := kG_of (k2 (i := 147) (by decide +kernel)) rfl
theorem kw_388 : (Jvm.Cond.code y_Rule_depthWhere prog_10_method_3_code (2 : Nat) (Option.some Jvm.ClassFile.FieldType.int)) ∈ kG := kG_of (k2 (i := 148) rfl) rfl
theorem kw_389 : (Jvm.Cond.code y_Item_depthWhere prog_5_method_4_code (2 : Nat) (Option.some Jvm.ClassFile.FieldType.int)) ∈ kG := kG_of (k2 (i := 149) rfl) rfl
theorem kw_390 : (Jvm.Cond.methodLink "BoxGlue$Box" (63 : Nat) y_Fit_of) ∈ kG := kG_of (k2 (i := 150) (by decide +kernel)) rfl
theorem kw_391 : (Jvm.Cond.static y_Fit_of) ∈ kG := kG_of (k2 (i := 151) (by decide +kernel)) rfl
theorem kw_392 : (Jvm.Cond.code y_Fit_of prog_3_method_2_code (5 : Nat) (Option.some (Jvm.ClassFile.FieldType.object "BoxGlue$Fit"))) ∈ kG := kG_of (k2 (i := 152) rfl) rfl
theorem kw_393 : (Jvm.Cond.methodLink "BoxGlue$Fit" (24 : Nat) y_Fit_lengthOf) ∈ kG := kG_of (k2 (i := 153) (by decide +kernel)) rfl
theorem kw_394 : (Jvm.Cond.methodLink "BoxGlue$Fit" (28 : Nat) y_Fit_greatestOrder) ∈ kG := kG_of (k2 (i := 154) (by decide +kernel)) rfl
theorem kw_395 : (Jvm.Cond.static y_Fit_greatestOrder) ∈ kG := kG_of (k2 (i := 155) (by decide +kernel)) rfl
theorem kw_396 : (Jvm.Cond.code y_Fit_greatestOrder prog_3_method_4_code (3 : Nat) (Option.some Jvm.ClassFile.FieldType.int)) ∈ kG := kG_of (k2 (i := 156) rfl) rfl
theorem kw_397 : (Jvm.Cond.methodLink "BoxGlue$Fit" (32 : Nat) y_Fit_sumOf) ∈ kG := kG_of (k2 (i := 157) (by decide +kernel)) rfl
theorem kw_398 : (Jvm.Cond.static y_Fit_sumOf) ∈ kG := kG_of (k2 (i := 158) (by decide +kernel)) rfl
theorem kw_399 : (Jvm.Cond.code y_Fit_sumOf prog_3_method_5_code (5 : Nat) (Option.some Jvm.ClassFile.FieldType.int)) ∈ kG := kG_of (k2 (i := 159) rfl) rfl
theorem kw_400 : (Jvm.Cond.methodLink "BoxGlue$Fit" (52 : Nat) y_Item_giving) ∈ kG := kG_of (k2 (i := 160) (by decide +kernel)) rfl
theorem kw_401 : (Jvm.Cond.instanceMethod y_Item_giving) ∈ kG := kG_of (k2 (i := 161) (by decide +kernel)) rfl
theorem kw_402 : (Jvm.Cond.sameMethod "BoxGlue$Item" "BoxGlue$Item" "giving" "(ZI)I") ∈ kG := kG_of (k2 (i := 162) (by decide +kernel)) rfl
theorem kw_403 : (Jvm.Cond.selects "BoxGlue$Glue" y_Item_giving y_Glue_giving) ∈ kG := kG_of (k2 (i := 163) (by decide +kernel)) rfl
theorem kw_404 : (Jvm.Cond.instanceMethod y_Glue_giving) ∈ kG := kG_of (k2 (i := 164) (by decide +kernel)) rfl
theorem kw_405 : (Jvm.Cond.code y_Glue_giving prog_4_method_3_code (3 : Nat) (Option.some Jvm.ClassFile.FieldType.int)) ∈ kG := kG_of (k2 (i := 165) rfl) rfl
theorem kw_406 : (Jvm.Cond.selects "BoxGlue$Kern" y_Item_giving y_Item_giving) ∈ kG := kG_of (k2 (i := 166) (by decide +kernel)) rfl
theorem kw_407 : (Jvm.Cond.selects "BoxGlue$Put" y_Item_giving y_Item_giving) ∈ kG := kG_of (k2 (i := 167) (by decide +kernel)) rfl
theorem kw_408 : (Jvm.Cond.selects "BoxGlue$Rule" y_Item_giving y_Item_giving) ∈ kG := kG_of (k2 (i := 168) (by decide +kernel)) rfl
theorem kw_409 : (Jvm.Cond.code y_Item_giving prog_5_method_2_code (3 : Nat) (Option.some Jvm.ClassFile.FieldType.int)) ∈ kG := kG_of (k2 (i := 169) rfl) rfl
theorem kw_410 : (Jvm.Cond.classLink "BoxGlue$Fit" (10 : Nat) "BoxGlue$Fit") ∈ kG := kG_of (k2 (i := 170) (by decide +kernel)) rfl
theorem kw_411 : (Jvm.Cond.methodLink "BoxGlue$Fit" (36 : Nat) y_Fit_init) ∈ kG := kG_of (k2 (i := 171) (by decide +kernel)) rfl
theorem kw_412 : (Jvm.Cond.methodLink "BoxGlue$Box" (67 : Nat) y_Box_placed) ∈ kG := kG_of (k2 (i := 172) (by decide +kernel)) rfl
theorem kw_413 : (Jvm.Cond.static y_Box_placed) ∈ kG := kG_of (k2 (i := 173) (by decide +kernel)) rfl
theorem kw_414 : (Jvm.Cond.code y_Box_placed prog_2_method_4_code (9 : Nat) (Option.some (Jvm.ClassFile.FieldType.object "java/util/ArrayList"))) ∈ kG := kG_of (k2 (i := 174) rfl) rfl
theorem kw_415 : (Jvm.Cond.methodLink "BoxGlue$Box" (71 : Nat) y_Fit_givingOf) ∈ kG := kG_of (k2 (i := 175) (by decide +kernel)) rfl
theorem kw_416 : (Jvm.Cond.instanceMethod y_Fit_givingOf) ∈ kG := kG_of (k2 (i := 176) (by decide +kernel)) rfl
theorem kw_417 : (Jvm.Cond.selects "BoxGlue$Fit" y_Fit_givingOf y_Fit_givingOf) ∈ kG := kG_of (k2 (i := 177) (by decide +kernel)) rfl
theorem kw_418 : (Jvm.Cond.code y_Fit_givingOf prog_3_method_6_code (2 : Nat) (Option.some Jvm.ClassFile.FieldType.int)) ∈ kG := kG_of (k2 (i := 178) rfl) rfl
theorem kw_419 : (Jvm.Cond.methodLink "BoxGlue$Box" (78 : Nat) y_Fit_change) ∈ kG := kG_of (k2 (i := 179) (by decide +kernel)) rfl
theorem kw_420 : (Jvm.Cond.instanceMethod y_Fit_change) ∈ kG := kG_of (k2 (i := 180) (by decide +kernel)) rfl
theorem kw_421 : (Jvm.Cond.selects "BoxGlue$Fit" y_Fit_change y_Fit_change) ∈ kG := kG_of (k2 (i := 181) (by decide +kernel)) rfl
theorem kw_422 : (Jvm.Cond.code y_Fit_change prog_3_method_7_code (3 : Nat) (Option.some Jvm.ClassFile.FieldType.int)) ∈ kG := kG_of (k2 (i := 182) rfl) rfl
theorem kw_423 : (Jvm.Cond.methodLink "BoxGlue$Fit" (56 : Nat) y_Fit_share) ∈ kG := kG_of (k2 (i := 183) (by decide +kernel)) rfl
theorem kw_424 : (Jvm.Cond.privateMethod y_Fit_share) ∈ tables_1 := k2 (i := 184) (by decide +kernel)
theorem kw_425 : (Jvm.Cond.instanceMethod y_Fit_share) ∈ kG := kG_of (k2 (i := 185) (by decide +kernel)) rfl
theorem kw_426 : (Jvm.Cond.code y_Fit_share prog_3_method_8_code (4 : Nat) (Option.some Jvm.ClassFile.FieldType.int)) ∈ kG := kG_of (k2 (i := 186) rfl) rfl
theorem kw_427 : (Jvm.Cond.methodLink "BoxGlue$Fit" (60 : Nat) y_Fit_over) ∈ kG := kG_of (k2 (i := 187) (by decide +kernel)) rfl
theorem kw_428 : (Jvm.Cond.instanceMethod y_Fit_over) ∈ kG := kG_of (k2 (i := 188) (by decide +kernel)) rfl
theorem kw_429 : (Jvm.Cond.selects "BoxGlue$Fit" y_Fit_over y_Fit_over) ∈ kG := kG_of (k2 (i := 189) (by decide +kernel)) rfl
theorem kw_430 : (Jvm.Cond.code y_Fit_over prog_3_method_9_code (1 : Nat) (Option.some Jvm.ClassFile.FieldType.int)) ∈ kG := kG_of (k2 (i := 190) rfl) rfl
theorem kw_431 : (Jvm.Cond.methodLink "BoxGlue$Fit" (63 : Nat) y_Math_max) ∈ kG := kG_of (k2 (i := 191) (by decide +kernel)) rfl
theorem kw_432 : (Jvm.Cond.classLink "BoxGlue$Box" (81 : Nat) "BoxGlue$Placed") ∈ kG := kG_of (k2 (i := 192) (by decide +kernel)) rfl
theorem kw_433 : (Jvm.Cond.instantiable "BoxGlue$Placed" (3 : Nat)) ∈ kG := kG_of (k2 (i := 193) (by decide +kernel)) rfl
theorem kw_434 : (Jvm.Cond.methodLink "BoxGlue$Box" (83 : Nat) y_Placed_init) ∈ kG := kG_of (k2 (i := 194) (by decide +kernel)) rfl
theorem kw_435 : (Jvm.Cond.instanceMethod y_Placed_init) ∈ kG := kG_of (k2 (i := 195) (by decide +kernel)) rfl
theorem kw_436 : (Jvm.Cond.code y_Placed_init prog_8_method_1_code (4 : Nat) (Option.none : Option Jvm.ClassFile.FieldType)) ∈ kG := kG_of (k2 (i := 196) rfl) rfl
theorem kw_437 : (Jvm.Cond.methodLink "BoxGlue$Placed" (3 : Nat) y_Obj_init) ∈ kG := kG_of (k2 (i := 197) (by decide +kernel)) rfl
theorem kw_438 : (Jvm.Cond.fieldLink "BoxGlue$Placed" (9 : Nat) "BoxGlue$Placed" "given" "LBoxGlue$Item;") ∈ kG := kG_of (k2 (i := 198) (by decide +kernel)) rfl
theorem kw_439 : (Jvm.Cond.fieldLink "BoxGlue" (127 : Nat) "BoxGlue$Placed" "given" "LBoxGlue$Item;") ∈ kG := kG_of (k2 (i := 199) (by decide +kernel)) rfl
theorem kw_440 : (Jvm.Cond.fieldLink "BoxGlue$Placed" (15 : Nat) "BoxGlue$Placed" "place" "I") ∈ kG := kG_of (k2 (i := 200) (by decide +kernel)) rfl
theorem kw_441 : (Jvm.Cond.fieldLink "BoxGlue$Placed" (19 : Nat) "BoxGlue$Placed" "length" "I") ∈ kG := kG_of (k2 (i := 201) (by decide +kernel)) rfl
theorem kw_442 : (Jvm.Cond.laysFinal "BoxGlue$Placed" "BoxGlue$Placed" "given" "LBoxGlue$Item;") ∈ kG := kG_of (k2 (i := 202) (by decide +kernel)) rfl
theorem kw_443 : (Jvm.Cond.soleField "BoxGlue$Placed" "given") ∈ tables_1 := k2 (i := 203) (by decide +kernel)
theorem kw_444 : (Jvm.Cond.laysFinal "BoxGlue$Placed" "BoxGlue$Placed" "place" "I") ∈ kG := kG_of (k2 (i := 204) (by decide +kernel)) rfl
theorem kw_445 : (Jvm.Cond.soleField "BoxGlue$Placed" "place") ∈ tables_1 := k2 (i := 205) (by decide +kernel)
theorem kw_446 : (Jvm.Cond.laysFinal "BoxGlue$Placed" "BoxGlue$Placed" "length" "I") ∈ kG := kG_of (k2 (i := 206) (by decide +kernel)) rfl
theorem kw_447 : (Jvm.Cond.soleField "BoxGlue$Placed" "length") ∈ tables_1 := k2 (i := 207) (by decide +kernel)
theorem kw_448 : (Jvm.Cond.superclass "BoxGlue$Placed" "java/lang/Object") ∈ tables_1 := k2 (i := 208) (by decide +kernel)
theorem kw_449 : (Jvm.Cond.methodLink "BoxGlue$Box" (86 : Nat) y_AL_add) ∈ kG := kG_of (k2 (i := 209) (by decide +kernel)) rfl
theorem kw_450 : (Jvm.Cond.methodLink "BoxGlue" (119 : Nat) y_AL_clear) ∈ kG := kG_of (k2 (i := 210) (by decide +kernel)) rfl
theorem kw_451 : (Jvm.Cond.instanceMethod y_AL_clear) ∈ kG := kG_of (k2 (i := 211) (by decide +kernel)) rfl
theorem kw_452 : (Jvm.Cond.selects "java/util/ArrayList" y_AL_clear y_AL_clear) ∈ kG := kG_of (k2 (i := 212) (by decide +kernel)) rfl
theorem kw_453 : (Jvm.Cond.code y_AL_clear prog_20_method_40_code (4 : Nat) (Option.none : Option Jvm.ClassFile.FieldType)) ∈ kG := kG_of (k2 (i := 213) rfl) rfl
theorem kw_454 : (Jvm.Cond.methodLink "BoxGlueLaw" (45 : Nat) y_BG_unpack) ∈ kG := kG_of (k2 (i := 214) (by decide +kernel)) rfl
theorem kw_455 : (Jvm.Cond.instanceMethod y_BG_unpack) ∈ kG := kG_of (k2 (i := 215) (by decide +kernel)) rfl
theorem kw_456 : (Jvm.Cond.selects "BoxGlue" y_BG_unpack y_BG_unpack) ∈ kG := kG_of (k2 (i := 216) (by decide +kernel)) rfl
theorem kw_457 : (Jvm.Cond.code y_BG_unpack prog_1_method_9_code (5 : Nat) (Option.some Jvm.ClassFile.FieldType.int)) ∈ kG := kG_of (k2 (i := 217) rfl) rfl
theorem kw_458 : (Jvm.Cond.classLink "BoxGlue" (125 : Nat) "BoxGlue$Placed") ∈ kG := kG_of (k2 (i := 218) (by decide +kernel)) rfl
theorem kw_459 : (Jvm.Cond.methodLink "BoxGlueLaw" (49 : Nat) y_BG_told) ∈ kG := kG_of (k2 (i := 219) (by decide +kernel)) rfl
theorem kw_460 : (Jvm.Cond.instanceMethod y_BG_told) ∈ kG := kG_of (k2 (i := 220) (by decide +kernel)) rfl
theorem kw_461 : (Jvm.Cond.selects "BoxGlue" y_BG_told y_BG_told) ∈ kG := kG_of (k2 (i := 221) (by decide +kernel)) rfl
theorem kw_462 : (Jvm.Cond.code y_BG_told prog_1_method_10_code (3 : Nat) (Option.some Jvm.ClassFile.FieldType.int)) ∈ kG := kG_of (k2 (i := 222) rfl) rfl
theorem kw_463 : (Jvm.Cond.methodLink "BoxGlue" (131 : Nat) y_Box_answer) ∈ kG := kG_of (k2 (i := 223) (by decide +kernel)) rfl
theorem kw_464 : (Jvm.Cond.instanceMethod y_Box_answer) ∈ kG := kG_of (k2 (i := 224) (by decide +kernel)) rfl
theorem kw_465 : (Jvm.Cond.selects "BoxGlue$Box" y_Box_answer y_Box_answer) ∈ kG := kG_of (k2 (i := 225) (by decide +kernel)) rfl
theorem kw_466 : (Jvm.Cond.code y_Box_answer prog_2_method_5_code (2 : Nat) (Option.some Jvm.ClassFile.FieldType.int)) ∈ kG := kG_of (k2 (i := 226) rfl) rfl
theorem kw_467 : (Jvm.Cond.methodLink "BoxGlue$Box" (90 : Nat) y_Fit_badness) ∈ kG := kG_of (k2 (i := 227) (by decide +kernel)) rfl
theorem kw_468 : (Jvm.Cond.instanceMethod y_Fit_badness) ∈ kG := kG_of (k2 (i := 228) (by decide +kernel)) rfl
theorem kw_469 : (Jvm.Cond.selects "BoxGlue$Fit" y_Fit_badness y_Fit_badness) ∈ kG := kG_of (k2 (i := 229) (by decide +kernel)) rfl
theorem kw_470 : (Jvm.Cond.code y_Fit_badness prog_3_method_10_code (1 : Nat) (Option.some Jvm.ClassFile.FieldType.int)) ∈ kG := kG_of (k2 (i := 230) rfl) rfl
theorem kw_471 : (Jvm.Cond.constant "BoxGlue$Fit" (69 : Nat) (1000000 : Int32)) ∈ kG := kG_of (k2 (i := 231) (by decide +kernel)) rfl
theorem kw_472 : (Jvm.Cond.methodLink "BoxGlue$Fit" (70 : Nat) y_Math_abs) ∈ kG := kG_of (k2 (i := 232) (by decide +kernel)) rfl
theorem kw_473 : (Jvm.Cond.static y_Math_abs) ∈ kG := kG_of (k2 (i := 233) (by decide +kernel)) rfl
theorem kw_474 : (Jvm.Cond.code y_Math_abs prog_16_method_59_code (1 : Nat) (Option.some Jvm.ClassFile.FieldType.int)) ∈ kG := kG_of (k2 (i := 234) rfl) rfl
theorem kw_475 : (Jvm.Cond.methodLink "BoxGlue$Fit" (73 : Nat) y_Fit_cubed) ∈ kG := kG_of (k2 (i := 235) (by decide +kernel)) rfl
theorem kw_476 : (Jvm.Cond.privateMethod y_Fit_cubed) ∈ tables_1 := k2 (i := 236) (by decide +kernel)
theorem kw_477 : (Jvm.Cond.instanceMethod y_Fit_cubed) ∈ kG := kG_of (k2 (i := 237) (by decide +kernel)) rfl
theorem kw_478 : (Jvm.Cond.code y_Fit_cubed prog_3_method_11_code (7 : Nat) (Option.some Jvm.ClassFile.FieldType.int)) ∈ kG := kG_of (k2 (i := 238) rfl) rfl
theorem kw_479 : (Jvm.Cond.constantLong "BoxGlue$Fit" (77 : Nat) (5 : Int64)) ∈ kG := kG_of (k2 (i := 239) (by decide +kernel)) rfl
theorem kw_480 : (Jvm.Cond.constantLong "BoxGlue$Fit" (79 : Nat) (100 : Int64)) ∈ kG := kG_of (k3 (i := 0) (by decide +kernel)) rfl
theorem kw_481 : (Jvm.Cond.constantLong "BoxGlue$Fit" (81 : Nat) (10000 : Int64)) ∈ kG := kG_of (k3 (i := 1) (by decide +kernel)) rfl
theorem kw_482 : (Jvm.Cond.methodLink "BoxGlue$Fit" (83 : Nat) y_Math_min2) ∈ kG := kG_of (k3 (i := 2) (by decide +kernel)) rfl
theorem kw_483 : (Jvm.Cond.static y_Math_min2) ∈ kG := kG_of (k3 (i := 3) (by decide +kernel)) rfl
theorem kw_484 : (Jvm.Cond.code y_Math_min2 prog_16_method_70_code (4 : Nat) (Option.some Jvm.ClassFile.FieldType.long)) ∈ kG := kG_of (k3 (i := 4) rfl) rfl
theorem kw_485 : (Jvm.Cond.methodLink "BoxGlue$Box" (93 : Nat) y_Fit_over) ∈ kG := kG_of (k3 (i := 5) (by decide +kernel)) rfl
theorem kw_486 : (Jvm.Cond.methodLink "BoxGlueLaw" (53 : Nat) y_BG_item) ∈ kG := kG_of (k3 (i := 6) (by decide +kernel)) rfl
theorem kw_487 : (Jvm.Cond.instanceMethod y_BG_item) ∈ kG := kG_of (k3 (i := 7) (by decide +kernel)) rfl
theorem kw_488 : (Jvm.Cond.selects "BoxGlue" y_BG_item y_BG_item) ∈ kG := kG_of (k3 (i := 8) (by decide +kernel)) rfl
theorem kw_489 : (Jvm.Cond.code y_BG_item prog_1_method_11_code (5 : Nat) (Option.some Jvm.ClassFile.FieldType.int)) ∈ kG := kG_of (k3 (i := 9) rfl) rfl
theorem kw_490 : (Jvm.Cond.methodLink "BoxGlue" (135 : Nat) y_Placed_answer) ∈ kG := kG_of (k3 (i := 10) (by decide +kernel)) rfl
theorem kw_491 : (Jvm.Cond.instanceMethod y_Placed_answer) ∈ kG := kG_of (k3 (i := 11) (by decide +kernel)) rfl
theorem kw_492 : (Jvm.Cond.selects "BoxGlue$Placed" y_Placed_answer y_Placed_answer) ∈ kG := kG_of (k3 (i := 12) (by decide +kernel)) rfl
theorem kw_493 : (Jvm.Cond.code y_Placed_answer prog_8_method_2_code (3 : Nat) (Option.some Jvm.ClassFile.FieldType.int)) ∈ kG := kG_of (k3 (i := 13) rfl) rfl
theorem kw_494 : (Jvm.Cond.methodLink "BoxGlue$Placed" (27 : Nat) y_Item_leadersDrawn) ∈ kG := kG_of (k3 (i := 14) (by decide +kernel)) rfl
theorem kw_495 : (Jvm.Cond.instanceMethod y_Item_leadersDrawn) ∈ kG := kG_of (k3 (i := 15) (by decide +kernel)) rfl
theorem kw_496 : (Jvm.Cond.sameMethod "BoxGlue$Item" "BoxGlue$Item" "leadersDrawn" "(II)I") ∈ kG := kG_of (k3 (i := 16) (by decide +kernel)) rfl
theorem kw_497 : (Jvm.Cond.selects "BoxGlue$Glue" y_Item_leadersDrawn y_Glue_leadersDrawn) ∈ kG := kG_of (k3 (i := 17) (by decide +kernel)) rfl
theorem kw_498 : (Jvm.Cond.instanceMethod y_Glue_leadersDrawn) ∈ kG := kG_of (k3 (i := 18) (by decide +kernel)) rfl
theorem kw_499 : (Jvm.Cond.code y_Glue_leadersDrawn prog_4_method_4_code (3 : Nat) (Option.some Jvm.ClassFile.FieldType.int)) ∈ kG := kG_of (k3 (i := 19) rfl) rfl
theorem kw_500 : (Jvm.Cond.methodLink "BoxGlue$Glue" (32 : Nat) y_Leaders_drawn) ∈ kG := kG_of (k3 (i := 20) (by decide +kernel)) rfl
theorem kw_501 : (Jvm.Cond.instanceMethod y_Leaders_drawn) ∈ kG := kG_of (k3 (i := 21) (by decide +kernel)) rfl
theorem kw_502 : (Jvm.Cond.selects "BoxGlue$Leaders" y_Leaders_drawn y_Leaders_drawn) ∈ kG := kG_of (k3 (i := 22) (by decide +kernel)) rfl
theorem kw_503 : (Jvm.Cond.code y_Leaders_drawn prog_7_method_2_code (3 : Nat) (Option.some Jvm.ClassFile.FieldType.int)) ∈ kG := kG_of (k3 (i := 23) rfl) rfl
theorem kw_504 : (Jvm.Cond.methodLink "BoxGlue$Leaders" (16 : Nat) y_Math_floorDiv) ∈ kG := kG_of (k3 (i := 24) (by decide +kernel)) rfl
theorem kw_505 : (Jvm.Cond.static y_Math_floorDiv) ∈ kG := kG_of (k3 (i := 25) (by decide +kernel)) rfl
theorem kw_506 : (Jvm.Cond.code y_Math_floorDiv prog_16_method_47_code (3 : Nat) (Option.some Jvm.ClassFile.FieldType.int)) ∈ kG := kG_of (k3 (i := 26) rfl) rfl
theorem kw_507 : (Jvm.Cond.methodLink "BoxGlue$Leaders" (22 : Nat) y_Leaders_alignedFrom) ∈ kG := kG_of (k3 (i := 27) (by decide +kernel)) rfl
theorem kw_508 : (Jvm.Cond.privateMethod y_Leaders_alignedFrom) ∈ tables_1 := k3 (i := 28) (by decide +kernel)
theorem kw_509 : (Jvm.Cond.instanceMethod y_Leaders_alignedFrom) ∈ kG := kG_of (k3 (i := 29) (by decide +kernel)) rfl
theorem kw_510 : (Jvm.Cond.code y_Leaders_alignedFrom prog_7_method_5_code (2 : Nat) (Option.some Jvm.ClassFile.FieldType.int)) ∈ kG := kG_of (k3 (i := 30) rfl) rfl
theorem kw_511 : (Jvm.Cond.selects "BoxGlue$Kern" y_Item_leadersDrawn y_Item_leadersDrawn) ∈ kG := kG_of (k3 (i := 31) (by decide +kernel)) rfl
theorem kw_512 : (Jvm.Cond.selects "BoxGlue$Put" y_Item_leadersDrawn y_Item_leadersDrawn) ∈ kG := kG_of (k3 (i := 32) (by decide +kernel)) rfl
theorem kw_513 : (Jvm.Cond.selects "BoxGlue$Rule" y_Item_leadersDrawn y_Item_leadersDrawn) ∈ kG := kG_of (k3 (i := 33) (by decide +kernel)) rfl
theorem kw_514 : (Jvm.Cond.code y_Item_leadersDrawn prog_5_method_5_code (3 : Nat) (Option.some Jvm.ClassFile.FieldType.int)) ∈ kG := kG_of (k3 (i := 34) rfl) rfl
theorem kw_515 : (Jvm.Cond.methodLink "BoxGlue$Placed" (31 : Nat) y_Item_firstLeader) ∈ kG := kG_of (k3 (i := 35) (by decide +kernel)) rfl
theorem kw_516 : (Jvm.Cond.instanceMethod y_Item_firstLeader) ∈ kG := kG_of (k3 (i := 36) (by decide +kernel)) rfl
theorem kw_517 : (Jvm.Cond.sameMethod "BoxGlue$Item" "BoxGlue$Item" "firstLeader" "(II)I") ∈ kG := kG_of (k3 (i := 37) (by decide +kernel)) rfl
theorem kw_518 : (Jvm.Cond.selects "BoxGlue$Glue" y_Item_firstLeader y_Glue_firstLeader) ∈ kG := kG_of (k3 (i := 38) (by decide +kernel)) rfl
theorem kw_519 : (Jvm.Cond.instanceMethod y_Glue_firstLeader) ∈ kG := kG_of (k3 (i := 39) (by decide +kernel)) rfl
theorem kw_520 : (Jvm.Cond.code y_Glue_firstLeader prog_4_method_5_code (3 : Nat) (Option.some Jvm.ClassFile.FieldType.int)) ∈ kG := kG_of (k3 (i := 40) rfl) rfl
theorem kw_521 : (Jvm.Cond.methodLink "BoxGlue$Glue" (38 : Nat) y_Leaders_first) ∈ kG := kG_of (k3 (i := 41) (by decide +kernel)) rfl
theorem kw_522 : (Jvm.Cond.instanceMethod y_Leaders_first) ∈ kG := kG_of (k3 (i := 42) (by decide +kernel)) rfl
theorem kw_523 : (Jvm.Cond.selects "BoxGlue$Leaders" y_Leaders_first y_Leaders_first) ∈ kG := kG_of (k3 (i := 43) (by decide +kernel)) rfl
theorem kw_524 : (Jvm.Cond.code y_Leaders_first prog_7_method_3_code (3 : Nat) (Option.some Jvm.ClassFile.FieldType.int)) ∈ kG := kG_of (k3 (i := 44) rfl) rfl
theorem kw_525 : (Jvm.Cond.methodLink "BoxGlue$Leaders" (26 : Nat) y_Leaders_drawn) ∈ kG := kG_of (k3 (i := 45) (by decide +kernel)) rfl
theorem kw_526 : (Jvm.Cond.methodLink "BoxGlue$Leaders" (29 : Nat) y_Leaders_gap) ∈ kG := kG_of (k3 (i := 46) (by decide +kernel)) rfl
theorem kw_527 : (Jvm.Cond.privateMethod y_Leaders_gap) ∈ tables_1 := k3 (i := 47) (by decide +kernel)
theorem kw_528 : (Jvm.Cond.instanceMethod y_Leaders_gap) ∈ kG := kG_of (k3 (i := 48) (by decide +kernel)) rfl
theorem kw_529 : (Jvm.Cond.code y_Leaders_gap prog_7_method_6_code (2 : Nat) (Option.some Jvm.ClassFile.FieldType.int)) ∈ kG := kG_of (k3 (i := 49) rfl) rfl
theorem kw_530 : (Jvm.Cond.selects "BoxGlue$Kern" y_Item_firstLeader y_Item_firstLeader) ∈ kG := kG_of (k3 (i := 50) (by decide +kernel)) rfl
theorem kw_531 : (Jvm.Cond.selects "BoxGlue$Put" y_Item_firstLeader y_Item_firstLeader) ∈ kG := kG_of (k3 (i := 51) (by decide +kernel)) rfl
theorem kw_532 : (Jvm.Cond.selects "BoxGlue$Rule" y_Item_firstLeader y_Item_firstLeader) ∈ kG := kG_of (k3 (i := 52) (by decide +kernel)) rfl
theorem kw_533 : (Jvm.Cond.code y_Item_firstLeader prog_5_method_6_code (3 : Nat) (Option.some Jvm.ClassFile.FieldType.int)) ∈ kG := kG_of (k3 (i := 53) rfl) rfl
theorem kw_534 : (Jvm.Cond.methodLink "BoxGlue$Placed" (34 : Nat) y_Item_leaderStep) ∈ kG := kG_of (k3 (i := 54) (by decide +kernel)) rfl
theorem kw_535 : (Jvm.Cond.instanceMethod y_Item_leaderStep) ∈ kG := kG_of (k3 (i := 55) (by decide +kernel)) rfl
theorem kw_536 : (Jvm.Cond.sameMethod "BoxGlue$Item" "BoxGlue$Item" "leaderStep" "(II)I") ∈ kG := kG_of (k3 (i := 56) (by decide +kernel)) rfl
theorem kw_537 : (Jvm.Cond.selects "BoxGlue$Glue" y_Item_leaderStep y_Glue_leaderStep) ∈ kG := kG_of (k3 (i := 57) (by decide +kernel)) rfl
theorem kw_538 : (Jvm.Cond.instanceMethod y_Glue_leaderStep) ∈ kG := kG_of (k3 (i := 58) (by decide +kernel)) rfl
theorem kw_539 : (Jvm.Cond.code y_Glue_leaderStep prog_4_method_6_code (3 : Nat) (Option.some Jvm.ClassFile.FieldType.int)) ∈ kG := kG_of (k3 (i := 59) rfl) rfl
theorem kw_540 : (Jvm.Cond.methodLink "BoxGlue$Glue" (41 : Nat) y_Leaders_step) ∈ kG := kG_of (k3 (i := 60) (by decide +kernel)) rfl
theorem kw_541 : (Jvm.Cond.instanceMethod y_Leaders_step) ∈ kG := kG_of (k3 (i := 61) (by decide +kernel)) rfl
theorem kw_542 : (Jvm.Cond.selects "BoxGlue$Leaders" y_Leaders_step y_Leaders_step) ∈ kG := kG_of (k3 (i := 62) (by decide +kernel)) rfl
theorem kw_543 : (Jvm.Cond.code y_Leaders_step prog_7_method_4_code (3 : Nat) (Option.some Jvm.ClassFile.FieldType.int)) ∈ kG := kG_of (k3 (i := 63) rfl) rfl
theorem kw_544 : (Jvm.Cond.selects "BoxGlue$Kern" y_Item_leaderStep y_Item_leaderStep) ∈ kG := kG_of (k3 (i := 64) (by decide +kernel)) rfl
theorem kw_545 : (Jvm.Cond.selects "BoxGlue$Put" y_Item_leaderStep y_Item_leaderStep) ∈ kG := kG_of (k3 (i := 65) (by decide +kernel)) rfl
theorem kw_546 : (Jvm.Cond.selects "BoxGlue$Rule" y_Item_leaderStep y_Item_leaderStep) ∈ kG := kG_of (k3 (i := 66) (by decide +kernel)) rfl
theorem kw_547 : (Jvm.Cond.code y_Item_leaderStep prog_5_method_7_code (3 : Nat) (Option.some Jvm.ClassFile.FieldType.int)) ∈ kG := kG_of (k3 (i := 67) rfl) rfl
theorem kw_548 : (Jvm.Cond.methodLink "BoxGlue$Placed" (42 : Nat) y_Item_heightWhere) ∈ kG := kG_of (k3 (i := 68) (by decide +kernel)) rfl
theorem kw_549 : (Jvm.Cond.methodLink "BoxGlue$Placed" (49 : Nat) y_Item_depthWhere) ∈ kG := kG_of (k3 (i := 69) (by decide +kernel)) rfl
theorem kw_550 : (Jvm.Cond.methodLink "BoxGlueLaw" (57 : Nat) y_BG_size) ∈ kG := kG_of (k3 (i := 70) (by decide +kernel)) rfl
theorem kw_551 : (Jvm.Cond.instanceMethod y_BG_size) ∈ kG := kG_of (k3 (i := 71) (by decide +kernel)) rfl
theorem kw_552 : (Jvm.Cond.selects "BoxGlue" y_BG_size y_BG_size) ∈ kG := kG_of (k3 (i := 72) (by decide +kernel)) rfl
theorem kw_553 : (Jvm.Cond.code y_BG_size prog_1_method_12_code (1 : Nat) (Option.some Jvm.ClassFile.FieldType.int)) ∈ kG := kG_of (k3 (i := 73) rfl) rfl
theorem kw_554 : (Jvm.Cond.methodLink "BoxGlueLaw" (62 : Nat) y_BG_natural) ∈ kG := kG_of (k3 (i := 74) (by decide +kernel)) rfl
theorem kw_555 : (Jvm.Cond.instanceMethod y_BG_natural) ∈ kG := kG_of (k3 (i := 75) (by decide +kernel)) rfl
theorem kw_556 : (Jvm.Cond.selects "BoxGlue" y_BG_natural y_BG_natural) ∈ kG := kG_of (k3 (i := 76) (by decide +kernel)) rfl
theorem kw_557 : (Jvm.Cond.code y_BG_natural prog_1_method_13_code (1 : Nat) (Option.some Jvm.ClassFile.FieldType.long)) ∈ kG := kG_of (k3 (i := 77) rfl) rfl
theorem kw_558 : (Jvm.Cond.methodLink "BoxGlueLaw" (67 : Nat) y_BG_drop) ∈ kG := kG_of (k3 (i := 78) (by decide +kernel)) rfl
theorem kw_559 : (Jvm.Cond.instanceMethod y_BG_drop) ∈ kG := kG_of (k3 (i := 79) (by decide +kernel)) rfl
theorem kw_560 : (Jvm.Cond.selects "BoxGlue" y_BG_drop y_BG_drop) ∈ kG := kG_of (k3 (i := 80) (by decide +kernel)) rfl
theorem kw_561 : (Jvm.Cond.code y_BG_drop prog_1_method_14_code (1 : Nat) (Option.some Jvm.ClassFile.FieldType.int)) ∈ kG := kG_of (k3 (i := 81) rfl) rfl
theorem kw_562 : (Jvm.Cond.methodLink "BoxGlue" (138 : Nat) y_AL_remove) ∈ kG := kG_of (k3 (i := 82) (by decide +kernel)) rfl
theorem kw_563 : (Jvm.Cond.instanceMethod y_AL_remove) ∈ kG := kG_of (k3 (i := 83) (by decide +kernel)) rfl
theorem kw_564 : (Jvm.Cond.selects "java/util/ArrayList" y_AL_remove y_AL_remove) ∈ kG := kG_of (k3 (i := 84) (by decide +kernel)) rfl
theorem kw_565 : (Jvm.Cond.code y_AL_remove prog_20_method_29_code (4 : Nat) (Option.some (Jvm.ClassFile.FieldType.object "java/lang/Object"))) ∈ kG := kG_of (k3 (i := 85) rfl) rfl
theorem kw_566 : (Jvm.Cond.methodLink "java/util/ArrayList" (144 : Nat) y_AL_fastRemove) ∈ kG := kG_of (k3 (i := 86) (by decide +kernel)) rfl
theorem kw_567 : (Jvm.Cond.privateMethod y_AL_fastRemove) ∈ tables_1 := k3 (i := 87) (by decide +kernel)
theorem kw_568 : (Jvm.Cond.instanceMethod y_AL_fastRemove) ∈ kG := kG_of (k3 (i := 88) (by decide +kernel)) rfl
theorem kw_569 : (Jvm.Cond.code y_AL_fastRemove prog_20_method_39_code (4 : Nat) (Option.none : Option Jvm.ClassFile.FieldType)) ∈ kG := kG_of (k3 (i := 89) rfl) rfl
theorem kw_570 : (Jvm.Cond.methodLink "java/util/ArrayList" (112 : Nat) ({ cls := "java/lang/System", name := "arraycopy", desc := "(Ljava/lang/Object;ILjava/lang/Object;II)V" } : Jvm.MethodName)) ∈ kG := kG_of (k3 (i := 90) (by decide +kernel)) rfl
theorem kw_571 : (Jvm.Cond.methodLink "BoxGlueLaw" (71 : Nat) y_BG_boxes) ∈ kG := kG_of (k3 (i := 91) (by decide +kernel)) rfl
theorem kw_572 : (Jvm.Cond.instanceMethod y_BG_boxes) ∈ kG := kG_of (k3 (i := 92) (by decide +kernel)) rfl
theorem kw_573 : (Jvm.Cond.selects "BoxGlue" y_BG_boxes y_BG_boxes) ∈ kG := kG_of (k3 (i := 93) (by decide +kernel)) rfl
theorem kw_574 : (Jvm.Cond.code y_BG_boxes prog_1_method_15_code (1 : Nat) (Option.some Jvm.ClassFile.FieldType.int)) ∈ kG := kG_of (k3 (i := 94) rfl) rfl
theorem kw_575 : (Jvm.Cond.classLink "BoxGlueLaw" (10 : Nat) "BoxGlueModel") ∈ kG := kG_of (k3 (i := 95) (by decide +kernel)) rfl
theorem kw_576 : (Jvm.Cond.instantiable "BoxGlueModel" (24 : Nat)) ∈ kG := kG_of (k3 (i := 96) (by decide +kernel)) rfl
theorem kw_577 : (Jvm.Cond.methodLink "BoxGlueLaw" (12 : Nat) y_Mod_init) ∈ kG := kG_of (k3 (i := 97) (by decide +kernel)) rfl
theorem kw_578 : (Jvm.Cond.instanceMethod y_Mod_init) ∈ kG := kG_of (k3 (i := 98) (by decide +kernel)) rfl
theorem kw_579 : (Jvm.Cond.code y_Mod_init prog_12_method_1_code (1 : Nat) (Option.none : Option Jvm.ClassFile.FieldType)) ∈ kG := kG_of (k3 (i := 99) rfl) rfl
theorem kw_580 : (Jvm.Cond.methodLink "BoxGlueModel" (1 : Nat) y_Obj_init) ∈ kG := kG_of (k3 (i := 100) (by decide +kernel)) rfl
theorem kw_581 : (Jvm.Cond.fieldLink "BoxGlueModel" (7 : Nat) "BoxGlueModel" "sort" "[I") ∈ kG := kG_of (k3 (i := 101) (by decide +kernel)) rfl
theorem kw_582 : (Jvm.Cond.fieldLink "BoxGlueModel" (13 : Nat) "BoxGlueModel" "own" "[I") ∈ kG := kG_of (k3 (i := 102) (by decide +kernel)) rfl
theorem kw_583 : (Jvm.Cond.fieldLink "BoxGlueModel" (16 : Nat) "BoxGlueModel" "high" "[I") ∈ kG := kG_of (k3 (i := 103) (by decide +kernel)) rfl
theorem kw_584 : (Jvm.Cond.fieldLink "BoxGlueModel" (19 : Nat) "BoxGlueModel" "deep" "[I") ∈ kG := kG_of (k3 (i := 104) (by decide +kernel)) rfl
theorem kw_585 : (Jvm.Cond.fieldLink "BoxGlueModel" (22 : Nat) "BoxGlueModel" "stretch" "[I") ∈ kG := kG_of (k3 (i := 105) (by decide +kernel)) rfl
theorem kw_586 : (Jvm.Cond.fieldLink "BoxGlueModel" (25 : Nat) "BoxGlueModel" "order" "[I") ∈ kG := kG_of (k3 (i := 106) (by decide +kernel)) rfl
theorem kw_587 : (Jvm.Cond.fieldLink "BoxGlueModel" (28 : Nat) "BoxGlueModel" "shrink" "[I") ∈ kG := kG_of (k3 (i := 107) (by decide +kernel)) rfl
theorem kw_588 : (Jvm.Cond.fieldLink "BoxGlueModel" (31 : Nat) "BoxGlueModel" "order2" "[I") ∈ kG := kG_of (k3 (i := 108) (by decide +kernel)) rfl
theorem kw_589 : (Jvm.Cond.fieldLink "BoxGlueModel" (34 : Nat) "BoxGlueModel" "kind" "[I") ∈ kG := kG_of (k3 (i := 109) (by decide +kernel)) rfl
theorem kw_590 : (Jvm.Cond.fieldLink "BoxGlueModel" (37 : Nat) "BoxGlueModel" "leader" "[I") ∈ kG := kG_of (k3 (i := 110) (by decide +kernel)) rfl
theorem kw_591 : (Jvm.Cond.fieldLink "BoxGlueModel" (40 : Nat) "BoxGlueModel" "came" "[J") ∈ kG := kG_of (k3 (i := 111) (by decide +kernel)) rfl
theorem kw_592 : (Jvm.Cond.fieldLink "BoxGlueModel" (44 : Nat) "BoxGlueModel" "place" "[J") ∈ kG := kG_of (k3 (i := 112) (by decide +kernel)) rfl
theorem kw_593 : (Jvm.Cond.fieldLink "BoxGlueModel" (83 : Nat) "BoxGlueModel" "size" "I") ∈ kG := kG_of (k3 (i := 113) (by decide +kernel)) rfl
theorem kw_594 : (Jvm.Cond.fieldLink "BoxGlueModel" (117 : Nat) "BoxGlueModel" "used" "I") ∈ kG := kG_of (k3 (i := 114) (by decide +kernel)) rfl
theorem kw_595 : (Jvm.Cond.fieldLink "BoxGlueModel" (74 : Nat) "BoxGlueModel" "boxes" "I") ∈ kG := kG_of (k3 (i := 115) (by decide +kernel)) rfl
theorem kw_596 : (Jvm.Cond.fieldLink "BoxGlueModel" (47 : Nat) "BoxGlueModel" "length" "[I") ∈ kG := kG_of (k3 (i := 116) (by decide +kernel)) rfl
theorem kw_597 : (Jvm.Cond.fieldLink "BoxGlueModel" (50 : Nat) "BoxGlueModel" "height" "[I") ∈ kG := kG_of (k3 (i := 117) (by decide +kernel)) rfl
theorem kw_598 : (Jvm.Cond.fieldLink "BoxGlueModel" (53 : Nat) "BoxGlueModel" "depth" "[I") ∈ kG := kG_of (k3 (i := 118) (by decide +kernel)) rfl
theorem kw_599 : (Jvm.Cond.fieldLink "BoxGlueModel" (56 : Nat) "BoxGlueModel" "from" "[I") ∈ kG := kG_of (k3 (i := 119) (by decide +kernel)) rfl
theorem kw_600 : (Jvm.Cond.fieldLink "BoxGlueModel" (59 : Nat) "BoxGlueModel" "many" "[I") ∈ kG := kG_of (k3 (i := 120) (by decide +kernel)) rfl
theorem kw_601 : (Jvm.Cond.fieldLink "BoxGlueModel" (62 : Nat) "BoxGlueModel" "bad" "[I") ∈ kG := kG_of (k3 (i := 121) (by decide +kernel)) rfl
theorem kw_602 : (Jvm.Cond.fieldLink "BoxGlueModel" (65 : Nat) "BoxGlueModel" "over" "[I") ∈ kG := kG_of (k3 (i := 122) (by decide +kernel)) rfl
theorem kw_603 : (Jvm.Cond.fieldLink "BoxGlueModel" (68 : Nat) "BoxGlueModel" "gave" "[I") ∈ kG := kG_of (k3 (i := 123) (by decide +kernel)) rfl
theorem kw_604 : (Jvm.Cond.fieldLink "BoxGlueModel" (71 : Nat) "BoxGlueModel" "plain" "[I") ∈ kG := kG_of (k3 (i := 124) (by decide +kernel)) rfl
theorem kw_605 : (Jvm.Cond.laysFinal "BoxGlueModel" "BoxGlueModel" "sort" "[I") ∈ kG := kG_of (k3 (i := 125) (by decide +kernel)) rfl
theorem kw_606 : (Jvm.Cond.soleField "BoxGlueModel" "sort") ∈ tables_1 := k3 (i := 126) (by decide +kernel)
theorem kw_607 : (Jvm.Cond.laysFinal "BoxGlueModel" "BoxGlueModel" "own" "[I") ∈ kG := kG_of (k3 (i := 127) (by decide +kernel)) rfl
theorem kw_608 : (Jvm.Cond.soleField "BoxGlueModel" "own") ∈ tables_1 := k3 (i := 128) (by decide +kernel)
theorem kw_609 : (Jvm.Cond.laysFinal "BoxGlueModel" "BoxGlueModel" "high" "[I") ∈ kG := kG_of (k3 (i := 129) (by decide +kernel)) rfl
theorem kw_610 : (Jvm.Cond.soleField "BoxGlueModel" "high") ∈ tables_1 := k3 (i := 130) (by decide +kernel)
theorem kw_611 : (Jvm.Cond.laysFinal "BoxGlueModel" "BoxGlueModel" "deep" "[I") ∈ kG := kG_of (k3 (i := 131) (by decide +kernel)) rfl
theorem kw_612 : (Jvm.Cond.soleField "BoxGlueModel" "deep") ∈ tables_1 := k3 (i := 132) (by decide +kernel)
theorem kw_613 : (Jvm.Cond.laysFinal "BoxGlueModel" "BoxGlueModel" "stretch" "[I") ∈ kG := kG_of (k3 (i := 133) (by decide +kernel)) rfl
theorem kw_614 : (Jvm.Cond.soleField "BoxGlueModel" "stretch") ∈ tables_1 := k3 (i := 134) (by decide +kernel)
theorem kw_615 : (Jvm.Cond.laysFinal "BoxGlueModel" "BoxGlueModel" "order" "[I") ∈ kG := kG_of (k3 (i := 135) (by decide +kernel)) rfl
theorem kw_616 : (Jvm.Cond.soleField "BoxGlueModel" "order") ∈ tables_1 := k3 (i := 136) (by decide +kernel)
theorem kw_617 : (Jvm.Cond.laysFinal "BoxGlueModel" "BoxGlueModel" "shrink" "[I") ∈ kG := kG_of (k3 (i := 137) (by decide +kernel)) rfl
theorem kw_618 : (Jvm.Cond.soleField "BoxGlueModel" "shrink") ∈ tables_1 := k3 (i := 138) (by decide +kernel)
theorem kw_619 : (Jvm.Cond.laysFinal "BoxGlueModel" "BoxGlueModel" "order2" "[I") ∈ kG := kG_of (k3 (i := 139) (by decide +kernel)) rfl
theorem kw_620 : (Jvm.Cond.soleField "BoxGlueModel" "order2") ∈ tables_1 := k3 (i := 140) (by decide +kernel)
theorem kw_621 : (Jvm.Cond.laysFinal "BoxGlueModel" "BoxGlueModel" "kind" "[I") ∈ kG := kG_of (k3 (i := 141) (by decide +kernel)) rfl
theorem kw_622 : (Jvm.Cond.soleField "BoxGlueModel" "kind") ∈ tables_1 := k3 (i := 142) (by decide +kernel)
theorem kw_623 : (Jvm.Cond.laysFinal "BoxGlueModel" "BoxGlueModel" "leader" "[I") ∈ kG := kG_of (k3 (i := 143) (by decide +kernel)) rfl
theorem kw_624 : (Jvm.Cond.soleField "BoxGlueModel" "leader") ∈ tables_1 := k3 (i := 144) (by decide +kernel)
theorem kw_625 : (Jvm.Cond.laysFinal "BoxGlueModel" "BoxGlueModel" "came" "[J") ∈ kG := kG_of (k3 (i := 145) (by decide +kernel)) rfl
theorem kw_626 : (Jvm.Cond.soleField "BoxGlueModel" "came") ∈ tables_1 := k3 (i := 146) (by decide +kernel)
theorem kw_627 : (Jvm.Cond.laysFinal "BoxGlueModel" "BoxGlueModel" "place" "[J") ∈ kG := kG_of (k3 (i := 147) (by decide +kernel)) rfl
theorem kw_628 : (Jvm.Cond.soleField "BoxGlueModel" "place") ∈ tables_1 := k3 (i := 148) (by decide +kernel)
theorem kw_629 : (Jvm.Cond.lays "BoxGlueModel" "BoxGlueModel" "size" "I") ∈ kG := kG_of (k3 (i := 149) (by decide +kernel)) rfl
theorem kw_630 : (Jvm.Cond.soleField "BoxGlueModel" "size") ∈ tables_1 := k3 (i := 150) (by decide +kernel)
theorem kw_631 : (Jvm.Cond.lays "BoxGlueModel" "BoxGlueModel" "used" "I") ∈ kG := kG_of (k3 (i := 151) (by decide +kernel)) rfl
theorem kw_632 : (Jvm.Cond.soleField "BoxGlueModel" "used") ∈ tables_1 := k3 (i := 152) (by decide +kernel)
theorem kw_633 : (Jvm.Cond.lays "BoxGlueModel" "BoxGlueModel" "boxes" "I") ∈ kG := kG_of (k3 (i := 153) (by decide +kernel)) rfl
theorem kw_634 : (Jvm.Cond.soleField "BoxGlueModel" "boxes") ∈ tables_1 := k3 (i := 154) (by decide +kernel)
theorem kw_635 : (Jvm.Cond.laysFinal "BoxGlueModel" "BoxGlueModel" "length" "[I") ∈ kG := kG_of (k3 (i := 155) (by decide +kernel)) rfl
theorem kw_636 : (Jvm.Cond.soleField "BoxGlueModel" "length") ∈ tables_1 := k3 (i := 156) (by decide +kernel)
theorem kw_637 : (Jvm.Cond.laysFinal "BoxGlueModel" "BoxGlueModel" "height" "[I") ∈ kG := kG_of (k3 (i := 157) (by decide +kernel)) rfl
theorem kw_638 : (Jvm.Cond.soleField "BoxGlueModel" "height") ∈ tables_1 := k3 (i := 158) (by decide +kernel)
theorem kw_639 : (Jvm.Cond.laysFinal "BoxGlueModel" "BoxGlueModel" "depth" "[I") ∈ kG := kG_of (k3 (i := 159) (by decide +kernel)) rfl
theorem kw_640 : (Jvm.Cond.soleField "BoxGlueModel" "depth") ∈ tables_1 := k3 (i := 160) (by decide +kernel)
theorem kw_641 : (Jvm.Cond.laysFinal "BoxGlueModel" "BoxGlueModel" "from" "[I") ∈ kG := kG_of (k3 (i := 161) (by decide +kernel)) rfl
theorem kw_642 : (Jvm.Cond.soleField "BoxGlueModel" "from") ∈ tables_1 := k3 (i := 162) (by decide +kernel)
theorem kw_643 : (Jvm.Cond.laysFinal "BoxGlueModel" "BoxGlueModel" "many" "[I") ∈ kG := kG_of (k3 (i := 163) (by decide +kernel)) rfl
theorem kw_644 : (Jvm.Cond.soleField "BoxGlueModel" "many") ∈ tables_1 := k3 (i := 164) (by decide +kernel)
theorem kw_645 : (Jvm.Cond.laysFinal "BoxGlueModel" "BoxGlueModel" "bad" "[I") ∈ kG := kG_of (k3 (i := 165) (by decide +kernel)) rfl
theorem kw_646 : (Jvm.Cond.soleField "BoxGlueModel" "bad") ∈ tables_1 := k3 (i := 166) (by decide +kernel)
theorem kw_647 : (Jvm.Cond.laysFinal "BoxGlueModel" "BoxGlueModel" "over" "[I") ∈ kG := kG_of (k3 (i := 167) (by decide +kernel)) rfl
theorem kw_648 : (Jvm.Cond.soleField "BoxGlueModel" "over") ∈ tables_1 := k3 (i := 168) (by decide +kernel)
theorem kw_649 : (Jvm.Cond.laysFinal "BoxGlueModel" "BoxGlueModel" "gave" "[I") ∈ kG := kG_of (k3 (i := 169) (by decide +kernel)) rfl
theorem kw_650 : (Jvm.Cond.soleField "BoxGlueModel" "gave") ∈ tables_1 := k3 (i := 170) (by decide +kernel)
theorem kw_651 : (Jvm.Cond.laysFinal "BoxGlueModel" "BoxGlueModel" "plain" "[I") ∈ kG := kG_of (k3 (i := 171) (by decide +kernel)) rfl
theorem kw_652 : (Jvm.Cond.soleField "BoxGlueModel" "plain") ∈ tables_1 := k3 (i := 172) (by decide +kernel)
theorem kw_653 : (Jvm.Cond.superclass "BoxGlueModel" "java/lang/Object") ∈ tables_1 := k3 (i := 173) (by decide +kernel)
theorem kw_654 : (Jvm.Cond.arrayClass Jvm.ClassFile.FieldType.int) ∈ kG := kG_of (k3 (i := 174) (by decide +kernel)) rfl
theorem kw_655 : (Jvm.Cond.arrayClass Jvm.ClassFile.FieldType.long) ∈ kG := kG_of (k3 (i := 175) (by decide +kernel)) rfl
theorem kw_656 : (Jvm.Cond.methodLink "BoxGlueLaw" (17 : Nat) y_Mod_box) ∈ kG := kG_of (k3 (i := 176) (by decide +kernel)) rfl
theorem kw_657 : (Jvm.Cond.instanceMethod y_Mod_box) ∈ kG := kG_of (k3 (i := 177) (by decide +kernel)) rfl
theorem kw_658 : (Jvm.Cond.selects "BoxGlueModel" y_Mod_box y_Mod_box) ∈ kG := kG_of (k3 (i := 178) (by decide +kernel)) rfl
theorem kw_659 : (Jvm.Cond.code y_Mod_box prog_12_method_5_code (4 : Nat) (Option.some Jvm.ClassFile.FieldType.int)) ∈ kG := kG_of (k3 (i := 179) rfl) rfl
theorem kw_660 : (Jvm.Cond.constant "BoxGlueModel" (78 : Nat) (100000 : Int32)) ∈ kG := kG_of (k3 (i := 180) (by decide +kernel)) rfl
theorem kw_661 : (Jvm.Cond.methodLink "BoxGlueModel" (79 : Nat) y_Mod_isIn) ∈ kG := kG_of (k3 (i := 181) (by decide +kernel)) rfl
theorem kw_662 : (Jvm.Cond.static y_Mod_isIn) ∈ kG := kG_of (k3 (i := 182) (by decide +kernel)) rfl
theorem kw_663 : (Jvm.Cond.code y_Mod_isIn prog_12_method_3_code (3 : Nat) (Option.some Jvm.ClassFile.FieldType.boolean)) ∈ kG := kG_of (k3 (i := 183) rfl) rfl
theorem kw_664 : (Jvm.Cond.methodLink "BoxGlueLaw" (22 : Nat) y_Mod_put) ∈ kG := kG_of (k3 (i := 184) (by decide +kernel)) rfl
theorem kw_665 : (Jvm.Cond.instanceMethod y_Mod_put) ∈ kG := kG_of (k3 (i := 185) (by decide +kernel)) rfl
theorem kw_666 : (Jvm.Cond.selects "BoxGlueModel" y_Mod_put y_Mod_put) ∈ kG := kG_of (k3 (i := 186) (by decide +kernel)) rfl
theorem kw_667 : (Jvm.Cond.code y_Mod_put prog_12_method_7_code (3 : Nat) (Option.some Jvm.ClassFile.FieldType.int)) ∈ kG := kG_of (k3 (i := 187) rfl) rfl
theorem kw_668 : (Jvm.Cond.methodLink "BoxGlueModel" (86 : Nat) y_Mod_isBox) ∈ kG := kG_of (k3 (i := 188) (by decide +kernel)) rfl
theorem kw_669 : (Jvm.Cond.privateMethod y_Mod_isBox) ∈ tables_1 := k3 (i := 189) (by decide +kernel)
theorem kw_670 : (Jvm.Cond.instanceMethod y_Mod_isBox) ∈ kG := kG_of (k3 (i := 190) (by decide +kernel)) rfl
theorem kw_671 : (Jvm.Cond.code y_Mod_isBox prog_12_method_4_code (2 : Nat) (Option.some Jvm.ClassFile.FieldType.boolean)) ∈ kG := kG_of (k3 (i := 191) rfl) rfl
theorem kw_672 : (Jvm.Cond.constant "BoxGlueModel" (90 : Nat) (-100000 : Int32)) ∈ kG := kG_of (k3 (i := 192) (by decide +kernel)) rfl
theorem kw_673 : (Jvm.Cond.methodLink "BoxGlueModel" (91 : Nat) y_Mod_more) ∈ kG := kG_of (k3 (i := 193) (by decide +kernel)) rfl
theorem kw_674 : (Jvm.Cond.privateMethod y_Mod_more) ∈ tables_1 := k3 (i := 194) (by decide +kernel)
theorem kw_675 : (Jvm.Cond.instanceMethod y_Mod_more) ∈ kG := kG_of (k3 (i := 195) (by decide +kernel)) rfl
theorem kw_676 : (Jvm.Cond.code y_Mod_more prog_12_method_6_code (3 : Nat) (Option.some Jvm.ClassFile.FieldType.int)) ∈ kG := kG_of (k3 (i := 196) rfl) rfl
theorem kw_677 : (Jvm.Cond.methodLink "BoxGlueLaw" (27 : Nat) y_Mod_glue) ∈ kG := kG_of (k3 (i := 197) (by decide +kernel)) rfl
theorem kw_678 : (Jvm.Cond.instanceMethod y_Mod_glue) ∈ kG := kG_of (k3 (i := 198) (by decide +kernel)) rfl
theorem kw_679 : (Jvm.Cond.selects "BoxGlueModel" y_Mod_glue y_Mod_glue) ∈ kG := kG_of (k3 (i := 199) (by decide +kernel)) rfl
theorem kw_680 : (Jvm.Cond.code y_Mod_glue prog_12_method_8_code (6 : Nat) (Option.some Jvm.ClassFile.FieldType.int)) ∈ kG := kG_of (k3 (i := 200) rfl) rfl
theorem kw_681 : (Jvm.Cond.methodLink "BoxGlueLaw" (32 : Nat) y_Mod_kern) ∈ kG := kG_of (k3 (i := 201) (by decide +kernel)) rfl
theorem kw_682 : (Jvm.Cond.instanceMethod y_Mod_kern) ∈ kG := kG_of (k3 (i := 202) (by decide +kernel)) rfl
theorem kw_683 : (Jvm.Cond.selects "BoxGlueModel" y_Mod_kern y_Mod_kern) ∈ kG := kG_of (k3 (i := 203) (by decide +kernel)) rfl
theorem kw_684 : (Jvm.Cond.code y_Mod_kern prog_12_method_9_code (2 : Nat) (Option.some Jvm.ClassFile.FieldType.int)) ∈ kG := kG_of (k3 (i := 204) rfl) rfl
theorem kw_685 : (Jvm.Cond.methodLink "BoxGlueLaw" (36 : Nat) y_Mod_rule) ∈ kG := kG_of (k3 (i := 205) (by decide +kernel)) rfl
theorem kw_686 : (Jvm.Cond.instanceMethod y_Mod_rule) ∈ kG := kG_of (k3 (i := 206) (by decide +kernel)) rfl
theorem kw_687 : (Jvm.Cond.selects "BoxGlueModel" y_Mod_rule y_Mod_rule) ∈ kG := kG_of (k3 (i := 207) (by decide +kernel)) rfl
theorem kw_688 : (Jvm.Cond.code y_Mod_rule prog_12_method_10_code (5 : Nat) (Option.some Jvm.ClassFile.FieldType.int)) ∈ kG := kG_of (k3 (i := 208) rfl) rfl
theorem kw_689 : (Jvm.Cond.constant "BoxGlueModel" (95 : Nat) (-1000000 : Int32)) ∈ kG := kG_of (k3 (i := 209) (by decide +kernel)) rfl
theorem kw_690 : (Jvm.Cond.methodLink "BoxGlueLaw" (40 : Nat) y_Mod_leaders) ∈ kG := kG_of (k3 (i := 210) (by decide +kernel)) rfl
theorem kw_691 : (Jvm.Cond.instanceMethod y_Mod_leaders) ∈ kG := kG_of (k3 (i := 211) (by decide +kernel)) rfl
theorem kw_692 : (Jvm.Cond.selects "BoxGlueModel" y_Mod_leaders y_Mod_leaders) ∈ kG := kG_of (k3 (i := 212) (by decide +kernel)) rfl
theorem kw_693 : (Jvm.Cond.code y_Mod_leaders prog_12_method_11_code (3 : Nat) (Option.some Jvm.ClassFile.FieldType.int)) ∈ kG := kG_of (k3 (i := 213) rfl) rfl
theorem kw_694 : (Jvm.Cond.methodLink "BoxGlueLaw" (66 : Nat) y_Mod_natural) ∈ kG := kG_of (k3 (i := 214) (by decide +kernel)) rfl
theorem kw_695 : (Jvm.Cond.instanceMethod y_Mod_natural) ∈ kG := kG_of (k3 (i := 215) (by decide +kernel)) rfl
theorem kw_696 : (Jvm.Cond.selects "BoxGlueModel" y_Mod_natural y_Mod_natural) ∈ kG := kG_of (k3 (i := 216) (by decide +kernel)) rfl
theorem kw_697 : (Jvm.Cond.code y_Mod_natural prog_12_method_13_code (4 : Nat) (Option.some Jvm.ClassFile.FieldType.long)) ∈ kG := kG_of (k3 (i := 217) rfl) rfl
theorem kw_698 : (Jvm.Cond.methodLink "BoxGlueModel" (96 : Nat) y_Mod_lengthOf) ∈ kG := kG_of (k3 (i := 218) (by decide +kernel)) rfl
theorem kw_699 : (Jvm.Cond.privateMethod y_Mod_lengthOf) ∈ tables_1 := k3 (i := 219) (by decide +kernel)
theorem kw_700 : (Jvm.Cond.instanceMethod y_Mod_lengthOf) ∈ kG := kG_of (k3 (i := 220) (by decide +kernel)) rfl
theorem kw_701 : (Jvm.Cond.code y_Mod_lengthOf prog_12_method_12_code (2 : Nat) (Option.some Jvm.ClassFile.FieldType.int)) ∈ kG := kG_of (k3 (i := 221) rfl) rfl
theorem kw_702 : (Jvm.Cond.methodLink "BoxGlueLaw" (44 : Nat) y_Mod_pack) ∈ kG := kG_of (k3 (i := 222) (by decide +kernel)) rfl
theorem kw_703 : (Jvm.Cond.instanceMethod y_Mod_pack) ∈ kG := kG_of (k3 (i := 223) (by decide +kernel)) rfl
theorem kw_704 : (Jvm.Cond.selects "BoxGlueModel" y_Mod_pack y_Mod_pack) ∈ kG := kG_of (k3 (i := 224) (by decide +kernel)) rfl
theorem kw_705 : (Jvm.Cond.code y_Mod_pack prog_12_method_17_code (22 : Nat) (Option.some Jvm.ClassFile.FieldType.int)) ∈ kG := kG_of (k3 (i := 225) rfl) rfl
theorem kw_706 : (Jvm.Cond.methodLink "BoxGlueModel" (110 : Nat) y_Mod_natural) ∈ kG := kG_of (k3 (i := 226) (by decide +kernel)) rfl
theorem kw_707 : (Jvm.Cond.constant "BoxGlueModel" (114 : Nat) (1000000 : Int32)) ∈ kG := kG_of (k3 (i := 227) (by decide +kernel)) rfl
theorem kw_708 : (Jvm.Cond.constantLong "BoxGlueModel" (115 : Nat) (1000000 : Int64)) ∈ kG := kG_of (k3 (i := 228) (by decide +kernel)) rfl
theorem kw_709 : (Jvm.Cond.methodLink "BoxGlueModel" (120 : Nat) y_Mod_greatestOrder) ∈ kG := kG_of (k3 (i := 229) (by decide +kernel)) rfl
theorem kw_710 : (Jvm.Cond.privateMethod y_Mod_greatestOrder) ∈ tables_1 := k3 (i := 230) (by decide +kernel)
theorem kw_711 : (Jvm.Cond.instanceMethod y_Mod_greatestOrder) ∈ kG := kG_of (k3 (i := 231) (by decide +kernel)) rfl
theorem kw_712 : (Jvm.Cond.code y_Mod_greatestOrder prog_12_method_16_code (3 : Nat) (Option.some Jvm.ClassFile.FieldType.int)) ∈ kG := kG_of (k3 (i := 232) rfl) rfl
theorem kw_713 : (Jvm.Cond.methodLink "BoxGlueModel" (106 : Nat) y_Mod_sumOf) ∈ kG := kG_of (k3 (i := 233) (by decide +kernel)) rfl
theorem kw_714 : (Jvm.Cond.privateMethod y_Mod_sumOf) ∈ tables_1 := k3 (i := 234) (by decide +kernel)
theorem kw_715 : (Jvm.Cond.instanceMethod y_Mod_sumOf) ∈ kG := kG_of (k3 (i := 235) (by decide +kernel)) rfl
theorem kw_716 : (Jvm.Cond.code y_Mod_sumOf prog_12_method_14_code (7 : Nat) (Option.some Jvm.ClassFile.FieldType.long)) ∈ kG := kG_of (k3 (i := 236) rfl) rfl
theorem kw_717 : (Jvm.Cond.methodLink "BoxGlueModel" (124 : Nat) y_Mod_badness) ∈ kG := kG_of (k3 (i := 237) (by decide +kernel)) rfl
theorem kw_718 : (Jvm.Cond.static y_Mod_badness) ∈ kG := kG_of (k3 (i := 238) (by decide +kernel)) rfl
theorem kw_719 : (Jvm.Cond.code y_Mod_badness prog_12_method_15_code (6 : Nat) (Option.some Jvm.ClassFile.FieldType.int)) ∈ kG := kG_of (k3 (i := 239) rfl) rfl
theorem kw_720 : (Jvm.Cond.constantLong "BoxGlueModel" (100 : Nat) (5 : Int64)) ∈ kG := kG_of (k4 (i := 0) (by decide +kernel)) rfl
theorem kw_721 : (Jvm.Cond.constantLong "BoxGlueModel" (102 : Nat) (100 : Int64)) ∈ kG := kG_of (k4 (i := 1) (by decide +kernel)) rfl
theorem kw_722 : (Jvm.Cond.constantLong "BoxGlueModel" (104 : Nat) (10000 : Int64)) ∈ kG := kG_of (k4 (i := 2) (by decide +kernel)) rfl
theorem kw_723 : (Jvm.Cond.methodLink "BoxGlueModel" (128 : Nat) y_Mod_heightOf) ∈ kG := kG_of (k4 (i := 3) (by decide +kernel)) rfl
theorem kw_724 : (Jvm.Cond.privateMethod y_Mod_heightOf) ∈ tables_1 := k4 (i := 4) (by decide +kernel)
theorem kw_725 : (Jvm.Cond.instanceMethod y_Mod_heightOf) ∈ kG := kG_of (k4 (i := 5) (by decide +kernel)) rfl
theorem kw_726 : (Jvm.Cond.code y_Mod_heightOf prog_12_method_21_code (3 : Nat) (Option.some Jvm.ClassFile.FieldType.int)) ∈ kG := kG_of (k4 (i := 6) rfl) rfl
theorem kw_727 : (Jvm.Cond.methodLink "BoxGlueModel" (131 : Nat) y_Mod_depthOf) ∈ kG := kG_of (k4 (i := 7) (by decide +kernel)) rfl
theorem kw_728 : (Jvm.Cond.privateMethod y_Mod_depthOf) ∈ tables_1 := k4 (i := 8) (by decide +kernel)
theorem kw_729 : (Jvm.Cond.instanceMethod y_Mod_depthOf) ∈ kG := kG_of (k4 (i := 9) (by decide +kernel)) rfl
theorem kw_730 : (Jvm.Cond.code y_Mod_depthOf prog_12_method_22_code (3 : Nat) (Option.some Jvm.ClassFile.FieldType.int)) ∈ kG := kG_of (k4 (i := 10) rfl) rfl
theorem kw_731 : (Jvm.Cond.methodLink "BoxGlueModel" (134 : Nat) y_Mod_copy) ∈ kG := kG_of (k4 (i := 11) (by decide +kernel)) rfl
theorem kw_732 : (Jvm.Cond.privateMethod y_Mod_copy) ∈ tables_1 := k4 (i := 12) (by decide +kernel)
theorem kw_733 : (Jvm.Cond.instanceMethod y_Mod_copy) ∈ kG := kG_of (k4 (i := 13) (by decide +kernel)) rfl
theorem kw_734 : (Jvm.Cond.code y_Mod_copy prog_12_method_18_code (3 : Nat) (Option.none : Option Jvm.ClassFile.FieldType)) ∈ kG := kG_of (k4 (i := 14) rfl) rfl
theorem kw_735 : (Jvm.Cond.methodLink "BoxGlueLaw" (48 : Nat) y_Mod_unpack) ∈ kG := kG_of (k4 (i := 15) (by decide +kernel)) rfl
theorem kw_736 : (Jvm.Cond.instanceMethod y_Mod_unpack) ∈ kG := kG_of (k4 (i := 16) (by decide +kernel)) rfl
theorem kw_737 : (Jvm.Cond.selects "BoxGlueModel" y_Mod_unpack y_Mod_unpack) ∈ kG := kG_of (k4 (i := 17) (by decide +kernel)) rfl
theorem kw_738 : (Jvm.Cond.code y_Mod_unpack prog_12_method_19_code (3 : Nat) (Option.some Jvm.ClassFile.FieldType.int)) ∈ kG := kG_of (k4 (i := 18) rfl) rfl
theorem kw_739 : (Jvm.Cond.methodLink "BoxGlueLaw" (52 : Nat) y_Mod_told) ∈ kG := kG_of (k4 (i := 19) (by decide +kernel)) rfl
theorem kw_740 : (Jvm.Cond.instanceMethod y_Mod_told) ∈ kG := kG_of (k4 (i := 20) (by decide +kernel)) rfl
theorem kw_741 : (Jvm.Cond.selects "BoxGlueModel" y_Mod_told y_Mod_told) ∈ kG := kG_of (k4 (i := 21) (by decide +kernel)) rfl
theorem kw_742 : (Jvm.Cond.code y_Mod_told prog_12_method_20_code (3 : Nat) (Option.some Jvm.ClassFile.FieldType.int)) ∈ kG := kG_of (k4 (i := 22) rfl) rfl
theorem kw_743 : (Jvm.Cond.methodLink "BoxGlueLaw" (56 : Nat) y_Mod_item) ∈ kG := kG_of (k4 (i := 23) (by decide +kernel)) rfl
theorem kw_744 : (Jvm.Cond.instanceMethod y_Mod_item) ∈ kG := kG_of (k4 (i := 24) (by decide +kernel)) rfl
theorem kw_745 : (Jvm.Cond.selects "BoxGlueModel" y_Mod_item y_Mod_item) ∈ kG := kG_of (k4 (i := 25) (by decide +kernel)) rfl
theorem kw_746 : (Jvm.Cond.code y_Mod_item prog_12_method_28_code (5 : Nat) (Option.some Jvm.ClassFile.FieldType.int)) ∈ kG := kG_of (k4 (i := 26) rfl) rfl
theorem kw_747 : (Jvm.Cond.methodLink "BoxGlueModel" (145 : Nat) y_Mod_drawn) ∈ kG := kG_of (k4 (i := 27) (by decide +kernel)) rfl
theorem kw_748 : (Jvm.Cond.privateMethod y_Mod_drawn) ∈ tables_1 := k4 (i := 28) (by decide +kernel)
theorem kw_749 : (Jvm.Cond.instanceMethod y_Mod_drawn) ∈ kG := kG_of (k4 (i := 29) (by decide +kernel)) rfl
theorem kw_750 : (Jvm.Cond.code y_Mod_drawn prog_12_method_24_code (4 : Nat) (Option.some Jvm.ClassFile.FieldType.int)) ∈ kG := kG_of (k4 (i := 30) rfl) rfl
theorem kw_751 : (Jvm.Cond.methodLink "BoxGlueModel" (138 : Nat) y_Mod_leaderLength) ∈ kG := kG_of (k4 (i := 31) (by decide +kernel)) rfl
theorem kw_752 : (Jvm.Cond.privateMethod y_Mod_leaderLength) ∈ tables_1 := k4 (i := 32) (by decide +kernel)
theorem kw_753 : (Jvm.Cond.instanceMethod y_Mod_leaderLength) ∈ kG := kG_of (k4 (i := 33) (by decide +kernel)) rfl
theorem kw_754 : (Jvm.Cond.code y_Mod_leaderLength prog_12_method_23_code (2 : Nat) (Option.some Jvm.ClassFile.FieldType.int)) ∈ kG := kG_of (k4 (i := 34) rfl) rfl
theorem kw_755 : (Jvm.Cond.methodLink "BoxGlueModel" (141 : Nat) y_Mod_firstPlace) ∈ kG := kG_of (k4 (i := 35) (by decide +kernel)) rfl
theorem kw_756 : (Jvm.Cond.privateMethod y_Mod_firstPlace) ∈ tables_1 := k4 (i := 36) (by decide +kernel)
theorem kw_757 : (Jvm.Cond.instanceMethod y_Mod_firstPlace) ∈ kG := kG_of (k4 (i := 37) (by decide +kernel)) rfl
theorem kw_758 : (Jvm.Cond.code y_Mod_firstPlace prog_12_method_25_code (6 : Nat) (Option.some Jvm.ClassFile.FieldType.long)) ∈ kG := kG_of (k4 (i := 38) rfl) rfl
theorem kw_759 : (Jvm.Cond.methodLink "BoxGlueModel" (150 : Nat) y_Mod_firstOf) ∈ kG := kG_of (k4 (i := 39) (by decide +kernel)) rfl
theorem kw_760 : (Jvm.Cond.privateMethod y_Mod_firstOf) ∈ tables_1 := k4 (i := 40) (by decide +kernel)
theorem kw_761 : (Jvm.Cond.instanceMethod y_Mod_firstOf) ∈ kG := kG_of (k4 (i := 41) (by decide +kernel)) rfl
theorem kw_762 : (Jvm.Cond.code y_Mod_firstOf prog_12_method_26_code (5 : Nat) (Option.some Jvm.ClassFile.FieldType.long)) ∈ kG := kG_of (k4 (i := 42) rfl) rfl
theorem kw_763 : (Jvm.Cond.constantLong "BoxGlueModel" (148 : Nat) (2 : Int64)) ∈ kG := kG_of (k4 (i := 43) (by decide +kernel)) rfl
theorem kw_764 : (Jvm.Cond.methodLink "BoxGlueModel" (153 : Nat) y_Mod_stepOf) ∈ kG := kG_of (k4 (i := 44) (by decide +kernel)) rfl
theorem kw_765 : (Jvm.Cond.privateMethod y_Mod_stepOf) ∈ tables_1 := k4 (i := 45) (by decide +kernel)
theorem kw_766 : (Jvm.Cond.instanceMethod y_Mod_stepOf) ∈ kG := kG_of (k4 (i := 46) (by decide +kernel)) rfl
theorem kw_767 : (Jvm.Cond.code y_Mod_stepOf prog_12_method_27_code (5 : Nat) (Option.some Jvm.ClassFile.FieldType.long)) ∈ kG := kG_of (k4 (i := 47) rfl) rfl
theorem kw_768 : (Jvm.Cond.methodLink "BoxGlueLaw" (61 : Nat) y_Mod_size) ∈ kG := kG_of (k4 (i := 48) (by decide +kernel)) rfl
theorem kw_769 : (Jvm.Cond.instanceMethod y_Mod_size) ∈ kG := kG_of (k4 (i := 49) (by decide +kernel)) rfl
theorem kw_770 : (Jvm.Cond.selects "BoxGlueModel" y_Mod_size y_Mod_size) ∈ kG := kG_of (k4 (i := 50) (by decide +kernel)) rfl
theorem kw_771 : (Jvm.Cond.code y_Mod_size prog_12_method_29_code (1 : Nat) (Option.some Jvm.ClassFile.FieldType.int)) ∈ kG := kG_of (k4 (i := 51) rfl) rfl
theorem kw_772 : (Jvm.Cond.methodLink "BoxGlueLaw" (70 : Nat) y_Mod_drop) ∈ kG := kG_of (k4 (i := 52) (by decide +kernel)) rfl
theorem kw_773 : (Jvm.Cond.instanceMethod y_Mod_drop) ∈ kG := kG_of (k4 (i := 53) (by decide +kernel)) rfl
theorem kw_774 : (Jvm.Cond.selects "BoxGlueModel" y_Mod_drop y_Mod_drop) ∈ kG := kG_of (k4 (i := 54) (by decide +kernel)) rfl
theorem kw_775 : (Jvm.Cond.code y_Mod_drop prog_12_method_30_code (1 : Nat) (Option.some Jvm.ClassFile.FieldType.int)) ∈ kG := kG_of (k4 (i := 55) rfl) rfl
theorem kw_776 : (Jvm.Cond.methodLink "BoxGlueLaw" (74 : Nat) y_Mod_boxes) ∈ kG := kG_of (k4 (i := 56) (by decide +kernel)) rfl
theorem kw_777 : (Jvm.Cond.instanceMethod y_Mod_boxes) ∈ kG := kG_of (k4 (i := 57) (by decide +kernel)) rfl
theorem kw_778 : (Jvm.Cond.selects "BoxGlueModel" y_Mod_boxes y_Mod_boxes) ∈ kG := kG_of (k4 (i := 58) (by decide +kernel)) rfl
theorem kw_779 : (Jvm.Cond.code y_Mod_boxes prog_12_method_31_code (1 : Nat) (Option.some Jvm.ClassFile.FieldType.int)) ∈ kG := kG_of (k4 (i := 59) rfl) rfl
theorem kw_780 : (Jvm.Cond.castable "BoxGlue$Box" "BoxGlue$Box") ∈ tables_1 := k4 (i := 60) (by decide +kernel)
theorem kw_781 : (Jvm.Cond.castable "BoxGlue$Glue" "BoxGlue$Glue") ∈ tables_1 := k4 (i := 61) (by decide +kernel)
theorem kw_782 : (Jvm.Cond.castable "BoxGlue$Glue" "BoxGlue$Item") ∈ tables_1 := k4 (i := 62) (by decide +kernel)
theorem kw_783 : (Jvm.Cond.castable "BoxGlue$Kern" "BoxGlue$Item") ∈ tables_1 := k4 (i := 63) (by decide +kernel)
theorem kw_784 : (Jvm.Cond.castable "BoxGlue$Put" "BoxGlue$Item") ∈ tables_1 := k4 (i := 64) (by decide +kernel)
theorem kw_785 : (Jvm.Cond.castable "BoxGlue$Rule" "BoxGlue$Item") ∈ tables_1 := k4 (i := 65) (by decide +kernel)
theorem kw_786 : (Jvm.Cond.castable "BoxGlue$Placed" "BoxGlue$Placed") ∈ tables_1 := k4 (i := 66) (by decide +kernel)
theorem kw_787 : (Jvm.Cond.sameMethod "[Ljava/lang/Object;" "java/lang/Object" "getClass" "()Ljava/lang/Class;") ∈ kG := kG_of (k4 (i := 67) (by decide +kernel)) rfl
theorem kw_788 : (Jvm.Cond.selects "[Ljava/lang/Object;" ({ cls := "java/lang/Object", name := "getClass", desc := "()Ljava/lang/Class;" } : Jvm.MethodName) ({ cls := "java/lang/Object", name := "getClass", desc := "()Ljava/lang/Class;" } : Jvm.MethodName)) ∈ kG := kG_of (k4 (i := 68) (by decide +kernel)) rfl
theorem kw_789 : (Jvm.Cond.declares ({ cls := "java/lang/Object", name := "getClass", desc := "()Ljava/lang/Class;" } : Jvm.MethodName)) ∈ tables_1 := k4 (i := 69) (by decide +kernel)
theorem kw_790 : (Jvm.Cond.castable "BoxGlue" "java/lang/Object") ∈ tables_1 := k4 (i := 70) (by decide +kernel)
theorem kw_791 : (Jvm.Cond.castable "BoxGlueModel" "java/lang/Object") ∈ tables_1 := k4 (i := 71) (by decide +kernel)
theorem kw_792 : (Jvm.Cond.castable "BoxGlue$Box" "java/lang/Object") ∈ tables_1 := k4 (i := 72) (by decide +kernel)
theorem kw_793 : (Jvm.Cond.castable "BoxGlue$Fit" "java/lang/Object") ∈ tables_1 := k4 (i := 73) (by decide +kernel)
theorem kw_794 : (Jvm.Cond.castable "BoxGlue$Put" "java/lang/Object") ∈ tables_1 := k4 (i := 74) (by decide +kernel)
theorem kw_795 : (Jvm.Cond.castable "BoxGlue$Glue" "java/lang/Object") ∈ tables_1 := k4 (i := 75) (by decide +kernel)
theorem kw_796 : (Jvm.Cond.castable "BoxGlue$Leaders" "java/lang/Object") ∈ tables_1 := k4 (i := 76) (by decide +kernel)
theorem kw_797 : (Jvm.Cond.castable "BoxGlue$Kern" "java/lang/Object") ∈ tables_1 := k4 (i := 77) (by decide +kernel)
theorem kw_798 : (Jvm.Cond.castable "BoxGlue$Rule" "java/lang/Object") ∈ tables_1 := k4 (i := 78) (by decide +kernel)
theorem kw_799 : (Jvm.Cond.castable "BoxGlue$Placed" "java/lang/Object") ∈ tables_1 := k4 (i := 79) (by decide +kernel)
theorem ks_AL_add2 : Cond.selects "java/util/ArrayList" y_AL_add2 y_AL_add2 ∈ kG := kG_sel (List.mem_of_getElem? (i := 0) (by decide +kernel)) rfl
theorem ks_AL_grow : Cond.selects "java/util/ArrayList" y_AL_grow y_AL_grow ∈ kG := kG_sel (List.mem_of_getElem? (i := 1) (by decide +kernel)) rfl
theorem ks_AL_grow2 : Cond.selects "java/util/ArrayList" y_AL_grow2 y_AL_grow2 ∈ kG := kG_sel (List.mem_of_getElem? (i := 2) (by decide +kernel)) rfl
theorem ks_BG_isBox : Cond.selects "BoxGlue" y_BG_isBox y_BG_isBox ∈ kG := kG_sel (List.mem_of_getElem? (i := 3) (by decide +kernel)) rfl
theorem ks_BG_append : Cond.selects "BoxGlue" y_BG_append y_BG_append ∈ kG := kG_sel (List.mem_of_getElem? (i := 4) (by decide +kernel)) rfl
theorem ks_Fit_share : Cond.selects "BoxGlue$Fit" y_Fit_share y_Fit_share ∈ kG := kG_sel (List.mem_of_getElem? (i := 5) (by decide +kernel)) rfl
theorem ks_Fit_cubed : Cond.selects "BoxGlue$Fit" y_Fit_cubed y_Fit_cubed ∈ kG := kG_sel (List.mem_of_getElem? (i := 6) (by decide +kernel)) rfl
theorem ks_Leaders_alignedFrom : Cond.selects "BoxGlue$Leaders" y_Leaders_alignedFrom y_Leaders_alignedFrom ∈ kG := kG_sel (List.mem_of_getElem? (i := 7) (by decide +kernel)) rfl
theorem ks_Leaders_gap : Cond.selects "BoxGlue$Leaders" y_Leaders_gap y_Leaders_gap ∈ kG := kG_sel (List.mem_of_getElem? (i := 8) (by decide +kernel)) rfl
theorem ks_AL_fastRemove : Cond.selects "java/util/ArrayList" y_AL_fastRemove y_AL_fastRemove ∈ kG := kG_sel (List.mem_of_getElem? (i := 9) (by decide +kernel)) rfl
theorem ks_Mod_isBox : Cond.selects "BoxGlueModel" y_Mod_isBox y_Mod_isBox ∈ kG := kG_sel (List.mem_of_getElem? (i := 10) (by decide +kernel)) rfl
theorem ks_Mod_more : Cond.selects "BoxGlueModel" y_Mod_more y_Mod_more ∈ kG := kG_sel (List.mem_of_getElem? (i := 11) (by decide +kernel)) rfl
theorem ks_Mod_lengthOf : Cond.selects "BoxGlueModel" y_Mod_lengthOf y_Mod_lengthOf ∈ kG := kG_sel (List.mem_of_getElem? (i := 12) (by decide +kernel)) rfl
theorem ks_Mod_greatestOrder : Cond.selects "BoxGlueModel" y_Mod_greatestOrder y_Mod_greatestOrder ∈ kG := kG_sel (List.mem_of_getElem? (i := 13) (by decide +kernel)) rfl
theorem ks_Mod_sumOf : Cond.selects "BoxGlueModel" y_Mod_sumOf y_Mod_sumOf ∈ kG := kG_sel (List.mem_of_getElem? (i := 14) (by decide +kernel)) rfl
theorem ks_Mod_heightOf : Cond.selects "BoxGlueModel" y_Mod_heightOf y_Mod_heightOf ∈ kG := kG_sel (List.mem_of_getElem? (i := 15) (by decide +kernel)) rfl
theorem ks_Mod_depthOf : Cond.selects "BoxGlueModel" y_Mod_depthOf y_Mod_depthOf ∈ kG := kG_sel (List.mem_of_getElem? (i := 16) (by decide +kernel)) rfl
theorem ks_Mod_copy : Cond.selects "BoxGlueModel" y_Mod_copy y_Mod_copy ∈ kG := kG_sel (List.mem_of_getElem? (i := 17) (by decide +kernel)) rfl
theorem ks_Mod_drawn : Cond.selects "BoxGlueModel" y_Mod_drawn y_Mod_drawn ∈ kG := kG_sel (List.mem_of_getElem? (i := 18) (by decide +kernel)) rfl
theorem ks_Mod_leaderLength : Cond.selects "BoxGlueModel" y_Mod_leaderLength y_Mod_leaderLength ∈ kG := kG_sel (List.mem_of_getElem? (i := 19) (by decide +kernel)) rfl
theorem ks_Mod_firstPlace : Cond.selects "BoxGlueModel" y_Mod_firstPlace y_Mod_firstPlace ∈ kG := kG_sel (List.mem_of_getElem? (i := 20) (by decide +kernel)) rfl
theorem ks_Mod_firstOf : Cond.selects "BoxGlueModel" y_Mod_firstOf y_Mod_firstOf ∈ kG := kG_sel (List.mem_of_getElem? (i := 21) (by decide +kernel)) rfl
theorem ks_Mod_stepOf : Cond.selects "BoxGlueModel" y_Mod_stepOf y_Mod_stepOf ∈ kG := kG_sel (List.mem_of_getElem? (i := 22) (by decide +kernel)) rfl
theorem ki_BG : ∀ w ∈ u_ws "BoxGlue" kT_BG 3, w ∈ kG := by
  intro w hw
  obtain ⟨k, hk, rfl⟩ := List.mem_map.mp hw
  have hk := List.mem_range.mp hk
  match k, hk with
  | 0, _ => exact kw_58
  | 1, _ => exact kw_60
  | 2, _ => exact kw_62
  | k + 3, h => exact absurd h (by omega)
theorem ki_AL : ∀ w ∈ u_ws "java/util/ArrayList" kT_AL 3, w ∈ kG := by
  intro w hw
  obtain ⟨k, hk, rfl⟩ := List.mem_map.mp hw
  have hk := List.mem_range.mp hk
  match k, hk with
  | 0, _ => exact kw_48
  | 1, _ => exact kw_50
  | 2, _ => exact kw_52
  | k + 3, h => exact absurd h (by omega)
theorem ki_Box : ∀ w ∈ u_ws "BoxGlue$Box" kT_Box 5, w ∈ kG := by
  intro w hw
  obtain ⟨k, hk, rfl⟩ := List.mem_map.mp hw
  have hk := List.mem_range.mp hk
  match k, hk with
  | 0, _ => exact kw_121
  | 1, _ => exact kw_123
  | 2, _ => exact kw_125
  | 3, _ => exact kw_127
  | 4, _ => exact kw_129
  | k + 5, h => exact absurd h (by omega)
theorem ki_Fit : ∀ w ∈ u_ws "BoxGlue$Fit" kT_Fit 4, w ∈ kG := by
  intro w hw
  obtain ⟨k, hk, rfl⟩ := List.mem_map.mp hw
  have hk := List.mem_range.mp hk
  match k, hk with
  | 0, _ => exact kw_94
  | 1, _ => exact kw_96
  | 2, _ => exact kw_98
  | 3, _ => exact kw_100
  | k + 4, h => exact absurd h (by omega)
theorem ki_Put : ∀ w ∈ u_ws "BoxGlue$Put" kT_Put 4, w ∈ kG := by
  intro w hw
  obtain ⟨k, hk, rfl⟩ := List.mem_map.mp hw
  have hk := List.mem_range.mp hk
  match k, hk with
  | 0, _ => exact kw_239
  | 1, _ => exact kw_241
  | 2, _ => exact kw_235
  | 3, _ => exact kw_237
  | k + 4, h => exact absurd h (by omega)
theorem ki_Glue : ∀ w ∈ u_ws "BoxGlue$Glue" kT_Glue 7, w ∈ kG := by
  intro w hw
  obtain ⟨k, hk, rfl⟩ := List.mem_map.mp hw
  have hk := List.mem_range.mp hk
  match k, hk with
  | 0, _ => exact kw_289
  | 1, _ => exact kw_290
  | 2, _ => exact kw_279
  | 3, _ => exact kw_281
  | 4, _ => exact kw_283
  | 5, _ => exact kw_285
  | 6, _ => exact kw_287
  | k + 7, h => exact absurd h (by omega)
theorem ki_Kern : ∀ w ∈ u_ws "BoxGlue$Kern" kT_Kern 2, w ∈ kG := by
  intro w hw
  obtain ⟨k, hk, rfl⟩ := List.mem_map.mp hw
  have hk := List.mem_range.mp hk
  match k, hk with
  | 0, _ => exact kw_302
  | 1, _ => exact kw_303
  | k + 2, h => exact absurd h (by omega)
theorem ki_Rule : ∀ w ∈ u_ws "BoxGlue$Rule" kT_Rule 4, w ∈ kG := by
  intro w hw
  obtain ⟨k, hk, rfl⟩ := List.mem_map.mp hw
  have hk := List.mem_range.mp hk
  match k, hk with
  | 0, _ => exact kw_325
  | 1, _ => exact kw_326
  | 2, _ => exact kw_321
  | 3, _ => exact kw_323
  | k + 4, h => exact absurd h (by omega)
theorem ki_Leaders : ∀ w ∈ u_ws "BoxGlue$Leaders" kT_Leaders 2, w ∈ kG := by
  intro w hw
  obtain ⟨k, hk, rfl⟩ := List.mem_map.mp hw
  have hk := List.mem_range.mp hk
  match k, hk with
  | 0, _ => exact kw_265
  | 1, _ => exact kw_267
  | k + 2, h => exact absurd h (by omega)
theorem ki_Placed : ∀ w ∈ u_ws "BoxGlue$Placed" kT_Placed 3, w ∈ kG := by
  intro w hw
  obtain ⟨k, hk, rfl⟩ := List.mem_map.mp hw
  have hk := List.mem_range.mp hk
  match k, hk with
  | 0, _ => exact kw_442
  | 1, _ => exact kw_444
  | 2, _ => exact kw_446
  | k + 3, h => exact absurd h (by omega)
theorem ki_Mod : ∀ w ∈ u_ws "BoxGlueModel" kT_Mod 24, w ∈ kG := by
  intro w hw
  obtain ⟨k, hk, rfl⟩ := List.mem_map.mp hw
  have hk := List.mem_range.mp hk
  match k, hk with
  | 0, _ => exact kw_605
  | 1, _ => exact kw_607
  | 2, _ => exact kw_609
  | 3, _ => exact kw_611
  | 4, _ => exact kw_613
  | 5, _ => exact kw_615
  | 6, _ => exact kw_617
  | 7, _ => exact kw_619
  | 8, _ => exact kw_621
  | 9, _ => exact kw_623
  | 10, _ => exact kw_625
  | 11, _ => exact kw_627
  | 12, _ => exact kw_629
  | 13, _ => exact kw_631
  | 14, _ => exact kw_633
  | 15, _ => exact kw_635
  | 16, _ => exact kw_637
  | 17, _ => exact kw_639
  | 18, _ => exact kw_641
  | 19, _ => exact kw_643
  | 20, _ => exact kw_645
  | 21, _ => exact kw_647
  | 22, _ => exact kw_649
  | 23, _ => exact kw_651
  | k + 24, h => exact absurd h (by omega)
end
section
theorem d_BG_init_0 : decode b_BG_init 0 = .ok (.aload_n 0, 1) := by decide +kernel
theorem d_BG_init_1 : decode b_BG_init 1 = .ok (.invokespecial 1, 3) := by decide +kernel
theorem d_BG_init_4 : decode b_BG_init 4 = .ok (.aload_n 0, 1) := by decide +kernel
theorem d_BG_init_5 : decode b_BG_init 5 = .ok (.new 7, 3) := by decide +kernel
theorem d_BG_init_8 : decode b_BG_init 8 = .ok (.dup, 1) := by decide +kernel
theorem d_BG_init_9 : decode b_BG_init 9 = .ok (.invokespecial 9, 3) := by decide +kernel
theorem d_BG_init_12 : decode b_BG_init 12 = .ok (.putfield 10, 3) := by decide +kernel
theorem d_BG_init_15 : decode b_BG_init 15 = .ok (.aload_n 0, 1) := by decide +kernel
theorem d_BG_init_16 : decode b_BG_init 16 = .ok (.new 7, 3) := by decide +kernel
theorem d_BG_init_19 : decode b_BG_init 19 = .ok (.dup, 1) := by decide +kernel
theorem d_BG_init_20 : decode b_BG_init 20 = .ok (.invokespecial 9, 3) := by decide +kernel
theorem d_BG_init_23 : decode b_BG_init 23 = .ok (.putfield 16, 3) := by decide +kernel
theorem d_BG_init_26 : decode b_BG_init 26 = .ok (.aload_n 0, 1) := by decide +kernel
theorem d_BG_init_27 : decode b_BG_init 27 = .ok (.iconst 0, 1) := by decide +kernel
theorem d_BG_init_28 : decode b_BG_init 28 = .ok (.putfield 19, 3) := by decide +kernel
theorem d_BG_init_31 : decode b_BG_init 31 = .ok (.return_, 1) := by decide +kernel
theorem d_Obj_init_0 : decode b_Obj_init 0 = .ok (.return_, 1) := by decide +kernel
theorem d_AL_init_0 : decode b_AL_init 0 = .ok (.aload_n 0, 1) := by decide +kernel
theorem d_AL_init_1 : decode b_AL_init 1 = .ok (.invokespecial 1, 3) := by decide +kernel
theorem d_AL_init_4 : decode b_AL_init 4 = .ok (.aload_n 0, 1) := by decide +kernel
theorem d_AL_init_5 : decode b_AL_init 5 = .ok (.getstatic 39, 3) := by decide +kernel
theorem d_AL_init_8 : decode b_AL_init 8 = .ok (.putfield 9, 3) := by decide +kernel
theorem d_AL_init_11 : decode b_AL_init 11 = .ok (.return_, 1) := by decide +kernel
theorem d_AbL_init_0 : decode b_AbL_init 0 = .ok (.aload_n 0, 1) := by decide +kernel
theorem d_AbL_init_1 : decode b_AbL_init 1 = .ok (.invokespecial 1, 3) := by decide +kernel
theorem d_AbL_init_4 : decode b_AbL_init 4 = .ok (.aload_n 0, 1) := by decide +kernel
theorem d_AbL_init_5 : decode b_AbL_init 5 = .ok (.iconst 0, 1) := by decide +kernel
theorem d_AbL_init_6 : decode b_AbL_init 6 = .ok (.putfield 7, 3) := by decide +kernel
theorem d_AbL_init_9 : decode b_AbL_init 9 = .ok (.return_, 1) := by decide +kernel
theorem d_AbC_init_0 : decode b_AbC_init 0 = .ok (.aload_n 0, 1) := by decide +kernel
theorem d_AbC_init_1 : decode b_AbC_init 1 = .ok (.invokespecial 1, 3) := by decide +kernel
theorem d_AbC_init_4 : decode b_AbC_init 4 = .ok (.return_, 1) := by decide +kernel
theorem d_BG_box_0 : decode b_BG_box 0 = .ok (.iload_n 1, 1) := by decide +kernel
theorem d_BG_box_1 : decode b_BG_box 1 = .ok (.invokestatic 23, 3) := by decide +kernel
theorem d_BG_box_4 : decode b_BG_box 4 = .ok (.ifCond .eq 17, 3) := by decide +kernel
theorem d_BG_box_7 : decode b_BG_box 7 = .ok (.iload_n 2, 1) := by decide +kernel
theorem d_BG_box_8 : decode b_BG_box 8 = .ok (.invokestatic 23, 3) := by decide +kernel
theorem d_BG_box_11 : decode b_BG_box 11 = .ok (.ifCond .eq 10, 3) := by decide +kernel
theorem d_BG_box_14 : decode b_BG_box 14 = .ok (.iload_n 3, 1) := by decide +kernel
theorem d_BG_box_15 : decode b_BG_box 15 = .ok (.invokestatic 23, 3) := by decide +kernel
theorem d_BG_box_18 : decode b_BG_box 18 = .ok (.ifCond .ne 5, 3) := by decide +kernel
theorem d_BG_box_21 : decode b_BG_box 21 = .ok (.iconst (-1), 1) := by decide +kernel
theorem d_BG_box_22 : decode b_BG_box 22 = .ok (.ireturn, 1) := by decide +kernel
theorem d_BG_box_23 : decode b_BG_box 23 = .ok (.aload_n 0, 1) := by decide +kernel
theorem d_BG_box_24 : decode b_BG_box 24 = .ok (.getfield 16, 3) := by decide +kernel
theorem d_BG_box_27 : decode b_BG_box 27 = .ok (.invokevirtual 27, 3) := by decide +kernel
theorem d_BG_box_30 : decode b_BG_box 30 = .ok (.bipush 60, 2) := by decide +kernel
theorem d_BG_box_32 : decode b_BG_box 32 = .ok (.if_icmp .lt 6, 3) := by decide +kernel
theorem d_BG_box_35 : decode b_BG_box 35 = .ok (.bipush (-2), 2) := by decide +kernel
theorem d_BG_box_37 : decode b_BG_box 37 = .ok (.ireturn, 1) := by decide +kernel
theorem d_BG_box_38 : decode b_BG_box 38 = .ok (.aload_n 0, 1) := by decide +kernel
theorem d_BG_box_39 : decode b_BG_box 39 = .ok (.getfield 16, 3) := by decide +kernel
theorem d_BG_box_42 : decode b_BG_box 42 = .ok (.iload_n 1, 1) := by decide +kernel
theorem d_BG_box_43 : decode b_BG_box 43 = .ok (.iload_n 2, 1) := by decide +kernel
theorem d_BG_box_44 : decode b_BG_box 44 = .ok (.iload_n 3, 1) := by decide +kernel
theorem d_BG_box_45 : decode b_BG_box 45 = .ok (.invokestatic 31, 3) := by decide +kernel
theorem d_BG_box_48 : decode b_BG_box 48 = .ok (.invokevirtual 37, 3) := by decide +kernel
theorem d_BG_box_51 : decode b_BG_box 51 = .ok (.pop, 1) := by decide +kernel
theorem d_BG_box_52 : decode b_BG_box 52 = .ok (.aload_n 0, 1) := by decide +kernel
theorem d_BG_box_53 : decode b_BG_box 53 = .ok (.getfield 16, 3) := by decide +kernel
theorem d_BG_box_56 : decode b_BG_box 56 = .ok (.invokevirtual 27, 3) := by decide +kernel
theorem d_BG_box_59 : decode b_BG_box 59 = .ok (.iconst 1, 1) := by decide +kernel
theorem d_BG_box_60 : decode b_BG_box 60 = .ok (.isub, 1) := by decide +kernel
theorem d_BG_box_61 : decode b_BG_box 61 = .ok (.ireturn, 1) := by decide +kernel
theorem d_BG_isExtent_0 : decode b_BG_isExtent 0 = .ok (.iload_n 0, 1) := by decide +kernel
theorem d_BG_isExtent_1 : decode b_BG_isExtent 1 = .ok (.ifCond .lt 13, 3) := by decide +kernel
theorem d_BG_isExtent_4 : decode b_BG_isExtent 4 = .ok (.iload_n 0, 1) := by decide +kernel
theorem d_BG_isExtent_5 : decode b_BG_isExtent 5 = .ok (.ldc 142, 2) := by decide +kernel
theorem d_BG_isExtent_7 : decode b_BG_isExtent 7 = .ok (.if_icmp .gt 7, 3) := by decide +kernel
theorem d_BG_isExtent_10 : decode b_BG_isExtent 10 = .ok (.iconst 1, 1) := by decide +kernel
theorem d_BG_isExtent_11 : decode b_BG_isExtent 11 = .ok (.goto 4, 3) := by decide +kernel
theorem d_BG_isExtent_14 : decode b_BG_isExtent 14 = .ok (.iconst 0, 1) := by decide +kernel
theorem d_BG_isExtent_15 : decode b_BG_isExtent 15 = .ok (.ireturn, 1) := by decide +kernel
theorem d_AL_size_0 : decode b_AL_size 0 = .ok (.aload_n 0, 1) := by decide +kernel
theorem d_AL_size_1 : decode b_AL_size 1 = .ok (.getfield 48, 3) := by decide +kernel
theorem d_AL_size_4 : decode b_AL_size 4 = .ok (.ireturn, 1) := by decide +kernel
theorem d_Box_bare_0 : decode b_Box_bare 0 = .ok (.new 10, 3) := by decide +kernel
theorem d_Box_bare_3 : decode b_Box_bare 3 = .ok (.dup, 1) := by decide +kernel
theorem d_Box_bare_4 : decode b_Box_bare 4 = .ok (.iload_n 0, 1) := by decide +kernel
theorem d_Box_bare_5 : decode b_Box_bare 5 = .ok (.iload_n 1, 1) := by decide +kernel
theorem d_Box_bare_6 : decode b_Box_bare 6 = .ok (.iload_n 2, 1) := by decide +kernel
theorem d_Box_bare_7 : decode b_Box_bare 7 = .ok (.new 29, 3) := by decide +kernel
theorem d_Box_bare_10 : decode b_Box_bare 10 = .ok (.dup, 1) := by decide +kernel
theorem d_Box_bare_11 : decode b_Box_bare 11 = .ok (.iconst 0, 1) := by decide +kernel
theorem d_Box_bare_12 : decode b_Box_bare 12 = .ok (.iconst 0, 1) := by decide +kernel
theorem d_Box_bare_13 : decode b_Box_bare 13 = .ok (.iconst (-1), 1) := by decide +kernel
theorem d_Box_bare_14 : decode b_Box_bare 14 = .ok (.iconst 0, 1) := by decide +kernel
theorem d_Box_bare_15 : decode b_Box_bare 15 = .ok (.invokespecial 31, 3) := by decide +kernel
theorem d_Box_bare_18 : decode b_Box_bare 18 = .ok (.new 34, 3) := by decide +kernel
theorem d_Box_bare_21 : decode b_Box_bare 21 = .ok (.dup, 1) := by decide +kernel
theorem d_Box_bare_22 : decode b_Box_bare 22 = .ok (.invokespecial 36, 3) := by decide +kernel
theorem d_Box_bare_25 : decode b_Box_bare 25 = .ok (.invokespecial 37, 3) := by decide +kernel
theorem d_Box_bare_28 : decode b_Box_bare 28 = .ok (.areturn, 1) := by decide +kernel
theorem d_Fit_init_0 : decode b_Fit_init 0 = .ok (.aload_n 0, 1) := by decide +kernel
theorem d_Fit_init_1 : decode b_Fit_init 1 = .ok (.invokespecial 3, 3) := by decide +kernel
theorem d_Fit_init_4 : decode b_Fit_init 4 = .ok (.aload_n 0, 1) := by decide +kernel
theorem d_Fit_init_5 : decode b_Fit_init 5 = .ok (.iload_n 1, 1) := by decide +kernel
theorem d_Fit_init_6 : decode b_Fit_init 6 = .ok (.putfield 9, 3) := by decide +kernel
theorem d_Fit_init_9 : decode b_Fit_init 9 = .ok (.aload_n 0, 1) := by decide +kernel
theorem d_Fit_init_10 : decode b_Fit_init 10 = .ok (.iload_n 2, 1) := by decide +kernel
theorem d_Fit_init_11 : decode b_Fit_init 11 = .ok (.putfield 15, 3) := by decide +kernel
theorem d_Fit_init_14 : decode b_Fit_init 14 = .ok (.aload_n 0, 1) := by decide +kernel
theorem d_Fit_init_15 : decode b_Fit_init 15 = .ok (.iload_n 3, 1) := by decide +kernel
theorem d_Fit_init_16 : decode b_Fit_init 16 = .ok (.putfield 18, 3) := by decide +kernel
theorem d_Fit_init_19 : decode b_Fit_init 19 = .ok (.aload_n 0, 1) := by decide +kernel
theorem d_Fit_init_20 : decode b_Fit_init 20 = .ok (.iload 4, 2) := by decide +kernel
theorem d_Fit_init_22 : decode b_Fit_init 22 = .ok (.putfield 21, 3) := by decide +kernel
theorem d_Fit_init_25 : decode b_Fit_init 25 = .ok (.return_, 1) := by decide +kernel
theorem d_Box_init_0 : decode b_Box_init 0 = .ok (.aload_n 0, 1) := by decide +kernel
theorem d_Box_init_1 : decode b_Box_init 1 = .ok (.invokespecial 3, 3) := by decide +kernel
theorem d_Box_init_4 : decode b_Box_init 4 = .ok (.aload_n 0, 1) := by decide +kernel
theorem d_Box_init_5 : decode b_Box_init 5 = .ok (.iload_n 1, 1) := by decide +kernel
theorem d_Box_init_6 : decode b_Box_init 6 = .ok (.putfield 9, 3) := by decide +kernel
theorem d_Box_init_9 : decode b_Box_init 9 = .ok (.aload_n 0, 1) := by decide +kernel
theorem d_Box_init_10 : decode b_Box_init 10 = .ok (.iload_n 2, 1) := by decide +kernel
theorem d_Box_init_11 : decode b_Box_init 11 = .ok (.putfield 15, 3) := by decide +kernel
theorem d_Box_init_14 : decode b_Box_init 14 = .ok (.aload_n 0, 1) := by decide +kernel
theorem d_Box_init_15 : decode b_Box_init 15 = .ok (.iload_n 3, 1) := by decide +kernel
theorem d_Box_init_16 : decode b_Box_init 16 = .ok (.putfield 18, 3) := by decide +kernel
theorem d_Box_init_19 : decode b_Box_init 19 = .ok (.aload_n 0, 1) := by decide +kernel
theorem d_Box_init_20 : decode b_Box_init 20 = .ok (.aload 4, 2) := by decide +kernel
theorem d_Box_init_22 : decode b_Box_init 22 = .ok (.putfield 21, 3) := by decide +kernel
theorem d_Box_init_25 : decode b_Box_init 25 = .ok (.aload_n 0, 1) := by decide +kernel
theorem d_Box_init_26 : decode b_Box_init 26 = .ok (.aload 5, 2) := by decide +kernel
theorem d_Box_init_28 : decode b_Box_init 28 = .ok (.putfield 25, 3) := by decide +kernel
theorem d_Box_init_31 : decode b_Box_init 31 = .ok (.return_, 1) := by decide +kernel
theorem d_AL_add_0 : decode b_AL_add 0 = .ok (.aload_n 0, 1) := by decide +kernel
theorem d_AL_add_1 : decode b_AL_add 1 = .ok (.dup, 1) := by decide +kernel
theorem d_AL_add_2 : decode b_AL_add 2 = .ok (.getfield 63, 3) := by decide +kernel
theorem d_AL_add_5 : decode b_AL_add 5 = .ok (.iconst 1, 1) := by decide +kernel
theorem d_AL_add_6 : decode b_AL_add 6 = .ok (.iadd, 1) := by decide +kernel
theorem d_AL_add_7 : decode b_AL_add 7 = .ok (.putfield 63, 3) := by decide +kernel
theorem d_AL_add_10 : decode b_AL_add 10 = .ok (.aload_n 0, 1) := by decide +kernel
theorem d_AL_add_11 : decode b_AL_add 11 = .ok (.aload_n 1, 1) := by decide +kernel
theorem d_AL_add_12 : decode b_AL_add 12 = .ok (.aload_n 0, 1) := by decide +kernel
theorem d_AL_add_13 : decode b_AL_add 13 = .ok (.getfield 9, 3) := by decide +kernel
theorem d_AL_add_16 : decode b_AL_add 16 = .ok (.aload_n 0, 1) := by decide +kernel
theorem d_AL_add_17 : decode b_AL_add 17 = .ok (.getfield 48, 3) := by decide +kernel
theorem d_AL_add_20 : decode b_AL_add 20 = .ok (.invokevirtual 131, 3) := by decide +kernel
theorem d_AL_add_23 : decode b_AL_add 23 = .ok (.iconst 1, 1) := by decide +kernel
theorem d_AL_add_24 : decode b_AL_add 24 = .ok (.ireturn, 1) := by decide +kernel
theorem d_AL_add2_0 : decode b_AL_add2 0 = .ok (.iload_n 3, 1) := by decide +kernel
theorem d_AL_add2_1 : decode b_AL_add2 1 = .ok (.aload_n 2, 1) := by decide +kernel
theorem d_AL_add2_2 : decode b_AL_add2 2 = .ok (.arraylength, 1) := by decide +kernel
theorem d_AL_add2_3 : decode b_AL_add2 3 = .ok (.if_icmp .ne 8, 3) := by decide +kernel
theorem d_AL_add2_6 : decode b_AL_add2 6 = .ok (.aload_n 0, 1) := by decide +kernel
theorem d_AL_add2_7 : decode b_AL_add2 7 = .ok (.invokevirtual 129, 3) := by decide +kernel
theorem d_AL_add2_10 : decode b_AL_add2 10 = .ok (.astore_n 2, 1) := by decide +kernel
theorem d_AL_add2_11 : decode b_AL_add2 11 = .ok (.aload_n 2, 1) := by decide +kernel
theorem d_AL_add2_12 : decode b_AL_add2 12 = .ok (.iload_n 3, 1) := by decide +kernel
theorem d_AL_add2_13 : decode b_AL_add2 13 = .ok (.aload_n 1, 1) := by decide +kernel
theorem d_AL_add2_14 : decode b_AL_add2 14 = .ok (.aastore, 1) := by decide +kernel
theorem d_AL_add2_15 : decode b_AL_add2 15 = .ok (.aload_n 0, 1) := by decide +kernel
theorem d_AL_add2_16 : decode b_AL_add2 16 = .ok (.iload_n 3, 1) := by decide +kernel
theorem d_AL_add2_17 : decode b_AL_add2 17 = .ok (.iconst 1, 1) := by decide +kernel
theorem d_AL_add2_18 : decode b_AL_add2 18 = .ok (.iadd, 1) := by decide +kernel
theorem d_AL_add2_19 : decode b_AL_add2 19 = .ok (.putfield 48, 3) := by decide +kernel
theorem d_AL_add2_22 : decode b_AL_add2 22 = .ok (.return_, 1) := by decide +kernel
theorem d_AL_grow_0 : decode b_AL_grow 0 = .ok (.aload_n 0, 1) := by decide +kernel
theorem d_AL_grow_1 : decode b_AL_grow 1 = .ok (.aload_n 0, 1) := by decide +kernel
theorem d_AL_grow_2 : decode b_AL_grow 2 = .ok (.getfield 48, 3) := by decide +kernel
theorem d_AL_grow_5 : decode b_AL_grow 5 = .ok (.iconst 1, 1) := by decide +kernel
theorem d_AL_grow_6 : decode b_AL_grow 6 = .ok (.iadd, 1) := by decide +kernel
theorem d_AL_grow_7 : decode b_AL_grow 7 = .ok (.invokevirtual 69, 3) := by decide +kernel
theorem d_AL_grow_10 : decode b_AL_grow 10 = .ok (.areturn, 1) := by decide +kernel
theorem d_AL_grow2_0 : decode b_AL_grow2 0 = .ok (.aload_n 0, 1) := by decide +kernel
theorem d_AL_grow2_1 : decode b_AL_grow2 1 = .ok (.getfield 9, 3) := by decide +kernel
theorem d_AL_grow2_4 : decode b_AL_grow2 4 = .ok (.arraylength, 1) := by decide +kernel
theorem d_AL_grow2_5 : decode b_AL_grow2 5 = .ok (.istore_n 2, 1) := by decide +kernel
theorem d_AL_grow2_6 : decode b_AL_grow2 6 = .ok (.iload_n 2, 1) := by decide +kernel
theorem d_AL_grow2_7 : decode b_AL_grow2 7 = .ok (.ifCond .gt 13, 3) := by decide +kernel
theorem d_AL_grow2_10 : decode b_AL_grow2 10 = .ok (.aload_n 0, 1) := by decide +kernel
theorem d_AL_grow2_11 : decode b_AL_grow2 11 = .ok (.getfield 9, 3) := by decide +kernel
theorem d_AL_grow2_14 : decode b_AL_grow2 14 = .ok (.getstatic 39, 3) := by decide +kernel
theorem d_AL_grow2_17 : decode b_AL_grow2 17 = .ok (.if_acmp .eq 28, 3) := by decide +kernel
theorem d_AL_grow2_20 : decode b_AL_grow2 20 = .ok (.iload_n 2, 1) := by decide +kernel
theorem d_AL_grow2_21 : decode b_AL_grow2 21 = .ok (.iload_n 1, 1) := by decide +kernel
theorem d_AL_grow2_22 : decode b_AL_grow2 22 = .ok (.iload_n 2, 1) := by decide +kernel
theorem d_AL_grow2_23 : decode b_AL_grow2 23 = .ok (.isub, 1) := by decide +kernel
theorem d_AL_grow2_24 : decode b_AL_grow2 24 = .ok (.iload_n 2, 1) := by decide +kernel
theorem d_AL_grow2_25 : decode b_AL_grow2 25 = .ok (.iconst 1, 1) := by decide +kernel
theorem d_AL_grow2_26 : decode b_AL_grow2 26 = .ok (.ishr, 1) := by decide +kernel
theorem d_AL_grow2_27 : decode b_AL_grow2 27 = .ok (.invokestatic 73, 3) := by decide +kernel
theorem d_AL_grow2_30 : decode b_AL_grow2 30 = .ok (.istore_n 3, 1) := by decide +kernel
theorem d_AL_grow2_31 : decode b_AL_grow2 31 = .ok (.aload_n 0, 1) := by decide +kernel
theorem d_AL_grow2_32 : decode b_AL_grow2 32 = .ok (.aload_n 0, 1) := by decide +kernel
theorem d_AL_grow2_33 : decode b_AL_grow2 33 = .ok (.getfield 9, 3) := by decide +kernel
theorem d_AL_grow2_36 : decode b_AL_grow2 36 = .ok (.iload_n 3, 1) := by decide +kernel
theorem d_AL_grow2_37 : decode b_AL_grow2 37 = .ok (.invokestatic 66, 3) := by decide +kernel
theorem d_AL_grow2_40 : decode b_AL_grow2 40 = .ok (.dup_x1, 1) := by decide +kernel
theorem d_AL_grow2_41 : decode b_AL_grow2 41 = .ok (.putfield 9, 3) := by decide +kernel
theorem d_AL_grow2_44 : decode b_AL_grow2 44 = .ok (.areturn, 1) := by decide +kernel
theorem d_AL_grow2_45 : decode b_AL_grow2 45 = .ok (.aload_n 0, 1) := by decide +kernel
theorem d_AL_grow2_46 : decode b_AL_grow2 46 = .ok (.bipush 10, 2) := by decide +kernel
theorem d_AL_grow2_48 : decode b_AL_grow2 48 = .ok (.iload_n 1, 1) := by decide +kernel
theorem d_AL_grow2_49 : decode b_AL_grow2 49 = .ok (.invokestatic 79, 3) := by decide +kernel
theorem d_AL_grow2_52 : decode b_AL_grow2 52 = .ok (.anewarray 7, 3) := by decide +kernel
theorem d_AL_grow2_55 : decode b_AL_grow2 55 = .ok (.dup_x1, 1) := by decide +kernel
theorem d_AL_grow2_56 : decode b_AL_grow2 56 = .ok (.putfield 9, 3) := by decide +kernel
theorem d_AL_grow2_59 : decode b_AL_grow2 59 = .ok (.areturn, 1) := by decide +kernel
theorem d_ASup_newLength_0 : decode b_ASup_newLength 0 = .ok (.iload_n 0, 1) := by decide +kernel
theorem d_ASup_newLength_1 : decode b_ASup_newLength 1 = .ok (.iload_n 1, 1) := by decide +kernel
theorem d_ASup_newLength_2 : decode b_ASup_newLength 2 = .ok (.iload_n 2, 1) := by decide +kernel
theorem d_ASup_newLength_3 : decode b_ASup_newLength 3 = .ok (.invokestatic 194, 3) := by decide +kernel
theorem d_ASup_newLength_6 : decode b_ASup_newLength 6 = .ok (.iadd, 1) := by decide +kernel
theorem d_ASup_newLength_7 : decode b_ASup_newLength 7 = .ok (.istore_n 3, 1) := by decide +kernel
theorem d_ASup_newLength_8 : decode b_ASup_newLength 8 = .ok (.iconst 0, 1) := by decide +kernel
theorem d_ASup_newLength_9 : decode b_ASup_newLength 9 = .ok (.iload_n 3, 1) := by decide +kernel
theorem d_ASup_newLength_10 : decode b_ASup_newLength 10 = .ok (.if_icmp .ge 11, 3) := by decide +kernel
theorem d_ASup_newLength_13 : decode b_ASup_newLength 13 = .ok (.iload_n 3, 1) := by decide +kernel
theorem d_ASup_newLength_14 : decode b_ASup_newLength 14 = .ok (.ldc 200, 2) := by decide +kernel
theorem d_ASup_newLength_16 : decode b_ASup_newLength 16 = .ok (.if_icmp .gt 5, 3) := by decide +kernel
theorem d_ASup_newLength_19 : decode b_ASup_newLength 19 = .ok (.iload_n 3, 1) := by decide +kernel
theorem d_ASup_newLength_20 : decode b_ASup_newLength 20 = .ok (.ireturn, 1) := by decide +kernel
theorem d_ASup_newLength_21 : decode b_ASup_newLength 21 = .ok (.iload_n 0, 1) := by decide +kernel
theorem d_ASup_newLength_22 : decode b_ASup_newLength 22 = .ok (.iload_n 1, 1) := by decide +kernel
theorem d_ASup_newLength_23 : decode b_ASup_newLength 23 = .ok (.invokestatic 201, 3) := by decide +kernel
theorem d_ASup_newLength_26 : decode b_ASup_newLength 26 = .ok (.ireturn, 1) := by decide +kernel
theorem d_Math_max_0 : decode b_Math_max 0 = .ok (.iload_n 0, 1) := by decide +kernel
theorem d_Math_max_1 : decode b_Math_max 1 = .ok (.iload_n 1, 1) := by decide +kernel
theorem d_Math_max_2 : decode b_Math_max 2 = .ok (.if_icmp .lt 7, 3) := by decide +kernel
theorem d_Math_max_5 : decode b_Math_max 5 = .ok (.iload_n 0, 1) := by decide +kernel
theorem d_Math_max_6 : decode b_Math_max 6 = .ok (.goto 4, 3) := by decide +kernel
theorem d_Math_max_9 : decode b_Math_max 9 = .ok (.iload_n 1, 1) := by decide +kernel
theorem d_Math_max_10 : decode b_Math_max 10 = .ok (.ireturn, 1) := by decide +kernel
theorem d_ASup_hugeLength_0 : decode b_ASup_hugeLength 0 = .ok (.iload_n 0, 1) := by decide +kernel
theorem d_ASup_hugeLength_1 : decode b_ASup_hugeLength 1 = .ok (.iload_n 1, 1) := by decide +kernel
theorem d_ASup_hugeLength_2 : decode b_ASup_hugeLength 2 = .ok (.iadd, 1) := by decide +kernel
theorem d_ASup_hugeLength_3 : decode b_ASup_hugeLength 3 = .ok (.istore_n 2, 1) := by decide +kernel
theorem d_ASup_hugeLength_4 : decode b_ASup_hugeLength 4 = .ok (.iload_n 2, 1) := by decide +kernel
theorem d_ASup_hugeLength_5 : decode b_ASup_hugeLength 5 = .ok (.ifCond .ge 44, 3) := by decide +kernel
theorem d_ASup_hugeLength_8 : decode b_ASup_hugeLength 8 = .ok (.new 204, 3) := by decide +kernel
theorem d_ASup_hugeLength_11 : decode b_ASup_hugeLength 11 = .ok (.dup, 1) := by decide +kernel
theorem d_ASup_hugeLength_12 : decode b_ASup_hugeLength 12 = .ok (.new 89, 3) := by decide +kernel
theorem d_ASup_hugeLength_15 : decode b_ASup_hugeLength 15 = .ok (.dup, 1) := by decide +kernel
theorem d_ASup_hugeLength_16 : decode b_ASup_hugeLength 16 = .ok (.invokespecial 91, 3) := by decide +kernel
theorem d_ASup_hugeLength_19 : decode b_ASup_hugeLength 19 = .ok (.ldc 206, 2) := by decide +kernel
theorem d_ASup_hugeLength_21 : decode b_ASup_hugeLength 21 = .ok (.invokevirtual 94, 3) := by decide +kernel
theorem d_ASup_hugeLength_24 : decode b_ASup_hugeLength 24 = .ok (.iload_n 0, 1) := by decide +kernel
theorem d_ASup_hugeLength_25 : decode b_ASup_hugeLength 25 = .ok (.invokevirtual 98, 3) := by decide +kernel
theorem d_ASup_hugeLength_28 : decode b_ASup_hugeLength 28 = .ok (.ldc 208, 2) := by decide +kernel
theorem d_ASup_hugeLength_30 : decode b_ASup_hugeLength 30 = .ok (.invokevirtual 94, 3) := by decide +kernel
theorem d_ASup_hugeLength_33 : decode b_ASup_hugeLength 33 = .ok (.iload_n 1, 1) := by decide +kernel
theorem d_ASup_hugeLength_34 : decode b_ASup_hugeLength 34 = .ok (.invokevirtual 98, 3) := by decide +kernel
theorem d_ASup_hugeLength_37 : decode b_ASup_hugeLength 37 = .ok (.ldc 210, 2) := by decide +kernel
theorem d_ASup_hugeLength_39 : decode b_ASup_hugeLength 39 = .ok (.invokevirtual 94, 3) := by decide +kernel
theorem d_ASup_hugeLength_42 : decode b_ASup_hugeLength 42 = .ok (.invokevirtual 101, 3) := by decide +kernel
theorem d_ASup_hugeLength_45 : decode b_ASup_hugeLength 45 = .ok (.invokespecial 212, 3) := by decide +kernel
theorem d_ASup_hugeLength_48 : decode b_ASup_hugeLength 48 = .ok (.athrow, 1) := by decide +kernel
theorem d_ASup_hugeLength_49 : decode b_ASup_hugeLength 49 = .ok (.iload_n 2, 1) := by decide +kernel
theorem d_ASup_hugeLength_50 : decode b_ASup_hugeLength 50 = .ok (.ldc 200, 2) := by decide +kernel
theorem d_ASup_hugeLength_52 : decode b_ASup_hugeLength 52 = .ok (.if_icmp .gt 6, 3) := by decide +kernel
theorem d_ASup_hugeLength_55 : decode b_ASup_hugeLength 55 = .ok (.ldc 200, 2) := by decide +kernel
theorem d_ASup_hugeLength_57 : decode b_ASup_hugeLength 57 = .ok (.ireturn, 1) := by decide +kernel
theorem d_ASup_hugeLength_58 : decode b_ASup_hugeLength 58 = .ok (.iload_n 2, 1) := by decide +kernel
theorem d_ASup_hugeLength_59 : decode b_ASup_hugeLength 59 = .ok (.ireturn, 1) := by decide +kernel
theorem d_Arrs_copyOf_0 : decode b_Arrs_copyOf 0 = .ok (.aload_n 0, 1) := by decide +kernel
theorem d_Arrs_copyOf_1 : decode b_Arrs_copyOf 1 = .ok (.iload_n 1, 1) := by decide +kernel
theorem d_Arrs_copyOf_2 : decode b_Arrs_copyOf 2 = .ok (.aload_n 0, 1) := by decide +kernel
theorem d_Arrs_copyOf_3 : decode b_Arrs_copyOf 3 = .ok (.invokevirtual 86, 3) := by decide +kernel
theorem d_Arrs_copyOf_6 : decode b_Arrs_copyOf 6 = .ok (.invokestatic 300, 3) := by decide +kernel
theorem d_Arrs_copyOf_9 : decode b_Arrs_copyOf 9 = .ok (.areturn, 1) := by decide +kernel
theorem d_Arrs_copyOf2_0 : decode b_Arrs_copyOf2 0 = .ok (.aload_n 2, 1) := by decide +kernel
theorem d_Arrs_copyOf2_1 : decode b_Arrs_copyOf2 1 = .ok (.ldc 110, 2) := by decide +kernel
theorem d_Arrs_copyOf2_3 : decode b_Arrs_copyOf2 3 = .ok (.if_acmp .ne 10, 3) := by decide +kernel
theorem d_Arrs_copyOf2_6 : decode b_Arrs_copyOf2 6 = .ok (.iload_n 1, 1) := by decide +kernel
theorem d_Arrs_copyOf2_7 : decode b_Arrs_copyOf2 7 = .ok (.anewarray 2, 3) := by decide +kernel
theorem d_Arrs_copyOf2_10 : decode b_Arrs_copyOf2 10 = .ok (.goto 14, 3) := by decide +kernel
theorem d_Arrs_copyOf2_13 : decode b_Arrs_copyOf2 13 = .ok (.aload_n 2, 1) := by decide +kernel
theorem d_Arrs_copyOf2_14 : decode b_Arrs_copyOf2 14 = .ok (.invokevirtual 90, 3) := by decide +kernel
theorem d_Arrs_copyOf2_17 : decode b_Arrs_copyOf2 17 = .ok (.iload_n 1, 1) := by decide +kernel
theorem d_Arrs_copyOf2_18 : decode b_Arrs_copyOf2 18 = .ok (.invokestatic 95, 3) := by decide +kernel
theorem d_Arrs_copyOf2_21 : decode b_Arrs_copyOf2 21 = .ok (.checkcast 110, 3) := by decide +kernel
theorem d_Arrs_copyOf2_24 : decode b_Arrs_copyOf2 24 = .ok (.astore_n 3, 1) := by decide +kernel
theorem d_Arrs_copyOf2_25 : decode b_Arrs_copyOf2 25 = .ok (.aload_n 0, 1) := by decide +kernel
theorem d_Arrs_copyOf2_26 : decode b_Arrs_copyOf2 26 = .ok (.iconst 0, 1) := by decide +kernel
theorem d_Arrs_copyOf2_27 : decode b_Arrs_copyOf2 27 = .ok (.aload_n 3, 1) := by decide +kernel
theorem d_Arrs_copyOf2_28 : decode b_Arrs_copyOf2 28 = .ok (.iconst 0, 1) := by decide +kernel
theorem d_Arrs_copyOf2_29 : decode b_Arrs_copyOf2 29 = .ok (.aload_n 0, 1) := by decide +kernel
theorem d_Arrs_copyOf2_30 : decode b_Arrs_copyOf2 30 = .ok (.arraylength, 1) := by decide +kernel
theorem d_Arrs_copyOf2_31 : decode b_Arrs_copyOf2 31 = .ok (.iload_n 1, 1) := by decide +kernel
theorem d_Arrs_copyOf2_32 : decode b_Arrs_copyOf2 32 = .ok (.invokestatic 304, 3) := by decide +kernel
theorem d_Arrs_copyOf2_35 : decode b_Arrs_copyOf2 35 = .ok (.invokestatic 150, 3) := by decide +kernel
theorem d_Arrs_copyOf2_38 : decode b_Arrs_copyOf2 38 = .ok (.aload_n 3, 1) := by decide +kernel
theorem d_Arrs_copyOf2_39 : decode b_Arrs_copyOf2 39 = .ok (.areturn, 1) := by decide +kernel
theorem d_Math_min_0 : decode b_Math_min 0 = .ok (.iload_n 0, 1) := by decide +kernel
theorem d_Math_min_1 : decode b_Math_min 1 = .ok (.iload_n 1, 1) := by decide +kernel
theorem d_Math_min_2 : decode b_Math_min 2 = .ok (.if_icmp .gt 7, 3) := by decide +kernel
theorem d_Math_min_5 : decode b_Math_min 5 = .ok (.iload_n 0, 1) := by decide +kernel
theorem d_Math_min_6 : decode b_Math_min 6 = .ok (.goto 4, 3) := by decide +kernel
theorem d_Math_min_9 : decode b_Math_min 9 = .ok (.iload_n 1, 1) := by decide +kernel
theorem d_Math_min_10 : decode b_Math_min 10 = .ok (.ireturn, 1) := by decide +kernel
theorem d_BG_put_0 : decode b_BG_put 0 = .ok (.aload_n 0, 1) := by decide +kernel
theorem d_BG_put_1 : decode b_BG_put 1 = .ok (.iload_n 1, 1) := by decide +kernel
theorem d_BG_put_2 : decode b_BG_put 2 = .ok (.invokevirtual 41, 3) := by decide +kernel
theorem d_BG_put_5 : decode b_BG_put 5 = .ok (.ifCond .eq 10, 3) := by decide +kernel
theorem d_BG_put_8 : decode b_BG_put 8 = .ok (.iload_n 2, 1) := by decide +kernel
theorem d_BG_put_9 : decode b_BG_put 9 = .ok (.invokestatic 44, 3) := by decide +kernel
theorem d_BG_put_12 : decode b_BG_put 12 = .ok (.ifCond .ne 5, 3) := by decide +kernel
theorem d_BG_put_15 : decode b_BG_put 15 = .ok (.iconst (-1), 1) := by decide +kernel
theorem d_BG_put_16 : decode b_BG_put 16 = .ok (.ireturn, 1) := by decide +kernel
theorem d_BG_put_17 : decode b_BG_put 17 = .ok (.aload_n 0, 1) := by decide +kernel
theorem d_BG_put_18 : decode b_BG_put 18 = .ok (.new 47, 3) := by decide +kernel
theorem d_BG_put_21 : decode b_BG_put 21 = .ok (.dup, 1) := by decide +kernel
theorem d_BG_put_22 : decode b_BG_put 22 = .ok (.aload_n 0, 1) := by decide +kernel
theorem d_BG_put_23 : decode b_BG_put 23 = .ok (.getfield 16, 3) := by decide +kernel
theorem d_BG_put_26 : decode b_BG_put 26 = .ok (.iload_n 1, 1) := by decide +kernel
theorem d_BG_put_27 : decode b_BG_put 27 = .ok (.invokevirtual 49, 3) := by decide +kernel
theorem d_BG_put_30 : decode b_BG_put 30 = .ok (.checkcast 32, 3) := by decide +kernel
theorem d_BG_put_33 : decode b_BG_put 33 = .ok (.iload_n 2, 1) := by decide +kernel
theorem d_BG_put_34 : decode b_BG_put 34 = .ok (.invokespecial 53, 3) := by decide +kernel
theorem d_BG_put_37 : decode b_BG_put 37 = .ok (.invokevirtual 56, 3) := by decide +kernel
theorem d_BG_put_40 : decode b_BG_put 40 = .ok (.ireturn, 1) := by decide +kernel
theorem d_BG_isBox_0 : decode b_BG_isBox 0 = .ok (.iload_n 1, 1) := by decide +kernel
theorem d_BG_isBox_1 : decode b_BG_isBox 1 = .ok (.ifCond .lt 18, 3) := by decide +kernel
theorem d_BG_isBox_4 : decode b_BG_isBox 4 = .ok (.iload_n 1, 1) := by decide +kernel
theorem d_BG_isBox_5 : decode b_BG_isBox 5 = .ok (.aload_n 0, 1) := by decide +kernel
theorem d_BG_isBox_6 : decode b_BG_isBox 6 = .ok (.getfield 16, 3) := by decide +kernel
theorem d_BG_isBox_9 : decode b_BG_isBox 9 = .ok (.invokevirtual 27, 3) := by decide +kernel
theorem d_BG_isBox_12 : decode b_BG_isBox 12 = .ok (.if_icmp .ge 7, 3) := by decide +kernel
theorem d_BG_isBox_15 : decode b_BG_isBox 15 = .ok (.iconst 1, 1) := by decide +kernel
theorem d_BG_isBox_16 : decode b_BG_isBox 16 = .ok (.goto 4, 3) := by decide +kernel
theorem d_BG_isBox_19 : decode b_BG_isBox 19 = .ok (.iconst 0, 1) := by decide +kernel
theorem d_BG_isBox_20 : decode b_BG_isBox 20 = .ok (.ireturn, 1) := by decide +kernel
theorem d_BG_isLength_0 : decode b_BG_isLength 0 = .ok (.iload_n 0, 1) := by decide +kernel
theorem d_BG_isLength_1 : decode b_BG_isLength 1 = .ok (.ldc 141, 2) := by decide +kernel
theorem d_BG_isLength_3 : decode b_BG_isLength 3 = .ok (.if_icmp .lt 13, 3) := by decide +kernel
theorem d_BG_isLength_6 : decode b_BG_isLength 6 = .ok (.iload_n 0, 1) := by decide +kernel
theorem d_BG_isLength_7 : decode b_BG_isLength 7 = .ok (.ldc 142, 2) := by decide +kernel
theorem d_BG_isLength_9 : decode b_BG_isLength 9 = .ok (.if_icmp .gt 7, 3) := by decide +kernel
theorem d_BG_isLength_12 : decode b_BG_isLength 12 = .ok (.iconst 1, 1) := by decide +kernel
theorem d_BG_isLength_13 : decode b_BG_isLength 13 = .ok (.goto 4, 3) := by decide +kernel
theorem d_BG_isLength_16 : decode b_BG_isLength 16 = .ok (.iconst 0, 1) := by decide +kernel
theorem d_BG_isLength_17 : decode b_BG_isLength 17 = .ok (.ireturn, 1) := by decide +kernel
theorem d_AL_get_0 : decode b_AL_get 0 = .ok (.iload_n 1, 1) := by decide +kernel
theorem d_AL_get_1 : decode b_AL_get 1 = .ok (.aload_n 0, 1) := by decide +kernel
theorem d_AL_get_2 : decode b_AL_get 2 = .ok (.getfield 48, 3) := by decide +kernel
theorem d_AL_get_5 : decode b_AL_get 5 = .ok (.invokestatic 118, 3) := by decide +kernel
theorem d_AL_get_8 : decode b_AL_get 8 = .ok (.pop, 1) := by decide +kernel
theorem d_AL_get_9 : decode b_AL_get 9 = .ok (.aload_n 0, 1) := by decide +kernel
theorem d_AL_get_10 : decode b_AL_get 10 = .ok (.iload_n 1, 1) := by decide +kernel
theorem d_AL_get_11 : decode b_AL_get 11 = .ok (.invokevirtual 123, 3) := by decide +kernel
theorem d_AL_get_14 : decode b_AL_get 14 = .ok (.areturn, 1) := by decide +kernel
theorem d_Objs_checkIndex_0 : decode b_Objs_checkIndex 0 = .ok (.iload_n 0, 1) := by decide +kernel
theorem d_Objs_checkIndex_1 : decode b_Objs_checkIndex 1 = .ok (.iload_n 1, 1) := by decide +kernel
theorem d_Objs_checkIndex_2 : decode b_Objs_checkIndex 2 = .ok (.aconst_null, 1) := by decide +kernel
theorem d_Objs_checkIndex_3 : decode b_Objs_checkIndex 3 = .ok (.invokestatic 105, 3) := by decide +kernel
theorem d_Objs_checkIndex_6 : decode b_Objs_checkIndex 6 = .ok (.ireturn, 1) := by decide +kernel
theorem d_Pre_checkIndex_0 : decode b_Pre_checkIndex 0 = .ok (.iload_n 0, 1) := by decide +kernel
theorem d_Pre_checkIndex_1 : decode b_Pre_checkIndex 1 = .ok (.ifCond .lt 8, 3) := by decide +kernel
theorem d_Pre_checkIndex_4 : decode b_Pre_checkIndex 4 = .ok (.iload_n 0, 1) := by decide +kernel
theorem d_Pre_checkIndex_5 : decode b_Pre_checkIndex 5 = .ok (.iload_n 1, 1) := by decide +kernel
theorem d_Pre_checkIndex_6 : decode b_Pre_checkIndex 6 = .ok (.if_icmp .lt 10, 3) := by decide +kernel
theorem d_Pre_checkIndex_9 : decode b_Pre_checkIndex 9 = .ok (.aload_n 2, 1) := by decide +kernel
theorem d_Pre_checkIndex_10 : decode b_Pre_checkIndex 10 = .ok (.iload_n 0, 1) := by decide +kernel
theorem d_Pre_checkIndex_11 : decode b_Pre_checkIndex 11 = .ok (.iload_n 1, 1) := by decide +kernel
theorem d_Pre_checkIndex_12 : decode b_Pre_checkIndex 12 = .ok (.invokestatic 95, 3) := by decide +kernel
theorem d_Pre_checkIndex_15 : decode b_Pre_checkIndex 15 = .ok (.athrow, 1) := by decide +kernel
theorem d_Pre_checkIndex_16 : decode b_Pre_checkIndex 16 = .ok (.iload_n 0, 1) := by decide +kernel
theorem d_Pre_checkIndex_17 : decode b_Pre_checkIndex 17 = .ok (.ireturn, 1) := by decide +kernel
theorem d_AL_elementData_0 : decode b_AL_elementData 0 = .ok (.aload_n 0, 1) := by decide +kernel
theorem d_AL_elementData_1 : decode b_AL_elementData 1 = .ok (.getfield 9, 3) := by decide +kernel
theorem d_AL_elementData_4 : decode b_AL_elementData 4 = .ok (.iload_n 1, 1) := by decide +kernel
theorem d_AL_elementData_5 : decode b_AL_elementData 5 = .ok (.aaload, 1) := by decide +kernel
theorem d_AL_elementData_6 : decode b_AL_elementData 6 = .ok (.areturn, 1) := by decide +kernel
theorem d_Put_init_0 : decode b_Put_init 0 = .ok (.aload_n 0, 1) := by decide +kernel
theorem d_Put_init_1 : decode b_Put_init 1 = .ok (.iconst 1, 1) := by decide +kernel
theorem d_Put_init_2 : decode b_Put_init 2 = .ok (.aload_n 1, 1) := by decide +kernel
theorem d_Put_init_3 : decode b_Put_init 3 = .ok (.getfield 1, 3) := by decide +kernel
theorem d_Put_init_6 : decode b_Put_init 6 = .ok (.invokespecial 7, 3) := by decide +kernel
theorem d_Put_init_9 : decode b_Put_init 9 = .ok (.aload_n 0, 1) := by decide +kernel
theorem d_Put_init_10 : decode b_Put_init 10 = .ok (.aload_n 1, 1) := by decide +kernel
theorem d_Put_init_11 : decode b_Put_init 11 = .ok (.getfield 13, 3) := by decide +kernel
theorem d_Put_init_14 : decode b_Put_init 14 = .ok (.iload_n 2, 1) := by decide +kernel
theorem d_Put_init_15 : decode b_Put_init 15 = .ok (.isub, 1) := by decide +kernel
theorem d_Put_init_16 : decode b_Put_init 16 = .ok (.putfield 16, 3) := by decide +kernel
theorem d_Put_init_19 : decode b_Put_init 19 = .ok (.aload_n 0, 1) := by decide +kernel
theorem d_Put_init_20 : decode b_Put_init 20 = .ok (.aload_n 1, 1) := by decide +kernel
theorem d_Put_init_21 : decode b_Put_init 21 = .ok (.getfield 19, 3) := by decide +kernel
theorem d_Put_init_24 : decode b_Put_init 24 = .ok (.iload_n 2, 1) := by decide +kernel
theorem d_Put_init_25 : decode b_Put_init 25 = .ok (.iadd, 1) := by decide +kernel
theorem d_Put_init_26 : decode b_Put_init 26 = .ok (.putfield 22, 3) := by decide +kernel
theorem d_Put_init_29 : decode b_Put_init 29 = .ok (.return_, 1) := by decide +kernel
theorem d_Item_init_0 : decode b_Item_init 0 = .ok (.aload_n 0, 1) := by decide +kernel
theorem d_Item_init_1 : decode b_Item_init 1 = .ok (.invokespecial 1, 3) := by decide +kernel
theorem d_Item_init_4 : decode b_Item_init 4 = .ok (.aload_n 0, 1) := by decide +kernel
theorem d_Item_init_5 : decode b_Item_init 5 = .ok (.iload_n 1, 1) := by decide +kernel
theorem d_Item_init_6 : decode b_Item_init 6 = .ok (.putfield 7, 3) := by decide +kernel
theorem d_Item_init_9 : decode b_Item_init 9 = .ok (.aload_n 0, 1) := by decide +kernel
theorem d_Item_init_10 : decode b_Item_init 10 = .ok (.iload_n 2, 1) := by decide +kernel
theorem d_Item_init_11 : decode b_Item_init 11 = .ok (.putfield 13, 3) := by decide +kernel
theorem d_Item_init_14 : decode b_Item_init 14 = .ok (.return_, 1) := by decide +kernel
theorem d_BG_append_0 : decode b_BG_append 0 = .ok (.aload_n 0, 1) := by decide +kernel
theorem d_BG_append_1 : decode b_BG_append 1 = .ok (.getfield 10, 3) := by decide +kernel
theorem d_BG_append_4 : decode b_BG_append 4 = .ok (.invokevirtual 27, 3) := by decide +kernel
theorem d_BG_append_7 : decode b_BG_append 7 = .ok (.bipush 40, 2) := by decide +kernel
theorem d_BG_append_9 : decode b_BG_append 9 = .ok (.if_icmp .lt 6, 3) := by decide +kernel
theorem d_BG_append_12 : decode b_BG_append 12 = .ok (.bipush (-2), 2) := by decide +kernel
theorem d_BG_append_14 : decode b_BG_append 14 = .ok (.ireturn, 1) := by decide +kernel
theorem d_BG_append_15 : decode b_BG_append 15 = .ok (.aload_n 0, 1) := by decide +kernel
theorem d_BG_append_16 : decode b_BG_append 16 = .ok (.getfield 10, 3) := by decide +kernel
theorem d_BG_append_19 : decode b_BG_append 19 = .ok (.aload_n 1, 1) := by decide +kernel
theorem d_BG_append_20 : decode b_BG_append 20 = .ok (.invokevirtual 37, 3) := by decide +kernel
theorem d_BG_append_23 : decode b_BG_append 23 = .ok (.pop, 1) := by decide +kernel
theorem d_BG_append_24 : decode b_BG_append 24 = .ok (.aload_n 0, 1) := by decide +kernel
theorem d_BG_append_25 : decode b_BG_append 25 = .ok (.getfield 10, 3) := by decide +kernel
theorem d_BG_append_28 : decode b_BG_append 28 = .ok (.invokevirtual 27, 3) := by decide +kernel
theorem d_BG_append_31 : decode b_BG_append 31 = .ok (.ireturn, 1) := by decide +kernel
theorem d_BG_glue_0 : decode b_BG_glue 0 = .ok (.iload_n 1, 1) := by decide +kernel
theorem d_BG_glue_1 : decode b_BG_glue 1 = .ok (.invokestatic 44, 3) := by decide +kernel
theorem d_BG_glue_4 : decode b_BG_glue 4 = .ok (.ifCond .eq 21, 3) := by decide +kernel
theorem d_BG_glue_7 : decode b_BG_glue 7 = .ok (.iload_n 2, 1) := by decide +kernel
theorem d_BG_glue_8 : decode b_BG_glue 8 = .ok (.iload_n 3, 1) := by decide +kernel
theorem d_BG_glue_9 : decode b_BG_glue 9 = .ok (.invokestatic 60, 3) := by decide +kernel
theorem d_BG_glue_12 : decode b_BG_glue 12 = .ok (.ifCond .eq 13, 3) := by decide +kernel
theorem d_BG_glue_15 : decode b_BG_glue 15 = .ok (.iload 4, 2) := by decide +kernel
theorem d_BG_glue_17 : decode b_BG_glue 17 = .ok (.iload 5, 2) := by decide +kernel
theorem d_BG_glue_19 : decode b_BG_glue 19 = .ok (.invokestatic 60, 3) := by decide +kernel
theorem d_BG_glue_22 : decode b_BG_glue 22 = .ok (.ifCond .ne 5, 3) := by decide +kernel
theorem d_BG_glue_25 : decode b_BG_glue 25 = .ok (.iconst (-1), 1) := by decide +kernel
theorem d_BG_glue_26 : decode b_BG_glue 26 = .ok (.ireturn, 1) := by decide +kernel
theorem d_BG_glue_27 : decode b_BG_glue 27 = .ok (.aload_n 0, 1) := by decide +kernel
theorem d_BG_glue_28 : decode b_BG_glue 28 = .ok (.new 64, 3) := by decide +kernel
theorem d_BG_glue_31 : decode b_BG_glue 31 = .ok (.dup, 1) := by decide +kernel
theorem d_BG_glue_32 : decode b_BG_glue 32 = .ok (.iload_n 1, 1) := by decide +kernel
theorem d_BG_glue_33 : decode b_BG_glue 33 = .ok (.iload_n 2, 1) := by decide +kernel
theorem d_BG_glue_34 : decode b_BG_glue 34 = .ok (.iload_n 3, 1) := by decide +kernel
theorem d_BG_glue_35 : decode b_BG_glue 35 = .ok (.iload 4, 2) := by decide +kernel
theorem d_BG_glue_37 : decode b_BG_glue 37 = .ok (.iload 5, 2) := by decide +kernel
theorem d_BG_glue_39 : decode b_BG_glue 39 = .ok (.new 66, 3) := by decide +kernel
theorem d_BG_glue_42 : decode b_BG_glue 42 = .ok (.dup, 1) := by decide +kernel
theorem d_BG_glue_43 : decode b_BG_glue 43 = .ok (.iconst 0, 1) := by decide +kernel
theorem d_BG_glue_44 : decode b_BG_glue 44 = .ok (.iconst 0, 1) := by decide +kernel
theorem d_BG_glue_45 : decode b_BG_glue 45 = .ok (.invokespecial 68, 3) := by decide +kernel
theorem d_BG_glue_48 : decode b_BG_glue 48 = .ok (.invokespecial 71, 3) := by decide +kernel
theorem d_BG_glue_51 : decode b_BG_glue 51 = .ok (.invokevirtual 56, 3) := by decide +kernel
theorem d_BG_glue_54 : decode b_BG_glue 54 = .ok (.ireturn, 1) := by decide +kernel
theorem d_BG_isGiving_0 : decode b_BG_isGiving 0 = .ok (.iload_n 0, 1) := by decide +kernel
theorem d_BG_isGiving_1 : decode b_BG_isGiving 1 = .ok (.ifCond .lt 23, 3) := by decide +kernel
theorem d_BG_isGiving_4 : decode b_BG_isGiving 4 = .ok (.iload_n 0, 1) := by decide +kernel
theorem d_BG_isGiving_5 : decode b_BG_isGiving 5 = .ok (.sipush 1000, 3) := by decide +kernel
theorem d_BG_isGiving_8 : decode b_BG_isGiving 8 = .ok (.if_icmp .gt 16, 3) := by decide +kernel
theorem d_BG_isGiving_11 : decode b_BG_isGiving 11 = .ok (.iload_n 1, 1) := by decide +kernel
theorem d_BG_isGiving_12 : decode b_BG_isGiving 12 = .ok (.ifCond .lt 12, 3) := by decide +kernel
theorem d_BG_isGiving_15 : decode b_BG_isGiving 15 = .ok (.iload_n 1, 1) := by decide +kernel
theorem d_BG_isGiving_16 : decode b_BG_isGiving 16 = .ok (.iconst 3, 1) := by decide +kernel
theorem d_BG_isGiving_17 : decode b_BG_isGiving 17 = .ok (.if_icmp .gt 7, 3) := by decide +kernel
theorem d_BG_isGiving_20 : decode b_BG_isGiving 20 = .ok (.iconst 1, 1) := by decide +kernel
theorem d_BG_isGiving_21 : decode b_BG_isGiving 21 = .ok (.goto 4, 3) := by decide +kernel
theorem d_BG_isGiving_24 : decode b_BG_isGiving 24 = .ok (.iconst 0, 1) := by decide +kernel
theorem d_BG_isGiving_25 : decode b_BG_isGiving 25 = .ok (.ireturn, 1) := by decide +kernel
theorem d_Leaders_init_0 : decode b_Leaders_init 0 = .ok (.aload_n 0, 1) := by decide +kernel
theorem d_Leaders_init_1 : decode b_Leaders_init 1 = .ok (.invokespecial 1, 3) := by decide +kernel
theorem d_Leaders_init_4 : decode b_Leaders_init 4 = .ok (.aload_n 0, 1) := by decide +kernel
theorem d_Leaders_init_5 : decode b_Leaders_init 5 = .ok (.iload_n 1, 1) := by decide +kernel
theorem d_Leaders_init_6 : decode b_Leaders_init 6 = .ok (.putfield 7, 3) := by decide +kernel
theorem d_Leaders_init_9 : decode b_Leaders_init 9 = .ok (.aload_n 0, 1) := by decide +kernel
theorem d_Leaders_init_10 : decode b_Leaders_init 10 = .ok (.iload_n 2, 1) := by decide +kernel
theorem d_Leaders_init_11 : decode b_Leaders_init 11 = .ok (.putfield 13, 3) := by decide +kernel
theorem d_Leaders_init_14 : decode b_Leaders_init 14 = .ok (.return_, 1) := by decide +kernel
theorem d_Glue_init_0 : decode b_Glue_init 0 = .ok (.aload_n 0, 1) := by decide +kernel
theorem d_Glue_init_1 : decode b_Glue_init 1 = .ok (.iconst 2, 1) := by decide +kernel
theorem d_Glue_init_2 : decode b_Glue_init 2 = .ok (.iload_n 1, 1) := by decide +kernel
theorem d_Glue_init_3 : decode b_Glue_init 3 = .ok (.invokespecial 1, 3) := by decide +kernel
theorem d_Glue_init_6 : decode b_Glue_init 6 = .ok (.aload_n 0, 1) := by decide +kernel
theorem d_Glue_init_7 : decode b_Glue_init 7 = .ok (.iload_n 2, 1) := by decide +kernel
theorem d_Glue_init_8 : decode b_Glue_init 8 = .ok (.putfield 7, 3) := by decide +kernel
theorem d_Glue_init_11 : decode b_Glue_init 11 = .ok (.aload_n 0, 1) := by decide +kernel
theorem d_Glue_init_12 : decode b_Glue_init 12 = .ok (.iload_n 3, 1) := by decide +kernel
theorem d_Glue_init_13 : decode b_Glue_init 13 = .ok (.putfield 13, 3) := by decide +kernel
theorem d_Glue_init_16 : decode b_Glue_init 16 = .ok (.aload_n 0, 1) := by decide +kernel
theorem d_Glue_init_17 : decode b_Glue_init 17 = .ok (.iload 4, 2) := by decide +kernel
theorem d_Glue_init_19 : decode b_Glue_init 19 = .ok (.putfield 16, 3) := by decide +kernel
theorem d_Glue_init_22 : decode b_Glue_init 22 = .ok (.aload_n 0, 1) := by decide +kernel
theorem d_Glue_init_23 : decode b_Glue_init 23 = .ok (.iload 5, 2) := by decide +kernel
theorem d_Glue_init_25 : decode b_Glue_init 25 = .ok (.putfield 19, 3) := by decide +kernel
theorem d_Glue_init_28 : decode b_Glue_init 28 = .ok (.aload_n 0, 1) := by decide +kernel
theorem d_Glue_init_29 : decode b_Glue_init 29 = .ok (.aload 6, 2) := by decide +kernel
theorem d_Glue_init_31 : decode b_Glue_init 31 = .ok (.putfield 22, 3) := by decide +kernel
theorem d_Glue_init_34 : decode b_Glue_init 34 = .ok (.return_, 1) := by decide +kernel
theorem d_BG_kern_0 : decode b_BG_kern 0 = .ok (.iload_n 1, 1) := by decide +kernel
theorem d_BG_kern_1 : decode b_BG_kern 1 = .ok (.invokestatic 44, 3) := by decide +kernel
theorem d_BG_kern_4 : decode b_BG_kern 4 = .ok (.ifCond .ne 5, 3) := by decide +kernel
theorem d_BG_kern_7 : decode b_BG_kern 7 = .ok (.iconst (-1), 1) := by decide +kernel
theorem d_BG_kern_8 : decode b_BG_kern 8 = .ok (.ireturn, 1) := by decide +kernel
theorem d_BG_kern_9 : decode b_BG_kern 9 = .ok (.aload_n 0, 1) := by decide +kernel
theorem d_BG_kern_10 : decode b_BG_kern 10 = .ok (.new 74, 3) := by decide +kernel
theorem d_BG_kern_13 : decode b_BG_kern 13 = .ok (.dup, 1) := by decide +kernel
theorem d_BG_kern_14 : decode b_BG_kern 14 = .ok (.iload_n 1, 1) := by decide +kernel
theorem d_BG_kern_15 : decode b_BG_kern 15 = .ok (.invokespecial 76, 3) := by decide +kernel
theorem d_BG_kern_18 : decode b_BG_kern 18 = .ok (.invokevirtual 56, 3) := by decide +kernel
theorem d_BG_kern_21 : decode b_BG_kern 21 = .ok (.ireturn, 1) := by decide +kernel
theorem d_Kern_init_0 : decode b_Kern_init 0 = .ok (.aload_n 0, 1) := by decide +kernel
theorem d_Kern_init_1 : decode b_Kern_init 1 = .ok (.iconst 3, 1) := by decide +kernel
theorem d_Kern_init_2 : decode b_Kern_init 2 = .ok (.iload_n 1, 1) := by decide +kernel
theorem d_Kern_init_3 : decode b_Kern_init 3 = .ok (.invokespecial 1, 3) := by decide +kernel
theorem d_Kern_init_6 : decode b_Kern_init 6 = .ok (.return_, 1) := by decide +kernel
theorem d_BG_rule_0 : decode b_BG_rule 0 = .ok (.iload_n 1, 1) := by decide +kernel
theorem d_BG_rule_1 : decode b_BG_rule 1 = .ok (.invokestatic 23, 3) := by decide +kernel
theorem d_BG_rule_4 : decode b_BG_rule 4 = .ok (.ifCond .eq 17, 3) := by decide +kernel
theorem d_BG_rule_7 : decode b_BG_rule 7 = .ok (.iload_n 2, 1) := by decide +kernel
theorem d_BG_rule_8 : decode b_BG_rule 8 = .ok (.invokestatic 79, 3) := by decide +kernel
theorem d_BG_rule_11 : decode b_BG_rule 11 = .ok (.ifCond .eq 10, 3) := by decide +kernel
theorem d_BG_rule_14 : decode b_BG_rule 14 = .ok (.iload_n 3, 1) := by decide +kernel
theorem d_BG_rule_15 : decode b_BG_rule 15 = .ok (.invokestatic 79, 3) := by decide +kernel
theorem d_BG_rule_18 : decode b_BG_rule 18 = .ok (.ifCond .ne 5, 3) := by decide +kernel
theorem d_BG_rule_21 : decode b_BG_rule 21 = .ok (.iconst (-1), 1) := by decide +kernel
theorem d_BG_rule_22 : decode b_BG_rule 22 = .ok (.ireturn, 1) := by decide +kernel
theorem d_BG_rule_23 : decode b_BG_rule 23 = .ok (.aload_n 0, 1) := by decide +kernel
theorem d_BG_rule_24 : decode b_BG_rule 24 = .ok (.new 82, 3) := by decide +kernel
theorem d_BG_rule_27 : decode b_BG_rule 27 = .ok (.dup, 1) := by decide +kernel
theorem d_BG_rule_28 : decode b_BG_rule 28 = .ok (.iload_n 1, 1) := by decide +kernel
theorem d_BG_rule_29 : decode b_BG_rule 29 = .ok (.iload_n 2, 1) := by decide +kernel
theorem d_BG_rule_30 : decode b_BG_rule 30 = .ok (.iload_n 3, 1) := by decide +kernel
theorem d_BG_rule_31 : decode b_BG_rule 31 = .ok (.invokespecial 84, 3) := by decide +kernel
theorem d_BG_rule_34 : decode b_BG_rule 34 = .ok (.invokevirtual 56, 3) := by decide +kernel
theorem d_BG_rule_37 : decode b_BG_rule 37 = .ok (.ireturn, 1) := by decide +kernel
theorem d_BG_isExtentOrRunning_0 : decode b_BG_isExtentOrRunning 0 = .ok (.iload_n 0, 1) := by decide +kernel
theorem d_BG_isExtentOrRunning_1 : decode b_BG_isExtentOrRunning 1 = .ok (.ldc 143, 2) := by decide +kernel
theorem d_BG_isExtentOrRunning_3 : decode b_BG_isExtentOrRunning 3 = .ok (.if_icmp .eq 10, 3) := by decide +kernel
theorem d_BG_isExtentOrRunning_6 : decode b_BG_isExtentOrRunning 6 = .ok (.iload_n 0, 1) := by decide +kernel
theorem d_BG_isExtentOrRunning_7 : decode b_BG_isExtentOrRunning 7 = .ok (.invokestatic 23, 3) := by decide +kernel
theorem d_BG_isExtentOrRunning_10 : decode b_BG_isExtentOrRunning 10 = .ok (.ifCond .eq 7, 3) := by decide +kernel
theorem d_BG_isExtentOrRunning_13 : decode b_BG_isExtentOrRunning 13 = .ok (.iconst 1, 1) := by decide +kernel
theorem d_BG_isExtentOrRunning_14 : decode b_BG_isExtentOrRunning 14 = .ok (.goto 4, 3) := by decide +kernel
theorem d_BG_isExtentOrRunning_17 : decode b_BG_isExtentOrRunning 17 = .ok (.iconst 0, 1) := by decide +kernel
theorem d_BG_isExtentOrRunning_18 : decode b_BG_isExtentOrRunning 18 = .ok (.ireturn, 1) := by decide +kernel
theorem d_Rule_init_0 : decode b_Rule_init 0 = .ok (.aload_n 0, 1) := by decide +kernel
theorem d_Rule_init_1 : decode b_Rule_init 1 = .ok (.iconst 4, 1) := by decide +kernel
theorem d_Rule_init_2 : decode b_Rule_init 2 = .ok (.iload_n 1, 1) := by decide +kernel
theorem d_Rule_init_3 : decode b_Rule_init 3 = .ok (.invokespecial 3, 3) := by decide +kernel
theorem d_Rule_init_6 : decode b_Rule_init 6 = .ok (.aload_n 0, 1) := by decide +kernel
theorem d_Rule_init_7 : decode b_Rule_init 7 = .ok (.iload_n 2, 1) := by decide +kernel
theorem d_Rule_init_8 : decode b_Rule_init 8 = .ok (.putfield 9, 3) := by decide +kernel
theorem d_Rule_init_11 : decode b_Rule_init 11 = .ok (.aload_n 0, 1) := by decide +kernel
theorem d_Rule_init_12 : decode b_Rule_init 12 = .ok (.iload_n 3, 1) := by decide +kernel
theorem d_Rule_init_13 : decode b_Rule_init 13 = .ok (.putfield 15, 3) := by decide +kernel
theorem d_Rule_init_16 : decode b_Rule_init 16 = .ok (.return_, 1) := by decide +kernel
theorem d_BG_leaders_0 : decode b_BG_leaders 0 = .ok (.iload_n 1, 1) := by decide +kernel
theorem d_BG_leaders_1 : decode b_BG_leaders 1 = .ok (.iconst 1, 1) := by decide +kernel
theorem d_BG_leaders_2 : decode b_BG_leaders 2 = .ok (.if_icmp .lt 16, 3) := by decide +kernel
theorem d_BG_leaders_5 : decode b_BG_leaders 5 = .ok (.iload_n 1, 1) := by decide +kernel
theorem d_BG_leaders_6 : decode b_BG_leaders 6 = .ok (.iconst 3, 1) := by decide +kernel
theorem d_BG_leaders_7 : decode b_BG_leaders 7 = .ok (.if_icmp .gt 11, 3) := by decide +kernel
theorem d_BG_leaders_10 : decode b_BG_leaders 10 = .ok (.aload_n 0, 1) := by decide +kernel
theorem d_BG_leaders_11 : decode b_BG_leaders 11 = .ok (.iload_n 2, 1) := by decide +kernel
theorem d_BG_leaders_12 : decode b_BG_leaders 12 = .ok (.invokevirtual 41, 3) := by decide +kernel
theorem d_BG_leaders_15 : decode b_BG_leaders 15 = .ok (.ifCond .ne 5, 3) := by decide +kernel
theorem d_BG_leaders_18 : decode b_BG_leaders 18 = .ok (.iconst (-1), 1) := by decide +kernel
theorem d_BG_leaders_19 : decode b_BG_leaders 19 = .ok (.ireturn, 1) := by decide +kernel
theorem d_BG_leaders_20 : decode b_BG_leaders 20 = .ok (.aload_n 0, 1) := by decide +kernel
theorem d_BG_leaders_21 : decode b_BG_leaders 21 = .ok (.getfield 10, 3) := by decide +kernel
theorem d_BG_leaders_24 : decode b_BG_leaders 24 = .ok (.invokevirtual 87, 3) := by decide +kernel
theorem d_BG_leaders_27 : decode b_BG_leaders 27 = .ok (.ifCond .eq 6, 3) := by decide +kernel
theorem d_BG_leaders_30 : decode b_BG_leaders 30 = .ok (.bipush (-3), 2) := by decide +kernel
theorem d_BG_leaders_32 : decode b_BG_leaders 32 = .ok (.ireturn, 1) := by decide +kernel
theorem d_BG_leaders_33 : decode b_BG_leaders 33 = .ok (.aload_n 0, 1) := by decide +kernel
theorem d_BG_leaders_34 : decode b_BG_leaders 34 = .ok (.getfield 10, 3) := by decide +kernel
theorem d_BG_leaders_37 : decode b_BG_leaders 37 = .ok (.invokevirtual 27, 3) := by decide +kernel
theorem d_BG_leaders_40 : decode b_BG_leaders 40 = .ok (.iconst 1, 1) := by decide +kernel
theorem d_BG_leaders_41 : decode b_BG_leaders 41 = .ok (.isub, 1) := by decide +kernel
theorem d_BG_leaders_42 : decode b_BG_leaders 42 = .ok (.istore_n 3, 1) := by decide +kernel
theorem d_BG_leaders_43 : decode b_BG_leaders 43 = .ok (.aload_n 0, 1) := by decide +kernel
theorem d_BG_leaders_44 : decode b_BG_leaders 44 = .ok (.getfield 10, 3) := by decide +kernel
theorem d_BG_leaders_47 : decode b_BG_leaders 47 = .ok (.iload_n 3, 1) := by decide +kernel
theorem d_BG_leaders_48 : decode b_BG_leaders 48 = .ok (.invokevirtual 49, 3) := by decide +kernel
theorem d_BG_leaders_51 : decode b_BG_leaders 51 = .ok (.astore 5, 2) := by decide +kernel
theorem d_BG_leaders_53 : decode b_BG_leaders 53 = .ok (.aload 5, 2) := by decide +kernel
theorem d_BG_leaders_55 : decode b_BG_leaders 55 = .ok (.instanceof 64, 3) := by decide +kernel
theorem d_BG_leaders_58 : decode b_BG_leaders 58 = .ok (.ifCond .eq 48, 3) := by decide +kernel
theorem d_BG_leaders_61 : decode b_BG_leaders 61 = .ok (.aload 5, 2) := by decide +kernel
theorem d_BG_leaders_63 : decode b_BG_leaders 63 = .ok (.checkcast 64, 3) := by decide +kernel
theorem d_BG_leaders_66 : decode b_BG_leaders 66 = .ok (.astore 4, 2) := by decide +kernel
theorem d_BG_leaders_68 : decode b_BG_leaders 68 = .ok (.aload_n 0, 1) := by decide +kernel
theorem d_BG_leaders_69 : decode b_BG_leaders 69 = .ok (.getfield 10, 3) := by decide +kernel
theorem d_BG_leaders_72 : decode b_BG_leaders 72 = .ok (.iload_n 3, 1) := by decide +kernel
theorem d_BG_leaders_73 : decode b_BG_leaders 73 = .ok (.aload 4, 2) := by decide +kernel
theorem d_BG_leaders_75 : decode b_BG_leaders 75 = .ok (.new 66, 3) := by decide +kernel
theorem d_BG_leaders_78 : decode b_BG_leaders 78 = .ok (.dup, 1) := by decide +kernel
theorem d_BG_leaders_79 : decode b_BG_leaders 79 = .ok (.iload_n 1, 1) := by decide +kernel
theorem d_BG_leaders_80 : decode b_BG_leaders 80 = .ok (.aload_n 0, 1) := by decide +kernel
theorem d_BG_leaders_81 : decode b_BG_leaders 81 = .ok (.getfield 16, 3) := by decide +kernel
theorem d_BG_leaders_84 : decode b_BG_leaders 84 = .ok (.iload_n 2, 1) := by decide +kernel
theorem d_BG_leaders_85 : decode b_BG_leaders 85 = .ok (.invokevirtual 49, 3) := by decide +kernel
theorem d_BG_leaders_88 : decode b_BG_leaders 88 = .ok (.checkcast 32, 3) := by decide +kernel
theorem d_BG_leaders_91 : decode b_BG_leaders 91 = .ok (.getfield 91, 3) := by decide +kernel
theorem d_BG_leaders_94 : decode b_BG_leaders 94 = .ok (.invokespecial 68, 3) := by decide +kernel
theorem d_BG_leaders_97 : decode b_BG_leaders 97 = .ok (.invokevirtual 94, 3) := by decide +kernel
theorem d_BG_leaders_100 : decode b_BG_leaders 100 = .ok (.invokevirtual 98, 3) := by decide +kernel
theorem d_BG_leaders_103 : decode b_BG_leaders 103 = .ok (.pop, 1) := by decide +kernel
theorem d_BG_leaders_104 : decode b_BG_leaders 104 = .ok (.iconst 1, 1) := by decide +kernel
theorem d_BG_leaders_105 : decode b_BG_leaders 105 = .ok (.ireturn, 1) := by decide +kernel
theorem d_BG_leaders_106 : decode b_BG_leaders 106 = .ok (.bipush (-3), 2) := by decide +kernel
theorem d_BG_leaders_108 : decode b_BG_leaders 108 = .ok (.ireturn, 1) := by decide +kernel
theorem d_AL_isEmpty_0 : decode b_AL_isEmpty 0 = .ok (.aload_n 0, 1) := by decide +kernel
theorem d_AL_isEmpty_1 : decode b_AL_isEmpty 1 = .ok (.getfield 48, 3) := by decide +kernel
theorem d_AL_isEmpty_4 : decode b_AL_isEmpty 4 = .ok (.ifCond .ne 7, 3) := by decide +kernel
theorem d_AL_isEmpty_7 : decode b_AL_isEmpty 7 = .ok (.iconst 1, 1) := by decide +kernel
theorem d_AL_isEmpty_8 : decode b_AL_isEmpty 8 = .ok (.goto 4, 3) := by decide +kernel
theorem d_AL_isEmpty_11 : decode b_AL_isEmpty 11 = .ok (.iconst 0, 1) := by decide +kernel
end
section
theorem d_AL_isEmpty_12 : decode b_AL_isEmpty 12 = .ok (.ireturn, 1) := by decide +kernel
theorem d_Glue_with_0 : decode b_Glue_with 0 = .ok (.new 8, 3) := by decide +kernel
theorem d_Glue_with_3 : decode b_Glue_with 3 = .ok (.dup, 1) := by decide +kernel
theorem d_Glue_with_4 : decode b_Glue_with 4 = .ok (.aload_n 0, 1) := by decide +kernel
theorem d_Glue_with_5 : decode b_Glue_with 5 = .ok (.getfield 26, 3) := by decide +kernel
theorem d_Glue_with_8 : decode b_Glue_with 8 = .ok (.aload_n 0, 1) := by decide +kernel
theorem d_Glue_with_9 : decode b_Glue_with 9 = .ok (.getfield 7, 3) := by decide +kernel
theorem d_Glue_with_12 : decode b_Glue_with 12 = .ok (.aload_n 0, 1) := by decide +kernel
theorem d_Glue_with_13 : decode b_Glue_with 13 = .ok (.getfield 13, 3) := by decide +kernel
theorem d_Glue_with_16 : decode b_Glue_with 16 = .ok (.aload_n 0, 1) := by decide +kernel
theorem d_Glue_with_17 : decode b_Glue_with 17 = .ok (.getfield 16, 3) := by decide +kernel
theorem d_Glue_with_20 : decode b_Glue_with 20 = .ok (.aload_n 0, 1) := by decide +kernel
theorem d_Glue_with_21 : decode b_Glue_with 21 = .ok (.getfield 19, 3) := by decide +kernel
theorem d_Glue_with_24 : decode b_Glue_with 24 = .ok (.aload_n 1, 1) := by decide +kernel
theorem d_Glue_with_25 : decode b_Glue_with 25 = .ok (.invokespecial 29, 3) := by decide +kernel
theorem d_Glue_with_28 : decode b_Glue_with 28 = .ok (.areturn, 1) := by decide +kernel
theorem d_AL_set_0 : decode b_AL_set 0 = .ok (.iload_n 1, 1) := by decide +kernel
theorem d_AL_set_1 : decode b_AL_set 1 = .ok (.aload_n 0, 1) := by decide +kernel
theorem d_AL_set_2 : decode b_AL_set 2 = .ok (.getfield 48, 3) := by decide +kernel
theorem d_AL_set_5 : decode b_AL_set 5 = .ok (.invokestatic 118, 3) := by decide +kernel
theorem d_AL_set_8 : decode b_AL_set 8 = .ok (.pop, 1) := by decide +kernel
theorem d_AL_set_9 : decode b_AL_set 9 = .ok (.aload_n 0, 1) := by decide +kernel
theorem d_AL_set_10 : decode b_AL_set 10 = .ok (.iload_n 1, 1) := by decide +kernel
theorem d_AL_set_11 : decode b_AL_set 11 = .ok (.invokevirtual 123, 3) := by decide +kernel
theorem d_AL_set_14 : decode b_AL_set 14 = .ok (.astore_n 3, 1) := by decide +kernel
theorem d_AL_set_15 : decode b_AL_set 15 = .ok (.aload_n 0, 1) := by decide +kernel
theorem d_AL_set_16 : decode b_AL_set 16 = .ok (.getfield 9, 3) := by decide +kernel
theorem d_AL_set_19 : decode b_AL_set 19 = .ok (.iload_n 1, 1) := by decide +kernel
theorem d_AL_set_20 : decode b_AL_set 20 = .ok (.aload_n 2, 1) := by decide +kernel
theorem d_AL_set_21 : decode b_AL_set 21 = .ok (.aastore, 1) := by decide +kernel
theorem d_AL_set_22 : decode b_AL_set 22 = .ok (.aload_n 3, 1) := by decide +kernel
theorem d_AL_set_23 : decode b_AL_set 23 = .ok (.areturn, 1) := by decide +kernel
theorem d_BG_pack_0 : decode b_BG_pack 0 = .ok (.iload_n 1, 1) := by decide +kernel
theorem d_BG_pack_1 : decode b_BG_pack 1 = .ok (.iconst (-1), 1) := by decide +kernel
theorem d_BG_pack_2 : decode b_BG_pack 2 = .ok (.if_icmp .lt 9, 3) := by decide +kernel
theorem d_BG_pack_5 : decode b_BG_pack 5 = .ok (.iload_n 1, 1) := by decide +kernel
theorem d_BG_pack_6 : decode b_BG_pack 6 = .ok (.ldc 102, 2) := by decide +kernel
theorem d_BG_pack_8 : decode b_BG_pack 8 = .ok (.if_icmp .le 5, 3) := by decide +kernel
theorem d_BG_pack_11 : decode b_BG_pack 11 = .ok (.iconst (-1), 1) := by decide +kernel
theorem d_BG_pack_12 : decode b_BG_pack 12 = .ok (.ireturn, 1) := by decide +kernel
theorem d_BG_pack_13 : decode b_BG_pack 13 = .ok (.aload_n 0, 1) := by decide +kernel
theorem d_BG_pack_14 : decode b_BG_pack 14 = .ok (.getfield 10, 3) := by decide +kernel
theorem d_BG_pack_17 : decode b_BG_pack 17 = .ok (.invokestatic 103, 3) := by decide +kernel
theorem d_BG_pack_20 : decode b_BG_pack 20 = .ok (.istore_n 2, 1) := by decide +kernel
theorem d_BG_pack_21 : decode b_BG_pack 21 = .ok (.iload_n 1, 1) := by decide +kernel
theorem d_BG_pack_22 : decode b_BG_pack 22 = .ok (.iconst (-1), 1) := by decide +kernel
theorem d_BG_pack_23 : decode b_BG_pack 23 = .ok (.if_icmp .ne 11, 3) := by decide +kernel
theorem d_BG_pack_26 : decode b_BG_pack 26 = .ok (.iload_n 2, 1) := by decide +kernel
theorem d_BG_pack_27 : decode b_BG_pack 27 = .ok (.ldc 102, 2) := by decide +kernel
theorem d_BG_pack_29 : decode b_BG_pack 29 = .ok (.if_icmp .le 5, 3) := by decide +kernel
theorem d_BG_pack_32 : decode b_BG_pack 32 = .ok (.iconst (-1), 1) := by decide +kernel
theorem d_BG_pack_33 : decode b_BG_pack 33 = .ok (.ireturn, 1) := by decide +kernel
theorem d_BG_pack_34 : decode b_BG_pack 34 = .ok (.aload_n 0, 1) := by decide +kernel
theorem d_BG_pack_35 : decode b_BG_pack 35 = .ok (.getfield 16, 3) := by decide +kernel
theorem d_BG_pack_38 : decode b_BG_pack 38 = .ok (.invokevirtual 27, 3) := by decide +kernel
theorem d_BG_pack_41 : decode b_BG_pack 41 = .ok (.bipush 60, 2) := by decide +kernel
theorem d_BG_pack_43 : decode b_BG_pack 43 = .ok (.if_icmp .ge 21, 3) := by decide +kernel
theorem d_BG_pack_46 : decode b_BG_pack 46 = .ok (.aload_n 0, 1) := by decide +kernel
theorem d_BG_pack_47 : decode b_BG_pack 47 = .ok (.getfield 19, 3) := by decide +kernel
theorem d_BG_pack_50 : decode b_BG_pack 50 = .ok (.aload_n 0, 1) := by decide +kernel
theorem d_BG_pack_51 : decode b_BG_pack 51 = .ok (.getfield 10, 3) := by decide +kernel
theorem d_BG_pack_54 : decode b_BG_pack 54 = .ok (.invokevirtual 27, 3) := by decide +kernel
theorem d_BG_pack_57 : decode b_BG_pack 57 = .ok (.iadd, 1) := by decide +kernel
theorem d_BG_pack_58 : decode b_BG_pack 58 = .ok (.sipush 300, 3) := by decide +kernel
theorem d_BG_pack_61 : decode b_BG_pack 61 = .ok (.if_icmp .le 6, 3) := by decide +kernel
theorem d_BG_pack_64 : decode b_BG_pack 64 = .ok (.bipush (-2), 2) := by decide +kernel
theorem d_BG_pack_66 : decode b_BG_pack 66 = .ok (.ireturn, 1) := by decide +kernel
theorem d_BG_pack_67 : decode b_BG_pack 67 = .ok (.aload_n 0, 1) := by decide +kernel
theorem d_BG_pack_68 : decode b_BG_pack 68 = .ok (.getfield 16, 3) := by decide +kernel
theorem d_BG_pack_71 : decode b_BG_pack 71 = .ok (.aload_n 0, 1) := by decide +kernel
theorem d_BG_pack_72 : decode b_BG_pack 72 = .ok (.getfield 10, 3) := by decide +kernel
theorem d_BG_pack_75 : decode b_BG_pack 75 = .ok (.iload_n 1, 1) := by decide +kernel
theorem d_BG_pack_76 : decode b_BG_pack 76 = .ok (.iconst (-1), 1) := by decide +kernel
theorem d_BG_pack_77 : decode b_BG_pack 77 = .ok (.if_icmp .ne 11, 3) := by decide +kernel
theorem d_BG_pack_80 : decode b_BG_pack 80 = .ok (.iload_n 2, 1) := by decide +kernel
theorem d_BG_pack_81 : decode b_BG_pack 81 = .ok (.iconst 0, 1) := by decide +kernel
theorem d_BG_pack_82 : decode b_BG_pack 82 = .ok (.invokestatic 109, 3) := by decide +kernel
theorem d_BG_pack_85 : decode b_BG_pack 85 = .ok (.goto 4, 3) := by decide +kernel
theorem d_BG_pack_88 : decode b_BG_pack 88 = .ok (.iload_n 1, 1) := by decide +kernel
theorem d_BG_pack_89 : decode b_BG_pack 89 = .ok (.invokestatic 115, 3) := by decide +kernel
theorem d_BG_pack_92 : decode b_BG_pack 92 = .ok (.invokevirtual 37, 3) := by decide +kernel
theorem d_BG_pack_95 : decode b_BG_pack 95 = .ok (.pop, 1) := by decide +kernel
theorem d_BG_pack_96 : decode b_BG_pack 96 = .ok (.aload_n 0, 1) := by decide +kernel
theorem d_BG_pack_97 : decode b_BG_pack 97 = .ok (.dup, 1) := by decide +kernel
theorem d_BG_pack_98 : decode b_BG_pack 98 = .ok (.getfield 19, 3) := by decide +kernel
theorem d_BG_pack_101 : decode b_BG_pack 101 = .ok (.aload_n 0, 1) := by decide +kernel
theorem d_BG_pack_102 : decode b_BG_pack 102 = .ok (.getfield 10, 3) := by decide +kernel
theorem d_BG_pack_105 : decode b_BG_pack 105 = .ok (.invokevirtual 27, 3) := by decide +kernel
theorem d_BG_pack_108 : decode b_BG_pack 108 = .ok (.iadd, 1) := by decide +kernel
theorem d_BG_pack_109 : decode b_BG_pack 109 = .ok (.putfield 19, 3) := by decide +kernel
theorem d_BG_pack_112 : decode b_BG_pack 112 = .ok (.aload_n 0, 1) := by decide +kernel
theorem d_BG_pack_113 : decode b_BG_pack 113 = .ok (.getfield 10, 3) := by decide +kernel
theorem d_BG_pack_116 : decode b_BG_pack 116 = .ok (.invokevirtual 119, 3) := by decide +kernel
theorem d_BG_pack_119 : decode b_BG_pack 119 = .ok (.aload_n 0, 1) := by decide +kernel
theorem d_BG_pack_120 : decode b_BG_pack 120 = .ok (.getfield 16, 3) := by decide +kernel
theorem d_BG_pack_123 : decode b_BG_pack 123 = .ok (.invokevirtual 27, 3) := by decide +kernel
theorem d_BG_pack_126 : decode b_BG_pack 126 = .ok (.iconst 1, 1) := by decide +kernel
theorem d_BG_pack_127 : decode b_BG_pack 127 = .ok (.isub, 1) := by decide +kernel
theorem d_BG_pack_128 : decode b_BG_pack 128 = .ok (.ireturn, 1) := by decide +kernel
theorem d_Fit_lengthOf_0 : decode b_Fit_lengthOf 0 = .ok (.iconst 0, 1) := by decide +kernel
theorem d_Fit_lengthOf_1 : decode b_Fit_lengthOf 1 = .ok (.istore_n 1, 1) := by decide +kernel
theorem d_Fit_lengthOf_2 : decode b_Fit_lengthOf 2 = .ok (.iconst 0, 1) := by decide +kernel
theorem d_Fit_lengthOf_3 : decode b_Fit_lengthOf 3 = .ok (.istore_n 2, 1) := by decide +kernel
theorem d_Fit_lengthOf_4 : decode b_Fit_lengthOf 4 = .ok (.iload_n 2, 1) := by decide +kernel
theorem d_Fit_lengthOf_5 : decode b_Fit_lengthOf 5 = .ok (.aload_n 0, 1) := by decide +kernel
theorem d_Fit_lengthOf_6 : decode b_Fit_lengthOf 6 = .ok (.invokevirtual 39, 3) := by decide +kernel
theorem d_Fit_lengthOf_9 : decode b_Fit_lengthOf 9 = .ok (.if_icmp .ge 23, 3) := by decide +kernel
theorem d_Fit_lengthOf_12 : decode b_Fit_lengthOf 12 = .ok (.iload_n 1, 1) := by decide +kernel
theorem d_Fit_lengthOf_13 : decode b_Fit_lengthOf 13 = .ok (.aload_n 0, 1) := by decide +kernel
theorem d_Fit_lengthOf_14 : decode b_Fit_lengthOf 14 = .ok (.iload_n 2, 1) := by decide +kernel
theorem d_Fit_lengthOf_15 : decode b_Fit_lengthOf 15 = .ok (.invokevirtual 45, 3) := by decide +kernel
theorem d_Fit_lengthOf_18 : decode b_Fit_lengthOf 18 = .ok (.checkcast 49, 3) := by decide +kernel
theorem d_Fit_lengthOf_21 : decode b_Fit_lengthOf 21 = .ok (.getfield 51, 3) := by decide +kernel
theorem d_Fit_lengthOf_24 : decode b_Fit_lengthOf 24 = .ok (.iadd, 1) := by decide +kernel
theorem d_Fit_lengthOf_25 : decode b_Fit_lengthOf 25 = .ok (.istore_n 1, 1) := by decide +kernel
theorem d_Fit_lengthOf_26 : decode b_Fit_lengthOf 26 = .ok (.iinc 2 1, 3) := by decide +kernel
theorem d_Fit_lengthOf_29 : decode b_Fit_lengthOf 29 = .ok (.goto (-25), 3) := by decide +kernel
theorem d_Fit_lengthOf_32 : decode b_Fit_lengthOf 32 = .ok (.iload_n 1, 1) := by decide +kernel
theorem d_Fit_lengthOf_33 : decode b_Fit_lengthOf 33 = .ok (.ireturn, 1) := by decide +kernel
theorem d_Box_packed_0 : decode b_Box_packed 0 = .ok (.iconst 0, 1) := by decide +kernel
theorem d_Box_packed_1 : decode b_Box_packed 1 = .ok (.istore_n 2, 1) := by decide +kernel
theorem d_Box_packed_2 : decode b_Box_packed 2 = .ok (.iconst 0, 1) := by decide +kernel
theorem d_Box_packed_3 : decode b_Box_packed 3 = .ok (.istore_n 3, 1) := by decide +kernel
theorem d_Box_packed_4 : decode b_Box_packed 4 = .ok (.iconst 0, 1) := by decide +kernel
theorem d_Box_packed_5 : decode b_Box_packed 5 = .ok (.istore 4, 2) := by decide +kernel
theorem d_Box_packed_7 : decode b_Box_packed 7 = .ok (.iload 4, 2) := by decide +kernel
theorem d_Box_packed_9 : decode b_Box_packed 9 = .ok (.aload_n 0, 1) := by decide +kernel
theorem d_Box_packed_10 : decode b_Box_packed 10 = .ok (.invokevirtual 40, 3) := by decide +kernel
theorem d_Box_packed_13 : decode b_Box_packed 13 = .ok (.if_icmp .ge 45, 3) := by decide +kernel
theorem d_Box_packed_16 : decode b_Box_packed 16 = .ok (.iload_n 2, 1) := by decide +kernel
theorem d_Box_packed_17 : decode b_Box_packed 17 = .ok (.aload_n 0, 1) := by decide +kernel
theorem d_Box_packed_18 : decode b_Box_packed 18 = .ok (.iload 4, 2) := by decide +kernel
theorem d_Box_packed_20 : decode b_Box_packed 20 = .ok (.invokevirtual 44, 3) := by decide +kernel
theorem d_Box_packed_23 : decode b_Box_packed 23 = .ok (.checkcast 48, 3) := by decide +kernel
theorem d_Box_packed_26 : decode b_Box_packed 26 = .ok (.iconst 0, 1) := by decide +kernel
theorem d_Box_packed_27 : decode b_Box_packed 27 = .ok (.invokevirtual 50, 3) := by decide +kernel
theorem d_Box_packed_30 : decode b_Box_packed 30 = .ok (.invokestatic 54, 3) := by decide +kernel
theorem d_Box_packed_33 : decode b_Box_packed 33 = .ok (.istore_n 2, 1) := by decide +kernel
theorem d_Box_packed_34 : decode b_Box_packed 34 = .ok (.iload_n 3, 1) := by decide +kernel
theorem d_Box_packed_35 : decode b_Box_packed 35 = .ok (.aload_n 0, 1) := by decide +kernel
theorem d_Box_packed_36 : decode b_Box_packed 36 = .ok (.iload 4, 2) := by decide +kernel
theorem d_Box_packed_38 : decode b_Box_packed 38 = .ok (.invokevirtual 44, 3) := by decide +kernel
theorem d_Box_packed_41 : decode b_Box_packed 41 = .ok (.checkcast 48, 3) := by decide +kernel
theorem d_Box_packed_44 : decode b_Box_packed 44 = .ok (.iconst 0, 1) := by decide +kernel
theorem d_Box_packed_45 : decode b_Box_packed 45 = .ok (.invokevirtual 60, 3) := by decide +kernel
theorem d_Box_packed_48 : decode b_Box_packed 48 = .ok (.invokestatic 54, 3) := by decide +kernel
theorem d_Box_packed_51 : decode b_Box_packed 51 = .ok (.istore_n 3, 1) := by decide +kernel
theorem d_Box_packed_52 : decode b_Box_packed 52 = .ok (.iinc 4 1, 3) := by decide +kernel
theorem d_Box_packed_55 : decode b_Box_packed 55 = .ok (.goto (-48), 3) := by decide +kernel
theorem d_Box_packed_58 : decode b_Box_packed 58 = .ok (.aload_n 0, 1) := by decide +kernel
theorem d_Box_packed_59 : decode b_Box_packed 59 = .ok (.iload_n 1, 1) := by decide +kernel
theorem d_Box_packed_60 : decode b_Box_packed 60 = .ok (.invokestatic 63, 3) := by decide +kernel
theorem d_Box_packed_63 : decode b_Box_packed 63 = .ok (.astore 4, 2) := by decide +kernel
theorem d_Box_packed_65 : decode b_Box_packed 65 = .ok (.new 10, 3) := by decide +kernel
theorem d_Box_packed_68 : decode b_Box_packed 68 = .ok (.dup, 1) := by decide +kernel
theorem d_Box_packed_69 : decode b_Box_packed 69 = .ok (.iload_n 1, 1) := by decide +kernel
theorem d_Box_packed_70 : decode b_Box_packed 70 = .ok (.iload_n 2, 1) := by decide +kernel
theorem d_Box_packed_71 : decode b_Box_packed 71 = .ok (.iload_n 3, 1) := by decide +kernel
theorem d_Box_packed_72 : decode b_Box_packed 72 = .ok (.aload 4, 2) := by decide +kernel
theorem d_Box_packed_74 : decode b_Box_packed 74 = .ok (.aload_n 0, 1) := by decide +kernel
theorem d_Box_packed_75 : decode b_Box_packed 75 = .ok (.aload 4, 2) := by decide +kernel
theorem d_Box_packed_77 : decode b_Box_packed 77 = .ok (.invokestatic 67, 3) := by decide +kernel
theorem d_Box_packed_80 : decode b_Box_packed 80 = .ok (.invokespecial 37, 3) := by decide +kernel
theorem d_Box_packed_83 : decode b_Box_packed 83 = .ok (.areturn, 1) := by decide +kernel
theorem d_Put_heightWhere_0 : decode b_Put_heightWhere 0 = .ok (.aload_n 0, 1) := by decide +kernel
theorem d_Put_heightWhere_1 : decode b_Put_heightWhere 1 = .ok (.getfield 16, 3) := by decide +kernel
theorem d_Put_heightWhere_4 : decode b_Put_heightWhere 4 = .ok (.ireturn, 1) := by decide +kernel
theorem d_Rule_heightWhere_0 : decode b_Rule_heightWhere 0 = .ok (.aload_n 0, 1) := by decide +kernel
theorem d_Rule_heightWhere_1 : decode b_Rule_heightWhere 1 = .ok (.getfield 9, 3) := by decide +kernel
theorem d_Rule_heightWhere_4 : decode b_Rule_heightWhere 4 = .ok (.ldc 18, 2) := by decide +kernel
theorem d_Rule_heightWhere_6 : decode b_Rule_heightWhere 6 = .ok (.if_icmp .ne 7, 3) := by decide +kernel
theorem d_Rule_heightWhere_9 : decode b_Rule_heightWhere 9 = .ok (.iload_n 1, 1) := by decide +kernel
theorem d_Rule_heightWhere_10 : decode b_Rule_heightWhere 10 = .ok (.goto 7, 3) := by decide +kernel
theorem d_Rule_heightWhere_13 : decode b_Rule_heightWhere 13 = .ok (.aload_n 0, 1) := by decide +kernel
theorem d_Rule_heightWhere_14 : decode b_Rule_heightWhere 14 = .ok (.getfield 9, 3) := by decide +kernel
theorem d_Rule_heightWhere_17 : decode b_Rule_heightWhere 17 = .ok (.ireturn, 1) := by decide +kernel
theorem d_Item_heightWhere_0 : decode b_Item_heightWhere 0 = .ok (.iconst 0, 1) := by decide +kernel
theorem d_Item_heightWhere_1 : decode b_Item_heightWhere 1 = .ok (.ireturn, 1) := by decide +kernel
theorem d_Put_depthWhere_0 : decode b_Put_depthWhere 0 = .ok (.aload_n 0, 1) := by decide +kernel
theorem d_Put_depthWhere_1 : decode b_Put_depthWhere 1 = .ok (.getfield 22, 3) := by decide +kernel
theorem d_Put_depthWhere_4 : decode b_Put_depthWhere 4 = .ok (.ireturn, 1) := by decide +kernel
theorem d_Rule_depthWhere_0 : decode b_Rule_depthWhere 0 = .ok (.aload_n 0, 1) := by decide +kernel
theorem d_Rule_depthWhere_1 : decode b_Rule_depthWhere 1 = .ok (.getfield 15, 3) := by decide +kernel
theorem d_Rule_depthWhere_4 : decode b_Rule_depthWhere 4 = .ok (.ldc 18, 2) := by decide +kernel
theorem d_Rule_depthWhere_6 : decode b_Rule_depthWhere 6 = .ok (.if_icmp .ne 7, 3) := by decide +kernel
theorem d_Rule_depthWhere_9 : decode b_Rule_depthWhere 9 = .ok (.iload_n 1, 1) := by decide +kernel
theorem d_Rule_depthWhere_10 : decode b_Rule_depthWhere 10 = .ok (.goto 7, 3) := by decide +kernel
theorem d_Rule_depthWhere_13 : decode b_Rule_depthWhere 13 = .ok (.aload_n 0, 1) := by decide +kernel
theorem d_Rule_depthWhere_14 : decode b_Rule_depthWhere 14 = .ok (.getfield 15, 3) := by decide +kernel
theorem d_Rule_depthWhere_17 : decode b_Rule_depthWhere 17 = .ok (.ireturn, 1) := by decide +kernel
theorem d_Item_depthWhere_0 : decode b_Item_depthWhere 0 = .ok (.iconst 0, 1) := by decide +kernel
theorem d_Item_depthWhere_1 : decode b_Item_depthWhere 1 = .ok (.ireturn, 1) := by decide +kernel
theorem d_Fit_of_0 : decode b_Fit_of 0 = .ok (.aload_n 0, 1) := by decide +kernel
theorem d_Fit_of_1 : decode b_Fit_of 1 = .ok (.invokestatic 24, 3) := by decide +kernel
theorem d_Fit_of_4 : decode b_Fit_of 4 = .ok (.istore_n 2, 1) := by decide +kernel
theorem d_Fit_of_5 : decode b_Fit_of 5 = .ok (.iload_n 1, 1) := by decide +kernel
theorem d_Fit_of_6 : decode b_Fit_of 6 = .ok (.iload_n 2, 1) := by decide +kernel
theorem d_Fit_of_7 : decode b_Fit_of 7 = .ok (.isub, 1) := by decide +kernel
theorem d_Fit_of_8 : decode b_Fit_of 8 = .ok (.istore_n 3, 1) := by decide +kernel
theorem d_Fit_of_9 : decode b_Fit_of 9 = .ok (.iload_n 3, 1) := by decide +kernel
theorem d_Fit_of_10 : decode b_Fit_of 10 = .ok (.ifCond .ne 7, 3) := by decide +kernel
theorem d_Fit_of_13 : decode b_Fit_of 13 = .ok (.iconst (-1), 1) := by decide +kernel
theorem d_Fit_of_14 : decode b_Fit_of 14 = .ok (.goto 16, 3) := by decide +kernel
theorem d_Fit_of_17 : decode b_Fit_of 17 = .ok (.aload_n 0, 1) := by decide +kernel
theorem d_Fit_of_18 : decode b_Fit_of 18 = .ok (.iload_n 3, 1) := by decide +kernel
theorem d_Fit_of_19 : decode b_Fit_of 19 = .ok (.ifCond .le 7, 3) := by decide +kernel
theorem d_Fit_of_22 : decode b_Fit_of 22 = .ok (.iconst 1, 1) := by decide +kernel
theorem d_Fit_of_23 : decode b_Fit_of 23 = .ok (.goto 4, 3) := by decide +kernel
theorem d_Fit_of_26 : decode b_Fit_of 26 = .ok (.iconst 0, 1) := by decide +kernel
theorem d_Fit_of_27 : decode b_Fit_of 27 = .ok (.invokestatic 28, 3) := by decide +kernel
theorem d_Fit_of_30 : decode b_Fit_of 30 = .ok (.istore 4, 2) := by decide +kernel
theorem d_Fit_of_32 : decode b_Fit_of 32 = .ok (.new 10, 3) := by decide +kernel
theorem d_Fit_of_35 : decode b_Fit_of 35 = .ok (.dup, 1) := by decide +kernel
theorem d_Fit_of_36 : decode b_Fit_of 36 = .ok (.iload_n 2, 1) := by decide +kernel
theorem d_Fit_of_37 : decode b_Fit_of 37 = .ok (.iload_n 3, 1) := by decide +kernel
theorem d_Fit_of_38 : decode b_Fit_of 38 = .ok (.iload 4, 2) := by decide +kernel
theorem d_Fit_of_40 : decode b_Fit_of 40 = .ok (.aload_n 0, 1) := by decide +kernel
theorem d_Fit_of_41 : decode b_Fit_of 41 = .ok (.iload_n 3, 1) := by decide +kernel
theorem d_Fit_of_42 : decode b_Fit_of 42 = .ok (.ifCond .le 7, 3) := by decide +kernel
theorem d_Fit_of_45 : decode b_Fit_of 45 = .ok (.iconst 1, 1) := by decide +kernel
theorem d_Fit_of_46 : decode b_Fit_of 46 = .ok (.goto 4, 3) := by decide +kernel
theorem d_Fit_of_49 : decode b_Fit_of 49 = .ok (.iconst 0, 1) := by decide +kernel
theorem d_Fit_of_50 : decode b_Fit_of 50 = .ok (.iload 4, 2) := by decide +kernel
theorem d_Fit_of_52 : decode b_Fit_of 52 = .ok (.invokestatic 32, 3) := by decide +kernel
theorem d_Fit_of_55 : decode b_Fit_of 55 = .ok (.invokespecial 36, 3) := by decide +kernel
theorem d_Fit_of_58 : decode b_Fit_of 58 = .ok (.areturn, 1) := by decide +kernel
theorem d_Fit_greatestOrder_0 : decode b_Fit_greatestOrder 0 = .ok (.iconst 3, 1) := by decide +kernel
theorem d_Fit_greatestOrder_1 : decode b_Fit_greatestOrder 1 = .ok (.istore_n 2, 1) := by decide +kernel
theorem d_Fit_greatestOrder_2 : decode b_Fit_greatestOrder 2 = .ok (.iload_n 2, 1) := by decide +kernel
theorem d_Fit_greatestOrder_3 : decode b_Fit_greatestOrder 3 = .ok (.ifCond .lt 20, 3) := by decide +kernel
theorem d_Fit_greatestOrder_6 : decode b_Fit_greatestOrder 6 = .ok (.aload_n 0, 1) := by decide +kernel
theorem d_Fit_greatestOrder_7 : decode b_Fit_greatestOrder 7 = .ok (.iload_n 1, 1) := by decide +kernel
theorem d_Fit_greatestOrder_8 : decode b_Fit_greatestOrder 8 = .ok (.iload_n 2, 1) := by decide +kernel
theorem d_Fit_greatestOrder_9 : decode b_Fit_greatestOrder 9 = .ok (.invokestatic 32, 3) := by decide +kernel
theorem d_Fit_greatestOrder_12 : decode b_Fit_greatestOrder 12 = .ok (.ifCond .eq 5, 3) := by decide +kernel
theorem d_Fit_greatestOrder_15 : decode b_Fit_greatestOrder 15 = .ok (.iload_n 2, 1) := by decide +kernel
theorem d_Fit_greatestOrder_16 : decode b_Fit_greatestOrder 16 = .ok (.ireturn, 1) := by decide +kernel
theorem d_Fit_greatestOrder_17 : decode b_Fit_greatestOrder 17 = .ok (.iinc 2 (-1), 3) := by decide +kernel
theorem d_Fit_greatestOrder_20 : decode b_Fit_greatestOrder 20 = .ok (.goto (-18), 3) := by decide +kernel
theorem d_Fit_greatestOrder_23 : decode b_Fit_greatestOrder 23 = .ok (.iconst (-1), 1) := by decide +kernel
theorem d_Fit_greatestOrder_24 : decode b_Fit_greatestOrder 24 = .ok (.ireturn, 1) := by decide +kernel
theorem d_Fit_sumOf_0 : decode b_Fit_sumOf 0 = .ok (.iconst 0, 1) := by decide +kernel
theorem d_Fit_sumOf_1 : decode b_Fit_sumOf 1 = .ok (.istore_n 3, 1) := by decide +kernel
theorem d_Fit_sumOf_2 : decode b_Fit_sumOf 2 = .ok (.iconst 0, 1) := by decide +kernel
theorem d_Fit_sumOf_3 : decode b_Fit_sumOf 3 = .ok (.istore 4, 2) := by decide +kernel
theorem d_Fit_sumOf_5 : decode b_Fit_sumOf 5 = .ok (.iload 4, 2) := by decide +kernel
theorem d_Fit_sumOf_7 : decode b_Fit_sumOf 7 = .ok (.aload_n 0, 1) := by decide +kernel
theorem d_Fit_sumOf_8 : decode b_Fit_sumOf 8 = .ok (.invokevirtual 39, 3) := by decide +kernel
theorem d_Fit_sumOf_11 : decode b_Fit_sumOf 11 = .ok (.if_icmp .ge 26, 3) := by decide +kernel
theorem d_Fit_sumOf_14 : decode b_Fit_sumOf 14 = .ok (.iload_n 3, 1) := by decide +kernel
theorem d_Fit_sumOf_15 : decode b_Fit_sumOf 15 = .ok (.aload_n 0, 1) := by decide +kernel
theorem d_Fit_sumOf_16 : decode b_Fit_sumOf 16 = .ok (.iload 4, 2) := by decide +kernel
theorem d_Fit_sumOf_18 : decode b_Fit_sumOf 18 = .ok (.invokevirtual 45, 3) := by decide +kernel
theorem d_Fit_sumOf_21 : decode b_Fit_sumOf 21 = .ok (.checkcast 49, 3) := by decide +kernel
theorem d_Fit_sumOf_24 : decode b_Fit_sumOf 24 = .ok (.iload_n 1, 1) := by decide +kernel
theorem d_Fit_sumOf_25 : decode b_Fit_sumOf 25 = .ok (.iload_n 2, 1) := by decide +kernel
theorem d_Fit_sumOf_26 : decode b_Fit_sumOf 26 = .ok (.invokevirtual 52, 3) := by decide +kernel
theorem d_Fit_sumOf_29 : decode b_Fit_sumOf 29 = .ok (.iadd, 1) := by decide +kernel
theorem d_Fit_sumOf_30 : decode b_Fit_sumOf 30 = .ok (.istore_n 3, 1) := by decide +kernel
theorem d_Fit_sumOf_31 : decode b_Fit_sumOf 31 = .ok (.iinc 4 1, 3) := by decide +kernel
theorem d_Fit_sumOf_34 : decode b_Fit_sumOf 34 = .ok (.goto (-29), 3) := by decide +kernel
theorem d_Fit_sumOf_37 : decode b_Fit_sumOf 37 = .ok (.iload_n 3, 1) := by decide +kernel
theorem d_Fit_sumOf_38 : decode b_Fit_sumOf 38 = .ok (.ireturn, 1) := by decide +kernel
theorem d_Glue_giving_0 : decode b_Glue_giving 0 = .ok (.iload_n 1, 1) := by decide +kernel
theorem d_Glue_giving_1 : decode b_Glue_giving 1 = .ok (.ifCond .eq 20, 3) := by decide +kernel
theorem d_Glue_giving_4 : decode b_Glue_giving 4 = .ok (.iload_n 2, 1) := by decide +kernel
theorem d_Glue_giving_5 : decode b_Glue_giving 5 = .ok (.aload_n 0, 1) := by decide +kernel
theorem d_Glue_giving_6 : decode b_Glue_giving 6 = .ok (.getfield 13, 3) := by decide +kernel
theorem d_Glue_giving_9 : decode b_Glue_giving 9 = .ok (.if_icmp .ne 10, 3) := by decide +kernel
theorem d_Glue_giving_12 : decode b_Glue_giving 12 = .ok (.aload_n 0, 1) := by decide +kernel
theorem d_Glue_giving_13 : decode b_Glue_giving 13 = .ok (.getfield 7, 3) := by decide +kernel
theorem d_Glue_giving_16 : decode b_Glue_giving 16 = .ok (.goto 4, 3) := by decide +kernel
theorem d_Glue_giving_19 : decode b_Glue_giving 19 = .ok (.iconst 0, 1) := by decide +kernel
theorem d_Glue_giving_20 : decode b_Glue_giving 20 = .ok (.ireturn, 1) := by decide +kernel
theorem d_Glue_giving_21 : decode b_Glue_giving 21 = .ok (.iload_n 2, 1) := by decide +kernel
theorem d_Glue_giving_22 : decode b_Glue_giving 22 = .ok (.aload_n 0, 1) := by decide +kernel
theorem d_Glue_giving_23 : decode b_Glue_giving 23 = .ok (.getfield 19, 3) := by decide +kernel
theorem d_Glue_giving_26 : decode b_Glue_giving 26 = .ok (.if_icmp .ne 10, 3) := by decide +kernel
theorem d_Glue_giving_29 : decode b_Glue_giving 29 = .ok (.aload_n 0, 1) := by decide +kernel
theorem d_Glue_giving_30 : decode b_Glue_giving 30 = .ok (.getfield 16, 3) := by decide +kernel
theorem d_Glue_giving_33 : decode b_Glue_giving 33 = .ok (.goto 4, 3) := by decide +kernel
theorem d_Glue_giving_36 : decode b_Glue_giving 36 = .ok (.iconst 0, 1) := by decide +kernel
theorem d_Glue_giving_37 : decode b_Glue_giving 37 = .ok (.ireturn, 1) := by decide +kernel
theorem d_Item_giving_0 : decode b_Item_giving 0 = .ok (.iconst 0, 1) := by decide +kernel
theorem d_Item_giving_1 : decode b_Item_giving 1 = .ok (.ireturn, 1) := by decide +kernel
theorem d_Box_placed_0 : decode b_Box_placed 0 = .ok (.new 34, 3) := by decide +kernel
theorem d_Box_placed_3 : decode b_Box_placed 3 = .ok (.dup, 1) := by decide +kernel
theorem d_Box_placed_4 : decode b_Box_placed 4 = .ok (.invokespecial 36, 3) := by decide +kernel
theorem d_Box_placed_7 : decode b_Box_placed 7 = .ok (.astore_n 2, 1) := by decide +kernel
theorem d_Box_placed_8 : decode b_Box_placed 8 = .ok (.iconst 0, 1) := by decide +kernel
theorem d_Box_placed_9 : decode b_Box_placed 9 = .ok (.istore_n 3, 1) := by decide +kernel
theorem d_Box_placed_10 : decode b_Box_placed 10 = .ok (.iconst 0, 1) := by decide +kernel
theorem d_Box_placed_11 : decode b_Box_placed 11 = .ok (.istore 4, 2) := by decide +kernel
theorem d_Box_placed_13 : decode b_Box_placed 13 = .ok (.iconst 0, 1) := by decide +kernel
theorem d_Box_placed_14 : decode b_Box_placed 14 = .ok (.istore 5, 2) := by decide +kernel
theorem d_Box_placed_16 : decode b_Box_placed 16 = .ok (.iload 5, 2) := by decide +kernel
theorem d_Box_placed_18 : decode b_Box_placed 18 = .ok (.aload_n 0, 1) := by decide +kernel
theorem d_Box_placed_19 : decode b_Box_placed 19 = .ok (.invokevirtual 40, 3) := by decide +kernel
theorem d_Box_placed_22 : decode b_Box_placed 22 = .ok (.if_icmp .ge 73, 3) := by decide +kernel
theorem d_Box_placed_25 : decode b_Box_placed 25 = .ok (.aload_n 0, 1) := by decide +kernel
theorem d_Box_placed_26 : decode b_Box_placed 26 = .ok (.iload 5, 2) := by decide +kernel
theorem d_Box_placed_28 : decode b_Box_placed 28 = .ok (.invokevirtual 44, 3) := by decide +kernel
theorem d_Box_placed_31 : decode b_Box_placed 31 = .ok (.checkcast 48, 3) := by decide +kernel
theorem d_Box_placed_34 : decode b_Box_placed 34 = .ok (.astore 6, 2) := by decide +kernel
theorem d_Box_placed_36 : decode b_Box_placed 36 = .ok (.iload 4, 2) := by decide +kernel
theorem d_Box_placed_38 : decode b_Box_placed 38 = .ok (.aload_n 1, 1) := by decide +kernel
theorem d_Box_placed_39 : decode b_Box_placed 39 = .ok (.aload 6, 2) := by decide +kernel
theorem d_Box_placed_41 : decode b_Box_placed 41 = .ok (.invokevirtual 71, 3) := by decide +kernel
theorem d_Box_placed_44 : decode b_Box_placed 44 = .ok (.iadd, 1) := by decide +kernel
theorem d_Box_placed_45 : decode b_Box_placed 45 = .ok (.istore 7, 2) := by decide +kernel
theorem d_Box_placed_47 : decode b_Box_placed 47 = .ok (.aload 6, 2) := by decide +kernel
theorem d_Box_placed_49 : decode b_Box_placed 49 = .ok (.getfield 75, 3) := by decide +kernel
theorem d_Box_placed_52 : decode b_Box_placed 52 = .ok (.aload_n 1, 1) := by decide +kernel
theorem d_Box_placed_53 : decode b_Box_placed 53 = .ok (.iload 4, 2) := by decide +kernel
theorem d_Box_placed_55 : decode b_Box_placed 55 = .ok (.iload 7, 2) := by decide +kernel
theorem d_Box_placed_57 : decode b_Box_placed 57 = .ok (.invokevirtual 78, 3) := by decide +kernel
theorem d_Box_placed_60 : decode b_Box_placed 60 = .ok (.iadd, 1) := by decide +kernel
theorem d_Box_placed_61 : decode b_Box_placed 61 = .ok (.istore 8, 2) := by decide +kernel
theorem d_Box_placed_63 : decode b_Box_placed 63 = .ok (.aload_n 2, 1) := by decide +kernel
theorem d_Box_placed_64 : decode b_Box_placed 64 = .ok (.new 81, 3) := by decide +kernel
theorem d_Box_placed_67 : decode b_Box_placed 67 = .ok (.dup, 1) := by decide +kernel
theorem d_Box_placed_68 : decode b_Box_placed 68 = .ok (.aload 6, 2) := by decide +kernel
theorem d_Box_placed_70 : decode b_Box_placed 70 = .ok (.iload_n 3, 1) := by decide +kernel
theorem d_Box_placed_71 : decode b_Box_placed 71 = .ok (.iload 8, 2) := by decide +kernel
theorem d_Box_placed_73 : decode b_Box_placed 73 = .ok (.invokespecial 83, 3) := by decide +kernel
theorem d_Box_placed_76 : decode b_Box_placed 76 = .ok (.invokevirtual 86, 3) := by decide +kernel
theorem d_Box_placed_79 : decode b_Box_placed 79 = .ok (.pop, 1) := by decide +kernel
theorem d_Box_placed_80 : decode b_Box_placed 80 = .ok (.iload_n 3, 1) := by decide +kernel
theorem d_Box_placed_81 : decode b_Box_placed 81 = .ok (.iload 8, 2) := by decide +kernel
theorem d_Box_placed_83 : decode b_Box_placed 83 = .ok (.iadd, 1) := by decide +kernel
theorem d_Box_placed_84 : decode b_Box_placed 84 = .ok (.istore_n 3, 1) := by decide +kernel
theorem d_Box_placed_85 : decode b_Box_placed 85 = .ok (.iload 7, 2) := by decide +kernel
theorem d_Box_placed_87 : decode b_Box_placed 87 = .ok (.istore 4, 2) := by decide +kernel
theorem d_Box_placed_89 : decode b_Box_placed 89 = .ok (.iinc 5 1, 3) := by decide +kernel
theorem d_Box_placed_92 : decode b_Box_placed 92 = .ok (.goto (-76), 3) := by decide +kernel
theorem d_Box_placed_95 : decode b_Box_placed 95 = .ok (.aload_n 2, 1) := by decide +kernel
theorem d_Box_placed_96 : decode b_Box_placed 96 = .ok (.areturn, 1) := by decide +kernel
theorem d_Fit_givingOf_0 : decode b_Fit_givingOf 0 = .ok (.aload_n 1, 1) := by decide +kernel
theorem d_Fit_givingOf_1 : decode b_Fit_givingOf 1 = .ok (.aload_n 0, 1) := by decide +kernel
theorem d_Fit_givingOf_2 : decode b_Fit_givingOf 2 = .ok (.getfield 15, 3) := by decide +kernel
theorem d_Fit_givingOf_5 : decode b_Fit_givingOf 5 = .ok (.ifCond .le 7, 3) := by decide +kernel
theorem d_Fit_givingOf_8 : decode b_Fit_givingOf 8 = .ok (.iconst 1, 1) := by decide +kernel
theorem d_Fit_givingOf_9 : decode b_Fit_givingOf 9 = .ok (.goto 4, 3) := by decide +kernel
theorem d_Fit_givingOf_12 : decode b_Fit_givingOf 12 = .ok (.iconst 0, 1) := by decide +kernel
theorem d_Fit_givingOf_13 : decode b_Fit_givingOf 13 = .ok (.aload_n 0, 1) := by decide +kernel
theorem d_Fit_givingOf_14 : decode b_Fit_givingOf 14 = .ok (.getfield 18, 3) := by decide +kernel
theorem d_Fit_givingOf_17 : decode b_Fit_givingOf 17 = .ok (.invokevirtual 52, 3) := by decide +kernel
theorem d_Fit_givingOf_20 : decode b_Fit_givingOf 20 = .ok (.ireturn, 1) := by decide +kernel
theorem d_Fit_change_0 : decode b_Fit_change 0 = .ok (.aload_n 0, 1) := by decide +kernel
theorem d_Fit_change_1 : decode b_Fit_change 1 = .ok (.iload_n 2, 1) := by decide +kernel
theorem d_Fit_change_2 : decode b_Fit_change 2 = .ok (.invokevirtual 56, 3) := by decide +kernel
theorem d_Fit_change_5 : decode b_Fit_change 5 = .ok (.aload_n 0, 1) := by decide +kernel
theorem d_Fit_change_6 : decode b_Fit_change 6 = .ok (.iload_n 1, 1) := by decide +kernel
theorem d_Fit_change_7 : decode b_Fit_change 7 = .ok (.invokevirtual 56, 3) := by decide +kernel
theorem d_Fit_change_10 : decode b_Fit_change 10 = .ok (.isub, 1) := by decide +kernel
theorem d_Fit_change_11 : decode b_Fit_change 11 = .ok (.ireturn, 1) := by decide +kernel
theorem d_Fit_share_0 : decode b_Fit_share 0 = .ok (.aload_n 0, 1) := by decide +kernel
theorem d_Fit_share_1 : decode b_Fit_share 1 = .ok (.getfield 21, 3) := by decide +kernel
theorem d_Fit_share_4 : decode b_Fit_share 4 = .ok (.ifCond .ne 5, 3) := by decide +kernel
theorem d_Fit_share_7 : decode b_Fit_share 7 = .ok (.iconst 0, 1) := by decide +kernel
theorem d_Fit_share_8 : decode b_Fit_share 8 = .ok (.ireturn, 1) := by decide +kernel
theorem d_Fit_share_9 : decode b_Fit_share 9 = .ok (.aload_n 0, 1) := by decide +kernel
theorem d_Fit_share_10 : decode b_Fit_share 10 = .ok (.getfield 15, 3) := by decide +kernel
theorem d_Fit_share_13 : decode b_Fit_share 13 = .ok (.aload_n 0, 1) := by decide +kernel
theorem d_Fit_share_14 : decode b_Fit_share 14 = .ok (.invokevirtual 60, 3) := by decide +kernel
theorem d_Fit_share_17 : decode b_Fit_share 17 = .ok (.iadd, 1) := by decide +kernel
theorem d_Fit_share_18 : decode b_Fit_share 18 = .ok (.i2l, 1) := by decide +kernel
theorem d_Fit_share_19 : decode b_Fit_share 19 = .ok (.lstore_n 2, 1) := by decide +kernel
theorem d_Fit_share_20 : decode b_Fit_share 20 = .ok (.lload_n 2, 1) := by decide +kernel
theorem d_Fit_share_21 : decode b_Fit_share 21 = .ok (.iload_n 1, 1) := by decide +kernel
theorem d_Fit_share_22 : decode b_Fit_share 22 = .ok (.i2l, 1) := by decide +kernel
theorem d_Fit_share_23 : decode b_Fit_share 23 = .ok (.lmul, 1) := by decide +kernel
theorem d_Fit_share_24 : decode b_Fit_share 24 = .ok (.aload_n 0, 1) := by decide +kernel
theorem d_Fit_share_25 : decode b_Fit_share 25 = .ok (.getfield 21, 3) := by decide +kernel
theorem d_Fit_share_28 : decode b_Fit_share 28 = .ok (.i2l, 1) := by decide +kernel
theorem d_Fit_share_29 : decode b_Fit_share 29 = .ok (.ldiv, 1) := by decide +kernel
theorem d_Fit_share_30 : decode b_Fit_share 30 = .ok (.l2i, 1) := by decide +kernel
theorem d_Fit_share_31 : decode b_Fit_share 31 = .ok (.ireturn, 1) := by decide +kernel
theorem d_Fit_over_0 : decode b_Fit_over 0 = .ok (.aload_n 0, 1) := by decide +kernel
theorem d_Fit_over_1 : decode b_Fit_over 1 = .ok (.getfield 15, 3) := by decide +kernel
theorem d_Fit_over_4 : decode b_Fit_over 4 = .ok (.ifCond .ge 27, 3) := by decide +kernel
theorem d_Fit_over_7 : decode b_Fit_over 7 = .ok (.aload_n 0, 1) := by decide +kernel
theorem d_Fit_over_8 : decode b_Fit_over 8 = .ok (.getfield 18, 3) := by decide +kernel
theorem d_Fit_over_11 : decode b_Fit_over 11 = .ok (.ifCond .gt 20, 3) := by decide +kernel
theorem d_Fit_over_14 : decode b_Fit_over 14 = .ok (.aload_n 0, 1) := by decide +kernel
theorem d_Fit_over_15 : decode b_Fit_over 15 = .ok (.getfield 15, 3) := by decide +kernel
theorem d_Fit_over_18 : decode b_Fit_over 18 = .ok (.ineg, 1) := by decide +kernel
theorem d_Fit_over_19 : decode b_Fit_over 19 = .ok (.aload_n 0, 1) := by decide +kernel
theorem d_Fit_over_20 : decode b_Fit_over 20 = .ok (.getfield 21, 3) := by decide +kernel
theorem d_Fit_over_23 : decode b_Fit_over 23 = .ok (.isub, 1) := by decide +kernel
theorem d_Fit_over_24 : decode b_Fit_over 24 = .ok (.iconst 0, 1) := by decide +kernel
theorem d_Fit_over_25 : decode b_Fit_over 25 = .ok (.invokestatic 63, 3) := by decide +kernel
theorem d_Fit_over_28 : decode b_Fit_over 28 = .ok (.goto 4, 3) := by decide +kernel
theorem d_Fit_over_31 : decode b_Fit_over 31 = .ok (.iconst 0, 1) := by decide +kernel
theorem d_Fit_over_32 : decode b_Fit_over 32 = .ok (.ireturn, 1) := by decide +kernel
theorem d_Placed_init_0 : decode b_Placed_init 0 = .ok (.aload_n 0, 1) := by decide +kernel
theorem d_Placed_init_1 : decode b_Placed_init 1 = .ok (.invokespecial 3, 3) := by decide +kernel
theorem d_Placed_init_4 : decode b_Placed_init 4 = .ok (.aload_n 0, 1) := by decide +kernel
theorem d_Placed_init_5 : decode b_Placed_init 5 = .ok (.aload_n 1, 1) := by decide +kernel
theorem d_Placed_init_6 : decode b_Placed_init 6 = .ok (.putfield 9, 3) := by decide +kernel
theorem d_Placed_init_9 : decode b_Placed_init 9 = .ok (.aload_n 0, 1) := by decide +kernel
theorem d_Placed_init_10 : decode b_Placed_init 10 = .ok (.iload_n 2, 1) := by decide +kernel
theorem d_Placed_init_11 : decode b_Placed_init 11 = .ok (.putfield 15, 3) := by decide +kernel
theorem d_Placed_init_14 : decode b_Placed_init 14 = .ok (.aload_n 0, 1) := by decide +kernel
theorem d_Placed_init_15 : decode b_Placed_init 15 = .ok (.iload_n 3, 1) := by decide +kernel
theorem d_Placed_init_16 : decode b_Placed_init 16 = .ok (.putfield 19, 3) := by decide +kernel
theorem d_Placed_init_19 : decode b_Placed_init 19 = .ok (.return_, 1) := by decide +kernel
theorem d_AL_clear_0 : decode b_AL_clear 0 = .ok (.aload_n 0, 1) := by decide +kernel
theorem d_AL_clear_1 : decode b_AL_clear 1 = .ok (.dup, 1) := by decide +kernel
theorem d_AL_clear_2 : decode b_AL_clear 2 = .ok (.getfield 63, 3) := by decide +kernel
theorem d_AL_clear_5 : decode b_AL_clear 5 = .ok (.iconst 1, 1) := by decide +kernel
theorem d_AL_clear_6 : decode b_AL_clear 6 = .ok (.iadd, 1) := by decide +kernel
theorem d_AL_clear_7 : decode b_AL_clear 7 = .ok (.putfield 63, 3) := by decide +kernel
theorem d_AL_clear_10 : decode b_AL_clear 10 = .ok (.aload_n 0, 1) := by decide +kernel
theorem d_AL_clear_11 : decode b_AL_clear 11 = .ok (.getfield 9, 3) := by decide +kernel
theorem d_AL_clear_14 : decode b_AL_clear 14 = .ok (.astore_n 1, 1) := by decide +kernel
theorem d_AL_clear_15 : decode b_AL_clear 15 = .ok (.aload_n 0, 1) := by decide +kernel
theorem d_AL_clear_16 : decode b_AL_clear 16 = .ok (.getfield 48, 3) := by decide +kernel
theorem d_AL_clear_19 : decode b_AL_clear 19 = .ok (.istore_n 2, 1) := by decide +kernel
theorem d_AL_clear_20 : decode b_AL_clear 20 = .ok (.aload_n 0, 1) := by decide +kernel
theorem d_AL_clear_21 : decode b_AL_clear 21 = .ok (.iconst 0, 1) := by decide +kernel
theorem d_AL_clear_22 : decode b_AL_clear 22 = .ok (.dup_x1, 1) := by decide +kernel
theorem d_AL_clear_23 : decode b_AL_clear 23 = .ok (.putfield 48, 3) := by decide +kernel
theorem d_AL_clear_26 : decode b_AL_clear 26 = .ok (.istore_n 3, 1) := by decide +kernel
theorem d_AL_clear_27 : decode b_AL_clear 27 = .ok (.iload_n 3, 1) := by decide +kernel
theorem d_AL_clear_28 : decode b_AL_clear 28 = .ok (.iload_n 2, 1) := by decide +kernel
theorem d_AL_clear_29 : decode b_AL_clear 29 = .ok (.if_icmp .ge 13, 3) := by decide +kernel
theorem d_AL_clear_32 : decode b_AL_clear 32 = .ok (.aload_n 1, 1) := by decide +kernel
theorem d_AL_clear_33 : decode b_AL_clear 33 = .ok (.iload_n 3, 1) := by decide +kernel
theorem d_AL_clear_34 : decode b_AL_clear 34 = .ok (.aconst_null, 1) := by decide +kernel
theorem d_AL_clear_35 : decode b_AL_clear 35 = .ok (.aastore, 1) := by decide +kernel
theorem d_AL_clear_36 : decode b_AL_clear 36 = .ok (.iinc 3 1, 3) := by decide +kernel
theorem d_AL_clear_39 : decode b_AL_clear 39 = .ok (.goto (-12), 3) := by decide +kernel
theorem d_AL_clear_42 : decode b_AL_clear 42 = .ok (.return_, 1) := by decide +kernel
theorem d_BG_unpack_0 : decode b_BG_unpack 0 = .ok (.aload_n 0, 1) := by decide +kernel
theorem d_BG_unpack_1 : decode b_BG_unpack 1 = .ok (.iload_n 1, 1) := by decide +kernel
theorem d_BG_unpack_2 : decode b_BG_unpack 2 = .ok (.invokevirtual 41, 3) := by decide +kernel
theorem d_BG_unpack_5 : decode b_BG_unpack 5 = .ok (.ifCond .ne 5, 3) := by decide +kernel
theorem d_BG_unpack_8 : decode b_BG_unpack 8 = .ok (.iconst (-1), 1) := by decide +kernel
theorem d_BG_unpack_9 : decode b_BG_unpack 9 = .ok (.ireturn, 1) := by decide +kernel
theorem d_BG_unpack_10 : decode b_BG_unpack 10 = .ok (.aload_n 0, 1) := by decide +kernel
theorem d_BG_unpack_11 : decode b_BG_unpack 11 = .ok (.getfield 16, 3) := by decide +kernel
theorem d_BG_unpack_14 : decode b_BG_unpack 14 = .ok (.iload_n 1, 1) := by decide +kernel
theorem d_BG_unpack_15 : decode b_BG_unpack 15 = .ok (.invokevirtual 49, 3) := by decide +kernel
theorem d_BG_unpack_18 : decode b_BG_unpack 18 = .ok (.checkcast 32, 3) := by decide +kernel
theorem d_BG_unpack_21 : decode b_BG_unpack 21 = .ok (.getfield 122, 3) := by decide +kernel
theorem d_BG_unpack_24 : decode b_BG_unpack 24 = .ok (.astore_n 2, 1) := by decide +kernel
theorem d_BG_unpack_25 : decode b_BG_unpack 25 = .ok (.aload_n 2, 1) := by decide +kernel
theorem d_BG_unpack_26 : decode b_BG_unpack 26 = .ok (.invokevirtual 27, 3) := by decide +kernel
theorem d_BG_unpack_29 : decode b_BG_unpack 29 = .ok (.istore_n 3, 1) := by decide +kernel
theorem d_BG_unpack_30 : decode b_BG_unpack 30 = .ok (.aload_n 0, 1) := by decide +kernel
theorem d_BG_unpack_31 : decode b_BG_unpack 31 = .ok (.getfield 10, 3) := by decide +kernel
theorem d_BG_unpack_34 : decode b_BG_unpack 34 = .ok (.invokevirtual 27, 3) := by decide +kernel
theorem d_BG_unpack_37 : decode b_BG_unpack 37 = .ok (.iload_n 3, 1) := by decide +kernel
theorem d_BG_unpack_38 : decode b_BG_unpack 38 = .ok (.iadd, 1) := by decide +kernel
theorem d_BG_unpack_39 : decode b_BG_unpack 39 = .ok (.bipush 40, 2) := by decide +kernel
theorem d_BG_unpack_41 : decode b_BG_unpack 41 = .ok (.if_icmp .le 6, 3) := by decide +kernel
theorem d_BG_unpack_44 : decode b_BG_unpack 44 = .ok (.bipush (-2), 2) := by decide +kernel
theorem d_BG_unpack_46 : decode b_BG_unpack 46 = .ok (.ireturn, 1) := by decide +kernel
theorem d_BG_unpack_47 : decode b_BG_unpack 47 = .ok (.iconst 0, 1) := by decide +kernel
theorem d_BG_unpack_48 : decode b_BG_unpack 48 = .ok (.istore 4, 2) := by decide +kernel
theorem d_BG_unpack_50 : decode b_BG_unpack 50 = .ok (.iload 4, 2) := by decide +kernel
theorem d_BG_unpack_52 : decode b_BG_unpack 52 = .ok (.iload_n 3, 1) := by decide +kernel
theorem d_BG_unpack_53 : decode b_BG_unpack 53 = .ok (.if_icmp .ge 29, 3) := by decide +kernel
theorem d_BG_unpack_56 : decode b_BG_unpack 56 = .ok (.aload_n 0, 1) := by decide +kernel
theorem d_BG_unpack_57 : decode b_BG_unpack 57 = .ok (.getfield 10, 3) := by decide +kernel
theorem d_BG_unpack_60 : decode b_BG_unpack 60 = .ok (.aload_n 2, 1) := by decide +kernel
theorem d_BG_unpack_61 : decode b_BG_unpack 61 = .ok (.iload 4, 2) := by decide +kernel
theorem d_BG_unpack_63 : decode b_BG_unpack 63 = .ok (.invokevirtual 49, 3) := by decide +kernel
theorem d_BG_unpack_66 : decode b_BG_unpack 66 = .ok (.checkcast 125, 3) := by decide +kernel
theorem d_BG_unpack_69 : decode b_BG_unpack 69 = .ok (.getfield 127, 3) := by decide +kernel
theorem d_BG_unpack_72 : decode b_BG_unpack 72 = .ok (.invokevirtual 37, 3) := by decide +kernel
theorem d_BG_unpack_75 : decode b_BG_unpack 75 = .ok (.pop, 1) := by decide +kernel
theorem d_BG_unpack_76 : decode b_BG_unpack 76 = .ok (.iinc 4 1, 3) := by decide +kernel
theorem d_BG_unpack_79 : decode b_BG_unpack 79 = .ok (.goto (-29), 3) := by decide +kernel
theorem d_BG_unpack_82 : decode b_BG_unpack 82 = .ok (.aload_n 0, 1) := by decide +kernel
theorem d_BG_unpack_83 : decode b_BG_unpack 83 = .ok (.getfield 10, 3) := by decide +kernel
theorem d_BG_unpack_86 : decode b_BG_unpack 86 = .ok (.invokevirtual 27, 3) := by decide +kernel
theorem d_BG_unpack_89 : decode b_BG_unpack 89 = .ok (.ireturn, 1) := by decide +kernel
theorem d_BG_told_0 : decode b_BG_told 0 = .ok (.aload_n 0, 1) := by decide +kernel
theorem d_BG_told_1 : decode b_BG_told 1 = .ok (.iload_n 1, 1) := by decide +kernel
theorem d_BG_told_2 : decode b_BG_told 2 = .ok (.invokevirtual 41, 3) := by decide +kernel
theorem d_BG_told_5 : decode b_BG_told 5 = .ok (.ifCond .ne 5, 3) := by decide +kernel
theorem d_BG_told_8 : decode b_BG_told 8 = .ok (.iconst (-1), 1) := by decide +kernel
theorem d_BG_told_9 : decode b_BG_told 9 = .ok (.ireturn, 1) := by decide +kernel
theorem d_BG_told_10 : decode b_BG_told 10 = .ok (.aload_n 0, 1) := by decide +kernel
theorem d_BG_told_11 : decode b_BG_told 11 = .ok (.getfield 16, 3) := by decide +kernel
theorem d_BG_told_14 : decode b_BG_told 14 = .ok (.iload_n 1, 1) := by decide +kernel
theorem d_BG_told_15 : decode b_BG_told 15 = .ok (.invokevirtual 49, 3) := by decide +kernel
theorem d_BG_told_18 : decode b_BG_told 18 = .ok (.checkcast 32, 3) := by decide +kernel
theorem d_BG_told_21 : decode b_BG_told 21 = .ok (.iload_n 2, 1) := by decide +kernel
theorem d_BG_told_22 : decode b_BG_told 22 = .ok (.invokevirtual 131, 3) := by decide +kernel
theorem d_BG_told_25 : decode b_BG_told 25 = .ok (.ireturn, 1) := by decide +kernel
theorem d_Box_answer_0 : decode b_Box_answer 0 = .ok (.iload_n 1, 1) := by decide +kernel
theorem d_Box_answer_1 : decode b_Box_answer 1 = .ok (.tableswitch 102 0 7 #[47, 52, 57, 62, 70, 78, 86, 94], 47) := by decide +kernel
theorem d_Box_answer_48 : decode b_Box_answer 48 = .ok (.aload_n 0, 1) := by decide +kernel
theorem d_Box_answer_49 : decode b_Box_answer 49 = .ok (.getfield 9, 3) := by decide +kernel
theorem d_Box_answer_52 : decode b_Box_answer 52 = .ok (.ireturn, 1) := by decide +kernel
theorem d_Box_answer_53 : decode b_Box_answer 53 = .ok (.aload_n 0, 1) := by decide +kernel
theorem d_Box_answer_54 : decode b_Box_answer 54 = .ok (.getfield 15, 3) := by decide +kernel
theorem d_Box_answer_57 : decode b_Box_answer 57 = .ok (.ireturn, 1) := by decide +kernel
theorem d_Box_answer_58 : decode b_Box_answer 58 = .ok (.aload_n 0, 1) := by decide +kernel
theorem d_Box_answer_59 : decode b_Box_answer 59 = .ok (.getfield 18, 3) := by decide +kernel
theorem d_Box_answer_62 : decode b_Box_answer 62 = .ok (.ireturn, 1) := by decide +kernel
theorem d_Box_answer_63 : decode b_Box_answer 63 = .ok (.aload_n 0, 1) := by decide +kernel
theorem d_Box_answer_64 : decode b_Box_answer 64 = .ok (.getfield 25, 3) := by decide +kernel
theorem d_Box_answer_67 : decode b_Box_answer 67 = .ok (.invokevirtual 40, 3) := by decide +kernel
theorem d_Box_answer_70 : decode b_Box_answer 70 = .ok (.ireturn, 1) := by decide +kernel
theorem d_Box_answer_71 : decode b_Box_answer 71 = .ok (.aload_n 0, 1) := by decide +kernel
theorem d_Box_answer_72 : decode b_Box_answer 72 = .ok (.getfield 21, 3) := by decide +kernel
theorem d_Box_answer_75 : decode b_Box_answer 75 = .ok (.invokevirtual 90, 3) := by decide +kernel
theorem d_Box_answer_78 : decode b_Box_answer 78 = .ok (.ireturn, 1) := by decide +kernel
theorem d_Box_answer_79 : decode b_Box_answer 79 = .ok (.aload_n 0, 1) := by decide +kernel
theorem d_Box_answer_80 : decode b_Box_answer 80 = .ok (.getfield 21, 3) := by decide +kernel
theorem d_Box_answer_83 : decode b_Box_answer 83 = .ok (.invokevirtual 93, 3) := by decide +kernel
theorem d_Box_answer_86 : decode b_Box_answer 86 = .ok (.ireturn, 1) := by decide +kernel
theorem d_Box_answer_87 : decode b_Box_answer 87 = .ok (.aload_n 0, 1) := by decide +kernel
theorem d_Box_answer_88 : decode b_Box_answer 88 = .ok (.getfield 21, 3) := by decide +kernel
theorem d_Box_answer_91 : decode b_Box_answer 91 = .ok (.getfield 96, 3) := by decide +kernel
theorem d_Box_answer_94 : decode b_Box_answer 94 = .ok (.ireturn, 1) := by decide +kernel
theorem d_Box_answer_95 : decode b_Box_answer 95 = .ok (.aload_n 0, 1) := by decide +kernel
theorem d_Box_answer_96 : decode b_Box_answer 96 = .ok (.getfield 21, 3) := by decide +kernel
theorem d_Box_answer_99 : decode b_Box_answer 99 = .ok (.getfield 99, 3) := by decide +kernel
theorem d_Box_answer_102 : decode b_Box_answer 102 = .ok (.ireturn, 1) := by decide +kernel
theorem d_Box_answer_103 : decode b_Box_answer 103 = .ok (.iconst (-1), 1) := by decide +kernel
theorem d_Box_answer_104 : decode b_Box_answer 104 = .ok (.ireturn, 1) := by decide +kernel
theorem d_Fit_badness_0 : decode b_Fit_badness 0 = .ok (.aload_n 0, 1) := by decide +kernel
theorem d_Fit_badness_1 : decode b_Fit_badness 1 = .ok (.getfield 15, 3) := by decide +kernel
theorem d_Fit_badness_4 : decode b_Fit_badness 4 = .ok (.ifCond .eq 10, 3) := by decide +kernel
theorem d_Fit_badness_7 : decode b_Fit_badness 7 = .ok (.aload_n 0, 1) := by decide +kernel
theorem d_Fit_badness_8 : decode b_Fit_badness 8 = .ok (.getfield 18, 3) := by decide +kernel
theorem d_Fit_badness_11 : decode b_Fit_badness 11 = .ok (.ifCond .le 5, 3) := by decide +kernel
theorem d_Fit_badness_14 : decode b_Fit_badness 14 = .ok (.iconst 0, 1) := by decide +kernel
theorem d_Fit_badness_15 : decode b_Fit_badness 15 = .ok (.ireturn, 1) := by decide +kernel
theorem d_Fit_badness_16 : decode b_Fit_badness 16 = .ok (.aload_n 0, 1) := by decide +kernel
theorem d_Fit_badness_17 : decode b_Fit_badness 17 = .ok (.invokevirtual 60, 3) := by decide +kernel
theorem d_Fit_badness_20 : decode b_Fit_badness 20 = .ok (.ifCond .le 6, 3) := by decide +kernel
theorem d_Fit_badness_23 : decode b_Fit_badness 23 = .ok (.ldc 69, 2) := by decide +kernel
theorem d_Fit_badness_25 : decode b_Fit_badness 25 = .ok (.ireturn, 1) := by decide +kernel
theorem d_Fit_badness_26 : decode b_Fit_badness 26 = .ok (.aload_n 0, 1) := by decide +kernel
theorem d_Fit_badness_27 : decode b_Fit_badness 27 = .ok (.aload_n 0, 1) := by decide +kernel
theorem d_Fit_badness_28 : decode b_Fit_badness 28 = .ok (.getfield 15, 3) := by decide +kernel
theorem d_Fit_badness_31 : decode b_Fit_badness 31 = .ok (.invokestatic 70, 3) := by decide +kernel
theorem d_Fit_badness_34 : decode b_Fit_badness 34 = .ok (.i2l, 1) := by decide +kernel
theorem d_Fit_badness_35 : decode b_Fit_badness 35 = .ok (.invokevirtual 73, 3) := by decide +kernel
theorem d_Fit_badness_38 : decode b_Fit_badness 38 = .ok (.ireturn, 1) := by decide +kernel
theorem d_Math_abs_0 : decode b_Math_abs 0 = .ok (.iload_n 0, 1) := by decide +kernel
theorem d_Math_abs_1 : decode b_Math_abs 1 = .ok (.ifCond .ge 8, 3) := by decide +kernel
theorem d_Math_abs_4 : decode b_Math_abs 4 = .ok (.iload_n 0, 1) := by decide +kernel
theorem d_Math_abs_5 : decode b_Math_abs 5 = .ok (.ineg, 1) := by decide +kernel
theorem d_Math_abs_6 : decode b_Math_abs 6 = .ok (.goto 4, 3) := by decide +kernel
theorem d_Math_abs_9 : decode b_Math_abs 9 = .ok (.iload_n 0, 1) := by decide +kernel
theorem d_Math_abs_10 : decode b_Math_abs 10 = .ok (.ireturn, 1) := by decide +kernel
theorem d_Fit_cubed_0 : decode b_Fit_cubed 0 = .ok (.aload_n 0, 1) := by decide +kernel
theorem d_Fit_cubed_1 : decode b_Fit_cubed 1 = .ok (.getfield 21, 3) := by decide +kernel
theorem d_Fit_cubed_4 : decode b_Fit_cubed 4 = .ok (.ifCond .eq 17, 3) := by decide +kernel
theorem d_Fit_cubed_7 : decode b_Fit_cubed 7 = .ok (.lload_n 1, 1) := by decide +kernel
theorem d_Fit_cubed_8 : decode b_Fit_cubed 8 = .ok (.ldc2_w 77, 3) := by decide +kernel
theorem d_Fit_cubed_11 : decode b_Fit_cubed 11 = .ok (.aload_n 0, 1) := by decide +kernel
theorem d_Fit_cubed_12 : decode b_Fit_cubed 12 = .ok (.getfield 21, 3) := by decide +kernel
theorem d_Fit_cubed_15 : decode b_Fit_cubed 15 = .ok (.i2l, 1) := by decide +kernel
theorem d_Fit_cubed_16 : decode b_Fit_cubed 16 = .ok (.lmul, 1) := by decide +kernel
theorem d_Fit_cubed_17 : decode b_Fit_cubed 17 = .ok (.lcmp, 1) := by decide +kernel
theorem d_Fit_cubed_18 : decode b_Fit_cubed 18 = .ok (.ifCond .lt 7, 3) := by decide +kernel
theorem d_Fit_cubed_21 : decode b_Fit_cubed 21 = .ok (.sipush 10000, 3) := by decide +kernel
theorem d_Fit_cubed_24 : decode b_Fit_cubed 24 = .ok (.ireturn, 1) := by decide +kernel
theorem d_Fit_cubed_25 : decode b_Fit_cubed 25 = .ok (.aload_n 0, 1) := by decide +kernel
theorem d_Fit_cubed_26 : decode b_Fit_cubed 26 = .ok (.getfield 21, 3) := by decide +kernel
theorem d_Fit_cubed_29 : decode b_Fit_cubed 29 = .ok (.i2l, 1) := by decide +kernel
theorem d_Fit_cubed_30 : decode b_Fit_cubed 30 = .ok (.lstore_n 3, 1) := by decide +kernel
theorem d_Fit_cubed_31 : decode b_Fit_cubed 31 = .ok (.ldc2_w 79, 3) := by decide +kernel
theorem d_Fit_cubed_34 : decode b_Fit_cubed 34 = .ok (.lload_n 1, 1) := by decide +kernel
theorem d_Fit_cubed_35 : decode b_Fit_cubed 35 = .ok (.lmul, 1) := by decide +kernel
theorem d_Fit_cubed_36 : decode b_Fit_cubed 36 = .ok (.lload_n 1, 1) := by decide +kernel
theorem d_Fit_cubed_37 : decode b_Fit_cubed 37 = .ok (.lmul, 1) := by decide +kernel
theorem d_Fit_cubed_38 : decode b_Fit_cubed 38 = .ok (.lload_n 1, 1) := by decide +kernel
theorem d_Fit_cubed_39 : decode b_Fit_cubed 39 = .ok (.lmul, 1) := by decide +kernel
theorem d_Fit_cubed_40 : decode b_Fit_cubed 40 = .ok (.lload_n 3, 1) := by decide +kernel
theorem d_Fit_cubed_41 : decode b_Fit_cubed 41 = .ok (.lload_n 3, 1) := by decide +kernel
theorem d_Fit_cubed_42 : decode b_Fit_cubed 42 = .ok (.lmul, 1) := by decide +kernel
theorem d_Fit_cubed_43 : decode b_Fit_cubed 43 = .ok (.lload_n 3, 1) := by decide +kernel
theorem d_Fit_cubed_44 : decode b_Fit_cubed 44 = .ok (.lmul, 1) := by decide +kernel
theorem d_Fit_cubed_45 : decode b_Fit_cubed 45 = .ok (.ldiv, 1) := by decide +kernel
theorem d_Fit_cubed_46 : decode b_Fit_cubed 46 = .ok (.lstore 5, 2) := by decide +kernel
theorem d_Fit_cubed_48 : decode b_Fit_cubed 48 = .ok (.lload 5, 2) := by decide +kernel
theorem d_Fit_cubed_50 : decode b_Fit_cubed 50 = .ok (.ldc2_w 81, 3) := by decide +kernel
theorem d_Fit_cubed_53 : decode b_Fit_cubed 53 = .ok (.invokestatic 83, 3) := by decide +kernel
theorem d_Fit_cubed_56 : decode b_Fit_cubed 56 = .ok (.l2i, 1) := by decide +kernel
theorem d_Fit_cubed_57 : decode b_Fit_cubed 57 = .ok (.ireturn, 1) := by decide +kernel
theorem d_Math_min2_0 : decode b_Math_min2 0 = .ok (.lload_n 0, 1) := by decide +kernel
theorem d_Math_min2_1 : decode b_Math_min2 1 = .ok (.lload_n 2, 1) := by decide +kernel
theorem d_Math_min2_2 : decode b_Math_min2 2 = .ok (.lcmp, 1) := by decide +kernel
theorem d_Math_min2_3 : decode b_Math_min2 3 = .ok (.ifCond .gt 7, 3) := by decide +kernel
theorem d_Math_min2_6 : decode b_Math_min2 6 = .ok (.lload_n 0, 1) := by decide +kernel
theorem d_Math_min2_7 : decode b_Math_min2 7 = .ok (.goto 4, 3) := by decide +kernel
theorem d_Math_min2_10 : decode b_Math_min2 10 = .ok (.lload_n 2, 1) := by decide +kernel
theorem d_Math_min2_11 : decode b_Math_min2 11 = .ok (.lreturn, 1) := by decide +kernel
theorem d_BG_item_0 : decode b_BG_item 0 = .ok (.aload_n 0, 1) := by decide +kernel
theorem d_BG_item_1 : decode b_BG_item 1 = .ok (.iload_n 1, 1) := by decide +kernel
theorem d_BG_item_2 : decode b_BG_item 2 = .ok (.invokevirtual 41, 3) := by decide +kernel
end
section
theorem d_BG_item_5 : decode b_BG_item 5 = .ok (.ifCond .ne 5, 3) := by decide +kernel
theorem d_BG_item_8 : decode b_BG_item 8 = .ok (.iconst (-1), 1) := by decide +kernel
theorem d_BG_item_9 : decode b_BG_item 9 = .ok (.ireturn, 1) := by decide +kernel
theorem d_BG_item_10 : decode b_BG_item 10 = .ok (.aload_n 0, 1) := by decide +kernel
theorem d_BG_item_11 : decode b_BG_item 11 = .ok (.getfield 16, 3) := by decide +kernel
theorem d_BG_item_14 : decode b_BG_item 14 = .ok (.iload_n 1, 1) := by decide +kernel
theorem d_BG_item_15 : decode b_BG_item 15 = .ok (.invokevirtual 49, 3) := by decide +kernel
theorem d_BG_item_18 : decode b_BG_item 18 = .ok (.checkcast 32, 3) := by decide +kernel
theorem d_BG_item_21 : decode b_BG_item 21 = .ok (.astore 4, 2) := by decide +kernel
theorem d_BG_item_23 : decode b_BG_item 23 = .ok (.iload_n 2, 1) := by decide +kernel
theorem d_BG_item_24 : decode b_BG_item 24 = .ok (.ifCond .lt 15, 3) := by decide +kernel
theorem d_BG_item_27 : decode b_BG_item 27 = .ok (.iload_n 2, 1) := by decide +kernel
theorem d_BG_item_28 : decode b_BG_item 28 = .ok (.aload 4, 2) := by decide +kernel
theorem d_BG_item_30 : decode b_BG_item 30 = .ok (.getfield 122, 3) := by decide +kernel
theorem d_BG_item_33 : decode b_BG_item 33 = .ok (.invokevirtual 27, 3) := by decide +kernel
theorem d_BG_item_36 : decode b_BG_item 36 = .ok (.if_icmp .lt 5, 3) := by decide +kernel
theorem d_BG_item_39 : decode b_BG_item 39 = .ok (.iconst (-1), 1) := by decide +kernel
theorem d_BG_item_40 : decode b_BG_item 40 = .ok (.ireturn, 1) := by decide +kernel
theorem d_BG_item_41 : decode b_BG_item 41 = .ok (.aload 4, 2) := by decide +kernel
theorem d_BG_item_43 : decode b_BG_item 43 = .ok (.getfield 122, 3) := by decide +kernel
theorem d_BG_item_46 : decode b_BG_item 46 = .ok (.iload_n 2, 1) := by decide +kernel
theorem d_BG_item_47 : decode b_BG_item 47 = .ok (.invokevirtual 49, 3) := by decide +kernel
theorem d_BG_item_50 : decode b_BG_item 50 = .ok (.checkcast 125, 3) := by decide +kernel
theorem d_BG_item_53 : decode b_BG_item 53 = .ok (.iload_n 3, 1) := by decide +kernel
theorem d_BG_item_54 : decode b_BG_item 54 = .ok (.aload 4, 2) := by decide +kernel
theorem d_BG_item_56 : decode b_BG_item 56 = .ok (.invokevirtual 135, 3) := by decide +kernel
theorem d_BG_item_59 : decode b_BG_item 59 = .ok (.ireturn, 1) := by decide +kernel
theorem d_Placed_answer_0 : decode b_Placed_answer 0 = .ok (.iload_n 1, 1) := by decide +kernel
theorem d_Placed_answer_1 : decode b_Placed_answer 1 = .ok (.tableswitch 137 0 7 #[47, 55, 60, 65, 81, 97, 113, 125], 47) := by decide +kernel
theorem d_Placed_answer_48 : decode b_Placed_answer 48 = .ok (.aload_n 0, 1) := by decide +kernel
theorem d_Placed_answer_49 : decode b_Placed_answer 49 = .ok (.getfield 9, 3) := by decide +kernel
theorem d_Placed_answer_52 : decode b_Placed_answer 52 = .ok (.getfield 22, 3) := by decide +kernel
theorem d_Placed_answer_55 : decode b_Placed_answer 55 = .ok (.ireturn, 1) := by decide +kernel
theorem d_Placed_answer_56 : decode b_Placed_answer 56 = .ok (.aload_n 0, 1) := by decide +kernel
theorem d_Placed_answer_57 : decode b_Placed_answer 57 = .ok (.getfield 19, 3) := by decide +kernel
theorem d_Placed_answer_60 : decode b_Placed_answer 60 = .ok (.ireturn, 1) := by decide +kernel
theorem d_Placed_answer_61 : decode b_Placed_answer 61 = .ok (.aload_n 0, 1) := by decide +kernel
theorem d_Placed_answer_62 : decode b_Placed_answer 62 = .ok (.getfield 15, 3) := by decide +kernel
theorem d_Placed_answer_65 : decode b_Placed_answer 65 = .ok (.ireturn, 1) := by decide +kernel
theorem d_Placed_answer_66 : decode b_Placed_answer 66 = .ok (.aload_n 0, 1) := by decide +kernel
theorem d_Placed_answer_67 : decode b_Placed_answer 67 = .ok (.getfield 9, 3) := by decide +kernel
theorem d_Placed_answer_70 : decode b_Placed_answer 70 = .ok (.aload_n 0, 1) := by decide +kernel
theorem d_Placed_answer_71 : decode b_Placed_answer 71 = .ok (.getfield 15, 3) := by decide +kernel
theorem d_Placed_answer_74 : decode b_Placed_answer 74 = .ok (.aload_n 0, 1) := by decide +kernel
theorem d_Placed_answer_75 : decode b_Placed_answer 75 = .ok (.getfield 19, 3) := by decide +kernel
theorem d_Placed_answer_78 : decode b_Placed_answer 78 = .ok (.invokevirtual 27, 3) := by decide +kernel
theorem d_Placed_answer_81 : decode b_Placed_answer 81 = .ok (.ireturn, 1) := by decide +kernel
theorem d_Placed_answer_82 : decode b_Placed_answer 82 = .ok (.aload_n 0, 1) := by decide +kernel
theorem d_Placed_answer_83 : decode b_Placed_answer 83 = .ok (.getfield 9, 3) := by decide +kernel
theorem d_Placed_answer_86 : decode b_Placed_answer 86 = .ok (.aload_n 0, 1) := by decide +kernel
theorem d_Placed_answer_87 : decode b_Placed_answer 87 = .ok (.getfield 15, 3) := by decide +kernel
theorem d_Placed_answer_90 : decode b_Placed_answer 90 = .ok (.aload_n 0, 1) := by decide +kernel
theorem d_Placed_answer_91 : decode b_Placed_answer 91 = .ok (.getfield 19, 3) := by decide +kernel
theorem d_Placed_answer_94 : decode b_Placed_answer 94 = .ok (.invokevirtual 31, 3) := by decide +kernel
theorem d_Placed_answer_97 : decode b_Placed_answer 97 = .ok (.ireturn, 1) := by decide +kernel
theorem d_Placed_answer_98 : decode b_Placed_answer 98 = .ok (.aload_n 0, 1) := by decide +kernel
theorem d_Placed_answer_99 : decode b_Placed_answer 99 = .ok (.getfield 9, 3) := by decide +kernel
theorem d_Placed_answer_102 : decode b_Placed_answer 102 = .ok (.aload_n 0, 1) := by decide +kernel
theorem d_Placed_answer_103 : decode b_Placed_answer 103 = .ok (.getfield 15, 3) := by decide +kernel
theorem d_Placed_answer_106 : decode b_Placed_answer 106 = .ok (.aload_n 0, 1) := by decide +kernel
theorem d_Placed_answer_107 : decode b_Placed_answer 107 = .ok (.getfield 19, 3) := by decide +kernel
theorem d_Placed_answer_110 : decode b_Placed_answer 110 = .ok (.invokevirtual 34, 3) := by decide +kernel
theorem d_Placed_answer_113 : decode b_Placed_answer 113 = .ok (.ireturn, 1) := by decide +kernel
theorem d_Placed_answer_114 : decode b_Placed_answer 114 = .ok (.aload_n 0, 1) := by decide +kernel
theorem d_Placed_answer_115 : decode b_Placed_answer 115 = .ok (.getfield 9, 3) := by decide +kernel
theorem d_Placed_answer_118 : decode b_Placed_answer 118 = .ok (.aload_n 2, 1) := by decide +kernel
theorem d_Placed_answer_119 : decode b_Placed_answer 119 = .ok (.getfield 37, 3) := by decide +kernel
theorem d_Placed_answer_122 : decode b_Placed_answer 122 = .ok (.invokevirtual 42, 3) := by decide +kernel
theorem d_Placed_answer_125 : decode b_Placed_answer 125 = .ok (.ireturn, 1) := by decide +kernel
theorem d_Placed_answer_126 : decode b_Placed_answer 126 = .ok (.aload_n 0, 1) := by decide +kernel
theorem d_Placed_answer_127 : decode b_Placed_answer 127 = .ok (.getfield 9, 3) := by decide +kernel
theorem d_Placed_answer_130 : decode b_Placed_answer 130 = .ok (.aload_n 2, 1) := by decide +kernel
theorem d_Placed_answer_131 : decode b_Placed_answer 131 = .ok (.getfield 46, 3) := by decide +kernel
theorem d_Placed_answer_134 : decode b_Placed_answer 134 = .ok (.invokevirtual 49, 3) := by decide +kernel
theorem d_Placed_answer_137 : decode b_Placed_answer 137 = .ok (.ireturn, 1) := by decide +kernel
theorem d_Placed_answer_138 : decode b_Placed_answer 138 = .ok (.iconst (-1), 1) := by decide +kernel
theorem d_Placed_answer_139 : decode b_Placed_answer 139 = .ok (.ireturn, 1) := by decide +kernel
theorem d_Glue_leadersDrawn_0 : decode b_Glue_leadersDrawn 0 = .ok (.aload_n 0, 1) := by decide +kernel
theorem d_Glue_leadersDrawn_1 : decode b_Glue_leadersDrawn 1 = .ok (.getfield 22, 3) := by decide +kernel
theorem d_Glue_leadersDrawn_4 : decode b_Glue_leadersDrawn 4 = .ok (.iload_n 1, 1) := by decide +kernel
theorem d_Glue_leadersDrawn_5 : decode b_Glue_leadersDrawn 5 = .ok (.iload_n 2, 1) := by decide +kernel
theorem d_Glue_leadersDrawn_6 : decode b_Glue_leadersDrawn 6 = .ok (.invokevirtual 32, 3) := by decide +kernel
theorem d_Glue_leadersDrawn_9 : decode b_Glue_leadersDrawn 9 = .ok (.ireturn, 1) := by decide +kernel
theorem d_Leaders_drawn_0 : decode b_Leaders_drawn 0 = .ok (.aload_n 0, 1) := by decide +kernel
theorem d_Leaders_drawn_1 : decode b_Leaders_drawn 1 = .ok (.getfield 13, 3) := by decide +kernel
theorem d_Leaders_drawn_4 : decode b_Leaders_drawn 4 = .ok (.ifCond .le 11, 3) := by decide +kernel
theorem d_Leaders_drawn_7 : decode b_Leaders_drawn 7 = .ok (.iload_n 2, 1) := by decide +kernel
theorem d_Leaders_drawn_8 : decode b_Leaders_drawn 8 = .ok (.aload_n 0, 1) := by decide +kernel
theorem d_Leaders_drawn_9 : decode b_Leaders_drawn 9 = .ok (.getfield 13, 3) := by decide +kernel
theorem d_Leaders_drawn_12 : decode b_Leaders_drawn 12 = .ok (.if_icmp .ge 5, 3) := by decide +kernel
theorem d_Leaders_drawn_15 : decode b_Leaders_drawn 15 = .ok (.iconst 0, 1) := by decide +kernel
theorem d_Leaders_drawn_16 : decode b_Leaders_drawn 16 = .ok (.ireturn, 1) := by decide +kernel
theorem d_Leaders_drawn_17 : decode b_Leaders_drawn 17 = .ok (.aload_n 0, 1) := by decide +kernel
theorem d_Leaders_drawn_18 : decode b_Leaders_drawn 18 = .ok (.getfield 7, 3) := by decide +kernel
theorem d_Leaders_drawn_21 : decode b_Leaders_drawn 21 = .ok (.iconst 1, 1) := by decide +kernel
theorem d_Leaders_drawn_22 : decode b_Leaders_drawn 22 = .ok (.if_icmp .ne 20, 3) := by decide +kernel
theorem d_Leaders_drawn_25 : decode b_Leaders_drawn 25 = .ok (.iload_n 1, 1) := by decide +kernel
theorem d_Leaders_drawn_26 : decode b_Leaders_drawn 26 = .ok (.iload_n 2, 1) := by decide +kernel
theorem d_Leaders_drawn_27 : decode b_Leaders_drawn 27 = .ok (.iadd, 1) := by decide +kernel
theorem d_Leaders_drawn_28 : decode b_Leaders_drawn 28 = .ok (.aload_n 0, 1) := by decide +kernel
theorem d_Leaders_drawn_29 : decode b_Leaders_drawn 29 = .ok (.getfield 13, 3) := by decide +kernel
theorem d_Leaders_drawn_32 : decode b_Leaders_drawn 32 = .ok (.invokestatic 16, 3) := by decide +kernel
theorem d_Leaders_drawn_35 : decode b_Leaders_drawn 35 = .ok (.aload_n 0, 1) := by decide +kernel
theorem d_Leaders_drawn_36 : decode b_Leaders_drawn 36 = .ok (.iload_n 1, 1) := by decide +kernel
theorem d_Leaders_drawn_37 : decode b_Leaders_drawn 37 = .ok (.invokevirtual 22, 3) := by decide +kernel
theorem d_Leaders_drawn_40 : decode b_Leaders_drawn 40 = .ok (.isub, 1) := by decide +kernel
theorem d_Leaders_drawn_41 : decode b_Leaders_drawn 41 = .ok (.ireturn, 1) := by decide +kernel
theorem d_Leaders_drawn_42 : decode b_Leaders_drawn 42 = .ok (.iload_n 2, 1) := by decide +kernel
theorem d_Leaders_drawn_43 : decode b_Leaders_drawn 43 = .ok (.aload_n 0, 1) := by decide +kernel
theorem d_Leaders_drawn_44 : decode b_Leaders_drawn 44 = .ok (.getfield 13, 3) := by decide +kernel
theorem d_Leaders_drawn_47 : decode b_Leaders_drawn 47 = .ok (.idiv, 1) := by decide +kernel
theorem d_Leaders_drawn_48 : decode b_Leaders_drawn 48 = .ok (.ireturn, 1) := by decide +kernel
theorem d_Math_floorDiv_0 : decode b_Math_floorDiv 0 = .ok (.iload_n 0, 1) := by decide +kernel
theorem d_Math_floorDiv_1 : decode b_Math_floorDiv 1 = .ok (.iload_n 1, 1) := by decide +kernel
theorem d_Math_floorDiv_2 : decode b_Math_floorDiv 2 = .ok (.idiv, 1) := by decide +kernel
theorem d_Math_floorDiv_3 : decode b_Math_floorDiv 3 = .ok (.istore_n 2, 1) := by decide +kernel
theorem d_Math_floorDiv_4 : decode b_Math_floorDiv 4 = .ok (.iload_n 0, 1) := by decide +kernel
theorem d_Math_floorDiv_5 : decode b_Math_floorDiv 5 = .ok (.iload_n 1, 1) := by decide +kernel
theorem d_Math_floorDiv_6 : decode b_Math_floorDiv 6 = .ok (.ixor, 1) := by decide +kernel
theorem d_Math_floorDiv_7 : decode b_Math_floorDiv 7 = .ok (.ifCond .ge 14, 3) := by decide +kernel
theorem d_Math_floorDiv_10 : decode b_Math_floorDiv 10 = .ok (.iload_n 2, 1) := by decide +kernel
theorem d_Math_floorDiv_11 : decode b_Math_floorDiv 11 = .ok (.iload_n 1, 1) := by decide +kernel
theorem d_Math_floorDiv_12 : decode b_Math_floorDiv 12 = .ok (.imul, 1) := by decide +kernel
theorem d_Math_floorDiv_13 : decode b_Math_floorDiv 13 = .ok (.iload_n 0, 1) := by decide +kernel
theorem d_Math_floorDiv_14 : decode b_Math_floorDiv 14 = .ok (.if_icmp .eq 7, 3) := by decide +kernel
theorem d_Math_floorDiv_17 : decode b_Math_floorDiv 17 = .ok (.iload_n 2, 1) := by decide +kernel
theorem d_Math_floorDiv_18 : decode b_Math_floorDiv 18 = .ok (.iconst 1, 1) := by decide +kernel
theorem d_Math_floorDiv_19 : decode b_Math_floorDiv 19 = .ok (.isub, 1) := by decide +kernel
theorem d_Math_floorDiv_20 : decode b_Math_floorDiv 20 = .ok (.ireturn, 1) := by decide +kernel
theorem d_Math_floorDiv_21 : decode b_Math_floorDiv 21 = .ok (.iload_n 2, 1) := by decide +kernel
theorem d_Math_floorDiv_22 : decode b_Math_floorDiv 22 = .ok (.ireturn, 1) := by decide +kernel
theorem d_Leaders_alignedFrom_0 : decode b_Leaders_alignedFrom 0 = .ok (.aload_n 0, 1) := by decide +kernel
theorem d_Leaders_alignedFrom_1 : decode b_Leaders_alignedFrom 1 = .ok (.getfield 13, 3) := by decide +kernel
theorem d_Leaders_alignedFrom_4 : decode b_Leaders_alignedFrom 4 = .ok (.ifCond .gt 7, 3) := by decide +kernel
theorem d_Leaders_alignedFrom_7 : decode b_Leaders_alignedFrom 7 = .ok (.iconst 0, 1) := by decide +kernel
theorem d_Leaders_alignedFrom_8 : decode b_Leaders_alignedFrom 8 = .ok (.goto 13, 3) := by decide +kernel
theorem d_Leaders_alignedFrom_11 : decode b_Leaders_alignedFrom 11 = .ok (.iload_n 1, 1) := by decide +kernel
theorem d_Leaders_alignedFrom_12 : decode b_Leaders_alignedFrom 12 = .ok (.ineg, 1) := by decide +kernel
theorem d_Leaders_alignedFrom_13 : decode b_Leaders_alignedFrom 13 = .ok (.aload_n 0, 1) := by decide +kernel
theorem d_Leaders_alignedFrom_14 : decode b_Leaders_alignedFrom 14 = .ok (.getfield 13, 3) := by decide +kernel
theorem d_Leaders_alignedFrom_17 : decode b_Leaders_alignedFrom 17 = .ok (.invokestatic 16, 3) := by decide +kernel
theorem d_Leaders_alignedFrom_20 : decode b_Leaders_alignedFrom 20 = .ok (.ineg, 1) := by decide +kernel
theorem d_Leaders_alignedFrom_21 : decode b_Leaders_alignedFrom 21 = .ok (.ireturn, 1) := by decide +kernel
theorem d_Item_leadersDrawn_0 : decode b_Item_leadersDrawn 0 = .ok (.iconst 0, 1) := by decide +kernel
theorem d_Item_leadersDrawn_1 : decode b_Item_leadersDrawn 1 = .ok (.ireturn, 1) := by decide +kernel
theorem d_Glue_firstLeader_0 : decode b_Glue_firstLeader 0 = .ok (.aload_n 0, 1) := by decide +kernel
theorem d_Glue_firstLeader_1 : decode b_Glue_firstLeader 1 = .ok (.getfield 22, 3) := by decide +kernel
theorem d_Glue_firstLeader_4 : decode b_Glue_firstLeader 4 = .ok (.iload_n 1, 1) := by decide +kernel
theorem d_Glue_firstLeader_5 : decode b_Glue_firstLeader 5 = .ok (.iload_n 2, 1) := by decide +kernel
theorem d_Glue_firstLeader_6 : decode b_Glue_firstLeader 6 = .ok (.invokevirtual 38, 3) := by decide +kernel
theorem d_Glue_firstLeader_9 : decode b_Glue_firstLeader 9 = .ok (.ireturn, 1) := by decide +kernel
theorem d_Leaders_first_0 : decode b_Leaders_first 0 = .ok (.aload_n 0, 1) := by decide +kernel
theorem d_Leaders_first_1 : decode b_Leaders_first 1 = .ok (.getfield 13, 3) := by decide +kernel
theorem d_Leaders_first_4 : decode b_Leaders_first 4 = .ok (.ifCond .le 12, 3) := by decide +kernel
theorem d_Leaders_first_7 : decode b_Leaders_first 7 = .ok (.aload_n 0, 1) := by decide +kernel
theorem d_Leaders_first_8 : decode b_Leaders_first 8 = .ok (.iload_n 1, 1) := by decide +kernel
theorem d_Leaders_first_9 : decode b_Leaders_first 9 = .ok (.iload_n 2, 1) := by decide +kernel
theorem d_Leaders_first_10 : decode b_Leaders_first 10 = .ok (.invokevirtual 26, 3) := by decide +kernel
theorem d_Leaders_first_13 : decode b_Leaders_first 13 = .ok (.ifCond .ne 5, 3) := by decide +kernel
theorem d_Leaders_first_16 : decode b_Leaders_first 16 = .ok (.iconst 0, 1) := by decide +kernel
theorem d_Leaders_first_17 : decode b_Leaders_first 17 = .ok (.ireturn, 1) := by decide +kernel
theorem d_Leaders_first_18 : decode b_Leaders_first 18 = .ok (.aload_n 0, 1) := by decide +kernel
theorem d_Leaders_first_19 : decode b_Leaders_first 19 = .ok (.getfield 7, 3) := by decide +kernel
theorem d_Leaders_first_22 : decode b_Leaders_first 22 = .ok (.iconst 1, 1) := by decide +kernel
theorem d_Leaders_first_23 : decode b_Leaders_first 23 = .ok (.if_icmp .ne 14, 3) := by decide +kernel
theorem d_Leaders_first_26 : decode b_Leaders_first 26 = .ok (.aload_n 0, 1) := by decide +kernel
theorem d_Leaders_first_27 : decode b_Leaders_first 27 = .ok (.iload_n 1, 1) := by decide +kernel
theorem d_Leaders_first_28 : decode b_Leaders_first 28 = .ok (.invokevirtual 22, 3) := by decide +kernel
theorem d_Leaders_first_31 : decode b_Leaders_first 31 = .ok (.aload_n 0, 1) := by decide +kernel
theorem d_Leaders_first_32 : decode b_Leaders_first 32 = .ok (.getfield 13, 3) := by decide +kernel
theorem d_Leaders_first_35 : decode b_Leaders_first 35 = .ok (.imul, 1) := by decide +kernel
theorem d_Leaders_first_36 : decode b_Leaders_first 36 = .ok (.ireturn, 1) := by decide +kernel
theorem d_Leaders_first_37 : decode b_Leaders_first 37 = .ok (.aload_n 0, 1) := by decide +kernel
theorem d_Leaders_first_38 : decode b_Leaders_first 38 = .ok (.getfield 7, 3) := by decide +kernel
theorem d_Leaders_first_41 : decode b_Leaders_first 41 = .ok (.iconst 2, 1) := by decide +kernel
theorem d_Leaders_first_42 : decode b_Leaders_first 42 = .ok (.if_icmp .ne 14, 3) := by decide +kernel
theorem d_Leaders_first_45 : decode b_Leaders_first 45 = .ok (.iload_n 1, 1) := by decide +kernel
theorem d_Leaders_first_46 : decode b_Leaders_first 46 = .ok (.iload_n 2, 1) := by decide +kernel
theorem d_Leaders_first_47 : decode b_Leaders_first 47 = .ok (.aload_n 0, 1) := by decide +kernel
theorem d_Leaders_first_48 : decode b_Leaders_first 48 = .ok (.getfield 13, 3) := by decide +kernel
theorem d_Leaders_first_51 : decode b_Leaders_first 51 = .ok (.irem, 1) := by decide +kernel
theorem d_Leaders_first_52 : decode b_Leaders_first 52 = .ok (.iconst 2, 1) := by decide +kernel
theorem d_Leaders_first_53 : decode b_Leaders_first 53 = .ok (.idiv, 1) := by decide +kernel
theorem d_Leaders_first_54 : decode b_Leaders_first 54 = .ok (.iadd, 1) := by decide +kernel
theorem d_Leaders_first_55 : decode b_Leaders_first 55 = .ok (.ireturn, 1) := by decide +kernel
theorem d_Leaders_first_56 : decode b_Leaders_first 56 = .ok (.iload_n 1, 1) := by decide +kernel
theorem d_Leaders_first_57 : decode b_Leaders_first 57 = .ok (.aload_n 0, 1) := by decide +kernel
theorem d_Leaders_first_58 : decode b_Leaders_first 58 = .ok (.iload_n 2, 1) := by decide +kernel
theorem d_Leaders_first_59 : decode b_Leaders_first 59 = .ok (.invokevirtual 29, 3) := by decide +kernel
theorem d_Leaders_first_62 : decode b_Leaders_first 62 = .ok (.iadd, 1) := by decide +kernel
theorem d_Leaders_first_63 : decode b_Leaders_first 63 = .ok (.ireturn, 1) := by decide +kernel
theorem d_Leaders_gap_0 : decode b_Leaders_gap 0 = .ok (.aload_n 0, 1) := by decide +kernel
theorem d_Leaders_gap_1 : decode b_Leaders_gap 1 = .ok (.getfield 13, 3) := by decide +kernel
theorem d_Leaders_gap_4 : decode b_Leaders_gap 4 = .ok (.ifCond .le 11, 3) := by decide +kernel
theorem d_Leaders_gap_7 : decode b_Leaders_gap 7 = .ok (.iload_n 1, 1) := by decide +kernel
theorem d_Leaders_gap_8 : decode b_Leaders_gap 8 = .ok (.aload_n 0, 1) := by decide +kernel
theorem d_Leaders_gap_9 : decode b_Leaders_gap 9 = .ok (.getfield 13, 3) := by decide +kernel
theorem d_Leaders_gap_12 : decode b_Leaders_gap 12 = .ok (.if_icmp .ge 5, 3) := by decide +kernel
theorem d_Leaders_gap_15 : decode b_Leaders_gap 15 = .ok (.iconst 0, 1) := by decide +kernel
theorem d_Leaders_gap_16 : decode b_Leaders_gap 16 = .ok (.ireturn, 1) := by decide +kernel
theorem d_Leaders_gap_17 : decode b_Leaders_gap 17 = .ok (.iload_n 1, 1) := by decide +kernel
theorem d_Leaders_gap_18 : decode b_Leaders_gap 18 = .ok (.aload_n 0, 1) := by decide +kernel
theorem d_Leaders_gap_19 : decode b_Leaders_gap 19 = .ok (.getfield 13, 3) := by decide +kernel
theorem d_Leaders_gap_22 : decode b_Leaders_gap 22 = .ok (.irem, 1) := by decide +kernel
theorem d_Leaders_gap_23 : decode b_Leaders_gap 23 = .ok (.iload_n 1, 1) := by decide +kernel
theorem d_Leaders_gap_24 : decode b_Leaders_gap 24 = .ok (.aload_n 0, 1) := by decide +kernel
theorem d_Leaders_gap_25 : decode b_Leaders_gap 25 = .ok (.getfield 13, 3) := by decide +kernel
theorem d_Leaders_gap_28 : decode b_Leaders_gap 28 = .ok (.idiv, 1) := by decide +kernel
theorem d_Leaders_gap_29 : decode b_Leaders_gap 29 = .ok (.iconst 1, 1) := by decide +kernel
theorem d_Leaders_gap_30 : decode b_Leaders_gap 30 = .ok (.iadd, 1) := by decide +kernel
theorem d_Leaders_gap_31 : decode b_Leaders_gap 31 = .ok (.idiv, 1) := by decide +kernel
theorem d_Leaders_gap_32 : decode b_Leaders_gap 32 = .ok (.ireturn, 1) := by decide +kernel
theorem d_Item_firstLeader_0 : decode b_Item_firstLeader 0 = .ok (.iconst 0, 1) := by decide +kernel
theorem d_Item_firstLeader_1 : decode b_Item_firstLeader 1 = .ok (.ireturn, 1) := by decide +kernel
theorem d_Glue_leaderStep_0 : decode b_Glue_leaderStep 0 = .ok (.aload_n 0, 1) := by decide +kernel
theorem d_Glue_leaderStep_1 : decode b_Glue_leaderStep 1 = .ok (.getfield 22, 3) := by decide +kernel
theorem d_Glue_leaderStep_4 : decode b_Glue_leaderStep 4 = .ok (.iload_n 1, 1) := by decide +kernel
theorem d_Glue_leaderStep_5 : decode b_Glue_leaderStep 5 = .ok (.iload_n 2, 1) := by decide +kernel
theorem d_Glue_leaderStep_6 : decode b_Glue_leaderStep 6 = .ok (.invokevirtual 41, 3) := by decide +kernel
theorem d_Glue_leaderStep_9 : decode b_Glue_leaderStep 9 = .ok (.ireturn, 1) := by decide +kernel
theorem d_Leaders_step_0 : decode b_Leaders_step 0 = .ok (.aload_n 0, 1) := by decide +kernel
theorem d_Leaders_step_1 : decode b_Leaders_step 1 = .ok (.iload_n 1, 1) := by decide +kernel
theorem d_Leaders_step_2 : decode b_Leaders_step 2 = .ok (.iload_n 2, 1) := by decide +kernel
theorem d_Leaders_step_3 : decode b_Leaders_step 3 = .ok (.invokevirtual 26, 3) := by decide +kernel
theorem d_Leaders_step_6 : decode b_Leaders_step 6 = .ok (.ifCond .ne 5, 3) := by decide +kernel
theorem d_Leaders_step_9 : decode b_Leaders_step 9 = .ok (.iconst 0, 1) := by decide +kernel
theorem d_Leaders_step_10 : decode b_Leaders_step 10 = .ok (.ireturn, 1) := by decide +kernel
theorem d_Leaders_step_11 : decode b_Leaders_step 11 = .ok (.aload_n 0, 1) := by decide +kernel
theorem d_Leaders_step_12 : decode b_Leaders_step 12 = .ok (.getfield 7, 3) := by decide +kernel
theorem d_Leaders_step_15 : decode b_Leaders_step 15 = .ok (.iconst 3, 1) := by decide +kernel
theorem d_Leaders_step_16 : decode b_Leaders_step 16 = .ok (.if_icmp .ne 16, 3) := by decide +kernel
theorem d_Leaders_step_19 : decode b_Leaders_step 19 = .ok (.aload_n 0, 1) := by decide +kernel
theorem d_Leaders_step_20 : decode b_Leaders_step 20 = .ok (.getfield 13, 3) := by decide +kernel
theorem d_Leaders_step_23 : decode b_Leaders_step 23 = .ok (.aload_n 0, 1) := by decide +kernel
theorem d_Leaders_step_24 : decode b_Leaders_step 24 = .ok (.iload_n 2, 1) := by decide +kernel
theorem d_Leaders_step_25 : decode b_Leaders_step 25 = .ok (.invokevirtual 29, 3) := by decide +kernel
theorem d_Leaders_step_28 : decode b_Leaders_step 28 = .ok (.iadd, 1) := by decide +kernel
theorem d_Leaders_step_29 : decode b_Leaders_step 29 = .ok (.goto 7, 3) := by decide +kernel
theorem d_Leaders_step_32 : decode b_Leaders_step 32 = .ok (.aload_n 0, 1) := by decide +kernel
theorem d_Leaders_step_33 : decode b_Leaders_step 33 = .ok (.getfield 13, 3) := by decide +kernel
theorem d_Leaders_step_36 : decode b_Leaders_step 36 = .ok (.ireturn, 1) := by decide +kernel
theorem d_Item_leaderStep_0 : decode b_Item_leaderStep 0 = .ok (.iconst 0, 1) := by decide +kernel
theorem d_Item_leaderStep_1 : decode b_Item_leaderStep 1 = .ok (.ireturn, 1) := by decide +kernel
theorem d_BG_size_0 : decode b_BG_size 0 = .ok (.aload_n 0, 1) := by decide +kernel
theorem d_BG_size_1 : decode b_BG_size 1 = .ok (.getfield 10, 3) := by decide +kernel
theorem d_BG_size_4 : decode b_BG_size 4 = .ok (.invokevirtual 27, 3) := by decide +kernel
theorem d_BG_size_7 : decode b_BG_size 7 = .ok (.ireturn, 1) := by decide +kernel
theorem d_BG_natural_0 : decode b_BG_natural 0 = .ok (.aload_n 0, 1) := by decide +kernel
theorem d_BG_natural_1 : decode b_BG_natural 1 = .ok (.getfield 10, 3) := by decide +kernel
theorem d_BG_natural_4 : decode b_BG_natural 4 = .ok (.invokestatic 103, 3) := by decide +kernel
theorem d_BG_natural_7 : decode b_BG_natural 7 = .ok (.i2l, 1) := by decide +kernel
theorem d_BG_natural_8 : decode b_BG_natural 8 = .ok (.lreturn, 1) := by decide +kernel
theorem d_BG_drop_0 : decode b_BG_drop 0 = .ok (.aload_n 0, 1) := by decide +kernel
theorem d_BG_drop_1 : decode b_BG_drop 1 = .ok (.getfield 10, 3) := by decide +kernel
theorem d_BG_drop_4 : decode b_BG_drop 4 = .ok (.invokevirtual 87, 3) := by decide +kernel
theorem d_BG_drop_7 : decode b_BG_drop 7 = .ok (.ifCond .eq 6, 3) := by decide +kernel
theorem d_BG_drop_10 : decode b_BG_drop 10 = .ok (.bipush (-3), 2) := by decide +kernel
theorem d_BG_drop_12 : decode b_BG_drop 12 = .ok (.ireturn, 1) := by decide +kernel
theorem d_BG_drop_13 : decode b_BG_drop 13 = .ok (.aload_n 0, 1) := by decide +kernel
theorem d_BG_drop_14 : decode b_BG_drop 14 = .ok (.getfield 10, 3) := by decide +kernel
theorem d_BG_drop_17 : decode b_BG_drop 17 = .ok (.aload_n 0, 1) := by decide +kernel
theorem d_BG_drop_18 : decode b_BG_drop 18 = .ok (.getfield 10, 3) := by decide +kernel
theorem d_BG_drop_21 : decode b_BG_drop 21 = .ok (.invokevirtual 27, 3) := by decide +kernel
theorem d_BG_drop_24 : decode b_BG_drop 24 = .ok (.iconst 1, 1) := by decide +kernel
theorem d_BG_drop_25 : decode b_BG_drop 25 = .ok (.isub, 1) := by decide +kernel
theorem d_BG_drop_26 : decode b_BG_drop 26 = .ok (.invokevirtual 138, 3) := by decide +kernel
theorem d_BG_drop_29 : decode b_BG_drop 29 = .ok (.pop, 1) := by decide +kernel
theorem d_BG_drop_30 : decode b_BG_drop 30 = .ok (.aload_n 0, 1) := by decide +kernel
theorem d_BG_drop_31 : decode b_BG_drop 31 = .ok (.getfield 10, 3) := by decide +kernel
theorem d_BG_drop_34 : decode b_BG_drop 34 = .ok (.invokevirtual 27, 3) := by decide +kernel
theorem d_BG_drop_37 : decode b_BG_drop 37 = .ok (.ireturn, 1) := by decide +kernel
theorem d_AL_remove_0 : decode b_AL_remove 0 = .ok (.iload_n 1, 1) := by decide +kernel
theorem d_AL_remove_1 : decode b_AL_remove 1 = .ok (.aload_n 0, 1) := by decide +kernel
theorem d_AL_remove_2 : decode b_AL_remove 2 = .ok (.getfield 48, 3) := by decide +kernel
theorem d_AL_remove_5 : decode b_AL_remove 5 = .ok (.invokestatic 118, 3) := by decide +kernel
theorem d_AL_remove_8 : decode b_AL_remove 8 = .ok (.pop, 1) := by decide +kernel
theorem d_AL_remove_9 : decode b_AL_remove 9 = .ok (.aload_n 0, 1) := by decide +kernel
theorem d_AL_remove_10 : decode b_AL_remove 10 = .ok (.getfield 9, 3) := by decide +kernel
theorem d_AL_remove_13 : decode b_AL_remove 13 = .ok (.astore_n 2, 1) := by decide +kernel
theorem d_AL_remove_14 : decode b_AL_remove 14 = .ok (.aload_n 2, 1) := by decide +kernel
theorem d_AL_remove_15 : decode b_AL_remove 15 = .ok (.iload_n 1, 1) := by decide +kernel
theorem d_AL_remove_16 : decode b_AL_remove 16 = .ok (.aaload, 1) := by decide +kernel
theorem d_AL_remove_17 : decode b_AL_remove 17 = .ok (.astore_n 3, 1) := by decide +kernel
theorem d_AL_remove_18 : decode b_AL_remove 18 = .ok (.aload_n 0, 1) := by decide +kernel
theorem d_AL_remove_19 : decode b_AL_remove 19 = .ok (.aload_n 2, 1) := by decide +kernel
theorem d_AL_remove_20 : decode b_AL_remove 20 = .ok (.iload_n 1, 1) := by decide +kernel
theorem d_AL_remove_21 : decode b_AL_remove 21 = .ok (.invokevirtual 144, 3) := by decide +kernel
theorem d_AL_remove_24 : decode b_AL_remove 24 = .ok (.aload_n 3, 1) := by decide +kernel
theorem d_AL_remove_25 : decode b_AL_remove 25 = .ok (.areturn, 1) := by decide +kernel
theorem d_AL_fastRemove_0 : decode b_AL_fastRemove 0 = .ok (.aload_n 0, 1) := by decide +kernel
theorem d_AL_fastRemove_1 : decode b_AL_fastRemove 1 = .ok (.dup, 1) := by decide +kernel
theorem d_AL_fastRemove_2 : decode b_AL_fastRemove 2 = .ok (.getfield 63, 3) := by decide +kernel
theorem d_AL_fastRemove_5 : decode b_AL_fastRemove 5 = .ok (.iconst 1, 1) := by decide +kernel
theorem d_AL_fastRemove_6 : decode b_AL_fastRemove 6 = .ok (.iadd, 1) := by decide +kernel
theorem d_AL_fastRemove_7 : decode b_AL_fastRemove 7 = .ok (.putfield 63, 3) := by decide +kernel
theorem d_AL_fastRemove_10 : decode b_AL_fastRemove 10 = .ok (.aload_n 0, 1) := by decide +kernel
theorem d_AL_fastRemove_11 : decode b_AL_fastRemove 11 = .ok (.getfield 48, 3) := by decide +kernel
theorem d_AL_fastRemove_14 : decode b_AL_fastRemove 14 = .ok (.iconst 1, 1) := by decide +kernel
theorem d_AL_fastRemove_15 : decode b_AL_fastRemove 15 = .ok (.isub, 1) := by decide +kernel
theorem d_AL_fastRemove_16 : decode b_AL_fastRemove 16 = .ok (.dup, 1) := by decide +kernel
theorem d_AL_fastRemove_17 : decode b_AL_fastRemove 17 = .ok (.istore_n 3, 1) := by decide +kernel
theorem d_AL_fastRemove_18 : decode b_AL_fastRemove 18 = .ok (.iload_n 2, 1) := by decide +kernel
theorem d_AL_fastRemove_19 : decode b_AL_fastRemove 19 = .ok (.if_icmp .le 15, 3) := by decide +kernel
theorem d_AL_fastRemove_22 : decode b_AL_fastRemove 22 = .ok (.aload_n 1, 1) := by decide +kernel
theorem d_AL_fastRemove_23 : decode b_AL_fastRemove 23 = .ok (.iload_n 2, 1) := by decide +kernel
theorem d_AL_fastRemove_24 : decode b_AL_fastRemove 24 = .ok (.iconst 1, 1) := by decide +kernel
theorem d_AL_fastRemove_25 : decode b_AL_fastRemove 25 = .ok (.iadd, 1) := by decide +kernel
theorem d_AL_fastRemove_26 : decode b_AL_fastRemove 26 = .ok (.aload_n 1, 1) := by decide +kernel
theorem d_AL_fastRemove_27 : decode b_AL_fastRemove 27 = .ok (.iload_n 2, 1) := by decide +kernel
theorem d_AL_fastRemove_28 : decode b_AL_fastRemove 28 = .ok (.iload_n 3, 1) := by decide +kernel
theorem d_AL_fastRemove_29 : decode b_AL_fastRemove 29 = .ok (.iload_n 2, 1) := by decide +kernel
theorem d_AL_fastRemove_30 : decode b_AL_fastRemove 30 = .ok (.isub, 1) := by decide +kernel
theorem d_AL_fastRemove_31 : decode b_AL_fastRemove 31 = .ok (.invokestatic 112, 3) := by decide +kernel
theorem d_AL_fastRemove_34 : decode b_AL_fastRemove 34 = .ok (.aload_n 1, 1) := by decide +kernel
theorem d_AL_fastRemove_35 : decode b_AL_fastRemove 35 = .ok (.aload_n 0, 1) := by decide +kernel
theorem d_AL_fastRemove_36 : decode b_AL_fastRemove 36 = .ok (.iload_n 3, 1) := by decide +kernel
theorem d_AL_fastRemove_37 : decode b_AL_fastRemove 37 = .ok (.dup_x1, 1) := by decide +kernel
theorem d_AL_fastRemove_38 : decode b_AL_fastRemove 38 = .ok (.putfield 48, 3) := by decide +kernel
theorem d_AL_fastRemove_41 : decode b_AL_fastRemove 41 = .ok (.aconst_null, 1) := by decide +kernel
theorem d_AL_fastRemove_42 : decode b_AL_fastRemove 42 = .ok (.aastore, 1) := by decide +kernel
theorem d_AL_fastRemove_43 : decode b_AL_fastRemove 43 = .ok (.return_, 1) := by decide +kernel
theorem d_BG_boxes_0 : decode b_BG_boxes 0 = .ok (.aload_n 0, 1) := by decide +kernel
theorem d_BG_boxes_1 : decode b_BG_boxes 1 = .ok (.getfield 16, 3) := by decide +kernel
theorem d_BG_boxes_4 : decode b_BG_boxes 4 = .ok (.invokevirtual 27, 3) := by decide +kernel
theorem d_BG_boxes_7 : decode b_BG_boxes 7 = .ok (.ireturn, 1) := by decide +kernel
theorem d_Mod_init_0 : decode b_Mod_init 0 = .ok (.aload_n 0, 1) := by decide +kernel
theorem d_Mod_init_1 : decode b_Mod_init 1 = .ok (.invokespecial 1, 3) := by decide +kernel
theorem d_Mod_init_4 : decode b_Mod_init 4 = .ok (.aload_n 0, 1) := by decide +kernel
theorem d_Mod_init_5 : decode b_Mod_init 5 = .ok (.sipush 340, 3) := by decide +kernel
theorem d_Mod_init_8 : decode b_Mod_init 8 = .ok (.newarray .int, 2) := by decide +kernel
theorem d_Mod_init_10 : decode b_Mod_init 10 = .ok (.putfield 7, 3) := by decide +kernel
theorem d_Mod_init_13 : decode b_Mod_init 13 = .ok (.aload_n 0, 1) := by decide +kernel
theorem d_Mod_init_14 : decode b_Mod_init 14 = .ok (.sipush 340, 3) := by decide +kernel
theorem d_Mod_init_17 : decode b_Mod_init 17 = .ok (.newarray .int, 2) := by decide +kernel
theorem d_Mod_init_19 : decode b_Mod_init 19 = .ok (.putfield 13, 3) := by decide +kernel
theorem d_Mod_init_22 : decode b_Mod_init 22 = .ok (.aload_n 0, 1) := by decide +kernel
theorem d_Mod_init_23 : decode b_Mod_init 23 = .ok (.sipush 340, 3) := by decide +kernel
theorem d_Mod_init_26 : decode b_Mod_init 26 = .ok (.newarray .int, 2) := by decide +kernel
theorem d_Mod_init_28 : decode b_Mod_init 28 = .ok (.putfield 16, 3) := by decide +kernel
theorem d_Mod_init_31 : decode b_Mod_init 31 = .ok (.aload_n 0, 1) := by decide +kernel
theorem d_Mod_init_32 : decode b_Mod_init 32 = .ok (.sipush 340, 3) := by decide +kernel
theorem d_Mod_init_35 : decode b_Mod_init 35 = .ok (.newarray .int, 2) := by decide +kernel
theorem d_Mod_init_37 : decode b_Mod_init 37 = .ok (.putfield 19, 3) := by decide +kernel
theorem d_Mod_init_40 : decode b_Mod_init 40 = .ok (.aload_n 0, 1) := by decide +kernel
theorem d_Mod_init_41 : decode b_Mod_init 41 = .ok (.sipush 340, 3) := by decide +kernel
theorem d_Mod_init_44 : decode b_Mod_init 44 = .ok (.newarray .int, 2) := by decide +kernel
theorem d_Mod_init_46 : decode b_Mod_init 46 = .ok (.putfield 22, 3) := by decide +kernel
theorem d_Mod_init_49 : decode b_Mod_init 49 = .ok (.aload_n 0, 1) := by decide +kernel
theorem d_Mod_init_50 : decode b_Mod_init 50 = .ok (.sipush 340, 3) := by decide +kernel
theorem d_Mod_init_53 : decode b_Mod_init 53 = .ok (.newarray .int, 2) := by decide +kernel
theorem d_Mod_init_55 : decode b_Mod_init 55 = .ok (.putfield 25, 3) := by decide +kernel
theorem d_Mod_init_58 : decode b_Mod_init 58 = .ok (.aload_n 0, 1) := by decide +kernel
theorem d_Mod_init_59 : decode b_Mod_init 59 = .ok (.sipush 340, 3) := by decide +kernel
theorem d_Mod_init_62 : decode b_Mod_init 62 = .ok (.newarray .int, 2) := by decide +kernel
theorem d_Mod_init_64 : decode b_Mod_init 64 = .ok (.putfield 28, 3) := by decide +kernel
theorem d_Mod_init_67 : decode b_Mod_init 67 = .ok (.aload_n 0, 1) := by decide +kernel
theorem d_Mod_init_68 : decode b_Mod_init 68 = .ok (.sipush 340, 3) := by decide +kernel
theorem d_Mod_init_71 : decode b_Mod_init 71 = .ok (.newarray .int, 2) := by decide +kernel
theorem d_Mod_init_73 : decode b_Mod_init 73 = .ok (.putfield 31, 3) := by decide +kernel
theorem d_Mod_init_76 : decode b_Mod_init 76 = .ok (.aload_n 0, 1) := by decide +kernel
theorem d_Mod_init_77 : decode b_Mod_init 77 = .ok (.sipush 340, 3) := by decide +kernel
theorem d_Mod_init_80 : decode b_Mod_init 80 = .ok (.newarray .int, 2) := by decide +kernel
theorem d_Mod_init_82 : decode b_Mod_init 82 = .ok (.putfield 34, 3) := by decide +kernel
theorem d_Mod_init_85 : decode b_Mod_init 85 = .ok (.aload_n 0, 1) := by decide +kernel
theorem d_Mod_init_86 : decode b_Mod_init 86 = .ok (.sipush 340, 3) := by decide +kernel
theorem d_Mod_init_89 : decode b_Mod_init 89 = .ok (.newarray .int, 2) := by decide +kernel
theorem d_Mod_init_91 : decode b_Mod_init 91 = .ok (.putfield 37, 3) := by decide +kernel
theorem d_Mod_init_94 : decode b_Mod_init 94 = .ok (.aload_n 0, 1) := by decide +kernel
theorem d_Mod_init_95 : decode b_Mod_init 95 = .ok (.sipush 340, 3) := by decide +kernel
theorem d_Mod_init_98 : decode b_Mod_init 98 = .ok (.newarray .long, 2) := by decide +kernel
theorem d_Mod_init_100 : decode b_Mod_init 100 = .ok (.putfield 40, 3) := by decide +kernel
theorem d_Mod_init_103 : decode b_Mod_init 103 = .ok (.aload_n 0, 1) := by decide +kernel
theorem d_Mod_init_104 : decode b_Mod_init 104 = .ok (.sipush 340, 3) := by decide +kernel
theorem d_Mod_init_107 : decode b_Mod_init 107 = .ok (.newarray .long, 2) := by decide +kernel
theorem d_Mod_init_109 : decode b_Mod_init 109 = .ok (.putfield 44, 3) := by decide +kernel
theorem d_Mod_init_112 : decode b_Mod_init 112 = .ok (.aload_n 0, 1) := by decide +kernel
theorem d_Mod_init_113 : decode b_Mod_init 113 = .ok (.bipush 60, 2) := by decide +kernel
theorem d_Mod_init_115 : decode b_Mod_init 115 = .ok (.newarray .int, 2) := by decide +kernel
theorem d_Mod_init_117 : decode b_Mod_init 117 = .ok (.putfield 47, 3) := by decide +kernel
theorem d_Mod_init_120 : decode b_Mod_init 120 = .ok (.aload_n 0, 1) := by decide +kernel
theorem d_Mod_init_121 : decode b_Mod_init 121 = .ok (.bipush 60, 2) := by decide +kernel
theorem d_Mod_init_123 : decode b_Mod_init 123 = .ok (.newarray .int, 2) := by decide +kernel
theorem d_Mod_init_125 : decode b_Mod_init 125 = .ok (.putfield 50, 3) := by decide +kernel
theorem d_Mod_init_128 : decode b_Mod_init 128 = .ok (.aload_n 0, 1) := by decide +kernel
theorem d_Mod_init_129 : decode b_Mod_init 129 = .ok (.bipush 60, 2) := by decide +kernel
theorem d_Mod_init_131 : decode b_Mod_init 131 = .ok (.newarray .int, 2) := by decide +kernel
theorem d_Mod_init_133 : decode b_Mod_init 133 = .ok (.putfield 53, 3) := by decide +kernel
theorem d_Mod_init_136 : decode b_Mod_init 136 = .ok (.aload_n 0, 1) := by decide +kernel
theorem d_Mod_init_137 : decode b_Mod_init 137 = .ok (.bipush 60, 2) := by decide +kernel
theorem d_Mod_init_139 : decode b_Mod_init 139 = .ok (.newarray .int, 2) := by decide +kernel
theorem d_Mod_init_141 : decode b_Mod_init 141 = .ok (.putfield 56, 3) := by decide +kernel
theorem d_Mod_init_144 : decode b_Mod_init 144 = .ok (.aload_n 0, 1) := by decide +kernel
theorem d_Mod_init_145 : decode b_Mod_init 145 = .ok (.bipush 60, 2) := by decide +kernel
theorem d_Mod_init_147 : decode b_Mod_init 147 = .ok (.newarray .int, 2) := by decide +kernel
theorem d_Mod_init_149 : decode b_Mod_init 149 = .ok (.putfield 59, 3) := by decide +kernel
theorem d_Mod_init_152 : decode b_Mod_init 152 = .ok (.aload_n 0, 1) := by decide +kernel
theorem d_Mod_init_153 : decode b_Mod_init 153 = .ok (.bipush 60, 2) := by decide +kernel
theorem d_Mod_init_155 : decode b_Mod_init 155 = .ok (.newarray .int, 2) := by decide +kernel
theorem d_Mod_init_157 : decode b_Mod_init 157 = .ok (.putfield 62, 3) := by decide +kernel
theorem d_Mod_init_160 : decode b_Mod_init 160 = .ok (.aload_n 0, 1) := by decide +kernel
theorem d_Mod_init_161 : decode b_Mod_init 161 = .ok (.bipush 60, 2) := by decide +kernel
theorem d_Mod_init_163 : decode b_Mod_init 163 = .ok (.newarray .int, 2) := by decide +kernel
theorem d_Mod_init_165 : decode b_Mod_init 165 = .ok (.putfield 65, 3) := by decide +kernel
theorem d_Mod_init_168 : decode b_Mod_init 168 = .ok (.aload_n 0, 1) := by decide +kernel
theorem d_Mod_init_169 : decode b_Mod_init 169 = .ok (.bipush 60, 2) := by decide +kernel
theorem d_Mod_init_171 : decode b_Mod_init 171 = .ok (.newarray .int, 2) := by decide +kernel
theorem d_Mod_init_173 : decode b_Mod_init 173 = .ok (.putfield 68, 3) := by decide +kernel
theorem d_Mod_init_176 : decode b_Mod_init 176 = .ok (.aload_n 0, 1) := by decide +kernel
theorem d_Mod_init_177 : decode b_Mod_init 177 = .ok (.bipush 60, 2) := by decide +kernel
theorem d_Mod_init_179 : decode b_Mod_init 179 = .ok (.newarray .int, 2) := by decide +kernel
theorem d_Mod_init_181 : decode b_Mod_init 181 = .ok (.putfield 71, 3) := by decide +kernel
theorem d_Mod_init_184 : decode b_Mod_init 184 = .ok (.return_, 1) := by decide +kernel
theorem d_Mod_box_0 : decode b_Mod_box 0 = .ok (.iload_n 1, 1) := by decide +kernel
theorem d_Mod_box_1 : decode b_Mod_box 1 = .ok (.iconst 0, 1) := by decide +kernel
theorem d_Mod_box_2 : decode b_Mod_box 2 = .ok (.ldc 78, 2) := by decide +kernel
theorem d_Mod_box_4 : decode b_Mod_box 4 = .ok (.invokestatic 79, 3) := by decide +kernel
theorem d_Mod_box_7 : decode b_Mod_box 7 = .ok (.ifCond .eq 23, 3) := by decide +kernel
theorem d_Mod_box_10 : decode b_Mod_box 10 = .ok (.iload_n 2, 1) := by decide +kernel
theorem d_Mod_box_11 : decode b_Mod_box 11 = .ok (.iconst 0, 1) := by decide +kernel
theorem d_Mod_box_12 : decode b_Mod_box 12 = .ok (.ldc 78, 2) := by decide +kernel
theorem d_Mod_box_14 : decode b_Mod_box 14 = .ok (.invokestatic 79, 3) := by decide +kernel
theorem d_Mod_box_17 : decode b_Mod_box 17 = .ok (.ifCond .eq 13, 3) := by decide +kernel
theorem d_Mod_box_20 : decode b_Mod_box 20 = .ok (.iload_n 3, 1) := by decide +kernel
theorem d_Mod_box_21 : decode b_Mod_box 21 = .ok (.iconst 0, 1) := by decide +kernel
theorem d_Mod_box_22 : decode b_Mod_box 22 = .ok (.ldc 78, 2) := by decide +kernel
theorem d_Mod_box_24 : decode b_Mod_box 24 = .ok (.invokestatic 79, 3) := by decide +kernel
theorem d_Mod_box_27 : decode b_Mod_box 27 = .ok (.ifCond .ne 5, 3) := by decide +kernel
theorem d_Mod_box_30 : decode b_Mod_box 30 = .ok (.iconst (-1), 1) := by decide +kernel
theorem d_Mod_box_31 : decode b_Mod_box 31 = .ok (.ireturn, 1) := by decide +kernel
theorem d_Mod_box_32 : decode b_Mod_box 32 = .ok (.aload_n 0, 1) := by decide +kernel
theorem d_Mod_box_33 : decode b_Mod_box 33 = .ok (.getfield 74, 3) := by decide +kernel
theorem d_Mod_box_36 : decode b_Mod_box 36 = .ok (.bipush 60, 2) := by decide +kernel
theorem d_Mod_box_38 : decode b_Mod_box 38 = .ok (.if_icmp .ne 6, 3) := by decide +kernel
theorem d_Mod_box_41 : decode b_Mod_box 41 = .ok (.bipush (-2), 2) := by decide +kernel
theorem d_Mod_box_43 : decode b_Mod_box 43 = .ok (.ireturn, 1) := by decide +kernel
theorem d_Mod_box_44 : decode b_Mod_box 44 = .ok (.aload_n 0, 1) := by decide +kernel
theorem d_Mod_box_45 : decode b_Mod_box 45 = .ok (.getfield 47, 3) := by decide +kernel
theorem d_Mod_box_48 : decode b_Mod_box 48 = .ok (.aload_n 0, 1) := by decide +kernel
theorem d_Mod_box_49 : decode b_Mod_box 49 = .ok (.getfield 74, 3) := by decide +kernel
theorem d_Mod_box_52 : decode b_Mod_box 52 = .ok (.iload_n 1, 1) := by decide +kernel
theorem d_Mod_box_53 : decode b_Mod_box 53 = .ok (.iastore, 1) := by decide +kernel
theorem d_Mod_box_54 : decode b_Mod_box 54 = .ok (.aload_n 0, 1) := by decide +kernel
theorem d_Mod_box_55 : decode b_Mod_box 55 = .ok (.getfield 50, 3) := by decide +kernel
theorem d_Mod_box_58 : decode b_Mod_box 58 = .ok (.aload_n 0, 1) := by decide +kernel
theorem d_Mod_box_59 : decode b_Mod_box 59 = .ok (.getfield 74, 3) := by decide +kernel
theorem d_Mod_box_62 : decode b_Mod_box 62 = .ok (.iload_n 2, 1) := by decide +kernel
theorem d_Mod_box_63 : decode b_Mod_box 63 = .ok (.iastore, 1) := by decide +kernel
theorem d_Mod_box_64 : decode b_Mod_box 64 = .ok (.aload_n 0, 1) := by decide +kernel
theorem d_Mod_box_65 : decode b_Mod_box 65 = .ok (.getfield 53, 3) := by decide +kernel
theorem d_Mod_box_68 : decode b_Mod_box 68 = .ok (.aload_n 0, 1) := by decide +kernel
theorem d_Mod_box_69 : decode b_Mod_box 69 = .ok (.getfield 74, 3) := by decide +kernel
theorem d_Mod_box_72 : decode b_Mod_box 72 = .ok (.iload_n 3, 1) := by decide +kernel
theorem d_Mod_box_73 : decode b_Mod_box 73 = .ok (.iastore, 1) := by decide +kernel
theorem d_Mod_box_74 : decode b_Mod_box 74 = .ok (.aload_n 0, 1) := by decide +kernel
theorem d_Mod_box_75 : decode b_Mod_box 75 = .ok (.getfield 56, 3) := by decide +kernel
theorem d_Mod_box_78 : decode b_Mod_box 78 = .ok (.aload_n 0, 1) := by decide +kernel
theorem d_Mod_box_79 : decode b_Mod_box 79 = .ok (.getfield 74, 3) := by decide +kernel
theorem d_Mod_box_82 : decode b_Mod_box 82 = .ok (.bipush 40, 2) := by decide +kernel
theorem d_Mod_box_84 : decode b_Mod_box 84 = .ok (.iastore, 1) := by decide +kernel
theorem d_Mod_box_85 : decode b_Mod_box 85 = .ok (.aload_n 0, 1) := by decide +kernel
theorem d_Mod_box_86 : decode b_Mod_box 86 = .ok (.getfield 59, 3) := by decide +kernel
theorem d_Mod_box_89 : decode b_Mod_box 89 = .ok (.aload_n 0, 1) := by decide +kernel
theorem d_Mod_box_90 : decode b_Mod_box 90 = .ok (.getfield 74, 3) := by decide +kernel
theorem d_Mod_box_93 : decode b_Mod_box 93 = .ok (.iconst 0, 1) := by decide +kernel
theorem d_Mod_box_94 : decode b_Mod_box 94 = .ok (.iastore, 1) := by decide +kernel
theorem d_Mod_box_95 : decode b_Mod_box 95 = .ok (.aload_n 0, 1) := by decide +kernel
theorem d_Mod_box_96 : decode b_Mod_box 96 = .ok (.getfield 68, 3) := by decide +kernel
theorem d_Mod_box_99 : decode b_Mod_box 99 = .ok (.aload_n 0, 1) := by decide +kernel
theorem d_Mod_box_100 : decode b_Mod_box 100 = .ok (.getfield 74, 3) := by decide +kernel
theorem d_Mod_box_103 : decode b_Mod_box 103 = .ok (.iconst (-1), 1) := by decide +kernel
theorem d_Mod_box_104 : decode b_Mod_box 104 = .ok (.iastore, 1) := by decide +kernel
theorem d_Mod_box_105 : decode b_Mod_box 105 = .ok (.aload_n 0, 1) := by decide +kernel
theorem d_Mod_box_106 : decode b_Mod_box 106 = .ok (.dup, 1) := by decide +kernel
theorem d_Mod_box_107 : decode b_Mod_box 107 = .ok (.getfield 74, 3) := by decide +kernel
theorem d_Mod_box_110 : decode b_Mod_box 110 = .ok (.iconst 1, 1) := by decide +kernel
theorem d_Mod_box_111 : decode b_Mod_box 111 = .ok (.iadd, 1) := by decide +kernel
theorem d_Mod_box_112 : decode b_Mod_box 112 = .ok (.putfield 74, 3) := by decide +kernel
theorem d_Mod_box_115 : decode b_Mod_box 115 = .ok (.aload_n 0, 1) := by decide +kernel
theorem d_Mod_box_116 : decode b_Mod_box 116 = .ok (.getfield 74, 3) := by decide +kernel
theorem d_Mod_box_119 : decode b_Mod_box 119 = .ok (.iconst 1, 1) := by decide +kernel
theorem d_Mod_box_120 : decode b_Mod_box 120 = .ok (.isub, 1) := by decide +kernel
theorem d_Mod_box_121 : decode b_Mod_box 121 = .ok (.ireturn, 1) := by decide +kernel
theorem d_Mod_isIn_0 : decode b_Mod_isIn 0 = .ok (.iload_n 0, 1) := by decide +kernel
theorem d_Mod_isIn_1 : decode b_Mod_isIn 1 = .ok (.iload_n 1, 1) := by decide +kernel
theorem d_Mod_isIn_2 : decode b_Mod_isIn 2 = .ok (.if_icmp .lt 12, 3) := by decide +kernel
theorem d_Mod_isIn_5 : decode b_Mod_isIn 5 = .ok (.iload_n 0, 1) := by decide +kernel
theorem d_Mod_isIn_6 : decode b_Mod_isIn 6 = .ok (.iload_n 2, 1) := by decide +kernel
theorem d_Mod_isIn_7 : decode b_Mod_isIn 7 = .ok (.if_icmp .gt 7, 3) := by decide +kernel
theorem d_Mod_isIn_10 : decode b_Mod_isIn 10 = .ok (.iconst 1, 1) := by decide +kernel
theorem d_Mod_isIn_11 : decode b_Mod_isIn 11 = .ok (.goto 4, 3) := by decide +kernel
theorem d_Mod_isIn_14 : decode b_Mod_isIn 14 = .ok (.iconst 0, 1) := by decide +kernel
theorem d_Mod_isIn_15 : decode b_Mod_isIn 15 = .ok (.ireturn, 1) := by decide +kernel
theorem d_Mod_put_0 : decode b_Mod_put 0 = .ok (.aload_n 0, 1) := by decide +kernel
theorem d_Mod_put_1 : decode b_Mod_put 1 = .ok (.iload_n 1, 1) := by decide +kernel
theorem d_Mod_put_2 : decode b_Mod_put 2 = .ok (.invokevirtual 86, 3) := by decide +kernel
theorem d_Mod_put_5 : decode b_Mod_put 5 = .ok (.ifCond .eq 14, 3) := by decide +kernel
theorem d_Mod_put_8 : decode b_Mod_put 8 = .ok (.iload_n 2, 1) := by decide +kernel
theorem d_Mod_put_9 : decode b_Mod_put 9 = .ok (.ldc 90, 2) := by decide +kernel
theorem d_Mod_put_11 : decode b_Mod_put 11 = .ok (.ldc 78, 2) := by decide +kernel
theorem d_Mod_put_13 : decode b_Mod_put 13 = .ok (.invokestatic 79, 3) := by decide +kernel
theorem d_Mod_put_16 : decode b_Mod_put 16 = .ok (.ifCond .ne 5, 3) := by decide +kernel
theorem d_Mod_put_19 : decode b_Mod_put 19 = .ok (.iconst (-1), 1) := by decide +kernel
theorem d_Mod_put_20 : decode b_Mod_put 20 = .ok (.ireturn, 1) := by decide +kernel
theorem d_Mod_put_21 : decode b_Mod_put 21 = .ok (.aload_n 0, 1) := by decide +kernel
theorem d_Mod_put_22 : decode b_Mod_put 22 = .ok (.getfield 83, 3) := by decide +kernel
theorem d_Mod_put_25 : decode b_Mod_put 25 = .ok (.bipush 40, 2) := by decide +kernel
theorem d_Mod_put_27 : decode b_Mod_put 27 = .ok (.if_icmp .ne 6, 3) := by decide +kernel
theorem d_Mod_put_30 : decode b_Mod_put 30 = .ok (.bipush (-2), 2) := by decide +kernel
theorem d_Mod_put_32 : decode b_Mod_put 32 = .ok (.ireturn, 1) := by decide +kernel
theorem d_Mod_put_33 : decode b_Mod_put 33 = .ok (.aload_n 0, 1) := by decide +kernel
theorem d_Mod_put_34 : decode b_Mod_put 34 = .ok (.getfield 16, 3) := by decide +kernel
theorem d_Mod_put_37 : decode b_Mod_put 37 = .ok (.aload_n 0, 1) := by decide +kernel
theorem d_Mod_put_38 : decode b_Mod_put 38 = .ok (.getfield 83, 3) := by decide +kernel
theorem d_Mod_put_41 : decode b_Mod_put 41 = .ok (.iconst 0, 1) := by decide +kernel
theorem d_Mod_put_42 : decode b_Mod_put 42 = .ok (.iastore, 1) := by decide +kernel
theorem d_Mod_put_43 : decode b_Mod_put 43 = .ok (.aload_n 0, 1) := by decide +kernel
theorem d_Mod_put_44 : decode b_Mod_put 44 = .ok (.iconst 1, 1) := by decide +kernel
theorem d_Mod_put_45 : decode b_Mod_put 45 = .ok (.iload_n 1, 1) := by decide +kernel
theorem d_Mod_put_46 : decode b_Mod_put 46 = .ok (.invokevirtual 91, 3) := by decide +kernel
theorem d_Mod_put_49 : decode b_Mod_put 49 = .ok (.pop, 1) := by decide +kernel
theorem d_Mod_put_50 : decode b_Mod_put 50 = .ok (.aload_n 0, 1) := by decide +kernel
theorem d_Mod_put_51 : decode b_Mod_put 51 = .ok (.getfield 16, 3) := by decide +kernel
theorem d_Mod_put_54 : decode b_Mod_put 54 = .ok (.aload_n 0, 1) := by decide +kernel
theorem d_Mod_put_55 : decode b_Mod_put 55 = .ok (.getfield 83, 3) := by decide +kernel
theorem d_Mod_put_58 : decode b_Mod_put 58 = .ok (.iconst 1, 1) := by decide +kernel
theorem d_Mod_put_59 : decode b_Mod_put 59 = .ok (.isub, 1) := by decide +kernel
theorem d_Mod_put_60 : decode b_Mod_put 60 = .ok (.iload_n 2, 1) := by decide +kernel
theorem d_Mod_put_61 : decode b_Mod_put 61 = .ok (.iastore, 1) := by decide +kernel
theorem d_Mod_put_62 : decode b_Mod_put 62 = .ok (.aload_n 0, 1) := by decide +kernel
theorem d_Mod_put_63 : decode b_Mod_put 63 = .ok (.getfield 83, 3) := by decide +kernel
theorem d_Mod_put_66 : decode b_Mod_put 66 = .ok (.ireturn, 1) := by decide +kernel
theorem d_Mod_isBox_0 : decode b_Mod_isBox 0 = .ok (.iload_n 1, 1) := by decide +kernel
theorem d_Mod_isBox_1 : decode b_Mod_isBox 1 = .ok (.ifCond .lt 15, 3) := by decide +kernel
theorem d_Mod_isBox_4 : decode b_Mod_isBox 4 = .ok (.iload_n 1, 1) := by decide +kernel
theorem d_Mod_isBox_5 : decode b_Mod_isBox 5 = .ok (.aload_n 0, 1) := by decide +kernel
theorem d_Mod_isBox_6 : decode b_Mod_isBox 6 = .ok (.getfield 74, 3) := by decide +kernel
theorem d_Mod_isBox_9 : decode b_Mod_isBox 9 = .ok (.if_icmp .ge 7, 3) := by decide +kernel
theorem d_Mod_isBox_12 : decode b_Mod_isBox 12 = .ok (.iconst 1, 1) := by decide +kernel
theorem d_Mod_isBox_13 : decode b_Mod_isBox 13 = .ok (.goto 4, 3) := by decide +kernel
theorem d_Mod_isBox_16 : decode b_Mod_isBox 16 = .ok (.iconst 0, 1) := by decide +kernel
theorem d_Mod_isBox_17 : decode b_Mod_isBox 17 = .ok (.ireturn, 1) := by decide +kernel
theorem d_Mod_more_0 : decode b_Mod_more 0 = .ok (.aload_n 0, 1) := by decide +kernel
theorem d_Mod_more_1 : decode b_Mod_more 1 = .ok (.getfield 7, 3) := by decide +kernel
theorem d_Mod_more_4 : decode b_Mod_more 4 = .ok (.aload_n 0, 1) := by decide +kernel
theorem d_Mod_more_5 : decode b_Mod_more 5 = .ok (.getfield 83, 3) := by decide +kernel
theorem d_Mod_more_8 : decode b_Mod_more 8 = .ok (.iload_n 1, 1) := by decide +kernel
theorem d_Mod_more_9 : decode b_Mod_more 9 = .ok (.iastore, 1) := by decide +kernel
theorem d_Mod_more_10 : decode b_Mod_more 10 = .ok (.aload_n 0, 1) := by decide +kernel
theorem d_Mod_more_11 : decode b_Mod_more 11 = .ok (.getfield 13, 3) := by decide +kernel
theorem d_Mod_more_14 : decode b_Mod_more 14 = .ok (.aload_n 0, 1) := by decide +kernel
theorem d_Mod_more_15 : decode b_Mod_more 15 = .ok (.getfield 83, 3) := by decide +kernel
theorem d_Mod_more_18 : decode b_Mod_more 18 = .ok (.iload_n 2, 1) := by decide +kernel
theorem d_Mod_more_19 : decode b_Mod_more 19 = .ok (.iastore, 1) := by decide +kernel
theorem d_Mod_more_20 : decode b_Mod_more 20 = .ok (.aload_n 0, 1) := by decide +kernel
theorem d_Mod_more_21 : decode b_Mod_more 21 = .ok (.getfield 16, 3) := by decide +kernel
theorem d_Mod_more_24 : decode b_Mod_more 24 = .ok (.aload_n 0, 1) := by decide +kernel
theorem d_Mod_more_25 : decode b_Mod_more 25 = .ok (.getfield 83, 3) := by decide +kernel
theorem d_Mod_more_28 : decode b_Mod_more 28 = .ok (.iconst 0, 1) := by decide +kernel
theorem d_Mod_more_29 : decode b_Mod_more 29 = .ok (.iastore, 1) := by decide +kernel
theorem d_Mod_more_30 : decode b_Mod_more 30 = .ok (.aload_n 0, 1) := by decide +kernel
theorem d_Mod_more_31 : decode b_Mod_more 31 = .ok (.getfield 19, 3) := by decide +kernel
theorem d_Mod_more_34 : decode b_Mod_more 34 = .ok (.aload_n 0, 1) := by decide +kernel
theorem d_Mod_more_35 : decode b_Mod_more 35 = .ok (.getfield 83, 3) := by decide +kernel
theorem d_Mod_more_38 : decode b_Mod_more 38 = .ok (.iconst 0, 1) := by decide +kernel
theorem d_Mod_more_39 : decode b_Mod_more 39 = .ok (.iastore, 1) := by decide +kernel
theorem d_Mod_more_40 : decode b_Mod_more 40 = .ok (.aload_n 0, 1) := by decide +kernel
theorem d_Mod_more_41 : decode b_Mod_more 41 = .ok (.getfield 22, 3) := by decide +kernel
theorem d_Mod_more_44 : decode b_Mod_more 44 = .ok (.aload_n 0, 1) := by decide +kernel
theorem d_Mod_more_45 : decode b_Mod_more 45 = .ok (.getfield 83, 3) := by decide +kernel
theorem d_Mod_more_48 : decode b_Mod_more 48 = .ok (.iconst 0, 1) := by decide +kernel
theorem d_Mod_more_49 : decode b_Mod_more 49 = .ok (.iastore, 1) := by decide +kernel
theorem d_Mod_more_50 : decode b_Mod_more 50 = .ok (.aload_n 0, 1) := by decide +kernel
theorem d_Mod_more_51 : decode b_Mod_more 51 = .ok (.getfield 25, 3) := by decide +kernel
theorem d_Mod_more_54 : decode b_Mod_more 54 = .ok (.aload_n 0, 1) := by decide +kernel
theorem d_Mod_more_55 : decode b_Mod_more 55 = .ok (.getfield 83, 3) := by decide +kernel
theorem d_Mod_more_58 : decode b_Mod_more 58 = .ok (.iconst 0, 1) := by decide +kernel
theorem d_Mod_more_59 : decode b_Mod_more 59 = .ok (.iastore, 1) := by decide +kernel
theorem d_Mod_more_60 : decode b_Mod_more 60 = .ok (.aload_n 0, 1) := by decide +kernel
theorem d_Mod_more_61 : decode b_Mod_more 61 = .ok (.getfield 28, 3) := by decide +kernel
theorem d_Mod_more_64 : decode b_Mod_more 64 = .ok (.aload_n 0, 1) := by decide +kernel
theorem d_Mod_more_65 : decode b_Mod_more 65 = .ok (.getfield 83, 3) := by decide +kernel
theorem d_Mod_more_68 : decode b_Mod_more 68 = .ok (.iconst 0, 1) := by decide +kernel
theorem d_Mod_more_69 : decode b_Mod_more 69 = .ok (.iastore, 1) := by decide +kernel
theorem d_Mod_more_70 : decode b_Mod_more 70 = .ok (.aload_n 0, 1) := by decide +kernel
theorem d_Mod_more_71 : decode b_Mod_more 71 = .ok (.getfield 31, 3) := by decide +kernel
theorem d_Mod_more_74 : decode b_Mod_more 74 = .ok (.aload_n 0, 1) := by decide +kernel
theorem d_Mod_more_75 : decode b_Mod_more 75 = .ok (.getfield 83, 3) := by decide +kernel
theorem d_Mod_more_78 : decode b_Mod_more 78 = .ok (.iconst 0, 1) := by decide +kernel
theorem d_Mod_more_79 : decode b_Mod_more 79 = .ok (.iastore, 1) := by decide +kernel
theorem d_Mod_more_80 : decode b_Mod_more 80 = .ok (.aload_n 0, 1) := by decide +kernel
theorem d_Mod_more_81 : decode b_Mod_more 81 = .ok (.getfield 34, 3) := by decide +kernel
theorem d_Mod_more_84 : decode b_Mod_more 84 = .ok (.aload_n 0, 1) := by decide +kernel
theorem d_Mod_more_85 : decode b_Mod_more 85 = .ok (.getfield 83, 3) := by decide +kernel
theorem d_Mod_more_88 : decode b_Mod_more 88 = .ok (.iconst 0, 1) := by decide +kernel
theorem d_Mod_more_89 : decode b_Mod_more 89 = .ok (.iastore, 1) := by decide +kernel
theorem d_Mod_more_90 : decode b_Mod_more 90 = .ok (.aload_n 0, 1) := by decide +kernel
theorem d_Mod_more_91 : decode b_Mod_more 91 = .ok (.getfield 37, 3) := by decide +kernel
theorem d_Mod_more_94 : decode b_Mod_more 94 = .ok (.aload_n 0, 1) := by decide +kernel
theorem d_Mod_more_95 : decode b_Mod_more 95 = .ok (.getfield 83, 3) := by decide +kernel
theorem d_Mod_more_98 : decode b_Mod_more 98 = .ok (.iconst 0, 1) := by decide +kernel
end
section
theorem d_Mod_more_99 : decode b_Mod_more 99 = .ok (.iastore, 1) := by decide +kernel
theorem d_Mod_more_100 : decode b_Mod_more 100 = .ok (.aload_n 0, 1) := by decide +kernel
theorem d_Mod_more_101 : decode b_Mod_more 101 = .ok (.dup, 1) := by decide +kernel
theorem d_Mod_more_102 : decode b_Mod_more 102 = .ok (.getfield 83, 3) := by decide +kernel
theorem d_Mod_more_105 : decode b_Mod_more 105 = .ok (.iconst 1, 1) := by decide +kernel
theorem d_Mod_more_106 : decode b_Mod_more 106 = .ok (.iadd, 1) := by decide +kernel
theorem d_Mod_more_107 : decode b_Mod_more 107 = .ok (.putfield 83, 3) := by decide +kernel
theorem d_Mod_more_110 : decode b_Mod_more 110 = .ok (.aload_n 0, 1) := by decide +kernel
theorem d_Mod_more_111 : decode b_Mod_more 111 = .ok (.getfield 83, 3) := by decide +kernel
theorem d_Mod_more_114 : decode b_Mod_more 114 = .ok (.ireturn, 1) := by decide +kernel
theorem d_Mod_glue_0 : decode b_Mod_glue 0 = .ok (.iload_n 1, 1) := by decide +kernel
theorem d_Mod_glue_1 : decode b_Mod_glue 1 = .ok (.ldc 90, 2) := by decide +kernel
theorem d_Mod_glue_3 : decode b_Mod_glue 3 = .ok (.ldc 78, 2) := by decide +kernel
theorem d_Mod_glue_5 : decode b_Mod_glue 5 = .ok (.invokestatic 79, 3) := by decide +kernel
theorem d_Mod_glue_8 : decode b_Mod_glue 8 = .ok (.ifCond .eq 45, 3) := by decide +kernel
theorem d_Mod_glue_11 : decode b_Mod_glue 11 = .ok (.iload_n 2, 1) := by decide +kernel
theorem d_Mod_glue_12 : decode b_Mod_glue 12 = .ok (.iconst 0, 1) := by decide +kernel
theorem d_Mod_glue_13 : decode b_Mod_glue 13 = .ok (.sipush 1000, 3) := by decide +kernel
theorem d_Mod_glue_16 : decode b_Mod_glue 16 = .ok (.invokestatic 79, 3) := by decide +kernel
theorem d_Mod_glue_19 : decode b_Mod_glue 19 = .ok (.ifCond .eq 34, 3) := by decide +kernel
theorem d_Mod_glue_22 : decode b_Mod_glue 22 = .ok (.iload_n 3, 1) := by decide +kernel
theorem d_Mod_glue_23 : decode b_Mod_glue 23 = .ok (.iconst 0, 1) := by decide +kernel
theorem d_Mod_glue_24 : decode b_Mod_glue 24 = .ok (.iconst 3, 1) := by decide +kernel
theorem d_Mod_glue_25 : decode b_Mod_glue 25 = .ok (.invokestatic 79, 3) := by decide +kernel
theorem d_Mod_glue_28 : decode b_Mod_glue 28 = .ok (.ifCond .eq 25, 3) := by decide +kernel
theorem d_Mod_glue_31 : decode b_Mod_glue 31 = .ok (.iload 4, 2) := by decide +kernel
theorem d_Mod_glue_33 : decode b_Mod_glue 33 = .ok (.iconst 0, 1) := by decide +kernel
theorem d_Mod_glue_34 : decode b_Mod_glue 34 = .ok (.sipush 1000, 3) := by decide +kernel
theorem d_Mod_glue_37 : decode b_Mod_glue 37 = .ok (.invokestatic 79, 3) := by decide +kernel
theorem d_Mod_glue_40 : decode b_Mod_glue 40 = .ok (.ifCond .eq 13, 3) := by decide +kernel
theorem d_Mod_glue_43 : decode b_Mod_glue 43 = .ok (.iload 5, 2) := by decide +kernel
theorem d_Mod_glue_45 : decode b_Mod_glue 45 = .ok (.iconst 0, 1) := by decide +kernel
theorem d_Mod_glue_46 : decode b_Mod_glue 46 = .ok (.iconst 3, 1) := by decide +kernel
theorem d_Mod_glue_47 : decode b_Mod_glue 47 = .ok (.invokestatic 79, 3) := by decide +kernel
theorem d_Mod_glue_50 : decode b_Mod_glue 50 = .ok (.ifCond .ne 5, 3) := by decide +kernel
theorem d_Mod_glue_53 : decode b_Mod_glue 53 = .ok (.iconst (-1), 1) := by decide +kernel
theorem d_Mod_glue_54 : decode b_Mod_glue 54 = .ok (.ireturn, 1) := by decide +kernel
theorem d_Mod_glue_55 : decode b_Mod_glue 55 = .ok (.aload_n 0, 1) := by decide +kernel
theorem d_Mod_glue_56 : decode b_Mod_glue 56 = .ok (.getfield 83, 3) := by decide +kernel
theorem d_Mod_glue_59 : decode b_Mod_glue 59 = .ok (.bipush 40, 2) := by decide +kernel
theorem d_Mod_glue_61 : decode b_Mod_glue 61 = .ok (.if_icmp .ne 6, 3) := by decide +kernel
theorem d_Mod_glue_64 : decode b_Mod_glue 64 = .ok (.bipush (-2), 2) := by decide +kernel
theorem d_Mod_glue_66 : decode b_Mod_glue 66 = .ok (.ireturn, 1) := by decide +kernel
theorem d_Mod_glue_67 : decode b_Mod_glue 67 = .ok (.aload_n 0, 1) := by decide +kernel
theorem d_Mod_glue_68 : decode b_Mod_glue 68 = .ok (.iconst 2, 1) := by decide +kernel
theorem d_Mod_glue_69 : decode b_Mod_glue 69 = .ok (.iload_n 1, 1) := by decide +kernel
theorem d_Mod_glue_70 : decode b_Mod_glue 70 = .ok (.invokevirtual 91, 3) := by decide +kernel
theorem d_Mod_glue_73 : decode b_Mod_glue 73 = .ok (.pop, 1) := by decide +kernel
theorem d_Mod_glue_74 : decode b_Mod_glue 74 = .ok (.aload_n 0, 1) := by decide +kernel
theorem d_Mod_glue_75 : decode b_Mod_glue 75 = .ok (.getfield 22, 3) := by decide +kernel
theorem d_Mod_glue_78 : decode b_Mod_glue 78 = .ok (.aload_n 0, 1) := by decide +kernel
theorem d_Mod_glue_79 : decode b_Mod_glue 79 = .ok (.getfield 83, 3) := by decide +kernel
theorem d_Mod_glue_82 : decode b_Mod_glue 82 = .ok (.iconst 1, 1) := by decide +kernel
theorem d_Mod_glue_83 : decode b_Mod_glue 83 = .ok (.isub, 1) := by decide +kernel
theorem d_Mod_glue_84 : decode b_Mod_glue 84 = .ok (.iload_n 2, 1) := by decide +kernel
theorem d_Mod_glue_85 : decode b_Mod_glue 85 = .ok (.iastore, 1) := by decide +kernel
theorem d_Mod_glue_86 : decode b_Mod_glue 86 = .ok (.aload_n 0, 1) := by decide +kernel
theorem d_Mod_glue_87 : decode b_Mod_glue 87 = .ok (.getfield 25, 3) := by decide +kernel
theorem d_Mod_glue_90 : decode b_Mod_glue 90 = .ok (.aload_n 0, 1) := by decide +kernel
theorem d_Mod_glue_91 : decode b_Mod_glue 91 = .ok (.getfield 83, 3) := by decide +kernel
theorem d_Mod_glue_94 : decode b_Mod_glue 94 = .ok (.iconst 1, 1) := by decide +kernel
theorem d_Mod_glue_95 : decode b_Mod_glue 95 = .ok (.isub, 1) := by decide +kernel
theorem d_Mod_glue_96 : decode b_Mod_glue 96 = .ok (.iload_n 3, 1) := by decide +kernel
theorem d_Mod_glue_97 : decode b_Mod_glue 97 = .ok (.iastore, 1) := by decide +kernel
theorem d_Mod_glue_98 : decode b_Mod_glue 98 = .ok (.aload_n 0, 1) := by decide +kernel
theorem d_Mod_glue_99 : decode b_Mod_glue 99 = .ok (.getfield 28, 3) := by decide +kernel
theorem d_Mod_glue_102 : decode b_Mod_glue 102 = .ok (.aload_n 0, 1) := by decide +kernel
theorem d_Mod_glue_103 : decode b_Mod_glue 103 = .ok (.getfield 83, 3) := by decide +kernel
theorem d_Mod_glue_106 : decode b_Mod_glue 106 = .ok (.iconst 1, 1) := by decide +kernel
theorem d_Mod_glue_107 : decode b_Mod_glue 107 = .ok (.isub, 1) := by decide +kernel
theorem d_Mod_glue_108 : decode b_Mod_glue 108 = .ok (.iload 4, 2) := by decide +kernel
theorem d_Mod_glue_110 : decode b_Mod_glue 110 = .ok (.iastore, 1) := by decide +kernel
theorem d_Mod_glue_111 : decode b_Mod_glue 111 = .ok (.aload_n 0, 1) := by decide +kernel
theorem d_Mod_glue_112 : decode b_Mod_glue 112 = .ok (.getfield 31, 3) := by decide +kernel
theorem d_Mod_glue_115 : decode b_Mod_glue 115 = .ok (.aload_n 0, 1) := by decide +kernel
theorem d_Mod_glue_116 : decode b_Mod_glue 116 = .ok (.getfield 83, 3) := by decide +kernel
theorem d_Mod_glue_119 : decode b_Mod_glue 119 = .ok (.iconst 1, 1) := by decide +kernel
theorem d_Mod_glue_120 : decode b_Mod_glue 120 = .ok (.isub, 1) := by decide +kernel
theorem d_Mod_glue_121 : decode b_Mod_glue 121 = .ok (.iload 5, 2) := by decide +kernel
theorem d_Mod_glue_123 : decode b_Mod_glue 123 = .ok (.iastore, 1) := by decide +kernel
theorem d_Mod_glue_124 : decode b_Mod_glue 124 = .ok (.aload_n 0, 1) := by decide +kernel
theorem d_Mod_glue_125 : decode b_Mod_glue 125 = .ok (.getfield 83, 3) := by decide +kernel
theorem d_Mod_glue_128 : decode b_Mod_glue 128 = .ok (.ireturn, 1) := by decide +kernel
theorem d_Mod_kern_0 : decode b_Mod_kern 0 = .ok (.iload_n 1, 1) := by decide +kernel
theorem d_Mod_kern_1 : decode b_Mod_kern 1 = .ok (.ldc 90, 2) := by decide +kernel
theorem d_Mod_kern_3 : decode b_Mod_kern 3 = .ok (.ldc 78, 2) := by decide +kernel
theorem d_Mod_kern_5 : decode b_Mod_kern 5 = .ok (.invokestatic 79, 3) := by decide +kernel
theorem d_Mod_kern_8 : decode b_Mod_kern 8 = .ok (.ifCond .ne 5, 3) := by decide +kernel
theorem d_Mod_kern_11 : decode b_Mod_kern 11 = .ok (.iconst (-1), 1) := by decide +kernel
theorem d_Mod_kern_12 : decode b_Mod_kern 12 = .ok (.ireturn, 1) := by decide +kernel
theorem d_Mod_kern_13 : decode b_Mod_kern 13 = .ok (.aload_n 0, 1) := by decide +kernel
theorem d_Mod_kern_14 : decode b_Mod_kern 14 = .ok (.getfield 83, 3) := by decide +kernel
theorem d_Mod_kern_17 : decode b_Mod_kern 17 = .ok (.bipush 40, 2) := by decide +kernel
theorem d_Mod_kern_19 : decode b_Mod_kern 19 = .ok (.if_icmp .ne 8, 3) := by decide +kernel
theorem d_Mod_kern_22 : decode b_Mod_kern 22 = .ok (.bipush (-2), 2) := by decide +kernel
theorem d_Mod_kern_24 : decode b_Mod_kern 24 = .ok (.goto 9, 3) := by decide +kernel
theorem d_Mod_kern_27 : decode b_Mod_kern 27 = .ok (.aload_n 0, 1) := by decide +kernel
theorem d_Mod_kern_28 : decode b_Mod_kern 28 = .ok (.iconst 3, 1) := by decide +kernel
theorem d_Mod_kern_29 : decode b_Mod_kern 29 = .ok (.iload_n 1, 1) := by decide +kernel
theorem d_Mod_kern_30 : decode b_Mod_kern 30 = .ok (.invokevirtual 91, 3) := by decide +kernel
theorem d_Mod_kern_33 : decode b_Mod_kern 33 = .ok (.ireturn, 1) := by decide +kernel
theorem d_Mod_rule_0 : decode b_Mod_rule 0 = .ok (.iload_n 1, 1) := by decide +kernel
theorem d_Mod_rule_1 : decode b_Mod_rule 1 = .ok (.iconst 0, 1) := by decide +kernel
theorem d_Mod_rule_2 : decode b_Mod_rule 2 = .ok (.ldc 78, 2) := by decide +kernel
theorem d_Mod_rule_4 : decode b_Mod_rule 4 = .ok (.invokestatic 79, 3) := by decide +kernel
theorem d_Mod_rule_7 : decode b_Mod_rule 7 = .ok (.ifCond .eq 39, 3) := by decide +kernel
theorem d_Mod_rule_10 : decode b_Mod_rule 10 = .ok (.iload_n 2, 1) := by decide +kernel
theorem d_Mod_rule_11 : decode b_Mod_rule 11 = .ok (.ldc 95, 2) := by decide +kernel
theorem d_Mod_rule_13 : decode b_Mod_rule 13 = .ok (.if_icmp .eq 13, 3) := by decide +kernel
theorem d_Mod_rule_16 : decode b_Mod_rule 16 = .ok (.iload_n 2, 1) := by decide +kernel
theorem d_Mod_rule_17 : decode b_Mod_rule 17 = .ok (.iconst 0, 1) := by decide +kernel
theorem d_Mod_rule_18 : decode b_Mod_rule 18 = .ok (.ldc 78, 2) := by decide +kernel
theorem d_Mod_rule_20 : decode b_Mod_rule 20 = .ok (.invokestatic 79, 3) := by decide +kernel
theorem d_Mod_rule_23 : decode b_Mod_rule 23 = .ok (.ifCond .eq 23, 3) := by decide +kernel
theorem d_Mod_rule_26 : decode b_Mod_rule 26 = .ok (.iload_n 3, 1) := by decide +kernel
theorem d_Mod_rule_27 : decode b_Mod_rule 27 = .ok (.ldc 95, 2) := by decide +kernel
theorem d_Mod_rule_29 : decode b_Mod_rule 29 = .ok (.if_icmp .eq 13, 3) := by decide +kernel
theorem d_Mod_rule_32 : decode b_Mod_rule 32 = .ok (.iload_n 3, 1) := by decide +kernel
theorem d_Mod_rule_33 : decode b_Mod_rule 33 = .ok (.iconst 0, 1) := by decide +kernel
theorem d_Mod_rule_34 : decode b_Mod_rule 34 = .ok (.ldc 78, 2) := by decide +kernel
theorem d_Mod_rule_36 : decode b_Mod_rule 36 = .ok (.invokestatic 79, 3) := by decide +kernel
theorem d_Mod_rule_39 : decode b_Mod_rule 39 = .ok (.ifCond .eq 7, 3) := by decide +kernel
theorem d_Mod_rule_42 : decode b_Mod_rule 42 = .ok (.iconst 1, 1) := by decide +kernel
theorem d_Mod_rule_43 : decode b_Mod_rule 43 = .ok (.goto 4, 3) := by decide +kernel
theorem d_Mod_rule_46 : decode b_Mod_rule 46 = .ok (.iconst 0, 1) := by decide +kernel
theorem d_Mod_rule_47 : decode b_Mod_rule 47 = .ok (.istore 4, 2) := by decide +kernel
theorem d_Mod_rule_49 : decode b_Mod_rule 49 = .ok (.iload 4, 2) := by decide +kernel
theorem d_Mod_rule_51 : decode b_Mod_rule 51 = .ok (.ifCond .ne 5, 3) := by decide +kernel
theorem d_Mod_rule_54 : decode b_Mod_rule 54 = .ok (.iconst (-1), 1) := by decide +kernel
theorem d_Mod_rule_55 : decode b_Mod_rule 55 = .ok (.ireturn, 1) := by decide +kernel
theorem d_Mod_rule_56 : decode b_Mod_rule 56 = .ok (.aload_n 0, 1) := by decide +kernel
theorem d_Mod_rule_57 : decode b_Mod_rule 57 = .ok (.getfield 83, 3) := by decide +kernel
theorem d_Mod_rule_60 : decode b_Mod_rule 60 = .ok (.bipush 40, 2) := by decide +kernel
theorem d_Mod_rule_62 : decode b_Mod_rule 62 = .ok (.if_icmp .ne 6, 3) := by decide +kernel
theorem d_Mod_rule_65 : decode b_Mod_rule 65 = .ok (.bipush (-2), 2) := by decide +kernel
theorem d_Mod_rule_67 : decode b_Mod_rule 67 = .ok (.ireturn, 1) := by decide +kernel
theorem d_Mod_rule_68 : decode b_Mod_rule 68 = .ok (.aload_n 0, 1) := by decide +kernel
theorem d_Mod_rule_69 : decode b_Mod_rule 69 = .ok (.iconst 4, 1) := by decide +kernel
theorem d_Mod_rule_70 : decode b_Mod_rule 70 = .ok (.iload_n 1, 1) := by decide +kernel
theorem d_Mod_rule_71 : decode b_Mod_rule 71 = .ok (.invokevirtual 91, 3) := by decide +kernel
theorem d_Mod_rule_74 : decode b_Mod_rule 74 = .ok (.pop, 1) := by decide +kernel
theorem d_Mod_rule_75 : decode b_Mod_rule 75 = .ok (.aload_n 0, 1) := by decide +kernel
theorem d_Mod_rule_76 : decode b_Mod_rule 76 = .ok (.getfield 16, 3) := by decide +kernel
theorem d_Mod_rule_79 : decode b_Mod_rule 79 = .ok (.aload_n 0, 1) := by decide +kernel
theorem d_Mod_rule_80 : decode b_Mod_rule 80 = .ok (.getfield 83, 3) := by decide +kernel
theorem d_Mod_rule_83 : decode b_Mod_rule 83 = .ok (.iconst 1, 1) := by decide +kernel
theorem d_Mod_rule_84 : decode b_Mod_rule 84 = .ok (.isub, 1) := by decide +kernel
theorem d_Mod_rule_85 : decode b_Mod_rule 85 = .ok (.iload_n 2, 1) := by decide +kernel
theorem d_Mod_rule_86 : decode b_Mod_rule 86 = .ok (.iastore, 1) := by decide +kernel
theorem d_Mod_rule_87 : decode b_Mod_rule 87 = .ok (.aload_n 0, 1) := by decide +kernel
theorem d_Mod_rule_88 : decode b_Mod_rule 88 = .ok (.getfield 19, 3) := by decide +kernel
theorem d_Mod_rule_91 : decode b_Mod_rule 91 = .ok (.aload_n 0, 1) := by decide +kernel
theorem d_Mod_rule_92 : decode b_Mod_rule 92 = .ok (.getfield 83, 3) := by decide +kernel
theorem d_Mod_rule_95 : decode b_Mod_rule 95 = .ok (.iconst 1, 1) := by decide +kernel
theorem d_Mod_rule_96 : decode b_Mod_rule 96 = .ok (.isub, 1) := by decide +kernel
theorem d_Mod_rule_97 : decode b_Mod_rule 97 = .ok (.iload_n 3, 1) := by decide +kernel
theorem d_Mod_rule_98 : decode b_Mod_rule 98 = .ok (.iastore, 1) := by decide +kernel
theorem d_Mod_rule_99 : decode b_Mod_rule 99 = .ok (.aload_n 0, 1) := by decide +kernel
theorem d_Mod_rule_100 : decode b_Mod_rule 100 = .ok (.getfield 83, 3) := by decide +kernel
theorem d_Mod_rule_103 : decode b_Mod_rule 103 = .ok (.ireturn, 1) := by decide +kernel
theorem d_Mod_leaders_0 : decode b_Mod_leaders 0 = .ok (.iload_n 1, 1) := by decide +kernel
theorem d_Mod_leaders_1 : decode b_Mod_leaders 1 = .ok (.iconst 1, 1) := by decide +kernel
theorem d_Mod_leaders_2 : decode b_Mod_leaders 2 = .ok (.iconst 3, 1) := by decide +kernel
theorem d_Mod_leaders_3 : decode b_Mod_leaders 3 = .ok (.invokestatic 79, 3) := by decide +kernel
theorem d_Mod_leaders_6 : decode b_Mod_leaders 6 = .ok (.ifCond .eq 11, 3) := by decide +kernel
theorem d_Mod_leaders_9 : decode b_Mod_leaders 9 = .ok (.aload_n 0, 1) := by decide +kernel
theorem d_Mod_leaders_10 : decode b_Mod_leaders 10 = .ok (.iload_n 2, 1) := by decide +kernel
theorem d_Mod_leaders_11 : decode b_Mod_leaders 11 = .ok (.invokevirtual 86, 3) := by decide +kernel
theorem d_Mod_leaders_14 : decode b_Mod_leaders 14 = .ok (.ifCond .ne 5, 3) := by decide +kernel
theorem d_Mod_leaders_17 : decode b_Mod_leaders 17 = .ok (.iconst (-1), 1) := by decide +kernel
theorem d_Mod_leaders_18 : decode b_Mod_leaders 18 = .ok (.ireturn, 1) := by decide +kernel
theorem d_Mod_leaders_19 : decode b_Mod_leaders 19 = .ok (.aload_n 0, 1) := by decide +kernel
theorem d_Mod_leaders_20 : decode b_Mod_leaders 20 = .ok (.getfield 83, 3) := by decide +kernel
theorem d_Mod_leaders_23 : decode b_Mod_leaders 23 = .ok (.ifCond .eq 18, 3) := by decide +kernel
theorem d_Mod_leaders_26 : decode b_Mod_leaders 26 = .ok (.aload_n 0, 1) := by decide +kernel
theorem d_Mod_leaders_27 : decode b_Mod_leaders 27 = .ok (.getfield 7, 3) := by decide +kernel
theorem d_Mod_leaders_30 : decode b_Mod_leaders 30 = .ok (.aload_n 0, 1) := by decide +kernel
theorem d_Mod_leaders_31 : decode b_Mod_leaders 31 = .ok (.getfield 83, 3) := by decide +kernel
theorem d_Mod_leaders_34 : decode b_Mod_leaders 34 = .ok (.iconst 1, 1) := by decide +kernel
theorem d_Mod_leaders_35 : decode b_Mod_leaders 35 = .ok (.isub, 1) := by decide +kernel
theorem d_Mod_leaders_36 : decode b_Mod_leaders 36 = .ok (.iaload, 1) := by decide +kernel
theorem d_Mod_leaders_37 : decode b_Mod_leaders 37 = .ok (.iconst 2, 1) := by decide +kernel
theorem d_Mod_leaders_38 : decode b_Mod_leaders 38 = .ok (.if_icmp .eq 6, 3) := by decide +kernel
theorem d_Mod_leaders_41 : decode b_Mod_leaders 41 = .ok (.bipush (-3), 2) := by decide +kernel
theorem d_Mod_leaders_43 : decode b_Mod_leaders 43 = .ok (.ireturn, 1) := by decide +kernel
theorem d_Mod_leaders_44 : decode b_Mod_leaders 44 = .ok (.aload_n 0, 1) := by decide +kernel
theorem d_Mod_leaders_45 : decode b_Mod_leaders 45 = .ok (.getfield 34, 3) := by decide +kernel
theorem d_Mod_leaders_48 : decode b_Mod_leaders 48 = .ok (.aload_n 0, 1) := by decide +kernel
theorem d_Mod_leaders_49 : decode b_Mod_leaders 49 = .ok (.getfield 83, 3) := by decide +kernel
theorem d_Mod_leaders_52 : decode b_Mod_leaders 52 = .ok (.iconst 1, 1) := by decide +kernel
theorem d_Mod_leaders_53 : decode b_Mod_leaders 53 = .ok (.isub, 1) := by decide +kernel
theorem d_Mod_leaders_54 : decode b_Mod_leaders 54 = .ok (.iload_n 1, 1) := by decide +kernel
theorem d_Mod_leaders_55 : decode b_Mod_leaders 55 = .ok (.iastore, 1) := by decide +kernel
theorem d_Mod_leaders_56 : decode b_Mod_leaders 56 = .ok (.aload_n 0, 1) := by decide +kernel
theorem d_Mod_leaders_57 : decode b_Mod_leaders 57 = .ok (.getfield 37, 3) := by decide +kernel
theorem d_Mod_leaders_60 : decode b_Mod_leaders 60 = .ok (.aload_n 0, 1) := by decide +kernel
theorem d_Mod_leaders_61 : decode b_Mod_leaders 61 = .ok (.getfield 83, 3) := by decide +kernel
theorem d_Mod_leaders_64 : decode b_Mod_leaders 64 = .ok (.iconst 1, 1) := by decide +kernel
theorem d_Mod_leaders_65 : decode b_Mod_leaders 65 = .ok (.isub, 1) := by decide +kernel
theorem d_Mod_leaders_66 : decode b_Mod_leaders 66 = .ok (.iload_n 2, 1) := by decide +kernel
theorem d_Mod_leaders_67 : decode b_Mod_leaders 67 = .ok (.iastore, 1) := by decide +kernel
theorem d_Mod_leaders_68 : decode b_Mod_leaders 68 = .ok (.iconst 1, 1) := by decide +kernel
theorem d_Mod_leaders_69 : decode b_Mod_leaders 69 = .ok (.ireturn, 1) := by decide +kernel
theorem d_Mod_natural_0 : decode b_Mod_natural 0 = .ok (.lconst 0, 1) := by decide +kernel
theorem d_Mod_natural_1 : decode b_Mod_natural 1 = .ok (.lstore_n 1, 1) := by decide +kernel
theorem d_Mod_natural_2 : decode b_Mod_natural 2 = .ok (.iconst 0, 1) := by decide +kernel
theorem d_Mod_natural_3 : decode b_Mod_natural 3 = .ok (.istore_n 3, 1) := by decide +kernel
theorem d_Mod_natural_4 : decode b_Mod_natural 4 = .ok (.iload_n 3, 1) := by decide +kernel
theorem d_Mod_natural_5 : decode b_Mod_natural 5 = .ok (.aload_n 0, 1) := by decide +kernel
theorem d_Mod_natural_6 : decode b_Mod_natural 6 = .ok (.getfield 83, 3) := by decide +kernel
theorem d_Mod_natural_9 : decode b_Mod_natural 9 = .ok (.if_icmp .ge 18, 3) := by decide +kernel
theorem d_Mod_natural_12 : decode b_Mod_natural 12 = .ok (.lload_n 1, 1) := by decide +kernel
theorem d_Mod_natural_13 : decode b_Mod_natural 13 = .ok (.aload_n 0, 1) := by decide +kernel
theorem d_Mod_natural_14 : decode b_Mod_natural 14 = .ok (.iload_n 3, 1) := by decide +kernel
theorem d_Mod_natural_15 : decode b_Mod_natural 15 = .ok (.invokevirtual 96, 3) := by decide +kernel
theorem d_Mod_natural_18 : decode b_Mod_natural 18 = .ok (.i2l, 1) := by decide +kernel
theorem d_Mod_natural_19 : decode b_Mod_natural 19 = .ok (.ladd, 1) := by decide +kernel
theorem d_Mod_natural_20 : decode b_Mod_natural 20 = .ok (.lstore_n 1, 1) := by decide +kernel
theorem d_Mod_natural_21 : decode b_Mod_natural 21 = .ok (.iinc 3 1, 3) := by decide +kernel
theorem d_Mod_natural_24 : decode b_Mod_natural 24 = .ok (.goto (-20), 3) := by decide +kernel
theorem d_Mod_natural_27 : decode b_Mod_natural 27 = .ok (.lload_n 1, 1) := by decide +kernel
theorem d_Mod_natural_28 : decode b_Mod_natural 28 = .ok (.lreturn, 1) := by decide +kernel
theorem d_Mod_lengthOf_0 : decode b_Mod_lengthOf 0 = .ok (.aload_n 0, 1) := by decide +kernel
theorem d_Mod_lengthOf_1 : decode b_Mod_lengthOf 1 = .ok (.getfield 7, 3) := by decide +kernel
theorem d_Mod_lengthOf_4 : decode b_Mod_lengthOf 4 = .ok (.iload_n 1, 1) := by decide +kernel
theorem d_Mod_lengthOf_5 : decode b_Mod_lengthOf 5 = .ok (.iaload, 1) := by decide +kernel
theorem d_Mod_lengthOf_6 : decode b_Mod_lengthOf 6 = .ok (.iconst 1, 1) := by decide +kernel
theorem d_Mod_lengthOf_7 : decode b_Mod_lengthOf 7 = .ok (.if_icmp .ne 17, 3) := by decide +kernel
theorem d_Mod_lengthOf_10 : decode b_Mod_lengthOf 10 = .ok (.aload_n 0, 1) := by decide +kernel
theorem d_Mod_lengthOf_11 : decode b_Mod_lengthOf 11 = .ok (.getfield 47, 3) := by decide +kernel
theorem d_Mod_lengthOf_14 : decode b_Mod_lengthOf 14 = .ok (.aload_n 0, 1) := by decide +kernel
theorem d_Mod_lengthOf_15 : decode b_Mod_lengthOf 15 = .ok (.getfield 13, 3) := by decide +kernel
theorem d_Mod_lengthOf_18 : decode b_Mod_lengthOf 18 = .ok (.iload_n 1, 1) := by decide +kernel
theorem d_Mod_lengthOf_19 : decode b_Mod_lengthOf 19 = .ok (.iaload, 1) := by decide +kernel
theorem d_Mod_lengthOf_20 : decode b_Mod_lengthOf 20 = .ok (.iaload, 1) := by decide +kernel
theorem d_Mod_lengthOf_21 : decode b_Mod_lengthOf 21 = .ok (.goto 9, 3) := by decide +kernel
theorem d_Mod_lengthOf_24 : decode b_Mod_lengthOf 24 = .ok (.aload_n 0, 1) := by decide +kernel
theorem d_Mod_lengthOf_25 : decode b_Mod_lengthOf 25 = .ok (.getfield 13, 3) := by decide +kernel
theorem d_Mod_lengthOf_28 : decode b_Mod_lengthOf 28 = .ok (.iload_n 1, 1) := by decide +kernel
theorem d_Mod_lengthOf_29 : decode b_Mod_lengthOf 29 = .ok (.iaload, 1) := by decide +kernel
theorem d_Mod_lengthOf_30 : decode b_Mod_lengthOf 30 = .ok (.ireturn, 1) := by decide +kernel
theorem d_Mod_pack_0 : decode b_Mod_pack 0 = .ok (.aload_n 0, 1) := by decide +kernel
theorem d_Mod_pack_1 : decode b_Mod_pack 1 = .ok (.invokevirtual 110, 3) := by decide +kernel
theorem d_Mod_pack_4 : decode b_Mod_pack 4 = .ok (.lstore_n 2, 1) := by decide +kernel
theorem d_Mod_pack_5 : decode b_Mod_pack 5 = .ok (.iload_n 1, 1) := by decide +kernel
theorem d_Mod_pack_6 : decode b_Mod_pack 6 = .ok (.iconst (-1), 1) := by decide +kernel
theorem d_Mod_pack_7 : decode b_Mod_pack 7 = .ok (.ldc 114, 2) := by decide +kernel
theorem d_Mod_pack_9 : decode b_Mod_pack 9 = .ok (.invokestatic 79, 3) := by decide +kernel
theorem d_Mod_pack_12 : decode b_Mod_pack 12 = .ok (.ifCond .eq 16, 3) := by decide +kernel
theorem d_Mod_pack_15 : decode b_Mod_pack 15 = .ok (.iload_n 1, 1) := by decide +kernel
theorem d_Mod_pack_16 : decode b_Mod_pack 16 = .ok (.iconst (-1), 1) := by decide +kernel
theorem d_Mod_pack_17 : decode b_Mod_pack 17 = .ok (.if_icmp .ne 13, 3) := by decide +kernel
theorem d_Mod_pack_20 : decode b_Mod_pack 20 = .ok (.lload_n 2, 1) := by decide +kernel
theorem d_Mod_pack_21 : decode b_Mod_pack 21 = .ok (.ldc2_w 115, 3) := by decide +kernel
theorem d_Mod_pack_24 : decode b_Mod_pack 24 = .ok (.lcmp, 1) := by decide +kernel
theorem d_Mod_pack_25 : decode b_Mod_pack 25 = .ok (.ifCond .le 5, 3) := by decide +kernel
theorem d_Mod_pack_28 : decode b_Mod_pack 28 = .ok (.iconst (-1), 1) := by decide +kernel
theorem d_Mod_pack_29 : decode b_Mod_pack 29 = .ok (.ireturn, 1) := by decide +kernel
theorem d_Mod_pack_30 : decode b_Mod_pack 30 = .ok (.aload_n 0, 1) := by decide +kernel
theorem d_Mod_pack_31 : decode b_Mod_pack 31 = .ok (.getfield 74, 3) := by decide +kernel
theorem d_Mod_pack_34 : decode b_Mod_pack 34 = .ok (.bipush 60, 2) := by decide +kernel
theorem d_Mod_pack_36 : decode b_Mod_pack 36 = .ok (.if_icmp .eq 18, 3) := by decide +kernel
theorem d_Mod_pack_39 : decode b_Mod_pack 39 = .ok (.aload_n 0, 1) := by decide +kernel
theorem d_Mod_pack_40 : decode b_Mod_pack 40 = .ok (.getfield 117, 3) := by decide +kernel
theorem d_Mod_pack_43 : decode b_Mod_pack 43 = .ok (.aload_n 0, 1) := by decide +kernel
theorem d_Mod_pack_44 : decode b_Mod_pack 44 = .ok (.getfield 83, 3) := by decide +kernel
theorem d_Mod_pack_47 : decode b_Mod_pack 47 = .ok (.iadd, 1) := by decide +kernel
theorem d_Mod_pack_48 : decode b_Mod_pack 48 = .ok (.sipush 300, 3) := by decide +kernel
theorem d_Mod_pack_51 : decode b_Mod_pack 51 = .ok (.if_icmp .le 6, 3) := by decide +kernel
theorem d_Mod_pack_54 : decode b_Mod_pack 54 = .ok (.bipush (-2), 2) := by decide +kernel
theorem d_Mod_pack_56 : decode b_Mod_pack 56 = .ok (.ireturn, 1) := by decide +kernel
theorem d_Mod_pack_57 : decode b_Mod_pack 57 = .ok (.aload_n 0, 1) := by decide +kernel
theorem d_Mod_pack_58 : decode b_Mod_pack 58 = .ok (.getfield 74, 3) := by decide +kernel
theorem d_Mod_pack_61 : decode b_Mod_pack 61 = .ok (.istore 4, 2) := by decide +kernel
theorem d_Mod_pack_63 : decode b_Mod_pack 63 = .ok (.iload_n 1, 1) := by decide +kernel
theorem d_Mod_pack_64 : decode b_Mod_pack 64 = .ok (.ifCond .lt 8, 3) := by decide +kernel
theorem d_Mod_pack_67 : decode b_Mod_pack 67 = .ok (.iload_n 1, 1) := by decide +kernel
theorem d_Mod_pack_68 : decode b_Mod_pack 68 = .ok (.i2l, 1) := by decide +kernel
theorem d_Mod_pack_69 : decode b_Mod_pack 69 = .ok (.goto 14, 3) := by decide +kernel
theorem d_Mod_pack_72 : decode b_Mod_pack 72 = .ok (.lload_n 2, 1) := by decide +kernel
theorem d_Mod_pack_73 : decode b_Mod_pack 73 = .ok (.lconst 0, 1) := by decide +kernel
theorem d_Mod_pack_74 : decode b_Mod_pack 74 = .ok (.lcmp, 1) := by decide +kernel
theorem d_Mod_pack_75 : decode b_Mod_pack 75 = .ok (.ifCond .ge 7, 3) := by decide +kernel
theorem d_Mod_pack_78 : decode b_Mod_pack 78 = .ok (.lconst 0, 1) := by decide +kernel
theorem d_Mod_pack_79 : decode b_Mod_pack 79 = .ok (.goto 4, 3) := by decide +kernel
theorem d_Mod_pack_82 : decode b_Mod_pack 82 = .ok (.lload_n 2, 1) := by decide +kernel
theorem d_Mod_pack_83 : decode b_Mod_pack 83 = .ok (.lstore 5, 2) := by decide +kernel
theorem d_Mod_pack_85 : decode b_Mod_pack 85 = .ok (.lload 5, 2) := by decide +kernel
theorem d_Mod_pack_87 : decode b_Mod_pack 87 = .ok (.lload_n 2, 1) := by decide +kernel
theorem d_Mod_pack_88 : decode b_Mod_pack 88 = .ok (.lsub, 1) := by decide +kernel
theorem d_Mod_pack_89 : decode b_Mod_pack 89 = .ok (.lstore 7, 2) := by decide +kernel
theorem d_Mod_pack_91 : decode b_Mod_pack 91 = .ok (.lload 7, 2) := by decide +kernel
theorem d_Mod_pack_93 : decode b_Mod_pack 93 = .ok (.lconst 0, 1) := by decide +kernel
theorem d_Mod_pack_94 : decode b_Mod_pack 94 = .ok (.lcmp, 1) := by decide +kernel
theorem d_Mod_pack_95 : decode b_Mod_pack 95 = .ok (.ifCond .le 7, 3) := by decide +kernel
theorem d_Mod_pack_98 : decode b_Mod_pack 98 = .ok (.iconst 1, 1) := by decide +kernel
theorem d_Mod_pack_99 : decode b_Mod_pack 99 = .ok (.goto 4, 3) := by decide +kernel
theorem d_Mod_pack_102 : decode b_Mod_pack 102 = .ok (.iconst 0, 1) := by decide +kernel
theorem d_Mod_pack_103 : decode b_Mod_pack 103 = .ok (.istore 9, 2) := by decide +kernel
theorem d_Mod_pack_105 : decode b_Mod_pack 105 = .ok (.iload 9, 2) := by decide +kernel
theorem d_Mod_pack_107 : decode b_Mod_pack 107 = .ok (.ifCond .eq 8, 3) := by decide +kernel
theorem d_Mod_pack_110 : decode b_Mod_pack 110 = .ok (.lload 7, 2) := by decide +kernel
theorem d_Mod_pack_112 : decode b_Mod_pack 112 = .ok (.goto 6, 3) := by decide +kernel
theorem d_Mod_pack_115 : decode b_Mod_pack 115 = .ok (.lload 7, 2) := by decide +kernel
theorem d_Mod_pack_117 : decode b_Mod_pack 117 = .ok (.lneg, 1) := by decide +kernel
theorem d_Mod_pack_118 : decode b_Mod_pack 118 = .ok (.lstore 10, 2) := by decide +kernel
theorem d_Mod_pack_120 : decode b_Mod_pack 120 = .ok (.lload 7, 2) := by decide +kernel
theorem d_Mod_pack_122 : decode b_Mod_pack 122 = .ok (.lconst 0, 1) := by decide +kernel
theorem d_Mod_pack_123 : decode b_Mod_pack 123 = .ok (.lcmp, 1) := by decide +kernel
theorem d_Mod_pack_124 : decode b_Mod_pack 124 = .ok (.ifCond .ne 7, 3) := by decide +kernel
theorem d_Mod_pack_127 : decode b_Mod_pack 127 = .ok (.iconst (-1), 1) := by decide +kernel
theorem d_Mod_pack_128 : decode b_Mod_pack 128 = .ok (.goto 9, 3) := by decide +kernel
theorem d_Mod_pack_131 : decode b_Mod_pack 131 = .ok (.aload_n 0, 1) := by decide +kernel
theorem d_Mod_pack_132 : decode b_Mod_pack 132 = .ok (.iload 9, 2) := by decide +kernel
theorem d_Mod_pack_134 : decode b_Mod_pack 134 = .ok (.invokevirtual 120, 3) := by decide +kernel
theorem d_Mod_pack_137 : decode b_Mod_pack 137 = .ok (.istore 12, 2) := by decide +kernel
theorem d_Mod_pack_139 : decode b_Mod_pack 139 = .ok (.iload 12, 2) := by decide +kernel
theorem d_Mod_pack_141 : decode b_Mod_pack 141 = .ok (.ifCond .ge 7, 3) := by decide +kernel
theorem d_Mod_pack_144 : decode b_Mod_pack 144 = .ok (.lconst 0, 1) := by decide +kernel
theorem d_Mod_pack_145 : decode b_Mod_pack 145 = .ok (.goto 15, 3) := by decide +kernel
theorem d_Mod_pack_148 : decode b_Mod_pack 148 = .ok (.aload_n 0, 1) := by decide +kernel
theorem d_Mod_pack_149 : decode b_Mod_pack 149 = .ok (.iload 9, 2) := by decide +kernel
theorem d_Mod_pack_151 : decode b_Mod_pack 151 = .ok (.iload 12, 2) := by decide +kernel
theorem d_Mod_pack_153 : decode b_Mod_pack 153 = .ok (.aload_n 0, 1) := by decide +kernel
theorem d_Mod_pack_154 : decode b_Mod_pack 154 = .ok (.getfield 83, 3) := by decide +kernel
theorem d_Mod_pack_157 : decode b_Mod_pack 157 = .ok (.invokevirtual 106, 3) := by decide +kernel
theorem d_Mod_pack_160 : decode b_Mod_pack 160 = .ok (.lstore 13, 2) := by decide +kernel
theorem d_Mod_pack_162 : decode b_Mod_pack 162 = .ok (.aload_n 0, 1) := by decide +kernel
theorem d_Mod_pack_163 : decode b_Mod_pack 163 = .ok (.getfield 65, 3) := by decide +kernel
theorem d_Mod_pack_166 : decode b_Mod_pack 166 = .ok (.iload 4, 2) := by decide +kernel
theorem d_Mod_pack_168 : decode b_Mod_pack 168 = .ok (.iconst 0, 1) := by decide +kernel
theorem d_Mod_pack_169 : decode b_Mod_pack 169 = .ok (.iastore, 1) := by decide +kernel
theorem d_Mod_pack_170 : decode b_Mod_pack 170 = .ok (.aload_n 0, 1) := by decide +kernel
theorem d_Mod_pack_171 : decode b_Mod_pack 171 = .ok (.getfield 62, 3) := by decide +kernel
theorem d_Mod_pack_174 : decode b_Mod_pack 174 = .ok (.iload 4, 2) := by decide +kernel
theorem d_Mod_pack_176 : decode b_Mod_pack 176 = .ok (.iload 12, 2) := by decide +kernel
theorem d_Mod_pack_178 : decode b_Mod_pack 178 = .ok (.ifCond .gt 10, 3) := by decide +kernel
theorem d_Mod_pack_181 : decode b_Mod_pack 181 = .ok (.lload 7, 2) := by decide +kernel
theorem d_Mod_pack_183 : decode b_Mod_pack 183 = .ok (.lconst 0, 1) := by decide +kernel
theorem d_Mod_pack_184 : decode b_Mod_pack 184 = .ok (.lcmp, 1) := by decide +kernel
theorem d_Mod_pack_185 : decode b_Mod_pack 185 = .ok (.ifCond .ne 7, 3) := by decide +kernel
theorem d_Mod_pack_188 : decode b_Mod_pack 188 = .ok (.iconst 0, 1) := by decide +kernel
theorem d_Mod_pack_189 : decode b_Mod_pack 189 = .ok (.goto 44, 3) := by decide +kernel
theorem d_Mod_pack_192 : decode b_Mod_pack 192 = .ok (.iload 9, 2) := by decide +kernel
theorem d_Mod_pack_194 : decode b_Mod_pack 194 = .ok (.ifCond .eq 14, 3) := by decide +kernel
theorem d_Mod_pack_197 : decode b_Mod_pack 197 = .ok (.iload 12, 2) := by decide +kernel
theorem d_Mod_pack_199 : decode b_Mod_pack 199 = .ok (.ifCond .ge 9, 3) := by decide +kernel
theorem d_Mod_pack_202 : decode b_Mod_pack 202 = .ok (.sipush 10000, 3) := by decide +kernel
theorem d_Mod_pack_205 : decode b_Mod_pack 205 = .ok (.goto 28, 3) := by decide +kernel
theorem d_Mod_pack_208 : decode b_Mod_pack 208 = .ok (.iload 9, 2) := by decide +kernel
theorem d_Mod_pack_210 : decode b_Mod_pack 210 = .ok (.ifCond .ne 11, 3) := by decide +kernel
theorem d_Mod_pack_213 : decode b_Mod_pack 213 = .ok (.lload 10, 2) := by decide +kernel
theorem d_Mod_pack_215 : decode b_Mod_pack 215 = .ok (.lload 13, 2) := by decide +kernel
theorem d_Mod_pack_217 : decode b_Mod_pack 217 = .ok (.lcmp, 1) := by decide +kernel
theorem d_Mod_pack_218 : decode b_Mod_pack 218 = .ok (.ifCond .gt 13, 3) := by decide +kernel
theorem d_Mod_pack_221 : decode b_Mod_pack 221 = .ok (.lload 10, 2) := by decide +kernel
theorem d_Mod_pack_223 : decode b_Mod_pack 223 = .ok (.lload 13, 2) := by decide +kernel
theorem d_Mod_pack_225 : decode b_Mod_pack 225 = .ok (.invokestatic 124, 3) := by decide +kernel
theorem d_Mod_pack_228 : decode b_Mod_pack 228 = .ok (.goto 5, 3) := by decide +kernel
theorem d_Mod_pack_231 : decode b_Mod_pack 231 = .ok (.ldc 114, 2) := by decide +kernel
theorem d_Mod_pack_233 : decode b_Mod_pack 233 = .ok (.iastore, 1) := by decide +kernel
theorem d_Mod_pack_234 : decode b_Mod_pack 234 = .ok (.aload_n 0, 1) := by decide +kernel
theorem d_Mod_pack_235 : decode b_Mod_pack 235 = .ok (.getfield 62, 3) := by decide +kernel
theorem d_Mod_pack_238 : decode b_Mod_pack 238 = .ok (.iload 4, 2) := by decide +kernel
theorem d_Mod_pack_240 : decode b_Mod_pack 240 = .ok (.iaload, 1) := by decide +kernel
theorem d_Mod_pack_241 : decode b_Mod_pack 241 = .ok (.ldc 114, 2) := by decide +kernel
theorem d_Mod_pack_243 : decode b_Mod_pack 243 = .ok (.if_icmp .ne 20, 3) := by decide +kernel
theorem d_Mod_pack_246 : decode b_Mod_pack 246 = .ok (.aload_n 0, 1) := by decide +kernel
theorem d_Mod_pack_247 : decode b_Mod_pack 247 = .ok (.getfield 65, 3) := by decide +kernel
theorem d_Mod_pack_250 : decode b_Mod_pack 250 = .ok (.iload 4, 2) := by decide +kernel
theorem d_Mod_pack_252 : decode b_Mod_pack 252 = .ok (.lload 10, 2) := by decide +kernel
theorem d_Mod_pack_254 : decode b_Mod_pack 254 = .ok (.lload 13, 2) := by decide +kernel
theorem d_Mod_pack_256 : decode b_Mod_pack 256 = .ok (.lsub, 1) := by decide +kernel
theorem d_Mod_pack_257 : decode b_Mod_pack 257 = .ok (.l2i, 1) := by decide +kernel
theorem d_Mod_pack_258 : decode b_Mod_pack 258 = .ok (.iastore, 1) := by decide +kernel
theorem d_Mod_pack_259 : decode b_Mod_pack 259 = .ok (.lload 13, 2) := by decide +kernel
theorem d_Mod_pack_261 : decode b_Mod_pack 261 = .ok (.lstore 10, 2) := by decide +kernel
theorem d_Mod_pack_263 : decode b_Mod_pack 263 = .ok (.lconst 0, 1) := by decide +kernel
theorem d_Mod_pack_264 : decode b_Mod_pack 264 = .ok (.lstore 15, 2) := by decide +kernel
theorem d_Mod_pack_266 : decode b_Mod_pack 266 = .ok (.aload_n 0, 1) := by decide +kernel
theorem d_Mod_pack_267 : decode b_Mod_pack 267 = .ok (.getfield 50, 3) := by decide +kernel
theorem d_Mod_pack_270 : decode b_Mod_pack 270 = .ok (.iload 4, 2) := by decide +kernel
theorem d_Mod_pack_272 : decode b_Mod_pack 272 = .ok (.iconst 0, 1) := by decide +kernel
theorem d_Mod_pack_273 : decode b_Mod_pack 273 = .ok (.iastore, 1) := by decide +kernel
theorem d_Mod_pack_274 : decode b_Mod_pack 274 = .ok (.aload_n 0, 1) := by decide +kernel
theorem d_Mod_pack_275 : decode b_Mod_pack 275 = .ok (.getfield 53, 3) := by decide +kernel
theorem d_Mod_pack_278 : decode b_Mod_pack 278 = .ok (.iload 4, 2) := by decide +kernel
theorem d_Mod_pack_280 : decode b_Mod_pack 280 = .ok (.iconst 0, 1) := by decide +kernel
theorem d_Mod_pack_281 : decode b_Mod_pack 281 = .ok (.iastore, 1) := by decide +kernel
theorem d_Mod_pack_282 : decode b_Mod_pack 282 = .ok (.iconst 0, 1) := by decide +kernel
theorem d_Mod_pack_283 : decode b_Mod_pack 283 = .ok (.istore 17, 2) := by decide +kernel
theorem d_Mod_pack_285 : decode b_Mod_pack 285 = .ok (.iload 17, 2) := by decide +kernel
theorem d_Mod_pack_287 : decode b_Mod_pack 287 = .ok (.aload_n 0, 1) := by decide +kernel
theorem d_Mod_pack_288 : decode b_Mod_pack 288 = .ok (.getfield 83, 3) := by decide +kernel
theorem d_Mod_pack_291 : decode b_Mod_pack 291 = .ok (.if_icmp .ge 223, 3) := by decide +kernel
theorem d_Mod_pack_294 : decode b_Mod_pack 294 = .ok (.aload_n 0, 1) := by decide +kernel
theorem d_Mod_pack_295 : decode b_Mod_pack 295 = .ok (.iload 17, 2) := by decide +kernel
theorem d_Mod_pack_297 : decode b_Mod_pack 297 = .ok (.invokevirtual 96, 3) := by decide +kernel
theorem d_Mod_pack_300 : decode b_Mod_pack 300 = .ok (.i2l, 1) := by decide +kernel
theorem d_Mod_pack_301 : decode b_Mod_pack 301 = .ok (.lstore 18, 2) := by decide +kernel
theorem d_Mod_pack_303 : decode b_Mod_pack 303 = .ok (.iload 12, 2) := by decide +kernel
theorem d_Mod_pack_305 : decode b_Mod_pack 305 = .ok (.ifCond .lt 98, 3) := by decide +kernel
theorem d_Mod_pack_308 : decode b_Mod_pack 308 = .ok (.aload_n 0, 1) := by decide +kernel
theorem d_Mod_pack_309 : decode b_Mod_pack 309 = .ok (.getfield 7, 3) := by decide +kernel
theorem d_Mod_pack_312 : decode b_Mod_pack 312 = .ok (.iload 17, 2) := by decide +kernel
theorem d_Mod_pack_314 : decode b_Mod_pack 314 = .ok (.iaload, 1) := by decide +kernel
theorem d_Mod_pack_315 : decode b_Mod_pack 315 = .ok (.iconst 2, 1) := by decide +kernel
theorem d_Mod_pack_316 : decode b_Mod_pack 316 = .ok (.if_icmp .ne 87, 3) := by decide +kernel
theorem d_Mod_pack_319 : decode b_Mod_pack 319 = .ok (.iload 9, 2) := by decide +kernel
theorem d_Mod_pack_321 : decode b_Mod_pack 321 = .ok (.ifCond .eq 13, 3) := by decide +kernel
theorem d_Mod_pack_324 : decode b_Mod_pack 324 = .ok (.aload_n 0, 1) := by decide +kernel
theorem d_Mod_pack_325 : decode b_Mod_pack 325 = .ok (.getfield 25, 3) := by decide +kernel
theorem d_Mod_pack_328 : decode b_Mod_pack 328 = .ok (.iload 17, 2) := by decide +kernel
theorem d_Mod_pack_330 : decode b_Mod_pack 330 = .ok (.iaload, 1) := by decide +kernel
theorem d_Mod_pack_331 : decode b_Mod_pack 331 = .ok (.goto 10, 3) := by decide +kernel
theorem d_Mod_pack_334 : decode b_Mod_pack 334 = .ok (.aload_n 0, 1) := by decide +kernel
theorem d_Mod_pack_335 : decode b_Mod_pack 335 = .ok (.getfield 31, 3) := by decide +kernel
theorem d_Mod_pack_338 : decode b_Mod_pack 338 = .ok (.iload 17, 2) := by decide +kernel
theorem d_Mod_pack_340 : decode b_Mod_pack 340 = .ok (.iaload, 1) := by decide +kernel
theorem d_Mod_pack_341 : decode b_Mod_pack 341 = .ok (.iload 12, 2) := by decide +kernel
theorem d_Mod_pack_343 : decode b_Mod_pack 343 = .ok (.if_icmp .ne 60, 3) := by decide +kernel
theorem d_Mod_pack_346 : decode b_Mod_pack 346 = .ok (.lload 10, 2) := by decide +kernel
theorem d_Mod_pack_348 : decode b_Mod_pack 348 = .ok (.aload_n 0, 1) := by decide +kernel
theorem d_Mod_pack_349 : decode b_Mod_pack 349 = .ok (.iload 9, 2) := by decide +kernel
theorem d_Mod_pack_351 : decode b_Mod_pack 351 = .ok (.iload 12, 2) := by decide +kernel
theorem d_Mod_pack_353 : decode b_Mod_pack 353 = .ok (.iload 17, 2) := by decide +kernel
theorem d_Mod_pack_355 : decode b_Mod_pack 355 = .ok (.iconst 1, 1) := by decide +kernel
theorem d_Mod_pack_356 : decode b_Mod_pack 356 = .ok (.iadd, 1) := by decide +kernel
theorem d_Mod_pack_357 : decode b_Mod_pack 357 = .ok (.invokevirtual 106, 3) := by decide +kernel
theorem d_Mod_pack_360 : decode b_Mod_pack 360 = .ok (.lmul, 1) := by decide +kernel
theorem d_Mod_pack_361 : decode b_Mod_pack 361 = .ok (.lload 13, 2) := by decide +kernel
theorem d_Mod_pack_363 : decode b_Mod_pack 363 = .ok (.ldiv, 1) := by decide +kernel
theorem d_Mod_pack_364 : decode b_Mod_pack 364 = .ok (.lload 10, 2) := by decide +kernel
theorem d_Mod_pack_366 : decode b_Mod_pack 366 = .ok (.aload_n 0, 1) := by decide +kernel
theorem d_Mod_pack_367 : decode b_Mod_pack 367 = .ok (.iload 9, 2) := by decide +kernel
theorem d_Mod_pack_369 : decode b_Mod_pack 369 = .ok (.iload 12, 2) := by decide +kernel
theorem d_Mod_pack_371 : decode b_Mod_pack 371 = .ok (.iload 17, 2) := by decide +kernel
theorem d_Mod_pack_373 : decode b_Mod_pack 373 = .ok (.invokevirtual 106, 3) := by decide +kernel
theorem d_Mod_pack_376 : decode b_Mod_pack 376 = .ok (.lmul, 1) := by decide +kernel
theorem d_Mod_pack_377 : decode b_Mod_pack 377 = .ok (.lload 13, 2) := by decide +kernel
theorem d_Mod_pack_379 : decode b_Mod_pack 379 = .ok (.ldiv, 1) := by decide +kernel
theorem d_Mod_pack_380 : decode b_Mod_pack 380 = .ok (.lsub, 1) := by decide +kernel
theorem d_Mod_pack_381 : decode b_Mod_pack 381 = .ok (.lstore 20, 2) := by decide +kernel
theorem d_Mod_pack_383 : decode b_Mod_pack 383 = .ok (.iload 9, 2) := by decide +kernel
theorem d_Mod_pack_385 : decode b_Mod_pack 385 = .ok (.ifCond .eq 11, 3) := by decide +kernel
theorem d_Mod_pack_388 : decode b_Mod_pack 388 = .ok (.lload 18, 2) := by decide +kernel
theorem d_Mod_pack_390 : decode b_Mod_pack 390 = .ok (.lload 20, 2) := by decide +kernel
theorem d_Mod_pack_392 : decode b_Mod_pack 392 = .ok (.ladd, 1) := by decide +kernel
theorem d_Mod_pack_393 : decode b_Mod_pack 393 = .ok (.goto 8, 3) := by decide +kernel
theorem d_Mod_pack_396 : decode b_Mod_pack 396 = .ok (.lload 18, 2) := by decide +kernel
theorem d_Mod_pack_398 : decode b_Mod_pack 398 = .ok (.lload 20, 2) := by decide +kernel
theorem d_Mod_pack_400 : decode b_Mod_pack 400 = .ok (.lsub, 1) := by decide +kernel
theorem d_Mod_pack_401 : decode b_Mod_pack 401 = .ok (.lstore 18, 2) := by decide +kernel
theorem d_Mod_pack_403 : decode b_Mod_pack 403 = .ok (.aload_n 0, 1) := by decide +kernel
theorem d_Mod_pack_404 : decode b_Mod_pack 404 = .ok (.getfield 40, 3) := by decide +kernel
theorem d_Mod_pack_407 : decode b_Mod_pack 407 = .ok (.iload 17, 2) := by decide +kernel
theorem d_Mod_pack_409 : decode b_Mod_pack 409 = .ok (.lload 18, 2) := by decide +kernel
theorem d_Mod_pack_411 : decode b_Mod_pack 411 = .ok (.lastore, 1) := by decide +kernel
theorem d_Mod_pack_412 : decode b_Mod_pack 412 = .ok (.aload_n 0, 1) := by decide +kernel
theorem d_Mod_pack_413 : decode b_Mod_pack 413 = .ok (.getfield 44, 3) := by decide +kernel
theorem d_Mod_pack_416 : decode b_Mod_pack 416 = .ok (.iload 17, 2) := by decide +kernel
theorem d_Mod_pack_418 : decode b_Mod_pack 418 = .ok (.lload 15, 2) := by decide +kernel
theorem d_Mod_pack_420 : decode b_Mod_pack 420 = .ok (.lastore, 1) := by decide +kernel
theorem d_Mod_pack_421 : decode b_Mod_pack 421 = .ok (.lload 15, 2) := by decide +kernel
theorem d_Mod_pack_423 : decode b_Mod_pack 423 = .ok (.lload 18, 2) := by decide +kernel
theorem d_Mod_pack_425 : decode b_Mod_pack 425 = .ok (.ladd, 1) := by decide +kernel
theorem d_Mod_pack_426 : decode b_Mod_pack 426 = .ok (.lstore 15, 2) := by decide +kernel
theorem d_Mod_pack_428 : decode b_Mod_pack 428 = .ok (.aload_n 0, 1) := by decide +kernel
theorem d_Mod_pack_429 : decode b_Mod_pack 429 = .ok (.iload 17, 2) := by decide +kernel
theorem d_Mod_pack_431 : decode b_Mod_pack 431 = .ok (.iconst 0, 1) := by decide +kernel
theorem d_Mod_pack_432 : decode b_Mod_pack 432 = .ok (.invokevirtual 128, 3) := by decide +kernel
theorem d_Mod_pack_435 : decode b_Mod_pack 435 = .ok (.istore 20, 2) := by decide +kernel
theorem d_Mod_pack_437 : decode b_Mod_pack 437 = .ok (.aload_n 0, 1) := by decide +kernel
theorem d_Mod_pack_438 : decode b_Mod_pack 438 = .ok (.iload 17, 2) := by decide +kernel
theorem d_Mod_pack_440 : decode b_Mod_pack 440 = .ok (.iconst 0, 1) := by decide +kernel
theorem d_Mod_pack_441 : decode b_Mod_pack 441 = .ok (.invokevirtual 131, 3) := by decide +kernel
theorem d_Mod_pack_444 : decode b_Mod_pack 444 = .ok (.istore 21, 2) := by decide +kernel
theorem d_Mod_pack_446 : decode b_Mod_pack 446 = .ok (.aload_n 0, 1) := by decide +kernel
theorem d_Mod_pack_447 : decode b_Mod_pack 447 = .ok (.getfield 50, 3) := by decide +kernel
theorem d_Mod_pack_450 : decode b_Mod_pack 450 = .ok (.iload 4, 2) := by decide +kernel
theorem d_Mod_pack_452 : decode b_Mod_pack 452 = .ok (.iload 20, 2) := by decide +kernel
theorem d_Mod_pack_454 : decode b_Mod_pack 454 = .ok (.aload_n 0, 1) := by decide +kernel
theorem d_Mod_pack_455 : decode b_Mod_pack 455 = .ok (.getfield 50, 3) := by decide +kernel
theorem d_Mod_pack_458 : decode b_Mod_pack 458 = .ok (.iload 4, 2) := by decide +kernel
theorem d_Mod_pack_460 : decode b_Mod_pack 460 = .ok (.iaload, 1) := by decide +kernel
theorem d_Mod_pack_461 : decode b_Mod_pack 461 = .ok (.if_icmp .le 8, 3) := by decide +kernel
theorem d_Mod_pack_464 : decode b_Mod_pack 464 = .ok (.iload 20, 2) := by decide +kernel
theorem d_Mod_pack_466 : decode b_Mod_pack 466 = .ok (.goto 10, 3) := by decide +kernel
theorem d_Mod_pack_469 : decode b_Mod_pack 469 = .ok (.aload_n 0, 1) := by decide +kernel
theorem d_Mod_pack_470 : decode b_Mod_pack 470 = .ok (.getfield 50, 3) := by decide +kernel
theorem d_Mod_pack_473 : decode b_Mod_pack 473 = .ok (.iload 4, 2) := by decide +kernel
theorem d_Mod_pack_475 : decode b_Mod_pack 475 = .ok (.iaload, 1) := by decide +kernel
theorem d_Mod_pack_476 : decode b_Mod_pack 476 = .ok (.iastore, 1) := by decide +kernel
theorem d_Mod_pack_477 : decode b_Mod_pack 477 = .ok (.aload_n 0, 1) := by decide +kernel
theorem d_Mod_pack_478 : decode b_Mod_pack 478 = .ok (.getfield 53, 3) := by decide +kernel
theorem d_Mod_pack_481 : decode b_Mod_pack 481 = .ok (.iload 4, 2) := by decide +kernel
theorem d_Mod_pack_483 : decode b_Mod_pack 483 = .ok (.iload 21, 2) := by decide +kernel
theorem d_Mod_pack_485 : decode b_Mod_pack 485 = .ok (.aload_n 0, 1) := by decide +kernel
theorem d_Mod_pack_486 : decode b_Mod_pack 486 = .ok (.getfield 53, 3) := by decide +kernel
theorem d_Mod_pack_489 : decode b_Mod_pack 489 = .ok (.iload 4, 2) := by decide +kernel
theorem d_Mod_pack_491 : decode b_Mod_pack 491 = .ok (.iaload, 1) := by decide +kernel
theorem d_Mod_pack_492 : decode b_Mod_pack 492 = .ok (.if_icmp .le 8, 3) := by decide +kernel
theorem d_Mod_pack_495 : decode b_Mod_pack 495 = .ok (.iload 21, 2) := by decide +kernel
theorem d_Mod_pack_497 : decode b_Mod_pack 497 = .ok (.goto 10, 3) := by decide +kernel
theorem d_Mod_pack_500 : decode b_Mod_pack 500 = .ok (.aload_n 0, 1) := by decide +kernel
theorem d_Mod_pack_501 : decode b_Mod_pack 501 = .ok (.getfield 53, 3) := by decide +kernel
theorem d_Mod_pack_504 : decode b_Mod_pack 504 = .ok (.iload 4, 2) := by decide +kernel
theorem d_Mod_pack_506 : decode b_Mod_pack 506 = .ok (.iaload, 1) := by decide +kernel
theorem d_Mod_pack_507 : decode b_Mod_pack 507 = .ok (.iastore, 1) := by decide +kernel
theorem d_Mod_pack_508 : decode b_Mod_pack 508 = .ok (.iinc 17 1, 3) := by decide +kernel
theorem d_Mod_pack_511 : decode b_Mod_pack 511 = .ok (.goto (-226), 3) := by decide +kernel
theorem d_Mod_pack_514 : decode b_Mod_pack 514 = .ok (.aload_n 0, 1) := by decide +kernel
theorem d_Mod_pack_515 : decode b_Mod_pack 515 = .ok (.getfield 47, 3) := by decide +kernel
theorem d_Mod_pack_518 : decode b_Mod_pack 518 = .ok (.iload 4, 2) := by decide +kernel
theorem d_Mod_pack_520 : decode b_Mod_pack 520 = .ok (.lload 5, 2) := by decide +kernel
theorem d_Mod_pack_522 : decode b_Mod_pack 522 = .ok (.l2i, 1) := by decide +kernel
theorem d_Mod_pack_523 : decode b_Mod_pack 523 = .ok (.iastore, 1) := by decide +kernel
theorem d_Mod_pack_524 : decode b_Mod_pack 524 = .ok (.aload_n 0, 1) := by decide +kernel
theorem d_Mod_pack_525 : decode b_Mod_pack 525 = .ok (.getfield 68, 3) := by decide +kernel
theorem d_Mod_pack_528 : decode b_Mod_pack 528 = .ok (.iload 4, 2) := by decide +kernel
theorem d_Mod_pack_530 : decode b_Mod_pack 530 = .ok (.iload 12, 2) := by decide +kernel
theorem d_Mod_pack_532 : decode b_Mod_pack 532 = .ok (.iastore, 1) := by decide +kernel
theorem d_Mod_pack_533 : decode b_Mod_pack 533 = .ok (.aload_n 0, 1) := by decide +kernel
theorem d_Mod_pack_534 : decode b_Mod_pack 534 = .ok (.getfield 71, 3) := by decide +kernel
theorem d_Mod_pack_537 : decode b_Mod_pack 537 = .ok (.iload 4, 2) := by decide +kernel
theorem d_Mod_pack_539 : decode b_Mod_pack 539 = .ok (.lload_n 2, 1) := by decide +kernel
theorem d_Mod_pack_540 : decode b_Mod_pack 540 = .ok (.l2i, 1) := by decide +kernel
theorem d_Mod_pack_541 : decode b_Mod_pack 541 = .ok (.iastore, 1) := by decide +kernel
theorem d_Mod_pack_542 : decode b_Mod_pack 542 = .ok (.aload_n 0, 1) := by decide +kernel
theorem d_Mod_pack_543 : decode b_Mod_pack 543 = .ok (.getfield 56, 3) := by decide +kernel
theorem d_Mod_pack_546 : decode b_Mod_pack 546 = .ok (.iload 4, 2) := by decide +kernel
theorem d_Mod_pack_548 : decode b_Mod_pack 548 = .ok (.bipush 40, 2) := by decide +kernel
theorem d_Mod_pack_550 : decode b_Mod_pack 550 = .ok (.aload_n 0, 1) := by decide +kernel
theorem d_Mod_pack_551 : decode b_Mod_pack 551 = .ok (.getfield 117, 3) := by decide +kernel
theorem d_Mod_pack_554 : decode b_Mod_pack 554 = .ok (.iadd, 1) := by decide +kernel
theorem d_Mod_pack_555 : decode b_Mod_pack 555 = .ok (.iastore, 1) := by decide +kernel
theorem d_Mod_pack_556 : decode b_Mod_pack 556 = .ok (.aload_n 0, 1) := by decide +kernel
theorem d_Mod_pack_557 : decode b_Mod_pack 557 = .ok (.getfield 59, 3) := by decide +kernel
theorem d_Mod_pack_560 : decode b_Mod_pack 560 = .ok (.iload 4, 2) := by decide +kernel
theorem d_Mod_pack_562 : decode b_Mod_pack 562 = .ok (.aload_n 0, 1) := by decide +kernel
theorem d_Mod_pack_563 : decode b_Mod_pack 563 = .ok (.getfield 83, 3) := by decide +kernel
theorem d_Mod_pack_566 : decode b_Mod_pack 566 = .ok (.iastore, 1) := by decide +kernel
theorem d_Mod_pack_567 : decode b_Mod_pack 567 = .ok (.iconst 0, 1) := by decide +kernel
theorem d_Mod_pack_568 : decode b_Mod_pack 568 = .ok (.istore 17, 2) := by decide +kernel
theorem d_Mod_pack_570 : decode b_Mod_pack 570 = .ok (.iload 17, 2) := by decide +kernel
theorem d_Mod_pack_572 : decode b_Mod_pack 572 = .ok (.aload_n 0, 1) := by decide +kernel
theorem d_Mod_pack_573 : decode b_Mod_pack 573 = .ok (.getfield 83, 3) := by decide +kernel
theorem d_Mod_pack_576 : decode b_Mod_pack 576 = .ok (.if_icmp .ge 25, 3) := by decide +kernel
theorem d_Mod_pack_579 : decode b_Mod_pack 579 = .ok (.aload_n 0, 1) := by decide +kernel
theorem d_Mod_pack_580 : decode b_Mod_pack 580 = .ok (.iload 17, 2) := by decide +kernel
theorem d_Mod_pack_582 : decode b_Mod_pack 582 = .ok (.bipush 40, 2) := by decide +kernel
theorem d_Mod_pack_584 : decode b_Mod_pack 584 = .ok (.aload_n 0, 1) := by decide +kernel
theorem d_Mod_pack_585 : decode b_Mod_pack 585 = .ok (.getfield 117, 3) := by decide +kernel
theorem d_Mod_pack_588 : decode b_Mod_pack 588 = .ok (.iadd, 1) := by decide +kernel
theorem d_Mod_pack_589 : decode b_Mod_pack 589 = .ok (.iload 17, 2) := by decide +kernel
theorem d_Mod_pack_591 : decode b_Mod_pack 591 = .ok (.iadd, 1) := by decide +kernel
theorem d_Mod_pack_592 : decode b_Mod_pack 592 = .ok (.invokevirtual 134, 3) := by decide +kernel
theorem d_Mod_pack_595 : decode b_Mod_pack 595 = .ok (.iinc 17 1, 3) := by decide +kernel
theorem d_Mod_pack_598 : decode b_Mod_pack 598 = .ok (.goto (-28), 3) := by decide +kernel
theorem d_Mod_pack_601 : decode b_Mod_pack 601 = .ok (.aload_n 0, 1) := by decide +kernel
theorem d_Mod_pack_602 : decode b_Mod_pack 602 = .ok (.dup, 1) := by decide +kernel
theorem d_Mod_pack_603 : decode b_Mod_pack 603 = .ok (.getfield 117, 3) := by decide +kernel
theorem d_Mod_pack_606 : decode b_Mod_pack 606 = .ok (.aload_n 0, 1) := by decide +kernel
theorem d_Mod_pack_607 : decode b_Mod_pack 607 = .ok (.getfield 83, 3) := by decide +kernel
theorem d_Mod_pack_610 : decode b_Mod_pack 610 = .ok (.iadd, 1) := by decide +kernel
theorem d_Mod_pack_611 : decode b_Mod_pack 611 = .ok (.putfield 117, 3) := by decide +kernel
theorem d_Mod_pack_614 : decode b_Mod_pack 614 = .ok (.aload_n 0, 1) := by decide +kernel
theorem d_Mod_pack_615 : decode b_Mod_pack 615 = .ok (.iconst 0, 1) := by decide +kernel
theorem d_Mod_pack_616 : decode b_Mod_pack 616 = .ok (.putfield 83, 3) := by decide +kernel
theorem d_Mod_pack_619 : decode b_Mod_pack 619 = .ok (.aload_n 0, 1) := by decide +kernel
theorem d_Mod_pack_620 : decode b_Mod_pack 620 = .ok (.dup, 1) := by decide +kernel
theorem d_Mod_pack_621 : decode b_Mod_pack 621 = .ok (.getfield 74, 3) := by decide +kernel
theorem d_Mod_pack_624 : decode b_Mod_pack 624 = .ok (.iconst 1, 1) := by decide +kernel
theorem d_Mod_pack_625 : decode b_Mod_pack 625 = .ok (.iadd, 1) := by decide +kernel
theorem d_Mod_pack_626 : decode b_Mod_pack 626 = .ok (.putfield 74, 3) := by decide +kernel
theorem d_Mod_pack_629 : decode b_Mod_pack 629 = .ok (.iload 4, 2) := by decide +kernel
theorem d_Mod_pack_631 : decode b_Mod_pack 631 = .ok (.ireturn, 1) := by decide +kernel
theorem d_Mod_greatestOrder_0 : decode b_Mod_greatestOrder 0 = .ok (.iconst 3, 1) := by decide +kernel
theorem d_Mod_greatestOrder_1 : decode b_Mod_greatestOrder 1 = .ok (.istore_n 2, 1) := by decide +kernel
theorem d_Mod_greatestOrder_2 : decode b_Mod_greatestOrder 2 = .ok (.iload_n 2, 1) := by decide +kernel
theorem d_Mod_greatestOrder_3 : decode b_Mod_greatestOrder 3 = .ok (.ifCond .lt 24, 3) := by decide +kernel
theorem d_Mod_greatestOrder_6 : decode b_Mod_greatestOrder 6 = .ok (.aload_n 0, 1) := by decide +kernel
theorem d_Mod_greatestOrder_7 : decode b_Mod_greatestOrder 7 = .ok (.iload_n 1, 1) := by decide +kernel
theorem d_Mod_greatestOrder_8 : decode b_Mod_greatestOrder 8 = .ok (.iload_n 2, 1) := by decide +kernel
theorem d_Mod_greatestOrder_9 : decode b_Mod_greatestOrder 9 = .ok (.aload_n 0, 1) := by decide +kernel
theorem d_Mod_greatestOrder_10 : decode b_Mod_greatestOrder 10 = .ok (.getfield 83, 3) := by decide +kernel
theorem d_Mod_greatestOrder_13 : decode b_Mod_greatestOrder 13 = .ok (.invokevirtual 106, 3) := by decide +kernel
theorem d_Mod_greatestOrder_16 : decode b_Mod_greatestOrder 16 = .ok (.lconst 0, 1) := by decide +kernel
theorem d_Mod_greatestOrder_17 : decode b_Mod_greatestOrder 17 = .ok (.lcmp, 1) := by decide +kernel
theorem d_Mod_greatestOrder_18 : decode b_Mod_greatestOrder 18 = .ok (.ifCond .ne 9, 3) := by decide +kernel
theorem d_Mod_greatestOrder_21 : decode b_Mod_greatestOrder 21 = .ok (.iinc 2 (-1), 3) := by decide +kernel
theorem d_Mod_greatestOrder_24 : decode b_Mod_greatestOrder 24 = .ok (.goto (-22), 3) := by decide +kernel
theorem d_Mod_greatestOrder_27 : decode b_Mod_greatestOrder 27 = .ok (.iload_n 2, 1) := by decide +kernel
theorem d_Mod_greatestOrder_28 : decode b_Mod_greatestOrder 28 = .ok (.ireturn, 1) := by decide +kernel
theorem d_Mod_sumOf_0 : decode b_Mod_sumOf 0 = .ok (.lconst 0, 1) := by decide +kernel
theorem d_Mod_sumOf_1 : decode b_Mod_sumOf 1 = .ok (.lstore 4, 2) := by decide +kernel
theorem d_Mod_sumOf_3 : decode b_Mod_sumOf 3 = .ok (.iconst 0, 1) := by decide +kernel
theorem d_Mod_sumOf_4 : decode b_Mod_sumOf 4 = .ok (.istore 6, 2) := by decide +kernel
theorem d_Mod_sumOf_6 : decode b_Mod_sumOf 6 = .ok (.iload 6, 2) := by decide +kernel
theorem d_Mod_sumOf_8 : decode b_Mod_sumOf 8 = .ok (.iload_n 3, 1) := by decide +kernel
end
section
theorem d_Mod_sumOf_9 : decode b_Mod_sumOf 9 = .ok (.if_icmp .ge 73, 3) := by decide +kernel
theorem d_Mod_sumOf_12 : decode b_Mod_sumOf 12 = .ok (.aload_n 0, 1) := by decide +kernel
theorem d_Mod_sumOf_13 : decode b_Mod_sumOf 13 = .ok (.getfield 7, 3) := by decide +kernel
theorem d_Mod_sumOf_16 : decode b_Mod_sumOf 16 = .ok (.iload 6, 2) := by decide +kernel
theorem d_Mod_sumOf_18 : decode b_Mod_sumOf 18 = .ok (.iaload, 1) := by decide +kernel
theorem d_Mod_sumOf_19 : decode b_Mod_sumOf 19 = .ok (.iconst 2, 1) := by decide +kernel
theorem d_Mod_sumOf_20 : decode b_Mod_sumOf 20 = .ok (.if_icmp .ne 56, 3) := by decide +kernel
theorem d_Mod_sumOf_23 : decode b_Mod_sumOf 23 = .ok (.iload_n 1, 1) := by decide +kernel
theorem d_Mod_sumOf_24 : decode b_Mod_sumOf 24 = .ok (.ifCond .eq 13, 3) := by decide +kernel
theorem d_Mod_sumOf_27 : decode b_Mod_sumOf 27 = .ok (.aload_n 0, 1) := by decide +kernel
theorem d_Mod_sumOf_28 : decode b_Mod_sumOf 28 = .ok (.getfield 25, 3) := by decide +kernel
theorem d_Mod_sumOf_31 : decode b_Mod_sumOf 31 = .ok (.iload 6, 2) := by decide +kernel
theorem d_Mod_sumOf_33 : decode b_Mod_sumOf 33 = .ok (.iaload, 1) := by decide +kernel
theorem d_Mod_sumOf_34 : decode b_Mod_sumOf 34 = .ok (.goto 10, 3) := by decide +kernel
theorem d_Mod_sumOf_37 : decode b_Mod_sumOf 37 = .ok (.aload_n 0, 1) := by decide +kernel
theorem d_Mod_sumOf_38 : decode b_Mod_sumOf 38 = .ok (.getfield 31, 3) := by decide +kernel
theorem d_Mod_sumOf_41 : decode b_Mod_sumOf 41 = .ok (.iload 6, 2) := by decide +kernel
theorem d_Mod_sumOf_43 : decode b_Mod_sumOf 43 = .ok (.iaload, 1) := by decide +kernel
theorem d_Mod_sumOf_44 : decode b_Mod_sumOf 44 = .ok (.iload_n 2, 1) := by decide +kernel
theorem d_Mod_sumOf_45 : decode b_Mod_sumOf 45 = .ok (.if_icmp .ne 31, 3) := by decide +kernel
theorem d_Mod_sumOf_48 : decode b_Mod_sumOf 48 = .ok (.lload 4, 2) := by decide +kernel
theorem d_Mod_sumOf_50 : decode b_Mod_sumOf 50 = .ok (.iload_n 1, 1) := by decide +kernel
theorem d_Mod_sumOf_51 : decode b_Mod_sumOf 51 = .ok (.ifCond .eq 14, 3) := by decide +kernel
theorem d_Mod_sumOf_54 : decode b_Mod_sumOf 54 = .ok (.aload_n 0, 1) := by decide +kernel
theorem d_Mod_sumOf_55 : decode b_Mod_sumOf 55 = .ok (.getfield 22, 3) := by decide +kernel
theorem d_Mod_sumOf_58 : decode b_Mod_sumOf 58 = .ok (.iload 6, 2) := by decide +kernel
theorem d_Mod_sumOf_60 : decode b_Mod_sumOf 60 = .ok (.iaload, 1) := by decide +kernel
theorem d_Mod_sumOf_61 : decode b_Mod_sumOf 61 = .ok (.i2l, 1) := by decide +kernel
theorem d_Mod_sumOf_62 : decode b_Mod_sumOf 62 = .ok (.goto 11, 3) := by decide +kernel
theorem d_Mod_sumOf_65 : decode b_Mod_sumOf 65 = .ok (.aload_n 0, 1) := by decide +kernel
theorem d_Mod_sumOf_66 : decode b_Mod_sumOf 66 = .ok (.getfield 28, 3) := by decide +kernel
theorem d_Mod_sumOf_69 : decode b_Mod_sumOf 69 = .ok (.iload 6, 2) := by decide +kernel
theorem d_Mod_sumOf_71 : decode b_Mod_sumOf 71 = .ok (.iaload, 1) := by decide +kernel
theorem d_Mod_sumOf_72 : decode b_Mod_sumOf 72 = .ok (.i2l, 1) := by decide +kernel
theorem d_Mod_sumOf_73 : decode b_Mod_sumOf 73 = .ok (.ladd, 1) := by decide +kernel
theorem d_Mod_sumOf_74 : decode b_Mod_sumOf 74 = .ok (.lstore 4, 2) := by decide +kernel
theorem d_Mod_sumOf_76 : decode b_Mod_sumOf 76 = .ok (.iinc 6 1, 3) := by decide +kernel
theorem d_Mod_sumOf_79 : decode b_Mod_sumOf 79 = .ok (.goto (-73), 3) := by decide +kernel
theorem d_Mod_sumOf_82 : decode b_Mod_sumOf 82 = .ok (.lload 4, 2) := by decide +kernel
theorem d_Mod_sumOf_84 : decode b_Mod_sumOf 84 = .ok (.lreturn, 1) := by decide +kernel
theorem d_Mod_badness_0 : decode b_Mod_badness 0 = .ok (.lload_n 0, 1) := by decide +kernel
theorem d_Mod_badness_1 : decode b_Mod_badness 1 = .ok (.ldc2_w 100, 3) := by decide +kernel
theorem d_Mod_badness_4 : decode b_Mod_badness 4 = .ok (.lload_n 2, 1) := by decide +kernel
theorem d_Mod_badness_5 : decode b_Mod_badness 5 = .ok (.lmul, 1) := by decide +kernel
theorem d_Mod_badness_6 : decode b_Mod_badness 6 = .ok (.lcmp, 1) := by decide +kernel
theorem d_Mod_badness_7 : decode b_Mod_badness 7 = .ok (.ifCond .lt 7, 3) := by decide +kernel
theorem d_Mod_badness_10 : decode b_Mod_badness 10 = .ok (.sipush 10000, 3) := by decide +kernel
theorem d_Mod_badness_13 : decode b_Mod_badness 13 = .ok (.ireturn, 1) := by decide +kernel
theorem d_Mod_badness_14 : decode b_Mod_badness 14 = .ok (.ldc2_w 102, 3) := by decide +kernel
theorem d_Mod_badness_17 : decode b_Mod_badness 17 = .ok (.lload_n 0, 1) := by decide +kernel
theorem d_Mod_badness_18 : decode b_Mod_badness 18 = .ok (.lmul, 1) := by decide +kernel
theorem d_Mod_badness_19 : decode b_Mod_badness 19 = .ok (.lload_n 0, 1) := by decide +kernel
theorem d_Mod_badness_20 : decode b_Mod_badness 20 = .ok (.lmul, 1) := by decide +kernel
theorem d_Mod_badness_21 : decode b_Mod_badness 21 = .ok (.lload_n 0, 1) := by decide +kernel
theorem d_Mod_badness_22 : decode b_Mod_badness 22 = .ok (.lmul, 1) := by decide +kernel
theorem d_Mod_badness_23 : decode b_Mod_badness 23 = .ok (.lload_n 2, 1) := by decide +kernel
theorem d_Mod_badness_24 : decode b_Mod_badness 24 = .ok (.lload_n 2, 1) := by decide +kernel
theorem d_Mod_badness_25 : decode b_Mod_badness 25 = .ok (.lmul, 1) := by decide +kernel
theorem d_Mod_badness_26 : decode b_Mod_badness 26 = .ok (.lload_n 2, 1) := by decide +kernel
theorem d_Mod_badness_27 : decode b_Mod_badness 27 = .ok (.lmul, 1) := by decide +kernel
theorem d_Mod_badness_28 : decode b_Mod_badness 28 = .ok (.ldiv, 1) := by decide +kernel
theorem d_Mod_badness_29 : decode b_Mod_badness 29 = .ok (.lstore 4, 2) := by decide +kernel
theorem d_Mod_badness_31 : decode b_Mod_badness 31 = .ok (.lload 4, 2) := by decide +kernel
theorem d_Mod_badness_33 : decode b_Mod_badness 33 = .ok (.ldc2_w 104, 3) := by decide +kernel
theorem d_Mod_badness_36 : decode b_Mod_badness 36 = .ok (.lcmp, 1) := by decide +kernel
theorem d_Mod_badness_37 : decode b_Mod_badness 37 = .ok (.ifCond .le 9, 3) := by decide +kernel
theorem d_Mod_badness_40 : decode b_Mod_badness 40 = .ok (.sipush 10000, 3) := by decide +kernel
theorem d_Mod_badness_43 : decode b_Mod_badness 43 = .ok (.goto 6, 3) := by decide +kernel
theorem d_Mod_badness_46 : decode b_Mod_badness 46 = .ok (.lload 4, 2) := by decide +kernel
theorem d_Mod_badness_48 : decode b_Mod_badness 48 = .ok (.l2i, 1) := by decide +kernel
theorem d_Mod_badness_49 : decode b_Mod_badness 49 = .ok (.ireturn, 1) := by decide +kernel
theorem d_Mod_heightOf_0 : decode b_Mod_heightOf 0 = .ok (.aload_n 0, 1) := by decide +kernel
theorem d_Mod_heightOf_1 : decode b_Mod_heightOf 1 = .ok (.getfield 7, 3) := by decide +kernel
theorem d_Mod_heightOf_4 : decode b_Mod_heightOf 4 = .ok (.iload_n 1, 1) := by decide +kernel
theorem d_Mod_heightOf_5 : decode b_Mod_heightOf 5 = .ok (.iaload, 1) := by decide +kernel
theorem d_Mod_heightOf_6 : decode b_Mod_heightOf 6 = .ok (.iconst 1, 1) := by decide +kernel
theorem d_Mod_heightOf_7 : decode b_Mod_heightOf 7 = .ok (.if_icmp .ne 22, 3) := by decide +kernel
theorem d_Mod_heightOf_10 : decode b_Mod_heightOf 10 = .ok (.aload_n 0, 1) := by decide +kernel
theorem d_Mod_heightOf_11 : decode b_Mod_heightOf 11 = .ok (.getfield 50, 3) := by decide +kernel
theorem d_Mod_heightOf_14 : decode b_Mod_heightOf 14 = .ok (.aload_n 0, 1) := by decide +kernel
theorem d_Mod_heightOf_15 : decode b_Mod_heightOf 15 = .ok (.getfield 13, 3) := by decide +kernel
theorem d_Mod_heightOf_18 : decode b_Mod_heightOf 18 = .ok (.iload_n 1, 1) := by decide +kernel
theorem d_Mod_heightOf_19 : decode b_Mod_heightOf 19 = .ok (.iaload, 1) := by decide +kernel
theorem d_Mod_heightOf_20 : decode b_Mod_heightOf 20 = .ok (.iaload, 1) := by decide +kernel
theorem d_Mod_heightOf_21 : decode b_Mod_heightOf 21 = .ok (.aload_n 0, 1) := by decide +kernel
theorem d_Mod_heightOf_22 : decode b_Mod_heightOf 22 = .ok (.getfield 16, 3) := by decide +kernel
theorem d_Mod_heightOf_25 : decode b_Mod_heightOf 25 = .ok (.iload_n 1, 1) := by decide +kernel
theorem d_Mod_heightOf_26 : decode b_Mod_heightOf 26 = .ok (.iaload, 1) := by decide +kernel
theorem d_Mod_heightOf_27 : decode b_Mod_heightOf 27 = .ok (.isub, 1) := by decide +kernel
theorem d_Mod_heightOf_28 : decode b_Mod_heightOf 28 = .ok (.ireturn, 1) := by decide +kernel
theorem d_Mod_heightOf_29 : decode b_Mod_heightOf 29 = .ok (.aload_n 0, 1) := by decide +kernel
theorem d_Mod_heightOf_30 : decode b_Mod_heightOf 30 = .ok (.getfield 7, 3) := by decide +kernel
theorem d_Mod_heightOf_33 : decode b_Mod_heightOf 33 = .ok (.iload_n 1, 1) := by decide +kernel
theorem d_Mod_heightOf_34 : decode b_Mod_heightOf 34 = .ok (.iaload, 1) := by decide +kernel
theorem d_Mod_heightOf_35 : decode b_Mod_heightOf 35 = .ok (.iconst 4, 1) := by decide +kernel
theorem d_Mod_heightOf_36 : decode b_Mod_heightOf 36 = .ok (.if_icmp .eq 7, 3) := by decide +kernel
theorem d_Mod_heightOf_39 : decode b_Mod_heightOf 39 = .ok (.iconst 0, 1) := by decide +kernel
theorem d_Mod_heightOf_40 : decode b_Mod_heightOf 40 = .ok (.goto 24, 3) := by decide +kernel
theorem d_Mod_heightOf_43 : decode b_Mod_heightOf 43 = .ok (.aload_n 0, 1) := by decide +kernel
theorem d_Mod_heightOf_44 : decode b_Mod_heightOf 44 = .ok (.getfield 16, 3) := by decide +kernel
theorem d_Mod_heightOf_47 : decode b_Mod_heightOf 47 = .ok (.iload_n 1, 1) := by decide +kernel
theorem d_Mod_heightOf_48 : decode b_Mod_heightOf 48 = .ok (.iaload, 1) := by decide +kernel
theorem d_Mod_heightOf_49 : decode b_Mod_heightOf 49 = .ok (.ldc 95, 2) := by decide +kernel
theorem d_Mod_heightOf_51 : decode b_Mod_heightOf 51 = .ok (.if_icmp .ne 7, 3) := by decide +kernel
theorem d_Mod_heightOf_54 : decode b_Mod_heightOf 54 = .ok (.iload_n 2, 1) := by decide +kernel
theorem d_Mod_heightOf_55 : decode b_Mod_heightOf 55 = .ok (.goto 9, 3) := by decide +kernel
theorem d_Mod_heightOf_58 : decode b_Mod_heightOf 58 = .ok (.aload_n 0, 1) := by decide +kernel
theorem d_Mod_heightOf_59 : decode b_Mod_heightOf 59 = .ok (.getfield 16, 3) := by decide +kernel
theorem d_Mod_heightOf_62 : decode b_Mod_heightOf 62 = .ok (.iload_n 1, 1) := by decide +kernel
theorem d_Mod_heightOf_63 : decode b_Mod_heightOf 63 = .ok (.iaload, 1) := by decide +kernel
theorem d_Mod_heightOf_64 : decode b_Mod_heightOf 64 = .ok (.ireturn, 1) := by decide +kernel
theorem d_Mod_depthOf_0 : decode b_Mod_depthOf 0 = .ok (.aload_n 0, 1) := by decide +kernel
theorem d_Mod_depthOf_1 : decode b_Mod_depthOf 1 = .ok (.getfield 7, 3) := by decide +kernel
theorem d_Mod_depthOf_4 : decode b_Mod_depthOf 4 = .ok (.iload_n 1, 1) := by decide +kernel
theorem d_Mod_depthOf_5 : decode b_Mod_depthOf 5 = .ok (.iaload, 1) := by decide +kernel
theorem d_Mod_depthOf_6 : decode b_Mod_depthOf 6 = .ok (.iconst 1, 1) := by decide +kernel
theorem d_Mod_depthOf_7 : decode b_Mod_depthOf 7 = .ok (.if_icmp .ne 22, 3) := by decide +kernel
theorem d_Mod_depthOf_10 : decode b_Mod_depthOf 10 = .ok (.aload_n 0, 1) := by decide +kernel
theorem d_Mod_depthOf_11 : decode b_Mod_depthOf 11 = .ok (.getfield 53, 3) := by decide +kernel
theorem d_Mod_depthOf_14 : decode b_Mod_depthOf 14 = .ok (.aload_n 0, 1) := by decide +kernel
theorem d_Mod_depthOf_15 : decode b_Mod_depthOf 15 = .ok (.getfield 13, 3) := by decide +kernel
theorem d_Mod_depthOf_18 : decode b_Mod_depthOf 18 = .ok (.iload_n 1, 1) := by decide +kernel
theorem d_Mod_depthOf_19 : decode b_Mod_depthOf 19 = .ok (.iaload, 1) := by decide +kernel
theorem d_Mod_depthOf_20 : decode b_Mod_depthOf 20 = .ok (.iaload, 1) := by decide +kernel
theorem d_Mod_depthOf_21 : decode b_Mod_depthOf 21 = .ok (.aload_n 0, 1) := by decide +kernel
theorem d_Mod_depthOf_22 : decode b_Mod_depthOf 22 = .ok (.getfield 16, 3) := by decide +kernel
theorem d_Mod_depthOf_25 : decode b_Mod_depthOf 25 = .ok (.iload_n 1, 1) := by decide +kernel
theorem d_Mod_depthOf_26 : decode b_Mod_depthOf 26 = .ok (.iaload, 1) := by decide +kernel
theorem d_Mod_depthOf_27 : decode b_Mod_depthOf 27 = .ok (.iadd, 1) := by decide +kernel
theorem d_Mod_depthOf_28 : decode b_Mod_depthOf 28 = .ok (.ireturn, 1) := by decide +kernel
theorem d_Mod_depthOf_29 : decode b_Mod_depthOf 29 = .ok (.aload_n 0, 1) := by decide +kernel
theorem d_Mod_depthOf_30 : decode b_Mod_depthOf 30 = .ok (.getfield 7, 3) := by decide +kernel
theorem d_Mod_depthOf_33 : decode b_Mod_depthOf 33 = .ok (.iload_n 1, 1) := by decide +kernel
theorem d_Mod_depthOf_34 : decode b_Mod_depthOf 34 = .ok (.iaload, 1) := by decide +kernel
theorem d_Mod_depthOf_35 : decode b_Mod_depthOf 35 = .ok (.iconst 4, 1) := by decide +kernel
theorem d_Mod_depthOf_36 : decode b_Mod_depthOf 36 = .ok (.if_icmp .eq 7, 3) := by decide +kernel
theorem d_Mod_depthOf_39 : decode b_Mod_depthOf 39 = .ok (.iconst 0, 1) := by decide +kernel
theorem d_Mod_depthOf_40 : decode b_Mod_depthOf 40 = .ok (.goto 24, 3) := by decide +kernel
theorem d_Mod_depthOf_43 : decode b_Mod_depthOf 43 = .ok (.aload_n 0, 1) := by decide +kernel
theorem d_Mod_depthOf_44 : decode b_Mod_depthOf 44 = .ok (.getfield 19, 3) := by decide +kernel
theorem d_Mod_depthOf_47 : decode b_Mod_depthOf 47 = .ok (.iload_n 1, 1) := by decide +kernel
theorem d_Mod_depthOf_48 : decode b_Mod_depthOf 48 = .ok (.iaload, 1) := by decide +kernel
theorem d_Mod_depthOf_49 : decode b_Mod_depthOf 49 = .ok (.ldc 95, 2) := by decide +kernel
theorem d_Mod_depthOf_51 : decode b_Mod_depthOf 51 = .ok (.if_icmp .ne 7, 3) := by decide +kernel
theorem d_Mod_depthOf_54 : decode b_Mod_depthOf 54 = .ok (.iload_n 2, 1) := by decide +kernel
theorem d_Mod_depthOf_55 : decode b_Mod_depthOf 55 = .ok (.goto 9, 3) := by decide +kernel
theorem d_Mod_depthOf_58 : decode b_Mod_depthOf 58 = .ok (.aload_n 0, 1) := by decide +kernel
theorem d_Mod_depthOf_59 : decode b_Mod_depthOf 59 = .ok (.getfield 19, 3) := by decide +kernel
theorem d_Mod_depthOf_62 : decode b_Mod_depthOf 62 = .ok (.iload_n 1, 1) := by decide +kernel
theorem d_Mod_depthOf_63 : decode b_Mod_depthOf 63 = .ok (.iaload, 1) := by decide +kernel
theorem d_Mod_depthOf_64 : decode b_Mod_depthOf 64 = .ok (.ireturn, 1) := by decide +kernel
theorem d_Mod_copy_0 : decode b_Mod_copy 0 = .ok (.aload_n 0, 1) := by decide +kernel
theorem d_Mod_copy_1 : decode b_Mod_copy 1 = .ok (.getfield 7, 3) := by decide +kernel
theorem d_Mod_copy_4 : decode b_Mod_copy 4 = .ok (.iload_n 2, 1) := by decide +kernel
theorem d_Mod_copy_5 : decode b_Mod_copy 5 = .ok (.aload_n 0, 1) := by decide +kernel
theorem d_Mod_copy_6 : decode b_Mod_copy 6 = .ok (.getfield 7, 3) := by decide +kernel
theorem d_Mod_copy_9 : decode b_Mod_copy 9 = .ok (.iload_n 1, 1) := by decide +kernel
theorem d_Mod_copy_10 : decode b_Mod_copy 10 = .ok (.iaload, 1) := by decide +kernel
theorem d_Mod_copy_11 : decode b_Mod_copy 11 = .ok (.iastore, 1) := by decide +kernel
theorem d_Mod_copy_12 : decode b_Mod_copy 12 = .ok (.aload_n 0, 1) := by decide +kernel
theorem d_Mod_copy_13 : decode b_Mod_copy 13 = .ok (.getfield 13, 3) := by decide +kernel
theorem d_Mod_copy_16 : decode b_Mod_copy 16 = .ok (.iload_n 2, 1) := by decide +kernel
theorem d_Mod_copy_17 : decode b_Mod_copy 17 = .ok (.aload_n 0, 1) := by decide +kernel
theorem d_Mod_copy_18 : decode b_Mod_copy 18 = .ok (.getfield 13, 3) := by decide +kernel
theorem d_Mod_copy_21 : decode b_Mod_copy 21 = .ok (.iload_n 1, 1) := by decide +kernel
theorem d_Mod_copy_22 : decode b_Mod_copy 22 = .ok (.iaload, 1) := by decide +kernel
theorem d_Mod_copy_23 : decode b_Mod_copy 23 = .ok (.iastore, 1) := by decide +kernel
theorem d_Mod_copy_24 : decode b_Mod_copy 24 = .ok (.aload_n 0, 1) := by decide +kernel
theorem d_Mod_copy_25 : decode b_Mod_copy 25 = .ok (.getfield 16, 3) := by decide +kernel
theorem d_Mod_copy_28 : decode b_Mod_copy 28 = .ok (.iload_n 2, 1) := by decide +kernel
theorem d_Mod_copy_29 : decode b_Mod_copy 29 = .ok (.aload_n 0, 1) := by decide +kernel
theorem d_Mod_copy_30 : decode b_Mod_copy 30 = .ok (.getfield 16, 3) := by decide +kernel
theorem d_Mod_copy_33 : decode b_Mod_copy 33 = .ok (.iload_n 1, 1) := by decide +kernel
theorem d_Mod_copy_34 : decode b_Mod_copy 34 = .ok (.iaload, 1) := by decide +kernel
theorem d_Mod_copy_35 : decode b_Mod_copy 35 = .ok (.iastore, 1) := by decide +kernel
theorem d_Mod_copy_36 : decode b_Mod_copy 36 = .ok (.aload_n 0, 1) := by decide +kernel
theorem d_Mod_copy_37 : decode b_Mod_copy 37 = .ok (.getfield 19, 3) := by decide +kernel
theorem d_Mod_copy_40 : decode b_Mod_copy 40 = .ok (.iload_n 2, 1) := by decide +kernel
theorem d_Mod_copy_41 : decode b_Mod_copy 41 = .ok (.aload_n 0, 1) := by decide +kernel
theorem d_Mod_copy_42 : decode b_Mod_copy 42 = .ok (.getfield 19, 3) := by decide +kernel
theorem d_Mod_copy_45 : decode b_Mod_copy 45 = .ok (.iload_n 1, 1) := by decide +kernel
theorem d_Mod_copy_46 : decode b_Mod_copy 46 = .ok (.iaload, 1) := by decide +kernel
theorem d_Mod_copy_47 : decode b_Mod_copy 47 = .ok (.iastore, 1) := by decide +kernel
theorem d_Mod_copy_48 : decode b_Mod_copy 48 = .ok (.aload_n 0, 1) := by decide +kernel
theorem d_Mod_copy_49 : decode b_Mod_copy 49 = .ok (.getfield 22, 3) := by decide +kernel
theorem d_Mod_copy_52 : decode b_Mod_copy 52 = .ok (.iload_n 2, 1) := by decide +kernel
theorem d_Mod_copy_53 : decode b_Mod_copy 53 = .ok (.aload_n 0, 1) := by decide +kernel
theorem d_Mod_copy_54 : decode b_Mod_copy 54 = .ok (.getfield 22, 3) := by decide +kernel
theorem d_Mod_copy_57 : decode b_Mod_copy 57 = .ok (.iload_n 1, 1) := by decide +kernel
theorem d_Mod_copy_58 : decode b_Mod_copy 58 = .ok (.iaload, 1) := by decide +kernel
theorem d_Mod_copy_59 : decode b_Mod_copy 59 = .ok (.iastore, 1) := by decide +kernel
theorem d_Mod_copy_60 : decode b_Mod_copy 60 = .ok (.aload_n 0, 1) := by decide +kernel
theorem d_Mod_copy_61 : decode b_Mod_copy 61 = .ok (.getfield 25, 3) := by decide +kernel
theorem d_Mod_copy_64 : decode b_Mod_copy 64 = .ok (.iload_n 2, 1) := by decide +kernel
theorem d_Mod_copy_65 : decode b_Mod_copy 65 = .ok (.aload_n 0, 1) := by decide +kernel
theorem d_Mod_copy_66 : decode b_Mod_copy 66 = .ok (.getfield 25, 3) := by decide +kernel
theorem d_Mod_copy_69 : decode b_Mod_copy 69 = .ok (.iload_n 1, 1) := by decide +kernel
theorem d_Mod_copy_70 : decode b_Mod_copy 70 = .ok (.iaload, 1) := by decide +kernel
theorem d_Mod_copy_71 : decode b_Mod_copy 71 = .ok (.iastore, 1) := by decide +kernel
theorem d_Mod_copy_72 : decode b_Mod_copy 72 = .ok (.aload_n 0, 1) := by decide +kernel
theorem d_Mod_copy_73 : decode b_Mod_copy 73 = .ok (.getfield 28, 3) := by decide +kernel
theorem d_Mod_copy_76 : decode b_Mod_copy 76 = .ok (.iload_n 2, 1) := by decide +kernel
theorem d_Mod_copy_77 : decode b_Mod_copy 77 = .ok (.aload_n 0, 1) := by decide +kernel
theorem d_Mod_copy_78 : decode b_Mod_copy 78 = .ok (.getfield 28, 3) := by decide +kernel
theorem d_Mod_copy_81 : decode b_Mod_copy 81 = .ok (.iload_n 1, 1) := by decide +kernel
theorem d_Mod_copy_82 : decode b_Mod_copy 82 = .ok (.iaload, 1) := by decide +kernel
theorem d_Mod_copy_83 : decode b_Mod_copy 83 = .ok (.iastore, 1) := by decide +kernel
theorem d_Mod_copy_84 : decode b_Mod_copy 84 = .ok (.aload_n 0, 1) := by decide +kernel
theorem d_Mod_copy_85 : decode b_Mod_copy 85 = .ok (.getfield 31, 3) := by decide +kernel
theorem d_Mod_copy_88 : decode b_Mod_copy 88 = .ok (.iload_n 2, 1) := by decide +kernel
theorem d_Mod_copy_89 : decode b_Mod_copy 89 = .ok (.aload_n 0, 1) := by decide +kernel
theorem d_Mod_copy_90 : decode b_Mod_copy 90 = .ok (.getfield 31, 3) := by decide +kernel
theorem d_Mod_copy_93 : decode b_Mod_copy 93 = .ok (.iload_n 1, 1) := by decide +kernel
theorem d_Mod_copy_94 : decode b_Mod_copy 94 = .ok (.iaload, 1) := by decide +kernel
theorem d_Mod_copy_95 : decode b_Mod_copy 95 = .ok (.iastore, 1) := by decide +kernel
theorem d_Mod_copy_96 : decode b_Mod_copy 96 = .ok (.aload_n 0, 1) := by decide +kernel
theorem d_Mod_copy_97 : decode b_Mod_copy 97 = .ok (.getfield 34, 3) := by decide +kernel
theorem d_Mod_copy_100 : decode b_Mod_copy 100 = .ok (.iload_n 2, 1) := by decide +kernel
theorem d_Mod_copy_101 : decode b_Mod_copy 101 = .ok (.aload_n 0, 1) := by decide +kernel
theorem d_Mod_copy_102 : decode b_Mod_copy 102 = .ok (.getfield 34, 3) := by decide +kernel
theorem d_Mod_copy_105 : decode b_Mod_copy 105 = .ok (.iload_n 1, 1) := by decide +kernel
theorem d_Mod_copy_106 : decode b_Mod_copy 106 = .ok (.iaload, 1) := by decide +kernel
theorem d_Mod_copy_107 : decode b_Mod_copy 107 = .ok (.iastore, 1) := by decide +kernel
theorem d_Mod_copy_108 : decode b_Mod_copy 108 = .ok (.aload_n 0, 1) := by decide +kernel
theorem d_Mod_copy_109 : decode b_Mod_copy 109 = .ok (.getfield 37, 3) := by decide +kernel
theorem d_Mod_copy_112 : decode b_Mod_copy 112 = .ok (.iload_n 2, 1) := by decide +kernel
theorem d_Mod_copy_113 : decode b_Mod_copy 113 = .ok (.aload_n 0, 1) := by decide +kernel
theorem d_Mod_copy_114 : decode b_Mod_copy 114 = .ok (.getfield 37, 3) := by decide +kernel
theorem d_Mod_copy_117 : decode b_Mod_copy 117 = .ok (.iload_n 1, 1) := by decide +kernel
theorem d_Mod_copy_118 : decode b_Mod_copy 118 = .ok (.iaload, 1) := by decide +kernel
theorem d_Mod_copy_119 : decode b_Mod_copy 119 = .ok (.iastore, 1) := by decide +kernel
theorem d_Mod_copy_120 : decode b_Mod_copy 120 = .ok (.aload_n 0, 1) := by decide +kernel
theorem d_Mod_copy_121 : decode b_Mod_copy 121 = .ok (.getfield 40, 3) := by decide +kernel
theorem d_Mod_copy_124 : decode b_Mod_copy 124 = .ok (.iload_n 2, 1) := by decide +kernel
theorem d_Mod_copy_125 : decode b_Mod_copy 125 = .ok (.aload_n 0, 1) := by decide +kernel
theorem d_Mod_copy_126 : decode b_Mod_copy 126 = .ok (.getfield 40, 3) := by decide +kernel
theorem d_Mod_copy_129 : decode b_Mod_copy 129 = .ok (.iload_n 1, 1) := by decide +kernel
theorem d_Mod_copy_130 : decode b_Mod_copy 130 = .ok (.laload, 1) := by decide +kernel
theorem d_Mod_copy_131 : decode b_Mod_copy 131 = .ok (.lastore, 1) := by decide +kernel
theorem d_Mod_copy_132 : decode b_Mod_copy 132 = .ok (.aload_n 0, 1) := by decide +kernel
theorem d_Mod_copy_133 : decode b_Mod_copy 133 = .ok (.getfield 44, 3) := by decide +kernel
theorem d_Mod_copy_136 : decode b_Mod_copy 136 = .ok (.iload_n 2, 1) := by decide +kernel
theorem d_Mod_copy_137 : decode b_Mod_copy 137 = .ok (.aload_n 0, 1) := by decide +kernel
theorem d_Mod_copy_138 : decode b_Mod_copy 138 = .ok (.getfield 44, 3) := by decide +kernel
theorem d_Mod_copy_141 : decode b_Mod_copy 141 = .ok (.iload_n 1, 1) := by decide +kernel
theorem d_Mod_copy_142 : decode b_Mod_copy 142 = .ok (.laload, 1) := by decide +kernel
theorem d_Mod_copy_143 : decode b_Mod_copy 143 = .ok (.lastore, 1) := by decide +kernel
theorem d_Mod_copy_144 : decode b_Mod_copy 144 = .ok (.return_, 1) := by decide +kernel
theorem d_Mod_unpack_0 : decode b_Mod_unpack 0 = .ok (.aload_n 0, 1) := by decide +kernel
theorem d_Mod_unpack_1 : decode b_Mod_unpack 1 = .ok (.iload_n 1, 1) := by decide +kernel
theorem d_Mod_unpack_2 : decode b_Mod_unpack 2 = .ok (.invokevirtual 86, 3) := by decide +kernel
theorem d_Mod_unpack_5 : decode b_Mod_unpack 5 = .ok (.ifCond .ne 5, 3) := by decide +kernel
theorem d_Mod_unpack_8 : decode b_Mod_unpack 8 = .ok (.iconst (-1), 1) := by decide +kernel
theorem d_Mod_unpack_9 : decode b_Mod_unpack 9 = .ok (.ireturn, 1) := by decide +kernel
theorem d_Mod_unpack_10 : decode b_Mod_unpack 10 = .ok (.aload_n 0, 1) := by decide +kernel
theorem d_Mod_unpack_11 : decode b_Mod_unpack 11 = .ok (.getfield 83, 3) := by decide +kernel
theorem d_Mod_unpack_14 : decode b_Mod_unpack 14 = .ok (.aload_n 0, 1) := by decide +kernel
theorem d_Mod_unpack_15 : decode b_Mod_unpack 15 = .ok (.getfield 59, 3) := by decide +kernel
theorem d_Mod_unpack_18 : decode b_Mod_unpack 18 = .ok (.iload_n 1, 1) := by decide +kernel
theorem d_Mod_unpack_19 : decode b_Mod_unpack 19 = .ok (.iaload, 1) := by decide +kernel
theorem d_Mod_unpack_20 : decode b_Mod_unpack 20 = .ok (.iadd, 1) := by decide +kernel
theorem d_Mod_unpack_21 : decode b_Mod_unpack 21 = .ok (.bipush 40, 2) := by decide +kernel
theorem d_Mod_unpack_23 : decode b_Mod_unpack 23 = .ok (.if_icmp .le 6, 3) := by decide +kernel
theorem d_Mod_unpack_26 : decode b_Mod_unpack 26 = .ok (.bipush (-2), 2) := by decide +kernel
theorem d_Mod_unpack_28 : decode b_Mod_unpack 28 = .ok (.ireturn, 1) := by decide +kernel
theorem d_Mod_unpack_29 : decode b_Mod_unpack 29 = .ok (.iconst 0, 1) := by decide +kernel
theorem d_Mod_unpack_30 : decode b_Mod_unpack 30 = .ok (.istore_n 2, 1) := by decide +kernel
theorem d_Mod_unpack_31 : decode b_Mod_unpack 31 = .ok (.iload_n 2, 1) := by decide +kernel
theorem d_Mod_unpack_32 : decode b_Mod_unpack 32 = .ok (.aload_n 0, 1) := by decide +kernel
theorem d_Mod_unpack_33 : decode b_Mod_unpack 33 = .ok (.getfield 59, 3) := by decide +kernel
theorem d_Mod_unpack_36 : decode b_Mod_unpack 36 = .ok (.iload_n 1, 1) := by decide +kernel
theorem d_Mod_unpack_37 : decode b_Mod_unpack 37 = .ok (.iaload, 1) := by decide +kernel
theorem d_Mod_unpack_38 : decode b_Mod_unpack 38 = .ok (.if_icmp .ge 27, 3) := by decide +kernel
theorem d_Mod_unpack_41 : decode b_Mod_unpack 41 = .ok (.aload_n 0, 1) := by decide +kernel
theorem d_Mod_unpack_42 : decode b_Mod_unpack 42 = .ok (.aload_n 0, 1) := by decide +kernel
theorem d_Mod_unpack_43 : decode b_Mod_unpack 43 = .ok (.getfield 56, 3) := by decide +kernel
theorem d_Mod_unpack_46 : decode b_Mod_unpack 46 = .ok (.iload_n 1, 1) := by decide +kernel
theorem d_Mod_unpack_47 : decode b_Mod_unpack 47 = .ok (.iaload, 1) := by decide +kernel
theorem d_Mod_unpack_48 : decode b_Mod_unpack 48 = .ok (.iload_n 2, 1) := by decide +kernel
theorem d_Mod_unpack_49 : decode b_Mod_unpack 49 = .ok (.iadd, 1) := by decide +kernel
theorem d_Mod_unpack_50 : decode b_Mod_unpack 50 = .ok (.aload_n 0, 1) := by decide +kernel
theorem d_Mod_unpack_51 : decode b_Mod_unpack 51 = .ok (.getfield 83, 3) := by decide +kernel
theorem d_Mod_unpack_54 : decode b_Mod_unpack 54 = .ok (.iload_n 2, 1) := by decide +kernel
theorem d_Mod_unpack_55 : decode b_Mod_unpack 55 = .ok (.iadd, 1) := by decide +kernel
theorem d_Mod_unpack_56 : decode b_Mod_unpack 56 = .ok (.invokevirtual 134, 3) := by decide +kernel
theorem d_Mod_unpack_59 : decode b_Mod_unpack 59 = .ok (.iinc 2 1, 3) := by decide +kernel
theorem d_Mod_unpack_62 : decode b_Mod_unpack 62 = .ok (.goto (-31), 3) := by decide +kernel
theorem d_Mod_unpack_65 : decode b_Mod_unpack 65 = .ok (.aload_n 0, 1) := by decide +kernel
theorem d_Mod_unpack_66 : decode b_Mod_unpack 66 = .ok (.dup, 1) := by decide +kernel
theorem d_Mod_unpack_67 : decode b_Mod_unpack 67 = .ok (.getfield 83, 3) := by decide +kernel
theorem d_Mod_unpack_70 : decode b_Mod_unpack 70 = .ok (.aload_n 0, 1) := by decide +kernel
theorem d_Mod_unpack_71 : decode b_Mod_unpack 71 = .ok (.getfield 59, 3) := by decide +kernel
theorem d_Mod_unpack_74 : decode b_Mod_unpack 74 = .ok (.iload_n 1, 1) := by decide +kernel
theorem d_Mod_unpack_75 : decode b_Mod_unpack 75 = .ok (.iaload, 1) := by decide +kernel
theorem d_Mod_unpack_76 : decode b_Mod_unpack 76 = .ok (.iadd, 1) := by decide +kernel
theorem d_Mod_unpack_77 : decode b_Mod_unpack 77 = .ok (.putfield 83, 3) := by decide +kernel
theorem d_Mod_unpack_80 : decode b_Mod_unpack 80 = .ok (.aload_n 0, 1) := by decide +kernel
theorem d_Mod_unpack_81 : decode b_Mod_unpack 81 = .ok (.getfield 83, 3) := by decide +kernel
theorem d_Mod_unpack_84 : decode b_Mod_unpack 84 = .ok (.ireturn, 1) := by decide +kernel
theorem d_Mod_told_0 : decode b_Mod_told 0 = .ok (.aload_n 0, 1) := by decide +kernel
theorem d_Mod_told_1 : decode b_Mod_told 1 = .ok (.iload_n 1, 1) := by decide +kernel
theorem d_Mod_told_2 : decode b_Mod_told 2 = .ok (.invokevirtual 86, 3) := by decide +kernel
theorem d_Mod_told_5 : decode b_Mod_told 5 = .ok (.ifCond .eq 13, 3) := by decide +kernel
theorem d_Mod_told_8 : decode b_Mod_told 8 = .ok (.iload_n 2, 1) := by decide +kernel
theorem d_Mod_told_9 : decode b_Mod_told 9 = .ok (.iconst 0, 1) := by decide +kernel
theorem d_Mod_told_10 : decode b_Mod_told 10 = .ok (.bipush 7, 2) := by decide +kernel
theorem d_Mod_told_12 : decode b_Mod_told 12 = .ok (.invokestatic 79, 3) := by decide +kernel
theorem d_Mod_told_15 : decode b_Mod_told 15 = .ok (.ifCond .ne 5, 3) := by decide +kernel
theorem d_Mod_told_18 : decode b_Mod_told 18 = .ok (.iconst (-1), 1) := by decide +kernel
theorem d_Mod_told_19 : decode b_Mod_told 19 = .ok (.ireturn, 1) := by decide +kernel
theorem d_Mod_told_20 : decode b_Mod_told 20 = .ok (.iload_n 2, 1) := by decide +kernel
theorem d_Mod_told_21 : decode b_Mod_told 21 = .ok (.tableswitch 92 0 6 #[43, 50, 57, 64, 71, 78, 85], 43) := by decide +kernel
theorem d_Mod_told_64 : decode b_Mod_told 64 = .ok (.aload_n 0, 1) := by decide +kernel
theorem d_Mod_told_65 : decode b_Mod_told 65 = .ok (.getfield 47, 3) := by decide +kernel
theorem d_Mod_told_68 : decode b_Mod_told 68 = .ok (.iload_n 1, 1) := by decide +kernel
theorem d_Mod_told_69 : decode b_Mod_told 69 = .ok (.iaload, 1) := by decide +kernel
theorem d_Mod_told_70 : decode b_Mod_told 70 = .ok (.ireturn, 1) := by decide +kernel
theorem d_Mod_told_71 : decode b_Mod_told 71 = .ok (.aload_n 0, 1) := by decide +kernel
theorem d_Mod_told_72 : decode b_Mod_told 72 = .ok (.getfield 50, 3) := by decide +kernel
theorem d_Mod_told_75 : decode b_Mod_told 75 = .ok (.iload_n 1, 1) := by decide +kernel
theorem d_Mod_told_76 : decode b_Mod_told 76 = .ok (.iaload, 1) := by decide +kernel
theorem d_Mod_told_77 : decode b_Mod_told 77 = .ok (.ireturn, 1) := by decide +kernel
theorem d_Mod_told_78 : decode b_Mod_told 78 = .ok (.aload_n 0, 1) := by decide +kernel
theorem d_Mod_told_79 : decode b_Mod_told 79 = .ok (.getfield 53, 3) := by decide +kernel
theorem d_Mod_told_82 : decode b_Mod_told 82 = .ok (.iload_n 1, 1) := by decide +kernel
theorem d_Mod_told_83 : decode b_Mod_told 83 = .ok (.iaload, 1) := by decide +kernel
theorem d_Mod_told_84 : decode b_Mod_told 84 = .ok (.ireturn, 1) := by decide +kernel
theorem d_Mod_told_85 : decode b_Mod_told 85 = .ok (.aload_n 0, 1) := by decide +kernel
theorem d_Mod_told_86 : decode b_Mod_told 86 = .ok (.getfield 59, 3) := by decide +kernel
theorem d_Mod_told_89 : decode b_Mod_told 89 = .ok (.iload_n 1, 1) := by decide +kernel
theorem d_Mod_told_90 : decode b_Mod_told 90 = .ok (.iaload, 1) := by decide +kernel
theorem d_Mod_told_91 : decode b_Mod_told 91 = .ok (.ireturn, 1) := by decide +kernel
theorem d_Mod_told_92 : decode b_Mod_told 92 = .ok (.aload_n 0, 1) := by decide +kernel
theorem d_Mod_told_93 : decode b_Mod_told 93 = .ok (.getfield 62, 3) := by decide +kernel
theorem d_Mod_told_96 : decode b_Mod_told 96 = .ok (.iload_n 1, 1) := by decide +kernel
theorem d_Mod_told_97 : decode b_Mod_told 97 = .ok (.iaload, 1) := by decide +kernel
theorem d_Mod_told_98 : decode b_Mod_told 98 = .ok (.ireturn, 1) := by decide +kernel
theorem d_Mod_told_99 : decode b_Mod_told 99 = .ok (.aload_n 0, 1) := by decide +kernel
theorem d_Mod_told_100 : decode b_Mod_told 100 = .ok (.getfield 65, 3) := by decide +kernel
theorem d_Mod_told_103 : decode b_Mod_told 103 = .ok (.iload_n 1, 1) := by decide +kernel
theorem d_Mod_told_104 : decode b_Mod_told 104 = .ok (.iaload, 1) := by decide +kernel
theorem d_Mod_told_105 : decode b_Mod_told 105 = .ok (.ireturn, 1) := by decide +kernel
theorem d_Mod_told_106 : decode b_Mod_told 106 = .ok (.aload_n 0, 1) := by decide +kernel
theorem d_Mod_told_107 : decode b_Mod_told 107 = .ok (.getfield 68, 3) := by decide +kernel
theorem d_Mod_told_110 : decode b_Mod_told 110 = .ok (.iload_n 1, 1) := by decide +kernel
theorem d_Mod_told_111 : decode b_Mod_told 111 = .ok (.iaload, 1) := by decide +kernel
theorem d_Mod_told_112 : decode b_Mod_told 112 = .ok (.ireturn, 1) := by decide +kernel
theorem d_Mod_told_113 : decode b_Mod_told 113 = .ok (.aload_n 0, 1) := by decide +kernel
theorem d_Mod_told_114 : decode b_Mod_told 114 = .ok (.getfield 71, 3) := by decide +kernel
theorem d_Mod_told_117 : decode b_Mod_told 117 = .ok (.iload_n 1, 1) := by decide +kernel
theorem d_Mod_told_118 : decode b_Mod_told 118 = .ok (.iaload, 1) := by decide +kernel
theorem d_Mod_told_119 : decode b_Mod_told 119 = .ok (.ireturn, 1) := by decide +kernel
theorem d_Mod_item_0 : decode b_Mod_item 0 = .ok (.aload_n 0, 1) := by decide +kernel
theorem d_Mod_item_1 : decode b_Mod_item 1 = .ok (.iload_n 1, 1) := by decide +kernel
theorem d_Mod_item_2 : decode b_Mod_item 2 = .ok (.invokevirtual 86, 3) := by decide +kernel
theorem d_Mod_item_5 : decode b_Mod_item 5 = .ok (.ifCond .eq 27, 3) := by decide +kernel
theorem d_Mod_item_8 : decode b_Mod_item 8 = .ok (.iload_n 2, 1) := by decide +kernel
theorem d_Mod_item_9 : decode b_Mod_item 9 = .ok (.ifCond .lt 23, 3) := by decide +kernel
theorem d_Mod_item_12 : decode b_Mod_item 12 = .ok (.iload_n 2, 1) := by decide +kernel
theorem d_Mod_item_13 : decode b_Mod_item 13 = .ok (.aload_n 0, 1) := by decide +kernel
theorem d_Mod_item_14 : decode b_Mod_item 14 = .ok (.getfield 59, 3) := by decide +kernel
theorem d_Mod_item_17 : decode b_Mod_item 17 = .ok (.iload_n 1, 1) := by decide +kernel
theorem d_Mod_item_18 : decode b_Mod_item 18 = .ok (.iaload, 1) := by decide +kernel
theorem d_Mod_item_19 : decode b_Mod_item 19 = .ok (.if_icmp .ge 13, 3) := by decide +kernel
theorem d_Mod_item_22 : decode b_Mod_item 22 = .ok (.iload_n 3, 1) := by decide +kernel
theorem d_Mod_item_23 : decode b_Mod_item 23 = .ok (.iconst 0, 1) := by decide +kernel
theorem d_Mod_item_24 : decode b_Mod_item 24 = .ok (.bipush 7, 2) := by decide +kernel
theorem d_Mod_item_26 : decode b_Mod_item 26 = .ok (.invokestatic 79, 3) := by decide +kernel
theorem d_Mod_item_29 : decode b_Mod_item 29 = .ok (.ifCond .ne 5, 3) := by decide +kernel
theorem d_Mod_item_32 : decode b_Mod_item 32 = .ok (.iconst (-1), 1) := by decide +kernel
theorem d_Mod_item_33 : decode b_Mod_item 33 = .ok (.ireturn, 1) := by decide +kernel
theorem d_Mod_item_34 : decode b_Mod_item 34 = .ok (.aload_n 0, 1) := by decide +kernel
theorem d_Mod_item_35 : decode b_Mod_item 35 = .ok (.getfield 56, 3) := by decide +kernel
theorem d_Mod_item_38 : decode b_Mod_item 38 = .ok (.iload_n 1, 1) := by decide +kernel
theorem d_Mod_item_39 : decode b_Mod_item 39 = .ok (.iaload, 1) := by decide +kernel
theorem d_Mod_item_40 : decode b_Mod_item 40 = .ok (.iload_n 2, 1) := by decide +kernel
theorem d_Mod_item_41 : decode b_Mod_item 41 = .ok (.iadd, 1) := by decide +kernel
theorem d_Mod_item_42 : decode b_Mod_item 42 = .ok (.istore 4, 2) := by decide +kernel
theorem d_Mod_item_44 : decode b_Mod_item 44 = .ok (.iload_n 3, 1) := by decide +kernel
theorem d_Mod_item_45 : decode b_Mod_item 45 = .ok (.tableswitch 105 0 6 #[43, 51, 60, 69, 76, 84, 92], 43) := by decide +kernel
theorem d_Mod_item_88 : decode b_Mod_item 88 = .ok (.aload_n 0, 1) := by decide +kernel
theorem d_Mod_item_89 : decode b_Mod_item 89 = .ok (.getfield 7, 3) := by decide +kernel
theorem d_Mod_item_92 : decode b_Mod_item 92 = .ok (.iload 4, 2) := by decide +kernel
theorem d_Mod_item_94 : decode b_Mod_item 94 = .ok (.iaload, 1) := by decide +kernel
theorem d_Mod_item_95 : decode b_Mod_item 95 = .ok (.ireturn, 1) := by decide +kernel
theorem d_Mod_item_96 : decode b_Mod_item 96 = .ok (.aload_n 0, 1) := by decide +kernel
theorem d_Mod_item_97 : decode b_Mod_item 97 = .ok (.getfield 40, 3) := by decide +kernel
theorem d_Mod_item_100 : decode b_Mod_item 100 = .ok (.iload 4, 2) := by decide +kernel
theorem d_Mod_item_102 : decode b_Mod_item 102 = .ok (.laload, 1) := by decide +kernel
theorem d_Mod_item_103 : decode b_Mod_item 103 = .ok (.l2i, 1) := by decide +kernel
theorem d_Mod_item_104 : decode b_Mod_item 104 = .ok (.ireturn, 1) := by decide +kernel
theorem d_Mod_item_105 : decode b_Mod_item 105 = .ok (.aload_n 0, 1) := by decide +kernel
theorem d_Mod_item_106 : decode b_Mod_item 106 = .ok (.getfield 44, 3) := by decide +kernel
theorem d_Mod_item_109 : decode b_Mod_item 109 = .ok (.iload 4, 2) := by decide +kernel
theorem d_Mod_item_111 : decode b_Mod_item 111 = .ok (.laload, 1) := by decide +kernel
theorem d_Mod_item_112 : decode b_Mod_item 112 = .ok (.l2i, 1) := by decide +kernel
theorem d_Mod_item_113 : decode b_Mod_item 113 = .ok (.ireturn, 1) := by decide +kernel
theorem d_Mod_item_114 : decode b_Mod_item 114 = .ok (.aload_n 0, 1) := by decide +kernel
theorem d_Mod_item_115 : decode b_Mod_item 115 = .ok (.iload 4, 2) := by decide +kernel
theorem d_Mod_item_117 : decode b_Mod_item 117 = .ok (.invokevirtual 145, 3) := by decide +kernel
theorem d_Mod_item_120 : decode b_Mod_item 120 = .ok (.ireturn, 1) := by decide +kernel
theorem d_Mod_item_121 : decode b_Mod_item 121 = .ok (.aload_n 0, 1) := by decide +kernel
theorem d_Mod_item_122 : decode b_Mod_item 122 = .ok (.iload 4, 2) := by decide +kernel
theorem d_Mod_item_124 : decode b_Mod_item 124 = .ok (.invokevirtual 150, 3) := by decide +kernel
theorem d_Mod_item_127 : decode b_Mod_item 127 = .ok (.l2i, 1) := by decide +kernel
theorem d_Mod_item_128 : decode b_Mod_item 128 = .ok (.ireturn, 1) := by decide +kernel
theorem d_Mod_item_129 : decode b_Mod_item 129 = .ok (.aload_n 0, 1) := by decide +kernel
theorem d_Mod_item_130 : decode b_Mod_item 130 = .ok (.iload 4, 2) := by decide +kernel
theorem d_Mod_item_132 : decode b_Mod_item 132 = .ok (.invokevirtual 153, 3) := by decide +kernel
theorem d_Mod_item_135 : decode b_Mod_item 135 = .ok (.l2i, 1) := by decide +kernel
theorem d_Mod_item_136 : decode b_Mod_item 136 = .ok (.ireturn, 1) := by decide +kernel
theorem d_Mod_item_137 : decode b_Mod_item 137 = .ok (.aload_n 0, 1) := by decide +kernel
theorem d_Mod_item_138 : decode b_Mod_item 138 = .ok (.iload 4, 2) := by decide +kernel
theorem d_Mod_item_140 : decode b_Mod_item 140 = .ok (.aload_n 0, 1) := by decide +kernel
theorem d_Mod_item_141 : decode b_Mod_item 141 = .ok (.getfield 50, 3) := by decide +kernel
theorem d_Mod_item_144 : decode b_Mod_item 144 = .ok (.iload_n 1, 1) := by decide +kernel
theorem d_Mod_item_145 : decode b_Mod_item 145 = .ok (.iaload, 1) := by decide +kernel
theorem d_Mod_item_146 : decode b_Mod_item 146 = .ok (.invokevirtual 128, 3) := by decide +kernel
theorem d_Mod_item_149 : decode b_Mod_item 149 = .ok (.ireturn, 1) := by decide +kernel
theorem d_Mod_item_150 : decode b_Mod_item 150 = .ok (.aload_n 0, 1) := by decide +kernel
theorem d_Mod_item_151 : decode b_Mod_item 151 = .ok (.iload 4, 2) := by decide +kernel
theorem d_Mod_item_153 : decode b_Mod_item 153 = .ok (.aload_n 0, 1) := by decide +kernel
theorem d_Mod_item_154 : decode b_Mod_item 154 = .ok (.getfield 53, 3) := by decide +kernel
theorem d_Mod_item_157 : decode b_Mod_item 157 = .ok (.iload_n 1, 1) := by decide +kernel
theorem d_Mod_item_158 : decode b_Mod_item 158 = .ok (.iaload, 1) := by decide +kernel
theorem d_Mod_item_159 : decode b_Mod_item 159 = .ok (.invokevirtual 131, 3) := by decide +kernel
theorem d_Mod_item_162 : decode b_Mod_item 162 = .ok (.ireturn, 1) := by decide +kernel
theorem d_Mod_drawn_0 : decode b_Mod_drawn 0 = .ok (.aload_n 0, 1) := by decide +kernel
theorem d_Mod_drawn_1 : decode b_Mod_drawn 1 = .ok (.getfield 34, 3) := by decide +kernel
theorem d_Mod_drawn_4 : decode b_Mod_drawn 4 = .ok (.iload_n 1, 1) := by decide +kernel
theorem d_Mod_drawn_5 : decode b_Mod_drawn 5 = .ok (.iaload, 1) := by decide +kernel
theorem d_Mod_drawn_6 : decode b_Mod_drawn 6 = .ok (.ifCond .eq 27, 3) := by decide +kernel
theorem d_Mod_drawn_9 : decode b_Mod_drawn 9 = .ok (.aload_n 0, 1) := by decide +kernel
theorem d_Mod_drawn_10 : decode b_Mod_drawn 10 = .ok (.iload_n 1, 1) := by decide +kernel
theorem d_Mod_drawn_11 : decode b_Mod_drawn 11 = .ok (.invokevirtual 138, 3) := by decide +kernel
theorem d_Mod_drawn_14 : decode b_Mod_drawn 14 = .ok (.ifCond .eq 19, 3) := by decide +kernel
theorem d_Mod_drawn_17 : decode b_Mod_drawn 17 = .ok (.aload_n 0, 1) := by decide +kernel
theorem d_Mod_drawn_18 : decode b_Mod_drawn 18 = .ok (.getfield 40, 3) := by decide +kernel
theorem d_Mod_drawn_21 : decode b_Mod_drawn 21 = .ok (.iload_n 1, 1) := by decide +kernel
theorem d_Mod_drawn_22 : decode b_Mod_drawn 22 = .ok (.laload, 1) := by decide +kernel
theorem d_Mod_drawn_23 : decode b_Mod_drawn 23 = .ok (.aload_n 0, 1) := by decide +kernel
theorem d_Mod_drawn_24 : decode b_Mod_drawn 24 = .ok (.iload_n 1, 1) := by decide +kernel
theorem d_Mod_drawn_25 : decode b_Mod_drawn 25 = .ok (.invokevirtual 138, 3) := by decide +kernel
theorem d_Mod_drawn_28 : decode b_Mod_drawn 28 = .ok (.i2l, 1) := by decide +kernel
theorem d_Mod_drawn_29 : decode b_Mod_drawn 29 = .ok (.lcmp, 1) := by decide +kernel
theorem d_Mod_drawn_30 : decode b_Mod_drawn 30 = .ok (.ifCond .ge 5, 3) := by decide +kernel
theorem d_Mod_drawn_33 : decode b_Mod_drawn 33 = .ok (.iconst 0, 1) := by decide +kernel
theorem d_Mod_drawn_34 : decode b_Mod_drawn 34 = .ok (.ireturn, 1) := by decide +kernel
theorem d_Mod_drawn_35 : decode b_Mod_drawn 35 = .ok (.aload_n 0, 1) := by decide +kernel
theorem d_Mod_drawn_36 : decode b_Mod_drawn 36 = .ok (.getfield 34, 3) := by decide +kernel
theorem d_Mod_drawn_39 : decode b_Mod_drawn 39 = .ok (.iload_n 1, 1) := by decide +kernel
theorem d_Mod_drawn_40 : decode b_Mod_drawn 40 = .ok (.iaload, 1) := by decide +kernel
theorem d_Mod_drawn_41 : decode b_Mod_drawn 41 = .ok (.iconst 1, 1) := by decide +kernel
theorem d_Mod_drawn_42 : decode b_Mod_drawn 42 = .ok (.if_icmp .ne 43, 3) := by decide +kernel
theorem d_Mod_drawn_45 : decode b_Mod_drawn 45 = .ok (.aload_n 0, 1) := by decide +kernel
theorem d_Mod_drawn_46 : decode b_Mod_drawn 46 = .ok (.getfield 44, 3) := by decide +kernel
theorem d_Mod_drawn_49 : decode b_Mod_drawn 49 = .ok (.iload_n 1, 1) := by decide +kernel
theorem d_Mod_drawn_50 : decode b_Mod_drawn 50 = .ok (.laload, 1) := by decide +kernel
theorem d_Mod_drawn_51 : decode b_Mod_drawn 51 = .ok (.aload_n 0, 1) := by decide +kernel
theorem d_Mod_drawn_52 : decode b_Mod_drawn 52 = .ok (.getfield 40, 3) := by decide +kernel
theorem d_Mod_drawn_55 : decode b_Mod_drawn 55 = .ok (.iload_n 1, 1) := by decide +kernel
theorem d_Mod_drawn_56 : decode b_Mod_drawn 56 = .ok (.laload, 1) := by decide +kernel
theorem d_Mod_drawn_57 : decode b_Mod_drawn 57 = .ok (.ladd, 1) := by decide +kernel
theorem d_Mod_drawn_58 : decode b_Mod_drawn 58 = .ok (.aload_n 0, 1) := by decide +kernel
theorem d_Mod_drawn_59 : decode b_Mod_drawn 59 = .ok (.iload_n 1, 1) := by decide +kernel
theorem d_Mod_drawn_60 : decode b_Mod_drawn 60 = .ok (.invokevirtual 141, 3) := by decide +kernel
theorem d_Mod_drawn_63 : decode b_Mod_drawn 63 = .ok (.lsub, 1) := by decide +kernel
theorem d_Mod_drawn_64 : decode b_Mod_drawn 64 = .ok (.lstore_n 2, 1) := by decide +kernel
theorem d_Mod_drawn_65 : decode b_Mod_drawn 65 = .ok (.lload_n 2, 1) := by decide +kernel
theorem d_Mod_drawn_66 : decode b_Mod_drawn 66 = .ok (.lconst 0, 1) := by decide +kernel
theorem d_Mod_drawn_67 : decode b_Mod_drawn 67 = .ok (.lcmp, 1) := by decide +kernel
theorem d_Mod_drawn_68 : decode b_Mod_drawn 68 = .ok (.ifCond .ge 7, 3) := by decide +kernel
theorem d_Mod_drawn_71 : decode b_Mod_drawn 71 = .ok (.iconst 0, 1) := by decide +kernel
theorem d_Mod_drawn_72 : decode b_Mod_drawn 72 = .ok (.goto 12, 3) := by decide +kernel
theorem d_Mod_drawn_75 : decode b_Mod_drawn 75 = .ok (.lload_n 2, 1) := by decide +kernel
theorem d_Mod_drawn_76 : decode b_Mod_drawn 76 = .ok (.aload_n 0, 1) := by decide +kernel
theorem d_Mod_drawn_77 : decode b_Mod_drawn 77 = .ok (.iload_n 1, 1) := by decide +kernel
theorem d_Mod_drawn_78 : decode b_Mod_drawn 78 = .ok (.invokevirtual 138, 3) := by decide +kernel
theorem d_Mod_drawn_81 : decode b_Mod_drawn 81 = .ok (.i2l, 1) := by decide +kernel
theorem d_Mod_drawn_82 : decode b_Mod_drawn 82 = .ok (.ldiv, 1) := by decide +kernel
theorem d_Mod_drawn_83 : decode b_Mod_drawn 83 = .ok (.l2i, 1) := by decide +kernel
theorem d_Mod_drawn_84 : decode b_Mod_drawn 84 = .ok (.ireturn, 1) := by decide +kernel
theorem d_Mod_drawn_85 : decode b_Mod_drawn 85 = .ok (.aload_n 0, 1) := by decide +kernel
theorem d_Mod_drawn_86 : decode b_Mod_drawn 86 = .ok (.getfield 40, 3) := by decide +kernel
theorem d_Mod_drawn_89 : decode b_Mod_drawn 89 = .ok (.iload_n 1, 1) := by decide +kernel
theorem d_Mod_drawn_90 : decode b_Mod_drawn 90 = .ok (.laload, 1) := by decide +kernel
theorem d_Mod_drawn_91 : decode b_Mod_drawn 91 = .ok (.aload_n 0, 1) := by decide +kernel
theorem d_Mod_drawn_92 : decode b_Mod_drawn 92 = .ok (.iload_n 1, 1) := by decide +kernel
theorem d_Mod_drawn_93 : decode b_Mod_drawn 93 = .ok (.invokevirtual 138, 3) := by decide +kernel
theorem d_Mod_drawn_96 : decode b_Mod_drawn 96 = .ok (.i2l, 1) := by decide +kernel
theorem d_Mod_drawn_97 : decode b_Mod_drawn 97 = .ok (.ldiv, 1) := by decide +kernel
theorem d_Mod_drawn_98 : decode b_Mod_drawn 98 = .ok (.l2i, 1) := by decide +kernel
theorem d_Mod_drawn_99 : decode b_Mod_drawn 99 = .ok (.ireturn, 1) := by decide +kernel
theorem d_Mod_leaderLength_0 : decode b_Mod_leaderLength 0 = .ok (.aload_n 0, 1) := by decide +kernel
theorem d_Mod_leaderLength_1 : decode b_Mod_leaderLength 1 = .ok (.getfield 47, 3) := by decide +kernel
theorem d_Mod_leaderLength_4 : decode b_Mod_leaderLength 4 = .ok (.aload_n 0, 1) := by decide +kernel
theorem d_Mod_leaderLength_5 : decode b_Mod_leaderLength 5 = .ok (.getfield 37, 3) := by decide +kernel
theorem d_Mod_leaderLength_8 : decode b_Mod_leaderLength 8 = .ok (.iload_n 1, 1) := by decide +kernel
theorem d_Mod_leaderLength_9 : decode b_Mod_leaderLength 9 = .ok (.iaload, 1) := by decide +kernel
theorem d_Mod_leaderLength_10 : decode b_Mod_leaderLength 10 = .ok (.iaload, 1) := by decide +kernel
theorem d_Mod_leaderLength_11 : decode b_Mod_leaderLength 11 = .ok (.ireturn, 1) := by decide +kernel
theorem d_Mod_firstPlace_0 : decode b_Mod_firstPlace 0 = .ok (.aload_n 0, 1) := by decide +kernel
theorem d_Mod_firstPlace_1 : decode b_Mod_firstPlace 1 = .ok (.iload_n 1, 1) := by decide +kernel
theorem d_Mod_firstPlace_2 : decode b_Mod_firstPlace 2 = .ok (.invokevirtual 138, 3) := by decide +kernel
theorem d_Mod_firstPlace_5 : decode b_Mod_firstPlace 5 = .ok (.i2l, 1) := by decide +kernel
theorem d_Mod_firstPlace_6 : decode b_Mod_firstPlace 6 = .ok (.lstore_n 2, 1) := by decide +kernel
theorem d_Mod_firstPlace_7 : decode b_Mod_firstPlace 7 = .ok (.aload_n 0, 1) := by decide +kernel
theorem d_Mod_firstPlace_8 : decode b_Mod_firstPlace 8 = .ok (.getfield 44, 3) := by decide +kernel
theorem d_Mod_firstPlace_11 : decode b_Mod_firstPlace 11 = .ok (.iload_n 1, 1) := by decide +kernel
theorem d_Mod_firstPlace_12 : decode b_Mod_firstPlace 12 = .ok (.laload, 1) := by decide +kernel
theorem d_Mod_firstPlace_13 : decode b_Mod_firstPlace 13 = .ok (.lload_n 2, 1) := by decide +kernel
theorem d_Mod_firstPlace_14 : decode b_Mod_firstPlace 14 = .ok (.lrem, 1) := by decide +kernel
theorem d_Mod_firstPlace_15 : decode b_Mod_firstPlace 15 = .ok (.lstore 4, 2) := by decide +kernel
theorem d_Mod_firstPlace_17 : decode b_Mod_firstPlace 17 = .ok (.lload 4, 2) := by decide +kernel
theorem d_Mod_firstPlace_19 : decode b_Mod_firstPlace 19 = .ok (.lconst 0, 1) := by decide +kernel
theorem d_Mod_firstPlace_20 : decode b_Mod_firstPlace 20 = .ok (.lcmp, 1) := by decide +kernel
theorem d_Mod_firstPlace_21 : decode b_Mod_firstPlace 21 = .ok (.ifCond .ne 12, 3) := by decide +kernel
theorem d_Mod_firstPlace_24 : decode b_Mod_firstPlace 24 = .ok (.aload_n 0, 1) := by decide +kernel
theorem d_Mod_firstPlace_25 : decode b_Mod_firstPlace 25 = .ok (.getfield 44, 3) := by decide +kernel
theorem d_Mod_firstPlace_28 : decode b_Mod_firstPlace 28 = .ok (.iload_n 1, 1) := by decide +kernel
theorem d_Mod_firstPlace_29 : decode b_Mod_firstPlace 29 = .ok (.laload, 1) := by decide +kernel
theorem d_Mod_firstPlace_30 : decode b_Mod_firstPlace 30 = .ok (.goto 33, 3) := by decide +kernel
theorem d_Mod_firstPlace_33 : decode b_Mod_firstPlace 33 = .ok (.lload 4, 2) := by decide +kernel
theorem d_Mod_firstPlace_35 : decode b_Mod_firstPlace 35 = .ok (.lconst 0, 1) := by decide +kernel
theorem d_Mod_firstPlace_36 : decode b_Mod_firstPlace 36 = .ok (.lcmp, 1) := by decide +kernel
theorem d_Mod_firstPlace_37 : decode b_Mod_firstPlace 37 = .ok (.ifCond .ge 15, 3) := by decide +kernel
theorem d_Mod_firstPlace_40 : decode b_Mod_firstPlace 40 = .ok (.aload_n 0, 1) := by decide +kernel
theorem d_Mod_firstPlace_41 : decode b_Mod_firstPlace 41 = .ok (.getfield 44, 3) := by decide +kernel
theorem d_Mod_firstPlace_44 : decode b_Mod_firstPlace 44 = .ok (.iload_n 1, 1) := by decide +kernel
theorem d_Mod_firstPlace_45 : decode b_Mod_firstPlace 45 = .ok (.laload, 1) := by decide +kernel
theorem d_Mod_firstPlace_46 : decode b_Mod_firstPlace 46 = .ok (.lload 4, 2) := by decide +kernel
theorem d_Mod_firstPlace_48 : decode b_Mod_firstPlace 48 = .ok (.lsub, 1) := by decide +kernel
theorem d_Mod_firstPlace_49 : decode b_Mod_firstPlace 49 = .ok (.goto 14, 3) := by decide +kernel
theorem d_Mod_firstPlace_52 : decode b_Mod_firstPlace 52 = .ok (.aload_n 0, 1) := by decide +kernel
theorem d_Mod_firstPlace_53 : decode b_Mod_firstPlace 53 = .ok (.getfield 44, 3) := by decide +kernel
theorem d_Mod_firstPlace_56 : decode b_Mod_firstPlace 56 = .ok (.iload_n 1, 1) := by decide +kernel
theorem d_Mod_firstPlace_57 : decode b_Mod_firstPlace 57 = .ok (.laload, 1) := by decide +kernel
theorem d_Mod_firstPlace_58 : decode b_Mod_firstPlace 58 = .ok (.lload 4, 2) := by decide +kernel
theorem d_Mod_firstPlace_60 : decode b_Mod_firstPlace 60 = .ok (.lsub, 1) := by decide +kernel
theorem d_Mod_firstPlace_61 : decode b_Mod_firstPlace 61 = .ok (.lload_n 2, 1) := by decide +kernel
theorem d_Mod_firstPlace_62 : decode b_Mod_firstPlace 62 = .ok (.ladd, 1) := by decide +kernel
theorem d_Mod_firstPlace_63 : decode b_Mod_firstPlace 63 = .ok (.lreturn, 1) := by decide +kernel
theorem d_Mod_firstOf_0 : decode b_Mod_firstOf 0 = .ok (.aload_n 0, 1) := by decide +kernel
theorem d_Mod_firstOf_1 : decode b_Mod_firstOf 1 = .ok (.iload_n 1, 1) := by decide +kernel
theorem d_Mod_firstOf_2 : decode b_Mod_firstOf 2 = .ok (.invokevirtual 145, 3) := by decide +kernel
theorem d_Mod_firstOf_5 : decode b_Mod_firstOf 5 = .ok (.istore_n 2, 1) := by decide +kernel
theorem d_Mod_firstOf_6 : decode b_Mod_firstOf 6 = .ok (.iload_n 2, 1) := by decide +kernel
theorem d_Mod_firstOf_7 : decode b_Mod_firstOf 7 = .ok (.ifCond .ne 5, 3) := by decide +kernel
theorem d_Mod_firstOf_10 : decode b_Mod_firstOf 10 = .ok (.lconst 0, 1) := by decide +kernel
theorem d_Mod_firstOf_11 : decode b_Mod_firstOf 11 = .ok (.lreturn, 1) := by decide +kernel
theorem d_Mod_firstOf_12 : decode b_Mod_firstOf 12 = .ok (.aload_n 0, 1) := by decide +kernel
theorem d_Mod_firstOf_13 : decode b_Mod_firstOf 13 = .ok (.getfield 40, 3) := by decide +kernel
theorem d_Mod_firstOf_16 : decode b_Mod_firstOf 16 = .ok (.iload_n 1, 1) := by decide +kernel
theorem d_Mod_firstOf_17 : decode b_Mod_firstOf 17 = .ok (.laload, 1) := by decide +kernel
theorem d_Mod_firstOf_18 : decode b_Mod_firstOf 18 = .ok (.iload_n 2, 1) := by decide +kernel
theorem d_Mod_firstOf_19 : decode b_Mod_firstOf 19 = .ok (.i2l, 1) := by decide +kernel
theorem d_Mod_firstOf_20 : decode b_Mod_firstOf 20 = .ok (.aload_n 0, 1) := by decide +kernel
theorem d_Mod_firstOf_21 : decode b_Mod_firstOf 21 = .ok (.iload_n 1, 1) := by decide +kernel
theorem d_Mod_firstOf_22 : decode b_Mod_firstOf 22 = .ok (.invokevirtual 138, 3) := by decide +kernel
theorem d_Mod_firstOf_25 : decode b_Mod_firstOf 25 = .ok (.i2l, 1) := by decide +kernel
theorem d_Mod_firstOf_26 : decode b_Mod_firstOf 26 = .ok (.lmul, 1) := by decide +kernel
theorem d_Mod_firstOf_27 : decode b_Mod_firstOf 27 = .ok (.lsub, 1) := by decide +kernel
theorem d_Mod_firstOf_28 : decode b_Mod_firstOf 28 = .ok (.lstore_n 3, 1) := by decide +kernel
theorem d_Mod_firstOf_29 : decode b_Mod_firstOf 29 = .ok (.aload_n 0, 1) := by decide +kernel
theorem d_Mod_firstOf_30 : decode b_Mod_firstOf 30 = .ok (.getfield 34, 3) := by decide +kernel
theorem d_Mod_firstOf_33 : decode b_Mod_firstOf 33 = .ok (.iload_n 1, 1) := by decide +kernel
theorem d_Mod_firstOf_34 : decode b_Mod_firstOf 34 = .ok (.iaload, 1) := by decide +kernel
theorem d_Mod_firstOf_35 : decode b_Mod_firstOf 35 = .ok (.iconst 1, 1) := by decide +kernel
theorem d_Mod_firstOf_36 : decode b_Mod_firstOf 36 = .ok (.if_icmp .ne 11, 3) := by decide +kernel
theorem d_Mod_firstOf_39 : decode b_Mod_firstOf 39 = .ok (.aload_n 0, 1) := by decide +kernel
theorem d_Mod_firstOf_40 : decode b_Mod_firstOf 40 = .ok (.iload_n 1, 1) := by decide +kernel
theorem d_Mod_firstOf_41 : decode b_Mod_firstOf 41 = .ok (.invokevirtual 141, 3) := by decide +kernel
theorem d_Mod_firstOf_44 : decode b_Mod_firstOf 44 = .ok (.goto 41, 3) := by decide +kernel
theorem d_Mod_firstOf_47 : decode b_Mod_firstOf 47 = .ok (.aload_n 0, 1) := by decide +kernel
theorem d_Mod_firstOf_48 : decode b_Mod_firstOf 48 = .ok (.getfield 34, 3) := by decide +kernel
theorem d_Mod_firstOf_51 : decode b_Mod_firstOf 51 = .ok (.iload_n 1, 1) := by decide +kernel
theorem d_Mod_firstOf_52 : decode b_Mod_firstOf 52 = .ok (.iaload, 1) := by decide +kernel
theorem d_Mod_firstOf_53 : decode b_Mod_firstOf 53 = .ok (.iconst 2, 1) := by decide +kernel
theorem d_Mod_firstOf_54 : decode b_Mod_firstOf 54 = .ok (.if_icmp .ne 18, 3) := by decide +kernel
theorem d_Mod_firstOf_57 : decode b_Mod_firstOf 57 = .ok (.aload_n 0, 1) := by decide +kernel
theorem d_Mod_firstOf_58 : decode b_Mod_firstOf 58 = .ok (.getfield 44, 3) := by decide +kernel
theorem d_Mod_firstOf_61 : decode b_Mod_firstOf 61 = .ok (.iload_n 1, 1) := by decide +kernel
theorem d_Mod_firstOf_62 : decode b_Mod_firstOf 62 = .ok (.laload, 1) := by decide +kernel
theorem d_Mod_firstOf_63 : decode b_Mod_firstOf 63 = .ok (.lload_n 3, 1) := by decide +kernel
theorem d_Mod_firstOf_64 : decode b_Mod_firstOf 64 = .ok (.ldc2_w 148, 3) := by decide +kernel
theorem d_Mod_firstOf_67 : decode b_Mod_firstOf 67 = .ok (.ldiv, 1) := by decide +kernel
theorem d_Mod_firstOf_68 : decode b_Mod_firstOf 68 = .ok (.ladd, 1) := by decide +kernel
theorem d_Mod_firstOf_69 : decode b_Mod_firstOf 69 = .ok (.goto 16, 3) := by decide +kernel
theorem d_Mod_firstOf_72 : decode b_Mod_firstOf 72 = .ok (.aload_n 0, 1) := by decide +kernel
theorem d_Mod_firstOf_73 : decode b_Mod_firstOf 73 = .ok (.getfield 44, 3) := by decide +kernel
theorem d_Mod_firstOf_76 : decode b_Mod_firstOf 76 = .ok (.iload_n 1, 1) := by decide +kernel
theorem d_Mod_firstOf_77 : decode b_Mod_firstOf 77 = .ok (.laload, 1) := by decide +kernel
theorem d_Mod_firstOf_78 : decode b_Mod_firstOf 78 = .ok (.lload_n 3, 1) := by decide +kernel
theorem d_Mod_firstOf_79 : decode b_Mod_firstOf 79 = .ok (.iload_n 2, 1) := by decide +kernel
theorem d_Mod_firstOf_80 : decode b_Mod_firstOf 80 = .ok (.i2l, 1) := by decide +kernel
theorem d_Mod_firstOf_81 : decode b_Mod_firstOf 81 = .ok (.lconst 1, 1) := by decide +kernel
theorem d_Mod_firstOf_82 : decode b_Mod_firstOf 82 = .ok (.ladd, 1) := by decide +kernel
theorem d_Mod_firstOf_83 : decode b_Mod_firstOf 83 = .ok (.ldiv, 1) := by decide +kernel
theorem d_Mod_firstOf_84 : decode b_Mod_firstOf 84 = .ok (.ladd, 1) := by decide +kernel
theorem d_Mod_firstOf_85 : decode b_Mod_firstOf 85 = .ok (.lreturn, 1) := by decide +kernel
end
section
theorem d_Mod_stepOf_0 : decode b_Mod_stepOf 0 = .ok (.aload_n 0, 1) := by decide +kernel
theorem d_Mod_stepOf_1 : decode b_Mod_stepOf 1 = .ok (.iload_n 1, 1) := by decide +kernel
theorem d_Mod_stepOf_2 : decode b_Mod_stepOf 2 = .ok (.invokevirtual 145, 3) := by decide +kernel
theorem d_Mod_stepOf_5 : decode b_Mod_stepOf 5 = .ok (.istore_n 2, 1) := by decide +kernel
theorem d_Mod_stepOf_6 : decode b_Mod_stepOf 6 = .ok (.iload_n 2, 1) := by decide +kernel
theorem d_Mod_stepOf_7 : decode b_Mod_stepOf 7 = .ok (.ifCond .ne 5, 3) := by decide +kernel
theorem d_Mod_stepOf_10 : decode b_Mod_stepOf 10 = .ok (.lconst 0, 1) := by decide +kernel
theorem d_Mod_stepOf_11 : decode b_Mod_stepOf 11 = .ok (.lreturn, 1) := by decide +kernel
theorem d_Mod_stepOf_12 : decode b_Mod_stepOf 12 = .ok (.aload_n 0, 1) := by decide +kernel
theorem d_Mod_stepOf_13 : decode b_Mod_stepOf 13 = .ok (.getfield 40, 3) := by decide +kernel
theorem d_Mod_stepOf_16 : decode b_Mod_stepOf 16 = .ok (.iload_n 1, 1) := by decide +kernel
theorem d_Mod_stepOf_17 : decode b_Mod_stepOf 17 = .ok (.laload, 1) := by decide +kernel
theorem d_Mod_stepOf_18 : decode b_Mod_stepOf 18 = .ok (.iload_n 2, 1) := by decide +kernel
theorem d_Mod_stepOf_19 : decode b_Mod_stepOf 19 = .ok (.i2l, 1) := by decide +kernel
theorem d_Mod_stepOf_20 : decode b_Mod_stepOf 20 = .ok (.aload_n 0, 1) := by decide +kernel
theorem d_Mod_stepOf_21 : decode b_Mod_stepOf 21 = .ok (.iload_n 1, 1) := by decide +kernel
theorem d_Mod_stepOf_22 : decode b_Mod_stepOf 22 = .ok (.invokevirtual 138, 3) := by decide +kernel
theorem d_Mod_stepOf_25 : decode b_Mod_stepOf 25 = .ok (.i2l, 1) := by decide +kernel
theorem d_Mod_stepOf_26 : decode b_Mod_stepOf 26 = .ok (.lmul, 1) := by decide +kernel
theorem d_Mod_stepOf_27 : decode b_Mod_stepOf 27 = .ok (.lsub, 1) := by decide +kernel
theorem d_Mod_stepOf_28 : decode b_Mod_stepOf 28 = .ok (.lstore_n 3, 1) := by decide +kernel
theorem d_Mod_stepOf_29 : decode b_Mod_stepOf 29 = .ok (.aload_n 0, 1) := by decide +kernel
theorem d_Mod_stepOf_30 : decode b_Mod_stepOf 30 = .ok (.getfield 34, 3) := by decide +kernel
theorem d_Mod_stepOf_33 : decode b_Mod_stepOf 33 = .ok (.iload_n 1, 1) := by decide +kernel
theorem d_Mod_stepOf_34 : decode b_Mod_stepOf 34 = .ok (.iaload, 1) := by decide +kernel
theorem d_Mod_stepOf_35 : decode b_Mod_stepOf 35 = .ok (.iconst 3, 1) := by decide +kernel
theorem d_Mod_stepOf_36 : decode b_Mod_stepOf 36 = .ok (.if_icmp .ne 19, 3) := by decide +kernel
theorem d_Mod_stepOf_39 : decode b_Mod_stepOf 39 = .ok (.aload_n 0, 1) := by decide +kernel
theorem d_Mod_stepOf_40 : decode b_Mod_stepOf 40 = .ok (.iload_n 1, 1) := by decide +kernel
theorem d_Mod_stepOf_41 : decode b_Mod_stepOf 41 = .ok (.invokevirtual 138, 3) := by decide +kernel
theorem d_Mod_stepOf_44 : decode b_Mod_stepOf 44 = .ok (.i2l, 1) := by decide +kernel
theorem d_Mod_stepOf_45 : decode b_Mod_stepOf 45 = .ok (.lload_n 3, 1) := by decide +kernel
theorem d_Mod_stepOf_46 : decode b_Mod_stepOf 46 = .ok (.iload_n 2, 1) := by decide +kernel
theorem d_Mod_stepOf_47 : decode b_Mod_stepOf 47 = .ok (.i2l, 1) := by decide +kernel
theorem d_Mod_stepOf_48 : decode b_Mod_stepOf 48 = .ok (.lconst 1, 1) := by decide +kernel
theorem d_Mod_stepOf_49 : decode b_Mod_stepOf 49 = .ok (.ladd, 1) := by decide +kernel
theorem d_Mod_stepOf_50 : decode b_Mod_stepOf 50 = .ok (.ldiv, 1) := by decide +kernel
theorem d_Mod_stepOf_51 : decode b_Mod_stepOf 51 = .ok (.ladd, 1) := by decide +kernel
theorem d_Mod_stepOf_52 : decode b_Mod_stepOf 52 = .ok (.goto 9, 3) := by decide +kernel
theorem d_Mod_stepOf_55 : decode b_Mod_stepOf 55 = .ok (.aload_n 0, 1) := by decide +kernel
theorem d_Mod_stepOf_56 : decode b_Mod_stepOf 56 = .ok (.iload_n 1, 1) := by decide +kernel
theorem d_Mod_stepOf_57 : decode b_Mod_stepOf 57 = .ok (.invokevirtual 138, 3) := by decide +kernel
theorem d_Mod_stepOf_60 : decode b_Mod_stepOf 60 = .ok (.i2l, 1) := by decide +kernel
theorem d_Mod_stepOf_61 : decode b_Mod_stepOf 61 = .ok (.lreturn, 1) := by decide +kernel
theorem d_Mod_size_0 : decode b_Mod_size 0 = .ok (.aload_n 0, 1) := by decide +kernel
theorem d_Mod_size_1 : decode b_Mod_size 1 = .ok (.getfield 83, 3) := by decide +kernel
theorem d_Mod_size_4 : decode b_Mod_size 4 = .ok (.ireturn, 1) := by decide +kernel
theorem d_Mod_drop_0 : decode b_Mod_drop 0 = .ok (.aload_n 0, 1) := by decide +kernel
theorem d_Mod_drop_1 : decode b_Mod_drop 1 = .ok (.getfield 83, 3) := by decide +kernel
theorem d_Mod_drop_4 : decode b_Mod_drop 4 = .ok (.ifCond .ne 6, 3) := by decide +kernel
theorem d_Mod_drop_7 : decode b_Mod_drop 7 = .ok (.bipush (-3), 2) := by decide +kernel
theorem d_Mod_drop_9 : decode b_Mod_drop 9 = .ok (.ireturn, 1) := by decide +kernel
theorem d_Mod_drop_10 : decode b_Mod_drop 10 = .ok (.aload_n 0, 1) := by decide +kernel
theorem d_Mod_drop_11 : decode b_Mod_drop 11 = .ok (.dup, 1) := by decide +kernel
theorem d_Mod_drop_12 : decode b_Mod_drop 12 = .ok (.getfield 83, 3) := by decide +kernel
theorem d_Mod_drop_15 : decode b_Mod_drop 15 = .ok (.iconst 1, 1) := by decide +kernel
theorem d_Mod_drop_16 : decode b_Mod_drop 16 = .ok (.isub, 1) := by decide +kernel
theorem d_Mod_drop_17 : decode b_Mod_drop 17 = .ok (.putfield 83, 3) := by decide +kernel
theorem d_Mod_drop_20 : decode b_Mod_drop 20 = .ok (.aload_n 0, 1) := by decide +kernel
theorem d_Mod_drop_21 : decode b_Mod_drop 21 = .ok (.getfield 83, 3) := by decide +kernel
theorem d_Mod_drop_24 : decode b_Mod_drop 24 = .ok (.ireturn, 1) := by decide +kernel
theorem d_Mod_boxes_0 : decode b_Mod_boxes 0 = .ok (.aload_n 0, 1) := by decide +kernel
theorem d_Mod_boxes_1 : decode b_Mod_boxes 1 = .ok (.getfield 74, 3) := by decide +kernel
theorem d_Mod_boxes_4 : decode b_Mod_boxes 4 = .ok (.ireturn, 1) := by decide +kernel
theorem d_law_0 : decode code 0 = .ok (.new 7, 3) := by decide +kernel
theorem d_law_3 : decode code 3 = .ok (.dup, 1) := by decide +kernel
theorem d_law_4 : decode code 4 = .ok (.invokespecial 9, 3) := by decide +kernel
theorem d_law_7 : decode code 7 = .ok (.astore_n 1, 1) := by decide +kernel
theorem d_law_8 : decode code 8 = .ok (.new 10, 3) := by decide +kernel
theorem d_law_11 : decode code 11 = .ok (.dup, 1) := by decide +kernel
theorem d_law_12 : decode code 12 = .ok (.invokespecial 12, 3) := by decide +kernel
theorem d_law_15 : decode code 15 = .ok (.astore_n 2, 1) := by decide +kernel
theorem d_law_16 : decode code 16 = .ok (.iconst 0, 1) := by decide +kernel
theorem d_law_17 : decode code 17 = .ok (.istore_n 3, 1) := by decide +kernel
theorem d_law_18 : decode code 18 = .ok (.iload_n 3, 1) := by decide +kernel
theorem d_law_19 : decode code 19 = .ok (.aload_n 0, 1) := by decide +kernel
theorem d_law_20 : decode code 20 = .ok (.arraylength, 1) := by decide +kernel
theorem d_law_21 : decode code 21 = .ok (.bipush 6, 2) := by decide +kernel
theorem d_law_23 : decode code 23 = .ok (.isub, 1) := by decide +kernel
theorem d_law_24 : decode code 24 = .ok (.if_icmp .gt 499, 3) := by decide +kernel
theorem d_law_27 : decode code 27 = .ok (.aload_n 0, 1) := by decide +kernel
theorem d_law_28 : decode code 28 = .ok (.iload_n 3, 1) := by decide +kernel
theorem d_law_29 : decode code 29 = .ok (.iaload, 1) := by decide +kernel
theorem d_law_30 : decode code 30 = .ok (.bipush 15, 2) := by decide +kernel
theorem d_law_32 : decode code 32 = .ok (.iand, 1) := by decide +kernel
theorem d_law_33 : decode code 33 = .ok (.tableswitch 484 0 13 #[71, 114, 147, 210, 233, 276, 309, 332, 355, 388, 431, 444, 458, 471], 71) := by decide +kernel
theorem d_law_104 : decode code 104 = .ok (.aload_n 1, 1) := by decide +kernel
theorem d_law_105 : decode code 105 = .ok (.aload_n 0, 1) := by decide +kernel
theorem d_law_106 : decode code 106 = .ok (.iload_n 3, 1) := by decide +kernel
theorem d_law_107 : decode code 107 = .ok (.iconst 1, 1) := by decide +kernel
theorem d_law_108 : decode code 108 = .ok (.iadd, 1) := by decide +kernel
theorem d_law_109 : decode code 109 = .ok (.iaload, 1) := by decide +kernel
theorem d_law_110 : decode code 110 = .ok (.aload_n 0, 1) := by decide +kernel
theorem d_law_111 : decode code 111 = .ok (.iload_n 3, 1) := by decide +kernel
theorem d_law_112 : decode code 112 = .ok (.iconst 2, 1) := by decide +kernel
theorem d_law_113 : decode code 113 = .ok (.iadd, 1) := by decide +kernel
theorem d_law_114 : decode code 114 = .ok (.iaload, 1) := by decide +kernel
theorem d_law_115 : decode code 115 = .ok (.aload_n 0, 1) := by decide +kernel
theorem d_law_116 : decode code 116 = .ok (.iload_n 3, 1) := by decide +kernel
theorem d_law_117 : decode code 117 = .ok (.iconst 3, 1) := by decide +kernel
theorem d_law_118 : decode code 118 = .ok (.iadd, 1) := by decide +kernel
theorem d_law_119 : decode code 119 = .ok (.iaload, 1) := by decide +kernel
theorem d_law_120 : decode code 120 = .ok (.invokevirtual 13, 3) := by decide +kernel
theorem d_law_123 : decode code 123 = .ok (.aload_n 2, 1) := by decide +kernel
theorem d_law_124 : decode code 124 = .ok (.aload_n 0, 1) := by decide +kernel
theorem d_law_125 : decode code 125 = .ok (.iload_n 3, 1) := by decide +kernel
theorem d_law_126 : decode code 126 = .ok (.iconst 1, 1) := by decide +kernel
theorem d_law_127 : decode code 127 = .ok (.iadd, 1) := by decide +kernel
theorem d_law_128 : decode code 128 = .ok (.iaload, 1) := by decide +kernel
theorem d_law_129 : decode code 129 = .ok (.aload_n 0, 1) := by decide +kernel
theorem d_law_130 : decode code 130 = .ok (.iload_n 3, 1) := by decide +kernel
theorem d_law_131 : decode code 131 = .ok (.iconst 2, 1) := by decide +kernel
theorem d_law_132 : decode code 132 = .ok (.iadd, 1) := by decide +kernel
theorem d_law_133 : decode code 133 = .ok (.iaload, 1) := by decide +kernel
theorem d_law_134 : decode code 134 = .ok (.aload_n 0, 1) := by decide +kernel
theorem d_law_135 : decode code 135 = .ok (.iload_n 3, 1) := by decide +kernel
theorem d_law_136 : decode code 136 = .ok (.iconst 3, 1) := by decide +kernel
theorem d_law_137 : decode code 137 = .ok (.iadd, 1) := by decide +kernel
theorem d_law_138 : decode code 138 = .ok (.iaload, 1) := by decide +kernel
theorem d_law_139 : decode code 139 = .ok (.invokevirtual 17, 3) := by decide +kernel
theorem d_law_142 : decode code 142 = .ok (.if_icmp .eq 375, 3) := by decide +kernel
theorem d_law_145 : decode code 145 = .ok (.iconst 0, 1) := by decide +kernel
theorem d_law_146 : decode code 146 = .ok (.ireturn, 1) := by decide +kernel
theorem d_law_147 : decode code 147 = .ok (.aload_n 1, 1) := by decide +kernel
theorem d_law_148 : decode code 148 = .ok (.aload_n 0, 1) := by decide +kernel
theorem d_law_149 : decode code 149 = .ok (.iload_n 3, 1) := by decide +kernel
theorem d_law_150 : decode code 150 = .ok (.iconst 1, 1) := by decide +kernel
theorem d_law_151 : decode code 151 = .ok (.iadd, 1) := by decide +kernel
theorem d_law_152 : decode code 152 = .ok (.iaload, 1) := by decide +kernel
theorem d_law_153 : decode code 153 = .ok (.aload_n 0, 1) := by decide +kernel
theorem d_law_154 : decode code 154 = .ok (.iload_n 3, 1) := by decide +kernel
theorem d_law_155 : decode code 155 = .ok (.iconst 2, 1) := by decide +kernel
theorem d_law_156 : decode code 156 = .ok (.iadd, 1) := by decide +kernel
theorem d_law_157 : decode code 157 = .ok (.iaload, 1) := by decide +kernel
theorem d_law_158 : decode code 158 = .ok (.invokevirtual 18, 3) := by decide +kernel
theorem d_law_161 : decode code 161 = .ok (.aload_n 2, 1) := by decide +kernel
theorem d_law_162 : decode code 162 = .ok (.aload_n 0, 1) := by decide +kernel
theorem d_law_163 : decode code 163 = .ok (.iload_n 3, 1) := by decide +kernel
theorem d_law_164 : decode code 164 = .ok (.iconst 1, 1) := by decide +kernel
theorem d_law_165 : decode code 165 = .ok (.iadd, 1) := by decide +kernel
theorem d_law_166 : decode code 166 = .ok (.iaload, 1) := by decide +kernel
theorem d_law_167 : decode code 167 = .ok (.aload_n 0, 1) := by decide +kernel
theorem d_law_168 : decode code 168 = .ok (.iload_n 3, 1) := by decide +kernel
theorem d_law_169 : decode code 169 = .ok (.iconst 2, 1) := by decide +kernel
theorem d_law_170 : decode code 170 = .ok (.iadd, 1) := by decide +kernel
theorem d_law_171 : decode code 171 = .ok (.iaload, 1) := by decide +kernel
theorem d_law_172 : decode code 172 = .ok (.invokevirtual 22, 3) := by decide +kernel
theorem d_law_175 : decode code 175 = .ok (.if_icmp .eq 342, 3) := by decide +kernel
theorem d_law_178 : decode code 178 = .ok (.iconst 0, 1) := by decide +kernel
theorem d_law_179 : decode code 179 = .ok (.ireturn, 1) := by decide +kernel
theorem d_law_180 : decode code 180 = .ok (.aload_n 1, 1) := by decide +kernel
theorem d_law_181 : decode code 181 = .ok (.aload_n 0, 1) := by decide +kernel
theorem d_law_182 : decode code 182 = .ok (.iload_n 3, 1) := by decide +kernel
theorem d_law_183 : decode code 183 = .ok (.iconst 1, 1) := by decide +kernel
theorem d_law_184 : decode code 184 = .ok (.iadd, 1) := by decide +kernel
theorem d_law_185 : decode code 185 = .ok (.iaload, 1) := by decide +kernel
theorem d_law_186 : decode code 186 = .ok (.aload_n 0, 1) := by decide +kernel
theorem d_law_187 : decode code 187 = .ok (.iload_n 3, 1) := by decide +kernel
theorem d_law_188 : decode code 188 = .ok (.iconst 2, 1) := by decide +kernel
theorem d_law_189 : decode code 189 = .ok (.iadd, 1) := by decide +kernel
theorem d_law_190 : decode code 190 = .ok (.iaload, 1) := by decide +kernel
theorem d_law_191 : decode code 191 = .ok (.aload_n 0, 1) := by decide +kernel
theorem d_law_192 : decode code 192 = .ok (.iload_n 3, 1) := by decide +kernel
theorem d_law_193 : decode code 193 = .ok (.iconst 3, 1) := by decide +kernel
theorem d_law_194 : decode code 194 = .ok (.iadd, 1) := by decide +kernel
theorem d_law_195 : decode code 195 = .ok (.iaload, 1) := by decide +kernel
theorem d_law_196 : decode code 196 = .ok (.aload_n 0, 1) := by decide +kernel
theorem d_law_197 : decode code 197 = .ok (.iload_n 3, 1) := by decide +kernel
theorem d_law_198 : decode code 198 = .ok (.iconst 4, 1) := by decide +kernel
theorem d_law_199 : decode code 199 = .ok (.iadd, 1) := by decide +kernel
theorem d_law_200 : decode code 200 = .ok (.iaload, 1) := by decide +kernel
theorem d_law_201 : decode code 201 = .ok (.aload_n 0, 1) := by decide +kernel
theorem d_law_202 : decode code 202 = .ok (.iload_n 3, 1) := by decide +kernel
theorem d_law_203 : decode code 203 = .ok (.iconst 5, 1) := by decide +kernel
theorem d_law_204 : decode code 204 = .ok (.iadd, 1) := by decide +kernel
theorem d_law_205 : decode code 205 = .ok (.iaload, 1) := by decide +kernel
theorem d_law_206 : decode code 206 = .ok (.invokevirtual 23, 3) := by decide +kernel
theorem d_law_209 : decode code 209 = .ok (.aload_n 2, 1) := by decide +kernel
theorem d_law_210 : decode code 210 = .ok (.aload_n 0, 1) := by decide +kernel
theorem d_law_211 : decode code 211 = .ok (.iload_n 3, 1) := by decide +kernel
theorem d_law_212 : decode code 212 = .ok (.iconst 1, 1) := by decide +kernel
theorem d_law_213 : decode code 213 = .ok (.iadd, 1) := by decide +kernel
theorem d_law_214 : decode code 214 = .ok (.iaload, 1) := by decide +kernel
theorem d_law_215 : decode code 215 = .ok (.aload_n 0, 1) := by decide +kernel
theorem d_law_216 : decode code 216 = .ok (.iload_n 3, 1) := by decide +kernel
theorem d_law_217 : decode code 217 = .ok (.iconst 2, 1) := by decide +kernel
theorem d_law_218 : decode code 218 = .ok (.iadd, 1) := by decide +kernel
theorem d_law_219 : decode code 219 = .ok (.iaload, 1) := by decide +kernel
theorem d_law_220 : decode code 220 = .ok (.aload_n 0, 1) := by decide +kernel
theorem d_law_221 : decode code 221 = .ok (.iload_n 3, 1) := by decide +kernel
theorem d_law_222 : decode code 222 = .ok (.iconst 3, 1) := by decide +kernel
theorem d_law_223 : decode code 223 = .ok (.iadd, 1) := by decide +kernel
theorem d_law_224 : decode code 224 = .ok (.iaload, 1) := by decide +kernel
theorem d_law_225 : decode code 225 = .ok (.aload_n 0, 1) := by decide +kernel
theorem d_law_226 : decode code 226 = .ok (.iload_n 3, 1) := by decide +kernel
theorem d_law_227 : decode code 227 = .ok (.iconst 4, 1) := by decide +kernel
theorem d_law_228 : decode code 228 = .ok (.iadd, 1) := by decide +kernel
theorem d_law_229 : decode code 229 = .ok (.iaload, 1) := by decide +kernel
theorem d_law_230 : decode code 230 = .ok (.aload_n 0, 1) := by decide +kernel
theorem d_law_231 : decode code 231 = .ok (.iload_n 3, 1) := by decide +kernel
theorem d_law_232 : decode code 232 = .ok (.iconst 5, 1) := by decide +kernel
theorem d_law_233 : decode code 233 = .ok (.iadd, 1) := by decide +kernel
theorem d_law_234 : decode code 234 = .ok (.iaload, 1) := by decide +kernel
theorem d_law_235 : decode code 235 = .ok (.invokevirtual 27, 3) := by decide +kernel
theorem d_law_238 : decode code 238 = .ok (.if_icmp .eq 279, 3) := by decide +kernel
theorem d_law_241 : decode code 241 = .ok (.iconst 0, 1) := by decide +kernel
theorem d_law_242 : decode code 242 = .ok (.ireturn, 1) := by decide +kernel
theorem d_law_243 : decode code 243 = .ok (.aload_n 1, 1) := by decide +kernel
theorem d_law_244 : decode code 244 = .ok (.aload_n 0, 1) := by decide +kernel
theorem d_law_245 : decode code 245 = .ok (.iload_n 3, 1) := by decide +kernel
theorem d_law_246 : decode code 246 = .ok (.iconst 1, 1) := by decide +kernel
theorem d_law_247 : decode code 247 = .ok (.iadd, 1) := by decide +kernel
theorem d_law_248 : decode code 248 = .ok (.iaload, 1) := by decide +kernel
theorem d_law_249 : decode code 249 = .ok (.invokevirtual 28, 3) := by decide +kernel
theorem d_law_252 : decode code 252 = .ok (.aload_n 2, 1) := by decide +kernel
theorem d_law_253 : decode code 253 = .ok (.aload_n 0, 1) := by decide +kernel
theorem d_law_254 : decode code 254 = .ok (.iload_n 3, 1) := by decide +kernel
theorem d_law_255 : decode code 255 = .ok (.iconst 1, 1) := by decide +kernel
theorem d_law_256 : decode code 256 = .ok (.iadd, 1) := by decide +kernel
theorem d_law_257 : decode code 257 = .ok (.iaload, 1) := by decide +kernel
theorem d_law_258 : decode code 258 = .ok (.invokevirtual 32, 3) := by decide +kernel
theorem d_law_261 : decode code 261 = .ok (.if_icmp .eq 256, 3) := by decide +kernel
theorem d_law_264 : decode code 264 = .ok (.iconst 0, 1) := by decide +kernel
theorem d_law_265 : decode code 265 = .ok (.ireturn, 1) := by decide +kernel
theorem d_law_266 : decode code 266 = .ok (.aload_n 1, 1) := by decide +kernel
theorem d_law_267 : decode code 267 = .ok (.aload_n 0, 1) := by decide +kernel
theorem d_law_268 : decode code 268 = .ok (.iload_n 3, 1) := by decide +kernel
theorem d_law_269 : decode code 269 = .ok (.iconst 1, 1) := by decide +kernel
theorem d_law_270 : decode code 270 = .ok (.iadd, 1) := by decide +kernel
theorem d_law_271 : decode code 271 = .ok (.iaload, 1) := by decide +kernel
theorem d_law_272 : decode code 272 = .ok (.aload_n 0, 1) := by decide +kernel
theorem d_law_273 : decode code 273 = .ok (.iload_n 3, 1) := by decide +kernel
theorem d_law_274 : decode code 274 = .ok (.iconst 2, 1) := by decide +kernel
theorem d_law_275 : decode code 275 = .ok (.iadd, 1) := by decide +kernel
theorem d_law_276 : decode code 276 = .ok (.iaload, 1) := by decide +kernel
theorem d_law_277 : decode code 277 = .ok (.aload_n 0, 1) := by decide +kernel
theorem d_law_278 : decode code 278 = .ok (.iload_n 3, 1) := by decide +kernel
theorem d_law_279 : decode code 279 = .ok (.iconst 3, 1) := by decide +kernel
theorem d_law_280 : decode code 280 = .ok (.iadd, 1) := by decide +kernel
theorem d_law_281 : decode code 281 = .ok (.iaload, 1) := by decide +kernel
theorem d_law_282 : decode code 282 = .ok (.invokevirtual 33, 3) := by decide +kernel
theorem d_law_285 : decode code 285 = .ok (.aload_n 2, 1) := by decide +kernel
theorem d_law_286 : decode code 286 = .ok (.aload_n 0, 1) := by decide +kernel
theorem d_law_287 : decode code 287 = .ok (.iload_n 3, 1) := by decide +kernel
theorem d_law_288 : decode code 288 = .ok (.iconst 1, 1) := by decide +kernel
theorem d_law_289 : decode code 289 = .ok (.iadd, 1) := by decide +kernel
theorem d_law_290 : decode code 290 = .ok (.iaload, 1) := by decide +kernel
theorem d_law_291 : decode code 291 = .ok (.aload_n 0, 1) := by decide +kernel
theorem d_law_292 : decode code 292 = .ok (.iload_n 3, 1) := by decide +kernel
theorem d_law_293 : decode code 293 = .ok (.iconst 2, 1) := by decide +kernel
theorem d_law_294 : decode code 294 = .ok (.iadd, 1) := by decide +kernel
theorem d_law_295 : decode code 295 = .ok (.iaload, 1) := by decide +kernel
theorem d_law_296 : decode code 296 = .ok (.aload_n 0, 1) := by decide +kernel
theorem d_law_297 : decode code 297 = .ok (.iload_n 3, 1) := by decide +kernel
theorem d_law_298 : decode code 298 = .ok (.iconst 3, 1) := by decide +kernel
theorem d_law_299 : decode code 299 = .ok (.iadd, 1) := by decide +kernel
theorem d_law_300 : decode code 300 = .ok (.iaload, 1) := by decide +kernel
theorem d_law_301 : decode code 301 = .ok (.invokevirtual 36, 3) := by decide +kernel
theorem d_law_304 : decode code 304 = .ok (.if_icmp .eq 213, 3) := by decide +kernel
theorem d_law_307 : decode code 307 = .ok (.iconst 0, 1) := by decide +kernel
theorem d_law_308 : decode code 308 = .ok (.ireturn, 1) := by decide +kernel
theorem d_law_309 : decode code 309 = .ok (.aload_n 1, 1) := by decide +kernel
theorem d_law_310 : decode code 310 = .ok (.aload_n 0, 1) := by decide +kernel
theorem d_law_311 : decode code 311 = .ok (.iload_n 3, 1) := by decide +kernel
theorem d_law_312 : decode code 312 = .ok (.iconst 1, 1) := by decide +kernel
theorem d_law_313 : decode code 313 = .ok (.iadd, 1) := by decide +kernel
theorem d_law_314 : decode code 314 = .ok (.iaload, 1) := by decide +kernel
theorem d_law_315 : decode code 315 = .ok (.aload_n 0, 1) := by decide +kernel
theorem d_law_316 : decode code 316 = .ok (.iload_n 3, 1) := by decide +kernel
theorem d_law_317 : decode code 317 = .ok (.iconst 2, 1) := by decide +kernel
theorem d_law_318 : decode code 318 = .ok (.iadd, 1) := by decide +kernel
theorem d_law_319 : decode code 319 = .ok (.iaload, 1) := by decide +kernel
theorem d_law_320 : decode code 320 = .ok (.invokevirtual 37, 3) := by decide +kernel
theorem d_law_323 : decode code 323 = .ok (.aload_n 2, 1) := by decide +kernel
theorem d_law_324 : decode code 324 = .ok (.aload_n 0, 1) := by decide +kernel
theorem d_law_325 : decode code 325 = .ok (.iload_n 3, 1) := by decide +kernel
theorem d_law_326 : decode code 326 = .ok (.iconst 1, 1) := by decide +kernel
theorem d_law_327 : decode code 327 = .ok (.iadd, 1) := by decide +kernel
theorem d_law_328 : decode code 328 = .ok (.iaload, 1) := by decide +kernel
theorem d_law_329 : decode code 329 = .ok (.aload_n 0, 1) := by decide +kernel
theorem d_law_330 : decode code 330 = .ok (.iload_n 3, 1) := by decide +kernel
theorem d_law_331 : decode code 331 = .ok (.iconst 2, 1) := by decide +kernel
theorem d_law_332 : decode code 332 = .ok (.iadd, 1) := by decide +kernel
theorem d_law_333 : decode code 333 = .ok (.iaload, 1) := by decide +kernel
theorem d_law_334 : decode code 334 = .ok (.invokevirtual 40, 3) := by decide +kernel
theorem d_law_337 : decode code 337 = .ok (.if_icmp .eq 180, 3) := by decide +kernel
theorem d_law_340 : decode code 340 = .ok (.iconst 0, 1) := by decide +kernel
theorem d_law_341 : decode code 341 = .ok (.ireturn, 1) := by decide +kernel
theorem d_law_342 : decode code 342 = .ok (.aload_n 1, 1) := by decide +kernel
theorem d_law_343 : decode code 343 = .ok (.aload_n 0, 1) := by decide +kernel
theorem d_law_344 : decode code 344 = .ok (.iload_n 3, 1) := by decide +kernel
theorem d_law_345 : decode code 345 = .ok (.iconst 1, 1) := by decide +kernel
theorem d_law_346 : decode code 346 = .ok (.iadd, 1) := by decide +kernel
theorem d_law_347 : decode code 347 = .ok (.iaload, 1) := by decide +kernel
theorem d_law_348 : decode code 348 = .ok (.invokevirtual 41, 3) := by decide +kernel
theorem d_law_351 : decode code 351 = .ok (.aload_n 2, 1) := by decide +kernel
theorem d_law_352 : decode code 352 = .ok (.aload_n 0, 1) := by decide +kernel
theorem d_law_353 : decode code 353 = .ok (.iload_n 3, 1) := by decide +kernel
theorem d_law_354 : decode code 354 = .ok (.iconst 1, 1) := by decide +kernel
theorem d_law_355 : decode code 355 = .ok (.iadd, 1) := by decide +kernel
theorem d_law_356 : decode code 356 = .ok (.iaload, 1) := by decide +kernel
theorem d_law_357 : decode code 357 = .ok (.invokevirtual 44, 3) := by decide +kernel
theorem d_law_360 : decode code 360 = .ok (.if_icmp .eq 157, 3) := by decide +kernel
theorem d_law_363 : decode code 363 = .ok (.iconst 0, 1) := by decide +kernel
theorem d_law_364 : decode code 364 = .ok (.ireturn, 1) := by decide +kernel
theorem d_law_365 : decode code 365 = .ok (.aload_n 1, 1) := by decide +kernel
theorem d_law_366 : decode code 366 = .ok (.aload_n 0, 1) := by decide +kernel
theorem d_law_367 : decode code 367 = .ok (.iload_n 3, 1) := by decide +kernel
theorem d_law_368 : decode code 368 = .ok (.iconst 1, 1) := by decide +kernel
theorem d_law_369 : decode code 369 = .ok (.iadd, 1) := by decide +kernel
theorem d_law_370 : decode code 370 = .ok (.iaload, 1) := by decide +kernel
theorem d_law_371 : decode code 371 = .ok (.invokevirtual 45, 3) := by decide +kernel
theorem d_law_374 : decode code 374 = .ok (.aload_n 2, 1) := by decide +kernel
theorem d_law_375 : decode code 375 = .ok (.aload_n 0, 1) := by decide +kernel
theorem d_law_376 : decode code 376 = .ok (.iload_n 3, 1) := by decide +kernel
theorem d_law_377 : decode code 377 = .ok (.iconst 1, 1) := by decide +kernel
theorem d_law_378 : decode code 378 = .ok (.iadd, 1) := by decide +kernel
theorem d_law_379 : decode code 379 = .ok (.iaload, 1) := by decide +kernel
theorem d_law_380 : decode code 380 = .ok (.invokevirtual 48, 3) := by decide +kernel
theorem d_law_383 : decode code 383 = .ok (.if_icmp .eq 134, 3) := by decide +kernel
theorem d_law_386 : decode code 386 = .ok (.iconst 0, 1) := by decide +kernel
theorem d_law_387 : decode code 387 = .ok (.ireturn, 1) := by decide +kernel
theorem d_law_388 : decode code 388 = .ok (.aload_n 1, 1) := by decide +kernel
theorem d_law_389 : decode code 389 = .ok (.aload_n 0, 1) := by decide +kernel
theorem d_law_390 : decode code 390 = .ok (.iload_n 3, 1) := by decide +kernel
theorem d_law_391 : decode code 391 = .ok (.iconst 1, 1) := by decide +kernel
theorem d_law_392 : decode code 392 = .ok (.iadd, 1) := by decide +kernel
theorem d_law_393 : decode code 393 = .ok (.iaload, 1) := by decide +kernel
theorem d_law_394 : decode code 394 = .ok (.aload_n 0, 1) := by decide +kernel
theorem d_law_395 : decode code 395 = .ok (.iload_n 3, 1) := by decide +kernel
theorem d_law_396 : decode code 396 = .ok (.iconst 2, 1) := by decide +kernel
theorem d_law_397 : decode code 397 = .ok (.iadd, 1) := by decide +kernel
theorem d_law_398 : decode code 398 = .ok (.iaload, 1) := by decide +kernel
theorem d_law_399 : decode code 399 = .ok (.invokevirtual 49, 3) := by decide +kernel
theorem d_law_402 : decode code 402 = .ok (.aload_n 2, 1) := by decide +kernel
theorem d_law_403 : decode code 403 = .ok (.aload_n 0, 1) := by decide +kernel
theorem d_law_404 : decode code 404 = .ok (.iload_n 3, 1) := by decide +kernel
theorem d_law_405 : decode code 405 = .ok (.iconst 1, 1) := by decide +kernel
theorem d_law_406 : decode code 406 = .ok (.iadd, 1) := by decide +kernel
theorem d_law_407 : decode code 407 = .ok (.iaload, 1) := by decide +kernel
theorem d_law_408 : decode code 408 = .ok (.aload_n 0, 1) := by decide +kernel
theorem d_law_409 : decode code 409 = .ok (.iload_n 3, 1) := by decide +kernel
theorem d_law_410 : decode code 410 = .ok (.iconst 2, 1) := by decide +kernel
theorem d_law_411 : decode code 411 = .ok (.iadd, 1) := by decide +kernel
theorem d_law_412 : decode code 412 = .ok (.iaload, 1) := by decide +kernel
theorem d_law_413 : decode code 413 = .ok (.invokevirtual 52, 3) := by decide +kernel
theorem d_law_416 : decode code 416 = .ok (.if_icmp .eq 101, 3) := by decide +kernel
theorem d_law_419 : decode code 419 = .ok (.iconst 0, 1) := by decide +kernel
theorem d_law_420 : decode code 420 = .ok (.ireturn, 1) := by decide +kernel
theorem d_law_421 : decode code 421 = .ok (.aload_n 1, 1) := by decide +kernel
theorem d_law_422 : decode code 422 = .ok (.aload_n 0, 1) := by decide +kernel
theorem d_law_423 : decode code 423 = .ok (.iload_n 3, 1) := by decide +kernel
theorem d_law_424 : decode code 424 = .ok (.iconst 1, 1) := by decide +kernel
theorem d_law_425 : decode code 425 = .ok (.iadd, 1) := by decide +kernel
theorem d_law_426 : decode code 426 = .ok (.iaload, 1) := by decide +kernel
theorem d_law_427 : decode code 427 = .ok (.aload_n 0, 1) := by decide +kernel
theorem d_law_428 : decode code 428 = .ok (.iload_n 3, 1) := by decide +kernel
theorem d_law_429 : decode code 429 = .ok (.iconst 2, 1) := by decide +kernel
theorem d_law_430 : decode code 430 = .ok (.iadd, 1) := by decide +kernel
theorem d_law_431 : decode code 431 = .ok (.iaload, 1) := by decide +kernel
theorem d_law_432 : decode code 432 = .ok (.aload_n 0, 1) := by decide +kernel
theorem d_law_433 : decode code 433 = .ok (.iload_n 3, 1) := by decide +kernel
theorem d_law_434 : decode code 434 = .ok (.iconst 3, 1) := by decide +kernel
theorem d_law_435 : decode code 435 = .ok (.iadd, 1) := by decide +kernel
theorem d_law_436 : decode code 436 = .ok (.iaload, 1) := by decide +kernel
theorem d_law_437 : decode code 437 = .ok (.invokevirtual 53, 3) := by decide +kernel
theorem d_law_440 : decode code 440 = .ok (.aload_n 2, 1) := by decide +kernel
theorem d_law_441 : decode code 441 = .ok (.aload_n 0, 1) := by decide +kernel
theorem d_law_442 : decode code 442 = .ok (.iload_n 3, 1) := by decide +kernel
theorem d_law_443 : decode code 443 = .ok (.iconst 1, 1) := by decide +kernel
theorem d_law_444 : decode code 444 = .ok (.iadd, 1) := by decide +kernel
theorem d_law_445 : decode code 445 = .ok (.iaload, 1) := by decide +kernel
theorem d_law_446 : decode code 446 = .ok (.aload_n 0, 1) := by decide +kernel
theorem d_law_447 : decode code 447 = .ok (.iload_n 3, 1) := by decide +kernel
theorem d_law_448 : decode code 448 = .ok (.iconst 2, 1) := by decide +kernel
theorem d_law_449 : decode code 449 = .ok (.iadd, 1) := by decide +kernel
theorem d_law_450 : decode code 450 = .ok (.iaload, 1) := by decide +kernel
theorem d_law_451 : decode code 451 = .ok (.aload_n 0, 1) := by decide +kernel
theorem d_law_452 : decode code 452 = .ok (.iload_n 3, 1) := by decide +kernel
theorem d_law_453 : decode code 453 = .ok (.iconst 3, 1) := by decide +kernel
theorem d_law_454 : decode code 454 = .ok (.iadd, 1) := by decide +kernel
theorem d_law_455 : decode code 455 = .ok (.iaload, 1) := by decide +kernel
theorem d_law_456 : decode code 456 = .ok (.invokevirtual 56, 3) := by decide +kernel
theorem d_law_459 : decode code 459 = .ok (.if_icmp .eq 58, 3) := by decide +kernel
theorem d_law_462 : decode code 462 = .ok (.iconst 0, 1) := by decide +kernel
theorem d_law_463 : decode code 463 = .ok (.ireturn, 1) := by decide +kernel
theorem d_law_464 : decode code 464 = .ok (.aload_n 1, 1) := by decide +kernel
theorem d_law_465 : decode code 465 = .ok (.invokevirtual 57, 3) := by decide +kernel
theorem d_law_468 : decode code 468 = .ok (.aload_n 2, 1) := by decide +kernel
theorem d_law_469 : decode code 469 = .ok (.invokevirtual 61, 3) := by decide +kernel
theorem d_law_472 : decode code 472 = .ok (.if_icmp .eq 45, 3) := by decide +kernel
theorem d_law_475 : decode code 475 = .ok (.iconst 0, 1) := by decide +kernel
theorem d_law_476 : decode code 476 = .ok (.ireturn, 1) := by decide +kernel
theorem d_law_477 : decode code 477 = .ok (.aload_n 1, 1) := by decide +kernel
theorem d_law_478 : decode code 478 = .ok (.invokevirtual 62, 3) := by decide +kernel
theorem d_law_481 : decode code 481 = .ok (.aload_n 2, 1) := by decide +kernel
theorem d_law_482 : decode code 482 = .ok (.invokevirtual 66, 3) := by decide +kernel
theorem d_law_485 : decode code 485 = .ok (.lcmp, 1) := by decide +kernel
theorem d_law_486 : decode code 486 = .ok (.ifCond .eq 31, 3) := by decide +kernel
theorem d_law_489 : decode code 489 = .ok (.iconst 0, 1) := by decide +kernel
theorem d_law_490 : decode code 490 = .ok (.ireturn, 1) := by decide +kernel
theorem d_law_491 : decode code 491 = .ok (.aload_n 1, 1) := by decide +kernel
theorem d_law_492 : decode code 492 = .ok (.invokevirtual 67, 3) := by decide +kernel
theorem d_law_495 : decode code 495 = .ok (.aload_n 2, 1) := by decide +kernel
theorem d_law_496 : decode code 496 = .ok (.invokevirtual 70, 3) := by decide +kernel
theorem d_law_499 : decode code 499 = .ok (.if_icmp .eq 18, 3) := by decide +kernel
theorem d_law_502 : decode code 502 = .ok (.iconst 0, 1) := by decide +kernel
theorem d_law_503 : decode code 503 = .ok (.ireturn, 1) := by decide +kernel
theorem d_law_504 : decode code 504 = .ok (.aload_n 1, 1) := by decide +kernel
theorem d_law_505 : decode code 505 = .ok (.invokevirtual 71, 3) := by decide +kernel
theorem d_law_508 : decode code 508 = .ok (.aload_n 2, 1) := by decide +kernel
theorem d_law_509 : decode code 509 = .ok (.invokevirtual 74, 3) := by decide +kernel
theorem d_law_512 : decode code 512 = .ok (.if_icmp .eq 5, 3) := by decide +kernel
theorem d_law_515 : decode code 515 = .ok (.iconst 0, 1) := by decide +kernel
theorem d_law_516 : decode code 516 = .ok (.ireturn, 1) := by decide +kernel
theorem d_law_517 : decode code 517 = .ok (.iinc 3 6, 3) := by decide +kernel
theorem d_law_520 : decode code 520 = .ok (.goto (-502), 3) := by decide +kernel
theorem d_law_523 : decode code 523 = .ok (.iconst 1, 1) := by decide +kernel
theorem d_law_524 : decode code 524 = .ok (.ireturn, 1) := by decide +kernel
end
section
/-! contracts over named heaps: a callee starts at the heap H0, which is a parameter; what it finds there are premises of its contract -/
def kPc (av : List Value) (K : State → Prop) (H0 : Heap) : Array Value → State → Prop := fun v U => v = av.toArray ∧ U.heap = H0 ∧ K U
def kQc (Rr : Option Value → Heap → Prop) : Array Value → State → Outcome → State → Prop := fun _ _ o t => ∃ v, o = .returned v ∧ Rr v t.heap
def kPure (r : Value) (H0 : Heap) : Option Value → Heap → Prop := fun v H1 => v = some r ∧ H1 = H0
def kSt (K : State → Prop) : Prop := ∀ u U : State, u.vm.Alike U.vm → K u → K U
/-- cells outside A are as they were -/
def kE (A : Nat → Prop) (H0 H1 : Heap) : Prop := H0.size ≤ H1.size ∧ ∀ q : Nat, q < H0.size → ¬ A q → H1[q]? = H0[q]?
theorem kE.rf {A : Nat → Prop} {H : Heap} : kE A H H := ⟨Nat.le_refl _, fun _ _ _ => rfl⟩
theorem kE.tr {A B : Nat → Prop} {H0 H1 H2 : Heap} (h : kE A H0 H1) (g : kE B H1 H2) (hB : ∀ q, q < H0.size → B q → A q) : kE A H0 H2 :=
  ⟨Nat.le_trans h.1 g.1, fun q h1 h2 => (g.2 q (Nat.lt_of_lt_of_le h1 h.1) (fun z => h2 (hB q h1 z))).trans (h.2 q h1 h2)⟩
theorem kE.wk {A B : Nat → Prop} {H0 H1 : Heap} (h : kE A H0 H1) (hA : ∀ q, q < H0.size → A q → B q) : kE B H0 H1 := ⟨h.1, fun q h1 h2 => h.2 q h1 (fun z => h2 (hA q h1 z))⟩
theorem kE.ofS {A : Nat → Prop} {H0 H1 : Heap} {locs : List Loc} (h : va_S A H0 H1 locs) : kE A H0 H1 := ⟨h.1, h.2.1⟩
theorem kE.S {A : Nat → Prop} {H0 H1 : Heap} {locs : List Loc} (h : kE A H0 H1) (hL : ∀ q ∈ locs, A q.base) : va_S A H0 H1 locs := ⟨h.1, h.2, hL⟩
theorem kE.at {A : Nat → Prop} {H0 H1 : Heap} {D : va_G} {cl : List vw_C} {q : Nat × va_E} (h : kE A H0 H1) (ho : va_at D cl q H0) (hq : ¬ A q.1) : va_at D cl q H1 := ho.kept (h.2 q.1 ho.lt hq)
theorem k_one {D : va_G} {cl : List vw_C} {q : Nat × va_E} {H : Heap} (h : va_at D cl q H) : va_P D cl [q] H := by
  intro k x hx
  match k, hx with
  | 0, hx => cases hx; exact h
  | k + 1, hx => simp at hx
theorem k_two {D : va_G} {cl : List vw_C} {q r : Nat × va_E} {H : Heap} (h : va_at D cl q H) (h2 : va_at D cl r H) : va_P D cl [q, r] H := by
  intro k x hx
  match k, hx with
  | 0, hx => cases hx; exact h
  | 1, hx => cases hx; exact h2
  | k + 2, hx => simp at hx
theorem k_D1 {A : Nat → Prop} {q : Nat × va_E} (h : A q.1) : va_D A [q] := by
  refine ⟨fun i j x y hi hj _ => ?_, fun k x hx => ?_⟩
  · match i, j, hi, hj with
    | 0, 0, _, _ => rfl
    | i + 1, _, hi, _ => simp at hi
    | 0, j + 1, _, hj => simp at hj
  · match k, hx with
    | 0, hx => cases hx; exact h
    | k + 1, hx => simp at hx
theorem k_D2 {A : Nat → Prop} {q r : Nat × va_E} (h : A q.1) (h2 : A r.1) (hn : q.1 ≠ r.1) : va_D A [q, r] := by
  refine ⟨fun i j x y hi hj e => ?_, fun k x hx => ?_⟩
  · match i, j, hi, hj with
    | 0, 0, _, _ => rfl
    | 1, 1, _, _ => rfl
    | 0, 1, hi, hj => cases hi; cases hj; exact absurd e hn
    | 1, 0, hi, hj => cases hi; cases hj; exact absurd e.symm hn
    | i + 2, _, hi, _ => simp at hi
    | 0, j + 2, _, hj => simp at hj
    | 1, j + 2, _, hj => simp at hj
  · match k, hx with
    | 0, hx => cases hx; exact h
    | 1, hx => cases hx; exact h2
    | k + 2, hx => simp at hx
theorem k_three {D : va_G} {cl : List vw_C} {q r z : Nat × va_E} {H : Heap} (h : va_at D cl q H) (h2 : va_at D cl r H) (h3 : va_at D cl z H) : va_P D cl [q, r, z] H := by
  intro k x hx
  match k, hx with
  | 0, hx => cases hx; exact h
  | 1, hx => cases hx; exact h2
  | 2, hx => cases hx; exact h3
  | k + 3, hx => simp at hx
theorem k_D3 {A : Nat → Prop} {q r z : Nat × va_E} (h : A q.1) (h2 : A r.1) (h3 : A z.1) (n1 : q.1 ≠ r.1) (n2 : q.1 ≠ z.1) (n3 : r.1 ≠ z.1) : va_D A [q, r, z] := by
  refine ⟨fun i j x y hi hj e => ?_, fun k x hx => ?_⟩
  · match i, j, hi, hj with
    | 0, 0, _, _ => rfl
    | 1, 1, _, _ => rfl
    | 2, 2, _, _ => rfl
    | 0, 1, hi, hj => cases hi; cases hj; exact absurd e n1
    | 1, 0, hi, hj => cases hi; cases hj; exact absurd e.symm n1
    | 0, 2, hi, hj => cases hi; cases hj; exact absurd e n2
    | 2, 0, hi, hj => cases hi; cases hj; exact absurd e.symm n2
    | 1, 2, hi, hj => cases hi; cases hj; exact absurd e n3
    | 2, 1, hi, hj => cases hi; cases hj; exact absurd e.symm n3
    | i + 3, _, hi, _ => simp at hi
    | 0, j + 3, _, hj => simp at hj
    | 1, j + 3, _, hj => simp at hj
    | 2, j + 3, _, hj => simp at hj
  · match k, hx with
    | 0, hx => cases hx; exact h
    | 1, hx => cases hx; exact h2
    | 2, hx => cases hx; exact h3
    | k + 3, hx => simp at hx
theorem k_blind {av : List Value} {K : State → Prop} {H0 : Heap} (hK : kSt K) : FrameBlind (kPc av K H0) := fun a U g mk q => ⟨q.1, q.2.1, hK U (U.calling g mk a) (Vm.Alike.refl U.vm) q.2.2⟩
theorem k_pre {s : State} {H : Heap} {K : State → Prop} {av : List Value} (hK : kSt K) (hs : K s) : PreS s H (kPc av K H) av := ⟨k_blind hK, fun U hU hW => ⟨rfl, hU, hK s U hW.alike hs⟩⟩
theorem k_preV {s : State} {H : Heap} {C : String} {b : Addr} {K : State → Prop} {As : List Value} (hK : kSt K) (hs : K s) (hr : ∃ cell : Cell, H[b]? = some cell ∧ cell.vm.isStatics = false ∧ s.vm.findClass C = some cell.cls) : PreV s H C b (kPc (.ref b :: As) K H) As :=
  ⟨k_blind hK, hr, fun U hU hW => ⟨rfl, hU, hK s U hW.alike hs⟩⟩
section KB
variable {p : Program} {l : Launch} {e : Env} {R : Room} {s : State} {m : MethodId} {args : Array Value} {below : List Frame} {meth : Method} {c : Code} {H : Heap} {locs : List Loc} {cells slots : Nat} {Q : State → Prop}
variable {pc : Nat} {ls : Array Slot} {rest st0 : List Value} {a : Array Value} {A : Nat → Prop} {mc ms : Nat} {free : Addr → Prop}
/-- a call that answers r and leaves the heap -/
theorem k_pure {r : Value} (hr : CallRun p l e R s m args below meth c H locs cells slots 0 0 (F0 m pc ls st0) rest (kQc (kPure r H) a) (fun _ => False))
    (kk : W p l e R s m args below meth c H locs cells slots Q (F0 m (pc + 3) ls (r :: rest))) : W p l e R s m args below meth c H locs cells slots Q (F0 m pc ls st0) := by
  intro T hT X
  obtain ⟨v, st₀, t, T', L, h0, X', hL, e1, ⟨v', hv, hp, hh⟩, st⟩ := hr T hT X
  cases hv
  subst hp
  obtain ⟨t2, a1, b1⟩ := kk T' (by rw [e1, hh]) (Stand.forget X' (fun q h => (hL q h).elim))
  exact ⟨t2, st t2 a1, b1⟩
/-- any other call -/
theorem k_call {Rr : Option Value → Heap → Prop} (hr : CallRun p l e R s m args below meth c H locs cells slots mc ms (F0 m pc ls st0) rest (kQc Rr a) free) (hL : ∀ q ∈ locs, A q.base) (hf : ∀ q, free q → A q)
    (kk : ∀ (v : Option Value) (H1 : Heap) (locs1 : List Loc), Rr v H1 → (∀ q ∈ locs1, A q.base) → W p l e R s m args below meth c H1 locs1 (cells + mc) (slots + ms) Q (F0 m (pc + 3) ls (v.toList ++ rest))) : W p l e R s m args below meth c H locs cells slots Q (F0 m pc ls st0) := by
  intro T hT X
  obtain ⟨v, st₀, t, T', L, h0, X', hL', e1, ⟨v', hv, hp⟩, st⟩ := hr T hT X
  cases hv
  obtain ⟨t2, a1, b1⟩ := kk v T'.heap (locs ++ L) (by rw [e1]; exact hp) (t_lL hL (fun q hq => hf _ (hL' q hq))) T' rfl X'
  exact ⟨t2, st t2 a1, b1⟩
/-- a new object: it lies behind all cells, and these stay -/
theorem k_new {cc : ByteArray} {D : va_G} {cl : List vw_C} {tys : List (ClassId × FieldType)} (hexec : p.tables.exec = Jvm.exec) (hb : c.code = cc) {own C : String} {T : u_T} {N ci index : Nat} {Ts : List Cond} (hts : ∀ w ∈ Ts, w.before args s = true) (hin : ∀ w ∈ u_ws C T N, w ∈ Ts) (ty : Nat → FieldType) (hty : ∀ k, k < N → parseFieldDescriptor (T k).2.2.1 = some (ty k)) (hown : s.vm.findClass own = some m.cls) (hcl : (Cond.classLink own index C).before args s = true) (hinst : (Cond.instantiable C N).before args s = true) (hini : (Cond.initialized C).before args s = true)
    (hK : va_K D cl tys s) (hc : cl[ci]? = some (C, T, N)) {fs : List Value} (hfs : ∀ j, j < N → defaultValue (ty j) = vp_V fs j) (hcells : cells + 1 ≤ R.cells) (hslots : slots + N ≤ R.slots) (hdg : decode cc pc = .ok (.new index, 3))
    (kk : ∀ (q : Nat) (H1 : Heap), q = H.size → va_at D cl (q, .inr (ci, fs)) H1 → kE (fun _ => False) H H1 → W p l e R s m args below meth c H1 locs (cells + 1) (slots + N) Q (F0 m (pc + 3) ls (.ref q :: rest))) : W p l e R s m args below meth c H locs cells slots Q (F0 m pc ls rest) := by
  have hKn := hK.1 ci _ hc
  refine W.newcK hexec hb hown hcl hinst hini rfl hdg hcells hslots hKn.2.1 rfl fun H1 kC hkC e1 z1 o1 => ?_
  exact kk H.size H1 rfl ⟨_, hc, (u_born ty hts hin hKn hkC e1 hty).to hfs⟩ ⟨by omega, fun q hq _ => o1 q hq⟩
end KB
end
section
/-! what all methods use of a state's tables -/
def kCast : List Cond := [.castable "BoxGlue$Box" "BoxGlue$Box", .castable "BoxGlue$Glue" "BoxGlue$Glue", .castable "BoxGlue$Glue" "BoxGlue$Item", .castable "BoxGlue$Kern" "BoxGlue$Item", .castable "BoxGlue$Put" "BoxGlue$Item", .castable "BoxGlue$Rule" "BoxGlue$Item", .castable "BoxGlue$Placed" "BoxGlue$Placed", .castable "BoxGlue$Box" "java/lang/Object", .castable "BoxGlue$Put" "java/lang/Object", .castable "BoxGlue$Glue" "java/lang/Object", .castable "BoxGlue$Kern" "java/lang/Object", .castable "BoxGlue$Rule" "java/lang/Object", .castable "BoxGlue$Placed" "java/lang/Object"]
/-- numbers of classes and slots; the array classes; the heap at the law's start; the shared empty array; the mirror of Object[] -/
abbrev KGt : Type := va_G × (ClassId × ClassId × ClassId) × Heap × Nat × Nat
abbrev kTy (g : KGt) : List (ClassId × FieldType) := [(g.2.1.1, .object "java/lang/Object"), (g.2.1.2.1, .int), (g.2.1.2.2, .long)]
def kCastAt (U : State) : Prop := ∀ w ∈ kCast, va_Nw w U
def kNoGlue (U : State) : Prop := va_Nc "BoxGlue$Put" "BoxGlue$Glue" U ∧ va_Nc "BoxGlue$Kern" "BoxGlue$Glue" U ∧ va_Nc "BoxGlue$Rule" "BoxGlue$Glue" U
def KK (g : KGt) (U : State) : Prop := va_K g.1 kcl (kTy g) U ∧ kCastAt U ∧ kNoGlue U ∧ va_AO "java/lang/Object" U ∧ va_Mi "[Ljava/lang/Object;" g.2.2.2.2 U ∧ va_Dc U ∧ va_Z "java/util/ArrayList" "DEFAULTCAPACITY_EMPTY_ELEMENTDATA" "[Ljava/lang/Object;" (.ref g.2.2.2.1) (fun _ => False) U g.2.2.1 ∧ va_T (.object "java/lang/Object") g.2.2.2.1 0 (fun _ => .null) (fun _ => False) U g.2.2.1
theorem kNw_moved {C T : String} {u U : State} (hvm : u.vm.Alike U.vm) (h : va_Nw (.castable C T) u) : va_Nw (.castable C T) U := va_tabs rfl (rfl : (u.setVm U.vm).vm = U.vm) (by rw [Cond.castable_setVm hvm]; exact h)
theorem kCast_moved {u U : State} (hvm : u.vm.Alike U.vm) (h : kCastAt u) : kCastAt U := by
  intro w hw
  have hc : ∃ C T, w = .castable C T := by
    simp only [kCast, List.mem_cons, List.not_mem_nil, or_false] at hw
    rcases hw with h | h | h | h | h | h | h | h | h | h | h | h | h <;> exact ⟨_, _, h⟩
  obtain ⟨C, T, rfl⟩ := hc
  exact kNw_moved hvm (h _ hw)
theorem KK_st (g : KGt) : kSt (KK g) := fun u U hvm h => ⟨h.1.moved hvm, kCast_moved hvm h.2.1, ⟨h.2.2.1.1.moved hvm, h.2.2.1.2.1.moved hvm, h.2.2.1.2.2.moved hvm⟩, h.2.2.2.1.moved hvm, h.2.2.2.2.1.moved hvm, h.2.2.2.2.2.1.moved hvm, h.2.2.2.2.2.2.1.moved hvm, h.2.2.2.2.2.2.2.moved hvm⟩
/-- a method's words: its own code, and the tables' -/
abbrev kW (y : MethodName) (b : ByteArray) (n : Nat) (r : Option FieldType) : List Cond := .code y b n r :: kG
theorem kW_ts {y : MethodName} {b : ByteArray} {n : Nat} {r : Option FieldType} {args : Array Value} {s : State} (h : ∀ w ∈ kW y b n r, w.before args s = true) : ∀ w ∈ kG, w.before args s = true := fun w hw => h w (List.mem_cons_of_mem _ hw)
theorem kW_good {y : MethodName} {b : ByteArray} {n : Nat} {r : Option FieldType} (h : Cond.code y b n r ∈ kG) : GoodIn kG (kW y b n r) := fun w hw => (List.mem_cons.mp hw).elim (fun e => e ▸ kG_good _ h) (fun q => kG_good _ q)
theorem kV_good {own : String} {idx : Nat} {y : MethodName} {b : ByteArray} {n : Nat} {r : Option FieldType} (h : Cond.code y b n r ∈ kG) (h1 : Cond.methodLink own idx y ∈ kG) (h2 : Cond.instanceMethod y ∈ kG) (h3 : Cond.selects y.cls y y ∈ kG) (h4 : Cond.initialized y.cls ∈ kG) : GoodIn kG (wsV own idx y.cls y (kW y b n r)) := by
  intro w hw
  unfold wsV at hw
  rcases List.mem_append.mp hw with hw | hw
  · simp only [List.mem_cons, List.not_mem_nil, or_false] at hw
    rcases hw with rfl | rfl | rfl | rfl
    · exact kG_good _ h1
    · exact kG_good _ h2
    · exact kG_good _ h3
    · exact kG_good _ h4
  · exact kW_good h w hw
theorem kS_good {own : String} {idx : Nat} {y : MethodName} {b : ByteArray} {n : Nat} {r : Option FieldType} (h : Cond.code y b n r ∈ kG) (h1 : Cond.methodLink own idx y ∈ kG) (h2 : Cond.static y ∈ kG) (h4 : Cond.initialized y.cls ∈ kG) : GoodIn kG (va_wsS own idx y (kW y b n r)) := by
  intro w hw
  unfold va_wsS at hw
  rcases List.mem_append.mp hw with hw | hw
  · simp only [List.mem_cons, List.not_mem_nil, or_false] at hw
    rcases hw with rfl | rfl | rfl
    · exact kG_good _ h1
    · exact kG_good _ h2
    · exact kG_good _ h4
  · exact kW_good h w hw
/-- out of a table of eight -/
theorem k_sw {x : Int32} (h0 : ¬ x = 0) (h1 : ¬ x = 1) (h2 : ¬ x = 2) (h3 : ¬ x = 3) (h4 : ¬ x = 4) (h5 : ¬ x = 5) (h6 : ¬ x = 6) (h7 : ¬ x = 7) : x.toInt < 0 ∨ 7 < x.toInt := by
  have g : ∀ n : Nat, n < 8 → ¬ x = Int32.ofNat n → ¬ x.toInt = (n : Int) := fun n hn h e => h (Int32.toInt_inj.mp (by rw [e]; exact (Int32.toInt_ofNat_of_lt (by omega)).symm))
  have a0 := g 0 (by omega) h0
  have a1 := g 1 (by omega) h1
  have a2 := g 2 (by omega) h2
  have a3 := g 3 (by omega) h3
  have a4 := g 4 (by omega) h4
  have a5 := g 5 (by omega) h5
  have a6 := g 6 (by omega) h6
  have a7 := g 7 (by omega) h7
  omega
end
section
/-- a quotient of one that isn't smaller, and 1: not 0 -/
theorem k_divne {a b : Int32} (h1 : ¬ b ≤ 0) (h2 : b ≤ a) : ¬ (a / b + 1) = 0 := by
  obtain ⟨n, hn, rfl⟩ := nI_of (x := b) (fun h => h1 (Int32.le_of_lt h))
  have h0 : 0 < n := by
    rcases Nat.eq_zero_or_pos n with rfl | h
    · exact absurd (by rw [nI_0]; exact Int32.le_refl _) h1
    · exact h
  obtain ⟨m, hm, rfl⟩ := nI_of (x := a) (fun h => h1 (Int32.le_trans h2 (Int32.le_of_lt h)))
  rw [pk_div hm h0 hn, nI_1]
  intro h
  have k := pk_tn (n := m / n + 1) (by have := Nat.div_le_self m n; omega)
  rw [h] at k
  exact absurd (k.symm.trans (rfl : (0 : Int32).toBitVec.toNat = 0)) (Nat.succ_ne_zero _)
/-- widening keeps what isn't 0 -/
theorem k_l0 {x : Int32} (h : ¬ x = 0) : ¬ x.toInt64 = 0 := by
  intro e
  apply h
  apply Int32.toInt_inj.mp
  have k : x.toInt64.toInt = x.toInt := Int32.toInt_toInt64 x
  rw [e] at k
  exact k.symm
/-! methods that only read: the functions that they answer, and their contracts (laid by wip/whole/mk10.py) -/
def f_Math_floorDiv (p0 : Int32) (p1 : Int32) : Int32 :=
  if 0 ≤ (p0 ^^^ p1) then
    (p0 / p1)
  else
    if ((p0 / p1) * p1) = p0 then
      (p0 / p1)
    else
      ((p0 / p1) - 1)
set_option maxHeartbeats 4000000 in
set_option maxRecDepth 100000 in
theorem c_Math_floorDiv (l : Launch) (g : KGt) (H0 : Heap) (p0 : Int32) (p1 : Int32) (hz : ¬ p1 = 0) : Met l y_Math_floorDiv (kW y_Math_floorDiv b_Math_floorDiv 3 (.some .int)) ({ frames := 0, cells := 0, slots := 0, locals := 0 }) (kPc [.int p0, .int p1] (KK g) H0) (kQc (kPure (.int (f_Math_floorDiv p0 p1)) H0)) 0 0 (fun _ => False) := by
  refine va_MetF (cc := b_Math_floorDiv) (maxL := 3) (ret := (.some .int)) (by decide +kernel) rfl ?_
  intro p e s m args below meth c s₁ B hml hv
  obtain ⟨rfl, hH, hKK⟩ := hv
  have hx := B.exec
  have hb := B.bytes
  have hr := B.returns
  have hts := kW_ts (atoms_spec (ws := kW y_Math_floorDiv b_Math_floorDiv 3 (.some .int)) B.pre)
  have hown : s.vm.findClass "java/lang/Math" = some m.cls := findClass_of_methodNamed B.named
  have hlocks := B.notSynchronized
  have hK := hKK.1
  subst hH
  have hl := lv_entry ([.int p0, .int p1]) (n := 3) (Nat.le_of_ble_eq_true rfl)
  rw [lg_entry_eq]
  generalize (lg_sl ([.int p0, .int p1]) ++ List.replicate (3 - (lg_sl ([.int p0, .int p1])).length) Slot.unset).toArray = ls at hl ⊢
  have hl : lv_has ls 3 [(0, .int p0), (1, .int p1)] := hl
  refine lv_iload_n hx hb d_Math_floorDiv_0 rfl (lv_at hl 0 rfl) ?_
  refine lv_iload_n hx hb d_Math_floorDiv_1 rfl (lv_at hl 1 rfl) ?_
  refine lv_idiv hx hb d_Math_floorDiv_2 hz ?_
  refine lv_istore_n (lv' := [(2, .int (p0 / p1)), (0, .int p0), (1, .int p1)]) hx hb d_Math_floorDiv_3 rfl hl (by decide) rfl (fun ls hl => ?_)
  refine lv_iload_n hx hb d_Math_floorDiv_4 rfl (lv_at hl 1 rfl) ?_
  refine lv_iload_n hx hb d_Math_floorDiv_5 rfl (lv_at hl 2 rfl) ?_
  refine lv_ixor hx hb d_Math_floorDiv_6 ?_
  refine lv_if_ge (tgt := 21) hx hb d_Math_floorDiv_7 (by decide) (fun c_1 => ?_) (fun c_1 => ?_)
  · skip
    refine lv_iload_n hx hb d_Math_floorDiv_21 rfl (lv_at hl 0 rfl) ?_
    exact W.iret (v := (p0 / p1)) hx hb hr (fun t ht hW => ⟨_, rfl, (by unfold f_Math_floorDiv; rw [if_pos c_1]), ht⟩) (fun _ h => by cases h) d_Math_floorDiv_22
  · skip
    refine lv_iload_n hx hb d_Math_floorDiv_10 rfl (lv_at hl 0 rfl) ?_
    refine lv_iload_n hx hb d_Math_floorDiv_11 rfl (lv_at hl 2 rfl) ?_
    refine lv_imul hx hb d_Math_floorDiv_12 ?_
    refine lv_iload_n hx hb d_Math_floorDiv_13 rfl (lv_at hl 1 rfl) ?_
    refine lv_icmp_eq (tgt := 21) hx hb d_Math_floorDiv_14 (by decide) (fun c_2 => ?_) (fun c_2 => ?_)
    · skip
      refine lv_iload_n hx hb d_Math_floorDiv_21 rfl (lv_at hl 0 rfl) ?_
      exact W.iret (v := (p0 / p1)) hx hb hr (fun t ht hW => ⟨_, rfl, (by unfold f_Math_floorDiv; rw [if_neg c_1, if_pos c_2]), ht⟩) (fun _ h => by cases h) d_Math_floorDiv_22
    · skip
      refine lv_iload_n hx hb d_Math_floorDiv_17 rfl (lv_at hl 0 rfl) ?_
      refine lv_iconst (v := 1) hx hb d_Math_floorDiv_18 (by decide) ?_
      refine lv_isub hx hb d_Math_floorDiv_19 ?_
      exact W.iret (v := ((p0 / p1) - 1)) hx hb hr (fun t ht hW => ⟨_, rfl, (by unfold f_Math_floorDiv; rw [if_neg c_1, if_neg c_2]), ht⟩) (fun _ h => by cases h) d_Math_floorDiv_20
def f_BG_isLength (p0 : Int32) : Int32 :=
  if p0 < (-100000) then
    0
  else
    if 100000 < p0 then
      0
    else
      1
set_option maxHeartbeats 4000000 in
set_option maxRecDepth 100000 in
theorem c_BG_isLength (l : Launch) (g : KGt) (H0 : Heap) (p0 : Int32) : Met l y_BG_isLength (kW y_BG_isLength b_BG_isLength 1 (.some .boolean)) ({ frames := 0, cells := 0, slots := 0, locals := 0 }) (kPc [.int p0] (KK g) H0) (kQc (kPure (.int (f_BG_isLength p0)) H0)) 0 0 (fun _ => False) := by
  refine Met.ofW (cc := b_BG_isLength) (maxL := 1) (ret := (.some .boolean)) (by decide) rfl ?_
  intro p e s m args below meth c s₁ B hml hv
  obtain ⟨rfl, hH, hKK⟩ := hv
  have hx := B.exec
  have hb := B.bytes
  have hr := B.returns
  have hts := kW_ts (atoms_spec (ws := kW y_BG_isLength b_BG_isLength 1 (.some .boolean)) B.pre)
  have hown : s.vm.findClass "BoxGlue" = some m.cls := findClass_of_methodNamed B.named
  have hlocks := B.notSynchronized
  have hK := hKK.1
  subst hH
  have hl := lv_entry ([.int p0]) (n := 1) (Nat.le_of_ble_eq_true rfl)
  rw [lg_entry_eq]
  generalize (lg_sl ([.int p0]) ++ List.replicate (1 - (lg_sl ([.int p0])).length) Slot.unset).toArray = ls at hl ⊢
  have hl : lv_has ls 1 [(0, .int p0)] := hl
  refine lv_iload_n hx hb d_BG_isLength_0 rfl (lv_at hl 0 rfl) ?_
  refine lv_ldc (own := "BoxGlue") (index := 141) (v := (-100000)) hx hb hown (hts _ kw_201) d_BG_isLength_1 ?_
  refine lv_icmp_lt (tgt := 16) hx hb d_BG_isLength_3 (by decide) (fun c_1 => ?_) (fun c_1 => ?_)
  · skip
    refine lv_iconst (v := 0) hx hb d_BG_isLength_16 (by decide) ?_
    exact W.zret (v := 0) (ty := .boolean) hx hb hr rfl (fun t ht hW => ⟨_, rfl, (by unfold f_BG_isLength; rw [if_pos c_1]), ht⟩) (fun _ h => by cases h) d_BG_isLength_17
  · skip
    refine lv_iload_n hx hb d_BG_isLength_6 rfl (lv_at hl 0 rfl) ?_
    refine lv_ldc (own := "BoxGlue") (index := 142) (v := 100000) hx hb hown (hts _ kw_72) d_BG_isLength_7 ?_
    refine lv_icmp_gt (tgt := 16) hx hb d_BG_isLength_9 (by decide) (fun c_2 => ?_) (fun c_2 => ?_)
    · skip
      refine lv_iconst (v := 0) hx hb d_BG_isLength_16 (by decide) ?_
      exact W.zret (v := 0) (ty := .boolean) hx hb hr rfl (fun t ht hW => ⟨_, rfl, (by unfold f_BG_isLength; rw [if_neg c_1, if_pos c_2]), ht⟩) (fun _ h => by cases h) d_BG_isLength_17
    · skip
      refine lv_iconst (v := 1) hx hb d_BG_isLength_12 (by decide) ?_
      refine lv_goto (tgt := 17) hx hb d_BG_isLength_13 (by decide) ?_
      exact W.zret (v := 1) (ty := .boolean) hx hb hr rfl (fun t ht hW => ⟨_, rfl, (by unfold f_BG_isLength; rw [if_neg c_1, if_neg c_2]), ht⟩) (fun _ h => by cases h) d_BG_isLength_17
def f_BG_isExtent (p0 : Int32) : Int32 :=
  if p0 < 0 then
    0
  else
    if 100000 < p0 then
      0
    else
      1
set_option maxHeartbeats 4000000 in
set_option maxRecDepth 100000 in
theorem c_BG_isExtent (l : Launch) (g : KGt) (H0 : Heap) (p0 : Int32) : Met l y_BG_isExtent (kW y_BG_isExtent b_BG_isExtent 1 (.some .boolean)) ({ frames := 0, cells := 0, slots := 0, locals := 0 }) (kPc [.int p0] (KK g) H0) (kQc (kPure (.int (f_BG_isExtent p0)) H0)) 0 0 (fun _ => False) := by
  refine Met.ofW (cc := b_BG_isExtent) (maxL := 1) (ret := (.some .boolean)) (by decide) rfl ?_
  intro p e s m args below meth c s₁ B hml hv
  obtain ⟨rfl, hH, hKK⟩ := hv
  have hx := B.exec
  have hb := B.bytes
  have hr := B.returns
  have hts := kW_ts (atoms_spec (ws := kW y_BG_isExtent b_BG_isExtent 1 (.some .boolean)) B.pre)
  have hown : s.vm.findClass "BoxGlue" = some m.cls := findClass_of_methodNamed B.named
  have hlocks := B.notSynchronized
  have hK := hKK.1
  subst hH
  have hl := lv_entry ([.int p0]) (n := 1) (Nat.le_of_ble_eq_true rfl)
  rw [lg_entry_eq]
  generalize (lg_sl ([.int p0]) ++ List.replicate (1 - (lg_sl ([.int p0])).length) Slot.unset).toArray = ls at hl ⊢
  have hl : lv_has ls 1 [(0, .int p0)] := hl
  refine lv_iload_n hx hb d_BG_isExtent_0 rfl (lv_at hl 0 rfl) ?_
  refine lv_if_lt (tgt := 14) hx hb d_BG_isExtent_1 (by decide) (fun c_1 => ?_) (fun c_1 => ?_)
  · skip
    refine lv_iconst (v := 0) hx hb d_BG_isExtent_14 (by decide) ?_
    exact W.zret (v := 0) (ty := .boolean) hx hb hr rfl (fun t ht hW => ⟨_, rfl, (by unfold f_BG_isExtent; rw [if_pos c_1]), ht⟩) (fun _ h => by cases h) d_BG_isExtent_15
  · skip
    refine lv_iload_n hx hb d_BG_isExtent_4 rfl (lv_at hl 0 rfl) ?_
    refine lv_ldc (own := "BoxGlue") (index := 142) (v := 100000) hx hb hown (hts _ kw_72) d_BG_isExtent_5 ?_
    refine lv_icmp_gt (tgt := 14) hx hb d_BG_isExtent_7 (by decide) (fun c_2 => ?_) (fun c_2 => ?_)
    · skip
      refine lv_iconst (v := 0) hx hb d_BG_isExtent_14 (by decide) ?_
      exact W.zret (v := 0) (ty := .boolean) hx hb hr rfl (fun t ht hW => ⟨_, rfl, (by unfold f_BG_isExtent; rw [if_neg c_1, if_pos c_2]), ht⟩) (fun _ h => by cases h) d_BG_isExtent_15
    · skip
      refine lv_iconst (v := 1) hx hb d_BG_isExtent_10 (by decide) ?_
      refine lv_goto (tgt := 15) hx hb d_BG_isExtent_11 (by decide) ?_
      exact W.zret (v := 1) (ty := .boolean) hx hb hr rfl (fun t ht hW => ⟨_, rfl, (by unfold f_BG_isExtent; rw [if_neg c_1, if_neg c_2]), ht⟩) (fun _ h => by cases h) d_BG_isExtent_15
def f_BG_isExtentOrRunning (p0 : Int32) : Int32 :=
  if p0 = (-1000000) then
    1
  else
    if (f_BG_isExtent p0) = 0 then
      0
    else
      1
set_option maxHeartbeats 4000000 in
set_option maxRecDepth 100000 in
theorem c_BG_isExtentOrRunning (l : Launch) (g : KGt) (H0 : Heap) (p0 : Int32) : Met l y_BG_isExtentOrRunning (kW y_BG_isExtentOrRunning b_BG_isExtentOrRunning 1 (.some .boolean)) ({ frames := 1, cells := 0, slots := 0, locals := 20 }) (kPc [.int p0] (KK g) H0) (kQc (kPure (.int (f_BG_isExtentOrRunning p0)) H0)) 0 0 (fun _ => False) := by
  refine Met.ofW (cc := b_BG_isExtentOrRunning) (maxL := 1) (ret := (.some .boolean)) (by decide) rfl ?_
  intro p e s m args below meth c s₁ B hml hv
  obtain ⟨rfl, hH, hKK⟩ := hv
  have hx := B.exec
  have hb := B.bytes
  have hr := B.returns
  have hts := kW_ts (atoms_spec (ws := kW y_BG_isExtentOrRunning b_BG_isExtentOrRunning 1 (.some .boolean)) B.pre)
  have hown : s.vm.findClass "BoxGlue" = some m.cls := findClass_of_methodNamed B.named
  have hlocks := B.notSynchronized
  have hK := hKK.1
  subst hH
  have hl := lv_entry ([.int p0]) (n := 1) (Nat.le_of_ble_eq_true rfl)
  rw [lg_entry_eq]
  generalize (lg_sl ([.int p0]) ++ List.replicate (1 - (lg_sl ([.int p0])).length) Slot.unset).toArray = ls at hl ⊢
  have hl : lv_has ls 1 [(0, .int p0)] := hl
  refine lv_iload_n hx hb d_BG_isExtentOrRunning_0 rfl (lv_at hl 0 rfl) ?_
  refine lv_ldc (own := "BoxGlue") (index := 143) (v := (-1000000)) hx hb hown (hts _ kw_312) d_BG_isExtentOrRunning_1 ?_
  refine lv_icmp_eq (tgt := 13) hx hb d_BG_isExtentOrRunning_3 (by decide) (fun c_1 => ?_) (fun c_1 => ?_)
  · skip
    refine lv_iconst (v := 1) hx hb d_BG_isExtentOrRunning_13 (by decide) ?_
    refine lv_goto (tgt := 18) hx hb d_BG_isExtentOrRunning_14 (by decide) ?_
    exact W.zret (v := 1) (ty := .boolean) hx hb hr rfl (fun t ht hW => ⟨_, rfl, (by unfold f_BG_isExtentOrRunning; rw [if_pos c_1]), ht⟩) (fun _ h => by cases h) d_BG_isExtentOrRunning_18
  · skip
    refine lv_iload_n hx hb d_BG_isExtentOrRunning_6 rfl (lv_at hl 0 rfl) ?_
    refine k_pure (r := .int (f_BG_isExtent p0)) (W.runS (As := [.int p0]) (rest := []) ⟨hx, hb, hml, hown, hts⟩ (c_BG_isExtent l g s.heap p0) (va_cwS 1 hts (kS_good kw_71 kw_69 kw_70 kw_1) rfl rfl rfl (by decide +kernel) ⟨Nat.le_of_ble_eq_true rfl, Nat.le_of_ble_eq_true rfl⟩) (k_pre (KK_st g) hKK) rfl rfl hl.1 rfl (lv_room (Nat.le_of_ble_eq_true rfl)) d_BG_isExtentOrRunning_7 ⟨Nat.zero_le _, Nat.zero_le _⟩) ?_
    refine lv_if_eq (tgt := 17) hx hb d_BG_isExtentOrRunning_10 (by decide) (fun c_2 => ?_) (fun c_2 => ?_)
    · skip
      refine lv_iconst (v := 0) hx hb d_BG_isExtentOrRunning_17 (by decide) ?_
      exact W.zret (v := 0) (ty := .boolean) hx hb hr rfl (fun t ht hW => ⟨_, rfl, (by unfold f_BG_isExtentOrRunning; rw [if_neg c_1, if_pos c_2]), ht⟩) (fun _ h => by cases h) d_BG_isExtentOrRunning_18
    · skip
      refine lv_iconst (v := 1) hx hb d_BG_isExtentOrRunning_13 (by decide) ?_
      refine lv_goto (tgt := 18) hx hb d_BG_isExtentOrRunning_14 (by decide) ?_
      exact W.zret (v := 1) (ty := .boolean) hx hb hr rfl (fun t ht hW => ⟨_, rfl, (by unfold f_BG_isExtentOrRunning; rw [if_neg c_1, if_neg c_2]), ht⟩) (fun _ h => by cases h) d_BG_isExtentOrRunning_18
def f_BG_isGiving (p0 : Int32) (p1 : Int32) : Int32 :=
  if p0 < 0 then
    0
  else
    if 1000 < p0 then
      0
    else
      if p1 < 0 then
        0
      else
        if 3 < p1 then
          0
        else
          1
set_option maxHeartbeats 4000000 in
set_option maxRecDepth 100000 in
theorem c_BG_isGiving (l : Launch) (g : KGt) (H0 : Heap) (p0 : Int32) (p1 : Int32) : Met l y_BG_isGiving (kW y_BG_isGiving b_BG_isGiving 2 (.some .boolean)) ({ frames := 0, cells := 0, slots := 0, locals := 0 }) (kPc [.int p0, .int p1] (KK g) H0) (kQc (kPure (.int (f_BG_isGiving p0 p1)) H0)) 0 0 (fun _ => False) := by
  refine Met.ofW (cc := b_BG_isGiving) (maxL := 2) (ret := (.some .boolean)) (by decide) rfl ?_
  intro p e s m args below meth c s₁ B hml hv
  obtain ⟨rfl, hH, hKK⟩ := hv
  have hx := B.exec
  have hb := B.bytes
  have hr := B.returns
  have hts := kW_ts (atoms_spec (ws := kW y_BG_isGiving b_BG_isGiving 2 (.some .boolean)) B.pre)
  have hown : s.vm.findClass "BoxGlue" = some m.cls := findClass_of_methodNamed B.named
  have hlocks := B.notSynchronized
  have hK := hKK.1
  subst hH
  have hl := lv_entry ([.int p0, .int p1]) (n := 2) (Nat.le_of_ble_eq_true rfl)
  rw [lg_entry_eq]
  generalize (lg_sl ([.int p0, .int p1]) ++ List.replicate (2 - (lg_sl ([.int p0, .int p1])).length) Slot.unset).toArray = ls at hl ⊢
  have hl : lv_has ls 2 [(0, .int p0), (1, .int p1)] := hl
  refine lv_iload_n hx hb d_BG_isGiving_0 rfl (lv_at hl 0 rfl) ?_
  refine lv_if_lt (tgt := 24) hx hb d_BG_isGiving_1 (by decide) (fun c_1 => ?_) (fun c_1 => ?_)
  · skip
    refine lv_iconst (v := 0) hx hb d_BG_isGiving_24 (by decide) ?_
    exact W.zret (v := 0) (ty := .boolean) hx hb hr rfl (fun t ht hW => ⟨_, rfl, (by unfold f_BG_isGiving; rw [if_pos c_1]), ht⟩) (fun _ h => by cases h) d_BG_isGiving_25
  · skip
    refine lv_iload_n hx hb d_BG_isGiving_4 rfl (lv_at hl 0 rfl) ?_
    refine lv_sipush (v := 1000) hx hb d_BG_isGiving_5 (by decide) ?_
    refine lv_icmp_gt (tgt := 24) hx hb d_BG_isGiving_8 (by decide) (fun c_2 => ?_) (fun c_2 => ?_)
    · skip
      refine lv_iconst (v := 0) hx hb d_BG_isGiving_24 (by decide) ?_
      exact W.zret (v := 0) (ty := .boolean) hx hb hr rfl (fun t ht hW => ⟨_, rfl, (by unfold f_BG_isGiving; rw [if_neg c_1, if_pos c_2]), ht⟩) (fun _ h => by cases h) d_BG_isGiving_25
    · skip
      refine lv_iload_n hx hb d_BG_isGiving_11 rfl (lv_at hl 1 rfl) ?_
      refine lv_if_lt (tgt := 24) hx hb d_BG_isGiving_12 (by decide) (fun c_3 => ?_) (fun c_3 => ?_)
      · skip
        refine lv_iconst (v := 0) hx hb d_BG_isGiving_24 (by decide) ?_
        exact W.zret (v := 0) (ty := .boolean) hx hb hr rfl (fun t ht hW => ⟨_, rfl, (by unfold f_BG_isGiving; rw [if_neg c_1, if_neg c_2, if_pos c_3]), ht⟩) (fun _ h => by cases h) d_BG_isGiving_25
      · skip
        refine lv_iload_n hx hb d_BG_isGiving_15 rfl (lv_at hl 1 rfl) ?_
        refine lv_iconst (v := 3) hx hb d_BG_isGiving_16 (by decide) ?_
        refine lv_icmp_gt (tgt := 24) hx hb d_BG_isGiving_17 (by decide) (fun c_4 => ?_) (fun c_4 => ?_)
        · skip
          refine lv_iconst (v := 0) hx hb d_BG_isGiving_24 (by decide) ?_
          exact W.zret (v := 0) (ty := .boolean) hx hb hr rfl (fun t ht hW => ⟨_, rfl, (by unfold f_BG_isGiving; rw [if_neg c_1, if_neg c_2, if_neg c_3, if_pos c_4]), ht⟩) (fun _ h => by cases h) d_BG_isGiving_25
        · skip
          refine lv_iconst (v := 1) hx hb d_BG_isGiving_20 (by decide) ?_
          refine lv_goto (tgt := 25) hx hb d_BG_isGiving_21 (by decide) ?_
          exact W.zret (v := 1) (ty := .boolean) hx hb hr rfl (fun t ht hW => ⟨_, rfl, (by unfold f_BG_isGiving; rw [if_neg c_1, if_neg c_2, if_neg c_3, if_neg c_4]), ht⟩) (fun _ h => by cases h) d_BG_isGiving_25
def f_Leaders_alignedFrom (f0 f1 : Int32) (p0 : Int32) : Int32 :=
  if 0 < f1 then
    (-(f_Math_floorDiv (-p0) f1))
  else
    0
set_option maxHeartbeats 4000000 in
set_option maxRecDepth 100000 in
theorem c_Leaders_alignedFrom (l : Launch) (g : KGt) (H0 : Heap) (h0 : Nat) (f0 f1 : Int32) (p0 : Int32) (o0 : va_at g.1 kcl (h0, .inr (8, [.int f0, .int f1])) H0) : Met l y_Leaders_alignedFrom (kW y_Leaders_alignedFrom b_Leaders_alignedFrom 2 (.some .int)) ({ frames := 1, cells := 0, slots := 0, locals := 22 }) (kPc [.ref h0, .int p0] (KK g) H0) (kQc (kPure (.int (f_Leaders_alignedFrom f0 f1 p0)) H0)) 0 0 (fun _ => False) := by
  refine Met.ofW (cc := b_Leaders_alignedFrom) (maxL := 2) (ret := (.some .int)) (by decide) rfl ?_
  intro p e s m args below meth c s₁ B hml hv
  obtain ⟨rfl, hH, hKK⟩ := hv
  have hx := B.exec
  have hb := B.bytes
  have hr := B.returns
  have hts := kW_ts (atoms_spec (ws := kW y_Leaders_alignedFrom b_Leaders_alignedFrom 2 (.some .int)) B.pre)
  have hown : s.vm.findClass "BoxGlue$Leaders" = some m.cls := findClass_of_methodNamed B.named
  have hlocks := B.notSynchronized
  have hK := hKK.1
  subst hH
  have hl := lv_entry ([.ref h0, .int p0]) (n := 2) (Nat.le_of_ble_eq_true rfl)
  rw [lg_entry_eq]
  generalize (lg_sl ([.ref h0, .int p0]) ++ List.replicate (2 - (lg_sl ([.ref h0, .int p0])).length) Slot.unset).toArray = ls at hl ⊢
  have hl : lv_has ls 2 [(0, .ref h0), (1, .int p0)] := hl
  refine lv_aload_n hx hb d_Leaders_alignedFrom_0 rfl (lv_at hl 0 rfl) ?_
  refine va_get (D := g.1) (ci := 8) (v := .int f1) (C := "BoxGlue$Leaders") (T := kT_Leaders) (N := 2) hx hb hts ki_Leaders hown hK (k_one o0) 0 rfl rfl 1 (by decide) (hts _ kw_264) (fun _ h9 => h9) rfl d_Leaders_alignedFrom_1 ?_
  refine lv_if_gt (tgt := 11) hx hb d_Leaders_alignedFrom_4 (by decide) (fun c_1 => ?_) (fun c_1 => ?_)
  · skip
    refine lv_iload_n hx hb d_Leaders_alignedFrom_11 rfl (lv_at hl 1 rfl) ?_
    refine lv_ineg hx hb d_Leaders_alignedFrom_12 ?_
    refine lv_aload_n hx hb d_Leaders_alignedFrom_13 rfl (lv_at hl 0 rfl) ?_
    refine va_get (D := g.1) (ci := 8) (v := .int f1) (C := "BoxGlue$Leaders") (T := kT_Leaders) (N := 2) hx hb hts ki_Leaders hown hK (k_one o0) 0 rfl rfl 1 (by decide) (hts _ kw_264) (fun _ h9 => h9) rfl d_Leaders_alignedFrom_14 ?_
    refine k_pure (r := .int (f_Math_floorDiv (-p0) f1)) (W.runS (As := [.int (-p0), .int f1]) (rest := []) ⟨hx, hb, hml, hown, hts⟩ (c_Math_floorDiv l g s.heap (-p0) f1 (fun h => by rw [h] at c_1; exact absurd c_1 (by decide))) (va_cwS 2 hts (kS_good kw_506 kw_504 kw_505 kw_9) rfl rfl rfl (by decide +kernel) ⟨Nat.le_of_ble_eq_true rfl, Nat.le_of_ble_eq_true rfl⟩) (k_pre (KK_st g) hKK) rfl rfl hl.1 rfl (lv_room (Nat.le_of_ble_eq_true rfl)) d_Leaders_alignedFrom_17 ⟨Nat.zero_le _, Nat.zero_le _⟩) ?_
    refine lv_ineg hx hb d_Leaders_alignedFrom_20 ?_
    exact W.iret (v := (-(f_Math_floorDiv (-p0) f1))) hx hb hr (fun t ht hW => ⟨_, rfl, (by unfold f_Leaders_alignedFrom; rw [if_pos c_1]), ht⟩) (fun _ h => by cases h) d_Leaders_alignedFrom_21
  · skip
    refine lv_iconst (v := 0) hx hb d_Leaders_alignedFrom_7 (by decide) ?_
    refine lv_goto (tgt := 21) hx hb d_Leaders_alignedFrom_8 (by decide) ?_
    exact W.iret (v := 0) hx hb hr (fun t ht hW => ⟨_, rfl, (by unfold f_Leaders_alignedFrom; rw [if_neg c_1]), ht⟩) (fun _ h => by cases h) d_Leaders_alignedFrom_21
def f_Leaders_gap (f0 f1 : Int32) (p0 : Int32) : Int32 :=
  if f1 ≤ 0 then
    0
  else
    if f1 ≤ p0 then
      ((p0 - p0 / f1 * f1) / ((p0 / f1) + 1))
    else
      0
set_option maxHeartbeats 4000000 in
set_option maxRecDepth 100000 in
theorem c_Leaders_gap (l : Launch) (g : KGt) (H0 : Heap) (h0 : Nat) (f0 f1 : Int32) (p0 : Int32) (o0 : va_at g.1 kcl (h0, .inr (8, [.int f0, .int f1])) H0) : Met l y_Leaders_gap (kW y_Leaders_gap b_Leaders_gap 2 (.some .int)) ({ frames := 0, cells := 0, slots := 0, locals := 0 }) (kPc [.ref h0, .int p0] (KK g) H0) (kQc (kPure (.int (f_Leaders_gap f0 f1 p0)) H0)) 0 0 (fun _ => False) := by
  refine Met.ofW (cc := b_Leaders_gap) (maxL := 2) (ret := (.some .int)) (by decide) rfl ?_
  intro p e s m args below meth c s₁ B hml hv
  obtain ⟨rfl, hH, hKK⟩ := hv
  have hx := B.exec
  have hb := B.bytes
  have hr := B.returns
  have hts := kW_ts (atoms_spec (ws := kW y_Leaders_gap b_Leaders_gap 2 (.some .int)) B.pre)
  have hown : s.vm.findClass "BoxGlue$Leaders" = some m.cls := findClass_of_methodNamed B.named
  have hlocks := B.notSynchronized
  have hK := hKK.1
  subst hH
  have hl := lv_entry ([.ref h0, .int p0]) (n := 2) (Nat.le_of_ble_eq_true rfl)
  rw [lg_entry_eq]
  generalize (lg_sl ([.ref h0, .int p0]) ++ List.replicate (2 - (lg_sl ([.ref h0, .int p0])).length) Slot.unset).toArray = ls at hl ⊢
  have hl : lv_has ls 2 [(0, .ref h0), (1, .int p0)] := hl
  refine lv_aload_n hx hb d_Leaders_gap_0 rfl (lv_at hl 0 rfl) ?_
  refine va_get (D := g.1) (ci := 8) (v := .int f1) (C := "BoxGlue$Leaders") (T := kT_Leaders) (N := 2) hx hb hts ki_Leaders hown hK (k_one o0) 0 rfl rfl 1 (by decide) (hts _ kw_264) (fun _ h9 => h9) rfl d_Leaders_gap_1 ?_
  refine lv_if_le (tgt := 15) hx hb d_Leaders_gap_4 (by decide) (fun c_1 => ?_) (fun c_1 => ?_)
  · skip
    refine lv_iconst (v := 0) hx hb d_Leaders_gap_15 (by decide) ?_
    exact W.iret (v := 0) hx hb hr (fun t ht hW => ⟨_, rfl, (by unfold f_Leaders_gap; rw [if_pos c_1]), ht⟩) (fun _ h => by cases h) d_Leaders_gap_16
  · skip
    refine lv_iload_n hx hb d_Leaders_gap_7 rfl (lv_at hl 1 rfl) ?_
    refine lv_aload_n hx hb d_Leaders_gap_8 rfl (lv_at hl 0 rfl) ?_
    refine va_get (D := g.1) (ci := 8) (v := .int f1) (C := "BoxGlue$Leaders") (T := kT_Leaders) (N := 2) hx hb hts ki_Leaders hown hK (k_one o0) 0 rfl rfl 1 (by decide) (hts _ kw_264) (fun _ h9 => h9) rfl d_Leaders_gap_9 ?_
    refine lv_icmp_ge (tgt := 17) hx hb d_Leaders_gap_12 (by decide) (fun c_2 => ?_) (fun c_2 => ?_)
    · skip
      refine lv_iload_n hx hb d_Leaders_gap_17 rfl (lv_at hl 1 rfl) ?_
      refine lv_aload_n hx hb d_Leaders_gap_18 rfl (lv_at hl 0 rfl) ?_
      refine va_get (D := g.1) (ci := 8) (v := .int f1) (C := "BoxGlue$Leaders") (T := kT_Leaders) (N := 2) hx hb hts ki_Leaders hown hK (k_one o0) 0 rfl rfl 1 (by decide) (hts _ kw_264) (fun _ h9 => h9) rfl d_Leaders_gap_19 ?_
      refine lv_irem hx hb d_Leaders_gap_22 (fun h => c_1 (by rw [h]; decide)) ?_
      refine lv_iload_n hx hb d_Leaders_gap_23 rfl (lv_at hl 1 rfl) ?_
      refine lv_aload_n hx hb d_Leaders_gap_24 rfl (lv_at hl 0 rfl) ?_
      refine va_get (D := g.1) (ci := 8) (v := .int f1) (C := "BoxGlue$Leaders") (T := kT_Leaders) (N := 2) hx hb hts ki_Leaders hown hK (k_one o0) 0 rfl rfl 1 (by decide) (hts _ kw_264) (fun _ h9 => h9) rfl d_Leaders_gap_25 ?_
      refine lv_idiv hx hb d_Leaders_gap_28 (fun h => c_1 (by rw [h]; decide)) ?_
      refine lv_iconst (v := 1) hx hb d_Leaders_gap_29 (by decide) ?_
      refine lv_iadd hx hb d_Leaders_gap_30 ?_
      refine lv_idiv hx hb d_Leaders_gap_31 (k_divne c_1 c_2) ?_
      exact W.iret (v := ((p0 - p0 / f1 * f1) / ((p0 / f1) + 1))) hx hb hr (fun t ht hW => ⟨_, rfl, (by unfold f_Leaders_gap; rw [if_neg c_1, if_pos c_2]), ht⟩) (fun _ h => by cases h) d_Leaders_gap_32
    · skip
      refine lv_iconst (v := 0) hx hb d_Leaders_gap_15 (by decide) ?_
      exact W.iret (v := 0) hx hb hr (fun t ht hW => ⟨_, rfl, (by unfold f_Leaders_gap; rw [if_neg c_1, if_neg c_2]), ht⟩) (fun _ h => by cases h) d_Leaders_gap_16
def f_Leaders_drawn (f0 f1 : Int32) (p0 : Int32) (p1 : Int32) : Int32 :=
  if f1 ≤ 0 then
    0
  else
    if f1 ≤ p1 then
      if f0 = 1 then
        ((f_Math_floorDiv (p0 + p1) f1) - (f_Leaders_alignedFrom f0 f1 p0))
      else
        (p1 / f1)
    else
      0
set_option maxHeartbeats 4000000 in
set_option maxRecDepth 100000 in
theorem c_Leaders_drawn (l : Launch) (g : KGt) (H0 : Heap) (h0 : Nat) (f0 f1 : Int32) (p0 : Int32) (p1 : Int32) (o0 : va_at g.1 kcl (h0, .inr (8, [.int f0, .int f1])) H0) : Met l y_Leaders_drawn (kW y_Leaders_drawn b_Leaders_drawn 3 (.some .int)) ({ frames := 2, cells := 0, slots := 0, locals := 43 }) (kPc [.ref h0, .int p0, .int p1] (KK g) H0) (kQc (kPure (.int (f_Leaders_drawn f0 f1 p0 p1)) H0)) 0 0 (fun _ => False) := by
  refine Met.ofW (cc := b_Leaders_drawn) (maxL := 3) (ret := (.some .int)) (by decide) rfl ?_
  intro p e s m args below meth c s₁ B hml hv
  obtain ⟨rfl, hH, hKK⟩ := hv
  have hx := B.exec
  have hb := B.bytes
  have hr := B.returns
  have hts := kW_ts (atoms_spec (ws := kW y_Leaders_drawn b_Leaders_drawn 3 (.some .int)) B.pre)
  have hown : s.vm.findClass "BoxGlue$Leaders" = some m.cls := findClass_of_methodNamed B.named
  have hlocks := B.notSynchronized
  have hK := hKK.1
  subst hH
  have hl := lv_entry ([.ref h0, .int p0, .int p1]) (n := 3) (Nat.le_of_ble_eq_true rfl)
  rw [lg_entry_eq]
  generalize (lg_sl ([.ref h0, .int p0, .int p1]) ++ List.replicate (3 - (lg_sl ([.ref h0, .int p0, .int p1])).length) Slot.unset).toArray = ls at hl ⊢
  have hl : lv_has ls 3 [(0, .ref h0), (1, .int p0), (2, .int p1)] := hl
  refine lv_aload_n hx hb d_Leaders_drawn_0 rfl (lv_at hl 0 rfl) ?_
  refine va_get (D := g.1) (ci := 8) (v := .int f1) (C := "BoxGlue$Leaders") (T := kT_Leaders) (N := 2) hx hb hts ki_Leaders hown hK (k_one o0) 0 rfl rfl 1 (by decide) (hts _ kw_264) (fun _ h9 => h9) rfl d_Leaders_drawn_1 ?_
  refine lv_if_le (tgt := 15) hx hb d_Leaders_drawn_4 (by decide) (fun c_1 => ?_) (fun c_1 => ?_)
  · skip
    refine lv_iconst (v := 0) hx hb d_Leaders_drawn_15 (by decide) ?_
    exact W.iret (v := 0) hx hb hr (fun t ht hW => ⟨_, rfl, (by unfold f_Leaders_drawn; rw [if_pos c_1]), ht⟩) (fun _ h => by cases h) d_Leaders_drawn_16
  · skip
    refine lv_iload_n hx hb d_Leaders_drawn_7 rfl (lv_at hl 2 rfl) ?_
    refine lv_aload_n hx hb d_Leaders_drawn_8 rfl (lv_at hl 0 rfl) ?_
    refine va_get (D := g.1) (ci := 8) (v := .int f1) (C := "BoxGlue$Leaders") (T := kT_Leaders) (N := 2) hx hb hts ki_Leaders hown hK (k_one o0) 0 rfl rfl 1 (by decide) (hts _ kw_264) (fun _ h9 => h9) rfl d_Leaders_drawn_9 ?_
    refine lv_icmp_ge (tgt := 17) hx hb d_Leaders_drawn_12 (by decide) (fun c_2 => ?_) (fun c_2 => ?_)
    · skip
      refine lv_aload_n hx hb d_Leaders_drawn_17 rfl (lv_at hl 0 rfl) ?_
      refine va_get (D := g.1) (ci := 8) (v := .int f0) (C := "BoxGlue$Leaders") (T := kT_Leaders) (N := 2) hx hb hts ki_Leaders hown hK (k_one o0) 0 rfl rfl 0 (by decide) (hts _ kw_263) (fun _ h9 => h9) rfl d_Leaders_drawn_18 ?_
      refine lv_iconst (v := 1) hx hb d_Leaders_drawn_21 (by decide) ?_
      refine lv_icmp_ne (tgt := 42) hx hb d_Leaders_drawn_22 (by decide) (fun c_3 => ?_) (fun c_3 => ?_)
      · skip
        refine lv_iload_n hx hb d_Leaders_drawn_42 rfl (lv_at hl 2 rfl) ?_
        refine lv_aload_n hx hb d_Leaders_drawn_43 rfl (lv_at hl 0 rfl) ?_
        refine va_get (D := g.1) (ci := 8) (v := .int f1) (C := "BoxGlue$Leaders") (T := kT_Leaders) (N := 2) hx hb hts ki_Leaders hown hK (k_one o0) 0 rfl rfl 1 (by decide) (hts _ kw_264) (fun _ h9 => h9) rfl d_Leaders_drawn_44 ?_
        refine lv_idiv hx hb d_Leaders_drawn_47 (fun h => c_1 (by rw [h]; decide)) ?_
        exact W.iret (v := (p1 / f1)) hx hb hr (fun t ht hW => ⟨_, rfl, (by unfold f_Leaders_drawn; rw [if_neg c_1, if_pos c_2, if_neg c_3]), ht⟩) (fun _ h => by cases h) d_Leaders_drawn_48
      · skip
        refine lv_iload_n hx hb d_Leaders_drawn_25 rfl (lv_at hl 1 rfl) ?_
        refine lv_iload_n hx hb d_Leaders_drawn_26 rfl (lv_at hl 2 rfl) ?_
        refine lv_iadd hx hb d_Leaders_drawn_27 ?_
        refine lv_aload_n hx hb d_Leaders_drawn_28 rfl (lv_at hl 0 rfl) ?_
        refine va_get (D := g.1) (ci := 8) (v := .int f1) (C := "BoxGlue$Leaders") (T := kT_Leaders) (N := 2) hx hb hts ki_Leaders hown hK (k_one o0) 0 rfl rfl 1 (by decide) (hts _ kw_264) (fun _ h9 => h9) rfl d_Leaders_drawn_29 ?_
        refine k_pure (r := .int (f_Math_floorDiv (p0 + p1) f1)) (W.runS (As := [.int (p0 + p1), .int f1]) (rest := []) ⟨hx, hb, hml, hown, hts⟩ (c_Math_floorDiv l g s.heap (p0 + p1) f1 (fun h => c_1 (by rw [h]; decide))) (va_cwS 2 hts (kS_good kw_506 kw_504 kw_505 kw_9) rfl rfl rfl (by decide +kernel) ⟨Nat.le_of_ble_eq_true rfl, Nat.le_of_ble_eq_true rfl⟩) (k_pre (KK_st g) hKK) rfl rfl hl.1 rfl (lv_room (Nat.le_of_ble_eq_true rfl)) d_Leaders_drawn_32 ⟨Nat.zero_le _, Nat.zero_le _⟩) ?_
        refine lv_aload_n hx hb d_Leaders_drawn_35 rfl (lv_at hl 0 rfl) ?_
        refine lv_iload_n hx hb d_Leaders_drawn_36 rfl (lv_at hl 1 rfl) ?_
        refine k_pure (r := .int (f_Leaders_alignedFrom f0 f1 p0)) (W.runV (As := [.int p0]) (rest := [.int (f_Math_floorDiv (p0 + p1) f1)]) ⟨hx, hb, hml, hown, hts⟩ (c_Leaders_alignedFrom l g s.heap h0 f0 f1 p0 o0) (cwV 1 hts (kV_good kw_510 kw_507 kw_509 ks_Leaders_alignedFrom kw_17) rfl rfl rfl (by decide +kernel) ⟨Nat.le_of_ble_eq_true rfl, Nat.le_of_ble_eq_true rfl⟩) (k_preV (KK_st g) hKK (va_recv hK (k_one o0) (ci := 8) (q0 := 0) rfl rfl)) rfl rfl hl.1 rfl (lv_room (Nat.le_of_ble_eq_true rfl)) d_Leaders_drawn_37 ⟨Nat.zero_le _, Nat.zero_le _⟩) ?_
        refine lv_isub hx hb d_Leaders_drawn_40 ?_
        exact W.iret (v := ((f_Math_floorDiv (p0 + p1) f1) - (f_Leaders_alignedFrom f0 f1 p0))) hx hb hr (fun t ht hW => ⟨_, rfl, (by unfold f_Leaders_drawn; rw [if_neg c_1, if_pos c_2, if_pos c_3]), ht⟩) (fun _ h => by cases h) d_Leaders_drawn_41
    · skip
      refine lv_iconst (v := 0) hx hb d_Leaders_drawn_15 (by decide) ?_
      exact W.iret (v := 0) hx hb hr (fun t ht hW => ⟨_, rfl, (by unfold f_Leaders_drawn; rw [if_neg c_1, if_neg c_2]), ht⟩) (fun _ h => by cases h) d_Leaders_drawn_16
def f_Leaders_first (f0 f1 : Int32) (p0 : Int32) (p1 : Int32) : Int32 :=
  if f1 ≤ 0 then
    0
  else
    if (f_Leaders_drawn f0 f1 p0 p1) = 0 then
      0
    else
      if f0 = 1 then
        ((f_Leaders_alignedFrom f0 f1 p0) * f1)
      else
        if f0 = 2 then
          (p0 + ((p1 - p1 / f1 * f1) / 2))
        else
          (p0 + (f_Leaders_gap f0 f1 p1))
set_option maxHeartbeats 4000000 in
set_option maxRecDepth 100000 in
theorem c_Leaders_first (l : Launch) (g : KGt) (H0 : Heap) (h0 : Nat) (f0 f1 : Int32) (p0 : Int32) (p1 : Int32) (o0 : va_at g.1 kcl (h0, .inr (8, [.int f0, .int f1])) H0) : Met l y_Leaders_first (kW y_Leaders_first b_Leaders_first 3 (.some .int)) ({ frames := 3, cells := 0, slots := 0, locals := 65 }) (kPc [.ref h0, .int p0, .int p1] (KK g) H0) (kQc (kPure (.int (f_Leaders_first f0 f1 p0 p1)) H0)) 0 0 (fun _ => False) := by
  refine Met.ofW (cc := b_Leaders_first) (maxL := 3) (ret := (.some .int)) (by decide) rfl ?_
  intro p e s m args below meth c s₁ B hml hv
  obtain ⟨rfl, hH, hKK⟩ := hv
  have hx := B.exec
  have hb := B.bytes
  have hr := B.returns
  have hts := kW_ts (atoms_spec (ws := kW y_Leaders_first b_Leaders_first 3 (.some .int)) B.pre)
  have hown : s.vm.findClass "BoxGlue$Leaders" = some m.cls := findClass_of_methodNamed B.named
  have hlocks := B.notSynchronized
  have hK := hKK.1
  subst hH
  have hl := lv_entry ([.ref h0, .int p0, .int p1]) (n := 3) (Nat.le_of_ble_eq_true rfl)
  rw [lg_entry_eq]
  generalize (lg_sl ([.ref h0, .int p0, .int p1]) ++ List.replicate (3 - (lg_sl ([.ref h0, .int p0, .int p1])).length) Slot.unset).toArray = ls at hl ⊢
  have hl : lv_has ls 3 [(0, .ref h0), (1, .int p0), (2, .int p1)] := hl
  refine lv_aload_n hx hb d_Leaders_first_0 rfl (lv_at hl 0 rfl) ?_
  refine va_get (D := g.1) (ci := 8) (v := .int f1) (C := "BoxGlue$Leaders") (T := kT_Leaders) (N := 2) hx hb hts ki_Leaders hown hK (k_one o0) 0 rfl rfl 1 (by decide) (hts _ kw_264) (fun _ h9 => h9) rfl d_Leaders_first_1 ?_
  refine lv_if_le (tgt := 16) hx hb d_Leaders_first_4 (by decide) (fun c_1 => ?_) (fun c_1 => ?_)
  · skip
    refine lv_iconst (v := 0) hx hb d_Leaders_first_16 (by decide) ?_
    exact W.iret (v := 0) hx hb hr (fun t ht hW => ⟨_, rfl, (by unfold f_Leaders_first; rw [if_pos c_1]), ht⟩) (fun _ h => by cases h) d_Leaders_first_17
  · skip
    refine lv_aload_n hx hb d_Leaders_first_7 rfl (lv_at hl 0 rfl) ?_
    refine lv_iload_n hx hb d_Leaders_first_8 rfl (lv_at hl 1 rfl) ?_
    refine lv_iload_n hx hb d_Leaders_first_9 rfl (lv_at hl 2 rfl) ?_
    refine k_pure (r := .int (f_Leaders_drawn f0 f1 p0 p1)) (W.runV (As := [.int p0, .int p1]) (rest := []) ⟨hx, hb, hml, hown, hts⟩ (c_Leaders_drawn l g s.heap h0 f0 f1 p0 p1 o0) (cwV 2 hts (kV_good kw_503 kw_525 kw_501 kw_502 kw_17) rfl rfl rfl (by decide +kernel) ⟨Nat.le_of_ble_eq_true rfl, Nat.le_of_ble_eq_true rfl⟩) (k_preV (KK_st g) hKK (va_recv hK (k_one o0) (ci := 8) (q0 := 0) rfl rfl)) rfl rfl hl.1 rfl (lv_room (Nat.le_of_ble_eq_true rfl)) d_Leaders_first_10 ⟨Nat.zero_le _, Nat.zero_le _⟩) ?_
    refine lv_if_ne (tgt := 18) hx hb d_Leaders_first_13 (by decide) (fun c_2 => ?_) (fun c_2 => ?_)
    · skip
      refine lv_aload_n hx hb d_Leaders_first_18 rfl (lv_at hl 0 rfl) ?_
      refine va_get (D := g.1) (ci := 8) (v := .int f0) (C := "BoxGlue$Leaders") (T := kT_Leaders) (N := 2) hx hb hts ki_Leaders hown hK (k_one o0) 0 rfl rfl 0 (by decide) (hts _ kw_263) (fun _ h9 => h9) rfl d_Leaders_first_19 ?_
      refine lv_iconst (v := 1) hx hb d_Leaders_first_22 (by decide) ?_
      refine lv_icmp_ne (tgt := 37) hx hb d_Leaders_first_23 (by decide) (fun c_3 => ?_) (fun c_3 => ?_)
      · skip
        refine lv_aload_n hx hb d_Leaders_first_37 rfl (lv_at hl 0 rfl) ?_
        refine va_get (D := g.1) (ci := 8) (v := .int f0) (C := "BoxGlue$Leaders") (T := kT_Leaders) (N := 2) hx hb hts ki_Leaders hown hK (k_one o0) 0 rfl rfl 0 (by decide) (hts _ kw_263) (fun _ h9 => h9) rfl d_Leaders_first_38 ?_
        refine lv_iconst (v := 2) hx hb d_Leaders_first_41 (by decide) ?_
        refine lv_icmp_ne (tgt := 56) hx hb d_Leaders_first_42 (by decide) (fun c_4 => ?_) (fun c_4 => ?_)
        · skip
          refine lv_iload_n hx hb d_Leaders_first_56 rfl (lv_at hl 1 rfl) ?_
          refine lv_aload_n hx hb d_Leaders_first_57 rfl (lv_at hl 0 rfl) ?_
          refine lv_iload_n hx hb d_Leaders_first_58 rfl (lv_at hl 2 rfl) ?_
          refine k_pure (r := .int (f_Leaders_gap f0 f1 p1)) (W.runV (As := [.int p1]) (rest := [.int p0]) ⟨hx, hb, hml, hown, hts⟩ (c_Leaders_gap l g s.heap h0 f0 f1 p1 o0) (cwV 1 hts (kV_good kw_529 kw_526 kw_528 ks_Leaders_gap kw_17) rfl rfl rfl (by decide +kernel) ⟨Nat.le_of_ble_eq_true rfl, Nat.le_of_ble_eq_true rfl⟩) (k_preV (KK_st g) hKK (va_recv hK (k_one o0) (ci := 8) (q0 := 0) rfl rfl)) rfl rfl hl.1 rfl (lv_room (Nat.le_of_ble_eq_true rfl)) d_Leaders_first_59 ⟨Nat.zero_le _, Nat.zero_le _⟩) ?_
          refine lv_iadd hx hb d_Leaders_first_62 ?_
          exact W.iret (v := (p0 + (f_Leaders_gap f0 f1 p1))) hx hb hr (fun t ht hW => ⟨_, rfl, (by unfold f_Leaders_first; rw [if_neg c_1, if_neg c_2, if_neg c_3, if_neg c_4]), ht⟩) (fun _ h => by cases h) d_Leaders_first_63
        · skip
          refine lv_iload_n hx hb d_Leaders_first_45 rfl (lv_at hl 1 rfl) ?_
          refine lv_iload_n hx hb d_Leaders_first_46 rfl (lv_at hl 2 rfl) ?_
          refine lv_aload_n hx hb d_Leaders_first_47 rfl (lv_at hl 0 rfl) ?_
          refine va_get (D := g.1) (ci := 8) (v := .int f1) (C := "BoxGlue$Leaders") (T := kT_Leaders) (N := 2) hx hb hts ki_Leaders hown hK (k_one o0) 0 rfl rfl 1 (by decide) (hts _ kw_264) (fun _ h9 => h9) rfl d_Leaders_first_48 ?_
          refine lv_irem hx hb d_Leaders_first_51 (fun h => c_1 (by rw [h]; decide)) ?_
          refine lv_iconst (v := 2) hx hb d_Leaders_first_52 (by decide) ?_
          refine lv_idiv hx hb d_Leaders_first_53 (by decide) ?_
          refine lv_iadd hx hb d_Leaders_first_54 ?_
          exact W.iret (v := (p0 + ((p1 - p1 / f1 * f1) / 2))) hx hb hr (fun t ht hW => ⟨_, rfl, (by unfold f_Leaders_first; rw [if_neg c_1, if_neg c_2, if_neg c_3, if_pos c_4]), ht⟩) (fun _ h => by cases h) d_Leaders_first_55
      · skip
        refine lv_aload_n hx hb d_Leaders_first_26 rfl (lv_at hl 0 rfl) ?_
        refine lv_iload_n hx hb d_Leaders_first_27 rfl (lv_at hl 1 rfl) ?_
        refine k_pure (r := .int (f_Leaders_alignedFrom f0 f1 p0)) (W.runV (As := [.int p0]) (rest := []) ⟨hx, hb, hml, hown, hts⟩ (c_Leaders_alignedFrom l g s.heap h0 f0 f1 p0 o0) (cwV 1 hts (kV_good kw_510 kw_507 kw_509 ks_Leaders_alignedFrom kw_17) rfl rfl rfl (by decide +kernel) ⟨Nat.le_of_ble_eq_true rfl, Nat.le_of_ble_eq_true rfl⟩) (k_preV (KK_st g) hKK (va_recv hK (k_one o0) (ci := 8) (q0 := 0) rfl rfl)) rfl rfl hl.1 rfl (lv_room (Nat.le_of_ble_eq_true rfl)) d_Leaders_first_28 ⟨Nat.zero_le _, Nat.zero_le _⟩) ?_
        refine lv_aload_n hx hb d_Leaders_first_31 rfl (lv_at hl 0 rfl) ?_
        refine va_get (D := g.1) (ci := 8) (v := .int f1) (C := "BoxGlue$Leaders") (T := kT_Leaders) (N := 2) hx hb hts ki_Leaders hown hK (k_one o0) 0 rfl rfl 1 (by decide) (hts _ kw_264) (fun _ h9 => h9) rfl d_Leaders_first_32 ?_
        refine lv_imul hx hb d_Leaders_first_35 ?_
        exact W.iret (v := ((f_Leaders_alignedFrom f0 f1 p0) * f1)) hx hb hr (fun t ht hW => ⟨_, rfl, (by unfold f_Leaders_first; rw [if_neg c_1, if_neg c_2, if_pos c_3]), ht⟩) (fun _ h => by cases h) d_Leaders_first_36
    · skip
      refine lv_iconst (v := 0) hx hb d_Leaders_first_16 (by decide) ?_
      exact W.iret (v := 0) hx hb hr (fun t ht hW => ⟨_, rfl, (by unfold f_Leaders_first; rw [if_neg c_1, if_pos c_2]), ht⟩) (fun _ h => by cases h) d_Leaders_first_17
def f_Leaders_step (f0 f1 : Int32) (p0 : Int32) (p1 : Int32) : Int32 :=
  if (f_Leaders_drawn f0 f1 p0 p1) = 0 then
    0
  else
    if f0 = 3 then
      (f1 + (f_Leaders_gap f0 f1 p1))
    else
      f1
set_option maxHeartbeats 4000000 in
set_option maxRecDepth 100000 in
theorem c_Leaders_step (l : Launch) (g : KGt) (H0 : Heap) (h0 : Nat) (f0 f1 : Int32) (p0 : Int32) (p1 : Int32) (o0 : va_at g.1 kcl (h0, .inr (8, [.int f0, .int f1])) H0) : Met l y_Leaders_step (kW y_Leaders_step b_Leaders_step 3 (.some .int)) ({ frames := 3, cells := 0, slots := 0, locals := 65 }) (kPc [.ref h0, .int p0, .int p1] (KK g) H0) (kQc (kPure (.int (f_Leaders_step f0 f1 p0 p1)) H0)) 0 0 (fun _ => False) := by
  refine Met.ofW (cc := b_Leaders_step) (maxL := 3) (ret := (.some .int)) (by decide) rfl ?_
  intro p e s m args below meth c s₁ B hml hv
  obtain ⟨rfl, hH, hKK⟩ := hv
  have hx := B.exec
  have hb := B.bytes
  have hr := B.returns
  have hts := kW_ts (atoms_spec (ws := kW y_Leaders_step b_Leaders_step 3 (.some .int)) B.pre)
  have hown : s.vm.findClass "BoxGlue$Leaders" = some m.cls := findClass_of_methodNamed B.named
  have hlocks := B.notSynchronized
  have hK := hKK.1
  subst hH
  have hl := lv_entry ([.ref h0, .int p0, .int p1]) (n := 3) (Nat.le_of_ble_eq_true rfl)
  rw [lg_entry_eq]
  generalize (lg_sl ([.ref h0, .int p0, .int p1]) ++ List.replicate (3 - (lg_sl ([.ref h0, .int p0, .int p1])).length) Slot.unset).toArray = ls at hl ⊢
  have hl : lv_has ls 3 [(0, .ref h0), (1, .int p0), (2, .int p1)] := hl
  refine lv_aload_n hx hb d_Leaders_step_0 rfl (lv_at hl 0 rfl) ?_
  refine lv_iload_n hx hb d_Leaders_step_1 rfl (lv_at hl 1 rfl) ?_
  refine lv_iload_n hx hb d_Leaders_step_2 rfl (lv_at hl 2 rfl) ?_
  refine k_pure (r := .int (f_Leaders_drawn f0 f1 p0 p1)) (W.runV (As := [.int p0, .int p1]) (rest := []) ⟨hx, hb, hml, hown, hts⟩ (c_Leaders_drawn l g s.heap h0 f0 f1 p0 p1 o0) (cwV 2 hts (kV_good kw_503 kw_525 kw_501 kw_502 kw_17) rfl rfl rfl (by decide +kernel) ⟨Nat.le_of_ble_eq_true rfl, Nat.le_of_ble_eq_true rfl⟩) (k_preV (KK_st g) hKK (va_recv hK (k_one o0) (ci := 8) (q0 := 0) rfl rfl)) rfl rfl hl.1 rfl (lv_room (Nat.le_of_ble_eq_true rfl)) d_Leaders_step_3 ⟨Nat.zero_le _, Nat.zero_le _⟩) ?_
  refine lv_if_ne (tgt := 11) hx hb d_Leaders_step_6 (by decide) (fun c_1 => ?_) (fun c_1 => ?_)
  · skip
    refine lv_aload_n hx hb d_Leaders_step_11 rfl (lv_at hl 0 rfl) ?_
    refine va_get (D := g.1) (ci := 8) (v := .int f0) (C := "BoxGlue$Leaders") (T := kT_Leaders) (N := 2) hx hb hts ki_Leaders hown hK (k_one o0) 0 rfl rfl 0 (by decide) (hts _ kw_263) (fun _ h9 => h9) rfl d_Leaders_step_12 ?_
    refine lv_iconst (v := 3) hx hb d_Leaders_step_15 (by decide) ?_
    refine lv_icmp_ne (tgt := 32) hx hb d_Leaders_step_16 (by decide) (fun c_2 => ?_) (fun c_2 => ?_)
    · skip
      refine lv_aload_n hx hb d_Leaders_step_32 rfl (lv_at hl 0 rfl) ?_
      refine va_get (D := g.1) (ci := 8) (v := .int f1) (C := "BoxGlue$Leaders") (T := kT_Leaders) (N := 2) hx hb hts ki_Leaders hown hK (k_one o0) 0 rfl rfl 1 (by decide) (hts _ kw_264) (fun _ h9 => h9) rfl d_Leaders_step_33 ?_
      exact W.iret (v := f1) hx hb hr (fun t ht hW => ⟨_, rfl, (by unfold f_Leaders_step; rw [if_neg c_1, if_neg c_2]), ht⟩) (fun _ h => by cases h) d_Leaders_step_36
    · skip
      refine lv_aload_n hx hb d_Leaders_step_19 rfl (lv_at hl 0 rfl) ?_
      refine va_get (D := g.1) (ci := 8) (v := .int f1) (C := "BoxGlue$Leaders") (T := kT_Leaders) (N := 2) hx hb hts ki_Leaders hown hK (k_one o0) 0 rfl rfl 1 (by decide) (hts _ kw_264) (fun _ h9 => h9) rfl d_Leaders_step_20 ?_
      refine lv_aload_n hx hb d_Leaders_step_23 rfl (lv_at hl 0 rfl) ?_
      refine lv_iload_n hx hb d_Leaders_step_24 rfl (lv_at hl 2 rfl) ?_
      refine k_pure (r := .int (f_Leaders_gap f0 f1 p1)) (W.runV (As := [.int p1]) (rest := [.int f1]) ⟨hx, hb, hml, hown, hts⟩ (c_Leaders_gap l g s.heap h0 f0 f1 p1 o0) (cwV 1 hts (kV_good kw_529 kw_526 kw_528 ks_Leaders_gap kw_17) rfl rfl rfl (by decide +kernel) ⟨Nat.le_of_ble_eq_true rfl, Nat.le_of_ble_eq_true rfl⟩) (k_preV (KK_st g) hKK (va_recv hK (k_one o0) (ci := 8) (q0 := 0) rfl rfl)) rfl rfl hl.1 rfl (lv_room (Nat.le_of_ble_eq_true rfl)) d_Leaders_step_25 ⟨Nat.zero_le _, Nat.zero_le _⟩) ?_
      refine lv_iadd hx hb d_Leaders_step_28 ?_
      refine lv_goto (tgt := 36) hx hb d_Leaders_step_29 (by decide) ?_
      exact W.iret (v := (f1 + (f_Leaders_gap f0 f1 p1))) hx hb hr (fun t ht hW => ⟨_, rfl, (by unfold f_Leaders_step; rw [if_neg c_1, if_pos c_2]), ht⟩) (fun _ h => by cases h) d_Leaders_step_36
  · skip
    refine lv_iconst (v := 0) hx hb d_Leaders_step_9 (by decide) ?_
    exact W.iret (v := 0) hx hb hr (fun t ht hW => ⟨_, rfl, (by unfold f_Leaders_step; rw [if_pos c_1]), ht⟩) (fun _ h => by cases h) d_Leaders_step_10
def f_Glue_giving (f0 f1 f2 f3 f4 f5 : Int32) (p0 : Int32) (p1 : Int32) : Int32 :=
  if p0 = 0 then
    if p1 = f5 then
      f4
    else
      0
  else
    if p1 = f3 then
      f2
    else
      0
set_option maxHeartbeats 4000000 in
set_option maxRecDepth 100000 in
theorem c_Glue_giving (l : Launch) (g : KGt) (H0 : Heap) (h0 : Nat) (r6 : Nat) (f0 f1 f2 f3 f4 f5 : Int32) (p0 : Int32) (p1 : Int32) (o0 : va_at g.1 kcl (h0, .inr (5, [.int f0, .int f1, .int f2, .int f3, .int f4, .int f5, .ref r6])) H0) : Met l y_Glue_giving (kW y_Glue_giving b_Glue_giving 3 (.some .int)) ({ frames := 0, cells := 0, slots := 0, locals := 0 }) (kPc [.ref h0, .int p0, .int p1] (KK g) H0) (kQc (kPure (.int (f_Glue_giving f0 f1 f2 f3 f4 f5 p0 p1)) H0)) 0 0 (fun _ => False) := by
  refine Met.ofW (cc := b_Glue_giving) (maxL := 3) (ret := (.some .int)) (by decide) rfl ?_
  intro p e s m args below meth c s₁ B hml hv
  obtain ⟨rfl, hH, hKK⟩ := hv
  have hx := B.exec
  have hb := B.bytes
  have hr := B.returns
  have hts := kW_ts (atoms_spec (ws := kW y_Glue_giving b_Glue_giving 3 (.some .int)) B.pre)
  have hown : s.vm.findClass "BoxGlue$Glue" = some m.cls := findClass_of_methodNamed B.named
  have hlocks := B.notSynchronized
  have hK := hKK.1
  subst hH
  have hl := lv_entry ([.ref h0, .int p0, .int p1]) (n := 3) (Nat.le_of_ble_eq_true rfl)
  rw [lg_entry_eq]
  generalize (lg_sl ([.ref h0, .int p0, .int p1]) ++ List.replicate (3 - (lg_sl ([.ref h0, .int p0, .int p1])).length) Slot.unset).toArray = ls at hl ⊢
  have hl : lv_has ls 3 [(0, .ref h0), (1, .int p0), (2, .int p1)] := hl
  refine lv_iload_n hx hb d_Glue_giving_0 rfl (lv_at hl 1 rfl) ?_
  refine lv_if_eq (tgt := 21) hx hb d_Glue_giving_1 (by decide) (fun c_1 => ?_) (fun c_1 => ?_)
  · skip
    refine lv_iload_n hx hb d_Glue_giving_21 rfl (lv_at hl 2 rfl) ?_
    refine lv_aload_n hx hb d_Glue_giving_22 rfl (lv_at hl 0 rfl) ?_
    refine va_get (D := g.1) (ci := 5) (v := .int f5) (C := "BoxGlue$Glue") (T := kT_Glue) (N := 7) hx hb hts ki_Glue hown hK (k_one o0) 0 rfl rfl 5 (by decide) (hts _ kw_277) (fun _ h9 => h9) rfl d_Glue_giving_23 ?_
    refine lv_icmp_ne (tgt := 36) hx hb d_Glue_giving_26 (by decide) (fun c_2 => ?_) (fun c_2 => ?_)
    · skip
      refine lv_iconst (v := 0) hx hb d_Glue_giving_36 (by decide) ?_
      exact W.iret (v := 0) hx hb hr (fun t ht hW => ⟨_, rfl, (by unfold f_Glue_giving; rw [if_pos c_1, if_neg c_2]), ht⟩) (fun _ h => by cases h) d_Glue_giving_37
    · skip
      refine lv_aload_n hx hb d_Glue_giving_29 rfl (lv_at hl 0 rfl) ?_
      refine va_get (D := g.1) (ci := 5) (v := .int f4) (C := "BoxGlue$Glue") (T := kT_Glue) (N := 7) hx hb hts ki_Glue hown hK (k_one o0) 0 rfl rfl 4 (by decide) (hts _ kw_276) (fun _ h9 => h9) rfl d_Glue_giving_30 ?_
      refine lv_goto (tgt := 37) hx hb d_Glue_giving_33 (by decide) ?_
      exact W.iret (v := f4) hx hb hr (fun t ht hW => ⟨_, rfl, (by unfold f_Glue_giving; rw [if_pos c_1, if_pos c_2]), ht⟩) (fun _ h => by cases h) d_Glue_giving_37
  · skip
    refine lv_iload_n hx hb d_Glue_giving_4 rfl (lv_at hl 2 rfl) ?_
    refine lv_aload_n hx hb d_Glue_giving_5 rfl (lv_at hl 0 rfl) ?_
    refine va_get (D := g.1) (ci := 5) (v := .int f3) (C := "BoxGlue$Glue") (T := kT_Glue) (N := 7) hx hb hts ki_Glue hown hK (k_one o0) 0 rfl rfl 3 (by decide) (hts _ kw_275) (fun _ h9 => h9) rfl d_Glue_giving_6 ?_
    refine lv_icmp_ne (tgt := 19) hx hb d_Glue_giving_9 (by decide) (fun c_3 => ?_) (fun c_3 => ?_)
    · skip
      refine lv_iconst (v := 0) hx hb d_Glue_giving_19 (by decide) ?_
      exact W.iret (v := 0) hx hb hr (fun t ht hW => ⟨_, rfl, (by unfold f_Glue_giving; rw [if_neg c_1, if_neg c_3]), ht⟩) (fun _ h => by cases h) d_Glue_giving_20
    · skip
      refine lv_aload_n hx hb d_Glue_giving_12 rfl (lv_at hl 0 rfl) ?_
      refine va_get (D := g.1) (ci := 5) (v := .int f2) (C := "BoxGlue$Glue") (T := kT_Glue) (N := 7) hx hb hts ki_Glue hown hK (k_one o0) 0 rfl rfl 2 (by decide) (hts _ kw_274) (fun _ h9 => h9) rfl d_Glue_giving_13 ?_
      refine lv_goto (tgt := 20) hx hb d_Glue_giving_16 (by decide) ?_
      exact W.iret (v := f2) hx hb hr (fun t ht hW => ⟨_, rfl, (by unfold f_Glue_giving; rw [if_neg c_1, if_pos c_3]), ht⟩) (fun _ h => by cases h) d_Glue_giving_20
def f_Glue_leadersDrawn (f0 f1 f2 f3 f4 f5 f6 f7 : Int32) (p0 : Int32) (p1 : Int32) : Int32 :=
  (f_Leaders_drawn f6 f7 p0 p1)
set_option maxHeartbeats 4000000 in
set_option maxRecDepth 100000 in
theorem c_Glue_leadersDrawn (l : Launch) (g : KGt) (H0 : Heap) (h0 h1 : Nat) (f0 f1 f2 f3 f4 f5 f6 f7 : Int32) (p0 : Int32) (p1 : Int32) (o0 : va_at g.1 kcl (h0, .inr (5, [.int f0, .int f1, .int f2, .int f3, .int f4, .int f5, .ref h1])) H0) (o1 : va_at g.1 kcl (h1, .inr (8, [.int f6, .int f7])) H0) : Met l y_Glue_leadersDrawn (kW y_Glue_leadersDrawn b_Glue_leadersDrawn 3 (.some .int)) ({ frames := 3, cells := 0, slots := 0, locals := 65 }) (kPc [.ref h0, .int p0, .int p1] (KK g) H0) (kQc (kPure (.int (f_Glue_leadersDrawn f0 f1 f2 f3 f4 f5 f6 f7 p0 p1)) H0)) 0 0 (fun _ => False) := by
  refine Met.ofW (cc := b_Glue_leadersDrawn) (maxL := 3) (ret := (.some .int)) (by decide) rfl ?_
  intro p e s m args below meth c s₁ B hml hv
  obtain ⟨rfl, hH, hKK⟩ := hv
  have hx := B.exec
  have hb := B.bytes
  have hr := B.returns
  have hts := kW_ts (atoms_spec (ws := kW y_Glue_leadersDrawn b_Glue_leadersDrawn 3 (.some .int)) B.pre)
  have hown : s.vm.findClass "BoxGlue$Glue" = some m.cls := findClass_of_methodNamed B.named
  have hlocks := B.notSynchronized
  have hK := hKK.1
  subst hH
  have hl := lv_entry ([.ref h0, .int p0, .int p1]) (n := 3) (Nat.le_of_ble_eq_true rfl)
  rw [lg_entry_eq]
  generalize (lg_sl ([.ref h0, .int p0, .int p1]) ++ List.replicate (3 - (lg_sl ([.ref h0, .int p0, .int p1])).length) Slot.unset).toArray = ls at hl ⊢
  have hl : lv_has ls 3 [(0, .ref h0), (1, .int p0), (2, .int p1)] := hl
  refine lv_aload_n hx hb d_Glue_leadersDrawn_0 rfl (lv_at hl 0 rfl) ?_
  refine va_get (D := g.1) (ci := 5) (v := .ref h1) (C := "BoxGlue$Glue") (T := kT_Glue) (N := 7) hx hb hts ki_Glue hown hK (k_one o0) 0 rfl rfl 6 (by decide) (hts _ kw_278) (fun _ h9 => h9) rfl d_Glue_leadersDrawn_1 ?_
  refine lv_iload_n hx hb d_Glue_leadersDrawn_4 rfl (lv_at hl 1 rfl) ?_
  refine lv_iload_n hx hb d_Glue_leadersDrawn_5 rfl (lv_at hl 2 rfl) ?_
  refine k_pure (r := .int (f_Leaders_drawn f6 f7 p0 p1)) (W.runV (As := [.int p0, .int p1]) (rest := []) ⟨hx, hb, hml, hown, hts⟩ (c_Leaders_drawn l g s.heap h1 f6 f7 p0 p1 o1) (cwV 2 hts (kV_good kw_503 kw_500 kw_501 kw_502 kw_17) rfl rfl rfl (by decide +kernel) ⟨Nat.le_of_ble_eq_true rfl, Nat.le_of_ble_eq_true rfl⟩) (k_preV (KK_st g) hKK (va_recv hK (k_one o1) (ci := 8) (q0 := 0) rfl rfl)) rfl rfl hl.1 rfl (lv_room (Nat.le_of_ble_eq_true rfl)) d_Glue_leadersDrawn_6 ⟨Nat.zero_le _, Nat.zero_le _⟩) ?_
  exact W.iret (v := (f_Leaders_drawn f6 f7 p0 p1)) hx hb hr (fun t ht hW => ⟨_, rfl, rfl, ht⟩) (fun _ h => by cases h) d_Glue_leadersDrawn_9
def f_Glue_firstLeader (f0 f1 f2 f3 f4 f5 f6 f7 : Int32) (p0 : Int32) (p1 : Int32) : Int32 :=
  (f_Leaders_first f6 f7 p0 p1)
set_option maxHeartbeats 4000000 in
set_option maxRecDepth 100000 in
theorem c_Glue_firstLeader (l : Launch) (g : KGt) (H0 : Heap) (h0 h1 : Nat) (f0 f1 f2 f3 f4 f5 f6 f7 : Int32) (p0 : Int32) (p1 : Int32) (o0 : va_at g.1 kcl (h0, .inr (5, [.int f0, .int f1, .int f2, .int f3, .int f4, .int f5, .ref h1])) H0) (o1 : va_at g.1 kcl (h1, .inr (8, [.int f6, .int f7])) H0) : Met l y_Glue_firstLeader (kW y_Glue_firstLeader b_Glue_firstLeader 3 (.some .int)) ({ frames := 4, cells := 0, slots := 0, locals := 87 }) (kPc [.ref h0, .int p0, .int p1] (KK g) H0) (kQc (kPure (.int (f_Glue_firstLeader f0 f1 f2 f3 f4 f5 f6 f7 p0 p1)) H0)) 0 0 (fun _ => False) := by
  refine Met.ofW (cc := b_Glue_firstLeader) (maxL := 3) (ret := (.some .int)) (by decide) rfl ?_
  intro p e s m args below meth c s₁ B hml hv
  obtain ⟨rfl, hH, hKK⟩ := hv
  have hx := B.exec
  have hb := B.bytes
  have hr := B.returns
  have hts := kW_ts (atoms_spec (ws := kW y_Glue_firstLeader b_Glue_firstLeader 3 (.some .int)) B.pre)
  have hown : s.vm.findClass "BoxGlue$Glue" = some m.cls := findClass_of_methodNamed B.named
  have hlocks := B.notSynchronized
  have hK := hKK.1
  subst hH
  have hl := lv_entry ([.ref h0, .int p0, .int p1]) (n := 3) (Nat.le_of_ble_eq_true rfl)
  rw [lg_entry_eq]
  generalize (lg_sl ([.ref h0, .int p0, .int p1]) ++ List.replicate (3 - (lg_sl ([.ref h0, .int p0, .int p1])).length) Slot.unset).toArray = ls at hl ⊢
  have hl : lv_has ls 3 [(0, .ref h0), (1, .int p0), (2, .int p1)] := hl
  refine lv_aload_n hx hb d_Glue_firstLeader_0 rfl (lv_at hl 0 rfl) ?_
  refine va_get (D := g.1) (ci := 5) (v := .ref h1) (C := "BoxGlue$Glue") (T := kT_Glue) (N := 7) hx hb hts ki_Glue hown hK (k_one o0) 0 rfl rfl 6 (by decide) (hts _ kw_278) (fun _ h9 => h9) rfl d_Glue_firstLeader_1 ?_
  refine lv_iload_n hx hb d_Glue_firstLeader_4 rfl (lv_at hl 1 rfl) ?_
  refine lv_iload_n hx hb d_Glue_firstLeader_5 rfl (lv_at hl 2 rfl) ?_
  refine k_pure (r := .int (f_Leaders_first f6 f7 p0 p1)) (W.runV (As := [.int p0, .int p1]) (rest := []) ⟨hx, hb, hml, hown, hts⟩ (c_Leaders_first l g s.heap h1 f6 f7 p0 p1 o1) (cwV 2 hts (kV_good kw_524 kw_521 kw_522 kw_523 kw_17) rfl rfl rfl (by decide +kernel) ⟨Nat.le_of_ble_eq_true rfl, Nat.le_of_ble_eq_true rfl⟩) (k_preV (KK_st g) hKK (va_recv hK (k_one o1) (ci := 8) (q0 := 0) rfl rfl)) rfl rfl hl.1 rfl (lv_room (Nat.le_of_ble_eq_true rfl)) d_Glue_firstLeader_6 ⟨Nat.zero_le _, Nat.zero_le _⟩) ?_
  exact W.iret (v := (f_Leaders_first f6 f7 p0 p1)) hx hb hr (fun t ht hW => ⟨_, rfl, rfl, ht⟩) (fun _ h => by cases h) d_Glue_firstLeader_9
def f_Glue_leaderStep (f0 f1 f2 f3 f4 f5 f6 f7 : Int32) (p0 : Int32) (p1 : Int32) : Int32 :=
  (f_Leaders_step f6 f7 p0 p1)
set_option maxHeartbeats 4000000 in
set_option maxRecDepth 100000 in
theorem c_Glue_leaderStep (l : Launch) (g : KGt) (H0 : Heap) (h0 h1 : Nat) (f0 f1 f2 f3 f4 f5 f6 f7 : Int32) (p0 : Int32) (p1 : Int32) (o0 : va_at g.1 kcl (h0, .inr (5, [.int f0, .int f1, .int f2, .int f3, .int f4, .int f5, .ref h1])) H0) (o1 : va_at g.1 kcl (h1, .inr (8, [.int f6, .int f7])) H0) : Met l y_Glue_leaderStep (kW y_Glue_leaderStep b_Glue_leaderStep 3 (.some .int)) ({ frames := 4, cells := 0, slots := 0, locals := 87 }) (kPc [.ref h0, .int p0, .int p1] (KK g) H0) (kQc (kPure (.int (f_Glue_leaderStep f0 f1 f2 f3 f4 f5 f6 f7 p0 p1)) H0)) 0 0 (fun _ => False) := by
  refine Met.ofW (cc := b_Glue_leaderStep) (maxL := 3) (ret := (.some .int)) (by decide) rfl ?_
  intro p e s m args below meth c s₁ B hml hv
  obtain ⟨rfl, hH, hKK⟩ := hv
  have hx := B.exec
  have hb := B.bytes
  have hr := B.returns
  have hts := kW_ts (atoms_spec (ws := kW y_Glue_leaderStep b_Glue_leaderStep 3 (.some .int)) B.pre)
  have hown : s.vm.findClass "BoxGlue$Glue" = some m.cls := findClass_of_methodNamed B.named
  have hlocks := B.notSynchronized
  have hK := hKK.1
  subst hH
  have hl := lv_entry ([.ref h0, .int p0, .int p1]) (n := 3) (Nat.le_of_ble_eq_true rfl)
  rw [lg_entry_eq]
  generalize (lg_sl ([.ref h0, .int p0, .int p1]) ++ List.replicate (3 - (lg_sl ([.ref h0, .int p0, .int p1])).length) Slot.unset).toArray = ls at hl ⊢
  have hl : lv_has ls 3 [(0, .ref h0), (1, .int p0), (2, .int p1)] := hl
  refine lv_aload_n hx hb d_Glue_leaderStep_0 rfl (lv_at hl 0 rfl) ?_
  refine va_get (D := g.1) (ci := 5) (v := .ref h1) (C := "BoxGlue$Glue") (T := kT_Glue) (N := 7) hx hb hts ki_Glue hown hK (k_one o0) 0 rfl rfl 6 (by decide) (hts _ kw_278) (fun _ h9 => h9) rfl d_Glue_leaderStep_1 ?_
  refine lv_iload_n hx hb d_Glue_leaderStep_4 rfl (lv_at hl 1 rfl) ?_
  refine lv_iload_n hx hb d_Glue_leaderStep_5 rfl (lv_at hl 2 rfl) ?_
  refine k_pure (r := .int (f_Leaders_step f6 f7 p0 p1)) (W.runV (As := [.int p0, .int p1]) (rest := []) ⟨hx, hb, hml, hown, hts⟩ (c_Leaders_step l g s.heap h1 f6 f7 p0 p1 o1) (cwV 2 hts (kV_good kw_543 kw_540 kw_541 kw_542 kw_17) rfl rfl rfl (by decide +kernel) ⟨Nat.le_of_ble_eq_true rfl, Nat.le_of_ble_eq_true rfl⟩) (k_preV (KK_st g) hKK (va_recv hK (k_one o1) (ci := 8) (q0 := 0) rfl rfl)) rfl rfl hl.1 rfl (lv_room (Nat.le_of_ble_eq_true rfl)) d_Glue_leaderStep_6 ⟨Nat.zero_le _, Nat.zero_le _⟩) ?_
  exact W.iret (v := (f_Leaders_step f6 f7 p0 p1)) hx hb hr (fun t ht hW => ⟨_, rfl, rfl, ht⟩) (fun _ h => by cases h) d_Glue_leaderStep_9
def f_Put_heightWhere (f0 f1 f2 f3 : Int32) (p0 : Int32) : Int32 :=
  f2
set_option maxHeartbeats 4000000 in
set_option maxRecDepth 100000 in
theorem c_Put_heightWhere (l : Launch) (g : KGt) (H0 : Heap) (h0 : Nat) (f0 f1 f2 f3 : Int32) (p0 : Int32) (o0 : va_at g.1 kcl (h0, .inr (4, [.int f0, .int f1, .int f2, .int f3])) H0) : Met l y_Put_heightWhere (kW y_Put_heightWhere b_Put_heightWhere 2 (.some .int)) ({ frames := 0, cells := 0, slots := 0, locals := 0 }) (kPc [.ref h0, .int p0] (KK g) H0) (kQc (kPure (.int (f_Put_heightWhere f0 f1 f2 f3 p0)) H0)) 0 0 (fun _ => False) := by
  refine Met.ofW (cc := b_Put_heightWhere) (maxL := 2) (ret := (.some .int)) (by decide) rfl ?_
  intro p e s m args below meth c s₁ B hml hv
  obtain ⟨rfl, hH, hKK⟩ := hv
  have hx := B.exec
  have hb := B.bytes
  have hr := B.returns
  have hts := kW_ts (atoms_spec (ws := kW y_Put_heightWhere b_Put_heightWhere 2 (.some .int)) B.pre)
  have hown : s.vm.findClass "BoxGlue$Put" = some m.cls := findClass_of_methodNamed B.named
  have hlocks := B.notSynchronized
  have hK := hKK.1
  subst hH
  have hl := lv_entry ([.ref h0, .int p0]) (n := 2) (Nat.le_of_ble_eq_true rfl)
  rw [lg_entry_eq]
  generalize (lg_sl ([.ref h0, .int p0]) ++ List.replicate (2 - (lg_sl ([.ref h0, .int p0])).length) Slot.unset).toArray = ls at hl ⊢
  have hl : lv_has ls 2 [(0, .ref h0), (1, .int p0)] := hl
  refine lv_aload_n hx hb d_Put_heightWhere_0 rfl (lv_at hl 0 rfl) ?_
  refine va_get (D := g.1) (ci := 4) (v := .int f2) (C := "BoxGlue$Put") (T := kT_Put) (N := 4) hx hb hts ki_Put hown hK (k_one o0) 0 rfl rfl 2 (by decide) (hts _ kw_226) (fun _ h9 => h9) rfl d_Put_heightWhere_1 ?_
  exact W.iret (v := f2) hx hb hr (fun t ht hW => ⟨_, rfl, rfl, ht⟩) (fun _ h => by cases h) d_Put_heightWhere_4
def f_Put_depthWhere (f0 f1 f2 f3 : Int32) (p0 : Int32) : Int32 :=
  f3
set_option maxHeartbeats 4000000 in
set_option maxRecDepth 100000 in
theorem c_Put_depthWhere (l : Launch) (g : KGt) (H0 : Heap) (h0 : Nat) (f0 f1 f2 f3 : Int32) (p0 : Int32) (o0 : va_at g.1 kcl (h0, .inr (4, [.int f0, .int f1, .int f2, .int f3])) H0) : Met l y_Put_depthWhere (kW y_Put_depthWhere b_Put_depthWhere 2 (.some .int)) ({ frames := 0, cells := 0, slots := 0, locals := 0 }) (kPc [.ref h0, .int p0] (KK g) H0) (kQc (kPure (.int (f_Put_depthWhere f0 f1 f2 f3 p0)) H0)) 0 0 (fun _ => False) := by
  refine Met.ofW (cc := b_Put_depthWhere) (maxL := 2) (ret := (.some .int)) (by decide) rfl ?_
  intro p e s m args below meth c s₁ B hml hv
  obtain ⟨rfl, hH, hKK⟩ := hv
  have hx := B.exec
  have hb := B.bytes
  have hr := B.returns
  have hts := kW_ts (atoms_spec (ws := kW y_Put_depthWhere b_Put_depthWhere 2 (.some .int)) B.pre)
  have hown : s.vm.findClass "BoxGlue$Put" = some m.cls := findClass_of_methodNamed B.named
  have hlocks := B.notSynchronized
  have hK := hKK.1
  subst hH
  have hl := lv_entry ([.ref h0, .int p0]) (n := 2) (Nat.le_of_ble_eq_true rfl)
  rw [lg_entry_eq]
  generalize (lg_sl ([.ref h0, .int p0]) ++ List.replicate (2 - (lg_sl ([.ref h0, .int p0])).length) Slot.unset).toArray = ls at hl ⊢
  have hl : lv_has ls 2 [(0, .ref h0), (1, .int p0)] := hl
  refine lv_aload_n hx hb d_Put_depthWhere_0 rfl (lv_at hl 0 rfl) ?_
  refine va_get (D := g.1) (ci := 4) (v := .int f3) (C := "BoxGlue$Put") (T := kT_Put) (N := 4) hx hb hts ki_Put hown hK (k_one o0) 0 rfl rfl 3 (by decide) (hts _ kw_227) (fun _ h9 => h9) rfl d_Put_depthWhere_1 ?_
  exact W.iret (v := f3) hx hb hr (fun t ht hW => ⟨_, rfl, rfl, ht⟩) (fun _ h => by cases h) d_Put_depthWhere_4
def f_Rule_heightWhere (f0 f1 f2 f3 : Int32) (p0 : Int32) : Int32 :=
  if f2 = (-1000000) then
    p0
  else
    f2
set_option maxHeartbeats 4000000 in
set_option maxRecDepth 100000 in
theorem c_Rule_heightWhere (l : Launch) (g : KGt) (H0 : Heap) (h0 : Nat) (f0 f1 f2 f3 : Int32) (p0 : Int32) (o0 : va_at g.1 kcl (h0, .inr (7, [.int f0, .int f1, .int f2, .int f3])) H0) : Met l y_Rule_heightWhere (kW y_Rule_heightWhere b_Rule_heightWhere 2 (.some .int)) ({ frames := 0, cells := 0, slots := 0, locals := 0 }) (kPc [.ref h0, .int p0] (KK g) H0) (kQc (kPure (.int (f_Rule_heightWhere f0 f1 f2 f3 p0)) H0)) 0 0 (fun _ => False) := by
  refine Met.ofW (cc := b_Rule_heightWhere) (maxL := 2) (ret := (.some .int)) (by decide) rfl ?_
  intro p e s m args below meth c s₁ B hml hv
  obtain ⟨rfl, hH, hKK⟩ := hv
  have hx := B.exec
  have hb := B.bytes
  have hr := B.returns
  have hts := kW_ts (atoms_spec (ws := kW y_Rule_heightWhere b_Rule_heightWhere 2 (.some .int)) B.pre)
  have hown : s.vm.findClass "BoxGlue$Rule" = some m.cls := findClass_of_methodNamed B.named
  have hlocks := B.notSynchronized
  have hK := hKK.1
  subst hH
  have hl := lv_entry ([.ref h0, .int p0]) (n := 2) (Nat.le_of_ble_eq_true rfl)
  rw [lg_entry_eq]
  generalize (lg_sl ([.ref h0, .int p0]) ++ List.replicate (2 - (lg_sl ([.ref h0, .int p0])).length) Slot.unset).toArray = ls at hl ⊢
  have hl : lv_has ls 2 [(0, .ref h0), (1, .int p0)] := hl
  refine lv_aload_n hx hb d_Rule_heightWhere_0 rfl (lv_at hl 0 rfl) ?_
  refine va_get (D := g.1) (ci := 7) (v := .int f2) (C := "BoxGlue$Rule") (T := kT_Rule) (N := 4) hx hb hts ki_Rule hown hK (k_one o0) 0 rfl rfl 2 (by decide) (hts _ kw_319) (fun _ h9 => h9) rfl d_Rule_heightWhere_1 ?_
  refine lv_ldc (own := "BoxGlue$Rule") (index := 18) (v := (-1000000)) hx hb hown (hts _ kw_375) d_Rule_heightWhere_4 ?_
  refine lv_icmp_ne (tgt := 13) hx hb d_Rule_heightWhere_6 (by decide) (fun c_1 => ?_) (fun c_1 => ?_)
  · skip
    refine lv_aload_n hx hb d_Rule_heightWhere_13 rfl (lv_at hl 0 rfl) ?_
    refine va_get (D := g.1) (ci := 7) (v := .int f2) (C := "BoxGlue$Rule") (T := kT_Rule) (N := 4) hx hb hts ki_Rule hown hK (k_one o0) 0 rfl rfl 2 (by decide) (hts _ kw_319) (fun _ h9 => h9) rfl d_Rule_heightWhere_14 ?_
    exact W.iret (v := f2) hx hb hr (fun t ht hW => ⟨_, rfl, (by unfold f_Rule_heightWhere; rw [if_neg c_1]), ht⟩) (fun _ h => by cases h) d_Rule_heightWhere_17
  · skip
    refine lv_iload_n hx hb d_Rule_heightWhere_9 rfl (lv_at hl 1 rfl) ?_
    refine lv_goto (tgt := 17) hx hb d_Rule_heightWhere_10 (by decide) ?_
    exact W.iret (v := p0) hx hb hr (fun t ht hW => ⟨_, rfl, (by unfold f_Rule_heightWhere; rw [if_pos c_1]), ht⟩) (fun _ h => by cases h) d_Rule_heightWhere_17
def f_Rule_depthWhere (f0 f1 f2 f3 : Int32) (p0 : Int32) : Int32 :=
  if f3 = (-1000000) then
    p0
  else
    f3
set_option maxHeartbeats 4000000 in
set_option maxRecDepth 100000 in
theorem c_Rule_depthWhere (l : Launch) (g : KGt) (H0 : Heap) (h0 : Nat) (f0 f1 f2 f3 : Int32) (p0 : Int32) (o0 : va_at g.1 kcl (h0, .inr (7, [.int f0, .int f1, .int f2, .int f3])) H0) : Met l y_Rule_depthWhere (kW y_Rule_depthWhere b_Rule_depthWhere 2 (.some .int)) ({ frames := 0, cells := 0, slots := 0, locals := 0 }) (kPc [.ref h0, .int p0] (KK g) H0) (kQc (kPure (.int (f_Rule_depthWhere f0 f1 f2 f3 p0)) H0)) 0 0 (fun _ => False) := by
  refine Met.ofW (cc := b_Rule_depthWhere) (maxL := 2) (ret := (.some .int)) (by decide) rfl ?_
  intro p e s m args below meth c s₁ B hml hv
  obtain ⟨rfl, hH, hKK⟩ := hv
  have hx := B.exec
  have hb := B.bytes
  have hr := B.returns
  have hts := kW_ts (atoms_spec (ws := kW y_Rule_depthWhere b_Rule_depthWhere 2 (.some .int)) B.pre)
  have hown : s.vm.findClass "BoxGlue$Rule" = some m.cls := findClass_of_methodNamed B.named
  have hlocks := B.notSynchronized
  have hK := hKK.1
  subst hH
  have hl := lv_entry ([.ref h0, .int p0]) (n := 2) (Nat.le_of_ble_eq_true rfl)
  rw [lg_entry_eq]
  generalize (lg_sl ([.ref h0, .int p0]) ++ List.replicate (2 - (lg_sl ([.ref h0, .int p0])).length) Slot.unset).toArray = ls at hl ⊢
  have hl : lv_has ls 2 [(0, .ref h0), (1, .int p0)] := hl
  refine lv_aload_n hx hb d_Rule_depthWhere_0 rfl (lv_at hl 0 rfl) ?_
  refine va_get (D := g.1) (ci := 7) (v := .int f3) (C := "BoxGlue$Rule") (T := kT_Rule) (N := 4) hx hb hts ki_Rule hown hK (k_one o0) 0 rfl rfl 3 (by decide) (hts _ kw_320) (fun _ h9 => h9) rfl d_Rule_depthWhere_1 ?_
  refine lv_ldc (own := "BoxGlue$Rule") (index := 18) (v := (-1000000)) hx hb hown (hts _ kw_375) d_Rule_depthWhere_4 ?_
  refine lv_icmp_ne (tgt := 13) hx hb d_Rule_depthWhere_6 (by decide) (fun c_1 => ?_) (fun c_1 => ?_)
  · skip
    refine lv_aload_n hx hb d_Rule_depthWhere_13 rfl (lv_at hl 0 rfl) ?_
    refine va_get (D := g.1) (ci := 7) (v := .int f3) (C := "BoxGlue$Rule") (T := kT_Rule) (N := 4) hx hb hts ki_Rule hown hK (k_one o0) 0 rfl rfl 3 (by decide) (hts _ kw_320) (fun _ h9 => h9) rfl d_Rule_depthWhere_14 ?_
    exact W.iret (v := f3) hx hb hr (fun t ht hW => ⟨_, rfl, (by unfold f_Rule_depthWhere; rw [if_neg c_1]), ht⟩) (fun _ h => by cases h) d_Rule_depthWhere_17
  · skip
    refine lv_iload_n hx hb d_Rule_depthWhere_9 rfl (lv_at hl 1 rfl) ?_
    refine lv_goto (tgt := 17) hx hb d_Rule_depthWhere_10 (by decide) ?_
    exact W.iret (v := p0) hx hb hr (fun t ht hW => ⟨_, rfl, (by unfold f_Rule_depthWhere; rw [if_pos c_1]), ht⟩) (fun _ h => by cases h) d_Rule_depthWhere_17
def f_Fit_over (f0 f1 f2 f3 : Int32) : Int32 :=
  if 0 ≤ f2 then
    0
  else
    if 0 < f1 then
      0
    else
      (if ((-f2) - f3) < 0 then 0 else ((-f2) - f3))
set_option maxHeartbeats 4000000 in
set_option maxRecDepth 100000 in
theorem c_Fit_over (l : Launch) (g : KGt) (H0 : Heap) (h0 : Nat) (f0 f1 f2 f3 : Int32) (o0 : va_at g.1 kcl (h0, .inr (3, [.int f0, .int f1, .int f2, .int f3])) H0) : Met l y_Fit_over (kW y_Fit_over b_Fit_over 1 (.some .int)) ({ frames := 1, cells := 0, slots := 0, locals := 21 }) (kPc [.ref h0] (KK g) H0) (kQc (kPure (.int (f_Fit_over f0 f1 f2 f3)) H0)) 0 0 (fun _ => False) := by
  refine Met.ofW (cc := b_Fit_over) (maxL := 1) (ret := (.some .int)) (by decide) rfl ?_
  intro p e s m args below meth c s₁ B hml hv
  obtain ⟨rfl, hH, hKK⟩ := hv
  have hx := B.exec
  have hb := B.bytes
  have hr := B.returns
  have hts := kW_ts (atoms_spec (ws := kW y_Fit_over b_Fit_over 1 (.some .int)) B.pre)
  have hown : s.vm.findClass "BoxGlue$Fit" = some m.cls := findClass_of_methodNamed B.named
  have hlocks := B.notSynchronized
  have hK := hKK.1
  subst hH
  have hl := lv_entry ([.ref h0]) (n := 1) (Nat.le_of_ble_eq_true rfl)
  rw [lg_entry_eq]
  generalize (lg_sl ([.ref h0]) ++ List.replicate (1 - (lg_sl ([.ref h0])).length) Slot.unset).toArray = ls at hl ⊢
  have hl : lv_has ls 1 [(0, .ref h0)] := hl
  refine lv_aload_n hx hb d_Fit_over_0 rfl (lv_at hl 0 rfl) ?_
  refine va_get (D := g.1) (ci := 3) (v := .int f2) (C := "BoxGlue$Fit") (T := kT_Fit) (N := 4) hx hb hts ki_Fit hown hK (k_one o0) 0 rfl rfl 2 (by decide) (hts _ kw_92) (fun _ h9 => h9) rfl d_Fit_over_1 ?_
  refine lv_if_ge (tgt := 31) hx hb d_Fit_over_4 (by decide) (fun c_1 => ?_) (fun c_1 => ?_)
  · skip
    refine lv_iconst (v := 0) hx hb d_Fit_over_31 (by decide) ?_
    exact W.iret (v := 0) hx hb hr (fun t ht hW => ⟨_, rfl, (by unfold f_Fit_over; rw [if_pos c_1]), ht⟩) (fun _ h => by cases h) d_Fit_over_32
  · skip
    refine lv_aload_n hx hb d_Fit_over_7 rfl (lv_at hl 0 rfl) ?_
    refine va_get (D := g.1) (ci := 3) (v := .int f1) (C := "BoxGlue$Fit") (T := kT_Fit) (N := 4) hx hb hts ki_Fit hown hK (k_one o0) 0 rfl rfl 1 (by decide) (hts _ kw_90) (fun _ h9 => h9) rfl d_Fit_over_8 ?_
    refine lv_if_gt (tgt := 31) hx hb d_Fit_over_11 (by decide) (fun c_2 => ?_) (fun c_2 => ?_)
    · skip
      refine lv_iconst (v := 0) hx hb d_Fit_over_31 (by decide) ?_
      exact W.iret (v := 0) hx hb hr (fun t ht hW => ⟨_, rfl, (by unfold f_Fit_over; rw [if_neg c_1, if_pos c_2]), ht⟩) (fun _ h => by cases h) d_Fit_over_32
    · skip
      refine lv_aload_n hx hb d_Fit_over_14 rfl (lv_at hl 0 rfl) ?_
      refine va_get (D := g.1) (ci := 3) (v := .int f2) (C := "BoxGlue$Fit") (T := kT_Fit) (N := 4) hx hb hts ki_Fit hown hK (k_one o0) 0 rfl rfl 2 (by decide) (hts _ kw_92) (fun _ h9 => h9) rfl d_Fit_over_15 ?_
      refine lv_ineg hx hb d_Fit_over_18 ?_
      refine lv_aload_n hx hb d_Fit_over_19 rfl (lv_at hl 0 rfl) ?_
      refine va_get (D := g.1) (ci := 3) (v := .int f3) (C := "BoxGlue$Fit") (T := kT_Fit) (N := 4) hx hb hts ki_Fit hown hK (k_one o0) 0 rfl rfl 3 (by decide) (hts _ kw_93) (fun _ h9 => h9) rfl d_Fit_over_20 ?_
      refine lv_isub hx hb d_Fit_over_23 ?_
      refine lv_iconst (v := 0) hx hb d_Fit_over_24 (by decide) ?_
      refine va_mmax (x := ((-f2) - f3)) (y := 0) hx hb (hml.trans hl.1.symm) hown (hts _ kw_431) (hts _ kw_152) (hts _ kw_9) (hts _ kw_153) (Nat.le_of_ble_eq_true rfl) (Nat.le_of_ble_eq_true rfl) (Nat.zero_le _) (Nat.zero_le _) d_Fit_over_25 ?_
      refine lv_goto (tgt := 32) hx hb d_Fit_over_28 (by decide) ?_
      exact W.iret (v := (if ((-f2) - f3) < 0 then 0 else ((-f2) - f3))) hx hb hr (fun t ht hW => ⟨_, rfl, (by unfold f_Fit_over; rw [if_neg c_1, if_neg c_2]), ht⟩) (fun _ h => by cases h) d_Fit_over_32
def f_Fit_share (f0 f1 f2 f3 : Int32) (p0 : Int32) : Int32 :=
  if f3 = 0 then
    0
  else
    (((((f2 + (f_Fit_over f0 f1 f2 f3))).toInt64 * (p0).toInt64) / (f3).toInt64)).toInt32
set_option maxHeartbeats 4000000 in
set_option maxRecDepth 100000 in
theorem c_Fit_share (l : Launch) (g : KGt) (H0 : Heap) (h0 : Nat) (f0 f1 f2 f3 : Int32) (p0 : Int32) (o0 : va_at g.1 kcl (h0, .inr (3, [.int f0, .int f1, .int f2, .int f3])) H0) : Met l y_Fit_share (kW y_Fit_share b_Fit_share 4 (.some .int)) ({ frames := 2, cells := 0, slots := 0, locals := 41 }) (kPc [.ref h0, .int p0] (KK g) H0) (kQc (kPure (.int (f_Fit_share f0 f1 f2 f3 p0)) H0)) 0 0 (fun _ => False) := by
  refine Met.ofW (cc := b_Fit_share) (maxL := 4) (ret := (.some .int)) (by decide) rfl ?_
  intro p e s m args below meth c s₁ B hml hv
  obtain ⟨rfl, hH, hKK⟩ := hv
  have hx := B.exec
  have hb := B.bytes
  have hr := B.returns
  have hts := kW_ts (atoms_spec (ws := kW y_Fit_share b_Fit_share 4 (.some .int)) B.pre)
  have hown : s.vm.findClass "BoxGlue$Fit" = some m.cls := findClass_of_methodNamed B.named
  have hlocks := B.notSynchronized
  have hK := hKK.1
  subst hH
  have hl := lv_entry ([.ref h0, .int p0]) (n := 4) (Nat.le_of_ble_eq_true rfl)
  rw [lg_entry_eq]
  generalize (lg_sl ([.ref h0, .int p0]) ++ List.replicate (4 - (lg_sl ([.ref h0, .int p0])).length) Slot.unset).toArray = ls at hl ⊢
  have hl : lv_has ls 4 [(0, .ref h0), (1, .int p0)] := hl
  refine lv_aload_n hx hb d_Fit_share_0 rfl (lv_at hl 0 rfl) ?_
  refine va_get (D := g.1) (ci := 3) (v := .int f3) (C := "BoxGlue$Fit") (T := kT_Fit) (N := 4) hx hb hts ki_Fit hown hK (k_one o0) 0 rfl rfl 3 (by decide) (hts _ kw_93) (fun _ h9 => h9) rfl d_Fit_share_1 ?_
  refine lv_if_ne (tgt := 9) hx hb d_Fit_share_4 (by decide) (fun c_1 => ?_) (fun c_1 => ?_)
  · skip
    refine lv_aload_n hx hb d_Fit_share_9 rfl (lv_at hl 0 rfl) ?_
    refine va_get (D := g.1) (ci := 3) (v := .int f2) (C := "BoxGlue$Fit") (T := kT_Fit) (N := 4) hx hb hts ki_Fit hown hK (k_one o0) 0 rfl rfl 2 (by decide) (hts _ kw_92) (fun _ h9 => h9) rfl d_Fit_share_10 ?_
    refine lv_aload_n hx hb d_Fit_share_13 rfl (lv_at hl 0 rfl) ?_
    refine k_pure (r := .int (f_Fit_over f0 f1 f2 f3)) (W.runV (As := []) (rest := [.int f2]) ⟨hx, hb, hml, hown, hts⟩ (c_Fit_over l g s.heap h0 f0 f1 f2 f3 o0) (cwV 0 hts (kV_good kw_430 kw_427 kw_428 kw_429 kw_7) rfl rfl rfl (by decide +kernel) ⟨Nat.le_of_ble_eq_true rfl, Nat.le_of_ble_eq_true rfl⟩) (k_preV (KK_st g) hKK (va_recv hK (k_one o0) (ci := 3) (q0 := 0) rfl rfl)) rfl rfl hl.1 rfl (lv_room (Nat.le_of_ble_eq_true rfl)) d_Fit_share_14 ⟨Nat.zero_le _, Nat.zero_le _⟩) ?_
    refine lv_iadd hx hb d_Fit_share_17 ?_
    refine lv_i2l hx hb d_Fit_share_18 rfl ?_
    refine lv_lstore_n (lv' := [(2, .long ((f2 + (f_Fit_over f0 f1 f2 f3))).toInt64), (0, .ref h0), (1, .int p0)]) hx hb d_Fit_share_19 rfl hl (by decide) rfl (fun ls hl => ?_)
    refine lv_lload_n hx hb d_Fit_share_20 rfl (lv_at hl 0 rfl) ?_
    refine lv_iload_n hx hb d_Fit_share_21 rfl (lv_at hl 2 rfl) ?_
    refine lv_i2l hx hb d_Fit_share_22 rfl ?_
    refine lv_lmul hx hb d_Fit_share_23 ?_
    refine lv_aload_n hx hb d_Fit_share_24 rfl (lv_at hl 1 rfl) ?_
    refine va_get (D := g.1) (ci := 3) (v := .int f3) (C := "BoxGlue$Fit") (T := kT_Fit) (N := 4) hx hb hts ki_Fit hown hK (k_one o0) 0 rfl rfl 3 (by decide) (hts _ kw_93) (fun _ h9 => h9) rfl d_Fit_share_25 ?_
    refine lv_i2l hx hb d_Fit_share_28 rfl ?_
    refine lv_ldiv hx hb d_Fit_share_29 (k_l0 c_1) ?_
    refine lv_l2i hx hb d_Fit_share_30 rfl ?_
    exact W.iret (v := (((((f2 + (f_Fit_over f0 f1 f2 f3))).toInt64 * (p0).toInt64) / (f3).toInt64)).toInt32) hx hb hr (fun t ht hW => ⟨_, rfl, (by unfold f_Fit_share; rw [if_neg c_1]), ht⟩) (fun _ h => by cases h) d_Fit_share_31
  · skip
    refine lv_iconst (v := 0) hx hb d_Fit_share_7 (by decide) ?_
    exact W.iret (v := 0) hx hb hr (fun t ht hW => ⟨_, rfl, (by unfold f_Fit_share; rw [if_pos c_1]), ht⟩) (fun _ h => by cases h) d_Fit_share_8
def f_Fit_change (f0 f1 f2 f3 : Int32) (p0 : Int32) (p1 : Int32) : Int32 :=
  ((f_Fit_share f0 f1 f2 f3 p1) - (f_Fit_share f0 f1 f2 f3 p0))
set_option maxHeartbeats 4000000 in
set_option maxRecDepth 100000 in
theorem c_Fit_change (l : Launch) (g : KGt) (H0 : Heap) (h0 : Nat) (f0 f1 f2 f3 : Int32) (p0 : Int32) (p1 : Int32) (o0 : va_at g.1 kcl (h0, .inr (3, [.int f0, .int f1, .int f2, .int f3])) H0) : Met l y_Fit_change (kW y_Fit_change b_Fit_change 3 (.some .int)) ({ frames := 3, cells := 0, slots := 0, locals := 64 }) (kPc [.ref h0, .int p0, .int p1] (KK g) H0) (kQc (kPure (.int (f_Fit_change f0 f1 f2 f3 p0 p1)) H0)) 0 0 (fun _ => False) := by
  refine Met.ofW (cc := b_Fit_change) (maxL := 3) (ret := (.some .int)) (by decide) rfl ?_
  intro p e s m args below meth c s₁ B hml hv
  obtain ⟨rfl, hH, hKK⟩ := hv
  have hx := B.exec
  have hb := B.bytes
  have hr := B.returns
  have hts := kW_ts (atoms_spec (ws := kW y_Fit_change b_Fit_change 3 (.some .int)) B.pre)
  have hown : s.vm.findClass "BoxGlue$Fit" = some m.cls := findClass_of_methodNamed B.named
  have hlocks := B.notSynchronized
  have hK := hKK.1
  subst hH
  have hl := lv_entry ([.ref h0, .int p0, .int p1]) (n := 3) (Nat.le_of_ble_eq_true rfl)
  rw [lg_entry_eq]
  generalize (lg_sl ([.ref h0, .int p0, .int p1]) ++ List.replicate (3 - (lg_sl ([.ref h0, .int p0, .int p1])).length) Slot.unset).toArray = ls at hl ⊢
  have hl : lv_has ls 3 [(0, .ref h0), (1, .int p0), (2, .int p1)] := hl
  refine lv_aload_n hx hb d_Fit_change_0 rfl (lv_at hl 0 rfl) ?_
  refine lv_iload_n hx hb d_Fit_change_1 rfl (lv_at hl 2 rfl) ?_
  refine k_pure (r := .int (f_Fit_share f0 f1 f2 f3 p1)) (W.runV (As := [.int p1]) (rest := []) ⟨hx, hb, hml, hown, hts⟩ (c_Fit_share l g s.heap h0 f0 f1 f2 f3 p1 o0) (cwV 1 hts (kV_good kw_426 kw_423 kw_425 ks_Fit_share kw_7) rfl rfl rfl (by decide +kernel) ⟨Nat.le_of_ble_eq_true rfl, Nat.le_of_ble_eq_true rfl⟩) (k_preV (KK_st g) hKK (va_recv hK (k_one o0) (ci := 3) (q0 := 0) rfl rfl)) rfl rfl hl.1 rfl (lv_room (Nat.le_of_ble_eq_true rfl)) d_Fit_change_2 ⟨Nat.zero_le _, Nat.zero_le _⟩) ?_
  refine lv_aload_n hx hb d_Fit_change_5 rfl (lv_at hl 0 rfl) ?_
  refine lv_iload_n hx hb d_Fit_change_6 rfl (lv_at hl 1 rfl) ?_
  refine k_pure (r := .int (f_Fit_share f0 f1 f2 f3 p0)) (W.runV (As := [.int p0]) (rest := [.int (f_Fit_share f0 f1 f2 f3 p1)]) ⟨hx, hb, hml, hown, hts⟩ (c_Fit_share l g s.heap h0 f0 f1 f2 f3 p0 o0) (cwV 1 hts (kV_good kw_426 kw_423 kw_425 ks_Fit_share kw_7) rfl rfl rfl (by decide +kernel) ⟨Nat.le_of_ble_eq_true rfl, Nat.le_of_ble_eq_true rfl⟩) (k_preV (KK_st g) hKK (va_recv hK (k_one o0) (ci := 3) (q0 := 0) rfl rfl)) rfl rfl hl.1 rfl (lv_room (Nat.le_of_ble_eq_true rfl)) d_Fit_change_7 ⟨Nat.zero_le _, Nat.zero_le _⟩) ?_
  refine lv_isub hx hb d_Fit_change_10 ?_
  exact W.iret (v := ((f_Fit_share f0 f1 f2 f3 p1) - (f_Fit_share f0 f1 f2 f3 p0))) hx hb hr (fun t ht hW => ⟨_, rfl, rfl, ht⟩) (fun _ h => by cases h) d_Fit_change_11
def f_Fit_cubed (f0 f1 f2 f3 : Int32) (p0 : Int64) : Int32 :=
  if f3 = 0 then
    10000
  else
    if (lg_cmp p0 (5 * (f3).toInt64)) < 0 then
      ((if 10000 < ((((100 * p0) * p0) * p0) / (((f3).toInt64 * (f3).toInt64) * (f3).toInt64)) then 10000 else ((((100 * p0) * p0) * p0) / (((f3).toInt64 * (f3).toInt64) * (f3).toInt64)))).toInt32
    else
      10000
set_option maxHeartbeats 4000000 in
set_option maxRecDepth 100000 in
theorem c_Fit_cubed (l : Launch) (g : KGt) (H0 : Heap) (h0 : Nat) (f0 f1 f2 f3 : Int32) (p0 : Int64) (o0 : va_at g.1 kcl (h0, .inr (3, [.int f0, .int f1, .int f2, .int f3])) H0) (hz : ¬ f3 = 0 → ¬ (((f3).toInt64 * (f3).toInt64) * (f3).toInt64) = 0) : Met l y_Fit_cubed (kW y_Fit_cubed b_Fit_cubed 7 (.some .int)) ({ frames := 1, cells := 0, slots := 0, locals := 23 }) (kPc [.ref h0, .long p0] (KK g) H0) (kQc (kPure (.int (f_Fit_cubed f0 f1 f2 f3 p0)) H0)) 0 0 (fun _ => False) := by
  refine Met.ofW (cc := b_Fit_cubed) (maxL := 7) (ret := (.some .int)) (by decide) rfl ?_
  intro p e s m args below meth c s₁ B hml hv
  obtain ⟨rfl, hH, hKK⟩ := hv
  have hx := B.exec
  have hb := B.bytes
  have hr := B.returns
  have hts := kW_ts (atoms_spec (ws := kW y_Fit_cubed b_Fit_cubed 7 (.some .int)) B.pre)
  have hown : s.vm.findClass "BoxGlue$Fit" = some m.cls := findClass_of_methodNamed B.named
  have hlocks := B.notSynchronized
  have hK := hKK.1
  subst hH
  have hl := lv_entry ([.ref h0, .long p0]) (n := 7) (Nat.le_of_ble_eq_true rfl)
  rw [lg_entry_eq]
  generalize (lg_sl ([.ref h0, .long p0]) ++ List.replicate (7 - (lg_sl ([.ref h0, .long p0])).length) Slot.unset).toArray = ls at hl ⊢
  have hl : lv_has ls 7 [(0, .ref h0), (1, .long p0)] := hl
  refine lv_aload_n hx hb d_Fit_cubed_0 rfl (lv_at hl 0 rfl) ?_
  refine va_get (D := g.1) (ci := 3) (v := .int f3) (C := "BoxGlue$Fit") (T := kT_Fit) (N := 4) hx hb hts ki_Fit hown hK (k_one o0) 0 rfl rfl 3 (by decide) (hts _ kw_93) (fun _ h9 => h9) rfl d_Fit_cubed_1 ?_
  refine lv_if_eq (tgt := 21) hx hb d_Fit_cubed_4 (by decide) (fun c_1 => ?_) (fun c_1 => ?_)
  · skip
    refine lv_sipush (v := 10000) hx hb d_Fit_cubed_21 (by decide) ?_
    exact W.iret (v := 10000) hx hb hr (fun t ht hW => ⟨_, rfl, (by unfold f_Fit_cubed; rw [if_pos c_1]), ht⟩) (fun _ h => by cases h) d_Fit_cubed_24
  · skip
    refine lv_lload_n hx hb d_Fit_cubed_7 rfl (lv_at hl 1 rfl) ?_
    refine lv_ldc2 (own := "BoxGlue$Fit") (index := 77) (v := 5) hx hb hown (hts _ kw_479) d_Fit_cubed_8 ?_
    refine lv_aload_n hx hb d_Fit_cubed_11 rfl (lv_at hl 0 rfl) ?_
    refine va_get (D := g.1) (ci := 3) (v := .int f3) (C := "BoxGlue$Fit") (T := kT_Fit) (N := 4) hx hb hts ki_Fit hown hK (k_one o0) 0 rfl rfl 3 (by decide) (hts _ kw_93) (fun _ h9 => h9) rfl d_Fit_cubed_12 ?_
    refine lv_i2l hx hb d_Fit_cubed_15 rfl ?_
    refine lv_lmul hx hb d_Fit_cubed_16 ?_
    refine W.lcmp hx hb d_Fit_cubed_17 ?_
    refine lv_if_lt (tgt := 25) hx hb d_Fit_cubed_18 (by decide) (fun c_2 => ?_) (fun c_2 => ?_)
    · skip
      refine lv_aload_n hx hb d_Fit_cubed_25 rfl (lv_at hl 0 rfl) ?_
      refine va_get (D := g.1) (ci := 3) (v := .int f3) (C := "BoxGlue$Fit") (T := kT_Fit) (N := 4) hx hb hts ki_Fit hown hK (k_one o0) 0 rfl rfl 3 (by decide) (hts _ kw_93) (fun _ h9 => h9) rfl d_Fit_cubed_26 ?_
      refine lv_i2l hx hb d_Fit_cubed_29 rfl ?_
      refine lv_lstore_n (lv' := [(3, .long (f3).toInt64), (0, .ref h0), (1, .long p0)]) hx hb d_Fit_cubed_30 rfl hl (by decide) rfl (fun ls hl => ?_)
      refine lv_ldc2 (own := "BoxGlue$Fit") (index := 79) (v := 100) hx hb hown (hts _ kw_480) d_Fit_cubed_31 ?_
      refine lv_lload_n hx hb d_Fit_cubed_34 rfl (lv_at hl 2 rfl) ?_
      refine lv_lmul hx hb d_Fit_cubed_35 ?_
      refine lv_lload_n hx hb d_Fit_cubed_36 rfl (lv_at hl 2 rfl) ?_
      refine lv_lmul hx hb d_Fit_cubed_37 ?_
      refine lv_lload_n hx hb d_Fit_cubed_38 rfl (lv_at hl 2 rfl) ?_
      refine lv_lmul hx hb d_Fit_cubed_39 ?_
      refine lv_lload_n hx hb d_Fit_cubed_40 rfl (lv_at hl 0 rfl) ?_
      refine lv_lload_n hx hb d_Fit_cubed_41 rfl (lv_at hl 0 rfl) ?_
      refine lv_lmul hx hb d_Fit_cubed_42 ?_
      refine lv_lload_n hx hb d_Fit_cubed_43 rfl (lv_at hl 0 rfl) ?_
      refine lv_lmul hx hb d_Fit_cubed_44 ?_
      refine lv_ldiv hx hb d_Fit_cubed_45 (hz c_1) ?_
      refine lv_lstore (lv' := [(5, .long ((((100 * p0) * p0) * p0) / (((f3).toInt64 * (f3).toInt64) * (f3).toInt64))), (3, .long (f3).toInt64), (0, .ref h0), (1, .long p0)]) hx hb d_Fit_cubed_46 hl (by decide) rfl (fun ls hl => ?_)
      refine lv_lload hx hb d_Fit_cubed_48 (lv_at hl 0 rfl) ?_
      refine lv_ldc2 (own := "BoxGlue$Fit") (index := 81) (v := 10000) hx hb hown (hts _ kw_481) d_Fit_cubed_50 ?_
      refine va_mmin_long (x := ((((100 * p0) * p0) * p0) / (((f3).toInt64 * (f3).toInt64) * (f3).toInt64))) (y := 10000) hx hb (hml.trans hl.1.symm) hown (hts _ kw_482) (hts _ kw_483) (hts _ kw_9) (hts _ kw_484) (Nat.le_of_ble_eq_true rfl) (Nat.le_of_ble_eq_true rfl) (Nat.zero_le _) (Nat.zero_le _) d_Fit_cubed_53 ?_
      refine lv_l2i hx hb d_Fit_cubed_56 rfl ?_
      exact W.iret (v := ((if 10000 < ((((100 * p0) * p0) * p0) / (((f3).toInt64 * (f3).toInt64) * (f3).toInt64)) then 10000 else ((((100 * p0) * p0) * p0) / (((f3).toInt64 * (f3).toInt64) * (f3).toInt64)))).toInt32) hx hb hr (fun t ht hW => ⟨_, rfl, (by unfold f_Fit_cubed; rw [if_neg c_1, if_pos c_2]), ht⟩) (fun _ h => by cases h) d_Fit_cubed_57
    · skip
      refine lv_sipush (v := 10000) hx hb d_Fit_cubed_21 (by decide) ?_
      exact W.iret (v := 10000) hx hb hr (fun t ht hW => ⟨_, rfl, (by unfold f_Fit_cubed; rw [if_neg c_1, if_neg c_2]), ht⟩) (fun _ h => by cases h) d_Fit_cubed_24
def f_Fit_badness (f0 f1 f2 f3 : Int32) : Int32 :=
  if f2 = 0 then
    0
  else
    if f1 ≤ 0 then
      if (f_Fit_over f0 f1 f2 f3) ≤ 0 then
        (f_Fit_cubed f0 f1 f2 f3 (((if 0 ≤ f2 then f2 else 0 - f2)).toInt64))
      else
        1000000
    else
      0
set_option maxHeartbeats 4000000 in
set_option maxRecDepth 100000 in
theorem c_Fit_badness (l : Launch) (g : KGt) (H0 : Heap) (h0 : Nat) (f0 f1 f2 f3 : Int32) (o0 : va_at g.1 kcl (h0, .inr (3, [.int f0, .int f1, .int f2, .int f3])) H0) (hz : ¬ f3 = 0 → ¬ (((f3).toInt64 * (f3).toInt64) * (f3).toInt64) = 0) : Met l y_Fit_badness (kW y_Fit_badness b_Fit_badness 1 (.some .int)) ({ frames := 2, cells := 0, slots := 0, locals := 49 }) (kPc [.ref h0] (KK g) H0) (kQc (kPure (.int (f_Fit_badness f0 f1 f2 f3)) H0)) 0 0 (fun _ => False) := by
  refine Met.ofW (cc := b_Fit_badness) (maxL := 1) (ret := (.some .int)) (by decide) rfl ?_
  intro p e s m args below meth c s₁ B hml hv
  obtain ⟨rfl, hH, hKK⟩ := hv
  have hx := B.exec
  have hb := B.bytes
  have hr := B.returns
  have hts := kW_ts (atoms_spec (ws := kW y_Fit_badness b_Fit_badness 1 (.some .int)) B.pre)
  have hown : s.vm.findClass "BoxGlue$Fit" = some m.cls := findClass_of_methodNamed B.named
  have hlocks := B.notSynchronized
  have hK := hKK.1
  subst hH
  have hl := lv_entry ([.ref h0]) (n := 1) (Nat.le_of_ble_eq_true rfl)
  rw [lg_entry_eq]
  generalize (lg_sl ([.ref h0]) ++ List.replicate (1 - (lg_sl ([.ref h0])).length) Slot.unset).toArray = ls at hl ⊢
  have hl : lv_has ls 1 [(0, .ref h0)] := hl
  refine lv_aload_n hx hb d_Fit_badness_0 rfl (lv_at hl 0 rfl) ?_
  refine va_get (D := g.1) (ci := 3) (v := .int f2) (C := "BoxGlue$Fit") (T := kT_Fit) (N := 4) hx hb hts ki_Fit hown hK (k_one o0) 0 rfl rfl 2 (by decide) (hts _ kw_92) (fun _ h9 => h9) rfl d_Fit_badness_1 ?_
  refine lv_if_eq (tgt := 14) hx hb d_Fit_badness_4 (by decide) (fun c_1 => ?_) (fun c_1 => ?_)
  · skip
    refine lv_iconst (v := 0) hx hb d_Fit_badness_14 (by decide) ?_
    exact W.iret (v := 0) hx hb hr (fun t ht hW => ⟨_, rfl, (by unfold f_Fit_badness; rw [if_pos c_1]), ht⟩) (fun _ h => by cases h) d_Fit_badness_15
  · skip
    refine lv_aload_n hx hb d_Fit_badness_7 rfl (lv_at hl 0 rfl) ?_
    refine va_get (D := g.1) (ci := 3) (v := .int f1) (C := "BoxGlue$Fit") (T := kT_Fit) (N := 4) hx hb hts ki_Fit hown hK (k_one o0) 0 rfl rfl 1 (by decide) (hts _ kw_90) (fun _ h9 => h9) rfl d_Fit_badness_8 ?_
    refine lv_if_le (tgt := 16) hx hb d_Fit_badness_11 (by decide) (fun c_2 => ?_) (fun c_2 => ?_)
    · skip
      refine lv_aload_n hx hb d_Fit_badness_16 rfl (lv_at hl 0 rfl) ?_
      refine k_pure (r := .int (f_Fit_over f0 f1 f2 f3)) (W.runV (As := []) (rest := []) ⟨hx, hb, hml, hown, hts⟩ (c_Fit_over l g s.heap h0 f0 f1 f2 f3 o0) (cwV 0 hts (kV_good kw_430 kw_427 kw_428 kw_429 kw_7) rfl rfl rfl (by decide +kernel) ⟨Nat.le_of_ble_eq_true rfl, Nat.le_of_ble_eq_true rfl⟩) (k_preV (KK_st g) hKK (va_recv hK (k_one o0) (ci := 3) (q0 := 0) rfl rfl)) rfl rfl hl.1 rfl (lv_room (Nat.le_of_ble_eq_true rfl)) d_Fit_badness_17 ⟨Nat.zero_le _, Nat.zero_le _⟩) ?_
      refine lv_if_le (tgt := 26) hx hb d_Fit_badness_20 (by decide) (fun c_3 => ?_) (fun c_3 => ?_)
      · skip
        refine lv_aload_n hx hb d_Fit_badness_26 rfl (lv_at hl 0 rfl) ?_
        refine lv_aload_n hx hb d_Fit_badness_27 rfl (lv_at hl 0 rfl) ?_
        refine va_get (D := g.1) (ci := 3) (v := .int f2) (C := "BoxGlue$Fit") (T := kT_Fit) (N := 4) hx hb hts ki_Fit hown hK (k_one o0) 0 rfl rfl 2 (by decide) (hts _ kw_92) (fun _ h9 => h9) rfl d_Fit_badness_28 ?_
        refine va_mabs (x := f2) hx hb (hml.trans hl.1.symm) hown (hts _ kw_472) (hts _ kw_473) (hts _ kw_9) (hts _ kw_474) (Nat.le_of_ble_eq_true rfl) (Nat.le_of_ble_eq_true rfl) (Nat.zero_le _) (Nat.zero_le _) d_Fit_badness_31 ?_
        refine lv_i2l hx hb d_Fit_badness_34 rfl ?_
        refine k_pure (r := .int (f_Fit_cubed f0 f1 f2 f3 (((if 0 ≤ f2 then f2 else 0 - f2)).toInt64))) (W.runV (As := [.long ((if 0 ≤ f2 then f2 else 0 - f2)).toInt64]) (rest := []) ⟨hx, hb, hml, hown, hts⟩ (c_Fit_cubed l g s.heap h0 f0 f1 f2 f3 (((if 0 ≤ f2 then f2 else 0 - f2)).toInt64) o0 hz) (cwV 1 hts (kV_good kw_478 kw_475 kw_477 ks_Fit_cubed kw_7) rfl rfl rfl (by decide +kernel) ⟨Nat.le_of_ble_eq_true rfl, Nat.le_of_ble_eq_true rfl⟩) (k_preV (KK_st g) hKK (va_recv hK (k_one o0) (ci := 3) (q0 := 0) rfl rfl)) rfl rfl hl.1 rfl (lv_room (Nat.le_of_ble_eq_true rfl)) d_Fit_badness_35 ⟨Nat.zero_le _, Nat.zero_le _⟩) ?_
        exact W.iret (v := (f_Fit_cubed f0 f1 f2 f3 (((if 0 ≤ f2 then f2 else 0 - f2)).toInt64))) hx hb hr (fun t ht hW => ⟨_, rfl, (by unfold f_Fit_badness; rw [if_neg c_1, if_pos c_2, if_pos c_3]), ht⟩) (fun _ h => by cases h) d_Fit_badness_38
      · skip
        refine lv_ldc (own := "BoxGlue$Fit") (index := 69) (v := 1000000) hx hb hown (hts _ kw_471) d_Fit_badness_23 ?_
        exact W.iret (v := 1000000) hx hb hr (fun t ht hW => ⟨_, rfl, (by unfold f_Fit_badness; rw [if_neg c_1, if_pos c_2, if_neg c_3]), ht⟩) (fun _ h => by cases h) d_Fit_badness_25
    · skip
      refine lv_iconst (v := 0) hx hb d_Fit_badness_14 (by decide) ?_
      exact W.iret (v := 0) hx hb hr (fun t ht hW => ⟨_, rfl, (by unfold f_Fit_badness; rw [if_neg c_1, if_neg c_2]), ht⟩) (fun _ h => by cases h) d_Fit_badness_15
end
section
/-! ArrayList: what a list is, and its readers -/
/-- the list at la: n elements, the addresses el; its array is arr, of cap places -/
def kALx (g : KGt) (la arr cap n : Nat) (el : Nat → Nat) (H : Heap) : Prop := ∃ mo : Int32, va_at g.1 kcl (la, .inr (1, [.ref arr, .int (nI n), .int mo])) H ∧ ((n = 0 ∧ cap = 0 ∧ arr = g.2.2.2.1) ∨ ∃ f : Nat → Option Nat, va_at g.1 kcl (arr, .inl (g.2.1.1, cap, .inr (.inr (.inr (.inr f))))) H ∧ n ≤ cap ∧ 10 ≤ cap ∧ cap ≤ 100 ∧ ∀ i, i < n → f i = some (el i))
def kAL (g : KGt) (la n : Nat) (el : Nat → Nat) (H : Heap) : Prop := ∃ arr cap : Nat, kALx g la arr cap n el H
theorem kALx.n_lt {g : KGt} {la arr cap n : Nat} {el : Nat → Nat} {H : Heap} (h : kALx g la arr cap n el H) : n < 2 ^ 31 := by
  obtain ⟨mo, h1, h2 | ⟨f, h2, h3, h4, h5⟩⟩ := h <;> omega
theorem kALx.pos {g : KGt} {la arr cap n i : Nat} {el : Nat → Nat} {H : Heap} (h : kALx g la arr cap n el H) (hi : i < n) : ∃ (mo : Int32) (f : Nat → Option Nat), va_at g.1 kcl (la, .inr (1, [.ref arr, .int (nI n), .int mo])) H ∧ va_at g.1 kcl (arr, .inl (g.2.1.1, cap, .inr (.inr (.inr (.inr f))))) H ∧ n ≤ cap ∧ cap ≤ 100 ∧ ∀ i, i < n → f i = some (el i) := by
  obtain ⟨mo, h1, h2 | ⟨f, h2, h3, h4, h5, h6⟩⟩ := h
  · omega
  · exact ⟨mo, f, h1, h2, h3, h5, h6⟩
theorem kAL.n_lt {g : KGt} {la n : Nat} {el : Nat → Nat} {H : Heap} (h : kAL g la n el H) : n < 2 ^ 31 := by
  obtain ⟨arr, cap, h⟩ := h
  exact h.n_lt
theorem kAL.recv {g : KGt} {la n : Nat} {el : Nat → Nat} {H : Heap} {s : State} (h : kAL g la n el H) (hK : va_K g.1 kcl (kTy g) s) : ∃ cell : Cell, H[la]? = some cell ∧ cell.vm.isStatics = false ∧ s.vm.findClass "java/util/ArrayList" = some cell.cls := by
  obtain ⟨arr, cap, mo, h, -⟩ := h
  exact va_recv hK (k_one h) (ci := 1) (q0 := 0) rfl rfl
set_option maxHeartbeats 4000000 in
set_option maxRecDepth 100000 in
theorem c_AL_size (l : Launch) (g : KGt) (H0 : Heap) (h0 n : Nat) (el : Nat → Nat) (o : kAL g h0 n el H0) : Met l y_AL_size (kW y_AL_size b_AL_size 1 (.some .int)) ({ frames := 0, cells := 0, slots := 0, locals := 0 }) (kPc [.ref h0] (KK g) H0) (kQc (kPure (.int (nI n)) H0)) 0 0 (fun _ => False) := by
  refine va_MetF (cc := b_AL_size) (maxL := 1) (ret := (.some .int)) (by decide +kernel) rfl ?_
  intro p e s m args below meth c s₁ B hml hv
  obtain ⟨rfl, hH, hKK⟩ := hv
  have hx := B.exec
  have hb := B.bytes
  have hr := B.returns
  have hts := kW_ts (atoms_spec (ws := kW y_AL_size b_AL_size 1 (.some .int)) B.pre)
  have hown : s.vm.findClass "java/util/ArrayList" = some m.cls := findClass_of_methodNamed B.named
  have hlocks := B.notSynchronized
  have hK := hKK.1
  subst hH
  have hl := lv_entry ([.ref h0]) (n := 1) (Nat.le_of_ble_eq_true rfl)
  rw [lg_entry_eq]
  generalize (lg_sl ([.ref h0]) ++ List.replicate (1 - (lg_sl ([.ref h0])).length) Slot.unset).toArray = ls at hl ⊢
  have hl : lv_has ls 1 [(0, .ref h0)] := hl
  obtain ⟨arr, cap, mo, o0, -⟩ := id o
  refine lv_aload_n hx hb d_AL_size_0 rfl (lv_at hl 0 rfl) ?_
  refine va_get (D := g.1) (ci := 1) (v := .int (nI n)) (C := "java/util/ArrayList") (T := kT_AL) (N := 3) hx hb hts ki_AL hown hK (k_one o0) 0 rfl rfl 1 (by decide) (hts _ kw_44) (fun _ h9 => h9) rfl d_AL_size_1 ?_
  exact W.iret (v := (nI n)) hx hb hr (fun t ht hW => ⟨_, rfl, rfl, ht⟩) (fun _ h => by cases h) d_AL_size_4
set_option maxHeartbeats 4000000 in
set_option maxRecDepth 100000 in
theorem c_AL_isEmpty (l : Launch) (g : KGt) (H0 : Heap) (h0 n : Nat) (el : Nat → Nat) (o : kAL g h0 n el H0) : Met l y_AL_isEmpty (kW y_AL_isEmpty b_AL_isEmpty 1 (.some .boolean)) ({ frames := 0, cells := 0, slots := 0, locals := 0 }) (kPc [.ref h0] (KK g) H0) (kQc (kPure (.int (if n = 0 then 1 else 0)) H0)) 0 0 (fun _ => False) := by
  refine va_MetF (cc := b_AL_isEmpty) (maxL := 1) (ret := (.some .boolean)) (by decide +kernel) rfl ?_
  intro p e s m args below meth c s₁ B hml hv
  obtain ⟨rfl, hH, hKK⟩ := hv
  have hx := B.exec
  have hb := B.bytes
  have hr := B.returns
  have hts := kW_ts (atoms_spec (ws := kW y_AL_isEmpty b_AL_isEmpty 1 (.some .boolean)) B.pre)
  have hown : s.vm.findClass "java/util/ArrayList" = some m.cls := findClass_of_methodNamed B.named
  have hlocks := B.notSynchronized
  have hK := hKK.1
  subst hH
  have hl := lv_entry ([.ref h0]) (n := 1) (Nat.le_of_ble_eq_true rfl)
  rw [lg_entry_eq]
  generalize (lg_sl ([.ref h0]) ++ List.replicate (1 - (lg_sl ([.ref h0])).length) Slot.unset).toArray = ls at hl ⊢
  have hl : lv_has ls 1 [(0, .ref h0)] := hl
  obtain ⟨arr, cap, mo, o0, -⟩ := id o
  refine lv_aload_n hx hb d_AL_isEmpty_0 rfl (lv_at hl 0 rfl) ?_
  refine va_get (D := g.1) (ci := 1) (v := .int (nI n)) (C := "java/util/ArrayList") (T := kT_AL) (N := 3) hx hb hts ki_AL hown hK (k_one o0) 0 rfl rfl 1 (by decide) (hts _ kw_44) (fun _ h9 => h9) rfl d_AL_isEmpty_1 ?_
  refine lv_if_ne (tgt := 11) hx hb d_AL_isEmpty_4 (by decide) (fun c_1 => ?_) (fun c_1 => ?_)
  · skip
    refine lv_iconst (v := 0) hx hb d_AL_isEmpty_11 (by decide) ?_
    exact W.zret (v := 0) (ty := .boolean) hx hb hr rfl (fun t ht hW => ⟨_, rfl, (by rw [if_neg (fun h => c_1 (by rw [h]; exact nI_0))]), ht⟩) (fun _ h => by cases h) d_AL_isEmpty_12
  · skip
    refine lv_iconst (v := 1) hx hb d_AL_isEmpty_7 (by decide) ?_
    refine lv_goto (tgt := 12) hx hb d_AL_isEmpty_8 (by decide) ?_
    exact W.zret (v := 1) (ty := .boolean) hx hb hr rfl (fun t ht hW => ⟨_, rfl, (by rw [if_pos ((nI_eq o.n_lt (by decide)).mp (c_1.trans nI_0.symm))]), ht⟩) (fun _ h => by cases h) d_AL_isEmpty_12
set_option maxHeartbeats 4000000 in
set_option maxRecDepth 100000 in
theorem c_Pre_checkIndex (l : Launch) (g : KGt) (H0 : Heap) (p0 p1 : Int32) (h0 : ¬ p0 < 0) (h1 : p0 < p1) : Met l y_Pre_checkIndex (kW y_Pre_checkIndex b_Pre_checkIndex 3 (.some .int)) ({ frames := 0, cells := 0, slots := 0, locals := 0 }) (kPc [.int p0, .int p1, .null] (KK g) H0) (kQc (kPure (.int p0) H0)) 0 0 (fun _ => False) := by
  refine va_MetF (cc := b_Pre_checkIndex) (maxL := 3) (ret := (.some .int)) (by decide +kernel) rfl ?_
  intro p e s m args below meth c s₁ B hml hv
  obtain ⟨rfl, hH, hKK⟩ := hv
  have hx := B.exec
  have hb := B.bytes
  have hr := B.returns
  have hts := kW_ts (atoms_spec (ws := kW y_Pre_checkIndex b_Pre_checkIndex 3 (.some .int)) B.pre)
  have hown : s.vm.findClass "jdk/internal/util/Preconditions" = some m.cls := findClass_of_methodNamed B.named
  have hlocks := B.notSynchronized
  have hK := hKK.1
  subst hH
  have hl := lv_entry ([.int p0, .int p1, .null]) (n := 3) (Nat.le_of_ble_eq_true rfl)
  rw [lg_entry_eq]
  generalize (lg_sl ([.int p0, .int p1, .null]) ++ List.replicate (3 - (lg_sl ([.int p0, .int p1, .null])).length) Slot.unset).toArray = ls at hl ⊢
  have hl : lv_has ls 3 [(0, .int p0), (1, .int p1), (2, .null)] := hl
  refine lv_iload_n hx hb d_Pre_checkIndex_0 rfl (lv_at hl 0 rfl) ?_
  refine lv_if_lt (tgt := 9) hx hb d_Pre_checkIndex_1 (by decide) (fun c_1 => ?_) (fun c_1 => ?_)
  · exact absurd c_1 h0
  refine lv_iload_n hx hb d_Pre_checkIndex_4 rfl (lv_at hl 0 rfl) ?_
  refine lv_iload_n hx hb d_Pre_checkIndex_5 rfl (lv_at hl 1 rfl) ?_
  refine lv_icmp_lt (tgt := 16) hx hb d_Pre_checkIndex_6 (by decide) (fun c_2 => ?_) (fun c_2 => ?_)
  rotate_left
  · exact absurd c_2 (fun q => q h1)
  refine lv_iload_n hx hb d_Pre_checkIndex_16 rfl (lv_at hl 0 rfl) ?_
  exact W.iret (v := p0) hx hb hr (fun t ht hW => ⟨_, rfl, rfl, ht⟩) (fun _ h => by cases h) d_Pre_checkIndex_17
set_option maxHeartbeats 4000000 in
set_option maxRecDepth 100000 in
theorem c_Objs_checkIndex (l : Launch) (g : KGt) (H0 : Heap) (p0 p1 : Int32) (h0 : ¬ p0 < 0) (h1 : p0 < p1) : Met l y_Objs_checkIndex (kW y_Objs_checkIndex b_Objs_checkIndex 2 (.some .int)) ({ frames := 1, cells := 0, slots := 0, locals := 22 }) (kPc [.int p0, .int p1] (KK g) H0) (kQc (kPure (.int p0) H0)) 0 0 (fun _ => False) := by
  refine va_MetF (cc := b_Objs_checkIndex) (maxL := 2) (ret := (.some .int)) (by decide +kernel) rfl ?_
  intro p e s m args below meth c s₁ B hml hv
  obtain ⟨rfl, hH, hKK⟩ := hv
  have hx := B.exec
  have hb := B.bytes
  have hr := B.returns
  have hts := kW_ts (atoms_spec (ws := kW y_Objs_checkIndex b_Objs_checkIndex 2 (.some .int)) B.pre)
  have hown : s.vm.findClass "java/util/Objects" = some m.cls := findClass_of_methodNamed B.named
  have hlocks := B.notSynchronized
  have hK := hKK.1
  subst hH
  have hl := lv_entry ([.int p0, .int p1]) (n := 2) (Nat.le_of_ble_eq_true rfl)
  rw [lg_entry_eq]
  generalize (lg_sl ([.int p0, .int p1]) ++ List.replicate (2 - (lg_sl ([.int p0, .int p1])).length) Slot.unset).toArray = ls at hl ⊢
  have hl : lv_has ls 2 [(0, .int p0), (1, .int p1)] := hl
  refine lv_iload_n hx hb d_Objs_checkIndex_0 rfl (lv_at hl 0 rfl) ?_
  refine lv_iload_n hx hb d_Objs_checkIndex_1 rfl (lv_at hl 1 rfl) ?_
  refine lv_null hx hb d_Objs_checkIndex_2 ?_
  refine k_pure (r := .int p0) (W.runS (As := [.int p0, .int p1, .null]) (rest := []) ⟨hx, hb, hml, hown, hts⟩ (c_Pre_checkIndex l g s.heap p0 p1 h0 h1) (va_cwS 3 hts (kS_good kw_213 kw_211 kw_212 kw_15) rfl rfl rfl (by decide +kernel) ⟨Nat.le_of_ble_eq_true rfl, Nat.le_of_ble_eq_true rfl⟩) (k_pre (KK_st g) hKK) rfl rfl hl.1 rfl (lv_room (Nat.le_of_ble_eq_true rfl)) d_Objs_checkIndex_3 ⟨Nat.zero_le _, Nat.zero_le _⟩) ?_
  exact W.iret (v := p0) hx hb hr (fun t ht hW => ⟨_, rfl, rfl, ht⟩) (fun _ h => by cases h) d_Objs_checkIndex_6
set_option maxHeartbeats 4000000 in
set_option maxRecDepth 100000 in
theorem c_AL_elementData (l : Launch) (g : KGt) (H0 : Heap) (h0 n : Nat) (el : Nat → Nat) (i : Nat) (hi : i < n) (o : kAL g h0 n el H0) : Met l y_AL_elementData (kW y_AL_elementData b_AL_elementData 2 (.some (.object "java/lang/Object"))) ({ frames := 0, cells := 0, slots := 0, locals := 0 }) (kPc [.ref h0, .int (nI i)] (KK g) H0) (kQc (kPure (.ref (el i)) H0)) 0 0 (fun _ => False) := by
  refine va_MetF (cc := b_AL_elementData) (maxL := 2) (ret := (.some (.object "java/lang/Object"))) (by decide +kernel) rfl ?_
  intro p e s m args below meth c s₁ B hml hv
  obtain ⟨rfl, hH, hKK⟩ := hv
  have hx := B.exec
  have hb := B.bytes
  have hr := B.returns
  have hts := kW_ts (atoms_spec (ws := kW y_AL_elementData b_AL_elementData 2 (.some (.object "java/lang/Object"))) B.pre)
  have hown : s.vm.findClass "java/util/ArrayList" = some m.cls := findClass_of_methodNamed B.named
  have hlocks := B.notSynchronized
  have hK := hKK.1
  subst hH
  have hl := lv_entry ([.ref h0, .int (nI i)]) (n := 2) (Nat.le_of_ble_eq_true rfl)
  rw [lg_entry_eq]
  generalize (lg_sl ([.ref h0, .int (nI i)]) ++ List.replicate (2 - (lg_sl ([.ref h0, .int (nI i)])).length) Slot.unset).toArray = ls at hl ⊢
  have hl : lv_has ls 2 [(0, .ref h0), (1, .int (nI i))] := hl
  obtain ⟨arr, cap, ox⟩ := id o
  obtain ⟨mo, f, o0, a0, h1, h2, h3⟩ := ox.pos hi
  refine lv_aload_n hx hb d_AL_elementData_0 rfl (lv_at hl 0 rfl) ?_
  refine va_get (D := g.1) (ci := 1) (v := .ref arr) (C := "java/util/ArrayList") (T := kT_AL) (N := 3) hx hb hts ki_AL hown hK (k_one o0) 0 rfl rfl 0 (by decide) (hts _ kw_43) (fun _ h9 => h9) rfl d_AL_elementData_1 ?_
  refine lv_iload_n hx hb d_AL_elementData_4 rfl (lv_at hl 1 rfl) ?_
  refine va_aldq (D := g.1) (C := "java/lang/Object") hx hb hK (k_one a0) 0 0 rfl rfl (vp_in_nI (show i < cap by omega) (by omega)) d_AL_elementData_5 ?_
  rw [nI_clamp (show i < 2 ^ 31 by omega), h3 i hi]
  exact W.aret (v := .ref (el i)) hx hb hr (Or.inl ⟨_, rfl⟩) (Or.inr ⟨_, rfl⟩) (fun t ht hW => ⟨_, rfl, rfl, ht⟩) (fun _ h => by cases h) d_AL_elementData_6
set_option maxHeartbeats 4000000 in
set_option maxRecDepth 100000 in
theorem c_AL_get (l : Launch) (g : KGt) (H0 : Heap) (h0 n : Nat) (el : Nat → Nat) (i : Nat) (hi : i < n) (o : kAL g h0 n el H0) : Met l y_AL_get (kW y_AL_get b_AL_get 2 (.some (.object "java/lang/Object"))) ({ frames := 2, cells := 0, slots := 0, locals := 43 }) (kPc [.ref h0, .int (nI i)] (KK g) H0) (kQc (kPure (.ref (el i)) H0)) 0 0 (fun _ => False) := by
  refine va_MetF (cc := b_AL_get) (maxL := 2) (ret := (.some (.object "java/lang/Object"))) (by decide +kernel) rfl ?_
  intro p e s m args below meth c s₁ B hml hv
  obtain ⟨rfl, hH, hKK⟩ := hv
  have hx := B.exec
  have hb := B.bytes
  have hr := B.returns
  have hts := kW_ts (atoms_spec (ws := kW y_AL_get b_AL_get 2 (.some (.object "java/lang/Object"))) B.pre)
  have hown : s.vm.findClass "java/util/ArrayList" = some m.cls := findClass_of_methodNamed B.named
  have hlocks := B.notSynchronized
  have hK := hKK.1
  subst hH
  have hl := lv_entry ([.ref h0, .int (nI i)]) (n := 2) (Nat.le_of_ble_eq_true rfl)
  rw [lg_entry_eq]
  generalize (lg_sl ([.ref h0, .int (nI i)]) ++ List.replicate (2 - (lg_sl ([.ref h0, .int (nI i)])).length) Slot.unset).toArray = ls at hl ⊢
  have hl : lv_has ls 2 [(0, .ref h0), (1, .int (nI i))] := hl
  obtain ⟨arr, cap, ox⟩ := id o
  obtain ⟨mo, f, o0, a0, h1, h2, h3⟩ := ox.pos hi
  refine lv_iload_n hx hb d_AL_get_0 rfl (lv_at hl 1 rfl) ?_
  refine lv_aload_n hx hb d_AL_get_1 rfl (lv_at hl 0 rfl) ?_
  refine va_get (D := g.1) (ci := 1) (v := .int (nI n)) (C := "java/util/ArrayList") (T := kT_AL) (N := 3) hx hb hts ki_AL hown hK (k_one o0) 0 rfl rfl 1 (by decide) (hts _ kw_44) (fun _ h9 => h9) rfl d_AL_get_2 ?_
  refine k_pure (r := .int (nI i)) (W.runS (As := [.int (nI i), .int (nI n)]) (rest := []) ⟨hx, hb, hml, hown, hts⟩ (c_Objs_checkIndex l g s.heap (nI i) (nI n) (nI_pos (by omega)) (nI_lt hi (by omega))) (va_cwS 2 hts (kS_good kw_210 kw_208 kw_209 kw_14) rfl rfl rfl (by decide +kernel) ⟨Nat.le_of_ble_eq_true rfl, Nat.le_of_ble_eq_true rfl⟩) (k_pre (KK_st g) hKK) rfl rfl hl.1 rfl (lv_room (Nat.le_of_ble_eq_true rfl)) d_AL_get_5 ⟨Nat.zero_le _, Nat.zero_le _⟩) ?_
  refine lv_pop hx hb d_AL_get_8 rfl ?_
  refine lv_aload_n hx hb d_AL_get_9 rfl (lv_at hl 0 rfl) ?_
  refine lv_iload_n hx hb d_AL_get_10 rfl (lv_at hl 1 rfl) ?_
  refine k_pure (r := .ref (el i)) (W.runV (As := [.int (nI i)]) (rest := []) ⟨hx, hb, hml, hown, hts⟩ (c_AL_elementData l g s.heap h0 n el i hi o) (cwV 1 hts (kV_good kw_217 kw_214 kw_215 kw_216 kw_4) rfl rfl rfl (by decide +kernel) ⟨Nat.le_of_ble_eq_true rfl, Nat.le_of_ble_eq_true rfl⟩) (k_preV (KK_st g) hKK (o.recv hK)) rfl rfl hl.1 rfl (lv_room (Nat.le_of_ble_eq_true rfl)) d_AL_get_11 ⟨Nat.zero_le _, Nat.zero_le _⟩) ?_
  exact W.aret (v := .ref (el i)) hx hb hr (Or.inl ⟨_, rfl⟩) (Or.inr ⟨_, rfl⟩) (fun t ht hW => ⟨_, rfl, rfl, ht⟩) (fun _ h => by cases h) d_AL_get_14
end
section
/-! ArrayList: its writers -/
/-- the cells that were there when the law began are as they were -/
def kB (g : KGt) (H : Heap) : Prop := kE (fun _ => False) g.2.2.1 H
theorem kB.tr {g : KGt} {A : Nat → Prop} {H H1 : Heap} (h : kB g H) (k : kE A H H1) (hA : ∀ q, q < g.2.2.1.size → ¬ A q) : kB g H1 := kE.tr h k (fun q hq z => hA q hq z)
/-- an object that may lie in a row of Object -/
def kObj (g : KGt) (e : Nat) (H : Heap) : Prop := ∃ (ci : Nat) (fs : List Value), va_at g.1 kcl (e, .inr (ci, fs)) H ∧ (ci = 2 ∨ ci = 4 ∨ ci = 5 ∨ ci = 6 ∨ ci = 7 ∨ ci = 9)
theorem kObj.any {g : KGt} {e : Nat} {H : Heap} {s : State} (h : kObj g e H) (hK : KK g s) : va_Any "java/lang/Object" s H e := by
  obtain ⟨ci, fs, h1, h2⟩ := h
  rcases h2 with rfl | rfl | rfl | rfl | rfl | rfl
  · exact va_rAny hK.1 (k_one h1) (q0 := 0) rfl (r := ("BoxGlue$Box", kT_Box, 5)) rfl (vb_asgC (hK.2.1 (.castable "BoxGlue$Box" "java/lang/Object") (by decide +kernel)))
  · exact va_rAny hK.1 (k_one h1) (q0 := 0) rfl (r := ("BoxGlue$Put", kT_Put, 4)) rfl (vb_asgC (hK.2.1 (.castable "BoxGlue$Put" "java/lang/Object") (by decide +kernel)))
  · exact va_rAny hK.1 (k_one h1) (q0 := 0) rfl (r := ("BoxGlue$Glue", kT_Glue, 7)) rfl (vb_asgC (hK.2.1 (.castable "BoxGlue$Glue" "java/lang/Object") (by decide +kernel)))
  · exact va_rAny hK.1 (k_one h1) (q0 := 0) rfl (r := ("BoxGlue$Kern", kT_Kern, 2)) rfl (vb_asgC (hK.2.1 (.castable "BoxGlue$Kern" "java/lang/Object") (by decide +kernel)))
  · exact va_rAny hK.1 (k_one h1) (q0 := 0) rfl (r := ("BoxGlue$Rule", kT_Rule, 4)) rfl (vb_asgC (hK.2.1 (.castable "BoxGlue$Rule" "java/lang/Object") (by decide +kernel)))
  · exact va_rAny hK.1 (k_one h1) (q0 := 0) rfl (r := ("BoxGlue$Placed", kT_Placed, 3)) rfl (vb_asgC (hK.2.1 (.castable "BoxGlue$Placed" "java/lang/Object") (by decide +kernel)))
theorem kObj.kept {g : KGt} {e : Nat} {H H1 : Heap} (h : kObj g e H) (k : H1[e]? = H[e]?) : kObj g e H1 := by
  obtain ⟨ci, fs, h1, h2⟩ := h
  exact ⟨ci, fs, h1.kept k, h2⟩
theorem kObj.lt {g : KGt} {e : Nat} {H : Heap} (h : kObj g e H) : e < H.size := by
  obtain ⟨ci, fs, h1, h2⟩ := h
  exact h1.lt
theorem k_cA {g : KGt} {s : State} {cA : ClassId} (hK : va_K g.1 kcl (kTy g) s) (h9 : va_K g.1 kcl (kTy g ++ [(cA, .object "java/lang/Object")]) s) : cA = g.2.1.1 := by
  obtain ⟨-, -, -, -, -, h1⟩ := (hK.2 0 _ rfl).2
  obtain ⟨-, -, -, -, -, h2⟩ := (h9.2 3 _ rfl).2
  exact Option.some.inj (h2.symm.trans h1)
theorem k_arrcls {g : KGt} {s : State} {a n : Nat} {f : Nat → Option Nat} {H : Heap} (hK : va_K g.1 kcl (kTy g) s) (h : va_at g.1 kcl (a, .inl (g.2.1.1, n, .inr (.inr (.inr (.inr f))))) H) : ∃ cell : Cell, H[a]? = some cell ∧ cell.vm.isStatics = false ∧ s.vm.findClass "[Ljava/lang/Object;" = some cell.cls :=
  ⟨_, h, rfl, va_nmO (hK.2 0 _ rfl).2 (by decide +kernel)⟩
section KGS
variable {p : Program} {l : Launch} {e : Env} {R : Room} {s : State} {m : MethodId} {args : Array Value} {below : List Frame} {meth : Method} {c : Code} {H : Heap} {locs : List Loc} {cells slots : Nat} {Q : State → Prop}
variable {cc : ByteArray} {pc : Nat} {ls : Array Slot} {rest : List Value} {g : KGt}
theorem k_gets (hexec : p.tables.exec = Jvm.exec) (hb : c.code = cc) {own : String} {index : Nat} (hKK : KK g s) (hB : kB g H) (hown : s.vm.findClass own = some m.cls) (hlink : (Cond.fieldLink own index "java/util/ArrayList" "DEFAULTCAPACITY_EMPTY_ELEMENTDATA" "[Ljava/lang/Object;").before args s = true) (hdg : decode cc pc = .ok (.getstatic index, 3))
    (kk : W p l e R s m args below meth c H locs cells slots Q (F0 m (pc + 3) ls (.ref g.2.2.2.1 :: rest))) : W p l e R s m args below meth c H locs cells slots Q (F0 m pc ls rest) := by
  obtain ⟨cf, kf, fi, f, a, cell, h1, h2, h3, h4, h5, h6, h7, h8⟩ := hKK.2.2.2.2.2.2.1
  exact W.gets hexec hb hown hlink h1 h2 h3 h4 (by rw [hB.2 a (Array.getElem?_eq_some_iff.mp h5).1 id]; exact h5) (fun e => by rw [e] at h6; cases h6) h7 rfl hdg kk
/-- the shared empty array has length 0 -/
theorem k_alenE (hexec : p.tables.exec = Jvm.exec) (hb : c.code = cc) (hKK : KK g s) (hB : kB g H) (hdg : decode cc pc = .ok (.arraylength, 1))
    (kk : W p l e R s m args below meth c H locs cells slots Q (F0 m (pc + 1) ls (.int (nI 0) :: rest))) : W p l e R s m args below meth c H locs cells slots Q (F0 m pc ls (.ref g.2.2.2.1 :: rest)) := by
  obtain ⟨cell, h1, h2, h3, h4, h5, h6, h7⟩ := hKK.2.2.2.2.2.2.2
  exact W.alen (n := Int32.ofNat 0) hexec hb (by rw [hB.2 _ (Array.getElem?_eq_some_iff.mp h1).1 id]; exact h1) h2 h5 rfl rfl hdg kk
end KGS
/-- an object isn't an array -/
theorem k_obarr {g : KGt} {y n ci : Nat} {fs : List Value} {f : Nat → Option Nat} {H : Heap} {s : State} {P : Prop} (hK : va_K g.1 kcl (kTy g) s) (h : va_at g.1 kcl (y, .inr (ci, fs)) H) (h2 : va_at g.1 kcl (y, .inl (g.2.1.1, n, .inr (.inr (.inr (.inr f))))) H) : P := by
  obtain ⟨r, h1, cell, q1, q2, q3, q4⟩ := h
  obtain ⟨-, -, kC, hkC, hkind⟩ := hK.1 ci r h1
  obtain ⟨kA, comp, k1, k2, -⟩ := (hK.2 0 _ rfl).2
  have e : cell = vp_cell g.2.1.1 (n, .inr (.inr (.inr (.inr f)))) := Option.some.inj (q1.symm.trans h2)
  rw [e] at q2
  have e2 : g.2.1.1 = g.1.1 ci := q2
  have k1' : s.vm.classes[g.2.1.1]? = some kA := k1
  have k2' : kA.kind = .array comp (.object "java/lang/Object") := k2
  rw [e2, hkC] at k1'
  have e3 := Option.some.inj k1'
  rw [← e3, hkind] at k2'
  cases k2'
/-- a cell that stands among others, said of one -/
theorem k_at0 {D : va_G} {cl : List vw_C} {ws : va_W} {H : Heap} (h : va_P D cl ws H) (k : Nat) {q : Nat × va_E} (hk : ws[k]? = some q) : va_at D cl q H := h k q hk
set_option maxHeartbeats 4000000 in
set_option maxRecDepth 100000 in
theorem c_AbC_init (l : Launch) (g : KGt) (H0 : Heap) (h0 : Nat) : Met l y_AbC_init (kW y_AbC_init b_AbC_init 1 (.none : Option FieldType)) ({ frames := 1, cells := 0, slots := 0, locals := 12 }) (kPc [.ref h0] (KK g) H0) (kQc (fun v H1 => v = none ∧ H1 = H0)) 0 0 (fun _ => False) := by
  refine va_MetF (cc := b_AbC_init) (maxL := 1) (ret := (.none : Option FieldType)) (by decide +kernel) rfl ?_
  intro p e s m args below meth c s₁ B hml hv
  obtain ⟨rfl, hH, hKK⟩ := hv
  have hx := B.exec
  have hb := B.bytes
  have hr := B.returns
  have hts := kW_ts (atoms_spec (ws := kW y_AbC_init b_AbC_init 1 (.none : Option FieldType)) B.pre)
  have hown : s.vm.findClass "java/util/AbstractCollection" = some m.cls := findClass_of_methodNamed B.named
  have hlocks := B.notSynchronized
  have hK := hKK.1
  subst hH
  have hl := lv_entry ([.ref h0]) (n := 1) (Nat.le_of_ble_eq_true rfl)
  rw [lg_entry_eq]
  generalize (lg_sl ([.ref h0]) ++ List.replicate (1 - (lg_sl ([.ref h0])).length) Slot.unset).toArray = ls at hl ⊢
  have hl : lv_has ls 1 [(0, .ref h0)] := hl
  refine lv_aload_n hx hb d_AbC_init_0 rfl (lv_at hl 0 rfl) ?_
  refine W.objInit hx hb hown (hts _ kw_40) (hts _ kw_27) (hts _ kw_28) rfl (by rw [hml]; exact hl.1) rfl d_AbC_init_1 (Nat.le_of_ble_eq_true rfl) (Nat.le_of_ble_eq_true rfl) ?_
  refine W.eq (g2 := F0 m 4 ls []) rfl ?_
  exact W.vret hx hb hr (fun t ht hW => ⟨_, rfl, rfl, ht⟩) (fun _ h => by cases h) d_AbC_init_4
set_option maxHeartbeats 4000000 in
set_option maxRecDepth 100000 in
theorem c_AbL_init (l : Launch) (g : KGt) (H0 : Heap) (h0 : Nat) (arr : Value) (n mo : Int32) (o0 : va_at g.1 kcl (h0, .inr (1, [arr, .int n, .int mo])) H0) : Met l y_AbL_init (kW y_AbL_init b_AbL_init 1 (.none : Option FieldType)) ({ frames := 2, cells := 0, slots := 0, locals := 32 }) (kPc [.ref h0] (KK g) H0) (kQc (fun v H1 => v = none ∧ kE (fun q => q = h0) H0 H1 ∧ va_at g.1 kcl (h0, .inr (1, [arr, .int n, .int 0])) H1)) 0 0 (fun q : Nat => q = h0 ∨ H0.size ≤ q) := by
  refine va_MetF (cc := b_AbL_init) (maxL := 1) (ret := (.none : Option FieldType)) (by decide +kernel) rfl ?_
  intro p e s m args below meth c s₁ B hml hv
  obtain ⟨rfl, hH, hKK⟩ := hv
  have hx := B.exec
  have hb := B.bytes
  have hr := B.returns
  have hts := kW_ts (atoms_spec (ws := kW y_AbL_init b_AbL_init 1 (.none : Option FieldType)) B.pre)
  have hown : s.vm.findClass "java/util/AbstractList" = some m.cls := findClass_of_methodNamed B.named
  have hlocks := B.notSynchronized
  have hK := hKK.1
  subst hH
  have hl := lv_entry ([.ref h0]) (n := 1) (Nat.le_of_ble_eq_true rfl)
  rw [lg_entry_eq]
  generalize (lg_sl ([.ref h0]) ++ List.replicate (1 - (lg_sl ([.ref h0])).length) Slot.unset).toArray = ls at hl ⊢
  have hl : lv_has ls 1 [(0, .ref h0)] := hl
  generalize hAe : (fun q : Nat => q = h0 ∨ s.heap.size ≤ q) = A
  have hA : ∀ q : Nat, s.heap.size ≤ q → A q := fun q h => by rw [← hAe]; exact Or.inr h
  have hS : va_S A s.heap s.heap [] := va_S.rf
  have hP : va_P g.1 kcl [(h0, .inr (1, [arr, .int n, .int mo]))] s.heap := k_one o0
  have hD : va_D A [(h0, .inr (1, [arr, .int n, .int mo]))] := k_D1 (by rw [← hAe]; exact Or.inl rfl)
  refine lv_aload_n hx hb d_AbL_init_0 rfl (lv_at hl 0 rfl) ?_
  refine k_call (A := A) (W.runI (As := []) (rest := []) ⟨hx, hb, hml, hown, hts⟩ (c_AbC_init l g s.heap h0) (cwI 0 hts (kW_good kw_39) rfl rfl rfl (hts _ kw_2) (hts _ kw_37) (hts _ kw_38) rfl (by decide +kernel) ⟨Nat.le_of_ble_eq_true rfl, Nat.le_of_ble_eq_true rfl⟩) (k_pre (KK_st g) hKK) rfl rfl hl.1 rfl (lv_room (Nat.le_of_ble_eq_true rfl)) d_AbL_init_1 ⟨Nat.le_of_ble_eq_true rfl, Nat.le_of_ble_eq_true rfl⟩) hS.2.2 (fun _ h => h.elim) (fun v H locs hv hL => ?_)
  obtain ⟨rfl, hH⟩ := hv
  rw [← hH] at hP
  have hS : va_S A s.heap H locs := by rw [hH]; exact ⟨Nat.le_refl _, fun _ _ _ => rfl, hL⟩
  refine lv_aload_n hx hb d_AbL_init_4 rfl (lv_at hl 0 rfl) ?_
  refine lv_iconst (v := 0) hx hb d_AbL_init_5 (by decide) ?_
  refine va_put (D := g.1) (ci := 1) (v := .int 0) (ty := .int) (C := "java/util/ArrayList") (T := kT_AL) (N := 3) hx hb hts ki_AL kt_AL ko_AL kn_AL hown hK hP hD hS 0 rfl rfl 2 (by decide) (hts _ kw_45) (fun _ h9 => h9) rfl (by decide +kernel) rfl rfl (Nat.le_of_ble_eq_true rfl) d_AbL_init_6 (fun H locs hP hD hS => ?_)
  have hP : va_P g.1 kcl [(h0, .inr (1, [arr, .int n, .int 0]))] H := hP
  have hD : va_D A [(h0, .inr (1, [arr, .int n, .int 0]))] := hD
  exact W.vret hx hb hr (fun t ht hW => ⟨_, rfl, rfl, by rw [ht]; exact (kE.ofS hS).wk (fun q hq h => by rw [← hAe] at h; rcases h with h | h; exact h; omega), by rw [ht]; exact k_at0 hP 0 rfl⟩) hS.2.2 d_AbL_init_9
set_option maxHeartbeats 4000000 in
set_option maxRecDepth 100000 in
theorem c_AL_init (l : Launch) (g : KGt) (H0 : Heap) (h0 : Nat) (hB : kB g H0) (hg : g.2.2.1.size ≤ h0) (o0 : va_at g.1 kcl (h0, .inr (1, [.null, .int 0, .int 0])) H0) : Met l y_AL_init (kW y_AL_init b_AL_init 1 (.none : Option FieldType)) ({ frames := 3, cells := 0, slots := 0, locals := 52 }) (kPc [.ref h0] (KK g) H0) (kQc (fun v H1 => v = none ∧ kE (fun q => q = h0) H0 H1 ∧ va_at g.1 kcl (h0, .inr (1, [.ref g.2.2.2.1, .int 0, .int 0])) H1)) 0 0 (fun q : Nat => q = h0 ∨ H0.size ≤ q) := by
  refine va_MetF (cc := b_AL_init) (maxL := 1) (ret := (.none : Option FieldType)) (by decide +kernel) rfl ?_
  intro p e s m args below meth c s₁ B hml hv
  obtain ⟨rfl, hH, hKK⟩ := hv
  have hx := B.exec
  have hb := B.bytes
  have hr := B.returns
  have hts := kW_ts (atoms_spec (ws := kW y_AL_init b_AL_init 1 (.none : Option FieldType)) B.pre)
  have hown : s.vm.findClass "java/util/ArrayList" = some m.cls := findClass_of_methodNamed B.named
  have hlocks := B.notSynchronized
  have hK := hKK.1
  subst hH
  have hl := lv_entry ([.ref h0]) (n := 1) (Nat.le_of_ble_eq_true rfl)
  rw [lg_entry_eq]
  generalize (lg_sl ([.ref h0]) ++ List.replicate (1 - (lg_sl ([.ref h0])).length) Slot.unset).toArray = ls at hl ⊢
  have hl : lv_has ls 1 [(0, .ref h0)] := hl
  generalize hAe : (fun q : Nat => q = h0 ∨ s.heap.size ≤ q) = A
  have hA : ∀ q : Nat, s.heap.size ≤ q → A q := fun q h => by rw [← hAe]; exact Or.inr h
  have hS : va_S A s.heap s.heap [] := va_S.rf
  have hP : va_P g.1 kcl [(h0, .inr (1, [.null, .int 0, .int 0]))] s.heap := k_one o0
  have hD : va_D A [(h0, .inr (1, [.null, .int 0, .int 0]))] := k_D1 (by rw [← hAe]; exact Or.inl rfl)
  refine lv_aload_n hx hb d_AL_init_0 rfl (lv_at hl 0 rfl) ?_
  refine k_call (A := A) (W.runI (As := []) (rest := []) ⟨hx, hb, hml, hown, hts⟩ (c_AbL_init l g s.heap h0 .null 0 0 o0) (cwI 0 hts (kW_good kw_36) rfl rfl rfl (hts _ kw_3) (hts _ kw_34) (hts _ kw_35) rfl (by decide +kernel) ⟨Nat.le_of_ble_eq_true rfl, Nat.le_of_ble_eq_true rfl⟩) (k_pre (KK_st g) hKK) rfl rfl hl.1 rfl (lv_room (Nat.le_of_ble_eq_true rfl)) d_AL_init_1 ⟨Nat.le_of_ble_eq_true rfl, Nat.le_of_ble_eq_true rfl⟩) hS.2.2 (fun q h => by rw [← hAe]; exact h) (fun v H locs hv hL => ?_)
  obtain ⟨rfl, hE, o1⟩ := hv
  have hP : va_P g.1 kcl [(h0, .inr (1, [.null, .int 0, .int 0]))] H := k_one o1
  have hS : va_S A s.heap H locs := (hE.wk (fun q _ h => by rw [← hAe]; exact Or.inl h)).S hL
  have hB : kB g H := hB.tr hE (fun q hq h => by omega)
  refine lv_aload_n hx hb d_AL_init_4 rfl (lv_at hl 0 rfl) ?_
  refine k_gets hx hb hKK hB hown (hts _ kw_41) d_AL_init_5 ?_
  refine va_put (D := g.1) (ci := 1) (v := .ref g.2.2.2.1) (ty := .array (.object "java/lang/Object")) (C := "java/util/ArrayList") (T := kT_AL) (N := 3) hx hb hts ki_AL kt_AL ko_AL kn_AL hown hK hP hD hS 0 rfl rfl 0 (by decide) (hts _ kw_43) (fun _ h9 => h9) rfl (by decide +kernel) rfl rfl (Nat.le_of_ble_eq_true rfl) d_AL_init_8 (fun H locs hP hD hS => ?_)
  have hP : va_P g.1 kcl [(h0, .inr (1, [.ref g.2.2.2.1, .int 0, .int 0]))] H := hP
  have hD : va_D A [(h0, .inr (1, [.ref g.2.2.2.1, .int 0, .int 0]))] := hD
  exact W.vret hx hb hr (fun t ht hW => ⟨_, rfl, rfl, by rw [ht]; exact (kE.ofS hS).wk (fun q hq h => by rw [← hAe] at h; rcases h with h | h; exact h; omega), by rw [ht]; exact k_at0 hP 0 rfl⟩) hS.2.2 d_AL_init_11
set_option maxHeartbeats 4000000 in
set_option maxRecDepth 100000 in
theorem c_ASup_newLength (l : Launch) (g : KGt) (H0 : Heap) (a b : Nat) (h1 : 1 < b) (h2 : a + b < 2 ^ 30) : Met l y_ASup_newLength (kW y_ASup_newLength b_ASup_newLength 4 (.some .int)) ({ frames := 1, cells := 0, slots := 0, locals := 21 }) (kPc [.int (nI a), .int (nI 1), .int (nI b)] (KK g) H0) (kQc (kPure (.int (nI (a + b))) H0)) 0 0 (fun _ => False) := by
  refine va_MetF (cc := b_ASup_newLength) (maxL := 4) (ret := (.some .int)) (by decide +kernel) rfl ?_
  intro p e s m args below meth c s₁ B hml hv
  obtain ⟨rfl, hH, hKK⟩ := hv
  have hx := B.exec
  have hb := B.bytes
  have hr := B.returns
  have hts := kW_ts (atoms_spec (ws := kW y_ASup_newLength b_ASup_newLength 4 (.some .int)) B.pre)
  have hown : s.vm.findClass "jdk/internal/util/ArraysSupport" = some m.cls := findClass_of_methodNamed B.named
  have hlocks := B.notSynchronized
  have hK := hKK.1
  subst hH
  have hl := lv_entry ([.int (nI a), .int (nI 1), .int (nI b)]) (n := 4) (Nat.le_of_ble_eq_true rfl)
  rw [lg_entry_eq]
  generalize (lg_sl ([.int (nI a), .int (nI 1), .int (nI b)]) ++ List.replicate (4 - (lg_sl ([.int (nI a), .int (nI 1), .int (nI b)])).length) Slot.unset).toArray = ls at hl ⊢
  have hl : lv_has ls 4 [(0, .int (nI a)), (1, .int (nI 1)), (2, .int (nI b))] := hl
  refine lv_iload_n hx hb d_ASup_newLength_0 rfl (lv_at hl 0 rfl) ?_
  refine lv_iload_n hx hb d_ASup_newLength_1 rfl (lv_at hl 1 rfl) ?_
  refine lv_iload_n hx hb d_ASup_newLength_2 rfl (lv_at hl 2 rfl) ?_
  refine va_mmax (x := (nI 1)) (y := (nI b)) hx hb (hml.trans hl.1.symm) hown (hts _ kw_151) (hts _ kw_152) (hts _ kw_9) (hts _ kw_153) (Nat.le_of_ble_eq_true rfl) (Nat.le_of_ble_eq_true rfl) (Nat.zero_le _) (Nat.zero_le _) d_ASup_newLength_3 ?_
  rw [if_pos (nI_lt h1 (by omega))]
  refine lv_iadd hx hb d_ASup_newLength_6 ?_
  rw [nI_add]
  refine lv_istore_n (lv' := [(3, .int (nI (a + b))), (0, .int (nI a)), (1, .int (nI 1)), (2, .int (nI b))]) hx hb d_ASup_newLength_7 rfl hl (by decide) rfl (fun ls hl => ?_)
  refine lv_iconst (v := 0) hx hb d_ASup_newLength_8 (by decide) ?_
  refine lv_iload_n hx hb d_ASup_newLength_9 rfl (lv_at hl 0 rfl) ?_
  refine lv_icmp_ge (tgt := 21) hx hb d_ASup_newLength_10 (by decide) (fun c_1 => ?_) (fun c_1 => ?_)
  · exact absurd c_1 (by rw [show (0 : Int32) = nI 0 from nI_0.symm]; exact nI_ge (by omega) (by omega))
  refine lv_iload_n hx hb d_ASup_newLength_13 rfl (lv_at hl 0 rfl) ?_
  refine lv_ldc (own := "jdk/internal/util/ArraysSupport") (index := 200) (v := 2147483639) hx hb hown (hts _ kw_154) d_ASup_newLength_14 ?_
  refine lv_icmp_gt (tgt := 21) hx hb d_ASup_newLength_16 (by decide) (fun c_2 => ?_) (fun c_2 => ?_)
  · exact absurd c_2 (by rw [show (2147483639 : Int32) = nI 2147483639 by decide]; exact nI_nlt (by omega) (by omega))
  refine lv_iload_n hx hb d_ASup_newLength_19 rfl (lv_at hl 0 rfl) ?_
  exact W.iret (v := (nI (a + b))) hx hb hr (fun t ht hW => ⟨_, rfl, rfl, ht⟩) (fun _ h => by cases h) d_ASup_newLength_20
set_option maxHeartbeats 4000000 in
set_option maxRecDepth 100000 in
theorem c_Arrs_copyOf2 (l : Launch) (g : KGt) (H0 : Heap) (a0 n k : Nat) (f : Nat → Option Nat) (o0 : va_at g.1 kcl (a0, .inl (g.2.1.1, n, .inr (.inr (.inr (.inr f))))) H0) (hk : n ≤ k) (hk2 : k ≤ 100) (he : ∀ i, i < n → ∀ y, f i = some y → kObj g y H0) : Met l y_Arrs_copyOf2 (kW y_Arrs_copyOf2 b_Arrs_copyOf2 4 (.some (.array (.object "java/lang/Object")))) ({ frames := 1, cells := 1, slots := 100, locals := 40 }) (kPc [.ref a0, .int (nI k), .ref g.2.2.2.2] (KK g) H0) (kQc (fun v H1 => ∃ q : Nat, v = some (.ref q) ∧ H0.size ≤ q ∧ kE (fun _ => False) H0 H1 ∧ va_at g.1 kcl (q, .inl (g.2.1.1, k, .inr (.inr (.inr (.inr (va_cpy f (fun _ => none) 0 0 n)))))) H1)) 1 100 (fun q : Nat => q = a0 ∨ H0.size ≤ q) := by
  refine va_MetF (cc := b_Arrs_copyOf2) (maxL := 4) (ret := (.some (.array (.object "java/lang/Object")))) (by decide +kernel) rfl ?_
  intro p e s m args below meth c s₁ B hml hv
  obtain ⟨rfl, hH, hKK⟩ := hv
  have hx := B.exec
  have hb := B.bytes
  have hr := B.returns
  have hts := kW_ts (atoms_spec (ws := kW y_Arrs_copyOf2 b_Arrs_copyOf2 4 (.some (.array (.object "java/lang/Object")))) B.pre)
  have hown : s.vm.findClass "java/util/Arrays" = some m.cls := findClass_of_methodNamed B.named
  have hlocks := B.notSynchronized
  have hK := hKK.1
  subst hH
  have hl := lv_entry ([.ref a0, .int (nI k), .ref g.2.2.2.2]) (n := 4) (Nat.le_of_ble_eq_true rfl)
  rw [lg_entry_eq]
  generalize (lg_sl ([.ref a0, .int (nI k), .ref g.2.2.2.2]) ++ List.replicate (4 - (lg_sl ([.ref a0, .int (nI k), .ref g.2.2.2.2])).length) Slot.unset).toArray = ls at hl ⊢
  have hl : lv_has ls 4 [(0, .ref a0), (1, .int (nI k)), (2, .ref g.2.2.2.2)] := hl
  generalize hAe : (fun q : Nat => q = a0 ∨ s.heap.size ≤ q) = A
  have hA : ∀ q : Nat, s.heap.size ≤ q → A q := fun q h => by rw [← hAe]; exact Or.inr h
  have hS : va_S A s.heap s.heap [] := va_S.rf
  have hP : va_P g.1 kcl [(a0, .inl (g.2.1.1, n, .inr (.inr (.inr (.inr f)))))] s.heap := k_one o0
  have hD : va_D A [(a0, .inl (g.2.1.1, n, .inr (.inr (.inr (.inr f)))))] := k_D1 (by rw [← hAe]; exact Or.inl rfl)
  refine lv_aload_n hx hb d_Arrs_copyOf2_0 rfl (lv_at hl 2 rfl) ?_
  refine va_ldcM hx hb hown (hts _ kw_179) hKK.2.2.2.2.1 d_Arrs_copyOf2_1 ?_
  refine lv_acmp_ne (rx := some g.2.2.2.2) (ry := some g.2.2.2.2) (tgt := 13) hx hb d_Arrs_copyOf2_3 (by decide) (fun c_1 => absurd rfl c_1) (fun c_1 => ?_)
  refine lv_iload_n hx hb d_Arrs_copyOf2_6 rfl (lv_at hl 1 rfl) ?_
  refine va_newq (D := g.1) (C := "java/lang/Object") (N' := k) hx hb hown (hts _ kw_181) hKK.2.2.2.1 hK hP hD hS hA (nI_pos (by omega)) (nI_clamp (by omega)) (by omega) (Nat.le_of_ble_eq_true rfl) (by show 0 + _ ≤ 100; omega) d_Arrs_copyOf2_7 (fun q cA H hK9 hP hD hS => ?_)
  obtain rfl := k_cA hK hK9
  refine W.widen (k := 1) (n := 100) (by omega) (by omega) ?_
  have hP : va_P g.1 kcl [(a0, .inl (g.2.1.1, n, .inr (.inr (.inr (.inr f))))), (q, .inl (g.2.1.1, k, .inr (.inr (.inr (.inr (fun _ => none))))))] H := hP
  have hD : va_D A [(a0, .inl (g.2.1.1, n, .inr (.inr (.inr (.inr f))))), (q, .inl (g.2.1.1, k, .inr (.inr (.inr (.inr (fun _ => none))))))] := hD
  have hq : s.heap.size ≤ q := by
    have h9 := hD.2 1 _ rfl
    rw [← hAe] at h9
    rcases h9 with h9 | h9
    · exact absurd (hD.1 0 1 _ _ rfl rfl h9.symm) (by decide)
    · exact h9
  refine lv_goto (tgt := 24) hx hb d_Arrs_copyOf2_10 (by decide) ?_
  refine lv_astore_n (lv' := [(3, .ref q), (0, .ref a0), (1, .int (nI k)), (2, .ref g.2.2.2.2)]) hx hb d_Arrs_copyOf2_24 rfl hl (by decide) rfl (fun ls hl => ?_)
  refine lv_aload_n hx hb d_Arrs_copyOf2_25 rfl (lv_at hl 1 rfl) ?_
  refine lv_iconst (v := 0) hx hb d_Arrs_copyOf2_26 (by decide) ?_
  refine lv_aload_n hx hb d_Arrs_copyOf2_27 rfl (lv_at hl 0 rfl) ?_
  refine lv_iconst (v := 0) hx hb d_Arrs_copyOf2_28 (by decide) ?_
  refine lv_aload_n hx hb d_Arrs_copyOf2_29 rfl (lv_at hl 1 rfl) ?_
  refine va_alen (D := g.1) (v := nI n) (ty := .object "java/lang/Object") hx hb hK hP 0 0 rfl rfl rfl d_Arrs_copyOf2_30 ?_
  refine lv_iload_n hx hb d_Arrs_copyOf2_31 rfl (lv_at hl 2 rfl) ?_
  refine va_mmin (x := nI n) (y := nI k) hx hb (hml.trans hl.1.symm) hown (hts _ kw_182) (hts _ kw_183) (hts _ kw_9) (hts _ kw_184) (Nat.le_of_ble_eq_true rfl) (Nat.le_of_ble_eq_true rfl) (Nat.le_of_ble_eq_true rfl) (Nat.le_of_ble_eq_true rfl) d_Arrs_copyOf2_32 ?_
  rw [if_neg (nI_nlt hk (by omega))]
  refine va_copyM (D := g.1) (E0 := "java/lang/Object") (E1 := "java/lang/Object") hx hb (hml.trans hl.1.symm) hown (hts _ kw_185) (hts _ kw_187) (hts _ kw_186) (hts _ kw_11) hK hP hD hS 0 1 0 0 rfl rfl rfl rfl (by decide) (by decide) (nI_pos (by omega)) (by rw [nI_clamp (by omega)]; show 0 + n ≤ n; omega) (by rw [nI_clamp (by omega)]; show 0 + n ≤ k; omega) (fun i hi y hy => ?_) (Nat.le_of_ble_eq_true rfl) (Nat.le_of_ble_eq_true rfl) d_Arrs_copyOf2_35 (fun H locs hP hD hS => ?_)
  · rw [nI_clamp (by omega)] at hi
    rw [show (0 : Int32).toNatClampNeg + i = i by show 0 + i = i; omega] at hy
    have hy0 := he i hi y hy
    refine kObj.any (hy0.kept ?_) hKK
    refine hS.2.1 y hy0.lt (fun h => ?_)
    rw [← hAe] at h
    rcases h with h | h
    · obtain ⟨ci, fs, w1, -⟩ := hy0; exact k_obarr hK w1 (by rw [h]; exact o0)
    · exact absurd hy0.lt (by omega)
  rw [nI_clamp (show n < 2 ^ 31 by omega)] at hP hD
  have hP : va_P g.1 kcl [(a0, .inl (g.2.1.1, n, .inr (.inr (.inr (.inr f))))), (q, .inl (g.2.1.1, k, .inr (.inr (.inr (.inr (va_cpy f (fun _ => none) 0 0 n))))))] H := hP
  have hD : va_D A [(a0, .inl (g.2.1.1, n, .inr (.inr (.inr (.inr f))))), (q, .inl (g.2.1.1, k, .inr (.inr (.inr (.inr (va_cpy f (fun _ => none) 0 0 n))))))] := hD
  refine lv_aload_n hx hb d_Arrs_copyOf2_38 rfl (lv_at hl 0 rfl) ?_
  have hE : kE (fun _ => False) s.heap H := by
    refine ⟨hS.1, fun q hq _ => ?_⟩
    by_cases e : q = a0
    · subst e
      exact (k_at0 hP 0 rfl : _ = _).trans (o0 : _ = _).symm
    · exact hS.2.1 q hq (fun h => by rw [← hAe] at h; rcases h with h | h; exact e h; omega)
  exact W.aret (v := .ref q) hx hb hr (Or.inr ⟨_, rfl⟩) (Or.inr ⟨_, rfl⟩) (fun t ht hW => ⟨_, rfl, q, rfl, hq, by rw [ht]; exact hE, by rw [ht]; exact k_at0 hP 1 rfl⟩) hS.2.2 d_Arrs_copyOf2_39
set_option maxHeartbeats 4000000 in
set_option maxRecDepth 100000 in
theorem c_Arrs_copyOf (l : Launch) (g : KGt) (H0 : Heap) (a0 n k : Nat) (f : Nat → Option Nat) (o0 : va_at g.1 kcl (a0, .inl (g.2.1.1, n, .inr (.inr (.inr (.inr f))))) H0) (hk : n ≤ k) (hk2 : k ≤ 100) (he : ∀ i, i < n → ∀ y, f i = some y → kObj g y H0) : Met l y_Arrs_copyOf (kW y_Arrs_copyOf b_Arrs_copyOf 2 (.some (.array (.object "java/lang/Object")))) ({ frames := 2, cells := 1, slots := 100, locals := 63 }) (kPc [.ref a0, .int (nI k)] (KK g) H0) (kQc (fun v H1 => ∃ q : Nat, v = some (.ref q) ∧ H0.size ≤ q ∧ kE (fun _ => False) H0 H1 ∧ va_at g.1 kcl (q, .inl (g.2.1.1, k, .inr (.inr (.inr (.inr (va_cpy f (fun _ => none) 0 0 n)))))) H1)) 1 100 (fun q : Nat => q = a0 ∨ H0.size ≤ q) := by
  refine va_MetF (cc := b_Arrs_copyOf) (maxL := 2) (ret := (.some (.array (.object "java/lang/Object")))) (by decide +kernel) rfl ?_
  intro p e s m args below meth c s₁ B hml hv
  obtain ⟨rfl, hH, hKK⟩ := hv
  have hx := B.exec
  have hb := B.bytes
  have hr := B.returns
  have hts := kW_ts (atoms_spec (ws := kW y_Arrs_copyOf b_Arrs_copyOf 2 (.some (.array (.object "java/lang/Object")))) B.pre)
  have hown : s.vm.findClass "java/util/Arrays" = some m.cls := findClass_of_methodNamed B.named
  have hlocks := B.notSynchronized
  have hK := hKK.1
  subst hH
  have hl := lv_entry ([.ref a0, .int (nI k)]) (n := 2) (Nat.le_of_ble_eq_true rfl)
  rw [lg_entry_eq]
  generalize (lg_sl ([.ref a0, .int (nI k)]) ++ List.replicate (2 - (lg_sl ([.ref a0, .int (nI k)])).length) Slot.unset).toArray = ls at hl ⊢
  have hl : lv_has ls 2 [(0, .ref a0), (1, .int (nI k))] := hl
  refine lv_aload_n hx hb d_Arrs_copyOf_0 rfl (lv_at hl 0 rfl) ?_
  refine lv_iload_n hx hb d_Arrs_copyOf_1 rfl (lv_at hl 1 rfl) ?_
  refine lv_aload_n hx hb d_Arrs_copyOf_2 rfl (lv_at hl 0 rfl) ?_
  refine va_getC (C := "[Ljava/lang/Object;") hx hb (hml.trans hl.1.symm) hown (hts _ kw_161) (va_Dc.use hKK.2.2.2.2.2.1) (hts _ kw_788) (hts _ kw_162) (hts _ kw_175) hKK.2.2.2.2.1 (k_arrcls hK o0) (Nat.le_of_ble_eq_true rfl) (Nat.le_of_ble_eq_true rfl) d_Arrs_copyOf_3 ?_
  refine k_call (A := (fun q : Nat => q = a0 ∨ s.heap.size ≤ q)) (W.runS (As := [.ref a0, .int (nI k), .ref g.2.2.2.2]) (rest := []) ⟨hx, hb, hml, hown, hts⟩ (c_Arrs_copyOf2 l g s.heap a0 n k f o0 hk hk2 he) (va_cwS 3 hts (kS_good kw_178 kw_176 kw_177 kw_10) rfl rfl rfl (by decide +kernel) ⟨Nat.le_of_ble_eq_true rfl, Nat.le_of_ble_eq_true rfl⟩) (k_pre (KK_st g) hKK) rfl rfl hl.1 rfl (lv_room (Nat.le_of_ble_eq_true rfl)) d_Arrs_copyOf_6 ⟨Nat.le_of_ble_eq_true rfl, Nat.le_of_ble_eq_true rfl⟩) (fun _ h => by cases h) (fun q h => h) (fun v H locs hv hL => ?_)
  obtain ⟨q, rfl, h3, h4, h5⟩ := hv
  exact W.aret (v := .ref q) hx hb hr (Or.inr ⟨_, rfl⟩) (Or.inr ⟨_, rfl⟩) (fun t ht hW => ⟨_, rfl, q, rfl, h3, by rw [ht]; exact h4, by rw [ht]; exact h5⟩) hL d_Arrs_copyOf_9
end
section
/-! ArrayList: grow, add, set, remove, clear -/
/-- objects of two classes are two -/
theorem k_obob {g : KGt} {a ci cj : Nat} {fs gs : List Value} {H : Heap} {s : State} {P : Prop} (hK : va_K g.1 kcl (kTy g) s) (h : va_at g.1 kcl (a, .inr (ci, fs)) H) (h2 : va_at g.1 kcl (a, .inr (cj, gs)) H) (hne : (kcl[ci]?.map (·.1)) ≠ (kcl[cj]?.map (·.1))) : P := by
  obtain ⟨r, h1, cell, q1, q2, q3, q4⟩ := h
  obtain ⟨r', h1', cell', q1', q2', q3', q4'⟩ := h2
  obtain ⟨-, hc, -⟩ := hK.1 ci r h1
  obtain ⟨-, hc', -⟩ := hK.1 cj r' h1'
  have e : cell = cell' := Option.some.inj (q1.symm.trans q1')
  subst e
  have e2 : g.1.1 ci = g.1.1 cj := q2.symm.trans q2'
  rw [e2] at hc
  obtain ⟨k1, w1, n1⟩ := Vm.findClass_spec hc
  obtain ⟨k2, w2, n2⟩ := Vm.findClass_spec hc'
  rw [w1] at w2
  have e3 := Option.some.inj w2
  subst e3
  exact absurd (by rw [h1, h1']; exact congrArg some (n1.symm.trans n2)) hne
theorem kObj.ne {g : KGt} {e la : Nat} {fs : List Value} {H : Heap} {s : State} (hK : va_K g.1 kcl (kTy g) s) (h : kObj g e H) (o : va_at g.1 kcl (la, .inr (1, fs)) H) : e ≠ la := by
  obtain ⟨ci, gs, h1, h2⟩ := h
  intro q
  subst q
  refine k_obob hK h1 o ?_
  rcases h2 with rfl | rfl | rfl | rfl | rfl | rfl <;> decide +kernel
theorem k_alne {g : KGt} {la arr cap : Nat} {fs : List Value} {f : Nat → Option Nat} {H : Heap} {s : State} (hK : va_K g.1 kcl (kTy g) s) (o : va_at g.1 kcl (la, .inr (1, fs)) H) (a : va_at g.1 kcl (arr, .inl (g.2.1.1, cap, .inr (.inr (.inr (.inr f))))) H) : la ≠ arr := by
  intro q
  subst q
  exact k_obarr hK o a
theorem kObj.na {g : KGt} {e arr cap : Nat} {f : Nat → Option Nat} {H : Heap} {s : State} (hK : va_K g.1 kcl (kTy g) s) (h : kObj g e H) (a : va_at g.1 kcl (arr, .inl (g.2.1.1, cap, .inr (.inr (.inr (.inr f))))) H) : e ≠ arr := by
  obtain ⟨ci, gs, h1, h2⟩ := h
  intro q
  subst q
  exact k_obarr hK h1 a
set_option maxHeartbeats 4000000 in
set_option maxRecDepth 100000 in
theorem c_AL_grow2 (l : Launch) (g : KGt) (H0 : Heap) (h0 arr cap n : Nat) (el : Nat → Nat) (hB : kB g H0) (o : kALx g h0 arr cap n el H0) (hn : n = cap) (hn2 : n ≤ 60) (he : ∀ i, i < n → kObj g (el i) H0) : Met l y_AL_grow2 (kW y_AL_grow2 b_AL_grow2 4 (.some (.array (.object "java/lang/Object")))) ({ frames := 3, cells := 1, slots := 100, locals := 84 }) (kPc [.ref h0, .int (nI (n + 1))] (KK g) H0) (kQc (fun v H1 => ∃ arr2 cap2 : Nat, v = some (.ref arr2) ∧ H0.size ≤ arr2 ∧ n < cap2 ∧ kE (fun q => q = h0) H0 H1 ∧ kALx g h0 arr2 cap2 n el H1)) 1 100 (fun q : Nat => q = h0 ∨ (q = arr ∧ 0 < cap) ∨ H0.size ≤ q) := by
  refine va_MetF (cc := b_AL_grow2) (maxL := 4) (ret := (.some (.array (.object "java/lang/Object")))) (by decide +kernel) rfl ?_
  intro p e s m args below meth c s₁ B hml hv
  obtain ⟨rfl, hH, hKK⟩ := hv
  have hx := B.exec
  have hb := B.bytes
  have hr := B.returns
  have hts := kW_ts (atoms_spec (ws := kW y_AL_grow2 b_AL_grow2 4 (.some (.array (.object "java/lang/Object")))) B.pre)
  have hown : s.vm.findClass "java/util/ArrayList" = some m.cls := findClass_of_methodNamed B.named
  have hlocks := B.notSynchronized
  have hK := hKK.1
  subst hH
  have hl := lv_entry ([.ref h0, .int (nI (n + 1))]) (n := 4) (Nat.le_of_ble_eq_true rfl)
  rw [lg_entry_eq]
  generalize (lg_sl ([.ref h0, .int (nI (n + 1))]) ++ List.replicate (4 - (lg_sl ([.ref h0, .int (nI (n + 1))])).length) Slot.unset).toArray = ls at hl ⊢
  have hl : lv_has ls 4 [(0, .ref h0), (1, .int (nI (n + 1)))] := hl
  obtain ⟨mo, o0, o1⟩ := o
  rcases o1 with o1 | o1
  · skip
    obtain ⟨rfl, rfl, rfl⟩ := o1
    generalize hAe : (fun q : Nat => q = h0 ∨ (q = g.2.2.2.1 ∧ 0 < 0) ∨ s.heap.size ≤ q) = A
    have hA : ∀ q : Nat, s.heap.size ≤ q → A q := fun q h => by rw [← hAe]; exact Or.inr (Or.inr h)
    have hS : va_S A s.heap s.heap [] := va_S.rf
    have hP : va_P g.1 kcl [(h0, .inr (1, [.ref g.2.2.2.1, .int (nI 0), .int mo]))] s.heap := k_one o0
    have hD : va_D A [(h0, .inr (1, [.ref g.2.2.2.1, .int (nI 0), .int mo]))] := k_D1 (by rw [← hAe]; exact Or.inl rfl)
    refine lv_aload_n hx hb d_AL_grow2_0 rfl (lv_at hl 0 rfl) ?_
    refine va_get (D := g.1) (ci := 1) (v := .ref g.2.2.2.1) (C := "java/util/ArrayList") (T := kT_AL) (N := 3) hx hb hts ki_AL hown hK hP 0 rfl rfl 0 (by decide) (hts _ kw_43) (fun _ h9 => h9) rfl d_AL_grow2_1 ?_
    refine k_alenE hx hb hKK hB d_AL_grow2_4 ?_
    refine lv_istore_n (lv' := [(2, .int (nI 0)), (0, .ref h0), (1, .int (nI (0 + 1)))]) hx hb d_AL_grow2_5 rfl hl (by decide) rfl (fun ls hl => ?_)
    refine lv_iload_n hx hb d_AL_grow2_6 rfl (lv_at hl 0 rfl) ?_
    refine lv_if_gt (tgt := 20) hx hb d_AL_grow2_7 (by decide) (fun c_1 => ?_) (fun c_1 => ?_)
    · exact absurd c_1 (by rw [nI_0]; decide)
    refine lv_aload_n hx hb d_AL_grow2_10 rfl (lv_at hl 1 rfl) ?_
    refine va_get (D := g.1) (ci := 1) (v := .ref g.2.2.2.1) (C := "java/util/ArrayList") (T := kT_AL) (N := 3) hx hb hts ki_AL hown hK hP 0 rfl rfl 0 (by decide) (hts _ kw_43) (fun _ h9 => h9) rfl d_AL_grow2_11 ?_
    refine k_gets hx hb hKK hB hown (hts _ kw_41) d_AL_grow2_14 ?_
    refine lv_acmp_eq (rx := some g.2.2.2.1) (ry := some g.2.2.2.1) (tgt := 45) hx hb d_AL_grow2_17 (by decide) (fun c_2 => ?_) (fun c_2 => absurd rfl c_2)
    refine lv_aload_n hx hb d_AL_grow2_45 rfl (lv_at hl 1 rfl) ?_
    refine lv_bipush (v := 10) hx hb d_AL_grow2_46 (by decide) ?_
    refine lv_iload_n hx hb d_AL_grow2_48 rfl (lv_at hl 2 rfl) ?_
    refine va_mmax (x := 10) (y := (nI (0 + 1))) hx hb (hml.trans hl.1.symm) hown (hts _ kw_188) (hts _ kw_152) (hts _ kw_9) (hts _ kw_153) (Nat.le_of_ble_eq_true rfl) (Nat.le_of_ble_eq_true rfl) (Nat.zero_le _) (Nat.zero_le _) d_AL_grow2_49 ?_
    rw [if_neg (by decide)]
    refine va_newq (D := g.1) (C := "java/lang/Object") (N' := 10) hx hb hown (hts _ kw_189) hKK.2.2.2.1 hK hP hD hS hA (by decide) (by decide) (by omega) (Nat.le_of_ble_eq_true rfl) (by show 0 + _ ≤ 100; omega) d_AL_grow2_52 (fun q cA H hK9 hP hD hS => ?_)
    obtain rfl := k_cA hK hK9
    refine W.widen (k := 1) (n := 100) (by omega) (by omega) ?_
    have hP : va_P g.1 kcl [(h0, .inr (1, [.ref g.2.2.2.1, .int (nI 0), .int mo])), (q, .inl (g.2.1.1, 10, .inr (.inr (.inr (.inr (fun _ => none))))))] H := hP
    have hD : va_D A [(h0, .inr (1, [.ref g.2.2.2.1, .int (nI 0), .int mo])), (q, .inl (g.2.1.1, 10, .inr (.inr (.inr (.inr (fun _ => none))))))] := hD
    have hq : s.heap.size ≤ q := by
      have h9 := hD.2 1 _ rfl
      rw [← hAe] at h9
      rcases h9 with h9 | h9 | h9
      · exact absurd (hD.1 0 1 _ _ rfl rfl h9.symm) (by decide)
      · exact absurd h9.2 (by omega)
      · exact h9
    refine lv_dup_x1 hx hb d_AL_grow2_55 rfl rfl ?_
    refine va_put (D := g.1) (ci := 1) (v := .ref q) (ty := .array (.object "java/lang/Object")) (C := "java/util/ArrayList") (T := kT_AL) (N := 3) hx hb hts ki_AL kt_AL ko_AL kn_AL hown hK hP hD hS 0 rfl rfl 0 (by decide) (hts _ kw_43) (fun _ h9 => h9) rfl (by decide +kernel) rfl rfl (Nat.le_of_ble_eq_true rfl) d_AL_grow2_56 (fun H locs hP hD hS => ?_)
    have hP : va_P g.1 kcl [(h0, .inr (1, [.ref q, .int (nI 0), .int mo])), (q, .inl (g.2.1.1, 10, .inr (.inr (.inr (.inr (fun _ => none))))))] H := hP
    have hD : va_D A [(h0, .inr (1, [.ref q, .int (nI 0), .int mo])), (q, .inl (g.2.1.1, 10, .inr (.inr (.inr (.inr (fun _ => none))))))] := hD
    exact W.aret (v := .ref q) hx hb hr (Or.inr ⟨_, rfl⟩) (Or.inr ⟨_, rfl⟩) (fun t ht hW => ⟨_, rfl, q, 10, rfl, hq, by omega, by rw [ht]; exact (kE.ofS hS).wk (fun q hq h => by rw [← hAe] at h; rcases h with h | h | h; exact h; exact absurd h.2 (by omega); omega), by rw [ht]; exact ⟨mo, k_at0 hP 0 rfl, Or.inr ⟨_, k_at0 hP 1 rfl, by omega, by omega, by omega, (fun i hi => absurd hi (by omega))⟩⟩⟩) hS.2.2 d_AL_grow2_59
  · skip
    obtain ⟨f, a0, h3, h4, h5, h6⟩ := o1
    subst hn
    generalize hAe : (fun q : Nat => q = h0 ∨ (q = arr ∧ 0 < n) ∨ s.heap.size ≤ q) = A
    have hA : ∀ q : Nat, s.heap.size ≤ q → A q := fun q h => by rw [← hAe]; exact Or.inr (Or.inr h)
    have hS : va_S A s.heap s.heap [] := va_S.rf
    have hP : va_P g.1 kcl [(h0, .inr (1, [.ref arr, .int (nI n), .int mo])), (arr, .inl (g.2.1.1, n, .inr (.inr (.inr (.inr f)))))] s.heap := k_two o0 a0
    have hD : va_D A [(h0, .inr (1, [.ref arr, .int (nI n), .int mo])), (arr, .inl (g.2.1.1, n, .inr (.inr (.inr (.inr f)))))] := k_D2 (by rw [← hAe]; exact Or.inl rfl) (by rw [← hAe]; exact Or.inr (Or.inl ⟨rfl, by omega⟩)) (k_alne hK o0 a0)
    refine lv_aload_n hx hb d_AL_grow2_0 rfl (lv_at hl 0 rfl) ?_
    refine va_get (D := g.1) (ci := 1) (v := .ref arr) (C := "java/util/ArrayList") (T := kT_AL) (N := 3) hx hb hts ki_AL hown hK hP 0 rfl rfl 0 (by decide) (hts _ kw_43) (fun _ h9 => h9) rfl d_AL_grow2_1 ?_
    refine va_alen (D := g.1) (v := nI n) (ty := .object "java/lang/Object") hx hb hK hP 1 0 rfl rfl rfl d_AL_grow2_4 ?_
    refine lv_istore_n (lv' := [(2, .int (nI n)), (0, .ref h0), (1, .int (nI (n + 1)))]) hx hb d_AL_grow2_5 rfl hl (by decide) rfl (fun ls hl => ?_)
    refine lv_iload_n hx hb d_AL_grow2_6 rfl (lv_at hl 0 rfl) ?_
    refine lv_if_gt (tgt := 20) hx hb d_AL_grow2_7 (by decide) (fun c_1 => ?_) (fun c_1 => ?_)
    rotate_left
    · exact absurd c_1 (fun q => q (by rw [show (0 : Int32) = nI 0 from nI_0.symm]; exact nI_lt (by omega) (by omega)))
    refine lv_iload_n hx hb d_AL_grow2_20 rfl (lv_at hl 0 rfl) ?_
    refine lv_iload_n hx hb d_AL_grow2_21 rfl (lv_at hl 2 rfl) ?_
    refine lv_iload_n hx hb d_AL_grow2_22 rfl (lv_at hl 0 rfl) ?_
    refine lv_isub hx hb d_AL_grow2_23 ?_
    rw [pk_sub (show n ≤ n + 1 by omega), show n + 1 - n = 1 by omega]
    refine lv_iload_n hx hb d_AL_grow2_24 rfl (lv_at hl 0 rfl) ?_
    refine lv_iconst (v := 1) hx hb d_AL_grow2_25 (by decide) ?_
    refine lv_ishr hx hb d_AL_grow2_26 ?_
    rw [show nI n >>> ((1 : Int32) &&& 31) = nI (n / 2) by have k := pk_shrN (n := n) (by omega) ((1 : Int32) &&& 31) 1 (by decide); rw [Nat.pow_one] at k; exact k]
    refine k_pure (r := .int (nI (n + n / 2))) (W.runS (As := [.int (nI n), .int (nI 1), .int (nI (n / 2))]) (rest := []) ⟨hx, hb, hml, hown, hts⟩ (c_ASup_newLength l g s.heap n (n / 2) (by omega) (by omega)) (va_cwS 3 hts (kS_good kw_150 kw_148 kw_149 kw_8) rfl rfl rfl (by decide +kernel) ⟨Nat.le_of_ble_eq_true rfl, Nat.le_of_ble_eq_true rfl⟩) (k_pre (KK_st g) hKK) rfl rfl hl.1 rfl (lv_room (Nat.le_of_ble_eq_true rfl)) d_AL_grow2_27 ⟨Nat.zero_le _, Nat.zero_le _⟩) ?_
    refine lv_istore_n (lv' := [(3, .int (nI (n + n / 2))), (2, .int (nI n)), (0, .ref h0), (1, .int (nI (n + 1)))]) hx hb d_AL_grow2_30 rfl hl (by decide) rfl (fun ls hl => ?_)
    refine lv_aload_n hx hb d_AL_grow2_31 rfl (lv_at hl 2 rfl) ?_
    refine lv_aload_n hx hb d_AL_grow2_32 rfl (lv_at hl 2 rfl) ?_
    refine va_get (D := g.1) (ci := 1) (v := .ref arr) (C := "java/util/ArrayList") (T := kT_AL) (N := 3) hx hb hts ki_AL hown hK hP 0 rfl rfl 0 (by decide) (hts _ kw_43) (fun _ h9 => h9) rfl d_AL_grow2_33 ?_
    refine lv_iload_n hx hb d_AL_grow2_36 rfl (lv_at hl 0 rfl) ?_
    refine k_call (A := A) (W.runS (As := [.ref arr, .int (nI (n + n / 2))]) (rest := [.ref h0]) ⟨hx, hb, hml, hown, hts⟩ (c_Arrs_copyOf l g s.heap arr n (n + n / 2) f a0 (by omega) (by omega) (fun i hi y hy => by rw [h6 i hi] at hy; cases hy; exact he i hi)) (va_cwS 2 hts (kS_good kw_160 kw_158 kw_159 kw_10) rfl rfl rfl (by decide +kernel) ⟨Nat.le_of_ble_eq_true rfl, Nat.le_of_ble_eq_true rfl⟩) (k_pre (KK_st g) hKK) rfl rfl hl.1 rfl (lv_room (Nat.le_of_ble_eq_true rfl)) d_AL_grow2_37 ⟨Nat.le_of_ble_eq_true rfl, Nat.le_of_ble_eq_true rfl⟩) hS.2.2 (fun q h => by rw [← hAe]; rcases h with h | h; exact Or.inr (Or.inl ⟨h, by omega⟩); exact Or.inr (Or.inr h)) (fun v H locs hv hL => ?_)
    obtain ⟨q, rfl, hq, hE, a1⟩ := hv
    have hP : va_P g.1 kcl [(h0, .inr (1, [.ref arr, .int (nI n), .int mo])), (q, .inl (g.2.1.1, (n + n / 2), .inr (.inr (.inr (.inr (va_cpy f (fun _ => none) 0 0 n)))))), (arr, .inl (g.2.1.1, n, .inr (.inr (.inr (.inr f)))))] H := k_three (hE.at o0 id) a1 (hE.at a0 id)
    have hl0 : h0 < s.heap.size := o0.lt
    have hl1 : arr < s.heap.size := (a0 : va_at _ _ _ _).lt
    have hD : va_D A [(h0, .inr (1, [.ref arr, .int (nI n), .int mo])), (q, .inl (g.2.1.1, (n + n / 2), .inr (.inr (.inr (.inr (va_cpy f (fun _ => none) 0 0 n)))))), (arr, .inl (g.2.1.1, n, .inr (.inr (.inr (.inr f)))))] := k_D3 (by rw [← hAe]; exact Or.inl rfl) (hA _ hq) (by rw [← hAe]; exact Or.inr (Or.inl ⟨rfl, by omega⟩)) (by show h0 ≠ q; omega) (k_alne hK o0 a0) (by show q ≠ arr; omega)
    have hS : va_S A s.heap H locs := (hE.wk (fun q _ h => h.elim)).S hL
    refine lv_dup_x1 hx hb d_AL_grow2_40 rfl rfl ?_
    refine va_put (D := g.1) (ci := 1) (v := .ref q) (ty := .array (.object "java/lang/Object")) (C := "java/util/ArrayList") (T := kT_AL) (N := 3) hx hb hts ki_AL kt_AL ko_AL kn_AL hown hK hP hD hS 0 rfl rfl 0 (by decide) (hts _ kw_43) (fun _ h9 => h9) rfl (by decide +kernel) rfl rfl (Nat.le_of_ble_eq_true rfl) d_AL_grow2_41 (fun H locs hP hD hS => ?_)
    have hP : va_P g.1 kcl [(h0, .inr (1, [.ref q, .int (nI n), .int mo])), (q, .inl (g.2.1.1, (n + n / 2), .inr (.inr (.inr (.inr (va_cpy f (fun _ => none) 0 0 n)))))), (arr, .inl (g.2.1.1, n, .inr (.inr (.inr (.inr f)))))] H := hP
    have hD : va_D A [(h0, .inr (1, [.ref q, .int (nI n), .int mo])), (q, .inl (g.2.1.1, (n + n / 2), .inr (.inr (.inr (.inr (va_cpy f (fun _ => none) 0 0 n)))))), (arr, .inl (g.2.1.1, n, .inr (.inr (.inr (.inr f)))))] := hD
    have hE0 : kE (fun q => q = h0) s.heap H := by
      refine ⟨hS.1, fun z hz hne => ?_⟩
      by_cases e : z = arr
      · subst e
        exact (k_at0 hP 2 rfl : _ = _).trans (a0 : _ = _).symm
      · exact hS.2.1 z hz (fun h => by rw [← hAe] at h; rcases h with h | h | h; exact hne h; exact e h.1; omega)
    exact W.aret (v := .ref q) hx hb hr (Or.inr ⟨_, rfl⟩) (Or.inr ⟨_, rfl⟩) (fun t ht hW => ⟨_, rfl, q, (n + n / 2), rfl, hq, by omega, by rw [ht]; exact hE0, by rw [ht]; exact ⟨mo, k_at0 hP 0 rfl, Or.inr ⟨_, k_at0 hP 1 rfl, by omega, by omega, by omega, (fun i hi => (pk_cpy_in (Nat.zero_le i) (by omega)).trans (by rw [show 0 + (i - 0) = i by omega]; exact h6 i hi))⟩⟩⟩) hS.2.2 d_AL_grow2_44
set_option maxHeartbeats 4000000 in
set_option maxRecDepth 100000 in
theorem c_AL_grow (l : Launch) (g : KGt) (H0 : Heap) (h0 arr cap n : Nat) (el : Nat → Nat) (hB : kB g H0) (o : kALx g h0 arr cap n el H0) (hn : n = cap) (hn2 : n ≤ 60) (he : ∀ i, i < n → kObj g (el i) H0) : Met l y_AL_grow (kW y_AL_grow b_AL_grow 1 (.some (.array (.object "java/lang/Object")))) ({ frames := 4, cells := 1, slots := 100, locals := 107 }) (kPc [.ref h0] (KK g) H0) (kQc (fun v H1 => ∃ arr2 cap2 : Nat, v = some (.ref arr2) ∧ H0.size ≤ arr2 ∧ n < cap2 ∧ kE (fun q => q = h0) H0 H1 ∧ kALx g h0 arr2 cap2 n el H1)) 1 100 (fun q : Nat => q = h0 ∨ (q = arr ∧ 0 < cap) ∨ H0.size ≤ q) := by
  refine va_MetF (cc := b_AL_grow) (maxL := 1) (ret := (.some (.array (.object "java/lang/Object")))) (by decide +kernel) rfl ?_
  intro p e s m args below meth c s₁ B hml hv
  obtain ⟨rfl, hH, hKK⟩ := hv
  have hx := B.exec
  have hb := B.bytes
  have hr := B.returns
  have hts := kW_ts (atoms_spec (ws := kW y_AL_grow b_AL_grow 1 (.some (.array (.object "java/lang/Object")))) B.pre)
  have hown : s.vm.findClass "java/util/ArrayList" = some m.cls := findClass_of_methodNamed B.named
  have hlocks := B.notSynchronized
  have hK := hKK.1
  subst hH
  have hl := lv_entry ([.ref h0]) (n := 1) (Nat.le_of_ble_eq_true rfl)
  rw [lg_entry_eq]
  generalize (lg_sl ([.ref h0]) ++ List.replicate (1 - (lg_sl ([.ref h0])).length) Slot.unset).toArray = ls at hl ⊢
  have hl : lv_has ls 1 [(0, .ref h0)] := hl
  obtain ⟨mo, o0, o1⟩ := id o
  refine lv_aload_n hx hb d_AL_grow_0 rfl (lv_at hl 0 rfl) ?_
  refine lv_aload_n hx hb d_AL_grow_1 rfl (lv_at hl 0 rfl) ?_
  refine va_get (D := g.1) (ci := 1) (v := .int (nI n)) (C := "java/util/ArrayList") (T := kT_AL) (N := 3) hx hb hts ki_AL hown hK (k_one o0) 0 rfl rfl 1 (by decide) (hts _ kw_44) (fun _ h9 => h9) rfl d_AL_grow_2 ?_
  refine lv_iconst (v := 1) hx hb d_AL_grow_5 (by decide) ?_
  refine lv_iadd hx hb d_AL_grow_6 ?_
  rw [nI_1]
  refine k_call (A := (fun q : Nat => q = h0 ∨ (q = arr ∧ 0 < cap) ∨ s.heap.size ≤ q)) (W.runV (As := [.int (nI (n + 1))]) (rest := []) ⟨hx, hb, hml, hown, hts⟩ (c_AL_grow2 l g s.heap h0 arr cap n el hB o hn hn2 he) (cwV 1 hts (kV_good kw_147 kw_144 kw_146 ks_AL_grow2 kw_4) rfl rfl rfl (by decide +kernel) ⟨Nat.le_of_ble_eq_true rfl, Nat.le_of_ble_eq_true rfl⟩) (k_preV (KK_st g) hKK (kAL.recv ⟨_, _, o⟩ hK)) rfl rfl hl.1 rfl (lv_room (Nat.le_of_ble_eq_true rfl)) d_AL_grow_7 ⟨Nat.le_of_ble_eq_true rfl, Nat.le_of_ble_eq_true rfl⟩) (fun _ h => by cases h) (fun q h => h) (fun v H locs hv hL => ?_)
  obtain ⟨q, cap2, rfl, h3⟩ := hv
  exact W.aret (v := .ref q) hx hb hr (Or.inr ⟨_, rfl⟩) (Or.inr ⟨_, rfl⟩) (fun t ht hW => ⟨_, rfl, q, cap2, rfl, by rw [ht]; exact h3⟩) hL d_AL_grow_10
theorem k_up {f : Nat → Option Nat} {el : Nat → Nat} {n e : Nat} (h : ∀ i, i < n → f i = some (el i)) : ∀ i, i < n + 1 → va_up f n (some e) i = some (va_up el n e i) := by
  intro i hi
  by_cases q : i = n
  · subst q
    rw [va_up_self, va_up_self]
  · rw [va_up_ne _ _ q, va_up_ne _ _ q]
    exact h i (by omega)
set_option maxHeartbeats 4000000 in
set_option maxRecDepth 100000 in
theorem c_AL_add2 (l : Launch) (g : KGt) (H0 : Heap) (h0 arr cap n e0 : Nat) (el : Nat → Nat) (hB : kB g H0) (o : kALx g h0 arr cap n el H0) (hn2 : n ≤ 60) (he : ∀ i, i < n → kObj g (el i) H0) (hk : kObj g e0 H0) : Met l y_AL_add2 (kW y_AL_add2 b_AL_add2 4 (.none : Option FieldType)) ({ frames := 5, cells := 1, slots := 100, locals := 127 }) (kPc [.ref h0, .ref e0, .ref arr, .int (nI n)] (KK g) H0) (kQc (fun v H1 => v = none ∧ ∃ arr2 cap2 : Nat, kE (fun q => q = h0 ∨ (q = arr ∧ 0 < cap)) H0 H1 ∧ (arr2 = arr ∧ cap2 = cap ∨ H0.size ≤ arr2) ∧ kALx g h0 arr2 cap2 (n + 1) (va_up el n e0) H1)) 1 100 (fun q : Nat => q = h0 ∨ (q = arr ∧ 0 < cap) ∨ H0.size ≤ q) := by
  refine va_MetF (cc := b_AL_add2) (maxL := 4) (ret := (.none : Option FieldType)) (by decide +kernel) rfl ?_
  intro p e s m args below meth c s₁ B hml hv
  obtain ⟨rfl, hH, hKK⟩ := hv
  have hx := B.exec
  have hb := B.bytes
  have hr := B.returns
  have hts := kW_ts (atoms_spec (ws := kW y_AL_add2 b_AL_add2 4 (.none : Option FieldType)) B.pre)
  have hown : s.vm.findClass "java/util/ArrayList" = some m.cls := findClass_of_methodNamed B.named
  have hlocks := B.notSynchronized
  have hK := hKK.1
  subst hH
  have hl := lv_entry ([.ref h0, .ref e0, .ref arr, .int (nI n)]) (n := 4) (Nat.le_of_ble_eq_true rfl)
  rw [lg_entry_eq]
  generalize (lg_sl ([.ref h0, .ref e0, .ref arr, .int (nI n)]) ++ List.replicate (4 - (lg_sl ([.ref h0, .ref e0, .ref arr, .int (nI n)])).length) Slot.unset).toArray = ls at hl ⊢
  have hl : lv_has ls 4 [(0, .ref h0), (1, .ref e0), (2, .ref arr), (3, .int (nI n))] := hl
  obtain ⟨mo, o0, o1⟩ := id o
  have o1 : (n = 0 ∧ cap = 0 ∧ arr = g.2.2.2.1) ∨ (n = cap ∧ ∃ f : Nat → Option Nat, va_at g.1 kcl (arr, .inl (g.2.1.1, cap, .inr (.inr (.inr (.inr f))))) s.heap ∧ n ≤ cap ∧ 10 ≤ cap ∧ cap ≤ 100 ∧ ∀ i, i < n → f i = some (el i)) ∨ (n < cap ∧ ∃ f : Nat → Option Nat, va_at g.1 kcl (arr, .inl (g.2.1.1, cap, .inr (.inr (.inr (.inr f))))) s.heap ∧ n ≤ cap ∧ 10 ≤ cap ∧ cap ≤ 100 ∧ ∀ i, i < n → f i = some (el i)) := by
    rcases o1 with o1 | ⟨f, h2, h3, h4⟩
    · exact Or.inl o1
    · by_cases hc : n = cap
      · exact Or.inr (Or.inl ⟨hc, f, h2, h3, h4⟩)
      · exact Or.inr (Or.inr ⟨by omega, f, h2, h3, h4⟩)
  rcases o1 with o1 | o1 | o1
  · skip
    obtain ⟨rfl, rfl, rfl⟩ := o1
    generalize hAe : (fun q : Nat => q = h0 ∨ (q = g.2.2.2.1 ∧ 0 < 0) ∨ s.heap.size ≤ q) = A
    have hA : ∀ q : Nat, s.heap.size ≤ q → A q := fun q h => by rw [← hAe]; exact Or.inr (Or.inr h)
    have hS : va_S A s.heap s.heap [] := va_S.rf
    have hP : va_P g.1 kcl [(h0, .inr (1, [.ref g.2.2.2.1, .int (nI 0), .int mo]))] s.heap := k_one o0
    have hD : va_D A [(h0, .inr (1, [.ref g.2.2.2.1, .int (nI 0), .int mo]))] := k_D1 (by rw [← hAe]; exact Or.inl rfl)
    refine lv_iload_n hx hb d_AL_add2_0 rfl (lv_at hl 3 rfl) ?_
    refine lv_aload_n hx hb d_AL_add2_1 rfl (lv_at hl 2 rfl) ?_
    refine k_alenE hx hb hKK hB d_AL_add2_2 ?_
    refine lv_icmp_ne (tgt := 11) hx hb d_AL_add2_3 (by decide) (fun c_1 => ?_) (fun c_1 => ?_)
    · exact absurd c_1 (fun q => q rfl)
    refine lv_aload_n hx hb d_AL_add2_6 rfl (lv_at hl 0 rfl) ?_
    refine k_call (A := A) (W.runV (As := []) (rest := []) ⟨hx, hb, hml, hown, hts⟩ (c_AL_grow l g s.heap h0 g.2.2.2.1 0 0 el hB o rfl hn2 he) (cwV 0 hts (kV_good kw_143 kw_140 kw_142 ks_AL_grow kw_4) rfl rfl rfl (by decide +kernel) ⟨Nat.le_of_ble_eq_true rfl, Nat.le_of_ble_eq_true rfl⟩) (k_preV (KK_st g) hKK (kAL.recv ⟨_, _, o⟩ hK)) rfl rfl hl.1 rfl (lv_room (Nat.le_of_ble_eq_true rfl)) d_AL_add2_7 ⟨Nat.le_of_ble_eq_true rfl, Nat.le_of_ble_eq_true rfl⟩) hS.2.2 (fun q h => by rw [← hAe]; exact h) (fun v H locs hv hL => ?_)
    obtain ⟨q, cap2, rfl, hq, hc2, hE, mo2, o2, o3⟩ := hv
    rcases o3 with o3 | ⟨f2, a2, k3, k4, k5, k6⟩
    · exact absurd o3.2.1 (by omega)
    have hl0 : h0 < s.heap.size := o0.lt
    have hP : va_P g.1 kcl [(h0, .inr (1, [.ref q, .int (nI 0), .int mo2])), (q, .inl (g.2.1.1, cap2, .inr (.inr (.inr (.inr f2)))))] H := k_two o2 a2
    have hD : va_D A [(h0, .inr (1, [.ref q, .int (nI 0), .int mo2])), (q, .inl (g.2.1.1, cap2, .inr (.inr (.inr (.inr f2)))))] := k_D2 (by rw [← hAe]; exact Or.inl rfl) (hA _ hq) (by show h0 ≠ q; omega)
    have hS : va_S A s.heap H locs := (hE.wk (fun q _ h => by rw [← hAe]; exact Or.inl h)).S hL
    have hany : va_Any "java/lang/Object" s H e0 := (hk.kept (hE.2 e0 hk.lt (hk.ne hK o0))).any hKK
    refine lv_astore_n (lv' := [(2, .ref q), (0, .ref h0), (1, .ref e0), (3, .int (nI 0))]) hx hb d_AL_add2_10 rfl hl (by decide) rfl (fun ls hl => ?_)
    refine lv_aload_n hx hb d_AL_add2_11 rfl (lv_at hl 0 rfl) ?_
    refine lv_iload_n hx hb d_AL_add2_12 rfl (lv_at hl 3 rfl) ?_
    refine lv_aload_n hx hb d_AL_add2_13 rfl (lv_at hl 2 rfl) ?_
    refine va_astqM (D := g.1) (E := "java/lang/Object") hx hb hK hP hD hS 1 0 rfl rfl hany (vp_in_nI (show 0 < cap2 by omega) (by omega)) d_AL_add2_14 (fun H locs hP hD hS => ?_)
    rw [nI_clamp (show 0 < 2 ^ 31 by omega)] at hP hD
    have hP : va_P g.1 kcl [(h0, .inr (1, [.ref q, .int (nI 0), .int mo2])), (q, .inl (g.2.1.1, cap2, .inr (.inr (.inr (.inr (va_up f2 0 (some e0)))))))] H := hP
    have hD : va_D A [(h0, .inr (1, [.ref q, .int (nI 0), .int mo2])), (q, .inl (g.2.1.1, cap2, .inr (.inr (.inr (.inr (va_up f2 0 (some e0)))))))] := hD
    refine lv_aload_n hx hb d_AL_add2_15 rfl (lv_at hl 1 rfl) ?_
    refine lv_iload_n hx hb d_AL_add2_16 rfl (lv_at hl 3 rfl) ?_
    refine lv_iconst (v := 1) hx hb d_AL_add2_17 (by decide) ?_
    refine lv_iadd hx hb d_AL_add2_18 ?_
    rw [nI_1]
    refine va_put (D := g.1) (ci := 1) (v := .int (nI (0 + 1))) (ty := .int) (C := "java/util/ArrayList") (T := kT_AL) (N := 3) hx hb hts ki_AL kt_AL ko_AL kn_AL hown hK hP hD hS 0 rfl rfl 1 (by decide) (hts _ kw_44) (fun _ h9 => h9) rfl (by decide +kernel) rfl rfl (Nat.le_of_ble_eq_true rfl) d_AL_add2_19 (fun H locs hP hD hS => ?_)
    have hP : va_P g.1 kcl [(h0, .inr (1, [.ref q, .int (nI (0 + 1)), .int mo2])), (q, .inl (g.2.1.1, cap2, .inr (.inr (.inr (.inr (va_up f2 0 (some e0)))))))] H := hP
    have hD : va_D A [(h0, .inr (1, [.ref q, .int (nI (0 + 1)), .int mo2])), (q, .inl (g.2.1.1, cap2, .inr (.inr (.inr (.inr (va_up f2 0 (some e0)))))))] := hD
    have hE1 : kE (fun q => q = h0 ∨ (q = g.2.2.2.1 ∧ 0 < 0)) s.heap H := (kE.ofS hS).wk (fun q hq h => by rw [← hAe] at h; rcases h with h | h | h; exact Or.inl h; exact Or.inr h; omega)
    have hup : ∀ i, i < 0 + 1 → va_up f2 0 (some e0) i = some (va_up el 0 e0 i) := k_up k6
    refine W.widen (k := 1) (n := 100) (by omega) (by omega) ?_
    exact W.vret hx hb hr (fun t ht hW => ⟨_, rfl, rfl, q, cap2, by rw [ht]; exact hE1, Or.inr hq, by rw [ht]; exact ⟨_, k_at0 hP 0 rfl, Or.inr ⟨_, k_at0 hP 1 rfl, by omega, by omega, by omega, hup⟩⟩⟩) hS.2.2 d_AL_add2_22
  · skip
    obtain ⟨hcap, f, a0, h3, h4, h5, h6⟩ := o1
    subst hcap
    generalize hAe : (fun q : Nat => q = h0 ∨ (q = arr ∧ 0 < n) ∨ s.heap.size ≤ q) = A
    have hA : ∀ q : Nat, s.heap.size ≤ q → A q := fun q h => by rw [← hAe]; exact Or.inr (Or.inr h)
    have hS : va_S A s.heap s.heap [] := va_S.rf
    have hP : va_P g.1 kcl [(h0, .inr (1, [.ref arr, .int (nI n), .int mo])), (arr, .inl (g.2.1.1, n, .inr (.inr (.inr (.inr f)))))] s.heap := k_two o0 a0
    have hD : va_D A [(h0, .inr (1, [.ref arr, .int (nI n), .int mo])), (arr, .inl (g.2.1.1, n, .inr (.inr (.inr (.inr f)))))] := k_D2 (by rw [← hAe]; exact Or.inl rfl) (by rw [← hAe]; exact Or.inr (Or.inl ⟨rfl, by omega⟩)) (k_alne hK o0 a0)
    refine lv_iload_n hx hb d_AL_add2_0 rfl (lv_at hl 3 rfl) ?_
    refine lv_aload_n hx hb d_AL_add2_1 rfl (lv_at hl 2 rfl) ?_
    refine va_alen (D := g.1) (v := nI n) (ty := .object "java/lang/Object") hx hb hK hP 1 0 rfl rfl rfl d_AL_add2_2 ?_
    refine lv_icmp_ne (tgt := 11) hx hb d_AL_add2_3 (by decide) (fun c_1 => ?_) (fun c_1 => ?_)
    · exact absurd c_1 (fun q => q rfl)
    refine lv_aload_n hx hb d_AL_add2_6 rfl (lv_at hl 0 rfl) ?_
    refine k_call (A := A) (W.runV (As := []) (rest := []) ⟨hx, hb, hml, hown, hts⟩ (c_AL_grow l g s.heap h0 arr n n el hB o rfl hn2 he) (cwV 0 hts (kV_good kw_143 kw_140 kw_142 ks_AL_grow kw_4) rfl rfl rfl (by decide +kernel) ⟨Nat.le_of_ble_eq_true rfl, Nat.le_of_ble_eq_true rfl⟩) (k_preV (KK_st g) hKK (kAL.recv ⟨_, _, o⟩ hK)) rfl rfl hl.1 rfl (lv_room (Nat.le_of_ble_eq_true rfl)) d_AL_add2_7 ⟨Nat.le_of_ble_eq_true rfl, Nat.le_of_ble_eq_true rfl⟩) hS.2.2 (fun q h => by rw [← hAe]; exact h) (fun v H locs hv hL => ?_)
    obtain ⟨q, cap2, rfl, hq, hc2, hE, mo2, o2, o3⟩ := hv
    rcases o3 with o3 | ⟨f2, a2, k3, k4, k5, k6⟩
    · exact absurd o3.2.1 (by omega)
    have hl0 : h0 < s.heap.size := o0.lt
    have hP : va_P g.1 kcl [(h0, .inr (1, [.ref q, .int (nI n), .int mo2])), (q, .inl (g.2.1.1, cap2, .inr (.inr (.inr (.inr f2)))))] H := k_two o2 a2
    have hD : va_D A [(h0, .inr (1, [.ref q, .int (nI n), .int mo2])), (q, .inl (g.2.1.1, cap2, .inr (.inr (.inr (.inr f2)))))] := k_D2 (by rw [← hAe]; exact Or.inl rfl) (hA _ hq) (by show h0 ≠ q; omega)
    have hS : va_S A s.heap H locs := (hE.wk (fun q _ h => by rw [← hAe]; exact Or.inl h)).S hL
    have hany : va_Any "java/lang/Object" s H e0 := (hk.kept (hE.2 e0 hk.lt (hk.ne hK o0))).any hKK
    refine lv_astore_n (lv' := [(2, .ref q), (0, .ref h0), (1, .ref e0), (3, .int (nI n))]) hx hb d_AL_add2_10 rfl hl (by decide) rfl (fun ls hl => ?_)
    refine lv_aload_n hx hb d_AL_add2_11 rfl (lv_at hl 0 rfl) ?_
    refine lv_iload_n hx hb d_AL_add2_12 rfl (lv_at hl 3 rfl) ?_
    refine lv_aload_n hx hb d_AL_add2_13 rfl (lv_at hl 2 rfl) ?_
    refine va_astqM (D := g.1) (E := "java/lang/Object") hx hb hK hP hD hS 1 0 rfl rfl hany (vp_in_nI (show n < cap2 by omega) (by omega)) d_AL_add2_14 (fun H locs hP hD hS => ?_)
    rw [nI_clamp (show n < 2 ^ 31 by omega)] at hP hD
    have hP : va_P g.1 kcl [(h0, .inr (1, [.ref q, .int (nI n), .int mo2])), (q, .inl (g.2.1.1, cap2, .inr (.inr (.inr (.inr (va_up f2 n (some e0)))))))] H := hP
    have hD : va_D A [(h0, .inr (1, [.ref q, .int (nI n), .int mo2])), (q, .inl (g.2.1.1, cap2, .inr (.inr (.inr (.inr (va_up f2 n (some e0)))))))] := hD
    refine lv_aload_n hx hb d_AL_add2_15 rfl (lv_at hl 1 rfl) ?_
    refine lv_iload_n hx hb d_AL_add2_16 rfl (lv_at hl 3 rfl) ?_
    refine lv_iconst (v := 1) hx hb d_AL_add2_17 (by decide) ?_
    refine lv_iadd hx hb d_AL_add2_18 ?_
    rw [nI_1]
    refine va_put (D := g.1) (ci := 1) (v := .int (nI (n + 1))) (ty := .int) (C := "java/util/ArrayList") (T := kT_AL) (N := 3) hx hb hts ki_AL kt_AL ko_AL kn_AL hown hK hP hD hS 0 rfl rfl 1 (by decide) (hts _ kw_44) (fun _ h9 => h9) rfl (by decide +kernel) rfl rfl (Nat.le_of_ble_eq_true rfl) d_AL_add2_19 (fun H locs hP hD hS => ?_)
    have hP : va_P g.1 kcl [(h0, .inr (1, [.ref q, .int (nI (n + 1)), .int mo2])), (q, .inl (g.2.1.1, cap2, .inr (.inr (.inr (.inr (va_up f2 n (some e0)))))))] H := hP
    have hD : va_D A [(h0, .inr (1, [.ref q, .int (nI (n + 1)), .int mo2])), (q, .inl (g.2.1.1, cap2, .inr (.inr (.inr (.inr (va_up f2 n (some e0)))))))] := hD
    have hE1 : kE (fun q => q = h0 ∨ (q = arr ∧ 0 < n)) s.heap H := (kE.ofS hS).wk (fun q hq h => by rw [← hAe] at h; rcases h with h | h | h; exact Or.inl h; exact Or.inr h; omega)
    have hup : ∀ i, i < n + 1 → va_up f2 n (some e0) i = some (va_up el n e0 i) := k_up k6
    refine W.widen (k := 1) (n := 100) (by omega) (by omega) ?_
    exact W.vret hx hb hr (fun t ht hW => ⟨_, rfl, rfl, q, cap2, by rw [ht]; exact hE1, Or.inr hq, by rw [ht]; exact ⟨_, k_at0 hP 0 rfl, Or.inr ⟨_, k_at0 hP 1 rfl, by omega, by omega, by omega, hup⟩⟩⟩) hS.2.2 d_AL_add2_22
  · skip
    obtain ⟨hcap, f, a0, h3, h4, h5, h6⟩ := o1
    generalize hAe : (fun q : Nat => q = h0 ∨ (q = arr ∧ 0 < cap) ∨ s.heap.size ≤ q) = A
    have hA : ∀ q : Nat, s.heap.size ≤ q → A q := fun q h => by rw [← hAe]; exact Or.inr (Or.inr h)
    have hS : va_S A s.heap s.heap [] := va_S.rf
    have hP : va_P g.1 kcl [(h0, .inr (1, [.ref arr, .int (nI n), .int mo])), (arr, .inl (g.2.1.1, cap, .inr (.inr (.inr (.inr f)))))] s.heap := k_two o0 a0
    have hD : va_D A [(h0, .inr (1, [.ref arr, .int (nI n), .int mo])), (arr, .inl (g.2.1.1, cap, .inr (.inr (.inr (.inr f)))))] := k_D2 (by rw [← hAe]; exact Or.inl rfl) (by rw [← hAe]; exact Or.inr (Or.inl ⟨rfl, by omega⟩)) (k_alne hK o0 a0)
    have hany : va_Any "java/lang/Object" s s.heap e0 := hk.any hKK
    refine lv_iload_n hx hb d_AL_add2_0 rfl (lv_at hl 3 rfl) ?_
    refine lv_aload_n hx hb d_AL_add2_1 rfl (lv_at hl 2 rfl) ?_
    refine va_alen (D := g.1) (v := nI cap) (ty := .object "java/lang/Object") hx hb hK hP 1 0 rfl rfl rfl d_AL_add2_2 ?_
    refine lv_icmp_ne (tgt := 11) hx hb d_AL_add2_3 (by decide) (fun c_1 => ?_) (fun c_1 => ?_)
    rotate_left
    · exact absurd c_1 (fun z => absurd ((nI_eq (by omega) (by omega)).mp z) (by omega))
    refine lv_aload_n hx hb d_AL_add2_11 rfl (lv_at hl 2 rfl) ?_
    refine lv_iload_n hx hb d_AL_add2_12 rfl (lv_at hl 3 rfl) ?_
    refine lv_aload_n hx hb d_AL_add2_13 rfl (lv_at hl 1 rfl) ?_
    refine va_astqM (D := g.1) (E := "java/lang/Object") hx hb hK hP hD hS 1 0 rfl rfl hany (vp_in_nI (show n < cap by omega) (by omega)) d_AL_add2_14 (fun H locs hP hD hS => ?_)
    rw [nI_clamp (show n < 2 ^ 31 by omega)] at hP hD
    have hP : va_P g.1 kcl [(h0, .inr (1, [.ref arr, .int (nI n), .int mo])), (arr, .inl (g.2.1.1, cap, .inr (.inr (.inr (.inr (va_up f n (some e0)))))))] H := hP
    have hD : va_D A [(h0, .inr (1, [.ref arr, .int (nI n), .int mo])), (arr, .inl (g.2.1.1, cap, .inr (.inr (.inr (.inr (va_up f n (some e0)))))))] := hD
    refine lv_aload_n hx hb d_AL_add2_15 rfl (lv_at hl 0 rfl) ?_
    refine lv_iload_n hx hb d_AL_add2_16 rfl (lv_at hl 3 rfl) ?_
    refine lv_iconst (v := 1) hx hb d_AL_add2_17 (by decide) ?_
    refine lv_iadd hx hb d_AL_add2_18 ?_
    rw [nI_1]
    refine va_put (D := g.1) (ci := 1) (v := .int (nI (n + 1))) (ty := .int) (C := "java/util/ArrayList") (T := kT_AL) (N := 3) hx hb hts ki_AL kt_AL ko_AL kn_AL hown hK hP hD hS 0 rfl rfl 1 (by decide) (hts _ kw_44) (fun _ h9 => h9) rfl (by decide +kernel) rfl rfl (Nat.le_of_ble_eq_true rfl) d_AL_add2_19 (fun H locs hP hD hS => ?_)
    have hP : va_P g.1 kcl [(h0, .inr (1, [.ref arr, .int (nI (n + 1)), .int mo])), (arr, .inl (g.2.1.1, cap, .inr (.inr (.inr (.inr (va_up f n (some e0)))))))] H := hP
    have hD : va_D A [(h0, .inr (1, [.ref arr, .int (nI (n + 1)), .int mo])), (arr, .inl (g.2.1.1, cap, .inr (.inr (.inr (.inr (va_up f n (some e0)))))))] := hD
    have hE1 : kE (fun q => q = h0 ∨ (q = arr ∧ 0 < cap)) s.heap H := (kE.ofS hS).wk (fun q hq h => by rw [← hAe] at h; rcases h with h | h | h; exact Or.inl h; exact Or.inr h; omega)
    have hup : ∀ i, i < n + 1 → va_up f n (some e0) i = some (va_up el n e0 i) := k_up h6
    refine W.widen (k := 1) (n := 100) (by omega) (by omega) ?_
    exact W.vret hx hb hr (fun t ht hW => ⟨_, rfl, rfl, arr, cap, by rw [ht]; exact hE1, Or.inl ⟨rfl, rfl⟩, by rw [ht]; exact ⟨_, k_at0 hP 0 rfl, Or.inr ⟨_, k_at0 hP 1 rfl, by omega, by omega, by omega, hup⟩⟩⟩) hS.2.2 d_AL_add2_22
/-- a list whose count of changes alone changes -/
theorem kALx.mod {g : KGt} {la arr cap n : Nat} {el : Nat → Nat} {H H1 : Heap} {s : State} {fs : List Value} {mo : Int32} (h : kALx g la arr cap n el H) (hK : va_K g.1 kcl (kTy g) s) (o : va_at g.1 kcl (la, .inr (1, fs)) H) (hE : kE (fun q => q = la) H H1) (o2 : va_at g.1 kcl (la, .inr (1, [.ref arr, .int (nI n), .int mo])) H1) : kALx g la arr cap n el H1 := by
  obtain ⟨mo1, h1, h2 | ⟨f, h2, h3⟩⟩ := h
  · exact ⟨mo, o2, Or.inl h2⟩
  · exact ⟨mo, o2, Or.inr ⟨f, hE.at h2 (k_alne hK o h2).symm, h3⟩⟩
section KP1
variable {p : Program} {l : Launch} {e : Env} {R : Room} {s : State} {m : MethodId} {args : Array Value} {below : List Frame} {meth : Method} {c : Code} {H : Heap} {locs : List Loc} {cells slots : Nat} {Q : State → Prop}
variable {cc : ByteArray} {pc : Nat} {ls : Array Slot} {rest : List Value} {g : KGt} {A : Nat → Prop}
/-- modCount is written: all other cells stay -/
theorem k_put1 (hexec : p.tables.exec = Jvm.exec) (hb : c.code = cc) {own ref : String} {index a : Nat} {v0 v1 : Value} {mo x : Int32} (hts : ∀ w ∈ kG, w.before args s = true) (hown : s.vm.findClass own = some m.cls) (hK : va_K g.1 kcl (kTy g) s) (ho : va_at g.1 kcl (a, .inr (1, [v0, v1, .int mo])) H) (hL : ∀ q ∈ locs, A q.base) (ha : A a)
    (hlink : (Cond.fieldLink own index ref "modCount" "I").before args s = true) (hsame : ∀ x, s.fieldFound? "java/util/AbstractList" "modCount" "I" = some x → s.fieldFound? ref "modCount" "I" = some x) (hdg : decode cc pc = .ok (.putfield index, 3))
    (kk : ∀ (H1 : Heap) (locs1 : List Loc), va_at g.1 kcl (a, .inr (1, [v0, v1, .int x])) H1 → H1.size = H.size → (∀ q : Nat, q ≠ a → H1[q]? = H[q]?) → (∀ q ∈ locs1, A q.base) → W p l e R s m args below meth c H1 locs1 cells slots Q (F0 m (pc + 3) ls rest)) : W p l e R s m args below meth c H locs cells slots Q (F0 m pc ls (.int x :: .ref a :: rest)) := by
  have hap := va_apart (own := own) hts ki_AL kt_AL ko_AL kn_AL hK (ci := 1) rfl
  obtain ⟨r, h1, cell, q1, q2, q3, q4⟩ := ho
  cases h1
  obtain ⟨hSl, hfc, kC, hkC, hkind⟩ := hK.1 1 _ rfl
  obtain ⟨cf, kf, fi, f, hi, hsl⟩ := hSl 2 (by decide)
  have hlay := hts _ (ki_AL _ (u_in_lay (k := 2) (by decide)))
  have hst := (u_facts hfc hkC (u_lays hts ki_AL (k := 2) (by decide)) hi).1
  have h6 := u_store (v := .int x) hfc hkC hkind hlay hi (show parseFieldDescriptor "I" = some .int by decide +kernel) rfl rfl
  refine W.putK hexec hb (f := f) ⟨hown, hlink, ⟨_, _, _, hsame _ hi⟩, hst⟩ (by rw [q2]; exact h6) q1 q3 (by rw [hsl]; exact k2_hasslot (q4 2 (by decide))) rfl rfl hdg fun H1 e1 e2 e3 => ?_
  rw [hsl] at e1
  refine kk H1 _ ⟨_, rfl, t_OB.to (V := updV (vp_V [v0, v1, .int mo]) 2 (.int x)) ⟨_, e1, q2, q3, t_set q4 hap (by decide) (.int x)⟩ (fun j _ => vp_updV_set (fs := [v0, v1, .int mo]) (k := 2) (Nat.le_of_ble_eq_true rfl) (.int x) j)⟩ e2 e3 (t_lc hL ha)
end KP1
set_option maxHeartbeats 4000000 in
set_option maxRecDepth 100000 in
theorem c_AL_add (l : Launch) (g : KGt) (H0 : Heap) (h0 arr cap n e0 : Nat) (el : Nat → Nat) (hB : kB g H0) (o : kALx g h0 arr cap n el H0) (hg : g.2.2.1.size ≤ h0) (hn2 : n ≤ 60) (he : ∀ i, i < n → kObj g (el i) H0) (hk : kObj g e0 H0) : Met l y_AL_add (kW y_AL_add b_AL_add 2 (.some .boolean)) ({ frames := 6, cells := 1, slots := 100, locals := 150 }) (kPc [.ref h0, .ref e0] (KK g) H0) (kQc (fun v H1 => v = some (.int 1) ∧ ∃ arr2 cap2 : Nat, kE (fun q => q = h0 ∨ (q = arr ∧ 0 < cap)) H0 H1 ∧ (arr2 = arr ∧ cap2 = cap ∨ H0.size ≤ arr2) ∧ kALx g h0 arr2 cap2 (n + 1) (va_up el n e0) H1)) 1 100 (fun q : Nat => q = h0 ∨ (q = arr ∧ 0 < cap) ∨ H0.size ≤ q) := by
  refine va_MetF (cc := b_AL_add) (maxL := 2) (ret := (.some .boolean)) (by decide +kernel) rfl ?_
  intro p e s m args below meth c s₁ B hml hv
  obtain ⟨rfl, hH, hKK⟩ := hv
  have hx := B.exec
  have hb := B.bytes
  have hr := B.returns
  have hts := kW_ts (atoms_spec (ws := kW y_AL_add b_AL_add 2 (.some .boolean)) B.pre)
  have hown : s.vm.findClass "java/util/ArrayList" = some m.cls := findClass_of_methodNamed B.named
  have hlocks := B.notSynchronized
  have hK := hKK.1
  subst hH
  have hl := lv_entry ([.ref h0, .ref e0]) (n := 2) (Nat.le_of_ble_eq_true rfl)
  rw [lg_entry_eq]
  generalize (lg_sl ([.ref h0, .ref e0]) ++ List.replicate (2 - (lg_sl ([.ref h0, .ref e0])).length) Slot.unset).toArray = ls at hl ⊢
  have hl : lv_has ls 2 [(0, .ref h0), (1, .ref e0)] := hl
  obtain ⟨mo, o0, o1⟩ := id o
  generalize hAe : (fun q : Nat => q = h0 ∨ (q = arr ∧ 0 < cap) ∨ s.heap.size ≤ q) = A
  have hA : ∀ q : Nat, s.heap.size ≤ q → A q := fun q h => by rw [← hAe]; exact Or.inr (Or.inr h)
  have hS : va_S A s.heap s.heap [] := va_S.rf
  have hP : va_P g.1 kcl [(h0, .inr (1, [.ref arr, .int (nI n), .int mo]))] s.heap := k_one o0
  have hD : va_D A [(h0, .inr (1, [.ref arr, .int (nI n), .int mo]))] := k_D1 (by rw [← hAe]; exact Or.inl rfl)
  refine lv_aload_n hx hb d_AL_add_0 rfl (lv_at hl 0 rfl) ?_
  refine lv_dup hx hb d_AL_add_1 rfl ?_
  refine va_get (D := g.1) (ci := 1) (v := .int mo) (C := "java/util/ArrayList") (T := kT_AL) (N := 3) hx hb hts ki_AL hown hK hP 0 rfl rfl 2 (by decide) (hts _ kw_46) (u_same (hts _ kw_47)) rfl d_AL_add_2 ?_
  refine lv_iconst (v := 1) hx hb d_AL_add_5 (by decide) ?_
  refine lv_iadd hx hb d_AL_add_6 ?_
  refine k_put1 (g := g) (A := A) hx hb hts hown hK o0 (fun _ h => by cases h) (by rw [← hAe]; exact Or.inl rfl) (hts _ kw_46) (u_same (hts _ kw_47)) d_AL_add_7 (fun H locs o2 hz hE hL => ?_)
  have hE1 : kE (fun q => q = h0) s.heap H := ⟨by omega, fun q _ hq => hE q hq⟩
  have hP : va_P g.1 kcl [(h0, .inr (1, [.ref arr, .int (nI n), .int (mo + 1)]))] H := k_one o2
  have hS : va_S A s.heap H locs := (hE1.wk (fun q _ h => by rw [← hAe]; exact Or.inl h)).S hL
  have o9 : kALx g h0 arr cap n el H := o.mod hK o0 hE1 o2
  refine lv_aload_n hx hb d_AL_add_10 rfl (lv_at hl 0 rfl) ?_
  refine lv_aload_n hx hb d_AL_add_11 rfl (lv_at hl 1 rfl) ?_
  refine lv_aload_n hx hb d_AL_add_12 rfl (lv_at hl 0 rfl) ?_
  refine va_get (D := g.1) (ci := 1) (v := .ref arr) (C := "java/util/ArrayList") (T := kT_AL) (N := 3) hx hb hts ki_AL hown hK hP 0 rfl rfl 0 (by decide) (hts _ kw_43) (fun _ h9 => h9) rfl d_AL_add_13 ?_
  refine lv_aload_n hx hb d_AL_add_16 rfl (lv_at hl 0 rfl) ?_
  refine va_get (D := g.1) (ci := 1) (v := .int (nI n)) (C := "java/util/ArrayList") (T := kT_AL) (N := 3) hx hb hts ki_AL hown hK hP 0 rfl rfl 1 (by decide) (hts _ kw_44) (fun _ h9 => h9) rfl d_AL_add_17 ?_
  refine k_call (A := A) (W.runV (As := [.ref e0, .ref arr, .int (nI n)]) (rest := []) ⟨hx, hb, hml, hown, hts⟩ (c_AL_add2 l g H h0 arr cap n e0 el (hB.tr hE1 (fun q hq h => by omega)) o9 hn2 (fun i hi => (he i hi).kept (hE1.2 _ (he i hi).lt ((he i hi).ne hK o0))) (hk.kept (hE1.2 _ hk.lt (hk.ne hK o0)))) (cwV 3 hts (kV_good kw_139 kw_136 kw_138 ks_AL_add2 kw_4) rfl rfl rfl (by decide +kernel) ⟨Nat.le_of_ble_eq_true rfl, Nat.le_of_ble_eq_true rfl⟩) (k_preV (KK_st g) hKK (va_recv hK hP (ci := 1) (q0 := 0) rfl rfl)) rfl rfl hl.1 rfl (lv_room (Nat.le_of_ble_eq_true rfl)) d_AL_add_20 ⟨Nat.le_of_ble_eq_true rfl, Nat.le_of_ble_eq_true rfl⟩) hS.2.2 (fun q h => by rw [← hAe]; rcases h with h | h | h; exact Or.inl h; exact Or.inr (Or.inl h); exact Or.inr (Or.inr (Nat.le_trans hS.1 h))) (fun v H2 locs hv hL => ?_)
  obtain ⟨rfl, arr2, cap2, hE2, h4, h5⟩ := hv
  refine lv_iconst (v := 1) hx hb d_AL_add_23 (by decide) ?_
  exact W.zret (v := 1) (ty := .boolean) hx hb hr rfl (fun t ht hW => ⟨_, rfl, rfl, arr2, cap2, by rw [ht]; exact (hE1.wk (fun q _ h => Or.inl h)).tr hE2 (fun q _ h => h), (by rcases h4 with h4 | h4; exact Or.inl h4; exact Or.inr (Nat.le_trans hE1.1 h4)), by rw [ht]; exact h5⟩) hL d_AL_add_24
theorem k_up2 {f : Nat → Option Nat} {el : Nat → Nat} {n e i : Nat} (h : ∀ i, i < n → f i = some (el i)) : ∀ j, j < n → va_up f i (some e) j = some (va_up el i e j) := by
  intro j hj
  by_cases q : j = i
  · subst q
    rw [va_up_self, va_up_self]
  · rw [va_up_ne _ _ q, va_up_ne _ _ q]
    exact h j hj
theorem k_up3 {f : Nat → Option Nat} {el : Nat → Nat} {n : Nat} (h : ∀ i, i < n + 1 → f i = some (el i)) : ∀ j, j < n → va_up f n none j = some (el j) := by
  intro j hj
  rw [va_up_ne _ _ (by omega)]
  exact h j (by omega)
set_option maxHeartbeats 4000000 in
set_option maxRecDepth 100000 in
theorem c_AL_set (l : Launch) (g : KGt) (H0 : Heap) (h0 arr cap n i e0 : Nat) (el : Nat → Nat) (o : kALx g h0 arr cap n el H0) (hi : i < n) (hk : kObj g e0 H0) : Met l y_AL_set (kW y_AL_set b_AL_set 4 (.some (.object "java/lang/Object"))) ({ frames := 2, cells := 0, slots := 0, locals := 43 }) (kPc [.ref h0, .int (nI i), .ref e0] (KK g) H0) (kQc (fun v H1 => v = some (.ref (el i)) ∧ kE (fun q => q = arr ∧ 0 < cap) H0 H1 ∧ kALx g h0 arr cap n (va_up el i e0) H1)) 0 0 (fun q : Nat => (q = arr ∧ 0 < cap) ∨ H0.size ≤ q) := by
  refine va_MetF (cc := b_AL_set) (maxL := 4) (ret := (.some (.object "java/lang/Object"))) (by decide +kernel) rfl ?_
  intro p e s m args below meth c s₁ B hml hv
  obtain ⟨rfl, hH, hKK⟩ := hv
  have hx := B.exec
  have hb := B.bytes
  have hr := B.returns
  have hts := kW_ts (atoms_spec (ws := kW y_AL_set b_AL_set 4 (.some (.object "java/lang/Object"))) B.pre)
  have hown : s.vm.findClass "java/util/ArrayList" = some m.cls := findClass_of_methodNamed B.named
  have hlocks := B.notSynchronized
  have hK := hKK.1
  subst hH
  have hl := lv_entry ([.ref h0, .int (nI i), .ref e0]) (n := 4) (Nat.le_of_ble_eq_true rfl)
  rw [lg_entry_eq]
  generalize (lg_sl ([.ref h0, .int (nI i), .ref e0]) ++ List.replicate (4 - (lg_sl ([.ref h0, .int (nI i), .ref e0])).length) Slot.unset).toArray = ls at hl ⊢
  have hl : lv_has ls 4 [(0, .ref h0), (1, .int (nI i)), (2, .ref e0)] := hl
  obtain ⟨mo, f, o0, a0, h1, h2, h3⟩ := id (o.pos hi)
  have h10 : 10 ≤ cap := by
    obtain ⟨mo1, h1, h2 | ⟨f, h2, h3, h4, h5⟩⟩ := id o <;> omega
  generalize hAe : (fun q : Nat => (q = arr ∧ 0 < cap) ∨ s.heap.size ≤ q) = A
  have hA : ∀ q : Nat, s.heap.size ≤ q → A q := fun q h => by rw [← hAe]; exact Or.inr h
  have hS : va_S A s.heap s.heap [] := va_S.rf
  have hP : va_P g.1 kcl [(arr, .inl (g.2.1.1, cap, .inr (.inr (.inr (.inr f)))))] s.heap := k_one a0
  have hD : va_D A [(arr, .inl (g.2.1.1, cap, .inr (.inr (.inr (.inr f)))))] := k_D1 (by rw [← hAe]; exact Or.inl ⟨rfl, by omega⟩)
  have hany : va_Any "java/lang/Object" s s.heap e0 := hk.any hKK
  refine lv_iload_n hx hb d_AL_set_0 rfl (lv_at hl 1 rfl) ?_
  refine lv_aload_n hx hb d_AL_set_1 rfl (lv_at hl 0 rfl) ?_
  refine va_get (D := g.1) (ci := 1) (v := .int (nI n)) (C := "java/util/ArrayList") (T := kT_AL) (N := 3) hx hb hts ki_AL hown hK (k_one o0) 0 rfl rfl 1 (by decide) (hts _ kw_44) (fun _ h9 => h9) rfl d_AL_set_2 ?_
  refine k_pure (r := .int (nI i)) (W.runS (As := [.int (nI i), .int (nI n)]) (rest := []) ⟨hx, hb, hml, hown, hts⟩ (c_Objs_checkIndex l g s.heap (nI i) (nI n) (nI_pos (by omega)) (nI_lt hi (by omega))) (va_cwS 2 hts (kS_good kw_210 kw_208 kw_209 kw_14) rfl rfl rfl (by decide +kernel) ⟨Nat.le_of_ble_eq_true rfl, Nat.le_of_ble_eq_true rfl⟩) (k_pre (KK_st g) hKK) rfl rfl hl.1 rfl (lv_room (Nat.le_of_ble_eq_true rfl)) d_AL_set_5 ⟨Nat.zero_le _, Nat.zero_le _⟩) ?_
  refine lv_pop hx hb d_AL_set_8 rfl ?_
  refine lv_aload_n hx hb d_AL_set_9 rfl (lv_at hl 0 rfl) ?_
  refine lv_iload_n hx hb d_AL_set_10 rfl (lv_at hl 1 rfl) ?_
  refine k_pure (r := .ref (el i)) (W.runV (As := [.int (nI i)]) (rest := []) ⟨hx, hb, hml, hown, hts⟩ (c_AL_elementData l g s.heap h0 n el i hi ⟨_, _, o⟩) (cwV 1 hts (kV_good kw_217 kw_214 kw_215 kw_216 kw_4) rfl rfl rfl (by decide +kernel) ⟨Nat.le_of_ble_eq_true rfl, Nat.le_of_ble_eq_true rfl⟩) (k_preV (KK_st g) hKK (kAL.recv ⟨_, _, o⟩ hK)) rfl rfl hl.1 rfl (lv_room (Nat.le_of_ble_eq_true rfl)) d_AL_set_11 ⟨Nat.zero_le _, Nat.zero_le _⟩) ?_
  refine lv_astore_n (lv' := [(3, .ref (el i)), (0, .ref h0), (1, .int (nI i)), (2, .ref e0)]) hx hb d_AL_set_14 rfl hl (by decide) rfl (fun ls hl => ?_)
  refine lv_aload_n hx hb d_AL_set_15 rfl (lv_at hl 1 rfl) ?_
  refine va_get (D := g.1) (ci := 1) (v := .ref arr) (C := "java/util/ArrayList") (T := kT_AL) (N := 3) hx hb hts ki_AL hown hK (k_one o0) 0 rfl rfl 0 (by decide) (hts _ kw_43) (fun _ h9 => h9) rfl d_AL_set_16 ?_
  refine lv_iload_n hx hb d_AL_set_19 rfl (lv_at hl 2 rfl) ?_
  refine lv_aload_n hx hb d_AL_set_20 rfl (lv_at hl 3 rfl) ?_
  refine va_astqM (D := g.1) (E := "java/lang/Object") hx hb hK hP hD hS 0 0 rfl rfl hany (vp_in_nI (show i < cap by omega) (by omega)) d_AL_set_21 (fun H locs hP hD hS => ?_)
  rw [nI_clamp (show i < 2 ^ 31 by omega)] at hP hD
  have hP : va_P g.1 kcl [(arr, .inl (g.2.1.1, cap, .inr (.inr (.inr (.inr (va_up f i (some e0)))))))] H := hP
  have hD : va_D A [(arr, .inl (g.2.1.1, cap, .inr (.inr (.inr (.inr (va_up f i (some e0)))))))] := hD
  refine lv_aload_n hx hb d_AL_set_22 rfl (lv_at hl 0 rfl) ?_
  have hE1 : kE (fun q => q = arr ∧ 0 < cap) s.heap H := (kE.ofS hS).wk (fun q hq h => by rw [← hAe] at h; rcases h with h | h; exact h; omega)
  exact W.aret (v := .ref (el i)) hx hb hr (Or.inl ⟨_, rfl⟩) (Or.inr ⟨_, rfl⟩) (fun t ht hW => ⟨_, rfl, rfl, by rw [ht]; exact hE1, by rw [ht]; exact ⟨_, hE1.at o0 (fun h => k_alne hK o0 a0 h.1), Or.inr ⟨_, k_at0 hP 0 rfl, by omega, by omega, by omega, k_up2 h3⟩⟩⟩) hS.2.2 d_AL_set_23
set_option maxHeartbeats 4000000 in
set_option maxRecDepth 100000 in
theorem c_AL_fastRemove (l : Launch) (g : KGt) (H0 : Heap) (h0 arr cap k : Nat) (el : Nat → Nat) (o : kALx g h0 arr cap (k + 1) el H0) : Met l y_AL_fastRemove (kW y_AL_fastRemove b_AL_fastRemove 4 (.none : Option FieldType)) ({ frames := 0, cells := 0, slots := 0, locals := 0 }) (kPc [.ref h0, .ref arr, .int (nI k)] (KK g) H0) (kQc (fun v H1 => v = none ∧ kE (fun q => q = h0 ∨ (q = arr ∧ 0 < cap)) H0 H1 ∧ kALx g h0 arr cap k el H1)) 0 0 (fun q : Nat => q = h0 ∨ (q = arr ∧ 0 < cap) ∨ H0.size ≤ q) := by
  refine va_MetF (cc := b_AL_fastRemove) (maxL := 4) (ret := (.none : Option FieldType)) (by decide +kernel) rfl ?_
  intro p e s m args below meth c s₁ B hml hv
  obtain ⟨rfl, hH, hKK⟩ := hv
  have hx := B.exec
  have hb := B.bytes
  have hr := B.returns
  have hts := kW_ts (atoms_spec (ws := kW y_AL_fastRemove b_AL_fastRemove 4 (.none : Option FieldType)) B.pre)
  have hown : s.vm.findClass "java/util/ArrayList" = some m.cls := findClass_of_methodNamed B.named
  have hlocks := B.notSynchronized
  have hK := hKK.1
  subst hH
  have hl := lv_entry ([.ref h0, .ref arr, .int (nI k)]) (n := 4) (Nat.le_of_ble_eq_true rfl)
  rw [lg_entry_eq]
  generalize (lg_sl ([.ref h0, .ref arr, .int (nI k)]) ++ List.replicate (4 - (lg_sl ([.ref h0, .ref arr, .int (nI k)])).length) Slot.unset).toArray = ls at hl ⊢
  have hl : lv_has ls 4 [(0, .ref h0), (1, .ref arr), (2, .int (nI k))] := hl
  obtain ⟨mo, f, o0, a0, h1, h2, h3⟩ := id (o.pos (Nat.lt_succ_self k))
  have h10 : 10 ≤ cap := by
    obtain ⟨mo1, h1, h2 | ⟨f, h2, h3, h4, h5⟩⟩ := id o <;> omega
  generalize hAe : (fun q : Nat => q = h0 ∨ (q = arr ∧ 0 < cap) ∨ s.heap.size ≤ q) = A
  have hA : ∀ q : Nat, s.heap.size ≤ q → A q := fun q h => by rw [← hAe]; exact Or.inr (Or.inr h)
  have hS : va_S A s.heap s.heap [] := va_S.rf
  have hP : va_P g.1 kcl [(h0, .inr (1, [.ref arr, .int (nI (k + 1)), .int mo])), (arr, .inl (g.2.1.1, cap, .inr (.inr (.inr (.inr f)))))] s.heap := k_two o0 a0
  have hD : va_D A [(h0, .inr (1, [.ref arr, .int (nI (k + 1)), .int mo])), (arr, .inl (g.2.1.1, cap, .inr (.inr (.inr (.inr f)))))] := k_D2 (by rw [← hAe]; exact Or.inl rfl) (by rw [← hAe]; exact Or.inr (Or.inl ⟨rfl, by omega⟩)) (k_alne hK o0 a0)
  refine lv_aload_n hx hb d_AL_fastRemove_0 rfl (lv_at hl 0 rfl) ?_
  refine lv_dup hx hb d_AL_fastRemove_1 rfl ?_
  refine va_get (D := g.1) (ci := 1) (v := .int mo) (C := "java/util/ArrayList") (T := kT_AL) (N := 3) hx hb hts ki_AL hown hK hP 0 rfl rfl 2 (by decide) (hts _ kw_46) (u_same (hts _ kw_47)) rfl d_AL_fastRemove_2 ?_
  refine lv_iconst (v := 1) hx hb d_AL_fastRemove_5 (by decide) ?_
  refine lv_iadd hx hb d_AL_fastRemove_6 ?_
  refine va_put (D := g.1) (ci := 1) (v := .int (mo + 1)) (ty := .int) (C := "java/util/ArrayList") (T := kT_AL) (N := 3) hx hb hts ki_AL kt_AL ko_AL kn_AL hown hK hP hD hS 0 rfl rfl 2 (by decide) (hts _ kw_46) (u_same (hts _ kw_47)) rfl (by decide +kernel) rfl rfl (Nat.le_of_ble_eq_true rfl) d_AL_fastRemove_7 (fun H locs hP hD hS => ?_)
  have hP : va_P g.1 kcl [(h0, .inr (1, [.ref arr, .int (nI (k + 1)), .int (mo + 1)])), (arr, .inl (g.2.1.1, cap, .inr (.inr (.inr (.inr f)))))] H := hP
  have hD : va_D A [(h0, .inr (1, [.ref arr, .int (nI (k + 1)), .int (mo + 1)])), (arr, .inl (g.2.1.1, cap, .inr (.inr (.inr (.inr f)))))] := hD
  refine lv_aload_n hx hb d_AL_fastRemove_10 rfl (lv_at hl 0 rfl) ?_
  refine va_get (D := g.1) (ci := 1) (v := .int (nI (k + 1))) (C := "java/util/ArrayList") (T := kT_AL) (N := 3) hx hb hts ki_AL hown hK hP 0 rfl rfl 1 (by decide) (hts _ kw_44) (fun _ h9 => h9) rfl d_AL_fastRemove_11 ?_
  refine lv_iconst (v := 1) hx hb d_AL_fastRemove_14 (by decide) ?_
  refine lv_isub hx hb d_AL_fastRemove_15 ?_
  rw [nI_pred]
  refine lv_dup hx hb d_AL_fastRemove_16 rfl ?_
  refine lv_istore_n (lv' := [(3, .int (nI k)), (0, .ref h0), (1, .ref arr), (2, .int (nI k))]) hx hb d_AL_fastRemove_17 rfl hl (by decide) rfl (fun ls hl => ?_)
  refine lv_iload_n hx hb d_AL_fastRemove_18 rfl (lv_at hl 3 rfl) ?_
  refine lv_icmp_le (tgt := 34) hx hb d_AL_fastRemove_19 (by decide) (fun c_1 => ?_) (fun c_1 => ?_)
  rotate_left
  · exact absurd c_1 (fun q => q (Int32.le_refl _))
  refine lv_aload_n hx hb d_AL_fastRemove_34 rfl (lv_at hl 2 rfl) ?_
  refine lv_aload_n hx hb d_AL_fastRemove_35 rfl (lv_at hl 1 rfl) ?_
  refine lv_iload_n hx hb d_AL_fastRemove_36 rfl (lv_at hl 0 rfl) ?_
  refine lv_dup_x1 hx hb d_AL_fastRemove_37 rfl rfl ?_
  refine va_put (D := g.1) (ci := 1) (v := .int (nI k)) (ty := .int) (C := "java/util/ArrayList") (T := kT_AL) (N := 3) hx hb hts ki_AL kt_AL ko_AL kn_AL hown hK hP hD hS 0 rfl rfl 1 (by decide) (hts _ kw_44) (fun _ h9 => h9) rfl (by decide +kernel) rfl rfl (Nat.le_of_ble_eq_true rfl) d_AL_fastRemove_38 (fun H locs hP hD hS => ?_)
  have hP : va_P g.1 kcl [(h0, .inr (1, [.ref arr, .int (nI k), .int (mo + 1)])), (arr, .inl (g.2.1.1, cap, .inr (.inr (.inr (.inr f)))))] H := hP
  have hD : va_D A [(h0, .inr (1, [.ref arr, .int (nI k), .int (mo + 1)])), (arr, .inl (g.2.1.1, cap, .inr (.inr (.inr (.inr f)))))] := hD
  refine lv_null hx hb d_AL_fastRemove_41 ?_
  refine va_astqN (D := g.1) (C := "java/lang/Object") hx hb hK hP hD hS 1 0 rfl rfl (vp_in_nI (show k < cap by omega) (by omega)) d_AL_fastRemove_42 (fun H locs hP hD hS => ?_)
  rw [nI_clamp (show k < 2 ^ 31 by omega)] at hP hD
  have hP : va_P g.1 kcl [(h0, .inr (1, [.ref arr, .int (nI k), .int (mo + 1)])), (arr, .inl (g.2.1.1, cap, .inr (.inr (.inr (.inr (va_up f k none))))))] H := hP
  have hD : va_D A [(h0, .inr (1, [.ref arr, .int (nI k), .int (mo + 1)])), (arr, .inl (g.2.1.1, cap, .inr (.inr (.inr (.inr (va_up f k none))))))] := hD
  have hE1 : kE (fun q => q = h0 ∨ (q = arr ∧ 0 < cap)) s.heap H := (kE.ofS hS).wk (fun q hq h => by rw [← hAe] at h; rcases h with h | h | h; exact Or.inl h; exact Or.inr h; omega)
  exact W.vret hx hb hr (fun t ht hW => ⟨_, rfl, rfl, by rw [ht]; exact hE1, by rw [ht]; exact ⟨_, k_at0 hP 0 rfl, Or.inr ⟨_, k_at0 hP 1 rfl, by omega, by omega, by omega, k_up3 h3⟩⟩⟩) hS.2.2 d_AL_fastRemove_43
set_option maxHeartbeats 4000000 in
set_option maxRecDepth 100000 in
theorem c_AL_remove (l : Launch) (g : KGt) (H0 : Heap) (h0 arr cap k : Nat) (el : Nat → Nat) (o : kALx g h0 arr cap (k + 1) el H0) : Met l y_AL_remove (kW y_AL_remove b_AL_remove 4 (.some (.object "java/lang/Object"))) ({ frames := 2, cells := 0, slots := 0, locals := 43 }) (kPc [.ref h0, .int (nI k)] (KK g) H0) (kQc (fun v H1 => v = some (.ref (el k)) ∧ kE (fun q => q = h0 ∨ (q = arr ∧ 0 < cap)) H0 H1 ∧ kALx g h0 arr cap k el H1)) 0 0 (fun q : Nat => q = h0 ∨ (q = arr ∧ 0 < cap) ∨ H0.size ≤ q) := by
  refine va_MetF (cc := b_AL_remove) (maxL := 4) (ret := (.some (.object "java/lang/Object"))) (by decide +kernel) rfl ?_
  intro p e s m args below meth c s₁ B hml hv
  obtain ⟨rfl, hH, hKK⟩ := hv
  have hx := B.exec
  have hb := B.bytes
  have hr := B.returns
  have hts := kW_ts (atoms_spec (ws := kW y_AL_remove b_AL_remove 4 (.some (.object "java/lang/Object"))) B.pre)
  have hown : s.vm.findClass "java/util/ArrayList" = some m.cls := findClass_of_methodNamed B.named
  have hlocks := B.notSynchronized
  have hK := hKK.1
  subst hH
  have hl := lv_entry ([.ref h0, .int (nI k)]) (n := 4) (Nat.le_of_ble_eq_true rfl)
  rw [lg_entry_eq]
  generalize (lg_sl ([.ref h0, .int (nI k)]) ++ List.replicate (4 - (lg_sl ([.ref h0, .int (nI k)])).length) Slot.unset).toArray = ls at hl ⊢
  have hl : lv_has ls 4 [(0, .ref h0), (1, .int (nI k))] := hl
  obtain ⟨mo, f, o0, a0, h1, h2, h3⟩ := id (o.pos (Nat.lt_succ_self k))
  refine lv_iload_n hx hb d_AL_remove_0 rfl (lv_at hl 1 rfl) ?_
  refine lv_aload_n hx hb d_AL_remove_1 rfl (lv_at hl 0 rfl) ?_
  refine va_get (D := g.1) (ci := 1) (v := .int (nI (k + 1))) (C := "java/util/ArrayList") (T := kT_AL) (N := 3) hx hb hts ki_AL hown hK (k_one o0) 0 rfl rfl 1 (by decide) (hts _ kw_44) (fun _ h9 => h9) rfl d_AL_remove_2 ?_
  refine k_pure (r := .int (nI k)) (W.runS (As := [.int (nI k), .int (nI (k + 1))]) (rest := []) ⟨hx, hb, hml, hown, hts⟩ (c_Objs_checkIndex l g s.heap (nI k) (nI (k + 1)) (nI_pos (by omega)) (nI_lt (by omega) (by omega))) (va_cwS 2 hts (kS_good kw_210 kw_208 kw_209 kw_14) rfl rfl rfl (by decide +kernel) ⟨Nat.le_of_ble_eq_true rfl, Nat.le_of_ble_eq_true rfl⟩) (k_pre (KK_st g) hKK) rfl rfl hl.1 rfl (lv_room (Nat.le_of_ble_eq_true rfl)) d_AL_remove_5 ⟨Nat.zero_le _, Nat.zero_le _⟩) ?_
  refine lv_pop hx hb d_AL_remove_8 rfl ?_
  refine lv_aload_n hx hb d_AL_remove_9 rfl (lv_at hl 0 rfl) ?_
  refine va_get (D := g.1) (ci := 1) (v := .ref arr) (C := "java/util/ArrayList") (T := kT_AL) (N := 3) hx hb hts ki_AL hown hK (k_one o0) 0 rfl rfl 0 (by decide) (hts _ kw_43) (fun _ h9 => h9) rfl d_AL_remove_10 ?_
  refine lv_astore_n (lv' := [(2, .ref arr), (0, .ref h0), (1, .int (nI k))]) hx hb d_AL_remove_13 rfl hl (by decide) rfl (fun ls hl => ?_)
  refine lv_aload_n hx hb d_AL_remove_14 rfl (lv_at hl 0 rfl) ?_
  refine lv_iload_n hx hb d_AL_remove_15 rfl (lv_at hl 2 rfl) ?_
  refine va_aldq (D := g.1) (C := "java/lang/Object") hx hb hK (k_one a0) 0 0 rfl rfl (vp_in_nI (show k < cap by omega) (by omega)) d_AL_remove_16 ?_
  rw [nI_clamp (show k < 2 ^ 31 by omega), h3 k (by omega)]
  refine W.eq (g2 := F0 m 17 ls [.ref (el k)]) rfl ?_
  refine lv_astore_n (lv' := [(3, .ref (el k)), (2, .ref arr), (0, .ref h0), (1, .int (nI k))]) hx hb d_AL_remove_17 rfl hl (by decide) rfl (fun ls hl => ?_)
  refine lv_aload_n hx hb d_AL_remove_18 rfl (lv_at hl 2 rfl) ?_
  refine lv_aload_n hx hb d_AL_remove_19 rfl (lv_at hl 1 rfl) ?_
  refine lv_iload_n hx hb d_AL_remove_20 rfl (lv_at hl 3 rfl) ?_
  refine k_call (A := (fun q : Nat => q = h0 ∨ (q = arr ∧ 0 < cap) ∨ s.heap.size ≤ q)) (W.runV (As := [.ref arr, .int (nI k)]) (rest := []) ⟨hx, hb, hml, hown, hts⟩ (c_AL_fastRemove l g s.heap h0 arr cap k el o) (cwV 2 hts (kV_good kw_569 kw_566 kw_568 ks_AL_fastRemove kw_4) rfl rfl rfl (by decide +kernel) ⟨Nat.le_of_ble_eq_true rfl, Nat.le_of_ble_eq_true rfl⟩) (k_preV (KK_st g) hKK (kAL.recv ⟨_, _, o⟩ hK)) rfl rfl hl.1 rfl (lv_room (Nat.le_of_ble_eq_true rfl)) d_AL_remove_21 ⟨Nat.le_of_ble_eq_true rfl, Nat.le_of_ble_eq_true rfl⟩) (fun _ h => by cases h) (fun q h => h) (fun v H locs hv hL => ?_)
  obtain ⟨rfl, h4⟩ := hv
  refine lv_aload_n hx hb d_AL_remove_24 rfl (lv_at hl 0 rfl) ?_
  exact W.aret (v := .ref (el k)) hx hb hr (Or.inl ⟨_, rfl⟩) (Or.inr ⟨_, rfl⟩) (fun t ht hW => ⟨_, rfl, rfl, by rw [ht]; exact h4⟩) hL d_AL_remove_25
set_option maxHeartbeats 4000000 in
set_option maxRecDepth 100000 in
theorem c_AL_clear (l : Launch) (g : KGt) (H0 : Heap) (h0 arr cap n : Nat) (el el2 : Nat → Nat) (o : kALx g h0 arr cap n el H0) : Met l y_AL_clear (kW y_AL_clear b_AL_clear 4 (.none : Option FieldType)) ({ frames := 0, cells := 0, slots := 0, locals := 0 }) (kPc [.ref h0] (KK g) H0) (kQc (fun v H1 => v = none ∧ kE (fun q => q = h0 ∨ (q = arr ∧ 0 < cap)) H0 H1 ∧ kALx g h0 arr cap 0 el2 H1)) 0 0 (fun q : Nat => q = h0 ∨ (q = arr ∧ 0 < cap) ∨ H0.size ≤ q) := by
  refine va_MetF (cc := b_AL_clear) (maxL := 4) (ret := (.none : Option FieldType)) (by decide +kernel) rfl ?_
  intro p e s m args below meth c s₁ B hml hv
  obtain ⟨rfl, hH, hKK⟩ := hv
  have hx := B.exec
  have hb := B.bytes
  have hr := B.returns
  have hts := kW_ts (atoms_spec (ws := kW y_AL_clear b_AL_clear 4 (.none : Option FieldType)) B.pre)
  have hown : s.vm.findClass "java/util/ArrayList" = some m.cls := findClass_of_methodNamed B.named
  have hlocks := B.notSynchronized
  have hK := hKK.1
  subst hH
  have hl := lv_entry ([.ref h0]) (n := 4) (Nat.le_of_ble_eq_true rfl)
  rw [lg_entry_eq]
  generalize (lg_sl ([.ref h0]) ++ List.replicate (4 - (lg_sl ([.ref h0])).length) Slot.unset).toArray = ls at hl ⊢
  have hl : lv_has ls 4 [(0, .ref h0)] := hl
  obtain ⟨mo, o0, o1⟩ := id o
  rcases o1 with o1 | o1
  · skip
    obtain ⟨rfl, rfl, rfl⟩ := o1
    generalize hAe : (fun q : Nat => q = h0 ∨ (q = g.2.2.2.1 ∧ 0 < 0) ∨ s.heap.size ≤ q) = A
    have hA : ∀ q : Nat, s.heap.size ≤ q → A q := fun q h => by rw [← hAe]; exact Or.inr (Or.inr h)
    have hS : va_S A s.heap s.heap [] := va_S.rf
    have hP : va_P g.1 kcl [(h0, .inr (1, [.ref g.2.2.2.1, .int (nI 0), .int mo]))] s.heap := k_one o0
    have hD : va_D A [(h0, .inr (1, [.ref g.2.2.2.1, .int (nI 0), .int mo]))] := k_D1 (by rw [← hAe]; exact Or.inl rfl)
    refine lv_aload_n hx hb d_AL_clear_0 rfl (lv_at hl 0 rfl) ?_
    refine lv_dup hx hb d_AL_clear_1 rfl ?_
    refine va_get (D := g.1) (ci := 1) (v := .int mo) (C := "java/util/ArrayList") (T := kT_AL) (N := 3) hx hb hts ki_AL hown hK hP 0 rfl rfl 2 (by decide) (hts _ kw_46) (u_same (hts _ kw_47)) rfl d_AL_clear_2 ?_
    refine lv_iconst (v := 1) hx hb d_AL_clear_5 (by decide) ?_
    refine lv_iadd hx hb d_AL_clear_6 ?_
    refine va_put (D := g.1) (ci := 1) (v := .int (mo + 1)) (ty := .int) (C := "java/util/ArrayList") (T := kT_AL) (N := 3) hx hb hts ki_AL kt_AL ko_AL kn_AL hown hK hP hD hS 0 rfl rfl 2 (by decide) (hts _ kw_46) (u_same (hts _ kw_47)) rfl (by decide +kernel) rfl rfl (Nat.le_of_ble_eq_true rfl) d_AL_clear_7 (fun H locs hP hD hS => ?_)
    have hP : va_P g.1 kcl [(h0, .inr (1, [.ref g.2.2.2.1, .int (nI 0), .int (mo + 1)]))] H := hP
    have hD : va_D A [(h0, .inr (1, [.ref g.2.2.2.1, .int (nI 0), .int (mo + 1)]))] := hD
    refine lv_aload_n hx hb d_AL_clear_10 rfl (lv_at hl 0 rfl) ?_
    refine va_get (D := g.1) (ci := 1) (v := .ref g.2.2.2.1) (C := "java/util/ArrayList") (T := kT_AL) (N := 3) hx hb hts ki_AL hown hK hP 0 rfl rfl 0 (by decide) (hts _ kw_43) (fun _ h9 => h9) rfl d_AL_clear_11 ?_
    refine lv_astore_n (lv' := [(1, .ref g.2.2.2.1), (0, .ref h0)]) hx hb d_AL_clear_14 rfl hl (by decide) rfl (fun ls hl => ?_)
    refine lv_aload_n hx hb d_AL_clear_15 rfl (lv_at hl 1 rfl) ?_
    refine va_get (D := g.1) (ci := 1) (v := .int (nI 0)) (C := "java/util/ArrayList") (T := kT_AL) (N := 3) hx hb hts ki_AL hown hK hP 0 rfl rfl 1 (by decide) (hts _ kw_44) (fun _ h9 => h9) rfl d_AL_clear_16 ?_
    refine lv_istore_n (lv' := [(2, .int (nI 0)), (1, .ref g.2.2.2.1), (0, .ref h0)]) hx hb d_AL_clear_19 rfl hl (by decide) rfl (fun ls hl => ?_)
    refine lv_aload_n hx hb d_AL_clear_20 rfl (lv_at hl 2 rfl) ?_
    refine lv_iconst (v := 0) hx hb d_AL_clear_21 (by decide) ?_
    refine lv_dup_x1 hx hb d_AL_clear_22 rfl rfl ?_
    refine va_put (D := g.1) (ci := 1) (v := .int 0) (ty := .int) (C := "java/util/ArrayList") (T := kT_AL) (N := 3) hx hb hts ki_AL kt_AL ko_AL kn_AL hown hK hP hD hS 0 rfl rfl 1 (by decide) (hts _ kw_44) (fun _ h9 => h9) rfl (by decide +kernel) rfl rfl (Nat.le_of_ble_eq_true rfl) d_AL_clear_23 (fun H locs hP hD hS => ?_)
    have hP : va_P g.1 kcl [(h0, .inr (1, [.ref g.2.2.2.1, .int 0, .int (mo + 1)]))] H := hP
    have hD : va_D A [(h0, .inr (1, [.ref g.2.2.2.1, .int 0, .int (mo + 1)]))] := hD
    refine lv_istore_n (lv' := [(3, .int 0), (2, .int (nI 0)), (1, .ref g.2.2.2.1), (0, .ref h0)]) hx hb d_AL_clear_26 rfl hl (by decide) rfl (fun ls hl => ?_)
    refine lv_iload_n hx hb d_AL_clear_27 rfl (lv_at hl 0 rfl) ?_
    refine lv_iload_n hx hb d_AL_clear_28 rfl (lv_at hl 1 rfl) ?_
    refine lv_icmp_ge (tgt := 42) hx hb d_AL_clear_29 (by decide) (fun c_1 => ?_) (fun c_1 => ?_)
    rotate_left
    · exact absurd c_1 (fun q => q (by rw [nI_0]; exact Int32.le_refl _))
    have hE1 : kE (fun q => q = h0 ∨ (q = g.2.2.2.1 ∧ 0 < 0)) s.heap H := (kE.ofS hS).wk (fun q hq h => by rw [← hAe] at h; rcases h with h | h | h; exact Or.inl h; exact Or.inr h; omega)
    exact W.vret hx hb hr (fun t ht hW => ⟨_, rfl, rfl, by rw [ht]; exact hE1, by rw [ht]; exact ⟨_, k_at0 hP 0 rfl, Or.inl ⟨rfl, rfl, rfl⟩⟩⟩) hS.2.2 d_AL_clear_42
  · skip
    obtain ⟨f, a0, h3, h4, h5, h6⟩ := o1
    generalize hAe : (fun q : Nat => q = h0 ∨ (q = arr ∧ 0 < cap) ∨ s.heap.size ≤ q) = A
    have hA : ∀ q : Nat, s.heap.size ≤ q → A q := fun q h => by rw [← hAe]; exact Or.inr (Or.inr h)
    have hS : va_S A s.heap s.heap [] := va_S.rf
    have hP : va_P g.1 kcl [(h0, .inr (1, [.ref arr, .int (nI n), .int mo])), (arr, .inl (g.2.1.1, cap, .inr (.inr (.inr (.inr f)))))] s.heap := k_two o0 a0
    have hD : va_D A [(h0, .inr (1, [.ref arr, .int (nI n), .int mo])), (arr, .inl (g.2.1.1, cap, .inr (.inr (.inr (.inr f)))))] := k_D2 (by rw [← hAe]; exact Or.inl rfl) (by rw [← hAe]; exact Or.inr (Or.inl ⟨rfl, by omega⟩)) (k_alne hK o0 a0)
    refine lv_aload_n hx hb d_AL_clear_0 rfl (lv_at hl 0 rfl) ?_
    refine lv_dup hx hb d_AL_clear_1 rfl ?_
    refine va_get (D := g.1) (ci := 1) (v := .int mo) (C := "java/util/ArrayList") (T := kT_AL) (N := 3) hx hb hts ki_AL hown hK hP 0 rfl rfl 2 (by decide) (hts _ kw_46) (u_same (hts _ kw_47)) rfl d_AL_clear_2 ?_
    refine lv_iconst (v := 1) hx hb d_AL_clear_5 (by decide) ?_
    refine lv_iadd hx hb d_AL_clear_6 ?_
    refine va_put (D := g.1) (ci := 1) (v := .int (mo + 1)) (ty := .int) (C := "java/util/ArrayList") (T := kT_AL) (N := 3) hx hb hts ki_AL kt_AL ko_AL kn_AL hown hK hP hD hS 0 rfl rfl 2 (by decide) (hts _ kw_46) (u_same (hts _ kw_47)) rfl (by decide +kernel) rfl rfl (Nat.le_of_ble_eq_true rfl) d_AL_clear_7 (fun H locs hP hD hS => ?_)
    have hP : va_P g.1 kcl [(h0, .inr (1, [.ref arr, .int (nI n), .int (mo + 1)])), (arr, .inl (g.2.1.1, cap, .inr (.inr (.inr (.inr f)))))] H := hP
    have hD : va_D A [(h0, .inr (1, [.ref arr, .int (nI n), .int (mo + 1)])), (arr, .inl (g.2.1.1, cap, .inr (.inr (.inr (.inr f)))))] := hD
    refine lv_aload_n hx hb d_AL_clear_10 rfl (lv_at hl 0 rfl) ?_
    refine va_get (D := g.1) (ci := 1) (v := .ref arr) (C := "java/util/ArrayList") (T := kT_AL) (N := 3) hx hb hts ki_AL hown hK hP 0 rfl rfl 0 (by decide) (hts _ kw_43) (fun _ h9 => h9) rfl d_AL_clear_11 ?_
    refine lv_astore_n (lv' := [(1, .ref arr), (0, .ref h0)]) hx hb d_AL_clear_14 rfl hl (by decide) rfl (fun ls hl => ?_)
    refine lv_aload_n hx hb d_AL_clear_15 rfl (lv_at hl 1 rfl) ?_
    refine va_get (D := g.1) (ci := 1) (v := .int (nI n)) (C := "java/util/ArrayList") (T := kT_AL) (N := 3) hx hb hts ki_AL hown hK hP 0 rfl rfl 1 (by decide) (hts _ kw_44) (fun _ h9 => h9) rfl d_AL_clear_16 ?_
    refine lv_istore_n (lv' := [(2, .int (nI n)), (1, .ref arr), (0, .ref h0)]) hx hb d_AL_clear_19 rfl hl (by decide) rfl (fun ls hl => ?_)
    refine lv_aload_n hx hb d_AL_clear_20 rfl (lv_at hl 2 rfl) ?_
    refine lv_iconst (v := 0) hx hb d_AL_clear_21 (by decide) ?_
    refine lv_dup_x1 hx hb d_AL_clear_22 rfl rfl ?_
    refine va_put (D := g.1) (ci := 1) (v := .int 0) (ty := .int) (C := "java/util/ArrayList") (T := kT_AL) (N := 3) hx hb hts ki_AL kt_AL ko_AL kn_AL hown hK hP hD hS 0 rfl rfl 1 (by decide) (hts _ kw_44) (fun _ h9 => h9) rfl (by decide +kernel) rfl rfl (Nat.le_of_ble_eq_true rfl) d_AL_clear_23 (fun H locs hP hD hS => ?_)
    have hP : va_P g.1 kcl [(h0, .inr (1, [.ref arr, .int 0, .int (mo + 1)])), (arr, .inl (g.2.1.1, cap, .inr (.inr (.inr (.inr f)))))] H := hP
    have hD : va_D A [(h0, .inr (1, [.ref arr, .int 0, .int (mo + 1)])), (arr, .inl (g.2.1.1, cap, .inr (.inr (.inr (.inr f)))))] := hD
    refine lv_istore_n (lv' := [(3, .int 0), (2, .int (nI n)), (1, .ref arr), (0, .ref h0)]) hx hb d_AL_clear_26 rfl hl (by decide) rfl (fun ls hl => ?_)
    have key : ∀ (j i : Nat) (F : Nat → Option Nat) (H : Heap) (locs : List Loc) (ls : Array Slot), i + j = n → va_P g.1 kcl [(h0, .inr (1, [.ref arr, .int 0, .int (mo + 1)])), (arr, .inl (g.2.1.1, cap, .inr (.inr (.inr (.inr F)))))] H → va_D A [(h0, .inr (1, [.ref arr, .int 0, .int (mo + 1)])), (arr, .inl (g.2.1.1, cap, .inr (.inr (.inr (.inr F)))))] → va_S A s.heap H locs → lv_has ls 4 [(3, .int (nI i)), (2, .int (nI n)), (1, .ref arr), (0, .ref h0)] → W p l e (headSpec (kW y_AL_clear b_AL_clear 4 (.none : Option FieldType)) { frames := 0, cells := 0, slots := 0, locals := 0 }).room s m #[Value.ref h0] below meth c H locs 0 0 (MQ below (kQc (fun v H1 => v = none ∧ kE (fun q => q = h0 ∨ (q = arr ∧ 0 < cap)) s.heap H1 ∧ kALx g h0 arr cap 0 el2 H1)) #[Value.ref h0] s 0 0 A) (F0 m 27 ls []) := by
      intro j
      induction j with
      | zero =>
        intro i F H locs ls hij hP hD hS hl
        refine lv_iload_n hx hb d_AL_clear_27 rfl (lv_at hl 0 rfl) ?_
        refine lv_iload_n hx hb d_AL_clear_28 rfl (lv_at hl 1 rfl) ?_
        refine lv_icmp_ge (tgt := 42) hx hb d_AL_clear_29 (by decide) (fun c_1 => ?_) (fun c_1 => ?_)
        rotate_left
        · exact absurd c_1 (fun q => q (by rw [show i = n by omega]; exact Int32.le_refl _))
        have hE1 : kE (fun q => q = h0 ∨ (q = arr ∧ 0 < cap)) s.heap H := (kE.ofS hS).wk (fun q hq h => by rw [← hAe] at h; rcases h with h | h | h; exact Or.inl h; exact Or.inr h; omega)
        exact W.vret hx hb hr (fun t ht hW => ⟨_, rfl, rfl, by rw [ht]; exact hE1, by rw [ht]; exact ⟨_, k_at0 hP 0 rfl, Or.inr ⟨_, k_at0 hP 1 rfl, by omega, by omega, by omega, fun i hi => absurd hi (by omega)⟩⟩⟩) hS.2.2 d_AL_clear_42
      | succ j ih =>
        intro i F H locs ls hij hP hD hS hl
        refine lv_iload_n hx hb d_AL_clear_27 rfl (lv_at hl 0 rfl) ?_
        refine lv_iload_n hx hb d_AL_clear_28 rfl (lv_at hl 1 rfl) ?_
        refine lv_icmp_ge (tgt := 42) hx hb d_AL_clear_29 (by decide) (fun c_2 => ?_) (fun c_2 => ?_)
        · exact absurd c_2 (nI_ge (by omega) (by omega))
        refine lv_aload_n hx hb d_AL_clear_32 rfl (lv_at hl 2 rfl) ?_
        refine lv_iload_n hx hb d_AL_clear_33 rfl (lv_at hl 0 rfl) ?_
        refine lv_null hx hb d_AL_clear_34 ?_
        refine va_astqN (D := g.1) (C := "java/lang/Object") hx hb hK hP hD hS 1 0 rfl rfl (vp_in_nI (show i < cap by omega) (by omega)) d_AL_clear_35 (fun H locs hP hD hS => ?_)
        rw [nI_clamp (show i < 2 ^ 31 by omega)] at hP hD
        have hP : va_P g.1 kcl [(h0, .inr (1, [.ref arr, .int 0, .int (mo + 1)])), (arr, .inl (g.2.1.1, cap, .inr (.inr (.inr (.inr (va_up F i none))))))] H := hP
        have hD : va_D A [(h0, .inr (1, [.ref arr, .int 0, .int (mo + 1)])), (arr, .inl (g.2.1.1, cap, .inr (.inr (.inr (.inr (va_up F i none))))))] := hD
        refine lv_iinc (v := nI (i + 1)) (lv' := [(3, .int (nI (i + 1))), (2, .int (nI n)), (1, .ref arr), (0, .ref h0)]) hx hb d_AL_clear_36 hl (k := 0) rfl (nI_1 i) (by decide) rfl (fun ls hl => ?_)
        refine lv_goto (tgt := 27) hx hb d_AL_clear_39 (by decide) ?_
        exact ih (i + 1) _ H locs ls (by omega) hP hD hS hl
    exact key n 0 f H locs ls (by omega) hP hD hS hl
end
section
/-! constructors -/
set_option maxHeartbeats 4000000 in
set_option maxRecDepth 100000 in
theorem c_Leaders_init (l : Launch) (g : KGt) (H0 : Heap) (h0 : Nat) (p0 : Int32) (p1 : Int32) (o0 : va_at g.1 kcl (h0, .inr (8, [.int 0, .int 0])) H0) : Met l y_Leaders_init (kW y_Leaders_init b_Leaders_init 3 (.none : Option FieldType)) ({ frames := 1, cells := 0, slots := 0, locals := 12 }) (kPc [.ref h0, .int p0, .int p1] (KK g) H0) (kQc (fun v H1 => v = none ∧ kE (fun q => q = h0) H0 H1 ∧ va_at g.1 kcl (h0, .inr (8, [.int p0, .int p1])) H1)) 0 0 (fun q : Nat => q = h0 ∨ H0.size ≤ q) := by
  refine Met.ofW (cc := b_Leaders_init) (maxL := 3) (ret := (.none : Option FieldType)) (by decide) rfl ?_
  intro p e s m args below meth c s₁ B hml hv
  obtain ⟨rfl, hH, hKK⟩ := hv
  have hx := B.exec
  have hb := B.bytes
  have hr := B.returns
  have hts := kW_ts (atoms_spec (ws := kW y_Leaders_init b_Leaders_init 3 (.none : Option FieldType)) B.pre)
  have hown : s.vm.findClass "BoxGlue$Leaders" = some m.cls := findClass_of_methodNamed B.named
  have hlocks := B.notSynchronized
  have hK := hKK.1
  subst hH
  have hl := lv_entry ([.ref h0, .int p0, .int p1]) (n := 3) (Nat.le_of_ble_eq_true rfl)
  rw [lg_entry_eq]
  generalize (lg_sl ([.ref h0, .int p0, .int p1]) ++ List.replicate (3 - (lg_sl ([.ref h0, .int p0, .int p1])).length) Slot.unset).toArray = ls at hl ⊢
  have hl : lv_has ls 3 [(0, .ref h0), (1, .int p0), (2, .int p1)] := hl
  have hin : meth.name = "<init>" := (name_of_methodNamed B.named B.method).1
  generalize hAe : (fun q : Nat => q = h0 ∨ s.heap.size ≤ q) = A
  have hA : ∀ q : Nat, s.heap.size ≤ q → A q := fun q h => by rw [← hAe]; exact Or.inr h
  have hS : va_S A s.heap s.heap [] := va_S.rf
  have hP : va_P g.1 kcl [(h0, .inr (8, [.int 0, .int 0]))] s.heap := k_one o0
  have hD : va_D A [(h0, .inr (8, [.int 0, .int 0]))] := k_D1 (by rw [← hAe]; exact Or.inl rfl)
  refine lv_aload_n hx hb d_Leaders_init_0 rfl (lv_at hl 0 rfl) ?_
  refine W.objInit hx hb hown (hts _ kw_262) (hts _ kw_27) (hts _ kw_28) rfl (by rw [hml]; exact hl.1) rfl d_Leaders_init_1 (Nat.le_of_ble_eq_true rfl) (Nat.le_of_ble_eq_true rfl) ?_
  refine W.eq (g2 := F0 m 4 ls []) rfl ?_
  refine lv_aload_n hx hb d_Leaders_init_4 rfl (lv_at hl 0 rfl) ?_
  refine lv_iload_n hx hb d_Leaders_init_5 rfl (lv_at hl 1 rfl) ?_
  refine va_putF (D := g.1) (ci := 8) (v := .int p0) (ty := .int) (C := "BoxGlue$Leaders") (T := kT_Leaders) (N := 2) hx hb hts ki_Leaders kt_Leaders ko_Leaders kn_Leaders hown hK hP hD hS 0 rfl rfl 0 (by decide) (hts _ kw_263) (fun _ h9 => h9) rfl hin rfl (by decide +kernel) rfl rfl (Nat.le_of_ble_eq_true rfl) d_Leaders_init_6 (fun H locs hP hD hS => ?_)
  have hP : va_P g.1 kcl [(h0, .inr (8, [.int p0, .int 0]))] H := hP
  have hD : va_D A [(h0, .inr (8, [.int p0, .int 0]))] := hD
  refine lv_aload_n hx hb d_Leaders_init_9 rfl (lv_at hl 0 rfl) ?_
  refine lv_iload_n hx hb d_Leaders_init_10 rfl (lv_at hl 2 rfl) ?_
  refine va_putF (D := g.1) (ci := 8) (v := .int p1) (ty := .int) (C := "BoxGlue$Leaders") (T := kT_Leaders) (N := 2) hx hb hts ki_Leaders kt_Leaders ko_Leaders kn_Leaders hown hK hP hD hS 0 rfl rfl 1 (by decide) (hts _ kw_264) (fun _ h9 => h9) rfl hin rfl (by decide +kernel) rfl rfl (Nat.le_of_ble_eq_true rfl) d_Leaders_init_11 (fun H locs hP hD hS => ?_)
  have hP : va_P g.1 kcl [(h0, .inr (8, [.int p0, .int p1]))] H := hP
  have hD : va_D A [(h0, .inr (8, [.int p0, .int p1]))] := hD
  exact W.vret hx hb hr (fun t ht hW => ⟨_, rfl, rfl, by rw [ht]; exact (kE.ofS hS).wk (fun q hq h => by rw [← hAe] at h; rcases h with h | h; exact h; omega), by rw [ht]; exact k_at0 hP 0 rfl⟩) hS.2.2 d_Leaders_init_14
set_option maxHeartbeats 4000000 in
set_option maxRecDepth 100000 in
theorem c_Fit_init (l : Launch) (g : KGt) (H0 : Heap) (h0 : Nat) (p0 : Int32) (p1 : Int32) (p2 : Int32) (p3 : Int32) (o0 : va_at g.1 kcl (h0, .inr (3, [.int 0, .int 0, .int 0, .int 0])) H0) : Met l y_Fit_init (kW y_Fit_init b_Fit_init 5 (.none : Option FieldType)) ({ frames := 1, cells := 0, slots := 0, locals := 12 }) (kPc [.ref h0, .int p0, .int p1, .int p2, .int p3] (KK g) H0) (kQc (fun v H1 => v = none ∧ kE (fun q => q = h0) H0 H1 ∧ va_at g.1 kcl (h0, .inr (3, [.int p0, .int p2, .int p1, .int p3])) H1)) 0 0 (fun q : Nat => q = h0 ∨ H0.size ≤ q) := by
  refine Met.ofW (cc := b_Fit_init) (maxL := 5) (ret := (.none : Option FieldType)) (by decide) rfl ?_
  intro p e s m args below meth c s₁ B hml hv
  obtain ⟨rfl, hH, hKK⟩ := hv
  have hx := B.exec
  have hb := B.bytes
  have hr := B.returns
  have hts := kW_ts (atoms_spec (ws := kW y_Fit_init b_Fit_init 5 (.none : Option FieldType)) B.pre)
  have hown : s.vm.findClass "BoxGlue$Fit" = some m.cls := findClass_of_methodNamed B.named
  have hlocks := B.notSynchronized
  have hK := hKK.1
  subst hH
  have hl := lv_entry ([.ref h0, .int p0, .int p1, .int p2, .int p3]) (n := 5) (Nat.le_of_ble_eq_true rfl)
  rw [lg_entry_eq]
  generalize (lg_sl ([.ref h0, .int p0, .int p1, .int p2, .int p3]) ++ List.replicate (5 - (lg_sl ([.ref h0, .int p0, .int p1, .int p2, .int p3])).length) Slot.unset).toArray = ls at hl ⊢
  have hl : lv_has ls 5 [(0, .ref h0), (1, .int p0), (2, .int p1), (3, .int p2), (4, .int p3)] := hl
  have hin : meth.name = "<init>" := (name_of_methodNamed B.named B.method).1
  generalize hAe : (fun q : Nat => q = h0 ∨ s.heap.size ≤ q) = A
  have hA : ∀ q : Nat, s.heap.size ≤ q → A q := fun q h => by rw [← hAe]; exact Or.inr h
  have hS : va_S A s.heap s.heap [] := va_S.rf
  have hP : va_P g.1 kcl [(h0, .inr (3, [.int 0, .int 0, .int 0, .int 0]))] s.heap := k_one o0
  have hD : va_D A [(h0, .inr (3, [.int 0, .int 0, .int 0, .int 0]))] := k_D1 (by rw [← hAe]; exact Or.inl rfl)
  refine lv_aload_n hx hb d_Fit_init_0 rfl (lv_at hl 0 rfl) ?_
  refine W.objInit hx hb hown (hts _ kw_87) (hts _ kw_27) (hts _ kw_28) rfl (by rw [hml]; exact hl.1) rfl d_Fit_init_1 (Nat.le_of_ble_eq_true rfl) (Nat.le_of_ble_eq_true rfl) ?_
  refine W.eq (g2 := F0 m 4 ls []) rfl ?_
  refine lv_aload_n hx hb d_Fit_init_4 rfl (lv_at hl 0 rfl) ?_
  refine lv_iload_n hx hb d_Fit_init_5 rfl (lv_at hl 1 rfl) ?_
  refine va_putF (D := g.1) (ci := 3) (v := .int p0) (ty := .int) (C := "BoxGlue$Fit") (T := kT_Fit) (N := 4) hx hb hts ki_Fit kt_Fit ko_Fit kn_Fit hown hK hP hD hS 0 rfl rfl 0 (by decide) (hts _ kw_88) (fun _ h9 => h9) rfl hin rfl (by decide +kernel) rfl rfl (Nat.le_of_ble_eq_true rfl) d_Fit_init_6 (fun H locs hP hD hS => ?_)
  have hP : va_P g.1 kcl [(h0, .inr (3, [.int p0, .int 0, .int 0, .int 0]))] H := hP
  have hD : va_D A [(h0, .inr (3, [.int p0, .int 0, .int 0, .int 0]))] := hD
  refine lv_aload_n hx hb d_Fit_init_9 rfl (lv_at hl 0 rfl) ?_
  refine lv_iload_n hx hb d_Fit_init_10 rfl (lv_at hl 2 rfl) ?_
  refine va_putF (D := g.1) (ci := 3) (v := .int p1) (ty := .int) (C := "BoxGlue$Fit") (T := kT_Fit) (N := 4) hx hb hts ki_Fit kt_Fit ko_Fit kn_Fit hown hK hP hD hS 0 rfl rfl 2 (by decide) (hts _ kw_92) (fun _ h9 => h9) rfl hin rfl (by decide +kernel) rfl rfl (Nat.le_of_ble_eq_true rfl) d_Fit_init_11 (fun H locs hP hD hS => ?_)
  have hP : va_P g.1 kcl [(h0, .inr (3, [.int p0, .int 0, .int p1, .int 0]))] H := hP
  have hD : va_D A [(h0, .inr (3, [.int p0, .int 0, .int p1, .int 0]))] := hD
  refine lv_aload_n hx hb d_Fit_init_14 rfl (lv_at hl 0 rfl) ?_
  refine lv_iload_n hx hb d_Fit_init_15 rfl (lv_at hl 3 rfl) ?_
  refine va_putF (D := g.1) (ci := 3) (v := .int p2) (ty := .int) (C := "BoxGlue$Fit") (T := kT_Fit) (N := 4) hx hb hts ki_Fit kt_Fit ko_Fit kn_Fit hown hK hP hD hS 0 rfl rfl 1 (by decide) (hts _ kw_90) (fun _ h9 => h9) rfl hin rfl (by decide +kernel) rfl rfl (Nat.le_of_ble_eq_true rfl) d_Fit_init_16 (fun H locs hP hD hS => ?_)
  have hP : va_P g.1 kcl [(h0, .inr (3, [.int p0, .int p2, .int p1, .int 0]))] H := hP
  have hD : va_D A [(h0, .inr (3, [.int p0, .int p2, .int p1, .int 0]))] := hD
  refine lv_aload_n hx hb d_Fit_init_19 rfl (lv_at hl 0 rfl) ?_
  refine lv_iload hx hb d_Fit_init_20 (lv_at hl 4 rfl) ?_
  refine va_putF (D := g.1) (ci := 3) (v := .int p3) (ty := .int) (C := "BoxGlue$Fit") (T := kT_Fit) (N := 4) hx hb hts ki_Fit kt_Fit ko_Fit kn_Fit hown hK hP hD hS 0 rfl rfl 3 (by decide) (hts _ kw_93) (fun _ h9 => h9) rfl hin rfl (by decide +kernel) rfl rfl (Nat.le_of_ble_eq_true rfl) d_Fit_init_22 (fun H locs hP hD hS => ?_)
  have hP : va_P g.1 kcl [(h0, .inr (3, [.int p0, .int p2, .int p1, .int p3]))] H := hP
  have hD : va_D A [(h0, .inr (3, [.int p0, .int p2, .int p1, .int p3]))] := hD
  exact W.vret hx hb hr (fun t ht hW => ⟨_, rfl, rfl, by rw [ht]; exact (kE.ofS hS).wk (fun q hq h => by rw [← hAe] at h; rcases h with h | h; exact h; omega), by rw [ht]; exact k_at0 hP 0 rfl⟩) hS.2.2 d_Fit_init_25
set_option maxHeartbeats 4000000 in
set_option maxRecDepth 100000 in
theorem c_Placed_init (l : Launch) (g : KGt) (H0 : Heap) (h0 : Nat) (p0 : Nat) (p1 : Int32) (p2 : Int32) (o0 : va_at g.1 kcl (h0, .inr (9, [.null, .int 0, .int 0])) H0) : Met l y_Placed_init (kW y_Placed_init b_Placed_init 4 (.none : Option FieldType)) ({ frames := 1, cells := 0, slots := 0, locals := 12 }) (kPc [.ref h0, .ref p0, .int p1, .int p2] (KK g) H0) (kQc (fun v H1 => v = none ∧ kE (fun q => q = h0) H0 H1 ∧ va_at g.1 kcl (h0, .inr (9, [.ref p0, .int p1, .int p2])) H1)) 0 0 (fun q : Nat => q = h0 ∨ H0.size ≤ q) := by
  refine Met.ofW (cc := b_Placed_init) (maxL := 4) (ret := (.none : Option FieldType)) (by decide) rfl ?_
  intro p e s m args below meth c s₁ B hml hv
  obtain ⟨rfl, hH, hKK⟩ := hv
  have hx := B.exec
  have hb := B.bytes
  have hr := B.returns
  have hts := kW_ts (atoms_spec (ws := kW y_Placed_init b_Placed_init 4 (.none : Option FieldType)) B.pre)
  have hown : s.vm.findClass "BoxGlue$Placed" = some m.cls := findClass_of_methodNamed B.named
  have hlocks := B.notSynchronized
  have hK := hKK.1
  subst hH
  have hl := lv_entry ([.ref h0, .ref p0, .int p1, .int p2]) (n := 4) (Nat.le_of_ble_eq_true rfl)
  rw [lg_entry_eq]
  generalize (lg_sl ([.ref h0, .ref p0, .int p1, .int p2]) ++ List.replicate (4 - (lg_sl ([.ref h0, .ref p0, .int p1, .int p2])).length) Slot.unset).toArray = ls at hl ⊢
  have hl : lv_has ls 4 [(0, .ref h0), (1, .ref p0), (2, .int p1), (3, .int p2)] := hl
  have hin : meth.name = "<init>" := (name_of_methodNamed B.named B.method).1
  generalize hAe : (fun q : Nat => q = h0 ∨ s.heap.size ≤ q) = A
  have hA : ∀ q : Nat, s.heap.size ≤ q → A q := fun q h => by rw [← hAe]; exact Or.inr h
  have hS : va_S A s.heap s.heap [] := va_S.rf
  have hP : va_P g.1 kcl [(h0, .inr (9, [.null, .int 0, .int 0]))] s.heap := k_one o0
  have hD : va_D A [(h0, .inr (9, [.null, .int 0, .int 0]))] := k_D1 (by rw [← hAe]; exact Or.inl rfl)
  refine lv_aload_n hx hb d_Placed_init_0 rfl (lv_at hl 0 rfl) ?_
  refine W.objInit hx hb hown (hts _ kw_437) (hts _ kw_27) (hts _ kw_28) rfl (by rw [hml]; exact hl.1) rfl d_Placed_init_1 (Nat.le_of_ble_eq_true rfl) (Nat.le_of_ble_eq_true rfl) ?_
  refine W.eq (g2 := F0 m 4 ls []) rfl ?_
  refine lv_aload_n hx hb d_Placed_init_4 rfl (lv_at hl 0 rfl) ?_
  refine lv_aload_n hx hb d_Placed_init_5 rfl (lv_at hl 1 rfl) ?_
  refine va_putF (D := g.1) (ci := 9) (v := .ref p0) (ty := .object "BoxGlue$Item") (C := "BoxGlue$Placed") (T := kT_Placed) (N := 3) hx hb hts ki_Placed kt_Placed ko_Placed kn_Placed hown hK hP hD hS 0 rfl rfl 0 (by decide) (hts _ kw_438) (fun _ h9 => h9) rfl hin rfl (by decide +kernel) rfl rfl (Nat.le_of_ble_eq_true rfl) d_Placed_init_6 (fun H locs hP hD hS => ?_)
  have hP : va_P g.1 kcl [(h0, .inr (9, [.ref p0, .int 0, .int 0]))] H := hP
  have hD : va_D A [(h0, .inr (9, [.ref p0, .int 0, .int 0]))] := hD
  refine lv_aload_n hx hb d_Placed_init_9 rfl (lv_at hl 0 rfl) ?_
  refine lv_iload_n hx hb d_Placed_init_10 rfl (lv_at hl 2 rfl) ?_
  refine va_putF (D := g.1) (ci := 9) (v := .int p1) (ty := .int) (C := "BoxGlue$Placed") (T := kT_Placed) (N := 3) hx hb hts ki_Placed kt_Placed ko_Placed kn_Placed hown hK hP hD hS 0 rfl rfl 1 (by decide) (hts _ kw_440) (fun _ h9 => h9) rfl hin rfl (by decide +kernel) rfl rfl (Nat.le_of_ble_eq_true rfl) d_Placed_init_11 (fun H locs hP hD hS => ?_)
  have hP : va_P g.1 kcl [(h0, .inr (9, [.ref p0, .int p1, .int 0]))] H := hP
  have hD : va_D A [(h0, .inr (9, [.ref p0, .int p1, .int 0]))] := hD
  refine lv_aload_n hx hb d_Placed_init_14 rfl (lv_at hl 0 rfl) ?_
  refine lv_iload_n hx hb d_Placed_init_15 rfl (lv_at hl 3 rfl) ?_
  refine va_putF (D := g.1) (ci := 9) (v := .int p2) (ty := .int) (C := "BoxGlue$Placed") (T := kT_Placed) (N := 3) hx hb hts ki_Placed kt_Placed ko_Placed kn_Placed hown hK hP hD hS 0 rfl rfl 2 (by decide) (hts _ kw_441) (fun _ h9 => h9) rfl hin rfl (by decide +kernel) rfl rfl (Nat.le_of_ble_eq_true rfl) d_Placed_init_16 (fun H locs hP hD hS => ?_)
  have hP : va_P g.1 kcl [(h0, .inr (9, [.ref p0, .int p1, .int p2]))] H := hP
  have hD : va_D A [(h0, .inr (9, [.ref p0, .int p1, .int p2]))] := hD
  exact W.vret hx hb hr (fun t ht hW => ⟨_, rfl, rfl, by rw [ht]; exact (kE.ofS hS).wk (fun q hq h => by rw [← hAe] at h; rcases h with h | h; exact h; omega), by rw [ht]; exact k_at0 hP 0 rfl⟩) hS.2.2 d_Placed_init_19
set_option maxHeartbeats 4000000 in
set_option maxRecDepth 100000 in
theorem c_Box_init (l : Launch) (g : KGt) (H0 : Heap) (h0 : Nat) (p0 : Int32) (p1 : Int32) (p2 : Int32) (p3 : Nat) (p4 : Nat) (o0 : va_at g.1 kcl (h0, .inr (2, [.int 0, .int 0, .int 0, .null, .null])) H0) : Met l y_Box_init (kW y_Box_init b_Box_init 6 (.none : Option FieldType)) ({ frames := 1, cells := 0, slots := 0, locals := 12 }) (kPc [.ref h0, .int p0, .int p1, .int p2, .ref p3, .ref p4] (KK g) H0) (kQc (fun v H1 => v = none ∧ kE (fun q => q = h0) H0 H1 ∧ va_at g.1 kcl (h0, .inr (2, [.int p0, .int p1, .int p2, .ref p4, .ref p3])) H1)) 0 0 (fun q : Nat => q = h0 ∨ H0.size ≤ q) := by
  refine Met.ofW (cc := b_Box_init) (maxL := 6) (ret := (.none : Option FieldType)) (by decide) rfl ?_
  intro p e s m args below meth c s₁ B hml hv
  obtain ⟨rfl, hH, hKK⟩ := hv
  have hx := B.exec
  have hb := B.bytes
  have hr := B.returns
  have hts := kW_ts (atoms_spec (ws := kW y_Box_init b_Box_init 6 (.none : Option FieldType)) B.pre)
  have hown : s.vm.findClass "BoxGlue$Box" = some m.cls := findClass_of_methodNamed B.named
  have hlocks := B.notSynchronized
  have hK := hKK.1
  subst hH
  have hl := lv_entry ([.ref h0, .int p0, .int p1, .int p2, .ref p3, .ref p4]) (n := 6) (Nat.le_of_ble_eq_true rfl)
  rw [lg_entry_eq]
  generalize (lg_sl ([.ref h0, .int p0, .int p1, .int p2, .ref p3, .ref p4]) ++ List.replicate (6 - (lg_sl ([.ref h0, .int p0, .int p1, .int p2, .ref p3, .ref p4])).length) Slot.unset).toArray = ls at hl ⊢
  have hl : lv_has ls 6 [(0, .ref h0), (1, .int p0), (2, .int p1), (3, .int p2), (4, .ref p3), (5, .ref p4)] := hl
  have hin : meth.name = "<init>" := (name_of_methodNamed B.named B.method).1
  generalize hAe : (fun q : Nat => q = h0 ∨ s.heap.size ≤ q) = A
  have hA : ∀ q : Nat, s.heap.size ≤ q → A q := fun q h => by rw [← hAe]; exact Or.inr h
  have hS : va_S A s.heap s.heap [] := va_S.rf
  have hP : va_P g.1 kcl [(h0, .inr (2, [.int 0, .int 0, .int 0, .null, .null]))] s.heap := k_one o0
  have hD : va_D A [(h0, .inr (2, [.int 0, .int 0, .int 0, .null, .null]))] := k_D1 (by rw [← hAe]; exact Or.inl rfl)
  refine lv_aload_n hx hb d_Box_init_0 rfl (lv_at hl 0 rfl) ?_
  refine W.objInit hx hb hown (hts _ kw_108) (hts _ kw_27) (hts _ kw_28) rfl (by rw [hml]; exact hl.1) rfl d_Box_init_1 (Nat.le_of_ble_eq_true rfl) (Nat.le_of_ble_eq_true rfl) ?_
  refine W.eq (g2 := F0 m 4 ls []) rfl ?_
  refine lv_aload_n hx hb d_Box_init_4 rfl (lv_at hl 0 rfl) ?_
  refine lv_iload_n hx hb d_Box_init_5 rfl (lv_at hl 1 rfl) ?_
  refine va_putF (D := g.1) (ci := 2) (v := .int p0) (ty := .int) (C := "BoxGlue$Box") (T := kT_Box) (N := 5) hx hb hts ki_Box kt_Box ko_Box kn_Box hown hK hP hD hS 0 rfl rfl 0 (by decide) (hts _ kw_110) (fun _ h9 => h9) rfl hin rfl (by decide +kernel) rfl rfl (Nat.le_of_ble_eq_true rfl) d_Box_init_6 (fun H locs hP hD hS => ?_)
  have hP : va_P g.1 kcl [(h0, .inr (2, [.int p0, .int 0, .int 0, .null, .null]))] H := hP
  have hD : va_D A [(h0, .inr (2, [.int p0, .int 0, .int 0, .null, .null]))] := hD
  refine lv_aload_n hx hb d_Box_init_9 rfl (lv_at hl 0 rfl) ?_
  refine lv_iload_n hx hb d_Box_init_10 rfl (lv_at hl 2 rfl) ?_
  refine va_putF (D := g.1) (ci := 2) (v := .int p1) (ty := .int) (C := "BoxGlue$Box") (T := kT_Box) (N := 5) hx hb hts ki_Box kt_Box ko_Box kn_Box hown hK hP hD hS 0 rfl rfl 1 (by decide) (hts _ kw_112) (fun _ h9 => h9) rfl hin rfl (by decide +kernel) rfl rfl (Nat.le_of_ble_eq_true rfl) d_Box_init_11 (fun H locs hP hD hS => ?_)
  have hP : va_P g.1 kcl [(h0, .inr (2, [.int p0, .int p1, .int 0, .null, .null]))] H := hP
  have hD : va_D A [(h0, .inr (2, [.int p0, .int p1, .int 0, .null, .null]))] := hD
  refine lv_aload_n hx hb d_Box_init_14 rfl (lv_at hl 0 rfl) ?_
  refine lv_iload_n hx hb d_Box_init_15 rfl (lv_at hl 3 rfl) ?_
  refine va_putF (D := g.1) (ci := 2) (v := .int p2) (ty := .int) (C := "BoxGlue$Box") (T := kT_Box) (N := 5) hx hb hts ki_Box kt_Box ko_Box kn_Box hown hK hP hD hS 0 rfl rfl 2 (by decide) (hts _ kw_115) (fun _ h9 => h9) rfl hin rfl (by decide +kernel) rfl rfl (Nat.le_of_ble_eq_true rfl) d_Box_init_16 (fun H locs hP hD hS => ?_)
  have hP : va_P g.1 kcl [(h0, .inr (2, [.int p0, .int p1, .int p2, .null, .null]))] H := hP
  have hD : va_D A [(h0, .inr (2, [.int p0, .int p1, .int p2, .null, .null]))] := hD
  refine lv_aload_n hx hb d_Box_init_19 rfl (lv_at hl 0 rfl) ?_
  refine lv_aload hx hb d_Box_init_20 (lv_at hl 4 rfl) ?_
  refine va_putF (D := g.1) (ci := 2) (v := .ref p3) (ty := .object "BoxGlue$Fit") (C := "BoxGlue$Box") (T := kT_Box) (N := 5) hx hb hts ki_Box kt_Box ko_Box kn_Box hown hK hP hD hS 0 rfl rfl 4 (by decide) (hts _ kw_120) (fun _ h9 => h9) rfl hin rfl (by decide +kernel) rfl rfl (Nat.le_of_ble_eq_true rfl) d_Box_init_22 (fun H locs hP hD hS => ?_)
  have hP : va_P g.1 kcl [(h0, .inr (2, [.int p0, .int p1, .int p2, .null, .ref p3]))] H := hP
  have hD : va_D A [(h0, .inr (2, [.int p0, .int p1, .int p2, .null, .ref p3]))] := hD
  refine lv_aload_n hx hb d_Box_init_25 rfl (lv_at hl 0 rfl) ?_
  refine lv_aload hx hb d_Box_init_26 (lv_at hl 5 rfl) ?_
  refine va_putF (D := g.1) (ci := 2) (v := .ref p4) (ty := .object "java/util/ArrayList") (C := "BoxGlue$Box") (T := kT_Box) (N := 5) hx hb hts ki_Box kt_Box ko_Box kn_Box hown hK hP hD hS 0 rfl rfl 3 (by decide) (hts _ kw_118) (fun _ h9 => h9) rfl hin rfl (by decide +kernel) rfl rfl (Nat.le_of_ble_eq_true rfl) d_Box_init_28 (fun H locs hP hD hS => ?_)
  have hP : va_P g.1 kcl [(h0, .inr (2, [.int p0, .int p1, .int p2, .ref p4, .ref p3]))] H := hP
  have hD : va_D A [(h0, .inr (2, [.int p0, .int p1, .int p2, .ref p4, .ref p3]))] := hD
  exact W.vret hx hb hr (fun t ht hW => ⟨_, rfl, rfl, by rw [ht]; exact (kE.ofS hS).wk (fun q hq h => by rw [← hAe] at h; rcases h with h | h; exact h; omega), by rw [ht]; exact k_at0 hP 0 rfl⟩) hS.2.2 d_Box_init_31
set_option maxHeartbeats 4000000 in
set_option maxRecDepth 100000 in
theorem c_Item_init4 (l : Launch) (g : KGt) (H0 : Heap) (h0 : Nat) (p0 : Int32) (p1 : Int32) (o0 : va_at g.1 kcl (h0, .inr (4, [.int 0, .int 0, .int 0, .int 0])) H0) : Met l y_Item_init (kW y_Item_init b_Item_init 3 (.none : Option FieldType)) ({ frames := 1, cells := 0, slots := 0, locals := 12 }) (kPc [.ref h0, .int p0, .int p1] (KK g) H0) (kQc (fun v H1 => v = none ∧ kE (fun q => q = h0) H0 H1 ∧ va_at g.1 kcl (h0, .inr (4, [.int p0, .int p1, .int 0, .int 0])) H1)) 0 0 (fun q : Nat => q = h0 ∨ H0.size ≤ q) := by
  refine Met.ofW (cc := b_Item_init) (maxL := 3) (ret := (.none : Option FieldType)) (by decide) rfl ?_
  intro p e s m args below meth c s₁ B hml hv
  obtain ⟨rfl, hH, hKK⟩ := hv
  have hx := B.exec
  have hb := B.bytes
  have hr := B.returns
  have hts := kW_ts (atoms_spec (ws := kW y_Item_init b_Item_init 3 (.none : Option FieldType)) B.pre)
  have hown : s.vm.findClass "BoxGlue$Item" = some m.cls := findClass_of_methodNamed B.named
  have hlocks := B.notSynchronized
  have hK := hKK.1
  subst hH
  have hl := lv_entry ([.ref h0, .int p0, .int p1]) (n := 3) (Nat.le_of_ble_eq_true rfl)
  rw [lg_entry_eq]
  generalize (lg_sl ([.ref h0, .int p0, .int p1]) ++ List.replicate (3 - (lg_sl ([.ref h0, .int p0, .int p1])).length) Slot.unset).toArray = ls at hl ⊢
  have hl : lv_has ls 3 [(0, .ref h0), (1, .int p0), (2, .int p1)] := hl
  have hin : meth.name = "<init>" := (name_of_methodNamed B.named B.method).1
  generalize hAe : (fun q : Nat => q = h0 ∨ s.heap.size ≤ q) = A
  have hA : ∀ q : Nat, s.heap.size ≤ q → A q := fun q h => by rw [← hAe]; exact Or.inr h
  have hS : va_S A s.heap s.heap [] := va_S.rf
  have hP : va_P g.1 kcl [(h0, .inr (4, [.int 0, .int 0, .int 0, .int 0]))] s.heap := k_one o0
  have hD : va_D A [(h0, .inr (4, [.int 0, .int 0, .int 0, .int 0]))] := k_D1 (by rw [← hAe]; exact Or.inl rfl)
  refine lv_aload_n hx hb d_Item_init_0 rfl (lv_at hl 0 rfl) ?_
  refine W.objInit hx hb hown (hts _ kw_225) (hts _ kw_27) (hts _ kw_28) rfl (by rw [hml]; exact hl.1) rfl d_Item_init_1 (Nat.le_of_ble_eq_true rfl) (Nat.le_of_ble_eq_true rfl) ?_
  refine W.eq (g2 := F0 m 4 ls []) rfl ?_
  refine lv_aload_n hx hb d_Item_init_4 rfl (lv_at hl 0 rfl) ?_
  refine lv_iload_n hx hb d_Item_init_5 rfl (lv_at hl 1 rfl) ?_
  refine va_putF (D := g.1) (ci := 4) (v := .int p0) (ty := .int) (C := "BoxGlue$Put") (T := kT_Put) (N := 4) hx hb hts ki_Put kt_Put ko_Put kn_Put hown hK hP hD hS 0 rfl rfl 0 (by decide) (hts _ kw_228) (fun _ h9 => h9) rfl hin rfl (by decide +kernel) rfl rfl (Nat.le_of_ble_eq_true rfl) d_Item_init_6 (fun H locs hP hD hS => ?_)
  have hP : va_P g.1 kcl [(h0, .inr (4, [.int p0, .int 0, .int 0, .int 0]))] H := hP
  have hD : va_D A [(h0, .inr (4, [.int p0, .int 0, .int 0, .int 0]))] := hD
  refine lv_aload_n hx hb d_Item_init_9 rfl (lv_at hl 0 rfl) ?_
  refine lv_iload_n hx hb d_Item_init_10 rfl (lv_at hl 2 rfl) ?_
  refine va_putF (D := g.1) (ci := 4) (v := .int p1) (ty := .int) (C := "BoxGlue$Put") (T := kT_Put) (N := 4) hx hb hts ki_Put kt_Put ko_Put kn_Put hown hK hP hD hS 0 rfl rfl 1 (by decide) (hts _ kw_230) (fun _ h9 => h9) rfl hin rfl (by decide +kernel) rfl rfl (Nat.le_of_ble_eq_true rfl) d_Item_init_11 (fun H locs hP hD hS => ?_)
  have hP : va_P g.1 kcl [(h0, .inr (4, [.int p0, .int p1, .int 0, .int 0]))] H := hP
  have hD : va_D A [(h0, .inr (4, [.int p0, .int p1, .int 0, .int 0]))] := hD
  exact W.vret hx hb hr (fun t ht hW => ⟨_, rfl, rfl, by rw [ht]; exact (kE.ofS hS).wk (fun q hq h => by rw [← hAe] at h; rcases h with h | h; exact h; omega), by rw [ht]; exact k_at0 hP 0 rfl⟩) hS.2.2 d_Item_init_14
set_option maxHeartbeats 4000000 in
set_option maxRecDepth 100000 in
theorem c_Item_init5 (l : Launch) (g : KGt) (H0 : Heap) (h0 : Nat) (p0 : Int32) (p1 : Int32) (o0 : va_at g.1 kcl (h0, .inr (5, [.int 0, .int 0, .int 0, .int 0, .int 0, .int 0, .null])) H0) : Met l y_Item_init (kW y_Item_init b_Item_init 3 (.none : Option FieldType)) ({ frames := 1, cells := 0, slots := 0, locals := 12 }) (kPc [.ref h0, .int p0, .int p1] (KK g) H0) (kQc (fun v H1 => v = none ∧ kE (fun q => q = h0) H0 H1 ∧ va_at g.1 kcl (h0, .inr (5, [.int p0, .int p1, .int 0, .int 0, .int 0, .int 0, .null])) H1)) 0 0 (fun q : Nat => q = h0 ∨ H0.size ≤ q) := by
  refine Met.ofW (cc := b_Item_init) (maxL := 3) (ret := (.none : Option FieldType)) (by decide) rfl ?_
  intro p e s m args below meth c s₁ B hml hv
  obtain ⟨rfl, hH, hKK⟩ := hv
  have hx := B.exec
  have hb := B.bytes
  have hr := B.returns
  have hts := kW_ts (atoms_spec (ws := kW y_Item_init b_Item_init 3 (.none : Option FieldType)) B.pre)
  have hown : s.vm.findClass "BoxGlue$Item" = some m.cls := findClass_of_methodNamed B.named
  have hlocks := B.notSynchronized
  have hK := hKK.1
  subst hH
  have hl := lv_entry ([.ref h0, .int p0, .int p1]) (n := 3) (Nat.le_of_ble_eq_true rfl)
  rw [lg_entry_eq]
  generalize (lg_sl ([.ref h0, .int p0, .int p1]) ++ List.replicate (3 - (lg_sl ([.ref h0, .int p0, .int p1])).length) Slot.unset).toArray = ls at hl ⊢
  have hl : lv_has ls 3 [(0, .ref h0), (1, .int p0), (2, .int p1)] := hl
  have hin : meth.name = "<init>" := (name_of_methodNamed B.named B.method).1
  generalize hAe : (fun q : Nat => q = h0 ∨ s.heap.size ≤ q) = A
  have hA : ∀ q : Nat, s.heap.size ≤ q → A q := fun q h => by rw [← hAe]; exact Or.inr h
  have hS : va_S A s.heap s.heap [] := va_S.rf
  have hP : va_P g.1 kcl [(h0, .inr (5, [.int 0, .int 0, .int 0, .int 0, .int 0, .int 0, .null]))] s.heap := k_one o0
  have hD : va_D A [(h0, .inr (5, [.int 0, .int 0, .int 0, .int 0, .int 0, .int 0, .null]))] := k_D1 (by rw [← hAe]; exact Or.inl rfl)
  refine lv_aload_n hx hb d_Item_init_0 rfl (lv_at hl 0 rfl) ?_
  refine W.objInit hx hb hown (hts _ kw_225) (hts _ kw_27) (hts _ kw_28) rfl (by rw [hml]; exact hl.1) rfl d_Item_init_1 (Nat.le_of_ble_eq_true rfl) (Nat.le_of_ble_eq_true rfl) ?_
  refine W.eq (g2 := F0 m 4 ls []) rfl ?_
  refine lv_aload_n hx hb d_Item_init_4 rfl (lv_at hl 0 rfl) ?_
  refine lv_iload_n hx hb d_Item_init_5 rfl (lv_at hl 1 rfl) ?_
  refine va_putF (D := g.1) (ci := 5) (v := .int p0) (ty := .int) (C := "BoxGlue$Glue") (T := kT_Glue) (N := 7) hx hb hts ki_Glue kt_Glue ko_Glue kn_Glue hown hK hP hD hS 0 rfl rfl 0 (by decide) (hts _ kw_228) (fun _ h9 => h9) rfl hin rfl (by decide +kernel) rfl rfl (Nat.le_of_ble_eq_true rfl) d_Item_init_6 (fun H locs hP hD hS => ?_)
  have hP : va_P g.1 kcl [(h0, .inr (5, [.int p0, .int 0, .int 0, .int 0, .int 0, .int 0, .null]))] H := hP
  have hD : va_D A [(h0, .inr (5, [.int p0, .int 0, .int 0, .int 0, .int 0, .int 0, .null]))] := hD
  refine lv_aload_n hx hb d_Item_init_9 rfl (lv_at hl 0 rfl) ?_
  refine lv_iload_n hx hb d_Item_init_10 rfl (lv_at hl 2 rfl) ?_
  refine va_putF (D := g.1) (ci := 5) (v := .int p1) (ty := .int) (C := "BoxGlue$Glue") (T := kT_Glue) (N := 7) hx hb hts ki_Glue kt_Glue ko_Glue kn_Glue hown hK hP hD hS 0 rfl rfl 1 (by decide) (hts _ kw_230) (fun _ h9 => h9) rfl hin rfl (by decide +kernel) rfl rfl (Nat.le_of_ble_eq_true rfl) d_Item_init_11 (fun H locs hP hD hS => ?_)
  have hP : va_P g.1 kcl [(h0, .inr (5, [.int p0, .int p1, .int 0, .int 0, .int 0, .int 0, .null]))] H := hP
  have hD : va_D A [(h0, .inr (5, [.int p0, .int p1, .int 0, .int 0, .int 0, .int 0, .null]))] := hD
  exact W.vret hx hb hr (fun t ht hW => ⟨_, rfl, rfl, by rw [ht]; exact (kE.ofS hS).wk (fun q hq h => by rw [← hAe] at h; rcases h with h | h; exact h; omega), by rw [ht]; exact k_at0 hP 0 rfl⟩) hS.2.2 d_Item_init_14
set_option maxHeartbeats 4000000 in
set_option maxRecDepth 100000 in
theorem c_Item_init6 (l : Launch) (g : KGt) (H0 : Heap) (h0 : Nat) (p0 : Int32) (p1 : Int32) (o0 : va_at g.1 kcl (h0, .inr (6, [.int 0, .int 0])) H0) : Met l y_Item_init (kW y_Item_init b_Item_init 3 (.none : Option FieldType)) ({ frames := 1, cells := 0, slots := 0, locals := 12 }) (kPc [.ref h0, .int p0, .int p1] (KK g) H0) (kQc (fun v H1 => v = none ∧ kE (fun q => q = h0) H0 H1 ∧ va_at g.1 kcl (h0, .inr (6, [.int p0, .int p1])) H1)) 0 0 (fun q : Nat => q = h0 ∨ H0.size ≤ q) := by
  refine Met.ofW (cc := b_Item_init) (maxL := 3) (ret := (.none : Option FieldType)) (by decide) rfl ?_
  intro p e s m args below meth c s₁ B hml hv
  obtain ⟨rfl, hH, hKK⟩ := hv
  have hx := B.exec
  have hb := B.bytes
  have hr := B.returns
  have hts := kW_ts (atoms_spec (ws := kW y_Item_init b_Item_init 3 (.none : Option FieldType)) B.pre)
  have hown : s.vm.findClass "BoxGlue$Item" = some m.cls := findClass_of_methodNamed B.named
  have hlocks := B.notSynchronized
  have hK := hKK.1
  subst hH
  have hl := lv_entry ([.ref h0, .int p0, .int p1]) (n := 3) (Nat.le_of_ble_eq_true rfl)
  rw [lg_entry_eq]
  generalize (lg_sl ([.ref h0, .int p0, .int p1]) ++ List.replicate (3 - (lg_sl ([.ref h0, .int p0, .int p1])).length) Slot.unset).toArray = ls at hl ⊢
  have hl : lv_has ls 3 [(0, .ref h0), (1, .int p0), (2, .int p1)] := hl
  have hin : meth.name = "<init>" := (name_of_methodNamed B.named B.method).1
  generalize hAe : (fun q : Nat => q = h0 ∨ s.heap.size ≤ q) = A
  have hA : ∀ q : Nat, s.heap.size ≤ q → A q := fun q h => by rw [← hAe]; exact Or.inr h
  have hS : va_S A s.heap s.heap [] := va_S.rf
  have hP : va_P g.1 kcl [(h0, .inr (6, [.int 0, .int 0]))] s.heap := k_one o0
  have hD : va_D A [(h0, .inr (6, [.int 0, .int 0]))] := k_D1 (by rw [← hAe]; exact Or.inl rfl)
  refine lv_aload_n hx hb d_Item_init_0 rfl (lv_at hl 0 rfl) ?_
  refine W.objInit hx hb hown (hts _ kw_225) (hts _ kw_27) (hts _ kw_28) rfl (by rw [hml]; exact hl.1) rfl d_Item_init_1 (Nat.le_of_ble_eq_true rfl) (Nat.le_of_ble_eq_true rfl) ?_
  refine W.eq (g2 := F0 m 4 ls []) rfl ?_
  refine lv_aload_n hx hb d_Item_init_4 rfl (lv_at hl 0 rfl) ?_
  refine lv_iload_n hx hb d_Item_init_5 rfl (lv_at hl 1 rfl) ?_
  refine va_putF (D := g.1) (ci := 6) (v := .int p0) (ty := .int) (C := "BoxGlue$Kern") (T := kT_Kern) (N := 2) hx hb hts ki_Kern kt_Kern ko_Kern kn_Kern hown hK hP hD hS 0 rfl rfl 0 (by decide) (hts _ kw_228) (fun _ h9 => h9) rfl hin rfl (by decide +kernel) rfl rfl (Nat.le_of_ble_eq_true rfl) d_Item_init_6 (fun H locs hP hD hS => ?_)
  have hP : va_P g.1 kcl [(h0, .inr (6, [.int p0, .int 0]))] H := hP
  have hD : va_D A [(h0, .inr (6, [.int p0, .int 0]))] := hD
  refine lv_aload_n hx hb d_Item_init_9 rfl (lv_at hl 0 rfl) ?_
  refine lv_iload_n hx hb d_Item_init_10 rfl (lv_at hl 2 rfl) ?_
  refine va_putF (D := g.1) (ci := 6) (v := .int p1) (ty := .int) (C := "BoxGlue$Kern") (T := kT_Kern) (N := 2) hx hb hts ki_Kern kt_Kern ko_Kern kn_Kern hown hK hP hD hS 0 rfl rfl 1 (by decide) (hts _ kw_230) (fun _ h9 => h9) rfl hin rfl (by decide +kernel) rfl rfl (Nat.le_of_ble_eq_true rfl) d_Item_init_11 (fun H locs hP hD hS => ?_)
  have hP : va_P g.1 kcl [(h0, .inr (6, [.int p0, .int p1]))] H := hP
  have hD : va_D A [(h0, .inr (6, [.int p0, .int p1]))] := hD
  exact W.vret hx hb hr (fun t ht hW => ⟨_, rfl, rfl, by rw [ht]; exact (kE.ofS hS).wk (fun q hq h => by rw [← hAe] at h; rcases h with h | h; exact h; omega), by rw [ht]; exact k_at0 hP 0 rfl⟩) hS.2.2 d_Item_init_14
set_option maxHeartbeats 4000000 in
set_option maxRecDepth 100000 in
theorem c_Item_init7 (l : Launch) (g : KGt) (H0 : Heap) (h0 : Nat) (p0 : Int32) (p1 : Int32) (o0 : va_at g.1 kcl (h0, .inr (7, [.int 0, .int 0, .int 0, .int 0])) H0) : Met l y_Item_init (kW y_Item_init b_Item_init 3 (.none : Option FieldType)) ({ frames := 1, cells := 0, slots := 0, locals := 12 }) (kPc [.ref h0, .int p0, .int p1] (KK g) H0) (kQc (fun v H1 => v = none ∧ kE (fun q => q = h0) H0 H1 ∧ va_at g.1 kcl (h0, .inr (7, [.int p0, .int p1, .int 0, .int 0])) H1)) 0 0 (fun q : Nat => q = h0 ∨ H0.size ≤ q) := by
  refine Met.ofW (cc := b_Item_init) (maxL := 3) (ret := (.none : Option FieldType)) (by decide) rfl ?_
  intro p e s m args below meth c s₁ B hml hv
  obtain ⟨rfl, hH, hKK⟩ := hv
  have hx := B.exec
  have hb := B.bytes
  have hr := B.returns
  have hts := kW_ts (atoms_spec (ws := kW y_Item_init b_Item_init 3 (.none : Option FieldType)) B.pre)
  have hown : s.vm.findClass "BoxGlue$Item" = some m.cls := findClass_of_methodNamed B.named
  have hlocks := B.notSynchronized
  have hK := hKK.1
  subst hH
  have hl := lv_entry ([.ref h0, .int p0, .int p1]) (n := 3) (Nat.le_of_ble_eq_true rfl)
  rw [lg_entry_eq]
  generalize (lg_sl ([.ref h0, .int p0, .int p1]) ++ List.replicate (3 - (lg_sl ([.ref h0, .int p0, .int p1])).length) Slot.unset).toArray = ls at hl ⊢
  have hl : lv_has ls 3 [(0, .ref h0), (1, .int p0), (2, .int p1)] := hl
  have hin : meth.name = "<init>" := (name_of_methodNamed B.named B.method).1
  generalize hAe : (fun q : Nat => q = h0 ∨ s.heap.size ≤ q) = A
  have hA : ∀ q : Nat, s.heap.size ≤ q → A q := fun q h => by rw [← hAe]; exact Or.inr h
  have hS : va_S A s.heap s.heap [] := va_S.rf
  have hP : va_P g.1 kcl [(h0, .inr (7, [.int 0, .int 0, .int 0, .int 0]))] s.heap := k_one o0
  have hD : va_D A [(h0, .inr (7, [.int 0, .int 0, .int 0, .int 0]))] := k_D1 (by rw [← hAe]; exact Or.inl rfl)
  refine lv_aload_n hx hb d_Item_init_0 rfl (lv_at hl 0 rfl) ?_
  refine W.objInit hx hb hown (hts _ kw_225) (hts _ kw_27) (hts _ kw_28) rfl (by rw [hml]; exact hl.1) rfl d_Item_init_1 (Nat.le_of_ble_eq_true rfl) (Nat.le_of_ble_eq_true rfl) ?_
  refine W.eq (g2 := F0 m 4 ls []) rfl ?_
  refine lv_aload_n hx hb d_Item_init_4 rfl (lv_at hl 0 rfl) ?_
  refine lv_iload_n hx hb d_Item_init_5 rfl (lv_at hl 1 rfl) ?_
  refine va_putF (D := g.1) (ci := 7) (v := .int p0) (ty := .int) (C := "BoxGlue$Rule") (T := kT_Rule) (N := 4) hx hb hts ki_Rule kt_Rule ko_Rule kn_Rule hown hK hP hD hS 0 rfl rfl 0 (by decide) (hts _ kw_228) (fun _ h9 => h9) rfl hin rfl (by decide +kernel) rfl rfl (Nat.le_of_ble_eq_true rfl) d_Item_init_6 (fun H locs hP hD hS => ?_)
  have hP : va_P g.1 kcl [(h0, .inr (7, [.int p0, .int 0, .int 0, .int 0]))] H := hP
  have hD : va_D A [(h0, .inr (7, [.int p0, .int 0, .int 0, .int 0]))] := hD
  refine lv_aload_n hx hb d_Item_init_9 rfl (lv_at hl 0 rfl) ?_
  refine lv_iload_n hx hb d_Item_init_10 rfl (lv_at hl 2 rfl) ?_
  refine va_putF (D := g.1) (ci := 7) (v := .int p1) (ty := .int) (C := "BoxGlue$Rule") (T := kT_Rule) (N := 4) hx hb hts ki_Rule kt_Rule ko_Rule kn_Rule hown hK hP hD hS 0 rfl rfl 1 (by decide) (hts _ kw_230) (fun _ h9 => h9) rfl hin rfl (by decide +kernel) rfl rfl (Nat.le_of_ble_eq_true rfl) d_Item_init_11 (fun H locs hP hD hS => ?_)
  have hP : va_P g.1 kcl [(h0, .inr (7, [.int p0, .int p1, .int 0, .int 0]))] H := hP
  have hD : va_D A [(h0, .inr (7, [.int p0, .int p1, .int 0, .int 0]))] := hD
  exact W.vret hx hb hr (fun t ht hW => ⟨_, rfl, rfl, by rw [ht]; exact (kE.ofS hS).wk (fun q hq h => by rw [← hAe] at h; rcases h with h | h; exact h; omega), by rw [ht]; exact k_at0 hP 0 rfl⟩) hS.2.2 d_Item_init_14
set_option maxHeartbeats 4000000 in
set_option maxRecDepth 100000 in
theorem c_Kern_init (l : Launch) (g : KGt) (H0 : Heap) (h0 : Nat) (p0 : Int32) (o0 : va_at g.1 kcl (h0, .inr (6, [.int 0, .int 0])) H0) : Met l y_Kern_init (kW y_Kern_init b_Kern_init 2 (.none : Option FieldType)) ({ frames := 2, cells := 0, slots := 0, locals := 34 }) (kPc [.ref h0, .int p0] (KK g) H0) (kQc (fun v H1 => v = none ∧ kE (fun q => q = h0) H0 H1 ∧ va_at g.1 kcl (h0, .inr (6, [.int 3, .int p0])) H1)) 0 0 (fun q : Nat => q = h0 ∨ H0.size ≤ q) := by
  refine Met.ofW (cc := b_Kern_init) (maxL := 2) (ret := (.none : Option FieldType)) (by decide) rfl ?_
  intro p e s m args below meth c s₁ B hml hv
  obtain ⟨rfl, hH, hKK⟩ := hv
  have hx := B.exec
  have hb := B.bytes
  have hr := B.returns
  have hts := kW_ts (atoms_spec (ws := kW y_Kern_init b_Kern_init 2 (.none : Option FieldType)) B.pre)
  have hown : s.vm.findClass "BoxGlue$Kern" = some m.cls := findClass_of_methodNamed B.named
  have hlocks := B.notSynchronized
  have hK := hKK.1
  subst hH
  have hl := lv_entry ([.ref h0, .int p0]) (n := 2) (Nat.le_of_ble_eq_true rfl)
  rw [lg_entry_eq]
  generalize (lg_sl ([.ref h0, .int p0]) ++ List.replicate (2 - (lg_sl ([.ref h0, .int p0])).length) Slot.unset).toArray = ls at hl ⊢
  have hl : lv_has ls 2 [(0, .ref h0), (1, .int p0)] := hl
  have hin : meth.name = "<init>" := (name_of_methodNamed B.named B.method).1
  generalize hAe : (fun q : Nat => q = h0 ∨ s.heap.size ≤ q) = A
  have hA : ∀ q : Nat, s.heap.size ≤ q → A q := fun q h => by rw [← hAe]; exact Or.inr h
  have hS : va_S A s.heap s.heap [] := va_S.rf
  have hP : va_P g.1 kcl [(h0, .inr (6, [.int 0, .int 0]))] s.heap := k_one o0
  have hD : va_D A [(h0, .inr (6, [.int 0, .int 0]))] := k_D1 (by rw [← hAe]; exact Or.inl rfl)
  refine lv_aload_n hx hb d_Kern_init_0 rfl (lv_at hl 0 rfl) ?_
  refine lv_iconst (v := 3) hx hb d_Kern_init_1 (by decide) ?_
  refine lv_iload_n hx hb d_Kern_init_2 rfl (lv_at hl 1 rfl) ?_
  refine k_call (A := A) (W.runI (As := [.int 3, .int p0]) (rest := []) ⟨hx, hb, hml, hown, hts⟩ (c_Item_init6 l g s.heap h0 3 p0 o0) (cwI 2 hts (kW_good kw_224) rfl rfl rfl (hts _ kw_12) (hts _ kw_301) (hts _ kw_223) rfl (by decide +kernel) ⟨Nat.le_of_ble_eq_true rfl, Nat.le_of_ble_eq_true rfl⟩) (k_pre (KK_st g) hKK) rfl rfl hl.1 rfl (lv_room (Nat.le_of_ble_eq_true rfl)) d_Kern_init_3 ⟨Nat.le_of_ble_eq_true rfl, Nat.le_of_ble_eq_true rfl⟩) hS.2.2 (fun q h => by rw [← hAe]; exact h) (fun v H locs hv hL => ?_)
  obtain ⟨rfl, hE, o1⟩ := hv
  have hP : va_P g.1 kcl [(h0, .inr (6, [.int 3, .int p0]))] H := k_one o1
  have hD : va_D A [(h0, .inr (6, [.int 3, .int p0]))] := k_D1 (by rw [← hAe]; exact Or.inl rfl)
  have hS : va_S A s.heap H locs := (hE.wk (fun q _ h => by rw [← hAe]; exact Or.inl h)).S hL
  exact W.vret hx hb hr (fun t ht hW => ⟨_, rfl, rfl, by rw [ht]; exact (kE.ofS hS).wk (fun q hq h => by rw [← hAe] at h; rcases h with h | h; exact h; omega), by rw [ht]; exact k_at0 hP 0 rfl⟩) hS.2.2 d_Kern_init_6
set_option maxHeartbeats 4000000 in
set_option maxRecDepth 100000 in
theorem c_Rule_init (l : Launch) (g : KGt) (H0 : Heap) (h0 : Nat) (p0 : Int32) (p1 : Int32) (p2 : Int32) (o0 : va_at g.1 kcl (h0, .inr (7, [.int 0, .int 0, .int 0, .int 0])) H0) : Met l y_Rule_init (kW y_Rule_init b_Rule_init 4 (.none : Option FieldType)) ({ frames := 2, cells := 0, slots := 0, locals := 34 }) (kPc [.ref h0, .int p0, .int p1, .int p2] (KK g) H0) (kQc (fun v H1 => v = none ∧ kE (fun q => q = h0) H0 H1 ∧ va_at g.1 kcl (h0, .inr (7, [.int 4, .int p0, .int p1, .int p2])) H1)) 0 0 (fun q : Nat => q = h0 ∨ H0.size ≤ q) := by
  refine Met.ofW (cc := b_Rule_init) (maxL := 4) (ret := (.none : Option FieldType)) (by decide) rfl ?_
  intro p e s m args below meth c s₁ B hml hv
  obtain ⟨rfl, hH, hKK⟩ := hv
  have hx := B.exec
  have hb := B.bytes
  have hr := B.returns
  have hts := kW_ts (atoms_spec (ws := kW y_Rule_init b_Rule_init 4 (.none : Option FieldType)) B.pre)
  have hown : s.vm.findClass "BoxGlue$Rule" = some m.cls := findClass_of_methodNamed B.named
  have hlocks := B.notSynchronized
  have hK := hKK.1
  subst hH
  have hl := lv_entry ([.ref h0, .int p0, .int p1, .int p2]) (n := 4) (Nat.le_of_ble_eq_true rfl)
  rw [lg_entry_eq]
  generalize (lg_sl ([.ref h0, .int p0, .int p1, .int p2]) ++ List.replicate (4 - (lg_sl ([.ref h0, .int p0, .int p1, .int p2])).length) Slot.unset).toArray = ls at hl ⊢
  have hl : lv_has ls 4 [(0, .ref h0), (1, .int p0), (2, .int p1), (3, .int p2)] := hl
  have hin : meth.name = "<init>" := (name_of_methodNamed B.named B.method).1
  generalize hAe : (fun q : Nat => q = h0 ∨ s.heap.size ≤ q) = A
  have hA : ∀ q : Nat, s.heap.size ≤ q → A q := fun q h => by rw [← hAe]; exact Or.inr h
  have hS : va_S A s.heap s.heap [] := va_S.rf
  have hP : va_P g.1 kcl [(h0, .inr (7, [.int 0, .int 0, .int 0, .int 0]))] s.heap := k_one o0
  have hD : va_D A [(h0, .inr (7, [.int 0, .int 0, .int 0, .int 0]))] := k_D1 (by rw [← hAe]; exact Or.inl rfl)
  refine lv_aload_n hx hb d_Rule_init_0 rfl (lv_at hl 0 rfl) ?_
  refine lv_iconst (v := 4) hx hb d_Rule_init_1 (by decide) ?_
  refine lv_iload_n hx hb d_Rule_init_2 rfl (lv_at hl 1 rfl) ?_
  refine k_call (A := A) (W.runI (As := [.int 4, .int p0]) (rest := []) ⟨hx, hb, hml, hown, hts⟩ (c_Item_init7 l g s.heap h0 4 p0 o0) (cwI 2 hts (kW_good kw_224) rfl rfl rfl (hts _ kw_12) (hts _ kw_318) (hts _ kw_223) rfl (by decide +kernel) ⟨Nat.le_of_ble_eq_true rfl, Nat.le_of_ble_eq_true rfl⟩) (k_pre (KK_st g) hKK) rfl rfl hl.1 rfl (lv_room (Nat.le_of_ble_eq_true rfl)) d_Rule_init_3 ⟨Nat.le_of_ble_eq_true rfl, Nat.le_of_ble_eq_true rfl⟩) hS.2.2 (fun q h => by rw [← hAe]; exact h) (fun v H locs hv hL => ?_)
  obtain ⟨rfl, hE, o1⟩ := hv
  have hP : va_P g.1 kcl [(h0, .inr (7, [.int 4, .int p0, .int 0, .int 0]))] H := k_one o1
  have hD : va_D A [(h0, .inr (7, [.int 4, .int p0, .int 0, .int 0]))] := k_D1 (by rw [← hAe]; exact Or.inl rfl)
  have hS : va_S A s.heap H locs := (hE.wk (fun q _ h => by rw [← hAe]; exact Or.inl h)).S hL
  refine lv_aload_n hx hb d_Rule_init_6 rfl (lv_at hl 0 rfl) ?_
  refine lv_iload_n hx hb d_Rule_init_7 rfl (lv_at hl 2 rfl) ?_
  refine va_putF (D := g.1) (ci := 7) (v := .int p1) (ty := .int) (C := "BoxGlue$Rule") (T := kT_Rule) (N := 4) hx hb hts ki_Rule kt_Rule ko_Rule kn_Rule hown hK hP hD hS 0 rfl rfl 2 (by decide) (hts _ kw_319) (fun _ h9 => h9) rfl hin rfl (by decide +kernel) rfl rfl (Nat.le_of_ble_eq_true rfl) d_Rule_init_8 (fun H locs hP hD hS => ?_)
  have hP : va_P g.1 kcl [(h0, .inr (7, [.int 4, .int p0, .int p1, .int 0]))] H := hP
  have hD : va_D A [(h0, .inr (7, [.int 4, .int p0, .int p1, .int 0]))] := hD
  refine lv_aload_n hx hb d_Rule_init_11 rfl (lv_at hl 0 rfl) ?_
  refine lv_iload_n hx hb d_Rule_init_12 rfl (lv_at hl 3 rfl) ?_
  refine va_putF (D := g.1) (ci := 7) (v := .int p2) (ty := .int) (C := "BoxGlue$Rule") (T := kT_Rule) (N := 4) hx hb hts ki_Rule kt_Rule ko_Rule kn_Rule hown hK hP hD hS 0 rfl rfl 3 (by decide) (hts _ kw_320) (fun _ h9 => h9) rfl hin rfl (by decide +kernel) rfl rfl (Nat.le_of_ble_eq_true rfl) d_Rule_init_13 (fun H locs hP hD hS => ?_)
  have hP : va_P g.1 kcl [(h0, .inr (7, [.int 4, .int p0, .int p1, .int p2]))] H := hP
  have hD : va_D A [(h0, .inr (7, [.int 4, .int p0, .int p1, .int p2]))] := hD
  exact W.vret hx hb hr (fun t ht hW => ⟨_, rfl, rfl, by rw [ht]; exact (kE.ofS hS).wk (fun q hq h => by rw [← hAe] at h; rcases h with h | h; exact h; omega), by rw [ht]; exact k_at0 hP 0 rfl⟩) hS.2.2 d_Rule_init_16
set_option maxHeartbeats 4000000 in
set_option maxRecDepth 100000 in
theorem c_Glue_init (l : Launch) (g : KGt) (H0 : Heap) (h0 : Nat) (p0 : Int32) (p1 : Int32) (p2 : Int32) (p3 : Int32) (p4 : Int32) (p5 : Nat) (o0 : va_at g.1 kcl (h0, .inr (5, [.int 0, .int 0, .int 0, .int 0, .int 0, .int 0, .null])) H0) : Met l y_Glue_init (kW y_Glue_init b_Glue_init 7 (.none : Option FieldType)) ({ frames := 2, cells := 0, slots := 0, locals := 34 }) (kPc [.ref h0, .int p0, .int p1, .int p2, .int p3, .int p4, .ref p5] (KK g) H0) (kQc (fun v H1 => v = none ∧ kE (fun q => q = h0) H0 H1 ∧ va_at g.1 kcl (h0, .inr (5, [.int 2, .int p0, .int p1, .int p2, .int p3, .int p4, .ref p5])) H1)) 0 0 (fun q : Nat => q = h0 ∨ H0.size ≤ q) := by
  refine Met.ofW (cc := b_Glue_init) (maxL := 7) (ret := (.none : Option FieldType)) (by decide) rfl ?_
  intro p e s m args below meth c s₁ B hml hv
  obtain ⟨rfl, hH, hKK⟩ := hv
  have hx := B.exec
  have hb := B.bytes
  have hr := B.returns
  have hts := kW_ts (atoms_spec (ws := kW y_Glue_init b_Glue_init 7 (.none : Option FieldType)) B.pre)
  have hown : s.vm.findClass "BoxGlue$Glue" = some m.cls := findClass_of_methodNamed B.named
  have hlocks := B.notSynchronized
  have hK := hKK.1
  subst hH
  have hl := lv_entry ([.ref h0, .int p0, .int p1, .int p2, .int p3, .int p4, .ref p5]) (n := 7) (Nat.le_of_ble_eq_true rfl)
  rw [lg_entry_eq]
  generalize (lg_sl ([.ref h0, .int p0, .int p1, .int p2, .int p3, .int p4, .ref p5]) ++ List.replicate (7 - (lg_sl ([.ref h0, .int p0, .int p1, .int p2, .int p3, .int p4, .ref p5])).length) Slot.unset).toArray = ls at hl ⊢
  have hl : lv_has ls 7 [(0, .ref h0), (1, .int p0), (2, .int p1), (3, .int p2), (4, .int p3), (5, .int p4), (6, .ref p5)] := hl
  have hin : meth.name = "<init>" := (name_of_methodNamed B.named B.method).1
  generalize hAe : (fun q : Nat => q = h0 ∨ s.heap.size ≤ q) = A
  have hA : ∀ q : Nat, s.heap.size ≤ q → A q := fun q h => by rw [← hAe]; exact Or.inr h
  have hS : va_S A s.heap s.heap [] := va_S.rf
  have hP : va_P g.1 kcl [(h0, .inr (5, [.int 0, .int 0, .int 0, .int 0, .int 0, .int 0, .null]))] s.heap := k_one o0
  have hD : va_D A [(h0, .inr (5, [.int 0, .int 0, .int 0, .int 0, .int 0, .int 0, .null]))] := k_D1 (by rw [← hAe]; exact Or.inl rfl)
  refine lv_aload_n hx hb d_Glue_init_0 rfl (lv_at hl 0 rfl) ?_
  refine lv_iconst (v := 2) hx hb d_Glue_init_1 (by decide) ?_
  refine lv_iload_n hx hb d_Glue_init_2 rfl (lv_at hl 1 rfl) ?_
  refine k_call (A := A) (W.runI (As := [.int 2, .int p0]) (rest := []) ⟨hx, hb, hml, hown, hts⟩ (c_Item_init5 l g s.heap h0 2 p0 o0) (cwI 2 hts (kW_good kw_224) rfl rfl rfl (hts _ kw_12) (hts _ kw_273) (hts _ kw_223) rfl (by decide +kernel) ⟨Nat.le_of_ble_eq_true rfl, Nat.le_of_ble_eq_true rfl⟩) (k_pre (KK_st g) hKK) rfl rfl hl.1 rfl (lv_room (Nat.le_of_ble_eq_true rfl)) d_Glue_init_3 ⟨Nat.le_of_ble_eq_true rfl, Nat.le_of_ble_eq_true rfl⟩) hS.2.2 (fun q h => by rw [← hAe]; exact h) (fun v H locs hv hL => ?_)
  obtain ⟨rfl, hE, o1⟩ := hv
  have hP : va_P g.1 kcl [(h0, .inr (5, [.int 2, .int p0, .int 0, .int 0, .int 0, .int 0, .null]))] H := k_one o1
  have hD : va_D A [(h0, .inr (5, [.int 2, .int p0, .int 0, .int 0, .int 0, .int 0, .null]))] := k_D1 (by rw [← hAe]; exact Or.inl rfl)
  have hS : va_S A s.heap H locs := (hE.wk (fun q _ h => by rw [← hAe]; exact Or.inl h)).S hL
  refine lv_aload_n hx hb d_Glue_init_6 rfl (lv_at hl 0 rfl) ?_
  refine lv_iload_n hx hb d_Glue_init_7 rfl (lv_at hl 2 rfl) ?_
  refine va_putF (D := g.1) (ci := 5) (v := .int p1) (ty := .int) (C := "BoxGlue$Glue") (T := kT_Glue) (N := 7) hx hb hts ki_Glue kt_Glue ko_Glue kn_Glue hown hK hP hD hS 0 rfl rfl 2 (by decide) (hts _ kw_274) (fun _ h9 => h9) rfl hin rfl (by decide +kernel) rfl rfl (Nat.le_of_ble_eq_true rfl) d_Glue_init_8 (fun H locs hP hD hS => ?_)
  have hP : va_P g.1 kcl [(h0, .inr (5, [.int 2, .int p0, .int p1, .int 0, .int 0, .int 0, .null]))] H := hP
  have hD : va_D A [(h0, .inr (5, [.int 2, .int p0, .int p1, .int 0, .int 0, .int 0, .null]))] := hD
  refine lv_aload_n hx hb d_Glue_init_11 rfl (lv_at hl 0 rfl) ?_
  refine lv_iload_n hx hb d_Glue_init_12 rfl (lv_at hl 3 rfl) ?_
  refine va_putF (D := g.1) (ci := 5) (v := .int p2) (ty := .int) (C := "BoxGlue$Glue") (T := kT_Glue) (N := 7) hx hb hts ki_Glue kt_Glue ko_Glue kn_Glue hown hK hP hD hS 0 rfl rfl 3 (by decide) (hts _ kw_275) (fun _ h9 => h9) rfl hin rfl (by decide +kernel) rfl rfl (Nat.le_of_ble_eq_true rfl) d_Glue_init_13 (fun H locs hP hD hS => ?_)
  have hP : va_P g.1 kcl [(h0, .inr (5, [.int 2, .int p0, .int p1, .int p2, .int 0, .int 0, .null]))] H := hP
  have hD : va_D A [(h0, .inr (5, [.int 2, .int p0, .int p1, .int p2, .int 0, .int 0, .null]))] := hD
  refine lv_aload_n hx hb d_Glue_init_16 rfl (lv_at hl 0 rfl) ?_
  refine lv_iload hx hb d_Glue_init_17 (lv_at hl 4 rfl) ?_
  refine va_putF (D := g.1) (ci := 5) (v := .int p3) (ty := .int) (C := "BoxGlue$Glue") (T := kT_Glue) (N := 7) hx hb hts ki_Glue kt_Glue ko_Glue kn_Glue hown hK hP hD hS 0 rfl rfl 4 (by decide) (hts _ kw_276) (fun _ h9 => h9) rfl hin rfl (by decide +kernel) rfl rfl (Nat.le_of_ble_eq_true rfl) d_Glue_init_19 (fun H locs hP hD hS => ?_)
  have hP : va_P g.1 kcl [(h0, .inr (5, [.int 2, .int p0, .int p1, .int p2, .int p3, .int 0, .null]))] H := hP
  have hD : va_D A [(h0, .inr (5, [.int 2, .int p0, .int p1, .int p2, .int p3, .int 0, .null]))] := hD
  refine lv_aload_n hx hb d_Glue_init_22 rfl (lv_at hl 0 rfl) ?_
  refine lv_iload hx hb d_Glue_init_23 (lv_at hl 5 rfl) ?_
  refine va_putF (D := g.1) (ci := 5) (v := .int p4) (ty := .int) (C := "BoxGlue$Glue") (T := kT_Glue) (N := 7) hx hb hts ki_Glue kt_Glue ko_Glue kn_Glue hown hK hP hD hS 0 rfl rfl 5 (by decide) (hts _ kw_277) (fun _ h9 => h9) rfl hin rfl (by decide +kernel) rfl rfl (Nat.le_of_ble_eq_true rfl) d_Glue_init_25 (fun H locs hP hD hS => ?_)
  have hP : va_P g.1 kcl [(h0, .inr (5, [.int 2, .int p0, .int p1, .int p2, .int p3, .int p4, .null]))] H := hP
  have hD : va_D A [(h0, .inr (5, [.int 2, .int p0, .int p1, .int p2, .int p3, .int p4, .null]))] := hD
  refine lv_aload_n hx hb d_Glue_init_28 rfl (lv_at hl 0 rfl) ?_
  refine lv_aload hx hb d_Glue_init_29 (lv_at hl 6 rfl) ?_
  refine va_putF (D := g.1) (ci := 5) (v := .ref p5) (ty := .object "BoxGlue$Leaders") (C := "BoxGlue$Glue") (T := kT_Glue) (N := 7) hx hb hts ki_Glue kt_Glue ko_Glue kn_Glue hown hK hP hD hS 0 rfl rfl 6 (by decide) (hts _ kw_278) (fun _ h9 => h9) rfl hin rfl (by decide +kernel) rfl rfl (Nat.le_of_ble_eq_true rfl) d_Glue_init_31 (fun H locs hP hD hS => ?_)
  have hP : va_P g.1 kcl [(h0, .inr (5, [.int 2, .int p0, .int p1, .int p2, .int p3, .int p4, .ref p5]))] H := hP
  have hD : va_D A [(h0, .inr (5, [.int 2, .int p0, .int p1, .int p2, .int p3, .int p4, .ref p5]))] := hD
  exact W.vret hx hb hr (fun t ht hW => ⟨_, rfl, rfl, by rw [ht]; exact (kE.ofS hS).wk (fun q hq h => by rw [← hAe] at h; rcases h with h | h; exact h; omega), by rw [ht]; exact k_at0 hP 0 rfl⟩) hS.2.2 d_Glue_init_34
set_option maxHeartbeats 4000000 in
set_option maxRecDepth 100000 in
theorem c_Put_init (l : Launch) (g : KGt) (H0 : Heap) (h0 : Nat) (p0 : Nat) (p1 : Int32) (bl bh bd : Int32) (bc bf : Nat) (b0 : va_at g.1 kcl (p0, .inr (2, [.int bl, .int bh, .int bd, .ref bc, .ref bf])) H0) (o0 : va_at g.1 kcl (h0, .inr (4, [.int 0, .int 0, .int 0, .int 0])) H0) : Met l y_Put_init (kW y_Put_init b_Put_init 3 (.none : Option FieldType)) ({ frames := 2, cells := 0, slots := 0, locals := 34 }) (kPc [.ref h0, .ref p0, .int p1] (KK g) H0) (kQc (fun v H1 => v = none ∧ kE (fun q => q = h0) H0 H1 ∧ va_at g.1 kcl (h0, .inr (4, [.int 1, .int bl, .int (bh - p1), .int (bd + p1)])) H1)) 0 0 (fun q : Nat => q = h0 ∨ H0.size ≤ q) := by
  refine Met.ofW (cc := b_Put_init) (maxL := 3) (ret := (.none : Option FieldType)) (by decide) rfl ?_
  intro p e s m args below meth c s₁ B hml hv
  obtain ⟨rfl, hH, hKK⟩ := hv
  have hx := B.exec
  have hb := B.bytes
  have hr := B.returns
  have hts := kW_ts (atoms_spec (ws := kW y_Put_init b_Put_init 3 (.none : Option FieldType)) B.pre)
  have hown : s.vm.findClass "BoxGlue$Put" = some m.cls := findClass_of_methodNamed B.named
  have hlocks := B.notSynchronized
  have hK := hKK.1
  subst hH
  have hl := lv_entry ([.ref h0, .ref p0, .int p1]) (n := 3) (Nat.le_of_ble_eq_true rfl)
  rw [lg_entry_eq]
  generalize (lg_sl ([.ref h0, .ref p0, .int p1]) ++ List.replicate (3 - (lg_sl ([.ref h0, .ref p0, .int p1])).length) Slot.unset).toArray = ls at hl ⊢
  have hl : lv_has ls 3 [(0, .ref h0), (1, .ref p0), (2, .int p1)] := hl
  have hin : meth.name = "<init>" := (name_of_methodNamed B.named B.method).1
  generalize hAe : (fun q : Nat => q = h0 ∨ s.heap.size ≤ q) = A
  have hA : ∀ q : Nat, s.heap.size ≤ q → A q := fun q h => by rw [← hAe]; exact Or.inr h
  have hS : va_S A s.heap s.heap [] := va_S.rf
  have hP : va_P g.1 kcl [(h0, .inr (4, [.int 0, .int 0, .int 0, .int 0]))] s.heap := k_one o0
  have hD : va_D A [(h0, .inr (4, [.int 0, .int 0, .int 0, .int 0]))] := k_D1 (by rw [← hAe]; exact Or.inl rfl)
  refine lv_aload_n hx hb d_Put_init_0 rfl (lv_at hl 0 rfl) ?_
  refine lv_iconst (v := 1) hx hb d_Put_init_1 (by decide) ?_
  refine lv_aload_n hx hb d_Put_init_2 rfl (lv_at hl 1 rfl) ?_
  refine va_get (D := g.1) (ci := 2) (v := .int bl) (C := "BoxGlue$Box") (T := kT_Box) (N := 5) hx hb hts ki_Box hown hK (k_one b0) 0 rfl rfl 0 (by decide) (hts _ kw_109) (fun _ h9 => h9) rfl d_Put_init_3 ?_
  refine k_call (A := A) (W.runI (As := [.int 1, .int bl]) (rest := []) ⟨hx, hb, hml, hown, hts⟩ (c_Item_init4 l g s.heap h0 1 bl o0) (cwI 2 hts (kW_good kw_224) rfl rfl rfl (hts _ kw_12) (hts _ kw_222) (hts _ kw_223) rfl (by decide +kernel) ⟨Nat.le_of_ble_eq_true rfl, Nat.le_of_ble_eq_true rfl⟩) (k_pre (KK_st g) hKK) rfl rfl hl.1 rfl (lv_room (Nat.le_of_ble_eq_true rfl)) d_Put_init_6 ⟨Nat.le_of_ble_eq_true rfl, Nat.le_of_ble_eq_true rfl⟩) hS.2.2 (fun q h => by rw [← hAe]; exact h) (fun v H locs hv hL => ?_)
  obtain ⟨rfl, hE, o1⟩ := hv
  have hP : va_P g.1 kcl [(h0, .inr (4, [.int 1, .int bl, .int 0, .int 0]))] H := k_one o1
  have hD : va_D A [(h0, .inr (4, [.int 1, .int bl, .int 0, .int 0]))] := k_D1 (by rw [← hAe]; exact Or.inl rfl)
  have hS : va_S A s.heap H locs := (hE.wk (fun q _ h => by rw [← hAe]; exact Or.inl h)).S hL
  have b1 := hE.at b0 (fun h => k_obob hK b0 (show va_at g.1 kcl (p0, _) s.heap from h ▸ o0) (by decide +kernel))
  refine lv_aload_n hx hb d_Put_init_9 rfl (lv_at hl 0 rfl) ?_
  refine lv_aload_n hx hb d_Put_init_10 rfl (lv_at hl 1 rfl) ?_
  refine va_get (D := g.1) (ci := 2) (v := .int bh) (C := "BoxGlue$Box") (T := kT_Box) (N := 5) hx hb hts ki_Box hown hK (k_one b1) 0 rfl rfl 1 (by decide) (hts _ kw_113) (fun _ h9 => h9) rfl d_Put_init_11 ?_
  refine lv_iload_n hx hb d_Put_init_14 rfl (lv_at hl 2 rfl) ?_
  refine lv_isub hx hb d_Put_init_15 ?_
  refine va_putF (D := g.1) (ci := 4) (v := .int (bh - p1)) (ty := .int) (C := "BoxGlue$Put") (T := kT_Put) (N := 4) hx hb hts ki_Put kt_Put ko_Put kn_Put hown hK hP hD hS 0 rfl rfl 2 (by decide) (hts _ kw_226) (fun _ h9 => h9) rfl hin rfl (by decide +kernel) rfl rfl (Nat.le_of_ble_eq_true rfl) d_Put_init_16 (fun H locs hP hD hS => ?_)
  have hP : va_P g.1 kcl [(h0, .inr (4, [.int 1, .int bl, .int (bh - p1), .int 0]))] H := hP
  have hD : va_D A [(h0, .inr (4, [.int 1, .int bl, .int (bh - p1), .int 0]))] := hD
  have b1 := (kE.ofS hS).at b0 (fun h => by rw [← hAe] at h; rcases h with h | h; exact k_obob hK b0 (show va_at g.1 kcl (p0, _) s.heap from h ▸ o0) (by decide +kernel); exact absurd b0.lt (Nat.not_lt.mpr h))
  refine lv_aload_n hx hb d_Put_init_19 rfl (lv_at hl 0 rfl) ?_
  refine lv_aload_n hx hb d_Put_init_20 rfl (lv_at hl 1 rfl) ?_
  refine va_get (D := g.1) (ci := 2) (v := .int bd) (C := "BoxGlue$Box") (T := kT_Box) (N := 5) hx hb hts ki_Box hown hK (k_one b1) 0 rfl rfl 2 (by decide) (hts _ kw_116) (fun _ h9 => h9) rfl d_Put_init_21 ?_
  refine lv_iload_n hx hb d_Put_init_24 rfl (lv_at hl 2 rfl) ?_
  refine lv_iadd hx hb d_Put_init_25 ?_
  refine va_putF (D := g.1) (ci := 4) (v := .int (bd + p1)) (ty := .int) (C := "BoxGlue$Put") (T := kT_Put) (N := 4) hx hb hts ki_Put kt_Put ko_Put kn_Put hown hK hP hD hS 0 rfl rfl 3 (by decide) (hts _ kw_227) (fun _ h9 => h9) rfl hin rfl (by decide +kernel) rfl rfl (Nat.le_of_ble_eq_true rfl) d_Put_init_26 (fun H locs hP hD hS => ?_)
  have hP : va_P g.1 kcl [(h0, .inr (4, [.int 1, .int bl, .int (bh - p1), .int (bd + p1)]))] H := hP
  have hD : va_D A [(h0, .inr (4, [.int 1, .int bl, .int (bh - p1), .int (bd + p1)]))] := hD
  exact W.vret hx hb hr (fun t ht hW => ⟨_, rfl, rfl, by rw [ht]; exact (kE.ofS hS).wk (fun q hq h => by rw [← hAe] at h; rcases h with h | h; exact h; omega), by rw [ht]; exact k_at0 hP 0 rfl⟩) hS.2.2 d_Put_init_29
end
section
/-! items: what one is, its methods by the receiver's class -/
theorem kU_good {own : String} {idx : Nat} {C owner : String} {x y : MethodName} {b : ByteArray} {n : Nat} {r : Option FieldType} (h : Cond.code y b n r ∈ kG) (h1 : Cond.methodLink own idx x ∈ kG) (h2 : Cond.sameMethod x.cls owner x.name x.desc ∈ kG) (h3 : Cond.selects C x y ∈ kG) (h4 : Cond.instanceMethod y ∈ kG) (h5 : Cond.initialized y.cls ∈ kG) : GoodIn kG (va_wsU own idx C owner x y (kW y b n r)) := by
  intro w hw
  unfold va_wsU at hw
  rcases List.mem_append.mp hw with hw | hw
  · simp only [List.mem_cons, List.not_mem_nil, or_false] at hw
    rcases hw with rfl | rfl | rfl | rfl | rfl
    · exact kG_good _ h1
    · exact kG_good _ h2
    · exact kG_good _ h3
    · exact kG_good _ h4
    · exact kG_good _ h5
  · exact kW_good h w hw
theorem kO_good {own : String} {idx : Nat} {C owner : String} {x y : MethodName} {b : ByteArray} {n : Nat} {r : Option FieldType} (h : Cond.code y b n r ∈ kG) (h1 : Cond.methodLink own idx x ∈ kG) (h2 : Cond.sameMethod x.cls owner x.name x.desc ∈ kG) (h0 : Cond.instanceMethod ⟨owner, x.name, x.desc⟩ ∈ kG) (h3 : Cond.selects C x y ∈ kG) (h4 : Cond.instanceMethod y ∈ kG) (h5 : Cond.initialized y.cls ∈ kG) : GoodIn kG (va_wsO own idx C owner x y (kW y b n r)) := by
  intro w hw
  unfold va_wsO at hw
  rcases List.mem_append.mp hw with hw | hw
  · simp only [List.mem_cons, List.not_mem_nil, or_false] at hw
    rcases hw with rfl | rfl | rfl | rfl | rfl | rfl
    · exact kG_good _ h1
    · exact kG_good _ h2
    · exact kG_good _ h0
    · exact kG_good _ h3
    · exact kG_good _ h4
    · exact kG_good _ h5
  · exact kW_good h w hw
/-- the item at a, among the cells I that nobody writes any more. it: 0 sort, 1 own length, 2 height, 3 depth, 4 stretch, 5 its order, 6 shrink, 7 its order, 8 kind of leaders, 9 their box's length -/
def kItem (g : KGt) (I : Nat → Prop) (a : Nat) (it : Nat → Int32) (H : Heap) : Prop := I a ∧
  ((it 0 = 1 ∧ va_at g.1 kcl (a, .inr (4, [.int (it 0), .int (it 1), .int (it 2), .int (it 3)])) H) ∨
   (it 0 = 2 ∧ ∃ r : Nat, I r ∧ va_at g.1 kcl (a, .inr (5, [.int (it 0), .int (it 1), .int (it 4), .int (it 5), .int (it 6), .int (it 7), .ref r])) H ∧ va_at g.1 kcl (r, .inr (8, [.int (it 8), .int (it 9)])) H) ∨
   (it 0 = 3 ∧ va_at g.1 kcl (a, .inr (6, [.int (it 0), .int (it 1)])) H) ∨
   (it 0 = 4 ∧ va_at g.1 kcl (a, .inr (7, [.int (it 0), .int (it 1), .int (it 2), .int (it 3)])) H))
theorem kItem.kept {g : KGt} {I J : Nat → Prop} {a : Nat} {it : Nat → Int32} {H H1 : Heap} (h : kItem g I a it H) (hI : ∀ q, I q → J q) (hk : ∀ q, I q → q < H.size → H1[q]? = H[q]?) : kItem g J a it H1 := by
  obtain ⟨ha, h⟩ := h
  refine ⟨hI a ha, ?_⟩
  rcases h with ⟨h1, h2⟩ | ⟨h1, r, hr, h2, h3⟩ | ⟨h1, h2⟩ | ⟨h1, h2⟩
  · exact Or.inl ⟨h1, h2.kept (hk a ha h2.lt)⟩
  · exact Or.inr (Or.inl ⟨h1, r, hI r hr, h2.kept (hk a ha h2.lt), h3.kept (hk r hr h3.lt)⟩)
  · exact Or.inr (Or.inr (Or.inl ⟨h1, h2.kept (hk a ha h2.lt)⟩))
  · exact Or.inr (Or.inr (Or.inr ⟨h1, h2.kept (hk a ha h2.lt)⟩))
theorem kItem.obj {g : KGt} {I : Nat → Prop} {a : Nat} {it : Nat → Int32} {H : Heap} (h : kItem g I a it H) : kObj g a H := by
  obtain ⟨ha, h⟩ := h
  rcases h with ⟨h1, h2⟩ | ⟨h1, r, hr, h2, h3⟩ | ⟨h1, h2⟩ | ⟨h1, h2⟩
  · exact ⟨_, _, h2, by omega⟩
  · exact ⟨_, _, h2, by omega⟩
  · exact ⟨_, _, h2, by omega⟩
  · exact ⟨_, _, h2, by omega⟩
def i_giving (it : Nat → Int32) (b o : Int32) : Int32 := if it 0 = 2 then f_Glue_giving (it 0) (it 1) (it 4) (it 5) (it 6) (it 7) b o else 0
def i_height (it : Nat → Int32) (r : Int32) : Int32 := if it 0 = 1 then f_Put_heightWhere (it 0) (it 1) (it 2) (it 3) r else if it 0 = 4 then f_Rule_heightWhere (it 0) (it 1) (it 2) (it 3) r else 0
def i_depth (it : Nat → Int32) (r : Int32) : Int32 := if it 0 = 1 then f_Put_depthWhere (it 0) (it 1) (it 2) (it 3) r else if it 0 = 4 then f_Rule_depthWhere (it 0) (it 1) (it 2) (it 3) r else 0
def i_drawn (it : Nat → Int32) (a b : Int32) : Int32 := if it 0 = 2 then f_Glue_leadersDrawn (it 0) (it 1) (it 4) (it 5) (it 6) (it 7) (it 8) (it 9) a b else 0
def i_first (it : Nat → Int32) (a b : Int32) : Int32 := if it 0 = 2 then f_Glue_firstLeader (it 0) (it 1) (it 4) (it 5) (it 6) (it 7) (it 8) (it 9) a b else 0
def i_step (it : Nat → Int32) (a b : Int32) : Int32 := if it 0 = 2 then f_Glue_leaderStep (it 0) (it 1) (it 4) (it 5) (it 6) (it 7) (it 8) (it 9) a b else 0
set_option maxHeartbeats 4000000 in
set_option maxRecDepth 100000 in
theorem c_Item_giving (l : Launch) (g : KGt) (H0 : Heap) (h0 : Nat) (p0 : Int32) (p1 : Int32) : Met l y_Item_giving (kW y_Item_giving b_Item_giving 3 (.some .int)) ({ frames := 0, cells := 0, slots := 0, locals := 0 }) (kPc [.ref h0, .int p0, .int p1] (KK g) H0) (kQc (kPure (.int 0) H0)) 0 0 (fun _ => False) := by
  refine Met.ofW (cc := b_Item_giving) (maxL := 3) (ret := (.some .int)) (by decide) rfl ?_
  intro p e s m args below meth c s₁ B hml hv
  obtain ⟨rfl, hH, hKK⟩ := hv
  have hx := B.exec
  have hb := B.bytes
  have hr := B.returns
  have hts := kW_ts (atoms_spec (ws := kW y_Item_giving b_Item_giving 3 (.some .int)) B.pre)
  have hown : s.vm.findClass "BoxGlue$Item" = some m.cls := findClass_of_methodNamed B.named
  have hlocks := B.notSynchronized
  have hK := hKK.1
  subst hH
  have hl := lv_entry ([.ref h0, .int p0, .int p1]) (n := 3) (Nat.le_of_ble_eq_true rfl)
  rw [lg_entry_eq]
  generalize (lg_sl ([.ref h0, .int p0, .int p1]) ++ List.replicate (3 - (lg_sl ([.ref h0, .int p0, .int p1])).length) Slot.unset).toArray = ls at hl ⊢
  have hl : lv_has ls 3 [(0, .ref h0), (1, .int p0), (2, .int p1)] := hl
  refine lv_iconst (v := 0) hx hb d_Item_giving_0 (by decide) ?_
  exact W.iret (v := 0) hx hb hr (fun t ht hW => ⟨_, rfl, rfl, ht⟩) (fun _ h => by cases h) d_Item_giving_1
set_option maxHeartbeats 4000000 in
set_option maxRecDepth 100000 in
theorem c_Item_heightWhere (l : Launch) (g : KGt) (H0 : Heap) (h0 : Nat) (p0 : Int32) : Met l y_Item_heightWhere (kW y_Item_heightWhere b_Item_heightWhere 2 (.some .int)) ({ frames := 0, cells := 0, slots := 0, locals := 0 }) (kPc [.ref h0, .int p0] (KK g) H0) (kQc (kPure (.int 0) H0)) 0 0 (fun _ => False) := by
  refine Met.ofW (cc := b_Item_heightWhere) (maxL := 2) (ret := (.some .int)) (by decide) rfl ?_
  intro p e s m args below meth c s₁ B hml hv
  obtain ⟨rfl, hH, hKK⟩ := hv
  have hx := B.exec
  have hb := B.bytes
  have hr := B.returns
  have hts := kW_ts (atoms_spec (ws := kW y_Item_heightWhere b_Item_heightWhere 2 (.some .int)) B.pre)
  have hown : s.vm.findClass "BoxGlue$Item" = some m.cls := findClass_of_methodNamed B.named
  have hlocks := B.notSynchronized
  have hK := hKK.1
  subst hH
  have hl := lv_entry ([.ref h0, .int p0]) (n := 2) (Nat.le_of_ble_eq_true rfl)
  rw [lg_entry_eq]
  generalize (lg_sl ([.ref h0, .int p0]) ++ List.replicate (2 - (lg_sl ([.ref h0, .int p0])).length) Slot.unset).toArray = ls at hl ⊢
  have hl : lv_has ls 2 [(0, .ref h0), (1, .int p0)] := hl
  refine lv_iconst (v := 0) hx hb d_Item_heightWhere_0 (by decide) ?_
  exact W.iret (v := 0) hx hb hr (fun t ht hW => ⟨_, rfl, rfl, ht⟩) (fun _ h => by cases h) d_Item_heightWhere_1
set_option maxHeartbeats 4000000 in
set_option maxRecDepth 100000 in
theorem c_Item_depthWhere (l : Launch) (g : KGt) (H0 : Heap) (h0 : Nat) (p0 : Int32) : Met l y_Item_depthWhere (kW y_Item_depthWhere b_Item_depthWhere 2 (.some .int)) ({ frames := 0, cells := 0, slots := 0, locals := 0 }) (kPc [.ref h0, .int p0] (KK g) H0) (kQc (kPure (.int 0) H0)) 0 0 (fun _ => False) := by
  refine Met.ofW (cc := b_Item_depthWhere) (maxL := 2) (ret := (.some .int)) (by decide) rfl ?_
  intro p e s m args below meth c s₁ B hml hv
  obtain ⟨rfl, hH, hKK⟩ := hv
  have hx := B.exec
  have hb := B.bytes
  have hr := B.returns
  have hts := kW_ts (atoms_spec (ws := kW y_Item_depthWhere b_Item_depthWhere 2 (.some .int)) B.pre)
  have hown : s.vm.findClass "BoxGlue$Item" = some m.cls := findClass_of_methodNamed B.named
  have hlocks := B.notSynchronized
  have hK := hKK.1
  subst hH
  have hl := lv_entry ([.ref h0, .int p0]) (n := 2) (Nat.le_of_ble_eq_true rfl)
  rw [lg_entry_eq]
  generalize (lg_sl ([.ref h0, .int p0]) ++ List.replicate (2 - (lg_sl ([.ref h0, .int p0])).length) Slot.unset).toArray = ls at hl ⊢
  have hl : lv_has ls 2 [(0, .ref h0), (1, .int p0)] := hl
  refine lv_iconst (v := 0) hx hb d_Item_depthWhere_0 (by decide) ?_
  exact W.iret (v := 0) hx hb hr (fun t ht hW => ⟨_, rfl, rfl, ht⟩) (fun _ h => by cases h) d_Item_depthWhere_1
set_option maxHeartbeats 4000000 in
set_option maxRecDepth 100000 in
theorem c_Item_leadersDrawn (l : Launch) (g : KGt) (H0 : Heap) (h0 : Nat) (p0 : Int32) (p1 : Int32) : Met l y_Item_leadersDrawn (kW y_Item_leadersDrawn b_Item_leadersDrawn 3 (.some .int)) ({ frames := 0, cells := 0, slots := 0, locals := 0 }) (kPc [.ref h0, .int p0, .int p1] (KK g) H0) (kQc (kPure (.int 0) H0)) 0 0 (fun _ => False) := by
  refine Met.ofW (cc := b_Item_leadersDrawn) (maxL := 3) (ret := (.some .int)) (by decide) rfl ?_
  intro p e s m args below meth c s₁ B hml hv
  obtain ⟨rfl, hH, hKK⟩ := hv
  have hx := B.exec
  have hb := B.bytes
  have hr := B.returns
  have hts := kW_ts (atoms_spec (ws := kW y_Item_leadersDrawn b_Item_leadersDrawn 3 (.some .int)) B.pre)
  have hown : s.vm.findClass "BoxGlue$Item" = some m.cls := findClass_of_methodNamed B.named
  have hlocks := B.notSynchronized
  have hK := hKK.1
  subst hH
  have hl := lv_entry ([.ref h0, .int p0, .int p1]) (n := 3) (Nat.le_of_ble_eq_true rfl)
  rw [lg_entry_eq]
  generalize (lg_sl ([.ref h0, .int p0, .int p1]) ++ List.replicate (3 - (lg_sl ([.ref h0, .int p0, .int p1])).length) Slot.unset).toArray = ls at hl ⊢
  have hl : lv_has ls 3 [(0, .ref h0), (1, .int p0), (2, .int p1)] := hl
  refine lv_iconst (v := 0) hx hb d_Item_leadersDrawn_0 (by decide) ?_
  exact W.iret (v := 0) hx hb hr (fun t ht hW => ⟨_, rfl, rfl, ht⟩) (fun _ h => by cases h) d_Item_leadersDrawn_1
set_option maxHeartbeats 4000000 in
set_option maxRecDepth 100000 in
theorem c_Item_firstLeader (l : Launch) (g : KGt) (H0 : Heap) (h0 : Nat) (p0 : Int32) (p1 : Int32) : Met l y_Item_firstLeader (kW y_Item_firstLeader b_Item_firstLeader 3 (.some .int)) ({ frames := 0, cells := 0, slots := 0, locals := 0 }) (kPc [.ref h0, .int p0, .int p1] (KK g) H0) (kQc (kPure (.int 0) H0)) 0 0 (fun _ => False) := by
  refine Met.ofW (cc := b_Item_firstLeader) (maxL := 3) (ret := (.some .int)) (by decide) rfl ?_
  intro p e s m args below meth c s₁ B hml hv
  obtain ⟨rfl, hH, hKK⟩ := hv
  have hx := B.exec
  have hb := B.bytes
  have hr := B.returns
  have hts := kW_ts (atoms_spec (ws := kW y_Item_firstLeader b_Item_firstLeader 3 (.some .int)) B.pre)
  have hown : s.vm.findClass "BoxGlue$Item" = some m.cls := findClass_of_methodNamed B.named
  have hlocks := B.notSynchronized
  have hK := hKK.1
  subst hH
  have hl := lv_entry ([.ref h0, .int p0, .int p1]) (n := 3) (Nat.le_of_ble_eq_true rfl)
  rw [lg_entry_eq]
  generalize (lg_sl ([.ref h0, .int p0, .int p1]) ++ List.replicate (3 - (lg_sl ([.ref h0, .int p0, .int p1])).length) Slot.unset).toArray = ls at hl ⊢
  have hl : lv_has ls 3 [(0, .ref h0), (1, .int p0), (2, .int p1)] := hl
  refine lv_iconst (v := 0) hx hb d_Item_firstLeader_0 (by decide) ?_
  exact W.iret (v := 0) hx hb hr (fun t ht hW => ⟨_, rfl, rfl, ht⟩) (fun _ h => by cases h) d_Item_firstLeader_1
set_option maxHeartbeats 4000000 in
set_option maxRecDepth 100000 in
theorem c_Item_leaderStep (l : Launch) (g : KGt) (H0 : Heap) (h0 : Nat) (p0 : Int32) (p1 : Int32) : Met l y_Item_leaderStep (kW y_Item_leaderStep b_Item_leaderStep 3 (.some .int)) ({ frames := 0, cells := 0, slots := 0, locals := 0 }) (kPc [.ref h0, .int p0, .int p1] (KK g) H0) (kQc (kPure (.int 0) H0)) 0 0 (fun _ => False) := by
  refine Met.ofW (cc := b_Item_leaderStep) (maxL := 3) (ret := (.some .int)) (by decide) rfl ?_
  intro p e s m args below meth c s₁ B hml hv
  obtain ⟨rfl, hH, hKK⟩ := hv
  have hx := B.exec
  have hb := B.bytes
  have hr := B.returns
  have hts := kW_ts (atoms_spec (ws := kW y_Item_leaderStep b_Item_leaderStep 3 (.some .int)) B.pre)
  have hown : s.vm.findClass "BoxGlue$Item" = some m.cls := findClass_of_methodNamed B.named
  have hlocks := B.notSynchronized
  have hK := hKK.1
  subst hH
  have hl := lv_entry ([.ref h0, .int p0, .int p1]) (n := 3) (Nat.le_of_ble_eq_true rfl)
  rw [lg_entry_eq]
  generalize (lg_sl ([.ref h0, .int p0, .int p1]) ++ List.replicate (3 - (lg_sl ([.ref h0, .int p0, .int p1])).length) Slot.unset).toArray = ls at hl ⊢
  have hl : lv_has ls 3 [(0, .ref h0), (1, .int p0), (2, .int p1)] := hl
  refine lv_iconst (v := 0) hx hb d_Item_leaderStep_0 (by decide) ?_
  exact W.iret (v := 0) hx hb hr (fun t ht hW => ⟨_, rfl, rfl, ht⟩) (fun _ h => by cases h) d_Item_leaderStep_1
set_option maxHeartbeats 4000000 in
set_option maxRecDepth 100000 in
theorem v_giving {p : Program} {l : Launch} {e : Env} {R : Room} {s : State} {m : MethodId} {args : Array Value} {below : List Frame} {meth : Method} {c : Code} {H : Heap} {locs : List Loc} {cells slots : Nat} {Q : State → Prop} {cc : ByteArray} {nL pc : Nat} {ls : Array Slot} {rest : List Value} {g : KGt} {I : Nat → Prop} {it : Nat → Int32} {a : Nat} {p0 : Int32} {p1 : Int32} {own : String} {idx : Nat} (hx : p.tables.exec = Jvm.exec) (hb : c.code = cc) (hml : c.maxLocals = nL) (hown : s.vm.findClass own = some m.cls) (hts : ∀ w ∈ kG, w.before args s = true) (hKK : KK g s) (hlink : Cond.methodLink own idx y_Item_giving ∈ kG) (hit : kItem g I a it H) (hls : ls.size = nL) (hrest : (rest.map fun v => v.category).sum ≤ 8) (hF : 1 ≤ R.frames) (hLo : 22 ≤ R.locals) (hc : cells ≤ R.cells) (hs : slots ≤ R.slots) (hdg : decode cc pc = .ok (.invokevirtual idx, 3))
    (kk : W p l e R s m args below meth c H locs cells slots Q (F0 m (pc + 3) ls (.int (i_giving it p0 p1) :: rest))) : W p l e R s m args below meth c H locs cells slots Q (F0 m pc ls (.int p1 :: .int p0 :: .ref a :: rest)) := by
  have hK := hKK.1
  obtain ⟨-, ⟨hs0, o0⟩ | ⟨hs0, r, -, o0, o1⟩ | ⟨hs0, o0⟩ | ⟨hs0, o0⟩⟩ := hit
  · have ev : i_giving it p0 p1 = 0 := by
      unfold i_giving; rw [hs0]; rfl
    rw [ev] at kk
    exact k_pure (r := .int 0) (va_Run.run (va_runU (As := [.int p0, .int p1]) (rest := rest) ⟨hx, hb, hml, hown, hts⟩ (c_Item_giving l g H a p0 p1) (va_cwU (C := "BoxGlue$Put") (owner := "BoxGlue$Item") 2 hts (kU_good kw_409 hlink kw_402 kw_407 kw_401 kw_12) rfl rfl rfl rfl (by decide +kernel) ⟨by show 0 + 1 ≤ _; omega, by show 8 + (3 + 11) + 0 ≤ _; omega⟩) (k_preV (KK_st g) hKK (va_recv hK (k_one o0) (ci := 4) (q0 := 0) rfl rfl)) rfl rfl hls rfl (lv_room hrest) hdg ⟨by omega, by omega⟩)) kk
  · have ev : i_giving it p0 p1 = (f_Glue_giving (it 0) (it 1) (it 4) (it 5) (it 6) (it 7) p0 p1) := by
      unfold i_giving; rw [hs0]; rfl
    rw [ev] at kk
    exact k_pure (r := .int (f_Glue_giving (it 0) (it 1) (it 4) (it 5) (it 6) (it 7) p0 p1)) (va_Run.run (va_runU (As := [.int p0, .int p1]) (rest := rest) ⟨hx, hb, hml, hown, hts⟩ (c_Glue_giving l g H a r (it 0) (it 1) (it 4) (it 5) (it 6) (it 7) p0 p1 o0) (va_cwO (C := "BoxGlue$Glue") (owner := "BoxGlue$Item") 2 hts (kO_good kw_405 hlink kw_402 kw_401 kw_403 kw_404 kw_16) rfl rfl rfl kw_409 (by decide +kernel) ⟨by show 0 + 1 ≤ _; omega, by show 8 + (3 + 11) + 0 ≤ _; omega⟩) (k_preV (KK_st g) hKK (va_recv hK (k_one o0) (ci := 5) (q0 := 0) rfl rfl)) rfl rfl hls rfl (lv_room hrest) hdg ⟨by omega, by omega⟩)) kk
  · have ev : i_giving it p0 p1 = 0 := by
      unfold i_giving; rw [hs0]; rfl
    rw [ev] at kk
    exact k_pure (r := .int 0) (va_Run.run (va_runU (As := [.int p0, .int p1]) (rest := rest) ⟨hx, hb, hml, hown, hts⟩ (c_Item_giving l g H a p0 p1) (va_cwU (C := "BoxGlue$Kern") (owner := "BoxGlue$Item") 2 hts (kU_good kw_409 hlink kw_402 kw_406 kw_401 kw_12) rfl rfl rfl rfl (by decide +kernel) ⟨by show 0 + 1 ≤ _; omega, by show 8 + (3 + 11) + 0 ≤ _; omega⟩) (k_preV (KK_st g) hKK (va_recv hK (k_one o0) (ci := 6) (q0 := 0) rfl rfl)) rfl rfl hls rfl (lv_room hrest) hdg ⟨by omega, by omega⟩)) kk
  · have ev : i_giving it p0 p1 = 0 := by
      unfold i_giving; rw [hs0]; rfl
    rw [ev] at kk
    exact k_pure (r := .int 0) (va_Run.run (va_runU (As := [.int p0, .int p1]) (rest := rest) ⟨hx, hb, hml, hown, hts⟩ (c_Item_giving l g H a p0 p1) (va_cwU (C := "BoxGlue$Rule") (owner := "BoxGlue$Item") 2 hts (kU_good kw_409 hlink kw_402 kw_408 kw_401 kw_12) rfl rfl rfl rfl (by decide +kernel) ⟨by show 0 + 1 ≤ _; omega, by show 8 + (3 + 11) + 0 ≤ _; omega⟩) (k_preV (KK_st g) hKK (va_recv hK (k_one o0) (ci := 7) (q0 := 0) rfl rfl)) rfl rfl hls rfl (lv_room hrest) hdg ⟨by omega, by omega⟩)) kk
set_option maxHeartbeats 4000000 in
set_option maxRecDepth 100000 in
theorem v_heightWhere {p : Program} {l : Launch} {e : Env} {R : Room} {s : State} {m : MethodId} {args : Array Value} {below : List Frame} {meth : Method} {c : Code} {H : Heap} {locs : List Loc} {cells slots : Nat} {Q : State → Prop} {cc : ByteArray} {nL pc : Nat} {ls : Array Slot} {rest : List Value} {g : KGt} {I : Nat → Prop} {it : Nat → Int32} {a : Nat} {p0 : Int32} {own : String} {idx : Nat} (hx : p.tables.exec = Jvm.exec) (hb : c.code = cc) (hml : c.maxLocals = nL) (hown : s.vm.findClass own = some m.cls) (hts : ∀ w ∈ kG, w.before args s = true) (hKK : KK g s) (hlink : Cond.methodLink own idx y_Item_heightWhere ∈ kG) (hit : kItem g I a it H) (hls : ls.size = nL) (hrest : (rest.map fun v => v.category).sum ≤ 8) (hF : 1 ≤ R.frames) (hLo : 21 ≤ R.locals) (hc : cells ≤ R.cells) (hs : slots ≤ R.slots) (hdg : decode cc pc = .ok (.invokevirtual idx, 3))
    (kk : W p l e R s m args below meth c H locs cells slots Q (F0 m (pc + 3) ls (.int (i_height it p0) :: rest))) : W p l e R s m args below meth c H locs cells slots Q (F0 m pc ls (.int p0 :: .ref a :: rest)) := by
  have hK := hKK.1
  obtain ⟨-, ⟨hs0, o0⟩ | ⟨hs0, r, -, o0, o1⟩ | ⟨hs0, o0⟩ | ⟨hs0, o0⟩⟩ := hit
  · have ev : i_height it p0 = (f_Put_heightWhere (it 0) (it 1) (it 2) (it 3) p0) := by
      unfold i_height; rw [hs0]; rfl
    rw [ev] at kk
    exact k_pure (r := .int (f_Put_heightWhere (it 0) (it 1) (it 2) (it 3) p0)) (va_Run.run (va_runU (As := [.int p0]) (rest := rest) ⟨hx, hb, hml, hown, hts⟩ (c_Put_heightWhere l g H a (it 0) (it 1) (it 2) (it 3) p0 o0) (va_cwO (C := "BoxGlue$Put") (owner := "BoxGlue$Item") 1 hts (kO_good kw_371 hlink kw_366 kw_365 kw_369 kw_370 kw_13) rfl rfl rfl kw_376 (by decide +kernel) ⟨by show 0 + 1 ≤ _; omega, by show 8 + (2 + 11) + 0 ≤ _; omega⟩) (k_preV (KK_st g) hKK (va_recv hK (k_one o0) (ci := 4) (q0 := 0) rfl rfl)) rfl rfl hls rfl (lv_room hrest) hdg ⟨by omega, by omega⟩)) kk
  · have ev : i_height it p0 = 0 := by
      unfold i_height; rw [hs0]; rfl
    rw [ev] at kk
    exact k_pure (r := .int 0) (va_Run.run (va_runU (As := [.int p0]) (rest := rest) ⟨hx, hb, hml, hown, hts⟩ (c_Item_heightWhere l g H a p0) (va_cwU (C := "BoxGlue$Glue") (owner := "BoxGlue$Item") 1 hts (kU_good kw_376 hlink kw_366 kw_367 kw_365 kw_12) rfl rfl rfl rfl (by decide +kernel) ⟨by show 0 + 1 ≤ _; omega, by show 8 + (2 + 11) + 0 ≤ _; omega⟩) (k_preV (KK_st g) hKK (va_recv hK (k_one o0) (ci := 5) (q0 := 0) rfl rfl)) rfl rfl hls rfl (lv_room hrest) hdg ⟨by omega, by omega⟩)) kk
  · have ev : i_height it p0 = 0 := by
      unfold i_height; rw [hs0]; rfl
    rw [ev] at kk
    exact k_pure (r := .int 0) (va_Run.run (va_runU (As := [.int p0]) (rest := rest) ⟨hx, hb, hml, hown, hts⟩ (c_Item_heightWhere l g H a p0) (va_cwU (C := "BoxGlue$Kern") (owner := "BoxGlue$Item") 1 hts (kU_good kw_376 hlink kw_366 kw_368 kw_365 kw_12) rfl rfl rfl rfl (by decide +kernel) ⟨by show 0 + 1 ≤ _; omega, by show 8 + (2 + 11) + 0 ≤ _; omega⟩) (k_preV (KK_st g) hKK (va_recv hK (k_one o0) (ci := 6) (q0 := 0) rfl rfl)) rfl rfl hls rfl (lv_room hrest) hdg ⟨by omega, by omega⟩)) kk
  · have ev : i_height it p0 = (f_Rule_heightWhere (it 0) (it 1) (it 2) (it 3) p0) := by
      unfold i_height; rw [hs0]; rfl
    rw [ev] at kk
    exact k_pure (r := .int (f_Rule_heightWhere (it 0) (it 1) (it 2) (it 3) p0)) (va_Run.run (va_runU (As := [.int p0]) (rest := rest) ⟨hx, hb, hml, hown, hts⟩ (c_Rule_heightWhere l g H a (it 0) (it 1) (it 2) (it 3) p0 o0) (va_cwO (C := "BoxGlue$Rule") (owner := "BoxGlue$Item") 1 hts (kO_good kw_374 hlink kw_366 kw_365 kw_372 kw_373 kw_19) rfl rfl rfl kw_376 (by decide +kernel) ⟨by show 0 + 1 ≤ _; omega, by show 8 + (2 + 11) + 0 ≤ _; omega⟩) (k_preV (KK_st g) hKK (va_recv hK (k_one o0) (ci := 7) (q0 := 0) rfl rfl)) rfl rfl hls rfl (lv_room hrest) hdg ⟨by omega, by omega⟩)) kk
set_option maxHeartbeats 4000000 in
set_option maxRecDepth 100000 in
theorem v_depthWhere {p : Program} {l : Launch} {e : Env} {R : Room} {s : State} {m : MethodId} {args : Array Value} {below : List Frame} {meth : Method} {c : Code} {H : Heap} {locs : List Loc} {cells slots : Nat} {Q : State → Prop} {cc : ByteArray} {nL pc : Nat} {ls : Array Slot} {rest : List Value} {g : KGt} {I : Nat → Prop} {it : Nat → Int32} {a : Nat} {p0 : Int32} {own : String} {idx : Nat} (hx : p.tables.exec = Jvm.exec) (hb : c.code = cc) (hml : c.maxLocals = nL) (hown : s.vm.findClass own = some m.cls) (hts : ∀ w ∈ kG, w.before args s = true) (hKK : KK g s) (hlink : Cond.methodLink own idx y_Item_depthWhere ∈ kG) (hit : kItem g I a it H) (hls : ls.size = nL) (hrest : (rest.map fun v => v.category).sum ≤ 8) (hF : 1 ≤ R.frames) (hLo : 21 ≤ R.locals) (hc : cells ≤ R.cells) (hs : slots ≤ R.slots) (hdg : decode cc pc = .ok (.invokevirtual idx, 3))
    (kk : W p l e R s m args below meth c H locs cells slots Q (F0 m (pc + 3) ls (.int (i_depth it p0) :: rest))) : W p l e R s m args below meth c H locs cells slots Q (F0 m pc ls (.int p0 :: .ref a :: rest)) := by
  have hK := hKK.1
  obtain ⟨-, ⟨hs0, o0⟩ | ⟨hs0, r, -, o0, o1⟩ | ⟨hs0, o0⟩ | ⟨hs0, o0⟩⟩ := hit
  · have ev : i_depth it p0 = (f_Put_depthWhere (it 0) (it 1) (it 2) (it 3) p0) := by
      unfold i_depth; rw [hs0]; rfl
    rw [ev] at kk
    exact k_pure (r := .int (f_Put_depthWhere (it 0) (it 1) (it 2) (it 3) p0)) (va_Run.run (va_runU (As := [.int p0]) (rest := rest) ⟨hx, hb, hml, hown, hts⟩ (c_Put_depthWhere l g H a (it 0) (it 1) (it 2) (it 3) p0 o0) (va_cwO (C := "BoxGlue$Put") (owner := "BoxGlue$Item") 1 hts (kO_good kw_385 hlink kw_380 kw_379 kw_383 kw_384 kw_13) rfl rfl rfl kw_389 (by decide +kernel) ⟨by show 0 + 1 ≤ _; omega, by show 8 + (2 + 11) + 0 ≤ _; omega⟩) (k_preV (KK_st g) hKK (va_recv hK (k_one o0) (ci := 4) (q0 := 0) rfl rfl)) rfl rfl hls rfl (lv_room hrest) hdg ⟨by omega, by omega⟩)) kk
  · have ev : i_depth it p0 = 0 := by
      unfold i_depth; rw [hs0]; rfl
    rw [ev] at kk
    exact k_pure (r := .int 0) (va_Run.run (va_runU (As := [.int p0]) (rest := rest) ⟨hx, hb, hml, hown, hts⟩ (c_Item_depthWhere l g H a p0) (va_cwU (C := "BoxGlue$Glue") (owner := "BoxGlue$Item") 1 hts (kU_good kw_389 hlink kw_380 kw_381 kw_379 kw_12) rfl rfl rfl rfl (by decide +kernel) ⟨by show 0 + 1 ≤ _; omega, by show 8 + (2 + 11) + 0 ≤ _; omega⟩) (k_preV (KK_st g) hKK (va_recv hK (k_one o0) (ci := 5) (q0 := 0) rfl rfl)) rfl rfl hls rfl (lv_room hrest) hdg ⟨by omega, by omega⟩)) kk
  · have ev : i_depth it p0 = 0 := by
      unfold i_depth; rw [hs0]; rfl
    rw [ev] at kk
    exact k_pure (r := .int 0) (va_Run.run (va_runU (As := [.int p0]) (rest := rest) ⟨hx, hb, hml, hown, hts⟩ (c_Item_depthWhere l g H a p0) (va_cwU (C := "BoxGlue$Kern") (owner := "BoxGlue$Item") 1 hts (kU_good kw_389 hlink kw_380 kw_382 kw_379 kw_12) rfl rfl rfl rfl (by decide +kernel) ⟨by show 0 + 1 ≤ _; omega, by show 8 + (2 + 11) + 0 ≤ _; omega⟩) (k_preV (KK_st g) hKK (va_recv hK (k_one o0) (ci := 6) (q0 := 0) rfl rfl)) rfl rfl hls rfl (lv_room hrest) hdg ⟨by omega, by omega⟩)) kk
  · have ev : i_depth it p0 = (f_Rule_depthWhere (it 0) (it 1) (it 2) (it 3) p0) := by
      unfold i_depth; rw [hs0]; rfl
    rw [ev] at kk
    exact k_pure (r := .int (f_Rule_depthWhere (it 0) (it 1) (it 2) (it 3) p0)) (va_Run.run (va_runU (As := [.int p0]) (rest := rest) ⟨hx, hb, hml, hown, hts⟩ (c_Rule_depthWhere l g H a (it 0) (it 1) (it 2) (it 3) p0 o0) (va_cwO (C := "BoxGlue$Rule") (owner := "BoxGlue$Item") 1 hts (kO_good kw_388 hlink kw_380 kw_379 kw_386 kw_387 kw_19) rfl rfl rfl kw_389 (by decide +kernel) ⟨by show 0 + 1 ≤ _; omega, by show 8 + (2 + 11) + 0 ≤ _; omega⟩) (k_preV (KK_st g) hKK (va_recv hK (k_one o0) (ci := 7) (q0 := 0) rfl rfl)) rfl rfl hls rfl (lv_room hrest) hdg ⟨by omega, by omega⟩)) kk
set_option maxHeartbeats 4000000 in
set_option maxRecDepth 100000 in
theorem v_leadersDrawn {p : Program} {l : Launch} {e : Env} {R : Room} {s : State} {m : MethodId} {args : Array Value} {below : List Frame} {meth : Method} {c : Code} {H : Heap} {locs : List Loc} {cells slots : Nat} {Q : State → Prop} {cc : ByteArray} {nL pc : Nat} {ls : Array Slot} {rest : List Value} {g : KGt} {I : Nat → Prop} {it : Nat → Int32} {a : Nat} {p0 : Int32} {p1 : Int32} {own : String} {idx : Nat} (hx : p.tables.exec = Jvm.exec) (hb : c.code = cc) (hml : c.maxLocals = nL) (hown : s.vm.findClass own = some m.cls) (hts : ∀ w ∈ kG, w.before args s = true) (hKK : KK g s) (hlink : Cond.methodLink own idx y_Item_leadersDrawn ∈ kG) (hit : kItem g I a it H) (hls : ls.size = nL) (hrest : (rest.map fun v => v.category).sum ≤ 8) (hF : 4 ≤ R.frames) (hLo : 87 ≤ R.locals) (hc : cells ≤ R.cells) (hs : slots ≤ R.slots) (hdg : decode cc pc = .ok (.invokevirtual idx, 3))
    (kk : W p l e R s m args below meth c H locs cells slots Q (F0 m (pc + 3) ls (.int (i_drawn it p0 p1) :: rest))) : W p l e R s m args below meth c H locs cells slots Q (F0 m pc ls (.int p1 :: .int p0 :: .ref a :: rest)) := by
  have hK := hKK.1
  obtain ⟨-, ⟨hs0, o0⟩ | ⟨hs0, r, -, o0, o1⟩ | ⟨hs0, o0⟩ | ⟨hs0, o0⟩⟩ := hit
  · have ev : i_drawn it p0 p1 = 0 := by
      unfold i_drawn; rw [hs0]; rfl
    rw [ev] at kk
    exact k_pure (r := .int 0) (va_Run.run (va_runU (As := [.int p0, .int p1]) (rest := rest) ⟨hx, hb, hml, hown, hts⟩ (c_Item_leadersDrawn l g H a p0 p1) (va_cwU (C := "BoxGlue$Put") (owner := "BoxGlue$Item") 2 hts (kU_good kw_514 hlink kw_496 kw_512 kw_495 kw_12) rfl rfl rfl rfl (by decide +kernel) ⟨by show 0 + 1 ≤ _; omega, by show 8 + (3 + 11) + 0 ≤ _; omega⟩) (k_preV (KK_st g) hKK (va_recv hK (k_one o0) (ci := 4) (q0 := 0) rfl rfl)) rfl rfl hls rfl (lv_room hrest) hdg ⟨by omega, by omega⟩)) kk
  · have ev : i_drawn it p0 p1 = (f_Glue_leadersDrawn (it 0) (it 1) (it 4) (it 5) (it 6) (it 7) (it 8) (it 9) p0 p1) := by
      unfold i_drawn; rw [hs0]; rfl
    rw [ev] at kk
    exact k_pure (r := .int (f_Glue_leadersDrawn (it 0) (it 1) (it 4) (it 5) (it 6) (it 7) (it 8) (it 9) p0 p1)) (va_Run.run (va_runU (As := [.int p0, .int p1]) (rest := rest) ⟨hx, hb, hml, hown, hts⟩ (c_Glue_leadersDrawn l g H a r (it 0) (it 1) (it 4) (it 5) (it 6) (it 7) (it 8) (it 9) p0 p1 o0 o1) (va_cwO (C := "BoxGlue$Glue") (owner := "BoxGlue$Item") 2 hts (kO_good kw_499 hlink kw_496 kw_495 kw_497 kw_498 kw_16) rfl rfl rfl kw_514 (by decide +kernel) ⟨by show 3 + 1 ≤ _; omega, by show 8 + (3 + 11) + 65 ≤ _; omega⟩) (k_preV (KK_st g) hKK (va_recv hK (k_one o0) (ci := 5) (q0 := 0) rfl rfl)) rfl rfl hls rfl (lv_room hrest) hdg ⟨by omega, by omega⟩)) kk
  · have ev : i_drawn it p0 p1 = 0 := by
      unfold i_drawn; rw [hs0]; rfl
    rw [ev] at kk
    exact k_pure (r := .int 0) (va_Run.run (va_runU (As := [.int p0, .int p1]) (rest := rest) ⟨hx, hb, hml, hown, hts⟩ (c_Item_leadersDrawn l g H a p0 p1) (va_cwU (C := "BoxGlue$Kern") (owner := "BoxGlue$Item") 2 hts (kU_good kw_514 hlink kw_496 kw_511 kw_495 kw_12) rfl rfl rfl rfl (by decide +kernel) ⟨by show 0 + 1 ≤ _; omega, by show 8 + (3 + 11) + 0 ≤ _; omega⟩) (k_preV (KK_st g) hKK (va_recv hK (k_one o0) (ci := 6) (q0 := 0) rfl rfl)) rfl rfl hls rfl (lv_room hrest) hdg ⟨by omega, by omega⟩)) kk
  · have ev : i_drawn it p0 p1 = 0 := by
      unfold i_drawn; rw [hs0]; rfl
    rw [ev] at kk
    exact k_pure (r := .int 0) (va_Run.run (va_runU (As := [.int p0, .int p1]) (rest := rest) ⟨hx, hb, hml, hown, hts⟩ (c_Item_leadersDrawn l g H a p0 p1) (va_cwU (C := "BoxGlue$Rule") (owner := "BoxGlue$Item") 2 hts (kU_good kw_514 hlink kw_496 kw_513 kw_495 kw_12) rfl rfl rfl rfl (by decide +kernel) ⟨by show 0 + 1 ≤ _; omega, by show 8 + (3 + 11) + 0 ≤ _; omega⟩) (k_preV (KK_st g) hKK (va_recv hK (k_one o0) (ci := 7) (q0 := 0) rfl rfl)) rfl rfl hls rfl (lv_room hrest) hdg ⟨by omega, by omega⟩)) kk
set_option maxHeartbeats 4000000 in
set_option maxRecDepth 100000 in
theorem v_firstLeader {p : Program} {l : Launch} {e : Env} {R : Room} {s : State} {m : MethodId} {args : Array Value} {below : List Frame} {meth : Method} {c : Code} {H : Heap} {locs : List Loc} {cells slots : Nat} {Q : State → Prop} {cc : ByteArray} {nL pc : Nat} {ls : Array Slot} {rest : List Value} {g : KGt} {I : Nat → Prop} {it : Nat → Int32} {a : Nat} {p0 : Int32} {p1 : Int32} {own : String} {idx : Nat} (hx : p.tables.exec = Jvm.exec) (hb : c.code = cc) (hml : c.maxLocals = nL) (hown : s.vm.findClass own = some m.cls) (hts : ∀ w ∈ kG, w.before args s = true) (hKK : KK g s) (hlink : Cond.methodLink own idx y_Item_firstLeader ∈ kG) (hit : kItem g I a it H) (hls : ls.size = nL) (hrest : (rest.map fun v => v.category).sum ≤ 8) (hF : 5 ≤ R.frames) (hLo : 109 ≤ R.locals) (hc : cells ≤ R.cells) (hs : slots ≤ R.slots) (hdg : decode cc pc = .ok (.invokevirtual idx, 3))
    (kk : W p l e R s m args below meth c H locs cells slots Q (F0 m (pc + 3) ls (.int (i_first it p0 p1) :: rest))) : W p l e R s m args below meth c H locs cells slots Q (F0 m pc ls (.int p1 :: .int p0 :: .ref a :: rest)) := by
  have hK := hKK.1
  obtain ⟨-, ⟨hs0, o0⟩ | ⟨hs0, r, -, o0, o1⟩ | ⟨hs0, o0⟩ | ⟨hs0, o0⟩⟩ := hit
  · have ev : i_first it p0 p1 = 0 := by
      unfold i_first; rw [hs0]; rfl
    rw [ev] at kk
    exact k_pure (r := .int 0) (va_Run.run (va_runU (As := [.int p0, .int p1]) (rest := rest) ⟨hx, hb, hml, hown, hts⟩ (c_Item_firstLeader l g H a p0 p1) (va_cwU (C := "BoxGlue$Put") (owner := "BoxGlue$Item") 2 hts (kU_good kw_533 hlink kw_517 kw_531 kw_516 kw_12) rfl rfl rfl rfl (by decide +kernel) ⟨by show 0 + 1 ≤ _; omega, by show 8 + (3 + 11) + 0 ≤ _; omega⟩) (k_preV (KK_st g) hKK (va_recv hK (k_one o0) (ci := 4) (q0 := 0) rfl rfl)) rfl rfl hls rfl (lv_room hrest) hdg ⟨by omega, by omega⟩)) kk
  · have ev : i_first it p0 p1 = (f_Glue_firstLeader (it 0) (it 1) (it 4) (it 5) (it 6) (it 7) (it 8) (it 9) p0 p1) := by
      unfold i_first; rw [hs0]; rfl
    rw [ev] at kk
    exact k_pure (r := .int (f_Glue_firstLeader (it 0) (it 1) (it 4) (it 5) (it 6) (it 7) (it 8) (it 9) p0 p1)) (va_Run.run (va_runU (As := [.int p0, .int p1]) (rest := rest) ⟨hx, hb, hml, hown, hts⟩ (c_Glue_firstLeader l g H a r (it 0) (it 1) (it 4) (it 5) (it 6) (it 7) (it 8) (it 9) p0 p1 o0 o1) (va_cwO (C := "BoxGlue$Glue") (owner := "BoxGlue$Item") 2 hts (kO_good kw_520 hlink kw_517 kw_516 kw_518 kw_519 kw_16) rfl rfl rfl kw_533 (by decide +kernel) ⟨by show 4 + 1 ≤ _; omega, by show 8 + (3 + 11) + 87 ≤ _; omega⟩) (k_preV (KK_st g) hKK (va_recv hK (k_one o0) (ci := 5) (q0 := 0) rfl rfl)) rfl rfl hls rfl (lv_room hrest) hdg ⟨by omega, by omega⟩)) kk
  · have ev : i_first it p0 p1 = 0 := by
      unfold i_first; rw [hs0]; rfl
    rw [ev] at kk
    exact k_pure (r := .int 0) (va_Run.run (va_runU (As := [.int p0, .int p1]) (rest := rest) ⟨hx, hb, hml, hown, hts⟩ (c_Item_firstLeader l g H a p0 p1) (va_cwU (C := "BoxGlue$Kern") (owner := "BoxGlue$Item") 2 hts (kU_good kw_533 hlink kw_517 kw_530 kw_516 kw_12) rfl rfl rfl rfl (by decide +kernel) ⟨by show 0 + 1 ≤ _; omega, by show 8 + (3 + 11) + 0 ≤ _; omega⟩) (k_preV (KK_st g) hKK (va_recv hK (k_one o0) (ci := 6) (q0 := 0) rfl rfl)) rfl rfl hls rfl (lv_room hrest) hdg ⟨by omega, by omega⟩)) kk
  · have ev : i_first it p0 p1 = 0 := by
      unfold i_first; rw [hs0]; rfl
    rw [ev] at kk
    exact k_pure (r := .int 0) (va_Run.run (va_runU (As := [.int p0, .int p1]) (rest := rest) ⟨hx, hb, hml, hown, hts⟩ (c_Item_firstLeader l g H a p0 p1) (va_cwU (C := "BoxGlue$Rule") (owner := "BoxGlue$Item") 2 hts (kU_good kw_533 hlink kw_517 kw_532 kw_516 kw_12) rfl rfl rfl rfl (by decide +kernel) ⟨by show 0 + 1 ≤ _; omega, by show 8 + (3 + 11) + 0 ≤ _; omega⟩) (k_preV (KK_st g) hKK (va_recv hK (k_one o0) (ci := 7) (q0 := 0) rfl rfl)) rfl rfl hls rfl (lv_room hrest) hdg ⟨by omega, by omega⟩)) kk
set_option maxHeartbeats 4000000 in
set_option maxRecDepth 100000 in
theorem v_leaderStep {p : Program} {l : Launch} {e : Env} {R : Room} {s : State} {m : MethodId} {args : Array Value} {below : List Frame} {meth : Method} {c : Code} {H : Heap} {locs : List Loc} {cells slots : Nat} {Q : State → Prop} {cc : ByteArray} {nL pc : Nat} {ls : Array Slot} {rest : List Value} {g : KGt} {I : Nat → Prop} {it : Nat → Int32} {a : Nat} {p0 : Int32} {p1 : Int32} {own : String} {idx : Nat} (hx : p.tables.exec = Jvm.exec) (hb : c.code = cc) (hml : c.maxLocals = nL) (hown : s.vm.findClass own = some m.cls) (hts : ∀ w ∈ kG, w.before args s = true) (hKK : KK g s) (hlink : Cond.methodLink own idx y_Item_leaderStep ∈ kG) (hit : kItem g I a it H) (hls : ls.size = nL) (hrest : (rest.map fun v => v.category).sum ≤ 8) (hF : 5 ≤ R.frames) (hLo : 109 ≤ R.locals) (hc : cells ≤ R.cells) (hs : slots ≤ R.slots) (hdg : decode cc pc = .ok (.invokevirtual idx, 3))
    (kk : W p l e R s m args below meth c H locs cells slots Q (F0 m (pc + 3) ls (.int (i_step it p0 p1) :: rest))) : W p l e R s m args below meth c H locs cells slots Q (F0 m pc ls (.int p1 :: .int p0 :: .ref a :: rest)) := by
  have hK := hKK.1
  obtain ⟨-, ⟨hs0, o0⟩ | ⟨hs0, r, -, o0, o1⟩ | ⟨hs0, o0⟩ | ⟨hs0, o0⟩⟩ := hit
  · have ev : i_step it p0 p1 = 0 := by
      unfold i_step; rw [hs0]; rfl
    rw [ev] at kk
    exact k_pure (r := .int 0) (va_Run.run (va_runU (As := [.int p0, .int p1]) (rest := rest) ⟨hx, hb, hml, hown, hts⟩ (c_Item_leaderStep l g H a p0 p1) (va_cwU (C := "BoxGlue$Put") (owner := "BoxGlue$Item") 2 hts (kU_good kw_547 hlink kw_536 kw_545 kw_535 kw_12) rfl rfl rfl rfl (by decide +kernel) ⟨by show 0 + 1 ≤ _; omega, by show 8 + (3 + 11) + 0 ≤ _; omega⟩) (k_preV (KK_st g) hKK (va_recv hK (k_one o0) (ci := 4) (q0 := 0) rfl rfl)) rfl rfl hls rfl (lv_room hrest) hdg ⟨by omega, by omega⟩)) kk
  · have ev : i_step it p0 p1 = (f_Glue_leaderStep (it 0) (it 1) (it 4) (it 5) (it 6) (it 7) (it 8) (it 9) p0 p1) := by
      unfold i_step; rw [hs0]; rfl
    rw [ev] at kk
    exact k_pure (r := .int (f_Glue_leaderStep (it 0) (it 1) (it 4) (it 5) (it 6) (it 7) (it 8) (it 9) p0 p1)) (va_Run.run (va_runU (As := [.int p0, .int p1]) (rest := rest) ⟨hx, hb, hml, hown, hts⟩ (c_Glue_leaderStep l g H a r (it 0) (it 1) (it 4) (it 5) (it 6) (it 7) (it 8) (it 9) p0 p1 o0 o1) (va_cwO (C := "BoxGlue$Glue") (owner := "BoxGlue$Item") 2 hts (kO_good kw_539 hlink kw_536 kw_535 kw_537 kw_538 kw_16) rfl rfl rfl kw_547 (by decide +kernel) ⟨by show 4 + 1 ≤ _; omega, by show 8 + (3 + 11) + 87 ≤ _; omega⟩) (k_preV (KK_st g) hKK (va_recv hK (k_one o0) (ci := 5) (q0 := 0) rfl rfl)) rfl rfl hls rfl (lv_room hrest) hdg ⟨by omega, by omega⟩)) kk
  · have ev : i_step it p0 p1 = 0 := by
      unfold i_step; rw [hs0]; rfl
    rw [ev] at kk
    exact k_pure (r := .int 0) (va_Run.run (va_runU (As := [.int p0, .int p1]) (rest := rest) ⟨hx, hb, hml, hown, hts⟩ (c_Item_leaderStep l g H a p0 p1) (va_cwU (C := "BoxGlue$Kern") (owner := "BoxGlue$Item") 2 hts (kU_good kw_547 hlink kw_536 kw_544 kw_535 kw_12) rfl rfl rfl rfl (by decide +kernel) ⟨by show 0 + 1 ≤ _; omega, by show 8 + (3 + 11) + 0 ≤ _; omega⟩) (k_preV (KK_st g) hKK (va_recv hK (k_one o0) (ci := 6) (q0 := 0) rfl rfl)) rfl rfl hls rfl (lv_room hrest) hdg ⟨by omega, by omega⟩)) kk
  · have ev : i_step it p0 p1 = 0 := by
      unfold i_step; rw [hs0]; rfl
    rw [ev] at kk
    exact k_pure (r := .int 0) (va_Run.run (va_runU (As := [.int p0, .int p1]) (rest := rest) ⟨hx, hb, hml, hown, hts⟩ (c_Item_leaderStep l g H a p0 p1) (va_cwU (C := "BoxGlue$Rule") (owner := "BoxGlue$Item") 2 hts (kU_good kw_547 hlink kw_536 kw_546 kw_535 kw_12) rfl rfl rfl rfl (by decide +kernel) ⟨by show 0 + 1 ≤ _; omega, by show 8 + (3 + 11) + 0 ≤ _; omega⟩) (k_preV (KK_st g) hKK (va_recv hK (k_one o0) (ci := 7) (q0 := 0) rfl rfl)) rfl rfl hls rfl (lv_room hrest) hdg ⟨by omega, by omega⟩)) kk
end
section
/-! Fit over a list of items -/
theorem v_cast {p : Program} {l : Launch} {e : Env} {R : Room} {s : State} {m : MethodId} {args : Array Value} {below : List Frame} {meth : Method} {c : Code} {H : Heap} {locs : List Loc} {cells slots : Nat} {Q : State → Prop} {cc : ByteArray} {pc : Nat} {ls : Array Slot} {rest : List Value} {g : KGt} {I : Nat → Prop} {it : Nat → Int32} {a : Nat} {own : String} {idx : Nat} (hx : p.tables.exec = Jvm.exec) (hb : c.code = cc) (hown : s.vm.findClass own = some m.cls) (hts : ∀ w ∈ kG, w.before args s = true) (hKK : KK g s) (hlink : Cond.classLink own idx "BoxGlue$Item" ∈ kG) (hit : kItem g I a it H) (hdg : decode cc pc = .ok (.checkcast idx, 3)) (kk : W p l e R s m args below meth c H locs cells slots Q (F0 m (pc + 3) ls (.ref a :: rest))) : W p l e R s m args below meth c H locs cells slots Q (F0 m pc ls (.ref a :: rest)) := by
  have hK := hKK.1
  obtain ⟨-, ⟨hs0, o0⟩ | ⟨hs0, r, -, o0, o1⟩ | ⟨hs0, o0⟩ | ⟨hs0, o0⟩⟩ := hit
  · exact va_castY (C := "BoxGlue$Put") hx hb hown (hts _ hlink) (hKK.2.1 (.castable "BoxGlue$Put" "BoxGlue$Item") (by decide +kernel)) (va_recv hK (k_one o0) (ci := 4) (q0 := 0) rfl rfl) hdg kk
  · exact va_castY (C := "BoxGlue$Glue") hx hb hown (hts _ hlink) (hKK.2.1 (.castable "BoxGlue$Glue" "BoxGlue$Item") (by decide +kernel)) (va_recv hK (k_one o0) (ci := 5) (q0 := 0) rfl rfl) hdg kk
  · exact va_castY (C := "BoxGlue$Kern") hx hb hown (hts _ hlink) (hKK.2.1 (.castable "BoxGlue$Kern" "BoxGlue$Item") (by decide +kernel)) (va_recv hK (k_one o0) (ci := 6) (q0 := 0) rfl rfl) hdg kk
  · exact va_castY (C := "BoxGlue$Rule") hx hb hown (hts _ hlink) (hKK.2.1 (.castable "BoxGlue$Rule" "BoxGlue$Item") (by decide +kernel)) (va_recv hK (k_one o0) (ci := 7) (q0 := 0) rfl rfl) hdg kk
theorem v_sort {p : Program} {l : Launch} {e : Env} {R : Room} {s : State} {m : MethodId} {args : Array Value} {below : List Frame} {meth : Method} {c : Code} {H : Heap} {locs : List Loc} {cells slots : Nat} {Q : State → Prop} {cc : ByteArray} {pc : Nat} {ls : Array Slot} {rest : List Value} {g : KGt} {I : Nat → Prop} {it : Nat → Int32} {a : Nat} {own : String} {idx : Nat} (hx : p.tables.exec = Jvm.exec) (hb : c.code = cc) (hown : s.vm.findClass own = some m.cls) (hts : ∀ w ∈ kG, w.before args s = true) (hKK : KK g s) (hlink : Cond.fieldLink own idx "BoxGlue$Item" "sort" "I" ∈ kG) (hit : kItem g I a it H) (hdg : decode cc pc = .ok (.getfield idx, 3)) (kk : W p l e R s m args below meth c H locs cells slots Q (F0 m (pc + 3) ls (.int (it 0) :: rest))) : W p l e R s m args below meth c H locs cells slots Q (F0 m pc ls (.ref a :: rest)) := by
  have hK := hKK.1
  obtain ⟨-, ⟨hs0, o0⟩ | ⟨hs0, r, -, o0, o1⟩ | ⟨hs0, o0⟩ | ⟨hs0, o0⟩⟩ := hit
  · exact va_get (D := g.1) (ci := 4) (v := .int (it 0)) (C := "BoxGlue$Put") (T := kT_Put) (N := 4) hx hb hts ki_Put hown hK (k_one o0) 0 rfl rfl 0 (by decide) (hts _ hlink) (fun _ h9 => h9) rfl hdg kk
  · exact va_get (D := g.1) (ci := 5) (v := .int (it 0)) (C := "BoxGlue$Glue") (T := kT_Glue) (N := 7) hx hb hts ki_Glue hown hK (k_one o0) 0 rfl rfl 0 (by decide) (hts _ hlink) (fun _ h9 => h9) rfl hdg kk
  · exact va_get (D := g.1) (ci := 6) (v := .int (it 0)) (C := "BoxGlue$Kern") (T := kT_Kern) (N := 2) hx hb hts ki_Kern hown hK (k_one o0) 0 rfl rfl 0 (by decide) (hts _ hlink) (fun _ h9 => h9) rfl hdg kk
  · exact va_get (D := g.1) (ci := 7) (v := .int (it 0)) (C := "BoxGlue$Rule") (T := kT_Rule) (N := 4) hx hb hts ki_Rule hown hK (k_one o0) 0 rfl rfl 0 (by decide) (hts _ hlink) (fun _ h9 => h9) rfl hdg kk
theorem v_own {p : Program} {l : Launch} {e : Env} {R : Room} {s : State} {m : MethodId} {args : Array Value} {below : List Frame} {meth : Method} {c : Code} {H : Heap} {locs : List Loc} {cells slots : Nat} {Q : State → Prop} {cc : ByteArray} {pc : Nat} {ls : Array Slot} {rest : List Value} {g : KGt} {I : Nat → Prop} {it : Nat → Int32} {a : Nat} {own : String} {idx : Nat} (hx : p.tables.exec = Jvm.exec) (hb : c.code = cc) (hown : s.vm.findClass own = some m.cls) (hts : ∀ w ∈ kG, w.before args s = true) (hKK : KK g s) (hlink : Cond.fieldLink own idx "BoxGlue$Item" "ownLength" "I" ∈ kG) (hit : kItem g I a it H) (hdg : decode cc pc = .ok (.getfield idx, 3)) (kk : W p l e R s m args below meth c H locs cells slots Q (F0 m (pc + 3) ls (.int (it 1) :: rest))) : W p l e R s m args below meth c H locs cells slots Q (F0 m pc ls (.ref a :: rest)) := by
  have hK := hKK.1
  obtain ⟨-, ⟨hs0, o0⟩ | ⟨hs0, r, -, o0, o1⟩ | ⟨hs0, o0⟩ | ⟨hs0, o0⟩⟩ := hit
  · exact va_get (D := g.1) (ci := 4) (v := .int (it 1)) (C := "BoxGlue$Put") (T := kT_Put) (N := 4) hx hb hts ki_Put hown hK (k_one o0) 0 rfl rfl 1 (by decide) (hts _ hlink) (fun _ h9 => h9) rfl hdg kk
  · exact va_get (D := g.1) (ci := 5) (v := .int (it 1)) (C := "BoxGlue$Glue") (T := kT_Glue) (N := 7) hx hb hts ki_Glue hown hK (k_one o0) 0 rfl rfl 1 (by decide) (hts _ hlink) (fun _ h9 => h9) rfl hdg kk
  · exact va_get (D := g.1) (ci := 6) (v := .int (it 1)) (C := "BoxGlue$Kern") (T := kT_Kern) (N := 2) hx hb hts ki_Kern hown hK (k_one o0) 0 rfl rfl 1 (by decide) (hts _ hlink) (fun _ h9 => h9) rfl hdg kk
  · exact va_get (D := g.1) (ci := 7) (v := .int (it 1)) (C := "BoxGlue$Rule") (T := kT_Rule) (N := 4) hx hb hts ki_Rule hown hK (k_one o0) 0 rfl rfl 1 (by decide) (hts _ hlink) (fun _ h9 => h9) rfl hdg kk
def l_len (its : Nat → Nat → Int32) (n : Nat) : Int32 := l_sum (fun i => its i 1) n
set_option maxHeartbeats 4000000 in
set_option maxRecDepth 100000 in
theorem c_Fit_lengthOf (l : Launch) (g : KGt) (H0 : Heap) (I : Nat → Prop) (h0 n : Nat) (el : Nat → Nat) (its : Nat → Nat → Int32) (o : kAL g h0 n el H0) (hi : ∀ i, i < n → kItem g I (el i) (its i) H0) : Met l y_Fit_lengthOf (kW y_Fit_lengthOf b_Fit_lengthOf 3 (.some .int)) ({ frames := 3, cells := 0, slots := 0, locals := 64 }) (kPc [.ref h0] (KK g) H0) (kQc (kPure (.int (l_len its n)) H0)) 0 0 (fun _ => False) := by
  refine Met.ofW (cc := b_Fit_lengthOf) (maxL := 3) (ret := (.some .int)) (by decide) rfl ?_
  intro p e s m args below meth c s₁ B hml hv
  obtain ⟨rfl, hH, hKK⟩ := hv
  have hx := B.exec
  have hb := B.bytes
  have hr := B.returns
  have hts := kW_ts (atoms_spec (ws := kW y_Fit_lengthOf b_Fit_lengthOf 3 (.some .int)) B.pre)
  have hown : s.vm.findClass "BoxGlue$Fit" = some m.cls := findClass_of_methodNamed B.named
  have hlocks := B.notSynchronized
  have hK := hKK.1
  subst hH
  have hl := lv_entry ([.ref h0]) (n := 3) (Nat.le_of_ble_eq_true rfl)
  rw [lg_entry_eq]
  generalize (lg_sl ([.ref h0]) ++ List.replicate (3 - (lg_sl ([.ref h0])).length) Slot.unset).toArray = ls at hl ⊢
  have hl : lv_has ls 3 [(0, .ref h0)] := hl
  have hn := o.n_lt
  refine lv_iconst (v := 0) hx hb d_Fit_lengthOf_0 (by decide) ?_
  refine lv_istore_n (lv' := [(1, .int 0), (0, .ref h0)]) hx hb d_Fit_lengthOf_1 rfl hl (by decide) rfl (fun ls hl => ?_)
  refine lv_iconst (v := 0) hx hb d_Fit_lengthOf_2 (by decide) ?_
  refine lv_istore_n (lv' := [(2, .int 0), (1, .int 0), (0, .ref h0)]) hx hb d_Fit_lengthOf_3 rfl hl (by decide) rfl (fun ls hl => ?_)
  have key : ∀ (j i : Nat) (ls : Array Slot), i + j = n → lv_has ls 3 [(2, .int (nI i)), (1, .int (l_len its i)), (0, .ref h0)] → W p l e (headSpec (kW y_Fit_lengthOf b_Fit_lengthOf 3 (.some .int)) { frames := 3, cells := 0, slots := 0, locals := 64 }).room s m #[Value.ref h0] below meth c s.heap [] 0 0 (MQ below (kQc (kPure (.int (l_len its n)) s.heap)) #[Value.ref h0] s 0 0 (fun _ => False)) (F0 m 4 ls []) := by
    intro j
    induction j with
    | zero =>
      intro i ls hij hl
      refine lv_iload_n hx hb d_Fit_lengthOf_4 rfl (lv_at hl 0 rfl) ?_
      refine lv_aload_n hx hb d_Fit_lengthOf_5 rfl (lv_at hl 2 rfl) ?_
      refine k_pure (r := .int (nI n)) (W.runV (As := []) (rest := [.int (nI i)]) ⟨hx, hb, hml, hown, hts⟩ (c_AL_size l g s.heap h0 n el o) (cwV 0 hts (kV_good kw_76 kw_354 kw_74 kw_75 kw_4) rfl rfl rfl (by decide +kernel) ⟨Nat.le_of_ble_eq_true rfl, Nat.le_of_ble_eq_true rfl⟩) (k_preV (KK_st g) hKK (o.recv hK)) rfl rfl hl.1 rfl (lv_room (Nat.le_of_ble_eq_true rfl)) d_Fit_lengthOf_6 ⟨Nat.zero_le _, Nat.zero_le _⟩) ?_
      refine lv_icmp_ge (tgt := 32) hx hb d_Fit_lengthOf_9 (by decide) (fun c_1 => ?_) (fun c_1 => ?_)
      rotate_left
      · exact absurd c_1 (fun q => q (by rw [show i = n by omega]; exact Int32.le_refl _))
      refine lv_iload_n hx hb d_Fit_lengthOf_32 rfl (lv_at hl 1 rfl) ?_
      exact W.iret (v := (l_len its i)) hx hb hr (fun t ht hW => ⟨_, rfl, (by rw [show i = n by omega]), ht⟩) (fun _ h => by cases h) d_Fit_lengthOf_33
    | succ j ih =>
      intro i ls hij hl
      refine lv_iload_n hx hb d_Fit_lengthOf_4 rfl (lv_at hl 0 rfl) ?_
      refine lv_aload_n hx hb d_Fit_lengthOf_5 rfl (lv_at hl 2 rfl) ?_
      refine k_pure (r := .int (nI n)) (W.runV (As := []) (rest := [.int (nI i)]) ⟨hx, hb, hml, hown, hts⟩ (c_AL_size l g s.heap h0 n el o) (cwV 0 hts (kV_good kw_76 kw_354 kw_74 kw_75 kw_4) rfl rfl rfl (by decide +kernel) ⟨Nat.le_of_ble_eq_true rfl, Nat.le_of_ble_eq_true rfl⟩) (k_preV (KK_st g) hKK (o.recv hK)) rfl rfl hl.1 rfl (lv_room (Nat.le_of_ble_eq_true rfl)) d_Fit_lengthOf_6 ⟨Nat.zero_le _, Nat.zero_le _⟩) ?_
      refine lv_icmp_ge (tgt := 32) hx hb d_Fit_lengthOf_9 (by decide) (fun c_2 => ?_) (fun c_2 => ?_)
      · exact absurd c_2 (nI_ge (by omega) (by omega))
      refine lv_iload_n hx hb d_Fit_lengthOf_12 rfl (lv_at hl 1 rfl) ?_
      refine lv_aload_n hx hb d_Fit_lengthOf_13 rfl (lv_at hl 2 rfl) ?_
      refine lv_iload_n hx hb d_Fit_lengthOf_14 rfl (lv_at hl 0 rfl) ?_
      refine k_pure (r := .ref (el i)) (W.runV (As := [.int (nI i)]) (rest := [.int (l_len its i)]) ⟨hx, hb, hml, hown, hts⟩ (c_AL_get l g s.heap h0 n el i (by omega) o) (cwV 1 hts (kV_good kw_207 kw_355 kw_205 kw_206 kw_4) rfl rfl rfl (by decide +kernel) ⟨Nat.le_of_ble_eq_true rfl, Nat.le_of_ble_eq_true rfl⟩) (k_preV (KK_st g) hKK (o.recv hK)) rfl rfl hl.1 rfl (lv_room (Nat.le_of_ble_eq_true rfl)) d_Fit_lengthOf_15 ⟨Nat.zero_le _, Nat.zero_le _⟩) ?_
      refine v_cast hx hb hown hts hKK kw_356 (hi i (by omega)) d_Fit_lengthOf_18 ?_
      refine v_own hx hb hown hts hKK kw_233 (hi i (by omega)) d_Fit_lengthOf_21 ?_
      refine lv_iadd hx hb d_Fit_lengthOf_24 ?_
      refine W.eq (g2 := F0 m 25 ls [.int (l_len its (i + 1))]) rfl ?_
      refine lv_istore_n (lv' := [(1, .int (l_len its (i + 1))), (2, .int (nI i)), (0, .ref h0)]) hx hb d_Fit_lengthOf_25 rfl hl (by decide) rfl (fun ls hl => ?_)
      refine lv_iinc (v := nI (i + 1)) (lv' := [(2, .int (nI (i + 1))), (1, .int (l_len its (i + 1))), (0, .ref h0)]) hx hb d_Fit_lengthOf_26 hl (k := 1) rfl (nI_1 i) (by decide) rfl (fun ls hl => ?_)
      refine lv_goto (tgt := 4) hx hb d_Fit_lengthOf_29 (by decide) ?_
      exact ih (i + 1) ls (by omega) (lv_sub (l := [(2, .int (nI (i + 1))), (1, .int (l_len its (i + 1))), (0, .ref h0)]) hl [0, 1, 2] rfl)
  exact key n 0 ls (by omega) (lv_sub hl [0, 1, 2] rfl)
def l_giv (its : Nat → Nat → Int32) (b d : Int32) (n : Nat) : Int32 := l_sum (fun i => i_giving (its i) b d) n
set_option maxHeartbeats 4000000 in
set_option maxRecDepth 100000 in
theorem c_Fit_sumOf (l : Launch) (g : KGt) (H0 : Heap) (I : Nat → Prop) (h0 n : Nat) (el : Nat → Nat) (its : Nat → Nat → Int32) (o : kAL g h0 n el H0) (hi : ∀ i, i < n → kItem g I (el i) (its i) H0) (b d : Int32) : Met l y_Fit_sumOf (kW y_Fit_sumOf b_Fit_sumOf 5 (.some .int)) ({ frames := 3, cells := 0, slots := 0, locals := 64 }) (kPc [.ref h0, .int b, .int d] (KK g) H0) (kQc (kPure (.int (l_giv its b d n)) H0)) 0 0 (fun _ => False) := by
  refine Met.ofW (cc := b_Fit_sumOf) (maxL := 5) (ret := (.some .int)) (by decide) rfl ?_
  intro p e s m args below meth c s₁ B hml hv
  obtain ⟨rfl, hH, hKK⟩ := hv
  have hx := B.exec
  have hb := B.bytes
  have hr := B.returns
  have hts := kW_ts (atoms_spec (ws := kW y_Fit_sumOf b_Fit_sumOf 5 (.some .int)) B.pre)
  have hown : s.vm.findClass "BoxGlue$Fit" = some m.cls := findClass_of_methodNamed B.named
  have hlocks := B.notSynchronized
  have hK := hKK.1
  subst hH
  have hl := lv_entry ([.ref h0, .int b, .int d]) (n := 5) (Nat.le_of_ble_eq_true rfl)
  rw [lg_entry_eq]
  generalize (lg_sl ([.ref h0, .int b, .int d]) ++ List.replicate (5 - (lg_sl ([.ref h0, .int b, .int d])).length) Slot.unset).toArray = ls at hl ⊢
  have hl : lv_has ls 5 [(0, .ref h0), (1, .int b), (2, .int d)] := hl
  have hn := o.n_lt
  refine lv_iconst (v := 0) hx hb d_Fit_sumOf_0 (by decide) ?_
  refine lv_istore_n (lv' := [(3, .int 0), (0, .ref h0), (1, .int b), (2, .int d)]) hx hb d_Fit_sumOf_1 rfl hl (by decide) rfl (fun ls hl => ?_)
  refine lv_iconst (v := 0) hx hb d_Fit_sumOf_2 (by decide) ?_
  refine lv_istore (lv' := [(4, .int 0), (3, .int 0), (0, .ref h0), (1, .int b), (2, .int d)]) hx hb d_Fit_sumOf_3 hl (by decide) rfl (fun ls hl => ?_)
  have key : ∀ (j i : Nat) (ls : Array Slot), i + j = n → lv_has ls 5 [(4, .int (nI i)), (3, .int (l_giv its b d i)), (2, .int d), (1, .int b), (0, .ref h0)] → W p l e (headSpec (kW y_Fit_sumOf b_Fit_sumOf 5 (.some .int)) { frames := 3, cells := 0, slots := 0, locals := 64 }).room s m #[Value.ref h0, Value.int b, Value.int d] below meth c s.heap [] 0 0 (MQ below (kQc (kPure (.int (l_giv its b d n)) s.heap)) #[Value.ref h0, Value.int b, Value.int d] s 0 0 (fun _ => False)) (F0 m 5 ls []) := by
    intro j
    induction j with
    | zero =>
      intro i ls hij hl
      refine lv_iload hx hb d_Fit_sumOf_5 (lv_at hl 0 rfl) ?_
      refine lv_aload_n hx hb d_Fit_sumOf_7 rfl (lv_at hl 4 rfl) ?_
      refine k_pure (r := .int (nI n)) (W.runV (As := []) (rest := [.int (nI i)]) ⟨hx, hb, hml, hown, hts⟩ (c_AL_size l g s.heap h0 n el o) (cwV 0 hts (kV_good kw_76 kw_354 kw_74 kw_75 kw_4) rfl rfl rfl (by decide +kernel) ⟨Nat.le_of_ble_eq_true rfl, Nat.le_of_ble_eq_true rfl⟩) (k_preV (KK_st g) hKK (o.recv hK)) rfl rfl hl.1 rfl (lv_room (Nat.le_of_ble_eq_true rfl)) d_Fit_sumOf_8 ⟨Nat.zero_le _, Nat.zero_le _⟩) ?_
      refine lv_icmp_ge (tgt := 37) hx hb d_Fit_sumOf_11 (by decide) (fun c_1 => ?_) (fun c_1 => ?_)
      rotate_left
      · exact absurd c_1 (fun q => q (by rw [show i = n by omega]; exact Int32.le_refl _))
      refine lv_iload_n hx hb d_Fit_sumOf_37 rfl (lv_at hl 1 rfl) ?_
      exact W.iret (v := (l_giv its b d i)) hx hb hr (fun t ht hW => ⟨_, rfl, (by rw [show i = n by omega]), ht⟩) (fun _ h => by cases h) d_Fit_sumOf_38
    | succ j ih =>
      intro i ls hij hl
      refine lv_iload hx hb d_Fit_sumOf_5 (lv_at hl 0 rfl) ?_
      refine lv_aload_n hx hb d_Fit_sumOf_7 rfl (lv_at hl 4 rfl) ?_
      refine k_pure (r := .int (nI n)) (W.runV (As := []) (rest := [.int (nI i)]) ⟨hx, hb, hml, hown, hts⟩ (c_AL_size l g s.heap h0 n el o) (cwV 0 hts (kV_good kw_76 kw_354 kw_74 kw_75 kw_4) rfl rfl rfl (by decide +kernel) ⟨Nat.le_of_ble_eq_true rfl, Nat.le_of_ble_eq_true rfl⟩) (k_preV (KK_st g) hKK (o.recv hK)) rfl rfl hl.1 rfl (lv_room (Nat.le_of_ble_eq_true rfl)) d_Fit_sumOf_8 ⟨Nat.zero_le _, Nat.zero_le _⟩) ?_
      refine lv_icmp_ge (tgt := 37) hx hb d_Fit_sumOf_11 (by decide) (fun c_2 => ?_) (fun c_2 => ?_)
      · exact absurd c_2 (nI_ge (by omega) (by omega))
      refine lv_iload_n hx hb d_Fit_sumOf_14 rfl (lv_at hl 1 rfl) ?_
      refine lv_aload_n hx hb d_Fit_sumOf_15 rfl (lv_at hl 4 rfl) ?_
      refine lv_iload hx hb d_Fit_sumOf_16 (lv_at hl 0 rfl) ?_
      refine k_pure (r := .ref (el i)) (W.runV (As := [.int (nI i)]) (rest := [.int (l_giv its b d i)]) ⟨hx, hb, hml, hown, hts⟩ (c_AL_get l g s.heap h0 n el i (by omega) o) (cwV 1 hts (kV_good kw_207 kw_355 kw_205 kw_206 kw_4) rfl rfl rfl (by decide +kernel) ⟨Nat.le_of_ble_eq_true rfl, Nat.le_of_ble_eq_true rfl⟩) (k_preV (KK_st g) hKK (o.recv hK)) rfl rfl hl.1 rfl (lv_room (Nat.le_of_ble_eq_true rfl)) d_Fit_sumOf_18 ⟨Nat.zero_le _, Nat.zero_le _⟩) ?_
      refine v_cast hx hb hown hts hKK kw_356 (hi i (by omega)) d_Fit_sumOf_21 ?_
      refine lv_iload_n hx hb d_Fit_sumOf_24 rfl (lv_at hl 3 rfl) ?_
      refine lv_iload_n hx hb d_Fit_sumOf_25 rfl (lv_at hl 2 rfl) ?_
      refine v_giving hx hb hml hown hts hKK kw_400 (hi i (by omega)) hl.1 (Nat.le_of_ble_eq_true rfl) (Nat.le_of_ble_eq_true rfl) (Nat.le_of_ble_eq_true rfl) (Nat.zero_le _) (Nat.zero_le _) d_Fit_sumOf_26 ?_
      refine lv_iadd hx hb d_Fit_sumOf_29 ?_
      refine W.eq (g2 := F0 m 30 ls [.int (l_giv its b d (i + 1))]) rfl ?_
      refine lv_istore_n (lv' := [(3, .int (l_giv its b d (i + 1))), (4, .int (nI i)), (2, .int d), (1, .int b), (0, .ref h0)]) hx hb d_Fit_sumOf_30 rfl hl (by decide) rfl (fun ls hl => ?_)
      refine lv_iinc (v := nI (i + 1)) (lv' := [(4, .int (nI (i + 1))), (3, .int (l_giv its b d (i + 1))), (2, .int d), (1, .int b), (0, .ref h0)]) hx hb d_Fit_sumOf_31 hl (k := 1) rfl (nI_1 i) (by decide) rfl (fun ls hl => ?_)
      refine lv_goto (tgt := 5) hx hb d_Fit_sumOf_34 (by decide) ?_
      exact ih (i + 1) ls (by omega) (lv_sub (l := [(4, .int (nI (i + 1))), (3, .int (l_giv its b d (i + 1))), (2, .int d), (1, .int b), (0, .ref h0)]) hl [0, 1, 2, 3, 4] rfl)
  exact key n 0 ls (by omega) (lv_sub hl [0, 1, 4, 3, 2] rfl)
end
section
/-! Fit: greatestOrder, givingOf, of -/
theorem kALx.ext {g : KGt} {la arr cap n : Nat} {el : Nat → Nat} {A : Nat → Prop} {H H1 : Heap} (h : kALx g la arr cap n el H) (hE : kE A H H1) (h1 : ¬ A la) (h2 : 0 < cap → ¬ A arr) : kALx g la arr cap n el H1 := by
  obtain ⟨mo, w1, w2 | ⟨f, w2, w3, w4, w5⟩⟩ := h
  · exact ⟨mo, hE.at w1 h1, Or.inl w2⟩
  · exact ⟨mo, hE.at w1 h1, Or.inr ⟨f, hE.at w2 (h2 (by omega)), w3, w4, w5⟩⟩
theorem kAL.ext {g : KGt} {la n : Nat} {el : Nat → Nat} {H H1 : Heap} (h : kAL g la n el H) (hE : kE (fun _ => False) H H1) : kAL g la n el H1 := by
  obtain ⟨arr, cap, h⟩ := h
  exact ⟨arr, cap, h.ext hE id (fun _ => id)⟩
theorem kItem.ext {g : KGt} {I : Nat → Prop} {a : Nat} {it : Nat → Int32} {H H1 : Heap} (h : kItem g I a it H) (hE : kE (fun _ => False) H H1) : kItem g I a it H1 := h.kept (fun _ h => h) (fun q _ hl => hE.2 q hl id)
theorem kP0 {D : va_G} {cl : List vw_C} {H : Heap} : va_P D cl [] H := fun k q h => by simp at h
theorem kD0 {A : Nat → Prop} : va_D A [] := ⟨fun i j p q h => by simp at h, fun k q h => by simp at h⟩
def l_go (its : Nat → Nat → Int32) (b : Int32) (n : Nat) : Int32 := if l_giv its b 3 n = 0 then (if l_giv its b 2 n = 0 then (if l_giv its b 1 n = 0 then (if l_giv its b 0 n = 0 then (-1) else 0) else 1) else 2) else 3
set_option maxHeartbeats 4000000 in
set_option maxRecDepth 100000 in
theorem c_Fit_greatestOrder (l : Launch) (g : KGt) (H0 : Heap) (I : Nat → Prop) (h0 n : Nat) (el : Nat → Nat) (its : Nat → Nat → Int32) (o : kAL g h0 n el H0) (hi : ∀ i, i < n → kItem g I (el i) (its i) H0) (b : Int32) : Met l y_Fit_greatestOrder (kW y_Fit_greatestOrder b_Fit_greatestOrder 3 (.some .int)) ({ frames := 4, cells := 0, slots := 0, locals := 88 }) (kPc [.ref h0, .int b] (KK g) H0) (kQc (kPure (.int (l_go its b n)) H0)) 0 0 (fun _ => False) := by
  refine Met.ofW (cc := b_Fit_greatestOrder) (maxL := 3) (ret := (.some .int)) (by decide) rfl ?_
  intro p e s m args below meth c s₁ B hml hv
  obtain ⟨rfl, hH, hKK⟩ := hv
  have hx := B.exec
  have hb := B.bytes
  have hr := B.returns
  have hts := kW_ts (atoms_spec (ws := kW y_Fit_greatestOrder b_Fit_greatestOrder 3 (.some .int)) B.pre)
  have hown : s.vm.findClass "BoxGlue$Fit" = some m.cls := findClass_of_methodNamed B.named
  have hlocks := B.notSynchronized
  have hK := hKK.1
  subst hH
  have hl := lv_entry ([.ref h0, .int b]) (n := 3) (Nat.le_of_ble_eq_true rfl)
  rw [lg_entry_eq]
  generalize (lg_sl ([.ref h0, .int b]) ++ List.replicate (3 - (lg_sl ([.ref h0, .int b])).length) Slot.unset).toArray = ls at hl ⊢
  have hl : lv_has ls 3 [(0, .ref h0), (1, .int b)] := hl
  refine lv_iconst (v := 3) hx hb d_Fit_greatestOrder_0 (by decide) ?_
  refine lv_istore_n (lv' := [(2, .int 3), (0, .ref h0), (1, .int b)]) hx hb d_Fit_greatestOrder_1 rfl hl (by decide) rfl (fun ls hl => ?_)
  refine lv_iload_n hx hb d_Fit_greatestOrder_2 rfl (lv_at hl 0 rfl) ?_
  refine lv_if_lt (tgt := 23) hx hb d_Fit_greatestOrder_3 (by decide) (fun c_1 => ?_) (fun c_1 => ?_)
  · exact absurd c_1 (by decide)
  refine lv_aload_n hx hb d_Fit_greatestOrder_6 rfl (lv_at hl 1 rfl) ?_
  refine lv_iload_n hx hb d_Fit_greatestOrder_7 rfl (lv_at hl 2 rfl) ?_
  refine lv_iload_n hx hb d_Fit_greatestOrder_8 rfl (lv_at hl 0 rfl) ?_
  refine k_pure (r := .int (l_giv its b 3 n)) (W.runS (As := [.ref h0, .int b, .int 3]) (rest := []) ⟨hx, hb, hml, hown, hts⟩ (c_Fit_sumOf l g s.heap I h0 n el its o hi b 3) (va_cwS 3 hts (kS_good kw_399 kw_397 kw_398 kw_7) rfl rfl rfl (by decide +kernel) ⟨Nat.le_of_ble_eq_true rfl, Nat.le_of_ble_eq_true rfl⟩) (k_pre (KK_st g) hKK) rfl rfl hl.1 rfl (lv_room (Nat.le_of_ble_eq_true rfl)) d_Fit_greatestOrder_9 ⟨Nat.zero_le _, Nat.zero_le _⟩) ?_
  refine lv_if_eq (tgt := 17) hx hb d_Fit_greatestOrder_12 (by decide) (fun c_2 => ?_) (fun c_2 => ?_)
  · skip
    refine lv_iinc (v := 2) (lv' := [(2, .int 2), (0, .ref h0), (1, .int b)]) hx hb d_Fit_greatestOrder_17 hl (k := 0) rfl (by decide) (by decide) rfl (fun ls hl => ?_)
    refine lv_goto (tgt := 2) hx hb d_Fit_greatestOrder_20 (by decide) ?_
    refine lv_iload_n hx hb d_Fit_greatestOrder_2 rfl (lv_at hl 0 rfl) ?_
    refine lv_if_lt (tgt := 23) hx hb d_Fit_greatestOrder_3 (by decide) (fun c_3 => ?_) (fun c_3 => ?_)
    · exact absurd c_3 (by decide)
    refine lv_aload_n hx hb d_Fit_greatestOrder_6 rfl (lv_at hl 1 rfl) ?_
    refine lv_iload_n hx hb d_Fit_greatestOrder_7 rfl (lv_at hl 2 rfl) ?_
    refine lv_iload_n hx hb d_Fit_greatestOrder_8 rfl (lv_at hl 0 rfl) ?_
    refine k_pure (r := .int (l_giv its b 2 n)) (W.runS (As := [.ref h0, .int b, .int 2]) (rest := []) ⟨hx, hb, hml, hown, hts⟩ (c_Fit_sumOf l g s.heap I h0 n el its o hi b 2) (va_cwS 3 hts (kS_good kw_399 kw_397 kw_398 kw_7) rfl rfl rfl (by decide +kernel) ⟨Nat.le_of_ble_eq_true rfl, Nat.le_of_ble_eq_true rfl⟩) (k_pre (KK_st g) hKK) rfl rfl hl.1 rfl (lv_room (Nat.le_of_ble_eq_true rfl)) d_Fit_greatestOrder_9 ⟨Nat.zero_le _, Nat.zero_le _⟩) ?_
    refine lv_if_eq (tgt := 17) hx hb d_Fit_greatestOrder_12 (by decide) (fun c_4 => ?_) (fun c_4 => ?_)
    · skip
      refine lv_iinc (v := 1) (lv' := [(2, .int 1), (0, .ref h0), (1, .int b)]) hx hb d_Fit_greatestOrder_17 hl (k := 0) rfl (by decide) (by decide) rfl (fun ls hl => ?_)
      refine lv_goto (tgt := 2) hx hb d_Fit_greatestOrder_20 (by decide) ?_
      refine lv_iload_n hx hb d_Fit_greatestOrder_2 rfl (lv_at hl 0 rfl) ?_
      refine lv_if_lt (tgt := 23) hx hb d_Fit_greatestOrder_3 (by decide) (fun c_5 => ?_) (fun c_5 => ?_)
      · exact absurd c_5 (by decide)
      refine lv_aload_n hx hb d_Fit_greatestOrder_6 rfl (lv_at hl 1 rfl) ?_
      refine lv_iload_n hx hb d_Fit_greatestOrder_7 rfl (lv_at hl 2 rfl) ?_
      refine lv_iload_n hx hb d_Fit_greatestOrder_8 rfl (lv_at hl 0 rfl) ?_
      refine k_pure (r := .int (l_giv its b 1 n)) (W.runS (As := [.ref h0, .int b, .int 1]) (rest := []) ⟨hx, hb, hml, hown, hts⟩ (c_Fit_sumOf l g s.heap I h0 n el its o hi b 1) (va_cwS 3 hts (kS_good kw_399 kw_397 kw_398 kw_7) rfl rfl rfl (by decide +kernel) ⟨Nat.le_of_ble_eq_true rfl, Nat.le_of_ble_eq_true rfl⟩) (k_pre (KK_st g) hKK) rfl rfl hl.1 rfl (lv_room (Nat.le_of_ble_eq_true rfl)) d_Fit_greatestOrder_9 ⟨Nat.zero_le _, Nat.zero_le _⟩) ?_
      refine lv_if_eq (tgt := 17) hx hb d_Fit_greatestOrder_12 (by decide) (fun c_6 => ?_) (fun c_6 => ?_)
      · skip
        refine lv_iinc (v := 0) (lv' := [(2, .int 0), (0, .ref h0), (1, .int b)]) hx hb d_Fit_greatestOrder_17 hl (k := 0) rfl (by decide) (by decide) rfl (fun ls hl => ?_)
        refine lv_goto (tgt := 2) hx hb d_Fit_greatestOrder_20 (by decide) ?_
        refine lv_iload_n hx hb d_Fit_greatestOrder_2 rfl (lv_at hl 0 rfl) ?_
        refine lv_if_lt (tgt := 23) hx hb d_Fit_greatestOrder_3 (by decide) (fun c_7 => ?_) (fun c_7 => ?_)
        · exact absurd c_7 (by decide)
        refine lv_aload_n hx hb d_Fit_greatestOrder_6 rfl (lv_at hl 1 rfl) ?_
        refine lv_iload_n hx hb d_Fit_greatestOrder_7 rfl (lv_at hl 2 rfl) ?_
        refine lv_iload_n hx hb d_Fit_greatestOrder_8 rfl (lv_at hl 0 rfl) ?_
        refine k_pure (r := .int (l_giv its b 0 n)) (W.runS (As := [.ref h0, .int b, .int 0]) (rest := []) ⟨hx, hb, hml, hown, hts⟩ (c_Fit_sumOf l g s.heap I h0 n el its o hi b 0) (va_cwS 3 hts (kS_good kw_399 kw_397 kw_398 kw_7) rfl rfl rfl (by decide +kernel) ⟨Nat.le_of_ble_eq_true rfl, Nat.le_of_ble_eq_true rfl⟩) (k_pre (KK_st g) hKK) rfl rfl hl.1 rfl (lv_room (Nat.le_of_ble_eq_true rfl)) d_Fit_greatestOrder_9 ⟨Nat.zero_le _, Nat.zero_le _⟩) ?_
        refine lv_if_eq (tgt := 17) hx hb d_Fit_greatestOrder_12 (by decide) (fun c_8 => ?_) (fun c_8 => ?_)
        · skip
          refine lv_iinc (v := (-1)) (lv' := [(2, .int (-1)), (0, .ref h0), (1, .int b)]) hx hb d_Fit_greatestOrder_17 hl (k := 0) rfl (by decide) (by decide) rfl (fun ls hl => ?_)
          refine lv_goto (tgt := 2) hx hb d_Fit_greatestOrder_20 (by decide) ?_
          refine lv_iload_n hx hb d_Fit_greatestOrder_2 rfl (lv_at hl 0 rfl) ?_
          refine lv_if_lt (tgt := 23) hx hb d_Fit_greatestOrder_3 (by decide) (fun c_9 => ?_) (fun c_9 => ?_)
          rotate_left
          · exact absurd c_9 (fun q => q (by decide))
          refine lv_iconst (v := (-1)) hx hb d_Fit_greatestOrder_23 (by decide) ?_
          exact W.iret (v := (-1)) hx hb hr (fun t ht hW => ⟨_, rfl, (by unfold l_go; rw [if_pos c_2, if_pos c_4, if_pos c_6, if_pos c_8]), ht⟩) (fun _ h => by cases h) d_Fit_greatestOrder_24
        · skip
          refine lv_iload_n hx hb d_Fit_greatestOrder_15 rfl (lv_at hl 0 rfl) ?_
          exact W.iret (v := 0) hx hb hr (fun t ht hW => ⟨_, rfl, (by unfold l_go; rw [if_pos c_2, if_pos c_4, if_pos c_6, if_neg c_8]), ht⟩) (fun _ h => by cases h) d_Fit_greatestOrder_16
      · skip
        refine lv_iload_n hx hb d_Fit_greatestOrder_15 rfl (lv_at hl 0 rfl) ?_
        exact W.iret (v := 1) hx hb hr (fun t ht hW => ⟨_, rfl, (by unfold l_go; rw [if_pos c_2, if_pos c_4, if_neg c_6]), ht⟩) (fun _ h => by cases h) d_Fit_greatestOrder_16
    · skip
      refine lv_iload_n hx hb d_Fit_greatestOrder_15 rfl (lv_at hl 0 rfl) ?_
      exact W.iret (v := 2) hx hb hr (fun t ht hW => ⟨_, rfl, (by unfold l_go; rw [if_pos c_2, if_neg c_4]), ht⟩) (fun _ h => by cases h) d_Fit_greatestOrder_16
  · skip
    refine lv_iload_n hx hb d_Fit_greatestOrder_15 rfl (lv_at hl 0 rfl) ?_
    exact W.iret (v := 3) hx hb hr (fun t ht hW => ⟨_, rfl, (by unfold l_go; rw [if_neg c_2]), ht⟩) (fun _ h => by cases h) d_Fit_greatestOrder_16
def t_giv (it : Nat → Int32) (ord mis : Int32) : Int32 := if mis ≤ 0 then i_giving it 0 ord else i_giving it 1 ord
set_option maxHeartbeats 4000000 in
set_option maxRecDepth 100000 in
theorem c_Fit_givingOf (l : Launch) (g : KGt) (H0 : Heap) (I : Nat → Prop) (h0 a : Nat) (it : Nat → Int32) (f0 f1 f2 f3 : Int32) (o0 : va_at g.1 kcl (h0, .inr (3, [.int f0, .int f1, .int f2, .int f3])) H0) (hit : kItem g I a it H0) : Met l y_Fit_givingOf (kW y_Fit_givingOf b_Fit_givingOf 2 (.some .int)) ({ frames := 1, cells := 0, slots := 0, locals := 22 }) (kPc [.ref h0, .ref a] (KK g) H0) (kQc (kPure (.int (t_giv it f1 f2)) H0)) 0 0 (fun _ => False) := by
  refine Met.ofW (cc := b_Fit_givingOf) (maxL := 2) (ret := (.some .int)) (by decide) rfl ?_
  intro p e s m args below meth c s₁ B hml hv
  obtain ⟨rfl, hH, hKK⟩ := hv
  have hx := B.exec
  have hb := B.bytes
  have hr := B.returns
  have hts := kW_ts (atoms_spec (ws := kW y_Fit_givingOf b_Fit_givingOf 2 (.some .int)) B.pre)
  have hown : s.vm.findClass "BoxGlue$Fit" = some m.cls := findClass_of_methodNamed B.named
  have hlocks := B.notSynchronized
  have hK := hKK.1
  subst hH
  have hl := lv_entry ([.ref h0, .ref a]) (n := 2) (Nat.le_of_ble_eq_true rfl)
  rw [lg_entry_eq]
  generalize (lg_sl ([.ref h0, .ref a]) ++ List.replicate (2 - (lg_sl ([.ref h0, .ref a])).length) Slot.unset).toArray = ls at hl ⊢
  have hl : lv_has ls 2 [(0, .ref h0), (1, .ref a)] := hl
  refine lv_aload_n hx hb d_Fit_givingOf_0 rfl (lv_at hl 1 rfl) ?_
  refine lv_aload_n hx hb d_Fit_givingOf_1 rfl (lv_at hl 0 rfl) ?_
  refine va_get (D := g.1) (ci := 3) (v := .int f2) (C := "BoxGlue$Fit") (T := kT_Fit) (N := 4) hx hb hts ki_Fit hown hK (k_one o0) 0 rfl rfl 2 (by decide) (hts _ kw_92) (fun _ h9 => h9) rfl d_Fit_givingOf_2 ?_
  refine lv_if_le (tgt := 12) hx hb d_Fit_givingOf_5 (by decide) (fun c_1 => ?_) (fun c_1 => ?_)
  · skip
    refine lv_iconst (v := 0) hx hb d_Fit_givingOf_12 (by decide) ?_
    refine lv_aload_n hx hb d_Fit_givingOf_13 rfl (lv_at hl 0 rfl) ?_
    refine va_get (D := g.1) (ci := 3) (v := .int f1) (C := "BoxGlue$Fit") (T := kT_Fit) (N := 4) hx hb hts ki_Fit hown hK (k_one o0) 0 rfl rfl 1 (by decide) (hts _ kw_90) (fun _ h9 => h9) rfl d_Fit_givingOf_14 ?_
    refine v_giving hx hb hml hown hts hKK kw_400 hit hl.1 (Nat.le_of_ble_eq_true rfl) (Nat.le_of_ble_eq_true rfl) (Nat.le_of_ble_eq_true rfl) (Nat.zero_le _) (Nat.zero_le _) d_Fit_givingOf_17 ?_
    exact W.iret (v := (i_giving it 0 f1)) hx hb hr (fun t ht hW => ⟨_, rfl, (by unfold t_giv; rw [if_pos c_1]), ht⟩) (fun _ h => by cases h) d_Fit_givingOf_20
  · skip
    refine lv_iconst (v := 1) hx hb d_Fit_givingOf_8 (by decide) ?_
    refine lv_goto (tgt := 13) hx hb d_Fit_givingOf_9 (by decide) ?_
    refine lv_aload_n hx hb d_Fit_givingOf_13 rfl (lv_at hl 0 rfl) ?_
    refine va_get (D := g.1) (ci := 3) (v := .int f1) (C := "BoxGlue$Fit") (T := kT_Fit) (N := 4) hx hb hts ki_Fit hown hK (k_one o0) 0 rfl rfl 1 (by decide) (hts _ kw_90) (fun _ h9 => h9) rfl d_Fit_givingOf_14 ?_
    refine v_giving hx hb hml hown hts hKK kw_400 hit hl.1 (Nat.le_of_ble_eq_true rfl) (Nat.le_of_ble_eq_true rfl) (Nat.le_of_ble_eq_true rfl) (Nat.zero_le _) (Nat.zero_le _) d_Fit_givingOf_17 ?_
    exact W.iret (v := (i_giving it 1 f1)) hx hb hr (fun t ht hW => ⟨_, rfl, (by unfold t_giv; rw [if_neg c_1]), ht⟩) (fun _ h => by cases h) d_Fit_givingOf_20
def t_ord (its : Nat → Nat → Int32) (n : Nat) (x : Int32) : Int32 := if x = 0 then (-1) else (if x ≤ 0 then l_go its 0 n else l_go its 1 n)
def t_sum (its : Nat → Nat → Int32) (n : Nat) (x : Int32) : Int32 := if x ≤ 0 then l_giv its 0 (t_ord its n x) n else l_giv its 1 (t_ord its n x) n
set_option maxHeartbeats 4000000 in
set_option maxRecDepth 100000 in
theorem c_Fit_of (l : Launch) (g : KGt) (H0 : Heap) (I : Nat → Prop) (h0 n : Nat) (el : Nat → Nat) (its : Nat → Nat → Int32) (o : kAL g h0 n el H0) (hi : ∀ i, i < n → kItem g I (el i) (its i) H0) (len : Int32) : Met l y_Fit_of (kW y_Fit_of b_Fit_of 5 (.some (.object "BoxGlue$Fit"))) ({ frames := 5, cells := 1, slots := 4, locals := 110 }) (kPc [.ref h0, .int len] (KK g) H0) (kQc (fun v H1 => ∃ q : Nat, v = some (.ref q) ∧ H0.size ≤ q ∧ kE (fun _ => False) H0 H1 ∧ va_at g.1 kcl (q, .inr (3, [.int (l_len its n), .int (t_ord its n (len - (l_len its n))), .int (len - (l_len its n)), .int (t_sum its n (len - (l_len its n)))])) H1)) 1 4 (fun q : Nat => H0.size ≤ q) := by
  refine Met.ofW (cc := b_Fit_of) (maxL := 5) (ret := (.some (.object "BoxGlue$Fit"))) (by decide) rfl ?_
  intro p e s m args below meth c s₁ B hml hv
  obtain ⟨rfl, hH, hKK⟩ := hv
  have hx := B.exec
  have hb := B.bytes
  have hr := B.returns
  have hts := kW_ts (atoms_spec (ws := kW y_Fit_of b_Fit_of 5 (.some (.object "BoxGlue$Fit"))) B.pre)
  have hown : s.vm.findClass "BoxGlue$Fit" = some m.cls := findClass_of_methodNamed B.named
  have hlocks := B.notSynchronized
  have hK := hKK.1
  subst hH
  have hl := lv_entry ([.ref h0, .int len]) (n := 5) (Nat.le_of_ble_eq_true rfl)
  rw [lg_entry_eq]
  generalize (lg_sl ([.ref h0, .int len]) ++ List.replicate (5 - (lg_sl ([.ref h0, .int len])).length) Slot.unset).toArray = ls at hl ⊢
  have hl : lv_has ls 5 [(0, .ref h0), (1, .int len)] := hl
  generalize hAe : (fun q : Nat => s.heap.size ≤ q) = A
  have hA : ∀ q : Nat, s.heap.size ≤ q → A q := fun q h => by rw [← hAe]; exact h
  have hS : va_S A s.heap s.heap [] := va_S.rf
  have hP : va_P g.1 kcl [] s.heap := kP0
  have hD : va_D A [] := kD0
  refine lv_aload_n hx hb d_Fit_of_0 rfl (lv_at hl 0 rfl) ?_
  refine k_pure (r := .int (l_len its n)) (W.runS (As := [.ref h0]) (rest := []) ⟨hx, hb, hml, hown, hts⟩ (c_Fit_lengthOf l g s.heap I h0 n el its o hi) (va_cwS 1 hts (kS_good kw_353 kw_393 kw_352 kw_7) rfl rfl rfl (by decide +kernel) ⟨Nat.le_of_ble_eq_true rfl, Nat.le_of_ble_eq_true rfl⟩) (k_pre (KK_st g) hKK) rfl rfl hl.1 rfl (lv_room (Nat.le_of_ble_eq_true rfl)) d_Fit_of_1 ⟨Nat.le_of_ble_eq_true rfl, Nat.le_of_ble_eq_true rfl⟩) ?_
  refine lv_istore_n (lv' := [(2, .int (l_len its n)), (0, .ref h0), (1, .int len)]) hx hb d_Fit_of_4 rfl hl (by decide) rfl (fun ls hl => ?_)
  refine lv_iload_n hx hb d_Fit_of_5 rfl (lv_at hl 2 rfl) ?_
  refine lv_iload_n hx hb d_Fit_of_6 rfl (lv_at hl 0 rfl) ?_
  refine lv_isub hx hb d_Fit_of_7 ?_
  refine lv_istore_n (lv' := [(3, .int (len - (l_len its n))), (2, .int (l_len its n)), (0, .ref h0), (1, .int len)]) hx hb d_Fit_of_8 rfl hl (by decide) rfl (fun ls hl => ?_)
  refine lv_iload_n hx hb d_Fit_of_9 rfl (lv_at hl 0 rfl) ?_
  refine lv_if_ne (tgt := 17) hx hb d_Fit_of_10 (by decide) (fun c_1 => ?_) (fun c_1 => ?_)
  · skip
    refine lv_aload_n hx hb d_Fit_of_17 rfl (lv_at hl 2 rfl) ?_
    refine lv_iload_n hx hb d_Fit_of_18 rfl (lv_at hl 0 rfl) ?_
    refine lv_if_le (tgt := 26) hx hb d_Fit_of_19 (by decide) (fun c_2 => ?_) (fun c_2 => ?_)
    · skip
      refine lv_iconst (v := 0) hx hb d_Fit_of_26 (by decide) ?_
      refine k_pure (r := .int (l_go its 0 n)) (W.runS (As := [.ref h0, .int 0]) (rest := []) ⟨hx, hb, hml, hown, hts⟩ (c_Fit_greatestOrder l g s.heap I h0 n el its o hi 0) (va_cwS 2 hts (kS_good kw_396 kw_394 kw_395 kw_7) rfl rfl rfl (by decide +kernel) ⟨Nat.le_of_ble_eq_true rfl, Nat.le_of_ble_eq_true rfl⟩) (k_pre (KK_st g) hKK) rfl rfl hl.1 rfl (lv_room (Nat.le_of_ble_eq_true rfl)) d_Fit_of_27 ⟨Nat.le_of_ble_eq_true rfl, Nat.le_of_ble_eq_true rfl⟩) ?_
      refine lv_istore (lv' := [(4, .int (l_go its 0 n)), (3, .int (len - (l_len its n))), (2, .int (l_len its n)), (0, .ref h0), (1, .int len)]) hx hb d_Fit_of_30 hl (by decide) rfl (fun ls hl => ?_)
      refine va_new (D := g.1) (ci := 3) (fs := [.int 0, .int 0, .int 0, .int 0]) (C := "BoxGlue$Fit") (T := kT_Fit) (N := 4) hx hb hts ki_Fit kt_Fit ko_Fit hown (hts _ kw_410) (hts _ kw_83) (hts _ kw_7) hK hP hD hS hA rfl (fun j hj => by rcases (show j = 0 ∨ j = 1 ∨ j = 2 ∨ j = 3 by omega) with rfl | rfl | rfl | rfl <;> rfl) (Nat.le_of_ble_eq_true rfl) (Nat.le_of_ble_eq_true rfl) d_Fit_of_32 (fun q H hP hD hS => ?_)
      have hP : va_P g.1 kcl [(q, .inr (3, [.int 0, .int 0, .int 0, .int 0]))] H := hP
      have hD : va_D A [(q, .inr (3, [.int 0, .int 0, .int 0, .int 0]))] := hD
      have hE : kE (fun _ => False) s.heap H := (kE.ofS hS).wk (fun z hz h => by rw [← hAe] at h; omega)
      have hq : s.heap.size ≤ q := by have h9 := hD.2 0 _ rfl; rw [← hAe] at h9; exact h9
      have o := o.ext hE
      have hi := fun i hn => (hi i hn).ext hE
      refine lv_dup hx hb d_Fit_of_35 rfl ?_
      refine lv_iload_n hx hb d_Fit_of_36 rfl (lv_at hl 2 rfl) ?_
      refine lv_iload_n hx hb d_Fit_of_37 rfl (lv_at hl 1 rfl) ?_
      refine lv_iload hx hb d_Fit_of_38 (lv_at hl 0 rfl) ?_
      refine lv_aload_n hx hb d_Fit_of_40 rfl (lv_at hl 3 rfl) ?_
      refine lv_iload_n hx hb d_Fit_of_41 rfl (lv_at hl 1 rfl) ?_
      refine lv_if_le (tgt := 49) hx hb d_Fit_of_42 (by decide) (fun c_3 => ?_) (fun c_3 => ?_)
      rotate_left
      · exact absurd c_3 (fun q => q c_2)
      refine lv_iconst (v := 0) hx hb d_Fit_of_49 (by decide) ?_
      refine lv_iload hx hb d_Fit_of_50 (lv_at hl 0 rfl) ?_
      refine k_pure (r := .int (l_giv its 0 (l_go its 0 n) n)) (W.runS (As := [.ref h0, .int 0, .int (l_go its 0 n)]) (rest := [.int (l_go its 0 n), .int (len - (l_len its n)), .int (l_len its n), .ref q, .ref q]) ⟨hx, hb, hml, hown, hts⟩ (c_Fit_sumOf l g H I h0 n el its o hi 0 (l_go its 0 n)) (va_cwS 3 hts (kS_good kw_399 kw_397 kw_398 kw_7) rfl rfl rfl (by decide +kernel) ⟨Nat.le_of_ble_eq_true rfl, Nat.le_of_ble_eq_true rfl⟩) (k_pre (KK_st g) hKK) rfl rfl hl.1 rfl (lv_room (Nat.le_of_ble_eq_true rfl)) d_Fit_of_52 ⟨Nat.le_of_ble_eq_true rfl, Nat.le_of_ble_eq_true rfl⟩) ?_
      refine k_call (A := A) (W.runI (As := [.int (l_len its n), .int (len - (l_len its n)), .int (l_go its 0 n), .int (l_giv its 0 (l_go its 0 n) n)]) (rest := [.ref q]) ⟨hx, hb, hml, hown, hts⟩ (c_Fit_init l g H q (l_len its n) (len - (l_len its n)) (l_go its 0 n) (l_giv its 0 (l_go its 0 n) n) (k_at0 hP 0 rfl)) (cwI 4 hts (kW_good kw_86) rfl rfl rfl (hts _ kw_7) (hts _ kw_411) (hts _ kw_85) rfl (by decide +kernel) ⟨Nat.le_of_ble_eq_true rfl, Nat.le_of_ble_eq_true rfl⟩) (k_pre (KK_st g) hKK) rfl rfl hl.1 rfl (lv_room (Nat.le_of_ble_eq_true rfl)) d_Fit_of_55 ⟨Nat.le_of_ble_eq_true rfl, Nat.le_of_ble_eq_true rfl⟩) hS.2.2 (fun z h => by rw [← hAe]; rcases h with h | h; rw [h]; exact hq; exact Nat.le_trans hS.1 h) (fun v H2 locs hv hL => ?_)
      obtain ⟨rfl, hE2, o2⟩ := hv
      have hE3 : kE (fun _ => False) s.heap H2 := hE.tr hE2 (fun z hz h => by omega)
      have e1 : t_ord its n (len - (l_len its n)) = (l_go its 0 n) := by unfold t_ord; rw [if_neg c_1, if_pos c_2]
      have e2 : t_sum its n (len - (l_len its n)) = (l_giv its 0 (l_go its 0 n) n) := by unfold t_sum; rw [if_pos c_2, e1]
      exact W.aret (v := .ref q) hx hb hr (Or.inl ⟨_, rfl⟩) (Or.inr ⟨_, rfl⟩) (fun t ht hW => ⟨_, rfl, q, rfl, hq, by rw [ht]; exact hE3, by rw [ht, e1, e2]; exact o2⟩) hL d_Fit_of_58
    · skip
      refine lv_iconst (v := 1) hx hb d_Fit_of_22 (by decide) ?_
      refine lv_goto (tgt := 27) hx hb d_Fit_of_23 (by decide) ?_
      refine k_pure (r := .int (l_go its 1 n)) (W.runS (As := [.ref h0, .int 1]) (rest := []) ⟨hx, hb, hml, hown, hts⟩ (c_Fit_greatestOrder l g s.heap I h0 n el its o hi 1) (va_cwS 2 hts (kS_good kw_396 kw_394 kw_395 kw_7) rfl rfl rfl (by decide +kernel) ⟨Nat.le_of_ble_eq_true rfl, Nat.le_of_ble_eq_true rfl⟩) (k_pre (KK_st g) hKK) rfl rfl hl.1 rfl (lv_room (Nat.le_of_ble_eq_true rfl)) d_Fit_of_27 ⟨Nat.le_of_ble_eq_true rfl, Nat.le_of_ble_eq_true rfl⟩) ?_
      refine lv_istore (lv' := [(4, .int (l_go its 1 n)), (3, .int (len - (l_len its n))), (2, .int (l_len its n)), (0, .ref h0), (1, .int len)]) hx hb d_Fit_of_30 hl (by decide) rfl (fun ls hl => ?_)
      refine va_new (D := g.1) (ci := 3) (fs := [.int 0, .int 0, .int 0, .int 0]) (C := "BoxGlue$Fit") (T := kT_Fit) (N := 4) hx hb hts ki_Fit kt_Fit ko_Fit hown (hts _ kw_410) (hts _ kw_83) (hts _ kw_7) hK hP hD hS hA rfl (fun j hj => by rcases (show j = 0 ∨ j = 1 ∨ j = 2 ∨ j = 3 by omega) with rfl | rfl | rfl | rfl <;> rfl) (Nat.le_of_ble_eq_true rfl) (Nat.le_of_ble_eq_true rfl) d_Fit_of_32 (fun q H hP hD hS => ?_)
      have hP : va_P g.1 kcl [(q, .inr (3, [.int 0, .int 0, .int 0, .int 0]))] H := hP
      have hD : va_D A [(q, .inr (3, [.int 0, .int 0, .int 0, .int 0]))] := hD
      have hE : kE (fun _ => False) s.heap H := (kE.ofS hS).wk (fun z hz h => by rw [← hAe] at h; omega)
      have hq : s.heap.size ≤ q := by have h9 := hD.2 0 _ rfl; rw [← hAe] at h9; exact h9
      have o := o.ext hE
      have hi := fun i hn => (hi i hn).ext hE
      refine lv_dup hx hb d_Fit_of_35 rfl ?_
      refine lv_iload_n hx hb d_Fit_of_36 rfl (lv_at hl 2 rfl) ?_
      refine lv_iload_n hx hb d_Fit_of_37 rfl (lv_at hl 1 rfl) ?_
      refine lv_iload hx hb d_Fit_of_38 (lv_at hl 0 rfl) ?_
      refine lv_aload_n hx hb d_Fit_of_40 rfl (lv_at hl 3 rfl) ?_
      refine lv_iload_n hx hb d_Fit_of_41 rfl (lv_at hl 1 rfl) ?_
      refine lv_if_le (tgt := 49) hx hb d_Fit_of_42 (by decide) (fun c_4 => ?_) (fun c_4 => ?_)
      · exact absurd c_4 c_2
      refine lv_iconst (v := 1) hx hb d_Fit_of_45 (by decide) ?_
      refine lv_goto (tgt := 50) hx hb d_Fit_of_46 (by decide) ?_
      refine lv_iload hx hb d_Fit_of_50 (lv_at hl 0 rfl) ?_
      refine k_pure (r := .int (l_giv its 1 (l_go its 1 n) n)) (W.runS (As := [.ref h0, .int 1, .int (l_go its 1 n)]) (rest := [.int (l_go its 1 n), .int (len - (l_len its n)), .int (l_len its n), .ref q, .ref q]) ⟨hx, hb, hml, hown, hts⟩ (c_Fit_sumOf l g H I h0 n el its o hi 1 (l_go its 1 n)) (va_cwS 3 hts (kS_good kw_399 kw_397 kw_398 kw_7) rfl rfl rfl (by decide +kernel) ⟨Nat.le_of_ble_eq_true rfl, Nat.le_of_ble_eq_true rfl⟩) (k_pre (KK_st g) hKK) rfl rfl hl.1 rfl (lv_room (Nat.le_of_ble_eq_true rfl)) d_Fit_of_52 ⟨Nat.le_of_ble_eq_true rfl, Nat.le_of_ble_eq_true rfl⟩) ?_
      refine k_call (A := A) (W.runI (As := [.int (l_len its n), .int (len - (l_len its n)), .int (l_go its 1 n), .int (l_giv its 1 (l_go its 1 n) n)]) (rest := [.ref q]) ⟨hx, hb, hml, hown, hts⟩ (c_Fit_init l g H q (l_len its n) (len - (l_len its n)) (l_go its 1 n) (l_giv its 1 (l_go its 1 n) n) (k_at0 hP 0 rfl)) (cwI 4 hts (kW_good kw_86) rfl rfl rfl (hts _ kw_7) (hts _ kw_411) (hts _ kw_85) rfl (by decide +kernel) ⟨Nat.le_of_ble_eq_true rfl, Nat.le_of_ble_eq_true rfl⟩) (k_pre (KK_st g) hKK) rfl rfl hl.1 rfl (lv_room (Nat.le_of_ble_eq_true rfl)) d_Fit_of_55 ⟨Nat.le_of_ble_eq_true rfl, Nat.le_of_ble_eq_true rfl⟩) hS.2.2 (fun z h => by rw [← hAe]; rcases h with h | h; rw [h]; exact hq; exact Nat.le_trans hS.1 h) (fun v H2 locs hv hL => ?_)
      obtain ⟨rfl, hE2, o2⟩ := hv
      have hE3 : kE (fun _ => False) s.heap H2 := hE.tr hE2 (fun z hz h => by omega)
      have e1 : t_ord its n (len - (l_len its n)) = (l_go its 1 n) := by unfold t_ord; rw [if_neg c_1, if_neg c_2]
      have e2 : t_sum its n (len - (l_len its n)) = (l_giv its 1 (l_go its 1 n) n) := by unfold t_sum; rw [if_neg c_2, e1]
      exact W.aret (v := .ref q) hx hb hr (Or.inl ⟨_, rfl⟩) (Or.inr ⟨_, rfl⟩) (fun t ht hW => ⟨_, rfl, q, rfl, hq, by rw [ht]; exact hE3, by rw [ht, e1, e2]; exact o2⟩) hL d_Fit_of_58
  · skip
    refine lv_iconst (v := (-1)) hx hb d_Fit_of_13 (by decide) ?_
    refine lv_goto (tgt := 30) hx hb d_Fit_of_14 (by decide) ?_
    refine lv_istore (lv' := [(4, .int (-1)), (3, .int (len - (l_len its n))), (2, .int (l_len its n)), (0, .ref h0), (1, .int len)]) hx hb d_Fit_of_30 hl (by decide) rfl (fun ls hl => ?_)
    refine va_new (D := g.1) (ci := 3) (fs := [.int 0, .int 0, .int 0, .int 0]) (C := "BoxGlue$Fit") (T := kT_Fit) (N := 4) hx hb hts ki_Fit kt_Fit ko_Fit hown (hts _ kw_410) (hts _ kw_83) (hts _ kw_7) hK hP hD hS hA rfl (fun j hj => by rcases (show j = 0 ∨ j = 1 ∨ j = 2 ∨ j = 3 by omega) with rfl | rfl | rfl | rfl <;> rfl) (Nat.le_of_ble_eq_true rfl) (Nat.le_of_ble_eq_true rfl) d_Fit_of_32 (fun q H hP hD hS => ?_)
    have hP : va_P g.1 kcl [(q, .inr (3, [.int 0, .int 0, .int 0, .int 0]))] H := hP
    have hD : va_D A [(q, .inr (3, [.int 0, .int 0, .int 0, .int 0]))] := hD
    have hE : kE (fun _ => False) s.heap H := (kE.ofS hS).wk (fun z hz h => by rw [← hAe] at h; omega)
    have hq : s.heap.size ≤ q := by have h9 := hD.2 0 _ rfl; rw [← hAe] at h9; exact h9
    have o := o.ext hE
    have hi := fun i hn => (hi i hn).ext hE
    refine lv_dup hx hb d_Fit_of_35 rfl ?_
    refine lv_iload_n hx hb d_Fit_of_36 rfl (lv_at hl 2 rfl) ?_
    refine lv_iload_n hx hb d_Fit_of_37 rfl (lv_at hl 1 rfl) ?_
    refine lv_iload hx hb d_Fit_of_38 (lv_at hl 0 rfl) ?_
    refine lv_aload_n hx hb d_Fit_of_40 rfl (lv_at hl 3 rfl) ?_
    refine lv_iload_n hx hb d_Fit_of_41 rfl (lv_at hl 1 rfl) ?_
    refine lv_if_le (tgt := 49) hx hb d_Fit_of_42 (by decide) (fun c_5 => ?_) (fun c_5 => ?_)
    rotate_left
    · exact absurd c_5 (fun q => q (by rw [c_1]; exact Int32.le_refl _))
    refine lv_iconst (v := 0) hx hb d_Fit_of_49 (by decide) ?_
    refine lv_iload hx hb d_Fit_of_50 (lv_at hl 0 rfl) ?_
    refine k_pure (r := .int (l_giv its 0 (-1) n)) (W.runS (As := [.ref h0, .int 0, .int (-1)]) (rest := [.int (-1), .int (len - (l_len its n)), .int (l_len its n), .ref q, .ref q]) ⟨hx, hb, hml, hown, hts⟩ (c_Fit_sumOf l g H I h0 n el its o hi 0 (-1)) (va_cwS 3 hts (kS_good kw_399 kw_397 kw_398 kw_7) rfl rfl rfl (by decide +kernel) ⟨Nat.le_of_ble_eq_true rfl, Nat.le_of_ble_eq_true rfl⟩) (k_pre (KK_st g) hKK) rfl rfl hl.1 rfl (lv_room (Nat.le_of_ble_eq_true rfl)) d_Fit_of_52 ⟨Nat.le_of_ble_eq_true rfl, Nat.le_of_ble_eq_true rfl⟩) ?_
    refine k_call (A := A) (W.runI (As := [.int (l_len its n), .int (len - (l_len its n)), .int (-1), .int (l_giv its 0 (-1) n)]) (rest := [.ref q]) ⟨hx, hb, hml, hown, hts⟩ (c_Fit_init l g H q (l_len its n) (len - (l_len its n)) (-1) (l_giv its 0 (-1) n) (k_at0 hP 0 rfl)) (cwI 4 hts (kW_good kw_86) rfl rfl rfl (hts _ kw_7) (hts _ kw_411) (hts _ kw_85) rfl (by decide +kernel) ⟨Nat.le_of_ble_eq_true rfl, Nat.le_of_ble_eq_true rfl⟩) (k_pre (KK_st g) hKK) rfl rfl hl.1 rfl (lv_room (Nat.le_of_ble_eq_true rfl)) d_Fit_of_55 ⟨Nat.le_of_ble_eq_true rfl, Nat.le_of_ble_eq_true rfl⟩) hS.2.2 (fun z h => by rw [← hAe]; rcases h with h | h; rw [h]; exact hq; exact Nat.le_trans hS.1 h) (fun v H2 locs hv hL => ?_)
    obtain ⟨rfl, hE2, o2⟩ := hv
    have hE3 : kE (fun _ => False) s.heap H2 := hE.tr hE2 (fun z hz h => by omega)
    have hle : (len - (l_len its n)) ≤ 0 := by rw [c_1]; exact Int32.le_refl _
    have e1 : t_ord its n (len - (l_len its n)) = (-1) := by unfold t_ord; rw [if_pos c_1]
    have e2 : t_sum its n (len - (l_len its n)) = (l_giv its 0 (-1) n) := by unfold t_sum; rw [if_pos hle, e1]
    exact W.aret (v := .ref q) hx hb hr (Or.inl ⟨_, rfl⟩) (Or.inr ⟨_, rfl⟩) (fun t ht hW => ⟨_, rfl, q, rfl, hq, by rw [ht]; exact hE3, by rw [ht, e1, e2]; exact o2⟩) hL d_Fit_of_58
end
section
/-! answers of placed items and boxes; small makers -/
def p_ans (it : Nat → Int32) (pl ln bh bd what : Int32) : Int32 := if what = 0 then it 0 else if what = 1 then ln else if what = 2 then pl else if what = 3 then i_drawn it pl ln else if what = 4 then i_first it pl ln else if what = 5 then i_step it pl ln else if what = 6 then i_height it bh else if what = 7 then i_depth it bd else (-1)
set_option maxHeartbeats 4000000 in
set_option maxRecDepth 100000 in
theorem c_Placed_answer (l : Launch) (g : KGt) (H0 : Heap) (I : Nat → Prop) (h0 bx ia bc bf : Nat) (it : Nat → Int32) (pl ln bl bh bd what : Int32) (o0 : va_at g.1 kcl (h0, .inr (9, [.ref ia, .int pl, .int ln])) H0) (hit : kItem g I ia it H0) (b0 : va_at g.1 kcl (bx, .inr (2, [.int bl, .int bh, .int bd, .ref bc, .ref bf])) H0) : Met l y_Placed_answer (kW y_Placed_answer b_Placed_answer 3 (.some .int)) ({ frames := 5, cells := 0, slots := 0, locals := 109 }) (kPc [.ref h0, .int what, .ref bx] (KK g) H0) (kQc (kPure (.int (p_ans it pl ln bh bd what)) H0)) 0 0 (fun _ => False) := by
  refine Met.ofW (cc := b_Placed_answer) (maxL := 3) (ret := (.some .int)) (by decide) rfl ?_
  intro p e s m args below meth c s₁ B hml hv
  obtain ⟨rfl, hH, hKK⟩ := hv
  have hx := B.exec
  have hb := B.bytes
  have hr := B.returns
  have hts := kW_ts (atoms_spec (ws := kW y_Placed_answer b_Placed_answer 3 (.some .int)) B.pre)
  have hown : s.vm.findClass "BoxGlue$Placed" = some m.cls := findClass_of_methodNamed B.named
  have hlocks := B.notSynchronized
  have hK := hKK.1
  subst hH
  have hl := lv_entry ([.ref h0, .int what, .ref bx]) (n := 3) (Nat.le_of_ble_eq_true rfl)
  rw [lg_entry_eq]
  generalize (lg_sl ([.ref h0, .int what, .ref bx]) ++ List.replicate (3 - (lg_sl ([.ref h0, .int what, .ref bx])).length) Slot.unset).toArray = ls at hl ⊢
  have hl : lv_has ls 3 [(0, .ref h0), (1, .int what), (2, .ref bx)] := hl
  refine lv_iload_n hx hb d_Placed_answer_0 rfl (lv_at hl 1 rfl) ?_
  by_cases c_2 : what = 0
  · refine lv_tableIn (tgt := 48) hx hb d_Placed_answer_1 (by rw [c_2]; decide) (by rw [c_2]; decide) (by rw [c_2]; rfl) (by decide) ?_
    refine lv_aload_n hx hb d_Placed_answer_48 rfl (lv_at hl 0 rfl) ?_
    refine va_get (D := g.1) (ci := 9) (v := .ref ia) (C := "BoxGlue$Placed") (T := kT_Placed) (N := 3) hx hb hts ki_Placed hown hK (k_one o0) 0 rfl rfl 0 (by decide) (hts _ kw_438) (fun _ h9 => h9) rfl d_Placed_answer_49 ?_
    refine v_sort hx hb hown hts hKK kw_229 hit d_Placed_answer_52 ?_
    exact W.iret (v := (it 0)) hx hb hr (fun t ht hW => ⟨_, rfl, (by unfold p_ans; rw [if_pos c_2]), ht⟩) (fun _ h => by cases h) d_Placed_answer_55
  by_cases c_3 : what = 1
  · refine lv_tableIn (tgt := 56) hx hb d_Placed_answer_1 (by rw [c_3]; decide) (by rw [c_3]; decide) (by rw [c_3]; rfl) (by decide) ?_
    refine lv_aload_n hx hb d_Placed_answer_56 rfl (lv_at hl 0 rfl) ?_
    refine va_get (D := g.1) (ci := 9) (v := .int ln) (C := "BoxGlue$Placed") (T := kT_Placed) (N := 3) hx hb hts ki_Placed hown hK (k_one o0) 0 rfl rfl 2 (by decide) (hts _ kw_441) (fun _ h9 => h9) rfl d_Placed_answer_57 ?_
    exact W.iret (v := ln) hx hb hr (fun t ht hW => ⟨_, rfl, (by unfold p_ans; rw [if_neg c_2, if_pos c_3]), ht⟩) (fun _ h => by cases h) d_Placed_answer_60
  by_cases c_4 : what = 2
  · refine lv_tableIn (tgt := 61) hx hb d_Placed_answer_1 (by rw [c_4]; decide) (by rw [c_4]; decide) (by rw [c_4]; rfl) (by decide) ?_
    refine lv_aload_n hx hb d_Placed_answer_61 rfl (lv_at hl 0 rfl) ?_
    refine va_get (D := g.1) (ci := 9) (v := .int pl) (C := "BoxGlue$Placed") (T := kT_Placed) (N := 3) hx hb hts ki_Placed hown hK (k_one o0) 0 rfl rfl 1 (by decide) (hts _ kw_440) (fun _ h9 => h9) rfl d_Placed_answer_62 ?_
    exact W.iret (v := pl) hx hb hr (fun t ht hW => ⟨_, rfl, (by unfold p_ans; rw [if_neg c_2, if_neg c_3, if_pos c_4]), ht⟩) (fun _ h => by cases h) d_Placed_answer_65
  by_cases c_5 : what = 3
  · refine lv_tableIn (tgt := 66) hx hb d_Placed_answer_1 (by rw [c_5]; decide) (by rw [c_5]; decide) (by rw [c_5]; rfl) (by decide) ?_
    refine lv_aload_n hx hb d_Placed_answer_66 rfl (lv_at hl 0 rfl) ?_
    refine va_get (D := g.1) (ci := 9) (v := .ref ia) (C := "BoxGlue$Placed") (T := kT_Placed) (N := 3) hx hb hts ki_Placed hown hK (k_one o0) 0 rfl rfl 0 (by decide) (hts _ kw_438) (fun _ h9 => h9) rfl d_Placed_answer_67 ?_
    refine lv_aload_n hx hb d_Placed_answer_70 rfl (lv_at hl 0 rfl) ?_
    refine va_get (D := g.1) (ci := 9) (v := .int pl) (C := "BoxGlue$Placed") (T := kT_Placed) (N := 3) hx hb hts ki_Placed hown hK (k_one o0) 0 rfl rfl 1 (by decide) (hts _ kw_440) (fun _ h9 => h9) rfl d_Placed_answer_71 ?_
    refine lv_aload_n hx hb d_Placed_answer_74 rfl (lv_at hl 0 rfl) ?_
    refine va_get (D := g.1) (ci := 9) (v := .int ln) (C := "BoxGlue$Placed") (T := kT_Placed) (N := 3) hx hb hts ki_Placed hown hK (k_one o0) 0 rfl rfl 2 (by decide) (hts _ kw_441) (fun _ h9 => h9) rfl d_Placed_answer_75 ?_
    refine v_leadersDrawn hx hb hml hown hts hKK kw_494 hit hl.1 (Nat.le_of_ble_eq_true rfl) (Nat.le_of_ble_eq_true rfl) (Nat.le_of_ble_eq_true rfl) (Nat.zero_le _) (Nat.zero_le _) d_Placed_answer_78 ?_
    exact W.iret (v := (i_drawn it pl ln)) hx hb hr (fun t ht hW => ⟨_, rfl, (by unfold p_ans; rw [if_neg c_2, if_neg c_3, if_neg c_4, if_pos c_5]), ht⟩) (fun _ h => by cases h) d_Placed_answer_81
  by_cases c_6 : what = 4
  · refine lv_tableIn (tgt := 82) hx hb d_Placed_answer_1 (by rw [c_6]; decide) (by rw [c_6]; decide) (by rw [c_6]; rfl) (by decide) ?_
    refine lv_aload_n hx hb d_Placed_answer_82 rfl (lv_at hl 0 rfl) ?_
    refine va_get (D := g.1) (ci := 9) (v := .ref ia) (C := "BoxGlue$Placed") (T := kT_Placed) (N := 3) hx hb hts ki_Placed hown hK (k_one o0) 0 rfl rfl 0 (by decide) (hts _ kw_438) (fun _ h9 => h9) rfl d_Placed_answer_83 ?_
    refine lv_aload_n hx hb d_Placed_answer_86 rfl (lv_at hl 0 rfl) ?_
    refine va_get (D := g.1) (ci := 9) (v := .int pl) (C := "BoxGlue$Placed") (T := kT_Placed) (N := 3) hx hb hts ki_Placed hown hK (k_one o0) 0 rfl rfl 1 (by decide) (hts _ kw_440) (fun _ h9 => h9) rfl d_Placed_answer_87 ?_
    refine lv_aload_n hx hb d_Placed_answer_90 rfl (lv_at hl 0 rfl) ?_
    refine va_get (D := g.1) (ci := 9) (v := .int ln) (C := "BoxGlue$Placed") (T := kT_Placed) (N := 3) hx hb hts ki_Placed hown hK (k_one o0) 0 rfl rfl 2 (by decide) (hts _ kw_441) (fun _ h9 => h9) rfl d_Placed_answer_91 ?_
    refine v_firstLeader hx hb hml hown hts hKK kw_515 hit hl.1 (Nat.le_of_ble_eq_true rfl) (Nat.le_of_ble_eq_true rfl) (Nat.le_of_ble_eq_true rfl) (Nat.zero_le _) (Nat.zero_le _) d_Placed_answer_94 ?_
    exact W.iret (v := (i_first it pl ln)) hx hb hr (fun t ht hW => ⟨_, rfl, (by unfold p_ans; rw [if_neg c_2, if_neg c_3, if_neg c_4, if_neg c_5, if_pos c_6]), ht⟩) (fun _ h => by cases h) d_Placed_answer_97
  by_cases c_7 : what = 5
  · refine lv_tableIn (tgt := 98) hx hb d_Placed_answer_1 (by rw [c_7]; decide) (by rw [c_7]; decide) (by rw [c_7]; rfl) (by decide) ?_
    refine lv_aload_n hx hb d_Placed_answer_98 rfl (lv_at hl 0 rfl) ?_
    refine va_get (D := g.1) (ci := 9) (v := .ref ia) (C := "BoxGlue$Placed") (T := kT_Placed) (N := 3) hx hb hts ki_Placed hown hK (k_one o0) 0 rfl rfl 0 (by decide) (hts _ kw_438) (fun _ h9 => h9) rfl d_Placed_answer_99 ?_
    refine lv_aload_n hx hb d_Placed_answer_102 rfl (lv_at hl 0 rfl) ?_
    refine va_get (D := g.1) (ci := 9) (v := .int pl) (C := "BoxGlue$Placed") (T := kT_Placed) (N := 3) hx hb hts ki_Placed hown hK (k_one o0) 0 rfl rfl 1 (by decide) (hts _ kw_440) (fun _ h9 => h9) rfl d_Placed_answer_103 ?_
    refine lv_aload_n hx hb d_Placed_answer_106 rfl (lv_at hl 0 rfl) ?_
    refine va_get (D := g.1) (ci := 9) (v := .int ln) (C := "BoxGlue$Placed") (T := kT_Placed) (N := 3) hx hb hts ki_Placed hown hK (k_one o0) 0 rfl rfl 2 (by decide) (hts _ kw_441) (fun _ h9 => h9) rfl d_Placed_answer_107 ?_
    refine v_leaderStep hx hb hml hown hts hKK kw_534 hit hl.1 (Nat.le_of_ble_eq_true rfl) (Nat.le_of_ble_eq_true rfl) (Nat.le_of_ble_eq_true rfl) (Nat.zero_le _) (Nat.zero_le _) d_Placed_answer_110 ?_
    exact W.iret (v := (i_step it pl ln)) hx hb hr (fun t ht hW => ⟨_, rfl, (by unfold p_ans; rw [if_neg c_2, if_neg c_3, if_neg c_4, if_neg c_5, if_neg c_6, if_pos c_7]), ht⟩) (fun _ h => by cases h) d_Placed_answer_113
  by_cases c_8 : what = 6
  · refine lv_tableIn (tgt := 114) hx hb d_Placed_answer_1 (by rw [c_8]; decide) (by rw [c_8]; decide) (by rw [c_8]; rfl) (by decide) ?_
    refine lv_aload_n hx hb d_Placed_answer_114 rfl (lv_at hl 0 rfl) ?_
    refine va_get (D := g.1) (ci := 9) (v := .ref ia) (C := "BoxGlue$Placed") (T := kT_Placed) (N := 3) hx hb hts ki_Placed hown hK (k_one o0) 0 rfl rfl 0 (by decide) (hts _ kw_438) (fun _ h9 => h9) rfl d_Placed_answer_115 ?_
    refine lv_aload_n hx hb d_Placed_answer_118 rfl (lv_at hl 2 rfl) ?_
    refine va_get (D := g.1) (ci := 2) (v := .int bh) (C := "BoxGlue$Box") (T := kT_Box) (N := 5) hx hb hts ki_Box hown hK (k_one b0) 0 rfl rfl 1 (by decide) (hts _ kw_114) (fun _ h9 => h9) rfl d_Placed_answer_119 ?_
    refine v_heightWhere hx hb hml hown hts hKK kw_548 hit hl.1 (Nat.le_of_ble_eq_true rfl) (Nat.le_of_ble_eq_true rfl) (Nat.le_of_ble_eq_true rfl) (Nat.zero_le _) (Nat.zero_le _) d_Placed_answer_122 ?_
    exact W.iret (v := (i_height it bh)) hx hb hr (fun t ht hW => ⟨_, rfl, (by unfold p_ans; rw [if_neg c_2, if_neg c_3, if_neg c_4, if_neg c_5, if_neg c_6, if_neg c_7, if_pos c_8]), ht⟩) (fun _ h => by cases h) d_Placed_answer_125
  by_cases c_9 : what = 7
  · refine lv_tableIn (tgt := 126) hx hb d_Placed_answer_1 (by rw [c_9]; decide) (by rw [c_9]; decide) (by rw [c_9]; rfl) (by decide) ?_
    refine lv_aload_n hx hb d_Placed_answer_126 rfl (lv_at hl 0 rfl) ?_
    refine va_get (D := g.1) (ci := 9) (v := .ref ia) (C := "BoxGlue$Placed") (T := kT_Placed) (N := 3) hx hb hts ki_Placed hown hK (k_one o0) 0 rfl rfl 0 (by decide) (hts _ kw_438) (fun _ h9 => h9) rfl d_Placed_answer_127 ?_
    refine lv_aload_n hx hb d_Placed_answer_130 rfl (lv_at hl 2 rfl) ?_
    refine va_get (D := g.1) (ci := 2) (v := .int bd) (C := "BoxGlue$Box") (T := kT_Box) (N := 5) hx hb hts ki_Box hown hK (k_one b0) 0 rfl rfl 2 (by decide) (hts _ kw_117) (fun _ h9 => h9) rfl d_Placed_answer_131 ?_
    refine v_depthWhere hx hb hml hown hts hKK kw_549 hit hl.1 (Nat.le_of_ble_eq_true rfl) (Nat.le_of_ble_eq_true rfl) (Nat.le_of_ble_eq_true rfl) (Nat.zero_le _) (Nat.zero_le _) d_Placed_answer_134 ?_
    exact W.iret (v := (i_depth it bd)) hx hb hr (fun t ht hW => ⟨_, rfl, (by unfold p_ans; rw [if_neg c_2, if_neg c_3, if_neg c_4, if_neg c_5, if_neg c_6, if_neg c_7, if_neg c_8, if_pos c_9]), ht⟩) (fun _ h => by cases h) d_Placed_answer_137
  refine lv_tableOut (tgt := 138) hx hb d_Placed_answer_1 (k_sw c_2 c_3 c_4 c_5 c_6 c_7 c_8 c_9) (by decide) ?_
  refine lv_iconst (v := (-1)) hx hb d_Placed_answer_138 (by decide) ?_
  exact W.iret (v := (-1)) hx hb hr (fun t ht hW => ⟨_, rfl, (by unfold p_ans; rw [if_neg c_2, if_neg c_3, if_neg c_4, if_neg c_5, if_neg c_6, if_neg c_7, if_neg c_8, if_neg c_9]), ht⟩) (fun _ h => by cases h) d_Placed_answer_139
def b_ans (bl bh bd f0 f1 f2 f3 : Int32) (n : Nat) (what : Int32) : Int32 := if what = 0 then bl else if what = 1 then bh else if what = 2 then bd else if what = 3 then nI n else if what = 4 then f_Fit_badness f0 f1 f2 f3 else if what = 5 then f_Fit_over f0 f1 f2 f3 else if what = 6 then f1 else if what = 7 then f0 else (-1)
set_option maxHeartbeats 4000000 in
set_option maxRecDepth 100000 in
theorem c_Box_answer (l : Launch) (g : KGt) (H0 : Heap) (h0 bc bf n : Nat) (el : Nat → Nat) (bl bh bd f0 f1 f2 f3 what : Int32) (hz : ¬ f3 = 0 → ¬ (((f3).toInt64 * (f3).toInt64) * (f3).toInt64) = 0) (b0 : va_at g.1 kcl (h0, .inr (2, [.int bl, .int bh, .int bd, .ref bc, .ref bf])) H0) (o0 : va_at g.1 kcl (bf, .inr (3, [.int f0, .int f1, .int f2, .int f3])) H0) (o : kAL g bc n el H0) : Met l y_Box_answer (kW y_Box_answer b_Box_answer 2 (.some .int)) ({ frames := 3, cells := 0, slots := 0, locals := 69 }) (kPc [.ref h0, .int what] (KK g) H0) (kQc (kPure (.int (b_ans bl bh bd f0 f1 f2 f3 n what)) H0)) 0 0 (fun _ => False) := by
  refine Met.ofW (cc := b_Box_answer) (maxL := 2) (ret := (.some .int)) (by decide) rfl ?_
  intro p e s m args below meth c s₁ B hml hv
  obtain ⟨rfl, hH, hKK⟩ := hv
  have hx := B.exec
  have hb := B.bytes
  have hr := B.returns
  have hts := kW_ts (atoms_spec (ws := kW y_Box_answer b_Box_answer 2 (.some .int)) B.pre)
  have hown : s.vm.findClass "BoxGlue$Box" = some m.cls := findClass_of_methodNamed B.named
  have hlocks := B.notSynchronized
  have hK := hKK.1
  subst hH
  have hl := lv_entry ([.ref h0, .int what]) (n := 2) (Nat.le_of_ble_eq_true rfl)
  rw [lg_entry_eq]
  generalize (lg_sl ([.ref h0, .int what]) ++ List.replicate (2 - (lg_sl ([.ref h0, .int what])).length) Slot.unset).toArray = ls at hl ⊢
  have hl : lv_has ls 2 [(0, .ref h0), (1, .int what)] := hl
  refine lv_iload_n hx hb d_Box_answer_0 rfl (lv_at hl 1 rfl) ?_
  by_cases c_2 : what = 0
  · refine lv_tableIn (tgt := 48) hx hb d_Box_answer_1 (by rw [c_2]; decide) (by rw [c_2]; decide) (by rw [c_2]; rfl) (by decide) ?_
    refine lv_aload_n hx hb d_Box_answer_48 rfl (lv_at hl 0 rfl) ?_
    refine va_get (D := g.1) (ci := 2) (v := .int bl) (C := "BoxGlue$Box") (T := kT_Box) (N := 5) hx hb hts ki_Box hown hK (k_one b0) 0 rfl rfl 0 (by decide) (hts _ kw_110) (fun _ h9 => h9) rfl d_Box_answer_49 ?_
    exact W.iret (v := bl) hx hb hr (fun t ht hW => ⟨_, rfl, (by unfold b_ans; rw [if_pos c_2]), ht⟩) (fun _ h => by cases h) d_Box_answer_52
  by_cases c_3 : what = 1
  · refine lv_tableIn (tgt := 53) hx hb d_Box_answer_1 (by rw [c_3]; decide) (by rw [c_3]; decide) (by rw [c_3]; rfl) (by decide) ?_
    refine lv_aload_n hx hb d_Box_answer_53 rfl (lv_at hl 0 rfl) ?_
    refine va_get (D := g.1) (ci := 2) (v := .int bh) (C := "BoxGlue$Box") (T := kT_Box) (N := 5) hx hb hts ki_Box hown hK (k_one b0) 0 rfl rfl 1 (by decide) (hts _ kw_112) (fun _ h9 => h9) rfl d_Box_answer_54 ?_
    exact W.iret (v := bh) hx hb hr (fun t ht hW => ⟨_, rfl, (by unfold b_ans; rw [if_neg c_2, if_pos c_3]), ht⟩) (fun _ h => by cases h) d_Box_answer_57
  by_cases c_4 : what = 2
  · refine lv_tableIn (tgt := 58) hx hb d_Box_answer_1 (by rw [c_4]; decide) (by rw [c_4]; decide) (by rw [c_4]; rfl) (by decide) ?_
    refine lv_aload_n hx hb d_Box_answer_58 rfl (lv_at hl 0 rfl) ?_
    refine va_get (D := g.1) (ci := 2) (v := .int bd) (C := "BoxGlue$Box") (T := kT_Box) (N := 5) hx hb hts ki_Box hown hK (k_one b0) 0 rfl rfl 2 (by decide) (hts _ kw_115) (fun _ h9 => h9) rfl d_Box_answer_59 ?_
    exact W.iret (v := bd) hx hb hr (fun t ht hW => ⟨_, rfl, (by unfold b_ans; rw [if_neg c_2, if_neg c_3, if_pos c_4]), ht⟩) (fun _ h => by cases h) d_Box_answer_62
  by_cases c_5 : what = 3
  · refine lv_tableIn (tgt := 63) hx hb d_Box_answer_1 (by rw [c_5]; decide) (by rw [c_5]; decide) (by rw [c_5]; rfl) (by decide) ?_
    refine lv_aload_n hx hb d_Box_answer_63 rfl (lv_at hl 0 rfl) ?_
    refine va_get (D := g.1) (ci := 2) (v := .ref bc) (C := "BoxGlue$Box") (T := kT_Box) (N := 5) hx hb hts ki_Box hown hK (k_one b0) 0 rfl rfl 3 (by decide) (hts _ kw_118) (fun _ h9 => h9) rfl d_Box_answer_64 ?_
    refine k_pure (r := .int (nI n)) (W.runV (As := []) (rest := []) ⟨hx, hb, hml, hown, hts⟩ (c_AL_size l g s.heap bc n el o) (cwV 0 hts (kV_good kw_76 kw_361 kw_74 kw_75 kw_4) rfl rfl rfl (by decide +kernel) ⟨Nat.le_of_ble_eq_true rfl, Nat.le_of_ble_eq_true rfl⟩) (k_preV (KK_st g) hKK (o.recv hK)) rfl rfl hl.1 rfl (lv_room (Nat.le_of_ble_eq_true rfl)) d_Box_answer_67 ⟨Nat.zero_le _, Nat.zero_le _⟩) ?_
    exact W.iret (v := (nI n)) hx hb hr (fun t ht hW => ⟨_, rfl, (by unfold b_ans; rw [if_neg c_2, if_neg c_3, if_neg c_4, if_pos c_5]), ht⟩) (fun _ h => by cases h) d_Box_answer_70
  by_cases c_6 : what = 4
  · refine lv_tableIn (tgt := 71) hx hb d_Box_answer_1 (by rw [c_6]; decide) (by rw [c_6]; decide) (by rw [c_6]; rfl) (by decide) ?_
    refine lv_aload_n hx hb d_Box_answer_71 rfl (lv_at hl 0 rfl) ?_
    refine va_get (D := g.1) (ci := 2) (v := .ref bf) (C := "BoxGlue$Box") (T := kT_Box) (N := 5) hx hb hts ki_Box hown hK (k_one b0) 0 rfl rfl 4 (by decide) (hts _ kw_120) (fun _ h9 => h9) rfl d_Box_answer_72 ?_
    refine k_pure (r := .int (f_Fit_badness f0 f1 f2 f3)) (W.runV (As := []) (rest := []) ⟨hx, hb, hml, hown, hts⟩ (c_Fit_badness l g s.heap bf f0 f1 f2 f3 o0 hz) (cwV 0 hts (kV_good kw_470 kw_467 kw_468 kw_469 kw_7) rfl rfl rfl (by decide +kernel) ⟨Nat.le_of_ble_eq_true rfl, Nat.le_of_ble_eq_true rfl⟩) (k_preV (KK_st g) hKK (va_recv hK (k_one o0) (ci := 3) (q0 := 0) rfl rfl)) rfl rfl hl.1 rfl (lv_room (Nat.le_of_ble_eq_true rfl)) d_Box_answer_75 ⟨Nat.zero_le _, Nat.zero_le _⟩) ?_
    exact W.iret (v := (f_Fit_badness f0 f1 f2 f3)) hx hb hr (fun t ht hW => ⟨_, rfl, (by unfold b_ans; rw [if_neg c_2, if_neg c_3, if_neg c_4, if_neg c_5, if_pos c_6]), ht⟩) (fun _ h => by cases h) d_Box_answer_78
  by_cases c_7 : what = 5
  · refine lv_tableIn (tgt := 79) hx hb d_Box_answer_1 (by rw [c_7]; decide) (by rw [c_7]; decide) (by rw [c_7]; rfl) (by decide) ?_
    refine lv_aload_n hx hb d_Box_answer_79 rfl (lv_at hl 0 rfl) ?_
    refine va_get (D := g.1) (ci := 2) (v := .ref bf) (C := "BoxGlue$Box") (T := kT_Box) (N := 5) hx hb hts ki_Box hown hK (k_one b0) 0 rfl rfl 4 (by decide) (hts _ kw_120) (fun _ h9 => h9) rfl d_Box_answer_80 ?_
    refine k_pure (r := .int (f_Fit_over f0 f1 f2 f3)) (W.runV (As := []) (rest := []) ⟨hx, hb, hml, hown, hts⟩ (c_Fit_over l g s.heap bf f0 f1 f2 f3 o0) (cwV 0 hts (kV_good kw_430 kw_485 kw_428 kw_429 kw_7) rfl rfl rfl (by decide +kernel) ⟨Nat.le_of_ble_eq_true rfl, Nat.le_of_ble_eq_true rfl⟩) (k_preV (KK_st g) hKK (va_recv hK (k_one o0) (ci := 3) (q0 := 0) rfl rfl)) rfl rfl hl.1 rfl (lv_room (Nat.le_of_ble_eq_true rfl)) d_Box_answer_83 ⟨Nat.zero_le _, Nat.zero_le _⟩) ?_
    exact W.iret (v := (f_Fit_over f0 f1 f2 f3)) hx hb hr (fun t ht hW => ⟨_, rfl, (by unfold b_ans; rw [if_neg c_2, if_neg c_3, if_neg c_4, if_neg c_5, if_neg c_6, if_pos c_7]), ht⟩) (fun _ h => by cases h) d_Box_answer_86
  by_cases c_8 : what = 6
  · refine lv_tableIn (tgt := 87) hx hb d_Box_answer_1 (by rw [c_8]; decide) (by rw [c_8]; decide) (by rw [c_8]; rfl) (by decide) ?_
    refine lv_aload_n hx hb d_Box_answer_87 rfl (lv_at hl 0 rfl) ?_
    refine va_get (D := g.1) (ci := 2) (v := .ref bf) (C := "BoxGlue$Box") (T := kT_Box) (N := 5) hx hb hts ki_Box hown hK (k_one b0) 0 rfl rfl 4 (by decide) (hts _ kw_120) (fun _ h9 => h9) rfl d_Box_answer_88 ?_
    refine va_get (D := g.1) (ci := 3) (v := .int f1) (C := "BoxGlue$Fit") (T := kT_Fit) (N := 4) hx hb hts ki_Fit hown hK (k_one o0) 0 rfl rfl 1 (by decide) (hts _ kw_91) (fun _ h9 => h9) rfl d_Box_answer_91 ?_
    exact W.iret (v := f1) hx hb hr (fun t ht hW => ⟨_, rfl, (by unfold b_ans; rw [if_neg c_2, if_neg c_3, if_neg c_4, if_neg c_5, if_neg c_6, if_neg c_7, if_pos c_8]), ht⟩) (fun _ h => by cases h) d_Box_answer_94
  by_cases c_9 : what = 7
  · refine lv_tableIn (tgt := 95) hx hb d_Box_answer_1 (by rw [c_9]; decide) (by rw [c_9]; decide) (by rw [c_9]; rfl) (by decide) ?_
    refine lv_aload_n hx hb d_Box_answer_95 rfl (lv_at hl 0 rfl) ?_
    refine va_get (D := g.1) (ci := 2) (v := .ref bf) (C := "BoxGlue$Box") (T := kT_Box) (N := 5) hx hb hts ki_Box hown hK (k_one b0) 0 rfl rfl 4 (by decide) (hts _ kw_120) (fun _ h9 => h9) rfl d_Box_answer_96 ?_
    refine va_get (D := g.1) (ci := 3) (v := .int f0) (C := "BoxGlue$Fit") (T := kT_Fit) (N := 4) hx hb hts ki_Fit hown hK (k_one o0) 0 rfl rfl 0 (by decide) (hts _ kw_89) (fun _ h9 => h9) rfl d_Box_answer_99 ?_
    exact W.iret (v := f0) hx hb hr (fun t ht hW => ⟨_, rfl, (by unfold b_ans; rw [if_neg c_2, if_neg c_3, if_neg c_4, if_neg c_5, if_neg c_6, if_neg c_7, if_neg c_8, if_pos c_9]), ht⟩) (fun _ h => by cases h) d_Box_answer_102
  refine lv_tableOut (tgt := 103) hx hb d_Box_answer_1 (k_sw c_2 c_3 c_4 c_5 c_6 c_7 c_8 c_9) (by decide) ?_
  refine lv_iconst (v := (-1)) hx hb d_Box_answer_103 (by decide) ?_
  exact W.iret (v := (-1)) hx hb hr (fun t ht hW => ⟨_, rfl, (by unfold b_ans; rw [if_neg c_2, if_neg c_3, if_neg c_4, if_neg c_5, if_neg c_6, if_neg c_7, if_neg c_8, if_neg c_9]), ht⟩) (fun _ h => by cases h) d_Box_answer_104
set_option maxHeartbeats 4000000 in
set_option maxRecDepth 100000 in
theorem c_Box_bare (l : Launch) (g : KGt) (H0 : Heap) (hB : kB g H0) (p0 p1 p2 : Int32) : Met l y_Box_bare (kW y_Box_bare b_Box_bare 3 (.some (.object "BoxGlue$Box"))) ({ frames := 4, cells := 3, slots := 12, locals := 72 }) (kPc [.int p0, .int p1, .int p2] (KK g) H0) (kQc (fun v H1 => ∃ bq fq cq : Nat, v = some (.ref bq) ∧ H0.size ≤ bq ∧ H0.size ≤ fq ∧ H0.size ≤ cq ∧ kE (fun _ => False) H0 H1 ∧ va_at g.1 kcl (bq, .inr (2, [.int p0, .int p1, .int p2, .ref cq, .ref fq])) H1 ∧ va_at g.1 kcl (fq, .inr (3, [.int 0, .int (-1), .int 0, .int 0])) H1 ∧ va_at g.1 kcl (cq, .inr (1, [.ref g.2.2.2.1, .int 0, .int 0])) H1)) 3 12 (fun q : Nat => H0.size ≤ q) := by
  refine Met.ofW (cc := b_Box_bare) (maxL := 3) (ret := (.some (.object "BoxGlue$Box"))) (by decide) rfl ?_
  intro p e s m args below meth c s₁ B hml hv
  obtain ⟨rfl, hH, hKK⟩ := hv
  have hx := B.exec
  have hb := B.bytes
  have hr := B.returns
  have hts := kW_ts (atoms_spec (ws := kW y_Box_bare b_Box_bare 3 (.some (.object "BoxGlue$Box"))) B.pre)
  have hown : s.vm.findClass "BoxGlue$Box" = some m.cls := findClass_of_methodNamed B.named
  have hlocks := B.notSynchronized
  have hK := hKK.1
  subst hH
  have hl := lv_entry ([.int p0, .int p1, .int p2]) (n := 3) (Nat.le_of_ble_eq_true rfl)
  rw [lg_entry_eq]
  generalize (lg_sl ([.int p0, .int p1, .int p2]) ++ List.replicate (3 - (lg_sl ([.int p0, .int p1, .int p2])).length) Slot.unset).toArray = ls at hl ⊢
  have hl : lv_has ls 3 [(0, .int p0), (1, .int p1), (2, .int p2)] := hl
  generalize hAe : (fun q : Nat => s.heap.size ≤ q) = A
  have hA : ∀ q : Nat, s.heap.size ≤ q → A q := fun q h => by rw [← hAe]; exact h
  have hS : va_S A s.heap s.heap [] := va_S.rf
  have hP : va_P g.1 kcl [] s.heap := kP0
  have hD : va_D A [] := kD0
  refine va_new (D := g.1) (ci := 2) (fs := [.int 0, .int 0, .int 0, .null, .null]) (C := "BoxGlue$Box") (T := kT_Box) (N := 5) hx hb hts ki_Box kt_Box ko_Box hown (hts _ kw_80) (hts _ kw_81) (hts _ kw_6) hK hP hD hS hA rfl (fun j hj => by rcases (show j = 0 ∨ j = 1 ∨ j = 2 ∨ j = 3 ∨ j = 4 by omega) with rfl | rfl | rfl | rfl | rfl <;> rfl) (Nat.le_of_ble_eq_true rfl) (Nat.le_of_ble_eq_true rfl) d_Box_bare_0 (fun bq H hP hD hS => ?_)
  have hP : va_P g.1 kcl [(bq, .inr (2, [.int 0, .int 0, .int 0, .null, .null]))] H := hP
  have hD : va_D A [(bq, .inr (2, [.int 0, .int 0, .int 0, .null, .null]))] := hD
  have h_bq : s.heap.size ≤ bq := by have h9 := hD.2 0 _ rfl; rw [← hAe] at h9; exact h9
  refine lv_dup hx hb d_Box_bare_3 rfl ?_
  refine lv_iload_n hx hb d_Box_bare_4 rfl (lv_at hl 0 rfl) ?_
  refine lv_iload_n hx hb d_Box_bare_5 rfl (lv_at hl 1 rfl) ?_
  refine lv_iload_n hx hb d_Box_bare_6 rfl (lv_at hl 2 rfl) ?_
  refine va_new (D := g.1) (ci := 3) (fs := [.int 0, .int 0, .int 0, .int 0]) (C := "BoxGlue$Fit") (T := kT_Fit) (N := 4) hx hb hts ki_Fit kt_Fit ko_Fit hown (hts _ kw_82) (hts _ kw_83) (hts _ kw_7) hK hP hD hS hA rfl (fun j hj => by rcases (show j = 0 ∨ j = 1 ∨ j = 2 ∨ j = 3 by omega) with rfl | rfl | rfl | rfl <;> rfl) (Nat.le_of_ble_eq_true rfl) (Nat.le_of_ble_eq_true rfl) d_Box_bare_7 (fun fq H hP hD hS => ?_)
  have hP : va_P g.1 kcl [(bq, .inr (2, [.int 0, .int 0, .int 0, .null, .null])), (fq, .inr (3, [.int 0, .int 0, .int 0, .int 0]))] H := hP
  have hD : va_D A [(bq, .inr (2, [.int 0, .int 0, .int 0, .null, .null])), (fq, .inr (3, [.int 0, .int 0, .int 0, .int 0]))] := hD
  have h_fq : s.heap.size ≤ fq := by have h9 := hD.2 1 _ rfl; rw [← hAe] at h9; exact h9
  refine lv_dup hx hb d_Box_bare_10 rfl ?_
  refine lv_iconst (v := 0) hx hb d_Box_bare_11 (by decide) ?_
  refine lv_iconst (v := 0) hx hb d_Box_bare_12 (by decide) ?_
  refine lv_iconst (v := (-1)) hx hb d_Box_bare_13 (by decide) ?_
  refine lv_iconst (v := 0) hx hb d_Box_bare_14 (by decide) ?_
  refine k_call (A := A) (W.runI (As := [.int 0, .int 0, .int (-1), .int 0]) (rest := [.ref fq, .int p2, .int p1, .int p0, .ref bq, .ref bq]) ⟨hx, hb, hml, hown, hts⟩ (c_Fit_init l g H fq 0 0 (-1) 0 (k_at0 hP 1 rfl)) (cwI 4 hts (kW_good kw_86) rfl rfl rfl (hts _ kw_7) (hts _ kw_84) (hts _ kw_85) rfl (by decide +kernel) ⟨Nat.le_of_ble_eq_true rfl, Nat.le_of_ble_eq_true rfl⟩) (k_pre (KK_st g) hKK) rfl rfl hl.1 rfl (lv_room (Nat.le_of_ble_eq_true rfl)) d_Box_bare_15 ⟨Nat.le_of_ble_eq_true rfl, Nat.le_of_ble_eq_true rfl⟩) hS.2.2 (fun z h => by rw [← hAe]; rcases h with h | h; rw [h]; exact h_fq; exact Nat.le_trans hS.1 h) (fun v H2 locs hv hL => ?_)
  obtain ⟨rfl, hE2, o2⟩ := hv
  have hS : va_S A s.heap H2 locs := ((kE.ofS hS).tr hE2 (fun z hz h => by rw [← hAe]; rw [h]; exact h_fq)).S hL
  have hP : va_P g.1 kcl [(bq, .inr (2, [.int 0, .int 0, .int 0, .null, .null])), (fq, .inr (3, [.int 0, .int (-1), .int 0, .int 0]))] H2 := k_two (hE2.at (k_at0 hP 0 rfl) (fun h => absurd (hD.1 0 1 _ _ rfl rfl h) (by decide))) o2
  have hD : va_D A [(bq, .inr (2, [.int 0, .int 0, .int 0, .null, .null])), (fq, .inr (3, [.int 0, .int (-1), .int 0, .int 0]))] := hD.set (p := 1) rfl
  generalize H2 = H at hP hS hE2 ⊢
  clear hE2 o2
  refine va_new (D := g.1) (ci := 1) (fs := [.null, .int 0, .int 0]) (C := "java/util/ArrayList") (T := kT_AL) (N := 3) hx hb hts ki_AL kt_AL ko_AL hown (hts _ kw_103) (hts _ kw_30) (hts _ kw_4) hK hP hD hS hA rfl (fun j hj => by rcases (show j = 0 ∨ j = 1 ∨ j = 2 by omega) with rfl | rfl | rfl <;> rfl) (Nat.le_of_ble_eq_true rfl) (Nat.le_of_ble_eq_true rfl) d_Box_bare_18 (fun cq H hP hD hS => ?_)
  have hP : va_P g.1 kcl [(bq, .inr (2, [.int 0, .int 0, .int 0, .null, .null])), (fq, .inr (3, [.int 0, .int (-1), .int 0, .int 0])), (cq, .inr (1, [.null, .int 0, .int 0]))] H := hP
  have hD : va_D A [(bq, .inr (2, [.int 0, .int 0, .int 0, .null, .null])), (fq, .inr (3, [.int 0, .int (-1), .int 0, .int 0])), (cq, .inr (1, [.null, .int 0, .int 0]))] := hD
  have h_cq : s.heap.size ≤ cq := by have h9 := hD.2 2 _ rfl; rw [← hAe] at h9; exact h9
  refine lv_dup hx hb d_Box_bare_21 rfl ?_
  refine k_call (A := A) (W.runI (As := []) (rest := [.ref cq, .ref fq, .int p2, .int p1, .int p0, .ref bq, .ref bq]) ⟨hx, hb, hml, hown, hts⟩ (c_AL_init l g H cq (hB.tr (kE.ofS hS) (fun z hz h => by rw [← hAe] at h; exact absurd (Nat.le_trans hB.1 h) (by omega))) (Nat.le_trans hB.1 h_cq) (k_at0 hP 2 rfl)) (cwI 0 hts (kW_good kw_33) rfl rfl rfl (hts _ kw_4) (hts _ kw_104) (hts _ kw_32) rfl (by decide +kernel) ⟨Nat.le_of_ble_eq_true rfl, Nat.le_of_ble_eq_true rfl⟩) (k_pre (KK_st g) hKK) rfl rfl hl.1 rfl (lv_room (Nat.le_of_ble_eq_true rfl)) d_Box_bare_22 ⟨Nat.le_of_ble_eq_true rfl, Nat.le_of_ble_eq_true rfl⟩) hS.2.2 (fun z h => by rw [← hAe]; rcases h with h | h; rw [h]; exact h_cq; exact Nat.le_trans hS.1 h) (fun v H2 locs hv hL => ?_)
  obtain ⟨rfl, hE2, o2⟩ := hv
  have hS : va_S A s.heap H2 locs := ((kE.ofS hS).tr hE2 (fun z hz h => by rw [← hAe]; rw [h]; exact h_cq)).S hL
  have hP : va_P g.1 kcl [(bq, .inr (2, [.int 0, .int 0, .int 0, .null, .null])), (fq, .inr (3, [.int 0, .int (-1), .int 0, .int 0])), (cq, .inr (1, [.ref g.2.2.2.1, .int 0, .int 0]))] H2 := k_three (hE2.at (k_at0 hP 0 rfl) (fun h => absurd (hD.1 0 2 _ _ rfl rfl h) (by decide))) (hE2.at (k_at0 hP 1 rfl) (fun h => absurd (hD.1 1 2 _ _ rfl rfl h) (by decide))) o2
  have hD : va_D A [(bq, .inr (2, [.int 0, .int 0, .int 0, .null, .null])), (fq, .inr (3, [.int 0, .int (-1), .int 0, .int 0])), (cq, .inr (1, [.ref g.2.2.2.1, .int 0, .int 0]))] := hD.set (p := 2) rfl
  generalize H2 = H at hP hS hE2 ⊢
  clear hE2 o2
  refine k_call (A := A) (W.runI (As := [.int p0, .int p1, .int p2, .ref fq, .ref cq]) (rest := [.ref bq]) ⟨hx, hb, hml, hown, hts⟩ (c_Box_init l g H bq p0 p1 p2 fq cq (k_at0 hP 0 rfl)) (cwI 5 hts (kW_good kw_107) rfl rfl rfl (hts _ kw_6) (hts _ kw_105) (hts _ kw_106) rfl (by decide +kernel) ⟨Nat.le_of_ble_eq_true rfl, Nat.le_of_ble_eq_true rfl⟩) (k_pre (KK_st g) hKK) rfl rfl hl.1 rfl (lv_room (Nat.le_of_ble_eq_true rfl)) d_Box_bare_25 ⟨Nat.le_of_ble_eq_true rfl, Nat.le_of_ble_eq_true rfl⟩) hS.2.2 (fun z h => by rw [← hAe]; rcases h with h | h; rw [h]; exact h_bq; exact Nat.le_trans hS.1 h) (fun v H2 locs hv hL => ?_)
  obtain ⟨rfl, hE2, o2⟩ := hv
  have hS : va_S A s.heap H2 locs := ((kE.ofS hS).tr hE2 (fun z hz h => by rw [← hAe]; rw [h]; exact h_bq)).S hL
  have hP : va_P g.1 kcl [(bq, .inr (2, [.int p0, .int p1, .int p2, .ref cq, .ref fq])), (fq, .inr (3, [.int 0, .int (-1), .int 0, .int 0])), (cq, .inr (1, [.ref g.2.2.2.1, .int 0, .int 0]))] H2 := k_three o2 (hE2.at (k_at0 hP 1 rfl) (fun h => absurd (hD.1 1 0 _ _ rfl rfl h) (by decide))) (hE2.at (k_at0 hP 2 rfl) (fun h => absurd (hD.1 2 0 _ _ rfl rfl h) (by decide)))
  have hD : va_D A [(bq, .inr (2, [.int p0, .int p1, .int p2, .ref cq, .ref fq])), (fq, .inr (3, [.int 0, .int (-1), .int 0, .int 0])), (cq, .inr (1, [.ref g.2.2.2.1, .int 0, .int 0]))] := hD.set (p := 0) rfl
  generalize H2 = H at hP hS hE2 ⊢
  clear hE2 o2
  have hE : kE (fun _ => False) s.heap H := (kE.ofS hS).wk (fun z hz h => by rw [← hAe] at h; omega)
  exact W.aret (v := .ref bq) hx hb hr (Or.inl ⟨_, rfl⟩) (Or.inr ⟨_, rfl⟩) (fun t ht hW => ⟨_, rfl, bq, fq, cq, rfl, h_bq, h_fq, h_cq, by rw [ht]; exact hE, by rw [ht]; exact k_at0 hP 0 rfl, by rw [ht]; exact k_at0 hP 1 rfl, by rw [ht]; exact k_at0 hP 2 rfl⟩) hS.2.2 d_Box_bare_28
set_option maxHeartbeats 4000000 in
set_option maxRecDepth 100000 in
theorem c_Glue_with (l : Launch) (g : KGt) (H0 : Heap) (h0 p0 r : Nat) (a0 a1 a2 a3 a4 a5 : Int32) (o0 : va_at g.1 kcl (h0, .inr (5, [.int a0, .int a1, .int a2, .int a3, .int a4, .int a5, .ref r])) H0) : Met l y_Glue_with (kW y_Glue_with b_Glue_with 2 (.some (.object "BoxGlue$Glue"))) ({ frames := 3, cells := 1, slots := 7, locals := 60 }) (kPc [.ref h0, .ref p0] (KK g) H0) (kQc (fun v H1 => ∃ bq : Nat, v = some (.ref bq) ∧ H0.size ≤ bq ∧ kE (fun _ => False) H0 H1 ∧ va_at g.1 kcl (bq, .inr (5, [.int 2, .int a1, .int a2, .int a3, .int a4, .int a5, .ref p0])) H1)) 1 7 (fun q : Nat => H0.size ≤ q) := by
  refine Met.ofW (cc := b_Glue_with) (maxL := 2) (ret := (.some (.object "BoxGlue$Glue"))) (by decide) rfl ?_
  intro p e s m args below meth c s₁ B hml hv
  obtain ⟨rfl, hH, hKK⟩ := hv
  have hx := B.exec
  have hb := B.bytes
  have hr := B.returns
  have hts := kW_ts (atoms_spec (ws := kW y_Glue_with b_Glue_with 2 (.some (.object "BoxGlue$Glue"))) B.pre)
  have hown : s.vm.findClass "BoxGlue$Glue" = some m.cls := findClass_of_methodNamed B.named
  have hlocks := B.notSynchronized
  have hK := hKK.1
  subst hH
  have hl := lv_entry ([.ref h0, .ref p0]) (n := 2) (Nat.le_of_ble_eq_true rfl)
  rw [lg_entry_eq]
  generalize (lg_sl ([.ref h0, .ref p0]) ++ List.replicate (2 - (lg_sl ([.ref h0, .ref p0])).length) Slot.unset).toArray = ls at hl ⊢
  have hl : lv_has ls 2 [(0, .ref h0), (1, .ref p0)] := hl
  generalize hAe : (fun q : Nat => s.heap.size ≤ q) = A
  have hA : ∀ q : Nat, s.heap.size ≤ q → A q := fun q h => by rw [← hAe]; exact h
  have hS : va_S A s.heap s.heap [] := va_S.rf
  have hP : va_P g.1 kcl [] s.heap := kP0
  have hD : va_D A [] := kD0
  refine va_new (D := g.1) (ci := 5) (fs := [.int 0, .int 0, .int 0, .int 0, .int 0, .int 0, .null]) (C := "BoxGlue$Glue") (T := kT_Glue) (N := 7) hx hb hts ki_Glue kt_Glue ko_Glue hown (hts _ kw_340) (hts _ kw_256) (hts _ kw_16) hK hP hD hS hA rfl (fun j hj => by rcases (show j = 0 ∨ j = 1 ∨ j = 2 ∨ j = 3 ∨ j = 4 ∨ j = 5 ∨ j = 6 by omega) with rfl | rfl | rfl | rfl | rfl | rfl | rfl <;> rfl) (Nat.le_of_ble_eq_true rfl) (Nat.le_of_ble_eq_true rfl) d_Glue_with_0 (fun bq H hP hD hS => ?_)
  have hP : va_P g.1 kcl [(bq, .inr (5, [.int 0, .int 0, .int 0, .int 0, .int 0, .int 0, .null]))] H := hP
  have hD : va_D A [(bq, .inr (5, [.int 0, .int 0, .int 0, .int 0, .int 0, .int 0, .null]))] := hD
  have h_bq : s.heap.size ≤ bq := by have h9 := hD.2 0 _ rfl; rw [← hAe] at h9; exact h9
  have o1 := (kE.ofS hS).at o0 (fun h => by rw [← hAe] at h; exact absurd o0.lt (Nat.not_lt.mpr h))
  refine lv_dup hx hb d_Glue_with_3 rfl ?_
  refine lv_aload_n hx hb d_Glue_with_4 rfl (lv_at hl 0 rfl) ?_
  refine va_get (D := g.1) (ci := 5) (v := .int a1) (C := "BoxGlue$Glue") (T := kT_Glue) (N := 7) hx hb hts ki_Glue hown hK (k_one o1) 0 rfl rfl 1 (by decide) (hts _ kw_231) (u_same (hts _ kw_232)) rfl d_Glue_with_5 ?_
  refine lv_aload_n hx hb d_Glue_with_8 rfl (lv_at hl 0 rfl) ?_
  refine va_get (D := g.1) (ci := 5) (v := .int a2) (C := "BoxGlue$Glue") (T := kT_Glue) (N := 7) hx hb hts ki_Glue hown hK (k_one o1) 0 rfl rfl 2 (by decide) (hts _ kw_274) (fun _ h9 => h9) rfl d_Glue_with_9 ?_
  refine lv_aload_n hx hb d_Glue_with_12 rfl (lv_at hl 0 rfl) ?_
  refine va_get (D := g.1) (ci := 5) (v := .int a3) (C := "BoxGlue$Glue") (T := kT_Glue) (N := 7) hx hb hts ki_Glue hown hK (k_one o1) 0 rfl rfl 3 (by decide) (hts _ kw_275) (fun _ h9 => h9) rfl d_Glue_with_13 ?_
  refine lv_aload_n hx hb d_Glue_with_16 rfl (lv_at hl 0 rfl) ?_
  refine va_get (D := g.1) (ci := 5) (v := .int a4) (C := "BoxGlue$Glue") (T := kT_Glue) (N := 7) hx hb hts ki_Glue hown hK (k_one o1) 0 rfl rfl 4 (by decide) (hts _ kw_276) (fun _ h9 => h9) rfl d_Glue_with_17 ?_
  refine lv_aload_n hx hb d_Glue_with_20 rfl (lv_at hl 0 rfl) ?_
  refine va_get (D := g.1) (ci := 5) (v := .int a5) (C := "BoxGlue$Glue") (T := kT_Glue) (N := 7) hx hb hts ki_Glue hown hK (k_one o1) 0 rfl rfl 5 (by decide) (hts _ kw_277) (fun _ h9 => h9) rfl d_Glue_with_21 ?_
  refine lv_aload_n hx hb d_Glue_with_24 rfl (lv_at hl 1 rfl) ?_
  refine k_call (A := A) (W.runI (As := [.int a1, .int a2, .int a3, .int a4, .int a5, .ref p0]) (rest := [.ref bq]) ⟨hx, hb, hml, hown, hts⟩ (c_Glue_init l g H bq a1 a2 a3 a4 a5 p0 (k_at0 hP 0 rfl)) (cwI 6 hts (kW_good kw_272) rfl rfl rfl (hts _ kw_16) (hts _ kw_341) (hts _ kw_271) rfl (by decide +kernel) ⟨Nat.le_of_ble_eq_true rfl, Nat.le_of_ble_eq_true rfl⟩) (k_pre (KK_st g) hKK) rfl rfl hl.1 rfl (lv_room (Nat.le_of_ble_eq_true rfl)) d_Glue_with_25 ⟨Nat.le_of_ble_eq_true rfl, Nat.le_of_ble_eq_true rfl⟩) hS.2.2 (fun z h => by rw [← hAe]; rcases h with h | h; rw [h]; exact h_bq; exact Nat.le_trans hS.1 h) (fun v H2 locs hv hL => ?_)
  obtain ⟨rfl, hE2, o2⟩ := hv
  have hS : va_S A s.heap H2 locs := ((kE.ofS hS).tr hE2 (fun z hz h => by rw [← hAe]; rw [h]; exact h_bq)).S hL
  have hP : va_P g.1 kcl [(bq, .inr (5, [.int 2, .int a1, .int a2, .int a3, .int a4, .int a5, .ref p0]))] H2 := k_one o2
  have hD : va_D A [(bq, .inr (5, [.int 2, .int a1, .int a2, .int a3, .int a4, .int a5, .ref p0]))] := hD.set (p := 0) rfl
  generalize H2 = H at hP hS hE2 ⊢
  clear hE2 o2
  have hE : kE (fun _ => False) s.heap H := (kE.ofS hS).wk (fun z hz h => by rw [← hAe] at h; omega)
  exact W.aret (v := .ref bq) hx hb hr (Or.inl ⟨_, rfl⟩) (Or.inr ⟨_, rfl⟩) (fun t ht hW => ⟨_, rfl, bq, rfl, h_bq, by rw [ht]; exact hE, by rw [ht]; exact k_at0 hP 0 rfl⟩) hS.2.2 d_Glue_with_28
end
section
/-! Box.placed, Box.packed -/
theorem kALx.apart {g : KGt} {la arr cap n e : Nat} {el : Nat → Nat} {H : Heap} {s : State} (h : kALx g la arr cap n el H) (hK : va_K g.1 kcl (kTy g) s) (ho : kObj g e H) : ¬ (e = la ∨ (e = arr ∧ 0 < cap)) := by
  obtain ⟨mo, w1, w2 | ⟨f, w2, w3⟩⟩ := h
  · rintro (h | h)
    · exact ho.ne hK w1 h
    · omega
  · rintro (h | h)
    · exact ho.ne hK w1 h
    · exact ho.na hK w2 h.1
/-- what stands before item i, of the giving that counts -/
def s_bef (its : Nat → Nat → Int32) (f1 f2 : Int32) (i : Nat) : Int32 := l_sum (fun k => t_giv (its k) f1 f2) i
def s_len (its : Nat → Nat → Int32) (f0 f1 f2 f3 : Int32) (i : Nat) : Int32 := its i 1 + f_Fit_change f0 f1 f2 f3 (s_bef its f1 f2 i) (s_bef its f1 f2 (i + 1))
def s_pl (its : Nat → Nat → Int32) (f0 f1 f2 f3 : Int32) (i : Nat) : Int32 := l_sum (s_len its f0 f1 f2 f3) i
set_option maxHeartbeats 4000000 in
set_option maxRecDepth 100000 in
theorem c_Box_placed (l : Launch) (g : KGt) (H0 : Heap) (I : Nat → Prop) (h0 h1 n : Nat) (el : Nat → Nat) (its : Nat → Nat → Int32) (f0 f1 f2 f3 : Int32) (hB : kB g H0) (hn : n ≤ 40) (o : kAL g h0 n el H0) (hi : ∀ i, i < n → kItem g I (el i) (its i) H0) (fo : va_at g.1 kcl (h1, .inr (3, [.int f0, .int f1, .int f2, .int f3])) H0) : Met l y_Box_placed (kW y_Box_placed b_Box_placed 9 (.some (.object "java/util/ArrayList"))) ({ frames := 7, cells := 100, slots := 5000, locals := 171 }) (kPc [.ref h0, .ref h1] (KK g) H0) (kQc (fun v H1 => ∃ (q arr cap : Nat) (pel : Nat → Nat), v = some (.ref q) ∧ H0.size ≤ q ∧ kE (fun _ => False) H0 H1 ∧ kALx g q arr cap n pel H1 ∧ (0 < cap → H0.size ≤ arr) ∧ ∀ k, k < n → H0.size ≤ pel k ∧ va_at g.1 kcl (pel k, .inr (9, [.ref (el k), .int (s_pl its f0 f1 f2 f3 k), .int (s_len its f0 f1 f2 f3 k)])) H1)) 100 5000 (fun q : Nat => H0.size ≤ q) := by
  refine Met.ofW (cc := b_Box_placed) (maxL := 9) (ret := (.some (.object "java/util/ArrayList"))) (by decide) rfl ?_
  intro p e s m args below meth c s₁ B hml hv
  obtain ⟨rfl, hH, hKK⟩ := hv
  have hx := B.exec
  have hb := B.bytes
  have hr := B.returns
  have hts := kW_ts (atoms_spec (ws := kW y_Box_placed b_Box_placed 9 (.some (.object "java/util/ArrayList"))) B.pre)
  have hown : s.vm.findClass "BoxGlue$Box" = some m.cls := findClass_of_methodNamed B.named
  have hlocks := B.notSynchronized
  have hK := hKK.1
  subst hH
  have hl := lv_entry ([.ref h0, .ref h1]) (n := 9) (Nat.le_of_ble_eq_true rfl)
  rw [lg_entry_eq]
  generalize (lg_sl ([.ref h0, .ref h1]) ++ List.replicate (9 - (lg_sl ([.ref h0, .ref h1])).length) Slot.unset).toArray = ls at hl ⊢
  have hl : lv_has ls 9 [(0, .ref h0), (1, .ref h1)] := hl
  generalize hAe : (fun q : Nat => s.heap.size ≤ q) = A
  have hA : ∀ q : Nat, s.heap.size ≤ q → A q := fun q h => by rw [← hAe]; exact h
  refine k_new (D := g.1) (ci := 1) (fs := [.null, .int 0, .int 0]) (C := "java/util/ArrayList") (T := kT_AL) (N := 3) hx hb hts ki_AL kt_AL ko_AL hown (hts _ kw_103) (hts _ kw_30) (hts _ kw_4) hK rfl (fun j hj => by rcases (show j = 0 ∨ j = 1 ∨ j = 2 by omega) with rfl | rfl | rfl <;> rfl) (by show _ ≤ 100; omega) (by show _ ≤ 5000; omega) d_Box_placed_0 (fun q H1 e_q p1 hN => ?_)
  refine lv_dup hx hb d_Box_placed_3 rfl ?_
  have hq : s.heap.size ≤ q := by omega
  refine k_call (A := A) (W.runI (As := []) (rest := [.ref q]) ⟨hx, hb, hml, hown, hts⟩ (c_AL_init l g H1 q (hB.tr hN (fun _ _ h => h)) (Nat.le_trans hB.1 hq) p1) (cwI 0 hts (kW_good kw_33) rfl rfl rfl (hts _ kw_4) (hts _ kw_104) (hts _ kw_32) rfl (by decide +kernel) ⟨Nat.le_of_ble_eq_true rfl, Nat.le_of_ble_eq_true rfl⟩) (k_pre (KK_st g) hKK) rfl rfl hl.1 rfl (lv_room (Nat.le_of_ble_eq_true rfl)) d_Box_placed_4 ⟨by show _ ≤ 100; omega, by show _ ≤ 5000; omega⟩) (fun _ h => by cases h) (fun z h => by rw [← hAe]; rcases h with h | h; rw [h]; exact hq; exact Nat.le_trans hN.1 h) (fun v H locs hv hL => ?_)
  obtain ⟨rfl, hE2, o2⟩ := hv
  have hE : kE (fun _ => False) s.heap H := hN.tr hE2 (fun z hz h => by omega)
  have al : kALx g q g.2.2.2.1 0 0 (fun _ => 0) H := ⟨0, by rw [nI_0]; exact o2, Or.inl ⟨rfl, rfl, rfl⟩⟩
  refine lv_astore_n (lv' := [(2, .ref q), (0, .ref h0), (1, .ref h1)]) hx hb d_Box_placed_7 rfl hl (by decide) rfl (fun ls hl => ?_)
  refine lv_iconst (v := 0) hx hb d_Box_placed_8 (by decide) ?_
  refine lv_istore_n (lv' := [(3, .int 0), (2, .ref q), (0, .ref h0), (1, .ref h1)]) hx hb d_Box_placed_9 rfl hl (by decide) rfl (fun ls hl => ?_)
  refine lv_iconst (v := 0) hx hb d_Box_placed_10 (by decide) ?_
  refine lv_istore (lv' := [(4, .int 0), (3, .int 0), (2, .ref q), (0, .ref h0), (1, .ref h1)]) hx hb d_Box_placed_11 hl (by decide) rfl (fun ls hl => ?_)
  refine lv_iconst (v := 0) hx hb d_Box_placed_13 (by decide) ?_
  refine lv_istore (lv' := [(5, .int 0), (4, .int 0), (3, .int 0), (2, .ref q), (0, .ref h0), (1, .ref h1)]) hx hb d_Box_placed_14 hl (by decide) rfl (fun ls hl => ?_)
  have key : ∀ (j i arr cap : Nat) (pel : Nat → Nat) (H : Heap) (locs : List Loc) (ls : Array Slot), i + j = n → kE (fun _ => False) s.heap H → kALx g q arr cap i pel H → (0 < cap → s.heap.size ≤ arr) → (∀ k, k < i → s.heap.size ≤ pel k ∧ va_at g.1 kcl (pel k, .inr (9, [.ref (el k), .int (s_pl its f0 f1 f2 f3 k), .int (s_len its f0 f1 f2 f3 k)])) H) → (∀ x ∈ locs, A x.base) → lv_has ls 9 [(5, .int (nI i)), (4, .int (s_bef its f1 f2 i)), (3, .int (s_pl its f0 f1 f2 f3 i)), (2, .ref q), (1, .ref h1), (0, .ref h0)] → W p l e (headSpec (kW y_Box_placed b_Box_placed 9 (.some (.object "java/util/ArrayList"))) { frames := 7, cells := 100, slots := 5000, locals := 171 }).room s m #[Value.ref h0, Value.ref h1] below meth c H locs (1 + 2 * i) (3 + 103 * i) (MQ below (kQc (fun v H1 => ∃ (q arr cap : Nat) (pel : Nat → Nat), v = some (.ref q) ∧ s.heap.size ≤ q ∧ kE (fun _ => False) s.heap H1 ∧ kALx g q arr cap n pel H1 ∧ (0 < cap → s.heap.size ≤ arr) ∧ ∀ k, k < n → s.heap.size ≤ pel k ∧ va_at g.1 kcl (pel k, .inr (9, [.ref (el k), .int (s_pl its f0 f1 f2 f3 k), .int (s_len its f0 f1 f2 f3 k)])) H1)) #[Value.ref h0, Value.ref h1] s 100 5000 A) (F0 m 16 ls []) := by
    intro j
    induction j with
    | zero =>
      intro i arr cap pel H locs ls hij hE al harr hpl hL hl
      have oH := o.ext hE
      have hiH := fun k hk => (hi k hk).ext hE
      have foH := hE.at fo id
      refine lv_iload hx hb d_Box_placed_16 (lv_at hl 0 rfl) ?_
      refine lv_aload_n hx hb d_Box_placed_18 rfl (lv_at hl 5 rfl) ?_
      refine k_pure (r := .int (nI n)) (W.runV (As := []) (rest := [.int (nI i)]) ⟨hx, hb, hml, hown, hts⟩ (c_AL_size l g H h0 n el oH) (cwV 0 hts (kV_good kw_76 kw_361 kw_74 kw_75 kw_4) rfl rfl rfl (by decide +kernel) ⟨Nat.le_of_ble_eq_true rfl, Nat.le_of_ble_eq_true rfl⟩) (k_preV (KK_st g) hKK (oH.recv hK)) rfl rfl hl.1 rfl (lv_room (Nat.le_of_ble_eq_true rfl)) d_Box_placed_19 ⟨(by show _ ≤ 100; omega), (by show _ ≤ 5000; omega)⟩) ?_
      refine lv_icmp_ge (tgt := 95) hx hb d_Box_placed_22 (by decide) (fun c_1 => ?_) (fun c_1 => ?_)
      rotate_left
      · exact absurd c_1 (fun q => q (by rw [show i = n by omega]; exact Int32.le_refl _))
      refine lv_aload_n hx hb d_Box_placed_95 rfl (lv_at hl 3 rfl) ?_
      refine W.widen (k := 100) (n := 5000) (by omega) (by omega) ?_
      have ein : i = n := by omega
      subst ein
      exact W.aret (v := .ref q) hx hb hr (Or.inl ⟨_, rfl⟩) (Or.inr ⟨_, rfl⟩) (fun t ht hW => ⟨_, rfl, q, arr, cap, pel, rfl, hq, by rw [ht]; exact hE, by rw [ht]; exact al, harr, by rw [ht]; exact hpl⟩) hL d_Box_placed_96
    | succ j ih =>
      intro i arr cap pel H locs ls hij hE al harr hpl hL hl
      have oH := o.ext hE
      have hiH := fun k hk => (hi k hk).ext hE
      have foH := hE.at fo id
      refine lv_iload hx hb d_Box_placed_16 (lv_at hl 0 rfl) ?_
      refine lv_aload_n hx hb d_Box_placed_18 rfl (lv_at hl 5 rfl) ?_
      refine k_pure (r := .int (nI n)) (W.runV (As := []) (rest := [.int (nI i)]) ⟨hx, hb, hml, hown, hts⟩ (c_AL_size l g H h0 n el oH) (cwV 0 hts (kV_good kw_76 kw_361 kw_74 kw_75 kw_4) rfl rfl rfl (by decide +kernel) ⟨Nat.le_of_ble_eq_true rfl, Nat.le_of_ble_eq_true rfl⟩) (k_preV (KK_st g) hKK (oH.recv hK)) rfl rfl hl.1 rfl (lv_room (Nat.le_of_ble_eq_true rfl)) d_Box_placed_19 ⟨(by show _ ≤ 100; omega), (by show _ ≤ 5000; omega)⟩) ?_
      refine lv_icmp_ge (tgt := 95) hx hb d_Box_placed_22 (by decide) (fun c_2 => ?_) (fun c_2 => ?_)
      · exact absurd c_2 (nI_ge (by omega) (by omega))
      refine lv_aload_n hx hb d_Box_placed_25 rfl (lv_at hl 5 rfl) ?_
      refine lv_iload hx hb d_Box_placed_26 (lv_at hl 0 rfl) ?_
      refine k_pure (r := .ref (el i)) (W.runV (As := [.int (nI i)]) (rest := []) ⟨hx, hb, hml, hown, hts⟩ (c_AL_get l g H h0 n el i (by omega) oH) (cwV 1 hts (kV_good kw_207 kw_362 kw_205 kw_206 kw_4) rfl rfl rfl (by decide +kernel) ⟨Nat.le_of_ble_eq_true rfl, Nat.le_of_ble_eq_true rfl⟩) (k_preV (KK_st g) hKK (oH.recv hK)) rfl rfl hl.1 rfl (lv_room (Nat.le_of_ble_eq_true rfl)) d_Box_placed_28 ⟨(by show _ ≤ 100; omega), (by show _ ≤ 5000; omega)⟩) ?_
      refine v_cast hx hb hown hts hKK kw_363 (hiH i (by omega)) d_Box_placed_31 ?_
      refine lv_astore (lv' := [(6, .ref (el i)), (5, .int (nI i)), (4, .int (s_bef its f1 f2 i)), (3, .int (s_pl its f0 f1 f2 f3 i)), (2, .ref q), (1, .ref h1), (0, .ref h0)]) hx hb d_Box_placed_34 hl (by decide) rfl (fun ls hl => ?_)
      refine lv_iload hx hb d_Box_placed_36 (lv_at hl 2 rfl) ?_
      refine lv_aload_n hx hb d_Box_placed_38 rfl (lv_at hl 5 rfl) ?_
      refine lv_aload hx hb d_Box_placed_39 (lv_at hl 0 rfl) ?_
      refine k_pure (r := .int (t_giv (its i) f1 f2)) (W.runV (As := [.ref (el i)]) (rest := [.int (s_bef its f1 f2 i)]) ⟨hx, hb, hml, hown, hts⟩ (c_Fit_givingOf l g H I h1 (el i) (its i) f0 f1 f2 f3 foH (hiH i (by omega))) (cwV 1 hts (kV_good kw_418 kw_415 kw_416 kw_417 kw_7) rfl rfl rfl (by decide +kernel) ⟨Nat.le_of_ble_eq_true rfl, Nat.le_of_ble_eq_true rfl⟩) (k_preV (KK_st g) hKK (va_recv hK (k_one foH) (ci := 3) (q0 := 0) rfl rfl)) rfl rfl hl.1 rfl (lv_room (Nat.le_of_ble_eq_true rfl)) d_Box_placed_41 ⟨(by show _ ≤ 100; omega), (by show _ ≤ 5000; omega)⟩) ?_
      refine lv_iadd hx hb d_Box_placed_44 ?_
      refine W.eq (g2 := F0 m 45 ls [.int (s_bef its f1 f2 (i + 1))]) rfl ?_
      refine lv_istore (lv' := [(7, .int (s_bef its f1 f2 (i + 1))), (6, .ref (el i)), (5, .int (nI i)), (4, .int (s_bef its f1 f2 i)), (3, .int (s_pl its f0 f1 f2 f3 i)), (2, .ref q), (1, .ref h1), (0, .ref h0)]) hx hb d_Box_placed_45 hl (by decide) rfl (fun ls hl => ?_)
      refine lv_aload hx hb d_Box_placed_47 (lv_at hl 1 rfl) ?_
      refine v_own hx hb hown hts hKK kw_234 (hiH i (by omega)) d_Box_placed_49 ?_
      refine lv_aload_n hx hb d_Box_placed_52 rfl (lv_at hl 6 rfl) ?_
      refine lv_iload hx hb d_Box_placed_53 (lv_at hl 3 rfl) ?_
      refine lv_iload hx hb d_Box_placed_55 (lv_at hl 0 rfl) ?_
      refine k_pure (r := .int (f_Fit_change f0 f1 f2 f3 (s_bef its f1 f2 i) (s_bef its f1 f2 (i + 1)))) (W.runV (As := [.int (s_bef its f1 f2 i), .int (s_bef its f1 f2 (i + 1))]) (rest := [.int (its i 1)]) ⟨hx, hb, hml, hown, hts⟩ (c_Fit_change l g H h1 f0 f1 f2 f3 (s_bef its f1 f2 i) (s_bef its f1 f2 (i + 1)) foH) (cwV 2 hts (kV_good kw_422 kw_419 kw_420 kw_421 kw_7) rfl rfl rfl (by decide +kernel) ⟨Nat.le_of_ble_eq_true rfl, Nat.le_of_ble_eq_true rfl⟩) (k_preV (KK_st g) hKK (va_recv hK (k_one foH) (ci := 3) (q0 := 0) rfl rfl)) rfl rfl hl.1 rfl (lv_room (Nat.le_of_ble_eq_true rfl)) d_Box_placed_57 ⟨(by show _ ≤ 100; omega), (by show _ ≤ 5000; omega)⟩) ?_
      refine lv_iadd hx hb d_Box_placed_60 ?_
      refine W.eq (g2 := F0 m 61 ls [.int (s_len its f0 f1 f2 f3 i)]) rfl ?_
      refine lv_istore (lv' := [(8, .int (s_len its f0 f1 f2 f3 i)), (7, .int (s_bef its f1 f2 (i + 1))), (6, .ref (el i)), (5, .int (nI i)), (4, .int (s_bef its f1 f2 i)), (3, .int (s_pl its f0 f1 f2 f3 i)), (2, .ref q), (1, .ref h1), (0, .ref h0)]) hx hb d_Box_placed_61 hl (by decide) rfl (fun ls hl => ?_)
      refine lv_aload_n hx hb d_Box_placed_63 rfl (lv_at hl 6 rfl) ?_
      refine k_new (D := g.1) (ci := 9) (fs := [.null, .int 0, .int 0]) (C := "BoxGlue$Placed") (T := kT_Placed) (N := 3) hx hb hts ki_Placed kt_Placed ko_Placed hown (hts _ kw_432) (hts _ kw_433) (hts _ kw_20) hK rfl (fun j hj => by rcases (show j = 0 ∨ j = 1 ∨ j = 2 by omega) with rfl | rfl | rfl <;> rfl) (by show _ ≤ 100; omega) (by show _ ≤ 5000; omega) d_Box_placed_64 (fun pq H1 e_pq p1 hN => ?_)
      refine lv_dup hx hb d_Box_placed_67 rfl ?_
      refine lv_aload hx hb d_Box_placed_68 (lv_at hl 2 rfl) ?_
      refine lv_iload_n hx hb d_Box_placed_70 rfl (lv_at hl 5 rfl) ?_
      refine lv_iload hx hb d_Box_placed_71 (lv_at hl 0 rfl) ?_
      refine k_call (A := A) (W.runI (As := [.ref (el i), .int (s_pl its f0 f1 f2 f3 i), .int (s_len its f0 f1 f2 f3 i)]) (rest := [.ref pq, .ref q]) ⟨hx, hb, hml, hown, hts⟩ (c_Placed_init l g H1 pq (el i) (s_pl its f0 f1 f2 f3 i) (s_len its f0 f1 f2 f3 i) p1) (cwI 3 hts (kW_good kw_436) rfl rfl rfl (hts _ kw_20) (hts _ kw_434) (hts _ kw_435) rfl (by decide +kernel) ⟨Nat.le_of_ble_eq_true rfl, Nat.le_of_ble_eq_true rfl⟩) (k_pre (KK_st g) hKK) rfl rfl hl.1 rfl (lv_room (Nat.le_of_ble_eq_true rfl)) d_Box_placed_73 ⟨by show _ ≤ 100; omega, by show _ ≤ 5000; omega⟩) hL (fun z h => by rw [← hAe]; rcases h with h | h; rw [h, e_pq]; exact hE.1; exact Nat.le_trans (Nat.le_trans hE.1 hN.1) h) (fun v H2 locs hv hL => ?_)
      obtain ⟨rfl, hE2, o2⟩ := hv
      have hF : kE (fun _ => False) H H2 := hN.tr hE2 (fun z hz h => by omega)
      have al2 := al.ext hF id (fun _ => id)
      have hE02 : kE (fun _ => False) s.heap H2 := hE.tr hF (fun _ _ h => h)
      refine k_call (A := A) (W.runV (As := [.ref pq]) (rest := []) ⟨hx, hb, hml, hown, hts⟩ (c_AL_add l g H2 q arr cap i pq pel (hB.tr hE02 (fun _ _ h => h)) al2 (Nat.le_trans hB.1 hq) (by omega) (fun k hk => ⟨9, _, hF.at (hpl k hk).2 id, by omega⟩) ⟨9, _, o2, by omega⟩) (cwV 1 hts (kV_good kw_135 kw_449 kw_133 kw_134 kw_4) rfl rfl rfl (by decide +kernel) ⟨Nat.le_of_ble_eq_true rfl, Nat.le_of_ble_eq_true rfl⟩) (k_preV (KK_st g) hKK (kAL.recv ⟨_, _, al2⟩ hK)) rfl rfl hl.1 rfl (lv_room (Nat.le_of_ble_eq_true rfl)) d_Box_placed_76 ⟨by show _ ≤ 100; omega, by show _ ≤ 5000; omega⟩) hL (fun z h => by rw [← hAe]; rcases h with h | h | h; rw [h]; exact hq; rw [h.1]; exact harr h.2; exact Nat.le_trans hE02.1 h) (fun v H3 locs hv hL => ?_)
      obtain ⟨rfl, arr2, cap2, hE3, h4, al3⟩ := hv
      have hE03 : kE (fun _ => False) s.heap H3 := hE02.tr hE3 (fun z hz h => by rcases h with h | h; omega; have h5 := harr h.2; omega)
      have harr2 : 0 < cap2 → s.heap.size ≤ arr2 := by
        intro h
        rcases h4 with ⟨e1, e2⟩ | h4
        · rw [e1]; exact harr (by omega)
        · exact Nat.le_trans hE02.1 h4
      have hpl3 : ∀ k, k < i + 1 → s.heap.size ≤ va_up pel i pq k ∧ va_at g.1 kcl (va_up pel i pq k, .inr (9, [.ref (el k), .int (s_pl its f0 f1 f2 f3 k), .int (s_len its f0 f1 f2 f3 k)])) H3 := by
        intro k hk
        by_cases e : k = i
        · subst e
          rw [va_up_self]
          exact ⟨by rw [e_pq]; exact hE.1, hE3.at o2 (al2.apart hK ⟨9, _, o2, by omega⟩)⟩
        · rw [va_up_ne _ _ e]
          have h6 := hpl k (by omega)
          exact ⟨h6.1, hE3.at (hF.at h6.2 id) (al2.apart hK ⟨9, _, hF.at h6.2 id, by omega⟩)⟩
      refine lv_pop hx hb d_Box_placed_79 rfl ?_
      refine lv_iload_n hx hb d_Box_placed_80 rfl (lv_at hl 5 rfl) ?_
      refine lv_iload hx hb d_Box_placed_81 (lv_at hl 0 rfl) ?_
      refine lv_iadd hx hb d_Box_placed_83 ?_
      refine W.eq (g2 := F0 m 84 ls [.int (s_pl its f0 f1 f2 f3 (i + 1))]) rfl ?_
      refine lv_istore_n (lv' := [(3, .int (s_pl its f0 f1 f2 f3 (i + 1))), (8, .int (s_len its f0 f1 f2 f3 i)), (7, .int (s_bef its f1 f2 (i + 1))), (6, .ref (el i)), (5, .int (nI i)), (4, .int (s_bef its f1 f2 i)), (2, .ref q), (1, .ref h1), (0, .ref h0)]) hx hb d_Box_placed_84 rfl hl (by decide) rfl (fun ls hl => ?_)
      refine lv_iload hx hb d_Box_placed_85 (lv_at hl 2 rfl) ?_
      refine lv_istore (lv' := [(4, .int (s_bef its f1 f2 (i + 1))), (3, .int (s_pl its f0 f1 f2 f3 (i + 1))), (8, .int (s_len its f0 f1 f2 f3 i)), (7, .int (s_bef its f1 f2 (i + 1))), (6, .ref (el i)), (5, .int (nI i)), (2, .ref q), (1, .ref h1), (0, .ref h0)]) hx hb d_Box_placed_87 hl (by decide) rfl (fun ls hl => ?_)
      refine lv_iinc (v := nI (i + 1)) (lv' := [(5, .int (nI (i + 1))), (4, .int (s_bef its f1 f2 (i + 1))), (3, .int (s_pl its f0 f1 f2 f3 (i + 1))), (8, .int (s_len its f0 f1 f2 f3 i)), (7, .int (s_bef its f1 f2 (i + 1))), (6, .ref (el i)), (2, .ref q), (1, .ref h1), (0, .ref h0)]) hx hb d_Box_placed_89 hl (k := 5) rfl (nI_1 i) (by decide) rfl (fun ls hl => ?_)
      refine lv_goto (tgt := 16) hx hb d_Box_placed_92 (by decide) ?_
      refine W.widen (k := 1 + 2 * (i + 1)) (n := 3 + 103 * (i + 1)) (by omega) (by omega) ?_
      exact ih (i + 1) arr2 cap2 (va_up pel i pq) H3 locs ls (by omega) hE03 al3 harr2 hpl3 hL (lv_sub hl [0, 1, 2, 6, 7, 8] rfl)
  exact key n 0 g.2.2.2.1 0 (fun _ => 0) H locs ls (by omega) hE al (fun h => absurd h (by omega)) (fun k hk => absurd hk (by omega)) hL (lv_sub hl [0, 1, 2, 3, 5, 4] rfl)
def m_h (its : Nat → Nat → Int32) : Nat → Int32
  | 0 => 0
  | k + 1 => if m_h its k < i_height (its k) 0 then i_height (its k) 0 else m_h its k
def m_d (its : Nat → Nat → Int32) : Nat → Int32
  | 0 => 0
  | k + 1 => if m_d its k < i_depth (its k) 0 then i_depth (its k) 0 else m_d its k
set_option maxHeartbeats 4000000 in
set_option maxRecDepth 100000 in
theorem c_Box_packed (l : Launch) (g : KGt) (H0 : Heap) (I : Nat → Prop) (h0 n : Nat) (el : Nat → Nat) (its : Nat → Nat → Int32) (len : Int32) (hB : kB g H0) (hn : n ≤ 40) (o : kAL g h0 n el H0) (hi : ∀ i, i < n → kItem g I (el i) (its i) H0) : Met l y_Box_packed (kW y_Box_packed b_Box_packed 5 (.some (.object "BoxGlue$Box"))) ({ frames := 8, cells := 102, slots := 5009, locals := 199 }) (kPc [.ref h0, .int len] (KK g) H0) (kQc (fun v H1 => ∃ (bq fq cq arr cap : Nat) (pel : Nat → Nat), v = some (.ref bq) ∧ H0.size ≤ bq ∧ H0.size ≤ fq ∧ H0.size ≤ cq ∧ (0 < cap → H0.size ≤ arr) ∧ kE (fun _ => False) H0 H1 ∧ va_at g.1 kcl (bq, .inr (2, [.int len, .int (m_h its n), .int (m_d its n), .ref cq, .ref fq])) H1 ∧ va_at g.1 kcl (fq, .inr (3, [.int (l_len its n), .int (t_ord its n (len - (l_len its n))), .int (len - (l_len its n)), .int (t_sum its n (len - (l_len its n)))])) H1 ∧ kALx g cq arr cap n pel H1 ∧ ∀ k, k < n → H0.size ≤ pel k ∧ va_at g.1 kcl (pel k, .inr (9, [.ref (el k), .int (s_pl its (l_len its n) (t_ord its n (len - (l_len its n))) (len - (l_len its n)) (t_sum its n (len - (l_len its n))) k), .int (s_len its (l_len its n) (t_ord its n (len - (l_len its n))) (len - (l_len its n)) (t_sum its n (len - (l_len its n))) k)])) H1)) 102 5009 (fun q : Nat => H0.size ≤ q) := by
  refine Met.ofW (cc := b_Box_packed) (maxL := 5) (ret := (.some (.object "BoxGlue$Box"))) (by decide) rfl ?_
  intro p e s m args below meth c s₁ B hml hv
  obtain ⟨rfl, hH, hKK⟩ := hv
  have hx := B.exec
  have hb := B.bytes
  have hr := B.returns
  have hts := kW_ts (atoms_spec (ws := kW y_Box_packed b_Box_packed 5 (.some (.object "BoxGlue$Box"))) B.pre)
  have hown : s.vm.findClass "BoxGlue$Box" = some m.cls := findClass_of_methodNamed B.named
  have hlocks := B.notSynchronized
  have hK := hKK.1
  subst hH
  have hl := lv_entry ([.ref h0, .int len]) (n := 5) (Nat.le_of_ble_eq_true rfl)
  rw [lg_entry_eq]
  generalize (lg_sl ([.ref h0, .int len]) ++ List.replicate (5 - (lg_sl ([.ref h0, .int len])).length) Slot.unset).toArray = ls at hl ⊢
  have hl : lv_has ls 5 [(0, .ref h0), (1, .int len)] := hl
  generalize hAe : (fun q : Nat => s.heap.size ≤ q) = A
  have hA : ∀ q : Nat, s.heap.size ≤ q → A q := fun q h => by rw [← hAe]; exact h
  refine lv_iconst (v := 0) hx hb d_Box_packed_0 (by decide) ?_
  refine lv_istore_n (lv' := [(2, .int 0), (0, .ref h0), (1, .int len)]) hx hb d_Box_packed_1 rfl hl (by decide) rfl (fun ls hl => ?_)
  refine lv_iconst (v := 0) hx hb d_Box_packed_2 (by decide) ?_
  refine lv_istore_n (lv' := [(3, .int 0), (2, .int 0), (0, .ref h0), (1, .int len)]) hx hb d_Box_packed_3 rfl hl (by decide) rfl (fun ls hl => ?_)
  refine lv_iconst (v := 0) hx hb d_Box_packed_4 (by decide) ?_
  refine lv_istore (lv' := [(4, .int 0), (3, .int 0), (2, .int 0), (0, .ref h0), (1, .int len)]) hx hb d_Box_packed_5 hl (by decide) rfl (fun ls hl => ?_)
  have key : ∀ (j i : Nat) (ls : Array Slot), i + j = n → lv_has ls 5 [(4, .int (nI i)), (3, .int (m_d its i)), (2, .int (m_h its i)), (1, .int len), (0, .ref h0)] → W p l e (headSpec (kW y_Box_packed b_Box_packed 5 (.some (.object "BoxGlue$Box"))) { frames := 8, cells := 102, slots := 5009, locals := 199 }).room s m #[Value.ref h0, Value.int len] below meth c s.heap [] 0 0 (MQ below (kQc (fun v H1 => ∃ (bq fq cq arr cap : Nat) (pel : Nat → Nat), v = some (.ref bq) ∧ s.heap.size ≤ bq ∧ s.heap.size ≤ fq ∧ s.heap.size ≤ cq ∧ (0 < cap → s.heap.size ≤ arr) ∧ kE (fun _ => False) s.heap H1 ∧ va_at g.1 kcl (bq, .inr (2, [.int len, .int (m_h its n), .int (m_d its n), .ref cq, .ref fq])) H1 ∧ va_at g.1 kcl (fq, .inr (3, [.int (l_len its n), .int (t_ord its n (len - (l_len its n))), .int (len - (l_len its n)), .int (t_sum its n (len - (l_len its n)))])) H1 ∧ kALx g cq arr cap n pel H1 ∧ ∀ k, k < n → s.heap.size ≤ pel k ∧ va_at g.1 kcl (pel k, .inr (9, [.ref (el k), .int (s_pl its (l_len its n) (t_ord its n (len - (l_len its n))) (len - (l_len its n)) (t_sum its n (len - (l_len its n))) k), .int (s_len its (l_len its n) (t_ord its n (len - (l_len its n))) (len - (l_len its n)) (t_sum its n (len - (l_len its n))) k)])) H1)) #[Value.ref h0, Value.int len] s 102 5009 A) (F0 m 7 ls []) := by
    intro j
    induction j with
    | zero =>
      intro i ls hij hl
      have ein : i = n := by omega
      rw [ein] at hl
      refine lv_iload hx hb d_Box_packed_7 (lv_at hl 0 rfl) ?_
      refine lv_aload_n hx hb d_Box_packed_9 rfl (lv_at hl 4 rfl) ?_
      refine k_pure (r := .int (nI n)) (W.runV (As := []) (rest := [.int (nI n)]) ⟨hx, hb, hml, hown, hts⟩ (c_AL_size l g s.heap h0 n el o) (cwV 0 hts (kV_good kw_76 kw_361 kw_74 kw_75 kw_4) rfl rfl rfl (by decide +kernel) ⟨Nat.le_of_ble_eq_true rfl, Nat.le_of_ble_eq_true rfl⟩) (k_preV (KK_st g) hKK (o.recv hK)) rfl rfl hl.1 rfl (lv_room (Nat.le_of_ble_eq_true rfl)) d_Box_packed_10 ⟨Nat.zero_le _, Nat.zero_le _⟩) ?_
      refine lv_icmp_ge (tgt := 58) hx hb d_Box_packed_13 (by decide) (fun c_1 => ?_) (fun c_1 => ?_)
      rotate_left
      · exact absurd c_1 (fun q => q (Int32.le_refl _))
      refine lv_aload_n hx hb d_Box_packed_58 rfl (lv_at hl 4 rfl) ?_
      refine lv_iload_n hx hb d_Box_packed_59 rfl (lv_at hl 3 rfl) ?_
      refine k_call (A := A) (W.runS (As := [.ref h0, .int len]) (rest := []) ⟨hx, hb, hml, hown, hts⟩ (c_Fit_of l g s.heap I h0 n el its o hi len) (va_cwS 2 hts (kS_good kw_392 kw_390 kw_391 kw_7) rfl rfl rfl (by decide +kernel) ⟨Nat.le_of_ble_eq_true rfl, Nat.le_of_ble_eq_true rfl⟩) (k_pre (KK_st g) hKK) rfl rfl hl.1 rfl (lv_room (Nat.le_of_ble_eq_true rfl)) d_Box_packed_60 ⟨by show _ ≤ 102; omega, by show _ ≤ 5009; omega⟩) (fun _ h => by cases h) (fun z h => by rw [← hAe]; exact h) (fun v H locs hv hL => ?_)
      obtain ⟨fq, rfl, hfq, hE, fo⟩ := hv
      refine lv_astore (lv' := [(4, .ref fq), (3, .int (m_d its n)), (2, .int (m_h its n)), (1, .int len), (0, .ref h0)]) hx hb d_Box_packed_63 hl (by decide) rfl (fun ls hl => ?_)
      refine k_new (D := g.1) (ci := 2) (fs := [.int 0, .int 0, .int 0, .null, .null]) (C := "BoxGlue$Box") (T := kT_Box) (N := 5) hx hb hts ki_Box kt_Box ko_Box hown (hts _ kw_80) (hts _ kw_81) (hts _ kw_6) hK rfl (fun j hj => by rcases (show j = 0 ∨ j = 1 ∨ j = 2 ∨ j = 3 ∨ j = 4 by omega) with rfl | rfl | rfl | rfl | rfl <;> rfl) (by show _ ≤ 102; omega) (by show _ ≤ 5009; omega) d_Box_packed_65 (fun bq H1 e_bq p1 hN => ?_)
      have hbq : s.heap.size ≤ bq := by rw [e_bq]; exact hE.1
      have hE1 : kE (fun _ => False) s.heap H1 := hE.tr hN (fun _ _ h => h)
      have hb1 : bq < H1.size := p1.lt
      refine lv_dup hx hb d_Box_packed_68 rfl ?_
      refine lv_iload_n hx hb d_Box_packed_69 rfl (lv_at hl 3 rfl) ?_
      refine lv_iload_n hx hb d_Box_packed_70 rfl (lv_at hl 2 rfl) ?_
      refine lv_iload_n hx hb d_Box_packed_71 rfl (lv_at hl 1 rfl) ?_
      refine lv_aload hx hb d_Box_packed_72 (lv_at hl 0 rfl) ?_
      refine lv_aload_n hx hb d_Box_packed_74 rfl (lv_at hl 4 rfl) ?_
      refine lv_aload hx hb d_Box_packed_75 (lv_at hl 0 rfl) ?_
      refine k_call (A := A) (W.runS (As := [.ref h0, .ref fq]) (rest := [.ref fq, .int (m_d its n), .int (m_h its n), .int len, .ref bq, .ref bq]) ⟨hx, hb, hml, hown, hts⟩ (c_Box_placed l g H1 I h0 fq n el its (l_len its n) (t_ord its n (len - (l_len its n))) (len - (l_len its n)) (t_sum its n (len - (l_len its n))) (hB.tr hE1 (fun _ _ h => h)) hn (o.ext hE1) (fun i hn => (hi i hn).ext hE1) (hN.at fo id)) (va_cwS 2 hts (kS_good kw_414 kw_412 kw_413 kw_6) rfl rfl rfl (by decide +kernel) ⟨Nat.le_of_ble_eq_true rfl, Nat.le_of_ble_eq_true rfl⟩) (k_pre (KK_st g) hKK) rfl rfl hl.1 rfl (lv_room (Nat.le_of_ble_eq_true rfl)) d_Box_packed_77 ⟨by show _ ≤ 102; omega, by show _ ≤ 5009; omega⟩) hL (fun z h => by rw [← hAe]; exact Nat.le_trans hE1.1 h) (fun v H2 locs hv hL => ?_)
      obtain ⟨cq, arr, cap, pel, rfl, hcq, hE2, al, harr, hpl⟩ := hv
      refine k_call (A := A) (W.runI (As := [.int len, .int (m_h its n), .int (m_d its n), .ref fq, .ref cq]) (rest := [.ref bq]) ⟨hx, hb, hml, hown, hts⟩ (c_Box_init l g H2 bq len (m_h its n) (m_d its n) fq cq (hE2.at p1 id)) (cwI 5 hts (kW_good kw_107) rfl rfl rfl (hts _ kw_6) (hts _ kw_105) (hts _ kw_106) rfl (by decide +kernel) ⟨Nat.le_of_ble_eq_true rfl, Nat.le_of_ble_eq_true rfl⟩) (k_pre (KK_st g) hKK) rfl rfl hl.1 rfl (lv_room (Nat.le_of_ble_eq_true rfl)) d_Box_packed_80 ⟨by show _ ≤ 102; omega, by show _ ≤ 5009; omega⟩) hL (fun z h => by rw [← hAe]; rcases h with h | h; rw [h]; exact hbq; exact Nat.le_trans (Nat.le_trans hE1.1 hE2.1) h) (fun v H3 locs hv hL => ?_)
      obtain ⟨rfl, hE3, bo⟩ := hv
      have hE03 : kE (fun _ => False) s.heap H3 := (hE1.tr hE2 (fun _ _ h => h)).tr hE3 (fun z hz h => by omega)
      have hfl : fq < H.size := fo.lt
      have fo3 := hE3.at (hE2.at (hN.at fo id) id) (by show ¬ fq = bq; omega)
      have al3 := al.ext hE3 (by omega) (fun h => by have h5 := harr h; omega)
      have hpl3 := fun k hk => (⟨Nat.le_trans hE1.1 (hpl k hk).1, hE3.at (hpl k hk).2 (by have h5 := (hpl k hk).1; show ¬ pel k = bq; omega)⟩ : s.heap.size ≤ pel k ∧ va_at g.1 kcl (pel k, .inr (9, [.ref (el k), .int (s_pl its (l_len its n) (t_ord its n (len - (l_len its n))) (len - (l_len its n)) (t_sum its n (len - (l_len its n))) k), .int (s_len its (l_len its n) (t_ord its n (len - (l_len its n))) (len - (l_len its n)) (t_sum its n (len - (l_len its n))) k)])) H3)
      exact W.aret (v := .ref bq) hx hb hr (Or.inl ⟨_, rfl⟩) (Or.inr ⟨_, rfl⟩) (fun t ht hW => ⟨_, rfl, bq, fq, cq, arr, cap, pel, rfl, hbq, hfq, Nat.le_trans hE1.1 hcq, fun h => Nat.le_trans hE1.1 (harr h), by rw [ht]; exact hE03, by rw [ht]; exact bo, by rw [ht]; exact fo3, by rw [ht]; exact al3, by rw [ht]; exact hpl3⟩) hL d_Box_packed_83
    | succ j ih =>
      intro i ls hij hl
      refine lv_iload hx hb d_Box_packed_7 (lv_at hl 0 rfl) ?_
      refine lv_aload_n hx hb d_Box_packed_9 rfl (lv_at hl 4 rfl) ?_
      refine k_pure (r := .int (nI n)) (W.runV (As := []) (rest := [.int (nI i)]) ⟨hx, hb, hml, hown, hts⟩ (c_AL_size l g s.heap h0 n el o) (cwV 0 hts (kV_good kw_76 kw_361 kw_74 kw_75 kw_4) rfl rfl rfl (by decide +kernel) ⟨Nat.le_of_ble_eq_true rfl, Nat.le_of_ble_eq_true rfl⟩) (k_preV (KK_st g) hKK (o.recv hK)) rfl rfl hl.1 rfl (lv_room (Nat.le_of_ble_eq_true rfl)) d_Box_packed_10 ⟨Nat.zero_le _, Nat.zero_le _⟩) ?_
      refine lv_icmp_ge (tgt := 58) hx hb d_Box_packed_13 (by decide) (fun c_2 => ?_) (fun c_2 => ?_)
      · exact absurd c_2 (nI_ge (by omega) (by omega))
      refine lv_iload_n hx hb d_Box_packed_16 rfl (lv_at hl 2 rfl) ?_
      refine lv_aload_n hx hb d_Box_packed_17 rfl (lv_at hl 4 rfl) ?_
      refine lv_iload hx hb d_Box_packed_18 (lv_at hl 0 rfl) ?_
      refine k_pure (r := .ref (el i)) (W.runV (As := [.int (nI i)]) (rest := [.int (m_h its i)]) ⟨hx, hb, hml, hown, hts⟩ (c_AL_get l g s.heap h0 n el i (by omega) o) (cwV 1 hts (kV_good kw_207 kw_362 kw_205 kw_206 kw_4) rfl rfl rfl (by decide +kernel) ⟨Nat.le_of_ble_eq_true rfl, Nat.le_of_ble_eq_true rfl⟩) (k_preV (KK_st g) hKK (o.recv hK)) rfl rfl hl.1 rfl (lv_room (Nat.le_of_ble_eq_true rfl)) d_Box_packed_20 ⟨Nat.zero_le _, Nat.zero_le _⟩) ?_
      refine v_cast hx hb hown hts hKK kw_363 (hi i (by omega)) d_Box_packed_23 ?_
      refine lv_iconst (v := 0) hx hb d_Box_packed_26 (by decide) ?_
      refine v_heightWhere hx hb hml hown hts hKK kw_364 (hi i (by omega)) hl.1 (Nat.le_of_ble_eq_true rfl) (Nat.le_of_ble_eq_true rfl) (Nat.le_of_ble_eq_true rfl) (Nat.zero_le _) (Nat.zero_le _) d_Box_packed_27 ?_
      refine va_mmax (x := (m_h its i)) (y := (i_height (its i) 0)) hx hb (hml.trans hl.1.symm) hown (hts _ kw_377) (hts _ kw_152) (hts _ kw_9) (hts _ kw_153) (Nat.le_of_ble_eq_true rfl) (Nat.le_of_ble_eq_true rfl) (Nat.zero_le _) (Nat.zero_le _) d_Box_packed_30 ?_
      refine W.eq (g2 := F0 m 33 ls [.int (m_h its (i + 1))]) rfl ?_
      refine lv_istore_n (lv' := [(2, .int (m_h its (i + 1))), (4, .int (nI i)), (3, .int (m_d its i)), (1, .int len), (0, .ref h0)]) hx hb d_Box_packed_33 rfl hl (by decide) rfl (fun ls hl => ?_)
      refine lv_iload_n hx hb d_Box_packed_34 rfl (lv_at hl 2 rfl) ?_
      refine lv_aload_n hx hb d_Box_packed_35 rfl (lv_at hl 4 rfl) ?_
      refine lv_iload hx hb d_Box_packed_36 (lv_at hl 1 rfl) ?_
      refine k_pure (r := .ref (el i)) (W.runV (As := [.int (nI i)]) (rest := [.int (m_d its i)]) ⟨hx, hb, hml, hown, hts⟩ (c_AL_get l g s.heap h0 n el i (by omega) o) (cwV 1 hts (kV_good kw_207 kw_362 kw_205 kw_206 kw_4) rfl rfl rfl (by decide +kernel) ⟨Nat.le_of_ble_eq_true rfl, Nat.le_of_ble_eq_true rfl⟩) (k_preV (KK_st g) hKK (o.recv hK)) rfl rfl hl.1 rfl (lv_room (Nat.le_of_ble_eq_true rfl)) d_Box_packed_38 ⟨Nat.zero_le _, Nat.zero_le _⟩) ?_
      refine v_cast hx hb hown hts hKK kw_363 (hi i (by omega)) d_Box_packed_41 ?_
      refine lv_iconst (v := 0) hx hb d_Box_packed_44 (by decide) ?_
      refine v_depthWhere hx hb hml hown hts hKK kw_378 (hi i (by omega)) hl.1 (Nat.le_of_ble_eq_true rfl) (Nat.le_of_ble_eq_true rfl) (Nat.le_of_ble_eq_true rfl) (Nat.zero_le _) (Nat.zero_le _) d_Box_packed_45 ?_
      refine va_mmax (x := (m_d its i)) (y := (i_depth (its i) 0)) hx hb (hml.trans hl.1.symm) hown (hts _ kw_377) (hts _ kw_152) (hts _ kw_9) (hts _ kw_153) (Nat.le_of_ble_eq_true rfl) (Nat.le_of_ble_eq_true rfl) (Nat.zero_le _) (Nat.zero_le _) d_Box_packed_48 ?_
      refine W.eq (g2 := F0 m 51 ls [.int (m_d its (i + 1))]) rfl ?_
      refine lv_istore_n (lv' := [(3, .int (m_d its (i + 1))), (2, .int (m_h its (i + 1))), (4, .int (nI i)), (1, .int len), (0, .ref h0)]) hx hb d_Box_packed_51 rfl hl (by decide) rfl (fun ls hl => ?_)
      refine lv_iinc (v := nI (i + 1)) (lv' := [(4, .int (nI (i + 1))), (3, .int (m_d its (i + 1))), (2, .int (m_h its (i + 1))), (1, .int len), (0, .ref h0)]) hx hb d_Box_packed_52 hl (k := 2) rfl (nI_1 i) (by decide) rfl (fun ls hl => ?_)
      refine lv_goto (tgt := 7) hx hb d_Box_packed_55 (by decide) ?_
      exact ih (i + 1) ls (by omega) (lv_sub (l := [(4, .int (nI (i + 1))), (3, .int (m_d its (i + 1))), (2, .int (m_h its (i + 1))), (1, .int len), (0, .ref h0)]) hl [0, 1, 2, 3, 4] rfl)
  exact key n 0 ls (by omega) (lv_sub hl [0, 1, 2, 4, 3] rfl)
end
section
/-! BoxGlue: its state -/
/-- a box: 0 length, 1 height, 2 depth, 3 own length, 4 order, 5 missing, 6 sum; how many items; the items; places; lengths -/
abbrev BxT : Type := (Nat → Int32) × Nat × (Nat → Nat → Int32) × (Nat → Int32) × (Nat → Int32)
def kBox (g : KGt) (I : Nat → Prop) (a : Nat) (b : BxT) (H : Heap) : Prop := I a ∧ ∃ (ca fa arr cap : Nat) (pel : Nat → Nat), va_at g.1 kcl (a, .inr (2, [.int (b.1 0), .int (b.1 1), .int (b.1 2), .ref ca, .ref fa])) H ∧ I fa ∧ va_at g.1 kcl (fa, .inr (3, [.int (b.1 3), .int (b.1 4), .int (b.1 5), .int (b.1 6)])) H ∧ I ca ∧ (0 < cap → I arr) ∧ kALx g ca arr cap b.2.1 pel H ∧
  ∀ i, i < b.2.1 → I (pel i) ∧ ∃ ia : Nat, va_at g.1 kcl (pel i, .inr (9, [.ref ia, .int (b.2.2.2.1 i), .int (b.2.2.2.2 i)])) H ∧ kItem g I ia (b.2.2.1 i) H
theorem kALx.kept {g : KGt} {la arr cap n : Nat} {el : Nat → Nat} {H H1 : Heap} (h : kALx g la arr cap n el H) (h1 : la < H.size → H1[la]? = H[la]?) (h2 : 0 < cap → arr < H.size → H1[arr]? = H[arr]?) : kALx g la arr cap n el H1 := by
  obtain ⟨mo, w1, w2 | ⟨f, w2, w3, w4, w5⟩⟩ := h
  · exact ⟨mo, w1.kept (h1 w1.lt), Or.inl w2⟩
  · exact ⟨mo, w1.kept (h1 w1.lt), Or.inr ⟨f, w2.kept (h2 (by omega) w2.lt), w3, w4, w5⟩⟩
theorem kBox.kept {g : KGt} {I J : Nat → Prop} {a : Nat} {b : BxT} {H H1 : Heap} (h : kBox g I a b H) (hI : ∀ q, I q → J q) (hk : ∀ q, I q → q < H.size → H1[q]? = H[q]?) : kBox g J a b H1 := by
  obtain ⟨ha, ca, fa, arr, cap, pel, w1, w2, w3, w4, w5, w6, w7⟩ := h
  refine ⟨hI a ha, ca, fa, arr, cap, pel, w1.kept (hk a ha w1.lt), hI _ w2, w3.kept (hk fa w2 w3.lt), hI _ w4, fun h => hI _ (w5 h), w6.kept (hk ca w4) (fun h => hk arr (w5 h)), fun i hi => ?_⟩
  obtain ⟨p1, ia, p2, p3⟩ := w7 i hi
  exact ⟨hI _ p1, ia, p2.kept (hk _ p1 p2.lt), p3.kept hI hk⟩
theorem kBox.obj {g : KGt} {I : Nat → Prop} {a : Nat} {b : BxT} {H : Heap} (h : kBox g I a b H) : kObj g a H := by
  obtain ⟨ha, ca, fa, arr, cap, pel, w1, -⟩ := h
  exact ⟨2, _, w1, by omega⟩
/-- the object x: n items its in the making, nb boxes bs, ib items in them. I: cells that nobody writes any more; M: those that are its own to write -/
def kInv (g : KGt) (I M : Nat → Prop) (x n : Nat) (its : Nat → Nat → Int32) (nb : Nat) (bs : Nat → BxT) (ib : Nat) (H : Heap) : Prop := ∃ (la larr lcap ma marr mcap : Nat) (el bel : Nat → Nat),
  va_at g.1 kcl (x, .inr (0, [.ref la, .ref ma, .int (nI ib)])) H ∧ kALx g la larr lcap n el H ∧ kALx g ma marr mcap nb bel H ∧ (∀ i, i < n → kItem g I (el i) (its i) H) ∧ (∀ i, i < nb → kBox g I (bel i) (bs i) H) ∧
  (M x ∧ M la ∧ M ma ∧ (0 < lcap → M larr) ∧ (0 < mcap → M marr)) ∧ (la ≠ ma ∧ (0 < lcap → 0 < mcap → larr ≠ marr)) ∧ (∀ q, M q → ¬ I q) ∧ (∀ q, M q → g.2.2.1.size ≤ q ∧ q < H.size) ∧ (∀ q, I q → q < H.size) ∧ kB g H ∧ n ≤ 40 ∧ nb ≤ 60
/-- how a call leaves it -/
def kPost (g : KGt) (I M : Nat → Prop) (x n : Nat) (its : Nat → Nat → Int32) (nb : Nat) (bs : Nat → BxT) (ib : Nat) (r : Value) (H0 : Heap) : Option Value → Heap → Prop := fun v H1 => v = some r ∧ kE M H0 H1 ∧ ∃ J N : Nat → Prop, kInv g J N x n its nb bs ib H1 ∧ (∀ q, N q → M q ∨ H0.size ≤ q) ∧ (∀ q, J q → I q ∨ H0.size ≤ q)
/-- more cells that nobody writes -/
theorem kInv.more {g : KGt} {I J M : Nat → Prop} {x n nb ib : Nat} {its : Nat → Nat → Int32} {bs : Nat → BxT} {H H1 : Heap} (h : kInv g I M x n its nb bs ib H) (hE : kE (fun _ => False) H H1) (hI : ∀ q, I q → J q) (hJ : ∀ q, J q → I q ∨ (H.size ≤ q ∧ q < H1.size)) : kInv g J M x n its nb bs ib H1 := by
  obtain ⟨la, larr, lcap, ma, marr, mcap, el, bel, xo, al, am, hit, hbx, hM, hne, hMI, hMg, hIl, hB, hn, hnb⟩ := h
  refine ⟨la, larr, lcap, ma, marr, mcap, el, bel, hE.at xo id, al.ext hE id (fun _ => id), am.ext hE id (fun _ => id), fun i hi => (hit i hi).kept hI (fun q _ hl => hE.2 q hl id), fun i hi => (hbx i hi).kept hI (fun q _ hl => hE.2 q hl id), hM, hne, fun q hm hj => ?_, fun q hm => ⟨(hMg q hm).1, Nat.lt_of_lt_of_le (hMg q hm).2 hE.1⟩, fun q hj => ?_, hB.tr hE (fun _ _ h => h), hn, hnb⟩
  · rcases hJ q hj with h | h
    · exact hMI q hm h
    · have := (hMg q hm).2
      omega
  · rcases hJ q hj with h | h
    · exact Nat.lt_of_lt_of_le (hIl q h) hE.1
    · exact h.2
theorem kObj.neX {g : KGt} {a x : Nat} {fs gs : List Value} {H : Heap} {s : State} (hK : va_K g.1 kcl (kTy g) s) (o : va_at g.1 kcl (a, .inr (1, fs)) H) (xo : va_at g.1 kcl (x, .inr (0, gs)) H) : x ≠ a := by
  intro q
  subst q
  exact k_obob hK xo o (by decide +kernel)
theorem kALx.apartX {g : KGt} {la arr cap n x : Nat} {el : Nat → Nat} {gs : List Value} {H : Heap} {s : State} (h : kALx g la arr cap n el H) (hK : va_K g.1 kcl (kTy g) s) (xo : va_at g.1 kcl (x, .inr (0, gs)) H) : ¬ (x = la ∨ (x = arr ∧ 0 < cap)) := by
  obtain ⟨mo, w1, w2 | ⟨f, w2, w3⟩⟩ := h
  · rintro (h | h)
    · exact kObj.neX hK w1 xo h
    · omega
  · rintro (h | h)
    · exact kObj.neX hK w1 xo h
    · subst_vars; obtain ⟨rfl, -⟩ := h; exact k_obarr hK xo w2
/-- two lists whose objects and arrays are two -/
theorem kALx.apartL {g : KGt} {la arr cap n ma marr mcap k : Nat} {el bel : Nat → Nat} {H : Heap} {s : State} (h : kALx g la arr cap n el H) (h2 : kALx g ma marr mcap k bel H) (hK : va_K g.1 kcl (kTy g) s) (hne : la ≠ ma ∧ (0 < cap → 0 < mcap → arr ≠ marr)) : ¬ (ma = la ∨ (ma = arr ∧ 0 < cap)) ∧ (0 < mcap → ¬ (marr = la ∨ (marr = arr ∧ 0 < cap))) := by
  obtain ⟨mo, w1, w2⟩ := h
  obtain ⟨mo2, u1, u2⟩ := h2
  refine ⟨?_, fun hm => ?_⟩
  · rintro (h | h)
    · exact hne.1 h.symm
    · rcases w2 with w2 | ⟨f, w2, -⟩
      · omega
      · obtain ⟨rfl, -⟩ := h; exact k_obarr hK u1 w2
  · rintro (h | h)
    · rcases u2 with u2 | ⟨f, u2, -⟩
      · omega
      · subst h; exact k_obarr hK w1 u2
    · exact hne.2 h.2 hm h.1.symm
set_option maxHeartbeats 4000000 in
set_option maxRecDepth 100000 in
theorem c_BG_isBox_no (l : Launch) (g : KGt) (H0 : Heap) (I M : Nat → Prop) (x n : Nat) (its : Nat → Nat → Int32) (nb : Nat) (bs : Nat → BxT) (ib : Nat) (inv : kInv g I M x n its nb bs ib H0) (p0 : Int32) (h : p0 < 0 ∨ nI nb ≤ p0) : Met l y_BG_isBox (kW y_BG_isBox b_BG_isBox 2 (.some .boolean)) ({ frames := 1, cells := 0, slots := 0, locals := 20 }) (kPc [.ref x, .int p0] (KK g) H0) (kQc (kPure (.int 0) H0)) 0 0 (fun _ => False) := by
  refine Met.ofW (cc := b_BG_isBox) (maxL := 2) (ret := (.some .boolean)) (by decide) rfl ?_
  intro p e s m args below meth c s₁ B hml hv
  obtain ⟨rfl, hH, hKK⟩ := hv
  have hx := B.exec
  have hb := B.bytes
  have hr := B.returns
  have hts := kW_ts (atoms_spec (ws := kW y_BG_isBox b_BG_isBox 2 (.some .boolean)) B.pre)
  have hown : s.vm.findClass "BoxGlue" = some m.cls := findClass_of_methodNamed B.named
  have hlocks := B.notSynchronized
  have hK := hKK.1
  subst hH
  have hl := lv_entry ([.ref x, .int p0]) (n := 2) (Nat.le_of_ble_eq_true rfl)
  rw [lg_entry_eq]
  generalize (lg_sl ([.ref x, .int p0]) ++ List.replicate (2 - (lg_sl ([.ref x, .int p0])).length) Slot.unset).toArray = ls at hl ⊢
  have hl : lv_has ls 2 [(0, .ref x), (1, .int p0)] := hl
  obtain ⟨la, larr, lcap, ma, marr, mcap, el, bel, xo, al, am, hit, hbx, hM, hne, hMI, hMg, hIl, hB, hn, hnb⟩ := id inv
  refine lv_iload_n hx hb d_BG_isBox_0 rfl (lv_at hl 1 rfl) ?_
  refine lv_if_lt (tgt := 19) hx hb d_BG_isBox_1 (by decide) (fun c_1 => ?_) (fun c_1 => ?_)
  · skip
    refine lv_iconst (v := 0) hx hb d_BG_isBox_19 (by decide) ?_
    exact W.zret (v := 0) (ty := .boolean) hx hb hr rfl (fun t ht hW => ⟨_, rfl, rfl, ht⟩) (fun _ h => by cases h) d_BG_isBox_20
  · skip
    refine lv_iload_n hx hb d_BG_isBox_4 rfl (lv_at hl 1 rfl) ?_
    refine lv_aload_n hx hb d_BG_isBox_5 rfl (lv_at hl 0 rfl) ?_
    refine va_get (D := g.1) (ci := 0) (v := .ref ma) (C := "BoxGlue") (T := kT_BG) (N := 3) hx hb hts ki_BG hown hK (k_one xo) 0 rfl rfl 1 (by decide) (hts _ kw_56) (fun _ h9 => h9) rfl d_BG_isBox_6 ?_
    refine k_pure (r := .int (nI nb)) (W.runV (As := []) (rest := [.int p0]) ⟨hx, hb, hml, hown, hts⟩ (c_AL_size l g s.heap ma nb bel ⟨_, _, am⟩) (cwV 0 hts (kV_good kw_76 kw_73 kw_74 kw_75 kw_4) rfl rfl rfl (by decide +kernel) ⟨Nat.le_of_ble_eq_true rfl, Nat.le_of_ble_eq_true rfl⟩) (k_preV (KK_st g) hKK (kAL.recv ⟨_, _, am⟩ hK)) rfl rfl hl.1 rfl (lv_room (Nat.le_of_ble_eq_true rfl)) d_BG_isBox_9 ⟨Nat.zero_le _, Nat.zero_le _⟩) ?_
    refine lv_icmp_ge (tgt := 19) hx hb d_BG_isBox_12 (by decide) (fun c_2 => ?_) (fun c_2 => ?_)
    · skip
      refine lv_iconst (v := 0) hx hb d_BG_isBox_19 (by decide) ?_
      exact W.zret (v := 0) (ty := .boolean) hx hb hr rfl (fun t ht hW => ⟨_, rfl, rfl, ht⟩) (fun _ h => by cases h) d_BG_isBox_20
    · skip
      rcases h with h | h <;> contradiction
set_option maxHeartbeats 4000000 in
set_option maxRecDepth 100000 in
theorem c_BG_isBox_yes (l : Launch) (g : KGt) (H0 : Heap) (I M : Nat → Prop) (x n : Nat) (its : Nat → Nat → Int32) (nb : Nat) (bs : Nat → BxT) (ib : Nat) (inv : kInv g I M x n its nb bs ib H0) (k : Nat) (hk : k < nb) : Met l y_BG_isBox (kW y_BG_isBox b_BG_isBox 2 (.some .boolean)) ({ frames := 1, cells := 0, slots := 0, locals := 20 }) (kPc [.ref x, .int (nI k)] (KK g) H0) (kQc (kPure (.int 1) H0)) 0 0 (fun _ => False) := by
  refine Met.ofW (cc := b_BG_isBox) (maxL := 2) (ret := (.some .boolean)) (by decide) rfl ?_
  intro p e s m args below meth c s₁ B hml hv
  obtain ⟨rfl, hH, hKK⟩ := hv
  have hx := B.exec
  have hb := B.bytes
  have hr := B.returns
  have hts := kW_ts (atoms_spec (ws := kW y_BG_isBox b_BG_isBox 2 (.some .boolean)) B.pre)
  have hown : s.vm.findClass "BoxGlue" = some m.cls := findClass_of_methodNamed B.named
  have hlocks := B.notSynchronized
  have hK := hKK.1
  subst hH
  have hl := lv_entry ([.ref x, .int (nI k)]) (n := 2) (Nat.le_of_ble_eq_true rfl)
  rw [lg_entry_eq]
  generalize (lg_sl ([.ref x, .int (nI k)]) ++ List.replicate (2 - (lg_sl ([.ref x, .int (nI k)])).length) Slot.unset).toArray = ls at hl ⊢
  have hl : lv_has ls 2 [(0, .ref x), (1, .int (nI k))] := hl
  obtain ⟨la, larr, lcap, ma, marr, mcap, el, bel, xo, al, am, hit, hbx, hM, hne, hMI, hMg, hIl, hB, hn, hnb⟩ := id inv
  refine lv_iload_n hx hb d_BG_isBox_0 rfl (lv_at hl 1 rfl) ?_
  refine lv_if_lt (tgt := 19) hx hb d_BG_isBox_1 (by decide) (fun c_1 => ?_) (fun c_1 => ?_)
  · exact absurd c_1 (nI_pos (by omega))
  refine lv_iload_n hx hb d_BG_isBox_4 rfl (lv_at hl 1 rfl) ?_
  refine lv_aload_n hx hb d_BG_isBox_5 rfl (lv_at hl 0 rfl) ?_
  refine va_get (D := g.1) (ci := 0) (v := .ref ma) (C := "BoxGlue") (T := kT_BG) (N := 3) hx hb hts ki_BG hown hK (k_one xo) 0 rfl rfl 1 (by decide) (hts _ kw_56) (fun _ h9 => h9) rfl d_BG_isBox_6 ?_
  refine k_pure (r := .int (nI nb)) (W.runV (As := []) (rest := [.int (nI k)]) ⟨hx, hb, hml, hown, hts⟩ (c_AL_size l g s.heap ma nb bel ⟨_, _, am⟩) (cwV 0 hts (kV_good kw_76 kw_73 kw_74 kw_75 kw_4) rfl rfl rfl (by decide +kernel) ⟨Nat.le_of_ble_eq_true rfl, Nat.le_of_ble_eq_true rfl⟩) (k_preV (KK_st g) hKK (kAL.recv ⟨_, _, am⟩ hK)) rfl rfl hl.1 rfl (lv_room (Nat.le_of_ble_eq_true rfl)) d_BG_isBox_9 ⟨Nat.zero_le _, Nat.zero_le _⟩) ?_
  refine lv_icmp_ge (tgt := 19) hx hb d_BG_isBox_12 (by decide) (fun c_2 => ?_) (fun c_2 => ?_)
  · exact absurd c_2 (nI_ge hk (by omega))
  refine lv_iconst (v := 1) hx hb d_BG_isBox_15 (by decide) ?_
  refine lv_goto (tgt := 20) hx hb d_BG_isBox_16 (by decide) ?_
  exact W.zret (v := 1) (ty := .boolean) hx hb hr rfl (fun t ht hW => ⟨_, rfl, rfl, ht⟩) (fun _ h => by cases h) d_BG_isBox_20
set_option maxHeartbeats 4000000 in
set_option maxRecDepth 100000 in
theorem c_BG_size (l : Launch) (g : KGt) (H0 : Heap) (I M : Nat → Prop) (x n : Nat) (its : Nat → Nat → Int32) (nb : Nat) (bs : Nat → BxT) (ib : Nat) (inv : kInv g I M x n its nb bs ib H0) : Met l y_BG_size (kW y_BG_size b_BG_size 1 (.some .int)) ({ frames := 1, cells := 0, slots := 0, locals := 20 }) (kPc [.ref x] (KK g) H0) (kQc (kPure (.int (nI n)) H0)) 0 0 (fun _ => False) := by
  refine Met.ofW (cc := b_BG_size) (maxL := 1) (ret := (.some .int)) (by decide) rfl ?_
  intro p e s m args below meth c s₁ B hml hv
  obtain ⟨rfl, hH, hKK⟩ := hv
  have hx := B.exec
  have hb := B.bytes
  have hr := B.returns
  have hts := kW_ts (atoms_spec (ws := kW y_BG_size b_BG_size 1 (.some .int)) B.pre)
  have hown : s.vm.findClass "BoxGlue" = some m.cls := findClass_of_methodNamed B.named
  have hlocks := B.notSynchronized
  have hK := hKK.1
  subst hH
  have hl := lv_entry ([.ref x]) (n := 1) (Nat.le_of_ble_eq_true rfl)
  rw [lg_entry_eq]
  generalize (lg_sl ([.ref x]) ++ List.replicate (1 - (lg_sl ([.ref x])).length) Slot.unset).toArray = ls at hl ⊢
  have hl : lv_has ls 1 [(0, .ref x)] := hl
  obtain ⟨la, larr, lcap, ma, marr, mcap, el, bel, xo, al, am, hit, hbx, hM, hne, hMI, hMg, hIl, hB, hn, hnb⟩ := id inv
  refine lv_aload_n hx hb d_BG_size_0 rfl (lv_at hl 0 rfl) ?_
  refine va_get (D := g.1) (ci := 0) (v := .ref la) (C := "BoxGlue") (T := kT_BG) (N := 3) hx hb hts ki_BG hown hK (k_one xo) 0 rfl rfl 0 (by decide) (hts _ kw_55) (fun _ h9 => h9) rfl d_BG_size_1 ?_
  refine k_pure (r := .int (nI n)) (W.runV (As := []) (rest := []) ⟨hx, hb, hml, hown, hts⟩ (c_AL_size l g s.heap la n el ⟨_, _, al⟩) (cwV 0 hts (kV_good kw_76 kw_73 kw_74 kw_75 kw_4) rfl rfl rfl (by decide +kernel) ⟨Nat.le_of_ble_eq_true rfl, Nat.le_of_ble_eq_true rfl⟩) (k_preV (KK_st g) hKK (kAL.recv ⟨_, _, al⟩ hK)) rfl rfl hl.1 rfl (lv_room (Nat.le_of_ble_eq_true rfl)) d_BG_size_4 ⟨Nat.zero_le _, Nat.zero_le _⟩) ?_
  exact W.iret (v := (nI n)) hx hb hr (fun t ht hW => ⟨_, rfl, rfl, ht⟩) (fun _ h => by cases h) d_BG_size_7
set_option maxHeartbeats 4000000 in
set_option maxRecDepth 100000 in
theorem c_BG_boxes (l : Launch) (g : KGt) (H0 : Heap) (I M : Nat → Prop) (x n : Nat) (its : Nat → Nat → Int32) (nb : Nat) (bs : Nat → BxT) (ib : Nat) (inv : kInv g I M x n its nb bs ib H0) : Met l y_BG_boxes (kW y_BG_boxes b_BG_boxes 1 (.some .int)) ({ frames := 1, cells := 0, slots := 0, locals := 20 }) (kPc [.ref x] (KK g) H0) (kQc (kPure (.int (nI nb)) H0)) 0 0 (fun _ => False) := by
  refine Met.ofW (cc := b_BG_boxes) (maxL := 1) (ret := (.some .int)) (by decide) rfl ?_
  intro p e s m args below meth c s₁ B hml hv
  obtain ⟨rfl, hH, hKK⟩ := hv
  have hx := B.exec
  have hb := B.bytes
  have hr := B.returns
  have hts := kW_ts (atoms_spec (ws := kW y_BG_boxes b_BG_boxes 1 (.some .int)) B.pre)
  have hown : s.vm.findClass "BoxGlue" = some m.cls := findClass_of_methodNamed B.named
  have hlocks := B.notSynchronized
  have hK := hKK.1
  subst hH
  have hl := lv_entry ([.ref x]) (n := 1) (Nat.le_of_ble_eq_true rfl)
  rw [lg_entry_eq]
  generalize (lg_sl ([.ref x]) ++ List.replicate (1 - (lg_sl ([.ref x])).length) Slot.unset).toArray = ls at hl ⊢
  have hl : lv_has ls 1 [(0, .ref x)] := hl
  obtain ⟨la, larr, lcap, ma, marr, mcap, el, bel, xo, al, am, hit, hbx, hM, hne, hMI, hMg, hIl, hB, hn, hnb⟩ := id inv
  refine lv_aload_n hx hb d_BG_boxes_0 rfl (lv_at hl 0 rfl) ?_
  refine va_get (D := g.1) (ci := 0) (v := .ref ma) (C := "BoxGlue") (T := kT_BG) (N := 3) hx hb hts ki_BG hown hK (k_one xo) 0 rfl rfl 1 (by decide) (hts _ kw_56) (fun _ h9 => h9) rfl d_BG_boxes_1 ?_
  refine k_pure (r := .int (nI nb)) (W.runV (As := []) (rest := []) ⟨hx, hb, hml, hown, hts⟩ (c_AL_size l g s.heap ma nb bel ⟨_, _, am⟩) (cwV 0 hts (kV_good kw_76 kw_73 kw_74 kw_75 kw_4) rfl rfl rfl (by decide +kernel) ⟨Nat.le_of_ble_eq_true rfl, Nat.le_of_ble_eq_true rfl⟩) (k_preV (KK_st g) hKK (kAL.recv ⟨_, _, am⟩ hK)) rfl rfl hl.1 rfl (lv_room (Nat.le_of_ble_eq_true rfl)) d_BG_boxes_4 ⟨Nat.zero_le _, Nat.zero_le _⟩) ?_
  exact W.iret (v := (nI nb)) hx hb hr (fun t ht hW => ⟨_, rfl, rfl, ht⟩) (fun _ h => by cases h) d_BG_boxes_7
set_option maxHeartbeats 4000000 in
set_option maxRecDepth 100000 in
theorem c_BG_natural (l : Launch) (g : KGt) (H0 : Heap) (I M : Nat → Prop) (x n : Nat) (its : Nat → Nat → Int32) (nb : Nat) (bs : Nat → BxT) (ib : Nat) (inv : kInv g I M x n its nb bs ib H0) : Met l y_BG_natural (kW y_BG_natural b_BG_natural 1 (.some .long)) ({ frames := 4, cells := 0, slots := 0, locals := 86 }) (kPc [.ref x] (KK g) H0) (kQc (kPure (.long (l_len its n).toInt64) H0)) 0 0 (fun _ => False) := by
  refine Met.ofW (cc := b_BG_natural) (maxL := 1) (ret := (.some .long)) (by decide) rfl ?_
  intro p e s m args below meth c s₁ B hml hv
  obtain ⟨rfl, hH, hKK⟩ := hv
  have hx := B.exec
  have hb := B.bytes
  have hr := B.returns
  have hts := kW_ts (atoms_spec (ws := kW y_BG_natural b_BG_natural 1 (.some .long)) B.pre)
  have hown : s.vm.findClass "BoxGlue" = some m.cls := findClass_of_methodNamed B.named
  have hlocks := B.notSynchronized
  have hK := hKK.1
  subst hH
  have hl := lv_entry ([.ref x]) (n := 1) (Nat.le_of_ble_eq_true rfl)
  rw [lg_entry_eq]
  generalize (lg_sl ([.ref x]) ++ List.replicate (1 - (lg_sl ([.ref x])).length) Slot.unset).toArray = ls at hl ⊢
  have hl : lv_has ls 1 [(0, .ref x)] := hl
  obtain ⟨la, larr, lcap, ma, marr, mcap, el, bel, xo, al, am, hit, hbx, hM, hne, hMI, hMg, hIl, hB, hn, hnb⟩ := id inv
  refine lv_aload_n hx hb d_BG_natural_0 rfl (lv_at hl 0 rfl) ?_
  refine va_get (D := g.1) (ci := 0) (v := .ref la) (C := "BoxGlue") (T := kT_BG) (N := 3) hx hb hts ki_BG hown hK (k_one xo) 0 rfl rfl 0 (by decide) (hts _ kw_55) (fun _ h9 => h9) rfl d_BG_natural_1 ?_
  refine k_pure (r := .int (l_len its n)) (W.runS (As := [.ref la]) (rest := []) ⟨hx, hb, hml, hown, hts⟩ (c_Fit_lengthOf l g s.heap I la n el its ⟨_, _, al⟩ hit) (va_cwS 1 hts (kS_good kw_353 kw_351 kw_352 kw_7) rfl rfl rfl (by decide +kernel) ⟨Nat.le_of_ble_eq_true rfl, Nat.le_of_ble_eq_true rfl⟩) (k_pre (KK_st g) hKK) rfl rfl hl.1 rfl (lv_room (Nat.le_of_ble_eq_true rfl)) d_BG_natural_4 ⟨Nat.zero_le _, Nat.zero_le _⟩) ?_
  refine lv_i2l hx hb d_BG_natural_7 rfl ?_
  exact W.lret (v := ((l_len its n)).toInt64) hx hb hr (fun t ht hW => ⟨_, rfl, rfl, ht⟩) (fun _ h => by cases h) d_BG_natural_8
end
section
/-! BoxGlue: the calls that change the list -/
theorem kALx.arrlt {g : KGt} {la arr cap n : Nat} {el : Nat → Nat} {H : Heap} (h : kALx g la arr cap n el H) (hc : 0 < cap) : arr < H.size := by
  obtain ⟨mo, w1, w2 | ⟨f, w2, -⟩⟩ := h
  · omega
  · exact w2.lt
theorem kInv.list {g : KGt} {I M : Nat → Prop} {x n nb ib la larr lcap ma marr mcap : Nat} {el bel : Nat → Nat} {its : Nat → Nat → Int32} {bs : Nat → BxT} {H H1 : Heap} {s : State} (hK : va_K g.1 kcl (kTy g) s) (xo : va_at g.1 kcl (x, .inr (0, [.ref la, .ref ma, .int (nI ib)])) H) (al : kALx g la larr lcap n el H) (am : kALx g ma marr mcap nb bel H) (hit : ∀ i, i < n → kItem g I (el i) (its i) H) (hbx : ∀ i, i < nb → kBox g I (bel i) (bs i) H) (hM : M x ∧ M la ∧ M ma ∧ (0 < lcap → M larr) ∧ (0 < mcap → M marr)) (hne : la ≠ ma ∧ (0 < lcap → 0 < mcap → larr ≠ marr)) (hMI : ∀ q, M q → ¬ I q) (hMg : ∀ q, M q → g.2.2.1.size ≤ q ∧ q < H.size) (hIl : ∀ q, I q → q < H.size) (hB : kB g H) (hn : nb ≤ 60) (hE : kE (fun q => q = la ∨ (q = larr ∧ 0 < lcap)) H H1) {arr2 cap2 n2 : Nat} {el2 : Nat → Nat} {its2 : Nat → Nat → Int32} (al2 : kALx g la arr2 cap2 n2 el2 H1) (h4 : arr2 = larr ∧ cap2 = lcap ∨ H.size ≤ arr2) (hit2 : ∀ i, i < n2 → kItem g I (el2 i) (its2 i) H1) (hn2 : n2 ≤ 40) : kE M H H1 ∧ ∃ N : Nat → Prop, kInv g I N x n2 its2 nb bs ib H1 ∧ ∀ q, N q → M q ∨ H.size ≤ q := by
  have hA : ∀ q, (q = la ∨ (q = larr ∧ 0 < lcap)) → M q := fun q h => by
    rcases h with h | h
    · rw [h]; exact hM.2.1
    · rw [h.1]; exact hM.2.2.2.1 h.2
  have hnew : 0 < cap2 → M arr2 ∨ H.size ≤ arr2 := fun h => by
    rcases h4 with ⟨e1, e2⟩ | h4
    · exact Or.inl (by rw [e1]; exact hM.2.2.2.1 (by omega))
    · exact Or.inr h4
  refine ⟨hE.wk (fun q _ h => hA q h), fun q => M q ∨ (q = arr2 ∧ 0 < cap2), ⟨la, arr2, cap2, ma, marr, mcap, el2, bel, hE.at xo (al.apartX hK xo), al2, am.ext hE (al.apartL am hK hne).1 (al.apartL am hK hne).2, hit2, fun i hi => (hbx i hi).kept (fun _ h => h) (fun q hq hl => hE.2 q hl (fun h => hMI q (hA q h) hq)), ⟨Or.inl hM.1, Or.inl hM.2.1, Or.inl hM.2.2.1, fun h => Or.inr ⟨rfl, h⟩, fun h => Or.inl (hM.2.2.2.2 h)⟩, ⟨hne.1, fun h1 h2 e => ?_⟩, fun q hq hI => ?_, fun q hq => ?_, fun q hq => Nat.lt_of_lt_of_le (hIl q hq) hE.1, hB.tr hE (fun q hq h => by have := (hMg q (hA q h)).1; omega), hn2, hn⟩, fun q hq => ?_⟩
  · rcases h4 with ⟨e1, e2⟩ | h4
    · exact hne.2 (by omega) h2 (by rw [← e1]; exact e)
    · have := (hMg marr (hM.2.2.2.2 h2)).2
      omega
  · rcases hq with hq | ⟨rfl, hc⟩
    · exact hMI q hq hI
    · rcases hnew hc with h | h
      · exact hMI _ h hI
      · have := hIl _ hI
        omega
  · rcases hq with hq | ⟨rfl, hc⟩
    · exact ⟨(hMg q hq).1, Nat.lt_of_lt_of_le (hMg q hq).2 hE.1⟩
    · refine ⟨?_, al2.arrlt hc⟩
      rcases hnew hc with h | h
      · exact (hMg _ h).1
      · exact Nat.le_trans hB.1 h
  · rcases hq with hq | ⟨rfl, hc⟩
    · exact Or.inl hq
    · exact hnew hc
theorem kInv.made {g : KGt} {I M : Nat → Prop} {x n nb ib la larr lcap ma marr mcap : Nat} {el bel : Nat → Nat} {its : Nat → Nat → Int32} {bs : Nat → BxT} {H H1 : Heap} {s : State} (hK : va_K g.1 kcl (kTy g) s) (xo : va_at g.1 kcl (x, .inr (0, [.ref la, .ref ma, .int (nI ib)])) H) (al : kALx g la larr lcap n el H) (am : kALx g ma marr mcap nb bel H) (hit : ∀ i, i < n → kItem g I (el i) (its i) H) (hbx : ∀ i, i < nb → kBox g I (bel i) (bs i) H) (hM : M x ∧ M la ∧ M ma ∧ (0 < lcap → M larr) ∧ (0 < mcap → M marr)) (hne : la ≠ ma ∧ (0 < lcap → 0 < mcap → larr ≠ marr)) (hMI : ∀ q, M q → ¬ I q) (hMg : ∀ q, M q → g.2.2.1.size ≤ q ∧ q < H.size) (hIl : ∀ q, I q → q < H.size) (hB : kB g H) (hn : n ≤ 40) (hE : kE (fun q => q = ma ∨ (q = marr ∧ 0 < mcap)) H H1) {arr2 cap2 n2 : Nat} {el2 : Nat → Nat} {bs2 : Nat → BxT} (am2 : kALx g ma arr2 cap2 n2 el2 H1) (h4 : arr2 = marr ∧ cap2 = mcap ∨ H.size ≤ arr2) (hbx2 : ∀ i, i < n2 → kBox g I (el2 i) (bs2 i) H1) (hn2 : n2 ≤ 60) : kE M H H1 ∧ ∃ N : Nat → Prop, kInv g I N x n its n2 bs2 ib H1 ∧ ∀ q, N q → M q ∨ H.size ≤ q := by
  have hA : ∀ q, (q = ma ∨ (q = marr ∧ 0 < mcap)) → M q := fun q h => by
    rcases h with h | h
    · rw [h]; exact hM.2.2.1
    · rw [h.1]; exact hM.2.2.2.2 h.2
  have hnew : 0 < cap2 → M arr2 ∨ H.size ≤ arr2 := fun h => by
    rcases h4 with ⟨e1, e2⟩ | h4
    · exact Or.inl (by rw [e1]; exact hM.2.2.2.2 (by omega))
    · exact Or.inr h4
  have hap := am.apartL al hK ⟨hne.1.symm, fun h1 h2 e => hne.2 h2 h1 e.symm⟩
  refine ⟨hE.wk (fun q _ h => hA q h), fun q => M q ∨ (q = arr2 ∧ 0 < cap2), ⟨la, larr, lcap, ma, arr2, cap2, el, el2, hE.at xo (am.apartX hK xo), al.ext hE hap.1 hap.2, am2, fun i hi => (hit i hi).kept (fun _ h => h) (fun q hq hl => hE.2 q hl (fun h => hMI q (hA q h) hq)), hbx2, ⟨Or.inl hM.1, Or.inl hM.2.1, Or.inl hM.2.2.1, fun h => Or.inl (hM.2.2.2.1 h), fun h => Or.inr ⟨rfl, h⟩⟩, ⟨hne.1, fun h1 h2 e => ?_⟩, fun q hq hI => ?_, fun q hq => ?_, fun q hq => Nat.lt_of_lt_of_le (hIl q hq) hE.1, hB.tr hE (fun q hq h => by have := (hMg q (hA q h)).1; omega), hn, hn2⟩, fun q hq => ?_⟩
  · rcases h4 with ⟨e1, e2⟩ | h4
    · exact hne.2 h1 (by omega) (by rw [← e1]; exact e)
    · have := (hMg larr (hM.2.2.2.1 h1)).2
      omega
  · rcases hq with hq | ⟨rfl, hc⟩
    · exact hMI q hq hI
    · rcases hnew hc with h | h
      · exact hMI _ h hI
      · have := hIl _ hI
        omega
  · rcases hq with hq | ⟨rfl, hc⟩
    · exact ⟨(hMg q hq).1, Nat.lt_of_lt_of_le (hMg q hq).2 hE.1⟩
    · refine ⟨?_, am2.arrlt hc⟩
      rcases hnew hc with h | h
      · exact (hMg _ h).1
      · exact Nat.le_trans hB.1 h
  · rcases hq with hq | ⟨rfl, hc⟩
    · exact Or.inl hq
    · exact hnew hc
set_option maxHeartbeats 4000000 in
set_option maxRecDepth 100000 in
theorem c_BG_append_full (l : Launch) (g : KGt) (H0 : Heap) (I M : Nat → Prop) (x n : Nat) (its : Nat → Nat → Int32) (nb : Nat) (bs : Nat → BxT) (ib : Nat) (inv : kInv g I M x n its nb bs ib H0) (a : Nat) (h : n = 40) : Met l y_BG_append (kW y_BG_append b_BG_append 2 (.some .int)) ({ frames := 1, cells := 0, slots := 0, locals := 20 }) (kPc [.ref x, .ref a] (KK g) H0) (kQc (kPure (.int (-2)) H0)) 0 0 (fun _ => False) := by
  refine Met.ofW (cc := b_BG_append) (maxL := 2) (ret := (.some .int)) (by decide) rfl ?_
  intro p e s m args below meth c s₁ B hml hv
  obtain ⟨rfl, hH, hKK⟩ := hv
  have hx := B.exec
  have hb := B.bytes
  have hr := B.returns
  have hts := kW_ts (atoms_spec (ws := kW y_BG_append b_BG_append 2 (.some .int)) B.pre)
  have hown : s.vm.findClass "BoxGlue" = some m.cls := findClass_of_methodNamed B.named
  have hlocks := B.notSynchronized
  have hK := hKK.1
  subst hH
  have hl := lv_entry ([.ref x, .ref a]) (n := 2) (Nat.le_of_ble_eq_true rfl)
  rw [lg_entry_eq]
  generalize (lg_sl ([.ref x, .ref a]) ++ List.replicate (2 - (lg_sl ([.ref x, .ref a])).length) Slot.unset).toArray = ls at hl ⊢
  have hl : lv_has ls 2 [(0, .ref x), (1, .ref a)] := hl
  obtain ⟨la, larr, lcap, ma, marr, mcap, el, bel, xo, al, am, hit, hbx, hM, hne, hMI, hMg, hIl, hB, hn, hnb⟩ := id inv
  refine lv_aload_n hx hb d_BG_append_0 rfl (lv_at hl 0 rfl) ?_
  refine va_get (D := g.1) (ci := 0) (v := .ref la) (C := "BoxGlue") (T := kT_BG) (N := 3) hx hb hts ki_BG hown hK (k_one xo) 0 rfl rfl 0 (by decide) (hts _ kw_55) (fun _ h9 => h9) rfl d_BG_append_1 ?_
  refine k_pure (r := .int (nI n)) (W.runV (As := []) (rest := []) ⟨hx, hb, hml, hown, hts⟩ (c_AL_size l g s.heap la n el ⟨_, _, al⟩) (cwV 0 hts (kV_good kw_76 kw_73 kw_74 kw_75 kw_4) rfl rfl rfl (by decide +kernel) ⟨Nat.le_of_ble_eq_true rfl, Nat.le_of_ble_eq_true rfl⟩) (k_preV (KK_st g) hKK (kAL.recv ⟨_, _, al⟩ hK)) rfl rfl hl.1 rfl (lv_room (Nat.le_of_ble_eq_true rfl)) d_BG_append_4 ⟨Nat.zero_le _, Nat.zero_le _⟩) ?_
  refine lv_bipush (v := 40) hx hb d_BG_append_7 (by decide) ?_
  refine lv_icmp_lt (tgt := 15) hx hb d_BG_append_9 (by decide) (fun c_1 => ?_) (fun c_1 => ?_)
  · exact absurd c_1 (by rw [h]; decide)
  refine lv_bipush (v := (-2)) hx hb d_BG_append_12 (by decide) ?_
  exact W.iret (v := (-2)) hx hb hr (fun t ht hW => ⟨_, rfl, rfl, ht⟩) (fun _ h => by cases h) d_BG_append_14
set_option maxHeartbeats 4000000 in
set_option maxRecDepth 100000 in
theorem c_BG_append_ok (l : Launch) (g : KGt) (H0 : Heap) (I M : Nat → Prop) (x n : Nat) (its : Nat → Nat → Int32) (nb : Nat) (bs : Nat → BxT) (ib : Nat) (inv : kInv g I M x n its nb bs ib H0) (a : Nat) (it : Nat → Int32) (hn : n < 40) (ha : kItem g I a it H0) : Met l y_BG_append (kW y_BG_append b_BG_append 2 (.some .int)) ({ frames := 7, cells := 1, slots := 100, locals := 171 }) (kPc [.ref x, .ref a] (KK g) H0) (kQc (kPost g I M x (n + 1) (va_up its n it) nb bs ib (.int (nI (n + 1))) H0)) 1 100 (fun q : Nat => M q ∨ H0.size ≤ q) := by
  refine Met.ofW (cc := b_BG_append) (maxL := 2) (ret := (.some .int)) (by decide) rfl ?_
  intro p e s m args below meth c s₁ B hml hv
  obtain ⟨rfl, hH, hKK⟩ := hv
  have hx := B.exec
  have hb := B.bytes
  have hr := B.returns
  have hts := kW_ts (atoms_spec (ws := kW y_BG_append b_BG_append 2 (.some .int)) B.pre)
  have hown : s.vm.findClass "BoxGlue" = some m.cls := findClass_of_methodNamed B.named
  have hlocks := B.notSynchronized
  have hK := hKK.1
  subst hH
  have hl := lv_entry ([.ref x, .ref a]) (n := 2) (Nat.le_of_ble_eq_true rfl)
  rw [lg_entry_eq]
  generalize (lg_sl ([.ref x, .ref a]) ++ List.replicate (2 - (lg_sl ([.ref x, .ref a])).length) Slot.unset).toArray = ls at hl ⊢
  have hl : lv_has ls 2 [(0, .ref x), (1, .ref a)] := hl
  obtain ⟨la, larr, lcap, ma, marr, mcap, el, bel, xo, al, am, hit, hbx, hM, hne, hMI, hMg, hIl, hB, -, hnb⟩ := id inv
  refine lv_aload_n hx hb d_BG_append_0 rfl (lv_at hl 0 rfl) ?_
  refine va_get (D := g.1) (ci := 0) (v := .ref la) (C := "BoxGlue") (T := kT_BG) (N := 3) hx hb hts ki_BG hown hK (k_one xo) 0 rfl rfl 0 (by decide) (hts _ kw_55) (fun _ h9 => h9) rfl d_BG_append_1 ?_
  refine k_pure (r := .int (nI n)) (W.runV (As := []) (rest := []) ⟨hx, hb, hml, hown, hts⟩ (c_AL_size l g s.heap la n el ⟨_, _, al⟩) (cwV 0 hts (kV_good kw_76 kw_73 kw_74 kw_75 kw_4) rfl rfl rfl (by decide +kernel) ⟨Nat.le_of_ble_eq_true rfl, Nat.le_of_ble_eq_true rfl⟩) (k_preV (KK_st g) hKK (kAL.recv ⟨_, _, al⟩ hK)) rfl rfl hl.1 rfl (lv_room (Nat.le_of_ble_eq_true rfl)) d_BG_append_4 ⟨Nat.zero_le _, Nat.zero_le _⟩) ?_
  refine lv_bipush (v := 40) hx hb d_BG_append_7 (by decide) ?_
  refine lv_icmp_lt (tgt := 15) hx hb d_BG_append_9 (by decide) (fun c_1 => ?_) (fun c_1 => ?_)
  rotate_left
  · exact absurd c_1 (fun q => q (by rw [show (40 : Int32) = nI 40 from rfl]; exact nI_lt hn (by decide)))
  refine lv_aload_n hx hb d_BG_append_15 rfl (lv_at hl 0 rfl) ?_
  refine va_get (D := g.1) (ci := 0) (v := .ref la) (C := "BoxGlue") (T := kT_BG) (N := 3) hx hb hts ki_BG hown hK (k_one xo) 0 rfl rfl 0 (by decide) (hts _ kw_55) (fun _ h9 => h9) rfl d_BG_append_16 ?_
  refine lv_aload_n hx hb d_BG_append_19 rfl (lv_at hl 1 rfl) ?_
  refine k_call (A := (fun q : Nat => M q ∨ s.heap.size ≤ q)) (W.runV (As := [.ref a]) (rest := []) ⟨hx, hb, hml, hown, hts⟩ (c_AL_add l g s.heap la larr lcap n a el hB al (hMg la hM.2.1).1 (by omega) (fun i hi => (hit i hi).obj) ha.obj) (cwV 1 hts (kV_good kw_135 kw_132 kw_133 kw_134 kw_4) rfl rfl rfl (by decide +kernel) ⟨Nat.le_of_ble_eq_true rfl, Nat.le_of_ble_eq_true rfl⟩) (k_preV (KK_st g) hKK (kAL.recv ⟨_, _, al⟩ hK)) rfl rfl hl.1 rfl (lv_room (Nat.le_of_ble_eq_true rfl)) d_BG_append_20 ⟨Nat.le_of_ble_eq_true rfl, Nat.le_of_ble_eq_true rfl⟩) (fun _ h => by cases h) (fun q h => by rcases h with h | h | h; rw [h]; exact Or.inl hM.2.1; rw [h.1]; exact Or.inl (hM.2.2.2.1 h.2); exact Or.inr h) (fun v H locs hv hL => ?_)
  obtain ⟨rfl, arr2, cap2, hE, h4, al2⟩ := hv
  have hA : ∀ q, (q = la ∨ (q = larr ∧ 0 < lcap)) → M q := fun q h => by rcases h with h | h; rw [h]; exact hM.2.1; rw [h.1]; exact hM.2.2.2.1 h.2
  have hkp : ∀ b jt, kItem g I b jt s.heap → kItem g I b jt H := fun b jt h => h.kept (fun _ h => h) (fun q hq hl => hE.2 q hl (fun h => hMI q (hA q h) hq))
  have hit2 : ∀ i, i < n + 1 → kItem g I (va_up el n a i) (va_up its n it i) H := by
    intro i hi
    by_cases e : i = n
    · subst e; rw [va_up_self, va_up_self]; exact hkp _ _ ha
    · rw [va_up_ne _ _ e, va_up_ne _ _ e]; exact hkp _ _ (hit i (by omega))
  obtain ⟨hEM, N, inv2, hN⟩ := kInv.list hK xo al am hit hbx hM hne hMI hMg hIl hB hnb hE al2 h4 hit2 (by omega)
  have xo := hE.at xo (al.apartX hK xo)
  refine lv_pop hx hb d_BG_append_23 rfl ?_
  refine lv_aload_n hx hb d_BG_append_24 rfl (lv_at hl 0 rfl) ?_
  refine va_get (D := g.1) (ci := 0) (v := .ref la) (C := "BoxGlue") (T := kT_BG) (N := 3) hx hb hts ki_BG hown hK (k_one xo) 0 rfl rfl 0 (by decide) (hts _ kw_55) (fun _ h9 => h9) rfl d_BG_append_25 ?_
  refine k_pure (r := .int (nI (n + 1))) (W.runV (As := []) (rest := []) ⟨hx, hb, hml, hown, hts⟩ (c_AL_size l g H la (n + 1) (va_up el n a) ⟨_, _, al2⟩) (cwV 0 hts (kV_good kw_76 kw_73 kw_74 kw_75 kw_4) rfl rfl rfl (by decide +kernel) ⟨Nat.le_of_ble_eq_true rfl, Nat.le_of_ble_eq_true rfl⟩) (k_preV (KK_st g) hKK (kAL.recv ⟨_, _, al2⟩ hK)) rfl rfl hl.1 rfl (lv_room (Nat.le_of_ble_eq_true rfl)) d_BG_append_28 ⟨Nat.le_of_ble_eq_true rfl, Nat.le_of_ble_eq_true rfl⟩) ?_
  exact W.iret (v := (nI (n + 1))) hx hb hr (fun t ht hW => ⟨_, rfl, rfl, by rw [ht]; exact hEM, I, N, by rw [ht]; exact inv2, hN, fun _ h => Or.inl h⟩) hL d_BG_append_31
set_option maxHeartbeats 4000000 in
set_option maxRecDepth 100000 in
theorem c_BG_drop_no (l : Launch) (g : KGt) (H0 : Heap) (I M : Nat → Prop) (x n : Nat) (its : Nat → Nat → Int32) (nb : Nat) (bs : Nat → BxT) (ib : Nat) (inv : kInv g I M x n its nb bs ib H0) (h : n = 0) : Met l y_BG_drop (kW y_BG_drop b_BG_drop 1 (.some .int)) ({ frames := 1, cells := 0, slots := 0, locals := 20 }) (kPc [.ref x] (KK g) H0) (kQc (kPure (.int (-3)) H0)) 0 0 (fun _ => False) := by
  refine Met.ofW (cc := b_BG_drop) (maxL := 1) (ret := (.some .int)) (by decide) rfl ?_
  intro p e s m args below meth c s₁ B hml hv
  obtain ⟨rfl, hH, hKK⟩ := hv
  have hx := B.exec
  have hb := B.bytes
  have hr := B.returns
  have hts := kW_ts (atoms_spec (ws := kW y_BG_drop b_BG_drop 1 (.some .int)) B.pre)
  have hown : s.vm.findClass "BoxGlue" = some m.cls := findClass_of_methodNamed B.named
  have hlocks := B.notSynchronized
  have hK := hKK.1
  subst hH
  have hl := lv_entry ([.ref x]) (n := 1) (Nat.le_of_ble_eq_true rfl)
  rw [lg_entry_eq]
  generalize (lg_sl ([.ref x]) ++ List.replicate (1 - (lg_sl ([.ref x])).length) Slot.unset).toArray = ls at hl ⊢
  have hl : lv_has ls 1 [(0, .ref x)] := hl
  obtain ⟨la, larr, lcap, ma, marr, mcap, el, bel, xo, al, am, hit, hbx, hM, hne, hMI, hMg, hIl, hB, hn, hnb⟩ := id inv
  refine lv_aload_n hx hb d_BG_drop_0 rfl (lv_at hl 0 rfl) ?_
  refine va_get (D := g.1) (ci := 0) (v := .ref la) (C := "BoxGlue") (T := kT_BG) (N := 3) hx hb hts ki_BG hown hK (k_one xo) 0 rfl rfl 0 (by decide) (hts _ kw_55) (fun _ h9 => h9) rfl d_BG_drop_1 ?_
  refine k_pure (r := .int (if n = 0 then 1 else 0)) (W.runV (As := []) (rest := []) ⟨hx, hb, hml, hown, hts⟩ (c_AL_isEmpty l g s.heap la n el ⟨_, _, al⟩) (cwV 0 hts (kV_good kw_335 kw_332 kw_333 kw_334 kw_4) rfl rfl rfl (by decide +kernel) ⟨Nat.le_of_ble_eq_true rfl, Nat.le_of_ble_eq_true rfl⟩) (k_preV (KK_st g) hKK (kAL.recv ⟨_, _, al⟩ hK)) rfl rfl hl.1 rfl (lv_room (Nat.le_of_ble_eq_true rfl)) d_BG_drop_4 ⟨Nat.zero_le _, Nat.zero_le _⟩) ?_
  refine lv_if_eq (tgt := 13) hx hb d_BG_drop_7 (by decide) (fun c_1 => ?_) (fun c_1 => ?_)
  · exact absurd c_1 (by rw [if_pos h]; decide)
  refine lv_bipush (v := (-3)) hx hb d_BG_drop_10 (by decide) ?_
  exact W.iret (v := (-3)) hx hb hr (fun t ht hW => ⟨_, rfl, rfl, ht⟩) (fun _ h => by cases h) d_BG_drop_12
set_option maxHeartbeats 4000000 in
set_option maxRecDepth 100000 in
theorem c_BG_drop_ok (l : Launch) (g : KGt) (H0 : Heap) (I M : Nat → Prop) (x k : Nat) (its : Nat → Nat → Int32) (nb : Nat) (bs : Nat → BxT) (ib : Nat) (inv : kInv g I M x (k + 1) its nb bs ib H0) : Met l y_BG_drop (kW y_BG_drop b_BG_drop 1 (.some .int)) ({ frames := 3, cells := 0, slots := 0, locals := 66 }) (kPc [.ref x] (KK g) H0) (kQc (kPost g I M x k its nb bs ib (.int (nI k)) H0)) 0 0 (fun q : Nat => M q ∨ H0.size ≤ q) := by
  refine Met.ofW (cc := b_BG_drop) (maxL := 1) (ret := (.some .int)) (by decide) rfl ?_
  intro p e s m args below meth c s₁ B hml hv
  obtain ⟨rfl, hH, hKK⟩ := hv
  have hx := B.exec
  have hb := B.bytes
  have hr := B.returns
  have hts := kW_ts (atoms_spec (ws := kW y_BG_drop b_BG_drop 1 (.some .int)) B.pre)
  have hown : s.vm.findClass "BoxGlue" = some m.cls := findClass_of_methodNamed B.named
  have hlocks := B.notSynchronized
  have hK := hKK.1
  subst hH
  have hl := lv_entry ([.ref x]) (n := 1) (Nat.le_of_ble_eq_true rfl)
  rw [lg_entry_eq]
  generalize (lg_sl ([.ref x]) ++ List.replicate (1 - (lg_sl ([.ref x])).length) Slot.unset).toArray = ls at hl ⊢
  have hl : lv_has ls 1 [(0, .ref x)] := hl
  obtain ⟨la, larr, lcap, ma, marr, mcap, el, bel, xo, al, am, hit, hbx, hM, hne, hMI, hMg, hIl, hB, hn, hnb⟩ := id inv
  refine lv_aload_n hx hb d_BG_drop_0 rfl (lv_at hl 0 rfl) ?_
  refine va_get (D := g.1) (ci := 0) (v := .ref la) (C := "BoxGlue") (T := kT_BG) (N := 3) hx hb hts ki_BG hown hK (k_one xo) 0 rfl rfl 0 (by decide) (hts _ kw_55) (fun _ h9 => h9) rfl d_BG_drop_1 ?_
  refine k_pure (r := .int (if k + 1 = 0 then 1 else 0)) (W.runV (As := []) (rest := []) ⟨hx, hb, hml, hown, hts⟩ (c_AL_isEmpty l g s.heap la (k + 1) el ⟨_, _, al⟩) (cwV 0 hts (kV_good kw_335 kw_332 kw_333 kw_334 kw_4) rfl rfl rfl (by decide +kernel) ⟨Nat.le_of_ble_eq_true rfl, Nat.le_of_ble_eq_true rfl⟩) (k_preV (KK_st g) hKK (kAL.recv ⟨_, _, al⟩ hK)) rfl rfl hl.1 rfl (lv_room (Nat.le_of_ble_eq_true rfl)) d_BG_drop_4 ⟨Nat.zero_le _, Nat.zero_le _⟩) ?_
  refine lv_if_eq (tgt := 13) hx hb d_BG_drop_7 (by decide) (fun c_1 => ?_) (fun c_1 => ?_)
  rotate_left
  · exact absurd c_1 (fun q => q (by rw [if_neg (by omega)]))
  refine lv_aload_n hx hb d_BG_drop_13 rfl (lv_at hl 0 rfl) ?_
  refine va_get (D := g.1) (ci := 0) (v := .ref la) (C := "BoxGlue") (T := kT_BG) (N := 3) hx hb hts ki_BG hown hK (k_one xo) 0 rfl rfl 0 (by decide) (hts _ kw_55) (fun _ h9 => h9) rfl d_BG_drop_14 ?_
  refine lv_aload_n hx hb d_BG_drop_17 rfl (lv_at hl 0 rfl) ?_
  refine va_get (D := g.1) (ci := 0) (v := .ref la) (C := "BoxGlue") (T := kT_BG) (N := 3) hx hb hts ki_BG hown hK (k_one xo) 0 rfl rfl 0 (by decide) (hts _ kw_55) (fun _ h9 => h9) rfl d_BG_drop_18 ?_
  refine k_pure (r := .int (nI (k + 1))) (W.runV (As := []) (rest := [.ref la]) ⟨hx, hb, hml, hown, hts⟩ (c_AL_size l g s.heap la (k + 1) el ⟨_, _, al⟩) (cwV 0 hts (kV_good kw_76 kw_73 kw_74 kw_75 kw_4) rfl rfl rfl (by decide +kernel) ⟨Nat.le_of_ble_eq_true rfl, Nat.le_of_ble_eq_true rfl⟩) (k_preV (KK_st g) hKK (kAL.recv ⟨_, _, al⟩ hK)) rfl rfl hl.1 rfl (lv_room (Nat.le_of_ble_eq_true rfl)) d_BG_drop_21 ⟨Nat.zero_le _, Nat.zero_le _⟩) ?_
  refine lv_iconst (v := 1) hx hb d_BG_drop_24 (by decide) ?_
  refine lv_isub hx hb d_BG_drop_25 ?_
  rw [nI_pred]
  refine k_call (A := (fun q : Nat => M q ∨ s.heap.size ≤ q)) (W.runV (As := [.int (nI k)]) (rest := []) ⟨hx, hb, hml, hown, hts⟩ (c_AL_remove l g s.heap la larr lcap k el al) (cwV 1 hts (kV_good kw_565 kw_562 kw_563 kw_564 kw_4) rfl rfl rfl (by decide +kernel) ⟨Nat.le_of_ble_eq_true rfl, Nat.le_of_ble_eq_true rfl⟩) (k_preV (KK_st g) hKK (kAL.recv ⟨_, _, al⟩ hK)) rfl rfl hl.1 rfl (lv_room (Nat.le_of_ble_eq_true rfl)) d_BG_drop_26 ⟨Nat.le_of_ble_eq_true rfl, Nat.le_of_ble_eq_true rfl⟩) (fun _ h => by cases h) (fun q h => by rcases h with h | h | h; rw [h]; exact Or.inl hM.2.1; rw [h.1]; exact Or.inl (hM.2.2.2.1 h.2); exact Or.inr h) (fun v H locs hv hL => ?_)
  obtain ⟨rfl, hE, al2⟩ := hv
  have hA : ∀ q, (q = la ∨ (q = larr ∧ 0 < lcap)) → M q := fun q h => by rcases h with h | h; rw [h]; exact hM.2.1; rw [h.1]; exact hM.2.2.2.1 h.2
  have hit2 : ∀ i, i < k → kItem g I (el i) (its i) H := fun i hi => (hit i (by omega)).kept (fun _ h => h) (fun q hq hl => hE.2 q hl (fun h => hMI q (hA q h) hq))
  obtain ⟨hEM, N, inv2, hN⟩ := kInv.list hK xo al am hit hbx hM hne hMI hMg hIl hB hnb hE al2 (Or.inl ⟨rfl, rfl⟩) hit2 (by omega)
  have xo := hE.at xo (al.apartX hK xo)
  refine lv_pop hx hb d_BG_drop_29 rfl ?_
  refine lv_aload_n hx hb d_BG_drop_30 rfl (lv_at hl 0 rfl) ?_
  refine va_get (D := g.1) (ci := 0) (v := .ref la) (C := "BoxGlue") (T := kT_BG) (N := 3) hx hb hts ki_BG hown hK (k_one xo) 0 rfl rfl 0 (by decide) (hts _ kw_55) (fun _ h9 => h9) rfl d_BG_drop_31 ?_
  refine k_pure (r := .int (nI k)) (W.runV (As := []) (rest := []) ⟨hx, hb, hml, hown, hts⟩ (c_AL_size l g H la k el ⟨_, _, al2⟩) (cwV 0 hts (kV_good kw_76 kw_73 kw_74 kw_75 kw_4) rfl rfl rfl (by decide +kernel) ⟨Nat.le_of_ble_eq_true rfl, Nat.le_of_ble_eq_true rfl⟩) (k_preV (KK_st g) hKK (kAL.recv ⟨_, _, al2⟩ hK)) rfl rfl hl.1 rfl (lv_room (Nat.le_of_ble_eq_true rfl)) d_BG_drop_34 ⟨Nat.le_of_ble_eq_true rfl, Nat.le_of_ble_eq_true rfl⟩) ?_
  exact W.iret (v := (nI k)) hx hb hr (fun t ht hW => ⟨_, rfl, rfl, by rw [ht]; exact hEM, I, N, by rw [ht]; exact inv2, hN, fun _ h => Or.inl h⟩) hL d_BG_drop_37
end
section
/-! BoxGlue: box, put, glue, kern, rule, and the constructor -/
abbrev kInvW (g : KGt) (I M : Nat → Prop) (x n : Nat) (its : Nat → Nat → Int32) (nb : Nat) (bs : Nat → BxT) (ib la larr lcap ma marr mcap : Nat) (el bel : Nat → Nat) (H : Heap) : Prop :=
  va_at g.1 kcl (x, .inr (0, [.ref la, .ref ma, .int (nI ib)])) H ∧ kALx g la larr lcap n el H ∧ kALx g ma marr mcap nb bel H ∧ (∀ i, i < n → kItem g I (el i) (its i) H) ∧ (∀ i, i < nb → kBox g I (bel i) (bs i) H) ∧
  (M x ∧ M la ∧ M ma ∧ (0 < lcap → M larr) ∧ (0 < mcap → M marr)) ∧ (la ≠ ma ∧ (0 < lcap → 0 < mcap → larr ≠ marr)) ∧ (∀ q, M q → ¬ I q) ∧ (∀ q, M q → g.2.2.1.size ≤ q ∧ q < H.size) ∧ (∀ q, I q → q < H.size) ∧ kB g H ∧ n ≤ 40 ∧ nb ≤ 60
theorem kInvW.more {g : KGt} {I J M : Nat → Prop} {x n nb ib la larr lcap ma marr mcap : Nat} {el bel : Nat → Nat} {its : Nat → Nat → Int32} {bs : Nat → BxT} {H H1 : Heap} (h : kInvW g I M x n its nb bs ib la larr lcap ma marr mcap el bel H) (hE : kE (fun _ => False) H H1) (hI : ∀ q, I q → J q) (hJ : ∀ q, J q → I q ∨ (H.size ≤ q ∧ q < H1.size)) : kInvW g J M x n its nb bs ib la larr lcap ma marr mcap el bel H1 := by
  obtain ⟨xo, al, am, hit, hbx, hM, hne, hMI, hMg, hIl, hB, hn, hnb⟩ := h
  refine ⟨hE.at xo id, al.ext hE id (fun _ => id), am.ext hE id (fun _ => id), fun i hi => (hit i hi).kept hI (fun q _ hl => hE.2 q hl id), fun i hi => (hbx i hi).kept hI (fun q _ hl => hE.2 q hl id), hM, hne, fun q hm hj => ?_, fun q hm => ⟨(hMg q hm).1, Nat.lt_of_lt_of_le (hMg q hm).2 hE.1⟩, fun q hj => ?_, hB.tr hE (fun _ _ h => h), hn, hnb⟩
  · rcases hJ q hj with h | h
    · exact hMI q hm h
    · have := (hMg q hm).2
      omega
  · rcases hJ q hj with h | h
    · exact Nat.lt_of_lt_of_le (hIl q h) hE.1
    · exact h.2
theorem kInvW.inv {g : KGt} {I M : Nat → Prop} {x n nb ib la larr lcap ma marr mcap : Nat} {el bel : Nat → Nat} {its : Nat → Nat → Int32} {bs : Nat → BxT} {H : Heap} (h : kInvW g I M x n its nb bs ib la larr lcap ma marr mcap el bel H) : kInv g I M x n its nb bs ib H := ⟨la, larr, lcap, ma, marr, mcap, el, bel, h⟩
/-- a box with nothing in it -/
def bx0 (p0 p1 p2 : Int32) : BxT := (fun k => match k with
  | 0 => p0
  | 1 => p1
  | 2 => p2
  | 4 => (-1)
  | _ => 0, 0, fun _ _ => 0, fun _ => 0, fun _ => 0)
/-- items as they are made -/
def it_put (b : BxT) (p1 : Int32) : Nat → Int32 := fun k => match k with
  | 0 => 1
  | 1 => b.1 0
  | 2 => b.1 1 - p1
  | 3 => b.1 2 + p1
  | _ => 0
def it_kern (p0 : Int32) : Nat → Int32 := fun k => match k with
  | 0 => 3
  | 1 => p0
  | _ => 0
def it_rule (p0 p1 p2 : Int32) : Nat → Int32 := fun k => match k with
  | 0 => 4
  | 1 => p0
  | 2 => p1
  | 3 => p2
  | _ => 0
def it_glue (p0 p1 p2 p3 p4 kd bl : Int32) : Nat → Int32 := fun k => match k with
  | 0 => 2
  | 1 => p0
  | 4 => p1
  | 5 => p2
  | 6 => p3
  | 7 => p4
  | 8 => kd
  | 9 => bl
  | _ => 0
set_option maxHeartbeats 4000000 in
set_option maxRecDepth 100000 in
theorem c_BG_box_bad (l : Launch) (g : KGt) (H0 : Heap) (I M : Nat → Prop) (x n : Nat) (its : Nat → Nat → Int32) (nb : Nat) (bs : Nat → BxT) (ib : Nat) (inv : kInv g I M x n its nb bs ib H0) (p0 : Int32) (p1 : Int32) (p2 : Int32) (h : f_BG_isExtent p0 = 0 ∨ f_BG_isExtent p1 = 0 ∨ f_BG_isExtent p2 = 0) : Met l y_BG_box (kW y_BG_box b_BG_box 4 (.some .int)) ({ frames := 1, cells := 0, slots := 0, locals := 20 }) (kPc [.ref x, .int p0, .int p1, .int p2] (KK g) H0) (kQc (kPure (.int (-1)) H0)) 0 0 (fun _ => False) := by
  refine Met.ofW (cc := b_BG_box) (maxL := 4) (ret := (.some .int)) (by decide) rfl ?_
  intro p e s m args below meth c s₁ B hml hv
  obtain ⟨rfl, hH, hKK⟩ := hv
  have hx := B.exec
  have hb := B.bytes
  have hr := B.returns
  have hts := kW_ts (atoms_spec (ws := kW y_BG_box b_BG_box 4 (.some .int)) B.pre)
  have hown : s.vm.findClass "BoxGlue" = some m.cls := findClass_of_methodNamed B.named
  have hlocks := B.notSynchronized
  have hK := hKK.1
  subst hH
  have hl := lv_entry ([.ref x, .int p0, .int p1, .int p2]) (n := 4) (Nat.le_of_ble_eq_true rfl)
  rw [lg_entry_eq]
  generalize (lg_sl ([.ref x, .int p0, .int p1, .int p2]) ++ List.replicate (4 - (lg_sl ([.ref x, .int p0, .int p1, .int p2])).length) Slot.unset).toArray = ls at hl ⊢
  have hl : lv_has ls 4 [(0, .ref x), (1, .int p0), (2, .int p1), (3, .int p2)] := hl
  obtain ⟨la, larr, lcap, ma, marr, mcap, el, bel, xo, al, am, hit, hbx, hM, hne, hMI, hMg, hIl, hB, hn, hnb⟩ := id inv
  refine lv_iload_n hx hb d_BG_box_0 rfl (lv_at hl 1 rfl) ?_
  refine k_pure (r := .int (f_BG_isExtent p0)) (W.runS (As := [.int p0]) (rest := []) ⟨hx, hb, hml, hown, hts⟩ (c_BG_isExtent l g s.heap p0) (va_cwS 1 hts (kS_good kw_71 kw_69 kw_70 kw_1) rfl rfl rfl (by decide +kernel) ⟨Nat.le_of_ble_eq_true rfl, Nat.le_of_ble_eq_true rfl⟩) (k_pre (KK_st g) hKK) rfl rfl hl.1 rfl (lv_room (Nat.le_of_ble_eq_true rfl)) d_BG_box_1 ⟨Nat.zero_le _, Nat.zero_le _⟩) ?_
  refine lv_if_eq (tgt := 21) hx hb d_BG_box_4 (by decide) (fun c_1 => ?_) (fun c_1 => ?_)
  · skip
    refine lv_iconst (v := (-1)) hx hb d_BG_box_21 (by decide) ?_
    exact W.iret (v := (-1)) hx hb hr (fun t ht hW => ⟨_, rfl, rfl, ht⟩) (fun _ h => by cases h) d_BG_box_22
  · skip
    refine lv_iload_n hx hb d_BG_box_7 rfl (lv_at hl 2 rfl) ?_
    refine k_pure (r := .int (f_BG_isExtent p1)) (W.runS (As := [.int p1]) (rest := []) ⟨hx, hb, hml, hown, hts⟩ (c_BG_isExtent l g s.heap p1) (va_cwS 1 hts (kS_good kw_71 kw_69 kw_70 kw_1) rfl rfl rfl (by decide +kernel) ⟨Nat.le_of_ble_eq_true rfl, Nat.le_of_ble_eq_true rfl⟩) (k_pre (KK_st g) hKK) rfl rfl hl.1 rfl (lv_room (Nat.le_of_ble_eq_true rfl)) d_BG_box_8 ⟨Nat.zero_le _, Nat.zero_le _⟩) ?_
    refine lv_if_eq (tgt := 21) hx hb d_BG_box_11 (by decide) (fun c_2 => ?_) (fun c_2 => ?_)
    · skip
      refine lv_iconst (v := (-1)) hx hb d_BG_box_21 (by decide) ?_
      exact W.iret (v := (-1)) hx hb hr (fun t ht hW => ⟨_, rfl, rfl, ht⟩) (fun _ h => by cases h) d_BG_box_22
    · skip
      refine lv_iload_n hx hb d_BG_box_14 rfl (lv_at hl 3 rfl) ?_
      refine k_pure (r := .int (f_BG_isExtent p2)) (W.runS (As := [.int p2]) (rest := []) ⟨hx, hb, hml, hown, hts⟩ (c_BG_isExtent l g s.heap p2) (va_cwS 1 hts (kS_good kw_71 kw_69 kw_70 kw_1) rfl rfl rfl (by decide +kernel) ⟨Nat.le_of_ble_eq_true rfl, Nat.le_of_ble_eq_true rfl⟩) (k_pre (KK_st g) hKK) rfl rfl hl.1 rfl (lv_room (Nat.le_of_ble_eq_true rfl)) d_BG_box_15 ⟨Nat.zero_le _, Nat.zero_le _⟩) ?_
      refine lv_if_ne (tgt := 23) hx hb d_BG_box_18 (by decide) (fun c_3 => ?_) (fun c_3 => ?_)
      · skip
        rcases h with h | h | h <;> contradiction
      · skip
        refine lv_iconst (v := (-1)) hx hb d_BG_box_21 (by decide) ?_
        exact W.iret (v := (-1)) hx hb hr (fun t ht hW => ⟨_, rfl, rfl, ht⟩) (fun _ h => by cases h) d_BG_box_22
set_option maxHeartbeats 4000000 in
set_option maxRecDepth 100000 in
theorem c_BG_box_full (l : Launch) (g : KGt) (H0 : Heap) (I M : Nat → Prop) (x n : Nat) (its : Nat → Nat → Int32) (nb : Nat) (bs : Nat → BxT) (ib : Nat) (inv : kInv g I M x n its nb bs ib H0) (p0 p1 p2 : Int32) (h0 : ¬ f_BG_isExtent p0 = 0) (h1 : ¬ f_BG_isExtent p1 = 0) (h2 : ¬ f_BG_isExtent p2 = 0) (h : nb = 60) : Met l y_BG_box (kW y_BG_box b_BG_box 4 (.some .int)) ({ frames := 1, cells := 0, slots := 0, locals := 20 }) (kPc [.ref x, .int p0, .int p1, .int p2] (KK g) H0) (kQc (kPure (.int (-2)) H0)) 0 0 (fun _ => False) := by
  refine Met.ofW (cc := b_BG_box) (maxL := 4) (ret := (.some .int)) (by decide) rfl ?_
  intro p e s m args below meth c s₁ B hml hv
  obtain ⟨rfl, hH, hKK⟩ := hv
  have hx := B.exec
  have hb := B.bytes
  have hr := B.returns
  have hts := kW_ts (atoms_spec (ws := kW y_BG_box b_BG_box 4 (.some .int)) B.pre)
  have hown : s.vm.findClass "BoxGlue" = some m.cls := findClass_of_methodNamed B.named
  have hlocks := B.notSynchronized
  have hK := hKK.1
  subst hH
  have hl := lv_entry ([.ref x, .int p0, .int p1, .int p2]) (n := 4) (Nat.le_of_ble_eq_true rfl)
  rw [lg_entry_eq]
  generalize (lg_sl ([.ref x, .int p0, .int p1, .int p2]) ++ List.replicate (4 - (lg_sl ([.ref x, .int p0, .int p1, .int p2])).length) Slot.unset).toArray = ls at hl ⊢
  have hl : lv_has ls 4 [(0, .ref x), (1, .int p0), (2, .int p1), (3, .int p2)] := hl
  obtain ⟨la, larr, lcap, ma, marr, mcap, el, bel, xo, al, am, hit, hbx, hM, hne, hMI, hMg, hIl, hB, hn, hnb⟩ := id inv
  refine lv_iload_n hx hb d_BG_box_0 rfl (lv_at hl 1 rfl) ?_
  refine k_pure (r := .int (f_BG_isExtent p0)) (W.runS (As := [.int p0]) (rest := []) ⟨hx, hb, hml, hown, hts⟩ (c_BG_isExtent l g s.heap p0) (va_cwS 1 hts (kS_good kw_71 kw_69 kw_70 kw_1) rfl rfl rfl (by decide +kernel) ⟨Nat.le_of_ble_eq_true rfl, Nat.le_of_ble_eq_true rfl⟩) (k_pre (KK_st g) hKK) rfl rfl hl.1 rfl (lv_room (Nat.le_of_ble_eq_true rfl)) d_BG_box_1 ⟨Nat.zero_le _, Nat.zero_le _⟩) ?_
  refine lv_if_eq (tgt := 21) hx hb d_BG_box_4 (by decide) (fun c_1 => ?_) (fun c_1 => ?_)
  · exact absurd c_1 h0
  refine lv_iload_n hx hb d_BG_box_7 rfl (lv_at hl 2 rfl) ?_
  refine k_pure (r := .int (f_BG_isExtent p1)) (W.runS (As := [.int p1]) (rest := []) ⟨hx, hb, hml, hown, hts⟩ (c_BG_isExtent l g s.heap p1) (va_cwS 1 hts (kS_good kw_71 kw_69 kw_70 kw_1) rfl rfl rfl (by decide +kernel) ⟨Nat.le_of_ble_eq_true rfl, Nat.le_of_ble_eq_true rfl⟩) (k_pre (KK_st g) hKK) rfl rfl hl.1 rfl (lv_room (Nat.le_of_ble_eq_true rfl)) d_BG_box_8 ⟨Nat.zero_le _, Nat.zero_le _⟩) ?_
  refine lv_if_eq (tgt := 21) hx hb d_BG_box_11 (by decide) (fun c_2 => ?_) (fun c_2 => ?_)
  · exact absurd c_2 h1
  refine lv_iload_n hx hb d_BG_box_14 rfl (lv_at hl 3 rfl) ?_
  refine k_pure (r := .int (f_BG_isExtent p2)) (W.runS (As := [.int p2]) (rest := []) ⟨hx, hb, hml, hown, hts⟩ (c_BG_isExtent l g s.heap p2) (va_cwS 1 hts (kS_good kw_71 kw_69 kw_70 kw_1) rfl rfl rfl (by decide +kernel) ⟨Nat.le_of_ble_eq_true rfl, Nat.le_of_ble_eq_true rfl⟩) (k_pre (KK_st g) hKK) rfl rfl hl.1 rfl (lv_room (Nat.le_of_ble_eq_true rfl)) d_BG_box_15 ⟨Nat.zero_le _, Nat.zero_le _⟩) ?_
  refine lv_if_ne (tgt := 23) hx hb d_BG_box_18 (by decide) (fun c_3 => ?_) (fun c_3 => ?_)
  rotate_left
  · exact absurd c_3 h2
  refine lv_aload_n hx hb d_BG_box_23 rfl (lv_at hl 0 rfl) ?_
  refine va_get (D := g.1) (ci := 0) (v := .ref ma) (C := "BoxGlue") (T := kT_BG) (N := 3) hx hb hts ki_BG hown hK (k_one xo) 0 rfl rfl 1 (by decide) (hts _ kw_56) (fun _ h9 => h9) rfl d_BG_box_24 ?_
  refine k_pure (r := .int (nI nb)) (W.runV (As := []) (rest := []) ⟨hx, hb, hml, hown, hts⟩ (c_AL_size l g s.heap ma nb bel ⟨_, _, am⟩) (cwV 0 hts (kV_good kw_76 kw_73 kw_74 kw_75 kw_4) rfl rfl rfl (by decide +kernel) ⟨Nat.le_of_ble_eq_true rfl, Nat.le_of_ble_eq_true rfl⟩) (k_preV (KK_st g) hKK (kAL.recv ⟨_, _, am⟩ hK)) rfl rfl hl.1 rfl (lv_room (Nat.le_of_ble_eq_true rfl)) d_BG_box_27 ⟨Nat.zero_le _, Nat.zero_le _⟩) ?_
  refine lv_bipush (v := 60) hx hb d_BG_box_30 (by decide) ?_
  refine lv_icmp_lt (tgt := 38) hx hb d_BG_box_32 (by decide) (fun c_4 => ?_) (fun c_4 => ?_)
  · exact absurd c_4 (by rw [h]; decide)
  refine lv_bipush (v := (-2)) hx hb d_BG_box_35 (by decide) ?_
  exact W.iret (v := (-2)) hx hb hr (fun t ht hW => ⟨_, rfl, rfl, ht⟩) (fun _ h => by cases h) d_BG_box_37
set_option maxHeartbeats 4000000 in
set_option maxRecDepth 100000 in
theorem c_BG_box_ok (l : Launch) (g : KGt) (H0 : Heap) (I M : Nat → Prop) (x n : Nat) (its : Nat → Nat → Int32) (nb : Nat) (bs : Nat → BxT) (ib : Nat) (inv : kInv g I M x n its nb bs ib H0) (p0 p1 p2 : Int32) (h0 : ¬ f_BG_isExtent p0 = 0) (h1 : ¬ f_BG_isExtent p1 = 0) (h2 : ¬ f_BG_isExtent p2 = 0) (h : nb < 60) : Met l y_BG_box (kW y_BG_box b_BG_box 4 (.some .int)) ({ frames := 7, cells := 4, slots := 112, locals := 171 }) (kPc [.ref x, .int p0, .int p1, .int p2] (KK g) H0) (kQc (kPost g I M x n its (nb + 1) (va_up bs nb (bx0 p0 p1 p2)) ib (.int (nI nb)) H0)) 4 112 (fun q : Nat => M q ∨ H0.size ≤ q) := by
  refine Met.ofW (cc := b_BG_box) (maxL := 4) (ret := (.some .int)) (by decide) rfl ?_
  intro p e s m args below meth c s₁ B hml hv
  obtain ⟨rfl, hH, hKK⟩ := hv
  have hx := B.exec
  have hb := B.bytes
  have hr := B.returns
  have hts := kW_ts (atoms_spec (ws := kW y_BG_box b_BG_box 4 (.some .int)) B.pre)
  have hown : s.vm.findClass "BoxGlue" = some m.cls := findClass_of_methodNamed B.named
  have hlocks := B.notSynchronized
  have hK := hKK.1
  subst hH
  have hl := lv_entry ([.ref x, .int p0, .int p1, .int p2]) (n := 4) (Nat.le_of_ble_eq_true rfl)
  rw [lg_entry_eq]
  generalize (lg_sl ([.ref x, .int p0, .int p1, .int p2]) ++ List.replicate (4 - (lg_sl ([.ref x, .int p0, .int p1, .int p2])).length) Slot.unset).toArray = ls at hl ⊢
  have hl : lv_has ls 4 [(0, .ref x), (1, .int p0), (2, .int p1), (3, .int p2)] := hl
  obtain ⟨la, larr, lcap, ma, marr, mcap, el, bel, xo, al, am, hit, hbx, hM, hne, hMI, hMg, hIl, hB, hn, hnb⟩ := id inv
  refine lv_iload_n hx hb d_BG_box_0 rfl (lv_at hl 1 rfl) ?_
  refine k_pure (r := .int (f_BG_isExtent p0)) (W.runS (As := [.int p0]) (rest := []) ⟨hx, hb, hml, hown, hts⟩ (c_BG_isExtent l g s.heap p0) (va_cwS 1 hts (kS_good kw_71 kw_69 kw_70 kw_1) rfl rfl rfl (by decide +kernel) ⟨Nat.le_of_ble_eq_true rfl, Nat.le_of_ble_eq_true rfl⟩) (k_pre (KK_st g) hKK) rfl rfl hl.1 rfl (lv_room (Nat.le_of_ble_eq_true rfl)) d_BG_box_1 ⟨Nat.zero_le _, Nat.zero_le _⟩) ?_
  refine lv_if_eq (tgt := 21) hx hb d_BG_box_4 (by decide) (fun c_1 => ?_) (fun c_1 => ?_)
  · exact absurd c_1 h0
  refine lv_iload_n hx hb d_BG_box_7 rfl (lv_at hl 2 rfl) ?_
  refine k_pure (r := .int (f_BG_isExtent p1)) (W.runS (As := [.int p1]) (rest := []) ⟨hx, hb, hml, hown, hts⟩ (c_BG_isExtent l g s.heap p1) (va_cwS 1 hts (kS_good kw_71 kw_69 kw_70 kw_1) rfl rfl rfl (by decide +kernel) ⟨Nat.le_of_ble_eq_true rfl, Nat.le_of_ble_eq_true rfl⟩) (k_pre (KK_st g) hKK) rfl rfl hl.1 rfl (lv_room (Nat.le_of_ble_eq_true rfl)) d_BG_box_8 ⟨Nat.zero_le _, Nat.zero_le _⟩) ?_
  refine lv_if_eq (tgt := 21) hx hb d_BG_box_11 (by decide) (fun c_2 => ?_) (fun c_2 => ?_)
  · exact absurd c_2 h1
  refine lv_iload_n hx hb d_BG_box_14 rfl (lv_at hl 3 rfl) ?_
  refine k_pure (r := .int (f_BG_isExtent p2)) (W.runS (As := [.int p2]) (rest := []) ⟨hx, hb, hml, hown, hts⟩ (c_BG_isExtent l g s.heap p2) (va_cwS 1 hts (kS_good kw_71 kw_69 kw_70 kw_1) rfl rfl rfl (by decide +kernel) ⟨Nat.le_of_ble_eq_true rfl, Nat.le_of_ble_eq_true rfl⟩) (k_pre (KK_st g) hKK) rfl rfl hl.1 rfl (lv_room (Nat.le_of_ble_eq_true rfl)) d_BG_box_15 ⟨Nat.zero_le _, Nat.zero_le _⟩) ?_
  refine lv_if_ne (tgt := 23) hx hb d_BG_box_18 (by decide) (fun c_3 => ?_) (fun c_3 => ?_)
  rotate_left
  · exact absurd c_3 h2
  refine lv_aload_n hx hb d_BG_box_23 rfl (lv_at hl 0 rfl) ?_
  refine va_get (D := g.1) (ci := 0) (v := .ref ma) (C := "BoxGlue") (T := kT_BG) (N := 3) hx hb hts ki_BG hown hK (k_one xo) 0 rfl rfl 1 (by decide) (hts _ kw_56) (fun _ h9 => h9) rfl d_BG_box_24 ?_
  refine k_pure (r := .int (nI nb)) (W.runV (As := []) (rest := []) ⟨hx, hb, hml, hown, hts⟩ (c_AL_size l g s.heap ma nb bel ⟨_, _, am⟩) (cwV 0 hts (kV_good kw_76 kw_73 kw_74 kw_75 kw_4) rfl rfl rfl (by decide +kernel) ⟨Nat.le_of_ble_eq_true rfl, Nat.le_of_ble_eq_true rfl⟩) (k_preV (KK_st g) hKK (kAL.recv ⟨_, _, am⟩ hK)) rfl rfl hl.1 rfl (lv_room (Nat.le_of_ble_eq_true rfl)) d_BG_box_27 ⟨Nat.zero_le _, Nat.zero_le _⟩) ?_
  refine lv_bipush (v := 60) hx hb d_BG_box_30 (by decide) ?_
  refine lv_icmp_lt (tgt := 38) hx hb d_BG_box_32 (by decide) (fun c_4 => ?_) (fun c_4 => ?_)
  rotate_left
  · exact absurd c_4 (fun q => q (by rw [show (60 : Int32) = nI 60 from rfl]; exact nI_lt h (by decide)))
  refine lv_aload_n hx hb d_BG_box_38 rfl (lv_at hl 0 rfl) ?_
  refine va_get (D := g.1) (ci := 0) (v := .ref ma) (C := "BoxGlue") (T := kT_BG) (N := 3) hx hb hts ki_BG hown hK (k_one xo) 0 rfl rfl 1 (by decide) (hts _ kw_56) (fun _ h9 => h9) rfl d_BG_box_39 ?_
  refine lv_iload_n hx hb d_BG_box_42 rfl (lv_at hl 1 rfl) ?_
  refine lv_iload_n hx hb d_BG_box_43 rfl (lv_at hl 2 rfl) ?_
  refine lv_iload_n hx hb d_BG_box_44 rfl (lv_at hl 3 rfl) ?_
  refine k_call (A := (fun q : Nat => M q ∨ s.heap.size ≤ q)) (W.runS (As := [.int p0, .int p1, .int p2]) (rest := [.ref ma]) ⟨hx, hb, hml, hown, hts⟩ (c_Box_bare l g s.heap hB p0 p1 p2) (va_cwS 3 hts (kS_good kw_79 kw_77 kw_78 kw_6) rfl rfl rfl (by decide +kernel) ⟨Nat.le_of_ble_eq_true rfl, Nat.le_of_ble_eq_true rfl⟩) (k_pre (KK_st g) hKK) rfl rfl hl.1 rfl (lv_room (Nat.le_of_ble_eq_true rfl)) d_BG_box_45 ⟨Nat.le_of_ble_eq_true rfl, Nat.le_of_ble_eq_true rfl⟩) (fun _ h => by cases h) (fun q h => Or.inr h) (fun v H locs hv hL => ?_)
  obtain ⟨bq, fq, cq, rfl, g1, g2, g3, hE, bo, fo, co⟩ := hv
  have iw := kInvW.more (⟨xo, al, am, hit, hbx, hM, hne, hMI, hMg, hIl, hB, hn, hnb⟩ : kInvW g I M x n its nb bs ib la larr lcap ma marr mcap el bel s.heap) hE (J := fun q => I q ∨ q = bq ∨ q = fq ∨ q = cq) (fun q h => Or.inl h) (fun q h => by rcases h with h | rfl | rfl | rfl; exact Or.inl h; exact Or.inr ⟨g1, bo.lt⟩; exact Or.inr ⟨g2, fo.lt⟩; exact Or.inr ⟨g3, co.lt⟩)
  obtain ⟨xo, al, am, hit, hbx, hM, hne, hMI, hMg, hIl, hB, hn, hnb⟩ := iw
  have hbn : kBox g (fun q => I q ∨ q = bq ∨ q = fq ∨ q = cq) bq (bx0 p0 p1 p2) H := ⟨Or.inr (Or.inl rfl), cq, fq, g.2.2.2.1, 0, fun _ => 0, bo, Or.inr (Or.inr (Or.inl rfl)), fo, Or.inr (Or.inr (Or.inr rfl)), fun h => absurd h (by omega), ⟨0, by show va_at g.1 kcl (cq, .inr (1, [.ref g.2.2.2.1, .int (nI 0), .int 0])) H; rw [nI_0]; exact co, Or.inl ⟨rfl, rfl, rfl⟩⟩, fun i hi => absurd hi (Nat.not_lt_zero i)⟩
  refine k_call (A := (fun q : Nat => M q ∨ s.heap.size ≤ q)) (W.runV (As := [.ref bq]) (rest := []) ⟨hx, hb, hml, hown, hts⟩ (c_AL_add l g H ma marr mcap nb bq bel hB am (hMg ma hM.2.2.1).1 (by omega) (fun i hi => (hbx i hi).obj) hbn.obj) (cwV 1 hts (kV_good kw_135 kw_132 kw_133 kw_134 kw_4) rfl rfl rfl (by decide +kernel) ⟨Nat.le_of_ble_eq_true rfl, Nat.le_of_ble_eq_true rfl⟩) (k_preV (KK_st g) hKK (kAL.recv ⟨_, _, am⟩ hK)) rfl rfl hl.1 rfl (lv_room (Nat.le_of_ble_eq_true rfl)) d_BG_box_48 ⟨Nat.le_of_ble_eq_true rfl, Nat.le_of_ble_eq_true rfl⟩) hL (fun q h => by rcases h with h | h | h; rw [h]; exact Or.inl hM.2.2.1; rw [h.1]; exact Or.inl (hM.2.2.2.2 h.2); exact Or.inr (Nat.le_trans hE.1 h)) (fun v H2 locs hv hL => ?_)
  obtain ⟨rfl, arr2, cap2, hE2, h4, am2⟩ := hv
  have hA2 : ∀ q, (q = ma ∨ (q = marr ∧ 0 < mcap)) → M q := fun q h => by rcases h with h | h; rw [h]; exact hM.2.2.1; rw [h.1]; exact hM.2.2.2.2 h.2
  have hbx2 : ∀ i, i < nb + 1 → kBox g (fun q => I q ∨ q = bq ∨ q = fq ∨ q = cq) (va_up bel nb bq i) (va_up bs nb (bx0 p0 p1 p2) i) H2 := by
    intro i hi
    by_cases e : i = nb
    · subst e; rw [va_up_self, va_up_self]; exact hbn.kept (fun _ h => h) (fun q hq hl => hE2.2 q hl (fun h => hMI q (hA2 q h) hq))
    · rw [va_up_ne _ _ e, va_up_ne _ _ e]; exact (hbx i (by omega)).kept (fun _ h => h) (fun q hq hl => hE2.2 q hl (fun h => hMI q (hA2 q h) hq))
  obtain ⟨hEM, N, inv2, hN⟩ := kInv.made hK xo al am hit hbx hM hne hMI hMg hIl hB hn hE2 am2 h4 hbx2 (by omega)
  have xo := hE2.at xo (am.apartX hK xo)
  refine lv_pop hx hb d_BG_box_51 rfl ?_
  refine lv_aload_n hx hb d_BG_box_52 rfl (lv_at hl 0 rfl) ?_
  refine va_get (D := g.1) (ci := 0) (v := .ref ma) (C := "BoxGlue") (T := kT_BG) (N := 3) hx hb hts ki_BG hown hK (k_one xo) 0 rfl rfl 1 (by decide) (hts _ kw_56) (fun _ h9 => h9) rfl d_BG_box_53 ?_
  refine k_pure (r := .int (nI (nb + 1))) (W.runV (As := []) (rest := []) ⟨hx, hb, hml, hown, hts⟩ (c_AL_size l g H2 ma (nb + 1) (va_up bel nb bq) ⟨_, _, am2⟩) (cwV 0 hts (kV_good kw_76 kw_73 kw_74 kw_75 kw_4) rfl rfl rfl (by decide +kernel) ⟨Nat.le_of_ble_eq_true rfl, Nat.le_of_ble_eq_true rfl⟩) (k_preV (KK_st g) hKK (kAL.recv ⟨_, _, am2⟩ hK)) rfl rfl hl.1 rfl (lv_room (Nat.le_of_ble_eq_true rfl)) d_BG_box_56 ⟨Nat.le_of_ble_eq_true rfl, Nat.le_of_ble_eq_true rfl⟩) ?_
  refine lv_iconst (v := 1) hx hb d_BG_box_59 (by decide) ?_
  refine lv_isub hx hb d_BG_box_60 ?_
  rw [nI_pred]
  exact W.iret (v := (nI nb)) hx hb hr (fun t ht hW => ⟨_, rfl, rfl, by rw [ht]; exact (hE.wk (fun _ _ h => h.elim)).tr hEM (fun _ _ h => h), (fun q => I q ∨ q = bq ∨ q = fq ∨ q = cq), N, by rw [ht]; exact inv2, fun q h => (hN q h).elim Or.inl (fun h => Or.inr (Nat.le_trans hE.1 h)), (fun q h => by rcases h with h | h | h | h; exact Or.inl h; rw [h]; exact Or.inr g1; rw [h]; exact Or.inr g2; rw [h]; exact Or.inr g3)⟩) hL d_BG_box_61
set_option maxHeartbeats 4000000 in
set_option maxRecDepth 100000 in
theorem c_BG_kern_bad (l : Launch) (g : KGt) (H0 : Heap) (I M : Nat → Prop) (x n : Nat) (its : Nat → Nat → Int32) (nb : Nat) (bs : Nat → BxT) (ib : Nat) (inv : kInv g I M x n its nb bs ib H0) (p0 : Int32) (h : f_BG_isLength p0 = 0) : Met l y_BG_kern (kW y_BG_kern b_BG_kern 2 (.some .int)) ({ frames := 1, cells := 0, slots := 0, locals := 20 }) (kPc [.ref x, .int p0] (KK g) H0) (kQc (kPure (.int (-1)) H0)) 0 0 (fun _ => False) := by
  refine Met.ofW (cc := b_BG_kern) (maxL := 2) (ret := (.some .int)) (by decide) rfl ?_
  intro p e s m args below meth c s₁ B hml hv
  obtain ⟨rfl, hH, hKK⟩ := hv
  have hx := B.exec
  have hb := B.bytes
  have hr := B.returns
  have hts := kW_ts (atoms_spec (ws := kW y_BG_kern b_BG_kern 2 (.some .int)) B.pre)
  have hown : s.vm.findClass "BoxGlue" = some m.cls := findClass_of_methodNamed B.named
  have hlocks := B.notSynchronized
  have hK := hKK.1
  subst hH
  have hl := lv_entry ([.ref x, .int p0]) (n := 2) (Nat.le_of_ble_eq_true rfl)
  rw [lg_entry_eq]
  generalize (lg_sl ([.ref x, .int p0]) ++ List.replicate (2 - (lg_sl ([.ref x, .int p0])).length) Slot.unset).toArray = ls at hl ⊢
  have hl : lv_has ls 2 [(0, .ref x), (1, .int p0)] := hl
  obtain ⟨la, larr, lcap, ma, marr, mcap, el, bel, xo, al, am, hit, hbx, hM, hne, hMI, hMg, hIl, hB, hn, hnb⟩ := id inv
  refine lv_iload_n hx hb d_BG_kern_0 rfl (lv_at hl 1 rfl) ?_
  refine k_pure (r := .int (f_BG_isLength p0)) (W.runS (As := [.int p0]) (rest := []) ⟨hx, hb, hml, hown, hts⟩ (c_BG_isLength l g s.heap p0) (va_cwS 1 hts (kS_good kw_200 kw_198 kw_199 kw_1) rfl rfl rfl (by decide +kernel) ⟨Nat.le_of_ble_eq_true rfl, Nat.le_of_ble_eq_true rfl⟩) (k_pre (KK_st g) hKK) rfl rfl hl.1 rfl (lv_room (Nat.le_of_ble_eq_true rfl)) d_BG_kern_1 ⟨Nat.zero_le _, Nat.zero_le _⟩) ?_
  refine lv_if_ne (tgt := 9) hx hb d_BG_kern_4 (by decide) (fun c_1 => ?_) (fun c_1 => ?_)
  · skip
    rcases h with h <;> contradiction
  · skip
    refine lv_iconst (v := (-1)) hx hb d_BG_kern_7 (by decide) ?_
    exact W.iret (v := (-1)) hx hb hr (fun t ht hW => ⟨_, rfl, rfl, ht⟩) (fun _ h => by cases h) d_BG_kern_8
set_option maxHeartbeats 4000000 in
set_option maxRecDepth 100000 in
theorem c_BG_kern_full (l : Launch) (g : KGt) (H0 : Heap) (I M : Nat → Prop) (x n : Nat) (its : Nat → Nat → Int32) (nb : Nat) (bs : Nat → BxT) (ib : Nat) (inv : kInv g I M x n its nb bs ib H0) (p0 : Int32) (h0 : ¬ f_BG_isLength p0 = 0) (hfull : n = 40) : Met l y_BG_kern (kW y_BG_kern b_BG_kern 2 (.some .int)) ({ frames := 8, cells := 2, slots := 102, locals := 192 }) (kPc [.ref x, .int p0] (KK g) H0) (kQc (kPost g I M x n its nb bs ib (.int (-2)) H0)) 2 102 (fun q : Nat => M q ∨ H0.size ≤ q) := by
  refine Met.ofW (cc := b_BG_kern) (maxL := 2) (ret := (.some .int)) (by decide) rfl ?_
  intro p e s m args below meth c s₁ B hml hv
  obtain ⟨rfl, hH, hKK⟩ := hv
  have hx := B.exec
  have hb := B.bytes
  have hr := B.returns
  have hts := kW_ts (atoms_spec (ws := kW y_BG_kern b_BG_kern 2 (.some .int)) B.pre)
  have hown : s.vm.findClass "BoxGlue" = some m.cls := findClass_of_methodNamed B.named
  have hlocks := B.notSynchronized
  have hK := hKK.1
  subst hH
  have hl := lv_entry ([.ref x, .int p0]) (n := 2) (Nat.le_of_ble_eq_true rfl)
  rw [lg_entry_eq]
  generalize (lg_sl ([.ref x, .int p0]) ++ List.replicate (2 - (lg_sl ([.ref x, .int p0])).length) Slot.unset).toArray = ls at hl ⊢
  have hl : lv_has ls 2 [(0, .ref x), (1, .int p0)] := hl
  obtain ⟨la, larr, lcap, ma, marr, mcap, el, bel, xo, al, am, hit, hbx, hM, hne, hMI, hMg, hIl, hB, hn, hnb⟩ := id inv
  refine lv_iload_n hx hb d_BG_kern_0 rfl (lv_at hl 1 rfl) ?_
  refine k_pure (r := .int (f_BG_isLength p0)) (W.runS (As := [.int p0]) (rest := []) ⟨hx, hb, hml, hown, hts⟩ (c_BG_isLength l g s.heap p0) (va_cwS 1 hts (kS_good kw_200 kw_198 kw_199 kw_1) rfl rfl rfl (by decide +kernel) ⟨Nat.le_of_ble_eq_true rfl, Nat.le_of_ble_eq_true rfl⟩) (k_pre (KK_st g) hKK) rfl rfl hl.1 rfl (lv_room (Nat.le_of_ble_eq_true rfl)) d_BG_kern_1 ⟨Nat.zero_le _, Nat.zero_le _⟩) ?_
  refine lv_if_ne (tgt := 9) hx hb d_BG_kern_4 (by decide) (fun c_1 => ?_) (fun c_1 => ?_)
  rotate_left
  · exact absurd c_1 h0
  refine lv_aload_n hx hb d_BG_kern_9 rfl (lv_at hl 0 rfl) ?_
  refine k_new (D := g.1) (ci := 6) (fs := [.int 0, .int 0]) (C := "BoxGlue$Kern") (T := kT_Kern) (N := 2) hx hb hts ki_Kern kt_Kern ko_Kern hown (hts _ kw_296) (hts _ kw_297) (hts _ kw_18) hK rfl (fun j hj => by rcases (show j = 0 ∨ j = 1 by omega) with rfl | rfl <;> rfl) (Nat.le_of_ble_eq_true rfl) (Nat.le_of_ble_eq_true rfl) d_BG_kern_10 (fun a H1 e_a p1 hN => ?_)
  have hN0 := hN
  refine lv_dup hx hb d_BG_kern_13 rfl ?_
  refine lv_iload_n hx hb d_BG_kern_14 rfl (lv_at hl 1 rfl) ?_
  refine k_call (A := (fun q : Nat => M q ∨ s.heap.size ≤ q)) (W.runI (As := [.int p0]) (rest := [.ref a, .ref x]) ⟨hx, hb, hml, hown, hts⟩ (c_Kern_init l g H1 a p0 p1) (cwI 1 hts (kW_good kw_300) rfl rfl rfl (hts _ kw_18) (hts _ kw_298) (hts _ kw_299) rfl (by decide +kernel) ⟨Nat.le_of_ble_eq_true rfl, Nat.le_of_ble_eq_true rfl⟩) (k_pre (KK_st g) hKK) rfl rfl hl.1 rfl (lv_room (Nat.le_of_ble_eq_true rfl)) d_BG_kern_15 ⟨Nat.le_of_ble_eq_true rfl, Nat.le_of_ble_eq_true rfl⟩) (fun _ h => by cases h) (fun q h => by rcases h with h | h; rw [h, e_a]; exact Or.inr (Nat.le_refl _); exact Or.inr (Nat.le_trans hN.1 h)) (fun v H locs hv hL => ?_)
  obtain ⟨rfl, hE2, o2⟩ := hv
  have hE : kE (fun _ => False) s.heap H := hN.tr hE2 (fun z hz h => by omega)
  have iw := kInvW.more (⟨xo, al, am, hit, hbx, hM, hne, hMI, hMg, hIl, hB, hn, hnb⟩ : kInvW g I M x n its nb bs ib la larr lcap ma marr mcap el bel s.heap) hE (J := fun q => I q ∨ q = a) (fun q h => Or.inl h) (fun q h => by rcases h with h | rfl; exact Or.inl h; exact Or.inr ⟨by omega, o2.lt⟩)
  have hJ : ∀ q, (I q ∨ q = a) → I q ∨ s.heap.size ≤ q := fun q h => by rcases h with h | h; exact Or.inl h; rw [h, e_a]; exact Or.inr (Nat.le_refl _)
  have ha : kItem g (fun q => I q ∨ q = a) a (it_kern p0) H := ⟨Or.inr rfl, Or.inr (Or.inr (Or.inl ⟨rfl, o2⟩))⟩
  refine k_pure (r := .int (-2)) (W.runV (As := [.ref a]) (rest := []) ⟨hx, hb, hml, hown, hts⟩ (c_BG_append_full l g H (fun q => I q ∨ q = a) M x n its nb bs ib iw.inv a hfull) (cwV 1 hts (kV_good kw_247 kw_244 kw_246 ks_BG_append kw_1) rfl rfl rfl (by decide +kernel) ⟨Nat.le_of_ble_eq_true rfl, Nat.le_of_ble_eq_true rfl⟩) (k_preV (KK_st g) hKK (va_recv hK (k_one iw.1) (ci := 0) (q0 := 0) rfl rfl)) rfl rfl hl.1 rfl (lv_room (Nat.le_of_ble_eq_true rfl)) d_BG_kern_18 ⟨Nat.le_of_ble_eq_true rfl, Nat.le_of_ble_eq_true rfl⟩) ?_
  refine W.widen (k := 2) (n := 102) (by omega) (by omega) ?_
  exact W.iret (v := (-2)) hx hb hr (fun t ht hW => ⟨_, rfl, rfl, by rw [ht]; exact hE.wk (fun _ _ h => h.elim), (fun q => I q ∨ q = a), M, by rw [ht]; exact iw.inv, fun _ h => Or.inl h, hJ⟩) hL d_BG_kern_21
set_option maxHeartbeats 4000000 in
set_option maxRecDepth 100000 in
theorem c_BG_kern_ok (l : Launch) (g : KGt) (H0 : Heap) (I M : Nat → Prop) (x n : Nat) (its : Nat → Nat → Int32) (nb : Nat) (bs : Nat → BxT) (ib : Nat) (inv : kInv g I M x n its nb bs ib H0) (p0 : Int32) (h0 : ¬ f_BG_isLength p0 = 0) (hok : n < 40) : Met l y_BG_kern (kW y_BG_kern b_BG_kern 2 (.some .int)) ({ frames := 8, cells := 2, slots := 102, locals := 192 }) (kPc [.ref x, .int p0] (KK g) H0) (kQc (kPost g I M x (n + 1) (va_up its n (it_kern p0)) nb bs ib (.int (nI (n + 1))) H0)) 2 102 (fun q : Nat => M q ∨ H0.size ≤ q) := by
  refine Met.ofW (cc := b_BG_kern) (maxL := 2) (ret := (.some .int)) (by decide) rfl ?_
  intro p e s m args below meth c s₁ B hml hv
  obtain ⟨rfl, hH, hKK⟩ := hv
  have hx := B.exec
  have hb := B.bytes
  have hr := B.returns
  have hts := kW_ts (atoms_spec (ws := kW y_BG_kern b_BG_kern 2 (.some .int)) B.pre)
  have hown : s.vm.findClass "BoxGlue" = some m.cls := findClass_of_methodNamed B.named
  have hlocks := B.notSynchronized
  have hK := hKK.1
  subst hH
  have hl := lv_entry ([.ref x, .int p0]) (n := 2) (Nat.le_of_ble_eq_true rfl)
  rw [lg_entry_eq]
  generalize (lg_sl ([.ref x, .int p0]) ++ List.replicate (2 - (lg_sl ([.ref x, .int p0])).length) Slot.unset).toArray = ls at hl ⊢
  have hl : lv_has ls 2 [(0, .ref x), (1, .int p0)] := hl
  obtain ⟨la, larr, lcap, ma, marr, mcap, el, bel, xo, al, am, hit, hbx, hM, hne, hMI, hMg, hIl, hB, hn, hnb⟩ := id inv
  refine lv_iload_n hx hb d_BG_kern_0 rfl (lv_at hl 1 rfl) ?_
  refine k_pure (r := .int (f_BG_isLength p0)) (W.runS (As := [.int p0]) (rest := []) ⟨hx, hb, hml, hown, hts⟩ (c_BG_isLength l g s.heap p0) (va_cwS 1 hts (kS_good kw_200 kw_198 kw_199 kw_1) rfl rfl rfl (by decide +kernel) ⟨Nat.le_of_ble_eq_true rfl, Nat.le_of_ble_eq_true rfl⟩) (k_pre (KK_st g) hKK) rfl rfl hl.1 rfl (lv_room (Nat.le_of_ble_eq_true rfl)) d_BG_kern_1 ⟨Nat.zero_le _, Nat.zero_le _⟩) ?_
  refine lv_if_ne (tgt := 9) hx hb d_BG_kern_4 (by decide) (fun c_1 => ?_) (fun c_1 => ?_)
  rotate_left
  · exact absurd c_1 h0
  refine lv_aload_n hx hb d_BG_kern_9 rfl (lv_at hl 0 rfl) ?_
  refine k_new (D := g.1) (ci := 6) (fs := [.int 0, .int 0]) (C := "BoxGlue$Kern") (T := kT_Kern) (N := 2) hx hb hts ki_Kern kt_Kern ko_Kern hown (hts _ kw_296) (hts _ kw_297) (hts _ kw_18) hK rfl (fun j hj => by rcases (show j = 0 ∨ j = 1 by omega) with rfl | rfl <;> rfl) (Nat.le_of_ble_eq_true rfl) (Nat.le_of_ble_eq_true rfl) d_BG_kern_10 (fun a H1 e_a p1 hN => ?_)
  have hN0 := hN
  refine lv_dup hx hb d_BG_kern_13 rfl ?_
  refine lv_iload_n hx hb d_BG_kern_14 rfl (lv_at hl 1 rfl) ?_
  refine k_call (A := (fun q : Nat => M q ∨ s.heap.size ≤ q)) (W.runI (As := [.int p0]) (rest := [.ref a, .ref x]) ⟨hx, hb, hml, hown, hts⟩ (c_Kern_init l g H1 a p0 p1) (cwI 1 hts (kW_good kw_300) rfl rfl rfl (hts _ kw_18) (hts _ kw_298) (hts _ kw_299) rfl (by decide +kernel) ⟨Nat.le_of_ble_eq_true rfl, Nat.le_of_ble_eq_true rfl⟩) (k_pre (KK_st g) hKK) rfl rfl hl.1 rfl (lv_room (Nat.le_of_ble_eq_true rfl)) d_BG_kern_15 ⟨Nat.le_of_ble_eq_true rfl, Nat.le_of_ble_eq_true rfl⟩) (fun _ h => by cases h) (fun q h => by rcases h with h | h; rw [h, e_a]; exact Or.inr (Nat.le_refl _); exact Or.inr (Nat.le_trans hN.1 h)) (fun v H locs hv hL => ?_)
  obtain ⟨rfl, hE2, o2⟩ := hv
  have hE : kE (fun _ => False) s.heap H := hN.tr hE2 (fun z hz h => by omega)
  have iw := kInvW.more (⟨xo, al, am, hit, hbx, hM, hne, hMI, hMg, hIl, hB, hn, hnb⟩ : kInvW g I M x n its nb bs ib la larr lcap ma marr mcap el bel s.heap) hE (J := fun q => I q ∨ q = a) (fun q h => Or.inl h) (fun q h => by rcases h with h | rfl; exact Or.inl h; exact Or.inr ⟨by omega, o2.lt⟩)
  have hJ : ∀ q, (I q ∨ q = a) → I q ∨ s.heap.size ≤ q := fun q h => by rcases h with h | h; exact Or.inl h; rw [h, e_a]; exact Or.inr (Nat.le_refl _)
  have ha : kItem g (fun q => I q ∨ q = a) a (it_kern p0) H := ⟨Or.inr rfl, Or.inr (Or.inr (Or.inl ⟨rfl, o2⟩))⟩
  refine k_call (A := (fun q : Nat => M q ∨ s.heap.size ≤ q)) (W.runV (As := [.ref a]) (rest := []) ⟨hx, hb, hml, hown, hts⟩ (c_BG_append_ok l g H (fun q => I q ∨ q = a) M x n its nb bs ib iw.inv a (it_kern p0) hok ha) (cwV 1 hts (kV_good kw_247 kw_244 kw_246 ks_BG_append kw_1) rfl rfl rfl (by decide +kernel) ⟨Nat.le_of_ble_eq_true rfl, Nat.le_of_ble_eq_true rfl⟩) (k_preV (KK_st g) hKK (va_recv hK (k_one iw.1) (ci := 0) (q0 := 0) rfl rfl)) rfl rfl hl.1 rfl (lv_room (Nat.le_of_ble_eq_true rfl)) d_BG_kern_18 ⟨Nat.le_of_ble_eq_true rfl, Nat.le_of_ble_eq_true rfl⟩) hL (fun q h => h.elim Or.inl (fun h => Or.inr (Nat.le_trans hE.1 h))) (fun v H9 locs hv hL => ?_)
  obtain ⟨rfl, hEM, J9, N9, inv9, hN9, hJ9⟩ := hv
  exact W.iret (v := (nI (n + 1))) hx hb hr (fun t ht hW => ⟨_, rfl, rfl, by rw [ht]; exact (hE.wk (fun _ _ h => h.elim)).tr hEM (fun _ _ h => h), J9, N9, by rw [ht]; exact inv9, fun q h => (hN9 q h).elim Or.inl (fun h => Or.inr (Nat.le_trans hE.1 h)), fun q h => (hJ9 q h).elim (hJ q) (fun h => Or.inr (Nat.le_trans hE.1 h))⟩) hL d_BG_kern_21
end
