/-! words of the tables, each with its place -/
def kG : List Cond := lw_tbl.filter goodWord
theorem kG_in {w : Cond} (h : w ∈ kG) : w ∈ lw_tbl := (List.mem_filter.mp h).1
theorem kG_good : GoodIn kG kG := fun w h => ⟨h, good_of_word (List.mem_filter.mp h).2⟩
theorem kG_of {w : Cond} (h : w ∈ tables_1) (g : goodWord w = true) : w ∈ kG := List.mem_filter.mpr ⟨List.mem_append_right _ h, g⟩
theorem kG_sel {w : Cond} (h : w ∈ k2_sels lw_privs) (g : goodWord w = true) : w ∈ kG := List.mem_filter.mpr ⟨List.mem_append_left _ h, g⟩
theorem k1 {w : Cond} {i : Nat} (h : tables_1_1[i]? = some w) : w ∈ tables_1 := List.mem_append_left _ (List.mem_of_getElem? h)
theorem k2 {w : Cond} {i : Nat} (h : tables_1_2[i]? = some w) : w ∈ tables_1 := List.mem_append_right _ (List.mem_append_left _ (List.mem_of_getElem? h))
theorem k3 {w : Cond} {i : Nat} (h : tables_1_3[i]? = some w) : w ∈ tables_1 := List.mem_append_right _ (List.mem_append_right _ (List.mem_append_left _ (List.mem_of_getElem? h)))
theorem k4 {w : Cond} {i : Nat} (h : tables_1_4[i]? = some w) : w ∈ tables_1 := List.mem_append_right _ (List.mem_append_right _ (List.mem_append_right _ (List.mem_of_getElem? h)))
theorem kw_0 : (Jvm.Cond.initialized "BoxGlueLaw") ∈ kG := kG_of (k1 (i := 0) (by decide +kernel)) rfl
theorem kw_1 : (Jvm.Cond.initialized "BoxGlue") ∈ kG := kG_of (k1 (i := 1) (by decide +kernel)) rfl
theorem kw_2 : (Jvm.Cond.initialized "java/util/AbstractCollection") ∈ kG := kG_of (k1 (i := 2) (by decide +kernel)) rfl
theorem kw_3 : (Jvm.Cond.initialized "java/util/AbstractList") ∈ kG := kG_of (k1 (i := 3) (by decide +kernel)) rfl
theorem kw_4 : (Jvm.Cond.initialized "java/util/ArrayList") ∈ kG := kG_of (k1 (i := 4) (by decide +kernel)) rfl
theorem kw_5 : (Jvm.Cond.initialized "BoxGlueModel") ∈ kG := kG_of (k1 (i := 5) (by decide +kernel)) rfl
theorem kw_6 : (Jvm.Cond.initialized "BoxGlue$Box") ∈ kG := kG_of (k1 (i := 6) (by decide +kernel)) rfl
theorem kw_7 : (Jvm.Cond.initialized "BoxGlue$Fit") ∈ kG := kG_of (k1 (i := 7) (by decide +kernel)) rfl
theorem kw_8 : (Jvm.Cond.initialized "jdk/internal/util/ArraysSupport") ∈ kG := kG_of (k1 (i := 8) (by decide +kernel)) rfl
theorem kw_9 : (Jvm.Cond.initialized "java/lang/Math") ∈ kG := kG_of (k1 (i := 9) (by decide +kernel)) rfl
theorem kw_10 : (Jvm.Cond.initialized "java/util/Arrays") ∈ kG := kG_of (k1 (i := 10) (by decide +kernel)) rfl
theorem kw_11 : (Jvm.Cond.initialized "java/lang/System") ∈ kG := kG_of (k1 (i := 11) (by decide +kernel)) rfl
theorem kw_12 : (Jvm.Cond.initialized "BoxGlue$Item") ∈ kG := kG_of (k1 (i := 12) (by decide +kernel)) rfl
theorem kw_13 : (Jvm.Cond.initialized "BoxGlue$Put") ∈ kG := kG_of (k1 (i := 13) (by decide +kernel)) rfl
theorem kw_14 : (Jvm.Cond.initialized "java/util/Objects") ∈ kG := kG_of (k1 (i := 14) (by decide +kernel)) rfl
theorem kw_15 : (Jvm.Cond.initialized "jdk/internal/util/Preconditions") ∈ kG := kG_of (k1 (i := 15) (by decide +kernel)) rfl
theorem kw_16 : (Jvm.Cond.initialized "BoxGlue$Glue") ∈ kG := kG_of (k1 (i := 16) (by decide +kernel)) rfl
theorem kw_17 : (Jvm.Cond.initialized "BoxGlue$Leaders") ∈ kG := kG_of (k1 (i := 17) (by decide +kernel)) rfl
theorem kw_18 : (Jvm.Cond.initialized "BoxGlue$Kern") ∈ kG := kG_of (k1 (i := 18) (by decide +kernel)) rfl
theorem kw_19 : (Jvm.Cond.initialized "BoxGlue$Rule") ∈ kG := kG_of (k1 (i := 19) (by decide +kernel)) rfl
theorem kw_20 : (Jvm.Cond.initialized "BoxGlue$Placed") ∈ kG := kG_of (k1 (i := 20) (by decide +kernel)) rfl
theorem kw_21 : (Jvm.Cond.classLink "BoxGlueLaw" (7 : Nat) "BoxGlue") ∈ kG := kG_of (k1 (i := 21) (by decide +kernel)) rfl
theorem kw_22 : (Jvm.Cond.instantiable "BoxGlue" (3 : Nat)) ∈ kG := kG_of (k1 (i := 22) (by decide +kernel)) rfl
theorem kw_23 : (Jvm.Cond.methodLink "BoxGlueLaw" (9 : Nat) y_BG_init) ∈ kG := kG_of (k1 (i := 23) (by decide +kernel)) rfl
theorem kw_24 : (Jvm.Cond.instanceMethod y_BG_init) ∈ kG := kG_of (k1 (i := 24) (by decide +kernel)) rfl
theorem kw_25 : (Jvm.Cond.code y_BG_init prog_1_method_1_code (1 : Nat) (Option.none : Option Jvm.ClassFile.FieldType)) ∈ kG := kG_of (k1 (i := 25) rfl) rfl
theorem kw_26 : (Jvm.Cond.methodLink "BoxGlue" (1 : Nat) y_Obj_init) ∈ kG := kG_of (k1 (i := 26) (by decide +kernel)) rfl
theorem kw_27 : (Jvm.Cond.instanceMethod y_Obj_init) ∈ kG := kG_of (k1 (i := 27) (by decide +kernel)) rfl
theorem kw_28 : (Jvm.Cond.code y_Obj_init object_method_1_code (1 : Nat) (Option.none : Option Jvm.ClassFile.FieldType)) ∈ kG := kG_of (k1 (i := 28) rfl) rfl
theorem kw_29 : (Jvm.Cond.classLink "BoxGlue" (7 : Nat) "java/util/ArrayList") ∈ kG := kG_of (k1 (i := 29) (by decide +kernel)) rfl
theorem kw_30 : (Jvm.Cond.instantiable "java/util/ArrayList" (3 : Nat)) ∈ kG := kG_of (k1 (i := 30) (by decide +kernel)) rfl
theorem kw_31 : (Jvm.Cond.methodLink "BoxGlue" (9 : Nat) y_AL_init) ∈ kG := kG_of (k1 (i := 31) (by decide +kernel)) rfl
theorem kw_32 : (Jvm.Cond.instanceMethod y_AL_init) ∈ kG := kG_of (k1 (i := 32) (by decide +kernel)) rfl
theorem kw_33 : (Jvm.Cond.code y_AL_init prog_20_method_2_code (1 : Nat) (Option.none : Option Jvm.ClassFile.FieldType)) ∈ kG := kG_of (k1 (i := 33) rfl) rfl
theorem kw_34 : (Jvm.Cond.methodLink "java/util/ArrayList" (1 : Nat) y_AbL_init) ∈ kG := kG_of (k1 (i := 34) (by decide +kernel)) rfl
theorem kw_35 : (Jvm.Cond.instanceMethod y_AbL_init) ∈ kG := kG_of (k1 (i := 35) (by decide +kernel)) rfl
theorem kw_36 : (Jvm.Cond.code y_AbL_init prog_19_method_1_code (1 : Nat) (Option.none : Option Jvm.ClassFile.FieldType)) ∈ kG := kG_of (k1 (i := 36) rfl) rfl
theorem kw_37 : (Jvm.Cond.methodLink "java/util/AbstractList" (1 : Nat) y_AbC_init) ∈ kG := kG_of (k1 (i := 37) (by decide +kernel)) rfl
theorem kw_38 : (Jvm.Cond.instanceMethod y_AbC_init) ∈ kG := kG_of (k1 (i := 38) (by decide +kernel)) rfl
theorem kw_39 : (Jvm.Cond.code y_AbC_init prog_18_method_1_code (1 : Nat) (Option.none : Option Jvm.ClassFile.FieldType)) ∈ kG := kG_of (k1 (i := 39) rfl) rfl
theorem kw_40 : (Jvm.Cond.methodLink "java/util/AbstractCollection" (1 : Nat) y_Obj_init) ∈ kG := kG_of (k1 (i := 40) (by decide +kernel)) rfl
theorem kw_41 : (Jvm.Cond.fieldLink "java/util/ArrayList" (39 : Nat) "java/util/ArrayList" "DEFAULTCAPACITY_EMPTY_ELEMENTDATA" "[Ljava/lang/Object;") ∈ kG := kG_of (k1 (i := 41) (by decide +kernel)) rfl
theorem kw_42 : (Jvm.Cond.laysStatic "java/util/ArrayList" "DEFAULTCAPACITY_EMPTY_ELEMENTDATA" "[Ljava/lang/Object;") ∈ tables_1 := k1 (i := 42) (by decide +kernel)
theorem kw_43 : (Jvm.Cond.fieldLink "java/util/ArrayList" (9 : Nat) "java/util/ArrayList" "elementData" "[Ljava/lang/Object;") ∈ kG := kG_of (k1 (i := 43) (by decide +kernel)) rfl
theorem kw_44 : (Jvm.Cond.fieldLink "java/util/ArrayList" (48 : Nat) "java/util/ArrayList" "size" "I") ∈ kG := kG_of (k1 (i := 44) (by decide +kernel)) rfl
theorem kw_45 : (Jvm.Cond.fieldLink "java/util/AbstractList" (7 : Nat) "java/util/AbstractList" "modCount" "I") ∈ kG := kG_of (k1 (i := 45) (by decide +kernel)) rfl
theorem kw_46 : (Jvm.Cond.fieldLink "java/util/ArrayList" (63 : Nat) "java/util/ArrayList" "modCount" "I") ∈ kG := kG_of (k1 (i := 46) (by decide +kernel)) rfl
theorem kw_47 : (Jvm.Cond.sameField "java/util/ArrayList" "java/util/AbstractList" "modCount" "I") ∈ kG := kG_of (k1 (i := 47) (by decide +kernel)) rfl
theorem kw_48 : (Jvm.Cond.lays "java/util/ArrayList" "java/util/ArrayList" "elementData" "[Ljava/lang/Object;") ∈ kG := kG_of (k1 (i := 48) (by decide +kernel)) rfl
theorem kw_49 : (Jvm.Cond.soleField "java/util/ArrayList" "elementData") ∈ tables_1 := k1 (i := 49) (by decide +kernel)
theorem kw_50 : (Jvm.Cond.lays "java/util/ArrayList" "java/util/ArrayList" "size" "I") ∈ kG := kG_of (k1 (i := 50) (by decide +kernel)) rfl
theorem kw_51 : (Jvm.Cond.soleField "java/util/ArrayList" "size") ∈ tables_1 := k1 (i := 51) (by decide +kernel)
theorem kw_52 : (Jvm.Cond.lays "java/util/ArrayList" "java/util/AbstractList" "modCount" "I") ∈ kG := kG_of (k1 (i := 52) (by decide +kernel)) rfl
theorem kw_53 : (Jvm.Cond.soleField "java/util/AbstractList" "modCount") ∈ tables_1 := k1 (i := 53) (by decide +kernel)
theorem kw_54 : (Jvm.Cond.superclass "java/util/ArrayList" "java/util/AbstractList") ∈ tables_1 := k1 (i := 54) (by decide +kernel)
theorem kw_55 : (Jvm.Cond.fieldLink "BoxGlue" (10 : Nat) "BoxGlue" "list" "Ljava/util/ArrayList;") ∈ kG := kG_of (k1 (i := 55) (by decide +kernel)) rfl
theorem kw_56 : (Jvm.Cond.fieldLink "BoxGlue" (16 : Nat) "BoxGlue" "made" "Ljava/util/ArrayList;") ∈ kG := kG_of (k1 (i := 56) (by decide +kernel)) rfl
theorem kw_57 : (Jvm.Cond.fieldLink "BoxGlue" (19 : Nat) "BoxGlue" "inBoxes" "I") ∈ kG := kG_of (k1 (i := 57) (by decide +kernel)) rfl
theorem kw_58 : (Jvm.Cond.laysFinal "BoxGlue" "BoxGlue" "list" "Ljava/util/ArrayList;") ∈ kG := kG_of (k1 (i := 58) (by decide +kernel)) rfl
theorem kw_59 : (Jvm.Cond.soleField "BoxGlue" "list") ∈ tables_1 := k1 (i := 59) (by decide +kernel)
theorem kw_60 : (Jvm.Cond.laysFinal "BoxGlue" "BoxGlue" "made" "Ljava/util/ArrayList;") ∈ kG := kG_of (k1 (i := 60) (by decide +kernel)) rfl
theorem kw_61 : (Jvm.Cond.soleField "BoxGlue" "made") ∈ tables_1 := k1 (i := 61) (by decide +kernel)
theorem kw_62 : (Jvm.Cond.lays "BoxGlue" "BoxGlue" "inBoxes" "I") ∈ kG := kG_of (k1 (i := 62) (by decide +kernel)) rfl
theorem kw_63 : (Jvm.Cond.soleField "BoxGlue" "inBoxes") ∈ tables_1 := k1 (i := 63) (by decide +kernel)
theorem kw_64 : (Jvm.Cond.superclass "BoxGlue" "java/lang/Object") ∈ tables_1 := k1 (i := 64) (by decide +kernel)
theorem kw_65 : (Jvm.Cond.methodLink "BoxGlueLaw" (13 : Nat) y_BG_box) ∈ kG := kG_of (k1 (i := 65) (by decide +kernel)) rfl
theorem kw_66 : (Jvm.Cond.instanceMethod y_BG_box) ∈ kG := kG_of (k1 (i := 66) (by decide +kernel)) rfl
theorem kw_67 : (Jvm.Cond.selects "BoxGlue" y_BG_box y_BG_box) ∈ kG := kG_of (k1 (i := 67) (by decide +kernel)) rfl
theorem kw_68 : (Jvm.Cond.code y_BG_box prog_1_method_2_code (4 : Nat) (Option.some Jvm.ClassFile.FieldType.int)) ∈ kG := kG_of (k1 (i := 68) rfl) rfl
theorem kw_69 : (Jvm.Cond.methodLink "BoxGlue" (23 : Nat) y_BG_isExtent) ∈ kG := kG_of (k1 (i := 69) (by decide +kernel)) rfl
theorem kw_70 : (Jvm.Cond.static y_BG_isExtent) ∈ kG := kG_of (k1 (i := 70) (by decide +kernel)) rfl
theorem kw_71 : (Jvm.Cond.code y_BG_isExtent prog_1_method_19_code (1 : Nat) (Option.some Jvm.ClassFile.FieldType.boolean)) ∈ kG := kG_of (k1 (i := 71) rfl) rfl
theorem kw_72 : (Jvm.Cond.constant "BoxGlue" (142 : Nat) (100000 : Int32)) ∈ kG := kG_of (k1 (i := 72) (by decide +kernel)) rfl
theorem kw_73 : (Jvm.Cond.methodLink "BoxGlue" (27 : Nat) y_AL_size) ∈ kG := kG_of (k1 (i := 73) (by decide +kernel)) rfl
theorem kw_74 : (Jvm.Cond.instanceMethod y_AL_size) ∈ kG := kG_of (k1 (i := 74) (by decide +kernel)) rfl
theorem kw_75 : (Jvm.Cond.selects "java/util/ArrayList" y_AL_size y_AL_size) ∈ kG := kG_of (k1 (i := 75) (by decide +kernel)) rfl
theorem kw_76 : (Jvm.Cond.code y_AL_size prog_20_method_8_code (1 : Nat) (Option.some Jvm.ClassFile.FieldType.int)) ∈ kG := kG_of (k1 (i := 76) rfl) rfl
theorem kw_77 : (Jvm.Cond.methodLink "BoxGlue" (31 : Nat) y_Box_bare) ∈ kG := kG_of (k1 (i := 77) (by decide +kernel)) rfl
theorem kw_78 : (Jvm.Cond.static y_Box_bare) ∈ kG := kG_of (k1 (i := 78) (by decide +kernel)) rfl
theorem kw_79 : (Jvm.Cond.code y_Box_bare prog_2_method_2_code (3 : Nat) (Option.some (Jvm.ClassFile.FieldType.object "BoxGlue$Box"))) ∈ kG := kG_of (k1 (i := 79) rfl) rfl
theorem kw_80 : (Jvm.Cond.classLink "BoxGlue$Box" (10 : Nat) "BoxGlue$Box") ∈ kG := kG_of (k1 (i := 80) (by decide +kernel)) rfl
theorem kw_81 : (Jvm.Cond.instantiable "BoxGlue$Box" (5 : Nat)) ∈ kG := kG_of (k1 (i := 81) (by decide +kernel)) rfl
theorem kw_82 : (Jvm.Cond.classLink "BoxGlue$Box" (29 : Nat) "BoxGlue$Fit") ∈ kG := kG_of (k1 (i := 82) (by decide +kernel)) rfl
theorem kw_83 : (Jvm.Cond.instantiable "BoxGlue$Fit" (4 : Nat)) ∈ kG := kG_of (k1 (i := 83) (by decide +kernel)) rfl
theorem kw_84 : (Jvm.Cond.methodLink "BoxGlue$Box" (31 : Nat) y_Fit_init) ∈ kG := kG_of (k1 (i := 84) (by decide +kernel)) rfl
theorem kw_85 : (Jvm.Cond.instanceMethod y_Fit_init) ∈ kG := kG_of (k1 (i := 85) (by decide +kernel)) rfl
theorem kw_86 : (Jvm.Cond.code y_Fit_init prog_3_method_1_code (5 : Nat) (Option.none : Option Jvm.ClassFile.FieldType)) ∈ kG := kG_of (k1 (i := 86) rfl) rfl
theorem kw_87 : (Jvm.Cond.methodLink "BoxGlue$Fit" (3 : Nat) y_Obj_init) ∈ kG := kG_of (k1 (i := 87) (by decide +kernel)) rfl
theorem kw_88 : (Jvm.Cond.fieldLink "BoxGlue$Fit" (9 : Nat) "BoxGlue$Fit" "ownLength" "I") ∈ kG := kG_of (k1 (i := 88) (by decide +kernel)) rfl
theorem kw_89 : (Jvm.Cond.fieldLink "BoxGlue$Box" (99 : Nat) "BoxGlue$Fit" "ownLength" "I") ∈ kG := kG_of (k1 (i := 89) (by decide +kernel)) rfl
theorem kw_90 : (Jvm.Cond.fieldLink "BoxGlue$Fit" (18 : Nat) "BoxGlue$Fit" "order" "I") ∈ kG := kG_of (k1 (i := 90) (by decide +kernel)) rfl
theorem kw_91 : (Jvm.Cond.fieldLink "BoxGlue$Box" (96 : Nat) "BoxGlue$Fit" "order" "I") ∈ kG := kG_of (k1 (i := 91) (by decide +kernel)) rfl
theorem kw_92 : (Jvm.Cond.fieldLink "BoxGlue$Fit" (15 : Nat) "BoxGlue$Fit" "missing" "I") ∈ kG := kG_of (k1 (i := 92) (by decide +kernel)) rfl
theorem kw_93 : (Jvm.Cond.fieldLink "BoxGlue$Fit" (21 : Nat) "BoxGlue$Fit" "sum" "I") ∈ kG := kG_of (k1 (i := 93) (by decide +kernel)) rfl
theorem kw_94 : (Jvm.Cond.laysFinal "BoxGlue$Fit" "BoxGlue$Fit" "ownLength" "I") ∈ kG := kG_of (k1 (i := 94) (by decide +kernel)) rfl
theorem kw_95 : (Jvm.Cond.soleField "BoxGlue$Fit" "ownLength") ∈ tables_1 := k1 (i := 95) (by decide +kernel)
theorem kw_96 : (Jvm.Cond.laysFinal "BoxGlue$Fit" "BoxGlue$Fit" "order" "I") ∈ kG := kG_of (k1 (i := 96) (by decide +kernel)) rfl
theorem kw_97 : (Jvm.Cond.soleField "BoxGlue$Fit" "order") ∈ tables_1 := k1 (i := 97) (by decide +kernel)
theorem kw_98 : (Jvm.Cond.laysFinal "BoxGlue$Fit" "BoxGlue$Fit" "missing" "I") ∈ kG := kG_of (k1 (i := 98) (by decide +kernel)) rfl
theorem kw_99 : (Jvm.Cond.soleField "BoxGlue$Fit" "missing") ∈ tables_1 := k1 (i := 99) (by decide +kernel)
theorem kw_100 : (Jvm.Cond.laysFinal "BoxGlue$Fit" "BoxGlue$Fit" "sum" "I") ∈ kG := kG_of (k1 (i := 100) (by decide +kernel)) rfl
theorem kw_101 : (Jvm.Cond.soleField "BoxGlue$Fit" "sum") ∈ tables_1 := k1 (i := 101) (by decide +kernel)
theorem kw_102 : (Jvm.Cond.superclass "BoxGlue$Fit" "java/lang/Object") ∈ tables_1 := k1 (i := 102) (by decide +kernel)
theorem kw_103 : (Jvm.Cond.classLink "BoxGlue$Box" (34 : Nat) "java/util/ArrayList") ∈ kG := kG_of (k1 (i := 103) (by decide +kernel)) rfl
theorem kw_104 : (Jvm.Cond.methodLink "BoxGlue$Box" (36 : Nat) y_AL_init) ∈ kG := kG_of (k1 (i := 104) (by decide +kernel)) rfl
theorem kw_105 : (Jvm.Cond.methodLink "BoxGlue$Box" (37 : Nat) y_Box_init) ∈ kG := kG_of (k1 (i := 105) (by decide +kernel)) rfl
theorem kw_106 : (Jvm.Cond.instanceMethod y_Box_init) ∈ kG := kG_of (k1 (i := 106) (by decide +kernel)) rfl
theorem kw_107 : (Jvm.Cond.code y_Box_init prog_2_method_1_code (6 : Nat) (Option.none : Option Jvm.ClassFile.FieldType)) ∈ kG := kG_of (k1 (i := 107) rfl) rfl
theorem kw_108 : (Jvm.Cond.methodLink "BoxGlue$Box" (3 : Nat) y_Obj_init) ∈ kG := kG_of (k1 (i := 108) (by decide +kernel)) rfl
theorem kw_109 : (Jvm.Cond.fieldLink "BoxGlue$Put" (1 : Nat) "BoxGlue$Box" "length" "I") ∈ kG := kG_of (k1 (i := 109) (by decide +kernel)) rfl
theorem kw_110 : (Jvm.Cond.fieldLink "BoxGlue$Box" (9 : Nat) "BoxGlue$Box" "length" "I") ∈ kG := kG_of (k1 (i := 110) (by decide +kernel)) rfl
theorem kw_111 : (Jvm.Cond.fieldLink "BoxGlue" (91 : Nat) "BoxGlue$Box" "length" "I") ∈ kG := kG_of (k1 (i := 111) (by decide +kernel)) rfl
theorem kw_112 : (Jvm.Cond.fieldLink "BoxGlue$Box" (15 : Nat) "BoxGlue$Box" "height" "I") ∈ kG := kG_of (k1 (i := 112) (by decide +kernel)) rfl
theorem kw_113 : (Jvm.Cond.fieldLink "BoxGlue$Put" (13 : Nat) "BoxGlue$Box" "height" "I") ∈ kG := kG_of (k1 (i := 113) (by decide +kernel)) rfl
theorem kw_114 : (Jvm.Cond.fieldLink "BoxGlue$Placed" (37 : Nat) "BoxGlue$Box" "height" "I") ∈ kG := kG_of (k1 (i := 114) (by decide +kernel)) rfl
theorem kw_115 : (Jvm.Cond.fieldLink "BoxGlue$Box" (18 : Nat) "BoxGlue$Box" "depth" "I") ∈ kG := kG_of (k1 (i := 115) (by decide +kernel)) rfl
theorem kw_116 : (Jvm.Cond.fieldLink "BoxGlue$Put" (19 : Nat) "BoxGlue$Box" "depth" "I") ∈ kG := kG_of (k1 (i := 116) (by decide +kernel)) rfl
theorem kw_117 : (Jvm.Cond.fieldLink "BoxGlue$Placed" (46 : Nat) "BoxGlue$Box" "depth" "I") ∈ kG := kG_of (k1 (i := 117) (by decide +kernel)) rfl
theorem kw_118 : (Jvm.Cond.fieldLink "BoxGlue$Box" (25 : Nat) "BoxGlue$Box" "contents" "Ljava/util/ArrayList;") ∈ kG := kG_of (k1 (i := 118) (by decide +kernel)) rfl
theorem kw_119 : (Jvm.Cond.fieldLink "BoxGlue" (122 : Nat) "BoxGlue$Box" "contents" "Ljava/util/ArrayList;") ∈ kG := kG_of (k1 (i := 119) (by decide +kernel)) rfl
theorem kw_120 : (Jvm.Cond.fieldLink "BoxGlue$Box" (21 : Nat) "BoxGlue$Box" "fit" "LBoxGlue$Fit;") ∈ kG := kG_of (k1 (i := 120) (by decide +kernel)) rfl
theorem kw_121 : (Jvm.Cond.laysFinal "BoxGlue$Box" "BoxGlue$Box" "length" "I") ∈ kG := kG_of (k1 (i := 121) (by decide +kernel)) rfl
theorem kw_122 : (Jvm.Cond.soleField "BoxGlue$Box" "length") ∈ tables_1 := k1 (i := 122) (by decide +kernel)
theorem kw_123 : (Jvm.Cond.laysFinal "BoxGlue$Box" "BoxGlue$Box" "height" "I") ∈ kG := kG_of (k1 (i := 123) (by decide +kernel)) rfl
theorem kw_124 : (Jvm.Cond.soleField "BoxGlue$Box" "height") ∈ tables_1 := k1 (i := 124) (by decide +kernel)
theorem kw_125 : (Jvm.Cond.laysFinal "BoxGlue$Box" "BoxGlue$Box" "depth" "I") ∈ kG := kG_of (k1 (i := 125) (by decide +kernel)) rfl
theorem kw_126 : (Jvm.Cond.soleField "BoxGlue$Box" "depth") ∈ tables_1 := k1 (i := 126) (by decide +kernel)
theorem kw_127 : (Jvm.Cond.laysFinal "BoxGlue$Box" "BoxGlue$Box" "contents" "Ljava/util/ArrayList;") ∈ kG := kG_of (k1 (i := 127) (by decide +kernel)) rfl
theorem kw_128 : (Jvm.Cond.soleField "BoxGlue$Box" "contents") ∈ tables_1 := k1 (i := 128) (by decide +kernel)
theorem kw_129 : (Jvm.Cond.laysFinal "BoxGlue$Box" "BoxGlue$Box" "fit" "LBoxGlue$Fit;") ∈ kG := kG_of (k1 (i := 129) (by decide +kernel)) rfl
theorem kw_130 : (Jvm.Cond.soleField "BoxGlue$Box" "fit") ∈ tables_1 := k1 (i := 130) (by decide +kernel)
theorem kw_131 : (Jvm.Cond.superclass "BoxGlue$Box" "java/lang/Object") ∈ tables_1 := k1 (i := 131) (by decide +kernel)
theorem kw_132 : (Jvm.Cond.methodLink "BoxGlue" (37 : Nat) y_AL_add) ∈ kG := kG_of (k1 (i := 132) (by decide +kernel)) rfl
theorem kw_133 : (Jvm.Cond.instanceMethod y_AL_add) ∈ kG := kG_of (k1 (i := 133) (by decide +kernel)) rfl
theorem kw_134 : (Jvm.Cond.selects "java/util/ArrayList" y_AL_add y_AL_add) ∈ kG := kG_of (k1 (i := 134) (by decide +kernel)) rfl
theorem kw_135 : (Jvm.Cond.code y_AL_add prog_20_method_25_code (2 : Nat) (Option.some Jvm.ClassFile.FieldType.boolean)) ∈ kG := kG_of (k1 (i := 135) rfl) rfl
theorem kw_136 : (Jvm.Cond.methodLink "java/util/ArrayList" (131 : Nat) y_AL_add2) ∈ kG := kG_of (k1 (i := 136) (by decide +kernel)) rfl
theorem kw_137 : (Jvm.Cond.privateMethod y_AL_add2) ∈ tables_1 := k1 (i := 137) (by decide +kernel)
theorem kw_138 : (Jvm.Cond.instanceMethod y_AL_add2) ∈ kG := kG_of (k1 (i := 138) (by decide +kernel)) rfl
theorem kw_139 : (Jvm.Cond.code y_AL_add2 prog_20_method_24_code (4 : Nat) (Option.none : Option Jvm.ClassFile.FieldType)) ∈ kG := kG_of (k1 (i := 139) rfl) rfl
theorem kw_140 : (Jvm.Cond.methodLink "java/util/ArrayList" (129 : Nat) y_AL_grow) ∈ kG := kG_of (k1 (i := 140) (by decide +kernel)) rfl
theorem kw_141 : (Jvm.Cond.privateMethod y_AL_grow) ∈ tables_1 := k1 (i := 141) (by decide +kernel)
theorem kw_142 : (Jvm.Cond.instanceMethod y_AL_grow) ∈ kG := kG_of (k1 (i := 142) (by decide +kernel)) rfl
theorem kw_143 : (Jvm.Cond.code y_AL_grow prog_20_method_7_code (1 : Nat) (Option.some (Jvm.ClassFile.FieldType.array (Jvm.ClassFile.FieldType.object "java/lang/Object")))) ∈ kG := kG_of (k1 (i := 143) rfl) rfl
theorem kw_144 : (Jvm.Cond.methodLink "java/util/ArrayList" (69 : Nat) y_AL_grow2) ∈ kG := kG_of (k1 (i := 144) (by decide +kernel)) rfl
theorem kw_145 : (Jvm.Cond.privateMethod y_AL_grow2) ∈ tables_1 := k1 (i := 145) (by decide +kernel)
theorem kw_146 : (Jvm.Cond.instanceMethod y_AL_grow2) ∈ kG := kG_of (k1 (i := 146) (by decide +kernel)) rfl
theorem kw_147 : (Jvm.Cond.code y_AL_grow2 prog_20_method_6_code (4 : Nat) (Option.some (Jvm.ClassFile.FieldType.array (Jvm.ClassFile.FieldType.object "java/lang/Object")))) ∈ kG := kG_of (k1 (i := 147) rfl) rfl
theorem kw_148 : (Jvm.Cond.methodLink "java/util/ArrayList" (73 : Nat) y_ASup_newLength) ∈ kG := kG_of (k1 (i := 148) (by decide +kernel)) rfl
theorem kw_149 : (Jvm.Cond.static y_ASup_newLength) ∈ kG := kG_of (k1 (i := 149) (by decide +kernel)) rfl
theorem kw_150 : (Jvm.Cond.code y_ASup_newLength prog_27_method_27_code (4 : Nat) (Option.some Jvm.ClassFile.FieldType.int)) ∈ kG := kG_of (k1 (i := 150) rfl) rfl
theorem kw_151 : (Jvm.Cond.methodLink "jdk/internal/util/ArraysSupport" (194 : Nat) y_Math_max) ∈ kG := kG_of (k1 (i := 151) (by decide +kernel)) rfl
theorem kw_152 : (Jvm.Cond.static y_Math_max) ∈ kG := kG_of (k1 (i := 152) (by decide +kernel)) rfl
theorem kw_153 : (Jvm.Cond.code y_Math_max prog_16_method_65_code (2 : Nat) (Option.some Jvm.ClassFile.FieldType.int)) ∈ kG := kG_of (k1 (i := 153) rfl) rfl
theorem kw_154 : (Jvm.Cond.constant "jdk/internal/util/ArraysSupport" (200 : Nat) (2147483639 : Int32)) ∈ kG := kG_of (k1 (i := 154) (by decide +kernel)) rfl
theorem kw_155 : (Jvm.Cond.methodLink "jdk/internal/util/ArraysSupport" (201 : Nat) y_ASup_hugeLength) ∈ kG := kG_of (k1 (i := 155) (by decide +kernel)) rfl
theorem kw_156 : (Jvm.Cond.static y_ASup_hugeLength) ∈ kG := kG_of (k1 (i := 156) (by decide +kernel)) rfl
theorem kw_157 : (Jvm.Cond.code y_ASup_hugeLength prog_27_method_28_code (3 : Nat) (Option.some Jvm.ClassFile.FieldType.int)) ∈ kG := kG_of (k1 (i := 157) rfl) rfl
theorem kw_158 : (Jvm.Cond.methodLink "java/util/ArrayList" (66 : Nat) y_Arrs_copyOf) ∈ kG := kG_of (k1 (i := 158) (by decide +kernel)) rfl
theorem kw_159 : (Jvm.Cond.static y_Arrs_copyOf) ∈ kG := kG_of (k1 (i := 159) (by decide +kernel)) rfl
theorem kw_160 : (Jvm.Cond.code y_Arrs_copyOf prog_21_method_119_code (2 : Nat) (Option.some (Jvm.ClassFile.FieldType.array (Jvm.ClassFile.FieldType.object "java/lang/Object")))) ∈ kG := kG_of (k1 (i := 160) rfl) rfl
theorem kw_161 : (Jvm.Cond.methodLink "java/util/Arrays" (86 : Nat) ({ cls := "java/lang/Object", name := "getClass", desc := "()Ljava/lang/Class;" } : Jvm.MethodName)) ∈ kG := kG_of (k1 (i := 161) (by decide +kernel)) rfl
theorem kw_162 : (Jvm.Cond.instanceMethod ({ cls := "java/lang/Object", name := "getClass", desc := "()Ljava/lang/Class;" } : Jvm.MethodName)) ∈ kG := kG_of (k1 (i := 162) (by decide +kernel)) rfl
theorem kw_163 : (Jvm.Cond.sameMethod "java/lang/Object" "java/lang/Object" "getClass" "()Ljava/lang/Class;") ∈ kG := kG_of (k1 (i := 163) (by decide +kernel)) rfl
theorem kw_164 : (Jvm.Cond.selects "BoxGlue" ({ cls := "java/lang/Object", name := "getClass", desc := "()Ljava/lang/Class;" } : Jvm.MethodName) ({ cls := "java/lang/Object", name := "getClass", desc := "()Ljava/lang/Class;" } : Jvm.MethodName)) ∈ kG := kG_of (k1 (i := 164) (by decide +kernel)) rfl
theorem kw_165 : (Jvm.Cond.selects "BoxGlue$Box" ({ cls := "java/lang/Object", name := "getClass", desc := "()Ljava/lang/Class;" } : Jvm.MethodName) ({ cls := "java/lang/Object", name := "getClass", desc := "()Ljava/lang/Class;" } : Jvm.MethodName)) ∈ kG := kG_of (k1 (i := 165) (by decide +kernel)) rfl
theorem kw_166 : (Jvm.Cond.selects "BoxGlue$Fit" ({ cls := "java/lang/Object", name := "getClass", desc := "()Ljava/lang/Class;" } : Jvm.MethodName) ({ cls := "java/lang/Object", name := "getClass", desc := "()Ljava/lang/Class;" } : Jvm.MethodName)) ∈ kG := kG_of (k1 (i := 166) (by decide +kernel)) rfl
theorem kw_167 : (Jvm.Cond.selects "BoxGlue$Glue" ({ cls := "java/lang/Object", name := "getClass", desc := "()Ljava/lang/Class;" } : Jvm.MethodName) ({ cls := "java/lang/Object", name := "getClass", desc := "()Ljava/lang/Class;" } : Jvm.MethodName)) ∈ kG := kG_of (k1 (i := 167) (by decide +kernel)) rfl
theorem kw_168 : (Jvm.Cond.selects "BoxGlue$Kern" ({ cls := "java/lang/Object", name := "getClass", desc := "()Ljava/lang/Class;" } : Jvm.MethodName) ({ cls := "java/lang/Object", name := "getClass", desc := "()Ljava/lang/Class;" } : Jvm.MethodName)) ∈ kG := kG_of (k1 (i := 168) (by decide +kernel)) rfl
theorem kw_169 : (Jvm.Cond.selects "BoxGlue$Leaders" ({ cls := "java/lang/Object", name := "getClass", desc := "()Ljava/lang/Class;" } : Jvm.MethodName) ({ cls := "java/lang/Object", name := "getClass", desc := "()Ljava/lang/Class;" } : Jvm.MethodName)) ∈ kG := kG_of (k1 (i := 169) (by decide +kernel)) rfl
theorem kw_170 : (Jvm.Cond.selects "BoxGlue$Placed" ({ cls := "java/lang/Object", name := "getClass", desc := "()Ljava/lang/Class;" } : Jvm.MethodName) ({ cls := "java/lang/Object", name := "getClass", desc := "()Ljava/lang/Class;" } : Jvm.MethodName)) ∈ kG := kG_of (k1 (i := 170) (by decide +kernel)) rfl
theorem kw_171 : (Jvm.Cond.selects "BoxGlue$Put" ({ cls := "java/lang/Object", name := "getClass", desc := "()Ljava/lang/Class;" } : Jvm.MethodName) ({ cls := "java/lang/Object", name := "getClass", desc := "()Ljava/lang/Class;" } : Jvm.MethodName)) ∈ kG := kG_of (k1 (i := 171) (by decide +kernel)) rfl
theorem kw_172 : (Jvm.Cond.selects "BoxGlue$Rule" ({ cls := "java/lang/Object", name := "getClass", desc := "()Ljava/lang/Class;" } : Jvm.MethodName) ({ cls := "java/lang/Object", name := "getClass", desc := "()Ljava/lang/Class;" } : Jvm.MethodName)) ∈ kG := kG_of (k1 (i := 172) (by decide +kernel)) rfl
theorem kw_173 : (Jvm.Cond.selects "BoxGlueModel" ({ cls := "java/lang/Object", name := "getClass", desc := "()Ljava/lang/Class;" } : Jvm.MethodName) ({ cls := "java/lang/Object", name := "getClass", desc := "()Ljava/lang/Class;" } : Jvm.MethodName)) ∈ kG := kG_of (k1 (i := 173) (by decide +kernel)) rfl
theorem kw_174 : (Jvm.Cond.selects "java/util/ArrayList" ({ cls := "java/lang/Object", name := "getClass", desc := "()Ljava/lang/Class;" } : Jvm.MethodName) ({ cls := "java/lang/Object", name := "getClass", desc := "()Ljava/lang/Class;" } : Jvm.MethodName)) ∈ kG := kG_of (k1 (i := 174) (by decide +kernel)) rfl
theorem kw_175 : (Jvm.Cond.native ({ cls := "java/lang/Object", name := "getClass", desc := "()Ljava/lang/Class;" } : Jvm.MethodName)) ∈ kG := kG_of (k1 (i := 175) (by decide +kernel)) rfl
theorem kw_176 : (Jvm.Cond.methodLink "java/util/Arrays" (300 : Nat) y_Arrs_copyOf2) ∈ kG := kG_of (k1 (i := 176) (by decide +kernel)) rfl
theorem kw_177 : (Jvm.Cond.static y_Arrs_copyOf2) ∈ kG := kG_of (k1 (i := 177) (by decide +kernel)) rfl
theorem kw_178 : (Jvm.Cond.code y_Arrs_copyOf2 prog_21_method_120_code (4 : Nat) (Option.some (Jvm.ClassFile.FieldType.array (Jvm.ClassFile.FieldType.object "java/lang/Object")))) ∈ kG := kG_of (k1 (i := 178) rfl) rfl
theorem kw_179 : (Jvm.Cond.classLink "java/util/Arrays" (110 : Nat) "[Ljava/lang/Object;") ∈ kG := kG_of (k1 (i := 179) (by decide +kernel)) rfl
theorem kw_180 : (Jvm.Cond.arrayOver (Jvm.ClassFile.FieldType.object "java/lang/Object")) ∈ tables_1 := k1 (i := 180) (by decide +kernel)
theorem kw_181 : (Jvm.Cond.classLink "java/util/Arrays" (2 : Nat) "java/lang/Object") ∈ kG := kG_of (k1 (i := 181) (by decide +kernel)) rfl
theorem kw_182 : (Jvm.Cond.methodLink "java/util/Arrays" (304 : Nat) y_Math_min) ∈ kG := kG_of (k1 (i := 182) (by decide +kernel)) rfl
theorem kw_183 : (Jvm.Cond.static y_Math_min) ∈ kG := kG_of (k1 (i := 183) (by decide +kernel)) rfl
theorem kw_184 : (Jvm.Cond.code y_Math_min prog_16_method_69_code (2 : Nat) (Option.some Jvm.ClassFile.FieldType.int)) ∈ kG := kG_of (k1 (i := 184) rfl) rfl
theorem kw_185 : (Jvm.Cond.methodLink "java/util/Arrays" (150 : Nat) ({ cls := "java/lang/System", name := "arraycopy", desc := "(Ljava/lang/Object;ILjava/lang/Object;II)V" } : Jvm.MethodName)) ∈ kG := kG_of (k1 (i := 185) (by decide +kernel)) rfl
theorem kw_186 : (Jvm.Cond.static ({ cls := "java/lang/System", name := "arraycopy", desc := "(Ljava/lang/Object;ILjava/lang/Object;II)V" } : Jvm.MethodName)) ∈ kG := kG_of (k1 (i := 186) (by decide +kernel)) rfl
theorem kw_187 : (Jvm.Cond.native ({ cls := "java/lang/System", name := "arraycopy", desc := "(Ljava/lang/Object;ILjava/lang/Object;II)V" } : Jvm.MethodName)) ∈ kG := kG_of (k1 (i := 187) (by decide +kernel)) rfl
theorem kw_188 : (Jvm.Cond.methodLink "java/util/ArrayList" (79 : Nat) y_Math_max) ∈ kG := kG_of (k1 (i := 188) (by decide +kernel)) rfl
theorem kw_189 : (Jvm.Cond.classLink "java/util/ArrayList" (7 : Nat) "java/lang/Object") ∈ kG := kG_of (k1 (i := 189) (by decide +kernel)) rfl
theorem kw_190 : (Jvm.Cond.methodLink "BoxGlueLaw" (18 : Nat) y_BG_put) ∈ kG := kG_of (k1 (i := 190) (by decide +kernel)) rfl
theorem kw_191 : (Jvm.Cond.instanceMethod y_BG_put) ∈ kG := kG_of (k1 (i := 191) (by decide +kernel)) rfl
theorem kw_192 : (Jvm.Cond.selects "BoxGlue" y_BG_put y_BG_put) ∈ kG := kG_of (k1 (i := 192) (by decide +kernel)) rfl
theorem kw_193 : (Jvm.Cond.code y_BG_put prog_1_method_3_code (3 : Nat) (Option.some Jvm.ClassFile.FieldType.int)) ∈ kG := kG_of (k1 (i := 193) rfl) rfl
theorem kw_194 : (Jvm.Cond.methodLink "BoxGlue" (41 : Nat) y_BG_isBox) ∈ kG := kG_of (k1 (i := 194) (by decide +kernel)) rfl
theorem kw_195 : (Jvm.Cond.privateMethod y_BG_isBox) ∈ tables_1 := k1 (i := 195) (by decide +kernel)
theorem kw_196 : (Jvm.Cond.instanceMethod y_BG_isBox) ∈ kG := kG_of (k1 (i := 196) (by decide +kernel)) rfl
theorem kw_197 : (Jvm.Cond.code y_BG_isBox prog_1_method_17_code (2 : Nat) (Option.some Jvm.ClassFile.FieldType.boolean)) ∈ kG := kG_of (k1 (i := 197) rfl) rfl
theorem kw_198 : (Jvm.Cond.methodLink "BoxGlue" (44 : Nat) y_BG_isLength) ∈ kG := kG_of (k1 (i := 198) (by decide +kernel)) rfl
theorem kw_199 : (Jvm.Cond.static y_BG_isLength) ∈ kG := kG_of (k1 (i := 199) (by decide +kernel)) rfl
theorem kw_200 : (Jvm.Cond.code y_BG_isLength prog_1_method_18_code (1 : Nat) (Option.some Jvm.ClassFile.FieldType.boolean)) ∈ kG := kG_of (k1 (i := 200) rfl) rfl
theorem kw_201 : (Jvm.Cond.constant "BoxGlue" (141 : Nat) (-100000 : Int32)) ∈ kG := kG_of (k1 (i := 201) (by decide +kernel)) rfl
theorem kw_202 : (Jvm.Cond.classLink "BoxGlue" (47 : Nat) "BoxGlue$Put") ∈ kG := kG_of (k1 (i := 202) (by decide +kernel)) rfl
theorem kw_203 : (Jvm.Cond.instantiable "BoxGlue$Put" (4 : Nat)) ∈ kG := kG_of (k1 (i := 203) (by decide +kernel)) rfl
theorem kw_204 : (Jvm.Cond.methodLink "BoxGlue" (49 : Nat) y_AL_get) ∈ kG := kG_of (k1 (i := 204) (by decide +kernel)) rfl
theorem kw_205 : (Jvm.Cond.instanceMethod y_AL_get) ∈ kG := kG_of (k1 (i := 205) (by decide +kernel)) rfl
theorem kw_206 : (Jvm.Cond.selects "java/util/ArrayList" y_AL_get y_AL_get) ∈ kG := kG_of (k1 (i := 206) (by decide +kernel)) rfl
theorem kw_207 : (Jvm.Cond.code y_AL_get prog_20_method_20_code (2 : Nat) (Option.some (Jvm.ClassFile.FieldType.object "java/lang/Object"))) ∈ kG := kG_of (k1 (i := 207) rfl) rfl
theorem kw_208 : (Jvm.Cond.methodLink "java/util/ArrayList" (118 : Nat) y_Objs_checkIndex) ∈ kG := kG_of (k1 (i := 208) (by decide +kernel)) rfl
theorem kw_209 : (Jvm.Cond.static y_Objs_checkIndex) ∈ kG := kG_of (k1 (i := 209) (by decide +kernel)) rfl
theorem kw_210 : (Jvm.Cond.code y_Objs_checkIndex prog_24_method_17_code (2 : Nat) (Option.some Jvm.ClassFile.FieldType.int)) ∈ kG := kG_of (k1 (i := 210) rfl) rfl
theorem kw_211 : (Jvm.Cond.methodLink "java/util/Objects" (105 : Nat) y_Pre_checkIndex) ∈ kG := kG_of (k1 (i := 211) (by decide +kernel)) rfl
theorem kw_212 : (Jvm.Cond.static y_Pre_checkIndex) ∈ kG := kG_of (k1 (i := 212) (by decide +kernel)) rfl
theorem kw_213 : (Jvm.Cond.code y_Pre_checkIndex prog_28_method_11_code (3 : Nat) (Option.some Jvm.ClassFile.FieldType.int)) ∈ kG := kG_of (k1 (i := 213) rfl) rfl
theorem kw_214 : (Jvm.Cond.methodLink "java/util/ArrayList" (123 : Nat) y_AL_elementData) ∈ kG := kG_of (k1 (i := 214) (by decide +kernel)) rfl
theorem kw_215 : (Jvm.Cond.instanceMethod y_AL_elementData) ∈ kG := kG_of (k1 (i := 215) (by decide +kernel)) rfl
theorem kw_216 : (Jvm.Cond.selects "java/util/ArrayList" y_AL_elementData y_AL_elementData) ∈ kG := kG_of (k1 (i := 216) (by decide +kernel)) rfl
theorem kw_217 : (Jvm.Cond.code y_AL_elementData prog_20_method_18_code (2 : Nat) (Option.some (Jvm.ClassFile.FieldType.object "java/lang/Object"))) ∈ kG := kG_of (k1 (i := 217) rfl) rfl
theorem kw_218 : (Jvm.Cond.classLink "BoxGlue" (32 : Nat) "BoxGlue$Box") ∈ kG := kG_of (k1 (i := 218) (by decide +kernel)) rfl
theorem kw_219 : (Jvm.Cond.methodLink "BoxGlue" (53 : Nat) y_Put_init) ∈ kG := kG_of (k1 (i := 219) (by decide +kernel)) rfl
theorem kw_220 : (Jvm.Cond.instanceMethod y_Put_init) ∈ kG := kG_of (k1 (i := 220) (by decide +kernel)) rfl
theorem kw_221 : (Jvm.Cond.code y_Put_init prog_9_method_1_code (3 : Nat) (Option.none : Option Jvm.ClassFile.FieldType)) ∈ kG := kG_of (k1 (i := 221) rfl) rfl
theorem kw_222 : (Jvm.Cond.methodLink "BoxGlue$Put" (7 : Nat) y_Item_init) ∈ kG := kG_of (k1 (i := 222) (by decide +kernel)) rfl
theorem kw_223 : (Jvm.Cond.instanceMethod y_Item_init) ∈ kG := kG_of (k1 (i := 223) (by decide +kernel)) rfl
theorem kw_224 : (Jvm.Cond.code y_Item_init prog_5_method_1_code (3 : Nat) (Option.none : Option Jvm.ClassFile.FieldType)) ∈ kG := kG_of (k1 (i := 224) rfl) rfl
theorem kw_225 : (Jvm.Cond.methodLink "BoxGlue$Item" (1 : Nat) y_Obj_init) ∈ kG := kG_of (k1 (i := 225) (by decide +kernel)) rfl
theorem kw_226 : (Jvm.Cond.fieldLink "BoxGlue$Put" (16 : Nat) "BoxGlue$Put" "height" "I") ∈ kG := kG_of (k1 (i := 226) (by decide +kernel)) rfl
theorem kw_227 : (Jvm.Cond.fieldLink "BoxGlue$Put" (22 : Nat) "BoxGlue$Put" "depth" "I") ∈ kG := kG_of (k1 (i := 227) (by decide +kernel)) rfl
theorem kw_228 : (Jvm.Cond.fieldLink "BoxGlue$Item" (7 : Nat) "BoxGlue$Item" "sort" "I") ∈ kG := kG_of (k1 (i := 228) (by decide +kernel)) rfl
theorem kw_229 : (Jvm.Cond.fieldLink "BoxGlue$Placed" (22 : Nat) "BoxGlue$Item" "sort" "I") ∈ kG := kG_of (k1 (i := 229) (by decide +kernel)) rfl
theorem kw_230 : (Jvm.Cond.fieldLink "BoxGlue$Item" (13 : Nat) "BoxGlue$Item" "ownLength" "I") ∈ kG := kG_of (k1 (i := 230) (by decide +kernel)) rfl
theorem kw_231 : (Jvm.Cond.fieldLink "BoxGlue$Glue" (26 : Nat) "BoxGlue$Glue" "ownLength" "I") ∈ kG := kG_of (k1 (i := 231) (by decide +kernel)) rfl
theorem kw_232 : (Jvm.Cond.sameField "BoxGlue$Glue" "BoxGlue$Item" "ownLength" "I") ∈ kG := kG_of (k1 (i := 232) (by decide +kernel)) rfl
theorem kw_233 : (Jvm.Cond.fieldLink "BoxGlue$Fit" (51 : Nat) "BoxGlue$Item" "ownLength" "I") ∈ kG := kG_of (k1 (i := 233) (by decide +kernel)) rfl
theorem kw_234 : (Jvm.Cond.fieldLink "BoxGlue$Box" (75 : Nat) "BoxGlue$Item" "ownLength" "I") ∈ kG := kG_of (k1 (i := 234) (by decide +kernel)) rfl
theorem kw_235 : (Jvm.Cond.laysFinal "BoxGlue$Put" "BoxGlue$Put" "height" "I") ∈ kG := kG_of (k1 (i := 235) (by decide +kernel)) rfl
theorem kw_236 : (Jvm.Cond.soleField "BoxGlue$Put" "height") ∈ tables_1 := k1 (i := 236) (by decide +kernel)
theorem kw_237 : (Jvm.Cond.laysFinal "BoxGlue$Put" "BoxGlue$Put" "depth" "I") ∈ kG := kG_of (k1 (i := 237) (by decide +kernel)) rfl
theorem kw_238 : (Jvm.Cond.soleField "BoxGlue$Put" "depth") ∈ tables_1 := k1 (i := 238) (by decide +kernel)
theorem kw_239 : (Jvm.Cond.laysFinal "BoxGlue$Put" "BoxGlue$Item" "sort" "I") ∈ kG := kG_of (k1 (i := 239) (by decide +kernel)) rfl
theorem kw_240 : (Jvm.Cond.soleField "BoxGlue$Item" "sort") ∈ tables_1 := k2 (i := 0) (by decide +kernel)
theorem kw_241 : (Jvm.Cond.laysFinal "BoxGlue$Put" "BoxGlue$Item" "ownLength" "I") ∈ kG := kG_of (k2 (i := 1) (by decide +kernel)) rfl
theorem kw_242 : (Jvm.Cond.soleField "BoxGlue$Item" "ownLength") ∈ tables_1 := k2 (i := 2) (by decide +kernel)
theorem kw_243 : (Jvm.Cond.superclass "BoxGlue$Put" "BoxGlue$Item") ∈ tables_1 := k2 (i := 3) (by decide +kernel)
theorem kw_244 : (Jvm.Cond.methodLink "BoxGlue" (56 : Nat) y_BG_append) ∈ kG := kG_of (k2 (i := 4) (by decide +kernel)) rfl
theorem kw_245 : (Jvm.Cond.privateMethod y_BG_append) ∈ tables_1 := k2 (i := 5) (by decide +kernel)
theorem kw_246 : (Jvm.Cond.instanceMethod y_BG_append) ∈ kG := kG_of (k2 (i := 6) (by decide +kernel)) rfl
theorem kw_247 : (Jvm.Cond.code y_BG_append prog_1_method_16_code (2 : Nat) (Option.some Jvm.ClassFile.FieldType.int)) ∈ kG := kG_of (k2 (i := 7) rfl) rfl
theorem kw_248 : (Jvm.Cond.methodLink "BoxGlueLaw" (23 : Nat) y_BG_glue) ∈ kG := kG_of (k2 (i := 8) (by decide +kernel)) rfl
theorem kw_249 : (Jvm.Cond.instanceMethod y_BG_glue) ∈ kG := kG_of (k2 (i := 9) (by decide +kernel)) rfl
theorem kw_250 : (Jvm.Cond.selects "BoxGlue" y_BG_glue y_BG_glue) ∈ kG := kG_of (k2 (i := 10) (by decide +kernel)) rfl
theorem kw_251 : (Jvm.Cond.code y_BG_glue prog_1_method_4_code (6 : Nat) (Option.some Jvm.ClassFile.FieldType.int)) ∈ kG := kG_of (k2 (i := 11) rfl) rfl
theorem kw_252 : (Jvm.Cond.methodLink "BoxGlue" (60 : Nat) y_BG_isGiving) ∈ kG := kG_of (k2 (i := 12) (by decide +kernel)) rfl
theorem kw_253 : (Jvm.Cond.static y_BG_isGiving) ∈ kG := kG_of (k2 (i := 13) (by decide +kernel)) rfl
theorem kw_254 : (Jvm.Cond.code y_BG_isGiving prog_1_method_21_code (2 : Nat) (Option.some Jvm.ClassFile.FieldType.boolean)) ∈ kG := kG_of (k2 (i := 14) rfl) rfl
theorem kw_255 : (Jvm.Cond.classLink "BoxGlue" (64 : Nat) "BoxGlue$Glue") ∈ kG := kG_of (k2 (i := 15) (by decide +kernel)) rfl
theorem kw_256 : (Jvm.Cond.instantiable "BoxGlue$Glue" (7 : Nat)) ∈ kG := kG_of (k2 (i := 16) (by decide +kernel)) rfl
theorem kw_257 : (Jvm.Cond.classLink "BoxGlue" (66 : Nat) "BoxGlue$Leaders") ∈ kG := kG_of (k2 (i := 17) (by decide +kernel)) rfl
theorem kw_258 : (Jvm.Cond.instantiable "BoxGlue$Leaders" (2 : Nat)) ∈ kG := kG_of (k2 (i := 18) (by decide +kernel)) rfl
theorem kw_259 : (Jvm.Cond.methodLink "BoxGlue" (68 : Nat) y_Leaders_init) ∈ kG := kG_of (k2 (i := 19) (by decide +kernel)) rfl
theorem kw_260 : (Jvm.Cond.instanceMethod y_Leaders_init) ∈ kG := kG_of (k2 (i := 20) (by decide +kernel)) rfl
theorem kw_261 : (Jvm.Cond.code y_Leaders_init prog_7_method_1_code (3 : Nat) (Option.none : Option Jvm.ClassFile.FieldType)) ∈ kG := kG_of (k2 (i := 21) rfl) rfl
theorem kw_262 : (Jvm.Cond.methodLink "BoxGlue$Leaders" (1 : Nat) y_Obj_init) ∈ kG := kG_of (k2 (i := 22) (by decide +kernel)) rfl
theorem kw_263 : (Jvm.Cond.fieldLink "BoxGlue$Leaders" (7 : Nat) "BoxGlue$Leaders" "kind" "I") ∈ kG := kG_of (k2 (i := 23) (by decide +kernel)) rfl
theorem kw_264 : (Jvm.Cond.fieldLink "BoxGlue$Leaders" (13 : Nat) "BoxGlue$Leaders" "boxLength" "I") ∈ kG := kG_of (k2 (i := 24) (by decide +kernel)) rfl
theorem kw_265 : (Jvm.Cond.laysFinal "BoxGlue$Leaders" "BoxGlue$Leaders" "kind" "I") ∈ kG := kG_of (k2 (i := 25) (by decide +kernel)) rfl
theorem kw_266 : (Jvm.Cond.soleField "BoxGlue$Leaders" "kind") ∈ tables_1 := k2 (i := 26) (by decide +kernel)
theorem kw_267 : (Jvm.Cond.laysFinal "BoxGlue$Leaders" "BoxGlue$Leaders" "boxLength" "I") ∈ kG := kG_of (k2 (i := 27) (by decide +kernel)) rfl
theorem kw_268 : (Jvm.Cond.soleField "BoxGlue$Leaders" "boxLength") ∈ tables_1 := k2 (i := 28) (by decide +kernel)
theorem kw_269 : (Jvm.Cond.superclass "BoxGlue$Leaders" "java/lang/Object") ∈ tables_1 := k2 (i := 29) (by decide +kernel)
theorem kw_270 : (Jvm.Cond.methodLink "BoxGlue" (71 : Nat) y_Glue_init) ∈ kG := kG_of (k2 (i := 30) (by decide +kernel)) rfl
theorem kw_271 : (Jvm.Cond.instanceMethod y_Glue_init) ∈ kG := kG_of (k2 (i := 31) (by decide +kernel)) rfl
theorem kw_272 : (Jvm.Cond.code y_Glue_init prog_4_method_1_code (7 : Nat) (Option.none : Option Jvm.ClassFile.FieldType)) ∈ kG := kG_of (k2 (i := 32) rfl) rfl
theorem kw_273 : (Jvm.Cond.methodLink "BoxGlue$Glue" (1 : Nat) y_Item_init) ∈ kG := kG_of (k2 (i := 33) (by decide +kernel)) rfl
theorem kw_274 : (Jvm.Cond.fieldLink "BoxGlue$Glue" (7 : Nat) "BoxGlue$Glue" "stretch" "I") ∈ kG := kG_of (k2 (i := 34) (by decide +kernel)) rfl
theorem kw_275 : (Jvm.Cond.fieldLink "BoxGlue$Glue" (13 : Nat) "BoxGlue$Glue" "stretchOrder" "I") ∈ kG := kG_of (k2 (i := 35) (by decide +kernel)) rfl
theorem kw_276 : (Jvm.Cond.fieldLink "BoxGlue$Glue" (16 : Nat) "BoxGlue$Glue" "shrink" "I") ∈ kG := kG_of (k2 (i := 36) (by decide +kernel)) rfl
theorem kw_277 : (Jvm.Cond.fieldLink "BoxGlue$Glue" (19 : Nat) "BoxGlue$Glue" "shrinkOrder" "I") ∈ kG := kG_of (k2 (i := 37) (by decide +kernel)) rfl
theorem kw_278 : (Jvm.Cond.fieldLink "BoxGlue$Glue" (22 : Nat) "BoxGlue$Glue" "row" "LBoxGlue$Leaders;") ∈ kG := kG_of (k2 (i := 38) (by decide +kernel)) rfl
theorem kw_279 : (Jvm.Cond.laysFinal "BoxGlue$Glue" "BoxGlue$Glue" "stretch" "I") ∈ kG := kG_of (k2 (i := 39) (by decide +kernel)) rfl
theorem kw_280 : (Jvm.Cond.soleField "BoxGlue$Glue" "stretch") ∈ tables_1 := k2 (i := 40) (by decide +kernel)
theorem kw_281 : (Jvm.Cond.laysFinal "BoxGlue$Glue" "BoxGlue$Glue" "stretchOrder" "I") ∈ kG := kG_of (k2 (i := 41) (by decide +kernel)) rfl
theorem kw_282 : (Jvm.Cond.soleField "BoxGlue$Glue" "stretchOrder") ∈ tables_1 := k2 (i := 42) (by decide +kernel)
theorem kw_283 : (Jvm.Cond.laysFinal "BoxGlue$Glue" "BoxGlue$Glue" "shrink" "I") ∈ kG := kG_of (k2 (i := 43) (by decide +kernel)) rfl
theorem kw_284 : (Jvm.Cond.soleField "BoxGlue$Glue" "shrink") ∈ tables_1 := k2 (i := 44) (by decide +kernel)
theorem kw_285 : (Jvm.Cond.laysFinal "BoxGlue$Glue" "BoxGlue$Glue" "shrinkOrder" "I") ∈ kG := kG_of (k2 (i := 45) (by decide +kernel)) rfl
theorem kw_286 : (Jvm.Cond.soleField "BoxGlue$Glue" "shrinkOrder") ∈ tables_1 := k2 (i := 46) (by decide +kernel)
theorem kw_287 : (Jvm.Cond.laysFinal "BoxGlue$Glue" "BoxGlue$Glue" "row" "LBoxGlue$Leaders;") ∈ kG := kG_of (k2 (i := 47) (by decide +kernel)) rfl
theorem kw_288 : (Jvm.Cond.soleField "BoxGlue$Glue" "row") ∈ tables_1 := k2 (i := 48) (by decide +kernel)
theorem kw_289 : (Jvm.Cond.laysFinal "BoxGlue$Glue" "BoxGlue$Item" "sort" "I") ∈ kG := kG_of (k2 (i := 49) (by decide +kernel)) rfl
theorem kw_290 : (Jvm.Cond.laysFinal "BoxGlue$Glue" "BoxGlue$Item" "ownLength" "I") ∈ kG := kG_of (k2 (i := 50) (by decide +kernel)) rfl
theorem kw_291 : (Jvm.Cond.superclass "BoxGlue$Glue" "BoxGlue$Item") ∈ tables_1 := k2 (i := 51) (by decide +kernel)
theorem kw_292 : (Jvm.Cond.methodLink "BoxGlueLaw" (28 : Nat) y_BG_kern) ∈ kG := kG_of (k2 (i := 52) (by decide +kernel)) rfl
theorem kw_293 : (Jvm.Cond.instanceMethod y_BG_kern) ∈ kG := kG_of (k2 (i := 53) (by decide +kernel)) rfl
theorem kw_294 : (Jvm.Cond.selects "BoxGlue" y_BG_kern y_BG_kern) ∈ kG := kG_of (k2 (i := 54) (by decide +kernel)) rfl
theorem kw_295 : (Jvm.Cond.code y_BG_kern prog_1_method_5_code (2 : Nat) (Option.some Jvm.ClassFile.FieldType.int)) ∈ kG := kG_of (k2 (i := 55) rfl) rfl
theorem kw_296 : (Jvm.Cond.classLink "BoxGlue" (74 : Nat) "BoxGlue$Kern") ∈ kG := kG_of (k2 (i := 56) (by decide +kernel)) rfl
theorem kw_297 : (Jvm.Cond.instantiable "BoxGlue$Kern" (2 : Nat)) ∈ kG := kG_of (k2 (i := 57) (by decide +kernel)) rfl
theorem kw_298 : (Jvm.Cond.methodLink "BoxGlue" (76 : Nat) y_Kern_init) ∈ kG := kG_of (k2 (i := 58) (by decide +kernel)) rfl
theorem kw_299 : (Jvm.Cond.instanceMethod y_Kern_init) ∈ kG := kG_of (k2 (i := 59) (by decide +kernel)) rfl
theorem kw_300 : (Jvm.Cond.code y_Kern_init prog_6_method_1_code (2 : Nat) (Option.none : Option Jvm.ClassFile.FieldType)) ∈ kG := kG_of (k2 (i := 60) rfl) rfl
theorem kw_301 : (Jvm.Cond.methodLink "BoxGlue$Kern" (1 : Nat) y_Item_init) ∈ kG := kG_of (k2 (i := 61) (by decide +kernel)) rfl
theorem kw_302 : (Jvm.Cond.laysFinal "BoxGlue$Kern" "BoxGlue$Item" "sort" "I") ∈ kG := kG_of (k2 (i := 62) (by decide +kernel)) rfl
theorem kw_303 : (Jvm.Cond.laysFinal "BoxGlue$Kern" "BoxGlue$Item" "ownLength" "I") ∈ kG := kG_of (k2 (i := 63) (by decide +kernel)) rfl
theorem kw_304 : (Jvm.Cond.superclass "BoxGlue$Kern" "BoxGlue$Item") ∈ tables_1 := k2 (i := 64) (by decide +kernel)
theorem kw_305 : (Jvm.Cond.methodLink "BoxGlueLaw" (33 : Nat) y_BG_rule) ∈ kG := kG_of (k2 (i := 65) (by decide +kernel)) rfl
theorem kw_306 : (Jvm.Cond.instanceMethod y_BG_rule) ∈ kG := kG_of (k2 (i := 66) (by decide +kernel)) rfl
theorem kw_307 : (Jvm.Cond.selects "BoxGlue" y_BG_rule y_BG_rule) ∈ kG := kG_of (k2 (i := 67) (by decide +kernel)) rfl
theorem kw_308 : (Jvm.Cond.code y_BG_rule prog_1_method_6_code (4 : Nat) (Option.some Jvm.ClassFile.FieldType.int)) ∈ kG := kG_of (k2 (i := 68) rfl) rfl
theorem kw_309 : (Jvm.Cond.methodLink "BoxGlue" (79 : Nat) y_BG_isExtentOrRunning) ∈ kG := kG_of (k2 (i := 69) (by decide +kernel)) rfl
theorem kw_310 : (Jvm.Cond.static y_BG_isExtentOrRunning) ∈ kG := kG_of (k2 (i := 70) (by decide +kernel)) rfl
theorem kw_311 : (Jvm.Cond.code y_BG_isExtentOrRunning prog_1_method_20_code (1 : Nat) (Option.some Jvm.ClassFile.FieldType.boolean)) ∈ kG := kG_of (k2 (i := 71) rfl) rfl
theorem kw_312 : (Jvm.Cond.constant "BoxGlue" (143 : Nat) (-1000000 : Int32)) ∈ kG := kG_of (k2 (i := 72) (by decide +kernel)) rfl
theorem kw_313 : (Jvm.Cond.classLink "BoxGlue" (82 : Nat) "BoxGlue$Rule") ∈ kG := kG_of (k2 (i := 73) (by decide +kernel)) rfl
theorem kw_314 : (Jvm.Cond.instantiable "BoxGlue$Rule" (4 : Nat)) ∈ kG := kG_of (k2 (i := 74) (by decide +kernel)) rfl
theorem kw_315 : (Jvm.Cond.methodLink "BoxGlue" (84 : Nat) y_Rule_init) ∈ kG := kG_of (k2 (i := 75) (by decide +kernel)) rfl
theorem kw_316 : (Jvm.Cond.instanceMethod y_Rule_init) ∈ kG := kG_of (k2 (i := 76) (by decide +kernel)) rfl
theorem kw_317 : (Jvm.Cond.code y_Rule_init prog_10_method_1_code (4 : Nat) (Option.none : Option Jvm.ClassFile.FieldType)) ∈ kG := kG_of (k2 (i := 77) rfl) rfl
theorem kw_318 : (Jvm.Cond.methodLink "BoxGlue$Rule" (3 : Nat) y_Item_init) ∈ kG := kG_of (k2 (i := 78) (by decide +kernel)) rfl
theorem kw_319 : (Jvm.Cond.fieldLink "BoxGlue$Rule" (9 : Nat) "BoxGlue$Rule" "height" "I") ∈ kG := kG_of (k2 (i := 79) (by decide +kernel)) rfl
theorem kw_320 : (Jvm.Cond.fieldLink "BoxGlue$Rule" (15 : Nat) "BoxGlue$Rule" "depth" "I") ∈ kG := kG_of (k2 (i := 80) (by decide +kernel)) rfl
theorem kw_321 : (Jvm.Cond.laysFinal "BoxGlue$Rule" "BoxGlue$Rule" "height" "I") ∈ kG := kG_of (k2 (i := 81) (by decide +kernel)) rfl
theorem kw_322 : (Jvm.Cond.soleField "BoxGlue$Rule" "height") ∈ tables_1 := k2 (i := 82) (by decide +kernel)
theorem kw_323 : (Jvm.Cond.laysFinal "BoxGlue$Rule" "BoxGlue$Rule" "depth" "I") ∈ kG := kG_of (k2 (i := 83) (by decide +kernel)) rfl
theorem kw_324 : (Jvm.Cond.soleField "BoxGlue$Rule" "depth") ∈ tables_1 := k2 (i := 84) (by decide +kernel)
theorem kw_325 : (Jvm.Cond.laysFinal "BoxGlue$Rule" "BoxGlue$Item" "sort" "I") ∈ kG := kG_of (k2 (i := 85) (by decide +kernel)) rfl
theorem kw_326 : (Jvm.Cond.laysFinal "BoxGlue$Rule" "BoxGlue$Item" "ownLength" "I") ∈ kG := kG_of (k2 (i := 86) (by decide +kernel)) rfl
theorem kw_327 : (Jvm.Cond.superclass "BoxGlue$Rule" "BoxGlue$Item") ∈ tables_1 := k2 (i := 87) (by decide +kernel)
theorem kw_328 : (Jvm.Cond.methodLink "BoxGlueLaw" (37 : Nat) y_BG_leaders) ∈ kG := kG_of (k2 (i := 88) (by decide +kernel)) rfl
theorem kw_329 : (Jvm.Cond.instanceMethod y_BG_leaders) ∈ kG := kG_of (k2 (i := 89) (by decide +kernel)) rfl
theorem kw_330 : (Jvm.Cond.selects "BoxGlue" y_BG_leaders y_BG_leaders) ∈ kG := kG_of (k2 (i := 90) (by decide +kernel)) rfl
theorem kw_331 : (Jvm.Cond.code y_BG_leaders prog_1_method_7_code (6 : Nat) (Option.some Jvm.ClassFile.FieldType.int)) ∈ kG := kG_of (k2 (i := 91) rfl) rfl
theorem kw_332 : (Jvm.Cond.methodLink "BoxGlue" (87 : Nat) y_AL_isEmpty) ∈ kG := kG_of (k2 (i := 92) (by decide +kernel)) rfl
theorem kw_333 : (Jvm.Cond.instanceMethod y_AL_isEmpty) ∈ kG := kG_of (k2 (i := 93) (by decide +kernel)) rfl
theorem kw_334 : (Jvm.Cond.selects "java/util/ArrayList" y_AL_isEmpty y_AL_isEmpty) ∈ kG := kG_of (k2 (i := 94) (by decide +kernel)) rfl
theorem kw_335 : (Jvm.Cond.code y_AL_isEmpty prog_20_method_9_code (1 : Nat) (Option.some Jvm.ClassFile.FieldType.boolean)) ∈ kG := kG_of (k2 (i := 95) rfl) rfl
theorem kw_336 : (Jvm.Cond.methodLink "BoxGlue" (94 : Nat) y_Glue_with) ∈ kG := kG_of (k2 (i := 96) (by decide +kernel)) rfl
theorem kw_337 : (Jvm.Cond.instanceMethod y_Glue_with) ∈ kG := kG_of (k2 (i := 97) (by decide +kernel)) rfl
theorem kw_338 : (Jvm.Cond.selects "BoxGlue$Glue" y_Glue_with y_Glue_with) ∈ kG := kG_of (k2 (i := 98) (by decide +kernel)) rfl
theorem kw_339 : (Jvm.Cond.code y_Glue_with prog_4_method_2_code (2 : Nat) (Option.some (Jvm.ClassFile.FieldType.object "BoxGlue$Glue"))) ∈ kG := kG_of (k2 (i := 99) rfl) rfl
theorem kw_340 : (Jvm.Cond.classLink "BoxGlue$Glue" (8 : Nat) "BoxGlue$Glue") ∈ kG := kG_of (k2 (i := 100) (by decide +kernel)) rfl
theorem kw_341 : (Jvm.Cond.methodLink "BoxGlue$Glue" (29 : Nat) y_Glue_init) ∈ kG := kG_of (k2 (i := 101) (by decide +kernel)) rfl
theorem kw_342 : (Jvm.Cond.methodLink "BoxGlue" (98 : Nat) y_AL_set) ∈ kG := kG_of (k2 (i := 102) (by decide +kernel)) rfl
theorem kw_343 : (Jvm.Cond.instanceMethod y_AL_set) ∈ kG := kG_of (k2 (i := 103) (by decide +kernel)) rfl
theorem kw_344 : (Jvm.Cond.selects "java/util/ArrayList" y_AL_set y_AL_set) ∈ kG := kG_of (k2 (i := 104) (by decide +kernel)) rfl
theorem kw_345 : (Jvm.Cond.code y_AL_set prog_20_method_23_code (4 : Nat) (Option.some (Jvm.ClassFile.FieldType.object "java/lang/Object"))) ∈ kG := kG_of (k2 (i := 105) rfl) rfl
theorem kw_346 : (Jvm.Cond.methodLink "BoxGlueLaw" (41 : Nat) y_BG_pack) ∈ kG := kG_of (k2 (i := 106) (by decide +kernel)) rfl
theorem kw_347 : (Jvm.Cond.instanceMethod y_BG_pack) ∈ kG := kG_of (k2 (i := 107) (by decide +kernel)) rfl
theorem kw_348 : (Jvm.Cond.selects "BoxGlue" y_BG_pack y_BG_pack) ∈ kG := kG_of (k2 (i := 108) (by decide +kernel)) rfl
theorem kw_349 : (Jvm.Cond.code y_BG_pack prog_1_method_8_code (3 : Nat) (Option.some Jvm.ClassFile.FieldType.int)) ∈ kG := kG_of (k2 (i := 109) rfl) rfl
theorem kw_350 : (Jvm.Cond.constant "BoxGlue" (102 : Nat) (1000000 : Int32)) ∈ kG := kG_of (k2 (i := 110) (by decide +kernel)) rfl
theorem kw_351 : (Jvm.Cond.methodLink "BoxGlue" (103 : Nat) y_Fit_lengthOf) ∈ kG := kG_of (k2 (i := 111) (by decide +kernel)) rfl
theorem kw_352 : (Jvm.Cond.static y_Fit_lengthOf) ∈ kG := kG_of (k2 (i := 112) (by decide +kernel)) rfl
theorem kw_353 : (Jvm.Cond.code y_Fit_lengthOf prog_3_method_3_code (3 : Nat) (Option.some Jvm.ClassFile.FieldType.int)) ∈ kG := kG_of (k2 (i := 113) rfl) rfl
theorem kw_354 : (Jvm.Cond.methodLink "BoxGlue$Fit" (39 : Nat) y_AL_size) ∈ kG := kG_of (k2 (i := 114) (by decide +kernel)) rfl
theorem kw_355 : (Jvm.Cond.methodLink "BoxGlue$Fit" (45 : Nat) y_AL_get) ∈ kG := kG_of (k2 (i := 115) (by decide +kernel)) rfl
theorem kw_356 : (Jvm.Cond.classLink "BoxGlue$Fit" (49 : Nat) "BoxGlue$Item") ∈ kG := kG_of (k2 (i := 116) (by decide +kernel)) rfl
theorem kw_357 : (Jvm.Cond.methodLink "BoxGlue" (109 : Nat) y_Math_max) ∈ kG := kG_of (k2 (i := 117) (by decide +kernel)) rfl
theorem kw_358 : (Jvm.Cond.methodLink "BoxGlue" (115 : Nat) y_Box_packed) ∈ kG := kG_of (k2 (i := 118) (by decide +kernel)) rfl
theorem kw_359 : (Jvm.Cond.static y_Box_packed) ∈ kG := kG_of (k2 (i := 119) (by decide +kernel)) rfl
theorem kw_360 : (Jvm.Cond.code y_Box_packed prog_2_method_3_code (5 : Nat) (Option.some (Jvm.ClassFile.FieldType.object "BoxGlue$Box"))) ∈ kG := kG_of (k2 (i := 120) rfl) rfl
theorem kw_361 : (Jvm.Cond.methodLink "BoxGlue$Box" (40 : Nat) y_AL_size) ∈ kG := kG_of (k2 (i := 121) (by decide +kernel)) rfl
theorem kw_362 : (Jvm.Cond.methodLink "BoxGlue$Box" (44 : Nat) y_AL_get) ∈ kG := kG_of (k2 (i := 122) (by decide +kernel)) rfl
theorem kw_363 : (Jvm.Cond.classLink "BoxGlue$Box" (48 : Nat) "BoxGlue$Item") ∈ kG := kG_of (k2 (i := 123) (by decide +kernel)) rfl
theorem kw_364 : (Jvm.Cond.methodLink "BoxGlue$Box" (50 : Nat) y_Item_heightWhere) ∈ kG := kG_of (k2 (i := 124) (by decide +kernel)) rfl
theorem kw_365 : (Jvm.Cond.instanceMethod y_Item_heightWhere) ∈ kG := kG_of (k2 (i := 125) (by decide +kernel)) rfl
theorem kw_366 : (Jvm.Cond.sameMethod "BoxGlue$Item" "BoxGlue$Item" "heightWhere" "(I)I") ∈ kG := kG_of (k2 (i := 126) (by decide +kernel)) rfl
theorem kw_367 : (Jvm.Cond.selects "BoxGlue$Glue" y_Item_heightWhere y_Item_heightWhere) ∈ kG := kG_of (k2 (i := 127) (by decide +kernel)) rfl
theorem kw_368 : (Jvm.Cond.selects "BoxGlue$Kern" y_Item_heightWhere y_Item_heightWhere) ∈ kG := kG_of (k2 (i := 128) (by decide +kernel)) rfl
theorem kw_369 : (Jvm.Cond.selects "BoxGlue$Put" y_Item_heightWhere y_Put_heightWhere) ∈ kG := kG_of (k2 (i := 129) (by decide +kernel)) rfl
theorem kw_370 : (Jvm.Cond.instanceMethod y_Put_heightWhere) ∈ kG := kG_of (k2 (i := 130) (by decide +kernel)) rfl
theorem kw_371 : (Jvm.Cond.code y_Put_heightWhere prog_9_method_2_code (2 : Nat) (Option.some Jvm.ClassFile.FieldType.int)) ∈ kG := kG_of (k2 (i := 131) rfl) rfl
theorem kw_372 : (Jvm.Cond.selects "BoxGlue$Rule" y_Item_heightWhere y_Rule_heightWhere) ∈ kG := kG_of (k2 (i := 132) (by decide +kernel)) rfl
theorem kw_373 : (Jvm.Cond.instanceMethod y_Rule_heightWhere) ∈ kG := kG_of (k2 (i := 133) (by decide +kernel)) rfl
theorem kw_374 : (Jvm.Cond.code y_Rule_heightWhere prog_10_method_2_code (2 : Nat) (Option.some Jvm.ClassFile.FieldType.int)) ∈ kG := kG_of (k2 (i := 134) rfl) rfl
theorem kw_375 : (Jvm.Cond.constant "BoxGlue$Rule" (18 : Nat) (-1000000 : Int32)) ∈ kG := kG_of (k2 (i := 135) (by decide +kernel)) rfl
theorem kw_376 : (Jvm.Cond.code y_Item_heightWhere prog_5_method_3_code (2 : Nat) (Option.some Jvm.ClassFile.FieldType.int)) ∈ kG := kG_of (k2 (i := 136) rfl) rfl
theorem kw_377 : (Jvm.Cond.methodLink "BoxGlue$Box" (54 : Nat) y_Math_max) ∈ kG := kG_of (k2 (i := 137) (by decide +kernel)) rfl
theorem kw_378 : (Jvm.Cond.methodLink "BoxGlue$Box" (60 : Nat) y_Item_depthWhere) ∈ kG := kG_of (k2 (i := 138) (by decide +kernel)) rfl
theorem kw_379 : (Jvm.Cond.instanceMethod y_Item_depthWhere) ∈ kG := kG_of (k2 (i := 139) (by decide +kernel)) rfl
theorem kw_380 : (Jvm.Cond.sameMethod "BoxGlue$Item" "BoxGlue$Item" "depthWhere" "(I)I") ∈ kG := kG_of (k2 (i := 140) (by decide +kernel)) rfl
theorem kw_381 : (Jvm.Cond.selects "BoxGlue$Glue" y_Item_depthWhere y_Item_depthWhere) ∈ kG := kG_of (k2 (i := 141) (by decide +kernel)) rfl
theorem kw_382 : (Jvm.Cond.selects "BoxGlue$Kern" y_Item_depthWhere y_Item_depthWhere) ∈ kG := kG_of (k2 (i := 142) (by decide +kernel)) rfl
theorem kw_383 : (Jvm.Cond.selects "BoxGlue$Put" y_Item_depthWhere y_Put_depthWhere) ∈ kG := kG_of (k2 (i := 143) (by decide +kernel)) rfl
theorem kw_384 : (Jvm.Cond.instanceMethod y_Put_depthWhere) ∈ kG := kG_of (k2 (i := 144) (by decide +kernel)) rfl
theorem kw_385 : (Jvm.Cond.code y_Put_depthWhere prog_9_method_3_code (2 : Nat) (Option.some Jvm.ClassFile.FieldType.int)) ∈ kG := kG_of (k2 (i := 145) rfl) rfl
theorem kw_386 : (Jvm.Cond.selects "BoxGlue$Rule" y_Item_depthWhere y_Rule_depthWhere) ∈ kG := kG_of (k2 (i := 146) (by decide +kernel)) rfl
theorem kw_387 : (Jvm.Cond.instanceMethod y_Rule_depthWhere) ∈ kG := kG_of (k2 (i := 147) (by decide +kernel)) rfl
theorem kw_388 : (Jvm.Cond.code y_Rule_depthWhere prog_10_method_3_code (2 : Nat) (Option.some Jvm.ClassFile.FieldType.int)) ∈ kG := kG_of (k2 (i := 148) rfl) rfl
theorem kw_389 : (Jvm.Cond.code y_Item_depthWhere prog_5_method_4_code (2 : Nat) (Option.some Jvm.ClassFile.FieldType.int)) ∈ kG := kG_of (k2 (i := 149) rfl) rfl
theorem kw_390 : (Jvm.Cond.methodLink "BoxGlue$Box" (63 : Nat) y_Fit_of) ∈ kG := kG_of (k2 (i := 150) (by decide +kernel)) rfl
theorem kw_391 : (Jvm.Cond.static y_Fit_of) ∈ kG := kG_of (k2 (i := 151) (by decide +kernel)) rfl
theorem kw_392 : (Jvm.Cond.code y_Fit_of prog_3_method_2_code (5 : Nat) (Option.some (Jvm.ClassFile.FieldType.object "BoxGlue$Fit"))) ∈ kG := kG_of (k2 (i := 152) rfl) rfl
theorem kw_393 : (Jvm.Cond.methodLink "BoxGlue$Fit" (24 : Nat) y_Fit_lengthOf) ∈ kG := kG_of (k2 (i := 153) (by decide +kernel)) rfl
theorem kw_394 : (Jvm.Cond.methodLink "BoxGlue$Fit" (28 : Nat) y_Fit_greatestOrder) ∈ kG := kG_of (k2 (i := 154) (by decide +kernel)) rfl
theorem kw_395 : (Jvm.Cond.static y_Fit_greatestOrder) ∈ kG := kG_of (k2 (i := 155) (by decide +kernel)) rfl
theorem kw_396 : (Jvm.Cond.code y_Fit_greatestOrder prog_3_method_4_code (3 : Nat) (Option.some Jvm.ClassFile.FieldType.int)) ∈ kG := kG_of (k2 (i := 156) rfl) rfl
theorem kw_397 : (Jvm.Cond.methodLink "BoxGlue$Fit" (32 : Nat) y_Fit_sumOf) ∈ kG := kG_of (k2 (i := 157) (by decide +kernel)) rfl
theorem kw_398 : (Jvm.Cond.static y_Fit_sumOf) ∈ kG := kG_of (k2 (i := 158) (by decide +kernel)) rfl
theorem kw_399 : (Jvm.Cond.code y_Fit_sumOf prog_3_method_5_code (5 : Nat) (Option.some Jvm.ClassFile.FieldType.int)) ∈ kG := kG_of (k2 (i := 159) rfl) rfl
theorem kw_400 : (Jvm.Cond.methodLink "BoxGlue$Fit" (52 : Nat) y_Item_giving) ∈ kG := kG_of (k2 (i := 160) (by decide +kernel)) rfl
theorem kw_401 : (Jvm.Cond.instanceMethod y_Item_giving) ∈ kG := kG_of (k2 (i := 161) (by decide +kernel)) rfl
theorem kw_402 : (Jvm.Cond.sameMethod "BoxGlue$Item" "BoxGlue$Item" "giving" "(ZI)I") ∈ kG := kG_of (k2 (i := 162) (by decide +kernel)) rfl
theorem kw_403 : (Jvm.Cond.selects "BoxGlue$Glue" y_Item_giving y_Glue_giving) ∈ kG := kG_of (k2 (i := 163) (by decide +kernel)) rfl
theorem kw_404 : (Jvm.Cond.instanceMethod y_Glue_giving) ∈ kG := kG_of (k2 (i := 164) (by decide +kernel)) rfl
theorem kw_405 : (Jvm.Cond.code y_Glue_giving prog_4_method_3_code (3 : Nat) (Option.some Jvm.ClassFile.FieldType.int)) ∈ kG := kG_of (k2 (i := 165) rfl) rfl
theorem kw_406 : (Jvm.Cond.selects "BoxGlue$Kern" y_Item_giving y_Item_giving) ∈ kG := kG_of (k2 (i := 166) (by decide +kernel)) rfl
theorem kw_407 : (Jvm.Cond.selects "BoxGlue$Put" y_Item_giving y_Item_giving) ∈ kG := kG_of (k2 (i := 167) (by decide +kernel)) rfl
theorem kw_408 : (Jvm.Cond.selects "BoxGlue$Rule" y_Item_giving y_Item_giving) ∈ kG := kG_of (k2 (i := 168) (by decide +kernel)) rfl
theorem kw_409 : (Jvm.Cond.code y_Item_giving prog_5_method_2_code (3 : Nat) (Option.some Jvm.ClassFile.FieldType.int)) ∈ kG := kG_of (k2 (i := 169) rfl) rfl
theorem kw_410 : (Jvm.Cond.classLink "BoxGlue$Fit" (10 : Nat) "BoxGlue$Fit") ∈ kG := kG_of (k2 (i := 170) (by decide +kernel)) rfl
theorem kw_411 : (Jvm.Cond.methodLink "BoxGlue$Fit" (36 : Nat) y_Fit_init) ∈ kG := kG_of (k2 (i := 171) (by decide +kernel)) rfl
theorem kw_412 : (Jvm.Cond.methodLink "BoxGlue$Box" (67 : Nat) y_Box_placed) ∈ kG := kG_of (k2 (i := 172) (by decide +kernel)) rfl
theorem kw_413 : (Jvm.Cond.static y_Box_placed) ∈ kG := kG_of (k2 (i := 173) (by decide +kernel)) rfl
theorem kw_414 : (Jvm.Cond.code y_Box_placed prog_2_method_4_code (9 : Nat) (Option.some (Jvm.ClassFile.FieldType.object "java/util/ArrayList"))) ∈ kG := kG_of (k2 (i := 174) rfl) rfl
theorem kw_415 : (Jvm.Cond.methodLink "BoxGlue$Box" (71 : Nat) y_Fit_givingOf) ∈ kG := kG_of (k2 (i := 175) (by decide +kernel)) rfl
theorem kw_416 : (Jvm.Cond.instanceMethod y_Fit_givingOf) ∈ kG := kG_of (k2 (i := 176) (by decide +kernel)) rfl
theorem kw_417 : (Jvm.Cond.selects "BoxGlue$Fit" y_Fit_givingOf y_Fit_givingOf) ∈ kG := kG_of (k2 (i := 177) (by decide +kernel)) rfl
theorem kw_418 : (Jvm.Cond.code y_Fit_givingOf prog_3_method_6_code (2 : Nat) (Option.some Jvm.ClassFile.FieldType.int)) ∈ kG := kG_of (k2 (i := 178) rfl) rfl
theorem kw_419 : (Jvm.Cond.methodLink "BoxGlue$Box" (78 : Nat) y_Fit_change) ∈ kG := kG_of (k2 (i := 179) (by decide +kernel)) rfl
theorem kw_420 : (Jvm.Cond.instanceMethod y_Fit_change) ∈ kG := kG_of (k2 (i := 180) (by decide +kernel)) rfl
theorem kw_421 : (Jvm.Cond.selects "BoxGlue$Fit" y_Fit_change y_Fit_change) ∈ kG := kG_of (k2 (i := 181) (by decide +kernel)) rfl
theorem kw_422 : (Jvm.Cond.code y_Fit_change prog_3_method_7_code (3 : Nat) (Option.some Jvm.ClassFile.FieldType.int)) ∈ kG := kG_of (k2 (i := 182) rfl) rfl
theorem kw_423 : (Jvm.Cond.methodLink "BoxGlue$Fit" (56 : Nat) y_Fit_share) ∈ kG := kG_of (k2 (i := 183) (by decide +kernel)) rfl
theorem kw_424 : (Jvm.Cond.privateMethod y_Fit_share) ∈ tables_1 := k2 (i := 184) (by decide +kernel)
theorem kw_425 : (Jvm.Cond.instanceMethod y_Fit_share) ∈ kG := kG_of (k2 (i := 185) (by decide +kernel)) rfl
theorem kw_426 : (Jvm.Cond.code y_Fit_share prog_3_method_8_code (4 : Nat) (Option.some Jvm.ClassFile.FieldType.int)) ∈ kG := kG_of (k2 (i := 186) rfl) rfl
theorem kw_427 : (Jvm.Cond.methodLink "BoxGlue$Fit" (60 : Nat) y_Fit_over) ∈ kG := kG_of (k2 (i := 187) (by decide +kernel)) rfl
theorem kw_428 : (Jvm.Cond.instanceMethod y_Fit_over) ∈ kG := kG_of (k2 (i := 188) (by decide +kernel)) rfl
theorem kw_429 : (Jvm.Cond.selects "BoxGlue$Fit" y_Fit_over y_Fit_over) ∈ kG := kG_of (k2 (i := 189) (by decide +kernel)) rfl
theorem kw_430 : (Jvm.Cond.code y_Fit_over prog_3_method_9_code (1 : Nat) (Option.some Jvm.ClassFile.FieldType.int)) ∈ kG := kG_of (k2 (i := 190) rfl) rfl
theorem kw_431 : (Jvm.Cond.methodLink "BoxGlue$Fit" (63 : Nat) y_Math_max) ∈ kG := kG_of (k2 (i := 191) (by decide +kernel)) rfl
theorem kw_432 : (Jvm.Cond.classLink "BoxGlue$Box" (81 : Nat) "BoxGlue$Placed") ∈ kG := kG_of (k2 (i := 192) (by decide +kernel)) rfl
theorem kw_433 : (Jvm.Cond.instantiable "BoxGlue$Placed" (3 : Nat)) ∈ kG := kG_of (k2 (i := 193) (by decide +kernel)) rfl
theorem kw_434 : (Jvm.Cond.methodLink "BoxGlue$Box" (83 : Nat) y_Placed_init) ∈ kG := kG_of (k2 (i := 194) (by decide +kernel)) rfl
theorem kw_435 : (Jvm.Cond.instanceMethod y_Placed_init) ∈ kG := kG_of (k2 (i := 195) (by decide +kernel)) rfl
theorem kw_436 : (Jvm.Cond.code y_Placed_init prog_8_method_1_code (4 : Nat) (Option.none : Option Jvm.ClassFile.FieldType)) ∈ kG := kG_of (k2 (i := 196) rfl) rfl
theorem kw_437 : (Jvm.Cond.methodLink "BoxGlue$Placed" (3 : Nat) y_Obj_init) ∈ kG := kG_of (k2 (i := 197) (by decide +kernel)) rfl
theorem kw_438 : (Jvm.Cond.fieldLink "BoxGlue$Placed" (9 : Nat) "BoxGlue$Placed" "given" "LBoxGlue$Item;") ∈ kG := kG_of (k2 (i := 198) (by decide +kernel)) rfl
theorem kw_439 : (Jvm.Cond.fieldLink "BoxGlue" (127 : Nat) "BoxGlue$Placed" "given" "LBoxGlue$Item;") ∈ kG := kG_of (k2 (i := 199) (by decide +kernel)) rfl
theorem kw_440 : (Jvm.Cond.fieldLink "BoxGlue$Placed" (15 : Nat) "BoxGlue$Placed" "place" "I") ∈ kG := kG_of (k2 (i := 200) (by decide +kernel)) rfl
theorem kw_441 : (Jvm.Cond.fieldLink "BoxGlue$Placed" (19 : Nat) "BoxGlue$Placed" "length" "I") ∈ kG := kG_of (k2 (i := 201) (by decide +kernel)) rfl
theorem kw_442 : (Jvm.Cond.laysFinal "BoxGlue$Placed" "BoxGlue$Placed" "given" "LBoxGlue$Item;") ∈ kG := kG_of (k2 (i := 202) (by decide +kernel)) rfl
theorem kw_443 : (Jvm.Cond.soleField "BoxGlue$Placed" "given") ∈ tables_1 := k2 (i := 203) (by decide +kernel)
theorem kw_444 : (Jvm.Cond.laysFinal "BoxGlue$Placed" "BoxGlue$Placed" "place" "I") ∈ kG := kG_of (k2 (i := 204) (by decide +kernel)) rfl
theorem kw_445 : (Jvm.Cond.soleField "BoxGlue$Placed" "place") ∈ tables_1 := k2 (i := 205) (by decide +kernel)
theorem kw_446 : (Jvm.Cond.laysFinal "BoxGlue$Placed" "BoxGlue$Placed" "length" "I") ∈ kG := kG_of (k2 (i := 206) (by decide +kernel)) rfl
theorem kw_447 : (Jvm.Cond.soleField "BoxGlue$Placed" "length") ∈ tables_1 := k2 (i := 207) (by decide +kernel)
theorem kw_448 : (Jvm.Cond.superclass "BoxGlue$Placed" "java/lang/Object") ∈ tables_1 := k2 (i := 208) (by decide +kernel)
theorem kw_449 : (Jvm.Cond.methodLink "BoxGlue$Box" (86 : Nat) y_AL_add) ∈ kG := kG_of (k2 (i := 209) (by decide +kernel)) rfl
theorem kw_450 : (Jvm.Cond.methodLink "BoxGlue" (119 : Nat) y_AL_clear) ∈ kG := kG_of (k2 (i := 210) (by decide +kernel)) rfl
theorem kw_451 : (Jvm.Cond.instanceMethod y_AL_clear) ∈ kG := kG_of (k2 (i := 211) (by decide +kernel)) rfl
theorem kw_452 : (Jvm.Cond.selects "java/util/ArrayList" y_AL_clear y_AL_clear) ∈ kG := kG_of (k2 (i := 212) (by decide +kernel)) rfl
theorem kw_453 : (Jvm.Cond.code y_AL_clear prog_20_method_40_code (4 : Nat) (Option.none : Option Jvm.ClassFile.FieldType)) ∈ kG := kG_of (k2 (i := 213) rfl) rfl
theorem kw_454 : (Jvm.Cond.methodLink "BoxGlueLaw" (45 : Nat) y_BG_unpack) ∈ kG := kG_of (k2 (i := 214) (by decide +kernel)) rfl
theorem kw_455 : (Jvm.Cond.instanceMethod y_BG_unpack) ∈ kG := kG_of (k2 (i := 215) (by decide +kernel)) rfl
theorem kw_456 : (Jvm.Cond.selects "BoxGlue" y_BG_unpack y_BG_unpack) ∈ kG := kG_of (k2 (i := 216) (by decide +kernel)) rfl
theorem kw_457 : (Jvm.Cond.code y_BG_unpack prog_1_method_9_code (5 : Nat) (Option.some Jvm.ClassFile.FieldType.int)) ∈ kG := kG_of (k2 (i := 217) rfl) rfl
theorem kw_458 : (Jvm.Cond.classLink "BoxGlue" (125 : Nat) "BoxGlue$Placed") ∈ kG := kG_of (k2 (i := 218) (by decide +kernel)) rfl
theorem kw_459 : (Jvm.Cond.methodLink "BoxGlueLaw" (49 : Nat) y_BG_told) ∈ kG := kG_of (k2 (i := 219) (by decide +kernel)) rfl
theorem kw_460 : (Jvm.Cond.instanceMethod y_BG_told) ∈ kG := kG_of (k2 (i := 220) (by decide +kernel)) rfl
theorem kw_461 : (Jvm.Cond.selects "BoxGlue" y_BG_told y_BG_told) ∈ kG := kG_of (k2 (i := 221) (by decide +kernel)) rfl
theorem kw_462 : (Jvm.Cond.code y_BG_told prog_1_method_10_code (3 : Nat) (Option.some Jvm.ClassFile.FieldType.int)) ∈ kG := kG_of (k2 (i := 222) rfl) rfl
theorem kw_463 : (Jvm.Cond.methodLink "BoxGlue" (131 : Nat) y_Box_answer) ∈ kG := kG_of (k2 (i := 223) (by decide +kernel)) rfl
theorem kw_464 : (Jvm.Cond.instanceMethod y_Box_answer) ∈ kG := kG_of (k2 (i := 224) (by decide +kernel)) rfl
theorem kw_465 : (Jvm.Cond.selects "BoxGlue$Box" y_Box_answer y_Box_answer) ∈ kG := kG_of (k2 (i := 225) (by decide +kernel)) rfl
theorem kw_466 : (Jvm.Cond.code y_Box_answer prog_2_method_5_code (2 : Nat) (Option.some Jvm.ClassFile.FieldType.int)) ∈ kG := kG_of (k2 (i := 226) rfl) rfl
theorem kw_467 : (Jvm.Cond.methodLink "BoxGlue$Box" (90 : Nat) y_Fit_badness) ∈ kG := kG_of (k2 (i := 227) (by decide +kernel)) rfl
theorem kw_468 : (Jvm.Cond.instanceMethod y_Fit_badness) ∈ kG := kG_of (k2 (i := 228) (by decide +kernel)) rfl
theorem kw_469 : (Jvm.Cond.selects "BoxGlue$Fit" y_Fit_badness y_Fit_badness) ∈ kG := kG_of (k2 (i := 229) (by decide +kernel)) rfl
theorem kw_470 : (Jvm.Cond.code y_Fit_badness prog_3_method_10_code (1 : Nat) (Option.some Jvm.ClassFile.FieldType.int)) ∈ kG := kG_of (k2 (i := 230) rfl) rfl
theorem kw_471 : (Jvm.Cond.constant "BoxGlue$Fit" (69 : Nat) (1000000 : Int32)) ∈ kG := kG_of (k2 (i := 231) (by decide +kernel)) rfl
theorem kw_472 : (Jvm.Cond.methodLink "BoxGlue$Fit" (70 : Nat) y_Math_abs) ∈ kG := kG_of (k2 (i := 232) (by decide +kernel)) rfl
theorem kw_473 : (Jvm.Cond.static y_Math_abs) ∈ kG := kG_of (k2 (i := 233) (by decide +kernel)) rfl
theorem kw_474 : (Jvm.Cond.code y_Math_abs prog_16_method_59_code (1 : Nat) (Option.some Jvm.ClassFile.FieldType.int)) ∈ kG := kG_of (k2 (i := 234) rfl) rfl
theorem kw_475 : (Jvm.Cond.methodLink "BoxGlue$Fit" (73 : Nat) y_Fit_cubed) ∈ kG := kG_of (k2 (i := 235) (by decide +kernel)) rfl
theorem kw_476 : (Jvm.Cond.privateMethod y_Fit_cubed) ∈ tables_1 := k2 (i := 236) (by decide +kernel)
theorem kw_477 : (Jvm.Cond.instanceMethod y_Fit_cubed) ∈ kG := kG_of (k2 (i := 237) (by decide +kernel)) rfl
theorem kw_478 : (Jvm.Cond.code y_Fit_cubed prog_3_method_11_code (7 : Nat) (Option.some Jvm.ClassFile.FieldType.int)) ∈ kG := kG_of (k2 (i := 238) rfl) rfl
theorem kw_479 : (Jvm.Cond.constantLong "BoxGlue$Fit" (77 : Nat) (5 : Int64)) ∈ kG := kG_of (k2 (i := 239) (by decide +kernel)) rfl
theorem kw_480 : (Jvm.Cond.constantLong "BoxGlue$Fit" (79 : Nat) (100 : Int64)) ∈ kG := kG_of (k3 (i := 0) (by decide +kernel)) rfl
theorem kw_481 : (Jvm.Cond.constantLong "BoxGlue$Fit" (81 : Nat) (10000 : Int64)) ∈ kG := kG_of (k3 (i := 1) (by decide +kernel)) rfl
theorem kw_482 : (Jvm.Cond.methodLink "BoxGlue$Fit" (83 : Nat) y_Math_min2) ∈ kG := kG_of (k3 (i := 2) (by decide +kernel)) rfl
theorem kw_483 : (Jvm.Cond.static y_Math_min2) ∈ kG := kG_of (k3 (i := 3) (by decide +kernel)) rfl
theorem kw_484 : (Jvm.Cond.code y_Math_min2 prog_16_method_70_code (4 : Nat) (Option.some Jvm.ClassFile.FieldType.long)) ∈ kG := kG_of (k3 (i := 4) rfl) rfl
theorem kw_485 : (Jvm.Cond.methodLink "BoxGlue$Box" (93 : Nat) y_Fit_over) ∈ kG := kG_of (k3 (i := 5) (by decide +kernel)) rfl
theorem kw_486 : (Jvm.Cond.methodLink "BoxGlueLaw" (53 : Nat) y_BG_item) ∈ kG := kG_of (k3 (i := 6) (by decide +kernel)) rfl
theorem kw_487 : (Jvm.Cond.instanceMethod y_BG_item) ∈ kG := kG_of (k3 (i := 7) (by decide +kernel)) rfl
theorem kw_488 : (Jvm.Cond.selects "BoxGlue" y_BG_item y_BG_item) ∈ kG := kG_of (k3 (i := 8) (by decide +kernel)) rfl
theorem kw_489 : (Jvm.Cond.code y_BG_item prog_1_method_11_code (5 : Nat) (Option.some Jvm.ClassFile.FieldType.int)) ∈ kG := kG_of (k3 (i := 9) rfl) rfl
theorem kw_490 : (Jvm.Cond.methodLink "BoxGlue" (135 : Nat) y_Placed_answer) ∈ kG := kG_of (k3 (i := 10) (by decide +kernel)) rfl
theorem kw_491 : (Jvm.Cond.instanceMethod y_Placed_answer) ∈ kG := kG_of (k3 (i := 11) (by decide +kernel)) rfl
theorem kw_492 : (Jvm.Cond.selects "BoxGlue$Placed" y_Placed_answer y_Placed_answer) ∈ kG := kG_of (k3 (i := 12) (by decide +kernel)) rfl
theorem kw_493 : (Jvm.Cond.code y_Placed_answer prog_8_method_2_code (3 : Nat) (Option.some Jvm.ClassFile.FieldType.int)) ∈ kG := kG_of (k3 (i := 13) rfl) rfl
theorem kw_494 : (Jvm.Cond.methodLink "BoxGlue$Placed" (27 : Nat) y_Item_leadersDrawn) ∈ kG := kG_of (k3 (i := 14) (by decide +kernel)) rfl
theorem kw_495 : (Jvm.Cond.instanceMethod y_Item_leadersDrawn) ∈ kG := kG_of (k3 (i := 15) (by decide +kernel)) rfl
theorem kw_496 : (Jvm.Cond.sameMethod "BoxGlue$Item" "BoxGlue$Item" "leadersDrawn" "(II)I") ∈ kG := kG_of (k3 (i := 16) (by decide +kernel)) rfl
theorem kw_497 : (Jvm.Cond.selects "BoxGlue$Glue" y_Item_leadersDrawn y_Glue_leadersDrawn) ∈ kG := kG_of (k3 (i := 17) (by decide +kernel)) rfl
theorem kw_498 : (Jvm.Cond.instanceMethod y_Glue_leadersDrawn) ∈ kG := kG_of (k3 (i := 18) (by decide +kernel)) rfl
theorem kw_499 : (Jvm.Cond.code y_Glue_leadersDrawn prog_4_method_4_code (3 : Nat) (Option.some Jvm.ClassFile.FieldType.int)) ∈ kG := kG_of (k3 (i := 19) rfl) rfl
theorem kw_500 : (Jvm.Cond.methodLink "BoxGlue$Glue" (32 : Nat) y_Leaders_drawn) ∈ kG := kG_of (k3 (i := 20) (by decide +kernel)) rfl
theorem kw_501 : (Jvm.Cond.instanceMethod y_Leaders_drawn) ∈ kG := kG_of (k3 (i := 21) (by decide +kernel)) rfl
theorem kw_502 : (Jvm.Cond.selects "BoxGlue$Leaders" y_Leaders_drawn y_Leaders_drawn) ∈ kG := kG_of (k3 (i := 22) (by decide +kernel)) rfl
theorem kw_503 : (Jvm.Cond.code y_Leaders_drawn prog_7_method_2_code (3 : Nat) (Option.some Jvm.ClassFile.FieldType.int)) ∈ kG := kG_of (k3 (i := 23) rfl) rfl
theorem kw_504 : (Jvm.Cond.methodLink "BoxGlue$Leaders" (16 : Nat) y_Math_floorDiv) ∈ kG := kG_of (k3 (i := 24) (by decide +kernel)) rfl
theorem kw_505 : (Jvm.Cond.static y_Math_floorDiv) ∈ kG := kG_of (k3 (i := 25) (by decide +kernel)) rfl
theorem kw_506 : (Jvm.Cond.code y_Math_floorDiv prog_16_method_47_code (3 : Nat) (Option.some Jvm.ClassFile.FieldType.int)) ∈ kG := kG_of (k3 (i := 26) rfl) rfl
theorem kw_507 : (Jvm.Cond.methodLink "BoxGlue$Leaders" (22 : Nat) y_Leaders_alignedFrom) ∈ kG := kG_of (k3 (i := 27) (by decide +kernel)) rfl
theorem kw_508 : (Jvm.Cond.privateMethod y_Leaders_alignedFrom) ∈ tables_1 := k3 (i := 28) (by decide +kernel)
theorem kw_509 : (Jvm.Cond.instanceMethod y_Leaders_alignedFrom) ∈ kG := kG_of (k3 (i := 29) (by decide +kernel)) rfl
theorem kw_510 : (Jvm.Cond.code y_Leaders_alignedFrom prog_7_method_5_code (2 : Nat) (Option.some Jvm.ClassFile.FieldType.int)) ∈ kG := kG_of (k3 (i := 30) rfl) rfl
theorem kw_511 : (Jvm.Cond.selects "BoxGlue$Kern" y_Item_leadersDrawn y_Item_leadersDrawn) ∈ kG := kG_of (k3 (i := 31) (by decide +kernel)) rfl
theorem kw_512 : (Jvm.Cond.selects "BoxGlue$Put" y_Item_leadersDrawn y_Item_leadersDrawn) ∈ kG := kG_of (k3 (i := 32) (by decide +kernel)) rfl
theorem kw_513 : (Jvm.Cond.selects "BoxGlue$Rule" y_Item_leadersDrawn y_Item_leadersDrawn) ∈ kG := kG_of (k3 (i := 33) (by decide +kernel)) rfl
theorem kw_514 : (Jvm.Cond.code y_Item_leadersDrawn prog_5_method_5_code (3 : Nat) (Option.some Jvm.ClassFile.FieldType.int)) ∈ kG := kG_of (k3 (i := 34) rfl) rfl
theorem kw_515 : (Jvm.Cond.methodLink "BoxGlue$Placed" (31 : Nat) y_Item_firstLeader) ∈ kG := kG_of (k3 (i := 35) (by decide +kernel)) rfl
theorem kw_516 : (Jvm.Cond.instanceMethod y_Item_firstLeader) ∈ kG := kG_of (k3 (i := 36) (by decide +kernel)) rfl
theorem kw_517 : (Jvm.Cond.sameMethod "BoxGlue$Item" "BoxGlue$Item" "firstLeader" "(II)I") ∈ kG := kG_of (k3 (i := 37) (by decide +kernel)) rfl
theorem kw_518 : (Jvm.Cond.selects "BoxGlue$Glue" y_Item_firstLeader y_Glue_firstLeader) ∈ kG := kG_of (k3 (i := 38) (by decide +kernel)) rfl
theorem kw_519 : (Jvm.Cond.instanceMethod y_Glue_firstLeader) ∈ kG := kG_of (k3 (i := 39) (by decide +kernel)) rfl
theorem kw_520 : (Jvm.Cond.code y_Glue_firstLeader prog_4_method_5_code (3 : Nat) (Option.some Jvm.ClassFile.FieldType.int)) ∈ kG := kG_of (k3 (i := 40) rfl) rfl
theorem kw_521 : (Jvm.Cond.methodLink "BoxGlue$Glue" (38 : Nat) y_Leaders_first) ∈ kG := kG_of (k3 (i := 41) (by decide +kernel)) rfl
theorem kw_522 : (Jvm.Cond.instanceMethod y_Leaders_first) ∈ kG := kG_of (k3 (i := 42) (by decide +kernel)) rfl
theorem kw_523 : (Jvm.Cond.selects "BoxGlue$Leaders" y_Leaders_first y_Leaders_first) ∈ kG := kG_of (k3 (i := 43) (by decide +kernel)) rfl
theorem kw_524 : (Jvm.Cond.code y_Leaders_first prog_7_method_3_code (3 : Nat) (Option.some Jvm.ClassFile.FieldType.int)) ∈ kG := kG_of (k3 (i := 44) rfl) rfl
theorem kw_525 : (Jvm.Cond.methodLink "BoxGlue$Leaders" (26 : Nat) y_Leaders_drawn) ∈ kG := kG_of (k3 (i := 45) (by decide +kernel)) rfl
theorem kw_526 : (Jvm.Cond.methodLink "BoxGlue$Leaders" (29 : Nat) y_Leaders_gap) ∈ kG := kG_of (k3 (i := 46) (by decide +kernel)) rfl
theorem kw_527 : (Jvm.Cond.privateMethod y_Leaders_gap) ∈ tables_1 := k3 (i := 47) (by decide +kernel)
theorem kw_528 : (Jvm.Cond.instanceMethod y_Leaders_gap) ∈ kG := kG_of (k3 (i := 48) (by decide +kernel)) rfl
theorem kw_529 : (Jvm.Cond.code y_Leaders_gap prog_7_method_6_code (2 : Nat) (Option.some Jvm.ClassFile.FieldType.int)) ∈ kG := kG_of (k3 (i := 49) rfl) rfl
theorem kw_530 : (Jvm.Cond.selects "BoxGlue$Kern" y_Item_firstLeader y_Item_firstLeader) ∈ kG := kG_of (k3 (i := 50) (by decide +kernel)) rfl
theorem kw_531 : (Jvm.Cond.selects "BoxGlue$Put" y_Item_firstLeader y_Item_firstLeader) ∈ kG := kG_of (k3 (i := 51) (by decide +kernel)) rfl
theorem kw_532 : (Jvm.Cond.selects "BoxGlue$Rule" y_Item_firstLeader y_Item_firstLeader) ∈ kG := kG_of (k3 (i := 52) (by decide +kernel)) rfl
theorem kw_533 : (Jvm.Cond.code y_Item_firstLeader prog_5_method_6_code (3 : Nat) (Option.some Jvm.ClassFile.FieldType.int)) ∈ kG := kG_of (k3 (i := 53) rfl) rfl
theorem kw_534 : (Jvm.Cond.methodLink "BoxGlue$Placed" (34 : Nat) y_Item_leaderStep) ∈ kG := kG_of (k3 (i := 54) (by decide +kernel)) rfl
theorem kw_535 : (Jvm.Cond.instanceMethod y_Item_leaderStep) ∈ kG := kG_of (k3 (i := 55) (by decide +kernel)) rfl
theorem kw_536 : (Jvm.Cond.sameMethod "BoxGlue$Item" "BoxGlue$Item" "leaderStep" "(II)I") ∈ kG := kG_of (k3 (i := 56) (by decide +kernel)) rfl
theorem kw_537 : (Jvm.Cond.selects "BoxGlue$Glue" y_Item_leaderStep y_Glue_leaderStep) ∈ kG := kG_of (k3 (i := 57) (by decide +kernel)) rfl
theorem kw_538 : (Jvm.Cond.instanceMethod y_Glue_leaderStep) ∈ kG := kG_of (k3 (i := 58) (by decide +kernel)) rfl
theorem kw_539 : (Jvm.Cond.code y_Glue_leaderStep prog_4_method_6_code (3 : Nat) (Option.some Jvm.ClassFile.FieldType.int)) ∈ kG := kG_of (k3 (i := 59) rfl) rfl
theorem kw_540 : (Jvm.Cond.methodLink "BoxGlue$Glue" (41 : Nat) y_Leaders_step) ∈ kG := kG_of (k3 (i := 60) (by decide +kernel)) rfl
theorem kw_541 : (Jvm.Cond.instanceMethod y_Leaders_step) ∈ kG := kG_of (k3 (i := 61) (by decide +kernel)) rfl
theorem kw_542 : (Jvm.Cond.selects "BoxGlue$Leaders" y_Leaders_step y_Leaders_step) ∈ kG := kG_of (k3 (i := 62) (by decide +kernel)) rfl
theorem kw_543 : (Jvm.Cond.code y_Leaders_step prog_7_method_4_code (3 : Nat) (Option.some Jvm.ClassFile.FieldType.int)) ∈ kG := kG_of (k3 (i := 63) rfl) rfl
theorem kw_544 : (Jvm.Cond.selects "BoxGlue$Kern" y_Item_leaderStep y_Item_leaderStep) ∈ kG := kG_of (k3 (i := 64) (by decide +kernel)) rfl
theorem kw_545 : (Jvm.Cond.selects "BoxGlue$Put" y_Item_leaderStep y_Item_leaderStep) ∈ kG := kG_of (k3 (i := 65) (by decide +kernel)) rfl
theorem kw_546 : (Jvm.Cond.selects "BoxGlue$Rule" y_Item_leaderStep y_Item_leaderStep) ∈ kG := kG_of (k3 (i := 66) (by decide +kernel)) rfl
theorem kw_547 : (Jvm.Cond.code y_Item_leaderStep prog_5_method_7_code (3 : Nat) (Option.some Jvm.ClassFile.FieldType.int)) ∈ kG := kG_of (k3 (i := 67) rfl) rfl
theorem kw_548 : (Jvm.Cond.methodLink "BoxGlue$Placed" (42 : Nat) y_Item_heightWhere) ∈ kG := kG_of (k3 (i := 68) (by decide +kernel)) rfl
theorem kw_549 : (Jvm.Cond.methodLink "BoxGlue$Placed" (49 : Nat) y_Item_depthWhere) ∈ kG := kG_of (k3 (i := 69) (by decide +kernel)) rfl
theorem kw_550 : (Jvm.Cond.methodLink "BoxGlueLaw" (57 : Nat) y_BG_size) ∈ kG := kG_of (k3 (i := 70) (by decide +kernel)) rfl
theorem kw_551 : (Jvm.Cond.instanceMethod y_BG_size) ∈ kG := kG_of (k3 (i := 71) (by decide +kernel)) rfl
theorem kw_552 : (Jvm.Cond.selects "BoxGlue" y_BG_size y_BG_size) ∈ kG := kG_of (k3 (i := 72) (by decide +kernel)) rfl
theorem kw_553 : (Jvm.Cond.code y_BG_size prog_1_method_12_code (1 : Nat) (Option.some Jvm.ClassFile.FieldType.int)) ∈ kG := kG_of (k3 (i := 73) rfl) rfl
theorem kw_554 : (Jvm.Cond.methodLink "BoxGlueLaw" (62 : Nat) y_BG_natural) ∈ kG := kG_of (k3 (i := 74) (by decide +kernel)) rfl
theorem kw_555 : (Jvm.Cond.instanceMethod y_BG_natural) ∈ kG := kG_of (k3 (i := 75) (by decide +kernel)) rfl
theorem kw_556 : (Jvm.Cond.selects "BoxGlue" y_BG_natural y_BG_natural) ∈ kG := kG_of (k3 (i := 76) (by decide +kernel)) rfl
theorem kw_557 : (Jvm.Cond.code y_BG_natural prog_1_method_13_code (1 : Nat) (Option.some Jvm.ClassFile.FieldType.long)) ∈ kG := kG_of (k3 (i := 77) rfl) rfl
theorem kw_558 : (Jvm.Cond.methodLink "BoxGlueLaw" (67 : Nat) y_BG_drop) ∈ kG := kG_of (k3 (i := 78) (by decide +kernel)) rfl
theorem kw_559 : (Jvm.Cond.instanceMethod y_BG_drop) ∈ kG := kG_of (k3 (i := 79) (by decide +kernel)) rfl
theorem kw_560 : (Jvm.Cond.selects "BoxGlue" y_BG_drop y_BG_drop) ∈ kG := kG_of (k3 (i := 80) (by decide +kernel)) rfl
theorem kw_561 : (Jvm.Cond.code y_BG_drop prog_1_method_14_code (1 : Nat) (Option.some Jvm.ClassFile.FieldType.int)) ∈ kG := kG_of (k3 (i := 81) rfl) rfl
theorem kw_562 : (Jvm.Cond.methodLink "BoxGlue" (138 : Nat) y_AL_remove) ∈ kG := kG_of (k3 (i := 82) (by decide +kernel)) rfl
theorem kw_563 : (Jvm.Cond.instanceMethod y_AL_remove) ∈ kG := kG_of (k3 (i := 83) (by decide +kernel)) rfl
theorem kw_564 : (Jvm.Cond.selects "java/util/ArrayList" y_AL_remove y_AL_remove) ∈ kG := kG_of (k3 (i := 84) (by decide +kernel)) rfl
theorem kw_565 : (Jvm.Cond.code y_AL_remove prog_20_method_29_code (4 : Nat) (Option.some (Jvm.ClassFile.FieldType.object "java/lang/Object"))) ∈ kG := kG_of (k3 (i := 85) rfl) rfl
theorem kw_566 : (Jvm.Cond.methodLink "java/util/ArrayList" (144 : Nat) y_AL_fastRemove) ∈ kG := kG_of (k3 (i := 86) (by decide +kernel)) rfl
theorem kw_567 : (Jvm.Cond.privateMethod y_AL_fastRemove) ∈ tables_1 := k3 (i := 87) (by decide +kernel)
theorem kw_568 : (Jvm.Cond.instanceMethod y_AL_fastRemove) ∈ kG := kG_of (k3 (i := 88) (by decide +kernel)) rfl
theorem kw_569 : (Jvm.Cond.code y_AL_fastRemove prog_20_method_39_code (4 : Nat) (Option.none : Option Jvm.ClassFile.FieldType)) ∈ kG := kG_of (k3 (i := 89) rfl) rfl
theorem kw_570 : (Jvm.Cond.methodLink "java/util/ArrayList" (112 : Nat) ({ cls := "java/lang/System", name := "arraycopy", desc := "(Ljava/lang/Object;ILjava/lang/Object;II)V" } : Jvm.MethodName)) ∈ kG := kG_of (k3 (i := 90) (by decide +kernel)) rfl
theorem kw_571 : (Jvm.Cond.methodLink "BoxGlueLaw" (71 : Nat) y_BG_boxes) ∈ kG := kG_of (k3 (i := 91) (by decide +kernel)) rfl
theorem kw_572 : (Jvm.Cond.instanceMethod y_BG_boxes) ∈ kG := kG_of (k3 (i := 92) (by decide +kernel)) rfl
theorem kw_573 : (Jvm.Cond.selects "BoxGlue" y_BG_boxes y_BG_boxes) ∈ kG := kG_of (k3 (i := 93) (by decide +kernel)) rfl
theorem kw_574 : (Jvm.Cond.code y_BG_boxes prog_1_method_15_code (1 : Nat) (Option.some Jvm.ClassFile.FieldType.int)) ∈ kG := kG_of (k3 (i := 94) rfl) rfl
theorem kw_575 : (Jvm.Cond.classLink "BoxGlueLaw" (10 : Nat) "BoxGlueModel") ∈ kG := kG_of (k3 (i := 95) (by decide +kernel)) rfl
theorem kw_576 : (Jvm.Cond.instantiable "BoxGlueModel" (24 : Nat)) ∈ kG := kG_of (k3 (i := 96) (by decide +kernel)) rfl
theorem kw_577 : (Jvm.Cond.methodLink "BoxGlueLaw" (12 : Nat) y_Mod_init) ∈ kG := kG_of (k3 (i := 97) (by decide +kernel)) rfl
theorem kw_578 : (Jvm.Cond.instanceMethod y_Mod_init) ∈ kG := kG_of (k3 (i := 98) (by decide +kernel)) rfl
theorem kw_579 : (Jvm.Cond.code y_Mod_init prog_12_method_1_code (1 : Nat) (Option.none : Option Jvm.ClassFile.FieldType)) ∈ kG := kG_of (k3 (i := 99) rfl) rfl
theorem kw_580 : (Jvm.Cond.methodLink "BoxGlueModel" (1 : Nat) y_Obj_init) ∈ kG := kG_of (k3 (i := 100) (by decide +kernel)) rfl
theorem kw_581 : (Jvm.Cond.fieldLink "BoxGlueModel" (7 : Nat) "BoxGlueModel" "sort" "[I") ∈ kG := kG_of (k3 (i := 101) (by decide +kernel)) rfl
theorem kw_582 : (Jvm.Cond.fieldLink "BoxGlueModel" (13 : Nat) "BoxGlueModel" "own" "[I") ∈ kG := kG_of (k3 (i := 102) (by decide +kernel)) rfl
theorem kw_583 : (Jvm.Cond.fieldLink "BoxGlueModel" (16 : Nat) "BoxGlueModel" "high" "[I") ∈ kG := kG_of (k3 (i := 103) (by decide +kernel)) rfl
theorem kw_584 : (Jvm.Cond.fieldLink "BoxGlueModel" (19 : Nat) "BoxGlueModel" "deep" "[I") ∈ kG := kG_of (k3 (i := 104) (by decide +kernel)) rfl
theorem kw_585 : (Jvm.Cond.fieldLink "BoxGlueModel" (22 : Nat) "BoxGlueModel" "stretch" "[I") ∈ kG := kG_of (k3 (i := 105) (by decide +kernel)) rfl
theorem kw_586 : (Jvm.Cond.fieldLink "BoxGlueModel" (25 : Nat) "BoxGlueModel" "order" "[I") ∈ kG := kG_of (k3 (i := 106) (by decide +kernel)) rfl
theorem kw_587 : (Jvm.Cond.fieldLink "BoxGlueModel" (28 : Nat) "BoxGlueModel" "shrink" "[I") ∈ kG := kG_of (k3 (i := 107) (by decide +kernel)) rfl
theorem kw_588 : (Jvm.Cond.fieldLink "BoxGlueModel" (31 : Nat) "BoxGlueModel" "order2" "[I") ∈ kG := kG_of (k3 (i := 108) (by decide +kernel)) rfl
theorem kw_589 : (Jvm.Cond.fieldLink "BoxGlueModel" (34 : Nat) "BoxGlueModel" "kind" "[I") ∈ kG := kG_of (k3 (i := 109) (by decide +kernel)) rfl
theorem kw_590 : (Jvm.Cond.fieldLink "BoxGlueModel" (37 : Nat) "BoxGlueModel" "leader" "[I") ∈ kG := kG_of (k3 (i := 110) (by decide +kernel)) rfl
theorem kw_591 : (Jvm.Cond.fieldLink "BoxGlueModel" (40 : Nat) "BoxGlueModel" "came" "[J") ∈ kG := kG_of (k3 (i := 111) (by decide +kernel)) rfl
theorem kw_592 : (Jvm.Cond.fieldLink "BoxGlueModel" (44 : Nat) "BoxGlueModel" "place" "[J") ∈ kG := kG_of (k3 (i := 112) (by decide +kernel)) rfl
theorem kw_593 : (Jvm.Cond.fieldLink "BoxGlueModel" (83 : Nat) "BoxGlueModel" "size" "I") ∈ kG := kG_of (k3 (i := 113) (by decide +kernel)) rfl
theorem kw_594 : (Jvm.Cond.fieldLink "BoxGlueModel" (117 : Nat) "BoxGlueModel" "used" "I") ∈ kG := kG_of (k3 (i := 114) (by decide +kernel)) rfl
theorem kw_595 : (Jvm.Cond.fieldLink "BoxGlueModel" (74 : Nat) "BoxGlueModel" "boxes" "I") ∈ kG := kG_of (k3 (i := 115) (by decide +kernel)) rfl
theorem kw_596 : (Jvm.Cond.fieldLink "BoxGlueModel" (47 : Nat) "BoxGlueModel" "length" "[I") ∈ kG := kG_of (k3 (i := 116) (by decide +kernel)) rfl
theorem kw_597 : (Jvm.Cond.fieldLink "BoxGlueModel" (50 : Nat) "BoxGlueModel" "height" "[I") ∈ kG := kG_of (k3 (i := 117) (by decide +kernel)) rfl
theorem kw_598 : (Jvm.Cond.fieldLink "BoxGlueModel" (53 : Nat) "BoxGlueModel" "depth" "[I") ∈ kG := kG_of (k3 (i := 118) (by decide +kernel)) rfl
theorem kw_599 : (Jvm.Cond.fieldLink "BoxGlueModel" (56 : Nat) "BoxGlueModel" "from" "[I") ∈ kG := kG_of (k3 (i := 119) (by decide +kernel)) rfl
theorem kw_600 : (Jvm.Cond.fieldLink "BoxGlueModel" (59 : Nat) "BoxGlueModel" "many" "[I") ∈ kG := kG_of (k3 (i := 120) (by decide +kernel)) rfl
theorem kw_601 : (Jvm.Cond.fieldLink "BoxGlueModel" (62 : Nat) "BoxGlueModel" "bad" "[I") ∈ kG := kG_of (k3 (i := 121) (by decide +kernel)) rfl
theorem kw_602 : (Jvm.Cond.fieldLink "BoxGlueModel" (65 : Nat) "BoxGlueModel" "over" "[I") ∈ kG := kG_of (k3 (i := 122) (by decide +kernel)) rfl
theorem kw_603 : (Jvm.Cond.fieldLink "BoxGlueModel" (68 : Nat) "BoxGlueModel" "gave" "[I") ∈ kG := kG_of (k3 (i := 123) (by decide +kernel)) rfl
theorem kw_604 : (Jvm.Cond.fieldLink "BoxGlueModel" (71 : Nat) "BoxGlueModel" "plain" "[I") ∈ kG := kG_of (k3 (i := 124) (by decide +kernel)) rfl
theorem kw_605 : (Jvm.Cond.laysFinal "BoxGlueModel" "BoxGlueModel" "sort" "[I") ∈ kG := kG_of (k3 (i := 125) (by decide +kernel)) rfl
theorem kw_606 : (Jvm.Cond.soleField "BoxGlueModel" "sort") ∈ tables_1 := k3 (i := 126) (by decide +kernel)
theorem kw_607 : (Jvm.Cond.laysFinal "BoxGlueModel" "BoxGlueModel" "own" "[I") ∈ kG := kG_of (k3 (i := 127) (by decide +kernel)) rfl
theorem kw_608 : (Jvm.Cond.soleField "BoxGlueModel" "own") ∈ tables_1 := k3 (i := 128) (by decide +kernel)
theorem kw_609 : (Jvm.Cond.laysFinal "BoxGlueModel" "BoxGlueModel" "high" "[I") ∈ kG := kG_of (k3 (i := 129) (by decide +kernel)) rfl
theorem kw_610 : (Jvm.Cond.soleField "BoxGlueModel" "high") ∈ tables_1 := k3 (i := 130) (by decide +kernel)
theorem kw_611 : (Jvm.Cond.laysFinal "BoxGlueModel" "BoxGlueModel" "deep" "[I") ∈ kG := kG_of (k3 (i := 131) (by decide +kernel)) rfl
theorem kw_612 : (Jvm.Cond.soleField "BoxGlueModel" "deep") ∈ tables_1 := k3 (i := 132) (by decide +kernel)
theorem kw_613 : (Jvm.Cond.laysFinal "BoxGlueModel" "BoxGlueModel" "stretch" "[I") ∈ kG := kG_of (k3 (i := 133) (by decide +kernel)) rfl
theorem kw_614 : (Jvm.Cond.soleField "BoxGlueModel" "stretch") ∈ tables_1 := k3 (i := 134) (by decide +kernel)
theorem kw_615 : (Jvm.Cond.laysFinal "BoxGlueModel" "BoxGlueModel" "order" "[I") ∈ kG := kG_of (k3 (i := 135) (by decide +kernel)) rfl
theorem kw_616 : (Jvm.Cond.soleField "BoxGlueModel" "order") ∈ tables_1 := k3 (i := 136) (by decide +kernel)
theorem kw_617 : (Jvm.Cond.laysFinal "BoxGlueModel" "BoxGlueModel" "shrink" "[I") ∈ kG := kG_of (k3 (i := 137) (by decide +kernel)) rfl
theorem kw_618 : (Jvm.Cond.soleField "BoxGlueModel" "shrink") ∈ tables_1 := k3 (i := 138) (by decide +kernel)
theorem kw_619 : (Jvm.Cond.laysFinal "BoxGlueModel" "BoxGlueModel" "order2" "[I") ∈ kG := kG_of (k3 (i := 139) (by decide +kernel)) rfl
theorem kw_620 : (Jvm.Cond.soleField "BoxGlueModel" "order2") ∈ tables_1 := k3 (i := 140) (by decide +kernel)
theorem kw_621 : (Jvm.Cond.laysFinal "BoxGlueModel" "BoxGlueModel" "kind" "[I") ∈ kG := kG_of (k3 (i := 141) (by decide +kernel)) rfl
theorem kw_622 : (Jvm.Cond.soleField "BoxGlueModel" "kind") ∈ tables_1 := k3 (i := 142) (by decide +kernel)
theorem kw_623 : (Jvm.Cond.laysFinal "BoxGlueModel" "BoxGlueModel" "leader" "[I") ∈ kG := kG_of (k3 (i := 143) (by decide +kernel)) rfl
theorem kw_624 : (Jvm.Cond.soleField "BoxGlueModel" "leader") ∈ tables_1 := k3 (i := 144) (by decide +kernel)
theorem kw_625 : (Jvm.Cond.laysFinal "BoxGlueModel" "BoxGlueModel" "came" "[J") ∈ kG := kG_of (k3 (i := 145) (by decide +kernel)) rfl
theorem kw_626 : (Jvm.Cond.soleField "BoxGlueModel" "came") ∈ tables_1 := k3 (i := 146) (by decide +kernel)
theorem kw_627 : (Jvm.Cond.laysFinal "BoxGlueModel" "BoxGlueModel" "place" "[J") ∈ kG := kG_of (k3 (i := 147) (by decide +kernel)) rfl
theorem kw_628 : (Jvm.Cond.soleField "BoxGlueModel" "place") ∈ tables_1 := k3 (i := 148) (by decide +kernel)
theorem kw_629 : (Jvm.Cond.lays "BoxGlueModel" "BoxGlueModel" "size" "I") ∈ kG := kG_of (k3 (i := 149) (by decide +kernel)) rfl
theorem kw_630 : (Jvm.Cond.soleField "BoxGlueModel" "size") ∈ tables_1 := k3 (i := 150) (by decide +kernel)
theorem kw_631 : (Jvm.Cond.lays "BoxGlueModel" "BoxGlueModel" "used" "I") ∈ kG := kG_of (k3 (i := 151) (by decide +kernel)) rfl
theorem kw_632 : (Jvm.Cond.soleField "BoxGlueModel" "used") ∈ tables_1 := k3 (i := 152) (by decide +kernel)
theorem kw_633 : (Jvm.Cond.lays "BoxGlueModel" "BoxGlueModel" "boxes" "I") ∈ kG := kG_of (k3 (i := 153) (by decide +kernel)) rfl
theorem kw_634 : (Jvm.Cond.soleField "BoxGlueModel" "boxes") ∈ tables_1 := k3 (i := 154) (by decide +kernel)
theorem kw_635 : (Jvm.Cond.laysFinal "BoxGlueModel" "BoxGlueModel" "length" "[I") ∈ kG := kG_of (k3 (i := 155) (by decide +kernel)) rfl
theorem kw_636 : (Jvm.Cond.soleField "BoxGlueModel" "length") ∈ tables_1 := k3 (i := 156) (by decide +kernel)
theorem kw_637 : (Jvm.Cond.laysFinal "BoxGlueModel" "BoxGlueModel" "height" "[I") ∈ kG := kG_of (k3 (i := 157) (by decide +kernel)) rfl
theorem kw_638 : (Jvm.Cond.soleField "BoxGlueModel" "height") ∈ tables_1 := k3 (i := 158) (by decide +kernel)
theorem kw_639 : (Jvm.Cond.laysFinal "BoxGlueModel" "BoxGlueModel" "depth" "[I") ∈ kG := kG_of (k3 (i := 159) (by decide +kernel)) rfl
theorem kw_640 : (Jvm.Cond.soleField "BoxGlueModel" "depth") ∈ tables_1 := k3 (i := 160) (by decide +kernel)
theorem kw_641 : (Jvm.Cond.laysFinal "BoxGlueModel" "BoxGlueModel" "from" "[I") ∈ kG := kG_of (k3 (i := 161) (by decide +kernel)) rfl
theorem kw_642 : (Jvm.Cond.soleField "BoxGlueModel" "from") ∈ tables_1 := k3 (i := 162) (by decide +kernel)
theorem kw_643 : (Jvm.Cond.laysFinal "BoxGlueModel" "BoxGlueModel" "many" "[I") ∈ kG := kG_of (k3 (i := 163) (by decide +kernel)) rfl
theorem kw_644 : (Jvm.Cond.soleField "BoxGlueModel" "many") ∈ tables_1 := k3 (i := 164) (by decide +kernel)
theorem kw_645 : (Jvm.Cond.laysFinal "BoxGlueModel" "BoxGlueModel" "bad" "[I") ∈ kG := kG_of (k3 (i := 165) (by decide +kernel)) rfl
theorem kw_646 : (Jvm.Cond.soleField "BoxGlueModel" "bad") ∈ tables_1 := k3 (i := 166) (by decide +kernel)
theorem kw_647 : (Jvm.Cond.laysFinal "BoxGlueModel" "BoxGlueModel" "over" "[I") ∈ kG := kG_of (k3 (i := 167) (by decide +kernel)) rfl
theorem kw_648 : (Jvm.Cond.soleField "BoxGlueModel" "over") ∈ tables_1 := k3 (i := 168) (by decide +kernel)
theorem kw_649 : (Jvm.Cond.laysFinal "BoxGlueModel" "BoxGlueModel" "gave" "[I") ∈ kG := kG_of (k3 (i := 169) (by decide +kernel)) rfl
theorem kw_650 : (Jvm.Cond.soleField "BoxGlueModel" "gave") ∈ tables_1 := k3 (i := 170) (by decide +kernel)
theorem kw_651 : (Jvm.Cond.laysFinal "BoxGlueModel" "BoxGlueModel" "plain" "[I") ∈ kG := kG_of (k3 (i := 171) (by decide +kernel)) rfl
theorem kw_652 : (Jvm.Cond.soleField "BoxGlueModel" "plain") ∈ tables_1 := k3 (i := 172) (by decide +kernel)
theorem kw_653 : (Jvm.Cond.superclass "BoxGlueModel" "java/lang/Object") ∈ tables_1 := k3 (i := 173) (by decide +kernel)
theorem kw_654 : (Jvm.Cond.arrayClass Jvm.ClassFile.FieldType.int) ∈ kG := kG_of (k3 (i := 174) (by decide +kernel)) rfl
theorem kw_655 : (Jvm.Cond.arrayClass Jvm.ClassFile.FieldType.long) ∈ kG := kG_of (k3 (i := 175) (by decide +kernel)) rfl
theorem kw_656 : (Jvm.Cond.methodLink "BoxGlueLaw" (17 : Nat) y_Mod_box) ∈ kG := kG_of (k3 (i := 176) (by decide +kernel)) rfl
theorem kw_657 : (Jvm.Cond.instanceMethod y_Mod_box) ∈ kG := kG_of (k3 (i := 177) (by decide +kernel)) rfl
theorem kw_658 : (Jvm.Cond.selects "BoxGlueModel" y_Mod_box y_Mod_box) ∈ kG := kG_of (k3 (i := 178) (by decide +kernel)) rfl
theorem kw_659 : (Jvm.Cond.code y_Mod_box prog_12_method_5_code (4 : Nat) (Option.some Jvm.ClassFile.FieldType.int)) ∈ kG := kG_of (k3 (i := 179) rfl) rfl
theorem kw_660 : (Jvm.Cond.constant "BoxGlueModel" (78 : Nat) (100000 : Int32)) ∈ kG := kG_of (k3 (i := 180) (by decide +kernel)) rfl
theorem kw_661 : (Jvm.Cond.methodLink "BoxGlueModel" (79 : Nat) y_Mod_isIn) ∈ kG := kG_of (k3 (i := 181) (by decide +kernel)) rfl
theorem kw_662 : (Jvm.Cond.static y_Mod_isIn) ∈ kG := kG_of (k3 (i := 182) (by decide +kernel)) rfl
theorem kw_663 : (Jvm.Cond.code y_Mod_isIn prog_12_method_3_code (3 : Nat) (Option.some Jvm.ClassFile.FieldType.boolean)) ∈ kG := kG_of (k3 (i := 183) rfl) rfl
theorem kw_664 : (Jvm.Cond.methodLink "BoxGlueLaw" (22 : Nat) y_Mod_put) ∈ kG := kG_of (k3 (i := 184) (by decide +kernel)) rfl
theorem kw_665 : (Jvm.Cond.instanceMethod y_Mod_put) ∈ kG := kG_of (k3 (i := 185) (by decide +kernel)) rfl
theorem kw_666 : (Jvm.Cond.selects "BoxGlueModel" y_Mod_put y_Mod_put) ∈ kG := kG_of (k3 (i := 186) (by decide +kernel)) rfl
theorem kw_667 : (Jvm.Cond.code y_Mod_put prog_12_method_7_code (3 : Nat) (Option.some Jvm.ClassFile.FieldType.int)) ∈ kG := kG_of (k3 (i := 187) rfl) rfl
theorem kw_668 : (Jvm.Cond.methodLink "BoxGlueModel" (86 : Nat) y_Mod_isBox) ∈ kG := kG_of (k3 (i := 188) (by decide +kernel)) rfl
theorem kw_669 : (Jvm.Cond.privateMethod y_Mod_isBox) ∈ tables_1 := k3 (i := 189) (by decide +kernel)
theorem kw_670 : (Jvm.Cond.instanceMethod y_Mod_isBox) ∈ kG := kG_of (k3 (i := 190) (by decide +kernel)) rfl
theorem kw_671 : (Jvm.Cond.code y_Mod_isBox prog_12_method_4_code (2 : Nat) (Option.some Jvm.ClassFile.FieldType.boolean)) ∈ kG := kG_of (k3 (i := 191) rfl) rfl
theorem kw_672 : (Jvm.Cond.constant "BoxGlueModel" (90 : Nat) (-100000 : Int32)) ∈ kG := kG_of (k3 (i := 192) (by decide +kernel)) rfl
theorem kw_673 : (Jvm.Cond.methodLink "BoxGlueModel" (91 : Nat) y_Mod_more) ∈ kG := kG_of (k3 (i := 193) (by decide +kernel)) rfl
theorem kw_674 : (Jvm.Cond.privateMethod y_Mod_more) ∈ tables_1 := k3 (i := 194) (by decide +kernel)
theorem kw_675 : (Jvm.Cond.instanceMethod y_Mod_more) ∈ kG := kG_of (k3 (i := 195) (by decide +kernel)) rfl
theorem kw_676 : (Jvm.Cond.code y_Mod_more prog_12_method_6_code (3 : Nat) (Option.some Jvm.ClassFile.FieldType.int)) ∈ kG := kG_of (k3 (i := 196) rfl) rfl
theorem kw_677 : (Jvm.Cond.methodLink "BoxGlueLaw" (27 : Nat) y_Mod_glue) ∈ kG := kG_of (k3 (i := 197) (by decide +kernel)) rfl
theorem kw_678 : (Jvm.Cond.instanceMethod y_Mod_glue) ∈ kG := kG_of (k3 (i := 198) (by decide +kernel)) rfl
theorem kw_679 : (Jvm.Cond.selects "BoxGlueModel" y_Mod_glue y_Mod_glue) ∈ kG := kG_of (k3 (i := 199) (by decide +kernel)) rfl
theorem kw_680 : (Jvm.Cond.code y_Mod_glue prog_12_method_8_code (6 : Nat) (Option.some Jvm.ClassFile.FieldType.int)) ∈ kG := kG_of (k3 (i := 200) rfl) rfl
theorem kw_681 : (Jvm.Cond.methodLink "BoxGlueLaw" (32 : Nat) y_Mod_kern) ∈ kG := kG_of (k3 (i := 201) (by decide +kernel)) rfl
theorem kw_682 : (Jvm.Cond.instanceMethod y_Mod_kern) ∈ kG := kG_of (k3 (i := 202) (by decide +kernel)) rfl
theorem kw_683 : (Jvm.Cond.selects "BoxGlueModel" y_Mod_kern y_Mod_kern) ∈ kG := kG_of (k3 (i := 203) (by decide +kernel)) rfl
theorem kw_684 : (Jvm.Cond.code y_Mod_kern prog_12_method_9_code (2 : Nat) (Option.some Jvm.ClassFile.FieldType.int)) ∈ kG := kG_of (k3 (i := 204) rfl) rfl
theorem kw_685 : (Jvm.Cond.methodLink "BoxGlueLaw" (36 : Nat) y_Mod_rule) ∈ kG := kG_of (k3 (i := 205) (by decide +kernel)) rfl
theorem kw_686 : (Jvm.Cond.instanceMethod y_Mod_rule) ∈ kG := kG_of (k3 (i := 206) (by decide +kernel)) rfl
theorem kw_687 : (Jvm.Cond.selects "BoxGlueModel" y_Mod_rule y_Mod_rule) ∈ kG := kG_of (k3 (i := 207) (by decide +kernel)) rfl
theorem kw_688 : (Jvm.Cond.code y_Mod_rule prog_12_method_10_code (5 : Nat) (Option.some Jvm.ClassFile.FieldType.int)) ∈ kG := kG_of (k3 (i := 208) rfl) rfl
theorem kw_689 : (Jvm.Cond.constant "BoxGlueModel" (95 : Nat) (-1000000 : Int32)) ∈ kG := kG_of (k3 (i := 209) (by decide +kernel)) rfl
theorem kw_690 : (Jvm.Cond.methodLink "BoxGlueLaw" (40 : Nat) y_Mod_leaders) ∈ kG := kG_of (k3 (i := 210) (by decide +kernel)) rfl
theorem kw_691 : (Jvm.Cond.instanceMethod y_Mod_leaders) ∈ kG := kG_of (k3 (i := 211) (by decide +kernel)) rfl
theorem kw_692 : (Jvm.Cond.selects "BoxGlueModel" y_Mod_leaders y_Mod_leaders) ∈ kG := kG_of (k3 (i := 212) (by decide +kernel)) rfl
theorem kw_693 : (Jvm.Cond.code y_Mod_leaders prog_12_method_11_code (3 : Nat) (Option.some Jvm.ClassFile.FieldType.int)) ∈ kG := kG_of (k3 (i := 213) rfl) rfl
theorem kw_694 : (Jvm.Cond.methodLink "BoxGlueLaw" (66 : Nat) y_Mod_natural) ∈ kG := kG_of (k3 (i := 214) (by decide +kernel)) rfl
theorem kw_695 : (Jvm.Cond.instanceMethod y_Mod_natural) ∈ kG := kG_of (k3 (i := 215) (by decide +kernel)) rfl
theorem kw_696 : (Jvm.Cond.selects "BoxGlueModel" y_Mod_natural y_Mod_natural) ∈ kG := kG_of (k3 (i := 216) (by decide +kernel)) rfl
theorem kw_697 : (Jvm.Cond.code y_Mod_natural prog_12_method_13_code (4 : Nat) (Option.some Jvm.ClassFile.FieldType.long)) ∈ kG := kG_of (k3 (i := 217) rfl) rfl
theorem kw_698 : (Jvm.Cond.methodLink "BoxGlueModel" (96 : Nat) y_Mod_lengthOf) ∈ kG := kG_of (k3 (i := 218) (by decide +kernel)) rfl
theorem kw_699 : (Jvm.Cond.privateMethod y_Mod_lengthOf) ∈ tables_1 := k3 (i := 219) (by decide +kernel)
theorem kw_700 : (Jvm.Cond.instanceMethod y_Mod_lengthOf) ∈ kG := kG_of (k3 (i := 220) (by decide +kernel)) rfl
theorem kw_701 : (Jvm.Cond.code y_Mod_lengthOf prog_12_method_12_code (2 : Nat) (Option.some Jvm.ClassFile.FieldType.int)) ∈ kG := kG_of (k3 (i := 221) rfl) rfl
theorem kw_702 : (Jvm.Cond.methodLink "BoxGlueLaw" (44 : Nat) y_Mod_pack) ∈ kG := kG_of (k3 (i := 222) (by decide +kernel)) rfl
theorem kw_703 : (Jvm.Cond.instanceMethod y_Mod_pack) ∈ kG := kG_of (k3 (i := 223) (by decide +kernel)) rfl
theorem kw_704 : (Jvm.Cond.selects "BoxGlueModel" y_Mod_pack y_Mod_pack) ∈ kG := kG_of (k3 (i := 224) (by decide +kernel)) rfl
theorem kw_705 : (Jvm.Cond.code y_Mod_pack prog_12_method_17_code (22 : Nat) (Option.some Jvm.ClassFile.FieldType.int)) ∈ kG := kG_of (k3 (i := 225) rfl) rfl
theorem kw_706 : (Jvm.Cond.methodLink "BoxGlueModel" (110 : Nat) y_Mod_natural) ∈ kG := kG_of (k3 (i := 226) (by decide +kernel)) rfl
theorem kw_707 : (Jvm.Cond.constant "BoxGlueModel" (114 : Nat) (1000000 : Int32)) ∈ kG := kG_of (k3 (i := 227) (by decide +kernel)) rfl
theorem kw_708 : (Jvm.Cond.constantLong "BoxGlueModel" (115 : Nat) (1000000 : Int64)) ∈ kG := kG_of (k3 (i := 228) (by decide +kernel)) rfl
theorem kw_709 : (Jvm.Cond.methodLink "BoxGlueModel" (120 : Nat) y_Mod_greatestOrder) ∈ kG := kG_of (k3 (i := 229) (by decide +kernel)) rfl
theorem kw_710 : (Jvm.Cond.privateMethod y_Mod_greatestOrder) ∈ tables_1 := k3 (i := 230) (by decide +kernel)
theorem kw_711 : (Jvm.Cond.instanceMethod y_Mod_greatestOrder) ∈ kG := kG_of (k3 (i := 231) (by decide +kernel)) rfl
theorem kw_712 : (Jvm.Cond.code y_Mod_greatestOrder prog_12_method_16_code (3 : Nat) (Option.some Jvm.ClassFile.FieldType.int)) ∈ kG := kG_of (k3 (i := 232) rfl) rfl
theorem kw_713 : (Jvm.Cond.methodLink "BoxGlueModel" (106 : Nat) y_Mod_sumOf) ∈ kG := kG_of (k3 (i := 233) (by decide +kernel)) rfl
theorem kw_714 : (Jvm.Cond.privateMethod y_Mod_sumOf) ∈ tables_1 := k3 (i := 234) (by decide +kernel)
theorem kw_715 : (Jvm.Cond.instanceMethod y_Mod_sumOf) ∈ kG := kG_of (k3 (i := 235) (by decide +kernel)) rfl
theorem kw_716 : (Jvm.Cond.code y_Mod_sumOf prog_12_method_14_code (7 : Nat) (Option.some Jvm.ClassFile.FieldType.long)) ∈ kG := kG_of (k3 (i := 236) rfl) rfl
theorem kw_717 : (Jvm.Cond.methodLink "BoxGlueModel" (124 : Nat) y_Mod_badness) ∈ kG := kG_of (k3 (i := 237) (by decide +kernel)) rfl
theorem kw_718 : (Jvm.Cond.static y_Mod_badness) ∈ kG := kG_of (k3 (i := 238) (by decide +kernel)) rfl
theorem kw_719 : (Jvm.Cond.code y_Mod_badness prog_12_method_15_code (6 : Nat) (Option.some Jvm.ClassFile.FieldType.int)) ∈ kG := kG_of (k3 (i := 239) rfl) rfl
theorem kw_720 : (Jvm.Cond.constantLong "BoxGlueModel" (100 : Nat) (5 : Int64)) ∈ kG := kG_of (k4 (i := 0) (by decide +kernel)) rfl
theorem kw_721 : (Jvm.Cond.constantLong "BoxGlueModel" (102 : Nat) (100 : Int64)) ∈ kG := kG_of (k4 (i := 1) (by decide +kernel)) rfl
theorem kw_722 : (Jvm.Cond.constantLong "BoxGlueModel" (104 : Nat) (10000 : Int64)) ∈ kG := kG_of (k4 (i := 2) (by decide +kernel)) rfl
theorem kw_723 : (Jvm.Cond.methodLink "BoxGlueModel" (128 : Nat) y_Mod_heightOf) ∈ kG := kG_of (k4 (i := 3) (by decide +kernel)) rfl
theorem kw_724 : (Jvm.Cond.privateMethod y_Mod_heightOf) ∈ tables_1 := k4 (i := 4) (by decide +kernel)
theorem kw_725 : (Jvm.Cond.instanceMethod y_Mod_heightOf) ∈ kG := kG_of (k4 (i := 5) (by decide +kernel)) rfl
theorem kw_726 : (Jvm.Cond.code y_Mod_heightOf prog_12_method_21_code (3 : Nat) (Option.some Jvm.ClassFile.FieldType.int)) ∈ kG := kG_of (k4 (i := 6) rfl) rfl
theorem kw_727 : (Jvm.Cond.methodLink "BoxGlueModel" (131 : Nat) y_Mod_depthOf) ∈ kG := kG_of (k4 (i := 7) (by decide +kernel)) rfl
theorem kw_728 : (Jvm.Cond.privateMethod y_Mod_depthOf) ∈ tables_1 := k4 (i := 8) (by decide +kernel)
theorem kw_729 : (Jvm.Cond.instanceMethod y_Mod_depthOf) ∈ kG := kG_of (k4 (i := 9) (by decide +kernel)) rfl
theorem kw_730 : (Jvm.Cond.code y_Mod_depthOf prog_12_method_22_code (3 : Nat) (Option.some Jvm.ClassFile.FieldType.int)) ∈ kG := kG_of (k4 (i := 10) rfl) rfl
theorem kw_731 : (Jvm.Cond.methodLink "BoxGlueModel" (134 : Nat) y_Mod_copy) ∈ kG := kG_of (k4 (i := 11) (by decide +kernel)) rfl
theorem kw_732 : (Jvm.Cond.privateMethod y_Mod_copy) ∈ tables_1 := k4 (i := 12) (by decide +kernel)
theorem kw_733 : (Jvm.Cond.instanceMethod y_Mod_copy) ∈ kG := kG_of (k4 (i := 13) (by decide +kernel)) rfl
theorem kw_734 : (Jvm.Cond.code y_Mod_copy prog_12_method_18_code (3 : Nat) (Option.none : Option Jvm.ClassFile.FieldType)) ∈ kG := kG_of (k4 (i := 14) rfl) rfl
theorem kw_735 : (Jvm.Cond.methodLink "BoxGlueLaw" (48 : Nat) y_Mod_unpack) ∈ kG := kG_of (k4 (i := 15) (by decide +kernel)) rfl
theorem kw_736 : (Jvm.Cond.instanceMethod y_Mod_unpack) ∈ kG := kG_of (k4 (i := 16) (by decide +kernel)) rfl
theorem kw_737 : (Jvm.Cond.selects "BoxGlueModel" y_Mod_unpack y_Mod_unpack) ∈ kG := kG_of (k4 (i := 17) (by decide +kernel)) rfl
theorem kw_738 : (Jvm.Cond.code y_Mod_unpack prog_12_method_19_code (3 : Nat) (Option.some Jvm.ClassFile.FieldType.int)) ∈ kG := kG_of (k4 (i := 18) rfl) rfl
theorem kw_739 : (Jvm.Cond.methodLink "BoxGlueLaw" (52 : Nat) y_Mod_told) ∈ kG := kG_of (k4 (i := 19) (by decide +kernel)) rfl
theorem kw_740 : (Jvm.Cond.instanceMethod y_Mod_told) ∈ kG := kG_of (k4 (i := 20) (by decide +kernel)) rfl
theorem kw_741 : (Jvm.Cond.selects "BoxGlueModel" y_Mod_told y_Mod_told) ∈ kG := kG_of (k4 (i := 21) (by decide +kernel)) rfl
theorem kw_742 : (Jvm.Cond.code y_Mod_told prog_12_method_20_code (3 : Nat) (Option.some Jvm.ClassFile.FieldType.int)) ∈ kG := kG_of (k4 (i := 22) rfl) rfl
theorem kw_743 : (Jvm.Cond.methodLink "BoxGlueLaw" (56 : Nat) y_Mod_item) ∈ kG := kG_of (k4 (i := 23) (by decide +kernel)) rfl
theorem kw_744 : (Jvm.Cond.instanceMethod y_Mod_item) ∈ kG := kG_of (k4 (i := 24) (by decide +kernel)) rfl
theorem kw_745 : (Jvm.Cond.selects "BoxGlueModel" y_Mod_item y_Mod_item) ∈ kG := kG_of (k4 (i := 25) (by decide +kernel)) rfl
theorem kw_746 : (Jvm.Cond.code y_Mod_item prog_12_method_28_code (5 : Nat) (Option.some Jvm.ClassFile.FieldType.int)) ∈ kG := kG_of (k4 (i := 26) rfl) rfl
theorem kw_747 : (Jvm.Cond.methodLink "BoxGlueModel" (145 : Nat) y_Mod_drawn) ∈ kG := kG_of (k4 (i := 27) (by decide +kernel)) rfl
theorem kw_748 : (Jvm.Cond.privateMethod y_Mod_drawn) ∈ tables_1 := k4 (i := 28) (by decide +kernel)
theorem kw_749 : (Jvm.Cond.instanceMethod y_Mod_drawn) ∈ kG := kG_of (k4 (i := 29) (by decide +kernel)) rfl
theorem kw_750 : (Jvm.Cond.code y_Mod_drawn prog_12_method_24_code (4 : Nat) (Option.some Jvm.ClassFile.FieldType.int)) ∈ kG := kG_of (k4 (i := 30) rfl) rfl
theorem kw_751 : (Jvm.Cond.methodLink "BoxGlueModel" (138 : Nat) y_Mod_leaderLength) ∈ kG := kG_of (k4 (i := 31) (by decide +kernel)) rfl
theorem kw_752 : (Jvm.Cond.privateMethod y_Mod_leaderLength) ∈ tables_1 := k4 (i := 32) (by decide +kernel)
theorem kw_753 : (Jvm.Cond.instanceMethod y_Mod_leaderLength) ∈ kG := kG_of (k4 (i := 33) (by decide +kernel)) rfl
theorem kw_754 : (Jvm.Cond.code y_Mod_leaderLength prog_12_method_23_code (2 : Nat) (Option.some Jvm.ClassFile.FieldType.int)) ∈ kG := kG_of (k4 (i := 34) rfl) rfl
theorem kw_755 : (Jvm.Cond.methodLink "BoxGlueModel" (141 : Nat) y_Mod_firstPlace) ∈ kG := kG_of (k4 (i := 35) (by decide +kernel)) rfl
theorem kw_756 : (Jvm.Cond.privateMethod y_Mod_firstPlace) ∈ tables_1 := k4 (i := 36) (by decide +kernel)
theorem kw_757 : (Jvm.Cond.instanceMethod y_Mod_firstPlace) ∈ kG := kG_of (k4 (i := 37) (by decide +kernel)) rfl
theorem kw_758 : (Jvm.Cond.code y_Mod_firstPlace prog_12_method_25_code (6 : Nat) (Option.some Jvm.ClassFile.FieldType.long)) ∈ kG := kG_of (k4 (i := 38) rfl) rfl
theorem kw_759 : (Jvm.Cond.methodLink "BoxGlueModel" (150 : Nat) y_Mod_firstOf) ∈ kG := kG_of (k4 (i := 39) (by decide +kernel)) rfl
theorem kw_760 : (Jvm.Cond.privateMethod y_Mod_firstOf) ∈ tables_1 := k4 (i := 40) (by decide +kernel)
theorem kw_761 : (Jvm.Cond.instanceMethod y_Mod_firstOf) ∈ kG := kG_of (k4 (i := 41) (by decide +kernel)) rfl
theorem kw_762 : (Jvm.Cond.code y_Mod_firstOf prog_12_method_26_code (5 : Nat) (Option.some Jvm.ClassFile.FieldType.long)) ∈ kG := kG_of (k4 (i := 42) rfl) rfl
theorem kw_763 : (Jvm.Cond.constantLong "BoxGlueModel" (148 : Nat) (2 : Int64)) ∈ kG := kG_of (k4 (i := 43) (by decide +kernel)) rfl
theorem kw_764 : (Jvm.Cond.methodLink "BoxGlueModel" (153 : Nat) y_Mod_stepOf) ∈ kG := kG_of (k4 (i := 44) (by decide +kernel)) rfl
theorem kw_765 : (Jvm.Cond.privateMethod y_Mod_stepOf) ∈ tables_1 := k4 (i := 45) (by decide +kernel)
theorem kw_766 : (Jvm.Cond.instanceMethod y_Mod_stepOf) ∈ kG := kG_of (k4 (i := 46) (by decide +kernel)) rfl
theorem kw_767 : (Jvm.Cond.code y_Mod_stepOf prog_12_method_27_code (5 : Nat) (Option.some Jvm.ClassFile.FieldType.long)) ∈ kG := kG_of (k4 (i := 47) rfl) rfl
theorem kw_768 : (Jvm.Cond.methodLink "BoxGlueLaw" (61 : Nat) y_Mod_size) ∈ kG := kG_of (k4 (i := 48) (by decide +kernel)) rfl
theorem kw_769 : (Jvm.Cond.instanceMethod y_Mod_size) ∈ kG := kG_of (k4 (i := 49) (by decide +kernel)) rfl
theorem kw_770 : (Jvm.Cond.selects "BoxGlueModel" y_Mod_size y_Mod_size) ∈ kG := kG_of (k4 (i := 50) (by decide +kernel)) rfl
theorem kw_771 : (Jvm.Cond.code y_Mod_size prog_12_method_29_code (1 : Nat) (Option.some Jvm.ClassFile.FieldType.int)) ∈ kG := kG_of (k4 (i := 51) rfl) rfl
theorem kw_772 : (Jvm.Cond.methodLink "BoxGlueLaw" (70 : Nat) y_Mod_drop) ∈ kG := kG_of (k4 (i := 52) (by decide +kernel)) rfl
theorem kw_773 : (Jvm.Cond.instanceMethod y_Mod_drop) ∈ kG := kG_of (k4 (i := 53) (by decide +kernel)) rfl
theorem kw_774 : (Jvm.Cond.selects "BoxGlueModel" y_Mod_drop y_Mod_drop) ∈ kG := kG_of (k4 (i := 54) (by decide +kernel)) rfl
theorem kw_775 : (Jvm.Cond.code y_Mod_drop prog_12_method_30_code (1 : Nat) (Option.some Jvm.ClassFile.FieldType.int)) ∈ kG := kG_of (k4 (i := 55) rfl) rfl
theorem kw_776 : (Jvm.Cond.methodLink "BoxGlueLaw" (74 : Nat) y_Mod_boxes) ∈ kG := kG_of (k4 (i := 56) (by decide +kernel)) rfl
theorem kw_777 : (Jvm.Cond.instanceMethod y_Mod_boxes) ∈ kG := kG_of (k4 (i := 57) (by decide +kernel)) rfl
theorem kw_778 : (Jvm.Cond.selects "BoxGlueModel" y_Mod_boxes y_Mod_boxes) ∈ kG := kG_of (k4 (i := 58) (by decide +kernel)) rfl
theorem kw_779 : (Jvm.Cond.code y_Mod_boxes prog_12_method_31_code (1 : Nat) (Option.some Jvm.ClassFile.FieldType.int)) ∈ kG := kG_of (k4 (i := 59) rfl) rfl
theorem kw_780 : (Jvm.Cond.castable "BoxGlue$Box" "BoxGlue$Box") ∈ tables_1 := k4 (i := 60) (by decide +kernel)
theorem kw_781 : (Jvm.Cond.castable "BoxGlue$Glue" "BoxGlue$Glue") ∈ tables_1 := k4 (i := 61) (by decide +kernel)
theorem kw_782 : (Jvm.Cond.castable "BoxGlue$Glue" "BoxGlue$Item") ∈ tables_1 := k4 (i := 62) (by decide +kernel)
theorem kw_783 : (Jvm.Cond.castable "BoxGlue$Kern" "BoxGlue$Item") ∈ tables_1 := k4 (i := 63) (by decide +kernel)
theorem kw_784 : (Jvm.Cond.castable "BoxGlue$Put" "BoxGlue$Item") ∈ tables_1 := k4 (i := 64) (by decide +kernel)
theorem kw_785 : (Jvm.Cond.castable "BoxGlue$Rule" "BoxGlue$Item") ∈ tables_1 := k4 (i := 65) (by decide +kernel)
theorem kw_786 : (Jvm.Cond.castable "BoxGlue$Placed" "BoxGlue$Placed") ∈ tables_1 := k4 (i := 66) (by decide +kernel)
theorem kw_787 : (Jvm.Cond.sameMethod "[Ljava/lang/Object;" "java/lang/Object" "getClass" "()Ljava/lang/Class;") ∈ kG := kG_of (k4 (i := 67) (by decide +kernel)) rfl
theorem kw_788 : (Jvm.Cond.selects "[Ljava/lang/Object;" ({ cls := "java/lang/Object", name := "getClass", desc := "()Ljava/lang/Class;" } : Jvm.MethodName) ({ cls := "java/lang/Object", name := "getClass", desc := "()Ljava/lang/Class;" } : Jvm.MethodName)) ∈ kG := kG_of (k4 (i := 68) (by decide +kernel)) rfl
theorem kw_789 : (Jvm.Cond.declares ({ cls := "java/lang/Object", name := "getClass", desc := "()Ljava/lang/Class;" } : Jvm.MethodName)) ∈ tables_1 := k4 (i := 69) (by decide +kernel)
theorem kw_790 : (Jvm.Cond.castable "BoxGlue" "java/lang/Object") ∈ tables_1 := k4 (i := 70) (by decide +kernel)
theorem kw_791 : (Jvm.Cond.castable "BoxGlueModel" "java/lang/Object") ∈ tables_1 := k4 (i := 71) (by decide +kernel)
theorem kw_792 : (Jvm.Cond.castable "BoxGlue$Box" "java/lang/Object") ∈ tables_1 := k4 (i := 72) (by decide +kernel)
theorem kw_793 : (Jvm.Cond.castable "BoxGlue$Fit" "java/lang/Object") ∈ tables_1 := k4 (i := 73) (by decide +kernel)
theorem kw_794 : (Jvm.Cond.castable "BoxGlue$Put" "java/lang/Object") ∈ tables_1 := k4 (i := 74) (by decide +kernel)
theorem kw_795 : (Jvm.Cond.castable "BoxGlue$Glue" "java/lang/Object") ∈ tables_1 := k4 (i := 75) (by decide +kernel)
theorem kw_796 : (Jvm.Cond.castable "BoxGlue$Leaders" "java/lang/Object") ∈ tables_1 := k4 (i := 76) (by decide +kernel)
theorem kw_797 : (Jvm.Cond.castable "BoxGlue$Kern" "java/lang/Object") ∈ tables_1 := k4 (i := 77) (by decide +kernel)
theorem kw_798 : (Jvm.Cond.castable "BoxGlue$Rule" "java/lang/Object") ∈ tables_1 := k4 (i := 78) (by decide +kernel)
theorem kw_799 : (Jvm.Cond.castable "BoxGlue$Placed" "java/lang/Object") ∈ tables_1 := k4 (i := 79) (by decide +kernel)
theorem ks_AL_add2 : Cond.selects "java/util/ArrayList" y_AL_add2 y_AL_add2 ∈ kG := kG_sel (List.mem_of_getElem? (i := 0) (by decide +kernel)) rfl
theorem ks_AL_grow : Cond.selects "java/util/ArrayList" y_AL_grow y_AL_grow ∈ kG := kG_sel (List.mem_of_getElem? (i := 1) (by decide +kernel)) rfl
theorem ks_AL_grow2 : Cond.selects "java/util/ArrayList" y_AL_grow2 y_AL_grow2 ∈ kG := kG_sel (List.mem_of_getElem? (i := 2) (by decide +kernel)) rfl
theorem ks_BG_isBox : Cond.selects "BoxGlue" y_BG_isBox y_BG_isBox ∈ kG := kG_sel (List.mem_of_getElem? (i := 3) (by decide +kernel)) rfl
theorem ks_BG_append : Cond.selects "BoxGlue" y_BG_append y_BG_append ∈ kG := kG_sel (List.mem_of_getElem? (i := 4) (by decide +kernel)) rfl
theorem ks_Fit_share : Cond.selects "BoxGlue$Fit" y_Fit_share y_Fit_share ∈ kG := kG_sel (List.mem_of_getElem? (i := 5) (by decide +kernel)) rfl
theorem ks_Fit_cubed : Cond.selects "BoxGlue$Fit" y_Fit_cubed y_Fit_cubed ∈ kG := kG_sel (List.mem_of_getElem? (i := 6) (by decide +kernel)) rfl
theorem ks_Leaders_alignedFrom : Cond.selects "BoxGlue$Leaders" y_Leaders_alignedFrom y_Leaders_alignedFrom ∈ kG := kG_sel (List.mem_of_getElem? (i := 7) (by decide +kernel)) rfl
theorem ks_Leaders_gap : Cond.selects "BoxGlue$Leaders" y_Leaders_gap y_Leaders_gap ∈ kG := kG_sel (List.mem_of_getElem? (i := 8) (by decide +kernel)) rfl
theorem ks_AL_fastRemove : Cond.selects "java/util/ArrayList" y_AL_fastRemove y_AL_fastRemove ∈ kG := kG_sel (List.mem_of_getElem? (i := 9) (by decide +kernel)) rfl
theorem ks_Mod_isBox : Cond.selects "BoxGlueModel" y_Mod_isBox y_Mod_isBox ∈ kG := kG_sel (List.mem_of_getElem? (i := 10) (by decide +kernel)) rfl
theorem ks_Mod_more : Cond.selects "BoxGlueModel" y_Mod_more y_Mod_more ∈ kG := kG_sel (List.mem_of_getElem? (i := 11) (by decide +kernel)) rfl
theorem ks_Mod_lengthOf : Cond.selects "BoxGlueModel" y_Mod_lengthOf y_Mod_lengthOf ∈ kG := kG_sel (List.mem_of_getElem? (i := 12) (by decide +kernel)) rfl
theorem ks_Mod_greatestOrder : Cond.selects "BoxGlueModel" y_Mod_greatestOrder y_Mod_greatestOrder ∈ kG := kG_sel (List.mem_of_getElem? (i := 13) (by decide +kernel)) rfl
theorem ks_Mod_sumOf : Cond.selects "BoxGlueModel" y_Mod_sumOf y_Mod_sumOf ∈ kG := kG_sel (List.mem_of_getElem? (i := 14) (by decide +kernel)) rfl
theorem ks_Mod_heightOf : Cond.selects "BoxGlueModel" y_Mod_heightOf y_Mod_heightOf ∈ kG := kG_sel (List.mem_of_getElem? (i := 15) (by decide +kernel)) rfl
theorem ks_Mod_depthOf : Cond.selects "BoxGlueModel" y_Mod_depthOf y_Mod_depthOf ∈ kG := kG_sel (List.mem_of_getElem? (i := 16) (by decide +kernel)) rfl
theorem ks_Mod_copy : Cond.selects "BoxGlueModel" y_Mod_copy y_Mod_copy ∈ kG := kG_sel (List.mem_of_getElem? (i := 17) (by decide +kernel)) rfl
theorem ks_Mod_drawn : Cond.selects "BoxGlueModel" y_Mod_drawn y_Mod_drawn ∈ kG := kG_sel (List.mem_of_getElem? (i := 18) (by decide +kernel)) rfl
theorem ks_Mod_leaderLength : Cond.selects "BoxGlueModel" y_Mod_leaderLength y_Mod_leaderLength ∈ kG := kG_sel (List.mem_of_getElem? (i := 19) (by decide +kernel)) rfl
theorem ks_Mod_firstPlace : Cond.selects "BoxGlueModel" y_Mod_firstPlace y_Mod_firstPlace ∈ kG := kG_sel (List.mem_of_getElem? (i := 20) (by decide +kernel)) rfl
theorem ks_Mod_firstOf : Cond.selects "BoxGlueModel" y_Mod_firstOf y_Mod_firstOf ∈ kG := kG_sel (List.mem_of_getElem? (i := 21) (by decide +kernel)) rfl
theorem ks_Mod_stepOf : Cond.selects "BoxGlueModel" y_Mod_stepOf y_Mod_stepOf ∈ kG := kG_sel (List.mem_of_getElem? (i := 22) (by decide +kernel)) rfl
theorem ki_BG : ∀ w ∈ u_ws "BoxGlue" kT_BG 3, w ∈ kG := by
  intro w hw
  obtain ⟨k, hk, rfl⟩ := List.mem_map.mp hw
  have hk := List.mem_range.mp hk
  match k, hk with
  | 0, _ => exact kw_58
  | 1, _ => exact kw_60
  | 2, _ => exact kw_62
  | k + 3, h => exact absurd h (by omega)
theorem ki_AL : ∀ w ∈ u_ws "java/util/ArrayList" kT_AL 3, w ∈ kG := by
  intro w hw
  obtain ⟨k, hk, rfl⟩ := List.mem_map.mp hw
  have hk := List.mem_range.mp hk
  match k, hk with
  | 0, _ => exact kw_48
  | 1, _ => exact kw_50
  | 2, _ => exact kw_52
  | k + 3, h => exact absurd h (by omega)
theorem ki_Box : ∀ w ∈ u_ws "BoxGlue$Box" kT_Box 5, w ∈ kG := by
  intro w hw
  obtain ⟨k, hk, rfl⟩ := List.mem_map.mp hw
  have hk := List.mem_range.mp hk
  match k, hk with
  | 0, _ => exact kw_121
  | 1, _ => exact kw_123
  | 2, _ => exact kw_125
  | 3, _ => exact kw_127
  | 4, _ => exact kw_129
  | k + 5, h => exact absurd h (by omega)
theorem ki_Fit : ∀ w ∈ u_ws "BoxGlue$Fit" kT_Fit 4, w ∈ kG := by
  intro w hw
  obtain ⟨k, hk, rfl⟩ := List.mem_map.mp hw
  have hk := List.mem_range.mp hk
  match k, hk with
  | 0, _ => exact kw_94
  | 1, _ => exact kw_96
  | 2, _ => exact kw_98
  | 3, _ => exact kw_100
  | k + 4, h => exact absurd h (by omega)
theorem ki_Put : ∀ w ∈ u_ws "BoxGlue$Put" kT_Put 4, w ∈ kG := by
  intro w hw
  obtain ⟨k, hk, rfl⟩ := List.mem_map.mp hw
  have hk := List.mem_range.mp hk
  match k, hk with
  | 0, _ => exact kw_239
  | 1, _ => exact kw_241
  | 2, _ => exact kw_235
  | 3, _ => exact kw_237
  | k + 4, h => exact absurd h (by omega)
theorem ki_Glue : ∀ w ∈ u_ws "BoxGlue$Glue" kT_Glue 7, w ∈ kG := by
  intro w hw
  obtain ⟨k, hk, rfl⟩ := List.mem_map.mp hw
  have hk := List.mem_range.mp hk
  match k, hk with
  | 0, _ => exact kw_289
  | 1, _ => exact kw_290
  | 2, _ => exact kw_279
  | 3, _ => exact kw_281
  | 4, _ => exact kw_283
  | 5, _ => exact kw_285
  | 6, _ => exact kw_287
  | k + 7, h => exact absurd h (by omega)
theorem ki_Kern : ∀ w ∈ u_ws "BoxGlue$Kern" kT_Kern 2, w ∈ kG := by
  intro w hw
  obtain ⟨k, hk, rfl⟩ := List.mem_map.mp hw
  have hk := List.mem_range.mp hk
  match k, hk with
  | 0, _ => exact kw_302
  | 1, _ => exact kw_303
  | k + 2, h => exact absurd h (by omega)
theorem ki_Rule : ∀ w ∈ u_ws "BoxGlue$Rule" kT_Rule 4, w ∈ kG := by
  intro w hw
  obtain ⟨k, hk, rfl⟩ := List.mem_map.mp hw
  have hk := List.mem_range.mp hk
  match k, hk with
  | 0, _ => exact kw_325
  | 1, _ => exact kw_326
  | 2, _ => exact kw_321
  | 3, _ => exact kw_323
  | k + 4, h => exact absurd h (by omega)
theorem ki_Leaders : ∀ w ∈ u_ws "BoxGlue$Leaders" kT_Leaders 2, w ∈ kG := by
  intro w hw
  obtain ⟨k, hk, rfl⟩ := List.mem_map.mp hw
  have hk := List.mem_range.mp hk
  match k, hk with
  | 0, _ => exact kw_265
  | 1, _ => exact kw_267
  | k + 2, h => exact absurd h (by omega)
theorem ki_Placed : ∀ w ∈ u_ws "BoxGlue$Placed" kT_Placed 3, w ∈ kG := by
  intro w hw
  obtain ⟨k, hk, rfl⟩ := List.mem_map.mp hw
  have hk := List.mem_range.mp hk
  match k, hk with
  | 0, _ => exact kw_442
  | 1, _ => exact kw_444
  | 2, _ => exact kw_446
  | k + 3, h => exact absurd h (by omega)
theorem ki_Mod : ∀ w ∈ u_ws "BoxGlueModel" kT_Mod 24, w ∈ kG := by
  intro w hw
  obtain ⟨k, hk, rfl⟩ := List.mem_map.mp hw
  have hk := List.mem_range.mp hk
  match k, hk with
  | 0, _ => exact kw_605
  | 1, _ => exact kw_607
  | 2, _ => exact kw_609
  | 3, _ => exact kw_611
  | 4, _ => exact kw_613
  | 5, _ => exact kw_615
  | 6, _ => exact kw_617
  | 7, _ => exact kw_619
  | 8, _ => exact kw_621
  | 9, _ => exact kw_623
  | 10, _ => exact kw_625
  | 11, _ => exact kw_627
  | 12, _ => exact kw_629
  | 13, _ => exact kw_631
  | 14, _ => exact kw_633
  | 15, _ => exact kw_635
  | 16, _ => exact kw_637
  | 17, _ => exact kw_639
  | 18, _ => exact kw_641
  | 19, _ => exact kw_643
  | 20, _ => exact kw_645
  | 21, _ => exact kw_647
  | 22, _ => exact kw_649
  | 23, _ => exact kw_651
  | k + 24, h => exact absurd h (by omega)
