theorem d_BG_init_0 : decode b_BG_init 0 = .ok (.aload_n 0, 1) := by decide +kernel
theorem d_BG_init_1 : decode b_BG_init 1 = .ok (.invokespecial 1, 3) := by decide +kernel
theorem d_BG_init_4 : decode b_BG_init 4 = .ok (.aload_n 0, 1) := by decide +kernel
theorem d_BG_init_5 : decode b_BG_init 5 = .ok (.new 7, 3) := by decide +kernel
theorem d_BG_init_8 : decode b_BG_init 8 = .ok (.dup, 1) := by decide +kernel
theorem d_BG_init_9 : decode b_BG_init 9 = .ok (.invokespecial 9, 3) := by decide +kernel
theorem d_BG_init_12 : decode b_BG_init 12 = .ok (.putfield 10, 3) := by decide +kernel
theorem d_BG_init_15 : decode b_BG_init 15 = .ok (.aload_n 0, 1) := by decide +kernel
theorem d_BG_init_16 : decode b_BG_init 16 = .ok (.new 7, 3) := by decide +kernel
theorem d_BG_init_19 : decode b_BG_init 19 = .ok (.dup, 1) := by decide +kernel
theorem d_BG_init_20 : decode b_BG_init 20 = .ok (.invokespecial 9, 3) := by decide +kernel
theorem d_BG_init_23 : decode b_BG_init 23 = .ok (.putfield 16, 3) := by decide +kernel
theorem d_BG_init_26 : decode b_BG_init 26 = .ok (.aload_n 0, 1) := by decide +kernel
theorem d_BG_init_27 : decode b_BG_init 27 = .ok (.iconst 0, 1) := by decide +kernel
theorem d_BG_init_28 : decode b_BG_init 28 = .ok (.putfield 19, 3) := by decide +kernel
theorem d_BG_init_31 : decode b_BG_init 31 = .ok (.return_, 1) := by decide +kernel
theorem d_Obj_init_0 : decode b_Obj_init 0 = .ok (.return_, 1) := by decide +kernel
theorem d_AL_init_0 : decode b_AL_init 0 = .ok (.aload_n 0, 1) := by decide +kernel
theorem d_AL_init_1 : decode b_AL_init 1 = .ok (.invokespecial 1, 3) := by decide +kernel
theorem d_AL_init_4 : decode b_AL_init 4 = .ok (.aload_n 0, 1) := by decide +kernel
theorem d_AL_init_5 : decode b_AL_init 5 = .ok (.getstatic 39, 3) := by decide +kernel
theorem d_AL_init_8 : decode b_AL_init 8 = .ok (.putfield 9, 3) := by decide +kernel
theorem d_AL_init_11 : decode b_AL_init 11 = .ok (.return_, 1) := by decide +kernel
theorem d_AbL_init_0 : decode b_AbL_init 0 = .ok (.aload_n 0, 1) := by decide +kernel
theorem d_AbL_init_1 : decode b_AbL_init 1 = .ok (.invokespecial 1, 3) := by decide +kernel
theorem d_AbL_init_4 : decode b_AbL_init 4 = .ok (.aload_n 0, 1) := by decide +kernel
theorem d_AbL_init_5 : decode b_AbL_init 5 = .ok (.iconst 0, 1) := by decide +kernel
theorem d_AbL_init_6 : decode b_AbL_init 6 = .ok (.putfield 7, 3) := by decide +kernel
theorem d_AbL_init_9 : decode b_AbL_init 9 = .ok (.return_, 1) := by decide +kernel
theorem d_AbC_init_0 : decode b_AbC_init 0 = .ok (.aload_n 0, 1) := by decide +kernel
theorem d_AbC_init_1 : decode b_AbC_init 1 = .ok (.invokespecial 1, 3) := by decide +kernel
theorem d_AbC_init_4 : decode b_AbC_init 4 = .ok (.return_, 1) := by decide +kernel
theorem d_BG_box_0 : decode b_BG_box 0 = .ok (.iload_n 1, 1) := by decide +kernel
theorem d_BG_box_1 : decode b_BG_box 1 = .ok (.invokestatic 23, 3) := by decide +kernel
theorem d_BG_box_4 : decode b_BG_box 4 = .ok (.ifCond .eq 17, 3) := by decide +kernel
theorem d_BG_box_7 : decode b_BG_box 7 = .ok (.iload_n 2, 1) := by decide +kernel
theorem d_BG_box_8 : decode b_BG_box 8 = .ok (.invokestatic 23, 3) := by decide +kernel
theorem d_BG_box_11 : decode b_BG_box 11 = .ok (.ifCond .eq 10, 3) := by decide +kernel
theorem d_BG_box_14 : decode b_BG_box 14 = .ok (.iload_n 3, 1) := by decide +kernel
theorem d_BG_box_15 : decode b_BG_box 15 = .ok (.invokestatic 23, 3) := by decide +kernel
theorem d_BG_box_18 : decode b_BG_box 18 = .ok (.ifCond .ne 5, 3) := by decide +kernel
theorem d_BG_box_21 : decode b_BG_box 21 = .ok (.iconst (-1), 1) := by decide +kernel
theorem d_BG_box_22 : decode b_BG_box 22 = .ok (.ireturn, 1) := by decide +kernel
theorem d_BG_box_23 : decode b_BG_box 23 = .ok (.aload_n 0, 1) := by decide +kernel
theorem d_BG_box_24 : decode b_BG_box 24 = .ok (.getfield 16, 3) := by decide +kernel
theorem d_BG_box_27 : decode b_BG_box 27 = .ok (.invokevirtual 27, 3) := by decide +kernel
theorem d_BG_box_30 : decode b_BG_box 30 = .ok (.bipush 60, 2) := by decide +kernel
theorem d_BG_box_32 : decode b_BG_box 32 = .ok (.if_icmp .lt 6, 3) := by decide +kernel
theorem d_BG_box_35 : decode b_BG_box 35 = .ok (.bipush (-2), 2) := by decide +kernel
theorem d_BG_box_37 : decode b_BG_box 37 = .ok (.ireturn, 1) := by decide +kernel
theorem d_BG_box_38 : decode b_BG_box 38 = .ok (.aload_n 0, 1) := by decide +kernel
theorem d_BG_box_39 : decode b_BG_box 39 = .ok (.getfield 16, 3) := by decide +kernel
theorem d_BG_box_42 : decode b_BG_box 42 = .ok (.iload_n 1, 1) := by decide +kernel
theorem d_BG_box_43 : decode b_BG_box 43 = .ok (.iload_n 2, 1) := by decide +kernel
theorem d_BG_box_44 : decode b_BG_box 44 = .ok (.iload_n 3, 1) := by decide +kernel
theorem d_BG_box_45 : decode b_BG_box 45 = .ok (.invokestatic 31, 3) := by decide +kernel
theorem d_BG_box_48 : decode b_BG_box 48 = .ok (.invokevirtual 37, 3) := by decide +kernel
theorem d_BG_box_51 : decode b_BG_box 51 = .ok (.pop, 1) := by decide +kernel
theorem d_BG_box_52 : decode b_BG_box 52 = .ok (.aload_n 0, 1) := by decide +kernel
theorem d_BG_box_53 : decode b_BG_box 53 = .ok (.getfield 16, 3) := by decide +kernel
theorem d_BG_box_56 : decode b_BG_box 56 = .ok (.invokevirtual 27, 3) := by decide +kernel
theorem d_BG_box_59 : decode b_BG_box 59 = .ok (.iconst 1, 1) := by decide +kernel
theorem d_BG_box_60 : decode b_BG_box 60 = .ok (.isub, 1) := by decide +kernel
theorem d_BG_box_61 : decode b_BG_box 61 = .ok (.ireturn, 1) := by decide +kernel
theorem d_BG_isExtent_0 : decode b_BG_isExtent 0 = .ok (.iload_n 0, 1) := by decide +kernel
theorem d_BG_isExtent_1 : decode b_BG_isExtent 1 = .ok (.ifCond .lt 13, 3) := by decide +kernel
theorem d_BG_isExtent_4 : decode b_BG_isExtent 4 = .ok (.iload_n 0, 1) := by decide +kernel
theorem d_BG_isExtent_5 : decode b_BG_isExtent 5 = .ok (.ldc 142, 2) := by decide +kernel
theorem d_BG_isExtent_7 : decode b_BG_isExtent 7 = .ok (.if_icmp .gt 7, 3) := by decide +kernel
theorem d_BG_isExtent_10 : decode b_BG_isExtent 10 = .ok (.iconst 1, 1) := by decide +kernel
theorem d_BG_isExtent_11 : decode b_BG_isExtent 11 = .ok (.goto 4, 3) := by decide +kernel
theorem d_BG_isExtent_14 : decode b_BG_isExtent 14 = .ok (.iconst 0, 1) := by decide +kernel
theorem d_BG_isExtent_15 : decode b_BG_isExtent 15 = .ok (.ireturn, 1) := by decide +kernel
theorem d_AL_size_0 : decode b_AL_size 0 = .ok (.aload_n 0, 1) := by decide +kernel
theorem d_AL_size_1 : decode b_AL_size 1 = .ok (.getfield 48, 3) := by decide +kernel
theorem d_AL_size_4 : decode b_AL_size 4 = .ok (.ireturn, 1) := by decide +kernel
theorem d_Box_bare_0 : decode b_Box_bare 0 = .ok (.new 10, 3) := by decide +kernel
theorem d_Box_bare_3 : decode b_Box_bare 3 = .ok (.dup, 1) := by decide +kernel
theorem d_Box_bare_4 : decode b_Box_bare 4 = .ok (.iload_n 0, 1) := by decide +kernel
theorem d_Box_bare_5 : decode b_Box_bare 5 = .ok (.iload_n 1, 1) := by decide +kernel
theorem d_Box_bare_6 : decode b_Box_bare 6 = .ok (.iload_n 2, 1) := by decide +kernel
theorem d_Box_bare_7 : decode b_Box_bare 7 = .ok (.new 29, 3) := by decide +kernel
theorem d_Box_bare_10 : decode b_Box_bare 10 = .ok (.dup, 1) := by decide +kernel
theorem d_Box_bare_11 : decode b_Box_bare 11 = .ok (.iconst 0, 1) := by decide +kernel
theorem d_Box_bare_12 : decode b_Box_bare 12 = .ok (.iconst 0, 1) := by decide +kernel
theorem d_Box_bare_13 : decode b_Box_bare 13 = .ok (.iconst (-1), 1) := by decide +kernel
theorem d_Box_bare_14 : decode b_Box_bare 14 = .ok (.iconst 0, 1) := by decide +kernel
theorem d_Box_bare_15 : decode b_Box_bare 15 = .ok (.invokespecial 31, 3) := by decide +kernel
theorem d_Box_bare_18 : decode b_Box_bare 18 = .ok (.new 34, 3) := by decide +kernel
theorem d_Box_bare_21 : decode b_Box_bare 21 = .ok (.dup, 1) := by decide +kernel
theorem d_Box_bare_22 : decode b_Box_bare 22 = .ok (.invokespecial 36, 3) := by decide +kernel
theorem d_Box_bare_25 : decode b_Box_bare 25 = .ok (.invokespecial 37, 3) := by decide +kernel
theorem d_Box_bare_28 : decode b_Box_bare 28 = .ok (.areturn, 1) := by decide +kernel
theorem d_Fit_init_0 : decode b_Fit_init 0 = .ok (.aload_n 0, 1) := by decide +kernel
theorem d_Fit_init_1 : decode b_Fit_init 1 = .ok (.invokespecial 3, 3) := by decide +kernel
theorem d_Fit_init_4 : decode b_Fit_init 4 = .ok (.aload_n 0, 1) := by decide +kernel
theorem d_Fit_init_5 : decode b_Fit_init 5 = .ok (.iload_n 1, 1) := by decide +kernel
theorem d_Fit_init_6 : decode b_Fit_init 6 = .ok (.putfield 9, 3) := by decide +kernel
theorem d_Fit_init_9 : decode b_Fit_init 9 = .ok (.aload_n 0, 1) := by decide +kernel
theorem d_Fit_init_10 : decode b_Fit_init 10 = .ok (.iload_n 2, 1) := by decide +kernel
theorem d_Fit_init_11 : decode b_Fit_init 11 = .ok (.putfield 15, 3) := by decide +kernel
theorem d_Fit_init_14 : decode b_Fit_init 14 = .ok (.aload_n 0, 1) := by decide +kernel
theorem d_Fit_init_15 : decode b_Fit_init 15 = .ok (.iload_n 3, 1) := by decide +kernel
theorem d_Fit_init_16 : decode b_Fit_init 16 = .ok (.putfield 18, 3) := by decide +kernel
theorem d_Fit_init_19 : decode b_Fit_init 19 = .ok (.aload_n 0, 1) := by decide +kernel
theorem d_Fit_init_20 : decode b_Fit_init 20 = .ok (.iload 4, 2) := by decide +kernel
theorem d_Fit_init_22 : decode b_Fit_init 22 = .ok (.putfield 21, 3) := by decide +kernel
theorem d_Fit_init_25 : decode b_Fit_init 25 = .ok (.return_, 1) := by decide +kernel
theorem d_Box_init_0 : decode b_Box_init 0 = .ok (.aload_n 0, 1) := by decide +kernel
theorem d_Box_init_1 : decode b_Box_init 1 = .ok (.invokespecial 3, 3) := by decide +kernel
theorem d_Box_init_4 : decode b_Box_init 4 = .ok (.aload_n 0, 1) := by decide +kernel
theorem d_Box_init_5 : decode b_Box_init 5 = .ok (.iload_n 1, 1) := by decide +kernel
theorem d_Box_init_6 : decode b_Box_init 6 = .ok (.putfield 9, 3) := by decide +kernel
theorem d_Box_init_9 : decode b_Box_init 9 = .ok (.aload_n 0, 1) := by decide +kernel
theorem d_Box_init_10 : decode b_Box_init 10 = .ok (.iload_n 2, 1) := by decide +kernel
theorem d_Box_init_11 : decode b_Box_init 11 = .ok (.putfield 15, 3) := by decide +kernel
theorem d_Box_init_14 : decode b_Box_init 14 = .ok (.aload_n 0, 1) := by decide +kernel
theorem d_Box_init_15 : decode b_Box_init 15 = .ok (.iload_n 3, 1) := by decide +kernel
theorem d_Box_init_16 : decode b_Box_init 16 = .ok (.putfield 18, 3) := by decide +kernel
theorem d_Box_init_19 : decode b_Box_init 19 = .ok (.aload_n 0, 1) := by decide +kernel
theorem d_Box_init_20 : decode b_Box_init 20 = .ok (.aload 4, 2) := by decide +kernel
theorem d_Box_init_22 : decode b_Box_init 22 = .ok (.putfield 21, 3) := by decide +kernel
theorem d_Box_init_25 : decode b_Box_init 25 = .ok (.aload_n 0, 1) := by decide +kernel
theorem d_Box_init_26 : decode b_Box_init 26 = .ok (.aload 5, 2) := by decide +kernel
theorem d_Box_init_28 : decode b_Box_init 28 = .ok (.putfield 25, 3) := by decide +kernel
theorem d_Box_init_31 : decode b_Box_init 31 = .ok (.return_, 1) := by decide +kernel
theorem d_AL_add_0 : decode b_AL_add 0 = .ok (.aload_n 0, 1) := by decide +kernel
theorem d_AL_add_1 : decode b_AL_add 1 = .ok (.dup, 1) := by decide +kernel
theorem d_AL_add_2 : decode b_AL_add 2 = .ok (.getfield 63, 3) := by decide +kernel
theorem d_AL_add_5 : decode b_AL_add 5 = .ok (.iconst 1, 1) := by decide +kernel
theorem d_AL_add_6 : decode b_AL_add 6 = .ok (.iadd, 1) := by decide +kernel
theorem d_AL_add_7 : decode b_AL_add 7 = .ok (.putfield 63, 3) := by decide +kernel
theorem d_AL_add_10 : decode b_AL_add 10 = .ok (.aload_n 0, 1) := by decide +kernel
theorem d_AL_add_11 : decode b_AL_add 11 = .ok (.aload_n 1, 1) := by decide +kernel
theorem d_AL_add_12 : decode b_AL_add 12 = .ok (.aload_n 0, 1) := by decide +kernel
theorem d_AL_add_13 : decode b_AL_add 13 = .ok (.getfield 9, 3) := by decide +kernel
theorem d_AL_add_16 : decode b_AL_add 16 = .ok (.aload_n 0, 1) := by decide +kernel
theorem d_AL_add_17 : decode b_AL_add 17 = .ok (.getfield 48, 3) := by decide +kernel
theorem d_AL_add_20 : decode b_AL_add 20 = .ok (.invokevirtual 131, 3) := by decide +kernel
theorem d_AL_add_23 : decode b_AL_add 23 = .ok (.iconst 1, 1) := by decide +kernel
theorem d_AL_add_24 : decode b_AL_add 24 = .ok (.ireturn, 1) := by decide +kernel
theorem d_AL_add2_0 : decode b_AL_add2 0 = .ok (.iload_n 3, 1) := by decide +kernel
theorem d_AL_add2_1 : decode b_AL_add2 1 = .ok (.aload_n 2, 1) := by decide +kernel
theorem d_AL_add2_2 : decode b_AL_add2 2 = .ok (.arraylength, 1) := by decide +kernel
theorem d_AL_add2_3 : decode b_AL_add2 3 = .ok (.if_icmp .ne 8, 3) := by decide +kernel
theorem d_AL_add2_6 : decode b_AL_add2 6 = .ok (.aload_n 0, 1) := by decide +kernel
theorem d_AL_add2_7 : decode b_AL_add2 7 = .ok (.invokevirtual 129, 3) := by decide +kernel
theorem d_AL_add2_10 : decode b_AL_add2 10 = .ok (.astore_n 2, 1) := by decide +kernel
theorem d_AL_add2_11 : decode b_AL_add2 11 = .ok (.aload_n 2, 1) := by decide +kernel
theorem d_AL_add2_12 : decode b_AL_add2 12 = .ok (.iload_n 3, 1) := by decide +kernel
theorem d_AL_add2_13 : decode b_AL_add2 13 = .ok (.aload_n 1, 1) := by decide +kernel
theorem d_AL_add2_14 : decode b_AL_add2 14 = .ok (.aastore, 1) := by decide +kernel
theorem d_AL_add2_15 : decode b_AL_add2 15 = .ok (.aload_n 0, 1) := by decide +kernel
theorem d_AL_add2_16 : decode b_AL_add2 16 = .ok (.iload_n 3, 1) := by decide +kernel
theorem d_AL_add2_17 : decode b_AL_add2 17 = .ok (.iconst 1, 1) := by decide +kernel
theorem d_AL_add2_18 : decode b_AL_add2 18 = .ok (.iadd, 1) := by decide +kernel
theorem d_AL_add2_19 : decode b_AL_add2 19 = .ok (.putfield 48, 3) := by decide +kernel
theorem d_AL_add2_22 : decode b_AL_add2 22 = .ok (.return_, 1) := by decide +kernel
theorem d_AL_grow_0 : decode b_AL_grow 0 = .ok (.aload_n 0, 1) := by decide +kernel
theorem d_AL_grow_1 : decode b_AL_grow 1 = .ok (.aload_n 0, 1) := by decide +kernel
theorem d_AL_grow_2 : decode b_AL_grow 2 = .ok (.getfield 48, 3) := by decide +kernel
theorem d_AL_grow_5 : decode b_AL_grow 5 = .ok (.iconst 1, 1) := by decide +kernel
theorem d_AL_grow_6 : decode b_AL_grow 6 = .ok (.iadd, 1) := by decide +kernel
theorem d_AL_grow_7 : decode b_AL_grow 7 = .ok (.invokevirtual 69, 3) := by decide +kernel
theorem d_AL_grow_10 : decode b_AL_grow 10 = .ok (.areturn, 1) := by decide +kernel
theorem d_AL_grow2_0 : decode b_AL_grow2 0 = .ok (.aload_n 0, 1) := by decide +kernel
theorem d_AL_grow2_1 : decode b_AL_grow2 1 = .ok (.getfield 9, 3) := by decide +kernel
theorem d_AL_grow2_4 : decode b_AL_grow2 4 = .ok (.arraylength, 1) := by decide +kernel
theorem d_AL_grow2_5 : decode b_AL_grow2 5 = .ok (.istore_n 2, 1) := by decide +kernel
theorem d_AL_grow2_6 : decode b_AL_grow2 6 = .ok (.iload_n 2, 1) := by decide +kernel
theorem d_AL_grow2_7 : decode b_AL_grow2 7 = .ok (.ifCond .gt 13, 3) := by decide +kernel
theorem d_AL_grow2_10 : decode b_AL_grow2 10 = .ok (.aload_n 0, 1) := by decide +kernel
theorem d_AL_grow2_11 : decode b_AL_grow2 11 = .ok (.getfield 9, 3) := by decide +kernel
theorem d_AL_grow2_14 : decode b_AL_grow2 14 = .ok (.getstatic 39, 3) := by decide +kernel
theorem d_AL_grow2_17 : decode b_AL_grow2 17 = .ok (.if_acmp .eq 28, 3) := by decide +kernel
theorem d_AL_grow2_20 : decode b_AL_grow2 20 = .ok (.iload_n 2, 1) := by decide +kernel
theorem d_AL_grow2_21 : decode b_AL_grow2 21 = .ok (.iload_n 1, 1) := by decide +kernel
theorem d_AL_grow2_22 : decode b_AL_grow2 22 = .ok (.iload_n 2, 1) := by decide +kernel
theorem d_AL_grow2_23 : decode b_AL_grow2 23 = .ok (.isub, 1) := by decide +kernel
theorem d_AL_grow2_24 : decode b_AL_grow2 24 = .ok (.iload_n 2, 1) := by decide +kernel
theorem d_AL_grow2_25 : decode b_AL_grow2 25 = .ok (.iconst 1, 1) := by decide +kernel
theorem d_AL_grow2_26 : decode b_AL_grow2 26 = .ok (.ishr, 1) := by decide +kernel
theorem d_AL_grow2_27 : decode b_AL_grow2 27 = .ok (.invokestatic 73, 3) := by decide +kernel
theorem d_AL_grow2_30 : decode b_AL_grow2 30 = .ok (.istore_n 3, 1) := by decide +kernel
theorem d_AL_grow2_31 : decode b_AL_grow2 31 = .ok (.aload_n 0, 1) := by decide +kernel
theorem d_AL_grow2_32 : decode b_AL_grow2 32 = .ok (.aload_n 0, 1) := by decide +kernel
theorem d_AL_grow2_33 : decode b_AL_grow2 33 = .ok (.getfield 9, 3) := by decide +kernel
theorem d_AL_grow2_36 : decode b_AL_grow2 36 = .ok (.iload_n 3, 1) := by decide +kernel
theorem d_AL_grow2_37 : decode b_AL_grow2 37 = .ok (.invokestatic 66, 3) := by decide +kernel
theorem d_AL_grow2_40 : decode b_AL_grow2 40 = .ok (.dup_x1, 1) := by decide +kernel
theorem d_AL_grow2_41 : decode b_AL_grow2 41 = .ok (.putfield 9, 3) := by decide +kernel
theorem d_AL_grow2_44 : decode b_AL_grow2 44 = .ok (.areturn, 1) := by decide +kernel
theorem d_AL_grow2_45 : decode b_AL_grow2 45 = .ok (.aload_n 0, 1) := by decide +kernel
theorem d_AL_grow2_46 : decode b_AL_grow2 46 = .ok (.bipush 10, 2) := by decide +kernel
theorem d_AL_grow2_48 : decode b_AL_grow2 48 = .ok (.iload_n 1, 1) := by decide +kernel
theorem d_AL_grow2_49 : decode b_AL_grow2 49 = .ok (.invokestatic 79, 3) := by decide +kernel
theorem d_AL_grow2_52 : decode b_AL_grow2 52 = .ok (.anewarray 7, 3) := by decide +kernel
theorem d_AL_grow2_55 : decode b_AL_grow2 55 = .ok (.dup_x1, 1) := by decide +kernel
theorem d_AL_grow2_56 : decode b_AL_grow2 56 = .ok (.putfield 9, 3) := by decide +kernel
theorem d_AL_grow2_59 : decode b_AL_grow2 59 = .ok (.areturn, 1) := by decide +kernel
theorem d_ASup_newLength_0 : decode b_ASup_newLength 0 = .ok (.iload_n 0, 1) := by decide +kernel
theorem d_ASup_newLength_1 : decode b_ASup_newLength 1 = .ok (.iload_n 1, 1) := by decide +kernel
theorem d_ASup_newLength_2 : decode b_ASup_newLength 2 = .ok (.iload_n 2, 1) := by decide +kernel
theorem d_ASup_newLength_3 : decode b_ASup_newLength 3 = .ok (.invokestatic 194, 3) := by decide +kernel
theorem d_ASup_newLength_6 : decode b_ASup_newLength 6 = .ok (.iadd, 1) := by decide +kernel
theorem d_ASup_newLength_7 : decode b_ASup_newLength 7 = .ok (.istore_n 3, 1) := by decide +kernel
theorem d_ASup_newLength_8 : decode b_ASup_newLength 8 = .ok (.iconst 0, 1) := by decide +kernel
theorem d_ASup_newLength_9 : decode b_ASup_newLength 9 = .ok (.iload_n 3, 1) := by decide +kernel
theorem d_ASup_newLength_10 : decode b_ASup_newLength 10 = .ok (.if_icmp .ge 11, 3) := by decide +kernel
theorem d_ASup_newLength_13 : decode b_ASup_newLength 13 = .ok (.iload_n 3, 1) := by decide +kernel
theorem d_ASup_newLength_14 : decode b_ASup_newLength 14 = .ok (.ldc 200, 2) := by decide +kernel
theorem d_ASup_newLength_16 : decode b_ASup_newLength 16 = .ok (.if_icmp .gt 5, 3) := by decide +kernel
theorem d_ASup_newLength_19 : decode b_ASup_newLength 19 = .ok (.iload_n 3, 1) := by decide +kernel
theorem d_ASup_newLength_20 : decode b_ASup_newLength 20 = .ok (.ireturn, 1) := by decide +kernel
theorem d_ASup_newLength_21 : decode b_ASup_newLength 21 = .ok (.iload_n 0, 1) := by decide +kernel
theorem d_ASup_newLength_22 : decode b_ASup_newLength 22 = .ok (.iload_n 1, 1) := by decide +kernel
theorem d_ASup_newLength_23 : decode b_ASup_newLength 23 = .ok (.invokestatic 201, 3) := by decide +kernel
theorem d_ASup_newLength_26 : decode b_ASup_newLength 26 = .ok (.ireturn, 1) := by decide +kernel
theorem d_Math_max_0 : decode b_Math_max 0 = .ok (.iload_n 0, 1) := by decide +kernel
theorem d_Math_max_1 : decode b_Math_max 1 = .ok (.iload_n 1, 1) := by decide +kernel
theorem d_Math_max_2 : decode b_Math_max 2 = .ok (.if_icmp .lt 7, 3) := by decide +kernel
theorem d_Math_max_5 : decode b_Math_max 5 = .ok (.iload_n 0, 1) := by decide +kernel
theorem d_Math_max_6 : decode b_Math_max 6 = .ok (.goto 4, 3) := by decide +kernel
theorem d_Math_max_9 : decode b_Math_max 9 = .ok (.iload_n 1, 1) := by decide +kernel
theorem d_Math_max_10 : decode b_Math_max 10 = .ok (.ireturn, 1) := by decide +kernel
theorem d_ASup_hugeLength_0 : decode b_ASup_hugeLength 0 = .ok (.iload_n 0, 1) := by decide +kernel
theorem d_ASup_hugeLength_1 : decode b_ASup_hugeLength 1 = .ok (.iload_n 1, 1) := by decide +kernel
theorem d_ASup_hugeLength_2 : decode b_ASup_hugeLength 2 = .ok (.iadd, 1) := by decide +kernel
theorem d_ASup_hugeLength_3 : decode b_ASup_hugeLength 3 = .ok (.istore_n 2, 1) := by decide +kernel
theorem d_ASup_hugeLength_4 : decode b_ASup_hugeLength 4 = .ok (.iload_n 2, 1) := by decide +kernel
theorem d_ASup_hugeLength_5 : decode b_ASup_hugeLength 5 = .ok (.ifCond .ge 44, 3) := by decide +kernel
theorem d_ASup_hugeLength_8 : decode b_ASup_hugeLength 8 = .ok (.new 204, 3) := by decide +kernel
theorem d_ASup_hugeLength_11 : decode b_ASup_hugeLength 11 = .ok (.dup, 1) := by decide +kernel
theorem d_ASup_hugeLength_12 : decode b_ASup_hugeLength 12 = .ok (.new 89, 3) := by decide +kernel
theorem d_ASup_hugeLength_15 : decode b_ASup_hugeLength 15 = .ok (.dup, 1) := by decide +kernel
theorem d_ASup_hugeLength_16 : decode b_ASup_hugeLength 16 = .ok (.invokespecial 91, 3) := by decide +kernel
theorem d_ASup_hugeLength_19 : decode b_ASup_hugeLength 19 = .ok (.ldc 206, 2) := by decide +kernel
theorem d_ASup_hugeLength_21 : decode b_ASup_hugeLength 21 = .ok (.invokevirtual 94, 3) := by decide +kernel
theorem d_ASup_hugeLength_24 : decode b_ASup_hugeLength 24 = .ok (.iload_n 0, 1) := by decide +kernel
theorem d_ASup_hugeLength_25 : decode b_ASup_hugeLength 25 = .ok (.invokevirtual 98, 3) := by decide +kernel
theorem d_ASup_hugeLength_28 : decode b_ASup_hugeLength 28 = .ok (.ldc 208, 2) := by decide +kernel
theorem d_ASup_hugeLength_30 : decode b_ASup_hugeLength 30 = .ok (.invokevirtual 94, 3) := by decide +kernel
theorem d_ASup_hugeLength_33 : decode b_ASup_hugeLength 33 = .ok (.iload_n 1, 1) := by decide +kernel
theorem d_ASup_hugeLength_34 : decode b_ASup_hugeLength 34 = .ok (.invokevirtual 98, 3) := by decide +kernel
theorem d_ASup_hugeLength_37 : decode b_ASup_hugeLength 37 = .ok (.ldc 210, 2) := by decide +kernel
theorem d_ASup_hugeLength_39 : decode b_ASup_hugeLength 39 = .ok (.invokevirtual 94, 3) := by decide +kernel
theorem d_ASup_hugeLength_42 : decode b_ASup_hugeLength 42 = .ok (.invokevirtual 101, 3) := by decide +kernel
theorem d_ASup_hugeLength_45 : decode b_ASup_hugeLength 45 = .ok (.invokespecial 212, 3) := by decide +kernel
theorem d_ASup_hugeLength_48 : decode b_ASup_hugeLength 48 = .ok (.athrow, 1) := by decide +kernel
theorem d_ASup_hugeLength_49 : decode b_ASup_hugeLength 49 = .ok (.iload_n 2, 1) := by decide +kernel
theorem d_ASup_hugeLength_50 : decode b_ASup_hugeLength 50 = .ok (.ldc 200, 2) := by decide +kernel
theorem d_ASup_hugeLength_52 : decode b_ASup_hugeLength 52 = .ok (.if_icmp .gt 6, 3) := by decide +kernel
theorem d_ASup_hugeLength_55 : decode b_ASup_hugeLength 55 = .ok (.ldc 200, 2) := by decide +kernel
theorem d_ASup_hugeLength_57 : decode b_ASup_hugeLength 57 = .ok (.ireturn, 1) := by decide +kernel
theorem d_ASup_hugeLength_58 : decode b_ASup_hugeLength 58 = .ok (.iload_n 2, 1) := by decide +kernel
theorem d_ASup_hugeLength_59 : decode b_ASup_hugeLength 59 = .ok (.ireturn, 1) := by decide +kernel
theorem d_Arrs_copyOf_0 : decode b_Arrs_copyOf 0 = .ok (.aload_n 0, 1) := by decide +kernel
theorem d_Arrs_copyOf_1 : decode b_Arrs_copyOf 1 = .ok (.iload_n 1, 1) := by decide +kernel
theorem d_Arrs_copyOf_2 : decode b_Arrs_copyOf 2 = .ok (.aload_n 0, 1) := by decide +kernel
theorem d_Arrs_copyOf_3 : decode b_Arrs_copyOf 3 = .ok (.invokevirtual 86, 3) := by decide +kernel
theorem d_Arrs_copyOf_6 : decode b_Arrs_copyOf 6 = .ok (.invokestatic 300, 3) := by decide +kernel
theorem d_Arrs_copyOf_9 : decode b_Arrs_copyOf 9 = .ok (.areturn, 1) := by decide +kernel
theorem d_Arrs_copyOf2_0 : decode b_Arrs_copyOf2 0 = .ok (.aload_n 2, 1) := by decide +kernel
theorem d_Arrs_copyOf2_1 : decode b_Arrs_copyOf2 1 = .ok (.ldc 110, 2) := by decide +kernel
theorem d_Arrs_copyOf2_3 : decode b_Arrs_copyOf2 3 = .ok (.if_acmp .ne 10, 3) := by decide +kernel
theorem d_Arrs_copyOf2_6 : decode b_Arrs_copyOf2 6 = .ok (.iload_n 1, 1) := by decide +kernel
theorem d_Arrs_copyOf2_7 : decode b_Arrs_copyOf2 7 = .ok (.anewarray 2, 3) := by decide +kernel
theorem d_Arrs_copyOf2_10 : decode b_Arrs_copyOf2 10 = .ok (.goto 14, 3) := by decide +kernel
theorem d_Arrs_copyOf2_13 : decode b_Arrs_copyOf2 13 = .ok (.aload_n 2, 1) := by decide +kernel
theorem d_Arrs_copyOf2_14 : decode b_Arrs_copyOf2 14 = .ok (.invokevirtual 90, 3) := by decide +kernel
theorem d_Arrs_copyOf2_17 : decode b_Arrs_copyOf2 17 = .ok (.iload_n 1, 1) := by decide +kernel
theorem d_Arrs_copyOf2_18 : decode b_Arrs_copyOf2 18 = .ok (.invokestatic 95, 3) := by decide +kernel
theorem d_Arrs_copyOf2_21 : decode b_Arrs_copyOf2 21 = .ok (.checkcast 110, 3) := by decide +kernel
theorem d_Arrs_copyOf2_24 : decode b_Arrs_copyOf2 24 = .ok (.astore_n 3, 1) := by decide +kernel
theorem d_Arrs_copyOf2_25 : decode b_Arrs_copyOf2 25 = .ok (.aload_n 0, 1) := by decide +kernel
theorem d_Arrs_copyOf2_26 : decode b_Arrs_copyOf2 26 = .ok (.iconst 0, 1) := by decide +kernel
theorem d_Arrs_copyOf2_27 : decode b_Arrs_copyOf2 27 = .ok (.aload_n 3, 1) := by decide +kernel
theorem d_Arrs_copyOf2_28 : decode b_Arrs_copyOf2 28 = .ok (.iconst 0, 1) := by decide +kernel
theorem d_Arrs_copyOf2_29 : decode b_Arrs_copyOf2 29 = .ok (.aload_n 0, 1) := by decide +kernel
theorem d_Arrs_copyOf2_30 : decode b_Arrs_copyOf2 30 = .ok (.arraylength, 1) := by decide +kernel
theorem d_Arrs_copyOf2_31 : decode b_Arrs_copyOf2 31 = .ok (.iload_n 1, 1) := by decide +kernel
theorem d_Arrs_copyOf2_32 : decode b_Arrs_copyOf2 32 = .ok (.invokestatic 304, 3) := by decide +kernel
theorem d_Arrs_copyOf2_35 : decode b_Arrs_copyOf2 35 = .ok (.invokestatic 150, 3) := by decide +kernel
theorem d_Arrs_copyOf2_38 : decode b_Arrs_copyOf2 38 = .ok (.aload_n 3, 1) := by decide +kernel
theorem d_Arrs_copyOf2_39 : decode b_Arrs_copyOf2 39 = .ok (.areturn, 1) := by decide +kernel
theorem d_Math_min_0 : decode b_Math_min 0 = .ok (.iload_n 0, 1) := by decide +kernel
theorem d_Math_min_1 : decode b_Math_min 1 = .ok (.iload_n 1, 1) := by decide +kernel
theorem d_Math_min_2 : decode b_Math_min 2 = .ok (.if_icmp .gt 7, 3) := by decide +kernel
theorem d_Math_min_5 : decode b_Math_min 5 = .ok (.iload_n 0, 1) := by decide +kernel
theorem d_Math_min_6 : decode b_Math_min 6 = .ok (.goto 4, 3) := by decide +kernel
theorem d_Math_min_9 : decode b_Math_min 9 = .ok (.iload_n 1, 1) := by decide +kernel
theorem d_Math_min_10 : decode b_Math_min 10 = .ok (.ireturn, 1) := by decide +kernel
theorem d_BG_put_0 : decode b_BG_put 0 = .ok (.aload_n 0, 1) := by decide +kernel
theorem d_BG_put_1 : decode b_BG_put 1 = .ok (.iload_n 1, 1) := by decide +kernel
theorem d_BG_put_2 : decode b_BG_put 2 = .ok (.invokevirtual 41, 3) := by decide +kernel
theorem d_BG_put_5 : decode b_BG_put 5 = .ok (.ifCond .eq 10, 3) := by decide +kernel
theorem d_BG_put_8 : decode b_BG_put 8 = .ok (.iload_n 2, 1) := by decide +kernel
theorem d_BG_put_9 : decode b_BG_put 9 = .ok (.invokestatic 44, 3) := by decide +kernel
theorem d_BG_put_12 : decode b_BG_put 12 = .ok (.ifCond .ne 5, 3) := by decide +kernel
theorem d_BG_put_15 : decode b_BG_put 15 = .ok (.iconst (-1), 1) := by decide +kernel
theorem d_BG_put_16 : decode b_BG_put 16 = .ok (.ireturn, 1) := by decide +kernel
theorem d_BG_put_17 : decode b_BG_put 17 = .ok (.aload_n 0, 1) := by decide +kernel
theorem d_BG_put_18 : decode b_BG_put 18 = .ok (.new 47, 3) := by decide +kernel
theorem d_BG_put_21 : decode b_BG_put 21 = .ok (.dup, 1) := by decide +kernel
theorem d_BG_put_22 : decode b_BG_put 22 = .ok (.aload_n 0, 1) := by decide +kernel
theorem d_BG_put_23 : decode b_BG_put 23 = .ok (.getfield 16, 3) := by decide +kernel
theorem d_BG_put_26 : decode b_BG_put 26 = .ok (.iload_n 1, 1) := by decide +kernel
theorem d_BG_put_27 : decode b_BG_put 27 = .ok (.invokevirtual 49, 3) := by decide +kernel
theorem d_BG_put_30 : decode b_BG_put 30 = .ok (.checkcast 32, 3) := by decide +kernel
theorem d_BG_put_33 : decode b_BG_put 33 = .ok (.iload_n 2, 1) := by decide +kernel
theorem d_BG_put_34 : decode b_BG_put 34 = .ok (.invokespecial 53, 3) := by decide +kernel
theorem d_BG_put_37 : decode b_BG_put 37 = .ok (.invokevirtual 56, 3) := by decide +kernel
theorem d_BG_put_40 : decode b_BG_put 40 = .ok (.ireturn, 1) := by decide +kernel
theorem d_BG_isBox_0 : decode b_BG_isBox 0 = .ok (.iload_n 1, 1) := by decide +kernel
theorem d_BG_isBox_1 : decode b_BG_isBox 1 = .ok (.ifCond .lt 18, 3) := by decide +kernel
theorem d_BG_isBox_4 : decode b_BG_isBox 4 = .ok (.iload_n 1, 1) := by decide +kernel
theorem d_BG_isBox_5 : decode b_BG_isBox 5 = .ok (.aload_n 0, 1) := by decide +kernel
theorem d_BG_isBox_6 : decode b_BG_isBox 6 = .ok (.getfield 16, 3) := by decide +kernel
theorem d_BG_isBox_9 : decode b_BG_isBox 9 = .ok (.invokevirtual 27, 3) := by decide +kernel
theorem d_BG_isBox_12 : decode b_BG_isBox 12 = .ok (.if_icmp .ge 7, 3) := by decide +kernel
theorem d_BG_isBox_15 : decode b_BG_isBox 15 = .ok (.iconst 1, 1) := by decide +kernel
theorem d_BG_isBox_16 : decode b_BG_isBox 16 = .ok (.goto 4, 3) := by decide +kernel
theorem d_BG_isBox_19 : decode b_BG_isBox 19 = .ok (.iconst 0, 1) := by decide +kernel
theorem d_BG_isBox_20 : decode b_BG_isBox 20 = .ok (.ireturn, 1) := by decide +kernel
theorem d_BG_isLength_0 : decode b_BG_isLength 0 = .ok (.iload_n 0, 1) := by decide +kernel
theorem d_BG_isLength_1 : decode b_BG_isLength 1 = .ok (.ldc 141, 2) := by decide +kernel
theorem d_BG_isLength_3 : decode b_BG_isLength 3 = .ok (.if_icmp .lt 13, 3) := by decide +kernel
theorem d_BG_isLength_6 : decode b_BG_isLength 6 = .ok (.iload_n 0, 1) := by decide +kernel
theorem d_BG_isLength_7 : decode b_BG_isLength 7 = .ok (.ldc 142, 2) := by decide +kernel
theorem d_BG_isLength_9 : decode b_BG_isLength 9 = .ok (.if_icmp .gt 7, 3) := by decide +kernel
theorem d_BG_isLength_12 : decode b_BG_isLength 12 = .ok (.iconst 1, 1) := by decide +kernel
theorem d_BG_isLength_13 : decode b_BG_isLength 13 = .ok (.goto 4, 3) := by decide +kernel
theorem d_BG_isLength_16 : decode b_BG_isLength 16 = .ok (.iconst 0, 1) := by decide +kernel
theorem d_BG_isLength_17 : decode b_BG_isLength 17 = .ok (.ireturn, 1) := by decide +kernel
theorem d_AL_get_0 : decode b_AL_get 0 = .ok (.iload_n 1, 1) := by decide +kernel
theorem d_AL_get_1 : decode b_AL_get 1 = .ok (.aload_n 0, 1) := by decide +kernel
theorem d_AL_get_2 : decode b_AL_get 2 = .ok (.getfield 48, 3) := by decide +kernel
theorem d_AL_get_5 : decode b_AL_get 5 = .ok (.invokestatic 118, 3) := by decide +kernel
theorem d_AL_get_8 : decode b_AL_get 8 = .ok (.pop, 1) := by decide +kernel
theorem d_AL_get_9 : decode b_AL_get 9 = .ok (.aload_n 0, 1) := by decide +kernel
theorem d_AL_get_10 : decode b_AL_get 10 = .ok (.iload_n 1, 1) := by decide +kernel
theorem d_AL_get_11 : decode b_AL_get 11 = .ok (.invokevirtual 123, 3) := by decide +kernel
theorem d_AL_get_14 : decode b_AL_get 14 = .ok (.areturn, 1) := by decide +kernel
theorem d_Objs_checkIndex_0 : decode b_Objs_checkIndex 0 = .ok (.iload_n 0, 1) := by decide +kernel
theorem d_Objs_checkIndex_1 : decode b_Objs_checkIndex 1 = .ok (.iload_n 1, 1) := by decide +kernel
theorem d_Objs_checkIndex_2 : decode b_Objs_checkIndex 2 = .ok (.aconst_null, 1) := by decide +kernel
theorem d_Objs_checkIndex_3 : decode b_Objs_checkIndex 3 = .ok (.invokestatic 105, 3) := by decide +kernel
theorem d_Objs_checkIndex_6 : decode b_Objs_checkIndex 6 = .ok (.ireturn, 1) := by decide +kernel
theorem d_Pre_checkIndex_0 : decode b_Pre_checkIndex 0 = .ok (.iload_n 0, 1) := by decide +kernel
theorem d_Pre_checkIndex_1 : decode b_Pre_checkIndex 1 = .ok (.ifCond .lt 8, 3) := by decide +kernel
theorem d_Pre_checkIndex_4 : decode b_Pre_checkIndex 4 = .ok (.iload_n 0, 1) := by decide +kernel
theorem d_Pre_checkIndex_5 : decode b_Pre_checkIndex 5 = .ok (.iload_n 1, 1) := by decide +kernel
theorem d_Pre_checkIndex_6 : decode b_Pre_checkIndex 6 = .ok (.if_icmp .lt 10, 3) := by decide +kernel
theorem d_Pre_checkIndex_9 : decode b_Pre_checkIndex 9 = .ok (.aload_n 2, 1) := by decide +kernel
theorem d_Pre_checkIndex_10 : decode b_Pre_checkIndex 10 = .ok (.iload_n 0, 1) := by decide +kernel
theorem d_Pre_checkIndex_11 : decode b_Pre_checkIndex 11 = .ok (.iload_n 1, 1) := by decide +kernel
theorem d_Pre_checkIndex_12 : decode b_Pre_checkIndex 12 = .ok (.invokestatic 95, 3) := by decide +kernel
theorem d_Pre_checkIndex_15 : decode b_Pre_checkIndex 15 = .ok (.athrow, 1) := by decide +kernel
theorem d_Pre_checkIndex_16 : decode b_Pre_checkIndex 16 = .ok (.iload_n 0, 1) := by decide +kernel
theorem d_Pre_checkIndex_17 : decode b_Pre_checkIndex 17 = .ok (.ireturn, 1) := by decide +kernel
theorem d_AL_elementData_0 : decode b_AL_elementData 0 = .ok (.aload_n 0, 1) := by decide +kernel
theorem d_AL_elementData_1 : decode b_AL_elementData 1 = .ok (.getfield 9, 3) := by decide +kernel
theorem d_AL_elementData_4 : decode b_AL_elementData 4 = .ok (.iload_n 1, 1) := by decide +kernel
theorem d_AL_elementData_5 : decode b_AL_elementData 5 = .ok (.aaload, 1) := by decide +kernel
theorem d_AL_elementData_6 : decode b_AL_elementData 6 = .ok (.areturn, 1) := by decide +kernel
theorem d_Put_init_0 : decode b_Put_init 0 = .ok (.aload_n 0, 1) := by decide +kernel
theorem d_Put_init_1 : decode b_Put_init 1 = .ok (.iconst 1, 1) := by decide +kernel
theorem d_Put_init_2 : decode b_Put_init 2 = .ok (.aload_n 1, 1) := by decide +kernel
theorem d_Put_init_3 : decode b_Put_init 3 = .ok (.getfield 1, 3) := by decide +kernel
theorem d_Put_init_6 : decode b_Put_init 6 = .ok (.invokespecial 7, 3) := by decide +kernel
theorem d_Put_init_9 : decode b_Put_init 9 = .ok (.aload_n 0, 1) := by decide +kernel
theorem d_Put_init_10 : decode b_Put_init 10 = .ok (.aload_n 1, 1) := by decide +kernel
theorem d_Put_init_11 : decode b_Put_init 11 = .ok (.getfield 13, 3) := by decide +kernel
theorem d_Put_init_14 : decode b_Put_init 14 = .ok (.iload_n 2, 1) := by decide +kernel
theorem d_Put_init_15 : decode b_Put_init 15 = .ok (.isub, 1) := by decide +kernel
theorem d_Put_init_16 : decode b_Put_init 16 = .ok (.putfield 16, 3) := by decide +kernel
theorem d_Put_init_19 : decode b_Put_init 19 = .ok (.aload_n 0, 1) := by decide +kernel
theorem d_Put_init_20 : decode b_Put_init 20 = .ok (.aload_n 1, 1) := by decide +kernel
theorem d_Put_init_21 : decode b_Put_init 21 = .ok (.getfield 19, 3) := by decide +kernel
theorem d_Put_init_24 : decode b_Put_init 24 = .ok (.iload_n 2, 1) := by decide +kernel
theorem d_Put_init_25 : decode b_Put_init 25 = .ok (.iadd, 1) := by decide +kernel
theorem d_Put_init_26 : decode b_Put_init 26 = .ok (.putfield 22, 3) := by decide +kernel
theorem d_Put_init_29 : decode b_Put_init 29 = .ok (.return_, 1) := by decide +kernel
theorem d_Item_init_0 : decode b_Item_init 0 = .ok (.aload_n 0, 1) := by decide +kernel
theorem d_Item_init_1 : decode b_Item_init 1 = .ok (.invokespecial 1, 3) := by decide +kernel
theorem d_Item_init_4 : decode b_Item_init 4 = .ok (.aload_n 0, 1) := by decide +kernel
theorem d_Item_init_5 : decode b_Item_init 5 = .ok (.iload_n 1, 1) := by decide +kernel
theorem d_Item_init_6 : decode b_Item_init 6 = .ok (.putfield 7, 3) := by decide +kernel
theorem d_Item_init_9 : decode b_Item_init 9 = .ok (.aload_n 0, 1) := by decide +kernel
theorem d_Item_init_10 : decode b_Item_init 10 = .ok (.iload_n 2, 1) := by decide +kernel
theorem d_Item_init_11 : decode b_Item_init 11 = .ok (.putfield 13, 3) := by decide +kernel
theorem d_Item_init_14 : decode b_Item_init 14 = .ok (.return_, 1) := by decide +kernel
theorem d_BG_append_0 : decode b_BG_append 0 = .ok (.aload_n 0, 1) := by decide +kernel
theorem d_BG_append_1 : decode b_BG_append 1 = .ok (.getfield 10, 3) := by decide +kernel
theorem d_BG_append_4 : decode b_BG_append 4 = .ok (.invokevirtual 27, 3) := by decide +kernel
theorem d_BG_append_7 : decode b_BG_append 7 = .ok (.bipush 40, 2) := by decide +kernel
theorem d_BG_append_9 : decode b_BG_append 9 = .ok (.if_icmp .lt 6, 3) := by decide +kernel
theorem d_BG_append_12 : decode b_BG_append 12 = .ok (.bipush (-2), 2) := by decide +kernel
theorem d_BG_append_14 : decode b_BG_append 14 = .ok (.ireturn, 1) := by decide +kernel
theorem d_BG_append_15 : decode b_BG_append 15 = .ok (.aload_n 0, 1) := by decide +kernel
theorem d_BG_append_16 : decode b_BG_append 16 = .ok (.getfield 10, 3) := by decide +kernel
theorem d_BG_append_19 : decode b_BG_append 19 = .ok (.aload_n 1, 1) := by decide +kernel
theorem d_BG_append_20 : decode b_BG_append 20 = .ok (.invokevirtual 37, 3) := by decide +kernel
theorem d_BG_append_23 : decode b_BG_append 23 = .ok (.pop, 1) := by decide +kernel
theorem d_BG_append_24 : decode b_BG_append 24 = .ok (.aload_n 0, 1) := by decide +kernel
theorem d_BG_append_25 : decode b_BG_append 25 = .ok (.getfield 10, 3) := by decide +kernel
theorem d_BG_append_28 : decode b_BG_append 28 = .ok (.invokevirtual 27, 3) := by decide +kernel
theorem d_BG_append_31 : decode b_BG_append 31 = .ok (.ireturn, 1) := by decide +kernel
theorem d_BG_glue_0 : decode b_BG_glue 0 = .ok (.iload_n 1, 1) := by decide +kernel
theorem d_BG_glue_1 : decode b_BG_glue 1 = .ok (.invokestatic 44, 3) := by decide +kernel
theorem d_BG_glue_4 : decode b_BG_glue 4 = .ok (.ifCond .eq 21, 3) := by decide +kernel
theorem d_BG_glue_7 : decode b_BG_glue 7 = .ok (.iload_n 2, 1) := by decide +kernel
theorem d_BG_glue_8 : decode b_BG_glue 8 = .ok (.iload_n 3, 1) := by decide +kernel
theorem d_BG_glue_9 : decode b_BG_glue 9 = .ok (.invokestatic 60, 3) := by decide +kernel
theorem d_BG_glue_12 : decode b_BG_glue 12 = .ok (.ifCond .eq 13, 3) := by decide +kernel
theorem d_BG_glue_15 : decode b_BG_glue 15 = .ok (.iload 4, 2) := by decide +kernel
theorem d_BG_glue_17 : decode b_BG_glue 17 = .ok (.iload 5, 2) := by decide +kernel
theorem d_BG_glue_19 : decode b_BG_glue 19 = .ok (.invokestatic 60, 3) := by decide +kernel
theorem d_BG_glue_22 : decode b_BG_glue 22 = .ok (.ifCond .ne 5, 3) := by decide +kernel
theorem d_BG_glue_25 : decode b_BG_glue 25 = .ok (.iconst (-1), 1) := by decide +kernel
theorem d_BG_glue_26 : decode b_BG_glue 26 = .ok (.ireturn, 1) := by decide +kernel
theorem d_BG_glue_27 : decode b_BG_glue 27 = .ok (.aload_n 0, 1) := by decide +kernel
theorem d_BG_glue_28 : decode b_BG_glue 28 = .ok (.new 64, 3) := by decide +kernel
theorem d_BG_glue_31 : decode b_BG_glue 31 = .ok (.dup, 1) := by decide +kernel
theorem d_BG_glue_32 : decode b_BG_glue 32 = .ok (.iload_n 1, 1) := by decide +kernel
theorem d_BG_glue_33 : decode b_BG_glue 33 = .ok (.iload_n 2, 1) := by decide +kernel
theorem d_BG_glue_34 : decode b_BG_glue 34 = .ok (.iload_n 3, 1) := by decide +kernel
theorem d_BG_glue_35 : decode b_BG_glue 35 = .ok (.iload 4, 2) := by decide +kernel
theorem d_BG_glue_37 : decode b_BG_glue 37 = .ok (.iload 5, 2) := by decide +kernel
theorem d_BG_glue_39 : decode b_BG_glue 39 = .ok (.new 66, 3) := by decide +kernel
theorem d_BG_glue_42 : decode b_BG_glue 42 = .ok (.dup, 1) := by decide +kernel
theorem d_BG_glue_43 : decode b_BG_glue 43 = .ok (.iconst 0, 1) := by decide +kernel
theorem d_BG_glue_44 : decode b_BG_glue 44 = .ok (.iconst 0, 1) := by decide +kernel
theorem d_BG_glue_45 : decode b_BG_glue 45 = .ok (.invokespecial 68, 3) := by decide +kernel
theorem d_BG_glue_48 : decode b_BG_glue 48 = .ok (.invokespecial 71, 3) := by decide +kernel
theorem d_BG_glue_51 : decode b_BG_glue 51 = .ok (.invokevirtual 56, 3) := by decide +kernel
theorem d_BG_glue_54 : decode b_BG_glue 54 = .ok (.ireturn, 1) := by decide +kernel
theorem d_BG_isGiving_0 : decode b_BG_isGiving 0 = .ok (.iload_n 0, 1) := by decide +kernel
theorem d_BG_isGiving_1 : decode b_BG_isGiving 1 = .ok (.ifCond .lt 23, 3) := by decide +kernel
theorem d_BG_isGiving_4 : decode b_BG_isGiving 4 = .ok (.iload_n 0, 1) := by decide +kernel
theorem d_BG_isGiving_5 : decode b_BG_isGiving 5 = .ok (.sipush 1000, 3) := by decide +kernel
theorem d_BG_isGiving_8 : decode b_BG_isGiving 8 = .ok (.if_icmp .gt 16, 3) := by decide +kernel
theorem d_BG_isGiving_11 : decode b_BG_isGiving 11 = .ok (.iload_n 1, 1) := by decide +kernel
theorem d_BG_isGiving_12 : decode b_BG_isGiving 12 = .ok (.ifCond .lt 12, 3) := by decide +kernel
theorem d_BG_isGiving_15 : decode b_BG_isGiving 15 = .ok (.iload_n 1, 1) := by decide +kernel
theorem d_BG_isGiving_16 : decode b_BG_isGiving 16 = .ok (.iconst 3, 1) := by decide +kernel
theorem d_BG_isGiving_17 : decode b_BG_isGiving 17 = .ok (.if_icmp .gt 7, 3) := by decide +kernel
theorem d_BG_isGiving_20 : decode b_BG_isGiving 20 = .ok (.iconst 1, 1) := by decide +kernel
theorem d_BG_isGiving_21 : decode b_BG_isGiving 21 = .ok (.goto 4, 3) := by decide +kernel
theorem d_BG_isGiving_24 : decode b_BG_isGiving 24 = .ok (.iconst 0, 1) := by decide +kernel
theorem d_BG_isGiving_25 : decode b_BG_isGiving 25 = .ok (.ireturn, 1) := by decide +kernel
theorem d_Leaders_init_0 : decode b_Leaders_init 0 = .ok (.aload_n 0, 1) := by decide +kernel
theorem d_Leaders_init_1 : decode b_Leaders_init 1 = .ok (.invokespecial 1, 3) := by decide +kernel
theorem d_Leaders_init_4 : decode b_Leaders_init 4 = .ok (.aload_n 0, 1) := by decide +kernel
theorem d_Leaders_init_5 : decode b_Leaders_init 5 = .ok (.iload_n 1, 1) := by decide +kernel
theorem d_Leaders_init_6 : decode b_Leaders_init 6 = .ok (.putfield 7, 3) := by decide +kernel
theorem d_Leaders_init_9 : decode b_Leaders_init 9 = .ok (.aload_n 0, 1) := by decide +kernel
theorem d_Leaders_init_10 : decode b_Leaders_init 10 = .ok (.iload_n 2, 1) := by decide +kernel
theorem d_Leaders_init_11 : decode b_Leaders_init 11 = .ok (.putfield 13, 3) := by decide +kernel
theorem d_Leaders_init_14 : decode b_Leaders_init 14 = .ok (.return_, 1) := by decide +kernel
theorem d_Glue_init_0 : decode b_Glue_init 0 = .ok (.aload_n 0, 1) := by decide +kernel
theorem d_Glue_init_1 : decode b_Glue_init 1 = .ok (.iconst 2, 1) := by decide +kernel
theorem d_Glue_init_2 : decode b_Glue_init 2 = .ok (.iload_n 1, 1) := by decide +kernel
theorem d_Glue_init_3 : decode b_Glue_init 3 = .ok (.invokespecial 1, 3) := by decide +kernel
theorem d_Glue_init_6 : decode b_Glue_init 6 = .ok (.aload_n 0, 1) := by decide +kernel
theorem d_Glue_init_7 : decode b_Glue_init 7 = .ok (.iload_n 2, 1) := by decide +kernel
theorem d_Glue_init_8 : decode b_Glue_init 8 = .ok (.putfield 7, 3) := by decide +kernel
theorem d_Glue_init_11 : decode b_Glue_init 11 = .ok (.aload_n 0, 1) := by decide +kernel
theorem d_Glue_init_12 : decode b_Glue_init 12 = .ok (.iload_n 3, 1) := by decide +kernel
theorem d_Glue_init_13 : decode b_Glue_init 13 = .ok (.putfield 13, 3) := by decide +kernel
theorem d_Glue_init_16 : decode b_Glue_init 16 = .ok (.aload_n 0, 1) := by decide +kernel
theorem d_Glue_init_17 : decode b_Glue_init 17 = .ok (.iload 4, 2) := by decide +kernel
theorem d_Glue_init_19 : decode b_Glue_init 19 = .ok (.putfield 16, 3) := by decide +kernel
theorem d_Glue_init_22 : decode b_Glue_init 22 = .ok (.aload_n 0, 1) := by decide +kernel
theorem d_Glue_init_23 : decode b_Glue_init 23 = .ok (.iload 5, 2) := by decide +kernel
theorem d_Glue_init_25 : decode b_Glue_init 25 = .ok (.putfield 19, 3) := by decide +kernel
theorem d_Glue_init_28 : decode b_Glue_init 28 = .ok (.aload_n 0, 1) := by decide +kernel
theorem d_Glue_init_29 : decode b_Glue_init 29 = .ok (.aload 6, 2) := by decide +kernel
theorem d_Glue_init_31 : decode b_Glue_init 31 = .ok (.putfield 22, 3) := by decide +kernel
theorem d_Glue_init_34 : decode b_Glue_init 34 = .ok (.return_, 1) := by decide +kernel
theorem d_BG_kern_0 : decode b_BG_kern 0 = .ok (.iload_n 1, 1) := by decide +kernel
theorem d_BG_kern_1 : decode b_BG_kern 1 = .ok (.invokestatic 44, 3) := by decide +kernel
theorem d_BG_kern_4 : decode b_BG_kern 4 = .ok (.ifCond .ne 5, 3) := by decide +kernel
theorem d_BG_kern_7 : decode b_BG_kern 7 = .ok (.iconst (-1), 1) := by decide +kernel
theorem d_BG_kern_8 : decode b_BG_kern 8 = .ok (.ireturn, 1) := by decide +kernel
theorem d_BG_kern_9 : decode b_BG_kern 9 = .ok (.aload_n 0, 1) := by decide +kernel
theorem d_BG_kern_10 : decode b_BG_kern 10 = .ok (.new 74, 3) := by decide +kernel
theorem d_BG_kern_13 : decode b_BG_kern 13 = .ok (.dup, 1) := by decide +kernel
theorem d_BG_kern_14 : decode b_BG_kern 14 = .ok (.iload_n 1, 1) := by decide +kernel
theorem d_BG_kern_15 : decode b_BG_kern 15 = .ok (.invokespecial 76, 3) := by decide +kernel
theorem d_BG_kern_18 : decode b_BG_kern 18 = .ok (.invokevirtual 56, 3) := by decide +kernel
theorem d_BG_kern_21 : decode b_BG_kern 21 = .ok (.ireturn, 1) := by decide +kernel
theorem d_Kern_init_0 : decode b_Kern_init 0 = .ok (.aload_n 0, 1) := by decide +kernel
theorem d_Kern_init_1 : decode b_Kern_init 1 = .ok (.iconst 3, 1) := by decide +kernel
theorem d_Kern_init_2 : decode b_Kern_init 2 = .ok (.iload_n 1, 1) := by decide +kernel
theorem d_Kern_init_3 : decode b_Kern_init 3 = .ok (.invokespecial 1, 3) := by decide +kernel
theorem d_Kern_init_6 : decode b_Kern_init 6 = .ok (.return_, 1) := by decide +kernel
theorem d_BG_rule_0 : decode b_BG_rule 0 = .ok (.iload_n 1, 1) := by decide +kernel
theorem d_BG_rule_1 : decode b_BG_rule 1 = .ok (.invokestatic 23, 3) := by decide +kernel
theorem d_BG_rule_4 : decode b_BG_rule 4 = .ok (.ifCond .eq 17, 3) := by decide +kernel
theorem d_BG_rule_7 : decode b_BG_rule 7 = .ok (.iload_n 2, 1) := by decide +kernel
theorem d_BG_rule_8 : decode b_BG_rule 8 = .ok (.invokestatic 79, 3) := by decide +kernel
theorem d_BG_rule_11 : decode b_BG_rule 11 = .ok (.ifCond .eq 10, 3) := by decide +kernel
theorem d_BG_rule_14 : decode b_BG_rule 14 = .ok (.iload_n 3, 1) := by decide +kernel
theorem d_BG_rule_15 : decode b_BG_rule 15 = .ok (.invokestatic 79, 3) := by decide +kernel
theorem d_BG_rule_18 : decode b_BG_rule 18 = .ok (.ifCond .ne 5, 3) := by decide +kernel
theorem d_BG_rule_21 : decode b_BG_rule 21 = .ok (.iconst (-1), 1) := by decide +kernel
theorem d_BG_rule_22 : decode b_BG_rule 22 = .ok (.ireturn, 1) := by decide +kernel
theorem d_BG_rule_23 : decode b_BG_rule 23 = .ok (.aload_n 0, 1) := by decide +kernel
theorem d_BG_rule_24 : decode b_BG_rule 24 = .ok (.new 82, 3) := by decide +kernel
theorem d_BG_rule_27 : decode b_BG_rule 27 = .ok (.dup, 1) := by decide +kernel
theorem d_BG_rule_28 : decode b_BG_rule 28 = .ok (.iload_n 1, 1) := by decide +kernel
theorem d_BG_rule_29 : decode b_BG_rule 29 = .ok (.iload_n 2, 1) := by decide +kernel
theorem d_BG_rule_30 : decode b_BG_rule 30 = .ok (.iload_n 3, 1) := by decide +kernel
theorem d_BG_rule_31 : decode b_BG_rule 31 = .ok (.invokespecial 84, 3) := by decide +kernel
theorem d_BG_rule_34 : decode b_BG_rule 34 = .ok (.invokevirtual 56, 3) := by decide +kernel
theorem d_BG_rule_37 : decode b_BG_rule 37 = .ok (.ireturn, 1) := by decide +kernel
theorem d_BG_isExtentOrRunning_0 : decode b_BG_isExtentOrRunning 0 = .ok (.iload_n 0, 1) := by decide +kernel
theorem d_BG_isExtentOrRunning_1 : decode b_BG_isExtentOrRunning 1 = .ok (.ldc 143, 2) := by decide +kernel
theorem d_BG_isExtentOrRunning_3 : decode b_BG_isExtentOrRunning 3 = .ok (.if_icmp .eq 10, 3) := by decide +kernel
theorem d_BG_isExtentOrRunning_6 : decode b_BG_isExtentOrRunning 6 = .ok (.iload_n 0, 1) := by decide +kernel
theorem d_BG_isExtentOrRunning_7 : decode b_BG_isExtentOrRunning 7 = .ok (.invokestatic 23, 3) := by decide +kernel
theorem d_BG_isExtentOrRunning_10 : decode b_BG_isExtentOrRunning 10 = .ok (.ifCond .eq 7, 3) := by decide +kernel
theorem d_BG_isExtentOrRunning_13 : decode b_BG_isExtentOrRunning 13 = .ok (.iconst 1, 1) := by decide +kernel
theorem d_BG_isExtentOrRunning_14 : decode b_BG_isExtentOrRunning 14 = .ok (.goto 4, 3) := by decide +kernel
theorem d_BG_isExtentOrRunning_17 : decode b_BG_isExtentOrRunning 17 = .ok (.iconst 0, 1) := by decide +kernel
theorem d_BG_isExtentOrRunning_18 : decode b_BG_isExtentOrRunning 18 = .ok (.ireturn, 1) := by decide +kernel
theorem d_Rule_init_0 : decode b_Rule_init 0 = .ok (.aload_n 0, 1) := by decide +kernel
theorem d_Rule_init_1 : decode b_Rule_init 1 = .ok (.iconst 4, 1) := by decide +kernel
theorem d_Rule_init_2 : decode b_Rule_init 2 = .ok (.iload_n 1, 1) := by decide +kernel
theorem d_Rule_init_3 : decode b_Rule_init 3 = .ok (.invokespecial 3, 3) := by decide +kernel
theorem d_Rule_init_6 : decode b_Rule_init 6 = .ok (.aload_n 0, 1) := by decide +kernel
theorem d_Rule_init_7 : decode b_Rule_init 7 = .ok (.iload_n 2, 1) := by decide +kernel
theorem d_Rule_init_8 : decode b_Rule_init 8 = .ok (.putfield 9, 3) := by decide +kernel
theorem d_Rule_init_11 : decode b_Rule_init 11 = .ok (.aload_n 0, 1) := by decide +kernel
theorem d_Rule_init_12 : decode b_Rule_init 12 = .ok (.iload_n 3, 1) := by decide +kernel
theorem d_Rule_init_13 : decode b_Rule_init 13 = .ok (.putfield 15, 3) := by decide +kernel
theorem d_Rule_init_16 : decode b_Rule_init 16 = .ok (.return_, 1) := by decide +kernel
theorem d_BG_leaders_0 : decode b_BG_leaders 0 = .ok (.iload_n 1, 1) := by decide +kernel
theorem d_BG_leaders_1 : decode b_BG_leaders 1 = .ok (.iconst 1, 1) := by decide +kernel
theorem d_BG_leaders_2 : decode b_BG_leaders 2 = .ok (.if_icmp .lt 16, 3) := by decide +kernel
theorem d_BG_leaders_5 : decode b_BG_leaders 5 = .ok (.iload_n 1, 1) := by decide +kernel
theorem d_BG_leaders_6 : decode b_BG_leaders 6 = .ok (.iconst 3, 1) := by decide +kernel
theorem d_BG_leaders_7 : decode b_BG_leaders 7 = .ok (.if_icmp .gt 11, 3) := by decide +kernel
theorem d_BG_leaders_10 : decode b_BG_leaders 10 = .ok (.aload_n 0, 1) := by decide +kernel
theorem d_BG_leaders_11 : decode b_BG_leaders 11 = .ok (.iload_n 2, 1) := by decide +kernel
theorem d_BG_leaders_12 : decode b_BG_leaders 12 = .ok (.invokevirtual 41, 3) := by decide +kernel
theorem d_BG_leaders_15 : decode b_BG_leaders 15 = .ok (.ifCond .ne 5, 3) := by decide +kernel
theorem d_BG_leaders_18 : decode b_BG_leaders 18 = .ok (.iconst (-1), 1) := by decide +kernel
theorem d_BG_leaders_19 : decode b_BG_leaders 19 = .ok (.ireturn, 1) := by decide +kernel
theorem d_BG_leaders_20 : decode b_BG_leaders 20 = .ok (.aload_n 0, 1) := by decide +kernel
theorem d_BG_leaders_21 : decode b_BG_leaders 21 = .ok (.getfield 10, 3) := by decide +kernel
theorem d_BG_leaders_24 : decode b_BG_leaders 24 = .ok (.invokevirtual 87, 3) := by decide +kernel
theorem d_BG_leaders_27 : decode b_BG_leaders 27 = .ok (.ifCond .eq 6, 3) := by decide +kernel
theorem d_BG_leaders_30 : decode b_BG_leaders 30 = .ok (.bipush (-3), 2) := by decide +kernel
theorem d_BG_leaders_32 : decode b_BG_leaders 32 = .ok (.ireturn, 1) := by decide +kernel
theorem d_BG_leaders_33 : decode b_BG_leaders 33 = .ok (.aload_n 0, 1) := by decide +kernel
theorem d_BG_leaders_34 : decode b_BG_leaders 34 = .ok (.getfield 10, 3) := by decide +kernel
theorem d_BG_leaders_37 : decode b_BG_leaders 37 = .ok (.invokevirtual 27, 3) := by decide +kernel
theorem d_BG_leaders_40 : decode b_BG_leaders 40 = .ok (.iconst 1, 1) := by decide +kernel
theorem d_BG_leaders_41 : decode b_BG_leaders 41 = .ok (.isub, 1) := by decide +kernel
theorem d_BG_leaders_42 : decode b_BG_leaders 42 = .ok (.istore_n 3, 1) := by decide +kernel
theorem d_BG_leaders_43 : decode b_BG_leaders 43 = .ok (.aload_n 0, 1) := by decide +kernel
theorem d_BG_leaders_44 : decode b_BG_leaders 44 = .ok (.getfield 10, 3) := by decide +kernel
theorem d_BG_leaders_47 : decode b_BG_leaders 47 = .ok (.iload_n 3, 1) := by decide +kernel
theorem d_BG_leaders_48 : decode b_BG_leaders 48 = .ok (.invokevirtual 49, 3) := by decide +kernel
theorem d_BG_leaders_51 : decode b_BG_leaders 51 = .ok (.astore 5, 2) := by decide +kernel
theorem d_BG_leaders_53 : decode b_BG_leaders 53 = .ok (.aload 5, 2) := by decide +kernel
theorem d_BG_leaders_55 : decode b_BG_leaders 55 = .ok (.instanceof 64, 3) := by decide +kernel
theorem d_BG_leaders_58 : decode b_BG_leaders 58 = .ok (.ifCond .eq 48, 3) := by decide +kernel
theorem d_BG_leaders_61 : decode b_BG_leaders 61 = .ok (.aload 5, 2) := by decide +kernel
theorem d_BG_leaders_63 : decode b_BG_leaders 63 = .ok (.checkcast 64, 3) := by decide +kernel
theorem d_BG_leaders_66 : decode b_BG_leaders 66 = .ok (.astore 4, 2) := by decide +kernel
theorem d_BG_leaders_68 : decode b_BG_leaders 68 = .ok (.aload_n 0, 1) := by decide +kernel
theorem d_BG_leaders_69 : decode b_BG_leaders 69 = .ok (.getfield 10, 3) := by decide +kernel
theorem d_BG_leaders_72 : decode b_BG_leaders 72 = .ok (.iload_n 3, 1) := by decide +kernel
theorem d_BG_leaders_73 : decode b_BG_leaders 73 = .ok (.aload 4, 2) := by decide +kernel
theorem d_BG_leaders_75 : decode b_BG_leaders 75 = .ok (.new 66, 3) := by decide +kernel
theorem d_BG_leaders_78 : decode b_BG_leaders 78 = .ok (.dup, 1) := by decide +kernel
theorem d_BG_leaders_79 : decode b_BG_leaders 79 = .ok (.iload_n 1, 1) := by decide +kernel
theorem d_BG_leaders_80 : decode b_BG_leaders 80 = .ok (.aload_n 0, 1) := by decide +kernel
theorem d_BG_leaders_81 : decode b_BG_leaders 81 = .ok (.getfield 16, 3) := by decide +kernel
theorem d_BG_leaders_84 : decode b_BG_leaders 84 = .ok (.iload_n 2, 1) := by decide +kernel
theorem d_BG_leaders_85 : decode b_BG_leaders 85 = .ok (.invokevirtual 49, 3) := by decide +kernel
theorem d_BG_leaders_88 : decode b_BG_leaders 88 = .ok (.checkcast 32, 3) := by decide +kernel
theorem d_BG_leaders_91 : decode b_BG_leaders 91 = .ok (.getfield 91, 3) := by decide +kernel
theorem d_BG_leaders_94 : decode b_BG_leaders 94 = .ok (.invokespecial 68, 3) := by decide +kernel
theorem d_BG_leaders_97 : decode b_BG_leaders 97 = .ok (.invokevirtual 94, 3) := by decide +kernel
theorem d_BG_leaders_100 : decode b_BG_leaders 100 = .ok (.invokevirtual 98, 3) := by decide +kernel
theorem d_BG_leaders_103 : decode b_BG_leaders 103 = .ok (.pop, 1) := by decide +kernel
theorem d_BG_leaders_104 : decode b_BG_leaders 104 = .ok (.iconst 1, 1) := by decide +kernel
theorem d_BG_leaders_105 : decode b_BG_leaders 105 = .ok (.ireturn, 1) := by decide +kernel
theorem d_BG_leaders_106 : decode b_BG_leaders 106 = .ok (.bipush (-3), 2) := by decide +kernel
theorem d_BG_leaders_108 : decode b_BG_leaders 108 = .ok (.ireturn, 1) := by decide +kernel
theorem d_AL_isEmpty_0 : decode b_AL_isEmpty 0 = .ok (.aload_n 0, 1) := by decide +kernel
theorem d_AL_isEmpty_1 : decode b_AL_isEmpty 1 = .ok (.getfield 48, 3) := by decide +kernel
theorem d_AL_isEmpty_4 : decode b_AL_isEmpty 4 = .ok (.ifCond .ne 7, 3) := by decide +kernel
theorem d_AL_isEmpty_7 : decode b_AL_isEmpty 7 = .ok (.iconst 1, 1) := by decide +kernel
theorem d_AL_isEmpty_8 : decode b_AL_isEmpty 8 = .ok (.goto 4, 3) := by decide +kernel
theorem d_AL_isEmpty_11 : decode b_AL_isEmpty 11 = .ok (.iconst 0, 1) := by decide +kernel
