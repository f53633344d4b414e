theorem d_AL_isEmpty_12 : decode b_AL_isEmpty 12 = .ok (.ireturn, 1) := by decide +kernel
theorem d_Glue_with_0 : decode b_Glue_with 0 = .ok (.new 8, 3) := by decide +kernel
theorem d_Glue_with_3 : decode b_Glue_with 3 = .ok (.dup, 1) := by decide +kernel
theorem d_Glue_with_4 : decode b_Glue_with 4 = .ok (.aload_n 0, 1) := by decide +kernel
theorem d_Glue_with_5 : decode b_Glue_with 5 = .ok (.getfield 26, 3) := by decide +kernel
theorem d_Glue_with_8 : decode b_Glue_with 8 = .ok (.aload_n 0, 1) := by decide +kernel
theorem d_Glue_with_9 : decode b_Glue_with 9 = .ok (.getfield 7, 3) := by decide +kernel
theorem d_Glue_with_12 : decode b_Glue_with 12 = .ok (.aload_n 0, 1) := by decide +kernel
theorem d_Glue_with_13 : decode b_Glue_with 13 = .ok (.getfield 13, 3) := by decide +kernel
theorem d_Glue_with_16 : decode b_Glue_with 16 = .ok (.aload_n 0, 1) := by decide +kernel
theorem d_Glue_with_17 : decode b_Glue_with 17 = .ok (.getfield 16, 3) := by decide +kernel
theorem d_Glue_with_20 : decode b_Glue_with 20 = .ok (.aload_n 0, 1) := by decide +kernel
theorem d_Glue_with_21 : decode b_Glue_with 21 = .ok (.getfield 19, 3) := by decide +kernel
theorem d_Glue_with_24 : decode b_Glue_with 24 = .ok (.aload_n 1, 1) := by decide +kernel
theorem d_Glue_with_25 : decode b_Glue_with 25 = .ok (.invokespecial 29, 3) := by decide +kernel
theorem d_Glue_with_28 : decode b_Glue_with 28 = .ok (.areturn, 1) := by decide +kernel
theorem d_AL_set_0 : decode b_AL_set 0 = .ok (.iload_n 1, 1) := by decide +kernel
theorem d_AL_set_1 : decode b_AL_set 1 = .ok (.aload_n 0, 1) := by decide +kernel
theorem d_AL_set_2 : decode b_AL_set 2 = .ok (.getfield 48, 3) := by decide +kernel
theorem d_AL_set_5 : decode b_AL_set 5 = .ok (.invokestatic 118, 3) := by decide +kernel
theorem d_AL_set_8 : decode b_AL_set 8 = .ok (.pop, 1) := by decide +kernel
theorem d_AL_set_9 : decode b_AL_set 9 = .ok (.aload_n 0, 1) := by decide +kernel
theorem d_AL_set_10 : decode b_AL_set 10 = .ok (.iload_n 1, 1) := by decide +kernel
theorem d_AL_set_11 : decode b_AL_set 11 = .ok (.invokevirtual 123, 3) := by decide +kernel
theorem d_AL_set_14 : decode b_AL_set 14 = .ok (.astore_n 3, 1) := by decide +kernel
theorem d_AL_set_15 : decode b_AL_set 15 = .ok (.aload_n 0, 1) := by decide +kernel
theorem d_AL_set_16 : decode b_AL_set 16 = .ok (.getfield 9, 3) := by decide +kernel
theorem d_AL_set_19 : decode b_AL_set 19 = .ok (.iload_n 1, 1) := by decide +kernel
theorem d_AL_set_20 : decode b_AL_set 20 = .ok (.aload_n 2, 1) := by decide +kernel
theorem d_AL_set_21 : decode b_AL_set 21 = .ok (.aastore, 1) := by decide +kernel
theorem d_AL_set_22 : decode b_AL_set 22 = .ok (.aload_n 3, 1) := by decide +kernel
theorem d_AL_set_23 : decode b_AL_set 23 = .ok (.areturn, 1) := by decide +kernel
theorem d_BG_pack_0 : decode b_BG_pack 0 = .ok (.iload_n 1, 1) := by decide +kernel
theorem d_BG_pack_1 : decode b_BG_pack 1 = .ok (.iconst (-1), 1) := by decide +kernel
theorem d_BG_pack_2 : decode b_BG_pack 2 = .ok (.if_icmp .lt 9, 3) := by decide +kernel
theorem d_BG_pack_5 : decode b_BG_pack 5 = .ok (.iload_n 1, 1) := by decide +kernel
theorem d_BG_pack_6 : decode b_BG_pack 6 = .ok (.ldc 102, 2) := by decide +kernel
theorem d_BG_pack_8 : decode b_BG_pack 8 = .ok (.if_icmp .le 5, 3) := by decide +kernel
theorem d_BG_pack_11 : decode b_BG_pack 11 = .ok (.iconst (-1), 1) := by decide +kernel
theorem d_BG_pack_12 : decode b_BG_pack 12 = .ok (.ireturn, 1) := by decide +kernel
theorem d_BG_pack_13 : decode b_BG_pack 13 = .ok (.aload_n 0, 1) := by decide +kernel
theorem d_BG_pack_14 : decode b_BG_pack 14 = .ok (.getfield 10, 3) := by decide +kernel
theorem d_BG_pack_17 : decode b_BG_pack 17 = .ok (.invokestatic 103, 3) := by decide +kernel
theorem d_BG_pack_20 : decode b_BG_pack 20 = .ok (.istore_n 2, 1) := by decide +kernel
theorem d_BG_pack_21 : decode b_BG_pack 21 = .ok (.iload_n 1, 1) := by decide +kernel
theorem d_BG_pack_22 : decode b_BG_pack 22 = .ok (.iconst (-1), 1) := by decide +kernel
theorem d_BG_pack_23 : decode b_BG_pack 23 = .ok (.if_icmp .ne 11, 3) := by decide +kernel
theorem d_BG_pack_26 : decode b_BG_pack 26 = .ok (.iload_n 2, 1) := by decide +kernel
theorem d_BG_pack_27 : decode b_BG_pack 27 = .ok (.ldc 102, 2) := by decide +kernel
theorem d_BG_pack_29 : decode b_BG_pack 29 = .ok (.if_icmp .le 5, 3) := by decide +kernel
theorem d_BG_pack_32 : decode b_BG_pack 32 = .ok (.iconst (-1), 1) := by decide +kernel
theorem d_BG_pack_33 : decode b_BG_pack 33 = .ok (.ireturn, 1) := by decide +kernel
theorem d_BG_pack_34 : decode b_BG_pack 34 = .ok (.aload_n 0, 1) := by decide +kernel
theorem d_BG_pack_35 : decode b_BG_pack 35 = .ok (.getfield 16, 3) := by decide +kernel
theorem d_BG_pack_38 : decode b_BG_pack 38 = .ok (.invokevirtual 27, 3) := by decide +kernel
theorem d_BG_pack_41 : decode b_BG_pack 41 = .ok (.bipush 60, 2) := by decide +kernel
theorem d_BG_pack_43 : decode b_BG_pack 43 = .ok (.if_icmp .ge 21, 3) := by decide +kernel
theorem d_BG_pack_46 : decode b_BG_pack 46 = .ok (.aload_n 0, 1) := by decide +kernel
theorem d_BG_pack_47 : decode b_BG_pack 47 = .ok (.getfield 19, 3) := by decide +kernel
theorem d_BG_pack_50 : decode b_BG_pack 50 = .ok (.aload_n 0, 1) := by decide +kernel
theorem d_BG_pack_51 : decode b_BG_pack 51 = .ok (.getfield 10, 3) := by decide +kernel
theorem d_BG_pack_54 : decode b_BG_pack 54 = .ok (.invokevirtual 27, 3) := by decide +kernel
theorem d_BG_pack_57 : decode b_BG_pack 57 = .ok (.iadd, 1) := by decide +kernel
theorem d_BG_pack_58 : decode b_BG_pack 58 = .ok (.sipush 300, 3) := by decide +kernel
theorem d_BG_pack_61 : decode b_BG_pack 61 = .ok (.if_icmp .le 6, 3) := by decide +kernel
theorem d_BG_pack_64 : decode b_BG_pack 64 = .ok (.bipush (-2), 2) := by decide +kernel
theorem d_BG_pack_66 : decode b_BG_pack 66 = .ok (.ireturn, 1) := by decide +kernel
theorem d_BG_pack_67 : decode b_BG_pack 67 = .ok (.aload_n 0, 1) := by decide +kernel
theorem d_BG_pack_68 : decode b_BG_pack 68 = .ok (.getfield 16, 3) := by decide +kernel
theorem d_BG_pack_71 : decode b_BG_pack 71 = .ok (.aload_n 0, 1) := by decide +kernel
theorem d_BG_pack_72 : decode b_BG_pack 72 = .ok (.getfield 10, 3) := by decide +kernel
theorem d_BG_pack_75 : decode b_BG_pack 75 = .ok (.iload_n 1, 1) := by decide +kernel
theorem d_BG_pack_76 : decode b_BG_pack 76 = .ok (.iconst (-1), 1) := by decide +kernel
theorem d_BG_pack_77 : decode b_BG_pack 77 = .ok (.if_icmp .ne 11, 3) := by decide +kernel
theorem d_BG_pack_80 : decode b_BG_pack 80 = .ok (.iload_n 2, 1) := by decide +kernel
theorem d_BG_pack_81 : decode b_BG_pack 81 = .ok (.iconst 0, 1) := by decide +kernel
theorem d_BG_pack_82 : decode b_BG_pack 82 = .ok (.invokestatic 109, 3) := by decide +kernel
theorem d_BG_pack_85 : decode b_BG_pack 85 = .ok (.goto 4, 3) := by decide +kernel
theorem d_BG_pack_88 : decode b_BG_pack 88 = .ok (.iload_n 1, 1) := by decide +kernel
theorem d_BG_pack_89 : decode b_BG_pack 89 = .ok (.invokestatic 115, 3) := by decide +kernel
theorem d_BG_pack_92 : decode b_BG_pack 92 = .ok (.invokevirtual 37, 3) := by decide +kernel
theorem d_BG_pack_95 : decode b_BG_pack 95 = .ok (.pop, 1) := by decide +kernel
theorem d_BG_pack_96 : decode b_BG_pack 96 = .ok (.aload_n 0, 1) := by decide +kernel
theorem d_BG_pack_97 : decode b_BG_pack 97 = .ok (.dup, 1) := by decide +kernel
theorem d_BG_pack_98 : decode b_BG_pack 98 = .ok (.getfield 19, 3) := by decide +kernel
theorem d_BG_pack_101 : decode b_BG_pack 101 = .ok (.aload_n 0, 1) := by decide +kernel
theorem d_BG_pack_102 : decode b_BG_pack 102 = .ok (.getfield 10, 3) := by decide +kernel
theorem d_BG_pack_105 : decode b_BG_pack 105 = .ok (.invokevirtual 27, 3) := by decide +kernel
theorem d_BG_pack_108 : decode b_BG_pack 108 = .ok (.iadd, 1) := by decide +kernel
theorem d_BG_pack_109 : decode b_BG_pack 109 = .ok (.putfield 19, 3) := by decide +kernel
theorem d_BG_pack_112 : decode b_BG_pack 112 = .ok (.aload_n 0, 1) := by decide +kernel
theorem d_BG_pack_113 : decode b_BG_pack 113 = .ok (.getfield 10, 3) := by decide +kernel
theorem d_BG_pack_116 : decode b_BG_pack 116 = .ok (.invokevirtual 119, 3) := by decide +kernel
theorem d_BG_pack_119 : decode b_BG_pack 119 = .ok (.aload_n 0, 1) := by decide +kernel
theorem d_BG_pack_120 : decode b_BG_pack 120 = .ok (.getfield 16, 3) := by decide +kernel
theorem d_BG_pack_123 : decode b_BG_pack 123 = .ok (.invokevirtual 27, 3) := by decide +kernel
theorem d_BG_pack_126 : decode b_BG_pack 126 = .ok (.iconst 1, 1) := by decide +kernel
theorem d_BG_pack_127 : decode b_BG_pack 127 = .ok (.isub, 1) := by decide +kernel
theorem d_BG_pack_128 : decode b_BG_pack 128 = .ok (.ireturn, 1) := by decide +kernel
theorem d_Fit_lengthOf_0 : decode b_Fit_lengthOf 0 = .ok (.iconst 0, 1) := by decide +kernel
theorem d_Fit_lengthOf_1 : decode b_Fit_lengthOf 1 = .ok (.istore_n 1, 1) := by decide +kernel
theorem d_Fit_lengthOf_2 : decode b_Fit_lengthOf 2 = .ok (.iconst 0, 1) := by decide +kernel
theorem d_Fit_lengthOf_3 : decode b_Fit_lengthOf 3 = .ok (.istore_n 2, 1) := by decide +kernel
theorem d_Fit_lengthOf_4 : decode b_Fit_lengthOf 4 = .ok (.iload_n 2, 1) := by decide +kernel
theorem d_Fit_lengthOf_5 : decode b_Fit_lengthOf 5 = .ok (.aload_n 0, 1) := by decide +kernel
theorem d_Fit_lengthOf_6 : decode b_Fit_lengthOf 6 = .ok (.invokevirtual 39, 3) := by decide +kernel
theorem d_Fit_lengthOf_9 : decode b_Fit_lengthOf 9 = .ok (.if_icmp .ge 23, 3) := by decide +kernel
theorem d_Fit_lengthOf_12 : decode b_Fit_lengthOf 12 = .ok (.iload_n 1, 1) := by decide +kernel
theorem d_Fit_lengthOf_13 : decode b_Fit_lengthOf 13 = .ok (.aload_n 0, 1) := by decide +kernel
theorem d_Fit_lengthOf_14 : decode b_Fit_lengthOf 14 = .ok (.iload_n 2, 1) := by decide +kernel
theorem d_Fit_lengthOf_15 : decode b_Fit_lengthOf 15 = .ok (.invokevirtual 45, 3) := by decide +kernel
theorem d_Fit_lengthOf_18 : decode b_Fit_lengthOf 18 = .ok (.checkcast 49, 3) := by decide +kernel
theorem d_Fit_lengthOf_21 : decode b_Fit_lengthOf 21 = .ok (.getfield 51, 3) := by decide +kernel
theorem d_Fit_lengthOf_24 : decode b_Fit_lengthOf 24 = .ok (.iadd, 1) := by decide +kernel
theorem d_Fit_lengthOf_25 : decode b_Fit_lengthOf 25 = .ok (.istore_n 1, 1) := by decide +kernel
theorem d_Fit_lengthOf_26 : decode b_Fit_lengthOf 26 = .ok (.iinc 2 1, 3) := by decide +kernel
theorem d_Fit_lengthOf_29 : decode b_Fit_lengthOf 29 = .ok (.goto (-25), 3) := by decide +kernel
theorem d_Fit_lengthOf_32 : decode b_Fit_lengthOf 32 = .ok (.iload_n 1, 1) := by decide +kernel
theorem d_Fit_lengthOf_33 : decode b_Fit_lengthOf 33 = .ok (.ireturn, 1) := by decide +kernel
theorem d_Box_packed_0 : decode b_Box_packed 0 = .ok (.iconst 0, 1) := by decide +kernel
theorem d_Box_packed_1 : decode b_Box_packed 1 = .ok (.istore_n 2, 1) := by decide +kernel
theorem d_Box_packed_2 : decode b_Box_packed 2 = .ok (.iconst 0, 1) := by decide +kernel
theorem d_Box_packed_3 : decode b_Box_packed 3 = .ok (.istore_n 3, 1) := by decide +kernel
theorem d_Box_packed_4 : decode b_Box_packed 4 = .ok (.iconst 0, 1) := by decide +kernel
theorem d_Box_packed_5 : decode b_Box_packed 5 = .ok (.istore 4, 2) := by decide +kernel
theorem d_Box_packed_7 : decode b_Box_packed 7 = .ok (.iload 4, 2) := by decide +kernel
theorem d_Box_packed_9 : decode b_Box_packed 9 = .ok (.aload_n 0, 1) := by decide +kernel
theorem d_Box_packed_10 : decode b_Box_packed 10 = .ok (.invokevirtual 40, 3) := by decide +kernel
theorem d_Box_packed_13 : decode b_Box_packed 13 = .ok (.if_icmp .ge 45, 3) := by decide +kernel
theorem d_Box_packed_16 : decode b_Box_packed 16 = .ok (.iload_n 2, 1) := by decide +kernel
theorem d_Box_packed_17 : decode b_Box_packed 17 = .ok (.aload_n 0, 1) := by decide +kernel
theorem d_Box_packed_18 : decode b_Box_packed 18 = .ok (.iload 4, 2) := by decide +kernel
theorem d_Box_packed_20 : decode b_Box_packed 20 = .ok (.invokevirtual 44, 3) := by decide +kernel
theorem d_Box_packed_23 : decode b_Box_packed 23 = .ok (.checkcast 48, 3) := by decide +kernel
theorem d_Box_packed_26 : decode b_Box_packed 26 = .ok (.iconst 0, 1) := by decide +kernel
theorem d_Box_packed_27 : decode b_Box_packed 27 = .ok (.invokevirtual 50, 3) := by decide +kernel
theorem d_Box_packed_30 : decode b_Box_packed 30 = .ok (.invokestatic 54, 3) := by decide +kernel
theorem d_Box_packed_33 : decode b_Box_packed 33 = .ok (.istore_n 2, 1) := by decide +kernel
theorem d_Box_packed_34 : decode b_Box_packed 34 = .ok (.iload_n 3, 1) := by decide +kernel
theorem d_Box_packed_35 : decode b_Box_packed 35 = .ok (.aload_n 0, 1) := by decide +kernel
theorem d_Box_packed_36 : decode b_Box_packed 36 = .ok (.iload 4, 2) := by decide +kernel
theorem d_Box_packed_38 : decode b_Box_packed 38 = .ok (.invokevirtual 44, 3) := by decide +kernel
theorem d_Box_packed_41 : decode b_Box_packed 41 = .ok (.checkcast 48, 3) := by decide +kernel
theorem d_Box_packed_44 : decode b_Box_packed 44 = .ok (.iconst 0, 1) := by decide +kernel
theorem d_Box_packed_45 : decode b_Box_packed 45 = .ok (.invokevirtual 60, 3) := by decide +kernel
theorem d_Box_packed_48 : decode b_Box_packed 48 = .ok (.invokestatic 54, 3) := by decide +kernel
theorem d_Box_packed_51 : decode b_Box_packed 51 = .ok (.istore_n 3, 1) := by decide +kernel
theorem d_Box_packed_52 : decode b_Box_packed 52 = .ok (.iinc 4 1, 3) := by decide +kernel
theorem d_Box_packed_55 : decode b_Box_packed 55 = .ok (.goto (-48), 3) := by decide +kernel
theorem d_Box_packed_58 : decode b_Box_packed 58 = .ok (.aload_n 0, 1) := by decide +kernel
theorem d_Box_packed_59 : decode b_Box_packed 59 = .ok (.iload_n 1, 1) := by decide +kernel
theorem d_Box_packed_60 : decode b_Box_packed 60 = .ok (.invokestatic 63, 3) := by decide +kernel
theorem d_Box_packed_63 : decode b_Box_packed 63 = .ok (.astore 4, 2) := by decide +kernel
theorem d_Box_packed_65 : decode b_Box_packed 65 = .ok (.new 10, 3) := by decide +kernel
theorem d_Box_packed_68 : decode b_Box_packed 68 = .ok (.dup, 1) := by decide +kernel
theorem d_Box_packed_69 : decode b_Box_packed 69 = .ok (.iload_n 1, 1) := by decide +kernel
theorem d_Box_packed_70 : decode b_Box_packed 70 = .ok (.iload_n 2, 1) := by decide +kernel
theorem d_Box_packed_71 : decode b_Box_packed 71 = .ok (.iload_n 3, 1) := by decide +kernel
theorem d_Box_packed_72 : decode b_Box_packed 72 = .ok (.aload 4, 2) := by decide +kernel
theorem d_Box_packed_74 : decode b_Box_packed 74 = .ok (.aload_n 0, 1) := by decide +kernel
theorem d_Box_packed_75 : decode b_Box_packed 75 = .ok (.aload 4, 2) := by decide +kernel
theorem d_Box_packed_77 : decode b_Box_packed 77 = .ok (.invokestatic 67, 3) := by decide +kernel
theorem d_Box_packed_80 : decode b_Box_packed 80 = .ok (.invokespecial 37, 3) := by decide +kernel
theorem d_Box_packed_83 : decode b_Box_packed 83 = .ok (.areturn, 1) := by decide +kernel
theorem d_Put_heightWhere_0 : decode b_Put_heightWhere 0 = .ok (.aload_n 0, 1) := by decide +kernel
theorem d_Put_heightWhere_1 : decode b_Put_heightWhere 1 = .ok (.getfield 16, 3) := by decide +kernel
theorem d_Put_heightWhere_4 : decode b_Put_heightWhere 4 = .ok (.ireturn, 1) := by decide +kernel
theorem d_Rule_heightWhere_0 : decode b_Rule_heightWhere 0 = .ok (.aload_n 0, 1) := by decide +kernel
theorem d_Rule_heightWhere_1 : decode b_Rule_heightWhere 1 = .ok (.getfield 9, 3) := by decide +kernel
theorem d_Rule_heightWhere_4 : decode b_Rule_heightWhere 4 = .ok (.ldc 18, 2) := by decide +kernel
theorem d_Rule_heightWhere_6 : decode b_Rule_heightWhere 6 = .ok (.if_icmp .ne 7, 3) := by decide +kernel
theorem d_Rule_heightWhere_9 : decode b_Rule_heightWhere 9 = .ok (.iload_n 1, 1) := by decide +kernel
theorem d_Rule_heightWhere_10 : decode b_Rule_heightWhere 10 = .ok (.goto 7, 3) := by decide +kernel
theorem d_Rule_heightWhere_13 : decode b_Rule_heightWhere 13 = .ok (.aload_n 0, 1) := by decide +kernel
theorem d_Rule_heightWhere_14 : decode b_Rule_heightWhere 14 = .ok (.getfield 9, 3) := by decide +kernel
theorem d_Rule_heightWhere_17 : decode b_Rule_heightWhere 17 = .ok (.ireturn, 1) := by decide +kernel
theorem d_Item_heightWhere_0 : decode b_Item_heightWhere 0 = .ok (.iconst 0, 1) := by decide +kernel
theorem d_Item_heightWhere_1 : decode b_Item_heightWhere 1 = .ok (.ireturn, 1) := by decide +kernel
theorem d_Put_depthWhere_0 : decode b_Put_depthWhere 0 = .ok (.aload_n 0, 1) := by decide +kernel
theorem d_Put_depthWhere_1 : decode b_Put_depthWhere 1 = .ok (.getfield 22, 3) := by decide +kernel
theorem d_Put_depthWhere_4 : decode b_Put_depthWhere 4 = .ok (.ireturn, 1) := by decide +kernel
theorem d_Rule_depthWhere_0 : decode b_Rule_depthWhere 0 = .ok (.aload_n 0, 1) := by decide +kernel
theorem d_Rule_depthWhere_1 : decode b_Rule_depthWhere 1 = .ok (.getfield 15, 3) := by decide +kernel
theorem d_Rule_depthWhere_4 : decode b_Rule_depthWhere 4 = .ok (.ldc 18, 2) := by decide +kernel
theorem d_Rule_depthWhere_6 : decode b_Rule_depthWhere 6 = .ok (.if_icmp .ne 7, 3) := by decide +kernel
theorem d_Rule_depthWhere_9 : decode b_Rule_depthWhere 9 = .ok (.iload_n 1, 1) := by decide +kernel
theorem d_Rule_depthWhere_10 : decode b_Rule_depthWhere 10 = .ok (.goto 7, 3) := by decide +kernel
theorem d_Rule_depthWhere_13 : decode b_Rule_depthWhere 13 = .ok (.aload_n 0, 1) := by decide +kernel
theorem d_Rule_depthWhere_14 : decode b_Rule_depthWhere 14 = .ok (.getfield 15, 3) := by decide +kernel
theorem d_Rule_depthWhere_17 : decode b_Rule_depthWhere 17 = .ok (.ireturn, 1) := by decide +kernel
theorem d_Item_depthWhere_0 : decode b_Item_depthWhere 0 = .ok (.iconst 0, 1) := by decide +kernel
theorem d_Item_depthWhere_1 : decode b_Item_depthWhere 1 = .ok (.ireturn, 1) := by decide +kernel
theorem d_Fit_of_0 : decode b_Fit_of 0 = .ok (.aload_n 0, 1) := by decide +kernel
theorem d_Fit_of_1 : decode b_Fit_of 1 = .ok (.invokestatic 24, 3) := by decide +kernel
theorem d_Fit_of_4 : decode b_Fit_of 4 = .ok (.istore_n 2, 1) := by decide +kernel
theorem d_Fit_of_5 : decode b_Fit_of 5 = .ok (.iload_n 1, 1) := by decide +kernel
theorem d_Fit_of_6 : decode b_Fit_of 6 = .ok (.iload_n 2, 1) := by decide +kernel
theorem d_Fit_of_7 : decode b_Fit_of 7 = .ok (.isub, 1) := by decide +kernel
theorem d_Fit_of_8 : decode b_Fit_of 8 = .ok (.istore_n 3, 1) := by decide +kernel
theorem d_Fit_of_9 : decode b_Fit_of 9 = .ok (.iload_n 3, 1) := by decide +kernel
theorem d_Fit_of_10 : decode b_Fit_of 10 = .ok (.ifCond .ne 7, 3) := by decide +kernel
theorem d_Fit_of_13 : decode b_Fit_of 13 = .ok (.iconst (-1), 1) := by decide +kernel
theorem d_Fit_of_14 : decode b_Fit_of 14 = .ok (.goto 16, 3) := by decide +kernel
theorem d_Fit_of_17 : decode b_Fit_of 17 = .ok (.aload_n 0, 1) := by decide +kernel
theorem d_Fit_of_18 : decode b_Fit_of 18 = .ok (.iload_n 3, 1) := by decide +kernel
theorem d_Fit_of_19 : decode b_Fit_of 19 = .ok (.ifCond .le 7, 3) := by decide +kernel
theorem d_Fit_of_22 : decode b_Fit_of 22 = .ok (.iconst 1, 1) := by decide +kernel
theorem d_Fit_of_23 : decode b_Fit_of 23 = .ok (.goto 4, 3) := by decide +kernel
theorem d_Fit_of_26 : decode b_Fit_of 26 = .ok (.iconst 0, 1) := by decide +kernel
theorem d_Fit_of_27 : decode b_Fit_of 27 = .ok (.invokestatic 28, 3) := by decide +kernel
theorem d_Fit_of_30 : decode b_Fit_of 30 = .ok (.istore 4, 2) := by decide +kernel
theorem d_Fit_of_32 : decode b_Fit_of 32 = .ok (.new 10, 3) := by decide +kernel
theorem d_Fit_of_35 : decode b_Fit_of 35 = .ok (.dup, 1) := by decide +kernel
theorem d_Fit_of_36 : decode b_Fit_of 36 = .ok (.iload_n 2, 1) := by decide +kernel
theorem d_Fit_of_37 : decode b_Fit_of 37 = .ok (.iload_n 3, 1) := by decide +kernel
theorem d_Fit_of_38 : decode b_Fit_of 38 = .ok (.iload 4, 2) := by decide +kernel
theorem d_Fit_of_40 : decode b_Fit_of 40 = .ok (.aload_n 0, 1) := by decide +kernel
theorem d_Fit_of_41 : decode b_Fit_of 41 = .ok (.iload_n 3, 1) := by decide +kernel
theorem d_Fit_of_42 : decode b_Fit_of 42 = .ok (.ifCond .le 7, 3) := by decide +kernel
theorem d_Fit_of_45 : decode b_Fit_of 45 = .ok (.iconst 1, 1) := by decide +kernel
theorem d_Fit_of_46 : decode b_Fit_of 46 = .ok (.goto 4, 3) := by decide +kernel
theorem d_Fit_of_49 : decode b_Fit_of 49 = .ok (.iconst 0, 1) := by decide +kernel
theorem d_Fit_of_50 : decode b_Fit_of 50 = .ok (.iload 4, 2) := by decide +kernel
theorem d_Fit_of_52 : decode b_Fit_of 52 = .ok (.invokestatic 32, 3) := by decide +kernel
theorem d_Fit_of_55 : decode b_Fit_of 55 = .ok (.invokespecial 36, 3) := by decide +kernel
theorem d_Fit_of_58 : decode b_Fit_of 58 = .ok (.areturn, 1) := by decide +kernel
theorem d_Fit_greatestOrder_0 : decode b_Fit_greatestOrder 0 = .ok (.iconst 3, 1) := by decide +kernel
theorem d_Fit_greatestOrder_1 : decode b_Fit_greatestOrder 1 = .ok (.istore_n 2, 1) := by decide +kernel
theorem d_Fit_greatestOrder_2 : decode b_Fit_greatestOrder 2 = .ok (.iload_n 2, 1) := by decide +kernel
theorem d_Fit_greatestOrder_3 : decode b_Fit_greatestOrder 3 = .ok (.ifCond .lt 20, 3) := by decide +kernel
theorem d_Fit_greatestOrder_6 : decode b_Fit_greatestOrder 6 = .ok (.aload_n 0, 1) := by decide +kernel
theorem d_Fit_greatestOrder_7 : decode b_Fit_greatestOrder 7 = .ok (.iload_n 1, 1) := by decide +kernel
theorem d_Fit_greatestOrder_8 : decode b_Fit_greatestOrder 8 = .ok (.iload_n 2, 1) := by decide +kernel
theorem d_Fit_greatestOrder_9 : decode b_Fit_greatestOrder 9 = .ok (.invokestatic 32, 3) := by decide +kernel
theorem d_Fit_greatestOrder_12 : decode b_Fit_greatestOrder 12 = .ok (.ifCond .eq 5, 3) := by decide +kernel
theorem d_Fit_greatestOrder_15 : decode b_Fit_greatestOrder 15 = .ok (.iload_n 2, 1) := by decide +kernel
theorem d_Fit_greatestOrder_16 : decode b_Fit_greatestOrder 16 = .ok (.ireturn, 1) := by decide +kernel
theorem d_Fit_greatestOrder_17 : decode b_Fit_greatestOrder 17 = .ok (.iinc 2 (-1), 3) := by decide +kernel
theorem d_Fit_greatestOrder_20 : decode b_Fit_greatestOrder 20 = .ok (.goto (-18), 3) := by decide +kernel
theorem d_Fit_greatestOrder_23 : decode b_Fit_greatestOrder 23 = .ok (.iconst (-1), 1) := by decide +kernel
theorem d_Fit_greatestOrder_24 : decode b_Fit_greatestOrder 24 = .ok (.ireturn, 1) := by decide +kernel
theorem d_Fit_sumOf_0 : decode b_Fit_sumOf 0 = .ok (.iconst 0, 1) := by decide +kernel
theorem d_Fit_sumOf_1 : decode b_Fit_sumOf 1 = .ok (.istore_n 3, 1) := by decide +kernel
theorem d_Fit_sumOf_2 : decode b_Fit_sumOf 2 = .ok (.iconst 0, 1) := by decide +kernel
theorem d_Fit_sumOf_3 : decode b_Fit_sumOf 3 = .ok (.istore 4, 2) := by decide +kernel
theorem d_Fit_sumOf_5 : decode b_Fit_sumOf 5 = .ok (.iload 4, 2) := by decide +kernel
theorem d_Fit_sumOf_7 : decode b_Fit_sumOf 7 = .ok (.aload_n 0, 1) := by decide +kernel
theorem d_Fit_sumOf_8 : decode b_Fit_sumOf 8 = .ok (.invokevirtual 39, 3) := by decide +kernel
theorem d_Fit_sumOf_11 : decode b_Fit_sumOf 11 = .ok (.if_icmp .ge 26, 3) := by decide +kernel
theorem d_Fit_sumOf_14 : decode b_Fit_sumOf 14 = .ok (.iload_n 3, 1) := by decide +kernel
theorem d_Fit_sumOf_15 : decode b_Fit_sumOf 15 = .ok (.aload_n 0, 1) := by decide +kernel
theorem d_Fit_sumOf_16 : decode b_Fit_sumOf 16 = .ok (.iload 4, 2) := by decide +kernel
theorem d_Fit_sumOf_18 : decode b_Fit_sumOf 18 = .ok (.invokevirtual 45, 3) := by decide +kernel
theorem d_Fit_sumOf_21 : decode b_Fit_sumOf 21 = .ok (.checkcast 49, 3) := by decide +kernel
theorem d_Fit_sumOf_24 : decode b_Fit_sumOf 24 = .ok (.iload_n 1, 1) := by decide +kernel
theorem d_Fit_sumOf_25 : decode b_Fit_sumOf 25 = .ok (.iload_n 2, 1) := by decide +kernel
theorem d_Fit_sumOf_26 : decode b_Fit_sumOf 26 = .ok (.invokevirtual 52, 3) := by decide +kernel
theorem d_Fit_sumOf_29 : decode b_Fit_sumOf 29 = .ok (.iadd, 1) := by decide +kernel
theorem d_Fit_sumOf_30 : decode b_Fit_sumOf 30 = .ok (.istore_n 3, 1) := by decide +kernel
theorem d_Fit_sumOf_31 : decode b_Fit_sumOf 31 = .ok (.iinc 4 1, 3) := by decide +kernel
theorem d_Fit_sumOf_34 : decode b_Fit_sumOf 34 = .ok (.goto (-29), 3) := by decide +kernel
theorem d_Fit_sumOf_37 : decode b_Fit_sumOf 37 = .ok (.iload_n 3, 1) := by decide +kernel
theorem d_Fit_sumOf_38 : decode b_Fit_sumOf 38 = .ok (.ireturn, 1) := by decide +kernel
theorem d_Glue_giving_0 : decode b_Glue_giving 0 = .ok (.iload_n 1, 1) := by decide +kernel
theorem d_Glue_giving_1 : decode b_Glue_giving 1 = .ok (.ifCond .eq 20, 3) := by decide +kernel
theorem d_Glue_giving_4 : decode b_Glue_giving 4 = .ok (.iload_n 2, 1) := by decide +kernel
theorem d_Glue_giving_5 : decode b_Glue_giving 5 = .ok (.aload_n 0, 1) := by decide +kernel
theorem d_Glue_giving_6 : decode b_Glue_giving 6 = .ok (.getfield 13, 3) := by decide +kernel
theorem d_Glue_giving_9 : decode b_Glue_giving 9 = .ok (.if_icmp .ne 10, 3) := by decide +kernel
theorem d_Glue_giving_12 : decode b_Glue_giving 12 = .ok (.aload_n 0, 1) := by decide +kernel
theorem d_Glue_giving_13 : decode b_Glue_giving 13 = .ok (.getfield 7, 3) := by decide +kernel
theorem d_Glue_giving_16 : decode b_Glue_giving 16 = .ok (.goto 4, 3) := by decide +kernel
theorem d_Glue_giving_19 : decode b_Glue_giving 19 = .ok (.iconst 0, 1) := by decide +kernel
theorem d_Glue_giving_20 : decode b_Glue_giving 20 = .ok (.ireturn, 1) := by decide +kernel
theorem d_Glue_giving_21 : decode b_Glue_giving 21 = .ok (.iload_n 2, 1) := by decide +kernel
theorem d_Glue_giving_22 : decode b_Glue_giving 22 = .ok (.aload_n 0, 1) := by decide +kernel
theorem d_Glue_giving_23 : decode b_Glue_giving 23 = .ok (.getfield 19, 3) := by decide +kernel
theorem d_Glue_giving_26 : decode b_Glue_giving 26 = .ok (.if_icmp .ne 10, 3) := by decide +kernel
theorem d_Glue_giving_29 : decode b_Glue_giving 29 = .ok (.aload_n 0, 1) := by decide +kernel
theorem d_Glue_giving_30 : decode b_Glue_giving 30 = .ok (.getfield 16, 3) := by decide +kernel
theorem d_Glue_giving_33 : decode b_Glue_giving 33 = .ok (.goto 4, 3) := by decide +kernel
theorem d_Glue_giving_36 : decode b_Glue_giving 36 = .ok (.iconst 0, 1) := by decide +kernel
theorem d_Glue_giving_37 : decode b_Glue_giving 37 = .ok (.ireturn, 1) := by decide +kernel
theorem d_Item_giving_0 : decode b_Item_giving 0 = .ok (.iconst 0, 1) := by decide +kernel
theorem d_Item_giving_1 : decode b_Item_giving 1 = .ok (.ireturn, 1) := by decide +kernel
theorem d_Box_placed_0 : decode b_Box_placed 0 = .ok (.new 34, 3) := by decide +kernel
theorem d_Box_placed_3 : decode b_Box_placed 3 = .ok (.dup, 1) := by decide +kernel
theorem d_Box_placed_4 : decode b_Box_placed 4 = .ok (.invokespecial 36, 3) := by decide +kernel
theorem d_Box_placed_7 : decode b_Box_placed 7 = .ok (.astore_n 2, 1) := by decide +kernel
theorem d_Box_placed_8 : decode b_Box_placed 8 = .ok (.iconst 0, 1) := by decide +kernel
theorem d_Box_placed_9 : decode b_Box_placed 9 = .ok (.istore_n 3, 1) := by decide +kernel
theorem d_Box_placed_10 : decode b_Box_placed 10 = .ok (.iconst 0, 1) := by decide +kernel
theorem d_Box_placed_11 : decode b_Box_placed 11 = .ok (.istore 4, 2) := by decide +kernel
theorem d_Box_placed_13 : decode b_Box_placed 13 = .ok (.iconst 0, 1) := by decide +kernel
theorem d_Box_placed_14 : decode b_Box_placed 14 = .ok (.istore 5, 2) := by decide +kernel
theorem d_Box_placed_16 : decode b_Box_placed 16 = .ok (.iload 5, 2) := by decide +kernel
theorem d_Box_placed_18 : decode b_Box_placed 18 = .ok (.aload_n 0, 1) := by decide +kernel
theorem d_Box_placed_19 : decode b_Box_placed 19 = .ok (.invokevirtual 40, 3) := by decide +kernel
theorem d_Box_placed_22 : decode b_Box_placed 22 = .ok (.if_icmp .ge 73, 3) := by decide +kernel
theorem d_Box_placed_25 : decode b_Box_placed 25 = .ok (.aload_n 0, 1) := by decide +kernel
theorem d_Box_placed_26 : decode b_Box_placed 26 = .ok (.iload 5, 2) := by decide +kernel
theorem d_Box_placed_28 : decode b_Box_placed 28 = .ok (.invokevirtual 44, 3) := by decide +kernel
theorem d_Box_placed_31 : decode b_Box_placed 31 = .ok (.checkcast 48, 3) := by decide +kernel
theorem d_Box_placed_34 : decode b_Box_placed 34 = .ok (.astore 6, 2) := by decide +kernel
theorem d_Box_placed_36 : decode b_Box_placed 36 = .ok (.iload 4, 2) := by decide +kernel
theorem d_Box_placed_38 : decode b_Box_placed 38 = .ok (.aload_n 1, 1) := by decide +kernel
theorem d_Box_placed_39 : decode b_Box_placed 39 = .ok (.aload 6, 2) := by decide +kernel
theorem d_Box_placed_41 : decode b_Box_placed 41 = .ok (.invokevirtual 71, 3) := by decide +kernel
theorem d_Box_placed_44 : decode b_Box_placed 44 = .ok (.iadd, 1) := by decide +kernel
theorem d_Box_placed_45 : decode b_Box_placed 45 = .ok (.istore 7, 2) := by decide +kernel
theorem d_Box_placed_47 : decode b_Box_placed 47 = .ok (.aload 6, 2) := by decide +kernel
theorem d_Box_placed_49 : decode b_Box_placed 49 = .ok (.getfield 75, 3) := by decide +kernel
theorem d_Box_placed_52 : decode b_Box_placed 52 = .ok (.aload_n 1, 1) := by decide +kernel
theorem d_Box_placed_53 : decode b_Box_placed 53 = .ok (.iload 4, 2) := by decide +kernel
theorem d_Box_placed_55 : decode b_Box_placed 55 = .ok (.iload 7, 2) := by decide +kernel
theorem d_Box_placed_57 : decode b_Box_placed 57 = .ok (.invokevirtual 78, 3) := by decide +kernel
theorem d_Box_placed_60 : decode b_Box_placed 60 = .ok (.iadd, 1) := by decide +kernel
theorem d_Box_placed_61 : decode b_Box_placed 61 = .ok (.istore 8, 2) := by decide +kernel
theorem d_Box_placed_63 : decode b_Box_placed 63 = .ok (.aload_n 2, 1) := by decide +kernel
theorem d_Box_placed_64 : decode b_Box_placed 64 = .ok (.new 81, 3) := by decide +kernel
theorem d_Box_placed_67 : decode b_Box_placed 67 = .ok (.dup, 1) := by decide +kernel
theorem d_Box_placed_68 : decode b_Box_placed 68 = .ok (.aload 6, 2) := by decide +kernel
theorem d_Box_placed_70 : decode b_Box_placed 70 = .ok (.iload_n 3, 1) := by decide +kernel
theorem d_Box_placed_71 : decode b_Box_placed 71 = .ok (.iload 8, 2) := by decide +kernel
theorem d_Box_placed_73 : decode b_Box_placed 73 = .ok (.invokespecial 83, 3) := by decide +kernel
theorem d_Box_placed_76 : decode b_Box_placed 76 = .ok (.invokevirtual 86, 3) := by decide +kernel
theorem d_Box_placed_79 : decode b_Box_placed 79 = .ok (.pop, 1) := by decide +kernel
theorem d_Box_placed_80 : decode b_Box_placed 80 = .ok (.iload_n 3, 1) := by decide +kernel
theorem d_Box_placed_81 : decode b_Box_placed 81 = .ok (.iload 8, 2) := by decide +kernel
theorem d_Box_placed_83 : decode b_Box_placed 83 = .ok (.iadd, 1) := by decide +kernel
theorem d_Box_placed_84 : decode b_Box_placed 84 = .ok (.istore_n 3, 1) := by decide +kernel
theorem d_Box_placed_85 : decode b_Box_placed 85 = .ok (.iload 7, 2) := by decide +kernel
theorem d_Box_placed_87 : decode b_Box_placed 87 = .ok (.istore 4, 2) := by decide +kernel
theorem d_Box_placed_89 : decode b_Box_placed 89 = .ok (.iinc 5 1, 3) := by decide +kernel
theorem d_Box_placed_92 : decode b_Box_placed 92 = .ok (.goto (-76), 3) := by decide +kernel
theorem d_Box_placed_95 : decode b_Box_placed 95 = .ok (.aload_n 2, 1) := by decide +kernel
theorem d_Box_placed_96 : decode b_Box_placed 96 = .ok (.areturn, 1) := by decide +kernel
theorem d_Fit_givingOf_0 : decode b_Fit_givingOf 0 = .ok (.aload_n 1, 1) := by decide +kernel
theorem d_Fit_givingOf_1 : decode b_Fit_givingOf 1 = .ok (.aload_n 0, 1) := by decide +kernel
theorem d_Fit_givingOf_2 : decode b_Fit_givingOf 2 = .ok (.getfield 15, 3) := by decide +kernel
theorem d_Fit_givingOf_5 : decode b_Fit_givingOf 5 = .ok (.ifCond .le 7, 3) := by decide +kernel
theorem d_Fit_givingOf_8 : decode b_Fit_givingOf 8 = .ok (.iconst 1, 1) := by decide +kernel
theorem d_Fit_givingOf_9 : decode b_Fit_givingOf 9 = .ok (.goto 4, 3) := by decide +kernel
theorem d_Fit_givingOf_12 : decode b_Fit_givingOf 12 = .ok (.iconst 0, 1) := by decide +kernel
theorem d_Fit_givingOf_13 : decode b_Fit_givingOf 13 = .ok (.aload_n 0, 1) := by decide +kernel
theorem d_Fit_givingOf_14 : decode b_Fit_givingOf 14 = .ok (.getfield 18, 3) := by decide +kernel
theorem d_Fit_givingOf_17 : decode b_Fit_givingOf 17 = .ok (.invokevirtual 52, 3) := by decide +kernel
theorem d_Fit_givingOf_20 : decode b_Fit_givingOf 20 = .ok (.ireturn, 1) := by decide +kernel
theorem d_Fit_change_0 : decode b_Fit_change 0 = .ok (.aload_n 0, 1) := by decide +kernel
theorem d_Fit_change_1 : decode b_Fit_change 1 = .ok (.iload_n 2, 1) := by decide +kernel
theorem d_Fit_change_2 : decode b_Fit_change 2 = .ok (.invokevirtual 56, 3) := by decide +kernel
theorem d_Fit_change_5 : decode b_Fit_change 5 = .ok (.aload_n 0, 1) := by decide +kernel
theorem d_Fit_change_6 : decode b_Fit_change 6 = .ok (.iload_n 1, 1) := by decide +kernel
theorem d_Fit_change_7 : decode b_Fit_change 7 = .ok (.invokevirtual 56, 3) := by decide +kernel
theorem d_Fit_change_10 : decode b_Fit_change 10 = .ok (.isub, 1) := by decide +kernel
theorem d_Fit_change_11 : decode b_Fit_change 11 = .ok (.ireturn, 1) := by decide +kernel
theorem d_Fit_share_0 : decode b_Fit_share 0 = .ok (.aload_n 0, 1) := by decide +kernel
theorem d_Fit_share_1 : decode b_Fit_share 1 = .ok (.getfield 21, 3) := by decide +kernel
theorem d_Fit_share_4 : decode b_Fit_share 4 = .ok (.ifCond .ne 5, 3) := by decide +kernel
theorem d_Fit_share_7 : decode b_Fit_share 7 = .ok (.iconst 0, 1) := by decide +kernel
theorem d_Fit_share_8 : decode b_Fit_share 8 = .ok (.ireturn, 1) := by decide +kernel
theorem d_Fit_share_9 : decode b_Fit_share 9 = .ok (.aload_n 0, 1) := by decide +kernel
theorem d_Fit_share_10 : decode b_Fit_share 10 = .ok (.getfield 15, 3) := by decide +kernel
theorem d_Fit_share_13 : decode b_Fit_share 13 = .ok (.aload_n 0, 1) := by decide +kernel
theorem d_Fit_share_14 : decode b_Fit_share 14 = .ok (.invokevirtual 60, 3) := by decide +kernel
theorem d_Fit_share_17 : decode b_Fit_share 17 = .ok (.iadd, 1) := by decide +kernel
theorem d_Fit_share_18 : decode b_Fit_share 18 = .ok (.i2l, 1) := by decide +kernel
theorem d_Fit_share_19 : decode b_Fit_share 19 = .ok (.lstore_n 2, 1) := by decide +kernel
theorem d_Fit_share_20 : decode b_Fit_share 20 = .ok (.lload_n 2, 1) := by decide +kernel
theorem d_Fit_share_21 : decode b_Fit_share 21 = .ok (.iload_n 1, 1) := by decide +kernel
theorem d_Fit_share_22 : decode b_Fit_share 22 = .ok (.i2l, 1) := by decide +kernel
theorem d_Fit_share_23 : decode b_Fit_share 23 = .ok (.lmul, 1) := by decide +kernel
theorem d_Fit_share_24 : decode b_Fit_share 24 = .ok (.aload_n 0, 1) := by decide +kernel
theorem d_Fit_share_25 : decode b_Fit_share 25 = .ok (.getfield 21, 3) := by decide +kernel
theorem d_Fit_share_28 : decode b_Fit_share 28 = .ok (.i2l, 1) := by decide +kernel
theorem d_Fit_share_29 : decode b_Fit_share 29 = .ok (.ldiv, 1) := by decide +kernel
theorem d_Fit_share_30 : decode b_Fit_share 30 = .ok (.l2i, 1) := by decide +kernel
theorem d_Fit_share_31 : decode b_Fit_share 31 = .ok (.ireturn, 1) := by decide +kernel
theorem d_Fit_over_0 : decode b_Fit_over 0 = .ok (.aload_n 0, 1) := by decide +kernel
theorem d_Fit_over_1 : decode b_Fit_over 1 = .ok (.getfield 15, 3) := by decide +kernel
theorem d_Fit_over_4 : decode b_Fit_over 4 = .ok (.ifCond .ge 27, 3) := by decide +kernel
theorem d_Fit_over_7 : decode b_Fit_over 7 = .ok (.aload_n 0, 1) := by decide +kernel
theorem d_Fit_over_8 : decode b_Fit_over 8 = .ok (.getfield 18, 3) := by decide +kernel
theorem d_Fit_over_11 : decode b_Fit_over 11 = .ok (.ifCond .gt 20, 3) := by decide +kernel
theorem d_Fit_over_14 : decode b_Fit_over 14 = .ok (.aload_n 0, 1) := by decide +kernel
theorem d_Fit_over_15 : decode b_Fit_over 15 = .ok (.getfield 15, 3) := by decide +kernel
theorem d_Fit_over_18 : decode b_Fit_over 18 = .ok (.ineg, 1) := by decide +kernel
theorem d_Fit_over_19 : decode b_Fit_over 19 = .ok (.aload_n 0, 1) := by decide +kernel
theorem d_Fit_over_20 : decode b_Fit_over 20 = .ok (.getfield 21, 3) := by decide +kernel
theorem d_Fit_over_23 : decode b_Fit_over 23 = .ok (.isub, 1) := by decide +kernel
theorem d_Fit_over_24 : decode b_Fit_over 24 = .ok (.iconst 0, 1) := by decide +kernel
theorem d_Fit_over_25 : decode b_Fit_over 25 = .ok (.invokestatic 63, 3) := by decide +kernel
theorem d_Fit_over_28 : decode b_Fit_over 28 = .ok (.goto 4, 3) := by decide +kernel
theorem d_Fit_over_31 : decode b_Fit_over 31 = .ok (.iconst 0, 1) := by decide +kernel
theorem d_Fit_over_32 : decode b_Fit_over 32 = .ok (.ireturn, 1) := by decide +kernel
theorem d_Placed_init_0 : decode b_Placed_init 0 = .ok (.aload_n 0, 1) := by decide +kernel
theorem d_Placed_init_1 : decode b_Placed_init 1 = .ok (.invokespecial 3, 3) := by decide +kernel
theorem d_Placed_init_4 : decode b_Placed_init 4 = .ok (.aload_n 0, 1) := by decide +kernel
theorem d_Placed_init_5 : decode b_Placed_init 5 = .ok (.aload_n 1, 1) := by decide +kernel
theorem d_Placed_init_6 : decode b_Placed_init 6 = .ok (.putfield 9, 3) := by decide +kernel
theorem d_Placed_init_9 : decode b_Placed_init 9 = .ok (.aload_n 0, 1) := by decide +kernel
theorem d_Placed_init_10 : decode b_Placed_init 10 = .ok (.iload_n 2, 1) := by decide +kernel
theorem d_Placed_init_11 : decode b_Placed_init 11 = .ok (.putfield 15, 3) := by decide +kernel
theorem d_Placed_init_14 : decode b_Placed_init 14 = .ok (.aload_n 0, 1) := by decide +kernel
theorem d_Placed_init_15 : decode b_Placed_init 15 = .ok (.iload_n 3, 1) := by decide +kernel
theorem d_Placed_init_16 : decode b_Placed_init 16 = .ok (.putfield 19, 3) := by decide +kernel
theorem d_Placed_init_19 : decode b_Placed_init 19 = .ok (.return_, 1) := by decide +kernel
theorem d_AL_clear_0 : decode b_AL_clear 0 = .ok (.aload_n 0, 1) := by decide +kernel
theorem d_AL_clear_1 : decode b_AL_clear 1 = .ok (.dup, 1) := by decide +kernel
theorem d_AL_clear_2 : decode b_AL_clear 2 = .ok (.getfield 63, 3) := by decide +kernel
theorem d_AL_clear_5 : decode b_AL_clear 5 = .ok (.iconst 1, 1) := by decide +kernel
theorem d_AL_clear_6 : decode b_AL_clear 6 = .ok (.iadd, 1) := by decide +kernel
theorem d_AL_clear_7 : decode b_AL_clear 7 = .ok (.putfield 63, 3) := by decide +kernel
theorem d_AL_clear_10 : decode b_AL_clear 10 = .ok (.aload_n 0, 1) := by decide +kernel
theorem d_AL_clear_11 : decode b_AL_clear 11 = .ok (.getfield 9, 3) := by decide +kernel
theorem d_AL_clear_14 : decode b_AL_clear 14 = .ok (.astore_n 1, 1) := by decide +kernel
theorem d_AL_clear_15 : decode b_AL_clear 15 = .ok (.aload_n 0, 1) := by decide +kernel
theorem d_AL_clear_16 : decode b_AL_clear 16 = .ok (.getfield 48, 3) := by decide +kernel
theorem d_AL_clear_19 : decode b_AL_clear 19 = .ok (.istore_n 2, 1) := by decide +kernel
theorem d_AL_clear_20 : decode b_AL_clear 20 = .ok (.aload_n 0, 1) := by decide +kernel
theorem d_AL_clear_21 : decode b_AL_clear 21 = .ok (.iconst 0, 1) := by decide +kernel
theorem d_AL_clear_22 : decode b_AL_clear 22 = .ok (.dup_x1, 1) := by decide +kernel
theorem d_AL_clear_23 : decode b_AL_clear 23 = .ok (.putfield 48, 3) := by decide +kernel
theorem d_AL_clear_26 : decode b_AL_clear 26 = .ok (.istore_n 3, 1) := by decide +kernel
theorem d_AL_clear_27 : decode b_AL_clear 27 = .ok (.iload_n 3, 1) := by decide +kernel
theorem d_AL_clear_28 : decode b_AL_clear 28 = .ok (.iload_n 2, 1) := by decide +kernel
theorem d_AL_clear_29 : decode b_AL_clear 29 = .ok (.if_icmp .ge 13, 3) := by decide +kernel
theorem d_AL_clear_32 : decode b_AL_clear 32 = .ok (.aload_n 1, 1) := by decide +kernel
theorem d_AL_clear_33 : decode b_AL_clear 33 = .ok (.iload_n 3, 1) := by decide +kernel
theorem d_AL_clear_34 : decode b_AL_clear 34 = .ok (.aconst_null, 1) := by decide +kernel
theorem d_AL_clear_35 : decode b_AL_clear 35 = .ok (.aastore, 1) := by decide +kernel
theorem d_AL_clear_36 : decode b_AL_clear 36 = .ok (.iinc 3 1, 3) := by decide +kernel
theorem d_AL_clear_39 : decode b_AL_clear 39 = .ok (.goto (-12), 3) := by decide +kernel
theorem d_AL_clear_42 : decode b_AL_clear 42 = .ok (.return_, 1) := by decide +kernel
theorem d_BG_unpack_0 : decode b_BG_unpack 0 = .ok (.aload_n 0, 1) := by decide +kernel
theorem d_BG_unpack_1 : decode b_BG_unpack 1 = .ok (.iload_n 1, 1) := by decide +kernel
theorem d_BG_unpack_2 : decode b_BG_unpack 2 = .ok (.invokevirtual 41, 3) := by decide +kernel
theorem d_BG_unpack_5 : decode b_BG_unpack 5 = .ok (.ifCond .ne 5, 3) := by decide +kernel
theorem d_BG_unpack_8 : decode b_BG_unpack 8 = .ok (.iconst (-1), 1) := by decide +kernel
theorem d_BG_unpack_9 : decode b_BG_unpack 9 = .ok (.ireturn, 1) := by decide +kernel
theorem d_BG_unpack_10 : decode b_BG_unpack 10 = .ok (.aload_n 0, 1) := by decide +kernel
theorem d_BG_unpack_11 : decode b_BG_unpack 11 = .ok (.getfield 16, 3) := by decide +kernel
theorem d_BG_unpack_14 : decode b_BG_unpack 14 = .ok (.iload_n 1, 1) := by decide +kernel
theorem d_BG_unpack_15 : decode b_BG_unpack 15 = .ok (.invokevirtual 49, 3) := by decide +kernel
theorem d_BG_unpack_18 : decode b_BG_unpack 18 = .ok (.checkcast 32, 3) := by decide +kernel
theorem d_BG_unpack_21 : decode b_BG_unpack 21 = .ok (.getfield 122, 3) := by decide +kernel
theorem d_BG_unpack_24 : decode b_BG_unpack 24 = .ok (.astore_n 2, 1) := by decide +kernel
theorem d_BG_unpack_25 : decode b_BG_unpack 25 = .ok (.aload_n 2, 1) := by decide +kernel
theorem d_BG_unpack_26 : decode b_BG_unpack 26 = .ok (.invokevirtual 27, 3) := by decide +kernel
theorem d_BG_unpack_29 : decode b_BG_unpack 29 = .ok (.istore_n 3, 1) := by decide +kernel
theorem d_BG_unpack_30 : decode b_BG_unpack 30 = .ok (.aload_n 0, 1) := by decide +kernel
theorem d_BG_unpack_31 : decode b_BG_unpack 31 = .ok (.getfield 10, 3) := by decide +kernel
theorem d_BG_unpack_34 : decode b_BG_unpack 34 = .ok (.invokevirtual 27, 3) := by decide +kernel
theorem d_BG_unpack_37 : decode b_BG_unpack 37 = .ok (.iload_n 3, 1) := by decide +kernel
theorem d_BG_unpack_38 : decode b_BG_unpack 38 = .ok (.iadd, 1) := by decide +kernel
theorem d_BG_unpack_39 : decode b_BG_unpack 39 = .ok (.bipush 40, 2) := by decide +kernel
theorem d_BG_unpack_41 : decode b_BG_unpack 41 = .ok (.if_icmp .le 6, 3) := by decide +kernel
theorem d_BG_unpack_44 : decode b_BG_unpack 44 = .ok (.bipush (-2), 2) := by decide +kernel
theorem d_BG_unpack_46 : decode b_BG_unpack 46 = .ok (.ireturn, 1) := by decide +kernel
theorem d_BG_unpack_47 : decode b_BG_unpack 47 = .ok (.iconst 0, 1) := by decide +kernel
theorem d_BG_unpack_48 : decode b_BG_unpack 48 = .ok (.istore 4, 2) := by decide +kernel
theorem d_BG_unpack_50 : decode b_BG_unpack 50 = .ok (.iload 4, 2) := by decide +kernel
theorem d_BG_unpack_52 : decode b_BG_unpack 52 = .ok (.iload_n 3, 1) := by decide +kernel
theorem d_BG_unpack_53 : decode b_BG_unpack 53 = .ok (.if_icmp .ge 29, 3) := by decide +kernel
theorem d_BG_unpack_56 : decode b_BG_unpack 56 = .ok (.aload_n 0, 1) := by decide +kernel
theorem d_BG_unpack_57 : decode b_BG_unpack 57 = .ok (.getfield 10, 3) := by decide +kernel
theorem d_BG_unpack_60 : decode b_BG_unpack 60 = .ok (.aload_n 2, 1) := by decide +kernel
theorem d_BG_unpack_61 : decode b_BG_unpack 61 = .ok (.iload 4, 2) := by decide +kernel
theorem d_BG_unpack_63 : decode b_BG_unpack 63 = .ok (.invokevirtual 49, 3) := by decide +kernel
theorem d_BG_unpack_66 : decode b_BG_unpack 66 = .ok (.checkcast 125, 3) := by decide +kernel
theorem d_BG_unpack_69 : decode b_BG_unpack 69 = .ok (.getfield 127, 3) := by decide +kernel
theorem d_BG_unpack_72 : decode b_BG_unpack 72 = .ok (.invokevirtual 37, 3) := by decide +kernel
theorem d_BG_unpack_75 : decode b_BG_unpack 75 = .ok (.pop, 1) := by decide +kernel
theorem d_BG_unpack_76 : decode b_BG_unpack 76 = .ok (.iinc 4 1, 3) := by decide +kernel
theorem d_BG_unpack_79 : decode b_BG_unpack 79 = .ok (.goto (-29), 3) := by decide +kernel
theorem d_BG_unpack_82 : decode b_BG_unpack 82 = .ok (.aload_n 0, 1) := by decide +kernel
theorem d_BG_unpack_83 : decode b_BG_unpack 83 = .ok (.getfield 10, 3) := by decide +kernel
theorem d_BG_unpack_86 : decode b_BG_unpack 86 = .ok (.invokevirtual 27, 3) := by decide +kernel
theorem d_BG_unpack_89 : decode b_BG_unpack 89 = .ok (.ireturn, 1) := by decide +kernel
theorem d_BG_told_0 : decode b_BG_told 0 = .ok (.aload_n 0, 1) := by decide +kernel
theorem d_BG_told_1 : decode b_BG_told 1 = .ok (.iload_n 1, 1) := by decide +kernel
theorem d_BG_told_2 : decode b_BG_told 2 = .ok (.invokevirtual 41, 3) := by decide +kernel
theorem d_BG_told_5 : decode b_BG_told 5 = .ok (.ifCond .ne 5, 3) := by decide +kernel
theorem d_BG_told_8 : decode b_BG_told 8 = .ok (.iconst (-1), 1) := by decide +kernel
theorem d_BG_told_9 : decode b_BG_told 9 = .ok (.ireturn, 1) := by decide +kernel
theorem d_BG_told_10 : decode b_BG_told 10 = .ok (.aload_n 0, 1) := by decide +kernel
theorem d_BG_told_11 : decode b_BG_told 11 = .ok (.getfield 16, 3) := by decide +kernel
theorem d_BG_told_14 : decode b_BG_told 14 = .ok (.iload_n 1, 1) := by decide +kernel
theorem d_BG_told_15 : decode b_BG_told 15 = .ok (.invokevirtual 49, 3) := by decide +kernel
theorem d_BG_told_18 : decode b_BG_told 18 = .ok (.checkcast 32, 3) := by decide +kernel
theorem d_BG_told_21 : decode b_BG_told 21 = .ok (.iload_n 2, 1) := by decide +kernel
theorem d_BG_told_22 : decode b_BG_told 22 = .ok (.invokevirtual 131, 3) := by decide +kernel
theorem d_BG_told_25 : decode b_BG_told 25 = .ok (.ireturn, 1) := by decide +kernel
theorem d_Box_answer_0 : decode b_Box_answer 0 = .ok (.iload_n 1, 1) := by decide +kernel
theorem d_Box_answer_1 : decode b_Box_answer 1 = .ok (.tableswitch 102 0 7 #[47, 52, 57, 62, 70, 78, 86, 94], 47) := by decide +kernel
theorem d_Box_answer_48 : decode b_Box_answer 48 = .ok (.aload_n 0, 1) := by decide +kernel
theorem d_Box_answer_49 : decode b_Box_answer 49 = .ok (.getfield 9, 3) := by decide +kernel
theorem d_Box_answer_52 : decode b_Box_answer 52 = .ok (.ireturn, 1) := by decide +kernel
theorem d_Box_answer_53 : decode b_Box_answer 53 = .ok (.aload_n 0, 1) := by decide +kernel
theorem d_Box_answer_54 : decode b_Box_answer 54 = .ok (.getfield 15, 3) := by decide +kernel
theorem d_Box_answer_57 : decode b_Box_answer 57 = .ok (.ireturn, 1) := by decide +kernel
theorem d_Box_answer_58 : decode b_Box_answer 58 = .ok (.aload_n 0, 1) := by decide +kernel
theorem d_Box_answer_59 : decode b_Box_answer 59 = .ok (.getfield 18, 3) := by decide +kernel
theorem d_Box_answer_62 : decode b_Box_answer 62 = .ok (.ireturn, 1) := by decide +kernel
theorem d_Box_answer_63 : decode b_Box_answer 63 = .ok (.aload_n 0, 1) := by decide +kernel
theorem d_Box_answer_64 : decode b_Box_answer 64 = .ok (.getfield 25, 3) := by decide +kernel
theorem d_Box_answer_67 : decode b_Box_answer 67 = .ok (.invokevirtual 40, 3) := by decide +kernel
theorem d_Box_answer_70 : decode b_Box_answer 70 = .ok (.ireturn, 1) := by decide +kernel
theorem d_Box_answer_71 : decode b_Box_answer 71 = .ok (.aload_n 0, 1) := by decide +kernel
theorem d_Box_answer_72 : decode b_Box_answer 72 = .ok (.getfield 21, 3) := by decide +kernel
theorem d_Box_answer_75 : decode b_Box_answer 75 = .ok (.invokevirtual 90, 3) := by decide +kernel
theorem d_Box_answer_78 : decode b_Box_answer 78 = .ok (.ireturn, 1) := by decide +kernel
theorem d_Box_answer_79 : decode b_Box_answer 79 = .ok (.aload_n 0, 1) := by decide +kernel
theorem d_Box_answer_80 : decode b_Box_answer 80 = .ok (.getfield 21, 3) := by decide +kernel
theorem d_Box_answer_83 : decode b_Box_answer 83 = .ok (.invokevirtual 93, 3) := by decide +kernel
theorem d_Box_answer_86 : decode b_Box_answer 86 = .ok (.ireturn, 1) := by decide +kernel
theorem d_Box_answer_87 : decode b_Box_answer 87 = .ok (.aload_n 0, 1) := by decide +kernel
theorem d_Box_answer_88 : decode b_Box_answer 88 = .ok (.getfield 21, 3) := by decide +kernel
theorem d_Box_answer_91 : decode b_Box_answer 91 = .ok (.getfield 96, 3) := by decide +kernel
theorem d_Box_answer_94 : decode b_Box_answer 94 = .ok (.ireturn, 1) := by decide +kernel
theorem d_Box_answer_95 : decode b_Box_answer 95 = .ok (.aload_n 0, 1) := by decide +kernel
theorem d_Box_answer_96 : decode b_Box_answer 96 = .ok (.getfield 21, 3) := by decide +kernel
theorem d_Box_answer_99 : decode b_Box_answer 99 = .ok (.getfield 99, 3) := by decide +kernel
theorem d_Box_answer_102 : decode b_Box_answer 102 = .ok (.ireturn, 1) := by decide +kernel
theorem d_Box_answer_103 : decode b_Box_answer 103 = .ok (.iconst (-1), 1) := by decide +kernel
theorem d_Box_answer_104 : decode b_Box_answer 104 = .ok (.ireturn, 1) := by decide +kernel
theorem d_Fit_badness_0 : decode b_Fit_badness 0 = .ok (.aload_n 0, 1) := by decide +kernel
theorem d_Fit_badness_1 : decode b_Fit_badness 1 = .ok (.getfield 15, 3) := by decide +kernel
theorem d_Fit_badness_4 : decode b_Fit_badness 4 = .ok (.ifCond .eq 10, 3) := by decide +kernel
theorem d_Fit_badness_7 : decode b_Fit_badness 7 = .ok (.aload_n 0, 1) := by decide +kernel
theorem d_Fit_badness_8 : decode b_Fit_badness 8 = .ok (.getfield 18, 3) := by decide +kernel
theorem d_Fit_badness_11 : decode b_Fit_badness 11 = .ok (.ifCond .le 5, 3) := by decide +kernel
theorem d_Fit_badness_14 : decode b_Fit_badness 14 = .ok (.iconst 0, 1) := by decide +kernel
theorem d_Fit_badness_15 : decode b_Fit_badness 15 = .ok (.ireturn, 1) := by decide +kernel
theorem d_Fit_badness_16 : decode b_Fit_badness 16 = .ok (.aload_n 0, 1) := by decide +kernel
theorem d_Fit_badness_17 : decode b_Fit_badness 17 = .ok (.invokevirtual 60, 3) := by decide +kernel
theorem d_Fit_badness_20 : decode b_Fit_badness 20 = .ok (.ifCond .le 6, 3) := by decide +kernel
theorem d_Fit_badness_23 : decode b_Fit_badness 23 = .ok (.ldc 69, 2) := by decide +kernel
theorem d_Fit_badness_25 : decode b_Fit_badness 25 = .ok (.ireturn, 1) := by decide +kernel
theorem d_Fit_badness_26 : decode b_Fit_badness 26 = .ok (.aload_n 0, 1) := by decide +kernel
theorem d_Fit_badness_27 : decode b_Fit_badness 27 = .ok (.aload_n 0, 1) := by decide +kernel
theorem d_Fit_badness_28 : decode b_Fit_badness 28 = .ok (.getfield 15, 3) := by decide +kernel
theorem d_Fit_badness_31 : decode b_Fit_badness 31 = .ok (.invokestatic 70, 3) := by decide +kernel
theorem d_Fit_badness_34 : decode b_Fit_badness 34 = .ok (.i2l, 1) := by decide +kernel
theorem d_Fit_badness_35 : decode b_Fit_badness 35 = .ok (.invokevirtual 73, 3) := by decide +kernel
theorem d_Fit_badness_38 : decode b_Fit_badness 38 = .ok (.ireturn, 1) := by decide +kernel
theorem d_Math_abs_0 : decode b_Math_abs 0 = .ok (.iload_n 0, 1) := by decide +kernel
theorem d_Math_abs_1 : decode b_Math_abs 1 = .ok (.ifCond .ge 8, 3) := by decide +kernel
theorem d_Math_abs_4 : decode b_Math_abs 4 = .ok (.iload_n 0, 1) := by decide +kernel
theorem d_Math_abs_5 : decode b_Math_abs 5 = .ok (.ineg, 1) := by decide +kernel
theorem d_Math_abs_6 : decode b_Math_abs 6 = .ok (.goto 4, 3) := by decide +kernel
theorem d_Math_abs_9 : decode b_Math_abs 9 = .ok (.iload_n 0, 1) := by decide +kernel
theorem d_Math_abs_10 : decode b_Math_abs 10 = .ok (.ireturn, 1) := by decide +kernel
theorem d_Fit_cubed_0 : decode b_Fit_cubed 0 = .ok (.aload_n 0, 1) := by decide +kernel
theorem d_Fit_cubed_1 : decode b_Fit_cubed 1 = .ok (.getfield 21, 3) := by decide +kernel
theorem d_Fit_cubed_4 : decode b_Fit_cubed 4 = .ok (.ifCond .eq 17, 3) := by decide +kernel
theorem d_Fit_cubed_7 : decode b_Fit_cubed 7 = .ok (.lload_n 1, 1) := by decide +kernel
theorem d_Fit_cubed_8 : decode b_Fit_cubed 8 = .ok (.ldc2_w 77, 3) := by decide +kernel
theorem d_Fit_cubed_11 : decode b_Fit_cubed 11 = .ok (.aload_n 0, 1) := by decide +kernel
theorem d_Fit_cubed_12 : decode b_Fit_cubed 12 = .ok (.getfield 21, 3) := by decide +kernel
theorem d_Fit_cubed_15 : decode b_Fit_cubed 15 = .ok (.i2l, 1) := by decide +kernel
theorem d_Fit_cubed_16 : decode b_Fit_cubed 16 = .ok (.lmul, 1) := by decide +kernel
theorem d_Fit_cubed_17 : decode b_Fit_cubed 17 = .ok (.lcmp, 1) := by decide +kernel
theorem d_Fit_cubed_18 : decode b_Fit_cubed 18 = .ok (.ifCond .lt 7, 3) := by decide +kernel
theorem d_Fit_cubed_21 : decode b_Fit_cubed 21 = .ok (.sipush 10000, 3) := by decide +kernel
theorem d_Fit_cubed_24 : decode b_Fit_cubed 24 = .ok (.ireturn, 1) := by decide +kernel
theorem d_Fit_cubed_25 : decode b_Fit_cubed 25 = .ok (.aload_n 0, 1) := by decide +kernel
theorem d_Fit_cubed_26 : decode b_Fit_cubed 26 = .ok (.getfield 21, 3) := by decide +kernel
theorem d_Fit_cubed_29 : decode b_Fit_cubed 29 = .ok (.i2l, 1) := by decide +kernel
theorem d_Fit_cubed_30 : decode b_Fit_cubed 30 = .ok (.lstore_n 3, 1) := by decide +kernel
theorem d_Fit_cubed_31 : decode b_Fit_cubed 31 = .ok (.ldc2_w 79, 3) := by decide +kernel
theorem d_Fit_cubed_34 : decode b_Fit_cubed 34 = .ok (.lload_n 1, 1) := by decide +kernel
theorem d_Fit_cubed_35 : decode b_Fit_cubed 35 = .ok (.lmul, 1) := by decide +kernel
theorem d_Fit_cubed_36 : decode b_Fit_cubed 36 = .ok (.lload_n 1, 1) := by decide +kernel
theorem d_Fit_cubed_37 : decode b_Fit_cubed 37 = .ok (.lmul, 1) := by decide +kernel
theorem d_Fit_cubed_38 : decode b_Fit_cubed 38 = .ok (.lload_n 1, 1) := by decide +kernel
theorem d_Fit_cubed_39 : decode b_Fit_cubed 39 = .ok (.lmul, 1) := by decide +kernel
theorem d_Fit_cubed_40 : decode b_Fit_cubed 40 = .ok (.lload_n 3, 1) := by decide +kernel
theorem d_Fit_cubed_41 : decode b_Fit_cubed 41 = .ok (.lload_n 3, 1) := by decide +kernel
theorem d_Fit_cubed_42 : decode b_Fit_cubed 42 = .ok (.lmul, 1) := by decide +kernel
theorem d_Fit_cubed_43 : decode b_Fit_cubed 43 = .ok (.lload_n 3, 1) := by decide +kernel
theorem d_Fit_cubed_44 : decode b_Fit_cubed 44 = .ok (.lmul, 1) := by decide +kernel
theorem d_Fit_cubed_45 : decode b_Fit_cubed 45 = .ok (.ldiv, 1) := by decide +kernel
theorem d_Fit_cubed_46 : decode b_Fit_cubed 46 = .ok (.lstore 5, 2) := by decide +kernel
theorem d_Fit_cubed_48 : decode b_Fit_cubed 48 = .ok (.lload 5, 2) := by decide +kernel
theorem d_Fit_cubed_50 : decode b_Fit_cubed 50 = .ok (.ldc2_w 81, 3) := by decide +kernel
theorem d_Fit_cubed_53 : decode b_Fit_cubed 53 = .ok (.invokestatic 83, 3) := by decide +kernel
theorem d_Fit_cubed_56 : decode b_Fit_cubed 56 = .ok (.l2i, 1) := by decide +kernel
theorem d_Fit_cubed_57 : decode b_Fit_cubed 57 = .ok (.ireturn, 1) := by decide +kernel
theorem d_Math_min2_0 : decode b_Math_min2 0 = .ok (.lload_n 0, 1) := by decide +kernel
theorem d_Math_min2_1 : decode b_Math_min2 1 = .ok (.lload_n 2, 1) := by decide +kernel
theorem d_Math_min2_2 : decode b_Math_min2 2 = .ok (.lcmp, 1) := by decide +kernel
theorem d_Math_min2_3 : decode b_Math_min2 3 = .ok (.ifCond .gt 7, 3) := by decide +kernel
theorem d_Math_min2_6 : decode b_Math_min2 6 = .ok (.lload_n 0, 1) := by decide +kernel
theorem d_Math_min2_7 : decode b_Math_min2 7 = .ok (.goto 4, 3) := by decide +kernel
theorem d_Math_min2_10 : decode b_Math_min2 10 = .ok (.lload_n 2, 1) := by decide +kernel
theorem d_Math_min2_11 : decode b_Math_min2 11 = .ok (.lreturn, 1) := by decide +kernel
theorem d_BG_item_0 : decode b_BG_item 0 = .ok (.aload_n 0, 1) := by decide +kernel
theorem d_BG_item_1 : decode b_BG_item 1 = .ok (.iload_n 1, 1) := by decide +kernel
theorem d_BG_item_2 : decode b_BG_item 2 = .ok (.invokevirtual 41, 3) := by decide +kernel
