theorem d_Mod_sumOf_9 : decode b_Mod_sumOf 9 = .ok (.if_icmp .ge 73, 3) := by decide +kernel
theorem d_Mod_sumOf_12 : decode b_Mod_sumOf 12 = .ok (.aload_n 0, 1) := by decide +kernel
theorem d_Mod_sumOf_13 : decode b_Mod_sumOf 13 = .ok (.getfield 7, 3) := by decide +kernel
theorem d_Mod_sumOf_16 : decode b_Mod_sumOf 16 = .ok (.iload 6, 2) := by decide +kernel
theorem d_Mod_sumOf_18 : decode b_Mod_sumOf 18 = .ok (.iaload, 1) := by decide +kernel
theorem d_Mod_sumOf_19 : decode b_Mod_sumOf 19 = .ok (.iconst 2, 1) := by decide +kernel
theorem d_Mod_sumOf_20 : decode b_Mod_sumOf 20 = .ok (.if_icmp .ne 56, 3) := by decide +kernel
theorem d_Mod_sumOf_23 : decode b_Mod_sumOf 23 = .ok (.iload_n 1, 1) := by decide +kernel
theorem d_Mod_sumOf_24 : decode b_Mod_sumOf 24 = .ok (.ifCond .eq 13, 3) := by decide +kernel
theorem d_Mod_sumOf_27 : decode b_Mod_sumOf 27 = .ok (.aload_n 0, 1) := by decide +kernel
theorem d_Mod_sumOf_28 : decode b_Mod_sumOf 28 = .ok (.getfield 25, 3) := by decide +kernel
theorem d_Mod_sumOf_31 : decode b_Mod_sumOf 31 = .ok (.iload 6, 2) := by decide +kernel
theorem d_Mod_sumOf_33 : decode b_Mod_sumOf 33 = .ok (.iaload, 1) := by decide +kernel
theorem d_Mod_sumOf_34 : decode b_Mod_sumOf 34 = .ok (.goto 10, 3) := by decide +kernel
theorem d_Mod_sumOf_37 : decode b_Mod_sumOf 37 = .ok (.aload_n 0, 1) := by decide +kernel
theorem d_Mod_sumOf_38 : decode b_Mod_sumOf 38 = .ok (.getfield 31, 3) := by decide +kernel
theorem d_Mod_sumOf_41 : decode b_Mod_sumOf 41 = .ok (.iload 6, 2) := by decide +kernel
theorem d_Mod_sumOf_43 : decode b_Mod_sumOf 43 = .ok (.iaload, 1) := by decide +kernel
theorem d_Mod_sumOf_44 : decode b_Mod_sumOf 44 = .ok (.iload_n 2, 1) := by decide +kernel
theorem d_Mod_sumOf_45 : decode b_Mod_sumOf 45 = .ok (.if_icmp .ne 31, 3) := by decide +kernel
theorem d_Mod_sumOf_48 : decode b_Mod_sumOf 48 = .ok (.lload 4, 2) := by decide +kernel
theorem d_Mod_sumOf_50 : decode b_Mod_sumOf 50 = .ok (.iload_n 1, 1) := by decide +kernel
theorem d_Mod_sumOf_51 : decode b_Mod_sumOf 51 = .ok (.ifCond .eq 14, 3) := by decide +kernel
theorem d_Mod_sumOf_54 : decode b_Mod_sumOf 54 = .ok (.aload_n 0, 1) := by decide +kernel
theorem d_Mod_sumOf_55 : decode b_Mod_sumOf 55 = .ok (.getfield 22, 3) := by decide +kernel
theorem d_Mod_sumOf_58 : decode b_Mod_sumOf 58 = .ok (.iload 6, 2) := by decide +kernel
theorem d_Mod_sumOf_60 : decode b_Mod_sumOf 60 = .ok (.iaload, 1) := by decide +kernel
theorem d_Mod_sumOf_61 : decode b_Mod_sumOf 61 = .ok (.i2l, 1) := by decide +kernel
theorem d_Mod_sumOf_62 : decode b_Mod_sumOf 62 = .ok (.goto 11, 3) := by decide +kernel
theorem d_Mod_sumOf_65 : decode b_Mod_sumOf 65 = .ok (.aload_n 0, 1) := by decide +kernel
theorem d_Mod_sumOf_66 : decode b_Mod_sumOf 66 = .ok (.getfield 28, 3) := by decide +kernel
theorem d_Mod_sumOf_69 : decode b_Mod_sumOf 69 = .ok (.iload 6, 2) := by decide +kernel
theorem d_Mod_sumOf_71 : decode b_Mod_sumOf 71 = .ok (.iaload, 1) := by decide +kernel
theorem d_Mod_sumOf_72 : decode b_Mod_sumOf 72 = .ok (.i2l, 1) := by decide +kernel
theorem d_Mod_sumOf_73 : decode b_Mod_sumOf 73 = .ok (.ladd, 1) := by decide +kernel
theorem d_Mod_sumOf_74 : decode b_Mod_sumOf 74 = .ok (.lstore 4, 2) := by decide +kernel
theorem d_Mod_sumOf_76 : decode b_Mod_sumOf 76 = .ok (.iinc 6 1, 3) := by decide +kernel
theorem d_Mod_sumOf_79 : decode b_Mod_sumOf 79 = .ok (.goto (-73), 3) := by decide +kernel
theorem d_Mod_sumOf_82 : decode b_Mod_sumOf 82 = .ok (.lload 4, 2) := by decide +kernel
theorem d_Mod_sumOf_84 : decode b_Mod_sumOf 84 = .ok (.lreturn, 1) := by decide +kernel
theorem d_Mod_badness_0 : decode b_Mod_badness 0 = .ok (.lload_n 0, 1) := by decide +kernel
theorem d_Mod_badness_1 : decode b_Mod_badness 1 = .ok (.ldc2_w 100, 3) := by decide +kernel
theorem d_Mod_badness_4 : decode b_Mod_badness 4 = .ok (.lload_n 2, 1) := by decide +kernel
theorem d_Mod_badness_5 : decode b_Mod_badness 5 = .ok (.lmul, 1) := by decide +kernel
theorem d_Mod_badness_6 : decode b_Mod_badness 6 = .ok (.lcmp, 1) := by decide +kernel
theorem d_Mod_badness_7 : decode b_Mod_badness 7 = .ok (.ifCond .lt 7, 3) := by decide +kernel
theorem d_Mod_badness_10 : decode b_Mod_badness 10 = .ok (.sipush 10000, 3) := by decide +kernel
theorem d_Mod_badness_13 : decode b_Mod_badness 13 = .ok (.ireturn, 1) := by decide +kernel
theorem d_Mod_badness_14 : decode b_Mod_badness 14 = .ok (.ldc2_w 102, 3) := by decide +kernel
theorem d_Mod_badness_17 : decode b_Mod_badness 17 = .ok (.lload_n 0, 1) := by decide +kernel
theorem d_Mod_badness_18 : decode b_Mod_badness 18 = .ok (.lmul, 1) := by decide +kernel
theorem d_Mod_badness_19 : decode b_Mod_badness 19 = .ok (.lload_n 0, 1) := by decide +kernel
theorem d_Mod_badness_20 : decode b_Mod_badness 20 = .ok (.lmul, 1) := by decide +kernel
theorem d_Mod_badness_21 : decode b_Mod_badness 21 = .ok (.lload_n 0, 1) := by decide +kernel
theorem d_Mod_badness_22 : decode b_Mod_badness 22 = .ok (.lmul, 1) := by decide +kernel
theorem d_Mod_badness_23 : decode b_Mod_badness 23 = .ok (.lload_n 2, 1) := by decide +kernel
theorem d_Mod_badness_24 : decode b_Mod_badness 24 = .ok (.lload_n 2, 1) := by decide +kernel
theorem d_Mod_badness_25 : decode b_Mod_badness 25 = .ok (.lmul, 1) := by decide +kernel
theorem d_Mod_badness_26 : decode b_Mod_badness 26 = .ok (.lload_n 2, 1) := by decide +kernel
theorem d_Mod_badness_27 : decode b_Mod_badness 27 = .ok (.lmul, 1) := by decide +kernel
theorem d_Mod_badness_28 : decode b_Mod_badness 28 = .ok (.ldiv, 1) := by decide +kernel
theorem d_Mod_badness_29 : decode b_Mod_badness 29 = .ok (.lstore 4, 2) := by decide +kernel
theorem d_Mod_badness_31 : decode b_Mod_badness 31 = .ok (.lload 4, 2) := by decide +kernel
theorem d_Mod_badness_33 : decode b_Mod_badness 33 = .ok (.ldc2_w 104, 3) := by decide +kernel
theorem d_Mod_badness_36 : decode b_Mod_badness 36 = .ok (.lcmp, 1) := by decide +kernel
theorem d_Mod_badness_37 : decode b_Mod_badness 37 = .ok (.ifCond .le 9, 3) := by decide +kernel
theorem d_Mod_badness_40 : decode b_Mod_badness 40 = .ok (.sipush 10000, 3) := by decide +kernel
theorem d_Mod_badness_43 : decode b_Mod_badness 43 = .ok (.goto 6, 3) := by decide +kernel
theorem d_Mod_badness_46 : decode b_Mod_badness 46 = .ok (.lload 4, 2) := by decide +kernel
theorem d_Mod_badness_48 : decode b_Mod_badness 48 = .ok (.l2i, 1) := by decide +kernel
theorem d_Mod_badness_49 : decode b_Mod_badness 49 = .ok (.ireturn, 1) := by decide +kernel
theorem d_Mod_heightOf_0 : decode b_Mod_heightOf 0 = .ok (.aload_n 0, 1) := by decide +kernel
theorem d_Mod_heightOf_1 : decode b_Mod_heightOf 1 = .ok (.getfield 7, 3) := by decide +kernel
theorem d_Mod_heightOf_4 : decode b_Mod_heightOf 4 = .ok (.iload_n 1, 1) := by decide +kernel
theorem d_Mod_heightOf_5 : decode b_Mod_heightOf 5 = .ok (.iaload, 1) := by decide +kernel
theorem d_Mod_heightOf_6 : decode b_Mod_heightOf 6 = .ok (.iconst 1, 1) := by decide +kernel
theorem d_Mod_heightOf_7 : decode b_Mod_heightOf 7 = .ok (.if_icmp .ne 22, 3) := by decide +kernel
theorem d_Mod_heightOf_10 : decode b_Mod_heightOf 10 = .ok (.aload_n 0, 1) := by decide +kernel
theorem d_Mod_heightOf_11 : decode b_Mod_heightOf 11 = .ok (.getfield 50, 3) := by decide +kernel
theorem d_Mod_heightOf_14 : decode b_Mod_heightOf 14 = .ok (.aload_n 0, 1) := by decide +kernel
theorem d_Mod_heightOf_15 : decode b_Mod_heightOf 15 = .ok (.getfield 13, 3) := by decide +kernel
theorem d_Mod_heightOf_18 : decode b_Mod_heightOf 18 = .ok (.iload_n 1, 1) := by decide +kernel
theorem d_Mod_heightOf_19 : decode b_Mod_heightOf 19 = .ok (.iaload, 1) := by decide +kernel
theorem d_Mod_heightOf_20 : decode b_Mod_heightOf 20 = .ok (.iaload, 1) := by decide +kernel
theorem d_Mod_heightOf_21 : decode b_Mod_heightOf 21 = .ok (.aload_n 0, 1) := by decide +kernel
theorem d_Mod_heightOf_22 : decode b_Mod_heightOf 22 = .ok (.getfield 16, 3) := by decide +kernel
theorem d_Mod_heightOf_25 : decode b_Mod_heightOf 25 = .ok (.iload_n 1, 1) := by decide +kernel
theorem d_Mod_heightOf_26 : decode b_Mod_heightOf 26 = .ok (.iaload, 1) := by decide +kernel
theorem d_Mod_heightOf_27 : decode b_Mod_heightOf 27 = .ok (.isub, 1) := by decide +kernel
theorem d_Mod_heightOf_28 : decode b_Mod_heightOf 28 = .ok (.ireturn, 1) := by decide +kernel
theorem d_Mod_heightOf_29 : decode b_Mod_heightOf 29 = .ok (.aload_n 0, 1) := by decide +kernel
theorem d_Mod_heightOf_30 : decode b_Mod_heightOf 30 = .ok (.getfield 7, 3) := by decide +kernel
theorem d_Mod_heightOf_33 : decode b_Mod_heightOf 33 = .ok (.iload_n 1, 1) := by decide +kernel
theorem d_Mod_heightOf_34 : decode b_Mod_heightOf 34 = .ok (.iaload, 1) := by decide +kernel
theorem d_Mod_heightOf_35 : decode b_Mod_heightOf 35 = .ok (.iconst 4, 1) := by decide +kernel
theorem d_Mod_heightOf_36 : decode b_Mod_heightOf 36 = .ok (.if_icmp .eq 7, 3) := by decide +kernel
theorem d_Mod_heightOf_39 : decode b_Mod_heightOf 39 = .ok (.iconst 0, 1) := by decide +kernel
theorem d_Mod_heightOf_40 : decode b_Mod_heightOf 40 = .ok (.goto 24, 3) := by decide +kernel
theorem d_Mod_heightOf_43 : decode b_Mod_heightOf 43 = .ok (.aload_n 0, 1) := by decide +kernel
theorem d_Mod_heightOf_44 : decode b_Mod_heightOf 44 = .ok (.getfield 16, 3) := by decide +kernel
theorem d_Mod_heightOf_47 : decode b_Mod_heightOf 47 = .ok (.iload_n 1, 1) := by decide +kernel
theorem d_Mod_heightOf_48 : decode b_Mod_heightOf 48 = .ok (.iaload, 1) := by decide +kernel
theorem d_Mod_heightOf_49 : decode b_Mod_heightOf 49 = .ok (.ldc 95, 2) := by decide +kernel
theorem d_Mod_heightOf_51 : decode b_Mod_heightOf 51 = .ok (.if_icmp .ne 7, 3) := by decide +kernel
theorem d_Mod_heightOf_54 : decode b_Mod_heightOf 54 = .ok (.iload_n 2, 1) := by decide +kernel
theorem d_Mod_heightOf_55 : decode b_Mod_heightOf 55 = .ok (.goto 9, 3) := by decide +kernel
theorem d_Mod_heightOf_58 : decode b_Mod_heightOf 58 = .ok (.aload_n 0, 1) := by decide +kernel
theorem d_Mod_heightOf_59 : decode b_Mod_heightOf 59 = .ok (.getfield 16, 3) := by decide +kernel
theorem d_Mod_heightOf_62 : decode b_Mod_heightOf 62 = .ok (.iload_n 1, 1) := by decide +kernel
theorem d_Mod_heightOf_63 : decode b_Mod_heightOf 63 = .ok (.iaload, 1) := by decide +kernel
theorem d_Mod_heightOf_64 : decode b_Mod_heightOf 64 = .ok (.ireturn, 1) := by decide +kernel
theorem d_Mod_depthOf_0 : decode b_Mod_depthOf 0 = .ok (.aload_n 0, 1) := by decide +kernel
theorem d_Mod_depthOf_1 : decode b_Mod_depthOf 1 = .ok (.getfield 7, 3) := by decide +kernel
theorem d_Mod_depthOf_4 : decode b_Mod_depthOf 4 = .ok (.iload_n 1, 1) := by decide +kernel
theorem d_Mod_depthOf_5 : decode b_Mod_depthOf 5 = .ok (.iaload, 1) := by decide +kernel
theorem d_Mod_depthOf_6 : decode b_Mod_depthOf 6 = .ok (.iconst 1, 1) := by decide +kernel
theorem d_Mod_depthOf_7 : decode b_Mod_depthOf 7 = .ok (.if_icmp .ne 22, 3) := by decide +kernel
theorem d_Mod_depthOf_10 : decode b_Mod_depthOf 10 = .ok (.aload_n 0, 1) := by decide +kernel
theorem d_Mod_depthOf_11 : decode b_Mod_depthOf 11 = .ok (.getfield 53, 3) := by decide +kernel
theorem d_Mod_depthOf_14 : decode b_Mod_depthOf 14 = .ok (.aload_n 0, 1) := by decide +kernel
theorem d_Mod_depthOf_15 : decode b_Mod_depthOf 15 = .ok (.getfield 13, 3) := by decide +kernel
theorem d_Mod_depthOf_18 : decode b_Mod_depthOf 18 = .ok (.iload_n 1, 1) := by decide +kernel
theorem d_Mod_depthOf_19 : decode b_Mod_depthOf 19 = .ok (.iaload, 1) := by decide +kernel
theorem d_Mod_depthOf_20 : decode b_Mod_depthOf 20 = .ok (.iaload, 1) := by decide +kernel
theorem d_Mod_depthOf_21 : decode b_Mod_depthOf 21 = .ok (.aload_n 0, 1) := by decide +kernel
theorem d_Mod_depthOf_22 : decode b_Mod_depthOf 22 = .ok (.getfield 16, 3) := by decide +kernel
theorem d_Mod_depthOf_25 : decode b_Mod_depthOf 25 = .ok (.iload_n 1, 1) := by decide +kernel
theorem d_Mod_depthOf_26 : decode b_Mod_depthOf 26 = .ok (.iaload, 1) := by decide +kernel
theorem d_Mod_depthOf_27 : decode b_Mod_depthOf 27 = .ok (.iadd, 1) := by decide +kernel
theorem d_Mod_depthOf_28 : decode b_Mod_depthOf 28 = .ok (.ireturn, 1) := by decide +kernel
theorem d_Mod_depthOf_29 : decode b_Mod_depthOf 29 = .ok (.aload_n 0, 1) := by decide +kernel
theorem d_Mod_depthOf_30 : decode b_Mod_depthOf 30 = .ok (.getfield 7, 3) := by decide +kernel
theorem d_Mod_depthOf_33 : decode b_Mod_depthOf 33 = .ok (.iload_n 1, 1) := by decide +kernel
theorem d_Mod_depthOf_34 : decode b_Mod_depthOf 34 = .ok (.iaload, 1) := by decide +kernel
theorem d_Mod_depthOf_35 : decode b_Mod_depthOf 35 = .ok (.iconst 4, 1) := by decide +kernel
theorem d_Mod_depthOf_36 : decode b_Mod_depthOf 36 = .ok (.if_icmp .eq 7, 3) := by decide +kernel
theorem d_Mod_depthOf_39 : decode b_Mod_depthOf 39 = .ok (.iconst 0, 1) := by decide +kernel
theorem d_Mod_depthOf_40 : decode b_Mod_depthOf 40 = .ok (.goto 24, 3) := by decide +kernel
theorem d_Mod_depthOf_43 : decode b_Mod_depthOf 43 = .ok (.aload_n 0, 1) := by decide +kernel
theorem d_Mod_depthOf_44 : decode b_Mod_depthOf 44 = .ok (.getfield 19, 3) := by decide +kernel
theorem d_Mod_depthOf_47 : decode b_Mod_depthOf 47 = .ok (.iload_n 1, 1) := by decide +kernel
theorem d_Mod_depthOf_48 : decode b_Mod_depthOf 48 = .ok (.iaload, 1) := by decide +kernel
theorem d_Mod_depthOf_49 : decode b_Mod_depthOf 49 = .ok (.ldc 95, 2) := by decide +kernel
theorem d_Mod_depthOf_51 : decode b_Mod_depthOf 51 = .ok (.if_icmp .ne 7, 3) := by decide +kernel
theorem d_Mod_depthOf_54 : decode b_Mod_depthOf 54 = .ok (.iload_n 2, 1) := by decide +kernel
theorem d_Mod_depthOf_55 : decode b_Mod_depthOf 55 = .ok (.goto 9, 3) := by decide +kernel
theorem d_Mod_depthOf_58 : decode b_Mod_depthOf 58 = .ok (.aload_n 0, 1) := by decide +kernel
theorem d_Mod_depthOf_59 : decode b_Mod_depthOf 59 = .ok (.getfield 19, 3) := by decide +kernel
theorem d_Mod_depthOf_62 : decode b_Mod_depthOf 62 = .ok (.iload_n 1, 1) := by decide +kernel
theorem d_Mod_depthOf_63 : decode b_Mod_depthOf 63 = .ok (.iaload, 1) := by decide +kernel
theorem d_Mod_depthOf_64 : decode b_Mod_depthOf 64 = .ok (.ireturn, 1) := by decide +kernel
theorem d_Mod_copy_0 : decode b_Mod_copy 0 = .ok (.aload_n 0, 1) := by decide +kernel
theorem d_Mod_copy_1 : decode b_Mod_copy 1 = .ok (.getfield 7, 3) := by decide +kernel
theorem d_Mod_copy_4 : decode b_Mod_copy 4 = .ok (.iload_n 2, 1) := by decide +kernel
theorem d_Mod_copy_5 : decode b_Mod_copy 5 = .ok (.aload_n 0, 1) := by decide +kernel
theorem d_Mod_copy_6 : decode b_Mod_copy 6 = .ok (.getfield 7, 3) := by decide +kernel
theorem d_Mod_copy_9 : decode b_Mod_copy 9 = .ok (.iload_n 1, 1) := by decide +kernel
theorem d_Mod_copy_10 : decode b_Mod_copy 10 = .ok (.iaload, 1) := by decide +kernel
theorem d_Mod_copy_11 : decode b_Mod_copy 11 = .ok (.iastore, 1) := by decide +kernel
theorem d_Mod_copy_12 : decode b_Mod_copy 12 = .ok (.aload_n 0, 1) := by decide +kernel
theorem d_Mod_copy_13 : decode b_Mod_copy 13 = .ok (.getfield 13, 3) := by decide +kernel
theorem d_Mod_copy_16 : decode b_Mod_copy 16 = .ok (.iload_n 2, 1) := by decide +kernel
theorem d_Mod_copy_17 : decode b_Mod_copy 17 = .ok (.aload_n 0, 1) := by decide +kernel
theorem d_Mod_copy_18 : decode b_Mod_copy 18 = .ok (.getfield 13, 3) := by decide +kernel
theorem d_Mod_copy_21 : decode b_Mod_copy 21 = .ok (.iload_n 1, 1) := by decide +kernel
theorem d_Mod_copy_22 : decode b_Mod_copy 22 = .ok (.iaload, 1) := by decide +kernel
theorem d_Mod_copy_23 : decode b_Mod_copy 23 = .ok (.iastore, 1) := by decide +kernel
theorem d_Mod_copy_24 : decode b_Mod_copy 24 = .ok (.aload_n 0, 1) := by decide +kernel
theorem d_Mod_copy_25 : decode b_Mod_copy 25 = .ok (.getfield 16, 3) := by decide +kernel
theorem d_Mod_copy_28 : decode b_Mod_copy 28 = .ok (.iload_n 2, 1) := by decide +kernel
theorem d_Mod_copy_29 : decode b_Mod_copy 29 = .ok (.aload_n 0, 1) := by decide +kernel
theorem d_Mod_copy_30 : decode b_Mod_copy 30 = .ok (.getfield 16, 3) := by decide +kernel
theorem d_Mod_copy_33 : decode b_Mod_copy 33 = .ok (.iload_n 1, 1) := by decide +kernel
theorem d_Mod_copy_34 : decode b_Mod_copy 34 = .ok (.iaload, 1) := by decide +kernel
theorem d_Mod_copy_35 : decode b_Mod_copy 35 = .ok (.iastore, 1) := by decide +kernel
theorem d_Mod_copy_36 : decode b_Mod_copy 36 = .ok (.aload_n 0, 1) := by decide +kernel
theorem d_Mod_copy_37 : decode b_Mod_copy 37 = .ok (.getfield 19, 3) := by decide +kernel
theorem d_Mod_copy_40 : decode b_Mod_copy 40 = .ok (.iload_n 2, 1) := by decide +kernel
theorem d_Mod_copy_41 : decode b_Mod_copy 41 = .ok (.aload_n 0, 1) := by decide +kernel
theorem d_Mod_copy_42 : decode b_Mod_copy 42 = .ok (.getfield 19, 3) := by decide +kernel
theorem d_Mod_copy_45 : decode b_Mod_copy 45 = .ok (.iload_n 1, 1) := by decide +kernel
theorem d_Mod_copy_46 : decode b_Mod_copy 46 = .ok (.iaload, 1) := by decide +kernel
theorem d_Mod_copy_47 : decode b_Mod_copy 47 = .ok (.iastore, 1) := by decide +kernel
theorem d_Mod_copy_48 : decode b_Mod_copy 48 = .ok (.aload_n 0, 1) := by decide +kernel
theorem d_Mod_copy_49 : decode b_Mod_copy 49 = .ok (.getfield 22, 3) := by decide +kernel
theorem d_Mod_copy_52 : decode b_Mod_copy 52 = .ok (.iload_n 2, 1) := by decide +kernel
theorem d_Mod_copy_53 : decode b_Mod_copy 53 = .ok (.aload_n 0, 1) := by decide +kernel
theorem d_Mod_copy_54 : decode b_Mod_copy 54 = .ok (.getfield 22, 3) := by decide +kernel
theorem d_Mod_copy_57 : decode b_Mod_copy 57 = .ok (.iload_n 1, 1) := by decide +kernel
theorem d_Mod_copy_58 : decode b_Mod_copy 58 = .ok (.iaload, 1) := by decide +kernel
theorem d_Mod_copy_59 : decode b_Mod_copy 59 = .ok (.iastore, 1) := by decide +kernel
theorem d_Mod_copy_60 : decode b_Mod_copy 60 = .ok (.aload_n 0, 1) := by decide +kernel
theorem d_Mod_copy_61 : decode b_Mod_copy 61 = .ok (.getfield 25, 3) := by decide +kernel
theorem d_Mod_copy_64 : decode b_Mod_copy 64 = .ok (.iload_n 2, 1) := by decide +kernel
theorem d_Mod_copy_65 : decode b_Mod_copy 65 = .ok (.aload_n 0, 1) := by decide +kernel
theorem d_Mod_copy_66 : decode b_Mod_copy 66 = .ok (.getfield 25, 3) := by decide +kernel
theorem d_Mod_copy_69 : decode b_Mod_copy 69 = .ok (.iload_n 1, 1) := by decide +kernel
theorem d_Mod_copy_70 : decode b_Mod_copy 70 = .ok (.iaload, 1) := by decide +kernel
theorem d_Mod_copy_71 : decode b_Mod_copy 71 = .ok (.iastore, 1) := by decide +kernel
theorem d_Mod_copy_72 : decode b_Mod_copy 72 = .ok (.aload_n 0, 1) := by decide +kernel
theorem d_Mod_copy_73 : decode b_Mod_copy 73 = .ok (.getfield 28, 3) := by decide +kernel
theorem d_Mod_copy_76 : decode b_Mod_copy 76 = .ok (.iload_n 2, 1) := by decide +kernel
theorem d_Mod_copy_77 : decode b_Mod_copy 77 = .ok (.aload_n 0, 1) := by decide +kernel
theorem d_Mod_copy_78 : decode b_Mod_copy 78 = .ok (.getfield 28, 3) := by decide +kernel
theorem d_Mod_copy_81 : decode b_Mod_copy 81 = .ok (.iload_n 1, 1) := by decide +kernel
theorem d_Mod_copy_82 : decode b_Mod_copy 82 = .ok (.iaload, 1) := by decide +kernel
theorem d_Mod_copy_83 : decode b_Mod_copy 83 = .ok (.iastore, 1) := by decide +kernel
theorem d_Mod_copy_84 : decode b_Mod_copy 84 = .ok (.aload_n 0, 1) := by decide +kernel
theorem d_Mod_copy_85 : decode b_Mod_copy 85 = .ok (.getfield 31, 3) := by decide +kernel
theorem d_Mod_copy_88 : decode b_Mod_copy 88 = .ok (.iload_n 2, 1) := by decide +kernel
theorem d_Mod_copy_89 : decode b_Mod_copy 89 = .ok (.aload_n 0, 1) := by decide +kernel
theorem d_Mod_copy_90 : decode b_Mod_copy 90 = .ok (.getfield 31, 3) := by decide +kernel
theorem d_Mod_copy_93 : decode b_Mod_copy 93 = .ok (.iload_n 1, 1) := by decide +kernel
theorem d_Mod_copy_94 : decode b_Mod_copy 94 = .ok (.iaload, 1) := by decide +kernel
theorem d_Mod_copy_95 : decode b_Mod_copy 95 = .ok (.iastore, 1) := by decide +kernel
theorem d_Mod_copy_96 : decode b_Mod_copy 96 = .ok (.aload_n 0, 1) := by decide +kernel
theorem d_Mod_copy_97 : decode b_Mod_copy 97 = .ok (.getfield 34, 3) := by decide +kernel
theorem d_Mod_copy_100 : decode b_Mod_copy 100 = .ok (.iload_n 2, 1) := by decide +kernel
theorem d_Mod_copy_101 : decode b_Mod_copy 101 = .ok (.aload_n 0, 1) := by decide +kernel
theorem d_Mod_copy_102 : decode b_Mod_copy 102 = .ok (.getfield 34, 3) := by decide +kernel
theorem d_Mod_copy_105 : decode b_Mod_copy 105 = .ok (.iload_n 1, 1) := by decide +kernel
theorem d_Mod_copy_106 : decode b_Mod_copy 106 = .ok (.iaload, 1) := by decide +kernel
theorem d_Mod_copy_107 : decode b_Mod_copy 107 = .ok (.iastore, 1) := by decide +kernel
theorem d_Mod_copy_108 : decode b_Mod_copy 108 = .ok (.aload_n 0, 1) := by decide +kernel
theorem d_Mod_copy_109 : decode b_Mod_copy 109 = .ok (.getfield 37, 3) := by decide +kernel
theorem d_Mod_copy_112 : decode b_Mod_copy 112 = .ok (.iload_n 2, 1) := by decide +kernel
theorem d_Mod_copy_113 : decode b_Mod_copy 113 = .ok (.aload_n 0, 1) := by decide +kernel
theorem d_Mod_copy_114 : decode b_Mod_copy 114 = .ok (.getfield 37, 3) := by decide +kernel
theorem d_Mod_copy_117 : decode b_Mod_copy 117 = .ok (.iload_n 1, 1) := by decide +kernel
theorem d_Mod_copy_118 : decode b_Mod_copy 118 = .ok (.iaload, 1) := by decide +kernel
theorem d_Mod_copy_119 : decode b_Mod_copy 119 = .ok (.iastore, 1) := by decide +kernel
theorem d_Mod_copy_120 : decode b_Mod_copy 120 = .ok (.aload_n 0, 1) := by decide +kernel
theorem d_Mod_copy_121 : decode b_Mod_copy 121 = .ok (.getfield 40, 3) := by decide +kernel
theorem d_Mod_copy_124 : decode b_Mod_copy 124 = .ok (.iload_n 2, 1) := by decide +kernel
theorem d_Mod_copy_125 : decode b_Mod_copy 125 = .ok (.aload_n 0, 1) := by decide +kernel
theorem d_Mod_copy_126 : decode b_Mod_copy 126 = .ok (.getfield 40, 3) := by decide +kernel
theorem d_Mod_copy_129 : decode b_Mod_copy 129 = .ok (.iload_n 1, 1) := by decide +kernel
theorem d_Mod_copy_130 : decode b_Mod_copy 130 = .ok (.laload, 1) := by decide +kernel
theorem d_Mod_copy_131 : decode b_Mod_copy 131 = .ok (.lastore, 1) := by decide +kernel
theorem d_Mod_copy_132 : decode b_Mod_copy 132 = .ok (.aload_n 0, 1) := by decide +kernel
theorem d_Mod_copy_133 : decode b_Mod_copy 133 = .ok (.getfield 44, 3) := by decide +kernel
theorem d_Mod_copy_136 : decode b_Mod_copy 136 = .ok (.iload_n 2, 1) := by decide +kernel
theorem d_Mod_copy_137 : decode b_Mod_copy 137 = .ok (.aload_n 0, 1) := by decide +kernel
theorem d_Mod_copy_138 : decode b_Mod_copy 138 = .ok (.getfield 44, 3) := by decide +kernel
theorem d_Mod_copy_141 : decode b_Mod_copy 141 = .ok (.iload_n 1, 1) := by decide +kernel
theorem d_Mod_copy_142 : decode b_Mod_copy 142 = .ok (.laload, 1) := by decide +kernel
theorem d_Mod_copy_143 : decode b_Mod_copy 143 = .ok (.lastore, 1) := by decide +kernel
theorem d_Mod_copy_144 : decode b_Mod_copy 144 = .ok (.return_, 1) := by decide +kernel
theorem d_Mod_unpack_0 : decode b_Mod_unpack 0 = .ok (.aload_n 0, 1) := by decide +kernel
theorem d_Mod_unpack_1 : decode b_Mod_unpack 1 = .ok (.iload_n 1, 1) := by decide +kernel
theorem d_Mod_unpack_2 : decode b_Mod_unpack 2 = .ok (.invokevirtual 86, 3) := by decide +kernel
theorem d_Mod_unpack_5 : decode b_Mod_unpack 5 = .ok (.ifCond .ne 5, 3) := by decide +kernel
theorem d_Mod_unpack_8 : decode b_Mod_unpack 8 = .ok (.iconst (-1), 1) := by decide +kernel
theorem d_Mod_unpack_9 : decode b_Mod_unpack 9 = .ok (.ireturn, 1) := by decide +kernel
theorem d_Mod_unpack_10 : decode b_Mod_unpack 10 = .ok (.aload_n 0, 1) := by decide +kernel
theorem d_Mod_unpack_11 : decode b_Mod_unpack 11 = .ok (.getfield 83, 3) := by decide +kernel
theorem d_Mod_unpack_14 : decode b_Mod_unpack 14 = .ok (.aload_n 0, 1) := by decide +kernel
theorem d_Mod_unpack_15 : decode b_Mod_unpack 15 = .ok (.getfield 59, 3) := by decide +kernel
theorem d_Mod_unpack_18 : decode b_Mod_unpack 18 = .ok (.iload_n 1, 1) := by decide +kernel
theorem d_Mod_unpack_19 : decode b_Mod_unpack 19 = .ok (.iaload, 1) := by decide +kernel
theorem d_Mod_unpack_20 : decode b_Mod_unpack 20 = .ok (.iadd, 1) := by decide +kernel
theorem d_Mod_unpack_21 : decode b_Mod_unpack 21 = .ok (.bipush 40, 2) := by decide +kernel
theorem d_Mod_unpack_23 : decode b_Mod_unpack 23 = .ok (.if_icmp .le 6, 3) := by decide +kernel
theorem d_Mod_unpack_26 : decode b_Mod_unpack 26 = .ok (.bipush (-2), 2) := by decide +kernel
theorem d_Mod_unpack_28 : decode b_Mod_unpack 28 = .ok (.ireturn, 1) := by decide +kernel
theorem d_Mod_unpack_29 : decode b_Mod_unpack 29 = .ok (.iconst 0, 1) := by decide +kernel
theorem d_Mod_unpack_30 : decode b_Mod_unpack 30 = .ok (.istore_n 2, 1) := by decide +kernel
theorem d_Mod_unpack_31 : decode b_Mod_unpack 31 = .ok (.iload_n 2, 1) := by decide +kernel
theorem d_Mod_unpack_32 : decode b_Mod_unpack 32 = .ok (.aload_n 0, 1) := by decide +kernel
theorem d_Mod_unpack_33 : decode b_Mod_unpack 33 = .ok (.getfield 59, 3) := by decide +kernel
theorem d_Mod_unpack_36 : decode b_Mod_unpack 36 = .ok (.iload_n 1, 1) := by decide +kernel
theorem d_Mod_unpack_37 : decode b_Mod_unpack 37 = .ok (.iaload, 1) := by decide +kernel
theorem d_Mod_unpack_38 : decode b_Mod_unpack 38 = .ok (.if_icmp .ge 27, 3) := by decide +kernel
theorem d_Mod_unpack_41 : decode b_Mod_unpack 41 = .ok (.aload_n 0, 1) := by decide +kernel
theorem d_Mod_unpack_42 : decode b_Mod_unpack 42 = .ok (.aload_n 0, 1) := by decide +kernel
theorem d_Mod_unpack_43 : decode b_Mod_unpack 43 = .ok (.getfield 56, 3) := by decide +kernel
theorem d_Mod_unpack_46 : decode b_Mod_unpack 46 = .ok (.iload_n 1, 1) := by decide +kernel
theorem d_Mod_unpack_47 : decode b_Mod_unpack 47 = .ok (.iaload, 1) := by decide +kernel
theorem d_Mod_unpack_48 : decode b_Mod_unpack 48 = .ok (.iload_n 2, 1) := by decide +kernel
theorem d_Mod_unpack_49 : decode b_Mod_unpack 49 = .ok (.iadd, 1) := by decide +kernel
theorem d_Mod_unpack_50 : decode b_Mod_unpack 50 = .ok (.aload_n 0, 1) := by decide +kernel
theorem d_Mod_unpack_51 : decode b_Mod_unpack 51 = .ok (.getfield 83, 3) := by decide +kernel
theorem d_Mod_unpack_54 : decode b_Mod_unpack 54 = .ok (.iload_n 2, 1) := by decide +kernel
theorem d_Mod_unpack_55 : decode b_Mod_unpack 55 = .ok (.iadd, 1) := by decide +kernel
theorem d_Mod_unpack_56 : decode b_Mod_unpack 56 = .ok (.invokevirtual 134, 3) := by decide +kernel
theorem d_Mod_unpack_59 : decode b_Mod_unpack 59 = .ok (.iinc 2 1, 3) := by decide +kernel
theorem d_Mod_unpack_62 : decode b_Mod_unpack 62 = .ok (.goto (-31), 3) := by decide +kernel
theorem d_Mod_unpack_65 : decode b_Mod_unpack 65 = .ok (.aload_n 0, 1) := by decide +kernel
theorem d_Mod_unpack_66 : decode b_Mod_unpack 66 = .ok (.dup, 1) := by decide +kernel
theorem d_Mod_unpack_67 : decode b_Mod_unpack 67 = .ok (.getfield 83, 3) := by decide +kernel
theorem d_Mod_unpack_70 : decode b_Mod_unpack 70 = .ok (.aload_n 0, 1) := by decide +kernel
theorem d_Mod_unpack_71 : decode b_Mod_unpack 71 = .ok (.getfield 59, 3) := by decide +kernel
theorem d_Mod_unpack_74 : decode b_Mod_unpack 74 = .ok (.iload_n 1, 1) := by decide +kernel
theorem d_Mod_unpack_75 : decode b_Mod_unpack 75 = .ok (.iaload, 1) := by decide +kernel
theorem d_Mod_unpack_76 : decode b_Mod_unpack 76 = .ok (.iadd, 1) := by decide +kernel
theorem d_Mod_unpack_77 : decode b_Mod_unpack 77 = .ok (.putfield 83, 3) := by decide +kernel
theorem d_Mod_unpack_80 : decode b_Mod_unpack 80 = .ok (.aload_n 0, 1) := by decide +kernel
theorem d_Mod_unpack_81 : decode b_Mod_unpack 81 = .ok (.getfield 83, 3) := by decide +kernel
theorem d_Mod_unpack_84 : decode b_Mod_unpack 84 = .ok (.ireturn, 1) := by decide +kernel
theorem d_Mod_told_0 : decode b_Mod_told 0 = .ok (.aload_n 0, 1) := by decide +kernel
theorem d_Mod_told_1 : decode b_Mod_told 1 = .ok (.iload_n 1, 1) := by decide +kernel
theorem d_Mod_told_2 : decode b_Mod_told 2 = .ok (.invokevirtual 86, 3) := by decide +kernel
theorem d_Mod_told_5 : decode b_Mod_told 5 = .ok (.ifCond .eq 13, 3) := by decide +kernel
theorem d_Mod_told_8 : decode b_Mod_told 8 = .ok (.iload_n 2, 1) := by decide +kernel
theorem d_Mod_told_9 : decode b_Mod_told 9 = .ok (.iconst 0, 1) := by decide +kernel
theorem d_Mod_told_10 : decode b_Mod_told 10 = .ok (.bipush 7, 2) := by decide +kernel
theorem d_Mod_told_12 : decode b_Mod_told 12 = .ok (.invokestatic 79, 3) := by decide +kernel
theorem d_Mod_told_15 : decode b_Mod_told 15 = .ok (.ifCond .ne 5, 3) := by decide +kernel
theorem d_Mod_told_18 : decode b_Mod_told 18 = .ok (.iconst (-1), 1) := by decide +kernel
theorem d_Mod_told_19 : decode b_Mod_told 19 = .ok (.ireturn, 1) := by decide +kernel
theorem d_Mod_told_20 : decode b_Mod_told 20 = .ok (.iload_n 2, 1) := by decide +kernel
theorem d_Mod_told_21 : decode b_Mod_told 21 = .ok (.tableswitch 92 0 6 #[43, 50, 57, 64, 71, 78, 85], 43) := by decide +kernel
theorem d_Mod_told_64 : decode b_Mod_told 64 = .ok (.aload_n 0, 1) := by decide +kernel
theorem d_Mod_told_65 : decode b_Mod_told 65 = .ok (.getfield 47, 3) := by decide +kernel
theorem d_Mod_told_68 : decode b_Mod_told 68 = .ok (.iload_n 1, 1) := by decide +kernel
theorem d_Mod_told_69 : decode b_Mod_told 69 = .ok (.iaload, 1) := by decide +kernel
theorem d_Mod_told_70 : decode b_Mod_told 70 = .ok (.ireturn, 1) := by decide +kernel
theorem d_Mod_told_71 : decode b_Mod_told 71 = .ok (.aload_n 0, 1) := by decide +kernel
theorem d_Mod_told_72 : decode b_Mod_told 72 = .ok (.getfield 50, 3) := by decide +kernel
theorem d_Mod_told_75 : decode b_Mod_told 75 = .ok (.iload_n 1, 1) := by decide +kernel
theorem d_Mod_told_76 : decode b_Mod_told 76 = .ok (.iaload, 1) := by decide +kernel
theorem d_Mod_told_77 : decode b_Mod_told 77 = .ok (.ireturn, 1) := by decide +kernel
theorem d_Mod_told_78 : decode b_Mod_told 78 = .ok (.aload_n 0, 1) := by decide +kernel
theorem d_Mod_told_79 : decode b_Mod_told 79 = .ok (.getfield 53, 3) := by decide +kernel
theorem d_Mod_told_82 : decode b_Mod_told 82 = .ok (.iload_n 1, 1) := by decide +kernel
theorem d_Mod_told_83 : decode b_Mod_told 83 = .ok (.iaload, 1) := by decide +kernel
theorem d_Mod_told_84 : decode b_Mod_told 84 = .ok (.ireturn, 1) := by decide +kernel
theorem d_Mod_told_85 : decode b_Mod_told 85 = .ok (.aload_n 0, 1) := by decide +kernel
theorem d_Mod_told_86 : decode b_Mod_told 86 = .ok (.getfield 59, 3) := by decide +kernel
theorem d_Mod_told_89 : decode b_Mod_told 89 = .ok (.iload_n 1, 1) := by decide +kernel
theorem d_Mod_told_90 : decode b_Mod_told 90 = .ok (.iaload, 1) := by decide +kernel
theorem d_Mod_told_91 : decode b_Mod_told 91 = .ok (.ireturn, 1) := by decide +kernel
theorem d_Mod_told_92 : decode b_Mod_told 92 = .ok (.aload_n 0, 1) := by decide +kernel
theorem d_Mod_told_93 : decode b_Mod_told 93 = .ok (.getfield 62, 3) := by decide +kernel
theorem d_Mod_told_96 : decode b_Mod_told 96 = .ok (.iload_n 1, 1) := by decide +kernel
theorem d_Mod_told_97 : decode b_Mod_told 97 = .ok (.iaload, 1) := by decide +kernel
theorem d_Mod_told_98 : decode b_Mod_told 98 = .ok (.ireturn, 1) := by decide +kernel
theorem d_Mod_told_99 : decode b_Mod_told 99 = .ok (.aload_n 0, 1) := by decide +kernel
theorem d_Mod_told_100 : decode b_Mod_told 100 = .ok (.getfield 65, 3) := by decide +kernel
theorem d_Mod_told_103 : decode b_Mod_told 103 = .ok (.iload_n 1, 1) := by decide +kernel
theorem d_Mod_told_104 : decode b_Mod_told 104 = .ok (.iaload, 1) := by decide +kernel
theorem d_Mod_told_105 : decode b_Mod_told 105 = .ok (.ireturn, 1) := by decide +kernel
theorem d_Mod_told_106 : decode b_Mod_told 106 = .ok (.aload_n 0, 1) := by decide +kernel
theorem d_Mod_told_107 : decode b_Mod_told 107 = .ok (.getfield 68, 3) := by decide +kernel
theorem d_Mod_told_110 : decode b_Mod_told 110 = .ok (.iload_n 1, 1) := by decide +kernel
theorem d_Mod_told_111 : decode b_Mod_told 111 = .ok (.iaload, 1) := by decide +kernel
theorem d_Mod_told_112 : decode b_Mod_told 112 = .ok (.ireturn, 1) := by decide +kernel
theorem d_Mod_told_113 : decode b_Mod_told 113 = .ok (.aload_n 0, 1) := by decide +kernel
theorem d_Mod_told_114 : decode b_Mod_told 114 = .ok (.getfield 71, 3) := by decide +kernel
theorem d_Mod_told_117 : decode b_Mod_told 117 = .ok (.iload_n 1, 1) := by decide +kernel
theorem d_Mod_told_118 : decode b_Mod_told 118 = .ok (.iaload, 1) := by decide +kernel
theorem d_Mod_told_119 : decode b_Mod_told 119 = .ok (.ireturn, 1) := by decide +kernel
theorem d_Mod_item_0 : decode b_Mod_item 0 = .ok (.aload_n 0, 1) := by decide +kernel
theorem d_Mod_item_1 : decode b_Mod_item 1 = .ok (.iload_n 1, 1) := by decide +kernel
theorem d_Mod_item_2 : decode b_Mod_item 2 = .ok (.invokevirtual 86, 3) := by decide +kernel
theorem d_Mod_item_5 : decode b_Mod_item 5 = .ok (.ifCond .eq 27, 3) := by decide +kernel
theorem d_Mod_item_8 : decode b_Mod_item 8 = .ok (.iload_n 2, 1) := by decide +kernel
theorem d_Mod_item_9 : decode b_Mod_item 9 = .ok (.ifCond .lt 23, 3) := by decide +kernel
theorem d_Mod_item_12 : decode b_Mod_item 12 = .ok (.iload_n 2, 1) := by decide +kernel
theorem d_Mod_item_13 : decode b_Mod_item 13 = .ok (.aload_n 0, 1) := by decide +kernel
theorem d_Mod_item_14 : decode b_Mod_item 14 = .ok (.getfield 59, 3) := by decide +kernel
theorem d_Mod_item_17 : decode b_Mod_item 17 = .ok (.iload_n 1, 1) := by decide +kernel
theorem d_Mod_item_18 : decode b_Mod_item 18 = .ok (.iaload, 1) := by decide +kernel
theorem d_Mod_item_19 : decode b_Mod_item 19 = .ok (.if_icmp .ge 13, 3) := by decide +kernel
theorem d_Mod_item_22 : decode b_Mod_item 22 = .ok (.iload_n 3, 1) := by decide +kernel
theorem d_Mod_item_23 : decode b_Mod_item 23 = .ok (.iconst 0, 1) := by decide +kernel
theorem d_Mod_item_24 : decode b_Mod_item 24 = .ok (.bipush 7, 2) := by decide +kernel
theorem d_Mod_item_26 : decode b_Mod_item 26 = .ok (.invokestatic 79, 3) := by decide +kernel
theorem d_Mod_item_29 : decode b_Mod_item 29 = .ok (.ifCond .ne 5, 3) := by decide +kernel
theorem d_Mod_item_32 : decode b_Mod_item 32 = .ok (.iconst (-1), 1) := by decide +kernel
theorem d_Mod_item_33 : decode b_Mod_item 33 = .ok (.ireturn, 1) := by decide +kernel
theorem d_Mod_item_34 : decode b_Mod_item 34 = .ok (.aload_n 0, 1) := by decide +kernel
theorem d_Mod_item_35 : decode b_Mod_item 35 = .ok (.getfield 56, 3) := by decide +kernel
theorem d_Mod_item_38 : decode b_Mod_item 38 = .ok (.iload_n 1, 1) := by decide +kernel
theorem d_Mod_item_39 : decode b_Mod_item 39 = .ok (.iaload, 1) := by decide +kernel
theorem d_Mod_item_40 : decode b_Mod_item 40 = .ok (.iload_n 2, 1) := by decide +kernel
theorem d_Mod_item_41 : decode b_Mod_item 41 = .ok (.iadd, 1) := by decide +kernel
theorem d_Mod_item_42 : decode b_Mod_item 42 = .ok (.istore 4, 2) := by decide +kernel
theorem d_Mod_item_44 : decode b_Mod_item 44 = .ok (.iload_n 3, 1) := by decide +kernel
theorem d_Mod_item_45 : decode b_Mod_item 45 = .ok (.tableswitch 105 0 6 #[43, 51, 60, 69, 76, 84, 92], 43) := by decide +kernel
theorem d_Mod_item_88 : decode b_Mod_item 88 = .ok (.aload_n 0, 1) := by decide +kernel
theorem d_Mod_item_89 : decode b_Mod_item 89 = .ok (.getfield 7, 3) := by decide +kernel
theorem d_Mod_item_92 : decode b_Mod_item 92 = .ok (.iload 4, 2) := by decide +kernel
theorem d_Mod_item_94 : decode b_Mod_item 94 = .ok (.iaload, 1) := by decide +kernel
theorem d_Mod_item_95 : decode b_Mod_item 95 = .ok (.ireturn, 1) := by decide +kernel
theorem d_Mod_item_96 : decode b_Mod_item 96 = .ok (.aload_n 0, 1) := by decide +kernel
theorem d_Mod_item_97 : decode b_Mod_item 97 = .ok (.getfield 40, 3) := by decide +kernel
theorem d_Mod_item_100 : decode b_Mod_item 100 = .ok (.iload 4, 2) := by decide +kernel
theorem d_Mod_item_102 : decode b_Mod_item 102 = .ok (.laload, 1) := by decide +kernel
theorem d_Mod_item_103 : decode b_Mod_item 103 = .ok (.l2i, 1) := by decide +kernel
theorem d_Mod_item_104 : decode b_Mod_item 104 = .ok (.ireturn, 1) := by decide +kernel
theorem d_Mod_item_105 : decode b_Mod_item 105 = .ok (.aload_n 0, 1) := by decide +kernel
theorem d_Mod_item_106 : decode b_Mod_item 106 = .ok (.getfield 44, 3) := by decide +kernel
theorem d_Mod_item_109 : decode b_Mod_item 109 = .ok (.iload 4, 2) := by decide +kernel
theorem d_Mod_item_111 : decode b_Mod_item 111 = .ok (.laload, 1) := by decide +kernel
theorem d_Mod_item_112 : decode b_Mod_item 112 = .ok (.l2i, 1) := by decide +kernel
theorem d_Mod_item_113 : decode b_Mod_item 113 = .ok (.ireturn, 1) := by decide +kernel
theorem d_Mod_item_114 : decode b_Mod_item 114 = .ok (.aload_n 0, 1) := by decide +kernel
theorem d_Mod_item_115 : decode b_Mod_item 115 = .ok (.iload 4, 2) := by decide +kernel
theorem d_Mod_item_117 : decode b_Mod_item 117 = .ok (.invokevirtual 145, 3) := by decide +kernel
theorem d_Mod_item_120 : decode b_Mod_item 120 = .ok (.ireturn, 1) := by decide +kernel
theorem d_Mod_item_121 : decode b_Mod_item 121 = .ok (.aload_n 0, 1) := by decide +kernel
theorem d_Mod_item_122 : decode b_Mod_item 122 = .ok (.iload 4, 2) := by decide +kernel
theorem d_Mod_item_124 : decode b_Mod_item 124 = .ok (.invokevirtual 150, 3) := by decide +kernel
theorem d_Mod_item_127 : decode b_Mod_item 127 = .ok (.l2i, 1) := by decide +kernel
theorem d_Mod_item_128 : decode b_Mod_item 128 = .ok (.ireturn, 1) := by decide +kernel
theorem d_Mod_item_129 : decode b_Mod_item 129 = .ok (.aload_n 0, 1) := by decide +kernel
theorem d_Mod_item_130 : decode b_Mod_item 130 = .ok (.iload 4, 2) := by decide +kernel
theorem d_Mod_item_132 : decode b_Mod_item 132 = .ok (.invokevirtual 153, 3) := by decide +kernel
theorem d_Mod_item_135 : decode b_Mod_item 135 = .ok (.l2i, 1) := by decide +kernel
theorem d_Mod_item_136 : decode b_Mod_item 136 = .ok (.ireturn, 1) := by decide +kernel
theorem d_Mod_item_137 : decode b_Mod_item 137 = .ok (.aload_n 0, 1) := by decide +kernel
theorem d_Mod_item_138 : decode b_Mod_item 138 = .ok (.iload 4, 2) := by decide +kernel
theorem d_Mod_item_140 : decode b_Mod_item 140 = .ok (.aload_n 0, 1) := by decide +kernel
theorem d_Mod_item_141 : decode b_Mod_item 141 = .ok (.getfield 50, 3) := by decide +kernel
theorem d_Mod_item_144 : decode b_Mod_item 144 = .ok (.iload_n 1, 1) := by decide +kernel
theorem d_Mod_item_145 : decode b_Mod_item 145 = .ok (.iaload, 1) := by decide +kernel
theorem d_Mod_item_146 : decode b_Mod_item 146 = .ok (.invokevirtual 128, 3) := by decide +kernel
theorem d_Mod_item_149 : decode b_Mod_item 149 = .ok (.ireturn, 1) := by decide +kernel
theorem d_Mod_item_150 : decode b_Mod_item 150 = .ok (.aload_n 0, 1) := by decide +kernel
theorem d_Mod_item_151 : decode b_Mod_item 151 = .ok (.iload 4, 2) := by decide +kernel
theorem d_Mod_item_153 : decode b_Mod_item 153 = .ok (.aload_n 0, 1) := by decide +kernel
theorem d_Mod_item_154 : decode b_Mod_item 154 = .ok (.getfield 53, 3) := by decide +kernel
theorem d_Mod_item_157 : decode b_Mod_item 157 = .ok (.iload_n 1, 1) := by decide +kernel
theorem d_Mod_item_158 : decode b_Mod_item 158 = .ok (.iaload, 1) := by decide +kernel
theorem d_Mod_item_159 : decode b_Mod_item 159 = .ok (.invokevirtual 131, 3) := by decide +kernel
theorem d_Mod_item_162 : decode b_Mod_item 162 = .ok (.ireturn, 1) := by decide +kernel
theorem d_Mod_drawn_0 : decode b_Mod_drawn 0 = .ok (.aload_n 0, 1) := by decide +kernel
theorem d_Mod_drawn_1 : decode b_Mod_drawn 1 = .ok (.getfield 34, 3) := by decide +kernel
theorem d_Mod_drawn_4 : decode b_Mod_drawn 4 = .ok (.iload_n 1, 1) := by decide +kernel
theorem d_Mod_drawn_5 : decode b_Mod_drawn 5 = .ok (.iaload, 1) := by decide +kernel
theorem d_Mod_drawn_6 : decode b_Mod_drawn 6 = .ok (.ifCond .eq 27, 3) := by decide +kernel
theorem d_Mod_drawn_9 : decode b_Mod_drawn 9 = .ok (.aload_n 0, 1) := by decide +kernel
theorem d_Mod_drawn_10 : decode b_Mod_drawn 10 = .ok (.iload_n 1, 1) := by decide +kernel
theorem d_Mod_drawn_11 : decode b_Mod_drawn 11 = .ok (.invokevirtual 138, 3) := by decide +kernel
theorem d_Mod_drawn_14 : decode b_Mod_drawn 14 = .ok (.ifCond .eq 19, 3) := by decide +kernel
theorem d_Mod_drawn_17 : decode b_Mod_drawn 17 = .ok (.aload_n 0, 1) := by decide +kernel
theorem d_Mod_drawn_18 : decode b_Mod_drawn 18 = .ok (.getfield 40, 3) := by decide +kernel
theorem d_Mod_drawn_21 : decode b_Mod_drawn 21 = .ok (.iload_n 1, 1) := by decide +kernel
theorem d_Mod_drawn_22 : decode b_Mod_drawn 22 = .ok (.laload, 1) := by decide +kernel
theorem d_Mod_drawn_23 : decode b_Mod_drawn 23 = .ok (.aload_n 0, 1) := by decide +kernel
theorem d_Mod_drawn_24 : decode b_Mod_drawn 24 = .ok (.iload_n 1, 1) := by decide +kernel
theorem d_Mod_drawn_25 : decode b_Mod_drawn 25 = .ok (.invokevirtual 138, 3) := by decide +kernel
theorem d_Mod_drawn_28 : decode b_Mod_drawn 28 = .ok (.i2l, 1) := by decide +kernel
theorem d_Mod_drawn_29 : decode b_Mod_drawn 29 = .ok (.lcmp, 1) := by decide +kernel
theorem d_Mod_drawn_30 : decode b_Mod_drawn 30 = .ok (.ifCond .ge 5, 3) := by decide +kernel
theorem d_Mod_drawn_33 : decode b_Mod_drawn 33 = .ok (.iconst 0, 1) := by decide +kernel
theorem d_Mod_drawn_34 : decode b_Mod_drawn 34 = .ok (.ireturn, 1) := by decide +kernel
theorem d_Mod_drawn_35 : decode b_Mod_drawn 35 = .ok (.aload_n 0, 1) := by decide +kernel
theorem d_Mod_drawn_36 : decode b_Mod_drawn 36 = .ok (.getfield 34, 3) := by decide +kernel
theorem d_Mod_drawn_39 : decode b_Mod_drawn 39 = .ok (.iload_n 1, 1) := by decide +kernel
theorem d_Mod_drawn_40 : decode b_Mod_drawn 40 = .ok (.iaload, 1) := by decide +kernel
theorem d_Mod_drawn_41 : decode b_Mod_drawn 41 = .ok (.iconst 1, 1) := by decide +kernel
theorem d_Mod_drawn_42 : decode b_Mod_drawn 42 = .ok (.if_icmp .ne 43, 3) := by decide +kernel
theorem d_Mod_drawn_45 : decode b_Mod_drawn 45 = .ok (.aload_n 0, 1) := by decide +kernel
theorem d_Mod_drawn_46 : decode b_Mod_drawn 46 = .ok (.getfield 44, 3) := by decide +kernel
theorem d_Mod_drawn_49 : decode b_Mod_drawn 49 = .ok (.iload_n 1, 1) := by decide +kernel
theorem d_Mod_drawn_50 : decode b_Mod_drawn 50 = .ok (.laload, 1) := by decide +kernel
theorem d_Mod_drawn_51 : decode b_Mod_drawn 51 = .ok (.aload_n 0, 1) := by decide +kernel
theorem d_Mod_drawn_52 : decode b_Mod_drawn 52 = .ok (.getfield 40, 3) := by decide +kernel
theorem d_Mod_drawn_55 : decode b_Mod_drawn 55 = .ok (.iload_n 1, 1) := by decide +kernel
theorem d_Mod_drawn_56 : decode b_Mod_drawn 56 = .ok (.laload, 1) := by decide +kernel
theorem d_Mod_drawn_57 : decode b_Mod_drawn 57 = .ok (.ladd, 1) := by decide +kernel
theorem d_Mod_drawn_58 : decode b_Mod_drawn 58 = .ok (.aload_n 0, 1) := by decide +kernel
theorem d_Mod_drawn_59 : decode b_Mod_drawn 59 = .ok (.iload_n 1, 1) := by decide +kernel
theorem d_Mod_drawn_60 : decode b_Mod_drawn 60 = .ok (.invokevirtual 141, 3) := by decide +kernel
theorem d_Mod_drawn_63 : decode b_Mod_drawn 63 = .ok (.lsub, 1) := by decide +kernel
theorem d_Mod_drawn_64 : decode b_Mod_drawn 64 = .ok (.lstore_n 2, 1) := by decide +kernel
theorem d_Mod_drawn_65 : decode b_Mod_drawn 65 = .ok (.lload_n 2, 1) := by decide +kernel
theorem d_Mod_drawn_66 : decode b_Mod_drawn 66 = .ok (.lconst 0, 1) := by decide +kernel
theorem d_Mod_drawn_67 : decode b_Mod_drawn 67 = .ok (.lcmp, 1) := by decide +kernel
theorem d_Mod_drawn_68 : decode b_Mod_drawn 68 = .ok (.ifCond .ge 7, 3) := by decide +kernel
theorem d_Mod_drawn_71 : decode b_Mod_drawn 71 = .ok (.iconst 0, 1) := by decide +kernel
theorem d_Mod_drawn_72 : decode b_Mod_drawn 72 = .ok (.goto 12, 3) := by decide +kernel
theorem d_Mod_drawn_75 : decode b_Mod_drawn 75 = .ok (.lload_n 2, 1) := by decide +kernel
theorem d_Mod_drawn_76 : decode b_Mod_drawn 76 = .ok (.aload_n 0, 1) := by decide +kernel
theorem d_Mod_drawn_77 : decode b_Mod_drawn 77 = .ok (.iload_n 1, 1) := by decide +kernel
theorem d_Mod_drawn_78 : decode b_Mod_drawn 78 = .ok (.invokevirtual 138, 3) := by decide +kernel
theorem d_Mod_drawn_81 : decode b_Mod_drawn 81 = .ok (.i2l, 1) := by decide +kernel
theorem d_Mod_drawn_82 : decode b_Mod_drawn 82 = .ok (.ldiv, 1) := by decide +kernel
theorem d_Mod_drawn_83 : decode b_Mod_drawn 83 = .ok (.l2i, 1) := by decide +kernel
theorem d_Mod_drawn_84 : decode b_Mod_drawn 84 = .ok (.ireturn, 1) := by decide +kernel
theorem d_Mod_drawn_85 : decode b_Mod_drawn 85 = .ok (.aload_n 0, 1) := by decide +kernel
theorem d_Mod_drawn_86 : decode b_Mod_drawn 86 = .ok (.getfield 40, 3) := by decide +kernel
theorem d_Mod_drawn_89 : decode b_Mod_drawn 89 = .ok (.iload_n 1, 1) := by decide +kernel
theorem d_Mod_drawn_90 : decode b_Mod_drawn 90 = .ok (.laload, 1) := by decide +kernel
theorem d_Mod_drawn_91 : decode b_Mod_drawn 91 = .ok (.aload_n 0, 1) := by decide +kernel
theorem d_Mod_drawn_92 : decode b_Mod_drawn 92 = .ok (.iload_n 1, 1) := by decide +kernel
theorem d_Mod_drawn_93 : decode b_Mod_drawn 93 = .ok (.invokevirtual 138, 3) := by decide +kernel
theorem d_Mod_drawn_96 : decode b_Mod_drawn 96 = .ok (.i2l, 1) := by decide +kernel
theorem d_Mod_drawn_97 : decode b_Mod_drawn 97 = .ok (.ldiv, 1) := by decide +kernel
theorem d_Mod_drawn_98 : decode b_Mod_drawn 98 = .ok (.l2i, 1) := by decide +kernel
theorem d_Mod_drawn_99 : decode b_Mod_drawn 99 = .ok (.ireturn, 1) := by decide +kernel
theorem d_Mod_leaderLength_0 : decode b_Mod_leaderLength 0 = .ok (.aload_n 0, 1) := by decide +kernel
theorem d_Mod_leaderLength_1 : decode b_Mod_leaderLength 1 = .ok (.getfield 47, 3) := by decide +kernel
theorem d_Mod_leaderLength_4 : decode b_Mod_leaderLength 4 = .ok (.aload_n 0, 1) := by decide +kernel
theorem d_Mod_leaderLength_5 : decode b_Mod_leaderLength 5 = .ok (.getfield 37, 3) := by decide +kernel
theorem d_Mod_leaderLength_8 : decode b_Mod_leaderLength 8 = .ok (.iload_n 1, 1) := by decide +kernel
theorem d_Mod_leaderLength_9 : decode b_Mod_leaderLength 9 = .ok (.iaload, 1) := by decide +kernel
theorem d_Mod_leaderLength_10 : decode b_Mod_leaderLength 10 = .ok (.iaload, 1) := by decide +kernel
theorem d_Mod_leaderLength_11 : decode b_Mod_leaderLength 11 = .ok (.ireturn, 1) := by decide +kernel
theorem d_Mod_firstPlace_0 : decode b_Mod_firstPlace 0 = .ok (.aload_n 0, 1) := by decide +kernel
theorem d_Mod_firstPlace_1 : decode b_Mod_firstPlace 1 = .ok (.iload_n 1, 1) := by decide +kernel
theorem d_Mod_firstPlace_2 : decode b_Mod_firstPlace 2 = .ok (.invokevirtual 138, 3) := by decide +kernel
theorem d_Mod_firstPlace_5 : decode b_Mod_firstPlace 5 = .ok (.i2l, 1) := by decide +kernel
theorem d_Mod_firstPlace_6 : decode b_Mod_firstPlace 6 = .ok (.lstore_n 2, 1) := by decide +kernel
theorem d_Mod_firstPlace_7 : decode b_Mod_firstPlace 7 = .ok (.aload_n 0, 1) := by decide +kernel
theorem d_Mod_firstPlace_8 : decode b_Mod_firstPlace 8 = .ok (.getfield 44, 3) := by decide +kernel
theorem d_Mod_firstPlace_11 : decode b_Mod_firstPlace 11 = .ok (.iload_n 1, 1) := by decide +kernel
theorem d_Mod_firstPlace_12 : decode b_Mod_firstPlace 12 = .ok (.laload, 1) := by decide +kernel
theorem d_Mod_firstPlace_13 : decode b_Mod_firstPlace 13 = .ok (.lload_n 2, 1) := by decide +kernel
theorem d_Mod_firstPlace_14 : decode b_Mod_firstPlace 14 = .ok (.lrem, 1) := by decide +kernel
theorem d_Mod_firstPlace_15 : decode b_Mod_firstPlace 15 = .ok (.lstore 4, 2) := by decide +kernel
theorem d_Mod_firstPlace_17 : decode b_Mod_firstPlace 17 = .ok (.lload 4, 2) := by decide +kernel
theorem d_Mod_firstPlace_19 : decode b_Mod_firstPlace 19 = .ok (.lconst 0, 1) := by decide +kernel
theorem d_Mod_firstPlace_20 : decode b_Mod_firstPlace 20 = .ok (.lcmp, 1) := by decide +kernel
theorem d_Mod_firstPlace_21 : decode b_Mod_firstPlace 21 = .ok (.ifCond .ne 12, 3) := by decide +kernel
theorem d_Mod_firstPlace_24 : decode b_Mod_firstPlace 24 = .ok (.aload_n 0, 1) := by decide +kernel
theorem d_Mod_firstPlace_25 : decode b_Mod_firstPlace 25 = .ok (.getfield 44, 3) := by decide +kernel
theorem d_Mod_firstPlace_28 : decode b_Mod_firstPlace 28 = .ok (.iload_n 1, 1) := by decide +kernel
theorem d_Mod_firstPlace_29 : decode b_Mod_firstPlace 29 = .ok (.laload, 1) := by decide +kernel
theorem d_Mod_firstPlace_30 : decode b_Mod_firstPlace 30 = .ok (.goto 33, 3) := by decide +kernel
theorem d_Mod_firstPlace_33 : decode b_Mod_firstPlace 33 = .ok (.lload 4, 2) := by decide +kernel
theorem d_Mod_firstPlace_35 : decode b_Mod_firstPlace 35 = .ok (.lconst 0, 1) := by decide +kernel
theorem d_Mod_firstPlace_36 : decode b_Mod_firstPlace 36 = .ok (.lcmp, 1) := by decide +kernel
theorem d_Mod_firstPlace_37 : decode b_Mod_firstPlace 37 = .ok (.ifCond .ge 15, 3) := by decide +kernel
theorem d_Mod_firstPlace_40 : decode b_Mod_firstPlace 40 = .ok (.aload_n 0, 1) := by decide +kernel
theorem d_Mod_firstPlace_41 : decode b_Mod_firstPlace 41 = .ok (.getfield 44, 3) := by decide +kernel
theorem d_Mod_firstPlace_44 : decode b_Mod_firstPlace 44 = .ok (.iload_n 1, 1) := by decide +kernel
theorem d_Mod_firstPlace_45 : decode b_Mod_firstPlace 45 = .ok (.laload, 1) := by decide +kernel
theorem d_Mod_firstPlace_46 : decode b_Mod_firstPlace 46 = .ok (.lload 4, 2) := by decide +kernel
theorem d_Mod_firstPlace_48 : decode b_Mod_firstPlace 48 = .ok (.lsub, 1) := by decide +kernel
theorem d_Mod_firstPlace_49 : decode b_Mod_firstPlace 49 = .ok (.goto 14, 3) := by decide +kernel
theorem d_Mod_firstPlace_52 : decode b_Mod_firstPlace 52 = .ok (.aload_n 0, 1) := by decide +kernel
theorem d_Mod_firstPlace_53 : decode b_Mod_firstPlace 53 = .ok (.getfield 44, 3) := by decide +kernel
theorem d_Mod_firstPlace_56 : decode b_Mod_firstPlace 56 = .ok (.iload_n 1, 1) := by decide +kernel
theorem d_Mod_firstPlace_57 : decode b_Mod_firstPlace 57 = .ok (.laload, 1) := by decide +kernel
theorem d_Mod_firstPlace_58 : decode b_Mod_firstPlace 58 = .ok (.lload 4, 2) := by decide +kernel
theorem d_Mod_firstPlace_60 : decode b_Mod_firstPlace 60 = .ok (.lsub, 1) := by decide +kernel
theorem d_Mod_firstPlace_61 : decode b_Mod_firstPlace 61 = .ok (.lload_n 2, 1) := by decide +kernel
theorem d_Mod_firstPlace_62 : decode b_Mod_firstPlace 62 = .ok (.ladd, 1) := by decide +kernel
theorem d_Mod_firstPlace_63 : decode b_Mod_firstPlace 63 = .ok (.lreturn, 1) := by decide +kernel
theorem d_Mod_firstOf_0 : decode b_Mod_firstOf 0 = .ok (.aload_n 0, 1) := by decide +kernel
theorem d_Mod_firstOf_1 : decode b_Mod_firstOf 1 = .ok (.iload_n 1, 1) := by decide +kernel
theorem d_Mod_firstOf_2 : decode b_Mod_firstOf 2 = .ok (.invokevirtual 145, 3) := by decide +kernel
theorem d_Mod_firstOf_5 : decode b_Mod_firstOf 5 = .ok (.istore_n 2, 1) := by decide +kernel
theorem d_Mod_firstOf_6 : decode b_Mod_firstOf 6 = .ok (.iload_n 2, 1) := by decide +kernel
theorem d_Mod_firstOf_7 : decode b_Mod_firstOf 7 = .ok (.ifCond .ne 5, 3) := by decide +kernel
theorem d_Mod_firstOf_10 : decode b_Mod_firstOf 10 = .ok (.lconst 0, 1) := by decide +kernel
theorem d_Mod_firstOf_11 : decode b_Mod_firstOf 11 = .ok (.lreturn, 1) := by decide +kernel
theorem d_Mod_firstOf_12 : decode b_Mod_firstOf 12 = .ok (.aload_n 0, 1) := by decide +kernel
theorem d_Mod_firstOf_13 : decode b_Mod_firstOf 13 = .ok (.getfield 40, 3) := by decide +kernel
theorem d_Mod_firstOf_16 : decode b_Mod_firstOf 16 = .ok (.iload_n 1, 1) := by decide +kernel
theorem d_Mod_firstOf_17 : decode b_Mod_firstOf 17 = .ok (.laload, 1) := by decide +kernel
theorem d_Mod_firstOf_18 : decode b_Mod_firstOf 18 = .ok (.iload_n 2, 1) := by decide +kernel
theorem d_Mod_firstOf_19 : decode b_Mod_firstOf 19 = .ok (.i2l, 1) := by decide +kernel
theorem d_Mod_firstOf_20 : decode b_Mod_firstOf 20 = .ok (.aload_n 0, 1) := by decide +kernel
theorem d_Mod_firstOf_21 : decode b_Mod_firstOf 21 = .ok (.iload_n 1, 1) := by decide +kernel
theorem d_Mod_firstOf_22 : decode b_Mod_firstOf 22 = .ok (.invokevirtual 138, 3) := by decide +kernel
theorem d_Mod_firstOf_25 : decode b_Mod_firstOf 25 = .ok (.i2l, 1) := by decide +kernel
theorem d_Mod_firstOf_26 : decode b_Mod_firstOf 26 = .ok (.lmul, 1) := by decide +kernel
theorem d_Mod_firstOf_27 : decode b_Mod_firstOf 27 = .ok (.lsub, 1) := by decide +kernel
theorem d_Mod_firstOf_28 : decode b_Mod_firstOf 28 = .ok (.lstore_n 3, 1) := by decide +kernel
theorem d_Mod_firstOf_29 : decode b_Mod_firstOf 29 = .ok (.aload_n 0, 1) := by decide +kernel
theorem d_Mod_firstOf_30 : decode b_Mod_firstOf 30 = .ok (.getfield 34, 3) := by decide +kernel
theorem d_Mod_firstOf_33 : decode b_Mod_firstOf 33 = .ok (.iload_n 1, 1) := by decide +kernel
theorem d_Mod_firstOf_34 : decode b_Mod_firstOf 34 = .ok (.iaload, 1) := by decide +kernel
theorem d_Mod_firstOf_35 : decode b_Mod_firstOf 35 = .ok (.iconst 1, 1) := by decide +kernel
theorem d_Mod_firstOf_36 : decode b_Mod_firstOf 36 = .ok (.if_icmp .ne 11, 3) := by decide +kernel
theorem d_Mod_firstOf_39 : decode b_Mod_firstOf 39 = .ok (.aload_n 0, 1) := by decide +kernel
theorem d_Mod_firstOf_40 : decode b_Mod_firstOf 40 = .ok (.iload_n 1, 1) := by decide +kernel
theorem d_Mod_firstOf_41 : decode b_Mod_firstOf 41 = .ok (.invokevirtual 141, 3) := by decide +kernel
theorem d_Mod_firstOf_44 : decode b_Mod_firstOf 44 = .ok (.goto 41, 3) := by decide +kernel
theorem d_Mod_firstOf_47 : decode b_Mod_firstOf 47 = .ok (.aload_n 0, 1) := by decide +kernel
theorem d_Mod_firstOf_48 : decode b_Mod_firstOf 48 = .ok (.getfield 34, 3) := by decide +kernel
theorem d_Mod_firstOf_51 : decode b_Mod_firstOf 51 = .ok (.iload_n 1, 1) := by decide +kernel
theorem d_Mod_firstOf_52 : decode b_Mod_firstOf 52 = .ok (.iaload, 1) := by decide +kernel
theorem d_Mod_firstOf_53 : decode b_Mod_firstOf 53 = .ok (.iconst 2, 1) := by decide +kernel
theorem d_Mod_firstOf_54 : decode b_Mod_firstOf 54 = .ok (.if_icmp .ne 18, 3) := by decide +kernel
theorem d_Mod_firstOf_57 : decode b_Mod_firstOf 57 = .ok (.aload_n 0, 1) := by decide +kernel
theorem d_Mod_firstOf_58 : decode b_Mod_firstOf 58 = .ok (.getfield 44, 3) := by decide +kernel
theorem d_Mod_firstOf_61 : decode b_Mod_firstOf 61 = .ok (.iload_n 1, 1) := by decide +kernel
theorem d_Mod_firstOf_62 : decode b_Mod_firstOf 62 = .ok (.laload, 1) := by decide +kernel
theorem d_Mod_firstOf_63 : decode b_Mod_firstOf 63 = .ok (.lload_n 3, 1) := by decide +kernel
theorem d_Mod_firstOf_64 : decode b_Mod_firstOf 64 = .ok (.ldc2_w 148, 3) := by decide +kernel
theorem d_Mod_firstOf_67 : decode b_Mod_firstOf 67 = .ok (.ldiv, 1) := by decide +kernel
theorem d_Mod_firstOf_68 : decode b_Mod_firstOf 68 = .ok (.ladd, 1) := by decide +kernel
theorem d_Mod_firstOf_69 : decode b_Mod_firstOf 69 = .ok (.goto 16, 3) := by decide +kernel
theorem d_Mod_firstOf_72 : decode b_Mod_firstOf 72 = .ok (.aload_n 0, 1) := by decide +kernel
theorem d_Mod_firstOf_73 : decode b_Mod_firstOf 73 = .ok (.getfield 44, 3) := by decide +kernel
theorem d_Mod_firstOf_76 : decode b_Mod_firstOf 76 = .ok (.iload_n 1, 1) := by decide +kernel
theorem d_Mod_firstOf_77 : decode b_Mod_firstOf 77 = .ok (.laload, 1) := by decide +kernel
theorem d_Mod_firstOf_78 : decode b_Mod_firstOf 78 = .ok (.lload_n 3, 1) := by decide +kernel
theorem d_Mod_firstOf_79 : decode b_Mod_firstOf 79 = .ok (.iload_n 2, 1) := by decide +kernel
theorem d_Mod_firstOf_80 : decode b_Mod_firstOf 80 = .ok (.i2l, 1) := by decide +kernel
theorem d_Mod_firstOf_81 : decode b_Mod_firstOf 81 = .ok (.lconst 1, 1) := by decide +kernel
theorem d_Mod_firstOf_82 : decode b_Mod_firstOf 82 = .ok (.ladd, 1) := by decide +kernel
theorem d_Mod_firstOf_83 : decode b_Mod_firstOf 83 = .ok (.ldiv, 1) := by decide +kernel
theorem d_Mod_firstOf_84 : decode b_Mod_firstOf 84 = .ok (.ladd, 1) := by decide +kernel
theorem d_Mod_firstOf_85 : decode b_Mod_firstOf 85 = .ok (.lreturn, 1) := by decide +kernel
