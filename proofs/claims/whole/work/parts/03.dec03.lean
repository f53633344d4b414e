theorem d_Mod_more_99 : decode b_Mod_more 99 = .ok (.iastore, 1) := by decide +kernel
theorem d_Mod_more_100 : decode b_Mod_more 100 = .ok (.aload_n 0, 1) := by decide +kernel
theorem d_Mod_more_101 : decode b_Mod_more 101 = .ok (.dup, 1) := by decide +kernel
theorem d_Mod_more_102 : decode b_Mod_more 102 = .ok (.getfield 83, 3) := by decide +kernel
theorem d_Mod_more_105 : decode b_Mod_more 105 = .ok (.iconst 1, 1) := by decide +kernel
theorem d_Mod_more_106 : decode b_Mod_more 106 = .ok (.iadd, 1) := by decide +kernel
theorem d_Mod_more_107 : decode b_Mod_more 107 = .ok (.putfield 83, 3) := by decide +kernel
theorem d_Mod_more_110 : decode b_Mod_more 110 = .ok (.aload_n 0, 1) := by decide +kernel
theorem d_Mod_more_111 : decode b_Mod_more 111 = .ok (.getfield 83, 3) := by decide +kernel
theorem d_Mod_more_114 : decode b_Mod_more 114 = .ok (.ireturn, 1) := by decide +kernel
theorem d_Mod_glue_0 : decode b_Mod_glue 0 = .ok (.iload_n 1, 1) := by decide +kernel
theorem d_Mod_glue_1 : decode b_Mod_glue 1 = .ok (.ldc 90, 2) := by decide +kernel
theorem d_Mod_glue_3 : decode b_Mod_glue 3 = .ok (.ldc 78, 2) := by decide +kernel
theorem d_Mod_glue_5 : decode b_Mod_glue 5 = .ok (.invokestatic 79, 3) := by decide +kernel
theorem d_Mod_glue_8 : decode b_Mod_glue 8 = .ok (.ifCond .eq 45, 3) := by decide +kernel
theorem d_Mod_glue_11 : decode b_Mod_glue 11 = .ok (.iload_n 2, 1) := by decide +kernel
theorem d_Mod_glue_12 : decode b_Mod_glue 12 = .ok (.iconst 0, 1) := by decide +kernel
theorem d_Mod_glue_13 : decode b_Mod_glue 13 = .ok (.sipush 1000, 3) := by decide +kernel
theorem d_Mod_glue_16 : decode b_Mod_glue 16 = .ok (.invokestatic 79, 3) := by decide +kernel
theorem d_Mod_glue_19 : decode b_Mod_glue 19 = .ok (.ifCond .eq 34, 3) := by decide +kernel
theorem d_Mod_glue_22 : decode b_Mod_glue 22 = .ok (.iload_n 3, 1) := by decide +kernel
theorem d_Mod_glue_23 : decode b_Mod_glue 23 = .ok (.iconst 0, 1) := by decide +kernel
theorem d_Mod_glue_24 : decode b_Mod_glue 24 = .ok (.iconst 3, 1) := by decide +kernel
theorem d_Mod_glue_25 : decode b_Mod_glue 25 = .ok (.invokestatic 79, 3) := by decide +kernel
theorem d_Mod_glue_28 : decode b_Mod_glue 28 = .ok (.ifCond .eq 25, 3) := by decide +kernel
theorem d_Mod_glue_31 : decode b_Mod_glue 31 = .ok (.iload 4, 2) := by decide +kernel
theorem d_Mod_glue_33 : decode b_Mod_glue 33 = .ok (.iconst 0, 1) := by decide +kernel
theorem d_Mod_glue_34 : decode b_Mod_glue 34 = .ok (.sipush 1000, 3) := by decide +kernel
theorem d_Mod_glue_37 : decode b_Mod_glue 37 = .ok (.invokestatic 79, 3) := by decide +kernel
theorem d_Mod_glue_40 : decode b_Mod_glue 40 = .ok (.ifCond .eq 13, 3) := by decide +kernel
theorem d_Mod_glue_43 : decode b_Mod_glue 43 = .ok (.iload 5, 2) := by decide +kernel
theorem d_Mod_glue_45 : decode b_Mod_glue 45 = .ok (.iconst 0, 1) := by decide +kernel
theorem d_Mod_glue_46 : decode b_Mod_glue 46 = .ok (.iconst 3, 1) := by decide +kernel
theorem d_Mod_glue_47 : decode b_Mod_glue 47 = .ok (.invokestatic 79, 3) := by decide +kernel
theorem d_Mod_glue_50 : decode b_Mod_glue 50 = .ok (.ifCond .ne 5, 3) := by decide +kernel
theorem d_Mod_glue_53 : decode b_Mod_glue 53 = .ok (.iconst (-1), 1) := by decide +kernel
theorem d_Mod_glue_54 : decode b_Mod_glue 54 = .ok (.ireturn, 1) := by decide +kernel
theorem d_Mod_glue_55 : decode b_Mod_glue 55 = .ok (.aload_n 0, 1) := by decide +kernel
theorem d_Mod_glue_56 : decode b_Mod_glue 56 = .ok (.getfield 83, 3) := by decide +kernel
theorem d_Mod_glue_59 : decode b_Mod_glue 59 = .ok (.bipush 40, 2) := by decide +kernel
theorem d_Mod_glue_61 : decode b_Mod_glue 61 = .ok (.if_icmp .ne 6, 3) := by decide +kernel
theorem d_Mod_glue_64 : decode b_Mod_glue 64 = .ok (.bipush (-2), 2) := by decide +kernel
theorem d_Mod_glue_66 : decode b_Mod_glue 66 = .ok (.ireturn, 1) := by decide +kernel
theorem d_Mod_glue_67 : decode b_Mod_glue 67 = .ok (.aload_n 0, 1) := by decide +kernel
theorem d_Mod_glue_68 : decode b_Mod_glue 68 = .ok (.iconst 2, 1) := by decide +kernel
theorem d_Mod_glue_69 : decode b_Mod_glue 69 = .ok (.iload_n 1, 1) := by decide +kernel
theorem d_Mod_glue_70 : decode b_Mod_glue 70 = .ok (.invokevirtual 91, 3) := by decide +kernel
theorem d_Mod_glue_73 : decode b_Mod_glue 73 = .ok (.pop, 1) := by decide +kernel
theorem d_Mod_glue_74 : decode b_Mod_glue 74 = .ok (.aload_n 0, 1) := by decide +kernel
theorem d_Mod_glue_75 : decode b_Mod_glue 75 = .ok (.getfield 22, 3) := by decide +kernel
theorem d_Mod_glue_78 : decode b_Mod_glue 78 = .ok (.aload_n 0, 1) := by decide +kernel
theorem d_Mod_glue_79 : decode b_Mod_glue 79 = .ok (.getfield 83, 3) := by decide +kernel
theorem d_Mod_glue_82 : decode b_Mod_glue 82 = .ok (.iconst 1, 1) := by decide +kernel
theorem d_Mod_glue_83 : decode b_Mod_glue 83 = .ok (.isub, 1) := by decide +kernel
theorem d_Mod_glue_84 : decode b_Mod_glue 84 = .ok (.iload_n 2, 1) := by decide +kernel
theorem d_Mod_glue_85 : decode b_Mod_glue 85 = .ok (.iastore, 1) := by decide +kernel
theorem d_Mod_glue_86 : decode b_Mod_glue 86 = .ok (.aload_n 0, 1) := by decide +kernel
theorem d_Mod_glue_87 : decode b_Mod_glue 87 = .ok (.getfield 25, 3) := by decide +kernel
theorem d_Mod_glue_90 : decode b_Mod_glue 90 = .ok (.aload_n 0, 1) := by decide +kernel
theorem d_Mod_glue_91 : decode b_Mod_glue 91 = .ok (.getfield 83, 3) := by decide +kernel
theorem d_Mod_glue_94 : decode b_Mod_glue 94 = .ok (.iconst 1, 1) := by decide +kernel
theorem d_Mod_glue_95 : decode b_Mod_glue 95 = .ok (.isub, 1) := by decide +kernel
theorem d_Mod_glue_96 : decode b_Mod_glue 96 = .ok (.iload_n 3, 1) := by decide +kernel
theorem d_Mod_glue_97 : decode b_Mod_glue 97 = .ok (.iastore, 1) := by decide +kernel
theorem d_Mod_glue_98 : decode b_Mod_glue 98 = .ok (.aload_n 0, 1) := by decide +kernel
theorem d_Mod_glue_99 : decode b_Mod_glue 99 = .ok (.getfield 28, 3) := by decide +kernel
theorem d_Mod_glue_102 : decode b_Mod_glue 102 = .ok (.aload_n 0, 1) := by decide +kernel
theorem d_Mod_glue_103 : decode b_Mod_glue 103 = .ok (.getfield 83, 3) := by decide +kernel
theorem d_Mod_glue_106 : decode b_Mod_glue 106 = .ok (.iconst 1, 1) := by decide +kernel
theorem d_Mod_glue_107 : decode b_Mod_glue 107 = .ok (.isub, 1) := by decide +kernel
theorem d_Mod_glue_108 : decode b_Mod_glue 108 = .ok (.iload 4, 2) := by decide +kernel
theorem d_Mod_glue_110 : decode b_Mod_glue 110 = .ok (.iastore, 1) := by decide +kernel
theorem d_Mod_glue_111 : decode b_Mod_glue 111 = .ok (.aload_n 0, 1) := by decide +kernel
theorem d_Mod_glue_112 : decode b_Mod_glue 112 = .ok (.getfield 31, 3) := by decide +kernel
theorem d_Mod_glue_115 : decode b_Mod_glue 115 = .ok (.aload_n 0, 1) := by decide +kernel
theorem d_Mod_glue_116 : decode b_Mod_glue 116 = .ok (.getfield 83, 3) := by decide +kernel
theorem d_Mod_glue_119 : decode b_Mod_glue 119 = .ok (.iconst 1, 1) := by decide +kernel
theorem d_Mod_glue_120 : decode b_Mod_glue 120 = .ok (.isub, 1) := by decide +kernel
theorem d_Mod_glue_121 : decode b_Mod_glue 121 = .ok (.iload 5, 2) := by decide +kernel
theorem d_Mod_glue_123 : decode b_Mod_glue 123 = .ok (.iastore, 1) := by decide +kernel
theorem d_Mod_glue_124 : decode b_Mod_glue 124 = .ok (.aload_n 0, 1) := by decide +kernel
theorem d_Mod_glue_125 : decode b_Mod_glue 125 = .ok (.getfield 83, 3) := by decide +kernel
theorem d_Mod_glue_128 : decode b_Mod_glue 128 = .ok (.ireturn, 1) := by decide +kernel
theorem d_Mod_kern_0 : decode b_Mod_kern 0 = .ok (.iload_n 1, 1) := by decide +kernel
theorem d_Mod_kern_1 : decode b_Mod_kern 1 = .ok (.ldc 90, 2) := by decide +kernel
theorem d_Mod_kern_3 : decode b_Mod_kern 3 = .ok (.ldc 78, 2) := by decide +kernel
theorem d_Mod_kern_5 : decode b_Mod_kern 5 = .ok (.invokestatic 79, 3) := by decide +kernel
theorem d_Mod_kern_8 : decode b_Mod_kern 8 = .ok (.ifCond .ne 5, 3) := by decide +kernel
theorem d_Mod_kern_11 : decode b_Mod_kern 11 = .ok (.iconst (-1), 1) := by decide +kernel
theorem d_Mod_kern_12 : decode b_Mod_kern 12 = .ok (.ireturn, 1) := by decide +kernel
theorem d_Mod_kern_13 : decode b_Mod_kern 13 = .ok (.aload_n 0, 1) := by decide +kernel
theorem d_Mod_kern_14 : decode b_Mod_kern 14 = .ok (.getfield 83, 3) := by decide +kernel
theorem d_Mod_kern_17 : decode b_Mod_kern 17 = .ok (.bipush 40, 2) := by decide +kernel
theorem d_Mod_kern_19 : decode b_Mod_kern 19 = .ok (.if_icmp .ne 8, 3) := by decide +kernel
theorem d_Mod_kern_22 : decode b_Mod_kern 22 = .ok (.bipush (-2), 2) := by decide +kernel
theorem d_Mod_kern_24 : decode b_Mod_kern 24 = .ok (.goto 9, 3) := by decide +kernel
theorem d_Mod_kern_27 : decode b_Mod_kern 27 = .ok (.aload_n 0, 1) := by decide +kernel
theorem d_Mod_kern_28 : decode b_Mod_kern 28 = .ok (.iconst 3, 1) := by decide +kernel
theorem d_Mod_kern_29 : decode b_Mod_kern 29 = .ok (.iload_n 1, 1) := by decide +kernel
theorem d_Mod_kern_30 : decode b_Mod_kern 30 = .ok (.invokevirtual 91, 3) := by decide +kernel
theorem d_Mod_kern_33 : decode b_Mod_kern 33 = .ok (.ireturn, 1) := by decide +kernel
theorem d_Mod_rule_0 : decode b_Mod_rule 0 = .ok (.iload_n 1, 1) := by decide +kernel
theorem d_Mod_rule_1 : decode b_Mod_rule 1 = .ok (.iconst 0, 1) := by decide +kernel
theorem d_Mod_rule_2 : decode b_Mod_rule 2 = .ok (.ldc 78, 2) := by decide +kernel
theorem d_Mod_rule_4 : decode b_Mod_rule 4 = .ok (.invokestatic 79, 3) := by decide +kernel
theorem d_Mod_rule_7 : decode b_Mod_rule 7 = .ok (.ifCond .eq 39, 3) := by decide +kernel
theorem d_Mod_rule_10 : decode b_Mod_rule 10 = .ok (.iload_n 2, 1) := by decide +kernel
theorem d_Mod_rule_11 : decode b_Mod_rule 11 = .ok (.ldc 95, 2) := by decide +kernel
theorem d_Mod_rule_13 : decode b_Mod_rule 13 = .ok (.if_icmp .eq 13, 3) := by decide +kernel
theorem d_Mod_rule_16 : decode b_Mod_rule 16 = .ok (.iload_n 2, 1) := by decide +kernel
theorem d_Mod_rule_17 : decode b_Mod_rule 17 = .ok (.iconst 0, 1) := by decide +kernel
theorem d_Mod_rule_18 : decode b_Mod_rule 18 = .ok (.ldc 78, 2) := by decide +kernel
theorem d_Mod_rule_20 : decode b_Mod_rule 20 = .ok (.invokestatic 79, 3) := by decide +kernel
theorem d_Mod_rule_23 : decode b_Mod_rule 23 = .ok (.ifCond .eq 23, 3) := by decide +kernel
theorem d_Mod_rule_26 : decode b_Mod_rule 26 = .ok (.iload_n 3, 1) := by decide +kernel
theorem d_Mod_rule_27 : decode b_Mod_rule 27 = .ok (.ldc 95, 2) := by decide +kernel
theorem d_Mod_rule_29 : decode b_Mod_rule 29 = .ok (.if_icmp .eq 13, 3) := by decide +kernel
theorem d_Mod_rule_32 : decode b_Mod_rule 32 = .ok (.iload_n 3, 1) := by decide +kernel
theorem d_Mod_rule_33 : decode b_Mod_rule 33 = .ok (.iconst 0, 1) := by decide +kernel
theorem d_Mod_rule_34 : decode b_Mod_rule 34 = .ok (.ldc 78, 2) := by decide +kernel
theorem d_Mod_rule_36 : decode b_Mod_rule 36 = .ok (.invokestatic 79, 3) := by decide +kernel
theorem d_Mod_rule_39 : decode b_Mod_rule 39 = .ok (.ifCond .eq 7, 3) := by decide +kernel
theorem d_Mod_rule_42 : decode b_Mod_rule 42 = .ok (.iconst 1, 1) := by decide +kernel
theorem d_Mod_rule_43 : decode b_Mod_rule 43 = .ok (.goto 4, 3) := by decide +kernel
theorem d_Mod_rule_46 : decode b_Mod_rule 46 = .ok (.iconst 0, 1) := by decide +kernel
theorem d_Mod_rule_47 : decode b_Mod_rule 47 = .ok (.istore 4, 2) := by decide +kernel
theorem d_Mod_rule_49 : decode b_Mod_rule 49 = .ok (.iload 4, 2) := by decide +kernel
theorem d_Mod_rule_51 : decode b_Mod_rule 51 = .ok (.ifCond .ne 5, 3) := by decide +kernel
theorem d_Mod_rule_54 : decode b_Mod_rule 54 = .ok (.iconst (-1), 1) := by decide +kernel
theorem d_Mod_rule_55 : decode b_Mod_rule 55 = .ok (.ireturn, 1) := by decide +kernel
theorem d_Mod_rule_56 : decode b_Mod_rule 56 = .ok (.aload_n 0, 1) := by decide +kernel
theorem d_Mod_rule_57 : decode b_Mod_rule 57 = .ok (.getfield 83, 3) := by decide +kernel
theorem d_Mod_rule_60 : decode b_Mod_rule 60 = .ok (.bipush 40, 2) := by decide +kernel
theorem d_Mod_rule_62 : decode b_Mod_rule 62 = .ok (.if_icmp .ne 6, 3) := by decide +kernel
theorem d_Mod_rule_65 : decode b_Mod_rule 65 = .ok (.bipush (-2), 2) := by decide +kernel
theorem d_Mod_rule_67 : decode b_Mod_rule 67 = .ok (.ireturn, 1) := by decide +kernel
theorem d_Mod_rule_68 : decode b_Mod_rule 68 = .ok (.aload_n 0, 1) := by decide +kernel
theorem d_Mod_rule_69 : decode b_Mod_rule 69 = .ok (.iconst 4, 1) := by decide +kernel
theorem d_Mod_rule_70 : decode b_Mod_rule 70 = .ok (.iload_n 1, 1) := by decide +kernel
theorem d_Mod_rule_71 : decode b_Mod_rule 71 = .ok (.invokevirtual 91, 3) := by decide +kernel
theorem d_Mod_rule_74 : decode b_Mod_rule 74 = .ok (.pop, 1) := by decide +kernel
theorem d_Mod_rule_75 : decode b_Mod_rule 75 = .ok (.aload_n 0, 1) := by decide +kernel
theorem d_Mod_rule_76 : decode b_Mod_rule 76 = .ok (.getfield 16, 3) := by decide +kernel
theorem d_Mod_rule_79 : decode b_Mod_rule 79 = .ok (.aload_n 0, 1) := by decide +kernel
theorem d_Mod_rule_80 : decode b_Mod_rule 80 = .ok (.getfield 83, 3) := by decide +kernel
theorem d_Mod_rule_83 : decode b_Mod_rule 83 = .ok (.iconst 1, 1) := by decide +kernel
theorem d_Mod_rule_84 : decode b_Mod_rule 84 = .ok (.isub, 1) := by decide +kernel
theorem d_Mod_rule_85 : decode b_Mod_rule 85 = .ok (.iload_n 2, 1) := by decide +kernel
theorem d_Mod_rule_86 : decode b_Mod_rule 86 = .ok (.iastore, 1) := by decide +kernel
theorem d_Mod_rule_87 : decode b_Mod_rule 87 = .ok (.aload_n 0, 1) := by decide +kernel
theorem d_Mod_rule_88 : decode b_Mod_rule 88 = .ok (.getfield 19, 3) := by decide +kernel
theorem d_Mod_rule_91 : decode b_Mod_rule 91 = .ok (.aload_n 0, 1) := by decide +kernel
theorem d_Mod_rule_92 : decode b_Mod_rule 92 = .ok (.getfield 83, 3) := by decide +kernel
theorem d_Mod_rule_95 : decode b_Mod_rule 95 = .ok (.iconst 1, 1) := by decide +kernel
theorem d_Mod_rule_96 : decode b_Mod_rule 96 = .ok (.isub, 1) := by decide +kernel
theorem d_Mod_rule_97 : decode b_Mod_rule 97 = .ok (.iload_n 3, 1) := by decide +kernel
theorem d_Mod_rule_98 : decode b_Mod_rule 98 = .ok (.iastore, 1) := by decide +kernel
theorem d_Mod_rule_99 : decode b_Mod_rule 99 = .ok (.aload_n 0, 1) := by decide +kernel
theorem d_Mod_rule_100 : decode b_Mod_rule 100 = .ok (.getfield 83, 3) := by decide +kernel
theorem d_Mod_rule_103 : decode b_Mod_rule 103 = .ok (.ireturn, 1) := by decide +kernel
theorem d_Mod_leaders_0 : decode b_Mod_leaders 0 = .ok (.iload_n 1, 1) := by decide +kernel
theorem d_Mod_leaders_1 : decode b_Mod_leaders 1 = .ok (.iconst 1, 1) := by decide +kernel
theorem d_Mod_leaders_2 : decode b_Mod_leaders 2 = .ok (.iconst 3, 1) := by decide +kernel
theorem d_Mod_leaders_3 : decode b_Mod_leaders 3 = .ok (.invokestatic 79, 3) := by decide +kernel
theorem d_Mod_leaders_6 : decode b_Mod_leaders 6 = .ok (.ifCond .eq 11, 3) := by decide +kernel
theorem d_Mod_leaders_9 : decode b_Mod_leaders 9 = .ok (.aload_n 0, 1) := by decide +kernel
theorem d_Mod_leaders_10 : decode b_Mod_leaders 10 = .ok (.iload_n 2, 1) := by decide +kernel
theorem d_Mod_leaders_11 : decode b_Mod_leaders 11 = .ok (.invokevirtual 86, 3) := by decide +kernel
theorem d_Mod_leaders_14 : decode b_Mod_leaders 14 = .ok (.ifCond .ne 5, 3) := by decide +kernel
theorem d_Mod_leaders_17 : decode b_Mod_leaders 17 = .ok (.iconst (-1), 1) := by decide +kernel
theorem d_Mod_leaders_18 : decode b_Mod_leaders 18 = .ok (.ireturn, 1) := by decide +kernel
theorem d_Mod_leaders_19 : decode b_Mod_leaders 19 = .ok (.aload_n 0, 1) := by decide +kernel
theorem d_Mod_leaders_20 : decode b_Mod_leaders 20 = .ok (.getfield 83, 3) := by decide +kernel
theorem d_Mod_leaders_23 : decode b_Mod_leaders 23 = .ok (.ifCond .eq 18, 3) := by decide +kernel
theorem d_Mod_leaders_26 : decode b_Mod_leaders 26 = .ok (.aload_n 0, 1) := by decide +kernel
theorem d_Mod_leaders_27 : decode b_Mod_leaders 27 = .ok (.getfield 7, 3) := by decide +kernel
theorem d_Mod_leaders_30 : decode b_Mod_leaders 30 = .ok (.aload_n 0, 1) := by decide +kernel
theorem d_Mod_leaders_31 : decode b_Mod_leaders 31 = .ok (.getfield 83, 3) := by decide +kernel
theorem d_Mod_leaders_34 : decode b_Mod_leaders 34 = .ok (.iconst 1, 1) := by decide +kernel
theorem d_Mod_leaders_35 : decode b_Mod_leaders 35 = .ok (.isub, 1) := by decide +kernel
theorem d_Mod_leaders_36 : decode b_Mod_leaders 36 = .ok (.iaload, 1) := by decide +kernel
theorem d_Mod_leaders_37 : decode b_Mod_leaders 37 = .ok (.iconst 2, 1) := by decide +kernel
theorem d_Mod_leaders_38 : decode b_Mod_leaders 38 = .ok (.if_icmp .eq 6, 3) := by decide +kernel
theorem d_Mod_leaders_41 : decode b_Mod_leaders 41 = .ok (.bipush (-3), 2) := by decide +kernel
theorem d_Mod_leaders_43 : decode b_Mod_leaders 43 = .ok (.ireturn, 1) := by decide +kernel
theorem d_Mod_leaders_44 : decode b_Mod_leaders 44 = .ok (.aload_n 0, 1) := by decide +kernel
theorem d_Mod_leaders_45 : decode b_Mod_leaders 45 = .ok (.getfield 34, 3) := by decide +kernel
theorem d_Mod_leaders_48 : decode b_Mod_leaders 48 = .ok (.aload_n 0, 1) := by decide +kernel
theorem d_Mod_leaders_49 : decode b_Mod_leaders 49 = .ok (.getfield 83, 3) := by decide +kernel
theorem d_Mod_leaders_52 : decode b_Mod_leaders 52 = .ok (.iconst 1, 1) := by decide +kernel
theorem d_Mod_leaders_53 : decode b_Mod_leaders 53 = .ok (.isub, 1) := by decide +kernel
theorem d_Mod_leaders_54 : decode b_Mod_leaders 54 = .ok (.iload_n 1, 1) := by decide +kernel
theorem d_Mod_leaders_55 : decode b_Mod_leaders 55 = .ok (.iastore, 1) := by decide +kernel
theorem d_Mod_leaders_56 : decode b_Mod_leaders 56 = .ok (.aload_n 0, 1) := by decide +kernel
theorem d_Mod_leaders_57 : decode b_Mod_leaders 57 = .ok (.getfield 37, 3) := by decide +kernel
theorem d_Mod_leaders_60 : decode b_Mod_leaders 60 = .ok (.aload_n 0, 1) := by decide +kernel
theorem d_Mod_leaders_61 : decode b_Mod_leaders 61 = .ok (.getfield 83, 3) := by decide +kernel
theorem d_Mod_leaders_64 : decode b_Mod_leaders 64 = .ok (.iconst 1, 1) := by decide +kernel
theorem d_Mod_leaders_65 : decode b_Mod_leaders 65 = .ok (.isub, 1) := by decide +kernel
theorem d_Mod_leaders_66 : decode b_Mod_leaders 66 = .ok (.iload_n 2, 1) := by decide +kernel
theorem d_Mod_leaders_67 : decode b_Mod_leaders 67 = .ok (.iastore, 1) := by decide +kernel
theorem d_Mod_leaders_68 : decode b_Mod_leaders 68 = .ok (.iconst 1, 1) := by decide +kernel
theorem d_Mod_leaders_69 : decode b_Mod_leaders 69 = .ok (.ireturn, 1) := by decide +kernel
theorem d_Mod_natural_0 : decode b_Mod_natural 0 = .ok (.lconst 0, 1) := by decide +kernel
theorem d_Mod_natural_1 : decode b_Mod_natural 1 = .ok (.lstore_n 1, 1) := by decide +kernel
theorem d_Mod_natural_2 : decode b_Mod_natural 2 = .ok (.iconst 0, 1) := by decide +kernel
theorem d_Mod_natural_3 : decode b_Mod_natural 3 = .ok (.istore_n 3, 1) := by decide +kernel
theorem d_Mod_natural_4 : decode b_Mod_natural 4 = .ok (.iload_n 3, 1) := by decide +kernel
theorem d_Mod_natural_5 : decode b_Mod_natural 5 = .ok (.aload_n 0, 1) := by decide +kernel
theorem d_Mod_natural_6 : decode b_Mod_natural 6 = .ok (.getfield 83, 3) := by decide +kernel
theorem d_Mod_natural_9 : decode b_Mod_natural 9 = .ok (.if_icmp .ge 18, 3) := by decide +kernel
theorem d_Mod_natural_12 : decode b_Mod_natural 12 = .ok (.lload_n 1, 1) := by decide +kernel
theorem d_Mod_natural_13 : decode b_Mod_natural 13 = .ok (.aload_n 0, 1) := by decide +kernel
theorem d_Mod_natural_14 : decode b_Mod_natural 14 = .ok (.iload_n 3, 1) := by decide +kernel
theorem d_Mod_natural_15 : decode b_Mod_natural 15 = .ok (.invokevirtual 96, 3) := by decide +kernel
theorem d_Mod_natural_18 : decode b_Mod_natural 18 = .ok (.i2l, 1) := by decide +kernel
theorem d_Mod_natural_19 : decode b_Mod_natural 19 = .ok (.ladd, 1) := by decide +kernel
theorem d_Mod_natural_20 : decode b_Mod_natural 20 = .ok (.lstore_n 1, 1) := by decide +kernel
theorem d_Mod_natural_21 : decode b_Mod_natural 21 = .ok (.iinc 3 1, 3) := by decide +kernel
theorem d_Mod_natural_24 : decode b_Mod_natural 24 = .ok (.goto (-20), 3) := by decide +kernel
theorem d_Mod_natural_27 : decode b_Mod_natural 27 = .ok (.lload_n 1, 1) := by decide +kernel
theorem d_Mod_natural_28 : decode b_Mod_natural 28 = .ok (.lreturn, 1) := by decide +kernel
theorem d_Mod_lengthOf_0 : decode b_Mod_lengthOf 0 = .ok (.aload_n 0, 1) := by decide +kernel
theorem d_Mod_lengthOf_1 : decode b_Mod_lengthOf 1 = .ok (.getfield 7, 3) := by decide +kernel
theorem d_Mod_lengthOf_4 : decode b_Mod_lengthOf 4 = .ok (.iload_n 1, 1) := by decide +kernel
theorem d_Mod_lengthOf_5 : decode b_Mod_lengthOf 5 = .ok (.iaload, 1) := by decide +kernel
theorem d_Mod_lengthOf_6 : decode b_Mod_lengthOf 6 = .ok (.iconst 1, 1) := by decide +kernel
theorem d_Mod_lengthOf_7 : decode b_Mod_lengthOf 7 = .ok (.if_icmp .ne 17, 3) := by decide +kernel
theorem d_Mod_lengthOf_10 : decode b_Mod_lengthOf 10 = .ok (.aload_n 0, 1) := by decide +kernel
theorem d_Mod_lengthOf_11 : decode b_Mod_lengthOf 11 = .ok (.getfield 47, 3) := by decide +kernel
theorem d_Mod_lengthOf_14 : decode b_Mod_lengthOf 14 = .ok (.aload_n 0, 1) := by decide +kernel
theorem d_Mod_lengthOf_15 : decode b_Mod_lengthOf 15 = .ok (.getfield 13, 3) := by decide +kernel
theorem d_Mod_lengthOf_18 : decode b_Mod_lengthOf 18 = .ok (.iload_n 1, 1) := by decide +kernel
theorem d_Mod_lengthOf_19 : decode b_Mod_lengthOf 19 = .ok (.iaload, 1) := by decide +kernel
theorem d_Mod_lengthOf_20 : decode b_Mod_lengthOf 20 = .ok (.iaload, 1) := by decide +kernel
theorem d_Mod_lengthOf_21 : decode b_Mod_lengthOf 21 = .ok (.goto 9, 3) := by decide +kernel
theorem d_Mod_lengthOf_24 : decode b_Mod_lengthOf 24 = .ok (.aload_n 0, 1) := by decide +kernel
theorem d_Mod_lengthOf_25 : decode b_Mod_lengthOf 25 = .ok (.getfield 13, 3) := by decide +kernel
theorem d_Mod_lengthOf_28 : decode b_Mod_lengthOf 28 = .ok (.iload_n 1, 1) := by decide +kernel
theorem d_Mod_lengthOf_29 : decode b_Mod_lengthOf 29 = .ok (.iaload, 1) := by decide +kernel
theorem d_Mod_lengthOf_30 : decode b_Mod_lengthOf 30 = .ok (.ireturn, 1) := by decide +kernel
theorem d_Mod_pack_0 : decode b_Mod_pack 0 = .ok (.aload_n 0, 1) := by decide +kernel
theorem d_Mod_pack_1 : decode b_Mod_pack 1 = .ok (.invokevirtual 110, 3) := by decide +kernel
theorem d_Mod_pack_4 : decode b_Mod_pack 4 = .ok (.lstore_n 2, 1) := by decide +kernel
theorem d_Mod_pack_5 : decode b_Mod_pack 5 = .ok (.iload_n 1, 1) := by decide +kernel
theorem d_Mod_pack_6 : decode b_Mod_pack 6 = .ok (.iconst (-1), 1) := by decide +kernel
theorem d_Mod_pack_7 : decode b_Mod_pack 7 = .ok (.ldc 114, 2) := by decide +kernel
theorem d_Mod_pack_9 : decode b_Mod_pack 9 = .ok (.invokestatic 79, 3) := by decide +kernel
theorem d_Mod_pack_12 : decode b_Mod_pack 12 = .ok (.ifCond .eq 16, 3) := by decide +kernel
theorem d_Mod_pack_15 : decode b_Mod_pack 15 = .ok (.iload_n 1, 1) := by decide +kernel
theorem d_Mod_pack_16 : decode b_Mod_pack 16 = .ok (.iconst (-1), 1) := by decide +kernel
theorem d_Mod_pack_17 : decode b_Mod_pack 17 = .ok (.if_icmp .ne 13, 3) := by decide +kernel
theorem d_Mod_pack_20 : decode b_Mod_pack 20 = .ok (.lload_n 2, 1) := by decide +kernel
theorem d_Mod_pack_21 : decode b_Mod_pack 21 = .ok (.ldc2_w 115, 3) := by decide +kernel
theorem d_Mod_pack_24 : decode b_Mod_pack 24 = .ok (.lcmp, 1) := by decide +kernel
theorem d_Mod_pack_25 : decode b_Mod_pack 25 = .ok (.ifCond .le 5, 3) := by decide +kernel
theorem d_Mod_pack_28 : decode b_Mod_pack 28 = .ok (.iconst (-1), 1) := by decide +kernel
theorem d_Mod_pack_29 : decode b_Mod_pack 29 = .ok (.ireturn, 1) := by decide +kernel
theorem d_Mod_pack_30 : decode b_Mod_pack 30 = .ok (.aload_n 0, 1) := by decide +kernel
theorem d_Mod_pack_31 : decode b_Mod_pack 31 = .ok (.getfield 74, 3) := by decide +kernel
theorem d_Mod_pack_34 : decode b_Mod_pack 34 = .ok (.bipush 60, 2) := by decide +kernel
theorem d_Mod_pack_36 : decode b_Mod_pack 36 = .ok (.if_icmp .eq 18, 3) := by decide +kernel
theorem d_Mod_pack_39 : decode b_Mod_pack 39 = .ok (.aload_n 0, 1) := by decide +kernel
theorem d_Mod_pack_40 : decode b_Mod_pack 40 = .ok (.getfield 117, 3) := by decide +kernel
theorem d_Mod_pack_43 : decode b_Mod_pack 43 = .ok (.aload_n 0, 1) := by decide +kernel
theorem d_Mod_pack_44 : decode b_Mod_pack 44 = .ok (.getfield 83, 3) := by decide +kernel
theorem d_Mod_pack_47 : decode b_Mod_pack 47 = .ok (.iadd, 1) := by decide +kernel
theorem d_Mod_pack_48 : decode b_Mod_pack 48 = .ok (.sipush 300, 3) := by decide +kernel
theorem d_Mod_pack_51 : decode b_Mod_pack 51 = .ok (.if_icmp .le 6, 3) := by decide +kernel
theorem d_Mod_pack_54 : decode b_Mod_pack 54 = .ok (.bipush (-2), 2) := by decide +kernel
theorem d_Mod_pack_56 : decode b_Mod_pack 56 = .ok (.ireturn, 1) := by decide +kernel
theorem d_Mod_pack_57 : decode b_Mod_pack 57 = .ok (.aload_n 0, 1) := by decide +kernel
theorem d_Mod_pack_58 : decode b_Mod_pack 58 = .ok (.getfield 74, 3) := by decide +kernel
theorem d_Mod_pack_61 : decode b_Mod_pack 61 = .ok (.istore 4, 2) := by decide +kernel
theorem d_Mod_pack_63 : decode b_Mod_pack 63 = .ok (.iload_n 1, 1) := by decide +kernel
theorem d_Mod_pack_64 : decode b_Mod_pack 64 = .ok (.ifCond .lt 8, 3) := by decide +kernel
theorem d_Mod_pack_67 : decode b_Mod_pack 67 = .ok (.iload_n 1, 1) := by decide +kernel
theorem d_Mod_pack_68 : decode b_Mod_pack 68 = .ok (.i2l, 1) := by decide +kernel
theorem d_Mod_pack_69 : decode b_Mod_pack 69 = .ok (.goto 14, 3) := by decide +kernel
theorem d_Mod_pack_72 : decode b_Mod_pack 72 = .ok (.lload_n 2, 1) := by decide +kernel
theorem d_Mod_pack_73 : decode b_Mod_pack 73 = .ok (.lconst 0, 1) := by decide +kernel
theorem d_Mod_pack_74 : decode b_Mod_pack 74 = .ok (.lcmp, 1) := by decide +kernel
theorem d_Mod_pack_75 : decode b_Mod_pack 75 = .ok (.ifCond .ge 7, 3) := by decide +kernel
theorem d_Mod_pack_78 : decode b_Mod_pack 78 = .ok (.lconst 0, 1) := by decide +kernel
theorem d_Mod_pack_79 : decode b_Mod_pack 79 = .ok (.goto 4, 3) := by decide +kernel
theorem d_Mod_pack_82 : decode b_Mod_pack 82 = .ok (.lload_n 2, 1) := by decide +kernel
theorem d_Mod_pack_83 : decode b_Mod_pack 83 = .ok (.lstore 5, 2) := by decide +kernel
theorem d_Mod_pack_85 : decode b_Mod_pack 85 = .ok (.lload 5, 2) := by decide +kernel
theorem d_Mod_pack_87 : decode b_Mod_pack 87 = .ok (.lload_n 2, 1) := by decide +kernel
theorem d_Mod_pack_88 : decode b_Mod_pack 88 = .ok (.lsub, 1) := by decide +kernel
theorem d_Mod_pack_89 : decode b_Mod_pack 89 = .ok (.lstore 7, 2) := by decide +kernel
theorem d_Mod_pack_91 : decode b_Mod_pack 91 = .ok (.lload 7, 2) := by decide +kernel
theorem d_Mod_pack_93 : decode b_Mod_pack 93 = .ok (.lconst 0, 1) := by decide +kernel
theorem d_Mod_pack_94 : decode b_Mod_pack 94 = .ok (.lcmp, 1) := by decide +kernel
theorem d_Mod_pack_95 : decode b_Mod_pack 95 = .ok (.ifCond .le 7, 3) := by decide +kernel
theorem d_Mod_pack_98 : decode b_Mod_pack 98 = .ok (.iconst 1, 1) := by decide +kernel
theorem d_Mod_pack_99 : decode b_Mod_pack 99 = .ok (.goto 4, 3) := by decide +kernel
theorem d_Mod_pack_102 : decode b_Mod_pack 102 = .ok (.iconst 0, 1) := by decide +kernel
theorem d_Mod_pack_103 : decode b_Mod_pack 103 = .ok (.istore 9, 2) := by decide +kernel
theorem d_Mod_pack_105 : decode b_Mod_pack 105 = .ok (.iload 9, 2) := by decide +kernel
theorem d_Mod_pack_107 : decode b_Mod_pack 107 = .ok (.ifCond .eq 8, 3) := by decide +kernel
theorem d_Mod_pack_110 : decode b_Mod_pack 110 = .ok (.lload 7, 2) := by decide +kernel
theorem d_Mod_pack_112 : decode b_Mod_pack 112 = .ok (.goto 6, 3) := by decide +kernel
theorem d_Mod_pack_115 : decode b_Mod_pack 115 = .ok (.lload 7, 2) := by decide +kernel
theorem d_Mod_pack_117 : decode b_Mod_pack 117 = .ok (.lneg, 1) := by decide +kernel
theorem d_Mod_pack_118 : decode b_Mod_pack 118 = .ok (.lstore 10, 2) := by decide +kernel
theorem d_Mod_pack_120 : decode b_Mod_pack 120 = .ok (.lload 7, 2) := by decide +kernel
theorem d_Mod_pack_122 : decode b_Mod_pack 122 = .ok (.lconst 0, 1) := by decide +kernel
theorem d_Mod_pack_123 : decode b_Mod_pack 123 = .ok (.lcmp, 1) := by decide +kernel
theorem d_Mod_pack_124 : decode b_Mod_pack 124 = .ok (.ifCond .ne 7, 3) := by decide +kernel
theorem d_Mod_pack_127 : decode b_Mod_pack 127 = .ok (.iconst (-1), 1) := by decide +kernel
theorem d_Mod_pack_128 : decode b_Mod_pack 128 = .ok (.goto 9, 3) := by decide +kernel
theorem d_Mod_pack_131 : decode b_Mod_pack 131 = .ok (.aload_n 0, 1) := by decide +kernel
theorem d_Mod_pack_132 : decode b_Mod_pack 132 = .ok (.iload 9, 2) := by decide +kernel
theorem d_Mod_pack_134 : decode b_Mod_pack 134 = .ok (.invokevirtual 120, 3) := by decide +kernel
theorem d_Mod_pack_137 : decode b_Mod_pack 137 = .ok (.istore 12, 2) := by decide +kernel
theorem d_Mod_pack_139 : decode b_Mod_pack 139 = .ok (.iload 12, 2) := by decide +kernel
theorem d_Mod_pack_141 : decode b_Mod_pack 141 = .ok (.ifCond .ge 7, 3) := by decide +kernel
theorem d_Mod_pack_144 : decode b_Mod_pack 144 = .ok (.lconst 0, 1) := by decide +kernel
theorem d_Mod_pack_145 : decode b_Mod_pack 145 = .ok (.goto 15, 3) := by decide +kernel
theorem d_Mod_pack_148 : decode b_Mod_pack 148 = .ok (.aload_n 0, 1) := by decide +kernel
theorem d_Mod_pack_149 : decode b_Mod_pack 149 = .ok (.iload 9, 2) := by decide +kernel
theorem d_Mod_pack_151 : decode b_Mod_pack 151 = .ok (.iload 12, 2) := by decide +kernel
theorem d_Mod_pack_153 : decode b_Mod_pack 153 = .ok (.aload_n 0, 1) := by decide +kernel
theorem d_Mod_pack_154 : decode b_Mod_pack 154 = .ok (.getfield 83, 3) := by decide +kernel
theorem d_Mod_pack_157 : decode b_Mod_pack 157 = .ok (.invokevirtual 106, 3) := by decide +kernel
theorem d_Mod_pack_160 : decode b_Mod_pack 160 = .ok (.lstore 13, 2) := by decide +kernel
theorem d_Mod_pack_162 : decode b_Mod_pack 162 = .ok (.aload_n 0, 1) := by decide +kernel
theorem d_Mod_pack_163 : decode b_Mod_pack 163 = .ok (.getfield 65, 3) := by decide +kernel
theorem d_Mod_pack_166 : decode b_Mod_pack 166 = .ok (.iload 4, 2) := by decide +kernel
theorem d_Mod_pack_168 : decode b_Mod_pack 168 = .ok (.iconst 0, 1) := by decide +kernel
theorem d_Mod_pack_169 : decode b_Mod_pack 169 = .ok (.iastore, 1) := by decide +kernel
theorem d_Mod_pack_170 : decode b_Mod_pack 170 = .ok (.aload_n 0, 1) := by decide +kernel
theorem d_Mod_pack_171 : decode b_Mod_pack 171 = .ok (.getfield 62, 3) := by decide +kernel
theorem d_Mod_pack_174 : decode b_Mod_pack 174 = .ok (.iload 4, 2) := by decide +kernel
theorem d_Mod_pack_176 : decode b_Mod_pack 176 = .ok (.iload 12, 2) := by decide +kernel
theorem d_Mod_pack_178 : decode b_Mod_pack 178 = .ok (.ifCond .gt 10, 3) := by decide +kernel
theorem d_Mod_pack_181 : decode b_Mod_pack 181 = .ok (.lload 7, 2) := by decide +kernel
theorem d_Mod_pack_183 : decode b_Mod_pack 183 = .ok (.lconst 0, 1) := by decide +kernel
theorem d_Mod_pack_184 : decode b_Mod_pack 184 = .ok (.lcmp, 1) := by decide +kernel
theorem d_Mod_pack_185 : decode b_Mod_pack 185 = .ok (.ifCond .ne 7, 3) := by decide +kernel
theorem d_Mod_pack_188 : decode b_Mod_pack 188 = .ok (.iconst 0, 1) := by decide +kernel
theorem d_Mod_pack_189 : decode b_Mod_pack 189 = .ok (.goto 44, 3) := by decide +kernel
theorem d_Mod_pack_192 : decode b_Mod_pack 192 = .ok (.iload 9, 2) := by decide +kernel
theorem d_Mod_pack_194 : decode b_Mod_pack 194 = .ok (.ifCond .eq 14, 3) := by decide +kernel
theorem d_Mod_pack_197 : decode b_Mod_pack 197 = .ok (.iload 12, 2) := by decide +kernel
theorem d_Mod_pack_199 : decode b_Mod_pack 199 = .ok (.ifCond .ge 9, 3) := by decide +kernel
theorem d_Mod_pack_202 : decode b_Mod_pack 202 = .ok (.sipush 10000, 3) := by decide +kernel
theorem d_Mod_pack_205 : decode b_Mod_pack 205 = .ok (.goto 28, 3) := by decide +kernel
theorem d_Mod_pack_208 : decode b_Mod_pack 208 = .ok (.iload 9, 2) := by decide +kernel
theorem d_Mod_pack_210 : decode b_Mod_pack 210 = .ok (.ifCond .ne 11, 3) := by decide +kernel
theorem d_Mod_pack_213 : decode b_Mod_pack 213 = .ok (.lload 10, 2) := by decide +kernel
theorem d_Mod_pack_215 : decode b_Mod_pack 215 = .ok (.lload 13, 2) := by decide +kernel
theorem d_Mod_pack_217 : decode b_Mod_pack 217 = .ok (.lcmp, 1) := by decide +kernel
theorem d_Mod_pack_218 : decode b_Mod_pack 218 = .ok (.ifCond .gt 13, 3) := by decide +kernel
theorem d_Mod_pack_221 : decode b_Mod_pack 221 = .ok (.lload 10, 2) := by decide +kernel
theorem d_Mod_pack_223 : decode b_Mod_pack 223 = .ok (.lload 13, 2) := by decide +kernel
theorem d_Mod_pack_225 : decode b_Mod_pack 225 = .ok (.invokestatic 124, 3) := by decide +kernel
theorem d_Mod_pack_228 : decode b_Mod_pack 228 = .ok (.goto 5, 3) := by decide +kernel
theorem d_Mod_pack_231 : decode b_Mod_pack 231 = .ok (.ldc 114, 2) := by decide +kernel
theorem d_Mod_pack_233 : decode b_Mod_pack 233 = .ok (.iastore, 1) := by decide +kernel
theorem d_Mod_pack_234 : decode b_Mod_pack 234 = .ok (.aload_n 0, 1) := by decide +kernel
theorem d_Mod_pack_235 : decode b_Mod_pack 235 = .ok (.getfield 62, 3) := by decide +kernel
theorem d_Mod_pack_238 : decode b_Mod_pack 238 = .ok (.iload 4, 2) := by decide +kernel
theorem d_Mod_pack_240 : decode b_Mod_pack 240 = .ok (.iaload, 1) := by decide +kernel
theorem d_Mod_pack_241 : decode b_Mod_pack 241 = .ok (.ldc 114, 2) := by decide +kernel
theorem d_Mod_pack_243 : decode b_Mod_pack 243 = .ok (.if_icmp .ne 20, 3) := by decide +kernel
theorem d_Mod_pack_246 : decode b_Mod_pack 246 = .ok (.aload_n 0, 1) := by decide +kernel
theorem d_Mod_pack_247 : decode b_Mod_pack 247 = .ok (.getfield 65, 3) := by decide +kernel
theorem d_Mod_pack_250 : decode b_Mod_pack 250 = .ok (.iload 4, 2) := by decide +kernel
theorem d_Mod_pack_252 : decode b_Mod_pack 252 = .ok (.lload 10, 2) := by decide +kernel
theorem d_Mod_pack_254 : decode b_Mod_pack 254 = .ok (.lload 13, 2) := by decide +kernel
theorem d_Mod_pack_256 : decode b_Mod_pack 256 = .ok (.lsub, 1) := by decide +kernel
theorem d_Mod_pack_257 : decode b_Mod_pack 257 = .ok (.l2i, 1) := by decide +kernel
theorem d_Mod_pack_258 : decode b_Mod_pack 258 = .ok (.iastore, 1) := by decide +kernel
theorem d_Mod_pack_259 : decode b_Mod_pack 259 = .ok (.lload 13, 2) := by decide +kernel
theorem d_Mod_pack_261 : decode b_Mod_pack 261 = .ok (.lstore 10, 2) := by decide +kernel
theorem d_Mod_pack_263 : decode b_Mod_pack 263 = .ok (.lconst 0, 1) := by decide +kernel
theorem d_Mod_pack_264 : decode b_Mod_pack 264 = .ok (.lstore 15, 2) := by decide +kernel
theorem d_Mod_pack_266 : decode b_Mod_pack 266 = .ok (.aload_n 0, 1) := by decide +kernel
theorem d_Mod_pack_267 : decode b_Mod_pack 267 = .ok (.getfield 50, 3) := by decide +kernel
theorem d_Mod_pack_270 : decode b_Mod_pack 270 = .ok (.iload 4, 2) := by decide +kernel
theorem d_Mod_pack_272 : decode b_Mod_pack 272 = .ok (.iconst 0, 1) := by decide +kernel
theorem d_Mod_pack_273 : decode b_Mod_pack 273 = .ok (.iastore, 1) := by decide +kernel
theorem d_Mod_pack_274 : decode b_Mod_pack 274 = .ok (.aload_n 0, 1) := by decide +kernel
theorem d_Mod_pack_275 : decode b_Mod_pack 275 = .ok (.getfield 53, 3) := by decide +kernel
theorem d_Mod_pack_278 : decode b_Mod_pack 278 = .ok (.iload 4, 2) := by decide +kernel
theorem d_Mod_pack_280 : decode b_Mod_pack 280 = .ok (.iconst 0, 1) := by decide +kernel
theorem d_Mod_pack_281 : decode b_Mod_pack 281 = .ok (.iastore, 1) := by decide +kernel
theorem d_Mod_pack_282 : decode b_Mod_pack 282 = .ok (.iconst 0, 1) := by decide +kernel
theorem d_Mod_pack_283 : decode b_Mod_pack 283 = .ok (.istore 17, 2) := by decide +kernel
theorem d_Mod_pack_285 : decode b_Mod_pack 285 = .ok (.iload 17, 2) := by decide +kernel
theorem d_Mod_pack_287 : decode b_Mod_pack 287 = .ok (.aload_n 0, 1) := by decide +kernel
theorem d_Mod_pack_288 : decode b_Mod_pack 288 = .ok (.getfield 83, 3) := by decide +kernel
theorem d_Mod_pack_291 : decode b_Mod_pack 291 = .ok (.if_icmp .ge 223, 3) := by decide +kernel
theorem d_Mod_pack_294 : decode b_Mod_pack 294 = .ok (.aload_n 0, 1) := by decide +kernel
theorem d_Mod_pack_295 : decode b_Mod_pack 295 = .ok (.iload 17, 2) := by decide +kernel
theorem d_Mod_pack_297 : decode b_Mod_pack 297 = .ok (.invokevirtual 96, 3) := by decide +kernel
theorem d_Mod_pack_300 : decode b_Mod_pack 300 = .ok (.i2l, 1) := by decide +kernel
theorem d_Mod_pack_301 : decode b_Mod_pack 301 = .ok (.lstore 18, 2) := by decide +kernel
theorem d_Mod_pack_303 : decode b_Mod_pack 303 = .ok (.iload 12, 2) := by decide +kernel
theorem d_Mod_pack_305 : decode b_Mod_pack 305 = .ok (.ifCond .lt 98, 3) := by decide +kernel
theorem d_Mod_pack_308 : decode b_Mod_pack 308 = .ok (.aload_n 0, 1) := by decide +kernel
theorem d_Mod_pack_309 : decode b_Mod_pack 309 = .ok (.getfield 7, 3) := by decide +kernel
theorem d_Mod_pack_312 : decode b_Mod_pack 312 = .ok (.iload 17, 2) := by decide +kernel
theorem d_Mod_pack_314 : decode b_Mod_pack 314 = .ok (.iaload, 1) := by decide +kernel
theorem d_Mod_pack_315 : decode b_Mod_pack 315 = .ok (.iconst 2, 1) := by decide +kernel
theorem d_Mod_pack_316 : decode b_Mod_pack 316 = .ok (.if_icmp .ne 87, 3) := by decide +kernel
theorem d_Mod_pack_319 : decode b_Mod_pack 319 = .ok (.iload 9, 2) := by decide +kernel
theorem d_Mod_pack_321 : decode b_Mod_pack 321 = .ok (.ifCond .eq 13, 3) := by decide +kernel
theorem d_Mod_pack_324 : decode b_Mod_pack 324 = .ok (.aload_n 0, 1) := by decide +kernel
theorem d_Mod_pack_325 : decode b_Mod_pack 325 = .ok (.getfield 25, 3) := by decide +kernel
theorem d_Mod_pack_328 : decode b_Mod_pack 328 = .ok (.iload 17, 2) := by decide +kernel
theorem d_Mod_pack_330 : decode b_Mod_pack 330 = .ok (.iaload, 1) := by decide +kernel
theorem d_Mod_pack_331 : decode b_Mod_pack 331 = .ok (.goto 10, 3) := by decide +kernel
theorem d_Mod_pack_334 : decode b_Mod_pack 334 = .ok (.aload_n 0, 1) := by decide +kernel
theorem d_Mod_pack_335 : decode b_Mod_pack 335 = .ok (.getfield 31, 3) := by decide +kernel
theorem d_Mod_pack_338 : decode b_Mod_pack 338 = .ok (.iload 17, 2) := by decide +kernel
theorem d_Mod_pack_340 : decode b_Mod_pack 340 = .ok (.iaload, 1) := by decide +kernel
theorem d_Mod_pack_341 : decode b_Mod_pack 341 = .ok (.iload 12, 2) := by decide +kernel
theorem d_Mod_pack_343 : decode b_Mod_pack 343 = .ok (.if_icmp .ne 60, 3) := by decide +kernel
theorem d_Mod_pack_346 : decode b_Mod_pack 346 = .ok (.lload 10, 2) := by decide +kernel
theorem d_Mod_pack_348 : decode b_Mod_pack 348 = .ok (.aload_n 0, 1) := by decide +kernel
theorem d_Mod_pack_349 : decode b_Mod_pack 349 = .ok (.iload 9, 2) := by decide +kernel
theorem d_Mod_pack_351 : decode b_Mod_pack 351 = .ok (.iload 12, 2) := by decide +kernel
theorem d_Mod_pack_353 : decode b_Mod_pack 353 = .ok (.iload 17, 2) := by decide +kernel
theorem d_Mod_pack_355 : decode b_Mod_pack 355 = .ok (.iconst 1, 1) := by decide +kernel
theorem d_Mod_pack_356 : decode b_Mod_pack 356 = .ok (.iadd, 1) := by decide +kernel
theorem d_Mod_pack_357 : decode b_Mod_pack 357 = .ok (.invokevirtual 106, 3) := by decide +kernel
theorem d_Mod_pack_360 : decode b_Mod_pack 360 = .ok (.lmul, 1) := by decide +kernel
theorem d_Mod_pack_361 : decode b_Mod_pack 361 = .ok (.lload 13, 2) := by decide +kernel
theorem d_Mod_pack_363 : decode b_Mod_pack 363 = .ok (.ldiv, 1) := by decide +kernel
theorem d_Mod_pack_364 : decode b_Mod_pack 364 = .ok (.lload 10, 2) := by decide +kernel
theorem d_Mod_pack_366 : decode b_Mod_pack 366 = .ok (.aload_n 0, 1) := by decide +kernel
theorem d_Mod_pack_367 : decode b_Mod_pack 367 = .ok (.iload 9, 2) := by decide +kernel
theorem d_Mod_pack_369 : decode b_Mod_pack 369 = .ok (.iload 12, 2) := by decide +kernel
theorem d_Mod_pack_371 : decode b_Mod_pack 371 = .ok (.iload 17, 2) := by decide +kernel
theorem d_Mod_pack_373 : decode b_Mod_pack 373 = .ok (.invokevirtual 106, 3) := by decide +kernel
theorem d_Mod_pack_376 : decode b_Mod_pack 376 = .ok (.lmul, 1) := by decide +kernel
theorem d_Mod_pack_377 : decode b_Mod_pack 377 = .ok (.lload 13, 2) := by decide +kernel
theorem d_Mod_pack_379 : decode b_Mod_pack 379 = .ok (.ldiv, 1) := by decide +kernel
theorem d_Mod_pack_380 : decode b_Mod_pack 380 = .ok (.lsub, 1) := by decide +kernel
theorem d_Mod_pack_381 : decode b_Mod_pack 381 = .ok (.lstore 20, 2) := by decide +kernel
theorem d_Mod_pack_383 : decode b_Mod_pack 383 = .ok (.iload 9, 2) := by decide +kernel
theorem d_Mod_pack_385 : decode b_Mod_pack 385 = .ok (.ifCond .eq 11, 3) := by decide +kernel
theorem d_Mod_pack_388 : decode b_Mod_pack 388 = .ok (.lload 18, 2) := by decide +kernel
theorem d_Mod_pack_390 : decode b_Mod_pack 390 = .ok (.lload 20, 2) := by decide +kernel
theorem d_Mod_pack_392 : decode b_Mod_pack 392 = .ok (.ladd, 1) := by decide +kernel
theorem d_Mod_pack_393 : decode b_Mod_pack 393 = .ok (.goto 8, 3) := by decide +kernel
theorem d_Mod_pack_396 : decode b_Mod_pack 396 = .ok (.lload 18, 2) := by decide +kernel
theorem d_Mod_pack_398 : decode b_Mod_pack 398 = .ok (.lload 20, 2) := by decide +kernel
theorem d_Mod_pack_400 : decode b_Mod_pack 400 = .ok (.lsub, 1) := by decide +kernel
theorem d_Mod_pack_401 : decode b_Mod_pack 401 = .ok (.lstore 18, 2) := by decide +kernel
theorem d_Mod_pack_403 : decode b_Mod_pack 403 = .ok (.aload_n 0, 1) := by decide +kernel
theorem d_Mod_pack_404 : decode b_Mod_pack 404 = .ok (.getfield 40, 3) := by decide +kernel
theorem d_Mod_pack_407 : decode b_Mod_pack 407 = .ok (.iload 17, 2) := by decide +kernel
theorem d_Mod_pack_409 : decode b_Mod_pack 409 = .ok (.lload 18, 2) := by decide +kernel
theorem d_Mod_pack_411 : decode b_Mod_pack 411 = .ok (.lastore, 1) := by decide +kernel
theorem d_Mod_pack_412 : decode b_Mod_pack 412 = .ok (.aload_n 0, 1) := by decide +kernel
theorem d_Mod_pack_413 : decode b_Mod_pack 413 = .ok (.getfield 44, 3) := by decide +kernel
theorem d_Mod_pack_416 : decode b_Mod_pack 416 = .ok (.iload 17, 2) := by decide +kernel
theorem d_Mod_pack_418 : decode b_Mod_pack 418 = .ok (.lload 15, 2) := by decide +kernel
theorem d_Mod_pack_420 : decode b_Mod_pack 420 = .ok (.lastore, 1) := by decide +kernel
theorem d_Mod_pack_421 : decode b_Mod_pack 421 = .ok (.lload 15, 2) := by decide +kernel
theorem d_Mod_pack_423 : decode b_Mod_pack 423 = .ok (.lload 18, 2) := by decide +kernel
theorem d_Mod_pack_425 : decode b_Mod_pack 425 = .ok (.ladd, 1) := by decide +kernel
theorem d_Mod_pack_426 : decode b_Mod_pack 426 = .ok (.lstore 15, 2) := by decide +kernel
theorem d_Mod_pack_428 : decode b_Mod_pack 428 = .ok (.aload_n 0, 1) := by decide +kernel
theorem d_Mod_pack_429 : decode b_Mod_pack 429 = .ok (.iload 17, 2) := by decide +kernel
theorem d_Mod_pack_431 : decode b_Mod_pack 431 = .ok (.iconst 0, 1) := by decide +kernel
theorem d_Mod_pack_432 : decode b_Mod_pack 432 = .ok (.invokevirtual 128, 3) := by decide +kernel
theorem d_Mod_pack_435 : decode b_Mod_pack 435 = .ok (.istore 20, 2) := by decide +kernel
theorem d_Mod_pack_437 : decode b_Mod_pack 437 = .ok (.aload_n 0, 1) := by decide +kernel
theorem d_Mod_pack_438 : decode b_Mod_pack 438 = .ok (.iload 17, 2) := by decide +kernel
theorem d_Mod_pack_440 : decode b_Mod_pack 440 = .ok (.iconst 0, 1) := by decide +kernel
theorem d_Mod_pack_441 : decode b_Mod_pack 441 = .ok (.invokevirtual 131, 3) := by decide +kernel
theorem d_Mod_pack_444 : decode b_Mod_pack 444 = .ok (.istore 21, 2) := by decide +kernel
theorem d_Mod_pack_446 : decode b_Mod_pack 446 = .ok (.aload_n 0, 1) := by decide +kernel
theorem d_Mod_pack_447 : decode b_Mod_pack 447 = .ok (.getfield 50, 3) := by decide +kernel
theorem d_Mod_pack_450 : decode b_Mod_pack 450 = .ok (.iload 4, 2) := by decide +kernel
theorem d_Mod_pack_452 : decode b_Mod_pack 452 = .ok (.iload 20, 2) := by decide +kernel
theorem d_Mod_pack_454 : decode b_Mod_pack 454 = .ok (.aload_n 0, 1) := by decide +kernel
theorem d_Mod_pack_455 : decode b_Mod_pack 455 = .ok (.getfield 50, 3) := by decide +kernel
theorem d_Mod_pack_458 : decode b_Mod_pack 458 = .ok (.iload 4, 2) := by decide +kernel
theorem d_Mod_pack_460 : decode b_Mod_pack 460 = .ok (.iaload, 1) := by decide +kernel
theorem d_Mod_pack_461 : decode b_Mod_pack 461 = .ok (.if_icmp .le 8, 3) := by decide +kernel
theorem d_Mod_pack_464 : decode b_Mod_pack 464 = .ok (.iload 20, 2) := by decide +kernel
theorem d_Mod_pack_466 : decode b_Mod_pack 466 = .ok (.goto 10, 3) := by decide +kernel
theorem d_Mod_pack_469 : decode b_Mod_pack 469 = .ok (.aload_n 0, 1) := by decide +kernel
theorem d_Mod_pack_470 : decode b_Mod_pack 470 = .ok (.getfield 50, 3) := by decide +kernel
theorem d_Mod_pack_473 : decode b_Mod_pack 473 = .ok (.iload 4, 2) := by decide +kernel
theorem d_Mod_pack_475 : decode b_Mod_pack 475 = .ok (.iaload, 1) := by decide +kernel
theorem d_Mod_pack_476 : decode b_Mod_pack 476 = .ok (.iastore, 1) := by decide +kernel
theorem d_Mod_pack_477 : decode b_Mod_pack 477 = .ok (.aload_n 0, 1) := by decide +kernel
theorem d_Mod_pack_478 : decode b_Mod_pack 478 = .ok (.getfield 53, 3) := by decide +kernel
theorem d_Mod_pack_481 : decode b_Mod_pack 481 = .ok (.iload 4, 2) := by decide +kernel
theorem d_Mod_pack_483 : decode b_Mod_pack 483 = .ok (.iload 21, 2) := by decide +kernel
theorem d_Mod_pack_485 : decode b_Mod_pack 485 = .ok (.aload_n 0, 1) := by decide +kernel
theorem d_Mod_pack_486 : decode b_Mod_pack 486 = .ok (.getfield 53, 3) := by decide +kernel
theorem d_Mod_pack_489 : decode b_Mod_pack 489 = .ok (.iload 4, 2) := by decide +kernel
theorem d_Mod_pack_491 : decode b_Mod_pack 491 = .ok (.iaload, 1) := by decide +kernel
theorem d_Mod_pack_492 : decode b_Mod_pack 492 = .ok (.if_icmp .le 8, 3) := by decide +kernel
theorem d_Mod_pack_495 : decode b_Mod_pack 495 = .ok (.iload 21, 2) := by decide +kernel
theorem d_Mod_pack_497 : decode b_Mod_pack 497 = .ok (.goto 10, 3) := by decide +kernel
theorem d_Mod_pack_500 : decode b_Mod_pack 500 = .ok (.aload_n 0, 1) := by decide +kernel
theorem d_Mod_pack_501 : decode b_Mod_pack 501 = .ok (.getfield 53, 3) := by decide +kernel
theorem d_Mod_pack_504 : decode b_Mod_pack 504 = .ok (.iload 4, 2) := by decide +kernel
theorem d_Mod_pack_506 : decode b_Mod_pack 506 = .ok (.iaload, 1) := by decide +kernel
theorem d_Mod_pack_507 : decode b_Mod_pack 507 = .ok (.iastore, 1) := by decide +kernel
theorem d_Mod_pack_508 : decode b_Mod_pack 508 = .ok (.iinc 17 1, 3) := by decide +kernel
theorem d_Mod_pack_511 : decode b_Mod_pack 511 = .ok (.goto (-226), 3) := by decide +kernel
theorem d_Mod_pack_514 : decode b_Mod_pack 514 = .ok (.aload_n 0, 1) := by decide +kernel
theorem d_Mod_pack_515 : decode b_Mod_pack 515 = .ok (.getfield 47, 3) := by decide +kernel
theorem d_Mod_pack_518 : decode b_Mod_pack 518 = .ok (.iload 4, 2) := by decide +kernel
theorem d_Mod_pack_520 : decode b_Mod_pack 520 = .ok (.lload 5, 2) := by decide +kernel
theorem d_Mod_pack_522 : decode b_Mod_pack 522 = .ok (.l2i, 1) := by decide +kernel
theorem d_Mod_pack_523 : decode b_Mod_pack 523 = .ok (.iastore, 1) := by decide +kernel
theorem d_Mod_pack_524 : decode b_Mod_pack 524 = .ok (.aload_n 0, 1) := by decide +kernel
theorem d_Mod_pack_525 : decode b_Mod_pack 525 = .ok (.getfield 68, 3) := by decide +kernel
theorem d_Mod_pack_528 : decode b_Mod_pack 528 = .ok (.iload 4, 2) := by decide +kernel
theorem d_Mod_pack_530 : decode b_Mod_pack 530 = .ok (.iload 12, 2) := by decide +kernel
theorem d_Mod_pack_532 : decode b_Mod_pack 532 = .ok (.iastore, 1) := by decide +kernel
theorem d_Mod_pack_533 : decode b_Mod_pack 533 = .ok (.aload_n 0, 1) := by decide +kernel
theorem d_Mod_pack_534 : decode b_Mod_pack 534 = .ok (.getfield 71, 3) := by decide +kernel
theorem d_Mod_pack_537 : decode b_Mod_pack 537 = .ok (.iload 4, 2) := by decide +kernel
theorem d_Mod_pack_539 : decode b_Mod_pack 539 = .ok (.lload_n 2, 1) := by decide +kernel
theorem d_Mod_pack_540 : decode b_Mod_pack 540 = .ok (.l2i, 1) := by decide +kernel
theorem d_Mod_pack_541 : decode b_Mod_pack 541 = .ok (.iastore, 1) := by decide +kernel
theorem d_Mod_pack_542 : decode b_Mod_pack 542 = .ok (.aload_n 0, 1) := by decide +kernel
theorem d_Mod_pack_543 : decode b_Mod_pack 543 = .ok (.getfield 56, 3) := by decide +kernel
theorem d_Mod_pack_546 : decode b_Mod_pack 546 = .ok (.iload 4, 2) := by decide +kernel
theorem d_Mod_pack_548 : decode b_Mod_pack 548 = .ok (.bipush 40, 2) := by decide +kernel
theorem d_Mod_pack_550 : decode b_Mod_pack 550 = .ok (.aload_n 0, 1) := by decide +kernel
theorem d_Mod_pack_551 : decode b_Mod_pack 551 = .ok (.getfield 117, 3) := by decide +kernel
theorem d_Mod_pack_554 : decode b_Mod_pack 554 = .ok (.iadd, 1) := by decide +kernel
theorem d_Mod_pack_555 : decode b_Mod_pack 555 = .ok (.iastore, 1) := by decide +kernel
theorem d_Mod_pack_556 : decode b_Mod_pack 556 = .ok (.aload_n 0, 1) := by decide +kernel
theorem d_Mod_pack_557 : decode b_Mod_pack 557 = .ok (.getfield 59, 3) := by decide +kernel
theorem d_Mod_pack_560 : decode b_Mod_pack 560 = .ok (.iload 4, 2) := by decide +kernel
theorem d_Mod_pack_562 : decode b_Mod_pack 562 = .ok (.aload_n 0, 1) := by decide +kernel
theorem d_Mod_pack_563 : decode b_Mod_pack 563 = .ok (.getfield 83, 3) := by decide +kernel
theorem d_Mod_pack_566 : decode b_Mod_pack 566 = .ok (.iastore, 1) := by decide +kernel
theorem d_Mod_pack_567 : decode b_Mod_pack 567 = .ok (.iconst 0, 1) := by decide +kernel
theorem d_Mod_pack_568 : decode b_Mod_pack 568 = .ok (.istore 17, 2) := by decide +kernel
theorem d_Mod_pack_570 : decode b_Mod_pack 570 = .ok (.iload 17, 2) := by decide +kernel
theorem d_Mod_pack_572 : decode b_Mod_pack 572 = .ok (.aload_n 0, 1) := by decide +kernel
theorem d_Mod_pack_573 : decode b_Mod_pack 573 = .ok (.getfield 83, 3) := by decide +kernel
theorem d_Mod_pack_576 : decode b_Mod_pack 576 = .ok (.if_icmp .ge 25, 3) := by decide +kernel
theorem d_Mod_pack_579 : decode b_Mod_pack 579 = .ok (.aload_n 0, 1) := by decide +kernel
theorem d_Mod_pack_580 : decode b_Mod_pack 580 = .ok (.iload 17, 2) := by decide +kernel
theorem d_Mod_pack_582 : decode b_Mod_pack 582 = .ok (.bipush 40, 2) := by decide +kernel
theorem d_Mod_pack_584 : decode b_Mod_pack 584 = .ok (.aload_n 0, 1) := by decide +kernel
theorem d_Mod_pack_585 : decode b_Mod_pack 585 = .ok (.getfield 117, 3) := by decide +kernel
theorem d_Mod_pack_588 : decode b_Mod_pack 588 = .ok (.iadd, 1) := by decide +kernel
theorem d_Mod_pack_589 : decode b_Mod_pack 589 = .ok (.iload 17, 2) := by decide +kernel
theorem d_Mod_pack_591 : decode b_Mod_pack 591 = .ok (.iadd, 1) := by decide +kernel
theorem d_Mod_pack_592 : decode b_Mod_pack 592 = .ok (.invokevirtual 134, 3) := by decide +kernel
theorem d_Mod_pack_595 : decode b_Mod_pack 595 = .ok (.iinc 17 1, 3) := by decide +kernel
theorem d_Mod_pack_598 : decode b_Mod_pack 598 = .ok (.goto (-28), 3) := by decide +kernel
theorem d_Mod_pack_601 : decode b_Mod_pack 601 = .ok (.aload_n 0, 1) := by decide +kernel
theorem d_Mod_pack_602 : decode b_Mod_pack 602 = .ok (.dup, 1) := by decide +kernel
theorem d_Mod_pack_603 : decode b_Mod_pack 603 = .ok (.getfield 117, 3) := by decide +kernel
theorem d_Mod_pack_606 : decode b_Mod_pack 606 = .ok (.aload_n 0, 1) := by decide +kernel
theorem d_Mod_pack_607 : decode b_Mod_pack 607 = .ok (.getfield 83, 3) := by decide +kernel
theorem d_Mod_pack_610 : decode b_Mod_pack 610 = .ok (.iadd, 1) := by decide +kernel
theorem d_Mod_pack_611 : decode b_Mod_pack 611 = .ok (.putfield 117, 3) := by decide +kernel
theorem d_Mod_pack_614 : decode b_Mod_pack 614 = .ok (.aload_n 0, 1) := by decide +kernel
theorem d_Mod_pack_615 : decode b_Mod_pack 615 = .ok (.iconst 0, 1) := by decide +kernel
theorem d_Mod_pack_616 : decode b_Mod_pack 616 = .ok (.putfield 83, 3) := by decide +kernel
theorem d_Mod_pack_619 : decode b_Mod_pack 619 = .ok (.aload_n 0, 1) := by decide +kernel
theorem d_Mod_pack_620 : decode b_Mod_pack 620 = .ok (.dup, 1) := by decide +kernel
theorem d_Mod_pack_621 : decode b_Mod_pack 621 = .ok (.getfield 74, 3) := by decide +kernel
theorem d_Mod_pack_624 : decode b_Mod_pack 624 = .ok (.iconst 1, 1) := by decide +kernel
theorem d_Mod_pack_625 : decode b_Mod_pack 625 = .ok (.iadd, 1) := by decide +kernel
theorem d_Mod_pack_626 : decode b_Mod_pack 626 = .ok (.putfield 74, 3) := by decide +kernel
theorem d_Mod_pack_629 : decode b_Mod_pack 629 = .ok (.iload 4, 2) := by decide +kernel
theorem d_Mod_pack_631 : decode b_Mod_pack 631 = .ok (.ireturn, 1) := by decide +kernel
theorem d_Mod_greatestOrder_0 : decode b_Mod_greatestOrder 0 = .ok (.iconst 3, 1) := by decide +kernel
theorem d_Mod_greatestOrder_1 : decode b_Mod_greatestOrder 1 = .ok (.istore_n 2, 1) := by decide +kernel
theorem d_Mod_greatestOrder_2 : decode b_Mod_greatestOrder 2 = .ok (.iload_n 2, 1) := by decide +kernel
theorem d_Mod_greatestOrder_3 : decode b_Mod_greatestOrder 3 = .ok (.ifCond .lt 24, 3) := by decide +kernel
theorem d_Mod_greatestOrder_6 : decode b_Mod_greatestOrder 6 = .ok (.aload_n 0, 1) := by decide +kernel
theorem d_Mod_greatestOrder_7 : decode b_Mod_greatestOrder 7 = .ok (.iload_n 1, 1) := by decide +kernel
theorem d_Mod_greatestOrder_8 : decode b_Mod_greatestOrder 8 = .ok (.iload_n 2, 1) := by decide +kernel
theorem d_Mod_greatestOrder_9 : decode b_Mod_greatestOrder 9 = .ok (.aload_n 0, 1) := by decide +kernel
theorem d_Mod_greatestOrder_10 : decode b_Mod_greatestOrder 10 = .ok (.getfield 83, 3) := by decide +kernel
theorem d_Mod_greatestOrder_13 : decode b_Mod_greatestOrder 13 = .ok (.invokevirtual 106, 3) := by decide +kernel
theorem d_Mod_greatestOrder_16 : decode b_Mod_greatestOrder 16 = .ok (.lconst 0, 1) := by decide +kernel
theorem d_Mod_greatestOrder_17 : decode b_Mod_greatestOrder 17 = .ok (.lcmp, 1) := by decide +kernel
theorem d_Mod_greatestOrder_18 : decode b_Mod_greatestOrder 18 = .ok (.ifCond .ne 9, 3) := by decide +kernel
theorem d_Mod_greatestOrder_21 : decode b_Mod_greatestOrder 21 = .ok (.iinc 2 (-1), 3) := by decide +kernel
theorem d_Mod_greatestOrder_24 : decode b_Mod_greatestOrder 24 = .ok (.goto (-22), 3) := by decide +kernel
theorem d_Mod_greatestOrder_27 : decode b_Mod_greatestOrder 27 = .ok (.iload_n 2, 1) := by decide +kernel
theorem d_Mod_greatestOrder_28 : decode b_Mod_greatestOrder 28 = .ok (.ireturn, 1) := by decide +kernel
theorem d_Mod_sumOf_0 : decode b_Mod_sumOf 0 = .ok (.lconst 0, 1) := by decide +kernel
theorem d_Mod_sumOf_1 : decode b_Mod_sumOf 1 = .ok (.lstore 4, 2) := by decide +kernel
theorem d_Mod_sumOf_3 : decode b_Mod_sumOf 3 = .ok (.iconst 0, 1) := by decide +kernel
theorem d_Mod_sumOf_4 : decode b_Mod_sumOf 4 = .ok (.istore 6, 2) := by decide +kernel
theorem d_Mod_sumOf_6 : decode b_Mod_sumOf 6 = .ok (.iload 6, 2) := by decide +kernel
theorem d_Mod_sumOf_8 : decode b_Mod_sumOf 8 = .ok (.iload_n 3, 1) := by decide +kernel
