theorem d_BG_item_5 : decode b_BG_item 5 = .ok (.ifCond .ne 5, 3) := by decide +kernel
theorem d_BG_item_8 : decode b_BG_item 8 = .ok (.iconst (-1), 1) := by decide +kernel
theorem d_BG_item_9 : decode b_BG_item 9 = .ok (.ireturn, 1) := by decide +kernel
theorem d_BG_item_10 : decode b_BG_item 10 = .ok (.aload_n 0, 1) := by decide +kernel
theorem d_BG_item_11 : decode b_BG_item 11 = .ok (.getfield 16, 3) := by decide +kernel
theorem d_BG_item_14 : decode b_BG_item 14 = .ok (.iload_n 1, 1) := by decide +kernel
theorem d_BG_item_15 : decode b_BG_item 15 = .ok (.invokevirtual 49, 3) := by decide +kernel
theorem d_BG_item_18 : decode b_BG_item 18 = .ok (.checkcast 32, 3) := by decide +kernel
theorem d_BG_item_21 : decode b_BG_item 21 = .ok (.astore 4, 2) := by decide +kernel
theorem d_BG_item_23 : decode b_BG_item 23 = .ok (.iload_n 2, 1) := by decide +kernel
theorem d_BG_item_24 : decode b_BG_item 24 = .ok (.ifCond .lt 15, 3) := by decide +kernel
theorem d_BG_item_27 : decode b_BG_item 27 = .ok (.iload_n 2, 1) := by decide +kernel
theorem d_BG_item_28 : decode b_BG_item 28 = .ok (.aload 4, 2) := by decide +kernel
theorem d_BG_item_30 : decode b_BG_item 30 = .ok (.getfield 122, 3) := by decide +kernel
theorem d_BG_item_33 : decode b_BG_item 33 = .ok (.invokevirtual 27, 3) := by decide +kernel
theorem d_BG_item_36 : decode b_BG_item 36 = .ok (.if_icmp .lt 5, 3) := by decide +kernel
theorem d_BG_item_39 : decode b_BG_item 39 = .ok (.iconst (-1), 1) := by decide +kernel
theorem d_BG_item_40 : decode b_BG_item 40 = .ok (.ireturn, 1) := by decide +kernel
theorem d_BG_item_41 : decode b_BG_item 41 = .ok (.aload 4, 2) := by decide +kernel
theorem d_BG_item_43 : decode b_BG_item 43 = .ok (.getfield 122, 3) := by decide +kernel
theorem d_BG_item_46 : decode b_BG_item 46 = .ok (.iload_n 2, 1) := by decide +kernel
theorem d_BG_item_47 : decode b_BG_item 47 = .ok (.invokevirtual 49, 3) := by decide +kernel
theorem d_BG_item_50 : decode b_BG_item 50 = .ok (.checkcast 125, 3) := by decide +kernel
theorem d_BG_item_53 : decode b_BG_item 53 = .ok (.iload_n 3, 1) := by decide +kernel
theorem d_BG_item_54 : decode b_BG_item 54 = .ok (.aload 4, 2) := by decide +kernel
theorem d_BG_item_56 : decode b_BG_item 56 = .ok (.invokevirtual 135, 3) := by decide +kernel
theorem d_BG_item_59 : decode b_BG_item 59 = .ok (.ireturn, 1) := by decide +kernel
theorem d_Placed_answer_0 : decode b_Placed_answer 0 = .ok (.iload_n 1, 1) := by decide +kernel
theorem d_Placed_answer_1 : decode b_Placed_answer 1 = .ok (.tableswitch 137 0 7 #[47, 55, 60, 65, 81, 97, 113, 125], 47) := by decide +kernel
theorem d_Placed_answer_48 : decode b_Placed_answer 48 = .ok (.aload_n 0, 1) := by decide +kernel
theorem d_Placed_answer_49 : decode b_Placed_answer 49 = .ok (.getfield 9, 3) := by decide +kernel
theorem d_Placed_answer_52 : decode b_Placed_answer 52 = .ok (.getfield 22, 3) := by decide +kernel
theorem d_Placed_answer_55 : decode b_Placed_answer 55 = .ok (.ireturn, 1) := by decide +kernel
theorem d_Placed_answer_56 : decode b_Placed_answer 56 = .ok (.aload_n 0, 1) := by decide +kernel
theorem d_Placed_answer_57 : decode b_Placed_answer 57 = .ok (.getfield 19, 3) := by decide +kernel
theorem d_Placed_answer_60 : decode b_Placed_answer 60 = .ok (.ireturn, 1) := by decide +kernel
theorem d_Placed_answer_61 : decode b_Placed_answer 61 = .ok (.aload_n 0, 1) := by decide +kernel
theorem d_Placed_answer_62 : decode b_Placed_answer 62 = .ok (.getfield 15, 3) := by decide +kernel
theorem d_Placed_answer_65 : decode b_Placed_answer 65 = .ok (.ireturn, 1) := by decide +kernel
theorem d_Placed_answer_66 : decode b_Placed_answer 66 = .ok (.aload_n 0, 1) := by decide +kernel
theorem d_Placed_answer_67 : decode b_Placed_answer 67 = .ok (.getfield 9, 3) := by decide +kernel
theorem d_Placed_answer_70 : decode b_Placed_answer 70 = .ok (.aload_n 0, 1) := by decide +kernel
theorem d_Placed_answer_71 : decode b_Placed_answer 71 = .ok (.getfield 15, 3) := by decide +kernel
theorem d_Placed_answer_74 : decode b_Placed_answer 74 = .ok (.aload_n 0, 1) := by decide +kernel
theorem d_Placed_answer_75 : decode b_Placed_answer 75 = .ok (.getfield 19, 3) := by decide +kernel
theorem d_Placed_answer_78 : decode b_Placed_answer 78 = .ok (.invokevirtual 27, 3) := by decide +kernel
theorem d_Placed_answer_81 : decode b_Placed_answer 81 = .ok (.ireturn, 1) := by decide +kernel
theorem d_Placed_answer_82 : decode b_Placed_answer 82 = .ok (.aload_n 0, 1) := by decide +kernel
theorem d_Placed_answer_83 : decode b_Placed_answer 83 = .ok (.getfield 9, 3) := by decide +kernel
theorem d_Placed_answer_86 : decode b_Placed_answer 86 = .ok (.aload_n 0, 1) := by decide +kernel
theorem d_Placed_answer_87 : decode b_Placed_answer 87 = .ok (.getfield 15, 3) := by decide +kernel
theorem d_Placed_answer_90 : decode b_Placed_answer 90 = .ok (.aload_n 0, 1) := by decide +kernel
theorem d_Placed_answer_91 : decode b_Placed_answer 91 = .ok (.getfield 19, 3) := by decide +kernel
theorem d_Placed_answer_94 : decode b_Placed_answer 94 = .ok (.invokevirtual 31, 3) := by decide +kernel
theorem d_Placed_answer_97 : decode b_Placed_answer 97 = .ok (.ireturn, 1) := by decide +kernel
theorem d_Placed_answer_98 : decode b_Placed_answer 98 = .ok (.aload_n 0, 1) := by decide +kernel
theorem d_Placed_answer_99 : decode b_Placed_answer 99 = .ok (.getfield 9, 3) := by decide +kernel
theorem d_Placed_answer_102 : decode b_Placed_answer 102 = .ok (.aload_n 0, 1) := by decide +kernel
theorem d_Placed_answer_103 : decode b_Placed_answer 103 = .ok (.getfield 15, 3) := by decide +kernel
theorem d_Placed_answer_106 : decode b_Placed_answer 106 = .ok (.aload_n 0, 1) := by decide +kernel
theorem d_Placed_answer_107 : decode b_Placed_answer 107 = .ok (.getfield 19, 3) := by decide +kernel
theorem d_Placed_answer_110 : decode b_Placed_answer 110 = .ok (.invokevirtual 34, 3) := by decide +kernel
theorem d_Placed_answer_113 : decode b_Placed_answer 113 = .ok (.ireturn, 1) := by decide +kernel
theorem d_Placed_answer_114 : decode b_Placed_answer 114 = .ok (.aload_n 0, 1) := by decide +kernel
theorem d_Placed_answer_115 : decode b_Placed_answer 115 = .ok (.getfield 9, 3) := by decide +kernel
theorem d_Placed_answer_118 : decode b_Placed_answer 118 = .ok (.aload_n 2, 1) := by decide +kernel
theorem d_Placed_answer_119 : decode b_Placed_answer 119 = .ok (.getfield 37, 3) := by decide +kernel
theorem d_Placed_answer_122 : decode b_Placed_answer 122 = .ok (.invokevirtual 42, 3) := by decide +kernel
theorem d_Placed_answer_125 : decode b_Placed_answer 125 = .ok (.ireturn, 1) := by decide +kernel
theorem d_Placed_answer_126 : decode b_Placed_answer 126 = .ok (.aload_n 0, 1) := by decide +kernel
theorem d_Placed_answer_127 : decode b_Placed_answer 127 = .ok (.getfield 9, 3) := by decide +kernel
theorem d_Placed_answer_130 : decode b_Placed_answer 130 = .ok (.aload_n 2, 1) := by decide +kernel
theorem d_Placed_answer_131 : decode b_Placed_answer 131 = .ok (.getfield 46, 3) := by decide +kernel
theorem d_Placed_answer_134 : decode b_Placed_answer 134 = .ok (.invokevirtual 49, 3) := by decide +kernel
theorem d_Placed_answer_137 : decode b_Placed_answer 137 = .ok (.ireturn, 1) := by decide +kernel
theorem d_Placed_answer_138 : decode b_Placed_answer 138 = .ok (.iconst (-1), 1) := by decide +kernel
theorem d_Placed_answer_139 : decode b_Placed_answer 139 = .ok (.ireturn, 1) := by decide +kernel
theorem d_Glue_leadersDrawn_0 : decode b_Glue_leadersDrawn 0 = .ok (.aload_n 0, 1) := by decide +kernel
theorem d_Glue_leadersDrawn_1 : decode b_Glue_leadersDrawn 1 = .ok (.getfield 22, 3) := by decide +kernel
theorem d_Glue_leadersDrawn_4 : decode b_Glue_leadersDrawn 4 = .ok (.iload_n 1, 1) := by decide +kernel
theorem d_Glue_leadersDrawn_5 : decode b_Glue_leadersDrawn 5 = .ok (.iload_n 2, 1) := by decide +kernel
theorem d_Glue_leadersDrawn_6 : decode b_Glue_leadersDrawn 6 = .ok (.invokevirtual 32, 3) := by decide +kernel
theorem d_Glue_leadersDrawn_9 : decode b_Glue_leadersDrawn 9 = .ok (.ireturn, 1) := by decide +kernel
theorem d_Leaders_drawn_0 : decode b_Leaders_drawn 0 = .ok (.aload_n 0, 1) := by decide +kernel
theorem d_Leaders_drawn_1 : decode b_Leaders_drawn 1 = .ok (.getfield 13, 3) := by decide +kernel
theorem d_Leaders_drawn_4 : decode b_Leaders_drawn 4 = .ok (.ifCond .le 11, 3) := by decide +kernel
theorem d_Leaders_drawn_7 : decode b_Leaders_drawn 7 = .ok (.iload_n 2, 1) := by decide +kernel
theorem d_Leaders_drawn_8 : decode b_Leaders_drawn 8 = .ok (.aload_n 0, 1) := by decide +kernel
theorem d_Leaders_drawn_9 : decode b_Leaders_drawn 9 = .ok (.getfield 13, 3) := by decide +kernel
theorem d_Leaders_drawn_12 : decode b_Leaders_drawn 12 = .ok (.if_icmp .ge 5, 3) := by decide +kernel
theorem d_Leaders_drawn_15 : decode b_Leaders_drawn 15 = .ok (.iconst 0, 1) := by decide +kernel
theorem d_Leaders_drawn_16 : decode b_Leaders_drawn 16 = .ok (.ireturn, 1) := by decide +kernel
theorem d_Leaders_drawn_17 : decode b_Leaders_drawn 17 = .ok (.aload_n 0, 1) := by decide +kernel
theorem d_Leaders_drawn_18 : decode b_Leaders_drawn 18 = .ok (.getfield 7, 3) := by decide +kernel
theorem d_Leaders_drawn_21 : decode b_Leaders_drawn 21 = .ok (.iconst 1, 1) := by decide +kernel
theorem d_Leaders_drawn_22 : decode b_Leaders_drawn 22 = .ok (.if_icmp .ne 20, 3) := by decide +kernel
theorem d_Leaders_drawn_25 : decode b_Leaders_drawn 25 = .ok (.iload_n 1, 1) := by decide +kernel
theorem d_Leaders_drawn_26 : decode b_Leaders_drawn 26 = .ok (.iload_n 2, 1) := by decide +kernel
theorem d_Leaders_drawn_27 : decode b_Leaders_drawn 27 = .ok (.iadd, 1) := by decide +kernel
theorem d_Leaders_drawn_28 : decode b_Leaders_drawn 28 = .ok (.aload_n 0, 1) := by decide +kernel
theorem d_Leaders_drawn_29 : decode b_Leaders_drawn 29 = .ok (.getfield 13, 3) := by decide +kernel
theorem d_Leaders_drawn_32 : decode b_Leaders_drawn 32 = .ok (.invokestatic 16, 3) := by decide +kernel
theorem d_Leaders_drawn_35 : decode b_Leaders_drawn 35 = .ok (.aload_n 0, 1) := by decide +kernel
theorem d_Leaders_drawn_36 : decode b_Leaders_drawn 36 = .ok (.iload_n 1, 1) := by decide +kernel
theorem d_Leaders_drawn_37 : decode b_Leaders_drawn 37 = .ok (.invokevirtual 22, 3) := by decide +kernel
theorem d_Leaders_drawn_40 : decode b_Leaders_drawn 40 = .ok (.isub, 1) := by decide +kernel
theorem d_Leaders_drawn_41 : decode b_Leaders_drawn 41 = .ok (.ireturn, 1) := by decide +kernel
theorem d_Leaders_drawn_42 : decode b_Leaders_drawn 42 = .ok (.iload_n 2, 1) := by decide +kernel
theorem d_Leaders_drawn_43 : decode b_Leaders_drawn 43 = .ok (.aload_n 0, 1) := by decide +kernel
theorem d_Leaders_drawn_44 : decode b_Leaders_drawn 44 = .ok (.getfield 13, 3) := by decide +kernel
theorem d_Leaders_drawn_47 : decode b_Leaders_drawn 47 = .ok (.idiv, 1) := by decide +kernel
theorem d_Leaders_drawn_48 : decode b_Leaders_drawn 48 = .ok (.ireturn, 1) := by decide +kernel
theorem d_Math_floorDiv_0 : decode b_Math_floorDiv 0 = .ok (.iload_n 0, 1) := by decide +kernel
theorem d_Math_floorDiv_1 : decode b_Math_floorDiv 1 = .ok (.iload_n 1, 1) := by decide +kernel
theorem d_Math_floorDiv_2 : decode b_Math_floorDiv 2 = .ok (.idiv, 1) := by decide +kernel
theorem d_Math_floorDiv_3 : decode b_Math_floorDiv 3 = .ok (.istore_n 2, 1) := by decide +kernel
theorem d_Math_floorDiv_4 : decode b_Math_floorDiv 4 = .ok (.iload_n 0, 1) := by decide +kernel
theorem d_Math_floorDiv_5 : decode b_Math_floorDiv 5 = .ok (.iload_n 1, 1) := by decide +kernel
theorem d_Math_floorDiv_6 : decode b_Math_floorDiv 6 = .ok (.ixor, 1) := by decide +kernel
theorem d_Math_floorDiv_7 : decode b_Math_floorDiv 7 = .ok (.ifCond .ge 14, 3) := by decide +kernel
theorem d_Math_floorDiv_10 : decode b_Math_floorDiv 10 = .ok (.iload_n 2, 1) := by decide +kernel
theorem d_Math_floorDiv_11 : decode b_Math_floorDiv 11 = .ok (.iload_n 1, 1) := by decide +kernel
theorem d_Math_floorDiv_12 : decode b_Math_floorDiv 12 = .ok (.imul, 1) := by decide +kernel
theorem d_Math_floorDiv_13 : decode b_Math_floorDiv 13 = .ok (.iload_n 0, 1) := by decide +kernel
theorem d_Math_floorDiv_14 : decode b_Math_floorDiv 14 = .ok (.if_icmp .eq 7, 3) := by decide +kernel
theorem d_Math_floorDiv_17 : decode b_Math_floorDiv 17 = .ok (.iload_n 2, 1) := by decide +kernel
theorem d_Math_floorDiv_18 : decode b_Math_floorDiv 18 = .ok (.iconst 1, 1) := by decide +kernel
theorem d_Math_floorDiv_19 : decode b_Math_floorDiv 19 = .ok (.isub, 1) := by decide +kernel
theorem d_Math_floorDiv_20 : decode b_Math_floorDiv 20 = .ok (.ireturn, 1) := by decide +kernel
theorem d_Math_floorDiv_21 : decode b_Math_floorDiv 21 = .ok (.iload_n 2, 1) := by decide +kernel
theorem d_Math_floorDiv_22 : decode b_Math_floorDiv 22 = .ok (.ireturn, 1) := by decide +kernel
theorem d_Leaders_alignedFrom_0 : decode b_Leaders_alignedFrom 0 = .ok (.aload_n 0, 1) := by decide +kernel
theorem d_Leaders_alignedFrom_1 : decode b_Leaders_alignedFrom 1 = .ok (.getfield 13, 3) := by decide +kernel
theorem d_Leaders_alignedFrom_4 : decode b_Leaders_alignedFrom 4 = .ok (.ifCond .gt 7, 3) := by decide +kernel
theorem d_Leaders_alignedFrom_7 : decode b_Leaders_alignedFrom 7 = .ok (.iconst 0, 1) := by decide +kernel
theorem d_Leaders_alignedFrom_8 : decode b_Leaders_alignedFrom 8 = .ok (.goto 13, 3) := by decide +kernel
theorem d_Leaders_alignedFrom_11 : decode b_Leaders_alignedFrom 11 = .ok (.iload_n 1, 1) := by decide +kernel
theorem d_Leaders_alignedFrom_12 : decode b_Leaders_alignedFrom 12 = .ok (.ineg, 1) := by decide +kernel
theorem d_Leaders_alignedFrom_13 : decode b_Leaders_alignedFrom 13 = .ok (.aload_n 0, 1) := by decide +kernel
theorem d_Leaders_alignedFrom_14 : decode b_Leaders_alignedFrom 14 = .ok (.getfield 13, 3) := by decide +kernel
theorem d_Leaders_alignedFrom_17 : decode b_Leaders_alignedFrom 17 = .ok (.invokestatic 16, 3) := by decide +kernel
theorem d_Leaders_alignedFrom_20 : decode b_Leaders_alignedFrom 20 = .ok (.ineg, 1) := by decide +kernel
theorem d_Leaders_alignedFrom_21 : decode b_Leaders_alignedFrom 21 = .ok (.ireturn, 1) := by decide +kernel
theorem d_Item_leadersDrawn_0 : decode b_Item_leadersDrawn 0 = .ok (.iconst 0, 1) := by decide +kernel
theorem d_Item_leadersDrawn_1 : decode b_Item_leadersDrawn 1 = .ok (.ireturn, 1) := by decide +kernel
theorem d_Glue_firstLeader_0 : decode b_Glue_firstLeader 0 = .ok (.aload_n 0, 1) := by decide +kernel
theorem d_Glue_firstLeader_1 : decode b_Glue_firstLeader 1 = .ok (.getfield 22, 3) := by decide +kernel
theorem d_Glue_firstLeader_4 : decode b_Glue_firstLeader 4 = .ok (.iload_n 1, 1) := by decide +kernel
theorem d_Glue_firstLeader_5 : decode b_Glue_firstLeader 5 = .ok (.iload_n 2, 1) := by decide +kernel
theorem d_Glue_firstLeader_6 : decode b_Glue_firstLeader 6 = .ok (.invokevirtual 38, 3) := by decide +kernel
theorem d_Glue_firstLeader_9 : decode b_Glue_firstLeader 9 = .ok (.ireturn, 1) := by decide +kernel
theorem d_Leaders_first_0 : decode b_Leaders_first 0 = .ok (.aload_n 0, 1) := by decide +kernel
theorem d_Leaders_first_1 : decode b_Leaders_first 1 = .ok (.getfield 13, 3) := by decide +kernel
theorem d_Leaders_first_4 : decode b_Leaders_first 4 = .ok (.ifCond .le 12, 3) := by decide +kernel
theorem d_Leaders_first_7 : decode b_Leaders_first 7 = .ok (.aload_n 0, 1) := by decide +kernel
theorem d_Leaders_first_8 : decode b_Leaders_first 8 = .ok (.iload_n 1, 1) := by decide +kernel
theorem d_Leaders_first_9 : decode b_Leaders_first 9 = .ok (.iload_n 2, 1) := by decide +kernel
theorem d_Leaders_first_10 : decode b_Leaders_first 10 = .ok (.invokevirtual 26, 3) := by decide +kernel
theorem d_Leaders_first_13 : decode b_Leaders_first 13 = .ok (.ifCond .ne 5, 3) := by decide +kernel
theorem d_Leaders_first_16 : decode b_Leaders_first 16 = .ok (.iconst 0, 1) := by decide +kernel
theorem d_Leaders_first_17 : decode b_Leaders_first 17 = .ok (.ireturn, 1) := by decide +kernel
theorem d_Leaders_first_18 : decode b_Leaders_first 18 = .ok (.aload_n 0, 1) := by decide +kernel
theorem d_Leaders_first_19 : decode b_Leaders_first 19 = .ok (.getfield 7, 3) := by decide +kernel
theorem d_Leaders_first_22 : decode b_Leaders_first 22 = .ok (.iconst 1, 1) := by decide +kernel
theorem d_Leaders_first_23 : decode b_Leaders_first 23 = .ok (.if_icmp .ne 14, 3) := by decide +kernel
theorem d_Leaders_first_26 : decode b_Leaders_first 26 = .ok (.aload_n 0, 1) := by decide +kernel
theorem d_Leaders_first_27 : decode b_Leaders_first 27 = .ok (.iload_n 1, 1) := by decide +kernel
theorem d_Leaders_first_28 : decode b_Leaders_first 28 = .ok (.invokevirtual 22, 3) := by decide +kernel
theorem d_Leaders_first_31 : decode b_Leaders_first 31 = .ok (.aload_n 0, 1) := by decide +kernel
theorem d_Leaders_first_32 : decode b_Leaders_first 32 = .ok (.getfield 13, 3) := by decide +kernel
theorem d_Leaders_first_35 : decode b_Leaders_first 35 = .ok (.imul, 1) := by decide +kernel
theorem d_Leaders_first_36 : decode b_Leaders_first 36 = .ok (.ireturn, 1) := by decide +kernel
theorem d_Leaders_first_37 : decode b_Leaders_first 37 = .ok (.aload_n 0, 1) := by decide +kernel
theorem d_Leaders_first_38 : decode b_Leaders_first 38 = .ok (.getfield 7, 3) := by decide +kernel
theorem d_Leaders_first_41 : decode b_Leaders_first 41 = .ok (.iconst 2, 1) := by decide +kernel
theorem d_Leaders_first_42 : decode b_Leaders_first 42 = .ok (.if_icmp .ne 14, 3) := by decide +kernel
theorem d_Leaders_first_45 : decode b_Leaders_first 45 = .ok (.iload_n 1, 1) := by decide +kernel
theorem d_Leaders_first_46 : decode b_Leaders_first 46 = .ok (.iload_n 2, 1) := by decide +kernel
theorem d_Leaders_first_47 : decode b_Leaders_first 47 = .ok (.aload_n 0, 1) := by decide +kernel
theorem d_Leaders_first_48 : decode b_Leaders_first 48 = .ok (.getfield 13, 3) := by decide +kernel
theorem d_Leaders_first_51 : decode b_Leaders_first 51 = .ok (.irem, 1) := by decide +kernel
theorem d_Leaders_first_52 : decode b_Leaders_first 52 = .ok (.iconst 2, 1) := by decide +kernel
theorem d_Leaders_first_53 : decode b_Leaders_first 53 = .ok (.idiv, 1) := by decide +kernel
theorem d_Leaders_first_54 : decode b_Leaders_first 54 = .ok (.iadd, 1) := by decide +kernel
theorem d_Leaders_first_55 : decode b_Leaders_first 55 = .ok (.ireturn, 1) := by decide +kernel
theorem d_Leaders_first_56 : decode b_Leaders_first 56 = .ok (.iload_n 1, 1) := by decide +kernel
theorem d_Leaders_first_57 : decode b_Leaders_first 57 = .ok (.aload_n 0, 1) := by decide +kernel
theorem d_Leaders_first_58 : decode b_Leaders_first 58 = .ok (.iload_n 2, 1) := by decide +kernel
theorem d_Leaders_first_59 : decode b_Leaders_first 59 = .ok (.invokevirtual 29, 3) := by decide +kernel
theorem d_Leaders_first_62 : decode b_Leaders_first 62 = .ok (.iadd, 1) := by decide +kernel
theorem d_Leaders_first_63 : decode b_Leaders_first 63 = .ok (.ireturn, 1) := by decide +kernel
theorem d_Leaders_gap_0 : decode b_Leaders_gap 0 = .ok (.aload_n 0, 1) := by decide +kernel
theorem d_Leaders_gap_1 : decode b_Leaders_gap 1 = .ok (.getfield 13, 3) := by decide +kernel
theorem d_Leaders_gap_4 : decode b_Leaders_gap 4 = .ok (.ifCond .le 11, 3) := by decide +kernel
theorem d_Leaders_gap_7 : decode b_Leaders_gap 7 = .ok (.iload_n 1, 1) := by decide +kernel
theorem d_Leaders_gap_8 : decode b_Leaders_gap 8 = .ok (.aload_n 0, 1) := by decide +kernel
theorem d_Leaders_gap_9 : decode b_Leaders_gap 9 = .ok (.getfield 13, 3) := by decide +kernel
theorem d_Leaders_gap_12 : decode b_Leaders_gap 12 = .ok (.if_icmp .ge 5, 3) := by decide +kernel
theorem d_Leaders_gap_15 : decode b_Leaders_gap 15 = .ok (.iconst 0, 1) := by decide +kernel
theorem d_Leaders_gap_16 : decode b_Leaders_gap 16 = .ok (.ireturn, 1) := by decide +kernel
theorem d_Leaders_gap_17 : decode b_Leaders_gap 17 = .ok (.iload_n 1, 1) := by decide +kernel
theorem d_Leaders_gap_18 : decode b_Leaders_gap 18 = .ok (.aload_n 0, 1) := by decide +kernel
theorem d_Leaders_gap_19 : decode b_Leaders_gap 19 = .ok (.getfield 13, 3) := by decide +kernel
theorem d_Leaders_gap_22 : decode b_Leaders_gap 22 = .ok (.irem, 1) := by decide +kernel
theorem d_Leaders_gap_23 : decode b_Leaders_gap 23 = .ok (.iload_n 1, 1) := by decide +kernel
theorem d_Leaders_gap_24 : decode b_Leaders_gap 24 = .ok (.aload_n 0, 1) := by decide +kernel
theorem d_Leaders_gap_25 : decode b_Leaders_gap 25 = .ok (.getfield 13, 3) := by decide +kernel
theorem d_Leaders_gap_28 : decode b_Leaders_gap 28 = .ok (.idiv, 1) := by decide +kernel
theorem d_Leaders_gap_29 : decode b_Leaders_gap 29 = .ok (.iconst 1, 1) := by decide +kernel
theorem d_Leaders_gap_30 : decode b_Leaders_gap 30 = .ok (.iadd, 1) := by decide +kernel
theorem d_Leaders_gap_31 : decode b_Leaders_gap 31 = .ok (.idiv, 1) := by decide +kernel
theorem d_Leaders_gap_32 : decode b_Leaders_gap 32 = .ok (.ireturn, 1) := by decide +kernel
theorem d_Item_firstLeader_0 : decode b_Item_firstLeader 0 = .ok (.iconst 0, 1) := by decide +kernel
theorem d_Item_firstLeader_1 : decode b_Item_firstLeader 1 = .ok (.ireturn, 1) := by decide +kernel
theorem d_Glue_leaderStep_0 : decode b_Glue_leaderStep 0 = .ok (.aload_n 0, 1) := by decide +kernel
theorem d_Glue_leaderStep_1 : decode b_Glue_leaderStep 1 = .ok (.getfield 22, 3) := by decide +kernel
theorem d_Glue_leaderStep_4 : decode b_Glue_leaderStep 4 = .ok (.iload_n 1, 1) := by decide +kernel
theorem d_Glue_leaderStep_5 : decode b_Glue_leaderStep 5 = .ok (.iload_n 2, 1) := by decide +kernel
theorem d_Glue_leaderStep_6 : decode b_Glue_leaderStep 6 = .ok (.invokevirtual 41, 3) := by decide +kernel
theorem d_Glue_leaderStep_9 : decode b_Glue_leaderStep 9 = .ok (.ireturn, 1) := by decide +kernel
theorem d_Leaders_step_0 : decode b_Leaders_step 0 = .ok (.aload_n 0, 1) := by decide +kernel
theorem d_Leaders_step_1 : decode b_Leaders_step 1 = .ok (.iload_n 1, 1) := by decide +kernel
theorem d_Leaders_step_2 : decode b_Leaders_step 2 = .ok (.iload_n 2, 1) := by decide +kernel
theorem d_Leaders_step_3 : decode b_Leaders_step 3 = .ok (.invokevirtual 26, 3) := by decide +kernel
theorem d_Leaders_step_6 : decode b_Leaders_step 6 = .ok (.ifCond .ne 5, 3) := by decide +kernel
theorem d_Leaders_step_9 : decode b_Leaders_step 9 = .ok (.iconst 0, 1) := by decide +kernel
theorem d_Leaders_step_10 : decode b_Leaders_step 10 = .ok (.ireturn, 1) := by decide +kernel
theorem d_Leaders_step_11 : decode b_Leaders_step 11 = .ok (.aload_n 0, 1) := by decide +kernel
theorem d_Leaders_step_12 : decode b_Leaders_step 12 = .ok (.getfield 7, 3) := by decide +kernel
theorem d_Leaders_step_15 : decode b_Leaders_step 15 = .ok (.iconst 3, 1) := by decide +kernel
theorem d_Leaders_step_16 : decode b_Leaders_step 16 = .ok (.if_icmp .ne 16, 3) := by decide +kernel
theorem d_Leaders_step_19 : decode b_Leaders_step 19 = .ok (.aload_n 0, 1) := by decide +kernel
theorem d_Leaders_step_20 : decode b_Leaders_step 20 = .ok (.getfield 13, 3) := by decide +kernel
theorem d_Leaders_step_23 : decode b_Leaders_step 23 = .ok (.aload_n 0, 1) := by decide +kernel
theorem d_Leaders_step_24 : decode b_Leaders_step 24 = .ok (.iload_n 2, 1) := by decide +kernel
theorem d_Leaders_step_25 : decode b_Leaders_step 25 = .ok (.invokevirtual 29, 3) := by decide +kernel
theorem d_Leaders_step_28 : decode b_Leaders_step 28 = .ok (.iadd, 1) := by decide +kernel
theorem d_Leaders_step_29 : decode b_Leaders_step 29 = .ok (.goto 7, 3) := by decide +kernel
theorem d_Leaders_step_32 : decode b_Leaders_step 32 = .ok (.aload_n 0, 1) := by decide +kernel
theorem d_Leaders_step_33 : decode b_Leaders_step 33 = .ok (.getfield 13, 3) := by decide +kernel
theorem d_Leaders_step_36 : decode b_Leaders_step 36 = .ok (.ireturn, 1) := by decide +kernel
theorem d_Item_leaderStep_0 : decode b_Item_leaderStep 0 = .ok (.iconst 0, 1) := by decide +kernel
theorem d_Item_leaderStep_1 : decode b_Item_leaderStep 1 = .ok (.ireturn, 1) := by decide +kernel
theorem d_BG_size_0 : decode b_BG_size 0 = .ok (.aload_n 0, 1) := by decide +kernel
theorem d_BG_size_1 : decode b_BG_size 1 = .ok (.getfield 10, 3) := by decide +kernel
theorem d_BG_size_4 : decode b_BG_size 4 = .ok (.invokevirtual 27, 3) := by decide +kernel
theorem d_BG_size_7 : decode b_BG_size 7 = .ok (.ireturn, 1) := by decide +kernel
theorem d_BG_natural_0 : decode b_BG_natural 0 = .ok (.aload_n 0, 1) := by decide +kernel
theorem d_BG_natural_1 : decode b_BG_natural 1 = .ok (.getfield 10, 3) := by decide +kernel
theorem d_BG_natural_4 : decode b_BG_natural 4 = .ok (.invokestatic 103, 3) := by decide +kernel
theorem d_BG_natural_7 : decode b_BG_natural 7 = .ok (.i2l, 1) := by decide +kernel
theorem d_BG_natural_8 : decode b_BG_natural 8 = .ok (.lreturn, 1) := by decide +kernel
theorem d_BG_drop_0 : decode b_BG_drop 0 = .ok (.aload_n 0, 1) := by decide +kernel
theorem d_BG_drop_1 : decode b_BG_drop 1 = .ok (.getfield 10, 3) := by decide +kernel
theorem d_BG_drop_4 : decode b_BG_drop 4 = .ok (.invokevirtual 87, 3) := by decide +kernel
theorem d_BG_drop_7 : decode b_BG_drop 7 = .ok (.ifCond .eq 6, 3) := by decide +kernel
theorem d_BG_drop_10 : decode b_BG_drop 10 = .ok (.bipush (-3), 2) := by decide +kernel
theorem d_BG_drop_12 : decode b_BG_drop 12 = .ok (.ireturn, 1) := by decide +kernel
theorem d_BG_drop_13 : decode b_BG_drop 13 = .ok (.aload_n 0, 1) := by decide +kernel
theorem d_BG_drop_14 : decode b_BG_drop 14 = .ok (.getfield 10, 3) := by decide +kernel
theorem d_BG_drop_17 : decode b_BG_drop 17 = .ok (.aload_n 0, 1) := by decide +kernel
theorem d_BG_drop_18 : decode b_BG_drop 18 = .ok (.getfield 10, 3) := by decide +kernel
theorem d_BG_drop_21 : decode b_BG_drop 21 = .ok (.invokevirtual 27, 3) := by decide +kernel
theorem d_BG_drop_24 : decode b_BG_drop 24 = .ok (.iconst 1, 1) := by decide +kernel
theorem d_BG_drop_25 : decode b_BG_drop 25 = .ok (.isub, 1) := by decide +kernel
theorem d_BG_drop_26 : decode b_BG_drop 26 = .ok (.invokevirtual 138, 3) := by decide +kernel
theorem d_BG_drop_29 : decode b_BG_drop 29 = .ok (.pop, 1) := by decide +kernel
theorem d_BG_drop_30 : decode b_BG_drop 30 = .ok (.aload_n 0, 1) := by decide +kernel
theorem d_BG_drop_31 : decode b_BG_drop 31 = .ok (.getfield 10, 3) := by decide +kernel
theorem d_BG_drop_34 : decode b_BG_drop 34 = .ok (.invokevirtual 27, 3) := by decide +kernel
theorem d_BG_drop_37 : decode b_BG_drop 37 = .ok (.ireturn, 1) := by decide +kernel
theorem d_AL_remove_0 : decode b_AL_remove 0 = .ok (.iload_n 1, 1) := by decide +kernel
theorem d_AL_remove_1 : decode b_AL_remove 1 = .ok (.aload_n 0, 1) := by decide +kernel
theorem d_AL_remove_2 : decode b_AL_remove 2 = .ok (.getfield 48, 3) := by decide +kernel
theorem d_AL_remove_5 : decode b_AL_remove 5 = .ok (.invokestatic 118, 3) := by decide +kernel
theorem d_AL_remove_8 : decode b_AL_remove 8 = .ok (.pop, 1) := by decide +kernel
theorem d_AL_remove_9 : decode b_AL_remove 9 = .ok (.aload_n 0, 1) := by decide +kernel
theorem d_AL_remove_10 : decode b_AL_remove 10 = .ok (.getfield 9, 3) := by decide +kernel
theorem d_AL_remove_13 : decode b_AL_remove 13 = .ok (.astore_n 2, 1) := by decide +kernel
theorem d_AL_remove_14 : decode b_AL_remove 14 = .ok (.aload_n 2, 1) := by decide +kernel
theorem d_AL_remove_15 : decode b_AL_remove 15 = .ok (.iload_n 1, 1) := by decide +kernel
theorem d_AL_remove_16 : decode b_AL_remove 16 = .ok (.aaload, 1) := by decide +kernel
theorem d_AL_remove_17 : decode b_AL_remove 17 = .ok (.astore_n 3, 1) := by decide +kernel
theorem d_AL_remove_18 : decode b_AL_remove 18 = .ok (.aload_n 0, 1) := by decide +kernel
theorem d_AL_remove_19 : decode b_AL_remove 19 = .ok (.aload_n 2, 1) := by decide +kernel
theorem d_AL_remove_20 : decode b_AL_remove 20 = .ok (.iload_n 1, 1) := by decide +kernel
theorem d_AL_remove_21 : decode b_AL_remove 21 = .ok (.invokevirtual 144, 3) := by decide +kernel
theorem d_AL_remove_24 : decode b_AL_remove 24 = .ok (.aload_n 3, 1) := by decide +kernel
theorem d_AL_remove_25 : decode b_AL_remove 25 = .ok (.areturn, 1) := by decide +kernel
theorem d_AL_fastRemove_0 : decode b_AL_fastRemove 0 = .ok (.aload_n 0, 1) := by decide +kernel
theorem d_AL_fastRemove_1 : decode b_AL_fastRemove 1 = .ok (.dup, 1) := by decide +kernel
theorem d_AL_fastRemove_2 : decode b_AL_fastRemove 2 = .ok (.getfield 63, 3) := by decide +kernel
theorem d_AL_fastRemove_5 : decode b_AL_fastRemove 5 = .ok (.iconst 1, 1) := by decide +kernel
theorem d_AL_fastRemove_6 : decode b_AL_fastRemove 6 = .ok (.iadd, 1) := by decide +kernel
theorem d_AL_fastRemove_7 : decode b_AL_fastRemove 7 = .ok (.putfield 63, 3) := by decide +kernel
theorem d_AL_fastRemove_10 : decode b_AL_fastRemove 10 = .ok (.aload_n 0, 1) := by decide +kernel
theorem d_AL_fastRemove_11 : decode b_AL_fastRemove 11 = .ok (.getfield 48, 3) := by decide +kernel
theorem d_AL_fastRemove_14 : decode b_AL_fastRemove 14 = .ok (.iconst 1, 1) := by decide +kernel
theorem d_AL_fastRemove_15 : decode b_AL_fastRemove 15 = .ok (.isub, 1) := by decide +kernel
theorem d_AL_fastRemove_16 : decode b_AL_fastRemove 16 = .ok (.dup, 1) := by decide +kernel
theorem d_AL_fastRemove_17 : decode b_AL_fastRemove 17 = .ok (.istore_n 3, 1) := by decide +kernel
theorem d_AL_fastRemove_18 : decode b_AL_fastRemove 18 = .ok (.iload_n 2, 1) := by decide +kernel
theorem d_AL_fastRemove_19 : decode b_AL_fastRemove 19 = .ok (.if_icmp .le 15, 3) := by decide +kernel
theorem d_AL_fastRemove_22 : decode b_AL_fastRemove 22 = .ok (.aload_n 1, 1) := by decide +kernel
theorem d_AL_fastRemove_23 : decode b_AL_fastRemove 23 = .ok (.iload_n 2, 1) := by decide +kernel
theorem d_AL_fastRemove_24 : decode b_AL_fastRemove 24 = .ok (.iconst 1, 1) := by decide +kernel
theorem d_AL_fastRemove_25 : decode b_AL_fastRemove 25 = .ok (.iadd, 1) := by decide +kernel
theorem d_AL_fastRemove_26 : decode b_AL_fastRemove 26 = .ok (.aload_n 1, 1) := by decide +kernel
theorem d_AL_fastRemove_27 : decode b_AL_fastRemove 27 = .ok (.iload_n 2, 1) := by decide +kernel
theorem d_AL_fastRemove_28 : decode b_AL_fastRemove 28 = .ok (.iload_n 3, 1) := by decide +kernel
theorem d_AL_fastRemove_29 : decode b_AL_fastRemove 29 = .ok (.iload_n 2, 1) := by decide +kernel
theorem d_AL_fastRemove_30 : decode b_AL_fastRemove 30 = .ok (.isub, 1) := by decide +kernel
theorem d_AL_fastRemove_31 : decode b_AL_fastRemove 31 = .ok (.invokestatic 112, 3) := by decide +kernel
theorem d_AL_fastRemove_34 : decode b_AL_fastRemove 34 = .ok (.aload_n 1, 1) := by decide +kernel
theorem d_AL_fastRemove_35 : decode b_AL_fastRemove 35 = .ok (.aload_n 0, 1) := by decide +kernel
theorem d_AL_fastRemove_36 : decode b_AL_fastRemove 36 = .ok (.iload_n 3, 1) := by decide +kernel
theorem d_AL_fastRemove_37 : decode b_AL_fastRemove 37 = .ok (.dup_x1, 1) := by decide +kernel
theorem d_AL_fastRemove_38 : decode b_AL_fastRemove 38 = .ok (.putfield 48, 3) := by decide +kernel
theorem d_AL_fastRemove_41 : decode b_AL_fastRemove 41 = .ok (.aconst_null, 1) := by decide +kernel
theorem d_AL_fastRemove_42 : decode b_AL_fastRemove 42 = .ok (.aastore, 1) := by decide +kernel
theorem d_AL_fastRemove_43 : decode b_AL_fastRemove 43 = .ok (.return_, 1) := by decide +kernel
theorem d_BG_boxes_0 : decode b_BG_boxes 0 = .ok (.aload_n 0, 1) := by decide +kernel
theorem d_BG_boxes_1 : decode b_BG_boxes 1 = .ok (.getfield 16, 3) := by decide +kernel
theorem d_BG_boxes_4 : decode b_BG_boxes 4 = .ok (.invokevirtual 27, 3) := by decide +kernel
theorem d_BG_boxes_7 : decode b_BG_boxes 7 = .ok (.ireturn, 1) := by decide +kernel
theorem d_Mod_init_0 : decode b_Mod_init 0 = .ok (.aload_n 0, 1) := by decide +kernel
theorem d_Mod_init_1 : decode b_Mod_init 1 = .ok (.invokespecial 1, 3) := by decide +kernel
theorem d_Mod_init_4 : decode b_Mod_init 4 = .ok (.aload_n 0, 1) := by decide +kernel
theorem d_Mod_init_5 : decode b_Mod_init 5 = .ok (.sipush 340, 3) := by decide +kernel
theorem d_Mod_init_8 : decode b_Mod_init 8 = .ok (.newarray .int, 2) := by decide +kernel
theorem d_Mod_init_10 : decode b_Mod_init 10 = .ok (.putfield 7, 3) := by decide +kernel
theorem d_Mod_init_13 : decode b_Mod_init 13 = .ok (.aload_n 0, 1) := by decide +kernel
theorem d_Mod_init_14 : decode b_Mod_init 14 = .ok (.sipush 340, 3) := by decide +kernel
theorem d_Mod_init_17 : decode b_Mod_init 17 = .ok (.newarray .int, 2) := by decide +kernel
theorem d_Mod_init_19 : decode b_Mod_init 19 = .ok (.putfield 13, 3) := by decide +kernel
theorem d_Mod_init_22 : decode b_Mod_init 22 = .ok (.aload_n 0, 1) := by decide +kernel
theorem d_Mod_init_23 : decode b_Mod_init 23 = .ok (.sipush 340, 3) := by decide +kernel
theorem d_Mod_init_26 : decode b_Mod_init 26 = .ok (.newarray .int, 2) := by decide +kernel
theorem d_Mod_init_28 : decode b_Mod_init 28 = .ok (.putfield 16, 3) := by decide +kernel
theorem d_Mod_init_31 : decode b_Mod_init 31 = .ok (.aload_n 0, 1) := by decide +kernel
theorem d_Mod_init_32 : decode b_Mod_init 32 = .ok (.sipush 340, 3) := by decide +kernel
theorem d_Mod_init_35 : decode b_Mod_init 35 = .ok (.newarray .int, 2) := by decide +kernel
theorem d_Mod_init_37 : decode b_Mod_init 37 = .ok (.putfield 19, 3) := by decide +kernel
theorem d_Mod_init_40 : decode b_Mod_init 40 = .ok (.aload_n 0, 1) := by decide +kernel
theorem d_Mod_init_41 : decode b_Mod_init 41 = .ok (.sipush 340, 3) := by decide +kernel
theorem d_Mod_init_44 : decode b_Mod_init 44 = .ok (.newarray .int, 2) := by decide +kernel
theorem d_Mod_init_46 : decode b_Mod_init 46 = .ok (.putfield 22, 3) := by decide +kernel
theorem d_Mod_init_49 : decode b_Mod_init 49 = .ok (.aload_n 0, 1) := by decide +kernel
theorem d_Mod_init_50 : decode b_Mod_init 50 = .ok (.sipush 340, 3) := by decide +kernel
theorem d_Mod_init_53 : decode b_Mod_init 53 = .ok (.newarray .int, 2) := by decide +kernel
theorem d_Mod_init_55 : decode b_Mod_init 55 = .ok (.putfield 25, 3) := by decide +kernel
theorem d_Mod_init_58 : decode b_Mod_init 58 = .ok (.aload_n 0, 1) := by decide +kernel
theorem d_Mod_init_59 : decode b_Mod_init 59 = .ok (.sipush 340, 3) := by decide +kernel
theorem d_Mod_init_62 : decode b_Mod_init 62 = .ok (.newarray .int, 2) := by decide +kernel
theorem d_Mod_init_64 : decode b_Mod_init 64 = .ok (.putfield 28, 3) := by decide +kernel
theorem d_Mod_init_67 : decode b_Mod_init 67 = .ok (.aload_n 0, 1) := by decide +kernel
theorem d_Mod_init_68 : decode b_Mod_init 68 = .ok (.sipush 340, 3) := by decide +kernel
theorem d_Mod_init_71 : decode b_Mod_init 71 = .ok (.newarray .int, 2) := by decide +kernel
theorem d_Mod_init_73 : decode b_Mod_init 73 = .ok (.putfield 31, 3) := by decide +kernel
theorem d_Mod_init_76 : decode b_Mod_init 76 = .ok (.aload_n 0, 1) := by decide +kernel
theorem d_Mod_init_77 : decode b_Mod_init 77 = .ok (.sipush 340, 3) := by decide +kernel
theorem d_Mod_init_80 : decode b_Mod_init 80 = .ok (.newarray .int, 2) := by decide +kernel
theorem d_Mod_init_82 : decode b_Mod_init 82 = .ok (.putfield 34, 3) := by decide +kernel
theorem d_Mod_init_85 : decode b_Mod_init 85 = .ok (.aload_n 0, 1) := by decide +kernel
theorem d_Mod_init_86 : decode b_Mod_init 86 = .ok (.sipush 340, 3) := by decide +kernel
theorem d_Mod_init_89 : decode b_Mod_init 89 = .ok (.newarray .int, 2) := by decide +kernel
theorem d_Mod_init_91 : decode b_Mod_init 91 = .ok (.putfield 37, 3) := by decide +kernel
theorem d_Mod_init_94 : decode b_Mod_init 94 = .ok (.aload_n 0, 1) := by decide +kernel
theorem d_Mod_init_95 : decode b_Mod_init 95 = .ok (.sipush 340, 3) := by decide +kernel
theorem d_Mod_init_98 : decode b_Mod_init 98 = .ok (.newarray .long, 2) := by decide +kernel
theorem d_Mod_init_100 : decode b_Mod_init 100 = .ok (.putfield 40, 3) := by decide +kernel
theorem d_Mod_init_103 : decode b_Mod_init 103 = .ok (.aload_n 0, 1) := by decide +kernel
theorem d_Mod_init_104 : decode b_Mod_init 104 = .ok (.sipush 340, 3) := by decide +kernel
theorem d_Mod_init_107 : decode b_Mod_init 107 = .ok (.newarray .long, 2) := by decide +kernel
theorem d_Mod_init_109 : decode b_Mod_init 109 = .ok (.putfield 44, 3) := by decide +kernel
theorem d_Mod_init_112 : decode b_Mod_init 112 = .ok (.aload_n 0, 1) := by decide +kernel
theorem d_Mod_init_113 : decode b_Mod_init 113 = .ok (.bipush 60, 2) := by decide +kernel
theorem d_Mod_init_115 : decode b_Mod_init 115 = .ok (.newarray .int, 2) := by decide +kernel
theorem d_Mod_init_117 : decode b_Mod_init 117 = .ok (.putfield 47, 3) := by decide +kernel
theorem d_Mod_init_120 : decode b_Mod_init 120 = .ok (.aload_n 0, 1) := by decide +kernel
theorem d_Mod_init_121 : decode b_Mod_init 121 = .ok (.bipush 60, 2) := by decide +kernel
theorem d_Mod_init_123 : decode b_Mod_init 123 = .ok (.newarray .int, 2) := by decide +kernel
theorem d_Mod_init_125 : decode b_Mod_init 125 = .ok (.putfield 50, 3) := by decide +kernel
theorem d_Mod_init_128 : decode b_Mod_init 128 = .ok (.aload_n 0, 1) := by decide +kernel
theorem d_Mod_init_129 : decode b_Mod_init 129 = .ok (.bipush 60, 2) := by decide +kernel
theorem d_Mod_init_131 : decode b_Mod_init 131 = .ok (.newarray .int, 2) := by decide +kernel
theorem d_Mod_init_133 : decode b_Mod_init 133 = .ok (.putfield 53, 3) := by decide +kernel
theorem d_Mod_init_136 : decode b_Mod_init 136 = .ok (.aload_n 0, 1) := by decide +kernel
theorem d_Mod_init_137 : decode b_Mod_init 137 = .ok (.bipush 60, 2) := by decide +kernel
theorem d_Mod_init_139 : decode b_Mod_init 139 = .ok (.newarray .int, 2) := by decide +kernel
theorem d_Mod_init_141 : decode b_Mod_init 141 = .ok (.putfield 56, 3) := by decide +kernel
theorem d_Mod_init_144 : decode b_Mod_init 144 = .ok (.aload_n 0, 1) := by decide +kernel
theorem d_Mod_init_145 : decode b_Mod_init 145 = .ok (.bipush 60, 2) := by decide +kernel
theorem d_Mod_init_147 : decode b_Mod_init 147 = .ok (.newarray .int, 2) := by decide +kernel
theorem d_Mod_init_149 : decode b_Mod_init 149 = .ok (.putfield 59, 3) := by decide +kernel
theorem d_Mod_init_152 : decode b_Mod_init 152 = .ok (.aload_n 0, 1) := by decide +kernel
theorem d_Mod_init_153 : decode b_Mod_init 153 = .ok (.bipush 60, 2) := by decide +kernel
theorem d_Mod_init_155 : decode b_Mod_init 155 = .ok (.newarray .int, 2) := by decide +kernel
theorem d_Mod_init_157 : decode b_Mod_init 157 = .ok (.putfield 62, 3) := by decide +kernel
theorem d_Mod_init_160 : decode b_Mod_init 160 = .ok (.aload_n 0, 1) := by decide +kernel
theorem d_Mod_init_161 : decode b_Mod_init 161 = .ok (.bipush 60, 2) := by decide +kernel
theorem d_Mod_init_163 : decode b_Mod_init 163 = .ok (.newarray .int, 2) := by decide +kernel
theorem d_Mod_init_165 : decode b_Mod_init 165 = .ok (.putfield 65, 3) := by decide +kernel
theorem d_Mod_init_168 : decode b_Mod_init 168 = .ok (.aload_n 0, 1) := by decide +kernel
theorem d_Mod_init_169 : decode b_Mod_init 169 = .ok (.bipush 60, 2) := by decide +kernel
theorem d_Mod_init_171 : decode b_Mod_init 171 = .ok (.newarray .int, 2) := by decide +kernel
theorem d_Mod_init_173 : decode b_Mod_init 173 = .ok (.putfield 68, 3) := by decide +kernel
theorem d_Mod_init_176 : decode b_Mod_init 176 = .ok (.aload_n 0, 1) := by decide +kernel
theorem d_Mod_init_177 : decode b_Mod_init 177 = .ok (.bipush 60, 2) := by decide +kernel
theorem d_Mod_init_179 : decode b_Mod_init 179 = .ok (.newarray .int, 2) := by decide +kernel
theorem d_Mod_init_181 : decode b_Mod_init 181 = .ok (.putfield 71, 3) := by decide +kernel
theorem d_Mod_init_184 : decode b_Mod_init 184 = .ok (.return_, 1) := by decide +kernel
theorem d_Mod_box_0 : decode b_Mod_box 0 = .ok (.iload_n 1, 1) := by decide +kernel
theorem d_Mod_box_1 : decode b_Mod_box 1 = .ok (.iconst 0, 1) := by decide +kernel
theorem d_Mod_box_2 : decode b_Mod_box 2 = .ok (.ldc 78, 2) := by decide +kernel
theorem d_Mod_box_4 : decode b_Mod_box 4 = .ok (.invokestatic 79, 3) := by decide +kernel
theorem d_Mod_box_7 : decode b_Mod_box 7 = .ok (.ifCond .eq 23, 3) := by decide +kernel
theorem d_Mod_box_10 : decode b_Mod_box 10 = .ok (.iload_n 2, 1) := by decide +kernel
theorem d_Mod_box_11 : decode b_Mod_box 11 = .ok (.iconst 0, 1) := by decide +kernel
theorem d_Mod_box_12 : decode b_Mod_box 12 = .ok (.ldc 78, 2) := by decide +kernel
theorem d_Mod_box_14 : decode b_Mod_box 14 = .ok (.invokestatic 79, 3) := by decide +kernel
theorem d_Mod_box_17 : decode b_Mod_box 17 = .ok (.ifCond .eq 13, 3) := by decide +kernel
theorem d_Mod_box_20 : decode b_Mod_box 20 = .ok (.iload_n 3, 1) := by decide +kernel
theorem d_Mod_box_21 : decode b_Mod_box 21 = .ok (.iconst 0, 1) := by decide +kernel
theorem d_Mod_box_22 : decode b_Mod_box 22 = .ok (.ldc 78, 2) := by decide +kernel
theorem d_Mod_box_24 : decode b_Mod_box 24 = .ok (.invokestatic 79, 3) := by decide +kernel
theorem d_Mod_box_27 : decode b_Mod_box 27 = .ok (.ifCond .ne 5, 3) := by decide +kernel
theorem d_Mod_box_30 : decode b_Mod_box 30 = .ok (.iconst (-1), 1) := by decide +kernel
theorem d_Mod_box_31 : decode b_Mod_box 31 = .ok (.ireturn, 1) := by decide +kernel
theorem d_Mod_box_32 : decode b_Mod_box 32 = .ok (.aload_n 0, 1) := by decide +kernel
theorem d_Mod_box_33 : decode b_Mod_box 33 = .ok (.getfield 74, 3) := by decide +kernel
theorem d_Mod_box_36 : decode b_Mod_box 36 = .ok (.bipush 60, 2) := by decide +kernel
theorem d_Mod_box_38 : decode b_Mod_box 38 = .ok (.if_icmp .ne 6, 3) := by decide +kernel
theorem d_Mod_box_41 : decode b_Mod_box 41 = .ok (.bipush (-2), 2) := by decide +kernel
theorem d_Mod_box_43 : decode b_Mod_box 43 = .ok (.ireturn, 1) := by decide +kernel
theorem d_Mod_box_44 : decode b_Mod_box 44 = .ok (.aload_n 0, 1) := by decide +kernel
theorem d_Mod_box_45 : decode b_Mod_box 45 = .ok (.getfield 47, 3) := by decide +kernel
theorem d_Mod_box_48 : decode b_Mod_box 48 = .ok (.aload_n 0, 1) := by decide +kernel
theorem d_Mod_box_49 : decode b_Mod_box 49 = .ok (.getfield 74, 3) := by decide +kernel
theorem d_Mod_box_52 : decode b_Mod_box 52 = .ok (.iload_n 1, 1) := by decide +kernel
theorem d_Mod_box_53 : decode b_Mod_box 53 = .ok (.iastore, 1) := by decide +kernel
theorem d_Mod_box_54 : decode b_Mod_box 54 = .ok (.aload_n 0, 1) := by decide +kernel
theorem d_Mod_box_55 : decode b_Mod_box 55 = .ok (.getfield 50, 3) := by decide +kernel
theorem d_Mod_box_58 : decode b_Mod_box 58 = .ok (.aload_n 0, 1) := by decide +kernel
theorem d_Mod_box_59 : decode b_Mod_box 59 = .ok (.getfield 74, 3) := by decide +kernel
theorem d_Mod_box_62 : decode b_Mod_box 62 = .ok (.iload_n 2, 1) := by decide +kernel
theorem d_Mod_box_63 : decode b_Mod_box 63 = .ok (.iastore, 1) := by decide +kernel
theorem d_Mod_box_64 : decode b_Mod_box 64 = .ok (.aload_n 0, 1) := by decide +kernel
theorem d_Mod_box_65 : decode b_Mod_box 65 = .ok (.getfield 53, 3) := by decide +kernel
theorem d_Mod_box_68 : decode b_Mod_box 68 = .ok (.aload_n 0, 1) := by decide +kernel
theorem d_Mod_box_69 : decode b_Mod_box 69 = .ok (.getfield 74, 3) := by decide +kernel
theorem d_Mod_box_72 : decode b_Mod_box 72 = .ok (.iload_n 3, 1) := by decide +kernel
theorem d_Mod_box_73 : decode b_Mod_box 73 = .ok (.iastore, 1) := by decide +kernel
theorem d_Mod_box_74 : decode b_Mod_box 74 = .ok (.aload_n 0, 1) := by decide +kernel
theorem d_Mod_box_75 : decode b_Mod_box 75 = .ok (.getfield 56, 3) := by decide +kernel
theorem d_Mod_box_78 : decode b_Mod_box 78 = .ok (.aload_n 0, 1) := by decide +kernel
theorem d_Mod_box_79 : decode b_Mod_box 79 = .ok (.getfield 74, 3) := by decide +kernel
theorem d_Mod_box_82 : decode b_Mod_box 82 = .ok (.bipush 40, 2) := by decide +kernel
theorem d_Mod_box_84 : decode b_Mod_box 84 = .ok (.iastore, 1) := by decide +kernel
theorem d_Mod_box_85 : decode b_Mod_box 85 = .ok (.aload_n 0, 1) := by decide +kernel
theorem d_Mod_box_86 : decode b_Mod_box 86 = .ok (.getfield 59, 3) := by decide +kernel
theorem d_Mod_box_89 : decode b_Mod_box 89 = .ok (.aload_n 0, 1) := by decide +kernel
theorem d_Mod_box_90 : decode b_Mod_box 90 = .ok (.getfield 74, 3) := by decide +kernel
theorem d_Mod_box_93 : decode b_Mod_box 93 = .ok (.iconst 0, 1) := by decide +kernel
theorem d_Mod_box_94 : decode b_Mod_box 94 = .ok (.iastore, 1) := by decide +kernel
theorem d_Mod_box_95 : decode b_Mod_box 95 = .ok (.aload_n 0, 1) := by decide +kernel
theorem d_Mod_box_96 : decode b_Mod_box 96 = .ok (.getfield 68, 3) := by decide +kernel
theorem d_Mod_box_99 : decode b_Mod_box 99 = .ok (.aload_n 0, 1) := by decide +kernel
theorem d_Mod_box_100 : decode b_Mod_box 100 = .ok (.getfield 74, 3) := by decide +kernel
theorem d_Mod_box_103 : decode b_Mod_box 103 = .ok (.iconst (-1), 1) := by decide +kernel
theorem d_Mod_box_104 : decode b_Mod_box 104 = .ok (.iastore, 1) := by decide +kernel
theorem d_Mod_box_105 : decode b_Mod_box 105 = .ok (.aload_n 0, 1) := by decide +kernel
theorem d_Mod_box_106 : decode b_Mod_box 106 = .ok (.dup, 1) := by decide +kernel
theorem d_Mod_box_107 : decode b_Mod_box 107 = .ok (.getfield 74, 3) := by decide +kernel
theorem d_Mod_box_110 : decode b_Mod_box 110 = .ok (.iconst 1, 1) := by decide +kernel
theorem d_Mod_box_111 : decode b_Mod_box 111 = .ok (.iadd, 1) := by decide +kernel
theorem d_Mod_box_112 : decode b_Mod_box 112 = .ok (.putfield 74, 3) := by decide +kernel
theorem d_Mod_box_115 : decode b_Mod_box 115 = .ok (.aload_n 0, 1) := by decide +kernel
theorem d_Mod_box_116 : decode b_Mod_box 116 = .ok (.getfield 74, 3) := by decide +kernel
theorem d_Mod_box_119 : decode b_Mod_box 119 = .ok (.iconst 1, 1) := by decide +kernel
theorem d_Mod_box_120 : decode b_Mod_box 120 = .ok (.isub, 1) := by decide +kernel
theorem d_Mod_box_121 : decode b_Mod_box 121 = .ok (.ireturn, 1) := by decide +kernel
theorem d_Mod_isIn_0 : decode b_Mod_isIn 0 = .ok (.iload_n 0, 1) := by decide +kernel
theorem d_Mod_isIn_1 : decode b_Mod_isIn 1 = .ok (.iload_n 1, 1) := by decide +kernel
theorem d_Mod_isIn_2 : decode b_Mod_isIn 2 = .ok (.if_icmp .lt 12, 3) := by decide +kernel
theorem d_Mod_isIn_5 : decode b_Mod_isIn 5 = .ok (.iload_n 0, 1) := by decide +kernel
theorem d_Mod_isIn_6 : decode b_Mod_isIn 6 = .ok (.iload_n 2, 1) := by decide +kernel
theorem d_Mod_isIn_7 : decode b_Mod_isIn 7 = .ok (.if_icmp .gt 7, 3) := by decide +kernel
theorem d_Mod_isIn_10 : decode b_Mod_isIn 10 = .ok (.iconst 1, 1) := by decide +kernel
theorem d_Mod_isIn_11 : decode b_Mod_isIn 11 = .ok (.goto 4, 3) := by decide +kernel
theorem d_Mod_isIn_14 : decode b_Mod_isIn 14 = .ok (.iconst 0, 1) := by decide +kernel
theorem d_Mod_isIn_15 : decode b_Mod_isIn 15 = .ok (.ireturn, 1) := by decide +kernel
theorem d_Mod_put_0 : decode b_Mod_put 0 = .ok (.aload_n 0, 1) := by decide +kernel
theorem d_Mod_put_1 : decode b_Mod_put 1 = .ok (.iload_n 1, 1) := by decide +kernel
theorem d_Mod_put_2 : decode b_Mod_put 2 = .ok (.invokevirtual 86, 3) := by decide +kernel
theorem d_Mod_put_5 : decode b_Mod_put 5 = .ok (.ifCond .eq 14, 3) := by decide +kernel
theorem d_Mod_put_8 : decode b_Mod_put 8 = .ok (.iload_n 2, 1) := by decide +kernel
theorem d_Mod_put_9 : decode b_Mod_put 9 = .ok (.ldc 90, 2) := by decide +kernel
theorem d_Mod_put_11 : decode b_Mod_put 11 = .ok (.ldc 78, 2) := by decide +kernel
theorem d_Mod_put_13 : decode b_Mod_put 13 = .ok (.invokestatic 79, 3) := by decide +kernel
theorem d_Mod_put_16 : decode b_Mod_put 16 = .ok (.ifCond .ne 5, 3) := by decide +kernel
theorem d_Mod_put_19 : decode b_Mod_put 19 = .ok (.iconst (-1), 1) := by decide +kernel
theorem d_Mod_put_20 : decode b_Mod_put 20 = .ok (.ireturn, 1) := by decide +kernel
theorem d_Mod_put_21 : decode b_Mod_put 21 = .ok (.aload_n 0, 1) := by decide +kernel
theorem d_Mod_put_22 : decode b_Mod_put 22 = .ok (.getfield 83, 3) := by decide +kernel
theorem d_Mod_put_25 : decode b_Mod_put 25 = .ok (.bipush 40, 2) := by decide +kernel
theorem d_Mod_put_27 : decode b_Mod_put 27 = .ok (.if_icmp .ne 6, 3) := by decide +kernel
theorem d_Mod_put_30 : decode b_Mod_put 30 = .ok (.bipush (-2), 2) := by decide +kernel
theorem d_Mod_put_32 : decode b_Mod_put 32 = .ok (.ireturn, 1) := by decide +kernel
theorem d_Mod_put_33 : decode b_Mod_put 33 = .ok (.aload_n 0, 1) := by decide +kernel
theorem d_Mod_put_34 : decode b_Mod_put 34 = .ok (.getfield 16, 3) := by decide +kernel
theorem d_Mod_put_37 : decode b_Mod_put 37 = .ok (.aload_n 0, 1) := by decide +kernel
theorem d_Mod_put_38 : decode b_Mod_put 38 = .ok (.getfield 83, 3) := by decide +kernel
theorem d_Mod_put_41 : decode b_Mod_put 41 = .ok (.iconst 0, 1) := by decide +kernel
theorem d_Mod_put_42 : decode b_Mod_put 42 = .ok (.iastore, 1) := by decide +kernel
theorem d_Mod_put_43 : decode b_Mod_put 43 = .ok (.aload_n 0, 1) := by decide +kernel
theorem d_Mod_put_44 : decode b_Mod_put 44 = .ok (.iconst 1, 1) := by decide +kernel
theorem d_Mod_put_45 : decode b_Mod_put 45 = .ok (.iload_n 1, 1) := by decide +kernel
theorem d_Mod_put_46 : decode b_Mod_put 46 = .ok (.invokevirtual 91, 3) := by decide +kernel
theorem d_Mod_put_49 : decode b_Mod_put 49 = .ok (.pop, 1) := by decide +kernel
theorem d_Mod_put_50 : decode b_Mod_put 50 = .ok (.aload_n 0, 1) := by decide +kernel
theorem d_Mod_put_51 : decode b_Mod_put 51 = .ok (.getfield 16, 3) := by decide +kernel
theorem d_Mod_put_54 : decode b_Mod_put 54 = .ok (.aload_n 0, 1) := by decide +kernel
theorem d_Mod_put_55 : decode b_Mod_put 55 = .ok (.getfield 83, 3) := by decide +kernel
theorem d_Mod_put_58 : decode b_Mod_put 58 = .ok (.iconst 1, 1) := by decide +kernel
theorem d_Mod_put_59 : decode b_Mod_put 59 = .ok (.isub, 1) := by decide +kernel
theorem d_Mod_put_60 : decode b_Mod_put 60 = .ok (.iload_n 2, 1) := by decide +kernel
theorem d_Mod_put_61 : decode b_Mod_put 61 = .ok (.iastore, 1) := by decide +kernel
theorem d_Mod_put_62 : decode b_Mod_put 62 = .ok (.aload_n 0, 1) := by decide +kernel
theorem d_Mod_put_63 : decode b_Mod_put 63 = .ok (.getfield 83, 3) := by decide +kernel
theorem d_Mod_put_66 : decode b_Mod_put 66 = .ok (.ireturn, 1) := by decide +kernel
theorem d_Mod_isBox_0 : decode b_Mod_isBox 0 = .ok (.iload_n 1, 1) := by decide +kernel
theorem d_Mod_isBox_1 : decode b_Mod_isBox 1 = .ok (.ifCond .lt 15, 3) := by decide +kernel
theorem d_Mod_isBox_4 : decode b_Mod_isBox 4 = .ok (.iload_n 1, 1) := by decide +kernel
theorem d_Mod_isBox_5 : decode b_Mod_isBox 5 = .ok (.aload_n 0, 1) := by decide +kernel
theorem d_Mod_isBox_6 : decode b_Mod_isBox 6 = .ok (.getfield 74, 3) := by decide +kernel
theorem d_Mod_isBox_9 : decode b_Mod_isBox 9 = .ok (.if_icmp .ge 7, 3) := by decide +kernel
theorem d_Mod_isBox_12 : decode b_Mod_isBox 12 = .ok (.iconst 1, 1) := by decide +kernel
theorem d_Mod_isBox_13 : decode b_Mod_isBox 13 = .ok (.goto 4, 3) := by decide +kernel
theorem d_Mod_isBox_16 : decode b_Mod_isBox 16 = .ok (.iconst 0, 1) := by decide +kernel
theorem d_Mod_isBox_17 : decode b_Mod_isBox 17 = .ok (.ireturn, 1) := by decide +kernel
theorem d_Mod_more_0 : decode b_Mod_more 0 = .ok (.aload_n 0, 1) := by decide +kernel
theorem d_Mod_more_1 : decode b_Mod_more 1 = .ok (.getfield 7, 3) := by decide +kernel
theorem d_Mod_more_4 : decode b_Mod_more 4 = .ok (.aload_n 0, 1) := by decide +kernel
theorem d_Mod_more_5 : decode b_Mod_more 5 = .ok (.getfield 83, 3) := by decide +kernel
theorem d_Mod_more_8 : decode b_Mod_more 8 = .ok (.iload_n 1, 1) := by decide +kernel
theorem d_Mod_more_9 : decode b_Mod_more 9 = .ok (.iastore, 1) := by decide +kernel
theorem d_Mod_more_10 : decode b_Mod_more 10 = .ok (.aload_n 0, 1) := by decide +kernel
theorem d_Mod_more_11 : decode b_Mod_more 11 = .ok (.getfield 13, 3) := by decide +kernel
theorem d_Mod_more_14 : decode b_Mod_more 14 = .ok (.aload_n 0, 1) := by decide +kernel
theorem d_Mod_more_15 : decode b_Mod_more 15 = .ok (.getfield 83, 3) := by decide +kernel
theorem d_Mod_more_18 : decode b_Mod_more 18 = .ok (.iload_n 2, 1) := by decide +kernel
theorem d_Mod_more_19 : decode b_Mod_more 19 = .ok (.iastore, 1) := by decide +kernel
theorem d_Mod_more_20 : decode b_Mod_more 20 = .ok (.aload_n 0, 1) := by decide +kernel
theorem d_Mod_more_21 : decode b_Mod_more 21 = .ok (.getfield 16, 3) := by decide +kernel
theorem d_Mod_more_24 : decode b_Mod_more 24 = .ok (.aload_n 0, 1) := by decide +kernel
theorem d_Mod_more_25 : decode b_Mod_more 25 = .ok (.getfield 83, 3) := by decide +kernel
theorem d_Mod_more_28 : decode b_Mod_more 28 = .ok (.iconst 0, 1) := by decide +kernel
theorem d_Mod_more_29 : decode b_Mod_more 29 = .ok (.iastore, 1) := by decide +kernel
theorem d_Mod_more_30 : decode b_Mod_more 30 = .ok (.aload_n 0, 1) := by decide +kernel
theorem d_Mod_more_31 : decode b_Mod_more 31 = .ok (.getfield 19, 3) := by decide +kernel
theorem d_Mod_more_34 : decode b_Mod_more 34 = .ok (.aload_n 0, 1) := by decide +kernel
theorem d_Mod_more_35 : decode b_Mod_more 35 = .ok (.getfield 83, 3) := by decide +kernel
theorem d_Mod_more_38 : decode b_Mod_more 38 = .ok (.iconst 0, 1) := by decide +kernel
theorem d_Mod_more_39 : decode b_Mod_more 39 = .ok (.iastore, 1) := by decide +kernel
theorem d_Mod_more_40 : decode b_Mod_more 40 = .ok (.aload_n 0, 1) := by decide +kernel
theorem d_Mod_more_41 : decode b_Mod_more 41 = .ok (.getfield 22, 3) := by decide +kernel
theorem d_Mod_more_44 : decode b_Mod_more 44 = .ok (.aload_n 0, 1) := by decide +kernel
theorem d_Mod_more_45 : decode b_Mod_more 45 = .ok (.getfield 83, 3) := by decide +kernel
theorem d_Mod_more_48 : decode b_Mod_more 48 = .ok (.iconst 0, 1) := by decide +kernel
theorem d_Mod_more_49 : decode b_Mod_more 49 = .ok (.iastore, 1) := by decide +kernel
theorem d_Mod_more_50 : decode b_Mod_more 50 = .ok (.aload_n 0, 1) := by decide +kernel
theorem d_Mod_more_51 : decode b_Mod_more 51 = .ok (.getfield 25, 3) := by decide +kernel
theorem d_Mod_more_54 : decode b_Mod_more 54 = .ok (.aload_n 0, 1) := by decide +kernel
theorem d_Mod_more_55 : decode b_Mod_more 55 = .ok (.getfield 83, 3) := by decide +kernel
theorem d_Mod_more_58 : decode b_Mod_more 58 = .ok (.iconst 0, 1) := by decide +kernel
theorem d_Mod_more_59 : decode b_Mod_more 59 = .ok (.iastore, 1) := by decide +kernel
theorem d_Mod_more_60 : decode b_Mod_more 60 = .ok (.aload_n 0, 1) := by decide +kernel
theorem d_Mod_more_61 : decode b_Mod_more 61 = .ok (.getfield 28, 3) := by decide +kernel
theorem d_Mod_more_64 : decode b_Mod_more 64 = .ok (.aload_n 0, 1) := by decide +kernel
theorem d_Mod_more_65 : decode b_Mod_more 65 = .ok (.getfield 83, 3) := by decide +kernel
theorem d_Mod_more_68 : decode b_Mod_more 68 = .ok (.iconst 0, 1) := by decide +kernel
theorem d_Mod_more_69 : decode b_Mod_more 69 = .ok (.iastore, 1) := by decide +kernel
theorem d_Mod_more_70 : decode b_Mod_more 70 = .ok (.aload_n 0, 1) := by decide +kernel
theorem d_Mod_more_71 : decode b_Mod_more 71 = .ok (.getfield 31, 3) := by decide +kernel
theorem d_Mod_more_74 : decode b_Mod_more 74 = .ok (.aload_n 0, 1) := by decide +kernel
theorem d_Mod_more_75 : decode b_Mod_more 75 = .ok (.getfield 83, 3) := by decide +kernel
theorem d_Mod_more_78 : decode b_Mod_more 78 = .ok (.iconst 0, 1) := by decide +kernel
theorem d_Mod_more_79 : decode b_Mod_more 79 = .ok (.iastore, 1) := by decide +kernel
theorem d_Mod_more_80 : decode b_Mod_more 80 = .ok (.aload_n 0, 1) := by decide +kernel
theorem d_Mod_more_81 : decode b_Mod_more 81 = .ok (.getfield 34, 3) := by decide +kernel
theorem d_Mod_more_84 : decode b_Mod_more 84 = .ok (.aload_n 0, 1) := by decide +kernel
theorem d_Mod_more_85 : decode b_Mod_more 85 = .ok (.getfield 83, 3) := by decide +kernel
theorem d_Mod_more_88 : decode b_Mod_more 88 = .ok (.iconst 0, 1) := by decide +kernel
theorem d_Mod_more_89 : decode b_Mod_more 89 = .ok (.iastore, 1) := by decide +kernel
theorem d_Mod_more_90 : decode b_Mod_more 90 = .ok (.aload_n 0, 1) := by decide +kernel
theorem d_Mod_more_91 : decode b_Mod_more 91 = .ok (.getfield 37, 3) := by decide +kernel
theorem d_Mod_more_94 : decode b_Mod_more 94 = .ok (.aload_n 0, 1) := by decide +kernel
theorem d_Mod_more_95 : decode b_Mod_more 95 = .ok (.getfield 83, 3) := by decide +kernel
theorem d_Mod_more_98 : decode b_Mod_more 98 = .ok (.iconst 0, 1) := by decide +kernel
