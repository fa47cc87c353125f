/-! decode rows -/
theorem d_M_query_0 : decode b_M_query 0 = .ok (.iload_n 1, 1) := by decide +kernel
theorem d_M_query_1 : decode b_M_query 1 = .ok (.ifCond .lt (78), 3) := by decide +kernel
theorem d_M_query_4 : decode b_M_query 4 = .ok (.iload_n 1, 1) := by decide +kernel
theorem d_M_query_5 : decode b_M_query 5 = .ok (.bipush (7), 2) := by decide +kernel
theorem d_M_query_7 : decode b_M_query 7 = .ok (.if_icmp .gt (72), 3) := by decide +kernel
theorem d_M_query_10 : decode b_M_query 10 = .ok (.iload 4, 2) := by decide +kernel
theorem d_M_query_12 : decode b_M_query 12 = .ok (.iconst 1, 1) := by decide +kernel
theorem d_M_query_13 : decode b_M_query 13 = .ok (.if_icmp .lt (66), 3) := by decide +kernel
theorem d_M_query_16 : decode b_M_query 16 = .ok (.iload 4, 2) := by decide +kernel
theorem d_M_query_18 : decode b_M_query 18 = .ok (.bipush (50), 2) := by decide +kernel
theorem d_M_query_20 : decode b_M_query 20 = .ok (.if_icmp .gt (59), 3) := by decide +kernel
theorem d_M_query_23 : decode b_M_query 23 = .ok (.iload_n 2, 1) := by decide +kernel
theorem d_M_query_24 : decode b_M_query 24 = .ok (.sipush (-1000), 3) := by decide +kernel
theorem d_M_query_27 : decode b_M_query 27 = .ok (.iload 4, 2) := by decide +kernel
theorem d_M_query_29 : decode b_M_query 29 = .ok (.imul, 1) := by decide +kernel
theorem d_M_query_30 : decode b_M_query 30 = .ok (.if_icmp .lt (49), 3) := by decide +kernel
theorem d_M_query_33 : decode b_M_query 33 = .ok (.iload_n 2, 1) := by decide +kernel
theorem d_M_query_34 : decode b_M_query 34 = .ok (.sipush (1000), 3) := by decide +kernel
theorem d_M_query_37 : decode b_M_query 37 = .ok (.iload 4, 2) := by decide +kernel
theorem d_M_query_39 : decode b_M_query 39 = .ok (.imul, 1) := by decide +kernel
theorem d_M_query_40 : decode b_M_query 40 = .ok (.if_icmp .gt (39), 3) := by decide +kernel
theorem d_M_query_43 : decode b_M_query 43 = .ok (.iload_n 3, 1) := by decide +kernel
theorem d_M_query_44 : decode b_M_query 44 = .ok (.sipush (-1000), 3) := by decide +kernel
theorem d_M_query_47 : decode b_M_query 47 = .ok (.iload 4, 2) := by decide +kernel
theorem d_M_query_49 : decode b_M_query 49 = .ok (.imul, 1) := by decide +kernel
theorem d_M_query_50 : decode b_M_query 50 = .ok (.if_icmp .lt (29), 3) := by decide +kernel
theorem d_M_query_53 : decode b_M_query 53 = .ok (.iload_n 3, 1) := by decide +kernel
theorem d_M_query_54 : decode b_M_query 54 = .ok (.sipush (1000), 3) := by decide +kernel
theorem d_M_query_57 : decode b_M_query 57 = .ok (.iload 4, 2) := by decide +kernel
theorem d_M_query_59 : decode b_M_query 59 = .ok (.imul, 1) := by decide +kernel
theorem d_M_query_60 : decode b_M_query 60 = .ok (.if_icmp .gt (19), 3) := by decide +kernel
theorem d_M_query_63 : decode b_M_query 63 = .ok (.iload_n 2, 1) := by decide +kernel
theorem d_M_query_64 : decode b_M_query 64 = .ok (.iload_n 3, 1) := by decide +kernel
theorem d_M_query_65 : decode b_M_query 65 = .ok (.if_icmp .ge (14), 3) := by decide +kernel
theorem d_M_query_68 : decode b_M_query 68 = .ok (.iload_n 3, 1) := by decide +kernel
theorem d_M_query_69 : decode b_M_query 69 = .ok (.iload_n 2, 1) := by decide +kernel
theorem d_M_query_70 : decode b_M_query 70 = .ok (.bipush (16), 2) := by decide +kernel
theorem d_M_query_72 : decode b_M_query 72 = .ok (.iload 4, 2) := by decide +kernel
theorem d_M_query_74 : decode b_M_query 74 = .ok (.imul, 1) := by decide +kernel
theorem d_M_query_75 : decode b_M_query 75 = .ok (.iadd, 1) := by decide +kernel
theorem d_M_query_76 : decode b_M_query 76 = .ok (.if_icmp .le (5), 3) := by decide +kernel
theorem d_M_query_79 : decode b_M_query 79 = .ok (.iconst (-1), 1) := by decide +kernel
theorem d_M_query_80 : decode b_M_query 80 = .ok (.ireturn, 1) := by decide +kernel
theorem d_M_query_81 : decode b_M_query 81 = .ok (.aload_n 0, 1) := by decide +kernel
theorem d_M_query_82 : decode b_M_query 82 = .ok (.aload_n 0, 1) := by decide +kernel
theorem d_M_query_83 : decode b_M_query 83 = .ok (.getfield 40, 3) := by decide +kernel
theorem d_M_query_86 : decode b_M_query 86 = .ok (.iload_n 1, 1) := by decide +kernel
theorem d_M_query_87 : decode b_M_query 87 = .ok (.iaload, 1) := by decide +kernel
theorem d_M_query_88 : decode b_M_query 88 = .ok (.iload 4, 2) := by decide +kernel
theorem d_M_query_90 : decode b_M_query 90 = .ok (.imul, 1) := by decide +kernel
theorem d_M_query_91 : decode b_M_query 91 = .ok (.putfield 96, 3) := by decide +kernel
theorem d_M_query_94 : decode b_M_query 94 = .ok (.aload_n 0, 1) := by decide +kernel
theorem d_M_query_95 : decode b_M_query 95 = .ok (.iload_n 1, 1) := by decide +kernel
theorem d_M_query_96 : decode b_M_query 96 = .ok (.iload_n 2, 1) := by decide +kernel
theorem d_M_query_97 : decode b_M_query 97 = .ok (.i2l, 1) := by decide +kernel
theorem d_M_query_98 : decode b_M_query 98 = .ok (.aload_n 0, 1) := by decide +kernel
theorem d_M_query_99 : decode b_M_query 99 = .ok (.getfield 40, 3) := by decide +kernel
theorem d_M_query_102 : decode b_M_query 102 = .ok (.iload_n 1, 1) := by decide +kernel
theorem d_M_query_103 : decode b_M_query 103 = .ok (.iaload, 1) := by decide +kernel
theorem d_M_query_104 : decode b_M_query 104 = .ok (.i2l, 1) := by decide +kernel
theorem d_M_query_105 : decode b_M_query 105 = .ok (.lmul, 1) := by decide +kernel
theorem d_M_query_106 : decode b_M_query 106 = .ok (.iload_n 3, 1) := by decide +kernel
theorem d_M_query_107 : decode b_M_query 107 = .ok (.i2l, 1) := by decide +kernel
theorem d_M_query_108 : decode b_M_query 108 = .ok (.aload_n 0, 1) := by decide +kernel
theorem d_M_query_109 : decode b_M_query 109 = .ok (.getfield 40, 3) := by decide +kernel
theorem d_M_query_112 : decode b_M_query 112 = .ok (.iload_n 1, 1) := by decide +kernel
theorem d_M_query_113 : decode b_M_query 113 = .ok (.iaload, 1) := by decide +kernel
theorem d_M_query_114 : decode b_M_query 114 = .ok (.i2l, 1) := by decide +kernel
theorem d_M_query_115 : decode b_M_query 115 = .ok (.lmul, 1) := by decide +kernel
theorem d_M_query_116 : decode b_M_query 116 = .ok (.aload_n 0, 1) := by decide +kernel
theorem d_M_query_117 : decode b_M_query 117 = .ok (.getfield 96, 3) := by decide +kernel
theorem d_M_query_120 : decode b_M_query 120 = .ok (.i2l, 1) := by decide +kernel
theorem d_M_query_121 : decode b_M_query 121 = .ok (.iconst 0, 1) := by decide +kernel
theorem d_M_query_122 : decode b_M_query 122 = .ok (.invokevirtual 235, 3) := by decide +kernel
theorem d_M_query_125 : decode b_M_query 125 = .ok (.aload_n 0, 1) := by decide +kernel
theorem d_M_query_126 : decode b_M_query 126 = .ok (.getfield 77, 3) := by decide +kernel
theorem d_M_query_129 : decode b_M_query 129 = .ok (.iconst 0, 1) := by decide +kernel
theorem d_M_query_130 : decode b_M_query 130 = .ok (.baload, 1) := by decide +kernel
theorem d_M_query_131 : decode b_M_query 131 = .ok (.ifCond .eq (10), 3) := by decide +kernel
theorem d_M_query_134 : decode b_M_query 134 = .ok (.aload_n 0, 1) := by decide +kernel
theorem d_M_query_135 : decode b_M_query 135 = .ok (.getfield 74, 3) := by decide +kernel
theorem d_M_query_138 : decode b_M_query 138 = .ok (.iconst 0, 1) := by decide +kernel
theorem d_M_query_139 : decode b_M_query 139 = .ok (.iconst 0, 1) := by decide +kernel
theorem d_M_query_140 : decode b_M_query 140 = .ok (.iastore, 1) := by decide +kernel
theorem d_M_query_141 : decode b_M_query 141 = .ok (.aload_n 0, 1) := by decide +kernel
theorem d_M_query_142 : decode b_M_query 142 = .ok (.getfield 77, 3) := by decide +kernel
theorem d_M_query_145 : decode b_M_query 145 = .ok (.iconst 0, 1) := by decide +kernel
theorem d_M_query_146 : decode b_M_query 146 = .ok (.baload, 1) := by decide +kernel
theorem d_M_query_147 : decode b_M_query 147 = .ok (.ifCond .eq (8), 3) := by decide +kernel
theorem d_M_query_150 : decode b_M_query 150 = .ok (.bipush (-2), 2) := by decide +kernel
theorem d_M_query_152 : decode b_M_query 152 = .ok (.goto (9), 3) := by decide +kernel
theorem d_M_query_155 : decode b_M_query 155 = .ok (.aload_n 0, 1) := by decide +kernel
theorem d_M_query_156 : decode b_M_query 156 = .ok (.getfield 74, 3) := by decide +kernel
theorem d_M_query_159 : decode b_M_query 159 = .ok (.iconst 0, 1) := by decide +kernel
theorem d_M_query_160 : decode b_M_query 160 = .ok (.iaload, 1) := by decide +kernel
theorem d_M_query_161 : decode b_M_query 161 = .ok (.ireturn, 1) := by decide +kernel
theorem d_M_unit_0 : decode b_M_unit 0 = .ok (.aload_n 0, 1) := by decide +kernel
theorem d_M_unit_1 : decode b_M_unit 1 = .ok (.getfield 96, 3) := by decide +kernel
theorem d_M_unit_4 : decode b_M_unit 4 = .ok (.ireturn, 1) := by decide +kernel
theorem d_M_part_0 : decode b_M_part 0 = .ok (.iload_n 1, 1) := by decide +kernel
theorem d_M_part_1 : decode b_M_part 1 = .ok (.ifCond .lt (13), 3) := by decide +kernel
theorem d_M_part_4 : decode b_M_part 4 = .ok (.iload_n 1, 1) := by decide +kernel
theorem d_M_part_5 : decode b_M_part 5 = .ok (.aload_n 0, 1) := by decide +kernel
theorem d_M_part_6 : decode b_M_part 6 = .ok (.getfield 74, 3) := by decide +kernel
theorem d_M_part_9 : decode b_M_part 9 = .ok (.iconst 0, 1) := by decide +kernel
theorem d_M_part_10 : decode b_M_part 10 = .ok (.iaload, 1) := by decide +kernel
theorem d_M_part_11 : decode b_M_part 11 = .ok (.if_icmp .lt (5), 3) := by decide +kernel
theorem d_M_part_14 : decode b_M_part 14 = .ok (.iconst (-1), 1) := by decide +kernel
theorem d_M_part_15 : decode b_M_part 15 = .ok (.ireturn, 1) := by decide +kernel
theorem d_M_part_16 : decode b_M_part 16 = .ok (.iload_n 2, 1) := by decide +kernel
theorem d_M_part_17 : decode b_M_part 17 = .ok (.tableswitch (74) (0) (4) #[(35), (43), (51), (59), (67)], 35) := by decide +kernel
theorem d_M_part_52 : decode b_M_part 52 = .ok (.aload_n 0, 1) := by decide +kernel
theorem d_M_part_53 : decode b_M_part 53 = .ok (.getfield 81, 3) := by decide +kernel
theorem d_M_part_56 : decode b_M_part 56 = .ok (.iload_n 1, 1) := by decide +kernel
theorem d_M_part_57 : decode b_M_part 57 = .ok (.laload, 1) := by decide +kernel
theorem d_M_part_58 : decode b_M_part 58 = .ok (.l2i, 1) := by decide +kernel
theorem d_M_part_59 : decode b_M_part 59 = .ok (.ireturn, 1) := by decide +kernel
theorem d_M_part_60 : decode b_M_part 60 = .ok (.aload_n 0, 1) := by decide +kernel
theorem d_M_part_61 : decode b_M_part 61 = .ok (.getfield 84, 3) := by decide +kernel
theorem d_M_part_64 : decode b_M_part 64 = .ok (.iload_n 1, 1) := by decide +kernel
theorem d_M_part_65 : decode b_M_part 65 = .ok (.laload, 1) := by decide +kernel
theorem d_M_part_66 : decode b_M_part 66 = .ok (.l2i, 1) := by decide +kernel
theorem d_M_part_67 : decode b_M_part 67 = .ok (.ireturn, 1) := by decide +kernel
theorem d_M_part_68 : decode b_M_part 68 = .ok (.aload_n 0, 1) := by decide +kernel
theorem d_M_part_69 : decode b_M_part 69 = .ok (.getfield 87, 3) := by decide +kernel
theorem d_M_part_72 : decode b_M_part 72 = .ok (.iload_n 1, 1) := by decide +kernel
theorem d_M_part_73 : decode b_M_part 73 = .ok (.laload, 1) := by decide +kernel
theorem d_M_part_74 : decode b_M_part 74 = .ok (.l2i, 1) := by decide +kernel
theorem d_M_part_75 : decode b_M_part 75 = .ok (.ireturn, 1) := by decide +kernel
theorem d_M_part_76 : decode b_M_part 76 = .ok (.aload_n 0, 1) := by decide +kernel
theorem d_M_part_77 : decode b_M_part 77 = .ok (.getfield 90, 3) := by decide +kernel
theorem d_M_part_80 : decode b_M_part 80 = .ok (.iload_n 1, 1) := by decide +kernel
theorem d_M_part_81 : decode b_M_part 81 = .ok (.laload, 1) := by decide +kernel
theorem d_M_part_82 : decode b_M_part 82 = .ok (.l2i, 1) := by decide +kernel
theorem d_M_part_83 : decode b_M_part 83 = .ok (.ireturn, 1) := by decide +kernel
theorem d_M_part_84 : decode b_M_part 84 = .ok (.aload_n 0, 1) := by decide +kernel
theorem d_M_part_85 : decode b_M_part 85 = .ok (.getfield 93, 3) := by decide +kernel
theorem d_M_part_88 : decode b_M_part 88 = .ok (.iload_n 1, 1) := by decide +kernel
theorem d_M_part_89 : decode b_M_part 89 = .ok (.iaload, 1) := by decide +kernel
theorem d_M_part_90 : decode b_M_part 90 = .ok (.ireturn, 1) := by decide +kernel
theorem d_M_part_91 : decode b_M_part 91 = .ok (.iconst (-1), 1) := by decide +kernel
theorem d_M_part_92 : decode b_M_part 92 = .ok (.ireturn, 1) := by decide +kernel
theorem d_M_onsets_0 : decode b_M_onsets 0 = .ok (.iconst 0, 1) := by decide +kernel
theorem d_M_onsets_1 : decode b_M_onsets 1 = .ok (.istore_n 1, 1) := by decide +kernel
theorem d_M_onsets_2 : decode b_M_onsets 2 = .ok (.iconst 0, 1) := by decide +kernel
theorem d_M_onsets_3 : decode b_M_onsets 3 = .ok (.istore_n 2, 1) := by decide +kernel
theorem d_M_onsets_4 : decode b_M_onsets 4 = .ok (.iload_n 2, 1) := by decide +kernel
theorem d_M_onsets_5 : decode b_M_onsets 5 = .ok (.aload_n 0, 1) := by decide +kernel
theorem d_M_onsets_6 : decode b_M_onsets 6 = .ok (.getfield 74, 3) := by decide +kernel
theorem d_M_onsets_9 : decode b_M_onsets 9 = .ok (.iconst 0, 1) := by decide +kernel
theorem d_M_onsets_10 : decode b_M_onsets 10 = .ok (.iaload, 1) := by decide +kernel
theorem d_M_onsets_11 : decode b_M_onsets 11 = .ok (.if_icmp .ge (33), 3) := by decide +kernel
theorem d_M_onsets_14 : decode b_M_onsets 14 = .ok (.iload_n 1, 1) := by decide +kernel
theorem d_M_onsets_15 : decode b_M_onsets 15 = .ok (.aload_n 0, 1) := by decide +kernel
theorem d_M_onsets_16 : decode b_M_onsets 16 = .ok (.getfield 81, 3) := by decide +kernel
theorem d_M_onsets_19 : decode b_M_onsets 19 = .ok (.iload_n 2, 1) := by decide +kernel
theorem d_M_onsets_20 : decode b_M_onsets 20 = .ok (.laload, 1) := by decide +kernel
theorem d_M_onsets_21 : decode b_M_onsets 21 = .ok (.aload_n 0, 1) := by decide +kernel
theorem d_M_onsets_22 : decode b_M_onsets 22 = .ok (.getfield 87, 3) := by decide +kernel
theorem d_M_onsets_25 : decode b_M_onsets 25 = .ok (.iload_n 2, 1) := by decide +kernel
theorem d_M_onsets_26 : decode b_M_onsets 26 = .ok (.laload, 1) := by decide +kernel
theorem d_M_onsets_27 : decode b_M_onsets 27 = .ok (.lcmp, 1) := by decide +kernel
theorem d_M_onsets_28 : decode b_M_onsets 28 = .ok (.ifCond .ne (7), 3) := by decide +kernel
theorem d_M_onsets_31 : decode b_M_onsets 31 = .ok (.iconst 1, 1) := by decide +kernel
theorem d_M_onsets_32 : decode b_M_onsets 32 = .ok (.goto (4), 3) := by decide +kernel
theorem d_M_onsets_35 : decode b_M_onsets 35 = .ok (.iconst 0, 1) := by decide +kernel
theorem d_M_onsets_36 : decode b_M_onsets 36 = .ok (.iadd, 1) := by decide +kernel
theorem d_M_onsets_37 : decode b_M_onsets 37 = .ok (.istore_n 1, 1) := by decide +kernel
theorem d_M_onsets_38 : decode b_M_onsets 38 = .ok (.iinc 2 (1), 3) := by decide +kernel
theorem d_M_onsets_41 : decode b_M_onsets 41 = .ok (.goto (-37), 3) := by decide +kernel
theorem d_M_onsets_44 : decode b_M_onsets 44 = .ok (.iload_n 1, 1) := by decide +kernel
theorem d_M_onsets_45 : decode b_M_onsets 45 = .ok (.ireturn, 1) := by decide +kernel
theorem d_M_areOther_0 : decode b_M_areOther 0 = .ok (.aload_n 0, 1) := by decide +kernel
theorem d_M_areOther_1 : decode b_M_areOther 1 = .ok (.getfield 74, 3) := by decide +kernel
theorem d_M_areOther_4 : decode b_M_areOther 4 = .ok (.iconst 1, 1) := by decide +kernel
theorem d_M_areOther_5 : decode b_M_areOther 5 = .ok (.iaload, 1) := by decide +kernel
theorem d_M_areOther_6 : decode b_M_areOther 6 = .ok (.aload_n 0, 1) := by decide +kernel
theorem d_M_areOther_7 : decode b_M_areOther 7 = .ok (.getfield 74, 3) := by decide +kernel
theorem d_M_areOther_10 : decode b_M_areOther 10 = .ok (.iconst 2, 1) := by decide +kernel
theorem d_M_areOther_11 : decode b_M_areOther 11 = .ok (.iaload, 1) := by decide +kernel
theorem d_M_areOther_12 : decode b_M_areOther 12 = .ok (.if_icmp .eq (5), 3) := by decide +kernel
theorem d_M_areOther_15 : decode b_M_areOther 15 = .ok (.iconst 1, 1) := by decide +kernel
theorem d_M_areOther_16 : decode b_M_areOther 16 = .ok (.ireturn, 1) := by decide +kernel
theorem d_M_areOther_17 : decode b_M_areOther 17 = .ok (.iconst 1, 1) := by decide +kernel
theorem d_M_areOther_18 : decode b_M_areOther 18 = .ok (.istore 5, 2) := by decide +kernel
theorem d_M_areOther_20 : decode b_M_areOther 20 = .ok (.iconst 0, 1) := by decide +kernel
theorem d_M_areOther_21 : decode b_M_areOther 21 = .ok (.istore 6, 2) := by decide +kernel
theorem d_M_areOther_23 : decode b_M_areOther 23 = .ok (.iload 6, 2) := by decide +kernel
theorem d_M_areOther_25 : decode b_M_areOther 25 = .ok (.aload_n 0, 1) := by decide +kernel
theorem d_M_areOther_26 : decode b_M_areOther 26 = .ok (.getfield 74, 3) := by decide +kernel
theorem d_M_areOther_29 : decode b_M_areOther 29 = .ok (.iconst 1, 1) := by decide +kernel
theorem d_M_areOther_30 : decode b_M_areOther 30 = .ok (.iaload, 1) := by decide +kernel
theorem d_M_areOther_31 : decode b_M_areOther 31 = .ok (.if_icmp .ge (142), 3) := by decide +kernel
theorem d_M_areOther_34 : decode b_M_areOther 34 = .ok (.sipush (201), 3) := by decide +kernel
theorem d_M_areOther_37 : decode b_M_areOther 37 = .ok (.iload 6, 2) := by decide +kernel
theorem d_M_areOther_39 : decode b_M_areOther 39 = .ok (.iadd, 1) := by decide +kernel
theorem d_M_areOther_40 : decode b_M_areOther 40 = .ok (.istore 7, 2) := by decide +kernel
theorem d_M_areOther_42 : decode b_M_areOther 42 = .ok (.sipush (402), 3) := by decide +kernel
theorem d_M_areOther_45 : decode b_M_areOther 45 = .ok (.iload 6, 2) := by decide +kernel
theorem d_M_areOther_47 : decode b_M_areOther 47 = .ok (.iadd, 1) := by decide +kernel
theorem d_M_areOther_48 : decode b_M_areOther 48 = .ok (.istore 8, 2) := by decide +kernel
theorem d_M_areOther_50 : decode b_M_areOther 50 = .ok (.iload 5, 2) := by decide +kernel
theorem d_M_areOther_52 : decode b_M_areOther 52 = .ok (.ifCond .eq (112), 3) := by decide +kernel
theorem d_M_areOther_55 : decode b_M_areOther 55 = .ok (.aload_n 0, 1) := by decide +kernel
theorem d_M_areOther_56 : decode b_M_areOther 56 = .ok (.getfield 81, 3) := by decide +kernel
theorem d_M_areOther_59 : decode b_M_areOther 59 = .ok (.iload 7, 2) := by decide +kernel
theorem d_M_areOther_61 : decode b_M_areOther 61 = .ok (.laload, 1) := by decide +kernel
theorem d_M_areOther_62 : decode b_M_areOther 62 = .ok (.lload_n 3, 1) := by decide +kernel
theorem d_M_areOther_63 : decode b_M_areOther 63 = .ok (.lmul, 1) := by decide +kernel
theorem d_M_areOther_64 : decode b_M_areOther 64 = .ok (.aload_n 0, 1) := by decide +kernel
theorem d_M_areOther_65 : decode b_M_areOther 65 = .ok (.getfield 81, 3) := by decide +kernel
theorem d_M_areOther_68 : decode b_M_areOther 68 = .ok (.iload 8, 2) := by decide +kernel
theorem d_M_areOther_70 : decode b_M_areOther 70 = .ok (.laload, 1) := by decide +kernel
theorem d_M_areOther_71 : decode b_M_areOther 71 = .ok (.lload_n 1, 1) := by decide +kernel
theorem d_M_areOther_72 : decode b_M_areOther 72 = .ok (.lmul, 1) := by decide +kernel
theorem d_M_areOther_73 : decode b_M_areOther 73 = .ok (.lcmp, 1) := by decide +kernel
theorem d_M_areOther_74 : decode b_M_areOther 74 = .ok (.ifCond .ne (90), 3) := by decide +kernel
theorem d_M_areOther_77 : decode b_M_areOther 77 = .ok (.aload_n 0, 1) := by decide +kernel
theorem d_M_areOther_78 : decode b_M_areOther 78 = .ok (.getfield 84, 3) := by decide +kernel
theorem d_M_areOther_81 : decode b_M_areOther 81 = .ok (.iload 7, 2) := by decide +kernel
theorem d_M_areOther_83 : decode b_M_areOther 83 = .ok (.laload, 1) := by decide +kernel
theorem d_M_areOther_84 : decode b_M_areOther 84 = .ok (.lload_n 3, 1) := by decide +kernel
theorem d_M_areOther_85 : decode b_M_areOther 85 = .ok (.lmul, 1) := by decide +kernel
theorem d_M_areOther_86 : decode b_M_areOther 86 = .ok (.aload_n 0, 1) := by decide +kernel
theorem d_M_areOther_87 : decode b_M_areOther 87 = .ok (.getfield 84, 3) := by decide +kernel
theorem d_M_areOther_90 : decode b_M_areOther 90 = .ok (.iload 8, 2) := by decide +kernel
theorem d_M_areOther_92 : decode b_M_areOther 92 = .ok (.laload, 1) := by decide +kernel
theorem d_M_areOther_93 : decode b_M_areOther 93 = .ok (.lload_n 1, 1) := by decide +kernel
theorem d_M_areOther_94 : decode b_M_areOther 94 = .ok (.lmul, 1) := by decide +kernel
theorem d_M_areOther_95 : decode b_M_areOther 95 = .ok (.lcmp, 1) := by decide +kernel
theorem d_M_areOther_96 : decode b_M_areOther 96 = .ok (.ifCond .ne (68), 3) := by decide +kernel
theorem d_M_areOther_99 : decode b_M_areOther 99 = .ok (.aload_n 0, 1) := by decide +kernel
theorem d_M_areOther_100 : decode b_M_areOther 100 = .ok (.getfield 87, 3) := by decide +kernel
theorem d_M_areOther_103 : decode b_M_areOther 103 = .ok (.iload 7, 2) := by decide +kernel
theorem d_M_areOther_105 : decode b_M_areOther 105 = .ok (.laload, 1) := by decide +kernel
theorem d_M_areOther_106 : decode b_M_areOther 106 = .ok (.lload_n 3, 1) := by decide +kernel
theorem d_M_areOther_107 : decode b_M_areOther 107 = .ok (.lmul, 1) := by decide +kernel
theorem d_M_areOther_108 : decode b_M_areOther 108 = .ok (.aload_n 0, 1) := by decide +kernel
theorem d_M_areOther_109 : decode b_M_areOther 109 = .ok (.getfield 87, 3) := by decide +kernel
theorem d_M_areOther_112 : decode b_M_areOther 112 = .ok (.iload 8, 2) := by decide +kernel
theorem d_M_areOther_114 : decode b_M_areOther 114 = .ok (.laload, 1) := by decide +kernel
theorem d_M_areOther_115 : decode b_M_areOther 115 = .ok (.lload_n 1, 1) := by decide +kernel
theorem d_M_areOther_116 : decode b_M_areOther 116 = .ok (.lmul, 1) := by decide +kernel
theorem d_M_areOther_117 : decode b_M_areOther 117 = .ok (.lcmp, 1) := by decide +kernel
theorem d_M_areOther_118 : decode b_M_areOther 118 = .ok (.ifCond .ne (46), 3) := by decide +kernel
theorem d_M_areOther_121 : decode b_M_areOther 121 = .ok (.aload_n 0, 1) := by decide +kernel
theorem d_M_areOther_122 : decode b_M_areOther 122 = .ok (.getfield 90, 3) := by decide +kernel
theorem d_M_areOther_125 : decode b_M_areOther 125 = .ok (.iload 7, 2) := by decide +kernel
theorem d_M_areOther_127 : decode b_M_areOther 127 = .ok (.laload, 1) := by decide +kernel
theorem d_M_areOther_128 : decode b_M_areOther 128 = .ok (.lload_n 3, 1) := by decide +kernel
theorem d_M_areOther_129 : decode b_M_areOther 129 = .ok (.lmul, 1) := by decide +kernel
theorem d_M_areOther_130 : decode b_M_areOther 130 = .ok (.aload_n 0, 1) := by decide +kernel
theorem d_M_areOther_131 : decode b_M_areOther 131 = .ok (.getfield 90, 3) := by decide +kernel
theorem d_M_areOther_134 : decode b_M_areOther 134 = .ok (.iload 8, 2) := by decide +kernel
theorem d_M_areOther_136 : decode b_M_areOther 136 = .ok (.laload, 1) := by decide +kernel
theorem d_M_areOther_137 : decode b_M_areOther 137 = .ok (.lload_n 1, 1) := by decide +kernel
theorem d_M_areOther_138 : decode b_M_areOther 138 = .ok (.lmul, 1) := by decide +kernel
theorem d_M_areOther_139 : decode b_M_areOther 139 = .ok (.lcmp, 1) := by decide +kernel
theorem d_M_areOther_140 : decode b_M_areOther 140 = .ok (.ifCond .ne (24), 3) := by decide +kernel
theorem d_M_areOther_143 : decode b_M_areOther 143 = .ok (.aload_n 0, 1) := by decide +kernel
theorem d_M_areOther_144 : decode b_M_areOther 144 = .ok (.getfield 93, 3) := by decide +kernel
theorem d_M_areOther_147 : decode b_M_areOther 147 = .ok (.iload 7, 2) := by decide +kernel
theorem d_M_areOther_149 : decode b_M_areOther 149 = .ok (.iaload, 1) := by decide +kernel
theorem d_M_areOther_150 : decode b_M_areOther 150 = .ok (.aload_n 0, 1) := by decide +kernel
theorem d_M_areOther_151 : decode b_M_areOther 151 = .ok (.getfield 93, 3) := by decide +kernel
theorem d_M_areOther_154 : decode b_M_areOther 154 = .ok (.iload 8, 2) := by decide +kernel
theorem d_M_areOther_156 : decode b_M_areOther 156 = .ok (.iaload, 1) := by decide +kernel
theorem d_M_areOther_157 : decode b_M_areOther 157 = .ok (.if_icmp .ne (7), 3) := by decide +kernel
theorem d_M_areOther_160 : decode b_M_areOther 160 = .ok (.iconst 1, 1) := by decide +kernel
theorem d_M_areOther_161 : decode b_M_areOther 161 = .ok (.goto (4), 3) := by decide +kernel
theorem d_M_areOther_164 : decode b_M_areOther 164 = .ok (.iconst 0, 1) := by decide +kernel
theorem d_M_areOther_165 : decode b_M_areOther 165 = .ok (.istore 5, 2) := by decide +kernel
theorem d_M_areOther_167 : decode b_M_areOther 167 = .ok (.iinc 6 (1), 3) := by decide +kernel
theorem d_M_areOther_170 : decode b_M_areOther 170 = .ok (.goto (-147), 3) := by decide +kernel
theorem d_M_areOther_173 : decode b_M_areOther 173 = .ok (.iload 5, 2) := by decide +kernel
theorem d_M_areOther_175 : decode b_M_areOther 175 = .ok (.ifCond .ne (7), 3) := by decide +kernel
theorem d_M_areOther_178 : decode b_M_areOther 178 = .ok (.iconst 1, 1) := by decide +kernel
theorem d_M_areOther_179 : decode b_M_areOther 179 = .ok (.goto (4), 3) := by decide +kernel
theorem d_M_areOther_182 : decode b_M_areOther 182 = .ok (.iconst 0, 1) := by decide +kernel
theorem d_M_areOther_183 : decode b_M_areOther 183 = .ok (.ireturn, 1) := by decide +kernel
theorem d_M_differ_0 : decode b_M_differ 0 = .ok (.iload_n 1, 1) := by decide +kernel
theorem d_M_differ_1 : decode b_M_differ 1 = .ok (.ifCond .lt (19), 3) := by decide +kernel
theorem d_M_differ_4 : decode b_M_differ 4 = .ok (.iload_n 1, 1) := by decide +kernel
theorem d_M_differ_5 : decode b_M_differ 5 = .ok (.bipush (7), 2) := by decide +kernel
theorem d_M_differ_7 : decode b_M_differ 7 = .ok (.if_icmp .gt (13), 3) := by decide +kernel
theorem d_M_differ_10 : decode b_M_differ 10 = .ok (.iload_n 2, 1) := by decide +kernel
theorem d_M_differ_11 : decode b_M_differ 11 = .ok (.ifCond .lt (9), 3) := by decide +kernel
theorem d_M_differ_14 : decode b_M_differ 14 = .ok (.iload_n 2, 1) := by decide +kernel
theorem d_M_differ_15 : decode b_M_differ 15 = .ok (.bipush (7), 2) := by decide +kernel
theorem d_M_differ_17 : decode b_M_differ 17 = .ok (.if_icmp .le (6), 3) := by decide +kernel
theorem d_M_differ_20 : decode b_M_differ 20 = .ok (.bipush (-9), 2) := by decide +kernel
theorem d_M_differ_22 : decode b_M_differ 22 = .ok (.ireturn, 1) := by decide +kernel
theorem d_M_differ_23 : decode b_M_differ 23 = .ok (.iconst 0, 1) := by decide +kernel
theorem d_M_differ_24 : decode b_M_differ 24 = .ok (.istore_n 3, 1) := by decide +kernel
theorem d_M_differ_25 : decode b_M_differ 25 = .ok (.iload_n 3, 1) := by decide +kernel
theorem d_M_differ_26 : decode b_M_differ 26 = .ok (.bipush (16), 2) := by decide +kernel
theorem d_M_differ_28 : decode b_M_differ 28 = .ok (.if_icmp .ge (123), 3) := by decide +kernel
theorem d_M_differ_31 : decode b_M_differ 31 = .ok (.aload_n 0, 1) := by decide +kernel
theorem d_M_differ_32 : decode b_M_differ 32 = .ok (.iload_n 1, 1) := by decide +kernel
theorem d_M_differ_33 : decode b_M_differ 33 = .ok (.iload_n 3, 1) := by decide +kernel
theorem d_M_differ_34 : decode b_M_differ 34 = .ok (.i2l, 1) := by decide +kernel
theorem d_M_differ_35 : decode b_M_differ 35 = .ok (.aload_n 0, 1) := by decide +kernel
theorem d_M_differ_36 : decode b_M_differ 36 = .ok (.getfield 40, 3) := by decide +kernel
theorem d_M_differ_39 : decode b_M_differ 39 = .ok (.iload_n 1, 1) := by decide +kernel
theorem d_M_differ_40 : decode b_M_differ 40 = .ok (.iaload, 1) := by decide +kernel
theorem d_M_differ_41 : decode b_M_differ 41 = .ok (.i2l, 1) := by decide +kernel
theorem d_M_differ_42 : decode b_M_differ 42 = .ok (.lmul, 1) := by decide +kernel
theorem d_M_differ_43 : decode b_M_differ 43 = .ok (.iload_n 3, 1) := by decide +kernel
theorem d_M_differ_44 : decode b_M_differ 44 = .ok (.i2l, 1) := by decide +kernel
theorem d_M_differ_45 : decode b_M_differ 45 = .ok (.lconst 1, 1) := by decide +kernel
theorem d_M_differ_46 : decode b_M_differ 46 = .ok (.ladd, 1) := by decide +kernel
theorem d_M_differ_47 : decode b_M_differ 47 = .ok (.aload_n 0, 1) := by decide +kernel
theorem d_M_differ_48 : decode b_M_differ 48 = .ok (.getfield 40, 3) := by decide +kernel
theorem d_M_differ_51 : decode b_M_differ 51 = .ok (.iload_n 1, 1) := by decide +kernel
theorem d_M_differ_52 : decode b_M_differ 52 = .ok (.iaload, 1) := by decide +kernel
theorem d_M_differ_53 : decode b_M_differ 53 = .ok (.i2l, 1) := by decide +kernel
theorem d_M_differ_54 : decode b_M_differ 54 = .ok (.lmul, 1) := by decide +kernel
theorem d_M_differ_55 : decode b_M_differ 55 = .ok (.aload_n 0, 1) := by decide +kernel
theorem d_M_differ_56 : decode b_M_differ 56 = .ok (.getfield 40, 3) := by decide +kernel
theorem d_M_differ_59 : decode b_M_differ 59 = .ok (.iload_n 1, 1) := by decide +kernel
theorem d_M_differ_60 : decode b_M_differ 60 = .ok (.iaload, 1) := by decide +kernel
theorem d_M_differ_61 : decode b_M_differ 61 = .ok (.i2l, 1) := by decide +kernel
theorem d_M_differ_62 : decode b_M_differ 62 = .ok (.iconst 1, 1) := by decide +kernel
theorem d_M_differ_63 : decode b_M_differ 63 = .ok (.invokevirtual 235, 3) := by decide +kernel
theorem d_M_differ_66 : decode b_M_differ 66 = .ok (.aload_n 0, 1) := by decide +kernel
theorem d_M_differ_67 : decode b_M_differ 67 = .ok (.iload_n 2, 1) := by decide +kernel
theorem d_M_differ_68 : decode b_M_differ 68 = .ok (.iload_n 3, 1) := by decide +kernel
theorem d_M_differ_69 : decode b_M_differ 69 = .ok (.i2l, 1) := by decide +kernel
theorem d_M_differ_70 : decode b_M_differ 70 = .ok (.aload_n 0, 1) := by decide +kernel
theorem d_M_differ_71 : decode b_M_differ 71 = .ok (.getfield 40, 3) := by decide +kernel
theorem d_M_differ_74 : decode b_M_differ 74 = .ok (.iload_n 2, 1) := by decide +kernel
theorem d_M_differ_75 : decode b_M_differ 75 = .ok (.iaload, 1) := by decide +kernel
theorem d_M_differ_76 : decode b_M_differ 76 = .ok (.i2l, 1) := by decide +kernel
theorem d_M_differ_77 : decode b_M_differ 77 = .ok (.lmul, 1) := by decide +kernel
theorem d_M_differ_78 : decode b_M_differ 78 = .ok (.iload_n 3, 1) := by decide +kernel
theorem d_M_differ_79 : decode b_M_differ 79 = .ok (.i2l, 1) := by decide +kernel
theorem d_M_differ_80 : decode b_M_differ 80 = .ok (.lconst 1, 1) := by decide +kernel
theorem d_M_differ_81 : decode b_M_differ 81 = .ok (.ladd, 1) := by decide +kernel
theorem d_M_differ_82 : decode b_M_differ 82 = .ok (.aload_n 0, 1) := by decide +kernel
theorem d_M_differ_83 : decode b_M_differ 83 = .ok (.getfield 40, 3) := by decide +kernel
theorem d_M_differ_86 : decode b_M_differ 86 = .ok (.iload_n 2, 1) := by decide +kernel
theorem d_M_differ_87 : decode b_M_differ 87 = .ok (.iaload, 1) := by decide +kernel
theorem d_M_differ_88 : decode b_M_differ 88 = .ok (.i2l, 1) := by decide +kernel
theorem d_M_differ_89 : decode b_M_differ 89 = .ok (.lmul, 1) := by decide +kernel
theorem d_M_differ_90 : decode b_M_differ 90 = .ok (.aload_n 0, 1) := by decide +kernel
theorem d_M_differ_91 : decode b_M_differ 91 = .ok (.getfield 40, 3) := by decide +kernel
theorem d_M_differ_94 : decode b_M_differ 94 = .ok (.iload_n 2, 1) := by decide +kernel
theorem d_M_differ_95 : decode b_M_differ 95 = .ok (.iaload, 1) := by decide +kernel
theorem d_M_differ_96 : decode b_M_differ 96 = .ok (.i2l, 1) := by decide +kernel
theorem d_M_differ_97 : decode b_M_differ 97 = .ok (.iconst 2, 1) := by decide +kernel
theorem d_M_differ_98 : decode b_M_differ 98 = .ok (.invokevirtual 235, 3) := by decide +kernel
theorem d_M_differ_101 : decode b_M_differ 101 = .ok (.aload_n 0, 1) := by decide +kernel
theorem d_M_differ_102 : decode b_M_differ 102 = .ok (.getfield 77, 3) := by decide +kernel
theorem d_M_differ_105 : decode b_M_differ 105 = .ok (.iconst 1, 1) := by decide +kernel
theorem d_M_differ_106 : decode b_M_differ 106 = .ok (.baload, 1) := by decide +kernel
theorem d_M_differ_107 : decode b_M_differ 107 = .ok (.ifCond .ne (12), 3) := by decide +kernel
theorem d_M_differ_110 : decode b_M_differ 110 = .ok (.aload_n 0, 1) := by decide +kernel
theorem d_M_differ_111 : decode b_M_differ 111 = .ok (.getfield 77, 3) := by decide +kernel
theorem d_M_differ_114 : decode b_M_differ 114 = .ok (.iconst 2, 1) := by decide +kernel
theorem d_M_differ_115 : decode b_M_differ 115 = .ok (.baload, 1) := by decide +kernel
theorem d_M_differ_116 : decode b_M_differ 116 = .ok (.ifCond .eq (6), 3) := by decide +kernel
theorem d_M_differ_119 : decode b_M_differ 119 = .ok (.bipush (-2), 2) := by decide +kernel
theorem d_M_differ_121 : decode b_M_differ 121 = .ok (.ireturn, 1) := by decide +kernel
theorem d_M_differ_122 : decode b_M_differ 122 = .ok (.aload_n 0, 1) := by decide +kernel
theorem d_M_differ_123 : decode b_M_differ 123 = .ok (.aload_n 0, 1) := by decide +kernel
theorem d_M_differ_124 : decode b_M_differ 124 = .ok (.getfield 40, 3) := by decide +kernel
theorem d_M_differ_127 : decode b_M_differ 127 = .ok (.iload_n 1, 1) := by decide +kernel
theorem d_M_differ_128 : decode b_M_differ 128 = .ok (.iaload, 1) := by decide +kernel
theorem d_M_differ_129 : decode b_M_differ 129 = .ok (.i2l, 1) := by decide +kernel
theorem d_M_differ_130 : decode b_M_differ 130 = .ok (.aload_n 0, 1) := by decide +kernel
theorem d_M_differ_131 : decode b_M_differ 131 = .ok (.getfield 40, 3) := by decide +kernel
theorem d_M_differ_134 : decode b_M_differ 134 = .ok (.iload_n 2, 1) := by decide +kernel
theorem d_M_differ_135 : decode b_M_differ 135 = .ok (.iaload, 1) := by decide +kernel
theorem d_M_differ_136 : decode b_M_differ 136 = .ok (.i2l, 1) := by decide +kernel
theorem d_M_differ_137 : decode b_M_differ 137 = .ok (.invokevirtual 238, 3) := by decide +kernel
theorem d_M_differ_140 : decode b_M_differ 140 = .ok (.ifCond .eq (5), 3) := by decide +kernel
theorem d_M_differ_143 : decode b_M_differ 143 = .ok (.iload_n 3, 1) := by decide +kernel
theorem d_M_differ_144 : decode b_M_differ 144 = .ok (.ireturn, 1) := by decide +kernel
theorem d_M_differ_145 : decode b_M_differ 145 = .ok (.iinc 3 (1), 3) := by decide +kernel
theorem d_M_differ_148 : decode b_M_differ 148 = .ok (.goto (-123), 3) := by decide +kernel
theorem d_M_differ_151 : decode b_M_differ 151 = .ok (.iconst (-1), 1) := by decide +kernel
theorem d_M_differ_152 : decode b_M_differ 152 = .ok (.ireturn, 1) := by decide +kernel
theorem d_M_play_0 : decode b_M_play 0 = .ok (.iload_n 1, 1) := by decide +kernel
theorem d_M_play_1 : decode b_M_play 1 = .ok (.iconst 1, 1) := by decide +kernel
theorem d_M_play_2 : decode b_M_play 2 = .ok (.if_icmp .lt (32), 3) := by decide +kernel
theorem d_M_play_5 : decode b_M_play 5 = .ok (.iload_n 1, 1) := by decide +kernel
theorem d_M_play_6 : decode b_M_play 6 = .ok (.sipush (255), 3) := by decide +kernel
theorem d_M_play_9 : decode b_M_play 9 = .ok (.if_icmp .gt (25), 3) := by decide +kernel
theorem d_M_play_12 : decode b_M_play 12 = .ok (.iload_n 2, 1) := by decide +kernel
theorem d_M_play_13 : decode b_M_play 13 = .ok (.iconst 1, 1) := by decide +kernel
theorem d_M_play_14 : decode b_M_play 14 = .ok (.if_icmp .lt (20), 3) := by decide +kernel
theorem d_M_play_17 : decode b_M_play 17 = .ok (.iload_n 2, 1) := by decide +kernel
theorem d_M_play_18 : decode b_M_play 18 = .ok (.bipush (20), 2) := by decide +kernel
theorem d_M_play_20 : decode b_M_play 20 = .ok (.if_icmp .gt (14), 3) := by decide +kernel
theorem d_M_play_23 : decode b_M_play 23 = .ok (.iload_n 3, 1) := by decide +kernel
theorem d_M_play_24 : decode b_M_play 24 = .ok (.iconst 1, 1) := by decide +kernel
theorem d_M_play_25 : decode b_M_play 25 = .ok (.if_icmp .lt (9), 3) := by decide +kernel
theorem d_M_play_28 : decode b_M_play 28 = .ok (.iload_n 3, 1) := by decide +kernel
theorem d_M_play_29 : decode b_M_play 29 = .ok (.bipush (20), 2) := by decide +kernel
theorem d_M_play_31 : decode b_M_play 31 = .ok (.if_icmp .le (5), 3) := by decide +kernel
theorem d_M_play_34 : decode b_M_play 34 = .ok (.iconst 0, 1) := by decide +kernel
theorem d_M_play_35 : decode b_M_play 35 = .ok (.ireturn, 1) := by decide +kernel
theorem d_M_play_36 : decode b_M_play 36 = .ok (.aload_n 0, 1) := by decide +kernel
theorem d_M_play_37 : decode b_M_play 37 = .ok (.iload_n 1, 1) := by decide +kernel
theorem d_M_play_38 : decode b_M_play 38 = .ok (.putfield 161, 3) := by decide +kernel
theorem d_M_play_41 : decode b_M_play 41 = .ok (.aload_n 0, 1) := by decide +kernel
theorem d_M_play_42 : decode b_M_play 42 = .ok (.iload_n 2, 1) := by decide +kernel
theorem d_M_play_43 : decode b_M_play 43 = .ok (.i2l, 1) := by decide +kernel
theorem d_M_play_44 : decode b_M_play 44 = .ok (.putfield 242, 3) := by decide +kernel
theorem d_M_play_47 : decode b_M_play 47 = .ok (.aload_n 0, 1) := by decide +kernel
theorem d_M_play_48 : decode b_M_play 48 = .ok (.iload_n 3, 1) := by decide +kernel
theorem d_M_play_49 : decode b_M_play 49 = .ok (.i2l, 1) := by decide +kernel
theorem d_M_play_50 : decode b_M_play 50 = .ok (.putfield 246, 3) := by decide +kernel
theorem d_M_play_53 : decode b_M_play 53 = .ok (.aload_n 0, 1) := by decide +kernel
theorem d_M_play_54 : decode b_M_play 54 = .ok (.iconst 0, 1) := by decide +kernel
theorem d_M_play_55 : decode b_M_play 55 = .ok (.putfield 167, 3) := by decide +kernel
theorem d_M_play_58 : decode b_M_play 58 = .ok (.aload_n 0, 1) := by decide +kernel
theorem d_M_play_59 : decode b_M_play 59 = .ok (.iconst 0, 1) := by decide +kernel
theorem d_M_play_60 : decode b_M_play 60 = .ok (.putfield 164, 3) := by decide +kernel
theorem d_M_play_63 : decode b_M_play 63 = .ok (.iconst 1, 1) := by decide +kernel
theorem d_M_play_64 : decode b_M_play 64 = .ok (.ireturn, 1) := by decide +kernel
theorem d_M_addOnset_0 : decode b_M_addOnset 0 = .ok (.aload_n 0, 1) := by decide +kernel
theorem d_M_addOnset_1 : decode b_M_addOnset 1 = .ok (.getfield 164, 3) := by decide +kernel
theorem d_M_addOnset_4 : decode b_M_addOnset 4 = .ok (.bipush (100), 2) := by decide +kernel
theorem d_M_addOnset_6 : decode b_M_addOnset 6 = .ok (.if_icmp .ne (9), 3) := by decide +kernel
theorem d_M_addOnset_9 : decode b_M_addOnset 9 = .ok (.aload_n 0, 1) := by decide +kernel
theorem d_M_addOnset_10 : decode b_M_addOnset 10 = .ok (.iconst 1, 1) := by decide +kernel
theorem d_M_addOnset_11 : decode b_M_addOnset 11 = .ok (.putfield 249, 3) := by decide +kernel
theorem d_M_addOnset_14 : decode b_M_addOnset 14 = .ok (.return_, 1) := by decide +kernel
theorem d_M_addOnset_15 : decode b_M_addOnset 15 = .ok (.aload_n 0, 1) := by decide +kernel
theorem d_M_addOnset_16 : decode b_M_addOnset 16 = .ok (.getfield 242, 3) := by decide +kernel
theorem d_M_addOnset_19 : decode b_M_addOnset 19 = .ok (.aload_n 0, 1) := by decide +kernel
theorem d_M_addOnset_20 : decode b_M_addOnset 20 = .ok (.getfield 40, 3) := by decide +kernel
theorem d_M_addOnset_23 : decode b_M_addOnset 23 = .ok (.iload_n 1, 1) := by decide +kernel
theorem d_M_addOnset_24 : decode b_M_addOnset 24 = .ok (.iaload, 1) := by decide +kernel
theorem d_M_addOnset_25 : decode b_M_addOnset 25 = .ok (.i2l, 1) := by decide +kernel
theorem d_M_addOnset_26 : decode b_M_addOnset 26 = .ok (.lmul, 1) := by decide +kernel
theorem d_M_addOnset_27 : decode b_M_addOnset 27 = .ok (.lstore 7, 2) := by decide +kernel
theorem d_M_addOnset_29 : decode b_M_addOnset 29 = .ok (.lload_n 2, 1) := by decide +kernel
theorem d_M_addOnset_30 : decode b_M_addOnset 30 = .ok (.lload 7, 2) := by decide +kernel
theorem d_M_addOnset_32 : decode b_M_addOnset 32 = .ok (.invokestatic 180, 3) := by decide +kernel
theorem d_M_addOnset_35 : decode b_M_addOnset 35 = .ok (.l2i, 1) := by decide +kernel
theorem d_M_addOnset_36 : decode b_M_addOnset 36 = .ok (.istore 9, 2) := by decide +kernel
theorem d_M_addOnset_38 : decode b_M_addOnset 38 = .ok (.aload_n 0, 1) := by decide +kernel
theorem d_M_addOnset_39 : decode b_M_addOnset 39 = .ok (.getfield 164, 3) := by decide +kernel
theorem d_M_addOnset_42 : decode b_M_addOnset 42 = .ok (.istore 10, 2) := by decide +kernel
theorem d_M_addOnset_44 : decode b_M_addOnset 44 = .ok (.iload 10, 2) := by decide +kernel
theorem d_M_addOnset_46 : decode b_M_addOnset 46 = .ok (.ifCond .le (124), 3) := by decide +kernel
theorem d_M_addOnset_49 : decode b_M_addOnset 49 = .ok (.aload_n 0, 1) := by decide +kernel
theorem d_M_addOnset_50 : decode b_M_addOnset 50 = .ok (.iload 10, 2) := by decide +kernel
theorem d_M_addOnset_52 : decode b_M_addOnset 52 = .ok (.iconst 1, 1) := by decide +kernel
theorem d_M_addOnset_53 : decode b_M_addOnset 53 = .ok (.isub, 1) := by decide +kernel
theorem d_M_addOnset_54 : decode b_M_addOnset 54 = .ok (.iload 9, 2) := by decide +kernel
theorem d_M_addOnset_56 : decode b_M_addOnset 56 = .ok (.iload_n 1, 1) := by decide +kernel
theorem d_M_addOnset_57 : decode b_M_addOnset 57 = .ok (.lload_n 2, 1) := by decide +kernel
theorem d_M_addOnset_58 : decode b_M_addOnset 58 = .ok (.lload 4, 2) := by decide +kernel
theorem d_M_addOnset_60 : decode b_M_addOnset 60 = .ok (.iload 6, 2) := by decide +kernel
theorem d_M_addOnset_62 : decode b_M_addOnset 62 = .ok (.invokevirtual 253, 3) := by decide +kernel
theorem d_M_addOnset_65 : decode b_M_addOnset 65 = .ok (.ifCond .eq (105), 3) := by decide +kernel
theorem d_M_addOnset_68 : decode b_M_addOnset 68 = .ok (.aload_n 0, 1) := by decide +kernel
theorem d_M_addOnset_69 : decode b_M_addOnset 69 = .ok (.getfield 100, 3) := by decide +kernel
theorem d_M_addOnset_72 : decode b_M_addOnset 72 = .ok (.iload 10, 2) := by decide +kernel
theorem d_M_addOnset_74 : decode b_M_addOnset 74 = .ok (.aload_n 0, 1) := by decide +kernel
theorem d_M_addOnset_75 : decode b_M_addOnset 75 = .ok (.getfield 100, 3) := by decide +kernel
theorem d_M_addOnset_78 : decode b_M_addOnset 78 = .ok (.iload 10, 2) := by decide +kernel
theorem d_M_addOnset_80 : decode b_M_addOnset 80 = .ok (.iconst 1, 1) := by decide +kernel
theorem d_M_addOnset_81 : decode b_M_addOnset 81 = .ok (.isub, 1) := by decide +kernel
theorem d_M_addOnset_82 : decode b_M_addOnset 82 = .ok (.iaload, 1) := by decide +kernel
theorem d_M_addOnset_83 : decode b_M_addOnset 83 = .ok (.iastore, 1) := by decide +kernel
theorem d_M_addOnset_84 : decode b_M_addOnset 84 = .ok (.aload_n 0, 1) := by decide +kernel
theorem d_M_addOnset_85 : decode b_M_addOnset 85 = .ok (.getfield 103, 3) := by decide +kernel
theorem d_M_addOnset_88 : decode b_M_addOnset 88 = .ok (.iload 10, 2) := by decide +kernel
theorem d_M_addOnset_90 : decode b_M_addOnset 90 = .ok (.aload_n 0, 1) := by decide +kernel
theorem d_M_addOnset_91 : decode b_M_addOnset 91 = .ok (.getfield 103, 3) := by decide +kernel
theorem d_M_addOnset_94 : decode b_M_addOnset 94 = .ok (.iload 10, 2) := by decide +kernel
theorem d_M_addOnset_96 : decode b_M_addOnset 96 = .ok (.iconst 1, 1) := by decide +kernel
theorem d_M_addOnset_97 : decode b_M_addOnset 97 = .ok (.isub, 1) := by decide +kernel
theorem d_M_addOnset_98 : decode b_M_addOnset 98 = .ok (.iaload, 1) := by decide +kernel
theorem d_M_addOnset_99 : decode b_M_addOnset 99 = .ok (.iastore, 1) := by decide +kernel
theorem d_M_addOnset_100 : decode b_M_addOnset 100 = .ok (.aload_n 0, 1) := by decide +kernel
theorem d_M_addOnset_101 : decode b_M_addOnset 101 = .ok (.getfield 106, 3) := by decide +kernel
theorem d_M_addOnset_104 : decode b_M_addOnset 104 = .ok (.iload 10, 2) := by decide +kernel
theorem d_M_addOnset_106 : decode b_M_addOnset 106 = .ok (.aload_n 0, 1) := by decide +kernel
theorem d_M_addOnset_107 : decode b_M_addOnset 107 = .ok (.getfield 106, 3) := by decide +kernel
theorem d_M_addOnset_110 : decode b_M_addOnset 110 = .ok (.iload 10, 2) := by decide +kernel
theorem d_M_addOnset_112 : decode b_M_addOnset 112 = .ok (.iconst 1, 1) := by decide +kernel
theorem d_M_addOnset_113 : decode b_M_addOnset 113 = .ok (.isub, 1) := by decide +kernel
theorem d_M_addOnset_114 : decode b_M_addOnset 114 = .ok (.iaload, 1) := by decide +kernel
theorem d_M_addOnset_115 : decode b_M_addOnset 115 = .ok (.iastore, 1) := by decide +kernel
theorem d_M_addOnset_116 : decode b_M_addOnset 116 = .ok (.aload_n 0, 1) := by decide +kernel
theorem d_M_addOnset_117 : decode b_M_addOnset 117 = .ok (.getfield 109, 3) := by decide +kernel
theorem d_M_addOnset_120 : decode b_M_addOnset 120 = .ok (.iload 10, 2) := by decide +kernel
theorem d_M_addOnset_122 : decode b_M_addOnset 122 = .ok (.aload_n 0, 1) := by decide +kernel
theorem d_M_addOnset_123 : decode b_M_addOnset 123 = .ok (.getfield 109, 3) := by decide +kernel
theorem d_M_addOnset_126 : decode b_M_addOnset 126 = .ok (.iload 10, 2) := by decide +kernel
theorem d_M_addOnset_128 : decode b_M_addOnset 128 = .ok (.iconst 1, 1) := by decide +kernel
theorem d_M_addOnset_129 : decode b_M_addOnset 129 = .ok (.isub, 1) := by decide +kernel
theorem d_M_addOnset_130 : decode b_M_addOnset 130 = .ok (.iaload, 1) := by decide +kernel
theorem d_M_addOnset_131 : decode b_M_addOnset 131 = .ok (.iastore, 1) := by decide +kernel
theorem d_M_addOnset_132 : decode b_M_addOnset 132 = .ok (.aload_n 0, 1) := by decide +kernel
theorem d_M_addOnset_133 : decode b_M_addOnset 133 = .ok (.getfield 112, 3) := by decide +kernel
theorem d_M_addOnset_136 : decode b_M_addOnset 136 = .ok (.iload 10, 2) := by decide +kernel
theorem d_M_addOnset_138 : decode b_M_addOnset 138 = .ok (.aload_n 0, 1) := by decide +kernel
theorem d_M_addOnset_139 : decode b_M_addOnset 139 = .ok (.getfield 112, 3) := by decide +kernel
theorem d_M_addOnset_142 : decode b_M_addOnset 142 = .ok (.iload 10, 2) := by decide +kernel
theorem d_M_addOnset_144 : decode b_M_addOnset 144 = .ok (.iconst 1, 1) := by decide +kernel
theorem d_M_addOnset_145 : decode b_M_addOnset 145 = .ok (.isub, 1) := by decide +kernel
theorem d_M_addOnset_146 : decode b_M_addOnset 146 = .ok (.laload, 1) := by decide +kernel
theorem d_M_addOnset_147 : decode b_M_addOnset 147 = .ok (.lastore, 1) := by decide +kernel
theorem d_M_addOnset_148 : decode b_M_addOnset 148 = .ok (.aload_n 0, 1) := by decide +kernel
theorem d_M_addOnset_149 : decode b_M_addOnset 149 = .ok (.getfield 115, 3) := by decide +kernel
theorem d_M_addOnset_152 : decode b_M_addOnset 152 = .ok (.iload 10, 2) := by decide +kernel
theorem d_M_addOnset_154 : decode b_M_addOnset 154 = .ok (.aload_n 0, 1) := by decide +kernel
theorem d_M_addOnset_155 : decode b_M_addOnset 155 = .ok (.getfield 115, 3) := by decide +kernel
theorem d_M_addOnset_158 : decode b_M_addOnset 158 = .ok (.iload 10, 2) := by decide +kernel
theorem d_M_addOnset_160 : decode b_M_addOnset 160 = .ok (.iconst 1, 1) := by decide +kernel
theorem d_M_addOnset_161 : decode b_M_addOnset 161 = .ok (.isub, 1) := by decide +kernel
theorem d_M_addOnset_162 : decode b_M_addOnset 162 = .ok (.laload, 1) := by decide +kernel
theorem d_M_addOnset_163 : decode b_M_addOnset 163 = .ok (.lastore, 1) := by decide +kernel
theorem d_M_addOnset_164 : decode b_M_addOnset 164 = .ok (.iinc 10 (-1), 3) := by decide +kernel
theorem d_M_addOnset_167 : decode b_M_addOnset 167 = .ok (.goto (-123), 3) := by decide +kernel
theorem d_M_addOnset_170 : decode b_M_addOnset 170 = .ok (.aload_n 0, 1) := by decide +kernel
theorem d_M_addOnset_171 : decode b_M_addOnset 171 = .ok (.getfield 100, 3) := by decide +kernel
theorem d_M_addOnset_174 : decode b_M_addOnset 174 = .ok (.iload 10, 2) := by decide +kernel
theorem d_M_addOnset_176 : decode b_M_addOnset 176 = .ok (.iload 9, 2) := by decide +kernel
theorem d_M_addOnset_178 : decode b_M_addOnset 178 = .ok (.iastore, 1) := by decide +kernel
theorem d_M_addOnset_179 : decode b_M_addOnset 179 = .ok (.aload_n 0, 1) := by decide +kernel
theorem d_M_addOnset_180 : decode b_M_addOnset 180 = .ok (.getfield 103, 3) := by decide +kernel
theorem d_M_addOnset_183 : decode b_M_addOnset 183 = .ok (.iload 10, 2) := by decide +kernel
theorem d_M_addOnset_185 : decode b_M_addOnset 185 = .ok (.iload_n 1, 1) := by decide +kernel
theorem d_M_addOnset_186 : decode b_M_addOnset 186 = .ok (.iastore, 1) := by decide +kernel
theorem d_M_addOnset_187 : decode b_M_addOnset 187 = .ok (.aload_n 0, 1) := by decide +kernel
theorem d_M_addOnset_188 : decode b_M_addOnset 188 = .ok (.getfield 106, 3) := by decide +kernel
theorem d_M_addOnset_191 : decode b_M_addOnset 191 = .ok (.iload 10, 2) := by decide +kernel
theorem d_M_addOnset_193 : decode b_M_addOnset 193 = .ok (.iload 6, 2) := by decide +kernel
theorem d_M_addOnset_195 : decode b_M_addOnset 195 = .ok (.iastore, 1) := by decide +kernel
theorem d_M_addOnset_196 : decode b_M_addOnset 196 = .ok (.aload_n 0, 1) := by decide +kernel
theorem d_M_addOnset_197 : decode b_M_addOnset 197 = .ok (.getfield 109, 3) := by decide +kernel
theorem d_M_addOnset_200 : decode b_M_addOnset 200 = .ok (.iload 10, 2) := by decide +kernel
theorem d_M_addOnset_202 : decode b_M_addOnset 202 = .ok (.lload 4, 2) := by decide +kernel
theorem d_M_addOnset_204 : decode b_M_addOnset 204 = .ok (.lload 7, 2) := by decide +kernel
theorem d_M_addOnset_206 : decode b_M_addOnset 206 = .ok (.invokestatic 180, 3) := by decide +kernel
theorem d_M_addOnset_209 : decode b_M_addOnset 209 = .ok (.iload 9, 2) := by decide +kernel
theorem d_M_addOnset_211 : decode b_M_addOnset 211 = .ok (.i2l, 1) := by decide +kernel
theorem d_M_addOnset_212 : decode b_M_addOnset 212 = .ok (.lsub, 1) := by decide +kernel
theorem d_M_addOnset_213 : decode b_M_addOnset 213 = .ok (.l2i, 1) := by decide +kernel
theorem d_M_addOnset_214 : decode b_M_addOnset 214 = .ok (.iastore, 1) := by decide +kernel
theorem d_M_addOnset_215 : decode b_M_addOnset 215 = .ok (.aload_n 0, 1) := by decide +kernel
theorem d_M_addOnset_216 : decode b_M_addOnset 216 = .ok (.getfield 112, 3) := by decide +kernel
theorem d_M_addOnset_219 : decode b_M_addOnset 219 = .ok (.iload 10, 2) := by decide +kernel
theorem d_M_addOnset_221 : decode b_M_addOnset 221 = .ok (.lload_n 2, 1) := by decide +kernel
theorem d_M_addOnset_222 : decode b_M_addOnset 222 = .ok (.lastore, 1) := by decide +kernel
theorem d_M_addOnset_223 : decode b_M_addOnset 223 = .ok (.aload_n 0, 1) := by decide +kernel
theorem d_M_addOnset_224 : decode b_M_addOnset 224 = .ok (.getfield 115, 3) := by decide +kernel
theorem d_M_addOnset_227 : decode b_M_addOnset 227 = .ok (.iload 10, 2) := by decide +kernel
theorem d_M_addOnset_229 : decode b_M_addOnset 229 = .ok (.lload 4, 2) := by decide +kernel
theorem d_M_addOnset_231 : decode b_M_addOnset 231 = .ok (.lastore, 1) := by decide +kernel
theorem d_M_addOnset_232 : decode b_M_addOnset 232 = .ok (.aload_n 0, 1) := by decide +kernel
theorem d_M_addOnset_233 : decode b_M_addOnset 233 = .ok (.dup, 1) := by decide +kernel
theorem d_M_addOnset_234 : decode b_M_addOnset 234 = .ok (.getfield 164, 3) := by decide +kernel
theorem d_M_addOnset_237 : decode b_M_addOnset 237 = .ok (.iconst 1, 1) := by decide +kernel
theorem d_M_addOnset_238 : decode b_M_addOnset 238 = .ok (.iadd, 1) := by decide +kernel
theorem d_M_addOnset_239 : decode b_M_addOnset 239 = .ok (.putfield 164, 3) := by decide +kernel
theorem d_M_addOnset_242 : decode b_M_addOnset 242 = .ok (.return_, 1) := by decide +kernel
theorem d_M_isLater_0 : decode b_M_isLater 0 = .ok (.aload_n 0, 1) := by decide +kernel
theorem d_M_isLater_1 : decode b_M_isLater 1 = .ok (.getfield 100, 3) := by decide +kernel
theorem d_M_isLater_4 : decode b_M_isLater 4 = .ok (.iload_n 1, 1) := by decide +kernel
theorem d_M_isLater_5 : decode b_M_isLater 5 = .ok (.iaload, 1) := by decide +kernel
theorem d_M_isLater_6 : decode b_M_isLater 6 = .ok (.iload_n 2, 1) := by decide +kernel
theorem d_M_isLater_7 : decode b_M_isLater 7 = .ok (.if_icmp .eq (19), 3) := by decide +kernel
theorem d_M_isLater_10 : decode b_M_isLater 10 = .ok (.aload_n 0, 1) := by decide +kernel
theorem d_M_isLater_11 : decode b_M_isLater 11 = .ok (.getfield 100, 3) := by decide +kernel
theorem d_M_isLater_14 : decode b_M_isLater 14 = .ok (.iload_n 1, 1) := by decide +kernel
theorem d_M_isLater_15 : decode b_M_isLater 15 = .ok (.iaload, 1) := by decide +kernel
theorem d_M_isLater_16 : decode b_M_isLater 16 = .ok (.iload_n 2, 1) := by decide +kernel
theorem d_M_isLater_17 : decode b_M_isLater 17 = .ok (.if_icmp .le (7), 3) := by decide +kernel
theorem d_M_isLater_20 : decode b_M_isLater 20 = .ok (.iconst 1, 1) := by decide +kernel
theorem d_M_isLater_21 : decode b_M_isLater 21 = .ok (.goto (4), 3) := by decide +kernel
theorem d_M_isLater_24 : decode b_M_isLater 24 = .ok (.iconst 0, 1) := by decide +kernel
theorem d_M_isLater_25 : decode b_M_isLater 25 = .ok (.ireturn, 1) := by decide +kernel
theorem d_M_isLater_26 : decode b_M_isLater 26 = .ok (.aload_n 0, 1) := by decide +kernel
theorem d_M_isLater_27 : decode b_M_isLater 27 = .ok (.getfield 103, 3) := by decide +kernel
theorem d_M_isLater_30 : decode b_M_isLater 30 = .ok (.iload_n 1, 1) := by decide +kernel
theorem d_M_isLater_31 : decode b_M_isLater 31 = .ok (.iaload, 1) := by decide +kernel
theorem d_M_isLater_32 : decode b_M_isLater 32 = .ok (.iload_n 3, 1) := by decide +kernel
theorem d_M_isLater_33 : decode b_M_isLater 33 = .ok (.if_icmp .eq (19), 3) := by decide +kernel
theorem d_M_isLater_36 : decode b_M_isLater 36 = .ok (.aload_n 0, 1) := by decide +kernel
theorem d_M_isLater_37 : decode b_M_isLater 37 = .ok (.getfield 103, 3) := by decide +kernel
theorem d_M_isLater_40 : decode b_M_isLater 40 = .ok (.iload_n 1, 1) := by decide +kernel
theorem d_M_isLater_41 : decode b_M_isLater 41 = .ok (.iaload, 1) := by decide +kernel
theorem d_M_isLater_42 : decode b_M_isLater 42 = .ok (.iload_n 3, 1) := by decide +kernel
theorem d_M_isLater_43 : decode b_M_isLater 43 = .ok (.if_icmp .le (7), 3) := by decide +kernel
theorem d_M_isLater_46 : decode b_M_isLater 46 = .ok (.iconst 1, 1) := by decide +kernel
theorem d_M_isLater_47 : decode b_M_isLater 47 = .ok (.goto (4), 3) := by decide +kernel
theorem d_M_isLater_50 : decode b_M_isLater 50 = .ok (.iconst 0, 1) := by decide +kernel
theorem d_M_isLater_51 : decode b_M_isLater 51 = .ok (.ireturn, 1) := by decide +kernel
theorem d_M_isLater_52 : decode b_M_isLater 52 = .ok (.aload_n 0, 1) := by decide +kernel
theorem d_M_isLater_53 : decode b_M_isLater 53 = .ok (.getfield 112, 3) := by decide +kernel
theorem d_M_isLater_56 : decode b_M_isLater 56 = .ok (.iload_n 1, 1) := by decide +kernel
theorem d_M_isLater_57 : decode b_M_isLater 57 = .ok (.laload, 1) := by decide +kernel
theorem d_M_isLater_58 : decode b_M_isLater 58 = .ok (.lload 4, 2) := by decide +kernel
theorem d_M_isLater_60 : decode b_M_isLater 60 = .ok (.lcmp, 1) := by decide +kernel
theorem d_M_isLater_61 : decode b_M_isLater 61 = .ok (.ifCond .eq (21), 3) := by decide +kernel
theorem d_M_isLater_64 : decode b_M_isLater 64 = .ok (.aload_n 0, 1) := by decide +kernel
theorem d_M_isLater_65 : decode b_M_isLater 65 = .ok (.getfield 112, 3) := by decide +kernel
theorem d_M_isLater_68 : decode b_M_isLater 68 = .ok (.iload_n 1, 1) := by decide +kernel
theorem d_M_isLater_69 : decode b_M_isLater 69 = .ok (.laload, 1) := by decide +kernel
theorem d_M_isLater_70 : decode b_M_isLater 70 = .ok (.lload 4, 2) := by decide +kernel
theorem d_M_isLater_72 : decode b_M_isLater 72 = .ok (.lcmp, 1) := by decide +kernel
theorem d_M_isLater_73 : decode b_M_isLater 73 = .ok (.ifCond .le (7), 3) := by decide +kernel
theorem d_M_isLater_76 : decode b_M_isLater 76 = .ok (.iconst 1, 1) := by decide +kernel
theorem d_M_isLater_77 : decode b_M_isLater 77 = .ok (.goto (4), 3) := by decide +kernel
theorem d_M_isLater_80 : decode b_M_isLater 80 = .ok (.iconst 0, 1) := by decide +kernel
theorem d_M_isLater_81 : decode b_M_isLater 81 = .ok (.ireturn, 1) := by decide +kernel
theorem d_M_isLater_82 : decode b_M_isLater 82 = .ok (.aload_n 0, 1) := by decide +kernel
theorem d_M_isLater_83 : decode b_M_isLater 83 = .ok (.getfield 115, 3) := by decide +kernel
theorem d_M_isLater_86 : decode b_M_isLater 86 = .ok (.iload_n 1, 1) := by decide +kernel
theorem d_M_isLater_87 : decode b_M_isLater 87 = .ok (.laload, 1) := by decide +kernel
theorem d_M_isLater_88 : decode b_M_isLater 88 = .ok (.lload 6, 2) := by decide +kernel
theorem d_M_isLater_90 : decode b_M_isLater 90 = .ok (.lcmp, 1) := by decide +kernel
theorem d_M_isLater_91 : decode b_M_isLater 91 = .ok (.ifCond .eq (23), 3) := by decide +kernel
theorem d_M_isLater_94 : decode b_M_isLater 94 = .ok (.aload_n 0, 1) := by decide +kernel
theorem d_M_isLater_95 : decode b_M_isLater 95 = .ok (.getfield 115, 3) := by decide +kernel
theorem d_M_isLater_98 : decode b_M_isLater 98 = .ok (.iload_n 1, 1) := by decide +kernel
theorem d_M_isLater_99 : decode b_M_isLater 99 = .ok (.laload, 1) := by decide +kernel
theorem d_M_isLater_100 : decode b_M_isLater 100 = .ok (.lload 6, 2) := by decide +kernel
theorem d_M_isLater_102 : decode b_M_isLater 102 = .ok (.lcmp, 1) := by decide +kernel
theorem d_M_isLater_103 : decode b_M_isLater 103 = .ok (.ifCond .le (7), 3) := by decide +kernel
theorem d_M_isLater_106 : decode b_M_isLater 106 = .ok (.iconst 1, 1) := by decide +kernel
theorem d_M_isLater_107 : decode b_M_isLater 107 = .ok (.goto (23), 3) := by decide +kernel
theorem d_M_isLater_110 : decode b_M_isLater 110 = .ok (.iconst 0, 1) := by decide +kernel
theorem d_M_isLater_111 : decode b_M_isLater 111 = .ok (.goto (19), 3) := by decide +kernel
theorem d_M_isLater_114 : decode b_M_isLater 114 = .ok (.aload_n 0, 1) := by decide +kernel
theorem d_M_isLater_115 : decode b_M_isLater 115 = .ok (.getfield 106, 3) := by decide +kernel
theorem d_M_isLater_118 : decode b_M_isLater 118 = .ok (.iload_n 1, 1) := by decide +kernel
theorem d_M_isLater_119 : decode b_M_isLater 119 = .ok (.iaload, 1) := by decide +kernel
theorem d_M_isLater_120 : decode b_M_isLater 120 = .ok (.iload 8, 2) := by decide +kernel
theorem d_M_isLater_122 : decode b_M_isLater 122 = .ok (.if_icmp .le (7), 3) := by decide +kernel
theorem d_M_isLater_125 : decode b_M_isLater 125 = .ok (.iconst 1, 1) := by decide +kernel
theorem d_M_isLater_126 : decode b_M_isLater 126 = .ok (.goto (4), 3) := by decide +kernel
theorem d_M_isLater_129 : decode b_M_isLater 129 = .ok (.iconst 0, 1) := by decide +kernel
theorem d_M_isLater_130 : decode b_M_isLater 130 = .ok (.ireturn, 1) := by decide +kernel
theorem d_M_advance_0 : decode b_M_advance 0 = .ok (.iload_n 1, 1) := by decide +kernel
theorem d_M_advance_1 : decode b_M_advance 1 = .ok (.iconst 1, 1) := by decide +kernel
theorem d_M_advance_2 : decode b_M_advance 2 = .ok (.if_icmp .lt (17), 3) := by decide +kernel
theorem d_M_advance_5 : decode b_M_advance 5 = .ok (.iload_n 1, 1) := by decide +kernel
theorem d_M_advance_6 : decode b_M_advance 6 = .ok (.sipush (500), 3) := by decide +kernel
theorem d_M_advance_9 : decode b_M_advance 9 = .ok (.if_icmp .gt (10), 3) := by decide +kernel
theorem d_M_advance_12 : decode b_M_advance 12 = .ok (.aload_n 0, 1) := by decide +kernel
theorem d_M_advance_13 : decode b_M_advance 13 = .ok (.getfield 161, 3) := by decide +kernel
theorem d_M_advance_16 : decode b_M_advance 16 = .ok (.ifCond .ne (5), 3) := by decide +kernel
theorem d_M_advance_19 : decode b_M_advance 19 = .ok (.iconst (-1), 1) := by decide +kernel
theorem d_M_advance_20 : decode b_M_advance 20 = .ok (.ireturn, 1) := by decide +kernel
theorem d_M_advance_21 : decode b_M_advance 21 = .ok (.aload_n 0, 1) := by decide +kernel
theorem d_M_advance_22 : decode b_M_advance 22 = .ok (.iconst 0, 1) := by decide +kernel
theorem d_M_advance_23 : decode b_M_advance 23 = .ok (.putfield 164, 3) := by decide +kernel
theorem d_M_advance_26 : decode b_M_advance 26 = .ok (.aload_n 0, 1) := by decide +kernel
theorem d_M_advance_27 : decode b_M_advance 27 = .ok (.iconst 0, 1) := by decide +kernel
theorem d_M_advance_28 : decode b_M_advance 28 = .ok (.putfield 249, 3) := by decide +kernel
theorem d_M_advance_31 : decode b_M_advance 31 = .ok (.iconst 0, 1) := by decide +kernel
theorem d_M_advance_32 : decode b_M_advance 32 = .ok (.istore_n 2, 1) := by decide +kernel
theorem d_M_advance_33 : decode b_M_advance 33 = .ok (.iload_n 2, 1) := by decide +kernel
theorem d_M_advance_34 : decode b_M_advance 34 = .ok (.bipush (8), 2) := by decide +kernel
theorem d_M_advance_36 : decode b_M_advance 36 = .ok (.if_icmp .ge (81), 3) := by decide +kernel
theorem d_M_advance_39 : decode b_M_advance 39 = .ok (.aload_n 0, 1) := by decide +kernel
theorem d_M_advance_40 : decode b_M_advance 40 = .ok (.getfield 161, 3) := by decide +kernel
theorem d_M_advance_43 : decode b_M_advance 43 = .ok (.iload_n 2, 1) := by decide +kernel
theorem d_M_advance_44 : decode b_M_advance 44 = .ok (.ishr, 1) := by decide +kernel
theorem d_M_advance_45 : decode b_M_advance 45 = .ok (.iconst 1, 1) := by decide +kernel
theorem d_M_advance_46 : decode b_M_advance 46 = .ok (.iand, 1) := by decide +kernel
theorem d_M_advance_47 : decode b_M_advance 47 = .ok (.iconst 1, 1) := by decide +kernel
theorem d_M_advance_48 : decode b_M_advance 48 = .ok (.if_icmp .ne (63), 3) := by decide +kernel
theorem d_M_advance_51 : decode b_M_advance 51 = .ok (.aload_n 0, 1) := by decide +kernel
theorem d_M_advance_52 : decode b_M_advance 52 = .ok (.iload_n 2, 1) := by decide +kernel
theorem d_M_advance_53 : decode b_M_advance 53 = .ok (.aload_n 0, 1) := by decide +kernel
theorem d_M_advance_54 : decode b_M_advance 54 = .ok (.getfield 167, 3) := by decide +kernel
theorem d_M_advance_57 : decode b_M_advance 57 = .ok (.i2l, 1) := by decide +kernel
theorem d_M_advance_58 : decode b_M_advance 58 = .ok (.aload_n 0, 1) := by decide +kernel
theorem d_M_advance_59 : decode b_M_advance 59 = .ok (.getfield 242, 3) := by decide +kernel
theorem d_M_advance_62 : decode b_M_advance 62 = .ok (.lmul, 1) := by decide +kernel
theorem d_M_advance_63 : decode b_M_advance 63 = .ok (.aload_n 0, 1) := by decide +kernel
theorem d_M_advance_64 : decode b_M_advance 64 = .ok (.getfield 40, 3) := by decide +kernel
theorem d_M_advance_67 : decode b_M_advance 67 = .ok (.iload_n 2, 1) := by decide +kernel
theorem d_M_advance_68 : decode b_M_advance 68 = .ok (.iaload, 1) := by decide +kernel
theorem d_M_advance_69 : decode b_M_advance 69 = .ok (.i2l, 1) := by decide +kernel
theorem d_M_advance_70 : decode b_M_advance 70 = .ok (.lmul, 1) := by decide +kernel
theorem d_M_advance_71 : decode b_M_advance 71 = .ok (.aload_n 0, 1) := by decide +kernel
theorem d_M_advance_72 : decode b_M_advance 72 = .ok (.getfield 167, 3) := by decide +kernel
theorem d_M_advance_75 : decode b_M_advance 75 = .ok (.iload_n 1, 1) := by decide +kernel
theorem d_M_advance_76 : decode b_M_advance 76 = .ok (.iadd, 1) := by decide +kernel
theorem d_M_advance_77 : decode b_M_advance 77 = .ok (.i2l, 1) := by decide +kernel
theorem d_M_advance_78 : decode b_M_advance 78 = .ok (.aload_n 0, 1) := by decide +kernel
theorem d_M_advance_79 : decode b_M_advance 79 = .ok (.getfield 242, 3) := by decide +kernel
theorem d_M_advance_82 : decode b_M_advance 82 = .ok (.lmul, 1) := by decide +kernel
theorem d_M_advance_83 : decode b_M_advance 83 = .ok (.aload_n 0, 1) := by decide +kernel
theorem d_M_advance_84 : decode b_M_advance 84 = .ok (.getfield 40, 3) := by decide +kernel
theorem d_M_advance_87 : decode b_M_advance 87 = .ok (.iload_n 2, 1) := by decide +kernel
theorem d_M_advance_88 : decode b_M_advance 88 = .ok (.iaload, 1) := by decide +kernel
theorem d_M_advance_89 : decode b_M_advance 89 = .ok (.i2l, 1) := by decide +kernel
theorem d_M_advance_90 : decode b_M_advance 90 = .ok (.lmul, 1) := by decide +kernel
theorem d_M_advance_91 : decode b_M_advance 91 = .ok (.ldc2_w 257, 3) := by decide +kernel
theorem d_M_advance_94 : decode b_M_advance 94 = .ok (.aload_n 0, 1) := by decide +kernel
theorem d_M_advance_95 : decode b_M_advance 95 = .ok (.getfield 246, 3) := by decide +kernel
theorem d_M_advance_98 : decode b_M_advance 98 = .ok (.lmul, 1) := by decide +kernel
theorem d_M_advance_99 : decode b_M_advance 99 = .ok (.aload_n 0, 1) := by decide +kernel
theorem d_M_advance_100 : decode b_M_advance 100 = .ok (.getfield 40, 3) := by decide +kernel
theorem d_M_advance_103 : decode b_M_advance 103 = .ok (.iload_n 2, 1) := by decide +kernel
theorem d_M_advance_104 : decode b_M_advance 104 = .ok (.iaload, 1) := by decide +kernel
theorem d_M_advance_105 : decode b_M_advance 105 = .ok (.i2l, 1) := by decide +kernel
theorem d_M_advance_106 : decode b_M_advance 106 = .ok (.lmul, 1) := by decide +kernel
theorem d_M_advance_107 : decode b_M_advance 107 = .ok (.iconst (-1), 1) := by decide +kernel
theorem d_M_advance_108 : decode b_M_advance 108 = .ok (.invokevirtual 231, 3) := by decide +kernel
theorem d_M_advance_111 : decode b_M_advance 111 = .ok (.iinc 2 (1), 3) := by decide +kernel
theorem d_M_advance_114 : decode b_M_advance 114 = .ok (.goto (-81), 3) := by decide +kernel
theorem d_M_advance_117 : decode b_M_advance 117 = .ok (.aload_n 0, 1) := by decide +kernel
theorem d_M_advance_118 : decode b_M_advance 118 = .ok (.getfield 249, 3) := by decide +kernel
theorem d_M_advance_121 : decode b_M_advance 121 = .ok (.ifCond .eq (11), 3) := by decide +kernel
theorem d_M_advance_124 : decode b_M_advance 124 = .ok (.aload_n 0, 1) := by decide +kernel
theorem d_M_advance_125 : decode b_M_advance 125 = .ok (.iconst 0, 1) := by decide +kernel
theorem d_M_advance_126 : decode b_M_advance 126 = .ok (.putfield 164, 3) := by decide +kernel
theorem d_M_advance_129 : decode b_M_advance 129 = .ok (.bipush (-2), 2) := by decide +kernel
theorem d_M_advance_131 : decode b_M_advance 131 = .ok (.ireturn, 1) := by decide +kernel
theorem d_M_advance_132 : decode b_M_advance 132 = .ok (.aload_n 0, 1) := by decide +kernel
theorem d_M_advance_133 : decode b_M_advance 133 = .ok (.dup, 1) := by decide +kernel
theorem d_M_advance_134 : decode b_M_advance 134 = .ok (.getfield 167, 3) := by decide +kernel
theorem d_M_advance_137 : decode b_M_advance 137 = .ok (.iload_n 1, 1) := by decide +kernel
theorem d_M_advance_138 : decode b_M_advance 138 = .ok (.iadd, 1) := by decide +kernel
theorem d_M_advance_139 : decode b_M_advance 139 = .ok (.putfield 167, 3) := by decide +kernel
theorem d_M_advance_142 : decode b_M_advance 142 = .ok (.aload_n 0, 1) := by decide +kernel
theorem d_M_advance_143 : decode b_M_advance 143 = .ok (.getfield 164, 3) := by decide +kernel
theorem d_M_advance_146 : decode b_M_advance 146 = .ok (.ireturn, 1) := by decide +kernel
theorem d_M_due_0 : decode b_M_due 0 = .ok (.iload_n 1, 1) := by decide +kernel
theorem d_M_due_1 : decode b_M_due 1 = .ok (.ifCond .lt (11), 3) := by decide +kernel
theorem d_M_due_4 : decode b_M_due 4 = .ok (.iload_n 1, 1) := by decide +kernel
theorem d_M_due_5 : decode b_M_due 5 = .ok (.aload_n 0, 1) := by decide +kernel
theorem d_M_due_6 : decode b_M_due 6 = .ok (.getfield 164, 3) := by decide +kernel
theorem d_M_due_9 : decode b_M_due 9 = .ok (.if_icmp .lt (5), 3) := by decide +kernel
theorem d_M_due_12 : decode b_M_due 12 = .ok (.iconst (-1), 1) := by decide +kernel
theorem d_M_due_13 : decode b_M_due 13 = .ok (.ireturn, 1) := by decide +kernel
theorem d_M_due_14 : decode b_M_due 14 = .ok (.iload_n 2, 1) := by decide +kernel
theorem d_M_due_15 : decode b_M_due 15 = .ok (.tableswitch (57) (0) (3) #[(29), (36), (43), (50)], 29) := by decide +kernel
theorem d_M_due_44 : decode b_M_due 44 = .ok (.aload_n 0, 1) := by decide +kernel
theorem d_M_due_45 : decode b_M_due 45 = .ok (.getfield 100, 3) := by decide +kernel
theorem d_M_due_48 : decode b_M_due 48 = .ok (.iload_n 1, 1) := by decide +kernel
theorem d_M_due_49 : decode b_M_due 49 = .ok (.iaload, 1) := by decide +kernel
theorem d_M_due_50 : decode b_M_due 50 = .ok (.ireturn, 1) := by decide +kernel
theorem d_M_due_51 : decode b_M_due 51 = .ok (.aload_n 0, 1) := by decide +kernel
theorem d_M_due_52 : decode b_M_due 52 = .ok (.getfield 103, 3) := by decide +kernel
theorem d_M_due_55 : decode b_M_due 55 = .ok (.iload_n 1, 1) := by decide +kernel
theorem d_M_due_56 : decode b_M_due 56 = .ok (.iaload, 1) := by decide +kernel
theorem d_M_due_57 : decode b_M_due 57 = .ok (.ireturn, 1) := by decide +kernel
theorem d_M_due_58 : decode b_M_due 58 = .ok (.aload_n 0, 1) := by decide +kernel
theorem d_M_due_59 : decode b_M_due 59 = .ok (.getfield 106, 3) := by decide +kernel
theorem d_M_due_62 : decode b_M_due 62 = .ok (.iload_n 1, 1) := by decide +kernel
theorem d_M_due_63 : decode b_M_due 63 = .ok (.iaload, 1) := by decide +kernel
theorem d_M_due_64 : decode b_M_due 64 = .ok (.ireturn, 1) := by decide +kernel
theorem d_M_due_65 : decode b_M_due 65 = .ok (.aload_n 0, 1) := by decide +kernel
theorem d_M_due_66 : decode b_M_due 66 = .ok (.getfield 109, 3) := by decide +kernel
theorem d_M_due_69 : decode b_M_due 69 = .ok (.iload_n 1, 1) := by decide +kernel
theorem d_M_due_70 : decode b_M_due 70 = .ok (.iaload, 1) := by decide +kernel
theorem d_M_due_71 : decode b_M_due 71 = .ok (.ireturn, 1) := by decide +kernel
theorem d_M_due_72 : decode b_M_due 72 = .ok (.iconst (-1), 1) := by decide +kernel
theorem d_M_due_73 : decode b_M_due 73 = .ok (.ireturn, 1) := by decide +kernel
theorem d_M_tick_0 : decode b_M_tick 0 = .ok (.aload_n 0, 1) := by decide +kernel
theorem d_M_tick_1 : decode b_M_tick 1 = .ok (.getfield 161, 3) := by decide +kernel
theorem d_M_tick_4 : decode b_M_tick 4 = .ok (.ifCond .ne (7), 3) := by decide +kernel
theorem d_M_tick_7 : decode b_M_tick 7 = .ok (.iconst 0, 1) := by decide +kernel
theorem d_M_tick_8 : decode b_M_tick 8 = .ok (.goto (7), 3) := by decide +kernel
theorem d_M_tick_11 : decode b_M_tick 11 = .ok (.aload_n 0, 1) := by decide +kernel
theorem d_M_tick_12 : decode b_M_tick 12 = .ok (.getfield 167, 3) := by decide +kernel
theorem d_M_tick_15 : decode b_M_tick 15 = .ok (.ireturn, 1) := by decide +kernel
