/-! decode rows -/
theorem d_M_floor_0 : decode b_M_floor 0 = .ok (.lload_n 0, 1) := by decide +kernel
theorem d_M_floor_1 : decode b_M_floor 1 = .ok (.lload_n 2, 1) := by decide +kernel
theorem d_M_floor_2 : decode b_M_floor 2 = .ok (.ldiv, 1) := by decide +kernel
theorem d_M_floor_3 : decode b_M_floor 3 = .ok (.lstore 4, 2) := by decide +kernel
theorem d_M_floor_5 : decode b_M_floor 5 = .ok (.lload 4, 2) := by decide +kernel
theorem d_M_floor_7 : decode b_M_floor 7 = .ok (.lload_n 2, 1) := by decide +kernel
theorem d_M_floor_8 : decode b_M_floor 8 = .ok (.lmul, 1) := by decide +kernel
theorem d_M_floor_9 : decode b_M_floor 9 = .ok (.lload_n 0, 1) := by decide +kernel
theorem d_M_floor_10 : decode b_M_floor 10 = .ok (.lcmp, 1) := by decide +kernel
theorem d_M_floor_11 : decode b_M_floor 11 = .ok (.ifCond .eq (35), 3) := by decide +kernel
theorem d_M_floor_14 : decode b_M_floor 14 = .ok (.lload_n 0, 1) := by decide +kernel
theorem d_M_floor_15 : decode b_M_floor 15 = .ok (.lconst 0, 1) := by decide +kernel
theorem d_M_floor_16 : decode b_M_floor 16 = .ok (.lcmp, 1) := by decide +kernel
theorem d_M_floor_17 : decode b_M_floor 17 = .ok (.ifCond .ge (7), 3) := by decide +kernel
theorem d_M_floor_20 : decode b_M_floor 20 = .ok (.iconst 1, 1) := by decide +kernel
theorem d_M_floor_21 : decode b_M_floor 21 = .ok (.goto (4), 3) := by decide +kernel
theorem d_M_floor_24 : decode b_M_floor 24 = .ok (.iconst 0, 1) := by decide +kernel
theorem d_M_floor_25 : decode b_M_floor 25 = .ok (.lload_n 2, 1) := by decide +kernel
theorem d_M_floor_26 : decode b_M_floor 26 = .ok (.lconst 0, 1) := by decide +kernel
theorem d_M_floor_27 : decode b_M_floor 27 = .ok (.lcmp, 1) := by decide +kernel
theorem d_M_floor_28 : decode b_M_floor 28 = .ok (.ifCond .ge (7), 3) := by decide +kernel
theorem d_M_floor_31 : decode b_M_floor 31 = .ok (.iconst 1, 1) := by decide +kernel
theorem d_M_floor_32 : decode b_M_floor 32 = .ok (.goto (4), 3) := by decide +kernel
theorem d_M_floor_35 : decode b_M_floor 35 = .ok (.iconst 0, 1) := by decide +kernel
theorem d_M_floor_36 : decode b_M_floor 36 = .ok (.if_icmp .eq (10), 3) := by decide +kernel
theorem d_M_floor_39 : decode b_M_floor 39 = .ok (.lload 4, 2) := by decide +kernel
theorem d_M_floor_41 : decode b_M_floor 41 = .ok (.lconst 1, 1) := by decide +kernel
theorem d_M_floor_42 : decode b_M_floor 42 = .ok (.lsub, 1) := by decide +kernel
theorem d_M_floor_43 : decode b_M_floor 43 = .ok (.goto (5), 3) := by decide +kernel
theorem d_M_floor_46 : decode b_M_floor 46 = .ok (.lload 4, 2) := by decide +kernel
theorem d_M_floor_48 : decode b_M_floor 48 = .ok (.lreturn, 1) := by decide +kernel
theorem d_M_low_0 : decode b_M_low 0 = .ok (.lload_n 0, 1) := by decide +kernel
theorem d_M_low_1 : decode b_M_low 1 = .ok (.lload_n 2, 1) := by decide +kernel
theorem d_M_low_2 : decode b_M_low 2 = .ok (.lcmp, 1) := by decide +kernel
theorem d_M_low_3 : decode b_M_low 3 = .ok (.ifCond .ge (7), 3) := by decide +kernel
theorem d_M_low_6 : decode b_M_low 6 = .ok (.lload_n 0, 1) := by decide +kernel
theorem d_M_low_7 : decode b_M_low 7 = .ok (.goto (4), 3) := by decide +kernel
theorem d_M_low_10 : decode b_M_low 10 = .ok (.lload_n 2, 1) := by decide +kernel
theorem d_M_low_11 : decode b_M_low 11 = .ok (.lreturn, 1) := by decide +kernel
theorem d_M_high_0 : decode b_M_high 0 = .ok (.lload_n 0, 1) := by decide +kernel
theorem d_M_high_1 : decode b_M_high 1 = .ok (.lload_n 2, 1) := by decide +kernel
theorem d_M_high_2 : decode b_M_high 2 = .ok (.lcmp, 1) := by decide +kernel
theorem d_M_high_3 : decode b_M_high 3 = .ok (.ifCond .ge (7), 3) := by decide +kernel
theorem d_M_high_6 : decode b_M_high 6 = .ok (.lload_n 2, 1) := by decide +kernel
theorem d_M_high_7 : decode b_M_high 7 = .ok (.goto (4), 3) := by decide +kernel
theorem d_M_high_10 : decode b_M_high 10 = .ok (.lload_n 0, 1) := by decide +kernel
theorem d_M_high_11 : decode b_M_high 11 = .ok (.lreturn, 1) := by decide +kernel
theorem d_M_enter_0 : decode b_M_enter 0 = .ok (.lload_n 2, 1) := by decide +kernel
theorem d_M_enter_1 : decode b_M_enter 1 = .ok (.lload 4, 2) := by decide +kernel
theorem d_M_enter_3 : decode b_M_enter 3 = .ok (.lcmp, 1) := by decide +kernel
theorem d_M_enter_4 : decode b_M_enter 4 = .ok (.ifCond .ge (7), 3) := by decide +kernel
theorem d_M_enter_7 : decode b_M_enter 7 = .ok (.iload_n 1, 1) := by decide +kernel
theorem d_M_enter_8 : decode b_M_enter 8 = .ok (.ifCond .ge (4), 3) := by decide +kernel
theorem d_M_enter_11 : decode b_M_enter 11 = .ok (.return_, 1) := by decide +kernel
theorem d_M_enter_12 : decode b_M_enter 12 = .ok (.aload_n 0, 1) := by decide +kernel
theorem d_M_enter_13 : decode b_M_enter 13 = .ok (.getfield 49, 3) := by decide +kernel
theorem d_M_enter_16 : decode b_M_enter 16 = .ok (.aload_n 0, 1) := by decide +kernel
theorem d_M_enter_17 : decode b_M_enter 17 = .ok (.getfield 177, 3) := by decide +kernel
theorem d_M_enter_20 : decode b_M_enter 20 = .ok (.iload_n 1, 1) := by decide +kernel
theorem d_M_enter_21 : decode b_M_enter 21 = .ok (.iastore, 1) := by decide +kernel
theorem d_M_enter_22 : decode b_M_enter 22 = .ok (.aload_n 0, 1) := by decide +kernel
theorem d_M_enter_23 : decode b_M_enter 23 = .ok (.getfield 52, 3) := by decide +kernel
theorem d_M_enter_26 : decode b_M_enter 26 = .ok (.aload_n 0, 1) := by decide +kernel
theorem d_M_enter_27 : decode b_M_enter 27 = .ok (.getfield 177, 3) := by decide +kernel
theorem d_M_enter_30 : decode b_M_enter 30 = .ok (.lload_n 2, 1) := by decide +kernel
theorem d_M_enter_31 : decode b_M_enter 31 = .ok (.lastore, 1) := by decide +kernel
theorem d_M_enter_32 : decode b_M_enter 32 = .ok (.aload_n 0, 1) := by decide +kernel
theorem d_M_enter_33 : decode b_M_enter 33 = .ok (.getfield 56, 3) := by decide +kernel
theorem d_M_enter_36 : decode b_M_enter 36 = .ok (.aload_n 0, 1) := by decide +kernel
theorem d_M_enter_37 : decode b_M_enter 37 = .ok (.getfield 177, 3) := by decide +kernel
theorem d_M_enter_40 : decode b_M_enter 40 = .ok (.lload 4, 2) := by decide +kernel
theorem d_M_enter_42 : decode b_M_enter 42 = .ok (.lastore, 1) := by decide +kernel
theorem d_M_enter_43 : decode b_M_enter 43 = .ok (.aload_n 0, 1) := by decide +kernel
theorem d_M_enter_44 : decode b_M_enter 44 = .ok (.getfield 59, 3) := by decide +kernel
theorem d_M_enter_47 : decode b_M_enter 47 = .ok (.aload_n 0, 1) := by decide +kernel
theorem d_M_enter_48 : decode b_M_enter 48 = .ok (.getfield 177, 3) := by decide +kernel
theorem d_M_enter_51 : decode b_M_enter 51 = .ok (.lload 6, 2) := by decide +kernel
theorem d_M_enter_53 : decode b_M_enter 53 = .ok (.lastore, 1) := by decide +kernel
theorem d_M_enter_54 : decode b_M_enter 54 = .ok (.aload_n 0, 1) := by decide +kernel
theorem d_M_enter_55 : decode b_M_enter 55 = .ok (.getfield 62, 3) := by decide +kernel
theorem d_M_enter_58 : decode b_M_enter 58 = .ok (.aload_n 0, 1) := by decide +kernel
theorem d_M_enter_59 : decode b_M_enter 59 = .ok (.getfield 177, 3) := by decide +kernel
theorem d_M_enter_62 : decode b_M_enter 62 = .ok (.lload 8, 2) := by decide +kernel
theorem d_M_enter_64 : decode b_M_enter 64 = .ok (.lastore, 1) := by decide +kernel
theorem d_M_enter_65 : decode b_M_enter 65 = .ok (.lload_n 2, 1) := by decide +kernel
theorem d_M_enter_66 : decode b_M_enter 66 = .ok (.lload 8, 2) := by decide +kernel
theorem d_M_enter_68 : decode b_M_enter 68 = .ok (.lsub, 1) := by decide +kernel
theorem d_M_enter_69 : decode b_M_enter 69 = .ok (.lload 6, 2) := by decide +kernel
theorem d_M_enter_71 : decode b_M_enter 71 = .ok (.invokestatic 180, 3) := by decide +kernel
theorem d_M_enter_74 : decode b_M_enter 74 = .ok (.lstore 10, 2) := by decide +kernel
theorem d_M_enter_76 : decode b_M_enter 76 = .ok (.lload 4, 2) := by decide +kernel
theorem d_M_enter_78 : decode b_M_enter 78 = .ok (.lload 8, 2) := by decide +kernel
theorem d_M_enter_80 : decode b_M_enter 80 = .ok (.lsub, 1) := by decide +kernel
theorem d_M_enter_81 : decode b_M_enter 81 = .ok (.lload 6, 2) := by decide +kernel
theorem d_M_enter_83 : decode b_M_enter 83 = .ok (.invokestatic 180, 3) := by decide +kernel
theorem d_M_enter_86 : decode b_M_enter 86 = .ok (.lstore 12, 2) := by decide +kernel
theorem d_M_enter_88 : decode b_M_enter 88 = .ok (.aload_n 0, 1) := by decide +kernel
theorem d_M_enter_89 : decode b_M_enter 89 = .ok (.getfield 65, 3) := by decide +kernel
theorem d_M_enter_92 : decode b_M_enter 92 = .ok (.aload_n 0, 1) := by decide +kernel
theorem d_M_enter_93 : decode b_M_enter 93 = .ok (.getfield 177, 3) := by decide +kernel
theorem d_M_enter_96 : decode b_M_enter 96 = .ok (.lload 10, 2) := by decide +kernel
theorem d_M_enter_98 : decode b_M_enter 98 = .ok (.lload 12, 2) := by decide +kernel
theorem d_M_enter_100 : decode b_M_enter 100 = .ok (.invokestatic 184, 3) := by decide +kernel
theorem d_M_enter_103 : decode b_M_enter 103 = .ok (.lconst 1, 1) := by decide +kernel
theorem d_M_enter_104 : decode b_M_enter 104 = .ok (.lsub, 1) := by decide +kernel
theorem d_M_enter_105 : decode b_M_enter 105 = .ok (.lastore, 1) := by decide +kernel
theorem d_M_enter_106 : decode b_M_enter 106 = .ok (.aload_n 0, 1) := by decide +kernel
theorem d_M_enter_107 : decode b_M_enter 107 = .ok (.getfield 68, 3) := by decide +kernel
theorem d_M_enter_110 : decode b_M_enter 110 = .ok (.aload_n 0, 1) := by decide +kernel
theorem d_M_enter_111 : decode b_M_enter 111 = .ok (.getfield 177, 3) := by decide +kernel
theorem d_M_enter_114 : decode b_M_enter 114 = .ok (.lload 10, 2) := by decide +kernel
theorem d_M_enter_116 : decode b_M_enter 116 = .ok (.lload 12, 2) := by decide +kernel
theorem d_M_enter_118 : decode b_M_enter 118 = .ok (.invokestatic 187, 3) := by decide +kernel
theorem d_M_enter_121 : decode b_M_enter 121 = .ok (.lconst 1, 1) := by decide +kernel
theorem d_M_enter_122 : decode b_M_enter 122 = .ok (.ladd, 1) := by decide +kernel
theorem d_M_enter_123 : decode b_M_enter 123 = .ok (.lastore, 1) := by decide +kernel
theorem d_M_enter_124 : decode b_M_enter 124 = .ok (.aload_n 0, 1) := by decide +kernel
theorem d_M_enter_125 : decode b_M_enter 125 = .ok (.getfield 71, 3) := by decide +kernel
theorem d_M_enter_128 : decode b_M_enter 128 = .ok (.aload_n 0, 1) := by decide +kernel
theorem d_M_enter_129 : decode b_M_enter 129 = .ok (.getfield 177, 3) := by decide +kernel
theorem d_M_enter_132 : decode b_M_enter 132 = .ok (.iconst 0, 1) := by decide +kernel
theorem d_M_enter_133 : decode b_M_enter 133 = .ok (.iastore, 1) := by decide +kernel
theorem d_M_enter_134 : decode b_M_enter 134 = .ok (.aload_n 0, 1) := by decide +kernel
theorem d_M_enter_135 : decode b_M_enter 135 = .ok (.dup, 1) := by decide +kernel
theorem d_M_enter_136 : decode b_M_enter 136 = .ok (.getfield 177, 3) := by decide +kernel
theorem d_M_enter_139 : decode b_M_enter 139 = .ok (.iconst 1, 1) := by decide +kernel
theorem d_M_enter_140 : decode b_M_enter 140 = .ok (.iadd, 1) := by decide +kernel
theorem d_M_enter_141 : decode b_M_enter 141 = .ok (.putfield 177, 3) := by decide +kernel
theorem d_M_enter_144 : decode b_M_enter 144 = .ok (.return_, 1) := by decide +kernel
theorem d_M_child_0 : decode b_M_child 0 = .ok (.aload_n 0, 1) := by decide +kernel
theorem d_M_child_1 : decode b_M_child 1 = .ok (.getfield 25, 3) := by decide +kernel
theorem d_M_child_4 : decode b_M_child 4 = .ok (.bipush (48), 2) := by decide +kernel
theorem d_M_child_6 : decode b_M_child 6 = .ok (.iload_n 1, 1) := by decide +kernel
theorem d_M_child_7 : decode b_M_child 7 = .ok (.imul, 1) := by decide +kernel
theorem d_M_child_8 : decode b_M_child 8 = .ok (.iload_n 2, 1) := by decide +kernel
theorem d_M_child_9 : decode b_M_child 9 = .ok (.iadd, 1) := by decide +kernel
theorem d_M_child_10 : decode b_M_child 10 = .ok (.iaload, 1) := by decide +kernel
theorem d_M_child_11 : decode b_M_child 11 = .ok (.istore 4, 2) := by decide +kernel
theorem d_M_child_13 : decode b_M_child 13 = .ok (.iconst 0, 1) := by decide +kernel
theorem d_M_child_14 : decode b_M_child 14 = .ok (.istore 5, 2) := by decide +kernel
theorem d_M_child_16 : decode b_M_child 16 = .ok (.iload 5, 2) := by decide +kernel
theorem d_M_child_18 : decode b_M_child 18 = .ok (.iload_n 3, 1) := by decide +kernel
theorem d_M_child_19 : decode b_M_child 19 = .ok (.if_icmp .ge (23), 3) := by decide +kernel
theorem d_M_child_22 : decode b_M_child 22 = .ok (.aload_n 0, 1) := by decide +kernel
theorem d_M_child_23 : decode b_M_child 23 = .ok (.getfield 28, 3) := by decide +kernel
theorem d_M_child_26 : decode b_M_child 26 = .ok (.bipush (48), 2) := by decide +kernel
theorem d_M_child_28 : decode b_M_child 28 = .ok (.iload_n 1, 1) := by decide +kernel
theorem d_M_child_29 : decode b_M_child 29 = .ok (.imul, 1) := by decide +kernel
theorem d_M_child_30 : decode b_M_child 30 = .ok (.iload 4, 2) := by decide +kernel
theorem d_M_child_32 : decode b_M_child 32 = .ok (.iadd, 1) := by decide +kernel
theorem d_M_child_33 : decode b_M_child 33 = .ok (.iaload, 1) := by decide +kernel
theorem d_M_child_34 : decode b_M_child 34 = .ok (.istore 4, 2) := by decide +kernel
theorem d_M_child_36 : decode b_M_child 36 = .ok (.iinc 5 (1), 3) := by decide +kernel
theorem d_M_child_39 : decode b_M_child 39 = .ok (.goto (-23), 3) := by decide +kernel
theorem d_M_child_42 : decode b_M_child 42 = .ok (.iload 4, 2) := by decide +kernel
theorem d_M_child_44 : decode b_M_child 44 = .ok (.ireturn, 1) := by decide +kernel
theorem d_M_forward_0 : decode b_M_forward 0 = .ok (.aload_n 0, 1) := by decide +kernel
theorem d_M_forward_1 : decode b_M_forward 1 = .ok (.getfield 71, 3) := by decide +kernel
theorem d_M_forward_4 : decode b_M_forward 4 = .ok (.iload_n 1, 1) := by decide +kernel
theorem d_M_forward_5 : decode b_M_forward 5 = .ok (.dup2, 1) := by decide +kernel
theorem d_M_forward_6 : decode b_M_forward 6 = .ok (.iaload, 1) := by decide +kernel
theorem d_M_forward_7 : decode b_M_forward 7 = .ok (.iconst 1, 1) := by decide +kernel
theorem d_M_forward_8 : decode b_M_forward 8 = .ok (.iadd, 1) := by decide +kernel
theorem d_M_forward_9 : decode b_M_forward 9 = .ok (.iastore, 1) := by decide +kernel
theorem d_M_forward_10 : decode b_M_forward 10 = .ok (.aload_n 0, 1) := by decide +kernel
theorem d_M_forward_11 : decode b_M_forward 11 = .ok (.getfield 71, 3) := by decide +kernel
theorem d_M_forward_14 : decode b_M_forward 14 = .ok (.iload_n 1, 1) := by decide +kernel
theorem d_M_forward_15 : decode b_M_forward 15 = .ok (.iaload, 1) := by decide +kernel
theorem d_M_forward_16 : decode b_M_forward 16 = .ok (.iload_n 2, 1) := by decide +kernel
theorem d_M_forward_17 : decode b_M_forward 17 = .ok (.if_icmp .ge (4), 3) := by decide +kernel
theorem d_M_forward_20 : decode b_M_forward 20 = .ok (.return_, 1) := by decide +kernel
theorem d_M_forward_21 : decode b_M_forward 21 = .ok (.aload_n 0, 1) := by decide +kernel
theorem d_M_forward_22 : decode b_M_forward 22 = .ok (.getfield 71, 3) := by decide +kernel
theorem d_M_forward_25 : decode b_M_forward 25 = .ok (.iload_n 1, 1) := by decide +kernel
theorem d_M_forward_26 : decode b_M_forward 26 = .ok (.iconst 0, 1) := by decide +kernel
theorem d_M_forward_27 : decode b_M_forward 27 = .ok (.iastore, 1) := by decide +kernel
theorem d_M_forward_28 : decode b_M_forward 28 = .ok (.aload_n 0, 1) := by decide +kernel
theorem d_M_forward_29 : decode b_M_forward 29 = .ok (.getfield 65, 3) := by decide +kernel
theorem d_M_forward_32 : decode b_M_forward 32 = .ok (.iload_n 1, 1) := by decide +kernel
theorem d_M_forward_33 : decode b_M_forward 33 = .ok (.dup2, 1) := by decide +kernel
theorem d_M_forward_34 : decode b_M_forward 34 = .ok (.laload, 1) := by decide +kernel
theorem d_M_forward_35 : decode b_M_forward 35 = .ok (.lconst 1, 1) := by decide +kernel
theorem d_M_forward_36 : decode b_M_forward 36 = .ok (.ladd, 1) := by decide +kernel
theorem d_M_forward_37 : decode b_M_forward 37 = .ok (.lastore, 1) := by decide +kernel
theorem d_M_forward_38 : decode b_M_forward 38 = .ok (.return_, 1) := by decide +kernel
theorem d_M_cut_0 : decode b_M_cut 0 = .ok (.aload_n 0, 1) := by decide +kernel
theorem d_M_cut_1 : decode b_M_cut 1 = .ok (.getfield 59, 3) := by decide +kernel
theorem d_M_cut_4 : decode b_M_cut 4 = .ok (.iload_n 1, 1) := by decide +kernel
theorem d_M_cut_5 : decode b_M_cut 5 = .ok (.laload, 1) := by decide +kernel
theorem d_M_cut_6 : decode b_M_cut 6 = .ok (.lload_n 3, 1) := by decide +kernel
theorem d_M_cut_7 : decode b_M_cut 7 = .ok (.lmul, 1) := by decide +kernel
theorem d_M_cut_8 : decode b_M_cut 8 = .ok (.aload_n 0, 1) := by decide +kernel
theorem d_M_cut_9 : decode b_M_cut 9 = .ok (.getfield 59, 3) := by decide +kernel
theorem d_M_cut_12 : decode b_M_cut 12 = .ok (.iload_n 1, 1) := by decide +kernel
theorem d_M_cut_13 : decode b_M_cut 13 = .ok (.laload, 1) := by decide +kernel
theorem d_M_cut_14 : decode b_M_cut 14 = .ok (.iload 5, 2) := by decide +kernel
theorem d_M_cut_16 : decode b_M_cut 16 = .ok (.i2l, 1) := by decide +kernel
theorem d_M_cut_17 : decode b_M_cut 17 = .ok (.lmul, 1) := by decide +kernel
theorem d_M_cut_18 : decode b_M_cut 18 = .ok (.iload 6, 2) := by decide +kernel
theorem d_M_cut_20 : decode b_M_cut 20 = .ok (.i2l, 1) := by decide +kernel
theorem d_M_cut_21 : decode b_M_cut 21 = .ok (.ldiv, 1) := by decide +kernel
theorem d_M_cut_22 : decode b_M_cut 22 = .ok (.ladd, 1) := by decide +kernel
theorem d_M_cut_23 : decode b_M_cut 23 = .ok (.aload_n 0, 1) := by decide +kernel
theorem d_M_cut_24 : decode b_M_cut 24 = .ok (.getfield 62, 3) := by decide +kernel
theorem d_M_cut_27 : decode b_M_cut 27 = .ok (.iload_n 1, 1) := by decide +kernel
theorem d_M_cut_28 : decode b_M_cut 28 = .ok (.laload, 1) := by decide +kernel
theorem d_M_cut_29 : decode b_M_cut 29 = .ok (.ladd, 1) := by decide +kernel
theorem d_M_cut_30 : decode b_M_cut 30 = .ok (.lstore 11, 2) := by decide +kernel
theorem d_M_cut_32 : decode b_M_cut 32 = .ok (.aload_n 0, 1) := by decide +kernel
theorem d_M_cut_33 : decode b_M_cut 33 = .ok (.getfield 59, 3) := by decide +kernel
theorem d_M_cut_36 : decode b_M_cut 36 = .ok (.iload_n 1, 1) := by decide +kernel
theorem d_M_cut_37 : decode b_M_cut 37 = .ok (.laload, 1) := by decide +kernel
theorem d_M_cut_38 : decode b_M_cut 38 = .ok (.lload_n 3, 1) := by decide +kernel
theorem d_M_cut_39 : decode b_M_cut 39 = .ok (.lmul, 1) := by decide +kernel
theorem d_M_cut_40 : decode b_M_cut 40 = .ok (.aload_n 0, 1) := by decide +kernel
theorem d_M_cut_41 : decode b_M_cut 41 = .ok (.getfield 59, 3) := by decide +kernel
theorem d_M_cut_44 : decode b_M_cut 44 = .ok (.iload_n 1, 1) := by decide +kernel
theorem d_M_cut_45 : decode b_M_cut 45 = .ok (.laload, 1) := by decide +kernel
theorem d_M_cut_46 : decode b_M_cut 46 = .ok (.iload 5, 2) := by decide +kernel
theorem d_M_cut_48 : decode b_M_cut 48 = .ok (.iconst 1, 1) := by decide +kernel
theorem d_M_cut_49 : decode b_M_cut 49 = .ok (.iadd, 1) := by decide +kernel
theorem d_M_cut_50 : decode b_M_cut 50 = .ok (.i2l, 1) := by decide +kernel
theorem d_M_cut_51 : decode b_M_cut 51 = .ok (.lmul, 1) := by decide +kernel
theorem d_M_cut_52 : decode b_M_cut 52 = .ok (.iload 6, 2) := by decide +kernel
theorem d_M_cut_54 : decode b_M_cut 54 = .ok (.i2l, 1) := by decide +kernel
theorem d_M_cut_55 : decode b_M_cut 55 = .ok (.ldiv, 1) := by decide +kernel
theorem d_M_cut_56 : decode b_M_cut 56 = .ok (.ladd, 1) := by decide +kernel
theorem d_M_cut_57 : decode b_M_cut 57 = .ok (.aload_n 0, 1) := by decide +kernel
theorem d_M_cut_58 : decode b_M_cut 58 = .ok (.getfield 62, 3) := by decide +kernel
theorem d_M_cut_61 : decode b_M_cut 61 = .ok (.iload_n 1, 1) := by decide +kernel
theorem d_M_cut_62 : decode b_M_cut 62 = .ok (.laload, 1) := by decide +kernel
theorem d_M_cut_63 : decode b_M_cut 63 = .ok (.ladd, 1) := by decide +kernel
theorem d_M_cut_64 : decode b_M_cut 64 = .ok (.lstore 13, 2) := by decide +kernel
theorem d_M_cut_66 : decode b_M_cut 66 = .ok (.aload_n 0, 1) := by decide +kernel
theorem d_M_cut_67 : decode b_M_cut 67 = .ok (.iload_n 2, 1) := by decide +kernel
theorem d_M_cut_68 : decode b_M_cut 68 = .ok (.aload_n 0, 1) := by decide +kernel
theorem d_M_cut_69 : decode b_M_cut 69 = .ok (.getfield 52, 3) := by decide +kernel
theorem d_M_cut_72 : decode b_M_cut 72 = .ok (.iload_n 1, 1) := by decide +kernel
theorem d_M_cut_73 : decode b_M_cut 73 = .ok (.laload, 1) := by decide +kernel
theorem d_M_cut_74 : decode b_M_cut 74 = .ok (.lload 11, 2) := by decide +kernel
theorem d_M_cut_76 : decode b_M_cut 76 = .ok (.lload 13, 2) := by decide +kernel
theorem d_M_cut_78 : decode b_M_cut 78 = .ok (.invokestatic 184, 3) := by decide +kernel
theorem d_M_cut_81 : decode b_M_cut 81 = .ok (.invokestatic 187, 3) := by decide +kernel
theorem d_M_cut_84 : decode b_M_cut 84 = .ok (.aload_n 0, 1) := by decide +kernel
theorem d_M_cut_85 : decode b_M_cut 85 = .ok (.getfield 56, 3) := by decide +kernel
theorem d_M_cut_88 : decode b_M_cut 88 = .ok (.iload_n 1, 1) := by decide +kernel
theorem d_M_cut_89 : decode b_M_cut 89 = .ok (.laload, 1) := by decide +kernel
theorem d_M_cut_90 : decode b_M_cut 90 = .ok (.lload 11, 2) := by decide +kernel
theorem d_M_cut_92 : decode b_M_cut 92 = .ok (.lload 13, 2) := by decide +kernel
theorem d_M_cut_94 : decode b_M_cut 94 = .ok (.invokestatic 187, 3) := by decide +kernel
theorem d_M_cut_97 : decode b_M_cut 97 = .ok (.invokestatic 184, 3) := by decide +kernel
theorem d_M_cut_100 : decode b_M_cut 100 = .ok (.lload 7, 2) := by decide +kernel
theorem d_M_cut_102 : decode b_M_cut 102 = .ok (.lload 9, 2) := by decide +kernel
theorem d_M_cut_104 : decode b_M_cut 104 = .ok (.invokevirtual 190, 3) := by decide +kernel
theorem d_M_cut_107 : decode b_M_cut 107 = .ok (.return_, 1) := by decide +kernel
theorem d_M_move_0 : decode b_M_move 0 = .ok (.aload_n 0, 1) := by decide +kernel
theorem d_M_move_1 : decode b_M_move 1 = .ok (.getfield 177, 3) := by decide +kernel
theorem d_M_move_4 : decode b_M_move 4 = .ok (.iconst 1, 1) := by decide +kernel
theorem d_M_move_5 : decode b_M_move 5 = .ok (.isub, 1) := by decide +kernel
theorem d_M_move_6 : decode b_M_move 6 = .ok (.istore_n 3, 1) := by decide +kernel
theorem d_M_move_7 : decode b_M_move 7 = .ok (.bipush (48), 2) := by decide +kernel
theorem d_M_move_9 : decode b_M_move 9 = .ok (.iload_n 1, 1) := by decide +kernel
theorem d_M_move_10 : decode b_M_move 10 = .ok (.imul, 1) := by decide +kernel
theorem d_M_move_11 : decode b_M_move 11 = .ok (.aload_n 0, 1) := by decide +kernel
theorem d_M_move_12 : decode b_M_move 12 = .ok (.getfield 49, 3) := by decide +kernel
theorem d_M_move_15 : decode b_M_move 15 = .ok (.iload_n 3, 1) := by decide +kernel
theorem d_M_move_16 : decode b_M_move 16 = .ok (.iaload, 1) := by decide +kernel
theorem d_M_move_17 : decode b_M_move 17 = .ok (.iadd, 1) := by decide +kernel
theorem d_M_move_18 : decode b_M_move 18 = .ok (.istore 4, 2) := by decide +kernel
theorem d_M_move_20 : decode b_M_move 20 = .ok (.aload_n 0, 1) := by decide +kernel
theorem d_M_move_21 : decode b_M_move 21 = .ok (.getfield 13, 3) := by decide +kernel
theorem d_M_move_24 : decode b_M_move 24 = .ok (.iload 4, 2) := by decide +kernel
theorem d_M_move_26 : decode b_M_move 26 = .ok (.iaload, 1) := by decide +kernel
theorem d_M_move_27 : decode b_M_move 27 = .ok (.istore 5, 2) := by decide +kernel
theorem d_M_move_29 : decode b_M_move 29 = .ok (.aload_n 0, 1) := by decide +kernel
theorem d_M_move_30 : decode b_M_move 30 = .ok (.getfield 65, 3) := by decide +kernel
theorem d_M_move_33 : decode b_M_move 33 = .ok (.iload_n 3, 1) := by decide +kernel
theorem d_M_move_34 : decode b_M_move 34 = .ok (.laload, 1) := by decide +kernel
theorem d_M_move_35 : decode b_M_move 35 = .ok (.aload_n 0, 1) := by decide +kernel
theorem d_M_move_36 : decode b_M_move 36 = .ok (.getfield 68, 3) := by decide +kernel
theorem d_M_move_39 : decode b_M_move 39 = .ok (.iload_n 3, 1) := by decide +kernel
theorem d_M_move_40 : decode b_M_move 40 = .ok (.laload, 1) := by decide +kernel
theorem d_M_move_41 : decode b_M_move 41 = .ok (.lcmp, 1) := by decide +kernel
theorem d_M_move_42 : decode b_M_move 42 = .ok (.ifCond .le (14), 3) := by decide +kernel
theorem d_M_move_45 : decode b_M_move 45 = .ok (.aload_n 0, 1) := by decide +kernel
theorem d_M_move_46 : decode b_M_move 46 = .ok (.dup, 1) := by decide +kernel
theorem d_M_move_47 : decode b_M_move 47 = .ok (.getfield 177, 3) := by decide +kernel
theorem d_M_move_50 : decode b_M_move 50 = .ok (.iconst 1, 1) := by decide +kernel
theorem d_M_move_51 : decode b_M_move 51 = .ok (.isub, 1) := by decide +kernel
theorem d_M_move_52 : decode b_M_move 52 = .ok (.putfield 177, 3) := by decide +kernel
theorem d_M_move_55 : decode b_M_move 55 = .ok (.return_, 1) := by decide +kernel
theorem d_M_move_56 : decode b_M_move 56 = .ok (.aload_n 0, 1) := by decide +kernel
theorem d_M_move_57 : decode b_M_move 57 = .ok (.getfield 65, 3) := by decide +kernel
theorem d_M_move_60 : decode b_M_move 60 = .ok (.iload_n 3, 1) := by decide +kernel
theorem d_M_move_61 : decode b_M_move 61 = .ok (.laload, 1) := by decide +kernel
theorem d_M_move_62 : decode b_M_move 62 = .ok (.lstore 6, 2) := by decide +kernel
theorem d_M_move_64 : decode b_M_move 64 = .ok (.aload_n 0, 1) := by decide +kernel
theorem d_M_move_65 : decode b_M_move 65 = .ok (.getfield 71, 3) := by decide +kernel
theorem d_M_move_68 : decode b_M_move 68 = .ok (.iload_n 3, 1) := by decide +kernel
theorem d_M_move_69 : decode b_M_move 69 = .ok (.iaload, 1) := by decide +kernel
theorem d_M_move_70 : decode b_M_move 70 = .ok (.istore 8, 2) := by decide +kernel
theorem d_M_move_72 : decode b_M_move 72 = .ok (.aload_n 0, 1) := by decide +kernel
theorem d_M_move_73 : decode b_M_move 73 = .ok (.getfield 59, 3) := by decide +kernel
theorem d_M_move_76 : decode b_M_move 76 = .ok (.iload_n 3, 1) := by decide +kernel
theorem d_M_move_77 : decode b_M_move 77 = .ok (.laload, 1) := by decide +kernel
theorem d_M_move_78 : decode b_M_move 78 = .ok (.lstore 9, 2) := by decide +kernel
theorem d_M_move_80 : decode b_M_move 80 = .ok (.aload_n 0, 1) := by decide +kernel
theorem d_M_move_81 : decode b_M_move 81 = .ok (.getfield 62, 3) := by decide +kernel
theorem d_M_move_84 : decode b_M_move 84 = .ok (.iload_n 3, 1) := by decide +kernel
theorem d_M_move_85 : decode b_M_move 85 = .ok (.laload, 1) := by decide +kernel
theorem d_M_move_86 : decode b_M_move 86 = .ok (.lstore 11, 2) := by decide +kernel
theorem d_M_move_88 : decode b_M_move 88 = .ok (.iload 5, 2) := by decide +kernel
theorem d_M_move_90 : decode b_M_move 90 = .ok (.ifCond .ne (28), 3) := by decide +kernel
theorem d_M_move_93 : decode b_M_move 93 = .ok (.aload_n 0, 1) := by decide +kernel
theorem d_M_move_94 : decode b_M_move 94 = .ok (.iload_n 3, 1) := by decide +kernel
theorem d_M_move_95 : decode b_M_move 95 = .ok (.iconst 1, 1) := by decide +kernel
theorem d_M_move_96 : decode b_M_move 96 = .ok (.invokevirtual 194, 3) := by decide +kernel
theorem d_M_move_99 : decode b_M_move 99 = .ok (.aload_n 0, 1) := by decide +kernel
theorem d_M_move_100 : decode b_M_move 100 = .ok (.iload_n 3, 1) := by decide +kernel
theorem d_M_move_101 : decode b_M_move 101 = .ok (.lload 6, 2) := by decide +kernel
theorem d_M_move_103 : decode b_M_move 103 = .ok (.aload_n 0, 1) := by decide +kernel
theorem d_M_move_104 : decode b_M_move 104 = .ok (.getfield 16, 3) := by decide +kernel
theorem d_M_move_107 : decode b_M_move 107 = .ok (.iload 4, 2) := by decide +kernel
theorem d_M_move_109 : decode b_M_move 109 = .ok (.iaload, 1) := by decide +kernel
theorem d_M_move_110 : decode b_M_move 110 = .ok (.iload_n 1, 1) := by decide +kernel
theorem d_M_move_111 : decode b_M_move 111 = .ok (.iload_n 2, 1) := by decide +kernel
theorem d_M_move_112 : decode b_M_move 112 = .ok (.invokevirtual 198, 3) := by decide +kernel
theorem d_M_move_115 : decode b_M_move 115 = .ok (.goto (436), 3) := by decide +kernel
theorem d_M_move_118 : decode b_M_move 118 = .ok (.iload 5, 2) := by decide +kernel
theorem d_M_move_120 : decode b_M_move 120 = .ok (.iconst 1, 1) := by decide +kernel
theorem d_M_move_121 : decode b_M_move 121 = .ok (.if_icmp .ne (85), 3) := by decide +kernel
theorem d_M_move_124 : decode b_M_move 124 = .ok (.aload_n 0, 1) := by decide +kernel
theorem d_M_move_125 : decode b_M_move 125 = .ok (.iload_n 3, 1) := by decide +kernel
theorem d_M_move_126 : decode b_M_move 126 = .ok (.aload_n 0, 1) := by decide +kernel
theorem d_M_move_127 : decode b_M_move 127 = .ok (.getfield 31, 3) := by decide +kernel
theorem d_M_move_130 : decode b_M_move 130 = .ok (.iload 4, 2) := by decide +kernel
theorem d_M_move_132 : decode b_M_move 132 = .ok (.iaload, 1) := by decide +kernel
theorem d_M_move_133 : decode b_M_move 133 = .ok (.invokevirtual 194, 3) := by decide +kernel
theorem d_M_move_136 : decode b_M_move 136 = .ok (.aload_n 0, 1) := by decide +kernel
theorem d_M_move_137 : decode b_M_move 137 = .ok (.iload_n 3, 1) := by decide +kernel
theorem d_M_move_138 : decode b_M_move 138 = .ok (.aload_n 0, 1) := by decide +kernel
theorem d_M_move_139 : decode b_M_move 139 = .ok (.iload_n 1, 1) := by decide +kernel
theorem d_M_move_140 : decode b_M_move 140 = .ok (.aload_n 0, 1) := by decide +kernel
theorem d_M_move_141 : decode b_M_move 141 = .ok (.getfield 49, 3) := by decide +kernel
theorem d_M_move_144 : decode b_M_move 144 = .ok (.iload_n 3, 1) := by decide +kernel
theorem d_M_move_145 : decode b_M_move 145 = .ok (.iaload, 1) := by decide +kernel
theorem d_M_move_146 : decode b_M_move 146 = .ok (.iload 8, 2) := by decide +kernel
theorem d_M_move_148 : decode b_M_move 148 = .ok (.invokevirtual 202, 3) := by decide +kernel
theorem d_M_move_151 : decode b_M_move 151 = .ok (.lload 6, 2) := by decide +kernel
theorem d_M_move_153 : decode b_M_move 153 = .ok (.iload 8, 2) := by decide +kernel
theorem d_M_move_155 : decode b_M_move 155 = .ok (.aload_n 0, 1) := by decide +kernel
theorem d_M_move_156 : decode b_M_move 156 = .ok (.getfield 31, 3) := by decide +kernel
theorem d_M_move_159 : decode b_M_move 159 = .ok (.iload 4, 2) := by decide +kernel
theorem d_M_move_161 : decode b_M_move 161 = .ok (.iaload, 1) := by decide +kernel
theorem d_M_move_162 : decode b_M_move 162 = .ok (.lload 9, 2) := by decide +kernel
theorem d_M_move_164 : decode b_M_move 164 = .ok (.aload_n 0, 1) := by decide +kernel
theorem d_M_move_165 : decode b_M_move 165 = .ok (.getfield 31, 3) := by decide +kernel
theorem d_M_move_168 : decode b_M_move 168 = .ok (.iload 4, 2) := by decide +kernel
theorem d_M_move_170 : decode b_M_move 170 = .ok (.iaload, 1) := by decide +kernel
theorem d_M_move_171 : decode b_M_move 171 = .ok (.i2l, 1) := by decide +kernel
theorem d_M_move_172 : decode b_M_move 172 = .ok (.ldiv, 1) := by decide +kernel
theorem d_M_move_173 : decode b_M_move 173 = .ok (.lload 9, 2) := by decide +kernel
theorem d_M_move_175 : decode b_M_move 175 = .ok (.lload 6, 2) := by decide +kernel
theorem d_M_move_177 : decode b_M_move 177 = .ok (.lmul, 1) := by decide +kernel
theorem d_M_move_178 : decode b_M_move 178 = .ok (.lload 9, 2) := by decide +kernel
theorem d_M_move_180 : decode b_M_move 180 = .ok (.aload_n 0, 1) := by decide +kernel
theorem d_M_move_181 : decode b_M_move 181 = .ok (.getfield 31, 3) := by decide +kernel
theorem d_M_move_184 : decode b_M_move 184 = .ok (.iload 4, 2) := by decide +kernel
theorem d_M_move_186 : decode b_M_move 186 = .ok (.iaload, 1) := by decide +kernel
theorem d_M_move_187 : decode b_M_move 187 = .ok (.i2l, 1) := by decide +kernel
theorem d_M_move_188 : decode b_M_move 188 = .ok (.ldiv, 1) := by decide +kernel
theorem d_M_move_189 : decode b_M_move 189 = .ok (.iload 8, 2) := by decide +kernel
theorem d_M_move_191 : decode b_M_move 191 = .ok (.i2l, 1) := by decide +kernel
theorem d_M_move_192 : decode b_M_move 192 = .ok (.lload 6, 2) := by decide +kernel
theorem d_M_move_194 : decode b_M_move 194 = .ok (.lsub, 1) := by decide +kernel
theorem d_M_move_195 : decode b_M_move 195 = .ok (.lmul, 1) := by decide +kernel
theorem d_M_move_196 : decode b_M_move 196 = .ok (.ladd, 1) := by decide +kernel
theorem d_M_move_197 : decode b_M_move 197 = .ok (.lload 11, 2) := by decide +kernel
theorem d_M_move_199 : decode b_M_move 199 = .ok (.ladd, 1) := by decide +kernel
theorem d_M_move_200 : decode b_M_move 200 = .ok (.invokevirtual 206, 3) := by decide +kernel
theorem d_M_move_203 : decode b_M_move 203 = .ok (.goto (348), 3) := by decide +kernel
theorem d_M_move_206 : decode b_M_move 206 = .ok (.iload 5, 2) := by decide +kernel
theorem d_M_move_208 : decode b_M_move 208 = .ok (.bipush (9), 2) := by decide +kernel
theorem d_M_move_210 : decode b_M_move 210 = .ok (.if_icmp .ne (127), 3) := by decide +kernel
theorem d_M_move_213 : decode b_M_move 213 = .ok (.aload_n 0, 1) := by decide +kernel
theorem d_M_move_214 : decode b_M_move 214 = .ok (.iload_n 3, 1) := by decide +kernel
theorem d_M_move_215 : decode b_M_move 215 = .ok (.aload_n 0, 1) := by decide +kernel
theorem d_M_move_216 : decode b_M_move 216 = .ok (.getfield 19, 3) := by decide +kernel
theorem d_M_move_219 : decode b_M_move 219 = .ok (.iload 4, 2) := by decide +kernel
theorem d_M_move_221 : decode b_M_move 221 = .ok (.iaload, 1) := by decide +kernel
theorem d_M_move_222 : decode b_M_move 222 = .ok (.invokevirtual 194, 3) := by decide +kernel
theorem d_M_move_225 : decode b_M_move 225 = .ok (.iload 8, 2) := by decide +kernel
theorem d_M_move_227 : decode b_M_move 227 = .ok (.aload_n 0, 1) := by decide +kernel
theorem d_M_move_228 : decode b_M_move 228 = .ok (.getfield 22, 3) := by decide +kernel
theorem d_M_move_231 : decode b_M_move 231 = .ok (.iload 4, 2) := by decide +kernel
theorem d_M_move_233 : decode b_M_move 233 = .ok (.iaload, 1) := by decide +kernel
theorem d_M_move_234 : decode b_M_move 234 = .ok (.iadd, 1) := by decide +kernel
theorem d_M_move_235 : decode b_M_move 235 = .ok (.aload_n 0, 1) := by decide +kernel
theorem d_M_move_236 : decode b_M_move 236 = .ok (.getfield 16, 3) := by decide +kernel
theorem d_M_move_239 : decode b_M_move 239 = .ok (.iload 4, 2) := by decide +kernel
theorem d_M_move_241 : decode b_M_move 241 = .ok (.iaload, 1) := by decide +kernel
theorem d_M_move_242 : decode b_M_move 242 = .ok (.imul, 1) := by decide +kernel
theorem d_M_move_243 : decode b_M_move 243 = .ok (.aload_n 0, 1) := by decide +kernel
theorem d_M_move_244 : decode b_M_move 244 = .ok (.getfield 19, 3) := by decide +kernel
theorem d_M_move_247 : decode b_M_move 247 = .ok (.iload 4, 2) := by decide +kernel
theorem d_M_move_249 : decode b_M_move 249 = .ok (.iaload, 1) := by decide +kernel
theorem d_M_move_250 : decode b_M_move 250 = .ok (.irem, 1) := by decide +kernel
theorem d_M_move_251 : decode b_M_move 251 = .ok (.aload_n 0, 1) := by decide +kernel
theorem d_M_move_252 : decode b_M_move 252 = .ok (.getfield 16, 3) := by decide +kernel
theorem d_M_move_255 : decode b_M_move 255 = .ok (.iload 4, 2) := by decide +kernel
theorem d_M_move_257 : decode b_M_move 257 = .ok (.iaload, 1) := by decide +kernel
theorem d_M_move_258 : decode b_M_move 258 = .ok (.if_icmp .ge (7), 3) := by decide +kernel
theorem d_M_move_261 : decode b_M_move 261 = .ok (.iconst 1, 1) := by decide +kernel
theorem d_M_move_262 : decode b_M_move 262 = .ok (.goto (4), 3) := by decide +kernel
theorem d_M_move_265 : decode b_M_move 265 = .ok (.iconst 0, 1) := by decide +kernel
theorem d_M_move_266 : decode b_M_move 266 = .ok (.istore 13, 2) := by decide +kernel
theorem d_M_move_268 : decode b_M_move 268 = .ok (.iload 13, 2) := by decide +kernel
theorem d_M_move_270 : decode b_M_move 270 = .ok (.ifCond .eq (64), 3) := by decide +kernel
theorem d_M_move_273 : decode b_M_move 273 = .ok (.aload_n 0, 1) := by decide +kernel
theorem d_M_move_274 : decode b_M_move 274 = .ok (.iload_n 3, 1) := by decide +kernel
theorem d_M_move_275 : decode b_M_move 275 = .ok (.aload_n 0, 1) := by decide +kernel
theorem d_M_move_276 : decode b_M_move 276 = .ok (.getfield 25, 3) := by decide +kernel
theorem d_M_move_279 : decode b_M_move 279 = .ok (.iload 4, 2) := by decide +kernel
theorem d_M_move_281 : decode b_M_move 281 = .ok (.iaload, 1) := by decide +kernel
theorem d_M_move_282 : decode b_M_move 282 = .ok (.lload 6, 2) := by decide +kernel
theorem d_M_move_284 : decode b_M_move 284 = .ok (.iload 8, 2) := by decide +kernel
theorem d_M_move_286 : decode b_M_move 286 = .ok (.aload_n 0, 1) := by decide +kernel
theorem d_M_move_287 : decode b_M_move 287 = .ok (.getfield 19, 3) := by decide +kernel
theorem d_M_move_290 : decode b_M_move 290 = .ok (.iload 4, 2) := by decide +kernel
theorem d_M_move_292 : decode b_M_move 292 = .ok (.iaload, 1) := by decide +kernel
theorem d_M_move_293 : decode b_M_move 293 = .ok (.lload 9, 2) := by decide +kernel
theorem d_M_move_295 : decode b_M_move 295 = .ok (.aload_n 0, 1) := by decide +kernel
theorem d_M_move_296 : decode b_M_move 296 = .ok (.getfield 19, 3) := by decide +kernel
theorem d_M_move_299 : decode b_M_move 299 = .ok (.iload 4, 2) := by decide +kernel
theorem d_M_move_301 : decode b_M_move 301 = .ok (.iaload, 1) := by decide +kernel
theorem d_M_move_302 : decode b_M_move 302 = .ok (.i2l, 1) := by decide +kernel
theorem d_M_move_303 : decode b_M_move 303 = .ok (.ldiv, 1) := by decide +kernel
theorem d_M_move_304 : decode b_M_move 304 = .ok (.lload 9, 2) := by decide +kernel
theorem d_M_move_306 : decode b_M_move 306 = .ok (.lload 6, 2) := by decide +kernel
theorem d_M_move_308 : decode b_M_move 308 = .ok (.lmul, 1) := by decide +kernel
theorem d_M_move_309 : decode b_M_move 309 = .ok (.lload 9, 2) := by decide +kernel
theorem d_M_move_311 : decode b_M_move 311 = .ok (.aload_n 0, 1) := by decide +kernel
theorem d_M_move_312 : decode b_M_move 312 = .ok (.getfield 19, 3) := by decide +kernel
theorem d_M_move_315 : decode b_M_move 315 = .ok (.iload 4, 2) := by decide +kernel
theorem d_M_move_317 : decode b_M_move 317 = .ok (.iaload, 1) := by decide +kernel
theorem d_M_move_318 : decode b_M_move 318 = .ok (.i2l, 1) := by decide +kernel
theorem d_M_move_319 : decode b_M_move 319 = .ok (.ldiv, 1) := by decide +kernel
theorem d_M_move_320 : decode b_M_move 320 = .ok (.iload 8, 2) := by decide +kernel
theorem d_M_move_322 : decode b_M_move 322 = .ok (.i2l, 1) := by decide +kernel
theorem d_M_move_323 : decode b_M_move 323 = .ok (.lload 6, 2) := by decide +kernel
theorem d_M_move_325 : decode b_M_move 325 = .ok (.lsub, 1) := by decide +kernel
theorem d_M_move_326 : decode b_M_move 326 = .ok (.lmul, 1) := by decide +kernel
theorem d_M_move_327 : decode b_M_move 327 = .ok (.ladd, 1) := by decide +kernel
theorem d_M_move_328 : decode b_M_move 328 = .ok (.lload 11, 2) := by decide +kernel
theorem d_M_move_330 : decode b_M_move 330 = .ok (.ladd, 1) := by decide +kernel
theorem d_M_move_331 : decode b_M_move 331 = .ok (.invokevirtual 206, 3) := by decide +kernel
theorem d_M_move_334 : decode b_M_move 334 = .ok (.goto (217), 3) := by decide +kernel
theorem d_M_move_337 : decode b_M_move 337 = .ok (.iload 5, 2) := by decide +kernel
theorem d_M_move_339 : decode b_M_move 339 = .ok (.iconst 2, 1) := by decide +kernel
theorem d_M_move_340 : decode b_M_move 340 = .ok (.if_icmp .ne (75), 3) := by decide +kernel
theorem d_M_move_343 : decode b_M_move 343 = .ok (.aload_n 0, 1) := by decide +kernel
theorem d_M_move_344 : decode b_M_move 344 = .ok (.iload_n 3, 1) := by decide +kernel
theorem d_M_move_345 : decode b_M_move 345 = .ok (.iconst 1, 1) := by decide +kernel
theorem d_M_move_346 : decode b_M_move 346 = .ok (.invokevirtual 194, 3) := by decide +kernel
theorem d_M_move_349 : decode b_M_move 349 = .ok (.lload 6, 2) := by decide +kernel
theorem d_M_move_351 : decode b_M_move 351 = .ok (.aload_n 0, 1) := by decide +kernel
theorem d_M_move_352 : decode b_M_move 352 = .ok (.getfield 31, 3) := by decide +kernel
theorem d_M_move_355 : decode b_M_move 355 = .ok (.iload 4, 2) := by decide +kernel
theorem d_M_move_357 : decode b_M_move 357 = .ok (.iaload, 1) := by decide +kernel
theorem d_M_move_358 : decode b_M_move 358 = .ok (.i2l, 1) := by decide +kernel
theorem d_M_move_359 : decode b_M_move 359 = .ok (.invokestatic 180, 3) := by decide +kernel
theorem d_M_move_362 : decode b_M_move 362 = .ok (.lstore 13, 2) := by decide +kernel
theorem d_M_move_364 : decode b_M_move 364 = .ok (.aload_n 0, 1) := by decide +kernel
theorem d_M_move_365 : decode b_M_move 365 = .ok (.iload_n 3, 1) := by decide +kernel
theorem d_M_move_366 : decode b_M_move 366 = .ok (.aload_n 0, 1) := by decide +kernel
theorem d_M_move_367 : decode b_M_move 367 = .ok (.iload_n 1, 1) := by decide +kernel
theorem d_M_move_368 : decode b_M_move 368 = .ok (.aload_n 0, 1) := by decide +kernel
theorem d_M_move_369 : decode b_M_move 369 = .ok (.getfield 49, 3) := by decide +kernel
theorem d_M_move_372 : decode b_M_move 372 = .ok (.iload_n 3, 1) := by decide +kernel
theorem d_M_move_373 : decode b_M_move 373 = .ok (.iaload, 1) := by decide +kernel
theorem d_M_move_374 : decode b_M_move 374 = .ok (.lload 6, 2) := by decide +kernel
theorem d_M_move_376 : decode b_M_move 376 = .ok (.lload 13, 2) := by decide +kernel
theorem d_M_move_378 : decode b_M_move 378 = .ok (.aload_n 0, 1) := by decide +kernel
theorem d_M_move_379 : decode b_M_move 379 = .ok (.getfield 31, 3) := by decide +kernel
theorem d_M_move_382 : decode b_M_move 382 = .ok (.iload 4, 2) := by decide +kernel
theorem d_M_move_384 : decode b_M_move 384 = .ok (.iaload, 1) := by decide +kernel
theorem d_M_move_385 : decode b_M_move 385 = .ok (.i2l, 1) := by decide +kernel
theorem d_M_move_386 : decode b_M_move 386 = .ok (.lmul, 1) := by decide +kernel
theorem d_M_move_387 : decode b_M_move 387 = .ok (.lsub, 1) := by decide +kernel
theorem d_M_move_388 : decode b_M_move 388 = .ok (.l2i, 1) := by decide +kernel
theorem d_M_move_389 : decode b_M_move 389 = .ok (.invokevirtual 202, 3) := by decide +kernel
theorem d_M_move_392 : decode b_M_move 392 = .ok (.lload 6, 2) := by decide +kernel
theorem d_M_move_394 : decode b_M_move 394 = .ok (.iconst 0, 1) := by decide +kernel
theorem d_M_move_395 : decode b_M_move 395 = .ok (.iconst 1, 1) := by decide +kernel
theorem d_M_move_396 : decode b_M_move 396 = .ok (.lload 9, 2) := by decide +kernel
theorem d_M_move_398 : decode b_M_move 398 = .ok (.lload 11, 2) := by decide +kernel
theorem d_M_move_400 : decode b_M_move 400 = .ok (.lload 9, 2) := by decide +kernel
theorem d_M_move_402 : decode b_M_move 402 = .ok (.lload 6, 2) := by decide +kernel
theorem d_M_move_404 : decode b_M_move 404 = .ok (.lload 13, 2) := by decide +kernel
theorem d_M_move_406 : decode b_M_move 406 = .ok (.lsub, 1) := by decide +kernel
theorem d_M_move_407 : decode b_M_move 407 = .ok (.lmul, 1) := by decide +kernel
theorem d_M_move_408 : decode b_M_move 408 = .ok (.ladd, 1) := by decide +kernel
theorem d_M_move_409 : decode b_M_move 409 = .ok (.invokevirtual 206, 3) := by decide +kernel
theorem d_M_move_412 : decode b_M_move 412 = .ok (.goto (139), 3) := by decide +kernel
theorem d_M_move_415 : decode b_M_move 415 = .ok (.iload 5, 2) := by decide +kernel
theorem d_M_move_417 : decode b_M_move 417 = .ok (.bipush (7), 2) := by decide +kernel
theorem d_M_move_419 : decode b_M_move 419 = .ok (.if_icmp .ne (45), 3) := by decide +kernel
theorem d_M_move_422 : decode b_M_move 422 = .ok (.aload_n 0, 1) := by decide +kernel
theorem d_M_move_423 : decode b_M_move 423 = .ok (.iload_n 3, 1) := by decide +kernel
theorem d_M_move_424 : decode b_M_move 424 = .ok (.iconst 1, 1) := by decide +kernel
theorem d_M_move_425 : decode b_M_move 425 = .ok (.invokevirtual 194, 3) := by decide +kernel
theorem d_M_move_428 : decode b_M_move 428 = .ok (.aload_n 0, 1) := by decide +kernel
theorem d_M_move_429 : decode b_M_move 429 = .ok (.iload_n 3, 1) := by decide +kernel
theorem d_M_move_430 : decode b_M_move 430 = .ok (.aload_n 0, 1) := by decide +kernel
theorem d_M_move_431 : decode b_M_move 431 = .ok (.getfield 25, 3) := by decide +kernel
theorem d_M_move_434 : decode b_M_move 434 = .ok (.iload 4, 2) := by decide +kernel
theorem d_M_move_436 : decode b_M_move 436 = .ok (.iaload, 1) := by decide +kernel
theorem d_M_move_437 : decode b_M_move 437 = .ok (.lload 6, 2) := by decide +kernel
theorem d_M_move_439 : decode b_M_move 439 = .ok (.iconst 0, 1) := by decide +kernel
theorem d_M_move_440 : decode b_M_move 440 = .ok (.iconst 1, 1) := by decide +kernel
theorem d_M_move_441 : decode b_M_move 441 = .ok (.lload 9, 2) := by decide +kernel
theorem d_M_move_443 : decode b_M_move 443 = .ok (.lneg, 1) := by decide +kernel
theorem d_M_move_444 : decode b_M_move 444 = .ok (.lload 11, 2) := by decide +kernel
theorem d_M_move_446 : decode b_M_move 446 = .ok (.lload 9, 2) := by decide +kernel
theorem d_M_move_448 : decode b_M_move 448 = .ok (.ldc2_w 210, 3) := by decide +kernel
theorem d_M_move_451 : decode b_M_move 451 = .ok (.lload 6, 2) := by decide +kernel
theorem d_M_move_453 : decode b_M_move 453 = .ok (.lmul, 1) := by decide +kernel
theorem d_M_move_454 : decode b_M_move 454 = .ok (.lconst 1, 1) := by decide +kernel
theorem d_M_move_455 : decode b_M_move 455 = .ok (.ladd, 1) := by decide +kernel
theorem d_M_move_456 : decode b_M_move 456 = .ok (.lmul, 1) := by decide +kernel
theorem d_M_move_457 : decode b_M_move 457 = .ok (.ladd, 1) := by decide +kernel
theorem d_M_move_458 : decode b_M_move 458 = .ok (.invokevirtual 206, 3) := by decide +kernel
theorem d_M_move_461 : decode b_M_move 461 = .ok (.goto (90), 3) := by decide +kernel
theorem d_M_move_464 : decode b_M_move 464 = .ok (.iload 5, 2) := by decide +kernel
theorem d_M_move_466 : decode b_M_move 466 = .ok (.bipush (8), 2) := by decide +kernel
theorem d_M_move_468 : decode b_M_move 468 = .ok (.if_icmp .ne (69), 3) := by decide +kernel
theorem d_M_move_471 : decode b_M_move 471 = .ok (.aload_n 0, 1) := by decide +kernel
theorem d_M_move_472 : decode b_M_move 472 = .ok (.iload_n 3, 1) := by decide +kernel
theorem d_M_move_473 : decode b_M_move 473 = .ok (.iconst 1, 1) := by decide +kernel
theorem d_M_move_474 : decode b_M_move 474 = .ok (.invokevirtual 194, 3) := by decide +kernel
theorem d_M_move_477 : decode b_M_move 477 = .ok (.aload_n 0, 1) := by decide +kernel
theorem d_M_move_478 : decode b_M_move 478 = .ok (.iload_n 3, 1) := by decide +kernel
theorem d_M_move_479 : decode b_M_move 479 = .ok (.aload_n 0, 1) := by decide +kernel
theorem d_M_move_480 : decode b_M_move 480 = .ok (.iload_n 1, 1) := by decide +kernel
theorem d_M_move_481 : decode b_M_move 481 = .ok (.aload_n 0, 1) := by decide +kernel
theorem d_M_move_482 : decode b_M_move 482 = .ok (.getfield 49, 3) := by decide +kernel
theorem d_M_move_485 : decode b_M_move 485 = .ok (.iload_n 3, 1) := by decide +kernel
theorem d_M_move_486 : decode b_M_move 486 = .ok (.iaload, 1) := by decide +kernel
theorem d_M_move_487 : decode b_M_move 487 = .ok (.lload 6, 2) := by decide +kernel
theorem d_M_move_489 : decode b_M_move 489 = .ok (.aload_n 0, 1) := by decide +kernel
theorem d_M_move_490 : decode b_M_move 490 = .ok (.getfield 16, 3) := by decide +kernel
theorem d_M_move_493 : decode b_M_move 493 = .ok (.iload 4, 2) := by decide +kernel
theorem d_M_move_495 : decode b_M_move 495 = .ok (.iaload, 1) := by decide +kernel
theorem d_M_move_496 : decode b_M_move 496 = .ok (.i2l, 1) := by decide +kernel
theorem d_M_move_497 : decode b_M_move 497 = .ok (.invokestatic 180, 3) := by decide +kernel
theorem d_M_move_500 : decode b_M_move 500 = .ok (.aload_n 0, 1) := by decide +kernel
theorem d_M_move_501 : decode b_M_move 501 = .ok (.getfield 16, 3) := by decide +kernel
theorem d_M_move_504 : decode b_M_move 504 = .ok (.iload 4, 2) := by decide +kernel
theorem d_M_move_506 : decode b_M_move 506 = .ok (.iaload, 1) := by decide +kernel
theorem d_M_move_507 : decode b_M_move 507 = .ok (.i2l, 1) := by decide +kernel
theorem d_M_move_508 : decode b_M_move 508 = .ok (.lmul, 1) := by decide +kernel
theorem d_M_move_509 : decode b_M_move 509 = .ok (.lload 6, 2) := by decide +kernel
theorem d_M_move_511 : decode b_M_move 511 = .ok (.lcmp, 1) := by decide +kernel
theorem d_M_move_512 : decode b_M_move 512 = .ok (.ifCond .ne (7), 3) := by decide +kernel
theorem d_M_move_515 : decode b_M_move 515 = .ok (.iconst 0, 1) := by decide +kernel
theorem d_M_move_516 : decode b_M_move 516 = .ok (.goto (4), 3) := by decide +kernel
theorem d_M_move_519 : decode b_M_move 519 = .ok (.iconst 1, 1) := by decide +kernel
theorem d_M_move_520 : decode b_M_move 520 = .ok (.invokevirtual 202, 3) := by decide +kernel
theorem d_M_move_523 : decode b_M_move 523 = .ok (.lload 6, 2) := by decide +kernel
theorem d_M_move_525 : decode b_M_move 525 = .ok (.iconst 0, 1) := by decide +kernel
theorem d_M_move_526 : decode b_M_move 526 = .ok (.iconst 1, 1) := by decide +kernel
theorem d_M_move_527 : decode b_M_move 527 = .ok (.lload 9, 2) := by decide +kernel
theorem d_M_move_529 : decode b_M_move 529 = .ok (.lload 11, 2) := by decide +kernel
theorem d_M_move_531 : decode b_M_move 531 = .ok (.invokevirtual 206, 3) := by decide +kernel
theorem d_M_move_534 : decode b_M_move 534 = .ok (.goto (17), 3) := by decide +kernel
theorem d_M_move_537 : decode b_M_move 537 = .ok (.aload_n 0, 1) := by decide +kernel
theorem d_M_move_538 : decode b_M_move 538 = .ok (.iload_n 3, 1) := by decide +kernel
theorem d_M_move_539 : decode b_M_move 539 = .ok (.iload 4, 2) := by decide +kernel
theorem d_M_move_541 : decode b_M_move 541 = .ok (.iload_n 1, 1) := by decide +kernel
theorem d_M_move_542 : decode b_M_move 542 = .ok (.iload 8, 2) := by decide +kernel
theorem d_M_move_544 : decode b_M_move 544 = .ok (.lload 9, 2) := by decide +kernel
theorem d_M_move_546 : decode b_M_move 546 = .ok (.lload 11, 2) := by decide +kernel
theorem d_M_move_548 : decode b_M_move 548 = .ok (.invokevirtual 212, 3) := by decide +kernel
theorem d_M_move_551 : decode b_M_move 551 = .ok (.return_, 1) := by decide +kernel
theorem d_M_plain_0 : decode b_M_plain 0 = .ok (.aload_n 0, 1) := by decide +kernel
theorem d_M_plain_1 : decode b_M_plain 1 = .ok (.getfield 13, 3) := by decide +kernel
theorem d_M_plain_4 : decode b_M_plain 4 = .ok (.iload_n 2, 1) := by decide +kernel
theorem d_M_plain_5 : decode b_M_plain 5 = .ok (.iaload, 1) := by decide +kernel
theorem d_M_plain_6 : decode b_M_plain 6 = .ok (.istore 9, 2) := by decide +kernel
theorem d_M_plain_8 : decode b_M_plain 8 = .ok (.aload_n 0, 1) := by decide +kernel
theorem d_M_plain_9 : decode b_M_plain 9 = .ok (.getfield 65, 3) := by decide +kernel
theorem d_M_plain_12 : decode b_M_plain 12 = .ok (.iload_n 1, 1) := by decide +kernel
theorem d_M_plain_13 : decode b_M_plain 13 = .ok (.iload 4, 2) := by decide +kernel
theorem d_M_plain_15 : decode b_M_plain 15 = .ok (.iconst 1, 1) := by decide +kernel
theorem d_M_plain_16 : decode b_M_plain 16 = .ok (.iadd, 1) := by decide +kernel
theorem d_M_plain_17 : decode b_M_plain 17 = .ok (.aload_n 0, 1) := by decide +kernel
theorem d_M_plain_18 : decode b_M_plain 18 = .ok (.getfield 31, 3) := by decide +kernel
theorem d_M_plain_21 : decode b_M_plain 21 = .ok (.iload_n 2, 1) := by decide +kernel
theorem d_M_plain_22 : decode b_M_plain 22 = .ok (.iaload, 1) := by decide +kernel
theorem d_M_plain_23 : decode b_M_plain 23 = .ok (.if_icmp .ge (12), 3) := by decide +kernel
theorem d_M_plain_26 : decode b_M_plain 26 = .ok (.aload_n 0, 1) := by decide +kernel
theorem d_M_plain_27 : decode b_M_plain 27 = .ok (.getfield 65, 3) := by decide +kernel
theorem d_M_plain_30 : decode b_M_plain 30 = .ok (.iload_n 1, 1) := by decide +kernel
theorem d_M_plain_31 : decode b_M_plain 31 = .ok (.laload, 1) := by decide +kernel
theorem d_M_plain_32 : decode b_M_plain 32 = .ok (.goto (11), 3) := by decide +kernel
theorem d_M_plain_35 : decode b_M_plain 35 = .ok (.aload_n 0, 1) := by decide +kernel
theorem d_M_plain_36 : decode b_M_plain 36 = .ok (.getfield 68, 3) := by decide +kernel
theorem d_M_plain_39 : decode b_M_plain 39 = .ok (.iload_n 1, 1) := by decide +kernel
theorem d_M_plain_40 : decode b_M_plain 40 = .ok (.laload, 1) := by decide +kernel
theorem d_M_plain_41 : decode b_M_plain 41 = .ok (.lconst 1, 1) := by decide +kernel
theorem d_M_plain_42 : decode b_M_plain 42 = .ok (.ladd, 1) := by decide +kernel
theorem d_M_plain_43 : decode b_M_plain 43 = .ok (.lastore, 1) := by decide +kernel
theorem d_M_plain_44 : decode b_M_plain 44 = .ok (.aload_n 0, 1) := by decide +kernel
theorem d_M_plain_45 : decode b_M_plain 45 = .ok (.getfield 71, 3) := by decide +kernel
theorem d_M_plain_48 : decode b_M_plain 48 = .ok (.iload_n 1, 1) := by decide +kernel
theorem d_M_plain_49 : decode b_M_plain 49 = .ok (.dup2, 1) := by decide +kernel
theorem d_M_plain_50 : decode b_M_plain 50 = .ok (.iaload, 1) := by decide +kernel
theorem d_M_plain_51 : decode b_M_plain 51 = .ok (.iconst 1, 1) := by decide +kernel
theorem d_M_plain_52 : decode b_M_plain 52 = .ok (.iadd, 1) := by decide +kernel
theorem d_M_plain_53 : decode b_M_plain 53 = .ok (.iastore, 1) := by decide +kernel
theorem d_M_plain_54 : decode b_M_plain 54 = .ok (.iload 9, 2) := by decide +kernel
theorem d_M_plain_56 : decode b_M_plain 56 = .ok (.iconst 3, 1) := by decide +kernel
theorem d_M_plain_57 : decode b_M_plain 57 = .ok (.if_icmp .ne (36), 3) := by decide +kernel
theorem d_M_plain_60 : decode b_M_plain 60 = .ok (.aload_n 0, 1) := by decide +kernel
theorem d_M_plain_61 : decode b_M_plain 61 = .ok (.aload_n 0, 1) := by decide +kernel
theorem d_M_plain_62 : decode b_M_plain 62 = .ok (.iload_n 3, 1) := by decide +kernel
theorem d_M_plain_63 : decode b_M_plain 63 = .ok (.aload_n 0, 1) := by decide +kernel
theorem d_M_plain_64 : decode b_M_plain 64 = .ok (.getfield 49, 3) := by decide +kernel
theorem d_M_plain_67 : decode b_M_plain 67 = .ok (.iload_n 1, 1) := by decide +kernel
theorem d_M_plain_68 : decode b_M_plain 68 = .ok (.iaload, 1) := by decide +kernel
theorem d_M_plain_69 : decode b_M_plain 69 = .ok (.iload 4, 2) := by decide +kernel
theorem d_M_plain_71 : decode b_M_plain 71 = .ok (.invokevirtual 202, 3) := by decide +kernel
theorem d_M_plain_74 : decode b_M_plain 74 = .ok (.aload_n 0, 1) := by decide +kernel
theorem d_M_plain_75 : decode b_M_plain 75 = .ok (.getfield 52, 3) := by decide +kernel
theorem d_M_plain_78 : decode b_M_plain 78 = .ok (.iload_n 1, 1) := by decide +kernel
theorem d_M_plain_79 : decode b_M_plain 79 = .ok (.laload, 1) := by decide +kernel
theorem d_M_plain_80 : decode b_M_plain 80 = .ok (.aload_n 0, 1) := by decide +kernel
theorem d_M_plain_81 : decode b_M_plain 81 = .ok (.getfield 56, 3) := by decide +kernel
theorem d_M_plain_84 : decode b_M_plain 84 = .ok (.iload_n 1, 1) := by decide +kernel
theorem d_M_plain_85 : decode b_M_plain 85 = .ok (.laload, 1) := by decide +kernel
theorem d_M_plain_86 : decode b_M_plain 86 = .ok (.lload 5, 2) := by decide +kernel
theorem d_M_plain_88 : decode b_M_plain 88 = .ok (.lload 7, 2) := by decide +kernel
theorem d_M_plain_90 : decode b_M_plain 90 = .ok (.invokevirtual 190, 3) := by decide +kernel
theorem d_M_plain_93 : decode b_M_plain 93 = .ok (.iload 9, 2) := by decide +kernel
theorem d_M_plain_95 : decode b_M_plain 95 = .ok (.iconst 4, 1) := by decide +kernel
theorem d_M_plain_96 : decode b_M_plain 96 = .ok (.if_icmp .ne (37), 3) := by decide +kernel
theorem d_M_plain_99 : decode b_M_plain 99 = .ok (.aload_n 0, 1) := by decide +kernel
theorem d_M_plain_100 : decode b_M_plain 100 = .ok (.aload_n 0, 1) := by decide +kernel
theorem d_M_plain_101 : decode b_M_plain 101 = .ok (.getfield 25, 3) := by decide +kernel
theorem d_M_plain_104 : decode b_M_plain 104 = .ok (.iload_n 2, 1) := by decide +kernel
theorem d_M_plain_105 : decode b_M_plain 105 = .ok (.iaload, 1) := by decide +kernel
theorem d_M_plain_106 : decode b_M_plain 106 = .ok (.aload_n 0, 1) := by decide +kernel
theorem d_M_plain_107 : decode b_M_plain 107 = .ok (.getfield 52, 3) := by decide +kernel
theorem d_M_plain_110 : decode b_M_plain 110 = .ok (.iload_n 1, 1) := by decide +kernel
theorem d_M_plain_111 : decode b_M_plain 111 = .ok (.laload, 1) := by decide +kernel
theorem d_M_plain_112 : decode b_M_plain 112 = .ok (.aload_n 0, 1) := by decide +kernel
theorem d_M_plain_113 : decode b_M_plain 113 = .ok (.getfield 56, 3) := by decide +kernel
theorem d_M_plain_116 : decode b_M_plain 116 = .ok (.iload_n 1, 1) := by decide +kernel
theorem d_M_plain_117 : decode b_M_plain 117 = .ok (.laload, 1) := by decide +kernel
theorem d_M_plain_118 : decode b_M_plain 118 = .ok (.lload 5, 2) := by decide +kernel
theorem d_M_plain_120 : decode b_M_plain 120 = .ok (.aload_n 0, 1) := by decide +kernel
theorem d_M_plain_121 : decode b_M_plain 121 = .ok (.getfield 16, 3) := by decide +kernel
theorem d_M_plain_124 : decode b_M_plain 124 = .ok (.iload_n 2, 1) := by decide +kernel
theorem d_M_plain_125 : decode b_M_plain 125 = .ok (.iaload, 1) := by decide +kernel
theorem d_M_plain_126 : decode b_M_plain 126 = .ok (.i2l, 1) := by decide +kernel
theorem d_M_plain_127 : decode b_M_plain 127 = .ok (.ldiv, 1) := by decide +kernel
theorem d_M_plain_128 : decode b_M_plain 128 = .ok (.lload 7, 2) := by decide +kernel
theorem d_M_plain_130 : decode b_M_plain 130 = .ok (.invokevirtual 190, 3) := by decide +kernel
theorem d_M_plain_133 : decode b_M_plain 133 = .ok (.iload 9, 2) := by decide +kernel
theorem d_M_plain_135 : decode b_M_plain 135 = .ok (.iconst 5, 1) := by decide +kernel
theorem d_M_plain_136 : decode b_M_plain 136 = .ok (.if_icmp .ne (37), 3) := by decide +kernel
theorem d_M_plain_139 : decode b_M_plain 139 = .ok (.aload_n 0, 1) := by decide +kernel
theorem d_M_plain_140 : decode b_M_plain 140 = .ok (.aload_n 0, 1) := by decide +kernel
theorem d_M_plain_141 : decode b_M_plain 141 = .ok (.getfield 25, 3) := by decide +kernel
theorem d_M_plain_144 : decode b_M_plain 144 = .ok (.iload_n 2, 1) := by decide +kernel
theorem d_M_plain_145 : decode b_M_plain 145 = .ok (.iaload, 1) := by decide +kernel
theorem d_M_plain_146 : decode b_M_plain 146 = .ok (.aload_n 0, 1) := by decide +kernel
theorem d_M_plain_147 : decode b_M_plain 147 = .ok (.getfield 52, 3) := by decide +kernel
theorem d_M_plain_150 : decode b_M_plain 150 = .ok (.iload_n 1, 1) := by decide +kernel
theorem d_M_plain_151 : decode b_M_plain 151 = .ok (.laload, 1) := by decide +kernel
theorem d_M_plain_152 : decode b_M_plain 152 = .ok (.aload_n 0, 1) := by decide +kernel
theorem d_M_plain_153 : decode b_M_plain 153 = .ok (.getfield 56, 3) := by decide +kernel
theorem d_M_plain_156 : decode b_M_plain 156 = .ok (.iload_n 1, 1) := by decide +kernel
theorem d_M_plain_157 : decode b_M_plain 157 = .ok (.laload, 1) := by decide +kernel
theorem d_M_plain_158 : decode b_M_plain 158 = .ok (.lload 5, 2) := by decide +kernel
theorem d_M_plain_160 : decode b_M_plain 160 = .ok (.aload_n 0, 1) := by decide +kernel
theorem d_M_plain_161 : decode b_M_plain 161 = .ok (.getfield 16, 3) := by decide +kernel
theorem d_M_plain_164 : decode b_M_plain 164 = .ok (.iload_n 2, 1) := by decide +kernel
theorem d_M_plain_165 : decode b_M_plain 165 = .ok (.iaload, 1) := by decide +kernel
theorem d_M_plain_166 : decode b_M_plain 166 = .ok (.i2l, 1) := by decide +kernel
theorem d_M_plain_167 : decode b_M_plain 167 = .ok (.lmul, 1) := by decide +kernel
theorem d_M_plain_168 : decode b_M_plain 168 = .ok (.lload 7, 2) := by decide +kernel
theorem d_M_plain_170 : decode b_M_plain 170 = .ok (.invokevirtual 190, 3) := by decide +kernel
theorem d_M_plain_173 : decode b_M_plain 173 = .ok (.iload 9, 2) := by decide +kernel
theorem d_M_plain_175 : decode b_M_plain 175 = .ok (.bipush (6), 2) := by decide +kernel
theorem d_M_plain_177 : decode b_M_plain 177 = .ok (.if_icmp .ne (48), 3) := by decide +kernel
theorem d_M_plain_180 : decode b_M_plain 180 = .ok (.aload_n 0, 1) := by decide +kernel
theorem d_M_plain_181 : decode b_M_plain 181 = .ok (.aload_n 0, 1) := by decide +kernel
theorem d_M_plain_182 : decode b_M_plain 182 = .ok (.getfield 25, 3) := by decide +kernel
theorem d_M_plain_185 : decode b_M_plain 185 = .ok (.iload_n 2, 1) := by decide +kernel
theorem d_M_plain_186 : decode b_M_plain 186 = .ok (.iaload, 1) := by decide +kernel
theorem d_M_plain_187 : decode b_M_plain 187 = .ok (.aload_n 0, 1) := by decide +kernel
theorem d_M_plain_188 : decode b_M_plain 188 = .ok (.getfield 52, 3) := by decide +kernel
theorem d_M_plain_191 : decode b_M_plain 191 = .ok (.iload_n 1, 1) := by decide +kernel
theorem d_M_plain_192 : decode b_M_plain 192 = .ok (.laload, 1) := by decide +kernel
theorem d_M_plain_193 : decode b_M_plain 193 = .ok (.aload_n 0, 1) := by decide +kernel
theorem d_M_plain_194 : decode b_M_plain 194 = .ok (.getfield 56, 3) := by decide +kernel
theorem d_M_plain_197 : decode b_M_plain 197 = .ok (.iload_n 1, 1) := by decide +kernel
theorem d_M_plain_198 : decode b_M_plain 198 = .ok (.laload, 1) := by decide +kernel
theorem d_M_plain_199 : decode b_M_plain 199 = .ok (.lload 5, 2) := by decide +kernel
theorem d_M_plain_201 : decode b_M_plain 201 = .ok (.lload 7, 2) := by decide +kernel
theorem d_M_plain_203 : decode b_M_plain 203 = .ok (.lload 5, 2) := by decide +kernel
theorem d_M_plain_205 : decode b_M_plain 205 = .ok (.aload_n 0, 1) := by decide +kernel
theorem d_M_plain_206 : decode b_M_plain 206 = .ok (.getfield 19, 3) := by decide +kernel
theorem d_M_plain_209 : decode b_M_plain 209 = .ok (.iload_n 2, 1) := by decide +kernel
theorem d_M_plain_210 : decode b_M_plain 210 = .ok (.iaload, 1) := by decide +kernel
theorem d_M_plain_211 : decode b_M_plain 211 = .ok (.i2l, 1) := by decide +kernel
theorem d_M_plain_212 : decode b_M_plain 212 = .ok (.ldiv, 1) := by decide +kernel
theorem d_M_plain_213 : decode b_M_plain 213 = .ok (.aload_n 0, 1) := by decide +kernel
theorem d_M_plain_214 : decode b_M_plain 214 = .ok (.getfield 16, 3) := by decide +kernel
theorem d_M_plain_217 : decode b_M_plain 217 = .ok (.iload_n 2, 1) := by decide +kernel
theorem d_M_plain_218 : decode b_M_plain 218 = .ok (.iaload, 1) := by decide +kernel
theorem d_M_plain_219 : decode b_M_plain 219 = .ok (.i2l, 1) := by decide +kernel
theorem d_M_plain_220 : decode b_M_plain 220 = .ok (.lmul, 1) := by decide +kernel
theorem d_M_plain_221 : decode b_M_plain 221 = .ok (.ladd, 1) := by decide +kernel
theorem d_M_plain_222 : decode b_M_plain 222 = .ok (.invokevirtual 190, 3) := by decide +kernel
theorem d_M_plain_225 : decode b_M_plain 225 = .ok (.return_, 1) := by decide +kernel
theorem d_M_leaf_0 : decode b_M_leaf 0 = .ok (.aload_n 0, 1) := by decide +kernel
theorem d_M_leaf_1 : decode b_M_leaf 1 = .ok (.getfield 59, 3) := by decide +kernel
theorem d_M_leaf_4 : decode b_M_leaf 4 = .ok (.iload_n 1, 1) := by decide +kernel
theorem d_M_leaf_5 : decode b_M_leaf 5 = .ok (.laload, 1) := by decide +kernel
theorem d_M_leaf_6 : decode b_M_leaf 6 = .ok (.lload_n 2, 1) := by decide +kernel
theorem d_M_leaf_7 : decode b_M_leaf 7 = .ok (.lmul, 1) := by decide +kernel
theorem d_M_leaf_8 : decode b_M_leaf 8 = .ok (.aload_n 0, 1) := by decide +kernel
theorem d_M_leaf_9 : decode b_M_leaf 9 = .ok (.getfield 62, 3) := by decide +kernel
theorem d_M_leaf_12 : decode b_M_leaf 12 = .ok (.iload_n 1, 1) := by decide +kernel
theorem d_M_leaf_13 : decode b_M_leaf 13 = .ok (.laload, 1) := by decide +kernel
theorem d_M_leaf_14 : decode b_M_leaf 14 = .ok (.ladd, 1) := by decide +kernel
theorem d_M_leaf_15 : decode b_M_leaf 15 = .ok (.lstore 7, 2) := by decide +kernel
theorem d_M_leaf_17 : decode b_M_leaf 17 = .ok (.aload_n 0, 1) := by decide +kernel
theorem d_M_leaf_18 : decode b_M_leaf 18 = .ok (.getfield 59, 3) := by decide +kernel
theorem d_M_leaf_21 : decode b_M_leaf 21 = .ok (.iload_n 1, 1) := by decide +kernel
theorem d_M_leaf_22 : decode b_M_leaf 22 = .ok (.laload, 1) := by decide +kernel
theorem d_M_leaf_23 : decode b_M_leaf 23 = .ok (.lload_n 2, 1) := by decide +kernel
theorem d_M_leaf_24 : decode b_M_leaf 24 = .ok (.lconst 1, 1) := by decide +kernel
theorem d_M_leaf_25 : decode b_M_leaf 25 = .ok (.ladd, 1) := by decide +kernel
theorem d_M_leaf_26 : decode b_M_leaf 26 = .ok (.lmul, 1) := by decide +kernel
theorem d_M_leaf_27 : decode b_M_leaf 27 = .ok (.aload_n 0, 1) := by decide +kernel
theorem d_M_leaf_28 : decode b_M_leaf 28 = .ok (.getfield 62, 3) := by decide +kernel
theorem d_M_leaf_31 : decode b_M_leaf 31 = .ok (.iload_n 1, 1) := by decide +kernel
theorem d_M_leaf_32 : decode b_M_leaf 32 = .ok (.laload, 1) := by decide +kernel
theorem d_M_leaf_33 : decode b_M_leaf 33 = .ok (.ladd, 1) := by decide +kernel
theorem d_M_leaf_34 : decode b_M_leaf 34 = .ok (.lstore 9, 2) := by decide +kernel
theorem d_M_leaf_36 : decode b_M_leaf 36 = .ok (.aload_n 0, 1) := by decide +kernel
theorem d_M_leaf_37 : decode b_M_leaf 37 = .ok (.getfield 52, 3) := by decide +kernel
theorem d_M_leaf_40 : decode b_M_leaf 40 = .ok (.iload_n 1, 1) := by decide +kernel
theorem d_M_leaf_41 : decode b_M_leaf 41 = .ok (.laload, 1) := by decide +kernel
theorem d_M_leaf_42 : decode b_M_leaf 42 = .ok (.lload 7, 2) := by decide +kernel
theorem d_M_leaf_44 : decode b_M_leaf 44 = .ok (.lload 9, 2) := by decide +kernel
theorem d_M_leaf_46 : decode b_M_leaf 46 = .ok (.invokestatic 184, 3) := by decide +kernel
theorem d_M_leaf_49 : decode b_M_leaf 49 = .ok (.invokestatic 187, 3) := by decide +kernel
theorem d_M_leaf_52 : decode b_M_leaf 52 = .ok (.lstore 11, 2) := by decide +kernel
theorem d_M_leaf_54 : decode b_M_leaf 54 = .ok (.aload_n 0, 1) := by decide +kernel
theorem d_M_leaf_55 : decode b_M_leaf 55 = .ok (.getfield 56, 3) := by decide +kernel
theorem d_M_leaf_58 : decode b_M_leaf 58 = .ok (.iload_n 1, 1) := by decide +kernel
theorem d_M_leaf_59 : decode b_M_leaf 59 = .ok (.laload, 1) := by decide +kernel
theorem d_M_leaf_60 : decode b_M_leaf 60 = .ok (.lload 7, 2) := by decide +kernel
theorem d_M_leaf_62 : decode b_M_leaf 62 = .ok (.lload 9, 2) := by decide +kernel
theorem d_M_leaf_64 : decode b_M_leaf 64 = .ok (.invokestatic 187, 3) := by decide +kernel
theorem d_M_leaf_67 : decode b_M_leaf 67 = .ok (.invokestatic 184, 3) := by decide +kernel
theorem d_M_leaf_70 : decode b_M_leaf 70 = .ok (.lstore 13, 2) := by decide +kernel
theorem d_M_leaf_72 : decode b_M_leaf 72 = .ok (.lload 11, 2) := by decide +kernel
theorem d_M_leaf_74 : decode b_M_leaf 74 = .ok (.lload 13, 2) := by decide +kernel
theorem d_M_leaf_76 : decode b_M_leaf 76 = .ok (.lcmp, 1) := by decide +kernel
theorem d_M_leaf_77 : decode b_M_leaf 77 = .ok (.ifCond .lt (4), 3) := by decide +kernel
theorem d_M_leaf_80 : decode b_M_leaf 80 = .ok (.return_, 1) := by decide +kernel
theorem d_M_leaf_81 : decode b_M_leaf 81 = .ok (.iload 6, 2) := by decide +kernel
theorem d_M_leaf_83 : decode b_M_leaf 83 = .ok (.ifCond .lt (32), 3) := by decide +kernel
theorem d_M_leaf_86 : decode b_M_leaf 86 = .ok (.aload_n 0, 1) := by decide +kernel
theorem d_M_leaf_87 : decode b_M_leaf 87 = .ok (.iload 6, 2) := by decide +kernel
theorem d_M_leaf_89 : decode b_M_leaf 89 = .ok (.lload 11, 2) := by decide +kernel
theorem d_M_leaf_91 : decode b_M_leaf 91 = .ok (.lload 13, 2) := by decide +kernel
theorem d_M_leaf_93 : decode b_M_leaf 93 = .ok (.lload 7, 2) := by decide +kernel
theorem d_M_leaf_95 : decode b_M_leaf 95 = .ok (.lload 9, 2) := by decide +kernel
theorem d_M_leaf_97 : decode b_M_leaf 97 = .ok (.invokestatic 184, 3) := by decide +kernel
theorem d_M_leaf_100 : decode b_M_leaf 100 = .ok (.lload 7, 2) := by decide +kernel
theorem d_M_leaf_102 : decode b_M_leaf 102 = .ok (.lload 9, 2) := by decide +kernel
theorem d_M_leaf_104 : decode b_M_leaf 104 = .ok (.invokestatic 187, 3) := by decide +kernel
theorem d_M_leaf_107 : decode b_M_leaf 107 = .ok (.iload 4, 2) := by decide +kernel
theorem d_M_leaf_109 : decode b_M_leaf 109 = .ok (.invokevirtual 216, 3) := by decide +kernel
theorem d_M_leaf_112 : decode b_M_leaf 112 = .ok (.goto (33), 3) := by decide +kernel
theorem d_M_leaf_115 : decode b_M_leaf 115 = .ok (.lload 11, 2) := by decide +kernel
theorem d_M_leaf_117 : decode b_M_leaf 117 = .ok (.lload 7, 2) := by decide +kernel
theorem d_M_leaf_119 : decode b_M_leaf 119 = .ok (.lload 9, 2) := by decide +kernel
theorem d_M_leaf_121 : decode b_M_leaf 121 = .ok (.invokestatic 184, 3) := by decide +kernel
theorem d_M_leaf_124 : decode b_M_leaf 124 = .ok (.lcmp, 1) := by decide +kernel
theorem d_M_leaf_125 : decode b_M_leaf 125 = .ok (.ifCond .ne (20), 3) := by decide +kernel
theorem d_M_leaf_128 : decode b_M_leaf 128 = .ok (.aload_n 0, 1) := by decide +kernel
theorem d_M_leaf_129 : decode b_M_leaf 129 = .ok (.iload 5, 2) := by decide +kernel
theorem d_M_leaf_131 : decode b_M_leaf 131 = .ok (.lload 11, 2) := by decide +kernel
theorem d_M_leaf_133 : decode b_M_leaf 133 = .ok (.lload 7, 2) := by decide +kernel
theorem d_M_leaf_135 : decode b_M_leaf 135 = .ok (.lload 9, 2) := by decide +kernel
theorem d_M_leaf_137 : decode b_M_leaf 137 = .ok (.invokestatic 187, 3) := by decide +kernel
theorem d_M_leaf_140 : decode b_M_leaf 140 = .ok (.iload 4, 2) := by decide +kernel
theorem d_M_leaf_142 : decode b_M_leaf 142 = .ok (.invokevirtual 220, 3) := by decide +kernel
theorem d_M_leaf_145 : decode b_M_leaf 145 = .ok (.return_, 1) := by decide +kernel
theorem d_M_search_0 : decode b_M_search 0 = .ok (.aload_n 0, 1) := by decide +kernel
theorem d_M_search_1 : decode b_M_search 1 = .ok (.iconst 0, 1) := by decide +kernel
theorem d_M_search_2 : decode b_M_search 2 = .ok (.putfield 177, 3) := by decide +kernel
theorem d_M_search_5 : decode b_M_search 5 = .ok (.aload_n 0, 1) := by decide +kernel
theorem d_M_search_6 : decode b_M_search 6 = .ok (.aload_n 0, 1) := by decide +kernel
theorem d_M_search_7 : decode b_M_search 7 = .ok (.getfield 34, 3) := by decide +kernel
theorem d_M_search_10 : decode b_M_search 10 = .ok (.iload_n 1, 1) := by decide +kernel
theorem d_M_search_11 : decode b_M_search 11 = .ok (.iaload, 1) := by decide +kernel
theorem d_M_search_12 : decode b_M_search 12 = .ok (.lload_n 2, 1) := by decide +kernel
theorem d_M_search_13 : decode b_M_search 13 = .ok (.lload 4, 2) := by decide +kernel
theorem d_M_search_15 : decode b_M_search 15 = .ok (.lload 6, 2) := by decide +kernel
theorem d_M_search_17 : decode b_M_search 17 = .ok (.lconst 0, 1) := by decide +kernel
theorem d_M_search_18 : decode b_M_search 18 = .ok (.invokevirtual 190, 3) := by decide +kernel
theorem d_M_search_21 : decode b_M_search 21 = .ok (.aload_n 0, 1) := by decide +kernel
theorem d_M_search_22 : decode b_M_search 22 = .ok (.getfield 177, 3) := by decide +kernel
theorem d_M_search_25 : decode b_M_search 25 = .ok (.ifCond .le (13), 3) := by decide +kernel
theorem d_M_search_28 : decode b_M_search 28 = .ok (.aload_n 0, 1) := by decide +kernel
theorem d_M_search_29 : decode b_M_search 29 = .ok (.iload_n 1, 1) := by decide +kernel
theorem d_M_search_30 : decode b_M_search 30 = .ok (.iload 8, 2) := by decide +kernel
theorem d_M_search_32 : decode b_M_search 32 = .ok (.invokevirtual 224, 3) := by decide +kernel
theorem d_M_search_35 : decode b_M_search 35 = .ok (.goto (-14), 3) := by decide +kernel
theorem d_M_search_38 : decode b_M_search 38 = .ok (.return_, 1) := by decide +kernel
theorem d_M_isBefore_0 : decode b_M_isBefore 0 = .ok (.aload_n 0, 1) := by decide +kernel
theorem d_M_isBefore_1 : decode b_M_isBefore 1 = .ok (.getfield 81, 3) := by decide +kernel
theorem d_M_isBefore_4 : decode b_M_isBefore 4 = .ok (.iload_n 1, 1) := by decide +kernel
theorem d_M_isBefore_5 : decode b_M_isBefore 5 = .ok (.laload, 1) := by decide +kernel
theorem d_M_isBefore_6 : decode b_M_isBefore 6 = .ok (.lload_n 2, 1) := by decide +kernel
theorem d_M_isBefore_7 : decode b_M_isBefore 7 = .ok (.lcmp, 1) := by decide +kernel
theorem d_M_isBefore_8 : decode b_M_isBefore 8 = .ok (.ifCond .eq (20), 3) := by decide +kernel
theorem d_M_isBefore_11 : decode b_M_isBefore 11 = .ok (.aload_n 0, 1) := by decide +kernel
theorem d_M_isBefore_12 : decode b_M_isBefore 12 = .ok (.getfield 81, 3) := by decide +kernel
theorem d_M_isBefore_15 : decode b_M_isBefore 15 = .ok (.iload_n 1, 1) := by decide +kernel
theorem d_M_isBefore_16 : decode b_M_isBefore 16 = .ok (.laload, 1) := by decide +kernel
theorem d_M_isBefore_17 : decode b_M_isBefore 17 = .ok (.lload_n 2, 1) := by decide +kernel
theorem d_M_isBefore_18 : decode b_M_isBefore 18 = .ok (.lcmp, 1) := by decide +kernel
theorem d_M_isBefore_19 : decode b_M_isBefore 19 = .ok (.ifCond .ge (7), 3) := by decide +kernel
theorem d_M_isBefore_22 : decode b_M_isBefore 22 = .ok (.iconst 1, 1) := by decide +kernel
theorem d_M_isBefore_23 : decode b_M_isBefore 23 = .ok (.goto (4), 3) := by decide +kernel
theorem d_M_isBefore_26 : decode b_M_isBefore 26 = .ok (.iconst 0, 1) := by decide +kernel
theorem d_M_isBefore_27 : decode b_M_isBefore 27 = .ok (.ireturn, 1) := by decide +kernel
theorem d_M_isBefore_28 : decode b_M_isBefore 28 = .ok (.aload_n 0, 1) := by decide +kernel
theorem d_M_isBefore_29 : decode b_M_isBefore 29 = .ok (.getfield 87, 3) := by decide +kernel
theorem d_M_isBefore_32 : decode b_M_isBefore 32 = .ok (.iload_n 1, 1) := by decide +kernel
theorem d_M_isBefore_33 : decode b_M_isBefore 33 = .ok (.laload, 1) := by decide +kernel
theorem d_M_isBefore_34 : decode b_M_isBefore 34 = .ok (.lload 6, 2) := by decide +kernel
theorem d_M_isBefore_36 : decode b_M_isBefore 36 = .ok (.lcmp, 1) := by decide +kernel
theorem d_M_isBefore_37 : decode b_M_isBefore 37 = .ok (.ifCond .eq (21), 3) := by decide +kernel
theorem d_M_isBefore_40 : decode b_M_isBefore 40 = .ok (.aload_n 0, 1) := by decide +kernel
theorem d_M_isBefore_41 : decode b_M_isBefore 41 = .ok (.getfield 87, 3) := by decide +kernel
theorem d_M_isBefore_44 : decode b_M_isBefore 44 = .ok (.iload_n 1, 1) := by decide +kernel
theorem d_M_isBefore_45 : decode b_M_isBefore 45 = .ok (.laload, 1) := by decide +kernel
theorem d_M_isBefore_46 : decode b_M_isBefore 46 = .ok (.lload 6, 2) := by decide +kernel
theorem d_M_isBefore_48 : decode b_M_isBefore 48 = .ok (.lcmp, 1) := by decide +kernel
theorem d_M_isBefore_49 : decode b_M_isBefore 49 = .ok (.ifCond .ge (7), 3) := by decide +kernel
theorem d_M_isBefore_52 : decode b_M_isBefore 52 = .ok (.iconst 1, 1) := by decide +kernel
theorem d_M_isBefore_53 : decode b_M_isBefore 53 = .ok (.goto (4), 3) := by decide +kernel
theorem d_M_isBefore_56 : decode b_M_isBefore 56 = .ok (.iconst 0, 1) := by decide +kernel
theorem d_M_isBefore_57 : decode b_M_isBefore 57 = .ok (.ireturn, 1) := by decide +kernel
theorem d_M_isBefore_58 : decode b_M_isBefore 58 = .ok (.aload_n 0, 1) := by decide +kernel
theorem d_M_isBefore_59 : decode b_M_isBefore 59 = .ok (.getfield 84, 3) := by decide +kernel
theorem d_M_isBefore_62 : decode b_M_isBefore 62 = .ok (.iload_n 1, 1) := by decide +kernel
theorem d_M_isBefore_63 : decode b_M_isBefore 63 = .ok (.laload, 1) := by decide +kernel
theorem d_M_isBefore_64 : decode b_M_isBefore 64 = .ok (.lload 4, 2) := by decide +kernel
theorem d_M_isBefore_66 : decode b_M_isBefore 66 = .ok (.lcmp, 1) := by decide +kernel
theorem d_M_isBefore_67 : decode b_M_isBefore 67 = .ok (.ifCond .eq (21), 3) := by decide +kernel
theorem d_M_isBefore_70 : decode b_M_isBefore 70 = .ok (.aload_n 0, 1) := by decide +kernel
theorem d_M_isBefore_71 : decode b_M_isBefore 71 = .ok (.getfield 84, 3) := by decide +kernel
theorem d_M_isBefore_74 : decode b_M_isBefore 74 = .ok (.iload_n 1, 1) := by decide +kernel
theorem d_M_isBefore_75 : decode b_M_isBefore 75 = .ok (.laload, 1) := by decide +kernel
theorem d_M_isBefore_76 : decode b_M_isBefore 76 = .ok (.lload 4, 2) := by decide +kernel
theorem d_M_isBefore_78 : decode b_M_isBefore 78 = .ok (.lcmp, 1) := by decide +kernel
theorem d_M_isBefore_79 : decode b_M_isBefore 79 = .ok (.ifCond .ge (7), 3) := by decide +kernel
theorem d_M_isBefore_82 : decode b_M_isBefore 82 = .ok (.iconst 1, 1) := by decide +kernel
theorem d_M_isBefore_83 : decode b_M_isBefore 83 = .ok (.goto (4), 3) := by decide +kernel
theorem d_M_isBefore_86 : decode b_M_isBefore 86 = .ok (.iconst 0, 1) := by decide +kernel
theorem d_M_isBefore_87 : decode b_M_isBefore 87 = .ok (.ireturn, 1) := by decide +kernel
theorem d_M_isBefore_88 : decode b_M_isBefore 88 = .ok (.aload_n 0, 1) := by decide +kernel
theorem d_M_isBefore_89 : decode b_M_isBefore 89 = .ok (.getfield 90, 3) := by decide +kernel
theorem d_M_isBefore_92 : decode b_M_isBefore 92 = .ok (.iload_n 1, 1) := by decide +kernel
theorem d_M_isBefore_93 : decode b_M_isBefore 93 = .ok (.laload, 1) := by decide +kernel
theorem d_M_isBefore_94 : decode b_M_isBefore 94 = .ok (.lload 8, 2) := by decide +kernel
theorem d_M_isBefore_96 : decode b_M_isBefore 96 = .ok (.lcmp, 1) := by decide +kernel
theorem d_M_isBefore_97 : decode b_M_isBefore 97 = .ok (.ifCond .eq (23), 3) := by decide +kernel
theorem d_M_isBefore_100 : decode b_M_isBefore 100 = .ok (.aload_n 0, 1) := by decide +kernel
theorem d_M_isBefore_101 : decode b_M_isBefore 101 = .ok (.getfield 90, 3) := by decide +kernel
theorem d_M_isBefore_104 : decode b_M_isBefore 104 = .ok (.iload_n 1, 1) := by decide +kernel
theorem d_M_isBefore_105 : decode b_M_isBefore 105 = .ok (.laload, 1) := by decide +kernel
theorem d_M_isBefore_106 : decode b_M_isBefore 106 = .ok (.lload 8, 2) := by decide +kernel
theorem d_M_isBefore_108 : decode b_M_isBefore 108 = .ok (.lcmp, 1) := by decide +kernel
theorem d_M_isBefore_109 : decode b_M_isBefore 109 = .ok (.ifCond .ge (7), 3) := by decide +kernel
theorem d_M_isBefore_112 : decode b_M_isBefore 112 = .ok (.iconst 1, 1) := by decide +kernel
theorem d_M_isBefore_113 : decode b_M_isBefore 113 = .ok (.goto (23), 3) := by decide +kernel
theorem d_M_isBefore_116 : decode b_M_isBefore 116 = .ok (.iconst 0, 1) := by decide +kernel
theorem d_M_isBefore_117 : decode b_M_isBefore 117 = .ok (.goto (19), 3) := by decide +kernel
theorem d_M_isBefore_120 : decode b_M_isBefore 120 = .ok (.aload_n 0, 1) := by decide +kernel
theorem d_M_isBefore_121 : decode b_M_isBefore 121 = .ok (.getfield 93, 3) := by decide +kernel
theorem d_M_isBefore_124 : decode b_M_isBefore 124 = .ok (.iload_n 1, 1) := by decide +kernel
theorem d_M_isBefore_125 : decode b_M_isBefore 125 = .ok (.iaload, 1) := by decide +kernel
theorem d_M_isBefore_126 : decode b_M_isBefore 126 = .ok (.iload 10, 2) := by decide +kernel
theorem d_M_isBefore_128 : decode b_M_isBefore 128 = .ok (.if_icmp .gt (7), 3) := by decide +kernel
theorem d_M_isBefore_131 : decode b_M_isBefore 131 = .ok (.iconst 1, 1) := by decide +kernel
theorem d_M_isBefore_132 : decode b_M_isBefore 132 = .ok (.goto (4), 3) := by decide +kernel
theorem d_M_isBefore_135 : decode b_M_isBefore 135 = .ok (.iconst 0, 1) := by decide +kernel
theorem d_M_isBefore_136 : decode b_M_isBefore 136 = .ok (.ireturn, 1) := by decide +kernel
theorem d_M_add_0 : decode b_M_add 0 = .ok (.aload_n 0, 1) := by decide +kernel
theorem d_M_add_1 : decode b_M_add 1 = .ok (.getfield 74, 3) := by decide +kernel
theorem d_M_add_4 : decode b_M_add 4 = .ok (.iload_n 1, 1) := by decide +kernel
theorem d_M_add_5 : decode b_M_add 5 = .ok (.iaload, 1) := by decide +kernel
theorem d_M_add_6 : decode b_M_add 6 = .ok (.sipush (200), 3) := by decide +kernel
theorem d_M_add_9 : decode b_M_add 9 = .ok (.if_icmp .ne (11), 3) := by decide +kernel
theorem d_M_add_12 : decode b_M_add 12 = .ok (.aload_n 0, 1) := by decide +kernel
theorem d_M_add_13 : decode b_M_add 13 = .ok (.getfield 77, 3) := by decide +kernel
theorem d_M_add_16 : decode b_M_add 16 = .ok (.iload_n 1, 1) := by decide +kernel
theorem d_M_add_17 : decode b_M_add 17 = .ok (.iconst 1, 1) := by decide +kernel
theorem d_M_add_18 : decode b_M_add 18 = .ok (.bastore, 1) := by decide +kernel
theorem d_M_add_19 : decode b_M_add 19 = .ok (.return_, 1) := by decide +kernel
theorem d_M_add_20 : decode b_M_add 20 = .ok (.sipush (201), 3) := by decide +kernel
theorem d_M_add_23 : decode b_M_add 23 = .ok (.iload_n 1, 1) := by decide +kernel
theorem d_M_add_24 : decode b_M_add 24 = .ok (.imul, 1) := by decide +kernel
theorem d_M_add_25 : decode b_M_add 25 = .ok (.aload_n 0, 1) := by decide +kernel
theorem d_M_add_26 : decode b_M_add 26 = .ok (.getfield 74, 3) := by decide +kernel
theorem d_M_add_29 : decode b_M_add 29 = .ok (.iload_n 1, 1) := by decide +kernel
theorem d_M_add_30 : decode b_M_add 30 = .ok (.iaload, 1) := by decide +kernel
theorem d_M_add_31 : decode b_M_add 31 = .ok (.iadd, 1) := by decide +kernel
theorem d_M_add_32 : decode b_M_add 32 = .ok (.istore 11, 2) := by decide +kernel
theorem d_M_add_34 : decode b_M_add 34 = .ok (.iload 11, 2) := by decide +kernel
theorem d_M_add_36 : decode b_M_add 36 = .ok (.sipush (201), 3) := by decide +kernel
theorem d_M_add_39 : decode b_M_add 39 = .ok (.iload_n 1, 1) := by decide +kernel
theorem d_M_add_40 : decode b_M_add 40 = .ok (.imul, 1) := by decide +kernel
theorem d_M_add_41 : decode b_M_add 41 = .ok (.if_icmp .le (109), 3) := by decide +kernel
theorem d_M_add_44 : decode b_M_add 44 = .ok (.aload_n 0, 1) := by decide +kernel
theorem d_M_add_45 : decode b_M_add 45 = .ok (.iload 11, 2) := by decide +kernel
theorem d_M_add_47 : decode b_M_add 47 = .ok (.iconst 1, 1) := by decide +kernel
theorem d_M_add_48 : decode b_M_add 48 = .ok (.isub, 1) := by decide +kernel
theorem d_M_add_49 : decode b_M_add 49 = .ok (.lload_n 2, 1) := by decide +kernel
theorem d_M_add_50 : decode b_M_add 50 = .ok (.lload 4, 2) := by decide +kernel
theorem d_M_add_52 : decode b_M_add 52 = .ok (.lload 6, 2) := by decide +kernel
theorem d_M_add_54 : decode b_M_add 54 = .ok (.lload 8, 2) := by decide +kernel
theorem d_M_add_56 : decode b_M_add 56 = .ok (.iload 10, 2) := by decide +kernel
theorem d_M_add_58 : decode b_M_add 58 = .ok (.invokevirtual 227, 3) := by decide +kernel
theorem d_M_add_61 : decode b_M_add 61 = .ok (.ifCond .ne (89), 3) := by decide +kernel
theorem d_M_add_64 : decode b_M_add 64 = .ok (.aload_n 0, 1) := by decide +kernel
theorem d_M_add_65 : decode b_M_add 65 = .ok (.getfield 81, 3) := by decide +kernel
theorem d_M_add_68 : decode b_M_add 68 = .ok (.iload 11, 2) := by decide +kernel
theorem d_M_add_70 : decode b_M_add 70 = .ok (.aload_n 0, 1) := by decide +kernel
theorem d_M_add_71 : decode b_M_add 71 = .ok (.getfield 81, 3) := by decide +kernel
theorem d_M_add_74 : decode b_M_add 74 = .ok (.iload 11, 2) := by decide +kernel
theorem d_M_add_76 : decode b_M_add 76 = .ok (.iconst 1, 1) := by decide +kernel
theorem d_M_add_77 : decode b_M_add 77 = .ok (.isub, 1) := by decide +kernel
theorem d_M_add_78 : decode b_M_add 78 = .ok (.laload, 1) := by decide +kernel
theorem d_M_add_79 : decode b_M_add 79 = .ok (.lastore, 1) := by decide +kernel
theorem d_M_add_80 : decode b_M_add 80 = .ok (.aload_n 0, 1) := by decide +kernel
theorem d_M_add_81 : decode b_M_add 81 = .ok (.getfield 84, 3) := by decide +kernel
theorem d_M_add_84 : decode b_M_add 84 = .ok (.iload 11, 2) := by decide +kernel
theorem d_M_add_86 : decode b_M_add 86 = .ok (.aload_n 0, 1) := by decide +kernel
theorem d_M_add_87 : decode b_M_add 87 = .ok (.getfield 84, 3) := by decide +kernel
theorem d_M_add_90 : decode b_M_add 90 = .ok (.iload 11, 2) := by decide +kernel
theorem d_M_add_92 : decode b_M_add 92 = .ok (.iconst 1, 1) := by decide +kernel
theorem d_M_add_93 : decode b_M_add 93 = .ok (.isub, 1) := by decide +kernel
theorem d_M_add_94 : decode b_M_add 94 = .ok (.laload, 1) := by decide +kernel
theorem d_M_add_95 : decode b_M_add 95 = .ok (.lastore, 1) := by decide +kernel
theorem d_M_add_96 : decode b_M_add 96 = .ok (.aload_n 0, 1) := by decide +kernel
theorem d_M_add_97 : decode b_M_add 97 = .ok (.getfield 87, 3) := by decide +kernel
theorem d_M_add_100 : decode b_M_add 100 = .ok (.iload 11, 2) := by decide +kernel
theorem d_M_add_102 : decode b_M_add 102 = .ok (.aload_n 0, 1) := by decide +kernel
theorem d_M_add_103 : decode b_M_add 103 = .ok (.getfield 87, 3) := by decide +kernel
theorem d_M_add_106 : decode b_M_add 106 = .ok (.iload 11, 2) := by decide +kernel
theorem d_M_add_108 : decode b_M_add 108 = .ok (.iconst 1, 1) := by decide +kernel
theorem d_M_add_109 : decode b_M_add 109 = .ok (.isub, 1) := by decide +kernel
theorem d_M_add_110 : decode b_M_add 110 = .ok (.laload, 1) := by decide +kernel
theorem d_M_add_111 : decode b_M_add 111 = .ok (.lastore, 1) := by decide +kernel
theorem d_M_add_112 : decode b_M_add 112 = .ok (.aload_n 0, 1) := by decide +kernel
theorem d_M_add_113 : decode b_M_add 113 = .ok (.getfield 90, 3) := by decide +kernel
theorem d_M_add_116 : decode b_M_add 116 = .ok (.iload 11, 2) := by decide +kernel
theorem d_M_add_118 : decode b_M_add 118 = .ok (.aload_n 0, 1) := by decide +kernel
theorem d_M_add_119 : decode b_M_add 119 = .ok (.getfield 90, 3) := by decide +kernel
theorem d_M_add_122 : decode b_M_add 122 = .ok (.iload 11, 2) := by decide +kernel
theorem d_M_add_124 : decode b_M_add 124 = .ok (.iconst 1, 1) := by decide +kernel
theorem d_M_add_125 : decode b_M_add 125 = .ok (.isub, 1) := by decide +kernel
theorem d_M_add_126 : decode b_M_add 126 = .ok (.laload, 1) := by decide +kernel
theorem d_M_add_127 : decode b_M_add 127 = .ok (.lastore, 1) := by decide +kernel
theorem d_M_add_128 : decode b_M_add 128 = .ok (.aload_n 0, 1) := by decide +kernel
theorem d_M_add_129 : decode b_M_add 129 = .ok (.getfield 93, 3) := by decide +kernel
theorem d_M_add_132 : decode b_M_add 132 = .ok (.iload 11, 2) := by decide +kernel
theorem d_M_add_134 : decode b_M_add 134 = .ok (.aload_n 0, 1) := by decide +kernel
theorem d_M_add_135 : decode b_M_add 135 = .ok (.getfield 93, 3) := by decide +kernel
theorem d_M_add_138 : decode b_M_add 138 = .ok (.iload 11, 2) := by decide +kernel
theorem d_M_add_140 : decode b_M_add 140 = .ok (.iconst 1, 1) := by decide +kernel
theorem d_M_add_141 : decode b_M_add 141 = .ok (.isub, 1) := by decide +kernel
theorem d_M_add_142 : decode b_M_add 142 = .ok (.iaload, 1) := by decide +kernel
theorem d_M_add_143 : decode b_M_add 143 = .ok (.iastore, 1) := by decide +kernel
theorem d_M_add_144 : decode b_M_add 144 = .ok (.iinc 11 (-1), 3) := by decide +kernel
theorem d_M_add_147 : decode b_M_add 147 = .ok (.goto (-113), 3) := by decide +kernel
theorem d_M_add_150 : decode b_M_add 150 = .ok (.aload_n 0, 1) := by decide +kernel
theorem d_M_add_151 : decode b_M_add 151 = .ok (.getfield 81, 3) := by decide +kernel
theorem d_M_add_154 : decode b_M_add 154 = .ok (.iload 11, 2) := by decide +kernel
theorem d_M_add_156 : decode b_M_add 156 = .ok (.lload_n 2, 1) := by decide +kernel
theorem d_M_add_157 : decode b_M_add 157 = .ok (.lastore, 1) := by decide +kernel
theorem d_M_add_158 : decode b_M_add 158 = .ok (.aload_n 0, 1) := by decide +kernel
theorem d_M_add_159 : decode b_M_add 159 = .ok (.getfield 84, 3) := by decide +kernel
theorem d_M_add_162 : decode b_M_add 162 = .ok (.iload 11, 2) := by decide +kernel
theorem d_M_add_164 : decode b_M_add 164 = .ok (.lload 4, 2) := by decide +kernel
theorem d_M_add_166 : decode b_M_add 166 = .ok (.lastore, 1) := by decide +kernel
theorem d_M_add_167 : decode b_M_add 167 = .ok (.aload_n 0, 1) := by decide +kernel
theorem d_M_add_168 : decode b_M_add 168 = .ok (.getfield 87, 3) := by decide +kernel
theorem d_M_add_171 : decode b_M_add 171 = .ok (.iload 11, 2) := by decide +kernel
theorem d_M_add_173 : decode b_M_add 173 = .ok (.lload 6, 2) := by decide +kernel
theorem d_M_add_175 : decode b_M_add 175 = .ok (.lastore, 1) := by decide +kernel
theorem d_M_add_176 : decode b_M_add 176 = .ok (.aload_n 0, 1) := by decide +kernel
theorem d_M_add_177 : decode b_M_add 177 = .ok (.getfield 90, 3) := by decide +kernel
theorem d_M_add_180 : decode b_M_add 180 = .ok (.iload 11, 2) := by decide +kernel
theorem d_M_add_182 : decode b_M_add 182 = .ok (.lload 8, 2) := by decide +kernel
theorem d_M_add_184 : decode b_M_add 184 = .ok (.lastore, 1) := by decide +kernel
theorem d_M_add_185 : decode b_M_add 185 = .ok (.aload_n 0, 1) := by decide +kernel
theorem d_M_add_186 : decode b_M_add 186 = .ok (.getfield 93, 3) := by decide +kernel
theorem d_M_add_189 : decode b_M_add 189 = .ok (.iload 11, 2) := by decide +kernel
theorem d_M_add_191 : decode b_M_add 191 = .ok (.iload 10, 2) := by decide +kernel
theorem d_M_add_193 : decode b_M_add 193 = .ok (.iastore, 1) := by decide +kernel
theorem d_M_add_194 : decode b_M_add 194 = .ok (.aload_n 0, 1) := by decide +kernel
theorem d_M_add_195 : decode b_M_add 195 = .ok (.getfield 74, 3) := by decide +kernel
theorem d_M_add_198 : decode b_M_add 198 = .ok (.iload_n 1, 1) := by decide +kernel
theorem d_M_add_199 : decode b_M_add 199 = .ok (.dup2, 1) := by decide +kernel
theorem d_M_add_200 : decode b_M_add 200 = .ok (.iaload, 1) := by decide +kernel
theorem d_M_add_201 : decode b_M_add 201 = .ok (.iconst 1, 1) := by decide +kernel
theorem d_M_add_202 : decode b_M_add 202 = .ok (.iadd, 1) := by decide +kernel
theorem d_M_add_203 : decode b_M_add 203 = .ok (.iastore, 1) := by decide +kernel
theorem d_M_add_204 : decode b_M_add 204 = .ok (.return_, 1) := by decide +kernel
theorem d_M_gather_0 : decode b_M_gather 0 = .ok (.aload_n 0, 1) := by decide +kernel
theorem d_M_gather_1 : decode b_M_gather 1 = .ok (.getfield 74, 3) := by decide +kernel
theorem d_M_gather_4 : decode b_M_gather 4 = .ok (.iload 8, 2) := by decide +kernel
theorem d_M_gather_6 : decode b_M_gather 6 = .ok (.iconst 0, 1) := by decide +kernel
theorem d_M_gather_7 : decode b_M_gather 7 = .ok (.iastore, 1) := by decide +kernel
theorem d_M_gather_8 : decode b_M_gather 8 = .ok (.aload_n 0, 1) := by decide +kernel
theorem d_M_gather_9 : decode b_M_gather 9 = .ok (.getfield 77, 3) := by decide +kernel
theorem d_M_gather_12 : decode b_M_gather 12 = .ok (.iload 8, 2) := by decide +kernel
theorem d_M_gather_14 : decode b_M_gather 14 = .ok (.iconst 0, 1) := by decide +kernel
theorem d_M_gather_15 : decode b_M_gather 15 = .ok (.bastore, 1) := by decide +kernel
theorem d_M_gather_16 : decode b_M_gather 16 = .ok (.aload_n 0, 1) := by decide +kernel
theorem d_M_gather_17 : decode b_M_gather 17 = .ok (.iload_n 1, 1) := by decide +kernel
theorem d_M_gather_18 : decode b_M_gather 18 = .ok (.lload_n 2, 1) := by decide +kernel
theorem d_M_gather_19 : decode b_M_gather 19 = .ok (.lload 4, 2) := by decide +kernel
theorem d_M_gather_21 : decode b_M_gather 21 = .ok (.lload 6, 2) := by decide +kernel
theorem d_M_gather_23 : decode b_M_gather 23 = .ok (.iload 8, 2) := by decide +kernel
theorem d_M_gather_25 : decode b_M_gather 25 = .ok (.invokevirtual 231, 3) := by decide +kernel
theorem d_M_gather_28 : decode b_M_gather 28 = .ok (.return_, 1) := by decide +kernel
