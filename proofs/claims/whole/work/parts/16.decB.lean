/-! decode rows -/
theorem d_Rd_init_0 : decode b_Rd_init 0 = .ok (.aload_n 0, 1) := by decide +kernel
theorem d_Rd_init_1 : decode b_Rd_init 1 = .ok (.invokespecial 3, 3) := by decide +kernel
theorem d_Rd_init_4 : decode b_Rd_init 4 = .ok (.aload_n 0, 1) := by decide +kernel
theorem d_Rd_init_5 : decode b_Rd_init 5 = .ok (.bipush (40), 2) := by decide +kernel
theorem d_Rd_init_7 : decode b_Rd_init 7 = .ok (.newarray .char, 2) := by decide +kernel
theorem d_Rd_init_9 : decode b_Rd_init 9 = .ok (.putfield 11, 3) := by decide +kernel
theorem d_Rd_init_12 : decode b_Rd_init 12 = .ok (.return_, 1) := by decide +kernel
theorem d_Rd_areTypeable_0 : decode b_Rd_areTypeable 0 = .ok (.iconst 0, 1) := by decide +kernel
theorem d_Rd_areTypeable_1 : decode b_Rd_areTypeable 1 = .ok (.istore_n 3, 1) := by decide +kernel
theorem d_Rd_areTypeable_2 : decode b_Rd_areTypeable 2 = .ok (.iload_n 3, 1) := by decide +kernel
theorem d_Rd_areTypeable_3 : decode b_Rd_areTypeable 3 = .ok (.iload_n 2, 1) := by decide +kernel
theorem d_Rd_areTypeable_4 : decode b_Rd_areTypeable 4 = .ok (.if_icmp .ge (32), 3) := by decide +kernel
theorem d_Rd_areTypeable_7 : decode b_Rd_areTypeable 7 = .ok (.lload_n 0, 1) := by decide +kernel
theorem d_Rd_areTypeable_8 : decode b_Rd_areTypeable 8 = .ok (.iload_n 3, 1) := by decide +kernel
theorem d_Rd_areTypeable_9 : decode b_Rd_areTypeable 9 = .ok (.invokestatic 15, 3) := by decide +kernel
theorem d_Rd_areTypeable_12 : decode b_Rd_areTypeable 12 = .ok (.istore 4, 2) := by decide +kernel
theorem d_Rd_areTypeable_14 : decode b_Rd_areTypeable 14 = .ok (.iload 4, 2) := by decide +kernel
theorem d_Rd_areTypeable_16 : decode b_Rd_areTypeable 16 = .ok (.bipush (33), 2) := by decide +kernel
theorem d_Rd_areTypeable_18 : decode b_Rd_areTypeable 18 = .ok (.if_icmp .lt (10), 3) := by decide +kernel
theorem d_Rd_areTypeable_21 : decode b_Rd_areTypeable 21 = .ok (.iload 4, 2) := by decide +kernel
theorem d_Rd_areTypeable_23 : decode b_Rd_areTypeable 23 = .ok (.bipush (126), 2) := by decide +kernel
theorem d_Rd_areTypeable_25 : decode b_Rd_areTypeable 25 = .ok (.if_icmp .le (5), 3) := by decide +kernel
theorem d_Rd_areTypeable_28 : decode b_Rd_areTypeable 28 = .ok (.iconst 0, 1) := by decide +kernel
theorem d_Rd_areTypeable_29 : decode b_Rd_areTypeable 29 = .ok (.ireturn, 1) := by decide +kernel
theorem d_Rd_areTypeable_30 : decode b_Rd_areTypeable 30 = .ok (.iinc 3 (1), 3) := by decide +kernel
theorem d_Rd_areTypeable_33 : decode b_Rd_areTypeable 33 = .ok (.goto (-31), 3) := by decide +kernel
theorem d_Rd_areTypeable_36 : decode b_Rd_areTypeable 36 = .ok (.iconst 1, 1) := by decide +kernel
theorem d_Rd_areTypeable_37 : decode b_Rd_areTypeable 37 = .ok (.ireturn, 1) := by decide +kernel
theorem d_Rd_signAt_0 : decode b_Rd_signAt 0 = .ok (.lload_n 0, 1) := by decide +kernel
theorem d_Rd_signAt_1 : decode b_Rd_signAt 1 = .ok (.bipush (8), 2) := by decide +kernel
theorem d_Rd_signAt_3 : decode b_Rd_signAt 3 = .ok (.iload_n 2, 1) := by decide +kernel
theorem d_Rd_signAt_4 : decode b_Rd_signAt 4 = .ok (.imul, 1) := by decide +kernel
theorem d_Rd_signAt_5 : decode b_Rd_signAt 5 = .ok (.lushr, 1) := by decide +kernel
theorem d_Rd_signAt_6 : decode b_Rd_signAt 6 = .ok (.ldc2_w 19, 3) := by decide +kernel
theorem d_Rd_signAt_9 : decode b_Rd_signAt 9 = .ok (.land, 1) := by decide +kernel
theorem d_Rd_signAt_10 : decode b_Rd_signAt 10 = .ok (.l2i, 1) := by decide +kernel
theorem d_Rd_signAt_11 : decode b_Rd_signAt 11 = .ok (.i2c, 1) := by decide +kernel
theorem d_Rd_signAt_12 : decode b_Rd_signAt 12 = .ok (.ireturn, 1) := by decide +kernel
theorem d_Rd_append_0 : decode b_Rd_append 0 = .ok (.aload_n 0, 1) := by decide +kernel
theorem d_Rd_append_1 : decode b_Rd_append 1 = .ok (.getfield 21, 3) := by decide +kernel
theorem d_Rd_append_4 : decode b_Rd_append 4 = .ok (.iload_n 3, 1) := by decide +kernel
theorem d_Rd_append_5 : decode b_Rd_append 5 = .ok (.iadd, 1) := by decide +kernel
theorem d_Rd_append_6 : decode b_Rd_append 6 = .ok (.bipush (40), 2) := by decide +kernel
theorem d_Rd_append_8 : decode b_Rd_append 8 = .ok (.if_icmp .le (5), 3) := by decide +kernel
theorem d_Rd_append_11 : decode b_Rd_append 11 = .ok (.iconst 0, 1) := by decide +kernel
theorem d_Rd_append_12 : decode b_Rd_append 12 = .ok (.ireturn, 1) := by decide +kernel
theorem d_Rd_append_13 : decode b_Rd_append 13 = .ok (.iload_n 3, 1) := by decide +kernel
theorem d_Rd_append_14 : decode b_Rd_append 14 = .ok (.iconst 1, 1) := by decide +kernel
theorem d_Rd_append_15 : decode b_Rd_append 15 = .ok (.isub, 1) := by decide +kernel
theorem d_Rd_append_16 : decode b_Rd_append 16 = .ok (.istore 4, 2) := by decide +kernel
theorem d_Rd_append_18 : decode b_Rd_append 18 = .ok (.iload 4, 2) := by decide +kernel
theorem d_Rd_append_20 : decode b_Rd_append 20 = .ok (.ifCond .lt (34), 3) := by decide +kernel
theorem d_Rd_append_23 : decode b_Rd_append 23 = .ok (.aload_n 0, 1) := by decide +kernel
theorem d_Rd_append_24 : decode b_Rd_append 24 = .ok (.getfield 11, 3) := by decide +kernel
theorem d_Rd_append_27 : decode b_Rd_append 27 = .ok (.aload_n 0, 1) := by decide +kernel
theorem d_Rd_append_28 : decode b_Rd_append 28 = .ok (.getfield 21, 3) := by decide +kernel
theorem d_Rd_append_31 : decode b_Rd_append 31 = .ok (.lload_n 1, 1) := by decide +kernel
theorem d_Rd_append_32 : decode b_Rd_append 32 = .ok (.iload 4, 2) := by decide +kernel
theorem d_Rd_append_34 : decode b_Rd_append 34 = .ok (.invokestatic 15, 3) := by decide +kernel
theorem d_Rd_append_37 : decode b_Rd_append 37 = .ok (.castore, 1) := by decide +kernel
theorem d_Rd_append_38 : decode b_Rd_append 38 = .ok (.aload_n 0, 1) := by decide +kernel
theorem d_Rd_append_39 : decode b_Rd_append 39 = .ok (.dup, 1) := by decide +kernel
theorem d_Rd_append_40 : decode b_Rd_append 40 = .ok (.getfield 21, 3) := by decide +kernel
theorem d_Rd_append_43 : decode b_Rd_append 43 = .ok (.iconst 1, 1) := by decide +kernel
theorem d_Rd_append_44 : decode b_Rd_append 44 = .ok (.iadd, 1) := by decide +kernel
theorem d_Rd_append_45 : decode b_Rd_append 45 = .ok (.putfield 21, 3) := by decide +kernel
theorem d_Rd_append_48 : decode b_Rd_append 48 = .ok (.iinc 4 (-1), 3) := by decide +kernel
theorem d_Rd_append_51 : decode b_Rd_append 51 = .ok (.goto (-33), 3) := by decide +kernel
theorem d_Rd_append_54 : decode b_Rd_append 54 = .ok (.iconst 1, 1) := by decide +kernel
theorem d_Rd_append_55 : decode b_Rd_append 55 = .ok (.ireturn, 1) := by decide +kernel
theorem d_Rd_clear_0 : decode b_Rd_clear 0 = .ok (.aload_n 0, 1) := by decide +kernel
theorem d_Rd_clear_1 : decode b_Rd_clear 1 = .ok (.iconst 0, 1) := by decide +kernel
theorem d_Rd_clear_2 : decode b_Rd_clear 2 = .ok (.putfield 21, 3) := by decide +kernel
theorem d_Rd_clear_5 : decode b_Rd_clear 5 = .ok (.return_, 1) := by decide +kernel
theorem d_Rd_read_0 : decode b_Rd_read 0 = .ok (.aload_n 0, 1) := by decide +kernel
theorem d_Rd_read_1 : decode b_Rd_read 1 = .ok (.iconst 0, 1) := by decide +kernel
theorem d_Rd_read_2 : decode b_Rd_read 2 = .ok (.putfield 25, 3) := by decide +kernel
theorem d_Rd_read_5 : decode b_Rd_read 5 = .ok (.aload_n 0, 1) := by decide +kernel
theorem d_Rd_read_6 : decode b_Rd_read 6 = .ok (.iconst 1, 1) := by decide +kernel
theorem d_Rd_read_7 : decode b_Rd_read 7 = .ok (.putfield 28, 3) := by decide +kernel
theorem d_Rd_read_10 : decode b_Rd_read 10 = .ok (.aload_n 0, 1) := by decide +kernel
theorem d_Rd_read_11 : decode b_Rd_read 11 = .ok (.iconst 1, 1) := by decide +kernel
theorem d_Rd_read_12 : decode b_Rd_read 12 = .ok (.invokevirtual 31, 3) := by decide +kernel
theorem d_Rd_read_15 : decode b_Rd_read 15 = .ok (.astore_n 1, 1) := by decide +kernel
theorem d_Rd_read_16 : decode b_Rd_read 16 = .ok (.aload_n 0, 1) := by decide +kernel
theorem d_Rd_read_17 : decode b_Rd_read 17 = .ok (.getfield 25, 3) := by decide +kernel
theorem d_Rd_read_20 : decode b_Rd_read 20 = .ok (.aload_n 0, 1) := by decide +kernel
theorem d_Rd_read_21 : decode b_Rd_read 21 = .ok (.getfield 21, 3) := by decide +kernel
theorem d_Rd_read_24 : decode b_Rd_read 24 = .ok (.if_icmp .ne (7), 3) := by decide +kernel
theorem d_Rd_read_27 : decode b_Rd_read 27 = .ok (.aload_n 1, 1) := by decide +kernel
theorem d_Rd_read_28 : decode b_Rd_read 28 = .ok (.goto (4), 3) := by decide +kernel
theorem d_Rd_read_31 : decode b_Rd_read 31 = .ok (.aconst_null, 1) := by decide +kernel
theorem d_Rd_read_32 : decode b_Rd_read 32 = .ok (.areturn, 1) := by decide +kernel
theorem d_Rd_readPattern_0 : decode b_Rd_readPattern 0 = .ok (.aload_n 0, 1) := by decide +kernel
theorem d_Rd_readPattern_1 : decode b_Rd_readPattern 1 = .ok (.getfield 25, 3) := by decide +kernel
theorem d_Rd_readPattern_4 : decode b_Rd_readPattern 4 = .ok (.aload_n 0, 1) := by decide +kernel
theorem d_Rd_readPattern_5 : decode b_Rd_readPattern 5 = .ok (.getfield 21, 3) := by decide +kernel
theorem d_Rd_readPattern_8 : decode b_Rd_readPattern 8 = .ok (.if_icmp .ge (9), 3) := by decide +kernel
theorem d_Rd_readPattern_11 : decode b_Rd_readPattern 11 = .ok (.iload_n 1, 1) := by decide +kernel
theorem d_Rd_readPattern_12 : decode b_Rd_readPattern 12 = .ok (.bipush (40), 2) := by decide +kernel
theorem d_Rd_readPattern_14 : decode b_Rd_readPattern 14 = .ok (.if_icmp .le (5), 3) := by decide +kernel
theorem d_Rd_readPattern_17 : decode b_Rd_readPattern 17 = .ok (.aconst_null, 1) := by decide +kernel
theorem d_Rd_readPattern_18 : decode b_Rd_readPattern 18 = .ok (.areturn, 1) := by decide +kernel
theorem d_Rd_readPattern_19 : decode b_Rd_readPattern 19 = .ok (.aload_n 0, 1) := by decide +kernel
theorem d_Rd_readPattern_20 : decode b_Rd_readPattern 20 = .ok (.getfield 11, 3) := by decide +kernel
theorem d_Rd_readPattern_23 : decode b_Rd_readPattern 23 = .ok (.aload_n 0, 1) := by decide +kernel
theorem d_Rd_readPattern_24 : decode b_Rd_readPattern 24 = .ok (.getfield 25, 3) := by decide +kernel
theorem d_Rd_readPattern_27 : decode b_Rd_readPattern 27 = .ok (.caload, 1) := by decide +kernel
theorem d_Rd_readPattern_28 : decode b_Rd_readPattern 28 = .ok (.istore_n 2, 1) := by decide +kernel
theorem d_Rd_readPattern_29 : decode b_Rd_readPattern 29 = .ok (.iload_n 2, 1) := by decide +kernel
theorem d_Rd_readPattern_30 : decode b_Rd_readPattern 30 = .ok (.lookupswitch (125) #[(60, 91), (69, 109), (70, 109), (76, 109), (82, 109), (83, 109), (86, 117), (91, 82), (123, 100)], 82) := by decide +kernel
theorem d_Rd_readPattern_112 : decode b_Rd_readPattern 112 = .ok (.aload_n 0, 1) := by decide +kernel
theorem d_Rd_readPattern_113 : decode b_Rd_readPattern 113 = .ok (.iload_n 2, 1) := by decide +kernel
theorem d_Rd_readPattern_114 : decode b_Rd_readPattern 114 = .ok (.bipush (93), 2) := by decide +kernel
theorem d_Rd_readPattern_116 : decode b_Rd_readPattern 116 = .ok (.iload_n 1, 1) := by decide +kernel
theorem d_Rd_readPattern_117 : decode b_Rd_readPattern 117 = .ok (.invokevirtual 35, 3) := by decide +kernel
theorem d_Rd_readPattern_120 : decode b_Rd_readPattern 120 = .ok (.areturn, 1) := by decide +kernel
theorem d_Rd_readPattern_121 : decode b_Rd_readPattern 121 = .ok (.aload_n 0, 1) := by decide +kernel
theorem d_Rd_readPattern_122 : decode b_Rd_readPattern 122 = .ok (.iload_n 2, 1) := by decide +kernel
theorem d_Rd_readPattern_123 : decode b_Rd_readPattern 123 = .ok (.bipush (62), 2) := by decide +kernel
theorem d_Rd_readPattern_125 : decode b_Rd_readPattern 125 = .ok (.iload_n 1, 1) := by decide +kernel
theorem d_Rd_readPattern_126 : decode b_Rd_readPattern 126 = .ok (.invokevirtual 35, 3) := by decide +kernel
theorem d_Rd_readPattern_129 : decode b_Rd_readPattern 129 = .ok (.areturn, 1) := by decide +kernel
theorem d_Rd_readPattern_130 : decode b_Rd_readPattern 130 = .ok (.aload_n 0, 1) := by decide +kernel
theorem d_Rd_readPattern_131 : decode b_Rd_readPattern 131 = .ok (.iload_n 2, 1) := by decide +kernel
theorem d_Rd_readPattern_132 : decode b_Rd_readPattern 132 = .ok (.bipush (125), 2) := by decide +kernel
theorem d_Rd_readPattern_134 : decode b_Rd_readPattern 134 = .ok (.iload_n 1, 1) := by decide +kernel
theorem d_Rd_readPattern_135 : decode b_Rd_readPattern 135 = .ok (.invokevirtual 35, 3) := by decide +kernel
theorem d_Rd_readPattern_138 : decode b_Rd_readPattern 138 = .ok (.areturn, 1) := by decide +kernel
theorem d_Rd_readPattern_139 : decode b_Rd_readPattern 139 = .ok (.aload_n 0, 1) := by decide +kernel
theorem d_Rd_readPattern_140 : decode b_Rd_readPattern 140 = .ok (.iload_n 2, 1) := by decide +kernel
theorem d_Rd_readPattern_141 : decode b_Rd_readPattern 141 = .ok (.iconst 1, 1) := by decide +kernel
theorem d_Rd_readPattern_142 : decode b_Rd_readPattern 142 = .ok (.iload_n 1, 1) := by decide +kernel
theorem d_Rd_readPattern_143 : decode b_Rd_readPattern 143 = .ok (.invokevirtual 39, 3) := by decide +kernel
theorem d_Rd_readPattern_146 : decode b_Rd_readPattern 146 = .ok (.areturn, 1) := by decide +kernel
theorem d_Rd_readPattern_147 : decode b_Rd_readPattern 147 = .ok (.aload_n 0, 1) := by decide +kernel
theorem d_Rd_readPattern_148 : decode b_Rd_readPattern 148 = .ok (.iload_n 2, 1) := by decide +kernel
theorem d_Rd_readPattern_149 : decode b_Rd_readPattern 149 = .ok (.iconst 2, 1) := by decide +kernel
theorem d_Rd_readPattern_150 : decode b_Rd_readPattern 150 = .ok (.iload_n 1, 1) := by decide +kernel
theorem d_Rd_readPattern_151 : decode b_Rd_readPattern 151 = .ok (.invokevirtual 39, 3) := by decide +kernel
theorem d_Rd_readPattern_154 : decode b_Rd_readPattern 154 = .ok (.areturn, 1) := by decide +kernel
theorem d_Rd_readPattern_155 : decode b_Rd_readPattern 155 = .ok (.aload_n 0, 1) := by decide +kernel
theorem d_Rd_readPattern_156 : decode b_Rd_readPattern 156 = .ok (.iload_n 2, 1) := by decide +kernel
theorem d_Rd_readPattern_157 : decode b_Rd_readPattern 157 = .ok (.invokevirtual 43, 3) := by decide +kernel
theorem d_Rd_readPattern_160 : decode b_Rd_readPattern 160 = .ok (.areturn, 1) := by decide +kernel
theorem d_Rd_readLetterOrRest_0 : decode b_Rd_readLetterOrRest 0 = .ok (.iload_n 1, 1) := by decide +kernel
theorem d_Rd_readLetterOrRest_1 : decode b_Rd_readLetterOrRest 1 = .ok (.bipush (126), 2) := by decide +kernel
theorem d_Rd_readLetterOrRest_3 : decode b_Rd_readLetterOrRest 3 = .ok (.if_icmp .eq (12), 3) := by decide +kernel
theorem d_Rd_readLetterOrRest_6 : decode b_Rd_readLetterOrRest 6 = .ok (.iload_n 1, 1) := by decide +kernel
theorem d_Rd_readLetterOrRest_7 : decode b_Rd_readLetterOrRest 7 = .ok (.invokestatic 47, 3) := by decide +kernel
theorem d_Rd_readLetterOrRest_10 : decode b_Rd_readLetterOrRest 10 = .ok (.ifCond .ne (5), 3) := by decide +kernel
theorem d_Rd_readLetterOrRest_13 : decode b_Rd_readLetterOrRest 13 = .ok (.aconst_null, 1) := by decide +kernel
theorem d_Rd_readLetterOrRest_14 : decode b_Rd_readLetterOrRest 14 = .ok (.areturn, 1) := by decide +kernel
theorem d_Rd_readLetterOrRest_15 : decode b_Rd_readLetterOrRest 15 = .ok (.aload_n 0, 1) := by decide +kernel
theorem d_Rd_readLetterOrRest_16 : decode b_Rd_readLetterOrRest 16 = .ok (.dup, 1) := by decide +kernel
theorem d_Rd_readLetterOrRest_17 : decode b_Rd_readLetterOrRest 17 = .ok (.getfield 25, 3) := by decide +kernel
theorem d_Rd_readLetterOrRest_20 : decode b_Rd_readLetterOrRest 20 = .ok (.iconst 1, 1) := by decide +kernel
theorem d_Rd_readLetterOrRest_21 : decode b_Rd_readLetterOrRest 21 = .ok (.iadd, 1) := by decide +kernel
theorem d_Rd_readLetterOrRest_22 : decode b_Rd_readLetterOrRest 22 = .ok (.putfield 25, 3) := by decide +kernel
theorem d_Rd_readLetterOrRest_25 : decode b_Rd_readLetterOrRest 25 = .ok (.new 48, 3) := by decide +kernel
theorem d_Rd_readLetterOrRest_28 : decode b_Rd_readLetterOrRest 28 = .ok (.dup, 1) := by decide +kernel
theorem d_Rd_readLetterOrRest_29 : decode b_Rd_readLetterOrRest 29 = .ok (.iload_n 1, 1) := by decide +kernel
theorem d_Rd_readLetterOrRest_30 : decode b_Rd_readLetterOrRest 30 = .ok (.iconst 0, 1) := by decide +kernel
theorem d_Rd_readLetterOrRest_31 : decode b_Rd_readLetterOrRest 31 = .ok (.invokespecial 53, 3) := by decide +kernel
theorem d_Rd_readLetterOrRest_34 : decode b_Rd_readLetterOrRest 34 = .ok (.areturn, 1) := by decide +kernel
theorem d_Rd_readGroup_0 : decode b_Rd_readGroup 0 = .ok (.aload_n 0, 1) := by decide +kernel
theorem d_Rd_readGroup_1 : decode b_Rd_readGroup 1 = .ok (.dup, 1) := by decide +kernel
theorem d_Rd_readGroup_2 : decode b_Rd_readGroup 2 = .ok (.getfield 25, 3) := by decide +kernel
theorem d_Rd_readGroup_5 : decode b_Rd_readGroup 5 = .ok (.iconst 1, 1) := by decide +kernel
theorem d_Rd_readGroup_6 : decode b_Rd_readGroup 6 = .ok (.iadd, 1) := by decide +kernel
theorem d_Rd_readGroup_7 : decode b_Rd_readGroup 7 = .ok (.putfield 25, 3) := by decide +kernel
theorem d_Rd_readGroup_10 : decode b_Rd_readGroup 10 = .ok (.new 48, 3) := by decide +kernel
theorem d_Rd_readGroup_13 : decode b_Rd_readGroup 13 = .ok (.dup, 1) := by decide +kernel
theorem d_Rd_readGroup_14 : decode b_Rd_readGroup 14 = .ok (.iload_n 1, 1) := by decide +kernel
theorem d_Rd_readGroup_15 : decode b_Rd_readGroup 15 = .ok (.bipush (9), 2) := by decide +kernel
theorem d_Rd_readGroup_17 : decode b_Rd_readGroup 17 = .ok (.invokespecial 53, 3) := by decide +kernel
theorem d_Rd_readGroup_20 : decode b_Rd_readGroup 20 = .ok (.astore 4, 2) := by decide +kernel
theorem d_Rd_readGroup_22 : decode b_Rd_readGroup 22 = .ok (.iconst 0, 1) := by decide +kernel
theorem d_Rd_readGroup_23 : decode b_Rd_readGroup 23 = .ok (.istore 5, 2) := by decide +kernel
theorem d_Rd_readGroup_25 : decode b_Rd_readGroup 25 = .ok (.iload 5, 2) := by decide +kernel
theorem d_Rd_readGroup_27 : decode b_Rd_readGroup 27 = .ok (.bipush (9), 2) := by decide +kernel
theorem d_Rd_readGroup_29 : decode b_Rd_readGroup 29 = .ok (.if_icmp .ge (39), 3) := by decide +kernel
theorem d_Rd_readGroup_32 : decode b_Rd_readGroup 32 = .ok (.iload 5, 2) := by decide +kernel
theorem d_Rd_readGroup_34 : decode b_Rd_readGroup 34 = .ok (.ifCond .eq (11), 3) := by decide +kernel
theorem d_Rd_readGroup_37 : decode b_Rd_readGroup 37 = .ok (.aload_n 0, 1) := by decide +kernel
theorem d_Rd_readGroup_38 : decode b_Rd_readGroup 38 = .ok (.iload_n 2, 1) := by decide +kernel
theorem d_Rd_readGroup_39 : decode b_Rd_readGroup 39 = .ok (.invokevirtual 56, 3) := by decide +kernel
theorem d_Rd_readGroup_42 : decode b_Rd_readGroup 42 = .ok (.ifCond .ne (26), 3) := by decide +kernel
theorem d_Rd_readGroup_45 : decode b_Rd_readGroup 45 = .ok (.aload 4, 2) := by decide +kernel
theorem d_Rd_readGroup_47 : decode b_Rd_readGroup 47 = .ok (.aload_n 0, 1) := by decide +kernel
theorem d_Rd_readGroup_48 : decode b_Rd_readGroup 48 = .ok (.iload_n 3, 1) := by decide +kernel
theorem d_Rd_readGroup_49 : decode b_Rd_readGroup 49 = .ok (.iconst 1, 1) := by decide +kernel
theorem d_Rd_readGroup_50 : decode b_Rd_readGroup 50 = .ok (.iadd, 1) := by decide +kernel
theorem d_Rd_readGroup_51 : decode b_Rd_readGroup 51 = .ok (.invokevirtual 31, 3) := by decide +kernel
theorem d_Rd_readGroup_54 : decode b_Rd_readGroup 54 = .ok (.invokevirtual 59, 3) := by decide +kernel
theorem d_Rd_readGroup_57 : decode b_Rd_readGroup 57 = .ok (.ifCond .ne (5), 3) := by decide +kernel
theorem d_Rd_readGroup_60 : decode b_Rd_readGroup 60 = .ok (.aconst_null, 1) := by decide +kernel
theorem d_Rd_readGroup_61 : decode b_Rd_readGroup 61 = .ok (.areturn, 1) := by decide +kernel
theorem d_Rd_readGroup_62 : decode b_Rd_readGroup 62 = .ok (.iinc 5 (1), 3) := by decide +kernel
theorem d_Rd_readGroup_65 : decode b_Rd_readGroup 65 = .ok (.goto (-40), 3) := by decide +kernel
theorem d_Rd_readGroup_68 : decode b_Rd_readGroup 68 = .ok (.aload_n 0, 1) := by decide +kernel
theorem d_Rd_readGroup_69 : decode b_Rd_readGroup 69 = .ok (.iload_n 2, 1) := by decide +kernel
theorem d_Rd_readGroup_70 : decode b_Rd_readGroup 70 = .ok (.invokevirtual 56, 3) := by decide +kernel
theorem d_Rd_readGroup_73 : decode b_Rd_readGroup 73 = .ok (.ifCond .ne (5), 3) := by decide +kernel
theorem d_Rd_readGroup_76 : decode b_Rd_readGroup 76 = .ok (.aconst_null, 1) := by decide +kernel
theorem d_Rd_readGroup_77 : decode b_Rd_readGroup 77 = .ok (.areturn, 1) := by decide +kernel
theorem d_Rd_readGroup_78 : decode b_Rd_readGroup 78 = .ok (.aload_n 0, 1) := by decide +kernel
theorem d_Rd_readGroup_79 : decode b_Rd_readGroup 79 = .ok (.dup, 1) := by decide +kernel
theorem d_Rd_readGroup_80 : decode b_Rd_readGroup 80 = .ok (.getfield 25, 3) := by decide +kernel
theorem d_Rd_readGroup_83 : decode b_Rd_readGroup 83 = .ok (.iconst 1, 1) := by decide +kernel
theorem d_Rd_readGroup_84 : decode b_Rd_readGroup 84 = .ok (.iadd, 1) := by decide +kernel
theorem d_Rd_readGroup_85 : decode b_Rd_readGroup 85 = .ok (.putfield 25, 3) := by decide +kernel
theorem d_Rd_readGroup_88 : decode b_Rd_readGroup 88 = .ok (.aload 4, 2) := by decide +kernel
theorem d_Rd_readGroup_90 : decode b_Rd_readGroup 90 = .ok (.aload 4, 2) := by decide +kernel
theorem d_Rd_readGroup_92 : decode b_Rd_readGroup 92 = .ok (.getfield 63, 3) := by decide +kernel
theorem d_Rd_readGroup_95 : decode b_Rd_readGroup 95 = .ok (.putfield 66, 3) := by decide +kernel
theorem d_Rd_readGroup_98 : decode b_Rd_readGroup 98 = .ok (.iload_n 1, 1) := by decide +kernel
theorem d_Rd_readGroup_99 : decode b_Rd_readGroup 99 = .ok (.bipush (91), 2) := by decide +kernel
theorem d_Rd_readGroup_101 : decode b_Rd_readGroup 101 = .ok (.if_icmp .ne (13), 3) := by decide +kernel
theorem d_Rd_readGroup_104 : decode b_Rd_readGroup 104 = .ok (.aload_n 0, 1) := by decide +kernel
theorem d_Rd_readGroup_105 : decode b_Rd_readGroup 105 = .ok (.aload 4, 2) := by decide +kernel
theorem d_Rd_readGroup_107 : decode b_Rd_readGroup 107 = .ok (.getfield 66, 3) := by decide +kernel
theorem d_Rd_readGroup_110 : decode b_Rd_readGroup 110 = .ok (.invokevirtual 69, 3) := by decide +kernel
theorem d_Rd_readGroup_113 : decode b_Rd_readGroup 113 = .ok (.pop, 1) := by decide +kernel
theorem d_Rd_readGroup_114 : decode b_Rd_readGroup 114 = .ok (.aload 4, 2) := by decide +kernel
theorem d_Rd_readGroup_116 : decode b_Rd_readGroup 116 = .ok (.areturn, 1) := by decide +kernel
theorem d_Rd_isAt_0 : decode b_Rd_isAt 0 = .ok (.aload_n 0, 1) := by decide +kernel
theorem d_Rd_isAt_1 : decode b_Rd_isAt 1 = .ok (.getfield 25, 3) := by decide +kernel
theorem d_Rd_isAt_4 : decode b_Rd_isAt 4 = .ok (.aload_n 0, 1) := by decide +kernel
theorem d_Rd_isAt_5 : decode b_Rd_isAt 5 = .ok (.getfield 21, 3) := by decide +kernel
theorem d_Rd_isAt_8 : decode b_Rd_isAt 8 = .ok (.if_icmp .ge (20), 3) := by decide +kernel
theorem d_Rd_isAt_11 : decode b_Rd_isAt 11 = .ok (.aload_n 0, 1) := by decide +kernel
theorem d_Rd_isAt_12 : decode b_Rd_isAt 12 = .ok (.getfield 11, 3) := by decide +kernel
theorem d_Rd_isAt_15 : decode b_Rd_isAt 15 = .ok (.aload_n 0, 1) := by decide +kernel
theorem d_Rd_isAt_16 : decode b_Rd_isAt 16 = .ok (.getfield 25, 3) := by decide +kernel
theorem d_Rd_isAt_19 : decode b_Rd_isAt 19 = .ok (.caload, 1) := by decide +kernel
theorem d_Rd_isAt_20 : decode b_Rd_isAt 20 = .ok (.iload_n 1, 1) := by decide +kernel
theorem d_Rd_isAt_21 : decode b_Rd_isAt 21 = .ok (.if_icmp .ne (7), 3) := by decide +kernel
theorem d_Rd_isAt_24 : decode b_Rd_isAt 24 = .ok (.iconst 1, 1) := by decide +kernel
theorem d_Rd_isAt_25 : decode b_Rd_isAt 25 = .ok (.goto (4), 3) := by decide +kernel
theorem d_Rd_isAt_28 : decode b_Rd_isAt 28 = .ok (.iconst 0, 1) := by decide +kernel
theorem d_Rd_isAt_29 : decode b_Rd_isAt 29 = .ok (.ireturn, 1) := by decide +kernel
theorem d_Rd_readOperator_0 : decode b_Rd_readOperator 0 = .ok (.aload_n 0, 1) := by decide +kernel
theorem d_Rd_readOperator_1 : decode b_Rd_readOperator 1 = .ok (.dup, 1) := by decide +kernel
theorem d_Rd_readOperator_2 : decode b_Rd_readOperator 2 = .ok (.getfield 25, 3) := by decide +kernel
theorem d_Rd_readOperator_5 : decode b_Rd_readOperator 5 = .ok (.iconst 1, 1) := by decide +kernel
theorem d_Rd_readOperator_6 : decode b_Rd_readOperator 6 = .ok (.iadd, 1) := by decide +kernel
theorem d_Rd_readOperator_7 : decode b_Rd_readOperator 7 = .ok (.putfield 25, 3) := by decide +kernel
theorem d_Rd_readOperator_10 : decode b_Rd_readOperator 10 = .ok (.new 48, 3) := by decide +kernel
theorem d_Rd_readOperator_13 : decode b_Rd_readOperator 13 = .ok (.dup, 1) := by decide +kernel
theorem d_Rd_readOperator_14 : decode b_Rd_readOperator 14 = .ok (.iload_n 1, 1) := by decide +kernel
theorem d_Rd_readOperator_15 : decode b_Rd_readOperator 15 = .ok (.iload_n 2, 1) := by decide +kernel
theorem d_Rd_readOperator_16 : decode b_Rd_readOperator 16 = .ok (.invokespecial 53, 3) := by decide +kernel
theorem d_Rd_readOperator_19 : decode b_Rd_readOperator 19 = .ok (.astore 4, 2) := by decide +kernel
theorem d_Rd_readOperator_21 : decode b_Rd_readOperator 21 = .ok (.aload_n 0, 1) := by decide +kernel
theorem d_Rd_readOperator_22 : decode b_Rd_readOperator 22 = .ok (.aload 4, 2) := by decide +kernel
theorem d_Rd_readOperator_24 : decode b_Rd_readOperator 24 = .ok (.invokevirtual 73, 3) := by decide +kernel
theorem d_Rd_readOperator_27 : decode b_Rd_readOperator 27 = .ok (.ifCond .ne (5), 3) := by decide +kernel
theorem d_Rd_readOperator_30 : decode b_Rd_readOperator 30 = .ok (.aconst_null, 1) := by decide +kernel
theorem d_Rd_readOperator_31 : decode b_Rd_readOperator 31 = .ok (.areturn, 1) := by decide +kernel
theorem d_Rd_readOperator_32 : decode b_Rd_readOperator 32 = .ok (.iconst 0, 1) := by decide +kernel
theorem d_Rd_readOperator_33 : decode b_Rd_readOperator 33 = .ok (.istore 5, 2) := by decide +kernel
theorem d_Rd_readOperator_35 : decode b_Rd_readOperator 35 = .ok (.iload 5, 2) := by decide +kernel
theorem d_Rd_readOperator_37 : decode b_Rd_readOperator 37 = .ok (.iload_n 2, 1) := by decide +kernel
theorem d_Rd_readOperator_38 : decode b_Rd_readOperator 38 = .ok (.if_icmp .ge (26), 3) := by decide +kernel
theorem d_Rd_readOperator_41 : decode b_Rd_readOperator 41 = .ok (.aload 4, 2) := by decide +kernel
theorem d_Rd_readOperator_43 : decode b_Rd_readOperator 43 = .ok (.aload_n 0, 1) := by decide +kernel
theorem d_Rd_readOperator_44 : decode b_Rd_readOperator 44 = .ok (.iload_n 3, 1) := by decide +kernel
theorem d_Rd_readOperator_45 : decode b_Rd_readOperator 45 = .ok (.iconst 1, 1) := by decide +kernel
theorem d_Rd_readOperator_46 : decode b_Rd_readOperator 46 = .ok (.iadd, 1) := by decide +kernel
theorem d_Rd_readOperator_47 : decode b_Rd_readOperator 47 = .ok (.invokevirtual 31, 3) := by decide +kernel
theorem d_Rd_readOperator_50 : decode b_Rd_readOperator 50 = .ok (.invokevirtual 59, 3) := by decide +kernel
theorem d_Rd_readOperator_53 : decode b_Rd_readOperator 53 = .ok (.ifCond .ne (5), 3) := by decide +kernel
theorem d_Rd_readOperator_56 : decode b_Rd_readOperator 56 = .ok (.aconst_null, 1) := by decide +kernel
theorem d_Rd_readOperator_57 : decode b_Rd_readOperator 57 = .ok (.areturn, 1) := by decide +kernel
theorem d_Rd_readOperator_58 : decode b_Rd_readOperator 58 = .ok (.iinc 5 (1), 3) := by decide +kernel
theorem d_Rd_readOperator_61 : decode b_Rd_readOperator 61 = .ok (.goto (-26), 3) := by decide +kernel
theorem d_Rd_readOperator_64 : decode b_Rd_readOperator 64 = .ok (.aload 4, 2) := by decide +kernel
theorem d_Rd_readOperator_66 : decode b_Rd_readOperator 66 = .ok (.areturn, 1) := by decide +kernel
theorem d_Rd_readDigits_0 : decode b_Rd_readDigits 0 = .ok (.aload_n 1, 1) := by decide +kernel
theorem d_Rd_readDigits_1 : decode b_Rd_readDigits 1 = .ok (.getfield 76, 3) := by decide +kernel
theorem d_Rd_readDigits_4 : decode b_Rd_readDigits 4 = .ok (.lookupswitch (170) #[(69, 120), (70, 52), (76, 78), (83, 52), (86, 113)], 52) := by decide +kernel
theorem d_Rd_readDigits_56 : decode b_Rd_readDigits 56 = .ok (.aload_n 0, 1) := by decide +kernel
theorem d_Rd_readDigits_57 : decode b_Rd_readDigits 57 = .ok (.aload_n 1, 1) := by decide +kernel
theorem d_Rd_readDigits_58 : decode b_Rd_readDigits 58 = .ok (.iconst 1, 1) := by decide +kernel
theorem d_Rd_readDigits_59 : decode b_Rd_readDigits 59 = .ok (.invokevirtual 80, 3) := by decide +kernel
theorem d_Rd_readDigits_62 : decode b_Rd_readDigits 62 = .ok (.ifCond .eq (18), 3) := by decide +kernel
theorem d_Rd_readDigits_65 : decode b_Rd_readDigits 65 = .ok (.aload_n 0, 1) := by decide +kernel
theorem d_Rd_readDigits_66 : decode b_Rd_readDigits 66 = .ok (.aload_n 1, 1) := by decide +kernel
theorem d_Rd_readDigits_67 : decode b_Rd_readDigits 67 = .ok (.getfield 84, 3) := by decide +kernel
theorem d_Rd_readDigits_70 : decode b_Rd_readDigits 70 = .ok (.invokevirtual 69, 3) := by decide +kernel
theorem d_Rd_readDigits_73 : decode b_Rd_readDigits 73 = .ok (.ifCond .eq (7), 3) := by decide +kernel
theorem d_Rd_readDigits_76 : decode b_Rd_readDigits 76 = .ok (.iconst 1, 1) := by decide +kernel
theorem d_Rd_readDigits_77 : decode b_Rd_readDigits 77 = .ok (.goto (4), 3) := by decide +kernel
theorem d_Rd_readDigits_80 : decode b_Rd_readDigits 80 = .ok (.iconst 0, 1) := by decide +kernel
theorem d_Rd_readDigits_81 : decode b_Rd_readDigits 81 = .ok (.ireturn, 1) := by decide +kernel
theorem d_Rd_readDigits_82 : decode b_Rd_readDigits 82 = .ok (.aload_n 0, 1) := by decide +kernel
theorem d_Rd_readDigits_83 : decode b_Rd_readDigits 83 = .ok (.aload_n 1, 1) := by decide +kernel
theorem d_Rd_readDigits_84 : decode b_Rd_readDigits 84 = .ok (.iconst 1, 1) := by decide +kernel
theorem d_Rd_readDigits_85 : decode b_Rd_readDigits 85 = .ok (.invokevirtual 80, 3) := by decide +kernel
theorem d_Rd_readDigits_88 : decode b_Rd_readDigits 88 = .ok (.ifCond .eq (27), 3) := by decide +kernel
theorem d_Rd_readDigits_91 : decode b_Rd_readDigits 91 = .ok (.aload_n 0, 1) := by decide +kernel
theorem d_Rd_readDigits_92 : decode b_Rd_readDigits 92 = .ok (.aload_n 1, 1) := by decide +kernel
theorem d_Rd_readDigits_93 : decode b_Rd_readDigits 93 = .ok (.iconst 1, 1) := by decide +kernel
theorem d_Rd_readDigits_94 : decode b_Rd_readDigits 94 = .ok (.invokevirtual 87, 3) := by decide +kernel
theorem d_Rd_readDigits_97 : decode b_Rd_readDigits 97 = .ok (.ifCond .eq (18), 3) := by decide +kernel
theorem d_Rd_readDigits_100 : decode b_Rd_readDigits 100 = .ok (.aload_n 0, 1) := by decide +kernel
theorem d_Rd_readDigits_101 : decode b_Rd_readDigits 101 = .ok (.aload_n 1, 1) := by decide +kernel
theorem d_Rd_readDigits_102 : decode b_Rd_readDigits 102 = .ok (.getfield 66, 3) := by decide +kernel
theorem d_Rd_readDigits_105 : decode b_Rd_readDigits 105 = .ok (.invokevirtual 69, 3) := by decide +kernel
theorem d_Rd_readDigits_108 : decode b_Rd_readDigits 108 = .ok (.ifCond .eq (7), 3) := by decide +kernel
theorem d_Rd_readDigits_111 : decode b_Rd_readDigits 111 = .ok (.iconst 1, 1) := by decide +kernel
theorem d_Rd_readDigits_112 : decode b_Rd_readDigits 112 = .ok (.goto (4), 3) := by decide +kernel
theorem d_Rd_readDigits_115 : decode b_Rd_readDigits 115 = .ok (.iconst 0, 1) := by decide +kernel
theorem d_Rd_readDigits_116 : decode b_Rd_readDigits 116 = .ok (.ireturn, 1) := by decide +kernel
theorem d_Rd_readDigits_117 : decode b_Rd_readDigits 117 = .ok (.aload_n 0, 1) := by decide +kernel
theorem d_Rd_readDigits_118 : decode b_Rd_readDigits 118 = .ok (.aload_n 1, 1) := by decide +kernel
theorem d_Rd_readDigits_119 : decode b_Rd_readDigits 119 = .ok (.iconst 1, 1) := by decide +kernel
theorem d_Rd_readDigits_120 : decode b_Rd_readDigits 120 = .ok (.invokevirtual 80, 3) := by decide +kernel
theorem d_Rd_readDigits_123 : decode b_Rd_readDigits 123 = .ok (.ireturn, 1) := by decide +kernel
theorem d_Rd_readDigits_124 : decode b_Rd_readDigits 124 = .ok (.aload_n 0, 1) := by decide +kernel
theorem d_Rd_readDigits_125 : decode b_Rd_readDigits 125 = .ok (.aload_n 1, 1) := by decide +kernel
theorem d_Rd_readDigits_126 : decode b_Rd_readDigits 126 = .ok (.iconst 0, 1) := by decide +kernel
theorem d_Rd_readDigits_127 : decode b_Rd_readDigits 127 = .ok (.invokevirtual 80, 3) := by decide +kernel
theorem d_Rd_readDigits_130 : decode b_Rd_readDigits 130 = .ok (.ifCond .eq (42), 3) := by decide +kernel
theorem d_Rd_readDigits_133 : decode b_Rd_readDigits 133 = .ok (.aload_n 0, 1) := by decide +kernel
theorem d_Rd_readDigits_134 : decode b_Rd_readDigits 134 = .ok (.aload_n 1, 1) := by decide +kernel
theorem d_Rd_readDigits_135 : decode b_Rd_readDigits 135 = .ok (.iconst 1, 1) := by decide +kernel
theorem d_Rd_readDigits_136 : decode b_Rd_readDigits 136 = .ok (.aload_n 1, 1) := by decide +kernel
theorem d_Rd_readDigits_137 : decode b_Rd_readDigits 137 = .ok (.getfield 84, 3) := by decide +kernel
theorem d_Rd_readDigits_140 : decode b_Rd_readDigits 140 = .ok (.invokestatic 90, 3) := by decide +kernel
theorem d_Rd_readDigits_143 : decode b_Rd_readDigits 143 = .ok (.invokevirtual 87, 3) := by decide +kernel
theorem d_Rd_readDigits_146 : decode b_Rd_readDigits 146 = .ok (.ifCond .eq (26), 3) := by decide +kernel
theorem d_Rd_readDigits_149 : decode b_Rd_readDigits 149 = .ok (.aload_n 0, 1) := by decide +kernel
theorem d_Rd_readDigits_150 : decode b_Rd_readDigits 150 = .ok (.aload_n 1, 1) := by decide +kernel
theorem d_Rd_readDigits_151 : decode b_Rd_readDigits 151 = .ok (.getfield 66, 3) := by decide +kernel
theorem d_Rd_readDigits_154 : decode b_Rd_readDigits 154 = .ok (.invokevirtual 69, 3) := by decide +kernel
theorem d_Rd_readDigits_157 : decode b_Rd_readDigits 157 = .ok (.ifCond .eq (15), 3) := by decide +kernel
theorem d_Rd_readDigits_160 : decode b_Rd_readDigits 160 = .ok (.aload_n 0, 1) := by decide +kernel
theorem d_Rd_readDigits_161 : decode b_Rd_readDigits 161 = .ok (.aload_n 1, 1) := by decide +kernel
theorem d_Rd_readDigits_162 : decode b_Rd_readDigits 162 = .ok (.invokevirtual 96, 3) := by decide +kernel
theorem d_Rd_readDigits_165 : decode b_Rd_readDigits 165 = .ok (.ifCond .eq (7), 3) := by decide +kernel
theorem d_Rd_readDigits_168 : decode b_Rd_readDigits 168 = .ok (.iconst 1, 1) := by decide +kernel
theorem d_Rd_readDigits_169 : decode b_Rd_readDigits 169 = .ok (.goto (4), 3) := by decide +kernel
theorem d_Rd_readDigits_172 : decode b_Rd_readDigits 172 = .ok (.iconst 0, 1) := by decide +kernel
theorem d_Rd_readDigits_173 : decode b_Rd_readDigits 173 = .ok (.ireturn, 1) := by decide +kernel
theorem d_Rd_readDigits_174 : decode b_Rd_readDigits 174 = .ok (.iconst 1, 1) := by decide +kernel
theorem d_Rd_readDigits_175 : decode b_Rd_readDigits 175 = .ok (.ireturn, 1) := by decide +kernel
theorem d_Rd_readK_0 : decode b_Rd_readK 0 = .ok (.aload_n 1, 1) := by decide +kernel
theorem d_Rd_readK_1 : decode b_Rd_readK 1 = .ok (.aload_n 0, 1) := by decide +kernel
theorem d_Rd_readK_2 : decode b_Rd_readK 2 = .ok (.iload_n 2, 1) := by decide +kernel
theorem d_Rd_readK_3 : decode b_Rd_readK 3 = .ok (.invokevirtual 99, 3) := by decide +kernel
theorem d_Rd_readK_6 : decode b_Rd_readK 6 = .ok (.putfield 84, 3) := by decide +kernel
theorem d_Rd_readK_9 : decode b_Rd_readK 9 = .ok (.aload_n 1, 1) := by decide +kernel
theorem d_Rd_readK_10 : decode b_Rd_readK 10 = .ok (.getfield 84, 3) := by decide +kernel
theorem d_Rd_readK_13 : decode b_Rd_readK 13 = .ok (.ifCond .lt (7), 3) := by decide +kernel
theorem d_Rd_readK_16 : decode b_Rd_readK 16 = .ok (.iconst 1, 1) := by decide +kernel
theorem d_Rd_readK_17 : decode b_Rd_readK 17 = .ok (.goto (4), 3) := by decide +kernel
theorem d_Rd_readK_20 : decode b_Rd_readK 20 = .ok (.iconst 0, 1) := by decide +kernel
theorem d_Rd_readK_21 : decode b_Rd_readK 21 = .ok (.ireturn, 1) := by decide +kernel
theorem d_Rd_readN_0 : decode b_Rd_readN 0 = .ok (.aload_n 1, 1) := by decide +kernel
theorem d_Rd_readN_1 : decode b_Rd_readN 1 = .ok (.aload_n 0, 1) := by decide +kernel
theorem d_Rd_readN_2 : decode b_Rd_readN 2 = .ok (.iload_n 2, 1) := by decide +kernel
theorem d_Rd_readN_3 : decode b_Rd_readN 3 = .ok (.invokevirtual 99, 3) := by decide +kernel
theorem d_Rd_readN_6 : decode b_Rd_readN 6 = .ok (.putfield 66, 3) := by decide +kernel
theorem d_Rd_readN_9 : decode b_Rd_readN 9 = .ok (.aload_n 1, 1) := by decide +kernel
theorem d_Rd_readN_10 : decode b_Rd_readN 10 = .ok (.getfield 66, 3) := by decide +kernel
theorem d_Rd_readN_13 : decode b_Rd_readN 13 = .ok (.ifCond .lt (7), 3) := by decide +kernel
theorem d_Rd_readN_16 : decode b_Rd_readN 16 = .ok (.iconst 1, 1) := by decide +kernel
theorem d_Rd_readN_17 : decode b_Rd_readN 17 = .ok (.goto (4), 3) := by decide +kernel
theorem d_Rd_readN_20 : decode b_Rd_readN 20 = .ok (.iconst 0, 1) := by decide +kernel
theorem d_Rd_readN_21 : decode b_Rd_readN 21 = .ok (.ireturn, 1) := by decide +kernel
theorem d_Rd_readR_0 : decode b_Rd_readR 0 = .ok (.aload_n 1, 1) := by decide +kernel
theorem d_Rd_readR_1 : decode b_Rd_readR 1 = .ok (.aload_n 0, 1) := by decide +kernel
theorem d_Rd_readR_2 : decode b_Rd_readR 2 = .ok (.iconst 0, 1) := by decide +kernel
theorem d_Rd_readR_3 : decode b_Rd_readR 3 = .ok (.invokevirtual 99, 3) := by decide +kernel
theorem d_Rd_readR_6 : decode b_Rd_readR 6 = .ok (.putfield 103, 3) := by decide +kernel
theorem d_Rd_readR_9 : decode b_Rd_readR 9 = .ok (.aload_n 1, 1) := by decide +kernel
theorem d_Rd_readR_10 : decode b_Rd_readR 10 = .ok (.getfield 103, 3) := by decide +kernel
theorem d_Rd_readR_13 : decode b_Rd_readR 13 = .ok (.ifCond .lt (7), 3) := by decide +kernel
theorem d_Rd_readR_16 : decode b_Rd_readR 16 = .ok (.iconst 1, 1) := by decide +kernel
theorem d_Rd_readR_17 : decode b_Rd_readR 17 = .ok (.goto (4), 3) := by decide +kernel
theorem d_Rd_readR_20 : decode b_Rd_readR 20 = .ok (.iconst 0, 1) := by decide +kernel
theorem d_Rd_readR_21 : decode b_Rd_readR 21 = .ok (.ireturn, 1) := by decide +kernel
theorem d_Rd_readDigit_0 : decode b_Rd_readDigit 0 = .ok (.aload_n 0, 1) := by decide +kernel
theorem d_Rd_readDigit_1 : decode b_Rd_readDigit 1 = .ok (.getfield 25, 3) := by decide +kernel
theorem d_Rd_readDigit_4 : decode b_Rd_readDigit 4 = .ok (.aload_n 0, 1) := by decide +kernel
theorem d_Rd_readDigit_5 : decode b_Rd_readDigit 5 = .ok (.getfield 21, 3) := by decide +kernel
theorem d_Rd_readDigit_8 : decode b_Rd_readDigit 8 = .ok (.if_icmp .ge (18), 3) := by decide +kernel
theorem d_Rd_readDigit_11 : decode b_Rd_readDigit 11 = .ok (.aload_n 0, 1) := by decide +kernel
theorem d_Rd_readDigit_12 : decode b_Rd_readDigit 12 = .ok (.getfield 11, 3) := by decide +kernel
theorem d_Rd_readDigit_15 : decode b_Rd_readDigit 15 = .ok (.aload_n 0, 1) := by decide +kernel
theorem d_Rd_readDigit_16 : decode b_Rd_readDigit 16 = .ok (.getfield 25, 3) := by decide +kernel
theorem d_Rd_readDigit_19 : decode b_Rd_readDigit 19 = .ok (.caload, 1) := by decide +kernel
theorem d_Rd_readDigit_20 : decode b_Rd_readDigit 20 = .ok (.bipush (48), 2) := by decide +kernel
theorem d_Rd_readDigit_22 : decode b_Rd_readDigit 22 = .ok (.isub, 1) := by decide +kernel
theorem d_Rd_readDigit_23 : decode b_Rd_readDigit 23 = .ok (.goto (4), 3) := by decide +kernel
theorem d_Rd_readDigit_26 : decode b_Rd_readDigit 26 = .ok (.iconst (-1), 1) := by decide +kernel
theorem d_Rd_readDigit_27 : decode b_Rd_readDigit 27 = .ok (.istore_n 2, 1) := by decide +kernel
theorem d_Rd_readDigit_28 : decode b_Rd_readDigit 28 = .ok (.iload_n 2, 1) := by decide +kernel
theorem d_Rd_readDigit_29 : decode b_Rd_readDigit 29 = .ok (.iload_n 1, 1) := by decide +kernel
theorem d_Rd_readDigit_30 : decode b_Rd_readDigit 30 = .ok (.if_icmp .lt (9), 3) := by decide +kernel
theorem d_Rd_readDigit_33 : decode b_Rd_readDigit 33 = .ok (.iload_n 2, 1) := by decide +kernel
theorem d_Rd_readDigit_34 : decode b_Rd_readDigit 34 = .ok (.bipush (9), 2) := by decide +kernel
theorem d_Rd_readDigit_36 : decode b_Rd_readDigit 36 = .ok (.if_icmp .le (5), 3) := by decide +kernel
theorem d_Rd_readDigit_39 : decode b_Rd_readDigit 39 = .ok (.iconst (-1), 1) := by decide +kernel
theorem d_Rd_readDigit_40 : decode b_Rd_readDigit 40 = .ok (.ireturn, 1) := by decide +kernel
theorem d_Rd_readDigit_41 : decode b_Rd_readDigit 41 = .ok (.aload_n 0, 1) := by decide +kernel
theorem d_Rd_readDigit_42 : decode b_Rd_readDigit 42 = .ok (.dup, 1) := by decide +kernel
theorem d_Rd_readDigit_43 : decode b_Rd_readDigit 43 = .ok (.getfield 25, 3) := by decide +kernel
theorem d_Rd_readDigit_46 : decode b_Rd_readDigit 46 = .ok (.iconst 1, 1) := by decide +kernel
theorem d_Rd_readDigit_47 : decode b_Rd_readDigit 47 = .ok (.iadd, 1) := by decide +kernel
theorem d_Rd_readDigit_48 : decode b_Rd_readDigit 48 = .ok (.putfield 25, 3) := by decide +kernel
theorem d_Rd_readDigit_51 : decode b_Rd_readDigit 51 = .ok (.iload_n 2, 1) := by decide +kernel
theorem d_Rd_readDigit_52 : decode b_Rd_readDigit 52 = .ok (.ireturn, 1) := by decide +kernel
theorem d_Rd_refineGrain_0 : decode b_Rd_refineGrain 0 = .ok (.aload_n 0, 1) := by decide +kernel
theorem d_Rd_refineGrain_1 : decode b_Rd_refineGrain 1 = .ok (.getfield 28, 3) := by decide +kernel
theorem d_Rd_refineGrain_4 : decode b_Rd_refineGrain 4 = .ok (.sipush (5040), 3) := by decide +kernel
theorem d_Rd_refineGrain_7 : decode b_Rd_refineGrain 7 = .ok (.if_icmp .gt (13), 3) := by decide +kernel
theorem d_Rd_refineGrain_10 : decode b_Rd_refineGrain 10 = .ok (.aload_n 0, 1) := by decide +kernel
theorem d_Rd_refineGrain_11 : decode b_Rd_refineGrain 11 = .ok (.dup, 1) := by decide +kernel
theorem d_Rd_refineGrain_12 : decode b_Rd_refineGrain 12 = .ok (.getfield 28, 3) := by decide +kernel
theorem d_Rd_refineGrain_15 : decode b_Rd_refineGrain 15 = .ok (.iload_n 1, 1) := by decide +kernel
theorem d_Rd_refineGrain_16 : decode b_Rd_refineGrain 16 = .ok (.imul, 1) := by decide +kernel
theorem d_Rd_refineGrain_17 : decode b_Rd_refineGrain 17 = .ok (.putfield 28, 3) := by decide +kernel
theorem d_Rd_refineGrain_20 : decode b_Rd_refineGrain 20 = .ok (.iconst 1, 1) := by decide +kernel
theorem d_Rd_refineGrain_21 : decode b_Rd_refineGrain 21 = .ok (.ireturn, 1) := by decide +kernel
theorem d_Wk_init_0 : decode b_Wk_init 0 = .ok (.aload_n 0, 1) := by decide +kernel
theorem d_Wk_init_1 : decode b_Wk_init 1 = .ok (.invokespecial 1, 3) := by decide +kernel
theorem d_Wk_init_4 : decode b_Wk_init 4 = .ok (.aload_n 0, 1) := by decide +kernel
theorem d_Wk_init_5 : decode b_Wk_init 5 = .ok (.new 7, 3) := by decide +kernel
theorem d_Wk_init_8 : decode b_Wk_init 8 = .ok (.dup, 1) := by decide +kernel
theorem d_Wk_init_9 : decode b_Wk_init 9 = .ok (.iload_n 1, 1) := by decide +kernel
theorem d_Wk_init_10 : decode b_Wk_init 10 = .ok (.invokespecial 9, 3) := by decide +kernel
theorem d_Wk_init_13 : decode b_Wk_init 13 = .ok (.putfield 12, 3) := by decide +kernel
theorem d_Wk_init_16 : decode b_Wk_init 16 = .ok (.return_, 1) := by decide +kernel
theorem d_Wk_walk_0 : decode b_Wk_walk 0 = .ok (.aload_n 1, 1) := by decide +kernel
theorem d_Wk_walk_1 : decode b_Wk_walk 1 = .ok (.ifnull (31), 3) := by decide +kernel
theorem d_Wk_walk_4 : decode b_Wk_walk 4 = .ok (.aload_n 1, 1) := by decide +kernel
theorem d_Wk_walk_5 : decode b_Wk_walk 5 = .ok (.invokevirtual 18, 3) := by decide +kernel
theorem d_Wk_walk_8 : decode b_Wk_walk 8 = .ok (.ifCond .eq (24), 3) := by decide +kernel
theorem d_Wk_walk_11 : decode b_Wk_walk 11 = .ok (.lload_n 2, 1) := by decide +kernel
theorem d_Wk_walk_12 : decode b_Wk_walk 12 = .ok (.lconst 0, 1) := by decide +kernel
theorem d_Wk_walk_13 : decode b_Wk_walk 13 = .ok (.lcmp, 1) := by decide +kernel
theorem d_Wk_walk_14 : decode b_Wk_walk 14 = .ok (.ifCond .eq (18), 3) := by decide +kernel
theorem d_Wk_walk_17 : decode b_Wk_walk 17 = .ok (.lload 6, 2) := by decide +kernel
theorem d_Wk_walk_19 : decode b_Wk_walk 19 = .ok (.lload 8, 2) := by decide +kernel
theorem d_Wk_walk_21 : decode b_Wk_walk 21 = .ok (.lcmp, 1) := by decide +kernel
theorem d_Wk_walk_22 : decode b_Wk_walk 22 = .ok (.ifCond .ge (10), 3) := by decide +kernel
theorem d_Wk_walk_25 : decode b_Wk_walk 25 = .ok (.iload 10, 2) := by decide +kernel
theorem d_Wk_walk_27 : decode b_Wk_walk 27 = .ok (.bipush (40), 2) := by decide +kernel
theorem d_Wk_walk_29 : decode b_Wk_walk 29 = .ok (.if_icmp .le (4), 3) := by decide +kernel
theorem d_Wk_walk_32 : decode b_Wk_walk 32 = .ok (.return_, 1) := by decide +kernel
theorem d_Wk_walk_33 : decode b_Wk_walk 33 = .ok (.aload_n 1, 1) := by decide +kernel
theorem d_Wk_walk_34 : decode b_Wk_walk 34 = .ok (.getfield 26, 3) := by decide +kernel
theorem d_Wk_walk_37 : decode b_Wk_walk 37 = .ok (.lookupswitch (194) #[(70, 43), (76, 101), (83, 72), (123, 142)], 43) := by decide +kernel
theorem d_Wk_walk_80 : decode b_Wk_walk 80 = .ok (.aload_n 0, 1) := by decide +kernel
theorem d_Wk_walk_81 : decode b_Wk_walk 81 = .ok (.aload_n 1, 1) := by decide +kernel
theorem d_Wk_walk_82 : decode b_Wk_walk 82 = .ok (.iconst 0, 1) := by decide +kernel
theorem d_Wk_walk_83 : decode b_Wk_walk 83 = .ok (.invokevirtual 30, 3) := by decide +kernel
theorem d_Wk_walk_86 : decode b_Wk_walk 86 = .ok (.lload_n 2, 1) := by decide +kernel
theorem d_Wk_walk_87 : decode b_Wk_walk 87 = .ok (.aload_n 1, 1) := by decide +kernel
theorem d_Wk_walk_88 : decode b_Wk_walk 88 = .ok (.getfield 34, 3) := by decide +kernel
theorem d_Wk_walk_91 : decode b_Wk_walk 91 = .ok (.i2l, 1) := by decide +kernel
theorem d_Wk_walk_92 : decode b_Wk_walk 92 = .ok (.ldiv, 1) := by decide +kernel
theorem d_Wk_walk_93 : decode b_Wk_walk 93 = .ok (.lload 4, 2) := by decide +kernel
theorem d_Wk_walk_95 : decode b_Wk_walk 95 = .ok (.lload 6, 2) := by decide +kernel
theorem d_Wk_walk_97 : decode b_Wk_walk 97 = .ok (.lload 8, 2) := by decide +kernel
theorem d_Wk_walk_99 : decode b_Wk_walk 99 = .ok (.iload 10, 2) := by decide +kernel
theorem d_Wk_walk_101 : decode b_Wk_walk 101 = .ok (.iconst 1, 1) := by decide +kernel
theorem d_Wk_walk_102 : decode b_Wk_walk 102 = .ok (.iadd, 1) := by decide +kernel
theorem d_Wk_walk_103 : decode b_Wk_walk 103 = .ok (.invokevirtual 38, 3) := by decide +kernel
theorem d_Wk_walk_106 : decode b_Wk_walk 106 = .ok (.goto (139), 3) := by decide +kernel
theorem d_Wk_walk_109 : decode b_Wk_walk 109 = .ok (.aload_n 0, 1) := by decide +kernel
theorem d_Wk_walk_110 : decode b_Wk_walk 110 = .ok (.aload_n 1, 1) := by decide +kernel
theorem d_Wk_walk_111 : decode b_Wk_walk 111 = .ok (.iconst 0, 1) := by decide +kernel
theorem d_Wk_walk_112 : decode b_Wk_walk 112 = .ok (.invokevirtual 30, 3) := by decide +kernel
theorem d_Wk_walk_115 : decode b_Wk_walk 115 = .ok (.lload_n 2, 1) := by decide +kernel
theorem d_Wk_walk_116 : decode b_Wk_walk 116 = .ok (.aload_n 1, 1) := by decide +kernel
theorem d_Wk_walk_117 : decode b_Wk_walk 117 = .ok (.getfield 34, 3) := by decide +kernel
theorem d_Wk_walk_120 : decode b_Wk_walk 120 = .ok (.i2l, 1) := by decide +kernel
theorem d_Wk_walk_121 : decode b_Wk_walk 121 = .ok (.lmul, 1) := by decide +kernel
theorem d_Wk_walk_122 : decode b_Wk_walk 122 = .ok (.lload 4, 2) := by decide +kernel
theorem d_Wk_walk_124 : decode b_Wk_walk 124 = .ok (.lload 6, 2) := by decide +kernel
theorem d_Wk_walk_126 : decode b_Wk_walk 126 = .ok (.lload 8, 2) := by decide +kernel
theorem d_Wk_walk_128 : decode b_Wk_walk 128 = .ok (.iload 10, 2) := by decide +kernel
theorem d_Wk_walk_130 : decode b_Wk_walk 130 = .ok (.iconst 1, 1) := by decide +kernel
theorem d_Wk_walk_131 : decode b_Wk_walk 131 = .ok (.iadd, 1) := by decide +kernel
theorem d_Wk_walk_132 : decode b_Wk_walk 132 = .ok (.invokevirtual 38, 3) := by decide +kernel
theorem d_Wk_walk_135 : decode b_Wk_walk 135 = .ok (.goto (110), 3) := by decide +kernel
theorem d_Wk_walk_138 : decode b_Wk_walk 138 = .ok (.lload 4, 2) := by decide +kernel
theorem d_Wk_walk_140 : decode b_Wk_walk 140 = .ok (.lload_n 2, 1) := by decide +kernel
theorem d_Wk_walk_141 : decode b_Wk_walk 141 = .ok (.aload_n 1, 1) := by decide +kernel
theorem d_Wk_walk_142 : decode b_Wk_walk 142 = .ok (.getfield 42, 3) := by decide +kernel
theorem d_Wk_walk_145 : decode b_Wk_walk 145 = .ok (.i2l, 1) := by decide +kernel
theorem d_Wk_walk_146 : decode b_Wk_walk 146 = .ok (.ldiv, 1) := by decide +kernel
theorem d_Wk_walk_147 : decode b_Wk_walk 147 = .ok (.aload_n 1, 1) := by decide +kernel
theorem d_Wk_walk_148 : decode b_Wk_walk 148 = .ok (.getfield 34, 3) := by decide +kernel
theorem d_Wk_walk_151 : decode b_Wk_walk 151 = .ok (.i2l, 1) := by decide +kernel
theorem d_Wk_walk_152 : decode b_Wk_walk 152 = .ok (.lmul, 1) := by decide +kernel
theorem d_Wk_walk_153 : decode b_Wk_walk 153 = .ok (.ladd, 1) := by decide +kernel
theorem d_Wk_walk_154 : decode b_Wk_walk 154 = .ok (.lstore 11, 2) := by decide +kernel
theorem d_Wk_walk_156 : decode b_Wk_walk 156 = .ok (.aload_n 0, 1) := by decide +kernel
theorem d_Wk_walk_157 : decode b_Wk_walk 157 = .ok (.aload_n 1, 1) := by decide +kernel
theorem d_Wk_walk_158 : decode b_Wk_walk 158 = .ok (.iconst 0, 1) := by decide +kernel
theorem d_Wk_walk_159 : decode b_Wk_walk 159 = .ok (.invokevirtual 30, 3) := by decide +kernel
theorem d_Wk_walk_162 : decode b_Wk_walk 162 = .ok (.lload_n 2, 1) := by decide +kernel
theorem d_Wk_walk_163 : decode b_Wk_walk 163 = .ok (.lload 11, 2) := by decide +kernel
theorem d_Wk_walk_165 : decode b_Wk_walk 165 = .ok (.lload 6, 2) := by decide +kernel
theorem d_Wk_walk_167 : decode b_Wk_walk 167 = .ok (.lload 8, 2) := by decide +kernel
theorem d_Wk_walk_169 : decode b_Wk_walk 169 = .ok (.iload 10, 2) := by decide +kernel
theorem d_Wk_walk_171 : decode b_Wk_walk 171 = .ok (.iconst 1, 1) := by decide +kernel
theorem d_Wk_walk_172 : decode b_Wk_walk 172 = .ok (.iadd, 1) := by decide +kernel
theorem d_Wk_walk_173 : decode b_Wk_walk 173 = .ok (.invokevirtual 38, 3) := by decide +kernel
theorem d_Wk_walk_176 : decode b_Wk_walk 176 = .ok (.goto (69), 3) := by decide +kernel
theorem d_Wk_walk_179 : decode b_Wk_walk 179 = .ok (.iconst 0, 1) := by decide +kernel
theorem d_Wk_walk_180 : decode b_Wk_walk 180 = .ok (.istore 13, 2) := by decide +kernel
theorem d_Wk_walk_182 : decode b_Wk_walk 182 = .ok (.iload 13, 2) := by decide +kernel
theorem d_Wk_walk_184 : decode b_Wk_walk 184 = .ok (.aload_n 1, 1) := by decide +kernel
theorem d_Wk_walk_185 : decode b_Wk_walk 185 = .ok (.getfield 42, 3) := by decide +kernel
theorem d_Wk_walk_188 : decode b_Wk_walk 188 = .ok (.if_icmp .ge (40), 3) := by decide +kernel
theorem d_Wk_walk_191 : decode b_Wk_walk 191 = .ok (.aload_n 0, 1) := by decide +kernel
theorem d_Wk_walk_192 : decode b_Wk_walk 192 = .ok (.getfield 12, 3) := by decide +kernel
theorem d_Wk_walk_195 : decode b_Wk_walk 195 = .ok (.getfield 45, 3) := by decide +kernel
theorem d_Wk_walk_198 : decode b_Wk_walk 198 = .ok (.ifCond .ne (30), 3) := by decide +kernel
theorem d_Wk_walk_201 : decode b_Wk_walk 201 = .ok (.aload_n 0, 1) := by decide +kernel
theorem d_Wk_walk_202 : decode b_Wk_walk 202 = .ok (.aload_n 1, 1) := by decide +kernel
theorem d_Wk_walk_203 : decode b_Wk_walk 203 = .ok (.iload 13, 2) := by decide +kernel
theorem d_Wk_walk_205 : decode b_Wk_walk 205 = .ok (.invokevirtual 30, 3) := by decide +kernel
theorem d_Wk_walk_208 : decode b_Wk_walk 208 = .ok (.lload_n 2, 1) := by decide +kernel
theorem d_Wk_walk_209 : decode b_Wk_walk 209 = .ok (.lload 4, 2) := by decide +kernel
theorem d_Wk_walk_211 : decode b_Wk_walk 211 = .ok (.lload 6, 2) := by decide +kernel
theorem d_Wk_walk_213 : decode b_Wk_walk 213 = .ok (.lload 8, 2) := by decide +kernel
theorem d_Wk_walk_215 : decode b_Wk_walk 215 = .ok (.iload 10, 2) := by decide +kernel
theorem d_Wk_walk_217 : decode b_Wk_walk 217 = .ok (.iconst 1, 1) := by decide +kernel
theorem d_Wk_walk_218 : decode b_Wk_walk 218 = .ok (.iadd, 1) := by decide +kernel
theorem d_Wk_walk_219 : decode b_Wk_walk 219 = .ok (.invokevirtual 38, 3) := by decide +kernel
theorem d_Wk_walk_222 : decode b_Wk_walk 222 = .ok (.iinc 13 (1), 3) := by decide +kernel
theorem d_Wk_walk_225 : decode b_Wk_walk 225 = .ok (.goto (-43), 3) := by decide +kernel
theorem d_Wk_walk_228 : decode b_Wk_walk 228 = .ok (.goto (17), 3) := by decide +kernel
theorem d_Wk_walk_231 : decode b_Wk_walk 231 = .ok (.aload_n 0, 1) := by decide +kernel
theorem d_Wk_walk_232 : decode b_Wk_walk 232 = .ok (.aload_n 1, 1) := by decide +kernel
theorem d_Wk_walk_233 : decode b_Wk_walk 233 = .ok (.lload_n 2, 1) := by decide +kernel
theorem d_Wk_walk_234 : decode b_Wk_walk 234 = .ok (.lload 4, 2) := by decide +kernel
theorem d_Wk_walk_236 : decode b_Wk_walk 236 = .ok (.lload 6, 2) := by decide +kernel
theorem d_Wk_walk_238 : decode b_Wk_walk 238 = .ok (.lload 8, 2) := by decide +kernel
theorem d_Wk_walk_240 : decode b_Wk_walk 240 = .ok (.iload 10, 2) := by decide +kernel
theorem d_Wk_walk_242 : decode b_Wk_walk 242 = .ok (.invokevirtual 49, 3) := by decide +kernel
theorem d_Wk_walk_245 : decode b_Wk_walk 245 = .ok (.return_, 1) := by decide +kernel
theorem d_Wk_walkCycles_0 : decode b_Wk_walkCycles 0 = .ok (.lload_n 2, 1) := by decide +kernel
theorem d_Wk_walkCycles_1 : decode b_Wk_walkCycles 1 = .ok (.lconst 0, 1) := by decide +kernel
theorem d_Wk_walkCycles_2 : decode b_Wk_walkCycles 2 = .ok (.lcmp, 1) := by decide +kernel
theorem d_Wk_walkCycles_3 : decode b_Wk_walkCycles 3 = .ok (.ifCond .le (7), 3) := by decide +kernel
theorem d_Wk_walkCycles_6 : decode b_Wk_walkCycles 6 = .ok (.iconst 1, 1) := by decide +kernel
theorem d_Wk_walkCycles_7 : decode b_Wk_walkCycles 7 = .ok (.goto (4), 3) := by decide +kernel
theorem d_Wk_walkCycles_10 : decode b_Wk_walkCycles 10 = .ok (.iconst 0, 1) := by decide +kernel
theorem d_Wk_walkCycles_11 : decode b_Wk_walkCycles 11 = .ok (.istore 11, 2) := by decide +kernel
theorem d_Wk_walkCycles_13 : decode b_Wk_walkCycles 13 = .ok (.lload_n 2, 1) := by decide +kernel
theorem d_Wk_walkCycles_14 : decode b_Wk_walkCycles 14 = .ok (.invokestatic 52, 3) := by decide +kernel
theorem d_Wk_walkCycles_17 : decode b_Wk_walkCycles 17 = .ok (.lstore 12, 2) := by decide +kernel
theorem d_Wk_walkCycles_19 : decode b_Wk_walkCycles 19 = .ok (.iload 11, 2) := by decide +kernel
theorem d_Wk_walkCycles_21 : decode b_Wk_walkCycles 21 = .ok (.ifCond .eq (11), 3) := by decide +kernel
theorem d_Wk_walkCycles_24 : decode b_Wk_walkCycles 24 = .ok (.lload 6, 2) := by decide +kernel
theorem d_Wk_walkCycles_26 : decode b_Wk_walkCycles 26 = .ok (.lload 4, 2) := by decide +kernel
theorem d_Wk_walkCycles_28 : decode b_Wk_walkCycles 28 = .ok (.lsub, 1) := by decide +kernel
theorem d_Wk_walkCycles_29 : decode b_Wk_walkCycles 29 = .ok (.goto (8), 3) := by decide +kernel
theorem d_Wk_walkCycles_32 : decode b_Wk_walkCycles 32 = .ok (.lload 4, 2) := by decide +kernel
theorem d_Wk_walkCycles_34 : decode b_Wk_walkCycles 34 = .ok (.lload 8, 2) := by decide +kernel
theorem d_Wk_walkCycles_36 : decode b_Wk_walkCycles 36 = .ok (.lsub, 1) := by decide +kernel
theorem d_Wk_walkCycles_37 : decode b_Wk_walkCycles 37 = .ok (.lload 12, 2) := by decide +kernel
theorem d_Wk_walkCycles_39 : decode b_Wk_walkCycles 39 = .ok (.invokestatic 58, 3) := by decide +kernel
theorem d_Wk_walkCycles_42 : decode b_Wk_walkCycles 42 = .ok (.lstore 14, 2) := by decide +kernel
theorem d_Wk_walkCycles_44 : decode b_Wk_walkCycles 44 = .ok (.iload 11, 2) := by decide +kernel
theorem d_Wk_walkCycles_46 : decode b_Wk_walkCycles 46 = .ok (.ifCond .eq (13), 3) := by decide +kernel
theorem d_Wk_walkCycles_49 : decode b_Wk_walkCycles 49 = .ok (.lload 8, 2) := by decide +kernel
theorem d_Wk_walkCycles_51 : decode b_Wk_walkCycles 51 = .ok (.lconst 1, 1) := by decide +kernel
theorem d_Wk_walkCycles_52 : decode b_Wk_walkCycles 52 = .ok (.lsub, 1) := by decide +kernel
theorem d_Wk_walkCycles_53 : decode b_Wk_walkCycles 53 = .ok (.lload 4, 2) := by decide +kernel
theorem d_Wk_walkCycles_55 : decode b_Wk_walkCycles 55 = .ok (.lsub, 1) := by decide +kernel
theorem d_Wk_walkCycles_56 : decode b_Wk_walkCycles 56 = .ok (.goto (10), 3) := by decide +kernel
theorem d_Wk_walkCycles_59 : decode b_Wk_walkCycles 59 = .ok (.lload 4, 2) := by decide +kernel
theorem d_Wk_walkCycles_61 : decode b_Wk_walkCycles 61 = .ok (.lconst 1, 1) := by decide +kernel
theorem d_Wk_walkCycles_62 : decode b_Wk_walkCycles 62 = .ok (.lsub, 1) := by decide +kernel
theorem d_Wk_walkCycles_63 : decode b_Wk_walkCycles 63 = .ok (.lload 6, 2) := by decide +kernel
theorem d_Wk_walkCycles_65 : decode b_Wk_walkCycles 65 = .ok (.lsub, 1) := by decide +kernel
theorem d_Wk_walkCycles_66 : decode b_Wk_walkCycles 66 = .ok (.lload 12, 2) := by decide +kernel
theorem d_Wk_walkCycles_68 : decode b_Wk_walkCycles 68 = .ok (.invokestatic 58, 3) := by decide +kernel
theorem d_Wk_walkCycles_71 : decode b_Wk_walkCycles 71 = .ok (.lstore 16, 2) := by decide +kernel
theorem d_Wk_walkCycles_73 : decode b_Wk_walkCycles 73 = .ok (.lload 14, 2) := by decide +kernel
theorem d_Wk_walkCycles_75 : decode b_Wk_walkCycles 75 = .ok (.lstore 18, 2) := by decide +kernel
theorem d_Wk_walkCycles_77 : decode b_Wk_walkCycles 77 = .ok (.lload 18, 2) := by decide +kernel
theorem d_Wk_walkCycles_79 : decode b_Wk_walkCycles 79 = .ok (.lload 16, 2) := by decide +kernel
theorem d_Wk_walkCycles_81 : decode b_Wk_walkCycles 81 = .ok (.lcmp, 1) := by decide +kernel
theorem d_Wk_walkCycles_82 : decode b_Wk_walkCycles 82 = .ok (.ifCond .gt (38), 3) := by decide +kernel
theorem d_Wk_walkCycles_85 : decode b_Wk_walkCycles 85 = .ok (.aload_n 0, 1) := by decide +kernel
theorem d_Wk_walkCycles_86 : decode b_Wk_walkCycles 86 = .ok (.getfield 12, 3) := by decide +kernel
theorem d_Wk_walkCycles_89 : decode b_Wk_walkCycles 89 = .ok (.getfield 45, 3) := by decide +kernel
theorem d_Wk_walkCycles_92 : decode b_Wk_walkCycles 92 = .ok (.ifCond .ne (28), 3) := by decide +kernel
theorem d_Wk_walkCycles_95 : decode b_Wk_walkCycles 95 = .ok (.aload_n 0, 1) := by decide +kernel
theorem d_Wk_walkCycles_96 : decode b_Wk_walkCycles 96 = .ok (.aload_n 1, 1) := by decide +kernel
theorem d_Wk_walkCycles_97 : decode b_Wk_walkCycles 97 = .ok (.lload 18, 2) := by decide +kernel
theorem d_Wk_walkCycles_99 : decode b_Wk_walkCycles 99 = .ok (.lload_n 2, 1) := by decide +kernel
theorem d_Wk_walkCycles_100 : decode b_Wk_walkCycles 100 = .ok (.lload 4, 2) := by decide +kernel
theorem d_Wk_walkCycles_102 : decode b_Wk_walkCycles 102 = .ok (.lload 6, 2) := by decide +kernel
theorem d_Wk_walkCycles_104 : decode b_Wk_walkCycles 104 = .ok (.lload 8, 2) := by decide +kernel
theorem d_Wk_walkCycles_106 : decode b_Wk_walkCycles 106 = .ok (.iload 10, 2) := by decide +kernel
theorem d_Wk_walkCycles_108 : decode b_Wk_walkCycles 108 = .ok (.invokevirtual 62, 3) := by decide +kernel
theorem d_Wk_walkCycles_111 : decode b_Wk_walkCycles 111 = .ok (.lload 18, 2) := by decide +kernel
theorem d_Wk_walkCycles_113 : decode b_Wk_walkCycles 113 = .ok (.lconst 1, 1) := by decide +kernel
theorem d_Wk_walkCycles_114 : decode b_Wk_walkCycles 114 = .ok (.ladd, 1) := by decide +kernel
theorem d_Wk_walkCycles_115 : decode b_Wk_walkCycles 115 = .ok (.lstore 18, 2) := by decide +kernel
theorem d_Wk_walkCycles_117 : decode b_Wk_walkCycles 117 = .ok (.goto (-40), 3) := by decide +kernel
theorem d_Wk_walkCycles_120 : decode b_Wk_walkCycles 120 = .ok (.return_, 1) := by decide +kernel
theorem d_Wk_walkCycle_0 : decode b_Wk_walkCycle 0 = .ok (.aload_n 1, 1) := by decide +kernel
theorem d_Wk_walkCycle_1 : decode b_Wk_walkCycle 1 = .ok (.getfield 26, 3) := by decide +kernel
theorem d_Wk_walkCycle_4 : decode b_Wk_walkCycle 4 = .ok (.lookupswitch (211) #[(60, 71), (69, 52), (82, 127), (86, 166), (91, 52)], 52) := by decide +kernel
theorem d_Wk_walkCycle_56 : decode b_Wk_walkCycle 56 = .ok (.aload_n 0, 1) := by decide +kernel
theorem d_Wk_walkCycle_57 : decode b_Wk_walkCycle 57 = .ok (.aload_n 1, 1) := by decide +kernel
theorem d_Wk_walkCycle_58 : decode b_Wk_walkCycle 58 = .ok (.lload_n 2, 1) := by decide +kernel
theorem d_Wk_walkCycle_59 : decode b_Wk_walkCycle 59 = .ok (.lload 4, 2) := by decide +kernel
theorem d_Wk_walkCycle_61 : decode b_Wk_walkCycle 61 = .ok (.lload 6, 2) := by decide +kernel
theorem d_Wk_walkCycle_63 : decode b_Wk_walkCycle 63 = .ok (.lload 8, 2) := by decide +kernel
theorem d_Wk_walkCycle_65 : decode b_Wk_walkCycle 65 = .ok (.lload 10, 2) := by decide +kernel
theorem d_Wk_walkCycle_67 : decode b_Wk_walkCycle 67 = .ok (.iload 12, 2) := by decide +kernel
theorem d_Wk_walkCycle_69 : decode b_Wk_walkCycle 69 = .ok (.invokevirtual 66, 3) := by decide +kernel
theorem d_Wk_walkCycle_72 : decode b_Wk_walkCycle 72 = .ok (.goto (171), 3) := by decide +kernel
theorem d_Wk_walkCycle_75 : decode b_Wk_walkCycle 75 = .ok (.lload_n 2, 1) := by decide +kernel
theorem d_Wk_walkCycle_76 : decode b_Wk_walkCycle 76 = .ok (.aload_n 1, 1) := by decide +kernel
theorem d_Wk_walkCycle_77 : decode b_Wk_walkCycle 77 = .ok (.getfield 42, 3) := by decide +kernel
theorem d_Wk_walkCycle_80 : decode b_Wk_walkCycle 80 = .ok (.i2l, 1) := by decide +kernel
theorem d_Wk_walkCycle_81 : decode b_Wk_walkCycle 81 = .ok (.invokestatic 58, 3) := by decide +kernel
theorem d_Wk_walkCycle_84 : decode b_Wk_walkCycle 84 = .ok (.lstore 13, 2) := by decide +kernel
theorem d_Wk_walkCycle_86 : decode b_Wk_walkCycle 86 = .ok (.aload_n 1, 1) := by decide +kernel
theorem d_Wk_walkCycle_87 : decode b_Wk_walkCycle 87 = .ok (.lload_n 2, 1) := by decide +kernel
theorem d_Wk_walkCycle_88 : decode b_Wk_walkCycle 88 = .ok (.aload_n 1, 1) := by decide +kernel
theorem d_Wk_walkCycle_89 : decode b_Wk_walkCycle 89 = .ok (.getfield 42, 3) := by decide +kernel
theorem d_Wk_walkCycle_92 : decode b_Wk_walkCycle 92 = .ok (.i2l, 1) := by decide +kernel
theorem d_Wk_walkCycle_93 : decode b_Wk_walkCycle 93 = .ok (.invokestatic 69, 3) := by decide +kernel
theorem d_Wk_walkCycle_96 : decode b_Wk_walkCycle 96 = .ok (.l2i, 1) := by decide +kernel
theorem d_Wk_walkCycle_97 : decode b_Wk_walkCycle 97 = .ok (.invokevirtual 30, 3) := by decide +kernel
theorem d_Wk_walkCycle_100 : decode b_Wk_walkCycle 100 = .ok (.astore 15, 2) := by decide +kernel
theorem d_Wk_walkCycle_102 : decode b_Wk_walkCycle 102 = .ok (.aload_n 0, 1) := by decide +kernel
theorem d_Wk_walkCycle_103 : decode b_Wk_walkCycle 103 = .ok (.lload 13, 2) := by decide +kernel
theorem d_Wk_walkCycle_105 : decode b_Wk_walkCycle 105 = .ok (.aload 15, 2) := by decide +kernel
theorem d_Wk_walkCycle_107 : decode b_Wk_walkCycle 107 = .ok (.lload 4, 2) := by decide +kernel
theorem d_Wk_walkCycle_109 : decode b_Wk_walkCycle 109 = .ok (.lload 6, 2) := by decide +kernel
theorem d_Wk_walkCycle_111 : decode b_Wk_walkCycle 111 = .ok (.lload 4, 2) := by decide +kernel
theorem d_Wk_walkCycle_113 : decode b_Wk_walkCycle 113 = .ok (.lload_n 2, 1) := by decide +kernel
theorem d_Wk_walkCycle_114 : decode b_Wk_walkCycle 114 = .ok (.lload 13, 2) := by decide +kernel
theorem d_Wk_walkCycle_116 : decode b_Wk_walkCycle 116 = .ok (.lsub, 1) := by decide +kernel
theorem d_Wk_walkCycle_117 : decode b_Wk_walkCycle 117 = .ok (.lmul, 1) := by decide +kernel
theorem d_Wk_walkCycle_118 : decode b_Wk_walkCycle 118 = .ok (.ladd, 1) := by decide +kernel
theorem d_Wk_walkCycle_119 : decode b_Wk_walkCycle 119 = .ok (.lload 8, 2) := by decide +kernel
theorem d_Wk_walkCycle_121 : decode b_Wk_walkCycle 121 = .ok (.lload 10, 2) := by decide +kernel
theorem d_Wk_walkCycle_123 : decode b_Wk_walkCycle 123 = .ok (.iload 12, 2) := by decide +kernel
theorem d_Wk_walkCycle_125 : decode b_Wk_walkCycle 125 = .ok (.invokevirtual 72, 3) := by decide +kernel
theorem d_Wk_walkCycle_128 : decode b_Wk_walkCycle 128 = .ok (.goto (115), 3) := by decide +kernel
theorem d_Wk_walkCycle_131 : decode b_Wk_walkCycle 131 = .ok (.lload 6, 2) := by decide +kernel
theorem d_Wk_walkCycle_133 : decode b_Wk_walkCycle 133 = .ok (.lload 4, 2) := by decide +kernel
theorem d_Wk_walkCycle_135 : decode b_Wk_walkCycle 135 = .ok (.ldc2_w 76, 3) := by decide +kernel
theorem d_Wk_walkCycle_138 : decode b_Wk_walkCycle 138 = .ok (.lload_n 2, 1) := by decide +kernel
theorem d_Wk_walkCycle_139 : decode b_Wk_walkCycle 139 = .ok (.lmul, 1) := by decide +kernel
theorem d_Wk_walkCycle_140 : decode b_Wk_walkCycle 140 = .ok (.lconst 1, 1) := by decide +kernel
theorem d_Wk_walkCycle_141 : decode b_Wk_walkCycle 141 = .ok (.ladd, 1) := by decide +kernel
theorem d_Wk_walkCycle_142 : decode b_Wk_walkCycle 142 = .ok (.lmul, 1) := by decide +kernel
theorem d_Wk_walkCycle_143 : decode b_Wk_walkCycle 143 = .ok (.ladd, 1) := by decide +kernel
theorem d_Wk_walkCycle_144 : decode b_Wk_walkCycle 144 = .ok (.lstore 16, 2) := by decide +kernel
theorem d_Wk_walkCycle_146 : decode b_Wk_walkCycle 146 = .ok (.aload_n 0, 1) := by decide +kernel
theorem d_Wk_walkCycle_147 : decode b_Wk_walkCycle 147 = .ok (.lload_n 2, 1) := by decide +kernel
theorem d_Wk_walkCycle_148 : decode b_Wk_walkCycle 148 = .ok (.aload_n 1, 1) := by decide +kernel
theorem d_Wk_walkCycle_149 : decode b_Wk_walkCycle 149 = .ok (.iconst 0, 1) := by decide +kernel
theorem d_Wk_walkCycle_150 : decode b_Wk_walkCycle 150 = .ok (.invokevirtual 30, 3) := by decide +kernel
theorem d_Wk_walkCycle_153 : decode b_Wk_walkCycle 153 = .ok (.lload 4, 2) := by decide +kernel
theorem d_Wk_walkCycle_155 : decode b_Wk_walkCycle 155 = .ok (.lneg, 1) := by decide +kernel
theorem d_Wk_walkCycle_156 : decode b_Wk_walkCycle 156 = .ok (.lload 16, 2) := by decide +kernel
theorem d_Wk_walkCycle_158 : decode b_Wk_walkCycle 158 = .ok (.lload 8, 2) := by decide +kernel
theorem d_Wk_walkCycle_160 : decode b_Wk_walkCycle 160 = .ok (.lload 10, 2) := by decide +kernel
theorem d_Wk_walkCycle_162 : decode b_Wk_walkCycle 162 = .ok (.iload 12, 2) := by decide +kernel
theorem d_Wk_walkCycle_164 : decode b_Wk_walkCycle 164 = .ok (.invokevirtual 72, 3) := by decide +kernel
theorem d_Wk_walkCycle_167 : decode b_Wk_walkCycle 167 = .ok (.goto (76), 3) := by decide +kernel
theorem d_Wk_walkCycle_170 : decode b_Wk_walkCycle 170 = .ok (.aload_n 1, 1) := by decide +kernel
theorem d_Wk_walkCycle_171 : decode b_Wk_walkCycle 171 = .ok (.lload_n 2, 1) := by decide +kernel
theorem d_Wk_walkCycle_172 : decode b_Wk_walkCycle 172 = .ok (.aload_n 1, 1) := by decide +kernel
theorem d_Wk_walkCycle_173 : decode b_Wk_walkCycle 173 = .ok (.getfield 34, 3) := by decide +kernel
theorem d_Wk_walkCycle_176 : decode b_Wk_walkCycle 176 = .ok (.i2l, 1) := by decide +kernel
theorem d_Wk_walkCycle_177 : decode b_Wk_walkCycle 177 = .ok (.invokestatic 69, 3) := by decide +kernel
theorem d_Wk_walkCycle_180 : decode b_Wk_walkCycle 180 = .ok (.lconst 0, 1) := by decide +kernel
theorem d_Wk_walkCycle_181 : decode b_Wk_walkCycle 181 = .ok (.lcmp, 1) := by decide +kernel
theorem d_Wk_walkCycle_182 : decode b_Wk_walkCycle 182 = .ok (.ifCond .ne (7), 3) := by decide +kernel
theorem d_Wk_walkCycle_185 : decode b_Wk_walkCycle 185 = .ok (.iconst 0, 1) := by decide +kernel
theorem d_Wk_walkCycle_186 : decode b_Wk_walkCycle 186 = .ok (.goto (4), 3) := by decide +kernel
theorem d_Wk_walkCycle_189 : decode b_Wk_walkCycle 189 = .ok (.iconst 1, 1) := by decide +kernel
theorem d_Wk_walkCycle_190 : decode b_Wk_walkCycle 190 = .ok (.invokevirtual 30, 3) := by decide +kernel
theorem d_Wk_walkCycle_193 : decode b_Wk_walkCycle 193 = .ok (.astore 18, 2) := by decide +kernel
theorem d_Wk_walkCycle_195 : decode b_Wk_walkCycle 195 = .ok (.aload_n 0, 1) := by decide +kernel
theorem d_Wk_walkCycle_196 : decode b_Wk_walkCycle 196 = .ok (.lload_n 2, 1) := by decide +kernel
theorem d_Wk_walkCycle_197 : decode b_Wk_walkCycle 197 = .ok (.aload 18, 2) := by decide +kernel
theorem d_Wk_walkCycle_199 : decode b_Wk_walkCycle 199 = .ok (.lload 4, 2) := by decide +kernel
theorem d_Wk_walkCycle_201 : decode b_Wk_walkCycle 201 = .ok (.lload 6, 2) := by decide +kernel
theorem d_Wk_walkCycle_203 : decode b_Wk_walkCycle 203 = .ok (.lload 8, 2) := by decide +kernel
theorem d_Wk_walkCycle_205 : decode b_Wk_walkCycle 205 = .ok (.lload 10, 2) := by decide +kernel
theorem d_Wk_walkCycle_207 : decode b_Wk_walkCycle 207 = .ok (.iload 12, 2) := by decide +kernel
theorem d_Wk_walkCycle_209 : decode b_Wk_walkCycle 209 = .ok (.invokevirtual 72, 3) := by decide +kernel
theorem d_Wk_walkCycle_212 : decode b_Wk_walkCycle 212 = .ok (.goto (31), 3) := by decide +kernel
theorem d_Wk_walkCycle_215 : decode b_Wk_walkCycle 215 = .ok (.aload_n 0, 1) := by decide +kernel
theorem d_Wk_walkCycle_216 : decode b_Wk_walkCycle 216 = .ok (.aload_n 1, 1) := by decide +kernel
theorem d_Wk_walkCycle_217 : decode b_Wk_walkCycle 217 = .ok (.getfield 26, 3) := by decide +kernel
theorem d_Wk_walkCycle_220 : decode b_Wk_walkCycle 220 = .ok (.lload_n 2, 1) := by decide +kernel
theorem d_Wk_walkCycle_221 : decode b_Wk_walkCycle 221 = .ok (.lload 4, 2) := by decide +kernel
theorem d_Wk_walkCycle_223 : decode b_Wk_walkCycle 223 = .ok (.lload 6, 2) := by decide +kernel
theorem d_Wk_walkCycle_225 : decode b_Wk_walkCycle 225 = .ok (.invokestatic 78, 3) := by decide +kernel
theorem d_Wk_walkCycle_228 : decode b_Wk_walkCycle 228 = .ok (.lload_n 2, 1) := by decide +kernel
theorem d_Wk_walkCycle_229 : decode b_Wk_walkCycle 229 = .ok (.lload 4, 2) := by decide +kernel
theorem d_Wk_walkCycle_231 : decode b_Wk_walkCycle 231 = .ok (.lload 6, 2) := by decide +kernel
theorem d_Wk_walkCycle_233 : decode b_Wk_walkCycle 233 = .ok (.invokestatic 82, 3) := by decide +kernel
theorem d_Wk_walkCycle_236 : decode b_Wk_walkCycle 236 = .ok (.lload 8, 2) := by decide +kernel
theorem d_Wk_walkCycle_238 : decode b_Wk_walkCycle 238 = .ok (.lload 10, 2) := by decide +kernel
theorem d_Wk_walkCycle_240 : decode b_Wk_walkCycle 240 = .ok (.invokevirtual 85, 3) := by decide +kernel
theorem d_Wk_walkCycle_243 : decode b_Wk_walkCycle 243 = .ok (.return_, 1) := by decide +kernel
theorem d_Wk_walkSteps_0 : decode b_Wk_walkSteps 0 = .ok (.lload 4, 2) := by decide +kernel
theorem d_Wk_walkSteps_2 : decode b_Wk_walkSteps 2 = .ok (.aload_n 1, 1) := by decide +kernel
theorem d_Wk_walkSteps_3 : decode b_Wk_walkSteps 3 = .ok (.getfield 42, 3) := by decide +kernel
theorem d_Wk_walkSteps_6 : decode b_Wk_walkSteps 6 = .ok (.i2l, 1) := by decide +kernel
theorem d_Wk_walkSteps_7 : decode b_Wk_walkSteps 7 = .ok (.ldiv, 1) := by decide +kernel
theorem d_Wk_walkSteps_8 : decode b_Wk_walkSteps 8 = .ok (.lstore 13, 2) := by decide +kernel
theorem d_Wk_walkSteps_10 : decode b_Wk_walkSteps 10 = .ok (.lload 6, 2) := by decide +kernel
theorem d_Wk_walkSteps_12 : decode b_Wk_walkSteps 12 = .ok (.lload 4, 2) := by decide +kernel
theorem d_Wk_walkSteps_14 : decode b_Wk_walkSteps 14 = .ok (.lload_n 2, 1) := by decide +kernel
theorem d_Wk_walkSteps_15 : decode b_Wk_walkSteps 15 = .ok (.lmul, 1) := by decide +kernel
theorem d_Wk_walkSteps_16 : decode b_Wk_walkSteps 16 = .ok (.ladd, 1) := by decide +kernel
theorem d_Wk_walkSteps_17 : decode b_Wk_walkSteps 17 = .ok (.lstore 15, 2) := by decide +kernel
theorem d_Wk_walkSteps_19 : decode b_Wk_walkSteps 19 = .ok (.iconst 0, 1) := by decide +kernel
theorem d_Wk_walkSteps_20 : decode b_Wk_walkSteps 20 = .ok (.istore 17, 2) := by decide +kernel
theorem d_Wk_walkSteps_22 : decode b_Wk_walkSteps 22 = .ok (.iload 17, 2) := by decide +kernel
theorem d_Wk_walkSteps_24 : decode b_Wk_walkSteps 24 = .ok (.aload_n 1, 1) := by decide +kernel
theorem d_Wk_walkSteps_25 : decode b_Wk_walkSteps 25 = .ok (.getfield 42, 3) := by decide +kernel
theorem d_Wk_walkSteps_28 : decode b_Wk_walkSteps 28 = .ok (.if_icmp .ge (53), 3) := by decide +kernel
theorem d_Wk_walkSteps_31 : decode b_Wk_walkSteps 31 = .ok (.aload_n 0, 1) := by decide +kernel
theorem d_Wk_walkSteps_32 : decode b_Wk_walkSteps 32 = .ok (.getfield 12, 3) := by decide +kernel
theorem d_Wk_walkSteps_35 : decode b_Wk_walkSteps 35 = .ok (.getfield 45, 3) := by decide +kernel
theorem d_Wk_walkSteps_38 : decode b_Wk_walkSteps 38 = .ok (.ifCond .ne (43), 3) := by decide +kernel
theorem d_Wk_walkSteps_41 : decode b_Wk_walkSteps 41 = .ok (.lload 15, 2) := by decide +kernel
theorem d_Wk_walkSteps_43 : decode b_Wk_walkSteps 43 = .ok (.lload 13, 2) := by decide +kernel
theorem d_Wk_walkSteps_45 : decode b_Wk_walkSteps 45 = .ok (.iload 17, 2) := by decide +kernel
theorem d_Wk_walkSteps_47 : decode b_Wk_walkSteps 47 = .ok (.i2l, 1) := by decide +kernel
theorem d_Wk_walkSteps_48 : decode b_Wk_walkSteps 48 = .ok (.lload_n 2, 1) := by decide +kernel
theorem d_Wk_walkSteps_49 : decode b_Wk_walkSteps 49 = .ok (.lsub, 1) := by decide +kernel
theorem d_Wk_walkSteps_50 : decode b_Wk_walkSteps 50 = .ok (.lmul, 1) := by decide +kernel
theorem d_Wk_walkSteps_51 : decode b_Wk_walkSteps 51 = .ok (.ladd, 1) := by decide +kernel
theorem d_Wk_walkSteps_52 : decode b_Wk_walkSteps 52 = .ok (.lstore 18, 2) := by decide +kernel
theorem d_Wk_walkSteps_54 : decode b_Wk_walkSteps 54 = .ok (.aload_n 0, 1) := by decide +kernel
theorem d_Wk_walkSteps_55 : decode b_Wk_walkSteps 55 = .ok (.lload_n 2, 1) := by decide +kernel
theorem d_Wk_walkSteps_56 : decode b_Wk_walkSteps 56 = .ok (.aload_n 1, 1) := by decide +kernel
theorem d_Wk_walkSteps_57 : decode b_Wk_walkSteps 57 = .ok (.iload 17, 2) := by decide +kernel
theorem d_Wk_walkSteps_59 : decode b_Wk_walkSteps 59 = .ok (.invokevirtual 89, 3) := by decide +kernel
theorem d_Wk_walkSteps_62 : decode b_Wk_walkSteps 62 = .ok (.lload 13, 2) := by decide +kernel
theorem d_Wk_walkSteps_64 : decode b_Wk_walkSteps 64 = .ok (.lload 18, 2) := by decide +kernel
theorem d_Wk_walkSteps_66 : decode b_Wk_walkSteps 66 = .ok (.lload 8, 2) := by decide +kernel
theorem d_Wk_walkSteps_68 : decode b_Wk_walkSteps 68 = .ok (.lload 10, 2) := by decide +kernel
theorem d_Wk_walkSteps_70 : decode b_Wk_walkSteps 70 = .ok (.iload 12, 2) := by decide +kernel
theorem d_Wk_walkSteps_72 : decode b_Wk_walkSteps 72 = .ok (.invokevirtual 72, 3) := by decide +kernel
theorem d_Wk_walkSteps_75 : decode b_Wk_walkSteps 75 = .ok (.iinc 17 (1), 3) := by decide +kernel
theorem d_Wk_walkSteps_78 : decode b_Wk_walkSteps 78 = .ok (.goto (-56), 3) := by decide +kernel
theorem d_Wk_walkSteps_81 : decode b_Wk_walkSteps 81 = .ok (.return_, 1) := by decide +kernel
theorem d_Wk_walkInto_0 : decode b_Wk_walkInto 0 = .ok (.lload 8, 2) := by decide +kernel
theorem d_Wk_walkInto_2 : decode b_Wk_walkInto 2 = .ok (.lload_n 1, 1) := by decide +kernel
theorem d_Wk_walkInto_3 : decode b_Wk_walkInto 3 = .ok (.lload 4, 2) := by decide +kernel
theorem d_Wk_walkInto_5 : decode b_Wk_walkInto 5 = .ok (.lload 6, 2) := by decide +kernel
theorem d_Wk_walkInto_7 : decode b_Wk_walkInto 7 = .ok (.invokestatic 78, 3) := by decide +kernel
theorem d_Wk_walkInto_10 : decode b_Wk_walkInto 10 = .ok (.invokestatic 92, 3) := by decide +kernel
theorem d_Wk_walkInto_13 : decode b_Wk_walkInto 13 = .ok (.lstore 13, 2) := by decide +kernel
theorem d_Wk_walkInto_15 : decode b_Wk_walkInto 15 = .ok (.lload 10, 2) := by decide +kernel
theorem d_Wk_walkInto_17 : decode b_Wk_walkInto 17 = .ok (.lload_n 1, 1) := by decide +kernel
theorem d_Wk_walkInto_18 : decode b_Wk_walkInto 18 = .ok (.lload 4, 2) := by decide +kernel
theorem d_Wk_walkInto_20 : decode b_Wk_walkInto 20 = .ok (.lload 6, 2) := by decide +kernel
theorem d_Wk_walkInto_22 : decode b_Wk_walkInto 22 = .ok (.invokestatic 82, 3) := by decide +kernel
theorem d_Wk_walkInto_25 : decode b_Wk_walkInto 25 = .ok (.invokestatic 95, 3) := by decide +kernel
theorem d_Wk_walkInto_28 : decode b_Wk_walkInto 28 = .ok (.lstore 15, 2) := by decide +kernel
theorem d_Wk_walkInto_30 : decode b_Wk_walkInto 30 = .ok (.aload_n 0, 1) := by decide +kernel
theorem d_Wk_walkInto_31 : decode b_Wk_walkInto 31 = .ok (.aload_n 3, 1) := by decide +kernel
theorem d_Wk_walkInto_32 : decode b_Wk_walkInto 32 = .ok (.lload 4, 2) := by decide +kernel
theorem d_Wk_walkInto_34 : decode b_Wk_walkInto 34 = .ok (.lload 6, 2) := by decide +kernel
theorem d_Wk_walkInto_36 : decode b_Wk_walkInto 36 = .ok (.lload 13, 2) := by decide +kernel
theorem d_Wk_walkInto_38 : decode b_Wk_walkInto 38 = .ok (.lload 15, 2) := by decide +kernel
theorem d_Wk_walkInto_40 : decode b_Wk_walkInto 40 = .ok (.iload 12, 2) := by decide +kernel
theorem d_Wk_walkInto_42 : decode b_Wk_walkInto 42 = .ok (.iconst 1, 1) := by decide +kernel
theorem d_Wk_walkInto_43 : decode b_Wk_walkInto 43 = .ok (.iadd, 1) := by decide +kernel
theorem d_Wk_walkInto_44 : decode b_Wk_walkInto 44 = .ok (.invokevirtual 38, 3) := by decide +kernel
theorem d_Wk_walkInto_47 : decode b_Wk_walkInto 47 = .ok (.return_, 1) := by decide +kernel
theorem d_Wk_begin_0 : decode b_Wk_begin 0 = .ok (.lload 4, 2) := by decide +kernel
theorem d_Wk_begin_2 : decode b_Wk_begin 2 = .ok (.lload_n 2, 1) := by decide +kernel
theorem d_Wk_begin_3 : decode b_Wk_begin 3 = .ok (.lload_n 2, 1) := by decide +kernel
theorem d_Wk_begin_4 : decode b_Wk_begin 4 = .ok (.lconst 0, 1) := by decide +kernel
theorem d_Wk_begin_5 : decode b_Wk_begin 5 = .ok (.lcmp, 1) := by decide +kernel
theorem d_Wk_begin_6 : decode b_Wk_begin 6 = .ok (.ifCond .le (7), 3) := by decide +kernel
theorem d_Wk_begin_9 : decode b_Wk_begin 9 = .ok (.lload_n 0, 1) := by decide +kernel
theorem d_Wk_begin_10 : decode b_Wk_begin 10 = .ok (.goto (6), 3) := by decide +kernel
theorem d_Wk_begin_13 : decode b_Wk_begin 13 = .ok (.lload_n 0, 1) := by decide +kernel
theorem d_Wk_begin_14 : decode b_Wk_begin 14 = .ok (.lconst 1, 1) := by decide +kernel
theorem d_Wk_begin_15 : decode b_Wk_begin 15 = .ok (.ladd, 1) := by decide +kernel
theorem d_Wk_begin_16 : decode b_Wk_begin 16 = .ok (.lmul, 1) := by decide +kernel
theorem d_Wk_begin_17 : decode b_Wk_begin 17 = .ok (.ladd, 1) := by decide +kernel
theorem d_Wk_begin_18 : decode b_Wk_begin 18 = .ok (.lreturn, 1) := by decide +kernel
theorem d_Wk_end_0 : decode b_Wk_end 0 = .ok (.lload 4, 2) := by decide +kernel
theorem d_Wk_end_2 : decode b_Wk_end 2 = .ok (.lload_n 2, 1) := by decide +kernel
theorem d_Wk_end_3 : decode b_Wk_end 3 = .ok (.lload_n 2, 1) := by decide +kernel
theorem d_Wk_end_4 : decode b_Wk_end 4 = .ok (.lconst 0, 1) := by decide +kernel
theorem d_Wk_end_5 : decode b_Wk_end 5 = .ok (.lcmp, 1) := by decide +kernel
theorem d_Wk_end_6 : decode b_Wk_end 6 = .ok (.ifCond .le (9), 3) := by decide +kernel
theorem d_Wk_end_9 : decode b_Wk_end 9 = .ok (.lload_n 0, 1) := by decide +kernel
theorem d_Wk_end_10 : decode b_Wk_end 10 = .ok (.lconst 1, 1) := by decide +kernel
theorem d_Wk_end_11 : decode b_Wk_end 11 = .ok (.ladd, 1) := by decide +kernel
theorem d_Wk_end_12 : decode b_Wk_end 12 = .ok (.goto (4), 3) := by decide +kernel
theorem d_Wk_end_15 : decode b_Wk_end 15 = .ok (.lload_n 0, 1) := by decide +kernel
theorem d_Wk_end_16 : decode b_Wk_end 16 = .ok (.lmul, 1) := by decide +kernel
theorem d_Wk_end_17 : decode b_Wk_end 17 = .ok (.ladd, 1) := by decide +kernel
theorem d_Wk_end_18 : decode b_Wk_end 18 = .ok (.lreturn, 1) := by decide +kernel
