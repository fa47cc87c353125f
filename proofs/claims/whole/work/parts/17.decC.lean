/-! decode rows -/
theorem d_X_init_0 : decode b_X_init 0 = .ok (.aload_n 0, 1) := by decide +kernel
theorem d_X_init_1 : decode b_X_init 1 = .ok (.invokespecial 1, 3) := by decide +kernel
theorem d_X_init_4 : decode b_X_init 4 = .ok (.aload_n 0, 1) := by decide +kernel
theorem d_X_init_5 : decode b_X_init 5 = .ok (.new 7, 3) := by decide +kernel
theorem d_X_init_8 : decode b_X_init 8 = .ok (.dup, 1) := by decide +kernel
theorem d_X_init_9 : decode b_X_init 9 = .ok (.invokespecial 9, 3) := by decide +kernel
theorem d_X_init_12 : decode b_X_init 12 = .ok (.putfield 10, 3) := by decide +kernel
theorem d_X_init_15 : decode b_X_init 15 = .ok (.aload_n 0, 1) := by decide +kernel
theorem d_X_init_16 : decode b_X_init 16 = .ok (.bipush (8), 2) := by decide +kernel
theorem d_X_init_18 : decode b_X_init 18 = .ok (.anewarray 16, 3) := by decide +kernel
theorem d_X_init_21 : decode b_X_init 21 = .ok (.putfield 18, 3) := by decide +kernel
theorem d_X_init_24 : decode b_X_init 24 = .ok (.aload_n 0, 1) := by decide +kernel
theorem d_X_init_25 : decode b_X_init 25 = .ok (.bipush (8), 2) := by decide +kernel
theorem d_X_init_27 : decode b_X_init 27 = .ok (.newarray .int, 2) := by decide +kernel
theorem d_X_init_29 : decode b_X_init 29 = .ok (.putfield 22, 3) := by decide +kernel
theorem d_X_init_32 : decode b_X_init 32 = .ok (.iconst 0, 1) := by decide +kernel
theorem d_X_init_33 : decode b_X_init 33 = .ok (.istore_n 1, 1) := by decide +kernel
theorem d_X_init_34 : decode b_X_init 34 = .ok (.iload_n 1, 1) := by decide +kernel
theorem d_X_init_35 : decode b_X_init 35 = .ok (.bipush (8), 2) := by decide +kernel
theorem d_X_init_37 : decode b_X_init 37 = .ok (.if_icmp .ge (32), 3) := by decide +kernel
theorem d_X_init_40 : decode b_X_init 40 = .ok (.aload_n 0, 1) := by decide +kernel
theorem d_X_init_41 : decode b_X_init 41 = .ok (.getfield 18, 3) := by decide +kernel
theorem d_X_init_44 : decode b_X_init 44 = .ok (.iload_n 1, 1) := by decide +kernel
theorem d_X_init_45 : decode b_X_init 45 = .ok (.new 16, 3) := by decide +kernel
theorem d_X_init_48 : decode b_X_init 48 = .ok (.dup, 1) := by decide +kernel
theorem d_X_init_49 : decode b_X_init 49 = .ok (.bipush (126), 2) := by decide +kernel
theorem d_X_init_51 : decode b_X_init 51 = .ok (.iconst 0, 1) := by decide +kernel
theorem d_X_init_52 : decode b_X_init 52 = .ok (.invokespecial 26, 3) := by decide +kernel
theorem d_X_init_55 : decode b_X_init 55 = .ok (.aastore, 1) := by decide +kernel
theorem d_X_init_56 : decode b_X_init 56 = .ok (.aload_n 0, 1) := by decide +kernel
theorem d_X_init_57 : decode b_X_init 57 = .ok (.getfield 22, 3) := by decide +kernel
theorem d_X_init_60 : decode b_X_init 60 = .ok (.iload_n 1, 1) := by decide +kernel
theorem d_X_init_61 : decode b_X_init 61 = .ok (.iconst 1, 1) := by decide +kernel
theorem d_X_init_62 : decode b_X_init 62 = .ok (.iastore, 1) := by decide +kernel
theorem d_X_init_63 : decode b_X_init 63 = .ok (.iinc 1 (1), 3) := by decide +kernel
theorem d_X_init_66 : decode b_X_init 66 = .ok (.goto (-32), 3) := by decide +kernel
theorem d_X_init_69 : decode b_X_init 69 = .ok (.aload_n 0, 1) := by decide +kernel
theorem d_X_init_70 : decode b_X_init 70 = .ok (.new 29, 3) := by decide +kernel
theorem d_X_init_73 : decode b_X_init 73 = .ok (.dup, 1) := by decide +kernel
theorem d_X_init_74 : decode b_X_init 74 = .ok (.invokespecial 31, 3) := by decide +kernel
theorem d_X_init_77 : decode b_X_init 77 = .ok (.putfield 32, 3) := by decide +kernel
theorem d_X_init_80 : decode b_X_init 80 = .ok (.aload_n 0, 1) := by decide +kernel
theorem d_X_init_81 : decode b_X_init 81 = .ok (.iconst 1, 1) := by decide +kernel
theorem d_X_init_82 : decode b_X_init 82 = .ok (.putfield 36, 3) := by decide +kernel
theorem d_X_init_85 : decode b_X_init 85 = .ok (.aload_n 0, 1) := by decide +kernel
theorem d_X_init_86 : decode b_X_init 86 = .ok (.new 29, 3) := by decide +kernel
theorem d_X_init_89 : decode b_X_init 89 = .ok (.dup, 1) := by decide +kernel
theorem d_X_init_90 : decode b_X_init 90 = .ok (.invokespecial 31, 3) := by decide +kernel
theorem d_X_init_93 : decode b_X_init 93 = .ok (.putfield 40, 3) := by decide +kernel
theorem d_X_init_96 : decode b_X_init 96 = .ok (.aload_n 0, 1) := by decide +kernel
theorem d_X_init_97 : decode b_X_init 97 = .ok (.new 29, 3) := by decide +kernel
theorem d_X_init_100 : decode b_X_init 100 = .ok (.dup, 1) := by decide +kernel
theorem d_X_init_101 : decode b_X_init 101 = .ok (.invokespecial 31, 3) := by decide +kernel
theorem d_X_init_104 : decode b_X_init 104 = .ok (.putfield 43, 3) := by decide +kernel
theorem d_X_init_107 : decode b_X_init 107 = .ok (.aload_n 0, 1) := by decide +kernel
theorem d_X_init_108 : decode b_X_init 108 = .ok (.new 46, 3) := by decide +kernel
theorem d_X_init_111 : decode b_X_init 111 = .ok (.dup, 1) := by decide +kernel
theorem d_X_init_112 : decode b_X_init 112 = .ok (.invokespecial 48, 3) := by decide +kernel
theorem d_X_init_115 : decode b_X_init 115 = .ok (.putfield 49, 3) := by decide +kernel
theorem d_X_init_118 : decode b_X_init 118 = .ok (.return_, 1) := by decide +kernel
theorem d_X_type_0 : decode b_X_type 0 = .ok (.iload_n 3, 1) := by decide +kernel
theorem d_X_type_1 : decode b_X_type 1 = .ok (.iconst 1, 1) := by decide +kernel
theorem d_X_type_2 : decode b_X_type 2 = .ok (.if_icmp .lt (17), 3) := by decide +kernel
theorem d_X_type_5 : decode b_X_type 5 = .ok (.iload_n 3, 1) := by decide +kernel
theorem d_X_type_6 : decode b_X_type 6 = .ok (.bipush (8), 2) := by decide +kernel
theorem d_X_type_8 : decode b_X_type 8 = .ok (.if_icmp .gt (11), 3) := by decide +kernel
theorem d_X_type_11 : decode b_X_type 11 = .ok (.lload_n 1, 1) := by decide +kernel
theorem d_X_type_12 : decode b_X_type 12 = .ok (.iload_n 3, 1) := by decide +kernel
theorem d_X_type_13 : decode b_X_type 13 = .ok (.invokestatic 53, 3) := by decide +kernel
theorem d_X_type_16 : decode b_X_type 16 = .ok (.ifCond .ne (5), 3) := by decide +kernel
theorem d_X_type_19 : decode b_X_type 19 = .ok (.iconst (-1), 1) := by decide +kernel
theorem d_X_type_20 : decode b_X_type 20 = .ok (.ireturn, 1) := by decide +kernel
theorem d_X_type_21 : decode b_X_type 21 = .ok (.aload_n 0, 1) := by decide +kernel
theorem d_X_type_22 : decode b_X_type 22 = .ok (.getfield 10, 3) := by decide +kernel
theorem d_X_type_25 : decode b_X_type 25 = .ok (.lload_n 1, 1) := by decide +kernel
theorem d_X_type_26 : decode b_X_type 26 = .ok (.iload_n 3, 1) := by decide +kernel
theorem d_X_type_27 : decode b_X_type 27 = .ok (.invokevirtual 57, 3) := by decide +kernel
theorem d_X_type_30 : decode b_X_type 30 = .ok (.ifCond .eq (13), 3) := by decide +kernel
theorem d_X_type_33 : decode b_X_type 33 = .ok (.aload_n 0, 1) := by decide +kernel
theorem d_X_type_34 : decode b_X_type 34 = .ok (.getfield 10, 3) := by decide +kernel
theorem d_X_type_37 : decode b_X_type 37 = .ok (.getfield 60, 3) := by decide +kernel
theorem d_X_type_40 : decode b_X_type 40 = .ok (.goto (5), 3) := by decide +kernel
theorem d_X_type_43 : decode b_X_type 43 = .ok (.bipush (-3), 2) := by decide +kernel
theorem d_X_type_45 : decode b_X_type 45 = .ok (.ireturn, 1) := by decide +kernel
theorem d_X_define_0 : decode b_X_define 0 = .ok (.iload_n 1, 1) := by decide +kernel
theorem d_X_define_1 : decode b_X_define 1 = .ok (.invokestatic 63, 3) := by decide +kernel
theorem d_X_define_4 : decode b_X_define 4 = .ok (.ifCond .ne (5), 3) := by decide +kernel
theorem d_X_define_7 : decode b_X_define 7 = .ok (.iconst (-1), 1) := by decide +kernel
theorem d_X_define_8 : decode b_X_define 8 = .ok (.ireturn, 1) := by decide +kernel
theorem d_X_define_9 : decode b_X_define 9 = .ok (.aload_n 0, 1) := by decide +kernel
theorem d_X_define_10 : decode b_X_define 10 = .ok (.invokevirtual 67, 3) := by decide +kernel
theorem d_X_define_13 : decode b_X_define 13 = .ok (.aload_n 0, 1) := by decide +kernel
theorem d_X_define_14 : decode b_X_define 14 = .ok (.getfield 10, 3) := by decide +kernel
theorem d_X_define_17 : decode b_X_define 17 = .ok (.invokevirtual 70, 3) := by decide +kernel
theorem d_X_define_20 : decode b_X_define 20 = .ok (.astore_n 2, 1) := by decide +kernel
theorem d_X_define_21 : decode b_X_define 21 = .ok (.aload_n 0, 1) := by decide +kernel
theorem d_X_define_22 : decode b_X_define 22 = .ok (.getfield 10, 3) := by decide +kernel
theorem d_X_define_25 : decode b_X_define 25 = .ok (.invokevirtual 74, 3) := by decide +kernel
theorem d_X_define_28 : decode b_X_define 28 = .ok (.aload_n 2, 1) := by decide +kernel
theorem d_X_define_29 : decode b_X_define 29 = .ok (.ifnonnull (14), 3) := by decide +kernel
theorem d_X_define_32 : decode b_X_define 32 = .ok (.bipush (-100), 2) := by decide +kernel
theorem d_X_define_34 : decode b_X_define 34 = .ok (.aload_n 0, 1) := by decide +kernel
theorem d_X_define_35 : decode b_X_define 35 = .ok (.getfield 10, 3) := by decide +kernel
theorem d_X_define_38 : decode b_X_define 38 = .ok (.getfield 77, 3) := by decide +kernel
theorem d_X_define_41 : decode b_X_define 41 = .ok (.isub, 1) := by decide +kernel
theorem d_X_define_42 : decode b_X_define 42 = .ok (.ireturn, 1) := by decide +kernel
theorem d_X_define_43 : decode b_X_define 43 = .ok (.aload_n 0, 1) := by decide +kernel
theorem d_X_define_44 : decode b_X_define 44 = .ok (.getfield 10, 3) := by decide +kernel
theorem d_X_define_47 : decode b_X_define 47 = .ok (.getfield 80, 3) := by decide +kernel
theorem d_X_define_50 : decode b_X_define 50 = .ok (.sipush (5040), 3) := by decide +kernel
theorem d_X_define_53 : decode b_X_define 53 = .ok (.if_icmp .le (6), 3) := by decide +kernel
theorem d_X_define_56 : decode b_X_define 56 = .ok (.bipush (-3), 2) := by decide +kernel
theorem d_X_define_58 : decode b_X_define 58 = .ok (.ireturn, 1) := by decide +kernel
theorem d_X_define_59 : decode b_X_define 59 = .ok (.aload_n 0, 1) := by decide +kernel
theorem d_X_define_60 : decode b_X_define 60 = .ok (.getfield 18, 3) := by decide +kernel
theorem d_X_define_63 : decode b_X_define 63 = .ok (.iload_n 1, 1) := by decide +kernel
theorem d_X_define_64 : decode b_X_define 64 = .ok (.aload_n 2, 1) := by decide +kernel
theorem d_X_define_65 : decode b_X_define 65 = .ok (.aastore, 1) := by decide +kernel
theorem d_X_define_66 : decode b_X_define 66 = .ok (.aload_n 0, 1) := by decide +kernel
theorem d_X_define_67 : decode b_X_define 67 = .ok (.getfield 22, 3) := by decide +kernel
theorem d_X_define_70 : decode b_X_define 70 = .ok (.iload_n 1, 1) := by decide +kernel
theorem d_X_define_71 : decode b_X_define 71 = .ok (.aload_n 0, 1) := by decide +kernel
theorem d_X_define_72 : decode b_X_define 72 = .ok (.getfield 10, 3) := by decide +kernel
theorem d_X_define_75 : decode b_X_define 75 = .ok (.getfield 80, 3) := by decide +kernel
theorem d_X_define_78 : decode b_X_define 78 = .ok (.iastore, 1) := by decide +kernel
theorem d_X_define_79 : decode b_X_define 79 = .ok (.aload_n 0, 1) := by decide +kernel
theorem d_X_define_80 : decode b_X_define 80 = .ok (.getfield 22, 3) := by decide +kernel
theorem d_X_define_83 : decode b_X_define 83 = .ok (.iload_n 1, 1) := by decide +kernel
theorem d_X_define_84 : decode b_X_define 84 = .ok (.iaload, 1) := by decide +kernel
theorem d_X_define_85 : decode b_X_define 85 = .ok (.ireturn, 1) := by decide +kernel
theorem d_X_query_0 : decode b_X_query 0 = .ok (.iload_n 1, 1) := by decide +kernel
theorem d_X_query_1 : decode b_X_query 1 = .ok (.invokestatic 63, 3) := by decide +kernel
theorem d_X_query_4 : decode b_X_query 4 = .ok (.ifCond .eq (26), 3) := by decide +kernel
theorem d_X_query_7 : decode b_X_query 7 = .ok (.iload 4, 2) := by decide +kernel
theorem d_X_query_9 : decode b_X_query 9 = .ok (.iconst 1, 1) := by decide +kernel
theorem d_X_query_10 : decode b_X_query 10 = .ok (.if_icmp .lt (20), 3) := by decide +kernel
theorem d_X_query_13 : decode b_X_query 13 = .ok (.iload 4, 2) := by decide +kernel
theorem d_X_query_15 : decode b_X_query 15 = .ok (.bipush (50), 2) := by decide +kernel
theorem d_X_query_17 : decode b_X_query 17 = .ok (.if_icmp .gt (13), 3) := by decide +kernel
theorem d_X_query_20 : decode b_X_query 20 = .ok (.iload_n 2, 1) := by decide +kernel
theorem d_X_query_21 : decode b_X_query 21 = .ok (.iload_n 3, 1) := by decide +kernel
theorem d_X_query_22 : decode b_X_query 22 = .ok (.iload 4, 2) := by decide +kernel
theorem d_X_query_24 : decode b_X_query 24 = .ok (.invokestatic 83, 3) := by decide +kernel
theorem d_X_query_27 : decode b_X_query 27 = .ok (.ifCond .ne (5), 3) := by decide +kernel
theorem d_X_query_30 : decode b_X_query 30 = .ok (.iconst (-1), 1) := by decide +kernel
theorem d_X_query_31 : decode b_X_query 31 = .ok (.ireturn, 1) := by decide +kernel
theorem d_X_query_32 : decode b_X_query 32 = .ok (.aload_n 0, 1) := by decide +kernel
theorem d_X_query_33 : decode b_X_query 33 = .ok (.getfield 22, 3) := by decide +kernel
theorem d_X_query_36 : decode b_X_query 36 = .ok (.iload_n 1, 1) := by decide +kernel
theorem d_X_query_37 : decode b_X_query 37 = .ok (.iaload, 1) := by decide +kernel
theorem d_X_query_38 : decode b_X_query 38 = .ok (.i2l, 1) := by decide +kernel
theorem d_X_query_39 : decode b_X_query 39 = .ok (.lstore 5, 2) := by decide +kernel
theorem d_X_query_41 : decode b_X_query 41 = .ok (.aload_n 0, 1) := by decide +kernel
theorem d_X_query_42 : decode b_X_query 42 = .ok (.aload_n 0, 1) := by decide +kernel
theorem d_X_query_43 : decode b_X_query 43 = .ok (.getfield 22, 3) := by decide +kernel
theorem d_X_query_46 : decode b_X_query 46 = .ok (.iload_n 1, 1) := by decide +kernel
theorem d_X_query_47 : decode b_X_query 47 = .ok (.iaload, 1) := by decide +kernel
theorem d_X_query_48 : decode b_X_query 48 = .ok (.iload 4, 2) := by decide +kernel
theorem d_X_query_50 : decode b_X_query 50 = .ok (.imul, 1) := by decide +kernel
theorem d_X_query_51 : decode b_X_query 51 = .ok (.putfield 36, 3) := by decide +kernel
theorem d_X_query_54 : decode b_X_query 54 = .ok (.aload_n 0, 1) := by decide +kernel
theorem d_X_query_55 : decode b_X_query 55 = .ok (.getfield 32, 3) := by decide +kernel
theorem d_X_query_58 : decode b_X_query 58 = .ok (.aload_n 0, 1) := by decide +kernel
theorem d_X_query_59 : decode b_X_query 59 = .ok (.getfield 18, 3) := by decide +kernel
theorem d_X_query_62 : decode b_X_query 62 = .ok (.iload_n 1, 1) := by decide +kernel
theorem d_X_query_63 : decode b_X_query 63 = .ok (.aaload, 1) := by decide +kernel
theorem d_X_query_64 : decode b_X_query 64 = .ok (.aload_n 0, 1) := by decide +kernel
theorem d_X_query_65 : decode b_X_query 65 = .ok (.getfield 36, 3) := by decide +kernel
theorem d_X_query_68 : decode b_X_query 68 = .ok (.i2l, 1) := by decide +kernel
theorem d_X_query_69 : decode b_X_query 69 = .ok (.iload_n 2, 1) := by decide +kernel
theorem d_X_query_70 : decode b_X_query 70 = .ok (.i2l, 1) := by decide +kernel
theorem d_X_query_71 : decode b_X_query 71 = .ok (.lload 5, 2) := by decide +kernel
theorem d_X_query_73 : decode b_X_query 73 = .ok (.lmul, 1) := by decide +kernel
theorem d_X_query_74 : decode b_X_query 74 = .ok (.iload_n 3, 1) := by decide +kernel
theorem d_X_query_75 : decode b_X_query 75 = .ok (.i2l, 1) := by decide +kernel
theorem d_X_query_76 : decode b_X_query 76 = .ok (.lload 5, 2) := by decide +kernel
theorem d_X_query_78 : decode b_X_query 78 = .ok (.lmul, 1) := by decide +kernel
theorem d_X_query_79 : decode b_X_query 79 = .ok (.invokevirtual 87, 3) := by decide +kernel
theorem d_X_query_82 : decode b_X_query 82 = .ok (.ifCond .eq (16), 3) := by decide +kernel
theorem d_X_query_85 : decode b_X_query 85 = .ok (.aload_n 0, 1) := by decide +kernel
theorem d_X_query_86 : decode b_X_query 86 = .ok (.getfield 32, 3) := by decide +kernel
theorem d_X_query_89 : decode b_X_query 89 = .ok (.getfield 91, 3) := by decide +kernel
theorem d_X_query_92 : decode b_X_query 92 = .ok (.getfield 95, 3) := by decide +kernel
theorem d_X_query_95 : decode b_X_query 95 = .ok (.goto (5), 3) := by decide +kernel
theorem d_X_query_98 : decode b_X_query 98 = .ok (.bipush (-2), 2) := by decide +kernel
theorem d_X_query_100 : decode b_X_query 100 = .ok (.ireturn, 1) := by decide +kernel
theorem d_X_unit_0 : decode b_X_unit 0 = .ok (.aload_n 0, 1) := by decide +kernel
theorem d_X_unit_1 : decode b_X_unit 1 = .ok (.getfield 36, 3) := by decide +kernel
theorem d_X_unit_4 : decode b_X_unit 4 = .ok (.ireturn, 1) := by decide +kernel
theorem d_X_part_0 : decode b_X_part 0 = .ok (.aload_n 0, 1) := by decide +kernel
theorem d_X_part_1 : decode b_X_part 1 = .ok (.getfield 32, 3) := by decide +kernel
theorem d_X_part_4 : decode b_X_part 4 = .ok (.getfield 91, 3) := by decide +kernel
theorem d_X_part_7 : decode b_X_part 7 = .ok (.iload_n 1, 1) := by decide +kernel
theorem d_X_part_8 : decode b_X_part 8 = .ok (.invokevirtual 100, 3) := by decide +kernel
theorem d_X_part_11 : decode b_X_part 11 = .ok (.ifCond .ne (5), 3) := by decide +kernel
theorem d_X_part_14 : decode b_X_part 14 = .ok (.iconst (-1), 1) := by decide +kernel
theorem d_X_part_15 : decode b_X_part 15 = .ok (.ireturn, 1) := by decide +kernel
theorem d_X_part_16 : decode b_X_part 16 = .ok (.iload_n 2, 1) := by decide +kernel
theorem d_X_part_17 : decode b_X_part 17 = .ok (.tableswitch (105) (0) (4) #[(35), (49), (63), (77), (91)], 35) := by decide +kernel
theorem d_X_part_52 : decode b_X_part 52 = .ok (.aload_n 0, 1) := by decide +kernel
theorem d_X_part_53 : decode b_X_part 53 = .ok (.getfield 32, 3) := by decide +kernel
theorem d_X_part_56 : decode b_X_part 56 = .ok (.getfield 91, 3) := by decide +kernel
theorem d_X_part_59 : decode b_X_part 59 = .ok (.iload_n 1, 1) := by decide +kernel
theorem d_X_part_60 : decode b_X_part 60 = .ok (.iconst 0, 1) := by decide +kernel
theorem d_X_part_61 : decode b_X_part 61 = .ok (.invokevirtual 103, 3) := by decide +kernel
theorem d_X_part_64 : decode b_X_part 64 = .ok (.l2i, 1) := by decide +kernel
theorem d_X_part_65 : decode b_X_part 65 = .ok (.ireturn, 1) := by decide +kernel
theorem d_X_part_66 : decode b_X_part 66 = .ok (.aload_n 0, 1) := by decide +kernel
theorem d_X_part_67 : decode b_X_part 67 = .ok (.getfield 32, 3) := by decide +kernel
theorem d_X_part_70 : decode b_X_part 70 = .ok (.getfield 91, 3) := by decide +kernel
theorem d_X_part_73 : decode b_X_part 73 = .ok (.iload_n 1, 1) := by decide +kernel
theorem d_X_part_74 : decode b_X_part 74 = .ok (.iconst 2, 1) := by decide +kernel
theorem d_X_part_75 : decode b_X_part 75 = .ok (.invokevirtual 103, 3) := by decide +kernel
theorem d_X_part_78 : decode b_X_part 78 = .ok (.l2i, 1) := by decide +kernel
theorem d_X_part_79 : decode b_X_part 79 = .ok (.ireturn, 1) := by decide +kernel
theorem d_X_part_80 : decode b_X_part 80 = .ok (.aload_n 0, 1) := by decide +kernel
theorem d_X_part_81 : decode b_X_part 81 = .ok (.getfield 32, 3) := by decide +kernel
theorem d_X_part_84 : decode b_X_part 84 = .ok (.getfield 91, 3) := by decide +kernel
theorem d_X_part_87 : decode b_X_part 87 = .ok (.iload_n 1, 1) := by decide +kernel
theorem d_X_part_88 : decode b_X_part 88 = .ok (.iconst 1, 1) := by decide +kernel
theorem d_X_part_89 : decode b_X_part 89 = .ok (.invokevirtual 103, 3) := by decide +kernel
theorem d_X_part_92 : decode b_X_part 92 = .ok (.l2i, 1) := by decide +kernel
theorem d_X_part_93 : decode b_X_part 93 = .ok (.ireturn, 1) := by decide +kernel
theorem d_X_part_94 : decode b_X_part 94 = .ok (.aload_n 0, 1) := by decide +kernel
theorem d_X_part_95 : decode b_X_part 95 = .ok (.getfield 32, 3) := by decide +kernel
theorem d_X_part_98 : decode b_X_part 98 = .ok (.getfield 91, 3) := by decide +kernel
theorem d_X_part_101 : decode b_X_part 101 = .ok (.iload_n 1, 1) := by decide +kernel
theorem d_X_part_102 : decode b_X_part 102 = .ok (.iconst 3, 1) := by decide +kernel
theorem d_X_part_103 : decode b_X_part 103 = .ok (.invokevirtual 103, 3) := by decide +kernel
theorem d_X_part_106 : decode b_X_part 106 = .ok (.l2i, 1) := by decide +kernel
theorem d_X_part_107 : decode b_X_part 107 = .ok (.ireturn, 1) := by decide +kernel
theorem d_X_part_108 : decode b_X_part 108 = .ok (.aload_n 0, 1) := by decide +kernel
theorem d_X_part_109 : decode b_X_part 109 = .ok (.getfield 32, 3) := by decide +kernel
theorem d_X_part_112 : decode b_X_part 112 = .ok (.getfield 91, 3) := by decide +kernel
theorem d_X_part_115 : decode b_X_part 115 = .ok (.iload_n 1, 1) := by decide +kernel
theorem d_X_part_116 : decode b_X_part 116 = .ok (.iconst 4, 1) := by decide +kernel
theorem d_X_part_117 : decode b_X_part 117 = .ok (.invokevirtual 103, 3) := by decide +kernel
theorem d_X_part_120 : decode b_X_part 120 = .ok (.l2i, 1) := by decide +kernel
theorem d_X_part_121 : decode b_X_part 121 = .ok (.ireturn, 1) := by decide +kernel
theorem d_X_part_122 : decode b_X_part 122 = .ok (.iconst (-1), 1) := by decide +kernel
theorem d_X_part_123 : decode b_X_part 123 = .ok (.ireturn, 1) := by decide +kernel
theorem d_X_onsets_0 : decode b_X_onsets 0 = .ok (.iconst 0, 1) := by decide +kernel
theorem d_X_onsets_1 : decode b_X_onsets 1 = .ok (.istore_n 1, 1) := by decide +kernel
theorem d_X_onsets_2 : decode b_X_onsets 2 = .ok (.iconst 0, 1) := by decide +kernel
theorem d_X_onsets_3 : decode b_X_onsets 3 = .ok (.istore_n 2, 1) := by decide +kernel
theorem d_X_onsets_4 : decode b_X_onsets 4 = .ok (.iload_n 2, 1) := by decide +kernel
theorem d_X_onsets_5 : decode b_X_onsets 5 = .ok (.aload_n 0, 1) := by decide +kernel
theorem d_X_onsets_6 : decode b_X_onsets 6 = .ok (.getfield 32, 3) := by decide +kernel
theorem d_X_onsets_9 : decode b_X_onsets 9 = .ok (.getfield 91, 3) := by decide +kernel
theorem d_X_onsets_12 : decode b_X_onsets 12 = .ok (.getfield 95, 3) := by decide +kernel
theorem d_X_onsets_15 : decode b_X_onsets 15 = .ok (.if_icmp .ge (40), 3) := by decide +kernel
theorem d_X_onsets_18 : decode b_X_onsets 18 = .ok (.aload_n 0, 1) := by decide +kernel
theorem d_X_onsets_19 : decode b_X_onsets 19 = .ok (.getfield 32, 3) := by decide +kernel
theorem d_X_onsets_22 : decode b_X_onsets 22 = .ok (.getfield 91, 3) := by decide +kernel
theorem d_X_onsets_25 : decode b_X_onsets 25 = .ok (.iload_n 2, 1) := by decide +kernel
theorem d_X_onsets_26 : decode b_X_onsets 26 = .ok (.iconst 0, 1) := by decide +kernel
theorem d_X_onsets_27 : decode b_X_onsets 27 = .ok (.invokevirtual 103, 3) := by decide +kernel
theorem d_X_onsets_30 : decode b_X_onsets 30 = .ok (.aload_n 0, 1) := by decide +kernel
theorem d_X_onsets_31 : decode b_X_onsets 31 = .ok (.getfield 32, 3) := by decide +kernel
theorem d_X_onsets_34 : decode b_X_onsets 34 = .ok (.getfield 91, 3) := by decide +kernel
theorem d_X_onsets_37 : decode b_X_onsets 37 = .ok (.iload_n 2, 1) := by decide +kernel
theorem d_X_onsets_38 : decode b_X_onsets 38 = .ok (.iconst 1, 1) := by decide +kernel
theorem d_X_onsets_39 : decode b_X_onsets 39 = .ok (.invokevirtual 103, 3) := by decide +kernel
theorem d_X_onsets_42 : decode b_X_onsets 42 = .ok (.lcmp, 1) := by decide +kernel
theorem d_X_onsets_43 : decode b_X_onsets 43 = .ok (.ifCond .ne (6), 3) := by decide +kernel
theorem d_X_onsets_46 : decode b_X_onsets 46 = .ok (.iinc 1 (1), 3) := by decide +kernel
theorem d_X_onsets_49 : decode b_X_onsets 49 = .ok (.iinc 2 (1), 3) := by decide +kernel
theorem d_X_onsets_52 : decode b_X_onsets 52 = .ok (.goto (-48), 3) := by decide +kernel
theorem d_X_onsets_55 : decode b_X_onsets 55 = .ok (.iload_n 1, 1) := by decide +kernel
theorem d_X_onsets_56 : decode b_X_onsets 56 = .ok (.ireturn, 1) := by decide +kernel
theorem d_X_differ_0 : decode b_X_differ 0 = .ok (.iload_n 1, 1) := by decide +kernel
theorem d_X_differ_1 : decode b_X_differ 1 = .ok (.invokestatic 63, 3) := by decide +kernel
theorem d_X_differ_4 : decode b_X_differ 4 = .ok (.ifCond .eq (10), 3) := by decide +kernel
theorem d_X_differ_7 : decode b_X_differ 7 = .ok (.iload_n 2, 1) := by decide +kernel
theorem d_X_differ_8 : decode b_X_differ 8 = .ok (.invokestatic 63, 3) := by decide +kernel
theorem d_X_differ_11 : decode b_X_differ 11 = .ok (.ifCond .ne (6), 3) := by decide +kernel
theorem d_X_differ_14 : decode b_X_differ 14 = .ok (.bipush (-9), 2) := by decide +kernel
theorem d_X_differ_16 : decode b_X_differ 16 = .ok (.ireturn, 1) := by decide +kernel
theorem d_X_differ_17 : decode b_X_differ 17 = .ok (.aload_n 0, 1) := by decide +kernel
theorem d_X_differ_18 : decode b_X_differ 18 = .ok (.getfield 22, 3) := by decide +kernel
theorem d_X_differ_21 : decode b_X_differ 21 = .ok (.iload_n 1, 1) := by decide +kernel
theorem d_X_differ_22 : decode b_X_differ 22 = .ok (.iaload, 1) := by decide +kernel
theorem d_X_differ_23 : decode b_X_differ 23 = .ok (.i2l, 1) := by decide +kernel
theorem d_X_differ_24 : decode b_X_differ 24 = .ok (.aload_n 0, 1) := by decide +kernel
theorem d_X_differ_25 : decode b_X_differ 25 = .ok (.getfield 22, 3) := by decide +kernel
theorem d_X_differ_28 : decode b_X_differ 28 = .ok (.iload_n 2, 1) := by decide +kernel
theorem d_X_differ_29 : decode b_X_differ 29 = .ok (.iaload, 1) := by decide +kernel
theorem d_X_differ_30 : decode b_X_differ 30 = .ok (.i2l, 1) := by decide +kernel
theorem d_X_differ_31 : decode b_X_differ 31 = .ok (.lmul, 1) := by decide +kernel
theorem d_X_differ_32 : decode b_X_differ 32 = .ok (.lstore_n 3, 1) := by decide +kernel
theorem d_X_differ_33 : decode b_X_differ 33 = .ok (.iconst 0, 1) := by decide +kernel
theorem d_X_differ_34 : decode b_X_differ 34 = .ok (.istore 5, 2) := by decide +kernel
theorem d_X_differ_36 : decode b_X_differ 36 = .ok (.iload 5, 2) := by decide +kernel
theorem d_X_differ_38 : decode b_X_differ 38 = .ok (.bipush (16), 2) := by decide +kernel
theorem d_X_differ_40 : decode b_X_differ 40 = .ok (.if_icmp .ge (88), 3) := by decide +kernel
theorem d_X_differ_43 : decode b_X_differ 43 = .ok (.iload 5, 2) := by decide +kernel
theorem d_X_differ_45 : decode b_X_differ 45 = .ok (.i2l, 1) := by decide +kernel
theorem d_X_differ_46 : decode b_X_differ 46 = .ok (.lload_n 3, 1) := by decide +kernel
theorem d_X_differ_47 : decode b_X_differ 47 = .ok (.lmul, 1) := by decide +kernel
theorem d_X_differ_48 : decode b_X_differ 48 = .ok (.lstore 6, 2) := by decide +kernel
theorem d_X_differ_50 : decode b_X_differ 50 = .ok (.aload_n 0, 1) := by decide +kernel
theorem d_X_differ_51 : decode b_X_differ 51 = .ok (.getfield 40, 3) := by decide +kernel
theorem d_X_differ_54 : decode b_X_differ 54 = .ok (.aload_n 0, 1) := by decide +kernel
theorem d_X_differ_55 : decode b_X_differ 55 = .ok (.getfield 18, 3) := by decide +kernel
theorem d_X_differ_58 : decode b_X_differ 58 = .ok (.iload_n 1, 1) := by decide +kernel
theorem d_X_differ_59 : decode b_X_differ 59 = .ok (.aaload, 1) := by decide +kernel
theorem d_X_differ_60 : decode b_X_differ 60 = .ok (.lload_n 3, 1) := by decide +kernel
theorem d_X_differ_61 : decode b_X_differ 61 = .ok (.lload 6, 2) := by decide +kernel
theorem d_X_differ_63 : decode b_X_differ 63 = .ok (.lload 6, 2) := by decide +kernel
theorem d_X_differ_65 : decode b_X_differ 65 = .ok (.lload_n 3, 1) := by decide +kernel
theorem d_X_differ_66 : decode b_X_differ 66 = .ok (.ladd, 1) := by decide +kernel
theorem d_X_differ_67 : decode b_X_differ 67 = .ok (.invokevirtual 87, 3) := by decide +kernel
theorem d_X_differ_70 : decode b_X_differ 70 = .ok (.ifCond .eq (26), 3) := by decide +kernel
theorem d_X_differ_73 : decode b_X_differ 73 = .ok (.aload_n 0, 1) := by decide +kernel
theorem d_X_differ_74 : decode b_X_differ 74 = .ok (.getfield 43, 3) := by decide +kernel
theorem d_X_differ_77 : decode b_X_differ 77 = .ok (.aload_n 0, 1) := by decide +kernel
theorem d_X_differ_78 : decode b_X_differ 78 = .ok (.getfield 18, 3) := by decide +kernel
theorem d_X_differ_81 : decode b_X_differ 81 = .ok (.iload_n 2, 1) := by decide +kernel
theorem d_X_differ_82 : decode b_X_differ 82 = .ok (.aaload, 1) := by decide +kernel
theorem d_X_differ_83 : decode b_X_differ 83 = .ok (.lload_n 3, 1) := by decide +kernel
theorem d_X_differ_84 : decode b_X_differ 84 = .ok (.lload 6, 2) := by decide +kernel
theorem d_X_differ_86 : decode b_X_differ 86 = .ok (.lload 6, 2) := by decide +kernel
theorem d_X_differ_88 : decode b_X_differ 88 = .ok (.lload_n 3, 1) := by decide +kernel
theorem d_X_differ_89 : decode b_X_differ 89 = .ok (.ladd, 1) := by decide +kernel
theorem d_X_differ_90 : decode b_X_differ 90 = .ok (.invokevirtual 87, 3) := by decide +kernel
theorem d_X_differ_93 : decode b_X_differ 93 = .ok (.ifCond .ne (6), 3) := by decide +kernel
theorem d_X_differ_96 : decode b_X_differ 96 = .ok (.bipush (-2), 2) := by decide +kernel
theorem d_X_differ_98 : decode b_X_differ 98 = .ok (.ireturn, 1) := by decide +kernel
theorem d_X_differ_99 : decode b_X_differ 99 = .ok (.aload_n 0, 1) := by decide +kernel
theorem d_X_differ_100 : decode b_X_differ 100 = .ok (.getfield 40, 3) := by decide +kernel
theorem d_X_differ_103 : decode b_X_differ 103 = .ok (.getfield 91, 3) := by decide +kernel
theorem d_X_differ_106 : decode b_X_differ 106 = .ok (.aload_n 0, 1) := by decide +kernel
theorem d_X_differ_107 : decode b_X_differ 107 = .ok (.getfield 43, 3) := by decide +kernel
theorem d_X_differ_110 : decode b_X_differ 110 = .ok (.getfield 91, 3) := by decide +kernel
theorem d_X_differ_113 : decode b_X_differ 113 = .ok (.invokevirtual 107, 3) := by decide +kernel
theorem d_X_differ_116 : decode b_X_differ 116 = .ok (.ifCond .ne (6), 3) := by decide +kernel
theorem d_X_differ_119 : decode b_X_differ 119 = .ok (.iload 5, 2) := by decide +kernel
theorem d_X_differ_121 : decode b_X_differ 121 = .ok (.ireturn, 1) := by decide +kernel
theorem d_X_differ_122 : decode b_X_differ 122 = .ok (.iinc 5 (1), 3) := by decide +kernel
theorem d_X_differ_125 : decode b_X_differ 125 = .ok (.goto (-89), 3) := by decide +kernel
theorem d_X_differ_128 : decode b_X_differ 128 = .ok (.iconst (-1), 1) := by decide +kernel
theorem d_X_differ_129 : decode b_X_differ 129 = .ok (.ireturn, 1) := by decide +kernel
theorem d_X_play_0 : decode b_X_play 0 = .ok (.iload_n 1, 1) := by decide +kernel
theorem d_X_play_1 : decode b_X_play 1 = .ok (.iconst 1, 1) := by decide +kernel
theorem d_X_play_2 : decode b_X_play 2 = .ok (.if_icmp .lt (32), 3) := by decide +kernel
theorem d_X_play_5 : decode b_X_play 5 = .ok (.iload_n 1, 1) := by decide +kernel
theorem d_X_play_6 : decode b_X_play 6 = .ok (.sipush (255), 3) := by decide +kernel
theorem d_X_play_9 : decode b_X_play 9 = .ok (.if_icmp .gt (25), 3) := by decide +kernel
theorem d_X_play_12 : decode b_X_play 12 = .ok (.iload_n 2, 1) := by decide +kernel
theorem d_X_play_13 : decode b_X_play 13 = .ok (.iconst 1, 1) := by decide +kernel
theorem d_X_play_14 : decode b_X_play 14 = .ok (.if_icmp .lt (20), 3) := by decide +kernel
theorem d_X_play_17 : decode b_X_play 17 = .ok (.iload_n 2, 1) := by decide +kernel
theorem d_X_play_18 : decode b_X_play 18 = .ok (.bipush (20), 2) := by decide +kernel
theorem d_X_play_20 : decode b_X_play 20 = .ok (.if_icmp .gt (14), 3) := by decide +kernel
theorem d_X_play_23 : decode b_X_play 23 = .ok (.iload_n 3, 1) := by decide +kernel
theorem d_X_play_24 : decode b_X_play 24 = .ok (.iconst 1, 1) := by decide +kernel
theorem d_X_play_25 : decode b_X_play 25 = .ok (.if_icmp .lt (9), 3) := by decide +kernel
theorem d_X_play_28 : decode b_X_play 28 = .ok (.iload_n 3, 1) := by decide +kernel
theorem d_X_play_29 : decode b_X_play 29 = .ok (.bipush (20), 2) := by decide +kernel
theorem d_X_play_31 : decode b_X_play 31 = .ok (.if_icmp .le (5), 3) := by decide +kernel
theorem d_X_play_34 : decode b_X_play 34 = .ok (.iconst 0, 1) := by decide +kernel
theorem d_X_play_35 : decode b_X_play 35 = .ok (.ireturn, 1) := by decide +kernel
theorem d_X_play_36 : decode b_X_play 36 = .ok (.aload_n 0, 1) := by decide +kernel
theorem d_X_play_37 : decode b_X_play 37 = .ok (.invokevirtual 67, 3) := by decide +kernel
theorem d_X_play_40 : decode b_X_play 40 = .ok (.aload_n 0, 1) := by decide +kernel
theorem d_X_play_41 : decode b_X_play 41 = .ok (.iload_n 1, 1) := by decide +kernel
theorem d_X_play_42 : decode b_X_play 42 = .ok (.putfield 111, 3) := by decide +kernel
theorem d_X_play_45 : decode b_X_play 45 = .ok (.aload_n 0, 1) := by decide +kernel
theorem d_X_play_46 : decode b_X_play 46 = .ok (.iload_n 2, 1) := by decide +kernel
theorem d_X_play_47 : decode b_X_play 47 = .ok (.putfield 114, 3) := by decide +kernel
theorem d_X_play_50 : decode b_X_play 50 = .ok (.aload_n 0, 1) := by decide +kernel
theorem d_X_play_51 : decode b_X_play 51 = .ok (.iload_n 3, 1) := by decide +kernel
theorem d_X_play_52 : decode b_X_play 52 = .ok (.putfield 117, 3) := by decide +kernel
theorem d_X_play_55 : decode b_X_play 55 = .ok (.iconst 1, 1) := by decide +kernel
theorem d_X_play_56 : decode b_X_play 56 = .ok (.ireturn, 1) := by decide +kernel
theorem d_X_advance_0 : decode b_X_advance 0 = .ok (.aload_n 0, 1) := by decide +kernel
theorem d_X_advance_1 : decode b_X_advance 1 = .ok (.getfield 111, 3) := by decide +kernel
theorem d_X_advance_4 : decode b_X_advance 4 = .ok (.ifCond .eq (15), 3) := by decide +kernel
theorem d_X_advance_7 : decode b_X_advance 7 = .ok (.iload_n 1, 1) := by decide +kernel
theorem d_X_advance_8 : decode b_X_advance 8 = .ok (.iconst 1, 1) := by decide +kernel
theorem d_X_advance_9 : decode b_X_advance 9 = .ok (.if_icmp .lt (10), 3) := by decide +kernel
theorem d_X_advance_12 : decode b_X_advance 12 = .ok (.iload_n 1, 1) := by decide +kernel
theorem d_X_advance_13 : decode b_X_advance 13 = .ok (.sipush (500), 3) := by decide +kernel
theorem d_X_advance_16 : decode b_X_advance 16 = .ok (.if_icmp .le (5), 3) := by decide +kernel
theorem d_X_advance_19 : decode b_X_advance 19 = .ok (.iconst (-1), 1) := by decide +kernel
theorem d_X_advance_20 : decode b_X_advance 20 = .ok (.ireturn, 1) := by decide +kernel
theorem d_X_advance_21 : decode b_X_advance 21 = .ok (.aload_n 0, 1) := by decide +kernel
theorem d_X_advance_22 : decode b_X_advance 22 = .ok (.getfield 49, 3) := by decide +kernel
theorem d_X_advance_25 : decode b_X_advance 25 = .ok (.getfield 120, 3) := by decide +kernel
theorem d_X_advance_28 : decode b_X_advance 28 = .ok (.invokevirtual 121, 3) := by decide +kernel
theorem d_X_advance_31 : decode b_X_advance 31 = .ok (.iconst 0, 1) := by decide +kernel
theorem d_X_advance_32 : decode b_X_advance 32 = .ok (.istore_n 2, 1) := by decide +kernel
theorem d_X_advance_33 : decode b_X_advance 33 = .ok (.iload_n 2, 1) := by decide +kernel
theorem d_X_advance_34 : decode b_X_advance 34 = .ok (.bipush (8), 2) := by decide +kernel
theorem d_X_advance_36 : decode b_X_advance 36 = .ok (.if_icmp .ge (27), 3) := by decide +kernel
theorem d_X_advance_39 : decode b_X_advance 39 = .ok (.aload_n 0, 1) := by decide +kernel
theorem d_X_advance_40 : decode b_X_advance 40 = .ok (.getfield 111, 3) := by decide +kernel
theorem d_X_advance_43 : decode b_X_advance 43 = .ok (.iload_n 2, 1) := by decide +kernel
theorem d_X_advance_44 : decode b_X_advance 44 = .ok (.ishr, 1) := by decide +kernel
theorem d_X_advance_45 : decode b_X_advance 45 = .ok (.iconst 1, 1) := by decide +kernel
theorem d_X_advance_46 : decode b_X_advance 46 = .ok (.iand, 1) := by decide +kernel
theorem d_X_advance_47 : decode b_X_advance 47 = .ok (.iconst 1, 1) := by decide +kernel
theorem d_X_advance_48 : decode b_X_advance 48 = .ok (.if_icmp .ne (9), 3) := by decide +kernel
theorem d_X_advance_51 : decode b_X_advance 51 = .ok (.aload_n 0, 1) := by decide +kernel
theorem d_X_advance_52 : decode b_X_advance 52 = .ok (.iload_n 2, 1) := by decide +kernel
theorem d_X_advance_53 : decode b_X_advance 53 = .ok (.iload_n 1, 1) := by decide +kernel
theorem d_X_advance_54 : decode b_X_advance 54 = .ok (.invokevirtual 122, 3) := by decide +kernel
theorem d_X_advance_57 : decode b_X_advance 57 = .ok (.iinc 2 (1), 3) := by decide +kernel
theorem d_X_advance_60 : decode b_X_advance 60 = .ok (.goto (-27), 3) := by decide +kernel
theorem d_X_advance_63 : decode b_X_advance 63 = .ok (.aload_n 0, 1) := by decide +kernel
theorem d_X_advance_64 : decode b_X_advance 64 = .ok (.getfield 49, 3) := by decide +kernel
theorem d_X_advance_67 : decode b_X_advance 67 = .ok (.getfield 120, 3) := by decide +kernel
theorem d_X_advance_70 : decode b_X_advance 70 = .ok (.getfield 126, 3) := by decide +kernel
theorem d_X_advance_73 : decode b_X_advance 73 = .ok (.ifCond .eq (16), 3) := by decide +kernel
theorem d_X_advance_76 : decode b_X_advance 76 = .ok (.aload_n 0, 1) := by decide +kernel
theorem d_X_advance_77 : decode b_X_advance 77 = .ok (.getfield 49, 3) := by decide +kernel
theorem d_X_advance_80 : decode b_X_advance 80 = .ok (.getfield 120, 3) := by decide +kernel
theorem d_X_advance_83 : decode b_X_advance 83 = .ok (.invokevirtual 121, 3) := by decide +kernel
theorem d_X_advance_86 : decode b_X_advance 86 = .ok (.bipush (-2), 2) := by decide +kernel
theorem d_X_advance_88 : decode b_X_advance 88 = .ok (.ireturn, 1) := by decide +kernel
theorem d_X_advance_89 : decode b_X_advance 89 = .ok (.aload_n 0, 1) := by decide +kernel
theorem d_X_advance_90 : decode b_X_advance 90 = .ok (.dup, 1) := by decide +kernel
theorem d_X_advance_91 : decode b_X_advance 91 = .ok (.getfield 130, 3) := by decide +kernel
theorem d_X_advance_94 : decode b_X_advance 94 = .ok (.iload_n 1, 1) := by decide +kernel
theorem d_X_advance_95 : decode b_X_advance 95 = .ok (.i2l, 1) := by decide +kernel
theorem d_X_advance_96 : decode b_X_advance 96 = .ok (.ladd, 1) := by decide +kernel
theorem d_X_advance_97 : decode b_X_advance 97 = .ok (.putfield 130, 3) := by decide +kernel
theorem d_X_advance_100 : decode b_X_advance 100 = .ok (.aload_n 0, 1) := by decide +kernel
theorem d_X_advance_101 : decode b_X_advance 101 = .ok (.getfield 49, 3) := by decide +kernel
theorem d_X_advance_104 : decode b_X_advance 104 = .ok (.getfield 120, 3) := by decide +kernel
theorem d_X_advance_107 : decode b_X_advance 107 = .ok (.getfield 95, 3) := by decide +kernel
theorem d_X_advance_110 : decode b_X_advance 110 = .ok (.ireturn, 1) := by decide +kernel
theorem d_X_due_0 : decode b_X_due 0 = .ok (.aload_n 0, 1) := by decide +kernel
theorem d_X_due_1 : decode b_X_due 1 = .ok (.getfield 49, 3) := by decide +kernel
theorem d_X_due_4 : decode b_X_due 4 = .ok (.getfield 120, 3) := by decide +kernel
theorem d_X_due_7 : decode b_X_due 7 = .ok (.iload_n 1, 1) := by decide +kernel
theorem d_X_due_8 : decode b_X_due 8 = .ok (.invokevirtual 100, 3) := by decide +kernel
theorem d_X_due_11 : decode b_X_due 11 = .ok (.ifCond .ne (5), 3) := by decide +kernel
theorem d_X_due_14 : decode b_X_due 14 = .ok (.iconst (-1), 1) := by decide +kernel
theorem d_X_due_15 : decode b_X_due 15 = .ok (.ireturn, 1) := by decide +kernel
theorem d_X_due_16 : decode b_X_due 16 = .ok (.iload_n 2, 1) := by decide +kernel
theorem d_X_due_17 : decode b_X_due 17 = .ok (.tableswitch (80) (0) (3) #[(31), (45), (59), (73)], 31) := by decide +kernel
theorem d_X_due_48 : decode b_X_due 48 = .ok (.aload_n 0, 1) := by decide +kernel
theorem d_X_due_49 : decode b_X_due 49 = .ok (.getfield 49, 3) := by decide +kernel
theorem d_X_due_52 : decode b_X_due 52 = .ok (.getfield 120, 3) := by decide +kernel
theorem d_X_due_55 : decode b_X_due 55 = .ok (.iload_n 1, 1) := by decide +kernel
theorem d_X_due_56 : decode b_X_due 56 = .ok (.iconst 0, 1) := by decide +kernel
theorem d_X_due_57 : decode b_X_due 57 = .ok (.invokevirtual 103, 3) := by decide +kernel
theorem d_X_due_60 : decode b_X_due 60 = .ok (.l2i, 1) := by decide +kernel
theorem d_X_due_61 : decode b_X_due 61 = .ok (.ireturn, 1) := by decide +kernel
theorem d_X_due_62 : decode b_X_due 62 = .ok (.aload_n 0, 1) := by decide +kernel
theorem d_X_due_63 : decode b_X_due 63 = .ok (.getfield 49, 3) := by decide +kernel
theorem d_X_due_66 : decode b_X_due 66 = .ok (.getfield 120, 3) := by decide +kernel
theorem d_X_due_69 : decode b_X_due 69 = .ok (.iload_n 1, 1) := by decide +kernel
theorem d_X_due_70 : decode b_X_due 70 = .ok (.iconst 1, 1) := by decide +kernel
theorem d_X_due_71 : decode b_X_due 71 = .ok (.invokevirtual 103, 3) := by decide +kernel
theorem d_X_due_74 : decode b_X_due 74 = .ok (.l2i, 1) := by decide +kernel
theorem d_X_due_75 : decode b_X_due 75 = .ok (.ireturn, 1) := by decide +kernel
theorem d_X_due_76 : decode b_X_due 76 = .ok (.aload_n 0, 1) := by decide +kernel
theorem d_X_due_77 : decode b_X_due 77 = .ok (.getfield 49, 3) := by decide +kernel
theorem d_X_due_80 : decode b_X_due 80 = .ok (.getfield 120, 3) := by decide +kernel
theorem d_X_due_83 : decode b_X_due 83 = .ok (.iload_n 1, 1) := by decide +kernel
theorem d_X_due_84 : decode b_X_due 84 = .ok (.iconst 4, 1) := by decide +kernel
theorem d_X_due_85 : decode b_X_due 85 = .ok (.invokevirtual 103, 3) := by decide +kernel
theorem d_X_due_88 : decode b_X_due 88 = .ok (.l2i, 1) := by decide +kernel
theorem d_X_due_89 : decode b_X_due 89 = .ok (.ireturn, 1) := by decide +kernel
theorem d_X_due_90 : decode b_X_due 90 = .ok (.aload_n 0, 1) := by decide +kernel
theorem d_X_due_91 : decode b_X_due 91 = .ok (.iload_n 1, 1) := by decide +kernel
theorem d_X_due_92 : decode b_X_due 92 = .ok (.invokevirtual 134, 3) := by decide +kernel
theorem d_X_due_95 : decode b_X_due 95 = .ok (.l2i, 1) := by decide +kernel
theorem d_X_due_96 : decode b_X_due 96 = .ok (.ireturn, 1) := by decide +kernel
theorem d_X_due_97 : decode b_X_due 97 = .ok (.iconst (-1), 1) := by decide +kernel
theorem d_X_due_98 : decode b_X_due 98 = .ok (.ireturn, 1) := by decide +kernel
theorem d_X_tick_0 : decode b_X_tick 0 = .ok (.aload_n 0, 1) := by decide +kernel
theorem d_X_tick_1 : decode b_X_tick 1 = .ok (.getfield 130, 3) := by decide +kernel
theorem d_X_tick_4 : decode b_X_tick 4 = .ok (.l2i, 1) := by decide +kernel
theorem d_X_tick_5 : decode b_X_tick 5 = .ok (.ireturn, 1) := by decide +kernel
theorem d_X_isSlot_0 : decode b_X_isSlot 0 = .ok (.iload_n 0, 1) := by decide +kernel
theorem d_X_isSlot_1 : decode b_X_isSlot 1 = .ok (.ifCond .lt (13), 3) := by decide +kernel
theorem d_X_isSlot_4 : decode b_X_isSlot 4 = .ok (.iload_n 0, 1) := by decide +kernel
theorem d_X_isSlot_5 : decode b_X_isSlot 5 = .ok (.bipush (8), 2) := by decide +kernel
theorem d_X_isSlot_7 : decode b_X_isSlot 7 = .ok (.if_icmp .ge (7), 3) := by decide +kernel
theorem d_X_isSlot_10 : decode b_X_isSlot 10 = .ok (.iconst 1, 1) := by decide +kernel
theorem d_X_isSlot_11 : decode b_X_isSlot 11 = .ok (.goto (4), 3) := by decide +kernel
theorem d_X_isSlot_14 : decode b_X_isSlot 14 = .ok (.iconst 0, 1) := by decide +kernel
theorem d_X_isSlot_15 : decode b_X_isSlot 15 = .ok (.ireturn, 1) := by decide +kernel
theorem d_X_isSpan_0 : decode b_X_isSpan 0 = .ok (.sipush (1000), 3) := by decide +kernel
theorem d_X_isSpan_3 : decode b_X_isSpan 3 = .ok (.iload_n 2, 1) := by decide +kernel
theorem d_X_isSpan_4 : decode b_X_isSpan 4 = .ok (.imul, 1) := by decide +kernel
theorem d_X_isSpan_5 : decode b_X_isSpan 5 = .ok (.istore_n 3, 1) := by decide +kernel
theorem d_X_isSpan_6 : decode b_X_isSpan 6 = .ok (.iload_n 0, 1) := by decide +kernel
theorem d_X_isSpan_7 : decode b_X_isSpan 7 = .ok (.iload_n 3, 1) := by decide +kernel
theorem d_X_isSpan_8 : decode b_X_isSpan 8 = .ok (.ineg, 1) := by decide +kernel
theorem d_X_isSpan_9 : decode b_X_isSpan 9 = .ok (.if_icmp .lt (31), 3) := by decide +kernel
theorem d_X_isSpan_12 : decode b_X_isSpan 12 = .ok (.iload_n 1, 1) := by decide +kernel
theorem d_X_isSpan_13 : decode b_X_isSpan 13 = .ok (.iload_n 3, 1) := by decide +kernel
theorem d_X_isSpan_14 : decode b_X_isSpan 14 = .ok (.if_icmp .gt (26), 3) := by decide +kernel
theorem d_X_isSpan_17 : decode b_X_isSpan 17 = .ok (.iload_n 0, 1) := by decide +kernel
theorem d_X_isSpan_18 : decode b_X_isSpan 18 = .ok (.iload_n 1, 1) := by decide +kernel
theorem d_X_isSpan_19 : decode b_X_isSpan 19 = .ok (.if_icmp .ge (21), 3) := by decide +kernel
theorem d_X_isSpan_22 : decode b_X_isSpan 22 = .ok (.iload_n 1, 1) := by decide +kernel
theorem d_X_isSpan_23 : decode b_X_isSpan 23 = .ok (.i2l, 1) := by decide +kernel
theorem d_X_isSpan_24 : decode b_X_isSpan 24 = .ok (.iload_n 0, 1) := by decide +kernel
theorem d_X_isSpan_25 : decode b_X_isSpan 25 = .ok (.i2l, 1) := by decide +kernel
theorem d_X_isSpan_26 : decode b_X_isSpan 26 = .ok (.lsub, 1) := by decide +kernel
theorem d_X_isSpan_27 : decode b_X_isSpan 27 = .ok (.bipush (16), 2) := by decide +kernel
theorem d_X_isSpan_29 : decode b_X_isSpan 29 = .ok (.iload_n 2, 1) := by decide +kernel
theorem d_X_isSpan_30 : decode b_X_isSpan 30 = .ok (.imul, 1) := by decide +kernel
theorem d_X_isSpan_31 : decode b_X_isSpan 31 = .ok (.i2l, 1) := by decide +kernel
theorem d_X_isSpan_32 : decode b_X_isSpan 32 = .ok (.lcmp, 1) := by decide +kernel
theorem d_X_isSpan_33 : decode b_X_isSpan 33 = .ok (.ifCond .gt (7), 3) := by decide +kernel
theorem d_X_isSpan_36 : decode b_X_isSpan 36 = .ok (.iconst 1, 1) := by decide +kernel
theorem d_X_isSpan_37 : decode b_X_isSpan 37 = .ok (.goto (4), 3) := by decide +kernel
theorem d_X_isSpan_40 : decode b_X_isSpan 40 = .ok (.iconst 0, 1) := by decide +kernel
theorem d_X_isSpan_41 : decode b_X_isSpan 41 = .ok (.ireturn, 1) := by decide +kernel
theorem d_X_stopPlaying_0 : decode b_X_stopPlaying 0 = .ok (.aload_n 0, 1) := by decide +kernel
theorem d_X_stopPlaying_1 : decode b_X_stopPlaying 1 = .ok (.iconst 0, 1) := by decide +kernel
theorem d_X_stopPlaying_2 : decode b_X_stopPlaying 2 = .ok (.putfield 111, 3) := by decide +kernel
theorem d_X_stopPlaying_5 : decode b_X_stopPlaying 5 = .ok (.aload_n 0, 1) := by decide +kernel
theorem d_X_stopPlaying_6 : decode b_X_stopPlaying 6 = .ok (.lconst 0, 1) := by decide +kernel
theorem d_X_stopPlaying_7 : decode b_X_stopPlaying 7 = .ok (.putfield 130, 3) := by decide +kernel
theorem d_X_stopPlaying_10 : decode b_X_stopPlaying 10 = .ok (.aload_n 0, 1) := by decide +kernel
theorem d_X_stopPlaying_11 : decode b_X_stopPlaying 11 = .ok (.getfield 49, 3) := by decide +kernel
theorem d_X_stopPlaying_14 : decode b_X_stopPlaying 14 = .ok (.getfield 120, 3) := by decide +kernel
theorem d_X_stopPlaying_17 : decode b_X_stopPlaying 17 = .ok (.invokevirtual 121, 3) := by decide +kernel
theorem d_X_stopPlaying_20 : decode b_X_stopPlaying 20 = .ok (.return_, 1) := by decide +kernel
theorem d_X_gatherOnsets_0 : decode b_X_gatherOnsets 0 = .ok (.aload_n 0, 1) := by decide +kernel
theorem d_X_gatherOnsets_1 : decode b_X_gatherOnsets 1 = .ok (.iload_n 1, 1) := by decide +kernel
theorem d_X_gatherOnsets_2 : decode b_X_gatherOnsets 2 = .ok (.invokevirtual 138, 3) := by decide +kernel
theorem d_X_gatherOnsets_5 : decode b_X_gatherOnsets 5 = .ok (.lstore_n 3, 1) := by decide +kernel
theorem d_X_gatherOnsets_6 : decode b_X_gatherOnsets 6 = .ok (.ldc2_w 141, 3) := by decide +kernel
theorem d_X_gatherOnsets_9 : decode b_X_gatherOnsets 9 = .ok (.aload_n 0, 1) := by decide +kernel
theorem d_X_gatherOnsets_10 : decode b_X_gatherOnsets 10 = .ok (.getfield 117, 3) := by decide +kernel
theorem d_X_gatherOnsets_13 : decode b_X_gatherOnsets 13 = .ok (.i2l, 1) := by decide +kernel
theorem d_X_gatherOnsets_14 : decode b_X_gatherOnsets 14 = .ok (.lmul, 1) := by decide +kernel
theorem d_X_gatherOnsets_15 : decode b_X_gatherOnsets 15 = .ok (.aload_n 0, 1) := by decide +kernel
theorem d_X_gatherOnsets_16 : decode b_X_gatherOnsets 16 = .ok (.getfield 22, 3) := by decide +kernel
theorem d_X_gatherOnsets_19 : decode b_X_gatherOnsets 19 = .ok (.iload_n 1, 1) := by decide +kernel
theorem d_X_gatherOnsets_20 : decode b_X_gatherOnsets 20 = .ok (.iaload, 1) := by decide +kernel
theorem d_X_gatherOnsets_21 : decode b_X_gatherOnsets 21 = .ok (.i2l, 1) := by decide +kernel
theorem d_X_gatherOnsets_22 : decode b_X_gatherOnsets 22 = .ok (.lmul, 1) := by decide +kernel
theorem d_X_gatherOnsets_23 : decode b_X_gatherOnsets 23 = .ok (.lstore 5, 2) := by decide +kernel
theorem d_X_gatherOnsets_25 : decode b_X_gatherOnsets 25 = .ok (.aload_n 0, 1) := by decide +kernel
theorem d_X_gatherOnsets_26 : decode b_X_gatherOnsets 26 = .ok (.getfield 130, 3) := by decide +kernel
theorem d_X_gatherOnsets_29 : decode b_X_gatherOnsets 29 = .ok (.lload_n 3, 1) := by decide +kernel
theorem d_X_gatherOnsets_30 : decode b_X_gatherOnsets 30 = .ok (.lmul, 1) := by decide +kernel
theorem d_X_gatherOnsets_31 : decode b_X_gatherOnsets 31 = .ok (.lstore 7, 2) := by decide +kernel
theorem d_X_gatherOnsets_33 : decode b_X_gatherOnsets 33 = .ok (.aload_n 0, 1) := by decide +kernel
theorem d_X_gatherOnsets_34 : decode b_X_gatherOnsets 34 = .ok (.getfield 49, 3) := by decide +kernel
theorem d_X_gatherOnsets_37 : decode b_X_gatherOnsets 37 = .ok (.iload_n 1, 1) := by decide +kernel
theorem d_X_gatherOnsets_38 : decode b_X_gatherOnsets 38 = .ok (.putfield 143, 3) := by decide +kernel
theorem d_X_gatherOnsets_41 : decode b_X_gatherOnsets 41 = .ok (.aload_n 0, 1) := by decide +kernel
theorem d_X_gatherOnsets_42 : decode b_X_gatherOnsets 42 = .ok (.getfield 49, 3) := by decide +kernel
theorem d_X_gatherOnsets_45 : decode b_X_gatherOnsets 45 = .ok (.lload_n 3, 1) := by decide +kernel
theorem d_X_gatherOnsets_46 : decode b_X_gatherOnsets 46 = .ok (.putfield 146, 3) := by decide +kernel
theorem d_X_gatherOnsets_49 : decode b_X_gatherOnsets 49 = .ok (.aload_n 0, 1) := by decide +kernel
theorem d_X_gatherOnsets_50 : decode b_X_gatherOnsets 50 = .ok (.getfield 49, 3) := by decide +kernel
theorem d_X_gatherOnsets_53 : decode b_X_gatherOnsets 53 = .ok (.aload_n 0, 1) := by decide +kernel
theorem d_X_gatherOnsets_54 : decode b_X_gatherOnsets 54 = .ok (.getfield 18, 3) := by decide +kernel
theorem d_X_gatherOnsets_57 : decode b_X_gatherOnsets 57 = .ok (.iload_n 1, 1) := by decide +kernel
theorem d_X_gatherOnsets_58 : decode b_X_gatherOnsets 58 = .ok (.aaload, 1) := by decide +kernel
theorem d_X_gatherOnsets_59 : decode b_X_gatherOnsets 59 = .ok (.lload 5, 2) := by decide +kernel
theorem d_X_gatherOnsets_61 : decode b_X_gatherOnsets 61 = .ok (.lconst 0, 1) := by decide +kernel
theorem d_X_gatherOnsets_62 : decode b_X_gatherOnsets 62 = .ok (.lload 7, 2) := by decide +kernel
theorem d_X_gatherOnsets_64 : decode b_X_gatherOnsets 64 = .ok (.lload 7, 2) := by decide +kernel
theorem d_X_gatherOnsets_66 : decode b_X_gatherOnsets 66 = .ok (.iload_n 2, 1) := by decide +kernel
theorem d_X_gatherOnsets_67 : decode b_X_gatherOnsets 67 = .ok (.i2l, 1) := by decide +kernel
theorem d_X_gatherOnsets_68 : decode b_X_gatherOnsets 68 = .ok (.lload_n 3, 1) := by decide +kernel
theorem d_X_gatherOnsets_69 : decode b_X_gatherOnsets 69 = .ok (.lmul, 1) := by decide +kernel
theorem d_X_gatherOnsets_70 : decode b_X_gatherOnsets 70 = .ok (.ladd, 1) := by decide +kernel
theorem d_X_gatherOnsets_71 : decode b_X_gatherOnsets 71 = .ok (.iconst 1, 1) := by decide +kernel
theorem d_X_gatherOnsets_72 : decode b_X_gatherOnsets 72 = .ok (.invokevirtual 148, 3) := by decide +kernel
theorem d_X_gatherOnsets_75 : decode b_X_gatherOnsets 75 = .ok (.return_, 1) := by decide +kernel
theorem d_X_tickLength_0 : decode b_X_tickLength 0 = .ok (.aload_n 0, 1) := by decide +kernel
theorem d_X_tickLength_1 : decode b_X_tickLength 1 = .ok (.getfield 114, 3) := by decide +kernel
theorem d_X_tickLength_4 : decode b_X_tickLength 4 = .ok (.i2l, 1) := by decide +kernel
theorem d_X_tickLength_5 : decode b_X_tickLength 5 = .ok (.aload_n 0, 1) := by decide +kernel
theorem d_X_tickLength_6 : decode b_X_tickLength 6 = .ok (.getfield 22, 3) := by decide +kernel
theorem d_X_tickLength_9 : decode b_X_tickLength 9 = .ok (.iload_n 1, 1) := by decide +kernel
theorem d_X_tickLength_10 : decode b_X_tickLength 10 = .ok (.iaload, 1) := by decide +kernel
theorem d_X_tickLength_11 : decode b_X_tickLength 11 = .ok (.i2l, 1) := by decide +kernel
theorem d_X_tickLength_12 : decode b_X_tickLength 12 = .ok (.lmul, 1) := by decide +kernel
theorem d_X_tickLength_13 : decode b_X_tickLength 13 = .ok (.lreturn, 1) := by decide +kernel
theorem d_X_ticksItLasts_0 : decode b_X_ticksItLasts 0 = .ok (.aload_n 0, 1) := by decide +kernel
theorem d_X_ticksItLasts_1 : decode b_X_ticksItLasts 1 = .ok (.getfield 49, 3) := by decide +kernel
theorem d_X_ticksItLasts_4 : decode b_X_ticksItLasts 4 = .ok (.getfield 120, 3) := by decide +kernel
theorem d_X_ticksItLasts_7 : decode b_X_ticksItLasts 7 = .ok (.iload_n 1, 1) := by decide +kernel
theorem d_X_ticksItLasts_8 : decode b_X_ticksItLasts 8 = .ok (.iconst 1, 1) := by decide +kernel
theorem d_X_ticksItLasts_9 : decode b_X_ticksItLasts 9 = .ok (.invokevirtual 103, 3) := by decide +kernel
theorem d_X_ticksItLasts_12 : decode b_X_ticksItLasts 12 = .ok (.l2i, 1) := by decide +kernel
theorem d_X_ticksItLasts_13 : decode b_X_ticksItLasts 13 = .ok (.istore_n 2, 1) := by decide +kernel
theorem d_X_ticksItLasts_14 : decode b_X_ticksItLasts 14 = .ok (.iload_n 2, 1) := by decide +kernel
theorem d_X_ticksItLasts_15 : decode b_X_ticksItLasts 15 = .ok (.invokestatic 63, 3) := by decide +kernel
theorem d_X_ticksItLasts_18 : decode b_X_ticksItLasts 18 = .ok (.ifCond .eq (13), 3) := by decide +kernel
theorem d_X_ticksItLasts_21 : decode b_X_ticksItLasts 21 = .ok (.aload_n 0, 1) := by decide +kernel
theorem d_X_ticksItLasts_22 : decode b_X_ticksItLasts 22 = .ok (.iload_n 2, 1) := by decide +kernel
theorem d_X_ticksItLasts_23 : decode b_X_ticksItLasts 23 = .ok (.invokevirtual 138, 3) := by decide +kernel
theorem d_X_ticksItLasts_26 : decode b_X_ticksItLasts 26 = .ok (.lconst 1, 1) := by decide +kernel
theorem d_X_ticksItLasts_27 : decode b_X_ticksItLasts 27 = .ok (.lcmp, 1) := by decide +kernel
theorem d_X_ticksItLasts_28 : decode b_X_ticksItLasts 28 = .ok (.ifCond .ge (7), 3) := by decide +kernel
theorem d_X_ticksItLasts_31 : decode b_X_ticksItLasts 31 = .ok (.ldc2_w 152, 3) := by decide +kernel
theorem d_X_ticksItLasts_34 : decode b_X_ticksItLasts 34 = .ok (.lreturn, 1) := by decide +kernel
theorem d_X_ticksItLasts_35 : decode b_X_ticksItLasts 35 = .ok (.aload_n 0, 1) := by decide +kernel
theorem d_X_ticksItLasts_36 : decode b_X_ticksItLasts 36 = .ok (.getfield 49, 3) := by decide +kernel
theorem d_X_ticksItLasts_39 : decode b_X_ticksItLasts 39 = .ok (.getfield 120, 3) := by decide +kernel
theorem d_X_ticksItLasts_42 : decode b_X_ticksItLasts 42 = .ok (.iload_n 1, 1) := by decide +kernel
theorem d_X_ticksItLasts_43 : decode b_X_ticksItLasts 43 = .ok (.iconst 3, 1) := by decide +kernel
theorem d_X_ticksItLasts_44 : decode b_X_ticksItLasts 44 = .ok (.invokevirtual 103, 3) := by decide +kernel
theorem d_X_ticksItLasts_47 : decode b_X_ticksItLasts 47 = .ok (.aload_n 0, 1) := by decide +kernel
theorem d_X_ticksItLasts_48 : decode b_X_ticksItLasts 48 = .ok (.iload_n 2, 1) := by decide +kernel
theorem d_X_ticksItLasts_49 : decode b_X_ticksItLasts 49 = .ok (.invokevirtual 138, 3) := by decide +kernel
theorem d_X_ticksItLasts_52 : decode b_X_ticksItLasts 52 = .ok (.invokestatic 154, 3) := by decide +kernel
theorem d_X_ticksItLasts_55 : decode b_X_ticksItLasts 55 = .ok (.lstore_n 3, 1) := by decide +kernel
theorem d_X_ticksItLasts_56 : decode b_X_ticksItLasts 56 = .ok (.lload_n 3, 1) := by decide +kernel
theorem d_X_ticksItLasts_57 : decode b_X_ticksItLasts 57 = .ok (.aload_n 0, 1) := by decide +kernel
theorem d_X_ticksItLasts_58 : decode b_X_ticksItLasts 58 = .ok (.getfield 49, 3) := by decide +kernel
theorem d_X_ticksItLasts_61 : decode b_X_ticksItLasts 61 = .ok (.getfield 120, 3) := by decide +kernel
theorem d_X_ticksItLasts_64 : decode b_X_ticksItLasts 64 = .ok (.iload_n 1, 1) := by decide +kernel
theorem d_X_ticksItLasts_65 : decode b_X_ticksItLasts 65 = .ok (.iconst 0, 1) := by decide +kernel
theorem d_X_ticksItLasts_66 : decode b_X_ticksItLasts 66 = .ok (.invokevirtual 103, 3) := by decide +kernel
theorem d_X_ticksItLasts_69 : decode b_X_ticksItLasts 69 = .ok (.lsub, 1) := by decide +kernel
theorem d_X_ticksItLasts_70 : decode b_X_ticksItLasts 70 = .ok (.lreturn, 1) := by decide +kernel
