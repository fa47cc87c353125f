/-! decode rows -/
theorem d_N_init_0 : decode b_N_init 0 = .ok (.aload_n 0, 1) := by decide +kernel
theorem d_N_init_1 : decode b_N_init 1 = .ok (.invokespecial 1, 3) := by decide +kernel
theorem d_N_init_4 : decode b_N_init 4 = .ok (.aload_n 0, 1) := by decide +kernel
theorem d_N_init_5 : decode b_N_init 5 = .ok (.iconst 1, 1) := by decide +kernel
theorem d_N_init_6 : decode b_N_init 6 = .ok (.putfield 7, 3) := by decide +kernel
theorem d_N_init_9 : decode b_N_init 9 = .ok (.aload_n 0, 1) := by decide +kernel
theorem d_N_init_10 : decode b_N_init 10 = .ok (.iconst 1, 1) := by decide +kernel
theorem d_N_init_11 : decode b_N_init 11 = .ok (.putfield 13, 3) := by decide +kernel
theorem d_N_init_14 : decode b_N_init 14 = .ok (.aload_n 0, 1) := by decide +kernel
theorem d_N_init_15 : decode b_N_init 15 = .ok (.iload_n 1, 1) := by decide +kernel
theorem d_N_init_16 : decode b_N_init 16 = .ok (.putfield 16, 3) := by decide +kernel
theorem d_N_init_19 : decode b_N_init 19 = .ok (.aload_n 0, 1) := by decide +kernel
theorem d_N_init_20 : decode b_N_init 20 = .ok (.iload_n 2, 1) := by decide +kernel
theorem d_N_init_21 : decode b_N_init 21 = .ok (.anewarray 8, 3) := by decide +kernel
theorem d_N_init_24 : decode b_N_init 24 = .ok (.putfield 20, 3) := by decide +kernel
theorem d_N_init_27 : decode b_N_init 27 = .ok (.aload_n 0, 1) := by decide +kernel
theorem d_N_init_28 : decode b_N_init 28 = .ok (.iload_n 1, 1) := by decide +kernel
theorem d_N_init_29 : decode b_N_init 29 = .ok (.invokestatic 24, 3) := by decide +kernel
theorem d_N_init_32 : decode b_N_init 32 = .ok (.putfield 28, 3) := by decide +kernel
theorem d_N_init_35 : decode b_N_init 35 = .ok (.return_, 1) := by decide +kernel
theorem d_N_isLetter_0 : decode b_N_isLetter 0 = .ok (.iload_n 0, 1) := by decide +kernel
theorem d_N_isLetter_1 : decode b_N_isLetter 1 = .ok (.bipush (97), 2) := by decide +kernel
theorem d_N_isLetter_3 : decode b_N_isLetter 3 = .ok (.if_icmp .lt (13), 3) := by decide +kernel
theorem d_N_isLetter_6 : decode b_N_isLetter 6 = .ok (.iload_n 0, 1) := by decide +kernel
theorem d_N_isLetter_7 : decode b_N_isLetter 7 = .ok (.bipush (122), 2) := by decide +kernel
theorem d_N_isLetter_9 : decode b_N_isLetter 9 = .ok (.if_icmp .gt (7), 3) := by decide +kernel
theorem d_N_isLetter_12 : decode b_N_isLetter 12 = .ok (.iconst 1, 1) := by decide +kernel
theorem d_N_isLetter_13 : decode b_N_isLetter 13 = .ok (.goto (4), 3) := by decide +kernel
theorem d_N_isLetter_16 : decode b_N_isLetter 16 = .ok (.iconst 0, 1) := by decide +kernel
theorem d_N_isLetter_17 : decode b_N_isLetter 17 = .ok (.ireturn, 1) := by decide +kernel
theorem d_N_add_0 : decode b_N_add 0 = .ok (.aload_n 1, 1) := by decide +kernel
theorem d_N_add_1 : decode b_N_add 1 = .ok (.ifnull (15), 3) := by decide +kernel
theorem d_N_add_4 : decode b_N_add 4 = .ok (.aload_n 0, 1) := by decide +kernel
theorem d_N_add_5 : decode b_N_add 5 = .ok (.getfield 32, 3) := by decide +kernel
theorem d_N_add_8 : decode b_N_add 8 = .ok (.aload_n 0, 1) := by decide +kernel
theorem d_N_add_9 : decode b_N_add 9 = .ok (.getfield 20, 3) := by decide +kernel
theorem d_N_add_12 : decode b_N_add 12 = .ok (.arraylength, 1) := by decide +kernel
theorem d_N_add_13 : decode b_N_add 13 = .ok (.if_icmp .lt (5), 3) := by decide +kernel
theorem d_N_add_16 : decode b_N_add 16 = .ok (.iconst 0, 1) := by decide +kernel
theorem d_N_add_17 : decode b_N_add 17 = .ok (.ireturn, 1) := by decide +kernel
theorem d_N_add_18 : decode b_N_add 18 = .ok (.aload_n 0, 1) := by decide +kernel
theorem d_N_add_19 : decode b_N_add 19 = .ok (.getfield 20, 3) := by decide +kernel
theorem d_N_add_22 : decode b_N_add 22 = .ok (.aload_n 0, 1) := by decide +kernel
theorem d_N_add_23 : decode b_N_add 23 = .ok (.getfield 32, 3) := by decide +kernel
theorem d_N_add_26 : decode b_N_add 26 = .ok (.aload_n 1, 1) := by decide +kernel
theorem d_N_add_27 : decode b_N_add 27 = .ok (.aastore, 1) := by decide +kernel
theorem d_N_add_28 : decode b_N_add 28 = .ok (.aload_n 0, 1) := by decide +kernel
theorem d_N_add_29 : decode b_N_add 29 = .ok (.dup, 1) := by decide +kernel
theorem d_N_add_30 : decode b_N_add 30 = .ok (.getfield 32, 3) := by decide +kernel
theorem d_N_add_33 : decode b_N_add 33 = .ok (.iconst 1, 1) := by decide +kernel
theorem d_N_add_34 : decode b_N_add 34 = .ok (.iadd, 1) := by decide +kernel
theorem d_N_add_35 : decode b_N_add 35 = .ok (.putfield 32, 3) := by decide +kernel
theorem d_N_add_38 : decode b_N_add 38 = .ok (.aload_n 0, 1) := by decide +kernel
theorem d_N_add_39 : decode b_N_add 39 = .ok (.aload_n 0, 1) := by decide +kernel
theorem d_N_add_40 : decode b_N_add 40 = .ok (.getfield 28, 3) := by decide +kernel
theorem d_N_add_43 : decode b_N_add 43 = .ok (.ifCond .ne (10), 3) := by decide +kernel
theorem d_N_add_46 : decode b_N_add 46 = .ok (.aload_n 1, 1) := by decide +kernel
theorem d_N_add_47 : decode b_N_add 47 = .ok (.invokevirtual 35, 3) := by decide +kernel
theorem d_N_add_50 : decode b_N_add 50 = .ok (.ifCond .eq (7), 3) := by decide +kernel
theorem d_N_add_53 : decode b_N_add 53 = .ok (.iconst 1, 1) := by decide +kernel
theorem d_N_add_54 : decode b_N_add 54 = .ok (.goto (4), 3) := by decide +kernel
theorem d_N_add_57 : decode b_N_add 57 = .ok (.iconst 0, 1) := by decide +kernel
theorem d_N_add_58 : decode b_N_add 58 = .ok (.putfield 28, 3) := by decide +kernel
theorem d_N_add_61 : decode b_N_add 61 = .ok (.iconst 1, 1) := by decide +kernel
theorem d_N_add_62 : decode b_N_add 62 = .ok (.ireturn, 1) := by decide +kernel
theorem d_N_canSound_0 : decode b_N_canSound 0 = .ok (.aload_n 0, 1) := by decide +kernel
theorem d_N_canSound_1 : decode b_N_canSound 1 = .ok (.getfield 28, 3) := by decide +kernel
theorem d_N_canSound_4 : decode b_N_canSound 4 = .ok (.ifCond .eq (21), 3) := by decide +kernel
theorem d_N_canSound_7 : decode b_N_canSound 7 = .ok (.aload_n 0, 1) := by decide +kernel
theorem d_N_canSound_8 : decode b_N_canSound 8 = .ok (.getfield 7, 3) := by decide +kernel
theorem d_N_canSound_11 : decode b_N_canSound 11 = .ok (.ifCond .le (14), 3) := by decide +kernel
theorem d_N_canSound_14 : decode b_N_canSound 14 = .ok (.aload_n 0, 1) := by decide +kernel
theorem d_N_canSound_15 : decode b_N_canSound 15 = .ok (.getfield 13, 3) := by decide +kernel
theorem d_N_canSound_18 : decode b_N_canSound 18 = .ok (.ifCond .le (7), 3) := by decide +kernel
theorem d_N_canSound_21 : decode b_N_canSound 21 = .ok (.iconst 1, 1) := by decide +kernel
theorem d_N_canSound_22 : decode b_N_canSound 22 = .ok (.goto (4), 3) := by decide +kernel
theorem d_N_canSound_25 : decode b_N_canSound 25 = .ok (.iconst 0, 1) := by decide +kernel
theorem d_N_canSound_26 : decode b_N_canSound 26 = .ok (.ireturn, 1) := by decide +kernel
theorem d_N_innerAt_0 : decode b_N_innerAt 0 = .ok (.iload_n 1, 1) := by decide +kernel
theorem d_N_innerAt_1 : decode b_N_innerAt 1 = .ok (.ifCond .lt (20), 3) := by decide +kernel
theorem d_N_innerAt_4 : decode b_N_innerAt 4 = .ok (.iload_n 1, 1) := by decide +kernel
theorem d_N_innerAt_5 : decode b_N_innerAt 5 = .ok (.aload_n 0, 1) := by decide +kernel
theorem d_N_innerAt_6 : decode b_N_innerAt 6 = .ok (.getfield 32, 3) := by decide +kernel
theorem d_N_innerAt_9 : decode b_N_innerAt 9 = .ok (.if_icmp .ge (12), 3) := by decide +kernel
theorem d_N_innerAt_12 : decode b_N_innerAt 12 = .ok (.aload_n 0, 1) := by decide +kernel
theorem d_N_innerAt_13 : decode b_N_innerAt 13 = .ok (.getfield 20, 3) := by decide +kernel
theorem d_N_innerAt_16 : decode b_N_innerAt 16 = .ok (.iload_n 1, 1) := by decide +kernel
theorem d_N_innerAt_17 : decode b_N_innerAt 17 = .ok (.aaload, 1) := by decide +kernel
theorem d_N_innerAt_18 : decode b_N_innerAt 18 = .ok (.goto (4), 3) := by decide +kernel
theorem d_N_innerAt_21 : decode b_N_innerAt 21 = .ok (.aconst_null, 1) := by decide +kernel
theorem d_N_innerAt_22 : decode b_N_innerAt 22 = .ok (.areturn, 1) := by decide +kernel
theorem d_N_inStep_0 : decode b_N_inStep 0 = .ok (.aload_n 0, 1) := by decide +kernel
theorem d_N_inStep_1 : decode b_N_inStep 1 = .ok (.getfield 16, 3) := by decide +kernel
theorem d_N_inStep_4 : decode b_N_inStep 4 = .ok (.bipush (91), 2) := by decide +kernel
theorem d_N_inStep_6 : decode b_N_inStep 6 = .ok (.if_icmp .ne (9), 3) := by decide +kernel
theorem d_N_inStep_9 : decode b_N_inStep 9 = .ok (.aload_n 0, 1) := by decide +kernel
theorem d_N_inStep_10 : decode b_N_inStep 10 = .ok (.iload_n 1, 1) := by decide +kernel
theorem d_N_inStep_11 : decode b_N_inStep 11 = .ok (.invokevirtual 39, 3) := by decide +kernel
theorem d_N_inStep_14 : decode b_N_inStep 14 = .ok (.areturn, 1) := by decide +kernel
theorem d_N_inStep_15 : decode b_N_inStep 15 = .ok (.aload_n 0, 1) := by decide +kernel
theorem d_N_inStep_16 : decode b_N_inStep 16 = .ok (.getfield 13, 3) := by decide +kernel
theorem d_N_inStep_19 : decode b_N_inStep 19 = .ok (.ifCond .le (34), 3) := by decide +kernel
theorem d_N_inStep_22 : decode b_N_inStep 22 = .ok (.iload_n 1, 1) := by decide +kernel
theorem d_N_inStep_23 : decode b_N_inStep 23 = .ok (.aload_n 0, 1) := by decide +kernel
theorem d_N_inStep_24 : decode b_N_inStep 24 = .ok (.getfield 43, 3) := by decide +kernel
theorem d_N_inStep_27 : decode b_N_inStep 27 = .ok (.iadd, 1) := by decide +kernel
theorem d_N_inStep_28 : decode b_N_inStep 28 = .ok (.aload_n 0, 1) := by decide +kernel
theorem d_N_inStep_29 : decode b_N_inStep 29 = .ok (.getfield 7, 3) := by decide +kernel
theorem d_N_inStep_32 : decode b_N_inStep 32 = .ok (.imul, 1) := by decide +kernel
theorem d_N_inStep_33 : decode b_N_inStep 33 = .ok (.aload_n 0, 1) := by decide +kernel
theorem d_N_inStep_34 : decode b_N_inStep 34 = .ok (.getfield 13, 3) := by decide +kernel
theorem d_N_inStep_37 : decode b_N_inStep 37 = .ok (.irem, 1) := by decide +kernel
theorem d_N_inStep_38 : decode b_N_inStep 38 = .ok (.aload_n 0, 1) := by decide +kernel
theorem d_N_inStep_39 : decode b_N_inStep 39 = .ok (.getfield 7, 3) := by decide +kernel
theorem d_N_inStep_42 : decode b_N_inStep 42 = .ok (.if_icmp .ge (11), 3) := by decide +kernel
theorem d_N_inStep_45 : decode b_N_inStep 45 = .ok (.aload_n 0, 1) := by decide +kernel
theorem d_N_inStep_46 : decode b_N_inStep 46 = .ok (.iconst 0, 1) := by decide +kernel
theorem d_N_inStep_47 : decode b_N_inStep 47 = .ok (.invokevirtual 39, 3) := by decide +kernel
theorem d_N_inStep_50 : decode b_N_inStep 50 = .ok (.goto (4), 3) := by decide +kernel
theorem d_N_inStep_53 : decode b_N_inStep 53 = .ok (.aconst_null, 1) := by decide +kernel
theorem d_N_inStep_54 : decode b_N_inStep 54 = .ok (.areturn, 1) := by decide +kernel
theorem d_On_init_0 : decode b_On_init 0 = .ok (.aload_n 0, 1) := by decide +kernel
theorem d_On_init_1 : decode b_On_init 1 = .ok (.bipush (100), 2) := by decide +kernel
theorem d_On_init_3 : decode b_On_init 3 = .ok (.invokespecial 3, 3) := by decide +kernel
theorem d_On_init_6 : decode b_On_init 6 = .ok (.return_, 1) := by decide +kernel
theorem d_On_hear_0 : decode b_On_hear 0 = .ok (.lload_n 2, 1) := by decide +kernel
theorem d_On_hear_1 : decode b_On_hear 1 = .ok (.lload 6, 2) := by decide +kernel
theorem d_On_hear_3 : decode b_On_hear 3 = .ok (.lcmp, 1) := by decide +kernel
theorem d_On_hear_4 : decode b_On_hear 4 = .ok (.ifCond .lt (37), 3) := by decide +kernel
theorem d_On_hear_7 : decode b_On_hear 7 = .ok (.aload_n 0, 1) := by decide +kernel
theorem d_On_hear_8 : decode b_On_hear 8 = .ok (.getfield 9, 3) := by decide +kernel
theorem d_On_hear_11 : decode b_On_hear 11 = .ok (.lconst 0, 1) := by decide +kernel
theorem d_On_hear_12 : decode b_On_hear 12 = .ok (.lcmp, 1) := by decide +kernel
theorem d_On_hear_13 : decode b_On_hear 13 = .ok (.ifCond .le (28), 3) := by decide +kernel
theorem d_On_hear_16 : decode b_On_hear 16 = .ok (.aload_n 0, 1) := by decide +kernel
theorem d_On_hear_17 : decode b_On_hear 17 = .ok (.getfield 15, 3) := by decide +kernel
theorem d_On_hear_20 : decode b_On_hear 20 = .ok (.lload_n 2, 1) := by decide +kernel
theorem d_On_hear_21 : decode b_On_hear 21 = .ok (.aload_n 0, 1) := by decide +kernel
theorem d_On_hear_22 : decode b_On_hear 22 = .ok (.getfield 9, 3) := by decide +kernel
theorem d_On_hear_25 : decode b_On_hear 25 = .ok (.invokestatic 19, 3) := by decide +kernel
theorem d_On_hear_28 : decode b_On_hear 28 = .ok (.aload_n 0, 1) := by decide +kernel
theorem d_On_hear_29 : decode b_On_hear 29 = .ok (.getfield 25, 3) := by decide +kernel
theorem d_On_hear_32 : decode b_On_hear 32 = .ok (.i2l, 1) := by decide +kernel
theorem d_On_hear_33 : decode b_On_hear 33 = .ok (.lload_n 2, 1) := by decide +kernel
theorem d_On_hear_34 : decode b_On_hear 34 = .ok (.lload 4, 2) := by decide +kernel
theorem d_On_hear_36 : decode b_On_hear 36 = .ok (.iload_n 1, 1) := by decide +kernel
theorem d_On_hear_37 : decode b_On_hear 37 = .ok (.i2l, 1) := by decide +kernel
theorem d_On_hear_38 : decode b_On_hear 38 = .ok (.invokevirtual 29, 3) := by decide +kernel
theorem d_On_hear_41 : decode b_On_hear 41 = .ok (.return_, 1) := by decide +kernel
theorem d_Pa_init_0 : decode b_Pa_init 0 = .ok (.aload_n 0, 1) := by decide +kernel
theorem d_Pa_init_1 : decode b_Pa_init 1 = .ok (.sipush (200), 3) := by decide +kernel
theorem d_Pa_init_4 : decode b_Pa_init 4 = .ok (.invokespecial 3, 3) := by decide +kernel
theorem d_Pa_init_7 : decode b_Pa_init 7 = .ok (.return_, 1) := by decide +kernel
theorem d_Pa_gather_0 : decode b_Pa_gather 0 = .ok (.aload_n 0, 1) := by decide +kernel
theorem d_Pa_gather_1 : decode b_Pa_gather 1 = .ok (.getfield 9, 3) := by decide +kernel
theorem d_Pa_gather_4 : decode b_Pa_gather 4 = .ok (.invokevirtual 15, 3) := by decide +kernel
theorem d_Pa_gather_7 : decode b_Pa_gather 7 = .ok (.aload_n 0, 1) := by decide +kernel
theorem d_Pa_gather_8 : decode b_Pa_gather 8 = .ok (.aload_n 1, 1) := by decide +kernel
theorem d_Pa_gather_9 : decode b_Pa_gather 9 = .ok (.lload_n 2, 1) := by decide +kernel
theorem d_Pa_gather_10 : decode b_Pa_gather 10 = .ok (.lconst 0, 1) := by decide +kernel
theorem d_Pa_gather_11 : decode b_Pa_gather 11 = .ok (.lload 4, 2) := by decide +kernel
theorem d_Pa_gather_13 : decode b_Pa_gather 13 = .ok (.lload 6, 2) := by decide +kernel
theorem d_Pa_gather_15 : decode b_Pa_gather 15 = .ok (.iconst 1, 1) := by decide +kernel
theorem d_Pa_gather_16 : decode b_Pa_gather 16 = .ok (.invokevirtual 21, 3) := by decide +kernel
theorem d_Pa_gather_19 : decode b_Pa_gather 19 = .ok (.aload_n 0, 1) := by decide +kernel
theorem d_Pa_gather_20 : decode b_Pa_gather 20 = .ok (.getfield 9, 3) := by decide +kernel
theorem d_Pa_gather_23 : decode b_Pa_gather 23 = .ok (.getfield 25, 3) := by decide +kernel
theorem d_Pa_gather_26 : decode b_Pa_gather 26 = .ok (.ifCond .eq (12), 3) := by decide +kernel
theorem d_Pa_gather_29 : decode b_Pa_gather 29 = .ok (.aload_n 0, 1) := by decide +kernel
theorem d_Pa_gather_30 : decode b_Pa_gather 30 = .ok (.getfield 9, 3) := by decide +kernel
theorem d_Pa_gather_33 : decode b_Pa_gather 33 = .ok (.invokevirtual 15, 3) := by decide +kernel
theorem d_Pa_gather_36 : decode b_Pa_gather 36 = .ok (.iconst 0, 1) := by decide +kernel
theorem d_Pa_gather_37 : decode b_Pa_gather 37 = .ok (.ireturn, 1) := by decide +kernel
theorem d_Pa_gather_38 : decode b_Pa_gather 38 = .ok (.iconst 1, 1) := by decide +kernel
theorem d_Pa_gather_39 : decode b_Pa_gather 39 = .ok (.ireturn, 1) := by decide +kernel
theorem d_Pa_hear_0 : decode b_Pa_hear 0 = .ok (.aload_n 0, 1) := by decide +kernel
theorem d_Pa_hear_1 : decode b_Pa_hear 1 = .ok (.getfield 9, 3) := by decide +kernel
theorem d_Pa_hear_4 : decode b_Pa_hear 4 = .ok (.lload_n 2, 1) := by decide +kernel
theorem d_Pa_hear_5 : decode b_Pa_hear 5 = .ok (.lload 6, 2) := by decide +kernel
theorem d_Pa_hear_7 : decode b_Pa_hear 7 = .ok (.invokestatic 29, 3) := by decide +kernel
theorem d_Pa_hear_10 : decode b_Pa_hear 10 = .ok (.lload_n 2, 1) := by decide +kernel
theorem d_Pa_hear_11 : decode b_Pa_hear 11 = .ok (.lload 4, 2) := by decide +kernel
theorem d_Pa_hear_13 : decode b_Pa_hear 13 = .ok (.lload 8, 2) := by decide +kernel
theorem d_Pa_hear_15 : decode b_Pa_hear 15 = .ok (.invokestatic 35, 3) := by decide +kernel
theorem d_Pa_hear_18 : decode b_Pa_hear 18 = .ok (.lload 4, 2) := by decide +kernel
theorem d_Pa_hear_20 : decode b_Pa_hear 20 = .ok (.iload_n 1, 1) := by decide +kernel
theorem d_Pa_hear_21 : decode b_Pa_hear 21 = .ok (.i2l, 1) := by decide +kernel
theorem d_Pa_hear_22 : decode b_Pa_hear 22 = .ok (.invokevirtual 38, 3) := by decide +kernel
theorem d_Pa_hear_25 : decode b_Pa_hear 25 = .ok (.return_, 1) := by decide +kernel
theorem d_Rw_init_0 : decode b_Rw_init 0 = .ok (.aload_n 0, 1) := by decide +kernel
theorem d_Rw_init_1 : decode b_Rw_init 1 = .ok (.invokespecial 1, 3) := by decide +kernel
theorem d_Rw_init_4 : decode b_Rw_init 4 = .ok (.aload_n 0, 1) := by decide +kernel
theorem d_Rw_init_5 : decode b_Rw_init 5 = .ok (.iload_n 1, 1) := by decide +kernel
theorem d_Rw_init_6 : decode b_Rw_init 6 = .ok (.putfield 7, 3) := by decide +kernel
theorem d_Rw_init_9 : decode b_Rw_init 9 = .ok (.aload_n 0, 1) := by decide +kernel
theorem d_Rw_init_10 : decode b_Rw_init 10 = .ok (.iload_n 1, 1) := by decide +kernel
theorem d_Rw_init_11 : decode b_Rw_init 11 = .ok (.iconst 5, 1) := by decide +kernel
theorem d_Rw_init_12 : decode b_Rw_init 12 = .ok (.imul, 1) := by decide +kernel
theorem d_Rw_init_13 : decode b_Rw_init 13 = .ok (.newarray .long, 2) := by decide +kernel
theorem d_Rw_init_15 : decode b_Rw_init 15 = .ok (.putfield 13, 3) := by decide +kernel
theorem d_Rw_init_18 : decode b_Rw_init 18 = .ok (.aload_n 0, 1) := by decide +kernel
theorem d_Rw_init_19 : decode b_Rw_init 19 = .ok (.iload_n 1, 1) := by decide +kernel
theorem d_Rw_init_20 : decode b_Rw_init 20 = .ok (.newarray .int, 2) := by decide +kernel
theorem d_Rw_init_22 : decode b_Rw_init 22 = .ok (.putfield 17, 3) := by decide +kernel
theorem d_Rw_init_25 : decode b_Rw_init 25 = .ok (.return_, 1) := by decide +kernel
theorem d_Rw_clear_0 : decode b_Rw_clear 0 = .ok (.aload_n 0, 1) := by decide +kernel
theorem d_Rw_clear_1 : decode b_Rw_clear 1 = .ok (.iconst 0, 1) := by decide +kernel
theorem d_Rw_clear_2 : decode b_Rw_clear 2 = .ok (.putfield 21, 3) := by decide +kernel
theorem d_Rw_clear_5 : decode b_Rw_clear 5 = .ok (.aload_n 0, 1) := by decide +kernel
theorem d_Rw_clear_6 : decode b_Rw_clear 6 = .ok (.iconst 0, 1) := by decide +kernel
theorem d_Rw_clear_7 : decode b_Rw_clear 7 = .ok (.putfield 24, 3) := by decide +kernel
theorem d_Rw_clear_10 : decode b_Rw_clear 10 = .ok (.return_, 1) := by decide +kernel
theorem d_Rw_has_0 : decode b_Rw_has 0 = .ok (.iload_n 1, 1) := by decide +kernel
theorem d_Rw_has_1 : decode b_Rw_has 1 = .ok (.ifCond .lt (15), 3) := by decide +kernel
theorem d_Rw_has_4 : decode b_Rw_has 4 = .ok (.iload_n 1, 1) := by decide +kernel
theorem d_Rw_has_5 : decode b_Rw_has 5 = .ok (.aload_n 0, 1) := by decide +kernel
theorem d_Rw_has_6 : decode b_Rw_has 6 = .ok (.getfield 21, 3) := by decide +kernel
theorem d_Rw_has_9 : decode b_Rw_has 9 = .ok (.if_icmp .ge (7), 3) := by decide +kernel
theorem d_Rw_has_12 : decode b_Rw_has 12 = .ok (.iconst 1, 1) := by decide +kernel
theorem d_Rw_has_13 : decode b_Rw_has 13 = .ok (.goto (4), 3) := by decide +kernel
theorem d_Rw_has_16 : decode b_Rw_has 16 = .ok (.iconst 0, 1) := by decide +kernel
theorem d_Rw_has_17 : decode b_Rw_has 17 = .ok (.ireturn, 1) := by decide +kernel
theorem d_Rw_value_0 : decode b_Rw_value 0 = .ok (.aload_n 0, 1) := by decide +kernel
theorem d_Rw_value_1 : decode b_Rw_value 1 = .ok (.iload_n 1, 1) := by decide +kernel
theorem d_Rw_value_2 : decode b_Rw_value 2 = .ok (.invokevirtual 28, 3) := by decide +kernel
theorem d_Rw_value_5 : decode b_Rw_value 5 = .ok (.ifCond .eq (12), 3) := by decide +kernel
theorem d_Rw_value_8 : decode b_Rw_value 8 = .ok (.iload_n 2, 1) := by decide +kernel
theorem d_Rw_value_9 : decode b_Rw_value 9 = .ok (.ifCond .lt (8), 3) := by decide +kernel
theorem d_Rw_value_12 : decode b_Rw_value 12 = .ok (.iload_n 2, 1) := by decide +kernel
theorem d_Rw_value_13 : decode b_Rw_value 13 = .ok (.iconst 5, 1) := by decide +kernel
theorem d_Rw_value_14 : decode b_Rw_value 14 = .ok (.if_icmp .lt (5), 3) := by decide +kernel
theorem d_Rw_value_17 : decode b_Rw_value 17 = .ok (.lconst 0, 1) := by decide +kernel
theorem d_Rw_value_18 : decode b_Rw_value 18 = .ok (.lreturn, 1) := by decide +kernel
theorem d_Rw_value_19 : decode b_Rw_value 19 = .ok (.aload_n 0, 1) := by decide +kernel
theorem d_Rw_value_20 : decode b_Rw_value 20 = .ok (.getfield 13, 3) := by decide +kernel
theorem d_Rw_value_23 : decode b_Rw_value 23 = .ok (.aload_n 0, 1) := by decide +kernel
theorem d_Rw_value_24 : decode b_Rw_value 24 = .ok (.getfield 17, 3) := by decide +kernel
theorem d_Rw_value_27 : decode b_Rw_value 27 = .ok (.iload_n 1, 1) := by decide +kernel
theorem d_Rw_value_28 : decode b_Rw_value 28 = .ok (.iaload, 1) := by decide +kernel
theorem d_Rw_value_29 : decode b_Rw_value 29 = .ok (.iconst 5, 1) := by decide +kernel
theorem d_Rw_value_30 : decode b_Rw_value 30 = .ok (.imul, 1) := by decide +kernel
theorem d_Rw_value_31 : decode b_Rw_value 31 = .ok (.iload_n 2, 1) := by decide +kernel
theorem d_Rw_value_32 : decode b_Rw_value 32 = .ok (.iadd, 1) := by decide +kernel
theorem d_Rw_value_33 : decode b_Rw_value 33 = .ok (.laload, 1) := by decide +kernel
theorem d_Rw_value_34 : decode b_Rw_value 34 = .ok (.lreturn, 1) := by decide +kernel
theorem d_Rw_add_0 : decode b_Rw_add 0 = .ok (.aload_n 0, 1) := by decide +kernel
theorem d_Rw_add_1 : decode b_Rw_add 1 = .ok (.getfield 21, 3) := by decide +kernel
theorem d_Rw_add_4 : decode b_Rw_add 4 = .ok (.aload_n 0, 1) := by decide +kernel
theorem d_Rw_add_5 : decode b_Rw_add 5 = .ok (.getfield 7, 3) := by decide +kernel
theorem d_Rw_add_8 : decode b_Rw_add 8 = .ok (.if_icmp .lt (9), 3) := by decide +kernel
theorem d_Rw_add_11 : decode b_Rw_add 11 = .ok (.aload_n 0, 1) := by decide +kernel
theorem d_Rw_add_12 : decode b_Rw_add 12 = .ok (.iconst 1, 1) := by decide +kernel
theorem d_Rw_add_13 : decode b_Rw_add 13 = .ok (.putfield 24, 3) := by decide +kernel
theorem d_Rw_add_16 : decode b_Rw_add 16 = .ok (.return_, 1) := by decide +kernel
theorem d_Rw_add_17 : decode b_Rw_add 17 = .ok (.aload_n 0, 1) := by decide +kernel
theorem d_Rw_add_18 : decode b_Rw_add 18 = .ok (.getfield 21, 3) := by decide +kernel
theorem d_Rw_add_21 : decode b_Rw_add 21 = .ok (.iconst 5, 1) := by decide +kernel
theorem d_Rw_add_22 : decode b_Rw_add 22 = .ok (.imul, 1) := by decide +kernel
theorem d_Rw_add_23 : decode b_Rw_add 23 = .ok (.istore 11, 2) := by decide +kernel
theorem d_Rw_add_25 : decode b_Rw_add 25 = .ok (.aload_n 0, 1) := by decide +kernel
theorem d_Rw_add_26 : decode b_Rw_add 26 = .ok (.getfield 13, 3) := by decide +kernel
theorem d_Rw_add_29 : decode b_Rw_add 29 = .ok (.iload 11, 2) := by decide +kernel
theorem d_Rw_add_31 : decode b_Rw_add 31 = .ok (.lload_n 1, 1) := by decide +kernel
theorem d_Rw_add_32 : decode b_Rw_add 32 = .ok (.lastore, 1) := by decide +kernel
theorem d_Rw_add_33 : decode b_Rw_add 33 = .ok (.aload_n 0, 1) := by decide +kernel
theorem d_Rw_add_34 : decode b_Rw_add 34 = .ok (.getfield 13, 3) := by decide +kernel
theorem d_Rw_add_37 : decode b_Rw_add 37 = .ok (.iload 11, 2) := by decide +kernel
theorem d_Rw_add_39 : decode b_Rw_add 39 = .ok (.iconst 1, 1) := by decide +kernel
theorem d_Rw_add_40 : decode b_Rw_add 40 = .ok (.iadd, 1) := by decide +kernel
theorem d_Rw_add_41 : decode b_Rw_add 41 = .ok (.lload_n 3, 1) := by decide +kernel
theorem d_Rw_add_42 : decode b_Rw_add 42 = .ok (.lastore, 1) := by decide +kernel
theorem d_Rw_add_43 : decode b_Rw_add 43 = .ok (.aload_n 0, 1) := by decide +kernel
theorem d_Rw_add_44 : decode b_Rw_add 44 = .ok (.getfield 13, 3) := by decide +kernel
theorem d_Rw_add_47 : decode b_Rw_add 47 = .ok (.iload 11, 2) := by decide +kernel
theorem d_Rw_add_49 : decode b_Rw_add 49 = .ok (.iconst 2, 1) := by decide +kernel
theorem d_Rw_add_50 : decode b_Rw_add 50 = .ok (.iadd, 1) := by decide +kernel
theorem d_Rw_add_51 : decode b_Rw_add 51 = .ok (.lload 5, 2) := by decide +kernel
theorem d_Rw_add_53 : decode b_Rw_add 53 = .ok (.lastore, 1) := by decide +kernel
theorem d_Rw_add_54 : decode b_Rw_add 54 = .ok (.aload_n 0, 1) := by decide +kernel
theorem d_Rw_add_55 : decode b_Rw_add 55 = .ok (.getfield 13, 3) := by decide +kernel
theorem d_Rw_add_58 : decode b_Rw_add 58 = .ok (.iload 11, 2) := by decide +kernel
theorem d_Rw_add_60 : decode b_Rw_add 60 = .ok (.iconst 3, 1) := by decide +kernel
theorem d_Rw_add_61 : decode b_Rw_add 61 = .ok (.iadd, 1) := by decide +kernel
theorem d_Rw_add_62 : decode b_Rw_add 62 = .ok (.lload 7, 2) := by decide +kernel
theorem d_Rw_add_64 : decode b_Rw_add 64 = .ok (.lastore, 1) := by decide +kernel
theorem d_Rw_add_65 : decode b_Rw_add 65 = .ok (.aload_n 0, 1) := by decide +kernel
theorem d_Rw_add_66 : decode b_Rw_add 66 = .ok (.getfield 13, 3) := by decide +kernel
theorem d_Rw_add_69 : decode b_Rw_add 69 = .ok (.iload 11, 2) := by decide +kernel
theorem d_Rw_add_71 : decode b_Rw_add 71 = .ok (.iconst 4, 1) := by decide +kernel
theorem d_Rw_add_72 : decode b_Rw_add 72 = .ok (.iadd, 1) := by decide +kernel
theorem d_Rw_add_73 : decode b_Rw_add 73 = .ok (.lload 9, 2) := by decide +kernel
theorem d_Rw_add_75 : decode b_Rw_add 75 = .ok (.lastore, 1) := by decide +kernel
theorem d_Rw_add_76 : decode b_Rw_add 76 = .ok (.iconst 0, 1) := by decide +kernel
theorem d_Rw_add_77 : decode b_Rw_add 77 = .ok (.istore 12, 2) := by decide +kernel
theorem d_Rw_add_79 : decode b_Rw_add 79 = .ok (.sipush (128), 3) := by decide +kernel
theorem d_Rw_add_82 : decode b_Rw_add 82 = .ok (.istore 13, 2) := by decide +kernel
theorem d_Rw_add_84 : decode b_Rw_add 84 = .ok (.iload 13, 2) := by decide +kernel
theorem d_Rw_add_86 : decode b_Rw_add 86 = .ok (.ifCond .le (50), 3) := by decide +kernel
theorem d_Rw_add_89 : decode b_Rw_add 89 = .ok (.iload 12, 2) := by decide +kernel
theorem d_Rw_add_91 : decode b_Rw_add 91 = .ok (.iload 13, 2) := by decide +kernel
theorem d_Rw_add_93 : decode b_Rw_add 93 = .ok (.iadd, 1) := by decide +kernel
theorem d_Rw_add_94 : decode b_Rw_add 94 = .ok (.aload_n 0, 1) := by decide +kernel
theorem d_Rw_add_95 : decode b_Rw_add 95 = .ok (.getfield 21, 3) := by decide +kernel
theorem d_Rw_add_98 : decode b_Rw_add 98 = .ok (.if_icmp .gt (29), 3) := by decide +kernel
theorem d_Rw_add_101 : decode b_Rw_add 101 = .ok (.aload_n 0, 1) := by decide +kernel
theorem d_Rw_add_102 : decode b_Rw_add 102 = .ok (.aload_n 0, 1) := by decide +kernel
theorem d_Rw_add_103 : decode b_Rw_add 103 = .ok (.getfield 17, 3) := by decide +kernel
theorem d_Rw_add_106 : decode b_Rw_add 106 = .ok (.iload 12, 2) := by decide +kernel
theorem d_Rw_add_108 : decode b_Rw_add 108 = .ok (.iload 13, 2) := by decide +kernel
theorem d_Rw_add_110 : decode b_Rw_add 110 = .ok (.iadd, 1) := by decide +kernel
theorem d_Rw_add_111 : decode b_Rw_add 111 = .ok (.iconst 1, 1) := by decide +kernel
theorem d_Rw_add_112 : decode b_Rw_add 112 = .ok (.isub, 1) := by decide +kernel
theorem d_Rw_add_113 : decode b_Rw_add 113 = .ok (.iaload, 1) := by decide +kernel
theorem d_Rw_add_114 : decode b_Rw_add 114 = .ok (.invokevirtual 32, 3) := by decide +kernel
theorem d_Rw_add_117 : decode b_Rw_add 117 = .ok (.ifCond .ne (10), 3) := by decide +kernel
theorem d_Rw_add_120 : decode b_Rw_add 120 = .ok (.iload 12, 2) := by decide +kernel
theorem d_Rw_add_122 : decode b_Rw_add 122 = .ok (.iload 13, 2) := by decide +kernel
theorem d_Rw_add_124 : decode b_Rw_add 124 = .ok (.iadd, 1) := by decide +kernel
theorem d_Rw_add_125 : decode b_Rw_add 125 = .ok (.istore 12, 2) := by decide +kernel
theorem d_Rw_add_127 : decode b_Rw_add 127 = .ok (.iload 13, 2) := by decide +kernel
theorem d_Rw_add_129 : decode b_Rw_add 129 = .ok (.iconst 2, 1) := by decide +kernel
theorem d_Rw_add_130 : decode b_Rw_add 130 = .ok (.idiv, 1) := by decide +kernel
theorem d_Rw_add_131 : decode b_Rw_add 131 = .ok (.istore 13, 2) := by decide +kernel
theorem d_Rw_add_133 : decode b_Rw_add 133 = .ok (.goto (-49), 3) := by decide +kernel
theorem d_Rw_add_136 : decode b_Rw_add 136 = .ok (.aload_n 0, 1) := by decide +kernel
theorem d_Rw_add_137 : decode b_Rw_add 137 = .ok (.getfield 17, 3) := by decide +kernel
theorem d_Rw_add_140 : decode b_Rw_add 140 = .ok (.iload 12, 2) := by decide +kernel
theorem d_Rw_add_142 : decode b_Rw_add 142 = .ok (.aload_n 0, 1) := by decide +kernel
theorem d_Rw_add_143 : decode b_Rw_add 143 = .ok (.getfield 17, 3) := by decide +kernel
theorem d_Rw_add_146 : decode b_Rw_add 146 = .ok (.iload 12, 2) := by decide +kernel
theorem d_Rw_add_148 : decode b_Rw_add 148 = .ok (.iconst 1, 1) := by decide +kernel
theorem d_Rw_add_149 : decode b_Rw_add 149 = .ok (.iadd, 1) := by decide +kernel
theorem d_Rw_add_150 : decode b_Rw_add 150 = .ok (.aload_n 0, 1) := by decide +kernel
theorem d_Rw_add_151 : decode b_Rw_add 151 = .ok (.getfield 21, 3) := by decide +kernel
theorem d_Rw_add_154 : decode b_Rw_add 154 = .ok (.iload 12, 2) := by decide +kernel
theorem d_Rw_add_156 : decode b_Rw_add 156 = .ok (.isub, 1) := by decide +kernel
theorem d_Rw_add_157 : decode b_Rw_add 157 = .ok (.invokestatic 35, 3) := by decide +kernel
theorem d_Rw_add_160 : decode b_Rw_add 160 = .ok (.aload_n 0, 1) := by decide +kernel
theorem d_Rw_add_161 : decode b_Rw_add 161 = .ok (.getfield 17, 3) := by decide +kernel
theorem d_Rw_add_164 : decode b_Rw_add 164 = .ok (.iload 12, 2) := by decide +kernel
theorem d_Rw_add_166 : decode b_Rw_add 166 = .ok (.aload_n 0, 1) := by decide +kernel
theorem d_Rw_add_167 : decode b_Rw_add 167 = .ok (.getfield 21, 3) := by decide +kernel
theorem d_Rw_add_170 : decode b_Rw_add 170 = .ok (.iastore, 1) := by decide +kernel
theorem d_Rw_add_171 : decode b_Rw_add 171 = .ok (.aload_n 0, 1) := by decide +kernel
theorem d_Rw_add_172 : decode b_Rw_add 172 = .ok (.dup, 1) := by decide +kernel
theorem d_Rw_add_173 : decode b_Rw_add 173 = .ok (.getfield 21, 3) := by decide +kernel
theorem d_Rw_add_176 : decode b_Rw_add 176 = .ok (.iconst 1, 1) := by decide +kernel
theorem d_Rw_add_177 : decode b_Rw_add 177 = .ok (.iadd, 1) := by decide +kernel
theorem d_Rw_add_178 : decode b_Rw_add 178 = .ok (.putfield 21, 3) := by decide +kernel
theorem d_Rw_add_181 : decode b_Rw_add 181 = .ok (.return_, 1) := by decide +kernel
theorem d_Rw_isNewestBefore_0 : decode b_Rw_isNewestBefore 0 = .ok (.iconst 0, 1) := by decide +kernel
theorem d_Rw_isNewestBefore_1 : decode b_Rw_isNewestBefore 1 = .ok (.istore_n 2, 1) := by decide +kernel
theorem d_Rw_isNewestBefore_2 : decode b_Rw_isNewestBefore 2 = .ok (.iload_n 2, 1) := by decide +kernel
theorem d_Rw_isNewestBefore_3 : decode b_Rw_isNewestBefore 3 = .ok (.iconst 5, 1) := by decide +kernel
theorem d_Rw_isNewestBefore_4 : decode b_Rw_isNewestBefore 4 = .ok (.if_icmp .ge (55), 3) := by decide +kernel
theorem d_Rw_isNewestBefore_7 : decode b_Rw_isNewestBefore 7 = .ok (.aload_n 0, 1) := by decide +kernel
theorem d_Rw_isNewestBefore_8 : decode b_Rw_isNewestBefore 8 = .ok (.getfield 13, 3) := by decide +kernel
theorem d_Rw_isNewestBefore_11 : decode b_Rw_isNewestBefore 11 = .ok (.aload_n 0, 1) := by decide +kernel
theorem d_Rw_isNewestBefore_12 : decode b_Rw_isNewestBefore 12 = .ok (.getfield 21, 3) := by decide +kernel
theorem d_Rw_isNewestBefore_15 : decode b_Rw_isNewestBefore 15 = .ok (.iconst 5, 1) := by decide +kernel
theorem d_Rw_isNewestBefore_16 : decode b_Rw_isNewestBefore 16 = .ok (.imul, 1) := by decide +kernel
theorem d_Rw_isNewestBefore_17 : decode b_Rw_isNewestBefore 17 = .ok (.iload_n 2, 1) := by decide +kernel
theorem d_Rw_isNewestBefore_18 : decode b_Rw_isNewestBefore 18 = .ok (.iadd, 1) := by decide +kernel
theorem d_Rw_isNewestBefore_19 : decode b_Rw_isNewestBefore 19 = .ok (.laload, 1) := by decide +kernel
theorem d_Rw_isNewestBefore_20 : decode b_Rw_isNewestBefore 20 = .ok (.lstore_n 3, 1) := by decide +kernel
theorem d_Rw_isNewestBefore_21 : decode b_Rw_isNewestBefore 21 = .ok (.aload_n 0, 1) := by decide +kernel
theorem d_Rw_isNewestBefore_22 : decode b_Rw_isNewestBefore 22 = .ok (.getfield 13, 3) := by decide +kernel
theorem d_Rw_isNewestBefore_25 : decode b_Rw_isNewestBefore 25 = .ok (.iload_n 1, 1) := by decide +kernel
theorem d_Rw_isNewestBefore_26 : decode b_Rw_isNewestBefore 26 = .ok (.iconst 5, 1) := by decide +kernel
theorem d_Rw_isNewestBefore_27 : decode b_Rw_isNewestBefore 27 = .ok (.imul, 1) := by decide +kernel
theorem d_Rw_isNewestBefore_28 : decode b_Rw_isNewestBefore 28 = .ok (.iload_n 2, 1) := by decide +kernel
theorem d_Rw_isNewestBefore_29 : decode b_Rw_isNewestBefore 29 = .ok (.iadd, 1) := by decide +kernel
theorem d_Rw_isNewestBefore_30 : decode b_Rw_isNewestBefore 30 = .ok (.laload, 1) := by decide +kernel
theorem d_Rw_isNewestBefore_31 : decode b_Rw_isNewestBefore 31 = .ok (.lstore 5, 2) := by decide +kernel
theorem d_Rw_isNewestBefore_33 : decode b_Rw_isNewestBefore 33 = .ok (.lload_n 3, 1) := by decide +kernel
theorem d_Rw_isNewestBefore_34 : decode b_Rw_isNewestBefore 34 = .ok (.lload 5, 2) := by decide +kernel
theorem d_Rw_isNewestBefore_36 : decode b_Rw_isNewestBefore 36 = .ok (.lcmp, 1) := by decide +kernel
theorem d_Rw_isNewestBefore_37 : decode b_Rw_isNewestBefore 37 = .ok (.ifCond .eq (16), 3) := by decide +kernel
theorem d_Rw_isNewestBefore_40 : decode b_Rw_isNewestBefore 40 = .ok (.lload_n 3, 1) := by decide +kernel
theorem d_Rw_isNewestBefore_41 : decode b_Rw_isNewestBefore 41 = .ok (.lload 5, 2) := by decide +kernel
theorem d_Rw_isNewestBefore_43 : decode b_Rw_isNewestBefore 43 = .ok (.lcmp, 1) := by decide +kernel
theorem d_Rw_isNewestBefore_44 : decode b_Rw_isNewestBefore 44 = .ok (.ifCond .ge (7), 3) := by decide +kernel
theorem d_Rw_isNewestBefore_47 : decode b_Rw_isNewestBefore 47 = .ok (.iconst 1, 1) := by decide +kernel
theorem d_Rw_isNewestBefore_48 : decode b_Rw_isNewestBefore 48 = .ok (.goto (4), 3) := by decide +kernel
theorem d_Rw_isNewestBefore_51 : decode b_Rw_isNewestBefore 51 = .ok (.iconst 0, 1) := by decide +kernel
theorem d_Rw_isNewestBefore_52 : decode b_Rw_isNewestBefore 52 = .ok (.ireturn, 1) := by decide +kernel
theorem d_Rw_isNewestBefore_53 : decode b_Rw_isNewestBefore 53 = .ok (.iinc 2 (1), 3) := by decide +kernel
theorem d_Rw_isNewestBefore_56 : decode b_Rw_isNewestBefore 56 = .ok (.goto (-54), 3) := by decide +kernel
theorem d_Rw_isNewestBefore_59 : decode b_Rw_isNewestBefore 59 = .ok (.iconst 0, 1) := by decide +kernel
theorem d_Rw_isNewestBefore_60 : decode b_Rw_isNewestBefore 60 = .ok (.ireturn, 1) := by decide +kernel
theorem d_Rw_sameAs_0 : decode b_Rw_sameAs 0 = .ok (.aload_n 0, 1) := by decide +kernel
theorem d_Rw_sameAs_1 : decode b_Rw_sameAs 1 = .ok (.getfield 21, 3) := by decide +kernel
theorem d_Rw_sameAs_4 : decode b_Rw_sameAs 4 = .ok (.aload_n 1, 1) := by decide +kernel
theorem d_Rw_sameAs_5 : decode b_Rw_sameAs 5 = .ok (.getfield 21, 3) := by decide +kernel
theorem d_Rw_sameAs_8 : decode b_Rw_sameAs 8 = .ok (.if_icmp .eq (5), 3) := by decide +kernel
theorem d_Rw_sameAs_11 : decode b_Rw_sameAs 11 = .ok (.iconst 0, 1) := by decide +kernel
theorem d_Rw_sameAs_12 : decode b_Rw_sameAs 12 = .ok (.ireturn, 1) := by decide +kernel
theorem d_Rw_sameAs_13 : decode b_Rw_sameAs 13 = .ok (.iconst 0, 1) := by decide +kernel
theorem d_Rw_sameAs_14 : decode b_Rw_sameAs 14 = .ok (.istore_n 2, 1) := by decide +kernel
theorem d_Rw_sameAs_15 : decode b_Rw_sameAs 15 = .ok (.iload_n 2, 1) := by decide +kernel
theorem d_Rw_sameAs_16 : decode b_Rw_sameAs 16 = .ok (.aload_n 0, 1) := by decide +kernel
theorem d_Rw_sameAs_17 : decode b_Rw_sameAs 17 = .ok (.getfield 21, 3) := by decide +kernel
theorem d_Rw_sameAs_20 : decode b_Rw_sameAs 20 = .ok (.if_icmp .ge (40), 3) := by decide +kernel
theorem d_Rw_sameAs_23 : decode b_Rw_sameAs 23 = .ok (.iconst 0, 1) := by decide +kernel
theorem d_Rw_sameAs_24 : decode b_Rw_sameAs 24 = .ok (.istore_n 3, 1) := by decide +kernel
theorem d_Rw_sameAs_25 : decode b_Rw_sameAs 25 = .ok (.iload_n 3, 1) := by decide +kernel
theorem d_Rw_sameAs_26 : decode b_Rw_sameAs 26 = .ok (.iconst 5, 1) := by decide +kernel
theorem d_Rw_sameAs_27 : decode b_Rw_sameAs 27 = .ok (.if_icmp .ge (27), 3) := by decide +kernel
theorem d_Rw_sameAs_30 : decode b_Rw_sameAs 30 = .ok (.aload_n 0, 1) := by decide +kernel
theorem d_Rw_sameAs_31 : decode b_Rw_sameAs 31 = .ok (.iload_n 2, 1) := by decide +kernel
theorem d_Rw_sameAs_32 : decode b_Rw_sameAs 32 = .ok (.iload_n 3, 1) := by decide +kernel
theorem d_Rw_sameAs_33 : decode b_Rw_sameAs 33 = .ok (.invokevirtual 41, 3) := by decide +kernel
theorem d_Rw_sameAs_36 : decode b_Rw_sameAs 36 = .ok (.aload_n 1, 1) := by decide +kernel
theorem d_Rw_sameAs_37 : decode b_Rw_sameAs 37 = .ok (.iload_n 2, 1) := by decide +kernel
theorem d_Rw_sameAs_38 : decode b_Rw_sameAs 38 = .ok (.iload_n 3, 1) := by decide +kernel
theorem d_Rw_sameAs_39 : decode b_Rw_sameAs 39 = .ok (.invokevirtual 41, 3) := by decide +kernel
theorem d_Rw_sameAs_42 : decode b_Rw_sameAs 42 = .ok (.lcmp, 1) := by decide +kernel
theorem d_Rw_sameAs_43 : decode b_Rw_sameAs 43 = .ok (.ifCond .eq (5), 3) := by decide +kernel
theorem d_Rw_sameAs_46 : decode b_Rw_sameAs 46 = .ok (.iconst 0, 1) := by decide +kernel
theorem d_Rw_sameAs_47 : decode b_Rw_sameAs 47 = .ok (.ireturn, 1) := by decide +kernel
theorem d_Rw_sameAs_48 : decode b_Rw_sameAs 48 = .ok (.iinc 3 (1), 3) := by decide +kernel
theorem d_Rw_sameAs_51 : decode b_Rw_sameAs 51 = .ok (.goto (-26), 3) := by decide +kernel
theorem d_Rw_sameAs_54 : decode b_Rw_sameAs 54 = .ok (.iinc 2 (1), 3) := by decide +kernel
theorem d_Rw_sameAs_57 : decode b_Rw_sameAs 57 = .ok (.goto (-42), 3) := by decide +kernel
theorem d_Rw_sameAs_60 : decode b_Rw_sameAs 60 = .ok (.iconst 1, 1) := by decide +kernel
theorem d_Rw_sameAs_61 : decode b_Rw_sameAs 61 = .ok (.ireturn, 1) := by decide +kernel
theorem d_Jm_floorDiv_0 : decode b_Jm_floorDiv 0 = .ok (.lload_n 0, 1) := by decide +kernel
theorem d_Jm_floorDiv_1 : decode b_Jm_floorDiv 1 = .ok (.lload_n 2, 1) := by decide +kernel
theorem d_Jm_floorDiv_2 : decode b_Jm_floorDiv 2 = .ok (.ldiv, 1) := by decide +kernel
theorem d_Jm_floorDiv_3 : decode b_Jm_floorDiv 3 = .ok (.lstore 4, 2) := by decide +kernel
theorem d_Jm_floorDiv_5 : decode b_Jm_floorDiv 5 = .ok (.lload_n 0, 1) := by decide +kernel
theorem d_Jm_floorDiv_6 : decode b_Jm_floorDiv 6 = .ok (.lload_n 2, 1) := by decide +kernel
theorem d_Jm_floorDiv_7 : decode b_Jm_floorDiv 7 = .ok (.lxor, 1) := by decide +kernel
theorem d_Jm_floorDiv_8 : decode b_Jm_floorDiv 8 = .ok (.lconst 0, 1) := by decide +kernel
theorem d_Jm_floorDiv_9 : decode b_Jm_floorDiv 9 = .ok (.lcmp, 1) := by decide +kernel
theorem d_Jm_floorDiv_10 : decode b_Jm_floorDiv 10 = .ok (.ifCond .ge (17), 3) := by decide +kernel
theorem d_Jm_floorDiv_13 : decode b_Jm_floorDiv 13 = .ok (.lload 4, 2) := by decide +kernel
theorem d_Jm_floorDiv_15 : decode b_Jm_floorDiv 15 = .ok (.lload_n 2, 1) := by decide +kernel
theorem d_Jm_floorDiv_16 : decode b_Jm_floorDiv 16 = .ok (.lmul, 1) := by decide +kernel
theorem d_Jm_floorDiv_17 : decode b_Jm_floorDiv 17 = .ok (.lload_n 0, 1) := by decide +kernel
theorem d_Jm_floorDiv_18 : decode b_Jm_floorDiv 18 = .ok (.lcmp, 1) := by decide +kernel
theorem d_Jm_floorDiv_19 : decode b_Jm_floorDiv 19 = .ok (.ifCond .eq (8), 3) := by decide +kernel
theorem d_Jm_floorDiv_22 : decode b_Jm_floorDiv 22 = .ok (.lload 4, 2) := by decide +kernel
theorem d_Jm_floorDiv_24 : decode b_Jm_floorDiv 24 = .ok (.lconst 1, 1) := by decide +kernel
theorem d_Jm_floorDiv_25 : decode b_Jm_floorDiv 25 = .ok (.lsub, 1) := by decide +kernel
theorem d_Jm_floorDiv_26 : decode b_Jm_floorDiv 26 = .ok (.lreturn, 1) := by decide +kernel
theorem d_Jm_floorDiv_27 : decode b_Jm_floorDiv 27 = .ok (.lload 4, 2) := by decide +kernel
theorem d_Jm_floorDiv_29 : decode b_Jm_floorDiv 29 = .ok (.lreturn, 1) := by decide +kernel
theorem d_Jm_floorMod_0 : decode b_Jm_floorMod 0 = .ok (.lload_n 0, 1) := by decide +kernel
theorem d_Jm_floorMod_1 : decode b_Jm_floorMod 1 = .ok (.lload_n 2, 1) := by decide +kernel
theorem d_Jm_floorMod_2 : decode b_Jm_floorMod 2 = .ok (.lrem, 1) := by decide +kernel
theorem d_Jm_floorMod_3 : decode b_Jm_floorMod 3 = .ok (.lstore 4, 2) := by decide +kernel
theorem d_Jm_floorMod_5 : decode b_Jm_floorMod 5 = .ok (.lload_n 0, 1) := by decide +kernel
theorem d_Jm_floorMod_6 : decode b_Jm_floorMod 6 = .ok (.lload_n 2, 1) := by decide +kernel
theorem d_Jm_floorMod_7 : decode b_Jm_floorMod 7 = .ok (.lxor, 1) := by decide +kernel
theorem d_Jm_floorMod_8 : decode b_Jm_floorMod 8 = .ok (.lconst 0, 1) := by decide +kernel
theorem d_Jm_floorMod_9 : decode b_Jm_floorMod 9 = .ok (.lcmp, 1) := by decide +kernel
theorem d_Jm_floorMod_10 : decode b_Jm_floorMod 10 = .ok (.ifCond .ge (15), 3) := by decide +kernel
theorem d_Jm_floorMod_13 : decode b_Jm_floorMod 13 = .ok (.lload 4, 2) := by decide +kernel
theorem d_Jm_floorMod_15 : decode b_Jm_floorMod 15 = .ok (.lconst 0, 1) := by decide +kernel
theorem d_Jm_floorMod_16 : decode b_Jm_floorMod 16 = .ok (.lcmp, 1) := by decide +kernel
theorem d_Jm_floorMod_17 : decode b_Jm_floorMod 17 = .ok (.ifCond .eq (8), 3) := by decide +kernel
theorem d_Jm_floorMod_20 : decode b_Jm_floorMod 20 = .ok (.lload 4, 2) := by decide +kernel
theorem d_Jm_floorMod_22 : decode b_Jm_floorMod 22 = .ok (.lload_n 2, 1) := by decide +kernel
theorem d_Jm_floorMod_23 : decode b_Jm_floorMod 23 = .ok (.ladd, 1) := by decide +kernel
theorem d_Jm_floorMod_24 : decode b_Jm_floorMod 24 = .ok (.lreturn, 1) := by decide +kernel
theorem d_Jm_floorMod_25 : decode b_Jm_floorMod 25 = .ok (.lload 4, 2) := by decide +kernel
theorem d_Jm_floorMod_27 : decode b_Jm_floorMod 27 = .ok (.lreturn, 1) := by decide +kernel
