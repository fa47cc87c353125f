/-! what the tables say of each place: fields, calls, classes, constants -/
set_option maxRecDepth 20000 in
theorem tb_in {w : Cond} {i : Nat} (h : tables_1[i]? = some w) (g : goodWord w = true) : w ∈ WS := List.mem_filter.mpr ⟨List.mem_append_right _ (List.mem_append_right _ (List.mem_of_getElem? h)), g⟩
set_option maxRecDepth 20000 in
theorem pv_in {y : MethodName} {n i : Nat} (h : lw_privs[i]? = some (y, n)) : Cond.selects y.cls y y ∈ WS := List.mem_filter.mpr ⟨List.mem_append_right _ (List.mem_append_left _ (List.mem_map.mpr ⟨(y, n), List.mem_of_getElem? h, rfl⟩)), rfl⟩
set_option maxRecDepth 20000 in
theorem xt_in {w : Cond} {i : Nat} (h : xt_[i]? = some w) (g : goodWord w = true) : w ∈ WS := List.mem_filter.mpr ⟨List.mem_append_left _ (List.mem_of_getElem? h), g⟩
set_option maxRecDepth 20000 in
theorem in_X : ∀ w ∈ u_ws R_X F_X 12, w ∈ WS := by
  show ∀ w ∈ [u_lay R_X F_X 0, u_lay R_X F_X 1, u_lay R_X F_X 2, u_lay R_X F_X 3, u_lay R_X F_X 4, u_lay R_X F_X 5, u_lay R_X F_X 6, u_lay R_X F_X 7, u_lay R_X F_X 8, u_lay R_X F_X 9, u_lay R_X F_X 10, u_lay R_X F_X 11], w ∈ WS
  exact List.forall_mem_cons.mpr ⟨(tb_in (i := 158) rfl (by decide +kernel)), List.forall_mem_cons.mpr ⟨(tb_in (i := 160) rfl (by decide +kernel)), List.forall_mem_cons.mpr ⟨(tb_in (i := 162) rfl (by decide +kernel)), List.forall_mem_cons.mpr ⟨(tb_in (i := 164) rfl (by decide +kernel)), List.forall_mem_cons.mpr ⟨(tb_in (i := 166) rfl (by decide +kernel)), List.forall_mem_cons.mpr ⟨(tb_in (i := 168) rfl (by decide +kernel)), List.forall_mem_cons.mpr ⟨(tb_in (i := 170) rfl (by decide +kernel)), List.forall_mem_cons.mpr ⟨(tb_in (i := 172) rfl (by decide +kernel)), List.forall_mem_cons.mpr ⟨(tb_in (i := 174) rfl (by decide +kernel)), List.forall_mem_cons.mpr ⟨(tb_in (i := 176) rfl (by decide +kernel)), List.forall_mem_cons.mpr ⟨(tb_in (i := 178) rfl (by decide +kernel)), List.forall_mem_cons.mpr ⟨(tb_in (i := 180) rfl (by decide +kernel)), fun _ h => absurd h List.not_mem_nil⟩⟩⟩⟩⟩⟩⟩⟩⟩⟩⟩⟩
set_option maxRecDepth 20000 in
theorem in_N : ∀ w ∈ u_ws R_N F_N 7, w ∈ WS := by
  show ∀ w ∈ [u_lay R_N F_N 0, u_lay R_N F_N 1, u_lay R_N F_N 2, u_lay R_N F_N 3, u_lay R_N F_N 4, u_lay R_N F_N 5, u_lay R_N F_N 6], w ∈ WS
  exact List.forall_mem_cons.mpr ⟨(tb_in (i := 68) rfl (by decide +kernel)), List.forall_mem_cons.mpr ⟨(tb_in (i := 70) rfl (by decide +kernel)), List.forall_mem_cons.mpr ⟨(tb_in (i := 72) rfl (by decide +kernel)), List.forall_mem_cons.mpr ⟨(tb_in (i := 74) rfl (by decide +kernel)), List.forall_mem_cons.mpr ⟨(tb_in (i := 76) rfl (by decide +kernel)), List.forall_mem_cons.mpr ⟨(tb_in (i := 78) rfl (by decide +kernel)), List.forall_mem_cons.mpr ⟨(tb_in (i := 80) rfl (by decide +kernel)), fun _ h => absurd h List.not_mem_nil⟩⟩⟩⟩⟩⟩⟩
set_option maxRecDepth 20000 in
theorem in_Rd : ∀ w ∈ u_ws R_Rd F_Rd 4, w ∈ WS := by
  show ∀ w ∈ [u_lay R_Rd F_Rd 0, u_lay R_Rd F_Rd 1, u_lay R_Rd F_Rd 2, u_lay R_Rd F_Rd 3], w ∈ WS
  exact List.forall_mem_cons.mpr ⟨(tb_in (i := 32) rfl (by decide +kernel)), List.forall_mem_cons.mpr ⟨(tb_in (i := 34) rfl (by decide +kernel)), List.forall_mem_cons.mpr ⟨(tb_in (i := 36) rfl (by decide +kernel)), List.forall_mem_cons.mpr ⟨(tb_in (i := 38) rfl (by decide +kernel)), fun _ h => absurd h List.not_mem_nil⟩⟩⟩⟩
set_option maxRecDepth 20000 in
theorem in_Rw : ∀ w ∈ u_ws R_Rw F_Rw 5, w ∈ WS := by
  show ∀ w ∈ [u_lay R_Rw F_Rw 0, u_lay R_Rw F_Rw 1, u_lay R_Rw F_Rw 2, u_lay R_Rw F_Rw 3, u_lay R_Rw F_Rw 4], w ∈ WS
  exact List.forall_mem_cons.mpr ⟨(tb_in (i := 108) rfl (by decide +kernel)), List.forall_mem_cons.mpr ⟨(tb_in (i := 110) rfl (by decide +kernel)), List.forall_mem_cons.mpr ⟨(tb_in (i := 112) rfl (by decide +kernel)), List.forall_mem_cons.mpr ⟨(tb_in (i := 114) rfl (by decide +kernel)), List.forall_mem_cons.mpr ⟨(tb_in (i := 116) rfl (by decide +kernel)), fun _ h => absurd h List.not_mem_nil⟩⟩⟩⟩⟩
set_option maxRecDepth 20000 in
theorem in_Pa : ∀ w ∈ u_ws R_Pa F_Pa 1, w ∈ WS := by
  show ∀ w ∈ [u_lay R_Pa F_Pa 0], w ∈ WS
  exact List.forall_mem_cons.mpr ⟨(tb_in (i := 127) rfl (by decide +kernel)), fun _ h => absurd h List.not_mem_nil⟩
set_option maxRecDepth 20000 in
theorem in_On : ∀ w ∈ u_ws R_On F_On 3, w ∈ WS := by
  show ∀ w ∈ [u_lay R_On F_On 0, u_lay R_On F_On 1, u_lay R_On F_On 2], w ∈ WS
  exact List.forall_mem_cons.mpr ⟨(tb_in (i := 144) rfl (by decide +kernel)), List.forall_mem_cons.mpr ⟨(tb_in (i := 140) rfl (by decide +kernel)), List.forall_mem_cons.mpr ⟨(tb_in (i := 142) rfl (by decide +kernel)), fun _ h => absurd h List.not_mem_nil⟩⟩⟩
set_option maxRecDepth 20000 in
theorem in_M : ∀ w ∈ u_ws R_M F_M 45, w ∈ WS := by
  show ∀ w ∈ [u_lay R_M F_M 0, u_lay R_M F_M 1, u_lay R_M F_M 2, u_lay R_M F_M 3, u_lay R_M F_M 4, u_lay R_M F_M 5, u_lay R_M F_M 6, u_lay R_M F_M 7, u_lay R_M F_M 8, u_lay R_M F_M 9, u_lay R_M F_M 10, u_lay R_M F_M 11, u_lay R_M F_M 12, u_lay R_M F_M 13, u_lay R_M F_M 14, u_lay R_M F_M 15, u_lay R_M F_M 16, u_lay R_M F_M 17, u_lay R_M F_M 18, u_lay R_M F_M 19, u_lay R_M F_M 20, u_lay R_M F_M 21, u_lay R_M F_M 22, u_lay R_M F_M 23, u_lay R_M F_M 24, u_lay R_M F_M 25, u_lay R_M F_M 26, u_lay R_M F_M 27, u_lay R_M F_M 28, u_lay R_M F_M 29, u_lay R_M F_M 30, u_lay R_M F_M 31, u_lay R_M F_M 32, u_lay R_M F_M 33, u_lay R_M F_M 34, u_lay R_M F_M 35, u_lay R_M F_M 36, u_lay R_M F_M 37, u_lay R_M F_M 38, u_lay R_M F_M 39, u_lay R_M F_M 40, u_lay R_M F_M 41, u_lay R_M F_M 42, u_lay R_M F_M 43, u_lay R_M F_M 44], w ∈ WS
  exact List.forall_mem_cons.mpr ⟨(tb_in (i := 485) rfl (by decide +kernel)), List.forall_mem_cons.mpr ⟨(tb_in (i := 487) rfl (by decide +kernel)), List.forall_mem_cons.mpr ⟨(tb_in (i := 489) rfl (by decide +kernel)), List.forall_mem_cons.mpr ⟨(tb_in (i := 491) rfl (by decide +kernel)), List.forall_mem_cons.mpr ⟨(tb_in (i := 493) rfl (by decide +kernel)), List.forall_mem_cons.mpr ⟨(tb_in (i := 495) rfl (by decide +kernel)), List.forall_mem_cons.mpr ⟨(tb_in (i := 497) rfl (by decide +kernel)), List.forall_mem_cons.mpr ⟨(tb_in (i := 499) rfl (by decide +kernel)), List.forall_mem_cons.mpr ⟨(tb_in (i := 501) rfl (by decide +kernel)), List.forall_mem_cons.mpr ⟨(tb_in (i := 503) rfl (by decide +kernel)), List.forall_mem_cons.mpr ⟨(tb_in (i := 505) rfl (by decide +kernel)), List.forall_mem_cons.mpr ⟨(tb_in (i := 507) rfl (by decide +kernel)), List.forall_mem_cons.mpr ⟨(tb_in (i := 509) rfl (by decide +kernel)), List.forall_mem_cons.mpr ⟨(tb_in (i := 511) rfl (by decide +kernel)), List.forall_mem_cons.mpr ⟨(tb_in (i := 513) rfl (by decide +kernel)), List.forall_mem_cons.mpr ⟨(tb_in (i := 515) rfl (by decide +kernel)), List.forall_mem_cons.mpr ⟨(tb_in (i := 517) rfl (by decide +kernel)), List.forall_mem_cons.mpr ⟨(tb_in (i := 519) rfl (by decide +kernel)), List.forall_mem_cons.mpr ⟨(tb_in (i := 521) rfl (by decide +kernel)), List.forall_mem_cons.mpr ⟨(tb_in (i := 523) rfl (by decide +kernel)), List.forall_mem_cons.mpr ⟨(tb_in (i := 525) rfl (by decide +kernel)), List.forall_mem_cons.mpr ⟨(tb_in (i := 527) rfl (by decide +kernel)), List.forall_mem_cons.mpr ⟨(tb_in (i := 529) rfl (by decide +kernel)), List.forall_mem_cons.mpr ⟨(tb_in (i := 531) rfl (by decide +kernel)), List.forall_mem_cons.mpr ⟨(tb_in (i := 533) rfl (by decide +kernel)), List.forall_mem_cons.mpr ⟨(tb_in (i := 535) rfl (by decide +kernel)), List.forall_mem_cons.mpr ⟨(tb_in (i := 537) rfl (by decide +kernel)), List.forall_mem_cons.mpr ⟨(tb_in (i := 539) rfl (by decide +kernel)), List.forall_mem_cons.mpr ⟨(tb_in (i := 541) rfl (by decide +kernel)), List.forall_mem_cons.mpr ⟨(tb_in (i := 543) rfl (by decide +kernel)), List.forall_mem_cons.mpr ⟨(tb_in (i := 545) rfl (by decide +kernel)), List.forall_mem_cons.mpr ⟨(tb_in (i := 547) rfl (by decide +kernel)), List.forall_mem_cons.mpr ⟨(tb_in (i := 549) rfl (by decide +kernel)), List.forall_mem_cons.mpr ⟨(tb_in (i := 551) rfl (by decide +kernel)), List.forall_mem_cons.mpr ⟨(tb_in (i := 553) rfl (by decide +kernel)), List.forall_mem_cons.mpr ⟨(tb_in (i := 555) rfl (by decide +kernel)), List.forall_mem_cons.mpr ⟨(tb_in (i := 557) rfl (by decide +kernel)), List.forall_mem_cons.mpr ⟨(tb_in (i := 559) rfl (by decide +kernel)), List.forall_mem_cons.mpr ⟨(tb_in (i := 561) rfl (by decide +kernel)), List.forall_mem_cons.mpr ⟨(tb_in (i := 563) rfl (by decide +kernel)), List.forall_mem_cons.mpr ⟨(tb_in (i := 565) rfl (by decide +kernel)), List.forall_mem_cons.mpr ⟨(tb_in (i := 567) rfl (by decide +kernel)), List.forall_mem_cons.mpr ⟨(tb_in (i := 569) rfl (by decide +kernel)), List.forall_mem_cons.mpr ⟨(tb_in (i := 571) rfl (by decide +kernel)), List.forall_mem_cons.mpr ⟨(tb_in (i := 573) rfl (by decide +kernel)), fun _ h => absurd h List.not_mem_nil⟩⟩⟩⟩⟩⟩⟩⟩⟩⟩⟩⟩⟩⟩⟩⟩⟩⟩⟩⟩⟩⟩⟩⟩⟩⟩⟩⟩⟩⟩⟩⟩⟩⟩⟩⟩⟩⟩⟩⟩⟩⟩⟩⟩⟩
set_option maxRecDepth 20000 in
theorem fl_Rd_11_2 : xw_fl R_Rd 11 2 0 := ⟨R_Rd, F_Rd, 4, "CyclePatterns$Reader", rfl, by decide, in_Rd, Or.inl rfl, Or.inl (tb_in (i := 25) rfl (by decide +kernel))⟩
set_option maxRecDepth 20000 in
theorem ff_Rd_11_2 : xw_ff R_Rd 11 2 0 (.array .char) := ⟨R_Rd, F_Rd, 4, t_Rd, rfl, by decide, in_Rd, rfl, (tb_in (i := 25) rfl (by decide +kernel)), t_Rd_ok, n_Rd, rfl, by decide +kernel⟩
set_option maxRecDepth 20000 in
theorem fl_Rd_21_2 : xw_fl R_Rd 21 2 1 := ⟨R_Rd, F_Rd, 4, "CyclePatterns$Reader", rfl, by decide, in_Rd, Or.inl rfl, Or.inl (tb_in (i := 27) rfl (by decide +kernel))⟩
set_option maxRecDepth 20000 in
theorem fp_Rd_21_2 : xw_fp R_Rd 21 2 1 (.int) := ⟨R_Rd, F_Rd, 4, "CyclePatterns$Reader", t_Rd, rfl, by decide, in_Rd, Or.inl rfl, Or.inl (tb_in (i := 27) rfl (by decide +kernel)), t_Rd_ok, n_Rd, rfl, by decide +kernel⟩
set_option maxRecDepth 20000 in
theorem fl_Rd_25_2 : xw_fl R_Rd 25 2 2 := ⟨R_Rd, F_Rd, 4, "CyclePatterns$Reader", rfl, by decide, in_Rd, Or.inl rfl, Or.inl (tb_in (i := 29) rfl (by decide +kernel))⟩
set_option maxRecDepth 20000 in
theorem fp_Rd_25_2 : xw_fp R_Rd 25 2 2 (.int) := ⟨R_Rd, F_Rd, 4, "CyclePatterns$Reader", t_Rd, rfl, by decide, in_Rd, Or.inl rfl, Or.inl (tb_in (i := 29) rfl (by decide +kernel)), t_Rd_ok, n_Rd, rfl, by decide +kernel⟩
set_option maxRecDepth 20000 in
theorem fl_Rd_28_2 : xw_fl R_Rd 28 2 3 := ⟨R_Rd, F_Rd, 4, "CyclePatterns$Reader", rfl, by decide, in_Rd, Or.inl rfl, Or.inl (tb_in (i := 31) rfl (by decide +kernel))⟩
set_option maxRecDepth 20000 in
theorem fp_Rd_28_2 : xw_fp R_Rd 28 2 3 (.int) := ⟨R_Rd, F_Rd, 4, "CyclePatterns$Reader", t_Rd, rfl, by decide, in_Rd, Or.inl rfl, Or.inl (tb_in (i := 31) rfl (by decide +kernel)), t_Rd_ok, n_Rd, rfl, by decide +kernel⟩
set_option maxRecDepth 20000 in
theorem fl_N_16_1 : xw_fl R_N 16 1 0 := ⟨R_N, F_N, 7, "CyclePatterns$Node", rfl, by decide, in_N, Or.inl rfl, Or.inl (tb_in (i := 53) rfl (by decide +kernel))⟩
set_option maxRecDepth 20000 in
theorem ff_N_16_1 : xw_ff R_N 16 1 0 (.char) := ⟨R_N, F_N, 7, t_N, rfl, by decide, in_N, rfl, (tb_in (i := 53) rfl (by decide +kernel)), t_N_ok, n_N, rfl, by decide +kernel⟩
set_option maxRecDepth 20000 in
theorem fl_N_20_1 : xw_fl R_N 20 1 1 := ⟨R_N, F_N, 7, "CyclePatterns$Node", rfl, by decide, in_N, Or.inl rfl, Or.inl (tb_in (i := 56) rfl (by decide +kernel))⟩
set_option maxRecDepth 20000 in
theorem ff_N_20_1 : xw_ff R_N 20 1 1 (.array (.object "CyclePatterns$Node")) := ⟨R_N, F_N, 7, t_N, rfl, by decide, in_N, rfl, (tb_in (i := 56) rfl (by decide +kernel)), t_N_ok, n_N, rfl, by decide +kernel⟩
set_option maxRecDepth 20000 in
theorem fl_N_32_1 : xw_fl R_N 32 1 2 := ⟨R_N, F_N, 7, "CyclePatterns$Node", rfl, by decide, in_N, Or.inl rfl, Or.inl (tb_in (i := 57) rfl (by decide +kernel))⟩
set_option maxRecDepth 20000 in
theorem fp_N_32_1 : xw_fp R_N 32 1 2 (.int) := ⟨R_N, F_N, 7, "CyclePatterns$Node", t_N, rfl, by decide, in_N, Or.inl rfl, Or.inl (tb_in (i := 57) rfl (by decide +kernel)), t_N_ok, n_N, rfl, by decide +kernel⟩
set_option maxRecDepth 20000 in
theorem fl_N_7_1 : xw_fl R_N 7 1 3 := ⟨R_N, F_N, 7, "CyclePatterns$Node", rfl, by decide, in_N, Or.inl rfl, Or.inl (tb_in (i := 59) rfl (by decide +kernel))⟩
set_option maxRecDepth 20000 in
theorem fp_N_7_1 : xw_fp R_N 7 1 3 (.int) := ⟨R_N, F_N, 7, "CyclePatterns$Node", t_N, rfl, by decide, in_N, Or.inl rfl, Or.inl (tb_in (i := 59) rfl (by decide +kernel)), t_N_ok, n_N, rfl, by decide +kernel⟩
set_option maxRecDepth 20000 in
theorem fl_N_13_1 : xw_fl R_N 13 1 4 := ⟨R_N, F_N, 7, "CyclePatterns$Node", rfl, by decide, in_N, Or.inl rfl, Or.inl (tb_in (i := 62) rfl (by decide +kernel))⟩
set_option maxRecDepth 20000 in
theorem fp_N_13_1 : xw_fp R_N 13 1 4 (.int) := ⟨R_N, F_N, 7, "CyclePatterns$Node", t_N, rfl, by decide, in_N, Or.inl rfl, Or.inl (tb_in (i := 62) rfl (by decide +kernel)), t_N_ok, n_N, rfl, by decide +kernel⟩
set_option maxRecDepth 20000 in
theorem fl_N_43_1 : xw_fl R_N 43 1 5 := ⟨R_N, F_N, 7, "CyclePatterns$Node", rfl, by decide, in_N, Or.inl rfl, Or.inl (tb_in (i := 65) rfl (by decide +kernel))⟩
set_option maxRecDepth 20000 in
theorem fp_N_43_1 : xw_fp R_N 43 1 5 (.int) := ⟨R_N, F_N, 7, "CyclePatterns$Node", t_N, rfl, by decide, in_N, Or.inl rfl, Or.inl (tb_in (i := 65) rfl (by decide +kernel)), t_N_ok, n_N, rfl, by decide +kernel⟩
set_option maxRecDepth 20000 in
theorem fl_N_28_1 : xw_fl R_N 28 1 6 := ⟨R_N, F_N, 7, "CyclePatterns$Node", rfl, by decide, in_N, Or.inl rfl, Or.inl (tb_in (i := 67) rfl (by decide +kernel))⟩
set_option maxRecDepth 20000 in
theorem fp_N_28_1 : xw_fp R_N 28 1 6 (.boolean) := ⟨R_N, F_N, 7, "CyclePatterns$Node", t_N, rfl, by decide, in_N, Or.inl rfl, Or.inl (tb_in (i := 67) rfl (by decide +kernel)), t_N_ok, n_N, rfl, by decide +kernel⟩
set_option maxRecDepth 20000 in
theorem fl_Rw_7_3 : xw_fl R_Rw 7 3 0 := ⟨R_Rw, F_Rw, 5, "CyclePatterns$Rows", rfl, by decide, in_Rw, Or.inl rfl, Or.inl (tb_in (i := 99) rfl (by decide +kernel))⟩
set_option maxRecDepth 20000 in
theorem ff_Rw_7_3 : xw_ff R_Rw 7 3 0 (.int) := ⟨R_Rw, F_Rw, 5, t_Rw, rfl, by decide, in_Rw, rfl, (tb_in (i := 99) rfl (by decide +kernel)), t_Rw_ok, n_Rw, rfl, by decide +kernel⟩
set_option maxRecDepth 20000 in
theorem fl_Rw_13_3 : xw_fl R_Rw 13 3 1 := ⟨R_Rw, F_Rw, 5, "CyclePatterns$Rows", rfl, by decide, in_Rw, Or.inl rfl, Or.inl (tb_in (i := 100) rfl (by decide +kernel))⟩
set_option maxRecDepth 20000 in
theorem ff_Rw_13_3 : xw_ff R_Rw 13 3 1 (.array .long) := ⟨R_Rw, F_Rw, 5, t_Rw, rfl, by decide, in_Rw, rfl, (tb_in (i := 100) rfl (by decide +kernel)), t_Rw_ok, n_Rw, rfl, by decide +kernel⟩
set_option maxRecDepth 20000 in
theorem fl_Rw_17_3 : xw_fl R_Rw 17 3 2 := ⟨R_Rw, F_Rw, 5, "CyclePatterns$Rows", rfl, by decide, in_Rw, Or.inl rfl, Or.inl (tb_in (i := 101) rfl (by decide +kernel))⟩
set_option maxRecDepth 20000 in
theorem ff_Rw_17_3 : xw_ff R_Rw 17 3 2 (.array .int) := ⟨R_Rw, F_Rw, 5, t_Rw, rfl, by decide, in_Rw, rfl, (tb_in (i := 101) rfl (by decide +kernel)), t_Rw_ok, n_Rw, rfl, by decide +kernel⟩
set_option maxRecDepth 20000 in
theorem fl_Rw_21_3 : xw_fl R_Rw 21 3 3 := ⟨R_Rw, F_Rw, 5, "CyclePatterns$Rows", rfl, by decide, in_Rw, Or.inl rfl, Or.inl (tb_in (i := 102) rfl (by decide +kernel))⟩
set_option maxRecDepth 20000 in
theorem fp_Rw_21_3 : xw_fp R_Rw 21 3 3 (.int) := ⟨R_Rw, F_Rw, 5, "CyclePatterns$Rows", t_Rw, rfl, by decide, in_Rw, Or.inl rfl, Or.inl (tb_in (i := 102) rfl (by decide +kernel)), t_Rw_ok, n_Rw, rfl, by decide +kernel⟩
set_option maxRecDepth 20000 in
theorem fl_Rw_24_3 : xw_fl R_Rw 24 3 4 := ⟨R_Rw, F_Rw, 5, "CyclePatterns$Rows", rfl, by decide, in_Rw, Or.inl rfl, Or.inl (tb_in (i := 104) rfl (by decide +kernel))⟩
set_option maxRecDepth 20000 in
theorem fp_Rw_24_3 : xw_fp R_Rw 24 3 4 (.boolean) := ⟨R_Rw, F_Rw, 5, "CyclePatterns$Rows", t_Rw, rfl, by decide, in_Rw, Or.inl rfl, Or.inl (tb_in (i := 104) rfl (by decide +kernel)), t_Rw_ok, n_Rw, rfl, by decide +kernel⟩
set_option maxRecDepth 20000 in
theorem fl_Wk_12_4 : xw_fl R_Wk 12 4 0 := ⟨R_Pa, F_Pa, 1, "CyclePatterns$Walk", rfl, by decide, in_Pa, Or.inl rfl, Or.inl (tb_in (i := 120) rfl (by decide +kernel))⟩
set_option maxRecDepth 20000 in
theorem ff_Wk_12_4 : xw_ff R_Wk 12 4 0 (.object "CyclePatterns$Rows") := ⟨R_Pa, F_Pa, 1, t_Pa, rfl, by decide, in_Pa, rfl, (tb_in (i := 120) rfl (by decide +kernel)), t_Pa_ok, n_Pa, rfl, by decide +kernel⟩
set_option maxRecDepth 20000 in
theorem fl_Wk_12_5 : xw_fl R_Wk 12 5 0 := ⟨R_On, F_On, 3, "CyclePatterns$Walk", rfl, by decide, in_On, Or.inl rfl, Or.inl (tb_in (i := 120) rfl (by decide +kernel))⟩
set_option maxRecDepth 20000 in
theorem ff_Wk_12_5 : xw_ff R_Wk 12 5 0 (.object "CyclePatterns$Rows") := ⟨R_On, F_On, 3, t_On, rfl, by decide, in_On, rfl, (tb_in (i := 120) rfl (by decide +kernel)), t_On_ok, n_On, rfl, by decide +kernel⟩
set_option maxRecDepth 20000 in
theorem fl_Pa_9_4 : xw_fl R_Pa 9 4 0 := ⟨R_Pa, F_Pa, 1, "CyclePatterns$Parts", rfl, by decide, in_Pa, Or.inr (tb_in (i := 122) rfl (by decide +kernel)), Or.inl (tb_in (i := 121) rfl (by decide +kernel))⟩
set_option maxRecDepth 20000 in
theorem fl_On_15_5 : xw_fl R_On 15 5 0 := ⟨R_On, F_On, 3, "CyclePatterns$Onsets", rfl, by decide, in_On, Or.inr (tb_in (i := 124) rfl (by decide +kernel)), Or.inl (tb_in (i := 123) rfl (by decide +kernel))⟩
set_option maxRecDepth 20000 in
theorem fl_X_91_4 : xw_fl R_X 91 4 0 := ⟨R_Pa, F_Pa, 1, "CyclePatterns$Parts", rfl, by decide, in_Pa, Or.inr (tb_in (i := 122) rfl (by decide +kernel)), Or.inl (tb_in (i := 125) rfl (by decide +kernel))⟩
set_option maxRecDepth 20000 in
theorem fl_X_120_5 : xw_fl R_X 120 5 0 := ⟨R_On, F_On, 3, "CyclePatterns$Onsets", rfl, by decide, in_On, Or.inr (tb_in (i := 124) rfl (by decide +kernel)), Or.inl (tb_in (i := 126) rfl (by decide +kernel))⟩
set_option maxRecDepth 20000 in
theorem fl_On_25_5 : xw_fl R_On 25 5 1 := ⟨R_On, F_On, 3, "CyclePatterns$Onsets", rfl, by decide, in_On, Or.inl rfl, Or.inl (tb_in (i := 136) rfl (by decide +kernel))⟩
set_option maxRecDepth 20000 in
theorem fp_On_25_5 : xw_fp R_On 25 5 1 (.int) := ⟨R_On, F_On, 3, "CyclePatterns$Onsets", t_On, rfl, by decide, in_On, Or.inl rfl, Or.inl (tb_in (i := 136) rfl (by decide +kernel)), t_On_ok, n_On, rfl, by decide +kernel⟩
set_option maxRecDepth 20000 in
theorem fl_On_9_5 : xw_fl R_On 9 5 2 := ⟨R_On, F_On, 3, "CyclePatterns$Onsets", rfl, by decide, in_On, Or.inl rfl, Or.inl (tb_in (i := 138) rfl (by decide +kernel))⟩
set_option maxRecDepth 20000 in
theorem fp_On_9_5 : xw_fp R_On 9 5 2 (.long) := ⟨R_On, F_On, 3, "CyclePatterns$Onsets", t_On, rfl, by decide, in_On, Or.inl rfl, Or.inl (tb_in (i := 138) rfl (by decide +kernel)), t_On_ok, n_On, rfl, by decide +kernel⟩
set_option maxRecDepth 20000 in
theorem fl_X_10_0 : xw_fl R_X 10 0 0 := ⟨R_X, F_X, 12, "CyclePatterns", rfl, by decide, in_X, Or.inl rfl, Or.inl (tb_in (i := 146) rfl (by decide +kernel))⟩
set_option maxRecDepth 20000 in
theorem ff_X_10_0 : xw_ff R_X 10 0 0 (.object "CyclePatterns$Reader") := ⟨R_X, F_X, 12, t_X, rfl, by decide, in_X, rfl, (tb_in (i := 146) rfl (by decide +kernel)), t_X_ok, n_X, rfl, by decide +kernel⟩
set_option maxRecDepth 20000 in
theorem fl_X_18_0 : xw_fl R_X 18 0 1 := ⟨R_X, F_X, 12, "CyclePatterns", rfl, by decide, in_X, Or.inl rfl, Or.inl (tb_in (i := 147) rfl (by decide +kernel))⟩
set_option maxRecDepth 20000 in
theorem ff_X_18_0 : xw_ff R_X 18 0 1 (.array (.object "CyclePatterns$Node")) := ⟨R_X, F_X, 12, t_X, rfl, by decide, in_X, rfl, (tb_in (i := 147) rfl (by decide +kernel)), t_X_ok, n_X, rfl, by decide +kernel⟩
set_option maxRecDepth 20000 in
theorem fl_X_22_0 : xw_fl R_X 22 0 2 := ⟨R_X, F_X, 12, "CyclePatterns", rfl, by decide, in_X, Or.inl rfl, Or.inl (tb_in (i := 148) rfl (by decide +kernel))⟩
set_option maxRecDepth 20000 in
theorem ff_X_22_0 : xw_ff R_X 22 0 2 (.array .int) := ⟨R_X, F_X, 12, t_X, rfl, by decide, in_X, rfl, (tb_in (i := 148) rfl (by decide +kernel)), t_X_ok, n_X, rfl, by decide +kernel⟩
set_option maxRecDepth 20000 in
theorem fl_X_32_0 : xw_fl R_X 32 0 3 := ⟨R_X, F_X, 12, "CyclePatterns", rfl, by decide, in_X, Or.inl rfl, Or.inl (tb_in (i := 149) rfl (by decide +kernel))⟩
set_option maxRecDepth 20000 in
theorem ff_X_32_0 : xw_ff R_X 32 0 3 (.object "CyclePatterns$Parts") := ⟨R_X, F_X, 12, t_X, rfl, by decide, in_X, rfl, (tb_in (i := 149) rfl (by decide +kernel)), t_X_ok, n_X, rfl, by decide +kernel⟩
set_option maxRecDepth 20000 in
theorem fl_X_36_0 : xw_fl R_X 36 0 4 := ⟨R_X, F_X, 12, "CyclePatterns", rfl, by decide, in_X, Or.inl rfl, Or.inl (tb_in (i := 150) rfl (by decide +kernel))⟩
set_option maxRecDepth 20000 in
theorem fp_X_36_0 : xw_fp R_X 36 0 4 (.int) := ⟨R_X, F_X, 12, "CyclePatterns", t_X, rfl, by decide, in_X, Or.inl rfl, Or.inl (tb_in (i := 150) rfl (by decide +kernel)), t_X_ok, n_X, rfl, by decide +kernel⟩
set_option maxRecDepth 20000 in
theorem fl_X_40_0 : xw_fl R_X 40 0 5 := ⟨R_X, F_X, 12, "CyclePatterns", rfl, by decide, in_X, Or.inl rfl, Or.inl (tb_in (i := 151) rfl (by decide +kernel))⟩
set_option maxRecDepth 20000 in
theorem ff_X_40_0 : xw_ff R_X 40 0 5 (.object "CyclePatterns$Parts") := ⟨R_X, F_X, 12, t_X, rfl, by decide, in_X, rfl, (tb_in (i := 151) rfl (by decide +kernel)), t_X_ok, n_X, rfl, by decide +kernel⟩
set_option maxRecDepth 20000 in
theorem fl_X_43_0 : xw_fl R_X 43 0 6 := ⟨R_X, F_X, 12, "CyclePatterns", rfl, by decide, in_X, Or.inl rfl, Or.inl (tb_in (i := 152) rfl (by decide +kernel))⟩
set_option maxRecDepth 20000 in
theorem ff_X_43_0 : xw_ff R_X 43 0 6 (.object "CyclePatterns$Parts") := ⟨R_X, F_X, 12, t_X, rfl, by decide, in_X, rfl, (tb_in (i := 152) rfl (by decide +kernel)), t_X_ok, n_X, rfl, by decide +kernel⟩
set_option maxRecDepth 20000 in
theorem fl_X_49_0 : xw_fl R_X 49 0 7 := ⟨R_X, F_X, 12, "CyclePatterns", rfl, by decide, in_X, Or.inl rfl, Or.inl (tb_in (i := 153) rfl (by decide +kernel))⟩
set_option maxRecDepth 20000 in
theorem ff_X_49_0 : xw_ff R_X 49 0 7 (.object "CyclePatterns$Onsets") := ⟨R_X, F_X, 12, t_X, rfl, by decide, in_X, rfl, (tb_in (i := 153) rfl (by decide +kernel)), t_X_ok, n_X, rfl, by decide +kernel⟩
set_option maxRecDepth 20000 in
theorem fl_X_111_0 : xw_fl R_X 111 0 8 := ⟨R_X, F_X, 12, "CyclePatterns", rfl, by decide, in_X, Or.inl rfl, Or.inl (tb_in (i := 154) rfl (by decide +kernel))⟩
set_option maxRecDepth 20000 in
theorem fp_X_111_0 : xw_fp R_X 111 0 8 (.int) := ⟨R_X, F_X, 12, "CyclePatterns", t_X, rfl, by decide, in_X, Or.inl rfl, Or.inl (tb_in (i := 154) rfl (by decide +kernel)), t_X_ok, n_X, rfl, by decide +kernel⟩
set_option maxRecDepth 20000 in
theorem fl_X_114_0 : xw_fl R_X 114 0 9 := ⟨R_X, F_X, 12, "CyclePatterns", rfl, by decide, in_X, Or.inl rfl, Or.inl (tb_in (i := 155) rfl (by decide +kernel))⟩
set_option maxRecDepth 20000 in
theorem fp_X_114_0 : xw_fp R_X 114 0 9 (.int) := ⟨R_X, F_X, 12, "CyclePatterns", t_X, rfl, by decide, in_X, Or.inl rfl, Or.inl (tb_in (i := 155) rfl (by decide +kernel)), t_X_ok, n_X, rfl, by decide +kernel⟩
set_option maxRecDepth 20000 in
theorem fl_X_117_0 : xw_fl R_X 117 0 10 := ⟨R_X, F_X, 12, "CyclePatterns", rfl, by decide, in_X, Or.inl rfl, Or.inl (tb_in (i := 156) rfl (by decide +kernel))⟩
set_option maxRecDepth 20000 in
theorem fp_X_117_0 : xw_fp R_X 117 0 10 (.int) := ⟨R_X, F_X, 12, "CyclePatterns", t_X, rfl, by decide, in_X, Or.inl rfl, Or.inl (tb_in (i := 156) rfl (by decide +kernel)), t_X_ok, n_X, rfl, by decide +kernel⟩
set_option maxRecDepth 20000 in
theorem fl_X_130_0 : xw_fl R_X 130 0 11 := ⟨R_X, F_X, 12, "CyclePatterns", rfl, by decide, in_X, Or.inl rfl, Or.inl (tb_in (i := 157) rfl (by decide +kernel))⟩
set_option maxRecDepth 20000 in
theorem fp_X_130_0 : xw_fp R_X 130 0 11 (.long) := ⟨R_X, F_X, 12, "CyclePatterns", t_X, rfl, by decide, in_X, Or.inl rfl, Or.inl (tb_in (i := 157) rfl (by decide +kernel)), t_X_ok, n_X, rfl, by decide +kernel⟩
set_option maxRecDepth 20000 in
theorem fl_M_120_6 : xw_fl R_M 120 6 0 := ⟨R_M, F_M, 45, "CyclePatternsModel", rfl, by decide, in_M, Or.inl rfl, Or.inl (tb_in (i := 440) rfl (by decide +kernel))⟩
set_option maxRecDepth 20000 in
theorem fp_M_120_6 : xw_fp R_M 120 6 0 (.int) := ⟨R_M, F_M, 45, "CyclePatternsModel", t_M, rfl, by decide, in_M, Or.inl rfl, Or.inl (tb_in (i := 440) rfl (by decide +kernel)), t_M_ok, n_M, rfl, by decide +kernel⟩
set_option maxRecDepth 20000 in
theorem fl_M_7_6 : xw_fl R_M 7 6 1 := ⟨R_M, F_M, 45, "CyclePatternsModel", rfl, by decide, in_M, Or.inl rfl, Or.inl (tb_in (i := 441) rfl (by decide +kernel))⟩
set_option maxRecDepth 20000 in
theorem ff_M_7_6 : xw_ff R_M 7 6 1 (.array .int) := ⟨R_M, F_M, 45, t_M, rfl, by decide, in_M, rfl, (tb_in (i := 441) rfl (by decide +kernel)), t_M_ok, n_M, rfl, by decide +kernel⟩
set_option maxRecDepth 20000 in
theorem fl_M_130_6 : xw_fl R_M 130 6 2 := ⟨R_M, F_M, 45, "CyclePatternsModel", rfl, by decide, in_M, Or.inl rfl, Or.inl (tb_in (i := 442) rfl (by decide +kernel))⟩
set_option maxRecDepth 20000 in
theorem fp_M_130_6 : xw_fp R_M 130 6 2 (.int) := ⟨R_M, F_M, 45, "CyclePatternsModel", t_M, rfl, by decide, in_M, Or.inl rfl, Or.inl (tb_in (i := 442) rfl (by decide +kernel)), t_M_ok, n_M, rfl, by decide +kernel⟩
set_option maxRecDepth 20000 in
theorem fl_M_13_6 : xw_fl R_M 13 6 3 := ⟨R_M, F_M, 45, "CyclePatternsModel", rfl, by decide, in_M, Or.inl rfl, Or.inl (tb_in (i := 443) rfl (by decide +kernel))⟩
set_option maxRecDepth 20000 in
theorem ff_M_13_6 : xw_ff R_M 13 6 3 (.array .int) := ⟨R_M, F_M, 45, t_M, rfl, by decide, in_M, rfl, (tb_in (i := 443) rfl (by decide +kernel)), t_M_ok, n_M, rfl, by decide +kernel⟩
set_option maxRecDepth 20000 in
theorem fl_M_16_6 : xw_fl R_M 16 6 4 := ⟨R_M, F_M, 45, "CyclePatternsModel", rfl, by decide, in_M, Or.inl rfl, Or.inl (tb_in (i := 444) rfl (by decide +kernel))⟩
set_option maxRecDepth 20000 in
theorem ff_M_16_6 : xw_ff R_M 16 6 4 (.array .int) := ⟨R_M, F_M, 45, t_M, rfl, by decide, in_M, rfl, (tb_in (i := 444) rfl (by decide +kernel)), t_M_ok, n_M, rfl, by decide +kernel⟩
set_option maxRecDepth 20000 in
theorem fl_M_19_6 : xw_fl R_M 19 6 5 := ⟨R_M, F_M, 45, "CyclePatternsModel", rfl, by decide, in_M, Or.inl rfl, Or.inl (tb_in (i := 445) rfl (by decide +kernel))⟩
set_option maxRecDepth 20000 in
theorem ff_M_19_6 : xw_ff R_M 19 6 5 (.array .int) := ⟨R_M, F_M, 45, t_M, rfl, by decide, in_M, rfl, (tb_in (i := 445) rfl (by decide +kernel)), t_M_ok, n_M, rfl, by decide +kernel⟩
set_option maxRecDepth 20000 in
theorem fl_M_22_6 : xw_fl R_M 22 6 6 := ⟨R_M, F_M, 45, "CyclePatternsModel", rfl, by decide, in_M, Or.inl rfl, Or.inl (tb_in (i := 446) rfl (by decide +kernel))⟩
set_option maxRecDepth 20000 in
theorem ff_M_22_6 : xw_ff R_M 22 6 6 (.array .int) := ⟨R_M, F_M, 45, t_M, rfl, by decide, in_M, rfl, (tb_in (i := 446) rfl (by decide +kernel)), t_M_ok, n_M, rfl, by decide +kernel⟩
set_option maxRecDepth 20000 in
theorem fl_M_25_6 : xw_fl R_M 25 6 7 := ⟨R_M, F_M, 45, "CyclePatternsModel", rfl, by decide, in_M, Or.inl rfl, Or.inl (tb_in (i := 447) rfl (by decide +kernel))⟩
set_option maxRecDepth 20000 in
theorem ff_M_25_6 : xw_ff R_M 25 6 7 (.array .int) := ⟨R_M, F_M, 45, t_M, rfl, by decide, in_M, rfl, (tb_in (i := 447) rfl (by decide +kernel)), t_M_ok, n_M, rfl, by decide +kernel⟩
set_option maxRecDepth 20000 in
theorem fl_M_28_6 : xw_fl R_M 28 6 8 := ⟨R_M, F_M, 45, "CyclePatternsModel", rfl, by decide, in_M, Or.inl rfl, Or.inl (tb_in (i := 448) rfl (by decide +kernel))⟩
set_option maxRecDepth 20000 in
theorem ff_M_28_6 : xw_ff R_M 28 6 8 (.array .int) := ⟨R_M, F_M, 45, t_M, rfl, by decide, in_M, rfl, (tb_in (i := 448) rfl (by decide +kernel)), t_M_ok, n_M, rfl, by decide +kernel⟩
set_option maxRecDepth 20000 in
theorem fl_M_31_6 : xw_fl R_M 31 6 9 := ⟨R_M, F_M, 45, "CyclePatternsModel", rfl, by decide, in_M, Or.inl rfl, Or.inl (tb_in (i := 449) rfl (by decide +kernel))⟩
set_option maxRecDepth 20000 in
theorem ff_M_31_6 : xw_ff R_M 31 6 9 (.array .int) := ⟨R_M, F_M, 45, t_M, rfl, by decide, in_M, rfl, (tb_in (i := 449) rfl (by decide +kernel)), t_M_ok, n_M, rfl, by decide +kernel⟩
set_option maxRecDepth 20000 in
theorem fl_M_34_6 : xw_fl R_M 34 6 10 := ⟨R_M, F_M, 45, "CyclePatternsModel", rfl, by decide, in_M, Or.inl rfl, Or.inl (tb_in (i := 450) rfl (by decide +kernel))⟩
set_option maxRecDepth 20000 in
theorem ff_M_34_6 : xw_ff R_M 34 6 10 (.array .int) := ⟨R_M, F_M, 45, t_M, rfl, by decide, in_M, rfl, (tb_in (i := 450) rfl (by decide +kernel)), t_M_ok, n_M, rfl, by decide +kernel⟩
set_option maxRecDepth 20000 in
theorem fl_M_37_6 : xw_fl R_M 37 6 11 := ⟨R_M, F_M, 45, "CyclePatternsModel", rfl, by decide, in_M, Or.inl rfl, Or.inl (tb_in (i := 451) rfl (by decide +kernel))⟩
set_option maxRecDepth 20000 in
theorem ff_M_37_6 : xw_ff R_M 37 6 11 (.array .int) := ⟨R_M, F_M, 45, t_M, rfl, by decide, in_M, rfl, (tb_in (i := 451) rfl (by decide +kernel)), t_M_ok, n_M, rfl, by decide +kernel⟩
set_option maxRecDepth 20000 in
theorem fl_M_40_6 : xw_fl R_M 40 6 12 := ⟨R_M, F_M, 45, "CyclePatternsModel", rfl, by decide, in_M, Or.inl rfl, Or.inl (tb_in (i := 452) rfl (by decide +kernel))⟩
set_option maxRecDepth 20000 in
theorem ff_M_40_6 : xw_ff R_M 40 6 12 (.array .int) := ⟨R_M, F_M, 45, t_M, rfl, by decide, in_M, rfl, (tb_in (i := 452) rfl (by decide +kernel)), t_M_ok, n_M, rfl, by decide +kernel⟩
set_option maxRecDepth 20000 in
theorem fl_M_123_6 : xw_fl R_M 123 6 13 := ⟨R_M, F_M, 45, "CyclePatternsModel", rfl, by decide, in_M, Or.inl rfl, Or.inl (tb_in (i := 453) rfl (by decide +kernel))⟩
set_option maxRecDepth 20000 in
theorem fp_M_123_6 : xw_fp R_M 123 6 13 (.int) := ⟨R_M, F_M, 45, "CyclePatternsModel", t_M, rfl, by decide, in_M, Or.inl rfl, Or.inl (tb_in (i := 453) rfl (by decide +kernel)), t_M_ok, n_M, rfl, by decide +kernel⟩
set_option maxRecDepth 20000 in
theorem fl_M_43_6 : xw_fl R_M 43 6 14 := ⟨R_M, F_M, 45, "CyclePatternsModel", rfl, by decide, in_M, Or.inl rfl, Or.inl (tb_in (i := 454) rfl (by decide +kernel))⟩
set_option maxRecDepth 20000 in
theorem ff_M_43_6 : xw_ff R_M 43 6 14 (.array .int) := ⟨R_M, F_M, 45, t_M, rfl, by decide, in_M, rfl, (tb_in (i := 454) rfl (by decide +kernel)), t_M_ok, n_M, rfl, by decide +kernel⟩
set_option maxRecDepth 20000 in
theorem fl_M_46_6 : xw_fl R_M 46 6 15 := ⟨R_M, F_M, 45, "CyclePatternsModel", rfl, by decide, in_M, Or.inl rfl, Or.inl (tb_in (i := 455) rfl (by decide +kernel))⟩
set_option maxRecDepth 20000 in
theorem ff_M_46_6 : xw_ff R_M 46 6 15 (.array .int) := ⟨R_M, F_M, 45, t_M, rfl, by decide, in_M, rfl, (tb_in (i := 455) rfl (by decide +kernel)), t_M_ok, n_M, rfl, by decide +kernel⟩
set_option maxRecDepth 20000 in
theorem fl_M_177_6 : xw_fl R_M 177 6 16 := ⟨R_M, F_M, 45, "CyclePatternsModel", rfl, by decide, in_M, Or.inl rfl, Or.inl (tb_in (i := 456) rfl (by decide +kernel))⟩
set_option maxRecDepth 20000 in
theorem fp_M_177_6 : xw_fp R_M 177 6 16 (.int) := ⟨R_M, F_M, 45, "CyclePatternsModel", t_M, rfl, by decide, in_M, Or.inl rfl, Or.inl (tb_in (i := 456) rfl (by decide +kernel)), t_M_ok, n_M, rfl, by decide +kernel⟩
set_option maxRecDepth 20000 in
theorem fl_M_49_6 : xw_fl R_M 49 6 17 := ⟨R_M, F_M, 45, "CyclePatternsModel", rfl, by decide, in_M, Or.inl rfl, Or.inl (tb_in (i := 457) rfl (by decide +kernel))⟩
set_option maxRecDepth 20000 in
theorem ff_M_49_6 : xw_ff R_M 49 6 17 (.array .int) := ⟨R_M, F_M, 45, t_M, rfl, by decide, in_M, rfl, (tb_in (i := 457) rfl (by decide +kernel)), t_M_ok, n_M, rfl, by decide +kernel⟩
set_option maxRecDepth 20000 in
theorem fl_M_52_6 : xw_fl R_M 52 6 18 := ⟨R_M, F_M, 45, "CyclePatternsModel", rfl, by decide, in_M, Or.inl rfl, Or.inl (tb_in (i := 458) rfl (by decide +kernel))⟩
set_option maxRecDepth 20000 in
theorem ff_M_52_6 : xw_ff R_M 52 6 18 (.array .long) := ⟨R_M, F_M, 45, t_M, rfl, by decide, in_M, rfl, (tb_in (i := 458) rfl (by decide +kernel)), t_M_ok, n_M, rfl, by decide +kernel⟩
set_option maxRecDepth 20000 in
theorem fl_M_56_6 : xw_fl R_M 56 6 19 := ⟨R_M, F_M, 45, "CyclePatternsModel", rfl, by decide, in_M, Or.inl rfl, Or.inl (tb_in (i := 459) rfl (by decide +kernel))⟩
set_option maxRecDepth 20000 in
theorem ff_M_56_6 : xw_ff R_M 56 6 19 (.array .long) := ⟨R_M, F_M, 45, t_M, rfl, by decide, in_M, rfl, (tb_in (i := 459) rfl (by decide +kernel)), t_M_ok, n_M, rfl, by decide +kernel⟩
set_option maxRecDepth 20000 in
theorem fl_M_59_6 : xw_fl R_M 59 6 20 := ⟨R_M, F_M, 45, "CyclePatternsModel", rfl, by decide, in_M, Or.inl rfl, Or.inl (tb_in (i := 460) rfl (by decide +kernel))⟩
set_option maxRecDepth 20000 in
theorem ff_M_59_6 : xw_ff R_M 59 6 20 (.array .long) := ⟨R_M, F_M, 45, t_M, rfl, by decide, in_M, rfl, (tb_in (i := 460) rfl (by decide +kernel)), t_M_ok, n_M, rfl, by decide +kernel⟩
set_option maxRecDepth 20000 in
theorem fl_M_62_6 : xw_fl R_M 62 6 21 := ⟨R_M, F_M, 45, "CyclePatternsModel", rfl, by decide, in_M, Or.inl rfl, Or.inl (tb_in (i := 461) rfl (by decide +kernel))⟩
set_option maxRecDepth 20000 in
theorem ff_M_62_6 : xw_ff R_M 62 6 21 (.array .long) := ⟨R_M, F_M, 45, t_M, rfl, by decide, in_M, rfl, (tb_in (i := 461) rfl (by decide +kernel)), t_M_ok, n_M, rfl, by decide +kernel⟩
set_option maxRecDepth 20000 in
theorem fl_M_65_6 : xw_fl R_M 65 6 22 := ⟨R_M, F_M, 45, "CyclePatternsModel", rfl, by decide, in_M, Or.inl rfl, Or.inl (tb_in (i := 462) rfl (by decide +kernel))⟩
set_option maxRecDepth 20000 in
theorem ff_M_65_6 : xw_ff R_M 65 6 22 (.array .long) := ⟨R_M, F_M, 45, t_M, rfl, by decide, in_M, rfl, (tb_in (i := 462) rfl (by decide +kernel)), t_M_ok, n_M, rfl, by decide +kernel⟩
set_option maxRecDepth 20000 in
theorem fl_M_68_6 : xw_fl R_M 68 6 23 := ⟨R_M, F_M, 45, "CyclePatternsModel", rfl, by decide, in_M, Or.inl rfl, Or.inl (tb_in (i := 463) rfl (by decide +kernel))⟩
set_option maxRecDepth 20000 in
theorem ff_M_68_6 : xw_ff R_M 68 6 23 (.array .long) := ⟨R_M, F_M, 45, t_M, rfl, by decide, in_M, rfl, (tb_in (i := 463) rfl (by decide +kernel)), t_M_ok, n_M, rfl, by decide +kernel⟩
set_option maxRecDepth 20000 in
theorem fl_M_71_6 : xw_fl R_M 71 6 24 := ⟨R_M, F_M, 45, "CyclePatternsModel", rfl, by decide, in_M, Or.inl rfl, Or.inl (tb_in (i := 464) rfl (by decide +kernel))⟩
set_option maxRecDepth 20000 in
theorem ff_M_71_6 : xw_ff R_M 71 6 24 (.array .int) := ⟨R_M, F_M, 45, t_M, rfl, by decide, in_M, rfl, (tb_in (i := 464) rfl (by decide +kernel)), t_M_ok, n_M, rfl, by decide +kernel⟩
set_option maxRecDepth 20000 in
theorem fl_M_74_6 : xw_fl R_M 74 6 25 := ⟨R_M, F_M, 45, "CyclePatternsModel", rfl, by decide, in_M, Or.inl rfl, Or.inl (tb_in (i := 465) rfl (by decide +kernel))⟩
set_option maxRecDepth 20000 in
theorem ff_M_74_6 : xw_ff R_M 74 6 25 (.array .int) := ⟨R_M, F_M, 45, t_M, rfl, by decide, in_M, rfl, (tb_in (i := 465) rfl (by decide +kernel)), t_M_ok, n_M, rfl, by decide +kernel⟩
set_option maxRecDepth 20000 in
theorem fl_M_77_6 : xw_fl R_M 77 6 26 := ⟨R_M, F_M, 45, "CyclePatternsModel", rfl, by decide, in_M, Or.inl rfl, Or.inl (tb_in (i := 466) rfl (by decide +kernel))⟩
set_option maxRecDepth 20000 in
theorem ff_M_77_6 : xw_ff R_M 77 6 26 (.array .boolean) := ⟨R_M, F_M, 45, t_M, rfl, by decide, in_M, rfl, (tb_in (i := 466) rfl (by decide +kernel)), t_M_ok, n_M, rfl, by decide +kernel⟩
set_option maxRecDepth 20000 in
theorem fl_M_81_6 : xw_fl R_M 81 6 27 := ⟨R_M, F_M, 45, "CyclePatternsModel", rfl, by decide, in_M, Or.inl rfl, Or.inl (tb_in (i := 467) rfl (by decide +kernel))⟩
set_option maxRecDepth 20000 in
theorem ff_M_81_6 : xw_ff R_M 81 6 27 (.array .long) := ⟨R_M, F_M, 45, t_M, rfl, by decide, in_M, rfl, (tb_in (i := 467) rfl (by decide +kernel)), t_M_ok, n_M, rfl, by decide +kernel⟩
set_option maxRecDepth 20000 in
theorem fl_M_84_6 : xw_fl R_M 84 6 28 := ⟨R_M, F_M, 45, "CyclePatternsModel", rfl, by decide, in_M, Or.inl rfl, Or.inl (tb_in (i := 468) rfl (by decide +kernel))⟩
set_option maxRecDepth 20000 in
theorem ff_M_84_6 : xw_ff R_M 84 6 28 (.array .long) := ⟨R_M, F_M, 45, t_M, rfl, by decide, in_M, rfl, (tb_in (i := 468) rfl (by decide +kernel)), t_M_ok, n_M, rfl, by decide +kernel⟩
set_option maxRecDepth 20000 in
theorem fl_M_87_6 : xw_fl R_M 87 6 29 := ⟨R_M, F_M, 45, "CyclePatternsModel", rfl, by decide, in_M, Or.inl rfl, Or.inl (tb_in (i := 469) rfl (by decide +kernel))⟩
set_option maxRecDepth 20000 in
theorem ff_M_87_6 : xw_ff R_M 87 6 29 (.array .long) := ⟨R_M, F_M, 45, t_M, rfl, by decide, in_M, rfl, (tb_in (i := 469) rfl (by decide +kernel)), t_M_ok, n_M, rfl, by decide +kernel⟩
set_option maxRecDepth 20000 in
theorem fl_M_90_6 : xw_fl R_M 90 6 30 := ⟨R_M, F_M, 45, "CyclePatternsModel", rfl, by decide, in_M, Or.inl rfl, Or.inl (tb_in (i := 470) rfl (by decide +kernel))⟩
set_option maxRecDepth 20000 in
theorem ff_M_90_6 : xw_ff R_M 90 6 30 (.array .long) := ⟨R_M, F_M, 45, t_M, rfl, by decide, in_M, rfl, (tb_in (i := 470) rfl (by decide +kernel)), t_M_ok, n_M, rfl, by decide +kernel⟩
set_option maxRecDepth 20000 in
theorem fl_M_93_6 : xw_fl R_M 93 6 31 := ⟨R_M, F_M, 45, "CyclePatternsModel", rfl, by decide, in_M, Or.inl rfl, Or.inl (tb_in (i := 471) rfl (by decide +kernel))⟩
set_option maxRecDepth 20000 in
theorem ff_M_93_6 : xw_ff R_M 93 6 31 (.array .int) := ⟨R_M, F_M, 45, t_M, rfl, by decide, in_M, rfl, (tb_in (i := 471) rfl (by decide +kernel)), t_M_ok, n_M, rfl, by decide +kernel⟩
set_option maxRecDepth 20000 in
theorem fl_M_96_6 : xw_fl R_M 96 6 32 := ⟨R_M, F_M, 45, "CyclePatternsModel", rfl, by decide, in_M, Or.inl rfl, Or.inl (tb_in (i := 472) rfl (by decide +kernel))⟩
set_option maxRecDepth 20000 in
theorem fp_M_96_6 : xw_fp R_M 96 6 32 (.int) := ⟨R_M, F_M, 45, "CyclePatternsModel", t_M, rfl, by decide, in_M, Or.inl rfl, Or.inl (tb_in (i := 472) rfl (by decide +kernel)), t_M_ok, n_M, rfl, by decide +kernel⟩
set_option maxRecDepth 20000 in
theorem fl_M_161_6 : xw_fl R_M 161 6 33 := ⟨R_M, F_M, 45, "CyclePatternsModel", rfl, by decide, in_M, Or.inl rfl, Or.inl (tb_in (i := 473) rfl (by decide +kernel))⟩
set_option maxRecDepth 20000 in
theorem fp_M_161_6 : xw_fp R_M 161 6 33 (.int) := ⟨R_M, F_M, 45, "CyclePatternsModel", t_M, rfl, by decide, in_M, Or.inl rfl, Or.inl (tb_in (i := 473) rfl (by decide +kernel)), t_M_ok, n_M, rfl, by decide +kernel⟩
set_option maxRecDepth 20000 in
theorem fl_M_242_6 : xw_fl R_M 242 6 34 := ⟨R_M, F_M, 45, "CyclePatternsModel", rfl, by decide, in_M, Or.inl rfl, Or.inl (tb_in (i := 474) rfl (by decide +kernel))⟩
set_option maxRecDepth 20000 in
theorem fp_M_242_6 : xw_fp R_M 242 6 34 (.long) := ⟨R_M, F_M, 45, "CyclePatternsModel", t_M, rfl, by decide, in_M, Or.inl rfl, Or.inl (tb_in (i := 474) rfl (by decide +kernel)), t_M_ok, n_M, rfl, by decide +kernel⟩
set_option maxRecDepth 20000 in
theorem fl_M_246_6 : xw_fl R_M 246 6 35 := ⟨R_M, F_M, 45, "CyclePatternsModel", rfl, by decide, in_M, Or.inl rfl, Or.inl (tb_in (i := 475) rfl (by decide +kernel))⟩
set_option maxRecDepth 20000 in
theorem fp_M_246_6 : xw_fp R_M 246 6 35 (.long) := ⟨R_M, F_M, 45, "CyclePatternsModel", t_M, rfl, by decide, in_M, Or.inl rfl, Or.inl (tb_in (i := 475) rfl (by decide +kernel)), t_M_ok, n_M, rfl, by decide +kernel⟩
set_option maxRecDepth 20000 in
theorem fl_M_167_6 : xw_fl R_M 167 6 36 := ⟨R_M, F_M, 45, "CyclePatternsModel", rfl, by decide, in_M, Or.inl rfl, Or.inl (tb_in (i := 476) rfl (by decide +kernel))⟩
set_option maxRecDepth 20000 in
theorem fp_M_167_6 : xw_fp R_M 167 6 36 (.int) := ⟨R_M, F_M, 45, "CyclePatternsModel", t_M, rfl, by decide, in_M, Or.inl rfl, Or.inl (tb_in (i := 476) rfl (by decide +kernel)), t_M_ok, n_M, rfl, by decide +kernel⟩
set_option maxRecDepth 20000 in
theorem fl_M_164_6 : xw_fl R_M 164 6 37 := ⟨R_M, F_M, 45, "CyclePatternsModel", rfl, by decide, in_M, Or.inl rfl, Or.inl (tb_in (i := 477) rfl (by decide +kernel))⟩
set_option maxRecDepth 20000 in
theorem fp_M_164_6 : xw_fp R_M 164 6 37 (.int) := ⟨R_M, F_M, 45, "CyclePatternsModel", t_M, rfl, by decide, in_M, Or.inl rfl, Or.inl (tb_in (i := 477) rfl (by decide +kernel)), t_M_ok, n_M, rfl, by decide +kernel⟩
set_option maxRecDepth 20000 in
theorem fl_M_249_6 : xw_fl R_M 249 6 38 := ⟨R_M, F_M, 45, "CyclePatternsModel", rfl, by decide, in_M, Or.inl rfl, Or.inl (tb_in (i := 478) rfl (by decide +kernel))⟩
set_option maxRecDepth 20000 in
theorem fp_M_249_6 : xw_fp R_M 249 6 38 (.boolean) := ⟨R_M, F_M, 45, "CyclePatternsModel", t_M, rfl, by decide, in_M, Or.inl rfl, Or.inl (tb_in (i := 478) rfl (by decide +kernel)), t_M_ok, n_M, rfl, by decide +kernel⟩
set_option maxRecDepth 20000 in
theorem fl_M_100_6 : xw_fl R_M 100 6 39 := ⟨R_M, F_M, 45, "CyclePatternsModel", rfl, by decide, in_M, Or.inl rfl, Or.inl (tb_in (i := 479) rfl (by decide +kernel))⟩
set_option maxRecDepth 20000 in
theorem ff_M_100_6 : xw_ff R_M 100 6 39 (.array .int) := ⟨R_M, F_M, 45, t_M, rfl, by decide, in_M, rfl, (tb_in (i := 479) rfl (by decide +kernel)), t_M_ok, n_M, rfl, by decide +kernel⟩
set_option maxRecDepth 20000 in
theorem fl_M_103_6 : xw_fl R_M 103 6 40 := ⟨R_M, F_M, 45, "CyclePatternsModel", rfl, by decide, in_M, Or.inl rfl, Or.inl (tb_in (i := 480) rfl (by decide +kernel))⟩
set_option maxRecDepth 20000 in
theorem ff_M_103_6 : xw_ff R_M 103 6 40 (.array .int) := ⟨R_M, F_M, 45, t_M, rfl, by decide, in_M, rfl, (tb_in (i := 480) rfl (by decide +kernel)), t_M_ok, n_M, rfl, by decide +kernel⟩
set_option maxRecDepth 20000 in
theorem fl_M_106_6 : xw_fl R_M 106 6 41 := ⟨R_M, F_M, 45, "CyclePatternsModel", rfl, by decide, in_M, Or.inl rfl, Or.inl (tb_in (i := 481) rfl (by decide +kernel))⟩
set_option maxRecDepth 20000 in
theorem ff_M_106_6 : xw_ff R_M 106 6 41 (.array .int) := ⟨R_M, F_M, 45, t_M, rfl, by decide, in_M, rfl, (tb_in (i := 481) rfl (by decide +kernel)), t_M_ok, n_M, rfl, by decide +kernel⟩
set_option maxRecDepth 20000 in
theorem fl_M_109_6 : xw_fl R_M 109 6 42 := ⟨R_M, F_M, 45, "CyclePatternsModel", rfl, by decide, in_M, Or.inl rfl, Or.inl (tb_in (i := 482) rfl (by decide +kernel))⟩
set_option maxRecDepth 20000 in
theorem ff_M_109_6 : xw_ff R_M 109 6 42 (.array .int) := ⟨R_M, F_M, 45, t_M, rfl, by decide, in_M, rfl, (tb_in (i := 482) rfl (by decide +kernel)), t_M_ok, n_M, rfl, by decide +kernel⟩
set_option maxRecDepth 20000 in
theorem fl_M_112_6 : xw_fl R_M 112 6 43 := ⟨R_M, F_M, 45, "CyclePatternsModel", rfl, by decide, in_M, Or.inl rfl, Or.inl (tb_in (i := 483) rfl (by decide +kernel))⟩
set_option maxRecDepth 20000 in
theorem ff_M_112_6 : xw_ff R_M 112 6 43 (.array .long) := ⟨R_M, F_M, 45, t_M, rfl, by decide, in_M, rfl, (tb_in (i := 483) rfl (by decide +kernel)), t_M_ok, n_M, rfl, by decide +kernel⟩
set_option maxRecDepth 20000 in
theorem fl_M_115_6 : xw_fl R_M 115 6 44 := ⟨R_M, F_M, 45, "CyclePatternsModel", rfl, by decide, in_M, Or.inl rfl, Or.inl (tb_in (i := 484) rfl (by decide +kernel))⟩
set_option maxRecDepth 20000 in
theorem ff_M_115_6 : xw_ff R_M 115 6 44 (.array .long) := ⟨R_M, F_M, 45, t_M, rfl, by decide, in_M, rfl, (tb_in (i := 484) rfl (by decide +kernel)), t_M_ok, n_M, rfl, by decide +kernel⟩
set_option maxRecDepth 20000 in
theorem fl_X_60_2 : xw_fl R_X 60 2 1 := ⟨R_Rd, F_Rd, 4, "CyclePatterns$Reader", rfl, by decide, in_Rd, Or.inl rfl, Or.inr ⟨"CyclePatterns", List.mem_of_getElem? (i := 0) rfl⟩⟩
set_option maxRecDepth 20000 in
theorem fp_X_60_2 : xw_fp R_X 60 2 1 (.int) := ⟨R_Rd, F_Rd, 4, "CyclePatterns$Reader", t_Rd, rfl, by decide, in_Rd, Or.inl rfl, Or.inr ⟨"CyclePatterns", List.mem_of_getElem? (i := 0) rfl⟩, t_Rd_ok, n_Rd, rfl, by decide +kernel⟩
set_option maxRecDepth 20000 in
theorem fl_X_77_2 : xw_fl R_X 77 2 2 := ⟨R_Rd, F_Rd, 4, "CyclePatterns$Reader", rfl, by decide, in_Rd, Or.inl rfl, Or.inr ⟨"CyclePatterns", List.mem_of_getElem? (i := 1) rfl⟩⟩
set_option maxRecDepth 20000 in
theorem fp_X_77_2 : xw_fp R_X 77 2 2 (.int) := ⟨R_Rd, F_Rd, 4, "CyclePatterns$Reader", t_Rd, rfl, by decide, in_Rd, Or.inl rfl, Or.inr ⟨"CyclePatterns", List.mem_of_getElem? (i := 1) rfl⟩, t_Rd_ok, n_Rd, rfl, by decide +kernel⟩
set_option maxRecDepth 20000 in
theorem fl_X_80_2 : xw_fl R_X 80 2 3 := ⟨R_Rd, F_Rd, 4, "CyclePatterns$Reader", rfl, by decide, in_Rd, Or.inl rfl, Or.inr ⟨"CyclePatterns", List.mem_of_getElem? (i := 2) rfl⟩⟩
set_option maxRecDepth 20000 in
theorem fp_X_80_2 : xw_fp R_X 80 2 3 (.int) := ⟨R_Rd, F_Rd, 4, "CyclePatterns$Reader", t_Rd, rfl, by decide, in_Rd, Or.inl rfl, Or.inr ⟨"CyclePatterns", List.mem_of_getElem? (i := 2) rfl⟩, t_Rd_ok, n_Rd, rfl, by decide +kernel⟩
set_option maxRecDepth 20000 in
theorem fl_Wk_26_1 : xw_fl R_Wk 26 1 0 := ⟨R_N, F_N, 7, "CyclePatterns$Node", rfl, by decide, in_N, Or.inl rfl, Or.inr ⟨"CyclePatterns", List.mem_of_getElem? (i := 3) rfl⟩⟩
set_option maxRecDepth 20000 in
theorem fl_Rd_76_1 : xw_fl R_Rd 76 1 0 := ⟨R_N, F_N, 7, "CyclePatterns$Node", rfl, by decide, in_N, Or.inl rfl, Or.inr ⟨"CyclePatterns", List.mem_of_getElem? (i := 4) rfl⟩⟩
set_option maxRecDepth 20000 in
theorem fl_Rd_63_1 : xw_fl R_Rd 63 1 2 := ⟨R_N, F_N, 7, "CyclePatterns$Node", rfl, by decide, in_N, Or.inl rfl, Or.inr ⟨"CyclePatterns", List.mem_of_getElem? (i := 5) rfl⟩⟩
set_option maxRecDepth 20000 in
theorem fp_Rd_63_1 : xw_fp R_Rd 63 1 2 (.int) := ⟨R_N, F_N, 7, "CyclePatterns$Node", t_N, rfl, by decide, in_N, Or.inl rfl, Or.inr ⟨"CyclePatterns", List.mem_of_getElem? (i := 5) rfl⟩, t_N_ok, n_N, rfl, by decide +kernel⟩
set_option maxRecDepth 20000 in
theorem fl_Wk_34_1 : xw_fl R_Wk 34 1 3 := ⟨R_N, F_N, 7, "CyclePatterns$Node", rfl, by decide, in_N, Or.inl rfl, Or.inr ⟨"CyclePatterns", List.mem_of_getElem? (i := 6) rfl⟩⟩
set_option maxRecDepth 20000 in
theorem fp_Wk_34_1 : xw_fp R_Wk 34 1 3 (.int) := ⟨R_N, F_N, 7, "CyclePatterns$Node", t_N, rfl, by decide, in_N, Or.inl rfl, Or.inr ⟨"CyclePatterns", List.mem_of_getElem? (i := 6) rfl⟩, t_N_ok, n_N, rfl, by decide +kernel⟩
set_option maxRecDepth 20000 in
theorem fl_Rd_84_1 : xw_fl R_Rd 84 1 3 := ⟨R_N, F_N, 7, "CyclePatterns$Node", rfl, by decide, in_N, Or.inl rfl, Or.inr ⟨"CyclePatterns", List.mem_of_getElem? (i := 7) rfl⟩⟩
set_option maxRecDepth 20000 in
theorem fp_Rd_84_1 : xw_fp R_Rd 84 1 3 (.int) := ⟨R_N, F_N, 7, "CyclePatterns$Node", t_N, rfl, by decide, in_N, Or.inl rfl, Or.inr ⟨"CyclePatterns", List.mem_of_getElem? (i := 7) rfl⟩, t_N_ok, n_N, rfl, by decide +kernel⟩
set_option maxRecDepth 20000 in
theorem fl_Wk_42_1 : xw_fl R_Wk 42 1 4 := ⟨R_N, F_N, 7, "CyclePatterns$Node", rfl, by decide, in_N, Or.inl rfl, Or.inr ⟨"CyclePatterns", List.mem_of_getElem? (i := 8) rfl⟩⟩
set_option maxRecDepth 20000 in
theorem fp_Wk_42_1 : xw_fp R_Wk 42 1 4 (.int) := ⟨R_N, F_N, 7, "CyclePatterns$Node", t_N, rfl, by decide, in_N, Or.inl rfl, Or.inr ⟨"CyclePatterns", List.mem_of_getElem? (i := 8) rfl⟩, t_N_ok, n_N, rfl, by decide +kernel⟩
set_option maxRecDepth 20000 in
theorem fl_Rd_66_1 : xw_fl R_Rd 66 1 4 := ⟨R_N, F_N, 7, "CyclePatterns$Node", rfl, by decide, in_N, Or.inl rfl, Or.inr ⟨"CyclePatterns", List.mem_of_getElem? (i := 9) rfl⟩⟩
set_option maxRecDepth 20000 in
theorem fp_Rd_66_1 : xw_fp R_Rd 66 1 4 (.int) := ⟨R_N, F_N, 7, "CyclePatterns$Node", t_N, rfl, by decide, in_N, Or.inl rfl, Or.inr ⟨"CyclePatterns", List.mem_of_getElem? (i := 9) rfl⟩, t_N_ok, n_N, rfl, by decide +kernel⟩
set_option maxRecDepth 20000 in
theorem fl_Rd_103_1 : xw_fl R_Rd 103 1 5 := ⟨R_N, F_N, 7, "CyclePatterns$Node", rfl, by decide, in_N, Or.inl rfl, Or.inr ⟨"CyclePatterns", List.mem_of_getElem? (i := 10) rfl⟩⟩
set_option maxRecDepth 20000 in
theorem fp_Rd_103_1 : xw_fp R_Rd 103 1 5 (.int) := ⟨R_N, F_N, 7, "CyclePatterns$Node", t_N, rfl, by decide, in_N, Or.inl rfl, Or.inr ⟨"CyclePatterns", List.mem_of_getElem? (i := 10) rfl⟩, t_N_ok, n_N, rfl, by decide +kernel⟩
set_option maxRecDepth 20000 in
theorem fl_X_95_3 : xw_fl R_X 95 3 3 := ⟨R_Rw, F_Rw, 5, "CyclePatterns$Rows", rfl, by decide, in_Rw, Or.inl rfl, Or.inr ⟨"CyclePatterns", List.mem_of_getElem? (i := 11) rfl⟩⟩
set_option maxRecDepth 20000 in
theorem fp_X_95_3 : xw_fp R_X 95 3 3 (.int) := ⟨R_Rw, F_Rw, 5, "CyclePatterns$Rows", t_Rw, rfl, by decide, in_Rw, Or.inl rfl, Or.inr ⟨"CyclePatterns", List.mem_of_getElem? (i := 11) rfl⟩, t_Rw_ok, n_Rw, rfl, by decide +kernel⟩
set_option maxRecDepth 20000 in
theorem fl_Pa_25_3 : xw_fl R_Pa 25 3 4 := ⟨R_Rw, F_Rw, 5, "CyclePatterns$Rows", rfl, by decide, in_Rw, Or.inl rfl, Or.inr ⟨"CyclePatterns", List.mem_of_getElem? (i := 12) rfl⟩⟩
set_option maxRecDepth 20000 in
theorem fp_Pa_25_3 : xw_fp R_Pa 25 3 4 (.boolean) := ⟨R_Rw, F_Rw, 5, "CyclePatterns$Rows", t_Rw, rfl, by decide, in_Rw, Or.inl rfl, Or.inr ⟨"CyclePatterns", List.mem_of_getElem? (i := 12) rfl⟩, t_Rw_ok, n_Rw, rfl, by decide +kernel⟩
set_option maxRecDepth 20000 in
theorem fl_Wk_45_3 : xw_fl R_Wk 45 3 4 := ⟨R_Rw, F_Rw, 5, "CyclePatterns$Rows", rfl, by decide, in_Rw, Or.inl rfl, Or.inr ⟨"CyclePatterns", List.mem_of_getElem? (i := 13) rfl⟩⟩
set_option maxRecDepth 20000 in
theorem fp_Wk_45_3 : xw_fp R_Wk 45 3 4 (.boolean) := ⟨R_Rw, F_Rw, 5, "CyclePatterns$Rows", t_Rw, rfl, by decide, in_Rw, Or.inl rfl, Or.inr ⟨"CyclePatterns", List.mem_of_getElem? (i := 13) rfl⟩, t_Rw_ok, n_Rw, rfl, by decide +kernel⟩
set_option maxRecDepth 20000 in
theorem fl_X_126_3 : xw_fl R_X 126 3 4 := ⟨R_Rw, F_Rw, 5, "CyclePatterns$Rows", rfl, by decide, in_Rw, Or.inl rfl, Or.inr ⟨"CyclePatterns", List.mem_of_getElem? (i := 14) rfl⟩⟩
set_option maxRecDepth 20000 in
theorem fp_X_126_3 : xw_fp R_X 126 3 4 (.boolean) := ⟨R_Rw, F_Rw, 5, "CyclePatterns$Rows", t_Rw, rfl, by decide, in_Rw, Or.inl rfl, Or.inr ⟨"CyclePatterns", List.mem_of_getElem? (i := 14) rfl⟩, t_Rw_ok, n_Rw, rfl, by decide +kernel⟩
set_option maxRecDepth 20000 in
theorem fl_X_143_5 : xw_fl R_X 143 5 1 := ⟨R_On, F_On, 3, "CyclePatterns$Onsets", rfl, by decide, in_On, Or.inl rfl, Or.inr ⟨"CyclePatterns", List.mem_of_getElem? (i := 15) rfl⟩⟩
set_option maxRecDepth 20000 in
theorem fp_X_143_5 : xw_fp R_X 143 5 1 (.int) := ⟨R_On, F_On, 3, "CyclePatterns$Onsets", t_On, rfl, by decide, in_On, Or.inl rfl, Or.inr ⟨"CyclePatterns", List.mem_of_getElem? (i := 15) rfl⟩, t_On_ok, n_On, rfl, by decide +kernel⟩
set_option maxRecDepth 20000 in
theorem fl_X_146_5 : xw_fl R_X 146 5 2 := ⟨R_On, F_On, 3, "CyclePatterns$Onsets", rfl, by decide, in_On, Or.inl rfl, Or.inr ⟨"CyclePatterns", List.mem_of_getElem? (i := 16) rfl⟩⟩
set_option maxRecDepth 20000 in
theorem fp_X_146_5 : xw_fp R_X 146 5 2 (.long) := ⟨R_On, F_On, 3, "CyclePatterns$Onsets", t_On, rfl, by decide, in_On, Or.inl rfl, Or.inr ⟨"CyclePatterns", List.mem_of_getElem? (i := 16) rfl⟩, t_On_ok, n_On, rfl, by decide +kernel⟩
set_option maxRecDepth 20000 in
theorem lk_L_9 : xw_lk R_L 9 y_X_init := Or.inl (tb_in (i := 13) rfl (by decide +kernel))
set_option maxRecDepth 20000 in
theorem lk_L_9' : Cond.methodLink R_L 9 y_X_init ∈ WS := (tb_in (i := 13) rfl (by decide +kernel))
set_option maxRecDepth 20000 in
theorem lk_X_1' : Cond.methodLink R_X 1 ⟨"java/lang/Object", "<init>", "()V"⟩ ∈ WS := (tb_in (i := 16) rfl (by decide +kernel))
set_option maxRecDepth 20000 in
theorem lk_Rd_3' : Cond.methodLink R_Rd 3 ⟨"java/lang/Object", "<init>", "()V"⟩ ∈ WS := (tb_in (i := 24) rfl (by decide +kernel))
set_option maxRecDepth 20000 in
theorem lk_X_26 : xw_lk R_X 26 y_N_init := Or.inl (tb_in (i := 45) rfl (by decide +kernel))
set_option maxRecDepth 20000 in
theorem lk_X_26' : Cond.methodLink R_X 26 y_N_init ∈ WS := (tb_in (i := 45) rfl (by decide +kernel))
set_option maxRecDepth 20000 in
theorem lk_N_1' : Cond.methodLink R_N 1 ⟨"java/lang/Object", "<init>", "()V"⟩ ∈ WS := (tb_in (i := 48) rfl (by decide +kernel))
set_option maxRecDepth 20000 in
theorem lk_N_24 : xw_lk R_N 24 y_N_isLetter := Or.inl (tb_in (i := 50) rfl (by decide +kernel))
set_option maxRecDepth 20000 in
theorem lk_N_24' : Cond.methodLink R_N 24 y_N_isLetter ∈ WS := (tb_in (i := 50) rfl (by decide +kernel))
set_option maxRecDepth 20000 in
theorem lk_X_31 : xw_lk R_X 31 y_Pa_init := Or.inl (tb_in (i := 86) rfl (by decide +kernel))
set_option maxRecDepth 20000 in
theorem lk_X_31' : Cond.methodLink R_X 31 y_Pa_init ∈ WS := (tb_in (i := 86) rfl (by decide +kernel))
set_option maxRecDepth 20000 in
theorem lk_Pa_3 : xw_lk R_Pa 3 y_Wk_init := Or.inl (tb_in (i := 89) rfl (by decide +kernel))
set_option maxRecDepth 20000 in
theorem lk_Pa_3' : Cond.methodLink R_Pa 3 y_Wk_init ∈ WS := (tb_in (i := 89) rfl (by decide +kernel))
set_option maxRecDepth 20000 in
theorem lk_Wk_1' : Cond.methodLink R_Wk 1 ⟨"java/lang/Object", "<init>", "()V"⟩ ∈ WS := (tb_in (i := 92) rfl (by decide +kernel))
set_option maxRecDepth 20000 in
theorem lk_Wk_9 : xw_lk R_Wk 9 y_Rw_init := Or.inl (tb_in (i := 95) rfl (by decide +kernel))
set_option maxRecDepth 20000 in
theorem lk_Wk_9' : Cond.methodLink R_Wk 9 y_Rw_init ∈ WS := (tb_in (i := 95) rfl (by decide +kernel))
set_option maxRecDepth 20000 in
theorem lk_Rw_1' : Cond.methodLink R_Rw 1 ⟨"java/lang/Object", "<init>", "()V"⟩ ∈ WS := (tb_in (i := 98) rfl (by decide +kernel))
set_option maxRecDepth 20000 in
theorem lk_X_48 : xw_lk R_X 48 y_On_init := Or.inl (tb_in (i := 132) rfl (by decide +kernel))
set_option maxRecDepth 20000 in
theorem lk_X_48' : Cond.methodLink R_X 48 y_On_init ∈ WS := (tb_in (i := 132) rfl (by decide +kernel))
set_option maxRecDepth 20000 in
theorem lk_On_3 : xw_lk R_On 3 y_Wk_init := Or.inl (tb_in (i := 135) rfl (by decide +kernel))
set_option maxRecDepth 20000 in
theorem lk_On_3' : Cond.methodLink R_On 3 y_Wk_init ∈ WS := (tb_in (i := 135) rfl (by decide +kernel))
set_option maxRecDepth 20000 in
theorem lk_L_15 : xw_lk R_L 15 y_X_type := Or.inl (tb_in (i := 183) rfl (by decide +kernel))
set_option maxRecDepth 20000 in
theorem lk_L_15' : Cond.methodLink R_L 15 y_X_type ∈ WS := (tb_in (i := 183) rfl (by decide +kernel))
set_option maxRecDepth 20000 in
theorem lk_X_53 : xw_lk R_X 53 y_Rd_areTypeable := Or.inl (tb_in (i := 187) rfl (by decide +kernel))
set_option maxRecDepth 20000 in
theorem lk_X_53' : Cond.methodLink R_X 53 y_Rd_areTypeable ∈ WS := (tb_in (i := 187) rfl (by decide +kernel))
set_option maxRecDepth 20000 in
theorem lk_Rd_15 : xw_lk R_Rd 15 y_Rd_signAt := Or.inl (tb_in (i := 190) rfl (by decide +kernel))
set_option maxRecDepth 20000 in
theorem lk_Rd_15' : Cond.methodLink R_Rd 15 y_Rd_signAt ∈ WS := (tb_in (i := 190) rfl (by decide +kernel))
set_option maxRecDepth 20000 in
theorem lk_X_57 : xw_lk R_X 57 y_Rd_append := Or.inl (tb_in (i := 194) rfl (by decide +kernel))
set_option maxRecDepth 20000 in
theorem lk_X_57' : Cond.methodLink R_X 57 y_Rd_append ∈ WS := (tb_in (i := 194) rfl (by decide +kernel))
set_option maxRecDepth 20000 in
theorem lk_L_20 : xw_lk R_L 20 y_X_define := Or.inl (tb_in (i := 198) rfl (by decide +kernel))
set_option maxRecDepth 20000 in
theorem lk_L_20' : Cond.methodLink R_L 20 y_X_define ∈ WS := (tb_in (i := 198) rfl (by decide +kernel))
set_option maxRecDepth 20000 in
theorem lk_X_63 : xw_lk R_X 63 y_X_isSlot := Or.inl (tb_in (i := 202) rfl (by decide +kernel))
set_option maxRecDepth 20000 in
theorem lk_X_63' : Cond.methodLink R_X 63 y_X_isSlot ∈ WS := (tb_in (i := 202) rfl (by decide +kernel))
set_option maxRecDepth 20000 in
theorem lk_X_67 : xw_lk R_X 67 y_X_stopPlaying := Or.inl (tb_in (i := 205) rfl (by decide +kernel))
set_option maxRecDepth 20000 in
theorem lk_X_67' : Cond.methodLink R_X 67 y_X_stopPlaying ∈ WS := (tb_in (i := 205) rfl (by decide +kernel))
set_option maxRecDepth 20000 in
theorem lk_X_121 : xw_lk R_X 121 y_Rw_clear := Or.inl (tb_in (i := 209) rfl (by decide +kernel))
set_option maxRecDepth 20000 in
theorem lk_X_121' : Cond.methodLink R_X 121 y_Rw_clear ∈ WS := (tb_in (i := 209) rfl (by decide +kernel))
set_option maxRecDepth 20000 in
theorem lk_X_70 : xw_lk R_X 70 y_Rd_read := Or.inl (tb_in (i := 213) rfl (by decide +kernel))
set_option maxRecDepth 20000 in
theorem lk_X_70' : Cond.methodLink R_X 70 y_Rd_read ∈ WS := (tb_in (i := 213) rfl (by decide +kernel))
set_option maxRecDepth 20000 in
theorem lk_Rd_31 : xw_lk R_Rd 31 y_Rd_readPattern := Or.inl (tb_in (i := 217) rfl (by decide +kernel))
set_option maxRecDepth 20000 in
theorem lk_Rd_31' : Cond.methodLink R_Rd 31 y_Rd_readPattern ∈ WS := (tb_in (i := 217) rfl (by decide +kernel))
set_option maxRecDepth 20000 in
theorem lk_Rd_35 : xw_lk R_Rd 35 y_Rd_readGroup := Or.inl (tb_in (i := 221) rfl (by decide +kernel))
set_option maxRecDepth 20000 in
theorem lk_Rd_35' : Cond.methodLink R_Rd 35 y_Rd_readGroup ∈ WS := (tb_in (i := 221) rfl (by decide +kernel))
set_option maxRecDepth 20000 in
theorem lk_Rd_53 : xw_lk R_Rd 53 y_N_init := Or.inl (tb_in (i := 226) rfl (by decide +kernel))
set_option maxRecDepth 20000 in
theorem lk_Rd_53' : Cond.methodLink R_Rd 53 y_N_init ∈ WS := (tb_in (i := 226) rfl (by decide +kernel))
set_option maxRecDepth 20000 in
theorem lk_Rd_56 : xw_lk R_Rd 56 y_Rd_isAt := Or.inl (tb_in (i := 227) rfl (by decide +kernel))
set_option maxRecDepth 20000 in
theorem lk_Rd_56' : Cond.methodLink R_Rd 56 y_Rd_isAt ∈ WS := (tb_in (i := 227) rfl (by decide +kernel))
set_option maxRecDepth 20000 in
theorem lk_Rd_59 : xw_lk R_Rd 59 y_N_add := Or.inl (tb_in (i := 231) rfl (by decide +kernel))
set_option maxRecDepth 20000 in
theorem lk_Rd_59' : Cond.methodLink R_Rd 59 y_N_add ∈ WS := (tb_in (i := 231) rfl (by decide +kernel))
set_option maxRecDepth 20000 in
theorem lk_N_35 : xw_lk R_N 35 y_N_canSound := Or.inl (tb_in (i := 235) rfl (by decide +kernel))
set_option maxRecDepth 20000 in
theorem lk_N_35' : Cond.methodLink R_N 35 y_N_canSound ∈ WS := (tb_in (i := 235) rfl (by decide +kernel))
set_option maxRecDepth 20000 in
theorem lk_Rd_69 : xw_lk R_Rd 69 y_Rd_refineGrain := Or.inl (tb_in (i := 239) rfl (by decide +kernel))
set_option maxRecDepth 20000 in
theorem lk_Rd_69' : Cond.methodLink R_Rd 69 y_Rd_refineGrain ∈ WS := (tb_in (i := 239) rfl (by decide +kernel))
set_option maxRecDepth 20000 in
theorem lk_Rd_39 : xw_lk R_Rd 39 y_Rd_readOperator := Or.inl (tb_in (i := 243) rfl (by decide +kernel))
set_option maxRecDepth 20000 in
theorem lk_Rd_39' : Cond.methodLink R_Rd 39 y_Rd_readOperator ∈ WS := (tb_in (i := 243) rfl (by decide +kernel))
set_option maxRecDepth 20000 in
theorem lk_Rd_73 : xw_lk R_Rd 73 y_Rd_readDigits := Or.inl (tb_in (i := 247) rfl (by decide +kernel))
set_option maxRecDepth 20000 in
theorem lk_Rd_73' : Cond.methodLink R_Rd 73 y_Rd_readDigits ∈ WS := (tb_in (i := 247) rfl (by decide +kernel))
set_option maxRecDepth 20000 in
theorem lk_Rd_80 : xw_lk R_Rd 80 y_Rd_readK := Or.inl (tb_in (i := 251) rfl (by decide +kernel))
set_option maxRecDepth 20000 in
theorem lk_Rd_80' : Cond.methodLink R_Rd 80 y_Rd_readK ∈ WS := (tb_in (i := 251) rfl (by decide +kernel))
set_option maxRecDepth 20000 in
theorem lk_Rd_99 : xw_lk R_Rd 99 y_Rd_readDigit := Or.inl (tb_in (i := 255) rfl (by decide +kernel))
set_option maxRecDepth 20000 in
theorem lk_Rd_99' : Cond.methodLink R_Rd 99 y_Rd_readDigit ∈ WS := (tb_in (i := 255) rfl (by decide +kernel))
set_option maxRecDepth 20000 in
theorem lk_Rd_87 : xw_lk R_Rd 87 y_Rd_readN := Or.inl (tb_in (i := 259) rfl (by decide +kernel))
set_option maxRecDepth 20000 in
theorem lk_Rd_87' : Cond.methodLink R_Rd 87 y_Rd_readN ∈ WS := (tb_in (i := 259) rfl (by decide +kernel))
set_option maxRecDepth 20000 in
theorem lk_Rd_90' : Cond.methodLink R_Rd 90 ⟨"java/lang/Math", "max", "(II)I"⟩ ∈ WS := (tb_in (i := 263) rfl (by decide +kernel))
set_option maxRecDepth 20000 in
theorem lk_Rd_96 : xw_lk R_Rd 96 y_Rd_readR := Or.inl (tb_in (i := 266) rfl (by decide +kernel))
set_option maxRecDepth 20000 in
theorem lk_Rd_96' : Cond.methodLink R_Rd 96 y_Rd_readR ∈ WS := (tb_in (i := 266) rfl (by decide +kernel))
set_option maxRecDepth 20000 in
theorem lk_Rd_43 : xw_lk R_Rd 43 y_Rd_readLetterOrRest := Or.inl (tb_in (i := 270) rfl (by decide +kernel))
set_option maxRecDepth 20000 in
theorem lk_Rd_43' : Cond.methodLink R_Rd 43 y_Rd_readLetterOrRest ∈ WS := (tb_in (i := 270) rfl (by decide +kernel))
set_option maxRecDepth 20000 in
theorem lk_Rd_47 : xw_lk R_Rd 47 y_N_isLetter := Or.inl (tb_in (i := 274) rfl (by decide +kernel))
set_option maxRecDepth 20000 in
theorem lk_Rd_47' : Cond.methodLink R_Rd 47 y_N_isLetter ∈ WS := (tb_in (i := 274) rfl (by decide +kernel))
set_option maxRecDepth 20000 in
theorem lk_X_74 : xw_lk R_X 74 y_Rd_clear := Or.inl (tb_in (i := 275) rfl (by decide +kernel))
set_option maxRecDepth 20000 in
theorem lk_X_74' : Cond.methodLink R_X 74 y_Rd_clear ∈ WS := (tb_in (i := 275) rfl (by decide +kernel))
set_option maxRecDepth 20000 in
theorem lk_L_25 : xw_lk R_L 25 y_X_query := Or.inl (tb_in (i := 279) rfl (by decide +kernel))
set_option maxRecDepth 20000 in
theorem lk_L_25' : Cond.methodLink R_L 25 y_X_query ∈ WS := (tb_in (i := 279) rfl (by decide +kernel))
set_option maxRecDepth 20000 in
theorem lk_X_83 : xw_lk R_X 83 y_X_isSpan := Or.inl (tb_in (i := 283) rfl (by decide +kernel))
set_option maxRecDepth 20000 in
theorem lk_X_83' : Cond.methodLink R_X 83 y_X_isSpan ∈ WS := (tb_in (i := 283) rfl (by decide +kernel))
set_option maxRecDepth 20000 in
theorem lk_X_87 : xw_lk R_X 87 y_Pa_gather := Or.inl (tb_in (i := 286) rfl (by decide +kernel))
set_option maxRecDepth 20000 in
theorem lk_X_87' : Cond.methodLink R_X 87 y_Pa_gather ∈ WS := (tb_in (i := 286) rfl (by decide +kernel))
set_option maxRecDepth 20000 in
theorem lk_Pa_15 : xw_lk R_Pa 15 y_Rw_clear := Or.inl (tb_in (i := 290) rfl (by decide +kernel))
set_option maxRecDepth 20000 in
theorem lk_Pa_15' : Cond.methodLink R_Pa 15 y_Rw_clear ∈ WS := (tb_in (i := 290) rfl (by decide +kernel))
set_option maxRecDepth 20000 in
theorem lk_Pa_21' : Cond.methodLink R_Pa 21 ⟨"CyclePatterns$Parts", "walk", "(LCyclePatterns$Node;JJJJI)V"⟩ ∈ WS := (tb_in (i := 291) rfl (by decide +kernel))
set_option maxRecDepth 20000 in
theorem lk_Wk_18 : xw_lk R_Wk 18 y_N_canSound := Or.inl (tb_in (i := 297) rfl (by decide +kernel))
set_option maxRecDepth 20000 in
theorem lk_Wk_18' : Cond.methodLink R_Wk 18 y_N_canSound ∈ WS := (tb_in (i := 297) rfl (by decide +kernel))
set_option maxRecDepth 20000 in
theorem lk_Wk_30 : xw_lk R_Wk 30 y_N_innerAt := Or.inl (tb_in (i := 298) rfl (by decide +kernel))
set_option maxRecDepth 20000 in
theorem lk_Wk_30' : Cond.methodLink R_Wk 30 y_N_innerAt ∈ WS := (tb_in (i := 298) rfl (by decide +kernel))
set_option maxRecDepth 20000 in
theorem lk_Wk_38 : xw_lk R_Wk 38 y_Wk_walk := Or.inl (tb_in (i := 302) rfl (by decide +kernel))
set_option maxRecDepth 20000 in
theorem lk_Wk_38' : Cond.methodLink R_Wk 38 y_Wk_walk ∈ WS := (tb_in (i := 302) rfl (by decide +kernel))
set_option maxRecDepth 20000 in
theorem lk_Wk_49 : xw_lk R_Wk 49 y_Wk_walkCycles := Or.inl (tb_in (i := 303) rfl (by decide +kernel))
set_option maxRecDepth 20000 in
theorem lk_Wk_49' : Cond.methodLink R_Wk 49 y_Wk_walkCycles ∈ WS := (tb_in (i := 303) rfl (by decide +kernel))
set_option maxRecDepth 20000 in
theorem lk_Wk_52' : Cond.methodLink R_Wk 52 ⟨"java/lang/Math", "abs", "(J)J"⟩ ∈ WS := (tb_in (i := 307) rfl (by decide +kernel))
set_option maxRecDepth 20000 in
theorem lk_Wk_58 : xw_lk R_Wk 58 y_Jm_floorDiv := Or.inl (tb_in (i := 310) rfl (by decide +kernel))
set_option maxRecDepth 20000 in
theorem lk_Wk_58' : Cond.methodLink R_Wk 58 y_Jm_floorDiv ∈ WS := (tb_in (i := 310) rfl (by decide +kernel))
set_option maxRecDepth 20000 in
theorem lk_Wk_62 : xw_lk R_Wk 62 y_Wk_walkCycle := Or.inl (tb_in (i := 313) rfl (by decide +kernel))
set_option maxRecDepth 20000 in
theorem lk_Wk_62' : Cond.methodLink R_Wk 62 y_Wk_walkCycle ∈ WS := (tb_in (i := 313) rfl (by decide +kernel))
set_option maxRecDepth 20000 in
theorem lk_Wk_66 : xw_lk R_Wk 66 y_Wk_walkSteps := Or.inl (tb_in (i := 317) rfl (by decide +kernel))
set_option maxRecDepth 20000 in
theorem lk_Wk_66' : Cond.methodLink R_Wk 66 y_Wk_walkSteps ∈ WS := (tb_in (i := 317) rfl (by decide +kernel))
set_option maxRecDepth 20000 in
theorem lk_Wk_89 : xw_lk R_Wk 89 y_N_inStep := Or.inl (tb_in (i := 321) rfl (by decide +kernel))
set_option maxRecDepth 20000 in
theorem lk_Wk_89' : Cond.methodLink R_Wk 89 y_N_inStep ∈ WS := (tb_in (i := 321) rfl (by decide +kernel))
set_option maxRecDepth 20000 in
theorem lk_N_39 : xw_lk R_N 39 y_N_innerAt := Or.inl (tb_in (i := 325) rfl (by decide +kernel))
set_option maxRecDepth 20000 in
theorem lk_N_39' : Cond.methodLink R_N 39 y_N_innerAt ∈ WS := (tb_in (i := 325) rfl (by decide +kernel))
set_option maxRecDepth 20000 in
theorem lk_Wk_72 : xw_lk R_Wk 72 y_Wk_walkInto := Or.inl (tb_in (i := 326) rfl (by decide +kernel))
set_option maxRecDepth 20000 in
theorem lk_Wk_72' : Cond.methodLink R_Wk 72 y_Wk_walkInto ∈ WS := (tb_in (i := 326) rfl (by decide +kernel))
set_option maxRecDepth 20000 in
theorem lk_Wk_78 : xw_lk R_Wk 78 y_Wk_begin := Or.inl (tb_in (i := 330) rfl (by decide +kernel))
set_option maxRecDepth 20000 in
theorem lk_Wk_78' : Cond.methodLink R_Wk 78 y_Wk_begin ∈ WS := (tb_in (i := 330) rfl (by decide +kernel))
set_option maxRecDepth 20000 in
theorem lk_Wk_92' : Cond.methodLink R_Wk 92 ⟨"java/lang/Math", "max", "(JJ)J"⟩ ∈ WS := (tb_in (i := 333) rfl (by decide +kernel))
set_option maxRecDepth 20000 in
theorem lk_Wk_82 : xw_lk R_Wk 82 y_Wk_end := Or.inl (tb_in (i := 336) rfl (by decide +kernel))
set_option maxRecDepth 20000 in
theorem lk_Wk_82' : Cond.methodLink R_Wk 82 y_Wk_end ∈ WS := (tb_in (i := 336) rfl (by decide +kernel))
set_option maxRecDepth 20000 in
theorem lk_Wk_95' : Cond.methodLink R_Wk 95 ⟨"java/lang/Math", "min", "(JJ)J"⟩ ∈ WS := (tb_in (i := 339) rfl (by decide +kernel))
set_option maxRecDepth 20000 in
theorem lk_Wk_69 : xw_lk R_Wk 69 y_Jm_floorMod := Or.inl (tb_in (i := 342) rfl (by decide +kernel))
set_option maxRecDepth 20000 in
theorem lk_Wk_69' : Cond.methodLink R_Wk 69 y_Jm_floorMod ∈ WS := (tb_in (i := 342) rfl (by decide +kernel))
set_option maxRecDepth 20000 in
theorem lk_Wk_85' : Cond.methodLink R_Wk 85 ⟨"CyclePatterns$Walk", "hear", "(CJJJJ)V"⟩ ∈ WS := (tb_in (i := 346) rfl (by decide +kernel))
set_option maxRecDepth 20000 in
theorem lk_On_19 : xw_lk R_On 19 y_Jm_floorDiv := Or.inl (tb_in (i := 352) rfl (by decide +kernel))
set_option maxRecDepth 20000 in
theorem lk_On_19' : Cond.methodLink R_On 19 y_Jm_floorDiv ∈ WS := (tb_in (i := 352) rfl (by decide +kernel))
set_option maxRecDepth 20000 in
theorem lk_On_29 : xw_lk R_On 29 y_Rw_add := Or.inl (tb_in (i := 353) rfl (by decide +kernel))
set_option maxRecDepth 20000 in
theorem lk_On_29' : Cond.methodLink R_On 29 y_Rw_add ∈ WS := (tb_in (i := 353) rfl (by decide +kernel))
set_option maxRecDepth 20000 in
theorem lk_Rw_32 : xw_lk R_Rw 32 y_Rw_isNewestBefore := Or.inl (tb_in (i := 357) rfl (by decide +kernel))
set_option maxRecDepth 20000 in
theorem lk_Rw_32' : Cond.methodLink R_Rw 32 y_Rw_isNewestBefore ∈ WS := (tb_in (i := 357) rfl (by decide +kernel))
set_option maxRecDepth 20000 in
theorem lk_Rw_35' : Cond.methodLink R_Rw 35 ⟨"java/lang/System", "arraycopy", "(Ljava/lang/Object;ILjava/lang/Object;II)V"⟩ ∈ WS := (tb_in (i := 361) rfl (by decide +kernel))
set_option maxRecDepth 20000 in
theorem lk_Pa_29' : Cond.methodLink R_Pa 29 ⟨"java/lang/Math", "max", "(JJ)J"⟩ ∈ WS := (tb_in (i := 367) rfl (by decide +kernel))
set_option maxRecDepth 20000 in
theorem lk_Pa_35' : Cond.methodLink R_Pa 35 ⟨"java/lang/Math", "min", "(JJ)J"⟩ ∈ WS := (tb_in (i := 368) rfl (by decide +kernel))
set_option maxRecDepth 20000 in
theorem lk_Pa_38 : xw_lk R_Pa 38 y_Rw_add := Or.inl (tb_in (i := 369) rfl (by decide +kernel))
set_option maxRecDepth 20000 in
theorem lk_Pa_38' : Cond.methodLink R_Pa 38 y_Rw_add ∈ WS := (tb_in (i := 369) rfl (by decide +kernel))
set_option maxRecDepth 20000 in
theorem lk_L_30 : xw_lk R_L 30 y_X_unit := Or.inl (tb_in (i := 370) rfl (by decide +kernel))
set_option maxRecDepth 20000 in
theorem lk_L_30' : Cond.methodLink R_L 30 y_X_unit ∈ WS := (tb_in (i := 370) rfl (by decide +kernel))
set_option maxRecDepth 20000 in
theorem lk_L_35 : xw_lk R_L 35 y_X_part := Or.inl (tb_in (i := 374) rfl (by decide +kernel))
set_option maxRecDepth 20000 in
theorem lk_L_35' : Cond.methodLink R_L 35 y_X_part ∈ WS := (tb_in (i := 374) rfl (by decide +kernel))
set_option maxRecDepth 20000 in
theorem lk_X_100 : xw_lk R_X 100 y_Rw_has := Or.inl (tb_in (i := 378) rfl (by decide +kernel))
set_option maxRecDepth 20000 in
theorem lk_X_100' : Cond.methodLink R_X 100 y_Rw_has ∈ WS := (tb_in (i := 378) rfl (by decide +kernel))
set_option maxRecDepth 20000 in
theorem lk_X_103 : xw_lk R_X 103 y_Rw_value := Or.inl (tb_in (i := 382) rfl (by decide +kernel))
set_option maxRecDepth 20000 in
theorem lk_X_103' : Cond.methodLink R_X 103 y_Rw_value ∈ WS := (tb_in (i := 382) rfl (by decide +kernel))
set_option maxRecDepth 20000 in
theorem lk_Rw_28 : xw_lk R_Rw 28 y_Rw_has := Or.inl (tb_in (i := 386) rfl (by decide +kernel))
set_option maxRecDepth 20000 in
theorem lk_Rw_28' : Cond.methodLink R_Rw 28 y_Rw_has ∈ WS := (tb_in (i := 386) rfl (by decide +kernel))
set_option maxRecDepth 20000 in
theorem lk_L_40 : xw_lk R_L 40 y_X_onsets := Or.inl (tb_in (i := 387) rfl (by decide +kernel))
set_option maxRecDepth 20000 in
theorem lk_L_40' : Cond.methodLink R_L 40 y_X_onsets ∈ WS := (tb_in (i := 387) rfl (by decide +kernel))
set_option maxRecDepth 20000 in
theorem lk_L_44 : xw_lk R_L 44 y_X_differ := Or.inl (tb_in (i := 391) rfl (by decide +kernel))
set_option maxRecDepth 20000 in
theorem lk_L_44' : Cond.methodLink R_L 44 y_X_differ ∈ WS := (tb_in (i := 391) rfl (by decide +kernel))
set_option maxRecDepth 20000 in
theorem lk_X_107 : xw_lk R_X 107 y_Rw_sameAs := Or.inl (tb_in (i := 395) rfl (by decide +kernel))
set_option maxRecDepth 20000 in
theorem lk_X_107' : Cond.methodLink R_X 107 y_Rw_sameAs ∈ WS := (tb_in (i := 395) rfl (by decide +kernel))
set_option maxRecDepth 20000 in
theorem lk_Rw_41 : xw_lk R_Rw 41 y_Rw_value := Or.inl (tb_in (i := 399) rfl (by decide +kernel))
set_option maxRecDepth 20000 in
theorem lk_Rw_41' : Cond.methodLink R_Rw 41 y_Rw_value ∈ WS := (tb_in (i := 399) rfl (by decide +kernel))
set_option maxRecDepth 20000 in
theorem lk_L_48 : xw_lk R_L 48 y_X_play := Or.inl (tb_in (i := 400) rfl (by decide +kernel))
set_option maxRecDepth 20000 in
theorem lk_L_48' : Cond.methodLink R_L 48 y_X_play ∈ WS := (tb_in (i := 400) rfl (by decide +kernel))
set_option maxRecDepth 20000 in
theorem lk_L_53 : xw_lk R_L 53 y_X_advance := Or.inl (tb_in (i := 404) rfl (by decide +kernel))
set_option maxRecDepth 20000 in
theorem lk_L_53' : Cond.methodLink R_L 53 y_X_advance ∈ WS := (tb_in (i := 404) rfl (by decide +kernel))
set_option maxRecDepth 20000 in
theorem lk_X_122 : xw_lk R_X 122 y_X_gatherOnsets := Or.inl (tb_in (i := 408) rfl (by decide +kernel))
set_option maxRecDepth 20000 in
theorem lk_X_122' : Cond.methodLink R_X 122 y_X_gatherOnsets ∈ WS := (tb_in (i := 408) rfl (by decide +kernel))
set_option maxRecDepth 20000 in
theorem lk_X_138 : xw_lk R_X 138 y_X_tickLength := Or.inl (tb_in (i := 412) rfl (by decide +kernel))
set_option maxRecDepth 20000 in
theorem lk_X_138' : Cond.methodLink R_X 138 y_X_tickLength ∈ WS := (tb_in (i := 412) rfl (by decide +kernel))
set_option maxRecDepth 20000 in
theorem lk_X_148' : Cond.methodLink R_X 148 ⟨"CyclePatterns$Onsets", "walk", "(LCyclePatterns$Node;JJJJI)V"⟩ ∈ WS := (tb_in (i := 417) rfl (by decide +kernel))
set_option maxRecDepth 20000 in
theorem lk_L_57 : xw_lk R_L 57 y_X_due := Or.inl (tb_in (i := 420) rfl (by decide +kernel))
set_option maxRecDepth 20000 in
theorem lk_L_57' : Cond.methodLink R_L 57 y_X_due ∈ WS := (tb_in (i := 420) rfl (by decide +kernel))
set_option maxRecDepth 20000 in
theorem lk_X_134 : xw_lk R_X 134 y_X_ticksItLasts := Or.inl (tb_in (i := 424) rfl (by decide +kernel))
set_option maxRecDepth 20000 in
theorem lk_X_134' : Cond.methodLink R_X 134 y_X_ticksItLasts ∈ WS := (tb_in (i := 424) rfl (by decide +kernel))
set_option maxRecDepth 20000 in
theorem lk_X_154 : xw_lk R_X 154 y_Jm_floorDiv := Or.inl (tb_in (i := 429) rfl (by decide +kernel))
set_option maxRecDepth 20000 in
theorem lk_X_154' : Cond.methodLink R_X 154 y_Jm_floorDiv ∈ WS := (tb_in (i := 429) rfl (by decide +kernel))
set_option maxRecDepth 20000 in
theorem lk_L_61 : xw_lk R_L 61 y_X_tick := Or.inl (tb_in (i := 430) rfl (by decide +kernel))
set_option maxRecDepth 20000 in
theorem lk_L_61' : Cond.methodLink R_L 61 y_X_tick ∈ WS := (tb_in (i := 430) rfl (by decide +kernel))
set_option maxRecDepth 20000 in
theorem lk_L_12 : xw_lk R_L 12 y_M_init := Or.inl (tb_in (i := 436) rfl (by decide +kernel))
set_option maxRecDepth 20000 in
theorem lk_L_12' : Cond.methodLink R_L 12 y_M_init ∈ WS := (tb_in (i := 436) rfl (by decide +kernel))
set_option maxRecDepth 20000 in
theorem lk_M_1' : Cond.methodLink R_M 1 ⟨"java/lang/Object", "<init>", "()V"⟩ ∈ WS := (tb_in (i := 439) rfl (by decide +kernel))
set_option maxRecDepth 20000 in
theorem lk_L_19 : xw_lk R_L 19 y_M_type := Or.inl (tb_in (i := 577) rfl (by decide +kernel))
set_option maxRecDepth 20000 in
theorem lk_L_19' : Cond.methodLink R_L 19 y_M_type ∈ WS := (tb_in (i := 577) rfl (by decide +kernel))
set_option maxRecDepth 20000 in
theorem lk_L_24 : xw_lk R_L 24 y_M_define := Or.inl (tb_in (i := 582) rfl (by decide +kernel))
set_option maxRecDepth 20000 in
theorem lk_L_24' : Cond.methodLink R_L 24 y_M_define ∈ WS := (tb_in (i := 582) rfl (by decide +kernel))
set_option maxRecDepth 20000 in
theorem lk_M_170 : xw_lk R_M 170 y_M_wrong := Or.inl (tb_in (i := 586) rfl (by decide +kernel))
set_option maxRecDepth 20000 in
theorem lk_M_170' : Cond.methodLink R_M 170 y_M_wrong ∈ WS := (tb_in (i := 586) rfl (by decide +kernel))
set_option maxRecDepth 20000 in
theorem lk_M_158 : xw_lk R_M 158 y_M_goesOn := Or.inl (tb_in (i := 590) rfl (by decide +kernel))
set_option maxRecDepth 20000 in
theorem lk_M_158' : Cond.methodLink R_M 158 y_M_goesOn ∈ WS := (tb_in (i := 590) rfl (by decide +kernel))
set_option maxRecDepth 20000 in
theorem lk_M_137 : xw_lk R_M 137 y_M_closes := Or.inl (tb_in (i := 594) rfl (by decide +kernel))
set_option maxRecDepth 20000 in
theorem lk_M_137' : Cond.methodLink R_M 137 y_M_closes ∈ WS := (tb_in (i := 594) rfl (by decide +kernel))
set_option maxRecDepth 20000 in
theorem lk_M_141 : xw_lk R_M 141 y_M_whole := Or.inl (tb_in (i := 598) rfl (by decide +kernel))
set_option maxRecDepth 20000 in
theorem lk_M_141' : Cond.methodLink R_M 141 y_M_whole ∈ WS := (tb_in (i := 598) rfl (by decide +kernel))
set_option maxRecDepth 20000 in
theorem lk_M_126 : xw_lk R_M 126 y_M_wants := Or.inl (tb_in (i := 602) rfl (by decide +kernel))
set_option maxRecDepth 20000 in
theorem lk_M_126' : Cond.methodLink R_M 126 y_M_wants ∈ WS := (tb_in (i := 602) rfl (by decide +kernel))
set_option maxRecDepth 20000 in
theorem lk_M_145 : xw_lk R_M 145 y_M_kindOf := Or.inl (tb_in (i := 605) rfl (by decide +kernel))
set_option maxRecDepth 20000 in
theorem lk_M_145' : Cond.methodLink R_M 145 y_M_kindOf ∈ WS := (tb_in (i := 605) rfl (by decide +kernel))
set_option maxRecDepth 20000 in
theorem lk_M_148 : xw_lk R_M 148 y_M_isFilled := Or.inl (tb_in (i := 608) rfl (by decide +kernel))
set_option maxRecDepth 20000 in
theorem lk_M_148' : Cond.methodLink R_M 148 y_M_isFilled ∈ WS := (tb_in (i := 608) rfl (by decide +kernel))
set_option maxRecDepth 20000 in
theorem lk_M_152 : xw_lk R_M 152 y_M_node := Or.inl (tb_in (i := 612) rfl (by decide +kernel))
set_option maxRecDepth 20000 in
theorem lk_M_152' : Cond.methodLink R_M 152 y_M_node ∈ WS := (tb_in (i := 612) rfl (by decide +kernel))
set_option maxRecDepth 20000 in
theorem lk_M_155 : xw_lk R_M 155 y_M_hasDigits := Or.inl (tb_in (i := 616) rfl (by decide +kernel))
set_option maxRecDepth 20000 in
theorem lk_M_155' : Cond.methodLink R_M 155 y_M_hasDigits ∈ WS := (tb_in (i := 616) rfl (by decide +kernel))
set_option maxRecDepth 20000 in
theorem lk_M_133 : xw_lk R_M 133 y_M_digit := Or.inl (tb_in (i := 620) rfl (by decide +kernel))
set_option maxRecDepth 20000 in
theorem lk_M_133' : Cond.methodLink R_M 133 y_M_digit ∈ WS := (tb_in (i := 620) rfl (by decide +kernel))
set_option maxRecDepth 20000 in
theorem lk_M_174 : xw_lk R_M 174 y_M_grainOf := Or.inl (tb_in (i := 624) rfl (by decide +kernel))
set_option maxRecDepth 20000 in
theorem lk_M_174' : Cond.methodLink R_M 174 y_M_grainOf ∈ WS := (tb_in (i := 624) rfl (by decide +kernel))
set_option maxRecDepth 20000 in
theorem lk_L_29 : xw_lk R_L 29 y_M_query := Or.inl (tb_in (i := 628) rfl (by decide +kernel))
set_option maxRecDepth 20000 in
theorem lk_L_29' : Cond.methodLink R_L 29 y_M_query ∈ WS := (tb_in (i := 628) rfl (by decide +kernel))
set_option maxRecDepth 20000 in
theorem lk_M_235 : xw_lk R_M 235 y_M_gather := Or.inl (tb_in (i := 632) rfl (by decide +kernel))
set_option maxRecDepth 20000 in
theorem lk_M_235' : Cond.methodLink R_M 235 y_M_gather ∈ WS := (tb_in (i := 632) rfl (by decide +kernel))
set_option maxRecDepth 20000 in
theorem lk_M_231 : xw_lk R_M 231 y_M_search := Or.inl (tb_in (i := 636) rfl (by decide +kernel))
set_option maxRecDepth 20000 in
theorem lk_M_231' : Cond.methodLink R_M 231 y_M_search ∈ WS := (tb_in (i := 636) rfl (by decide +kernel))
set_option maxRecDepth 20000 in
theorem lk_M_190 : xw_lk R_M 190 y_M_enter := Or.inl (tb_in (i := 640) rfl (by decide +kernel))
set_option maxRecDepth 20000 in
theorem lk_M_190' : Cond.methodLink R_M 190 y_M_enter ∈ WS := (tb_in (i := 640) rfl (by decide +kernel))
set_option maxRecDepth 20000 in
theorem lk_M_180 : xw_lk R_M 180 y_M_floor := Or.inl (tb_in (i := 644) rfl (by decide +kernel))
set_option maxRecDepth 20000 in
theorem lk_M_180' : Cond.methodLink R_M 180 y_M_floor ∈ WS := (tb_in (i := 644) rfl (by decide +kernel))
set_option maxRecDepth 20000 in
theorem lk_M_184 : xw_lk R_M 184 y_M_low := Or.inl (tb_in (i := 647) rfl (by decide +kernel))
set_option maxRecDepth 20000 in
theorem lk_M_184' : Cond.methodLink R_M 184 y_M_low ∈ WS := (tb_in (i := 647) rfl (by decide +kernel))
set_option maxRecDepth 20000 in
theorem lk_M_187 : xw_lk R_M 187 y_M_high := Or.inl (tb_in (i := 650) rfl (by decide +kernel))
set_option maxRecDepth 20000 in
theorem lk_M_187' : Cond.methodLink R_M 187 y_M_high ∈ WS := (tb_in (i := 650) rfl (by decide +kernel))
set_option maxRecDepth 20000 in
theorem lk_M_224 : xw_lk R_M 224 y_M_move := Or.inl (tb_in (i := 653) rfl (by decide +kernel))
set_option maxRecDepth 20000 in
theorem lk_M_224' : Cond.methodLink R_M 224 y_M_move ∈ WS := (tb_in (i := 653) rfl (by decide +kernel))
set_option maxRecDepth 20000 in
theorem lk_M_194 : xw_lk R_M 194 y_M_forward := Or.inl (tb_in (i := 657) rfl (by decide +kernel))
set_option maxRecDepth 20000 in
theorem lk_M_194' : Cond.methodLink R_M 194 y_M_forward ∈ WS := (tb_in (i := 657) rfl (by decide +kernel))
set_option maxRecDepth 20000 in
theorem lk_M_198 : xw_lk R_M 198 y_M_leaf := Or.inl (tb_in (i := 661) rfl (by decide +kernel))
set_option maxRecDepth 20000 in
theorem lk_M_198' : Cond.methodLink R_M 198 y_M_leaf ∈ WS := (tb_in (i := 661) rfl (by decide +kernel))
set_option maxRecDepth 20000 in
theorem lk_M_216 : xw_lk R_M 216 y_M_add := Or.inl (tb_in (i := 665) rfl (by decide +kernel))
set_option maxRecDepth 20000 in
theorem lk_M_216' : Cond.methodLink R_M 216 y_M_add ∈ WS := (tb_in (i := 665) rfl (by decide +kernel))
set_option maxRecDepth 20000 in
theorem lk_M_227 : xw_lk R_M 227 y_M_isBefore := Or.inl (tb_in (i := 669) rfl (by decide +kernel))
set_option maxRecDepth 20000 in
theorem lk_M_227' : Cond.methodLink R_M 227 y_M_isBefore ∈ WS := (tb_in (i := 669) rfl (by decide +kernel))
set_option maxRecDepth 20000 in
theorem lk_M_220 : xw_lk R_M 220 y_M_addOnset := Or.inl (tb_in (i := 673) rfl (by decide +kernel))
set_option maxRecDepth 20000 in
theorem lk_M_220' : Cond.methodLink R_M 220 y_M_addOnset ∈ WS := (tb_in (i := 673) rfl (by decide +kernel))
set_option maxRecDepth 20000 in
theorem lk_M_253 : xw_lk R_M 253 y_M_isLater := Or.inl (tb_in (i := 677) rfl (by decide +kernel))
set_option maxRecDepth 20000 in
theorem lk_M_253' : Cond.methodLink R_M 253 y_M_isLater ∈ WS := (tb_in (i := 677) rfl (by decide +kernel))
set_option maxRecDepth 20000 in
theorem lk_M_202 : xw_lk R_M 202 y_M_child := Or.inl (tb_in (i := 681) rfl (by decide +kernel))
set_option maxRecDepth 20000 in
theorem lk_M_202' : Cond.methodLink R_M 202 y_M_child ∈ WS := (tb_in (i := 681) rfl (by decide +kernel))
set_option maxRecDepth 20000 in
theorem lk_M_206 : xw_lk R_M 206 y_M_cut := Or.inl (tb_in (i := 685) rfl (by decide +kernel))
set_option maxRecDepth 20000 in
theorem lk_M_206' : Cond.methodLink R_M 206 y_M_cut ∈ WS := (tb_in (i := 685) rfl (by decide +kernel))
set_option maxRecDepth 20000 in
theorem lk_M_212 : xw_lk R_M 212 y_M_plain := Or.inl (tb_in (i := 690) rfl (by decide +kernel))
set_option maxRecDepth 20000 in
theorem lk_M_212' : Cond.methodLink R_M 212 y_M_plain ∈ WS := (tb_in (i := 690) rfl (by decide +kernel))
set_option maxRecDepth 20000 in
theorem lk_L_34 : xw_lk R_L 34 y_M_unit := Or.inl (tb_in (i := 694) rfl (by decide +kernel))
set_option maxRecDepth 20000 in
theorem lk_L_34' : Cond.methodLink R_L 34 y_M_unit ∈ WS := (tb_in (i := 694) rfl (by decide +kernel))
set_option maxRecDepth 20000 in
theorem lk_L_39 : xw_lk R_L 39 y_M_part := Or.inl (tb_in (i := 698) rfl (by decide +kernel))
set_option maxRecDepth 20000 in
theorem lk_L_39' : Cond.methodLink R_L 39 y_M_part ∈ WS := (tb_in (i := 698) rfl (by decide +kernel))
set_option maxRecDepth 20000 in
theorem lk_L_43 : xw_lk R_L 43 y_M_onsets := Or.inl (tb_in (i := 702) rfl (by decide +kernel))
set_option maxRecDepth 20000 in
theorem lk_L_43' : Cond.methodLink R_L 43 y_M_onsets ∈ WS := (tb_in (i := 702) rfl (by decide +kernel))
set_option maxRecDepth 20000 in
theorem lk_L_47 : xw_lk R_L 47 y_M_differ := Or.inl (tb_in (i := 706) rfl (by decide +kernel))
set_option maxRecDepth 20000 in
theorem lk_L_47' : Cond.methodLink R_L 47 y_M_differ ∈ WS := (tb_in (i := 706) rfl (by decide +kernel))
set_option maxRecDepth 20000 in
theorem lk_M_238 : xw_lk R_M 238 y_M_areOther := Or.inl (tb_in (i := 710) rfl (by decide +kernel))
set_option maxRecDepth 20000 in
theorem lk_M_238' : Cond.methodLink R_M 238 y_M_areOther ∈ WS := (tb_in (i := 710) rfl (by decide +kernel))
set_option maxRecDepth 20000 in
theorem lk_L_52 : xw_lk R_L 52 y_M_play := Or.inl (tb_in (i := 714) rfl (by decide +kernel))
set_option maxRecDepth 20000 in
theorem lk_L_52' : Cond.methodLink R_L 52 y_M_play ∈ WS := (tb_in (i := 714) rfl (by decide +kernel))
set_option maxRecDepth 20000 in
theorem lk_L_56 : xw_lk R_L 56 y_M_advance := Or.inl (tb_in (i := 718) rfl (by decide +kernel))
set_option maxRecDepth 20000 in
theorem lk_L_56' : Cond.methodLink R_L 56 y_M_advance ∈ WS := (tb_in (i := 718) rfl (by decide +kernel))
set_option maxRecDepth 20000 in
theorem lk_L_60 : xw_lk R_L 60 y_M_due := Or.inl (tb_in (i := 723) rfl (by decide +kernel))
set_option maxRecDepth 20000 in
theorem lk_L_60' : Cond.methodLink R_L 60 y_M_due ∈ WS := (tb_in (i := 723) rfl (by decide +kernel))
set_option maxRecDepth 20000 in
theorem lk_L_64 : xw_lk R_L 64 y_M_tick := Or.inl (tb_in (i := 727) rfl (by decide +kernel))
set_option maxRecDepth 20000 in
theorem lk_L_64' : Cond.methodLink R_L 64 y_M_tick ∈ WS := (tb_in (i := 727) rfl (by decide +kernel))
set_option maxRecDepth 20000 in
theorem lk_X_9 : xw_lk R_X 9 y_Rd_init := Or.inr ⟨"CyclePatterns", List.mem_of_getElem? (i := 17) rfl⟩
set_option maxRecDepth 20000 in
theorem dn_walk : Cond.declares y_Wk_walk ∈ NW := List.mem_of_getElem? (i := 18) rfl
set_option maxRecDepth 20000 in
theorem dn_hear : Cond.declares ⟨"CyclePatterns$Walk", "hear", "(CJJJJ)V"⟩ ∈ NW := List.mem_of_getElem? (i := 19) rfl
set_option maxRecDepth 20000 in
theorem cd_X_init : xw_code y_X_init b_X_init 2 none 0 := ⟨(tb_in (i := 15) rfl (by decide +kernel)), (tb_in (i := 1) rfl (by decide +kernel)), by decide, by decide, by decide +kernel⟩
set_option maxRecDepth 20000 in
theorem is_X_init : Cond.instanceMethod y_X_init ∈ WS := (tb_in (i := 14) rfl (by decide +kernel))
set_option maxRecDepth 20000 in
theorem cd_X_type : xw_code y_X_type b_X_type 4 (some .int) 2 := ⟨(tb_in (i := 186) rfl (by decide +kernel)), (tb_in (i := 1) rfl (by decide +kernel)), by decide, by decide, by decide +kernel⟩
set_option maxRecDepth 20000 in
theorem is_X_type : Cond.instanceMethod y_X_type ∈ WS := (tb_in (i := 184) rfl (by decide +kernel))
set_option maxRecDepth 20000 in
theorem se_X_type : Cond.instanceMethod y_X_type ∈ WS ∧ Cond.selects R_X y_X_type y_X_type ∈ WS := ⟨is_X_type, (tb_in (i := 185) rfl (by decide +kernel))⟩
set_option maxRecDepth 20000 in
theorem cd_X_define : xw_code y_X_define b_X_define 3 (some .int) 1 := ⟨(tb_in (i := 201) rfl (by decide +kernel)), (tb_in (i := 1) rfl (by decide +kernel)), by decide, by decide, by decide +kernel⟩
set_option maxRecDepth 20000 in
theorem is_X_define : Cond.instanceMethod y_X_define ∈ WS := (tb_in (i := 199) rfl (by decide +kernel))
set_option maxRecDepth 20000 in
theorem se_X_define : Cond.instanceMethod y_X_define ∈ WS ∧ Cond.selects R_X y_X_define y_X_define ∈ WS := ⟨is_X_define, (tb_in (i := 200) rfl (by decide +kernel))⟩
set_option maxRecDepth 20000 in
theorem cd_X_query : xw_code y_X_query b_X_query 7 (some .int) 4 := ⟨(tb_in (i := 282) rfl (by decide +kernel)), (tb_in (i := 1) rfl (by decide +kernel)), by decide, by decide, by decide +kernel⟩
set_option maxRecDepth 20000 in
theorem is_X_query : Cond.instanceMethod y_X_query ∈ WS := (tb_in (i := 280) rfl (by decide +kernel))
set_option maxRecDepth 20000 in
theorem se_X_query : Cond.instanceMethod y_X_query ∈ WS ∧ Cond.selects R_X y_X_query y_X_query ∈ WS := ⟨is_X_query, (tb_in (i := 281) rfl (by decide +kernel))⟩
set_option maxRecDepth 20000 in
theorem cd_X_unit : xw_code y_X_unit b_X_unit 1 (some .int) 0 := ⟨(tb_in (i := 373) rfl (by decide +kernel)), (tb_in (i := 1) rfl (by decide +kernel)), by decide, by decide, by decide +kernel⟩
set_option maxRecDepth 20000 in
theorem is_X_unit : Cond.instanceMethod y_X_unit ∈ WS := (tb_in (i := 371) rfl (by decide +kernel))
set_option maxRecDepth 20000 in
theorem se_X_unit : Cond.instanceMethod y_X_unit ∈ WS ∧ Cond.selects R_X y_X_unit y_X_unit ∈ WS := ⟨is_X_unit, (tb_in (i := 372) rfl (by decide +kernel))⟩
set_option maxRecDepth 20000 in
theorem cd_X_part : xw_code y_X_part b_X_part 3 (some .int) 2 := ⟨(tb_in (i := 377) rfl (by decide +kernel)), (tb_in (i := 1) rfl (by decide +kernel)), by decide, by decide, by decide +kernel⟩
set_option maxRecDepth 20000 in
theorem is_X_part : Cond.instanceMethod y_X_part ∈ WS := (tb_in (i := 375) rfl (by decide +kernel))
set_option maxRecDepth 20000 in
theorem se_X_part : Cond.instanceMethod y_X_part ∈ WS ∧ Cond.selects R_X y_X_part y_X_part ∈ WS := ⟨is_X_part, (tb_in (i := 376) rfl (by decide +kernel))⟩
set_option maxRecDepth 20000 in
theorem cd_X_onsets : xw_code y_X_onsets b_X_onsets 3 (some .int) 0 := ⟨(tb_in (i := 390) rfl (by decide +kernel)), (tb_in (i := 1) rfl (by decide +kernel)), by decide, by decide, by decide +kernel⟩
set_option maxRecDepth 20000 in
theorem is_X_onsets : Cond.instanceMethod y_X_onsets ∈ WS := (tb_in (i := 388) rfl (by decide +kernel))
set_option maxRecDepth 20000 in
theorem se_X_onsets : Cond.instanceMethod y_X_onsets ∈ WS ∧ Cond.selects R_X y_X_onsets y_X_onsets ∈ WS := ⟨is_X_onsets, (tb_in (i := 389) rfl (by decide +kernel))⟩
set_option maxRecDepth 20000 in
theorem cd_X_differ : xw_code y_X_differ b_X_differ 8 (some .int) 2 := ⟨(tb_in (i := 394) rfl (by decide +kernel)), (tb_in (i := 1) rfl (by decide +kernel)), by decide, by decide, by decide +kernel⟩
set_option maxRecDepth 20000 in
theorem is_X_differ : Cond.instanceMethod y_X_differ ∈ WS := (tb_in (i := 392) rfl (by decide +kernel))
set_option maxRecDepth 20000 in
theorem se_X_differ : Cond.instanceMethod y_X_differ ∈ WS ∧ Cond.selects R_X y_X_differ y_X_differ ∈ WS := ⟨is_X_differ, (tb_in (i := 393) rfl (by decide +kernel))⟩
set_option maxRecDepth 20000 in
theorem cd_X_play : xw_code y_X_play b_X_play 4 (some .boolean) 3 := ⟨(tb_in (i := 403) rfl (by decide +kernel)), (tb_in (i := 1) rfl (by decide +kernel)), by decide, by decide, by decide +kernel⟩
set_option maxRecDepth 20000 in
theorem is_X_play : Cond.instanceMethod y_X_play ∈ WS := (tb_in (i := 401) rfl (by decide +kernel))
set_option maxRecDepth 20000 in
theorem se_X_play : Cond.instanceMethod y_X_play ∈ WS ∧ Cond.selects R_X y_X_play y_X_play ∈ WS := ⟨is_X_play, (tb_in (i := 402) rfl (by decide +kernel))⟩
set_option maxRecDepth 20000 in
theorem cd_X_advance : xw_code y_X_advance b_X_advance 3 (some .int) 1 := ⟨(tb_in (i := 407) rfl (by decide +kernel)), (tb_in (i := 1) rfl (by decide +kernel)), by decide, by decide, by decide +kernel⟩
set_option maxRecDepth 20000 in
theorem is_X_advance : Cond.instanceMethod y_X_advance ∈ WS := (tb_in (i := 405) rfl (by decide +kernel))
set_option maxRecDepth 20000 in
theorem se_X_advance : Cond.instanceMethod y_X_advance ∈ WS ∧ Cond.selects R_X y_X_advance y_X_advance ∈ WS := ⟨is_X_advance, (tb_in (i := 406) rfl (by decide +kernel))⟩
set_option maxRecDepth 20000 in
theorem cd_X_due : xw_code y_X_due b_X_due 3 (some .int) 2 := ⟨(tb_in (i := 423) rfl (by decide +kernel)), (tb_in (i := 1) rfl (by decide +kernel)), by decide, by decide, by decide +kernel⟩
set_option maxRecDepth 20000 in
theorem is_X_due : Cond.instanceMethod y_X_due ∈ WS := (tb_in (i := 421) rfl (by decide +kernel))
set_option maxRecDepth 20000 in
theorem se_X_due : Cond.instanceMethod y_X_due ∈ WS ∧ Cond.selects R_X y_X_due y_X_due ∈ WS := ⟨is_X_due, (tb_in (i := 422) rfl (by decide +kernel))⟩
set_option maxRecDepth 20000 in
theorem cd_X_tick : xw_code y_X_tick b_X_tick 1 (some .int) 0 := ⟨(tb_in (i := 433) rfl (by decide +kernel)), (tb_in (i := 1) rfl (by decide +kernel)), by decide, by decide, by decide +kernel⟩
set_option maxRecDepth 20000 in
theorem is_X_tick : Cond.instanceMethod y_X_tick ∈ WS := (tb_in (i := 431) rfl (by decide +kernel))
set_option maxRecDepth 20000 in
theorem se_X_tick : Cond.instanceMethod y_X_tick ∈ WS ∧ Cond.selects R_X y_X_tick y_X_tick ∈ WS := ⟨is_X_tick, (tb_in (i := 432) rfl (by decide +kernel))⟩
set_option maxRecDepth 20000 in
theorem cd_X_isSlot : xw_code y_X_isSlot b_X_isSlot 1 (some .boolean) 1 := ⟨(tb_in (i := 204) rfl (by decide +kernel)), (tb_in (i := 1) rfl (by decide +kernel)), by decide, by decide, by decide +kernel⟩
set_option maxRecDepth 20000 in
theorem ss_X_isSlot : Cond.static y_X_isSlot ∈ WS := (tb_in (i := 203) rfl (by decide +kernel))
set_option maxRecDepth 20000 in
theorem cd_X_isSpan : xw_code y_X_isSpan b_X_isSpan 4 (some .boolean) 3 := ⟨(tb_in (i := 285) rfl (by decide +kernel)), (tb_in (i := 1) rfl (by decide +kernel)), by decide, by decide, by decide +kernel⟩
set_option maxRecDepth 20000 in
theorem ss_X_isSpan : Cond.static y_X_isSpan ∈ WS := (tb_in (i := 284) rfl (by decide +kernel))
set_option maxRecDepth 20000 in
theorem cd_X_stopPlaying : xw_code y_X_stopPlaying b_X_stopPlaying 1 none 0 := ⟨(tb_in (i := 208) rfl (by decide +kernel)), (tb_in (i := 1) rfl (by decide +kernel)), by decide, by decide, by decide +kernel⟩
set_option maxRecDepth 20000 in
theorem is_X_stopPlaying : Cond.instanceMethod y_X_stopPlaying ∈ WS := (tb_in (i := 207) rfl (by decide +kernel))
set_option maxRecDepth 20000 in
theorem se_X_stopPlaying : Cond.instanceMethod y_X_stopPlaying ∈ WS ∧ Cond.selects R_X y_X_stopPlaying y_X_stopPlaying ∈ WS := ⟨is_X_stopPlaying, pv_in (y := y_X_stopPlaying) (n := 12) (i := 0) rfl⟩
set_option maxRecDepth 20000 in
theorem cd_X_gatherOnsets : xw_code y_X_gatherOnsets b_X_gatherOnsets 9 none 2 := ⟨(tb_in (i := 411) rfl (by decide +kernel)), (tb_in (i := 1) rfl (by decide +kernel)), by decide, by decide, by decide +kernel⟩
set_option maxRecDepth 20000 in
theorem is_X_gatherOnsets : Cond.instanceMethod y_X_gatherOnsets ∈ WS := (tb_in (i := 410) rfl (by decide +kernel))
set_option maxRecDepth 20000 in
theorem se_X_gatherOnsets : Cond.instanceMethod y_X_gatherOnsets ∈ WS ∧ Cond.selects R_X y_X_gatherOnsets y_X_gatherOnsets ∈ WS := ⟨is_X_gatherOnsets, pv_in (y := y_X_gatherOnsets) (n := 12) (i := 13) rfl⟩
set_option maxRecDepth 20000 in
theorem cd_X_tickLength : xw_code y_X_tickLength b_X_tickLength 2 (some .long) 1 := ⟨(tb_in (i := 415) rfl (by decide +kernel)), (tb_in (i := 1) rfl (by decide +kernel)), by decide, by decide, by decide +kernel⟩
set_option maxRecDepth 20000 in
theorem is_X_tickLength : Cond.instanceMethod y_X_tickLength ∈ WS := (tb_in (i := 414) rfl (by decide +kernel))
set_option maxRecDepth 20000 in
theorem se_X_tickLength : Cond.instanceMethod y_X_tickLength ∈ WS ∧ Cond.selects R_X y_X_tickLength y_X_tickLength ∈ WS := ⟨is_X_tickLength, pv_in (y := y_X_tickLength) (n := 12) (i := 14) rfl⟩
set_option maxRecDepth 20000 in
theorem cd_X_ticksItLasts : xw_code y_X_ticksItLasts b_X_ticksItLasts 5 (some .long) 1 := ⟨(tb_in (i := 427) rfl (by decide +kernel)), (tb_in (i := 1) rfl (by decide +kernel)), by decide, by decide, by decide +kernel⟩
set_option maxRecDepth 20000 in
theorem is_X_ticksItLasts : Cond.instanceMethod y_X_ticksItLasts ∈ WS := (tb_in (i := 426) rfl (by decide +kernel))
set_option maxRecDepth 20000 in
theorem se_X_ticksItLasts : Cond.instanceMethod y_X_ticksItLasts ∈ WS ∧ Cond.selects R_X y_X_ticksItLasts y_X_ticksItLasts ∈ WS := ⟨is_X_ticksItLasts, pv_in (y := y_X_ticksItLasts) (n := 12) (i := 15) rfl⟩
set_option maxRecDepth 20000 in
theorem cd_M_init : xw_code y_M_init b_M_init 2 none 0 := ⟨(tb_in (i := 438) rfl (by decide +kernel)), (tb_in (i := 8) rfl (by decide +kernel)), by decide, by decide, by decide +kernel⟩
set_option maxRecDepth 20000 in
theorem is_M_init : Cond.instanceMethod y_M_init ∈ WS := (tb_in (i := 437) rfl (by decide +kernel))
set_option maxRecDepth 20000 in
theorem cd_M_type : xw_code y_M_type b_M_type 7 (some .int) 2 := ⟨(tb_in (i := 580) rfl (by decide +kernel)), (tb_in (i := 8) rfl (by decide +kernel)), by decide, by decide, by decide +kernel⟩
set_option maxRecDepth 20000 in
theorem is_M_type : Cond.instanceMethod y_M_type ∈ WS := (tb_in (i := 578) rfl (by decide +kernel))
set_option maxRecDepth 20000 in
theorem se_M_type : Cond.instanceMethod y_M_type ∈ WS ∧ Cond.selects R_M y_M_type y_M_type ∈ WS := ⟨is_M_type, (tb_in (i := 579) rfl (by decide +kernel))⟩
set_option maxRecDepth 20000 in
theorem cd_M_node : xw_code y_M_node b_M_node 3 (some .int) 1 := ⟨(tb_in (i := 615) rfl (by decide +kernel)), (tb_in (i := 8) rfl (by decide +kernel)), by decide, by decide, by decide +kernel⟩
set_option maxRecDepth 20000 in
theorem is_M_node : Cond.instanceMethod y_M_node ∈ WS := (tb_in (i := 614) rfl (by decide +kernel))
set_option maxRecDepth 20000 in
theorem se_M_node : Cond.instanceMethod y_M_node ∈ WS ∧ Cond.selects R_M y_M_node y_M_node ∈ WS := ⟨is_M_node, pv_in (y := y_M_node) (n := 45) (i := 21) rfl⟩
set_option maxRecDepth 20000 in
theorem cd_M_wants : xw_code y_M_wants b_M_wants 1 (some .int) 1 := ⟨(tb_in (i := 604) rfl (by decide +kernel)), (tb_in (i := 8) rfl (by decide +kernel)), by decide, by decide, by decide +kernel⟩
set_option maxRecDepth 20000 in
theorem ss_M_wants : Cond.static y_M_wants ∈ WS := (tb_in (i := 603) rfl (by decide +kernel))
set_option maxRecDepth 20000 in
theorem cd_M_whole : xw_code y_M_whole b_M_whole 5 none 1 := ⟨(tb_in (i := 601) rfl (by decide +kernel)), (tb_in (i := 8) rfl (by decide +kernel)), by decide, by decide, by decide +kernel⟩
set_option maxRecDepth 20000 in
theorem is_M_whole : Cond.instanceMethod y_M_whole ∈ WS := (tb_in (i := 600) rfl (by decide +kernel))
set_option maxRecDepth 20000 in
theorem se_M_whole : Cond.instanceMethod y_M_whole ∈ WS ∧ Cond.selects R_M y_M_whole y_M_whole ∈ WS := ⟨is_M_whole, pv_in (y := y_M_whole) (n := 45) (i := 19) rfl⟩
set_option maxRecDepth 20000 in
theorem cd_M_digit : xw_code y_M_digit b_M_digit 4 (some .int) 2 := ⟨(tb_in (i := 623) rfl (by decide +kernel)), (tb_in (i := 8) rfl (by decide +kernel)), by decide, by decide, by decide +kernel⟩
set_option maxRecDepth 20000 in
theorem is_M_digit : Cond.instanceMethod y_M_digit ∈ WS := (tb_in (i := 622) rfl (by decide +kernel))
set_option maxRecDepth 20000 in
theorem se_M_digit : Cond.instanceMethod y_M_digit ∈ WS ∧ Cond.selects R_M y_M_digit y_M_digit ∈ WS := ⟨is_M_digit, pv_in (y := y_M_digit) (n := 45) (i := 23) rfl⟩
set_option maxRecDepth 20000 in
theorem cd_M_kindOf : xw_code y_M_kindOf b_M_kindOf 1 (some .int) 1 := ⟨(tb_in (i := 607) rfl (by decide +kernel)), (tb_in (i := 8) rfl (by decide +kernel)), by decide, by decide, by decide +kernel⟩
set_option maxRecDepth 20000 in
theorem ss_M_kindOf : Cond.static y_M_kindOf ∈ WS := (tb_in (i := 606) rfl (by decide +kernel))
set_option maxRecDepth 20000 in
theorem cd_M_hasDigits : xw_code y_M_hasDigits b_M_hasDigits 3 (some .boolean) 1 := ⟨(tb_in (i := 619) rfl (by decide +kernel)), (tb_in (i := 8) rfl (by decide +kernel)), by decide, by decide, by decide +kernel⟩
set_option maxRecDepth 20000 in
theorem is_M_hasDigits : Cond.instanceMethod y_M_hasDigits ∈ WS := (tb_in (i := 618) rfl (by decide +kernel))
set_option maxRecDepth 20000 in
theorem se_M_hasDigits : Cond.instanceMethod y_M_hasDigits ∈ WS ∧ Cond.selects R_M y_M_hasDigits y_M_hasDigits ∈ WS := ⟨is_M_hasDigits, pv_in (y := y_M_hasDigits) (n := 45) (i := 22) rfl⟩
set_option maxRecDepth 20000 in
theorem cd_M_closes : xw_code y_M_closes b_M_closes 4 (some .boolean) 1 := ⟨(tb_in (i := 597) rfl (by decide +kernel)), (tb_in (i := 8) rfl (by decide +kernel)), by decide, by decide, by decide +kernel⟩
set_option maxRecDepth 20000 in
theorem is_M_closes : Cond.instanceMethod y_M_closes ∈ WS := (tb_in (i := 596) rfl (by decide +kernel))
set_option maxRecDepth 20000 in
theorem se_M_closes : Cond.instanceMethod y_M_closes ∈ WS ∧ Cond.selects R_M y_M_closes y_M_closes ∈ WS := ⟨is_M_closes, pv_in (y := y_M_closes) (n := 45) (i := 18) rfl⟩
set_option maxRecDepth 20000 in
theorem cd_M_isFilled : xw_code y_M_isFilled b_M_isFilled 1 (some .boolean) 0 := ⟨(tb_in (i := 611) rfl (by decide +kernel)), (tb_in (i := 8) rfl (by decide +kernel)), by decide, by decide, by decide +kernel⟩
set_option maxRecDepth 20000 in
theorem is_M_isFilled : Cond.instanceMethod y_M_isFilled ∈ WS := (tb_in (i := 610) rfl (by decide +kernel))
set_option maxRecDepth 20000 in
theorem se_M_isFilled : Cond.instanceMethod y_M_isFilled ∈ WS ∧ Cond.selects R_M y_M_isFilled y_M_isFilled ∈ WS := ⟨is_M_isFilled, pv_in (y := y_M_isFilled) (n := 45) (i := 20) rfl⟩
set_option maxRecDepth 20000 in
theorem cd_M_goesOn : xw_code y_M_goesOn b_M_goesOn 4 (some .boolean) 0 := ⟨(tb_in (i := 593) rfl (by decide +kernel)), (tb_in (i := 8) rfl (by decide +kernel)), by decide, by decide, by decide +kernel⟩
set_option maxRecDepth 20000 in
theorem is_M_goesOn : Cond.instanceMethod y_M_goesOn ∈ WS := (tb_in (i := 592) rfl (by decide +kernel))
set_option maxRecDepth 20000 in
theorem se_M_goesOn : Cond.instanceMethod y_M_goesOn ∈ WS ∧ Cond.selects R_M y_M_goesOn y_M_goesOn ∈ WS := ⟨is_M_goesOn, pv_in (y := y_M_goesOn) (n := 45) (i := 17) rfl⟩
set_option maxRecDepth 20000 in
theorem cd_M_wrong : xw_code y_M_wrong b_M_wrong 1 (some .int) 0 := ⟨(tb_in (i := 589) rfl (by decide +kernel)), (tb_in (i := 8) rfl (by decide +kernel)), by decide, by decide, by decide +kernel⟩
set_option maxRecDepth 20000 in
theorem is_M_wrong : Cond.instanceMethod y_M_wrong ∈ WS := (tb_in (i := 588) rfl (by decide +kernel))
set_option maxRecDepth 20000 in
theorem se_M_wrong : Cond.instanceMethod y_M_wrong ∈ WS ∧ Cond.selects R_M y_M_wrong y_M_wrong ∈ WS := ⟨is_M_wrong, pv_in (y := y_M_wrong) (n := 45) (i := 16) rfl⟩
set_option maxRecDepth 20000 in
theorem cd_M_grainOf : xw_code y_M_grainOf b_M_grainOf 4 (some .int) 0 := ⟨(tb_in (i := 627) rfl (by decide +kernel)), (tb_in (i := 8) rfl (by decide +kernel)), by decide, by decide, by decide +kernel⟩
set_option maxRecDepth 20000 in
theorem is_M_grainOf : Cond.instanceMethod y_M_grainOf ∈ WS := (tb_in (i := 626) rfl (by decide +kernel))
set_option maxRecDepth 20000 in
theorem se_M_grainOf : Cond.instanceMethod y_M_grainOf ∈ WS ∧ Cond.selects R_M y_M_grainOf y_M_grainOf ∈ WS := ⟨is_M_grainOf, pv_in (y := y_M_grainOf) (n := 45) (i := 24) rfl⟩
set_option maxRecDepth 20000 in
theorem cd_M_define : xw_code y_M_define b_M_define 5 (some .int) 1 := ⟨(tb_in (i := 585) rfl (by decide +kernel)), (tb_in (i := 8) rfl (by decide +kernel)), by decide, by decide, by decide +kernel⟩
set_option maxRecDepth 20000 in
theorem is_M_define : Cond.instanceMethod y_M_define ∈ WS := (tb_in (i := 583) rfl (by decide +kernel))
set_option maxRecDepth 20000 in
theorem se_M_define : Cond.instanceMethod y_M_define ∈ WS ∧ Cond.selects R_M y_M_define y_M_define ∈ WS := ⟨is_M_define, (tb_in (i := 584) rfl (by decide +kernel))⟩
set_option maxRecDepth 20000 in
theorem cd_M_floor : xw_code y_M_floor b_M_floor 6 (some .long) 2 := ⟨(tb_in (i := 646) rfl (by decide +kernel)), (tb_in (i := 8) rfl (by decide +kernel)), by decide, by decide, by decide +kernel⟩
set_option maxRecDepth 20000 in
theorem ss_M_floor : Cond.static y_M_floor ∈ WS := (tb_in (i := 645) rfl (by decide +kernel))
set_option maxRecDepth 20000 in
theorem cd_M_low : xw_code y_M_low b_M_low 4 (some .long) 2 := ⟨(tb_in (i := 649) rfl (by decide +kernel)), (tb_in (i := 8) rfl (by decide +kernel)), by decide, by decide, by decide +kernel⟩
set_option maxRecDepth 20000 in
theorem ss_M_low : Cond.static y_M_low ∈ WS := (tb_in (i := 648) rfl (by decide +kernel))
set_option maxRecDepth 20000 in
theorem cd_M_high : xw_code y_M_high b_M_high 4 (some .long) 2 := ⟨(tb_in (i := 652) rfl (by decide +kernel)), (tb_in (i := 8) rfl (by decide +kernel)), by decide, by decide, by decide +kernel⟩
set_option maxRecDepth 20000 in
theorem ss_M_high : Cond.static y_M_high ∈ WS := (tb_in (i := 651) rfl (by decide +kernel))
set_option maxRecDepth 20000 in
theorem cd_M_enter : xw_code y_M_enter b_M_enter 14 none 5 := ⟨(tb_in (i := 643) rfl (by decide +kernel)), (tb_in (i := 8) rfl (by decide +kernel)), by decide, by decide, by decide +kernel⟩
set_option maxRecDepth 20000 in
theorem is_M_enter : Cond.instanceMethod y_M_enter ∈ WS := (tb_in (i := 642) rfl (by decide +kernel))
set_option maxRecDepth 20000 in
theorem se_M_enter : Cond.instanceMethod y_M_enter ∈ WS ∧ Cond.selects R_M y_M_enter y_M_enter ∈ WS := ⟨is_M_enter, pv_in (y := y_M_enter) (n := 45) (i := 27) rfl⟩
set_option maxRecDepth 20000 in
theorem cd_M_child : xw_code y_M_child b_M_child 6 (some .int) 3 := ⟨(tb_in (i := 684) rfl (by decide +kernel)), (tb_in (i := 8) rfl (by decide +kernel)), by decide, by decide, by decide +kernel⟩
set_option maxRecDepth 20000 in
theorem is_M_child : Cond.instanceMethod y_M_child ∈ WS := (tb_in (i := 683) rfl (by decide +kernel))
set_option maxRecDepth 20000 in
theorem se_M_child : Cond.instanceMethod y_M_child ∈ WS ∧ Cond.selects R_M y_M_child y_M_child ∈ WS := ⟨is_M_child, pv_in (y := y_M_child) (n := 45) (i := 35) rfl⟩
set_option maxRecDepth 20000 in
theorem cd_M_forward : xw_code y_M_forward b_M_forward 3 none 2 := ⟨(tb_in (i := 660) rfl (by decide +kernel)), (tb_in (i := 8) rfl (by decide +kernel)), by decide, by decide, by decide +kernel⟩
set_option maxRecDepth 20000 in
theorem is_M_forward : Cond.instanceMethod y_M_forward ∈ WS := (tb_in (i := 659) rfl (by decide +kernel))
set_option maxRecDepth 20000 in
theorem se_M_forward : Cond.instanceMethod y_M_forward ∈ WS ∧ Cond.selects R_M y_M_forward y_M_forward ∈ WS := ⟨is_M_forward, pv_in (y := y_M_forward) (n := 45) (i := 29) rfl⟩
set_option maxRecDepth 20000 in
theorem cd_M_cut : xw_code y_M_cut b_M_cut 15 none 7 := ⟨(tb_in (i := 688) rfl (by decide +kernel)), (tb_in (i := 8) rfl (by decide +kernel)), by decide, by decide, by decide +kernel⟩
set_option maxRecDepth 20000 in
theorem is_M_cut : Cond.instanceMethod y_M_cut ∈ WS := (tb_in (i := 687) rfl (by decide +kernel))
set_option maxRecDepth 20000 in
theorem se_M_cut : Cond.instanceMethod y_M_cut ∈ WS ∧ Cond.selects R_M y_M_cut y_M_cut ∈ WS := ⟨is_M_cut, pv_in (y := y_M_cut) (n := 45) (i := 36) rfl⟩
set_option maxRecDepth 20000 in
theorem cd_M_move : xw_code y_M_move b_M_move 15 none 2 := ⟨(tb_in (i := 656) rfl (by decide +kernel)), (tb_in (i := 8) rfl (by decide +kernel)), by decide, by decide, by decide +kernel⟩
set_option maxRecDepth 20000 in
theorem is_M_move : Cond.instanceMethod y_M_move ∈ WS := (tb_in (i := 655) rfl (by decide +kernel))
set_option maxRecDepth 20000 in
theorem se_M_move : Cond.instanceMethod y_M_move ∈ WS ∧ Cond.selects R_M y_M_move y_M_move ∈ WS := ⟨is_M_move, pv_in (y := y_M_move) (n := 45) (i := 28) rfl⟩
set_option maxRecDepth 20000 in
theorem cd_M_plain : xw_code y_M_plain b_M_plain 10 none 6 := ⟨(tb_in (i := 693) rfl (by decide +kernel)), (tb_in (i := 8) rfl (by decide +kernel)), by decide, by decide, by decide +kernel⟩
set_option maxRecDepth 20000 in
theorem is_M_plain : Cond.instanceMethod y_M_plain ∈ WS := (tb_in (i := 692) rfl (by decide +kernel))
set_option maxRecDepth 20000 in
theorem se_M_plain : Cond.instanceMethod y_M_plain ∈ WS ∧ Cond.selects R_M y_M_plain y_M_plain ∈ WS := ⟨is_M_plain, pv_in (y := y_M_plain) (n := 45) (i := 37) rfl⟩
set_option maxRecDepth 20000 in
theorem cd_M_leaf : xw_code y_M_leaf b_M_leaf 15 none 5 := ⟨(tb_in (i := 664) rfl (by decide +kernel)), (tb_in (i := 8) rfl (by decide +kernel)), by decide, by decide, by decide +kernel⟩
set_option maxRecDepth 20000 in
theorem is_M_leaf : Cond.instanceMethod y_M_leaf ∈ WS := (tb_in (i := 663) rfl (by decide +kernel))
set_option maxRecDepth 20000 in
theorem se_M_leaf : Cond.instanceMethod y_M_leaf ∈ WS ∧ Cond.selects R_M y_M_leaf y_M_leaf ∈ WS := ⟨is_M_leaf, pv_in (y := y_M_leaf) (n := 45) (i := 30) rfl⟩
set_option maxRecDepth 20000 in
theorem cd_M_search : xw_code y_M_search b_M_search 9 none 5 := ⟨(tb_in (i := 639) rfl (by decide +kernel)), (tb_in (i := 8) rfl (by decide +kernel)), by decide, by decide, by decide +kernel⟩
set_option maxRecDepth 20000 in
theorem is_M_search : Cond.instanceMethod y_M_search ∈ WS := (tb_in (i := 638) rfl (by decide +kernel))
set_option maxRecDepth 20000 in
theorem se_M_search : Cond.instanceMethod y_M_search ∈ WS ∧ Cond.selects R_M y_M_search y_M_search ∈ WS := ⟨is_M_search, pv_in (y := y_M_search) (n := 45) (i := 26) rfl⟩
set_option maxRecDepth 20000 in
theorem cd_M_isBefore : xw_code y_M_isBefore b_M_isBefore 11 (some .boolean) 6 := ⟨(tb_in (i := 672) rfl (by decide +kernel)), (tb_in (i := 8) rfl (by decide +kernel)), by decide, by decide, by decide +kernel⟩
set_option maxRecDepth 20000 in
theorem is_M_isBefore : Cond.instanceMethod y_M_isBefore ∈ WS := (tb_in (i := 671) rfl (by decide +kernel))
set_option maxRecDepth 20000 in
theorem se_M_isBefore : Cond.instanceMethod y_M_isBefore ∈ WS ∧ Cond.selects R_M y_M_isBefore y_M_isBefore ∈ WS := ⟨is_M_isBefore, pv_in (y := y_M_isBefore) (n := 45) (i := 32) rfl⟩
set_option maxRecDepth 20000 in
theorem cd_M_add : xw_code y_M_add b_M_add 12 none 6 := ⟨(tb_in (i := 668) rfl (by decide +kernel)), (tb_in (i := 8) rfl (by decide +kernel)), by decide, by decide, by decide +kernel⟩
set_option maxRecDepth 20000 in
theorem is_M_add : Cond.instanceMethod y_M_add ∈ WS := (tb_in (i := 667) rfl (by decide +kernel))
set_option maxRecDepth 20000 in
theorem se_M_add : Cond.instanceMethod y_M_add ∈ WS ∧ Cond.selects R_M y_M_add y_M_add ∈ WS := ⟨is_M_add, pv_in (y := y_M_add) (n := 45) (i := 31) rfl⟩
set_option maxRecDepth 20000 in
theorem cd_M_gather : xw_code y_M_gather b_M_gather 9 none 5 := ⟨(tb_in (i := 635) rfl (by decide +kernel)), (tb_in (i := 8) rfl (by decide +kernel)), by decide, by decide, by decide +kernel⟩
set_option maxRecDepth 20000 in
theorem is_M_gather : Cond.instanceMethod y_M_gather ∈ WS := (tb_in (i := 634) rfl (by decide +kernel))
set_option maxRecDepth 20000 in
theorem se_M_gather : Cond.instanceMethod y_M_gather ∈ WS ∧ Cond.selects R_M y_M_gather y_M_gather ∈ WS := ⟨is_M_gather, pv_in (y := y_M_gather) (n := 45) (i := 25) rfl⟩
set_option maxRecDepth 20000 in
theorem cd_M_query : xw_code y_M_query b_M_query 5 (some .int) 4 := ⟨(tb_in (i := 631) rfl (by decide +kernel)), (tb_in (i := 8) rfl (by decide +kernel)), by decide, by decide, by decide +kernel⟩
set_option maxRecDepth 20000 in
theorem is_M_query : Cond.instanceMethod y_M_query ∈ WS := (tb_in (i := 629) rfl (by decide +kernel))
set_option maxRecDepth 20000 in
theorem se_M_query : Cond.instanceMethod y_M_query ∈ WS ∧ Cond.selects R_M y_M_query y_M_query ∈ WS := ⟨is_M_query, (tb_in (i := 630) rfl (by decide +kernel))⟩
set_option maxRecDepth 20000 in
theorem cd_M_unit : xw_code y_M_unit b_M_unit 1 (some .int) 0 := ⟨(tb_in (i := 697) rfl (by decide +kernel)), (tb_in (i := 8) rfl (by decide +kernel)), by decide, by decide, by decide +kernel⟩
set_option maxRecDepth 20000 in
theorem is_M_unit : Cond.instanceMethod y_M_unit ∈ WS := (tb_in (i := 695) rfl (by decide +kernel))
set_option maxRecDepth 20000 in
theorem se_M_unit : Cond.instanceMethod y_M_unit ∈ WS ∧ Cond.selects R_M y_M_unit y_M_unit ∈ WS := ⟨is_M_unit, (tb_in (i := 696) rfl (by decide +kernel))⟩
set_option maxRecDepth 20000 in
theorem cd_M_part : xw_code y_M_part b_M_part 3 (some .int) 2 := ⟨(tb_in (i := 701) rfl (by decide +kernel)), (tb_in (i := 8) rfl (by decide +kernel)), by decide, by decide, by decide +kernel⟩
set_option maxRecDepth 20000 in
theorem is_M_part : Cond.instanceMethod y_M_part ∈ WS := (tb_in (i := 699) rfl (by decide +kernel))
set_option maxRecDepth 20000 in
theorem se_M_part : Cond.instanceMethod y_M_part ∈ WS ∧ Cond.selects R_M y_M_part y_M_part ∈ WS := ⟨is_M_part, (tb_in (i := 700) rfl (by decide +kernel))⟩
set_option maxRecDepth 20000 in
theorem cd_M_onsets : xw_code y_M_onsets b_M_onsets 3 (some .int) 0 := ⟨(tb_in (i := 705) rfl (by decide +kernel)), (tb_in (i := 8) rfl (by decide +kernel)), by decide, by decide, by decide +kernel⟩
set_option maxRecDepth 20000 in
theorem is_M_onsets : Cond.instanceMethod y_M_onsets ∈ WS := (tb_in (i := 703) rfl (by decide +kernel))
set_option maxRecDepth 20000 in
theorem se_M_onsets : Cond.instanceMethod y_M_onsets ∈ WS ∧ Cond.selects R_M y_M_onsets y_M_onsets ∈ WS := ⟨is_M_onsets, (tb_in (i := 704) rfl (by decide +kernel))⟩
set_option maxRecDepth 20000 in
theorem cd_M_areOther : xw_code y_M_areOther b_M_areOther 9 (some .boolean) 2 := ⟨(tb_in (i := 713) rfl (by decide +kernel)), (tb_in (i := 8) rfl (by decide +kernel)), by decide, by decide, by decide +kernel⟩
set_option maxRecDepth 20000 in
theorem is_M_areOther : Cond.instanceMethod y_M_areOther ∈ WS := (tb_in (i := 712) rfl (by decide +kernel))
set_option maxRecDepth 20000 in
theorem se_M_areOther : Cond.instanceMethod y_M_areOther ∈ WS ∧ Cond.selects R_M y_M_areOther y_M_areOther ∈ WS := ⟨is_M_areOther, pv_in (y := y_M_areOther) (n := 45) (i := 38) rfl⟩
set_option maxRecDepth 20000 in
theorem cd_M_differ : xw_code y_M_differ b_M_differ 4 (some .int) 2 := ⟨(tb_in (i := 709) rfl (by decide +kernel)), (tb_in (i := 8) rfl (by decide +kernel)), by decide, by decide, by decide +kernel⟩
set_option maxRecDepth 20000 in
theorem is_M_differ : Cond.instanceMethod y_M_differ ∈ WS := (tb_in (i := 707) rfl (by decide +kernel))
set_option maxRecDepth 20000 in
theorem se_M_differ : Cond.instanceMethod y_M_differ ∈ WS ∧ Cond.selects R_M y_M_differ y_M_differ ∈ WS := ⟨is_M_differ, (tb_in (i := 708) rfl (by decide +kernel))⟩
set_option maxRecDepth 20000 in
theorem cd_M_play : xw_code y_M_play b_M_play 4 (some .boolean) 3 := ⟨(tb_in (i := 717) rfl (by decide +kernel)), (tb_in (i := 8) rfl (by decide +kernel)), by decide, by decide, by decide +kernel⟩
set_option maxRecDepth 20000 in
theorem is_M_play : Cond.instanceMethod y_M_play ∈ WS := (tb_in (i := 715) rfl (by decide +kernel))
set_option maxRecDepth 20000 in
theorem se_M_play : Cond.instanceMethod y_M_play ∈ WS ∧ Cond.selects R_M y_M_play y_M_play ∈ WS := ⟨is_M_play, (tb_in (i := 716) rfl (by decide +kernel))⟩
set_option maxRecDepth 20000 in
theorem cd_M_addOnset : xw_code y_M_addOnset b_M_addOnset 11 none 4 := ⟨(tb_in (i := 676) rfl (by decide +kernel)), (tb_in (i := 8) rfl (by decide +kernel)), by decide, by decide, by decide +kernel⟩
set_option maxRecDepth 20000 in
theorem is_M_addOnset : Cond.instanceMethod y_M_addOnset ∈ WS := (tb_in (i := 675) rfl (by decide +kernel))
set_option maxRecDepth 20000 in
theorem se_M_addOnset : Cond.instanceMethod y_M_addOnset ∈ WS ∧ Cond.selects R_M y_M_addOnset y_M_addOnset ∈ WS := ⟨is_M_addOnset, pv_in (y := y_M_addOnset) (n := 45) (i := 33) rfl⟩
set_option maxRecDepth 20000 in
theorem cd_M_isLater : xw_code y_M_isLater b_M_isLater 9 (some .boolean) 6 := ⟨(tb_in (i := 680) rfl (by decide +kernel)), (tb_in (i := 8) rfl (by decide +kernel)), by decide, by decide, by decide +kernel⟩
set_option maxRecDepth 20000 in
theorem is_M_isLater : Cond.instanceMethod y_M_isLater ∈ WS := (tb_in (i := 679) rfl (by decide +kernel))
set_option maxRecDepth 20000 in
theorem se_M_isLater : Cond.instanceMethod y_M_isLater ∈ WS ∧ Cond.selects R_M y_M_isLater y_M_isLater ∈ WS := ⟨is_M_isLater, pv_in (y := y_M_isLater) (n := 45) (i := 34) rfl⟩
set_option maxRecDepth 20000 in
theorem cd_M_advance : xw_code y_M_advance b_M_advance 3 (some .int) 1 := ⟨(tb_in (i := 721) rfl (by decide +kernel)), (tb_in (i := 8) rfl (by decide +kernel)), by decide, by decide, by decide +kernel⟩
set_option maxRecDepth 20000 in
theorem is_M_advance : Cond.instanceMethod y_M_advance ∈ WS := (tb_in (i := 719) rfl (by decide +kernel))
set_option maxRecDepth 20000 in
theorem se_M_advance : Cond.instanceMethod y_M_advance ∈ WS ∧ Cond.selects R_M y_M_advance y_M_advance ∈ WS := ⟨is_M_advance, (tb_in (i := 720) rfl (by decide +kernel))⟩
set_option maxRecDepth 20000 in
theorem cd_M_due : xw_code y_M_due b_M_due 3 (some .int) 2 := ⟨(tb_in (i := 726) rfl (by decide +kernel)), (tb_in (i := 8) rfl (by decide +kernel)), by decide, by decide, by decide +kernel⟩
set_option maxRecDepth 20000 in
theorem is_M_due : Cond.instanceMethod y_M_due ∈ WS := (tb_in (i := 724) rfl (by decide +kernel))
set_option maxRecDepth 20000 in
theorem se_M_due : Cond.instanceMethod y_M_due ∈ WS ∧ Cond.selects R_M y_M_due y_M_due ∈ WS := ⟨is_M_due, (tb_in (i := 725) rfl (by decide +kernel))⟩
set_option maxRecDepth 20000 in
theorem cd_M_tick : xw_code y_M_tick b_M_tick 1 (some .int) 0 := ⟨(tb_in (i := 730) rfl (by decide +kernel)), (tb_in (i := 8) rfl (by decide +kernel)), by decide, by decide, by decide +kernel⟩
set_option maxRecDepth 20000 in
theorem is_M_tick : Cond.instanceMethod y_M_tick ∈ WS := (tb_in (i := 728) rfl (by decide +kernel))
set_option maxRecDepth 20000 in
theorem se_M_tick : Cond.instanceMethod y_M_tick ∈ WS ∧ Cond.selects R_M y_M_tick y_M_tick ∈ WS := ⟨is_M_tick, (tb_in (i := 729) rfl (by decide +kernel))⟩
set_option maxRecDepth 20000 in
theorem cd_N_init : xw_code y_N_init b_N_init 3 none 2 := ⟨(tb_in (i := 47) rfl (by decide +kernel)), (tb_in (i := 3) rfl (by decide +kernel)), by decide, by decide, by decide +kernel⟩
set_option maxRecDepth 20000 in
theorem is_N_init : Cond.instanceMethod y_N_init ∈ WS := (tb_in (i := 46) rfl (by decide +kernel))
set_option maxRecDepth 20000 in
theorem cd_N_isLetter : xw_code y_N_isLetter b_N_isLetter 1 (some .boolean) 1 := ⟨(tb_in (i := 52) rfl (by decide +kernel)), (tb_in (i := 3) rfl (by decide +kernel)), by decide, by decide, by decide +kernel⟩
set_option maxRecDepth 20000 in
theorem ss_N_isLetter : Cond.static y_N_isLetter ∈ WS := (tb_in (i := 51) rfl (by decide +kernel))
set_option maxRecDepth 20000 in
theorem cd_N_add : xw_code y_N_add b_N_add 2 (some .boolean) 1 := ⟨(tb_in (i := 234) rfl (by decide +kernel)), (tb_in (i := 3) rfl (by decide +kernel)), by decide, by decide, by decide +kernel⟩
set_option maxRecDepth 20000 in
theorem is_N_add : Cond.instanceMethod y_N_add ∈ WS := (tb_in (i := 232) rfl (by decide +kernel))
set_option maxRecDepth 20000 in
theorem se_N_add : Cond.instanceMethod y_N_add ∈ WS ∧ Cond.selects R_N y_N_add y_N_add ∈ WS := ⟨is_N_add, (tb_in (i := 233) rfl (by decide +kernel))⟩
set_option maxRecDepth 20000 in
theorem cd_N_canSound : xw_code y_N_canSound b_N_canSound 1 (some .boolean) 0 := ⟨(tb_in (i := 238) rfl (by decide +kernel)), (tb_in (i := 3) rfl (by decide +kernel)), by decide, by decide, by decide +kernel⟩
set_option maxRecDepth 20000 in
theorem is_N_canSound : Cond.instanceMethod y_N_canSound ∈ WS := (tb_in (i := 236) rfl (by decide +kernel))
set_option maxRecDepth 20000 in
theorem se_N_canSound : Cond.instanceMethod y_N_canSound ∈ WS ∧ Cond.selects R_N y_N_canSound y_N_canSound ∈ WS := ⟨is_N_canSound, (tb_in (i := 237) rfl (by decide +kernel))⟩
set_option maxRecDepth 20000 in
theorem cd_N_innerAt : xw_code y_N_innerAt b_N_innerAt 2 (some (.object "CyclePatterns$Node")) 1 := ⟨(tb_in (i := 301) rfl (by decide +kernel)), (tb_in (i := 3) rfl (by decide +kernel)), by decide, by decide, by decide +kernel⟩
set_option maxRecDepth 20000 in
theorem is_N_innerAt : Cond.instanceMethod y_N_innerAt ∈ WS := (tb_in (i := 299) rfl (by decide +kernel))
set_option maxRecDepth 20000 in
theorem se_N_innerAt : Cond.instanceMethod y_N_innerAt ∈ WS ∧ Cond.selects R_N y_N_innerAt y_N_innerAt ∈ WS := ⟨is_N_innerAt, (tb_in (i := 300) rfl (by decide +kernel))⟩
set_option maxRecDepth 20000 in
theorem cd_N_inStep : xw_code y_N_inStep b_N_inStep 2 (some (.object "CyclePatterns$Node")) 1 := ⟨(tb_in (i := 324) rfl (by decide +kernel)), (tb_in (i := 3) rfl (by decide +kernel)), by decide, by decide, by decide +kernel⟩
set_option maxRecDepth 20000 in
theorem is_N_inStep : Cond.instanceMethod y_N_inStep ∈ WS := (tb_in (i := 322) rfl (by decide +kernel))
set_option maxRecDepth 20000 in
theorem se_N_inStep : Cond.instanceMethod y_N_inStep ∈ WS ∧ Cond.selects R_N y_N_inStep y_N_inStep ∈ WS := ⟨is_N_inStep, (tb_in (i := 323) rfl (by decide +kernel))⟩
set_option maxRecDepth 20000 in
theorem cd_On_init : xw_code y_On_init b_On_init 1 none 0 := ⟨(tb_in (i := 134) rfl (by decide +kernel)), (tb_in (i := 7) rfl (by decide +kernel)), by decide, by decide, by decide +kernel⟩
set_option maxRecDepth 20000 in
theorem is_On_init : Cond.instanceMethod y_On_init ∈ WS := (tb_in (i := 133) rfl (by decide +kernel))
set_option maxRecDepth 20000 in
theorem cd_On_hear : xw_code y_On_hear b_On_hear 10 none 5 := ⟨(tb_in (i := 351) rfl (by decide +kernel)), (tb_in (i := 7) rfl (by decide +kernel)), by decide, by decide, by decide +kernel⟩
set_option maxRecDepth 20000 in
theorem is_On_hear : Cond.instanceMethod y_On_hear ∈ WS := (tb_in (i := 350) rfl (by decide +kernel))
set_option maxRecDepth 20000 in
theorem cd_Pa_init : xw_code y_Pa_init b_Pa_init 1 none 0 := ⟨(tb_in (i := 88) rfl (by decide +kernel)), (tb_in (i := 5) rfl (by decide +kernel)), by decide, by decide, by decide +kernel⟩
set_option maxRecDepth 20000 in
theorem is_Pa_init : Cond.instanceMethod y_Pa_init ∈ WS := (tb_in (i := 87) rfl (by decide +kernel))
set_option maxRecDepth 20000 in
theorem cd_Pa_gather : xw_code y_Pa_gather b_Pa_gather 8 (some .boolean) 4 := ⟨(tb_in (i := 289) rfl (by decide +kernel)), (tb_in (i := 5) rfl (by decide +kernel)), by decide, by decide, by decide +kernel⟩
set_option maxRecDepth 20000 in
theorem is_Pa_gather : Cond.instanceMethod y_Pa_gather ∈ WS := (tb_in (i := 287) rfl (by decide +kernel))
set_option maxRecDepth 20000 in
theorem se_Pa_gather : Cond.instanceMethod y_Pa_gather ∈ WS ∧ Cond.selects R_Pa y_Pa_gather y_Pa_gather ∈ WS := ⟨is_Pa_gather, (tb_in (i := 288) rfl (by decide +kernel))⟩
set_option maxRecDepth 20000 in
theorem cd_Pa_hear : xw_code y_Pa_hear b_Pa_hear 10 none 5 := ⟨(tb_in (i := 366) rfl (by decide +kernel)), (tb_in (i := 5) rfl (by decide +kernel)), by decide, by decide, by decide +kernel⟩
set_option maxRecDepth 20000 in
theorem is_Pa_hear : Cond.instanceMethod y_Pa_hear ∈ WS := (tb_in (i := 365) rfl (by decide +kernel))
set_option maxRecDepth 20000 in
theorem cd_Rd_init : xw_code y_Rd_init b_Rd_init 1 none 0 := ⟨(tb_in (i := 23) rfl (by decide +kernel)), (tb_in (i := 2) rfl (by decide +kernel)), by decide, by decide, by decide +kernel⟩
set_option maxRecDepth 20000 in
theorem is_Rd_init : Cond.instanceMethod y_Rd_init ∈ WS := (tb_in (i := 22) rfl (by decide +kernel))
set_option maxRecDepth 20000 in
theorem cd_Rd_areTypeable : xw_code y_Rd_areTypeable b_Rd_areTypeable 5 (some .boolean) 2 := ⟨(tb_in (i := 189) rfl (by decide +kernel)), (tb_in (i := 2) rfl (by decide +kernel)), by decide, by decide, by decide +kernel⟩
set_option maxRecDepth 20000 in
theorem ss_Rd_areTypeable : Cond.static y_Rd_areTypeable ∈ WS := (tb_in (i := 188) rfl (by decide +kernel))
set_option maxRecDepth 20000 in
theorem cd_Rd_signAt : xw_code y_Rd_signAt b_Rd_signAt 3 (some .char) 2 := ⟨(tb_in (i := 192) rfl (by decide +kernel)), (tb_in (i := 2) rfl (by decide +kernel)), by decide, by decide, by decide +kernel⟩
set_option maxRecDepth 20000 in
theorem ss_Rd_signAt : Cond.static y_Rd_signAt ∈ WS := (tb_in (i := 191) rfl (by decide +kernel))
set_option maxRecDepth 20000 in
theorem cd_Rd_append : xw_code y_Rd_append b_Rd_append 5 (some .boolean) 2 := ⟨(tb_in (i := 197) rfl (by decide +kernel)), (tb_in (i := 2) rfl (by decide +kernel)), by decide, by decide, by decide +kernel⟩
set_option maxRecDepth 20000 in
theorem is_Rd_append : Cond.instanceMethod y_Rd_append ∈ WS := (tb_in (i := 195) rfl (by decide +kernel))
set_option maxRecDepth 20000 in
theorem se_Rd_append : Cond.instanceMethod y_Rd_append ∈ WS ∧ Cond.selects R_Rd y_Rd_append y_Rd_append ∈ WS := ⟨is_Rd_append, (tb_in (i := 196) rfl (by decide +kernel))⟩
set_option maxRecDepth 20000 in
theorem cd_Rd_clear : xw_code y_Rd_clear b_Rd_clear 1 none 0 := ⟨(tb_in (i := 278) rfl (by decide +kernel)), (tb_in (i := 2) rfl (by decide +kernel)), by decide, by decide, by decide +kernel⟩
set_option maxRecDepth 20000 in
theorem is_Rd_clear : Cond.instanceMethod y_Rd_clear ∈ WS := (tb_in (i := 276) rfl (by decide +kernel))
set_option maxRecDepth 20000 in
theorem se_Rd_clear : Cond.instanceMethod y_Rd_clear ∈ WS ∧ Cond.selects R_Rd y_Rd_clear y_Rd_clear ∈ WS := ⟨is_Rd_clear, (tb_in (i := 277) rfl (by decide +kernel))⟩
set_option maxRecDepth 20000 in
theorem cd_Rd_read : xw_code y_Rd_read b_Rd_read 2 (some (.object "CyclePatterns$Node")) 0 := ⟨(tb_in (i := 216) rfl (by decide +kernel)), (tb_in (i := 2) rfl (by decide +kernel)), by decide, by decide, by decide +kernel⟩
set_option maxRecDepth 20000 in
theorem is_Rd_read : Cond.instanceMethod y_Rd_read ∈ WS := (tb_in (i := 214) rfl (by decide +kernel))
set_option maxRecDepth 20000 in
theorem se_Rd_read : Cond.instanceMethod y_Rd_read ∈ WS ∧ Cond.selects R_Rd y_Rd_read y_Rd_read ∈ WS := ⟨is_Rd_read, (tb_in (i := 215) rfl (by decide +kernel))⟩
set_option maxRecDepth 20000 in
theorem cd_Rd_readPattern : xw_code y_Rd_readPattern b_Rd_readPattern 3 (some (.object "CyclePatterns$Node")) 1 := ⟨(tb_in (i := 220) rfl (by decide +kernel)), (tb_in (i := 2) rfl (by decide +kernel)), by decide, by decide, by decide +kernel⟩
set_option maxRecDepth 20000 in
theorem is_Rd_readPattern : Cond.instanceMethod y_Rd_readPattern ∈ WS := (tb_in (i := 219) rfl (by decide +kernel))
set_option maxRecDepth 20000 in
theorem se_Rd_readPattern : Cond.instanceMethod y_Rd_readPattern ∈ WS ∧ Cond.selects R_Rd y_Rd_readPattern y_Rd_readPattern ∈ WS := ⟨is_Rd_readPattern, pv_in (y := y_Rd_readPattern) (n := 4) (i := 1) rfl⟩
set_option maxRecDepth 20000 in
theorem cd_Rd_readLetterOrRest : xw_code y_Rd_readLetterOrRest b_Rd_readLetterOrRest 2 (some (.object "CyclePatterns$Node")) 1 := ⟨(tb_in (i := 273) rfl (by decide +kernel)), (tb_in (i := 2) rfl (by decide +kernel)), by decide, by decide, by decide +kernel⟩
set_option maxRecDepth 20000 in
theorem is_Rd_readLetterOrRest : Cond.instanceMethod y_Rd_readLetterOrRest ∈ WS := (tb_in (i := 272) rfl (by decide +kernel))
set_option maxRecDepth 20000 in
theorem se_Rd_readLetterOrRest : Cond.instanceMethod y_Rd_readLetterOrRest ∈ WS ∧ Cond.selects R_Rd y_Rd_readLetterOrRest y_Rd_readLetterOrRest ∈ WS := ⟨is_Rd_readLetterOrRest, pv_in (y := y_Rd_readLetterOrRest) (n := 4) (i := 11) rfl⟩
set_option maxRecDepth 20000 in
theorem cd_Rd_readGroup : xw_code y_Rd_readGroup b_Rd_readGroup 6 (some (.object "CyclePatterns$Node")) 3 := ⟨(tb_in (i := 224) rfl (by decide +kernel)), (tb_in (i := 2) rfl (by decide +kernel)), by decide, by decide, by decide +kernel⟩
set_option maxRecDepth 20000 in
theorem is_Rd_readGroup : Cond.instanceMethod y_Rd_readGroup ∈ WS := (tb_in (i := 223) rfl (by decide +kernel))
set_option maxRecDepth 20000 in
theorem se_Rd_readGroup : Cond.instanceMethod y_Rd_readGroup ∈ WS ∧ Cond.selects R_Rd y_Rd_readGroup y_Rd_readGroup ∈ WS := ⟨is_Rd_readGroup, pv_in (y := y_Rd_readGroup) (n := 4) (i := 2) rfl⟩
set_option maxRecDepth 20000 in
theorem cd_Rd_isAt : xw_code y_Rd_isAt b_Rd_isAt 2 (some .boolean) 1 := ⟨(tb_in (i := 230) rfl (by decide +kernel)), (tb_in (i := 2) rfl (by decide +kernel)), by decide, by decide, by decide +kernel⟩
set_option maxRecDepth 20000 in
theorem is_Rd_isAt : Cond.instanceMethod y_Rd_isAt ∈ WS := (tb_in (i := 229) rfl (by decide +kernel))
set_option maxRecDepth 20000 in
theorem se_Rd_isAt : Cond.instanceMethod y_Rd_isAt ∈ WS ∧ Cond.selects R_Rd y_Rd_isAt y_Rd_isAt ∈ WS := ⟨is_Rd_isAt, pv_in (y := y_Rd_isAt) (n := 4) (i := 3) rfl⟩
set_option maxRecDepth 20000 in
theorem cd_Rd_readOperator : xw_code y_Rd_readOperator b_Rd_readOperator 6 (some (.object "CyclePatterns$Node")) 3 := ⟨(tb_in (i := 246) rfl (by decide +kernel)), (tb_in (i := 2) rfl (by decide +kernel)), by decide, by decide, by decide +kernel⟩
set_option maxRecDepth 20000 in
theorem is_Rd_readOperator : Cond.instanceMethod y_Rd_readOperator ∈ WS := (tb_in (i := 245) rfl (by decide +kernel))
set_option maxRecDepth 20000 in
theorem se_Rd_readOperator : Cond.instanceMethod y_Rd_readOperator ∈ WS ∧ Cond.selects R_Rd y_Rd_readOperator y_Rd_readOperator ∈ WS := ⟨is_Rd_readOperator, pv_in (y := y_Rd_readOperator) (n := 4) (i := 5) rfl⟩
set_option maxRecDepth 20000 in
theorem cd_Rd_readDigits : xw_code y_Rd_readDigits b_Rd_readDigits 2 (some .boolean) 1 := ⟨(tb_in (i := 250) rfl (by decide +kernel)), (tb_in (i := 2) rfl (by decide +kernel)), by decide, by decide, by decide +kernel⟩
set_option maxRecDepth 20000 in
theorem is_Rd_readDigits : Cond.instanceMethod y_Rd_readDigits ∈ WS := (tb_in (i := 249) rfl (by decide +kernel))
set_option maxRecDepth 20000 in
theorem se_Rd_readDigits : Cond.instanceMethod y_Rd_readDigits ∈ WS ∧ Cond.selects R_Rd y_Rd_readDigits y_Rd_readDigits ∈ WS := ⟨is_Rd_readDigits, pv_in (y := y_Rd_readDigits) (n := 4) (i := 6) rfl⟩
set_option maxRecDepth 20000 in
theorem cd_Rd_readK : xw_code y_Rd_readK b_Rd_readK 3 (some .boolean) 2 := ⟨(tb_in (i := 254) rfl (by decide +kernel)), (tb_in (i := 2) rfl (by decide +kernel)), by decide, by decide, by decide +kernel⟩
set_option maxRecDepth 20000 in
theorem is_Rd_readK : Cond.instanceMethod y_Rd_readK ∈ WS := (tb_in (i := 253) rfl (by decide +kernel))
set_option maxRecDepth 20000 in
theorem se_Rd_readK : Cond.instanceMethod y_Rd_readK ∈ WS ∧ Cond.selects R_Rd y_Rd_readK y_Rd_readK ∈ WS := ⟨is_Rd_readK, pv_in (y := y_Rd_readK) (n := 4) (i := 7) rfl⟩
set_option maxRecDepth 20000 in
theorem cd_Rd_readN : xw_code y_Rd_readN b_Rd_readN 3 (some .boolean) 2 := ⟨(tb_in (i := 262) rfl (by decide +kernel)), (tb_in (i := 2) rfl (by decide +kernel)), by decide, by decide, by decide +kernel⟩
set_option maxRecDepth 20000 in
theorem is_Rd_readN : Cond.instanceMethod y_Rd_readN ∈ WS := (tb_in (i := 261) rfl (by decide +kernel))
set_option maxRecDepth 20000 in
theorem se_Rd_readN : Cond.instanceMethod y_Rd_readN ∈ WS ∧ Cond.selects R_Rd y_Rd_readN y_Rd_readN ∈ WS := ⟨is_Rd_readN, pv_in (y := y_Rd_readN) (n := 4) (i := 9) rfl⟩
set_option maxRecDepth 20000 in
theorem cd_Rd_readR : xw_code y_Rd_readR b_Rd_readR 2 (some .boolean) 1 := ⟨(tb_in (i := 269) rfl (by decide +kernel)), (tb_in (i := 2) rfl (by decide +kernel)), by decide, by decide, by decide +kernel⟩
set_option maxRecDepth 20000 in
theorem is_Rd_readR : Cond.instanceMethod y_Rd_readR ∈ WS := (tb_in (i := 268) rfl (by decide +kernel))
set_option maxRecDepth 20000 in
theorem se_Rd_readR : Cond.instanceMethod y_Rd_readR ∈ WS ∧ Cond.selects R_Rd y_Rd_readR y_Rd_readR ∈ WS := ⟨is_Rd_readR, pv_in (y := y_Rd_readR) (n := 4) (i := 10) rfl⟩
set_option maxRecDepth 20000 in
theorem cd_Rd_readDigit : xw_code y_Rd_readDigit b_Rd_readDigit 3 (some .int) 1 := ⟨(tb_in (i := 258) rfl (by decide +kernel)), (tb_in (i := 2) rfl (by decide +kernel)), by decide, by decide, by decide +kernel⟩
set_option maxRecDepth 20000 in
theorem is_Rd_readDigit : Cond.instanceMethod y_Rd_readDigit ∈ WS := (tb_in (i := 257) rfl (by decide +kernel))
set_option maxRecDepth 20000 in
theorem se_Rd_readDigit : Cond.instanceMethod y_Rd_readDigit ∈ WS ∧ Cond.selects R_Rd y_Rd_readDigit y_Rd_readDigit ∈ WS := ⟨is_Rd_readDigit, pv_in (y := y_Rd_readDigit) (n := 4) (i := 8) rfl⟩
set_option maxRecDepth 20000 in
theorem cd_Rd_refineGrain : xw_code y_Rd_refineGrain b_Rd_refineGrain 2 (some .boolean) 1 := ⟨(tb_in (i := 242) rfl (by decide +kernel)), (tb_in (i := 2) rfl (by decide +kernel)), by decide, by decide, by decide +kernel⟩
set_option maxRecDepth 20000 in
theorem is_Rd_refineGrain : Cond.instanceMethod y_Rd_refineGrain ∈ WS := (tb_in (i := 241) rfl (by decide +kernel))
set_option maxRecDepth 20000 in
theorem se_Rd_refineGrain : Cond.instanceMethod y_Rd_refineGrain ∈ WS ∧ Cond.selects R_Rd y_Rd_refineGrain y_Rd_refineGrain ∈ WS := ⟨is_Rd_refineGrain, pv_in (y := y_Rd_refineGrain) (n := 4) (i := 4) rfl⟩
set_option maxRecDepth 20000 in
theorem cd_Rw_init : xw_code y_Rw_init b_Rw_init 2 none 1 := ⟨(tb_in (i := 97) rfl (by decide +kernel)), (tb_in (i := 6) rfl (by decide +kernel)), by decide, by decide, by decide +kernel⟩
set_option maxRecDepth 20000 in
theorem is_Rw_init : Cond.instanceMethod y_Rw_init ∈ WS := (tb_in (i := 96) rfl (by decide +kernel))
set_option maxRecDepth 20000 in
theorem cd_Rw_clear : xw_code y_Rw_clear b_Rw_clear 1 none 0 := ⟨(tb_in (i := 212) rfl (by decide +kernel)), (tb_in (i := 6) rfl (by decide +kernel)), by decide, by decide, by decide +kernel⟩
set_option maxRecDepth 20000 in
theorem is_Rw_clear : Cond.instanceMethod y_Rw_clear ∈ WS := (tb_in (i := 210) rfl (by decide +kernel))
set_option maxRecDepth 20000 in
theorem se_Rw_clear : Cond.instanceMethod y_Rw_clear ∈ WS ∧ Cond.selects R_Rw y_Rw_clear y_Rw_clear ∈ WS := ⟨is_Rw_clear, (tb_in (i := 211) rfl (by decide +kernel))⟩
set_option maxRecDepth 20000 in
theorem cd_Rw_has : xw_code y_Rw_has b_Rw_has 2 (some .boolean) 1 := ⟨(tb_in (i := 381) rfl (by decide +kernel)), (tb_in (i := 6) rfl (by decide +kernel)), by decide, by decide, by decide +kernel⟩
set_option maxRecDepth 20000 in
theorem is_Rw_has : Cond.instanceMethod y_Rw_has ∈ WS := (tb_in (i := 379) rfl (by decide +kernel))
set_option maxRecDepth 20000 in
theorem se_Rw_has : Cond.instanceMethod y_Rw_has ∈ WS ∧ Cond.selects R_Rw y_Rw_has y_Rw_has ∈ WS := ⟨is_Rw_has, (tb_in (i := 380) rfl (by decide +kernel))⟩
set_option maxRecDepth 20000 in
theorem cd_Rw_value : xw_code y_Rw_value b_Rw_value 3 (some .long) 2 := ⟨(tb_in (i := 385) rfl (by decide +kernel)), (tb_in (i := 6) rfl (by decide +kernel)), by decide, by decide, by decide +kernel⟩
set_option maxRecDepth 20000 in
theorem is_Rw_value : Cond.instanceMethod y_Rw_value ∈ WS := (tb_in (i := 383) rfl (by decide +kernel))
set_option maxRecDepth 20000 in
theorem se_Rw_value : Cond.instanceMethod y_Rw_value ∈ WS ∧ Cond.selects R_Rw y_Rw_value y_Rw_value ∈ WS := ⟨is_Rw_value, (tb_in (i := 384) rfl (by decide +kernel))⟩
set_option maxRecDepth 20000 in
theorem cd_Rw_add : xw_code y_Rw_add b_Rw_add 14 none 5 := ⟨(tb_in (i := 356) rfl (by decide +kernel)), (tb_in (i := 6) rfl (by decide +kernel)), by decide, by decide, by decide +kernel⟩
set_option maxRecDepth 20000 in
theorem is_Rw_add : Cond.instanceMethod y_Rw_add ∈ WS := (tb_in (i := 354) rfl (by decide +kernel))
set_option maxRecDepth 20000 in
theorem se_Rw_add : Cond.instanceMethod y_Rw_add ∈ WS ∧ Cond.selects R_Rw y_Rw_add y_Rw_add ∈ WS := ⟨is_Rw_add, (tb_in (i := 355) rfl (by decide +kernel))⟩
set_option maxRecDepth 20000 in
theorem cd_Rw_isNewestBefore : xw_code y_Rw_isNewestBefore b_Rw_isNewestBefore 7 (some .boolean) 1 := ⟨(tb_in (i := 360) rfl (by decide +kernel)), (tb_in (i := 6) rfl (by decide +kernel)), by decide, by decide, by decide +kernel⟩
set_option maxRecDepth 20000 in
theorem is_Rw_isNewestBefore : Cond.instanceMethod y_Rw_isNewestBefore ∈ WS := (tb_in (i := 359) rfl (by decide +kernel))
set_option maxRecDepth 20000 in
theorem se_Rw_isNewestBefore : Cond.instanceMethod y_Rw_isNewestBefore ∈ WS ∧ Cond.selects R_Rw y_Rw_isNewestBefore y_Rw_isNewestBefore ∈ WS := ⟨is_Rw_isNewestBefore, pv_in (y := y_Rw_isNewestBefore) (n := 5) (i := 12) rfl⟩
set_option maxRecDepth 20000 in
theorem cd_Rw_sameAs : xw_code y_Rw_sameAs b_Rw_sameAs 4 (some .boolean) 1 := ⟨(tb_in (i := 398) rfl (by decide +kernel)), (tb_in (i := 6) rfl (by decide +kernel)), by decide, by decide, by decide +kernel⟩
set_option maxRecDepth 20000 in
theorem is_Rw_sameAs : Cond.instanceMethod y_Rw_sameAs ∈ WS := (tb_in (i := 396) rfl (by decide +kernel))
set_option maxRecDepth 20000 in
theorem se_Rw_sameAs : Cond.instanceMethod y_Rw_sameAs ∈ WS ∧ Cond.selects R_Rw y_Rw_sameAs y_Rw_sameAs ∈ WS := ⟨is_Rw_sameAs, (tb_in (i := 397) rfl (by decide +kernel))⟩
set_option maxRecDepth 20000 in
theorem cd_Wk_init : xw_code y_Wk_init b_Wk_init 2 none 1 := ⟨(tb_in (i := 91) rfl (by decide +kernel)), (tb_in (i := 4) rfl (by decide +kernel)), by decide, by decide, by decide +kernel⟩
set_option maxRecDepth 20000 in
theorem is_Wk_init : Cond.instanceMethod y_Wk_init ∈ WS := (tb_in (i := 90) rfl (by decide +kernel))
set_option maxRecDepth 20000 in
theorem cd_Wk_walk : xw_code y_Wk_walk b_Wk_walk 14 none 6 := ⟨(tb_in (i := 296) rfl (by decide +kernel)), (tb_in (i := 4) rfl (by decide +kernel)), by decide, by decide, by decide +kernel⟩
set_option maxRecDepth 20000 in
theorem is_Wk_walk : Cond.instanceMethod y_Wk_walk ∈ WS := (tb_in (i := 295) rfl (by decide +kernel))
set_option maxRecDepth 20000 in
theorem cd_Wk_walkCycles : xw_code y_Wk_walkCycles b_Wk_walkCycles 20 none 6 := ⟨(tb_in (i := 306) rfl (by decide +kernel)), (tb_in (i := 4) rfl (by decide +kernel)), by decide, by decide, by decide +kernel⟩
set_option maxRecDepth 20000 in
theorem is_Wk_walkCycles : Cond.instanceMethod y_Wk_walkCycles ∈ WS := (tb_in (i := 305) rfl (by decide +kernel))
set_option maxRecDepth 20000 in
theorem cd_Wk_walkCycle : xw_code y_Wk_walkCycle b_Wk_walkCycle 19 none 7 := ⟨(tb_in (i := 316) rfl (by decide +kernel)), (tb_in (i := 4) rfl (by decide +kernel)), by decide, by decide, by decide +kernel⟩
set_option maxRecDepth 20000 in
theorem is_Wk_walkCycle : Cond.instanceMethod y_Wk_walkCycle ∈ WS := (tb_in (i := 315) rfl (by decide +kernel))
set_option maxRecDepth 20000 in
theorem cd_Wk_walkSteps : xw_code y_Wk_walkSteps b_Wk_walkSteps 20 none 7 := ⟨(tb_in (i := 320) rfl (by decide +kernel)), (tb_in (i := 4) rfl (by decide +kernel)), by decide, by decide, by decide +kernel⟩
set_option maxRecDepth 20000 in
theorem is_Wk_walkSteps : Cond.instanceMethod y_Wk_walkSteps ∈ WS := (tb_in (i := 319) rfl (by decide +kernel))
set_option maxRecDepth 20000 in
theorem cd_Wk_walkInto : xw_code y_Wk_walkInto b_Wk_walkInto 17 none 7 := ⟨(tb_in (i := 329) rfl (by decide +kernel)), (tb_in (i := 4) rfl (by decide +kernel)), by decide, by decide, by decide +kernel⟩
set_option maxRecDepth 20000 in
theorem is_Wk_walkInto : Cond.instanceMethod y_Wk_walkInto ∈ WS := (tb_in (i := 328) rfl (by decide +kernel))
set_option maxRecDepth 20000 in
theorem cd_Wk_begin : xw_code y_Wk_begin b_Wk_begin 6 (some .long) 3 := ⟨(tb_in (i := 332) rfl (by decide +kernel)), (tb_in (i := 4) rfl (by decide +kernel)), by decide, by decide, by decide +kernel⟩
set_option maxRecDepth 20000 in
theorem ss_Wk_begin : Cond.static y_Wk_begin ∈ WS := (tb_in (i := 331) rfl (by decide +kernel))
set_option maxRecDepth 20000 in
theorem cd_Wk_end : xw_code y_Wk_end b_Wk_end 6 (some .long) 3 := ⟨(tb_in (i := 338) rfl (by decide +kernel)), (tb_in (i := 4) rfl (by decide +kernel)), by decide, by decide, by decide +kernel⟩
set_option maxRecDepth 20000 in
theorem ss_Wk_end : Cond.static y_Wk_end ∈ WS := (tb_in (i := 337) rfl (by decide +kernel))
set_option maxRecDepth 20000 in
theorem cd_Jm_floorDiv : xw_code y_Jm_floorDiv b_Jm_floorDiv 6 (some .long) 2 := ⟨(tb_in (i := 312) rfl (by decide +kernel)), (tb_in (i := 9) rfl (by decide +kernel)), by decide, by decide, by decide +kernel⟩
set_option maxRecDepth 20000 in
theorem ss_Jm_floorDiv : Cond.static y_Jm_floorDiv ∈ WS := (tb_in (i := 311) rfl (by decide +kernel))
set_option maxRecDepth 20000 in
theorem cd_Jm_floorMod : xw_code y_Jm_floorMod b_Jm_floorMod 6 (some .long) 2 := ⟨(tb_in (i := 344) rfl (by decide +kernel)), (tb_in (i := 9) rfl (by decide +kernel)), by decide, by decide, by decide +kernel⟩
set_option maxRecDepth 20000 in
theorem ss_Jm_floorMod : Cond.static y_Jm_floorMod ∈ WS := (tb_in (i := 343) rfl (by decide +kernel))
set_option maxRecDepth 20000 in
theorem se_Wk_walkCycles_Pa : Cond.instanceMethod y_Wk_walkCycles ∈ WS ∧ Cond.selects R_Pa y_Wk_walkCycles y_Wk_walkCycles ∈ WS := ⟨is_Wk_walkCycles, xt_in (i := 0) rfl (by decide +kernel)⟩
set_option maxRecDepth 20000 in
theorem se_Wk_walkCycle_Pa : Cond.instanceMethod y_Wk_walkCycle ∈ WS ∧ Cond.selects R_Pa y_Wk_walkCycle y_Wk_walkCycle ∈ WS := ⟨is_Wk_walkCycle, xt_in (i := 1) rfl (by decide +kernel)⟩
set_option maxRecDepth 20000 in
theorem se_Wk_walkSteps_Pa : Cond.instanceMethod y_Wk_walkSteps ∈ WS ∧ Cond.selects R_Pa y_Wk_walkSteps y_Wk_walkSteps ∈ WS := ⟨is_Wk_walkSteps, xt_in (i := 2) rfl (by decide +kernel)⟩
set_option maxRecDepth 20000 in
theorem se_Wk_walkInto_Pa : Cond.instanceMethod y_Wk_walkInto ∈ WS ∧ Cond.selects R_Pa y_Wk_walkInto y_Wk_walkInto ∈ WS := ⟨is_Wk_walkInto, xt_in (i := 3) rfl (by decide +kernel)⟩
set_option maxRecDepth 20000 in
theorem se_Wk_walk_Pa : Cond.instanceMethod y_Wk_walk ∈ WS ∧ Cond.selects R_Pa y_Wk_walk y_Wk_walk ∈ WS := ⟨is_Wk_walk, (tb_in (i := 734) rfl (by decide +kernel))⟩
set_option maxRecDepth 20000 in
theorem se_Wk_walkCycles_On : Cond.instanceMethod y_Wk_walkCycles ∈ WS ∧ Cond.selects R_On y_Wk_walkCycles y_Wk_walkCycles ∈ WS := ⟨is_Wk_walkCycles, xt_in (i := 4) rfl (by decide +kernel)⟩
set_option maxRecDepth 20000 in
theorem se_Wk_walkCycle_On : Cond.instanceMethod y_Wk_walkCycle ∈ WS ∧ Cond.selects R_On y_Wk_walkCycle y_Wk_walkCycle ∈ WS := ⟨is_Wk_walkCycle, xt_in (i := 5) rfl (by decide +kernel)⟩
set_option maxRecDepth 20000 in
theorem se_Wk_walkSteps_On : Cond.instanceMethod y_Wk_walkSteps ∈ WS ∧ Cond.selects R_On y_Wk_walkSteps y_Wk_walkSteps ∈ WS := ⟨is_Wk_walkSteps, xt_in (i := 6) rfl (by decide +kernel)⟩
set_option maxRecDepth 20000 in
theorem se_Wk_walkInto_On : Cond.instanceMethod y_Wk_walkInto ∈ WS ∧ Cond.selects R_On y_Wk_walkInto y_Wk_walkInto ∈ WS := ⟨is_Wk_walkInto, xt_in (i := 7) rfl (by decide +kernel)⟩
set_option maxRecDepth 20000 in
theorem se_Wk_walk_On : Cond.instanceMethod y_Wk_walk ∈ WS ∧ Cond.selects R_On y_Wk_walk y_Wk_walk ∈ WS := ⟨is_Wk_walk, (tb_in (i := 733) rfl (by decide +kernel))⟩
set_option maxRecDepth 20000 in
theorem cl_L_7 : Cond.classLink R_L 7 R_X ∈ WS := (tb_in (i := 11) rfl (by decide +kernel))
set_option maxRecDepth 20000 in
theorem cl_X_7 : Cond.classLink R_X 7 R_Rd ∈ WS := (tb_in (i := 19) rfl (by decide +kernel))
set_option maxRecDepth 20000 in
theorem cl_X_16 : Cond.classLink R_X 16 R_N ∈ WS := (tb_in (i := 42) rfl (by decide +kernel))
set_option maxRecDepth 20000 in
theorem cl_N_8 : Cond.classLink R_N 8 R_N ∈ WS := (tb_in (i := 49) rfl (by decide +kernel))
set_option maxRecDepth 20000 in
theorem cl_X_29 : Cond.classLink R_X 29 R_Pa ∈ WS := (tb_in (i := 84) rfl (by decide +kernel))
set_option maxRecDepth 20000 in
theorem cl_Wk_7 : Cond.classLink R_Wk 7 R_Rw ∈ WS := (tb_in (i := 93) rfl (by decide +kernel))
set_option maxRecDepth 20000 in
theorem cl_X_46 : Cond.classLink R_X 46 R_On ∈ WS := (tb_in (i := 130) rfl (by decide +kernel))
set_option maxRecDepth 20000 in
theorem cl_Rd_48 : Cond.classLink R_Rd 48 R_N ∈ WS := (tb_in (i := 225) rfl (by decide +kernel))
set_option maxRecDepth 20000 in
theorem cl_L_10 : Cond.classLink R_L 10 R_M ∈ WS := (tb_in (i := 434) rfl (by decide +kernel))
set_option maxRecDepth 20000 in
theorem ib_X : Cond.instantiable R_X 12 ∈ WS := (tb_in (i := 12) rfl (by decide +kernel))
set_option maxRecDepth 20000 in
theorem ib_Rd : Cond.instantiable R_Rd 4 ∈ WS := (tb_in (i := 20) rfl (by decide +kernel))
set_option maxRecDepth 20000 in
theorem ib_N : Cond.instantiable R_N 7 ∈ WS := (tb_in (i := 44) rfl (by decide +kernel))
set_option maxRecDepth 20000 in
theorem ib_Pa : Cond.instantiable R_Pa 1 ∈ WS := (tb_in (i := 85) rfl (by decide +kernel))
set_option maxRecDepth 20000 in
theorem ib_Rw : Cond.instantiable R_Rw 5 ∈ WS := (tb_in (i := 94) rfl (by decide +kernel))
set_option maxRecDepth 20000 in
theorem ib_On : Cond.instantiable R_On 3 ∈ WS := (tb_in (i := 131) rfl (by decide +kernel))
set_option maxRecDepth 20000 in
theorem ib_M : Cond.instantiable R_M 45 ∈ WS := (tb_in (i := 435) rfl (by decide +kernel))
set_option maxRecDepth 20000 in
theorem it_L : Cond.initialized R_L ∈ WS := (tb_in (i := 0) rfl (by decide +kernel))
set_option maxRecDepth 20000 in
theorem it_X : Cond.initialized R_X ∈ WS := (tb_in (i := 1) rfl (by decide +kernel))
set_option maxRecDepth 20000 in
theorem it_Rd : Cond.initialized R_Rd ∈ WS := (tb_in (i := 2) rfl (by decide +kernel))
set_option maxRecDepth 20000 in
theorem it_N : Cond.initialized R_N ∈ WS := (tb_in (i := 3) rfl (by decide +kernel))
set_option maxRecDepth 20000 in
theorem it_Wk : Cond.initialized R_Wk ∈ WS := (tb_in (i := 4) rfl (by decide +kernel))
set_option maxRecDepth 20000 in
theorem it_Pa : Cond.initialized R_Pa ∈ WS := (tb_in (i := 5) rfl (by decide +kernel))
set_option maxRecDepth 20000 in
theorem it_Rw : Cond.initialized R_Rw ∈ WS := (tb_in (i := 6) rfl (by decide +kernel))
set_option maxRecDepth 20000 in
theorem it_On : Cond.initialized R_On ∈ WS := (tb_in (i := 7) rfl (by decide +kernel))
set_option maxRecDepth 20000 in
theorem it_M : Cond.initialized R_M ∈ WS := (tb_in (i := 8) rfl (by decide +kernel))
set_option maxRecDepth 20000 in
theorem it_Jm : Cond.initialized R_Jm ∈ WS := (tb_in (i := 9) rfl (by decide +kernel))
set_option maxRecDepth 20000 in
theorem ac_char : Cond.arrayClass .char ∈ WS := (tb_in (i := 41) rfl (by decide +kernel))
set_option maxRecDepth 20000 in
theorem ac_int : Cond.arrayClass .int ∈ WS := (tb_in (i := 83) rfl (by decide +kernel))
set_option maxRecDepth 20000 in
theorem ac_long : Cond.arrayClass .long ∈ WS := (tb_in (i := 119) rfl (by decide +kernel))
set_option maxRecDepth 20000 in
theorem ac_boolean : Cond.arrayClass .boolean ∈ WS := (tb_in (i := 576) rfl (by decide +kernel))
set_option maxRecDepth 20000 in
theorem k_Rd_19 : Cond.constantLong R_Rd 19 (xl_ 255) ∈ WS := by
  rw [show xl_ 255 = 255 by decide]
  exact (tb_in (i := 193) rfl (by decide +kernel))
set_option maxRecDepth 20000 in
theorem k_Wk_76 : Cond.constantLong R_Wk 76 (xl_ 2) ∈ WS := by
  rw [show xl_ 2 = 2 by decide]
  exact (tb_in (i := 345) rfl (by decide +kernel))
set_option maxRecDepth 20000 in
theorem k_X_141 : Cond.constantLong R_X 141 (xl_ 1000) ∈ WS := by
  rw [show xl_ 1000 = 1000 by decide]
  exact (tb_in (i := 416) rfl (by decide +kernel))
set_option maxRecDepth 20000 in
theorem k_X_152 : Cond.constantLong R_X 152 (xl_ (-1)) ∈ WS := by
  rw [show xl_ (-1) = (-1) by decide]
  exact (tb_in (i := 428) rfl (by decide +kernel))
set_option maxRecDepth 20000 in
theorem k_M_118 : Cond.constantLong R_M 118 (xl_ 255) ∈ WS := by
  rw [show xl_ 255 = 255 by decide]
  exact (tb_in (i := 581) rfl (by decide +kernel))
set_option maxRecDepth 20000 in
theorem k_M_210 : Cond.constantLong R_M 210 (xl_ 2) ∈ WS := by
  rw [show xl_ 2 = 2 by decide]
  exact (tb_in (i := 689) rfl (by decide +kernel))
set_option maxRecDepth 20000 in
theorem k_M_257 : Cond.constantLong R_M 257 (xl_ 1000) ∈ WS := by
  rw [show xl_ 1000 = 1000 by decide]
  exact (tb_in (i := 722) rfl (by decide +kernel))
set_option maxRecDepth 20000 in
theorem k_L_13 : Cond.constantLong R_L 13 (xl_ 4294967295) ∈ WS := by
  rw [show xl_ 4294967295 = 4294967295 by decide]
  exact (tb_in (i := 731) rfl (by decide +kernel))
