/-! constructors of Walk, Parts, Onsets; CyclePatterns: its small methods -/
/-- the fields of CyclePatterns -/
def xo_ (rd pa gs fo p1 p2 du : Nat) (fu pl sc ss tk : Int) : List Value := [.ref rd, .ref pa, .ref gs, .ref fo, .int (xi_ fu), .ref p1, .ref p2, .ref du, .int (xi_ pl), .int (xi_ sc), .int (xi_ ss), .long (xl_ tk)]
def rm_Wk_init (lim : Nat) : Room := { frames := 3, cells := 3, slots := lim * 6 + 5, locals := 60 }
def rm_Pa_init : Room := { frames := 4, cells := 3, slots := 1205, locals := 90 }
def rm_On_init : Room := { frames := 4, cells := 3, slots := 605, locals := 90 }
set_option maxHeartbeats 4000000 in
set_option maxRecDepth 100000 in
theorem c_Wk_init_Pa (l : Launch) (G : GG_) (sz : Nat) (o : Nat) : Met l y_Wk_init (cw_ y_Wk_init b_Wk_init 2 none) (rm_Wk_init 200) (xw_P G [.ref o, .int (xi_ 200)] sz [(o, .inr (4, [.null]))] (fun _ => True)) (xw_Qv (S := Nat × Nat × Nat) G sz [(o, .inr (4, [.null]))] (fun _ => True) (fun u => [(o, .inr (4, [.ref u.1])), (u.1, .inr (3, [.int (xi_ (200 : Int)), .ref u.2.1, .ref u.2.2, .int (xi_ 0), .int (xi_ 0)])), (u.2.1, .inl (G.2.2 1, (200 * 5), .inr (.inl (jl_ (fun _ => 0))))), (u.2.2, .inl (G.2.2 0, 200, .inl (ja_ (fun _ => 0))))]) (fun _ _ => True)) 3 1205 (va_A [(o, .inr (4, [.null]))] sz) := by
  refine xw_met (by decide) (Nat.le_of_ble_eq_true rfl) ?_
  intro p0 e0 s m0 args below meth c0 F hr hlk hin hsz hh hX ls hl
  subst hsz
  have hx := F.1
  have hb := F.2.1
  have hl : lv_has ls 2 [(0, .ref o), (1, .int (xi_ 200))] := hl
  refine lv_aload_n hx hb d_Wk_init_0 rfl (lv_at hl 0 rfl) ?_
  refine xw_obj F hl.1 lk_Wk_1' (Nat.le_of_ble_eq_true rfl) (Nat.le_of_ble_eq_true rfl) d_Wk_init_1 ?_
  refine lv_aload_n hx hb d_Wk_init_4 rfl (lv_at hl 0 rfl) ?_
  refine xw_new F hh mk_Wk_7 (Nat.le_of_ble_eq_true rfl) (Nat.le_of_ble_eq_true rfl) d_Wk_init_5 (fun q5 H hh => ?_)
  have hh : xw_H G (va_A [(o, .inr (4, [.null]))] s.heap.size) s.heap H _ [(o, .inr (4, [.null])), (q5, .inr (3, [.int (xi_ 0), .null, .null, .int (xi_ 0), .int (xi_ 0)]))] := hh
  refine lv_dup hx hb d_Wk_init_8 rfl ?_
  refine lv_iload_n hx hb d_Wk_init_9 rfl (lv_at hl 1 rfl) ?_
  refine xw_cv (wc := [(q5, .inr (3, [.int (xi_ 0), .null, .null, .int (xi_ 0), .int (xi_ 0)]))]) (wr := [(o, .inr (4, [.null]))]) hh [1] [0] rfl rfl rfl (by decide) (xw_rI F hh [1] rfl rfl (c_Rw_init l G H.size q5 200 (by omega)) trivial lk_Wk_9 cd_Rw_init ⟨is_Rw_init, rfl⟩ rfl rfl ⟨by decide, by decide⟩ rfl hl.1 rfl (Nat.le_of_ble_eq_true rfl) d_Wk_init_10 ⟨Nat.le_of_ble_eq_true rfl, Nat.le_of_ble_eq_true rfl⟩) (fun u H locs hp10 hX hz hk hh => ?_)
  have hh : xw_H G (va_A [(o, .inr (4, [.null]))] s.heap.size) s.heap H _ [(o, .inr (4, [.null])), (q5, .inr (3, [.int (xi_ (200 : Int)), .ref u.1, .ref u.2, .int (xi_ 0), .int (xi_ 0)])), (u.1, .inl (G.2.2 1, (200 * 5), .inr (.inl (jl_ (fun _ => 0))))), (u.2, .inl (G.2.2 0, 200, .inl (ja_ (fun _ => 0))))] := hh
  refine xw_putF F hh hin ff_Wk_12_4 0 rfl rfl rfl (Nat.le_of_ble_eq_true rfl) d_Wk_init_13 (fun H locs hh => ?_)
  have hh : xw_H G (va_A [(o, .inr (4, [.null]))] s.heap.size) s.heap H _ [(o, .inr (4, [.ref q5])), (q5, .inr (3, [.int (xi_ (200 : Int)), .ref u.1, .ref u.2, .int (xi_ 0), .int (xi_ 0)])), (u.1, .inl (G.2.2 1, (200 * 5), .inr (.inl (jl_ (fun _ => 0))))), (u.2, .inl (G.2.2 0, 200, .inl (ja_ (fun _ => 0))))] := hh
  exact xw_vret F hr hlk hh (q5, u.1, u.2) rfl trivial trivial d_Wk_init_16
set_option maxHeartbeats 4000000 in
set_option maxRecDepth 100000 in
theorem c_Pa_init (l : Launch) (G : GG_) (sz : Nat) (o : Nat) : Met l y_Pa_init (cw_ y_Pa_init b_Pa_init 1 none) rm_Pa_init (xw_P G [.ref o] sz [(o, .inr (4, [.null]))] (fun _ => True)) (xw_Qv (S := Nat × Nat × Nat) G sz [(o, .inr (4, [.null]))] (fun _ => True) (fun u => [(o, .inr (4, [.ref u.1])), (u.1, .inr (3, [.int (xi_ (200 : Int)), .ref u.2.1, .ref u.2.2, .int (xi_ 0), .int (xi_ 0)])), (u.2.1, .inl (G.2.2 1, (200 * 5), .inr (.inl (jl_ (fun _ => 0))))), (u.2.2, .inl (G.2.2 0, 200, .inl (ja_ (fun _ => 0))))]) (fun _ _ => True)) 3 1205 (va_A [(o, .inr (4, [.null]))] sz) := by
  refine xw_met (by decide) (Nat.le_of_ble_eq_true rfl) ?_
  intro p0 e0 s m0 args below meth c0 F hr hlk hin hsz hh hX ls hl
  subst hsz
  have hx := F.1
  have hb := F.2.1
  have hl : lv_has ls 1 [(0, .ref o)] := hl
  refine lv_aload_n hx hb d_Pa_init_0 rfl (lv_at hl 0 rfl) ?_
  refine lv_sipush (v := xi_ 200) hx hb d_Pa_init_1 (by decide) ?_
  refine xw_cv (wc := [(o, .inr (4, [.null]))]) (wr := []) hh [0] [] rfl rfl rfl (by decide) (xw_rI F hh [0] rfl rfl (c_Wk_init_Pa l G s.heap.size o) trivial lk_Pa_3 cd_Wk_init ⟨is_Wk_init, rfl⟩ rfl rfl ⟨by decide, by decide⟩ rfl hl.1 rfl (Nat.le_of_ble_eq_true rfl) d_Pa_init_4 ⟨Nat.le_of_ble_eq_true rfl, Nat.le_of_ble_eq_true rfl⟩) (fun u H locs hp4 hX hz hk hh => ?_)
  have hh : xw_H G (va_A [(o, .inr (4, [.null]))] s.heap.size) s.heap H locs [(o, .inr (4, [.ref u.1])), (u.1, .inr (3, [.int (xi_ (200 : Int)), .ref u.2.1, .ref u.2.2, .int (xi_ 0), .int (xi_ 0)])), (u.2.1, .inl (G.2.2 1, (200 * 5), .inr (.inl (jl_ (fun _ => 0))))), (u.2.2, .inl (G.2.2 0, 200, .inl (ja_ (fun _ => 0))))] := hh
  exact xw_vret F hr hlk hh u rfl trivial trivial d_Pa_init_7
set_option maxHeartbeats 4000000 in
set_option maxRecDepth 100000 in
theorem c_Wk_init_On (l : Launch) (G : GG_) (sz : Nat) (o : Nat) : Met l y_Wk_init (cw_ y_Wk_init b_Wk_init 2 none) (rm_Wk_init 100) (xw_P G [.ref o, .int (xi_ 100)] sz [(o, .inr (5, [.null, .int (xi_ 0), .long (xl_ 0)]))] (fun _ => True)) (xw_Qv (S := Nat × Nat × Nat) G sz [(o, .inr (5, [.null, .int (xi_ 0), .long (xl_ 0)]))] (fun _ => True) (fun u => [(o, .inr (5, [.ref u.1, .int (xi_ 0), .long (xl_ 0)])), (u.1, .inr (3, [.int (xi_ (100 : Int)), .ref u.2.1, .ref u.2.2, .int (xi_ 0), .int (xi_ 0)])), (u.2.1, .inl (G.2.2 1, (100 * 5), .inr (.inl (jl_ (fun _ => 0))))), (u.2.2, .inl (G.2.2 0, 100, .inl (ja_ (fun _ => 0))))]) (fun _ _ => True)) 3 605 (va_A [(o, .inr (5, [.null, .int (xi_ 0), .long (xl_ 0)]))] sz) := by
  refine xw_met (by decide) (Nat.le_of_ble_eq_true rfl) ?_
  intro p0 e0 s m0 args below meth c0 F hr hlk hin hsz hh hX ls hl
  subst hsz
  have hx := F.1
  have hb := F.2.1
  have hl : lv_has ls 2 [(0, .ref o), (1, .int (xi_ 100))] := hl
  refine lv_aload_n hx hb d_Wk_init_0 rfl (lv_at hl 0 rfl) ?_
  refine xw_obj F hl.1 lk_Wk_1' (Nat.le_of_ble_eq_true rfl) (Nat.le_of_ble_eq_true rfl) d_Wk_init_1 ?_
  refine lv_aload_n hx hb d_Wk_init_4 rfl (lv_at hl 0 rfl) ?_
  refine xw_new F hh mk_Wk_7 (Nat.le_of_ble_eq_true rfl) (Nat.le_of_ble_eq_true rfl) d_Wk_init_5 (fun q5 H hh => ?_)
  have hh : xw_H G (va_A [(o, .inr (5, [.null, .int (xi_ 0), .long (xl_ 0)]))] s.heap.size) s.heap H _ [(o, .inr (5, [.null, .int (xi_ 0), .long (xl_ 0)])), (q5, .inr (3, [.int (xi_ 0), .null, .null, .int (xi_ 0), .int (xi_ 0)]))] := hh
  refine lv_dup hx hb d_Wk_init_8 rfl ?_
  refine lv_iload_n hx hb d_Wk_init_9 rfl (lv_at hl 1 rfl) ?_
  refine xw_cv (wc := [(q5, .inr (3, [.int (xi_ 0), .null, .null, .int (xi_ 0), .int (xi_ 0)]))]) (wr := [(o, .inr (5, [.null, .int (xi_ 0), .long (xl_ 0)]))]) hh [1] [0] rfl rfl rfl (by decide) (xw_rI F hh [1] rfl rfl (c_Rw_init l G H.size q5 100 (by omega)) trivial lk_Wk_9 cd_Rw_init ⟨is_Rw_init, rfl⟩ rfl rfl ⟨by decide, by decide⟩ rfl hl.1 rfl (Nat.le_of_ble_eq_true rfl) d_Wk_init_10 ⟨Nat.le_of_ble_eq_true rfl, Nat.le_of_ble_eq_true rfl⟩) (fun u H locs hp10 hX hz hk hh => ?_)
  have hh : xw_H G (va_A [(o, .inr (5, [.null, .int (xi_ 0), .long (xl_ 0)]))] s.heap.size) s.heap H _ [(o, .inr (5, [.null, .int (xi_ 0), .long (xl_ 0)])), (q5, .inr (3, [.int (xi_ (100 : Int)), .ref u.1, .ref u.2, .int (xi_ 0), .int (xi_ 0)])), (u.1, .inl (G.2.2 1, (100 * 5), .inr (.inl (jl_ (fun _ => 0))))), (u.2, .inl (G.2.2 0, 100, .inl (ja_ (fun _ => 0))))] := hh
  refine xw_putF F hh hin ff_Wk_12_5 0 rfl rfl rfl (Nat.le_of_ble_eq_true rfl) d_Wk_init_13 (fun H locs hh => ?_)
  have hh : xw_H G (va_A [(o, .inr (5, [.null, .int (xi_ 0), .long (xl_ 0)]))] s.heap.size) s.heap H _ [(o, .inr (5, [.ref q5, .int (xi_ 0), .long (xl_ 0)])), (q5, .inr (3, [.int (xi_ (100 : Int)), .ref u.1, .ref u.2, .int (xi_ 0), .int (xi_ 0)])), (u.1, .inl (G.2.2 1, (100 * 5), .inr (.inl (jl_ (fun _ => 0))))), (u.2, .inl (G.2.2 0, 100, .inl (ja_ (fun _ => 0))))] := hh
  exact xw_vret F hr hlk hh (q5, u.1, u.2) rfl trivial trivial d_Wk_init_16
set_option maxHeartbeats 4000000 in
set_option maxRecDepth 100000 in
theorem c_On_init (l : Launch) (G : GG_) (sz : Nat) (o : Nat) : Met l y_On_init (cw_ y_On_init b_On_init 1 none) rm_On_init (xw_P G [.ref o] sz [(o, .inr (5, [.null, .int (xi_ 0), .long (xl_ 0)]))] (fun _ => True)) (xw_Qv (S := Nat × Nat × Nat) G sz [(o, .inr (5, [.null, .int (xi_ 0), .long (xl_ 0)]))] (fun _ => True) (fun u => [(o, .inr (5, [.ref u.1, .int (xi_ 0), .long (xl_ 0)])), (u.1, .inr (3, [.int (xi_ (100 : Int)), .ref u.2.1, .ref u.2.2, .int (xi_ 0), .int (xi_ 0)])), (u.2.1, .inl (G.2.2 1, (100 * 5), .inr (.inl (jl_ (fun _ => 0))))), (u.2.2, .inl (G.2.2 0, 100, .inl (ja_ (fun _ => 0))))]) (fun _ _ => True)) 3 605 (va_A [(o, .inr (5, [.null, .int (xi_ 0), .long (xl_ 0)]))] sz) := by
  refine xw_met (by decide) (Nat.le_of_ble_eq_true rfl) ?_
  intro p0 e0 s m0 args below meth c0 F hr hlk hin hsz hh hX ls hl
  subst hsz
  have hx := F.1
  have hb := F.2.1
  have hl : lv_has ls 1 [(0, .ref o)] := hl
  refine lv_aload_n hx hb d_On_init_0 rfl (lv_at hl 0 rfl) ?_
  refine lv_bipush (v := xi_ 100) hx hb d_On_init_1 (by decide) ?_
  refine xw_cv (wc := [(o, .inr (5, [.null, .int (xi_ 0), .long (xl_ 0)]))]) (wr := []) hh [0] [] rfl rfl rfl (by decide) (xw_rI F hh [0] rfl rfl (c_Wk_init_On l G s.heap.size o) trivial lk_On_3 cd_Wk_init ⟨is_Wk_init, rfl⟩ rfl rfl ⟨by decide, by decide⟩ rfl hl.1 rfl (Nat.le_of_ble_eq_true rfl) d_On_init_3 ⟨Nat.le_of_ble_eq_true rfl, Nat.le_of_ble_eq_true rfl⟩) (fun u H locs hp3 hX hz hk hh => ?_)
  have hh : xw_H G (va_A [(o, .inr (5, [.null, .int (xi_ 0), .long (xl_ 0)]))] s.heap.size) s.heap H locs [(o, .inr (5, [.ref u.1, .int (xi_ 0), .long (xl_ 0)])), (u.1, .inr (3, [.int (xi_ (100 : Int)), .ref u.2.1, .ref u.2.2, .int (xi_ 0), .int (xi_ 0)])), (u.2.1, .inl (G.2.2 1, (100 * 5), .inr (.inl (jl_ (fun _ => 0))))), (u.2.2, .inl (G.2.2 0, 100, .inl (ja_ (fun _ => 0))))] := hh
  exact xw_vret F hr hlk hh u rfl trivial trivial d_On_init_6
def rm_X_isSlot : Room := { frames := 0, cells := 0, slots := 0, locals := 0 }
set_option maxHeartbeats 4000000 in
set_option maxRecDepth 100000 in
theorem c_X_isSlot (l : Launch) (G : GG_) (sz : Nat) (n : Int) (hn : (-2147483648 ≤ n ∧ n ≤ 2147483647)) : Met l y_X_isSlot (cw_ y_X_isSlot b_X_isSlot 1 (some .boolean)) rm_X_isSlot (xw_P G [.int (xi_ n)] sz [] (fun _ => True)) (xw_Qi (S := Unit) G sz [] (fun z _ => z = b2_ (decide (0 ≤ n ∧ n < 8))) (fun _ => []) (fun _ _ => True)) 0 0 (va_A [] sz) := by
  refine xw_met (by decide) (Nat.le_of_ble_eq_true rfl) ?_
  intro p0 e0 s m0 args below meth c0 F hr hlk hin hsz hh hX ls hl
  subst hsz
  have hx := F.1
  have hb := F.2.1
  have hl : lv_has ls 1 [(0, .int (xi_ n))] := hl
  refine lv_iload_n hx hb d_X_isSlot_0 rfl (lv_at hl 0 rfl) ?_
  refine xw_if_lt hx hb 14 d_X_isSlot_1 (by decide) (by omega) (fun c1 => ?_) (fun c1 => ?_)
  · refine lv_iconst (v := xi_ 0) hx hb d_X_isSlot_14 rfl ?_
    exact xw_iret F hr hlk hh (by decide) () rfl (by exact b2_f (decide_eq_false (by omega))) trivial d_X_isSlot_15
  · refine lv_iload_n hx hb d_X_isSlot_4 rfl (lv_at hl 0 rfl) ?_
    refine lv_bipush (v := xi_ 8) hx hb d_X_isSlot_5 (by decide) ?_
    refine xw_icmp_ge hx hb 14 d_X_isSlot_7 (by decide) (by omega) (fun c7 => ?_) (fun c7 => ?_)
    · refine lv_iconst (v := xi_ 0) hx hb d_X_isSlot_14 rfl ?_
      exact xw_iret F hr hlk hh (by decide) () rfl (by exact b2_f (decide_eq_false (by omega))) trivial d_X_isSlot_15
    · refine lv_iconst (v := xi_ 1) hx hb d_X_isSlot_10 rfl ?_
      refine lv_goto (tgt := 15) hx hb d_X_isSlot_11 (by decide) ?_
      exact xw_iret F hr hlk hh (by decide) () rfl (by exact b2_t (decide_eq_true (by omega))) trivial d_X_isSlot_15
def rm_X_isSpan : Room := { frames := 0, cells := 0, slots := 0, locals := 0 }
set_option maxHeartbeats 4000000 in
set_option maxRecDepth 100000 in
theorem c_X_isSpan (l : Launch) (G : GG_) (sz : Nat) (a b d : Int) (hn : (-2147483648 ≤ a ∧ a ≤ 2147483647) ∧ (-2147483648 ≤ b ∧ b ≤ 2147483647)) (hd9 : 1 ≤ d ∧ d ≤ 50) : Met l y_X_isSpan (cw_ y_X_isSpan b_X_isSpan 4 (some .boolean)) rm_X_isSpan (xw_P G [.int (xi_ a), .int (xi_ b), .int (xi_ d)] sz [] (fun _ => True)) (xw_Qi (S := Unit) G sz [] (fun z _ => z = b2_ (decide (-(1000 * d) ≤ a ∧ b ≤ 1000 * d ∧ a < b ∧ b - a ≤ 16 * d))) (fun _ => []) (fun _ _ => True)) 0 0 (va_A [] sz) := by
  refine xw_met (by decide) (Nat.le_of_ble_eq_true rfl) ?_
  intro p0 e0 s m0 args below meth c0 F hr hlk hin hsz hh hX ls hl
  subst hsz
  have hx := F.1
  have hb := F.2.1
  have hl : lv_has ls 4 [(0, .int (xi_ a)), (1, .int (xi_ b)), (2, .int (xi_ d))] := hl
  refine lv_sipush (v := xi_ 1000) hx hb d_X_isSpan_0 (by decide) ?_
  refine lv_iload_n hx hb d_X_isSpan_3 rfl (lv_at hl 2 rfl) ?_
  refine xw_imul hx hb d_X_isSpan_4 ?_
  refine lv_istore_n (lv' := [(3, .int (xi_ (1000 * d))), (0, .int (xi_ a)), (1, .int (xi_ b)), (2, .int (xi_ d))]) hx hb d_X_isSpan_5 rfl hl (by decide) rfl (fun ls hl => ?_)
  refine lv_iload_n hx hb d_X_isSpan_6 rfl (lv_at hl 1 rfl) ?_
  refine lv_iload_n hx hb d_X_isSpan_7 rfl (lv_at hl 0 rfl) ?_
  refine xw_ineg hx hb d_X_isSpan_8 ?_
  refine xw_icmp_lt hx hb 40 d_X_isSpan_9 (by decide) (by omega) (fun c9 => ?_) (fun c9 => ?_)
  · refine lv_iconst (v := xi_ 0) hx hb d_X_isSpan_40 rfl ?_
    exact xw_iret F hr hlk hh (by decide) () rfl (by exact b2_f (decide_eq_false (by omega))) trivial d_X_isSpan_41
  · refine lv_iload_n hx hb d_X_isSpan_12 rfl (lv_at hl 2 rfl) ?_
    refine lv_iload_n hx hb d_X_isSpan_13 rfl (lv_at hl 0 rfl) ?_
    refine xw_icmp_gt hx hb 40 d_X_isSpan_14 (by decide) (by omega) (fun c14 => ?_) (fun c14 => ?_)
    · refine lv_iconst (v := xi_ 0) hx hb d_X_isSpan_40 rfl ?_
      exact xw_iret F hr hlk hh (by decide) () rfl (by exact b2_f (decide_eq_false (by omega))) trivial d_X_isSpan_41
    · refine lv_iload_n hx hb d_X_isSpan_17 rfl (lv_at hl 1 rfl) ?_
      refine lv_iload_n hx hb d_X_isSpan_18 rfl (lv_at hl 2 rfl) ?_
      refine xw_icmp_ge hx hb 40 d_X_isSpan_19 (by decide) (by omega) (fun c19 => ?_) (fun c19 => ?_)
      · refine lv_iconst (v := xi_ 0) hx hb d_X_isSpan_40 rfl ?_
        exact xw_iret F hr hlk hh (by decide) () rfl (by exact b2_f (decide_eq_false (by omega))) trivial d_X_isSpan_41
      · refine lv_iload_n hx hb d_X_isSpan_22 rfl (lv_at hl 2 rfl) ?_
        refine xw_i2l hx hb d_X_isSpan_23 (by omega) ?_
        refine lv_iload_n hx hb d_X_isSpan_24 rfl (lv_at hl 1 rfl) ?_
        refine xw_i2l hx hb d_X_isSpan_25 (by omega) ?_
        refine xw_lsub hx hb d_X_isSpan_26 ?_
        refine lv_bipush (v := xi_ 16) hx hb d_X_isSpan_27 (by decide) ?_
        refine lv_iload_n hx hb d_X_isSpan_29 rfl (lv_at hl 3 rfl) ?_
        refine xw_imul hx hb d_X_isSpan_30 ?_
        refine xw_i2l hx hb d_X_isSpan_31 (by omega) ?_
        refine xw_lcmp_gt hx hb 40 d_X_isSpan_32 d_X_isSpan_33 (by decide) (by omega) (fun c32 => ?_) (fun c32 => ?_)
        · refine lv_iconst (v := xi_ 0) hx hb d_X_isSpan_40 rfl ?_
          exact xw_iret F hr hlk hh (by decide) () rfl (by exact b2_f (decide_eq_false (by omega))) trivial d_X_isSpan_41
        · refine lv_iconst (v := xi_ 1) hx hb d_X_isSpan_36 rfl ?_
          refine lv_goto (tgt := 41) hx hb d_X_isSpan_37 (by decide) ?_
          exact xw_iret F hr hlk hh (by decide) () rfl (by exact b2_t (decide_eq_true (by omega))) trivial d_X_isSpan_41
def rm_X_unit : Room := { frames := 0, cells := 0, slots := 0, locals := 0 }
set_option maxHeartbeats 4000000 in
set_option maxRecDepth 100000 in
theorem c_X_unit (l : Launch) (G : GG_) (sz : Nat) (xo rd pa gs fo p1 p2 du : Nat) (fu pl sc ss tk : Int) : Met l y_X_unit (cw_ y_X_unit b_X_unit 1 (some .int)) rm_X_unit (xw_P G [.ref xo] sz [(xo, .inr (0, xo_ rd pa gs fo p1 p2 du fu pl sc ss tk))] (fun _ => True)) (xw_Qi (S := Unit) G sz [(xo, .inr (0, xo_ rd pa gs fo p1 p2 du fu pl sc ss tk))] (fun z _ => z = fu) (fun _ => [(xo, .inr (0, xo_ rd pa gs fo p1 p2 du fu pl sc ss tk))]) (fun _ _ => True)) 0 0 (va_A [(xo, .inr (0, xo_ rd pa gs fo p1 p2 du fu pl sc ss tk))] sz) := by
  refine xw_met (by decide) (Nat.le_of_ble_eq_true rfl) ?_
  intro p0 e0 s m0 args below meth c0 F hr hlk hin hsz hh hX ls hl
  subst hsz
  have hx := F.1
  have hb := F.2.1
  have hl : lv_has ls 1 [(0, .ref xo)] := hl
  refine lv_aload_n hx hb d_X_unit_0 rfl (lv_at hl 0 rfl) ?_
  refine xw_get F hh.1 (v := .int (xi_ fu)) fl_X_36_0 0 rfl rfl d_X_unit_1 ?_
  exact xw_iret F hr hlk hh rfl () rfl (by rfl) trivial d_X_unit_4
def rm_X_tick : Room := { frames := 0, cells := 0, slots := 0, locals := 0 }
set_option maxHeartbeats 4000000 in
set_option maxRecDepth 100000 in
theorem c_X_tick (l : Launch) (G : GG_) (sz : Nat) (xo rd pa gs fo p1 p2 du : Nat) (fu pl sc ss tk : Int) : Met l y_X_tick (cw_ y_X_tick b_X_tick 1 (some .int)) rm_X_tick (xw_P G [.ref xo] sz [(xo, .inr (0, xo_ rd pa gs fo p1 p2 du fu pl sc ss tk))] (fun _ => True)) (xw_Qi (S := Unit) G sz [(xo, .inr (0, xo_ rd pa gs fo p1 p2 du fu pl sc ss tk))] (fun z _ => z = tk) (fun _ => [(xo, .inr (0, xo_ rd pa gs fo p1 p2 du fu pl sc ss tk))]) (fun _ _ => True)) 0 0 (va_A [(xo, .inr (0, xo_ rd pa gs fo p1 p2 du fu pl sc ss tk))] sz) := by
  refine xw_met (by decide) (Nat.le_of_ble_eq_true rfl) ?_
  intro p0 e0 s m0 args below meth c0 F hr hlk hin hsz hh hX ls hl
  subst hsz
  have hx := F.1
  have hb := F.2.1
  have hl : lv_has ls 1 [(0, .ref xo)] := hl
  refine lv_aload_n hx hb d_X_tick_0 rfl (lv_at hl 0 rfl) ?_
  refine xw_get F hh.1 (v := .long (xl_ tk)) fl_X_130_0 0 rfl rfl d_X_tick_1 ?_
  refine xw_l2i hx hb d_X_tick_4 ?_
  exact xw_iret F hr hlk hh rfl () rfl (by rfl) trivial d_X_tick_5
def rm_X_tickLength : Room := { frames := 0, cells := 0, slots := 0, locals := 0 }
set_option maxHeartbeats 4000000 in
set_option maxRecDepth 100000 in
theorem c_X_tickLength (l : Launch) (G : GG_) (sz : Nat) (xo rd pa gs fo p1 p2 du : Nat) (fu pl sc ss tk : Int) (gsf : Nat → Int) (n : Int) (hn : 0 ≤ n ∧ n < 8) (hg : ∀ j : Nat, j < 8 → 1 ≤ gsf j ∧ gsf j ≤ 5040) (hsc : 0 ≤ sc ∧ sc ≤ 20) : Met l y_X_tickLength (cw_ y_X_tickLength b_X_tickLength 2 (some .long)) rm_X_tickLength (xw_P G [.ref xo, .int (xi_ n)] sz [(xo, .inr (0, xo_ rd pa gs fo p1 p2 du fu pl sc ss tk)), (gs, .inl (G.2.2 0, 8, .inl (ja_ gsf)))] (fun _ => True)) (xw_Ql (S := Unit) G sz [(xo, .inr (0, xo_ rd pa gs fo p1 p2 du fu pl sc ss tk)), (gs, .inl (G.2.2 0, 8, .inl (ja_ gsf)))] (fun z _ => z = sc * gsf n.toNat) (fun _ => [(xo, .inr (0, xo_ rd pa gs fo p1 p2 du fu pl sc ss tk)), (gs, .inl (G.2.2 0, 8, .inl (ja_ gsf)))]) (fun _ _ => True)) 0 0 (va_A [(xo, .inr (0, xo_ rd pa gs fo p1 p2 du fu pl sc ss tk)), (gs, .inl (G.2.2 0, 8, .inl (ja_ gsf)))] sz) := by
  refine xw_met (by decide) (Nat.le_of_ble_eq_true rfl) ?_
  intro p0 e0 s m0 args below meth c0 F hr hlk hin hsz hh hX ls hl
  subst hsz
  have hx := F.1
  have hb := F.2.1
  have hl : lv_has ls 2 [(0, .ref xo), (1, .int (xi_ n))] := hl
  refine lv_aload_n hx hb d_X_tickLength_0 rfl (lv_at hl 0 rfl) ?_
  refine xw_get F hh.1 (v := .int (xi_ sc)) fl_X_114_0 0 rfl rfl d_X_tickLength_1 ?_
  refine xw_i2l hx hb d_X_tickLength_4 (by omega) ?_
  refine lv_aload_n hx hb d_X_tickLength_5 rfl (lv_at hl 0 rfl) ?_
  refine xw_get F hh.1 (v := .ref gs) fl_X_22_0 0 rfl rfl d_X_tickLength_6 ?_
  have hgn := hg n.toNat (by omega)
  refine lv_iload_n hx hb d_X_tickLength_9 rfl (lv_at hl 1 rfl) ?_
  refine xw_iald F hh.1 1 (f := gsf) rfl (i := n) (by omega) d_X_tickLength_10 ?_
  refine xw_i2l hx hb d_X_tickLength_11 (by omega) ?_
  refine xw_lmul hx hb d_X_tickLength_12 ?_
  exact xw_lret F hr hlk hh () rfl (by rfl) trivial d_X_tickLength_13
def rm_X_stopPlaying : Room := { frames := 1, cells := 0, slots := 0, locals := 20 }
set_option maxHeartbeats 4000000 in
set_option maxRecDepth 100000 in
theorem c_X_stopPlaying (l : Launch) (G : GG_) (sz : Nat) (xo rd pa gs fo p1 p2 du : Nat) (fu pl sc ss tk : Int) (r v ra : Nat) (slot tl cnt tm : Int) : Met l y_X_stopPlaying (cw_ y_X_stopPlaying b_X_stopPlaying 1 none) rm_X_stopPlaying (xw_P G [.ref xo] sz [(xo, .inr (0, xo_ rd pa gs fo p1 p2 du fu pl sc ss tk)), (du, .inr (5, [.ref r, .int (xi_ slot), .long (xl_ tl)])), (r, .inr (3, [.int (xi_ (100 : Int)), .ref v, .ref ra, .int (xi_ cnt), .int (xi_ tm)]))] (fun _ => True)) (xw_Qv (S := Unit) G sz [(xo, .inr (0, xo_ rd pa gs fo p1 p2 du fu pl sc ss tk)), (du, .inr (5, [.ref r, .int (xi_ slot), .long (xl_ tl)])), (r, .inr (3, [.int (xi_ (100 : Int)), .ref v, .ref ra, .int (xi_ cnt), .int (xi_ tm)]))] (fun _ => True) (fun _ => [(xo, .inr (0, xo_ rd pa gs fo p1 p2 du fu 0 sc ss 0)), (du, .inr (5, [.ref r, .int (xi_ slot), .long (xl_ tl)])), (r, .inr (3, [.int (xi_ (100 : Int)), .ref v, .ref ra, .int (xi_ 0), .int (xi_ 0)]))]) (fun _ _ => True)) 0 0 (va_A [(xo, .inr (0, xo_ rd pa gs fo p1 p2 du fu pl sc ss tk)), (du, .inr (5, [.ref r, .int (xi_ slot), .long (xl_ tl)])), (r, .inr (3, [.int (xi_ (100 : Int)), .ref v, .ref ra, .int (xi_ cnt), .int (xi_ tm)]))] sz) := by
  refine xw_met (by decide) (Nat.le_of_ble_eq_true rfl) ?_
  intro p0 e0 s m0 args below meth c0 F hr hlk hin hsz hh hX ls hl
  subst hsz
  have hx := F.1
  have hb := F.2.1
  have hl : lv_has ls 1 [(0, .ref xo)] := hl
  refine lv_aload_n hx hb d_X_stopPlaying_0 rfl (lv_at hl 0 rfl) ?_
  refine lv_iconst (v := xi_ 0) hx hb d_X_stopPlaying_1 rfl ?_
  refine xw_put F hh fp_X_111_0 0 rfl rfl rfl (Nat.le_of_ble_eq_true rfl) d_X_stopPlaying_2 (fun H locs hh => ?_)
  have hh : xw_H G (va_A [(xo, .inr (0, xo_ rd pa gs fo p1 p2 du fu pl sc ss tk)), (du, .inr (5, [.ref r, .int (xi_ slot), .long (xl_ tl)])), (r, .inr (3, [.int (xi_ (100 : Int)), .ref v, .ref ra, .int (xi_ cnt), .int (xi_ tm)]))] s.heap.size) s.heap H locs [(xo, .inr (0, xo_ rd pa gs fo p1 p2 du fu 0 sc ss tk)), (du, .inr (5, [.ref r, .int (xi_ slot), .long (xl_ tl)])), (r, .inr (3, [.int (xi_ (100 : Int)), .ref v, .ref ra, .int (xi_ cnt), .int (xi_ tm)]))] := hh
  refine lv_aload_n hx hb d_X_stopPlaying_5 rfl (lv_at hl 0 rfl) ?_
  refine lv_lconst (v := xl_ 0) hx hb d_X_stopPlaying_6 (by decide) ?_
  refine xw_put F hh fp_X_130_0 0 rfl rfl rfl (Nat.le_of_ble_eq_true rfl) d_X_stopPlaying_7 (fun H locs hh => ?_)
  have hh : xw_H G (va_A [(xo, .inr (0, xo_ rd pa gs fo p1 p2 du fu pl sc ss tk)), (du, .inr (5, [.ref r, .int (xi_ slot), .long (xl_ tl)])), (r, .inr (3, [.int (xi_ (100 : Int)), .ref v, .ref ra, .int (xi_ cnt), .int (xi_ tm)]))] s.heap.size) s.heap H locs [(xo, .inr (0, xo_ rd pa gs fo p1 p2 du fu 0 sc ss 0)), (du, .inr (5, [.ref r, .int (xi_ slot), .long (xl_ tl)])), (r, .inr (3, [.int (xi_ (100 : Int)), .ref v, .ref ra, .int (xi_ cnt), .int (xi_ tm)]))] := hh
  refine lv_aload_n hx hb d_X_stopPlaying_10 rfl (lv_at hl 0 rfl) ?_
  refine xw_get F hh.1 (v := .ref du) fl_X_49_0 0 rfl rfl d_X_stopPlaying_11 ?_
  refine xw_get F hh.1 (v := .ref r) fl_X_120_5 1 rfl rfl d_X_stopPlaying_14 ?_
  refine xw_cv (wc := [(r, .inr (3, [.int (xi_ (100 : Int)), .ref v, .ref ra, .int (xi_ cnt), .int (xi_ tm)]))]) (wr := [(xo, .inr (0, xo_ rd pa gs fo p1 p2 du fu 0 sc ss 0)), (du, .inr (5, [.ref r, .int (xi_ slot), .long (xl_ tl)]))]) hh [2] [0, 1] rfl rfl rfl (by decide) (xw_rV F hh [2] rfl rfl (c_Rw_clear l G H.size r v ra 100 cnt tm) trivial lk_X_121 cd_Rw_clear se_Rw_clear _ hh.1 2 rfl rfl rfl rfl ⟨by decide, by decide⟩ rfl hl.1 rfl (Nat.le_of_ble_eq_true rfl) d_X_stopPlaying_17 ⟨Nat.le_of_ble_eq_true rfl, Nat.le_of_ble_eq_true rfl⟩) (fun u_ H locs hp17 hX hz hk hh => ?_)
  have hh : xw_H G (va_A [(xo, .inr (0, xo_ rd pa gs fo p1 p2 du fu pl sc ss tk)), (du, .inr (5, [.ref r, .int (xi_ slot), .long (xl_ tl)])), (r, .inr (3, [.int (xi_ (100 : Int)), .ref v, .ref ra, .int (xi_ cnt), .int (xi_ tm)]))] s.heap.size) s.heap H locs [(xo, .inr (0, xo_ rd pa gs fo p1 p2 du fu 0 sc ss 0)), (du, .inr (5, [.ref r, .int (xi_ slot), .long (xl_ tl)])), (r, .inr (3, [.int (xi_ (100 : Int)), .ref v, .ref ra, .int (xi_ 0), .int (xi_ 0)]))] := hh
  exact xw_vret F hr hlk hh () rfl (by trivial) trivial d_X_stopPlaying_20
def rm_X_play : Room := { frames := 2, cells := 0, slots := 0, locals := 40 }
set_option maxHeartbeats 4000000 in
set_option maxRecDepth 100000 in
theorem c_X_play (l : Launch) (G : GG_) (sz : Nat) (xo rd pa gs fo p1 p2 du : Nat) (fu pl sc ss tk : Int) (r v ra : Nat) (slot tl cnt tm : Int) (mk n d : Int) (hn : (-2147483648 ≤ mk ∧ mk ≤ 2147483647) ∧ (-2147483648 ≤ n ∧ n ≤ 2147483647) ∧ (-2147483648 ≤ d ∧ d ≤ 2147483647)) : Met l y_X_play (cw_ y_X_play b_X_play 4 (some .boolean)) rm_X_play (xw_P G [.ref xo, .int (xi_ mk), .int (xi_ n), .int (xi_ d)] sz [(xo, .inr (0, xo_ rd pa gs fo p1 p2 du fu pl sc ss tk)), (du, .inr (5, [.ref r, .int (xi_ slot), .long (xl_ tl)])), (r, .inr (3, [.int (xi_ (100 : Int)), .ref v, .ref ra, .int (xi_ cnt), .int (xi_ tm)]))] (fun _ => True)) (xw_Qi (S := Int × Int × Int × Int × Int × Int) G sz [(xo, .inr (0, xo_ rd pa gs fo p1 p2 du fu pl sc ss tk)), (du, .inr (5, [.ref r, .int (xi_ slot), .long (xl_ tl)])), (r, .inr (3, [.int (xi_ (100 : Int)), .ref v, .ref ra, .int (xi_ cnt), .int (xi_ tm)]))] (fun z u => z = b2_ (decide (1 ≤ mk ∧ mk ≤ 255 ∧ 1 ≤ n ∧ n ≤ 20 ∧ 1 ≤ d ∧ d ≤ 20)) ∧ u = if 1 ≤ mk ∧ mk ≤ 255 ∧ 1 ≤ n ∧ n ≤ 20 ∧ 1 ≤ d ∧ d ≤ 20 then (mk, n, d, 0, 0, 0) else (pl, sc, ss, tk, cnt, tm)) (fun u => [(xo, .inr (0, xo_ rd pa gs fo p1 p2 du fu u.1 u.2.1 u.2.2.1 u.2.2.2.1)), (du, .inr (5, [.ref r, .int (xi_ slot), .long (xl_ tl)])), (r, .inr (3, [.int (xi_ (100 : Int)), .ref v, .ref ra, .int (xi_ u.2.2.2.2.1), .int (xi_ u.2.2.2.2.2)]))]) (fun _ _ => True)) 0 0 (va_A [(xo, .inr (0, xo_ rd pa gs fo p1 p2 du fu pl sc ss tk)), (du, .inr (5, [.ref r, .int (xi_ slot), .long (xl_ tl)])), (r, .inr (3, [.int (xi_ (100 : Int)), .ref v, .ref ra, .int (xi_ cnt), .int (xi_ tm)]))] sz) := by
  refine xw_met (by decide) (Nat.le_of_ble_eq_true rfl) ?_
  intro p0 e0 s m0 args below meth c0 F hr hlk hin hsz hh hX ls hl
  subst hsz
  have hx := F.1
  have hb := F.2.1
  have hl : lv_has ls 4 [(0, .ref xo), (1, .int (xi_ mk)), (2, .int (xi_ n)), (3, .int (xi_ d))] := hl
  refine lv_iload_n hx hb d_X_play_0 rfl (lv_at hl 1 rfl) ?_
  refine lv_iconst (v := xi_ 1) hx hb d_X_play_1 rfl ?_
  refine xw_icmp_lt hx hb 34 d_X_play_2 (by decide) (by omega) (fun c2 => ?_) (fun c2 => ?_)
  · refine lv_iconst (v := xi_ 0) hx hb d_X_play_34 rfl ?_
    exact xw_iret F hr hlk hh (by decide) (pl, sc, ss, tk, cnt, tm) rfl ⟨b2_f (decide_eq_false (by omega)), (if_neg (by omega)).symm⟩ trivial d_X_play_35
  · refine lv_iload_n hx hb d_X_play_5 rfl (lv_at hl 1 rfl) ?_
    refine lv_sipush (v := xi_ 255) hx hb d_X_play_6 (by decide) ?_
    refine xw_icmp_gt hx hb 34 d_X_play_9 (by decide) (by omega) (fun c9 => ?_) (fun c9 => ?_)
    · refine lv_iconst (v := xi_ 0) hx hb d_X_play_34 rfl ?_
      exact xw_iret F hr hlk hh (by decide) (pl, sc, ss, tk, cnt, tm) rfl ⟨b2_f (decide_eq_false (by omega)), (if_neg (by omega)).symm⟩ trivial d_X_play_35
    · refine lv_iload_n hx hb d_X_play_12 rfl (lv_at hl 2 rfl) ?_
      refine lv_iconst (v := xi_ 1) hx hb d_X_play_13 rfl ?_
      refine xw_icmp_lt hx hb 34 d_X_play_14 (by decide) (by omega) (fun c14 => ?_) (fun c14 => ?_)
      · refine lv_iconst (v := xi_ 0) hx hb d_X_play_34 rfl ?_
        exact xw_iret F hr hlk hh (by decide) (pl, sc, ss, tk, cnt, tm) rfl ⟨b2_f (decide_eq_false (by omega)), (if_neg (by omega)).symm⟩ trivial d_X_play_35
      · refine lv_iload_n hx hb d_X_play_17 rfl (lv_at hl 2 rfl) ?_
        refine lv_bipush (v := xi_ 20) hx hb d_X_play_18 (by decide) ?_
        refine xw_icmp_gt hx hb 34 d_X_play_20 (by decide) (by omega) (fun c20 => ?_) (fun c20 => ?_)
        · refine lv_iconst (v := xi_ 0) hx hb d_X_play_34 rfl ?_
          exact xw_iret F hr hlk hh (by decide) (pl, sc, ss, tk, cnt, tm) rfl ⟨b2_f (decide_eq_false (by omega)), (if_neg (by omega)).symm⟩ trivial d_X_play_35
        · refine lv_iload_n hx hb d_X_play_23 rfl (lv_at hl 3 rfl) ?_
          refine lv_iconst (v := xi_ 1) hx hb d_X_play_24 rfl ?_
          refine xw_icmp_lt hx hb 34 d_X_play_25 (by decide) (by omega) (fun c25 => ?_) (fun c25 => ?_)
          · refine lv_iconst (v := xi_ 0) hx hb d_X_play_34 rfl ?_
            exact xw_iret F hr hlk hh (by decide) (pl, sc, ss, tk, cnt, tm) rfl ⟨b2_f (decide_eq_false (by omega)), (if_neg (by omega)).symm⟩ trivial d_X_play_35
          · refine lv_iload_n hx hb d_X_play_28 rfl (lv_at hl 3 rfl) ?_
            refine lv_bipush (v := xi_ 20) hx hb d_X_play_29 (by decide) ?_
            refine xw_icmp_le hx hb 36 d_X_play_31 (by decide) (by omega) (fun c31 => ?_) (fun c31 => ?_)
            · refine lv_aload_n hx hb d_X_play_36 rfl (lv_at hl 0 rfl) ?_
              refine xw_cv (wc := [(xo, .inr (0, xo_ rd pa gs fo p1 p2 du fu pl sc ss tk)), (du, .inr (5, [.ref r, .int (xi_ slot), .long (xl_ tl)])), (r, .inr (3, [.int (xi_ (100 : Int)), .ref v, .ref ra, .int (xi_ cnt), .int (xi_ tm)]))]) (wr := []) hh [0, 1, 2] [] rfl rfl rfl (by decide) (xw_rV F hh [0, 1, 2] rfl rfl (c_X_stopPlaying l G s.heap.size xo rd pa gs fo p1 p2 du fu pl sc ss tk r v ra slot tl cnt tm) trivial lk_X_67 cd_X_stopPlaying se_X_stopPlaying _ hh.1 0 rfl rfl rfl rfl ⟨by decide, by decide⟩ rfl hl.1 rfl (Nat.le_of_ble_eq_true rfl) d_X_play_37 ⟨Nat.le_of_ble_eq_true rfl, Nat.le_of_ble_eq_true rfl⟩) (fun u_ H locs hp37 hX hz hk hh => ?_)
              have hh : xw_H G (va_A [(xo, .inr (0, xo_ rd pa gs fo p1 p2 du fu pl sc ss tk)), (du, .inr (5, [.ref r, .int (xi_ slot), .long (xl_ tl)])), (r, .inr (3, [.int (xi_ (100 : Int)), .ref v, .ref ra, .int (xi_ cnt), .int (xi_ tm)]))] s.heap.size) s.heap H locs [(xo, .inr (0, xo_ rd pa gs fo p1 p2 du fu 0 sc ss 0)), (du, .inr (5, [.ref r, .int (xi_ slot), .long (xl_ tl)])), (r, .inr (3, [.int (xi_ (100 : Int)), .ref v, .ref ra, .int (xi_ 0), .int (xi_ 0)]))] := hh
              refine lv_aload_n hx hb d_X_play_40 rfl (lv_at hl 0 rfl) ?_
              refine lv_iload_n hx hb d_X_play_41 rfl (lv_at hl 1 rfl) ?_
              refine xw_put F hh fp_X_111_0 0 rfl rfl rfl (Nat.le_of_ble_eq_true rfl) d_X_play_42 (fun H locs hh => ?_)
              have hh : xw_H G (va_A [(xo, .inr (0, xo_ rd pa gs fo p1 p2 du fu pl sc ss tk)), (du, .inr (5, [.ref r, .int (xi_ slot), .long (xl_ tl)])), (r, .inr (3, [.int (xi_ (100 : Int)), .ref v, .ref ra, .int (xi_ cnt), .int (xi_ tm)]))] s.heap.size) s.heap H locs [(xo, .inr (0, xo_ rd pa gs fo p1 p2 du fu mk sc ss 0)), (du, .inr (5, [.ref r, .int (xi_ slot), .long (xl_ tl)])), (r, .inr (3, [.int (xi_ (100 : Int)), .ref v, .ref ra, .int (xi_ 0), .int (xi_ 0)]))] := hh
              refine lv_aload_n hx hb d_X_play_45 rfl (lv_at hl 0 rfl) ?_
              refine lv_iload_n hx hb d_X_play_46 rfl (lv_at hl 2 rfl) ?_
              refine xw_put F hh fp_X_114_0 0 rfl rfl rfl (Nat.le_of_ble_eq_true rfl) d_X_play_47 (fun H locs hh => ?_)
              have hh : xw_H G (va_A [(xo, .inr (0, xo_ rd pa gs fo p1 p2 du fu pl sc ss tk)), (du, .inr (5, [.ref r, .int (xi_ slot), .long (xl_ tl)])), (r, .inr (3, [.int (xi_ (100 : Int)), .ref v, .ref ra, .int (xi_ cnt), .int (xi_ tm)]))] s.heap.size) s.heap H locs [(xo, .inr (0, xo_ rd pa gs fo p1 p2 du fu mk n ss 0)), (du, .inr (5, [.ref r, .int (xi_ slot), .long (xl_ tl)])), (r, .inr (3, [.int (xi_ (100 : Int)), .ref v, .ref ra, .int (xi_ 0), .int (xi_ 0)]))] := hh
              refine lv_aload_n hx hb d_X_play_50 rfl (lv_at hl 0 rfl) ?_
              refine lv_iload_n hx hb d_X_play_51 rfl (lv_at hl 3 rfl) ?_
              refine xw_put F hh fp_X_117_0 0 rfl rfl rfl (Nat.le_of_ble_eq_true rfl) d_X_play_52 (fun H locs hh => ?_)
              have hh : xw_H G (va_A [(xo, .inr (0, xo_ rd pa gs fo p1 p2 du fu pl sc ss tk)), (du, .inr (5, [.ref r, .int (xi_ slot), .long (xl_ tl)])), (r, .inr (3, [.int (xi_ (100 : Int)), .ref v, .ref ra, .int (xi_ cnt), .int (xi_ tm)]))] s.heap.size) s.heap H locs [(xo, .inr (0, xo_ rd pa gs fo p1 p2 du fu mk n d 0)), (du, .inr (5, [.ref r, .int (xi_ slot), .long (xl_ tl)])), (r, .inr (3, [.int (xi_ (100 : Int)), .ref v, .ref ra, .int (xi_ 0), .int (xi_ 0)]))] := hh
              refine lv_iconst (v := xi_ 1) hx hb d_X_play_55 rfl ?_
              exact xw_iret F hr hlk hh (by decide) (mk, n, d, 0, 0, 0) rfl ⟨b2_t (decide_eq_true (by omega)), (if_pos (by omega)).symm⟩ trivial d_X_play_56
            · refine lv_iconst (v := xi_ 0) hx hb d_X_play_34 rfl ?_
              exact xw_iret F hr hlk hh (by decide) (pl, sc, ss, tk, cnt, tm) rfl ⟨b2_f (decide_eq_false (by omega)), (if_neg (by omega)).symm⟩ trivial d_X_play_35
def rm_X_type : Room := { frames := 2, cells := 0, slots := 0, locals := 46 }
/-- what type answers, and the text behind it -/
def ty_ans (txt : Nat → Int) (len : Nat) (ch n : Int) : Int × Nat × (Nat → Int) := if 1 ≤ n ∧ n ≤ 8 ∧ ty_ok ch n.toNat = true then (if len + n.toNat ≤ 40 then ((len : Int) + n, len + n.toNat, tx_app txt len ch n.toNat n.toNat) else (-3, len, txt)) else (-1, len, txt)
set_option maxHeartbeats 4000000 in
set_option maxRecDepth 100000 in
theorem c_X_type (l : Launch) (G : GG_) (sz : Nat) (xo rd pa gs fo p1 p2 du : Nat) (fu pl sc ss tk : Int) (ta : Nat) (txt : Nat → Int) (len : Nat) (at0 g0 ch n : Int) (hn : (-2147483648 ≤ n ∧ n ≤ 2147483647)) (hlen : len ≤ 40) : Met l y_X_type (cw_ y_X_type b_X_type 4 (some .int)) rm_X_type (xw_P G [.ref xo, .long (xl_ ch), .int (xi_ n)] sz [(xo, .inr (0, xo_ rd pa gs fo p1 p2 du fu pl sc ss tk)), (rd, .inr (2, [.ref ta, .int (xi_ (len : Int)), .int (xi_ at0), .int (xi_ g0)])), (ta, .inl (G.2.2 2, 40, .inl (ja_ txt)))] (fun _ => True)) (xw_Qi (S := Nat × (Nat → Int)) G sz [(xo, .inr (0, xo_ rd pa gs fo p1 p2 du fu pl sc ss tk)), (rd, .inr (2, [.ref ta, .int (xi_ (len : Int)), .int (xi_ at0), .int (xi_ g0)])), (ta, .inl (G.2.2 2, 40, .inl (ja_ txt)))] (fun z u => (z, u) = ty_ans txt len ch n) (fun u => [(xo, .inr (0, xo_ rd pa gs fo p1 p2 du fu pl sc ss tk)), (rd, .inr (2, [.ref ta, .int (xi_ (u.1 : Int)), .int (xi_ at0), .int (xi_ g0)])), (ta, .inl (G.2.2 2, 40, .inl (ja_ u.2)))]) (fun _ _ => True)) 0 0 (va_A [(xo, .inr (0, xo_ rd pa gs fo p1 p2 du fu pl sc ss tk)), (rd, .inr (2, [.ref ta, .int (xi_ (len : Int)), .int (xi_ at0), .int (xi_ g0)])), (ta, .inl (G.2.2 2, 40, .inl (ja_ txt)))] sz) := by
  refine xw_met (by decide) (Nat.le_of_ble_eq_true rfl) ?_
  intro p0 e0 s m0 args below meth c0 F hr hlk hin hsz hh hX ls hl
  subst hsz
  have hx := F.1
  have hb := F.2.1
  have hl : lv_has ls 4 [(0, .ref xo), (1, .long (xl_ ch)), (3, .int (xi_ n))] := hl
  refine lv_iload_n hx hb d_X_type_0 rfl (lv_at hl 2 rfl) ?_
  refine lv_iconst (v := xi_ 1) hx hb d_X_type_1 rfl ?_
  refine xw_icmp_lt hx hb 19 d_X_type_2 (by decide) (by omega) (fun c2 => ?_) (fun c2 => ?_)
  · refine lv_iconst (v := xi_ (-1)) hx hb d_X_type_19 rfl ?_
    exact xw_iret F hr hlk hh rfl (len, txt) rfl (by
      unfold ty_ans
      rw [if_neg (fun q => by
        first
        | omega
        | (rw [hnt] at q; rw [q.2.2] at c16; exact absurd c16 (by decide)))]) trivial d_X_type_20
  · refine lv_iload_n hx hb d_X_type_5 rfl (lv_at hl 2 rfl) ?_
    refine lv_bipush (v := xi_ 8) hx hb d_X_type_6 (by decide) ?_
    refine xw_icmp_gt hx hb 19 d_X_type_8 (by decide) (by omega) (fun c8 => ?_) (fun c8 => ?_)
    · refine lv_iconst (v := xi_ (-1)) hx hb d_X_type_19 rfl ?_
      exact xw_iret F hr hlk hh rfl (len, txt) rfl (by
        unfold ty_ans
        rw [if_neg (fun q => by
          first
          | omega
          | (rw [hnt] at q; rw [q.2.2] at c16; exact absurd c16 (by decide)))]) trivial d_X_type_20
    · refine lv_lload_n hx hb d_X_type_11 rfl (lv_at hl 1 rfl) ?_
      refine lv_iload_n hx hb d_X_type_12 rfl (lv_at hl 2 rfl) ?_
      obtain ⟨m, hm⟩ : ∃ m : Nat, n = (m : Int) := ⟨n.toNat, by omega⟩
      refine xw_topi (y := (m : Int)) hm ?_
      refine xw_cip hh (xw_rSp F (c_Rd_areTypeable l G s.heap.size ch m (by omega)) lk_X_53 cd_Rd_areTypeable ss_Rd_areTypeable rfl rfl ⟨by decide, by decide⟩ rfl hl.1 rfl (Nat.le_of_ble_eq_true rfl) d_X_type_13 ⟨Nat.le_of_ble_eq_true rfl, Nat.le_of_ble_eq_true rfl⟩) (fun z13 u H locs hp13 hz hk hh => ?_)
      obtain rfl : z13 = b2_ (ty_ok ch m) := hp13
      have htb := b2_01 (ty_ok ch m)
      have hnt : n.toNat = m := by omega
      refine xw_if_ne hx hb 21 d_X_type_16 (by decide) (by omega) (fun c16 => ?_) (fun c16 => ?_)
      · refine lv_aload_n hx hb d_X_type_21 rfl (lv_at hl 0 rfl) ?_
        refine xw_get F hh.1 (v := .ref rd) fl_X_10_0 0 rfl rfl d_X_type_22 ?_
        refine lv_lload_n hx hb d_X_type_25 rfl (lv_at hl 1 rfl) ?_
        refine lv_iload_n hx hb d_X_type_26 rfl (lv_at hl 2 rfl) ?_
        refine xw_topi (y := (m : Int)) hm ?_
        refine xw_ci (wc := [(rd, .inr (2, [.ref ta, .int (xi_ (len : Int)), .int (xi_ at0), .int (xi_ g0)])), (ta, .inl (G.2.2 2, 40, .inl (ja_ txt)))]) (wr := [(xo, .inr (0, xo_ rd pa gs fo p1 p2 du fu pl sc ss tk))]) hh [1, 2] [0] rfl rfl rfl (by decide) (xw_rV F hh [1, 2] rfl rfl (c_Rd_append l G H.size rd ta txt len at0 g0 ch m (by omega) hlen) trivial lk_X_57 cd_Rd_append se_Rd_append _ hh.1 1 rfl rfl rfl rfl ⟨by decide, by decide⟩ rfl hl.1 rfl (Nat.le_of_ble_eq_true rfl) d_X_type_27 ⟨Nat.le_of_ble_eq_true rfl, Nat.le_of_ble_eq_true rfl⟩) (fun z27 u H locs hp27 hX hz hk hh => ?_)
        have hh : xw_H G (va_A [(xo, .inr (0, xo_ rd pa gs fo p1 p2 du fu pl sc ss tk)), (rd, .inr (2, [.ref ta, .int (xi_ (len : Int)), .int (xi_ at0), .int (xi_ g0)])), (ta, .inl (G.2.2 2, 40, .inl (ja_ txt)))] s.heap.size) s.heap H locs [(xo, .inr (0, xo_ rd pa gs fo p1 p2 du fu pl sc ss tk)), (rd, .inr (2, [.ref ta, .int (xi_ (u.1 : Int)), .int (xi_ at0), .int (xi_ g0)])), (ta, .inl (G.2.2 2, 40, .inl (ja_ u.2)))] := hh
        obtain ⟨hz27, hu27⟩ := hp27
        obtain rfl : z27 = b2_ (decide (len + m ≤ 40)) := hz27
        have htb2 := b2_01 (decide (len + m ≤ 40))
        refine xw_if_eq hx hb 43 d_X_type_30 (by decide) (by omega) (fun c30 => ?_) (fun c30 => ?_)
        · refine lv_bipush (v := xi_ (-3)) hx hb d_X_type_43 (by decide) ?_
          have hok := b2_ne c16
          have h40 : ¬ len + m ≤ 40 := of_decide_eq_false (b2_e0 c30)
          rw [if_neg h40] at hu27
          subst hu27
          exact xw_iret F hr hlk hh rfl (len, txt) rfl (by
            unfold ty_ans
            rw [hnt, if_pos ⟨by omega, by omega, hok⟩, if_neg h40]) trivial d_X_type_45
        · refine lv_aload_n hx hb d_X_type_33 rfl (lv_at hl 0 rfl) ?_
          refine xw_get F hh.1 (v := .ref rd) fl_X_10_0 0 rfl rfl d_X_type_34 ?_
          refine xw_get F hh.1 (v := .int (xi_ (u.1 : Int))) fl_X_60_2 1 rfl rfl d_X_type_37 ?_
          refine lv_goto (tgt := 45) hx hb d_X_type_40 (by decide) ?_
          have hok := b2_ne c16
          have h40 : len + m ≤ 40 := of_decide_eq_true (b2_ne c30)
          rw [if_pos h40] at hu27
          subst hu27
          exact xw_iret F hr hlk hh rfl (len + m, tx_app txt len ch m m) rfl (by
            unfold ty_ans
            rw [hnt, if_pos ⟨by omega, by omega, hok⟩, if_pos h40, hm]
            rfl) trivial d_X_type_45
      · refine lv_iconst (v := xi_ (-1)) hx hb d_X_type_19 rfl ?_
        exact xw_iret F hr hlk hh rfl (len, txt) rfl (by
          unfold ty_ans
          rw [if_neg (fun q => by
            first
            | omega
            | (rw [hnt] at q; rw [q.2.2] at c16; exact absurd c16 (by decide)))]) trivial d_X_type_20
