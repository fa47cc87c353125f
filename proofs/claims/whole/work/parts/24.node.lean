/-! Node -/
theorem b2_ne {b : Bool} (h : b2_ b ≠ 0) : b = true := by cases b <;> first | rfl | exact absurd rfl h
theorem b2_e0 {b : Bool} (h : b2_ b = 0) : b = false := by cases b <;> first | rfl | exact absurd h (by decide)
def rm_N_isLetter : Room := { frames := 0, cells := 0, slots := 0, locals := 0 }
set_option maxHeartbeats 4000000 in
set_option maxRecDepth 100000 in
theorem c_N_isLetter (l : Launch) (G : GG_) (sz : Nat) (x : Int) (hx9 : 0 ≤ x ∧ x ≤ 65535) : Met l y_N_isLetter (cw_ y_N_isLetter b_N_isLetter 1 (some .boolean)) rm_N_isLetter (xw_P G [.int (xi_ x)] sz [] (fun _ => True)) (xw_Qi (S := Unit) G sz [] (fun z _ => z = b2_ (is_letter x)) (fun _ => []) (fun _ _ => True)) 0 0 (va_A [] sz) := by
  refine xw_met (by decide) (Nat.le_of_ble_eq_true rfl) ?_
  intro p e s m args below meth c F hr hlk hin hsz hh hX ls hl
  subst hsz
  have hx := F.1
  have hb := F.2.1
  have hl : lv_has ls 1 [(0, .int (xi_ x))] := hl
  refine lv_iload_n hx hb d_N_isLetter_0 rfl (lv_at hl 0 rfl) ?_
  refine lv_bipush (v := xi_ 97) hx hb d_N_isLetter_1 (by decide) ?_
  refine xw_icmp_lt hx hb 16 d_N_isLetter_3 (by decide) (by omega) (fun c3 => ?_) (fun c3 => ?_)
  · refine lv_iconst (v := xi_ 0) hx hb d_N_isLetter_16 rfl ?_
    exact xw_iret F hr hlk hh (by decide) () rfl (by unfold is_letter; exact b2_f (decide_eq_false (by omega))) trivial d_N_isLetter_17
  · refine lv_iload_n hx hb d_N_isLetter_6 rfl (lv_at hl 0 rfl) ?_
    refine lv_bipush (v := xi_ 122) hx hb d_N_isLetter_7 (by decide) ?_
    refine xw_icmp_gt hx hb 16 d_N_isLetter_9 (by decide) (by omega) (fun c9 => ?_) (fun c9 => ?_)
    · refine lv_iconst (v := xi_ 0) hx hb d_N_isLetter_16 rfl ?_
      exact xw_iret F hr hlk hh (by decide) () rfl (by unfold is_letter; exact b2_f (decide_eq_false (by omega))) trivial d_N_isLetter_17
    · refine lv_iconst (v := xi_ 1) hx hb d_N_isLetter_12 rfl ?_
      refine lv_goto (tgt := 17) hx hb d_N_isLetter_13 (by decide) ?_
      exact xw_iret F hr hlk hh (by decide) () rfl (by unfold is_letter; exact b2_t (decide_eq_true (by omega))) trivial d_N_isLetter_17
def rm_N_init (room : Nat) : Room := { frames := 1, cells := 1, slots := room, locals := 23 }
set_option maxHeartbeats 4000000 in
set_option maxRecDepth 100000 in
theorem c_N_init (l : Launch) (G : GG_) (sz : Nat) (a : Nat) (kd : Int) (room : Nat) (hk9 : 0 ≤ kd ∧ kd ≤ 65535) (hroom : room ≤ 9) : Met l y_N_init (cw_ y_N_init b_N_init 3 none) (rm_N_init room) (xw_P G [.ref a, .int (xi_ kd), .int (xi_ (room : Int))] sz [(a, .inr (1, [.int (xi_ 0), .null, .int (xi_ 0), .int (xi_ 0), .int (xi_ 0), .int (xi_ 0), .int (xi_ 0)]))] (fun _ => True)) (xw_Qv (S := Nat) G sz [(a, .inr (1, [.int (xi_ 0), .null, .int (xi_ 0), .int (xi_ 0), .int (xi_ 0), .int (xi_ 0), .int (xi_ 0)]))] (fun _ => True) (fun u => [(a, .inr (1, nd_ kd u 0 1 1 0 (b2_ (is_letter kd)))), (u, .inl (G.2.2 4, room, .inr (.inr (.inr (.inr (fun _ => none))))))]) (fun _ _ => True)) 1 room (va_A [(a, .inr (1, [.int (xi_ 0), .null, .int (xi_ 0), .int (xi_ 0), .int (xi_ 0), .int (xi_ 0), .int (xi_ 0)]))] sz) := by
  refine xw_met (by decide) (Nat.le_of_ble_eq_true rfl) ?_
  intro p e s m args below meth c F hr hlk hin hsz hh hX ls hl
  subst hsz
  have hx := F.1
  have hb := F.2.1
  have hl : lv_has ls 3 [(0, .ref a), (1, .int (xi_ kd)), (2, .int (xi_ (room : Int)))] := hl
  refine lv_aload_n hx hb d_N_init_0 rfl (lv_at hl 0 rfl) ?_
  refine xw_obj F hl.1 lk_N_1' (by unfold rm_N_init; first | omega | (simp only []; omega) | exact Nat.le_of_ble_eq_true rfl) (Nat.le_of_ble_eq_true rfl) d_N_init_1 ?_
  refine lv_aload_n hx hb d_N_init_4 rfl (lv_at hl 0 rfl) ?_
  refine lv_iconst (v := xi_ 1) hx hb d_N_init_5 rfl ?_
  refine xw_put F hh fp_N_7_1 0 rfl rfl rfl (Nat.le_of_ble_eq_true rfl) d_N_init_6 (fun H locs hh => ?_)
  have hh : xw_H G (va_A [(a, .inr (1, [.int (xi_ 0), .null, .int (xi_ 0), .int (xi_ 0), .int (xi_ 0), .int (xi_ 0), .int (xi_ 0)]))] s.heap.size) s.heap H locs [(a, .inr (1, [.int (xi_ 0), .null, .int (xi_ 0), .int (xi_ 1), .int (xi_ 0), .int (xi_ 0), .int (xi_ 0)]))] := hh
  refine lv_aload_n hx hb d_N_init_9 rfl (lv_at hl 0 rfl) ?_
  refine lv_iconst (v := xi_ 1) hx hb d_N_init_10 rfl ?_
  refine xw_put F hh fp_N_13_1 0 rfl rfl rfl (Nat.le_of_ble_eq_true rfl) d_N_init_11 (fun H locs hh => ?_)
  have hh : xw_H G (va_A [(a, .inr (1, [.int (xi_ 0), .null, .int (xi_ 0), .int (xi_ 0), .int (xi_ 0), .int (xi_ 0), .int (xi_ 0)]))] s.heap.size) s.heap H locs [(a, .inr (1, [.int (xi_ 0), .null, .int (xi_ 0), .int (xi_ 1), .int (xi_ 1), .int (xi_ 0), .int (xi_ 0)]))] := hh
  refine lv_aload_n hx hb d_N_init_14 rfl (lv_at hl 0 rfl) ?_
  refine lv_iload_n hx hb d_N_init_15 rfl (lv_at hl 1 rfl) ?_
  refine xw_putF F hh hin ff_N_16_1 0 rfl (xi_nc (by omega)).1 (xi_nc (by omega)).2 (Nat.le_of_ble_eq_true rfl) d_N_init_16 (fun H locs hh => ?_)
  have hh : xw_H G (va_A [(a, .inr (1, [.int (xi_ 0), .null, .int (xi_ 0), .int (xi_ 0), .int (xi_ 0), .int (xi_ 0), .int (xi_ 0)]))] s.heap.size) s.heap H locs [(a, .inr (1, [.int (xi_ kd), .null, .int (xi_ 0), .int (xi_ 1), .int (xi_ 1), .int (xi_ 0), .int (xi_ 0)]))] := hh
  refine lv_aload_n hx hb d_N_init_19 rfl (lv_at hl 0 rfl) ?_
  refine lv_iload_n hx hb d_N_init_20 rfl (lv_at hl 2 rfl) ?_
  refine xw_newq F hh cl_N_8 (N := room) (by omega) (by unfold rm_N_init; first | omega | (simp only []; omega) | exact Nat.le_of_ble_eq_true rfl) (by unfold rm_N_init; first | omega | (simp only []; omega) | exact Nat.le_of_ble_eq_true rfl) d_N_init_21 (fun q21 H hh => ?_)
  have hh : xw_H G (va_A [(a, .inr (1, [.int (xi_ 0), .null, .int (xi_ 0), .int (xi_ 0), .int (xi_ 0), .int (xi_ 0), .int (xi_ 0)]))] s.heap.size) s.heap H locs [(a, .inr (1, [.int (xi_ kd), .null, .int (xi_ 0), .int (xi_ 1), .int (xi_ 1), .int (xi_ 0), .int (xi_ 0)])), (q21, .inl (G.2.2 4, room, .inr (.inr (.inr (.inr (fun _ => none))))))] := hh
  refine xw_putF F hh hin ff_N_20_1 0 rfl rfl rfl (Nat.le_of_ble_eq_true rfl) d_N_init_24 (fun H locs hh => ?_)
  have hh : xw_H G (va_A [(a, .inr (1, [.int (xi_ 0), .null, .int (xi_ 0), .int (xi_ 0), .int (xi_ 0), .int (xi_ 0), .int (xi_ 0)]))] s.heap.size) s.heap H locs [(a, .inr (1, [.int (xi_ kd), .ref q21, .int (xi_ 0), .int (xi_ 1), .int (xi_ 1), .int (xi_ 0), .int (xi_ 0)])), (q21, .inl (G.2.2 4, room, .inr (.inr (.inr (.inr (fun _ => none))))))] := hh
  refine lv_aload_n hx hb d_N_init_27 rfl (lv_at hl 0 rfl) ?_
  refine lv_iload_n hx hb d_N_init_28 rfl (lv_at hl 1 rfl) ?_
  refine xw_cip hh (xw_rSp F (c_N_isLetter l G H.size kd hk9) lk_N_24 cd_N_isLetter ss_N_isLetter rfl rfl ⟨Nat.le_of_ble_eq_true rfl, Nat.le_of_ble_eq_true rfl⟩ rfl hl.1 rfl (Nat.le_of_ble_eq_true rfl) d_N_init_29 ⟨by unfold rm_N_init; simp only []; omega, by unfold rm_N_init; simp only []; omega⟩) (fun z29 u H locs hp29 hz hk hh => ?_)
  obtain rfl : z29 = b2_ (is_letter kd) := hp29
  refine xw_put F hh fp_N_28_1 0 rfl (xi_nz _).1 (xi_nz _).2 (Nat.le_of_ble_eq_true rfl) d_N_init_32 (fun H locs hh => ?_)
  have hh : xw_H G (va_A [(a, .inr (1, [.int (xi_ 0), .null, .int (xi_ 0), .int (xi_ 0), .int (xi_ 0), .int (xi_ 0), .int (xi_ 0)]))] s.heap.size) s.heap H locs [(a, .inr (1, [.int (xi_ kd), .ref q21, .int (xi_ 0), .int (xi_ 1), .int (xi_ 1), .int (xi_ 0), .int (xi_ (b2_ (is_letter kd)))])), (q21, .inl (G.2.2 4, room, .inr (.inr (.inr (.inr (fun _ => none))))))] := hh
  refine W.widen (k := 1) (n := room) (by omega) (by omega) ?_
  exact xw_vret F hr hlk hh q21 rfl trivial trivial d_N_init_35
def rm_N_canSound : Room := { frames := 0, cells := 0, slots := 0, locals := 0 }
set_option maxHeartbeats 4000000 in
set_option maxRecDepth 100000 in
theorem c_N_canSound (l : Launch) (G : GG_) (sz : Nat) (a ia : Nat) (kd cnt k n r : Int) (hb9 : Bool) (hk9 : -1000 ≤ k ∧ k ≤ 1000 ∧ -1000 ≤ n ∧ n ≤ 1000) : Met l y_N_canSound (cw_ y_N_canSound b_N_canSound 1 (some .boolean)) rm_N_canSound (xw_P G [.ref a] sz [] (fun H => va_P (gD G) classes [(a, .inr (1, nd_ kd ia cnt k n r (b2_ hb9)))] H)) (xw_Qi (S := Unit) G sz [] (fun z _ => z = b2_ (hb9 && decide (0 < k) && decide (0 < n))) (fun _ => []) (fun _ _ => True)) 0 0 (va_A [] sz) := by
  refine xw_met (by decide) (Nat.le_of_ble_eq_true rfl) ?_
  intro p e s m args below meth c F hr hlk hin hsz hh hX ls hl
  subst hsz
  have hx := F.1
  have hb := F.2.1
  have hl : lv_has ls 1 [(0, .ref a)] := hl
  have hb0 := b2_01 hb9
  refine lv_aload_n hx hb d_N_canSound_0 rfl (lv_at hl 0 rfl) ?_
  refine xw_get F hX (v := .int (xi_ (b2_ hb9))) fl_N_28_1 0 rfl rfl d_N_canSound_1 ?_
  refine xw_if_eq hx hb 25 d_N_canSound_4 (by decide) (by omega) (fun c4 => ?_) (fun c4 => ?_)
  · refine lv_iconst (v := xi_ 0) hx hb d_N_canSound_25 rfl ?_
    exact xw_iret F hr hlk hh (by decide) () rfl (by exact b2_f (by rw [Bool.and_eq_false_iff, Bool.and_eq_false_iff, decide_eq_false_iff_not, decide_eq_false_iff_not]; first | exact Or.inl (Or.inl (b2_e0 c4)) | exact Or.inl (Or.inr (by omega)) | exact Or.inr (by omega))) trivial d_N_canSound_26
  · refine lv_aload_n hx hb d_N_canSound_7 rfl (lv_at hl 0 rfl) ?_
    refine xw_get F hX (v := .int (xi_ k)) fl_N_7_1 0 rfl rfl d_N_canSound_8 ?_
    refine xw_if_le hx hb 25 d_N_canSound_11 (by decide) (by omega) (fun c11 => ?_) (fun c11 => ?_)
    · refine lv_iconst (v := xi_ 0) hx hb d_N_canSound_25 rfl ?_
      exact xw_iret F hr hlk hh (by decide) () rfl (by exact b2_f (by rw [Bool.and_eq_false_iff, Bool.and_eq_false_iff, decide_eq_false_iff_not, decide_eq_false_iff_not]; first | exact Or.inl (Or.inl (b2_e0 c4)) | exact Or.inl (Or.inr (by omega)) | exact Or.inr (by omega))) trivial d_N_canSound_26
    · refine lv_aload_n hx hb d_N_canSound_14 rfl (lv_at hl 0 rfl) ?_
      refine xw_get F hX (v := .int (xi_ n)) fl_N_13_1 0 rfl rfl d_N_canSound_15 ?_
      refine xw_if_le hx hb 25 d_N_canSound_18 (by decide) (by omega) (fun c18 => ?_) (fun c18 => ?_)
      · refine lv_iconst (v := xi_ 0) hx hb d_N_canSound_25 rfl ?_
        exact xw_iret F hr hlk hh (by decide) () rfl (by exact b2_f (by rw [Bool.and_eq_false_iff, Bool.and_eq_false_iff, decide_eq_false_iff_not, decide_eq_false_iff_not]; first | exact Or.inl (Or.inl (b2_e0 c4)) | exact Or.inl (Or.inr (by omega)) | exact Or.inr (by omega))) trivial d_N_canSound_26
      · refine lv_iconst (v := xi_ 1) hx hb d_N_canSound_21 rfl ?_
        refine lv_goto (tgt := 26) hx hb d_N_canSound_22 (by decide) ?_
        exact xw_iret F hr hlk hh (by decide) () rfl (by exact b2_t (by rw [b2_ne c4, decide_eq_true c11, decide_eq_true c18]; rfl)) trivial d_N_canSound_26
def rm_N_innerAt : Room := { frames := 0, cells := 0, slots := 0, locals := 0 }
set_option maxHeartbeats 4000000 in
set_option maxRecDepth 100000 in
theorem c_N_innerAt (l : Launch) (G : GG_) (sz : Nat) (a ia room : Nat) (f : Nat → Option Nat) (kd cnt k n r hf9 x : Int) (hc9 : 0 ≤ cnt ∧ cnt ≤ (room : Int) ∧ (room : Int) ≤ 9) (hx9 : -2147483648 ≤ x ∧ x ≤ 2147483647) : Met l y_N_innerAt (cw_ y_N_innerAt b_N_innerAt 2 (some (.object "CyclePatterns$Node"))) rm_N_innerAt (xw_P G [.ref a, .int (xi_ x)] sz [] (fun H => va_P (gD G) classes [(a, .inr (1, nd_ kd ia cnt k n r hf9)), (ia, .inl (G.2.2 4, room, .inr (.inr (.inr (.inr f)))))] H)) (xw_Qa (S := Unit) G sz [] (fun z _ => z = if 0 ≤ x ∧ x < cnt then f x.toNat else none) (fun _ => []) (fun _ _ _ => True)) 0 0 (va_A [] sz) := by
  refine xw_met (by decide) (Nat.le_of_ble_eq_true rfl) ?_
  intro p e s m args below meth c F hr hlk hin hsz hh hX ls hl
  subst hsz
  have hx := F.1
  have hb := F.2.1
  have hl : lv_has ls 2 [(0, .ref a), (1, .int (xi_ x))] := hl
  refine lv_iload_n hx hb d_N_innerAt_0 rfl (lv_at hl 1 rfl) ?_
  refine xw_if_lt hx hb 21 d_N_innerAt_1 (by decide) (by omega) (fun c1 => ?_) (fun c1 => ?_)
  · refine lv_null hx hb d_N_innerAt_21 ?_
    exact xw_aret F hr hlk hh (x := none) rfl () rfl (by rw [if_neg (by omega)]) trivial d_N_innerAt_22
  · refine lv_iload_n hx hb d_N_innerAt_4 rfl (lv_at hl 1 rfl) ?_
    refine lv_aload_n hx hb d_N_innerAt_5 rfl (lv_at hl 0 rfl) ?_
    refine xw_get F hX (v := .int (xi_ cnt)) fl_N_32_1 0 rfl rfl d_N_innerAt_6 ?_
    refine xw_icmp_ge hx hb 21 d_N_innerAt_9 (by decide) (by omega) (fun c9 => ?_) (fun c9 => ?_)
    · refine lv_null hx hb d_N_innerAt_21 ?_
      exact xw_aret F hr hlk hh (x := none) rfl () rfl (by rw [if_neg (by omega)]) trivial d_N_innerAt_22
    · refine lv_aload_n hx hb d_N_innerAt_12 rfl (lv_at hl 0 rfl) ?_
      refine xw_get F hX (v := .ref ia) fl_N_20_1 0 rfl rfl d_N_innerAt_13 ?_
      refine lv_iload_n hx hb d_N_innerAt_16 rfl (lv_at hl 1 rfl) ?_
      refine xw_aald F hX 1 (f := f) rfl (i := x) (by omega) (x := f (x).toNat) rfl d_N_innerAt_17 ?_
      refine lv_goto (tgt := 22) hx hb d_N_innerAt_18 (by decide) ?_
      exact xw_aret F hr hlk hh (x := (f (x).toNat)) rfl () rfl (by rw [if_pos (by omega)]) trivial d_N_innerAt_22
def rm_N_inStep : Room := { frames := 1, cells := 0, slots := 0, locals := 21 }
set_option maxHeartbeats 4000000 in
set_option maxRecDepth 100000 in
theorem c_N_inStep (l : Launch) (G : GG_) (sz : Nat) (a ia room : Nat) (f : Nat → Option Nat) (kd cnt k n r hf9 x : Int) (hc9 : 0 ≤ cnt ∧ cnt ≤ (room : Int) ∧ (room : Int) ≤ 9) (hx9 : 0 ≤ x ∧ x ≤ 9) (hk9 : 0 ≤ kd ∧ kd ≤ 65535 ∧ 0 ≤ k ∧ k ≤ 9 ∧ 0 ≤ n ∧ n ≤ 9 ∧ 0 ≤ r ∧ r ≤ 9) : Met l y_N_inStep (cw_ y_N_inStep b_N_inStep 2 (some (.object "CyclePatterns$Node"))) rm_N_inStep (xw_P G [.ref a, .int (xi_ x)] sz [] (fun H => va_P (gD G) classes [(a, .inr (1, nd_ kd ia cnt k n r hf9)), (ia, .inl (G.2.2 4, room, .inr (.inr (.inr (.inr f)))))] H)) (xw_Qa (S := Unit) G sz [] (fun z _ => z = if kd = 91 then (if 0 ≤ x ∧ x < cnt then f x.toNat else none) else if 0 < n ∧ ((x + r) * k).tmod n < k then (if 0 < cnt then f 0 else none) else none) (fun _ => []) (fun _ _ _ => True)) 0 0 (va_A [] sz) := by
  refine xw_met (by decide) (Nat.le_of_ble_eq_true rfl) ?_
  intro p e s m args below meth c F hr hlk hin hsz hh hX ls hl
  subst hsz
  have hx := F.1
  have hb := F.2.1
  have hl : lv_has ls 2 [(0, .ref a), (1, .int (xi_ x))] := hl
  refine lv_aload_n hx hb d_N_inStep_0 rfl (lv_at hl 0 rfl) ?_
  refine xw_get F hX (v := .int (xi_ kd)) fl_N_16_1 0 rfl rfl d_N_inStep_1 ?_
  refine lv_bipush (v := xi_ 91) hx hb d_N_inStep_4 (by decide) ?_
  refine xw_icmp_ne hx hb 15 d_N_inStep_6 (by decide) (by omega) (fun c6 => ?_) (fun c6 => ?_)
  · refine lv_aload_n hx hb d_N_inStep_15 rfl (lv_at hl 0 rfl) ?_
    refine xw_get F hX (v := .int (xi_ n)) fl_N_13_1 0 rfl rfl d_N_inStep_16 ?_
    refine xw_if_le hx hb 53 d_N_inStep_19 (by decide) (by omega) (fun c19 => ?_) (fun c19 => ?_)
    · refine lv_null hx hb d_N_inStep_53 ?_
      exact xw_aret F hr hlk hh (x := none) rfl () rfl (by rw [if_neg (by omega)]; first | rw [if_neg (fun q => by omega)] | rw [if_neg (fun q => absurd q.2 (by omega))]) trivial d_N_inStep_54
    · refine lv_iload_n hx hb d_N_inStep_22 rfl (lv_at hl 1 rfl) ?_
      refine lv_aload_n hx hb d_N_inStep_23 rfl (lv_at hl 0 rfl) ?_
      refine xw_get F hX (v := .int (xi_ r)) fl_N_43_1 0 rfl rfl d_N_inStep_24 ?_
      refine xw_iadd hx hb d_N_inStep_27 ?_
      refine lv_aload_n hx hb d_N_inStep_28 rfl (lv_at hl 0 rfl) ?_
      refine xw_get F hX (v := .int (xi_ k)) fl_N_7_1 0 rfl rfl d_N_inStep_29 ?_
      have h32 : 0 ≤ (x + r) * k ∧ (x + r) * k ≤ 18 * 9 := ⟨Int.mul_nonneg (by omega) (by omega), Int.mul_le_mul (by omega) (by omega) (by omega) (by omega)⟩
      refine xw_imul hx hb d_N_inStep_32 ?_
      refine lv_aload_n hx hb d_N_inStep_33 rfl (lv_at hl 0 rfl) ?_
      refine xw_get F hX (v := .int (xi_ n)) fl_N_13_1 0 rfl rfl d_N_inStep_34 ?_
      refine xw_irem hx hb d_N_inStep_37 ⟨⟨by omega, by omega⟩, by omega, by omega⟩ ?_
      have h37 : -2147483648 ≤ ((x + r) * k).tmod n ∧ ((x + r) * k).tmod n ≤ 2147483647 := by
        have h38 := Int.tmod_lt_of_pos ((x + r) * k) (by omega : 0 < n)
        have h39 := Int.tmod_nonneg n h32.1
        omega
      refine lv_aload_n hx hb d_N_inStep_38 rfl (lv_at hl 0 rfl) ?_
      refine xw_get F hX (v := .int (xi_ k)) fl_N_7_1 0 rfl rfl d_N_inStep_39 ?_
      refine xw_icmp_ge hx hb 53 d_N_inStep_42 (by decide) ⟨h37, by omega⟩ (fun c42 => ?_) (fun c42 => ?_)
      · refine lv_null hx hb d_N_inStep_53 ?_
        exact xw_aret F hr hlk hh (x := none) rfl () rfl (by rw [if_neg (by omega)]; first | rw [if_neg (fun q => by omega)] | rw [if_neg (fun q => absurd q.2 (by omega))]) trivial d_N_inStep_54
      · refine lv_aload_n hx hb d_N_inStep_45 rfl (lv_at hl 0 rfl) ?_
        refine lv_iconst (v := xi_ 0) hx hb d_N_inStep_46 rfl ?_
        refine xw_cap hh (xw_rVp F (c_N_innerAt l G s.heap.size a ia room f kd cnt k n r hf9 0 hc9 (by omega)) hX lk_N_39 cd_N_innerAt se_N_innerAt _ hX 0 rfl rfl rfl rfl ⟨by decide, by decide⟩ rfl hl.1 rfl (Nat.le_of_ble_eq_true rfl) d_N_inStep_47 ⟨Nat.le_of_ble_eq_true rfl, Nat.le_of_ble_eq_true rfl⟩) (fun z47 u H locs hp47 hz hk hh => ?_)
        rw [show (if 0 ≤ (0 : Int) ∧ (0 : Int) < cnt then f (0 : Int).toNat else none) = if 0 < cnt then f 0 else none by simp] at hp47
        refine lv_goto (tgt := 54) hx hb d_N_inStep_50 (by decide) ?_
        exact xw_aret F hr hlk hh (x := z47) rfl () rfl (by rw [if_neg (by omega), if_pos ⟨by omega, by omega⟩]; exact hp47) trivial d_N_inStep_54
  · refine lv_aload_n hx hb d_N_inStep_9 rfl (lv_at hl 0 rfl) ?_
    refine lv_iload_n hx hb d_N_inStep_10 rfl (lv_at hl 1 rfl) ?_
    refine xw_cap hh (xw_rVp F (c_N_innerAt l G s.heap.size a ia room f kd cnt k n r hf9 x hc9 (by omega)) hX lk_N_39 cd_N_innerAt se_N_innerAt _ hX 0 rfl rfl rfl rfl ⟨by decide, by decide⟩ rfl hl.1 rfl (Nat.le_of_ble_eq_true rfl) d_N_inStep_11 ⟨Nat.le_of_ble_eq_true rfl, Nat.le_of_ble_eq_true rfl⟩) (fun z11 u H locs hp11 hz hk hh => ?_)
    exact xw_aret F hr hlk hh (x := z11) rfl () rfl (by rw [if_pos (by omega)]; exact hp11) trivial d_N_inStep_14
def rm_N_add : Room := { frames := 1, cells := 0, slots := 0, locals := 20 }
set_option maxHeartbeats 4000000 in
set_option maxRecDepth 100000 in
theorem c_N_add_null (l : Launch) (G : GG_) (sz : Nat) (a ia room : Nat) (f : Nat → Option Nat) (kd cnt k n r : Int) (hb8 : Bool) (hc9 : 0 ≤ cnt ∧ cnt ≤ (room : Int) ∧ (room : Int) ≤ 9) : Met l y_N_add (cw_ y_N_add b_N_add 2 (some .boolean)) rm_N_add (xw_P G [.ref a, .null] sz [(a, .inr (1, nd_ kd ia cnt k n r (b2_ hb8))), (ia, .inl (G.2.2 4, room, .inr (.inr (.inr (.inr f)))))] (fun _ => True)) (xw_Qi (S := Unit) G sz [(a, .inr (1, nd_ kd ia cnt k n r (b2_ hb8))), (ia, .inl (G.2.2 4, room, .inr (.inr (.inr (.inr f)))))] (fun z _ => z = 0) (fun _ => [(a, .inr (1, nd_ kd ia cnt k n r (b2_ hb8))), (ia, .inl (G.2.2 4, room, .inr (.inr (.inr (.inr f)))))]) (fun _ _ => True)) 0 0 (va_A [(a, .inr (1, nd_ kd ia cnt k n r (b2_ hb8))), (ia, .inl (G.2.2 4, room, .inr (.inr (.inr (.inr f)))))] sz) := by
  refine xw_met (by decide) (Nat.le_of_ble_eq_true rfl) ?_
  intro p e s m args below meth c F hr hlk hin hsz hh hX ls hl
  subst hsz
  have hx := F.1
  have hb := F.2.1
  have hl : lv_has ls 2 [(0, .ref a), (1, .null)] := hl
  refine lv_aload_nN hx hb d_N_add_0 rfl (lv_at hl 1 rfl) ?_
  refine lv_ifnullN (tgt := 16) hx hb d_N_add_1 (by decide) ?_
  refine lv_iconst (v := xi_ 0) hx hb d_N_add_16 rfl ?_
  exact xw_iret F hr hlk hh (by decide) () rfl (by rfl) trivial d_N_add_17
set_option maxHeartbeats 4000000 in
set_option maxRecDepth 100000 in
theorem c_N_add (l : Launch) (G : GG_) (sz : Nat) (a ia room : Nat) (f : Nat → Option Nat) (kd cnt k n r : Int) (hb8 : Bool) (hc9 : 0 ≤ cnt ∧ cnt < (room : Int) ∧ (room : Int) ≤ 9) (b ia2 : Nat) (kd2 cnt2 k2 n2 r2 : Int) (hb9 : Bool) (hk9 : -1000 ≤ k2 ∧ k2 ≤ 1000 ∧ -1000 ≤ n2 ∧ n2 ≤ 1000) (hne : b ≠ a ∧ b ≠ ia) : Met l y_N_add (cw_ y_N_add b_N_add 2 (some .boolean)) rm_N_add (xw_P G [.ref a, .ref b] sz [(a, .inr (1, nd_ kd ia cnt k n r (b2_ hb8))), (ia, .inl (G.2.2 4, room, .inr (.inr (.inr (.inr f)))))] (fun H => va_P (gD G) classes [(b, .inr (1, nd_ kd2 ia2 cnt2 k2 n2 r2 (b2_ hb9)))] H)) (xw_Qi (S := Unit) G sz [(a, .inr (1, nd_ kd ia cnt k n r (b2_ hb8))), (ia, .inl (G.2.2 4, room, .inr (.inr (.inr (.inr f)))))] (fun z _ => z = 1) (fun _ => [(a, .inr (1, nd_ kd ia (cnt + 1) k n r (b2_ (hb8 || (hb9 && decide (0 < k2) && decide (0 < n2)))))), (ia, .inl (G.2.2 4, room, .inr (.inr (.inr (.inr (va_up f cnt.toNat (some b)))))))]) (fun _ _ => True)) 0 0 (va_A [(a, .inr (1, nd_ kd ia cnt k n r (b2_ hb8))), (ia, .inl (G.2.2 4, room, .inr (.inr (.inr (.inr f)))))] sz) := by
  refine xw_met (by decide) (Nat.le_of_ble_eq_true rfl) ?_
  intro p e s m args below meth c F hr hlk hin hsz hh hX ls hl
  subst hsz
  have hx := F.1
  have hb := F.2.1
  have hl : lv_has ls 2 [(0, .ref a), (1, .ref b)] := hl
  have hb0 := b2_01 hb8
  refine lv_aload_n hx hb d_N_add_0 rfl (lv_at hl 1 rfl) ?_
  refine lv_ifnull hx hb d_N_add_1 ?_
  refine lv_aload_n hx hb d_N_add_4 rfl (lv_at hl 0 rfl) ?_
  refine xw_get F hh.1 (v := .int (xi_ cnt)) fl_N_32_1 0 rfl rfl d_N_add_5 ?_
  refine lv_aload_n hx hb d_N_add_8 rfl (lv_at hl 0 rfl) ?_
  refine xw_get F hh.1 (v := .ref ia) fl_N_20_1 0 rfl rfl d_N_add_9 ?_
  refine va_alen (v := xi_ (room : Int)) hx hb F.2.2.2.2.2.1 hh.1 1 4 rfl rfl (xi_nat room) d_N_add_12 ?_
  refine xw_icmp_lt hx hb 18 d_N_add_13 (by decide) (by omega) (fun c13 => ?_) (fun c13 => absurd c13 (by omega))
  refine lv_aload_n hx hb d_N_add_18 rfl (lv_at hl 0 rfl) ?_
  refine xw_get F hh.1 (v := .ref ia) fl_N_20_1 0 rfl rfl d_N_add_19 ?_
  refine lv_aload_n hx hb d_N_add_22 rfl (lv_at hl 0 rfl) ?_
  refine xw_get F hh.1 (v := .int (xi_ cnt)) fl_N_32_1 0 rfl rfl d_N_add_23 ?_
  refine lv_aload_n hx hb d_N_add_26 rfl (lv_at hl 1 rfl) ?_
  refine xw_aast F hh 1 (f := f) rfl hX 0 rfl (i := cnt) (by omega) d_N_add_27 (fun H locs hh oq => ?_)
  have hh : xw_H G (va_A [(a, .inr (1, nd_ kd ia cnt k n r (b2_ hb8))), (ia, .inl (G.2.2 4, room, .inr (.inr (.inr (.inr f)))))] s.heap.size) s.heap H locs [(a, .inr (1, nd_ kd ia cnt k n r (b2_ hb8))), (ia, .inl (G.2.2 4, room, .inr (.inr (.inr (.inr (va_up f (cnt).toNat (some b)))))))] := hh
  refine lv_aload_n hx hb d_N_add_28 rfl (lv_at hl 0 rfl) ?_
  refine lv_dup hx hb d_N_add_29 rfl ?_
  refine xw_get F hh.1 (v := .int (xi_ cnt)) fl_N_32_1 0 rfl rfl d_N_add_30 ?_
  refine lv_iconst (v := xi_ 1) hx hb d_N_add_33 rfl ?_
  refine xw_iadd hx hb d_N_add_34 ?_
  refine xw_put F hh fp_N_32_1 0 rfl rfl rfl (Nat.le_of_ble_eq_true rfl) d_N_add_35 (fun H locs hh => ?_)
  have hh : xw_H G (va_A [(a, .inr (1, nd_ kd ia cnt k n r (b2_ hb8))), (ia, .inl (G.2.2 4, room, .inr (.inr (.inr (.inr f)))))] s.heap.size) s.heap H locs [(a, .inr (1, nd_ kd ia (cnt + 1) k n r (b2_ hb8))), (ia, .inl (G.2.2 4, room, .inr (.inr (.inr (.inr (va_up f (cnt).toNat (some b)))))))] := hh
  refine lv_aload_n hx hb d_N_add_38 rfl (lv_at hl 0 rfl) ?_
  refine lv_aload_n hx hb d_N_add_39 rfl (lv_at hl 0 rfl) ?_
  refine xw_get F hh.1 (v := .int (xi_ (b2_ hb8))) fl_N_28_1 0 rfl rfl d_N_add_40 ?_
  refine xw_if_ne hx hb 53 d_N_add_43 (by decide) (by omega) (fun c43 => ?_) (fun c43 => ?_)
  · refine lv_iconst (v := xi_ 1) hx hb d_N_add_53 rfl ?_
    refine lv_goto (tgt := 58) hx hb d_N_add_54 (by decide) ?_
    have e58 : (1 : Int) = b2_ (hb8 || (hb9 && decide (0 < k2) && decide (0 < n2))) := by first | (rw [b2_ne c43]; rfl) | (rw [b2_ne c50]; exact b2_t (Bool.or_true _))
    refine xw_topi e58 ?_
    refine xw_put F hh fp_N_28_1 0 rfl (xi_nz _).1 (xi_nz _).2 (Nat.le_of_ble_eq_true rfl) d_N_add_58 (fun H locs hh => ?_)
    have hh : xw_H G (va_A [(a, .inr (1, nd_ kd ia cnt k n r (b2_ hb8))), (ia, .inl (G.2.2 4, room, .inr (.inr (.inr (.inr f)))))] s.heap.size) s.heap H locs [(a, .inr (1, nd_ kd ia (cnt + 1) k n r (b2_ (hb8 || (hb9 && decide (0 < k2) && decide (0 < n2)))))), (ia, .inl (G.2.2 4, room, .inr (.inr (.inr (.inr (va_up f (cnt).toNat (some b)))))))] := hh
    refine lv_iconst (v := xi_ 1) hx hb d_N_add_61 rfl ?_
    exact xw_iret F hr hlk hh (by decide) () rfl (by rfl) trivial d_N_add_62
  · refine lv_aload_n hx hb d_N_add_46 rfl (lv_at hl 1 rfl) ?_
    have hbl : b < s.heap.size := (hX 0 _ rfl).lt
    have hbA : ¬ va_A [(a, .inr (1, nd_ kd ia cnt k n r (b2_ hb8))), (ia, .inl (G.2.2 4, room, .inr (.inr (.inr (.inr f)))))] s.heap.size b := fun z => by
      rcases z with ⟨k, e, z⟩ | z
      · match k, z with
        | 0, z => exact hne.1 (congrArg Prod.fst (Option.some.inj z)).symm
        | 1, z => exact hne.2 (congrArg Prod.fst (Option.some.inj z)).symm
        | k + 2, z => simp at z
      · omega
    have hXH : va_P (gD G) classes [(b, .inr (1, nd_ kd2 ia2 cnt2 k2 n2 r2 (b2_ hb9)))] H := xw_ro hX (fun k q hq => by
      match k, hq with
      | 0, hq => cases hq; exact hh.2.2.1.2.1 b hbl hbA
      | k + 1, hq => simp at hq)
    refine xw_cip hh (xw_rVp F (c_N_canSound l G H.size b ia2 kd2 cnt2 k2 n2 r2 hb9 hk9) hXH lk_N_35 cd_N_canSound se_N_canSound _ hXH 0 rfl rfl rfl rfl ⟨by decide, by decide⟩ rfl hl.1 rfl (Nat.le_of_ble_eq_true rfl) d_N_add_47 ⟨Nat.le_of_ble_eq_true rfl, Nat.le_of_ble_eq_true rfl⟩) (fun z47 u H locs hp47 hz hk hh => ?_)
    obtain rfl : z47 = b2_ (hb9 && decide (0 < k2) && decide (0 < n2)) := hp47
    have hz := b2_01 (hb9 && decide (0 < k2) && decide (0 < n2))
    refine xw_if_eq hx hb 57 d_N_add_50 (by decide) (by omega) (fun c50 => ?_) (fun c50 => ?_)
    · refine lv_iconst (v := xi_ 0) hx hb d_N_add_57 rfl ?_
      have e58 : (0 : Int) = b2_ (hb8 || (hb9 && decide (0 < k2) && decide (0 < n2))) := by rw [b2_e0 c50, b2_e0 c43]; rfl
      refine xw_topi e58 ?_
      refine xw_put F hh fp_N_28_1 0 rfl (xi_nz _).1 (xi_nz _).2 (Nat.le_of_ble_eq_true rfl) d_N_add_58 (fun H locs hh => ?_)
      have hh : xw_H G (va_A [(a, .inr (1, nd_ kd ia cnt k n r (b2_ hb8))), (ia, .inl (G.2.2 4, room, .inr (.inr (.inr (.inr f)))))] s.heap.size) s.heap H locs [(a, .inr (1, nd_ kd ia (cnt + 1) k n r (b2_ (hb8 || (hb9 && decide (0 < k2) && decide (0 < n2)))))), (ia, .inl (G.2.2 4, room, .inr (.inr (.inr (.inr (va_up f (cnt).toNat (some b)))))))] := hh
      refine lv_iconst (v := xi_ 1) hx hb d_N_add_61 rfl ?_
      exact xw_iret F hr hlk hh (by decide) () rfl (by rfl) trivial d_N_add_62
    · refine lv_iconst (v := xi_ 1) hx hb d_N_add_53 rfl ?_
      refine lv_goto (tgt := 58) hx hb d_N_add_54 (by decide) ?_
      have e58 : (1 : Int) = b2_ (hb8 || (hb9 && decide (0 < k2) && decide (0 < n2))) := by first | (rw [b2_ne c43]; rfl) | (rw [b2_ne c50]; exact b2_t (Bool.or_true _))
      refine xw_topi e58 ?_
      refine xw_put F hh fp_N_28_1 0 rfl (xi_nz _).1 (xi_nz _).2 (Nat.le_of_ble_eq_true rfl) d_N_add_58 (fun H locs hh => ?_)
      have hh : xw_H G (va_A [(a, .inr (1, nd_ kd ia cnt k n r (b2_ hb8))), (ia, .inl (G.2.2 4, room, .inr (.inr (.inr (.inr f)))))] s.heap.size) s.heap H locs [(a, .inr (1, nd_ kd ia (cnt + 1) k n r (b2_ (hb8 || (hb9 && decide (0 < k2) && decide (0 < n2)))))), (ia, .inl (G.2.2 4, room, .inr (.inr (.inr (.inr (va_up f (cnt).toNat (some b)))))))] := hh
      refine lv_iconst (v := xi_ 1) hx hb d_N_add_61 rfl ?_
      exact xw_iret F hr hlk hh (by decide) () rfl (by rfl) trivial d_N_add_62
