/-! the model: floor -/
/-- x / y, rounded down, by any divisor -/
def fl_ (x y : Int) : Int := if 0 < y then x / y else (-x) / (-y)
theorem fl_pos {x y : Int} (hy : 0 < y) : (x.tdiv y * y = x → x.tdiv y = x / y) ∧ (0 ≤ x → x.tdiv y = x / y) ∧ (x.tdiv y * y ≠ x → x < 0 → x.tdiv y - 1 = x / y) := by
  refine ⟨fun h => ?_, fun h => Int.tdiv_eq_ediv_of_nonneg h, fun h h0 => ((td_neg h0 hy).2 h).symm⟩
  by_cases h0 : 0 ≤ x
  · exact Int.tdiv_eq_ediv_of_nonneg h0
  · exact ((td_neg (by omega) hy).1 h).symm
theorem fl_all {x y : Int} (hy : y ≠ 0) : (x.tdiv y * y = x → x.tdiv y = fl_ x y) ∧ ((x < 0 ∧ y < 0) ∨ (0 ≤ x ∧ 0 ≤ y) → x.tdiv y = fl_ x y) ∧ (x.tdiv y * y ≠ x → (x < 0 ∧ 0 ≤ y) ∨ (0 ≤ x ∧ y < 0) → x.tdiv y - 1 = fl_ x y) := by
  unfold fl_
  by_cases h : 0 < y
  · rw [if_pos h]
    obtain ⟨h1, h2, h3⟩ := fl_pos (x := x) h
    exact ⟨h1, fun q => h2 (by omega), fun q r => h3 q (by omega)⟩
  · rw [if_neg h]
    have e : (-x).tdiv (-y) = x.tdiv y := by rw [Int.neg_tdiv, Int.tdiv_neg, Int.neg_neg]
    obtain ⟨h1, h2, h3⟩ := fl_pos (x := -x) (y := -y) (by omega)
    rw [e] at h1 h2 h3
    have e2 : x.tdiv y * -y = -(x.tdiv y * y) := by rw [Int.mul_neg]
    rw [e2] at h1 h3
    refine ⟨fun q => h1 (by omega), fun q => ?_, fun q r => ?_⟩
    · exact h2 (by omega)
    · by_cases hx0 : x = 0
      · subst hx0
        exact absurd (by rw [Int.zero_tdiv, Int.zero_mul]) q
      · exact h3 (by omega) (by omega)
theorem fl_rng {x y : Int} (h : (-9223372036854775807 ≤ x ∧ x ≤ 9223372036854775807)) : -9223372036854775807 ≤ x.tdiv y * y ∧ x.tdiv y * y ≤ 9223372036854775807 := by
  have h1 : (x.tdiv y * y).natAbs ≤ x.natAbs := by
    rw [Int.natAbs_mul, Int.natAbs_tdiv]
    exact Nat.div_mul_le_self _ _
  omega
def rm_M_floor : Room := { frames := 0, cells := 0, slots := 0, locals := 0 }
set_option maxHeartbeats 4000000 in
set_option maxRecDepth 100000 in
theorem c_M_floor (l : Launch) (G : GG_) (sz : Nat) (x y : Int) (hxy : (-9223372036854775807 ≤ x ∧ x ≤ 9223372036854775807) ∧ y ≠ 0 ∧ -9223372036854775807 ≤ y ∧ y ≤ 9223372036854775807) : Met l y_M_floor (cw_ y_M_floor b_M_floor 6 (some .long)) rm_M_floor (xw_P G [.long (xl_ x), .long (xl_ y)] sz [] (fun _ => True)) (xw_Ql (S := Unit) G sz [] (fun z _ => z = fl_ x y) (fun _ => []) (fun _ _ => True)) 0 0 (va_A [] sz) := by
  refine xw_met (by decide) (Nat.le_of_ble_eq_true rfl) ?_
  intro p0 e0 s m0 args below meth c0 F hr hlk hin hsz hh hX ls hl
  subst hsz
  have hx := F.1
  have hb := F.2.1
  have hl : lv_has ls 6 [(0, .long (xl_ x)), (2, .long (xl_ y))] := hl
  refine lv_lload_n hx hb d_M_floor_0 rfl (lv_at hl 0 rfl) ?_
  refine lv_lload_n hx hb d_M_floor_1 rfl (lv_at hl 1 rfl) ?_
  refine xw_ldiv hx hb d_M_floor_2 (by omega) ?_
  refine lv_lstore (lv' := [(4, .long (xl_ (x.tdiv y))), (0, .long (xl_ x)), (2, .long (xl_ y))]) hx hb d_M_floor_3 hl (by decide) rfl (fun ls hl => ?_)
  have hfr := fl_rng (y := y) hxy.1
  have htr := td_rng (y := y) hxy.1
  refine lv_lload hx hb d_M_floor_5 (lv_at hl 0 rfl) ?_
  refine lv_lload_n hx hb d_M_floor_7 rfl (lv_at hl 2 rfl) ?_
  refine xw_lmul hx hb d_M_floor_8 ?_
  refine lv_lload_n hx hb d_M_floor_9 rfl (lv_at hl 1 rfl) ?_
  refine xw_lcmp_eq hx hb 46 d_M_floor_10 d_M_floor_11 (by decide) (by omega) (fun c10 => ?_) (fun c10 => ?_)
  · refine lv_lload hx hb d_M_floor_46 (lv_at hl 0 rfl) ?_
    exact xw_lret F hr hlk hh () rfl (by exact (fl_all hxy.2.1).1 c10) trivial d_M_floor_48
  · refine lv_lload_n hx hb d_M_floor_14 rfl (lv_at hl 1 rfl) ?_
    refine lv_lconst (v := xl_ 0) hx hb d_M_floor_15 (by decide) ?_
    refine xw_lcmp_ge hx hb 24 d_M_floor_16 d_M_floor_17 (by decide) (by omega) (fun c16 => ?_) (fun c16 => ?_)
    · refine lv_iconst (v := xi_ 0) hx hb d_M_floor_24 rfl ?_
      refine lv_lload_n hx hb d_M_floor_25 rfl (lv_at hl 2 rfl) ?_
      refine lv_lconst (v := xl_ 0) hx hb d_M_floor_26 (by decide) ?_
      refine xw_lcmp_ge hx hb 35 d_M_floor_27 d_M_floor_28 (by decide) (by omega) (fun c27 => ?_) (fun c27 => ?_)
      · refine lv_iconst (v := xi_ 0) hx hb d_M_floor_35 rfl ?_
        refine xw_icmp_eq hx hb 46 d_M_floor_36 (by decide) (by decide) (fun c36 => ?_) (fun c36 => absurd c36 (by decide))
        refine lv_lload hx hb d_M_floor_46 (lv_at hl 0 rfl) ?_
        exact xw_lret F hr hlk hh () rfl (by exact (fl_all hxy.2.1).2.1 (by omega)) trivial d_M_floor_48
      · refine lv_iconst (v := xi_ 1) hx hb d_M_floor_31 rfl ?_
        refine lv_goto (tgt := 36) hx hb d_M_floor_32 (by decide) ?_
        refine xw_icmp_eq hx hb 46 d_M_floor_36 (by decide) (by decide) (fun c36 => absurd c36 (by decide)) (fun c36 => ?_)
        refine lv_lload hx hb d_M_floor_39 (lv_at hl 0 rfl) ?_
        refine lv_lconst (v := xl_ 1) hx hb d_M_floor_41 (by decide) ?_
        refine xw_lsub hx hb d_M_floor_42 ?_
        refine lv_goto (tgt := 48) hx hb d_M_floor_43 (by decide) ?_
        exact xw_lret F hr hlk hh () rfl (by exact (fl_all hxy.2.1).2.2 c10 (by omega)) trivial d_M_floor_48
    · refine lv_iconst (v := xi_ 1) hx hb d_M_floor_20 rfl ?_
      refine lv_goto (tgt := 25) hx hb d_M_floor_21 (by decide) ?_
      refine lv_lload_n hx hb d_M_floor_25 rfl (lv_at hl 2 rfl) ?_
      refine lv_lconst (v := xl_ 0) hx hb d_M_floor_26 (by decide) ?_
      refine xw_lcmp_ge hx hb 35 d_M_floor_27 d_M_floor_28 (by decide) (by omega) (fun c27 => ?_) (fun c27 => ?_)
      · refine lv_iconst (v := xi_ 0) hx hb d_M_floor_35 rfl ?_
        refine xw_icmp_eq hx hb 46 d_M_floor_36 (by decide) (by decide) (fun c36 => absurd c36 (by decide)) (fun c36 => ?_)
        refine lv_lload hx hb d_M_floor_39 (lv_at hl 0 rfl) ?_
        refine lv_lconst (v := xl_ 1) hx hb d_M_floor_41 (by decide) ?_
        refine xw_lsub hx hb d_M_floor_42 ?_
        refine lv_goto (tgt := 48) hx hb d_M_floor_43 (by decide) ?_
        exact xw_lret F hr hlk hh () rfl (by exact (fl_all hxy.2.1).2.2 c10 (by omega)) trivial d_M_floor_48
      · refine lv_iconst (v := xi_ 1) hx hb d_M_floor_31 rfl ?_
        refine lv_goto (tgt := 36) hx hb d_M_floor_32 (by decide) ?_
        refine xw_icmp_eq hx hb 46 d_M_floor_36 (by decide) (by decide) (fun c36 => ?_) (fun c36 => absurd c36 (by decide))
        refine lv_lload hx hb d_M_floor_46 (lv_at hl 0 rfl) ?_
        exact xw_lret F hr hlk hh () rfl (by exact (fl_all hxy.2.1).2.1 (by omega)) trivial d_M_floor_48
