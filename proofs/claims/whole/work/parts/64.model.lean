/-! the model: its object, its small methods -/
def mo_ (ma : Nat → Nat) (ty at0 dp wy un pl sp pe tk du tm : Int) : List Value := [.int (xi_ ty), .ref (ma 1), .int (xi_ at0), .ref (ma 3), .ref (ma 4), .ref (ma 5), .ref (ma 6), .ref (ma 7), .ref (ma 8), .ref (ma 9), .ref (ma 10), .ref (ma 11), .ref (ma 12), .int (xi_ dp), .ref (ma 14), .ref (ma 15), .int (xi_ wy), .ref (ma 17), .ref (ma 18), .ref (ma 19), .ref (ma 20), .ref (ma 21), .ref (ma 22), .ref (ma 23), .ref (ma 24), .ref (ma 25), .ref (ma 26), .ref (ma 27), .ref (ma 28), .ref (ma 29), .ref (ma 30), .ref (ma 31), .int (xi_ un), .int (xi_ pl), .long (xl_ sp), .long (xl_ pe), .int (xi_ tk), .int (xi_ du), .int (xi_ tm), .ref (ma 39), .ref (ma 40), .ref (ma 41), .ref (ma 42), .ref (ma 43), .ref (ma 44)]
/-- how many patterns a kind wants: 10: up to nine and its closing sign -/
def wn_ (k : Int) : Int := if k = 1 ∨ k = 2 ∨ k = 3 then 10 else if k = 8 then 2 else if k = 0 ∨ k = 10 then 0 else 1
/-- the kind of a sign, or -1 -/
def kf_ (c : Int) : Int := if 97 ≤ c ∧ c ≤ 122 then 0 else if c = 91 then 1 else if c = 60 then 2 else if c = 123 then 3 else if c = 70 then 4 else if c = 83 then 5 else if c = 76 then 6 else if c = 82 then 7 else if c = 86 then 8 else if c = 69 then 9 else if c = 126 then 10 else -1
def rm_M_wants : Room := { frames := 0, cells := 0, slots := 0, locals := 0 }
set_option maxHeartbeats 4000000 in
set_option maxRecDepth 100000 in
theorem c_M_wants (l : Launch) (G : GG_) (sz : Nat) (k : Int) (hk : -1000 ≤ k ∧ k ≤ 1000) : Met l y_M_wants (cw_ y_M_wants b_M_wants 1 (some .int)) rm_M_wants (xw_P G [.int (xi_ k)] sz [] (fun _ => True)) (xw_Qi (S := Unit) G sz [] (fun z _ => z = wn_ k) (fun _ => []) (fun _ _ => True)) 0 0 (va_A [] sz) := by
  refine xw_met (by decide) (Nat.le_of_ble_eq_true rfl) ?_
  intro p0 e0 s m0 args below meth c0 F hr hlk hin hsz hh hX ls hl
  subst hsz
  have hx := F.1
  have hb := F.2.1
  have hl : lv_has ls 1 [(0, .int (xi_ k))] := hl
  refine lv_iload_n hx hb d_M_wants_0 rfl (lv_at hl 0 rfl) ?_
  refine lv_iconst (v := xi_ 1) hx hb d_M_wants_1 rfl ?_
  refine xw_icmp_eq hx hb 15 d_M_wants_2 (by decide) (by omega) (fun c2 => ?_) (fun c2 => ?_)
  · refine lv_bipush (v := xi_ 10) hx hb d_M_wants_15 (by decide) ?_
    refine lv_goto (tgt := 45) hx hb d_M_wants_17 (by decide) ?_
    exact xw_iret F hr hlk hh rfl () rfl (by unfold wn_; first | (rw [if_pos (by omega)]) | (rw [if_neg (by omega), if_pos (by omega)]) | (rw [if_neg (by omega), if_neg (by omega), if_pos (by omega)]) | (rw [if_neg (by omega), if_neg (by omega), if_neg (by omega)])) trivial d_M_wants_45
  · refine lv_iload_n hx hb d_M_wants_5 rfl (lv_at hl 0 rfl) ?_
    refine lv_iconst (v := xi_ 2) hx hb d_M_wants_6 rfl ?_
    refine xw_icmp_eq hx hb 15 d_M_wants_7 (by decide) (by omega) (fun c7 => ?_) (fun c7 => ?_)
    · refine lv_bipush (v := xi_ 10) hx hb d_M_wants_15 (by decide) ?_
      refine lv_goto (tgt := 45) hx hb d_M_wants_17 (by decide) ?_
      exact xw_iret F hr hlk hh rfl () rfl (by unfold wn_; first | (rw [if_pos (by omega)]) | (rw [if_neg (by omega), if_pos (by omega)]) | (rw [if_neg (by omega), if_neg (by omega), if_pos (by omega)]) | (rw [if_neg (by omega), if_neg (by omega), if_neg (by omega)])) trivial d_M_wants_45
    · refine lv_iload_n hx hb d_M_wants_10 rfl (lv_at hl 0 rfl) ?_
      refine lv_iconst (v := xi_ 3) hx hb d_M_wants_11 rfl ?_
      refine xw_icmp_ne hx hb 20 d_M_wants_12 (by decide) (by omega) (fun c12 => ?_) (fun c12 => ?_)
      · refine lv_iload_n hx hb d_M_wants_20 rfl (lv_at hl 0 rfl) ?_
        refine lv_bipush (v := xi_ 8) hx hb d_M_wants_21 (by decide) ?_
        refine xw_icmp_ne hx hb 30 d_M_wants_23 (by decide) (by omega) (fun c23 => ?_) (fun c23 => ?_)
        · refine lv_iload_n hx hb d_M_wants_30 rfl (lv_at hl 0 rfl) ?_
          refine xw_if_eq hx hb 40 d_M_wants_31 (by decide) (by omega) (fun c31 => ?_) (fun c31 => ?_)
          · refine lv_iconst (v := xi_ 0) hx hb d_M_wants_40 rfl ?_
            refine lv_goto (tgt := 45) hx hb d_M_wants_41 (by decide) ?_
            exact xw_iret F hr hlk hh rfl () rfl (by unfold wn_; first | (rw [if_pos (by omega)]) | (rw [if_neg (by omega), if_pos (by omega)]) | (rw [if_neg (by omega), if_neg (by omega), if_pos (by omega)]) | (rw [if_neg (by omega), if_neg (by omega), if_neg (by omega)])) trivial d_M_wants_45
          · refine lv_iload_n hx hb d_M_wants_34 rfl (lv_at hl 0 rfl) ?_
            refine lv_bipush (v := xi_ 10) hx hb d_M_wants_35 (by decide) ?_
            refine xw_icmp_ne hx hb 44 d_M_wants_37 (by decide) (by omega) (fun c37 => ?_) (fun c37 => ?_)
            · refine lv_iconst (v := xi_ 1) hx hb d_M_wants_44 rfl ?_
              exact xw_iret F hr hlk hh rfl () rfl (by unfold wn_; first | (rw [if_pos (by omega)]) | (rw [if_neg (by omega), if_pos (by omega)]) | (rw [if_neg (by omega), if_neg (by omega), if_pos (by omega)]) | (rw [if_neg (by omega), if_neg (by omega), if_neg (by omega)])) trivial d_M_wants_45
            · refine lv_iconst (v := xi_ 0) hx hb d_M_wants_40 rfl ?_
              refine lv_goto (tgt := 45) hx hb d_M_wants_41 (by decide) ?_
              exact xw_iret F hr hlk hh rfl () rfl (by unfold wn_; first | (rw [if_pos (by omega)]) | (rw [if_neg (by omega), if_pos (by omega)]) | (rw [if_neg (by omega), if_neg (by omega), if_pos (by omega)]) | (rw [if_neg (by omega), if_neg (by omega), if_neg (by omega)])) trivial d_M_wants_45
        · refine lv_iconst (v := xi_ 2) hx hb d_M_wants_26 rfl ?_
          refine lv_goto (tgt := 45) hx hb d_M_wants_27 (by decide) ?_
          exact xw_iret F hr hlk hh rfl () rfl (by unfold wn_; first | (rw [if_pos (by omega)]) | (rw [if_neg (by omega), if_pos (by omega)]) | (rw [if_neg (by omega), if_neg (by omega), if_pos (by omega)]) | (rw [if_neg (by omega), if_neg (by omega), if_neg (by omega)])) trivial d_M_wants_45
      · refine lv_bipush (v := xi_ 10) hx hb d_M_wants_15 (by decide) ?_
        refine lv_goto (tgt := 45) hx hb d_M_wants_17 (by decide) ?_
        exact xw_iret F hr hlk hh rfl () rfl (by unfold wn_; first | (rw [if_pos (by omega)]) | (rw [if_neg (by omega), if_pos (by omega)]) | (rw [if_neg (by omega), if_neg (by omega), if_pos (by omega)]) | (rw [if_neg (by omega), if_neg (by omega), if_neg (by omega)])) trivial d_M_wants_45
def rm_M_kindOf : Room := { frames := 0, cells := 0, slots := 0, locals := 0 }
set_option maxHeartbeats 4000000 in
set_option maxRecDepth 100000 in
theorem c_M_kindOf (l : Launch) (G : GG_) (sz : Nat) (c : Int) (hc : 0 ≤ c ∧ c ≤ 65535) : Met l y_M_kindOf (cw_ y_M_kindOf b_M_kindOf 1 (some .int)) rm_M_kindOf (xw_P G [.int (xi_ c)] sz [] (fun _ => True)) (xw_Qi (S := Unit) G sz [] (fun z _ => z = kf_ c) (fun _ => []) (fun _ _ => True)) 0 0 (va_A [] sz) := by
  refine xw_met (by decide) (Nat.le_of_ble_eq_true rfl) ?_
  intro p0 e0 s m0 args below meth c0 F hr hlk hin hsz hh hX ls hl
  subst hsz
  have hx := F.1
  have hb := F.2.1
  have hl : lv_has ls 1 [(0, .int (xi_ c))] := hl
  refine lv_iload_n hx hb d_M_kindOf_0 rfl (lv_at hl 0 rfl) ?_
  refine lv_bipush (v := xi_ 97) hx hb d_M_kindOf_1 (by decide) ?_
  refine xw_icmp_lt hx hb 14 d_M_kindOf_3 (by decide) (by omega) (fun c3 => ?_) (fun c3 => ?_)
  · refine lv_iload_n hx hb d_M_kindOf_14 rfl (lv_at hl 0 rfl) ?_
    by_cases h91 : c = 91
    · refine lv_lookup (off := 92) (tgt := 107) hx hb d_M_kindOf_15 (by decide) (by rw [h91]; decide) (by decide) ?_
      refine lv_iconst (v := xi_ 1) hx hb d_M_kindOf_107 rfl ?_
      exact xw_iret F hr hlk hh rfl () rfl (by unfold kf_; rw [if_neg (by omega), if_pos (by omega)]) trivial d_M_kindOf_108
    by_cases h60 : c = 60
    · refine lv_lookup (off := 94) (tgt := 109) hx hb d_M_kindOf_15 (by decide) (by rw [h60]; decide) (by decide) ?_
      refine lv_iconst (v := xi_ 2) hx hb d_M_kindOf_109 rfl ?_
      exact xw_iret F hr hlk hh rfl () rfl (by unfold kf_; rw [if_neg (by omega), if_neg (by omega), if_pos (by omega)]) trivial d_M_kindOf_110
    by_cases h123 : c = 123
    · refine lv_lookup (off := 96) (tgt := 111) hx hb d_M_kindOf_15 (by decide) (by rw [h123]; decide) (by decide) ?_
      refine lv_iconst (v := xi_ 3) hx hb d_M_kindOf_111 rfl ?_
      exact xw_iret F hr hlk hh rfl () rfl (by unfold kf_; rw [if_neg (by omega), if_neg (by omega), if_neg (by omega), if_pos (by omega)]) trivial d_M_kindOf_112
    by_cases h70 : c = 70
    · refine lv_lookup (off := 98) (tgt := 113) hx hb d_M_kindOf_15 (by decide) (by rw [h70]; decide) (by decide) ?_
      refine lv_iconst (v := xi_ 4) hx hb d_M_kindOf_113 rfl ?_
      exact xw_iret F hr hlk hh rfl () rfl (by unfold kf_; rw [if_neg (by omega), if_neg (by omega), if_neg (by omega), if_neg (by omega), if_pos (by omega)]) trivial d_M_kindOf_114
    by_cases h83 : c = 83
    · refine lv_lookup (off := 100) (tgt := 115) hx hb d_M_kindOf_15 (by decide) (by rw [h83]; decide) (by decide) ?_
      refine lv_iconst (v := xi_ 5) hx hb d_M_kindOf_115 rfl ?_
      exact xw_iret F hr hlk hh rfl () rfl (by unfold kf_; rw [if_neg (by omega), if_neg (by omega), if_neg (by omega), if_neg (by omega), if_neg (by omega), if_pos (by omega)]) trivial d_M_kindOf_116
    by_cases h76 : c = 76
    · refine lv_lookup (off := 102) (tgt := 117) hx hb d_M_kindOf_15 (by decide) (by rw [h76]; decide) (by decide) ?_
      refine lv_bipush (v := xi_ 6) hx hb d_M_kindOf_117 (by decide) ?_
      exact xw_iret F hr hlk hh rfl () rfl (by unfold kf_; rw [if_neg (by omega), if_neg (by omega), if_neg (by omega), if_neg (by omega), if_neg (by omega), if_neg (by omega), if_pos (by omega)]) trivial d_M_kindOf_119
    by_cases h82 : c = 82
    · refine lv_lookup (off := 105) (tgt := 120) hx hb d_M_kindOf_15 (by decide) (by rw [h82]; decide) (by decide) ?_
      refine lv_bipush (v := xi_ 7) hx hb d_M_kindOf_120 (by decide) ?_
      exact xw_iret F hr hlk hh rfl () rfl (by unfold kf_; rw [if_neg (by omega), if_neg (by omega), if_neg (by omega), if_neg (by omega), if_neg (by omega), if_neg (by omega), if_neg (by omega), if_pos (by omega)]) trivial d_M_kindOf_122
    by_cases h86 : c = 86
    · refine lv_lookup (off := 108) (tgt := 123) hx hb d_M_kindOf_15 (by decide) (by rw [h86]; decide) (by decide) ?_
      refine lv_bipush (v := xi_ 8) hx hb d_M_kindOf_123 (by decide) ?_
      exact xw_iret F hr hlk hh rfl () rfl (by unfold kf_; rw [if_neg (by omega), if_neg (by omega), if_neg (by omega), if_neg (by omega), if_neg (by omega), if_neg (by omega), if_neg (by omega), if_neg (by omega), if_pos (by omega)]) trivial d_M_kindOf_125
    by_cases h69 : c = 69
    · refine lv_lookup (off := 111) (tgt := 126) hx hb d_M_kindOf_15 (by decide) (by rw [h69]; decide) (by decide) ?_
      refine lv_bipush (v := xi_ 9) hx hb d_M_kindOf_126 (by decide) ?_
      exact xw_iret F hr hlk hh rfl () rfl (by unfold kf_; rw [if_neg (by omega), if_neg (by omega), if_neg (by omega), if_neg (by omega), if_neg (by omega), if_neg (by omega), if_neg (by omega), if_neg (by omega), if_neg (by omega), if_pos (by omega)]) trivial d_M_kindOf_128
    by_cases h126 : c = 126
    · refine lv_lookup (off := 89) (tgt := 104) hx hb d_M_kindOf_15 (by decide) (by rw [h126]; decide) (by decide) ?_
      refine lv_bipush (v := xi_ 10) hx hb d_M_kindOf_104 (by decide) ?_
      exact xw_iret F hr hlk hh rfl () rfl (by unfold kf_; rw [if_neg (by omega), if_neg (by omega), if_neg (by omega), if_neg (by omega), if_neg (by omega), if_neg (by omega), if_neg (by omega), if_neg (by omega), if_neg (by omega), if_neg (by omega), if_pos (by omega)]) trivial d_M_kindOf_106
    refine lv_lookup (off := 114) (tgt := 129) hx hb d_M_kindOf_15 (by decide) (by
      rw [xi_toInt (by omega)]
      show Op.lookupswitch.offset [(60, 94), (69, 111), (70, 98), (76, 102), (82, 105), (83, 100), (86, 108), (91, 92), (123, 96), (126, 89)] _ _ = _
      rw [Op.lookupswitch.offset_cons, if_neg (by omega), Op.lookupswitch.offset_cons, if_neg (by omega), Op.lookupswitch.offset_cons, if_neg (by omega), Op.lookupswitch.offset_cons, if_neg (by omega), Op.lookupswitch.offset_cons, if_neg (by omega), Op.lookupswitch.offset_cons, if_neg (by omega), Op.lookupswitch.offset_cons, if_neg (by omega), Op.lookupswitch.offset_cons, if_neg (by omega), Op.lookupswitch.offset_cons, if_neg (by omega), Op.lookupswitch.offset_cons, if_neg (by omega)]
      rfl) (by decide) ?_
    refine lv_iconst (v := xi_ (-1)) hx hb d_M_kindOf_129 rfl ?_
    exact xw_iret F hr hlk hh rfl () rfl (by unfold kf_; rw [if_neg (by omega), if_neg (by omega), if_neg (by omega), if_neg (by omega), if_neg (by omega), if_neg (by omega), if_neg (by omega), if_neg (by omega), if_neg (by omega), if_neg (by omega), if_neg (by omega)]) trivial d_M_kindOf_130
  · refine lv_iload_n hx hb d_M_kindOf_6 rfl (lv_at hl 0 rfl) ?_
    refine lv_bipush (v := xi_ 122) hx hb d_M_kindOf_7 (by decide) ?_
    refine xw_icmp_gt hx hb 14 d_M_kindOf_9 (by decide) (by omega) (fun c9 => ?_) (fun c9 => ?_)
    · refine lv_iload_n hx hb d_M_kindOf_14 rfl (lv_at hl 0 rfl) ?_
      by_cases h91 : c = 91
      · refine lv_lookup (off := 92) (tgt := 107) hx hb d_M_kindOf_15 (by decide) (by rw [h91]; decide) (by decide) ?_
        refine lv_iconst (v := xi_ 1) hx hb d_M_kindOf_107 rfl ?_
        exact xw_iret F hr hlk hh rfl () rfl (by unfold kf_; rw [if_neg (by omega), if_pos (by omega)]) trivial d_M_kindOf_108
      by_cases h60 : c = 60
      · refine lv_lookup (off := 94) (tgt := 109) hx hb d_M_kindOf_15 (by decide) (by rw [h60]; decide) (by decide) ?_
        refine lv_iconst (v := xi_ 2) hx hb d_M_kindOf_109 rfl ?_
        exact xw_iret F hr hlk hh rfl () rfl (by unfold kf_; rw [if_neg (by omega), if_neg (by omega), if_pos (by omega)]) trivial d_M_kindOf_110
      by_cases h123 : c = 123
      · refine lv_lookup (off := 96) (tgt := 111) hx hb d_M_kindOf_15 (by decide) (by rw [h123]; decide) (by decide) ?_
        refine lv_iconst (v := xi_ 3) hx hb d_M_kindOf_111 rfl ?_
        exact xw_iret F hr hlk hh rfl () rfl (by unfold kf_; rw [if_neg (by omega), if_neg (by omega), if_neg (by omega), if_pos (by omega)]) trivial d_M_kindOf_112
      by_cases h70 : c = 70
      · refine lv_lookup (off := 98) (tgt := 113) hx hb d_M_kindOf_15 (by decide) (by rw [h70]; decide) (by decide) ?_
        refine lv_iconst (v := xi_ 4) hx hb d_M_kindOf_113 rfl ?_
        exact xw_iret F hr hlk hh rfl () rfl (by unfold kf_; rw [if_neg (by omega), if_neg (by omega), if_neg (by omega), if_neg (by omega), if_pos (by omega)]) trivial d_M_kindOf_114
      by_cases h83 : c = 83
      · refine lv_lookup (off := 100) (tgt := 115) hx hb d_M_kindOf_15 (by decide) (by rw [h83]; decide) (by decide) ?_
        refine lv_iconst (v := xi_ 5) hx hb d_M_kindOf_115 rfl ?_
        exact xw_iret F hr hlk hh rfl () rfl (by unfold kf_; rw [if_neg (by omega), if_neg (by omega), if_neg (by omega), if_neg (by omega), if_neg (by omega), if_pos (by omega)]) trivial d_M_kindOf_116
      by_cases h76 : c = 76
      · refine lv_lookup (off := 102) (tgt := 117) hx hb d_M_kindOf_15 (by decide) (by rw [h76]; decide) (by decide) ?_
        refine lv_bipush (v := xi_ 6) hx hb d_M_kindOf_117 (by decide) ?_
        exact xw_iret F hr hlk hh rfl () rfl (by unfold kf_; rw [if_neg (by omega), if_neg (by omega), if_neg (by omega), if_neg (by omega), if_neg (by omega), if_neg (by omega), if_pos (by omega)]) trivial d_M_kindOf_119
      by_cases h82 : c = 82
      · refine lv_lookup (off := 105) (tgt := 120) hx hb d_M_kindOf_15 (by decide) (by rw [h82]; decide) (by decide) ?_
        refine lv_bipush (v := xi_ 7) hx hb d_M_kindOf_120 (by decide) ?_
        exact xw_iret F hr hlk hh rfl () rfl (by unfold kf_; rw [if_neg (by omega), if_neg (by omega), if_neg (by omega), if_neg (by omega), if_neg (by omega), if_neg (by omega), if_neg (by omega), if_pos (by omega)]) trivial d_M_kindOf_122
      by_cases h86 : c = 86
      · refine lv_lookup (off := 108) (tgt := 123) hx hb d_M_kindOf_15 (by decide) (by rw [h86]; decide) (by decide) ?_
        refine lv_bipush (v := xi_ 8) hx hb d_M_kindOf_123 (by decide) ?_
        exact xw_iret F hr hlk hh rfl () rfl (by unfold kf_; rw [if_neg (by omega), if_neg (by omega), if_neg (by omega), if_neg (by omega), if_neg (by omega), if_neg (by omega), if_neg (by omega), if_neg (by omega), if_pos (by omega)]) trivial d_M_kindOf_125
      by_cases h69 : c = 69
      · refine lv_lookup (off := 111) (tgt := 126) hx hb d_M_kindOf_15 (by decide) (by rw [h69]; decide) (by decide) ?_
        refine lv_bipush (v := xi_ 9) hx hb d_M_kindOf_126 (by decide) ?_
        exact xw_iret F hr hlk hh rfl () rfl (by unfold kf_; rw [if_neg (by omega), if_neg (by omega), if_neg (by omega), if_neg (by omega), if_neg (by omega), if_neg (by omega), if_neg (by omega), if_neg (by omega), if_neg (by omega), if_pos (by omega)]) trivial d_M_kindOf_128
      by_cases h126 : c = 126
      · refine lv_lookup (off := 89) (tgt := 104) hx hb d_M_kindOf_15 (by decide) (by rw [h126]; decide) (by decide) ?_
        refine lv_bipush (v := xi_ 10) hx hb d_M_kindOf_104 (by decide) ?_
        exact xw_iret F hr hlk hh rfl () rfl (by unfold kf_; rw [if_neg (by omega), if_neg (by omega), if_neg (by omega), if_neg (by omega), if_neg (by omega), if_neg (by omega), if_neg (by omega), if_neg (by omega), if_neg (by omega), if_neg (by omega), if_pos (by omega)]) trivial d_M_kindOf_106
      refine lv_lookup (off := 114) (tgt := 129) hx hb d_M_kindOf_15 (by decide) (by
        rw [xi_toInt (by omega)]
        show Op.lookupswitch.offset [(60, 94), (69, 111), (70, 98), (76, 102), (82, 105), (83, 100), (86, 108), (91, 92), (123, 96), (126, 89)] _ _ = _
        rw [Op.lookupswitch.offset_cons, if_neg (by omega), Op.lookupswitch.offset_cons, if_neg (by omega), Op.lookupswitch.offset_cons, if_neg (by omega), Op.lookupswitch.offset_cons, if_neg (by omega), Op.lookupswitch.offset_cons, if_neg (by omega), Op.lookupswitch.offset_cons, if_neg (by omega), Op.lookupswitch.offset_cons, if_neg (by omega), Op.lookupswitch.offset_cons, if_neg (by omega), Op.lookupswitch.offset_cons, if_neg (by omega), Op.lookupswitch.offset_cons, if_neg (by omega)]
        rfl) (by decide) ?_
      refine lv_iconst (v := xi_ (-1)) hx hb d_M_kindOf_129 rfl ?_
      exact xw_iret F hr hlk hh rfl () rfl (by unfold kf_; rw [if_neg (by omega), if_neg (by omega), if_neg (by omega), if_neg (by omega), if_neg (by omega), if_neg (by omega), if_neg (by omega), if_neg (by omega), if_neg (by omega), if_neg (by omega), if_neg (by omega)]) trivial d_M_kindOf_130
    · refine lv_iconst (v := xi_ 0) hx hb d_M_kindOf_12 rfl ?_
      exact xw_iret F hr hlk hh rfl () rfl (by unfold kf_; rw [if_pos (by omega)]) trivial d_M_kindOf_13
def rm_M_low : Room := { frames := 0, cells := 0, slots := 0, locals := 0 }
set_option maxHeartbeats 4000000 in
set_option maxRecDepth 100000 in
theorem c_M_low (l : Launch) (G : GG_) (sz : Nat) (x y : Int) (hxy : (-9223372036854775808 ≤ x ∧ x ≤ 9223372036854775807) ∧ (-9223372036854775808 ≤ y ∧ y ≤ 9223372036854775807)) : Met l y_M_low (cw_ y_M_low b_M_low 4 (some .long)) rm_M_low (xw_P G [.long (xl_ x), .long (xl_ y)] sz [] (fun _ => True)) (xw_Ql (S := Unit) G sz [] (fun z _ => z = min x y) (fun _ => []) (fun _ _ => True)) 0 0 (va_A [] sz) := by
  refine xw_met (by decide) (Nat.le_of_ble_eq_true rfl) ?_
  intro p0 e0 s m0 args below meth c0 F hr hlk hin hsz hh hX ls hl
  subst hsz
  have hx := F.1
  have hb := F.2.1
  have hl : lv_has ls 4 [(0, .long (xl_ x)), (2, .long (xl_ y))] := hl
  refine lv_lload_n hx hb d_M_low_0 rfl (lv_at hl 0 rfl) ?_
  refine lv_lload_n hx hb d_M_low_1 rfl (lv_at hl 1 rfl) ?_
  refine xw_lcmp_ge hx hb 10 d_M_low_2 d_M_low_3 (by decide) (by omega) (fun c2 => ?_) (fun c2 => ?_)
  · refine lv_lload_n hx hb d_M_low_10 rfl (lv_at hl 1 rfl) ?_
    exact xw_lret F hr hlk hh () rfl (by omega) trivial d_M_low_11
  · refine lv_lload_n hx hb d_M_low_6 rfl (lv_at hl 0 rfl) ?_
    refine lv_goto (tgt := 11) hx hb d_M_low_7 (by decide) ?_
    exact xw_lret F hr hlk hh () rfl (by omega) trivial d_M_low_11
def rm_M_high : Room := { frames := 0, cells := 0, slots := 0, locals := 0 }
set_option maxHeartbeats 4000000 in
set_option maxRecDepth 100000 in
theorem c_M_high (l : Launch) (G : GG_) (sz : Nat) (x y : Int) (hxy : (-9223372036854775808 ≤ x ∧ x ≤ 9223372036854775807) ∧ (-9223372036854775808 ≤ y ∧ y ≤ 9223372036854775807)) : Met l y_M_high (cw_ y_M_high b_M_high 4 (some .long)) rm_M_high (xw_P G [.long (xl_ x), .long (xl_ y)] sz [] (fun _ => True)) (xw_Ql (S := Unit) G sz [] (fun z _ => z = max x y) (fun _ => []) (fun _ _ => True)) 0 0 (va_A [] sz) := by
  refine xw_met (by decide) (Nat.le_of_ble_eq_true rfl) ?_
  intro p0 e0 s m0 args below meth c0 F hr hlk hin hsz hh hX ls hl
  subst hsz
  have hx := F.1
  have hb := F.2.1
  have hl : lv_has ls 4 [(0, .long (xl_ x)), (2, .long (xl_ y))] := hl
  refine lv_lload_n hx hb d_M_high_0 rfl (lv_at hl 0 rfl) ?_
  refine lv_lload_n hx hb d_M_high_1 rfl (lv_at hl 1 rfl) ?_
  refine xw_lcmp_ge hx hb 10 d_M_high_2 d_M_high_3 (by decide) (by omega) (fun c2 => ?_) (fun c2 => ?_)
  · refine lv_lload_n hx hb d_M_high_10 rfl (lv_at hl 0 rfl) ?_
    exact xw_lret F hr hlk hh () rfl (by omega) trivial d_M_high_11
  · refine lv_lload_n hx hb d_M_high_6 rfl (lv_at hl 1 rfl) ?_
    refine lv_goto (tgt := 11) hx hb d_M_high_7 (by decide) ?_
    exact xw_lret F hr hlk hh () rfl (by omega) trivial d_M_high_11
def rm_M_unit : Room := { frames := 0, cells := 0, slots := 0, locals := 0 }
set_option maxHeartbeats 4000000 in
set_option maxRecDepth 100000 in
theorem c_M_unit (l : Launch) (G : GG_) (sz : Nat) (mo : Nat) (ma : Nat → Nat) (ty at0 dp wy un pl sp pe tk du tm : Int) : Met l y_M_unit (cw_ y_M_unit b_M_unit 1 (some .int)) rm_M_unit (xw_P G [.ref mo] sz [(mo, .inr (6, mo_ ma ty at0 dp wy un pl sp pe tk du tm))] (fun _ => True)) (xw_Qi (S := Unit) G sz [(mo, .inr (6, mo_ ma ty at0 dp wy un pl sp pe tk du tm))] (fun z _ => z = un) (fun _ => [(mo, .inr (6, mo_ ma ty at0 dp wy un pl sp pe tk du tm))]) (fun _ _ => True)) 0 0 (va_A [(mo, .inr (6, mo_ ma ty at0 dp wy un pl sp pe tk du tm))] sz) := by
  refine xw_met (by decide) (Nat.le_of_ble_eq_true rfl) ?_
  intro p0 e0 s m0 args below meth c0 F hr hlk hin hsz hh hX ls hl
  subst hsz
  have hx := F.1
  have hb := F.2.1
  have hl : lv_has ls 1 [(0, .ref mo)] := hl
  refine lv_aload_n hx hb d_M_unit_0 rfl (lv_at hl 0 rfl) ?_
  refine xw_get F hh.1 (v := .int (xi_ un)) fl_M_96_6 0 rfl rfl d_M_unit_1 ?_
  exact xw_iret F hr hlk hh rfl () rfl (by rfl) trivial d_M_unit_4
def rm_M_tick : Room := { frames := 0, cells := 0, slots := 0, locals := 0 }
set_option maxHeartbeats 4000000 in
set_option maxRecDepth 100000 in
theorem c_M_tick (l : Launch) (G : GG_) (sz : Nat) (mo : Nat) (ma : Nat → Nat) (ty at0 dp wy un pl sp pe tk du tm : Int) (hpl : (-2147483648 ≤ pl ∧ pl ≤ 2147483647)) : Met l y_M_tick (cw_ y_M_tick b_M_tick 1 (some .int)) rm_M_tick (xw_P G [.ref mo] sz [(mo, .inr (6, mo_ ma ty at0 dp wy un pl sp pe tk du tm))] (fun _ => True)) (xw_Qi (S := Unit) G sz [(mo, .inr (6, mo_ ma ty at0 dp wy un pl sp pe tk du tm))] (fun z _ => z = if pl = 0 then 0 else tk) (fun _ => [(mo, .inr (6, mo_ ma ty at0 dp wy un pl sp pe tk du tm))]) (fun _ _ => True)) 0 0 (va_A [(mo, .inr (6, mo_ ma ty at0 dp wy un pl sp pe tk du tm))] sz) := by
  refine xw_met (by decide) (Nat.le_of_ble_eq_true rfl) ?_
  intro p0 e0 s m0 args below meth c0 F hr hlk hin hsz hh hX ls hl
  subst hsz
  have hx := F.1
  have hb := F.2.1
  have hl : lv_has ls 1 [(0, .ref mo)] := hl
  refine lv_aload_n hx hb d_M_tick_0 rfl (lv_at hl 0 rfl) ?_
  refine xw_get F hh.1 (v := .int (xi_ pl)) fl_M_161_6 0 rfl rfl d_M_tick_1 ?_
  refine xw_if_ne hx hb 11 d_M_tick_4 (by decide) (by omega) (fun c4 => ?_) (fun c4 => ?_)
  · refine lv_aload_n hx hb d_M_tick_11 rfl (lv_at hl 0 rfl) ?_
    refine xw_get F hh.1 (v := .int (xi_ tk)) fl_M_167_6 0 rfl rfl d_M_tick_12 ?_
    exact xw_iret F hr hlk hh rfl () rfl (by first | rw [if_pos (by omega)] | rw [if_neg (by omega)]) trivial d_M_tick_15
  · refine lv_iconst (v := xi_ 0) hx hb d_M_tick_7 rfl ?_
    refine lv_goto (tgt := 15) hx hb d_M_tick_8 (by decide) ?_
    exact xw_iret F hr hlk hh rfl () rfl (by first | rw [if_pos (by omega)] | rw [if_neg (by omega)]) trivial d_M_tick_15
def rm_M_digit : Room := { frames := 0, cells := 0, slots := 0, locals := 0 }
/-- a digit from low to high here -/
def md_ (bf : Nat → Int) (len : Nat) (lo hi : Int) (a : Nat) : Option Int × Nat := if a < len ∧ lo ≤ bf a - 48 ∧ bf a - 48 ≤ hi then (some (bf a - 48), a + 1) else (none, a)
theorem md_9 (bf : Nat → Int) (len : Nat) (lo : Int) (a : Nat) : md_ bf len lo 9 a = p_dig bf len lo a := rfl
set_option maxHeartbeats 4000000 in
set_option maxRecDepth 100000 in
theorem c_M_digit (l : Launch) (G : GG_) (sz : Nat) (mo : Nat) (ma : Nat → Nat) (dp wy un pl sp pe tk du tm : Int) (bf : Nat → Int) (len a : Nat) (hla : len ≤ 40 ∧ a ≤ 40) (hbf : ∀ j : Nat, 0 ≤ bf j ∧ bf j ≤ 65535) (lo hi : Int) (hlo : 0 ≤ lo ∧ lo ≤ 9 ∧ 0 ≤ hi ∧ hi ≤ 9) : Met l y_M_digit (cw_ y_M_digit b_M_digit 4 (some .int)) rm_M_digit (xw_P G [.ref mo, .int (xi_ lo), .int (xi_ hi)] sz [(mo, .inr (6, mo_ ma (len : Int) (a : Int) dp wy un pl sp pe tk du tm)), (ma 1, .inl (G.2.2 0, 40, .inl (ja_ bf)))] (fun _ => True)) (xw_Qi (S := Unit) G sz [(mo, .inr (6, mo_ ma (len : Int) (a : Int) dp wy un pl sp pe tk du tm)), (ma 1, .inl (G.2.2 0, 40, .inl (ja_ bf)))] (fun z _ => z = (md_ bf len lo hi a).1.getD (-1)) (fun _ => [(mo, .inr (6, mo_ ma (len : Int) ((md_ bf len lo hi a).2 : Int) dp wy un pl sp pe tk du tm)), (ma 1, .inl (G.2.2 0, 40, .inl (ja_ bf)))]) (fun _ _ => True)) 0 0 (va_A [(mo, .inr (6, mo_ ma (len : Int) (a : Int) dp wy un pl sp pe tk du tm)), (ma 1, .inl (G.2.2 0, 40, .inl (ja_ bf)))] sz) := by
  refine xw_met (by decide) (Nat.le_of_ble_eq_true rfl) ?_
  intro p0 e0 s m0 args below meth c0 F hr hlk hin hsz hh hX ls hl
  subst hsz
  have hx := F.1
  have hb := F.2.1
  have hl : lv_has ls 4 [(0, .ref mo), (1, .int (xi_ lo)), (2, .int (xi_ hi))] := hl
  refine lv_aload_n hx hb d_M_digit_0 rfl (lv_at hl 0 rfl) ?_
  refine xw_get F hh.1 (v := .int (xi_ (a : Int))) fl_M_130_6 0 rfl rfl d_M_digit_1 ?_
  refine lv_aload_n hx hb d_M_digit_4 rfl (lv_at hl 0 rfl) ?_
  refine xw_get F hh.1 (v := .int (xi_ (len : Int))) fl_M_120_6 0 rfl rfl d_M_digit_5 ?_
  refine xw_icmp_ge hx hb 26 d_M_digit_8 (by decide) (by omega) (fun c8 => ?_) (fun c8 => ?_)
  · refine lv_iconst (v := xi_ (-1)) hx hb d_M_digit_26 rfl ?_
    refine lv_istore_n (lv' := [(3, .int (xi_ (-1))), (0, .ref mo), (1, .int (xi_ lo)), (2, .int (xi_ hi))]) hx hb d_M_digit_27 rfl hl (by decide) rfl (fun ls hl => ?_)
    refine lv_iload_n hx hb d_M_digit_28 rfl (lv_at hl 0 rfl) ?_
    refine lv_iload_n hx hb d_M_digit_29 rfl (lv_at hl 2 rfl) ?_
    refine xw_icmp_lt hx hb 38 d_M_digit_30 (by decide) (by omega) (fun c30 => ?_) (fun c30 => ?_)
    · refine lv_iconst (v := xi_ (-1)) hx hb d_M_digit_38 rfl ?_
      have e9 : (md_ bf len lo hi a) = (none, a) := by
        unfold md_
        exact if_neg (by omega)
      rw [e9]
      exact xw_iret F hr hlk hh rfl () rfl rfl trivial d_M_digit_39
    · refine lv_iload_n hx hb d_M_digit_33 rfl (lv_at hl 0 rfl) ?_
      refine lv_iload_n hx hb d_M_digit_34 rfl (lv_at hl 3 rfl) ?_
      refine xw_icmp_le hx hb 40 d_M_digit_35 (by decide) (by omega) (fun c35 => ?_) (fun c35 => ?_)
      · refine lv_aload_n hx hb d_M_digit_40 rfl (lv_at hl 1 rfl) ?_
        refine lv_dup hx hb d_M_digit_41 rfl ?_
        refine xw_get F hh.1 (v := .int (xi_ (a : Int))) fl_M_130_6 0 rfl rfl d_M_digit_42 ?_
        refine lv_iconst (v := xi_ 1) hx hb d_M_digit_45 rfl ?_
        refine xw_iadd hx hb d_M_digit_46 ?_
        refine xw_put F hh fp_M_130_6 0 rfl rfl rfl (Nat.le_of_ble_eq_true rfl) d_M_digit_47 (fun H locs hh => ?_)
        have hh : xw_H G (va_A [(mo, .inr (6, mo_ ma (len : Int) (a : Int) dp wy un pl sp pe tk du tm)), (ma 1, .inl (G.2.2 0, 40, .inl (ja_ bf)))] s.heap.size) s.heap H locs [(mo, .inr (6, mo_ ma (len : Int) ((a : Int) + 1) dp wy un pl sp pe tk du tm)), (ma 1, .inl (G.2.2 0, 40, .inl (ja_ bf)))] := hh
        refine lv_iload_n hx hb d_M_digit_50 rfl (lv_at hl 0 rfl) ?_
        exfalso
        omega
      · refine lv_iconst (v := xi_ (-1)) hx hb d_M_digit_38 rfl ?_
        have e9 : (md_ bf len lo hi a) = (none, a) := by
          unfold md_
          exact if_neg (by omega)
        rw [e9]
        exact xw_iret F hr hlk hh rfl () rfl rfl trivial d_M_digit_39
  · have hba := hbf a
    refine lv_aload_n hx hb d_M_digit_11 rfl (lv_at hl 0 rfl) ?_
    refine xw_get F hh.1 (v := .ref (ma 1)) fl_M_7_6 0 rfl rfl d_M_digit_12 ?_
    refine lv_aload_n hx hb d_M_digit_15 rfl (lv_at hl 0 rfl) ?_
    refine xw_get F hh.1 (v := .int (xi_ (a : Int))) fl_M_130_6 0 rfl rfl d_M_digit_16 ?_
    refine xw_iald F hh.1 1 (f := bf) rfl (i := (a : Int)) (by omega) d_M_digit_19 ?_
    refine xw_topi (y := bf a) rfl ?_
    refine lv_bipush (v := xi_ 48) hx hb d_M_digit_20 (by decide) ?_
    refine xw_isub hx hb d_M_digit_22 ?_
    refine lv_goto (tgt := 27) hx hb d_M_digit_23 (by decide) ?_
    refine lv_istore_n (lv' := [(3, .int (xi_ ((bf a) - 48))), (0, .ref mo), (1, .int (xi_ lo)), (2, .int (xi_ hi))]) hx hb d_M_digit_27 rfl hl (by decide) rfl (fun ls hl => ?_)
    refine lv_iload_n hx hb d_M_digit_28 rfl (lv_at hl 0 rfl) ?_
    refine lv_iload_n hx hb d_M_digit_29 rfl (lv_at hl 2 rfl) ?_
    refine xw_icmp_lt hx hb 38 d_M_digit_30 (by decide) (by omega) (fun c30 => ?_) (fun c30 => ?_)
    · refine lv_iconst (v := xi_ (-1)) hx hb d_M_digit_38 rfl ?_
      have e9 : (md_ bf len lo hi a) = (none, a) := by
        unfold md_
        exact if_neg (by omega)
      rw [e9]
      exact xw_iret F hr hlk hh rfl () rfl rfl trivial d_M_digit_39
    · refine lv_iload_n hx hb d_M_digit_33 rfl (lv_at hl 0 rfl) ?_
      refine lv_iload_n hx hb d_M_digit_34 rfl (lv_at hl 3 rfl) ?_
      refine xw_icmp_le hx hb 40 d_M_digit_35 (by decide) (by omega) (fun c35 => ?_) (fun c35 => ?_)
      · refine lv_aload_n hx hb d_M_digit_40 rfl (lv_at hl 1 rfl) ?_
        refine lv_dup hx hb d_M_digit_41 rfl ?_
        refine xw_get F hh.1 (v := .int (xi_ (a : Int))) fl_M_130_6 0 rfl rfl d_M_digit_42 ?_
        refine lv_iconst (v := xi_ 1) hx hb d_M_digit_45 rfl ?_
        refine xw_iadd hx hb d_M_digit_46 ?_
        refine xw_put F hh fp_M_130_6 0 rfl rfl rfl (Nat.le_of_ble_eq_true rfl) d_M_digit_47 (fun H locs hh => ?_)
        have hh : xw_H G (va_A [(mo, .inr (6, mo_ ma (len : Int) (a : Int) dp wy un pl sp pe tk du tm)), (ma 1, .inl (G.2.2 0, 40, .inl (ja_ bf)))] s.heap.size) s.heap H locs [(mo, .inr (6, mo_ ma (len : Int) ((a : Int) + 1) dp wy un pl sp pe tk du tm)), (ma 1, .inl (G.2.2 0, 40, .inl (ja_ bf)))] := hh
        refine lv_iload_n hx hb d_M_digit_50 rfl (lv_at hl 0 rfl) ?_
        have e9 : (md_ bf len lo hi a) = (some (bf a - 48), a + 1) := by
          unfold md_
          exact if_pos (by omega)
        rw [e9]
        exact xw_iret F hr hlk hh rfl () rfl rfl trivial d_M_digit_51
      · refine lv_iconst (v := xi_ (-1)) hx hb d_M_digit_38 rfl ?_
        have e9 : (md_ bf len lo hi a) = (none, a) := by
          unfold md_
          exact if_neg (by omega)
        rw [e9]
        exact xw_iret F hr hlk hh rfl () rfl rfl trivial d_M_digit_39
def rm_M_node : Room := { frames := 0, cells := 0, slots := 0, locals := 0 }
set_option maxHeartbeats 4000000 in
set_option maxRecDepth 100000 in
theorem c_M_node (l : Launch) (G : GG_) (sz : Nat) (mo : Nat) (ma : Nat → Nat) (ty at0 dp wy un pl sp pe tk du tm : Int) (kn fi ne co si : Nat → Int) (sz8 kd : Int) (hsz8 : si 8 = sz8) (hs8 : 0 ≤ sz8 ∧ sz8 < 48) : Met l y_M_node (cw_ y_M_node b_M_node 3 (some .int)) rm_M_node (xw_P G [.ref mo, .int (xi_ kd)] sz [(mo, .inr (6, mo_ ma ty at0 dp wy un pl sp pe tk du tm)), (ma 3, .inl (G.2.2 0, 432, .inl (ja_ kn))), (ma 7, .inl (G.2.2 0, 432, .inl (ja_ fi))), (ma 8, .inl (G.2.2 0, 432, .inl (ja_ ne))), (ma 9, .inl (G.2.2 0, 432, .inl (ja_ co))), (ma 11, .inl (G.2.2 0, 9, .inl (ja_ si)))] (fun _ => True)) (xw_Qi (S := Unit) G sz [(mo, .inr (6, mo_ ma ty at0 dp wy un pl sp pe tk du tm)), (ma 3, .inl (G.2.2 0, 432, .inl (ja_ kn))), (ma 7, .inl (G.2.2 0, 432, .inl (ja_ fi))), (ma 8, .inl (G.2.2 0, 432, .inl (ja_ ne))), (ma 9, .inl (G.2.2 0, 432, .inl (ja_ co))), (ma 11, .inl (G.2.2 0, 9, .inl (ja_ si)))] (fun z _ => z = sz8) (fun _ => [(mo, .inr (6, mo_ ma ty at0 dp wy un pl sp pe tk du tm)), (ma 3, .inl (G.2.2 0, 432, .inl (ja_ (va_up kn (384 + sz8).toNat kd)))), (ma 7, .inl (G.2.2 0, 432, .inl (ja_ (va_up fi (384 + sz8).toNat (-1))))), (ma 8, .inl (G.2.2 0, 432, .inl (ja_ (va_up ne (384 + sz8).toNat (-1))))), (ma 9, .inl (G.2.2 0, 432, .inl (ja_ (va_up co (384 + sz8).toNat 0)))), (ma 11, .inl (G.2.2 0, 9, .inl (ja_ (va_up si 8 (sz8 + 1)))))]) (fun _ _ => True)) 0 0 (va_A [(mo, .inr (6, mo_ ma ty at0 dp wy un pl sp pe tk du tm)), (ma 3, .inl (G.2.2 0, 432, .inl (ja_ kn))), (ma 7, .inl (G.2.2 0, 432, .inl (ja_ fi))), (ma 8, .inl (G.2.2 0, 432, .inl (ja_ ne))), (ma 9, .inl (G.2.2 0, 432, .inl (ja_ co))), (ma 11, .inl (G.2.2 0, 9, .inl (ja_ si)))] sz) := by
  refine xw_met (by decide) (Nat.le_of_ble_eq_true rfl) ?_
  intro p0 e0 s m0 args below meth c0 F hr hlk hin hsz hh hX ls hl
  subst hsz
  have hx := F.1
  have hb := F.2.1
  have hl : lv_has ls 3 [(0, .ref mo), (1, .int (xi_ kd))] := hl
  refine lv_sipush (v := xi_ 384) hx hb d_M_node_0 (by decide) ?_
  refine lv_aload_n hx hb d_M_node_3 rfl (lv_at hl 0 rfl) ?_
  refine xw_get F hh.1 (v := .ref (ma 11)) fl_M_37_6 0 rfl rfl d_M_node_4 ?_
  refine lv_bipush (v := xi_ 8) hx hb d_M_node_7 (by decide) ?_
  refine xw_iald F hh.1 5 (f := si) rfl (i := 8) (by omega) d_M_node_9 ?_
  refine xw_topi (y := sz8) hsz8 ?_
  refine xw_iadd hx hb d_M_node_10 ?_
  refine lv_istore_n (lv' := [(2, .int (xi_ (384 + sz8))), (0, .ref mo), (1, .int (xi_ kd))]) hx hb d_M_node_11 rfl hl (by decide) rfl (fun ls hl => ?_)
  refine lv_aload_n hx hb d_M_node_12 rfl (lv_at hl 1 rfl) ?_
  refine xw_get F hh.1 (v := .ref (ma 3)) fl_M_13_6 0 rfl rfl d_M_node_13 ?_
  refine lv_iload_n hx hb d_M_node_16 rfl (lv_at hl 0 rfl) ?_
  refine lv_iload_n hx hb d_M_node_17 rfl (lv_at hl 2 rfl) ?_
  refine xw_iast F hh 1 (f := kn) rfl (i := 384 + sz8) (x := kd) (by omega) d_M_node_18 (fun H locs hh => ?_)
  have hh : xw_H G (va_A [(mo, .inr (6, mo_ ma ty at0 dp wy un pl sp pe tk du tm)), (ma 3, .inl (G.2.2 0, 432, .inl (ja_ kn))), (ma 7, .inl (G.2.2 0, 432, .inl (ja_ fi))), (ma 8, .inl (G.2.2 0, 432, .inl (ja_ ne))), (ma 9, .inl (G.2.2 0, 432, .inl (ja_ co))), (ma 11, .inl (G.2.2 0, 9, .inl (ja_ si)))] s.heap.size) s.heap H locs [(mo, .inr (6, mo_ ma ty at0 dp wy un pl sp pe tk du tm)), (ma 3, .inl (G.2.2 0, 432, .inl (ja_ (va_up kn (384 + sz8).toNat kd)))), (ma 7, .inl (G.2.2 0, 432, .inl (ja_ fi))), (ma 8, .inl (G.2.2 0, 432, .inl (ja_ ne))), (ma 9, .inl (G.2.2 0, 432, .inl (ja_ co))), (ma 11, .inl (G.2.2 0, 9, .inl (ja_ si)))] := hh
  refine lv_aload_n hx hb d_M_node_19 rfl (lv_at hl 1 rfl) ?_
  refine xw_get F hh.1 (v := .ref (ma 7)) fl_M_25_6 0 rfl rfl d_M_node_20 ?_
  refine lv_iload_n hx hb d_M_node_23 rfl (lv_at hl 0 rfl) ?_
  refine lv_iconst (v := xi_ (-1)) hx hb d_M_node_24 rfl ?_
  refine xw_iast F hh 2 (f := fi) rfl (i := 384 + sz8) (x := (-1)) (by omega) d_M_node_25 (fun H locs hh => ?_)
  have hh : xw_H G (va_A [(mo, .inr (6, mo_ ma ty at0 dp wy un pl sp pe tk du tm)), (ma 3, .inl (G.2.2 0, 432, .inl (ja_ kn))), (ma 7, .inl (G.2.2 0, 432, .inl (ja_ fi))), (ma 8, .inl (G.2.2 0, 432, .inl (ja_ ne))), (ma 9, .inl (G.2.2 0, 432, .inl (ja_ co))), (ma 11, .inl (G.2.2 0, 9, .inl (ja_ si)))] s.heap.size) s.heap H locs [(mo, .inr (6, mo_ ma ty at0 dp wy un pl sp pe tk du tm)), (ma 3, .inl (G.2.2 0, 432, .inl (ja_ (va_up kn (384 + sz8).toNat kd)))), (ma 7, .inl (G.2.2 0, 432, .inl (ja_ (va_up fi (384 + sz8).toNat (-1))))), (ma 8, .inl (G.2.2 0, 432, .inl (ja_ ne))), (ma 9, .inl (G.2.2 0, 432, .inl (ja_ co))), (ma 11, .inl (G.2.2 0, 9, .inl (ja_ si)))] := hh
  refine lv_aload_n hx hb d_M_node_26 rfl (lv_at hl 1 rfl) ?_
  refine xw_get F hh.1 (v := .ref (ma 8)) fl_M_28_6 0 rfl rfl d_M_node_27 ?_
  refine lv_iload_n hx hb d_M_node_30 rfl (lv_at hl 0 rfl) ?_
  refine lv_iconst (v := xi_ (-1)) hx hb d_M_node_31 rfl ?_
  refine xw_iast F hh 3 (f := ne) rfl (i := 384 + sz8) (x := (-1)) (by omega) d_M_node_32 (fun H locs hh => ?_)
  have hh : xw_H G (va_A [(mo, .inr (6, mo_ ma ty at0 dp wy un pl sp pe tk du tm)), (ma 3, .inl (G.2.2 0, 432, .inl (ja_ kn))), (ma 7, .inl (G.2.2 0, 432, .inl (ja_ fi))), (ma 8, .inl (G.2.2 0, 432, .inl (ja_ ne))), (ma 9, .inl (G.2.2 0, 432, .inl (ja_ co))), (ma 11, .inl (G.2.2 0, 9, .inl (ja_ si)))] s.heap.size) s.heap H locs [(mo, .inr (6, mo_ ma ty at0 dp wy un pl sp pe tk du tm)), (ma 3, .inl (G.2.2 0, 432, .inl (ja_ (va_up kn (384 + sz8).toNat kd)))), (ma 7, .inl (G.2.2 0, 432, .inl (ja_ (va_up fi (384 + sz8).toNat (-1))))), (ma 8, .inl (G.2.2 0, 432, .inl (ja_ (va_up ne (384 + sz8).toNat (-1))))), (ma 9, .inl (G.2.2 0, 432, .inl (ja_ co))), (ma 11, .inl (G.2.2 0, 9, .inl (ja_ si)))] := hh
  refine lv_aload_n hx hb d_M_node_33 rfl (lv_at hl 1 rfl) ?_
  refine xw_get F hh.1 (v := .ref (ma 9)) fl_M_31_6 0 rfl rfl d_M_node_34 ?_
  refine lv_iload_n hx hb d_M_node_37 rfl (lv_at hl 0 rfl) ?_
  refine lv_iconst (v := xi_ 0) hx hb d_M_node_38 rfl ?_
  refine xw_iast F hh 4 (f := co) rfl (i := 384 + sz8) (x := 0) (by omega) d_M_node_39 (fun H locs hh => ?_)
  have hh : xw_H G (va_A [(mo, .inr (6, mo_ ma ty at0 dp wy un pl sp pe tk du tm)), (ma 3, .inl (G.2.2 0, 432, .inl (ja_ kn))), (ma 7, .inl (G.2.2 0, 432, .inl (ja_ fi))), (ma 8, .inl (G.2.2 0, 432, .inl (ja_ ne))), (ma 9, .inl (G.2.2 0, 432, .inl (ja_ co))), (ma 11, .inl (G.2.2 0, 9, .inl (ja_ si)))] s.heap.size) s.heap H locs [(mo, .inr (6, mo_ ma ty at0 dp wy un pl sp pe tk du tm)), (ma 3, .inl (G.2.2 0, 432, .inl (ja_ (va_up kn (384 + sz8).toNat kd)))), (ma 7, .inl (G.2.2 0, 432, .inl (ja_ (va_up fi (384 + sz8).toNat (-1))))), (ma 8, .inl (G.2.2 0, 432, .inl (ja_ (va_up ne (384 + sz8).toNat (-1))))), (ma 9, .inl (G.2.2 0, 432, .inl (ja_ (va_up co (384 + sz8).toNat 0)))), (ma 11, .inl (G.2.2 0, 9, .inl (ja_ si)))] := hh
  refine lv_aload_n hx hb d_M_node_40 rfl (lv_at hl 1 rfl) ?_
  refine xw_get F hh.1 (v := .ref (ma 11)) fl_M_37_6 0 rfl rfl d_M_node_41 ?_
  refine lv_bipush (v := xi_ 8) hx hb d_M_node_44 (by decide) ?_
  refine lv_dup2_11 hx hb d_M_node_46 rfl rfl ?_
  refine xw_iald F hh.1 5 (f := si) rfl (i := 8) (by omega) d_M_node_47 ?_
  refine xw_topi (y := sz8) hsz8 ?_
  refine lv_iconst (v := xi_ 1) hx hb d_M_node_48 rfl ?_
  refine xw_iadd hx hb d_M_node_49 ?_
  refine xw_iast F hh 5 (f := si) rfl (i := 8) (x := sz8 + 1) (by omega) d_M_node_50 (fun H locs hh => ?_)
  have hh : xw_H G (va_A [(mo, .inr (6, mo_ ma ty at0 dp wy un pl sp pe tk du tm)), (ma 3, .inl (G.2.2 0, 432, .inl (ja_ kn))), (ma 7, .inl (G.2.2 0, 432, .inl (ja_ fi))), (ma 8, .inl (G.2.2 0, 432, .inl (ja_ ne))), (ma 9, .inl (G.2.2 0, 432, .inl (ja_ co))), (ma 11, .inl (G.2.2 0, 9, .inl (ja_ si)))] s.heap.size) s.heap H locs [(mo, .inr (6, mo_ ma ty at0 dp wy un pl sp pe tk du tm)), (ma 3, .inl (G.2.2 0, 432, .inl (ja_ (va_up kn (384 + sz8).toNat kd)))), (ma 7, .inl (G.2.2 0, 432, .inl (ja_ (va_up fi (384 + sz8).toNat (-1))))), (ma 8, .inl (G.2.2 0, 432, .inl (ja_ (va_up ne (384 + sz8).toNat (-1))))), (ma 9, .inl (G.2.2 0, 432, .inl (ja_ (va_up co (384 + sz8).toNat 0)))), (ma 11, .inl (G.2.2 0, 9, .inl (ja_ (va_up si 8 (sz8 + 1)))))] := hh
  refine lv_aload_n hx hb d_M_node_51 rfl (lv_at hl 1 rfl) ?_
  refine xw_get F hh.1 (v := .ref (ma 11)) fl_M_37_6 0 rfl rfl d_M_node_52 ?_
  refine lv_bipush (v := xi_ 8) hx hb d_M_node_55 (by decide) ?_
  refine xw_iald F hh.1 5 (f := va_up si 8 (sz8 + 1)) rfl (i := 8) (by omega) d_M_node_57 ?_
  refine xw_topi (y := sz8 + 1) rfl ?_
  refine lv_iconst (v := xi_ 1) hx hb d_M_node_58 rfl ?_
  refine xw_isub hx hb d_M_node_59 ?_
  exact xw_iret F hr hlk hh rfl () rfl (by omega) trivial d_M_node_60
