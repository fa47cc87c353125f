/-! the model: closes, isFilled -/
def rm_M_closes : Room := { frames := 0, cells := 0, slots := 0, locals := 0 }
def cl_ (k : Int) : Int := if k = 1 then 93 else if k = 2 then 62 else if k = 3 then 125 else 0
theorem cl_or (k : Int) : (k = 1 ∧ cl_ k = 93) ∨ (k = 2 ∧ cl_ k = 62) ∨ (k = 3 ∧ cl_ k = 125) ∨ (k ≠ 1 ∧ k ≠ 2 ∧ k ≠ 3 ∧ cl_ k = 0) := by
  unfold cl_
  split
  · omega
  · split
    · omega
    · split <;> omega
set_option maxHeartbeats 4000000 in
set_option maxRecDepth 100000 in
theorem c_M_closes (l : Launch) (G : GG_) (sz : Nat) (mo : Nat) (ma : Nat → Nat) (ty at0 dp wy un pl sp pe tk du tm : Int) (kn co op : Nat → Int) (t k cn : Int) (hdp : 0 ≤ dp ∧ dp ≤ 50) (ht : 0 < dp → op (dp - 1).toNat = t ∧ 0 ≤ t ∧ t < 48) (hk9 : kn (384 + t).toNat = k ∧ -1 ≤ k ∧ k ≤ 10) (hcn : co (384 + t).toNat = cn ∧ 0 ≤ cn ∧ cn ≤ 10) (c : Int) (hc : 0 ≤ c ∧ c ≤ 65535) : Met l y_M_closes (cw_ y_M_closes b_M_closes 4 (some .boolean)) rm_M_closes (xw_P G [.ref mo, .int (xi_ c)] sz [(mo, .inr (6, mo_ ma ty at0 dp wy un pl sp pe tk du tm)), (ma 3, .inl (G.2.2 0, 432, .inl (ja_ kn))), (ma 9, .inl (G.2.2 0, 432, .inl (ja_ co))), (ma 14, .inl (G.2.2 0, 50, .inl (ja_ op)))] (fun _ => True)) (xw_Qi (S := Unit) G sz [(mo, .inr (6, mo_ ma ty at0 dp wy un pl sp pe tk du tm)), (ma 3, .inl (G.2.2 0, 432, .inl (ja_ kn))), (ma 9, .inl (G.2.2 0, 432, .inl (ja_ co))), (ma 14, .inl (G.2.2 0, 50, .inl (ja_ op)))] (fun z _ => z = b2_ (decide (0 < dp ∧ 0 < cn ∧ c = cl_ k))) (fun _ => [(mo, .inr (6, mo_ ma ty at0 dp wy un pl sp pe tk du tm)), (ma 3, .inl (G.2.2 0, 432, .inl (ja_ kn))), (ma 9, .inl (G.2.2 0, 432, .inl (ja_ co))), (ma 14, .inl (G.2.2 0, 50, .inl (ja_ op)))]) (fun _ _ => True)) 0 0 (va_A [(mo, .inr (6, mo_ ma ty at0 dp wy un pl sp pe tk du tm)), (ma 3, .inl (G.2.2 0, 432, .inl (ja_ kn))), (ma 9, .inl (G.2.2 0, 432, .inl (ja_ co))), (ma 14, .inl (G.2.2 0, 50, .inl (ja_ op)))] sz) := by
  refine xw_met (by decide) (Nat.le_of_ble_eq_true rfl) ?_
  intro p0 e0 s m0 args below meth c0 F hr hlk hin hsz hh hX ls hl
  subst hsz
  have hx := F.1
  have hb := F.2.1
  have hl : lv_has ls 4 [(0, .ref mo), (1, .int (xi_ c))] := hl
  refine lv_aload_n hx hb d_M_closes_0 rfl (lv_at hl 0 rfl) ?_
  refine xw_get F hh.1 (v := .int (xi_ dp)) fl_M_123_6 0 rfl rfl d_M_closes_1 ?_
  refine xw_if_ne hx hb 9 d_M_closes_4 (by decide) (by omega) (fun c4 => ?_) (fun c4 => ?_)
  · have ht9 := ht (by omega)
    have hclk := cl_or k
    refine lv_sipush (v := xi_ 384) hx hb d_M_closes_9 (by decide) ?_
    refine lv_aload_n hx hb d_M_closes_12 rfl (lv_at hl 0 rfl) ?_
    refine xw_get F hh.1 (v := .ref (ma 14)) fl_M_43_6 0 rfl rfl d_M_closes_13 ?_
    refine lv_aload_n hx hb d_M_closes_16 rfl (lv_at hl 0 rfl) ?_
    refine xw_get F hh.1 (v := .int (xi_ dp)) fl_M_123_6 0 rfl rfl d_M_closes_17 ?_
    refine lv_iconst (v := xi_ 1) hx hb d_M_closes_20 rfl ?_
    refine xw_isub hx hb d_M_closes_21 ?_
    refine xw_iald F hh.1 3 (f := op) rfl (i := dp - 1) (by omega) d_M_closes_22 ?_
    refine xw_topi (y := t) (ht (by omega)).1 ?_
    refine xw_iadd hx hb d_M_closes_23 ?_
    refine lv_istore_n (lv' := [(2, .int (xi_ (384 + t))), (0, .ref mo), (1, .int (xi_ c))]) hx hb d_M_closes_24 rfl hl (by decide) rfl (fun ls hl => ?_)
    refine lv_aload_n hx hb d_M_closes_25 rfl (lv_at hl 1 rfl) ?_
    refine xw_get F hh.1 (v := .ref (ma 3)) fl_M_13_6 0 rfl rfl d_M_closes_26 ?_
    refine lv_iload_n hx hb d_M_closes_29 rfl (lv_at hl 0 rfl) ?_
    refine xw_iald F hh.1 1 (f := kn) rfl (i := 384 + t) (by omega) d_M_closes_30 ?_
    refine xw_topi (y := k) hk9.1 ?_
    refine lv_iconst (v := xi_ 1) hx hb d_M_closes_31 rfl ?_
    refine xw_icmp_ne hx hb 40 d_M_closes_32 (by decide) (by omega) (fun c32 => ?_) (fun c32 => ?_)
    · refine lv_aload_n hx hb d_M_closes_40 rfl (lv_at hl 1 rfl) ?_
      refine xw_get F hh.1 (v := .ref (ma 3)) fl_M_13_6 0 rfl rfl d_M_closes_41 ?_
      refine lv_iload_n hx hb d_M_closes_44 rfl (lv_at hl 0 rfl) ?_
      refine xw_iald F hh.1 1 (f := kn) rfl (i := 384 + t) (by omega) d_M_closes_45 ?_
      refine xw_topi (y := k) hk9.1 ?_
      refine lv_iconst (v := xi_ 2) hx hb d_M_closes_46 rfl ?_
      refine xw_icmp_ne hx hb 55 d_M_closes_47 (by decide) (by omega) (fun c47 => ?_) (fun c47 => ?_)
      · refine lv_aload_n hx hb d_M_closes_55 rfl (lv_at hl 1 rfl) ?_
        refine xw_get F hh.1 (v := .ref (ma 3)) fl_M_13_6 0 rfl rfl d_M_closes_56 ?_
        refine lv_iload_n hx hb d_M_closes_59 rfl (lv_at hl 0 rfl) ?_
        refine xw_iald F hh.1 1 (f := kn) rfl (i := 384 + t) (by omega) d_M_closes_60 ?_
        refine xw_topi (y := k) hk9.1 ?_
        refine lv_iconst (v := xi_ 3) hx hb d_M_closes_61 rfl ?_
        refine xw_icmp_ne hx hb 70 d_M_closes_62 (by decide) (by omega) (fun c62 => ?_) (fun c62 => ?_)
        · refine lv_iconst (v := xi_ 0) hx hb d_M_closes_70 rfl ?_
          refine lv_istore_n (lv' := [(3, .int (xi_ 0)), (2, .int (xi_ (384 + t))), (0, .ref mo), (1, .int (xi_ c))]) hx hb d_M_closes_71 rfl hl (by decide) rfl (fun ls hl => ?_)
          refine lv_aload_n hx hb d_M_closes_72 rfl (lv_at hl 2 rfl) ?_
          refine xw_get F hh.1 (v := .ref (ma 9)) fl_M_31_6 0 rfl rfl d_M_closes_73 ?_
          refine lv_iload_n hx hb d_M_closes_76 rfl (lv_at hl 1 rfl) ?_
          refine xw_iald F hh.1 2 (f := co) rfl (i := 384 + t) (by omega) d_M_closes_77 ?_
          refine xw_topi (y := cn) hcn.1 ?_
          refine xw_if_le hx hb 90 d_M_closes_78 (by decide) (by omega) (fun c78 => ?_) (fun c78 => ?_)
          · refine lv_iconst (v := xi_ 0) hx hb d_M_closes_90 rfl ?_
            exact xw_iret F hr hlk hh (by decide) () rfl (by exact b2_f (decide_eq_false (by omega))) trivial d_M_closes_91
          · refine lv_iload_n hx hb d_M_closes_81 rfl (lv_at hl 3 rfl) ?_
            refine lv_iload_n hx hb d_M_closes_82 rfl (lv_at hl 0 rfl) ?_
            refine xw_icmp_ne hx hb 90 d_M_closes_83 (by decide) (by omega) (fun c83 => ?_) (fun c83 => ?_)
            · refine lv_iconst (v := xi_ 0) hx hb d_M_closes_90 rfl ?_
              exact xw_iret F hr hlk hh (by decide) () rfl (by exact b2_f (decide_eq_false (by omega))) trivial d_M_closes_91
            · refine lv_iconst (v := xi_ 1) hx hb d_M_closes_86 rfl ?_
              refine lv_goto (tgt := 91) hx hb d_M_closes_87 (by decide) ?_
              exact xw_iret F hr hlk hh (by decide) () rfl (by exact b2_t (decide_eq_true (by omega))) trivial d_M_closes_91
        · refine lv_bipush (v := xi_ 125) hx hb d_M_closes_65 (by decide) ?_
          refine lv_goto (tgt := 71) hx hb d_M_closes_67 (by decide) ?_
          refine lv_istore_n (lv' := [(3, .int (xi_ 125)), (2, .int (xi_ (384 + t))), (0, .ref mo), (1, .int (xi_ c))]) hx hb d_M_closes_71 rfl hl (by decide) rfl (fun ls hl => ?_)
          refine lv_aload_n hx hb d_M_closes_72 rfl (lv_at hl 2 rfl) ?_
          refine xw_get F hh.1 (v := .ref (ma 9)) fl_M_31_6 0 rfl rfl d_M_closes_73 ?_
          refine lv_iload_n hx hb d_M_closes_76 rfl (lv_at hl 1 rfl) ?_
          refine xw_iald F hh.1 2 (f := co) rfl (i := 384 + t) (by omega) d_M_closes_77 ?_
          refine xw_topi (y := cn) hcn.1 ?_
          refine xw_if_le hx hb 90 d_M_closes_78 (by decide) (by omega) (fun c78 => ?_) (fun c78 => ?_)
          · refine lv_iconst (v := xi_ 0) hx hb d_M_closes_90 rfl ?_
            exact xw_iret F hr hlk hh (by decide) () rfl (by exact b2_f (decide_eq_false (by omega))) trivial d_M_closes_91
          · refine lv_iload_n hx hb d_M_closes_81 rfl (lv_at hl 3 rfl) ?_
            refine lv_iload_n hx hb d_M_closes_82 rfl (lv_at hl 0 rfl) ?_
            refine xw_icmp_ne hx hb 90 d_M_closes_83 (by decide) (by omega) (fun c83 => ?_) (fun c83 => ?_)
            · refine lv_iconst (v := xi_ 0) hx hb d_M_closes_90 rfl ?_
              exact xw_iret F hr hlk hh (by decide) () rfl (by exact b2_f (decide_eq_false (by omega))) trivial d_M_closes_91
            · refine lv_iconst (v := xi_ 1) hx hb d_M_closes_86 rfl ?_
              refine lv_goto (tgt := 91) hx hb d_M_closes_87 (by decide) ?_
              exact xw_iret F hr hlk hh (by decide) () rfl (by exact b2_t (decide_eq_true (by omega))) trivial d_M_closes_91
      · refine lv_bipush (v := xi_ 62) hx hb d_M_closes_50 (by decide) ?_
        refine lv_goto (tgt := 71) hx hb d_M_closes_52 (by decide) ?_
        refine lv_istore_n (lv' := [(3, .int (xi_ 62)), (2, .int (xi_ (384 + t))), (0, .ref mo), (1, .int (xi_ c))]) hx hb d_M_closes_71 rfl hl (by decide) rfl (fun ls hl => ?_)
        refine lv_aload_n hx hb d_M_closes_72 rfl (lv_at hl 2 rfl) ?_
        refine xw_get F hh.1 (v := .ref (ma 9)) fl_M_31_6 0 rfl rfl d_M_closes_73 ?_
        refine lv_iload_n hx hb d_M_closes_76 rfl (lv_at hl 1 rfl) ?_
        refine xw_iald F hh.1 2 (f := co) rfl (i := 384 + t) (by omega) d_M_closes_77 ?_
        refine xw_topi (y := cn) hcn.1 ?_
        refine xw_if_le hx hb 90 d_M_closes_78 (by decide) (by omega) (fun c78 => ?_) (fun c78 => ?_)
        · refine lv_iconst (v := xi_ 0) hx hb d_M_closes_90 rfl ?_
          exact xw_iret F hr hlk hh (by decide) () rfl (by exact b2_f (decide_eq_false (by omega))) trivial d_M_closes_91
        · refine lv_iload_n hx hb d_M_closes_81 rfl (lv_at hl 3 rfl) ?_
          refine lv_iload_n hx hb d_M_closes_82 rfl (lv_at hl 0 rfl) ?_
          refine xw_icmp_ne hx hb 90 d_M_closes_83 (by decide) (by omega) (fun c83 => ?_) (fun c83 => ?_)
          · refine lv_iconst (v := xi_ 0) hx hb d_M_closes_90 rfl ?_
            exact xw_iret F hr hlk hh (by decide) () rfl (by exact b2_f (decide_eq_false (by omega))) trivial d_M_closes_91
          · refine lv_iconst (v := xi_ 1) hx hb d_M_closes_86 rfl ?_
            refine lv_goto (tgt := 91) hx hb d_M_closes_87 (by decide) ?_
            exact xw_iret F hr hlk hh (by decide) () rfl (by exact b2_t (decide_eq_true (by omega))) trivial d_M_closes_91
    · refine lv_bipush (v := xi_ 93) hx hb d_M_closes_35 (by decide) ?_
      refine lv_goto (tgt := 71) hx hb d_M_closes_37 (by decide) ?_
      refine lv_istore_n (lv' := [(3, .int (xi_ 93)), (2, .int (xi_ (384 + t))), (0, .ref mo), (1, .int (xi_ c))]) hx hb d_M_closes_71 rfl hl (by decide) rfl (fun ls hl => ?_)
      refine lv_aload_n hx hb d_M_closes_72 rfl (lv_at hl 2 rfl) ?_
      refine xw_get F hh.1 (v := .ref (ma 9)) fl_M_31_6 0 rfl rfl d_M_closes_73 ?_
      refine lv_iload_n hx hb d_M_closes_76 rfl (lv_at hl 1 rfl) ?_
      refine xw_iald F hh.1 2 (f := co) rfl (i := 384 + t) (by omega) d_M_closes_77 ?_
      refine xw_topi (y := cn) hcn.1 ?_
      refine xw_if_le hx hb 90 d_M_closes_78 (by decide) (by omega) (fun c78 => ?_) (fun c78 => ?_)
      · refine lv_iconst (v := xi_ 0) hx hb d_M_closes_90 rfl ?_
        exact xw_iret F hr hlk hh (by decide) () rfl (by exact b2_f (decide_eq_false (by omega))) trivial d_M_closes_91
      · refine lv_iload_n hx hb d_M_closes_81 rfl (lv_at hl 3 rfl) ?_
        refine lv_iload_n hx hb d_M_closes_82 rfl (lv_at hl 0 rfl) ?_
        refine xw_icmp_ne hx hb 90 d_M_closes_83 (by decide) (by omega) (fun c83 => ?_) (fun c83 => ?_)
        · refine lv_iconst (v := xi_ 0) hx hb d_M_closes_90 rfl ?_
          exact xw_iret F hr hlk hh (by decide) () rfl (by exact b2_f (decide_eq_false (by omega))) trivial d_M_closes_91
        · refine lv_iconst (v := xi_ 1) hx hb d_M_closes_86 rfl ?_
          refine lv_goto (tgt := 91) hx hb d_M_closes_87 (by decide) ?_
          exact xw_iret F hr hlk hh (by decide) () rfl (by exact b2_t (decide_eq_true (by omega))) trivial d_M_closes_91
  · refine lv_iconst (v := xi_ 0) hx hb d_M_closes_7 rfl ?_
    exact xw_iret F hr hlk hh (by decide) () rfl (by exact b2_f (decide_eq_false (by omega))) trivial d_M_closes_8
def rm_M_isFilled : Room := { frames := 1, cells := 0, slots := 0, locals := 20 }
set_option maxHeartbeats 4000000 in
set_option maxRecDepth 100000 in
theorem c_M_isFilled (l : Launch) (G : GG_) (sz : Nat) (mo : Nat) (ma : Nat → Nat) (ty at0 dp wy un pl sp pe tk du tm : Int) (kn co op : Nat → Int) (t k cn : Int) (hdp : 0 ≤ dp ∧ dp ≤ 50) (ht : 0 < dp → op (dp - 1).toNat = t ∧ 0 ≤ t ∧ t < 48) (hk9 : kn (384 + t).toNat = k ∧ -1 ≤ k ∧ k ≤ 10) (hcn : co (384 + t).toNat = cn ∧ 0 ≤ cn ∧ cn ≤ 10) : Met l y_M_isFilled (cw_ y_M_isFilled b_M_isFilled 1 (some .boolean)) rm_M_isFilled (xw_P G [.ref mo] sz [(mo, .inr (6, mo_ ma ty at0 dp wy un pl sp pe tk du tm)), (ma 3, .inl (G.2.2 0, 432, .inl (ja_ kn))), (ma 9, .inl (G.2.2 0, 432, .inl (ja_ co))), (ma 14, .inl (G.2.2 0, 50, .inl (ja_ op)))] (fun _ => True)) (xw_Qi (S := Unit) G sz [(mo, .inr (6, mo_ ma ty at0 dp wy un pl sp pe tk du tm)), (ma 3, .inl (G.2.2 0, 432, .inl (ja_ kn))), (ma 9, .inl (G.2.2 0, 432, .inl (ja_ co))), (ma 14, .inl (G.2.2 0, 50, .inl (ja_ op)))] (fun z _ => z = b2_ (decide (0 < dp ∧ wn_ k = 10 ∧ cn = 9))) (fun _ => [(mo, .inr (6, mo_ ma ty at0 dp wy un pl sp pe tk du tm)), (ma 3, .inl (G.2.2 0, 432, .inl (ja_ kn))), (ma 9, .inl (G.2.2 0, 432, .inl (ja_ co))), (ma 14, .inl (G.2.2 0, 50, .inl (ja_ op)))]) (fun _ _ => True)) 0 0 (va_A [(mo, .inr (6, mo_ ma ty at0 dp wy un pl sp pe tk du tm)), (ma 3, .inl (G.2.2 0, 432, .inl (ja_ kn))), (ma 9, .inl (G.2.2 0, 432, .inl (ja_ co))), (ma 14, .inl (G.2.2 0, 50, .inl (ja_ op)))] sz) := by
  refine xw_met (by decide) (Nat.le_of_ble_eq_true rfl) ?_
  intro p0 e0 s m0 args below meth c0 F hr hlk hin hsz hh hX ls hl
  subst hsz
  have hx := F.1
  have hb := F.2.1
  have hl : lv_has ls 1 [(0, .ref mo)] := hl
  refine lv_aload_n hx hb d_M_isFilled_0 rfl (lv_at hl 0 rfl) ?_
  refine xw_get F hh.1 (v := .int (xi_ dp)) fl_M_123_6 0 rfl rfl d_M_isFilled_1 ?_
  refine xw_if_le hx hb 64 d_M_isFilled_4 (by decide) (by omega) (fun c4 => ?_) (fun c4 => ?_)
  · refine lv_iconst (v := xi_ 0) hx hb d_M_isFilled_64 rfl ?_
    exact xw_iret F hr hlk hh (by decide) () rfl (by exact b2_f (decide_eq_false (by omega))) trivial d_M_isFilled_65
  · have ht9 := ht (by omega)
    refine lv_aload_n hx hb d_M_isFilled_7 rfl (lv_at hl 0 rfl) ?_
    refine xw_get F hh.1 (v := .ref (ma 3)) fl_M_13_6 0 rfl rfl d_M_isFilled_8 ?_
    refine lv_sipush (v := xi_ 384) hx hb d_M_isFilled_11 (by decide) ?_
    refine lv_aload_n hx hb d_M_isFilled_14 rfl (lv_at hl 0 rfl) ?_
    refine xw_get F hh.1 (v := .ref (ma 14)) fl_M_43_6 0 rfl rfl d_M_isFilled_15 ?_
    refine lv_aload_n hx hb d_M_isFilled_18 rfl (lv_at hl 0 rfl) ?_
    refine xw_get F hh.1 (v := .int (xi_ dp)) fl_M_123_6 0 rfl rfl d_M_isFilled_19 ?_
    refine lv_iconst (v := xi_ 1) hx hb d_M_isFilled_22 rfl ?_
    refine xw_isub hx hb d_M_isFilled_23 ?_
    refine xw_iald F hh.1 3 (f := op) rfl (i := dp - 1) (by omega) d_M_isFilled_24 ?_
    refine xw_topi (y := t) (ht (by omega)).1 ?_
    refine xw_iadd hx hb d_M_isFilled_25 ?_
    refine xw_iald F hh.1 1 (f := kn) rfl (i := 384 + t) (by omega) d_M_isFilled_26 ?_
    refine xw_topi (y := k) hk9.1 ?_
    refine xw_cip hh (xw_rSp F (c_M_wants l G s.heap.size k (by omega)) lk_M_126 cd_M_wants ss_M_wants rfl rfl ⟨by decide, by decide⟩ rfl hl.1 rfl (Nat.le_of_ble_eq_true rfl) d_M_isFilled_27 ⟨Nat.le_of_ble_eq_true rfl, Nat.le_of_ble_eq_true rfl⟩) (fun z27 u H locs hp27 hz hk hh => ?_)
    obtain rfl : z27 = wn_ k := hp27
    have hwn : 0 ≤ wn_ k ∧ wn_ k ≤ 10 := by
      unfold wn_
      split
      · omega
      · split
        · omega
        · split <;> omega
    refine lv_bipush (v := xi_ 10) hx hb d_M_isFilled_30 (by decide) ?_
    refine xw_icmp_ne hx hb 64 d_M_isFilled_32 (by decide) (by omega) (fun c32 => ?_) (fun c32 => ?_)
    · refine lv_iconst (v := xi_ 0) hx hb d_M_isFilled_64 rfl ?_
      exact xw_iret F hr hlk hh (by decide) () rfl (by exact b2_f (decide_eq_false (by omega))) trivial d_M_isFilled_65
    · refine lv_aload_n hx hb d_M_isFilled_35 rfl (lv_at hl 0 rfl) ?_
      refine xw_get F hh.1 (v := .ref (ma 9)) fl_M_31_6 0 rfl rfl d_M_isFilled_36 ?_
      refine lv_sipush (v := xi_ 384) hx hb d_M_isFilled_39 (by decide) ?_
      refine lv_aload_n hx hb d_M_isFilled_42 rfl (lv_at hl 0 rfl) ?_
      refine xw_get F hh.1 (v := .ref (ma 14)) fl_M_43_6 0 rfl rfl d_M_isFilled_43 ?_
      refine lv_aload_n hx hb d_M_isFilled_46 rfl (lv_at hl 0 rfl) ?_
      refine xw_get F hh.1 (v := .int (xi_ dp)) fl_M_123_6 0 rfl rfl d_M_isFilled_47 ?_
      refine lv_iconst (v := xi_ 1) hx hb d_M_isFilled_50 rfl ?_
      refine xw_isub hx hb d_M_isFilled_51 ?_
      refine xw_iald F hh.1 3 (f := op) rfl (i := dp - 1) (by omega) d_M_isFilled_52 ?_
      refine xw_topi (y := t) (ht (by omega)).1 ?_
      refine xw_iadd hx hb d_M_isFilled_53 ?_
      refine xw_iald F hh.1 2 (f := co) rfl (i := 384 + t) (by omega) d_M_isFilled_54 ?_
      refine xw_topi (y := cn) hcn.1 ?_
      refine lv_bipush (v := xi_ 9) hx hb d_M_isFilled_55 (by decide) ?_
      refine xw_icmp_ne hx hb 64 d_M_isFilled_57 (by decide) (by omega) (fun c57 => ?_) (fun c57 => ?_)
      · refine lv_iconst (v := xi_ 0) hx hb d_M_isFilled_64 rfl ?_
        exact xw_iret F hr hlk hh (by decide) () rfl (by exact b2_f (decide_eq_false (by omega))) trivial d_M_isFilled_65
      · refine lv_iconst (v := xi_ 1) hx hb d_M_isFilled_60 rfl ?_
        refine lv_goto (tgt := 65) hx hb d_M_isFilled_61 (by decide) ?_
        exact xw_iret F hr hlk hh (by decide) () rfl (by exact b2_t (decide_eq_true (by omega))) trivial d_M_isFilled_65
