/-! Rows.isNewestBefore, add, sameAs -/
def rm_Rw_isNewestBefore : Room := { frames := 0, cells := 0, slots := 0, locals := 0 }
set_option maxHeartbeats 4000000 in
set_option maxRecDepth 100000 in
theorem c_Rw_isNewestBefore (l : Launch) (G : GG_) (sz : Nat) (r v ra lim : Nat) (cnt tm : Int) (vals : Nat → Int) (x : Int) (hc : 0 ≤ x ∧ x < (lim : Int) ∧ 0 ≤ cnt ∧ cnt < (lim : Int) ∧ (lim : Int) ≤ 200) (hv : ∀ j : Nat, -9223372036854775808 ≤ vals j ∧ vals j ≤ 9223372036854775807) : Met l y_Rw_isNewestBefore (cw_ y_Rw_isNewestBefore b_Rw_isNewestBefore 7 (some .boolean)) rm_Rw_isNewestBefore (xw_P G [.ref r, .int (xi_ x)] sz [(r, .inr (3, [.int (xi_ (lim : Int)), .ref v, .ref ra, .int (xi_ cnt), .int (xi_ tm)])), (v, .inl (G.2.2 1, (lim * 5), .inr (.inl (jl_ vals))))] (fun _ => True)) (xw_Qi (S := Unit) G sz [(r, .inr (3, [.int (xi_ (lim : Int)), .ref v, .ref ra, .int (xi_ cnt), .int (xi_ tm)])), (v, .inl (G.2.2 1, (lim * 5), .inr (.inl (jl_ vals))))] (fun z _ => z = b2_ (r_lt (ro_ vals cnt) (ro_ vals x))) (fun _ => [(r, .inr (3, [.int (xi_ (lim : Int)), .ref v, .ref ra, .int (xi_ cnt), .int (xi_ tm)])), (v, .inl (G.2.2 1, (lim * 5), .inr (.inl (jl_ vals))))]) (fun _ _ => True)) 0 0 (va_A [(r, .inr (3, [.int (xi_ (lim : Int)), .ref v, .ref ra, .int (xi_ cnt), .int (xi_ tm)])), (v, .inl (G.2.2 1, (lim * 5), .inr (.inl (jl_ vals))))] sz) := by
  refine xw_met (by decide) (Nat.le_of_ble_eq_true rfl) ?_
  intro p0 e0 s m0 args below meth c0 F hr hlk hin hsz hh hX ls hl
  subst hsz
  have hx := F.1
  have hb := F.2.1
  have hl : lv_has ls 7 [(0, .ref r), (1, .int (xi_ x))] := hl
  refine lv_iconst (v := xi_ 0) hx hb d_Rw_isNewestBefore_0 rfl ?_
  refine lv_istore_n (lv' := [(2, .int (xi_ 0)), (0, .ref r), (1, .int (xi_ x))]) hx hb d_Rw_isNewestBefore_1 rfl hl (by decide) rfl (fun ls hl => ?_)
  refine lv_iload_n hx hb d_Rw_isNewestBefore_2 rfl (lv_at hl 0 rfl) ?_
  refine lv_iconst (v := xi_ 5) hx hb d_Rw_isNewestBefore_3 rfl ?_
  refine xw_icmp_ge hx hb 59 d_Rw_isNewestBefore_4 (by decide) (by decide) (fun c4 => absurd c4 (by decide)) (fun c4 => ?_)
  refine lv_aload_n hx hb d_Rw_isNewestBefore_7 rfl (lv_at hl 1 rfl) ?_
  refine xw_get F hh.1 (v := .ref v) fl_Rw_13_3 0 rfl rfl d_Rw_isNewestBefore_8 ?_
  refine lv_aload_n hx hb d_Rw_isNewestBefore_11 rfl (lv_at hl 1 rfl) ?_
  refine xw_get F hh.1 (v := .int (xi_ cnt)) fl_Rw_21_3 0 rfl rfl d_Rw_isNewestBefore_12 ?_
  refine lv_iconst (v := xi_ 5) hx hb d_Rw_isNewestBefore_15 rfl ?_
  refine xw_imul hx hb d_Rw_isNewestBefore_16 ?_
  refine lv_iload_n hx hb d_Rw_isNewestBefore_17 rfl (lv_at hl 0 rfl) ?_
  refine xw_iadd hx hb d_Rw_isNewestBefore_18 ?_
  refine xw_lald F hh.1 1 (f := vals) rfl (i := (cnt * 5) + 0) (by omega) d_Rw_isNewestBefore_19 ?_
  refine lv_lstore_n (lv' := [(3, .long (xl_ (vals ((cnt * 5) + 0).toNat))), (2, .int (xi_ 0)), (0, .ref r), (1, .int (xi_ x))]) hx hb d_Rw_isNewestBefore_20 rfl hl (by decide) rfl (fun ls hl => ?_)
  refine lv_aload_n hx hb d_Rw_isNewestBefore_21 rfl (lv_at hl 2 rfl) ?_
  refine xw_get F hh.1 (v := .ref v) fl_Rw_13_3 0 rfl rfl d_Rw_isNewestBefore_22 ?_
  refine lv_iload_n hx hb d_Rw_isNewestBefore_25 rfl (lv_at hl 3 rfl) ?_
  refine lv_iconst (v := xi_ 5) hx hb d_Rw_isNewestBefore_26 rfl ?_
  refine xw_imul hx hb d_Rw_isNewestBefore_27 ?_
  refine lv_iload_n hx hb d_Rw_isNewestBefore_28 rfl (lv_at hl 1 rfl) ?_
  refine xw_iadd hx hb d_Rw_isNewestBefore_29 ?_
  refine xw_lald F hh.1 1 (f := vals) rfl (i := (x * 5) + 0) (by omega) d_Rw_isNewestBefore_30 ?_
  refine lv_lstore (lv' := [(5, .long (xl_ (vals ((x * 5) + 0).toNat))), (3, .long (xl_ (vals ((cnt * 5) + 0).toNat))), (2, .int (xi_ 0)), (0, .ref r), (1, .int (xi_ x))]) hx hb d_Rw_isNewestBefore_31 hl (by decide) rfl (fun ls hl => ?_)
  refine lv_lload_n hx hb d_Rw_isNewestBefore_33 rfl (lv_at hl 1 rfl) ?_
  refine lv_lload hx hb d_Rw_isNewestBefore_34 (lv_at hl 0 rfl) ?_
  refine xw_lcmp_eq hx hb 53 d_Rw_isNewestBefore_36 d_Rw_isNewestBefore_37 (by decide) ⟨hv _, hv _⟩ (fun c36 => ?_) (fun c36 => ?_)
  · refine lv_iinc (k := 2) (v := xi_ 1) (lv' := [(2, .int (xi_ 1)), (5, .long (xl_ (vals ((x * 5) + 0).toNat))), (3, .long (xl_ (vals ((cnt * 5) + 0).toNat))), (0, .ref r), (1, .int (xi_ x))]) hx hb d_Rw_isNewestBefore_53 hl rfl (by decide) (by decide) rfl (fun ls hl => ?_)
    refine lv_goto (tgt := 2) hx hb d_Rw_isNewestBefore_56 (by decide) ?_
    refine lv_iload_n hx hb d_Rw_isNewestBefore_2 rfl (lv_at hl 0 rfl) ?_
    refine lv_iconst (v := xi_ 5) hx hb d_Rw_isNewestBefore_3 rfl ?_
    refine xw_icmp_ge hx hb 59 d_Rw_isNewestBefore_4 (by decide) (by decide) (fun c4 => absurd c4 (by decide)) (fun c4 => ?_)
    refine lv_aload_n hx hb d_Rw_isNewestBefore_7 rfl (lv_at hl 3 rfl) ?_
    refine xw_get F hh.1 (v := .ref v) fl_Rw_13_3 0 rfl rfl d_Rw_isNewestBefore_8 ?_
    refine lv_aload_n hx hb d_Rw_isNewestBefore_11 rfl (lv_at hl 3 rfl) ?_
    refine xw_get F hh.1 (v := .int (xi_ cnt)) fl_Rw_21_3 0 rfl rfl d_Rw_isNewestBefore_12 ?_
    refine lv_iconst (v := xi_ 5) hx hb d_Rw_isNewestBefore_15 rfl ?_
    refine xw_imul hx hb d_Rw_isNewestBefore_16 ?_
    refine lv_iload_n hx hb d_Rw_isNewestBefore_17 rfl (lv_at hl 0 rfl) ?_
    refine xw_iadd hx hb d_Rw_isNewestBefore_18 ?_
    refine xw_lald F hh.1 1 (f := vals) rfl (i := (cnt * 5) + 1) (by omega) d_Rw_isNewestBefore_19 ?_
    refine lv_lstore_n (lv' := [(3, .long (xl_ (vals ((cnt * 5) + 1).toNat))), (2, .int (xi_ 1)), (5, .long (xl_ (vals ((x * 5) + 0).toNat))), (0, .ref r), (1, .int (xi_ x))]) hx hb d_Rw_isNewestBefore_20 rfl hl (by decide) rfl (fun ls hl => ?_)
    refine lv_aload_n hx hb d_Rw_isNewestBefore_21 rfl (lv_at hl 3 rfl) ?_
    refine xw_get F hh.1 (v := .ref v) fl_Rw_13_3 0 rfl rfl d_Rw_isNewestBefore_22 ?_
    refine lv_iload_n hx hb d_Rw_isNewestBefore_25 rfl (lv_at hl 4 rfl) ?_
    refine lv_iconst (v := xi_ 5) hx hb d_Rw_isNewestBefore_26 rfl ?_
    refine xw_imul hx hb d_Rw_isNewestBefore_27 ?_
    refine lv_iload_n hx hb d_Rw_isNewestBefore_28 rfl (lv_at hl 1 rfl) ?_
    refine xw_iadd hx hb d_Rw_isNewestBefore_29 ?_
    refine xw_lald F hh.1 1 (f := vals) rfl (i := (x * 5) + 1) (by omega) d_Rw_isNewestBefore_30 ?_
    refine lv_lstore (lv' := [(5, .long (xl_ (vals ((x * 5) + 1).toNat))), (3, .long (xl_ (vals ((cnt * 5) + 1).toNat))), (2, .int (xi_ 1)), (0, .ref r), (1, .int (xi_ x))]) hx hb d_Rw_isNewestBefore_31 hl (by decide) rfl (fun ls hl => ?_)
    refine lv_lload_n hx hb d_Rw_isNewestBefore_33 rfl (lv_at hl 1 rfl) ?_
    refine lv_lload hx hb d_Rw_isNewestBefore_34 (lv_at hl 0 rfl) ?_
    refine xw_lcmp_eq hx hb 53 d_Rw_isNewestBefore_36 d_Rw_isNewestBefore_37 (by decide) ⟨hv _, hv _⟩ (fun c36 => ?_) (fun c36 => ?_)
    · refine lv_iinc (k := 2) (v := xi_ 2) (lv' := [(2, .int (xi_ 2)), (5, .long (xl_ (vals ((x * 5) + 1).toNat))), (3, .long (xl_ (vals ((cnt * 5) + 1).toNat))), (0, .ref r), (1, .int (xi_ x))]) hx hb d_Rw_isNewestBefore_53 hl rfl (by decide) (by decide) rfl (fun ls hl => ?_)
      refine lv_goto (tgt := 2) hx hb d_Rw_isNewestBefore_56 (by decide) ?_
      refine lv_iload_n hx hb d_Rw_isNewestBefore_2 rfl (lv_at hl 0 rfl) ?_
      refine lv_iconst (v := xi_ 5) hx hb d_Rw_isNewestBefore_3 rfl ?_
      refine xw_icmp_ge hx hb 59 d_Rw_isNewestBefore_4 (by decide) (by decide) (fun c4 => absurd c4 (by decide)) (fun c4 => ?_)
      refine lv_aload_n hx hb d_Rw_isNewestBefore_7 rfl (lv_at hl 3 rfl) ?_
      refine xw_get F hh.1 (v := .ref v) fl_Rw_13_3 0 rfl rfl d_Rw_isNewestBefore_8 ?_
      refine lv_aload_n hx hb d_Rw_isNewestBefore_11 rfl (lv_at hl 3 rfl) ?_
      refine xw_get F hh.1 (v := .int (xi_ cnt)) fl_Rw_21_3 0 rfl rfl d_Rw_isNewestBefore_12 ?_
      refine lv_iconst (v := xi_ 5) hx hb d_Rw_isNewestBefore_15 rfl ?_
      refine xw_imul hx hb d_Rw_isNewestBefore_16 ?_
      refine lv_iload_n hx hb d_Rw_isNewestBefore_17 rfl (lv_at hl 0 rfl) ?_
      refine xw_iadd hx hb d_Rw_isNewestBefore_18 ?_
      refine xw_lald F hh.1 1 (f := vals) rfl (i := (cnt * 5) + 2) (by omega) d_Rw_isNewestBefore_19 ?_
      refine lv_lstore_n (lv' := [(3, .long (xl_ (vals ((cnt * 5) + 2).toNat))), (2, .int (xi_ 2)), (5, .long (xl_ (vals ((x * 5) + 1).toNat))), (0, .ref r), (1, .int (xi_ x))]) hx hb d_Rw_isNewestBefore_20 rfl hl (by decide) rfl (fun ls hl => ?_)
      refine lv_aload_n hx hb d_Rw_isNewestBefore_21 rfl (lv_at hl 3 rfl) ?_
      refine xw_get F hh.1 (v := .ref v) fl_Rw_13_3 0 rfl rfl d_Rw_isNewestBefore_22 ?_
      refine lv_iload_n hx hb d_Rw_isNewestBefore_25 rfl (lv_at hl 4 rfl) ?_
      refine lv_iconst (v := xi_ 5) hx hb d_Rw_isNewestBefore_26 rfl ?_
      refine xw_imul hx hb d_Rw_isNewestBefore_27 ?_
      refine lv_iload_n hx hb d_Rw_isNewestBefore_28 rfl (lv_at hl 1 rfl) ?_
      refine xw_iadd hx hb d_Rw_isNewestBefore_29 ?_
      refine xw_lald F hh.1 1 (f := vals) rfl (i := (x * 5) + 2) (by omega) d_Rw_isNewestBefore_30 ?_
      refine lv_lstore (lv' := [(5, .long (xl_ (vals ((x * 5) + 2).toNat))), (3, .long (xl_ (vals ((cnt * 5) + 2).toNat))), (2, .int (xi_ 2)), (0, .ref r), (1, .int (xi_ x))]) hx hb d_Rw_isNewestBefore_31 hl (by decide) rfl (fun ls hl => ?_)
      refine lv_lload_n hx hb d_Rw_isNewestBefore_33 rfl (lv_at hl 1 rfl) ?_
      refine lv_lload hx hb d_Rw_isNewestBefore_34 (lv_at hl 0 rfl) ?_
      refine xw_lcmp_eq hx hb 53 d_Rw_isNewestBefore_36 d_Rw_isNewestBefore_37 (by decide) ⟨hv _, hv _⟩ (fun c36 => ?_) (fun c36 => ?_)
      · refine lv_iinc (k := 2) (v := xi_ 3) (lv' := [(2, .int (xi_ 3)), (5, .long (xl_ (vals ((x * 5) + 2).toNat))), (3, .long (xl_ (vals ((cnt * 5) + 2).toNat))), (0, .ref r), (1, .int (xi_ x))]) hx hb d_Rw_isNewestBefore_53 hl rfl (by decide) (by decide) rfl (fun ls hl => ?_)
        refine lv_goto (tgt := 2) hx hb d_Rw_isNewestBefore_56 (by decide) ?_
        refine lv_iload_n hx hb d_Rw_isNewestBefore_2 rfl (lv_at hl 0 rfl) ?_
        refine lv_iconst (v := xi_ 5) hx hb d_Rw_isNewestBefore_3 rfl ?_
        refine xw_icmp_ge hx hb 59 d_Rw_isNewestBefore_4 (by decide) (by decide) (fun c4 => absurd c4 (by decide)) (fun c4 => ?_)
        refine lv_aload_n hx hb d_Rw_isNewestBefore_7 rfl (lv_at hl 3 rfl) ?_
        refine xw_get F hh.1 (v := .ref v) fl_Rw_13_3 0 rfl rfl d_Rw_isNewestBefore_8 ?_
        refine lv_aload_n hx hb d_Rw_isNewestBefore_11 rfl (lv_at hl 3 rfl) ?_
        refine xw_get F hh.1 (v := .int (xi_ cnt)) fl_Rw_21_3 0 rfl rfl d_Rw_isNewestBefore_12 ?_
        refine lv_iconst (v := xi_ 5) hx hb d_Rw_isNewestBefore_15 rfl ?_
        refine xw_imul hx hb d_Rw_isNewestBefore_16 ?_
        refine lv_iload_n hx hb d_Rw_isNewestBefore_17 rfl (lv_at hl 0 rfl) ?_
        refine xw_iadd hx hb d_Rw_isNewestBefore_18 ?_
        refine xw_lald F hh.1 1 (f := vals) rfl (i := (cnt * 5) + 3) (by omega) d_Rw_isNewestBefore_19 ?_
        refine lv_lstore_n (lv' := [(3, .long (xl_ (vals ((cnt * 5) + 3).toNat))), (2, .int (xi_ 3)), (5, .long (xl_ (vals ((x * 5) + 2).toNat))), (0, .ref r), (1, .int (xi_ x))]) hx hb d_Rw_isNewestBefore_20 rfl hl (by decide) rfl (fun ls hl => ?_)
        refine lv_aload_n hx hb d_Rw_isNewestBefore_21 rfl (lv_at hl 3 rfl) ?_
        refine xw_get F hh.1 (v := .ref v) fl_Rw_13_3 0 rfl rfl d_Rw_isNewestBefore_22 ?_
        refine lv_iload_n hx hb d_Rw_isNewestBefore_25 rfl (lv_at hl 4 rfl) ?_
        refine lv_iconst (v := xi_ 5) hx hb d_Rw_isNewestBefore_26 rfl ?_
        refine xw_imul hx hb d_Rw_isNewestBefore_27 ?_
        refine lv_iload_n hx hb d_Rw_isNewestBefore_28 rfl (lv_at hl 1 rfl) ?_
        refine xw_iadd hx hb d_Rw_isNewestBefore_29 ?_
        refine xw_lald F hh.1 1 (f := vals) rfl (i := (x * 5) + 3) (by omega) d_Rw_isNewestBefore_30 ?_
        refine lv_lstore (lv' := [(5, .long (xl_ (vals ((x * 5) + 3).toNat))), (3, .long (xl_ (vals ((cnt * 5) + 3).toNat))), (2, .int (xi_ 3)), (0, .ref r), (1, .int (xi_ x))]) hx hb d_Rw_isNewestBefore_31 hl (by decide) rfl (fun ls hl => ?_)
        refine lv_lload_n hx hb d_Rw_isNewestBefore_33 rfl (lv_at hl 1 rfl) ?_
        refine lv_lload hx hb d_Rw_isNewestBefore_34 (lv_at hl 0 rfl) ?_
        refine xw_lcmp_eq hx hb 53 d_Rw_isNewestBefore_36 d_Rw_isNewestBefore_37 (by decide) ⟨hv _, hv _⟩ (fun c36 => ?_) (fun c36 => ?_)
        · refine lv_iinc (k := 2) (v := xi_ 4) (lv' := [(2, .int (xi_ 4)), (5, .long (xl_ (vals ((x * 5) + 3).toNat))), (3, .long (xl_ (vals ((cnt * 5) + 3).toNat))), (0, .ref r), (1, .int (xi_ x))]) hx hb d_Rw_isNewestBefore_53 hl rfl (by decide) (by decide) rfl (fun ls hl => ?_)
          refine lv_goto (tgt := 2) hx hb d_Rw_isNewestBefore_56 (by decide) ?_
          refine lv_iload_n hx hb d_Rw_isNewestBefore_2 rfl (lv_at hl 0 rfl) ?_
          refine lv_iconst (v := xi_ 5) hx hb d_Rw_isNewestBefore_3 rfl ?_
          refine xw_icmp_ge hx hb 59 d_Rw_isNewestBefore_4 (by decide) (by decide) (fun c4 => absurd c4 (by decide)) (fun c4 => ?_)
          refine lv_aload_n hx hb d_Rw_isNewestBefore_7 rfl (lv_at hl 3 rfl) ?_
          refine xw_get F hh.1 (v := .ref v) fl_Rw_13_3 0 rfl rfl d_Rw_isNewestBefore_8 ?_
          refine lv_aload_n hx hb d_Rw_isNewestBefore_11 rfl (lv_at hl 3 rfl) ?_
          refine xw_get F hh.1 (v := .int (xi_ cnt)) fl_Rw_21_3 0 rfl rfl d_Rw_isNewestBefore_12 ?_
          refine lv_iconst (v := xi_ 5) hx hb d_Rw_isNewestBefore_15 rfl ?_
          refine xw_imul hx hb d_Rw_isNewestBefore_16 ?_
          refine lv_iload_n hx hb d_Rw_isNewestBefore_17 rfl (lv_at hl 0 rfl) ?_
          refine xw_iadd hx hb d_Rw_isNewestBefore_18 ?_
          refine xw_lald F hh.1 1 (f := vals) rfl (i := (cnt * 5) + 4) (by omega) d_Rw_isNewestBefore_19 ?_
          refine lv_lstore_n (lv' := [(3, .long (xl_ (vals ((cnt * 5) + 4).toNat))), (2, .int (xi_ 4)), (5, .long (xl_ (vals ((x * 5) + 3).toNat))), (0, .ref r), (1, .int (xi_ x))]) hx hb d_Rw_isNewestBefore_20 rfl hl (by decide) rfl (fun ls hl => ?_)
          refine lv_aload_n hx hb d_Rw_isNewestBefore_21 rfl (lv_at hl 3 rfl) ?_
          refine xw_get F hh.1 (v := .ref v) fl_Rw_13_3 0 rfl rfl d_Rw_isNewestBefore_22 ?_
          refine lv_iload_n hx hb d_Rw_isNewestBefore_25 rfl (lv_at hl 4 rfl) ?_
          refine lv_iconst (v := xi_ 5) hx hb d_Rw_isNewestBefore_26 rfl ?_
          refine xw_imul hx hb d_Rw_isNewestBefore_27 ?_
          refine lv_iload_n hx hb d_Rw_isNewestBefore_28 rfl (lv_at hl 1 rfl) ?_
          refine xw_iadd hx hb d_Rw_isNewestBefore_29 ?_
          refine xw_lald F hh.1 1 (f := vals) rfl (i := (x * 5) + 4) (by omega) d_Rw_isNewestBefore_30 ?_
          refine lv_lstore (lv' := [(5, .long (xl_ (vals ((x * 5) + 4).toNat))), (3, .long (xl_ (vals ((cnt * 5) + 4).toNat))), (2, .int (xi_ 4)), (0, .ref r), (1, .int (xi_ x))]) hx hb d_Rw_isNewestBefore_31 hl (by decide) rfl (fun ls hl => ?_)
          refine lv_lload_n hx hb d_Rw_isNewestBefore_33 rfl (lv_at hl 1 rfl) ?_
          refine lv_lload hx hb d_Rw_isNewestBefore_34 (lv_at hl 0 rfl) ?_
          refine xw_lcmp_eq hx hb 53 d_Rw_isNewestBefore_36 d_Rw_isNewestBefore_37 (by decide) ⟨hv _, hv _⟩ (fun c36 => ?_) (fun c36 => ?_)
          · refine lv_iinc (k := 2) (v := xi_ 5) (lv' := [(2, .int (xi_ 5)), (5, .long (xl_ (vals ((x * 5) + 4).toNat))), (3, .long (xl_ (vals ((cnt * 5) + 4).toNat))), (0, .ref r), (1, .int (xi_ x))]) hx hb d_Rw_isNewestBefore_53 hl rfl (by decide) (by decide) rfl (fun ls hl => ?_)
            refine lv_goto (tgt := 2) hx hb d_Rw_isNewestBefore_56 (by decide) ?_
            refine lv_iload_n hx hb d_Rw_isNewestBefore_2 rfl (lv_at hl 0 rfl) ?_
            refine lv_iconst (v := xi_ 5) hx hb d_Rw_isNewestBefore_3 rfl ?_
            refine xw_icmp_ge hx hb 59 d_Rw_isNewestBefore_4 (by decide) (by decide) (fun c4 => ?_) (fun c4 => absurd c4 (by decide))
            refine lv_iconst (v := xi_ 0) hx hb d_Rw_isNewestBefore_59 rfl ?_
            exact xw_iret F hr hlk hh (by decide) () rfl (by exact b2_f ((r_nlt_iff _ _).mpr (by dsimp only [ro_]; omega))) trivial d_Rw_isNewestBefore_60
          · refine lv_lload_n hx hb d_Rw_isNewestBefore_40 rfl (lv_at hl 1 rfl) ?_
            refine lv_lload hx hb d_Rw_isNewestBefore_41 (lv_at hl 0 rfl) ?_
            refine xw_lcmp_ge hx hb 51 d_Rw_isNewestBefore_43 d_Rw_isNewestBefore_44 (by decide) ⟨hv _, hv _⟩ (fun c43 => ?_) (fun c43 => ?_)
            · refine lv_iconst (v := xi_ 0) hx hb d_Rw_isNewestBefore_51 rfl ?_
              exact xw_iret F hr hlk hh (by decide) () rfl (by exact b2_f ((r_nlt_iff _ _).mpr (by dsimp only [ro_]; omega))) trivial d_Rw_isNewestBefore_52
            · refine lv_iconst (v := xi_ 1) hx hb d_Rw_isNewestBefore_47 rfl ?_
              refine lv_goto (tgt := 52) hx hb d_Rw_isNewestBefore_48 (by decide) ?_
              exact xw_iret F hr hlk hh (by decide) () rfl (by exact b2_t ((r_lt_iff _ _).mpr (by dsimp only [ro_]; omega))) trivial d_Rw_isNewestBefore_52
        · refine lv_lload_n hx hb d_Rw_isNewestBefore_40 rfl (lv_at hl 1 rfl) ?_
          refine lv_lload hx hb d_Rw_isNewestBefore_41 (lv_at hl 0 rfl) ?_
          refine xw_lcmp_ge hx hb 51 d_Rw_isNewestBefore_43 d_Rw_isNewestBefore_44 (by decide) ⟨hv _, hv _⟩ (fun c43 => ?_) (fun c43 => ?_)
          · refine lv_iconst (v := xi_ 0) hx hb d_Rw_isNewestBefore_51 rfl ?_
            exact xw_iret F hr hlk hh (by decide) () rfl (by exact b2_f ((r_nlt_iff _ _).mpr (by dsimp only [ro_]; omega))) trivial d_Rw_isNewestBefore_52
          · refine lv_iconst (v := xi_ 1) hx hb d_Rw_isNewestBefore_47 rfl ?_
            refine lv_goto (tgt := 52) hx hb d_Rw_isNewestBefore_48 (by decide) ?_
            exact xw_iret F hr hlk hh (by decide) () rfl (by exact b2_t ((r_lt_iff _ _).mpr (by dsimp only [ro_]; omega))) trivial d_Rw_isNewestBefore_52
      · refine lv_lload_n hx hb d_Rw_isNewestBefore_40 rfl (lv_at hl 1 rfl) ?_
        refine lv_lload hx hb d_Rw_isNewestBefore_41 (lv_at hl 0 rfl) ?_
        refine xw_lcmp_ge hx hb 51 d_Rw_isNewestBefore_43 d_Rw_isNewestBefore_44 (by decide) ⟨hv _, hv _⟩ (fun c43 => ?_) (fun c43 => ?_)
        · refine lv_iconst (v := xi_ 0) hx hb d_Rw_isNewestBefore_51 rfl ?_
          exact xw_iret F hr hlk hh (by decide) () rfl (by exact b2_f ((r_nlt_iff _ _).mpr (by dsimp only [ro_]; omega))) trivial d_Rw_isNewestBefore_52
        · refine lv_iconst (v := xi_ 1) hx hb d_Rw_isNewestBefore_47 rfl ?_
          refine lv_goto (tgt := 52) hx hb d_Rw_isNewestBefore_48 (by decide) ?_
          exact xw_iret F hr hlk hh (by decide) () rfl (by exact b2_t ((r_lt_iff _ _).mpr (by dsimp only [ro_]; omega))) trivial d_Rw_isNewestBefore_52
    · refine lv_lload_n hx hb d_Rw_isNewestBefore_40 rfl (lv_at hl 1 rfl) ?_
      refine lv_lload hx hb d_Rw_isNewestBefore_41 (lv_at hl 0 rfl) ?_
      refine xw_lcmp_ge hx hb 51 d_Rw_isNewestBefore_43 d_Rw_isNewestBefore_44 (by decide) ⟨hv _, hv _⟩ (fun c43 => ?_) (fun c43 => ?_)
      · refine lv_iconst (v := xi_ 0) hx hb d_Rw_isNewestBefore_51 rfl ?_
        exact xw_iret F hr hlk hh (by decide) () rfl (by exact b2_f ((r_nlt_iff _ _).mpr (by dsimp only [ro_]; omega))) trivial d_Rw_isNewestBefore_52
      · refine lv_iconst (v := xi_ 1) hx hb d_Rw_isNewestBefore_47 rfl ?_
        refine lv_goto (tgt := 52) hx hb d_Rw_isNewestBefore_48 (by decide) ?_
        exact xw_iret F hr hlk hh (by decide) () rfl (by exact b2_t ((r_lt_iff _ _).mpr (by dsimp only [ro_]; omega))) trivial d_Rw_isNewestBefore_52
  · refine lv_lload_n hx hb d_Rw_isNewestBefore_40 rfl (lv_at hl 1 rfl) ?_
    refine lv_lload hx hb d_Rw_isNewestBefore_41 (lv_at hl 0 rfl) ?_
    refine xw_lcmp_ge hx hb 51 d_Rw_isNewestBefore_43 d_Rw_isNewestBefore_44 (by decide) ⟨hv _, hv _⟩ (fun c43 => ?_) (fun c43 => ?_)
    · refine lv_iconst (v := xi_ 0) hx hb d_Rw_isNewestBefore_51 rfl ?_
      exact xw_iret F hr hlk hh (by decide) () rfl (by exact b2_f ((r_nlt_iff _ _).mpr (by dsimp only [ro_]; omega))) trivial d_Rw_isNewestBefore_52
    · refine lv_iconst (v := xi_ 1) hx hb d_Rw_isNewestBefore_47 rfl ?_
      refine lv_goto (tgt := 52) hx hb d_Rw_isNewestBefore_48 (by decide) ?_
      exact xw_iret F hr hlk hh (by decide) () rfl (by exact b2_t ((r_lt_iff _ _).mpr (by dsimp only [ro_]; omega))) trivial d_Rw_isNewestBefore_52
/-- five values at row number cnt -/
def up5_ (vals : Nat → Int) (cnt x1 x2 x3 x4 x5 : Int) : Nat → Int := va_up (va_up (va_up (va_up (va_up vals (cnt * 5).toNat x1) (cnt * 5 + 1).toNat x2) (cnt * 5 + 2).toNat x3) (cnt * 5 + 3).toNat x4) (cnt * 5 + 4).toNat x5
theorem up5_new {vals : Nat → Int} {cnt : Int} (h : 0 ≤ cnt) (x1 x2 x3 x4 x5 : Int) : ro_ (up5_ vals cnt x1 x2 x3 x4 x5) cnt = (x1, x2, x3, x4, x5) := by
  unfold ro_ up5_ va_up
  refine Prod.ext ?_ (Prod.ext ?_ (Prod.ext ?_ (Prod.ext ?_ ?_)))
  · dsimp only; rw [if_neg (by omega), if_neg (by omega), if_neg (by omega), if_neg (by omega), if_pos (by omega)]
  · dsimp only; rw [if_neg (by omega), if_neg (by omega), if_neg (by omega), if_pos (by omega)]
  · dsimp only; rw [if_neg (by omega), if_neg (by omega), if_pos (by omega)]
  · dsimp only; rw [if_neg (by omega), if_pos (by omega)]
  · dsimp only; rw [if_pos (by omega)]
theorem up5_out {vals : Nat → Int} {cnt : Int} {k : Nat} (h : (k : Int) < cnt * 5 ∨ cnt * 5 + 4 < (k : Int)) (h0 : 0 ≤ cnt) (x1 x2 x3 x4 x5 : Int) : up5_ vals cnt x1 x2 x3 x4 x5 k = vals k := by
  unfold up5_ va_up
  rw [if_neg (by omega), if_neg (by omega), if_neg (by omega), if_neg (by omega), if_neg (by omega)]
theorem up5_old {vals : Nat → Int} {cnt j : Int} (h : 0 ≤ j ∧ j < cnt) (x1 x2 x3 x4 x5 : Int) : ro_ (up5_ vals cnt x1 x2 x3 x4 x5) j = ro_ vals j := by
  unfold ro_
  rw [up5_out (by omega) (by omega), up5_out (by omega) (by omega), up5_out (by omega) (by omega), up5_out (by omega) (by omega), up5_out (by omega) (by omega)]
theorem up5_rng {vals : Nat → Int} (hv : ∀ j : Nat, -9223372036854775808 ≤ vals j ∧ vals j ≤ 9223372036854775807) {cnt x1 x2 x3 x4 x5 : Int} (h : (-9223372036854775808 ≤ x1 ∧ x1 ≤ 9223372036854775807) ∧ (-9223372036854775808 ≤ x2 ∧ x2 ≤ 9223372036854775807) ∧ (-9223372036854775808 ≤ x3 ∧ x3 ≤ 9223372036854775807) ∧ (-9223372036854775808 ≤ x4 ∧ x4 ≤ 9223372036854775807) ∧ (-9223372036854775808 ≤ x5 ∧ x5 ≤ 9223372036854775807)) : ∀ j : Nat, -9223372036854775808 ≤ up5_ vals cnt x1 x2 x3 x4 x5 j ∧ up5_ vals cnt x1 x2 x3 x4 x5 j ≤ 9223372036854775807 := by
  intro j
  have := hv j
  unfold up5_ va_up
  repeat' split
  all_goals omega
/-- the strides -/
def st_ok (s : Int) : Prop := s = 128 ∨ s = 64 ∨ s = 32 ∨ s = 16 ∨ s = 8 ∨ s = 4 ∨ s = 2 ∨ s = 1 ∨ s = 0
theorem st_next {s : Int} (h : st_ok s) (h0 : 0 < s) : st_ok (s.tdiv 2) ∧ (2 * s.tdiv 2 = s ∨ (s = 1 ∧ s.tdiv 2 = 0)) ∧ s.tdiv 2 < s ∧ 0 ≤ s.tdiv 2 := by
  rcases h with rfl | rfl | rfl | rfl | rfl | rfl | rfl | rfl | rfl <;> first | omega | (unfold st_ok; decide)
theorem st_rng {s : Int} (h : st_ok s) : 0 ≤ s ∧ s ≤ 128 := by
  rcases h with rfl | rfl | rfl | rfl | rfl | rfl | rfl | rfl | rfl <;> decide
/-- where the new row goes, by the rows in order -/
theorem rr_place {lim : Nat} {cnt tm : Int} {vals rat : Nat → Int} {st : List Row_ × Bool} (h : rr_ lim cnt tm vals rat st) (x1 x2 x3 x4 x5 : Int) : ∀ q : Nat, (q : Int) < cnt → 0 ≤ rat q ∧ rat q < cnt ∧ ((q : Int) < (r_pos (x1, x2, x3, x4, x5) st.1 : Int) ↔ r_lt (ro_ (up5_ vals cnt x1 x2 x3 x4 x5) cnt) (ro_ (up5_ vals cnt x1 x2 x3 x4 x5) (rat q)) = false) := by
  obtain ⟨h1, h2, h3, h4, h5⟩ := h
  intro q hq
  obtain ⟨g1, g2, g3⟩ := h4 q (by omega)
  refine ⟨g1, g2, ?_⟩
  rw [up5_new (by omega), up5_old ⟨g1, g2⟩, ← r_pos_lt h2.1 g3]
  omega
theorem rr_add {lim : Nat} {cnt tm : Int} {vals rat : Nat → Int} {st : List Row_ × Bool} (h : rr_ lim cnt tm vals rat st) (hlt : cnt < (lim : Int)) {x1 x2 x3 x4 x5 : Int} (hx : (-9223372036854775808 ≤ x1 ∧ x1 ≤ 9223372036854775807) ∧ (-9223372036854775808 ≤ x2 ∧ x2 ≤ 9223372036854775807) ∧ (-9223372036854775808 ≤ x3 ∧ x3 ≤ 9223372036854775807) ∧ (-9223372036854775808 ≤ x4 ∧ x4 ≤ 9223372036854775807) ∧ (-9223372036854775808 ≤ x5 ∧ x5 ≤ 9223372036854775807)) {pos : Int} (hp : pos = (r_pos (x1, x2, x3, x4, x5) st.1 : Int)) :
    rr_ lim (cnt + 1) tm (up5_ vals cnt x1 x2 x3 x4 x5) (va_up (va_cpy rat rat pos.toNat (pos + 1).toNat (cnt - pos).toNat) pos.toNat cnt) (a_add lim st (x1, x2, x3, x4, x5)) := by
  have hok := a_ok_add h.2.1 (x1, x2, x3, x4, x5)
  obtain ⟨h1, h2, h3, h4, h5⟩ := h
  have hle := r_pos_le (x1, x2, x3, x4, x5) st.1
  have hadd : a_add lim st (x1, x2, x3, x4, x5) = (r_ins (x1, x2, x3, x4, x5) st.1, st.2) := by
    unfold a_add
    rw [if_neg (by omega)]
  have hlen : (r_ins (x1, x2, x3, x4, x5) st.1).length = st.1.length + 1 := r_ins_len _ _
  rw [hadd] at hok ⊢
  refine ⟨?_, hok, h3, ?_, up5_rng h5 hx⟩
  · show cnt + 1 = ((r_ins (x1, x2, x3, x4, x5) st.1).length : Int)
    omega
  · intro p hpl
    have hpl : p < (r_ins (x1, x2, x3, x4, x5) st.1).length := hpl
    show 0 ≤ _ ∧ _ < cnt + 1 ∧ (r_ins (x1, x2, x3, x4, x5) st.1)[p]? = _
    rw [r_ins_eq]
    generalize hk : r_pos (x1, x2, x3, x4, x5) st.1 = k at *
    by_cases hpk : p < k
    · have e : va_up (va_cpy rat rat pos.toNat (pos + 1).toNat (cnt - pos).toNat) pos.toNat cnt p = rat p := by
        unfold va_up va_cpy
        rw [if_neg (by omega), if_neg (by omega)]
      obtain ⟨g1, g2, g3⟩ := h4 p (by omega)
      rw [e, up5_old ⟨g1, g2⟩, List.getElem?_append_left (by rw [List.length_take]; omega), List.getElem?_take_of_lt hpk]
      exact ⟨g1, by omega, g3⟩
    · by_cases hpe : p = k
      · subst hpe
        have e : va_up (va_cpy rat rat pos.toNat (pos + 1).toNat (cnt - pos).toNat) pos.toNat cnt p = cnt := by
          unfold va_up
          rw [if_pos (by omega)]
        rw [e, up5_new (by omega), List.getElem?_append_right (by rw [List.length_take]; omega), List.length_take, show p - min p st.1.length = 0 by omega]
        exact ⟨by omega, by omega, rfl⟩
      · have e : va_up (va_cpy rat rat pos.toNat (pos + 1).toNat (cnt - pos).toNat) pos.toNat cnt p = rat (p - 1) := by
          unfold va_up va_cpy
          rw [if_neg (by omega), if_pos (by omega)]
          congr 1
          omega
        obtain ⟨g1, g2, g3⟩ := h4 (p - 1) (by omega)
        rw [e, up5_old ⟨g1, g2⟩, List.getElem?_append_right (by rw [List.length_take]; omega), List.length_take, show p - min k st.1.length = (p - 1 - k) + 1 by omega, List.getElem?_cons_succ, List.getElem?_drop, show k + (p - 1 - k) = p - 1 by omega]
        exact ⟨g1, by omega, g3⟩
theorem rr_full {lim : Nat} {cnt tm : Int} {vals rat : Nat → Int} {st : List Row_ × Bool} (h : rr_ lim cnt tm vals rat st) (hge : (lim : Int) ≤ cnt) (x : Row_) : rr_ lim cnt 1 vals rat (a_add lim st x) := by
  have hok := a_ok_add h.2.1 x
  obtain ⟨h1, h2, h3, h4, h5⟩ := h
  have hadd : a_add lim st x = (st.1, true) := by
    unfold a_add
    rw [if_pos (by omega)]
  rw [hadd] at hok ⊢
  exact ⟨h1, hok, rfl, h4, h5⟩
def rm_Rw_add : Room := { frames := 1, cells := 0, slots := 0, locals := 60 }
set_option maxHeartbeats 4000000 in
set_option maxRecDepth 100000 in
theorem lp_Rw_add {p : Program} {l : Launch} {e : Env} {s : State} {m : MethodId} {args : Array Value} {below : List Frame} {meth : Method} {c : Code} {Q : State → Prop} {G : GG_} {A : Nat → Prop} {H0 : Heap} (F : xw_F p s m args c b_Rw_add 14 R_Rw G) (r v ra lim : Nat) (cnt tm : Int) (vals rat : Nat → Int) (pos : Int) (hc : 0 ≤ cnt ∧ cnt < (lim : Int) ∧ (lim : Int) ≤ 200 ∧ 0 ≤ pos ∧ pos ≤ cnt) (hv : ∀ j : Nat, -9223372036854775808 ≤ vals j ∧ vals j ≤ 9223372036854775807)
    (hr9 : ∀ q : Nat, (q : Int) < cnt → 0 ≤ rat q ∧ rat q < cnt ∧ ((q : Int) < pos ↔ r_lt (ro_ vals cnt) (ro_ vals (rat q)) = false))
    (kk : ∀ (ls : Array Slot) (H : Heap) (locs : List Loc), lv_has ls 14 [(12, .int (xi_ pos)), (0, .ref r)] → xw_H G A H0 H locs [(r, .inr (3, [.int (xi_ (lim : Int)), .ref v, .ref ra, .int (xi_ cnt), .int (xi_ tm)])), (v, .inl (G.2.2 1, (lim * 5), .inr (.inl (jl_ vals)))), (ra, .inl (G.2.2 0, lim, .inl (ja_ rat)))] → W p l e rm_Rw_add s m args below meth c H locs 0 0 Q (F0 m 136 ls [])) :
    ∀ (N : Nat) (pl sd : Int) (ls : Array Slot) (H : Heap) (locs : List Loc), sd.toNat < N → st_ok sd → 0 ≤ pl → pl ≤ pos → (pos < pl + 2 * sd ∨ (sd = 0 ∧ pl = pos)) → lv_has ls 14 [(13, .int (xi_ sd)), (12, .int (xi_ pl)), (0, .ref r)] → xw_H G A H0 H locs [(r, .inr (3, [.int (xi_ (lim : Int)), .ref v, .ref ra, .int (xi_ cnt), .int (xi_ tm)])), (v, .inl (G.2.2 1, (lim * 5), .inr (.inl (jl_ vals)))), (ra, .inl (G.2.2 0, lim, .inl (ja_ rat)))] → W p l e rm_Rw_add s m args below meth c H locs 0 0 Q (F0 m 84 ls []) := by
  have hx := F.1
  have hb := F.2.1
  intro N
  induction N with
  | zero => intro pl sd ls H locs h; omega
  | succ N ih =>
    intro pl sd ls H locs h1 hst h2 h3 h4 hl hh
    have hsr := st_rng hst
    refine lv_iload hx hb d_Rw_add_84 (lv_at hl 0 rfl) ?_
    refine xw_if_le hx hb 136 d_Rw_add_86 (by decide) (by omega) (fun c86 => ?_) (fun c86 => ?_)
    · have e : pl = pos := by omega
      rw [e] at hl
      exact kk ls H locs (lv_sub hl [1, 2] rfl) hh
    · refine lv_iload hx hb d_Rw_add_89 (lv_at hl 1 rfl) ?_
      refine lv_iload hx hb d_Rw_add_91 (lv_at hl 0 rfl) ?_
      refine xw_iadd hx hb d_Rw_add_93 ?_
      refine lv_aload_n hx hb d_Rw_add_94 rfl (lv_at hl 2 rfl) ?_
      refine xw_get F hh.1 (v := .int (xi_ cnt)) fl_Rw_21_3 0 rfl rfl d_Rw_add_95 ?_
      refine xw_icmp_gt hx hb 127 d_Rw_add_98 (by decide) (by omega) (fun c98 => ?_) (fun c98 => ?_)
      · refine lv_iload hx hb d_Rw_add_127 (lv_at hl 0 rfl) ?_
        refine lv_iconst (v := xi_ 2) hx hb d_Rw_add_129 rfl ?_
        refine xw_idiv hx hb d_Rw_add_130 (by omega) ?_
        obtain ⟨n1, n2, n3, n4⟩ := st_next hst c86
        generalize sd.tdiv 2 = s2 at n1 n2 n3 n4 ⊢
        refine lv_istore (lv' := [(13, .int (xi_ s2)), (12, .int (xi_ pl)), (0, .ref r)]) hx hb d_Rw_add_131 hl (by decide) rfl (fun ls hl => ?_)
        refine lv_goto (tgt := 84) hx hb d_Rw_add_133 (by decide) ?_
        exact ih (pl) s2 ls H locs (by omega) n1 (by omega) (by omega) (by omega) (lv_sub hl [0, 1, 2] rfl) hh
      · refine lv_aload_n hx hb d_Rw_add_101 rfl (lv_at hl 2 rfl) ?_
        refine lv_aload_n hx hb d_Rw_add_102 rfl (lv_at hl 2 rfl) ?_
        refine xw_get F hh.1 (v := .ref ra) fl_Rw_17_3 0 rfl rfl d_Rw_add_103 ?_
        refine lv_iload hx hb d_Rw_add_106 (lv_at hl 1 rfl) ?_
        refine lv_iload hx hb d_Rw_add_108 (lv_at hl 0 rfl) ?_
        refine xw_iadd hx hb d_Rw_add_110 ?_
        refine lv_iconst (v := xi_ 1) hx hb d_Rw_add_111 rfl ?_
        refine xw_isub hx hb d_Rw_add_112 ?_
        have h9 := hr9 (pl + sd - 1).toNat (by omega)
        refine xw_iald F hh.1 2 (f := rat) rfl (i := (pl + sd) - 1) (by omega) d_Rw_add_113 ?_
        refine xw_ci (wc := [(r, .inr (3, [.int (xi_ (lim : Int)), .ref v, .ref ra, .int (xi_ cnt), .int (xi_ tm)])), (v, .inl (G.2.2 1, (lim * 5), .inr (.inl (jl_ vals))))]) (wr := [(ra, .inl (G.2.2 0, lim, .inl (ja_ rat)))]) hh [0, 1] [2] rfl rfl rfl (by decide) (xw_rV F hh [0, 1] rfl rfl (c_Rw_isNewestBefore l G H.size r v ra lim cnt tm vals (rat (pl + sd - 1).toNat) (by omega) hv) trivial lk_Rw_32 cd_Rw_isNewestBefore se_Rw_isNewestBefore _ hh.1 0 rfl rfl rfl rfl ⟨by decide, by decide⟩ rfl hl.1 rfl (Nat.le_of_ble_eq_true rfl) d_Rw_add_114 ⟨Nat.le_of_ble_eq_true rfl, Nat.le_of_ble_eq_true rfl⟩) (fun z114 u H locs hp114 hX hz hk hh => ?_)
        have hh : xw_H G A H0 H locs [(r, .inr (3, [.int (xi_ (lim : Int)), .ref v, .ref ra, .int (xi_ cnt), .int (xi_ tm)])), (v, .inl (G.2.2 1, (lim * 5), .inr (.inl (jl_ vals)))), (ra, .inl (G.2.2 0, lim, .inl (ja_ rat)))] := xw_H.sub hh [1, 2, 0] rfl rfl
        obtain rfl : z114 = b2_ (r_lt (ro_ vals cnt) (ro_ vals (rat (pl + sd - 1).toNat))) := hp114
        have hz := b2_01 (r_lt (ro_ vals cnt) (ro_ vals (rat (pl + sd - 1).toNat)))
        refine xw_if_ne hx hb 127 d_Rw_add_117 (by decide) (by omega) (fun c117 => ?_) (fun c117 => ?_)
        · have h10 : pos ≤ pl + sd - 1 := Int.not_lt.mp (fun q => c117 (by rw [h9.2.2.mp (by omega)]; rfl))
          refine lv_iload hx hb d_Rw_add_127 (lv_at hl 0 rfl) ?_
          refine lv_iconst (v := xi_ 2) hx hb d_Rw_add_129 rfl ?_
          refine xw_idiv hx hb d_Rw_add_130 (by omega) ?_
          obtain ⟨n1, n2, n3, n4⟩ := st_next hst c86
          generalize sd.tdiv 2 = s2 at n1 n2 n3 n4 ⊢
          refine lv_istore (lv' := [(13, .int (xi_ s2)), (12, .int (xi_ pl)), (0, .ref r)]) hx hb d_Rw_add_131 hl (by decide) rfl (fun ls hl => ?_)
          refine lv_goto (tgt := 84) hx hb d_Rw_add_133 (by decide) ?_
          exact ih (pl) s2 ls H locs (by omega) n1 (by omega) (by omega) (by omega) (lv_sub hl [0, 1, 2] rfl) hh
        · have h10 : pl + sd - 1 < pos := by
            have h11 := h9.2.2.mpr (Bool.eq_false_iff.mpr (fun q => by rw [q] at c117; exact absurd c117 (by decide)))
            omega
          refine lv_iload hx hb d_Rw_add_120 (lv_at hl 1 rfl) ?_
          refine lv_iload hx hb d_Rw_add_122 (lv_at hl 0 rfl) ?_
          refine xw_iadd hx hb d_Rw_add_124 ?_
          refine lv_istore (lv' := [(12, .int (xi_ (pl + sd))), (13, .int (xi_ sd)), (0, .ref r)]) hx hb d_Rw_add_125 hl (by decide) rfl (fun ls hl => ?_)
          refine lv_iload hx hb d_Rw_add_127 (lv_at hl 1 rfl) ?_
          refine lv_iconst (v := xi_ 2) hx hb d_Rw_add_129 rfl ?_
          refine xw_idiv hx hb d_Rw_add_130 (by omega) ?_
          obtain ⟨n1, n2, n3, n4⟩ := st_next hst c86
          generalize sd.tdiv 2 = s2 at n1 n2 n3 n4 ⊢
          refine lv_istore (lv' := [(13, .int (xi_ s2)), (12, .int (xi_ (pl + sd))), (0, .ref r)]) hx hb d_Rw_add_131 hl (by decide) rfl (fun ls hl => ?_)
          refine lv_goto (tgt := 84) hx hb d_Rw_add_133 (by decide) ?_
          exact ih (pl + sd) s2 ls H locs (by omega) n1 (by omega) (by omega) (by omega) (lv_sub hl [0, 1, 2] rfl) hh
set_option maxHeartbeats 4000000 in
set_option maxRecDepth 100000 in
theorem c_Rw_add (l : Launch) (G : GG_) (sz : Nat) (r v ra lim : Nat) (cnt tm : Int) (vals rat : Nat → Int) (st : List Row_ × Bool) (x1 x2 x3 x4 x5 : Int) (hlim : (lim : Int) ≤ 200) (hrr : rr_ lim cnt tm vals rat st) (hx5 : (-9223372036854775808 ≤ x1 ∧ x1 ≤ 9223372036854775807) ∧ (-9223372036854775808 ≤ x2 ∧ x2 ≤ 9223372036854775807) ∧ (-9223372036854775808 ≤ x3 ∧ x3 ≤ 9223372036854775807) ∧ (-9223372036854775808 ≤ x4 ∧ x4 ≤ 9223372036854775807) ∧ (-9223372036854775808 ≤ x5 ∧ x5 ≤ 9223372036854775807)) : Met l y_Rw_add (cw_ y_Rw_add b_Rw_add 14 none) rm_Rw_add (xw_P G [.ref r, .long (xl_ x1), .long (xl_ x2), .long (xl_ x3), .long (xl_ x4), .long (xl_ x5)] sz [(r, .inr (3, [.int (xi_ (lim : Int)), .ref v, .ref ra, .int (xi_ cnt), .int (xi_ tm)])), (v, .inl (G.2.2 1, (lim * 5), .inr (.inl (jl_ vals)))), (ra, .inl (G.2.2 0, lim, .inl (ja_ rat)))] (fun _ => True)) (xw_Qv (S := Int × Int × (Nat → Int) × (Nat → Int)) G sz [(r, .inr (3, [.int (xi_ (lim : Int)), .ref v, .ref ra, .int (xi_ cnt), .int (xi_ tm)])), (v, .inl (G.2.2 1, (lim * 5), .inr (.inl (jl_ vals)))), (ra, .inl (G.2.2 0, lim, .inl (ja_ rat)))] (fun u => rr_ lim u.1 u.2.1 u.2.2.1 u.2.2.2 (a_add lim st (x1, x2, x3, x4, x5))) (fun u => [(r, .inr (3, [.int (xi_ (lim : Int)), .ref v, .ref ra, .int (xi_ u.1), .int (xi_ u.2.1)])), (v, .inl (G.2.2 1, (lim * 5), .inr (.inl (jl_ u.2.2.1)))), (ra, .inl (G.2.2 0, lim, .inl (ja_ u.2.2.2)))]) (fun _ _ => True)) 0 0 (va_A [(r, .inr (3, [.int (xi_ (lim : Int)), .ref v, .ref ra, .int (xi_ cnt), .int (xi_ tm)])), (v, .inl (G.2.2 1, (lim * 5), .inr (.inl (jl_ vals)))), (ra, .inl (G.2.2 0, lim, .inl (ja_ rat)))] sz) := by
  refine xw_met (by decide) (Nat.le_of_ble_eq_true rfl) ?_
  intro p0 e0 s m0 args below meth c0 F hr hlk hin hsz hh hX ls hl
  subst hsz
  have hx := F.1
  have hb := F.2.1
  have hl : lv_has ls 14 [(0, .ref r), (1, .long (xl_ x1)), (3, .long (xl_ x2)), (5, .long (xl_ x3)), (7, .long (xl_ x4)), (9, .long (xl_ x5))] := hl
  have h0 := hrr.1
  have h0' := hrr.2.1.2.1
  refine lv_aload_n hx hb d_Rw_add_0 rfl (lv_at hl 0 rfl) ?_
  refine xw_get F hh.1 (v := .int (xi_ cnt)) fl_Rw_21_3 0 rfl rfl d_Rw_add_1 ?_
  refine lv_aload_n hx hb d_Rw_add_4 rfl (lv_at hl 0 rfl) ?_
  refine xw_get F hh.1 (v := .int (xi_ (lim : Int))) fl_Rw_7_3 0 rfl rfl d_Rw_add_5 ?_
  refine xw_icmp_lt hx hb 17 d_Rw_add_8 (by decide) (by omega) (fun c8 => ?_) (fun c8 => ?_)
  · refine lv_aload_n hx hb d_Rw_add_17 rfl (lv_at hl 0 rfl) ?_
    refine xw_get F hh.1 (v := .int (xi_ cnt)) fl_Rw_21_3 0 rfl rfl d_Rw_add_18 ?_
    refine lv_iconst (v := xi_ 5) hx hb d_Rw_add_21 rfl ?_
    refine xw_imul hx hb d_Rw_add_22 ?_
    refine lv_istore (lv' := [(11, .int (xi_ (cnt * 5))), (0, .ref r), (1, .long (xl_ x1)), (3, .long (xl_ x2)), (5, .long (xl_ x3)), (7, .long (xl_ x4)), (9, .long (xl_ x5))]) hx hb d_Rw_add_23 hl (by decide) rfl (fun ls hl => ?_)
    refine lv_aload_n hx hb d_Rw_add_25 rfl (lv_at hl 1 rfl) ?_
    refine xw_get F hh.1 (v := .ref v) fl_Rw_13_3 0 rfl rfl d_Rw_add_26 ?_
    refine lv_iload hx hb d_Rw_add_29 (lv_at hl 0 rfl) ?_
    refine lv_lload_n hx hb d_Rw_add_31 rfl (lv_at hl 2 rfl) ?_
    refine xw_last F hh 1 (f := vals) rfl (i := cnt * 5) (x := x1) (by omega) d_Rw_add_32 (fun H locs hh => ?_)
    have hh : xw_H G (va_A [(r, .inr (3, [.int (xi_ (lim : Int)), .ref v, .ref ra, .int (xi_ cnt), .int (xi_ tm)])), (v, .inl (G.2.2 1, (lim * 5), .inr (.inl (jl_ vals)))), (ra, .inl (G.2.2 0, lim, .inl (ja_ rat)))] s.heap.size) s.heap H locs [(r, .inr (3, [.int (xi_ (lim : Int)), .ref v, .ref ra, .int (xi_ cnt), .int (xi_ tm)])), (v, .inl (G.2.2 1, (lim * 5), .inr (.inl (jl_ (va_up vals (cnt * 5).toNat x1))))), (ra, .inl (G.2.2 0, lim, .inl (ja_ rat)))] := hh
    refine lv_aload_n hx hb d_Rw_add_33 rfl (lv_at hl 1 rfl) ?_
    refine xw_get F hh.1 (v := .ref v) fl_Rw_13_3 0 rfl rfl d_Rw_add_34 ?_
    refine lv_iload hx hb d_Rw_add_37 (lv_at hl 0 rfl) ?_
    refine lv_iconst (v := xi_ 1) hx hb d_Rw_add_39 rfl ?_
    refine xw_iadd hx hb d_Rw_add_40 ?_
    refine lv_lload_n hx hb d_Rw_add_41 rfl (lv_at hl 3 rfl) ?_
    refine xw_last F hh 1 (f := va_up vals (cnt * 5).toNat x1) rfl (i := (cnt * 5) + 1) (x := x2) (by omega) d_Rw_add_42 (fun H locs hh => ?_)
    have hh : xw_H G (va_A [(r, .inr (3, [.int (xi_ (lim : Int)), .ref v, .ref ra, .int (xi_ cnt), .int (xi_ tm)])), (v, .inl (G.2.2 1, (lim * 5), .inr (.inl (jl_ vals)))), (ra, .inl (G.2.2 0, lim, .inl (ja_ rat)))] s.heap.size) s.heap H locs [(r, .inr (3, [.int (xi_ (lim : Int)), .ref v, .ref ra, .int (xi_ cnt), .int (xi_ tm)])), (v, .inl (G.2.2 1, (lim * 5), .inr (.inl (jl_ (va_up (va_up vals (cnt * 5).toNat x1) ((cnt * 5) + 1).toNat x2))))), (ra, .inl (G.2.2 0, lim, .inl (ja_ rat)))] := hh
    refine lv_aload_n hx hb d_Rw_add_43 rfl (lv_at hl 1 rfl) ?_
    refine xw_get F hh.1 (v := .ref v) fl_Rw_13_3 0 rfl rfl d_Rw_add_44 ?_
    refine lv_iload hx hb d_Rw_add_47 (lv_at hl 0 rfl) ?_
    refine lv_iconst (v := xi_ 2) hx hb d_Rw_add_49 rfl ?_
    refine xw_iadd hx hb d_Rw_add_50 ?_
    refine lv_lload hx hb d_Rw_add_51 (lv_at hl 4 rfl) ?_
    refine xw_last F hh 1 (f := va_up (va_up vals (cnt * 5).toNat x1) ((cnt * 5) + 1).toNat x2) rfl (i := (cnt * 5) + 2) (x := x3) (by omega) d_Rw_add_53 (fun H locs hh => ?_)
    have hh : xw_H G (va_A [(r, .inr (3, [.int (xi_ (lim : Int)), .ref v, .ref ra, .int (xi_ cnt), .int (xi_ tm)])), (v, .inl (G.2.2 1, (lim * 5), .inr (.inl (jl_ vals)))), (ra, .inl (G.2.2 0, lim, .inl (ja_ rat)))] s.heap.size) s.heap H locs [(r, .inr (3, [.int (xi_ (lim : Int)), .ref v, .ref ra, .int (xi_ cnt), .int (xi_ tm)])), (v, .inl (G.2.2 1, (lim * 5), .inr (.inl (jl_ (va_up (va_up (va_up vals (cnt * 5).toNat x1) ((cnt * 5) + 1).toNat x2) ((cnt * 5) + 2).toNat x3))))), (ra, .inl (G.2.2 0, lim, .inl (ja_ rat)))] := hh
    refine lv_aload_n hx hb d_Rw_add_54 rfl (lv_at hl 1 rfl) ?_
    refine xw_get F hh.1 (v := .ref v) fl_Rw_13_3 0 rfl rfl d_Rw_add_55 ?_
    refine lv_iload hx hb d_Rw_add_58 (lv_at hl 0 rfl) ?_
    refine lv_iconst (v := xi_ 3) hx hb d_Rw_add_60 rfl ?_
    refine xw_iadd hx hb d_Rw_add_61 ?_
    refine lv_lload hx hb d_Rw_add_62 (lv_at hl 5 rfl) ?_
    refine xw_last F hh 1 (f := va_up (va_up (va_up vals (cnt * 5).toNat x1) ((cnt * 5) + 1).toNat x2) ((cnt * 5) + 2).toNat x3) rfl (i := (cnt * 5) + 3) (x := x4) (by omega) d_Rw_add_64 (fun H locs hh => ?_)
    have hh : xw_H G (va_A [(r, .inr (3, [.int (xi_ (lim : Int)), .ref v, .ref ra, .int (xi_ cnt), .int (xi_ tm)])), (v, .inl (G.2.2 1, (lim * 5), .inr (.inl (jl_ vals)))), (ra, .inl (G.2.2 0, lim, .inl (ja_ rat)))] s.heap.size) s.heap H locs [(r, .inr (3, [.int (xi_ (lim : Int)), .ref v, .ref ra, .int (xi_ cnt), .int (xi_ tm)])), (v, .inl (G.2.2 1, (lim * 5), .inr (.inl (jl_ (va_up (va_up (va_up (va_up vals (cnt * 5).toNat x1) ((cnt * 5) + 1).toNat x2) ((cnt * 5) + 2).toNat x3) ((cnt * 5) + 3).toNat x4))))), (ra, .inl (G.2.2 0, lim, .inl (ja_ rat)))] := hh
    refine lv_aload_n hx hb d_Rw_add_65 rfl (lv_at hl 1 rfl) ?_
    refine xw_get F hh.1 (v := .ref v) fl_Rw_13_3 0 rfl rfl d_Rw_add_66 ?_
    refine lv_iload hx hb d_Rw_add_69 (lv_at hl 0 rfl) ?_
    refine lv_iconst (v := xi_ 4) hx hb d_Rw_add_71 rfl ?_
    refine xw_iadd hx hb d_Rw_add_72 ?_
    refine lv_lload hx hb d_Rw_add_73 (lv_at hl 6 rfl) ?_
    refine xw_last F hh 1 (f := va_up (va_up (va_up (va_up vals (cnt * 5).toNat x1) ((cnt * 5) + 1).toNat x2) ((cnt * 5) + 2).toNat x3) ((cnt * 5) + 3).toNat x4) rfl (i := (cnt * 5) + 4) (x := x5) (by omega) d_Rw_add_75 (fun H locs hh => ?_)
    have hh : xw_H G (va_A [(r, .inr (3, [.int (xi_ (lim : Int)), .ref v, .ref ra, .int (xi_ cnt), .int (xi_ tm)])), (v, .inl (G.2.2 1, (lim * 5), .inr (.inl (jl_ vals)))), (ra, .inl (G.2.2 0, lim, .inl (ja_ rat)))] s.heap.size) s.heap H locs [(r, .inr (3, [.int (xi_ (lim : Int)), .ref v, .ref ra, .int (xi_ cnt), .int (xi_ tm)])), (v, .inl (G.2.2 1, (lim * 5), .inr (.inl (jl_ (va_up (va_up (va_up (va_up (va_up vals (cnt * 5).toNat x1) ((cnt * 5) + 1).toNat x2) ((cnt * 5) + 2).toNat x3) ((cnt * 5) + 3).toNat x4) ((cnt * 5) + 4).toNat x5))))), (ra, .inl (G.2.2 0, lim, .inl (ja_ rat)))] := hh
    refine lv_iconst (v := xi_ 0) hx hb d_Rw_add_76 rfl ?_
    refine lv_istore (lv' := [(12, .int (xi_ 0)), (11, .int (xi_ (cnt * 5))), (0, .ref r), (1, .long (xl_ x1)), (3, .long (xl_ x2)), (5, .long (xl_ x3)), (7, .long (xl_ x4)), (9, .long (xl_ x5))]) hx hb d_Rw_add_77 hl (by decide) rfl (fun ls hl => ?_)
    refine lv_sipush (v := xi_ 128) hx hb d_Rw_add_79 (by decide) ?_
    refine lv_istore (lv' := [(13, .int (xi_ 128)), (12, .int (xi_ 0)), (11, .int (xi_ (cnt * 5))), (0, .ref r), (1, .long (xl_ x1)), (3, .long (xl_ x2)), (5, .long (xl_ x3)), (7, .long (xl_ x4)), (9, .long (xl_ x5))]) hx hb d_Rw_add_82 hl (by decide) rfl (fun ls hl => ?_)
    have hple := r_pos_le (x1, x2, x3, x4, x5) st.1
    have hh : xw_H G (va_A [(r, .inr (3, [.int (xi_ (lim : Int)), .ref v, .ref ra, .int (xi_ cnt), .int (xi_ tm)])), (v, .inl (G.2.2 1, (lim * 5), .inr (.inl (jl_ vals)))), (ra, .inl (G.2.2 0, lim, .inl (ja_ rat)))] s.heap.size) s.heap H locs [(r, .inr (3, [.int (xi_ (lim : Int)), .ref v, .ref ra, .int (xi_ cnt), .int (xi_ tm)])), (v, .inl (G.2.2 1, (lim * 5), .inr (.inl (jl_ (up5_ vals cnt x1 x2 x3 x4 x5))))), (ra, .inl (G.2.2 0, lim, .inl (ja_ rat)))] := hh
    refine lp_Rw_add F r v ra lim cnt tm (up5_ vals cnt x1 x2 x3 x4 x5) rat (r_pos (x1, x2, x3, x4, x5) st.1 : Int) (by omega) (up5_rng hrr.2.2.2.2 hx5) (rr_place hrr x1 x2 x3 x4 x5) (fun ls H locs hl hh => ?_) 129 0 128 ls H locs (by decide) (Or.inl rfl) (by omega) (by omega) (Or.inl (by omega)) (lv_sub hl [0, 1, 3] rfl) hh
    have hl : lv_has ls 14 [(12, .int (xi_ (r_pos (x1, x2, x3, x4, x5) st.1 : Int))), (0, .ref r)] := hl
    refine lv_aload_n hx hb d_Rw_add_136 rfl (lv_at hl 1 rfl) ?_
    refine xw_get F hh.1 (v := .ref ra) fl_Rw_17_3 0 rfl rfl d_Rw_add_137 ?_
    refine lv_iload hx hb d_Rw_add_140 (lv_at hl 0 rfl) ?_
    refine lv_aload_n hx hb d_Rw_add_142 rfl (lv_at hl 1 rfl) ?_
    refine xw_get F hh.1 (v := .ref ra) fl_Rw_17_3 0 rfl rfl d_Rw_add_143 ?_
    refine lv_iload hx hb d_Rw_add_146 (lv_at hl 0 rfl) ?_
    refine lv_iconst (v := xi_ 1) hx hb d_Rw_add_148 rfl ?_
    refine xw_iadd hx hb d_Rw_add_149 ?_
    refine lv_aload_n hx hb d_Rw_add_150 rfl (lv_at hl 1 rfl) ?_
    refine xw_get F hh.1 (v := .int (xi_ cnt)) fl_Rw_21_3 0 rfl rfl d_Rw_add_151 ?_
    refine lv_iload hx hb d_Rw_add_154 (lv_at hl 0 rfl) ?_
    refine xw_isub hx hb d_Rw_add_156 ?_
    refine xw_acopy F hh hl.1 lk_Rw_35' 2 (f := rat) rfl (sp := (r_pos (x1, x2, x3, x4, x5) st.1 : Int)) (dp := (r_pos (x1, x2, x3, x4, x5) st.1 : Int) + 1) (k := cnt - (r_pos (x1, x2, x3, x4, x5) st.1 : Int)) (by omega) (by decide) (Nat.le_of_ble_eq_true rfl) d_Rw_add_157 (fun H locs hh => ?_)
    have hh : xw_H G (va_A [(r, .inr (3, [.int (xi_ (lim : Int)), .ref v, .ref ra, .int (xi_ cnt), .int (xi_ tm)])), (v, .inl (G.2.2 1, (lim * 5), .inr (.inl (jl_ vals)))), (ra, .inl (G.2.2 0, lim, .inl (ja_ rat)))] s.heap.size) s.heap H locs [(r, .inr (3, [.int (xi_ (lim : Int)), .ref v, .ref ra, .int (xi_ cnt), .int (xi_ tm)])), (v, .inl (G.2.2 1, (lim * 5), .inr (.inl (jl_ (up5_ vals cnt x1 x2 x3 x4 x5))))), (ra, .inl (G.2.2 0, lim, .inl (ja_ (va_cpy rat rat ((r_pos (x1, x2, x3, x4, x5) st.1 : Int)).toNat ((r_pos (x1, x2, x3, x4, x5) st.1 : Int) + 1).toNat (cnt - (r_pos (x1, x2, x3, x4, x5) st.1 : Int)).toNat))))] := hh
    refine lv_aload_n hx hb d_Rw_add_160 rfl (lv_at hl 1 rfl) ?_
    refine xw_get F hh.1 (v := .ref ra) fl_Rw_17_3 0 rfl rfl d_Rw_add_161 ?_
    refine lv_iload hx hb d_Rw_add_164 (lv_at hl 0 rfl) ?_
    refine lv_aload_n hx hb d_Rw_add_166 rfl (lv_at hl 1 rfl) ?_
    refine xw_get F hh.1 (v := .int (xi_ cnt)) fl_Rw_21_3 0 rfl rfl d_Rw_add_167 ?_
    refine xw_iast F hh 2 (f := va_cpy rat rat ((r_pos (x1, x2, x3, x4, x5) st.1 : Int)).toNat ((r_pos (x1, x2, x3, x4, x5) st.1 : Int) + 1).toNat (cnt - (r_pos (x1, x2, x3, x4, x5) st.1 : Int)).toNat) rfl (i := (r_pos (x1, x2, x3, x4, x5) st.1 : Int)) (x := cnt) (by omega) d_Rw_add_170 (fun H locs hh => ?_)
    have hh : xw_H G (va_A [(r, .inr (3, [.int (xi_ (lim : Int)), .ref v, .ref ra, .int (xi_ cnt), .int (xi_ tm)])), (v, .inl (G.2.2 1, (lim * 5), .inr (.inl (jl_ vals)))), (ra, .inl (G.2.2 0, lim, .inl (ja_ rat)))] s.heap.size) s.heap H locs [(r, .inr (3, [.int (xi_ (lim : Int)), .ref v, .ref ra, .int (xi_ cnt), .int (xi_ tm)])), (v, .inl (G.2.2 1, (lim * 5), .inr (.inl (jl_ (up5_ vals cnt x1 x2 x3 x4 x5))))), (ra, .inl (G.2.2 0, lim, .inl (ja_ (va_up (va_cpy rat rat ((r_pos (x1, x2, x3, x4, x5) st.1 : Int)).toNat ((r_pos (x1, x2, x3, x4, x5) st.1 : Int) + 1).toNat (cnt - (r_pos (x1, x2, x3, x4, x5) st.1 : Int)).toNat) ((r_pos (x1, x2, x3, x4, x5) st.1 : Int)).toNat cnt))))] := hh
    refine lv_aload_n hx hb d_Rw_add_171 rfl (lv_at hl 1 rfl) ?_
    refine lv_dup hx hb d_Rw_add_172 rfl ?_
    refine xw_get F hh.1 (v := .int (xi_ cnt)) fl_Rw_21_3 0 rfl rfl d_Rw_add_173 ?_
    refine lv_iconst (v := xi_ 1) hx hb d_Rw_add_176 rfl ?_
    refine xw_iadd hx hb d_Rw_add_177 ?_
    refine xw_put F hh fp_Rw_21_3 0 rfl rfl rfl (Nat.le_of_ble_eq_true rfl) d_Rw_add_178 (fun H locs hh => ?_)
    have hh : xw_H G (va_A [(r, .inr (3, [.int (xi_ (lim : Int)), .ref v, .ref ra, .int (xi_ cnt), .int (xi_ tm)])), (v, .inl (G.2.2 1, (lim * 5), .inr (.inl (jl_ vals)))), (ra, .inl (G.2.2 0, lim, .inl (ja_ rat)))] s.heap.size) s.heap H locs [(r, .inr (3, [.int (xi_ (lim : Int)), .ref v, .ref ra, .int (xi_ (cnt + 1)), .int (xi_ tm)])), (v, .inl (G.2.2 1, (lim * 5), .inr (.inl (jl_ (up5_ vals cnt x1 x2 x3 x4 x5))))), (ra, .inl (G.2.2 0, lim, .inl (ja_ (va_up (va_cpy rat rat ((r_pos (x1, x2, x3, x4, x5) st.1 : Int)).toNat ((r_pos (x1, x2, x3, x4, x5) st.1 : Int) + 1).toNat (cnt - (r_pos (x1, x2, x3, x4, x5) st.1 : Int)).toNat) ((r_pos (x1, x2, x3, x4, x5) st.1 : Int)).toNat cnt))))] := hh
    exact xw_vret F hr hlk hh (cnt + 1, tm, (up5_ vals cnt x1 x2 x3 x4 x5), va_up (va_cpy rat rat ((r_pos (x1, x2, x3, x4, x5) st.1 : Int)).toNat ((r_pos (x1, x2, x3, x4, x5) st.1 : Int) + 1).toNat (cnt - (r_pos (x1, x2, x3, x4, x5) st.1 : Int)).toNat) ((r_pos (x1, x2, x3, x4, x5) st.1 : Int)).toNat cnt) rfl (rr_add hrr (by omega) hx5 rfl) trivial d_Rw_add_181
  · refine lv_aload_n hx hb d_Rw_add_11 rfl (lv_at hl 0 rfl) ?_
    refine lv_iconst (v := xi_ 1) hx hb d_Rw_add_12 rfl ?_
    refine xw_put F hh fp_Rw_24_3 0 rfl (by decide) (by decide) (Nat.le_of_ble_eq_true rfl) d_Rw_add_13 (fun H locs hh => ?_)
    have hh : xw_H G (va_A [(r, .inr (3, [.int (xi_ (lim : Int)), .ref v, .ref ra, .int (xi_ cnt), .int (xi_ tm)])), (v, .inl (G.2.2 1, (lim * 5), .inr (.inl (jl_ vals)))), (ra, .inl (G.2.2 0, lim, .inl (ja_ rat)))] s.heap.size) s.heap H locs [(r, .inr (3, [.int (xi_ (lim : Int)), .ref v, .ref ra, .int (xi_ cnt), .int (xi_ 1)])), (v, .inl (G.2.2 1, (lim * 5), .inr (.inl (jl_ vals)))), (ra, .inl (G.2.2 0, lim, .inl (ja_ rat)))] := hh
    exact xw_vret F hr hlk hh (cnt, 1, vals, rat) rfl (rr_full hrr (by omega) _) trivial d_Rw_add_16
