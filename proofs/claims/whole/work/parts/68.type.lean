/-! the model: type -/
def rm_M_type : Room := { frames := 0, cells := 0, slots := 0, locals := 0 }
set_option maxHeartbeats 4000000 in
set_option maxRecDepth 100000 in
theorem lp_M_type {p0 : Program} {l : Launch} {e0 : Env} {s : State} {m0 : MethodId} {args : Array Value} {below : List Frame} {meth : Method} {c0 : Code} {Q : State → Prop} {G : GG_} {A : Nat → Prop} {H0 : Heap} (F : xw_F p0 s m0 args c0 b_M_type 7 R_M G) (mo : Nat) (ma : Nat → Nat) (at0 dp wy un pl sp pe tk du tm : Int) (bf : Nat → Int) (len : Nat) (ch : Int) (n : Nat) (hn : 1 ≤ n ∧ n ≤ 8)
    (kt : ∀ (fl : Int) (ls : Array Slot) (H : Heap) (locs : List Loc), fl = b2_ (ty_ok ch n) → lv_has ls 7 [(4, .int (xi_ fl)), (0, .ref mo), (1, .long (xl_ ch)), (3, .int (xi_ (n : Int)))] → xw_H G A H0 H locs [(mo, .inr (6, mo_ ma (len : Int) at0 dp wy un pl sp pe tk du tm)), (ma 1, .inl (G.2.2 0, 40, .inl (ja_ bf)))] → W p0 l e0 rm_M_type s m0 args below meth c0 H locs 0 0 Q (F0 m0 73 ls [])) :
    ∀ (N : Nat) (i fl : Int) (j : Nat) (ls : Array Slot) (H : Heap) (locs : List Loc), n - j < N → i = (j : Int) → j ≤ n → fl = b2_ (ty_ok ch j) → lv_has ls 7 [(5, .int (xi_ i)), (4, .int (xi_ fl)), (0, .ref mo), (1, .long (xl_ ch)), (3, .int (xi_ (n : Int)))] → xw_H G A H0 H locs [(mo, .inr (6, mo_ ma (len : Int) at0 dp wy un pl sp pe tk du tm)), (ma 1, .inl (G.2.2 0, 40, .inl (ja_ bf)))] → W p0 l e0 rm_M_type s m0 args below meth c0 H locs 0 0 Q (F0 m0 21 ls []) := by
  have hx := F.1
  have hb := F.2.1
  intro N
  induction N with
  | zero => intro i fl j ls H locs h; omega
  | succ N ihn =>
    intro i fl j ls H locs hN1 hi hj hfl hl hh
    have hfb := b2_01 (ty_ok ch j)
    refine lv_iload hx hb d_M_type_21 (lv_at hl 0 rfl) ?_
    refine lv_iload_n hx hb d_M_type_23 rfl (lv_at hl 4 rfl) ?_
    refine xw_icmp_ge hx hb 73 d_M_type_24 (by decide) (by omega) (fun c24 => ?_) (fun c24 => ?_)
    · have ejn : j = n := by omega
      rw [ejn] at hfl
      exact kt fl ls H locs hfl (lv_sub hl [1, 2, 3, 4] rfl) hh
    · refine lv_iload hx hb d_M_type_27 (lv_at hl 1 rfl) ?_
      refine xw_if_eq hx hb 73 d_M_type_29 (by decide) (by omega) (fun c29 => ?_) (fun c29 => ?_)
      · have hf9 : ty_ok ch n = false := by
          cases hq : ty_ok ch n with
          | false => rfl
          | true =>
            rw [ty_mono hj hq] at hfl
            rw [hfl] at c29
            exact absurd c29 (by decide)
        have hf8 : ty_ok ch j = false := b2_e0 (hfl.symm.trans c29)
        rw [hf8, ← hf9] at hfl
        exact kt fl ls H locs hfl (lv_sub hl [1, 2, 3, 4] rfl) hh
      · refine lv_lload_n hx hb d_M_type_32 rfl (lv_at hl 3 rfl) ?_
        refine lv_bipush (v := xi_ 8) hx hb d_M_type_33 (by decide) ?_
        refine lv_iload hx hb d_M_type_35 (lv_at hl 0 rfl) ?_
        refine xw_imul hx hb d_M_type_37 ?_
        refine lv_lshr hx hb d_M_type_38 rfl ?_
        refine lv_ldc2 (v := xl_ 255) hx hb F.2.2.2.1 (F.2.2.2.2.1 _ k_M_118) d_M_type_39 ?_
        refine lv_land hx hb d_M_type_42 ?_
        rw [by_eq (by omega)]
        have hby := by_rng ch i
        refine xw_l2i (a := by_ ch i) hx hb d_M_type_43 ?_
        refine lv_istore (lv' := [(6, .int (xi_ (by_ ch i))), (5, .int (xi_ i)), (4, .int (xi_ fl)), (0, .ref mo), (1, .long (xl_ ch)), (3, .int (xi_ (n : Int)))]) hx hb d_M_type_44 hl (by decide) rfl (fun ls hl => ?_)
        refine lv_iload hx hb d_M_type_46 (lv_at hl 0 rfl) ?_
        refine lv_bipush (v := xi_ 33) hx hb d_M_type_48 (by decide) ?_
        refine xw_icmp_lt hx hb 64 d_M_type_50 (by decide) (by omega) (fun c50 => ?_) (fun c50 => ?_)
        · refine lv_iconst (v := xi_ 0) hx hb d_M_type_64 rfl ?_
          refine lv_istore (lv' := [(4, .int (xi_ 0)), (6, .int (xi_ (by_ ch i))), (5, .int (xi_ i)), (0, .ref mo), (1, .long (xl_ ch)), (3, .int (xi_ (n : Int)))]) hx hb d_M_type_65 hl (by decide) rfl (fun ls hl => ?_)
          refine lv_iinc (k := 2) (v := xi_ (i + 1)) (lv' := [(5, .int (xi_ (i + 1))), (4, .int (xi_ 0)), (6, .int (xi_ (by_ ch i))), (0, .ref mo), (1, .long (xl_ ch)), (3, .int (xi_ (n : Int)))]) hx hb d_M_type_67 hl rfl (xi_add _ _).symm (by decide) rfl (fun ls hl => ?_)
          refine lv_goto (tgt := 21) hx hb d_M_type_70 (by decide) ?_
          have hok : ty_ok ch j = true := b2_ne (fun q => c29 (hfl.trans q))
          refine ihn (i + 1) 0 (j + 1) ls H locs (by omega) (by omega) (by omega) ?_ (lv_sub hl [0, 1, 3, 4, 5] rfl) hh
          rw [ty_s, hok, ← hi]
          exact b2_f (decide_eq_false (by omega))
        · refine lv_iload hx hb d_M_type_53 (lv_at hl 0 rfl) ?_
          refine lv_bipush (v := xi_ 126) hx hb d_M_type_55 (by decide) ?_
          refine xw_icmp_gt hx hb 64 d_M_type_57 (by decide) (by omega) (fun c57 => ?_) (fun c57 => ?_)
          · refine lv_iconst (v := xi_ 0) hx hb d_M_type_64 rfl ?_
            refine lv_istore (lv' := [(4, .int (xi_ 0)), (6, .int (xi_ (by_ ch i))), (5, .int (xi_ i)), (0, .ref mo), (1, .long (xl_ ch)), (3, .int (xi_ (n : Int)))]) hx hb d_M_type_65 hl (by decide) rfl (fun ls hl => ?_)
            refine lv_iinc (k := 2) (v := xi_ (i + 1)) (lv' := [(5, .int (xi_ (i + 1))), (4, .int (xi_ 0)), (6, .int (xi_ (by_ ch i))), (0, .ref mo), (1, .long (xl_ ch)), (3, .int (xi_ (n : Int)))]) hx hb d_M_type_67 hl rfl (xi_add _ _).symm (by decide) rfl (fun ls hl => ?_)
            refine lv_goto (tgt := 21) hx hb d_M_type_70 (by decide) ?_
            have hok : ty_ok ch j = true := b2_ne (fun q => c29 (hfl.trans q))
            refine ihn (i + 1) 0 (j + 1) ls H locs (by omega) (by omega) (by omega) ?_ (lv_sub hl [0, 1, 3, 4, 5] rfl) hh
            rw [ty_s, hok, ← hi]
            exact b2_f (decide_eq_false (by omega))
          · refine lv_iconst (v := xi_ 1) hx hb d_M_type_60 rfl ?_
            refine lv_goto (tgt := 65) hx hb d_M_type_61 (by decide) ?_
            refine lv_istore (lv' := [(4, .int (xi_ 1)), (6, .int (xi_ (by_ ch i))), (5, .int (xi_ i)), (0, .ref mo), (1, .long (xl_ ch)), (3, .int (xi_ (n : Int)))]) hx hb d_M_type_65 hl (by decide) rfl (fun ls hl => ?_)
            refine lv_iinc (k := 2) (v := xi_ (i + 1)) (lv' := [(5, .int (xi_ (i + 1))), (4, .int (xi_ 1)), (6, .int (xi_ (by_ ch i))), (0, .ref mo), (1, .long (xl_ ch)), (3, .int (xi_ (n : Int)))]) hx hb d_M_type_67 hl rfl (xi_add _ _).symm (by decide) rfl (fun ls hl => ?_)
            refine lv_goto (tgt := 21) hx hb d_M_type_70 (by decide) ?_
            have hok : ty_ok ch j = true := b2_ne (fun q => c29 (hfl.trans q))
            refine ihn (i + 1) 1 (j + 1) ls H locs (by omega) (by omega) (by omega) ?_ (lv_sub hl [0, 1, 3, 4, 5] rfl) hh
            rw [ty_s, hok, ← hi]
            exact b2_t (decide_eq_true (by omega))
set_option maxHeartbeats 4000000 in
set_option maxRecDepth 100000 in
theorem lp_M_type2 {p0 : Program} {l : Launch} {e0 : Env} {s : State} {m0 : MethodId} {args : Array Value} {below : List Frame} {meth : Method} {c0 : Code} {Q : State → Prop} {G : GG_} {A : Nat → Prop} {H0 : Heap} (F : xw_F p0 s m0 args c0 b_M_type 7 R_M G) (mo : Nat) (ma : Nat → Nat) (at0 dp wy un pl sp pe tk du tm : Int) (bf : Nat → Int) (len : Nat) (ch : Int) (n : Nat) (hn : n ≤ 8) (hlen : len + n ≤ 40)
    (kt : ∀ (ls : Array Slot) (H : Heap) (locs : List Loc), lv_has ls 7 [(0, .ref mo)] → xw_H G A H0 H locs [(mo, .inr (6, mo_ ma ((len + n : Nat) : Int) at0 dp wy un pl sp pe tk du tm)), (ma 1, .inl (G.2.2 0, 40, .inl (ja_ (tx_app bf len ch n n))))] → W p0 l e0 rm_M_type s m0 args below meth c0 H locs 0 0 Q (F0 m0 141 ls [])) :
    ∀ (N : Nat) (i lz : Int) (m : Nat) (ls : Array Slot) (H : Heap) (locs : List Loc), n - m < N → i = (n : Int) - 1 - (m : Int) → lz = ((len + m : Nat) : Int) → m ≤ n → lv_has ls 7 [(5, .int (xi_ i)), (0, .ref mo), (1, .long (xl_ ch)), (3, .int (xi_ (n : Int)))] → xw_H G A H0 H locs [(mo, .inr (6, mo_ ma lz at0 dp wy un pl sp pe tk du tm)), (ma 1, .inl (G.2.2 0, 40, .inl (ja_ (tx_app bf len ch n m))))] → W p0 l e0 rm_M_type s m0 args below meth c0 H locs 0 0 Q (F0 m0 99 ls []) := by
  have hx := F.1
  have hb := F.2.1
  intro N
  induction N with
  | zero => intro i lz m ls H locs h; omega
  | succ N ihn =>
    intro i lz m ls H locs hN1 hi hlz hm hl hh
    refine lv_iload hx hb d_M_type_99 (lv_at hl 0 rfl) ?_
    refine xw_if_lt hx hb 141 d_M_type_101 (by decide) (by omega) (fun c101 => ?_) (fun c101 => ?_)
    · obtain rfl : m = n := by omega
      subst hlz
      exact kt ls H locs (lv_sub hl [1] rfl) hh
    · refine lv_aload_n hx hb d_M_type_104 rfl (lv_at hl 1 rfl) ?_
      refine xw_get F hh.1 (v := .ref (ma 1)) fl_M_7_6 0 rfl rfl d_M_type_105 ?_
      refine lv_aload_n hx hb d_M_type_108 rfl (lv_at hl 1 rfl) ?_
      refine xw_get F hh.1 (v := .int (xi_ lz)) fl_M_120_6 0 rfl rfl d_M_type_109 ?_
      refine lv_lload_n hx hb d_M_type_112 rfl (lv_at hl 2 rfl) ?_
      refine lv_bipush (v := xi_ 8) hx hb d_M_type_113 (by decide) ?_
      refine lv_iload hx hb d_M_type_115 (lv_at hl 0 rfl) ?_
      refine xw_imul hx hb d_M_type_117 ?_
      refine lv_lshr hx hb d_M_type_118 rfl ?_
      refine lv_ldc2 (v := xl_ 255) hx hb F.2.2.2.1 (F.2.2.2.2.1 _ k_M_118) d_M_type_119 ?_
      refine lv_land hx hb d_M_type_122 ?_
      rw [by_eq (by omega)]
      have hby := by_rng ch i
      refine xw_l2i (a := by_ ch i) hx hb d_M_type_123 ?_
      refine xw_iast F hh 1 (f := tx_app bf len ch n m) rfl (i := lz) (x := by_ ch i) (by omega) d_M_type_124 (fun H locs hh => ?_)
      have hh : xw_H G A H0 H locs [(mo, .inr (6, mo_ ma lz at0 dp wy un pl sp pe tk du tm)), (ma 1, .inl (G.2.2 0, 40, .inl (ja_ (va_up (tx_app bf len ch n m) (lz).toNat (by_ ch i)))))] := hh
      refine lv_aload_n hx hb d_M_type_125 rfl (lv_at hl 1 rfl) ?_
      refine lv_dup hx hb d_M_type_126 rfl ?_
      refine xw_get F hh.1 (v := .int (xi_ lz)) fl_M_120_6 0 rfl rfl d_M_type_127 ?_
      refine lv_iconst (v := xi_ 1) hx hb d_M_type_130 rfl ?_
      refine xw_iadd hx hb d_M_type_131 ?_
      refine xw_put F hh fp_M_120_6 0 rfl rfl rfl (Nat.le_of_ble_eq_true rfl) d_M_type_132 (fun H locs hh => ?_)
      have hh : xw_H G A H0 H locs [(mo, .inr (6, mo_ ma (lz + 1) at0 dp wy un pl sp pe tk du tm)), (ma 1, .inl (G.2.2 0, 40, .inl (ja_ (va_up (tx_app bf len ch n m) (lz).toNat (by_ ch i)))))] := hh
      refine lv_iinc (k := 0) (v := xi_ (i + (-1))) (lv' := [(5, .int (xi_ (i + (-1)))), (0, .ref mo), (1, .long (xl_ ch)), (3, .int (xi_ (n : Int)))]) hx hb d_M_type_135 hl rfl (xi_add _ _).symm (by decide) rfl (fun ls hl => ?_)
      refine lv_goto (tgt := 99) hx hb d_M_type_138 (by decide) ?_
      have eU : va_up (tx_app bf len ch n m) lz.toNat (by_ ch i) = tx_app bf len ch n (m + 1) := by
        rw [← tx_app_s, hi, show lz.toNat = len + m by omega]
      rw [eU] at hh
      exact ihn (i + (-1)) (lz + 1) (m + 1) ls H locs (by omega) (by omega) (by omega) (by omega) (lv_sub hl [0, 1, 2, 3] rfl) hh
set_option maxHeartbeats 4000000 in
set_option maxRecDepth 100000 in
theorem c_M_type (l : Launch) (G : GG_) (sz : Nat) (mo : Nat) (ma : Nat → Nat) (at0 dp wy un pl sp pe tk du tm : Int) (bf : Nat → Int) (len : Nat) (ch n : Int) (hn : (-2147483648 ≤ n ∧ n ≤ 2147483647)) (hlen : len ≤ 40) : Met l y_M_type (cw_ y_M_type b_M_type 7 (some .int)) rm_M_type (xw_P G [.ref mo, .long (xl_ ch), .int (xi_ n)] sz [(mo, .inr (6, mo_ ma (len : Int) at0 dp wy un pl sp pe tk du tm)), (ma 1, .inl (G.2.2 0, 40, .inl (ja_ bf)))] (fun _ => True)) (xw_Qi (S := Nat × (Nat → Int)) G sz [(mo, .inr (6, mo_ ma (len : Int) at0 dp wy un pl sp pe tk du tm)), (ma 1, .inl (G.2.2 0, 40, .inl (ja_ bf)))] (fun z u => (z, u) = ty_ans bf len ch n) (fun u => [(mo, .inr (6, mo_ ma (u.1 : Int) at0 dp wy un pl sp pe tk du tm)), (ma 1, .inl (G.2.2 0, 40, .inl (ja_ u.2)))]) (fun _ _ => True)) 0 0 (va_A [(mo, .inr (6, mo_ ma (len : Int) at0 dp wy un pl sp pe tk du tm)), (ma 1, .inl (G.2.2 0, 40, .inl (ja_ bf)))] sz) := by
  refine xw_met (by decide) (Nat.le_of_ble_eq_true rfl) ?_
  intro p0 e0 s m0 args below meth c0 F hr hlk hin hsz hh hX ls hl
  subst hsz
  have hx := F.1
  have hb := F.2.1
  have hl : lv_has ls 7 [(0, .ref mo), (1, .long (xl_ ch)), (3, .int (xi_ n))] := hl
  refine lv_iload_n hx hb d_M_type_0 rfl (lv_at hl 2 rfl) ?_
  refine lv_iconst (v := xi_ 1) hx hb d_M_type_1 rfl ?_
  refine xw_icmp_lt hx hb 15 d_M_type_2 (by decide) (by omega) (fun c2 => ?_) (fun c2 => ?_)
  · refine lv_iconst (v := xi_ 0) hx hb d_M_type_15 rfl ?_
    refine lv_istore (lv' := [(4, .int (xi_ 0)), (0, .ref mo), (1, .long (xl_ ch)), (3, .int (xi_ n))]) hx hb d_M_type_16 hl (by decide) rfl (fun ls hl => ?_)
    refine lv_iconst (v := xi_ 0) hx hb d_M_type_18 rfl ?_
    refine lv_istore (lv' := [(5, .int (xi_ 0)), (4, .int (xi_ 0)), (0, .ref mo), (1, .long (xl_ ch)), (3, .int (xi_ n))]) hx hb d_M_type_19 hl (by decide) rfl (fun ls hl => ?_)
    refine lv_iload hx hb d_M_type_21 (lv_at hl 0 rfl) ?_
    refine lv_iload_n hx hb d_M_type_23 rfl (lv_at hl 4 rfl) ?_
    refine xw_icmp_ge hx hb 73 d_M_type_24 (by decide) (by omega) (fun c24 => ?_) (fun c24 => ?_)
    · refine lv_iload hx hb d_M_type_73 (lv_at hl 1 rfl) ?_
      refine xw_if_ne hx hb 80 d_M_type_75 (by decide) (by decide) (fun c75 => absurd c75 (by decide)) (fun c75 => ?_)
      refine lv_iconst (v := xi_ (-1)) hx hb d_M_type_78 rfl ?_
      exact xw_iret F hr hlk hh rfl (len, bf) rfl (by
        unfold ty_ans
        rw [if_neg (fun q => by omega)]) trivial d_M_type_79
    · refine lv_iload hx hb d_M_type_27 (lv_at hl 1 rfl) ?_
      refine xw_if_eq hx hb 73 d_M_type_29 (by decide) (by decide) (fun c29 => ?_) (fun c29 => absurd c29 (by decide))
      refine lv_iload hx hb d_M_type_73 (lv_at hl 1 rfl) ?_
      refine xw_if_ne hx hb 80 d_M_type_75 (by decide) (by decide) (fun c75 => absurd c75 (by decide)) (fun c75 => ?_)
      refine lv_iconst (v := xi_ (-1)) hx hb d_M_type_78 rfl ?_
      exact xw_iret F hr hlk hh rfl (len, bf) rfl (by
        unfold ty_ans
        rw [if_neg (fun q => by omega)]) trivial d_M_type_79
  · refine lv_iload_n hx hb d_M_type_5 rfl (lv_at hl 2 rfl) ?_
    refine lv_bipush (v := xi_ 8) hx hb d_M_type_6 (by decide) ?_
    refine xw_icmp_gt hx hb 15 d_M_type_8 (by decide) (by omega) (fun c8 => ?_) (fun c8 => ?_)
    · refine lv_iconst (v := xi_ 0) hx hb d_M_type_15 rfl ?_
      refine lv_istore (lv' := [(4, .int (xi_ 0)), (0, .ref mo), (1, .long (xl_ ch)), (3, .int (xi_ n))]) hx hb d_M_type_16 hl (by decide) rfl (fun ls hl => ?_)
      refine lv_iconst (v := xi_ 0) hx hb d_M_type_18 rfl ?_
      refine lv_istore (lv' := [(5, .int (xi_ 0)), (4, .int (xi_ 0)), (0, .ref mo), (1, .long (xl_ ch)), (3, .int (xi_ n))]) hx hb d_M_type_19 hl (by decide) rfl (fun ls hl => ?_)
      refine lv_iload hx hb d_M_type_21 (lv_at hl 0 rfl) ?_
      refine lv_iload_n hx hb d_M_type_23 rfl (lv_at hl 4 rfl) ?_
      refine xw_icmp_ge hx hb 73 d_M_type_24 (by decide) (by omega) (fun c24 => ?_) (fun c24 => ?_)
      · refine lv_iload hx hb d_M_type_73 (lv_at hl 1 rfl) ?_
        refine xw_if_ne hx hb 80 d_M_type_75 (by decide) (by decide) (fun c75 => absurd c75 (by decide)) (fun c75 => ?_)
        refine lv_iconst (v := xi_ (-1)) hx hb d_M_type_78 rfl ?_
        exact xw_iret F hr hlk hh rfl (len, bf) rfl (by
          unfold ty_ans
          rw [if_neg (fun q => by omega)]) trivial d_M_type_79
      · refine lv_iload hx hb d_M_type_27 (lv_at hl 1 rfl) ?_
        refine xw_if_eq hx hb 73 d_M_type_29 (by decide) (by decide) (fun c29 => ?_) (fun c29 => absurd c29 (by decide))
        refine lv_iload hx hb d_M_type_73 (lv_at hl 1 rfl) ?_
        refine xw_if_ne hx hb 80 d_M_type_75 (by decide) (by decide) (fun c75 => absurd c75 (by decide)) (fun c75 => ?_)
        refine lv_iconst (v := xi_ (-1)) hx hb d_M_type_78 rfl ?_
        exact xw_iret F hr hlk hh rfl (len, bf) rfl (by
          unfold ty_ans
          rw [if_neg (fun q => by omega)]) trivial d_M_type_79
    · refine lv_iconst (v := xi_ 1) hx hb d_M_type_11 rfl ?_
      refine lv_goto (tgt := 16) hx hb d_M_type_12 (by decide) ?_
      refine lv_istore (lv' := [(4, .int (xi_ 1)), (0, .ref mo), (1, .long (xl_ ch)), (3, .int (xi_ n))]) hx hb d_M_type_16 hl (by decide) rfl (fun ls hl => ?_)
      refine lv_iconst (v := xi_ 0) hx hb d_M_type_18 rfl ?_
      refine lv_istore (lv' := [(5, .int (xi_ 0)), (4, .int (xi_ 1)), (0, .ref mo), (1, .long (xl_ ch)), (3, .int (xi_ n))]) hx hb d_M_type_19 hl (by decide) rfl (fun ls hl => ?_)
      obtain ⟨m, hm⟩ : ∃ m : Nat, n = (m : Int) := ⟨n.toNat, by omega⟩
      subst hm
      refine lp_M_type F mo ma at0 dp wy un pl sp pe tk du tm bf len ch m (by omega) (fun fl ls H locs hfl hl hh => ?_) (m + 1) 0 1 0 ls s.heap _ (by omega) rfl (by omega) rfl (lv_sub hl [0, 1, 2, 3, 4] rfl) hh
      have hfb := b2_01 (ty_ok ch m)
      have hnt : ((m : Nat) : Int).toNat = m := rfl
      refine lv_iload hx hb d_M_type_73 (lv_at hl 0 rfl) ?_
      refine xw_if_ne hx hb 80 d_M_type_75 (by decide) (by omega) (fun c75 => ?_) (fun c75 => ?_)
      · refine lv_aload_n hx hb d_M_type_80 rfl (lv_at hl 1 rfl) ?_
        refine xw_get F hh.1 (v := .int (xi_ (len : Int))) fl_M_120_6 0 rfl rfl d_M_type_81 ?_
        refine lv_iload_n hx hb d_M_type_84 rfl (lv_at hl 3 rfl) ?_
        refine xw_iadd hx hb d_M_type_85 ?_
        refine lv_bipush (v := xi_ 40) hx hb d_M_type_86 (by decide) ?_
        refine xw_icmp_le hx hb 94 d_M_type_88 (by decide) (by omega) (fun c88 => ?_) (fun c88 => ?_)
        · refine lv_iload_n hx hb d_M_type_94 rfl (lv_at hl 3 rfl) ?_
          refine lv_iconst (v := xi_ 1) hx hb d_M_type_95 rfl ?_
          refine xw_isub hx hb d_M_type_96 ?_
          refine lv_istore (lv' := [(5, .int (xi_ ((m : Int) - 1))), (4, .int (xi_ fl)), (0, .ref mo), (1, .long (xl_ ch)), (3, .int (xi_ (m : Int)))]) hx hb d_M_type_97 hl (by decide) rfl (fun ls hl => ?_)
          have h40 : len + m ≤ 40 := by omega
          have hh : xw_H G (va_A [(mo, .inr (6, mo_ ma (len : Int) at0 dp wy un pl sp pe tk du tm)), (ma 1, .inl (G.2.2 0, 40, .inl (ja_ bf)))] s.heap.size) s.heap H locs [(mo, .inr (6, mo_ ma (len : Int) at0 dp wy un pl sp pe tk du tm)), (ma 1, .inl (G.2.2 0, 40, .inl (ja_ (tx_app bf len ch m 0))))] := by
            rw [tx_app0]
            exact hh
          refine lp_M_type2 F mo ma at0 dp wy un pl sp pe tk du tm bf len ch m (by omega) h40 (fun ls H locs hl hh => ?_) (m + 1) ((m : Int) - 1) (len : Int) 0 ls H locs (by omega) (by omega) rfl (by omega) (lv_sub hl [0, 2, 3, 4] rfl) hh
          refine lv_aload_n hx hb d_M_type_141 rfl (lv_at hl 0 rfl) ?_
          refine xw_get F hh.1 (v := .int (xi_ ((len + m : Nat) : Int))) fl_M_120_6 0 rfl rfl d_M_type_142 ?_
          have hok : ty_ok ch m = true := b2_ne (fun q => c75 (hfl.trans q))
          exact xw_iret F hr hlk hh rfl (len + m, tx_app bf len ch m m) rfl (by
            unfold ty_ans
            rw [hnt, if_pos ⟨by omega, by omega, hok⟩, if_pos h40]
            rfl) trivial d_M_type_145
        · refine lv_bipush (v := xi_ (-3)) hx hb d_M_type_91 (by decide) ?_
          have hok : ty_ok ch m = true := b2_ne (fun q => c75 (hfl.trans q))
          exact xw_iret F hr hlk hh rfl (len, bf) rfl (by
            unfold ty_ans
            rw [hnt, if_pos ⟨by omega, by omega, hok⟩, if_neg (by omega)]) trivial d_M_type_93
      · refine lv_iconst (v := xi_ (-1)) hx hb d_M_type_78 rfl ?_
        exact xw_iret F hr hlk hh rfl (len, bf) rfl (by
          unfold ty_ans
          rw [if_neg (fun q => by
            rw [hnt] at q
            rw [hfl, q.2.2] at c75
            exact absurd c75 (by decide))]) trivial d_M_type_79
