/-! the model: enter by the way, cut, leaf, plain, move, search -/
theorem td_ab {x z B : Int} (h : -B ≤ x ∧ x ≤ B) : -B ≤ x.tdiv z ∧ x.tdiv z ≤ B := by
  have h1 : (x.tdiv z).natAbs ≤ x.natAbs := by rw [Int.natAbs_tdiv]; exact Nat.div_le_self _ _
  omega
theorem cu_rng {k : MK} {y : Nat} {c i m : Int} (hi : 0 ≤ i ∧ i ≤ 9) (haa : -1099511627776 ≤ k_aa k y ∧ k_aa k y ≤ 1099511627776) (hac : -12000000000000 ≤ k_aa k y * c + k_bb k y ∧ k_aa k y * c + k_bb k y ≤ 12000000000000) : -30000000000000 ≤ cu_x k y c i m ∧ cu_x k y c i m ≤ 30000000000000 := by
  have h1 := m9_ (z := k_aa k y) (k := i) (B := 1099511627776) hi haa
  have h2 := td_ab (z := m) (B := 9 * 1099511627776) h1
  unfold cu_x
  omega
set_option maxHeartbeats 4000000 in
set_option maxRecDepth 100000 in
theorem c_M_enterK (l : Launch) (G : GG_) (sz : Nat) (mo : Nat) (ma : Nat → Nat) (ty at0 dp un pl sp pe tk du tm : Int) (k : MK) (n f t w o : Int) (hw : w ≠ 0 ∧ -9223372036854775807 ≤ w ∧ w ≤ 9223372036854775807) (hb9 : (-1000000000000000000 ≤ f ∧ f ≤ 1000000000000000000) ∧ (-1000000000000000000 ≤ t ∧ t ≤ 1000000000000000000) ∧ (-1000000000000000000 ≤ o ∧ o ≤ 1000000000000000000)) (hn : -2147483648 ≤ n ∧ n ≤ 2147483647) (hwy : 0 ≤ k_wy k ∧ k_wy k < 50) : Met l y_M_enter (cw_ y_M_enter b_M_enter 14 none) rm_M_enter (xw_P G [.ref mo, .int (xi_ n), .long (xl_ f), .long (xl_ t), .long (xl_ w), .long (xl_ o)] sz [(mo, .inr (6, mo_ ma ty at0 dp (k_wy k) un pl sp pe tk du tm)), (ma 17, .inl (G.2.2 0, 50, .inl (ja_ (k_no k)))), (ma 18, .inl (G.2.2 1, 50, .inr (.inl (jl_ (k_fr k))))), (ma 19, .inl (G.2.2 1, 50, .inr (.inl (jl_ (k_to k))))), (ma 20, .inl (G.2.2 1, 50, .inr (.inl (jl_ (k_aa k))))), (ma 21, .inl (G.2.2 1, 50, .inr (.inl (jl_ (k_bb k))))), (ma 22, .inl (G.2.2 1, 50, .inr (.inl (jl_ (k_cy k))))), (ma 23, .inl (G.2.2 1, 50, .inr (.inl (jl_ (k_en k))))), (ma 24, .inl (G.2.2 0, 50, .inl (ja_ (k_sp k))))] (fun _ => True)) (xw_Qv (S := MK) G sz [(mo, .inr (6, mo_ ma ty at0 dp (k_wy k) un pl sp pe tk du tm)), (ma 17, .inl (G.2.2 0, 50, .inl (ja_ (k_no k)))), (ma 18, .inl (G.2.2 1, 50, .inr (.inl (jl_ (k_fr k))))), (ma 19, .inl (G.2.2 1, 50, .inr (.inl (jl_ (k_to k))))), (ma 20, .inl (G.2.2 1, 50, .inr (.inl (jl_ (k_aa k))))), (ma 21, .inl (G.2.2 1, 50, .inr (.inl (jl_ (k_bb k))))), (ma 22, .inl (G.2.2 1, 50, .inr (.inl (jl_ (k_cy k))))), (ma 23, .inl (G.2.2 1, 50, .inr (.inl (jl_ (k_en k))))), (ma 24, .inl (G.2.2 0, 50, .inl (ja_ (k_sp k))))] (fun u => u = pu_ k n f t w o) (fun u => [(mo, .inr (6, mo_ ma ty at0 dp (k_wy u) un pl sp pe tk du tm)), (ma 17, .inl (G.2.2 0, 50, .inl (ja_ (k_no u)))), (ma 18, .inl (G.2.2 1, 50, .inr (.inl (jl_ (k_fr u))))), (ma 19, .inl (G.2.2 1, 50, .inr (.inl (jl_ (k_to u))))), (ma 20, .inl (G.2.2 1, 50, .inr (.inl (jl_ (k_aa u))))), (ma 21, .inl (G.2.2 1, 50, .inr (.inl (jl_ (k_bb u))))), (ma 22, .inl (G.2.2 1, 50, .inr (.inl (jl_ (k_cy u))))), (ma 23, .inl (G.2.2 1, 50, .inr (.inl (jl_ (k_en u))))), (ma 24, .inl (G.2.2 0, 50, .inl (ja_ (k_sp u))))]) (fun _ _ => True)) 0 0 (va_A [(mo, .inr (6, mo_ ma ty at0 dp (k_wy k) un pl sp pe tk du tm)), (ma 17, .inl (G.2.2 0, 50, .inl (ja_ (k_no k)))), (ma 18, .inl (G.2.2 1, 50, .inr (.inl (jl_ (k_fr k))))), (ma 19, .inl (G.2.2 1, 50, .inr (.inl (jl_ (k_to k))))), (ma 20, .inl (G.2.2 1, 50, .inr (.inl (jl_ (k_aa k))))), (ma 21, .inl (G.2.2 1, 50, .inr (.inl (jl_ (k_bb k))))), (ma 22, .inl (G.2.2 1, 50, .inr (.inl (jl_ (k_cy k))))), (ma 23, .inl (G.2.2 1, 50, .inr (.inl (jl_ (k_en k))))), (ma 24, .inl (G.2.2 0, 50, .inl (ja_ (k_sp k))))] sz) := by
  refine xw_met (by decide) (Nat.le_of_ble_eq_true rfl) ?_
  intro p0 e0 s m0 args below meth c0 F hr hlk hin hsz hh hX ls hl
  subst hsz
  have hx := F.1
  have hb := F.2.1
  have hl : lv_has ls 14 [(0, .ref mo), (1, .int (xi_ n)), (2, .long (xl_ f)), (4, .long (xl_ t)), (6, .long (xl_ w)), (8, .long (xl_ o))] := hl
  refine lv_lload_n hx hb d_M_enter_0 rfl (lv_at hl 2 rfl) ?_
  refine lv_lload hx hb d_M_enter_1 (lv_at hl 3 rfl) ?_
  refine xw_lcmp_ge hx hb 11 d_M_enter_3 d_M_enter_4 (by decide) (by omega) (fun c3 => ?_) (fun c3 => ?_)
  · exact xw_vret F hr hlk hh k rfl (by unfold pu_; rw [if_neg (by omega)]) trivial d_M_enter_11
  · refine lv_iload_n hx hb d_M_enter_7 rfl (lv_at hl 1 rfl) ?_
    refine xw_if_ge hx hb 12 d_M_enter_8 (by decide) (by omega) (fun c8 => ?_) (fun c8 => ?_)
    · refine lv_aload_n hx hb d_M_enter_12 rfl (lv_at hl 0 rfl) ?_
      refine xw_get F hh.1 (v := .ref (ma 17)) fl_M_49_6 0 rfl rfl d_M_enter_13 ?_
      refine lv_aload_n hx hb d_M_enter_16 rfl (lv_at hl 0 rfl) ?_
      refine xw_get F hh.1 (v := .int (xi_ (k_wy k))) fl_M_177_6 0 rfl rfl d_M_enter_17 ?_
      refine lv_iload_n hx hb d_M_enter_20 rfl (lv_at hl 1 rfl) ?_
      refine xw_iast F hh 1 (f := k_no k) rfl (i := k_wy k) (x := n) (by omega) d_M_enter_21 (fun H locs hh => ?_)
      have hh : xw_H G (va_A [(mo, .inr (6, mo_ ma ty at0 dp (k_wy k) un pl sp pe tk du tm)), (ma 17, .inl (G.2.2 0, 50, .inl (ja_ (k_no k)))), (ma 18, .inl (G.2.2 1, 50, .inr (.inl (jl_ (k_fr k))))), (ma 19, .inl (G.2.2 1, 50, .inr (.inl (jl_ (k_to k))))), (ma 20, .inl (G.2.2 1, 50, .inr (.inl (jl_ (k_aa k))))), (ma 21, .inl (G.2.2 1, 50, .inr (.inl (jl_ (k_bb k))))), (ma 22, .inl (G.2.2 1, 50, .inr (.inl (jl_ (k_cy k))))), (ma 23, .inl (G.2.2 1, 50, .inr (.inl (jl_ (k_en k))))), (ma 24, .inl (G.2.2 0, 50, .inl (ja_ (k_sp k))))] s.heap.size) s.heap H locs [(mo, .inr (6, mo_ ma ty at0 dp (k_wy k) un pl sp pe tk du tm)), (ma 17, .inl (G.2.2 0, 50, .inl (ja_ (va_up (k_no k) (k_wy k).toNat n)))), (ma 18, .inl (G.2.2 1, 50, .inr (.inl (jl_ (k_fr k))))), (ma 19, .inl (G.2.2 1, 50, .inr (.inl (jl_ (k_to k))))), (ma 20, .inl (G.2.2 1, 50, .inr (.inl (jl_ (k_aa k))))), (ma 21, .inl (G.2.2 1, 50, .inr (.inl (jl_ (k_bb k))))), (ma 22, .inl (G.2.2 1, 50, .inr (.inl (jl_ (k_cy k))))), (ma 23, .inl (G.2.2 1, 50, .inr (.inl (jl_ (k_en k))))), (ma 24, .inl (G.2.2 0, 50, .inl (ja_ (k_sp k))))] := hh
      refine lv_aload_n hx hb d_M_enter_22 rfl (lv_at hl 0 rfl) ?_
      refine xw_get F hh.1 (v := .ref (ma 18)) fl_M_52_6 0 rfl rfl d_M_enter_23 ?_
      refine lv_aload_n hx hb d_M_enter_26 rfl (lv_at hl 0 rfl) ?_
      refine xw_get F hh.1 (v := .int (xi_ (k_wy k))) fl_M_177_6 0 rfl rfl d_M_enter_27 ?_
      refine lv_lload_n hx hb d_M_enter_30 rfl (lv_at hl 2 rfl) ?_
      refine xw_last F hh 2 (f := k_fr k) rfl (i := k_wy k) (x := f) (by omega) d_M_enter_31 (fun H locs hh => ?_)
      have hh : xw_H G (va_A [(mo, .inr (6, mo_ ma ty at0 dp (k_wy k) un pl sp pe tk du tm)), (ma 17, .inl (G.2.2 0, 50, .inl (ja_ (k_no k)))), (ma 18, .inl (G.2.2 1, 50, .inr (.inl (jl_ (k_fr k))))), (ma 19, .inl (G.2.2 1, 50, .inr (.inl (jl_ (k_to k))))), (ma 20, .inl (G.2.2 1, 50, .inr (.inl (jl_ (k_aa k))))), (ma 21, .inl (G.2.2 1, 50, .inr (.inl (jl_ (k_bb k))))), (ma 22, .inl (G.2.2 1, 50, .inr (.inl (jl_ (k_cy k))))), (ma 23, .inl (G.2.2 1, 50, .inr (.inl (jl_ (k_en k))))), (ma 24, .inl (G.2.2 0, 50, .inl (ja_ (k_sp k))))] s.heap.size) s.heap H locs [(mo, .inr (6, mo_ ma ty at0 dp (k_wy k) un pl sp pe tk du tm)), (ma 17, .inl (G.2.2 0, 50, .inl (ja_ (va_up (k_no k) (k_wy k).toNat n)))), (ma 18, .inl (G.2.2 1, 50, .inr (.inl (jl_ (va_up (k_fr k) (k_wy k).toNat f))))), (ma 19, .inl (G.2.2 1, 50, .inr (.inl (jl_ (k_to k))))), (ma 20, .inl (G.2.2 1, 50, .inr (.inl (jl_ (k_aa k))))), (ma 21, .inl (G.2.2 1, 50, .inr (.inl (jl_ (k_bb k))))), (ma 22, .inl (G.2.2 1, 50, .inr (.inl (jl_ (k_cy k))))), (ma 23, .inl (G.2.2 1, 50, .inr (.inl (jl_ (k_en k))))), (ma 24, .inl (G.2.2 0, 50, .inl (ja_ (k_sp k))))] := hh
      refine lv_aload_n hx hb d_M_enter_32 rfl (lv_at hl 0 rfl) ?_
      refine xw_get F hh.1 (v := .ref (ma 19)) fl_M_56_6 0 rfl rfl d_M_enter_33 ?_
      refine lv_aload_n hx hb d_M_enter_36 rfl (lv_at hl 0 rfl) ?_
      refine xw_get F hh.1 (v := .int (xi_ (k_wy k))) fl_M_177_6 0 rfl rfl d_M_enter_37 ?_
      refine lv_lload hx hb d_M_enter_40 (lv_at hl 3 rfl) ?_
      refine xw_last F hh 3 (f := k_to k) rfl (i := k_wy k) (x := t) (by omega) d_M_enter_42 (fun H locs hh => ?_)
      have hh : xw_H G (va_A [(mo, .inr (6, mo_ ma ty at0 dp (k_wy k) un pl sp pe tk du tm)), (ma 17, .inl (G.2.2 0, 50, .inl (ja_ (k_no k)))), (ma 18, .inl (G.2.2 1, 50, .inr (.inl (jl_ (k_fr k))))), (ma 19, .inl (G.2.2 1, 50, .inr (.inl (jl_ (k_to k))))), (ma 20, .inl (G.2.2 1, 50, .inr (.inl (jl_ (k_aa k))))), (ma 21, .inl (G.2.2 1, 50, .inr (.inl (jl_ (k_bb k))))), (ma 22, .inl (G.2.2 1, 50, .inr (.inl (jl_ (k_cy k))))), (ma 23, .inl (G.2.2 1, 50, .inr (.inl (jl_ (k_en k))))), (ma 24, .inl (G.2.2 0, 50, .inl (ja_ (k_sp k))))] s.heap.size) s.heap H locs [(mo, .inr (6, mo_ ma ty at0 dp (k_wy k) un pl sp pe tk du tm)), (ma 17, .inl (G.2.2 0, 50, .inl (ja_ (va_up (k_no k) (k_wy k).toNat n)))), (ma 18, .inl (G.2.2 1, 50, .inr (.inl (jl_ (va_up (k_fr k) (k_wy k).toNat f))))), (ma 19, .inl (G.2.2 1, 50, .inr (.inl (jl_ (va_up (k_to k) (k_wy k).toNat t))))), (ma 20, .inl (G.2.2 1, 50, .inr (.inl (jl_ (k_aa k))))), (ma 21, .inl (G.2.2 1, 50, .inr (.inl (jl_ (k_bb k))))), (ma 22, .inl (G.2.2 1, 50, .inr (.inl (jl_ (k_cy k))))), (ma 23, .inl (G.2.2 1, 50, .inr (.inl (jl_ (k_en k))))), (ma 24, .inl (G.2.2 0, 50, .inl (ja_ (k_sp k))))] := hh
      refine lv_aload_n hx hb d_M_enter_43 rfl (lv_at hl 0 rfl) ?_
      refine xw_get F hh.1 (v := .ref (ma 20)) fl_M_59_6 0 rfl rfl d_M_enter_44 ?_
      refine lv_aload_n hx hb d_M_enter_47 rfl (lv_at hl 0 rfl) ?_
      refine xw_get F hh.1 (v := .int (xi_ (k_wy k))) fl_M_177_6 0 rfl rfl d_M_enter_48 ?_
      refine lv_lload hx hb d_M_enter_51 (lv_at hl 4 rfl) ?_
      refine xw_last F hh 4 (f := k_aa k) rfl (i := k_wy k) (x := w) (by omega) d_M_enter_53 (fun H locs hh => ?_)
      have hh : xw_H G (va_A [(mo, .inr (6, mo_ ma ty at0 dp (k_wy k) un pl sp pe tk du tm)), (ma 17, .inl (G.2.2 0, 50, .inl (ja_ (k_no k)))), (ma 18, .inl (G.2.2 1, 50, .inr (.inl (jl_ (k_fr k))))), (ma 19, .inl (G.2.2 1, 50, .inr (.inl (jl_ (k_to k))))), (ma 20, .inl (G.2.2 1, 50, .inr (.inl (jl_ (k_aa k))))), (ma 21, .inl (G.2.2 1, 50, .inr (.inl (jl_ (k_bb k))))), (ma 22, .inl (G.2.2 1, 50, .inr (.inl (jl_ (k_cy k))))), (ma 23, .inl (G.2.2 1, 50, .inr (.inl (jl_ (k_en k))))), (ma 24, .inl (G.2.2 0, 50, .inl (ja_ (k_sp k))))] s.heap.size) s.heap H locs [(mo, .inr (6, mo_ ma ty at0 dp (k_wy k) un pl sp pe tk du tm)), (ma 17, .inl (G.2.2 0, 50, .inl (ja_ (va_up (k_no k) (k_wy k).toNat n)))), (ma 18, .inl (G.2.2 1, 50, .inr (.inl (jl_ (va_up (k_fr k) (k_wy k).toNat f))))), (ma 19, .inl (G.2.2 1, 50, .inr (.inl (jl_ (va_up (k_to k) (k_wy k).toNat t))))), (ma 20, .inl (G.2.2 1, 50, .inr (.inl (jl_ (va_up (k_aa k) (k_wy k).toNat w))))), (ma 21, .inl (G.2.2 1, 50, .inr (.inl (jl_ (k_bb k))))), (ma 22, .inl (G.2.2 1, 50, .inr (.inl (jl_ (k_cy k))))), (ma 23, .inl (G.2.2 1, 50, .inr (.inl (jl_ (k_en k))))), (ma 24, .inl (G.2.2 0, 50, .inl (ja_ (k_sp k))))] := hh
      refine lv_aload_n hx hb d_M_enter_54 rfl (lv_at hl 0 rfl) ?_
      refine xw_get F hh.1 (v := .ref (ma 21)) fl_M_62_6 0 rfl rfl d_M_enter_55 ?_
      refine lv_aload_n hx hb d_M_enter_58 rfl (lv_at hl 0 rfl) ?_
      refine xw_get F hh.1 (v := .int (xi_ (k_wy k))) fl_M_177_6 0 rfl rfl d_M_enter_59 ?_
      refine lv_lload hx hb d_M_enter_62 (lv_at hl 5 rfl) ?_
      refine xw_last F hh 5 (f := k_bb k) rfl (i := k_wy k) (x := o) (by omega) d_M_enter_64 (fun H locs hh => ?_)
      have hh : xw_H G (va_A [(mo, .inr (6, mo_ ma ty at0 dp (k_wy k) un pl sp pe tk du tm)), (ma 17, .inl (G.2.2 0, 50, .inl (ja_ (k_no k)))), (ma 18, .inl (G.2.2 1, 50, .inr (.inl (jl_ (k_fr k))))), (ma 19, .inl (G.2.2 1, 50, .inr (.inl (jl_ (k_to k))))), (ma 20, .inl (G.2.2 1, 50, .inr (.inl (jl_ (k_aa k))))), (ma 21, .inl (G.2.2 1, 50, .inr (.inl (jl_ (k_bb k))))), (ma 22, .inl (G.2.2 1, 50, .inr (.inl (jl_ (k_cy k))))), (ma 23, .inl (G.2.2 1, 50, .inr (.inl (jl_ (k_en k))))), (ma 24, .inl (G.2.2 0, 50, .inl (ja_ (k_sp k))))] s.heap.size) s.heap H locs [(mo, .inr (6, mo_ ma ty at0 dp (k_wy k) un pl sp pe tk du tm)), (ma 17, .inl (G.2.2 0, 50, .inl (ja_ (va_up (k_no k) (k_wy k).toNat n)))), (ma 18, .inl (G.2.2 1, 50, .inr (.inl (jl_ (va_up (k_fr k) (k_wy k).toNat f))))), (ma 19, .inl (G.2.2 1, 50, .inr (.inl (jl_ (va_up (k_to k) (k_wy k).toNat t))))), (ma 20, .inl (G.2.2 1, 50, .inr (.inl (jl_ (va_up (k_aa k) (k_wy k).toNat w))))), (ma 21, .inl (G.2.2 1, 50, .inr (.inl (jl_ (va_up (k_bb k) (k_wy k).toNat o))))), (ma 22, .inl (G.2.2 1, 50, .inr (.inl (jl_ (k_cy k))))), (ma 23, .inl (G.2.2 1, 50, .inr (.inl (jl_ (k_en k))))), (ma 24, .inl (G.2.2 0, 50, .inl (ja_ (k_sp k))))] := hh
      refine lv_lload_n hx hb d_M_enter_65 rfl (lv_at hl 2 rfl) ?_
      refine lv_lload hx hb d_M_enter_66 (lv_at hl 5 rfl) ?_
      refine xw_lsub hx hb d_M_enter_68 ?_
      refine lv_lload hx hb d_M_enter_69 (lv_at hl 4 rfl) ?_
      refine xw_clp hh (xw_rSp F (c_M_floor l G H.size (f - o) w (by omega)) lk_M_180 cd_M_floor ss_M_floor rfl rfl ⟨by decide, by decide⟩ rfl hl.1 rfl (Nat.le_of_ble_eq_true rfl) d_M_enter_71 ⟨Nat.le_of_ble_eq_true rfl, Nat.le_of_ble_eq_true rfl⟩) (fun z71 u H locs hp71 hz hk hh => ?_)
      obtain rfl : z71 = fl_ (f - o) w := hp71
      have hflf := fl_small (x := f - o) (y := w) (by omega)
      refine lv_lstore (lv' := [(10, .long (xl_ (fl_ (f - o) w))), (0, .ref mo), (1, .int (xi_ n)), (2, .long (xl_ f)), (4, .long (xl_ t)), (6, .long (xl_ w)), (8, .long (xl_ o))]) hx hb d_M_enter_74 hl (by decide) rfl (fun ls hl => ?_)
      refine lv_lload hx hb d_M_enter_76 (lv_at hl 4 rfl) ?_
      refine lv_lload hx hb d_M_enter_78 (lv_at hl 6 rfl) ?_
      refine xw_lsub hx hb d_M_enter_80 ?_
      refine lv_lload hx hb d_M_enter_81 (lv_at hl 5 rfl) ?_
      refine xw_clp hh (xw_rSp F (c_M_floor l G H.size (t - o) w (by omega)) lk_M_180 cd_M_floor ss_M_floor rfl rfl ⟨by decide, by decide⟩ rfl hl.1 rfl (Nat.le_of_ble_eq_true rfl) d_M_enter_83 ⟨Nat.le_of_ble_eq_true rfl, Nat.le_of_ble_eq_true rfl⟩) (fun z83 u H locs hp83 hz hk hh => ?_)
      obtain rfl : z83 = fl_ (t - o) w := hp83
      have hflt := fl_small (x := t - o) (y := w) (by omega)
      refine lv_lstore (lv' := [(12, .long (xl_ (fl_ (t - o) w))), (10, .long (xl_ (fl_ (f - o) w))), (0, .ref mo), (1, .int (xi_ n)), (2, .long (xl_ f)), (4, .long (xl_ t)), (6, .long (xl_ w)), (8, .long (xl_ o))]) hx hb d_M_enter_86 hl (by decide) rfl (fun ls hl => ?_)
      refine lv_aload_n hx hb d_M_enter_88 rfl (lv_at hl 2 rfl) ?_
      refine xw_get F hh.1 (v := .ref (ma 22)) fl_M_65_6 0 rfl rfl d_M_enter_89 ?_
      refine lv_aload_n hx hb d_M_enter_92 rfl (lv_at hl 2 rfl) ?_
      refine xw_get F hh.1 (v := .int (xi_ (k_wy k))) fl_M_177_6 0 rfl rfl d_M_enter_93 ?_
      refine lv_lload hx hb d_M_enter_96 (lv_at hl 1 rfl) ?_
      refine lv_lload hx hb d_M_enter_98 (lv_at hl 0 rfl) ?_
      refine xw_clp hh (xw_rSp F (c_M_low l G H.size (fl_ (f - o) w) (fl_ (t - o) w) (by omega)) lk_M_184 cd_M_low ss_M_low rfl rfl ⟨by decide, by decide⟩ rfl hl.1 rfl (Nat.le_of_ble_eq_true rfl) d_M_enter_100 ⟨Nat.le_of_ble_eq_true rfl, Nat.le_of_ble_eq_true rfl⟩) (fun z100 u H locs hp100 hz hk hh => ?_)
      obtain rfl : z100 = min (fl_ (f - o) w) (fl_ (t - o) w) := hp100
      refine lv_lconst (v := xl_ 1) hx hb d_M_enter_103 (by decide) ?_
      refine xw_lsub hx hb d_M_enter_104 ?_
      refine xw_last F hh 6 (f := k_cy k) rfl (i := k_wy k) (x := (min (fl_ (f - o) w) (fl_ (t - o) w)) - 1) (by omega) d_M_enter_105 (fun H locs hh => ?_)
      have hh : xw_H G (va_A [(mo, .inr (6, mo_ ma ty at0 dp (k_wy k) un pl sp pe tk du tm)), (ma 17, .inl (G.2.2 0, 50, .inl (ja_ (k_no k)))), (ma 18, .inl (G.2.2 1, 50, .inr (.inl (jl_ (k_fr k))))), (ma 19, .inl (G.2.2 1, 50, .inr (.inl (jl_ (k_to k))))), (ma 20, .inl (G.2.2 1, 50, .inr (.inl (jl_ (k_aa k))))), (ma 21, .inl (G.2.2 1, 50, .inr (.inl (jl_ (k_bb k))))), (ma 22, .inl (G.2.2 1, 50, .inr (.inl (jl_ (k_cy k))))), (ma 23, .inl (G.2.2 1, 50, .inr (.inl (jl_ (k_en k))))), (ma 24, .inl (G.2.2 0, 50, .inl (ja_ (k_sp k))))] s.heap.size) s.heap H locs [(mo, .inr (6, mo_ ma ty at0 dp (k_wy k) un pl sp pe tk du tm)), (ma 17, .inl (G.2.2 0, 50, .inl (ja_ (va_up (k_no k) (k_wy k).toNat n)))), (ma 18, .inl (G.2.2 1, 50, .inr (.inl (jl_ (va_up (k_fr k) (k_wy k).toNat f))))), (ma 19, .inl (G.2.2 1, 50, .inr (.inl (jl_ (va_up (k_to k) (k_wy k).toNat t))))), (ma 20, .inl (G.2.2 1, 50, .inr (.inl (jl_ (va_up (k_aa k) (k_wy k).toNat w))))), (ma 21, .inl (G.2.2 1, 50, .inr (.inl (jl_ (va_up (k_bb k) (k_wy k).toNat o))))), (ma 22, .inl (G.2.2 1, 50, .inr (.inl (jl_ (va_up (k_cy k) (k_wy k).toNat ((min (fl_ (f - o) w) (fl_ (t - o) w)) - 1)))))), (ma 23, .inl (G.2.2 1, 50, .inr (.inl (jl_ (k_en k))))), (ma 24, .inl (G.2.2 0, 50, .inl (ja_ (k_sp k))))] := hh
      refine lv_aload_n hx hb d_M_enter_106 rfl (lv_at hl 2 rfl) ?_
      refine xw_get F hh.1 (v := .ref (ma 23)) fl_M_68_6 0 rfl rfl d_M_enter_107 ?_
      refine lv_aload_n hx hb d_M_enter_110 rfl (lv_at hl 2 rfl) ?_
      refine xw_get F hh.1 (v := .int (xi_ (k_wy k))) fl_M_177_6 0 rfl rfl d_M_enter_111 ?_
      refine lv_lload hx hb d_M_enter_114 (lv_at hl 1 rfl) ?_
      refine lv_lload hx hb d_M_enter_116 (lv_at hl 0 rfl) ?_
      refine xw_clp hh (xw_rSp F (c_M_high l G H.size (fl_ (f - o) w) (fl_ (t - o) w) (by omega)) lk_M_187 cd_M_high ss_M_high rfl rfl ⟨by decide, by decide⟩ rfl hl.1 rfl (Nat.le_of_ble_eq_true rfl) d_M_enter_118 ⟨Nat.le_of_ble_eq_true rfl, Nat.le_of_ble_eq_true rfl⟩) (fun z118 u H locs hp118 hz hk hh => ?_)
      obtain rfl : z118 = max (fl_ (f - o) w) (fl_ (t - o) w) := hp118
      refine lv_lconst (v := xl_ 1) hx hb d_M_enter_121 (by decide) ?_
      refine xw_ladd hx hb d_M_enter_122 ?_
      refine xw_last F hh 7 (f := k_en k) rfl (i := k_wy k) (x := (max (fl_ (f - o) w) (fl_ (t - o) w)) + 1) (by omega) d_M_enter_123 (fun H locs hh => ?_)
      have hh : xw_H G (va_A [(mo, .inr (6, mo_ ma ty at0 dp (k_wy k) un pl sp pe tk du tm)), (ma 17, .inl (G.2.2 0, 50, .inl (ja_ (k_no k)))), (ma 18, .inl (G.2.2 1, 50, .inr (.inl (jl_ (k_fr k))))), (ma 19, .inl (G.2.2 1, 50, .inr (.inl (jl_ (k_to k))))), (ma 20, .inl (G.2.2 1, 50, .inr (.inl (jl_ (k_aa k))))), (ma 21, .inl (G.2.2 1, 50, .inr (.inl (jl_ (k_bb k))))), (ma 22, .inl (G.2.2 1, 50, .inr (.inl (jl_ (k_cy k))))), (ma 23, .inl (G.2.2 1, 50, .inr (.inl (jl_ (k_en k))))), (ma 24, .inl (G.2.2 0, 50, .inl (ja_ (k_sp k))))] s.heap.size) s.heap H locs [(mo, .inr (6, mo_ ma ty at0 dp (k_wy k) un pl sp pe tk du tm)), (ma 17, .inl (G.2.2 0, 50, .inl (ja_ (va_up (k_no k) (k_wy k).toNat n)))), (ma 18, .inl (G.2.2 1, 50, .inr (.inl (jl_ (va_up (k_fr k) (k_wy k).toNat f))))), (ma 19, .inl (G.2.2 1, 50, .inr (.inl (jl_ (va_up (k_to k) (k_wy k).toNat t))))), (ma 20, .inl (G.2.2 1, 50, .inr (.inl (jl_ (va_up (k_aa k) (k_wy k).toNat w))))), (ma 21, .inl (G.2.2 1, 50, .inr (.inl (jl_ (va_up (k_bb k) (k_wy k).toNat o))))), (ma 22, .inl (G.2.2 1, 50, .inr (.inl (jl_ (va_up (k_cy k) (k_wy k).toNat ((min (fl_ (f - o) w) (fl_ (t - o) w)) - 1)))))), (ma 23, .inl (G.2.2 1, 50, .inr (.inl (jl_ (va_up (k_en k) (k_wy k).toNat ((max (fl_ (f - o) w) (fl_ (t - o) w)) + 1)))))), (ma 24, .inl (G.2.2 0, 50, .inl (ja_ (k_sp k))))] := hh
      refine lv_aload_n hx hb d_M_enter_124 rfl (lv_at hl 2 rfl) ?_
      refine xw_get F hh.1 (v := .ref (ma 24)) fl_M_71_6 0 rfl rfl d_M_enter_125 ?_
      refine lv_aload_n hx hb d_M_enter_128 rfl (lv_at hl 2 rfl) ?_
      refine xw_get F hh.1 (v := .int (xi_ (k_wy k))) fl_M_177_6 0 rfl rfl d_M_enter_129 ?_
      refine lv_iconst (v := xi_ 0) hx hb d_M_enter_132 rfl ?_
      refine xw_iast F hh 8 (f := k_sp k) rfl (i := k_wy k) (x := 0) (by omega) d_M_enter_133 (fun H locs hh => ?_)
      have hh : xw_H G (va_A [(mo, .inr (6, mo_ ma ty at0 dp (k_wy k) un pl sp pe tk du tm)), (ma 17, .inl (G.2.2 0, 50, .inl (ja_ (k_no k)))), (ma 18, .inl (G.2.2 1, 50, .inr (.inl (jl_ (k_fr k))))), (ma 19, .inl (G.2.2 1, 50, .inr (.inl (jl_ (k_to k))))), (ma 20, .inl (G.2.2 1, 50, .inr (.inl (jl_ (k_aa k))))), (ma 21, .inl (G.2.2 1, 50, .inr (.inl (jl_ (k_bb k))))), (ma 22, .inl (G.2.2 1, 50, .inr (.inl (jl_ (k_cy k))))), (ma 23, .inl (G.2.2 1, 50, .inr (.inl (jl_ (k_en k))))), (ma 24, .inl (G.2.2 0, 50, .inl (ja_ (k_sp k))))] s.heap.size) s.heap H locs [(mo, .inr (6, mo_ ma ty at0 dp (k_wy k) un pl sp pe tk du tm)), (ma 17, .inl (G.2.2 0, 50, .inl (ja_ (va_up (k_no k) (k_wy k).toNat n)))), (ma 18, .inl (G.2.2 1, 50, .inr (.inl (jl_ (va_up (k_fr k) (k_wy k).toNat f))))), (ma 19, .inl (G.2.2 1, 50, .inr (.inl (jl_ (va_up (k_to k) (k_wy k).toNat t))))), (ma 20, .inl (G.2.2 1, 50, .inr (.inl (jl_ (va_up (k_aa k) (k_wy k).toNat w))))), (ma 21, .inl (G.2.2 1, 50, .inr (.inl (jl_ (va_up (k_bb k) (k_wy k).toNat o))))), (ma 22, .inl (G.2.2 1, 50, .inr (.inl (jl_ (va_up (k_cy k) (k_wy k).toNat ((min (fl_ (f - o) w) (fl_ (t - o) w)) - 1)))))), (ma 23, .inl (G.2.2 1, 50, .inr (.inl (jl_ (va_up (k_en k) (k_wy k).toNat ((max (fl_ (f - o) w) (fl_ (t - o) w)) + 1)))))), (ma 24, .inl (G.2.2 0, 50, .inl (ja_ (va_up (k_sp k) (k_wy k).toNat 0))))] := hh
      refine lv_aload_n hx hb d_M_enter_134 rfl (lv_at hl 2 rfl) ?_
      refine lv_dup hx hb d_M_enter_135 rfl ?_
      refine xw_get F hh.1 (v := .int (xi_ (k_wy k))) fl_M_177_6 0 rfl rfl d_M_enter_136 ?_
      refine lv_iconst (v := xi_ 1) hx hb d_M_enter_139 rfl ?_
      refine xw_iadd hx hb d_M_enter_140 ?_
      refine xw_put F hh fp_M_177_6 0 rfl rfl rfl (Nat.le_of_ble_eq_true rfl) d_M_enter_141 (fun H locs hh => ?_)
      have hh : xw_H G (va_A [(mo, .inr (6, mo_ ma ty at0 dp (k_wy k) un pl sp pe tk du tm)), (ma 17, .inl (G.2.2 0, 50, .inl (ja_ (k_no k)))), (ma 18, .inl (G.2.2 1, 50, .inr (.inl (jl_ (k_fr k))))), (ma 19, .inl (G.2.2 1, 50, .inr (.inl (jl_ (k_to k))))), (ma 20, .inl (G.2.2 1, 50, .inr (.inl (jl_ (k_aa k))))), (ma 21, .inl (G.2.2 1, 50, .inr (.inl (jl_ (k_bb k))))), (ma 22, .inl (G.2.2 1, 50, .inr (.inl (jl_ (k_cy k))))), (ma 23, .inl (G.2.2 1, 50, .inr (.inl (jl_ (k_en k))))), (ma 24, .inl (G.2.2 0, 50, .inl (ja_ (k_sp k))))] s.heap.size) s.heap H locs [(mo, .inr (6, mo_ ma ty at0 dp ((k_wy k) + 1) un pl sp pe tk du tm)), (ma 17, .inl (G.2.2 0, 50, .inl (ja_ (va_up (k_no k) (k_wy k).toNat n)))), (ma 18, .inl (G.2.2 1, 50, .inr (.inl (jl_ (va_up (k_fr k) (k_wy k).toNat f))))), (ma 19, .inl (G.2.2 1, 50, .inr (.inl (jl_ (va_up (k_to k) (k_wy k).toNat t))))), (ma 20, .inl (G.2.2 1, 50, .inr (.inl (jl_ (va_up (k_aa k) (k_wy k).toNat w))))), (ma 21, .inl (G.2.2 1, 50, .inr (.inl (jl_ (va_up (k_bb k) (k_wy k).toNat o))))), (ma 22, .inl (G.2.2 1, 50, .inr (.inl (jl_ (va_up (k_cy k) (k_wy k).toNat ((min (fl_ (f - o) w) (fl_ (t - o) w)) - 1)))))), (ma 23, .inl (G.2.2 1, 50, .inr (.inl (jl_ (va_up (k_en k) (k_wy k).toNat ((max (fl_ (f - o) w) (fl_ (t - o) w)) + 1)))))), (ma 24, .inl (G.2.2 0, 50, .inl (ja_ (va_up (k_sp k) (k_wy k).toNat 0))))] := hh
      exact xw_vret F hr hlk hh (push_ k n f t w o) rfl (by unfold pu_; rw [if_pos (by omega)]) trivial d_M_enter_144
    · exact xw_vret F hr hlk hh k rfl (by unfold pu_; rw [if_neg (by omega)]) trivial d_M_enter_11
def rm_M_cut : Room := { frames := 2, cells := 0, slots := 0, locals := 58 }
set_option maxHeartbeats 4000000 in
set_option maxRecDepth 100000 in
theorem c_M_cut (l : Launch) (G : GG_) (sz : Nat) (mo : Nat) (ma : Nat → Nat) (ty at0 dp un pl sp pe tk du tm : Int) (k : MK) (y : Nat) (n c i m a b : Int) (hy : y < 50) (hwy : 0 ≤ k_wy k ∧ k_wy k < 50) (haa : -1099511627776 ≤ k_aa k y ∧ k_aa k y ≤ 1099511627776) (hac : -12000000000000 ≤ k_aa k y * c + k_bb k y ∧ k_aa k y * c + k_bb k y ≤ 12000000000000) (hfr : -1099511627776 ≤ k_fr k y ∧ k_fr k y ≤ 1099511627776 ∧ -1099511627776 ≤ k_to k y ∧ k_to k y ≤ 1099511627776) (hn : -2147483648 ≤ n ∧ n ≤ 2147483647) (hi : 0 ≤ i ∧ i ≤ 8) (hm : 1 ≤ m ∧ m ≤ 9) (ha : a ≠ 0 ∧ -2199023255552 ≤ a ∧ a ≤ 2199023255552) (hbb : -1000000000000000000 ≤ b ∧ b ≤ 1000000000000000000) : Met l y_M_cut (cw_ y_M_cut b_M_cut 15 none) rm_M_cut (xw_P G [.ref mo, .int (xi_ (y : Int)), .int (xi_ n), .long (xl_ c), .int (xi_ i), .int (xi_ m), .long (xl_ a), .long (xl_ b)] sz [(mo, .inr (6, mo_ ma ty at0 dp (k_wy k) un pl sp pe tk du tm)), (ma 17, .inl (G.2.2 0, 50, .inl (ja_ (k_no k)))), (ma 18, .inl (G.2.2 1, 50, .inr (.inl (jl_ (k_fr k))))), (ma 19, .inl (G.2.2 1, 50, .inr (.inl (jl_ (k_to k))))), (ma 20, .inl (G.2.2 1, 50, .inr (.inl (jl_ (k_aa k))))), (ma 21, .inl (G.2.2 1, 50, .inr (.inl (jl_ (k_bb k))))), (ma 22, .inl (G.2.2 1, 50, .inr (.inl (jl_ (k_cy k))))), (ma 23, .inl (G.2.2 1, 50, .inr (.inl (jl_ (k_en k))))), (ma 24, .inl (G.2.2 0, 50, .inl (ja_ (k_sp k))))] (fun _ => True)) (xw_Qv (S := MK) G sz [(mo, .inr (6, mo_ ma ty at0 dp (k_wy k) un pl sp pe tk du tm)), (ma 17, .inl (G.2.2 0, 50, .inl (ja_ (k_no k)))), (ma 18, .inl (G.2.2 1, 50, .inr (.inl (jl_ (k_fr k))))), (ma 19, .inl (G.2.2 1, 50, .inr (.inl (jl_ (k_to k))))), (ma 20, .inl (G.2.2 1, 50, .inr (.inl (jl_ (k_aa k))))), (ma 21, .inl (G.2.2 1, 50, .inr (.inl (jl_ (k_bb k))))), (ma 22, .inl (G.2.2 1, 50, .inr (.inl (jl_ (k_cy k))))), (ma 23, .inl (G.2.2 1, 50, .inr (.inl (jl_ (k_en k))))), (ma 24, .inl (G.2.2 0, 50, .inl (ja_ (k_sp k))))] (fun u => u = cu_ k y n c i m a b) (fun u => [(mo, .inr (6, mo_ ma ty at0 dp (k_wy u) un pl sp pe tk du tm)), (ma 17, .inl (G.2.2 0, 50, .inl (ja_ (k_no u)))), (ma 18, .inl (G.2.2 1, 50, .inr (.inl (jl_ (k_fr u))))), (ma 19, .inl (G.2.2 1, 50, .inr (.inl (jl_ (k_to u))))), (ma 20, .inl (G.2.2 1, 50, .inr (.inl (jl_ (k_aa u))))), (ma 21, .inl (G.2.2 1, 50, .inr (.inl (jl_ (k_bb u))))), (ma 22, .inl (G.2.2 1, 50, .inr (.inl (jl_ (k_cy u))))), (ma 23, .inl (G.2.2 1, 50, .inr (.inl (jl_ (k_en u))))), (ma 24, .inl (G.2.2 0, 50, .inl (ja_ (k_sp u))))]) (fun _ _ => True)) 0 0 (va_A [(mo, .inr (6, mo_ ma ty at0 dp (k_wy k) un pl sp pe tk du tm)), (ma 17, .inl (G.2.2 0, 50, .inl (ja_ (k_no k)))), (ma 18, .inl (G.2.2 1, 50, .inr (.inl (jl_ (k_fr k))))), (ma 19, .inl (G.2.2 1, 50, .inr (.inl (jl_ (k_to k))))), (ma 20, .inl (G.2.2 1, 50, .inr (.inl (jl_ (k_aa k))))), (ma 21, .inl (G.2.2 1, 50, .inr (.inl (jl_ (k_bb k))))), (ma 22, .inl (G.2.2 1, 50, .inr (.inl (jl_ (k_cy k))))), (ma 23, .inl (G.2.2 1, 50, .inr (.inl (jl_ (k_en k))))), (ma 24, .inl (G.2.2 0, 50, .inl (ja_ (k_sp k))))] sz) := by
  refine xw_met (by decide) (Nat.le_of_ble_eq_true rfl) ?_
  intro p0 e0 s m0 args below meth c0 F hr hlk hin hsz hh hX ls hl
  subst hsz
  have hx := F.1
  have hb := F.2.1
  have hl : lv_has ls 15 [(0, .ref mo), (1, .int (xi_ (y : Int))), (2, .int (xi_ n)), (3, .long (xl_ c)), (5, .int (xi_ i)), (6, .int (xi_ m)), (7, .long (xl_ a)), (9, .long (xl_ b))] := hl
  have hm1 := m9_ (z := k_aa k y) (k := i) (B := 1099511627776) (by omega) haa
  have hm2 := m9_ (z := k_aa k y) (k := i + 1) (B := 1099511627776) (by omega) haa
  have hxa := cu_rng (k := k) (y := y) (c := c) (i := i) (m := m) (by omega) haa hac
  have hxb := cu_rng (k := k) (y := y) (c := c) (i := i + 1) (m := m) (by omega) haa hac
  refine lv_aload_n hx hb d_M_cut_0 rfl (lv_at hl 0 rfl) ?_
  refine xw_get F hh.1 (v := .ref (ma 20)) fl_M_59_6 0 rfl rfl d_M_cut_1 ?_
  refine lv_iload_n hx hb d_M_cut_4 rfl (lv_at hl 1 rfl) ?_
  refine xw_lald F hh.1 4 (f := k_aa k) rfl (i := (y : Int)) (by omega) d_M_cut_5 ?_
  refine xw_topl (y := k_aa k y) rfl ?_
  refine lv_lload_n hx hb d_M_cut_6 rfl (lv_at hl 3 rfl) ?_
  refine xw_lmul hx hb d_M_cut_7 ?_
  refine lv_aload_n hx hb d_M_cut_8 rfl (lv_at hl 0 rfl) ?_
  refine xw_get F hh.1 (v := .ref (ma 20)) fl_M_59_6 0 rfl rfl d_M_cut_9 ?_
  refine lv_iload_n hx hb d_M_cut_12 rfl (lv_at hl 1 rfl) ?_
  refine xw_lald F hh.1 4 (f := k_aa k) rfl (i := (y : Int)) (by omega) d_M_cut_13 ?_
  refine xw_topl (y := k_aa k y) rfl ?_
  refine lv_iload hx hb d_M_cut_14 (lv_at hl 4 rfl) ?_
  refine xw_i2l hx hb d_M_cut_16 (by omega) ?_
  refine xw_lmul hx hb d_M_cut_17 ?_
  refine lv_iload hx hb d_M_cut_18 (lv_at hl 5 rfl) ?_
  refine xw_i2l hx hb d_M_cut_20 (by omega) ?_
  refine xw_ldiv hx hb d_M_cut_21 (by omega) ?_
  refine xw_ladd hx hb d_M_cut_22 ?_
  refine lv_aload_n hx hb d_M_cut_23 rfl (lv_at hl 0 rfl) ?_
  refine xw_get F hh.1 (v := .ref (ma 21)) fl_M_62_6 0 rfl rfl d_M_cut_24 ?_
  refine lv_iload_n hx hb d_M_cut_27 rfl (lv_at hl 1 rfl) ?_
  refine xw_lald F hh.1 5 (f := k_bb k) rfl (i := (y : Int)) (by omega) d_M_cut_28 ?_
  refine xw_topl (y := k_bb k y) rfl ?_
  refine xw_ladd hx hb d_M_cut_29 ?_
  refine xw_topl (y := cu_x k y c i m) rfl ?_
  refine lv_lstore (lv' := [(11, .long (xl_ (cu_x k y c i m))), (0, .ref mo), (1, .int (xi_ (y : Int))), (2, .int (xi_ n)), (3, .long (xl_ c)), (5, .int (xi_ i)), (6, .int (xi_ m)), (7, .long (xl_ a)), (9, .long (xl_ b))]) hx hb d_M_cut_30 hl (by decide) rfl (fun ls hl => ?_)
  refine lv_aload_n hx hb d_M_cut_32 rfl (lv_at hl 1 rfl) ?_
  refine xw_get F hh.1 (v := .ref (ma 20)) fl_M_59_6 0 rfl rfl d_M_cut_33 ?_
  refine lv_iload_n hx hb d_M_cut_36 rfl (lv_at hl 2 rfl) ?_
  refine xw_lald F hh.1 4 (f := k_aa k) rfl (i := (y : Int)) (by omega) d_M_cut_37 ?_
  refine xw_topl (y := k_aa k y) rfl ?_
  refine lv_lload_n hx hb d_M_cut_38 rfl (lv_at hl 4 rfl) ?_
  refine xw_lmul hx hb d_M_cut_39 ?_
  refine lv_aload_n hx hb d_M_cut_40 rfl (lv_at hl 1 rfl) ?_
  refine xw_get F hh.1 (v := .ref (ma 20)) fl_M_59_6 0 rfl rfl d_M_cut_41 ?_
  refine lv_iload_n hx hb d_M_cut_44 rfl (lv_at hl 2 rfl) ?_
  refine xw_lald F hh.1 4 (f := k_aa k) rfl (i := (y : Int)) (by omega) d_M_cut_45 ?_
  refine xw_topl (y := k_aa k y) rfl ?_
  refine lv_iload hx hb d_M_cut_46 (lv_at hl 5 rfl) ?_
  refine lv_iconst (v := xi_ 1) hx hb d_M_cut_48 rfl ?_
  refine xw_iadd hx hb d_M_cut_49 ?_
  refine xw_i2l hx hb d_M_cut_50 (by omega) ?_
  refine xw_lmul hx hb d_M_cut_51 ?_
  refine lv_iload hx hb d_M_cut_52 (lv_at hl 6 rfl) ?_
  refine xw_i2l hx hb d_M_cut_54 (by omega) ?_
  refine xw_ldiv hx hb d_M_cut_55 (by omega) ?_
  refine xw_ladd hx hb d_M_cut_56 ?_
  refine lv_aload_n hx hb d_M_cut_57 rfl (lv_at hl 1 rfl) ?_
  refine xw_get F hh.1 (v := .ref (ma 21)) fl_M_62_6 0 rfl rfl d_M_cut_58 ?_
  refine lv_iload_n hx hb d_M_cut_61 rfl (lv_at hl 2 rfl) ?_
  refine xw_lald F hh.1 5 (f := k_bb k) rfl (i := (y : Int)) (by omega) d_M_cut_62 ?_
  refine xw_topl (y := k_bb k y) rfl ?_
  refine xw_ladd hx hb d_M_cut_63 ?_
  refine xw_topl (y := cu_x k y c (i + 1) m) rfl ?_
  refine lv_lstore (lv' := [(13, .long (xl_ (cu_x k y c (i + 1) m))), (11, .long (xl_ (cu_x k y c i m))), (0, .ref mo), (1, .int (xi_ (y : Int))), (2, .int (xi_ n)), (3, .long (xl_ c)), (5, .int (xi_ i)), (6, .int (xi_ m)), (7, .long (xl_ a)), (9, .long (xl_ b))]) hx hb d_M_cut_64 hl (by decide) rfl (fun ls hl => ?_)
  refine lv_aload_n hx hb d_M_cut_66 rfl (lv_at hl 2 rfl) ?_
  refine lv_iload_n hx hb d_M_cut_67 rfl (lv_at hl 4 rfl) ?_
  refine lv_aload_n hx hb d_M_cut_68 rfl (lv_at hl 2 rfl) ?_
  refine xw_get F hh.1 (v := .ref (ma 18)) fl_M_52_6 0 rfl rfl d_M_cut_69 ?_
  refine lv_iload_n hx hb d_M_cut_72 rfl (lv_at hl 3 rfl) ?_
  refine xw_lald F hh.1 2 (f := k_fr k) rfl (i := (y : Int)) (by omega) d_M_cut_73 ?_
  refine xw_topl (y := k_fr k y) rfl ?_
  refine lv_lload hx hb d_M_cut_74 (lv_at hl 1 rfl) ?_
  refine lv_lload hx hb d_M_cut_76 (lv_at hl 0 rfl) ?_
  refine xw_clp hh (xw_rSp F (c_M_low l G s.heap.size (cu_x k y c i m) (cu_x k y c (i + 1) m) (by omega)) lk_M_184 cd_M_low ss_M_low rfl rfl ⟨by decide, by decide⟩ rfl hl.1 rfl (Nat.le_of_ble_eq_true rfl) d_M_cut_78 ⟨Nat.le_of_ble_eq_true rfl, Nat.le_of_ble_eq_true rfl⟩) (fun z78 u H locs hp78 hz hk hh => ?_)
  obtain rfl : z78 = min (cu_x k y c i m) (cu_x k y c (i + 1) m) := hp78
  refine xw_clp hh (xw_rSp F (c_M_high l G H.size (k_fr k y) (min (cu_x k y c i m) (cu_x k y c (i + 1) m)) (by omega)) lk_M_187 cd_M_high ss_M_high rfl rfl ⟨by decide, by decide⟩ rfl hl.1 rfl (Nat.le_of_ble_eq_true rfl) d_M_cut_81 ⟨Nat.le_of_ble_eq_true rfl, Nat.le_of_ble_eq_true rfl⟩) (fun z81 u H locs hp81 hz hk hh => ?_)
  obtain rfl : z81 = max (k_fr k y) (min (cu_x k y c i m) (cu_x k y c (i + 1) m)) := hp81
  refine lv_aload_n hx hb d_M_cut_84 rfl (lv_at hl 2 rfl) ?_
  refine xw_get F hh.1 (v := .ref (ma 19)) fl_M_56_6 0 rfl rfl d_M_cut_85 ?_
  refine lv_iload_n hx hb d_M_cut_88 rfl (lv_at hl 3 rfl) ?_
  refine xw_lald F hh.1 3 (f := k_to k) rfl (i := (y : Int)) (by omega) d_M_cut_89 ?_
  refine xw_topl (y := k_to k y) rfl ?_
  refine lv_lload hx hb d_M_cut_90 (lv_at hl 1 rfl) ?_
  refine lv_lload hx hb d_M_cut_92 (lv_at hl 0 rfl) ?_
  refine xw_clp hh (xw_rSp F (c_M_high l G H.size (cu_x k y c i m) (cu_x k y c (i + 1) m) (by omega)) lk_M_187 cd_M_high ss_M_high rfl rfl ⟨by decide, by decide⟩ rfl hl.1 rfl (Nat.le_of_ble_eq_true rfl) d_M_cut_94 ⟨Nat.le_of_ble_eq_true rfl, Nat.le_of_ble_eq_true rfl⟩) (fun z94 u H locs hp94 hz hk hh => ?_)
  obtain rfl : z94 = max (cu_x k y c i m) (cu_x k y c (i + 1) m) := hp94
  refine xw_clp hh (xw_rSp F (c_M_low l G H.size (k_to k y) (max (cu_x k y c i m) (cu_x k y c (i + 1) m)) (by omega)) lk_M_184 cd_M_low ss_M_low rfl rfl ⟨by decide, by decide⟩ rfl hl.1 rfl (Nat.le_of_ble_eq_true rfl) d_M_cut_97 ⟨Nat.le_of_ble_eq_true rfl, Nat.le_of_ble_eq_true rfl⟩) (fun z97 u H locs hp97 hz hk hh => ?_)
  obtain rfl : z97 = min (k_to k y) (max (cu_x k y c i m) (cu_x k y c (i + 1) m)) := hp97
  refine lv_lload hx hb d_M_cut_100 (lv_at hl 8 rfl) ?_
  refine lv_lload hx hb d_M_cut_102 (lv_at hl 9 rfl) ?_
  refine xw_cv (wc := [(mo, .inr (6, mo_ ma ty at0 dp (k_wy k) un pl sp pe tk du tm)), (ma 17, .inl (G.2.2 0, 50, .inl (ja_ (k_no k)))), (ma 18, .inl (G.2.2 1, 50, .inr (.inl (jl_ (k_fr k))))), (ma 19, .inl (G.2.2 1, 50, .inr (.inl (jl_ (k_to k))))), (ma 20, .inl (G.2.2 1, 50, .inr (.inl (jl_ (k_aa k))))), (ma 21, .inl (G.2.2 1, 50, .inr (.inl (jl_ (k_bb k))))), (ma 22, .inl (G.2.2 1, 50, .inr (.inl (jl_ (k_cy k))))), (ma 23, .inl (G.2.2 1, 50, .inr (.inl (jl_ (k_en k))))), (ma 24, .inl (G.2.2 0, 50, .inl (ja_ (k_sp k))))]) (wr := []) hh [0, 1, 2, 3, 4, 5, 6, 7, 8] [] rfl rfl rfl (by decide) (xw_rV F hh [0, 1, 2, 3, 4, 5, 6, 7, 8] rfl rfl (c_M_enterK l G H.size mo ma ty at0 dp un pl sp pe tk du tm k n (max (k_fr k y) (min (cu_x k y c i m) (cu_x k y c (i + 1) m))) (min (k_to k y) (max (cu_x k y c i m) (cu_x k y c (i + 1) m))) a b (by omega) (by omega) (by omega) (by omega)) trivial lk_M_190 cd_M_enter se_M_enter _ hh.1 0 rfl rfl rfl rfl ⟨by decide, by decide⟩ rfl hl.1 rfl (Nat.le_of_ble_eq_true rfl) d_M_cut_104 ⟨Nat.le_of_ble_eq_true rfl, Nat.le_of_ble_eq_true rfl⟩) (fun u H locs hp104 hX hz hk hh => ?_)
  have hh : xw_H G (va_A [(mo, .inr (6, mo_ ma ty at0 dp (k_wy k) un pl sp pe tk du tm)), (ma 17, .inl (G.2.2 0, 50, .inl (ja_ (k_no k)))), (ma 18, .inl (G.2.2 1, 50, .inr (.inl (jl_ (k_fr k))))), (ma 19, .inl (G.2.2 1, 50, .inr (.inl (jl_ (k_to k))))), (ma 20, .inl (G.2.2 1, 50, .inr (.inl (jl_ (k_aa k))))), (ma 21, .inl (G.2.2 1, 50, .inr (.inl (jl_ (k_bb k))))), (ma 22, .inl (G.2.2 1, 50, .inr (.inl (jl_ (k_cy k))))), (ma 23, .inl (G.2.2 1, 50, .inr (.inl (jl_ (k_en k))))), (ma 24, .inl (G.2.2 0, 50, .inl (ja_ (k_sp k))))] s.heap.size) s.heap H locs [(mo, .inr (6, mo_ ma ty at0 dp (k_wy u) un pl sp pe tk du tm)), (ma 17, .inl (G.2.2 0, 50, .inl (ja_ (k_no u)))), (ma 18, .inl (G.2.2 1, 50, .inr (.inl (jl_ (k_fr u))))), (ma 19, .inl (G.2.2 1, 50, .inr (.inl (jl_ (k_to u))))), (ma 20, .inl (G.2.2 1, 50, .inr (.inl (jl_ (k_aa u))))), (ma 21, .inl (G.2.2 1, 50, .inr (.inl (jl_ (k_bb u))))), (ma 22, .inl (G.2.2 1, 50, .inr (.inl (jl_ (k_cy u))))), (ma 23, .inl (G.2.2 1, 50, .inr (.inl (jl_ (k_en u))))), (ma 24, .inl (G.2.2 0, 50, .inl (ja_ (k_sp u))))] := hh
  exact xw_vret F hr hlk hh u rfl hp104 trivial d_M_cut_107
def rm_M_leaf : Room := { frames := 2, cells := 0, slots := 0, locals := 61 }
set_option maxHeartbeats 4000000 in
set_option maxRecDepth 100000 in
theorem c_M_leaf_Pa (l : Launch) (G : GG_) (sz : Nat) (mo : Nat) (ma : Nat → Nat) (ty at0 dp un pl sp pe tk du tm : Int) (k : MK) (y : Nat) (c le9 sl : Int) (hsl : 0 ≤ sl ∧ sl ≤ 7) (be so wh we le mn mu : Nat → Int) (li : Nat) (hli : li ≤ 2) (st : List Row_ × Bool) (hmr : mrr_ li be so wh we le mn mu st) (hy : y < 50) (hwy : 0 ≤ k_wy k ∧ k_wy k < 50) (haa : -1099511627776 ≤ k_aa k y ∧ k_aa k y ≤ 1099511627776) (hac : -12000000000000 ≤ k_aa k y * c + k_bb k y ∧ k_aa k y * c + k_bb k y ≤ 12000000000000) (hfr : -1099511627776 ≤ k_fr k y ∧ k_fr k y ≤ 1099511627776 ∧ -1099511627776 ≤ k_to k y ∧ k_to k y ≤ 1099511627776) (hle : 0 ≤ le9 ∧ le9 ≤ 65535) (F0 T0 : Int) (hF : F0 ≤ k_fr k y ∧ k_to k y ≤ T0) : Met l y_M_leaf (cw_ y_M_leaf b_M_leaf 15 none) rm_M_leaf (xw_P G [.ref mo, .int (xi_ (y : Int)), .long (xl_ c), .int (xi_ le9), .int (xi_ sl), .int (xi_ (li : Int))] sz [(mo, .inr (6, mo_ ma ty at0 dp (k_wy k) un pl sp pe tk du tm)), (ma 18, .inl (G.2.2 1, 50, .inr (.inl (jl_ (k_fr k))))), (ma 19, .inl (G.2.2 1, 50, .inr (.inl (jl_ (k_to k))))), (ma 20, .inl (G.2.2 1, 50, .inr (.inl (jl_ (k_aa k))))), (ma 21, .inl (G.2.2 1, 50, .inr (.inl (jl_ (k_bb k))))), (ma 27, .inl (G.2.2 1, 603, .inr (.inl (jl_ be)))), (ma 28, .inl (G.2.2 1, 603, .inr (.inl (jl_ so)))), (ma 29, .inl (G.2.2 1, 603, .inr (.inl (jl_ wh)))), (ma 30, .inl (G.2.2 1, 603, .inr (.inl (jl_ we)))), (ma 31, .inl (G.2.2 0, 603, .inl (ja_ le))), (ma 25, .inl (G.2.2 0, 3, .inl (ja_ mn))), (ma 26, .inl (G.2.2 3, 3, .inl (ja_ mu)))] (fun _ => True)) (xw_Qv (S := (Nat → Int) × (Nat → Int) × (Nat → Int) × (Nat → Int) × (Nat → Int) × (Nat → Int) × (Nat → Int)) G sz [(mo, .inr (6, mo_ ma ty at0 dp (k_wy k) un pl sp pe tk du tm)), (ma 18, .inl (G.2.2 1, 50, .inr (.inl (jl_ (k_fr k))))), (ma 19, .inl (G.2.2 1, 50, .inr (.inl (jl_ (k_to k))))), (ma 20, .inl (G.2.2 1, 50, .inr (.inl (jl_ (k_aa k))))), (ma 21, .inl (G.2.2 1, 50, .inr (.inl (jl_ (k_bb k))))), (ma 27, .inl (G.2.2 1, 603, .inr (.inl (jl_ be)))), (ma 28, .inl (G.2.2 1, 603, .inr (.inl (jl_ so)))), (ma 29, .inl (G.2.2 1, 603, .inr (.inl (jl_ wh)))), (ma 30, .inl (G.2.2 1, 603, .inr (.inl (jl_ we)))), (ma 31, .inl (G.2.2 0, 603, .inl (ja_ le))), (ma 25, .inl (G.2.2 0, 3, .inl (ja_ mn))), (ma 26, .inl (G.2.2 3, 3, .inl (ja_ mu)))] (fun u => mrr_ li u.1 u.2.1 u.2.2.1 u.2.2.2.1 u.2.2.2.2.1 u.2.2.2.2.2.1 u.2.2.2.2.2.2 (run_ 200 sk_pa (lf_ k y c le9) st) ∧ mkp_ li be so wh we le mn mu u.1 u.2.1 u.2.2.1 u.2.2.2.1 u.2.2.2.2.1 u.2.2.2.2.2.1 u.2.2.2.2.2.2) (fun u => [(mo, .inr (6, mo_ ma ty at0 dp (k_wy k) un pl sp pe tk du tm)), (ma 18, .inl (G.2.2 1, 50, .inr (.inl (jl_ (k_fr k))))), (ma 19, .inl (G.2.2 1, 50, .inr (.inl (jl_ (k_to k))))), (ma 20, .inl (G.2.2 1, 50, .inr (.inl (jl_ (k_aa k))))), (ma 21, .inl (G.2.2 1, 50, .inr (.inl (jl_ (k_bb k))))), (ma 27, .inl (G.2.2 1, 603, .inr (.inl (jl_ u.1)))), (ma 28, .inl (G.2.2 1, 603, .inr (.inl (jl_ u.2.1)))), (ma 29, .inl (G.2.2 1, 603, .inr (.inl (jl_ u.2.2.1)))), (ma 30, .inl (G.2.2 1, 603, .inr (.inl (jl_ u.2.2.2.1)))), (ma 31, .inl (G.2.2 0, 603, .inl (ja_ u.2.2.2.2.1))), (ma 25, .inl (G.2.2 0, 3, .inl (ja_ u.2.2.2.2.2.1))), (ma 26, .inl (G.2.2 3, 3, .inl (ja_ u.2.2.2.2.2.2)))]) (fun _ _ => True)) 0 0 (va_A [(mo, .inr (6, mo_ ma ty at0 dp (k_wy k) un pl sp pe tk du tm)), (ma 18, .inl (G.2.2 1, 50, .inr (.inl (jl_ (k_fr k))))), (ma 19, .inl (G.2.2 1, 50, .inr (.inl (jl_ (k_to k))))), (ma 20, .inl (G.2.2 1, 50, .inr (.inl (jl_ (k_aa k))))), (ma 21, .inl (G.2.2 1, 50, .inr (.inl (jl_ (k_bb k))))), (ma 27, .inl (G.2.2 1, 603, .inr (.inl (jl_ be)))), (ma 28, .inl (G.2.2 1, 603, .inr (.inl (jl_ so)))), (ma 29, .inl (G.2.2 1, 603, .inr (.inl (jl_ wh)))), (ma 30, .inl (G.2.2 1, 603, .inr (.inl (jl_ we)))), (ma 31, .inl (G.2.2 0, 603, .inl (ja_ le))), (ma 25, .inl (G.2.2 0, 3, .inl (ja_ mn))), (ma 26, .inl (G.2.2 3, 3, .inl (ja_ mu)))] sz) := by
  refine xw_met (by decide) (Nat.le_of_ble_eq_true rfl) ?_
  intro p0 e0 s m0 args below meth c0 F hr hlk hin hsz hh hX ls hl
  subst hsz
  have hx := F.1
  have hb := F.2.1
  have hl : lv_has ls 15 [(0, .ref mo), (1, .int (xi_ (y : Int))), (2, .long (xl_ c)), (4, .int (xi_ le9)), (5, .int (xi_ sl)), (6, .int (xi_ (li : Int)))] := hl
  have hcz : k_aa k y * (c + 1) = k_aa k y * c + k_aa k y := by rw [Int.mul_add, Int.mul_one]
  refine lv_aload_n hx hb d_M_leaf_0 rfl (lv_at hl 0 rfl) ?_
  refine xw_get F hh.1 (v := .ref (ma 20)) fl_M_59_6 0 rfl rfl d_M_leaf_1 ?_
  refine lv_iload_n hx hb d_M_leaf_4 rfl (lv_at hl 1 rfl) ?_
  refine xw_lald F hh.1 3 (f := k_aa k) rfl (i := (y : Int)) (by omega) d_M_leaf_5 ?_
  refine xw_topl (y := k_aa k y) rfl ?_
  refine lv_lload_n hx hb d_M_leaf_6 rfl (lv_at hl 2 rfl) ?_
  refine xw_lmul hx hb d_M_leaf_7 ?_
  refine lv_aload_n hx hb d_M_leaf_8 rfl (lv_at hl 0 rfl) ?_
  refine xw_get F hh.1 (v := .ref (ma 21)) fl_M_62_6 0 rfl rfl d_M_leaf_9 ?_
  refine lv_iload_n hx hb d_M_leaf_12 rfl (lv_at hl 1 rfl) ?_
  refine xw_lald F hh.1 4 (f := k_bb k) rfl (i := (y : Int)) (by omega) d_M_leaf_13 ?_
  refine xw_topl (y := k_bb k y) rfl ?_
  refine xw_ladd hx hb d_M_leaf_14 ?_
  refine xw_topl (y := k_aa k y * c + k_bb k y) rfl ?_
  refine lv_lstore (lv' := [(7, .long (xl_ (k_aa k y * c + k_bb k y))), (0, .ref mo), (1, .int (xi_ (y : Int))), (2, .long (xl_ c)), (4, .int (xi_ le9)), (5, .int (xi_ sl)), (6, .int (xi_ (li : Int)))]) hx hb d_M_leaf_15 hl (by decide) rfl (fun ls hl => ?_)
  refine lv_aload_n hx hb d_M_leaf_17 rfl (lv_at hl 1 rfl) ?_
  refine xw_get F hh.1 (v := .ref (ma 20)) fl_M_59_6 0 rfl rfl d_M_leaf_18 ?_
  refine lv_iload_n hx hb d_M_leaf_21 rfl (lv_at hl 2 rfl) ?_
  refine xw_lald F hh.1 3 (f := k_aa k) rfl (i := (y : Int)) (by omega) d_M_leaf_22 ?_
  refine xw_topl (y := k_aa k y) rfl ?_
  refine lv_lload_n hx hb d_M_leaf_23 rfl (lv_at hl 3 rfl) ?_
  refine lv_lconst (v := xl_ 1) hx hb d_M_leaf_24 (by decide) ?_
  refine xw_ladd hx hb d_M_leaf_25 ?_
  refine xw_lmul hx hb d_M_leaf_26 ?_
  refine lv_aload_n hx hb d_M_leaf_27 rfl (lv_at hl 1 rfl) ?_
  refine xw_get F hh.1 (v := .ref (ma 21)) fl_M_62_6 0 rfl rfl d_M_leaf_28 ?_
  refine lv_iload_n hx hb d_M_leaf_31 rfl (lv_at hl 2 rfl) ?_
  refine xw_lald F hh.1 4 (f := k_bb k) rfl (i := (y : Int)) (by omega) d_M_leaf_32 ?_
  refine xw_topl (y := k_bb k y) rfl ?_
  refine xw_ladd hx hb d_M_leaf_33 ?_
  refine xw_topl (y := k_aa k y * (c + 1) + k_bb k y) rfl ?_
  refine lv_lstore (lv' := [(9, .long (xl_ (k_aa k y * (c + 1) + k_bb k y))), (7, .long (xl_ (k_aa k y * c + k_bb k y))), (0, .ref mo), (1, .int (xi_ (y : Int))), (2, .long (xl_ c)), (4, .int (xi_ le9)), (5, .int (xi_ sl)), (6, .int (xi_ (li : Int)))]) hx hb d_M_leaf_34 hl (by decide) rfl (fun ls hl => ?_)
  refine lv_aload_n hx hb d_M_leaf_36 rfl (lv_at hl 2 rfl) ?_
  refine xw_get F hh.1 (v := .ref (ma 18)) fl_M_52_6 0 rfl rfl d_M_leaf_37 ?_
  refine lv_iload_n hx hb d_M_leaf_40 rfl (lv_at hl 3 rfl) ?_
  refine xw_lald F hh.1 1 (f := k_fr k) rfl (i := (y : Int)) (by omega) d_M_leaf_41 ?_
  refine xw_topl (y := k_fr k y) rfl ?_
  refine lv_lload hx hb d_M_leaf_42 (lv_at hl 1 rfl) ?_
  refine lv_lload hx hb d_M_leaf_44 (lv_at hl 0 rfl) ?_
  refine xw_clp hh (xw_rSp F (c_M_low l G s.heap.size (k_aa k y * c + k_bb k y) (k_aa k y * (c + 1) + k_bb k y) (by omega)) lk_M_184 cd_M_low ss_M_low rfl rfl ⟨by decide, by decide⟩ rfl hl.1 rfl (Nat.le_of_ble_eq_true rfl) d_M_leaf_46 ⟨Nat.le_of_ble_eq_true rfl, Nat.le_of_ble_eq_true rfl⟩) (fun z46 u H locs hp46 hz hk hh => ?_)
  obtain rfl : z46 = min (k_aa k y * c + k_bb k y) (k_aa k y * (c + 1) + k_bb k y) := hp46
  refine xw_clp hh (xw_rSp F (c_M_high l G H.size (k_fr k y) (min (k_aa k y * c + k_bb k y) (k_aa k y * (c + 1) + k_bb k y)) (by omega)) lk_M_187 cd_M_high ss_M_high rfl rfl ⟨by decide, by decide⟩ rfl hl.1 rfl (Nat.le_of_ble_eq_true rfl) d_M_leaf_49 ⟨Nat.le_of_ble_eq_true rfl, Nat.le_of_ble_eq_true rfl⟩) (fun z49 u H locs hp49 hz hk hh => ?_)
  obtain rfl : z49 = max (k_fr k y) (min (k_aa k y * c + k_bb k y) (k_aa k y * (c + 1) + k_bb k y)) := hp49
  refine lv_lstore (lv' := [(11, .long (xl_ (max (k_fr k y) (min (k_aa k y * c + k_bb k y) (k_aa k y * (c + 1) + k_bb k y))))), (9, .long (xl_ (k_aa k y * (c + 1) + k_bb k y))), (7, .long (xl_ (k_aa k y * c + k_bb k y))), (0, .ref mo), (1, .int (xi_ (y : Int))), (2, .long (xl_ c)), (4, .int (xi_ le9)), (5, .int (xi_ sl)), (6, .int (xi_ (li : Int)))]) hx hb d_M_leaf_52 hl (by decide) rfl (fun ls hl => ?_)
  refine lv_aload_n hx hb d_M_leaf_54 rfl (lv_at hl 3 rfl) ?_
  refine xw_get F hh.1 (v := .ref (ma 19)) fl_M_56_6 0 rfl rfl d_M_leaf_55 ?_
  refine lv_iload_n hx hb d_M_leaf_58 rfl (lv_at hl 4 rfl) ?_
  refine xw_lald F hh.1 2 (f := k_to k) rfl (i := (y : Int)) (by omega) d_M_leaf_59 ?_
  refine xw_topl (y := k_to k y) rfl ?_
  refine lv_lload hx hb d_M_leaf_60 (lv_at hl 2 rfl) ?_
  refine lv_lload hx hb d_M_leaf_62 (lv_at hl 1 rfl) ?_
  refine xw_clp hh (xw_rSp F (c_M_high l G H.size (k_aa k y * c + k_bb k y) (k_aa k y * (c + 1) + k_bb k y) (by omega)) lk_M_187 cd_M_high ss_M_high rfl rfl ⟨by decide, by decide⟩ rfl hl.1 rfl (Nat.le_of_ble_eq_true rfl) d_M_leaf_64 ⟨Nat.le_of_ble_eq_true rfl, Nat.le_of_ble_eq_true rfl⟩) (fun z64 u H locs hp64 hz hk hh => ?_)
  obtain rfl : z64 = max (k_aa k y * c + k_bb k y) (k_aa k y * (c + 1) + k_bb k y) := hp64
  refine xw_clp hh (xw_rSp F (c_M_low l G H.size (k_to k y) (max (k_aa k y * c + k_bb k y) (k_aa k y * (c + 1) + k_bb k y)) (by omega)) lk_M_184 cd_M_low ss_M_low rfl rfl ⟨by decide, by decide⟩ rfl hl.1 rfl (Nat.le_of_ble_eq_true rfl) d_M_leaf_67 ⟨Nat.le_of_ble_eq_true rfl, Nat.le_of_ble_eq_true rfl⟩) (fun z67 u H locs hp67 hz hk hh => ?_)
  obtain rfl : z67 = min (k_to k y) (max (k_aa k y * c + k_bb k y) (k_aa k y * (c + 1) + k_bb k y)) := hp67
  refine lv_lstore (lv' := [(13, .long (xl_ (min (k_to k y) (max (k_aa k y * c + k_bb k y) (k_aa k y * (c + 1) + k_bb k y))))), (11, .long (xl_ (max (k_fr k y) (min (k_aa k y * c + k_bb k y) (k_aa k y * (c + 1) + k_bb k y))))), (9, .long (xl_ (k_aa k y * (c + 1) + k_bb k y))), (7, .long (xl_ (k_aa k y * c + k_bb k y))), (0, .ref mo), (1, .int (xi_ (y : Int))), (2, .long (xl_ c)), (4, .int (xi_ le9)), (5, .int (xi_ sl)), (6, .int (xi_ (li : Int)))]) hx hb d_M_leaf_70 hl (by decide) rfl (fun ls hl => ?_)
  refine lv_lload hx hb d_M_leaf_72 (lv_at hl 1 rfl) ?_
  refine lv_lload hx hb d_M_leaf_74 (lv_at hl 0 rfl) ?_
  refine xw_lcmp_lt hx hb 81 d_M_leaf_76 d_M_leaf_77 (by decide) (by omega) (fun c76 => ?_) (fun c76 => ?_)
  · refine lv_iload hx hb d_M_leaf_81 (lv_at hl 9 rfl) ?_
    refine xw_if_lt hx hb 115 d_M_leaf_83 (by decide) (by omega) (fun c83 => absurd c83 (by omega)) (fun c83 => ?_)
    refine lv_aload_n hx hb d_M_leaf_86 rfl (lv_at hl 4 rfl) ?_
    refine lv_iload hx hb d_M_leaf_87 (lv_at hl 9 rfl) ?_
    refine lv_lload hx hb d_M_leaf_89 (lv_at hl 1 rfl) ?_
    refine lv_lload hx hb d_M_leaf_91 (lv_at hl 0 rfl) ?_
    refine lv_lload hx hb d_M_leaf_93 (lv_at hl 3 rfl) ?_
    refine lv_lload hx hb d_M_leaf_95 (lv_at hl 2 rfl) ?_
    refine xw_clp hh (xw_rSp F (c_M_low l G H.size (k_aa k y * c + k_bb k y) (k_aa k y * (c + 1) + k_bb k y) (by omega)) lk_M_184 cd_M_low ss_M_low rfl rfl ⟨by decide, by decide⟩ rfl hl.1 rfl (Nat.le_of_ble_eq_true rfl) d_M_leaf_97 ⟨Nat.le_of_ble_eq_true rfl, Nat.le_of_ble_eq_true rfl⟩) (fun z97 u H locs hp97 hz hk hh => ?_)
    obtain rfl : z97 = min (k_aa k y * c + k_bb k y) (k_aa k y * (c + 1) + k_bb k y) := hp97
    refine lv_lload hx hb d_M_leaf_100 (lv_at hl 3 rfl) ?_
    refine lv_lload hx hb d_M_leaf_102 (lv_at hl 2 rfl) ?_
    refine xw_clp hh (xw_rSp F (c_M_high l G H.size (k_aa k y * c + k_bb k y) (k_aa k y * (c + 1) + k_bb k y) (by omega)) lk_M_187 cd_M_high ss_M_high rfl rfl ⟨by decide, by decide⟩ rfl hl.1 rfl (Nat.le_of_ble_eq_true rfl) d_M_leaf_104 ⟨Nat.le_of_ble_eq_true rfl, Nat.le_of_ble_eq_true rfl⟩) (fun z104 u H locs hp104 hz hk hh => ?_)
    obtain rfl : z104 = max (k_aa k y * c + k_bb k y) (k_aa k y * (c + 1) + k_bb k y) := hp104
    refine lv_iload hx hb d_M_leaf_107 (lv_at hl 7 rfl) ?_
    refine xw_cv (wc := [(mo, .inr (6, mo_ ma ty at0 dp (k_wy k) un pl sp pe tk du tm)), (ma 27, .inl (G.2.2 1, 603, .inr (.inl (jl_ be)))), (ma 28, .inl (G.2.2 1, 603, .inr (.inl (jl_ so)))), (ma 29, .inl (G.2.2 1, 603, .inr (.inl (jl_ wh)))), (ma 30, .inl (G.2.2 1, 603, .inr (.inl (jl_ we)))), (ma 31, .inl (G.2.2 0, 603, .inl (ja_ le))), (ma 25, .inl (G.2.2 0, 3, .inl (ja_ mn))), (ma 26, .inl (G.2.2 3, 3, .inl (ja_ mu)))]) (wr := [(ma 18, .inl (G.2.2 1, 50, .inr (.inl (jl_ (k_fr k))))), (ma 19, .inl (G.2.2 1, 50, .inr (.inl (jl_ (k_to k))))), (ma 20, .inl (G.2.2 1, 50, .inr (.inl (jl_ (k_aa k))))), (ma 21, .inl (G.2.2 1, 50, .inr (.inl (jl_ (k_bb k)))))]) hh [0, 5, 6, 7, 8, 9, 10, 11] [1, 2, 3, 4] rfl rfl rfl (by decide) (xw_rV F hh [0, 5, 6, 7, 8, 9, 10, 11] rfl rfl (c_M_add l G H.size mo ma ty at0 dp (k_wy k) un pl sp pe tk du tm be so wh we le mn mu li hli st hmr (max (k_fr k y) (min (k_aa k y * c + k_bb k y) (k_aa k y * (c + 1) + k_bb k y))) (min (k_aa k y * c + k_bb k y) (k_aa k y * (c + 1) + k_bb k y)) (min (k_to k y) (max (k_aa k y * c + k_bb k y) (k_aa k y * (c + 1) + k_bb k y))) (max (k_aa k y * c + k_bb k y) (k_aa k y * (c + 1) + k_bb k y)) le9 (by omega)) trivial lk_M_216 cd_M_add se_M_add _ hh.1 0 rfl rfl rfl rfl ⟨by decide, by decide⟩ rfl hl.1 rfl (Nat.le_of_ble_eq_true rfl) d_M_leaf_109 ⟨Nat.le_of_ble_eq_true rfl, Nat.le_of_ble_eq_true rfl⟩) (fun u H locs hp109 hX hz hk hh => ?_)
    have hh : xw_H G (va_A [(mo, .inr (6, mo_ ma ty at0 dp (k_wy k) un pl sp pe tk du tm)), (ma 18, .inl (G.2.2 1, 50, .inr (.inl (jl_ (k_fr k))))), (ma 19, .inl (G.2.2 1, 50, .inr (.inl (jl_ (k_to k))))), (ma 20, .inl (G.2.2 1, 50, .inr (.inl (jl_ (k_aa k))))), (ma 21, .inl (G.2.2 1, 50, .inr (.inl (jl_ (k_bb k))))), (ma 27, .inl (G.2.2 1, 603, .inr (.inl (jl_ be)))), (ma 28, .inl (G.2.2 1, 603, .inr (.inl (jl_ so)))), (ma 29, .inl (G.2.2 1, 603, .inr (.inl (jl_ wh)))), (ma 30, .inl (G.2.2 1, 603, .inr (.inl (jl_ we)))), (ma 31, .inl (G.2.2 0, 603, .inl (ja_ le))), (ma 25, .inl (G.2.2 0, 3, .inl (ja_ mn))), (ma 26, .inl (G.2.2 3, 3, .inl (ja_ mu)))] s.heap.size) s.heap H locs [(mo, .inr (6, mo_ ma ty at0 dp (k_wy k) un pl sp pe tk du tm)), (ma 18, .inl (G.2.2 1, 50, .inr (.inl (jl_ (k_fr k))))), (ma 19, .inl (G.2.2 1, 50, .inr (.inl (jl_ (k_to k))))), (ma 20, .inl (G.2.2 1, 50, .inr (.inl (jl_ (k_aa k))))), (ma 21, .inl (G.2.2 1, 50, .inr (.inl (jl_ (k_bb k))))), (ma 27, .inl (G.2.2 1, 603, .inr (.inl (jl_ u.1)))), (ma 28, .inl (G.2.2 1, 603, .inr (.inl (jl_ u.2.1)))), (ma 29, .inl (G.2.2 1, 603, .inr (.inl (jl_ u.2.2.1)))), (ma 30, .inl (G.2.2 1, 603, .inr (.inl (jl_ u.2.2.2.1)))), (ma 31, .inl (G.2.2 0, 603, .inl (ja_ u.2.2.2.2.1))), (ma 25, .inl (G.2.2 0, 3, .inl (ja_ u.2.2.2.2.2.1))), (ma 26, .inl (G.2.2 3, 3, .inl (ja_ u.2.2.2.2.2.2)))] := xw_H.sub hh [4, 0, 1, 2, 3, 5, 6, 7, 8, 9, 10, 11] rfl rfl
    refine lv_goto (tgt := 145) hx hb d_M_leaf_112 (by decide) ?_
    have elf : lf_ k y c le9 = [(le9, min (k_aa k y * c + k_bb k y) (k_aa k y * (c + 1) + k_bb k y), max (k_aa k y * c + k_bb k y) (k_aa k y * (c + 1) + k_bb k y), k_fr k y, k_to k y)] := by
      unfold lf_
      exact if_pos (by omega)
    have er : run_ 200 sk_pa [(le9, min (k_aa k y * c + k_bb k y) (k_aa k y * (c + 1) + k_bb k y), max (k_aa k y * c + k_bb k y) (k_aa k y * (c + 1) + k_bb k y), k_fr k y, k_to k y)] st = a_add 200 st (max (k_fr k y) (min (k_aa k y * c + k_bb k y) (k_aa k y * (c + 1) + k_bb k y)), min (k_aa k y * c + k_bb k y) (k_aa k y * (c + 1) + k_bb k y), min (k_to k y) (max (k_aa k y * c + k_bb k y) (k_aa k y * (c + 1) + k_bb k y)), max (k_aa k y * c + k_bb k y) (k_aa k y * (c + 1) + k_bb k y), le9) := by
      show a_add 200 st (max (min (k_aa k y * c + k_bb k y) (k_aa k y * (c + 1) + k_bb k y)) (k_fr k y), min (k_aa k y * c + k_bb k y) (k_aa k y * (c + 1) + k_bb k y), min (max (k_aa k y * c + k_bb k y) (k_aa k y * (c + 1) + k_bb k y)) (k_to k y), max (k_aa k y * c + k_bb k y) (k_aa k y * (c + 1) + k_bb k y), le9) = _
      rw [Int.max_comm (min (k_aa k y * c + k_bb k y) (k_aa k y * (c + 1) + k_bb k y)), Int.min_comm (max (k_aa k y * c + k_bb k y) (k_aa k y * (c + 1) + k_bb k y))]
    rw [elf, er]
    exact xw_vret F hr hlk hh u rfl hp109 trivial d_M_leaf_145
  · have elf : lf_ k y c le9 = [] := by
      unfold lf_
      exact if_neg (by omega)
    rw [elf]
    exact xw_vret F hr hlk hh (be, so, wh, we, le, mn, mu) rfl ⟨hmr, mkp_refl _ _ _ _ _ _ _ _⟩ trivial d_M_leaf_80
set_option maxHeartbeats 4000000 in
set_option maxRecDepth 100000 in
theorem c_M_leaf_On (l : Launch) (G : GG_) (sz : Nat) (mo : Nat) (ma : Nat → Nat) (ty at0 dp un pl sp pe tk : Int) (k : MK) (y : Nat) (c le9 sl : Int) (hsl : 0 ≤ sl ∧ sl ≤ 7) (gr dt ds dl da dm de : Nat → Int) (st : List Row_ × Bool) (hone : 1 ≤ sp * gr sl.toNat ∧ sp * gr sl.toNat ≤ 1000000) (hspg : (0 ≤ sp ∧ sp ≤ 20) ∧ 1 ≤ gr sl.toNat ∧ gr sl.toNat ≤ 5040) (hmd : mdd_ dt ds dl da dm de (lasts_ gr sp) st) (hy : y < 50) (hwy : 0 ≤ k_wy k ∧ k_wy k < 50) (haa : -1099511627776 ≤ k_aa k y ∧ k_aa k y ≤ 1099511627776) (hac : -12000000000000 ≤ k_aa k y * c + k_bb k y ∧ k_aa k y * c + k_bb k y ≤ 12000000000000) (hfr : -1099511627776 ≤ k_fr k y ∧ k_fr k y ≤ 1099511627776 ∧ -1099511627776 ≤ k_to k y ∧ k_to k y ≤ 1099511627776) (hle : 0 ≤ le9 ∧ le9 ≤ 65535) (F0 T0 : Int) (htick : ∀ v : Int, F0 ≤ v → v < T0 → -2000000000 ≤ v / (sp * gr sl.toNat) ∧ v / (sp * gr sl.toNat) ≤ 2000000000) (hF : F0 ≤ k_fr k y ∧ k_to k y ≤ T0) : Met l y_M_leaf (cw_ y_M_leaf b_M_leaf 15 none) rm_M_leaf (xw_P G [.ref mo, .int (xi_ (y : Int)), .long (xl_ c), .int (xi_ le9), .int (xi_ sl), .int (xi_ (-1))] sz [(mo, .inr (6, mo_ ma ty at0 dp (k_wy k) un pl sp pe tk (st.1.length : Int) (b2_ st.2))), (ma 18, .inl (G.2.2 1, 50, .inr (.inl (jl_ (k_fr k))))), (ma 19, .inl (G.2.2 1, 50, .inr (.inl (jl_ (k_to k))))), (ma 20, .inl (G.2.2 1, 50, .inr (.inl (jl_ (k_aa k))))), (ma 21, .inl (G.2.2 1, 50, .inr (.inl (jl_ (k_bb k))))), (ma 12, .inl (G.2.2 0, 9, .inl (ja_ gr))), (ma 39, .inl (G.2.2 0, 101, .inl (ja_ dt))), (ma 40, .inl (G.2.2 0, 101, .inl (ja_ ds))), (ma 41, .inl (G.2.2 0, 101, .inl (ja_ dl))), (ma 42, .inl (G.2.2 0, 101, .inl (ja_ da))), (ma 43, .inl (G.2.2 1, 101, .inr (.inl (jl_ dm)))), (ma 44, .inl (G.2.2 1, 101, .inr (.inl (jl_ de))))] (fun _ => True)) (xw_Qv (S := (Nat → Int) × (Nat → Int) × (Nat → Int) × (Nat → Int) × (Nat → Int) × (Nat → Int)) G sz [(mo, .inr (6, mo_ ma ty at0 dp (k_wy k) un pl sp pe tk (st.1.length : Int) (b2_ st.2))), (ma 18, .inl (G.2.2 1, 50, .inr (.inl (jl_ (k_fr k))))), (ma 19, .inl (G.2.2 1, 50, .inr (.inl (jl_ (k_to k))))), (ma 20, .inl (G.2.2 1, 50, .inr (.inl (jl_ (k_aa k))))), (ma 21, .inl (G.2.2 1, 50, .inr (.inl (jl_ (k_bb k))))), (ma 12, .inl (G.2.2 0, 9, .inl (ja_ gr))), (ma 39, .inl (G.2.2 0, 101, .inl (ja_ dt))), (ma 40, .inl (G.2.2 0, 101, .inl (ja_ ds))), (ma 41, .inl (G.2.2 0, 101, .inl (ja_ dl))), (ma 42, .inl (G.2.2 0, 101, .inl (ja_ da))), (ma 43, .inl (G.2.2 1, 101, .inr (.inl (jl_ dm)))), (ma 44, .inl (G.2.2 1, 101, .inr (.inl (jl_ de))))] (fun u => mdd_ u.1 u.2.1 u.2.2.1 u.2.2.2.1 u.2.2.2.2.1 u.2.2.2.2.2 (lasts_ gr sp) (run_ 100 (sk_on sl (sp * gr sl.toNat)) (lf_ k y c le9) st)) (fun u => [(mo, .inr (6, mo_ ma ty at0 dp (k_wy k) un pl sp pe tk ((run_ 100 (sk_on sl (sp * gr sl.toNat)) (lf_ k y c le9) st).1.length : Int) (b2_ (run_ 100 (sk_on sl (sp * gr sl.toNat)) (lf_ k y c le9) st).2))), (ma 18, .inl (G.2.2 1, 50, .inr (.inl (jl_ (k_fr k))))), (ma 19, .inl (G.2.2 1, 50, .inr (.inl (jl_ (k_to k))))), (ma 20, .inl (G.2.2 1, 50, .inr (.inl (jl_ (k_aa k))))), (ma 21, .inl (G.2.2 1, 50, .inr (.inl (jl_ (k_bb k))))), (ma 12, .inl (G.2.2 0, 9, .inl (ja_ gr))), (ma 39, .inl (G.2.2 0, 101, .inl (ja_ u.1))), (ma 40, .inl (G.2.2 0, 101, .inl (ja_ u.2.1))), (ma 41, .inl (G.2.2 0, 101, .inl (ja_ u.2.2.1))), (ma 42, .inl (G.2.2 0, 101, .inl (ja_ u.2.2.2.1))), (ma 43, .inl (G.2.2 1, 101, .inr (.inl (jl_ u.2.2.2.2.1)))), (ma 44, .inl (G.2.2 1, 101, .inr (.inl (jl_ u.2.2.2.2.2))))]) (fun _ _ => True)) 0 0 (va_A [(mo, .inr (6, mo_ ma ty at0 dp (k_wy k) un pl sp pe tk (st.1.length : Int) (b2_ st.2))), (ma 18, .inl (G.2.2 1, 50, .inr (.inl (jl_ (k_fr k))))), (ma 19, .inl (G.2.2 1, 50, .inr (.inl (jl_ (k_to k))))), (ma 20, .inl (G.2.2 1, 50, .inr (.inl (jl_ (k_aa k))))), (ma 21, .inl (G.2.2 1, 50, .inr (.inl (jl_ (k_bb k))))), (ma 12, .inl (G.2.2 0, 9, .inl (ja_ gr))), (ma 39, .inl (G.2.2 0, 101, .inl (ja_ dt))), (ma 40, .inl (G.2.2 0, 101, .inl (ja_ ds))), (ma 41, .inl (G.2.2 0, 101, .inl (ja_ dl))), (ma 42, .inl (G.2.2 0, 101, .inl (ja_ da))), (ma 43, .inl (G.2.2 1, 101, .inr (.inl (jl_ dm)))), (ma 44, .inl (G.2.2 1, 101, .inr (.inl (jl_ de))))] sz) := by
  refine xw_met (by decide) (Nat.le_of_ble_eq_true rfl) ?_
  intro p0 e0 s m0 args below meth c0 F hr hlk hin hsz hh hX ls hl
  subst hsz
  have hx := F.1
  have hb := F.2.1
  have hl : lv_has ls 15 [(0, .ref mo), (1, .int (xi_ (y : Int))), (2, .long (xl_ c)), (4, .int (xi_ le9)), (5, .int (xi_ sl)), (6, .int (xi_ (-1)))] := hl
  have hcz : k_aa k y * (c + 1) = k_aa k y * c + k_aa k y := by rw [Int.mul_add, Int.mul_one]
  refine lv_aload_n hx hb d_M_leaf_0 rfl (lv_at hl 0 rfl) ?_
  refine xw_get F hh.1 (v := .ref (ma 20)) fl_M_59_6 0 rfl rfl d_M_leaf_1 ?_
  refine lv_iload_n hx hb d_M_leaf_4 rfl (lv_at hl 1 rfl) ?_
  refine xw_lald F hh.1 3 (f := k_aa k) rfl (i := (y : Int)) (by omega) d_M_leaf_5 ?_
  refine xw_topl (y := k_aa k y) rfl ?_
  refine lv_lload_n hx hb d_M_leaf_6 rfl (lv_at hl 2 rfl) ?_
  refine xw_lmul hx hb d_M_leaf_7 ?_
  refine lv_aload_n hx hb d_M_leaf_8 rfl (lv_at hl 0 rfl) ?_
  refine xw_get F hh.1 (v := .ref (ma 21)) fl_M_62_6 0 rfl rfl d_M_leaf_9 ?_
  refine lv_iload_n hx hb d_M_leaf_12 rfl (lv_at hl 1 rfl) ?_
  refine xw_lald F hh.1 4 (f := k_bb k) rfl (i := (y : Int)) (by omega) d_M_leaf_13 ?_
  refine xw_topl (y := k_bb k y) rfl ?_
  refine xw_ladd hx hb d_M_leaf_14 ?_
  refine xw_topl (y := k_aa k y * c + k_bb k y) rfl ?_
  refine lv_lstore (lv' := [(7, .long (xl_ (k_aa k y * c + k_bb k y))), (0, .ref mo), (1, .int (xi_ (y : Int))), (2, .long (xl_ c)), (4, .int (xi_ le9)), (5, .int (xi_ sl)), (6, .int (xi_ (-1)))]) hx hb d_M_leaf_15 hl (by decide) rfl (fun ls hl => ?_)
  refine lv_aload_n hx hb d_M_leaf_17 rfl (lv_at hl 1 rfl) ?_
  refine xw_get F hh.1 (v := .ref (ma 20)) fl_M_59_6 0 rfl rfl d_M_leaf_18 ?_
  refine lv_iload_n hx hb d_M_leaf_21 rfl (lv_at hl 2 rfl) ?_
  refine xw_lald F hh.1 3 (f := k_aa k) rfl (i := (y : Int)) (by omega) d_M_leaf_22 ?_
  refine xw_topl (y := k_aa k y) rfl ?_
  refine lv_lload_n hx hb d_M_leaf_23 rfl (lv_at hl 3 rfl) ?_
  refine lv_lconst (v := xl_ 1) hx hb d_M_leaf_24 (by decide) ?_
  refine xw_ladd hx hb d_M_leaf_25 ?_
  refine xw_lmul hx hb d_M_leaf_26 ?_
  refine lv_aload_n hx hb d_M_leaf_27 rfl (lv_at hl 1 rfl) ?_
  refine xw_get F hh.1 (v := .ref (ma 21)) fl_M_62_6 0 rfl rfl d_M_leaf_28 ?_
  refine lv_iload_n hx hb d_M_leaf_31 rfl (lv_at hl 2 rfl) ?_
  refine xw_lald F hh.1 4 (f := k_bb k) rfl (i := (y : Int)) (by omega) d_M_leaf_32 ?_
  refine xw_topl (y := k_bb k y) rfl ?_
  refine xw_ladd hx hb d_M_leaf_33 ?_
  refine xw_topl (y := k_aa k y * (c + 1) + k_bb k y) rfl ?_
  refine lv_lstore (lv' := [(9, .long (xl_ (k_aa k y * (c + 1) + k_bb k y))), (7, .long (xl_ (k_aa k y * c + k_bb k y))), (0, .ref mo), (1, .int (xi_ (y : Int))), (2, .long (xl_ c)), (4, .int (xi_ le9)), (5, .int (xi_ sl)), (6, .int (xi_ (-1)))]) hx hb d_M_leaf_34 hl (by decide) rfl (fun ls hl => ?_)
  refine lv_aload_n hx hb d_M_leaf_36 rfl (lv_at hl 2 rfl) ?_
  refine xw_get F hh.1 (v := .ref (ma 18)) fl_M_52_6 0 rfl rfl d_M_leaf_37 ?_
  refine lv_iload_n hx hb d_M_leaf_40 rfl (lv_at hl 3 rfl) ?_
  refine xw_lald F hh.1 1 (f := k_fr k) rfl (i := (y : Int)) (by omega) d_M_leaf_41 ?_
  refine xw_topl (y := k_fr k y) rfl ?_
  refine lv_lload hx hb d_M_leaf_42 (lv_at hl 1 rfl) ?_
  refine lv_lload hx hb d_M_leaf_44 (lv_at hl 0 rfl) ?_
  refine xw_clp hh (xw_rSp F (c_M_low l G s.heap.size (k_aa k y * c + k_bb k y) (k_aa k y * (c + 1) + k_bb k y) (by omega)) lk_M_184 cd_M_low ss_M_low rfl rfl ⟨by decide, by decide⟩ rfl hl.1 rfl (Nat.le_of_ble_eq_true rfl) d_M_leaf_46 ⟨Nat.le_of_ble_eq_true rfl, Nat.le_of_ble_eq_true rfl⟩) (fun z46 u H locs hp46 hz hk hh => ?_)
  obtain rfl : z46 = min (k_aa k y * c + k_bb k y) (k_aa k y * (c + 1) + k_bb k y) := hp46
  refine xw_clp hh (xw_rSp F (c_M_high l G H.size (k_fr k y) (min (k_aa k y * c + k_bb k y) (k_aa k y * (c + 1) + k_bb k y)) (by omega)) lk_M_187 cd_M_high ss_M_high rfl rfl ⟨by decide, by decide⟩ rfl hl.1 rfl (Nat.le_of_ble_eq_true rfl) d_M_leaf_49 ⟨Nat.le_of_ble_eq_true rfl, Nat.le_of_ble_eq_true rfl⟩) (fun z49 u H locs hp49 hz hk hh => ?_)
  obtain rfl : z49 = max (k_fr k y) (min (k_aa k y * c + k_bb k y) (k_aa k y * (c + 1) + k_bb k y)) := hp49
  refine lv_lstore (lv' := [(11, .long (xl_ (max (k_fr k y) (min (k_aa k y * c + k_bb k y) (k_aa k y * (c + 1) + k_bb k y))))), (9, .long (xl_ (k_aa k y * (c + 1) + k_bb k y))), (7, .long (xl_ (k_aa k y * c + k_bb k y))), (0, .ref mo), (1, .int (xi_ (y : Int))), (2, .long (xl_ c)), (4, .int (xi_ le9)), (5, .int (xi_ sl)), (6, .int (xi_ (-1)))]) hx hb d_M_leaf_52 hl (by decide) rfl (fun ls hl => ?_)
  refine lv_aload_n hx hb d_M_leaf_54 rfl (lv_at hl 3 rfl) ?_
  refine xw_get F hh.1 (v := .ref (ma 19)) fl_M_56_6 0 rfl rfl d_M_leaf_55 ?_
  refine lv_iload_n hx hb d_M_leaf_58 rfl (lv_at hl 4 rfl) ?_
  refine xw_lald F hh.1 2 (f := k_to k) rfl (i := (y : Int)) (by omega) d_M_leaf_59 ?_
  refine xw_topl (y := k_to k y) rfl ?_
  refine lv_lload hx hb d_M_leaf_60 (lv_at hl 2 rfl) ?_
  refine lv_lload hx hb d_M_leaf_62 (lv_at hl 1 rfl) ?_
  refine xw_clp hh (xw_rSp F (c_M_high l G H.size (k_aa k y * c + k_bb k y) (k_aa k y * (c + 1) + k_bb k y) (by omega)) lk_M_187 cd_M_high ss_M_high rfl rfl ⟨by decide, by decide⟩ rfl hl.1 rfl (Nat.le_of_ble_eq_true rfl) d_M_leaf_64 ⟨Nat.le_of_ble_eq_true rfl, Nat.le_of_ble_eq_true rfl⟩) (fun z64 u H locs hp64 hz hk hh => ?_)
  obtain rfl : z64 = max (k_aa k y * c + k_bb k y) (k_aa k y * (c + 1) + k_bb k y) := hp64
  refine xw_clp hh (xw_rSp F (c_M_low l G H.size (k_to k y) (max (k_aa k y * c + k_bb k y) (k_aa k y * (c + 1) + k_bb k y)) (by omega)) lk_M_184 cd_M_low ss_M_low rfl rfl ⟨by decide, by decide⟩ rfl hl.1 rfl (Nat.le_of_ble_eq_true rfl) d_M_leaf_67 ⟨Nat.le_of_ble_eq_true rfl, Nat.le_of_ble_eq_true rfl⟩) (fun z67 u H locs hp67 hz hk hh => ?_)
  obtain rfl : z67 = min (k_to k y) (max (k_aa k y * c + k_bb k y) (k_aa k y * (c + 1) + k_bb k y)) := hp67
  refine lv_lstore (lv' := [(13, .long (xl_ (min (k_to k y) (max (k_aa k y * c + k_bb k y) (k_aa k y * (c + 1) + k_bb k y))))), (11, .long (xl_ (max (k_fr k y) (min (k_aa k y * c + k_bb k y) (k_aa k y * (c + 1) + k_bb k y))))), (9, .long (xl_ (k_aa k y * (c + 1) + k_bb k y))), (7, .long (xl_ (k_aa k y * c + k_bb k y))), (0, .ref mo), (1, .int (xi_ (y : Int))), (2, .long (xl_ c)), (4, .int (xi_ le9)), (5, .int (xi_ sl)), (6, .int (xi_ (-1)))]) hx hb d_M_leaf_70 hl (by decide) rfl (fun ls hl => ?_)
  refine lv_lload hx hb d_M_leaf_72 (lv_at hl 1 rfl) ?_
  refine lv_lload hx hb d_M_leaf_74 (lv_at hl 0 rfl) ?_
  refine xw_lcmp_lt hx hb 81 d_M_leaf_76 d_M_leaf_77 (by decide) (by omega) (fun c76 => ?_) (fun c76 => ?_)
  · refine lv_iload hx hb d_M_leaf_81 (lv_at hl 9 rfl) ?_
    refine xw_if_lt hx hb 115 d_M_leaf_83 (by decide) (by decide) (fun c83 => ?_) (fun c83 => absurd c83 (by decide))
    refine lv_lload hx hb d_M_leaf_115 (lv_at hl 1 rfl) ?_
    refine lv_lload hx hb d_M_leaf_117 (lv_at hl 3 rfl) ?_
    refine lv_lload hx hb d_M_leaf_119 (lv_at hl 2 rfl) ?_
    refine xw_clp hh (xw_rSp F (c_M_low l G H.size (k_aa k y * c + k_bb k y) (k_aa k y * (c + 1) + k_bb k y) (by omega)) lk_M_184 cd_M_low ss_M_low rfl rfl ⟨by decide, by decide⟩ rfl hl.1 rfl (Nat.le_of_ble_eq_true rfl) d_M_leaf_121 ⟨Nat.le_of_ble_eq_true rfl, Nat.le_of_ble_eq_true rfl⟩) (fun z121 u H locs hp121 hz hk hh => ?_)
    obtain rfl : z121 = min (k_aa k y * c + k_bb k y) (k_aa k y * (c + 1) + k_bb k y) := hp121
    refine xw_lcmp_ne hx hb 145 d_M_leaf_124 d_M_leaf_125 (by decide) (by omega) (fun c124 => ?_) (fun c124 => ?_)
    · have elf : lf_ k y c le9 = [(le9, min (k_aa k y * c + k_bb k y) (k_aa k y * (c + 1) + k_bb k y), max (k_aa k y * c + k_bb k y) (k_aa k y * (c + 1) + k_bb k y), k_fr k y, k_to k y)] := by
        unfold lf_
        exact if_pos (by omega)
      have er : run_ 100 (sk_on sl (sp * gr sl.toNat)) [(le9, min (k_aa k y * c + k_bb k y) (k_aa k y * (c + 1) + k_bb k y), max (k_aa k y * c + k_bb k y) (k_aa k y * (c + 1) + k_bb k y), k_fr k y, k_to k y)] st = st := by
        show ((if k_fr k y ≤ min (k_aa k y * c + k_bb k y) (k_aa k y * (c + 1) + k_bb k y) then [(min (k_aa k y * c + k_bb k y) (k_aa k y * (c + 1) + k_bb k y) / (sp * gr sl.toNat), sl, min (k_aa k y * c + k_bb k y) (k_aa k y * (c + 1) + k_bb k y), max (k_aa k y * c + k_bb k y) (k_aa k y * (c + 1) + k_bb k y), le9)] else []) ++ []).foldl (a_add 100) st = _
        rw [if_neg (by omega)]
        rfl
      rw [elf, er]
      exact xw_vret F hr hlk hh (dt, ds, dl, da, dm, de) rfl hmd trivial d_M_leaf_145
    · refine lv_aload_n hx hb d_M_leaf_128 rfl (lv_at hl 4 rfl) ?_
      refine lv_iload hx hb d_M_leaf_129 (lv_at hl 8 rfl) ?_
      refine lv_lload hx hb d_M_leaf_131 (lv_at hl 1 rfl) ?_
      refine lv_lload hx hb d_M_leaf_133 (lv_at hl 3 rfl) ?_
      refine lv_lload hx hb d_M_leaf_135 (lv_at hl 2 rfl) ?_
      refine xw_clp hh (xw_rSp F (c_M_high l G H.size (k_aa k y * c + k_bb k y) (k_aa k y * (c + 1) + k_bb k y) (by omega)) lk_M_187 cd_M_high ss_M_high rfl rfl ⟨by decide, by decide⟩ rfl hl.1 rfl (Nat.le_of_ble_eq_true rfl) d_M_leaf_137 ⟨Nat.le_of_ble_eq_true rfl, Nat.le_of_ble_eq_true rfl⟩) (fun z137 u H locs hp137 hz hk hh => ?_)
      obtain rfl : z137 = max (k_aa k y * c + k_bb k y) (k_aa k y * (c + 1) + k_bb k y) := hp137
      refine lv_iload hx hb d_M_leaf_140 (lv_at hl 7 rfl) ?_
      have hbt := htick (max (k_fr k y) (min (k_aa k y * c + k_bb k y) (k_aa k y * (c + 1) + k_bb k y))) (by omega) (by omega)
      refine xw_cv (wc := [(mo, .inr (6, mo_ ma ty at0 dp (k_wy k) un pl sp pe tk (st.1.length : Int) (b2_ st.2))), (ma 12, .inl (G.2.2 0, 9, .inl (ja_ gr))), (ma 39, .inl (G.2.2 0, 101, .inl (ja_ dt))), (ma 40, .inl (G.2.2 0, 101, .inl (ja_ ds))), (ma 41, .inl (G.2.2 0, 101, .inl (ja_ dl))), (ma 42, .inl (G.2.2 0, 101, .inl (ja_ da))), (ma 43, .inl (G.2.2 1, 101, .inr (.inl (jl_ dm)))), (ma 44, .inl (G.2.2 1, 101, .inr (.inl (jl_ de))))]) (wr := [(ma 18, .inl (G.2.2 1, 50, .inr (.inl (jl_ (k_fr k))))), (ma 19, .inl (G.2.2 1, 50, .inr (.inl (jl_ (k_to k))))), (ma 20, .inl (G.2.2 1, 50, .inr (.inl (jl_ (k_aa k))))), (ma 21, .inl (G.2.2 1, 50, .inr (.inl (jl_ (k_bb k)))))]) hh [0, 5, 6, 7, 8, 9, 10, 11] [1, 2, 3, 4] rfl rfl rfl (by decide) (xw_rV F hh [0, 5, 6, 7, 8, 9, 10, 11] rfl rfl (c_M_addOnset l G H.size mo ma ty at0 dp (k_wy k) un pl sp pe tk gr dt ds dl da dm de st sl (max (k_fr k y) (min (k_aa k y * c + k_bb k y) (k_aa k y * (c + 1) + k_bb k y))) (max (k_aa k y * c + k_bb k y) (k_aa k y * (c + 1) + k_bb k y)) le9 hsl hone hspg hmd (by omega) (by omega) hbt hle) trivial lk_M_220 cd_M_addOnset se_M_addOnset _ hh.1 0 rfl rfl rfl rfl ⟨by decide, by decide⟩ rfl hl.1 rfl (Nat.le_of_ble_eq_true rfl) d_M_leaf_142 ⟨Nat.le_of_ble_eq_true rfl, Nat.le_of_ble_eq_true rfl⟩) (fun u H locs hp142 hX hz hk hh => ?_)
      have hh : xw_H G (va_A [(mo, .inr (6, mo_ ma ty at0 dp (k_wy k) un pl sp pe tk (st.1.length : Int) (b2_ st.2))), (ma 18, .inl (G.2.2 1, 50, .inr (.inl (jl_ (k_fr k))))), (ma 19, .inl (G.2.2 1, 50, .inr (.inl (jl_ (k_to k))))), (ma 20, .inl (G.2.2 1, 50, .inr (.inl (jl_ (k_aa k))))), (ma 21, .inl (G.2.2 1, 50, .inr (.inl (jl_ (k_bb k))))), (ma 12, .inl (G.2.2 0, 9, .inl (ja_ gr))), (ma 39, .inl (G.2.2 0, 101, .inl (ja_ dt))), (ma 40, .inl (G.2.2 0, 101, .inl (ja_ ds))), (ma 41, .inl (G.2.2 0, 101, .inl (ja_ dl))), (ma 42, .inl (G.2.2 0, 101, .inl (ja_ da))), (ma 43, .inl (G.2.2 1, 101, .inr (.inl (jl_ dm)))), (ma 44, .inl (G.2.2 1, 101, .inr (.inl (jl_ de))))] s.heap.size) s.heap H locs [(mo, .inr (6, mo_ ma ty at0 dp (k_wy k) un pl sp pe tk ((a_add 100 st (max (k_fr k y) (min (k_aa k y * c + k_bb k y) (k_aa k y * (c + 1) + k_bb k y)) / (sp * gr sl.toNat), sl, max (k_fr k y) (min (k_aa k y * c + k_bb k y) (k_aa k y * (c + 1) + k_bb k y)), max (k_aa k y * c + k_bb k y) (k_aa k y * (c + 1) + k_bb k y), le9)).1.length : Int) (b2_ (a_add 100 st (max (k_fr k y) (min (k_aa k y * c + k_bb k y) (k_aa k y * (c + 1) + k_bb k y)) / (sp * gr sl.toNat), sl, max (k_fr k y) (min (k_aa k y * c + k_bb k y) (k_aa k y * (c + 1) + k_bb k y)), max (k_aa k y * c + k_bb k y) (k_aa k y * (c + 1) + k_bb k y), le9)).2))), (ma 18, .inl (G.2.2 1, 50, .inr (.inl (jl_ (k_fr k))))), (ma 19, .inl (G.2.2 1, 50, .inr (.inl (jl_ (k_to k))))), (ma 20, .inl (G.2.2 1, 50, .inr (.inl (jl_ (k_aa k))))), (ma 21, .inl (G.2.2 1, 50, .inr (.inl (jl_ (k_bb k))))), (ma 12, .inl (G.2.2 0, 9, .inl (ja_ gr))), (ma 39, .inl (G.2.2 0, 101, .inl (ja_ u.1))), (ma 40, .inl (G.2.2 0, 101, .inl (ja_ u.2.1))), (ma 41, .inl (G.2.2 0, 101, .inl (ja_ u.2.2.1))), (ma 42, .inl (G.2.2 0, 101, .inl (ja_ u.2.2.2.1))), (ma 43, .inl (G.2.2 1, 101, .inr (.inl (jl_ u.2.2.2.2.1)))), (ma 44, .inl (G.2.2 1, 101, .inr (.inl (jl_ u.2.2.2.2.2))))] := xw_H.sub hh [4, 0, 1, 2, 3, 5, 6, 7, 8, 9, 10, 11] rfl rfl
      have elf : lf_ k y c le9 = [(le9, min (k_aa k y * c + k_bb k y) (k_aa k y * (c + 1) + k_bb k y), max (k_aa k y * c + k_bb k y) (k_aa k y * (c + 1) + k_bb k y), k_fr k y, k_to k y)] := by
        unfold lf_
        exact if_pos (by omega)
      have er : run_ 100 (sk_on sl (sp * gr sl.toNat)) [(le9, min (k_aa k y * c + k_bb k y) (k_aa k y * (c + 1) + k_bb k y), max (k_aa k y * c + k_bb k y) (k_aa k y * (c + 1) + k_bb k y), k_fr k y, k_to k y)] st = a_add 100 st (max (k_fr k y) (min (k_aa k y * c + k_bb k y) (k_aa k y * (c + 1) + k_bb k y)) / (sp * gr sl.toNat), sl, max (k_fr k y) (min (k_aa k y * c + k_bb k y) (k_aa k y * (c + 1) + k_bb k y)), max (k_aa k y * c + k_bb k y) (k_aa k y * (c + 1) + k_bb k y), le9) := by
        show ((if k_fr k y ≤ min (k_aa k y * c + k_bb k y) (k_aa k y * (c + 1) + k_bb k y) then [(min (k_aa k y * c + k_bb k y) (k_aa k y * (c + 1) + k_bb k y) / (sp * gr sl.toNat), sl, min (k_aa k y * c + k_bb k y) (k_aa k y * (c + 1) + k_bb k y), max (k_aa k y * c + k_bb k y) (k_aa k y * (c + 1) + k_bb k y), le9)] else []) ++ []).foldl (a_add 100) st = _
        rw [if_pos (by omega), show max (k_fr k y) (min (k_aa k y * c + k_bb k y) (k_aa k y * (c + 1) + k_bb k y)) = min (k_aa k y * c + k_bb k y) (k_aa k y * (c + 1) + k_bb k y) by omega]
        rfl
      rw [elf, er]
      exact xw_vret F hr hlk hh u rfl hp142 trivial d_M_leaf_145
  · have elf : lf_ k y c le9 = [] := by
      unfold lf_
      exact if_neg (by omega)
    rw [elf]
    exact xw_vret F hr hlk hh (dt, ds, dl, da, dm, de) rfl hmd trivial d_M_leaf_80
