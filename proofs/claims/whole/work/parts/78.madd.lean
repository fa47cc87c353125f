/-! the model: add, addOnset -/
def rm_M_add : Room := { frames := 1, cells := 0, slots := 0, locals := 30 }
set_option maxHeartbeats 4000000 in
set_option maxRecDepth 100000 in
theorem lp_M_add {p0 : Program} {l : Launch} {e0 : Env} {s : State} {m0 : MethodId} {args : Array Value} {below : List Frame} {meth : Method} {c0 : Code} {Q : State → Prop} {G : GG_} {A : Nat → Prop} {H0 : Heap} (F : xw_F p0 s m0 args c0 b_M_add 12 R_M G) (mo : Nat) (ma : Nat → Nat) (ty at0 dp wy un pl sp pe tk du tm : Int) (be so wh we le mn mu : Nat → Int) (li : Nat) (hli : li ≤ 2) (st : List Row_ × Bool) (hmr : mrr_ li be so wh we le mn mu st) (r1 r2 r3 r4 r5 : Int) (hrv : ((-1000000000000000 ≤ r1 ∧ r1 ≤ 1000000000000000) ∧ (-1000000000000000 ≤ r2 ∧ r2 ≤ 1000000000000000) ∧ (-1000000000000000 ≤ r3 ∧ r3 ≤ 1000000000000000) ∧ (-1000000000000000 ≤ r4 ∧ r4 ≤ 1000000000000000) ∧ (0 ≤ r5 ∧ r5 ≤ 65535)))
    (kt : ∀ (ls : Array Slot) (H : Heap) (locs : List Loc), lv_has ls 12 [(11, .int (xi_ ((201 * li + r_pos (r1, r2, r3, r4, r5) st.1 : Nat) : Int))), (0, .ref mo), (1, .int (xi_ (li : Int))), (2, .long (xl_ r1)), (4, .long (xl_ r3)), (6, .long (xl_ r2)), (8, .long (xl_ r4)), (10, .int (xi_ r5))] → xw_H G A H0 H locs [(mo, .inr (6, mo_ ma ty at0 dp wy un pl sp pe tk du tm)), (ma 27, .inl (G.2.2 1, 603, .inr (.inl (jl_ (sh_ be (201 * li) (r_pos (r1, r2, r3, r4, r5) st.1) st.1.length))))), (ma 28, .inl (G.2.2 1, 603, .inr (.inl (jl_ (sh_ so (201 * li) (r_pos (r1, r2, r3, r4, r5) st.1) st.1.length))))), (ma 29, .inl (G.2.2 1, 603, .inr (.inl (jl_ (sh_ wh (201 * li) (r_pos (r1, r2, r3, r4, r5) st.1) st.1.length))))), (ma 30, .inl (G.2.2 1, 603, .inr (.inl (jl_ (sh_ we (201 * li) (r_pos (r1, r2, r3, r4, r5) st.1) st.1.length))))), (ma 31, .inl (G.2.2 0, 603, .inl (ja_ (sh_ le (201 * li) (r_pos (r1, r2, r3, r4, r5) st.1) st.1.length)))), (ma 25, .inl (G.2.2 0, 3, .inl (ja_ mn))), (ma 26, .inl (G.2.2 3, 3, .inl (ja_ mu)))] → W p0 l e0 rm_M_add s m0 args below meth c0 H locs 0 0 Q (F0 m0 150 ls [])) :
    ∀ (p : Nat) (ls : Array Slot) (H : Heap) (locs : List Loc), p ≤ st.1.length → r_pos (r1, r2, r3, r4, r5) st.1 ≤ p → lv_has ls 12 [(11, .int (xi_ ((201 * li + p : Nat) : Int))), (0, .ref mo), (1, .int (xi_ (li : Int))), (2, .long (xl_ r1)), (4, .long (xl_ r3)), (6, .long (xl_ r2)), (8, .long (xl_ r4)), (10, .int (xi_ r5))] → xw_H G A H0 H locs [(mo, .inr (6, mo_ ma ty at0 dp wy un pl sp pe tk du tm)), (ma 27, .inl (G.2.2 1, 603, .inr (.inl (jl_ (sh_ be (201 * li) p st.1.length))))), (ma 28, .inl (G.2.2 1, 603, .inr (.inl (jl_ (sh_ so (201 * li) p st.1.length))))), (ma 29, .inl (G.2.2 1, 603, .inr (.inl (jl_ (sh_ wh (201 * li) p st.1.length))))), (ma 30, .inl (G.2.2 1, 603, .inr (.inl (jl_ (sh_ we (201 * li) p st.1.length))))), (ma 31, .inl (G.2.2 0, 603, .inl (ja_ (sh_ le (201 * li) p st.1.length)))), (ma 25, .inl (G.2.2 0, 3, .inl (ja_ mn))), (ma 26, .inl (G.2.2 3, 3, .inl (ja_ mu)))] → W p0 l e0 rm_M_add s m0 args below meth c0 H locs 0 0 Q (F0 m0 34 ls []) := by
  have hx := F.1
  have hb := F.2.1
  have hlen := hmr.2.2.2.1.2.1
  have hsrt := hmr.2.2.2.1.1
  intro p
  induction p with
  | zero =>
    intro ls H locs hp hr9 hl hh
    have e0 : r_pos (r1, r2, r3, r4, r5) st.1 = 0 := by omega
    refine lv_iload hx hb d_M_add_34 (lv_at hl 0 rfl) ?_
    refine lv_sipush (v := xi_ 201) hx hb d_M_add_36 (by decide) ?_
    refine lv_iload_n hx hb d_M_add_39 rfl (lv_at hl 2 rfl) ?_
    refine xw_imul hx hb d_M_add_40 ?_
    refine xw_icmp_le hx hb 150 d_M_add_41 (by decide) (by omega) (fun c41 => ?_) (fun c41 => absurd c41 (by omega))
    rw [e0] at kt
    exact kt ls H locs hl hh
  | succ p ihp =>
    intro ls H locs hp hr9 hl hh
    have hrow := hmr.2.2.1 p _ (List.getElem?_eq_getElem (show p < st.1.length by omega))
    have hpl := r_pos_lt (x := (r1, r2, r3, r4, r5)) hsrt (List.getElem?_eq_getElem (show p < st.1.length by omega))
    rw [hrow] at hpl
    refine lv_iload hx hb d_M_add_34 (lv_at hl 0 rfl) ?_
    refine lv_sipush (v := xi_ 201) hx hb d_M_add_36 (by decide) ?_
    refine lv_iload_n hx hb d_M_add_39 rfl (lv_at hl 2 rfl) ?_
    refine xw_imul hx hb d_M_add_40 ?_
    refine xw_icmp_le hx hb 150 d_M_add_41 (by decide) (by omega) (fun c41 => absurd c41 (by omega)) (fun c41 => ?_)
    refine lv_aload_n hx hb d_M_add_44 rfl (lv_at hl 1 rfl) ?_
    refine lv_iload hx hb d_M_add_45 (lv_at hl 0 rfl) ?_
    refine lv_iconst (v := xi_ 1) hx hb d_M_add_47 rfl ?_
    refine xw_isub hx hb d_M_add_48 ?_
    refine lv_lload_n hx hb d_M_add_49 rfl (lv_at hl 3 rfl) ?_
    refine lv_lload hx hb d_M_add_50 (lv_at hl 4 rfl) ?_
    refine lv_lload hx hb d_M_add_52 (lv_at hl 5 rfl) ?_
    refine lv_lload hx hb d_M_add_54 (lv_at hl 6 rfl) ?_
    refine lv_iload hx hb d_M_add_56 (lv_at hl 7 rfl) ?_
    refine xw_ci (wc := [(mo, .inr (6, mo_ ma ty at0 dp wy un pl sp pe tk du tm)), (ma 27, .inl (G.2.2 1, 603, .inr (.inl (jl_ (sh_ be (201 * li) (p + 1) st.1.length))))), (ma 28, .inl (G.2.2 1, 603, .inr (.inl (jl_ (sh_ so (201 * li) (p + 1) st.1.length))))), (ma 29, .inl (G.2.2 1, 603, .inr (.inl (jl_ (sh_ wh (201 * li) (p + 1) st.1.length))))), (ma 30, .inl (G.2.2 1, 603, .inr (.inl (jl_ (sh_ we (201 * li) (p + 1) st.1.length))))), (ma 31, .inl (G.2.2 0, 603, .inl (ja_ (sh_ le (201 * li) (p + 1) st.1.length))))]) (wr := [(ma 25, .inl (G.2.2 0, 3, .inl (ja_ mn))), (ma 26, .inl (G.2.2 3, 3, .inl (ja_ mu)))]) hh [0, 1, 2, 3, 4, 5] [6, 7] rfl rfl rfl (by decide) (xw_rV F hh [0, 1, 2, 3, 4, 5] rfl rfl (c_M_isBefore l G H.size mo ma ty at0 dp wy un pl sp pe tk du tm (sh_ be (201 * li) (p + 1) st.1.length) (sh_ so (201 * li) (p + 1) st.1.length) (sh_ wh (201 * li) (p + 1) st.1.length) (sh_ we (201 * li) (p + 1) st.1.length) (sh_ le (201 * li) (p + 1) st.1.length) (rbd_sh hmr.2.2.2.2 _ _ _) (((201 * li + (p + 1) : Nat) : Int) - 1) (by omega) r1 r2 r3 r4 r5 hrv) trivial lk_M_227 cd_M_isBefore se_M_isBefore _ hh.1 0 rfl rfl rfl rfl ⟨by decide, by decide⟩ rfl hl.1 rfl (Nat.le_of_ble_eq_true rfl) d_M_add_58 ⟨Nat.le_of_ble_eq_true rfl, Nat.le_of_ble_eq_true rfl⟩) (fun z58 u_ H locs hp58 hX hz hk hh => ?_)
    have hh : xw_H G A H0 H locs [(mo, .inr (6, mo_ ma ty at0 dp wy un pl sp pe tk du tm)), (ma 27, .inl (G.2.2 1, 603, .inr (.inl (jl_ (sh_ be (201 * li) (p + 1) st.1.length))))), (ma 28, .inl (G.2.2 1, 603, .inr (.inl (jl_ (sh_ so (201 * li) (p + 1) st.1.length))))), (ma 29, .inl (G.2.2 1, 603, .inr (.inl (jl_ (sh_ wh (201 * li) (p + 1) st.1.length))))), (ma 30, .inl (G.2.2 1, 603, .inr (.inl (jl_ (sh_ we (201 * li) (p + 1) st.1.length))))), (ma 31, .inl (G.2.2 0, 603, .inl (ja_ (sh_ le (201 * li) (p + 1) st.1.length)))), (ma 25, .inl (G.2.2 0, 3, .inl (ja_ mn))), (ma 26, .inl (G.2.2 3, 3, .inl (ja_ mu)))] := xw_H.sub hh [2, 3, 4, 5, 6, 7, 0, 1] rfl rfl
    rw [show (((201 * li + (p + 1) : Nat) : Int) - 1).toNat = 201 * li + p by omega, sh_at, sh_at, sh_at, sh_at, sh_at] at hp58
    obtain ⟨bq, hbq⟩ : ∃ bq, bq = r_lt (r1, r2, r3, r4, r5) (be (201 * li + p), wh (201 * li + p), so (201 * li + p), we (201 * li + p), le (201 * li + p)) := ⟨_, rfl⟩
    rw [← hbq] at hp58 hpl
    obtain rfl : z58 = b2_ (! bq) := hp58
    have hb2 := b2_01 (! bq)
    refine xw_if_ne hx hb 150 d_M_add_61 (by decide) (by omega) (fun c61 => ?_) (fun c61 => ?_)
    · have ebq : bq = false := by have := b2_ne c61; cases bq <;> first | rfl | cases this
      have e9 : r_pos (r1, r2, r3, r4, r5) st.1 = p + 1 := by have := hpl.mpr ebq; omega
      rw [e9] at kt
      exact kt ls H locs (lv_sub hl [0, 1, 2, 3, 4, 5, 6, 7] rfl) hh
    · refine lv_aload_n hx hb d_M_add_64 rfl (lv_at hl 1 rfl) ?_
      refine xw_get F hh.1 (v := .ref (ma 27)) fl_M_81_6 0 rfl rfl d_M_add_65 ?_
      refine lv_iload hx hb d_M_add_68 (lv_at hl 0 rfl) ?_
      refine lv_aload_n hx hb d_M_add_70 rfl (lv_at hl 1 rfl) ?_
      refine xw_get F hh.1 (v := .ref (ma 27)) fl_M_81_6 0 rfl rfl d_M_add_71 ?_
      refine lv_iload hx hb d_M_add_74 (lv_at hl 0 rfl) ?_
      refine lv_iconst (v := xi_ 1) hx hb d_M_add_76 rfl ?_
      refine xw_isub hx hb d_M_add_77 ?_
      refine xw_lald F hh.1 1 (f := sh_ be (201 * li) (p + 1) st.1.length) rfl (i := ((201 * li + (p + 1) : Nat) : Int) - 1) (by omega) d_M_add_78 ?_
      refine xw_last F hh 1 (f := sh_ be (201 * li) (p + 1) st.1.length) rfl (i := ((201 * li + (p + 1) : Nat) : Int)) (x := (sh_ be (201 * li) (p + 1) st.1.length) (((201 * li + (p + 1) : Nat) : Int) - 1).toNat) (by omega) d_M_add_79 (fun H locs hh => ?_)
      have hh : xw_H G A H0 H locs [(mo, .inr (6, mo_ ma ty at0 dp wy un pl sp pe tk du tm)), (ma 27, .inl (G.2.2 1, 603, .inr (.inl (jl_ (va_up (sh_ be (201 * li) (p + 1) st.1.length) (((201 * li + (p + 1) : Nat) : Int)).toNat ((sh_ be (201 * li) (p + 1) st.1.length) (((201 * li + (p + 1) : Nat) : Int) - 1).toNat)))))), (ma 28, .inl (G.2.2 1, 603, .inr (.inl (jl_ (sh_ so (201 * li) (p + 1) st.1.length))))), (ma 29, .inl (G.2.2 1, 603, .inr (.inl (jl_ (sh_ wh (201 * li) (p + 1) st.1.length))))), (ma 30, .inl (G.2.2 1, 603, .inr (.inl (jl_ (sh_ we (201 * li) (p + 1) st.1.length))))), (ma 31, .inl (G.2.2 0, 603, .inl (ja_ (sh_ le (201 * li) (p + 1) st.1.length)))), (ma 25, .inl (G.2.2 0, 3, .inl (ja_ mn))), (ma 26, .inl (G.2.2 3, 3, .inl (ja_ mu)))] := hh
      refine lv_aload_n hx hb d_M_add_80 rfl (lv_at hl 1 rfl) ?_
      refine xw_get F hh.1 (v := .ref (ma 28)) fl_M_84_6 0 rfl rfl d_M_add_81 ?_
      refine lv_iload hx hb d_M_add_84 (lv_at hl 0 rfl) ?_
      refine lv_aload_n hx hb d_M_add_86 rfl (lv_at hl 1 rfl) ?_
      refine xw_get F hh.1 (v := .ref (ma 28)) fl_M_84_6 0 rfl rfl d_M_add_87 ?_
      refine lv_iload hx hb d_M_add_90 (lv_at hl 0 rfl) ?_
      refine lv_iconst (v := xi_ 1) hx hb d_M_add_92 rfl ?_
      refine xw_isub hx hb d_M_add_93 ?_
      refine xw_lald F hh.1 2 (f := sh_ so (201 * li) (p + 1) st.1.length) rfl (i := ((201 * li + (p + 1) : Nat) : Int) - 1) (by omega) d_M_add_94 ?_
      refine xw_last F hh 2 (f := sh_ so (201 * li) (p + 1) st.1.length) rfl (i := ((201 * li + (p + 1) : Nat) : Int)) (x := (sh_ so (201 * li) (p + 1) st.1.length) (((201 * li + (p + 1) : Nat) : Int) - 1).toNat) (by omega) d_M_add_95 (fun H locs hh => ?_)
      have hh : xw_H G A H0 H locs [(mo, .inr (6, mo_ ma ty at0 dp wy un pl sp pe tk du tm)), (ma 27, .inl (G.2.2 1, 603, .inr (.inl (jl_ (va_up (sh_ be (201 * li) (p + 1) st.1.length) (((201 * li + (p + 1) : Nat) : Int)).toNat ((sh_ be (201 * li) (p + 1) st.1.length) (((201 * li + (p + 1) : Nat) : Int) - 1).toNat)))))), (ma 28, .inl (G.2.2 1, 603, .inr (.inl (jl_ (va_up (sh_ so (201 * li) (p + 1) st.1.length) (((201 * li + (p + 1) : Nat) : Int)).toNat ((sh_ so (201 * li) (p + 1) st.1.length) (((201 * li + (p + 1) : Nat) : Int) - 1).toNat)))))), (ma 29, .inl (G.2.2 1, 603, .inr (.inl (jl_ (sh_ wh (201 * li) (p + 1) st.1.length))))), (ma 30, .inl (G.2.2 1, 603, .inr (.inl (jl_ (sh_ we (201 * li) (p + 1) st.1.length))))), (ma 31, .inl (G.2.2 0, 603, .inl (ja_ (sh_ le (201 * li) (p + 1) st.1.length)))), (ma 25, .inl (G.2.2 0, 3, .inl (ja_ mn))), (ma 26, .inl (G.2.2 3, 3, .inl (ja_ mu)))] := hh
      refine lv_aload_n hx hb d_M_add_96 rfl (lv_at hl 1 rfl) ?_
      refine xw_get F hh.1 (v := .ref (ma 29)) fl_M_87_6 0 rfl rfl d_M_add_97 ?_
      refine lv_iload hx hb d_M_add_100 (lv_at hl 0 rfl) ?_
      refine lv_aload_n hx hb d_M_add_102 rfl (lv_at hl 1 rfl) ?_
      refine xw_get F hh.1 (v := .ref (ma 29)) fl_M_87_6 0 rfl rfl d_M_add_103 ?_
      refine lv_iload hx hb d_M_add_106 (lv_at hl 0 rfl) ?_
      refine lv_iconst (v := xi_ 1) hx hb d_M_add_108 rfl ?_
      refine xw_isub hx hb d_M_add_109 ?_
      refine xw_lald F hh.1 3 (f := sh_ wh (201 * li) (p + 1) st.1.length) rfl (i := ((201 * li + (p + 1) : Nat) : Int) - 1) (by omega) d_M_add_110 ?_
      refine xw_last F hh 3 (f := sh_ wh (201 * li) (p + 1) st.1.length) rfl (i := ((201 * li + (p + 1) : Nat) : Int)) (x := (sh_ wh (201 * li) (p + 1) st.1.length) (((201 * li + (p + 1) : Nat) : Int) - 1).toNat) (by omega) d_M_add_111 (fun H locs hh => ?_)
      have hh : xw_H G A H0 H locs [(mo, .inr (6, mo_ ma ty at0 dp wy un pl sp pe tk du tm)), (ma 27, .inl (G.2.2 1, 603, .inr (.inl (jl_ (va_up (sh_ be (201 * li) (p + 1) st.1.length) (((201 * li + (p + 1) : Nat) : Int)).toNat ((sh_ be (201 * li) (p + 1) st.1.length) (((201 * li + (p + 1) : Nat) : Int) - 1).toNat)))))), (ma 28, .inl (G.2.2 1, 603, .inr (.inl (jl_ (va_up (sh_ so (201 * li) (p + 1) st.1.length) (((201 * li + (p + 1) : Nat) : Int)).toNat ((sh_ so (201 * li) (p + 1) st.1.length) (((201 * li + (p + 1) : Nat) : Int) - 1).toNat)))))), (ma 29, .inl (G.2.2 1, 603, .inr (.inl (jl_ (va_up (sh_ wh (201 * li) (p + 1) st.1.length) (((201 * li + (p + 1) : Nat) : Int)).toNat ((sh_ wh (201 * li) (p + 1) st.1.length) (((201 * li + (p + 1) : Nat) : Int) - 1).toNat)))))), (ma 30, .inl (G.2.2 1, 603, .inr (.inl (jl_ (sh_ we (201 * li) (p + 1) st.1.length))))), (ma 31, .inl (G.2.2 0, 603, .inl (ja_ (sh_ le (201 * li) (p + 1) st.1.length)))), (ma 25, .inl (G.2.2 0, 3, .inl (ja_ mn))), (ma 26, .inl (G.2.2 3, 3, .inl (ja_ mu)))] := hh
      refine lv_aload_n hx hb d_M_add_112 rfl (lv_at hl 1 rfl) ?_
      refine xw_get F hh.1 (v := .ref (ma 30)) fl_M_90_6 0 rfl rfl d_M_add_113 ?_
      refine lv_iload hx hb d_M_add_116 (lv_at hl 0 rfl) ?_
      refine lv_aload_n hx hb d_M_add_118 rfl (lv_at hl 1 rfl) ?_
      refine xw_get F hh.1 (v := .ref (ma 30)) fl_M_90_6 0 rfl rfl d_M_add_119 ?_
      refine lv_iload hx hb d_M_add_122 (lv_at hl 0 rfl) ?_
      refine lv_iconst (v := xi_ 1) hx hb d_M_add_124 rfl ?_
      refine xw_isub hx hb d_M_add_125 ?_
      refine xw_lald F hh.1 4 (f := sh_ we (201 * li) (p + 1) st.1.length) rfl (i := ((201 * li + (p + 1) : Nat) : Int) - 1) (by omega) d_M_add_126 ?_
      refine xw_last F hh 4 (f := sh_ we (201 * li) (p + 1) st.1.length) rfl (i := ((201 * li + (p + 1) : Nat) : Int)) (x := (sh_ we (201 * li) (p + 1) st.1.length) (((201 * li + (p + 1) : Nat) : Int) - 1).toNat) (by omega) d_M_add_127 (fun H locs hh => ?_)
      have hh : xw_H G A H0 H locs [(mo, .inr (6, mo_ ma ty at0 dp wy un pl sp pe tk du tm)), (ma 27, .inl (G.2.2 1, 603, .inr (.inl (jl_ (va_up (sh_ be (201 * li) (p + 1) st.1.length) (((201 * li + (p + 1) : Nat) : Int)).toNat ((sh_ be (201 * li) (p + 1) st.1.length) (((201 * li + (p + 1) : Nat) : Int) - 1).toNat)))))), (ma 28, .inl (G.2.2 1, 603, .inr (.inl (jl_ (va_up (sh_ so (201 * li) (p + 1) st.1.length) (((201 * li + (p + 1) : Nat) : Int)).toNat ((sh_ so (201 * li) (p + 1) st.1.length) (((201 * li + (p + 1) : Nat) : Int) - 1).toNat)))))), (ma 29, .inl (G.2.2 1, 603, .inr (.inl (jl_ (va_up (sh_ wh (201 * li) (p + 1) st.1.length) (((201 * li + (p + 1) : Nat) : Int)).toNat ((sh_ wh (201 * li) (p + 1) st.1.length) (((201 * li + (p + 1) : Nat) : Int) - 1).toNat)))))), (ma 30, .inl (G.2.2 1, 603, .inr (.inl (jl_ (va_up (sh_ we (201 * li) (p + 1) st.1.length) (((201 * li + (p + 1) : Nat) : Int)).toNat ((sh_ we (201 * li) (p + 1) st.1.length) (((201 * li + (p + 1) : Nat) : Int) - 1).toNat)))))), (ma 31, .inl (G.2.2 0, 603, .inl (ja_ (sh_ le (201 * li) (p + 1) st.1.length)))), (ma 25, .inl (G.2.2 0, 3, .inl (ja_ mn))), (ma 26, .inl (G.2.2 3, 3, .inl (ja_ mu)))] := hh
      refine lv_aload_n hx hb d_M_add_128 rfl (lv_at hl 1 rfl) ?_
      refine xw_get F hh.1 (v := .ref (ma 31)) fl_M_93_6 0 rfl rfl d_M_add_129 ?_
      refine lv_iload hx hb d_M_add_132 (lv_at hl 0 rfl) ?_
      refine lv_aload_n hx hb d_M_add_134 rfl (lv_at hl 1 rfl) ?_
      refine xw_get F hh.1 (v := .ref (ma 31)) fl_M_93_6 0 rfl rfl d_M_add_135 ?_
      refine lv_iload hx hb d_M_add_138 (lv_at hl 0 rfl) ?_
      refine lv_iconst (v := xi_ 1) hx hb d_M_add_140 rfl ?_
      refine xw_isub hx hb d_M_add_141 ?_
      refine xw_iald F hh.1 5 (f := sh_ le (201 * li) (p + 1) st.1.length) rfl (i := ((201 * li + (p + 1) : Nat) : Int) - 1) (by omega) d_M_add_142 ?_
      refine xw_iast F hh 5 (f := sh_ le (201 * li) (p + 1) st.1.length) rfl (i := ((201 * li + (p + 1) : Nat) : Int)) (x := (sh_ le (201 * li) (p + 1) st.1.length) (((201 * li + (p + 1) : Nat) : Int) - 1).toNat) (by omega) d_M_add_143 (fun H locs hh => ?_)
      have hh : xw_H G A H0 H locs [(mo, .inr (6, mo_ ma ty at0 dp wy un pl sp pe tk du tm)), (ma 27, .inl (G.2.2 1, 603, .inr (.inl (jl_ (va_up (sh_ be (201 * li) (p + 1) st.1.length) (((201 * li + (p + 1) : Nat) : Int)).toNat ((sh_ be (201 * li) (p + 1) st.1.length) (((201 * li + (p + 1) : Nat) : Int) - 1).toNat)))))), (ma 28, .inl (G.2.2 1, 603, .inr (.inl (jl_ (va_up (sh_ so (201 * li) (p + 1) st.1.length) (((201 * li + (p + 1) : Nat) : Int)).toNat ((sh_ so (201 * li) (p + 1) st.1.length) (((201 * li + (p + 1) : Nat) : Int) - 1).toNat)))))), (ma 29, .inl (G.2.2 1, 603, .inr (.inl (jl_ (va_up (sh_ wh (201 * li) (p + 1) st.1.length) (((201 * li + (p + 1) : Nat) : Int)).toNat ((sh_ wh (201 * li) (p + 1) st.1.length) (((201 * li + (p + 1) : Nat) : Int) - 1).toNat)))))), (ma 30, .inl (G.2.2 1, 603, .inr (.inl (jl_ (va_up (sh_ we (201 * li) (p + 1) st.1.length) (((201 * li + (p + 1) : Nat) : Int)).toNat ((sh_ we (201 * li) (p + 1) st.1.length) (((201 * li + (p + 1) : Nat) : Int) - 1).toNat)))))), (ma 31, .inl (G.2.2 0, 603, .inl (ja_ (va_up (sh_ le (201 * li) (p + 1) st.1.length) (((201 * li + (p + 1) : Nat) : Int)).toNat ((sh_ le (201 * li) (p + 1) st.1.length) (((201 * li + (p + 1) : Nat) : Int) - 1).toNat))))), (ma 25, .inl (G.2.2 0, 3, .inl (ja_ mn))), (ma 26, .inl (G.2.2 3, 3, .inl (ja_ mu)))] := hh
      refine lv_iinc (k := 0) (v := xi_ (((201 * li + (p + 1) : Nat) : Int) + (-1))) (lv' := [(11, .int (xi_ (((201 * li + (p + 1) : Nat) : Int) + (-1)))), (0, .ref mo), (1, .int (xi_ (li : Int))), (2, .long (xl_ r1)), (4, .long (xl_ r3)), (6, .long (xl_ r2)), (8, .long (xl_ r4)), (10, .int (xi_ r5))]) hx hb d_M_add_144 hl rfl (xi_add _ _).symm (by decide) rfl (fun ls hl => ?_)
      refine lv_goto (tgt := 34) hx hb d_M_add_147 (by decide) ?_
      have ebq : bq = true := by have := b2_e0 c61; cases bq <;> first | rfl | cases this
      have e_be := sh_st (f := be) (b := (201 * li)) (p := p) (n := st.1.length) (X := (((201 * li + (p + 1) : Nat) : Int)).toNat) (Y := (((201 * li + (p + 1) : Nat) : Int) - 1).toNat) (by omega) (by omega) (by omega)
      have e_so := sh_st (f := so) (b := (201 * li)) (p := p) (n := st.1.length) (X := (((201 * li + (p + 1) : Nat) : Int)).toNat) (Y := (((201 * li + (p + 1) : Nat) : Int) - 1).toNat) (by omega) (by omega) (by omega)
      have e_wh := sh_st (f := wh) (b := (201 * li)) (p := p) (n := st.1.length) (X := (((201 * li + (p + 1) : Nat) : Int)).toNat) (Y := (((201 * li + (p + 1) : Nat) : Int) - 1).toNat) (by omega) (by omega) (by omega)
      have e_we := sh_st (f := we) (b := (201 * li)) (p := p) (n := st.1.length) (X := (((201 * li + (p + 1) : Nat) : Int)).toNat) (Y := (((201 * li + (p + 1) : Nat) : Int) - 1).toNat) (by omega) (by omega) (by omega)
      have e_le := sh_st (f := le) (b := (201 * li)) (p := p) (n := st.1.length) (X := (((201 * li + (p + 1) : Nat) : Int)).toNat) (Y := (((201 * li + (p + 1) : Nat) : Int) - 1).toNat) (by omega) (by omega) (by omega)
      rw [e_be, e_so, e_wh, e_we, e_le] at hh
      have hl : lv_has ls 12 [(11, .int (xi_ ((201 * li + p : Nat) : Int))), (0, .ref mo), (1, .int (xi_ (li : Int))), (2, .long (xl_ r1)), (4, .long (xl_ r3)), (6, .long (xl_ r2)), (8, .long (xl_ r4)), (10, .int (xi_ r5))] := by
        have h9 := (lv_sub hl [0, 1, 2, 3, 4, 5, 6, 7] rfl)
        rw [show ((201 * li + (p + 1) : Nat) : Int) + (-1) = ((201 * li + p : Nat) : Int) by omega] at h9
        exact h9
      exact ihp ls H locs (by omega) (Nat.le_of_not_lt (fun q => absurd (hpl.mp q) (by rw [ebq]; decide))) hl hh
set_option maxHeartbeats 4000000 in
set_option maxRecDepth 100000 in
theorem c_M_add (l : Launch) (G : GG_) (sz : Nat) (mo : Nat) (ma : Nat → Nat) (ty at0 dp wy un pl sp pe tk du tm : Int) (be so wh we le mn mu : Nat → Int) (li : Nat) (hli : li ≤ 2) (st : List Row_ × Bool) (hmr : mrr_ li be so wh we le mn mu st) (r1 r2 r3 r4 r5 : Int) (hrv : ((-1000000000000000 ≤ r1 ∧ r1 ≤ 1000000000000000) ∧ (-1000000000000000 ≤ r2 ∧ r2 ≤ 1000000000000000) ∧ (-1000000000000000 ≤ r3 ∧ r3 ≤ 1000000000000000) ∧ (-1000000000000000 ≤ r4 ∧ r4 ≤ 1000000000000000) ∧ (0 ≤ r5 ∧ r5 ≤ 65535))) : Met l y_M_add (cw_ y_M_add b_M_add 12 none) rm_M_add (xw_P G [.ref mo, .int (xi_ (li : Int)), .long (xl_ r1), .long (xl_ r3), .long (xl_ r2), .long (xl_ r4), .int (xi_ r5)] sz [(mo, .inr (6, mo_ ma ty at0 dp wy un pl sp pe tk du tm)), (ma 27, .inl (G.2.2 1, 603, .inr (.inl (jl_ be)))), (ma 28, .inl (G.2.2 1, 603, .inr (.inl (jl_ so)))), (ma 29, .inl (G.2.2 1, 603, .inr (.inl (jl_ wh)))), (ma 30, .inl (G.2.2 1, 603, .inr (.inl (jl_ we)))), (ma 31, .inl (G.2.2 0, 603, .inl (ja_ le))), (ma 25, .inl (G.2.2 0, 3, .inl (ja_ mn))), (ma 26, .inl (G.2.2 3, 3, .inl (ja_ mu)))] (fun _ => True)) (xw_Qv (S := (Nat → Int) × (Nat → Int) × (Nat → Int) × (Nat → Int) × (Nat → Int) × (Nat → Int) × (Nat → Int)) G sz [(mo, .inr (6, mo_ ma ty at0 dp wy un pl sp pe tk du tm)), (ma 27, .inl (G.2.2 1, 603, .inr (.inl (jl_ be)))), (ma 28, .inl (G.2.2 1, 603, .inr (.inl (jl_ so)))), (ma 29, .inl (G.2.2 1, 603, .inr (.inl (jl_ wh)))), (ma 30, .inl (G.2.2 1, 603, .inr (.inl (jl_ we)))), (ma 31, .inl (G.2.2 0, 603, .inl (ja_ le))), (ma 25, .inl (G.2.2 0, 3, .inl (ja_ mn))), (ma 26, .inl (G.2.2 3, 3, .inl (ja_ mu)))] (fun u => mrr_ li u.1 u.2.1 u.2.2.1 u.2.2.2.1 u.2.2.2.2.1 u.2.2.2.2.2.1 u.2.2.2.2.2.2 (a_add 200 st (r1, r2, r3, r4, r5)) ∧ mkp_ li be so wh we le mn mu u.1 u.2.1 u.2.2.1 u.2.2.2.1 u.2.2.2.2.1 u.2.2.2.2.2.1 u.2.2.2.2.2.2) (fun u => [(mo, .inr (6, mo_ ma ty at0 dp wy un pl sp pe tk du tm)), (ma 27, .inl (G.2.2 1, 603, .inr (.inl (jl_ u.1)))), (ma 28, .inl (G.2.2 1, 603, .inr (.inl (jl_ u.2.1)))), (ma 29, .inl (G.2.2 1, 603, .inr (.inl (jl_ u.2.2.1)))), (ma 30, .inl (G.2.2 1, 603, .inr (.inl (jl_ u.2.2.2.1)))), (ma 31, .inl (G.2.2 0, 603, .inl (ja_ u.2.2.2.2.1))), (ma 25, .inl (G.2.2 0, 3, .inl (ja_ u.2.2.2.2.2.1))), (ma 26, .inl (G.2.2 3, 3, .inl (ja_ u.2.2.2.2.2.2)))]) (fun _ _ => True)) 0 0 (va_A [(mo, .inr (6, mo_ ma ty at0 dp wy un pl sp pe tk du tm)), (ma 27, .inl (G.2.2 1, 603, .inr (.inl (jl_ be)))), (ma 28, .inl (G.2.2 1, 603, .inr (.inl (jl_ so)))), (ma 29, .inl (G.2.2 1, 603, .inr (.inl (jl_ wh)))), (ma 30, .inl (G.2.2 1, 603, .inr (.inl (jl_ we)))), (ma 31, .inl (G.2.2 0, 603, .inl (ja_ le))), (ma 25, .inl (G.2.2 0, 3, .inl (ja_ mn))), (ma 26, .inl (G.2.2 3, 3, .inl (ja_ mu)))] sz) := by
  refine xw_met (by decide) (Nat.le_of_ble_eq_true rfl) ?_
  intro p0 e0 s m0 args below meth c0 F hr hlk hin hsz hh hX ls hl
  subst hsz
  have hx := F.1
  have hb := F.2.1
  have hl : lv_has ls 12 [(0, .ref mo), (1, .int (xi_ (li : Int))), (2, .long (xl_ r1)), (4, .long (xl_ r3)), (6, .long (xl_ r2)), (8, .long (xl_ r4)), (10, .int (xi_ r5))] := hl
  have hlen := hmr.2.2.2.1.2.1
  refine lv_aload_n hx hb d_M_add_0 rfl (lv_at hl 0 rfl) ?_
  refine xw_get F hh.1 (v := .ref (ma 25)) fl_M_74_6 0 rfl rfl d_M_add_1 ?_
  refine lv_iload_n hx hb d_M_add_4 rfl (lv_at hl 1 rfl) ?_
  refine xw_iald F hh.1 6 (f := mn) rfl (i := (li : Int)) (by omega) d_M_add_5 ?_
  refine xw_topi (y := (st.1.length : Int)) hmr.1 ?_
  refine lv_sipush (v := xi_ 200) hx hb d_M_add_6 (by decide) ?_
  refine xw_icmp_ne hx hb 20 d_M_add_9 (by decide) (by omega) (fun c9 => ?_) (fun c9 => ?_)
  · refine lv_sipush (v := xi_ 201) hx hb d_M_add_20 (by decide) ?_
    refine lv_iload_n hx hb d_M_add_23 rfl (lv_at hl 1 rfl) ?_
    refine xw_imul hx hb d_M_add_24 ?_
    refine lv_aload_n hx hb d_M_add_25 rfl (lv_at hl 0 rfl) ?_
    refine xw_get F hh.1 (v := .ref (ma 25)) fl_M_74_6 0 rfl rfl d_M_add_26 ?_
    refine lv_iload_n hx hb d_M_add_29 rfl (lv_at hl 1 rfl) ?_
    refine xw_iald F hh.1 6 (f := mn) rfl (i := (li : Int)) (by omega) d_M_add_30 ?_
    refine xw_topi (y := (st.1.length : Int)) hmr.1 ?_
    refine xw_iadd hx hb d_M_add_31 ?_
    refine lv_istore (lv' := [(11, .int (xi_ ((201 * (li : Int)) + (st.1.length : Int)))), (0, .ref mo), (1, .int (xi_ (li : Int))), (2, .long (xl_ r1)), (4, .long (xl_ r3)), (6, .long (xl_ r2)), (8, .long (xl_ r4)), (10, .int (xi_ r5))]) hx hb d_M_add_32 hl (by decide) rfl (fun ls hl => ?_)
    have hl : lv_has ls 12 [(11, .int (xi_ ((201 * li + st.1.length : Nat) : Int))), (0, .ref mo), (1, .int (xi_ (li : Int))), (2, .long (xl_ r1)), (4, .long (xl_ r3)), (6, .long (xl_ r2)), (8, .long (xl_ r4)), (10, .int (xi_ r5))] := by
      have h9 := (lv_sub hl [0, 1, 2, 3, 4, 5, 6, 7] rfl)
      rw [show ((201 * (li : Int)) + (st.1.length : Int)) = ((201 * li + st.1.length : Nat) : Int) by omega] at h9
      exact h9
    have hh : xw_H G (va_A [(mo, .inr (6, mo_ ma ty at0 dp wy un pl sp pe tk du tm)), (ma 27, .inl (G.2.2 1, 603, .inr (.inl (jl_ be)))), (ma 28, .inl (G.2.2 1, 603, .inr (.inl (jl_ so)))), (ma 29, .inl (G.2.2 1, 603, .inr (.inl (jl_ wh)))), (ma 30, .inl (G.2.2 1, 603, .inr (.inl (jl_ we)))), (ma 31, .inl (G.2.2 0, 603, .inl (ja_ le))), (ma 25, .inl (G.2.2 0, 3, .inl (ja_ mn))), (ma 26, .inl (G.2.2 3, 3, .inl (ja_ mu)))] s.heap.size) s.heap s.heap [] [(mo, .inr (6, mo_ ma ty at0 dp wy un pl sp pe tk du tm)), (ma 27, .inl (G.2.2 1, 603, .inr (.inl (jl_ (sh_ be (201 * li) st.1.length st.1.length))))), (ma 28, .inl (G.2.2 1, 603, .inr (.inl (jl_ (sh_ so (201 * li) st.1.length st.1.length))))), (ma 29, .inl (G.2.2 1, 603, .inr (.inl (jl_ (sh_ wh (201 * li) st.1.length st.1.length))))), (ma 30, .inl (G.2.2 1, 603, .inr (.inl (jl_ (sh_ we (201 * li) st.1.length st.1.length))))), (ma 31, .inl (G.2.2 0, 603, .inl (ja_ (sh_ le (201 * li) st.1.length st.1.length)))), (ma 25, .inl (G.2.2 0, 3, .inl (ja_ mn))), (ma 26, .inl (G.2.2 3, 3, .inl (ja_ mu)))] := by
      rw [sh_0, sh_0, sh_0, sh_0, sh_0]
      exact hh
    refine lp_M_add F mo ma ty at0 dp wy un pl sp pe tk du tm be so wh we le mn mu li hli st hmr r1 r2 r3 r4 r5 hrv (fun ls H locs hl hh => ?_) st.1.length ls s.heap _ (by omega) (r_pos_le _ _) hl hh
    have hpp := r_pos_le (r1, r2, r3, r4, r5) st.1
    refine lv_aload_n hx hb d_M_add_150 rfl (lv_at hl 1 rfl) ?_
    refine xw_get F hh.1 (v := .ref (ma 27)) fl_M_81_6 0 rfl rfl d_M_add_151 ?_
    refine lv_iload hx hb d_M_add_154 (lv_at hl 0 rfl) ?_
    refine lv_lload_n hx hb d_M_add_156 rfl (lv_at hl 3 rfl) ?_
    refine xw_last F hh 1 (f := sh_ be (201 * li) (r_pos (r1, r2, r3, r4, r5) st.1) st.1.length) rfl (i := ((201 * li + r_pos (r1, r2, r3, r4, r5) st.1 : Nat) : Int)) (x := r1) (by omega) d_M_add_157 (fun H locs hh => ?_)
    have hh : xw_H G (va_A [(mo, .inr (6, mo_ ma ty at0 dp wy un pl sp pe tk du tm)), (ma 27, .inl (G.2.2 1, 603, .inr (.inl (jl_ be)))), (ma 28, .inl (G.2.2 1, 603, .inr (.inl (jl_ so)))), (ma 29, .inl (G.2.2 1, 603, .inr (.inl (jl_ wh)))), (ma 30, .inl (G.2.2 1, 603, .inr (.inl (jl_ we)))), (ma 31, .inl (G.2.2 0, 603, .inl (ja_ le))), (ma 25, .inl (G.2.2 0, 3, .inl (ja_ mn))), (ma 26, .inl (G.2.2 3, 3, .inl (ja_ mu)))] s.heap.size) s.heap H locs [(mo, .inr (6, mo_ ma ty at0 dp wy un pl sp pe tk du tm)), (ma 27, .inl (G.2.2 1, 603, .inr (.inl (jl_ (va_up (sh_ be (201 * li) (r_pos (r1, r2, r3, r4, r5) st.1) st.1.length) (((201 * li + r_pos (r1, r2, r3, r4, r5) st.1 : Nat) : Int)).toNat r1))))), (ma 28, .inl (G.2.2 1, 603, .inr (.inl (jl_ (sh_ so (201 * li) (r_pos (r1, r2, r3, r4, r5) st.1) st.1.length))))), (ma 29, .inl (G.2.2 1, 603, .inr (.inl (jl_ (sh_ wh (201 * li) (r_pos (r1, r2, r3, r4, r5) st.1) st.1.length))))), (ma 30, .inl (G.2.2 1, 603, .inr (.inl (jl_ (sh_ we (201 * li) (r_pos (r1, r2, r3, r4, r5) st.1) st.1.length))))), (ma 31, .inl (G.2.2 0, 603, .inl (ja_ (sh_ le (201 * li) (r_pos (r1, r2, r3, r4, r5) st.1) st.1.length)))), (ma 25, .inl (G.2.2 0, 3, .inl (ja_ mn))), (ma 26, .inl (G.2.2 3, 3, .inl (ja_ mu)))] := hh
    refine lv_aload_n hx hb d_M_add_158 rfl (lv_at hl 1 rfl) ?_
    refine xw_get F hh.1 (v := .ref (ma 28)) fl_M_84_6 0 rfl rfl d_M_add_159 ?_
    refine lv_iload hx hb d_M_add_162 (lv_at hl 0 rfl) ?_
    refine lv_lload hx hb d_M_add_164 (lv_at hl 4 rfl) ?_
    refine xw_last F hh 2 (f := sh_ so (201 * li) (r_pos (r1, r2, r3, r4, r5) st.1) st.1.length) rfl (i := ((201 * li + r_pos (r1, r2, r3, r4, r5) st.1 : Nat) : Int)) (x := r3) (by omega) d_M_add_166 (fun H locs hh => ?_)
    have hh : xw_H G (va_A [(mo, .inr (6, mo_ ma ty at0 dp wy un pl sp pe tk du tm)), (ma 27, .inl (G.2.2 1, 603, .inr (.inl (jl_ be)))), (ma 28, .inl (G.2.2 1, 603, .inr (.inl (jl_ so)))), (ma 29, .inl (G.2.2 1, 603, .inr (.inl (jl_ wh)))), (ma 30, .inl (G.2.2 1, 603, .inr (.inl (jl_ we)))), (ma 31, .inl (G.2.2 0, 603, .inl (ja_ le))), (ma 25, .inl (G.2.2 0, 3, .inl (ja_ mn))), (ma 26, .inl (G.2.2 3, 3, .inl (ja_ mu)))] s.heap.size) s.heap H locs [(mo, .inr (6, mo_ ma ty at0 dp wy un pl sp pe tk du tm)), (ma 27, .inl (G.2.2 1, 603, .inr (.inl (jl_ (va_up (sh_ be (201 * li) (r_pos (r1, r2, r3, r4, r5) st.1) st.1.length) (((201 * li + r_pos (r1, r2, r3, r4, r5) st.1 : Nat) : Int)).toNat r1))))), (ma 28, .inl (G.2.2 1, 603, .inr (.inl (jl_ (va_up (sh_ so (201 * li) (r_pos (r1, r2, r3, r4, r5) st.1) st.1.length) (((201 * li + r_pos (r1, r2, r3, r4, r5) st.1 : Nat) : Int)).toNat r3))))), (ma 29, .inl (G.2.2 1, 603, .inr (.inl (jl_ (sh_ wh (201 * li) (r_pos (r1, r2, r3, r4, r5) st.1) st.1.length))))), (ma 30, .inl (G.2.2 1, 603, .inr (.inl (jl_ (sh_ we (201 * li) (r_pos (r1, r2, r3, r4, r5) st.1) st.1.length))))), (ma 31, .inl (G.2.2 0, 603, .inl (ja_ (sh_ le (201 * li) (r_pos (r1, r2, r3, r4, r5) st.1) st.1.length)))), (ma 25, .inl (G.2.2 0, 3, .inl (ja_ mn))), (ma 26, .inl (G.2.2 3, 3, .inl (ja_ mu)))] := hh
    refine lv_aload_n hx hb d_M_add_167 rfl (lv_at hl 1 rfl) ?_
    refine xw_get F hh.1 (v := .ref (ma 29)) fl_M_87_6 0 rfl rfl d_M_add_168 ?_
    refine lv_iload hx hb d_M_add_171 (lv_at hl 0 rfl) ?_
    refine lv_lload hx hb d_M_add_173 (lv_at hl 5 rfl) ?_
    refine xw_last F hh 3 (f := sh_ wh (201 * li) (r_pos (r1, r2, r3, r4, r5) st.1) st.1.length) rfl (i := ((201 * li + r_pos (r1, r2, r3, r4, r5) st.1 : Nat) : Int)) (x := r2) (by omega) d_M_add_175 (fun H locs hh => ?_)
    have hh : xw_H G (va_A [(mo, .inr (6, mo_ ma ty at0 dp wy un pl sp pe tk du tm)), (ma 27, .inl (G.2.2 1, 603, .inr (.inl (jl_ be)))), (ma 28, .inl (G.2.2 1, 603, .inr (.inl (jl_ so)))), (ma 29, .inl (G.2.2 1, 603, .inr (.inl (jl_ wh)))), (ma 30, .inl (G.2.2 1, 603, .inr (.inl (jl_ we)))), (ma 31, .inl (G.2.2 0, 603, .inl (ja_ le))), (ma 25, .inl (G.2.2 0, 3, .inl (ja_ mn))), (ma 26, .inl (G.2.2 3, 3, .inl (ja_ mu)))] s.heap.size) s.heap H locs [(mo, .inr (6, mo_ ma ty at0 dp wy un pl sp pe tk du tm)), (ma 27, .inl (G.2.2 1, 603, .inr (.inl (jl_ (va_up (sh_ be (201 * li) (r_pos (r1, r2, r3, r4, r5) st.1) st.1.length) (((201 * li + r_pos (r1, r2, r3, r4, r5) st.1 : Nat) : Int)).toNat r1))))), (ma 28, .inl (G.2.2 1, 603, .inr (.inl (jl_ (va_up (sh_ so (201 * li) (r_pos (r1, r2, r3, r4, r5) st.1) st.1.length) (((201 * li + r_pos (r1, r2, r3, r4, r5) st.1 : Nat) : Int)).toNat r3))))), (ma 29, .inl (G.2.2 1, 603, .inr (.inl (jl_ (va_up (sh_ wh (201 * li) (r_pos (r1, r2, r3, r4, r5) st.1) st.1.length) (((201 * li + r_pos (r1, r2, r3, r4, r5) st.1 : Nat) : Int)).toNat r2))))), (ma 30, .inl (G.2.2 1, 603, .inr (.inl (jl_ (sh_ we (201 * li) (r_pos (r1, r2, r3, r4, r5) st.1) st.1.length))))), (ma 31, .inl (G.2.2 0, 603, .inl (ja_ (sh_ le (201 * li) (r_pos (r1, r2, r3, r4, r5) st.1) st.1.length)))), (ma 25, .inl (G.2.2 0, 3, .inl (ja_ mn))), (ma 26, .inl (G.2.2 3, 3, .inl (ja_ mu)))] := hh
    refine lv_aload_n hx hb d_M_add_176 rfl (lv_at hl 1 rfl) ?_
    refine xw_get F hh.1 (v := .ref (ma 30)) fl_M_90_6 0 rfl rfl d_M_add_177 ?_
    refine lv_iload hx hb d_M_add_180 (lv_at hl 0 rfl) ?_
    refine lv_lload hx hb d_M_add_182 (lv_at hl 6 rfl) ?_
    refine xw_last F hh 4 (f := sh_ we (201 * li) (r_pos (r1, r2, r3, r4, r5) st.1) st.1.length) rfl (i := ((201 * li + r_pos (r1, r2, r3, r4, r5) st.1 : Nat) : Int)) (x := r4) (by omega) d_M_add_184 (fun H locs hh => ?_)
    have hh : xw_H G (va_A [(mo, .inr (6, mo_ ma ty at0 dp wy un pl sp pe tk du tm)), (ma 27, .inl (G.2.2 1, 603, .inr (.inl (jl_ be)))), (ma 28, .inl (G.2.2 1, 603, .inr (.inl (jl_ so)))), (ma 29, .inl (G.2.2 1, 603, .inr (.inl (jl_ wh)))), (ma 30, .inl (G.2.2 1, 603, .inr (.inl (jl_ we)))), (ma 31, .inl (G.2.2 0, 603, .inl (ja_ le))), (ma 25, .inl (G.2.2 0, 3, .inl (ja_ mn))), (ma 26, .inl (G.2.2 3, 3, .inl (ja_ mu)))] s.heap.size) s.heap H locs [(mo, .inr (6, mo_ ma ty at0 dp wy un pl sp pe tk du tm)), (ma 27, .inl (G.2.2 1, 603, .inr (.inl (jl_ (va_up (sh_ be (201 * li) (r_pos (r1, r2, r3, r4, r5) st.1) st.1.length) (((201 * li + r_pos (r1, r2, r3, r4, r5) st.1 : Nat) : Int)).toNat r1))))), (ma 28, .inl (G.2.2 1, 603, .inr (.inl (jl_ (va_up (sh_ so (201 * li) (r_pos (r1, r2, r3, r4, r5) st.1) st.1.length) (((201 * li + r_pos (r1, r2, r3, r4, r5) st.1 : Nat) : Int)).toNat r3))))), (ma 29, .inl (G.2.2 1, 603, .inr (.inl (jl_ (va_up (sh_ wh (201 * li) (r_pos (r1, r2, r3, r4, r5) st.1) st.1.length) (((201 * li + r_pos (r1, r2, r3, r4, r5) st.1 : Nat) : Int)).toNat r2))))), (ma 30, .inl (G.2.2 1, 603, .inr (.inl (jl_ (va_up (sh_ we (201 * li) (r_pos (r1, r2, r3, r4, r5) st.1) st.1.length) (((201 * li + r_pos (r1, r2, r3, r4, r5) st.1 : Nat) : Int)).toNat r4))))), (ma 31, .inl (G.2.2 0, 603, .inl (ja_ (sh_ le (201 * li) (r_pos (r1, r2, r3, r4, r5) st.1) st.1.length)))), (ma 25, .inl (G.2.2 0, 3, .inl (ja_ mn))), (ma 26, .inl (G.2.2 3, 3, .inl (ja_ mu)))] := hh
    refine lv_aload_n hx hb d_M_add_185 rfl (lv_at hl 1 rfl) ?_
    refine xw_get F hh.1 (v := .ref (ma 31)) fl_M_93_6 0 rfl rfl d_M_add_186 ?_
    refine lv_iload hx hb d_M_add_189 (lv_at hl 0 rfl) ?_
    refine lv_iload hx hb d_M_add_191 (lv_at hl 7 rfl) ?_
    refine xw_iast F hh 5 (f := sh_ le (201 * li) (r_pos (r1, r2, r3, r4, r5) st.1) st.1.length) rfl (i := ((201 * li + r_pos (r1, r2, r3, r4, r5) st.1 : Nat) : Int)) (x := r5) (by omega) d_M_add_193 (fun H locs hh => ?_)
    have hh : xw_H G (va_A [(mo, .inr (6, mo_ ma ty at0 dp wy un pl sp pe tk du tm)), (ma 27, .inl (G.2.2 1, 603, .inr (.inl (jl_ be)))), (ma 28, .inl (G.2.2 1, 603, .inr (.inl (jl_ so)))), (ma 29, .inl (G.2.2 1, 603, .inr (.inl (jl_ wh)))), (ma 30, .inl (G.2.2 1, 603, .inr (.inl (jl_ we)))), (ma 31, .inl (G.2.2 0, 603, .inl (ja_ le))), (ma 25, .inl (G.2.2 0, 3, .inl (ja_ mn))), (ma 26, .inl (G.2.2 3, 3, .inl (ja_ mu)))] s.heap.size) s.heap H locs [(mo, .inr (6, mo_ ma ty at0 dp wy un pl sp pe tk du tm)), (ma 27, .inl (G.2.2 1, 603, .inr (.inl (jl_ (va_up (sh_ be (201 * li) (r_pos (r1, r2, r3, r4, r5) st.1) st.1.length) (((201 * li + r_pos (r1, r2, r3, r4, r5) st.1 : Nat) : Int)).toNat r1))))), (ma 28, .inl (G.2.2 1, 603, .inr (.inl (jl_ (va_up (sh_ so (201 * li) (r_pos (r1, r2, r3, r4, r5) st.1) st.1.length) (((201 * li + r_pos (r1, r2, r3, r4, r5) st.1 : Nat) : Int)).toNat r3))))), (ma 29, .inl (G.2.2 1, 603, .inr (.inl (jl_ (va_up (sh_ wh (201 * li) (r_pos (r1, r2, r3, r4, r5) st.1) st.1.length) (((201 * li + r_pos (r1, r2, r3, r4, r5) st.1 : Nat) : Int)).toNat r2))))), (ma 30, .inl (G.2.2 1, 603, .inr (.inl (jl_ (va_up (sh_ we (201 * li) (r_pos (r1, r2, r3, r4, r5) st.1) st.1.length) (((201 * li + r_pos (r1, r2, r3, r4, r5) st.1 : Nat) : Int)).toNat r4))))), (ma 31, .inl (G.2.2 0, 603, .inl (ja_ (va_up (sh_ le (201 * li) (r_pos (r1, r2, r3, r4, r5) st.1) st.1.length) (((201 * li + r_pos (r1, r2, r3, r4, r5) st.1 : Nat) : Int)).toNat r5)))), (ma 25, .inl (G.2.2 0, 3, .inl (ja_ mn))), (ma 26, .inl (G.2.2 3, 3, .inl (ja_ mu)))] := hh
    refine lv_aload_n hx hb d_M_add_194 rfl (lv_at hl 1 rfl) ?_
    refine xw_get F hh.1 (v := .ref (ma 25)) fl_M_74_6 0 rfl rfl d_M_add_195 ?_
    refine lv_iload_n hx hb d_M_add_198 rfl (lv_at hl 2 rfl) ?_
    refine lv_dup2_11 hx hb d_M_add_199 rfl rfl ?_
    refine xw_iald F hh.1 6 (f := mn) rfl (i := (li : Int)) (by omega) d_M_add_200 ?_
    refine xw_topi (y := (st.1.length : Int)) hmr.1 ?_
    refine lv_iconst (v := xi_ 1) hx hb d_M_add_201 rfl ?_
    refine xw_iadd hx hb d_M_add_202 ?_
    refine xw_iast F hh 6 (f := mn) rfl (i := (li : Int)) (x := (st.1.length : Int) + 1) (by omega) d_M_add_203 (fun H locs hh => ?_)
    have hh : xw_H G (va_A [(mo, .inr (6, mo_ ma ty at0 dp wy un pl sp pe tk du tm)), (ma 27, .inl (G.2.2 1, 603, .inr (.inl (jl_ be)))), (ma 28, .inl (G.2.2 1, 603, .inr (.inl (jl_ so)))), (ma 29, .inl (G.2.2 1, 603, .inr (.inl (jl_ wh)))), (ma 30, .inl (G.2.2 1, 603, .inr (.inl (jl_ we)))), (ma 31, .inl (G.2.2 0, 603, .inl (ja_ le))), (ma 25, .inl (G.2.2 0, 3, .inl (ja_ mn))), (ma 26, .inl (G.2.2 3, 3, .inl (ja_ mu)))] s.heap.size) s.heap H locs [(mo, .inr (6, mo_ ma ty at0 dp wy un pl sp pe tk du tm)), (ma 27, .inl (G.2.2 1, 603, .inr (.inl (jl_ (va_up (sh_ be (201 * li) (r_pos (r1, r2, r3, r4, r5) st.1) st.1.length) (((201 * li + r_pos (r1, r2, r3, r4, r5) st.1 : Nat) : Int)).toNat r1))))), (ma 28, .inl (G.2.2 1, 603, .inr (.inl (jl_ (va_up (sh_ so (201 * li) (r_pos (r1, r2, r3, r4, r5) st.1) st.1.length) (((201 * li + r_pos (r1, r2, r3, r4, r5) st.1 : Nat) : Int)).toNat r3))))), (ma 29, .inl (G.2.2 1, 603, .inr (.inl (jl_ (va_up (sh_ wh (201 * li) (r_pos (r1, r2, r3, r4, r5) st.1) st.1.length) (((201 * li + r_pos (r1, r2, r3, r4, r5) st.1 : Nat) : Int)).toNat r2))))), (ma 30, .inl (G.2.2 1, 603, .inr (.inl (jl_ (va_up (sh_ we (201 * li) (r_pos (r1, r2, r3, r4, r5) st.1) st.1.length) (((201 * li + r_pos (r1, r2, r3, r4, r5) st.1 : Nat) : Int)).toNat r4))))), (ma 31, .inl (G.2.2 0, 603, .inl (ja_ (va_up (sh_ le (201 * li) (r_pos (r1, r2, r3, r4, r5) st.1) st.1.length) (((201 * li + r_pos (r1, r2, r3, r4, r5) st.1 : Nat) : Int)).toNat r5)))), (ma 25, .inl (G.2.2 0, 3, .inl (ja_ (va_up mn ((li : Int)).toNat ((st.1.length : Int) + 1))))), (ma 26, .inl (G.2.2 3, 3, .inl (ja_ mu)))] := hh
    exact xw_vret F hr hlk hh (in_ be (201 * li) (r_pos (r1, r2, r3, r4, r5) st.1) st.1.length r1, in_ so (201 * li) (r_pos (r1, r2, r3, r4, r5) st.1) st.1.length r3, in_ wh (201 * li) (r_pos (r1, r2, r3, r4, r5) st.1) st.1.length r2, in_ we (201 * li) (r_pos (r1, r2, r3, r4, r5) st.1) st.1.length r4, in_ le (201 * li) (r_pos (r1, r2, r3, r4, r5) st.1) st.1.length r5, va_up mn li ((st.1.length : Int) + 1), mu) rfl (mrr_ins hmr (by omega) (r1, r2, r3, r4, r5) hrv) trivial d_M_add_204
  · refine lv_aload_n hx hb d_M_add_12 rfl (lv_at hl 0 rfl) ?_
    refine xw_get F hh.1 (v := .ref (ma 26)) fl_M_77_6 0 rfl rfl d_M_add_13 ?_
    refine lv_iload_n hx hb d_M_add_16 rfl (lv_at hl 1 rfl) ?_
    refine lv_iconst (v := xi_ 1) hx hb d_M_add_17 rfl ?_
    refine xw_zast F hh 7 (f := mu) rfl (i := (li : Int)) (x := 1) (by omega) (by omega) d_M_add_18 (fun H locs hh => ?_)
    have hh : xw_H G (va_A [(mo, .inr (6, mo_ ma ty at0 dp wy un pl sp pe tk du tm)), (ma 27, .inl (G.2.2 1, 603, .inr (.inl (jl_ be)))), (ma 28, .inl (G.2.2 1, 603, .inr (.inl (jl_ so)))), (ma 29, .inl (G.2.2 1, 603, .inr (.inl (jl_ wh)))), (ma 30, .inl (G.2.2 1, 603, .inr (.inl (jl_ we)))), (ma 31, .inl (G.2.2 0, 603, .inl (ja_ le))), (ma 25, .inl (G.2.2 0, 3, .inl (ja_ mn))), (ma 26, .inl (G.2.2 3, 3, .inl (ja_ mu)))] s.heap.size) s.heap H locs [(mo, .inr (6, mo_ ma ty at0 dp wy un pl sp pe tk du tm)), (ma 27, .inl (G.2.2 1, 603, .inr (.inl (jl_ be)))), (ma 28, .inl (G.2.2 1, 603, .inr (.inl (jl_ so)))), (ma 29, .inl (G.2.2 1, 603, .inr (.inl (jl_ wh)))), (ma 30, .inl (G.2.2 1, 603, .inr (.inl (jl_ we)))), (ma 31, .inl (G.2.2 0, 603, .inl (ja_ le))), (ma 25, .inl (G.2.2 0, 3, .inl (ja_ mn))), (ma 26, .inl (G.2.2 3, 3, .inl (ja_ (va_up mu ((li : Int)).toNat 1))))] := hh
    exact xw_vret F hr hlk hh (be, so, wh, we, le, mn, va_up mu li 1) rfl (mrr_full hmr (by omega) (r1, r2, r3, r4, r5)) trivial d_M_add_19
def rm_M_addOnset : Room := { frames := 1, cells := 0, slots := 0, locals := 28 }
set_option maxHeartbeats 4000000 in
set_option maxRecDepth 100000 in
theorem lp_M_addOnset {p0 : Program} {l : Launch} {e0 : Env} {s : State} {m0 : MethodId} {args : Array Value} {below : List Frame} {meth : Method} {c0 : Code} {Q : State → Prop} {G : GG_} {A : Nat → Prop} {H0 : Heap} (F : xw_F p0 s m0 args c0 b_M_addOnset 11 R_M G) (mo : Nat) (ma : Nat → Nat) (ty at0 dp wy un pl sp pe tk : Int) (gr dt ds dl da dm de : Nat → Int) (st : List Row_ × Bool) (sl tv ev r5 : Int) (hsl : 0 ≤ sl ∧ sl ≤ 7) (hone : 1 ≤ sp * gr sl.toNat ∧ sp * gr sl.toNat ≤ 1000000) (hspg : (0 ≤ sp ∧ sp ≤ 20) ∧ 1 ≤ gr sl.toNat ∧ gr sl.toNat ≤ 5040) (hmd : mdd_ dt ds dl da dm de (lasts_ gr sp) st) (htv : -1000000000000000 ≤ tv ∧ tv ≤ 1000000000000000) (hev : -1000000000000000 ≤ ev ∧ ev ≤ 1000000000000000) (htk9 : -2000000000 ≤ tv / (sp * gr sl.toNat) ∧ tv / (sp * gr sl.toNat) ≤ 2000000000) (hr5 : 0 ≤ r5 ∧ r5 ≤ 65535)
    (kt : ∀ (ls : Array Slot) (H : Heap) (locs : List Loc), lv_has ls 11 [(10, .int (xi_ ((0 + r_pos (tv / (sp * gr sl.toNat), sl, tv, ev, r5) st.1 : Nat) : Int))), (0, .ref mo), (1, .int (xi_ sl)), (2, .long (xl_ tv)), (4, .long (xl_ ev)), (6, .int (xi_ r5)), (7, .long (xl_ (sp * gr sl.toNat))), (9, .int (xi_ (tv / (sp * gr sl.toNat))))] → xw_H G A H0 H locs [(mo, .inr (6, mo_ ma ty at0 dp wy un pl sp pe tk (st.1.length : Int) (b2_ st.2))), (ma 12, .inl (G.2.2 0, 9, .inl (ja_ gr))), (ma 39, .inl (G.2.2 0, 101, .inl (ja_ (sh_ dt 0 (r_pos (tv / (sp * gr sl.toNat), sl, tv, ev, r5) st.1) st.1.length)))), (ma 40, .inl (G.2.2 0, 101, .inl (ja_ (sh_ ds 0 (r_pos (tv / (sp * gr sl.toNat), sl, tv, ev, r5) st.1) st.1.length)))), (ma 41, .inl (G.2.2 0, 101, .inl (ja_ (sh_ dl 0 (r_pos (tv / (sp * gr sl.toNat), sl, tv, ev, r5) st.1) st.1.length)))), (ma 42, .inl (G.2.2 0, 101, .inl (ja_ (sh_ da 0 (r_pos (tv / (sp * gr sl.toNat), sl, tv, ev, r5) st.1) st.1.length)))), (ma 43, .inl (G.2.2 1, 101, .inr (.inl (jl_ (sh_ dm 0 (r_pos (tv / (sp * gr sl.toNat), sl, tv, ev, r5) st.1) st.1.length))))), (ma 44, .inl (G.2.2 1, 101, .inr (.inl (jl_ (sh_ de 0 (r_pos (tv / (sp * gr sl.toNat), sl, tv, ev, r5) st.1) st.1.length)))))] → W p0 l e0 rm_M_addOnset s m0 args below meth c0 H locs 0 0 Q (F0 m0 170 ls [])) :
    ∀ (p : Nat) (ls : Array Slot) (H : Heap) (locs : List Loc), p ≤ st.1.length → r_pos (tv / (sp * gr sl.toNat), sl, tv, ev, r5) st.1 ≤ p → lv_has ls 11 [(10, .int (xi_ ((0 + p : Nat) : Int))), (0, .ref mo), (1, .int (xi_ sl)), (2, .long (xl_ tv)), (4, .long (xl_ ev)), (6, .int (xi_ r5)), (7, .long (xl_ (sp * gr sl.toNat))), (9, .int (xi_ (tv / (sp * gr sl.toNat))))] → xw_H G A H0 H locs [(mo, .inr (6, mo_ ma ty at0 dp wy un pl sp pe tk (st.1.length : Int) (b2_ st.2))), (ma 12, .inl (G.2.2 0, 9, .inl (ja_ gr))), (ma 39, .inl (G.2.2 0, 101, .inl (ja_ (sh_ dt 0 p st.1.length)))), (ma 40, .inl (G.2.2 0, 101, .inl (ja_ (sh_ ds 0 p st.1.length)))), (ma 41, .inl (G.2.2 0, 101, .inl (ja_ (sh_ dl 0 p st.1.length)))), (ma 42, .inl (G.2.2 0, 101, .inl (ja_ (sh_ da 0 p st.1.length)))), (ma 43, .inl (G.2.2 1, 101, .inr (.inl (jl_ (sh_ dm 0 p st.1.length))))), (ma 44, .inl (G.2.2 1, 101, .inr (.inl (jl_ (sh_ de 0 p st.1.length)))))] → W p0 l e0 rm_M_addOnset s m0 args below meth c0 H locs 0 0 Q (F0 m0 44 ls []) := by
  have hx := F.1
  have hb := F.2.1
  have hlen := hmd.2.1.2.1
  have hsrt := hmd.2.1.1
  intro p
  induction p with
  | zero =>
    intro ls H locs hp hr9 hl hh
    have e0 : r_pos (tv / (sp * gr sl.toNat), sl, tv, ev, r5) st.1 = 0 := by omega
    refine lv_iload hx hb d_M_addOnset_44 (lv_at hl 0 rfl) ?_
    refine xw_if_le hx hb 170 d_M_addOnset_46 (by decide) (by omega) (fun c46 => ?_) (fun c46 => absurd c46 (by omega))
    rw [e0] at kt
    exact kt ls H locs hl hh
  | succ p ihp =>
    intro ls H locs hp hr9 hl hh
    have hrow := (hmd.1 p _ (List.getElem?_eq_getElem (show p < st.1.length by omega))).1
    have hpl := r_pos_lt (x := (tv / (sp * gr sl.toNat), sl, tv, ev, r5)) hsrt (List.getElem?_eq_getElem (show p < st.1.length by omega))
    rw [hrow] at hpl
    refine lv_iload hx hb d_M_addOnset_44 (lv_at hl 0 rfl) ?_
    refine xw_if_le hx hb 170 d_M_addOnset_46 (by decide) (by omega) (fun c46 => absurd c46 (by omega)) (fun c46 => ?_)
    refine lv_aload_n hx hb d_M_addOnset_49 rfl (lv_at hl 1 rfl) ?_
    refine lv_iload hx hb d_M_addOnset_50 (lv_at hl 0 rfl) ?_
    refine lv_iconst (v := xi_ 1) hx hb d_M_addOnset_52 rfl ?_
    refine xw_isub hx hb d_M_addOnset_53 ?_
    refine lv_iload hx hb d_M_addOnset_54 (lv_at hl 7 rfl) ?_
    refine lv_iload_n hx hb d_M_addOnset_56 rfl (lv_at hl 2 rfl) ?_
    refine lv_lload_n hx hb d_M_addOnset_57 rfl (lv_at hl 3 rfl) ?_
    refine lv_lload hx hb d_M_addOnset_58 (lv_at hl 4 rfl) ?_
    refine lv_iload hx hb d_M_addOnset_60 (lv_at hl 5 rfl) ?_
    refine xw_ci (wc := [(mo, .inr (6, mo_ ma ty at0 dp wy un pl sp pe tk (st.1.length : Int) (b2_ st.2))), (ma 39, .inl (G.2.2 0, 101, .inl (ja_ (sh_ dt 0 (p + 1) st.1.length)))), (ma 40, .inl (G.2.2 0, 101, .inl (ja_ (sh_ ds 0 (p + 1) st.1.length)))), (ma 43, .inl (G.2.2 1, 101, .inr (.inl (jl_ (sh_ dm 0 (p + 1) st.1.length))))), (ma 44, .inl (G.2.2 1, 101, .inr (.inl (jl_ (sh_ de 0 (p + 1) st.1.length))))), (ma 41, .inl (G.2.2 0, 101, .inl (ja_ (sh_ dl 0 (p + 1) st.1.length))))]) (wr := [(ma 12, .inl (G.2.2 0, 9, .inl (ja_ gr))), (ma 42, .inl (G.2.2 0, 101, .inl (ja_ (sh_ da 0 (p + 1) st.1.length))))]) hh [0, 2, 3, 6, 7, 4] [1, 5] rfl rfl rfl (by decide) (xw_rV F hh [0, 2, 3, 6, 7, 4] rfl rfl (c_M_isLater l G H.size mo ma ty at0 dp wy un pl sp pe tk (st.1.length : Int) (b2_ st.2) (sh_ dt 0 (p + 1) st.1.length) (sh_ ds 0 (p + 1) st.1.length) (sh_ dm 0 (p + 1) st.1.length) (sh_ de 0 (p + 1) st.1.length) (sh_ dl 0 (p + 1) st.1.length) (dbd_sh hmd.2.2 _ _ _) (((0 + (p + 1) : Nat) : Int) - 1) (by omega) (tv / (sp * gr sl.toNat)) sl tv ev r5 ⟨htk9, hsl, htv, hev, hr5⟩) trivial lk_M_253 cd_M_isLater se_M_isLater _ hh.1 0 rfl rfl rfl rfl ⟨by decide, by decide⟩ rfl hl.1 rfl (Nat.le_of_ble_eq_true rfl) d_M_addOnset_62 ⟨Nat.le_of_ble_eq_true rfl, Nat.le_of_ble_eq_true rfl⟩) (fun z62 u_ H locs hp62 hX hz hk hh => ?_)
    have hh : xw_H G A H0 H locs [(mo, .inr (6, mo_ ma ty at0 dp wy un pl sp pe tk (st.1.length : Int) (b2_ st.2))), (ma 12, .inl (G.2.2 0, 9, .inl (ja_ gr))), (ma 39, .inl (G.2.2 0, 101, .inl (ja_ (sh_ dt 0 (p + 1) st.1.length)))), (ma 40, .inl (G.2.2 0, 101, .inl (ja_ (sh_ ds 0 (p + 1) st.1.length)))), (ma 41, .inl (G.2.2 0, 101, .inl (ja_ (sh_ dl 0 (p + 1) st.1.length)))), (ma 42, .inl (G.2.2 0, 101, .inl (ja_ (sh_ da 0 (p + 1) st.1.length)))), (ma 43, .inl (G.2.2 1, 101, .inr (.inl (jl_ (sh_ dm 0 (p + 1) st.1.length))))), (ma 44, .inl (G.2.2 1, 101, .inr (.inl (jl_ (sh_ de 0 (p + 1) st.1.length)))))] := xw_H.sub hh [2, 0, 3, 4, 7, 1, 5, 6] rfl rfl
    rw [show (((0 + (p + 1) : Nat) : Int) - 1).toNat = 0 + p by omega, sh_at, sh_at, sh_at, sh_at, sh_at, show 0 + p = p by omega] at hp62
    obtain ⟨bq, hbq⟩ : ∃ bq, bq = r_lt (tv / (sp * gr sl.toNat), sl, tv, ev, r5) (dt p, ds p, dm p, de p, dl p) := ⟨_, rfl⟩
    rw [← hbq] at hp62 hpl
    obtain rfl : z62 = b2_ bq := hp62
    have hb2 := b2_01 bq
    refine xw_if_eq hx hb 170 d_M_addOnset_65 (by decide) (by omega) (fun c65 => ?_) (fun c65 => ?_)
    · have ebq : bq = false := b2_e0 c65
      have e9 : r_pos (tv / (sp * gr sl.toNat), sl, tv, ev, r5) st.1 = p + 1 := by have := hpl.mpr ebq; omega
      rw [e9] at kt
      exact kt ls H locs (lv_sub hl [0, 1, 2, 3, 4, 5, 6, 7] rfl) hh
    · refine lv_aload_n hx hb d_M_addOnset_68 rfl (lv_at hl 1 rfl) ?_
      refine xw_get F hh.1 (v := .ref (ma 39)) fl_M_100_6 0 rfl rfl d_M_addOnset_69 ?_
      refine lv_iload hx hb d_M_addOnset_72 (lv_at hl 0 rfl) ?_
      refine lv_aload_n hx hb d_M_addOnset_74 rfl (lv_at hl 1 rfl) ?_
      refine xw_get F hh.1 (v := .ref (ma 39)) fl_M_100_6 0 rfl rfl d_M_addOnset_75 ?_
      refine lv_iload hx hb d_M_addOnset_78 (lv_at hl 0 rfl) ?_
      refine lv_iconst (v := xi_ 1) hx hb d_M_addOnset_80 rfl ?_
      refine xw_isub hx hb d_M_addOnset_81 ?_
      refine xw_iald F hh.1 2 (f := sh_ dt 0 (p + 1) st.1.length) rfl (i := ((0 + (p + 1) : Nat) : Int) - 1) (by omega) d_M_addOnset_82 ?_
      refine xw_iast F hh 2 (f := sh_ dt 0 (p + 1) st.1.length) rfl (i := ((0 + (p + 1) : Nat) : Int)) (x := (sh_ dt 0 (p + 1) st.1.length) (((0 + (p + 1) : Nat) : Int) - 1).toNat) (by omega) d_M_addOnset_83 (fun H locs hh => ?_)
      have hh : xw_H G A H0 H locs [(mo, .inr (6, mo_ ma ty at0 dp wy un pl sp pe tk (st.1.length : Int) (b2_ st.2))), (ma 12, .inl (G.2.2 0, 9, .inl (ja_ gr))), (ma 39, .inl (G.2.2 0, 101, .inl (ja_ (va_up (sh_ dt 0 (p + 1) st.1.length) (((0 + (p + 1) : Nat) : Int)).toNat ((sh_ dt 0 (p + 1) st.1.length) (((0 + (p + 1) : Nat) : Int) - 1).toNat))))), (ma 40, .inl (G.2.2 0, 101, .inl (ja_ (sh_ ds 0 (p + 1) st.1.length)))), (ma 41, .inl (G.2.2 0, 101, .inl (ja_ (sh_ dl 0 (p + 1) st.1.length)))), (ma 42, .inl (G.2.2 0, 101, .inl (ja_ (sh_ da 0 (p + 1) st.1.length)))), (ma 43, .inl (G.2.2 1, 101, .inr (.inl (jl_ (sh_ dm 0 (p + 1) st.1.length))))), (ma 44, .inl (G.2.2 1, 101, .inr (.inl (jl_ (sh_ de 0 (p + 1) st.1.length)))))] := hh
      refine lv_aload_n hx hb d_M_addOnset_84 rfl (lv_at hl 1 rfl) ?_
      refine xw_get F hh.1 (v := .ref (ma 40)) fl_M_103_6 0 rfl rfl d_M_addOnset_85 ?_
      refine lv_iload hx hb d_M_addOnset_88 (lv_at hl 0 rfl) ?_
      refine lv_aload_n hx hb d_M_addOnset_90 rfl (lv_at hl 1 rfl) ?_
      refine xw_get F hh.1 (v := .ref (ma 40)) fl_M_103_6 0 rfl rfl d_M_addOnset_91 ?_
      refine lv_iload hx hb d_M_addOnset_94 (lv_at hl 0 rfl) ?_
      refine lv_iconst (v := xi_ 1) hx hb d_M_addOnset_96 rfl ?_
      refine xw_isub hx hb d_M_addOnset_97 ?_
      refine xw_iald F hh.1 3 (f := sh_ ds 0 (p + 1) st.1.length) rfl (i := ((0 + (p + 1) : Nat) : Int) - 1) (by omega) d_M_addOnset_98 ?_
      refine xw_iast F hh 3 (f := sh_ ds 0 (p + 1) st.1.length) rfl (i := ((0 + (p + 1) : Nat) : Int)) (x := (sh_ ds 0 (p + 1) st.1.length) (((0 + (p + 1) : Nat) : Int) - 1).toNat) (by omega) d_M_addOnset_99 (fun H locs hh => ?_)
      have hh : xw_H G A H0 H locs [(mo, .inr (6, mo_ ma ty at0 dp wy un pl sp pe tk (st.1.length : Int) (b2_ st.2))), (ma 12, .inl (G.2.2 0, 9, .inl (ja_ gr))), (ma 39, .inl (G.2.2 0, 101, .inl (ja_ (va_up (sh_ dt 0 (p + 1) st.1.length) (((0 + (p + 1) : Nat) : Int)).toNat ((sh_ dt 0 (p + 1) st.1.length) (((0 + (p + 1) : Nat) : Int) - 1).toNat))))), (ma 40, .inl (G.2.2 0, 101, .inl (ja_ (va_up (sh_ ds 0 (p + 1) st.1.length) (((0 + (p + 1) : Nat) : Int)).toNat ((sh_ ds 0 (p + 1) st.1.length) (((0 + (p + 1) : Nat) : Int) - 1).toNat))))), (ma 41, .inl (G.2.2 0, 101, .inl (ja_ (sh_ dl 0 (p + 1) st.1.length)))), (ma 42, .inl (G.2.2 0, 101, .inl (ja_ (sh_ da 0 (p + 1) st.1.length)))), (ma 43, .inl (G.2.2 1, 101, .inr (.inl (jl_ (sh_ dm 0 (p + 1) st.1.length))))), (ma 44, .inl (G.2.2 1, 101, .inr (.inl (jl_ (sh_ de 0 (p + 1) st.1.length)))))] := hh
      refine lv_aload_n hx hb d_M_addOnset_100 rfl (lv_at hl 1 rfl) ?_
      refine xw_get F hh.1 (v := .ref (ma 41)) fl_M_106_6 0 rfl rfl d_M_addOnset_101 ?_
      refine lv_iload hx hb d_M_addOnset_104 (lv_at hl 0 rfl) ?_
      refine lv_aload_n hx hb d_M_addOnset_106 rfl (lv_at hl 1 rfl) ?_
      refine xw_get F hh.1 (v := .ref (ma 41)) fl_M_106_6 0 rfl rfl d_M_addOnset_107 ?_
      refine lv_iload hx hb d_M_addOnset_110 (lv_at hl 0 rfl) ?_
      refine lv_iconst (v := xi_ 1) hx hb d_M_addOnset_112 rfl ?_
      refine xw_isub hx hb d_M_addOnset_113 ?_
      refine xw_iald F hh.1 4 (f := sh_ dl 0 (p + 1) st.1.length) rfl (i := ((0 + (p + 1) : Nat) : Int) - 1) (by omega) d_M_addOnset_114 ?_
      refine xw_iast F hh 4 (f := sh_ dl 0 (p + 1) st.1.length) rfl (i := ((0 + (p + 1) : Nat) : Int)) (x := (sh_ dl 0 (p + 1) st.1.length) (((0 + (p + 1) : Nat) : Int) - 1).toNat) (by omega) d_M_addOnset_115 (fun H locs hh => ?_)
      have hh : xw_H G A H0 H locs [(mo, .inr (6, mo_ ma ty at0 dp wy un pl sp pe tk (st.1.length : Int) (b2_ st.2))), (ma 12, .inl (G.2.2 0, 9, .inl (ja_ gr))), (ma 39, .inl (G.2.2 0, 101, .inl (ja_ (va_up (sh_ dt 0 (p + 1) st.1.length) (((0 + (p + 1) : Nat) : Int)).toNat ((sh_ dt 0 (p + 1) st.1.length) (((0 + (p + 1) : Nat) : Int) - 1).toNat))))), (ma 40, .inl (G.2.2 0, 101, .inl (ja_ (va_up (sh_ ds 0 (p + 1) st.1.length) (((0 + (p + 1) : Nat) : Int)).toNat ((sh_ ds 0 (p + 1) st.1.length) (((0 + (p + 1) : Nat) : Int) - 1).toNat))))), (ma 41, .inl (G.2.2 0, 101, .inl (ja_ (va_up (sh_ dl 0 (p + 1) st.1.length) (((0 + (p + 1) : Nat) : Int)).toNat ((sh_ dl 0 (p + 1) st.1.length) (((0 + (p + 1) : Nat) : Int) - 1).toNat))))), (ma 42, .inl (G.2.2 0, 101, .inl (ja_ (sh_ da 0 (p + 1) st.1.length)))), (ma 43, .inl (G.2.2 1, 101, .inr (.inl (jl_ (sh_ dm 0 (p + 1) st.1.length))))), (ma 44, .inl (G.2.2 1, 101, .inr (.inl (jl_ (sh_ de 0 (p + 1) st.1.length)))))] := hh
      refine lv_aload_n hx hb d_M_addOnset_116 rfl (lv_at hl 1 rfl) ?_
      refine xw_get F hh.1 (v := .ref (ma 42)) fl_M_109_6 0 rfl rfl d_M_addOnset_117 ?_
      refine lv_iload hx hb d_M_addOnset_120 (lv_at hl 0 rfl) ?_
      refine lv_aload_n hx hb d_M_addOnset_122 rfl (lv_at hl 1 rfl) ?_
      refine xw_get F hh.1 (v := .ref (ma 42)) fl_M_109_6 0 rfl rfl d_M_addOnset_123 ?_
      refine lv_iload hx hb d_M_addOnset_126 (lv_at hl 0 rfl) ?_
      refine lv_iconst (v := xi_ 1) hx hb d_M_addOnset_128 rfl ?_
      refine xw_isub hx hb d_M_addOnset_129 ?_
      refine xw_iald F hh.1 5 (f := sh_ da 0 (p + 1) st.1.length) rfl (i := ((0 + (p + 1) : Nat) : Int) - 1) (by omega) d_M_addOnset_130 ?_
      refine xw_iast F hh 5 (f := sh_ da 0 (p + 1) st.1.length) rfl (i := ((0 + (p + 1) : Nat) : Int)) (x := (sh_ da 0 (p + 1) st.1.length) (((0 + (p + 1) : Nat) : Int) - 1).toNat) (by omega) d_M_addOnset_131 (fun H locs hh => ?_)
      have hh : xw_H G A H0 H locs [(mo, .inr (6, mo_ ma ty at0 dp wy un pl sp pe tk (st.1.length : Int) (b2_ st.2))), (ma 12, .inl (G.2.2 0, 9, .inl (ja_ gr))), (ma 39, .inl (G.2.2 0, 101, .inl (ja_ (va_up (sh_ dt 0 (p + 1) st.1.length) (((0 + (p + 1) : Nat) : Int)).toNat ((sh_ dt 0 (p + 1) st.1.length) (((0 + (p + 1) : Nat) : Int) - 1).toNat))))), (ma 40, .inl (G.2.2 0, 101, .inl (ja_ (va_up (sh_ ds 0 (p + 1) st.1.length) (((0 + (p + 1) : Nat) : Int)).toNat ((sh_ ds 0 (p + 1) st.1.length) (((0 + (p + 1) : Nat) : Int) - 1).toNat))))), (ma 41, .inl (G.2.2 0, 101, .inl (ja_ (va_up (sh_ dl 0 (p + 1) st.1.length) (((0 + (p + 1) : Nat) : Int)).toNat ((sh_ dl 0 (p + 1) st.1.length) (((0 + (p + 1) : Nat) : Int) - 1).toNat))))), (ma 42, .inl (G.2.2 0, 101, .inl (ja_ (va_up (sh_ da 0 (p + 1) st.1.length) (((0 + (p + 1) : Nat) : Int)).toNat ((sh_ da 0 (p + 1) st.1.length) (((0 + (p + 1) : Nat) : Int) - 1).toNat))))), (ma 43, .inl (G.2.2 1, 101, .inr (.inl (jl_ (sh_ dm 0 (p + 1) st.1.length))))), (ma 44, .inl (G.2.2 1, 101, .inr (.inl (jl_ (sh_ de 0 (p + 1) st.1.length)))))] := hh
      refine lv_aload_n hx hb d_M_addOnset_132 rfl (lv_at hl 1 rfl) ?_
      refine xw_get F hh.1 (v := .ref (ma 43)) fl_M_112_6 0 rfl rfl d_M_addOnset_133 ?_
      refine lv_iload hx hb d_M_addOnset_136 (lv_at hl 0 rfl) ?_
      refine lv_aload_n hx hb d_M_addOnset_138 rfl (lv_at hl 1 rfl) ?_
      refine xw_get F hh.1 (v := .ref (ma 43)) fl_M_112_6 0 rfl rfl d_M_addOnset_139 ?_
      refine lv_iload hx hb d_M_addOnset_142 (lv_at hl 0 rfl) ?_
      refine lv_iconst (v := xi_ 1) hx hb d_M_addOnset_144 rfl ?_
      refine xw_isub hx hb d_M_addOnset_145 ?_
      refine xw_lald F hh.1 6 (f := sh_ dm 0 (p + 1) st.1.length) rfl (i := ((0 + (p + 1) : Nat) : Int) - 1) (by omega) d_M_addOnset_146 ?_
      refine xw_last F hh 6 (f := sh_ dm 0 (p + 1) st.1.length) rfl (i := ((0 + (p + 1) : Nat) : Int)) (x := (sh_ dm 0 (p + 1) st.1.length) (((0 + (p + 1) : Nat) : Int) - 1).toNat) (by omega) d_M_addOnset_147 (fun H locs hh => ?_)
      have hh : xw_H G A H0 H locs [(mo, .inr (6, mo_ ma ty at0 dp wy un pl sp pe tk (st.1.length : Int) (b2_ st.2))), (ma 12, .inl (G.2.2 0, 9, .inl (ja_ gr))), (ma 39, .inl (G.2.2 0, 101, .inl (ja_ (va_up (sh_ dt 0 (p + 1) st.1.length) (((0 + (p + 1) : Nat) : Int)).toNat ((sh_ dt 0 (p + 1) st.1.length) (((0 + (p + 1) : Nat) : Int) - 1).toNat))))), (ma 40, .inl (G.2.2 0, 101, .inl (ja_ (va_up (sh_ ds 0 (p + 1) st.1.length) (((0 + (p + 1) : Nat) : Int)).toNat ((sh_ ds 0 (p + 1) st.1.length) (((0 + (p + 1) : Nat) : Int) - 1).toNat))))), (ma 41, .inl (G.2.2 0, 101, .inl (ja_ (va_up (sh_ dl 0 (p + 1) st.1.length) (((0 + (p + 1) : Nat) : Int)).toNat ((sh_ dl 0 (p + 1) st.1.length) (((0 + (p + 1) : Nat) : Int) - 1).toNat))))), (ma 42, .inl (G.2.2 0, 101, .inl (ja_ (va_up (sh_ da 0 (p + 1) st.1.length) (((0 + (p + 1) : Nat) : Int)).toNat ((sh_ da 0 (p + 1) st.1.length) (((0 + (p + 1) : Nat) : Int) - 1).toNat))))), (ma 43, .inl (G.2.2 1, 101, .inr (.inl (jl_ (va_up (sh_ dm 0 (p + 1) st.1.length) (((0 + (p + 1) : Nat) : Int)).toNat ((sh_ dm 0 (p + 1) st.1.length) (((0 + (p + 1) : Nat) : Int) - 1).toNat)))))), (ma 44, .inl (G.2.2 1, 101, .inr (.inl (jl_ (sh_ de 0 (p + 1) st.1.length)))))] := hh
      refine lv_aload_n hx hb d_M_addOnset_148 rfl (lv_at hl 1 rfl) ?_
      refine xw_get F hh.1 (v := .ref (ma 44)) fl_M_115_6 0 rfl rfl d_M_addOnset_149 ?_
      refine lv_iload hx hb d_M_addOnset_152 (lv_at hl 0 rfl) ?_
      refine lv_aload_n hx hb d_M_addOnset_154 rfl (lv_at hl 1 rfl) ?_
      refine xw_get F hh.1 (v := .ref (ma 44)) fl_M_115_6 0 rfl rfl d_M_addOnset_155 ?_
      refine lv_iload hx hb d_M_addOnset_158 (lv_at hl 0 rfl) ?_
      refine lv_iconst (v := xi_ 1) hx hb d_M_addOnset_160 rfl ?_
      refine xw_isub hx hb d_M_addOnset_161 ?_
      refine xw_lald F hh.1 7 (f := sh_ de 0 (p + 1) st.1.length) rfl (i := ((0 + (p + 1) : Nat) : Int) - 1) (by omega) d_M_addOnset_162 ?_
      refine xw_last F hh 7 (f := sh_ de 0 (p + 1) st.1.length) rfl (i := ((0 + (p + 1) : Nat) : Int)) (x := (sh_ de 0 (p + 1) st.1.length) (((0 + (p + 1) : Nat) : Int) - 1).toNat) (by omega) d_M_addOnset_163 (fun H locs hh => ?_)
      have hh : xw_H G A H0 H locs [(mo, .inr (6, mo_ ma ty at0 dp wy un pl sp pe tk (st.1.length : Int) (b2_ st.2))), (ma 12, .inl (G.2.2 0, 9, .inl (ja_ gr))), (ma 39, .inl (G.2.2 0, 101, .inl (ja_ (va_up (sh_ dt 0 (p + 1) st.1.length) (((0 + (p + 1) : Nat) : Int)).toNat ((sh_ dt 0 (p + 1) st.1.length) (((0 + (p + 1) : Nat) : Int) - 1).toNat))))), (ma 40, .inl (G.2.2 0, 101, .inl (ja_ (va_up (sh_ ds 0 (p + 1) st.1.length) (((0 + (p + 1) : Nat) : Int)).toNat ((sh_ ds 0 (p + 1) st.1.length) (((0 + (p + 1) : Nat) : Int) - 1).toNat))))), (ma 41, .inl (G.2.2 0, 101, .inl (ja_ (va_up (sh_ dl 0 (p + 1) st.1.length) (((0 + (p + 1) : Nat) : Int)).toNat ((sh_ dl 0 (p + 1) st.1.length) (((0 + (p + 1) : Nat) : Int) - 1).toNat))))), (ma 42, .inl (G.2.2 0, 101, .inl (ja_ (va_up (sh_ da 0 (p + 1) st.1.length) (((0 + (p + 1) : Nat) : Int)).toNat ((sh_ da 0 (p + 1) st.1.length) (((0 + (p + 1) : Nat) : Int) - 1).toNat))))), (ma 43, .inl (G.2.2 1, 101, .inr (.inl (jl_ (va_up (sh_ dm 0 (p + 1) st.1.length) (((0 + (p + 1) : Nat) : Int)).toNat ((sh_ dm 0 (p + 1) st.1.length) (((0 + (p + 1) : Nat) : Int) - 1).toNat)))))), (ma 44, .inl (G.2.2 1, 101, .inr (.inl (jl_ (va_up (sh_ de 0 (p + 1) st.1.length) (((0 + (p + 1) : Nat) : Int)).toNat ((sh_ de 0 (p + 1) st.1.length) (((0 + (p + 1) : Nat) : Int) - 1).toNat))))))] := hh
      refine lv_iinc (k := 0) (v := xi_ (((0 + (p + 1) : Nat) : Int) + (-1))) (lv' := [(10, .int (xi_ (((0 + (p + 1) : Nat) : Int) + (-1)))), (0, .ref mo), (1, .int (xi_ sl)), (2, .long (xl_ tv)), (4, .long (xl_ ev)), (6, .int (xi_ r5)), (7, .long (xl_ (sp * gr sl.toNat))), (9, .int (xi_ (tv / (sp * gr sl.toNat))))]) hx hb d_M_addOnset_164 hl rfl (xi_add _ _).symm (by decide) rfl (fun ls hl => ?_)
      refine lv_goto (tgt := 44) hx hb d_M_addOnset_167 (by decide) ?_
      have ebq : bq = true := b2_ne c65
      have e_dt := sh_st (f := dt) (b := 0) (p := p) (n := st.1.length) (X := (((0 + (p + 1) : Nat) : Int)).toNat) (Y := (((0 + (p + 1) : Nat) : Int) - 1).toNat) (by omega) (by omega) (by omega)
      have e_ds := sh_st (f := ds) (b := 0) (p := p) (n := st.1.length) (X := (((0 + (p + 1) : Nat) : Int)).toNat) (Y := (((0 + (p + 1) : Nat) : Int) - 1).toNat) (by omega) (by omega) (by omega)
      have e_dl := sh_st (f := dl) (b := 0) (p := p) (n := st.1.length) (X := (((0 + (p + 1) : Nat) : Int)).toNat) (Y := (((0 + (p + 1) : Nat) : Int) - 1).toNat) (by omega) (by omega) (by omega)
      have e_da := sh_st (f := da) (b := 0) (p := p) (n := st.1.length) (X := (((0 + (p + 1) : Nat) : Int)).toNat) (Y := (((0 + (p + 1) : Nat) : Int) - 1).toNat) (by omega) (by omega) (by omega)
      have e_dm := sh_st (f := dm) (b := 0) (p := p) (n := st.1.length) (X := (((0 + (p + 1) : Nat) : Int)).toNat) (Y := (((0 + (p + 1) : Nat) : Int) - 1).toNat) (by omega) (by omega) (by omega)
      have e_de := sh_st (f := de) (b := 0) (p := p) (n := st.1.length) (X := (((0 + (p + 1) : Nat) : Int)).toNat) (Y := (((0 + (p + 1) : Nat) : Int) - 1).toNat) (by omega) (by omega) (by omega)
      rw [e_dt, e_ds, e_dl, e_da, e_dm, e_de] at hh
      have hl : lv_has ls 11 [(10, .int (xi_ ((0 + p : Nat) : Int))), (0, .ref mo), (1, .int (xi_ sl)), (2, .long (xl_ tv)), (4, .long (xl_ ev)), (6, .int (xi_ r5)), (7, .long (xl_ (sp * gr sl.toNat))), (9, .int (xi_ (tv / (sp * gr sl.toNat))))] := by
        have h9 := (lv_sub hl [0, 1, 2, 3, 4, 5, 6, 7] rfl)
        rw [show ((0 + (p + 1) : Nat) : Int) + (-1) = ((0 + p : Nat) : Int) by omega] at h9
        exact h9
      exact ihp ls H locs (by omega) (Nat.le_of_not_lt (fun q => absurd (hpl.mp q) (by rw [ebq]; decide))) hl hh
set_option maxHeartbeats 4000000 in
set_option maxRecDepth 100000 in
theorem c_M_addOnset (l : Launch) (G : GG_) (sz : Nat) (mo : Nat) (ma : Nat → Nat) (ty at0 dp wy un pl sp pe tk : Int) (gr dt ds dl da dm de : Nat → Int) (st : List Row_ × Bool) (sl tv ev r5 : Int) (hsl : 0 ≤ sl ∧ sl ≤ 7) (hone : 1 ≤ sp * gr sl.toNat ∧ sp * gr sl.toNat ≤ 1000000) (hspg : (0 ≤ sp ∧ sp ≤ 20) ∧ 1 ≤ gr sl.toNat ∧ gr sl.toNat ≤ 5040) (hmd : mdd_ dt ds dl da dm de (lasts_ gr sp) st) (htv : -1000000000000000 ≤ tv ∧ tv ≤ 1000000000000000) (hev : -1000000000000000 ≤ ev ∧ ev ≤ 1000000000000000) (htk9 : -2000000000 ≤ tv / (sp * gr sl.toNat) ∧ tv / (sp * gr sl.toNat) ≤ 2000000000) (hr5 : 0 ≤ r5 ∧ r5 ≤ 65535) : Met l y_M_addOnset (cw_ y_M_addOnset b_M_addOnset 11 none) rm_M_addOnset (xw_P G [.ref mo, .int (xi_ sl), .long (xl_ tv), .long (xl_ ev), .int (xi_ r5)] sz [(mo, .inr (6, mo_ ma ty at0 dp wy un pl sp pe tk (st.1.length : Int) (b2_ st.2))), (ma 12, .inl (G.2.2 0, 9, .inl (ja_ gr))), (ma 39, .inl (G.2.2 0, 101, .inl (ja_ dt))), (ma 40, .inl (G.2.2 0, 101, .inl (ja_ ds))), (ma 41, .inl (G.2.2 0, 101, .inl (ja_ dl))), (ma 42, .inl (G.2.2 0, 101, .inl (ja_ da))), (ma 43, .inl (G.2.2 1, 101, .inr (.inl (jl_ dm)))), (ma 44, .inl (G.2.2 1, 101, .inr (.inl (jl_ de))))] (fun _ => True)) (xw_Qv (S := (Nat → Int) × (Nat → Int) × (Nat → Int) × (Nat → Int) × (Nat → Int) × (Nat → Int)) G sz [(mo, .inr (6, mo_ ma ty at0 dp wy un pl sp pe tk (st.1.length : Int) (b2_ st.2))), (ma 12, .inl (G.2.2 0, 9, .inl (ja_ gr))), (ma 39, .inl (G.2.2 0, 101, .inl (ja_ dt))), (ma 40, .inl (G.2.2 0, 101, .inl (ja_ ds))), (ma 41, .inl (G.2.2 0, 101, .inl (ja_ dl))), (ma 42, .inl (G.2.2 0, 101, .inl (ja_ da))), (ma 43, .inl (G.2.2 1, 101, .inr (.inl (jl_ dm)))), (ma 44, .inl (G.2.2 1, 101, .inr (.inl (jl_ de))))] (fun u => mdd_ u.1 u.2.1 u.2.2.1 u.2.2.2.1 u.2.2.2.2.1 u.2.2.2.2.2 (lasts_ gr sp) (a_add 100 st (tv / (sp * gr sl.toNat), sl, tv, ev, r5))) (fun u => [(mo, .inr (6, mo_ ma ty at0 dp wy un pl sp pe tk ((a_add 100 st (tv / (sp * gr sl.toNat), sl, tv, ev, r5)).1.length : Int) (b2_ (a_add 100 st (tv / (sp * gr sl.toNat), sl, tv, ev, r5)).2))), (ma 12, .inl (G.2.2 0, 9, .inl (ja_ gr))), (ma 39, .inl (G.2.2 0, 101, .inl (ja_ u.1))), (ma 40, .inl (G.2.2 0, 101, .inl (ja_ u.2.1))), (ma 41, .inl (G.2.2 0, 101, .inl (ja_ u.2.2.1))), (ma 42, .inl (G.2.2 0, 101, .inl (ja_ u.2.2.2.1))), (ma 43, .inl (G.2.2 1, 101, .inr (.inl (jl_ u.2.2.2.2.1)))), (ma 44, .inl (G.2.2 1, 101, .inr (.inl (jl_ u.2.2.2.2.2))))]) (fun _ _ => True)) 0 0 (va_A [(mo, .inr (6, mo_ ma ty at0 dp wy un pl sp pe tk (st.1.length : Int) (b2_ st.2))), (ma 12, .inl (G.2.2 0, 9, .inl (ja_ gr))), (ma 39, .inl (G.2.2 0, 101, .inl (ja_ dt))), (ma 40, .inl (G.2.2 0, 101, .inl (ja_ ds))), (ma 41, .inl (G.2.2 0, 101, .inl (ja_ dl))), (ma 42, .inl (G.2.2 0, 101, .inl (ja_ da))), (ma 43, .inl (G.2.2 1, 101, .inr (.inl (jl_ dm)))), (ma 44, .inl (G.2.2 1, 101, .inr (.inl (jl_ de))))] sz) := by
  refine xw_met (by decide) (Nat.le_of_ble_eq_true rfl) ?_
  intro p0 e0 s m0 args below meth c0 F hr hlk hin hsz hh hX ls hl
  subst hsz
  have hx := F.1
  have hb := F.2.1
  have hl : lv_has ls 11 [(0, .ref mo), (1, .int (xi_ sl)), (2, .long (xl_ tv)), (4, .long (xl_ ev)), (6, .int (xi_ r5))] := hl
  have hlen := hmd.2.1.2.1
  refine lv_aload_n hx hb d_M_addOnset_0 rfl (lv_at hl 0 rfl) ?_
  refine xw_get F hh.1 (v := .int (xi_ (st.1.length : Int))) fl_M_164_6 0 rfl rfl d_M_addOnset_1 ?_
  refine lv_bipush (v := xi_ 100) hx hb d_M_addOnset_4 (by decide) ?_
  refine xw_icmp_ne hx hb 15 d_M_addOnset_6 (by decide) (by omega) (fun c6 => ?_) (fun c6 => ?_)
  · refine lv_aload_n hx hb d_M_addOnset_15 rfl (lv_at hl 0 rfl) ?_
    refine xw_get F hh.1 (v := .long (xl_ sp)) fl_M_242_6 0 rfl rfl d_M_addOnset_16 ?_
    refine lv_aload_n hx hb d_M_addOnset_19 rfl (lv_at hl 0 rfl) ?_
    refine xw_get F hh.1 (v := .ref (ma 12)) fl_M_40_6 0 rfl rfl d_M_addOnset_20 ?_
    refine lv_iload_n hx hb d_M_addOnset_23 rfl (lv_at hl 1 rfl) ?_
    refine xw_iald F hh.1 1 (f := gr) rfl (i := sl) (by omega) d_M_addOnset_24 ?_
    refine xw_i2l hx hb d_M_addOnset_25 (by omega) ?_
    refine xw_lmul hx hb d_M_addOnset_26 ?_
    refine xw_topl (y := sp * gr sl.toNat) rfl ?_
    refine lv_lstore (lv' := [(7, .long (xl_ (sp * gr sl.toNat))), (0, .ref mo), (1, .int (xi_ sl)), (2, .long (xl_ tv)), (4, .long (xl_ ev)), (6, .int (xi_ r5))]) hx hb d_M_addOnset_27 hl (by decide) rfl (fun ls hl => ?_)
    refine lv_lload_n hx hb d_M_addOnset_29 rfl (lv_at hl 3 rfl) ?_
    refine lv_lload hx hb d_M_addOnset_30 (lv_at hl 0 rfl) ?_
    refine xw_clp hh (xw_rSp F (c_M_floor l G s.heap.size tv (sp * gr sl.toNat) (by omega)) lk_M_180 cd_M_floor ss_M_floor rfl rfl ⟨by decide, by decide⟩ rfl hl.1 rfl (Nat.le_of_ble_eq_true rfl) d_M_addOnset_32 ⟨Nat.le_of_ble_eq_true rfl, Nat.le_of_ble_eq_true rfl⟩) (fun z32 u H locs hp32 hz hk hh => ?_)
    obtain rfl : z32 = fl_ tv (sp * gr sl.toNat) := hp32
    refine xw_topl (y := tv / (sp * gr sl.toNat)) (if_pos (by omega)) ?_
    refine xw_l2i hx hb d_M_addOnset_35 ?_
    refine lv_istore (lv' := [(9, .int (xi_ (tv / (sp * gr sl.toNat)))), (7, .long (xl_ (sp * gr sl.toNat))), (0, .ref mo), (1, .int (xi_ sl)), (2, .long (xl_ tv)), (4, .long (xl_ ev)), (6, .int (xi_ r5))]) hx hb d_M_addOnset_36 hl (by decide) rfl (fun ls hl => ?_)
    refine lv_aload_n hx hb d_M_addOnset_38 rfl (lv_at hl 2 rfl) ?_
    refine xw_get F hh.1 (v := .int (xi_ (st.1.length : Int))) fl_M_164_6 0 rfl rfl d_M_addOnset_39 ?_
    refine lv_istore (lv' := [(10, .int (xi_ (st.1.length : Int))), (9, .int (xi_ (tv / (sp * gr sl.toNat)))), (7, .long (xl_ (sp * gr sl.toNat))), (0, .ref mo), (1, .int (xi_ sl)), (2, .long (xl_ tv)), (4, .long (xl_ ev)), (6, .int (xi_ r5))]) hx hb d_M_addOnset_42 hl (by decide) rfl (fun ls hl => ?_)
    have hl : lv_has ls 11 [(10, .int (xi_ ((0 + st.1.length : Nat) : Int))), (0, .ref mo), (1, .int (xi_ sl)), (2, .long (xl_ tv)), (4, .long (xl_ ev)), (6, .int (xi_ r5)), (7, .long (xl_ (sp * gr sl.toNat))), (9, .int (xi_ (tv / (sp * gr sl.toNat))))] := by
      have h9 := (lv_sub hl [0, 3, 4, 5, 6, 7, 2, 1] rfl)
      rw [show (st.1.length : Int) = ((0 + st.1.length : Nat) : Int) by omega] at h9
      exact h9
    have hh : xw_H G (va_A [(mo, .inr (6, mo_ ma ty at0 dp wy un pl sp pe tk (st.1.length : Int) (b2_ st.2))), (ma 12, .inl (G.2.2 0, 9, .inl (ja_ gr))), (ma 39, .inl (G.2.2 0, 101, .inl (ja_ dt))), (ma 40, .inl (G.2.2 0, 101, .inl (ja_ ds))), (ma 41, .inl (G.2.2 0, 101, .inl (ja_ dl))), (ma 42, .inl (G.2.2 0, 101, .inl (ja_ da))), (ma 43, .inl (G.2.2 1, 101, .inr (.inl (jl_ dm)))), (ma 44, .inl (G.2.2 1, 101, .inr (.inl (jl_ de))))] s.heap.size) s.heap H locs [(mo, .inr (6, mo_ ma ty at0 dp wy un pl sp pe tk (st.1.length : Int) (b2_ st.2))), (ma 12, .inl (G.2.2 0, 9, .inl (ja_ gr))), (ma 39, .inl (G.2.2 0, 101, .inl (ja_ (sh_ dt 0 st.1.length st.1.length)))), (ma 40, .inl (G.2.2 0, 101, .inl (ja_ (sh_ ds 0 st.1.length st.1.length)))), (ma 41, .inl (G.2.2 0, 101, .inl (ja_ (sh_ dl 0 st.1.length st.1.length)))), (ma 42, .inl (G.2.2 0, 101, .inl (ja_ (sh_ da 0 st.1.length st.1.length)))), (ma 43, .inl (G.2.2 1, 101, .inr (.inl (jl_ (sh_ dm 0 st.1.length st.1.length))))), (ma 44, .inl (G.2.2 1, 101, .inr (.inl (jl_ (sh_ de 0 st.1.length st.1.length)))))] := by
      rw [sh_0, sh_0, sh_0, sh_0, sh_0, sh_0]
      exact hh
    refine lp_M_addOnset F mo ma ty at0 dp wy un pl sp pe tk gr dt ds dl da dm de st sl tv ev r5 hsl hone hspg hmd htv hev htk9 hr5 (fun ls H locs hl hh => ?_) st.1.length ls H _ (by omega) (r_pos_le _ _) hl hh
    have hpp := r_pos_le (tv / (sp * gr sl.toNat), sl, tv, ev, r5) st.1
    refine lv_aload_n hx hb d_M_addOnset_170 rfl (lv_at hl 1 rfl) ?_
    refine xw_get F hh.1 (v := .ref (ma 39)) fl_M_100_6 0 rfl rfl d_M_addOnset_171 ?_
    refine lv_iload hx hb d_M_addOnset_174 (lv_at hl 0 rfl) ?_
    refine lv_iload hx hb d_M_addOnset_176 (lv_at hl 7 rfl) ?_
    refine xw_iast F hh 2 (f := sh_ dt 0 (r_pos (tv / (sp * gr sl.toNat), sl, tv, ev, r5) st.1) st.1.length) rfl (i := ((0 + r_pos (tv / (sp * gr sl.toNat), sl, tv, ev, r5) st.1 : Nat) : Int)) (x := tv / (sp * gr sl.toNat)) (by omega) d_M_addOnset_178 (fun H locs hh => ?_)
    have hh : xw_H G (va_A [(mo, .inr (6, mo_ ma ty at0 dp wy un pl sp pe tk (st.1.length : Int) (b2_ st.2))), (ma 12, .inl (G.2.2 0, 9, .inl (ja_ gr))), (ma 39, .inl (G.2.2 0, 101, .inl (ja_ dt))), (ma 40, .inl (G.2.2 0, 101, .inl (ja_ ds))), (ma 41, .inl (G.2.2 0, 101, .inl (ja_ dl))), (ma 42, .inl (G.2.2 0, 101, .inl (ja_ da))), (ma 43, .inl (G.2.2 1, 101, .inr (.inl (jl_ dm)))), (ma 44, .inl (G.2.2 1, 101, .inr (.inl (jl_ de))))] s.heap.size) s.heap H locs [(mo, .inr (6, mo_ ma ty at0 dp wy un pl sp pe tk (st.1.length : Int) (b2_ st.2))), (ma 12, .inl (G.2.2 0, 9, .inl (ja_ gr))), (ma 39, .inl (G.2.2 0, 101, .inl (ja_ (va_up (sh_ dt 0 (r_pos (tv / (sp * gr sl.toNat), sl, tv, ev, r5) st.1) st.1.length) (((0 + r_pos (tv / (sp * gr sl.toNat), sl, tv, ev, r5) st.1 : Nat) : Int)).toNat (tv / (sp * gr sl.toNat)))))), (ma 40, .inl (G.2.2 0, 101, .inl (ja_ (sh_ ds 0 (r_pos (tv / (sp * gr sl.toNat), sl, tv, ev, r5) st.1) st.1.length)))), (ma 41, .inl (G.2.2 0, 101, .inl (ja_ (sh_ dl 0 (r_pos (tv / (sp * gr sl.toNat), sl, tv, ev, r5) st.1) st.1.length)))), (ma 42, .inl (G.2.2 0, 101, .inl (ja_ (sh_ da 0 (r_pos (tv / (sp * gr sl.toNat), sl, tv, ev, r5) st.1) st.1.length)))), (ma 43, .inl (G.2.2 1, 101, .inr (.inl (jl_ (sh_ dm 0 (r_pos (tv / (sp * gr sl.toNat), sl, tv, ev, r5) st.1) st.1.length))))), (ma 44, .inl (G.2.2 1, 101, .inr (.inl (jl_ (sh_ de 0 (r_pos (tv / (sp * gr sl.toNat), sl, tv, ev, r5) st.1) st.1.length)))))] := hh
    refine lv_aload_n hx hb d_M_addOnset_179 rfl (lv_at hl 1 rfl) ?_
    refine xw_get F hh.1 (v := .ref (ma 40)) fl_M_103_6 0 rfl rfl d_M_addOnset_180 ?_
    refine lv_iload hx hb d_M_addOnset_183 (lv_at hl 0 rfl) ?_
    refine lv_iload_n hx hb d_M_addOnset_185 rfl (lv_at hl 2 rfl) ?_
    refine xw_iast F hh 3 (f := sh_ ds 0 (r_pos (tv / (sp * gr sl.toNat), sl, tv, ev, r5) st.1) st.1.length) rfl (i := ((0 + r_pos (tv / (sp * gr sl.toNat), sl, tv, ev, r5) st.1 : Nat) : Int)) (x := sl) (by omega) d_M_addOnset_186 (fun H locs hh => ?_)
    have hh : xw_H G (va_A [(mo, .inr (6, mo_ ma ty at0 dp wy un pl sp pe tk (st.1.length : Int) (b2_ st.2))), (ma 12, .inl (G.2.2 0, 9, .inl (ja_ gr))), (ma 39, .inl (G.2.2 0, 101, .inl (ja_ dt))), (ma 40, .inl (G.2.2 0, 101, .inl (ja_ ds))), (ma 41, .inl (G.2.2 0, 101, .inl (ja_ dl))), (ma 42, .inl (G.2.2 0, 101, .inl (ja_ da))), (ma 43, .inl (G.2.2 1, 101, .inr (.inl (jl_ dm)))), (ma 44, .inl (G.2.2 1, 101, .inr (.inl (jl_ de))))] s.heap.size) s.heap H locs [(mo, .inr (6, mo_ ma ty at0 dp wy un pl sp pe tk (st.1.length : Int) (b2_ st.2))), (ma 12, .inl (G.2.2 0, 9, .inl (ja_ gr))), (ma 39, .inl (G.2.2 0, 101, .inl (ja_ (va_up (sh_ dt 0 (r_pos (tv / (sp * gr sl.toNat), sl, tv, ev, r5) st.1) st.1.length) (((0 + r_pos (tv / (sp * gr sl.toNat), sl, tv, ev, r5) st.1 : Nat) : Int)).toNat (tv / (sp * gr sl.toNat)))))), (ma 40, .inl (G.2.2 0, 101, .inl (ja_ (va_up (sh_ ds 0 (r_pos (tv / (sp * gr sl.toNat), sl, tv, ev, r5) st.1) st.1.length) (((0 + r_pos (tv / (sp * gr sl.toNat), sl, tv, ev, r5) st.1 : Nat) : Int)).toNat sl)))), (ma 41, .inl (G.2.2 0, 101, .inl (ja_ (sh_ dl 0 (r_pos (tv / (sp * gr sl.toNat), sl, tv, ev, r5) st.1) st.1.length)))), (ma 42, .inl (G.2.2 0, 101, .inl (ja_ (sh_ da 0 (r_pos (tv / (sp * gr sl.toNat), sl, tv, ev, r5) st.1) st.1.length)))), (ma 43, .inl (G.2.2 1, 101, .inr (.inl (jl_ (sh_ dm 0 (r_pos (tv / (sp * gr sl.toNat), sl, tv, ev, r5) st.1) st.1.length))))), (ma 44, .inl (G.2.2 1, 101, .inr (.inl (jl_ (sh_ de 0 (r_pos (tv / (sp * gr sl.toNat), sl, tv, ev, r5) st.1) st.1.length)))))] := hh
    refine lv_aload_n hx hb d_M_addOnset_187 rfl (lv_at hl 1 rfl) ?_
    refine xw_get F hh.1 (v := .ref (ma 41)) fl_M_106_6 0 rfl rfl d_M_addOnset_188 ?_
    refine lv_iload hx hb d_M_addOnset_191 (lv_at hl 0 rfl) ?_
    refine lv_iload hx hb d_M_addOnset_193 (lv_at hl 5 rfl) ?_
    refine xw_iast F hh 4 (f := sh_ dl 0 (r_pos (tv / (sp * gr sl.toNat), sl, tv, ev, r5) st.1) st.1.length) rfl (i := ((0 + r_pos (tv / (sp * gr sl.toNat), sl, tv, ev, r5) st.1 : Nat) : Int)) (x := r5) (by omega) d_M_addOnset_195 (fun H locs hh => ?_)
    have hh : xw_H G (va_A [(mo, .inr (6, mo_ ma ty at0 dp wy un pl sp pe tk (st.1.length : Int) (b2_ st.2))), (ma 12, .inl (G.2.2 0, 9, .inl (ja_ gr))), (ma 39, .inl (G.2.2 0, 101, .inl (ja_ dt))), (ma 40, .inl (G.2.2 0, 101, .inl (ja_ ds))), (ma 41, .inl (G.2.2 0, 101, .inl (ja_ dl))), (ma 42, .inl (G.2.2 0, 101, .inl (ja_ da))), (ma 43, .inl (G.2.2 1, 101, .inr (.inl (jl_ dm)))), (ma 44, .inl (G.2.2 1, 101, .inr (.inl (jl_ de))))] s.heap.size) s.heap H locs [(mo, .inr (6, mo_ ma ty at0 dp wy un pl sp pe tk (st.1.length : Int) (b2_ st.2))), (ma 12, .inl (G.2.2 0, 9, .inl (ja_ gr))), (ma 39, .inl (G.2.2 0, 101, .inl (ja_ (va_up (sh_ dt 0 (r_pos (tv / (sp * gr sl.toNat), sl, tv, ev, r5) st.1) st.1.length) (((0 + r_pos (tv / (sp * gr sl.toNat), sl, tv, ev, r5) st.1 : Nat) : Int)).toNat (tv / (sp * gr sl.toNat)))))), (ma 40, .inl (G.2.2 0, 101, .inl (ja_ (va_up (sh_ ds 0 (r_pos (tv / (sp * gr sl.toNat), sl, tv, ev, r5) st.1) st.1.length) (((0 + r_pos (tv / (sp * gr sl.toNat), sl, tv, ev, r5) st.1 : Nat) : Int)).toNat sl)))), (ma 41, .inl (G.2.2 0, 101, .inl (ja_ (va_up (sh_ dl 0 (r_pos (tv / (sp * gr sl.toNat), sl, tv, ev, r5) st.1) st.1.length) (((0 + r_pos (tv / (sp * gr sl.toNat), sl, tv, ev, r5) st.1 : Nat) : Int)).toNat r5)))), (ma 42, .inl (G.2.2 0, 101, .inl (ja_ (sh_ da 0 (r_pos (tv / (sp * gr sl.toNat), sl, tv, ev, r5) st.1) st.1.length)))), (ma 43, .inl (G.2.2 1, 101, .inr (.inl (jl_ (sh_ dm 0 (r_pos (tv / (sp * gr sl.toNat), sl, tv, ev, r5) st.1) st.1.length))))), (ma 44, .inl (G.2.2 1, 101, .inr (.inl (jl_ (sh_ de 0 (r_pos (tv / (sp * gr sl.toNat), sl, tv, ev, r5) st.1) st.1.length)))))] := hh
    refine lv_aload_n hx hb d_M_addOnset_196 rfl (lv_at hl 1 rfl) ?_
    refine xw_get F hh.1 (v := .ref (ma 42)) fl_M_109_6 0 rfl rfl d_M_addOnset_197 ?_
    refine lv_iload hx hb d_M_addOnset_200 (lv_at hl 0 rfl) ?_
    refine lv_lload hx hb d_M_addOnset_202 (lv_at hl 4 rfl) ?_
    refine lv_lload hx hb d_M_addOnset_204 (lv_at hl 6 rfl) ?_
    refine xw_clp hh (xw_rSp F (c_M_floor l G H.size ev (sp * gr sl.toNat) (by omega)) lk_M_180 cd_M_floor ss_M_floor rfl rfl ⟨by decide, by decide⟩ rfl hl.1 rfl (Nat.le_of_ble_eq_true rfl) d_M_addOnset_206 ⟨Nat.le_of_ble_eq_true rfl, Nat.le_of_ble_eq_true rfl⟩) (fun z206 u H locs hp206 hz hk hh => ?_)
    obtain rfl : z206 = fl_ ev (sp * gr sl.toNat) := hp206
    refine xw_topl (y := ev / (sp * gr sl.toNat)) (if_pos (by omega)) ?_
    refine lv_iload hx hb d_M_addOnset_209 (lv_at hl 7 rfl) ?_
    refine xw_i2l hx hb d_M_addOnset_211 (by omega) ?_
    refine xw_lsub hx hb d_M_addOnset_212 ?_
    refine xw_l2i hx hb d_M_addOnset_213 ?_
    refine xw_iast F hh 5 (f := sh_ da 0 (r_pos (tv / (sp * gr sl.toNat), sl, tv, ev, r5) st.1) st.1.length) rfl (i := ((0 + r_pos (tv / (sp * gr sl.toNat), sl, tv, ev, r5) st.1 : Nat) : Int)) (x := (ev / (sp * gr sl.toNat)) - (tv / (sp * gr sl.toNat))) (by omega) d_M_addOnset_214 (fun H locs hh => ?_)
    have hh : xw_H G (va_A [(mo, .inr (6, mo_ ma ty at0 dp wy un pl sp pe tk (st.1.length : Int) (b2_ st.2))), (ma 12, .inl (G.2.2 0, 9, .inl (ja_ gr))), (ma 39, .inl (G.2.2 0, 101, .inl (ja_ dt))), (ma 40, .inl (G.2.2 0, 101, .inl (ja_ ds))), (ma 41, .inl (G.2.2 0, 101, .inl (ja_ dl))), (ma 42, .inl (G.2.2 0, 101, .inl (ja_ da))), (ma 43, .inl (G.2.2 1, 101, .inr (.inl (jl_ dm)))), (ma 44, .inl (G.2.2 1, 101, .inr (.inl (jl_ de))))] s.heap.size) s.heap H locs [(mo, .inr (6, mo_ ma ty at0 dp wy un pl sp pe tk (st.1.length : Int) (b2_ st.2))), (ma 12, .inl (G.2.2 0, 9, .inl (ja_ gr))), (ma 39, .inl (G.2.2 0, 101, .inl (ja_ (va_up (sh_ dt 0 (r_pos (tv / (sp * gr sl.toNat), sl, tv, ev, r5) st.1) st.1.length) (((0 + r_pos (tv / (sp * gr sl.toNat), sl, tv, ev, r5) st.1 : Nat) : Int)).toNat (tv / (sp * gr sl.toNat)))))), (ma 40, .inl (G.2.2 0, 101, .inl (ja_ (va_up (sh_ ds 0 (r_pos (tv / (sp * gr sl.toNat), sl, tv, ev, r5) st.1) st.1.length) (((0 + r_pos (tv / (sp * gr sl.toNat), sl, tv, ev, r5) st.1 : Nat) : Int)).toNat sl)))), (ma 41, .inl (G.2.2 0, 101, .inl (ja_ (va_up (sh_ dl 0 (r_pos (tv / (sp * gr sl.toNat), sl, tv, ev, r5) st.1) st.1.length) (((0 + r_pos (tv / (sp * gr sl.toNat), sl, tv, ev, r5) st.1 : Nat) : Int)).toNat r5)))), (ma 42, .inl (G.2.2 0, 101, .inl (ja_ (va_up (sh_ da 0 (r_pos (tv / (sp * gr sl.toNat), sl, tv, ev, r5) st.1) st.1.length) (((0 + r_pos (tv / (sp * gr sl.toNat), sl, tv, ev, r5) st.1 : Nat) : Int)).toNat ((ev / (sp * gr sl.toNat)) - (tv / (sp * gr sl.toNat))))))), (ma 43, .inl (G.2.2 1, 101, .inr (.inl (jl_ (sh_ dm 0 (r_pos (tv / (sp * gr sl.toNat), sl, tv, ev, r5) st.1) st.1.length))))), (ma 44, .inl (G.2.2 1, 101, .inr (.inl (jl_ (sh_ de 0 (r_pos (tv / (sp * gr sl.toNat), sl, tv, ev, r5) st.1) st.1.length)))))] := hh
    refine lv_aload_n hx hb d_M_addOnset_215 rfl (lv_at hl 1 rfl) ?_
    refine xw_get F hh.1 (v := .ref (ma 43)) fl_M_112_6 0 rfl rfl d_M_addOnset_216 ?_
    refine lv_iload hx hb d_M_addOnset_219 (lv_at hl 0 rfl) ?_
    refine lv_lload_n hx hb d_M_addOnset_221 rfl (lv_at hl 3 rfl) ?_
    refine xw_last F hh 6 (f := sh_ dm 0 (r_pos (tv / (sp * gr sl.toNat), sl, tv, ev, r5) st.1) st.1.length) rfl (i := ((0 + r_pos (tv / (sp * gr sl.toNat), sl, tv, ev, r5) st.1 : Nat) : Int)) (x := tv) (by omega) d_M_addOnset_222 (fun H locs hh => ?_)
    have hh : xw_H G (va_A [(mo, .inr (6, mo_ ma ty at0 dp wy un pl sp pe tk (st.1.length : Int) (b2_ st.2))), (ma 12, .inl (G.2.2 0, 9, .inl (ja_ gr))), (ma 39, .inl (G.2.2 0, 101, .inl (ja_ dt))), (ma 40, .inl (G.2.2 0, 101, .inl (ja_ ds))), (ma 41, .inl (G.2.2 0, 101, .inl (ja_ dl))), (ma 42, .inl (G.2.2 0, 101, .inl (ja_ da))), (ma 43, .inl (G.2.2 1, 101, .inr (.inl (jl_ dm)))), (ma 44, .inl (G.2.2 1, 101, .inr (.inl (jl_ de))))] s.heap.size) s.heap H locs [(mo, .inr (6, mo_ ma ty at0 dp wy un pl sp pe tk (st.1.length : Int) (b2_ st.2))), (ma 12, .inl (G.2.2 0, 9, .inl (ja_ gr))), (ma 39, .inl (G.2.2 0, 101, .inl (ja_ (va_up (sh_ dt 0 (r_pos (tv / (sp * gr sl.toNat), sl, tv, ev, r5) st.1) st.1.length) (((0 + r_pos (tv / (sp * gr sl.toNat), sl, tv, ev, r5) st.1 : Nat) : Int)).toNat (tv / (sp * gr sl.toNat)))))), (ma 40, .inl (G.2.2 0, 101, .inl (ja_ (va_up (sh_ ds 0 (r_pos (tv / (sp * gr sl.toNat), sl, tv, ev, r5) st.1) st.1.length) (((0 + r_pos (tv / (sp * gr sl.toNat), sl, tv, ev, r5) st.1 : Nat) : Int)).toNat sl)))), (ma 41, .inl (G.2.2 0, 101, .inl (ja_ (va_up (sh_ dl 0 (r_pos (tv / (sp * gr sl.toNat), sl, tv, ev, r5) st.1) st.1.length) (((0 + r_pos (tv / (sp * gr sl.toNat), sl, tv, ev, r5) st.1 : Nat) : Int)).toNat r5)))), (ma 42, .inl (G.2.2 0, 101, .inl (ja_ (va_up (sh_ da 0 (r_pos (tv / (sp * gr sl.toNat), sl, tv, ev, r5) st.1) st.1.length) (((0 + r_pos (tv / (sp * gr sl.toNat), sl, tv, ev, r5) st.1 : Nat) : Int)).toNat ((ev / (sp * gr sl.toNat)) - (tv / (sp * gr sl.toNat))))))), (ma 43, .inl (G.2.2 1, 101, .inr (.inl (jl_ (va_up (sh_ dm 0 (r_pos (tv / (sp * gr sl.toNat), sl, tv, ev, r5) st.1) st.1.length) (((0 + r_pos (tv / (sp * gr sl.toNat), sl, tv, ev, r5) st.1 : Nat) : Int)).toNat tv))))), (ma 44, .inl (G.2.2 1, 101, .inr (.inl (jl_ (sh_ de 0 (r_pos (tv / (sp * gr sl.toNat), sl, tv, ev, r5) st.1) st.1.length)))))] := hh
    refine lv_aload_n hx hb d_M_addOnset_223 rfl (lv_at hl 1 rfl) ?_
    refine xw_get F hh.1 (v := .ref (ma 44)) fl_M_115_6 0 rfl rfl d_M_addOnset_224 ?_
    refine lv_iload hx hb d_M_addOnset_227 (lv_at hl 0 rfl) ?_
    refine lv_lload hx hb d_M_addOnset_229 (lv_at hl 4 rfl) ?_
    refine xw_last F hh 7 (f := sh_ de 0 (r_pos (tv / (sp * gr sl.toNat), sl, tv, ev, r5) st.1) st.1.length) rfl (i := ((0 + r_pos (tv / (sp * gr sl.toNat), sl, tv, ev, r5) st.1 : Nat) : Int)) (x := ev) (by omega) d_M_addOnset_231 (fun H locs hh => ?_)
    have hh : xw_H G (va_A [(mo, .inr (6, mo_ ma ty at0 dp wy un pl sp pe tk (st.1.length : Int) (b2_ st.2))), (ma 12, .inl (G.2.2 0, 9, .inl (ja_ gr))), (ma 39, .inl (G.2.2 0, 101, .inl (ja_ dt))), (ma 40, .inl (G.2.2 0, 101, .inl (ja_ ds))), (ma 41, .inl (G.2.2 0, 101, .inl (ja_ dl))), (ma 42, .inl (G.2.2 0, 101, .inl (ja_ da))), (ma 43, .inl (G.2.2 1, 101, .inr (.inl (jl_ dm)))), (ma 44, .inl (G.2.2 1, 101, .inr (.inl (jl_ de))))] s.heap.size) s.heap H locs [(mo, .inr (6, mo_ ma ty at0 dp wy un pl sp pe tk (st.1.length : Int) (b2_ st.2))), (ma 12, .inl (G.2.2 0, 9, .inl (ja_ gr))), (ma 39, .inl (G.2.2 0, 101, .inl (ja_ (va_up (sh_ dt 0 (r_pos (tv / (sp * gr sl.toNat), sl, tv, ev, r5) st.1) st.1.length) (((0 + r_pos (tv / (sp * gr sl.toNat), sl, tv, ev, r5) st.1 : Nat) : Int)).toNat (tv / (sp * gr sl.toNat)))))), (ma 40, .inl (G.2.2 0, 101, .inl (ja_ (va_up (sh_ ds 0 (r_pos (tv / (sp * gr sl.toNat), sl, tv, ev, r5) st.1) st.1.length) (((0 + r_pos (tv / (sp * gr sl.toNat), sl, tv, ev, r5) st.1 : Nat) : Int)).toNat sl)))), (ma 41, .inl (G.2.2 0, 101, .inl (ja_ (va_up (sh_ dl 0 (r_pos (tv / (sp * gr sl.toNat), sl, tv, ev, r5) st.1) st.1.length) (((0 + r_pos (tv / (sp * gr sl.toNat), sl, tv, ev, r5) st.1 : Nat) : Int)).toNat r5)))), (ma 42, .inl (G.2.2 0, 101, .inl (ja_ (va_up (sh_ da 0 (r_pos (tv / (sp * gr sl.toNat), sl, tv, ev, r5) st.1) st.1.length) (((0 + r_pos (tv / (sp * gr sl.toNat), sl, tv, ev, r5) st.1 : Nat) : Int)).toNat ((ev / (sp * gr sl.toNat)) - (tv / (sp * gr sl.toNat))))))), (ma 43, .inl (G.2.2 1, 101, .inr (.inl (jl_ (va_up (sh_ dm 0 (r_pos (tv / (sp * gr sl.toNat), sl, tv, ev, r5) st.1) st.1.length) (((0 + r_pos (tv / (sp * gr sl.toNat), sl, tv, ev, r5) st.1 : Nat) : Int)).toNat tv))))), (ma 44, .inl (G.2.2 1, 101, .inr (.inl (jl_ (va_up (sh_ de 0 (r_pos (tv / (sp * gr sl.toNat), sl, tv, ev, r5) st.1) st.1.length) (((0 + r_pos (tv / (sp * gr sl.toNat), sl, tv, ev, r5) st.1 : Nat) : Int)).toNat ev)))))] := hh
    refine lv_aload_n hx hb d_M_addOnset_232 rfl (lv_at hl 1 rfl) ?_
    refine lv_dup hx hb d_M_addOnset_233 rfl ?_
    refine xw_get F hh.1 (v := .int (xi_ (st.1.length : Int))) fl_M_164_6 0 rfl rfl d_M_addOnset_234 ?_
    refine lv_iconst (v := xi_ 1) hx hb d_M_addOnset_237 rfl ?_
    refine xw_iadd hx hb d_M_addOnset_238 ?_
    refine xw_put F hh fp_M_164_6 0 rfl rfl rfl (Nat.le_of_ble_eq_true rfl) d_M_addOnset_239 (fun H locs hh => ?_)
    have hh : xw_H G (va_A [(mo, .inr (6, mo_ ma ty at0 dp wy un pl sp pe tk (st.1.length : Int) (b2_ st.2))), (ma 12, .inl (G.2.2 0, 9, .inl (ja_ gr))), (ma 39, .inl (G.2.2 0, 101, .inl (ja_ dt))), (ma 40, .inl (G.2.2 0, 101, .inl (ja_ ds))), (ma 41, .inl (G.2.2 0, 101, .inl (ja_ dl))), (ma 42, .inl (G.2.2 0, 101, .inl (ja_ da))), (ma 43, .inl (G.2.2 1, 101, .inr (.inl (jl_ dm)))), (ma 44, .inl (G.2.2 1, 101, .inr (.inl (jl_ de))))] s.heap.size) s.heap H locs [(mo, .inr (6, mo_ ma ty at0 dp wy un pl sp pe tk ((st.1.length : Int) + 1) (b2_ st.2))), (ma 12, .inl (G.2.2 0, 9, .inl (ja_ gr))), (ma 39, .inl (G.2.2 0, 101, .inl (ja_ (va_up (sh_ dt 0 (r_pos (tv / (sp * gr sl.toNat), sl, tv, ev, r5) st.1) st.1.length) (((0 + r_pos (tv / (sp * gr sl.toNat), sl, tv, ev, r5) st.1 : Nat) : Int)).toNat (tv / (sp * gr sl.toNat)))))), (ma 40, .inl (G.2.2 0, 101, .inl (ja_ (va_up (sh_ ds 0 (r_pos (tv / (sp * gr sl.toNat), sl, tv, ev, r5) st.1) st.1.length) (((0 + r_pos (tv / (sp * gr sl.toNat), sl, tv, ev, r5) st.1 : Nat) : Int)).toNat sl)))), (ma 41, .inl (G.2.2 0, 101, .inl (ja_ (va_up (sh_ dl 0 (r_pos (tv / (sp * gr sl.toNat), sl, tv, ev, r5) st.1) st.1.length) (((0 + r_pos (tv / (sp * gr sl.toNat), sl, tv, ev, r5) st.1 : Nat) : Int)).toNat r5)))), (ma 42, .inl (G.2.2 0, 101, .inl (ja_ (va_up (sh_ da 0 (r_pos (tv / (sp * gr sl.toNat), sl, tv, ev, r5) st.1) st.1.length) (((0 + r_pos (tv / (sp * gr sl.toNat), sl, tv, ev, r5) st.1 : Nat) : Int)).toNat ((ev / (sp * gr sl.toNat)) - (tv / (sp * gr sl.toNat))))))), (ma 43, .inl (G.2.2 1, 101, .inr (.inl (jl_ (va_up (sh_ dm 0 (r_pos (tv / (sp * gr sl.toNat), sl, tv, ev, r5) st.1) st.1.length) (((0 + r_pos (tv / (sp * gr sl.toNat), sl, tv, ev, r5) st.1 : Nat) : Int)).toNat tv))))), (ma 44, .inl (G.2.2 1, 101, .inr (.inl (jl_ (va_up (sh_ de 0 (r_pos (tv / (sp * gr sl.toNat), sl, tv, ev, r5) st.1) st.1.length) (((0 + r_pos (tv / (sp * gr sl.toNat), sl, tv, ev, r5) st.1 : Nat) : Int)).toNat ev)))))] := hh
    have hm1 := mdd_ins hmd (by omega) (tv / (sp * gr sl.toNat), sl, tv, ev, r5) (ev / (sp * gr sl.toNat) - tv / (sp * gr sl.toNat)) (by show _ = if sp * gr sl.toNat < 1 then -1 else ev / (sp * gr sl.toNat) - tv / (sp * gr sl.toNat); rw [if_neg (by omega)]) ⟨htk9, hsl, htv, hev, hr5⟩
    have hm2 : (a_add 100 st (tv / (sp * gr sl.toNat), sl, tv, ev, r5)) = (r_ins (tv / (sp * gr sl.toNat), sl, tv, ev, r5) st.1, st.2) := by unfold a_add; rw [if_neg (by omega)]
    refine xw_vret F hr hlk hh (in_ dt 0 (r_pos (tv / (sp * gr sl.toNat), sl, tv, ev, r5) st.1) st.1.length (tv / (sp * gr sl.toNat)), in_ ds 0 (r_pos (tv / (sp * gr sl.toNat), sl, tv, ev, r5) st.1) st.1.length (sl), in_ dl 0 (r_pos (tv / (sp * gr sl.toNat), sl, tv, ev, r5) st.1) st.1.length (r5), in_ da 0 (r_pos (tv / (sp * gr sl.toNat), sl, tv, ev, r5) st.1) st.1.length ((ev / (sp * gr sl.toNat) - tv / (sp * gr sl.toNat))), in_ dm 0 (r_pos (tv / (sp * gr sl.toNat), sl, tv, ev, r5) st.1) st.1.length (tv), in_ de 0 (r_pos (tv / (sp * gr sl.toNat), sl, tv, ev, r5) st.1) st.1.length (ev)) ?_ hm1 trivial d_M_addOnset_242
    rw [hm2]
    show _ = _
    dsimp only
    rw [r_ins_len, show ((st.1.length + 1 : Nat) : Int) = (st.1.length : Int) + 1 by omega]
    rfl
  · refine lv_aload_n hx hb d_M_addOnset_9 rfl (lv_at hl 0 rfl) ?_
    refine lv_iconst (v := xi_ 1) hx hb d_M_addOnset_10 rfl ?_
    refine xw_put F hh fp_M_249_6 0 rfl (by decide) (by decide) (Nat.le_of_ble_eq_true rfl) d_M_addOnset_11 (fun H locs hh => ?_)
    have hh : xw_H G (va_A [(mo, .inr (6, mo_ ma ty at0 dp wy un pl sp pe tk (st.1.length : Int) (b2_ st.2))), (ma 12, .inl (G.2.2 0, 9, .inl (ja_ gr))), (ma 39, .inl (G.2.2 0, 101, .inl (ja_ dt))), (ma 40, .inl (G.2.2 0, 101, .inl (ja_ ds))), (ma 41, .inl (G.2.2 0, 101, .inl (ja_ dl))), (ma 42, .inl (G.2.2 0, 101, .inl (ja_ da))), (ma 43, .inl (G.2.2 1, 101, .inr (.inl (jl_ dm)))), (ma 44, .inl (G.2.2 1, 101, .inr (.inl (jl_ de))))] s.heap.size) s.heap H locs [(mo, .inr (6, mo_ ma ty at0 dp wy un pl sp pe tk (st.1.length : Int) 1)), (ma 12, .inl (G.2.2 0, 9, .inl (ja_ gr))), (ma 39, .inl (G.2.2 0, 101, .inl (ja_ dt))), (ma 40, .inl (G.2.2 0, 101, .inl (ja_ ds))), (ma 41, .inl (G.2.2 0, 101, .inl (ja_ dl))), (ma 42, .inl (G.2.2 0, 101, .inl (ja_ da))), (ma 43, .inl (G.2.2 1, 101, .inr (.inl (jl_ dm)))), (ma 44, .inl (G.2.2 1, 101, .inr (.inl (jl_ de))))] := hh
    obtain ⟨hm1, hm2⟩ := mdd_full hmd (by omega) (tv / (sp * gr sl.toNat), sl, tv, ev, r5)
    refine xw_vret F hr hlk hh (dt, ds, dl, da, dm, de) ?_ hm1 trivial d_M_addOnset_14
    rw [hm2]
    rfl
