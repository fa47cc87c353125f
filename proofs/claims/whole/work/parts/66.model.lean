/-! the model: onsets, type -/
def rm_M_onsets : Room := { frames := 0, cells := 0, slots := 0, locals := 0 }
set_option maxHeartbeats 4000000 in
set_option maxRecDepth 100000 in
theorem lp_M_onsets {p0 : Program} {l : Launch} {e0 : Env} {s : State} {m0 : MethodId} {args : Array Value} {below : List Frame} {meth : Method} {c0 : Code} {Q : State → Prop} {G : GG_} {A : Nat → Prop} {H0 : Heap} (F : xw_F p0 s m0 args c0 b_M_onsets 3 R_M G) (mo : Nat) (ma : Nat → Nat) (ty at0 dp wy un pl sp pe tk du tm : Int) (be wh mn : Nat → Int) (rs : List Row_) (hml : mn 0 = (rs.length : Int)) (hll : rs.length ≤ 201) (hmr : ∀ (p : Nat) (r : Row_), rs[p]? = some r → r.1 = be p ∧ r.2.1 = wh p) (hbw : ∀ p : Nat, (-9223372036854775808 ≤ be p ∧ be p ≤ 9223372036854775807) ∧ (-9223372036854775808 ≤ wh p ∧ wh p ≤ 9223372036854775807))
    (kt : ∀ (k : Int) (ls : Array Slot) (H : Heap) (locs : List Loc), k = ons_ rs → lv_has ls 3 [(1, .int (xi_ k))] → xw_H G A H0 H locs [(mo, .inr (6, mo_ ma ty at0 dp wy un pl sp pe tk du tm)), (ma 27, .inl (G.2.2 1, 603, .inr (.inl (jl_ be)))), (ma 29, .inl (G.2.2 1, 603, .inr (.inl (jl_ wh)))), (ma 25, .inl (G.2.2 0, 3, .inl (ja_ mn)))] → W p0 l e0 rm_M_onsets s m0 args below meth c0 H locs 0 0 Q (F0 m0 44 ls [])) :
    ∀ (N : Nat) (i k : Int) (ls : Array Slot) (H : Heap) (locs : List Loc), ((rs.length : Int) - i).toNat < N → 0 ≤ i → i ≤ (rs.length : Int) → k = ons_ (rs.take i.toNat) → lv_has ls 3 [(2, .int (xi_ i)), (1, .int (xi_ k)), (0, .ref mo)] → xw_H G A H0 H locs [(mo, .inr (6, mo_ ma ty at0 dp wy un pl sp pe tk du tm)), (ma 27, .inl (G.2.2 1, 603, .inr (.inl (jl_ be)))), (ma 29, .inl (G.2.2 1, 603, .inr (.inl (jl_ wh)))), (ma 25, .inl (G.2.2 0, 3, .inl (ja_ mn)))] → W p0 l e0 rm_M_onsets s m0 args below meth c0 H locs 0 0 Q (F0 m0 4 ls []) := by
  have hx := F.1
  have hb := F.2.1
  intro N
  induction N with
  | zero => intro i k ls H locs h; omega
  | succ N ihn =>
    intro i k ls H locs hN1 hi0 hi1 hk9 hl hh
    have hke := ons_le (l := rs) (i := i.toNat)
    have hbi := hbw i.toNat
    refine lv_iload_n hx hb d_M_onsets_4 rfl (lv_at hl 0 rfl) ?_
    refine lv_aload_n hx hb d_M_onsets_5 rfl (lv_at hl 2 rfl) ?_
    refine xw_get F hh.1 (v := .ref (ma 25)) fl_M_74_6 0 rfl rfl d_M_onsets_6 ?_
    refine lv_iconst (v := xi_ 0) hx hb d_M_onsets_9 rfl ?_
    refine xw_iald F hh.1 3 (f := mn) rfl (i := 0) (by omega) d_M_onsets_10 ?_
    refine xw_topi (y := (rs.length : Int)) hml ?_
    refine xw_icmp_ge hx hb 44 d_M_onsets_11 (by decide) (by omega) (fun c11 => ?_) (fun c11 => ?_)
    · refine kt k ls H locs ?_ (lv_sub hl [1] rfl) hh
      rw [hk9, List.take_of_length_le (by omega)]
    · refine lv_iload_n hx hb d_M_onsets_14 rfl (lv_at hl 1 rfl) ?_
      refine lv_aload_n hx hb d_M_onsets_15 rfl (lv_at hl 2 rfl) ?_
      refine xw_get F hh.1 (v := .ref (ma 27)) fl_M_81_6 0 rfl rfl d_M_onsets_16 ?_
      refine lv_iload_n hx hb d_M_onsets_19 rfl (lv_at hl 0 rfl) ?_
      refine xw_lald F hh.1 1 (f := be) rfl (i := i) (by omega) d_M_onsets_20 ?_
      refine lv_aload_n hx hb d_M_onsets_21 rfl (lv_at hl 2 rfl) ?_
      refine xw_get F hh.1 (v := .ref (ma 29)) fl_M_87_6 0 rfl rfl d_M_onsets_22 ?_
      refine lv_iload_n hx hb d_M_onsets_25 rfl (lv_at hl 0 rfl) ?_
      refine xw_lald F hh.1 2 (f := wh) rfl (i := i) (by omega) d_M_onsets_26 ?_
      refine xw_lcmp_ne hx hb 35 d_M_onsets_27 d_M_onsets_28 (by decide) (by omega) (fun c27 => ?_) (fun c27 => ?_)
      · refine lv_iconst (v := xi_ 0) hx hb d_M_onsets_35 rfl ?_
        refine xw_iadd hx hb d_M_onsets_36 ?_
        refine lv_istore_n (lv' := [(1, .int (xi_ (k + 0))), (2, .int (xi_ i)), (0, .ref mo)]) hx hb d_M_onsets_37 rfl hl (by decide) rfl (fun ls hl => ?_)
        refine lv_iinc (k := 1) (v := xi_ (i + 1)) (lv' := [(2, .int (xi_ (i + 1))), (1, .int (xi_ (k + 0))), (0, .ref mo)]) hx hb d_M_onsets_38 hl rfl (xi_add _ _).symm (by decide) rfl (fun ls hl => ?_)
        refine lv_goto (tgt := 4) hx hb d_M_onsets_41 (by decide) ?_
        have hlt : i.toNat < rs.length := by omega
        have hrw := List.getElem?_eq_getElem hlt
        have hm9 := hmr i.toNat _ hrw
        refine ihn (i + 1) (k + 0) ls H locs (by omega) (by omega) (by omega) ?_ (lv_sub hl [0, 1, 2] rfl) hh
        rw [show (i + 1).toNat = i.toNat + 1 by omega, ons_s hrw, ← hk9, hm9.1, hm9.2]
        rw [if_neg c27]
      · refine lv_iconst (v := xi_ 1) hx hb d_M_onsets_31 rfl ?_
        refine lv_goto (tgt := 36) hx hb d_M_onsets_32 (by decide) ?_
        refine xw_iadd hx hb d_M_onsets_36 ?_
        refine lv_istore_n (lv' := [(1, .int (xi_ (k + 1))), (2, .int (xi_ i)), (0, .ref mo)]) hx hb d_M_onsets_37 rfl hl (by decide) rfl (fun ls hl => ?_)
        refine lv_iinc (k := 1) (v := xi_ (i + 1)) (lv' := [(2, .int (xi_ (i + 1))), (1, .int (xi_ (k + 1))), (0, .ref mo)]) hx hb d_M_onsets_38 hl rfl (xi_add _ _).symm (by decide) rfl (fun ls hl => ?_)
        refine lv_goto (tgt := 4) hx hb d_M_onsets_41 (by decide) ?_
        have hlt : i.toNat < rs.length := by omega
        have hrw := List.getElem?_eq_getElem hlt
        have hm9 := hmr i.toNat _ hrw
        refine ihn (i + 1) (k + 1) ls H locs (by omega) (by omega) (by omega) ?_ (lv_sub hl [0, 1, 2] rfl) hh
        rw [show (i + 1).toNat = i.toNat + 1 by omega, ons_s hrw, ← hk9, hm9.1, hm9.2]
        rw [if_pos c27]
set_option maxHeartbeats 4000000 in
set_option maxRecDepth 100000 in
theorem c_M_onsets (l : Launch) (G : GG_) (sz : Nat) (mo : Nat) (ma : Nat → Nat) (ty at0 dp wy un pl sp pe tk du tm : Int) (be wh mn : Nat → Int) (rs : List Row_) (hml : mn 0 = (rs.length : Int)) (hll : rs.length ≤ 201) (hmr : ∀ (p : Nat) (r : Row_), rs[p]? = some r → r.1 = be p ∧ r.2.1 = wh p) (hbw : ∀ p : Nat, (-9223372036854775808 ≤ be p ∧ be p ≤ 9223372036854775807) ∧ (-9223372036854775808 ≤ wh p ∧ wh p ≤ 9223372036854775807)) : Met l y_M_onsets (cw_ y_M_onsets b_M_onsets 3 (some .int)) rm_M_onsets (xw_P G [.ref mo] sz [(mo, .inr (6, mo_ ma ty at0 dp wy un pl sp pe tk du tm)), (ma 27, .inl (G.2.2 1, 603, .inr (.inl (jl_ be)))), (ma 29, .inl (G.2.2 1, 603, .inr (.inl (jl_ wh)))), (ma 25, .inl (G.2.2 0, 3, .inl (ja_ mn)))] (fun _ => True)) (xw_Qi (S := Unit) G sz [(mo, .inr (6, mo_ ma ty at0 dp wy un pl sp pe tk du tm)), (ma 27, .inl (G.2.2 1, 603, .inr (.inl (jl_ be)))), (ma 29, .inl (G.2.2 1, 603, .inr (.inl (jl_ wh)))), (ma 25, .inl (G.2.2 0, 3, .inl (ja_ mn)))] (fun z _ => z = ons_ rs) (fun _ => [(mo, .inr (6, mo_ ma ty at0 dp wy un pl sp pe tk du tm)), (ma 27, .inl (G.2.2 1, 603, .inr (.inl (jl_ be)))), (ma 29, .inl (G.2.2 1, 603, .inr (.inl (jl_ wh)))), (ma 25, .inl (G.2.2 0, 3, .inl (ja_ mn)))]) (fun _ _ => True)) 0 0 (va_A [(mo, .inr (6, mo_ ma ty at0 dp wy un pl sp pe tk du tm)), (ma 27, .inl (G.2.2 1, 603, .inr (.inl (jl_ be)))), (ma 29, .inl (G.2.2 1, 603, .inr (.inl (jl_ wh)))), (ma 25, .inl (G.2.2 0, 3, .inl (ja_ mn)))] sz) := by
  refine xw_met (by decide) (Nat.le_of_ble_eq_true rfl) ?_
  intro p0 e0 s m0 args below meth c0 F hr hlk hin hsz hh hX ls hl
  subst hsz
  have hx := F.1
  have hb := F.2.1
  have hl : lv_has ls 3 [(0, .ref mo)] := hl
  refine lv_iconst (v := xi_ 0) hx hb d_M_onsets_0 rfl ?_
  refine lv_istore_n (lv' := [(1, .int (xi_ 0)), (0, .ref mo)]) hx hb d_M_onsets_1 rfl hl (by decide) rfl (fun ls hl => ?_)
  refine lv_iconst (v := xi_ 0) hx hb d_M_onsets_2 rfl ?_
  refine lv_istore_n (lv' := [(2, .int (xi_ 0)), (1, .int (xi_ 0)), (0, .ref mo)]) hx hb d_M_onsets_3 rfl hl (by decide) rfl (fun ls hl => ?_)
  refine lp_M_onsets F mo ma ty at0 dp wy un pl sp pe tk du tm be wh mn rs hml hll hmr hbw (fun k ls H locs hk9 hl hh => ?_) (rs.length + 1) 0 0 ls s.heap _ (by omega) (by omega) (by omega) rfl (lv_sub hl [0, 1, 2] rfl) hh
  refine lv_iload_n hx hb d_M_onsets_44 rfl (lv_at hl 0 rfl) ?_
  exact xw_iret F hr hlk hh rfl () rfl (by exact hk9) trivial d_M_onsets_45
