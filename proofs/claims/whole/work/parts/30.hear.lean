/-! Walk: begin, end; hear of both kinds -/
def rm_Wk_begin : Room := { frames := 0, cells := 0, slots := 0, locals := 0 }
set_option maxHeartbeats 4000000 in
set_option maxRecDepth 100000 in
theorem c_Wk_begin (l : Launch) (G : GG_) (sz : Nat) (c w o : Int) (hw : -9223372036854775808 ≤ w ∧ w ≤ 9223372036854775807) : Met l y_Wk_begin (cw_ y_Wk_begin b_Wk_begin 6 (some .long)) rm_Wk_begin (xw_P G [.long (xl_ c), .long (xl_ w), .long (xl_ o)] sz [] (fun _ => True)) (xw_Ql (S := Unit) G sz [] (fun z _ => z = bg_ c w o) (fun _ => []) (fun _ _ => True)) 0 0 (va_A [] sz) := by
  refine xw_met (by decide) (Nat.le_of_ble_eq_true rfl) ?_
  intro p0 e0 s m0 args below meth c0 F hr hlk hin hsz hh hX ls hl
  subst hsz
  have hx := F.1
  have hb := F.2.1
  have hl : lv_has ls 6 [(0, .long (xl_ c)), (2, .long (xl_ w)), (4, .long (xl_ o))] := hl
  refine lv_lload hx hb d_Wk_begin_0 (lv_at hl 2 rfl) ?_
  refine lv_lload_n hx hb d_Wk_begin_2 rfl (lv_at hl 1 rfl) ?_
  refine lv_lload_n hx hb d_Wk_begin_3 rfl (lv_at hl 1 rfl) ?_
  refine lv_lconst (v := xl_ 0) hx hb d_Wk_begin_4 (by decide) ?_
  refine xw_lcmp_le hx hb 13 d_Wk_begin_5 d_Wk_begin_6 (by decide) (by omega) (fun c5 => ?_) (fun c5 => ?_)
  · refine lv_lload_n hx hb d_Wk_begin_13 rfl (lv_at hl 0 rfl) ?_
    refine lv_lconst (v := xl_ 1) hx hb d_Wk_begin_14 (by decide) ?_
    refine xw_ladd hx hb d_Wk_begin_15 ?_
    refine xw_lmul hx hb d_Wk_begin_16 ?_
    refine xw_ladd hx hb d_Wk_begin_17 ?_
    exact xw_lret F hr hlk hh () rfl (by unfold bg_; first | rw [if_pos c5] | rw [if_neg (by omega)]) trivial d_Wk_begin_18
  · refine lv_lload_n hx hb d_Wk_begin_9 rfl (lv_at hl 0 rfl) ?_
    refine lv_goto (tgt := 16) hx hb d_Wk_begin_10 (by decide) ?_
    refine xw_lmul hx hb d_Wk_begin_16 ?_
    refine xw_ladd hx hb d_Wk_begin_17 ?_
    exact xw_lret F hr hlk hh () rfl (by unfold bg_; first | rw [if_pos c5] | rw [if_neg (by omega)]) trivial d_Wk_begin_18
def rm_Wk_end : Room := { frames := 0, cells := 0, slots := 0, locals := 0 }
set_option maxHeartbeats 4000000 in
set_option maxRecDepth 100000 in
theorem c_Wk_end (l : Launch) (G : GG_) (sz : Nat) (c w o : Int) (hw : -9223372036854775808 ≤ w ∧ w ≤ 9223372036854775807) : Met l y_Wk_end (cw_ y_Wk_end b_Wk_end 6 (some .long)) rm_Wk_end (xw_P G [.long (xl_ c), .long (xl_ w), .long (xl_ o)] sz [] (fun _ => True)) (xw_Ql (S := Unit) G sz [] (fun z _ => z = en_ c w o) (fun _ => []) (fun _ _ => True)) 0 0 (va_A [] sz) := by
  refine xw_met (by decide) (Nat.le_of_ble_eq_true rfl) ?_
  intro p0 e0 s m0 args below meth c0 F hr hlk hin hsz hh hX ls hl
  subst hsz
  have hx := F.1
  have hb := F.2.1
  have hl : lv_has ls 6 [(0, .long (xl_ c)), (2, .long (xl_ w)), (4, .long (xl_ o))] := hl
  refine lv_lload hx hb d_Wk_end_0 (lv_at hl 2 rfl) ?_
  refine lv_lload_n hx hb d_Wk_end_2 rfl (lv_at hl 1 rfl) ?_
  refine lv_lload_n hx hb d_Wk_end_3 rfl (lv_at hl 1 rfl) ?_
  refine lv_lconst (v := xl_ 0) hx hb d_Wk_end_4 (by decide) ?_
  refine xw_lcmp_le hx hb 15 d_Wk_end_5 d_Wk_end_6 (by decide) (by omega) (fun c5 => ?_) (fun c5 => ?_)
  · refine lv_lload_n hx hb d_Wk_end_15 rfl (lv_at hl 0 rfl) ?_
    refine xw_lmul hx hb d_Wk_end_16 ?_
    refine xw_ladd hx hb d_Wk_end_17 ?_
    exact xw_lret F hr hlk hh () rfl (by unfold en_; first | rw [if_pos c5] | rw [if_neg (by omega)]) trivial d_Wk_end_18
  · refine lv_lload_n hx hb d_Wk_end_9 rfl (lv_at hl 0 rfl) ?_
    refine lv_lconst (v := xl_ 1) hx hb d_Wk_end_10 (by decide) ?_
    refine xw_ladd hx hb d_Wk_end_11 ?_
    refine lv_goto (tgt := 16) hx hb d_Wk_end_12 (by decide) ?_
    refine xw_lmul hx hb d_Wk_end_16 ?_
    refine xw_ladd hx hb d_Wk_end_17 ?_
    exact xw_lret F hr hlk hh () rfl (by unfold en_; first | rw [if_pos c5] | rw [if_neg (by omega)]) trivial d_Wk_end_18
def rm_Pa_hear : Room := { frames := 2, cells := 0, slots := 0, locals := 93 }
set_option maxHeartbeats 4000000 in
set_option maxRecDepth 100000 in
theorem c_Pa_hear (l : Launch) (G : GG_) (sz : Nat) (o r v ra : Nat) (cnt tm : Int) (vals rat : Nat → Int) (st : List Row_ × Bool)  (ch b e f t : Int) (hch : 0 ≤ ch ∧ ch ≤ 65535) (hb9 : (-30000000000000 ≤ b ∧ b ≤ 30000000000000) ∧ (-30000000000000 ≤ e ∧ e ≤ 30000000000000) ∧ (-30000000000000 ≤ f ∧ f ≤ 30000000000000) ∧ (-30000000000000 ≤ t ∧ t ≤ 30000000000000)) (hrr : rr_ 200 cnt tm vals rat st) : Met l y_Pa_hear (cw_ y_Pa_hear b_Pa_hear 10 none) rm_Pa_hear (xw_P G [.ref o, .int (xi_ ch), .long (xl_ b), .long (xl_ e), .long (xl_ f), .long (xl_ t)] sz [(o, .inr (4, [.ref r])), (r, .inr (3, [.int (xi_ (200 : Int)), .ref v, .ref ra, .int (xi_ cnt), .int (xi_ tm)])), (v, .inl (G.2.2 1, (200 * 5), .inr (.inl (jl_ vals)))), (ra, .inl (G.2.2 0, 200, .inl (ja_ rat)))] (fun _ => True)) (xw_Qv (S := Int × Int × (Nat → Int) × (Nat → Int)) G sz [(o, .inr (4, [.ref r])), (r, .inr (3, [.int (xi_ (200 : Int)), .ref v, .ref ra, .int (xi_ cnt), .int (xi_ tm)])), (v, .inl (G.2.2 1, (200 * 5), .inr (.inl (jl_ vals)))), (ra, .inl (G.2.2 0, 200, .inl (ja_ rat)))] (fun u => rr_ 200 u.1 u.2.1 u.2.2.1 u.2.2.2 (run_ 200 sk_pa ([(ch, b, e, f, t)]) st)) (fun u => [(o, .inr (4, [.ref r])), (r, .inr (3, [.int (xi_ (200 : Int)), .ref v, .ref ra, .int (xi_ u.1), .int (xi_ u.2.1)])), (v, .inl (G.2.2 1, (200 * 5), .inr (.inl (jl_ u.2.2.1)))), (ra, .inl (G.2.2 0, 200, .inl (ja_ u.2.2.2)))]) (fun _ _ => True)) 0 0 (va_A [(o, .inr (4, [.ref r])), (r, .inr (3, [.int (xi_ (200 : Int)), .ref v, .ref ra, .int (xi_ cnt), .int (xi_ tm)])), (v, .inl (G.2.2 1, (200 * 5), .inr (.inl (jl_ vals)))), (ra, .inl (G.2.2 0, 200, .inl (ja_ rat)))] sz) := by
  refine xw_met (by decide) (Nat.le_of_ble_eq_true rfl) ?_
  intro p0 e0 s m0 args below meth c0 F hr hlk hin hsz hh hX ls hl
  subst hsz
  have hx := F.1
  have hb := F.2.1
  have hl : lv_has ls 10 [(0, .ref o), (1, .int (xi_ ch)), (2, .long (xl_ b)), (4, .long (xl_ e)), (6, .long (xl_ f)), (8, .long (xl_ t))] := hl
  refine lv_aload_n hx hb d_Pa_hear_0 rfl (lv_at hl 0 rfl) ?_
  refine xw_get F hh.1 (v := .ref r) fl_Pa_9_4 0 rfl rfl d_Pa_hear_1 ?_
  refine lv_lload_n hx hb d_Pa_hear_4 rfl (lv_at hl 2 rfl) ?_
  refine lv_lload hx hb d_Pa_hear_5 (lv_at hl 4 rfl) ?_
  refine xw_maxl F hl.1 lk_Pa_29' (Nat.le_of_ble_eq_true rfl) (Nat.le_of_ble_eq_true rfl) (Nat.le_of_ble_eq_true rfl) (Nat.le_of_ble_eq_true rfl) (by omega) d_Pa_hear_7 ?_
  refine lv_lload_n hx hb d_Pa_hear_10 rfl (lv_at hl 2 rfl) ?_
  refine lv_lload hx hb d_Pa_hear_11 (lv_at hl 3 rfl) ?_
  refine lv_lload hx hb d_Pa_hear_13 (lv_at hl 5 rfl) ?_
  refine xw_minl F hl.1 lk_Pa_35' (Nat.le_of_ble_eq_true rfl) (Nat.le_of_ble_eq_true rfl) (Nat.le_of_ble_eq_true rfl) (Nat.le_of_ble_eq_true rfl) (by omega) d_Pa_hear_15 ?_
  refine lv_lload hx hb d_Pa_hear_18 (lv_at hl 3 rfl) ?_
  refine lv_iload_n hx hb d_Pa_hear_20 rfl (lv_at hl 1 rfl) ?_
  refine xw_i2l hx hb d_Pa_hear_21 (by omega) ?_
  refine xw_cv (wc := [(r, .inr (3, [.int (xi_ (200 : Int)), .ref v, .ref ra, .int (xi_ cnt), .int (xi_ tm)])), (v, .inl (G.2.2 1, (200 * 5), .inr (.inl (jl_ vals)))), (ra, .inl (G.2.2 0, 200, .inl (ja_ rat)))]) (wr := [(o, .inr (4, [.ref r]))]) hh [1, 2, 3] [0] rfl rfl rfl (by decide) (xw_rV F hh [1, 2, 3] rfl rfl (c_Rw_add l G s.heap.size r v ra 200 cnt tm vals rat st (max b f) b (min e t) e ch (by decide) hrr (by omega)) trivial lk_Pa_38 cd_Rw_add se_Rw_add _ hh.1 1 rfl rfl rfl rfl ⟨by decide, by decide⟩ rfl hl.1 rfl (Nat.le_of_ble_eq_true rfl) d_Pa_hear_22 ⟨Nat.le_of_ble_eq_true rfl, Nat.le_of_ble_eq_true rfl⟩) (fun u H locs hp22 hX hz hk hh => ?_)
  have hh : xw_H G (va_A [(o, .inr (4, [.ref r])), (r, .inr (3, [.int (xi_ (200 : Int)), .ref v, .ref ra, .int (xi_ cnt), .int (xi_ tm)])), (v, .inl (G.2.2 1, (200 * 5), .inr (.inl (jl_ vals)))), (ra, .inl (G.2.2 0, 200, .inl (ja_ rat)))] s.heap.size) s.heap H locs [(o, .inr (4, [.ref r])), (r, .inr (3, [.int (xi_ (200 : Int)), .ref v, .ref ra, .int (xi_ u.1), .int (xi_ u.2.1)])), (v, .inl (G.2.2 1, (200 * 5), .inr (.inl (jl_ u.2.2.1)))), (ra, .inl (G.2.2 0, 200, .inl (ja_ u.2.2.2)))] := hh
  exact xw_vret F hr hlk hh u rfl hp22 trivial d_Pa_hear_25
def rm_On_hear : Room := { frames := 2, cells := 0, slots := 0, locals := 93 }
set_option maxHeartbeats 4000000 in
set_option maxRecDepth 100000 in
theorem c_On_hear (l : Launch) (G : GG_) (sz : Nat) (o r v ra : Nat) (cnt tm : Int) (vals rat : Nat → Int) (st : List Row_ × Bool) (slot tl : Int) (hst : 0 ≤ slot ∧ slot ≤ 7 ∧ 0 < tl ∧ tl ≤ 1099511627776) (ch b e f t : Int) (hch : 0 ≤ ch ∧ ch ≤ 65535) (hb9 : (-30000000000000 ≤ b ∧ b ≤ 30000000000000) ∧ (-30000000000000 ≤ e ∧ e ≤ 30000000000000) ∧ (-30000000000000 ≤ f ∧ f ≤ 30000000000000) ∧ (-30000000000000 ≤ t ∧ t ≤ 30000000000000)) (hrr : rr_ 100 cnt tm vals rat st) : Met l y_On_hear (cw_ y_On_hear b_On_hear 10 none) rm_On_hear (xw_P G [.ref o, .int (xi_ ch), .long (xl_ b), .long (xl_ e), .long (xl_ f), .long (xl_ t)] sz [(o, .inr (5, [.ref r, .int (xi_ slot), .long (xl_ tl)])), (r, .inr (3, [.int (xi_ (100 : Int)), .ref v, .ref ra, .int (xi_ cnt), .int (xi_ tm)])), (v, .inl (G.2.2 1, (100 * 5), .inr (.inl (jl_ vals)))), (ra, .inl (G.2.2 0, 100, .inl (ja_ rat)))] (fun _ => True)) (xw_Qv (S := Int × Int × (Nat → Int) × (Nat → Int)) G sz [(o, .inr (5, [.ref r, .int (xi_ slot), .long (xl_ tl)])), (r, .inr (3, [.int (xi_ (100 : Int)), .ref v, .ref ra, .int (xi_ cnt), .int (xi_ tm)])), (v, .inl (G.2.2 1, (100 * 5), .inr (.inl (jl_ vals)))), (ra, .inl (G.2.2 0, 100, .inl (ja_ rat)))] (fun u => rr_ 100 u.1 u.2.1 u.2.2.1 u.2.2.2 (run_ 100 (sk_on slot tl) ([(ch, b, e, f, t)]) st)) (fun u => [(o, .inr (5, [.ref r, .int (xi_ slot), .long (xl_ tl)])), (r, .inr (3, [.int (xi_ (100 : Int)), .ref v, .ref ra, .int (xi_ u.1), .int (xi_ u.2.1)])), (v, .inl (G.2.2 1, (100 * 5), .inr (.inl (jl_ u.2.2.1)))), (ra, .inl (G.2.2 0, 100, .inl (ja_ u.2.2.2)))]) (fun _ _ => True)) 0 0 (va_A [(o, .inr (5, [.ref r, .int (xi_ slot), .long (xl_ tl)])), (r, .inr (3, [.int (xi_ (100 : Int)), .ref v, .ref ra, .int (xi_ cnt), .int (xi_ tm)])), (v, .inl (G.2.2 1, (100 * 5), .inr (.inl (jl_ vals)))), (ra, .inl (G.2.2 0, 100, .inl (ja_ rat)))] sz) := by
  refine xw_met (by decide) (Nat.le_of_ble_eq_true rfl) ?_
  intro p0 e0 s m0 args below meth c0 F hr hlk hin hsz hh hX ls hl
  subst hsz
  have hx := F.1
  have hb := F.2.1
  have hl : lv_has ls 10 [(0, .ref o), (1, .int (xi_ ch)), (2, .long (xl_ b)), (4, .long (xl_ e)), (6, .long (xl_ f)), (8, .long (xl_ t))] := hl
  refine lv_lload_n hx hb d_On_hear_0 rfl (lv_at hl 2 rfl) ?_
  refine lv_lload hx hb d_On_hear_1 (lv_at hl 4 rfl) ?_
  refine xw_lcmp_lt hx hb 41 d_On_hear_3 d_On_hear_4 (by decide) (by omega) (fun c3 => ?_) (fun c3 => ?_)
  · have e41 : run_ 100 (sk_on slot tl) [(ch, b, e, f, t)] st = st := by
      unfold run_ sk_on
      simp only [List.flatMap_cons, List.flatMap_nil, List.append_nil]
      rw [if_neg (by omega)]
      rfl
    exact xw_vret F hr hlk hh (cnt, tm, vals, rat) rfl (by rw [e41]; exact hrr) trivial d_On_hear_41
  · refine lv_aload_n hx hb d_On_hear_7 rfl (lv_at hl 0 rfl) ?_
    refine xw_get F hh.1 (v := .long (xl_ tl)) fl_On_9_5 0 rfl rfl d_On_hear_8 ?_
    refine lv_lconst (v := xl_ 0) hx hb d_On_hear_11 (by decide) ?_
    refine xw_lcmp_le hx hb 41 d_On_hear_12 d_On_hear_13 (by decide) (by omega) (fun c12 => ?_) (fun c12 => ?_)
    · have e41 : run_ 100 (sk_on slot tl) [(ch, b, e, f, t)] st = st := by
        unfold run_ sk_on
        simp only [List.flatMap_cons, List.flatMap_nil, List.append_nil]
        rw [if_neg (by omega)]
        rfl
      exact xw_vret F hr hlk hh (cnt, tm, vals, rat) rfl (by rw [e41]; exact hrr) trivial d_On_hear_41
    · refine lv_aload_n hx hb d_On_hear_16 rfl (lv_at hl 0 rfl) ?_
      refine xw_get F hh.1 (v := .ref r) fl_On_15_5 0 rfl rfl d_On_hear_17 ?_
      refine lv_lload_n hx hb d_On_hear_20 rfl (lv_at hl 2 rfl) ?_
      refine lv_aload_n hx hb d_On_hear_21 rfl (lv_at hl 0 rfl) ?_
      refine xw_get F hh.1 (v := .long (xl_ tl)) fl_On_9_5 0 rfl rfl d_On_hear_22 ?_
      refine xw_clp hh (xw_rSp F (c_Jm_floorDiv l G s.heap.size b tl (by omega)) lk_On_19 cd_Jm_floorDiv ss_Jm_floorDiv rfl rfl ⟨by decide, by decide⟩ rfl hl.1 rfl (Nat.le_of_ble_eq_true rfl) d_On_hear_25 ⟨Nat.le_of_ble_eq_true rfl, Nat.le_of_ble_eq_true rfl⟩) (fun z25 u H locs hp25 hz hk hh => ?_)
      obtain rfl : z25 = b / tl := hp25
      have h25 : -30000000000000 ≤ b / tl ∧ b / tl ≤ 30000000000000 := by
        have h1 := Int.mul_ediv_add_emod b tl
        have h2 := Int.emod_nonneg b (show tl ≠ 0 by omega)
        have h3 := Int.emod_lt_of_pos b (show 0 < tl by omega)
        by_cases hq : 0 ≤ b / tl
        · have h4 : 1 * (b / tl) ≤ tl * (b / tl) := Int.mul_le_mul_of_nonneg_right (by omega) hq
          omega
        · have h4 : tl * (b / tl) ≤ 1 * (b / tl) := Int.mul_le_mul_of_nonpos_right (by omega) (by omega)
          have h5 : tl * (b / tl) > -30000000000000 - tl := by omega
          have h6 : tl * (b / tl + 1) = tl * (b / tl) + tl := by rw [Int.mul_add, Int.mul_one]
          have h7 : tl * (b / tl + 1) ≤ 1 * (b / tl + 1) := Int.mul_le_mul_of_nonpos_right (by omega) (by omega)
          omega
      refine lv_aload_n hx hb d_On_hear_28 rfl (lv_at hl 0 rfl) ?_
      refine xw_get F hh.1 (v := .int (xi_ slot)) fl_On_25_5 0 rfl rfl d_On_hear_29 ?_
      refine xw_i2l hx hb d_On_hear_32 (by omega) ?_
      refine lv_lload_n hx hb d_On_hear_33 rfl (lv_at hl 2 rfl) ?_
      refine lv_lload hx hb d_On_hear_34 (lv_at hl 3 rfl) ?_
      refine lv_iload_n hx hb d_On_hear_36 rfl (lv_at hl 1 rfl) ?_
      refine xw_i2l hx hb d_On_hear_37 (by omega) ?_
      refine xw_cv (wc := [(r, .inr (3, [.int (xi_ (100 : Int)), .ref v, .ref ra, .int (xi_ cnt), .int (xi_ tm)])), (v, .inl (G.2.2 1, (100 * 5), .inr (.inl (jl_ vals)))), (ra, .inl (G.2.2 0, 100, .inl (ja_ rat)))]) (wr := [(o, .inr (5, [.ref r, .int (xi_ slot), .long (xl_ tl)]))]) hh [1, 2, 3] [0] rfl rfl rfl (by decide) (xw_rV F hh [1, 2, 3] rfl rfl (c_Rw_add l G H.size r v ra 100 cnt tm vals rat st (b / tl) slot b e ch (by decide) hrr (by omega)) trivial lk_On_29 cd_Rw_add se_Rw_add _ hh.1 1 rfl rfl rfl rfl ⟨by decide, by decide⟩ rfl hl.1 rfl (Nat.le_of_ble_eq_true rfl) d_On_hear_38 ⟨Nat.le_of_ble_eq_true rfl, Nat.le_of_ble_eq_true rfl⟩) (fun u H locs hp38 hX hz hk hh => ?_)
      have hh : xw_H G (va_A [(o, .inr (5, [.ref r, .int (xi_ slot), .long (xl_ tl)])), (r, .inr (3, [.int (xi_ (100 : Int)), .ref v, .ref ra, .int (xi_ cnt), .int (xi_ tm)])), (v, .inl (G.2.2 1, (100 * 5), .inr (.inl (jl_ vals)))), (ra, .inl (G.2.2 0, 100, .inl (ja_ rat)))] s.heap.size) s.heap H locs [(o, .inr (5, [.ref r, .int (xi_ slot), .long (xl_ tl)])), (r, .inr (3, [.int (xi_ (100 : Int)), .ref v, .ref ra, .int (xi_ u.1), .int (xi_ u.2.1)])), (v, .inl (G.2.2 1, (100 * 5), .inr (.inl (jl_ u.2.2.1)))), (ra, .inl (G.2.2 0, 100, .inl (ja_ u.2.2.2)))] := hh
      have e41 : run_ 100 (sk_on slot tl) [(ch, b, e, f, t)] st = a_add 100 st (b / tl, slot, b, e, ch) := by
        unfold run_ sk_on
        simp only [List.flatMap_cons, List.flatMap_nil, List.append_nil]
        rw [if_pos c3]
        rfl
      exact xw_vret F hr hlk hh u rfl (by rw [e41]; exact hp38) trivial d_On_hear_41
