/-! Reader: its small methods -/
/-- what refineGrain makes of the grain -/
def gc_ (g f : Int) : Int := if g ≤ 5040 then g * f else g
theorem gc_rng {g f : Int} (hg : 1 ≤ g ∧ g ≤ 45360) (hf : 1 ≤ f ∧ f ≤ 9) : 1 ≤ gc_ g f ∧ gc_ g f ≤ 45360 := by
  unfold gc_
  split
  · have h : f = 1 ∨ f = 2 ∨ f = 3 ∨ f = 4 ∨ f = 5 ∨ f = 6 ∨ f = 7 ∨ f = 8 ∨ f = 9 := by omega
    rcases h with rfl | rfl | rfl | rfl | rfl | rfl | rfl | rfl | rfl <;> omega
  · exact hg
theorem p_dig_rng {tx : Nat → Int} {len : Nat} {low : Int} {at_ : Nat} : at_ ≤ (p_dig tx len low at_).2 ∧ (p_dig tx len low at_).2 ≤ at_ + 1 ∧ ((p_dig tx len low at_).1 = none → (p_dig tx len low at_).2 = at_) ∧ ∀ k, (p_dig tx len low at_).1 = some k → (low ≤ k ∧ k ≤ 9 ∧ (p_dig tx len low at_).2 = at_ + 1 ∧ at_ < len) := by
  unfold p_dig
  split
  · rename_i h
    refine ⟨by simp, by simp, fun q => (by cases q), fun k hk => ?_⟩
    cases hk
    exact ⟨h.2.1, h.2.2, rfl, h.1⟩
  · exact ⟨Nat.le_refl _, by simp, fun _ => rfl, fun k hk => (by cases hk)⟩
def rm_Rd_clear : Room := { frames := 0, cells := 0, slots := 0, locals := 0 }
set_option maxHeartbeats 4000000 in
set_option maxRecDepth 100000 in
theorem c_Rd_clear (l : Launch) (G : GG_) (sz : Nat) (rd ta : Nat) (txt : Nat → Int) (len at_ : Nat) (gr : Int)  : Met l y_Rd_clear (cw_ y_Rd_clear b_Rd_clear 1 none) rm_Rd_clear (xw_P G [.ref rd] sz [(rd, .inr (2, [.ref ta, .int (xi_ (len : Int)), .int (xi_ (at_ : Int)), .int (xi_ gr)])), (ta, .inl (G.2.2 2, 40, .inl (ja_ txt)))] (fun _ => True)) (xw_Qv (S := Unit) G sz [(rd, .inr (2, [.ref ta, .int (xi_ (len : Int)), .int (xi_ (at_ : Int)), .int (xi_ gr)])), (ta, .inl (G.2.2 2, 40, .inl (ja_ txt)))] (fun _ => True) (fun _ => [(rd, .inr (2, [.ref ta, .int (xi_ 0), .int (xi_ (at_ : Int)), .int (xi_ gr)])), (ta, .inl (G.2.2 2, 40, .inl (ja_ txt)))]) (fun _ _ => True)) 0 0 (va_A [(rd, .inr (2, [.ref ta, .int (xi_ (len : Int)), .int (xi_ (at_ : Int)), .int (xi_ gr)])), (ta, .inl (G.2.2 2, 40, .inl (ja_ txt)))] sz) := by
  refine xw_met (by decide) (Nat.le_of_ble_eq_true rfl) ?_
  intro p0 e0 s m0 args below meth c0 F hr hlk hin hsz hh hX ls hl
  subst hsz
  have hx := F.1
  have hb := F.2.1
  have hl : lv_has ls 1 [(0, .ref rd)] := hl
  refine lv_aload_n hx hb d_Rd_clear_0 rfl (lv_at hl 0 rfl) ?_
  refine lv_iconst (v := xi_ 0) hx hb d_Rd_clear_1 rfl ?_
  refine xw_put F hh fp_Rd_21_2 0 rfl rfl rfl (Nat.le_of_ble_eq_true rfl) d_Rd_clear_2 (fun H locs hh => ?_)
  have hh : xw_H G (va_A [(rd, .inr (2, [.ref ta, .int (xi_ (len : Int)), .int (xi_ (at_ : Int)), .int (xi_ gr)])), (ta, .inl (G.2.2 2, 40, .inl (ja_ txt)))] s.heap.size) s.heap H locs [(rd, .inr (2, [.ref ta, .int (xi_ 0), .int (xi_ (at_ : Int)), .int (xi_ gr)])), (ta, .inl (G.2.2 2, 40, .inl (ja_ txt)))] := hh
  exact xw_vret F hr hlk hh () rfl (by trivial) trivial d_Rd_clear_5
def rm_Rd_isAt : Room := { frames := 0, cells := 0, slots := 0, locals := 0 }
set_option maxHeartbeats 4000000 in
set_option maxRecDepth 100000 in
theorem c_Rd_isAt (l : Launch) (G : GG_) (sz : Nat) (rd ta : Nat) (txt : Nat → Int) (len at_ : Nat) (gr : Int) (hlen : len ≤ 40 ∧ at_ ≤ 40) (htx : ∀ j : Nat, 0 ≤ txt j ∧ txt j ≤ 65535) (sg : Int) (hsg : 0 ≤ sg ∧ sg ≤ 65535) : Met l y_Rd_isAt (cw_ y_Rd_isAt b_Rd_isAt 2 (some .boolean)) rm_Rd_isAt (xw_P G [.ref rd, .int (xi_ sg)] sz [(rd, .inr (2, [.ref ta, .int (xi_ (len : Int)), .int (xi_ (at_ : Int)), .int (xi_ gr)])), (ta, .inl (G.2.2 2, 40, .inl (ja_ txt)))] (fun _ => True)) (xw_Qi (S := Unit) G sz [(rd, .inr (2, [.ref ta, .int (xi_ (len : Int)), .int (xi_ (at_ : Int)), .int (xi_ gr)])), (ta, .inl (G.2.2 2, 40, .inl (ja_ txt)))] (fun z _ => z = b2_ (p_is txt len sg at_)) (fun _ => [(rd, .inr (2, [.ref ta, .int (xi_ (len : Int)), .int (xi_ (at_ : Int)), .int (xi_ gr)])), (ta, .inl (G.2.2 2, 40, .inl (ja_ txt)))]) (fun _ _ => True)) 0 0 (va_A [(rd, .inr (2, [.ref ta, .int (xi_ (len : Int)), .int (xi_ (at_ : Int)), .int (xi_ gr)])), (ta, .inl (G.2.2 2, 40, .inl (ja_ txt)))] sz) := by
  refine xw_met (by decide) (Nat.le_of_ble_eq_true rfl) ?_
  intro p0 e0 s m0 args below meth c0 F hr hlk hin hsz hh hX ls hl
  subst hsz
  have hx := F.1
  have hb := F.2.1
  have hl : lv_has ls 2 [(0, .ref rd), (1, .int (xi_ sg))] := hl
  refine lv_aload_n hx hb d_Rd_isAt_0 rfl (lv_at hl 0 rfl) ?_
  refine xw_get F hh.1 (v := .int (xi_ (at_ : Int))) fl_Rd_25_2 0 rfl rfl d_Rd_isAt_1 ?_
  refine lv_aload_n hx hb d_Rd_isAt_4 rfl (lv_at hl 0 rfl) ?_
  refine xw_get F hh.1 (v := .int (xi_ (len : Int))) fl_Rd_21_2 0 rfl rfl d_Rd_isAt_5 ?_
  refine xw_icmp_ge hx hb 28 d_Rd_isAt_8 (by decide) (by omega) (fun c8 => ?_) (fun c8 => ?_)
  · refine lv_iconst (v := xi_ 0) hx hb d_Rd_isAt_28 rfl ?_
    exact xw_iret F hr hlk hh (by decide) () rfl (by unfold p_is; exact b2_f (decide_eq_false (fun q => by first | omega | exact c21 q.2))) trivial d_Rd_isAt_29
  · have htat := htx at_
    refine lv_aload_n hx hb d_Rd_isAt_11 rfl (lv_at hl 0 rfl) ?_
    refine xw_get F hh.1 (v := .ref ta) fl_Rd_11_2 0 rfl rfl d_Rd_isAt_12 ?_
    refine lv_aload_n hx hb d_Rd_isAt_15 rfl (lv_at hl 0 rfl) ?_
    refine xw_get F hh.1 (v := .int (xi_ (at_ : Int))) fl_Rd_25_2 0 rfl rfl d_Rd_isAt_16 ?_
    refine xw_cald F hh.1 1 (f := txt) rfl (i := (at_ : Int)) (by omega) d_Rd_isAt_19 ?_
    refine xw_topi (y := txt at_) rfl ?_
    refine lv_iload_n hx hb d_Rd_isAt_20 rfl (lv_at hl 1 rfl) ?_
    refine xw_icmp_ne hx hb 28 d_Rd_isAt_21 (by decide) (by omega) (fun c21 => ?_) (fun c21 => ?_)
    · refine lv_iconst (v := xi_ 0) hx hb d_Rd_isAt_28 rfl ?_
      exact xw_iret F hr hlk hh (by decide) () rfl (by unfold p_is; exact b2_f (decide_eq_false (fun q => by first | omega | exact c21 q.2))) trivial d_Rd_isAt_29
    · refine lv_iconst (v := xi_ 1) hx hb d_Rd_isAt_24 rfl ?_
      refine lv_goto (tgt := 29) hx hb d_Rd_isAt_25 (by decide) ?_
      exact xw_iret F hr hlk hh (by decide) () rfl (by unfold p_is; exact b2_t (decide_eq_true ⟨by omega, c21⟩)) trivial d_Rd_isAt_29
def rm_Rd_readDigit : Room := { frames := 0, cells := 0, slots := 0, locals := 0 }
set_option maxHeartbeats 4000000 in
set_option maxRecDepth 100000 in
theorem c_Rd_readDigit (l : Launch) (G : GG_) (sz : Nat) (rd ta : Nat) (txt : Nat → Int) (len at_ : Nat) (gr : Int) (hlen : len ≤ 40 ∧ at_ ≤ 40) (htx : ∀ j : Nat, 0 ≤ txt j ∧ txt j ≤ 65535) (low : Int) (hlow : 0 ≤ low ∧ low ≤ 9) : Met l y_Rd_readDigit (cw_ y_Rd_readDigit b_Rd_readDigit 3 (some .int)) rm_Rd_readDigit (xw_P G [.ref rd, .int (xi_ low)] sz [(rd, .inr (2, [.ref ta, .int (xi_ (len : Int)), .int (xi_ (at_ : Int)), .int (xi_ gr)])), (ta, .inl (G.2.2 2, 40, .inl (ja_ txt)))] (fun _ => True)) (xw_Qi (S := Unit) G sz [(rd, .inr (2, [.ref ta, .int (xi_ (len : Int)), .int (xi_ (at_ : Int)), .int (xi_ gr)])), (ta, .inl (G.2.2 2, 40, .inl (ja_ txt)))] (fun z _ => z = (p_dig txt len low at_).1.getD (-1)) (fun _ => [(rd, .inr (2, [.ref ta, .int (xi_ (len : Int)), .int (xi_ ((p_dig txt len low at_).2 : Int)), .int (xi_ gr)])), (ta, .inl (G.2.2 2, 40, .inl (ja_ txt)))]) (fun _ _ => True)) 0 0 (va_A [(rd, .inr (2, [.ref ta, .int (xi_ (len : Int)), .int (xi_ (at_ : Int)), .int (xi_ gr)])), (ta, .inl (G.2.2 2, 40, .inl (ja_ txt)))] sz) := by
  refine xw_met (by decide) (Nat.le_of_ble_eq_true rfl) ?_
  intro p0 e0 s m0 args below meth c0 F hr hlk hin hsz hh hX ls hl
  subst hsz
  have hx := F.1
  have hb := F.2.1
  have hl : lv_has ls 3 [(0, .ref rd), (1, .int (xi_ low))] := hl
  refine lv_aload_n hx hb d_Rd_readDigit_0 rfl (lv_at hl 0 rfl) ?_
  refine xw_get F hh.1 (v := .int (xi_ (at_ : Int))) fl_Rd_25_2 0 rfl rfl d_Rd_readDigit_1 ?_
  refine lv_aload_n hx hb d_Rd_readDigit_4 rfl (lv_at hl 0 rfl) ?_
  refine xw_get F hh.1 (v := .int (xi_ (len : Int))) fl_Rd_21_2 0 rfl rfl d_Rd_readDigit_5 ?_
  refine xw_icmp_ge hx hb 26 d_Rd_readDigit_8 (by decide) (by omega) (fun c8 => ?_) (fun c8 => ?_)
  · refine lv_iconst (v := xi_ (-1)) hx hb d_Rd_readDigit_26 rfl ?_
    refine lv_istore_n (lv' := [(2, .int (xi_ (-1))), (0, .ref rd), (1, .int (xi_ low))]) hx hb d_Rd_readDigit_27 rfl hl (by decide) rfl (fun ls hl => ?_)
    refine lv_iload_n hx hb d_Rd_readDigit_28 rfl (lv_at hl 0 rfl) ?_
    refine lv_iload_n hx hb d_Rd_readDigit_29 rfl (lv_at hl 2 rfl) ?_
    refine xw_icmp_lt hx hb 39 d_Rd_readDigit_30 (by decide) (by omega) (fun c30 => ?_) (fun c30 => ?_)
    · refine lv_iconst (v := xi_ (-1)) hx hb d_Rd_readDigit_39 rfl ?_
      have e9 : (p_dig txt len low at_) = (none, at_) := by
        unfold p_dig
        exact if_neg (by omega)
      rw [e9]
      exact xw_iret F hr hlk hh rfl () rfl rfl trivial d_Rd_readDigit_40
    · refine lv_iload_n hx hb d_Rd_readDigit_33 rfl (lv_at hl 0 rfl) ?_
      refine lv_bipush (v := xi_ 9) hx hb d_Rd_readDigit_34 (by decide) ?_
      refine xw_icmp_le hx hb 41 d_Rd_readDigit_36 (by decide) (by decide) (fun c36 => ?_) (fun c36 => absurd c36 (by decide))
      refine lv_aload_n hx hb d_Rd_readDigit_41 rfl (lv_at hl 1 rfl) ?_
      refine lv_dup hx hb d_Rd_readDigit_42 rfl ?_
      refine xw_get F hh.1 (v := .int (xi_ (at_ : Int))) fl_Rd_25_2 0 rfl rfl d_Rd_readDigit_43 ?_
      refine lv_iconst (v := xi_ 1) hx hb d_Rd_readDigit_46 rfl ?_
      refine xw_iadd hx hb d_Rd_readDigit_47 ?_
      refine xw_put F hh fp_Rd_25_2 0 rfl rfl rfl (Nat.le_of_ble_eq_true rfl) d_Rd_readDigit_48 (fun H locs hh => ?_)
      have hh : xw_H G (va_A [(rd, .inr (2, [.ref ta, .int (xi_ (len : Int)), .int (xi_ (at_ : Int)), .int (xi_ gr)])), (ta, .inl (G.2.2 2, 40, .inl (ja_ txt)))] s.heap.size) s.heap H locs [(rd, .inr (2, [.ref ta, .int (xi_ (len : Int)), .int (xi_ ((at_ : Int) + 1)), .int (xi_ gr)])), (ta, .inl (G.2.2 2, 40, .inl (ja_ txt)))] := hh
      refine lv_iload_n hx hb d_Rd_readDigit_51 rfl (lv_at hl 0 rfl) ?_
      exfalso
      omega
  · have htat := htx at_
    refine lv_aload_n hx hb d_Rd_readDigit_11 rfl (lv_at hl 0 rfl) ?_
    refine xw_get F hh.1 (v := .ref ta) fl_Rd_11_2 0 rfl rfl d_Rd_readDigit_12 ?_
    refine lv_aload_n hx hb d_Rd_readDigit_15 rfl (lv_at hl 0 rfl) ?_
    refine xw_get F hh.1 (v := .int (xi_ (at_ : Int))) fl_Rd_25_2 0 rfl rfl d_Rd_readDigit_16 ?_
    refine xw_cald F hh.1 1 (f := txt) rfl (i := (at_ : Int)) (by omega) d_Rd_readDigit_19 ?_
    refine xw_topi (y := txt at_) rfl ?_
    refine lv_bipush (v := xi_ 48) hx hb d_Rd_readDigit_20 (by decide) ?_
    refine xw_isub hx hb d_Rd_readDigit_22 ?_
    refine lv_goto (tgt := 27) hx hb d_Rd_readDigit_23 (by decide) ?_
    refine lv_istore_n (lv' := [(2, .int (xi_ ((txt at_) - 48))), (0, .ref rd), (1, .int (xi_ low))]) hx hb d_Rd_readDigit_27 rfl hl (by decide) rfl (fun ls hl => ?_)
    refine lv_iload_n hx hb d_Rd_readDigit_28 rfl (lv_at hl 0 rfl) ?_
    refine lv_iload_n hx hb d_Rd_readDigit_29 rfl (lv_at hl 2 rfl) ?_
    refine xw_icmp_lt hx hb 39 d_Rd_readDigit_30 (by decide) (by omega) (fun c30 => ?_) (fun c30 => ?_)
    · refine lv_iconst (v := xi_ (-1)) hx hb d_Rd_readDigit_39 rfl ?_
      have e9 : (p_dig txt len low at_) = (none, at_) := by
        unfold p_dig
        exact if_neg (by omega)
      rw [e9]
      exact xw_iret F hr hlk hh rfl () rfl rfl trivial d_Rd_readDigit_40
    · refine lv_iload_n hx hb d_Rd_readDigit_33 rfl (lv_at hl 0 rfl) ?_
      refine lv_bipush (v := xi_ 9) hx hb d_Rd_readDigit_34 (by decide) ?_
      refine xw_icmp_le hx hb 41 d_Rd_readDigit_36 (by decide) (by omega) (fun c36 => ?_) (fun c36 => ?_)
      · refine lv_aload_n hx hb d_Rd_readDigit_41 rfl (lv_at hl 1 rfl) ?_
        refine lv_dup hx hb d_Rd_readDigit_42 rfl ?_
        refine xw_get F hh.1 (v := .int (xi_ (at_ : Int))) fl_Rd_25_2 0 rfl rfl d_Rd_readDigit_43 ?_
        refine lv_iconst (v := xi_ 1) hx hb d_Rd_readDigit_46 rfl ?_
        refine xw_iadd hx hb d_Rd_readDigit_47 ?_
        refine xw_put F hh fp_Rd_25_2 0 rfl rfl rfl (Nat.le_of_ble_eq_true rfl) d_Rd_readDigit_48 (fun H locs hh => ?_)
        have hh : xw_H G (va_A [(rd, .inr (2, [.ref ta, .int (xi_ (len : Int)), .int (xi_ (at_ : Int)), .int (xi_ gr)])), (ta, .inl (G.2.2 2, 40, .inl (ja_ txt)))] s.heap.size) s.heap H locs [(rd, .inr (2, [.ref ta, .int (xi_ (len : Int)), .int (xi_ ((at_ : Int) + 1)), .int (xi_ gr)])), (ta, .inl (G.2.2 2, 40, .inl (ja_ txt)))] := hh
        refine lv_iload_n hx hb d_Rd_readDigit_51 rfl (lv_at hl 0 rfl) ?_
        have e9 : (p_dig txt len low at_) = (some (txt at_ - 48), at_ + 1) := by
          unfold p_dig
          exact if_pos (by omega)
        rw [e9]
        exact xw_iret F hr hlk hh rfl () rfl rfl trivial d_Rd_readDigit_52
      · refine lv_iconst (v := xi_ (-1)) hx hb d_Rd_readDigit_39 rfl ?_
        have e9 : (p_dig txt len low at_) = (none, at_) := by
          unfold p_dig
          exact if_neg (by omega)
        rw [e9]
        exact xw_iret F hr hlk hh rfl () rfl rfl trivial d_Rd_readDigit_40
def rm_Rd_refineGrain : Room := { frames := 0, cells := 0, slots := 0, locals := 0 }
set_option maxHeartbeats 4000000 in
set_option maxRecDepth 100000 in
theorem c_Rd_refineGrain (l : Launch) (G : GG_) (sz : Nat) (rd ta : Nat) (txt : Nat → Int) (len at_ : Nat) (gr : Int) (hlen : len ≤ 40 ∧ at_ ≤ 40) (htx : ∀ j : Nat, 0 ≤ txt j ∧ txt j ≤ 65535) (ft : Int) (hgr : 1 ≤ gr ∧ gr ≤ 45360) (hft : 1 ≤ ft ∧ ft ≤ 9) : Met l y_Rd_refineGrain (cw_ y_Rd_refineGrain b_Rd_refineGrain 2 (some .boolean)) rm_Rd_refineGrain (xw_P G [.ref rd, .int (xi_ ft)] sz [(rd, .inr (2, [.ref ta, .int (xi_ (len : Int)), .int (xi_ (at_ : Int)), .int (xi_ gr)])), (ta, .inl (G.2.2 2, 40, .inl (ja_ txt)))] (fun _ => True)) (xw_Qi (S := Unit) G sz [(rd, .inr (2, [.ref ta, .int (xi_ (len : Int)), .int (xi_ (at_ : Int)), .int (xi_ gr)])), (ta, .inl (G.2.2 2, 40, .inl (ja_ txt)))] (fun z _ => z = 1) (fun _ => [(rd, .inr (2, [.ref ta, .int (xi_ (len : Int)), .int (xi_ (at_ : Int)), .int (xi_ (gc_ gr ft))])), (ta, .inl (G.2.2 2, 40, .inl (ja_ txt)))]) (fun _ _ => True)) 0 0 (va_A [(rd, .inr (2, [.ref ta, .int (xi_ (len : Int)), .int (xi_ (at_ : Int)), .int (xi_ gr)])), (ta, .inl (G.2.2 2, 40, .inl (ja_ txt)))] sz) := by
  refine xw_met (by decide) (Nat.le_of_ble_eq_true rfl) ?_
  intro p0 e0 s m0 args below meth c0 F hr hlk hin hsz hh hX ls hl
  subst hsz
  have hx := F.1
  have hb := F.2.1
  have hl : lv_has ls 2 [(0, .ref rd), (1, .int (xi_ ft))] := hl
  refine lv_aload_n hx hb d_Rd_refineGrain_0 rfl (lv_at hl 0 rfl) ?_
  refine xw_get F hh.1 (v := .int (xi_ gr)) fl_Rd_28_2 0 rfl rfl d_Rd_refineGrain_1 ?_
  refine lv_sipush (v := xi_ 5040) hx hb d_Rd_refineGrain_4 (by decide) ?_
  refine xw_icmp_gt hx hb 20 d_Rd_refineGrain_7 (by decide) (by omega) (fun c7 => ?_) (fun c7 => ?_)
  · refine lv_iconst (v := xi_ 1) hx hb d_Rd_refineGrain_20 rfl ?_
    have e9 : gc_ gr ft = gr := by unfold gc_; rw [if_neg (by omega)]
    rw [e9]
    exact xw_iret F hr hlk hh (by decide) () rfl rfl trivial d_Rd_refineGrain_21
  · refine lv_aload_n hx hb d_Rd_refineGrain_10 rfl (lv_at hl 0 rfl) ?_
    refine lv_dup hx hb d_Rd_refineGrain_11 rfl ?_
    refine xw_get F hh.1 (v := .int (xi_ gr)) fl_Rd_28_2 0 rfl rfl d_Rd_refineGrain_12 ?_
    refine lv_iload_n hx hb d_Rd_refineGrain_15 rfl (lv_at hl 1 rfl) ?_
    refine xw_imul hx hb d_Rd_refineGrain_16 ?_
    refine xw_put F hh fp_Rd_28_2 0 rfl rfl rfl (Nat.le_of_ble_eq_true rfl) d_Rd_refineGrain_17 (fun H locs hh => ?_)
    have hh : xw_H G (va_A [(rd, .inr (2, [.ref ta, .int (xi_ (len : Int)), .int (xi_ (at_ : Int)), .int (xi_ gr)])), (ta, .inl (G.2.2 2, 40, .inl (ja_ txt)))] s.heap.size) s.heap H locs [(rd, .inr (2, [.ref ta, .int (xi_ (len : Int)), .int (xi_ (at_ : Int)), .int (xi_ (gr * ft))])), (ta, .inl (G.2.2 2, 40, .inl (ja_ txt)))] := hh
    refine lv_iconst (v := xi_ 1) hx hb d_Rd_refineGrain_20 rfl ?_
    have e9 : gc_ gr ft = gr * ft := by unfold gc_; rw [if_pos (by omega)]
    rw [e9]
    exact xw_iret F hr hlk hh (by decide) () rfl rfl trivial d_Rd_refineGrain_21
def rm_Rd_readK : Room := { frames := 1, cells := 0, slots := 0, locals := 22 }
set_option maxHeartbeats 4000000 in
set_option maxRecDepth 100000 in
theorem c_Rd_readK (l : Launch) (G : GG_) (sz : Nat) (rd ta : Nat) (txt : Nat → Int) (len at_ : Nat) (gr : Int) (hlen : len ≤ 40 ∧ at_ ≤ 40) (htx : ∀ j : Nat, 0 ≤ txt j ∧ txt j ≤ 65535) (a ia : Nat) (kd cnt k n r hf9 : Int) (low : Int) (hlow : 0 ≤ low ∧ low ≤ 9) : Met l y_Rd_readK (cw_ y_Rd_readK b_Rd_readK 3 (some .boolean)) rm_Rd_readK (xw_P G [.ref rd, .ref a, .int (xi_ low)] sz [(rd, .inr (2, [.ref ta, .int (xi_ (len : Int)), .int (xi_ (at_ : Int)), .int (xi_ gr)])), (ta, .inl (G.2.2 2, 40, .inl (ja_ txt))), (a, .inr (1, nd_ kd ia cnt k n r hf9))] (fun _ => True)) (xw_Qi (S := Unit) G sz [(rd, .inr (2, [.ref ta, .int (xi_ (len : Int)), .int (xi_ (at_ : Int)), .int (xi_ gr)])), (ta, .inl (G.2.2 2, 40, .inl (ja_ txt))), (a, .inr (1, nd_ kd ia cnt k n r hf9))] (fun z _ => z = b2_ ((p_dig txt len low at_).1.isSome)) (fun _ => [(rd, .inr (2, [.ref ta, .int (xi_ (len : Int)), .int (xi_ ((p_dig txt len low at_).2 : Int)), .int (xi_ gr)])), (ta, .inl (G.2.2 2, 40, .inl (ja_ txt))), (a, .inr (1, nd_ kd ia cnt ((p_dig txt len low at_).1.getD (-1)) n r hf9))]) (fun _ _ => True)) 0 0 (va_A [(rd, .inr (2, [.ref ta, .int (xi_ (len : Int)), .int (xi_ (at_ : Int)), .int (xi_ gr)])), (ta, .inl (G.2.2 2, 40, .inl (ja_ txt))), (a, .inr (1, nd_ kd ia cnt k n r hf9))] sz) := by
  refine xw_met (by decide) (Nat.le_of_ble_eq_true rfl) ?_
  intro p0 e0 s m0 args below meth c0 F hr hlk hin hsz hh hX ls hl
  subst hsz
  have hx := F.1
  have hb := F.2.1
  have hl : lv_has ls 3 [(0, .ref rd), (1, .ref a), (2, .int (xi_ low))] := hl
  refine lv_aload_n hx hb d_Rd_readK_0 rfl (lv_at hl 1 rfl) ?_
  refine lv_aload_n hx hb d_Rd_readK_1 rfl (lv_at hl 0 rfl) ?_
  refine lv_iload_n hx hb d_Rd_readK_2 rfl (lv_at hl 2 rfl) ?_
  refine xw_ci (wc := [(rd, .inr (2, [.ref ta, .int (xi_ (len : Int)), .int (xi_ (at_ : Int)), .int (xi_ gr)])), (ta, .inl (G.2.2 2, 40, .inl (ja_ txt)))]) (wr := [(a, .inr (1, nd_ kd ia cnt k n r hf9))]) hh [0, 1] [2] rfl rfl rfl (by decide) (xw_rV F hh [0, 1] rfl rfl (c_Rd_readDigit l G s.heap.size rd ta txt len at_ gr hlen htx low (by omega)) trivial lk_Rd_99 cd_Rd_readDigit se_Rd_readDigit _ hh.1 0 rfl rfl rfl rfl ⟨by decide, by decide⟩ rfl hl.1 rfl (Nat.le_of_ble_eq_true rfl) d_Rd_readK_3 ⟨Nat.le_of_ble_eq_true rfl, Nat.le_of_ble_eq_true rfl⟩) (fun z3 u H locs hp3 hX hz hk hh => ?_)
  have hh : xw_H G (va_A [(rd, .inr (2, [.ref ta, .int (xi_ (len : Int)), .int (xi_ (at_ : Int)), .int (xi_ gr)])), (ta, .inl (G.2.2 2, 40, .inl (ja_ txt))), (a, .inr (1, nd_ kd ia cnt k n r hf9))] s.heap.size) s.heap H locs [(rd, .inr (2, [.ref ta, .int (xi_ (len : Int)), .int (xi_ ((p_dig txt len low at_).2 : Int)), .int (xi_ gr)])), (ta, .inl (G.2.2 2, 40, .inl (ja_ txt))), (a, .inr (1, nd_ kd ia cnt k n r hf9))] := xw_H.sub hh [1, 2, 0] rfl rfl
  obtain rfl : z3 = (p_dig txt len low at_).1.getD (-1) := hp3
  have hdg := (p_dig_rng (tx := txt) (len := len) (low := low) (at_ := at_)).2.2.2
  have hvr : (((p_dig txt len low at_).1 = none ∧ (p_dig txt len low at_).1.getD (-1) = -1) ∨ ((p_dig txt len low at_).1.isSome = true ∧ 0 ≤ (p_dig txt len low at_).1.getD (-1) ∧ (p_dig txt len low at_).1.getD (-1) ≤ 9)) := by
    cases h9 : (p_dig txt len low at_).1 with
    | none => exact Or.inl ⟨rfl, rfl⟩
    | some z9 =>
      have := hdg z9 h9
      exact Or.inr ⟨rfl, by show (0 : Int) ≤ z9; omega, by show z9 ≤ 9; omega⟩
  refine xw_put F hh fp_Rd_84_1 2 rfl rfl rfl (Nat.le_of_ble_eq_true rfl) d_Rd_readK_6 (fun H locs hh => ?_)
  have hh : xw_H G (va_A [(rd, .inr (2, [.ref ta, .int (xi_ (len : Int)), .int (xi_ (at_ : Int)), .int (xi_ gr)])), (ta, .inl (G.2.2 2, 40, .inl (ja_ txt))), (a, .inr (1, nd_ kd ia cnt k n r hf9))] s.heap.size) s.heap H locs [(rd, .inr (2, [.ref ta, .int (xi_ (len : Int)), .int (xi_ ((p_dig txt len low at_).2 : Int)), .int (xi_ gr)])), (ta, .inl (G.2.2 2, 40, .inl (ja_ txt))), (a, .inr (1, nd_ kd ia cnt ((p_dig txt len low at_).1.getD (-1)) n r hf9))] := hh
  refine lv_aload_n hx hb d_Rd_readK_9 rfl (lv_at hl 1 rfl) ?_
  refine xw_get F hh.1 (v := .int (xi_ ((p_dig txt len low at_).1.getD (-1)))) fl_Rd_84_1 2 rfl rfl d_Rd_readK_10 ?_
  refine xw_if_lt hx hb 20 d_Rd_readK_13 (by decide) (by omega) (fun c13 => ?_) (fun c13 => ?_)
  · refine lv_iconst (v := xi_ 0) hx hb d_Rd_readK_20 rfl ?_
    exact xw_iret F hr hlk hh (by decide) () rfl (by
      rcases hvr with q | q
      · exact b2_f (by rw [q.1]; rfl)
      · omega) trivial d_Rd_readK_21
  · refine lv_iconst (v := xi_ 1) hx hb d_Rd_readK_16 rfl ?_
    refine lv_goto (tgt := 21) hx hb d_Rd_readK_17 (by decide) ?_
    exact xw_iret F hr hlk hh (by decide) () rfl (by
      rcases hvr with q | q
      · omega
      · exact b2_t q.1) trivial d_Rd_readK_21
def rm_Rd_readN : Room := { frames := 1, cells := 0, slots := 0, locals := 22 }
set_option maxHeartbeats 4000000 in
set_option maxRecDepth 100000 in
theorem c_Rd_readN (l : Launch) (G : GG_) (sz : Nat) (rd ta : Nat) (txt : Nat → Int) (len at_ : Nat) (gr : Int) (hlen : len ≤ 40 ∧ at_ ≤ 40) (htx : ∀ j : Nat, 0 ≤ txt j ∧ txt j ≤ 65535) (a ia : Nat) (kd cnt k n r hf9 : Int) (low : Int) (hlow : 0 ≤ low ∧ low ≤ 9) : Met l y_Rd_readN (cw_ y_Rd_readN b_Rd_readN 3 (some .boolean)) rm_Rd_readN (xw_P G [.ref rd, .ref a, .int (xi_ low)] sz [(rd, .inr (2, [.ref ta, .int (xi_ (len : Int)), .int (xi_ (at_ : Int)), .int (xi_ gr)])), (ta, .inl (G.2.2 2, 40, .inl (ja_ txt))), (a, .inr (1, nd_ kd ia cnt k n r hf9))] (fun _ => True)) (xw_Qi (S := Unit) G sz [(rd, .inr (2, [.ref ta, .int (xi_ (len : Int)), .int (xi_ (at_ : Int)), .int (xi_ gr)])), (ta, .inl (G.2.2 2, 40, .inl (ja_ txt))), (a, .inr (1, nd_ kd ia cnt k n r hf9))] (fun z _ => z = b2_ ((p_dig txt len low at_).1.isSome)) (fun _ => [(rd, .inr (2, [.ref ta, .int (xi_ (len : Int)), .int (xi_ ((p_dig txt len low at_).2 : Int)), .int (xi_ gr)])), (ta, .inl (G.2.2 2, 40, .inl (ja_ txt))), (a, .inr (1, nd_ kd ia cnt k ((p_dig txt len low at_).1.getD (-1)) r hf9))]) (fun _ _ => True)) 0 0 (va_A [(rd, .inr (2, [.ref ta, .int (xi_ (len : Int)), .int (xi_ (at_ : Int)), .int (xi_ gr)])), (ta, .inl (G.2.2 2, 40, .inl (ja_ txt))), (a, .inr (1, nd_ kd ia cnt k n r hf9))] sz) := by
  refine xw_met (by decide) (Nat.le_of_ble_eq_true rfl) ?_
  intro p0 e0 s m0 args below meth c0 F hr hlk hin hsz hh hX ls hl
  subst hsz
  have hx := F.1
  have hb := F.2.1
  have hl : lv_has ls 3 [(0, .ref rd), (1, .ref a), (2, .int (xi_ low))] := hl
  refine lv_aload_n hx hb d_Rd_readN_0 rfl (lv_at hl 1 rfl) ?_
  refine lv_aload_n hx hb d_Rd_readN_1 rfl (lv_at hl 0 rfl) ?_
  refine lv_iload_n hx hb d_Rd_readN_2 rfl (lv_at hl 2 rfl) ?_
  refine xw_ci (wc := [(rd, .inr (2, [.ref ta, .int (xi_ (len : Int)), .int (xi_ (at_ : Int)), .int (xi_ gr)])), (ta, .inl (G.2.2 2, 40, .inl (ja_ txt)))]) (wr := [(a, .inr (1, nd_ kd ia cnt k n r hf9))]) hh [0, 1] [2] rfl rfl rfl (by decide) (xw_rV F hh [0, 1] rfl rfl (c_Rd_readDigit l G s.heap.size rd ta txt len at_ gr hlen htx low (by omega)) trivial lk_Rd_99 cd_Rd_readDigit se_Rd_readDigit _ hh.1 0 rfl rfl rfl rfl ⟨by decide, by decide⟩ rfl hl.1 rfl (Nat.le_of_ble_eq_true rfl) d_Rd_readN_3 ⟨Nat.le_of_ble_eq_true rfl, Nat.le_of_ble_eq_true rfl⟩) (fun z3 u H locs hp3 hX hz hk hh => ?_)
  have hh : xw_H G (va_A [(rd, .inr (2, [.ref ta, .int (xi_ (len : Int)), .int (xi_ (at_ : Int)), .int (xi_ gr)])), (ta, .inl (G.2.2 2, 40, .inl (ja_ txt))), (a, .inr (1, nd_ kd ia cnt k n r hf9))] s.heap.size) s.heap H locs [(rd, .inr (2, [.ref ta, .int (xi_ (len : Int)), .int (xi_ ((p_dig txt len low at_).2 : Int)), .int (xi_ gr)])), (ta, .inl (G.2.2 2, 40, .inl (ja_ txt))), (a, .inr (1, nd_ kd ia cnt k n r hf9))] := xw_H.sub hh [1, 2, 0] rfl rfl
  obtain rfl : z3 = (p_dig txt len low at_).1.getD (-1) := hp3
  have hdg := (p_dig_rng (tx := txt) (len := len) (low := low) (at_ := at_)).2.2.2
  have hvr : (((p_dig txt len low at_).1 = none ∧ (p_dig txt len low at_).1.getD (-1) = -1) ∨ ((p_dig txt len low at_).1.isSome = true ∧ 0 ≤ (p_dig txt len low at_).1.getD (-1) ∧ (p_dig txt len low at_).1.getD (-1) ≤ 9)) := by
    cases h9 : (p_dig txt len low at_).1 with
    | none => exact Or.inl ⟨rfl, rfl⟩
    | some z9 =>
      have := hdg z9 h9
      exact Or.inr ⟨rfl, by show (0 : Int) ≤ z9; omega, by show z9 ≤ 9; omega⟩
  refine xw_put F hh fp_Rd_66_1 2 rfl rfl rfl (Nat.le_of_ble_eq_true rfl) d_Rd_readN_6 (fun H locs hh => ?_)
  have hh : xw_H G (va_A [(rd, .inr (2, [.ref ta, .int (xi_ (len : Int)), .int (xi_ (at_ : Int)), .int (xi_ gr)])), (ta, .inl (G.2.2 2, 40, .inl (ja_ txt))), (a, .inr (1, nd_ kd ia cnt k n r hf9))] s.heap.size) s.heap H locs [(rd, .inr (2, [.ref ta, .int (xi_ (len : Int)), .int (xi_ ((p_dig txt len low at_).2 : Int)), .int (xi_ gr)])), (ta, .inl (G.2.2 2, 40, .inl (ja_ txt))), (a, .inr (1, nd_ kd ia cnt k ((p_dig txt len low at_).1.getD (-1)) r hf9))] := hh
  refine lv_aload_n hx hb d_Rd_readN_9 rfl (lv_at hl 1 rfl) ?_
  refine xw_get F hh.1 (v := .int (xi_ ((p_dig txt len low at_).1.getD (-1)))) fl_Rd_66_1 2 rfl rfl d_Rd_readN_10 ?_
  refine xw_if_lt hx hb 20 d_Rd_readN_13 (by decide) (by omega) (fun c13 => ?_) (fun c13 => ?_)
  · refine lv_iconst (v := xi_ 0) hx hb d_Rd_readN_20 rfl ?_
    exact xw_iret F hr hlk hh (by decide) () rfl (by
      rcases hvr with q | q
      · exact b2_f (by rw [q.1]; rfl)
      · omega) trivial d_Rd_readN_21
  · refine lv_iconst (v := xi_ 1) hx hb d_Rd_readN_16 rfl ?_
    refine lv_goto (tgt := 21) hx hb d_Rd_readN_17 (by decide) ?_
    exact xw_iret F hr hlk hh (by decide) () rfl (by
      rcases hvr with q | q
      · omega
      · exact b2_t q.1) trivial d_Rd_readN_21
def rm_Rd_readR : Room := { frames := 1, cells := 0, slots := 0, locals := 22 }
set_option maxHeartbeats 4000000 in
set_option maxRecDepth 100000 in
theorem c_Rd_readR (l : Launch) (G : GG_) (sz : Nat) (rd ta : Nat) (txt : Nat → Int) (len at_ : Nat) (gr : Int) (hlen : len ≤ 40 ∧ at_ ≤ 40) (htx : ∀ j : Nat, 0 ≤ txt j ∧ txt j ≤ 65535) (a ia : Nat) (kd cnt k n r hf9 : Int) : Met l y_Rd_readR (cw_ y_Rd_readR b_Rd_readR 2 (some .boolean)) rm_Rd_readR (xw_P G [.ref rd, .ref a] sz [(rd, .inr (2, [.ref ta, .int (xi_ (len : Int)), .int (xi_ (at_ : Int)), .int (xi_ gr)])), (ta, .inl (G.2.2 2, 40, .inl (ja_ txt))), (a, .inr (1, nd_ kd ia cnt k n r hf9))] (fun _ => True)) (xw_Qi (S := Unit) G sz [(rd, .inr (2, [.ref ta, .int (xi_ (len : Int)), .int (xi_ (at_ : Int)), .int (xi_ gr)])), (ta, .inl (G.2.2 2, 40, .inl (ja_ txt))), (a, .inr (1, nd_ kd ia cnt k n r hf9))] (fun z _ => z = b2_ ((p_dig txt len 0 at_).1.isSome)) (fun _ => [(rd, .inr (2, [.ref ta, .int (xi_ (len : Int)), .int (xi_ ((p_dig txt len 0 at_).2 : Int)), .int (xi_ gr)])), (ta, .inl (G.2.2 2, 40, .inl (ja_ txt))), (a, .inr (1, nd_ kd ia cnt k n ((p_dig txt len 0 at_).1.getD (-1)) hf9))]) (fun _ _ => True)) 0 0 (va_A [(rd, .inr (2, [.ref ta, .int (xi_ (len : Int)), .int (xi_ (at_ : Int)), .int (xi_ gr)])), (ta, .inl (G.2.2 2, 40, .inl (ja_ txt))), (a, .inr (1, nd_ kd ia cnt k n r hf9))] sz) := by
  refine xw_met (by decide) (Nat.le_of_ble_eq_true rfl) ?_
  intro p0 e0 s m0 args below meth c0 F hr hlk hin hsz hh hX ls hl
  subst hsz
  have hx := F.1
  have hb := F.2.1
  have hl : lv_has ls 2 [(0, .ref rd), (1, .ref a)] := hl
  refine lv_aload_n hx hb d_Rd_readR_0 rfl (lv_at hl 1 rfl) ?_
  refine lv_aload_n hx hb d_Rd_readR_1 rfl (lv_at hl 0 rfl) ?_
  refine lv_iconst (v := xi_ 0) hx hb d_Rd_readR_2 rfl ?_
  refine xw_ci (wc := [(rd, .inr (2, [.ref ta, .int (xi_ (len : Int)), .int (xi_ (at_ : Int)), .int (xi_ gr)])), (ta, .inl (G.2.2 2, 40, .inl (ja_ txt)))]) (wr := [(a, .inr (1, nd_ kd ia cnt k n r hf9))]) hh [0, 1] [2] rfl rfl rfl (by decide) (xw_rV F hh [0, 1] rfl rfl (c_Rd_readDigit l G s.heap.size rd ta txt len at_ gr hlen htx 0 (by omega)) trivial lk_Rd_99 cd_Rd_readDigit se_Rd_readDigit _ hh.1 0 rfl rfl rfl rfl ⟨by decide, by decide⟩ rfl hl.1 rfl (Nat.le_of_ble_eq_true rfl) d_Rd_readR_3 ⟨Nat.le_of_ble_eq_true rfl, Nat.le_of_ble_eq_true rfl⟩) (fun z3 u H locs hp3 hX hz hk hh => ?_)
  have hh : xw_H G (va_A [(rd, .inr (2, [.ref ta, .int (xi_ (len : Int)), .int (xi_ (at_ : Int)), .int (xi_ gr)])), (ta, .inl (G.2.2 2, 40, .inl (ja_ txt))), (a, .inr (1, nd_ kd ia cnt k n r hf9))] s.heap.size) s.heap H locs [(rd, .inr (2, [.ref ta, .int (xi_ (len : Int)), .int (xi_ ((p_dig txt len 0 at_).2 : Int)), .int (xi_ gr)])), (ta, .inl (G.2.2 2, 40, .inl (ja_ txt))), (a, .inr (1, nd_ kd ia cnt k n r hf9))] := xw_H.sub hh [1, 2, 0] rfl rfl
  obtain rfl : z3 = (p_dig txt len 0 at_).1.getD (-1) := hp3
  have hdg := (p_dig_rng (tx := txt) (len := len) (low := 0) (at_ := at_)).2.2.2
  have hvr : (((p_dig txt len 0 at_).1 = none ∧ (p_dig txt len 0 at_).1.getD (-1) = -1) ∨ ((p_dig txt len 0 at_).1.isSome = true ∧ 0 ≤ (p_dig txt len 0 at_).1.getD (-1) ∧ (p_dig txt len 0 at_).1.getD (-1) ≤ 9)) := by
    cases h9 : (p_dig txt len 0 at_).1 with
    | none => exact Or.inl ⟨rfl, rfl⟩
    | some z9 =>
      have := hdg z9 h9
      exact Or.inr ⟨rfl, by show (0 : Int) ≤ z9; omega, by show z9 ≤ 9; omega⟩
  refine xw_put F hh fp_Rd_103_1 2 rfl rfl rfl (Nat.le_of_ble_eq_true rfl) d_Rd_readR_6 (fun H locs hh => ?_)
  have hh : xw_H G (va_A [(rd, .inr (2, [.ref ta, .int (xi_ (len : Int)), .int (xi_ (at_ : Int)), .int (xi_ gr)])), (ta, .inl (G.2.2 2, 40, .inl (ja_ txt))), (a, .inr (1, nd_ kd ia cnt k n r hf9))] s.heap.size) s.heap H locs [(rd, .inr (2, [.ref ta, .int (xi_ (len : Int)), .int (xi_ ((p_dig txt len 0 at_).2 : Int)), .int (xi_ gr)])), (ta, .inl (G.2.2 2, 40, .inl (ja_ txt))), (a, .inr (1, nd_ kd ia cnt k n ((p_dig txt len 0 at_).1.getD (-1)) hf9))] := hh
  refine lv_aload_n hx hb d_Rd_readR_9 rfl (lv_at hl 1 rfl) ?_
  refine xw_get F hh.1 (v := .int (xi_ ((p_dig txt len 0 at_).1.getD (-1)))) fl_Rd_103_1 2 rfl rfl d_Rd_readR_10 ?_
  refine xw_if_lt hx hb 20 d_Rd_readR_13 (by decide) (by omega) (fun c13 => ?_) (fun c13 => ?_)
  · refine lv_iconst (v := xi_ 0) hx hb d_Rd_readR_20 rfl ?_
    exact xw_iret F hr hlk hh (by decide) () rfl (by
      rcases hvr with q | q
      · exact b2_f (by rw [q.1]; rfl)
      · omega) trivial d_Rd_readR_21
  · refine lv_iconst (v := xi_ 1) hx hb d_Rd_readR_16 rfl ?_
    refine lv_goto (tgt := 21) hx hb d_Rd_readR_17 (by decide) ?_
    exact xw_iret F hr hlk hh (by decide) () rfl (by
      rcases hvr with q | q
      · omega
      · exact b2_t q.1) trivial d_Rd_readR_21
