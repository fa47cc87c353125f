/-! Reader.readPattern, Reader.read -/
set_option maxHeartbeats 4000000 in
set_option maxRecDepth 100000 in
theorem c_Rd_readPattern_s (l : Launch) (G : GG_) (sz : Nat) (rd ta : Nat) (txt : Nat → Int) (len at_ : Nat) (gr : Int) (d : Nat) (ih : cwp_ l G d) (hd40 : d + 1 ≤ 40) (hlen : len ≤ 40 ∧ at_ ≤ len) (htx : ∀ j : Nat, 0 ≤ txt j ∧ txt j ≤ 65535) (hgr : 1 ≤ gr ∧ gr ≤ 45360) : Met l y_Rd_readPattern (cw_ y_Rd_readPattern b_Rd_readPattern 3 (some (.object "CyclePatterns$Node"))) (rm_Rd_readPattern (d + 1) ((prs_ txt len (d + 1) at_).2 - at_)) (xw_P G [.ref rd, .int (xi_ (41 - ((d + 1 : Nat) : Int)))] sz [(rd, .inr (2, [.ref ta, .int (xi_ (len : Int)), .int (xi_ (at_ : Int)), .int (xi_ gr)])), (ta, .inl (G.2.2 2, 40, .inl (ja_ txt)))] (fun _ => True)) (xw_Qa (S := Int) G sz [(rd, .inr (2, [.ref ta, .int (xi_ (len : Int)), .int (xi_ (at_ : Int)), .int (xi_ gr)])), (ta, .inl (G.2.2 2, 40, .inl (ja_ txt)))] (fun x u => rp_ok (prs_ txt len (d + 1) at_) gr x u) (fun u => [(rd, .inr (2, [.ref ta, .int (xi_ (len : Int)), .int (xi_ ((prs_ txt len (d + 1) at_).2 : Int)), .int (xi_ u)])), (ta, .inl (G.2.2 2, 40, .inl (ja_ txt)))]) (fun x _ H => rp_nt G sz (prs_ txt len (d + 1) at_) x H)) (2 * ((prs_ txt len (d + 1) at_).2 - at_)) (16 * ((prs_ txt len (d + 1) at_).2 - at_)) (va_A [(rd, .inr (2, [.ref ta, .int (xi_ (len : Int)), .int (xi_ (at_ : Int)), .int (xi_ gr)])), (ta, .inl (G.2.2 2, 40, .inl (ja_ txt)))] sz) := by
  refine xw_met (by decide) (Nat.le_of_ble_eq_true rfl) ?_
  intro p0 e0 s m0 args below meth c0 F hr hlk hin hsz hh hX ls hl
  subst hsz
  have hx := F.1
  have hb := F.2.1
  have hl : lv_has ls 3 [(0, .ref rd), (1, .int (xi_ (41 - ((d + 1 : Nat) : Int))))] := hl
  refine lv_aload_n hx hb d_Rd_readPattern_0 rfl (lv_at hl 0 rfl) ?_
  refine xw_get F hh.1 (v := .int (xi_ (at_ : Int))) fl_Rd_25_2 0 rfl rfl d_Rd_readPattern_1 ?_
  refine lv_aload_n hx hb d_Rd_readPattern_4 rfl (lv_at hl 0 rfl) ?_
  refine xw_get F hh.1 (v := .int (xi_ (len : Int))) fl_Rd_21_2 0 rfl rfl d_Rd_readPattern_5 ?_
  refine xw_icmp_ge hx hb 17 d_Rd_readPattern_8 (by decide) (by omega) (fun c8 => ?_) (fun c8 => ?_)
  · refine lv_null hx hb d_Rd_readPattern_17 ?_
    have eR : prs_ txt len (d + 1) at_ = (none, at_) := by
      rw [prs_s]
      unfold p_step
      exact if_pos (by omega)
    rw [eR]
    refine W.widen (k := 2 * (at_ - at_)) (n := 16 * (at_ - at_)) (by omega) (by omega) ?_
    exact xw_aret F hr hlk hh (x := none) rfl gr rfl ⟨fun _ => rfl, hgr, fun T h => (by cases h)⟩ (fun T h => (by cases h)) d_Rd_readPattern_18
  · refine lv_iload_n hx hb d_Rd_readPattern_11 rfl (lv_at hl 1 rfl) ?_
    refine lv_bipush (v := xi_ 40) hx hb d_Rd_readPattern_12 (by decide) ?_
    refine xw_icmp_le hx hb 19 d_Rd_readPattern_14 (by decide) (by omega) (fun c14 => ?_) (fun c14 => absurd c14 (by omega))
    have htat := htx at_
    refine lv_aload_n hx hb d_Rd_readPattern_19 rfl (lv_at hl 0 rfl) ?_
    refine xw_get F hh.1 (v := .ref ta) fl_Rd_11_2 0 rfl rfl d_Rd_readPattern_20 ?_
    refine lv_aload_n hx hb d_Rd_readPattern_23 rfl (lv_at hl 0 rfl) ?_
    refine xw_get F hh.1 (v := .int (xi_ (at_ : Int))) fl_Rd_25_2 0 rfl rfl d_Rd_readPattern_24 ?_
    refine xw_cald F hh.1 1 (f := txt) rfl (i := (at_ : Int)) (by omega) d_Rd_readPattern_27 ?_
    refine xw_topi (y := txt at_) rfl ?_
    refine lv_istore_n (lv' := [(2, .int (xi_ (txt at_))), (0, .ref rd), (1, .int (xi_ (41 - ((d + 1 : Nat) : Int))))]) hx hb d_Rd_readPattern_28 rfl hl (by decide) rfl (fun ls hl => ?_)
    refine lv_iload_n hx hb d_Rd_readPattern_29 rfl (lv_at hl 0 rfl) ?_
    by_cases h91 : txt at_ = 91
    · have eR : prs_ txt len (d + 1) at_ = p_group (prs_ txt len d) txt len (txt at_) 93 at_ := by
        rw [prs_s]
        unfold p_step p_close
        rw [if_neg (by omega), if_pos (by omega), h91]
        rfl
      rw [eR]
      refine lv_lookup (off := 82) (tgt := 112) hx hb d_Rd_readPattern_30 (by decide) (by rw [h91]; decide) (by decide) ?_
      refine lv_aload_n hx hb d_Rd_readPattern_112 rfl (lv_at hl 1 rfl) ?_
      refine lv_iload_n hx hb d_Rd_readPattern_113 rfl (lv_at hl 0 rfl) ?_
      refine lv_bipush (v := xi_ 93) hx hb d_Rd_readPattern_114 (by decide) ?_
      refine lv_iload_n hx hb d_Rd_readPattern_116 rfl (lv_at hl 2 rfl) ?_
      refine xw_ca (wc := [(rd, .inr (2, [.ref ta, .int (xi_ (len : Int)), .int (xi_ (at_ : Int)), .int (xi_ gr)])), (ta, .inl (G.2.2 2, 40, .inl (ja_ txt)))]) (wr := []) hh [0, 1] [] rfl rfl rfl (by decide) (xw_rV F hh [0, 1] rfl rfl (c_Rd_readGroup l G s.heap.size rd ta txt len at_ gr d ih (by omega) (txt at_) 93 (by omega) (by omega) ⟨hlen.1, by omega⟩ htx hgr) trivial lk_Rd_35 cd_Rd_readGroup se_Rd_readGroup _ hh.1 0 rfl rfl rfl rfl ⟨by unfold rm_Rd_readGroup rm_Rd_readPattern; (try dsimp only); omega, by unfold rm_Rd_readGroup rm_Rd_readPattern; (try dsimp only); omega⟩ rfl hl.1 rfl (Nat.le_of_ble_eq_true rfl) d_Rd_readPattern_117 ⟨Nat.le_of_eq (Nat.zero_add _), Nat.le_of_eq (Nat.zero_add _)⟩) (fun z117 u H locs hp117 hX hz hk hh => ?_)
      have hh : xw_H G (va_A [(rd, .inr (2, [.ref ta, .int (xi_ (len : Int)), .int (xi_ (at_ : Int)), .int (xi_ gr)])), (ta, .inl (G.2.2 2, 40, .inl (ja_ txt)))] s.heap.size) s.heap H locs [(rd, .inr (2, [.ref ta, .int (xi_ (len : Int)), .int (xi_ ((p_group (prs_ txt len d) txt len (txt at_) 93 at_).2 : Int)), .int (xi_ u)])), (ta, .inl (G.2.2 2, 40, .inl (ja_ txt)))] := hh
      refine W.widen (k := 2 * ((p_group (prs_ txt len d) txt len (txt at_) 93 at_).2 - at_)) (n := 16 * ((p_group (prs_ txt len d) txt len (txt at_) 93 at_).2 - at_)) (by omega) (by omega) ?_
      exact xw_aret F hr hlk hh (x := z117) rfl u rfl hp117 hX d_Rd_readPattern_120
    by_cases h60 : txt at_ = 60
    · have eR : prs_ txt len (d + 1) at_ = p_group (prs_ txt len d) txt len (txt at_) 62 at_ := by
        rw [prs_s]
        unfold p_step p_close
        rw [if_neg (by omega), if_pos (by omega), h60]
        rfl
      rw [eR]
      refine lv_lookup (off := 91) (tgt := 121) hx hb d_Rd_readPattern_30 (by decide) (by rw [h60]; decide) (by decide) ?_
      refine lv_aload_n hx hb d_Rd_readPattern_121 rfl (lv_at hl 1 rfl) ?_
      refine lv_iload_n hx hb d_Rd_readPattern_122 rfl (lv_at hl 0 rfl) ?_
      refine lv_bipush (v := xi_ 62) hx hb d_Rd_readPattern_123 (by decide) ?_
      refine lv_iload_n hx hb d_Rd_readPattern_125 rfl (lv_at hl 2 rfl) ?_
      refine xw_ca (wc := [(rd, .inr (2, [.ref ta, .int (xi_ (len : Int)), .int (xi_ (at_ : Int)), .int (xi_ gr)])), (ta, .inl (G.2.2 2, 40, .inl (ja_ txt)))]) (wr := []) hh [0, 1] [] rfl rfl rfl (by decide) (xw_rV F hh [0, 1] rfl rfl (c_Rd_readGroup l G s.heap.size rd ta txt len at_ gr d ih (by omega) (txt at_) 62 (by omega) (by omega) ⟨hlen.1, by omega⟩ htx hgr) trivial lk_Rd_35 cd_Rd_readGroup se_Rd_readGroup _ hh.1 0 rfl rfl rfl rfl ⟨by unfold rm_Rd_readGroup rm_Rd_readPattern; (try dsimp only); omega, by unfold rm_Rd_readGroup rm_Rd_readPattern; (try dsimp only); omega⟩ rfl hl.1 rfl (Nat.le_of_ble_eq_true rfl) d_Rd_readPattern_126 ⟨Nat.le_of_eq (Nat.zero_add _), Nat.le_of_eq (Nat.zero_add _)⟩) (fun z126 u H locs hp126 hX hz hk hh => ?_)
      have hh : xw_H G (va_A [(rd, .inr (2, [.ref ta, .int (xi_ (len : Int)), .int (xi_ (at_ : Int)), .int (xi_ gr)])), (ta, .inl (G.2.2 2, 40, .inl (ja_ txt)))] s.heap.size) s.heap H locs [(rd, .inr (2, [.ref ta, .int (xi_ (len : Int)), .int (xi_ ((p_group (prs_ txt len d) txt len (txt at_) 62 at_).2 : Int)), .int (xi_ u)])), (ta, .inl (G.2.2 2, 40, .inl (ja_ txt)))] := hh
      refine W.widen (k := 2 * ((p_group (prs_ txt len d) txt len (txt at_) 62 at_).2 - at_)) (n := 16 * ((p_group (prs_ txt len d) txt len (txt at_) 62 at_).2 - at_)) (by omega) (by omega) ?_
      exact xw_aret F hr hlk hh (x := z126) rfl u rfl hp126 hX d_Rd_readPattern_129
    by_cases h123 : txt at_ = 123
    · have eR : prs_ txt len (d + 1) at_ = p_group (prs_ txt len d) txt len (txt at_) 125 at_ := by
        rw [prs_s]
        unfold p_step p_close
        rw [if_neg (by omega), if_pos (by omega), h123]
        rfl
      rw [eR]
      refine lv_lookup (off := 100) (tgt := 130) hx hb d_Rd_readPattern_30 (by decide) (by rw [h123]; decide) (by decide) ?_
      refine lv_aload_n hx hb d_Rd_readPattern_130 rfl (lv_at hl 1 rfl) ?_
      refine lv_iload_n hx hb d_Rd_readPattern_131 rfl (lv_at hl 0 rfl) ?_
      refine lv_bipush (v := xi_ 125) hx hb d_Rd_readPattern_132 (by decide) ?_
      refine lv_iload_n hx hb d_Rd_readPattern_134 rfl (lv_at hl 2 rfl) ?_
      refine xw_ca (wc := [(rd, .inr (2, [.ref ta, .int (xi_ (len : Int)), .int (xi_ (at_ : Int)), .int (xi_ gr)])), (ta, .inl (G.2.2 2, 40, .inl (ja_ txt)))]) (wr := []) hh [0, 1] [] rfl rfl rfl (by decide) (xw_rV F hh [0, 1] rfl rfl (c_Rd_readGroup l G s.heap.size rd ta txt len at_ gr d ih (by omega) (txt at_) 125 (by omega) (by omega) ⟨hlen.1, by omega⟩ htx hgr) trivial lk_Rd_35 cd_Rd_readGroup se_Rd_readGroup _ hh.1 0 rfl rfl rfl rfl ⟨by unfold rm_Rd_readGroup rm_Rd_readPattern; (try dsimp only); omega, by unfold rm_Rd_readGroup rm_Rd_readPattern; (try dsimp only); omega⟩ rfl hl.1 rfl (Nat.le_of_ble_eq_true rfl) d_Rd_readPattern_135 ⟨Nat.le_of_eq (Nat.zero_add _), Nat.le_of_eq (Nat.zero_add _)⟩) (fun z135 u H locs hp135 hX hz hk hh => ?_)
      have hh : xw_H G (va_A [(rd, .inr (2, [.ref ta, .int (xi_ (len : Int)), .int (xi_ (at_ : Int)), .int (xi_ gr)])), (ta, .inl (G.2.2 2, 40, .inl (ja_ txt)))] s.heap.size) s.heap H locs [(rd, .inr (2, [.ref ta, .int (xi_ (len : Int)), .int (xi_ ((p_group (prs_ txt len d) txt len (txt at_) 125 at_).2 : Int)), .int (xi_ u)])), (ta, .inl (G.2.2 2, 40, .inl (ja_ txt)))] := hh
      refine W.widen (k := 2 * ((p_group (prs_ txt len d) txt len (txt at_) 125 at_).2 - at_)) (n := 16 * ((p_group (prs_ txt len d) txt len (txt at_) 125 at_).2 - at_)) (by omega) (by omega) ?_
      exact xw_aret F hr hlk hh (x := z135) rfl u rfl hp135 hX d_Rd_readPattern_138
    by_cases h70 : txt at_ = 70
    · have eR : prs_ txt len (d + 1) at_ = p_oper (prs_ txt len d) txt len (txt at_) 1 at_ := by
        rw [prs_s]
        unfold p_step
        rw [if_neg (by omega), if_neg (by omega), if_pos (by omega), h70]
        rfl
      rw [eR]
      refine lv_lookup (off := 109) (tgt := 139) hx hb d_Rd_readPattern_30 (by decide) (by rw [h70]; decide) (by decide) ?_
      refine lv_aload_n hx hb d_Rd_readPattern_139 rfl (lv_at hl 1 rfl) ?_
      refine lv_iload_n hx hb d_Rd_readPattern_140 rfl (lv_at hl 0 rfl) ?_
      refine lv_iconst (v := xi_ 1) hx hb d_Rd_readPattern_141 rfl ?_
      refine lv_iload_n hx hb d_Rd_readPattern_142 rfl (lv_at hl 2 rfl) ?_
      refine xw_ca (wc := [(rd, .inr (2, [.ref ta, .int (xi_ (len : Int)), .int (xi_ (at_ : Int)), .int (xi_ gr)])), (ta, .inl (G.2.2 2, 40, .inl (ja_ txt)))]) (wr := []) hh [0, 1] [] rfl rfl rfl (by decide) (xw_rV F hh [0, 1] rfl rfl (c_Rd_readOperator l G s.heap.size rd ta txt len at_ gr d ih (by omega) (txt at_) 1 (by omega) (by omega) ⟨hlen.1, by omega⟩ htx hgr) trivial lk_Rd_39 cd_Rd_readOperator se_Rd_readOperator _ hh.1 0 rfl rfl rfl rfl ⟨by unfold rm_Rd_readOperator rm_Rd_readPattern; (try dsimp only); omega, by unfold rm_Rd_readOperator rm_Rd_readPattern; (try dsimp only); omega⟩ rfl hl.1 rfl (Nat.le_of_ble_eq_true rfl) d_Rd_readPattern_143 ⟨Nat.le_of_eq (Nat.zero_add _), Nat.le_of_eq (Nat.zero_add _)⟩) (fun z143 u H locs hp143 hX hz hk hh => ?_)
      have hh : xw_H G (va_A [(rd, .inr (2, [.ref ta, .int (xi_ (len : Int)), .int (xi_ (at_ : Int)), .int (xi_ gr)])), (ta, .inl (G.2.2 2, 40, .inl (ja_ txt)))] s.heap.size) s.heap H locs [(rd, .inr (2, [.ref ta, .int (xi_ (len : Int)), .int (xi_ ((p_oper (prs_ txt len d) txt len (txt at_) 1 at_).2 : Int)), .int (xi_ u)])), (ta, .inl (G.2.2 2, 40, .inl (ja_ txt)))] := hh
      refine W.widen (k := 2 * ((p_oper (prs_ txt len d) txt len (txt at_) 1 at_).2 - at_)) (n := 16 * ((p_oper (prs_ txt len d) txt len (txt at_) 1 at_).2 - at_)) (by omega) (by omega) ?_
      exact xw_aret F hr hlk hh (x := z143) rfl u rfl hp143 hX d_Rd_readPattern_146
    by_cases h83 : txt at_ = 83
    · have eR : prs_ txt len (d + 1) at_ = p_oper (prs_ txt len d) txt len (txt at_) 1 at_ := by
        rw [prs_s]
        unfold p_step
        rw [if_neg (by omega), if_neg (by omega), if_pos (by omega), h83]
        rfl
      rw [eR]
      refine lv_lookup (off := 109) (tgt := 139) hx hb d_Rd_readPattern_30 (by decide) (by rw [h83]; decide) (by decide) ?_
      refine lv_aload_n hx hb d_Rd_readPattern_139 rfl (lv_at hl 1 rfl) ?_
      refine lv_iload_n hx hb d_Rd_readPattern_140 rfl (lv_at hl 0 rfl) ?_
      refine lv_iconst (v := xi_ 1) hx hb d_Rd_readPattern_141 rfl ?_
      refine lv_iload_n hx hb d_Rd_readPattern_142 rfl (lv_at hl 2 rfl) ?_
      refine xw_ca (wc := [(rd, .inr (2, [.ref ta, .int (xi_ (len : Int)), .int (xi_ (at_ : Int)), .int (xi_ gr)])), (ta, .inl (G.2.2 2, 40, .inl (ja_ txt)))]) (wr := []) hh [0, 1] [] rfl rfl rfl (by decide) (xw_rV F hh [0, 1] rfl rfl (c_Rd_readOperator l G s.heap.size rd ta txt len at_ gr d ih (by omega) (txt at_) 1 (by omega) (by omega) ⟨hlen.1, by omega⟩ htx hgr) trivial lk_Rd_39 cd_Rd_readOperator se_Rd_readOperator _ hh.1 0 rfl rfl rfl rfl ⟨by unfold rm_Rd_readOperator rm_Rd_readPattern; (try dsimp only); omega, by unfold rm_Rd_readOperator rm_Rd_readPattern; (try dsimp only); omega⟩ rfl hl.1 rfl (Nat.le_of_ble_eq_true rfl) d_Rd_readPattern_143 ⟨Nat.le_of_eq (Nat.zero_add _), Nat.le_of_eq (Nat.zero_add _)⟩) (fun z143 u H locs hp143 hX hz hk hh => ?_)
      have hh : xw_H G (va_A [(rd, .inr (2, [.ref ta, .int (xi_ (len : Int)), .int (xi_ (at_ : Int)), .int (xi_ gr)])), (ta, .inl (G.2.2 2, 40, .inl (ja_ txt)))] s.heap.size) s.heap H locs [(rd, .inr (2, [.ref ta, .int (xi_ (len : Int)), .int (xi_ ((p_oper (prs_ txt len d) txt len (txt at_) 1 at_).2 : Int)), .int (xi_ u)])), (ta, .inl (G.2.2 2, 40, .inl (ja_ txt)))] := hh
      refine W.widen (k := 2 * ((p_oper (prs_ txt len d) txt len (txt at_) 1 at_).2 - at_)) (n := 16 * ((p_oper (prs_ txt len d) txt len (txt at_) 1 at_).2 - at_)) (by omega) (by omega) ?_
      exact xw_aret F hr hlk hh (x := z143) rfl u rfl hp143 hX d_Rd_readPattern_146
    by_cases h76 : txt at_ = 76
    · have eR : prs_ txt len (d + 1) at_ = p_oper (prs_ txt len d) txt len (txt at_) 1 at_ := by
        rw [prs_s]
        unfold p_step
        rw [if_neg (by omega), if_neg (by omega), if_pos (by omega), h76]
        rfl
      rw [eR]
      refine lv_lookup (off := 109) (tgt := 139) hx hb d_Rd_readPattern_30 (by decide) (by rw [h76]; decide) (by decide) ?_
      refine lv_aload_n hx hb d_Rd_readPattern_139 rfl (lv_at hl 1 rfl) ?_
      refine lv_iload_n hx hb d_Rd_readPattern_140 rfl (lv_at hl 0 rfl) ?_
      refine lv_iconst (v := xi_ 1) hx hb d_Rd_readPattern_141 rfl ?_
      refine lv_iload_n hx hb d_Rd_readPattern_142 rfl (lv_at hl 2 rfl) ?_
      refine xw_ca (wc := [(rd, .inr (2, [.ref ta, .int (xi_ (len : Int)), .int (xi_ (at_ : Int)), .int (xi_ gr)])), (ta, .inl (G.2.2 2, 40, .inl (ja_ txt)))]) (wr := []) hh [0, 1] [] rfl rfl rfl (by decide) (xw_rV F hh [0, 1] rfl rfl (c_Rd_readOperator l G s.heap.size rd ta txt len at_ gr d ih (by omega) (txt at_) 1 (by omega) (by omega) ⟨hlen.1, by omega⟩ htx hgr) trivial lk_Rd_39 cd_Rd_readOperator se_Rd_readOperator _ hh.1 0 rfl rfl rfl rfl ⟨by unfold rm_Rd_readOperator rm_Rd_readPattern; (try dsimp only); omega, by unfold rm_Rd_readOperator rm_Rd_readPattern; (try dsimp only); omega⟩ rfl hl.1 rfl (Nat.le_of_ble_eq_true rfl) d_Rd_readPattern_143 ⟨Nat.le_of_eq (Nat.zero_add _), Nat.le_of_eq (Nat.zero_add _)⟩) (fun z143 u H locs hp143 hX hz hk hh => ?_)
      have hh : xw_H G (va_A [(rd, .inr (2, [.ref ta, .int (xi_ (len : Int)), .int (xi_ (at_ : Int)), .int (xi_ gr)])), (ta, .inl (G.2.2 2, 40, .inl (ja_ txt)))] s.heap.size) s.heap H locs [(rd, .inr (2, [.ref ta, .int (xi_ (len : Int)), .int (xi_ ((p_oper (prs_ txt len d) txt len (txt at_) 1 at_).2 : Int)), .int (xi_ u)])), (ta, .inl (G.2.2 2, 40, .inl (ja_ txt)))] := hh
      refine W.widen (k := 2 * ((p_oper (prs_ txt len d) txt len (txt at_) 1 at_).2 - at_)) (n := 16 * ((p_oper (prs_ txt len d) txt len (txt at_) 1 at_).2 - at_)) (by omega) (by omega) ?_
      exact xw_aret F hr hlk hh (x := z143) rfl u rfl hp143 hX d_Rd_readPattern_146
    by_cases h82 : txt at_ = 82
    · have eR : prs_ txt len (d + 1) at_ = p_oper (prs_ txt len d) txt len (txt at_) 1 at_ := by
        rw [prs_s]
        unfold p_step
        rw [if_neg (by omega), if_neg (by omega), if_pos (by omega), h82]
        rfl
      rw [eR]
      refine lv_lookup (off := 109) (tgt := 139) hx hb d_Rd_readPattern_30 (by decide) (by rw [h82]; decide) (by decide) ?_
      refine lv_aload_n hx hb d_Rd_readPattern_139 rfl (lv_at hl 1 rfl) ?_
      refine lv_iload_n hx hb d_Rd_readPattern_140 rfl (lv_at hl 0 rfl) ?_
      refine lv_iconst (v := xi_ 1) hx hb d_Rd_readPattern_141 rfl ?_
      refine lv_iload_n hx hb d_Rd_readPattern_142 rfl (lv_at hl 2 rfl) ?_
      refine xw_ca (wc := [(rd, .inr (2, [.ref ta, .int (xi_ (len : Int)), .int (xi_ (at_ : Int)), .int (xi_ gr)])), (ta, .inl (G.2.2 2, 40, .inl (ja_ txt)))]) (wr := []) hh [0, 1] [] rfl rfl rfl (by decide) (xw_rV F hh [0, 1] rfl rfl (c_Rd_readOperator l G s.heap.size rd ta txt len at_ gr d ih (by omega) (txt at_) 1 (by omega) (by omega) ⟨hlen.1, by omega⟩ htx hgr) trivial lk_Rd_39 cd_Rd_readOperator se_Rd_readOperator _ hh.1 0 rfl rfl rfl rfl ⟨by unfold rm_Rd_readOperator rm_Rd_readPattern; (try dsimp only); omega, by unfold rm_Rd_readOperator rm_Rd_readPattern; (try dsimp only); omega⟩ rfl hl.1 rfl (Nat.le_of_ble_eq_true rfl) d_Rd_readPattern_143 ⟨Nat.le_of_eq (Nat.zero_add _), Nat.le_of_eq (Nat.zero_add _)⟩) (fun z143 u H locs hp143 hX hz hk hh => ?_)
      have hh : xw_H G (va_A [(rd, .inr (2, [.ref ta, .int (xi_ (len : Int)), .int (xi_ (at_ : Int)), .int (xi_ gr)])), (ta, .inl (G.2.2 2, 40, .inl (ja_ txt)))] s.heap.size) s.heap H locs [(rd, .inr (2, [.ref ta, .int (xi_ (len : Int)), .int (xi_ ((p_oper (prs_ txt len d) txt len (txt at_) 1 at_).2 : Int)), .int (xi_ u)])), (ta, .inl (G.2.2 2, 40, .inl (ja_ txt)))] := hh
      refine W.widen (k := 2 * ((p_oper (prs_ txt len d) txt len (txt at_) 1 at_).2 - at_)) (n := 16 * ((p_oper (prs_ txt len d) txt len (txt at_) 1 at_).2 - at_)) (by omega) (by omega) ?_
      exact xw_aret F hr hlk hh (x := z143) rfl u rfl hp143 hX d_Rd_readPattern_146
    by_cases h69 : txt at_ = 69
    · have eR : prs_ txt len (d + 1) at_ = p_oper (prs_ txt len d) txt len (txt at_) 1 at_ := by
        rw [prs_s]
        unfold p_step
        rw [if_neg (by omega), if_neg (by omega), if_pos (by omega), h69]
        rfl
      rw [eR]
      refine lv_lookup (off := 109) (tgt := 139) hx hb d_Rd_readPattern_30 (by decide) (by rw [h69]; decide) (by decide) ?_
      refine lv_aload_n hx hb d_Rd_readPattern_139 rfl (lv_at hl 1 rfl) ?_
      refine lv_iload_n hx hb d_Rd_readPattern_140 rfl (lv_at hl 0 rfl) ?_
      refine lv_iconst (v := xi_ 1) hx hb d_Rd_readPattern_141 rfl ?_
      refine lv_iload_n hx hb d_Rd_readPattern_142 rfl (lv_at hl 2 rfl) ?_
      refine xw_ca (wc := [(rd, .inr (2, [.ref ta, .int (xi_ (len : Int)), .int (xi_ (at_ : Int)), .int (xi_ gr)])), (ta, .inl (G.2.2 2, 40, .inl (ja_ txt)))]) (wr := []) hh [0, 1] [] rfl rfl rfl (by decide) (xw_rV F hh [0, 1] rfl rfl (c_Rd_readOperator l G s.heap.size rd ta txt len at_ gr d ih (by omega) (txt at_) 1 (by omega) (by omega) ⟨hlen.1, by omega⟩ htx hgr) trivial lk_Rd_39 cd_Rd_readOperator se_Rd_readOperator _ hh.1 0 rfl rfl rfl rfl ⟨by unfold rm_Rd_readOperator rm_Rd_readPattern; (try dsimp only); omega, by unfold rm_Rd_readOperator rm_Rd_readPattern; (try dsimp only); omega⟩ rfl hl.1 rfl (Nat.le_of_ble_eq_true rfl) d_Rd_readPattern_143 ⟨Nat.le_of_eq (Nat.zero_add _), Nat.le_of_eq (Nat.zero_add _)⟩) (fun z143 u H locs hp143 hX hz hk hh => ?_)
      have hh : xw_H G (va_A [(rd, .inr (2, [.ref ta, .int (xi_ (len : Int)), .int (xi_ (at_ : Int)), .int (xi_ gr)])), (ta, .inl (G.2.2 2, 40, .inl (ja_ txt)))] s.heap.size) s.heap H locs [(rd, .inr (2, [.ref ta, .int (xi_ (len : Int)), .int (xi_ ((p_oper (prs_ txt len d) txt len (txt at_) 1 at_).2 : Int)), .int (xi_ u)])), (ta, .inl (G.2.2 2, 40, .inl (ja_ txt)))] := hh
      refine W.widen (k := 2 * ((p_oper (prs_ txt len d) txt len (txt at_) 1 at_).2 - at_)) (n := 16 * ((p_oper (prs_ txt len d) txt len (txt at_) 1 at_).2 - at_)) (by omega) (by omega) ?_
      exact xw_aret F hr hlk hh (x := z143) rfl u rfl hp143 hX d_Rd_readPattern_146
    by_cases h86 : txt at_ = 86
    · have eR : prs_ txt len (d + 1) at_ = p_oper (prs_ txt len d) txt len (txt at_) 2 at_ := by
        rw [prs_s]
        unfold p_step
        rw [if_neg (by omega), if_neg (by omega), if_pos (by omega), h86]
        rfl
      rw [eR]
      refine lv_lookup (off := 117) (tgt := 147) hx hb d_Rd_readPattern_30 (by decide) (by rw [h86]; decide) (by decide) ?_
      refine lv_aload_n hx hb d_Rd_readPattern_147 rfl (lv_at hl 1 rfl) ?_
      refine lv_iload_n hx hb d_Rd_readPattern_148 rfl (lv_at hl 0 rfl) ?_
      refine lv_iconst (v := xi_ 2) hx hb d_Rd_readPattern_149 rfl ?_
      refine lv_iload_n hx hb d_Rd_readPattern_150 rfl (lv_at hl 2 rfl) ?_
      refine xw_ca (wc := [(rd, .inr (2, [.ref ta, .int (xi_ (len : Int)), .int (xi_ (at_ : Int)), .int (xi_ gr)])), (ta, .inl (G.2.2 2, 40, .inl (ja_ txt)))]) (wr := []) hh [0, 1] [] rfl rfl rfl (by decide) (xw_rV F hh [0, 1] rfl rfl (c_Rd_readOperator l G s.heap.size rd ta txt len at_ gr d ih (by omega) (txt at_) 2 (by omega) (by omega) ⟨hlen.1, by omega⟩ htx hgr) trivial lk_Rd_39 cd_Rd_readOperator se_Rd_readOperator _ hh.1 0 rfl rfl rfl rfl ⟨by unfold rm_Rd_readOperator rm_Rd_readPattern; (try dsimp only); omega, by unfold rm_Rd_readOperator rm_Rd_readPattern; (try dsimp only); omega⟩ rfl hl.1 rfl (Nat.le_of_ble_eq_true rfl) d_Rd_readPattern_151 ⟨Nat.le_of_eq (Nat.zero_add _), Nat.le_of_eq (Nat.zero_add _)⟩) (fun z151 u H locs hp151 hX hz hk hh => ?_)
      have hh : xw_H G (va_A [(rd, .inr (2, [.ref ta, .int (xi_ (len : Int)), .int (xi_ (at_ : Int)), .int (xi_ gr)])), (ta, .inl (G.2.2 2, 40, .inl (ja_ txt)))] s.heap.size) s.heap H locs [(rd, .inr (2, [.ref ta, .int (xi_ (len : Int)), .int (xi_ ((p_oper (prs_ txt len d) txt len (txt at_) 2 at_).2 : Int)), .int (xi_ u)])), (ta, .inl (G.2.2 2, 40, .inl (ja_ txt)))] := hh
      refine W.widen (k := 2 * ((p_oper (prs_ txt len d) txt len (txt at_) 2 at_).2 - at_)) (n := 16 * ((p_oper (prs_ txt len d) txt len (txt at_) 2 at_).2 - at_)) (by omega) (by omega) ?_
      exact xw_aret F hr hlk hh (x := z151) rfl u rfl hp151 hX d_Rd_readPattern_154
    have eR : prs_ txt len (d + 1) at_ = p_leaf d (txt at_) at_ := by
      rw [prs_s]
      unfold p_step
      rw [if_neg (by omega), if_neg (by omega), if_neg (by omega)]
      rfl
    rw [eR]
    refine lv_lookup (off := 125) (tgt := 155) hx hb d_Rd_readPattern_30 (by decide) (by
      rw [xi_toInt (by omega)]
      show Op.lookupswitch.offset [(60, 91), (69, 109), (70, 109), (76, 109), (82, 109), (83, 109), (86, 117), (91, 82), (123, 100)] _ _ = _
      rw [Op.lookupswitch.offset_cons, if_neg (by omega), Op.lookupswitch.offset_cons, if_neg (by omega), Op.lookupswitch.offset_cons, if_neg (by omega), Op.lookupswitch.offset_cons, if_neg (by omega), Op.lookupswitch.offset_cons, if_neg (by omega), Op.lookupswitch.offset_cons, if_neg (by omega), Op.lookupswitch.offset_cons, if_neg (by omega), Op.lookupswitch.offset_cons, if_neg (by omega), Op.lookupswitch.offset_cons, if_neg (by omega)]
      rfl) (by decide) ?_
    refine lv_aload_n hx hb d_Rd_readPattern_155 rfl (lv_at hl 1 rfl) ?_
    refine lv_iload_n hx hb d_Rd_readPattern_156 rfl (lv_at hl 0 rfl) ?_
    refine xw_ca (wc := [(rd, .inr (2, [.ref ta, .int (xi_ (len : Int)), .int (xi_ (at_ : Int)), .int (xi_ gr)])), (ta, .inl (G.2.2 2, 40, .inl (ja_ txt)))]) (wr := []) hh [0, 1] [] rfl rfl rfl (by decide) (xw_rV F hh [0, 1] rfl rfl (c_Rd_readLetterOrRest l G s.heap.size rd ta txt len at_ gr d (txt at_) (by omega) ⟨hlen.1, by omega⟩ htx hgr) trivial lk_Rd_43 cd_Rd_readLetterOrRest se_Rd_readLetterOrRest _ hh.1 0 rfl rfl rfl rfl ⟨by unfold rm_Rd_readLetterOrRest rm_Rd_readPattern; (try dsimp only); omega, by unfold rm_Rd_readLetterOrRest rm_Rd_readPattern; (try dsimp only); omega⟩ rfl hl.1 rfl (Nat.le_of_ble_eq_true rfl) d_Rd_readPattern_157 ⟨Nat.le_of_eq (Nat.zero_add _), Nat.le_of_eq (Nat.zero_add _)⟩) (fun z157 u H locs hp157 hX hz hk hh => ?_)
    have hh : xw_H G (va_A [(rd, .inr (2, [.ref ta, .int (xi_ (len : Int)), .int (xi_ (at_ : Int)), .int (xi_ gr)])), (ta, .inl (G.2.2 2, 40, .inl (ja_ txt)))] s.heap.size) s.heap H locs [(rd, .inr (2, [.ref ta, .int (xi_ (len : Int)), .int (xi_ ((p_leaf d (txt at_) at_).2 : Int)), .int (xi_ u)])), (ta, .inl (G.2.2 2, 40, .inl (ja_ txt)))] := hh
    refine W.widen (k := 2 * ((p_leaf d (txt at_) at_).2 - at_)) (n := 16 * ((p_leaf d (txt at_) at_).2 - at_)) (by omega) (by omega) ?_
    exact xw_aret F hr hlk hh (x := z157) rfl u rfl hp157 hX d_Rd_readPattern_160
set_option maxHeartbeats 4000000 in
set_option maxRecDepth 100000 in
theorem c_Rd_readPattern_0 (l : Launch) (G : GG_) (sz : Nat) (rd ta : Nat) (txt : Nat → Int) (len at_ : Nat) (gr : Int)  (hlen : len ≤ 40 ∧ at_ ≤ len) (htx : ∀ j : Nat, 0 ≤ txt j ∧ txt j ≤ 65535) (hgr : 1 ≤ gr ∧ gr ≤ 45360) : Met l y_Rd_readPattern (cw_ y_Rd_readPattern b_Rd_readPattern 3 (some (.object "CyclePatterns$Node"))) (rm_Rd_readPattern 0 ((prs_ txt len 0 at_).2 - at_)) (xw_P G [.ref rd, .int (xi_ (41 - ((0 : Nat) : Int)))] sz [(rd, .inr (2, [.ref ta, .int (xi_ (len : Int)), .int (xi_ (at_ : Int)), .int (xi_ gr)])), (ta, .inl (G.2.2 2, 40, .inl (ja_ txt)))] (fun _ => True)) (xw_Qa (S := Int) G sz [(rd, .inr (2, [.ref ta, .int (xi_ (len : Int)), .int (xi_ (at_ : Int)), .int (xi_ gr)])), (ta, .inl (G.2.2 2, 40, .inl (ja_ txt)))] (fun x u => rp_ok (prs_ txt len 0 at_) gr x u) (fun u => [(rd, .inr (2, [.ref ta, .int (xi_ (len : Int)), .int (xi_ ((prs_ txt len 0 at_).2 : Int)), .int (xi_ u)])), (ta, .inl (G.2.2 2, 40, .inl (ja_ txt)))]) (fun x _ H => rp_nt G sz (prs_ txt len 0 at_) x H)) (2 * ((prs_ txt len 0 at_).2 - at_)) (16 * ((prs_ txt len 0 at_).2 - at_)) (va_A [(rd, .inr (2, [.ref ta, .int (xi_ (len : Int)), .int (xi_ (at_ : Int)), .int (xi_ gr)])), (ta, .inl (G.2.2 2, 40, .inl (ja_ txt)))] sz) := by
  refine xw_met (by decide) (Nat.le_of_ble_eq_true rfl) ?_
  intro p0 e0 s m0 args below meth c0 F hr hlk hin hsz hh hX ls hl
  subst hsz
  have hx := F.1
  have hb := F.2.1
  have hl : lv_has ls 3 [(0, .ref rd), (1, .int (xi_ (41 - ((0 : Nat) : Int))))] := hl
  refine lv_aload_n hx hb d_Rd_readPattern_0 rfl (lv_at hl 0 rfl) ?_
  refine xw_get F hh.1 (v := .int (xi_ (at_ : Int))) fl_Rd_25_2 0 rfl rfl d_Rd_readPattern_1 ?_
  refine lv_aload_n hx hb d_Rd_readPattern_4 rfl (lv_at hl 0 rfl) ?_
  refine xw_get F hh.1 (v := .int (xi_ (len : Int))) fl_Rd_21_2 0 rfl rfl d_Rd_readPattern_5 ?_
  refine xw_icmp_ge hx hb 17 d_Rd_readPattern_8 (by decide) (by omega) (fun c8 => ?_) (fun c8 => ?_)
  · refine lv_null hx hb d_Rd_readPattern_17 ?_
    have eR : prs_ txt len 0 at_ = (none, at_) := rfl
    rw [eR]
    refine W.widen (k := 2 * (at_ - at_)) (n := 16 * (at_ - at_)) (by omega) (by omega) ?_
    exact xw_aret F hr hlk hh (x := none) rfl gr rfl ⟨fun _ => rfl, hgr, fun T h => (by cases h)⟩ (fun T h => (by cases h)) d_Rd_readPattern_18
  · refine lv_iload_n hx hb d_Rd_readPattern_11 rfl (lv_at hl 1 rfl) ?_
    refine lv_bipush (v := xi_ 40) hx hb d_Rd_readPattern_12 (by decide) ?_
    refine xw_icmp_le hx hb 19 d_Rd_readPattern_14 (by decide) (by omega) (fun c14 => absurd c14 (by omega)) (fun c14 => ?_)
    refine lv_null hx hb d_Rd_readPattern_17 ?_
    have eR : prs_ txt len 0 at_ = (none, at_) := rfl
    rw [eR]
    refine W.widen (k := 2 * (at_ - at_)) (n := 16 * (at_ - at_)) (by omega) (by omega) ?_
    exact xw_aret F hr hlk hh (x := none) rfl gr rfl ⟨fun _ => rfl, hgr, fun T h => (by cases h)⟩ (fun T h => (by cases h)) d_Rd_readPattern_18
theorem read_all (l : Launch) (G : GG_) : ∀ d : Nat, cwp_ l G d := by
  intro d
  induction d with
  | zero => exact fun sz rd ta txt len at_ gr h1 h2 h3 _ => c_Rd_readPattern_0 l G sz rd ta txt len at_ gr h1 h2 h3
  | succ d ih => exact fun sz rd ta txt len at_ gr h1 h2 h3 h4 => c_Rd_readPattern_s l G sz rd ta txt len at_ gr d ih h4 h1 h2 h3
/-- a whole text as a pattern, and where the reading ended -/
def rd_R (txt : Nat → Int) (len : Nat) : Option (PT 40) × Nat := (if (prs_ txt len 40 0).2 = len then (prs_ txt len 40 0).1 else none, (prs_ txt len 40 0).2)
def rm_Rd_read : Room := { frames := 131, cells := 80, slots := 640, locals := 2630 }
set_option maxHeartbeats 4000000 in
set_option maxRecDepth 100000 in
theorem c_Rd_read (l : Launch) (G : GG_) (sz : Nat) (rd ta : Nat) (txt : Nat → Int) (len : Nat) (at0 g0 : Int) (hlen : len ≤ 40) (htx : ∀ j : Nat, 0 ≤ txt j ∧ txt j ≤ 65535) : Met l y_Rd_read (cw_ y_Rd_read b_Rd_read 2 (some (.object "CyclePatterns$Node"))) rm_Rd_read (xw_P G [.ref rd] sz [(rd, .inr (2, [.ref ta, .int (xi_ (len : Int)), .int (xi_ at0), .int (xi_ g0)])), (ta, .inl (G.2.2 2, 40, .inl (ja_ txt)))] (fun _ => True)) (xw_Qa (S := Int) G sz [(rd, .inr (2, [.ref ta, .int (xi_ (len : Int)), .int (xi_ at0), .int (xi_ g0)])), (ta, .inl (G.2.2 2, 40, .inl (ja_ txt)))] (fun x u => rp_ok (rd_R txt len) 1 x u) (fun u => [(rd, .inr (2, [.ref ta, .int (xi_ (len : Int)), .int (xi_ ((rd_R txt len).2 : Int)), .int (xi_ u)])), (ta, .inl (G.2.2 2, 40, .inl (ja_ txt)))]) (fun x _ H => rp_nt G sz (rd_R txt len) x H)) 80 640 (va_A [(rd, .inr (2, [.ref ta, .int (xi_ (len : Int)), .int (xi_ at0), .int (xi_ g0)])), (ta, .inl (G.2.2 2, 40, .inl (ja_ txt)))] sz) := by
  refine xw_met (by decide) (Nat.le_of_ble_eq_true rfl) ?_
  intro p0 e0 s m0 args below meth c0 F hr hlk hin hsz hh hX ls hl
  subst hsz
  have hx := F.1
  have hb := F.2.1
  have hl : lv_has ls 2 [(0, .ref rd)] := hl
  refine lv_aload_n hx hb d_Rd_read_0 rfl (lv_at hl 0 rfl) ?_
  refine lv_iconst (v := xi_ 0) hx hb d_Rd_read_1 rfl ?_
  refine xw_put F hh fp_Rd_25_2 0 rfl rfl rfl (Nat.le_of_ble_eq_true rfl) d_Rd_read_2 (fun H locs hh => ?_)
  have hh : xw_H G (va_A [(rd, .inr (2, [.ref ta, .int (xi_ (len : Int)), .int (xi_ at0), .int (xi_ g0)])), (ta, .inl (G.2.2 2, 40, .inl (ja_ txt)))] s.heap.size) s.heap H locs [(rd, .inr (2, [.ref ta, .int (xi_ (len : Int)), .int (xi_ 0), .int (xi_ g0)])), (ta, .inl (G.2.2 2, 40, .inl (ja_ txt)))] := hh
  refine lv_aload_n hx hb d_Rd_read_5 rfl (lv_at hl 0 rfl) ?_
  refine lv_iconst (v := xi_ 1) hx hb d_Rd_read_6 rfl ?_
  refine xw_put F hh fp_Rd_28_2 0 rfl rfl rfl (Nat.le_of_ble_eq_true rfl) d_Rd_read_7 (fun H locs hh => ?_)
  have hh : xw_H G (va_A [(rd, .inr (2, [.ref ta, .int (xi_ (len : Int)), .int (xi_ at0), .int (xi_ g0)])), (ta, .inl (G.2.2 2, 40, .inl (ja_ txt)))] s.heap.size) s.heap H locs [(rd, .inr (2, [.ref ta, .int (xi_ (len : Int)), .int (xi_ 0), .int (xi_ 1)])), (ta, .inl (G.2.2 2, 40, .inl (ja_ txt)))] := hh
  refine lv_aload_n hx hb d_Rd_read_10 rfl (lv_at hl 0 rfl) ?_
  refine lv_iconst (v := xi_ 1) hx hb d_Rd_read_11 rfl ?_
  have hle := prs_le txt len 40 0 (Nat.zero_le _)
  have hszs := hh.2.2.1.1
  refine xw_topi (y := 41 - ((40 : Nat) : Int)) (by omega) ?_
  refine xw_ca (wc := [(rd, .inr (2, [.ref ta, .int (xi_ (len : Int)), .int (xi_ 0), .int (xi_ 1)])), (ta, .inl (G.2.2 2, 40, .inl (ja_ txt)))]) (wr := []) hh [0, 1] [] rfl rfl rfl (by decide) (xw_rV F hh [0, 1] rfl rfl (read_all l G 40 H.size rd ta txt len 0 1 ⟨hlen, Nat.zero_le _⟩ htx (by omega) (by omega)) trivial lk_Rd_31 cd_Rd_readPattern se_Rd_readPattern _ hh.1 0 rfl rfl rfl rfl ⟨by unfold rm_Rd_readPattern rm_Rd_read; (try dsimp only); omega, by unfold rm_Rd_readPattern rm_Rd_read; (try dsimp only); omega⟩ rfl hl.1 rfl (Nat.le_of_ble_eq_true rfl) d_Rd_read_12 ⟨by unfold rm_Rd_read; (try dsimp only); omega, by unfold rm_Rd_read; (try dsimp only); omega⟩) (fun z12 u H locs hp12 hX hz hk hh => ?_)
  have hh : xw_H G (va_A [(rd, .inr (2, [.ref ta, .int (xi_ (len : Int)), .int (xi_ at0), .int (xi_ g0)])), (ta, .inl (G.2.2 2, 40, .inl (ja_ txt)))] s.heap.size) s.heap H locs [(rd, .inr (2, [.ref ta, .int (xi_ (len : Int)), .int (xi_ ((prs_ txt len 40 0).2 : Int)), .int (xi_ u)])), (ta, .inl (G.2.2 2, 40, .inl (ja_ txt)))] := hh
  obtain ⟨hpn, hpu, hpg⟩ := hp12
  rcases z12 with _ | b12
  · refine xw_topn rfl ?_
    refine lv_astore_nN (lv' := [(1, .null), (0, .ref rd)]) hx hb d_Rd_read_15 rfl hl (by decide) rfl (fun ls hl => ?_)
    refine lv_aload_n hx hb d_Rd_read_16 rfl (lv_at hl 1 rfl) ?_
    refine xw_get F hh.1 (v := .int (xi_ ((prs_ txt len 40 0).2 : Int))) fl_Rd_25_2 0 rfl rfl d_Rd_read_17 ?_
    refine lv_aload_n hx hb d_Rd_read_20 rfl (lv_at hl 1 rfl) ?_
    refine xw_get F hh.1 (v := .int (xi_ (len : Int))) fl_Rd_21_2 0 rfl rfl d_Rd_read_21 ?_
    refine xw_icmp_ne hx hb 31 d_Rd_read_24 (by decide) (by omega) (fun c24 => ?_) (fun c24 => ?_)
    · refine lv_null hx hb d_Rd_read_31 ?_
      refine W.widen (k := 80) (n := 640) (by omega) (by omega) ?_
      skip
      by_cases hlR : (prs_ txt len 40 0).2 = len
      · have eR : (rd_R txt len) = prs_ txt len 40 0 := by
          unfold rd_R
          rw [if_pos hlR]
        skip
        first
        | exact absurd hlR (by omega)
        | rw [eR]; exact xw_aret F hr hlk hh (x := none) rfl u rfl ⟨hpn, hpu, hpg⟩ (fun T h => by
            obtain ⟨a, h1, h2⟩ := hX T h
            exact ⟨a, h1, nt_weaken (fun q h3 _ => Nat.le_trans hszs h3) h2⟩) d_Rd_read_32
      · have eR : (rd_R txt len) = (none, (prs_ txt len 40 0).2) := by
          unfold rd_R
          rw [if_neg hlR]
        rw [eR]
        first
        | exact absurd (show (prs_ txt len 40 0).2 = len by omega) hlR
        | exact xw_aret F hr hlk hh (x := none) rfl u rfl ⟨fun _ => rfl, hpu, fun T h => (by cases h)⟩ (fun T h => (by cases h)) d_Rd_read_32
    · refine lv_aload_nN hx hb d_Rd_read_27 rfl (lv_at hl 0 rfl) ?_
      refine lv_goto (tgt := 32) hx hb d_Rd_read_28 (by decide) ?_
      refine W.widen (k := 80) (n := 640) (by omega) (by omega) ?_
      skip
      by_cases hlR : (prs_ txt len 40 0).2 = len
      · have eR : (rd_R txt len) = prs_ txt len 40 0 := by
          unfold rd_R
          rw [if_pos hlR]
        skip
        first
        | exact absurd hlR (by omega)
        | rw [eR]; exact xw_aret F hr hlk hh (x := none) rfl u rfl ⟨hpn, hpu, hpg⟩ (fun T h => by
            obtain ⟨a, h1, h2⟩ := hX T h
            exact ⟨a, h1, nt_weaken (fun q h3 _ => Nat.le_trans hszs h3) h2⟩) d_Rd_read_32
      · have eR : (rd_R txt len) = (none, (prs_ txt len 40 0).2) := by
          unfold rd_R
          rw [if_neg hlR]
        rw [eR]
        first
        | exact absurd (show (prs_ txt len 40 0).2 = len by omega) hlR
        | exact xw_aret F hr hlk hh (x := none) rfl u rfl ⟨fun _ => rfl, hpu, fun T h => (by cases h)⟩ (fun T h => (by cases h)) d_Rd_read_32
  · refine xw_topr rfl ?_
    refine lv_astore_n (lv' := [(1, .ref b12), (0, .ref rd)]) hx hb d_Rd_read_15 rfl hl (by decide) rfl (fun ls hl => ?_)
    refine lv_aload_n hx hb d_Rd_read_16 rfl (lv_at hl 1 rfl) ?_
    refine xw_get F hh.1 (v := .int (xi_ ((prs_ txt len 40 0).2 : Int))) fl_Rd_25_2 0 rfl rfl d_Rd_read_17 ?_
    refine lv_aload_n hx hb d_Rd_read_20 rfl (lv_at hl 1 rfl) ?_
    refine xw_get F hh.1 (v := .int (xi_ (len : Int))) fl_Rd_21_2 0 rfl rfl d_Rd_read_21 ?_
    refine xw_icmp_ne hx hb 31 d_Rd_read_24 (by decide) (by omega) (fun c24 => ?_) (fun c24 => ?_)
    · refine lv_null hx hb d_Rd_read_31 ?_
      refine W.widen (k := 80) (n := 640) (by omega) (by omega) ?_
      skip
      by_cases hlR : (prs_ txt len 40 0).2 = len
      · have eR : (rd_R txt len) = prs_ txt len 40 0 := by
          unfold rd_R
          rw [if_pos hlR]
        skip
        first
        | exact absurd hlR (by omega)
        | rw [eR]; exact xw_aret F hr hlk hh (x := none) rfl u rfl ⟨hpn, hpu, hpg⟩ (fun T h => by
            obtain ⟨a, h1, h2⟩ := hX T h
            exact ⟨a, h1, nt_weaken (fun q h3 _ => Nat.le_trans hszs h3) h2⟩) d_Rd_read_32
      · have eR : (rd_R txt len) = (none, (prs_ txt len 40 0).2) := by
          unfold rd_R
          rw [if_neg hlR]
        rw [eR]
        first
        | exact absurd (show (prs_ txt len 40 0).2 = len by omega) hlR
        | exact xw_aret F hr hlk hh (x := none) rfl u rfl ⟨fun _ => rfl, hpu, fun T h => (by cases h)⟩ (fun T h => (by cases h)) d_Rd_read_32
    · refine lv_aload_n hx hb d_Rd_read_27 rfl (lv_at hl 0 rfl) ?_
      refine lv_goto (tgt := 32) hx hb d_Rd_read_28 (by decide) ?_
      refine W.widen (k := 80) (n := 640) (by omega) (by omega) ?_
      skip
      by_cases hlR : (prs_ txt len 40 0).2 = len
      · have eR : (rd_R txt len) = prs_ txt len 40 0 := by
          unfold rd_R
          rw [if_pos hlR]
        skip
        first
        | exact absurd hlR (by omega)
        | rw [eR]; exact xw_aret F hr hlk hh (x := some b12) rfl u rfl ⟨hpn, hpu, hpg⟩ (fun T h => by
            obtain ⟨a, h1, h2⟩ := hX T h
            exact ⟨a, h1, nt_weaken (fun q h3 _ => Nat.le_trans hszs h3) h2⟩) d_Rd_read_32
      · have eR : (rd_R txt len) = (none, (prs_ txt len 40 0).2) := by
          unfold rd_R
          rw [if_neg hlR]
        rw [eR]
        first
        | exact absurd (show (prs_ txt len 40 0).2 = len by omega) hlR
        | exact xw_aret F hr hlk hh (x := some b12) rfl u rfl ⟨fun _ => rfl, hpu, fun T h => (by cases h)⟩ (fun T h => (by cases h)) d_Rd_read_32
