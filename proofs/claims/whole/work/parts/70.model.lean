/-! the model: hasDigits -/
/-- a sign that has the same digits as the kind -/
def ks_ (k : Int) : Int := if k = 4 ∨ k = 5 ∨ k = 8 then 70 else if k = 6 then 76 else if k = 9 then 69 else 82
def rm_M_hasDigits : Room := { frames := 1, cells := 0, slots := 0, locals := 23 }
set_option maxHeartbeats 4000000 in
set_option maxRecDepth 100000 in
theorem c_M_hasDigits (l : Launch) (G : GG_) (sz : Nat) (mo : Nat) (ma : Nat → Nat) (dp wy un pl sp pe tk du tm : Int) (bf kn on tw th : Nat → Int) (len a : Nat) (hla : len ≤ 40 ∧ a ≤ len) (hbf : ∀ j : Nat, 0 ≤ bf j ∧ bf j ≤ 65535) (t k : Int) (ht : 0 ≤ t ∧ t < 48) (hk9 : kn (384 + t).toNat = k ∧ 0 ≤ k ∧ k ≤ 10) : Met l y_M_hasDigits (cw_ y_M_hasDigits b_M_hasDigits 3 (some .boolean)) rm_M_hasDigits (xw_P G [.ref mo, .int (xi_ t)] sz [(mo, .inr (6, mo_ ma (len : Int) (a : Int) dp wy un pl sp pe tk du tm)), (ma 1, .inl (G.2.2 0, 40, .inl (ja_ bf))), (ma 3, .inl (G.2.2 0, 432, .inl (ja_ kn))), (ma 4, .inl (G.2.2 0, 432, .inl (ja_ on))), (ma 5, .inl (G.2.2 0, 432, .inl (ja_ tw))), (ma 6, .inl (G.2.2 0, 432, .inl (ja_ th)))] (fun _ => True)) (xw_Qi (S := (Nat → Int) × (Nat → Int) × (Nat → Int)) G sz [(mo, .inr (6, mo_ ma (len : Int) (a : Int) dp wy un pl sp pe tk du tm)), (ma 1, .inl (G.2.2 0, 40, .inl (ja_ bf))), (ma 3, .inl (G.2.2 0, 432, .inl (ja_ kn))), (ma 4, .inl (G.2.2 0, 432, .inl (ja_ on))), (ma 5, .inl (G.2.2 0, 432, .inl (ja_ tw))), (ma 6, .inl (G.2.2 0, 432, .inl (ja_ th)))] (fun z u => z = b2_ ((p_digs bf len (ks_ k) a).1.isSome) ∧ (∀ j : Nat, j ≠ (384 + t).toNat → u.1 j = on j ∧ u.2.1 j = tw j ∧ u.2.2 j = th j) ∧ ∀ kk nn rr, (p_digs bf len (ks_ k) a).1 = some (kk, nn, rr) → ((k = 4 ∨ k = 5 ∨ k = 8 ∨ k = 6 ∨ k = 9) → u.1 (384 + t).toNat = kk) ∧ ((k = 6 ∨ k = 9) → u.2.1 (384 + t).toNat = nn) ∧ (k = 9 → u.2.2 (384 + t).toNat = rr) ∧ (¬ (k = 4 ∨ k = 5 ∨ k = 8 ∨ k = 6 ∨ k = 9) → u.1 = on)) (fun u => [(mo, .inr (6, mo_ ma (len : Int) ((p_digs bf len (ks_ k) a).2 : Int) dp wy un pl sp pe tk du tm)), (ma 1, .inl (G.2.2 0, 40, .inl (ja_ bf))), (ma 3, .inl (G.2.2 0, 432, .inl (ja_ kn))), (ma 4, .inl (G.2.2 0, 432, .inl (ja_ u.1))), (ma 5, .inl (G.2.2 0, 432, .inl (ja_ u.2.1))), (ma 6, .inl (G.2.2 0, 432, .inl (ja_ u.2.2)))]) (fun _ _ => True)) 0 0 (va_A [(mo, .inr (6, mo_ ma (len : Int) (a : Int) dp wy un pl sp pe tk du tm)), (ma 1, .inl (G.2.2 0, 40, .inl (ja_ bf))), (ma 3, .inl (G.2.2 0, 432, .inl (ja_ kn))), (ma 4, .inl (G.2.2 0, 432, .inl (ja_ on))), (ma 5, .inl (G.2.2 0, 432, .inl (ja_ tw))), (ma 6, .inl (G.2.2 0, 432, .inl (ja_ th)))] sz) := by
  refine xw_met (by decide) (Nat.le_of_ble_eq_true rfl) ?_
  intro p0 e0 s m0 args below meth c0 F hr hlk hin hsz hh hX ls hl
  subst hsz
  have hx := F.1
  have hb := F.2.1
  have hl : lv_has ls 3 [(0, .ref mo), (1, .int (xi_ t))] := hl
  refine lv_aload_n hx hb d_M_hasDigits_0 rfl (lv_at hl 0 rfl) ?_
  refine xw_get F hh.1 (v := .ref (ma 3)) fl_M_13_6 0 rfl rfl d_M_hasDigits_1 ?_
  refine lv_sipush (v := xi_ 384) hx hb d_M_hasDigits_4 (by decide) ?_
  refine lv_iload_n hx hb d_M_hasDigits_7 rfl (lv_at hl 1 rfl) ?_
  refine xw_iadd hx hb d_M_hasDigits_8 ?_
  refine xw_iald F hh.1 2 (f := kn) rfl (i := 384 + t) (by omega) d_M_hasDigits_9 ?_
  refine xw_topi (y := k) hk9.1 ?_
  refine lv_istore_n (lv' := [(2, .int (xi_ k)), (0, .ref mo), (1, .int (xi_ t))]) hx hb d_M_hasDigits_10 rfl hl (by decide) rfl (fun ls hl => ?_)
  refine lv_iload_n hx hb d_M_hasDigits_11 rfl (lv_at hl 0 rfl) ?_
  refine lv_iconst (v := xi_ 4) hx hb d_M_hasDigits_12 rfl ?_
  refine xw_icmp_eq hx hb 27 d_M_hasDigits_13 (by decide) (by omega) (fun c13 => ?_) (fun c13 => ?_)
  · refine lv_aload_n hx hb d_M_hasDigits_27 rfl (lv_at hl 1 rfl) ?_
    refine xw_get F hh.1 (v := .ref (ma 4)) fl_M_16_6 0 rfl rfl d_M_hasDigits_28 ?_
    refine lv_sipush (v := xi_ 384) hx hb d_M_hasDigits_31 (by decide) ?_
    refine lv_iload_n hx hb d_M_hasDigits_34 rfl (lv_at hl 2 rfl) ?_
    refine xw_iadd hx hb d_M_hasDigits_35 ?_
    refine lv_aload_n hx hb d_M_hasDigits_36 rfl (lv_at hl 1 rfl) ?_
    refine lv_iconst (v := xi_ 1) hx hb d_M_hasDigits_37 rfl ?_
    refine lv_bipush (v := xi_ 9) hx hb d_M_hasDigits_38 (by decide) ?_
    refine xw_ci (wc := [(mo, .inr (6, mo_ ma (len : Int) (a : Int) dp wy un pl sp pe tk du tm)), (ma 1, .inl (G.2.2 0, 40, .inl (ja_ bf)))]) (wr := [(ma 3, .inl (G.2.2 0, 432, .inl (ja_ kn))), (ma 4, .inl (G.2.2 0, 432, .inl (ja_ on))), (ma 5, .inl (G.2.2 0, 432, .inl (ja_ tw))), (ma 6, .inl (G.2.2 0, 432, .inl (ja_ th)))]) hh [0, 1] [2, 3, 4, 5] rfl rfl rfl (by decide) (xw_rV F hh [0, 1] rfl rfl (c_M_digit l G s.heap.size mo ma dp wy un pl sp pe tk du tm bf len a ⟨hla.1, by omega⟩ hbf 1 9 (by omega)) trivial lk_M_133 cd_M_digit se_M_digit _ hh.1 0 rfl rfl rfl rfl ⟨by decide, by decide⟩ rfl hl.1 rfl (Nat.le_of_ble_eq_true rfl) d_M_hasDigits_40 ⟨Nat.le_of_ble_eq_true rfl, Nat.le_of_ble_eq_true rfl⟩) (fun z40 u_ H locs hp40 hX hz hk hh => ?_)
    have hh : xw_H G (va_A [(mo, .inr (6, mo_ ma (len : Int) (a : Int) dp wy un pl sp pe tk du tm)), (ma 1, .inl (G.2.2 0, 40, .inl (ja_ bf))), (ma 3, .inl (G.2.2 0, 432, .inl (ja_ kn))), (ma 4, .inl (G.2.2 0, 432, .inl (ja_ on))), (ma 5, .inl (G.2.2 0, 432, .inl (ja_ tw))), (ma 6, .inl (G.2.2 0, 432, .inl (ja_ th)))] s.heap.size) s.heap H locs [(mo, .inr (6, mo_ ma (len : Int) ((p_dig bf len 1 a).2 : Int) dp wy un pl sp pe tk du tm)), (ma 1, .inl (G.2.2 0, 40, .inl (ja_ bf))), (ma 3, .inl (G.2.2 0, 432, .inl (ja_ kn))), (ma 4, .inl (G.2.2 0, 432, .inl (ja_ on))), (ma 5, .inl (G.2.2 0, 432, .inl (ja_ tw))), (ma 6, .inl (G.2.2 0, 432, .inl (ja_ th)))] := xw_H.sub hh [4, 5, 0, 1, 2, 3] rfl rfl
    have hdg40 := p_dig_rng (tx := bf) (len := len) (low := 1) (at_ := a)
    have hdl40 := p_dig_le (tx := bf) (len := len) (low := 1) (at_ := a) (by omega)
    have hp40 : z40 = (p_dig bf len 1 a).1.getD (-1) := hp40
    obtain ⟨P40, hP40⟩ : ∃ P, P = p_dig bf len 1 a := ⟨_, rfl⟩
    rw [← hP40] at hh hp40 hdg40 hdl40
    rcases P40 with ⟨_ | k40, a40⟩
    · have hh : xw_H G (va_A [(mo, .inr (6, mo_ ma (len : Int) (a : Int) dp wy un pl sp pe tk du tm)), (ma 1, .inl (G.2.2 0, 40, .inl (ja_ bf))), (ma 3, .inl (G.2.2 0, 432, .inl (ja_ kn))), (ma 4, .inl (G.2.2 0, 432, .inl (ja_ on))), (ma 5, .inl (G.2.2 0, 432, .inl (ja_ tw))), (ma 6, .inl (G.2.2 0, 432, .inl (ja_ th)))] s.heap.size) s.heap H locs [(mo, .inr (6, mo_ ma (len : Int) (a40 : Int) dp wy un pl sp pe tk du tm)), (ma 1, .inl (G.2.2 0, 40, .inl (ja_ bf))), (ma 3, .inl (G.2.2 0, 432, .inl (ja_ kn))), (ma 4, .inl (G.2.2 0, 432, .inl (ja_ on))), (ma 5, .inl (G.2.2 0, 432, .inl (ja_ tw))), (ma 6, .inl (G.2.2 0, 432, .inl (ja_ th)))] := hh
      refine xw_topi (y := (-1)) hp40 ?_
      refine xw_iast F hh 3 (f := on) rfl (i := 384 + t) (x := (-1)) (by omega) d_M_hasDigits_43 (fun H locs hh => ?_)
      have hh : xw_H G (va_A [(mo, .inr (6, mo_ ma (len : Int) (a : Int) dp wy un pl sp pe tk du tm)), (ma 1, .inl (G.2.2 0, 40, .inl (ja_ bf))), (ma 3, .inl (G.2.2 0, 432, .inl (ja_ kn))), (ma 4, .inl (G.2.2 0, 432, .inl (ja_ on))), (ma 5, .inl (G.2.2 0, 432, .inl (ja_ tw))), (ma 6, .inl (G.2.2 0, 432, .inl (ja_ th)))] s.heap.size) s.heap H locs [(mo, .inr (6, mo_ ma (len : Int) (a40 : Int) dp wy un pl sp pe tk du tm)), (ma 1, .inl (G.2.2 0, 40, .inl (ja_ bf))), (ma 3, .inl (G.2.2 0, 432, .inl (ja_ kn))), (ma 4, .inl (G.2.2 0, 432, .inl (ja_ (va_up on (384 + t).toNat (-1))))), (ma 5, .inl (G.2.2 0, 432, .inl (ja_ tw))), (ma 6, .inl (G.2.2 0, 432, .inl (ja_ th)))] := hh
      refine lv_aload_n hx hb d_M_hasDigits_44 rfl (lv_at hl 1 rfl) ?_
      refine xw_get F hh.1 (v := .ref (ma 4)) fl_M_16_6 0 rfl rfl d_M_hasDigits_45 ?_
      refine lv_sipush (v := xi_ 384) hx hb d_M_hasDigits_48 (by decide) ?_
      refine lv_iload_n hx hb d_M_hasDigits_51 rfl (lv_at hl 2 rfl) ?_
      refine xw_iadd hx hb d_M_hasDigits_52 ?_
      refine xw_iald F hh.1 3 (f := va_up on (384 + t).toNat (-1)) rfl (i := 384 + t) (by omega) d_M_hasDigits_53 ?_
      refine xw_topi (y := (-1)) (by unfold va_up; rw [if_pos rfl]) ?_
      refine xw_if_le hx hb 61 d_M_hasDigits_54 (by decide) (by decide) (fun c54 => ?_) (fun c54 => absurd c54 (by decide))
      refine lv_iconst (v := xi_ 0) hx hb d_M_hasDigits_61 rfl ?_
      have eR : (p_digs bf len (ks_ k) a) = (none, a40) := by
        have ek : ks_ k = 70 := by
          unfold ks_
          rw [if_pos (by omega)]
        rw [ek]
        unfold p_digs
        rw [if_pos (Or.inl rfl)]
        rw [← hP40]
        (try dsimp only)
      rw [eR]
      have hB : ∀ j : Nat, j ≠ (384 + t).toNat → (va_up on (384 + t).toNat (-1)) j = on j ∧ (tw) j = tw j ∧ (th) j = th j := fun j hj => ⟨by unfold va_up; rw [if_neg hj], rfl, rfl⟩
      exact xw_iret F hr hlk hh (by decide) (va_up on (384 + t).toNat (-1), tw, th) rfl ⟨rfl, hB, fun kk nn rr h => by cases h⟩ trivial d_M_hasDigits_62
    · have hh : xw_H G (va_A [(mo, .inr (6, mo_ ma (len : Int) (a : Int) dp wy un pl sp pe tk du tm)), (ma 1, .inl (G.2.2 0, 40, .inl (ja_ bf))), (ma 3, .inl (G.2.2 0, 432, .inl (ja_ kn))), (ma 4, .inl (G.2.2 0, 432, .inl (ja_ on))), (ma 5, .inl (G.2.2 0, 432, .inl (ja_ tw))), (ma 6, .inl (G.2.2 0, 432, .inl (ja_ th)))] s.heap.size) s.heap H locs [(mo, .inr (6, mo_ ma (len : Int) (a40 : Int) dp wy un pl sp pe tk du tm)), (ma 1, .inl (G.2.2 0, 40, .inl (ja_ bf))), (ma 3, .inl (G.2.2 0, 432, .inl (ja_ kn))), (ma 4, .inl (G.2.2 0, 432, .inl (ja_ on))), (ma 5, .inl (G.2.2 0, 432, .inl (ja_ tw))), (ma 6, .inl (G.2.2 0, 432, .inl (ja_ th)))] := hh
      have hd40 := hdg40.2.2.2 k40 rfl
      refine xw_topi (y := k40) hp40 ?_
      refine xw_iast F hh 3 (f := on) rfl (i := 384 + t) (x := k40) (by omega) d_M_hasDigits_43 (fun H locs hh => ?_)
      have hh : xw_H G (va_A [(mo, .inr (6, mo_ ma (len : Int) (a : Int) dp wy un pl sp pe tk du tm)), (ma 1, .inl (G.2.2 0, 40, .inl (ja_ bf))), (ma 3, .inl (G.2.2 0, 432, .inl (ja_ kn))), (ma 4, .inl (G.2.2 0, 432, .inl (ja_ on))), (ma 5, .inl (G.2.2 0, 432, .inl (ja_ tw))), (ma 6, .inl (G.2.2 0, 432, .inl (ja_ th)))] s.heap.size) s.heap H locs [(mo, .inr (6, mo_ ma (len : Int) (a40 : Int) dp wy un pl sp pe tk du tm)), (ma 1, .inl (G.2.2 0, 40, .inl (ja_ bf))), (ma 3, .inl (G.2.2 0, 432, .inl (ja_ kn))), (ma 4, .inl (G.2.2 0, 432, .inl (ja_ (va_up on (384 + t).toNat k40)))), (ma 5, .inl (G.2.2 0, 432, .inl (ja_ tw))), (ma 6, .inl (G.2.2 0, 432, .inl (ja_ th)))] := hh
      refine lv_aload_n hx hb d_M_hasDigits_44 rfl (lv_at hl 1 rfl) ?_
      refine xw_get F hh.1 (v := .ref (ma 4)) fl_M_16_6 0 rfl rfl d_M_hasDigits_45 ?_
      refine lv_sipush (v := xi_ 384) hx hb d_M_hasDigits_48 (by decide) ?_
      refine lv_iload_n hx hb d_M_hasDigits_51 rfl (lv_at hl 2 rfl) ?_
      refine xw_iadd hx hb d_M_hasDigits_52 ?_
      refine xw_iald F hh.1 3 (f := va_up on (384 + t).toNat k40) rfl (i := 384 + t) (by omega) d_M_hasDigits_53 ?_
      refine xw_topi (y := k40) (by unfold va_up; rw [if_pos rfl]) ?_
      refine xw_if_le hx hb 61 d_M_hasDigits_54 (by decide) (by omega) (fun c54 => ?_) (fun c54 => ?_)
      · refine lv_iconst (v := xi_ 0) hx hb d_M_hasDigits_61 rfl ?_
        exfalso
        omega
      · refine lv_iconst (v := xi_ 1) hx hb d_M_hasDigits_57 rfl ?_
        refine lv_goto (tgt := 62) hx hb d_M_hasDigits_58 (by decide) ?_
        have eR : (p_digs bf len (ks_ k) a) = (some (k40, 1, 0), a40) := by
          have ek : ks_ k = 70 := by
            unfold ks_
            rw [if_pos (by omega)]
          rw [ek]
          unfold p_digs
          rw [if_pos (Or.inl rfl)]
          rw [← hP40]
          (try dsimp only)
        rw [eR]
        have hB : ∀ j : Nat, j ≠ (384 + t).toNat → (va_up on (384 + t).toNat k40) j = on j ∧ (tw) j = tw j ∧ (th) j = th j := fun j hj => ⟨by unfold va_up; rw [if_neg hj], rfl, rfl⟩
        exact xw_iret F hr hlk hh (by decide) (va_up on (384 + t).toNat k40, tw, th) rfl ⟨rfl, hB, fun kk nn rr h => by
          cases h
          exact ⟨fun h9 => (by
            (try dsimp only)
            first
            | (unfold va_up; rw [if_pos rfl])
            | omega), fun h9 => (by
            (try dsimp only)
            first
            | (unfold va_up; rw [if_pos rfl])
            | omega), fun h9 => (by
            (try dsimp only)
            first
            | (unfold va_up; rw [if_pos rfl])
            | omega), fun h9 => (by
            first
            | rfl
            | omega)⟩⟩ trivial d_M_hasDigits_62
  · refine lv_iload_n hx hb d_M_hasDigits_16 rfl (lv_at hl 0 rfl) ?_
    refine lv_iconst (v := xi_ 5) hx hb d_M_hasDigits_17 rfl ?_
    refine xw_icmp_eq hx hb 27 d_M_hasDigits_18 (by decide) (by omega) (fun c18 => ?_) (fun c18 => ?_)
    · refine lv_aload_n hx hb d_M_hasDigits_27 rfl (lv_at hl 1 rfl) ?_
      refine xw_get F hh.1 (v := .ref (ma 4)) fl_M_16_6 0 rfl rfl d_M_hasDigits_28 ?_
      refine lv_sipush (v := xi_ 384) hx hb d_M_hasDigits_31 (by decide) ?_
      refine lv_iload_n hx hb d_M_hasDigits_34 rfl (lv_at hl 2 rfl) ?_
      refine xw_iadd hx hb d_M_hasDigits_35 ?_
      refine lv_aload_n hx hb d_M_hasDigits_36 rfl (lv_at hl 1 rfl) ?_
      refine lv_iconst (v := xi_ 1) hx hb d_M_hasDigits_37 rfl ?_
      refine lv_bipush (v := xi_ 9) hx hb d_M_hasDigits_38 (by decide) ?_
      refine xw_ci (wc := [(mo, .inr (6, mo_ ma (len : Int) (a : Int) dp wy un pl sp pe tk du tm)), (ma 1, .inl (G.2.2 0, 40, .inl (ja_ bf)))]) (wr := [(ma 3, .inl (G.2.2 0, 432, .inl (ja_ kn))), (ma 4, .inl (G.2.2 0, 432, .inl (ja_ on))), (ma 5, .inl (G.2.2 0, 432, .inl (ja_ tw))), (ma 6, .inl (G.2.2 0, 432, .inl (ja_ th)))]) hh [0, 1] [2, 3, 4, 5] rfl rfl rfl (by decide) (xw_rV F hh [0, 1] rfl rfl (c_M_digit l G s.heap.size mo ma dp wy un pl sp pe tk du tm bf len a ⟨hla.1, by omega⟩ hbf 1 9 (by omega)) trivial lk_M_133 cd_M_digit se_M_digit _ hh.1 0 rfl rfl rfl rfl ⟨by decide, by decide⟩ rfl hl.1 rfl (Nat.le_of_ble_eq_true rfl) d_M_hasDigits_40 ⟨Nat.le_of_ble_eq_true rfl, Nat.le_of_ble_eq_true rfl⟩) (fun z40 u_ H locs hp40 hX hz hk hh => ?_)
      have hh : xw_H G (va_A [(mo, .inr (6, mo_ ma (len : Int) (a : Int) dp wy un pl sp pe tk du tm)), (ma 1, .inl (G.2.2 0, 40, .inl (ja_ bf))), (ma 3, .inl (G.2.2 0, 432, .inl (ja_ kn))), (ma 4, .inl (G.2.2 0, 432, .inl (ja_ on))), (ma 5, .inl (G.2.2 0, 432, .inl (ja_ tw))), (ma 6, .inl (G.2.2 0, 432, .inl (ja_ th)))] s.heap.size) s.heap H locs [(mo, .inr (6, mo_ ma (len : Int) ((p_dig bf len 1 a).2 : Int) dp wy un pl sp pe tk du tm)), (ma 1, .inl (G.2.2 0, 40, .inl (ja_ bf))), (ma 3, .inl (G.2.2 0, 432, .inl (ja_ kn))), (ma 4, .inl (G.2.2 0, 432, .inl (ja_ on))), (ma 5, .inl (G.2.2 0, 432, .inl (ja_ tw))), (ma 6, .inl (G.2.2 0, 432, .inl (ja_ th)))] := xw_H.sub hh [4, 5, 0, 1, 2, 3] rfl rfl
      have hdg40 := p_dig_rng (tx := bf) (len := len) (low := 1) (at_ := a)
      have hdl40 := p_dig_le (tx := bf) (len := len) (low := 1) (at_ := a) (by omega)
      have hp40 : z40 = (p_dig bf len 1 a).1.getD (-1) := hp40
      obtain ⟨P40, hP40⟩ : ∃ P, P = p_dig bf len 1 a := ⟨_, rfl⟩
      rw [← hP40] at hh hp40 hdg40 hdl40
      rcases P40 with ⟨_ | k40, a40⟩
      · have hh : xw_H G (va_A [(mo, .inr (6, mo_ ma (len : Int) (a : Int) dp wy un pl sp pe tk du tm)), (ma 1, .inl (G.2.2 0, 40, .inl (ja_ bf))), (ma 3, .inl (G.2.2 0, 432, .inl (ja_ kn))), (ma 4, .inl (G.2.2 0, 432, .inl (ja_ on))), (ma 5, .inl (G.2.2 0, 432, .inl (ja_ tw))), (ma 6, .inl (G.2.2 0, 432, .inl (ja_ th)))] s.heap.size) s.heap H locs [(mo, .inr (6, mo_ ma (len : Int) (a40 : Int) dp wy un pl sp pe tk du tm)), (ma 1, .inl (G.2.2 0, 40, .inl (ja_ bf))), (ma 3, .inl (G.2.2 0, 432, .inl (ja_ kn))), (ma 4, .inl (G.2.2 0, 432, .inl (ja_ on))), (ma 5, .inl (G.2.2 0, 432, .inl (ja_ tw))), (ma 6, .inl (G.2.2 0, 432, .inl (ja_ th)))] := hh
        refine xw_topi (y := (-1)) hp40 ?_
        refine xw_iast F hh 3 (f := on) rfl (i := 384 + t) (x := (-1)) (by omega) d_M_hasDigits_43 (fun H locs hh => ?_)
        have hh : xw_H G (va_A [(mo, .inr (6, mo_ ma (len : Int) (a : Int) dp wy un pl sp pe tk du tm)), (ma 1, .inl (G.2.2 0, 40, .inl (ja_ bf))), (ma 3, .inl (G.2.2 0, 432, .inl (ja_ kn))), (ma 4, .inl (G.2.2 0, 432, .inl (ja_ on))), (ma 5, .inl (G.2.2 0, 432, .inl (ja_ tw))), (ma 6, .inl (G.2.2 0, 432, .inl (ja_ th)))] s.heap.size) s.heap H locs [(mo, .inr (6, mo_ ma (len : Int) (a40 : Int) dp wy un pl sp pe tk du tm)), (ma 1, .inl (G.2.2 0, 40, .inl (ja_ bf))), (ma 3, .inl (G.2.2 0, 432, .inl (ja_ kn))), (ma 4, .inl (G.2.2 0, 432, .inl (ja_ (va_up on (384 + t).toNat (-1))))), (ma 5, .inl (G.2.2 0, 432, .inl (ja_ tw))), (ma 6, .inl (G.2.2 0, 432, .inl (ja_ th)))] := hh
        refine lv_aload_n hx hb d_M_hasDigits_44 rfl (lv_at hl 1 rfl) ?_
        refine xw_get F hh.1 (v := .ref (ma 4)) fl_M_16_6 0 rfl rfl d_M_hasDigits_45 ?_
        refine lv_sipush (v := xi_ 384) hx hb d_M_hasDigits_48 (by decide) ?_
        refine lv_iload_n hx hb d_M_hasDigits_51 rfl (lv_at hl 2 rfl) ?_
        refine xw_iadd hx hb d_M_hasDigits_52 ?_
        refine xw_iald F hh.1 3 (f := va_up on (384 + t).toNat (-1)) rfl (i := 384 + t) (by omega) d_M_hasDigits_53 ?_
        refine xw_topi (y := (-1)) (by unfold va_up; rw [if_pos rfl]) ?_
        refine xw_if_le hx hb 61 d_M_hasDigits_54 (by decide) (by decide) (fun c54 => ?_) (fun c54 => absurd c54 (by decide))
        refine lv_iconst (v := xi_ 0) hx hb d_M_hasDigits_61 rfl ?_
        have eR : (p_digs bf len (ks_ k) a) = (none, a40) := by
          have ek : ks_ k = 70 := by
            unfold ks_
            rw [if_pos (by omega)]
          rw [ek]
          unfold p_digs
          rw [if_pos (Or.inl rfl)]
          rw [← hP40]
          (try dsimp only)
        rw [eR]
        have hB : ∀ j : Nat, j ≠ (384 + t).toNat → (va_up on (384 + t).toNat (-1)) j = on j ∧ (tw) j = tw j ∧ (th) j = th j := fun j hj => ⟨by unfold va_up; rw [if_neg hj], rfl, rfl⟩
        exact xw_iret F hr hlk hh (by decide) (va_up on (384 + t).toNat (-1), tw, th) rfl ⟨rfl, hB, fun kk nn rr h => by cases h⟩ trivial d_M_hasDigits_62
      · have hh : xw_H G (va_A [(mo, .inr (6, mo_ ma (len : Int) (a : Int) dp wy un pl sp pe tk du tm)), (ma 1, .inl (G.2.2 0, 40, .inl (ja_ bf))), (ma 3, .inl (G.2.2 0, 432, .inl (ja_ kn))), (ma 4, .inl (G.2.2 0, 432, .inl (ja_ on))), (ma 5, .inl (G.2.2 0, 432, .inl (ja_ tw))), (ma 6, .inl (G.2.2 0, 432, .inl (ja_ th)))] s.heap.size) s.heap H locs [(mo, .inr (6, mo_ ma (len : Int) (a40 : Int) dp wy un pl sp pe tk du tm)), (ma 1, .inl (G.2.2 0, 40, .inl (ja_ bf))), (ma 3, .inl (G.2.2 0, 432, .inl (ja_ kn))), (ma 4, .inl (G.2.2 0, 432, .inl (ja_ on))), (ma 5, .inl (G.2.2 0, 432, .inl (ja_ tw))), (ma 6, .inl (G.2.2 0, 432, .inl (ja_ th)))] := hh
        have hd40 := hdg40.2.2.2 k40 rfl
        refine xw_topi (y := k40) hp40 ?_
        refine xw_iast F hh 3 (f := on) rfl (i := 384 + t) (x := k40) (by omega) d_M_hasDigits_43 (fun H locs hh => ?_)
        have hh : xw_H G (va_A [(mo, .inr (6, mo_ ma (len : Int) (a : Int) dp wy un pl sp pe tk du tm)), (ma 1, .inl (G.2.2 0, 40, .inl (ja_ bf))), (ma 3, .inl (G.2.2 0, 432, .inl (ja_ kn))), (ma 4, .inl (G.2.2 0, 432, .inl (ja_ on))), (ma 5, .inl (G.2.2 0, 432, .inl (ja_ tw))), (ma 6, .inl (G.2.2 0, 432, .inl (ja_ th)))] s.heap.size) s.heap H locs [(mo, .inr (6, mo_ ma (len : Int) (a40 : Int) dp wy un pl sp pe tk du tm)), (ma 1, .inl (G.2.2 0, 40, .inl (ja_ bf))), (ma 3, .inl (G.2.2 0, 432, .inl (ja_ kn))), (ma 4, .inl (G.2.2 0, 432, .inl (ja_ (va_up on (384 + t).toNat k40)))), (ma 5, .inl (G.2.2 0, 432, .inl (ja_ tw))), (ma 6, .inl (G.2.2 0, 432, .inl (ja_ th)))] := hh
        refine lv_aload_n hx hb d_M_hasDigits_44 rfl (lv_at hl 1 rfl) ?_
        refine xw_get F hh.1 (v := .ref (ma 4)) fl_M_16_6 0 rfl rfl d_M_hasDigits_45 ?_
        refine lv_sipush (v := xi_ 384) hx hb d_M_hasDigits_48 (by decide) ?_
        refine lv_iload_n hx hb d_M_hasDigits_51 rfl (lv_at hl 2 rfl) ?_
        refine xw_iadd hx hb d_M_hasDigits_52 ?_
        refine xw_iald F hh.1 3 (f := va_up on (384 + t).toNat k40) rfl (i := 384 + t) (by omega) d_M_hasDigits_53 ?_
        refine xw_topi (y := k40) (by unfold va_up; rw [if_pos rfl]) ?_
        refine xw_if_le hx hb 61 d_M_hasDigits_54 (by decide) (by omega) (fun c54 => ?_) (fun c54 => ?_)
        · refine lv_iconst (v := xi_ 0) hx hb d_M_hasDigits_61 rfl ?_
          exfalso
          omega
        · refine lv_iconst (v := xi_ 1) hx hb d_M_hasDigits_57 rfl ?_
          refine lv_goto (tgt := 62) hx hb d_M_hasDigits_58 (by decide) ?_
          have eR : (p_digs bf len (ks_ k) a) = (some (k40, 1, 0), a40) := by
            have ek : ks_ k = 70 := by
              unfold ks_
              rw [if_pos (by omega)]
            rw [ek]
            unfold p_digs
            rw [if_pos (Or.inl rfl)]
            rw [← hP40]
            (try dsimp only)
          rw [eR]
          have hB : ∀ j : Nat, j ≠ (384 + t).toNat → (va_up on (384 + t).toNat k40) j = on j ∧ (tw) j = tw j ∧ (th) j = th j := fun j hj => ⟨by unfold va_up; rw [if_neg hj], rfl, rfl⟩
          exact xw_iret F hr hlk hh (by decide) (va_up on (384 + t).toNat k40, tw, th) rfl ⟨rfl, hB, fun kk nn rr h => by
            cases h
            exact ⟨fun h9 => (by
              (try dsimp only)
              first
              | (unfold va_up; rw [if_pos rfl])
              | omega), fun h9 => (by
              (try dsimp only)
              first
              | (unfold va_up; rw [if_pos rfl])
              | omega), fun h9 => (by
              (try dsimp only)
              first
              | (unfold va_up; rw [if_pos rfl])
              | omega), fun h9 => (by
              first
              | rfl
              | omega)⟩⟩ trivial d_M_hasDigits_62
    · refine lv_iload_n hx hb d_M_hasDigits_21 rfl (lv_at hl 0 rfl) ?_
      refine lv_bipush (v := xi_ 8) hx hb d_M_hasDigits_22 (by decide) ?_
      refine xw_icmp_ne hx hb 63 d_M_hasDigits_24 (by decide) (by omega) (fun c24 => ?_) (fun c24 => ?_)
      · refine lv_iload_n hx hb d_M_hasDigits_63 rfl (lv_at hl 0 rfl) ?_
        refine lv_bipush (v := xi_ 6) hx hb d_M_hasDigits_64 (by decide) ?_
        refine xw_icmp_ne hx hb 137 d_M_hasDigits_66 (by decide) (by omega) (fun c66 => ?_) (fun c66 => ?_)
        · refine lv_iload_n hx hb d_M_hasDigits_137 rfl (lv_at hl 0 rfl) ?_
          refine lv_bipush (v := xi_ 9) hx hb d_M_hasDigits_138 (by decide) ?_
          refine xw_icmp_eq hx hb 145 d_M_hasDigits_140 (by decide) (by omega) (fun c140 => ?_) (fun c140 => ?_)
          · refine lv_aload_n hx hb d_M_hasDigits_145 rfl (lv_at hl 1 rfl) ?_
            refine xw_get F hh.1 (v := .ref (ma 4)) fl_M_16_6 0 rfl rfl d_M_hasDigits_146 ?_
            refine lv_sipush (v := xi_ 384) hx hb d_M_hasDigits_149 (by decide) ?_
            refine lv_iload_n hx hb d_M_hasDigits_152 rfl (lv_at hl 2 rfl) ?_
            refine xw_iadd hx hb d_M_hasDigits_153 ?_
            refine lv_aload_n hx hb d_M_hasDigits_154 rfl (lv_at hl 1 rfl) ?_
            refine lv_iconst (v := xi_ 0) hx hb d_M_hasDigits_155 rfl ?_
            refine lv_bipush (v := xi_ 9) hx hb d_M_hasDigits_156 (by decide) ?_
            refine xw_ci (wc := [(mo, .inr (6, mo_ ma (len : Int) (a : Int) dp wy un pl sp pe tk du tm)), (ma 1, .inl (G.2.2 0, 40, .inl (ja_ bf)))]) (wr := [(ma 3, .inl (G.2.2 0, 432, .inl (ja_ kn))), (ma 4, .inl (G.2.2 0, 432, .inl (ja_ on))), (ma 5, .inl (G.2.2 0, 432, .inl (ja_ tw))), (ma 6, .inl (G.2.2 0, 432, .inl (ja_ th)))]) hh [0, 1] [2, 3, 4, 5] rfl rfl rfl (by decide) (xw_rV F hh [0, 1] rfl rfl (c_M_digit l G s.heap.size mo ma dp wy un pl sp pe tk du tm bf len a ⟨hla.1, by omega⟩ hbf 0 9 (by omega)) trivial lk_M_133 cd_M_digit se_M_digit _ hh.1 0 rfl rfl rfl rfl ⟨by decide, by decide⟩ rfl hl.1 rfl (Nat.le_of_ble_eq_true rfl) d_M_hasDigits_158 ⟨Nat.le_of_ble_eq_true rfl, Nat.le_of_ble_eq_true rfl⟩) (fun z158 u_ H locs hp158 hX hz hk hh => ?_)
            have hh : xw_H G (va_A [(mo, .inr (6, mo_ ma (len : Int) (a : Int) dp wy un pl sp pe tk du tm)), (ma 1, .inl (G.2.2 0, 40, .inl (ja_ bf))), (ma 3, .inl (G.2.2 0, 432, .inl (ja_ kn))), (ma 4, .inl (G.2.2 0, 432, .inl (ja_ on))), (ma 5, .inl (G.2.2 0, 432, .inl (ja_ tw))), (ma 6, .inl (G.2.2 0, 432, .inl (ja_ th)))] s.heap.size) s.heap H locs [(mo, .inr (6, mo_ ma (len : Int) ((p_dig bf len 0 a).2 : Int) dp wy un pl sp pe tk du tm)), (ma 1, .inl (G.2.2 0, 40, .inl (ja_ bf))), (ma 3, .inl (G.2.2 0, 432, .inl (ja_ kn))), (ma 4, .inl (G.2.2 0, 432, .inl (ja_ on))), (ma 5, .inl (G.2.2 0, 432, .inl (ja_ tw))), (ma 6, .inl (G.2.2 0, 432, .inl (ja_ th)))] := xw_H.sub hh [4, 5, 0, 1, 2, 3] rfl rfl
            have hdg158 := p_dig_rng (tx := bf) (len := len) (low := 0) (at_ := a)
            have hdl158 := p_dig_le (tx := bf) (len := len) (low := 0) (at_ := a) (by omega)
            have hp158 : z158 = (p_dig bf len 0 a).1.getD (-1) := hp158
            obtain ⟨P158, hP158⟩ : ∃ P, P = p_dig bf len 0 a := ⟨_, rfl⟩
            rw [← hP158] at hh hp158 hdg158 hdl158
            rcases P158 with ⟨_ | k158, a158⟩
            · have hh : xw_H G (va_A [(mo, .inr (6, mo_ ma (len : Int) (a : Int) dp wy un pl sp pe tk du tm)), (ma 1, .inl (G.2.2 0, 40, .inl (ja_ bf))), (ma 3, .inl (G.2.2 0, 432, .inl (ja_ kn))), (ma 4, .inl (G.2.2 0, 432, .inl (ja_ on))), (ma 5, .inl (G.2.2 0, 432, .inl (ja_ tw))), (ma 6, .inl (G.2.2 0, 432, .inl (ja_ th)))] s.heap.size) s.heap H locs [(mo, .inr (6, mo_ ma (len : Int) (a158 : Int) dp wy un pl sp pe tk du tm)), (ma 1, .inl (G.2.2 0, 40, .inl (ja_ bf))), (ma 3, .inl (G.2.2 0, 432, .inl (ja_ kn))), (ma 4, .inl (G.2.2 0, 432, .inl (ja_ on))), (ma 5, .inl (G.2.2 0, 432, .inl (ja_ tw))), (ma 6, .inl (G.2.2 0, 432, .inl (ja_ th)))] := hh
              refine xw_topi (y := (-1)) hp158 ?_
              refine xw_iast F hh 3 (f := on) rfl (i := 384 + t) (x := (-1)) (by omega) d_M_hasDigits_161 (fun H locs hh => ?_)
              have hh : xw_H G (va_A [(mo, .inr (6, mo_ ma (len : Int) (a : Int) dp wy un pl sp pe tk du tm)), (ma 1, .inl (G.2.2 0, 40, .inl (ja_ bf))), (ma 3, .inl (G.2.2 0, 432, .inl (ja_ kn))), (ma 4, .inl (G.2.2 0, 432, .inl (ja_ on))), (ma 5, .inl (G.2.2 0, 432, .inl (ja_ tw))), (ma 6, .inl (G.2.2 0, 432, .inl (ja_ th)))] s.heap.size) s.heap H locs [(mo, .inr (6, mo_ ma (len : Int) (a158 : Int) dp wy un pl sp pe tk du tm)), (ma 1, .inl (G.2.2 0, 40, .inl (ja_ bf))), (ma 3, .inl (G.2.2 0, 432, .inl (ja_ kn))), (ma 4, .inl (G.2.2 0, 432, .inl (ja_ (va_up on (384 + t).toNat (-1))))), (ma 5, .inl (G.2.2 0, 432, .inl (ja_ tw))), (ma 6, .inl (G.2.2 0, 432, .inl (ja_ th)))] := hh
              refine lv_aload_n hx hb d_M_hasDigits_162 rfl (lv_at hl 1 rfl) ?_
              refine xw_get F hh.1 (v := .ref (ma 4)) fl_M_16_6 0 rfl rfl d_M_hasDigits_163 ?_
              refine lv_sipush (v := xi_ 384) hx hb d_M_hasDigits_166 (by decide) ?_
              refine lv_iload_n hx hb d_M_hasDigits_169 rfl (lv_at hl 2 rfl) ?_
              refine xw_iadd hx hb d_M_hasDigits_170 ?_
              refine xw_iald F hh.1 3 (f := va_up on (384 + t).toNat (-1)) rfl (i := 384 + t) (by omega) d_M_hasDigits_171 ?_
              refine xw_topi (y := (-1)) (by unfold va_up; rw [if_pos rfl]) ?_
              refine xw_if_ge hx hb 177 d_M_hasDigits_172 (by decide) (by decide) (fun c172 => absurd c172 (by decide)) (fun c172 => ?_)
              refine lv_iconst (v := xi_ 0) hx hb d_M_hasDigits_175 rfl ?_
              have eR : (p_digs bf len (ks_ k) a) = (none, a158) := by
                have ek : ks_ k = 69 := by
                  unfold ks_
                  rw [if_neg (by omega), if_neg (by omega), if_pos (by omega)]
                rw [ek]
                unfold p_digs
                rw [if_neg (by omega), if_neg (by omega), if_pos rfl]
                rw [← hP158]
                (try dsimp only)
              rw [eR]
              have hB : ∀ j : Nat, j ≠ (384 + t).toNat → (va_up on (384 + t).toNat (-1)) j = on j ∧ (tw) j = tw j ∧ (th) j = th j := fun j hj => ⟨by unfold va_up; rw [if_neg hj], rfl, rfl⟩
              exact xw_iret F hr hlk hh (by decide) (va_up on (384 + t).toNat (-1), tw, th) rfl ⟨rfl, hB, fun kk nn rr h => by cases h⟩ trivial d_M_hasDigits_176
            · have hh : xw_H G (va_A [(mo, .inr (6, mo_ ma (len : Int) (a : Int) dp wy un pl sp pe tk du tm)), (ma 1, .inl (G.2.2 0, 40, .inl (ja_ bf))), (ma 3, .inl (G.2.2 0, 432, .inl (ja_ kn))), (ma 4, .inl (G.2.2 0, 432, .inl (ja_ on))), (ma 5, .inl (G.2.2 0, 432, .inl (ja_ tw))), (ma 6, .inl (G.2.2 0, 432, .inl (ja_ th)))] s.heap.size) s.heap H locs [(mo, .inr (6, mo_ ma (len : Int) (a158 : Int) dp wy un pl sp pe tk du tm)), (ma 1, .inl (G.2.2 0, 40, .inl (ja_ bf))), (ma 3, .inl (G.2.2 0, 432, .inl (ja_ kn))), (ma 4, .inl (G.2.2 0, 432, .inl (ja_ on))), (ma 5, .inl (G.2.2 0, 432, .inl (ja_ tw))), (ma 6, .inl (G.2.2 0, 432, .inl (ja_ th)))] := hh
              have hd158 := hdg158.2.2.2 k158 rfl
              refine xw_topi (y := k158) hp158 ?_
              refine xw_iast F hh 3 (f := on) rfl (i := 384 + t) (x := k158) (by omega) d_M_hasDigits_161 (fun H locs hh => ?_)
              have hh : xw_H G (va_A [(mo, .inr (6, mo_ ma (len : Int) (a : Int) dp wy un pl sp pe tk du tm)), (ma 1, .inl (G.2.2 0, 40, .inl (ja_ bf))), (ma 3, .inl (G.2.2 0, 432, .inl (ja_ kn))), (ma 4, .inl (G.2.2 0, 432, .inl (ja_ on))), (ma 5, .inl (G.2.2 0, 432, .inl (ja_ tw))), (ma 6, .inl (G.2.2 0, 432, .inl (ja_ th)))] s.heap.size) s.heap H locs [(mo, .inr (6, mo_ ma (len : Int) (a158 : Int) dp wy un pl sp pe tk du tm)), (ma 1, .inl (G.2.2 0, 40, .inl (ja_ bf))), (ma 3, .inl (G.2.2 0, 432, .inl (ja_ kn))), (ma 4, .inl (G.2.2 0, 432, .inl (ja_ (va_up on (384 + t).toNat k158)))), (ma 5, .inl (G.2.2 0, 432, .inl (ja_ tw))), (ma 6, .inl (G.2.2 0, 432, .inl (ja_ th)))] := hh
              refine lv_aload_n hx hb d_M_hasDigits_162 rfl (lv_at hl 1 rfl) ?_
              refine xw_get F hh.1 (v := .ref (ma 4)) fl_M_16_6 0 rfl rfl d_M_hasDigits_163 ?_
              refine lv_sipush (v := xi_ 384) hx hb d_M_hasDigits_166 (by decide) ?_
              refine lv_iload_n hx hb d_M_hasDigits_169 rfl (lv_at hl 2 rfl) ?_
              refine xw_iadd hx hb d_M_hasDigits_170 ?_
              refine xw_iald F hh.1 3 (f := va_up on (384 + t).toNat k158) rfl (i := 384 + t) (by omega) d_M_hasDigits_171 ?_
              refine xw_topi (y := k158) (by unfold va_up; rw [if_pos rfl]) ?_
              refine xw_if_ge hx hb 177 d_M_hasDigits_172 (by decide) (by omega) (fun c172 => ?_) (fun c172 => ?_)
              · refine lv_aload_n hx hb d_M_hasDigits_177 rfl (lv_at hl 1 rfl) ?_
                refine xw_get F hh.1 (v := .ref (ma 5)) fl_M_19_6 0 rfl rfl d_M_hasDigits_178 ?_
                refine lv_sipush (v := xi_ 384) hx hb d_M_hasDigits_181 (by decide) ?_
                refine lv_iload_n hx hb d_M_hasDigits_184 rfl (lv_at hl 2 rfl) ?_
                refine xw_iadd hx hb d_M_hasDigits_185 ?_
                refine lv_aload_n hx hb d_M_hasDigits_186 rfl (lv_at hl 1 rfl) ?_
                refine lv_aload_n hx hb d_M_hasDigits_187 rfl (lv_at hl 1 rfl) ?_
                refine xw_get F hh.1 (v := .ref (ma 4)) fl_M_16_6 0 rfl rfl d_M_hasDigits_188 ?_
                refine lv_sipush (v := xi_ 384) hx hb d_M_hasDigits_191 (by decide) ?_
                refine lv_iload_n hx hb d_M_hasDigits_194 rfl (lv_at hl 2 rfl) ?_
                refine xw_iadd hx hb d_M_hasDigits_195 ?_
                refine xw_iald F hh.1 3 (f := va_up on (384 + t).toNat k158) rfl (i := 384 + t) (by omega) d_M_hasDigits_196 ?_
                refine xw_topi (y := k158) (by unfold va_up; rw [if_pos rfl]) ?_
                refine xw_if_le hx hb 213 d_M_hasDigits_197 (by decide) (by omega) (fun c197 => ?_) (fun c197 => ?_)
                · refine lv_iconst (v := xi_ 1) hx hb d_M_hasDigits_213 rfl ?_
                  refine lv_bipush (v := xi_ 9) hx hb d_M_hasDigits_214 (by decide) ?_
                  refine xw_ci (wc := [(mo, .inr (6, mo_ ma (len : Int) (a158 : Int) dp wy un pl sp pe tk du tm)), (ma 1, .inl (G.2.2 0, 40, .inl (ja_ bf)))]) (wr := [(ma 3, .inl (G.2.2 0, 432, .inl (ja_ kn))), (ma 4, .inl (G.2.2 0, 432, .inl (ja_ (va_up on (384 + t).toNat k158)))), (ma 5, .inl (G.2.2 0, 432, .inl (ja_ tw))), (ma 6, .inl (G.2.2 0, 432, .inl (ja_ th)))]) hh [0, 1] [2, 3, 4, 5] rfl rfl rfl (by decide) (xw_rV F hh [0, 1] rfl rfl (c_M_digit l G H.size mo ma dp wy un pl sp pe tk du tm bf len a158 ⟨hla.1, by omega⟩ hbf 1 9 (by omega)) trivial lk_M_133 cd_M_digit se_M_digit _ hh.1 0 rfl rfl rfl rfl ⟨by decide, by decide⟩ rfl hl.1 rfl (Nat.le_of_ble_eq_true rfl) d_M_hasDigits_216 ⟨Nat.le_of_ble_eq_true rfl, Nat.le_of_ble_eq_true rfl⟩) (fun z216 u_ H locs hp216 hX hz hk hh => ?_)
                  have hh : xw_H G (va_A [(mo, .inr (6, mo_ ma (len : Int) (a : Int) dp wy un pl sp pe tk du tm)), (ma 1, .inl (G.2.2 0, 40, .inl (ja_ bf))), (ma 3, .inl (G.2.2 0, 432, .inl (ja_ kn))), (ma 4, .inl (G.2.2 0, 432, .inl (ja_ on))), (ma 5, .inl (G.2.2 0, 432, .inl (ja_ tw))), (ma 6, .inl (G.2.2 0, 432, .inl (ja_ th)))] s.heap.size) s.heap H locs [(mo, .inr (6, mo_ ma (len : Int) ((p_dig bf len 1 a158).2 : Int) dp wy un pl sp pe tk du tm)), (ma 1, .inl (G.2.2 0, 40, .inl (ja_ bf))), (ma 3, .inl (G.2.2 0, 432, .inl (ja_ kn))), (ma 4, .inl (G.2.2 0, 432, .inl (ja_ (va_up on (384 + t).toNat k158)))), (ma 5, .inl (G.2.2 0, 432, .inl (ja_ tw))), (ma 6, .inl (G.2.2 0, 432, .inl (ja_ th)))] := xw_H.sub hh [4, 5, 0, 1, 2, 3] rfl rfl
                  have hdg216 := p_dig_rng (tx := bf) (len := len) (low := 1) (at_ := a158)
                  have hdl216 := p_dig_le (tx := bf) (len := len) (low := 1) (at_ := a158) (by omega)
                  have hp216 : z216 = (p_dig bf len 1 a158).1.getD (-1) := hp216
                  obtain ⟨P216, hP216⟩ : ∃ P, P = p_dig bf len 1 a158 := ⟨_, rfl⟩
                  rw [← hP216] at hh hp216 hdg216 hdl216
                  rcases P216 with ⟨_ | k216, a216⟩
                  · have hh : xw_H G (va_A [(mo, .inr (6, mo_ ma (len : Int) (a : Int) dp wy un pl sp pe tk du tm)), (ma 1, .inl (G.2.2 0, 40, .inl (ja_ bf))), (ma 3, .inl (G.2.2 0, 432, .inl (ja_ kn))), (ma 4, .inl (G.2.2 0, 432, .inl (ja_ on))), (ma 5, .inl (G.2.2 0, 432, .inl (ja_ tw))), (ma 6, .inl (G.2.2 0, 432, .inl (ja_ th)))] s.heap.size) s.heap H locs [(mo, .inr (6, mo_ ma (len : Int) (a216 : Int) dp wy un pl sp pe tk du tm)), (ma 1, .inl (G.2.2 0, 40, .inl (ja_ bf))), (ma 3, .inl (G.2.2 0, 432, .inl (ja_ kn))), (ma 4, .inl (G.2.2 0, 432, .inl (ja_ (va_up on (384 + t).toNat k158)))), (ma 5, .inl (G.2.2 0, 432, .inl (ja_ tw))), (ma 6, .inl (G.2.2 0, 432, .inl (ja_ th)))] := hh
                    refine xw_topi (y := (-1)) hp216 ?_
                    refine xw_iast F hh 4 (f := tw) rfl (i := 384 + t) (x := (-1)) (by omega) d_M_hasDigits_219 (fun H locs hh => ?_)
                    have hh : xw_H G (va_A [(mo, .inr (6, mo_ ma (len : Int) (a : Int) dp wy un pl sp pe tk du tm)), (ma 1, .inl (G.2.2 0, 40, .inl (ja_ bf))), (ma 3, .inl (G.2.2 0, 432, .inl (ja_ kn))), (ma 4, .inl (G.2.2 0, 432, .inl (ja_ on))), (ma 5, .inl (G.2.2 0, 432, .inl (ja_ tw))), (ma 6, .inl (G.2.2 0, 432, .inl (ja_ th)))] s.heap.size) s.heap H locs [(mo, .inr (6, mo_ ma (len : Int) (a216 : Int) dp wy un pl sp pe tk du tm)), (ma 1, .inl (G.2.2 0, 40, .inl (ja_ bf))), (ma 3, .inl (G.2.2 0, 432, .inl (ja_ kn))), (ma 4, .inl (G.2.2 0, 432, .inl (ja_ (va_up on (384 + t).toNat k158)))), (ma 5, .inl (G.2.2 0, 432, .inl (ja_ (va_up tw (384 + t).toNat (-1))))), (ma 6, .inl (G.2.2 0, 432, .inl (ja_ th)))] := hh
                    refine lv_aload_n hx hb d_M_hasDigits_220 rfl (lv_at hl 1 rfl) ?_
                    refine xw_get F hh.1 (v := .ref (ma 5)) fl_M_19_6 0 rfl rfl d_M_hasDigits_221 ?_
                    refine lv_sipush (v := xi_ 384) hx hb d_M_hasDigits_224 (by decide) ?_
                    refine lv_iload_n hx hb d_M_hasDigits_227 rfl (lv_at hl 2 rfl) ?_
                    refine xw_iadd hx hb d_M_hasDigits_228 ?_
                    refine xw_iald F hh.1 4 (f := va_up tw (384 + t).toNat (-1)) rfl (i := 384 + t) (by omega) d_M_hasDigits_229 ?_
                    refine xw_topi (y := (-1)) (by unfold va_up; rw [if_pos rfl]) ?_
                    refine xw_if_ge hx hb 235 d_M_hasDigits_230 (by decide) (by decide) (fun c230 => absurd c230 (by decide)) (fun c230 => ?_)
                    refine lv_iconst (v := xi_ 0) hx hb d_M_hasDigits_233 rfl ?_
                    have eR : (p_digs bf len (ks_ k) a) = (none, a216) := by
                      have ek : ks_ k = 69 := by
                        unfold ks_
                        rw [if_neg (by omega), if_neg (by omega), if_pos (by omega)]
                      rw [ek]
                      unfold p_digs
                      rw [if_neg (by omega), if_neg (by omega), if_pos rfl]
                      rw [← hP158]
                      (try dsimp only)
                      rw [show max 1 k158 = 1 by omega]
                      rw [← hP216]
                      (try dsimp only)
                    rw [eR]
                    have hB : ∀ j : Nat, j ≠ (384 + t).toNat → (va_up on (384 + t).toNat k158) j = on j ∧ (va_up tw (384 + t).toNat (-1)) j = tw j ∧ (th) j = th j := fun j hj => ⟨by unfold va_up; rw [if_neg hj], by unfold va_up; rw [if_neg hj], rfl⟩
                    exact xw_iret F hr hlk hh (by decide) (va_up on (384 + t).toNat k158, va_up tw (384 + t).toNat (-1), th) rfl ⟨rfl, hB, fun kk nn rr h => by cases h⟩ trivial d_M_hasDigits_234
                  · have hh : xw_H G (va_A [(mo, .inr (6, mo_ ma (len : Int) (a : Int) dp wy un pl sp pe tk du tm)), (ma 1, .inl (G.2.2 0, 40, .inl (ja_ bf))), (ma 3, .inl (G.2.2 0, 432, .inl (ja_ kn))), (ma 4, .inl (G.2.2 0, 432, .inl (ja_ on))), (ma 5, .inl (G.2.2 0, 432, .inl (ja_ tw))), (ma 6, .inl (G.2.2 0, 432, .inl (ja_ th)))] s.heap.size) s.heap H locs [(mo, .inr (6, mo_ ma (len : Int) (a216 : Int) dp wy un pl sp pe tk du tm)), (ma 1, .inl (G.2.2 0, 40, .inl (ja_ bf))), (ma 3, .inl (G.2.2 0, 432, .inl (ja_ kn))), (ma 4, .inl (G.2.2 0, 432, .inl (ja_ (va_up on (384 + t).toNat k158)))), (ma 5, .inl (G.2.2 0, 432, .inl (ja_ tw))), (ma 6, .inl (G.2.2 0, 432, .inl (ja_ th)))] := hh
                    have hd216 := hdg216.2.2.2 k216 rfl
                    refine xw_topi (y := k216) hp216 ?_
                    refine xw_iast F hh 4 (f := tw) rfl (i := 384 + t) (x := k216) (by omega) d_M_hasDigits_219 (fun H locs hh => ?_)
                    have hh : xw_H G (va_A [(mo, .inr (6, mo_ ma (len : Int) (a : Int) dp wy un pl sp pe tk du tm)), (ma 1, .inl (G.2.2 0, 40, .inl (ja_ bf))), (ma 3, .inl (G.2.2 0, 432, .inl (ja_ kn))), (ma 4, .inl (G.2.2 0, 432, .inl (ja_ on))), (ma 5, .inl (G.2.2 0, 432, .inl (ja_ tw))), (ma 6, .inl (G.2.2 0, 432, .inl (ja_ th)))] s.heap.size) s.heap H locs [(mo, .inr (6, mo_ ma (len : Int) (a216 : Int) dp wy un pl sp pe tk du tm)), (ma 1, .inl (G.2.2 0, 40, .inl (ja_ bf))), (ma 3, .inl (G.2.2 0, 432, .inl (ja_ kn))), (ma 4, .inl (G.2.2 0, 432, .inl (ja_ (va_up on (384 + t).toNat k158)))), (ma 5, .inl (G.2.2 0, 432, .inl (ja_ (va_up tw (384 + t).toNat k216)))), (ma 6, .inl (G.2.2 0, 432, .inl (ja_ th)))] := hh
                    refine lv_aload_n hx hb d_M_hasDigits_220 rfl (lv_at hl 1 rfl) ?_
                    refine xw_get F hh.1 (v := .ref (ma 5)) fl_M_19_6 0 rfl rfl d_M_hasDigits_221 ?_
                    refine lv_sipush (v := xi_ 384) hx hb d_M_hasDigits_224 (by decide) ?_
                    refine lv_iload_n hx hb d_M_hasDigits_227 rfl (lv_at hl 2 rfl) ?_
                    refine xw_iadd hx hb d_M_hasDigits_228 ?_
                    refine xw_iald F hh.1 4 (f := va_up tw (384 + t).toNat k216) rfl (i := 384 + t) (by omega) d_M_hasDigits_229 ?_
                    refine xw_topi (y := k216) (by unfold va_up; rw [if_pos rfl]) ?_
                    refine xw_if_ge hx hb 235 d_M_hasDigits_230 (by decide) (by omega) (fun c230 => ?_) (fun c230 => ?_)
                    · refine lv_aload_n hx hb d_M_hasDigits_235 rfl (lv_at hl 1 rfl) ?_
                      refine xw_get F hh.1 (v := .ref (ma 6)) fl_M_22_6 0 rfl rfl d_M_hasDigits_236 ?_
                      refine lv_sipush (v := xi_ 384) hx hb d_M_hasDigits_239 (by decide) ?_
                      refine lv_iload_n hx hb d_M_hasDigits_242 rfl (lv_at hl 2 rfl) ?_
                      refine xw_iadd hx hb d_M_hasDigits_243 ?_
                      refine lv_aload_n hx hb d_M_hasDigits_244 rfl (lv_at hl 1 rfl) ?_
                      refine lv_iconst (v := xi_ 0) hx hb d_M_hasDigits_245 rfl ?_
                      refine lv_bipush (v := xi_ 9) hx hb d_M_hasDigits_246 (by decide) ?_
                      refine xw_ci (wc := [(mo, .inr (6, mo_ ma (len : Int) (a216 : Int) dp wy un pl sp pe tk du tm)), (ma 1, .inl (G.2.2 0, 40, .inl (ja_ bf)))]) (wr := [(ma 3, .inl (G.2.2 0, 432, .inl (ja_ kn))), (ma 4, .inl (G.2.2 0, 432, .inl (ja_ (va_up on (384 + t).toNat k158)))), (ma 5, .inl (G.2.2 0, 432, .inl (ja_ (va_up tw (384 + t).toNat k216)))), (ma 6, .inl (G.2.2 0, 432, .inl (ja_ th)))]) hh [0, 1] [2, 3, 4, 5] rfl rfl rfl (by decide) (xw_rV F hh [0, 1] rfl rfl (c_M_digit l G H.size mo ma dp wy un pl sp pe tk du tm bf len a216 ⟨hla.1, by omega⟩ hbf 0 9 (by omega)) trivial lk_M_133 cd_M_digit se_M_digit _ hh.1 0 rfl rfl rfl rfl ⟨by decide, by decide⟩ rfl hl.1 rfl (Nat.le_of_ble_eq_true rfl) d_M_hasDigits_248 ⟨Nat.le_of_ble_eq_true rfl, Nat.le_of_ble_eq_true rfl⟩) (fun z248 u_ H locs hp248 hX hz hk hh => ?_)
                      have hh : xw_H G (va_A [(mo, .inr (6, mo_ ma (len : Int) (a : Int) dp wy un pl sp pe tk du tm)), (ma 1, .inl (G.2.2 0, 40, .inl (ja_ bf))), (ma 3, .inl (G.2.2 0, 432, .inl (ja_ kn))), (ma 4, .inl (G.2.2 0, 432, .inl (ja_ on))), (ma 5, .inl (G.2.2 0, 432, .inl (ja_ tw))), (ma 6, .inl (G.2.2 0, 432, .inl (ja_ th)))] s.heap.size) s.heap H locs [(mo, .inr (6, mo_ ma (len : Int) ((p_dig bf len 0 a216).2 : Int) dp wy un pl sp pe tk du tm)), (ma 1, .inl (G.2.2 0, 40, .inl (ja_ bf))), (ma 3, .inl (G.2.2 0, 432, .inl (ja_ kn))), (ma 4, .inl (G.2.2 0, 432, .inl (ja_ (va_up on (384 + t).toNat k158)))), (ma 5, .inl (G.2.2 0, 432, .inl (ja_ (va_up tw (384 + t).toNat k216)))), (ma 6, .inl (G.2.2 0, 432, .inl (ja_ th)))] := xw_H.sub hh [4, 5, 0, 1, 2, 3] rfl rfl
                      have hdg248 := p_dig_rng (tx := bf) (len := len) (low := 0) (at_ := a216)
                      have hdl248 := p_dig_le (tx := bf) (len := len) (low := 0) (at_ := a216) (by omega)
                      have hp248 : z248 = (p_dig bf len 0 a216).1.getD (-1) := hp248
                      obtain ⟨P248, hP248⟩ : ∃ P, P = p_dig bf len 0 a216 := ⟨_, rfl⟩
                      rw [← hP248] at hh hp248 hdg248 hdl248
                      rcases P248 with ⟨_ | k248, a248⟩
                      · have hh : xw_H G (va_A [(mo, .inr (6, mo_ ma (len : Int) (a : Int) dp wy un pl sp pe tk du tm)), (ma 1, .inl (G.2.2 0, 40, .inl (ja_ bf))), (ma 3, .inl (G.2.2 0, 432, .inl (ja_ kn))), (ma 4, .inl (G.2.2 0, 432, .inl (ja_ on))), (ma 5, .inl (G.2.2 0, 432, .inl (ja_ tw))), (ma 6, .inl (G.2.2 0, 432, .inl (ja_ th)))] s.heap.size) s.heap H locs [(mo, .inr (6, mo_ ma (len : Int) (a248 : Int) dp wy un pl sp pe tk du tm)), (ma 1, .inl (G.2.2 0, 40, .inl (ja_ bf))), (ma 3, .inl (G.2.2 0, 432, .inl (ja_ kn))), (ma 4, .inl (G.2.2 0, 432, .inl (ja_ (va_up on (384 + t).toNat k158)))), (ma 5, .inl (G.2.2 0, 432, .inl (ja_ (va_up tw (384 + t).toNat k216)))), (ma 6, .inl (G.2.2 0, 432, .inl (ja_ th)))] := hh
                        refine xw_topi (y := (-1)) hp248 ?_
                        refine xw_iast F hh 5 (f := th) rfl (i := 384 + t) (x := (-1)) (by omega) d_M_hasDigits_251 (fun H locs hh => ?_)
                        have hh : xw_H G (va_A [(mo, .inr (6, mo_ ma (len : Int) (a : Int) dp wy un pl sp pe tk du tm)), (ma 1, .inl (G.2.2 0, 40, .inl (ja_ bf))), (ma 3, .inl (G.2.2 0, 432, .inl (ja_ kn))), (ma 4, .inl (G.2.2 0, 432, .inl (ja_ on))), (ma 5, .inl (G.2.2 0, 432, .inl (ja_ tw))), (ma 6, .inl (G.2.2 0, 432, .inl (ja_ th)))] s.heap.size) s.heap H locs [(mo, .inr (6, mo_ ma (len : Int) (a248 : Int) dp wy un pl sp pe tk du tm)), (ma 1, .inl (G.2.2 0, 40, .inl (ja_ bf))), (ma 3, .inl (G.2.2 0, 432, .inl (ja_ kn))), (ma 4, .inl (G.2.2 0, 432, .inl (ja_ (va_up on (384 + t).toNat k158)))), (ma 5, .inl (G.2.2 0, 432, .inl (ja_ (va_up tw (384 + t).toNat k216)))), (ma 6, .inl (G.2.2 0, 432, .inl (ja_ (va_up th (384 + t).toNat (-1)))))] := hh
                        refine lv_aload_n hx hb d_M_hasDigits_252 rfl (lv_at hl 1 rfl) ?_
                        refine xw_get F hh.1 (v := .ref (ma 6)) fl_M_22_6 0 rfl rfl d_M_hasDigits_253 ?_
                        refine lv_sipush (v := xi_ 384) hx hb d_M_hasDigits_256 (by decide) ?_
                        refine lv_iload_n hx hb d_M_hasDigits_259 rfl (lv_at hl 2 rfl) ?_
                        refine xw_iadd hx hb d_M_hasDigits_260 ?_
                        refine xw_iald F hh.1 5 (f := va_up th (384 + t).toNat (-1)) rfl (i := 384 + t) (by omega) d_M_hasDigits_261 ?_
                        refine xw_topi (y := (-1)) (by unfold va_up; rw [if_pos rfl]) ?_
                        refine xw_if_lt hx hb 269 d_M_hasDigits_262 (by decide) (by decide) (fun c262 => ?_) (fun c262 => absurd c262 (by decide))
                        refine lv_iconst (v := xi_ 0) hx hb d_M_hasDigits_269 rfl ?_
                        have eR : (p_digs bf len (ks_ k) a) = (none, a248) := by
                          have ek : ks_ k = 69 := by
                            unfold ks_
                            rw [if_neg (by omega), if_neg (by omega), if_pos (by omega)]
                          rw [ek]
                          unfold p_digs
                          rw [if_neg (by omega), if_neg (by omega), if_pos rfl]
                          rw [← hP158]
                          (try dsimp only)
                          rw [show max 1 k158 = 1 by omega]
                          rw [← hP216]
                          (try dsimp only)
                          rw [← hP248]
                          (try dsimp only)
                        rw [eR]
                        have hB : ∀ j : Nat, j ≠ (384 + t).toNat → (va_up on (384 + t).toNat k158) j = on j ∧ (va_up tw (384 + t).toNat k216) j = tw j ∧ (va_up th (384 + t).toNat (-1)) j = th j := fun j hj => ⟨by unfold va_up; rw [if_neg hj], by unfold va_up; rw [if_neg hj], by unfold va_up; rw [if_neg hj]⟩
                        exact xw_iret F hr hlk hh (by decide) (va_up on (384 + t).toNat k158, va_up tw (384 + t).toNat k216, va_up th (384 + t).toNat (-1)) rfl ⟨rfl, hB, fun kk nn rr h => by cases h⟩ trivial d_M_hasDigits_270
                      · have hh : xw_H G (va_A [(mo, .inr (6, mo_ ma (len : Int) (a : Int) dp wy un pl sp pe tk du tm)), (ma 1, .inl (G.2.2 0, 40, .inl (ja_ bf))), (ma 3, .inl (G.2.2 0, 432, .inl (ja_ kn))), (ma 4, .inl (G.2.2 0, 432, .inl (ja_ on))), (ma 5, .inl (G.2.2 0, 432, .inl (ja_ tw))), (ma 6, .inl (G.2.2 0, 432, .inl (ja_ th)))] s.heap.size) s.heap H locs [(mo, .inr (6, mo_ ma (len : Int) (a248 : Int) dp wy un pl sp pe tk du tm)), (ma 1, .inl (G.2.2 0, 40, .inl (ja_ bf))), (ma 3, .inl (G.2.2 0, 432, .inl (ja_ kn))), (ma 4, .inl (G.2.2 0, 432, .inl (ja_ (va_up on (384 + t).toNat k158)))), (ma 5, .inl (G.2.2 0, 432, .inl (ja_ (va_up tw (384 + t).toNat k216)))), (ma 6, .inl (G.2.2 0, 432, .inl (ja_ th)))] := hh
                        have hd248 := hdg248.2.2.2 k248 rfl
                        refine xw_topi (y := k248) hp248 ?_
                        refine xw_iast F hh 5 (f := th) rfl (i := 384 + t) (x := k248) (by omega) d_M_hasDigits_251 (fun H locs hh => ?_)
                        have hh : xw_H G (va_A [(mo, .inr (6, mo_ ma (len : Int) (a : Int) dp wy un pl sp pe tk du tm)), (ma 1, .inl (G.2.2 0, 40, .inl (ja_ bf))), (ma 3, .inl (G.2.2 0, 432, .inl (ja_ kn))), (ma 4, .inl (G.2.2 0, 432, .inl (ja_ on))), (ma 5, .inl (G.2.2 0, 432, .inl (ja_ tw))), (ma 6, .inl (G.2.2 0, 432, .inl (ja_ th)))] s.heap.size) s.heap H locs [(mo, .inr (6, mo_ ma (len : Int) (a248 : Int) dp wy un pl sp pe tk du tm)), (ma 1, .inl (G.2.2 0, 40, .inl (ja_ bf))), (ma 3, .inl (G.2.2 0, 432, .inl (ja_ kn))), (ma 4, .inl (G.2.2 0, 432, .inl (ja_ (va_up on (384 + t).toNat k158)))), (ma 5, .inl (G.2.2 0, 432, .inl (ja_ (va_up tw (384 + t).toNat k216)))), (ma 6, .inl (G.2.2 0, 432, .inl (ja_ (va_up th (384 + t).toNat k248))))] := hh
                        refine lv_aload_n hx hb d_M_hasDigits_252 rfl (lv_at hl 1 rfl) ?_
                        refine xw_get F hh.1 (v := .ref (ma 6)) fl_M_22_6 0 rfl rfl d_M_hasDigits_253 ?_
                        refine lv_sipush (v := xi_ 384) hx hb d_M_hasDigits_256 (by decide) ?_
                        refine lv_iload_n hx hb d_M_hasDigits_259 rfl (lv_at hl 2 rfl) ?_
                        refine xw_iadd hx hb d_M_hasDigits_260 ?_
                        refine xw_iald F hh.1 5 (f := va_up th (384 + t).toNat k248) rfl (i := 384 + t) (by omega) d_M_hasDigits_261 ?_
                        refine xw_topi (y := k248) (by unfold va_up; rw [if_pos rfl]) ?_
                        refine xw_if_lt hx hb 269 d_M_hasDigits_262 (by decide) (by omega) (fun c262 => ?_) (fun c262 => ?_)
                        · refine lv_iconst (v := xi_ 0) hx hb d_M_hasDigits_269 rfl ?_
                          exfalso
                          omega
                        · refine lv_iconst (v := xi_ 1) hx hb d_M_hasDigits_265 rfl ?_
                          refine lv_goto (tgt := 270) hx hb d_M_hasDigits_266 (by decide) ?_
                          have eR : (p_digs bf len (ks_ k) a) = (some (k158, k216, k248), a248) := by
                            have ek : ks_ k = 69 := by
                              unfold ks_
                              rw [if_neg (by omega), if_neg (by omega), if_pos (by omega)]
                            rw [ek]
                            unfold p_digs
                            rw [if_neg (by omega), if_neg (by omega), if_pos rfl]
                            rw [← hP158]
                            (try dsimp only)
                            rw [show max 1 k158 = 1 by omega]
                            rw [← hP216]
                            (try dsimp only)
                            rw [← hP248]
                            (try dsimp only)
                          rw [eR]
                          have hB : ∀ j : Nat, j ≠ (384 + t).toNat → (va_up on (384 + t).toNat k158) j = on j ∧ (va_up tw (384 + t).toNat k216) j = tw j ∧ (va_up th (384 + t).toNat k248) j = th j := fun j hj => ⟨by unfold va_up; rw [if_neg hj], by unfold va_up; rw [if_neg hj], by unfold va_up; rw [if_neg hj]⟩
                          exact xw_iret F hr hlk hh (by decide) (va_up on (384 + t).toNat k158, va_up tw (384 + t).toNat k216, va_up th (384 + t).toNat k248) rfl ⟨rfl, hB, fun kk nn rr h => by
                            cases h
                            exact ⟨fun h9 => (by
                              (try dsimp only)
                              first
                              | (unfold va_up; rw [if_pos rfl])
                              | omega), fun h9 => (by
                              (try dsimp only)
                              first
                              | (unfold va_up; rw [if_pos rfl])
                              | omega), fun h9 => (by
                              (try dsimp only)
                              first
                              | (unfold va_up; rw [if_pos rfl])
                              | omega), fun h9 => (by
                              first
                              | rfl
                              | omega)⟩⟩ trivial d_M_hasDigits_270
                    · refine lv_iconst (v := xi_ 0) hx hb d_M_hasDigits_233 rfl ?_
                      exfalso
                      omega
                · refine lv_aload_n hx hb d_M_hasDigits_200 rfl (lv_at hl 1 rfl) ?_
                  refine xw_get F hh.1 (v := .ref (ma 4)) fl_M_16_6 0 rfl rfl d_M_hasDigits_201 ?_
                  refine lv_sipush (v := xi_ 384) hx hb d_M_hasDigits_204 (by decide) ?_
                  refine lv_iload_n hx hb d_M_hasDigits_207 rfl (lv_at hl 2 rfl) ?_
                  refine xw_iadd hx hb d_M_hasDigits_208 ?_
                  refine xw_iald F hh.1 3 (f := va_up on (384 + t).toNat k158) rfl (i := 384 + t) (by omega) d_M_hasDigits_209 ?_
                  refine xw_topi (y := k158) (by unfold va_up; rw [if_pos rfl]) ?_
                  refine lv_goto (tgt := 214) hx hb d_M_hasDigits_210 (by decide) ?_
                  refine lv_bipush (v := xi_ 9) hx hb d_M_hasDigits_214 (by decide) ?_
                  refine xw_ci (wc := [(mo, .inr (6, mo_ ma (len : Int) (a158 : Int) dp wy un pl sp pe tk du tm)), (ma 1, .inl (G.2.2 0, 40, .inl (ja_ bf)))]) (wr := [(ma 3, .inl (G.2.2 0, 432, .inl (ja_ kn))), (ma 4, .inl (G.2.2 0, 432, .inl (ja_ (va_up on (384 + t).toNat k158)))), (ma 5, .inl (G.2.2 0, 432, .inl (ja_ tw))), (ma 6, .inl (G.2.2 0, 432, .inl (ja_ th)))]) hh [0, 1] [2, 3, 4, 5] rfl rfl rfl (by decide) (xw_rV F hh [0, 1] rfl rfl (c_M_digit l G H.size mo ma dp wy un pl sp pe tk du tm bf len a158 ⟨hla.1, by omega⟩ hbf k158 9 (by omega)) trivial lk_M_133 cd_M_digit se_M_digit _ hh.1 0 rfl rfl rfl rfl ⟨by decide, by decide⟩ rfl hl.1 rfl (Nat.le_of_ble_eq_true rfl) d_M_hasDigits_216 ⟨Nat.le_of_ble_eq_true rfl, Nat.le_of_ble_eq_true rfl⟩) (fun z216 u_ H locs hp216 hX hz hk hh => ?_)
                  have hh : xw_H G (va_A [(mo, .inr (6, mo_ ma (len : Int) (a : Int) dp wy un pl sp pe tk du tm)), (ma 1, .inl (G.2.2 0, 40, .inl (ja_ bf))), (ma 3, .inl (G.2.2 0, 432, .inl (ja_ kn))), (ma 4, .inl (G.2.2 0, 432, .inl (ja_ on))), (ma 5, .inl (G.2.2 0, 432, .inl (ja_ tw))), (ma 6, .inl (G.2.2 0, 432, .inl (ja_ th)))] s.heap.size) s.heap H locs [(mo, .inr (6, mo_ ma (len : Int) ((p_dig bf len k158 a158).2 : Int) dp wy un pl sp pe tk du tm)), (ma 1, .inl (G.2.2 0, 40, .inl (ja_ bf))), (ma 3, .inl (G.2.2 0, 432, .inl (ja_ kn))), (ma 4, .inl (G.2.2 0, 432, .inl (ja_ (va_up on (384 + t).toNat k158)))), (ma 5, .inl (G.2.2 0, 432, .inl (ja_ tw))), (ma 6, .inl (G.2.2 0, 432, .inl (ja_ th)))] := xw_H.sub hh [4, 5, 0, 1, 2, 3] rfl rfl
                  have hdg216 := p_dig_rng (tx := bf) (len := len) (low := k158) (at_ := a158)
                  have hdl216 := p_dig_le (tx := bf) (len := len) (low := k158) (at_ := a158) (by omega)
                  have hp216 : z216 = (p_dig bf len k158 a158).1.getD (-1) := hp216
                  obtain ⟨P216, hP216⟩ : ∃ P, P = p_dig bf len k158 a158 := ⟨_, rfl⟩
                  rw [← hP216] at hh hp216 hdg216 hdl216
                  rcases P216 with ⟨_ | k216, a216⟩
                  · have hh : xw_H G (va_A [(mo, .inr (6, mo_ ma (len : Int) (a : Int) dp wy un pl sp pe tk du tm)), (ma 1, .inl (G.2.2 0, 40, .inl (ja_ bf))), (ma 3, .inl (G.2.2 0, 432, .inl (ja_ kn))), (ma 4, .inl (G.2.2 0, 432, .inl (ja_ on))), (ma 5, .inl (G.2.2 0, 432, .inl (ja_ tw))), (ma 6, .inl (G.2.2 0, 432, .inl (ja_ th)))] s.heap.size) s.heap H locs [(mo, .inr (6, mo_ ma (len : Int) (a216 : Int) dp wy un pl sp pe tk du tm)), (ma 1, .inl (G.2.2 0, 40, .inl (ja_ bf))), (ma 3, .inl (G.2.2 0, 432, .inl (ja_ kn))), (ma 4, .inl (G.2.2 0, 432, .inl (ja_ (va_up on (384 + t).toNat k158)))), (ma 5, .inl (G.2.2 0, 432, .inl (ja_ tw))), (ma 6, .inl (G.2.2 0, 432, .inl (ja_ th)))] := hh
                    refine xw_topi (y := (-1)) hp216 ?_
                    refine xw_iast F hh 4 (f := tw) rfl (i := 384 + t) (x := (-1)) (by omega) d_M_hasDigits_219 (fun H locs hh => ?_)
                    have hh : xw_H G (va_A [(mo, .inr (6, mo_ ma (len : Int) (a : Int) dp wy un pl sp pe tk du tm)), (ma 1, .inl (G.2.2 0, 40, .inl (ja_ bf))), (ma 3, .inl (G.2.2 0, 432, .inl (ja_ kn))), (ma 4, .inl (G.2.2 0, 432, .inl (ja_ on))), (ma 5, .inl (G.2.2 0, 432, .inl (ja_ tw))), (ma 6, .inl (G.2.2 0, 432, .inl (ja_ th)))] s.heap.size) s.heap H locs [(mo, .inr (6, mo_ ma (len : Int) (a216 : Int) dp wy un pl sp pe tk du tm)), (ma 1, .inl (G.2.2 0, 40, .inl (ja_ bf))), (ma 3, .inl (G.2.2 0, 432, .inl (ja_ kn))), (ma 4, .inl (G.2.2 0, 432, .inl (ja_ (va_up on (384 + t).toNat k158)))), (ma 5, .inl (G.2.2 0, 432, .inl (ja_ (va_up tw (384 + t).toNat (-1))))), (ma 6, .inl (G.2.2 0, 432, .inl (ja_ th)))] := hh
                    refine lv_aload_n hx hb d_M_hasDigits_220 rfl (lv_at hl 1 rfl) ?_
                    refine xw_get F hh.1 (v := .ref (ma 5)) fl_M_19_6 0 rfl rfl d_M_hasDigits_221 ?_
                    refine lv_sipush (v := xi_ 384) hx hb d_M_hasDigits_224 (by decide) ?_
                    refine lv_iload_n hx hb d_M_hasDigits_227 rfl (lv_at hl 2 rfl) ?_
                    refine xw_iadd hx hb d_M_hasDigits_228 ?_
                    refine xw_iald F hh.1 4 (f := va_up tw (384 + t).toNat (-1)) rfl (i := 384 + t) (by omega) d_M_hasDigits_229 ?_
                    refine xw_topi (y := (-1)) (by unfold va_up; rw [if_pos rfl]) ?_
                    refine xw_if_ge hx hb 235 d_M_hasDigits_230 (by decide) (by decide) (fun c230 => absurd c230 (by decide)) (fun c230 => ?_)
                    refine lv_iconst (v := xi_ 0) hx hb d_M_hasDigits_233 rfl ?_
                    have eR : (p_digs bf len (ks_ k) a) = (none, a216) := by
                      have ek : ks_ k = 69 := by
                        unfold ks_
                        rw [if_neg (by omega), if_neg (by omega), if_pos (by omega)]
                      rw [ek]
                      unfold p_digs
                      rw [if_neg (by omega), if_neg (by omega), if_pos rfl]
                      rw [← hP158]
                      (try dsimp only)
                      rw [show max 1 k158 = k158 by omega]
                      rw [← hP216]
                      (try dsimp only)
                    rw [eR]
                    have hB : ∀ j : Nat, j ≠ (384 + t).toNat → (va_up on (384 + t).toNat k158) j = on j ∧ (va_up tw (384 + t).toNat (-1)) j = tw j ∧ (th) j = th j := fun j hj => ⟨by unfold va_up; rw [if_neg hj], by unfold va_up; rw [if_neg hj], rfl⟩
                    exact xw_iret F hr hlk hh (by decide) (va_up on (384 + t).toNat k158, va_up tw (384 + t).toNat (-1), th) rfl ⟨rfl, hB, fun kk nn rr h => by cases h⟩ trivial d_M_hasDigits_234
                  · have hh : xw_H G (va_A [(mo, .inr (6, mo_ ma (len : Int) (a : Int) dp wy un pl sp pe tk du tm)), (ma 1, .inl (G.2.2 0, 40, .inl (ja_ bf))), (ma 3, .inl (G.2.2 0, 432, .inl (ja_ kn))), (ma 4, .inl (G.2.2 0, 432, .inl (ja_ on))), (ma 5, .inl (G.2.2 0, 432, .inl (ja_ tw))), (ma 6, .inl (G.2.2 0, 432, .inl (ja_ th)))] s.heap.size) s.heap H locs [(mo, .inr (6, mo_ ma (len : Int) (a216 : Int) dp wy un pl sp pe tk du tm)), (ma 1, .inl (G.2.2 0, 40, .inl (ja_ bf))), (ma 3, .inl (G.2.2 0, 432, .inl (ja_ kn))), (ma 4, .inl (G.2.2 0, 432, .inl (ja_ (va_up on (384 + t).toNat k158)))), (ma 5, .inl (G.2.2 0, 432, .inl (ja_ tw))), (ma 6, .inl (G.2.2 0, 432, .inl (ja_ th)))] := hh
                    have hd216 := hdg216.2.2.2 k216 rfl
                    refine xw_topi (y := k216) hp216 ?_
                    refine xw_iast F hh 4 (f := tw) rfl (i := 384 + t) (x := k216) (by omega) d_M_hasDigits_219 (fun H locs hh => ?_)
                    have hh : xw_H G (va_A [(mo, .inr (6, mo_ ma (len : Int) (a : Int) dp wy un pl sp pe tk du tm)), (ma 1, .inl (G.2.2 0, 40, .inl (ja_ bf))), (ma 3, .inl (G.2.2 0, 432, .inl (ja_ kn))), (ma 4, .inl (G.2.2 0, 432, .inl (ja_ on))), (ma 5, .inl (G.2.2 0, 432, .inl (ja_ tw))), (ma 6, .inl (G.2.2 0, 432, .inl (ja_ th)))] s.heap.size) s.heap H locs [(mo, .inr (6, mo_ ma (len : Int) (a216 : Int) dp wy un pl sp pe tk du tm)), (ma 1, .inl (G.2.2 0, 40, .inl (ja_ bf))), (ma 3, .inl (G.2.2 0, 432, .inl (ja_ kn))), (ma 4, .inl (G.2.2 0, 432, .inl (ja_ (va_up on (384 + t).toNat k158)))), (ma 5, .inl (G.2.2 0, 432, .inl (ja_ (va_up tw (384 + t).toNat k216)))), (ma 6, .inl (G.2.2 0, 432, .inl (ja_ th)))] := hh
                    refine lv_aload_n hx hb d_M_hasDigits_220 rfl (lv_at hl 1 rfl) ?_
                    refine xw_get F hh.1 (v := .ref (ma 5)) fl_M_19_6 0 rfl rfl d_M_hasDigits_221 ?_
                    refine lv_sipush (v := xi_ 384) hx hb d_M_hasDigits_224 (by decide) ?_
                    refine lv_iload_n hx hb d_M_hasDigits_227 rfl (lv_at hl 2 rfl) ?_
                    refine xw_iadd hx hb d_M_hasDigits_228 ?_
                    refine xw_iald F hh.1 4 (f := va_up tw (384 + t).toNat k216) rfl (i := 384 + t) (by omega) d_M_hasDigits_229 ?_
                    refine xw_topi (y := k216) (by unfold va_up; rw [if_pos rfl]) ?_
                    refine xw_if_ge hx hb 235 d_M_hasDigits_230 (by decide) (by omega) (fun c230 => ?_) (fun c230 => ?_)
                    · refine lv_aload_n hx hb d_M_hasDigits_235 rfl (lv_at hl 1 rfl) ?_
                      refine xw_get F hh.1 (v := .ref (ma 6)) fl_M_22_6 0 rfl rfl d_M_hasDigits_236 ?_
                      refine lv_sipush (v := xi_ 384) hx hb d_M_hasDigits_239 (by decide) ?_
                      refine lv_iload_n hx hb d_M_hasDigits_242 rfl (lv_at hl 2 rfl) ?_
                      refine xw_iadd hx hb d_M_hasDigits_243 ?_
                      refine lv_aload_n hx hb d_M_hasDigits_244 rfl (lv_at hl 1 rfl) ?_
                      refine lv_iconst (v := xi_ 0) hx hb d_M_hasDigits_245 rfl ?_
                      refine lv_bipush (v := xi_ 9) hx hb d_M_hasDigits_246 (by decide) ?_
                      refine xw_ci (wc := [(mo, .inr (6, mo_ ma (len : Int) (a216 : Int) dp wy un pl sp pe tk du tm)), (ma 1, .inl (G.2.2 0, 40, .inl (ja_ bf)))]) (wr := [(ma 3, .inl (G.2.2 0, 432, .inl (ja_ kn))), (ma 4, .inl (G.2.2 0, 432, .inl (ja_ (va_up on (384 + t).toNat k158)))), (ma 5, .inl (G.2.2 0, 432, .inl (ja_ (va_up tw (384 + t).toNat k216)))), (ma 6, .inl (G.2.2 0, 432, .inl (ja_ th)))]) hh [0, 1] [2, 3, 4, 5] rfl rfl rfl (by decide) (xw_rV F hh [0, 1] rfl rfl (c_M_digit l G H.size mo ma dp wy un pl sp pe tk du tm bf len a216 ⟨hla.1, by omega⟩ hbf 0 9 (by omega)) trivial lk_M_133 cd_M_digit se_M_digit _ hh.1 0 rfl rfl rfl rfl ⟨by decide, by decide⟩ rfl hl.1 rfl (Nat.le_of_ble_eq_true rfl) d_M_hasDigits_248 ⟨Nat.le_of_ble_eq_true rfl, Nat.le_of_ble_eq_true rfl⟩) (fun z248 u_ H locs hp248 hX hz hk hh => ?_)
                      have hh : xw_H G (va_A [(mo, .inr (6, mo_ ma (len : Int) (a : Int) dp wy un pl sp pe tk du tm)), (ma 1, .inl (G.2.2 0, 40, .inl (ja_ bf))), (ma 3, .inl (G.2.2 0, 432, .inl (ja_ kn))), (ma 4, .inl (G.2.2 0, 432, .inl (ja_ on))), (ma 5, .inl (G.2.2 0, 432, .inl (ja_ tw))), (ma 6, .inl (G.2.2 0, 432, .inl (ja_ th)))] s.heap.size) s.heap H locs [(mo, .inr (6, mo_ ma (len : Int) ((p_dig bf len 0 a216).2 : Int) dp wy un pl sp pe tk du tm)), (ma 1, .inl (G.2.2 0, 40, .inl (ja_ bf))), (ma 3, .inl (G.2.2 0, 432, .inl (ja_ kn))), (ma 4, .inl (G.2.2 0, 432, .inl (ja_ (va_up on (384 + t).toNat k158)))), (ma 5, .inl (G.2.2 0, 432, .inl (ja_ (va_up tw (384 + t).toNat k216)))), (ma 6, .inl (G.2.2 0, 432, .inl (ja_ th)))] := xw_H.sub hh [4, 5, 0, 1, 2, 3] rfl rfl
                      have hdg248 := p_dig_rng (tx := bf) (len := len) (low := 0) (at_ := a216)
                      have hdl248 := p_dig_le (tx := bf) (len := len) (low := 0) (at_ := a216) (by omega)
                      have hp248 : z248 = (p_dig bf len 0 a216).1.getD (-1) := hp248
                      obtain ⟨P248, hP248⟩ : ∃ P, P = p_dig bf len 0 a216 := ⟨_, rfl⟩
                      rw [← hP248] at hh hp248 hdg248 hdl248
                      rcases P248 with ⟨_ | k248, a248⟩
                      · have hh : xw_H G (va_A [(mo, .inr (6, mo_ ma (len : Int) (a : Int) dp wy un pl sp pe tk du tm)), (ma 1, .inl (G.2.2 0, 40, .inl (ja_ bf))), (ma 3, .inl (G.2.2 0, 432, .inl (ja_ kn))), (ma 4, .inl (G.2.2 0, 432, .inl (ja_ on))), (ma 5, .inl (G.2.2 0, 432, .inl (ja_ tw))), (ma 6, .inl (G.2.2 0, 432, .inl (ja_ th)))] s.heap.size) s.heap H locs [(mo, .inr (6, mo_ ma (len : Int) (a248 : Int) dp wy un pl sp pe tk du tm)), (ma 1, .inl (G.2.2 0, 40, .inl (ja_ bf))), (ma 3, .inl (G.2.2 0, 432, .inl (ja_ kn))), (ma 4, .inl (G.2.2 0, 432, .inl (ja_ (va_up on (384 + t).toNat k158)))), (ma 5, .inl (G.2.2 0, 432, .inl (ja_ (va_up tw (384 + t).toNat k216)))), (ma 6, .inl (G.2.2 0, 432, .inl (ja_ th)))] := hh
                        refine xw_topi (y := (-1)) hp248 ?_
                        refine xw_iast F hh 5 (f := th) rfl (i := 384 + t) (x := (-1)) (by omega) d_M_hasDigits_251 (fun H locs hh => ?_)
                        have hh : xw_H G (va_A [(mo, .inr (6, mo_ ma (len : Int) (a : Int) dp wy un pl sp pe tk du tm)), (ma 1, .inl (G.2.2 0, 40, .inl (ja_ bf))), (ma 3, .inl (G.2.2 0, 432, .inl (ja_ kn))), (ma 4, .inl (G.2.2 0, 432, .inl (ja_ on))), (ma 5, .inl (G.2.2 0, 432, .inl (ja_ tw))), (ma 6, .inl (G.2.2 0, 432, .inl (ja_ th)))] s.heap.size) s.heap H locs [(mo, .inr (6, mo_ ma (len : Int) (a248 : Int) dp wy un pl sp pe tk du tm)), (ma 1, .inl (G.2.2 0, 40, .inl (ja_ bf))), (ma 3, .inl (G.2.2 0, 432, .inl (ja_ kn))), (ma 4, .inl (G.2.2 0, 432, .inl (ja_ (va_up on (384 + t).toNat k158)))), (ma 5, .inl (G.2.2 0, 432, .inl (ja_ (va_up tw (384 + t).toNat k216)))), (ma 6, .inl (G.2.2 0, 432, .inl (ja_ (va_up th (384 + t).toNat (-1)))))] := hh
                        refine lv_aload_n hx hb d_M_hasDigits_252 rfl (lv_at hl 1 rfl) ?_
                        refine xw_get F hh.1 (v := .ref (ma 6)) fl_M_22_6 0 rfl rfl d_M_hasDigits_253 ?_
                        refine lv_sipush (v := xi_ 384) hx hb d_M_hasDigits_256 (by decide) ?_
                        refine lv_iload_n hx hb d_M_hasDigits_259 rfl (lv_at hl 2 rfl) ?_
                        refine xw_iadd hx hb d_M_hasDigits_260 ?_
                        refine xw_iald F hh.1 5 (f := va_up th (384 + t).toNat (-1)) rfl (i := 384 + t) (by omega) d_M_hasDigits_261 ?_
                        refine xw_topi (y := (-1)) (by unfold va_up; rw [if_pos rfl]) ?_
                        refine xw_if_lt hx hb 269 d_M_hasDigits_262 (by decide) (by decide) (fun c262 => ?_) (fun c262 => absurd c262 (by decide))
                        refine lv_iconst (v := xi_ 0) hx hb d_M_hasDigits_269 rfl ?_
                        have eR : (p_digs bf len (ks_ k) a) = (none, a248) := by
                          have ek : ks_ k = 69 := by
                            unfold ks_
                            rw [if_neg (by omega), if_neg (by omega), if_pos (by omega)]
                          rw [ek]
                          unfold p_digs
                          rw [if_neg (by omega), if_neg (by omega), if_pos rfl]
                          rw [← hP158]
                          (try dsimp only)
                          rw [show max 1 k158 = k158 by omega]
                          rw [← hP216]
                          (try dsimp only)
                          rw [← hP248]
                          (try dsimp only)
                        rw [eR]
                        have hB : ∀ j : Nat, j ≠ (384 + t).toNat → (va_up on (384 + t).toNat k158) j = on j ∧ (va_up tw (384 + t).toNat k216) j = tw j ∧ (va_up th (384 + t).toNat (-1)) j = th j := fun j hj => ⟨by unfold va_up; rw [if_neg hj], by unfold va_up; rw [if_neg hj], by unfold va_up; rw [if_neg hj]⟩
                        exact xw_iret F hr hlk hh (by decide) (va_up on (384 + t).toNat k158, va_up tw (384 + t).toNat k216, va_up th (384 + t).toNat (-1)) rfl ⟨rfl, hB, fun kk nn rr h => by cases h⟩ trivial d_M_hasDigits_270
                      · have hh : xw_H G (va_A [(mo, .inr (6, mo_ ma (len : Int) (a : Int) dp wy un pl sp pe tk du tm)), (ma 1, .inl (G.2.2 0, 40, .inl (ja_ bf))), (ma 3, .inl (G.2.2 0, 432, .inl (ja_ kn))), (ma 4, .inl (G.2.2 0, 432, .inl (ja_ on))), (ma 5, .inl (G.2.2 0, 432, .inl (ja_ tw))), (ma 6, .inl (G.2.2 0, 432, .inl (ja_ th)))] s.heap.size) s.heap H locs [(mo, .inr (6, mo_ ma (len : Int) (a248 : Int) dp wy un pl sp pe tk du tm)), (ma 1, .inl (G.2.2 0, 40, .inl (ja_ bf))), (ma 3, .inl (G.2.2 0, 432, .inl (ja_ kn))), (ma 4, .inl (G.2.2 0, 432, .inl (ja_ (va_up on (384 + t).toNat k158)))), (ma 5, .inl (G.2.2 0, 432, .inl (ja_ (va_up tw (384 + t).toNat k216)))), (ma 6, .inl (G.2.2 0, 432, .inl (ja_ th)))] := hh
                        have hd248 := hdg248.2.2.2 k248 rfl
                        refine xw_topi (y := k248) hp248 ?_
                        refine xw_iast F hh 5 (f := th) rfl (i := 384 + t) (x := k248) (by omega) d_M_hasDigits_251 (fun H locs hh => ?_)
                        have hh : xw_H G (va_A [(mo, .inr (6, mo_ ma (len : Int) (a : Int) dp wy un pl sp pe tk du tm)), (ma 1, .inl (G.2.2 0, 40, .inl (ja_ bf))), (ma 3, .inl (G.2.2 0, 432, .inl (ja_ kn))), (ma 4, .inl (G.2.2 0, 432, .inl (ja_ on))), (ma 5, .inl (G.2.2 0, 432, .inl (ja_ tw))), (ma 6, .inl (G.2.2 0, 432, .inl (ja_ th)))] s.heap.size) s.heap H locs [(mo, .inr (6, mo_ ma (len : Int) (a248 : Int) dp wy un pl sp pe tk du tm)), (ma 1, .inl (G.2.2 0, 40, .inl (ja_ bf))), (ma 3, .inl (G.2.2 0, 432, .inl (ja_ kn))), (ma 4, .inl (G.2.2 0, 432, .inl (ja_ (va_up on (384 + t).toNat k158)))), (ma 5, .inl (G.2.2 0, 432, .inl (ja_ (va_up tw (384 + t).toNat k216)))), (ma 6, .inl (G.2.2 0, 432, .inl (ja_ (va_up th (384 + t).toNat k248))))] := hh
                        refine lv_aload_n hx hb d_M_hasDigits_252 rfl (lv_at hl 1 rfl) ?_
                        refine xw_get F hh.1 (v := .ref (ma 6)) fl_M_22_6 0 rfl rfl d_M_hasDigits_253 ?_
                        refine lv_sipush (v := xi_ 384) hx hb d_M_hasDigits_256 (by decide) ?_
                        refine lv_iload_n hx hb d_M_hasDigits_259 rfl (lv_at hl 2 rfl) ?_
                        refine xw_iadd hx hb d_M_hasDigits_260 ?_
                        refine xw_iald F hh.1 5 (f := va_up th (384 + t).toNat k248) rfl (i := 384 + t) (by omega) d_M_hasDigits_261 ?_
                        refine xw_topi (y := k248) (by unfold va_up; rw [if_pos rfl]) ?_
                        refine xw_if_lt hx hb 269 d_M_hasDigits_262 (by decide) (by omega) (fun c262 => ?_) (fun c262 => ?_)
                        · refine lv_iconst (v := xi_ 0) hx hb d_M_hasDigits_269 rfl ?_
                          exfalso
                          omega
                        · refine lv_iconst (v := xi_ 1) hx hb d_M_hasDigits_265 rfl ?_
                          refine lv_goto (tgt := 270) hx hb d_M_hasDigits_266 (by decide) ?_
                          have eR : (p_digs bf len (ks_ k) a) = (some (k158, k216, k248), a248) := by
                            have ek : ks_ k = 69 := by
                              unfold ks_
                              rw [if_neg (by omega), if_neg (by omega), if_pos (by omega)]
                            rw [ek]
                            unfold p_digs
                            rw [if_neg (by omega), if_neg (by omega), if_pos rfl]
                            rw [← hP158]
                            (try dsimp only)
                            rw [show max 1 k158 = k158 by omega]
                            rw [← hP216]
                            (try dsimp only)
                            rw [← hP248]
                            (try dsimp only)
                          rw [eR]
                          have hB : ∀ j : Nat, j ≠ (384 + t).toNat → (va_up on (384 + t).toNat k158) j = on j ∧ (va_up tw (384 + t).toNat k216) j = tw j ∧ (va_up th (384 + t).toNat k248) j = th j := fun j hj => ⟨by unfold va_up; rw [if_neg hj], by unfold va_up; rw [if_neg hj], by unfold va_up; rw [if_neg hj]⟩
                          exact xw_iret F hr hlk hh (by decide) (va_up on (384 + t).toNat k158, va_up tw (384 + t).toNat k216, va_up th (384 + t).toNat k248) rfl ⟨rfl, hB, fun kk nn rr h => by
                            cases h
                            exact ⟨fun h9 => (by
                              (try dsimp only)
                              first
                              | (unfold va_up; rw [if_pos rfl])
                              | omega), fun h9 => (by
                              (try dsimp only)
                              first
                              | (unfold va_up; rw [if_pos rfl])
                              | omega), fun h9 => (by
                              (try dsimp only)
                              first
                              | (unfold va_up; rw [if_pos rfl])
                              | omega), fun h9 => (by
                              first
                              | rfl
                              | omega)⟩⟩ trivial d_M_hasDigits_270
                    · refine lv_iconst (v := xi_ 0) hx hb d_M_hasDigits_233 rfl ?_
                      exfalso
                      omega
              · refine lv_iconst (v := xi_ 0) hx hb d_M_hasDigits_175 rfl ?_
                exfalso
                omega
          · refine lv_iconst (v := xi_ 1) hx hb d_M_hasDigits_143 rfl ?_
            have eR : (p_digs bf len (ks_ k) a) = (some (1, 1, 0), a) := by
              have ek : ks_ k = 82 := by
                unfold ks_
                rw [if_neg (by omega), if_neg (by omega), if_neg (by omega)]
              rw [ek]
              unfold p_digs
              rw [if_neg (by omega), if_neg (by omega), if_neg (by omega)]
            rw [eR]
            have hB : ∀ j : Nat, j ≠ (384 + t).toNat → (on) j = on j ∧ (tw) j = tw j ∧ (th) j = th j := fun j hj => ⟨rfl, rfl, rfl⟩
            exact xw_iret F hr hlk hh (by decide) (on, tw, th) rfl ⟨rfl, hB, fun kk nn rr h => by
              cases h
              exact ⟨fun h9 => (by
                (try dsimp only)
                first
                | (unfold va_up; rw [if_pos rfl])
                | omega), fun h9 => (by
                (try dsimp only)
                first
                | (unfold va_up; rw [if_pos rfl])
                | omega), fun h9 => (by
                (try dsimp only)
                first
                | (unfold va_up; rw [if_pos rfl])
                | omega), fun h9 => (by
                first
                | rfl
                | omega)⟩⟩ trivial d_M_hasDigits_144
        · refine lv_aload_n hx hb d_M_hasDigits_69 rfl (lv_at hl 1 rfl) ?_
          refine xw_get F hh.1 (v := .ref (ma 4)) fl_M_16_6 0 rfl rfl d_M_hasDigits_70 ?_
          refine lv_sipush (v := xi_ 384) hx hb d_M_hasDigits_73 (by decide) ?_
          refine lv_iload_n hx hb d_M_hasDigits_76 rfl (lv_at hl 2 rfl) ?_
          refine xw_iadd hx hb d_M_hasDigits_77 ?_
          refine lv_aload_n hx hb d_M_hasDigits_78 rfl (lv_at hl 1 rfl) ?_
          refine lv_iconst (v := xi_ 1) hx hb d_M_hasDigits_79 rfl ?_
          refine lv_bipush (v := xi_ 9) hx hb d_M_hasDigits_80 (by decide) ?_
          refine xw_ci (wc := [(mo, .inr (6, mo_ ma (len : Int) (a : Int) dp wy un pl sp pe tk du tm)), (ma 1, .inl (G.2.2 0, 40, .inl (ja_ bf)))]) (wr := [(ma 3, .inl (G.2.2 0, 432, .inl (ja_ kn))), (ma 4, .inl (G.2.2 0, 432, .inl (ja_ on))), (ma 5, .inl (G.2.2 0, 432, .inl (ja_ tw))), (ma 6, .inl (G.2.2 0, 432, .inl (ja_ th)))]) hh [0, 1] [2, 3, 4, 5] rfl rfl rfl (by decide) (xw_rV F hh [0, 1] rfl rfl (c_M_digit l G s.heap.size mo ma dp wy un pl sp pe tk du tm bf len a ⟨hla.1, by omega⟩ hbf 1 9 (by omega)) trivial lk_M_133 cd_M_digit se_M_digit _ hh.1 0 rfl rfl rfl rfl ⟨by decide, by decide⟩ rfl hl.1 rfl (Nat.le_of_ble_eq_true rfl) d_M_hasDigits_82 ⟨Nat.le_of_ble_eq_true rfl, Nat.le_of_ble_eq_true rfl⟩) (fun z82 u_ H locs hp82 hX hz hk hh => ?_)
          have hh : xw_H G (va_A [(mo, .inr (6, mo_ ma (len : Int) (a : Int) dp wy un pl sp pe tk du tm)), (ma 1, .inl (G.2.2 0, 40, .inl (ja_ bf))), (ma 3, .inl (G.2.2 0, 432, .inl (ja_ kn))), (ma 4, .inl (G.2.2 0, 432, .inl (ja_ on))), (ma 5, .inl (G.2.2 0, 432, .inl (ja_ tw))), (ma 6, .inl (G.2.2 0, 432, .inl (ja_ th)))] s.heap.size) s.heap H locs [(mo, .inr (6, mo_ ma (len : Int) ((p_dig bf len 1 a).2 : Int) dp wy un pl sp pe tk du tm)), (ma 1, .inl (G.2.2 0, 40, .inl (ja_ bf))), (ma 3, .inl (G.2.2 0, 432, .inl (ja_ kn))), (ma 4, .inl (G.2.2 0, 432, .inl (ja_ on))), (ma 5, .inl (G.2.2 0, 432, .inl (ja_ tw))), (ma 6, .inl (G.2.2 0, 432, .inl (ja_ th)))] := xw_H.sub hh [4, 5, 0, 1, 2, 3] rfl rfl
          have hdg82 := p_dig_rng (tx := bf) (len := len) (low := 1) (at_ := a)
          have hdl82 := p_dig_le (tx := bf) (len := len) (low := 1) (at_ := a) (by omega)
          have hp82 : z82 = (p_dig bf len 1 a).1.getD (-1) := hp82
          obtain ⟨P82, hP82⟩ : ∃ P, P = p_dig bf len 1 a := ⟨_, rfl⟩
          rw [← hP82] at hh hp82 hdg82 hdl82
          rcases P82 with ⟨_ | k82, a82⟩
          · have hh : xw_H G (va_A [(mo, .inr (6, mo_ ma (len : Int) (a : Int) dp wy un pl sp pe tk du tm)), (ma 1, .inl (G.2.2 0, 40, .inl (ja_ bf))), (ma 3, .inl (G.2.2 0, 432, .inl (ja_ kn))), (ma 4, .inl (G.2.2 0, 432, .inl (ja_ on))), (ma 5, .inl (G.2.2 0, 432, .inl (ja_ tw))), (ma 6, .inl (G.2.2 0, 432, .inl (ja_ th)))] s.heap.size) s.heap H locs [(mo, .inr (6, mo_ ma (len : Int) (a82 : Int) dp wy un pl sp pe tk du tm)), (ma 1, .inl (G.2.2 0, 40, .inl (ja_ bf))), (ma 3, .inl (G.2.2 0, 432, .inl (ja_ kn))), (ma 4, .inl (G.2.2 0, 432, .inl (ja_ on))), (ma 5, .inl (G.2.2 0, 432, .inl (ja_ tw))), (ma 6, .inl (G.2.2 0, 432, .inl (ja_ th)))] := hh
            refine xw_topi (y := (-1)) hp82 ?_
            refine xw_iast F hh 3 (f := on) rfl (i := 384 + t) (x := (-1)) (by omega) d_M_hasDigits_85 (fun H locs hh => ?_)
            have hh : xw_H G (va_A [(mo, .inr (6, mo_ ma (len : Int) (a : Int) dp wy un pl sp pe tk du tm)), (ma 1, .inl (G.2.2 0, 40, .inl (ja_ bf))), (ma 3, .inl (G.2.2 0, 432, .inl (ja_ kn))), (ma 4, .inl (G.2.2 0, 432, .inl (ja_ on))), (ma 5, .inl (G.2.2 0, 432, .inl (ja_ tw))), (ma 6, .inl (G.2.2 0, 432, .inl (ja_ th)))] s.heap.size) s.heap H locs [(mo, .inr (6, mo_ ma (len : Int) (a82 : Int) dp wy un pl sp pe tk du tm)), (ma 1, .inl (G.2.2 0, 40, .inl (ja_ bf))), (ma 3, .inl (G.2.2 0, 432, .inl (ja_ kn))), (ma 4, .inl (G.2.2 0, 432, .inl (ja_ (va_up on (384 + t).toNat (-1))))), (ma 5, .inl (G.2.2 0, 432, .inl (ja_ tw))), (ma 6, .inl (G.2.2 0, 432, .inl (ja_ th)))] := hh
            refine lv_aload_n hx hb d_M_hasDigits_86 rfl (lv_at hl 1 rfl) ?_
            refine xw_get F hh.1 (v := .ref (ma 4)) fl_M_16_6 0 rfl rfl d_M_hasDigits_87 ?_
            refine lv_sipush (v := xi_ 384) hx hb d_M_hasDigits_90 (by decide) ?_
            refine lv_iload_n hx hb d_M_hasDigits_93 rfl (lv_at hl 2 rfl) ?_
            refine xw_iadd hx hb d_M_hasDigits_94 ?_
            refine xw_iald F hh.1 3 (f := va_up on (384 + t).toNat (-1)) rfl (i := 384 + t) (by omega) d_M_hasDigits_95 ?_
            refine xw_topi (y := (-1)) (by unfold va_up; rw [if_pos rfl]) ?_
            refine xw_if_ge hx hb 101 d_M_hasDigits_96 (by decide) (by decide) (fun c96 => absurd c96 (by decide)) (fun c96 => ?_)
            refine lv_iconst (v := xi_ 0) hx hb d_M_hasDigits_99 rfl ?_
            have eR : (p_digs bf len (ks_ k) a) = (none, a82) := by
              have ek : ks_ k = 76 := by
                unfold ks_
                rw [if_neg (by omega), if_pos (by omega)]
              rw [ek]
              unfold p_digs
              rw [if_neg (by omega), if_pos rfl]
              rw [← hP82]
              (try dsimp only)
            rw [eR]
            have hB : ∀ j : Nat, j ≠ (384 + t).toNat → (va_up on (384 + t).toNat (-1)) j = on j ∧ (tw) j = tw j ∧ (th) j = th j := fun j hj => ⟨by unfold va_up; rw [if_neg hj], rfl, rfl⟩
            exact xw_iret F hr hlk hh (by decide) (va_up on (384 + t).toNat (-1), tw, th) rfl ⟨rfl, hB, fun kk nn rr h => by cases h⟩ trivial d_M_hasDigits_100
          · have hh : xw_H G (va_A [(mo, .inr (6, mo_ ma (len : Int) (a : Int) dp wy un pl sp pe tk du tm)), (ma 1, .inl (G.2.2 0, 40, .inl (ja_ bf))), (ma 3, .inl (G.2.2 0, 432, .inl (ja_ kn))), (ma 4, .inl (G.2.2 0, 432, .inl (ja_ on))), (ma 5, .inl (G.2.2 0, 432, .inl (ja_ tw))), (ma 6, .inl (G.2.2 0, 432, .inl (ja_ th)))] s.heap.size) s.heap H locs [(mo, .inr (6, mo_ ma (len : Int) (a82 : Int) dp wy un pl sp pe tk du tm)), (ma 1, .inl (G.2.2 0, 40, .inl (ja_ bf))), (ma 3, .inl (G.2.2 0, 432, .inl (ja_ kn))), (ma 4, .inl (G.2.2 0, 432, .inl (ja_ on))), (ma 5, .inl (G.2.2 0, 432, .inl (ja_ tw))), (ma 6, .inl (G.2.2 0, 432, .inl (ja_ th)))] := hh
            have hd82 := hdg82.2.2.2 k82 rfl
            refine xw_topi (y := k82) hp82 ?_
            refine xw_iast F hh 3 (f := on) rfl (i := 384 + t) (x := k82) (by omega) d_M_hasDigits_85 (fun H locs hh => ?_)
            have hh : xw_H G (va_A [(mo, .inr (6, mo_ ma (len : Int) (a : Int) dp wy un pl sp pe tk du tm)), (ma 1, .inl (G.2.2 0, 40, .inl (ja_ bf))), (ma 3, .inl (G.2.2 0, 432, .inl (ja_ kn))), (ma 4, .inl (G.2.2 0, 432, .inl (ja_ on))), (ma 5, .inl (G.2.2 0, 432, .inl (ja_ tw))), (ma 6, .inl (G.2.2 0, 432, .inl (ja_ th)))] s.heap.size) s.heap H locs [(mo, .inr (6, mo_ ma (len : Int) (a82 : Int) dp wy un pl sp pe tk du tm)), (ma 1, .inl (G.2.2 0, 40, .inl (ja_ bf))), (ma 3, .inl (G.2.2 0, 432, .inl (ja_ kn))), (ma 4, .inl (G.2.2 0, 432, .inl (ja_ (va_up on (384 + t).toNat k82)))), (ma 5, .inl (G.2.2 0, 432, .inl (ja_ tw))), (ma 6, .inl (G.2.2 0, 432, .inl (ja_ th)))] := hh
            refine lv_aload_n hx hb d_M_hasDigits_86 rfl (lv_at hl 1 rfl) ?_
            refine xw_get F hh.1 (v := .ref (ma 4)) fl_M_16_6 0 rfl rfl d_M_hasDigits_87 ?_
            refine lv_sipush (v := xi_ 384) hx hb d_M_hasDigits_90 (by decide) ?_
            refine lv_iload_n hx hb d_M_hasDigits_93 rfl (lv_at hl 2 rfl) ?_
            refine xw_iadd hx hb d_M_hasDigits_94 ?_
            refine xw_iald F hh.1 3 (f := va_up on (384 + t).toNat k82) rfl (i := 384 + t) (by omega) d_M_hasDigits_95 ?_
            refine xw_topi (y := k82) (by unfold va_up; rw [if_pos rfl]) ?_
            refine xw_if_ge hx hb 101 d_M_hasDigits_96 (by decide) (by omega) (fun c96 => ?_) (fun c96 => ?_)
            · refine lv_aload_n hx hb d_M_hasDigits_101 rfl (lv_at hl 1 rfl) ?_
              refine xw_get F hh.1 (v := .ref (ma 5)) fl_M_19_6 0 rfl rfl d_M_hasDigits_102 ?_
              refine lv_sipush (v := xi_ 384) hx hb d_M_hasDigits_105 (by decide) ?_
              refine lv_iload_n hx hb d_M_hasDigits_108 rfl (lv_at hl 2 rfl) ?_
              refine xw_iadd hx hb d_M_hasDigits_109 ?_
              refine lv_aload_n hx hb d_M_hasDigits_110 rfl (lv_at hl 1 rfl) ?_
              refine lv_iconst (v := xi_ 1) hx hb d_M_hasDigits_111 rfl ?_
              refine lv_bipush (v := xi_ 9) hx hb d_M_hasDigits_112 (by decide) ?_
              refine xw_ci (wc := [(mo, .inr (6, mo_ ma (len : Int) (a82 : Int) dp wy un pl sp pe tk du tm)), (ma 1, .inl (G.2.2 0, 40, .inl (ja_ bf)))]) (wr := [(ma 3, .inl (G.2.2 0, 432, .inl (ja_ kn))), (ma 4, .inl (G.2.2 0, 432, .inl (ja_ (va_up on (384 + t).toNat k82)))), (ma 5, .inl (G.2.2 0, 432, .inl (ja_ tw))), (ma 6, .inl (G.2.2 0, 432, .inl (ja_ th)))]) hh [0, 1] [2, 3, 4, 5] rfl rfl rfl (by decide) (xw_rV F hh [0, 1] rfl rfl (c_M_digit l G H.size mo ma dp wy un pl sp pe tk du tm bf len a82 ⟨hla.1, by omega⟩ hbf 1 9 (by omega)) trivial lk_M_133 cd_M_digit se_M_digit _ hh.1 0 rfl rfl rfl rfl ⟨by decide, by decide⟩ rfl hl.1 rfl (Nat.le_of_ble_eq_true rfl) d_M_hasDigits_114 ⟨Nat.le_of_ble_eq_true rfl, Nat.le_of_ble_eq_true rfl⟩) (fun z114 u_ H locs hp114 hX hz hk hh => ?_)
              have hh : xw_H G (va_A [(mo, .inr (6, mo_ ma (len : Int) (a : Int) dp wy un pl sp pe tk du tm)), (ma 1, .inl (G.2.2 0, 40, .inl (ja_ bf))), (ma 3, .inl (G.2.2 0, 432, .inl (ja_ kn))), (ma 4, .inl (G.2.2 0, 432, .inl (ja_ on))), (ma 5, .inl (G.2.2 0, 432, .inl (ja_ tw))), (ma 6, .inl (G.2.2 0, 432, .inl (ja_ th)))] s.heap.size) s.heap H locs [(mo, .inr (6, mo_ ma (len : Int) ((p_dig bf len 1 a82).2 : Int) dp wy un pl sp pe tk du tm)), (ma 1, .inl (G.2.2 0, 40, .inl (ja_ bf))), (ma 3, .inl (G.2.2 0, 432, .inl (ja_ kn))), (ma 4, .inl (G.2.2 0, 432, .inl (ja_ (va_up on (384 + t).toNat k82)))), (ma 5, .inl (G.2.2 0, 432, .inl (ja_ tw))), (ma 6, .inl (G.2.2 0, 432, .inl (ja_ th)))] := xw_H.sub hh [4, 5, 0, 1, 2, 3] rfl rfl
              have hdg114 := p_dig_rng (tx := bf) (len := len) (low := 1) (at_ := a82)
              have hdl114 := p_dig_le (tx := bf) (len := len) (low := 1) (at_ := a82) (by omega)
              have hp114 : z114 = (p_dig bf len 1 a82).1.getD (-1) := hp114
              obtain ⟨P114, hP114⟩ : ∃ P, P = p_dig bf len 1 a82 := ⟨_, rfl⟩
              rw [← hP114] at hh hp114 hdg114 hdl114
              rcases P114 with ⟨_ | k114, a114⟩
              · have hh : xw_H G (va_A [(mo, .inr (6, mo_ ma (len : Int) (a : Int) dp wy un pl sp pe tk du tm)), (ma 1, .inl (G.2.2 0, 40, .inl (ja_ bf))), (ma 3, .inl (G.2.2 0, 432, .inl (ja_ kn))), (ma 4, .inl (G.2.2 0, 432, .inl (ja_ on))), (ma 5, .inl (G.2.2 0, 432, .inl (ja_ tw))), (ma 6, .inl (G.2.2 0, 432, .inl (ja_ th)))] s.heap.size) s.heap H locs [(mo, .inr (6, mo_ ma (len : Int) (a114 : Int) dp wy un pl sp pe tk du tm)), (ma 1, .inl (G.2.2 0, 40, .inl (ja_ bf))), (ma 3, .inl (G.2.2 0, 432, .inl (ja_ kn))), (ma 4, .inl (G.2.2 0, 432, .inl (ja_ (va_up on (384 + t).toNat k82)))), (ma 5, .inl (G.2.2 0, 432, .inl (ja_ tw))), (ma 6, .inl (G.2.2 0, 432, .inl (ja_ th)))] := hh
                refine xw_topi (y := (-1)) hp114 ?_
                refine xw_iast F hh 4 (f := tw) rfl (i := 384 + t) (x := (-1)) (by omega) d_M_hasDigits_117 (fun H locs hh => ?_)
                have hh : xw_H G (va_A [(mo, .inr (6, mo_ ma (len : Int) (a : Int) dp wy un pl sp pe tk du tm)), (ma 1, .inl (G.2.2 0, 40, .inl (ja_ bf))), (ma 3, .inl (G.2.2 0, 432, .inl (ja_ kn))), (ma 4, .inl (G.2.2 0, 432, .inl (ja_ on))), (ma 5, .inl (G.2.2 0, 432, .inl (ja_ tw))), (ma 6, .inl (G.2.2 0, 432, .inl (ja_ th)))] s.heap.size) s.heap H locs [(mo, .inr (6, mo_ ma (len : Int) (a114 : Int) dp wy un pl sp pe tk du tm)), (ma 1, .inl (G.2.2 0, 40, .inl (ja_ bf))), (ma 3, .inl (G.2.2 0, 432, .inl (ja_ kn))), (ma 4, .inl (G.2.2 0, 432, .inl (ja_ (va_up on (384 + t).toNat k82)))), (ma 5, .inl (G.2.2 0, 432, .inl (ja_ (va_up tw (384 + t).toNat (-1))))), (ma 6, .inl (G.2.2 0, 432, .inl (ja_ th)))] := hh
                refine lv_aload_n hx hb d_M_hasDigits_118 rfl (lv_at hl 1 rfl) ?_
                refine xw_get F hh.1 (v := .ref (ma 5)) fl_M_19_6 0 rfl rfl d_M_hasDigits_119 ?_
                refine lv_sipush (v := xi_ 384) hx hb d_M_hasDigits_122 (by decide) ?_
                refine lv_iload_n hx hb d_M_hasDigits_125 rfl (lv_at hl 2 rfl) ?_
                refine xw_iadd hx hb d_M_hasDigits_126 ?_
                refine xw_iald F hh.1 4 (f := va_up tw (384 + t).toNat (-1)) rfl (i := 384 + t) (by omega) d_M_hasDigits_127 ?_
                refine xw_topi (y := (-1)) (by unfold va_up; rw [if_pos rfl]) ?_
                refine xw_if_le hx hb 135 d_M_hasDigits_128 (by decide) (by decide) (fun c128 => ?_) (fun c128 => absurd c128 (by decide))
                refine lv_iconst (v := xi_ 0) hx hb d_M_hasDigits_135 rfl ?_
                have eR : (p_digs bf len (ks_ k) a) = (none, a114) := by
                  have ek : ks_ k = 76 := by
                    unfold ks_
                    rw [if_neg (by omega), if_pos (by omega)]
                  rw [ek]
                  unfold p_digs
                  rw [if_neg (by omega), if_pos rfl]
                  rw [← hP82]
                  (try dsimp only)
                  rw [← hP114]
                  (try dsimp only)
                rw [eR]
                have hB : ∀ j : Nat, j ≠ (384 + t).toNat → (va_up on (384 + t).toNat k82) j = on j ∧ (va_up tw (384 + t).toNat (-1)) j = tw j ∧ (th) j = th j := fun j hj => ⟨by unfold va_up; rw [if_neg hj], by unfold va_up; rw [if_neg hj], rfl⟩
                exact xw_iret F hr hlk hh (by decide) (va_up on (384 + t).toNat k82, va_up tw (384 + t).toNat (-1), th) rfl ⟨rfl, hB, fun kk nn rr h => by cases h⟩ trivial d_M_hasDigits_136
              · have hh : xw_H G (va_A [(mo, .inr (6, mo_ ma (len : Int) (a : Int) dp wy un pl sp pe tk du tm)), (ma 1, .inl (G.2.2 0, 40, .inl (ja_ bf))), (ma 3, .inl (G.2.2 0, 432, .inl (ja_ kn))), (ma 4, .inl (G.2.2 0, 432, .inl (ja_ on))), (ma 5, .inl (G.2.2 0, 432, .inl (ja_ tw))), (ma 6, .inl (G.2.2 0, 432, .inl (ja_ th)))] s.heap.size) s.heap H locs [(mo, .inr (6, mo_ ma (len : Int) (a114 : Int) dp wy un pl sp pe tk du tm)), (ma 1, .inl (G.2.2 0, 40, .inl (ja_ bf))), (ma 3, .inl (G.2.2 0, 432, .inl (ja_ kn))), (ma 4, .inl (G.2.2 0, 432, .inl (ja_ (va_up on (384 + t).toNat k82)))), (ma 5, .inl (G.2.2 0, 432, .inl (ja_ tw))), (ma 6, .inl (G.2.2 0, 432, .inl (ja_ th)))] := hh
                have hd114 := hdg114.2.2.2 k114 rfl
                refine xw_topi (y := k114) hp114 ?_
                refine xw_iast F hh 4 (f := tw) rfl (i := 384 + t) (x := k114) (by omega) d_M_hasDigits_117 (fun H locs hh => ?_)
                have hh : xw_H G (va_A [(mo, .inr (6, mo_ ma (len : Int) (a : Int) dp wy un pl sp pe tk du tm)), (ma 1, .inl (G.2.2 0, 40, .inl (ja_ bf))), (ma 3, .inl (G.2.2 0, 432, .inl (ja_ kn))), (ma 4, .inl (G.2.2 0, 432, .inl (ja_ on))), (ma 5, .inl (G.2.2 0, 432, .inl (ja_ tw))), (ma 6, .inl (G.2.2 0, 432, .inl (ja_ th)))] s.heap.size) s.heap H locs [(mo, .inr (6, mo_ ma (len : Int) (a114 : Int) dp wy un pl sp pe tk du tm)), (ma 1, .inl (G.2.2 0, 40, .inl (ja_ bf))), (ma 3, .inl (G.2.2 0, 432, .inl (ja_ kn))), (ma 4, .inl (G.2.2 0, 432, .inl (ja_ (va_up on (384 + t).toNat k82)))), (ma 5, .inl (G.2.2 0, 432, .inl (ja_ (va_up tw (384 + t).toNat k114)))), (ma 6, .inl (G.2.2 0, 432, .inl (ja_ th)))] := hh
                refine lv_aload_n hx hb d_M_hasDigits_118 rfl (lv_at hl 1 rfl) ?_
                refine xw_get F hh.1 (v := .ref (ma 5)) fl_M_19_6 0 rfl rfl d_M_hasDigits_119 ?_
                refine lv_sipush (v := xi_ 384) hx hb d_M_hasDigits_122 (by decide) ?_
                refine lv_iload_n hx hb d_M_hasDigits_125 rfl (lv_at hl 2 rfl) ?_
                refine xw_iadd hx hb d_M_hasDigits_126 ?_
                refine xw_iald F hh.1 4 (f := va_up tw (384 + t).toNat k114) rfl (i := 384 + t) (by omega) d_M_hasDigits_127 ?_
                refine xw_topi (y := k114) (by unfold va_up; rw [if_pos rfl]) ?_
                refine xw_if_le hx hb 135 d_M_hasDigits_128 (by decide) (by omega) (fun c128 => ?_) (fun c128 => ?_)
                · refine lv_iconst (v := xi_ 0) hx hb d_M_hasDigits_135 rfl ?_
                  exfalso
                  omega
                · refine lv_iconst (v := xi_ 1) hx hb d_M_hasDigits_131 rfl ?_
                  refine lv_goto (tgt := 136) hx hb d_M_hasDigits_132 (by decide) ?_
                  have eR : (p_digs bf len (ks_ k) a) = (some (k82, k114, 0), a114) := by
                    have ek : ks_ k = 76 := by
                      unfold ks_
                      rw [if_neg (by omega), if_pos (by omega)]
                    rw [ek]
                    unfold p_digs
                    rw [if_neg (by omega), if_pos rfl]
                    rw [← hP82]
                    (try dsimp only)
                    rw [← hP114]
                    (try dsimp only)
                  rw [eR]
                  have hB : ∀ j : Nat, j ≠ (384 + t).toNat → (va_up on (384 + t).toNat k82) j = on j ∧ (va_up tw (384 + t).toNat k114) j = tw j ∧ (th) j = th j := fun j hj => ⟨by unfold va_up; rw [if_neg hj], by unfold va_up; rw [if_neg hj], rfl⟩
                  exact xw_iret F hr hlk hh (by decide) (va_up on (384 + t).toNat k82, va_up tw (384 + t).toNat k114, th) rfl ⟨rfl, hB, fun kk nn rr h => by
                    cases h
                    exact ⟨fun h9 => (by
                      (try dsimp only)
                      first
                      | (unfold va_up; rw [if_pos rfl])
                      | omega), fun h9 => (by
                      (try dsimp only)
                      first
                      | (unfold va_up; rw [if_pos rfl])
                      | omega), fun h9 => (by
                      (try dsimp only)
                      first
                      | (unfold va_up; rw [if_pos rfl])
                      | omega), fun h9 => (by
                      first
                      | rfl
                      | omega)⟩⟩ trivial d_M_hasDigits_136
            · refine lv_iconst (v := xi_ 0) hx hb d_M_hasDigits_99 rfl ?_
              exfalso
              omega
      · refine lv_aload_n hx hb d_M_hasDigits_27 rfl (lv_at hl 1 rfl) ?_
        refine xw_get F hh.1 (v := .ref (ma 4)) fl_M_16_6 0 rfl rfl d_M_hasDigits_28 ?_
        refine lv_sipush (v := xi_ 384) hx hb d_M_hasDigits_31 (by decide) ?_
        refine lv_iload_n hx hb d_M_hasDigits_34 rfl (lv_at hl 2 rfl) ?_
        refine xw_iadd hx hb d_M_hasDigits_35 ?_
        refine lv_aload_n hx hb d_M_hasDigits_36 rfl (lv_at hl 1 rfl) ?_
        refine lv_iconst (v := xi_ 1) hx hb d_M_hasDigits_37 rfl ?_
        refine lv_bipush (v := xi_ 9) hx hb d_M_hasDigits_38 (by decide) ?_
        refine xw_ci (wc := [(mo, .inr (6, mo_ ma (len : Int) (a : Int) dp wy un pl sp pe tk du tm)), (ma 1, .inl (G.2.2 0, 40, .inl (ja_ bf)))]) (wr := [(ma 3, .inl (G.2.2 0, 432, .inl (ja_ kn))), (ma 4, .inl (G.2.2 0, 432, .inl (ja_ on))), (ma 5, .inl (G.2.2 0, 432, .inl (ja_ tw))), (ma 6, .inl (G.2.2 0, 432, .inl (ja_ th)))]) hh [0, 1] [2, 3, 4, 5] rfl rfl rfl (by decide) (xw_rV F hh [0, 1] rfl rfl (c_M_digit l G s.heap.size mo ma dp wy un pl sp pe tk du tm bf len a ⟨hla.1, by omega⟩ hbf 1 9 (by omega)) trivial lk_M_133 cd_M_digit se_M_digit _ hh.1 0 rfl rfl rfl rfl ⟨by decide, by decide⟩ rfl hl.1 rfl (Nat.le_of_ble_eq_true rfl) d_M_hasDigits_40 ⟨Nat.le_of_ble_eq_true rfl, Nat.le_of_ble_eq_true rfl⟩) (fun z40 u_ H locs hp40 hX hz hk hh => ?_)
        have hh : xw_H G (va_A [(mo, .inr (6, mo_ ma (len : Int) (a : Int) dp wy un pl sp pe tk du tm)), (ma 1, .inl (G.2.2 0, 40, .inl (ja_ bf))), (ma 3, .inl (G.2.2 0, 432, .inl (ja_ kn))), (ma 4, .inl (G.2.2 0, 432, .inl (ja_ on))), (ma 5, .inl (G.2.2 0, 432, .inl (ja_ tw))), (ma 6, .inl (G.2.2 0, 432, .inl (ja_ th)))] s.heap.size) s.heap H locs [(mo, .inr (6, mo_ ma (len : Int) ((p_dig bf len 1 a).2 : Int) dp wy un pl sp pe tk du tm)), (ma 1, .inl (G.2.2 0, 40, .inl (ja_ bf))), (ma 3, .inl (G.2.2 0, 432, .inl (ja_ kn))), (ma 4, .inl (G.2.2 0, 432, .inl (ja_ on))), (ma 5, .inl (G.2.2 0, 432, .inl (ja_ tw))), (ma 6, .inl (G.2.2 0, 432, .inl (ja_ th)))] := xw_H.sub hh [4, 5, 0, 1, 2, 3] rfl rfl
        have hdg40 := p_dig_rng (tx := bf) (len := len) (low := 1) (at_ := a)
        have hdl40 := p_dig_le (tx := bf) (len := len) (low := 1) (at_ := a) (by omega)
        have hp40 : z40 = (p_dig bf len 1 a).1.getD (-1) := hp40
        obtain ⟨P40, hP40⟩ : ∃ P, P = p_dig bf len 1 a := ⟨_, rfl⟩
        rw [← hP40] at hh hp40 hdg40 hdl40
        rcases P40 with ⟨_ | k40, a40⟩
        · have hh : xw_H G (va_A [(mo, .inr (6, mo_ ma (len : Int) (a : Int) dp wy un pl sp pe tk du tm)), (ma 1, .inl (G.2.2 0, 40, .inl (ja_ bf))), (ma 3, .inl (G.2.2 0, 432, .inl (ja_ kn))), (ma 4, .inl (G.2.2 0, 432, .inl (ja_ on))), (ma 5, .inl (G.2.2 0, 432, .inl (ja_ tw))), (ma 6, .inl (G.2.2 0, 432, .inl (ja_ th)))] s.heap.size) s.heap H locs [(mo, .inr (6, mo_ ma (len : Int) (a40 : Int) dp wy un pl sp pe tk du tm)), (ma 1, .inl (G.2.2 0, 40, .inl (ja_ bf))), (ma 3, .inl (G.2.2 0, 432, .inl (ja_ kn))), (ma 4, .inl (G.2.2 0, 432, .inl (ja_ on))), (ma 5, .inl (G.2.2 0, 432, .inl (ja_ tw))), (ma 6, .inl (G.2.2 0, 432, .inl (ja_ th)))] := hh
          refine xw_topi (y := (-1)) hp40 ?_
          refine xw_iast F hh 3 (f := on) rfl (i := 384 + t) (x := (-1)) (by omega) d_M_hasDigits_43 (fun H locs hh => ?_)
          have hh : xw_H G (va_A [(mo, .inr (6, mo_ ma (len : Int) (a : Int) dp wy un pl sp pe tk du tm)), (ma 1, .inl (G.2.2 0, 40, .inl (ja_ bf))), (ma 3, .inl (G.2.2 0, 432, .inl (ja_ kn))), (ma 4, .inl (G.2.2 0, 432, .inl (ja_ on))), (ma 5, .inl (G.2.2 0, 432, .inl (ja_ tw))), (ma 6, .inl (G.2.2 0, 432, .inl (ja_ th)))] s.heap.size) s.heap H locs [(mo, .inr (6, mo_ ma (len : Int) (a40 : Int) dp wy un pl sp pe tk du tm)), (ma 1, .inl (G.2.2 0, 40, .inl (ja_ bf))), (ma 3, .inl (G.2.2 0, 432, .inl (ja_ kn))), (ma 4, .inl (G.2.2 0, 432, .inl (ja_ (va_up on (384 + t).toNat (-1))))), (ma 5, .inl (G.2.2 0, 432, .inl (ja_ tw))), (ma 6, .inl (G.2.2 0, 432, .inl (ja_ th)))] := hh
          refine lv_aload_n hx hb d_M_hasDigits_44 rfl (lv_at hl 1 rfl) ?_
          refine xw_get F hh.1 (v := .ref (ma 4)) fl_M_16_6 0 rfl rfl d_M_hasDigits_45 ?_
          refine lv_sipush (v := xi_ 384) hx hb d_M_hasDigits_48 (by decide) ?_
          refine lv_iload_n hx hb d_M_hasDigits_51 rfl (lv_at hl 2 rfl) ?_
          refine xw_iadd hx hb d_M_hasDigits_52 ?_
          refine xw_iald F hh.1 3 (f := va_up on (384 + t).toNat (-1)) rfl (i := 384 + t) (by omega) d_M_hasDigits_53 ?_
          refine xw_topi (y := (-1)) (by unfold va_up; rw [if_pos rfl]) ?_
          refine xw_if_le hx hb 61 d_M_hasDigits_54 (by decide) (by decide) (fun c54 => ?_) (fun c54 => absurd c54 (by decide))
          refine lv_iconst (v := xi_ 0) hx hb d_M_hasDigits_61 rfl ?_
          have eR : (p_digs bf len (ks_ k) a) = (none, a40) := by
            have ek : ks_ k = 70 := by
              unfold ks_
              rw [if_pos (by omega)]
            rw [ek]
            unfold p_digs
            rw [if_pos (Or.inl rfl)]
            rw [← hP40]
            (try dsimp only)
          rw [eR]
          have hB : ∀ j : Nat, j ≠ (384 + t).toNat → (va_up on (384 + t).toNat (-1)) j = on j ∧ (tw) j = tw j ∧ (th) j = th j := fun j hj => ⟨by unfold va_up; rw [if_neg hj], rfl, rfl⟩
          exact xw_iret F hr hlk hh (by decide) (va_up on (384 + t).toNat (-1), tw, th) rfl ⟨rfl, hB, fun kk nn rr h => by cases h⟩ trivial d_M_hasDigits_62
        · have hh : xw_H G (va_A [(mo, .inr (6, mo_ ma (len : Int) (a : Int) dp wy un pl sp pe tk du tm)), (ma 1, .inl (G.2.2 0, 40, .inl (ja_ bf))), (ma 3, .inl (G.2.2 0, 432, .inl (ja_ kn))), (ma 4, .inl (G.2.2 0, 432, .inl (ja_ on))), (ma 5, .inl (G.2.2 0, 432, .inl (ja_ tw))), (ma 6, .inl (G.2.2 0, 432, .inl (ja_ th)))] s.heap.size) s.heap H locs [(mo, .inr (6, mo_ ma (len : Int) (a40 : Int) dp wy un pl sp pe tk du tm)), (ma 1, .inl (G.2.2 0, 40, .inl (ja_ bf))), (ma 3, .inl (G.2.2 0, 432, .inl (ja_ kn))), (ma 4, .inl (G.2.2 0, 432, .inl (ja_ on))), (ma 5, .inl (G.2.2 0, 432, .inl (ja_ tw))), (ma 6, .inl (G.2.2 0, 432, .inl (ja_ th)))] := hh
          have hd40 := hdg40.2.2.2 k40 rfl
          refine xw_topi (y := k40) hp40 ?_
          refine xw_iast F hh 3 (f := on) rfl (i := 384 + t) (x := k40) (by omega) d_M_hasDigits_43 (fun H locs hh => ?_)
          have hh : xw_H G (va_A [(mo, .inr (6, mo_ ma (len : Int) (a : Int) dp wy un pl sp pe tk du tm)), (ma 1, .inl (G.2.2 0, 40, .inl (ja_ bf))), (ma 3, .inl (G.2.2 0, 432, .inl (ja_ kn))), (ma 4, .inl (G.2.2 0, 432, .inl (ja_ on))), (ma 5, .inl (G.2.2 0, 432, .inl (ja_ tw))), (ma 6, .inl (G.2.2 0, 432, .inl (ja_ th)))] s.heap.size) s.heap H locs [(mo, .inr (6, mo_ ma (len : Int) (a40 : Int) dp wy un pl sp pe tk du tm)), (ma 1, .inl (G.2.2 0, 40, .inl (ja_ bf))), (ma 3, .inl (G.2.2 0, 432, .inl (ja_ kn))), (ma 4, .inl (G.2.2 0, 432, .inl (ja_ (va_up on (384 + t).toNat k40)))), (ma 5, .inl (G.2.2 0, 432, .inl (ja_ tw))), (ma 6, .inl (G.2.2 0, 432, .inl (ja_ th)))] := hh
          refine lv_aload_n hx hb d_M_hasDigits_44 rfl (lv_at hl 1 rfl) ?_
          refine xw_get F hh.1 (v := .ref (ma 4)) fl_M_16_6 0 rfl rfl d_M_hasDigits_45 ?_
          refine lv_sipush (v := xi_ 384) hx hb d_M_hasDigits_48 (by decide) ?_
          refine lv_iload_n hx hb d_M_hasDigits_51 rfl (lv_at hl 2 rfl) ?_
          refine xw_iadd hx hb d_M_hasDigits_52 ?_
          refine xw_iald F hh.1 3 (f := va_up on (384 + t).toNat k40) rfl (i := 384 + t) (by omega) d_M_hasDigits_53 ?_
          refine xw_topi (y := k40) (by unfold va_up; rw [if_pos rfl]) ?_
          refine xw_if_le hx hb 61 d_M_hasDigits_54 (by decide) (by omega) (fun c54 => ?_) (fun c54 => ?_)
          · refine lv_iconst (v := xi_ 0) hx hb d_M_hasDigits_61 rfl ?_
            exfalso
            omega
          · refine lv_iconst (v := xi_ 1) hx hb d_M_hasDigits_57 rfl ?_
            refine lv_goto (tgt := 62) hx hb d_M_hasDigits_58 (by decide) ?_
            have eR : (p_digs bf len (ks_ k) a) = (some (k40, 1, 0), a40) := by
              have ek : ks_ k = 70 := by
                unfold ks_
                rw [if_pos (by omega)]
              rw [ek]
              unfold p_digs
              rw [if_pos (Or.inl rfl)]
              rw [← hP40]
              (try dsimp only)
            rw [eR]
            have hB : ∀ j : Nat, j ≠ (384 + t).toNat → (va_up on (384 + t).toNat k40) j = on j ∧ (tw) j = tw j ∧ (th) j = th j := fun j hj => ⟨by unfold va_up; rw [if_neg hj], rfl, rfl⟩
            exact xw_iret F hr hlk hh (by decide) (va_up on (384 + t).toNat k40, tw, th) rfl ⟨rfl, hB, fun kk nn rr h => by
              cases h
              exact ⟨fun h9 => (by
                (try dsimp only)
                first
                | (unfold va_up; rw [if_pos rfl])
                | omega), fun h9 => (by
                (try dsimp only)
                first
                | (unfold va_up; rw [if_pos rfl])
                | omega), fun h9 => (by
                (try dsimp only)
                first
                | (unfold va_up; rw [if_pos rfl])
                | omega), fun h9 => (by
                first
                | rfl
                | omega)⟩⟩ trivial d_M_hasDigits_62
