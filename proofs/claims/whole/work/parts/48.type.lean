/-! signs in a long; Reader.signAt, areTypeable, append, its constructor -/
/-- the byte with i bytes below it -/
def by_ (ch i : Int) : Int := (((xl_ ch).toUInt64 >>> ((xi_ (8 * i)).toInt64.toUInt64 &&& Int64.toUInt64 63)).toInt64 &&& xl_ 255).toInt
theorem and255 (y : Int64) : 0 ≤ (y &&& xl_ 255).toInt ∧ (y &&& xl_ 255).toInt ≤ 255 := by
  have h : (y &&& xl_ 255).toInt = (y.toBitVec &&& 255#64).toInt := rfl
  have h2 : (y.toBitVec &&& 255#64).toNat ≤ 255 := by
    rw [BitVec.toNat_and]
    exact Nat.and_le_right
  rw [h, BitVec.toInt_eq_toNat_cond, if_pos (by omega)]
  omega
theorem by_rng (ch i : Int) : 0 ≤ by_ ch i ∧ by_ ch i ≤ 255 := and255 _
/-- the first n of them are signs that can be typed -/
def ty_ok (ch : Int) (n : Nat) : Bool := (List.range n).all (fun i => decide (33 ≤ by_ ch (i : Int) ∧ by_ ch (i : Int) ≤ 126))
theorem ty_s (ch : Int) (n : Nat) : ty_ok ch (n + 1) = (ty_ok ch n && decide (33 ≤ by_ ch (n : Int) ∧ by_ ch (n : Int) ≤ 126)) := by
  unfold ty_ok
  rw [List.range_succ, List.all_append]
  simp
theorem ty_mono {ch : Int} {m n : Nat} (h : m ≤ n) (hn : ty_ok ch n = true) : ty_ok ch m = true := by
  unfold ty_ok at *
  rw [List.all_eq_true] at *
  exact fun x hx => hn x (List.mem_range.mpr (Nat.lt_of_lt_of_le (List.mem_range.mp hx) h))
/-- a text and m of n signs behind it -/
def tx_app (txt : Nat → Int) (len : Nat) (ch : Int) (n m : Nat) : Nat → Int := fun j => if len ≤ j ∧ j < len + m then by_ ch ((n : Int) - 1 - ((j : Int) - (len : Int))) else txt j
theorem tx_app0 (txt : Nat → Int) (len : Nat) (ch : Int) (n : Nat) : tx_app txt len ch n 0 = txt := by
  funext j
  unfold tx_app
  rw [if_neg (by omega)]
theorem tx_app_s (txt : Nat → Int) (len : Nat) (ch : Int) (n m : Nat) : va_up (tx_app txt len ch n m) (len + m) (by_ ch ((n : Int) - 1 - (m : Int))) = tx_app txt len ch n (m + 1) := by
  funext j
  unfold va_up tx_app
  by_cases hj : j = len + m
  · subst hj
    rw [if_pos rfl, if_pos (by omega)]
    congr 1
    omega
  · rw [if_neg hj]
    by_cases h2 : len ≤ j ∧ j < len + m
    · rw [if_pos h2, if_pos (by omega)]
    · rw [if_neg h2, if_neg (by omega)]
theorem tx_app_rng {txt : Nat → Int} (htx : ∀ j : Nat, 0 ≤ txt j ∧ txt j ≤ 65535) (len : Nat) (ch : Int) (n m : Nat) : ∀ j : Nat, 0 ≤ tx_app txt len ch n m j ∧ tx_app txt len ch n m j ≤ 65535 := by
  intro j
  unfold tx_app
  split
  · have := by_rng ch ((n : Int) - 1 - ((j : Int) - (len : Int)))
    omega
  · exact htx j
def rm_Rd_signAt : Room := { frames := 0, cells := 0, slots := 0, locals := 0 }
set_option maxHeartbeats 4000000 in
set_option maxRecDepth 100000 in
theorem c_Rd_signAt (l : Launch) (G : GG_) (sz : Nat) (ch i : Int) (hi : 0 ≤ i ∧ i ≤ 7) : Met l y_Rd_signAt (cw_ y_Rd_signAt b_Rd_signAt 3 (some .char)) rm_Rd_signAt (xw_P G [.long (xl_ ch), .int (xi_ i)] sz [] (fun _ => True)) (xw_Qi (S := Unit) G sz [] (fun z _ => z = by_ ch i) (fun _ => []) (fun _ _ => True)) 0 0 (va_A [] sz) := by
  refine xw_met (by decide) (Nat.le_of_ble_eq_true rfl) ?_
  intro p0 e0 s m0 args below meth c0 F hr hlk hin hsz hh hX ls hl
  subst hsz
  have hx := F.1
  have hb := F.2.1
  have hl : lv_has ls 3 [(0, .long (xl_ ch)), (2, .int (xi_ i))] := hl
  refine lv_lload_n hx hb d_Rd_signAt_0 rfl (lv_at hl 0 rfl) ?_
  refine lv_bipush (v := xi_ 8) hx hb d_Rd_signAt_1 (by decide) ?_
  refine lv_iload_n hx hb d_Rd_signAt_3 rfl (lv_at hl 1 rfl) ?_
  refine xw_imul hx hb d_Rd_signAt_4 ?_
  refine lv_lushr hx hb d_Rd_signAt_5 rfl ?_
  refine lv_ldc2 (v := xl_ 255) hx hb F.2.2.2.1 (F.2.2.2.2.1 _ k_Rd_19) d_Rd_signAt_6 ?_
  refine lv_land hx hb d_Rd_signAt_9 ?_
  have hby := by_rng ch i
  rw [← xl_of (_ &&& xl_ 255)]
  refine xw_l2i (a := by_ ch i) hx hb d_Rd_signAt_10 ?_
  refine lv_i2c (v := xi_ (by_ ch i)) hx hb d_Rd_signAt_11 (lg_i2c_word (by rw [xi_toInt (by omega)]; omega) (by rw [xi_toInt (by omega)]; omega)) ?_
  exact xw_iret F hr hlk hh (xi_nc (by omega)).1 () rfl rfl trivial d_Rd_signAt_12
def rm_Rd_areTypeable : Room := { frames := 1, cells := 0, slots := 0, locals := 22 }
set_option maxHeartbeats 4000000 in
set_option maxRecDepth 100000 in
theorem lp_Rd_areTypeable {p0 : Program} {l : Launch} {e0 : Env} {s : State} {m0 : MethodId} {args : Array Value} {below : List Frame} {meth : Method} {c0 : Code} {Q : State → Prop} {G : GG_} {A : Nat → Prop} {H0 : Heap} (F : xw_F p0 s m0 args c0 b_Rd_areTypeable 5 R_Rd G) (ch : Int) (n : Nat) (hn : n ≤ 8)
    (kf : ∀ (ls : Array Slot) (H : Heap) (locs : List Loc), ty_ok ch n = false → xw_H G A H0 H locs [] → W p0 l e0 rm_Rd_areTypeable s m0 args below meth c0 H locs 0 0 Q (F0 m0 28 ls []))
    (kt : ∀ (ls : Array Slot) (H : Heap) (locs : List Loc), ty_ok ch n = true → xw_H G A H0 H locs [] → W p0 l e0 rm_Rd_areTypeable s m0 args below meth c0 H locs 0 0 Q (F0 m0 36 ls [])) :
    ∀ (N : Nat) (i : Int) (j : Nat) (ls : Array Slot) (H : Heap) (locs : List Loc), n - j < N → i = (j : Int) → j ≤ n → ty_ok ch j = true → lv_has ls 5 [(3, .int (xi_ i)), (0, .long (xl_ ch)), (2, .int (xi_ (n : Int)))] → xw_H G A H0 H locs [] → W p0 l e0 rm_Rd_areTypeable s m0 args below meth c0 H locs 0 0 Q (F0 m0 2 ls []) := by
  have hx := F.1
  have hb := F.2.1
  intro N
  induction N with
  | zero => intro i j ls H locs h; omega
  | succ N ihn =>
    intro i j ls H locs hN1 hi hj hok hl hh
    refine lv_iload_n hx hb d_Rd_areTypeable_2 rfl (lv_at hl 0 rfl) ?_
    refine lv_iload_n hx hb d_Rd_areTypeable_3 rfl (lv_at hl 2 rfl) ?_
    refine xw_icmp_ge hx hb 36 d_Rd_areTypeable_4 (by decide) (by omega) (fun c4 => ?_) (fun c4 => ?_)
    · obtain rfl : j = n := by omega
      exact kt ls H locs hok hh
    · refine lv_lload_n hx hb d_Rd_areTypeable_7 rfl (lv_at hl 1 rfl) ?_
      refine lv_iload_n hx hb d_Rd_areTypeable_8 rfl (lv_at hl 0 rfl) ?_
      refine xw_cip hh (xw_rSp F (c_Rd_signAt l G H.size ch i (by omega)) lk_Rd_15 cd_Rd_signAt ss_Rd_signAt rfl rfl ⟨by decide, by decide⟩ rfl hl.1 rfl (Nat.le_of_ble_eq_true rfl) d_Rd_areTypeable_9 ⟨Nat.le_of_ble_eq_true rfl, Nat.le_of_ble_eq_true rfl⟩) (fun z9 u H locs hp9 hz hk hh => ?_)
      obtain rfl : z9 = by_ ch i := hp9
      have hbr := by_rng ch i
      refine lv_istore (lv' := [(4, .int (xi_ (by_ ch i))), (3, .int (xi_ i)), (0, .long (xl_ ch)), (2, .int (xi_ (n : Int)))]) hx hb d_Rd_areTypeable_12 hl (by decide) rfl (fun ls hl => ?_)
      refine lv_iload hx hb d_Rd_areTypeable_14 (lv_at hl 0 rfl) ?_
      refine lv_bipush (v := xi_ 33) hx hb d_Rd_areTypeable_16 (by decide) ?_
      refine xw_icmp_lt hx hb 28 d_Rd_areTypeable_18 (by decide) (by omega) (fun c18 => ?_) (fun c18 => ?_)
      · refine kf ls H locs ?_ hh
        cases hty : ty_ok ch n with
        | false => rfl
        | true =>
          have h9 := ty_mono (m := j + 1) (by omega) hty
          rw [ty_s, Bool.and_eq_true, ← hi] at h9
          have := of_decide_eq_true h9.2
          omega
      · refine lv_iload hx hb d_Rd_areTypeable_21 (lv_at hl 0 rfl) ?_
        refine lv_bipush (v := xi_ 126) hx hb d_Rd_areTypeable_23 (by decide) ?_
        refine xw_icmp_le hx hb 30 d_Rd_areTypeable_25 (by decide) (by omega) (fun c25 => ?_) (fun c25 => ?_)
        · refine lv_iinc (k := 1) (v := xi_ (i + 1)) (lv' := [(3, .int (xi_ (i + 1))), (4, .int (xi_ (by_ ch i))), (0, .long (xl_ ch)), (2, .int (xi_ (n : Int)))]) hx hb d_Rd_areTypeable_30 hl rfl (xi_add _ _).symm (by decide) rfl (fun ls hl => ?_)
          refine lv_goto (tgt := 2) hx hb d_Rd_areTypeable_33 (by decide) ?_
          refine ihn (i + 1) (j + 1) ls H locs (by omega) (by omega) (by omega) ?_ (lv_sub hl [0, 2, 3] rfl) hh
          rw [ty_s, hok, ← hi]
          exact decide_eq_true (by omega)
        · refine kf ls H locs ?_ hh
          cases hty : ty_ok ch n with
          | false => rfl
          | true =>
            have h9 := ty_mono (m := j + 1) (by omega) hty
            rw [ty_s, Bool.and_eq_true, ← hi] at h9
            have := of_decide_eq_true h9.2
            omega
set_option maxHeartbeats 4000000 in
set_option maxRecDepth 100000 in
theorem c_Rd_areTypeable (l : Launch) (G : GG_) (sz : Nat) (ch : Int) (n : Nat) (hn : n ≤ 8) : Met l y_Rd_areTypeable (cw_ y_Rd_areTypeable b_Rd_areTypeable 5 (some .boolean)) rm_Rd_areTypeable (xw_P G [.long (xl_ ch), .int (xi_ (n : Int))] sz [] (fun _ => True)) (xw_Qi (S := Unit) G sz [] (fun z _ => z = b2_ (ty_ok ch n)) (fun _ => []) (fun _ _ => True)) 0 0 (va_A [] sz) := by
  refine xw_met (by decide) (Nat.le_of_ble_eq_true rfl) ?_
  intro p0 e0 s m0 args below meth c0 F hr hlk hin hsz hh hX ls hl
  subst hsz
  have hx := F.1
  have hb := F.2.1
  have hl : lv_has ls 5 [(0, .long (xl_ ch)), (2, .int (xi_ (n : Int)))] := hl
  refine lv_iconst (v := xi_ 0) hx hb d_Rd_areTypeable_0 rfl ?_
  refine lv_istore_n (lv' := [(3, .int (xi_ 0)), (0, .long (xl_ ch)), (2, .int (xi_ (n : Int)))]) hx hb d_Rd_areTypeable_1 rfl hl (by decide) rfl (fun ls hl => ?_)
  refine lp_Rd_areTypeable F ch n hn (fun ls H locs hty hh => ?_) (fun ls H locs hty hh => ?_) (n + 1) 0 0 ls s.heap _ (by omega) rfl (by omega) rfl (lv_sub hl [0, 1, 2] rfl) hh
  · refine lv_iconst (v := xi_ 0) hx hb d_Rd_areTypeable_28 rfl ?_
    exact xw_iret F hr hlk hh (by decide) () rfl (by exact b2_f hty) trivial d_Rd_areTypeable_29
  · refine lv_iconst (v := xi_ 1) hx hb d_Rd_areTypeable_36 rfl ?_
    exact xw_iret F hr hlk hh (by decide) () rfl (by exact b2_t hty) trivial d_Rd_areTypeable_37
def rm_Rd_append : Room := { frames := 1, cells := 0, slots := 0, locals := 22 }
set_option maxHeartbeats 4000000 in
set_option maxRecDepth 100000 in
theorem lp_Rd_append {p0 : Program} {l : Launch} {e0 : Env} {s : State} {m0 : MethodId} {args : Array Value} {below : List Frame} {meth : Method} {c0 : Code} {Q : State → Prop} {G : GG_} {A : Nat → Prop} {H0 : Heap} (F : xw_F p0 s m0 args c0 b_Rd_append 5 R_Rd G) (rd ta : Nat) (txt : Nat → Int) (len : Nat) (at0 g0 ch : Int) (n : Nat) (hn : n ≤ 8) (hlen : len + n ≤ 40)
    (kt : ∀ (ls : Array Slot) (H : Heap) (locs : List Loc), xw_H G A H0 H locs [(rd, .inr (2, [.ref ta, .int (xi_ ((len + n : Nat) : Int)), .int (xi_ at0), .int (xi_ g0)])), (ta, .inl (G.2.2 2, 40, .inl (ja_ (tx_app txt len ch n n))))] → W p0 l e0 rm_Rd_append s m0 args below meth c0 H locs 0 0 Q (F0 m0 54 ls [])) :
    ∀ (N : Nat) (i lz : Int) (m : Nat) (ls : Array Slot) (H : Heap) (locs : List Loc), n - m < N → i = (n : Int) - 1 - (m : Int) → lz = ((len + m : Nat) : Int) → m ≤ n → lv_has ls 5 [(4, .int (xi_ i)), (0, .ref rd), (1, .long (xl_ ch)), (3, .int (xi_ (n : Int)))] → xw_H G A H0 H locs [(rd, .inr (2, [.ref ta, .int (xi_ lz), .int (xi_ at0), .int (xi_ g0)])), (ta, .inl (G.2.2 2, 40, .inl (ja_ (tx_app txt len ch n m))))] → W p0 l e0 rm_Rd_append s m0 args below meth c0 H locs 0 0 Q (F0 m0 18 ls []) := by
  have hx := F.1
  have hb := F.2.1
  intro N
  induction N with
  | zero => intro i lz m ls H locs h; omega
  | succ N ihn =>
    intro i lz m ls H locs hN1 hi hlz hm hl hh
    refine lv_iload hx hb d_Rd_append_18 (lv_at hl 0 rfl) ?_
    refine xw_if_lt hx hb 54 d_Rd_append_20 (by decide) (by omega) (fun c20 => ?_) (fun c20 => ?_)
    · obtain rfl : m = n := by omega
      subst hlz
      exact kt ls H locs hh
    · refine lv_aload_n hx hb d_Rd_append_23 rfl (lv_at hl 1 rfl) ?_
      refine xw_get F hh.1 (v := .ref ta) fl_Rd_11_2 0 rfl rfl d_Rd_append_24 ?_
      refine lv_aload_n hx hb d_Rd_append_27 rfl (lv_at hl 1 rfl) ?_
      refine xw_get F hh.1 (v := .int (xi_ lz)) fl_Rd_21_2 0 rfl rfl d_Rd_append_28 ?_
      refine lv_lload_n hx hb d_Rd_append_31 rfl (lv_at hl 2 rfl) ?_
      refine lv_iload hx hb d_Rd_append_32 (lv_at hl 0 rfl) ?_
      refine xw_cip hh (xw_rSp F (c_Rd_signAt l G H.size ch i (by omega)) lk_Rd_15 cd_Rd_signAt ss_Rd_signAt rfl rfl ⟨by decide, by decide⟩ rfl hl.1 rfl (Nat.le_of_ble_eq_true rfl) d_Rd_append_34 ⟨Nat.le_of_ble_eq_true rfl, Nat.le_of_ble_eq_true rfl⟩) (fun z34 u H locs hp34 hz hk hh => ?_)
      obtain rfl : z34 = by_ ch i := hp34
      have hbr := by_rng ch i
      refine xw_cast F hh 1 (f := tx_app txt len ch n m) rfl (i := lz) (x := by_ ch i) (by omega) (by omega) d_Rd_append_37 (fun H locs hh => ?_)
      have hh : xw_H G A H0 H locs [(rd, .inr (2, [.ref ta, .int (xi_ lz), .int (xi_ at0), .int (xi_ g0)])), (ta, .inl (G.2.2 2, 40, .inl (ja_ (va_up (tx_app txt len ch n m) (lz).toNat (by_ ch i)))))] := hh
      refine lv_aload_n hx hb d_Rd_append_38 rfl (lv_at hl 1 rfl) ?_
      refine lv_dup hx hb d_Rd_append_39 rfl ?_
      refine xw_get F hh.1 (v := .int (xi_ lz)) fl_Rd_21_2 0 rfl rfl d_Rd_append_40 ?_
      refine lv_iconst (v := xi_ 1) hx hb d_Rd_append_43 rfl ?_
      refine xw_iadd hx hb d_Rd_append_44 ?_
      refine xw_put F hh fp_Rd_21_2 0 rfl rfl rfl (Nat.le_of_ble_eq_true rfl) d_Rd_append_45 (fun H locs hh => ?_)
      have hh : xw_H G A H0 H locs [(rd, .inr (2, [.ref ta, .int (xi_ (lz + 1)), .int (xi_ at0), .int (xi_ g0)])), (ta, .inl (G.2.2 2, 40, .inl (ja_ (va_up (tx_app txt len ch n m) (lz).toNat (by_ ch i)))))] := hh
      refine lv_iinc (k := 0) (v := xi_ (i + (-1))) (lv' := [(4, .int (xi_ (i + (-1)))), (0, .ref rd), (1, .long (xl_ ch)), (3, .int (xi_ (n : Int)))]) hx hb d_Rd_append_48 hl rfl (xi_add _ _).symm (by decide) rfl (fun ls hl => ?_)
      refine lv_goto (tgt := 18) hx hb d_Rd_append_51 (by decide) ?_
      have eU : va_up (tx_app txt len ch n m) lz.toNat (by_ ch i) = tx_app txt len ch n (m + 1) := by
        rw [← tx_app_s, hi, show lz.toNat = len + m by omega]
      rw [eU] at hh
      exact ihn (i + (-1)) (lz + 1) (m + 1) ls H locs (by omega) (by omega) (by omega) (by omega) (lv_sub hl [0, 1, 2, 3] rfl) hh
set_option maxHeartbeats 4000000 in
set_option maxRecDepth 100000 in
theorem c_Rd_append (l : Launch) (G : GG_) (sz : Nat) (rd ta : Nat) (txt : Nat → Int) (len : Nat) (at0 g0 ch : Int) (n : Nat) (hn : n ≤ 8) (hlen : len ≤ 40) : Met l y_Rd_append (cw_ y_Rd_append b_Rd_append 5 (some .boolean)) rm_Rd_append (xw_P G [.ref rd, .long (xl_ ch), .int (xi_ (n : Int))] sz [(rd, .inr (2, [.ref ta, .int (xi_ (len : Int)), .int (xi_ at0), .int (xi_ g0)])), (ta, .inl (G.2.2 2, 40, .inl (ja_ txt)))] (fun _ => True)) (xw_Qi (S := Nat × (Nat → Int)) G sz [(rd, .inr (2, [.ref ta, .int (xi_ (len : Int)), .int (xi_ at0), .int (xi_ g0)])), (ta, .inl (G.2.2 2, 40, .inl (ja_ txt)))] (fun z u => z = b2_ (decide (len + n ≤ 40)) ∧ u = if len + n ≤ 40 then (len + n, tx_app txt len ch n n) else (len, txt)) (fun u => [(rd, .inr (2, [.ref ta, .int (xi_ (u.1 : Int)), .int (xi_ at0), .int (xi_ g0)])), (ta, .inl (G.2.2 2, 40, .inl (ja_ u.2)))]) (fun _ _ => True)) 0 0 (va_A [(rd, .inr (2, [.ref ta, .int (xi_ (len : Int)), .int (xi_ at0), .int (xi_ g0)])), (ta, .inl (G.2.2 2, 40, .inl (ja_ txt)))] sz) := by
  refine xw_met (by decide) (Nat.le_of_ble_eq_true rfl) ?_
  intro p0 e0 s m0 args below meth c0 F hr hlk hin hsz hh hX ls hl
  subst hsz
  have hx := F.1
  have hb := F.2.1
  have hl : lv_has ls 5 [(0, .ref rd), (1, .long (xl_ ch)), (3, .int (xi_ (n : Int)))] := hl
  refine lv_aload_n hx hb d_Rd_append_0 rfl (lv_at hl 0 rfl) ?_
  refine xw_get F hh.1 (v := .int (xi_ (len : Int))) fl_Rd_21_2 0 rfl rfl d_Rd_append_1 ?_
  refine lv_iload_n hx hb d_Rd_append_4 rfl (lv_at hl 2 rfl) ?_
  refine xw_iadd hx hb d_Rd_append_5 ?_
  refine lv_bipush (v := xi_ 40) hx hb d_Rd_append_6 (by decide) ?_
  refine xw_icmp_le hx hb 13 d_Rd_append_8 (by decide) (by omega) (fun c8 => ?_) (fun c8 => ?_)
  · refine lv_iload_n hx hb d_Rd_append_13 rfl (lv_at hl 2 rfl) ?_
    refine lv_iconst (v := xi_ 1) hx hb d_Rd_append_14 rfl ?_
    refine xw_isub hx hb d_Rd_append_15 ?_
    refine lv_istore (lv' := [(4, .int (xi_ ((n : Int) - 1))), (0, .ref rd), (1, .long (xl_ ch)), (3, .int (xi_ (n : Int)))]) hx hb d_Rd_append_16 hl (by decide) rfl (fun ls hl => ?_)
    have hh : xw_H G (va_A [(rd, .inr (2, [.ref ta, .int (xi_ (len : Int)), .int (xi_ at0), .int (xi_ g0)])), (ta, .inl (G.2.2 2, 40, .inl (ja_ txt)))] s.heap.size) s.heap s.heap [] [(rd, .inr (2, [.ref ta, .int (xi_ (len : Int)), .int (xi_ at0), .int (xi_ g0)])), (ta, .inl (G.2.2 2, 40, .inl (ja_ (tx_app txt len ch n 0))))] := by
      rw [tx_app0]
      exact hh
    refine lp_Rd_append F rd ta txt len at0 g0 ch n hn (by omega) (fun ls H locs hh => ?_) (n + 1) ((n : Int) - 1) (len : Int) 0 ls s.heap _ (by omega) (by omega) rfl (by omega) (lv_sub hl [0, 1, 2, 3] rfl) hh
    refine lv_iconst (v := xi_ 1) hx hb d_Rd_append_54 rfl ?_
    exact xw_iret F hr hlk hh (by decide) (len + n, tx_app txt len ch n n) rfl ⟨b2_t (decide_eq_true (by omega)), (if_pos (by omega)).symm⟩ trivial d_Rd_append_55
  · refine lv_iconst (v := xi_ 0) hx hb d_Rd_append_11 rfl ?_
    exact xw_iret F hr hlk hh (by decide) (len, txt) rfl ⟨b2_f (decide_eq_false (by omega)), (if_neg (by omega)).symm⟩ trivial d_Rd_append_12
def rm_Rd_init : Room := { frames := 1, cells := 1, slots := 40, locals := 23 }
set_option maxHeartbeats 4000000 in
set_option maxRecDepth 100000 in
theorem c_Rd_init (l : Launch) (G : GG_) (sz : Nat) (a : Nat) : Met l y_Rd_init (cw_ y_Rd_init b_Rd_init 1 none) rm_Rd_init (xw_P G [.ref a] sz [(a, .inr (2, [.null, .int (xi_ 0), .int (xi_ 0), .int (xi_ 0)]))] (fun _ => True)) (xw_Qv (S := Nat) G sz [(a, .inr (2, [.null, .int (xi_ 0), .int (xi_ 0), .int (xi_ 0)]))] (fun _ => True) (fun u => [(a, .inr (2, [.ref u, .int (xi_ 0), .int (xi_ 0), .int (xi_ 0)])), (u, .inl (G.2.2 2, 40, .inl (ja_ (fun _ => 0))))]) (fun _ _ => True)) 1 40 (va_A [(a, .inr (2, [.null, .int (xi_ 0), .int (xi_ 0), .int (xi_ 0)]))] sz) := by
  refine xw_met (by decide) (Nat.le_of_ble_eq_true rfl) ?_
  intro p0 e0 s m0 args below meth c0 F hr hlk hin hsz hh hX ls hl
  subst hsz
  have hx := F.1
  have hb := F.2.1
  have hl : lv_has ls 1 [(0, .ref a)] := hl
  refine lv_aload_n hx hb d_Rd_init_0 rfl (lv_at hl 0 rfl) ?_
  refine xw_obj F hl.1 lk_Rd_3' (Nat.le_of_ble_eq_true rfl) (Nat.le_of_ble_eq_true rfl) d_Rd_init_1 ?_
  refine lv_aload_n hx hb d_Rd_init_4 rfl (lv_at hl 0 rfl) ?_
  refine lv_bipush (v := xi_ 40) hx hb d_Rd_init_5 (by decide) ?_
  refine xw_newc F hh (N := 40) (by omega) (Nat.le_of_ble_eq_true rfl) (Nat.le_of_ble_eq_true rfl) d_Rd_init_7 (fun q7 H hh => ?_)
  have hh : xw_H G (va_A [(a, .inr (2, [.null, .int (xi_ 0), .int (xi_ 0), .int (xi_ 0)]))] s.heap.size) s.heap H _ [(a, .inr (2, [.null, .int (xi_ 0), .int (xi_ 0), .int (xi_ 0)])), (q7, .inl (G.2.2 2, 40, .inl (ja_ (fun _ => 0))))] := hh
  refine xw_putF F hh hin ff_Rd_11_2 0 rfl rfl rfl (Nat.le_of_ble_eq_true rfl) d_Rd_init_9 (fun H locs hh => ?_)
  have hh : xw_H G (va_A [(a, .inr (2, [.null, .int (xi_ 0), .int (xi_ 0), .int (xi_ 0)]))] s.heap.size) s.heap H _ [(a, .inr (2, [.ref q7, .int (xi_ 0), .int (xi_ 0), .int (xi_ 0)])), (q7, .inl (G.2.2 2, 40, .inl (ja_ (fun _ => 0))))] := hh
  exact xw_vret F hr hlk hh q7 rfl trivial trivial d_Rd_init_12
