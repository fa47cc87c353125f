/-! the model: child, forward, isBefore, isLater; closes and isFilled by the state of the reading -/
theorem va_up2 {α : Type} (f : Nat → α) (i : Nat) (x z : α) : va_up (va_up f i x) i z = va_up f i z := by
  funext j
  unfold va_up
  split <;> rfl
theorem va_upid {α : Type} (f : Nat → α) (i : Nat) : va_up f i (f i) = f := by
  funext j
  unfold va_up
  split
  · rename_i h
    rw [h]
  · rfl
/-- the numbers of all rows are small -/
def rbd_ (be so wh we le : Nat → Int) : Prop := ∀ j : Nat, (-1000000000000000 ≤ be j ∧ be j ≤ 1000000000000000) ∧ (-1000000000000000 ≤ so j ∧ so j ≤ 1000000000000000) ∧ (-1000000000000000 ≤ wh j ∧ wh j ≤ 1000000000000000) ∧ (-1000000000000000 ≤ we j ∧ we j ≤ 1000000000000000) ∧ (0 ≤ le j ∧ le j ≤ 65535)
def rm_M_child : Room := { frames := 0, cells := 0, slots := 0, locals := 0 }
set_option maxHeartbeats 4000000 in
set_option maxRecDepth 100000 in
theorem lp_M_child {p0 : Program} {l : Launch} {e0 : Env} {s : State} {m0 : MethodId} {args : Array Value} {below : List Frame} {meth : Method} {c0 : Code} {Q : State → Prop} {G : GG_} {A : Nat → Prop} {H0 : Heap} (F : xw_F p0 s m0 args c0 b_M_child 6 R_M G) (mo : Nat) (ma : Nat → Nat) (ty at0 dp wy un pl sp pe tk du tm : Int) (fi ne : Nat → Int) (sl nd : Int) (ki : Nat) (hsl : 0 ≤ sl ∧ sl ≤ 7) (hnd : 0 ≤ nd ∧ nd < 48) (hki : ki ≤ 9) (hch : ∀ j : Nat, j ≤ ki → 0 ≤ ch_ fi ne (48 * sl) nd j ∧ ch_ fi ne (48 * sl) nd j < 48)
    (kt : ∀ (ls : Array Slot) (H : Heap) (locs : List Loc), lv_has ls 6 [(4, .int (xi_ (ch_ fi ne (48 * sl) nd ki)))] → xw_H G A H0 H locs [(mo, .inr (6, mo_ ma ty at0 dp wy un pl sp pe tk du tm)), (ma 7, .inl (G.2.2 0, 432, .inl (ja_ fi))), (ma 8, .inl (G.2.2 0, 432, .inl (ja_ ne)))] → W p0 l e0 rm_M_child s m0 args below meth c0 H locs 0 0 Q (F0 m0 42 ls [])) :
    ∀ (N : Nat) (ji : Int) (j : Nat) (ls : Array Slot) (H : Heap) (locs : List Loc), ki - j < N → ji = (j : Int) → j ≤ ki → lv_has ls 6 [(5, .int (xi_ ji)), (4, .int (xi_ (ch_ fi ne (48 * sl) nd j))), (0, .ref mo), (1, .int (xi_ sl)), (2, .int (xi_ nd)), (3, .int (xi_ (ki : Int)))] → xw_H G A H0 H locs [(mo, .inr (6, mo_ ma ty at0 dp wy un pl sp pe tk du tm)), (ma 7, .inl (G.2.2 0, 432, .inl (ja_ fi))), (ma 8, .inl (G.2.2 0, 432, .inl (ja_ ne)))] → W p0 l e0 rm_M_child s m0 args below meth c0 H locs 0 0 Q (F0 m0 16 ls []) := by
  have hx := F.1
  have hb := F.2.1
  intro N
  induction N with
  | zero => intro ji j ls H locs h; omega
  | succ N ihn =>
    intro ji j ls H locs hN1 hji hj hl hh
    have hcj := hch j hj
    refine lv_iload hx hb d_M_child_16 (lv_at hl 0 rfl) ?_
    refine lv_iload_n hx hb d_M_child_18 rfl (lv_at hl 5 rfl) ?_
    refine xw_icmp_ge hx hb 42 d_M_child_19 (by decide) (by omega) (fun c19 => ?_) (fun c19 => ?_)
    · obtain rfl : j = ki := by omega
      exact kt ls H locs (lv_sub hl [1] rfl) hh
    · refine lv_aload_n hx hb d_M_child_22 rfl (lv_at hl 2 rfl) ?_
      refine xw_get F hh.1 (v := .ref (ma 8)) fl_M_28_6 0 rfl rfl d_M_child_23 ?_
      refine lv_bipush (v := xi_ 48) hx hb d_M_child_26 (by decide) ?_
      refine lv_iload_n hx hb d_M_child_28 rfl (lv_at hl 3 rfl) ?_
      refine xw_imul hx hb d_M_child_29 ?_
      refine lv_iload hx hb d_M_child_30 (lv_at hl 1 rfl) ?_
      refine xw_iadd hx hb d_M_child_32 ?_
      refine xw_iald F hh.1 2 (f := ne) rfl (i := (48 * sl) + (ch_ fi ne (48 * sl) nd j)) (by omega) d_M_child_33 ?_
      refine xw_topi (y := ch_ fi ne (48 * sl) nd (j + 1)) rfl ?_
      refine lv_istore (lv' := [(4, .int (xi_ (ch_ fi ne (48 * sl) nd (j + 1)))), (5, .int (xi_ ji)), (0, .ref mo), (1, .int (xi_ sl)), (2, .int (xi_ nd)), (3, .int (xi_ (ki : Int)))]) hx hb d_M_child_34 hl (by decide) rfl (fun ls hl => ?_)
      refine lv_iinc (k := 1) (v := xi_ (ji + 1)) (lv' := [(5, .int (xi_ (ji + 1))), (4, .int (xi_ (ch_ fi ne (48 * sl) nd (j + 1)))), (0, .ref mo), (1, .int (xi_ sl)), (2, .int (xi_ nd)), (3, .int (xi_ (ki : Int)))]) hx hb d_M_child_36 hl rfl (xi_add _ _).symm (by decide) rfl (fun ls hl => ?_)
      refine lv_goto (tgt := 16) hx hb d_M_child_39 (by decide) ?_
      exact ihn (ji + 1) (j + 1) ls H locs (by omega) (by omega) (by omega) (lv_sub hl [0, 1, 2, 3, 4, 5] rfl) hh
set_option maxHeartbeats 4000000 in
set_option maxRecDepth 100000 in
theorem c_M_child (l : Launch) (G : GG_) (sz : Nat) (mo : Nat) (ma : Nat → Nat) (ty at0 dp wy un pl sp pe tk du tm : Int) (fi ne : Nat → Int) (sl nd : Int) (ki : Nat) (hsl : 0 ≤ sl ∧ sl ≤ 7) (hnd : 0 ≤ nd ∧ nd < 48) (hki : ki ≤ 9) (hch : ∀ j : Nat, j ≤ ki → 0 ≤ ch_ fi ne (48 * sl) nd j ∧ ch_ fi ne (48 * sl) nd j < 48) : Met l y_M_child (cw_ y_M_child b_M_child 6 (some .int)) rm_M_child (xw_P G [.ref mo, .int (xi_ sl), .int (xi_ nd), .int (xi_ (ki : Int))] sz [(mo, .inr (6, mo_ ma ty at0 dp wy un pl sp pe tk du tm)), (ma 7, .inl (G.2.2 0, 432, .inl (ja_ fi))), (ma 8, .inl (G.2.2 0, 432, .inl (ja_ ne)))] (fun _ => True)) (xw_Qi (S := Unit) G sz [(mo, .inr (6, mo_ ma ty at0 dp wy un pl sp pe tk du tm)), (ma 7, .inl (G.2.2 0, 432, .inl (ja_ fi))), (ma 8, .inl (G.2.2 0, 432, .inl (ja_ ne)))] (fun z _ => z = ch_ fi ne (48 * sl) nd ki) (fun _ => [(mo, .inr (6, mo_ ma ty at0 dp wy un pl sp pe tk du tm)), (ma 7, .inl (G.2.2 0, 432, .inl (ja_ fi))), (ma 8, .inl (G.2.2 0, 432, .inl (ja_ ne)))]) (fun _ _ => True)) 0 0 (va_A [(mo, .inr (6, mo_ ma ty at0 dp wy un pl sp pe tk du tm)), (ma 7, .inl (G.2.2 0, 432, .inl (ja_ fi))), (ma 8, .inl (G.2.2 0, 432, .inl (ja_ ne)))] sz) := by
  refine xw_met (by decide) (Nat.le_of_ble_eq_true rfl) ?_
  intro p0 e0 s m0 args below meth c0 F hr hlk hin hsz hh hX ls hl
  subst hsz
  have hx := F.1
  have hb := F.2.1
  have hl : lv_has ls 6 [(0, .ref mo), (1, .int (xi_ sl)), (2, .int (xi_ nd)), (3, .int (xi_ (ki : Int)))] := hl
  refine lv_aload_n hx hb d_M_child_0 rfl (lv_at hl 0 rfl) ?_
  refine xw_get F hh.1 (v := .ref (ma 7)) fl_M_25_6 0 rfl rfl d_M_child_1 ?_
  refine lv_bipush (v := xi_ 48) hx hb d_M_child_4 (by decide) ?_
  refine lv_iload_n hx hb d_M_child_6 rfl (lv_at hl 1 rfl) ?_
  refine xw_imul hx hb d_M_child_7 ?_
  refine lv_iload_n hx hb d_M_child_8 rfl (lv_at hl 2 rfl) ?_
  refine xw_iadd hx hb d_M_child_9 ?_
  refine xw_iald F hh.1 1 (f := fi) rfl (i := (48 * sl) + nd) (by omega) d_M_child_10 ?_
  refine xw_topi (y := ch_ fi ne (48 * sl) nd 0) rfl ?_
  refine lv_istore (lv' := [(4, .int (xi_ (ch_ fi ne (48 * sl) nd 0))), (0, .ref mo), (1, .int (xi_ sl)), (2, .int (xi_ nd)), (3, .int (xi_ (ki : Int)))]) hx hb d_M_child_11 hl (by decide) rfl (fun ls hl => ?_)
  refine lv_iconst (v := xi_ 0) hx hb d_M_child_13 rfl ?_
  refine lv_istore (lv' := [(5, .int (xi_ 0)), (4, .int (xi_ (ch_ fi ne (48 * sl) nd 0))), (0, .ref mo), (1, .int (xi_ sl)), (2, .int (xi_ nd)), (3, .int (xi_ (ki : Int)))]) hx hb d_M_child_14 hl (by decide) rfl (fun ls hl => ?_)
  refine lp_M_child F mo ma ty at0 dp wy un pl sp pe tk du tm fi ne sl nd ki hsl hnd hki hch (fun ls H locs hl hh => ?_) (ki + 1) 0 0 ls s.heap _ (by omega) rfl (by omega) (lv_sub hl [0, 1, 2, 3, 4, 5] rfl) hh
  refine lv_iload hx hb d_M_child_42 (lv_at hl 0 rfl) ?_
  exact xw_iret F hr hlk hh rfl () rfl (by rfl) trivial d_M_child_44
def rm_M_forward : Room := { frames := 0, cells := 0, slots := 0, locals := 0 }
set_option maxHeartbeats 4000000 in
set_option maxRecDepth 100000 in
theorem c_M_forward (l : Launch) (G : GG_) (sz : Nat) (mo : Nat) (ma : Nat → Nat) (ty at0 dp wy un pl sp pe tk du tm : Int) (cy sp9 : Nat → Int) (y : Nat) (al : Int) (hy : y < 50) (hal : 0 ≤ al ∧ al ≤ 100) (hsp : 0 ≤ sp9 y ∧ sp9 y ≤ 100) : Met l y_M_forward (cw_ y_M_forward b_M_forward 3 none) rm_M_forward (xw_P G [.ref mo, .int (xi_ (y : Int)), .int (xi_ al)] sz [(mo, .inr (6, mo_ ma ty at0 dp wy un pl sp pe tk du tm)), (ma 22, .inl (G.2.2 1, 50, .inr (.inl (jl_ cy)))), (ma 24, .inl (G.2.2 0, 50, .inl (ja_ sp9)))] (fun _ => True)) (xw_Qv (S := (Nat → Int) × (Nat → Int)) G sz [(mo, .inr (6, mo_ ma ty at0 dp wy un pl sp pe tk du tm)), (ma 22, .inl (G.2.2 1, 50, .inr (.inl (jl_ cy)))), (ma 24, .inl (G.2.2 0, 50, .inl (ja_ sp9)))] (fun u => u = (va_up cy y (if sp9 y + 1 < al then cy y else cy y + 1), va_up sp9 y (if sp9 y + 1 < al then sp9 y + 1 else 0))) (fun u => [(mo, .inr (6, mo_ ma ty at0 dp wy un pl sp pe tk du tm)), (ma 22, .inl (G.2.2 1, 50, .inr (.inl (jl_ u.1)))), (ma 24, .inl (G.2.2 0, 50, .inl (ja_ u.2)))]) (fun _ _ => True)) 0 0 (va_A [(mo, .inr (6, mo_ ma ty at0 dp wy un pl sp pe tk du tm)), (ma 22, .inl (G.2.2 1, 50, .inr (.inl (jl_ cy)))), (ma 24, .inl (G.2.2 0, 50, .inl (ja_ sp9)))] sz) := by
  refine xw_met (by decide) (Nat.le_of_ble_eq_true rfl) ?_
  intro p0 e0 s m0 args below meth c0 F hr hlk hin hsz hh hX ls hl
  subst hsz
  have hx := F.1
  have hb := F.2.1
  have hl : lv_has ls 3 [(0, .ref mo), (1, .int (xi_ (y : Int))), (2, .int (xi_ al))] := hl
  refine lv_aload_n hx hb d_M_forward_0 rfl (lv_at hl 0 rfl) ?_
  refine xw_get F hh.1 (v := .ref (ma 24)) fl_M_71_6 0 rfl rfl d_M_forward_1 ?_
  refine lv_iload_n hx hb d_M_forward_4 rfl (lv_at hl 1 rfl) ?_
  refine lv_dup2_11 hx hb d_M_forward_5 rfl rfl ?_
  refine xw_iald F hh.1 2 (f := sp9) rfl (i := (y : Int)) (by omega) d_M_forward_6 ?_
  refine xw_topi (y := sp9 y) rfl ?_
  refine lv_iconst (v := xi_ 1) hx hb d_M_forward_7 rfl ?_
  refine xw_iadd hx hb d_M_forward_8 ?_
  refine xw_iast F hh 2 (f := sp9) rfl (i := (y : Int)) (x := (sp9 y) + 1) (by omega) d_M_forward_9 (fun H locs hh => ?_)
  have hh : xw_H G (va_A [(mo, .inr (6, mo_ ma ty at0 dp wy un pl sp pe tk du tm)), (ma 22, .inl (G.2.2 1, 50, .inr (.inl (jl_ cy)))), (ma 24, .inl (G.2.2 0, 50, .inl (ja_ sp9)))] s.heap.size) s.heap H locs [(mo, .inr (6, mo_ ma ty at0 dp wy un pl sp pe tk du tm)), (ma 22, .inl (G.2.2 1, 50, .inr (.inl (jl_ cy)))), (ma 24, .inl (G.2.2 0, 50, .inl (ja_ (va_up sp9 ((y : Int)).toNat ((sp9 y) + 1)))))] := hh
  refine lv_aload_n hx hb d_M_forward_10 rfl (lv_at hl 0 rfl) ?_
  refine xw_get F hh.1 (v := .ref (ma 24)) fl_M_71_6 0 rfl rfl d_M_forward_11 ?_
  refine lv_iload_n hx hb d_M_forward_14 rfl (lv_at hl 1 rfl) ?_
  refine xw_iald F hh.1 2 (f := va_up sp9 ((y : Int)).toNat ((sp9 y) + 1)) rfl (i := (y : Int)) (by omega) d_M_forward_15 ?_
  refine xw_topi (y := sp9 y + 1) (va_up_self _ _ _) ?_
  refine lv_iload_n hx hb d_M_forward_16 rfl (lv_at hl 2 rfl) ?_
  refine xw_icmp_ge hx hb 21 d_M_forward_17 (by decide) (by omega) (fun c17 => ?_) (fun c17 => ?_)
  · refine lv_aload_n hx hb d_M_forward_21 rfl (lv_at hl 0 rfl) ?_
    refine xw_get F hh.1 (v := .ref (ma 24)) fl_M_71_6 0 rfl rfl d_M_forward_22 ?_
    refine lv_iload_n hx hb d_M_forward_25 rfl (lv_at hl 1 rfl) ?_
    refine lv_iconst (v := xi_ 0) hx hb d_M_forward_26 rfl ?_
    refine xw_iast F hh 2 (f := va_up sp9 ((y : Int)).toNat ((sp9 y) + 1)) rfl (i := (y : Int)) (x := 0) (by omega) d_M_forward_27 (fun H locs hh => ?_)
    have hh : xw_H G (va_A [(mo, .inr (6, mo_ ma ty at0 dp wy un pl sp pe tk du tm)), (ma 22, .inl (G.2.2 1, 50, .inr (.inl (jl_ cy)))), (ma 24, .inl (G.2.2 0, 50, .inl (ja_ sp9)))] s.heap.size) s.heap H locs [(mo, .inr (6, mo_ ma ty at0 dp wy un pl sp pe tk du tm)), (ma 22, .inl (G.2.2 1, 50, .inr (.inl (jl_ cy)))), (ma 24, .inl (G.2.2 0, 50, .inl (ja_ (va_up (va_up sp9 ((y : Int)).toNat ((sp9 y) + 1)) ((y : Int)).toNat 0))))] := hh
    refine lv_aload_n hx hb d_M_forward_28 rfl (lv_at hl 0 rfl) ?_
    refine xw_get F hh.1 (v := .ref (ma 22)) fl_M_65_6 0 rfl rfl d_M_forward_29 ?_
    refine lv_iload_n hx hb d_M_forward_32 rfl (lv_at hl 1 rfl) ?_
    refine lv_dup2_11 hx hb d_M_forward_33 rfl rfl ?_
    refine xw_lald F hh.1 1 (f := cy) rfl (i := (y : Int)) (by omega) d_M_forward_34 ?_
    refine xw_topl (y := cy y) rfl ?_
    refine lv_lconst (v := xl_ 1) hx hb d_M_forward_35 (by decide) ?_
    refine xw_ladd hx hb d_M_forward_36 ?_
    refine xw_last F hh 1 (f := cy) rfl (i := (y : Int)) (x := (cy y) + 1) (by omega) d_M_forward_37 (fun H locs hh => ?_)
    have hh : xw_H G (va_A [(mo, .inr (6, mo_ ma ty at0 dp wy un pl sp pe tk du tm)), (ma 22, .inl (G.2.2 1, 50, .inr (.inl (jl_ cy)))), (ma 24, .inl (G.2.2 0, 50, .inl (ja_ sp9)))] s.heap.size) s.heap H locs [(mo, .inr (6, mo_ ma ty at0 dp wy un pl sp pe tk du tm)), (ma 22, .inl (G.2.2 1, 50, .inr (.inl (jl_ (va_up cy ((y : Int)).toNat ((cy y) + 1)))))), (ma 24, .inl (G.2.2 0, 50, .inl (ja_ (va_up (va_up sp9 ((y : Int)).toNat ((sp9 y) + 1)) ((y : Int)).toNat 0))))] := hh
    exact xw_vret F hr hlk hh (va_up cy y (cy y + 1), va_up (va_up sp9 y (sp9 y + 1)) y 0) rfl (by rw [if_neg (by omega), if_neg (by omega), va_up2]) trivial d_M_forward_38
  · exact xw_vret F hr hlk hh (cy, va_up sp9 y (sp9 y + 1)) rfl (by rw [if_pos (by omega), if_pos (by omega), va_upid]) trivial d_M_forward_20
def rm_M_isBefore : Room := { frames := 0, cells := 0, slots := 0, locals := 0 }
set_option maxHeartbeats 4000000 in
set_option maxRecDepth 100000 in
theorem c_M_isBefore (l : Launch) (G : GG_) (sz : Nat) (mo : Nat) (ma : Nat → Nat) (ty at0 dp wy un pl sp pe tk du tm : Int) (be so wh we le : Nat → Int) (hbd : rbd_ be so wh we le) (x : Int) (hxr : 0 ≤ x ∧ x < 603) (r1 r2 r3 r4 r5 : Int) (hrv : ((-1000000000000000 ≤ r1 ∧ r1 ≤ 1000000000000000) ∧ (-1000000000000000 ≤ r2 ∧ r2 ≤ 1000000000000000) ∧ (-1000000000000000 ≤ r3 ∧ r3 ≤ 1000000000000000) ∧ (-1000000000000000 ≤ r4 ∧ r4 ≤ 1000000000000000) ∧ (0 ≤ r5 ∧ r5 ≤ 65535))) : Met l y_M_isBefore (cw_ y_M_isBefore b_M_isBefore 11 (some .boolean)) rm_M_isBefore (xw_P G [.ref mo, .int (xi_ x), .long (xl_ r1), .long (xl_ r3), .long (xl_ r2), .long (xl_ r4), .int (xi_ r5)] sz [(mo, .inr (6, mo_ ma ty at0 dp wy un pl sp pe tk du tm)), (ma 27, .inl (G.2.2 1, 603, .inr (.inl (jl_ be)))), (ma 28, .inl (G.2.2 1, 603, .inr (.inl (jl_ so)))), (ma 29, .inl (G.2.2 1, 603, .inr (.inl (jl_ wh)))), (ma 30, .inl (G.2.2 1, 603, .inr (.inl (jl_ we)))), (ma 31, .inl (G.2.2 0, 603, .inl (ja_ le)))] (fun _ => True)) (xw_Qi (S := Unit) G sz [(mo, .inr (6, mo_ ma ty at0 dp wy un pl sp pe tk du tm)), (ma 27, .inl (G.2.2 1, 603, .inr (.inl (jl_ be)))), (ma 28, .inl (G.2.2 1, 603, .inr (.inl (jl_ so)))), (ma 29, .inl (G.2.2 1, 603, .inr (.inl (jl_ wh)))), (ma 30, .inl (G.2.2 1, 603, .inr (.inl (jl_ we)))), (ma 31, .inl (G.2.2 0, 603, .inl (ja_ le)))] (fun z _ => z = b2_ (! r_lt (r1, r2, r3, r4, r5) (be x.toNat, wh x.toNat, so x.toNat, we x.toNat, le x.toNat))) (fun _ => [(mo, .inr (6, mo_ ma ty at0 dp wy un pl sp pe tk du tm)), (ma 27, .inl (G.2.2 1, 603, .inr (.inl (jl_ be)))), (ma 28, .inl (G.2.2 1, 603, .inr (.inl (jl_ so)))), (ma 29, .inl (G.2.2 1, 603, .inr (.inl (jl_ wh)))), (ma 30, .inl (G.2.2 1, 603, .inr (.inl (jl_ we)))), (ma 31, .inl (G.2.2 0, 603, .inl (ja_ le)))]) (fun _ _ => True)) 0 0 (va_A [(mo, .inr (6, mo_ ma ty at0 dp wy un pl sp pe tk du tm)), (ma 27, .inl (G.2.2 1, 603, .inr (.inl (jl_ be)))), (ma 28, .inl (G.2.2 1, 603, .inr (.inl (jl_ so)))), (ma 29, .inl (G.2.2 1, 603, .inr (.inl (jl_ wh)))), (ma 30, .inl (G.2.2 1, 603, .inr (.inl (jl_ we)))), (ma 31, .inl (G.2.2 0, 603, .inl (ja_ le)))] sz) := by
  refine xw_met (by decide) (Nat.le_of_ble_eq_true rfl) ?_
  intro p0 e0 s m0 args below meth c0 F hr hlk hin hsz hh hX ls hl
  subst hsz
  have hx := F.1
  have hb := F.2.1
  have hl : lv_has ls 11 [(0, .ref mo), (1, .int (xi_ x)), (2, .long (xl_ r1)), (4, .long (xl_ r3)), (6, .long (xl_ r2)), (8, .long (xl_ r4)), (10, .int (xi_ r5))] := hl
  obtain ⟨hb1, hb2, hb3, hb4, hb5⟩ := hbd x.toNat
  obtain ⟨hv1, hv2, hv3, hv4, hv5⟩ := hrv
  refine lv_aload_n hx hb d_M_isBefore_0 rfl (lv_at hl 0 rfl) ?_
  refine xw_get F hh.1 (v := .ref (ma 27)) fl_M_81_6 0 rfl rfl d_M_isBefore_1 ?_
  refine lv_iload_n hx hb d_M_isBefore_4 rfl (lv_at hl 1 rfl) ?_
  refine xw_lald F hh.1 1 (f := be) rfl (i := x) (by omega) d_M_isBefore_5 ?_
  refine lv_lload_n hx hb d_M_isBefore_6 rfl (lv_at hl 2 rfl) ?_
  refine xw_lcmp_eq hx hb 28 d_M_isBefore_7 d_M_isBefore_8 (by decide) (by omega) (fun c7 => ?_) (fun c7 => ?_)
  · refine lv_aload_n hx hb d_M_isBefore_28 rfl (lv_at hl 0 rfl) ?_
    refine xw_get F hh.1 (v := .ref (ma 29)) fl_M_87_6 0 rfl rfl d_M_isBefore_29 ?_
    refine lv_iload_n hx hb d_M_isBefore_32 rfl (lv_at hl 1 rfl) ?_
    refine xw_lald F hh.1 3 (f := wh) rfl (i := x) (by omega) d_M_isBefore_33 ?_
    refine lv_lload hx hb d_M_isBefore_34 (lv_at hl 4 rfl) ?_
    refine xw_lcmp_eq hx hb 58 d_M_isBefore_36 d_M_isBefore_37 (by decide) (by omega) (fun c36 => ?_) (fun c36 => ?_)
    · refine lv_aload_n hx hb d_M_isBefore_58 rfl (lv_at hl 0 rfl) ?_
      refine xw_get F hh.1 (v := .ref (ma 28)) fl_M_84_6 0 rfl rfl d_M_isBefore_59 ?_
      refine lv_iload_n hx hb d_M_isBefore_62 rfl (lv_at hl 1 rfl) ?_
      refine xw_lald F hh.1 2 (f := so) rfl (i := x) (by omega) d_M_isBefore_63 ?_
      refine lv_lload hx hb d_M_isBefore_64 (lv_at hl 3 rfl) ?_
      refine xw_lcmp_eq hx hb 88 d_M_isBefore_66 d_M_isBefore_67 (by decide) (by omega) (fun c66 => ?_) (fun c66 => ?_)
      · refine lv_aload_n hx hb d_M_isBefore_88 rfl (lv_at hl 0 rfl) ?_
        refine xw_get F hh.1 (v := .ref (ma 30)) fl_M_90_6 0 rfl rfl d_M_isBefore_89 ?_
        refine lv_iload_n hx hb d_M_isBefore_92 rfl (lv_at hl 1 rfl) ?_
        refine xw_lald F hh.1 4 (f := we) rfl (i := x) (by omega) d_M_isBefore_93 ?_
        refine lv_lload hx hb d_M_isBefore_94 (lv_at hl 5 rfl) ?_
        refine xw_lcmp_eq hx hb 120 d_M_isBefore_96 d_M_isBefore_97 (by decide) (by omega) (fun c96 => ?_) (fun c96 => ?_)
        · refine lv_aload_n hx hb d_M_isBefore_120 rfl (lv_at hl 0 rfl) ?_
          refine xw_get F hh.1 (v := .ref (ma 31)) fl_M_93_6 0 rfl rfl d_M_isBefore_121 ?_
          refine lv_iload_n hx hb d_M_isBefore_124 rfl (lv_at hl 1 rfl) ?_
          refine xw_iald F hh.1 5 (f := le) rfl (i := x) (by omega) d_M_isBefore_125 ?_
          refine lv_iload hx hb d_M_isBefore_126 (lv_at hl 6 rfl) ?_
          refine xw_icmp_gt hx hb 135 d_M_isBefore_128 (by decide) (by omega) (fun c128 => ?_) (fun c128 => ?_)
          · refine lv_iconst (v := xi_ 0) hx hb d_M_isBefore_135 rfl ?_
            exact xw_iret F hr hlk hh (by decide) () rfl (by exact b2_f (by rw [Bool.not_eq_false', r_lt_iff]; dsimp only; omega)) trivial d_M_isBefore_136
          · refine lv_iconst (v := xi_ 1) hx hb d_M_isBefore_131 rfl ?_
            refine lv_goto (tgt := 136) hx hb d_M_isBefore_132 (by decide) ?_
            exact xw_iret F hr hlk hh (by decide) () rfl (by exact b2_t (by rw [Bool.not_eq_true', r_nlt_iff]; dsimp only; omega)) trivial d_M_isBefore_136
        · refine lv_aload_n hx hb d_M_isBefore_100 rfl (lv_at hl 0 rfl) ?_
          refine xw_get F hh.1 (v := .ref (ma 30)) fl_M_90_6 0 rfl rfl d_M_isBefore_101 ?_
          refine lv_iload_n hx hb d_M_isBefore_104 rfl (lv_at hl 1 rfl) ?_
          refine xw_lald F hh.1 4 (f := we) rfl (i := x) (by omega) d_M_isBefore_105 ?_
          refine lv_lload hx hb d_M_isBefore_106 (lv_at hl 5 rfl) ?_
          refine xw_lcmp_ge hx hb 116 d_M_isBefore_108 d_M_isBefore_109 (by decide) (by omega) (fun c108 => ?_) (fun c108 => ?_)
          · refine lv_iconst (v := xi_ 0) hx hb d_M_isBefore_116 rfl ?_
            refine lv_goto (tgt := 136) hx hb d_M_isBefore_117 (by decide) ?_
            exact xw_iret F hr hlk hh (by decide) () rfl (by exact b2_f (by rw [Bool.not_eq_false', r_lt_iff]; dsimp only; omega)) trivial d_M_isBefore_136
          · refine lv_iconst (v := xi_ 1) hx hb d_M_isBefore_112 rfl ?_
            refine lv_goto (tgt := 136) hx hb d_M_isBefore_113 (by decide) ?_
            exact xw_iret F hr hlk hh (by decide) () rfl (by exact b2_t (by rw [Bool.not_eq_true', r_nlt_iff]; dsimp only; omega)) trivial d_M_isBefore_136
      · refine lv_aload_n hx hb d_M_isBefore_70 rfl (lv_at hl 0 rfl) ?_
        refine xw_get F hh.1 (v := .ref (ma 28)) fl_M_84_6 0 rfl rfl d_M_isBefore_71 ?_
        refine lv_iload_n hx hb d_M_isBefore_74 rfl (lv_at hl 1 rfl) ?_
        refine xw_lald F hh.1 2 (f := so) rfl (i := x) (by omega) d_M_isBefore_75 ?_
        refine lv_lload hx hb d_M_isBefore_76 (lv_at hl 3 rfl) ?_
        refine xw_lcmp_ge hx hb 86 d_M_isBefore_78 d_M_isBefore_79 (by decide) (by omega) (fun c78 => ?_) (fun c78 => ?_)
        · refine lv_iconst (v := xi_ 0) hx hb d_M_isBefore_86 rfl ?_
          exact xw_iret F hr hlk hh (by decide) () rfl (by exact b2_f (by rw [Bool.not_eq_false', r_lt_iff]; dsimp only; omega)) trivial d_M_isBefore_87
        · refine lv_iconst (v := xi_ 1) hx hb d_M_isBefore_82 rfl ?_
          refine lv_goto (tgt := 87) hx hb d_M_isBefore_83 (by decide) ?_
          exact xw_iret F hr hlk hh (by decide) () rfl (by exact b2_t (by rw [Bool.not_eq_true', r_nlt_iff]; dsimp only; omega)) trivial d_M_isBefore_87
    · refine lv_aload_n hx hb d_M_isBefore_40 rfl (lv_at hl 0 rfl) ?_
      refine xw_get F hh.1 (v := .ref (ma 29)) fl_M_87_6 0 rfl rfl d_M_isBefore_41 ?_
      refine lv_iload_n hx hb d_M_isBefore_44 rfl (lv_at hl 1 rfl) ?_
      refine xw_lald F hh.1 3 (f := wh) rfl (i := x) (by omega) d_M_isBefore_45 ?_
      refine lv_lload hx hb d_M_isBefore_46 (lv_at hl 4 rfl) ?_
      refine xw_lcmp_ge hx hb 56 d_M_isBefore_48 d_M_isBefore_49 (by decide) (by omega) (fun c48 => ?_) (fun c48 => ?_)
      · refine lv_iconst (v := xi_ 0) hx hb d_M_isBefore_56 rfl ?_
        exact xw_iret F hr hlk hh (by decide) () rfl (by exact b2_f (by rw [Bool.not_eq_false', r_lt_iff]; dsimp only; omega)) trivial d_M_isBefore_57
      · refine lv_iconst (v := xi_ 1) hx hb d_M_isBefore_52 rfl ?_
        refine lv_goto (tgt := 57) hx hb d_M_isBefore_53 (by decide) ?_
        exact xw_iret F hr hlk hh (by decide) () rfl (by exact b2_t (by rw [Bool.not_eq_true', r_nlt_iff]; dsimp only; omega)) trivial d_M_isBefore_57
  · refine lv_aload_n hx hb d_M_isBefore_11 rfl (lv_at hl 0 rfl) ?_
    refine xw_get F hh.1 (v := .ref (ma 27)) fl_M_81_6 0 rfl rfl d_M_isBefore_12 ?_
    refine lv_iload_n hx hb d_M_isBefore_15 rfl (lv_at hl 1 rfl) ?_
    refine xw_lald F hh.1 1 (f := be) rfl (i := x) (by omega) d_M_isBefore_16 ?_
    refine lv_lload_n hx hb d_M_isBefore_17 rfl (lv_at hl 2 rfl) ?_
    refine xw_lcmp_ge hx hb 26 d_M_isBefore_18 d_M_isBefore_19 (by decide) (by omega) (fun c18 => ?_) (fun c18 => ?_)
    · refine lv_iconst (v := xi_ 0) hx hb d_M_isBefore_26 rfl ?_
      exact xw_iret F hr hlk hh (by decide) () rfl (by exact b2_f (by rw [Bool.not_eq_false', r_lt_iff]; dsimp only; omega)) trivial d_M_isBefore_27
    · refine lv_iconst (v := xi_ 1) hx hb d_M_isBefore_22 rfl ?_
      refine lv_goto (tgt := 27) hx hb d_M_isBefore_23 (by decide) ?_
      exact xw_iret F hr hlk hh (by decide) () rfl (by exact b2_t (by rw [Bool.not_eq_true', r_nlt_iff]; dsimp only; omega)) trivial d_M_isBefore_27
def rm_M_isLater : Room := { frames := 0, cells := 0, slots := 0, locals := 0 }
/-- the numbers of all due rows are small -/
def dbd_ (dt ds dm de dl : Nat → Int) : Prop := ∀ j : Nat, (-2000000000 ≤ dt j ∧ dt j ≤ 2000000000) ∧ (0 ≤ ds j ∧ ds j ≤ 7) ∧ (-1000000000000000 ≤ dm j ∧ dm j ≤ 1000000000000000) ∧ (-1000000000000000 ≤ de j ∧ de j ≤ 1000000000000000) ∧ (0 ≤ dl j ∧ dl j ≤ 65535)
set_option maxHeartbeats 4000000 in
set_option maxRecDepth 100000 in
theorem c_M_isLater (l : Launch) (G : GG_) (sz : Nat) (mo : Nat) (ma : Nat → Nat) (ty at0 dp wy un pl sp pe tk du tm : Int) (dt ds dm de dl : Nat → Int) (hbd : dbd_ dt ds dm de dl) (x : Int) (hxr : 0 ≤ x ∧ x < 101) (r1 r2 r3 r4 r5 : Int) (hrv : ((-2000000000 ≤ r1 ∧ r1 ≤ 2000000000) ∧ (0 ≤ r2 ∧ r2 ≤ 7) ∧ (-1000000000000000 ≤ r3 ∧ r3 ≤ 1000000000000000) ∧ (-1000000000000000 ≤ r4 ∧ r4 ≤ 1000000000000000) ∧ (0 ≤ r5 ∧ r5 ≤ 65535))) : Met l y_M_isLater (cw_ y_M_isLater b_M_isLater 9 (some .boolean)) rm_M_isLater (xw_P G [.ref mo, .int (xi_ x), .int (xi_ r1), .int (xi_ r2), .long (xl_ r3), .long (xl_ r4), .int (xi_ r5)] sz [(mo, .inr (6, mo_ ma ty at0 dp wy un pl sp pe tk du tm)), (ma 39, .inl (G.2.2 0, 101, .inl (ja_ dt))), (ma 40, .inl (G.2.2 0, 101, .inl (ja_ ds))), (ma 43, .inl (G.2.2 1, 101, .inr (.inl (jl_ dm)))), (ma 44, .inl (G.2.2 1, 101, .inr (.inl (jl_ de)))), (ma 41, .inl (G.2.2 0, 101, .inl (ja_ dl)))] (fun _ => True)) (xw_Qi (S := Unit) G sz [(mo, .inr (6, mo_ ma ty at0 dp wy un pl sp pe tk du tm)), (ma 39, .inl (G.2.2 0, 101, .inl (ja_ dt))), (ma 40, .inl (G.2.2 0, 101, .inl (ja_ ds))), (ma 43, .inl (G.2.2 1, 101, .inr (.inl (jl_ dm)))), (ma 44, .inl (G.2.2 1, 101, .inr (.inl (jl_ de)))), (ma 41, .inl (G.2.2 0, 101, .inl (ja_ dl)))] (fun z _ => z = b2_ (r_lt (r1, r2, r3, r4, r5) (dt x.toNat, ds x.toNat, dm x.toNat, de x.toNat, dl x.toNat))) (fun _ => [(mo, .inr (6, mo_ ma ty at0 dp wy un pl sp pe tk du tm)), (ma 39, .inl (G.2.2 0, 101, .inl (ja_ dt))), (ma 40, .inl (G.2.2 0, 101, .inl (ja_ ds))), (ma 43, .inl (G.2.2 1, 101, .inr (.inl (jl_ dm)))), (ma 44, .inl (G.2.2 1, 101, .inr (.inl (jl_ de)))), (ma 41, .inl (G.2.2 0, 101, .inl (ja_ dl)))]) (fun _ _ => True)) 0 0 (va_A [(mo, .inr (6, mo_ ma ty at0 dp wy un pl sp pe tk du tm)), (ma 39, .inl (G.2.2 0, 101, .inl (ja_ dt))), (ma 40, .inl (G.2.2 0, 101, .inl (ja_ ds))), (ma 43, .inl (G.2.2 1, 101, .inr (.inl (jl_ dm)))), (ma 44, .inl (G.2.2 1, 101, .inr (.inl (jl_ de)))), (ma 41, .inl (G.2.2 0, 101, .inl (ja_ dl)))] sz) := by
  refine xw_met (by decide) (Nat.le_of_ble_eq_true rfl) ?_
  intro p0 e0 s m0 args below meth c0 F hr hlk hin hsz hh hX ls hl
  subst hsz
  have hx := F.1
  have hb := F.2.1
  have hl : lv_has ls 9 [(0, .ref mo), (1, .int (xi_ x)), (2, .int (xi_ r1)), (3, .int (xi_ r2)), (4, .long (xl_ r3)), (6, .long (xl_ r4)), (8, .int (xi_ r5))] := hl
  obtain ⟨hb1, hb2, hb3, hb4, hb5⟩ := hbd x.toNat
  obtain ⟨hv1, hv2, hv3, hv4, hv5⟩ := hrv
  refine lv_aload_n hx hb d_M_isLater_0 rfl (lv_at hl 0 rfl) ?_
  refine xw_get F hh.1 (v := .ref (ma 39)) fl_M_100_6 0 rfl rfl d_M_isLater_1 ?_
  refine lv_iload_n hx hb d_M_isLater_4 rfl (lv_at hl 1 rfl) ?_
  refine xw_iald F hh.1 1 (f := dt) rfl (i := x) (by omega) d_M_isLater_5 ?_
  refine lv_iload_n hx hb d_M_isLater_6 rfl (lv_at hl 2 rfl) ?_
  refine xw_icmp_eq hx hb 26 d_M_isLater_7 (by decide) (by omega) (fun c7 => ?_) (fun c7 => ?_)
  · refine lv_aload_n hx hb d_M_isLater_26 rfl (lv_at hl 0 rfl) ?_
    refine xw_get F hh.1 (v := .ref (ma 40)) fl_M_103_6 0 rfl rfl d_M_isLater_27 ?_
    refine lv_iload_n hx hb d_M_isLater_30 rfl (lv_at hl 1 rfl) ?_
    refine xw_iald F hh.1 2 (f := ds) rfl (i := x) (by omega) d_M_isLater_31 ?_
    refine lv_iload_n hx hb d_M_isLater_32 rfl (lv_at hl 3 rfl) ?_
    refine xw_icmp_eq hx hb 52 d_M_isLater_33 (by decide) (by omega) (fun c33 => ?_) (fun c33 => ?_)
    · refine lv_aload_n hx hb d_M_isLater_52 rfl (lv_at hl 0 rfl) ?_
      refine xw_get F hh.1 (v := .ref (ma 43)) fl_M_112_6 0 rfl rfl d_M_isLater_53 ?_
      refine lv_iload_n hx hb d_M_isLater_56 rfl (lv_at hl 1 rfl) ?_
      refine xw_lald F hh.1 3 (f := dm) rfl (i := x) (by omega) d_M_isLater_57 ?_
      refine lv_lload hx hb d_M_isLater_58 (lv_at hl 4 rfl) ?_
      refine xw_lcmp_eq hx hb 82 d_M_isLater_60 d_M_isLater_61 (by decide) (by omega) (fun c60 => ?_) (fun c60 => ?_)
      · refine lv_aload_n hx hb d_M_isLater_82 rfl (lv_at hl 0 rfl) ?_
        refine xw_get F hh.1 (v := .ref (ma 44)) fl_M_115_6 0 rfl rfl d_M_isLater_83 ?_
        refine lv_iload_n hx hb d_M_isLater_86 rfl (lv_at hl 1 rfl) ?_
        refine xw_lald F hh.1 4 (f := de) rfl (i := x) (by omega) d_M_isLater_87 ?_
        refine lv_lload hx hb d_M_isLater_88 (lv_at hl 5 rfl) ?_
        refine xw_lcmp_eq hx hb 114 d_M_isLater_90 d_M_isLater_91 (by decide) (by omega) (fun c90 => ?_) (fun c90 => ?_)
        · refine lv_aload_n hx hb d_M_isLater_114 rfl (lv_at hl 0 rfl) ?_
          refine xw_get F hh.1 (v := .ref (ma 41)) fl_M_106_6 0 rfl rfl d_M_isLater_115 ?_
          refine lv_iload_n hx hb d_M_isLater_118 rfl (lv_at hl 1 rfl) ?_
          refine xw_iald F hh.1 5 (f := dl) rfl (i := x) (by omega) d_M_isLater_119 ?_
          refine lv_iload hx hb d_M_isLater_120 (lv_at hl 6 rfl) ?_
          refine xw_icmp_le hx hb 129 d_M_isLater_122 (by decide) (by omega) (fun c122 => ?_) (fun c122 => ?_)
          · refine lv_iconst (v := xi_ 0) hx hb d_M_isLater_129 rfl ?_
            exact xw_iret F hr hlk hh (by decide) () rfl (by exact b2_f (by rw [r_nlt_iff]; dsimp only; omega)) trivial d_M_isLater_130
          · refine lv_iconst (v := xi_ 1) hx hb d_M_isLater_125 rfl ?_
            refine lv_goto (tgt := 130) hx hb d_M_isLater_126 (by decide) ?_
            exact xw_iret F hr hlk hh (by decide) () rfl (by exact b2_t (by rw [r_lt_iff]; dsimp only; omega)) trivial d_M_isLater_130
        · refine lv_aload_n hx hb d_M_isLater_94 rfl (lv_at hl 0 rfl) ?_
          refine xw_get F hh.1 (v := .ref (ma 44)) fl_M_115_6 0 rfl rfl d_M_isLater_95 ?_
          refine lv_iload_n hx hb d_M_isLater_98 rfl (lv_at hl 1 rfl) ?_
          refine xw_lald F hh.1 4 (f := de) rfl (i := x) (by omega) d_M_isLater_99 ?_
          refine lv_lload hx hb d_M_isLater_100 (lv_at hl 5 rfl) ?_
          refine xw_lcmp_le hx hb 110 d_M_isLater_102 d_M_isLater_103 (by decide) (by omega) (fun c102 => ?_) (fun c102 => ?_)
          · refine lv_iconst (v := xi_ 0) hx hb d_M_isLater_110 rfl ?_
            refine lv_goto (tgt := 130) hx hb d_M_isLater_111 (by decide) ?_
            exact xw_iret F hr hlk hh (by decide) () rfl (by exact b2_f (by rw [r_nlt_iff]; dsimp only; omega)) trivial d_M_isLater_130
          · refine lv_iconst (v := xi_ 1) hx hb d_M_isLater_106 rfl ?_
            refine lv_goto (tgt := 130) hx hb d_M_isLater_107 (by decide) ?_
            exact xw_iret F hr hlk hh (by decide) () rfl (by exact b2_t (by rw [r_lt_iff]; dsimp only; omega)) trivial d_M_isLater_130
      · refine lv_aload_n hx hb d_M_isLater_64 rfl (lv_at hl 0 rfl) ?_
        refine xw_get F hh.1 (v := .ref (ma 43)) fl_M_112_6 0 rfl rfl d_M_isLater_65 ?_
        refine lv_iload_n hx hb d_M_isLater_68 rfl (lv_at hl 1 rfl) ?_
        refine xw_lald F hh.1 3 (f := dm) rfl (i := x) (by omega) d_M_isLater_69 ?_
        refine lv_lload hx hb d_M_isLater_70 (lv_at hl 4 rfl) ?_
        refine xw_lcmp_le hx hb 80 d_M_isLater_72 d_M_isLater_73 (by decide) (by omega) (fun c72 => ?_) (fun c72 => ?_)
        · refine lv_iconst (v := xi_ 0) hx hb d_M_isLater_80 rfl ?_
          exact xw_iret F hr hlk hh (by decide) () rfl (by exact b2_f (by rw [r_nlt_iff]; dsimp only; omega)) trivial d_M_isLater_81
        · refine lv_iconst (v := xi_ 1) hx hb d_M_isLater_76 rfl ?_
          refine lv_goto (tgt := 81) hx hb d_M_isLater_77 (by decide) ?_
          exact xw_iret F hr hlk hh (by decide) () rfl (by exact b2_t (by rw [r_lt_iff]; dsimp only; omega)) trivial d_M_isLater_81
    · refine lv_aload_n hx hb d_M_isLater_36 rfl (lv_at hl 0 rfl) ?_
      refine xw_get F hh.1 (v := .ref (ma 40)) fl_M_103_6 0 rfl rfl d_M_isLater_37 ?_
      refine lv_iload_n hx hb d_M_isLater_40 rfl (lv_at hl 1 rfl) ?_
      refine xw_iald F hh.1 2 (f := ds) rfl (i := x) (by omega) d_M_isLater_41 ?_
      refine lv_iload_n hx hb d_M_isLater_42 rfl (lv_at hl 3 rfl) ?_
      refine xw_icmp_le hx hb 50 d_M_isLater_43 (by decide) (by omega) (fun c43 => ?_) (fun c43 => ?_)
      · refine lv_iconst (v := xi_ 0) hx hb d_M_isLater_50 rfl ?_
        exact xw_iret F hr hlk hh (by decide) () rfl (by exact b2_f (by rw [r_nlt_iff]; dsimp only; omega)) trivial d_M_isLater_51
      · refine lv_iconst (v := xi_ 1) hx hb d_M_isLater_46 rfl ?_
        refine lv_goto (tgt := 51) hx hb d_M_isLater_47 (by decide) ?_
        exact xw_iret F hr hlk hh (by decide) () rfl (by exact b2_t (by rw [r_lt_iff]; dsimp only; omega)) trivial d_M_isLater_51
  · refine lv_aload_n hx hb d_M_isLater_10 rfl (lv_at hl 0 rfl) ?_
    refine xw_get F hh.1 (v := .ref (ma 39)) fl_M_100_6 0 rfl rfl d_M_isLater_11 ?_
    refine lv_iload_n hx hb d_M_isLater_14 rfl (lv_at hl 1 rfl) ?_
    refine xw_iald F hh.1 1 (f := dt) rfl (i := x) (by omega) d_M_isLater_15 ?_
    refine lv_iload_n hx hb d_M_isLater_16 rfl (lv_at hl 2 rfl) ?_
    refine xw_icmp_le hx hb 24 d_M_isLater_17 (by decide) (by omega) (fun c17 => ?_) (fun c17 => ?_)
    · refine lv_iconst (v := xi_ 0) hx hb d_M_isLater_24 rfl ?_
      exact xw_iret F hr hlk hh (by decide) () rfl (by exact b2_f (by rw [r_nlt_iff]; dsimp only; omega)) trivial d_M_isLater_25
    · refine lv_iconst (v := xi_ 1) hx hb d_M_isLater_20 rfl ?_
      refine lv_goto (tgt := 25) hx hb d_M_isLater_21 (by decide) ?_
      exact xw_iret F hr hlk hh (by decide) () rfl (by exact b2_t (by rw [r_lt_iff]; dsimp only; omega)) trivial d_M_isLater_25
set_option maxHeartbeats 4000000 in
set_option maxRecDepth 100000 in
theorem c_M_closesZ (l : Launch) (G : GG_) (sz : Nat) (mo : Nat) (ma : Nat → Nat) (wy un pl sp pe tk du tm : Int) (len : Nat) (z : MZ) (tx : Nat → Int) (hz : (z_dp z = 0 ∨ (0 < z_dp z ∧ z_dp z ≤ 40 ∧ (0 ≤ z_op z (z_dp z - 1) ∧ z_op z (z_dp z - 1) < 48) ∧ (0 ≤ a_kn (z_A z) (x4_ (z_op z (z_dp z - 1))) ∧ a_kn (z_A z) (x4_ (z_op z (z_dp z - 1))) ≤ 10) ∧ (0 ≤ a_co (z_A z) (x4_ (z_op z (z_dp z - 1))) ∧ a_co (z_A z) (x4_ (z_op z (z_dp z - 1))) ≤ 10)))) (hc : 0 ≤ tx (z_at z) ∧ tx (z_at z) ≤ 65535) : Met l y_M_closes (cw_ y_M_closes b_M_closes 4 (some .boolean)) rm_M_closes (xw_P G [.ref mo, .int (xi_ (tx (z_at z)))] sz [(mo, .inr (6, mo_ ma (len : Int) (z_at z : Int) (z_dp z : Int) wy un pl sp pe tk du tm)), (ma 3, .inl (G.2.2 0, 432, .inl (ja_ (a_kn (z_A z))))), (ma 9, .inl (G.2.2 0, 432, .inl (ja_ (a_co (z_A z))))), (ma 14, .inl (G.2.2 0, 50, .inl (ja_ (z_op z))))] (fun _ => True)) (xw_Qi (S := Unit) G sz [(mo, .inr (6, mo_ ma (len : Int) (z_at z : Int) (z_dp z : Int) wy un pl sp pe tk du tm)), (ma 3, .inl (G.2.2 0, 432, .inl (ja_ (a_kn (z_A z))))), (ma 9, .inl (G.2.2 0, 432, .inl (ja_ (a_co (z_A z))))), (ma 14, .inl (G.2.2 0, 50, .inl (ja_ (z_op z))))] (fun w _ => (w = 1 ∧ clz_ tx z) ∨ (w = 0 ∧ ¬ clz_ tx z)) (fun _ => [(mo, .inr (6, mo_ ma (len : Int) (z_at z : Int) (z_dp z : Int) wy un pl sp pe tk du tm)), (ma 3, .inl (G.2.2 0, 432, .inl (ja_ (a_kn (z_A z))))), (ma 9, .inl (G.2.2 0, 432, .inl (ja_ (a_co (z_A z))))), (ma 14, .inl (G.2.2 0, 50, .inl (ja_ (z_op z))))]) (fun _ _ => True)) 0 0 (va_A [(mo, .inr (6, mo_ ma (len : Int) (z_at z : Int) (z_dp z : Int) wy un pl sp pe tk du tm)), (ma 3, .inl (G.2.2 0, 432, .inl (ja_ (a_kn (z_A z))))), (ma 9, .inl (G.2.2 0, 432, .inl (ja_ (a_co (z_A z))))), (ma 14, .inl (G.2.2 0, 50, .inl (ja_ (z_op z))))] sz) := by
  refine xw_met (by decide) (Nat.le_of_ble_eq_true rfl) ?_
  intro p0 e0 s m0 args below meth c0 F hr hlk hin hsz hh hX ls hl
  subst hsz
  have hx := F.1
  have hb := F.2.1
  have hl : lv_has ls 4 [(0, .ref mo), (1, .int (xi_ (tx (z_at z))))] := hl
  refine lv_aload_n hx hb d_M_closes_0 rfl (lv_at hl 0 rfl) ?_
  refine xw_get F hh.1 (v := .int (xi_ (z_dp z : Int))) fl_M_123_6 0 rfl rfl d_M_closes_1 ?_
  refine xw_if_ne hx hb 9 d_M_closes_4 (by decide) (by omega) (fun c4 => ?_) (fun c4 => ?_)
  · have ht9 := hz.resolve_left (by omega)
    obtain ⟨ht1, ht2, ht3, ht4, ht5⟩ := ht9
    obtain ⟨kk, hkk⟩ : ∃ kk, kk = a_kn (z_A z) (x4_ (z_op z (z_dp z - 1))) := ⟨_, rfl⟩
    obtain ⟨cc, hcc⟩ : ∃ cc, cc = a_co (z_A z) (x4_ (z_op z (z_dp z - 1))) := ⟨_, rfl⟩
    rw [← hkk] at ht4
    rw [← hcc] at ht5
    refine lv_sipush (v := xi_ 384) hx hb d_M_closes_9 (by decide) ?_
    refine lv_aload_n hx hb d_M_closes_12 rfl (lv_at hl 0 rfl) ?_
    refine xw_get F hh.1 (v := .ref (ma 14)) fl_M_43_6 0 rfl rfl d_M_closes_13 ?_
    refine lv_aload_n hx hb d_M_closes_16 rfl (lv_at hl 0 rfl) ?_
    refine xw_get F hh.1 (v := .int (xi_ (z_dp z : Int))) fl_M_123_6 0 rfl rfl d_M_closes_17 ?_
    refine lv_iconst (v := xi_ 1) hx hb d_M_closes_20 rfl ?_
    refine xw_isub hx hb d_M_closes_21 ?_
    refine xw_iald F hh.1 3 (f := z_op z) rfl (i := (z_dp z : Int) - 1) (by omega) d_M_closes_22 ?_
    refine xw_topi (y := z_op z (z_dp z - 1)) (congrArg (z_op z) (by omega)) ?_
    refine xw_iadd hx hb d_M_closes_23 ?_
    refine lv_istore_n (lv' := [(2, .int (xi_ (384 + (z_op z (z_dp z - 1))))), (0, .ref mo), (1, .int (xi_ (tx (z_at z))))]) hx hb d_M_closes_24 rfl hl (by decide) rfl (fun ls hl => ?_)
    refine lv_aload_n hx hb d_M_closes_25 rfl (lv_at hl 1 rfl) ?_
    refine xw_get F hh.1 (v := .ref (ma 3)) fl_M_13_6 0 rfl rfl d_M_closes_26 ?_
    refine lv_iload_n hx hb d_M_closes_29 rfl (lv_at hl 0 rfl) ?_
    refine xw_iald F hh.1 1 (f := a_kn (z_A z)) rfl (i := 384 + (z_op z (z_dp z - 1))) (by omega) d_M_closes_30 ?_
    refine xw_topi (y := kk) hkk.symm ?_
    refine lv_iconst (v := xi_ 1) hx hb d_M_closes_31 rfl ?_
    refine xw_icmp_ne hx hb 40 d_M_closes_32 (by decide) (by omega) (fun c32 => ?_) (fun c32 => ?_)
    · refine lv_aload_n hx hb d_M_closes_40 rfl (lv_at hl 1 rfl) ?_
      refine xw_get F hh.1 (v := .ref (ma 3)) fl_M_13_6 0 rfl rfl d_M_closes_41 ?_
      refine lv_iload_n hx hb d_M_closes_44 rfl (lv_at hl 0 rfl) ?_
      refine xw_iald F hh.1 1 (f := a_kn (z_A z)) rfl (i := 384 + (z_op z (z_dp z - 1))) (by omega) d_M_closes_45 ?_
      refine xw_topi (y := kk) hkk.symm ?_
      refine lv_iconst (v := xi_ 2) hx hb d_M_closes_46 rfl ?_
      refine xw_icmp_ne hx hb 55 d_M_closes_47 (by decide) (by omega) (fun c47 => ?_) (fun c47 => ?_)
      · refine lv_aload_n hx hb d_M_closes_55 rfl (lv_at hl 1 rfl) ?_
        refine xw_get F hh.1 (v := .ref (ma 3)) fl_M_13_6 0 rfl rfl d_M_closes_56 ?_
        refine lv_iload_n hx hb d_M_closes_59 rfl (lv_at hl 0 rfl) ?_
        refine xw_iald F hh.1 1 (f := a_kn (z_A z)) rfl (i := 384 + (z_op z (z_dp z - 1))) (by omega) d_M_closes_60 ?_
        refine xw_topi (y := kk) hkk.symm ?_
        refine lv_iconst (v := xi_ 3) hx hb d_M_closes_61 rfl ?_
        refine xw_icmp_ne hx hb 70 d_M_closes_62 (by decide) (by omega) (fun c62 => ?_) (fun c62 => ?_)
        · refine lv_iconst (v := xi_ 0) hx hb d_M_closes_70 rfl ?_
          refine lv_istore_n (lv' := [(3, .int (xi_ 0)), (2, .int (xi_ (384 + (z_op z (z_dp z - 1))))), (0, .ref mo), (1, .int (xi_ (tx (z_at z))))]) hx hb d_M_closes_71 rfl hl (by decide) rfl (fun ls hl => ?_)
          refine lv_aload_n hx hb d_M_closes_72 rfl (lv_at hl 2 rfl) ?_
          refine xw_get F hh.1 (v := .ref (ma 9)) fl_M_31_6 0 rfl rfl d_M_closes_73 ?_
          refine lv_iload_n hx hb d_M_closes_76 rfl (lv_at hl 1 rfl) ?_
          refine xw_iald F hh.1 2 (f := a_co (z_A z)) rfl (i := 384 + (z_op z (z_dp z - 1))) (by omega) d_M_closes_77 ?_
          refine xw_topi (y := cc) hcc.symm ?_
          refine xw_if_le hx hb 90 d_M_closes_78 (by decide) (by omega) (fun c78 => ?_) (fun c78 => ?_)
          · refine lv_iconst (v := xi_ 0) hx hb d_M_closes_90 rfl ?_
            exact xw_iret F hr hlk hh (by decide) () rfl (by exact Or.inr ⟨rfl, fun q => by have q2 := q.2.1; have q3 := q.2.2; rw [← hcc] at q2; rw [← hkk] at q3; have := cl_or kk; omega⟩) trivial d_M_closes_91
          · refine lv_iload_n hx hb d_M_closes_81 rfl (lv_at hl 3 rfl) ?_
            refine lv_iload_n hx hb d_M_closes_82 rfl (lv_at hl 0 rfl) ?_
            refine xw_icmp_ne hx hb 90 d_M_closes_83 (by decide) (by omega) (fun c83 => ?_) (fun c83 => ?_)
            · refine lv_iconst (v := xi_ 0) hx hb d_M_closes_90 rfl ?_
              exact xw_iret F hr hlk hh (by decide) () rfl (by exact Or.inr ⟨rfl, fun q => by have q2 := q.2.1; have q3 := q.2.2; rw [← hcc] at q2; rw [← hkk] at q3; have := cl_or kk; omega⟩) trivial d_M_closes_91
            · refine lv_iconst (v := xi_ 1) hx hb d_M_closes_86 rfl ?_
              refine lv_goto (tgt := 91) hx hb d_M_closes_87 (by decide) ?_
              exact xw_iret F hr hlk hh (by decide) () rfl (by exact Or.inl ⟨rfl, ht1, by rw [← hcc]; omega, by rw [← hkk]; have := cl_or kk; omega⟩) trivial d_M_closes_91
        · refine lv_bipush (v := xi_ 125) hx hb d_M_closes_65 (by decide) ?_
          refine lv_goto (tgt := 71) hx hb d_M_closes_67 (by decide) ?_
          refine lv_istore_n (lv' := [(3, .int (xi_ 125)), (2, .int (xi_ (384 + (z_op z (z_dp z - 1))))), (0, .ref mo), (1, .int (xi_ (tx (z_at z))))]) hx hb d_M_closes_71 rfl hl (by decide) rfl (fun ls hl => ?_)
          refine lv_aload_n hx hb d_M_closes_72 rfl (lv_at hl 2 rfl) ?_
          refine xw_get F hh.1 (v := .ref (ma 9)) fl_M_31_6 0 rfl rfl d_M_closes_73 ?_
          refine lv_iload_n hx hb d_M_closes_76 rfl (lv_at hl 1 rfl) ?_
          refine xw_iald F hh.1 2 (f := a_co (z_A z)) rfl (i := 384 + (z_op z (z_dp z - 1))) (by omega) d_M_closes_77 ?_
          refine xw_topi (y := cc) hcc.symm ?_
          refine xw_if_le hx hb 90 d_M_closes_78 (by decide) (by omega) (fun c78 => ?_) (fun c78 => ?_)
          · refine lv_iconst (v := xi_ 0) hx hb d_M_closes_90 rfl ?_
            exact xw_iret F hr hlk hh (by decide) () rfl (by exact Or.inr ⟨rfl, fun q => by have q2 := q.2.1; have q3 := q.2.2; rw [← hcc] at q2; rw [← hkk] at q3; have := cl_or kk; omega⟩) trivial d_M_closes_91
          · refine lv_iload_n hx hb d_M_closes_81 rfl (lv_at hl 3 rfl) ?_
            refine lv_iload_n hx hb d_M_closes_82 rfl (lv_at hl 0 rfl) ?_
            refine xw_icmp_ne hx hb 90 d_M_closes_83 (by decide) (by omega) (fun c83 => ?_) (fun c83 => ?_)
            · refine lv_iconst (v := xi_ 0) hx hb d_M_closes_90 rfl ?_
              exact xw_iret F hr hlk hh (by decide) () rfl (by exact Or.inr ⟨rfl, fun q => by have q2 := q.2.1; have q3 := q.2.2; rw [← hcc] at q2; rw [← hkk] at q3; have := cl_or kk; omega⟩) trivial d_M_closes_91
            · refine lv_iconst (v := xi_ 1) hx hb d_M_closes_86 rfl ?_
              refine lv_goto (tgt := 91) hx hb d_M_closes_87 (by decide) ?_
              exact xw_iret F hr hlk hh (by decide) () rfl (by exact Or.inl ⟨rfl, ht1, by rw [← hcc]; omega, by rw [← hkk]; have := cl_or kk; omega⟩) trivial d_M_closes_91
      · refine lv_bipush (v := xi_ 62) hx hb d_M_closes_50 (by decide) ?_
        refine lv_goto (tgt := 71) hx hb d_M_closes_52 (by decide) ?_
        refine lv_istore_n (lv' := [(3, .int (xi_ 62)), (2, .int (xi_ (384 + (z_op z (z_dp z - 1))))), (0, .ref mo), (1, .int (xi_ (tx (z_at z))))]) hx hb d_M_closes_71 rfl hl (by decide) rfl (fun ls hl => ?_)
        refine lv_aload_n hx hb d_M_closes_72 rfl (lv_at hl 2 rfl) ?_
        refine xw_get F hh.1 (v := .ref (ma 9)) fl_M_31_6 0 rfl rfl d_M_closes_73 ?_
        refine lv_iload_n hx hb d_M_closes_76 rfl (lv_at hl 1 rfl) ?_
        refine xw_iald F hh.1 2 (f := a_co (z_A z)) rfl (i := 384 + (z_op z (z_dp z - 1))) (by omega) d_M_closes_77 ?_
        refine xw_topi (y := cc) hcc.symm ?_
        refine xw_if_le hx hb 90 d_M_closes_78 (by decide) (by omega) (fun c78 => ?_) (fun c78 => ?_)
        · refine lv_iconst (v := xi_ 0) hx hb d_M_closes_90 rfl ?_
          exact xw_iret F hr hlk hh (by decide) () rfl (by exact Or.inr ⟨rfl, fun q => by have q2 := q.2.1; have q3 := q.2.2; rw [← hcc] at q2; rw [← hkk] at q3; have := cl_or kk; omega⟩) trivial d_M_closes_91
        · refine lv_iload_n hx hb d_M_closes_81 rfl (lv_at hl 3 rfl) ?_
          refine lv_iload_n hx hb d_M_closes_82 rfl (lv_at hl 0 rfl) ?_
          refine xw_icmp_ne hx hb 90 d_M_closes_83 (by decide) (by omega) (fun c83 => ?_) (fun c83 => ?_)
          · refine lv_iconst (v := xi_ 0) hx hb d_M_closes_90 rfl ?_
            exact xw_iret F hr hlk hh (by decide) () rfl (by exact Or.inr ⟨rfl, fun q => by have q2 := q.2.1; have q3 := q.2.2; rw [← hcc] at q2; rw [← hkk] at q3; have := cl_or kk; omega⟩) trivial d_M_closes_91
          · refine lv_iconst (v := xi_ 1) hx hb d_M_closes_86 rfl ?_
            refine lv_goto (tgt := 91) hx hb d_M_closes_87 (by decide) ?_
            exact xw_iret F hr hlk hh (by decide) () rfl (by exact Or.inl ⟨rfl, ht1, by rw [← hcc]; omega, by rw [← hkk]; have := cl_or kk; omega⟩) trivial d_M_closes_91
    · refine lv_bipush (v := xi_ 93) hx hb d_M_closes_35 (by decide) ?_
      refine lv_goto (tgt := 71) hx hb d_M_closes_37 (by decide) ?_
      refine lv_istore_n (lv' := [(3, .int (xi_ 93)), (2, .int (xi_ (384 + (z_op z (z_dp z - 1))))), (0, .ref mo), (1, .int (xi_ (tx (z_at z))))]) hx hb d_M_closes_71 rfl hl (by decide) rfl (fun ls hl => ?_)
      refine lv_aload_n hx hb d_M_closes_72 rfl (lv_at hl 2 rfl) ?_
      refine xw_get F hh.1 (v := .ref (ma 9)) fl_M_31_6 0 rfl rfl d_M_closes_73 ?_
      refine lv_iload_n hx hb d_M_closes_76 rfl (lv_at hl 1 rfl) ?_
      refine xw_iald F hh.1 2 (f := a_co (z_A z)) rfl (i := 384 + (z_op z (z_dp z - 1))) (by omega) d_M_closes_77 ?_
      refine xw_topi (y := cc) hcc.symm ?_
      refine xw_if_le hx hb 90 d_M_closes_78 (by decide) (by omega) (fun c78 => ?_) (fun c78 => ?_)
      · refine lv_iconst (v := xi_ 0) hx hb d_M_closes_90 rfl ?_
        exact xw_iret F hr hlk hh (by decide) () rfl (by exact Or.inr ⟨rfl, fun q => by have q2 := q.2.1; have q3 := q.2.2; rw [← hcc] at q2; rw [← hkk] at q3; have := cl_or kk; omega⟩) trivial d_M_closes_91
      · refine lv_iload_n hx hb d_M_closes_81 rfl (lv_at hl 3 rfl) ?_
        refine lv_iload_n hx hb d_M_closes_82 rfl (lv_at hl 0 rfl) ?_
        refine xw_icmp_ne hx hb 90 d_M_closes_83 (by decide) (by omega) (fun c83 => ?_) (fun c83 => ?_)
        · refine lv_iconst (v := xi_ 0) hx hb d_M_closes_90 rfl ?_
          exact xw_iret F hr hlk hh (by decide) () rfl (by exact Or.inr ⟨rfl, fun q => by have q2 := q.2.1; have q3 := q.2.2; rw [← hcc] at q2; rw [← hkk] at q3; have := cl_or kk; omega⟩) trivial d_M_closes_91
        · refine lv_iconst (v := xi_ 1) hx hb d_M_closes_86 rfl ?_
          refine lv_goto (tgt := 91) hx hb d_M_closes_87 (by decide) ?_
          exact xw_iret F hr hlk hh (by decide) () rfl (by exact Or.inl ⟨rfl, ht1, by rw [← hcc]; omega, by rw [← hkk]; have := cl_or kk; omega⟩) trivial d_M_closes_91
  · refine lv_iconst (v := xi_ 0) hx hb d_M_closes_7 rfl ?_
    exact xw_iret F hr hlk hh (by decide) () rfl (by exact Or.inr ⟨rfl, fun q => by have q1 := q.1; omega⟩) trivial d_M_closes_8
set_option maxHeartbeats 4000000 in
set_option maxRecDepth 100000 in
theorem c_M_isFilledZ (l : Launch) (G : GG_) (sz : Nat) (mo : Nat) (ma : Nat → Nat) (wy un pl sp pe tk du tm : Int) (len : Nat) (z : MZ) (hz : (z_dp z = 0 ∨ (0 < z_dp z ∧ z_dp z ≤ 40 ∧ (0 ≤ z_op z (z_dp z - 1) ∧ z_op z (z_dp z - 1) < 48) ∧ (0 ≤ a_kn (z_A z) (x4_ (z_op z (z_dp z - 1))) ∧ a_kn (z_A z) (x4_ (z_op z (z_dp z - 1))) ≤ 10) ∧ (0 ≤ a_co (z_A z) (x4_ (z_op z (z_dp z - 1))) ∧ a_co (z_A z) (x4_ (z_op z (z_dp z - 1))) ≤ 10)))) : Met l y_M_isFilled (cw_ y_M_isFilled b_M_isFilled 1 (some .boolean)) rm_M_isFilled (xw_P G [.ref mo] sz [(mo, .inr (6, mo_ ma (len : Int) (z_at z : Int) (z_dp z : Int) wy un pl sp pe tk du tm)), (ma 3, .inl (G.2.2 0, 432, .inl (ja_ (a_kn (z_A z))))), (ma 9, .inl (G.2.2 0, 432, .inl (ja_ (a_co (z_A z))))), (ma 14, .inl (G.2.2 0, 50, .inl (ja_ (z_op z))))] (fun _ => True)) (xw_Qi (S := Unit) G sz [(mo, .inr (6, mo_ ma (len : Int) (z_at z : Int) (z_dp z : Int) wy un pl sp pe tk du tm)), (ma 3, .inl (G.2.2 0, 432, .inl (ja_ (a_kn (z_A z))))), (ma 9, .inl (G.2.2 0, 432, .inl (ja_ (a_co (z_A z))))), (ma 14, .inl (G.2.2 0, 50, .inl (ja_ (z_op z))))] (fun w _ => (w = 1 ∧ fil_ z) ∨ (w = 0 ∧ ¬ fil_ z)) (fun _ => [(mo, .inr (6, mo_ ma (len : Int) (z_at z : Int) (z_dp z : Int) wy un pl sp pe tk du tm)), (ma 3, .inl (G.2.2 0, 432, .inl (ja_ (a_kn (z_A z))))), (ma 9, .inl (G.2.2 0, 432, .inl (ja_ (a_co (z_A z))))), (ma 14, .inl (G.2.2 0, 50, .inl (ja_ (z_op z))))]) (fun _ _ => True)) 0 0 (va_A [(mo, .inr (6, mo_ ma (len : Int) (z_at z : Int) (z_dp z : Int) wy un pl sp pe tk du tm)), (ma 3, .inl (G.2.2 0, 432, .inl (ja_ (a_kn (z_A z))))), (ma 9, .inl (G.2.2 0, 432, .inl (ja_ (a_co (z_A z))))), (ma 14, .inl (G.2.2 0, 50, .inl (ja_ (z_op z))))] sz) := by
  refine xw_met (by decide) (Nat.le_of_ble_eq_true rfl) ?_
  intro p0 e0 s m0 args below meth c0 F hr hlk hin hsz hh hX ls hl
  subst hsz
  have hx := F.1
  have hb := F.2.1
  have hl : lv_has ls 1 [(0, .ref mo)] := hl
  refine lv_aload_n hx hb d_M_isFilled_0 rfl (lv_at hl 0 rfl) ?_
  refine xw_get F hh.1 (v := .int (xi_ (z_dp z : Int))) fl_M_123_6 0 rfl rfl d_M_isFilled_1 ?_
  refine xw_if_le hx hb 64 d_M_isFilled_4 (by decide) (by omega) (fun c4 => ?_) (fun c4 => ?_)
  · refine lv_iconst (v := xi_ 0) hx hb d_M_isFilled_64 rfl ?_
    exact xw_iret F hr hlk hh (by decide) () rfl (by exact Or.inr ⟨rfl, fun q => by have q1 := q.1; omega⟩) trivial d_M_isFilled_65
  · have ht9 := hz.resolve_left (by omega)
    obtain ⟨ht1, ht2, ht3, ht4, ht5⟩ := ht9
    obtain ⟨kk, hkk⟩ : ∃ kk, kk = a_kn (z_A z) (x4_ (z_op z (z_dp z - 1))) := ⟨_, rfl⟩
    obtain ⟨cc, hcc⟩ : ∃ cc, cc = a_co (z_A z) (x4_ (z_op z (z_dp z - 1))) := ⟨_, rfl⟩
    rw [← hkk] at ht4
    rw [← hcc] at ht5
    refine lv_aload_n hx hb d_M_isFilled_7 rfl (lv_at hl 0 rfl) ?_
    refine xw_get F hh.1 (v := .ref (ma 3)) fl_M_13_6 0 rfl rfl d_M_isFilled_8 ?_
    refine lv_sipush (v := xi_ 384) hx hb d_M_isFilled_11 (by decide) ?_
    refine lv_aload_n hx hb d_M_isFilled_14 rfl (lv_at hl 0 rfl) ?_
    refine xw_get F hh.1 (v := .ref (ma 14)) fl_M_43_6 0 rfl rfl d_M_isFilled_15 ?_
    refine lv_aload_n hx hb d_M_isFilled_18 rfl (lv_at hl 0 rfl) ?_
    refine xw_get F hh.1 (v := .int (xi_ (z_dp z : Int))) fl_M_123_6 0 rfl rfl d_M_isFilled_19 ?_
    refine lv_iconst (v := xi_ 1) hx hb d_M_isFilled_22 rfl ?_
    refine xw_isub hx hb d_M_isFilled_23 ?_
    refine xw_iald F hh.1 3 (f := z_op z) rfl (i := (z_dp z : Int) - 1) (by omega) d_M_isFilled_24 ?_
    refine xw_topi (y := z_op z (z_dp z - 1)) (congrArg (z_op z) (by omega)) ?_
    refine xw_iadd hx hb d_M_isFilled_25 ?_
    refine xw_iald F hh.1 1 (f := a_kn (z_A z)) rfl (i := 384 + (z_op z (z_dp z - 1))) (by omega) d_M_isFilled_26 ?_
    refine xw_topi (y := kk) hkk.symm ?_
    refine xw_cip hh (xw_rSp F (c_M_wants l G s.heap.size kk (by omega)) lk_M_126 cd_M_wants ss_M_wants rfl rfl ⟨by decide, by decide⟩ rfl hl.1 rfl (Nat.le_of_ble_eq_true rfl) d_M_isFilled_27 ⟨Nat.le_of_ble_eq_true rfl, Nat.le_of_ble_eq_true rfl⟩) (fun z27 u H locs hp27 hz hk hh => ?_)
    obtain rfl : z27 = wn_ kk := hp27
    have hwn := wn_or kk
    refine lv_bipush (v := xi_ 10) hx hb d_M_isFilled_30 (by decide) ?_
    refine xw_icmp_ne hx hb 64 d_M_isFilled_32 (by decide) (by omega) (fun c32 => ?_) (fun c32 => ?_)
    · refine lv_iconst (v := xi_ 0) hx hb d_M_isFilled_64 rfl ?_
      exact xw_iret F hr hlk hh (by decide) () rfl (by exact Or.inr ⟨rfl, fun q => by have q2 := q.2.1; have q3 := q.2.2; rw [← hkk] at q2; rw [← hcc] at q3; omega⟩) trivial d_M_isFilled_65
    · refine lv_aload_n hx hb d_M_isFilled_35 rfl (lv_at hl 0 rfl) ?_
      refine xw_get F hh.1 (v := .ref (ma 9)) fl_M_31_6 0 rfl rfl d_M_isFilled_36 ?_
      refine lv_sipush (v := xi_ 384) hx hb d_M_isFilled_39 (by decide) ?_
      refine lv_aload_n hx hb d_M_isFilled_42 rfl (lv_at hl 0 rfl) ?_
      refine xw_get F hh.1 (v := .ref (ma 14)) fl_M_43_6 0 rfl rfl d_M_isFilled_43 ?_
      refine lv_aload_n hx hb d_M_isFilled_46 rfl (lv_at hl 0 rfl) ?_
      refine xw_get F hh.1 (v := .int (xi_ (z_dp z : Int))) fl_M_123_6 0 rfl rfl d_M_isFilled_47 ?_
      refine lv_iconst (v := xi_ 1) hx hb d_M_isFilled_50 rfl ?_
      refine xw_isub hx hb d_M_isFilled_51 ?_
      refine xw_iald F hh.1 3 (f := z_op z) rfl (i := (z_dp z : Int) - 1) (by omega) d_M_isFilled_52 ?_
      refine xw_topi (y := z_op z (z_dp z - 1)) (congrArg (z_op z) (by omega)) ?_
      refine xw_iadd hx hb d_M_isFilled_53 ?_
      refine xw_iald F hh.1 2 (f := a_co (z_A z)) rfl (i := 384 + (z_op z (z_dp z - 1))) (by omega) d_M_isFilled_54 ?_
      refine xw_topi (y := cc) hcc.symm ?_
      refine lv_bipush (v := xi_ 9) hx hb d_M_isFilled_55 (by decide) ?_
      refine xw_icmp_ne hx hb 64 d_M_isFilled_57 (by decide) (by omega) (fun c57 => ?_) (fun c57 => ?_)
      · refine lv_iconst (v := xi_ 0) hx hb d_M_isFilled_64 rfl ?_
        exact xw_iret F hr hlk hh (by decide) () rfl (by exact Or.inr ⟨rfl, fun q => by have q2 := q.2.1; have q3 := q.2.2; rw [← hkk] at q2; rw [← hcc] at q3; omega⟩) trivial d_M_isFilled_65
      · refine lv_iconst (v := xi_ 1) hx hb d_M_isFilled_60 rfl ?_
        refine lv_goto (tgt := 65) hx hb d_M_isFilled_61 (by decide) ?_
        exact xw_iret F hr hlk hh (by decide) () rfl (by exact Or.inl ⟨rfl, ht1, by rw [← hkk]; omega, by rw [← hcc]; omega⟩) trivial d_M_isFilled_65
