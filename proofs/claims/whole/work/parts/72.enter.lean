/-! the model: enter -/
theorem fl_small {x y : Int} (h : -2000000000000000000 ≤ x ∧ x ≤ 2000000000000000000) : -2000000000000000001 ≤ fl_ x y ∧ fl_ x y ≤ 2000000000000000001 := by
  have key : ∀ a b : Int, (-2000000000000000000 ≤ a ∧ a ≤ 2000000000000000000) → -2000000000000000001 ≤ a / b ∧ a / b ≤ 2000000000000000001 := fun a b ha => by
    have h1 : (a / b).natAbs ≤ a.natAbs + 1 := by
      have h2 : (a.tdiv b).natAbs ≤ a.natAbs := by rw [Int.natAbs_tdiv]; exact Nat.div_le_self _ _
      have h3 := Int.tdiv_eq_ediv (a := a) (b := b)
      have h4 : (b.sign) = 1 ∨ b.sign = 0 ∨ b.sign = -1 := by
        rcases Int.lt_trichotomy b 0 with q | q | q
        · exact Or.inr (Or.inr (Int.sign_eq_neg_one_of_neg q))
        · subst q; exact Or.inr (Or.inl rfl)
        · exact Or.inl (Int.sign_eq_one_of_pos q)
      split at h3 <;> omega
    omega
  unfold fl_
  split
  · exact key _ _ h
  · exact key _ _ (by omega)
def rm_M_enter : Room := { frames := 1, cells := 0, slots := 0, locals := 25 }
set_option maxHeartbeats 4000000 in
set_option maxRecDepth 100000 in
theorem c_M_enter_no (l : Launch) (G : GG_) (sz : Nat) (mo : Nat) (ma : Nat → Nat) (ty at0 dp wy un pl sp pe tk du tm : Int) (no fr to aa bb cy en sp9 : Nat → Int) (n f t w o : Int) (hw : w ≠ 0 ∧ -9223372036854775807 ≤ w ∧ w ≤ 9223372036854775807) (hb9 : (-1000000000000000000 ≤ f ∧ f ≤ 1000000000000000000) ∧ (-1000000000000000000 ≤ t ∧ t ≤ 1000000000000000000) ∧ (-1000000000000000000 ≤ o ∧ o ≤ 1000000000000000000)) (hn : -2147483648 ≤ n ∧ n ≤ 2147483647) (hno : t ≤ f ∨ n < 0) : Met l y_M_enter (cw_ y_M_enter b_M_enter 14 none) rm_M_enter (xw_P G [.ref mo, .int (xi_ n), .long (xl_ f), .long (xl_ t), .long (xl_ w), .long (xl_ o)] sz [(mo, .inr (6, mo_ ma ty at0 dp wy un pl sp pe tk du tm)), (ma 17, .inl (G.2.2 0, 50, .inl (ja_ no))), (ma 18, .inl (G.2.2 1, 50, .inr (.inl (jl_ fr)))), (ma 19, .inl (G.2.2 1, 50, .inr (.inl (jl_ to)))), (ma 20, .inl (G.2.2 1, 50, .inr (.inl (jl_ aa)))), (ma 21, .inl (G.2.2 1, 50, .inr (.inl (jl_ bb)))), (ma 22, .inl (G.2.2 1, 50, .inr (.inl (jl_ cy)))), (ma 23, .inl (G.2.2 1, 50, .inr (.inl (jl_ en)))), (ma 24, .inl (G.2.2 0, 50, .inl (ja_ sp9)))] (fun _ => True)) (xw_Qv (S := Unit) G sz [(mo, .inr (6, mo_ ma ty at0 dp wy un pl sp pe tk du tm)), (ma 17, .inl (G.2.2 0, 50, .inl (ja_ no))), (ma 18, .inl (G.2.2 1, 50, .inr (.inl (jl_ fr)))), (ma 19, .inl (G.2.2 1, 50, .inr (.inl (jl_ to)))), (ma 20, .inl (G.2.2 1, 50, .inr (.inl (jl_ aa)))), (ma 21, .inl (G.2.2 1, 50, .inr (.inl (jl_ bb)))), (ma 22, .inl (G.2.2 1, 50, .inr (.inl (jl_ cy)))), (ma 23, .inl (G.2.2 1, 50, .inr (.inl (jl_ en)))), (ma 24, .inl (G.2.2 0, 50, .inl (ja_ sp9)))] (fun _ => True) (fun _ => [(mo, .inr (6, mo_ ma ty at0 dp wy un pl sp pe tk du tm)), (ma 17, .inl (G.2.2 0, 50, .inl (ja_ no))), (ma 18, .inl (G.2.2 1, 50, .inr (.inl (jl_ fr)))), (ma 19, .inl (G.2.2 1, 50, .inr (.inl (jl_ to)))), (ma 20, .inl (G.2.2 1, 50, .inr (.inl (jl_ aa)))), (ma 21, .inl (G.2.2 1, 50, .inr (.inl (jl_ bb)))), (ma 22, .inl (G.2.2 1, 50, .inr (.inl (jl_ cy)))), (ma 23, .inl (G.2.2 1, 50, .inr (.inl (jl_ en)))), (ma 24, .inl (G.2.2 0, 50, .inl (ja_ sp9)))]) (fun _ _ => True)) 0 0 (va_A [(mo, .inr (6, mo_ ma ty at0 dp wy un pl sp pe tk du tm)), (ma 17, .inl (G.2.2 0, 50, .inl (ja_ no))), (ma 18, .inl (G.2.2 1, 50, .inr (.inl (jl_ fr)))), (ma 19, .inl (G.2.2 1, 50, .inr (.inl (jl_ to)))), (ma 20, .inl (G.2.2 1, 50, .inr (.inl (jl_ aa)))), (ma 21, .inl (G.2.2 1, 50, .inr (.inl (jl_ bb)))), (ma 22, .inl (G.2.2 1, 50, .inr (.inl (jl_ cy)))), (ma 23, .inl (G.2.2 1, 50, .inr (.inl (jl_ en)))), (ma 24, .inl (G.2.2 0, 50, .inl (ja_ sp9)))] sz) := by
  refine xw_met (by decide) (Nat.le_of_ble_eq_true rfl) ?_
  intro p0 e0 s m0 args below meth c0 F hr hlk hin hsz hh hX ls hl
  subst hsz
  have hx := F.1
  have hb := F.2.1
  have hl : lv_has ls 14 [(0, .ref mo), (1, .int (xi_ n)), (2, .long (xl_ f)), (4, .long (xl_ t)), (6, .long (xl_ w)), (8, .long (xl_ o))] := hl
  refine lv_lload_n hx hb d_M_enter_0 rfl (lv_at hl 2 rfl) ?_
  refine lv_lload hx hb d_M_enter_1 (lv_at hl 3 rfl) ?_
  refine xw_lcmp_ge hx hb 11 d_M_enter_3 d_M_enter_4 (by decide) (by omega) (fun c3 => ?_) (fun c3 => ?_)
  · exact xw_vret F hr hlk hh () rfl (by trivial) trivial d_M_enter_11
  · refine lv_iload_n hx hb d_M_enter_7 rfl (lv_at hl 1 rfl) ?_
    refine xw_if_ge hx hb 12 d_M_enter_8 (by decide) (by omega) (fun c8 => ?_) (fun c8 => ?_)
    · exfalso
      omega
    · exact xw_vret F hr hlk hh () rfl (by trivial) trivial d_M_enter_11
set_option maxHeartbeats 4000000 in
set_option maxRecDepth 100000 in
theorem c_M_enter (l : Launch) (G : GG_) (sz : Nat) (mo : Nat) (ma : Nat → Nat) (ty at0 dp wy un pl sp pe tk du tm : Int) (no fr to aa bb cy en sp9 : Nat → Int) (n f t w o : Int) (hw : w ≠ 0 ∧ -9223372036854775807 ≤ w ∧ w ≤ 9223372036854775807) (hb9 : (-1000000000000000000 ≤ f ∧ f ≤ 1000000000000000000) ∧ (-1000000000000000000 ≤ t ∧ t ≤ 1000000000000000000) ∧ (-1000000000000000000 ≤ o ∧ o ≤ 1000000000000000000)) (hn : -2147483648 ≤ n ∧ n ≤ 2147483647) (hwy : 0 ≤ wy ∧ wy < 50) (hft : f < t) (hn0 : 0 ≤ n) : Met l y_M_enter (cw_ y_M_enter b_M_enter 14 none) rm_M_enter (xw_P G [.ref mo, .int (xi_ n), .long (xl_ f), .long (xl_ t), .long (xl_ w), .long (xl_ o)] sz [(mo, .inr (6, mo_ ma ty at0 dp wy un pl sp pe tk du tm)), (ma 17, .inl (G.2.2 0, 50, .inl (ja_ no))), (ma 18, .inl (G.2.2 1, 50, .inr (.inl (jl_ fr)))), (ma 19, .inl (G.2.2 1, 50, .inr (.inl (jl_ to)))), (ma 20, .inl (G.2.2 1, 50, .inr (.inl (jl_ aa)))), (ma 21, .inl (G.2.2 1, 50, .inr (.inl (jl_ bb)))), (ma 22, .inl (G.2.2 1, 50, .inr (.inl (jl_ cy)))), (ma 23, .inl (G.2.2 1, 50, .inr (.inl (jl_ en)))), (ma 24, .inl (G.2.2 0, 50, .inl (ja_ sp9)))] (fun _ => True)) (xw_Qv (S := Unit) G sz [(mo, .inr (6, mo_ ma ty at0 dp wy un pl sp pe tk du tm)), (ma 17, .inl (G.2.2 0, 50, .inl (ja_ no))), (ma 18, .inl (G.2.2 1, 50, .inr (.inl (jl_ fr)))), (ma 19, .inl (G.2.2 1, 50, .inr (.inl (jl_ to)))), (ma 20, .inl (G.2.2 1, 50, .inr (.inl (jl_ aa)))), (ma 21, .inl (G.2.2 1, 50, .inr (.inl (jl_ bb)))), (ma 22, .inl (G.2.2 1, 50, .inr (.inl (jl_ cy)))), (ma 23, .inl (G.2.2 1, 50, .inr (.inl (jl_ en)))), (ma 24, .inl (G.2.2 0, 50, .inl (ja_ sp9)))] (fun _ => True) (fun _ => [(mo, .inr (6, mo_ ma ty at0 dp (wy + 1) un pl sp pe tk du tm)), (ma 17, .inl (G.2.2 0, 50, .inl (ja_ (va_up no wy.toNat n)))), (ma 18, .inl (G.2.2 1, 50, .inr (.inl (jl_ (va_up fr wy.toNat f))))), (ma 19, .inl (G.2.2 1, 50, .inr (.inl (jl_ (va_up to wy.toNat t))))), (ma 20, .inl (G.2.2 1, 50, .inr (.inl (jl_ (va_up aa wy.toNat w))))), (ma 21, .inl (G.2.2 1, 50, .inr (.inl (jl_ (va_up bb wy.toNat o))))), (ma 22, .inl (G.2.2 1, 50, .inr (.inl (jl_ (va_up cy wy.toNat (min (fl_ (f - o) w) (fl_ (t - o) w) - 1)))))), (ma 23, .inl (G.2.2 1, 50, .inr (.inl (jl_ (va_up en wy.toNat (max (fl_ (f - o) w) (fl_ (t - o) w) + 1)))))), (ma 24, .inl (G.2.2 0, 50, .inl (ja_ (va_up sp9 wy.toNat 0))))]) (fun _ _ => True)) 0 0 (va_A [(mo, .inr (6, mo_ ma ty at0 dp wy un pl sp pe tk du tm)), (ma 17, .inl (G.2.2 0, 50, .inl (ja_ no))), (ma 18, .inl (G.2.2 1, 50, .inr (.inl (jl_ fr)))), (ma 19, .inl (G.2.2 1, 50, .inr (.inl (jl_ to)))), (ma 20, .inl (G.2.2 1, 50, .inr (.inl (jl_ aa)))), (ma 21, .inl (G.2.2 1, 50, .inr (.inl (jl_ bb)))), (ma 22, .inl (G.2.2 1, 50, .inr (.inl (jl_ cy)))), (ma 23, .inl (G.2.2 1, 50, .inr (.inl (jl_ en)))), (ma 24, .inl (G.2.2 0, 50, .inl (ja_ sp9)))] sz) := by
  refine xw_met (by decide) (Nat.le_of_ble_eq_true rfl) ?_
  intro p0 e0 s m0 args below meth c0 F hr hlk hin hsz hh hX ls hl
  subst hsz
  have hx := F.1
  have hb := F.2.1
  have hl : lv_has ls 14 [(0, .ref mo), (1, .int (xi_ n)), (2, .long (xl_ f)), (4, .long (xl_ t)), (6, .long (xl_ w)), (8, .long (xl_ o))] := hl
  refine lv_lload_n hx hb d_M_enter_0 rfl (lv_at hl 2 rfl) ?_
  refine lv_lload hx hb d_M_enter_1 (lv_at hl 3 rfl) ?_
  refine xw_lcmp_ge hx hb 11 d_M_enter_3 d_M_enter_4 (by decide) (by omega) (fun c3 => absurd c3 (by omega)) (fun c3 => ?_)
  refine lv_iload_n hx hb d_M_enter_7 rfl (lv_at hl 1 rfl) ?_
  refine xw_if_ge hx hb 12 d_M_enter_8 (by decide) (by omega) (fun c8 => ?_) (fun c8 => absurd c8 (by omega))
  refine lv_aload_n hx hb d_M_enter_12 rfl (lv_at hl 0 rfl) ?_
  refine xw_get F hh.1 (v := .ref (ma 17)) fl_M_49_6 0 rfl rfl d_M_enter_13 ?_
  refine lv_aload_n hx hb d_M_enter_16 rfl (lv_at hl 0 rfl) ?_
  refine xw_get F hh.1 (v := .int (xi_ wy)) fl_M_177_6 0 rfl rfl d_M_enter_17 ?_
  refine lv_iload_n hx hb d_M_enter_20 rfl (lv_at hl 1 rfl) ?_
  refine xw_iast F hh 1 (f := no) rfl (i := wy) (x := n) (by omega) d_M_enter_21 (fun H locs hh => ?_)
  have hh : xw_H G (va_A [(mo, .inr (6, mo_ ma ty at0 dp wy un pl sp pe tk du tm)), (ma 17, .inl (G.2.2 0, 50, .inl (ja_ no))), (ma 18, .inl (G.2.2 1, 50, .inr (.inl (jl_ fr)))), (ma 19, .inl (G.2.2 1, 50, .inr (.inl (jl_ to)))), (ma 20, .inl (G.2.2 1, 50, .inr (.inl (jl_ aa)))), (ma 21, .inl (G.2.2 1, 50, .inr (.inl (jl_ bb)))), (ma 22, .inl (G.2.2 1, 50, .inr (.inl (jl_ cy)))), (ma 23, .inl (G.2.2 1, 50, .inr (.inl (jl_ en)))), (ma 24, .inl (G.2.2 0, 50, .inl (ja_ sp9)))] s.heap.size) s.heap H locs [(mo, .inr (6, mo_ ma ty at0 dp wy un pl sp pe tk du tm)), (ma 17, .inl (G.2.2 0, 50, .inl (ja_ (va_up no (wy).toNat n)))), (ma 18, .inl (G.2.2 1, 50, .inr (.inl (jl_ fr)))), (ma 19, .inl (G.2.2 1, 50, .inr (.inl (jl_ to)))), (ma 20, .inl (G.2.2 1, 50, .inr (.inl (jl_ aa)))), (ma 21, .inl (G.2.2 1, 50, .inr (.inl (jl_ bb)))), (ma 22, .inl (G.2.2 1, 50, .inr (.inl (jl_ cy)))), (ma 23, .inl (G.2.2 1, 50, .inr (.inl (jl_ en)))), (ma 24, .inl (G.2.2 0, 50, .inl (ja_ sp9)))] := hh
  refine lv_aload_n hx hb d_M_enter_22 rfl (lv_at hl 0 rfl) ?_
  refine xw_get F hh.1 (v := .ref (ma 18)) fl_M_52_6 0 rfl rfl d_M_enter_23 ?_
  refine lv_aload_n hx hb d_M_enter_26 rfl (lv_at hl 0 rfl) ?_
  refine xw_get F hh.1 (v := .int (xi_ wy)) fl_M_177_6 0 rfl rfl d_M_enter_27 ?_
  refine lv_lload_n hx hb d_M_enter_30 rfl (lv_at hl 2 rfl) ?_
  refine xw_last F hh 2 (f := fr) rfl (i := wy) (x := f) (by omega) d_M_enter_31 (fun H locs hh => ?_)
  have hh : xw_H G (va_A [(mo, .inr (6, mo_ ma ty at0 dp wy un pl sp pe tk du tm)), (ma 17, .inl (G.2.2 0, 50, .inl (ja_ no))), (ma 18, .inl (G.2.2 1, 50, .inr (.inl (jl_ fr)))), (ma 19, .inl (G.2.2 1, 50, .inr (.inl (jl_ to)))), (ma 20, .inl (G.2.2 1, 50, .inr (.inl (jl_ aa)))), (ma 21, .inl (G.2.2 1, 50, .inr (.inl (jl_ bb)))), (ma 22, .inl (G.2.2 1, 50, .inr (.inl (jl_ cy)))), (ma 23, .inl (G.2.2 1, 50, .inr (.inl (jl_ en)))), (ma 24, .inl (G.2.2 0, 50, .inl (ja_ sp9)))] s.heap.size) s.heap H locs [(mo, .inr (6, mo_ ma ty at0 dp wy un pl sp pe tk du tm)), (ma 17, .inl (G.2.2 0, 50, .inl (ja_ (va_up no (wy).toNat n)))), (ma 18, .inl (G.2.2 1, 50, .inr (.inl (jl_ (va_up fr (wy).toNat f))))), (ma 19, .inl (G.2.2 1, 50, .inr (.inl (jl_ to)))), (ma 20, .inl (G.2.2 1, 50, .inr (.inl (jl_ aa)))), (ma 21, .inl (G.2.2 1, 50, .inr (.inl (jl_ bb)))), (ma 22, .inl (G.2.2 1, 50, .inr (.inl (jl_ cy)))), (ma 23, .inl (G.2.2 1, 50, .inr (.inl (jl_ en)))), (ma 24, .inl (G.2.2 0, 50, .inl (ja_ sp9)))] := hh
  refine lv_aload_n hx hb d_M_enter_32 rfl (lv_at hl 0 rfl) ?_
  refine xw_get F hh.1 (v := .ref (ma 19)) fl_M_56_6 0 rfl rfl d_M_enter_33 ?_
  refine lv_aload_n hx hb d_M_enter_36 rfl (lv_at hl 0 rfl) ?_
  refine xw_get F hh.1 (v := .int (xi_ wy)) fl_M_177_6 0 rfl rfl d_M_enter_37 ?_
  refine lv_lload hx hb d_M_enter_40 (lv_at hl 3 rfl) ?_
  refine xw_last F hh 3 (f := to) rfl (i := wy) (x := t) (by omega) d_M_enter_42 (fun H locs hh => ?_)
  have hh : xw_H G (va_A [(mo, .inr (6, mo_ ma ty at0 dp wy un pl sp pe tk du tm)), (ma 17, .inl (G.2.2 0, 50, .inl (ja_ no))), (ma 18, .inl (G.2.2 1, 50, .inr (.inl (jl_ fr)))), (ma 19, .inl (G.2.2 1, 50, .inr (.inl (jl_ to)))), (ma 20, .inl (G.2.2 1, 50, .inr (.inl (jl_ aa)))), (ma 21, .inl (G.2.2 1, 50, .inr (.inl (jl_ bb)))), (ma 22, .inl (G.2.2 1, 50, .inr (.inl (jl_ cy)))), (ma 23, .inl (G.2.2 1, 50, .inr (.inl (jl_ en)))), (ma 24, .inl (G.2.2 0, 50, .inl (ja_ sp9)))] s.heap.size) s.heap H locs [(mo, .inr (6, mo_ ma ty at0 dp wy un pl sp pe tk du tm)), (ma 17, .inl (G.2.2 0, 50, .inl (ja_ (va_up no (wy).toNat n)))), (ma 18, .inl (G.2.2 1, 50, .inr (.inl (jl_ (va_up fr (wy).toNat f))))), (ma 19, .inl (G.2.2 1, 50, .inr (.inl (jl_ (va_up to (wy).toNat t))))), (ma 20, .inl (G.2.2 1, 50, .inr (.inl (jl_ aa)))), (ma 21, .inl (G.2.2 1, 50, .inr (.inl (jl_ bb)))), (ma 22, .inl (G.2.2 1, 50, .inr (.inl (jl_ cy)))), (ma 23, .inl (G.2.2 1, 50, .inr (.inl (jl_ en)))), (ma 24, .inl (G.2.2 0, 50, .inl (ja_ sp9)))] := hh
  refine lv_aload_n hx hb d_M_enter_43 rfl (lv_at hl 0 rfl) ?_
  refine xw_get F hh.1 (v := .ref (ma 20)) fl_M_59_6 0 rfl rfl d_M_enter_44 ?_
  refine lv_aload_n hx hb d_M_enter_47 rfl (lv_at hl 0 rfl) ?_
  refine xw_get F hh.1 (v := .int (xi_ wy)) fl_M_177_6 0 rfl rfl d_M_enter_48 ?_
  refine lv_lload hx hb d_M_enter_51 (lv_at hl 4 rfl) ?_
  refine xw_last F hh 4 (f := aa) rfl (i := wy) (x := w) (by omega) d_M_enter_53 (fun H locs hh => ?_)
  have hh : xw_H G (va_A [(mo, .inr (6, mo_ ma ty at0 dp wy un pl sp pe tk du tm)), (ma 17, .inl (G.2.2 0, 50, .inl (ja_ no))), (ma 18, .inl (G.2.2 1, 50, .inr (.inl (jl_ fr)))), (ma 19, .inl (G.2.2 1, 50, .inr (.inl (jl_ to)))), (ma 20, .inl (G.2.2 1, 50, .inr (.inl (jl_ aa)))), (ma 21, .inl (G.2.2 1, 50, .inr (.inl (jl_ bb)))), (ma 22, .inl (G.2.2 1, 50, .inr (.inl (jl_ cy)))), (ma 23, .inl (G.2.2 1, 50, .inr (.inl (jl_ en)))), (ma 24, .inl (G.2.2 0, 50, .inl (ja_ sp9)))] s.heap.size) s.heap H locs [(mo, .inr (6, mo_ ma ty at0 dp wy un pl sp pe tk du tm)), (ma 17, .inl (G.2.2 0, 50, .inl (ja_ (va_up no (wy).toNat n)))), (ma 18, .inl (G.2.2 1, 50, .inr (.inl (jl_ (va_up fr (wy).toNat f))))), (ma 19, .inl (G.2.2 1, 50, .inr (.inl (jl_ (va_up to (wy).toNat t))))), (ma 20, .inl (G.2.2 1, 50, .inr (.inl (jl_ (va_up aa (wy).toNat w))))), (ma 21, .inl (G.2.2 1, 50, .inr (.inl (jl_ bb)))), (ma 22, .inl (G.2.2 1, 50, .inr (.inl (jl_ cy)))), (ma 23, .inl (G.2.2 1, 50, .inr (.inl (jl_ en)))), (ma 24, .inl (G.2.2 0, 50, .inl (ja_ sp9)))] := hh
  refine lv_aload_n hx hb d_M_enter_54 rfl (lv_at hl 0 rfl) ?_
  refine xw_get F hh.1 (v := .ref (ma 21)) fl_M_62_6 0 rfl rfl d_M_enter_55 ?_
  refine lv_aload_n hx hb d_M_enter_58 rfl (lv_at hl 0 rfl) ?_
  refine xw_get F hh.1 (v := .int (xi_ wy)) fl_M_177_6 0 rfl rfl d_M_enter_59 ?_
  refine lv_lload hx hb d_M_enter_62 (lv_at hl 5 rfl) ?_
  refine xw_last F hh 5 (f := bb) rfl (i := wy) (x := o) (by omega) d_M_enter_64 (fun H locs hh => ?_)
  have hh : xw_H G (va_A [(mo, .inr (6, mo_ ma ty at0 dp wy un pl sp pe tk du tm)), (ma 17, .inl (G.2.2 0, 50, .inl (ja_ no))), (ma 18, .inl (G.2.2 1, 50, .inr (.inl (jl_ fr)))), (ma 19, .inl (G.2.2 1, 50, .inr (.inl (jl_ to)))), (ma 20, .inl (G.2.2 1, 50, .inr (.inl (jl_ aa)))), (ma 21, .inl (G.2.2 1, 50, .inr (.inl (jl_ bb)))), (ma 22, .inl (G.2.2 1, 50, .inr (.inl (jl_ cy)))), (ma 23, .inl (G.2.2 1, 50, .inr (.inl (jl_ en)))), (ma 24, .inl (G.2.2 0, 50, .inl (ja_ sp9)))] s.heap.size) s.heap H locs [(mo, .inr (6, mo_ ma ty at0 dp wy un pl sp pe tk du tm)), (ma 17, .inl (G.2.2 0, 50, .inl (ja_ (va_up no (wy).toNat n)))), (ma 18, .inl (G.2.2 1, 50, .inr (.inl (jl_ (va_up fr (wy).toNat f))))), (ma 19, .inl (G.2.2 1, 50, .inr (.inl (jl_ (va_up to (wy).toNat t))))), (ma 20, .inl (G.2.2 1, 50, .inr (.inl (jl_ (va_up aa (wy).toNat w))))), (ma 21, .inl (G.2.2 1, 50, .inr (.inl (jl_ (va_up bb (wy).toNat o))))), (ma 22, .inl (G.2.2 1, 50, .inr (.inl (jl_ cy)))), (ma 23, .inl (G.2.2 1, 50, .inr (.inl (jl_ en)))), (ma 24, .inl (G.2.2 0, 50, .inl (ja_ sp9)))] := hh
  refine lv_lload_n hx hb d_M_enter_65 rfl (lv_at hl 2 rfl) ?_
  refine lv_lload hx hb d_M_enter_66 (lv_at hl 5 rfl) ?_
  refine xw_lsub hx hb d_M_enter_68 ?_
  refine lv_lload hx hb d_M_enter_69 (lv_at hl 4 rfl) ?_
  refine xw_clp hh (xw_rSp F (c_M_floor l G H.size (f - o) w (by omega)) lk_M_180 cd_M_floor ss_M_floor rfl rfl ⟨by decide, by decide⟩ rfl hl.1 rfl (Nat.le_of_ble_eq_true rfl) d_M_enter_71 ⟨Nat.le_of_ble_eq_true rfl, Nat.le_of_ble_eq_true rfl⟩) (fun z71 u H locs hp71 hz hk hh => ?_)
  obtain rfl : z71 = fl_ (f - o) w := hp71
  have hflf := fl_small (x := f - o) (y := w) (by omega)
  refine lv_lstore (lv' := [(10, .long (xl_ (fl_ (f - o) w))), (0, .ref mo), (1, .int (xi_ n)), (2, .long (xl_ f)), (4, .long (xl_ t)), (6, .long (xl_ w)), (8, .long (xl_ o))]) hx hb d_M_enter_74 hl (by decide) rfl (fun ls hl => ?_)
  refine lv_lload hx hb d_M_enter_76 (lv_at hl 4 rfl) ?_
  refine lv_lload hx hb d_M_enter_78 (lv_at hl 6 rfl) ?_
  refine xw_lsub hx hb d_M_enter_80 ?_
  refine lv_lload hx hb d_M_enter_81 (lv_at hl 5 rfl) ?_
  refine xw_clp hh (xw_rSp F (c_M_floor l G H.size (t - o) w (by omega)) lk_M_180 cd_M_floor ss_M_floor rfl rfl ⟨by decide, by decide⟩ rfl hl.1 rfl (Nat.le_of_ble_eq_true rfl) d_M_enter_83 ⟨Nat.le_of_ble_eq_true rfl, Nat.le_of_ble_eq_true rfl⟩) (fun z83 u H locs hp83 hz hk hh => ?_)
  obtain rfl : z83 = fl_ (t - o) w := hp83
  have hflt := fl_small (x := t - o) (y := w) (by omega)
  refine lv_lstore (lv' := [(12, .long (xl_ (fl_ (t - o) w))), (10, .long (xl_ (fl_ (f - o) w))), (0, .ref mo), (1, .int (xi_ n)), (2, .long (xl_ f)), (4, .long (xl_ t)), (6, .long (xl_ w)), (8, .long (xl_ o))]) hx hb d_M_enter_86 hl (by decide) rfl (fun ls hl => ?_)
  refine lv_aload_n hx hb d_M_enter_88 rfl (lv_at hl 2 rfl) ?_
  refine xw_get F hh.1 (v := .ref (ma 22)) fl_M_65_6 0 rfl rfl d_M_enter_89 ?_
  refine lv_aload_n hx hb d_M_enter_92 rfl (lv_at hl 2 rfl) ?_
  refine xw_get F hh.1 (v := .int (xi_ wy)) fl_M_177_6 0 rfl rfl d_M_enter_93 ?_
  refine lv_lload hx hb d_M_enter_96 (lv_at hl 1 rfl) ?_
  refine lv_lload hx hb d_M_enter_98 (lv_at hl 0 rfl) ?_
  refine xw_clp hh (xw_rSp F (c_M_low l G H.size (fl_ (f - o) w) (fl_ (t - o) w) (by omega)) lk_M_184 cd_M_low ss_M_low rfl rfl ⟨by decide, by decide⟩ rfl hl.1 rfl (Nat.le_of_ble_eq_true rfl) d_M_enter_100 ⟨Nat.le_of_ble_eq_true rfl, Nat.le_of_ble_eq_true rfl⟩) (fun z100 u H locs hp100 hz hk hh => ?_)
  obtain rfl : z100 = min (fl_ (f - o) w) (fl_ (t - o) w) := hp100
  refine lv_lconst (v := xl_ 1) hx hb d_M_enter_103 (by decide) ?_
  refine xw_lsub hx hb d_M_enter_104 ?_
  refine xw_last F hh 6 (f := cy) rfl (i := wy) (x := (min (fl_ (f - o) w) (fl_ (t - o) w)) - 1) (by omega) d_M_enter_105 (fun H locs hh => ?_)
  have hh : xw_H G (va_A [(mo, .inr (6, mo_ ma ty at0 dp wy un pl sp pe tk du tm)), (ma 17, .inl (G.2.2 0, 50, .inl (ja_ no))), (ma 18, .inl (G.2.2 1, 50, .inr (.inl (jl_ fr)))), (ma 19, .inl (G.2.2 1, 50, .inr (.inl (jl_ to)))), (ma 20, .inl (G.2.2 1, 50, .inr (.inl (jl_ aa)))), (ma 21, .inl (G.2.2 1, 50, .inr (.inl (jl_ bb)))), (ma 22, .inl (G.2.2 1, 50, .inr (.inl (jl_ cy)))), (ma 23, .inl (G.2.2 1, 50, .inr (.inl (jl_ en)))), (ma 24, .inl (G.2.2 0, 50, .inl (ja_ sp9)))] s.heap.size) s.heap H locs [(mo, .inr (6, mo_ ma ty at0 dp wy un pl sp pe tk du tm)), (ma 17, .inl (G.2.2 0, 50, .inl (ja_ (va_up no (wy).toNat n)))), (ma 18, .inl (G.2.2 1, 50, .inr (.inl (jl_ (va_up fr (wy).toNat f))))), (ma 19, .inl (G.2.2 1, 50, .inr (.inl (jl_ (va_up to (wy).toNat t))))), (ma 20, .inl (G.2.2 1, 50, .inr (.inl (jl_ (va_up aa (wy).toNat w))))), (ma 21, .inl (G.2.2 1, 50, .inr (.inl (jl_ (va_up bb (wy).toNat o))))), (ma 22, .inl (G.2.2 1, 50, .inr (.inl (jl_ (va_up cy (wy).toNat ((min (fl_ (f - o) w) (fl_ (t - o) w)) - 1)))))), (ma 23, .inl (G.2.2 1, 50, .inr (.inl (jl_ en)))), (ma 24, .inl (G.2.2 0, 50, .inl (ja_ sp9)))] := hh
  refine lv_aload_n hx hb d_M_enter_106 rfl (lv_at hl 2 rfl) ?_
  refine xw_get F hh.1 (v := .ref (ma 23)) fl_M_68_6 0 rfl rfl d_M_enter_107 ?_
  refine lv_aload_n hx hb d_M_enter_110 rfl (lv_at hl 2 rfl) ?_
  refine xw_get F hh.1 (v := .int (xi_ wy)) fl_M_177_6 0 rfl rfl d_M_enter_111 ?_
  refine lv_lload hx hb d_M_enter_114 (lv_at hl 1 rfl) ?_
  refine lv_lload hx hb d_M_enter_116 (lv_at hl 0 rfl) ?_
  refine xw_clp hh (xw_rSp F (c_M_high l G H.size (fl_ (f - o) w) (fl_ (t - o) w) (by omega)) lk_M_187 cd_M_high ss_M_high rfl rfl ⟨by decide, by decide⟩ rfl hl.1 rfl (Nat.le_of_ble_eq_true rfl) d_M_enter_118 ⟨Nat.le_of_ble_eq_true rfl, Nat.le_of_ble_eq_true rfl⟩) (fun z118 u H locs hp118 hz hk hh => ?_)
  obtain rfl : z118 = max (fl_ (f - o) w) (fl_ (t - o) w) := hp118
  refine lv_lconst (v := xl_ 1) hx hb d_M_enter_121 (by decide) ?_
  refine xw_ladd hx hb d_M_enter_122 ?_
  refine xw_last F hh 7 (f := en) rfl (i := wy) (x := (max (fl_ (f - o) w) (fl_ (t - o) w)) + 1) (by omega) d_M_enter_123 (fun H locs hh => ?_)
  have hh : xw_H G (va_A [(mo, .inr (6, mo_ ma ty at0 dp wy un pl sp pe tk du tm)), (ma 17, .inl (G.2.2 0, 50, .inl (ja_ no))), (ma 18, .inl (G.2.2 1, 50, .inr (.inl (jl_ fr)))), (ma 19, .inl (G.2.2 1, 50, .inr (.inl (jl_ to)))), (ma 20, .inl (G.2.2 1, 50, .inr (.inl (jl_ aa)))), (ma 21, .inl (G.2.2 1, 50, .inr (.inl (jl_ bb)))), (ma 22, .inl (G.2.2 1, 50, .inr (.inl (jl_ cy)))), (ma 23, .inl (G.2.2 1, 50, .inr (.inl (jl_ en)))), (ma 24, .inl (G.2.2 0, 50, .inl (ja_ sp9)))] s.heap.size) s.heap H locs [(mo, .inr (6, mo_ ma ty at0 dp wy un pl sp pe tk du tm)), (ma 17, .inl (G.2.2 0, 50, .inl (ja_ (va_up no (wy).toNat n)))), (ma 18, .inl (G.2.2 1, 50, .inr (.inl (jl_ (va_up fr (wy).toNat f))))), (ma 19, .inl (G.2.2 1, 50, .inr (.inl (jl_ (va_up to (wy).toNat t))))), (ma 20, .inl (G.2.2 1, 50, .inr (.inl (jl_ (va_up aa (wy).toNat w))))), (ma 21, .inl (G.2.2 1, 50, .inr (.inl (jl_ (va_up bb (wy).toNat o))))), (ma 22, .inl (G.2.2 1, 50, .inr (.inl (jl_ (va_up cy (wy).toNat ((min (fl_ (f - o) w) (fl_ (t - o) w)) - 1)))))), (ma 23, .inl (G.2.2 1, 50, .inr (.inl (jl_ (va_up en (wy).toNat ((max (fl_ (f - o) w) (fl_ (t - o) w)) + 1)))))), (ma 24, .inl (G.2.2 0, 50, .inl (ja_ sp9)))] := hh
  refine lv_aload_n hx hb d_M_enter_124 rfl (lv_at hl 2 rfl) ?_
  refine xw_get F hh.1 (v := .ref (ma 24)) fl_M_71_6 0 rfl rfl d_M_enter_125 ?_
  refine lv_aload_n hx hb d_M_enter_128 rfl (lv_at hl 2 rfl) ?_
  refine xw_get F hh.1 (v := .int (xi_ wy)) fl_M_177_6 0 rfl rfl d_M_enter_129 ?_
  refine lv_iconst (v := xi_ 0) hx hb d_M_enter_132 rfl ?_
  refine xw_iast F hh 8 (f := sp9) rfl (i := wy) (x := 0) (by omega) d_M_enter_133 (fun H locs hh => ?_)
  have hh : xw_H G (va_A [(mo, .inr (6, mo_ ma ty at0 dp wy un pl sp pe tk du tm)), (ma 17, .inl (G.2.2 0, 50, .inl (ja_ no))), (ma 18, .inl (G.2.2 1, 50, .inr (.inl (jl_ fr)))), (ma 19, .inl (G.2.2 1, 50, .inr (.inl (jl_ to)))), (ma 20, .inl (G.2.2 1, 50, .inr (.inl (jl_ aa)))), (ma 21, .inl (G.2.2 1, 50, .inr (.inl (jl_ bb)))), (ma 22, .inl (G.2.2 1, 50, .inr (.inl (jl_ cy)))), (ma 23, .inl (G.2.2 1, 50, .inr (.inl (jl_ en)))), (ma 24, .inl (G.2.2 0, 50, .inl (ja_ sp9)))] s.heap.size) s.heap H locs [(mo, .inr (6, mo_ ma ty at0 dp wy un pl sp pe tk du tm)), (ma 17, .inl (G.2.2 0, 50, .inl (ja_ (va_up no (wy).toNat n)))), (ma 18, .inl (G.2.2 1, 50, .inr (.inl (jl_ (va_up fr (wy).toNat f))))), (ma 19, .inl (G.2.2 1, 50, .inr (.inl (jl_ (va_up to (wy).toNat t))))), (ma 20, .inl (G.2.2 1, 50, .inr (.inl (jl_ (va_up aa (wy).toNat w))))), (ma 21, .inl (G.2.2 1, 50, .inr (.inl (jl_ (va_up bb (wy).toNat o))))), (ma 22, .inl (G.2.2 1, 50, .inr (.inl (jl_ (va_up cy (wy).toNat ((min (fl_ (f - o) w) (fl_ (t - o) w)) - 1)))))), (ma 23, .inl (G.2.2 1, 50, .inr (.inl (jl_ (va_up en (wy).toNat ((max (fl_ (f - o) w) (fl_ (t - o) w)) + 1)))))), (ma 24, .inl (G.2.2 0, 50, .inl (ja_ (va_up sp9 (wy).toNat 0))))] := hh
  refine lv_aload_n hx hb d_M_enter_134 rfl (lv_at hl 2 rfl) ?_
  refine lv_dup hx hb d_M_enter_135 rfl ?_
  refine xw_get F hh.1 (v := .int (xi_ wy)) fl_M_177_6 0 rfl rfl d_M_enter_136 ?_
  refine lv_iconst (v := xi_ 1) hx hb d_M_enter_139 rfl ?_
  refine xw_iadd hx hb d_M_enter_140 ?_
  refine xw_put F hh fp_M_177_6 0 rfl rfl rfl (Nat.le_of_ble_eq_true rfl) d_M_enter_141 (fun H locs hh => ?_)
  have hh : xw_H G (va_A [(mo, .inr (6, mo_ ma ty at0 dp wy un pl sp pe tk du tm)), (ma 17, .inl (G.2.2 0, 50, .inl (ja_ no))), (ma 18, .inl (G.2.2 1, 50, .inr (.inl (jl_ fr)))), (ma 19, .inl (G.2.2 1, 50, .inr (.inl (jl_ to)))), (ma 20, .inl (G.2.2 1, 50, .inr (.inl (jl_ aa)))), (ma 21, .inl (G.2.2 1, 50, .inr (.inl (jl_ bb)))), (ma 22, .inl (G.2.2 1, 50, .inr (.inl (jl_ cy)))), (ma 23, .inl (G.2.2 1, 50, .inr (.inl (jl_ en)))), (ma 24, .inl (G.2.2 0, 50, .inl (ja_ sp9)))] s.heap.size) s.heap H locs [(mo, .inr (6, mo_ ma ty at0 dp (wy + 1) un pl sp pe tk du tm)), (ma 17, .inl (G.2.2 0, 50, .inl (ja_ (va_up no (wy).toNat n)))), (ma 18, .inl (G.2.2 1, 50, .inr (.inl (jl_ (va_up fr (wy).toNat f))))), (ma 19, .inl (G.2.2 1, 50, .inr (.inl (jl_ (va_up to (wy).toNat t))))), (ma 20, .inl (G.2.2 1, 50, .inr (.inl (jl_ (va_up aa (wy).toNat w))))), (ma 21, .inl (G.2.2 1, 50, .inr (.inl (jl_ (va_up bb (wy).toNat o))))), (ma 22, .inl (G.2.2 1, 50, .inr (.inl (jl_ (va_up cy (wy).toNat ((min (fl_ (f - o) w) (fl_ (t - o) w)) - 1)))))), (ma 23, .inl (G.2.2 1, 50, .inr (.inl (jl_ (va_up en (wy).toNat ((max (fl_ (f - o) w) (fl_ (t - o) w)) + 1)))))), (ma 24, .inl (G.2.2 0, 50, .inl (ja_ (va_up sp9 (wy).toNat 0))))] := hh
  exact xw_vret F hr hlk hh () rfl (by trivial) trivial d_M_enter_144
