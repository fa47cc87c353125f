/-! Rows: a limited number of rows of five numbers -/
def b2_ (b : Bool) : Int := if b = true then 1 else 0
theorem b2_t {b : Bool} (h : b = true) : (1 : Int) = b2_ b := by rw [h]; rfl
theorem b2_f {b : Bool} (h : b = false) : (0 : Int) = b2_ b := by rw [h]; rfl
theorem b2_01 (b : Bool) : b2_ b = 0 ∨ b2_ b = 1 := by cases b <;> decide
/-- row number j of the values -/
def ro_ (vals : Nat → Int) (j : Int) : Row_ := (vals (j * 5 + 0).toNat, vals (j * 5 + 1).toNat, vals (j * 5 + 2).toNat, vals (j * 5 + 3).toNat, vals (j * 5 + 4).toNat)
/-- the cells hold the limited list st -/
def rr_ (lim : Nat) (cnt tm : Int) (vals rat : Nat → Int) (st : List Row_ × Bool) : Prop :=
  cnt = (st.1.length : Int) ∧ a_ok lim st ∧ tm = b2_ st.2 ∧ (∀ p : Nat, p < st.1.length → 0 ≤ rat p ∧ rat p < cnt ∧ st.1[p]? = some (ro_ vals (rat p))) ∧ ∀ j : Nat, -9223372036854775808 ≤ vals j ∧ vals j ≤ 9223372036854775807
def rm_Rw_clear : Room := { frames := 0, cells := 0, slots := 0, locals := 0 }
set_option maxHeartbeats 4000000 in
set_option maxRecDepth 100000 in
theorem c_Rw_clear (l : Launch) (G : GG_) (sz : Nat) (r v ra lim : Nat) (cnt tm : Int) : Met l y_Rw_clear (cw_ y_Rw_clear b_Rw_clear 1 none) rm_Rw_clear (xw_P G [.ref r] sz [(r, .inr (3, [.int (xi_ (lim : Int)), .ref v, .ref ra, .int (xi_ cnt), .int (xi_ tm)]))] (fun _ => True)) (xw_Qv (S := Unit) G sz [(r, .inr (3, [.int (xi_ (lim : Int)), .ref v, .ref ra, .int (xi_ cnt), .int (xi_ tm)]))] (fun _ => True) (fun _ => [(r, .inr (3, [.int (xi_ (lim : Int)), .ref v, .ref ra, .int (xi_ 0), .int (xi_ 0)]))]) (fun _ _ => True)) 0 0 (va_A [(r, .inr (3, [.int (xi_ (lim : Int)), .ref v, .ref ra, .int (xi_ cnt), .int (xi_ tm)]))] sz) := by
  refine xw_met (by decide) (Nat.le_of_ble_eq_true rfl) ?_
  intro p0 e0 s m0 args below meth c0 F hr hlk hin hsz hh hX ls hl
  subst hsz
  have hx := F.1
  have hb := F.2.1
  have hl : lv_has ls 1 [(0, .ref r)] := hl
  refine lv_aload_n hx hb d_Rw_clear_0 rfl (lv_at hl 0 rfl) ?_
  refine lv_iconst (v := xi_ 0) hx hb d_Rw_clear_1 rfl ?_
  refine xw_put F hh fp_Rw_21_3 0 rfl rfl rfl (Nat.le_of_ble_eq_true rfl) d_Rw_clear_2 (fun H locs hh => ?_)
  have hh : xw_H G (va_A [(r, .inr (3, [.int (xi_ (lim : Int)), .ref v, .ref ra, .int (xi_ cnt), .int (xi_ tm)]))] s.heap.size) s.heap H locs [(r, .inr (3, [.int (xi_ (lim : Int)), .ref v, .ref ra, .int (xi_ 0), .int (xi_ tm)]))] := hh
  refine lv_aload_n hx hb d_Rw_clear_5 rfl (lv_at hl 0 rfl) ?_
  refine lv_iconst (v := xi_ 0) hx hb d_Rw_clear_6 rfl ?_
  refine xw_put F hh fp_Rw_24_3 0 rfl (by decide) (by decide) (Nat.le_of_ble_eq_true rfl) d_Rw_clear_7 (fun H locs hh => ?_)
  have hh : xw_H G (va_A [(r, .inr (3, [.int (xi_ (lim : Int)), .ref v, .ref ra, .int (xi_ cnt), .int (xi_ tm)]))] s.heap.size) s.heap H locs [(r, .inr (3, [.int (xi_ (lim : Int)), .ref v, .ref ra, .int (xi_ 0), .int (xi_ 0)]))] := hh
  exact xw_vret F hr hlk hh () rfl (by trivial) trivial d_Rw_clear_10
def rm_Rw_has : Room := { frames := 0, cells := 0, slots := 0, locals := 0 }
set_option maxHeartbeats 4000000 in
set_option maxRecDepth 100000 in
theorem c_Rw_has (l : Launch) (G : GG_) (sz : Nat) (r v ra lim : Nat) (cnt tm x : Int) (hc : 0 ≤ cnt ∧ cnt ≤ 1000) (hx9 : -2147483648 ≤ x ∧ x ≤ 2147483647) : Met l y_Rw_has (cw_ y_Rw_has b_Rw_has 2 (some .boolean)) rm_Rw_has (xw_P G [.ref r, .int (xi_ x)] sz [(r, .inr (3, [.int (xi_ (lim : Int)), .ref v, .ref ra, .int (xi_ cnt), .int (xi_ tm)]))] (fun _ => True)) (xw_Qi (S := Unit) G sz [(r, .inr (3, [.int (xi_ (lim : Int)), .ref v, .ref ra, .int (xi_ cnt), .int (xi_ tm)]))] (fun z _ => z = b2_ (decide (0 ≤ x ∧ x < cnt))) (fun _ => [(r, .inr (3, [.int (xi_ (lim : Int)), .ref v, .ref ra, .int (xi_ cnt), .int (xi_ tm)]))]) (fun _ _ => True)) 0 0 (va_A [(r, .inr (3, [.int (xi_ (lim : Int)), .ref v, .ref ra, .int (xi_ cnt), .int (xi_ tm)]))] sz) := by
  refine xw_met (by decide) (Nat.le_of_ble_eq_true rfl) ?_
  intro p0 e0 s m0 args below meth c0 F hr hlk hin hsz hh hX ls hl
  subst hsz
  have hx := F.1
  have hb := F.2.1
  have hl : lv_has ls 2 [(0, .ref r), (1, .int (xi_ x))] := hl
  refine lv_iload_n hx hb d_Rw_has_0 rfl (lv_at hl 1 rfl) ?_
  refine xw_if_lt hx hb 16 d_Rw_has_1 (by decide) (by omega) (fun c1 => ?_) (fun c1 => ?_)
  · refine lv_iconst (v := xi_ 0) hx hb d_Rw_has_16 rfl ?_
    exact xw_iret F hr hlk hh (by decide) () rfl (by exact b2_f (decide_eq_false (by omega))) trivial d_Rw_has_17
  · refine lv_iload_n hx hb d_Rw_has_4 rfl (lv_at hl 1 rfl) ?_
    refine lv_aload_n hx hb d_Rw_has_5 rfl (lv_at hl 0 rfl) ?_
    refine xw_get F hh.1 (v := .int (xi_ cnt)) fl_Rw_21_3 0 rfl rfl d_Rw_has_6 ?_
    refine xw_icmp_ge hx hb 16 d_Rw_has_9 (by decide) (by omega) (fun c9 => ?_) (fun c9 => ?_)
    · refine lv_iconst (v := xi_ 0) hx hb d_Rw_has_16 rfl ?_
      exact xw_iret F hr hlk hh (by decide) () rfl (by exact b2_f (decide_eq_false (by omega))) trivial d_Rw_has_17
    · refine lv_iconst (v := xi_ 1) hx hb d_Rw_has_12 rfl ?_
      refine lv_goto (tgt := 17) hx hb d_Rw_has_13 (by decide) ?_
      exact xw_iret F hr hlk hh (by decide) () rfl (by exact b2_t (decide_eq_true (by omega))) trivial d_Rw_has_17
def rm_Rw_value : Room := { frames := 1, cells := 0, slots := 0, locals := 21 }
set_option maxHeartbeats 4000000 in
set_option maxRecDepth 100000 in
theorem c_Rw_value (l : Launch) (G : GG_) (sz : Nat) (r v ra lim : Nat) (cnt tm : Int) (vals rat : Nat → Int) (x y : Int) (hc : 0 ≤ cnt ∧ cnt ≤ (lim : Int) ∧ (lim : Int) ≤ 200) (hr9 : ∀ p : Nat, (p : Int) < cnt → 0 ≤ rat p ∧ rat p < (lim : Int)) (hx9 : -2147483648 ≤ x ∧ x ≤ 2147483647) (hy9 : -2147483648 ≤ y ∧ y ≤ 2147483647) : Met l y_Rw_value (cw_ y_Rw_value b_Rw_value 3 (some .long)) rm_Rw_value (xw_P G [.ref r, .int (xi_ x), .int (xi_ y)] sz [(r, .inr (3, [.int (xi_ (lim : Int)), .ref v, .ref ra, .int (xi_ cnt), .int (xi_ tm)])), (v, .inl (G.2.2 1, (lim * 5), .inr (.inl (jl_ vals)))), (ra, .inl (G.2.2 0, lim, .inl (ja_ rat)))] (fun _ => True)) (xw_Ql (S := Unit) G sz [(r, .inr (3, [.int (xi_ (lim : Int)), .ref v, .ref ra, .int (xi_ cnt), .int (xi_ tm)])), (v, .inl (G.2.2 1, (lim * 5), .inr (.inl (jl_ vals)))), (ra, .inl (G.2.2 0, lim, .inl (ja_ rat)))] (fun z _ => z = if 0 ≤ x ∧ x < cnt ∧ 0 ≤ y ∧ y < 5 then vals (rat x.toNat * 5 + y).toNat else 0) (fun _ => [(r, .inr (3, [.int (xi_ (lim : Int)), .ref v, .ref ra, .int (xi_ cnt), .int (xi_ tm)])), (v, .inl (G.2.2 1, (lim * 5), .inr (.inl (jl_ vals)))), (ra, .inl (G.2.2 0, lim, .inl (ja_ rat)))]) (fun _ _ => True)) 0 0 (va_A [(r, .inr (3, [.int (xi_ (lim : Int)), .ref v, .ref ra, .int (xi_ cnt), .int (xi_ tm)])), (v, .inl (G.2.2 1, (lim * 5), .inr (.inl (jl_ vals)))), (ra, .inl (G.2.2 0, lim, .inl (ja_ rat)))] sz) := by
  refine xw_met (by decide) (Nat.le_of_ble_eq_true rfl) ?_
  intro p0 e0 s m0 args below meth c0 F hr hlk hin hsz hh hX ls hl
  subst hsz
  have hx := F.1
  have hb := F.2.1
  have hl : lv_has ls 3 [(0, .ref r), (1, .int (xi_ x)), (2, .int (xi_ y))] := hl
  refine lv_aload_n hx hb d_Rw_value_0 rfl (lv_at hl 0 rfl) ?_
  refine lv_iload_n hx hb d_Rw_value_1 rfl (lv_at hl 1 rfl) ?_
  refine xw_ci (wc := [(r, .inr (3, [.int (xi_ (lim : Int)), .ref v, .ref ra, .int (xi_ cnt), .int (xi_ tm)]))]) (wr := [(v, .inl (G.2.2 1, (lim * 5), .inr (.inl (jl_ vals)))), (ra, .inl (G.2.2 0, lim, .inl (ja_ rat)))]) hh [0] [1, 2] rfl rfl rfl (by decide) (xw_rV F hh [0] rfl rfl (c_Rw_has l G s.heap.size r v ra lim cnt tm x (by omega) hx9) trivial lk_Rw_28 cd_Rw_has se_Rw_has _ hh.1 0 rfl rfl rfl rfl ⟨by decide, by decide⟩ rfl hl.1 rfl (Nat.le_of_ble_eq_true rfl) d_Rw_value_2 ⟨Nat.le_of_ble_eq_true rfl, Nat.le_of_ble_eq_true rfl⟩) (fun z2 u H locs hp2 hX hz hk hh => ?_)
  have hh : xw_H G (va_A [(r, .inr (3, [.int (xi_ (lim : Int)), .ref v, .ref ra, .int (xi_ cnt), .int (xi_ tm)])), (v, .inl (G.2.2 1, (lim * 5), .inr (.inl (jl_ vals)))), (ra, .inl (G.2.2 0, lim, .inl (ja_ rat)))] s.heap.size) s.heap H locs [(r, .inr (3, [.int (xi_ (lim : Int)), .ref v, .ref ra, .int (xi_ cnt), .int (xi_ tm)])), (v, .inl (G.2.2 1, (lim * 5), .inr (.inl (jl_ vals)))), (ra, .inl (G.2.2 0, lim, .inl (ja_ rat)))] := xw_H.sub hh [2, 0, 1] rfl rfl
  obtain rfl : z2 = b2_ (decide (0 ≤ x ∧ x < cnt)) := hp2
  have h2 := b2_01 (decide (0 ≤ x ∧ x < cnt))
  refine xw_if_eq hx hb 17 d_Rw_value_5 (by decide) (by omega) (fun c5 => ?_) (fun c5 => ?_)
  · have h5 : ¬ (0 ≤ x ∧ x < cnt) := fun q => by rw [decide_eq_true q] at c5; exact absurd c5 (by decide)
    refine lv_lconst (v := xl_ 0) hx hb d_Rw_value_17 (by decide) ?_
    exact xw_lret F hr hlk hh () rfl (by rw [if_neg (by omega)]) trivial d_Rw_value_18
  · have h5 : 0 ≤ x ∧ x < cnt := Classical.byContradiction (fun q => by rw [decide_eq_false q] at c5; exact absurd rfl c5)
    have h6 := hr9 x.toNat (by omega)
    refine lv_iload_n hx hb d_Rw_value_8 rfl (lv_at hl 2 rfl) ?_
    refine xw_if_lt hx hb 17 d_Rw_value_9 (by decide) (by omega) (fun c9 => ?_) (fun c9 => ?_)
    · refine lv_lconst (v := xl_ 0) hx hb d_Rw_value_17 (by decide) ?_
      exact xw_lret F hr hlk hh () rfl (by rw [if_neg (by omega)]) trivial d_Rw_value_18
    · refine lv_iload_n hx hb d_Rw_value_12 rfl (lv_at hl 2 rfl) ?_
      refine lv_iconst (v := xi_ 5) hx hb d_Rw_value_13 rfl ?_
      refine xw_icmp_lt hx hb 19 d_Rw_value_14 (by decide) (by omega) (fun c14 => ?_) (fun c14 => ?_)
      · refine lv_aload_n hx hb d_Rw_value_19 rfl (lv_at hl 0 rfl) ?_
        refine xw_get F hh.1 (v := .ref v) fl_Rw_13_3 0 rfl rfl d_Rw_value_20 ?_
        refine lv_aload_n hx hb d_Rw_value_23 rfl (lv_at hl 0 rfl) ?_
        refine xw_get F hh.1 (v := .ref ra) fl_Rw_17_3 0 rfl rfl d_Rw_value_24 ?_
        refine lv_iload_n hx hb d_Rw_value_27 rfl (lv_at hl 1 rfl) ?_
        refine xw_iald F hh.1 2 (f := rat) rfl (i := x) (by omega) d_Rw_value_28 ?_
        refine lv_iconst (v := xi_ 5) hx hb d_Rw_value_29 rfl ?_
        refine xw_imul hx hb d_Rw_value_30 ?_
        refine lv_iload_n hx hb d_Rw_value_31 rfl (lv_at hl 2 rfl) ?_
        refine xw_iadd hx hb d_Rw_value_32 ?_
        refine xw_lald F hh.1 1 (f := vals) rfl (i := ((rat (x).toNat) * 5) + y) (by omega) d_Rw_value_33 ?_
        exact xw_lret F hr hlk hh () rfl (by rw [if_pos (by omega)]) trivial d_Rw_value_34
      · refine lv_lconst (v := xl_ 0) hx hb d_Rw_value_17 (by decide) ?_
        exact xw_lret F hr hlk hh () rfl (by rw [if_neg (by omega)]) trivial d_Rw_value_18
