/-! the model: part, onsets, due, play, closes, isFilled -/
/-- the model's rows from place o on are the list l -/
def mr_ (o : Nat) (be wh so we le : Nat → Int) (l : List Row_) : Prop := ∀ (p : Nat) (r : Row_), l[p]? = some r → r = (be (o + p), wh (o + p), so (o + p), we (o + p), le (o + p))
theorem mr_row {be wh so we le : Nat → Int} {l : List Row_} (h : mr_ 0 be wh so we le l) {i : Int} (hi : 0 ≤ i ∧ i < (l.length : Int)) : row_ l i = some (be i.toNat, wh i.toNat, so i.toNat, we i.toNat, le i.toNat) := by
  unfold row_
  rw [if_pos hi]
  have hlt : i.toNat < l.length := by omega
  have h1 := h i.toNat _ (List.getElem?_eq_getElem hlt)
  rw [Nat.zero_add] at h1
  rw [List.getElem?_eq_getElem hlt, h1]
/-- the model's due rows are the list l: tick, slot, time, end, letter; what is left of a whole is worked out at once -/
def mq_ (dt ds dm de dl da : Nat → Int) (f : Row_ → Int) (l : List Row_) : Prop := ∀ (p : Nat) (r : Row_), l[p]? = some r → r = (dt p, ds p, dm p, de p, dl p) ∧ da p = f r
def rm_M_part : Room := { frames := 0, cells := 0, slots := 0, locals := 0 }
set_option maxHeartbeats 4000000 in
set_option maxRecDepth 100000 in
theorem c_M_part (l : Launch) (G : GG_) (sz : Nat) (mo : Nat) (ma : Nat → Nat) (ty at0 dp wy un pl sp pe tk du tm : Int) (be so wh we le mn : Nat → Int) (rs : List Row_) (hml : mn 0 = (rs.length : Int)) (hll : rs.length ≤ 201) (hmr : mr_ 0 be wh so we le rs) (i w : Int) (hiw : (-2147483648 ≤ i ∧ i ≤ 2147483647) ∧ (-2147483648 ≤ w ∧ w ≤ 2147483647)) : Met l y_M_part (cw_ y_M_part b_M_part 3 (some .int)) rm_M_part (xw_P G [.ref mo, .int (xi_ i), .int (xi_ w)] sz [(mo, .inr (6, mo_ ma ty at0 dp wy un pl sp pe tk du tm)), (ma 27, .inl (G.2.2 1, 603, .inr (.inl (jl_ be)))), (ma 28, .inl (G.2.2 1, 603, .inr (.inl (jl_ so)))), (ma 29, .inl (G.2.2 1, 603, .inr (.inl (jl_ wh)))), (ma 30, .inl (G.2.2 1, 603, .inr (.inl (jl_ we)))), (ma 31, .inl (G.2.2 0, 603, .inl (ja_ le))), (ma 25, .inl (G.2.2 0, 3, .inl (ja_ mn)))] (fun _ => True)) (xw_Qi (S := Unit) G sz [(mo, .inr (6, mo_ ma ty at0 dp wy un pl sp pe tk du tm)), (ma 27, .inl (G.2.2 1, 603, .inr (.inl (jl_ be)))), (ma 28, .inl (G.2.2 1, 603, .inr (.inl (jl_ so)))), (ma 29, .inl (G.2.2 1, 603, .inr (.inl (jl_ wh)))), (ma 30, .inl (G.2.2 1, 603, .inr (.inl (jl_ we)))), (ma 31, .inl (G.2.2 0, 603, .inl (ja_ le))), (ma 25, .inl (G.2.2 0, 3, .inl (ja_ mn)))] (fun z _ => z = part_ rs i w) (fun _ => [(mo, .inr (6, mo_ ma ty at0 dp wy un pl sp pe tk du tm)), (ma 27, .inl (G.2.2 1, 603, .inr (.inl (jl_ be)))), (ma 28, .inl (G.2.2 1, 603, .inr (.inl (jl_ so)))), (ma 29, .inl (G.2.2 1, 603, .inr (.inl (jl_ wh)))), (ma 30, .inl (G.2.2 1, 603, .inr (.inl (jl_ we)))), (ma 31, .inl (G.2.2 0, 603, .inl (ja_ le))), (ma 25, .inl (G.2.2 0, 3, .inl (ja_ mn)))]) (fun _ _ => True)) 0 0 (va_A [(mo, .inr (6, mo_ ma ty at0 dp wy un pl sp pe tk du tm)), (ma 27, .inl (G.2.2 1, 603, .inr (.inl (jl_ be)))), (ma 28, .inl (G.2.2 1, 603, .inr (.inl (jl_ so)))), (ma 29, .inl (G.2.2 1, 603, .inr (.inl (jl_ wh)))), (ma 30, .inl (G.2.2 1, 603, .inr (.inl (jl_ we)))), (ma 31, .inl (G.2.2 0, 603, .inl (ja_ le))), (ma 25, .inl (G.2.2 0, 3, .inl (ja_ mn)))] sz) := by
  refine xw_met (by decide) (Nat.le_of_ble_eq_true rfl) ?_
  intro p0 e0 s m0 args below meth c0 F hr hlk hin hsz hh hX ls hl
  subst hsz
  have hx := F.1
  have hb := F.2.1
  have hl : lv_has ls 3 [(0, .ref mo), (1, .int (xi_ i)), (2, .int (xi_ w))] := hl
  refine lv_iload_n hx hb d_M_part_0 rfl (lv_at hl 1 rfl) ?_
  refine xw_if_lt hx hb 14 d_M_part_1 (by decide) (by omega) (fun c1 => ?_) (fun c1 => ?_)
  · refine lv_iconst (v := xi_ (-1)) hx hb d_M_part_14 rfl ?_
    exact xw_iret F hr hlk hh rfl () rfl (by
      unfold part_
      rw [row_out (by omega)]) trivial d_M_part_15
  · refine lv_iload_n hx hb d_M_part_4 rfl (lv_at hl 1 rfl) ?_
    refine lv_aload_n hx hb d_M_part_5 rfl (lv_at hl 0 rfl) ?_
    refine xw_get F hh.1 (v := .ref (ma 25)) fl_M_74_6 0 rfl rfl d_M_part_6 ?_
    refine lv_iconst (v := xi_ 0) hx hb d_M_part_9 rfl ?_
    refine xw_iald F hh.1 6 (f := mn) rfl (i := 0) (by omega) d_M_part_10 ?_
    refine xw_topi (y := (rs.length : Int)) hml ?_
    refine xw_icmp_lt hx hb 16 d_M_part_11 (by decide) (by omega) (fun c11 => ?_) (fun c11 => ?_)
    · refine lv_iload_n hx hb d_M_part_16 rfl (lv_at hl 2 rfl) ?_
      have hrw := mr_row hmr (i := i) ⟨by omega, by omega⟩
      by_cases hw0 : w = 0
      · refine lv_tableIn (off := 35) (tgt := 52) hx hb d_M_part_17 (by rw [hw0]; decide) (by rw [hw0]; decide) (by rw [hw0]; decide) (by decide) ?_
        refine lv_aload_n hx hb d_M_part_52 rfl (lv_at hl 0 rfl) ?_
        refine xw_get F hh.1 (v := .ref (ma 27)) fl_M_81_6 0 rfl rfl d_M_part_53 ?_
        refine lv_iload_n hx hb d_M_part_56 rfl (lv_at hl 1 rfl) ?_
        refine xw_lald F hh.1 1 (f := be) rfl (i := i) (by omega) d_M_part_57 ?_
        refine xw_l2i hx hb d_M_part_58 ?_
        exact xw_iret F hr hlk hh rfl () rfl (by
          unfold part_
          rw [hrw]
          show _ = if _ then _ else _
          rw [if_pos hw0]) trivial d_M_part_59
      by_cases hw1 : w = 1
      · refine lv_tableIn (off := 43) (tgt := 60) hx hb d_M_part_17 (by rw [hw1]; decide) (by rw [hw1]; decide) (by rw [hw1]; decide) (by decide) ?_
        refine lv_aload_n hx hb d_M_part_60 rfl (lv_at hl 0 rfl) ?_
        refine xw_get F hh.1 (v := .ref (ma 28)) fl_M_84_6 0 rfl rfl d_M_part_61 ?_
        refine lv_iload_n hx hb d_M_part_64 rfl (lv_at hl 1 rfl) ?_
        refine xw_lald F hh.1 2 (f := so) rfl (i := i) (by omega) d_M_part_65 ?_
        refine xw_l2i hx hb d_M_part_66 ?_
        exact xw_iret F hr hlk hh rfl () rfl (by
          unfold part_
          rw [hrw]
          show _ = if _ then _ else _
          rw [if_neg hw0, if_pos hw1]) trivial d_M_part_67
      by_cases hw2 : w = 2
      · refine lv_tableIn (off := 51) (tgt := 68) hx hb d_M_part_17 (by rw [hw2]; decide) (by rw [hw2]; decide) (by rw [hw2]; decide) (by decide) ?_
        refine lv_aload_n hx hb d_M_part_68 rfl (lv_at hl 0 rfl) ?_
        refine xw_get F hh.1 (v := .ref (ma 29)) fl_M_87_6 0 rfl rfl d_M_part_69 ?_
        refine lv_iload_n hx hb d_M_part_72 rfl (lv_at hl 1 rfl) ?_
        refine xw_lald F hh.1 3 (f := wh) rfl (i := i) (by omega) d_M_part_73 ?_
        refine xw_l2i hx hb d_M_part_74 ?_
        exact xw_iret F hr hlk hh rfl () rfl (by
          unfold part_
          rw [hrw]
          show _ = if _ then _ else _
          rw [if_neg hw0, if_neg hw1, if_pos hw2]) trivial d_M_part_75
      by_cases hw3 : w = 3
      · refine lv_tableIn (off := 59) (tgt := 76) hx hb d_M_part_17 (by rw [hw3]; decide) (by rw [hw3]; decide) (by rw [hw3]; decide) (by decide) ?_
        refine lv_aload_n hx hb d_M_part_76 rfl (lv_at hl 0 rfl) ?_
        refine xw_get F hh.1 (v := .ref (ma 30)) fl_M_90_6 0 rfl rfl d_M_part_77 ?_
        refine lv_iload_n hx hb d_M_part_80 rfl (lv_at hl 1 rfl) ?_
        refine xw_lald F hh.1 4 (f := we) rfl (i := i) (by omega) d_M_part_81 ?_
        refine xw_l2i hx hb d_M_part_82 ?_
        exact xw_iret F hr hlk hh rfl () rfl (by
          unfold part_
          rw [hrw]
          show _ = if _ then _ else _
          rw [if_neg hw0, if_neg hw1, if_neg hw2, if_pos hw3]) trivial d_M_part_83
      by_cases hw4 : w = 4
      · refine lv_tableIn (off := 67) (tgt := 84) hx hb d_M_part_17 (by rw [hw4]; decide) (by rw [hw4]; decide) (by rw [hw4]; decide) (by decide) ?_
        refine lv_aload_n hx hb d_M_part_84 rfl (lv_at hl 0 rfl) ?_
        refine xw_get F hh.1 (v := .ref (ma 31)) fl_M_93_6 0 rfl rfl d_M_part_85 ?_
        refine lv_iload_n hx hb d_M_part_88 rfl (lv_at hl 1 rfl) ?_
        refine xw_iald F hh.1 5 (f := le) rfl (i := i) (by omega) d_M_part_89 ?_
        exact xw_iret F hr hlk hh rfl () rfl (by
          unfold part_
          rw [hrw]
          show _ = if _ then _ else _
          rw [if_neg hw0, if_neg hw1, if_neg hw2, if_neg hw3, if_pos hw4]) trivial d_M_part_90
      refine lv_tableOut (tgt := 91) hx hb d_M_part_17 (by rw [xi_toInt (by omega)]; omega) (by decide) ?_
      refine lv_iconst (v := xi_ (-1)) hx hb d_M_part_91 rfl ?_
      exact xw_iret F hr hlk hh rfl () rfl (by
        unfold part_
        rw [hrw]
        show _ = if _ then _ else _
        rw [if_neg hw0, if_neg hw1, if_neg hw2, if_neg hw3, if_neg hw4]) trivial d_M_part_92
    · refine lv_iconst (v := xi_ (-1)) hx hb d_M_part_14 rfl ?_
      exact xw_iret F hr hlk hh rfl () rfl (by
        unfold part_
        rw [row_out (by omega)]) trivial d_M_part_15
def rm_M_due : Room := { frames := 0, cells := 0, slots := 0, locals := 0 }
set_option maxHeartbeats 4000000 in
set_option maxRecDepth 100000 in
theorem c_M_due (l : Launch) (G : GG_) (sz : Nat) (mo : Nat) (ma : Nat → Nat) (ty at0 dp wy un pl sp pe tk du tm : Int) (dt ds dl da : Nat → Int) (dm de gsf : Nat → Int) (sc : Int) (rs : List Row_) (hml : du = (rs.length : Int)) (hll : rs.length ≤ 101) (hmq : mq_ dt ds dm de dl da (lasts_ gsf sc) rs) (i w : Int) (hiw : (-2147483648 ≤ i ∧ i ≤ 2147483647) ∧ (-2147483648 ≤ w ∧ w ≤ 2147483647)) : Met l y_M_due (cw_ y_M_due b_M_due 3 (some .int)) rm_M_due (xw_P G [.ref mo, .int (xi_ i), .int (xi_ w)] sz [(mo, .inr (6, mo_ ma ty at0 dp wy un pl sp pe tk du tm)), (ma 39, .inl (G.2.2 0, 101, .inl (ja_ dt))), (ma 40, .inl (G.2.2 0, 101, .inl (ja_ ds))), (ma 41, .inl (G.2.2 0, 101, .inl (ja_ dl))), (ma 42, .inl (G.2.2 0, 101, .inl (ja_ da)))] (fun _ => True)) (xw_Qi (S := Unit) G sz [(mo, .inr (6, mo_ ma ty at0 dp wy un pl sp pe tk du tm)), (ma 39, .inl (G.2.2 0, 101, .inl (ja_ dt))), (ma 40, .inl (G.2.2 0, 101, .inl (ja_ ds))), (ma 41, .inl (G.2.2 0, 101, .inl (ja_ dl))), (ma 42, .inl (G.2.2 0, 101, .inl (ja_ da)))] (fun z _ => z = due_ gsf sc rs i w) (fun _ => [(mo, .inr (6, mo_ ma ty at0 dp wy un pl sp pe tk du tm)), (ma 39, .inl (G.2.2 0, 101, .inl (ja_ dt))), (ma 40, .inl (G.2.2 0, 101, .inl (ja_ ds))), (ma 41, .inl (G.2.2 0, 101, .inl (ja_ dl))), (ma 42, .inl (G.2.2 0, 101, .inl (ja_ da)))]) (fun _ _ => True)) 0 0 (va_A [(mo, .inr (6, mo_ ma ty at0 dp wy un pl sp pe tk du tm)), (ma 39, .inl (G.2.2 0, 101, .inl (ja_ dt))), (ma 40, .inl (G.2.2 0, 101, .inl (ja_ ds))), (ma 41, .inl (G.2.2 0, 101, .inl (ja_ dl))), (ma 42, .inl (G.2.2 0, 101, .inl (ja_ da)))] sz) := by
  refine xw_met (by decide) (Nat.le_of_ble_eq_true rfl) ?_
  intro p0 e0 s m0 args below meth c0 F hr hlk hin hsz hh hX ls hl
  subst hsz
  have hx := F.1
  have hb := F.2.1
  have hl : lv_has ls 3 [(0, .ref mo), (1, .int (xi_ i)), (2, .int (xi_ w))] := hl
  refine lv_iload_n hx hb d_M_due_0 rfl (lv_at hl 1 rfl) ?_
  refine xw_if_lt hx hb 12 d_M_due_1 (by decide) (by omega) (fun c1 => ?_) (fun c1 => ?_)
  · refine lv_iconst (v := xi_ (-1)) hx hb d_M_due_12 rfl ?_
    exact xw_iret F hr hlk hh rfl () rfl (by
      unfold due_
      rw [row_out (by omega)]) trivial d_M_due_13
  · refine lv_iload_n hx hb d_M_due_4 rfl (lv_at hl 1 rfl) ?_
    refine lv_aload_n hx hb d_M_due_5 rfl (lv_at hl 0 rfl) ?_
    refine xw_get F hh.1 (v := .int (xi_ du)) fl_M_164_6 0 rfl rfl d_M_due_6 ?_
    refine xw_icmp_lt hx hb 14 d_M_due_9 (by decide) (by omega) (fun c9 => ?_) (fun c9 => ?_)
    · refine lv_iload_n hx hb d_M_due_14 rfl (lv_at hl 2 rfl) ?_
      have hlt : i.toNat < rs.length := by omega
      have hrw0 := hmq i.toNat _ (List.getElem?_eq_getElem hlt)
      obtain ⟨rw, hrw9⟩ : ∃ rw, rw = rs[i.toNat] := ⟨_, rfl⟩
      rw [← hrw9] at hrw0
      have hrw : row_ rs i = some rw := by
        unfold row_
        rw [if_pos (by omega), List.getElem?_eq_getElem hlt, hrw9]
      have hda : da i.toNat = lasts_ gsf sc (dt i.toNat, ds i.toNat, dm i.toNat, de i.toNat, dl i.toNat) := by
        rw [hrw0.2, ← hrw0.1]
      rw [hrw0.1] at hrw
      by_cases hw0 : w = 0
      · refine lv_tableIn (off := 29) (tgt := 44) hx hb d_M_due_15 (by rw [hw0]; decide) (by rw [hw0]; decide) (by rw [hw0]; decide) (by decide) ?_
        refine lv_aload_n hx hb d_M_due_44 rfl (lv_at hl 0 rfl) ?_
        refine xw_get F hh.1 (v := .ref (ma 39)) fl_M_100_6 0 rfl rfl d_M_due_45 ?_
        refine lv_iload_n hx hb d_M_due_48 rfl (lv_at hl 1 rfl) ?_
        refine xw_iald F hh.1 1 (f := dt) rfl (i := i) (by omega) d_M_due_49 ?_
        exact xw_iret F hr hlk hh rfl () rfl (by
          unfold due_
          rw [hrw]
          show _ = if _ then _ else _
          rw [if_pos hw0]) trivial d_M_due_50
      by_cases hw1 : w = 1
      · refine lv_tableIn (off := 36) (tgt := 51) hx hb d_M_due_15 (by rw [hw1]; decide) (by rw [hw1]; decide) (by rw [hw1]; decide) (by decide) ?_
        refine lv_aload_n hx hb d_M_due_51 rfl (lv_at hl 0 rfl) ?_
        refine xw_get F hh.1 (v := .ref (ma 40)) fl_M_103_6 0 rfl rfl d_M_due_52 ?_
        refine lv_iload_n hx hb d_M_due_55 rfl (lv_at hl 1 rfl) ?_
        refine xw_iald F hh.1 2 (f := ds) rfl (i := i) (by omega) d_M_due_56 ?_
        exact xw_iret F hr hlk hh rfl () rfl (by
          unfold due_
          rw [hrw]
          show _ = if _ then _ else _
          rw [if_neg hw0, if_pos hw1]) trivial d_M_due_57
      by_cases hw2 : w = 2
      · refine lv_tableIn (off := 43) (tgt := 58) hx hb d_M_due_15 (by rw [hw2]; decide) (by rw [hw2]; decide) (by rw [hw2]; decide) (by decide) ?_
        refine lv_aload_n hx hb d_M_due_58 rfl (lv_at hl 0 rfl) ?_
        refine xw_get F hh.1 (v := .ref (ma 41)) fl_M_106_6 0 rfl rfl d_M_due_59 ?_
        refine lv_iload_n hx hb d_M_due_62 rfl (lv_at hl 1 rfl) ?_
        refine xw_iald F hh.1 3 (f := dl) rfl (i := i) (by omega) d_M_due_63 ?_
        exact xw_iret F hr hlk hh rfl () rfl (by
          unfold due_
          rw [hrw]
          show _ = if _ then _ else _
          rw [if_neg hw0, if_neg hw1, if_pos hw2]) trivial d_M_due_64
      by_cases hw3 : w = 3
      · refine lv_tableIn (off := 50) (tgt := 65) hx hb d_M_due_15 (by rw [hw3]; decide) (by rw [hw3]; decide) (by rw [hw3]; decide) (by decide) ?_
        refine lv_aload_n hx hb d_M_due_65 rfl (lv_at hl 0 rfl) ?_
        refine xw_get F hh.1 (v := .ref (ma 42)) fl_M_109_6 0 rfl rfl d_M_due_66 ?_
        refine lv_iload_n hx hb d_M_due_69 rfl (lv_at hl 1 rfl) ?_
        refine xw_iald F hh.1 4 (f := da) rfl (i := i) (by omega) d_M_due_70 ?_
        exact xw_iret F hr hlk hh rfl () rfl (by
          unfold due_
          rw [hrw]
          show _ = if _ then _ else _
          rw [if_neg hw0, if_neg hw1, if_neg hw2, if_pos hw3]
          exact hda) trivial d_M_due_71
      refine lv_tableOut (tgt := 72) hx hb d_M_due_15 (by rw [xi_toInt (by omega)]; omega) (by decide) ?_
      refine lv_iconst (v := xi_ (-1)) hx hb d_M_due_72 rfl ?_
      exact xw_iret F hr hlk hh rfl () rfl (by
        unfold due_
        rw [hrw]
        show _ = if _ then _ else _
        rw [if_neg hw0, if_neg hw1, if_neg hw2, if_neg hw3]) trivial d_M_due_73
    · refine lv_iconst (v := xi_ (-1)) hx hb d_M_due_12 rfl ?_
      exact xw_iret F hr hlk hh rfl () rfl (by
        unfold due_
        rw [row_out (by omega)]) trivial d_M_due_13
def rm_M_play : Room := { frames := 0, cells := 0, slots := 0, locals := 0 }
set_option maxHeartbeats 4000000 in
set_option maxRecDepth 100000 in
theorem c_M_play (l : Launch) (G : GG_) (sz : Nat) (mo : Nat) (ma : Nat → Nat) (ty at0 dp wy un pl sp pe tk du tm : Int) (mk n d : Int) (hn : (-2147483648 ≤ mk ∧ mk ≤ 2147483647) ∧ (-2147483648 ≤ n ∧ n ≤ 2147483647) ∧ (-2147483648 ≤ d ∧ d ≤ 2147483647)) : Met l y_M_play (cw_ y_M_play b_M_play 4 (some .boolean)) rm_M_play (xw_P G [.ref mo, .int (xi_ mk), .int (xi_ n), .int (xi_ d)] sz [(mo, .inr (6, mo_ ma ty at0 dp wy un pl sp pe tk du tm))] (fun _ => True)) (xw_Qi (S := Int × Int × Int × Int × Int) G sz [(mo, .inr (6, mo_ ma ty at0 dp wy un pl sp pe tk du tm))] (fun z u => z = b2_ (decide (1 ≤ mk ∧ mk ≤ 255 ∧ 1 ≤ n ∧ n ≤ 20 ∧ 1 ≤ d ∧ d ≤ 20)) ∧ u = if 1 ≤ mk ∧ mk ≤ 255 ∧ 1 ≤ n ∧ n ≤ 20 ∧ 1 ≤ d ∧ d ≤ 20 then (mk, n, d, 0, 0) else (pl, sp, pe, tk, du)) (fun u => [(mo, .inr (6, mo_ ma ty at0 dp wy un u.1 u.2.1 u.2.2.1 u.2.2.2.1 u.2.2.2.2 tm))]) (fun _ _ => True)) 0 0 (va_A [(mo, .inr (6, mo_ ma ty at0 dp wy un pl sp pe tk du tm))] sz) := by
  refine xw_met (by decide) (Nat.le_of_ble_eq_true rfl) ?_
  intro p0 e0 s m0 args below meth c0 F hr hlk hin hsz hh hX ls hl
  subst hsz
  have hx := F.1
  have hb := F.2.1
  have hl : lv_has ls 4 [(0, .ref mo), (1, .int (xi_ mk)), (2, .int (xi_ n)), (3, .int (xi_ d))] := hl
  refine lv_iload_n hx hb d_M_play_0 rfl (lv_at hl 1 rfl) ?_
  refine lv_iconst (v := xi_ 1) hx hb d_M_play_1 rfl ?_
  refine xw_icmp_lt hx hb 34 d_M_play_2 (by decide) (by omega) (fun c2 => ?_) (fun c2 => ?_)
  · refine lv_iconst (v := xi_ 0) hx hb d_M_play_34 rfl ?_
    exact xw_iret F hr hlk hh (by decide) (pl, sp, pe, tk, du) rfl ⟨b2_f (decide_eq_false (by omega)), (if_neg (by omega)).symm⟩ trivial d_M_play_35
  · refine lv_iload_n hx hb d_M_play_5 rfl (lv_at hl 1 rfl) ?_
    refine lv_sipush (v := xi_ 255) hx hb d_M_play_6 (by decide) ?_
    refine xw_icmp_gt hx hb 34 d_M_play_9 (by decide) (by omega) (fun c9 => ?_) (fun c9 => ?_)
    · refine lv_iconst (v := xi_ 0) hx hb d_M_play_34 rfl ?_
      exact xw_iret F hr hlk hh (by decide) (pl, sp, pe, tk, du) rfl ⟨b2_f (decide_eq_false (by omega)), (if_neg (by omega)).symm⟩ trivial d_M_play_35
    · refine lv_iload_n hx hb d_M_play_12 rfl (lv_at hl 2 rfl) ?_
      refine lv_iconst (v := xi_ 1) hx hb d_M_play_13 rfl ?_
      refine xw_icmp_lt hx hb 34 d_M_play_14 (by decide) (by omega) (fun c14 => ?_) (fun c14 => ?_)
      · refine lv_iconst (v := xi_ 0) hx hb d_M_play_34 rfl ?_
        exact xw_iret F hr hlk hh (by decide) (pl, sp, pe, tk, du) rfl ⟨b2_f (decide_eq_false (by omega)), (if_neg (by omega)).symm⟩ trivial d_M_play_35
      · refine lv_iload_n hx hb d_M_play_17 rfl (lv_at hl 2 rfl) ?_
        refine lv_bipush (v := xi_ 20) hx hb d_M_play_18 (by decide) ?_
        refine xw_icmp_gt hx hb 34 d_M_play_20 (by decide) (by omega) (fun c20 => ?_) (fun c20 => ?_)
        · refine lv_iconst (v := xi_ 0) hx hb d_M_play_34 rfl ?_
          exact xw_iret F hr hlk hh (by decide) (pl, sp, pe, tk, du) rfl ⟨b2_f (decide_eq_false (by omega)), (if_neg (by omega)).symm⟩ trivial d_M_play_35
        · refine lv_iload_n hx hb d_M_play_23 rfl (lv_at hl 3 rfl) ?_
          refine lv_iconst (v := xi_ 1) hx hb d_M_play_24 rfl ?_
          refine xw_icmp_lt hx hb 34 d_M_play_25 (by decide) (by omega) (fun c25 => ?_) (fun c25 => ?_)
          · refine lv_iconst (v := xi_ 0) hx hb d_M_play_34 rfl ?_
            exact xw_iret F hr hlk hh (by decide) (pl, sp, pe, tk, du) rfl ⟨b2_f (decide_eq_false (by omega)), (if_neg (by omega)).symm⟩ trivial d_M_play_35
          · refine lv_iload_n hx hb d_M_play_28 rfl (lv_at hl 3 rfl) ?_
            refine lv_bipush (v := xi_ 20) hx hb d_M_play_29 (by decide) ?_
            refine xw_icmp_le hx hb 36 d_M_play_31 (by decide) (by omega) (fun c31 => ?_) (fun c31 => ?_)
            · refine lv_aload_n hx hb d_M_play_36 rfl (lv_at hl 0 rfl) ?_
              refine lv_iload_n hx hb d_M_play_37 rfl (lv_at hl 1 rfl) ?_
              refine xw_put F hh fp_M_161_6 0 rfl rfl rfl (Nat.le_of_ble_eq_true rfl) d_M_play_38 (fun H locs hh => ?_)
              have hh : xw_H G (va_A [(mo, .inr (6, mo_ ma ty at0 dp wy un pl sp pe tk du tm))] s.heap.size) s.heap H locs [(mo, .inr (6, mo_ ma ty at0 dp wy un mk sp pe tk du tm))] := hh
              refine lv_aload_n hx hb d_M_play_41 rfl (lv_at hl 0 rfl) ?_
              refine lv_iload_n hx hb d_M_play_42 rfl (lv_at hl 2 rfl) ?_
              refine xw_i2l hx hb d_M_play_43 (by omega) ?_
              refine xw_put F hh fp_M_242_6 0 rfl rfl rfl (Nat.le_of_ble_eq_true rfl) d_M_play_44 (fun H locs hh => ?_)
              have hh : xw_H G (va_A [(mo, .inr (6, mo_ ma ty at0 dp wy un pl sp pe tk du tm))] s.heap.size) s.heap H locs [(mo, .inr (6, mo_ ma ty at0 dp wy un mk n pe tk du tm))] := hh
              refine lv_aload_n hx hb d_M_play_47 rfl (lv_at hl 0 rfl) ?_
              refine lv_iload_n hx hb d_M_play_48 rfl (lv_at hl 3 rfl) ?_
              refine xw_i2l hx hb d_M_play_49 (by omega) ?_
              refine xw_put F hh fp_M_246_6 0 rfl rfl rfl (Nat.le_of_ble_eq_true rfl) d_M_play_50 (fun H locs hh => ?_)
              have hh : xw_H G (va_A [(mo, .inr (6, mo_ ma ty at0 dp wy un pl sp pe tk du tm))] s.heap.size) s.heap H locs [(mo, .inr (6, mo_ ma ty at0 dp wy un mk n d tk du tm))] := hh
              refine lv_aload_n hx hb d_M_play_53 rfl (lv_at hl 0 rfl) ?_
              refine lv_iconst (v := xi_ 0) hx hb d_M_play_54 rfl ?_
              refine xw_put F hh fp_M_167_6 0 rfl rfl rfl (Nat.le_of_ble_eq_true rfl) d_M_play_55 (fun H locs hh => ?_)
              have hh : xw_H G (va_A [(mo, .inr (6, mo_ ma ty at0 dp wy un pl sp pe tk du tm))] s.heap.size) s.heap H locs [(mo, .inr (6, mo_ ma ty at0 dp wy un mk n d 0 du tm))] := hh
              refine lv_aload_n hx hb d_M_play_58 rfl (lv_at hl 0 rfl) ?_
              refine lv_iconst (v := xi_ 0) hx hb d_M_play_59 rfl ?_
              refine xw_put F hh fp_M_164_6 0 rfl rfl rfl (Nat.le_of_ble_eq_true rfl) d_M_play_60 (fun H locs hh => ?_)
              have hh : xw_H G (va_A [(mo, .inr (6, mo_ ma ty at0 dp wy un pl sp pe tk du tm))] s.heap.size) s.heap H locs [(mo, .inr (6, mo_ ma ty at0 dp wy un mk n d 0 0 tm))] := hh
              refine lv_iconst (v := xi_ 1) hx hb d_M_play_63 rfl ?_
              exact xw_iret F hr hlk hh (by decide) (mk, n, d, 0, 0) rfl ⟨b2_t (decide_eq_true (by omega)), (if_pos (by omega)).symm⟩ trivial d_M_play_64
            · refine lv_iconst (v := xi_ 0) hx hb d_M_play_34 rfl ?_
              exact xw_iret F hr hlk hh (by decide) (pl, sp, pe, tk, du) rfl ⟨b2_f (decide_eq_false (by omega)), (if_neg (by omega)).symm⟩ trivial d_M_play_35
