/-! CyclePatterns.part, onsets, due -/
def col_ (r : Row_) (k : Nat) : Int := match k with
  | 0 => r.1
  | 1 => r.2.1
  | 2 => r.2.2.1
  | 3 => r.2.2.2.1
  | _ => r.2.2.2.2
/-- the row at a place -/
def row_ (l : List Row_) (i : Int) : Option Row_ := if 0 ≤ i ∧ i < (l.length : Int) then l[i.toNat]? else none
theorem row_out {l : List Row_} {i : Int} (h : ¬ (0 ≤ i ∧ i < (l.length : Int))) : row_ l i = none := if_neg h
theorem rr_rowi {lim : Nat} {cnt tm : Int} {vals rat : Nat → Int} {st : List Row_ × Bool} (h : rr_ lim cnt tm vals rat st) {i : Int} (hi : 0 ≤ i ∧ i < cnt) : row_ st.1 i = some (ro_ vals (rat i.toNat)) := by
  obtain ⟨h1, h2, h3, h4, h5⟩ := h
  unfold row_
  rw [if_pos (by omega)]
  exact (h4 i.toNat (by omega)).2.2
theorem rr_val {lim : Nat} {cnt tm : Int} {vals rat : Nat → Int} {st : List Row_ × Bool} (h : rr_ lim cnt tm vals rat st) {i : Int} (hi : 0 ≤ i ∧ i < cnt) {r : Row_} (hr : row_ st.1 i = some r) (k : Nat) (hk : k < 5) {z : Int} (hz : z = if 0 ≤ i ∧ i < cnt ∧ 0 ≤ (k : Int) ∧ (k : Int) < 5 then vals (rat i.toNat * 5 + (k : Int)).toNat else 0) : z = col_ r k := by
  rw [rr_rowi h hi] at hr
  cases hr
  rw [if_pos (by omega)] at hz
  rw [hz]
  match k, hk with
  | 0, _ => rfl
  | 1, _ => rfl
  | 2, _ => rfl
  | 3, _ => rfl
  | 4, _ => rfl
  | k + 5, hk => omega
theorem rr_vrng {lim : Nat} {cnt tm : Int} {vals rat : Nat → Int} {st : List Row_ × Bool} (h : rr_ lim cnt tm vals rat st) {i : Int} (hi : 0 ≤ i ∧ i < cnt) {r : Row_} (hr : row_ st.1 i = some r) (k : Nat) : -9223372036854775808 ≤ col_ r k ∧ col_ r k ≤ 9223372036854775807 := by
  rw [rr_rowi h hi] at hr
  cases hr
  match k with
  | 0 => exact h.2.2.2.2 _
  | 1 => exact h.2.2.2.2 _
  | 2 => exact h.2.2.2.2 _
  | 3 => exact h.2.2.2.2 _
  | k + 4 => exact h.2.2.2.2 _
def part_ (l : List Row_) (i w : Int) : Int := match row_ l i with
  | none => -1
  | some r => if w = 0 then r.1 else if w = 1 then r.2.2.1 else if w = 2 then r.2.1 else if w = 3 then r.2.2.2.1 else if w = 4 then r.2.2.2.2 else -1
def ons_ (l : List Row_) : Int := ((l.filter (fun r => decide (r.1 = r.2.1))).length : Int)
def lasts_ (gsf : Nat → Int) (sc : Int) (r : Row_) : Int := if sc * gsf r.2.1.toNat < 1 then -1 else r.2.2.2.1 / (sc * gsf r.2.1.toNat) - r.1
def due_ (gsf : Nat → Int) (sc : Int) (l : List Row_) (i w : Int) : Int := match row_ l i with
  | none => -1
  | some r => if w = 0 then r.1 else if w = 1 then r.2.1 else if w = 2 then r.2.2.2.2 else if w = 3 then lasts_ gsf sc r else -1
def rm_X_part : Room := { frames := 2, cells := 0, slots := 0, locals := 43 }
set_option maxHeartbeats 4000000 in
set_option maxRecDepth 100000 in
theorem c_X_part (l : Launch) (G : GG_) (sz : Nat) (xo rd pa gs fo p1 p2 du : Nat) (fu pl sc ss tk : Int) (r v ra : Nat) (cnt tm : Int) (vals rat : Nat → Int) (st : List Row_ × Bool) (i w : Int) (hiw : (-2147483648 ≤ i ∧ i ≤ 2147483647) ∧ (-2147483648 ≤ w ∧ w ≤ 2147483647)) (hrr : rr_ 200 cnt tm vals rat st) : Met l y_X_part (cw_ y_X_part b_X_part 3 (some .int)) rm_X_part (xw_P G [.ref xo, .int (xi_ i), .int (xi_ w)] sz [(xo, .inr (0, xo_ rd pa gs fo p1 p2 du fu pl sc ss tk)), (fo, .inr (4, [.ref r])), (r, .inr (3, [.int (xi_ (200 : Int)), .ref v, .ref ra, .int (xi_ cnt), .int (xi_ tm)])), (v, .inl (G.2.2 1, (200 * 5), .inr (.inl (jl_ vals)))), (ra, .inl (G.2.2 0, 200, .inl (ja_ rat)))] (fun _ => True)) (xw_Qi (S := Unit) G sz [(xo, .inr (0, xo_ rd pa gs fo p1 p2 du fu pl sc ss tk)), (fo, .inr (4, [.ref r])), (r, .inr (3, [.int (xi_ (200 : Int)), .ref v, .ref ra, .int (xi_ cnt), .int (xi_ tm)])), (v, .inl (G.2.2 1, (200 * 5), .inr (.inl (jl_ vals)))), (ra, .inl (G.2.2 0, 200, .inl (ja_ rat)))] (fun z _ => z = part_ st.1 i w) (fun _ => [(xo, .inr (0, xo_ rd pa gs fo p1 p2 du fu pl sc ss tk)), (fo, .inr (4, [.ref r])), (r, .inr (3, [.int (xi_ (200 : Int)), .ref v, .ref ra, .int (xi_ cnt), .int (xi_ tm)])), (v, .inl (G.2.2 1, (200 * 5), .inr (.inl (jl_ vals)))), (ra, .inl (G.2.2 0, 200, .inl (ja_ rat)))]) (fun _ _ => True)) 0 0 (va_A [(xo, .inr (0, xo_ rd pa gs fo p1 p2 du fu pl sc ss tk)), (fo, .inr (4, [.ref r])), (r, .inr (3, [.int (xi_ (200 : Int)), .ref v, .ref ra, .int (xi_ cnt), .int (xi_ tm)])), (v, .inl (G.2.2 1, (200 * 5), .inr (.inl (jl_ vals)))), (ra, .inl (G.2.2 0, 200, .inl (ja_ rat)))] sz) := by
  refine xw_met (by decide) (Nat.le_of_ble_eq_true rfl) ?_
  intro p0 e0 s m0 args below meth c0 F hr hlk hin hsz hh hX ls hl
  subst hsz
  have hx := F.1
  have hb := F.2.1
  have hl : lv_has ls 3 [(0, .ref xo), (1, .int (xi_ i)), (2, .int (xi_ w))] := hl
  have hcnt : cnt = (st.1.length : Int) := hrr.1
  have hcl : (st.1.length : Int) ≤ 200 := by
    have := hrr.2.1.2.1
    omega
  refine lv_aload_n hx hb d_X_part_0 rfl (lv_at hl 0 rfl) ?_
  refine xw_get F hh.1 (v := .ref fo) fl_X_32_0 0 rfl rfl d_X_part_1 ?_
  refine xw_get F hh.1 (v := .ref r) fl_X_91_4 1 rfl rfl d_X_part_4 ?_
  refine lv_iload_n hx hb d_X_part_7 rfl (lv_at hl 1 rfl) ?_
  refine xw_ci (wc := [(r, .inr (3, [.int (xi_ (200 : Int)), .ref v, .ref ra, .int (xi_ cnt), .int (xi_ tm)]))]) (wr := [(xo, .inr (0, xo_ rd pa gs fo p1 p2 du fu pl sc ss tk)), (fo, .inr (4, [.ref r])), (v, .inl (G.2.2 1, (200 * 5), .inr (.inl (jl_ vals)))), (ra, .inl (G.2.2 0, 200, .inl (ja_ rat)))]) hh [2] [0, 1, 3, 4] rfl rfl rfl (by decide) (xw_rV F hh [2] rfl rfl (c_Rw_has l G s.heap.size r v ra 200 cnt tm i (by omega) (by omega)) trivial lk_X_100 cd_Rw_has se_Rw_has _ hh.1 2 rfl rfl rfl rfl ⟨by decide, by decide⟩ rfl hl.1 rfl (Nat.le_of_ble_eq_true rfl) d_X_part_8 ⟨Nat.le_of_ble_eq_true rfl, Nat.le_of_ble_eq_true rfl⟩) (fun z8 u_ H locs hp8 hX hz hk hh => ?_)
  have hh : xw_H G (va_A [(xo, .inr (0, xo_ rd pa gs fo p1 p2 du fu pl sc ss tk)), (fo, .inr (4, [.ref r])), (r, .inr (3, [.int (xi_ (200 : Int)), .ref v, .ref ra, .int (xi_ cnt), .int (xi_ tm)])), (v, .inl (G.2.2 1, (200 * 5), .inr (.inl (jl_ vals)))), (ra, .inl (G.2.2 0, 200, .inl (ja_ rat)))] s.heap.size) s.heap H locs [(xo, .inr (0, xo_ rd pa gs fo p1 p2 du fu pl sc ss tk)), (fo, .inr (4, [.ref r])), (r, .inr (3, [.int (xi_ (200 : Int)), .ref v, .ref ra, .int (xi_ cnt), .int (xi_ tm)])), (v, .inl (G.2.2 1, (200 * 5), .inr (.inl (jl_ vals)))), (ra, .inl (G.2.2 0, 200, .inl (ja_ rat)))] := xw_H.sub hh [0, 1, 4, 2, 3] rfl rfl
  obtain rfl : z8 = b2_ (decide (0 ≤ i ∧ i < cnt)) := hp8
  have hhb := b2_01 (decide (0 ≤ i ∧ i < cnt))
  refine xw_if_ne hx hb 16 d_X_part_11 (by decide) (by omega) (fun c11 => ?_) (fun c11 => ?_)
  · refine lv_iload_n hx hb d_X_part_16 rfl (lv_at hl 2 rfl) ?_
    have hi : 0 ≤ i ∧ i < cnt := of_decide_eq_true (b2_ne c11)
    obtain ⟨rw, hrw⟩ : ∃ rw, row_ st.1 i = some rw := ⟨_, rr_rowi hrr hi⟩
    by_cases hw0 : w = 0
    · refine lv_tableIn (off := 35) (tgt := 52) hx hb d_X_part_17 (by rw [hw0]; decide) (by rw [hw0]; decide) (by rw [hw0]; decide) (by decide) ?_
      refine lv_aload_n hx hb d_X_part_52 rfl (lv_at hl 0 rfl) ?_
      refine xw_get F hh.1 (v := .ref fo) fl_X_32_0 0 rfl rfl d_X_part_53 ?_
      refine xw_get F hh.1 (v := .ref r) fl_X_91_4 1 rfl rfl d_X_part_56 ?_
      refine lv_iload_n hx hb d_X_part_59 rfl (lv_at hl 1 rfl) ?_
      refine lv_iconst (v := xi_ 0) hx hb d_X_part_60 rfl ?_
      refine xw_cl (wc := [(r, .inr (3, [.int (xi_ (200 : Int)), .ref v, .ref ra, .int (xi_ cnt), .int (xi_ tm)])), (v, .inl (G.2.2 1, (200 * 5), .inr (.inl (jl_ vals)))), (ra, .inl (G.2.2 0, 200, .inl (ja_ rat)))]) (wr := [(xo, .inr (0, xo_ rd pa gs fo p1 p2 du fu pl sc ss tk)), (fo, .inr (4, [.ref r]))]) hh [2, 3, 4] [0, 1] rfl rfl rfl (by decide) (xw_rV F hh [2, 3, 4] rfl rfl (c_Rw_value l G H.size r v ra 200 cnt tm vals rat i 0 (by omega) (rr_rat hrr) (by omega) (by omega)) trivial lk_X_103 cd_Rw_value se_Rw_value _ hh.1 2 rfl rfl rfl rfl ⟨by decide, by decide⟩ rfl hl.1 rfl (Nat.le_of_ble_eq_true rfl) d_X_part_61 ⟨Nat.le_of_ble_eq_true rfl, Nat.le_of_ble_eq_true rfl⟩) (fun z61 u_ H locs hp61 hX hz hk hh => ?_)
      have hh : xw_H G (va_A [(xo, .inr (0, xo_ rd pa gs fo p1 p2 du fu pl sc ss tk)), (fo, .inr (4, [.ref r])), (r, .inr (3, [.int (xi_ (200 : Int)), .ref v, .ref ra, .int (xi_ cnt), .int (xi_ tm)])), (v, .inl (G.2.2 1, (200 * 5), .inr (.inl (jl_ vals)))), (ra, .inl (G.2.2 0, 200, .inl (ja_ rat)))] s.heap.size) s.heap H locs [(xo, .inr (0, xo_ rd pa gs fo p1 p2 du fu pl sc ss tk)), (fo, .inr (4, [.ref r])), (r, .inr (3, [.int (xi_ (200 : Int)), .ref v, .ref ra, .int (xi_ cnt), .int (xi_ tm)])), (v, .inl (G.2.2 1, (200 * 5), .inr (.inl (jl_ vals)))), (ra, .inl (G.2.2 0, 200, .inl (ja_ rat)))] := hh
      obtain rfl : z61 = col_ rw 0 := rr_val hrr hi hrw 0 (by decide) hp61
      refine xw_l2i hx hb d_X_part_64 ?_
      exact xw_iret F hr hlk hh rfl () rfl (by
        unfold part_
        rw [hrw]
        show _ = if _ then _ else _
        rw [if_pos hw0]
        try rfl
        try exact hl95) trivial d_X_part_65
    by_cases hw1 : w = 1
    · refine lv_tableIn (off := 49) (tgt := 66) hx hb d_X_part_17 (by rw [hw1]; decide) (by rw [hw1]; decide) (by rw [hw1]; decide) (by decide) ?_
      refine lv_aload_n hx hb d_X_part_66 rfl (lv_at hl 0 rfl) ?_
      refine xw_get F hh.1 (v := .ref fo) fl_X_32_0 0 rfl rfl d_X_part_67 ?_
      refine xw_get F hh.1 (v := .ref r) fl_X_91_4 1 rfl rfl d_X_part_70 ?_
      refine lv_iload_n hx hb d_X_part_73 rfl (lv_at hl 1 rfl) ?_
      refine lv_iconst (v := xi_ 2) hx hb d_X_part_74 rfl ?_
      refine xw_cl (wc := [(r, .inr (3, [.int (xi_ (200 : Int)), .ref v, .ref ra, .int (xi_ cnt), .int (xi_ tm)])), (v, .inl (G.2.2 1, (200 * 5), .inr (.inl (jl_ vals)))), (ra, .inl (G.2.2 0, 200, .inl (ja_ rat)))]) (wr := [(xo, .inr (0, xo_ rd pa gs fo p1 p2 du fu pl sc ss tk)), (fo, .inr (4, [.ref r]))]) hh [2, 3, 4] [0, 1] rfl rfl rfl (by decide) (xw_rV F hh [2, 3, 4] rfl rfl (c_Rw_value l G H.size r v ra 200 cnt tm vals rat i 2 (by omega) (rr_rat hrr) (by omega) (by omega)) trivial lk_X_103 cd_Rw_value se_Rw_value _ hh.1 2 rfl rfl rfl rfl ⟨by decide, by decide⟩ rfl hl.1 rfl (Nat.le_of_ble_eq_true rfl) d_X_part_75 ⟨Nat.le_of_ble_eq_true rfl, Nat.le_of_ble_eq_true rfl⟩) (fun z75 u_ H locs hp75 hX hz hk hh => ?_)
      have hh : xw_H G (va_A [(xo, .inr (0, xo_ rd pa gs fo p1 p2 du fu pl sc ss tk)), (fo, .inr (4, [.ref r])), (r, .inr (3, [.int (xi_ (200 : Int)), .ref v, .ref ra, .int (xi_ cnt), .int (xi_ tm)])), (v, .inl (G.2.2 1, (200 * 5), .inr (.inl (jl_ vals)))), (ra, .inl (G.2.2 0, 200, .inl (ja_ rat)))] s.heap.size) s.heap H locs [(xo, .inr (0, xo_ rd pa gs fo p1 p2 du fu pl sc ss tk)), (fo, .inr (4, [.ref r])), (r, .inr (3, [.int (xi_ (200 : Int)), .ref v, .ref ra, .int (xi_ cnt), .int (xi_ tm)])), (v, .inl (G.2.2 1, (200 * 5), .inr (.inl (jl_ vals)))), (ra, .inl (G.2.2 0, 200, .inl (ja_ rat)))] := hh
      obtain rfl : z75 = col_ rw 2 := rr_val hrr hi hrw 2 (by decide) hp75
      refine xw_l2i hx hb d_X_part_78 ?_
      exact xw_iret F hr hlk hh rfl () rfl (by
        unfold part_
        rw [hrw]
        show _ = if _ then _ else _
        rw [if_neg hw0, if_pos hw1]
        try rfl
        try exact hl95) trivial d_X_part_79
    by_cases hw2 : w = 2
    · refine lv_tableIn (off := 63) (tgt := 80) hx hb d_X_part_17 (by rw [hw2]; decide) (by rw [hw2]; decide) (by rw [hw2]; decide) (by decide) ?_
      refine lv_aload_n hx hb d_X_part_80 rfl (lv_at hl 0 rfl) ?_
      refine xw_get F hh.1 (v := .ref fo) fl_X_32_0 0 rfl rfl d_X_part_81 ?_
      refine xw_get F hh.1 (v := .ref r) fl_X_91_4 1 rfl rfl d_X_part_84 ?_
      refine lv_iload_n hx hb d_X_part_87 rfl (lv_at hl 1 rfl) ?_
      refine lv_iconst (v := xi_ 1) hx hb d_X_part_88 rfl ?_
      refine xw_cl (wc := [(r, .inr (3, [.int (xi_ (200 : Int)), .ref v, .ref ra, .int (xi_ cnt), .int (xi_ tm)])), (v, .inl (G.2.2 1, (200 * 5), .inr (.inl (jl_ vals)))), (ra, .inl (G.2.2 0, 200, .inl (ja_ rat)))]) (wr := [(xo, .inr (0, xo_ rd pa gs fo p1 p2 du fu pl sc ss tk)), (fo, .inr (4, [.ref r]))]) hh [2, 3, 4] [0, 1] rfl rfl rfl (by decide) (xw_rV F hh [2, 3, 4] rfl rfl (c_Rw_value l G H.size r v ra 200 cnt tm vals rat i 1 (by omega) (rr_rat hrr) (by omega) (by omega)) trivial lk_X_103 cd_Rw_value se_Rw_value _ hh.1 2 rfl rfl rfl rfl ⟨by decide, by decide⟩ rfl hl.1 rfl (Nat.le_of_ble_eq_true rfl) d_X_part_89 ⟨Nat.le_of_ble_eq_true rfl, Nat.le_of_ble_eq_true rfl⟩) (fun z89 u_ H locs hp89 hX hz hk hh => ?_)
      have hh : xw_H G (va_A [(xo, .inr (0, xo_ rd pa gs fo p1 p2 du fu pl sc ss tk)), (fo, .inr (4, [.ref r])), (r, .inr (3, [.int (xi_ (200 : Int)), .ref v, .ref ra, .int (xi_ cnt), .int (xi_ tm)])), (v, .inl (G.2.2 1, (200 * 5), .inr (.inl (jl_ vals)))), (ra, .inl (G.2.2 0, 200, .inl (ja_ rat)))] s.heap.size) s.heap H locs [(xo, .inr (0, xo_ rd pa gs fo p1 p2 du fu pl sc ss tk)), (fo, .inr (4, [.ref r])), (r, .inr (3, [.int (xi_ (200 : Int)), .ref v, .ref ra, .int (xi_ cnt), .int (xi_ tm)])), (v, .inl (G.2.2 1, (200 * 5), .inr (.inl (jl_ vals)))), (ra, .inl (G.2.2 0, 200, .inl (ja_ rat)))] := hh
      obtain rfl : z89 = col_ rw 1 := rr_val hrr hi hrw 1 (by decide) hp89
      refine xw_l2i hx hb d_X_part_92 ?_
      exact xw_iret F hr hlk hh rfl () rfl (by
        unfold part_
        rw [hrw]
        show _ = if _ then _ else _
        rw [if_neg hw0, if_neg hw1, if_pos hw2]
        try rfl
        try exact hl95) trivial d_X_part_93
    by_cases hw3 : w = 3
    · refine lv_tableIn (off := 77) (tgt := 94) hx hb d_X_part_17 (by rw [hw3]; decide) (by rw [hw3]; decide) (by rw [hw3]; decide) (by decide) ?_
      refine lv_aload_n hx hb d_X_part_94 rfl (lv_at hl 0 rfl) ?_
      refine xw_get F hh.1 (v := .ref fo) fl_X_32_0 0 rfl rfl d_X_part_95 ?_
      refine xw_get F hh.1 (v := .ref r) fl_X_91_4 1 rfl rfl d_X_part_98 ?_
      refine lv_iload_n hx hb d_X_part_101 rfl (lv_at hl 1 rfl) ?_
      refine lv_iconst (v := xi_ 3) hx hb d_X_part_102 rfl ?_
      refine xw_cl (wc := [(r, .inr (3, [.int (xi_ (200 : Int)), .ref v, .ref ra, .int (xi_ cnt), .int (xi_ tm)])), (v, .inl (G.2.2 1, (200 * 5), .inr (.inl (jl_ vals)))), (ra, .inl (G.2.2 0, 200, .inl (ja_ rat)))]) (wr := [(xo, .inr (0, xo_ rd pa gs fo p1 p2 du fu pl sc ss tk)), (fo, .inr (4, [.ref r]))]) hh [2, 3, 4] [0, 1] rfl rfl rfl (by decide) (xw_rV F hh [2, 3, 4] rfl rfl (c_Rw_value l G H.size r v ra 200 cnt tm vals rat i 3 (by omega) (rr_rat hrr) (by omega) (by omega)) trivial lk_X_103 cd_Rw_value se_Rw_value _ hh.1 2 rfl rfl rfl rfl ⟨by decide, by decide⟩ rfl hl.1 rfl (Nat.le_of_ble_eq_true rfl) d_X_part_103 ⟨Nat.le_of_ble_eq_true rfl, Nat.le_of_ble_eq_true rfl⟩) (fun z103 u_ H locs hp103 hX hz hk hh => ?_)
      have hh : xw_H G (va_A [(xo, .inr (0, xo_ rd pa gs fo p1 p2 du fu pl sc ss tk)), (fo, .inr (4, [.ref r])), (r, .inr (3, [.int (xi_ (200 : Int)), .ref v, .ref ra, .int (xi_ cnt), .int (xi_ tm)])), (v, .inl (G.2.2 1, (200 * 5), .inr (.inl (jl_ vals)))), (ra, .inl (G.2.2 0, 200, .inl (ja_ rat)))] s.heap.size) s.heap H locs [(xo, .inr (0, xo_ rd pa gs fo p1 p2 du fu pl sc ss tk)), (fo, .inr (4, [.ref r])), (r, .inr (3, [.int (xi_ (200 : Int)), .ref v, .ref ra, .int (xi_ cnt), .int (xi_ tm)])), (v, .inl (G.2.2 1, (200 * 5), .inr (.inl (jl_ vals)))), (ra, .inl (G.2.2 0, 200, .inl (ja_ rat)))] := hh
      obtain rfl : z103 = col_ rw 3 := rr_val hrr hi hrw 3 (by decide) hp103
      refine xw_l2i hx hb d_X_part_106 ?_
      exact xw_iret F hr hlk hh rfl () rfl (by
        unfold part_
        rw [hrw]
        show _ = if _ then _ else _
        rw [if_neg hw0, if_neg hw1, if_neg hw2, if_pos hw3]
        try rfl
        try exact hl95) trivial d_X_part_107
    by_cases hw4 : w = 4
    · refine lv_tableIn (off := 91) (tgt := 108) hx hb d_X_part_17 (by rw [hw4]; decide) (by rw [hw4]; decide) (by rw [hw4]; decide) (by decide) ?_
      refine lv_aload_n hx hb d_X_part_108 rfl (lv_at hl 0 rfl) ?_
      refine xw_get F hh.1 (v := .ref fo) fl_X_32_0 0 rfl rfl d_X_part_109 ?_
      refine xw_get F hh.1 (v := .ref r) fl_X_91_4 1 rfl rfl d_X_part_112 ?_
      refine lv_iload_n hx hb d_X_part_115 rfl (lv_at hl 1 rfl) ?_
      refine lv_iconst (v := xi_ 4) hx hb d_X_part_116 rfl ?_
      refine xw_cl (wc := [(r, .inr (3, [.int (xi_ (200 : Int)), .ref v, .ref ra, .int (xi_ cnt), .int (xi_ tm)])), (v, .inl (G.2.2 1, (200 * 5), .inr (.inl (jl_ vals)))), (ra, .inl (G.2.2 0, 200, .inl (ja_ rat)))]) (wr := [(xo, .inr (0, xo_ rd pa gs fo p1 p2 du fu pl sc ss tk)), (fo, .inr (4, [.ref r]))]) hh [2, 3, 4] [0, 1] rfl rfl rfl (by decide) (xw_rV F hh [2, 3, 4] rfl rfl (c_Rw_value l G H.size r v ra 200 cnt tm vals rat i 4 (by omega) (rr_rat hrr) (by omega) (by omega)) trivial lk_X_103 cd_Rw_value se_Rw_value _ hh.1 2 rfl rfl rfl rfl ⟨by decide, by decide⟩ rfl hl.1 rfl (Nat.le_of_ble_eq_true rfl) d_X_part_117 ⟨Nat.le_of_ble_eq_true rfl, Nat.le_of_ble_eq_true rfl⟩) (fun z117 u_ H locs hp117 hX hz hk hh => ?_)
      have hh : xw_H G (va_A [(xo, .inr (0, xo_ rd pa gs fo p1 p2 du fu pl sc ss tk)), (fo, .inr (4, [.ref r])), (r, .inr (3, [.int (xi_ (200 : Int)), .ref v, .ref ra, .int (xi_ cnt), .int (xi_ tm)])), (v, .inl (G.2.2 1, (200 * 5), .inr (.inl (jl_ vals)))), (ra, .inl (G.2.2 0, 200, .inl (ja_ rat)))] s.heap.size) s.heap H locs [(xo, .inr (0, xo_ rd pa gs fo p1 p2 du fu pl sc ss tk)), (fo, .inr (4, [.ref r])), (r, .inr (3, [.int (xi_ (200 : Int)), .ref v, .ref ra, .int (xi_ cnt), .int (xi_ tm)])), (v, .inl (G.2.2 1, (200 * 5), .inr (.inl (jl_ vals)))), (ra, .inl (G.2.2 0, 200, .inl (ja_ rat)))] := hh
      obtain rfl : z117 = col_ rw 4 := rr_val hrr hi hrw 4 (by decide) hp117
      refine xw_l2i hx hb d_X_part_120 ?_
      exact xw_iret F hr hlk hh rfl () rfl (by
        unfold part_
        rw [hrw]
        show _ = if _ then _ else _
        rw [if_neg hw0, if_neg hw1, if_neg hw2, if_neg hw3, if_pos hw4]
        try rfl
        try exact hl95) trivial d_X_part_121
    refine lv_tableOut (tgt := 122) hx hb d_X_part_17 (by rw [xi_toInt (by omega)]; omega) (by decide) ?_
    refine lv_iconst (v := xi_ (-1)) hx hb d_X_part_122 rfl ?_
    exact xw_iret F hr hlk hh rfl () rfl (by
      unfold part_
      rw [hrw]
      show _ = if _ then _ else _
      rw [if_neg hw0, if_neg hw1, if_neg hw2, if_neg hw3, if_neg hw4]
      try rfl
      try exact hl95) trivial d_X_part_123
  · refine lv_iconst (v := xi_ (-1)) hx hb d_X_part_14 rfl ?_
    exact xw_iret F hr hlk hh rfl () rfl (by
      unfold part_
      rw [row_out (fun q => of_decide_eq_false (b2_e0 c11) (by omega))]) trivial d_X_part_15
def rm_X_onsets : Room := { frames := 2, cells := 0, slots := 0, locals := 43 }
theorem ons_s {l : List Row_} {i : Nat} {r : Row_} (h : l[i]? = some r) : ons_ (l.take (i + 1)) = ons_ (l.take i) + if r.1 = r.2.1 then 1 else 0 := by
  unfold ons_
  obtain ⟨h1, h2⟩ := List.getElem?_eq_some_iff.mp h
  rw [List.take_succ_eq_append_getElem h1, List.filter_append, List.length_append, h2]
  by_cases hq : r.1 = r.2.1
  · rw [if_pos hq, List.filter_cons_of_pos (by exact decide_eq_true hq)]
    simp
  · rw [if_neg hq, List.filter_cons_of_neg (by simpa using hq)]
    simp
theorem ons_le {l : List Row_} {i : Nat} : 0 ≤ ons_ (l.take i) ∧ ons_ (l.take i) ≤ (i : Int) := by
  unfold ons_
  have h1 := List.length_filter_le (fun r : Row_ => decide (r.1 = r.2.1)) (l.take i)
  have h2 : (l.take i).length ≤ i := by
    rw [List.length_take]
    omega
  omega
theorem row_get {l : List Row_} {i : Int} {r : Row_} (h : row_ l i = some r) : l[i.toNat]? = some r := by
  unfold row_ at h
  split at h
  · exact h
  · cases h
set_option maxHeartbeats 4000000 in
set_option maxRecDepth 100000 in
theorem lp_X_onsets {p0 : Program} {l : Launch} {e0 : Env} {s : State} {m0 : MethodId} {args : Array Value} {below : List Frame} {meth : Method} {c0 : Code} {Q : State → Prop} {G : GG_} {A : Nat → Prop} {H0 : Heap} (F : xw_F p0 s m0 args c0 b_X_onsets 3 R_X G) (xo rd pa gs fo p1 p2 du : Nat) (fu pl sc ss tk : Int) (r v ra : Nat) (cnt tm : Int) (vals rat : Nat → Int) (st : List Row_ × Bool) (hrr : rr_ 200 cnt tm vals rat st)
    (kt : ∀ (k : Int) (ls : Array Slot) (H : Heap) (locs : List Loc), k = ons_ st.1 → lv_has ls 3 [(1, .int (xi_ k))] → xw_H G A H0 H locs [(xo, .inr (0, xo_ rd pa gs fo p1 p2 du fu pl sc ss tk)), (fo, .inr (4, [.ref r])), (r, .inr (3, [.int (xi_ (200 : Int)), .ref v, .ref ra, .int (xi_ cnt), .int (xi_ tm)])), (v, .inl (G.2.2 1, (200 * 5), .inr (.inl (jl_ vals)))), (ra, .inl (G.2.2 0, 200, .inl (ja_ rat)))] → W p0 l e0 rm_X_onsets s m0 args below meth c0 H locs 0 0 Q (F0 m0 55 ls [])) :
    ∀ (N : Nat) (i k : Int) (ls : Array Slot) (H : Heap) (locs : List Loc), (cnt - i).toNat < N → 0 ≤ i → i ≤ cnt → k = ons_ (st.1.take i.toNat) → lv_has ls 3 [(2, .int (xi_ i)), (1, .int (xi_ k)), (0, .ref xo)] → xw_H G A H0 H locs [(xo, .inr (0, xo_ rd pa gs fo p1 p2 du fu pl sc ss tk)), (fo, .inr (4, [.ref r])), (r, .inr (3, [.int (xi_ (200 : Int)), .ref v, .ref ra, .int (xi_ cnt), .int (xi_ tm)])), (v, .inl (G.2.2 1, (200 * 5), .inr (.inl (jl_ vals)))), (ra, .inl (G.2.2 0, 200, .inl (ja_ rat)))] → W p0 l e0 rm_X_onsets s m0 args below meth c0 H locs 0 0 Q (F0 m0 4 ls []) := by
  have hx := F.1
  have hb := F.2.1
  have hcnt : cnt = (st.1.length : Int) := hrr.1
  have hcl : (st.1.length : Int) ≤ 200 := by
    have := hrr.2.1.2.1
    omega
  intro N
  induction N with
  | zero => intro i k ls H locs h; omega
  | succ N ihn =>
    intro i k ls H locs hN1 hi0 hi1 hk9 hl hh
    have hke := ons_le (l := st.1) (i := i.toNat)
    refine lv_iload_n hx hb d_X_onsets_4 rfl (lv_at hl 0 rfl) ?_
    refine lv_aload_n hx hb d_X_onsets_5 rfl (lv_at hl 2 rfl) ?_
    refine xw_get F hh.1 (v := .ref fo) fl_X_32_0 0 rfl rfl d_X_onsets_6 ?_
    refine xw_get F hh.1 (v := .ref r) fl_X_91_4 1 rfl rfl d_X_onsets_9 ?_
    refine xw_get F hh.1 (v := .int (xi_ cnt)) fl_X_95_3 2 rfl rfl d_X_onsets_12 ?_
    refine xw_icmp_ge hx hb 55 d_X_onsets_15 (by decide) (by omega) (fun c15 => ?_) (fun c15 => ?_)
    · refine kt k ls H locs ?_ (lv_sub hl [1] rfl) hh
      rw [hk9, List.take_of_length_le (by omega)]
    · refine lv_aload_n hx hb d_X_onsets_18 rfl (lv_at hl 2 rfl) ?_
      refine xw_get F hh.1 (v := .ref fo) fl_X_32_0 0 rfl rfl d_X_onsets_19 ?_
      refine xw_get F hh.1 (v := .ref r) fl_X_91_4 1 rfl rfl d_X_onsets_22 ?_
      refine lv_iload_n hx hb d_X_onsets_25 rfl (lv_at hl 0 rfl) ?_
      refine lv_iconst (v := xi_ 0) hx hb d_X_onsets_26 rfl ?_
      have hi : 0 ≤ i ∧ i < cnt := by omega
      obtain ⟨rw, hrw⟩ : ∃ rw, row_ st.1 i = some rw := ⟨_, rr_rowi hrr hi⟩
      have hr0 := rr_vrng hrr hi hrw 0
      have hr1 := rr_vrng hrr hi hrw 1
      refine xw_cl (wc := [(r, .inr (3, [.int (xi_ (200 : Int)), .ref v, .ref ra, .int (xi_ cnt), .int (xi_ tm)])), (v, .inl (G.2.2 1, (200 * 5), .inr (.inl (jl_ vals)))), (ra, .inl (G.2.2 0, 200, .inl (ja_ rat)))]) (wr := [(xo, .inr (0, xo_ rd pa gs fo p1 p2 du fu pl sc ss tk)), (fo, .inr (4, [.ref r]))]) hh [2, 3, 4] [0, 1] rfl rfl rfl (by decide) (xw_rV F hh [2, 3, 4] rfl rfl (c_Rw_value l G H.size r v ra 200 cnt tm vals rat i 0 (by omega) (rr_rat hrr) (by omega) (by omega)) trivial lk_X_103 cd_Rw_value se_Rw_value _ hh.1 2 rfl rfl rfl rfl ⟨by decide, by decide⟩ rfl hl.1 rfl (Nat.le_of_ble_eq_true rfl) d_X_onsets_27 ⟨Nat.le_of_ble_eq_true rfl, Nat.le_of_ble_eq_true rfl⟩) (fun z27 u_ H locs hp27 hX hz hk hh => ?_)
      have hh : xw_H G A H0 H locs [(xo, .inr (0, xo_ rd pa gs fo p1 p2 du fu pl sc ss tk)), (fo, .inr (4, [.ref r])), (r, .inr (3, [.int (xi_ (200 : Int)), .ref v, .ref ra, .int (xi_ cnt), .int (xi_ tm)])), (v, .inl (G.2.2 1, (200 * 5), .inr (.inl (jl_ vals)))), (ra, .inl (G.2.2 0, 200, .inl (ja_ rat)))] := hh
      obtain rfl : z27 = col_ rw 0 := rr_val hrr hi hrw 0 (by decide) hp27
      refine lv_aload_n hx hb d_X_onsets_30 rfl (lv_at hl 2 rfl) ?_
      refine xw_get F hh.1 (v := .ref fo) fl_X_32_0 0 rfl rfl d_X_onsets_31 ?_
      refine xw_get F hh.1 (v := .ref r) fl_X_91_4 1 rfl rfl d_X_onsets_34 ?_
      refine lv_iload_n hx hb d_X_onsets_37 rfl (lv_at hl 0 rfl) ?_
      refine lv_iconst (v := xi_ 1) hx hb d_X_onsets_38 rfl ?_
      refine xw_cl (wc := [(r, .inr (3, [.int (xi_ (200 : Int)), .ref v, .ref ra, .int (xi_ cnt), .int (xi_ tm)])), (v, .inl (G.2.2 1, (200 * 5), .inr (.inl (jl_ vals)))), (ra, .inl (G.2.2 0, 200, .inl (ja_ rat)))]) (wr := [(xo, .inr (0, xo_ rd pa gs fo p1 p2 du fu pl sc ss tk)), (fo, .inr (4, [.ref r]))]) hh [2, 3, 4] [0, 1] rfl rfl rfl (by decide) (xw_rV F hh [2, 3, 4] rfl rfl (c_Rw_value l G H.size r v ra 200 cnt tm vals rat i 1 (by omega) (rr_rat hrr) (by omega) (by omega)) trivial lk_X_103 cd_Rw_value se_Rw_value _ hh.1 2 rfl rfl rfl rfl ⟨by decide, by decide⟩ rfl hl.1 rfl (Nat.le_of_ble_eq_true rfl) d_X_onsets_39 ⟨Nat.le_of_ble_eq_true rfl, Nat.le_of_ble_eq_true rfl⟩) (fun z39 u_ H locs hp39 hX hz hk hh => ?_)
      have hh : xw_H G A H0 H locs [(xo, .inr (0, xo_ rd pa gs fo p1 p2 du fu pl sc ss tk)), (fo, .inr (4, [.ref r])), (r, .inr (3, [.int (xi_ (200 : Int)), .ref v, .ref ra, .int (xi_ cnt), .int (xi_ tm)])), (v, .inl (G.2.2 1, (200 * 5), .inr (.inl (jl_ vals)))), (ra, .inl (G.2.2 0, 200, .inl (ja_ rat)))] := hh
      obtain rfl : z39 = col_ rw 1 := rr_val hrr hi hrw 1 (by decide) hp39
      refine xw_lcmp_ne hx hb 49 d_X_onsets_42 d_X_onsets_43 (by decide) (by omega) (fun c42 => ?_) (fun c42 => ?_)
      · refine lv_iinc (k := 0) (v := xi_ (i + 1)) (lv' := [(2, .int (xi_ (i + 1))), (1, .int (xi_ k)), (0, .ref xo)]) hx hb d_X_onsets_49 hl rfl (xi_add _ _).symm (by decide) rfl (fun ls hl => ?_)
        refine lv_goto (tgt := 4) hx hb d_X_onsets_52 (by decide) ?_
        refine ihn (i + 1) (k) ls H locs (by omega) (by omega) (by omega) ?_ (lv_sub hl [0, 1, 2] rfl) hh
        rw [show (i + 1).toNat = i.toNat + 1 by omega, ons_s (row_get hrw), ← hk9]
        rw [if_neg (show ¬ rw.1 = rw.2.1 from c42)]; omega
      · refine lv_iinc (k := 1) (v := xi_ (k + 1)) (lv' := [(1, .int (xi_ (k + 1))), (2, .int (xi_ i)), (0, .ref xo)]) hx hb d_X_onsets_46 hl rfl (xi_add _ _).symm (by decide) rfl (fun ls hl => ?_)
        refine lv_iinc (k := 1) (v := xi_ (i + 1)) (lv' := [(2, .int (xi_ (i + 1))), (1, .int (xi_ (k + 1))), (0, .ref xo)]) hx hb d_X_onsets_49 hl rfl (xi_add _ _).symm (by decide) rfl (fun ls hl => ?_)
        refine lv_goto (tgt := 4) hx hb d_X_onsets_52 (by decide) ?_
        refine ihn (i + 1) (k + 1) ls H locs (by omega) (by omega) (by omega) ?_ (lv_sub hl [0, 1, 2] rfl) hh
        rw [show (i + 1).toNat = i.toNat + 1 by omega, ons_s (row_get hrw), ← hk9]
        rw [if_pos (show rw.1 = rw.2.1 from c42)]
set_option maxHeartbeats 4000000 in
set_option maxRecDepth 100000 in
theorem c_X_onsets (l : Launch) (G : GG_) (sz : Nat) (xo rd pa gs fo p1 p2 du : Nat) (fu pl sc ss tk : Int) (r v ra : Nat) (cnt tm : Int) (vals rat : Nat → Int) (st : List Row_ × Bool) (hrr : rr_ 200 cnt tm vals rat st) : Met l y_X_onsets (cw_ y_X_onsets b_X_onsets 3 (some .int)) rm_X_onsets (xw_P G [.ref xo] sz [(xo, .inr (0, xo_ rd pa gs fo p1 p2 du fu pl sc ss tk)), (fo, .inr (4, [.ref r])), (r, .inr (3, [.int (xi_ (200 : Int)), .ref v, .ref ra, .int (xi_ cnt), .int (xi_ tm)])), (v, .inl (G.2.2 1, (200 * 5), .inr (.inl (jl_ vals)))), (ra, .inl (G.2.2 0, 200, .inl (ja_ rat)))] (fun _ => True)) (xw_Qi (S := Unit) G sz [(xo, .inr (0, xo_ rd pa gs fo p1 p2 du fu pl sc ss tk)), (fo, .inr (4, [.ref r])), (r, .inr (3, [.int (xi_ (200 : Int)), .ref v, .ref ra, .int (xi_ cnt), .int (xi_ tm)])), (v, .inl (G.2.2 1, (200 * 5), .inr (.inl (jl_ vals)))), (ra, .inl (G.2.2 0, 200, .inl (ja_ rat)))] (fun z _ => z = ons_ st.1) (fun _ => [(xo, .inr (0, xo_ rd pa gs fo p1 p2 du fu pl sc ss tk)), (fo, .inr (4, [.ref r])), (r, .inr (3, [.int (xi_ (200 : Int)), .ref v, .ref ra, .int (xi_ cnt), .int (xi_ tm)])), (v, .inl (G.2.2 1, (200 * 5), .inr (.inl (jl_ vals)))), (ra, .inl (G.2.2 0, 200, .inl (ja_ rat)))]) (fun _ _ => True)) 0 0 (va_A [(xo, .inr (0, xo_ rd pa gs fo p1 p2 du fu pl sc ss tk)), (fo, .inr (4, [.ref r])), (r, .inr (3, [.int (xi_ (200 : Int)), .ref v, .ref ra, .int (xi_ cnt), .int (xi_ tm)])), (v, .inl (G.2.2 1, (200 * 5), .inr (.inl (jl_ vals)))), (ra, .inl (G.2.2 0, 200, .inl (ja_ rat)))] sz) := by
  refine xw_met (by decide) (Nat.le_of_ble_eq_true rfl) ?_
  intro p0 e0 s m0 args below meth c0 F hr hlk hin hsz hh hX ls hl
  subst hsz
  have hx := F.1
  have hb := F.2.1
  have hl : lv_has ls 3 [(0, .ref xo)] := hl
  have hcnt : cnt = (st.1.length : Int) := hrr.1
  have hcl : (st.1.length : Int) ≤ 200 := by
    have := hrr.2.1.2.1
    omega
  refine lv_iconst (v := xi_ 0) hx hb d_X_onsets_0 rfl ?_
  refine lv_istore_n (lv' := [(1, .int (xi_ 0)), (0, .ref xo)]) hx hb d_X_onsets_1 rfl hl (by decide) rfl (fun ls hl => ?_)
  refine lv_iconst (v := xi_ 0) hx hb d_X_onsets_2 rfl ?_
  refine lv_istore_n (lv' := [(2, .int (xi_ 0)), (1, .int (xi_ 0)), (0, .ref xo)]) hx hb d_X_onsets_3 rfl hl (by decide) rfl (fun ls hl => ?_)
  refine lp_X_onsets F xo rd pa gs fo p1 p2 du fu pl sc ss tk r v ra cnt tm vals rat st hrr (fun k ls H locs hk9 hl hh => ?_) (cnt.toNat + 1) 0 0 ls s.heap _ (by omega) (by omega) (by omega) rfl (lv_sub hl [0, 1, 2] rfl) hh
  refine lv_iload_n hx hb d_X_onsets_55 rfl (lv_at hl 0 rfl) ?_
  exact xw_iret F hr hlk hh rfl () rfl (by exact hk9) trivial d_X_onsets_56
def rm_X_ticksItLasts : Room := { frames := 2, cells := 0, slots := 0, locals := 43 }
set_option maxHeartbeats 4000000 in
set_option maxRecDepth 100000 in
theorem c_X_ticksItLasts (l : Launch) (G : GG_) (sz : Nat) (xo rd pa gs fo p1 p2 du : Nat) (fu pl sc ss tk : Int) (gsf : Nat → Int) (slot tl : Int) (r v ra : Nat) (cnt tm : Int) (vals rat : Nat → Int) (st : List Row_ × Bool) (i : Int) (hiw : (-2147483648 ≤ i ∧ i ≤ 2147483647)) (hi : 0 ≤ i ∧ i < cnt) (rw : Row_) (hrw : row_ st.1 i = some rw) (hg : ∀ j : Nat, j < 8 → 1 ≤ gsf j ∧ gsf j ≤ 5040) (hsc : 0 ≤ sc ∧ sc ≤ 20) (hro : ∀ r ∈ st.1, 0 ≤ r.2.1 ∧ r.2.1 ≤ 7 ∧ -30000000000000 ≤ r.2.2.2.1 ∧ r.2.2.2.1 ≤ 30000000000000) (hrr : rr_ 100 cnt tm vals rat st) : Met l y_X_ticksItLasts (cw_ y_X_ticksItLasts b_X_ticksItLasts 5 (some .long)) rm_X_ticksItLasts (xw_P G [.ref xo, .int (xi_ i)] sz [(xo, .inr (0, xo_ rd pa gs fo p1 p2 du fu pl sc ss tk)), (gs, .inl (G.2.2 0, 8, .inl (ja_ gsf))), (du, .inr (5, [.ref r, .int (xi_ slot), .long (xl_ tl)])), (r, .inr (3, [.int (xi_ (100 : Int)), .ref v, .ref ra, .int (xi_ cnt), .int (xi_ tm)])), (v, .inl (G.2.2 1, (100 * 5), .inr (.inl (jl_ vals)))), (ra, .inl (G.2.2 0, 100, .inl (ja_ rat)))] (fun _ => True)) (xw_Ql (S := Unit) G sz [(xo, .inr (0, xo_ rd pa gs fo p1 p2 du fu pl sc ss tk)), (gs, .inl (G.2.2 0, 8, .inl (ja_ gsf))), (du, .inr (5, [.ref r, .int (xi_ slot), .long (xl_ tl)])), (r, .inr (3, [.int (xi_ (100 : Int)), .ref v, .ref ra, .int (xi_ cnt), .int (xi_ tm)])), (v, .inl (G.2.2 1, (100 * 5), .inr (.inl (jl_ vals)))), (ra, .inl (G.2.2 0, 100, .inl (ja_ rat)))] (fun z _ => z = lasts_ gsf sc rw) (fun _ => [(xo, .inr (0, xo_ rd pa gs fo p1 p2 du fu pl sc ss tk)), (gs, .inl (G.2.2 0, 8, .inl (ja_ gsf))), (du, .inr (5, [.ref r, .int (xi_ slot), .long (xl_ tl)])), (r, .inr (3, [.int (xi_ (100 : Int)), .ref v, .ref ra, .int (xi_ cnt), .int (xi_ tm)])), (v, .inl (G.2.2 1, (100 * 5), .inr (.inl (jl_ vals)))), (ra, .inl (G.2.2 0, 100, .inl (ja_ rat)))]) (fun _ _ => True)) 0 0 (va_A [(xo, .inr (0, xo_ rd pa gs fo p1 p2 du fu pl sc ss tk)), (gs, .inl (G.2.2 0, 8, .inl (ja_ gsf))), (du, .inr (5, [.ref r, .int (xi_ slot), .long (xl_ tl)])), (r, .inr (3, [.int (xi_ (100 : Int)), .ref v, .ref ra, .int (xi_ cnt), .int (xi_ tm)])), (v, .inl (G.2.2 1, (100 * 5), .inr (.inl (jl_ vals)))), (ra, .inl (G.2.2 0, 100, .inl (ja_ rat)))] sz) := by
  refine xw_met (by decide) (Nat.le_of_ble_eq_true rfl) ?_
  intro p0 e0 s m0 args below meth c0 F hr hlk hin hsz hh hX ls hl
  subst hsz
  have hx := F.1
  have hb := F.2.1
  have hl : lv_has ls 5 [(0, .ref xo), (1, .int (xi_ i))] := hl
  have hcnt : cnt = (st.1.length : Int) := hrr.1
  have hcl : (st.1.length : Int) ≤ 100 := by
    have := hrr.2.1.2.1
    omega
  have hr9 := hro rw (List.mem_of_getElem? (row_get hrw))
  have hc1 : 0 ≤ col_ rw 1 ∧ col_ rw 1 ≤ 7 := ⟨hr9.1, hr9.2.1⟩
  have hc3 : -30000000000000 ≤ col_ rw 3 ∧ col_ rw 3 ≤ 30000000000000 := hr9.2.2
  have hgj := hg (col_ rw 1).toNat (by omega)
  have hprod : 0 ≤ sc * gsf (col_ rw 1).toNat ∧ sc * gsf (col_ rw 1).toNat ≤ 20 * 5040 := ⟨Int.mul_nonneg (by omega) (by omega), Int.mul_le_mul (by omega) (by omega) (by omega) (by omega)⟩
  refine lv_aload_n hx hb d_X_ticksItLasts_0 rfl (lv_at hl 0 rfl) ?_
  refine xw_get F hh.1 (v := .ref du) fl_X_49_0 0 rfl rfl d_X_ticksItLasts_1 ?_
  refine xw_get F hh.1 (v := .ref r) fl_X_120_5 2 rfl rfl d_X_ticksItLasts_4 ?_
  refine lv_iload_n hx hb d_X_ticksItLasts_7 rfl (lv_at hl 1 rfl) ?_
  refine lv_iconst (v := xi_ 1) hx hb d_X_ticksItLasts_8 rfl ?_
  refine xw_cl (wc := [(r, .inr (3, [.int (xi_ (100 : Int)), .ref v, .ref ra, .int (xi_ cnt), .int (xi_ tm)])), (v, .inl (G.2.2 1, (100 * 5), .inr (.inl (jl_ vals)))), (ra, .inl (G.2.2 0, 100, .inl (ja_ rat)))]) (wr := [(xo, .inr (0, xo_ rd pa gs fo p1 p2 du fu pl sc ss tk)), (gs, .inl (G.2.2 0, 8, .inl (ja_ gsf))), (du, .inr (5, [.ref r, .int (xi_ slot), .long (xl_ tl)]))]) hh [3, 4, 5] [0, 1, 2] rfl rfl rfl (by decide) (xw_rV F hh [3, 4, 5] rfl rfl (c_Rw_value l G s.heap.size r v ra 100 cnt tm vals rat i 1 (by omega) (rr_rat hrr) (by omega) (by omega)) trivial lk_X_103 cd_Rw_value se_Rw_value _ hh.1 3 rfl rfl rfl rfl ⟨by decide, by decide⟩ rfl hl.1 rfl (Nat.le_of_ble_eq_true rfl) d_X_ticksItLasts_9 ⟨Nat.le_of_ble_eq_true rfl, Nat.le_of_ble_eq_true rfl⟩) (fun z9 u_ H locs hp9 hX hz hk hh => ?_)
  have hh : xw_H G (va_A [(xo, .inr (0, xo_ rd pa gs fo p1 p2 du fu pl sc ss tk)), (gs, .inl (G.2.2 0, 8, .inl (ja_ gsf))), (du, .inr (5, [.ref r, .int (xi_ slot), .long (xl_ tl)])), (r, .inr (3, [.int (xi_ (100 : Int)), .ref v, .ref ra, .int (xi_ cnt), .int (xi_ tm)])), (v, .inl (G.2.2 1, (100 * 5), .inr (.inl (jl_ vals)))), (ra, .inl (G.2.2 0, 100, .inl (ja_ rat)))] s.heap.size) s.heap H locs [(xo, .inr (0, xo_ rd pa gs fo p1 p2 du fu pl sc ss tk)), (gs, .inl (G.2.2 0, 8, .inl (ja_ gsf))), (du, .inr (5, [.ref r, .int (xi_ slot), .long (xl_ tl)])), (r, .inr (3, [.int (xi_ (100 : Int)), .ref v, .ref ra, .int (xi_ cnt), .int (xi_ tm)])), (v, .inl (G.2.2 1, (100 * 5), .inr (.inl (jl_ vals)))), (ra, .inl (G.2.2 0, 100, .inl (ja_ rat)))] := hh
  obtain rfl : z9 = col_ rw 1 := rr_val hrr hi hrw 1 (by decide) hp9
  refine xw_l2i hx hb d_X_ticksItLasts_12 ?_
  refine lv_istore_n (lv' := [(2, .int (xi_ (col_ rw 1))), (0, .ref xo), (1, .int (xi_ i))]) hx hb d_X_ticksItLasts_13 rfl hl (by decide) rfl (fun ls hl => ?_)
  refine lv_iload_n hx hb d_X_ticksItLasts_14 rfl (lv_at hl 0 rfl) ?_
  refine xw_cip hh (xw_rSp F (c_X_isSlot l G H.size (col_ rw 1) (by omega)) lk_X_63 cd_X_isSlot ss_X_isSlot rfl rfl ⟨by decide, by decide⟩ rfl hl.1 rfl (Nat.le_of_ble_eq_true rfl) d_X_ticksItLasts_15 ⟨Nat.le_of_ble_eq_true rfl, Nat.le_of_ble_eq_true rfl⟩) (fun z15 u H locs hp15 hz hk hh => ?_)
  obtain rfl : z15 = b2_ (decide (0 ≤ col_ rw 1 ∧ col_ rw 1 < 8)) := hp15
  refine xw_topi (y := 1) (b2_t (decide_eq_true (by omega))).symm ?_
  refine xw_if_eq hx hb 31 d_X_ticksItLasts_18 (by decide) (by decide) (fun c18 => absurd c18 (by decide)) (fun c18 => ?_)
  refine lv_aload_n hx hb d_X_ticksItLasts_21 rfl (lv_at hl 1 rfl) ?_
  refine lv_iload_n hx hb d_X_ticksItLasts_22 rfl (lv_at hl 0 rfl) ?_
  refine xw_cl (wc := [(xo, .inr (0, xo_ rd pa gs fo p1 p2 du fu pl sc ss tk)), (gs, .inl (G.2.2 0, 8, .inl (ja_ gsf)))]) (wr := [(du, .inr (5, [.ref r, .int (xi_ slot), .long (xl_ tl)])), (r, .inr (3, [.int (xi_ (100 : Int)), .ref v, .ref ra, .int (xi_ cnt), .int (xi_ tm)])), (v, .inl (G.2.2 1, (100 * 5), .inr (.inl (jl_ vals)))), (ra, .inl (G.2.2 0, 100, .inl (ja_ rat)))]) hh [0, 1] [2, 3, 4, 5] rfl rfl rfl (by decide) (xw_rV F hh [0, 1] rfl rfl (c_X_tickLength l G H.size xo rd pa gs fo p1 p2 du fu pl sc ss tk gsf (col_ rw 1) (by omega) hg hsc) trivial lk_X_138 cd_X_tickLength se_X_tickLength _ hh.1 0 rfl rfl rfl rfl ⟨by decide, by decide⟩ rfl hl.1 rfl (Nat.le_of_ble_eq_true rfl) d_X_ticksItLasts_23 ⟨Nat.le_of_ble_eq_true rfl, Nat.le_of_ble_eq_true rfl⟩) (fun z23 u_ H locs hp23 hX hz hk hh => ?_)
  have hh : xw_H G (va_A [(xo, .inr (0, xo_ rd pa gs fo p1 p2 du fu pl sc ss tk)), (gs, .inl (G.2.2 0, 8, .inl (ja_ gsf))), (du, .inr (5, [.ref r, .int (xi_ slot), .long (xl_ tl)])), (r, .inr (3, [.int (xi_ (100 : Int)), .ref v, .ref ra, .int (xi_ cnt), .int (xi_ tm)])), (v, .inl (G.2.2 1, (100 * 5), .inr (.inl (jl_ vals)))), (ra, .inl (G.2.2 0, 100, .inl (ja_ rat)))] s.heap.size) s.heap H locs [(xo, .inr (0, xo_ rd pa gs fo p1 p2 du fu pl sc ss tk)), (gs, .inl (G.2.2 0, 8, .inl (ja_ gsf))), (du, .inr (5, [.ref r, .int (xi_ slot), .long (xl_ tl)])), (r, .inr (3, [.int (xi_ (100 : Int)), .ref v, .ref ra, .int (xi_ cnt), .int (xi_ tm)])), (v, .inl (G.2.2 1, (100 * 5), .inr (.inl (jl_ vals)))), (ra, .inl (G.2.2 0, 100, .inl (ja_ rat)))] := xw_H.sub hh [4, 5, 0, 1, 2, 3] rfl rfl
  obtain rfl : z23 = sc * gsf (col_ rw 1).toNat := hp23
  refine lv_lconst (v := xl_ 1) hx hb d_X_ticksItLasts_26 (by decide) ?_
  refine xw_lcmp_ge hx hb 35 d_X_ticksItLasts_27 d_X_ticksItLasts_28 (by decide) (by omega) (fun c27 => ?_) (fun c27 => ?_)
  · refine lv_aload_n hx hb d_X_ticksItLasts_35 rfl (lv_at hl 1 rfl) ?_
    refine xw_get F hh.1 (v := .ref du) fl_X_49_0 0 rfl rfl d_X_ticksItLasts_36 ?_
    refine xw_get F hh.1 (v := .ref r) fl_X_120_5 2 rfl rfl d_X_ticksItLasts_39 ?_
    refine lv_iload_n hx hb d_X_ticksItLasts_42 rfl (lv_at hl 2 rfl) ?_
    refine lv_iconst (v := xi_ 3) hx hb d_X_ticksItLasts_43 rfl ?_
    refine xw_cl (wc := [(r, .inr (3, [.int (xi_ (100 : Int)), .ref v, .ref ra, .int (xi_ cnt), .int (xi_ tm)])), (v, .inl (G.2.2 1, (100 * 5), .inr (.inl (jl_ vals)))), (ra, .inl (G.2.2 0, 100, .inl (ja_ rat)))]) (wr := [(xo, .inr (0, xo_ rd pa gs fo p1 p2 du fu pl sc ss tk)), (gs, .inl (G.2.2 0, 8, .inl (ja_ gsf))), (du, .inr (5, [.ref r, .int (xi_ slot), .long (xl_ tl)]))]) hh [3, 4, 5] [0, 1, 2] rfl rfl rfl (by decide) (xw_rV F hh [3, 4, 5] rfl rfl (c_Rw_value l G H.size r v ra 100 cnt tm vals rat i 3 (by omega) (rr_rat hrr) (by omega) (by omega)) trivial lk_X_103 cd_Rw_value se_Rw_value _ hh.1 3 rfl rfl rfl rfl ⟨by decide, by decide⟩ rfl hl.1 rfl (Nat.le_of_ble_eq_true rfl) d_X_ticksItLasts_44 ⟨Nat.le_of_ble_eq_true rfl, Nat.le_of_ble_eq_true rfl⟩) (fun z44 u_ H locs hp44 hX hz hk hh => ?_)
    have hh : xw_H G (va_A [(xo, .inr (0, xo_ rd pa gs fo p1 p2 du fu pl sc ss tk)), (gs, .inl (G.2.2 0, 8, .inl (ja_ gsf))), (du, .inr (5, [.ref r, .int (xi_ slot), .long (xl_ tl)])), (r, .inr (3, [.int (xi_ (100 : Int)), .ref v, .ref ra, .int (xi_ cnt), .int (xi_ tm)])), (v, .inl (G.2.2 1, (100 * 5), .inr (.inl (jl_ vals)))), (ra, .inl (G.2.2 0, 100, .inl (ja_ rat)))] s.heap.size) s.heap H locs [(xo, .inr (0, xo_ rd pa gs fo p1 p2 du fu pl sc ss tk)), (gs, .inl (G.2.2 0, 8, .inl (ja_ gsf))), (du, .inr (5, [.ref r, .int (xi_ slot), .long (xl_ tl)])), (r, .inr (3, [.int (xi_ (100 : Int)), .ref v, .ref ra, .int (xi_ cnt), .int (xi_ tm)])), (v, .inl (G.2.2 1, (100 * 5), .inr (.inl (jl_ vals)))), (ra, .inl (G.2.2 0, 100, .inl (ja_ rat)))] := hh
    obtain rfl : z44 = col_ rw 3 := rr_val hrr hi hrw 3 (by decide) hp44
    refine lv_aload_n hx hb d_X_ticksItLasts_47 rfl (lv_at hl 1 rfl) ?_
    refine lv_iload_n hx hb d_X_ticksItLasts_48 rfl (lv_at hl 0 rfl) ?_
    refine xw_cl (wc := [(xo, .inr (0, xo_ rd pa gs fo p1 p2 du fu pl sc ss tk)), (gs, .inl (G.2.2 0, 8, .inl (ja_ gsf)))]) (wr := [(du, .inr (5, [.ref r, .int (xi_ slot), .long (xl_ tl)])), (r, .inr (3, [.int (xi_ (100 : Int)), .ref v, .ref ra, .int (xi_ cnt), .int (xi_ tm)])), (v, .inl (G.2.2 1, (100 * 5), .inr (.inl (jl_ vals)))), (ra, .inl (G.2.2 0, 100, .inl (ja_ rat)))]) hh [0, 1] [2, 3, 4, 5] rfl rfl rfl (by decide) (xw_rV F hh [0, 1] rfl rfl (c_X_tickLength l G H.size xo rd pa gs fo p1 p2 du fu pl sc ss tk gsf (col_ rw 1) (by omega) hg hsc) trivial lk_X_138 cd_X_tickLength se_X_tickLength _ hh.1 0 rfl rfl rfl rfl ⟨by decide, by decide⟩ rfl hl.1 rfl (Nat.le_of_ble_eq_true rfl) d_X_ticksItLasts_49 ⟨Nat.le_of_ble_eq_true rfl, Nat.le_of_ble_eq_true rfl⟩) (fun z49 u_ H locs hp49 hX hz hk hh => ?_)
    have hh : xw_H G (va_A [(xo, .inr (0, xo_ rd pa gs fo p1 p2 du fu pl sc ss tk)), (gs, .inl (G.2.2 0, 8, .inl (ja_ gsf))), (du, .inr (5, [.ref r, .int (xi_ slot), .long (xl_ tl)])), (r, .inr (3, [.int (xi_ (100 : Int)), .ref v, .ref ra, .int (xi_ cnt), .int (xi_ tm)])), (v, .inl (G.2.2 1, (100 * 5), .inr (.inl (jl_ vals)))), (ra, .inl (G.2.2 0, 100, .inl (ja_ rat)))] s.heap.size) s.heap H locs [(xo, .inr (0, xo_ rd pa gs fo p1 p2 du fu pl sc ss tk)), (gs, .inl (G.2.2 0, 8, .inl (ja_ gsf))), (du, .inr (5, [.ref r, .int (xi_ slot), .long (xl_ tl)])), (r, .inr (3, [.int (xi_ (100 : Int)), .ref v, .ref ra, .int (xi_ cnt), .int (xi_ tm)])), (v, .inl (G.2.2 1, (100 * 5), .inr (.inl (jl_ vals)))), (ra, .inl (G.2.2 0, 100, .inl (ja_ rat)))] := xw_H.sub hh [4, 5, 0, 1, 2, 3] rfl rfl
    obtain rfl : z49 = sc * gsf (col_ rw 1).toNat := hp49
    refine xw_clp hh (xw_rSp F (c_Jm_floorDiv l G H.size (col_ rw 3) (sc * gsf (col_ rw 1).toNat) (by omega)) lk_X_154 cd_Jm_floorDiv ss_Jm_floorDiv rfl rfl ⟨by decide, by decide⟩ rfl hl.1 rfl (Nat.le_of_ble_eq_true rfl) d_X_ticksItLasts_52 ⟨Nat.le_of_ble_eq_true rfl, Nat.le_of_ble_eq_true rfl⟩) (fun z52 u H locs hp52 hz hk hh => ?_)
    obtain rfl : z52 = col_ rw 3 / (sc * gsf (col_ rw 1).toNat) := hp52
    refine lv_lstore_n (lv' := [(3, .long (xl_ (col_ rw 3 / (sc * gsf (col_ rw 1).toNat)))), (2, .int (xi_ (col_ rw 1))), (0, .ref xo), (1, .int (xi_ i))]) hx hb d_X_ticksItLasts_55 rfl hl (by decide) rfl (fun ls hl => ?_)
    refine lv_lload_n hx hb d_X_ticksItLasts_56 rfl (lv_at hl 0 rfl) ?_
    refine lv_aload_n hx hb d_X_ticksItLasts_57 rfl (lv_at hl 2 rfl) ?_
    refine xw_get F hh.1 (v := .ref du) fl_X_49_0 0 rfl rfl d_X_ticksItLasts_58 ?_
    refine xw_get F hh.1 (v := .ref r) fl_X_120_5 2 rfl rfl d_X_ticksItLasts_61 ?_
    refine lv_iload_n hx hb d_X_ticksItLasts_64 rfl (lv_at hl 3 rfl) ?_
    refine lv_iconst (v := xi_ 0) hx hb d_X_ticksItLasts_65 rfl ?_
    refine xw_cl (wc := [(r, .inr (3, [.int (xi_ (100 : Int)), .ref v, .ref ra, .int (xi_ cnt), .int (xi_ tm)])), (v, .inl (G.2.2 1, (100 * 5), .inr (.inl (jl_ vals)))), (ra, .inl (G.2.2 0, 100, .inl (ja_ rat)))]) (wr := [(xo, .inr (0, xo_ rd pa gs fo p1 p2 du fu pl sc ss tk)), (gs, .inl (G.2.2 0, 8, .inl (ja_ gsf))), (du, .inr (5, [.ref r, .int (xi_ slot), .long (xl_ tl)]))]) hh [3, 4, 5] [0, 1, 2] rfl rfl rfl (by decide) (xw_rV F hh [3, 4, 5] rfl rfl (c_Rw_value l G H.size r v ra 100 cnt tm vals rat i 0 (by omega) (rr_rat hrr) (by omega) (by omega)) trivial lk_X_103 cd_Rw_value se_Rw_value _ hh.1 3 rfl rfl rfl rfl ⟨by decide, by decide⟩ rfl hl.1 rfl (Nat.le_of_ble_eq_true rfl) d_X_ticksItLasts_66 ⟨Nat.le_of_ble_eq_true rfl, Nat.le_of_ble_eq_true rfl⟩) (fun z66 u_ H locs hp66 hX hz hk hh => ?_)
    have hh : xw_H G (va_A [(xo, .inr (0, xo_ rd pa gs fo p1 p2 du fu pl sc ss tk)), (gs, .inl (G.2.2 0, 8, .inl (ja_ gsf))), (du, .inr (5, [.ref r, .int (xi_ slot), .long (xl_ tl)])), (r, .inr (3, [.int (xi_ (100 : Int)), .ref v, .ref ra, .int (xi_ cnt), .int (xi_ tm)])), (v, .inl (G.2.2 1, (100 * 5), .inr (.inl (jl_ vals)))), (ra, .inl (G.2.2 0, 100, .inl (ja_ rat)))] s.heap.size) s.heap H locs [(xo, .inr (0, xo_ rd pa gs fo p1 p2 du fu pl sc ss tk)), (gs, .inl (G.2.2 0, 8, .inl (ja_ gsf))), (du, .inr (5, [.ref r, .int (xi_ slot), .long (xl_ tl)])), (r, .inr (3, [.int (xi_ (100 : Int)), .ref v, .ref ra, .int (xi_ cnt), .int (xi_ tm)])), (v, .inl (G.2.2 1, (100 * 5), .inr (.inl (jl_ vals)))), (ra, .inl (G.2.2 0, 100, .inl (ja_ rat)))] := hh
    obtain rfl : z66 = col_ rw 0 := rr_val hrr hi hrw 0 (by decide) hp66
    refine xw_lsub hx hb d_X_ticksItLasts_69 ?_
    exact xw_lret F hr hlk hh () rfl (by
      unfold lasts_
      exact (if_neg (show ¬ sc * gsf (col_ rw 1).toNat < 1 by omega)).symm) trivial d_X_ticksItLasts_70
  · refine lv_ldc2 (v := xl_ (-1)) hx hb F.2.2.2.1 (F.2.2.2.2.1 _ k_X_152) d_X_ticksItLasts_31 ?_
    exact xw_lret F hr hlk hh () rfl (by
      unfold lasts_
      exact (if_pos c27).symm) trivial d_X_ticksItLasts_34
def rm_X_due : Room := { frames := 3, cells := 0, slots := 0, locals := 67 }
set_option maxHeartbeats 4000000 in
set_option maxRecDepth 100000 in
theorem c_X_due (l : Launch) (G : GG_) (sz : Nat) (xo rd pa gs fo p1 p2 du : Nat) (fu pl sc ss tk : Int) (gsf : Nat → Int) (slot tl : Int) (r v ra : Nat) (cnt tm : Int) (vals rat : Nat → Int) (st : List Row_ × Bool) (i w : Int) (hiw : (-2147483648 ≤ i ∧ i ≤ 2147483647) ∧ (-2147483648 ≤ w ∧ w ≤ 2147483647)) (hg : ∀ j : Nat, j < 8 → 1 ≤ gsf j ∧ gsf j ≤ 5040) (hsc : 0 ≤ sc ∧ sc ≤ 20) (hro : ∀ r ∈ st.1, 0 ≤ r.2.1 ∧ r.2.1 ≤ 7 ∧ -30000000000000 ≤ r.2.2.2.1 ∧ r.2.2.2.1 ≤ 30000000000000) (hrr : rr_ 100 cnt tm vals rat st) : Met l y_X_due (cw_ y_X_due b_X_due 3 (some .int)) rm_X_due (xw_P G [.ref xo, .int (xi_ i), .int (xi_ w)] sz [(xo, .inr (0, xo_ rd pa gs fo p1 p2 du fu pl sc ss tk)), (gs, .inl (G.2.2 0, 8, .inl (ja_ gsf))), (du, .inr (5, [.ref r, .int (xi_ slot), .long (xl_ tl)])), (r, .inr (3, [.int (xi_ (100 : Int)), .ref v, .ref ra, .int (xi_ cnt), .int (xi_ tm)])), (v, .inl (G.2.2 1, (100 * 5), .inr (.inl (jl_ vals)))), (ra, .inl (G.2.2 0, 100, .inl (ja_ rat)))] (fun _ => True)) (xw_Qi (S := Unit) G sz [(xo, .inr (0, xo_ rd pa gs fo p1 p2 du fu pl sc ss tk)), (gs, .inl (G.2.2 0, 8, .inl (ja_ gsf))), (du, .inr (5, [.ref r, .int (xi_ slot), .long (xl_ tl)])), (r, .inr (3, [.int (xi_ (100 : Int)), .ref v, .ref ra, .int (xi_ cnt), .int (xi_ tm)])), (v, .inl (G.2.2 1, (100 * 5), .inr (.inl (jl_ vals)))), (ra, .inl (G.2.2 0, 100, .inl (ja_ rat)))] (fun z _ => z = due_ gsf sc st.1 i w) (fun _ => [(xo, .inr (0, xo_ rd pa gs fo p1 p2 du fu pl sc ss tk)), (gs, .inl (G.2.2 0, 8, .inl (ja_ gsf))), (du, .inr (5, [.ref r, .int (xi_ slot), .long (xl_ tl)])), (r, .inr (3, [.int (xi_ (100 : Int)), .ref v, .ref ra, .int (xi_ cnt), .int (xi_ tm)])), (v, .inl (G.2.2 1, (100 * 5), .inr (.inl (jl_ vals)))), (ra, .inl (G.2.2 0, 100, .inl (ja_ rat)))]) (fun _ _ => True)) 0 0 (va_A [(xo, .inr (0, xo_ rd pa gs fo p1 p2 du fu pl sc ss tk)), (gs, .inl (G.2.2 0, 8, .inl (ja_ gsf))), (du, .inr (5, [.ref r, .int (xi_ slot), .long (xl_ tl)])), (r, .inr (3, [.int (xi_ (100 : Int)), .ref v, .ref ra, .int (xi_ cnt), .int (xi_ tm)])), (v, .inl (G.2.2 1, (100 * 5), .inr (.inl (jl_ vals)))), (ra, .inl (G.2.2 0, 100, .inl (ja_ rat)))] sz) := by
  refine xw_met (by decide) (Nat.le_of_ble_eq_true rfl) ?_
  intro p0 e0 s m0 args below meth c0 F hr hlk hin hsz hh hX ls hl
  subst hsz
  have hx := F.1
  have hb := F.2.1
  have hl : lv_has ls 3 [(0, .ref xo), (1, .int (xi_ i)), (2, .int (xi_ w))] := hl
  have hcnt : cnt = (st.1.length : Int) := hrr.1
  have hcl : (st.1.length : Int) ≤ 100 := by
    have := hrr.2.1.2.1
    omega
  refine lv_aload_n hx hb d_X_due_0 rfl (lv_at hl 0 rfl) ?_
  refine xw_get F hh.1 (v := .ref du) fl_X_49_0 0 rfl rfl d_X_due_1 ?_
  refine xw_get F hh.1 (v := .ref r) fl_X_120_5 2 rfl rfl d_X_due_4 ?_
  refine lv_iload_n hx hb d_X_due_7 rfl (lv_at hl 1 rfl) ?_
  refine xw_ci (wc := [(r, .inr (3, [.int (xi_ (100 : Int)), .ref v, .ref ra, .int (xi_ cnt), .int (xi_ tm)]))]) (wr := [(xo, .inr (0, xo_ rd pa gs fo p1 p2 du fu pl sc ss tk)), (gs, .inl (G.2.2 0, 8, .inl (ja_ gsf))), (du, .inr (5, [.ref r, .int (xi_ slot), .long (xl_ tl)])), (v, .inl (G.2.2 1, (100 * 5), .inr (.inl (jl_ vals)))), (ra, .inl (G.2.2 0, 100, .inl (ja_ rat)))]) hh [3] [0, 1, 2, 4, 5] rfl rfl rfl (by decide) (xw_rV F hh [3] rfl rfl (c_Rw_has l G s.heap.size r v ra 100 cnt tm i (by omega) (by omega)) trivial lk_X_100 cd_Rw_has se_Rw_has _ hh.1 3 rfl rfl rfl rfl ⟨by decide, by decide⟩ rfl hl.1 rfl (Nat.le_of_ble_eq_true rfl) d_X_due_8 ⟨Nat.le_of_ble_eq_true rfl, Nat.le_of_ble_eq_true rfl⟩) (fun z8 u_ H locs hp8 hX hz hk hh => ?_)
  have hh : xw_H G (va_A [(xo, .inr (0, xo_ rd pa gs fo p1 p2 du fu pl sc ss tk)), (gs, .inl (G.2.2 0, 8, .inl (ja_ gsf))), (du, .inr (5, [.ref r, .int (xi_ slot), .long (xl_ tl)])), (r, .inr (3, [.int (xi_ (100 : Int)), .ref v, .ref ra, .int (xi_ cnt), .int (xi_ tm)])), (v, .inl (G.2.2 1, (100 * 5), .inr (.inl (jl_ vals)))), (ra, .inl (G.2.2 0, 100, .inl (ja_ rat)))] s.heap.size) s.heap H locs [(xo, .inr (0, xo_ rd pa gs fo p1 p2 du fu pl sc ss tk)), (gs, .inl (G.2.2 0, 8, .inl (ja_ gsf))), (du, .inr (5, [.ref r, .int (xi_ slot), .long (xl_ tl)])), (r, .inr (3, [.int (xi_ (100 : Int)), .ref v, .ref ra, .int (xi_ cnt), .int (xi_ tm)])), (v, .inl (G.2.2 1, (100 * 5), .inr (.inl (jl_ vals)))), (ra, .inl (G.2.2 0, 100, .inl (ja_ rat)))] := xw_H.sub hh [0, 1, 2, 5, 3, 4] rfl rfl
  obtain rfl : z8 = b2_ (decide (0 ≤ i ∧ i < cnt)) := hp8
  have hhb := b2_01 (decide (0 ≤ i ∧ i < cnt))
  refine xw_if_ne hx hb 16 d_X_due_11 (by decide) (by omega) (fun c11 => ?_) (fun c11 => ?_)
  · refine lv_iload_n hx hb d_X_due_16 rfl (lv_at hl 2 rfl) ?_
    have hi : 0 ≤ i ∧ i < cnt := of_decide_eq_true (b2_ne c11)
    obtain ⟨rw, hrw⟩ : ∃ rw, row_ st.1 i = some rw := ⟨_, rr_rowi hrr hi⟩
    by_cases hw0 : w = 0
    · refine lv_tableIn (off := 31) (tgt := 48) hx hb d_X_due_17 (by rw [hw0]; decide) (by rw [hw0]; decide) (by rw [hw0]; decide) (by decide) ?_
      refine lv_aload_n hx hb d_X_due_48 rfl (lv_at hl 0 rfl) ?_
      refine xw_get F hh.1 (v := .ref du) fl_X_49_0 0 rfl rfl d_X_due_49 ?_
      refine xw_get F hh.1 (v := .ref r) fl_X_120_5 2 rfl rfl d_X_due_52 ?_
      refine lv_iload_n hx hb d_X_due_55 rfl (lv_at hl 1 rfl) ?_
      refine lv_iconst (v := xi_ 0) hx hb d_X_due_56 rfl ?_
      refine xw_cl (wc := [(r, .inr (3, [.int (xi_ (100 : Int)), .ref v, .ref ra, .int (xi_ cnt), .int (xi_ tm)])), (v, .inl (G.2.2 1, (100 * 5), .inr (.inl (jl_ vals)))), (ra, .inl (G.2.2 0, 100, .inl (ja_ rat)))]) (wr := [(xo, .inr (0, xo_ rd pa gs fo p1 p2 du fu pl sc ss tk)), (gs, .inl (G.2.2 0, 8, .inl (ja_ gsf))), (du, .inr (5, [.ref r, .int (xi_ slot), .long (xl_ tl)]))]) hh [3, 4, 5] [0, 1, 2] rfl rfl rfl (by decide) (xw_rV F hh [3, 4, 5] rfl rfl (c_Rw_value l G H.size r v ra 100 cnt tm vals rat i 0 (by omega) (rr_rat hrr) (by omega) (by omega)) trivial lk_X_103 cd_Rw_value se_Rw_value _ hh.1 3 rfl rfl rfl rfl ⟨by decide, by decide⟩ rfl hl.1 rfl (Nat.le_of_ble_eq_true rfl) d_X_due_57 ⟨Nat.le_of_ble_eq_true rfl, Nat.le_of_ble_eq_true rfl⟩) (fun z57 u_ H locs hp57 hX hz hk hh => ?_)
      have hh : xw_H G (va_A [(xo, .inr (0, xo_ rd pa gs fo p1 p2 du fu pl sc ss tk)), (gs, .inl (G.2.2 0, 8, .inl (ja_ gsf))), (du, .inr (5, [.ref r, .int (xi_ slot), .long (xl_ tl)])), (r, .inr (3, [.int (xi_ (100 : Int)), .ref v, .ref ra, .int (xi_ cnt), .int (xi_ tm)])), (v, .inl (G.2.2 1, (100 * 5), .inr (.inl (jl_ vals)))), (ra, .inl (G.2.2 0, 100, .inl (ja_ rat)))] s.heap.size) s.heap H locs [(xo, .inr (0, xo_ rd pa gs fo p1 p2 du fu pl sc ss tk)), (gs, .inl (G.2.2 0, 8, .inl (ja_ gsf))), (du, .inr (5, [.ref r, .int (xi_ slot), .long (xl_ tl)])), (r, .inr (3, [.int (xi_ (100 : Int)), .ref v, .ref ra, .int (xi_ cnt), .int (xi_ tm)])), (v, .inl (G.2.2 1, (100 * 5), .inr (.inl (jl_ vals)))), (ra, .inl (G.2.2 0, 100, .inl (ja_ rat)))] := hh
      obtain rfl : z57 = col_ rw 0 := rr_val hrr hi hrw 0 (by decide) hp57
      refine xw_l2i hx hb d_X_due_60 ?_
      exact xw_iret F hr hlk hh rfl () rfl (by
        unfold due_
        rw [hrw]
        show _ = if _ then _ else _
        rw [if_pos hw0]
        try rfl
        try exact hl95) trivial d_X_due_61
    by_cases hw1 : w = 1
    · refine lv_tableIn (off := 45) (tgt := 62) hx hb d_X_due_17 (by rw [hw1]; decide) (by rw [hw1]; decide) (by rw [hw1]; decide) (by decide) ?_
      refine lv_aload_n hx hb d_X_due_62 rfl (lv_at hl 0 rfl) ?_
      refine xw_get F hh.1 (v := .ref du) fl_X_49_0 0 rfl rfl d_X_due_63 ?_
      refine xw_get F hh.1 (v := .ref r) fl_X_120_5 2 rfl rfl d_X_due_66 ?_
      refine lv_iload_n hx hb d_X_due_69 rfl (lv_at hl 1 rfl) ?_
      refine lv_iconst (v := xi_ 1) hx hb d_X_due_70 rfl ?_
      refine xw_cl (wc := [(r, .inr (3, [.int (xi_ (100 : Int)), .ref v, .ref ra, .int (xi_ cnt), .int (xi_ tm)])), (v, .inl (G.2.2 1, (100 * 5), .inr (.inl (jl_ vals)))), (ra, .inl (G.2.2 0, 100, .inl (ja_ rat)))]) (wr := [(xo, .inr (0, xo_ rd pa gs fo p1 p2 du fu pl sc ss tk)), (gs, .inl (G.2.2 0, 8, .inl (ja_ gsf))), (du, .inr (5, [.ref r, .int (xi_ slot), .long (xl_ tl)]))]) hh [3, 4, 5] [0, 1, 2] rfl rfl rfl (by decide) (xw_rV F hh [3, 4, 5] rfl rfl (c_Rw_value l G H.size r v ra 100 cnt tm vals rat i 1 (by omega) (rr_rat hrr) (by omega) (by omega)) trivial lk_X_103 cd_Rw_value se_Rw_value _ hh.1 3 rfl rfl rfl rfl ⟨by decide, by decide⟩ rfl hl.1 rfl (Nat.le_of_ble_eq_true rfl) d_X_due_71 ⟨Nat.le_of_ble_eq_true rfl, Nat.le_of_ble_eq_true rfl⟩) (fun z71 u_ H locs hp71 hX hz hk hh => ?_)
      have hh : xw_H G (va_A [(xo, .inr (0, xo_ rd pa gs fo p1 p2 du fu pl sc ss tk)), (gs, .inl (G.2.2 0, 8, .inl (ja_ gsf))), (du, .inr (5, [.ref r, .int (xi_ slot), .long (xl_ tl)])), (r, .inr (3, [.int (xi_ (100 : Int)), .ref v, .ref ra, .int (xi_ cnt), .int (xi_ tm)])), (v, .inl (G.2.2 1, (100 * 5), .inr (.inl (jl_ vals)))), (ra, .inl (G.2.2 0, 100, .inl (ja_ rat)))] s.heap.size) s.heap H locs [(xo, .inr (0, xo_ rd pa gs fo p1 p2 du fu pl sc ss tk)), (gs, .inl (G.2.2 0, 8, .inl (ja_ gsf))), (du, .inr (5, [.ref r, .int (xi_ slot), .long (xl_ tl)])), (r, .inr (3, [.int (xi_ (100 : Int)), .ref v, .ref ra, .int (xi_ cnt), .int (xi_ tm)])), (v, .inl (G.2.2 1, (100 * 5), .inr (.inl (jl_ vals)))), (ra, .inl (G.2.2 0, 100, .inl (ja_ rat)))] := hh
      obtain rfl : z71 = col_ rw 1 := rr_val hrr hi hrw 1 (by decide) hp71
      refine xw_l2i hx hb d_X_due_74 ?_
      exact xw_iret F hr hlk hh rfl () rfl (by
        unfold due_
        rw [hrw]
        show _ = if _ then _ else _
        rw [if_neg hw0, if_pos hw1]
        try rfl
        try exact hl95) trivial d_X_due_75
    by_cases hw2 : w = 2
    · refine lv_tableIn (off := 59) (tgt := 76) hx hb d_X_due_17 (by rw [hw2]; decide) (by rw [hw2]; decide) (by rw [hw2]; decide) (by decide) ?_
      refine lv_aload_n hx hb d_X_due_76 rfl (lv_at hl 0 rfl) ?_
      refine xw_get F hh.1 (v := .ref du) fl_X_49_0 0 rfl rfl d_X_due_77 ?_
      refine xw_get F hh.1 (v := .ref r) fl_X_120_5 2 rfl rfl d_X_due_80 ?_
      refine lv_iload_n hx hb d_X_due_83 rfl (lv_at hl 1 rfl) ?_
      refine lv_iconst (v := xi_ 4) hx hb d_X_due_84 rfl ?_
      refine xw_cl (wc := [(r, .inr (3, [.int (xi_ (100 : Int)), .ref v, .ref ra, .int (xi_ cnt), .int (xi_ tm)])), (v, .inl (G.2.2 1, (100 * 5), .inr (.inl (jl_ vals)))), (ra, .inl (G.2.2 0, 100, .inl (ja_ rat)))]) (wr := [(xo, .inr (0, xo_ rd pa gs fo p1 p2 du fu pl sc ss tk)), (gs, .inl (G.2.2 0, 8, .inl (ja_ gsf))), (du, .inr (5, [.ref r, .int (xi_ slot), .long (xl_ tl)]))]) hh [3, 4, 5] [0, 1, 2] rfl rfl rfl (by decide) (xw_rV F hh [3, 4, 5] rfl rfl (c_Rw_value l G H.size r v ra 100 cnt tm vals rat i 4 (by omega) (rr_rat hrr) (by omega) (by omega)) trivial lk_X_103 cd_Rw_value se_Rw_value _ hh.1 3 rfl rfl rfl rfl ⟨by decide, by decide⟩ rfl hl.1 rfl (Nat.le_of_ble_eq_true rfl) d_X_due_85 ⟨Nat.le_of_ble_eq_true rfl, Nat.le_of_ble_eq_true rfl⟩) (fun z85 u_ H locs hp85 hX hz hk hh => ?_)
      have hh : xw_H G (va_A [(xo, .inr (0, xo_ rd pa gs fo p1 p2 du fu pl sc ss tk)), (gs, .inl (G.2.2 0, 8, .inl (ja_ gsf))), (du, .inr (5, [.ref r, .int (xi_ slot), .long (xl_ tl)])), (r, .inr (3, [.int (xi_ (100 : Int)), .ref v, .ref ra, .int (xi_ cnt), .int (xi_ tm)])), (v, .inl (G.2.2 1, (100 * 5), .inr (.inl (jl_ vals)))), (ra, .inl (G.2.2 0, 100, .inl (ja_ rat)))] s.heap.size) s.heap H locs [(xo, .inr (0, xo_ rd pa gs fo p1 p2 du fu pl sc ss tk)), (gs, .inl (G.2.2 0, 8, .inl (ja_ gsf))), (du, .inr (5, [.ref r, .int (xi_ slot), .long (xl_ tl)])), (r, .inr (3, [.int (xi_ (100 : Int)), .ref v, .ref ra, .int (xi_ cnt), .int (xi_ tm)])), (v, .inl (G.2.2 1, (100 * 5), .inr (.inl (jl_ vals)))), (ra, .inl (G.2.2 0, 100, .inl (ja_ rat)))] := hh
      obtain rfl : z85 = col_ rw 4 := rr_val hrr hi hrw 4 (by decide) hp85
      refine xw_l2i hx hb d_X_due_88 ?_
      exact xw_iret F hr hlk hh rfl () rfl (by
        unfold due_
        rw [hrw]
        show _ = if _ then _ else _
        rw [if_neg hw0, if_neg hw1, if_pos hw2]
        try rfl
        try exact hl95) trivial d_X_due_89
    by_cases hw3 : w = 3
    · refine lv_tableIn (off := 73) (tgt := 90) hx hb d_X_due_17 (by rw [hw3]; decide) (by rw [hw3]; decide) (by rw [hw3]; decide) (by decide) ?_
      refine lv_aload_n hx hb d_X_due_90 rfl (lv_at hl 0 rfl) ?_
      refine lv_iload_n hx hb d_X_due_91 rfl (lv_at hl 1 rfl) ?_
      refine xw_cl (wc := [(xo, .inr (0, xo_ rd pa gs fo p1 p2 du fu pl sc ss tk)), (gs, .inl (G.2.2 0, 8, .inl (ja_ gsf))), (du, .inr (5, [.ref r, .int (xi_ slot), .long (xl_ tl)])), (r, .inr (3, [.int (xi_ (100 : Int)), .ref v, .ref ra, .int (xi_ cnt), .int (xi_ tm)])), (v, .inl (G.2.2 1, (100 * 5), .inr (.inl (jl_ vals)))), (ra, .inl (G.2.2 0, 100, .inl (ja_ rat)))]) (wr := []) hh [0, 1, 2, 3, 4, 5] [] rfl rfl rfl (by decide) (xw_rV F hh [0, 1, 2, 3, 4, 5] rfl rfl (c_X_ticksItLasts l G H.size xo rd pa gs fo p1 p2 du fu pl sc ss tk gsf slot tl r v ra cnt tm vals rat st i (by omega) hi rw hrw hg hsc hro hrr) trivial lk_X_134 cd_X_ticksItLasts se_X_ticksItLasts _ hh.1 0 rfl rfl rfl rfl ⟨by decide, by decide⟩ rfl hl.1 rfl (Nat.le_of_ble_eq_true rfl) d_X_due_92 ⟨Nat.le_of_ble_eq_true rfl, Nat.le_of_ble_eq_true rfl⟩) (fun z92 u_ H locs hp92 hX hz hk hh => ?_)
      have hh : xw_H G (va_A [(xo, .inr (0, xo_ rd pa gs fo p1 p2 du fu pl sc ss tk)), (gs, .inl (G.2.2 0, 8, .inl (ja_ gsf))), (du, .inr (5, [.ref r, .int (xi_ slot), .long (xl_ tl)])), (r, .inr (3, [.int (xi_ (100 : Int)), .ref v, .ref ra, .int (xi_ cnt), .int (xi_ tm)])), (v, .inl (G.2.2 1, (100 * 5), .inr (.inl (jl_ vals)))), (ra, .inl (G.2.2 0, 100, .inl (ja_ rat)))] s.heap.size) s.heap H locs [(xo, .inr (0, xo_ rd pa gs fo p1 p2 du fu pl sc ss tk)), (gs, .inl (G.2.2 0, 8, .inl (ja_ gsf))), (du, .inr (5, [.ref r, .int (xi_ slot), .long (xl_ tl)])), (r, .inr (3, [.int (xi_ (100 : Int)), .ref v, .ref ra, .int (xi_ cnt), .int (xi_ tm)])), (v, .inl (G.2.2 1, (100 * 5), .inr (.inl (jl_ vals)))), (ra, .inl (G.2.2 0, 100, .inl (ja_ rat)))] := hh
      obtain rfl : z92 = lasts_ gsf sc rw := hp92
      refine xw_l2i hx hb d_X_due_95 ?_
      exact xw_iret F hr hlk hh rfl () rfl (by
        unfold due_
        rw [hrw]
        show _ = if _ then _ else _
        rw [if_neg hw0, if_neg hw1, if_neg hw2, if_pos hw3]
        try rfl
        try exact hl95) trivial d_X_due_96
    refine lv_tableOut (tgt := 97) hx hb d_X_due_17 (by rw [xi_toInt (by omega)]; omega) (by decide) ?_
    refine lv_iconst (v := xi_ (-1)) hx hb d_X_due_97 rfl ?_
    exact xw_iret F hr hlk hh rfl () rfl (by
      unfold due_
      rw [hrw]
      show _ = if _ then _ else _
      rw [if_neg hw0, if_neg hw1, if_neg hw2, if_neg hw3]
      try rfl
      try exact hl95) trivial d_X_due_98
  · refine lv_iconst (v := xi_ (-1)) hx hb d_X_due_14 rfl ?_
    exact xw_iret F hr hlk hh rfl () rfl (by
      unfold due_
      rw [row_out (fun q => of_decide_eq_false (b2_e0 c11) (by omega))]) trivial d_X_due_15
