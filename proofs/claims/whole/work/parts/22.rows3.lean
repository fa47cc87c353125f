/-! Rows: its constructor, sameAs -/
def rm_Rw_init (lim : Nat) : Room := { frames := 1, cells := 2, slots := lim * 6, locals := 23 }
set_option maxHeartbeats 4000000 in
set_option maxRecDepth 100000 in
theorem c_Rw_init (l : Launch) (G : GG_) (sz : Nat) (r lim : Nat) (hlim : (lim : Int) ≤ 200) : Met l y_Rw_init (cw_ y_Rw_init b_Rw_init 2 none) (rm_Rw_init lim) (xw_P G [.ref r, .int (xi_ (lim : Int))] sz [(r, .inr (3, [.int (xi_ 0), .null, .null, .int (xi_ 0), .int (xi_ 0)]))] (fun _ => True)) (xw_Qv (S := Nat × Nat) G sz [(r, .inr (3, [.int (xi_ 0), .null, .null, .int (xi_ 0), .int (xi_ 0)]))] (fun _ => True) (fun u => [(r, .inr (3, [.int (xi_ (lim : Int)), .ref u.1, .ref u.2, .int (xi_ 0), .int (xi_ 0)])), (u.1, .inl (G.2.2 1, (lim * 5), .inr (.inl (jl_ (fun _ => 0))))), (u.2, .inl (G.2.2 0, lim, .inl (ja_ (fun _ => 0))))]) (fun _ _ => True)) 2 (lim * 6) (va_A [(r, .inr (3, [.int (xi_ 0), .null, .null, .int (xi_ 0), .int (xi_ 0)]))] sz) := by
  refine xw_met (by decide) (Nat.le_of_ble_eq_true rfl) ?_
  intro p e s m args below meth c F hr hlk hin hsz hh hX ls hl
  subst hsz
  have hx := F.1
  have hb := F.2.1
  have hl : lv_has ls 2 [(0, .ref r), (1, .int (xi_ (lim : Int)))] := hl
  refine lv_aload_n hx hb d_Rw_init_0 rfl (lv_at hl 0 rfl) ?_
  refine xw_obj F hl.1 lk_Rw_1' (by unfold rm_Rw_init; first | omega | (simp only []; omega) | exact Nat.le_of_ble_eq_true rfl) (Nat.le_of_ble_eq_true rfl) d_Rw_init_1 ?_
  refine lv_aload_n hx hb d_Rw_init_4 rfl (lv_at hl 0 rfl) ?_
  refine lv_iload_n hx hb d_Rw_init_5 rfl (lv_at hl 1 rfl) ?_
  refine xw_putF F hh hin ff_Rw_7_3 0 rfl rfl rfl (Nat.le_of_ble_eq_true rfl) d_Rw_init_6 (fun H locs hh => ?_)
  have hh : xw_H G (va_A [(r, .inr (3, [.int (xi_ 0), .null, .null, .int (xi_ 0), .int (xi_ 0)]))] s.heap.size) s.heap H locs [(r, .inr (3, [.int (xi_ (lim : Int)), .null, .null, .int (xi_ 0), .int (xi_ 0)]))] := hh
  refine lv_aload_n hx hb d_Rw_init_9 rfl (lv_at hl 0 rfl) ?_
  refine lv_iload_n hx hb d_Rw_init_10 rfl (lv_at hl 1 rfl) ?_
  refine lv_iconst (v := xi_ 5) hx hb d_Rw_init_11 rfl ?_
  refine xw_imul hx hb d_Rw_init_12 ?_
  refine xw_newl F hh (N := lim * 5) (by omega) (by unfold rm_Rw_init; first | omega | (simp only []; omega) | exact Nat.le_of_ble_eq_true rfl) (by unfold rm_Rw_init; first | omega | (simp only []; omega) | exact Nat.le_of_ble_eq_true rfl) d_Rw_init_13 (fun q13 H hh => ?_)
  have hh : xw_H G (va_A [(r, .inr (3, [.int (xi_ 0), .null, .null, .int (xi_ 0), .int (xi_ 0)]))] s.heap.size) s.heap H locs [(r, .inr (3, [.int (xi_ (lim : Int)), .null, .null, .int (xi_ 0), .int (xi_ 0)])), (q13, .inl (G.2.2 1, (lim * 5), .inr (.inl (jl_ (fun _ => 0)))))] := hh
  refine xw_putF F hh hin ff_Rw_13_3 0 rfl rfl rfl (Nat.le_of_ble_eq_true rfl) d_Rw_init_15 (fun H locs hh => ?_)
  have hh : xw_H G (va_A [(r, .inr (3, [.int (xi_ 0), .null, .null, .int (xi_ 0), .int (xi_ 0)]))] s.heap.size) s.heap H locs [(r, .inr (3, [.int (xi_ (lim : Int)), .ref q13, .null, .int (xi_ 0), .int (xi_ 0)])), (q13, .inl (G.2.2 1, (lim * 5), .inr (.inl (jl_ (fun _ => 0)))))] := hh
  refine lv_aload_n hx hb d_Rw_init_18 rfl (lv_at hl 0 rfl) ?_
  refine lv_iload_n hx hb d_Rw_init_19 rfl (lv_at hl 1 rfl) ?_
  refine xw_newi F hh (N := lim) (by omega) (by unfold rm_Rw_init; first | omega | (simp only []; omega) | exact Nat.le_of_ble_eq_true rfl) (by unfold rm_Rw_init; first | omega | (simp only []; omega) | exact Nat.le_of_ble_eq_true rfl) d_Rw_init_20 (fun q20 H hh => ?_)
  have hh : xw_H G (va_A [(r, .inr (3, [.int (xi_ 0), .null, .null, .int (xi_ 0), .int (xi_ 0)]))] s.heap.size) s.heap H locs [(r, .inr (3, [.int (xi_ (lim : Int)), .ref q13, .null, .int (xi_ 0), .int (xi_ 0)])), (q13, .inl (G.2.2 1, (lim * 5), .inr (.inl (jl_ (fun _ => 0))))), (q20, .inl (G.2.2 0, lim, .inl (ja_ (fun _ => 0))))] := hh
  refine xw_putF F hh hin ff_Rw_17_3 0 rfl rfl rfl (Nat.le_of_ble_eq_true rfl) d_Rw_init_22 (fun H locs hh => ?_)
  have hh : xw_H G (va_A [(r, .inr (3, [.int (xi_ 0), .null, .null, .int (xi_ 0), .int (xi_ 0)]))] s.heap.size) s.heap H locs [(r, .inr (3, [.int (xi_ (lim : Int)), .ref q13, .ref q20, .int (xi_ 0), .int (xi_ 0)])), (q13, .inl (G.2.2 1, (lim * 5), .inr (.inl (jl_ (fun _ => 0))))), (q20, .inl (G.2.2 0, lim, .inl (ja_ (fun _ => 0))))] := hh
  refine W.widen (k := 2) (n := lim * 6) (by omega) (by omega) ?_
  exact xw_vret F hr hlk hh (q13, q20) rfl trivial trivial d_Rw_init_25
def rm_Rw_sameAs : Room := { frames := 2, cells := 0, slots := 0, locals := 43 }
theorem rr_rat {lim : Nat} {cnt tm : Int} {vals rat : Nat → Int} {st : List Row_ × Bool} (h : rr_ lim cnt tm vals rat st) : ∀ p : Nat, (p : Int) < cnt → 0 ≤ rat p ∧ rat p < (lim : Int) := by
  obtain ⟨h1, h2, h3, h4, h5⟩ := h
  intro p hp
  obtain ⟨g1, g2, -⟩ := h4 p (by omega)
  have := h2.2.1
  omega
theorem rr_row {lim : Nat} {cnt tm : Int} {vals rat : Nat → Int} {st : List Row_ × Bool} (h : rr_ lim cnt tm vals rat st) {p : Nat} (hp : (p : Int) < cnt) : st.1[p]? = some (ro_ vals (rat p)) := by
  obtain ⟨h1, h2, h3, h4, h5⟩ := h
  exact (h4 p (by omega)).2.2
theorem rr_cnt {lim : Nat} {cnt tm : Int} {vals rat : Nat → Int} {st : List Row_ × Bool} (h : rr_ lim cnt tm vals rat st) : 0 ≤ cnt ∧ cnt ≤ (lim : Int) ∧ cnt = (st.1.length : Int) := by
  have h1 := h.1
  have h2 := h.2.1.2.1
  omega
theorem rr_rows_eq {a b : List Row_} {n : Int} (ha : n = (a.length : Int)) (hb : n = (b.length : Int)) (h : ∀ q : Nat, (q : Int) < n → a[q]? = b[q]?) : a = b := by
  apply List.ext_getElem?
  intro i
  by_cases hi : (i : Int) < n
  · exact h i hi
  · rw [List.getElem?_eq_none (by omega), List.getElem?_eq_none (by omega)]
theorem rr_ro_eq {v w : Nat → Int} {i j : Int} (h0 : v (i * 5 + 0).toNat = w (j * 5 + 0).toNat) (h1 : v (i * 5 + 1).toNat = w (j * 5 + 1).toNat) (h2 : v (i * 5 + 2).toNat = w (j * 5 + 2).toNat) (h3 : v (i * 5 + 3).toNat = w (j * 5 + 3).toNat) (h4 : v (i * 5 + 4).toNat = w (j * 5 + 4).toNat) : ro_ v i = ro_ w j := by
  unfold ro_
  rw [h0, h1, h2, h3, h4]
set_option maxHeartbeats 4000000 in
set_option maxRecDepth 100000 in
theorem lp_Rw_sameAs {p : Program} {l : Launch} {e : Env} {s : State} {m : MethodId} {args : Array Value} {below : List Frame} {meth : Method} {c : Code} {Q : State → Prop} {G : GG_} {A : Nat → Prop} {H0 : Heap} (F : xw_F p s m args c b_Rw_sameAs 4 R_Rw G) (r v ra lim : Nat) (cnt tm : Int) (vals rat : Nat → Int) (r2 v2 ra2 lim2 : Nat) (cnt2 tm2 : Int) (vals2 rat2 : Nat → Int) (st st2 : List Row_ × Bool) (hlim : (lim : Int) ≤ 200 ∧ (lim2 : Int) ≤ 200) (hrr : rr_ lim cnt tm vals rat st) (hrr2 : rr_ lim2 cnt2 tm2 vals2 rat2 st2) (he : cnt = cnt2)
    (kf : ∀ (ls : Array Slot) (H : Heap) (locs : List Loc), st.1 ≠ st2.1 → lv_has ls 4 [] → xw_H G A H0 H locs [(r, .inr (3, [.int (xi_ (lim : Int)), .ref v, .ref ra, .int (xi_ cnt), .int (xi_ tm)])), (v, .inl (G.2.2 1, (lim * 5), .inr (.inl (jl_ vals)))), (ra, .inl (G.2.2 0, lim, .inl (ja_ rat))), (r2, .inr (3, [.int (xi_ (lim2 : Int)), .ref v2, .ref ra2, .int (xi_ cnt2), .int (xi_ tm2)])), (v2, .inl (G.2.2 1, (lim2 * 5), .inr (.inl (jl_ vals2)))), (ra2, .inl (G.2.2 0, lim2, .inl (ja_ rat2)))] → W p l e rm_Rw_sameAs s m args below meth c H locs 0 0 Q (F0 m 46 ls []))
    (kt : ∀ (ls : Array Slot) (H : Heap) (locs : List Loc), st.1 = st2.1 → lv_has ls 4 [] → xw_H G A H0 H locs [(r, .inr (3, [.int (xi_ (lim : Int)), .ref v, .ref ra, .int (xi_ cnt), .int (xi_ tm)])), (v, .inl (G.2.2 1, (lim * 5), .inr (.inl (jl_ vals)))), (ra, .inl (G.2.2 0, lim, .inl (ja_ rat))), (r2, .inr (3, [.int (xi_ (lim2 : Int)), .ref v2, .ref ra2, .int (xi_ cnt2), .int (xi_ tm2)])), (v2, .inl (G.2.2 1, (lim2 * 5), .inr (.inl (jl_ vals2)))), (ra2, .inl (G.2.2 0, lim2, .inl (ja_ rat2)))] → W p l e rm_Rw_sameAs s m args below meth c H locs 0 0 Q (F0 m 60 ls [])) :
    ∀ (N : Nat) (i : Int) (ls : Array Slot) (H : Heap) (locs : List Loc), (cnt - i).toNat < N → 0 ≤ i → i ≤ cnt → (∀ q : Nat, (q : Int) < i → st.1[q]? = st2.1[q]?) → lv_has ls 4 [(2, .int (xi_ i)), (0, .ref r), (1, .ref r2)] → xw_H G A H0 H locs [(r, .inr (3, [.int (xi_ (lim : Int)), .ref v, .ref ra, .int (xi_ cnt), .int (xi_ tm)])), (v, .inl (G.2.2 1, (lim * 5), .inr (.inl (jl_ vals)))), (ra, .inl (G.2.2 0, lim, .inl (ja_ rat))), (r2, .inr (3, [.int (xi_ (lim2 : Int)), .ref v2, .ref ra2, .int (xi_ cnt2), .int (xi_ tm2)])), (v2, .inl (G.2.2 1, (lim2 * 5), .inr (.inl (jl_ vals2)))), (ra2, .inl (G.2.2 0, lim2, .inl (ja_ rat2)))] → W p l e rm_Rw_sameAs s m args below meth c H locs 0 0 Q (F0 m 15 ls []) := by
  have hx := F.1
  have hb := F.2.1
  have hc := rr_cnt hrr
  have hc2 := rr_cnt hrr2
  intro N
  induction N with
  | zero => intro i ls H locs h; omega
  | succ N ih =>
    intro i ls H locs h1 h2 h3 hq hl hh
    refine lv_iload_n hx hb d_Rw_sameAs_15 rfl (lv_at hl 0 rfl) ?_
    refine lv_aload_n hx hb d_Rw_sameAs_16 rfl (lv_at hl 1 rfl) ?_
    refine xw_get F hh.1 (v := .int (xi_ cnt)) fl_Rw_21_3 0 rfl rfl d_Rw_sameAs_17 ?_
    refine xw_icmp_ge hx hb 60 d_Rw_sameAs_20 (by decide) (by omega) (fun c20 => ?_) (fun c20 => ?_)
    · exact kt ls H locs (rr_rows_eq hc.2.2 (by omega) (fun q hq2 => hq q (by omega))) (lv_sub hl [] rfl) hh
    · refine lv_iconst (v := xi_ 0) hx hb d_Rw_sameAs_23 rfl ?_
      refine lv_istore_n (lv' := [(3, .int (xi_ 0)), (2, .int (xi_ i)), (0, .ref r), (1, .ref r2)]) hx hb d_Rw_sameAs_24 rfl hl (by decide) rfl (fun ls hl => ?_)
      refine lv_iload_n hx hb d_Rw_sameAs_25 rfl (lv_at hl 0 rfl) ?_
      refine lv_iconst (v := xi_ 5) hx hb d_Rw_sameAs_26 rfl ?_
      refine xw_icmp_ge hx hb 54 d_Rw_sameAs_27 (by decide) (by decide) (fun c27 => absurd c27 (by decide)) (fun c27 => ?_)
      refine lv_aload_n hx hb d_Rw_sameAs_30 rfl (lv_at hl 2 rfl) ?_
      refine lv_iload_n hx hb d_Rw_sameAs_31 rfl (lv_at hl 1 rfl) ?_
      refine lv_iload_n hx hb d_Rw_sameAs_32 rfl (lv_at hl 0 rfl) ?_
      refine xw_cl (wc := [(r, .inr (3, [.int (xi_ (lim : Int)), .ref v, .ref ra, .int (xi_ cnt), .int (xi_ tm)])), (v, .inl (G.2.2 1, (lim * 5), .inr (.inl (jl_ vals)))), (ra, .inl (G.2.2 0, lim, .inl (ja_ rat)))]) (wr := [(r2, .inr (3, [.int (xi_ (lim2 : Int)), .ref v2, .ref ra2, .int (xi_ cnt2), .int (xi_ tm2)])), (v2, .inl (G.2.2 1, (lim2 * 5), .inr (.inl (jl_ vals2)))), (ra2, .inl (G.2.2 0, lim2, .inl (ja_ rat2)))]) hh [0, 1, 2] [3, 4, 5] rfl rfl rfl (by decide) (xw_rV F hh [0, 1, 2] rfl rfl (c_Rw_value l G H.size r v ra lim cnt tm vals rat (i) 0 (by omega) (rr_rat hrr) (by omega) (by omega)) trivial lk_Rw_41 cd_Rw_value se_Rw_value _ hh.1 0 rfl rfl rfl rfl ⟨by decide, by decide⟩ rfl hl.1 rfl (Nat.le_of_ble_eq_true rfl) d_Rw_sameAs_33 ⟨Nat.le_of_ble_eq_true rfl, Nat.le_of_ble_eq_true rfl⟩) (fun z33_0 u H locs hp33 hX hz hk hh => ?_)
      have hh : xw_H G A H0 H locs [(r, .inr (3, [.int (xi_ (lim : Int)), .ref v, .ref ra, .int (xi_ cnt), .int (xi_ tm)])), (v, .inl (G.2.2 1, (lim * 5), .inr (.inl (jl_ vals)))), (ra, .inl (G.2.2 0, lim, .inl (ja_ rat))), (r2, .inr (3, [.int (xi_ (lim2 : Int)), .ref v2, .ref ra2, .int (xi_ cnt2), .int (xi_ tm2)])), (v2, .inl (G.2.2 1, (lim2 * 5), .inr (.inl (jl_ vals2)))), (ra2, .inl (G.2.2 0, lim2, .inl (ja_ rat2)))] := xw_H.sub hh [3, 4, 5, 0, 1, 2] rfl rfl
      rw [if_pos (by omega)] at hp33
      subst hp33
      refine lv_aload_n hx hb d_Rw_sameAs_36 rfl (lv_at hl 3 rfl) ?_
      refine lv_iload_n hx hb d_Rw_sameAs_37 rfl (lv_at hl 1 rfl) ?_
      refine lv_iload_n hx hb d_Rw_sameAs_38 rfl (lv_at hl 0 rfl) ?_
      refine xw_cl (wc := [(r2, .inr (3, [.int (xi_ (lim2 : Int)), .ref v2, .ref ra2, .int (xi_ cnt2), .int (xi_ tm2)])), (v2, .inl (G.2.2 1, (lim2 * 5), .inr (.inl (jl_ vals2)))), (ra2, .inl (G.2.2 0, lim2, .inl (ja_ rat2)))]) (wr := [(r, .inr (3, [.int (xi_ (lim : Int)), .ref v, .ref ra, .int (xi_ cnt), .int (xi_ tm)])), (v, .inl (G.2.2 1, (lim * 5), .inr (.inl (jl_ vals)))), (ra, .inl (G.2.2 0, lim, .inl (ja_ rat)))]) hh [3, 4, 5] [0, 1, 2] rfl rfl rfl (by decide) (xw_rV F hh [3, 4, 5] rfl rfl (c_Rw_value l G H.size r2 v2 ra2 lim2 cnt2 tm2 vals2 rat2 (i) 0 (by omega) (rr_rat hrr2) (by omega) (by omega)) trivial lk_Rw_41 cd_Rw_value se_Rw_value _ hh.1 3 rfl rfl rfl rfl ⟨by decide, by decide⟩ rfl hl.1 rfl (Nat.le_of_ble_eq_true rfl) d_Rw_sameAs_39 ⟨Nat.le_of_ble_eq_true rfl, Nat.le_of_ble_eq_true rfl⟩) (fun z39_0 u H locs hp39 hX hz hk hh => ?_)
      have hh : xw_H G A H0 H locs [(r, .inr (3, [.int (xi_ (lim : Int)), .ref v, .ref ra, .int (xi_ cnt), .int (xi_ tm)])), (v, .inl (G.2.2 1, (lim * 5), .inr (.inl (jl_ vals)))), (ra, .inl (G.2.2 0, lim, .inl (ja_ rat))), (r2, .inr (3, [.int (xi_ (lim2 : Int)), .ref v2, .ref ra2, .int (xi_ cnt2), .int (xi_ tm2)])), (v2, .inl (G.2.2 1, (lim2 * 5), .inr (.inl (jl_ vals2)))), (ra2, .inl (G.2.2 0, lim2, .inl (ja_ rat2)))] := hh
      rw [if_pos (by omega)] at hp39
      subst hp39
      refine xw_lcmp_eq hx hb 48 d_Rw_sameAs_42 d_Rw_sameAs_43 (by decide) ⟨hrr.2.2.2.2 _, hrr2.2.2.2.2 _⟩ (fun d0 => ?_) (fun d0 => ?_)
      · refine lv_iinc (k := 0) (v := xi_ 1) (lv' := [(3, .int (xi_ 1)), (2, .int (xi_ i)), (0, .ref r), (1, .ref r2)]) hx hb d_Rw_sameAs_48 hl rfl (by decide) (by decide) rfl (fun ls hl => ?_)
        refine lv_goto (tgt := 25) hx hb d_Rw_sameAs_51 (by decide) ?_
        refine lv_iload_n hx hb d_Rw_sameAs_25 rfl (lv_at hl 0 rfl) ?_
        refine lv_iconst (v := xi_ 5) hx hb d_Rw_sameAs_26 rfl ?_
        refine xw_icmp_ge hx hb 54 d_Rw_sameAs_27 (by decide) (by decide) (fun c27 => absurd c27 (by decide)) (fun c27 => ?_)
        refine lv_aload_n hx hb d_Rw_sameAs_30 rfl (lv_at hl 2 rfl) ?_
        refine lv_iload_n hx hb d_Rw_sameAs_31 rfl (lv_at hl 1 rfl) ?_
        refine lv_iload_n hx hb d_Rw_sameAs_32 rfl (lv_at hl 0 rfl) ?_
        refine xw_cl (wc := [(r, .inr (3, [.int (xi_ (lim : Int)), .ref v, .ref ra, .int (xi_ cnt), .int (xi_ tm)])), (v, .inl (G.2.2 1, (lim * 5), .inr (.inl (jl_ vals)))), (ra, .inl (G.2.2 0, lim, .inl (ja_ rat)))]) (wr := [(r2, .inr (3, [.int (xi_ (lim2 : Int)), .ref v2, .ref ra2, .int (xi_ cnt2), .int (xi_ tm2)])), (v2, .inl (G.2.2 1, (lim2 * 5), .inr (.inl (jl_ vals2)))), (ra2, .inl (G.2.2 0, lim2, .inl (ja_ rat2)))]) hh [0, 1, 2] [3, 4, 5] rfl rfl rfl (by decide) (xw_rV F hh [0, 1, 2] rfl rfl (c_Rw_value l G H.size r v ra lim cnt tm vals rat (i) 1 (by omega) (rr_rat hrr) (by omega) (by omega)) trivial lk_Rw_41 cd_Rw_value se_Rw_value _ hh.1 0 rfl rfl rfl rfl ⟨by decide, by decide⟩ rfl hl.1 rfl (Nat.le_of_ble_eq_true rfl) d_Rw_sameAs_33 ⟨Nat.le_of_ble_eq_true rfl, Nat.le_of_ble_eq_true rfl⟩) (fun z33_1 u H locs hp33 hX hz hk hh => ?_)
        have hh : xw_H G A H0 H locs [(r, .inr (3, [.int (xi_ (lim : Int)), .ref v, .ref ra, .int (xi_ cnt), .int (xi_ tm)])), (v, .inl (G.2.2 1, (lim * 5), .inr (.inl (jl_ vals)))), (ra, .inl (G.2.2 0, lim, .inl (ja_ rat))), (r2, .inr (3, [.int (xi_ (lim2 : Int)), .ref v2, .ref ra2, .int (xi_ cnt2), .int (xi_ tm2)])), (v2, .inl (G.2.2 1, (lim2 * 5), .inr (.inl (jl_ vals2)))), (ra2, .inl (G.2.2 0, lim2, .inl (ja_ rat2)))] := xw_H.sub hh [3, 4, 5, 0, 1, 2] rfl rfl
        rw [if_pos (by omega)] at hp33
        subst hp33
        refine lv_aload_n hx hb d_Rw_sameAs_36 rfl (lv_at hl 3 rfl) ?_
        refine lv_iload_n hx hb d_Rw_sameAs_37 rfl (lv_at hl 1 rfl) ?_
        refine lv_iload_n hx hb d_Rw_sameAs_38 rfl (lv_at hl 0 rfl) ?_
        refine xw_cl (wc := [(r2, .inr (3, [.int (xi_ (lim2 : Int)), .ref v2, .ref ra2, .int (xi_ cnt2), .int (xi_ tm2)])), (v2, .inl (G.2.2 1, (lim2 * 5), .inr (.inl (jl_ vals2)))), (ra2, .inl (G.2.2 0, lim2, .inl (ja_ rat2)))]) (wr := [(r, .inr (3, [.int (xi_ (lim : Int)), .ref v, .ref ra, .int (xi_ cnt), .int (xi_ tm)])), (v, .inl (G.2.2 1, (lim * 5), .inr (.inl (jl_ vals)))), (ra, .inl (G.2.2 0, lim, .inl (ja_ rat)))]) hh [3, 4, 5] [0, 1, 2] rfl rfl rfl (by decide) (xw_rV F hh [3, 4, 5] rfl rfl (c_Rw_value l G H.size r2 v2 ra2 lim2 cnt2 tm2 vals2 rat2 (i) 1 (by omega) (rr_rat hrr2) (by omega) (by omega)) trivial lk_Rw_41 cd_Rw_value se_Rw_value _ hh.1 3 rfl rfl rfl rfl ⟨by decide, by decide⟩ rfl hl.1 rfl (Nat.le_of_ble_eq_true rfl) d_Rw_sameAs_39 ⟨Nat.le_of_ble_eq_true rfl, Nat.le_of_ble_eq_true rfl⟩) (fun z39_1 u H locs hp39 hX hz hk hh => ?_)
        have hh : xw_H G A H0 H locs [(r, .inr (3, [.int (xi_ (lim : Int)), .ref v, .ref ra, .int (xi_ cnt), .int (xi_ tm)])), (v, .inl (G.2.2 1, (lim * 5), .inr (.inl (jl_ vals)))), (ra, .inl (G.2.2 0, lim, .inl (ja_ rat))), (r2, .inr (3, [.int (xi_ (lim2 : Int)), .ref v2, .ref ra2, .int (xi_ cnt2), .int (xi_ tm2)])), (v2, .inl (G.2.2 1, (lim2 * 5), .inr (.inl (jl_ vals2)))), (ra2, .inl (G.2.2 0, lim2, .inl (ja_ rat2)))] := hh
        rw [if_pos (by omega)] at hp39
        subst hp39
        refine xw_lcmp_eq hx hb 48 d_Rw_sameAs_42 d_Rw_sameAs_43 (by decide) ⟨hrr.2.2.2.2 _, hrr2.2.2.2.2 _⟩ (fun d1 => ?_) (fun d1 => ?_)
        · refine lv_iinc (k := 0) (v := xi_ 2) (lv' := [(3, .int (xi_ 2)), (2, .int (xi_ i)), (0, .ref r), (1, .ref r2)]) hx hb d_Rw_sameAs_48 hl rfl (by decide) (by decide) rfl (fun ls hl => ?_)
          refine lv_goto (tgt := 25) hx hb d_Rw_sameAs_51 (by decide) ?_
          refine lv_iload_n hx hb d_Rw_sameAs_25 rfl (lv_at hl 0 rfl) ?_
          refine lv_iconst (v := xi_ 5) hx hb d_Rw_sameAs_26 rfl ?_
          refine xw_icmp_ge hx hb 54 d_Rw_sameAs_27 (by decide) (by decide) (fun c27 => absurd c27 (by decide)) (fun c27 => ?_)
          refine lv_aload_n hx hb d_Rw_sameAs_30 rfl (lv_at hl 2 rfl) ?_
          refine lv_iload_n hx hb d_Rw_sameAs_31 rfl (lv_at hl 1 rfl) ?_
          refine lv_iload_n hx hb d_Rw_sameAs_32 rfl (lv_at hl 0 rfl) ?_
          refine xw_cl (wc := [(r, .inr (3, [.int (xi_ (lim : Int)), .ref v, .ref ra, .int (xi_ cnt), .int (xi_ tm)])), (v, .inl (G.2.2 1, (lim * 5), .inr (.inl (jl_ vals)))), (ra, .inl (G.2.2 0, lim, .inl (ja_ rat)))]) (wr := [(r2, .inr (3, [.int (xi_ (lim2 : Int)), .ref v2, .ref ra2, .int (xi_ cnt2), .int (xi_ tm2)])), (v2, .inl (G.2.2 1, (lim2 * 5), .inr (.inl (jl_ vals2)))), (ra2, .inl (G.2.2 0, lim2, .inl (ja_ rat2)))]) hh [0, 1, 2] [3, 4, 5] rfl rfl rfl (by decide) (xw_rV F hh [0, 1, 2] rfl rfl (c_Rw_value l G H.size r v ra lim cnt tm vals rat (i) 2 (by omega) (rr_rat hrr) (by omega) (by omega)) trivial lk_Rw_41 cd_Rw_value se_Rw_value _ hh.1 0 rfl rfl rfl rfl ⟨by decide, by decide⟩ rfl hl.1 rfl (Nat.le_of_ble_eq_true rfl) d_Rw_sameAs_33 ⟨Nat.le_of_ble_eq_true rfl, Nat.le_of_ble_eq_true rfl⟩) (fun z33_2 u H locs hp33 hX hz hk hh => ?_)
          have hh : xw_H G A H0 H locs [(r, .inr (3, [.int (xi_ (lim : Int)), .ref v, .ref ra, .int (xi_ cnt), .int (xi_ tm)])), (v, .inl (G.2.2 1, (lim * 5), .inr (.inl (jl_ vals)))), (ra, .inl (G.2.2 0, lim, .inl (ja_ rat))), (r2, .inr (3, [.int (xi_ (lim2 : Int)), .ref v2, .ref ra2, .int (xi_ cnt2), .int (xi_ tm2)])), (v2, .inl (G.2.2 1, (lim2 * 5), .inr (.inl (jl_ vals2)))), (ra2, .inl (G.2.2 0, lim2, .inl (ja_ rat2)))] := xw_H.sub hh [3, 4, 5, 0, 1, 2] rfl rfl
          rw [if_pos (by omega)] at hp33
          subst hp33
          refine lv_aload_n hx hb d_Rw_sameAs_36 rfl (lv_at hl 3 rfl) ?_
          refine lv_iload_n hx hb d_Rw_sameAs_37 rfl (lv_at hl 1 rfl) ?_
          refine lv_iload_n hx hb d_Rw_sameAs_38 rfl (lv_at hl 0 rfl) ?_
          refine xw_cl (wc := [(r2, .inr (3, [.int (xi_ (lim2 : Int)), .ref v2, .ref ra2, .int (xi_ cnt2), .int (xi_ tm2)])), (v2, .inl (G.2.2 1, (lim2 * 5), .inr (.inl (jl_ vals2)))), (ra2, .inl (G.2.2 0, lim2, .inl (ja_ rat2)))]) (wr := [(r, .inr (3, [.int (xi_ (lim : Int)), .ref v, .ref ra, .int (xi_ cnt), .int (xi_ tm)])), (v, .inl (G.2.2 1, (lim * 5), .inr (.inl (jl_ vals)))), (ra, .inl (G.2.2 0, lim, .inl (ja_ rat)))]) hh [3, 4, 5] [0, 1, 2] rfl rfl rfl (by decide) (xw_rV F hh [3, 4, 5] rfl rfl (c_Rw_value l G H.size r2 v2 ra2 lim2 cnt2 tm2 vals2 rat2 (i) 2 (by omega) (rr_rat hrr2) (by omega) (by omega)) trivial lk_Rw_41 cd_Rw_value se_Rw_value _ hh.1 3 rfl rfl rfl rfl ⟨by decide, by decide⟩ rfl hl.1 rfl (Nat.le_of_ble_eq_true rfl) d_Rw_sameAs_39 ⟨Nat.le_of_ble_eq_true rfl, Nat.le_of_ble_eq_true rfl⟩) (fun z39_2 u H locs hp39 hX hz hk hh => ?_)
          have hh : xw_H G A H0 H locs [(r, .inr (3, [.int (xi_ (lim : Int)), .ref v, .ref ra, .int (xi_ cnt), .int (xi_ tm)])), (v, .inl (G.2.2 1, (lim * 5), .inr (.inl (jl_ vals)))), (ra, .inl (G.2.2 0, lim, .inl (ja_ rat))), (r2, .inr (3, [.int (xi_ (lim2 : Int)), .ref v2, .ref ra2, .int (xi_ cnt2), .int (xi_ tm2)])), (v2, .inl (G.2.2 1, (lim2 * 5), .inr (.inl (jl_ vals2)))), (ra2, .inl (G.2.2 0, lim2, .inl (ja_ rat2)))] := hh
          rw [if_pos (by omega)] at hp39
          subst hp39
          refine xw_lcmp_eq hx hb 48 d_Rw_sameAs_42 d_Rw_sameAs_43 (by decide) ⟨hrr.2.2.2.2 _, hrr2.2.2.2.2 _⟩ (fun d2 => ?_) (fun d2 => ?_)
          · refine lv_iinc (k := 0) (v := xi_ 3) (lv' := [(3, .int (xi_ 3)), (2, .int (xi_ i)), (0, .ref r), (1, .ref r2)]) hx hb d_Rw_sameAs_48 hl rfl (by decide) (by decide) rfl (fun ls hl => ?_)
            refine lv_goto (tgt := 25) hx hb d_Rw_sameAs_51 (by decide) ?_
            refine lv_iload_n hx hb d_Rw_sameAs_25 rfl (lv_at hl 0 rfl) ?_
            refine lv_iconst (v := xi_ 5) hx hb d_Rw_sameAs_26 rfl ?_
            refine xw_icmp_ge hx hb 54 d_Rw_sameAs_27 (by decide) (by decide) (fun c27 => absurd c27 (by decide)) (fun c27 => ?_)
            refine lv_aload_n hx hb d_Rw_sameAs_30 rfl (lv_at hl 2 rfl) ?_
            refine lv_iload_n hx hb d_Rw_sameAs_31 rfl (lv_at hl 1 rfl) ?_
            refine lv_iload_n hx hb d_Rw_sameAs_32 rfl (lv_at hl 0 rfl) ?_
            refine xw_cl (wc := [(r, .inr (3, [.int (xi_ (lim : Int)), .ref v, .ref ra, .int (xi_ cnt), .int (xi_ tm)])), (v, .inl (G.2.2 1, (lim * 5), .inr (.inl (jl_ vals)))), (ra, .inl (G.2.2 0, lim, .inl (ja_ rat)))]) (wr := [(r2, .inr (3, [.int (xi_ (lim2 : Int)), .ref v2, .ref ra2, .int (xi_ cnt2), .int (xi_ tm2)])), (v2, .inl (G.2.2 1, (lim2 * 5), .inr (.inl (jl_ vals2)))), (ra2, .inl (G.2.2 0, lim2, .inl (ja_ rat2)))]) hh [0, 1, 2] [3, 4, 5] rfl rfl rfl (by decide) (xw_rV F hh [0, 1, 2] rfl rfl (c_Rw_value l G H.size r v ra lim cnt tm vals rat (i) 3 (by omega) (rr_rat hrr) (by omega) (by omega)) trivial lk_Rw_41 cd_Rw_value se_Rw_value _ hh.1 0 rfl rfl rfl rfl ⟨by decide, by decide⟩ rfl hl.1 rfl (Nat.le_of_ble_eq_true rfl) d_Rw_sameAs_33 ⟨Nat.le_of_ble_eq_true rfl, Nat.le_of_ble_eq_true rfl⟩) (fun z33_3 u H locs hp33 hX hz hk hh => ?_)
            have hh : xw_H G A H0 H locs [(r, .inr (3, [.int (xi_ (lim : Int)), .ref v, .ref ra, .int (xi_ cnt), .int (xi_ tm)])), (v, .inl (G.2.2 1, (lim * 5), .inr (.inl (jl_ vals)))), (ra, .inl (G.2.2 0, lim, .inl (ja_ rat))), (r2, .inr (3, [.int (xi_ (lim2 : Int)), .ref v2, .ref ra2, .int (xi_ cnt2), .int (xi_ tm2)])), (v2, .inl (G.2.2 1, (lim2 * 5), .inr (.inl (jl_ vals2)))), (ra2, .inl (G.2.2 0, lim2, .inl (ja_ rat2)))] := xw_H.sub hh [3, 4, 5, 0, 1, 2] rfl rfl
            rw [if_pos (by omega)] at hp33
            subst hp33
            refine lv_aload_n hx hb d_Rw_sameAs_36 rfl (lv_at hl 3 rfl) ?_
            refine lv_iload_n hx hb d_Rw_sameAs_37 rfl (lv_at hl 1 rfl) ?_
            refine lv_iload_n hx hb d_Rw_sameAs_38 rfl (lv_at hl 0 rfl) ?_
            refine xw_cl (wc := [(r2, .inr (3, [.int (xi_ (lim2 : Int)), .ref v2, .ref ra2, .int (xi_ cnt2), .int (xi_ tm2)])), (v2, .inl (G.2.2 1, (lim2 * 5), .inr (.inl (jl_ vals2)))), (ra2, .inl (G.2.2 0, lim2, .inl (ja_ rat2)))]) (wr := [(r, .inr (3, [.int (xi_ (lim : Int)), .ref v, .ref ra, .int (xi_ cnt), .int (xi_ tm)])), (v, .inl (G.2.2 1, (lim * 5), .inr (.inl (jl_ vals)))), (ra, .inl (G.2.2 0, lim, .inl (ja_ rat)))]) hh [3, 4, 5] [0, 1, 2] rfl rfl rfl (by decide) (xw_rV F hh [3, 4, 5] rfl rfl (c_Rw_value l G H.size r2 v2 ra2 lim2 cnt2 tm2 vals2 rat2 (i) 3 (by omega) (rr_rat hrr2) (by omega) (by omega)) trivial lk_Rw_41 cd_Rw_value se_Rw_value _ hh.1 3 rfl rfl rfl rfl ⟨by decide, by decide⟩ rfl hl.1 rfl (Nat.le_of_ble_eq_true rfl) d_Rw_sameAs_39 ⟨Nat.le_of_ble_eq_true rfl, Nat.le_of_ble_eq_true rfl⟩) (fun z39_3 u H locs hp39 hX hz hk hh => ?_)
            have hh : xw_H G A H0 H locs [(r, .inr (3, [.int (xi_ (lim : Int)), .ref v, .ref ra, .int (xi_ cnt), .int (xi_ tm)])), (v, .inl (G.2.2 1, (lim * 5), .inr (.inl (jl_ vals)))), (ra, .inl (G.2.2 0, lim, .inl (ja_ rat))), (r2, .inr (3, [.int (xi_ (lim2 : Int)), .ref v2, .ref ra2, .int (xi_ cnt2), .int (xi_ tm2)])), (v2, .inl (G.2.2 1, (lim2 * 5), .inr (.inl (jl_ vals2)))), (ra2, .inl (G.2.2 0, lim2, .inl (ja_ rat2)))] := hh
            rw [if_pos (by omega)] at hp39
            subst hp39
            refine xw_lcmp_eq hx hb 48 d_Rw_sameAs_42 d_Rw_sameAs_43 (by decide) ⟨hrr.2.2.2.2 _, hrr2.2.2.2.2 _⟩ (fun d3 => ?_) (fun d3 => ?_)
            · refine lv_iinc (k := 0) (v := xi_ 4) (lv' := [(3, .int (xi_ 4)), (2, .int (xi_ i)), (0, .ref r), (1, .ref r2)]) hx hb d_Rw_sameAs_48 hl rfl (by decide) (by decide) rfl (fun ls hl => ?_)
              refine lv_goto (tgt := 25) hx hb d_Rw_sameAs_51 (by decide) ?_
              refine lv_iload_n hx hb d_Rw_sameAs_25 rfl (lv_at hl 0 rfl) ?_
              refine lv_iconst (v := xi_ 5) hx hb d_Rw_sameAs_26 rfl ?_
              refine xw_icmp_ge hx hb 54 d_Rw_sameAs_27 (by decide) (by decide) (fun c27 => absurd c27 (by decide)) (fun c27 => ?_)
              refine lv_aload_n hx hb d_Rw_sameAs_30 rfl (lv_at hl 2 rfl) ?_
              refine lv_iload_n hx hb d_Rw_sameAs_31 rfl (lv_at hl 1 rfl) ?_
              refine lv_iload_n hx hb d_Rw_sameAs_32 rfl (lv_at hl 0 rfl) ?_
              refine xw_cl (wc := [(r, .inr (3, [.int (xi_ (lim : Int)), .ref v, .ref ra, .int (xi_ cnt), .int (xi_ tm)])), (v, .inl (G.2.2 1, (lim * 5), .inr (.inl (jl_ vals)))), (ra, .inl (G.2.2 0, lim, .inl (ja_ rat)))]) (wr := [(r2, .inr (3, [.int (xi_ (lim2 : Int)), .ref v2, .ref ra2, .int (xi_ cnt2), .int (xi_ tm2)])), (v2, .inl (G.2.2 1, (lim2 * 5), .inr (.inl (jl_ vals2)))), (ra2, .inl (G.2.2 0, lim2, .inl (ja_ rat2)))]) hh [0, 1, 2] [3, 4, 5] rfl rfl rfl (by decide) (xw_rV F hh [0, 1, 2] rfl rfl (c_Rw_value l G H.size r v ra lim cnt tm vals rat (i) 4 (by omega) (rr_rat hrr) (by omega) (by omega)) trivial lk_Rw_41 cd_Rw_value se_Rw_value _ hh.1 0 rfl rfl rfl rfl ⟨by decide, by decide⟩ rfl hl.1 rfl (Nat.le_of_ble_eq_true rfl) d_Rw_sameAs_33 ⟨Nat.le_of_ble_eq_true rfl, Nat.le_of_ble_eq_true rfl⟩) (fun z33_4 u H locs hp33 hX hz hk hh => ?_)
              have hh : xw_H G A H0 H locs [(r, .inr (3, [.int (xi_ (lim : Int)), .ref v, .ref ra, .int (xi_ cnt), .int (xi_ tm)])), (v, .inl (G.2.2 1, (lim * 5), .inr (.inl (jl_ vals)))), (ra, .inl (G.2.2 0, lim, .inl (ja_ rat))), (r2, .inr (3, [.int (xi_ (lim2 : Int)), .ref v2, .ref ra2, .int (xi_ cnt2), .int (xi_ tm2)])), (v2, .inl (G.2.2 1, (lim2 * 5), .inr (.inl (jl_ vals2)))), (ra2, .inl (G.2.2 0, lim2, .inl (ja_ rat2)))] := xw_H.sub hh [3, 4, 5, 0, 1, 2] rfl rfl
              rw [if_pos (by omega)] at hp33
              subst hp33
              refine lv_aload_n hx hb d_Rw_sameAs_36 rfl (lv_at hl 3 rfl) ?_
              refine lv_iload_n hx hb d_Rw_sameAs_37 rfl (lv_at hl 1 rfl) ?_
              refine lv_iload_n hx hb d_Rw_sameAs_38 rfl (lv_at hl 0 rfl) ?_
              refine xw_cl (wc := [(r2, .inr (3, [.int (xi_ (lim2 : Int)), .ref v2, .ref ra2, .int (xi_ cnt2), .int (xi_ tm2)])), (v2, .inl (G.2.2 1, (lim2 * 5), .inr (.inl (jl_ vals2)))), (ra2, .inl (G.2.2 0, lim2, .inl (ja_ rat2)))]) (wr := [(r, .inr (3, [.int (xi_ (lim : Int)), .ref v, .ref ra, .int (xi_ cnt), .int (xi_ tm)])), (v, .inl (G.2.2 1, (lim * 5), .inr (.inl (jl_ vals)))), (ra, .inl (G.2.2 0, lim, .inl (ja_ rat)))]) hh [3, 4, 5] [0, 1, 2] rfl rfl rfl (by decide) (xw_rV F hh [3, 4, 5] rfl rfl (c_Rw_value l G H.size r2 v2 ra2 lim2 cnt2 tm2 vals2 rat2 (i) 4 (by omega) (rr_rat hrr2) (by omega) (by omega)) trivial lk_Rw_41 cd_Rw_value se_Rw_value _ hh.1 3 rfl rfl rfl rfl ⟨by decide, by decide⟩ rfl hl.1 rfl (Nat.le_of_ble_eq_true rfl) d_Rw_sameAs_39 ⟨Nat.le_of_ble_eq_true rfl, Nat.le_of_ble_eq_true rfl⟩) (fun z39_4 u H locs hp39 hX hz hk hh => ?_)
              have hh : xw_H G A H0 H locs [(r, .inr (3, [.int (xi_ (lim : Int)), .ref v, .ref ra, .int (xi_ cnt), .int (xi_ tm)])), (v, .inl (G.2.2 1, (lim * 5), .inr (.inl (jl_ vals)))), (ra, .inl (G.2.2 0, lim, .inl (ja_ rat))), (r2, .inr (3, [.int (xi_ (lim2 : Int)), .ref v2, .ref ra2, .int (xi_ cnt2), .int (xi_ tm2)])), (v2, .inl (G.2.2 1, (lim2 * 5), .inr (.inl (jl_ vals2)))), (ra2, .inl (G.2.2 0, lim2, .inl (ja_ rat2)))] := hh
              rw [if_pos (by omega)] at hp39
              subst hp39
              refine xw_lcmp_eq hx hb 48 d_Rw_sameAs_42 d_Rw_sameAs_43 (by decide) ⟨hrr.2.2.2.2 _, hrr2.2.2.2.2 _⟩ (fun d4 => ?_) (fun d4 => ?_)
              · refine lv_iinc (k := 0) (v := xi_ 5) (lv' := [(3, .int (xi_ 5)), (2, .int (xi_ i)), (0, .ref r), (1, .ref r2)]) hx hb d_Rw_sameAs_48 hl rfl (by decide) (by decide) rfl (fun ls hl => ?_)
                refine lv_goto (tgt := 25) hx hb d_Rw_sameAs_51 (by decide) ?_
                refine lv_iload_n hx hb d_Rw_sameAs_25 rfl (lv_at hl 0 rfl) ?_
                refine lv_iconst (v := xi_ 5) hx hb d_Rw_sameAs_26 rfl ?_
                refine xw_icmp_ge hx hb 54 d_Rw_sameAs_27 (by decide) (by decide) (fun c27 => ?_) (fun c27 => absurd c27 (by decide))
                refine lv_iinc (k := 1) (v := xi_ (i + 1)) (lv' := [(2, .int (xi_ (i + 1))), (3, .int (xi_ 5)), (0, .ref r), (1, .ref r2)]) hx hb d_Rw_sameAs_54 hl rfl (xi_add _ _).symm (by decide) rfl (fun ls hl => ?_)
                refine lv_goto (tgt := 15) hx hb d_Rw_sameAs_57 (by decide) ?_
                refine ih (i + 1) ls H locs (by omega) (by omega) (by omega) (fun q hq2 => ?_) (lv_sub hl [0, 2, 3] rfl) hh
                by_cases h7 : (q : Int) < i
                · exact hq q h7
                · have h8 : q = i.toNat := by omega
                  rw [h8, rr_row hrr (by omega), rr_row hrr2 (by omega), rr_ro_eq d0 d1 d2 d3 d4]
              · refine kf ls H locs (fun q => ?_) (lv_sub hl [] rfl) hh
                have e1 := rr_row hrr (p := i.toNat) (by omega)
                have e2 := rr_row hrr2 (p := i.toNat) (by omega)
                rw [q, e2] at e1
                have e3 := Option.some.inj e1
                simp only [ro_, Prod.mk.injEq] at e3
                omega
            · refine kf ls H locs (fun q => ?_) (lv_sub hl [] rfl) hh
              have e1 := rr_row hrr (p := i.toNat) (by omega)
              have e2 := rr_row hrr2 (p := i.toNat) (by omega)
              rw [q, e2] at e1
              have e3 := Option.some.inj e1
              simp only [ro_, Prod.mk.injEq] at e3
              omega
          · refine kf ls H locs (fun q => ?_) (lv_sub hl [] rfl) hh
            have e1 := rr_row hrr (p := i.toNat) (by omega)
            have e2 := rr_row hrr2 (p := i.toNat) (by omega)
            rw [q, e2] at e1
            have e3 := Option.some.inj e1
            simp only [ro_, Prod.mk.injEq] at e3
            omega
        · refine kf ls H locs (fun q => ?_) (lv_sub hl [] rfl) hh
          have e1 := rr_row hrr (p := i.toNat) (by omega)
          have e2 := rr_row hrr2 (p := i.toNat) (by omega)
          rw [q, e2] at e1
          have e3 := Option.some.inj e1
          simp only [ro_, Prod.mk.injEq] at e3
          omega
      · refine kf ls H locs (fun q => ?_) (lv_sub hl [] rfl) hh
        have e1 := rr_row hrr (p := i.toNat) (by omega)
        have e2 := rr_row hrr2 (p := i.toNat) (by omega)
        rw [q, e2] at e1
        have e3 := Option.some.inj e1
        simp only [ro_, Prod.mk.injEq] at e3
        omega
set_option maxHeartbeats 4000000 in
set_option maxRecDepth 100000 in
theorem c_Rw_sameAs (l : Launch) (G : GG_) (sz : Nat) (r v ra lim : Nat) (cnt tm : Int) (vals rat : Nat → Int) (r2 v2 ra2 lim2 : Nat) (cnt2 tm2 : Int) (vals2 rat2 : Nat → Int) (st st2 : List Row_ × Bool) (hlim : (lim : Int) ≤ 200 ∧ (lim2 : Int) ≤ 200) (hrr : rr_ lim cnt tm vals rat st) (hrr2 : rr_ lim2 cnt2 tm2 vals2 rat2 st2) : Met l y_Rw_sameAs (cw_ y_Rw_sameAs b_Rw_sameAs 4 (some .boolean)) rm_Rw_sameAs (xw_P G [.ref r, .ref r2] sz [(r, .inr (3, [.int (xi_ (lim : Int)), .ref v, .ref ra, .int (xi_ cnt), .int (xi_ tm)])), (v, .inl (G.2.2 1, (lim * 5), .inr (.inl (jl_ vals)))), (ra, .inl (G.2.2 0, lim, .inl (ja_ rat))), (r2, .inr (3, [.int (xi_ (lim2 : Int)), .ref v2, .ref ra2, .int (xi_ cnt2), .int (xi_ tm2)])), (v2, .inl (G.2.2 1, (lim2 * 5), .inr (.inl (jl_ vals2)))), (ra2, .inl (G.2.2 0, lim2, .inl (ja_ rat2)))] (fun _ => True)) (xw_Qi (S := Unit) G sz [(r, .inr (3, [.int (xi_ (lim : Int)), .ref v, .ref ra, .int (xi_ cnt), .int (xi_ tm)])), (v, .inl (G.2.2 1, (lim * 5), .inr (.inl (jl_ vals)))), (ra, .inl (G.2.2 0, lim, .inl (ja_ rat))), (r2, .inr (3, [.int (xi_ (lim2 : Int)), .ref v2, .ref ra2, .int (xi_ cnt2), .int (xi_ tm2)])), (v2, .inl (G.2.2 1, (lim2 * 5), .inr (.inl (jl_ vals2)))), (ra2, .inl (G.2.2 0, lim2, .inl (ja_ rat2)))] (fun z _ => z = b2_ (decide (st.1 = st2.1))) (fun _ => [(r, .inr (3, [.int (xi_ (lim : Int)), .ref v, .ref ra, .int (xi_ cnt), .int (xi_ tm)])), (v, .inl (G.2.2 1, (lim * 5), .inr (.inl (jl_ vals)))), (ra, .inl (G.2.2 0, lim, .inl (ja_ rat))), (r2, .inr (3, [.int (xi_ (lim2 : Int)), .ref v2, .ref ra2, .int (xi_ cnt2), .int (xi_ tm2)])), (v2, .inl (G.2.2 1, (lim2 * 5), .inr (.inl (jl_ vals2)))), (ra2, .inl (G.2.2 0, lim2, .inl (ja_ rat2)))]) (fun _ _ => True)) 0 0 (va_A [(r, .inr (3, [.int (xi_ (lim : Int)), .ref v, .ref ra, .int (xi_ cnt), .int (xi_ tm)])), (v, .inl (G.2.2 1, (lim * 5), .inr (.inl (jl_ vals)))), (ra, .inl (G.2.2 0, lim, .inl (ja_ rat))), (r2, .inr (3, [.int (xi_ (lim2 : Int)), .ref v2, .ref ra2, .int (xi_ cnt2), .int (xi_ tm2)])), (v2, .inl (G.2.2 1, (lim2 * 5), .inr (.inl (jl_ vals2)))), (ra2, .inl (G.2.2 0, lim2, .inl (ja_ rat2)))] sz) := by
  refine xw_met (by decide) (Nat.le_of_ble_eq_true rfl) ?_
  intro p e s m args below meth c F hr hlk hin hsz hh hX ls hl
  subst hsz
  have hx := F.1
  have hb := F.2.1
  have hl : lv_has ls 4 [(0, .ref r), (1, .ref r2)] := hl
  have hc0 := rr_cnt hrr
  have hc20 := rr_cnt hrr2
  refine lv_aload_n hx hb d_Rw_sameAs_0 rfl (lv_at hl 0 rfl) ?_
  refine xw_get F hh.1 (v := .int (xi_ cnt)) fl_Rw_21_3 0 rfl rfl d_Rw_sameAs_1 ?_
  refine lv_aload_n hx hb d_Rw_sameAs_4 rfl (lv_at hl 1 rfl) ?_
  refine xw_get F hh.1 (v := .int (xi_ cnt2)) fl_Rw_21_3 3 rfl rfl d_Rw_sameAs_5 ?_
  refine xw_icmp_eq hx hb 13 d_Rw_sameAs_8 (by decide) (by omega) (fun c8 => ?_) (fun c8 => ?_)
  · refine lv_iconst (v := xi_ 0) hx hb d_Rw_sameAs_13 rfl ?_
    refine lv_istore_n (lv' := [(2, .int (xi_ 0)), (0, .ref r), (1, .ref r2)]) hx hb d_Rw_sameAs_14 rfl hl (by decide) rfl (fun ls hl => ?_)
    have hc := rr_cnt hrr
    have hc2 := rr_cnt hrr2
    refine lp_Rw_sameAs F r v ra lim cnt tm vals rat r2 v2 ra2 lim2 cnt2 tm2 vals2 rat2 st st2 hlim hrr hrr2 (by omega) (fun ls H locs hne hl hh => ?_) (fun ls H locs hne hl hh => ?_) (cnt.toNat + 1) 0 ls s.heap [] (by omega) (by omega) (by omega) (fun q hq => by omega) (lv_sub hl [0, 1, 2] rfl) hh
    · refine lv_iconst (v := xi_ 0) hx hb d_Rw_sameAs_46 rfl ?_
      exact xw_iret F hr hlk hh (by decide) () rfl (by first | exact b2_f (decide_eq_false hne) | exact b2_f (decide_eq_false (fun q => by have q2 := congrArg List.length q; omega))) trivial d_Rw_sameAs_47
    · refine lv_iconst (v := xi_ 1) hx hb d_Rw_sameAs_60 rfl ?_
      exact xw_iret F hr hlk hh (by decide) () rfl (by exact b2_t (decide_eq_true hne)) trivial d_Rw_sameAs_61
  · refine lv_iconst (v := xi_ 0) hx hb d_Rw_sameAs_11 rfl ?_
    exact xw_iret F hr hlk hh (by decide) () rfl (by first | exact b2_f (decide_eq_false hne) | exact b2_f (decide_eq_false (fun q => by have q2 := congrArg List.length q; omega))) trivial d_Rw_sameAs_12
