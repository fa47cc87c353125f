/-! CyclePatterns.gatherOnsets, advance -/
/-- whether a slot plays -/
def bi_ (pl n : Int) : Int := ((xi_ pl >>> (xi_ n &&& 31)) &&& xi_ 1).toInt
theorem bi_rng (pl n : Int) : -2147483648 ≤ bi_ pl n ∧ bi_ pl n ≤ 2147483647 := xi_rng _
def on_run (gsf : Nat → Int) (Tr : Nat → PT 40) (sc ss tk k n : Int) (st : List Row_ × Bool) : List Row_ × Bool := run_ 100 (sk_on n (sc * gsf n.toNat)) (gen_ 40 (Tr n.toNat) (gsf n.toNat * (1000 * ss)) 0 (tk * (sc * gsf n.toNat)) (tk * (sc * gsf n.toNat) + k * (sc * gsf n.toNat))) st
def ad_step (gsf : Nat → Int) (Tr : Nat → PT 40) (pl sc ss tk k : Int) (st : List Row_ × Bool) (n : Nat) : List Row_ × Bool := if bi_ pl (n : Int) = 1 then on_run gsf Tr sc ss tk k (n : Int) st else st
def ad_run (gsf : Nat → Int) (Tr : Nat → PT 40) (pl sc ss tk k : Int) : List Row_ × Bool := (List.range 8).foldl (ad_step gsf Tr pl sc ss tk k) ([], false)
/-- what advance answers: the answer, the tick, the rows -/
def ad_ans (gsf : Nat → Int) (Tr : Nat → PT 40) (pl sc ss tk : Int) (st : List Row_ × Bool) (k : Int) : Int × Int × (List Row_ × Bool) :=
  if pl = 0 ∨ k < 1 ∨ 500 < k then (-1, tk, st) else if (ad_run gsf Tr pl sc ss tk k).2 = true then (-2, tk, ([], false)) else (((ad_run gsf Tr pl sc ss tk k).1.length : Int), tk + k, ad_run gsf Tr pl sc ss tk k)
def rm_X_gatherOnsets : Room := { frames := 211, cells := 0, slots := 0, locals := 8333 }
set_option maxHeartbeats 4000000 in
set_option maxRecDepth 100000 in
theorem c_X_gatherOnsets (l : Launch) (G : GG_) (sz : Nat) (xo rd pa gs fo p1 p2 du : Nat) (fu pl sc ss tk : Int) (slot tl : Int) (r v ra : Nat) (cnt tm : Int) (vals rat : Nat → Int) (st : List Row_ × Bool) (paf : Nat → Option Nat) (gsf : Nat → Int) (Tr : Nat → PT 40) (hsp : sp_ok gsf Tr) (Sd : Nat → Prop) (hSd : ∀ q : Nat, Sd q → q ∉ [xo, pa, gs, du, r, v, ra]) (hsc : 1 ≤ sc ∧ sc ≤ 20) (hss : 1 ≤ ss ∧ ss ≤ 20) (htk : 0 ≤ tk ∧ tk ≤ 10000000) (n k : Int) (hn : 0 ≤ n ∧ n < 8) (hk9 : 1 ≤ k ∧ k ≤ 500) (hrr : rr_ 100 cnt tm vals rat st) : Met l y_X_gatherOnsets (cw_ y_X_gatherOnsets b_X_gatherOnsets 9 none) rm_X_gatherOnsets (xw_P G [.ref xo, .int (xi_ n), .int (xi_ k)] sz [(xo, .inr (0, xo_ rd pa gs fo p1 p2 du fu pl sc ss tk)), (pa, .inl (G.2.2 4, 8, .inr (.inr (.inr (.inr paf))))), (gs, .inl (G.2.2 0, 8, .inl (ja_ gsf))), (du, .inr (5, [.ref r, .int (xi_ slot), .long (xl_ tl)])), (r, .inr (3, [.int (xi_ (100 : Int)), .ref v, .ref ra, .int (xi_ cnt), .int (xi_ tm)])), (v, .inl (G.2.2 1, (100 * 5), .inr (.inl (jl_ vals)))), (ra, .inl (G.2.2 0, 100, .inl (ja_ rat)))] (sh_ok G Sd paf Tr)) (xw_Qv (S := Int × Int × (Nat → Int) × (Nat → Int)) G sz [(xo, .inr (0, xo_ rd pa gs fo p1 p2 du fu pl sc ss tk)), (pa, .inl (G.2.2 4, 8, .inr (.inr (.inr (.inr paf))))), (gs, .inl (G.2.2 0, 8, .inl (ja_ gsf))), (du, .inr (5, [.ref r, .int (xi_ slot), .long (xl_ tl)])), (r, .inr (3, [.int (xi_ (100 : Int)), .ref v, .ref ra, .int (xi_ cnt), .int (xi_ tm)])), (v, .inl (G.2.2 1, (100 * 5), .inr (.inl (jl_ vals)))), (ra, .inl (G.2.2 0, 100, .inl (ja_ rat)))] (fun u => rr_ 100 u.1 u.2.1 u.2.2.1 u.2.2.2 (on_run gsf Tr sc ss tk k n st)) (fun u => [(xo, .inr (0, xo_ rd pa gs fo p1 p2 du fu pl sc ss tk)), (pa, .inl (G.2.2 4, 8, .inr (.inr (.inr (.inr paf))))), (gs, .inl (G.2.2 0, 8, .inl (ja_ gsf))), (du, .inr (5, [.ref r, .int (xi_ n), .long (xl_ (sc * gsf n.toNat))])), (r, .inr (3, [.int (xi_ (100 : Int)), .ref v, .ref ra, .int (xi_ u.1), .int (xi_ u.2.1)])), (v, .inl (G.2.2 1, (100 * 5), .inr (.inl (jl_ u.2.2.1)))), (ra, .inl (G.2.2 0, 100, .inl (ja_ u.2.2.2)))]) (fun _ _ => True)) 0 0 (va_A [(xo, .inr (0, xo_ rd pa gs fo p1 p2 du fu pl sc ss tk)), (pa, .inl (G.2.2 4, 8, .inr (.inr (.inr (.inr paf))))), (gs, .inl (G.2.2 0, 8, .inl (ja_ gsf))), (du, .inr (5, [.ref r, .int (xi_ slot), .long (xl_ tl)])), (r, .inr (3, [.int (xi_ (100 : Int)), .ref v, .ref ra, .int (xi_ cnt), .int (xi_ tm)])), (v, .inl (G.2.2 1, (100 * 5), .inr (.inl (jl_ vals)))), (ra, .inl (G.2.2 0, 100, .inl (ja_ rat)))] sz) := by
  refine xw_met (by decide) (Nat.le_of_ble_eq_true rfl) ?_
  intro p0 e0 s m0 args below meth c0 F hr hlk hin hsz hh hX ls hl
  subst hsz
  have hx := F.1
  have hb := F.2.1
  have hl : lv_has ls 9 [(0, .ref xo), (1, .int (xi_ n)), (2, .int (xi_ k))] := hl
  have hX0 := hX
  have hA : ∀ q : Nat, Sd q → q < s.heap.size → ¬ va_A [(xo, .inr (0, xo_ rd pa gs fo p1 p2 du fu pl sc ss tk)), (pa, .inl (G.2.2 4, 8, .inr (.inr (.inr (.inr paf))))), (gs, .inl (G.2.2 0, 8, .inl (ja_ gsf))), (du, .inr (5, [.ref r, .int (xi_ slot), .long (xl_ tl)])), (r, .inr (3, [.int (xi_ (100 : Int)), .ref v, .ref ra, .int (xi_ cnt), .int (xi_ tm)])), (v, .inl (G.2.2 1, (100 * 5), .inr (.inl (jl_ vals)))), (ra, .inl (G.2.2 0, 100, .inl (ja_ rat)))] s.heap.size q := fun q hq hl => not_inL (as := [xo, pa, gs, du, r, v, ra]) rfl (hSd q hq) hl
  obtain ⟨hwf, hgn, hg1, hg2⟩ := hsp n.toNat (by omega)
  obtain ⟨bq, hbq, hnt⟩ := hX0 n.toNat (by omega)
  have hg8 : ∀ j : Nat, j < 8 → 1 ≤ gsf j ∧ gsf j ≤ 5040 := fun j hj => (hsp j hj).2.2
  have hT1 : 1 * 1 ≤ sc * gsf n.toNat ∧ sc * gsf n.toNat ≤ 20 * 5040 := ⟨Int.mul_le_mul (by omega) (by omega) (by omega) (by omega), Int.mul_le_mul (by omega) (by omega) (by omega) (by omega)⟩
  have hT2 : 0 ≤ tk * (sc * gsf n.toNat) ∧ tk * (sc * gsf n.toNat) ≤ 10000000 * (20 * 5040) := ⟨Int.mul_nonneg (by omega) (by omega), Int.mul_le_mul (by omega) hT1.2 (by omega) (by omega)⟩
  have hT3 : 0 ≤ k * (sc * gsf n.toNat) ∧ k * (sc * gsf n.toNat) ≤ 500 * (20 * 5040) := ⟨Int.mul_nonneg (by omega) (by omega), Int.mul_le_mul (by omega) hT1.2 (by omega) (by omega)⟩
  refine lv_aload_n hx hb d_X_gatherOnsets_0 rfl (lv_at hl 0 rfl) ?_
  refine lv_iload_n hx hb d_X_gatherOnsets_1 rfl (lv_at hl 1 rfl) ?_
  refine xw_cl (wc := [(xo, .inr (0, xo_ rd pa gs fo p1 p2 du fu pl sc ss tk)), (gs, .inl (G.2.2 0, 8, .inl (ja_ gsf)))]) (wr := [(pa, .inl (G.2.2 4, 8, .inr (.inr (.inr (.inr paf))))), (du, .inr (5, [.ref r, .int (xi_ slot), .long (xl_ tl)])), (r, .inr (3, [.int (xi_ (100 : Int)), .ref v, .ref ra, .int (xi_ cnt), .int (xi_ tm)])), (v, .inl (G.2.2 1, (100 * 5), .inr (.inl (jl_ vals)))), (ra, .inl (G.2.2 0, 100, .inl (ja_ rat)))]) hh [0, 2] [1, 3, 4, 5, 6] rfl rfl rfl (by decide) (xw_rV F hh [0, 2] rfl rfl (c_X_tickLength l G s.heap.size xo rd pa gs fo p1 p2 du fu pl sc ss tk gsf n hn hg8 (by omega)) trivial lk_X_138 cd_X_tickLength se_X_tickLength _ hh.1 0 rfl rfl rfl rfl ⟨by decide, by decide⟩ rfl hl.1 rfl (Nat.le_of_ble_eq_true rfl) d_X_gatherOnsets_2 ⟨Nat.le_of_ble_eq_true rfl, Nat.le_of_ble_eq_true rfl⟩) (fun z2 u_ H locs hp2 hX hz hk hh => ?_)
  have hh : xw_H G (va_A [(xo, .inr (0, xo_ rd pa gs fo p1 p2 du fu pl sc ss tk)), (pa, .inl (G.2.2 4, 8, .inr (.inr (.inr (.inr paf))))), (gs, .inl (G.2.2 0, 8, .inl (ja_ gsf))), (du, .inr (5, [.ref r, .int (xi_ slot), .long (xl_ tl)])), (r, .inr (3, [.int (xi_ (100 : Int)), .ref v, .ref ra, .int (xi_ cnt), .int (xi_ tm)])), (v, .inl (G.2.2 1, (100 * 5), .inr (.inl (jl_ vals)))), (ra, .inl (G.2.2 0, 100, .inl (ja_ rat)))] s.heap.size) s.heap H locs [(xo, .inr (0, xo_ rd pa gs fo p1 p2 du fu pl sc ss tk)), (pa, .inl (G.2.2 4, 8, .inr (.inr (.inr (.inr paf))))), (gs, .inl (G.2.2 0, 8, .inl (ja_ gsf))), (du, .inr (5, [.ref r, .int (xi_ slot), .long (xl_ tl)])), (r, .inr (3, [.int (xi_ (100 : Int)), .ref v, .ref ra, .int (xi_ cnt), .int (xi_ tm)])), (v, .inl (G.2.2 1, (100 * 5), .inr (.inl (jl_ vals)))), (ra, .inl (G.2.2 0, 100, .inl (ja_ rat)))] := xw_H.sub hh [5, 0, 6, 1, 2, 3, 4] rfl rfl
  obtain rfl : z2 = sc * gsf n.toNat := hp2
  refine lv_lstore_n (lv' := [(3, .long (xl_ (sc * gsf n.toNat))), (0, .ref xo), (1, .int (xi_ n)), (2, .int (xi_ k))]) hx hb d_X_gatherOnsets_5 rfl hl (by decide) rfl (fun ls hl => ?_)
  refine lv_ldc2 (v := xl_ 1000) hx hb F.2.2.2.1 (F.2.2.2.2.1 _ k_X_141) d_X_gatherOnsets_6 ?_
  refine lv_aload_n hx hb d_X_gatherOnsets_9 rfl (lv_at hl 1 rfl) ?_
  refine xw_get F hh.1 (v := .int (xi_ ss)) fl_X_117_0 0 rfl rfl d_X_gatherOnsets_10 ?_
  refine xw_i2l hx hb d_X_gatherOnsets_13 (by omega) ?_
  refine xw_lmul hx hb d_X_gatherOnsets_14 ?_
  refine lv_aload_n hx hb d_X_gatherOnsets_15 rfl (lv_at hl 1 rfl) ?_
  refine xw_get F hh.1 (v := .ref gs) fl_X_22_0 0 rfl rfl d_X_gatherOnsets_16 ?_
  refine lv_iload_n hx hb d_X_gatherOnsets_19 rfl (lv_at hl 2 rfl) ?_
  refine xw_iald F hh.1 2 (f := gsf) rfl (i := n) (by omega) d_X_gatherOnsets_20 ?_
  refine xw_i2l hx hb d_X_gatherOnsets_21 (by omega) ?_
  refine xw_lmul hx hb d_X_gatherOnsets_22 ?_
  refine xw_topl (y := gsf n.toNat * (1000 * ss)) (Int.mul_comm _ _) ?_
  refine lv_lstore (lv' := [(5, .long (xl_ (gsf n.toNat * (1000 * ss)))), (3, .long (xl_ (sc * gsf n.toNat))), (0, .ref xo), (1, .int (xi_ n)), (2, .int (xi_ k))]) hx hb d_X_gatherOnsets_23 hl (by decide) rfl (fun ls hl => ?_)
  refine lv_aload_n hx hb d_X_gatherOnsets_25 rfl (lv_at hl 2 rfl) ?_
  refine xw_get F hh.1 (v := .long (xl_ tk)) fl_X_130_0 0 rfl rfl d_X_gatherOnsets_26 ?_
  refine lv_lload_n hx hb d_X_gatherOnsets_29 rfl (lv_at hl 1 rfl) ?_
  refine xw_lmul hx hb d_X_gatherOnsets_30 ?_
  refine lv_lstore (lv' := [(7, .long (xl_ (tk * (sc * gsf n.toNat)))), (5, .long (xl_ (gsf n.toNat * (1000 * ss)))), (3, .long (xl_ (sc * gsf n.toNat))), (0, .ref xo), (1, .int (xi_ n)), (2, .int (xi_ k))]) hx hb d_X_gatherOnsets_31 hl (by decide) rfl (fun ls hl => ?_)
  refine lv_aload_n hx hb d_X_gatherOnsets_33 rfl (lv_at hl 3 rfl) ?_
  refine xw_get F hh.1 (v := .ref du) fl_X_49_0 0 rfl rfl d_X_gatherOnsets_34 ?_
  refine lv_iload_n hx hb d_X_gatherOnsets_37 rfl (lv_at hl 4 rfl) ?_
  refine xw_put F hh fp_X_143_5 3 rfl rfl rfl (Nat.le_of_ble_eq_true rfl) d_X_gatherOnsets_38 (fun H locs hh => ?_)
  have hh : xw_H G (va_A [(xo, .inr (0, xo_ rd pa gs fo p1 p2 du fu pl sc ss tk)), (pa, .inl (G.2.2 4, 8, .inr (.inr (.inr (.inr paf))))), (gs, .inl (G.2.2 0, 8, .inl (ja_ gsf))), (du, .inr (5, [.ref r, .int (xi_ slot), .long (xl_ tl)])), (r, .inr (3, [.int (xi_ (100 : Int)), .ref v, .ref ra, .int (xi_ cnt), .int (xi_ tm)])), (v, .inl (G.2.2 1, (100 * 5), .inr (.inl (jl_ vals)))), (ra, .inl (G.2.2 0, 100, .inl (ja_ rat)))] s.heap.size) s.heap H locs [(xo, .inr (0, xo_ rd pa gs fo p1 p2 du fu pl sc ss tk)), (pa, .inl (G.2.2 4, 8, .inr (.inr (.inr (.inr paf))))), (gs, .inl (G.2.2 0, 8, .inl (ja_ gsf))), (du, .inr (5, [.ref r, .int (xi_ n), .long (xl_ tl)])), (r, .inr (3, [.int (xi_ (100 : Int)), .ref v, .ref ra, .int (xi_ cnt), .int (xi_ tm)])), (v, .inl (G.2.2 1, (100 * 5), .inr (.inl (jl_ vals)))), (ra, .inl (G.2.2 0, 100, .inl (ja_ rat)))] := hh
  refine lv_aload_n hx hb d_X_gatherOnsets_41 rfl (lv_at hl 3 rfl) ?_
  refine xw_get F hh.1 (v := .ref du) fl_X_49_0 0 rfl rfl d_X_gatherOnsets_42 ?_
  refine lv_lload_n hx hb d_X_gatherOnsets_45 rfl (lv_at hl 2 rfl) ?_
  refine xw_put F hh fp_X_146_5 3 rfl rfl rfl (Nat.le_of_ble_eq_true rfl) d_X_gatherOnsets_46 (fun H locs hh => ?_)
  have hh : xw_H G (va_A [(xo, .inr (0, xo_ rd pa gs fo p1 p2 du fu pl sc ss tk)), (pa, .inl (G.2.2 4, 8, .inr (.inr (.inr (.inr paf))))), (gs, .inl (G.2.2 0, 8, .inl (ja_ gsf))), (du, .inr (5, [.ref r, .int (xi_ slot), .long (xl_ tl)])), (r, .inr (3, [.int (xi_ (100 : Int)), .ref v, .ref ra, .int (xi_ cnt), .int (xi_ tm)])), (v, .inl (G.2.2 1, (100 * 5), .inr (.inl (jl_ vals)))), (ra, .inl (G.2.2 0, 100, .inl (ja_ rat)))] s.heap.size) s.heap H locs [(xo, .inr (0, xo_ rd pa gs fo p1 p2 du fu pl sc ss tk)), (pa, .inl (G.2.2 4, 8, .inr (.inr (.inr (.inr paf))))), (gs, .inl (G.2.2 0, 8, .inl (ja_ gsf))), (du, .inr (5, [.ref r, .int (xi_ n), .long (xl_ (sc * gsf n.toNat))])), (r, .inr (3, [.int (xi_ (100 : Int)), .ref v, .ref ra, .int (xi_ cnt), .int (xi_ tm)])), (v, .inl (G.2.2 1, (100 * 5), .inr (.inl (jl_ vals)))), (ra, .inl (G.2.2 0, 100, .inl (ja_ rat)))] := hh
  refine lv_aload_n hx hb d_X_gatherOnsets_49 rfl (lv_at hl 3 rfl) ?_
  refine xw_get F hh.1 (v := .ref du) fl_X_49_0 0 rfl rfl d_X_gatherOnsets_50 ?_
  refine lv_aload_n hx hb d_X_gatherOnsets_53 rfl (lv_at hl 3 rfl) ?_
  refine xw_get F hh.1 (v := .ref pa) fl_X_18_0 0 rfl rfl d_X_gatherOnsets_54 ?_
  refine lv_iload_n hx hb d_X_gatherOnsets_57 rfl (lv_at hl 4 rfl) ?_
  refine xw_aald F hh.1 1 (f := paf) rfl (i := n) (by omega) (x := some bq) hbq d_X_gatherOnsets_58 ?_
  refine lv_lload hx hb d_X_gatherOnsets_59 (lv_at hl 1 rfl) ?_
  refine lv_lconst (v := xl_ 0) hx hb d_X_gatherOnsets_61 (by decide) ?_
  refine lv_lload hx hb d_X_gatherOnsets_62 (lv_at hl 0 rfl) ?_
  refine lv_lload hx hb d_X_gatherOnsets_64 (lv_at hl 0 rfl) ?_
  refine lv_iload_n hx hb d_X_gatherOnsets_66 rfl (lv_at hl 5 rfl) ?_
  refine xw_i2l hx hb d_X_gatherOnsets_67 (by omega) ?_
  refine lv_lload_n hx hb d_X_gatherOnsets_68 rfl (lv_at hl 2 rfl) ?_
  refine xw_lmul hx hb d_X_gatherOnsets_69 ?_
  refine xw_ladd hx hb d_X_gatherOnsets_70 ?_
  refine lv_iconst (v := xi_ 1) hx hb d_X_gatherOnsets_71 rfl ?_
  refine xw_cv (wc := [(du, .inr (5, [.ref r, .int (xi_ n), .long (xl_ (sc * gsf n.toNat))])), (r, .inr (3, [.int (xi_ (100 : Int)), .ref v, .ref ra, .int (xi_ cnt), .int (xi_ tm)])), (v, .inl (G.2.2 1, (100 * 5), .inr (.inl (jl_ vals)))), (ra, .inl (G.2.2 0, 100, .inl (ja_ rat)))]) (wr := [(xo, .inr (0, xo_ rd pa gs fo p1 p2 du fu pl sc ss tk)), (pa, .inl (G.2.2 4, 8, .inr (.inr (.inr (.inr paf))))), (gs, .inl (G.2.2 0, 8, .inl (ja_ gsf)))]) hh [3, 4, 5, 6] [0, 1, 2] rfl rfl rfl (by decide) (xw_rU F hh [3, 4, 5, 6] rfl rfl (x := ⟨"CyclePatterns$Onsets", "walk", "(LCyclePatterns$Node;JJJJI)V"⟩) (owner := "CyclePatterns$Walk") (walk_all_On l G 40 H.size du r v ra cnt tm vals rat st n (sc * gsf n.toNat) ⟨by omega, by omega, by omega, by omega⟩ Sd (some bq) (some (Tr n.toNat)) (gsf n.toNat * (1000 * ss)) 0 (tk * (sc * gsf n.toNat)) (tk * (sc * gsf n.toNat) + k * (sc * gsf n.toNat)) (fun q hq => by
    have h9 := hSd q hq
    simp only [List.mem_cons, List.not_mem_nil, not_or, or_false] at h9
    omega) hrr (fun y hy => by
    cases hy
    exact wok_top hsp (by omega) (by omega) (by omega) (by omega)) (by omega) (by decide)) (nt_now hA hnt hh) lk_X_148' cd_Wk_walk ⟨is_Wk_walk, sl_walk_On, sm_walk_On⟩ (va_Decl.abs (F.2.2.2.2.2.2.1 _ dn_walk)) ⟨by decide, by decide, by decide +kernel⟩ _ hh.1 3 rfl rfl rfl rfl ⟨by decide, by decide⟩ rfl hl.1 rfl (Nat.le_of_ble_eq_true rfl) d_X_gatherOnsets_72 ⟨Nat.zero_le _, Nat.zero_le _⟩) (fun u H locs hp72 hX hz hk hh => ?_)
  have hh : xw_H G (va_A [(xo, .inr (0, xo_ rd pa gs fo p1 p2 du fu pl sc ss tk)), (pa, .inl (G.2.2 4, 8, .inr (.inr (.inr (.inr paf))))), (gs, .inl (G.2.2 0, 8, .inl (ja_ gsf))), (du, .inr (5, [.ref r, .int (xi_ slot), .long (xl_ tl)])), (r, .inr (3, [.int (xi_ (100 : Int)), .ref v, .ref ra, .int (xi_ cnt), .int (xi_ tm)])), (v, .inl (G.2.2 1, (100 * 5), .inr (.inl (jl_ vals)))), (ra, .inl (G.2.2 0, 100, .inl (ja_ rat)))] s.heap.size) s.heap H locs [(xo, .inr (0, xo_ rd pa gs fo p1 p2 du fu pl sc ss tk)), (pa, .inl (G.2.2 4, 8, .inr (.inr (.inr (.inr paf))))), (gs, .inl (G.2.2 0, 8, .inl (ja_ gsf))), (du, .inr (5, [.ref r, .int (xi_ n), .long (xl_ (sc * gsf n.toNat))])), (r, .inr (3, [.int (xi_ (100 : Int)), .ref v, .ref ra, .int (xi_ u.1), .int (xi_ u.2.1)])), (v, .inl (G.2.2 1, (100 * 5), .inr (.inl (jl_ u.2.2.1)))), (ra, .inl (G.2.2 0, 100, .inl (ja_ u.2.2.2)))] := hh
  exact xw_vret F hr hlk hh u rfl hp72 trivial d_X_gatherOnsets_75
def rm_X_advance : Room := { frames := 212, cells := 0, slots := 0, locals := 8361 }
set_option maxHeartbeats 4000000 in
set_option maxRecDepth 100000 in
theorem lp_X_advance {p0 : Program} {l : Launch} {e0 : Env} {s : State} {m0 : MethodId} {args : Array Value} {below : List Frame} {meth : Method} {c0 : Code} {Q : State → Prop} {G : GG_} {A : Nat → Prop} {H0 : Heap} (F : xw_F p0 s m0 args c0 b_X_advance 3 R_X G) (xo rd pa gs fo p1 p2 du : Nat) (fu pl sc ss tk : Int) (r v ra : Nat) (paf : Nat → Option Nat) (gsf : Nat → Int) (Tr : Nat → PT 40) (hsp : sp_ok gsf Tr) (Sd : Nat → Prop) (hSd : ∀ q : Nat, Sd q → q ∉ [xo, pa, gs, du, r, v, ra]) (hsc : 1 ≤ sc ∧ sc ≤ 20) (hss : 1 ≤ ss ∧ ss ≤ 20) (htk : 0 ≤ tk ∧ tk ≤ 10000000) (k : Int) (hk9 : 1 ≤ k ∧ k ≤ 500) (hX0 : sh_ok G Sd paf Tr H0) (hA : ∀ q : Nat, Sd q → q < H0.size → ¬ A q) (TG : List Row_ × Bool)
    (kt : ∀ (u : Int × Int × Int × Int × (Nat → Int) × (Nat → Int)) (ls : Array Slot) (H : Heap) (locs : List Loc), rr_ 100 u.2.2.1 u.2.2.2.1 u.2.2.2.2.1 u.2.2.2.2.2 TG → lv_has ls 3 [(0, .ref xo), (1, .int (xi_ k))] → xw_H G A H0 H locs [(xo, .inr (0, xo_ rd pa gs fo p1 p2 du fu pl sc ss tk)), (pa, .inl (G.2.2 4, 8, .inr (.inr (.inr (.inr paf))))), (gs, .inl (G.2.2 0, 8, .inl (ja_ gsf))), (du, .inr (5, [.ref r, .int (xi_ u.1), .long (xl_ u.2.1)])), (r, .inr (3, [.int (xi_ (100 : Int)), .ref v, .ref ra, .int (xi_ u.2.2.1), .int (xi_ u.2.2.2.1)])), (v, .inl (G.2.2 1, (100 * 5), .inr (.inl (jl_ u.2.2.2.2.1)))), (ra, .inl (G.2.2 0, 100, .inl (ja_ u.2.2.2.2.2)))] → W p0 l e0 rm_X_advance s m0 args below meth c0 H locs 0 0 Q (F0 m0 63 ls [])) :
    ∀ (N : Nat) (i sl0 tl0 cnt tm : Int) (vals rat : Nat → Int) (st : List Row_ × Bool) (ls : Array Slot) (H : Heap) (locs : List Loc), (8 - i).toNat < N → 0 ≤ i → i ≤ 8 → rr_ 100 cnt tm vals rat st → ((List.range 8).drop i.toNat).foldl (ad_step gsf Tr pl sc ss tk k) st = TG → lv_has ls 3 [(2, .int (xi_ i)), (0, .ref xo), (1, .int (xi_ k))] → xw_H G A H0 H locs [(xo, .inr (0, xo_ rd pa gs fo p1 p2 du fu pl sc ss tk)), (pa, .inl (G.2.2 4, 8, .inr (.inr (.inr (.inr paf))))), (gs, .inl (G.2.2 0, 8, .inl (ja_ gsf))), (du, .inr (5, [.ref r, .int (xi_ sl0), .long (xl_ tl0)])), (r, .inr (3, [.int (xi_ (100 : Int)), .ref v, .ref ra, .int (xi_ cnt), .int (xi_ tm)])), (v, .inl (G.2.2 1, (100 * 5), .inr (.inl (jl_ vals)))), (ra, .inl (G.2.2 0, 100, .inl (ja_ rat)))] → W p0 l e0 rm_X_advance s m0 args below meth c0 H locs 0 0 Q (F0 m0 33 ls []) := by
  have hx := F.1
  have hb := F.2.1
  intro N
  induction N with
  | zero => intro i sl0 tl0 cnt tm vals rat st ls H locs h; omega
  | succ N ihn =>
    intro i sl0 tl0 cnt tm vals rat st ls H locs hN1 hi0 hi1 hrr hTG hl hh
    have hbr := bi_rng pl i
    refine lv_iload_n hx hb d_X_advance_33 rfl (lv_at hl 0 rfl) ?_
    refine lv_bipush (v := xi_ 8) hx hb d_X_advance_34 (by decide) ?_
    refine xw_icmp_ge hx hb 63 d_X_advance_36 (by decide) (by omega) (fun c36 => ?_) (fun c36 => ?_)
    · have e8 : st = TG := by
        rw [List.drop_eq_nil_of_le (by rw [List.length_range]; omega)] at hTG
        exact hTG
      rw [e8] at hrr
      exact kt (sl0, tl0, cnt, tm, vals, rat) ls H locs hrr (lv_sub hl [1, 2] rfl) hh
    · refine lv_aload_n hx hb d_X_advance_39 rfl (lv_at hl 1 rfl) ?_
      refine xw_get F hh.1 (v := .int (xi_ pl)) fl_X_111_0 0 rfl rfl d_X_advance_40 ?_
      refine lv_iload_n hx hb d_X_advance_43 rfl (lv_at hl 0 rfl) ?_
      refine lv_ishr hx hb d_X_advance_44 ?_
      refine lv_iconst (v := xi_ 1) hx hb d_X_advance_45 rfl ?_
      refine lv_iand hx hb d_X_advance_46 ?_
      rw [← xi_of (_ &&& xi_ 1)]
      refine lv_iconst (v := xi_ 1) hx hb d_X_advance_47 rfl ?_
      refine xw_icmp_ne (a := bi_ pl i) hx hb 57 d_X_advance_48 (by decide) (by omega) (fun c48 => ?_) (fun c48 => ?_)
      · have eS : ad_step gsf Tr pl sc ss tk k st i.toNat = st := by
          unfold ad_step
          rw [show ((i.toNat : Nat) : Int) = i by omega, if_neg c48]
        refine lv_iinc (k := 0) (v := xi_ (i + 1)) (lv' := [(2, .int (xi_ (i + 1))), (0, .ref xo), (1, .int (xi_ k))]) hx hb d_X_advance_57 hl rfl (xi_add _ _).symm (by decide) rfl (fun ls hl => ?_)
        refine lv_goto (tgt := 33) hx hb d_X_advance_60 (by decide) ?_
        refine ihn (i + 1) sl0 (tl0) cnt tm (vals) (rat) st ls H locs (by omega) (by omega) (by omega) hrr ?_ (lv_sub hl [0, 1, 2] rfl) hh
        have e9 : (List.range 8).drop i.toNat = i.toNat :: (List.range 8).drop (i.toNat + 1) := drop_cons (by rw [List.getElem?_range (by omega)])
        rw [e9, List.foldl_cons, eS] at hTG
        rw [show (i + 1).toNat = i.toNat + 1 by omega]
        exact hTG
      · have eS : ad_step gsf Tr pl sc ss tk k st i.toNat = on_run gsf Tr sc ss tk k i st := by
          unfold ad_step
          rw [show ((i.toNat : Nat) : Int) = i by omega, if_pos (by omega)]
        refine lv_aload_n hx hb d_X_advance_51 rfl (lv_at hl 1 rfl) ?_
        refine lv_iload_n hx hb d_X_advance_52 rfl (lv_at hl 0 rfl) ?_
        refine lv_iload_n hx hb d_X_advance_53 rfl (lv_at hl 2 rfl) ?_
        refine xw_cv (wc := [(xo, .inr (0, xo_ rd pa gs fo p1 p2 du fu pl sc ss tk)), (pa, .inl (G.2.2 4, 8, .inr (.inr (.inr (.inr paf))))), (gs, .inl (G.2.2 0, 8, .inl (ja_ gsf))), (du, .inr (5, [.ref r, .int (xi_ sl0), .long (xl_ tl0)])), (r, .inr (3, [.int (xi_ (100 : Int)), .ref v, .ref ra, .int (xi_ cnt), .int (xi_ tm)])), (v, .inl (G.2.2 1, (100 * 5), .inr (.inl (jl_ vals)))), (ra, .inl (G.2.2 0, 100, .inl (ja_ rat)))]) (wr := []) hh [0, 1, 2, 3, 4, 5, 6] [] rfl rfl rfl (by decide) (xw_rV F hh [0, 1, 2, 3, 4, 5, 6] rfl rfl (c_X_gatherOnsets l G H.size xo rd pa gs fo p1 p2 du fu pl sc ss tk sl0 tl0 r v ra cnt tm vals rat st paf gsf Tr hsp Sd hSd hsc hss htk i k ⟨by omega, by omega⟩ hk9 hrr) (fun j hj => (hX0 j hj).elim (fun b hb => ⟨b, hb.1, nt_now hA hb.2 hh⟩)) lk_X_122 cd_X_gatherOnsets se_X_gatherOnsets _ hh.1 0 rfl rfl rfl rfl ⟨by decide, by decide⟩ rfl hl.1 rfl (Nat.le_of_ble_eq_true rfl) d_X_advance_54 ⟨Nat.le_of_ble_eq_true rfl, Nat.le_of_ble_eq_true rfl⟩) (fun u H locs hp54 hX hz hk hh => ?_)
        have hh : xw_H G A H0 H locs [(xo, .inr (0, xo_ rd pa gs fo p1 p2 du fu pl sc ss tk)), (pa, .inl (G.2.2 4, 8, .inr (.inr (.inr (.inr paf))))), (gs, .inl (G.2.2 0, 8, .inl (ja_ gsf))), (du, .inr (5, [.ref r, .int (xi_ i), .long (xl_ (sc * gsf i.toNat))])), (r, .inr (3, [.int (xi_ (100 : Int)), .ref v, .ref ra, .int (xi_ u.1), .int (xi_ u.2.1)])), (v, .inl (G.2.2 1, (100 * 5), .inr (.inl (jl_ u.2.2.1)))), (ra, .inl (G.2.2 0, 100, .inl (ja_ u.2.2.2)))] := hh
        refine lv_iinc (k := 0) (v := xi_ (i + 1)) (lv' := [(2, .int (xi_ (i + 1))), (0, .ref xo), (1, .int (xi_ k))]) hx hb d_X_advance_57 hl rfl (xi_add _ _).symm (by decide) rfl (fun ls hl => ?_)
        refine lv_goto (tgt := 33) hx hb d_X_advance_60 (by decide) ?_
        refine ihn (i + 1) i (sc * gsf i.toNat) u.1 u.2.1 (u.2.2.1) (u.2.2.2) (on_run gsf Tr sc ss tk k i st) ls H locs (by omega) (by omega) (by omega) hp54 ?_ (lv_sub hl [0, 1, 2] rfl) hh
        have e9 : (List.range 8).drop i.toNat = i.toNat :: (List.range 8).drop (i.toNat + 1) := drop_cons (by rw [List.getElem?_range (by omega)])
        rw [e9, List.foldl_cons, eS] at hTG
        rw [show (i + 1).toNat = i.toNat + 1 by omega]
        exact hTG
set_option maxHeartbeats 4000000 in
set_option maxRecDepth 100000 in
theorem c_X_advance (l : Launch) (G : GG_) (sz : Nat) (xo rd pa gs fo p1 p2 du : Nat) (fu pl sc ss tk : Int) (slot tl : Int) (r v ra : Nat) (cnt tm : Int) (vals rat : Nat → Int) (st : List Row_ × Bool) (paf : Nat → Option Nat) (gsf : Nat → Int) (Tr : Nat → PT 40) (hsp : sp_ok gsf Tr) (Sd : Nat → Prop) (hSd : ∀ q : Nat, Sd q → q ∉ [xo, pa, gs, du, r, v, ra]) (hp0 : pl = 0 ∨ (1 ≤ sc ∧ sc ≤ 20 ∧ 1 ≤ ss ∧ ss ≤ 20)) (hpl : 0 ≤ pl ∧ pl ≤ 255) (htk : 0 ≤ tk ∧ tk ≤ 10000000) (k : Int) (hk0 : (-2147483648 ≤ k ∧ k ≤ 2147483647)) (hrr : rr_ 100 cnt tm vals rat st) : Met l y_X_advance (cw_ y_X_advance b_X_advance 3 (some .int)) rm_X_advance (xw_P G [.ref xo, .int (xi_ k)] sz [(xo, .inr (0, xo_ rd pa gs fo p1 p2 du fu pl sc ss tk)), (pa, .inl (G.2.2 4, 8, .inr (.inr (.inr (.inr paf))))), (gs, .inl (G.2.2 0, 8, .inl (ja_ gsf))), (du, .inr (5, [.ref r, .int (xi_ slot), .long (xl_ tl)])), (r, .inr (3, [.int (xi_ (100 : Int)), .ref v, .ref ra, .int (xi_ cnt), .int (xi_ tm)])), (v, .inl (G.2.2 1, (100 * 5), .inr (.inl (jl_ vals)))), (ra, .inl (G.2.2 0, 100, .inl (ja_ rat)))] (sh_ok G Sd paf Tr)) (xw_Qi (S := Int × Int × Int × Int × (Nat → Int) × (Nat → Int) × Int) G sz [(xo, .inr (0, xo_ rd pa gs fo p1 p2 du fu pl sc ss tk)), (pa, .inl (G.2.2 4, 8, .inr (.inr (.inr (.inr paf))))), (gs, .inl (G.2.2 0, 8, .inl (ja_ gsf))), (du, .inr (5, [.ref r, .int (xi_ slot), .long (xl_ tl)])), (r, .inr (3, [.int (xi_ (100 : Int)), .ref v, .ref ra, .int (xi_ cnt), .int (xi_ tm)])), (v, .inl (G.2.2 1, (100 * 5), .inr (.inl (jl_ vals)))), (ra, .inl (G.2.2 0, 100, .inl (ja_ rat)))] (fun z u => ∃ st2, (z, u.2.2.2.2.2.2, st2) = ad_ans gsf Tr pl sc ss tk st k ∧ rr_ 100 u.2.2.1 u.2.2.2.1 u.2.2.2.2.1 u.2.2.2.2.2.1 st2) (fun u => [(xo, .inr (0, xo_ rd pa gs fo p1 p2 du fu pl sc ss u.2.2.2.2.2.2)), (pa, .inl (G.2.2 4, 8, .inr (.inr (.inr (.inr paf))))), (gs, .inl (G.2.2 0, 8, .inl (ja_ gsf))), (du, .inr (5, [.ref r, .int (xi_ u.1), .long (xl_ u.2.1)])), (r, .inr (3, [.int (xi_ (100 : Int)), .ref v, .ref ra, .int (xi_ u.2.2.1), .int (xi_ u.2.2.2.1)])), (v, .inl (G.2.2 1, (100 * 5), .inr (.inl (jl_ u.2.2.2.2.1)))), (ra, .inl (G.2.2 0, 100, .inl (ja_ u.2.2.2.2.2.1)))]) (fun _ _ => True)) 0 0 (va_A [(xo, .inr (0, xo_ rd pa gs fo p1 p2 du fu pl sc ss tk)), (pa, .inl (G.2.2 4, 8, .inr (.inr (.inr (.inr paf))))), (gs, .inl (G.2.2 0, 8, .inl (ja_ gsf))), (du, .inr (5, [.ref r, .int (xi_ slot), .long (xl_ tl)])), (r, .inr (3, [.int (xi_ (100 : Int)), .ref v, .ref ra, .int (xi_ cnt), .int (xi_ tm)])), (v, .inl (G.2.2 1, (100 * 5), .inr (.inl (jl_ vals)))), (ra, .inl (G.2.2 0, 100, .inl (ja_ rat)))] sz) := by
  refine xw_met (by decide) (Nat.le_of_ble_eq_true rfl) ?_
  intro p0 e0 s m0 args below meth c0 F hr hlk hin hsz hh hX ls hl
  subst hsz
  have hx := F.1
  have hb := F.2.1
  have hl : lv_has ls 3 [(0, .ref xo), (1, .int (xi_ k))] := hl
  have hX0 := hX
  have hA : ∀ q : Nat, Sd q → q < s.heap.size → ¬ va_A [(xo, .inr (0, xo_ rd pa gs fo p1 p2 du fu pl sc ss tk)), (pa, .inl (G.2.2 4, 8, .inr (.inr (.inr (.inr paf))))), (gs, .inl (G.2.2 0, 8, .inl (ja_ gsf))), (du, .inr (5, [.ref r, .int (xi_ slot), .long (xl_ tl)])), (r, .inr (3, [.int (xi_ (100 : Int)), .ref v, .ref ra, .int (xi_ cnt), .int (xi_ tm)])), (v, .inl (G.2.2 1, (100 * 5), .inr (.inl (jl_ vals)))), (ra, .inl (G.2.2 0, 100, .inl (ja_ rat)))] s.heap.size q := fun q hq hl => not_inL (as := [xo, pa, gs, du, r, v, ra]) rfl (hSd q hq) hl
  refine lv_aload_n hx hb d_X_advance_0 rfl (lv_at hl 0 rfl) ?_
  refine xw_get F hh.1 (v := .int (xi_ pl)) fl_X_111_0 0 rfl rfl d_X_advance_1 ?_
  refine xw_if_eq hx hb 19 d_X_advance_4 (by decide) (by omega) (fun c4 => ?_) (fun c4 => ?_)
  · refine lv_iconst (v := xi_ (-1)) hx hb d_X_advance_19 rfl ?_
    exact xw_iret F hr hlk hh rfl (slot, tl, cnt, tm, vals, rat, tk) rfl ⟨st, by
      unfold ad_ans
      rw [if_pos (by omega)], hrr⟩ trivial d_X_advance_20
  · refine lv_iload_n hx hb d_X_advance_7 rfl (lv_at hl 1 rfl) ?_
    refine lv_iconst (v := xi_ 1) hx hb d_X_advance_8 rfl ?_
    refine xw_icmp_lt hx hb 19 d_X_advance_9 (by decide) (by omega) (fun c9 => ?_) (fun c9 => ?_)
    · refine lv_iconst (v := xi_ (-1)) hx hb d_X_advance_19 rfl ?_
      exact xw_iret F hr hlk hh rfl (slot, tl, cnt, tm, vals, rat, tk) rfl ⟨st, by
        unfold ad_ans
        rw [if_pos (by omega)], hrr⟩ trivial d_X_advance_20
    · refine lv_iload_n hx hb d_X_advance_12 rfl (lv_at hl 1 rfl) ?_
      refine lv_sipush (v := xi_ 500) hx hb d_X_advance_13 (by decide) ?_
      refine xw_icmp_le hx hb 21 d_X_advance_16 (by decide) (by omega) (fun c16 => ?_) (fun c16 => ?_)
      · refine lv_aload_n hx hb d_X_advance_21 rfl (lv_at hl 0 rfl) ?_
        refine xw_get F hh.1 (v := .ref du) fl_X_49_0 0 rfl rfl d_X_advance_22 ?_
        refine xw_get F hh.1 (v := .ref r) fl_X_120_5 3 rfl rfl d_X_advance_25 ?_
        refine xw_cv (wc := [(r, .inr (3, [.int (xi_ (100 : Int)), .ref v, .ref ra, .int (xi_ cnt), .int (xi_ tm)]))]) (wr := [(xo, .inr (0, xo_ rd pa gs fo p1 p2 du fu pl sc ss tk)), (pa, .inl (G.2.2 4, 8, .inr (.inr (.inr (.inr paf))))), (gs, .inl (G.2.2 0, 8, .inl (ja_ gsf))), (du, .inr (5, [.ref r, .int (xi_ slot), .long (xl_ tl)])), (v, .inl (G.2.2 1, (100 * 5), .inr (.inl (jl_ vals)))), (ra, .inl (G.2.2 0, 100, .inl (ja_ rat)))]) hh [4] [0, 1, 2, 3, 5, 6] rfl rfl rfl (by decide) (xw_rV F hh [4] rfl rfl (c_Rw_clear l G s.heap.size r v ra 100 cnt tm) trivial lk_X_121 cd_Rw_clear se_Rw_clear _ hh.1 4 rfl rfl rfl rfl ⟨by decide, by decide⟩ rfl hl.1 rfl (Nat.le_of_ble_eq_true rfl) d_X_advance_28 ⟨Nat.le_of_ble_eq_true rfl, Nat.le_of_ble_eq_true rfl⟩) (fun u_ H locs hp28 hX hz hk hh => ?_)
        have hh : xw_H G (va_A [(xo, .inr (0, xo_ rd pa gs fo p1 p2 du fu pl sc ss tk)), (pa, .inl (G.2.2 4, 8, .inr (.inr (.inr (.inr paf))))), (gs, .inl (G.2.2 0, 8, .inl (ja_ gsf))), (du, .inr (5, [.ref r, .int (xi_ slot), .long (xl_ tl)])), (r, .inr (3, [.int (xi_ (100 : Int)), .ref v, .ref ra, .int (xi_ cnt), .int (xi_ tm)])), (v, .inl (G.2.2 1, (100 * 5), .inr (.inl (jl_ vals)))), (ra, .inl (G.2.2 0, 100, .inl (ja_ rat)))] s.heap.size) s.heap H locs [(xo, .inr (0, xo_ rd pa gs fo p1 p2 du fu pl sc ss tk)), (pa, .inl (G.2.2 4, 8, .inr (.inr (.inr (.inr paf))))), (gs, .inl (G.2.2 0, 8, .inl (ja_ gsf))), (du, .inr (5, [.ref r, .int (xi_ slot), .long (xl_ tl)])), (r, .inr (3, [.int (xi_ (100 : Int)), .ref v, .ref ra, .int (xi_ 0), .int (xi_ 0)])), (v, .inl (G.2.2 1, (100 * 5), .inr (.inl (jl_ vals)))), (ra, .inl (G.2.2 0, 100, .inl (ja_ rat)))] := xw_H.sub hh [0, 1, 2, 3, 6, 4, 5] rfl rfl
        refine lv_iconst (v := xi_ 0) hx hb d_X_advance_31 rfl ?_
        refine lv_istore_n (lv' := [(2, .int (xi_ 0)), (0, .ref xo), (1, .int (xi_ k))]) hx hb d_X_advance_32 rfl hl (by decide) rfl (fun ls hl => ?_)
        refine lp_X_advance F xo rd pa gs fo p1 p2 du fu pl sc ss tk r v ra paf gsf Tr hsp Sd hSd (by omega) (by omega) htk k (by omega) hX0 hA (ad_run gsf Tr pl sc ss tk k) (fun u ls H locs hru hl hh => ?_) 9 0 slot tl 0 0 vals rat ([], false) ls H locs (by omega) (by omega) (by omega) (rr_clear hrr) rfl (lv_sub hl [0, 1, 2] rfl) hh
        have htm := hru.2.2.1
        have hb2 := b2_01 (ad_run gsf Tr pl sc ss tk k).2
        refine lv_aload_n hx hb d_X_advance_63 rfl (lv_at hl 0 rfl) ?_
        refine xw_get F hh.1 (v := .ref du) fl_X_49_0 0 rfl rfl d_X_advance_64 ?_
        refine xw_get F hh.1 (v := .ref r) fl_X_120_5 3 rfl rfl d_X_advance_67 ?_
        refine xw_get F hh.1 (v := .int (xi_ u.2.2.2.1)) fl_X_126_3 4 rfl rfl d_X_advance_70 ?_
        refine xw_if_eq hx hb 89 d_X_advance_73 (by decide) (by omega) (fun c73 => ?_) (fun c73 => ?_)
        · refine lv_aload_n hx hb d_X_advance_89 rfl (lv_at hl 0 rfl) ?_
          refine lv_dup hx hb d_X_advance_90 rfl ?_
          refine xw_get F hh.1 (v := .long (xl_ tk)) fl_X_130_0 0 rfl rfl d_X_advance_91 ?_
          refine lv_iload_n hx hb d_X_advance_94 rfl (lv_at hl 1 rfl) ?_
          refine xw_i2l hx hb d_X_advance_95 (by omega) ?_
          refine xw_ladd hx hb d_X_advance_96 ?_
          refine xw_put F hh fp_X_130_0 0 rfl rfl rfl (Nat.le_of_ble_eq_true rfl) d_X_advance_97 (fun H locs hh => ?_)
          have hh : xw_H G (va_A [(xo, .inr (0, xo_ rd pa gs fo p1 p2 du fu pl sc ss tk)), (pa, .inl (G.2.2 4, 8, .inr (.inr (.inr (.inr paf))))), (gs, .inl (G.2.2 0, 8, .inl (ja_ gsf))), (du, .inr (5, [.ref r, .int (xi_ slot), .long (xl_ tl)])), (r, .inr (3, [.int (xi_ (100 : Int)), .ref v, .ref ra, .int (xi_ cnt), .int (xi_ tm)])), (v, .inl (G.2.2 1, (100 * 5), .inr (.inl (jl_ vals)))), (ra, .inl (G.2.2 0, 100, .inl (ja_ rat)))] s.heap.size) s.heap H locs [(xo, .inr (0, xo_ rd pa gs fo p1 p2 du fu pl sc ss (tk + k))), (pa, .inl (G.2.2 4, 8, .inr (.inr (.inr (.inr paf))))), (gs, .inl (G.2.2 0, 8, .inl (ja_ gsf))), (du, .inr (5, [.ref r, .int (xi_ u.1), .long (xl_ u.2.1)])), (r, .inr (3, [.int (xi_ (100 : Int)), .ref v, .ref ra, .int (xi_ u.2.2.1), .int (xi_ u.2.2.2.1)])), (v, .inl (G.2.2 1, (100 * 5), .inr (.inl (jl_ u.2.2.2.2.1)))), (ra, .inl (G.2.2 0, 100, .inl (ja_ u.2.2.2.2.2)))] := hh
          refine lv_aload_n hx hb d_X_advance_100 rfl (lv_at hl 0 rfl) ?_
          refine xw_get F hh.1 (v := .ref du) fl_X_49_0 0 rfl rfl d_X_advance_101 ?_
          refine xw_get F hh.1 (v := .ref r) fl_X_120_5 3 rfl rfl d_X_advance_104 ?_
          refine xw_get F hh.1 (v := .int (xi_ u.2.2.1)) fl_X_95_3 4 rfl rfl d_X_advance_107 ?_
          have hfu : ¬ (ad_run gsf Tr pl sc ss tk k).2 = true := by
            rw [b2_e0 (htm.symm.trans c73)]
            decide
          exact xw_iret F hr hlk hh rfl (u.1, u.2.1, u.2.2.1, u.2.2.2.1, u.2.2.2.2.1, u.2.2.2.2.2, tk + k) rfl ⟨ad_run gsf Tr pl sc ss tk k, by
            unfold ad_ans
            rw [if_neg (by omega), if_neg hfu, hru.1], hru⟩ trivial d_X_advance_110
        · refine lv_aload_n hx hb d_X_advance_76 rfl (lv_at hl 0 rfl) ?_
          refine xw_get F hh.1 (v := .ref du) fl_X_49_0 0 rfl rfl d_X_advance_77 ?_
          refine xw_get F hh.1 (v := .ref r) fl_X_120_5 3 rfl rfl d_X_advance_80 ?_
          refine xw_cv (wc := [(r, .inr (3, [.int (xi_ (100 : Int)), .ref v, .ref ra, .int (xi_ u.2.2.1), .int (xi_ u.2.2.2.1)]))]) (wr := [(xo, .inr (0, xo_ rd pa gs fo p1 p2 du fu pl sc ss tk)), (pa, .inl (G.2.2 4, 8, .inr (.inr (.inr (.inr paf))))), (gs, .inl (G.2.2 0, 8, .inl (ja_ gsf))), (du, .inr (5, [.ref r, .int (xi_ u.1), .long (xl_ u.2.1)])), (v, .inl (G.2.2 1, (100 * 5), .inr (.inl (jl_ u.2.2.2.2.1)))), (ra, .inl (G.2.2 0, 100, .inl (ja_ u.2.2.2.2.2)))]) hh [4] [0, 1, 2, 3, 5, 6] rfl rfl rfl (by decide) (xw_rV F hh [4] rfl rfl (c_Rw_clear l G H.size r v ra 100 u.2.2.1 u.2.2.2.1) trivial lk_X_121 cd_Rw_clear se_Rw_clear _ hh.1 4 rfl rfl rfl rfl ⟨by decide, by decide⟩ rfl hl.1 rfl (Nat.le_of_ble_eq_true rfl) d_X_advance_83 ⟨Nat.le_of_ble_eq_true rfl, Nat.le_of_ble_eq_true rfl⟩) (fun u_ H locs hp83 hX hz hk hh => ?_)
          have hh : xw_H G (va_A [(xo, .inr (0, xo_ rd pa gs fo p1 p2 du fu pl sc ss tk)), (pa, .inl (G.2.2 4, 8, .inr (.inr (.inr (.inr paf))))), (gs, .inl (G.2.2 0, 8, .inl (ja_ gsf))), (du, .inr (5, [.ref r, .int (xi_ slot), .long (xl_ tl)])), (r, .inr (3, [.int (xi_ (100 : Int)), .ref v, .ref ra, .int (xi_ cnt), .int (xi_ tm)])), (v, .inl (G.2.2 1, (100 * 5), .inr (.inl (jl_ vals)))), (ra, .inl (G.2.2 0, 100, .inl (ja_ rat)))] s.heap.size) s.heap H locs [(xo, .inr (0, xo_ rd pa gs fo p1 p2 du fu pl sc ss tk)), (pa, .inl (G.2.2 4, 8, .inr (.inr (.inr (.inr paf))))), (gs, .inl (G.2.2 0, 8, .inl (ja_ gsf))), (du, .inr (5, [.ref r, .int (xi_ u.1), .long (xl_ u.2.1)])), (r, .inr (3, [.int (xi_ (100 : Int)), .ref v, .ref ra, .int (xi_ 0), .int (xi_ 0)])), (v, .inl (G.2.2 1, (100 * 5), .inr (.inl (jl_ u.2.2.2.2.1)))), (ra, .inl (G.2.2 0, 100, .inl (ja_ u.2.2.2.2.2)))] := xw_H.sub hh [0, 1, 2, 3, 6, 4, 5] rfl rfl
          refine lv_bipush (v := xi_ (-2)) hx hb d_X_advance_86 (by decide) ?_
          have hfu : (ad_run gsf Tr pl sc ss tk k).2 = true := b2_ne (fun q => c73 (htm.trans q))
          exact xw_iret F hr hlk hh rfl (u.1, u.2.1, 0, 0, u.2.2.2.2.1, u.2.2.2.2.2, tk) rfl ⟨([], false), by
            unfold ad_ans
            rw [if_neg (by omega), if_pos hfu], rr_clear hru⟩ trivial d_X_advance_88
      · refine lv_iconst (v := xi_ (-1)) hx hb d_X_advance_19 rfl ?_
        exact xw_iret F hr hlk hh rfl (slot, tl, cnt, tm, vals, rat, tk) rfl ⟨st, by
          unfold ad_ans
          rw [if_pos (by omega)], hrr⟩ trivial d_X_advance_20
