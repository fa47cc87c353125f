/-! Walk.walkCycles -/
theorem dv_rng {x y B : Int} (hy : 0 < y) (hB : 0 ≤ B) (h : -B ≤ x ∧ x ≤ B) : -B ≤ x / y ∧ x / y ≤ B := by
  refine ⟨(Int.le_ediv_iff_mul_le hy).mpr ?_, Int.lt_add_one_iff.mp ((Int.ediv_lt_iff_lt_mul hy).mpr ?_)⟩
  · have h1 : B * 1 ≤ B * y := Int.mul_le_mul_of_nonneg_left (by omega) hB
    rw [Int.neg_mul]
    omega
  · have h1 : (B + 1) * 1 ≤ (B + 1) * y := Int.mul_le_mul_of_nonneg_left (by omega) (by omega)
    omega
theorem cy_rng {d : Nat} {T : PT d} {w o f t : Int} (h : wok_ d T w o f t) (hft : f < t) : (-3000000000000000 ≤ cy_first w o f t ∧ cy_first w o f t ≤ 3000000000000000) ∧ (-3000000000000000 ≤ cy_last w o f t ∧ cy_last w o f t ≤ 3000000000000000) := by
  have h1 := wok_o h
  have h2 := h.2.2.2.2.1
  have h3 := h.2.1
  unfold cy_first cy_last
  by_cases hp : 0 < w
  · rw [if_pos hp, if_pos hp]
    exact ⟨dv_rng hp (by decide) (by omega), dv_rng hp (by decide) (by omega)⟩
  · rw [if_neg hp, if_neg hp]
    exact ⟨dv_rng (by omega) (by decide) (by omega), dv_rng (by omega) (by decide) (by omega)⟩
set_option maxHeartbeats 4000000 in
set_option maxRecDepth 100000 in
theorem lp_Wk_walkCycles_Pa {p0 : Program} {l : Launch} {e0 : Env} {s : State} {m0 : MethodId} {args : Array Value} {below : List Frame} {meth : Method} {c0 : Code} {Q : State → Prop} {G : GG_} {A : Nat → Prop} {H0 : Heap} (d : Nat) (F : xw_F p0 s m0 args c0 b_Wk_walkCycles 20 R_Wk G) (ih : cwk_Pa l G d) (o r v ra : Nat)  (Sd : Nat → Prop) (hSd : ∀ q : Nat, Sd q → q ≠ o ∧ q ≠ r ∧ q ≠ v ∧ q ≠ ra) (hA : ∀ q : Nat, Sd q → q < H0.size → ¬ A q) (a : Nat) (T : PT (d + 1)) (hX0 : nt_ G Sd (d + 1) H0 a T) (w oo f t : Int) (hw : wok_ (d + 1) T w oo f t) (hft : f < t) (hkd : tr_kd T = 91 ∨ tr_kd T = 69 ∨ tr_kd T = 60 ∨ tr_kd T = 82 ∨ tr_kd T = 86 ∨ (97 ≤ tr_kd T ∧ tr_kd T ≤ 122)) (TG : List Row_ × Bool)
    (kk : ∀ (u : Int × Int × (Nat → Int) × (Nat → Int)) (ls : Array Slot) (H : Heap) (locs : List Loc), rr_ 200 u.1 u.2.1 u.2.2.1 u.2.2.2 TG → lv_has ls 20 [] → xw_H G A H0 H locs [(o, .inr (4, [.ref r])), (r, .inr (3, [.int (xi_ (200 : Int)), .ref v, .ref ra, .int (xi_ u.1), .int (xi_ u.2.1)])), (v, .inl (G.2.2 1, (200 * 5), .inr (.inl (jl_ u.2.2.1)))), (ra, .inl (G.2.2 0, 200, .inl (ja_ u.2.2.2)))] → W p0 l e0 (rm_Wk_walkCycles d) s m0 args below meth c0 H locs 0 0 Q (F0 m0 120 ls [])) :
    ∀ (N : Nat) (c cnt tm : Int) (vals rat : Nat → Int) (st : List Row_ × Bool) (ls : Array Slot) (H : Heap) (locs : List Loc), (cy_last w oo f t + 1 - c).toNat < N → cy_first w oo f t ≤ c → c ≤ cy_last w oo f t + 1 ∨ c = cy_first w oo f t → rr_ 200 cnt tm vals rat st → run_ 200 sk_pa ((cy_range c (cy_last w oo f t)).flatMap (g_cyc (gen_ d) T w oo f t)) st = TG → lv_has ls 20 [(18, .long (xl_ c)), (16, .long (xl_ (cy_last w oo f t))), (0, .ref o), (1, .ref a), (2, .long (xl_ w)), (4, .long (xl_ oo)), (6, .long (xl_ f)), (8, .long (xl_ t)), (10, .int (xi_ (40 - (d : Int))))] → xw_H G A H0 H locs [(o, .inr (4, [.ref r])), (r, .inr (3, [.int (xi_ (200 : Int)), .ref v, .ref ra, .int (xi_ cnt), .int (xi_ tm)])), (v, .inl (G.2.2 1, (200 * 5), .inr (.inl (jl_ vals)))), (ra, .inl (G.2.2 0, 200, .inl (ja_ rat)))] → W p0 l e0 (rm_Wk_walkCycles d) s m0 args below meth c0 H locs 0 0 Q (F0 m0 77 ls []) := by
  have hx := F.1
  have hb := F.2.1
  have hcy := cy_rng hw hft
  intro N
  induction N with
  | zero => intro c cnt tm vals rat st ls H locs h; omega
  | succ N ihn =>
    intro c cnt tm vals rat st ls H locs hN1 hc0 hc1 hrr hTG hl hh
    have htm := hrr.2.2.1
    have hb2 := b2_01 st.2
    refine lv_lload hx hb d_Wk_walkCycles_77 (lv_at hl 0 rfl) ?_
    refine lv_lload hx hb d_Wk_walkCycles_79 (lv_at hl 1 rfl) ?_
    refine xw_lcmp_gt hx hb 120 d_Wk_walkCycles_81 d_Wk_walkCycles_82 (by decide) (by omega) (fun c81 => ?_) (fun c81 => ?_)
    · first
      | (have e81 : st = TG := by
          rw [cy_nil (by omega)] at hTG
          exact hTG
         rw [e81] at hrr)
      | (have e81 : st = TG := by
          rw [← hTG]
          exact (run_full _ hrr.2.1 (b2_ne (by rw [← htm]; exact c92))).symm
         rw [e81] at hrr)
      exact kk (cnt, tm, vals, rat) ls H locs hrr (lv_sub hl [] rfl) hh
    · refine lv_aload_n hx hb d_Wk_walkCycles_85 rfl (lv_at hl 2 rfl) ?_
      refine xw_get F hh.1 (v := .ref r) fl_Wk_12_4 0 rfl rfl d_Wk_walkCycles_86 ?_
      refine xw_get F hh.1 (v := .int (xi_ tm)) fl_Wk_45_3 1 rfl rfl d_Wk_walkCycles_89 ?_
      refine xw_if_ne hx hb 120 d_Wk_walkCycles_92 (by decide) (by omega) (fun c92 => ?_) (fun c92 => ?_)
      · first
        | (have e81 : st = TG := by
            rw [cy_nil (by omega)] at hTG
            exact hTG
           rw [e81] at hrr)
        | (have e81 : st = TG := by
            rw [← hTG]
            exact (run_full _ hrr.2.1 (b2_ne (by rw [← htm]; exact c92))).symm
           rw [e81] at hrr)
        exact kk (cnt, tm, vals, rat) ls H locs hrr (lv_sub hl [] rfl) hh
      · refine lv_aload_n hx hb d_Wk_walkCycles_95 rfl (lv_at hl 2 rfl) ?_
        refine lv_aload_n hx hb d_Wk_walkCycles_96 rfl (lv_at hl 3 rfl) ?_
        refine lv_lload hx hb d_Wk_walkCycles_97 (lv_at hl 0 rfl) ?_
        refine lv_lload_n hx hb d_Wk_walkCycles_99 rfl (lv_at hl 4 rfl) ?_
        refine lv_lload hx hb d_Wk_walkCycles_100 (lv_at hl 5 rfl) ?_
        refine lv_lload hx hb d_Wk_walkCycles_102 (lv_at hl 6 rfl) ?_
        refine lv_lload hx hb d_Wk_walkCycles_104 (lv_at hl 7 rfl) ?_
        refine lv_iload hx hb d_Wk_walkCycles_106 (lv_at hl 8 rfl) ?_
        refine xw_cv (wc := [(o, .inr (4, [.ref r])), (r, .inr (3, [.int (xi_ (200 : Int)), .ref v, .ref ra, .int (xi_ cnt), .int (xi_ tm)])), (v, .inl (G.2.2 1, (200 * 5), .inr (.inl (jl_ vals)))), (ra, .inl (G.2.2 0, 200, .inl (ja_ rat)))]) (wr := []) hh [0, 1, 2, 3] [] rfl rfl rfl (by decide) (xw_rV F hh [0, 1, 2, 3] rfl rfl (c_Wk_walkCycle_Pa l G H.size o r v ra cnt tm vals rat st  d ih Sd hSd a T c w oo f t hw hft hc0 (by omega) hkd hrr) (nt_now hA hX0 hh) lk_Wk_62 cd_Wk_walkCycle se_Wk_walkCycle_Pa _ hh.1 0 rfl rfl rfl rfl ⟨by unfold rm_Wk_walkCycle rm_Wk_walkCycles; (try dsimp only); omega, by unfold rm_Wk_walkCycle rm_Wk_walkCycles; (try dsimp only); omega⟩ rfl hl.1 rfl (Nat.le_of_ble_eq_true rfl) d_Wk_walkCycles_108 ⟨Nat.zero_le _, Nat.zero_le _⟩) (fun u H locs hp108 hX hz hk hh => ?_)
        have hh : xw_H G A H0 H locs [(o, .inr (4, [.ref r])), (r, .inr (3, [.int (xi_ (200 : Int)), .ref v, .ref ra, .int (xi_ u.1), .int (xi_ u.2.1)])), (v, .inl (G.2.2 1, (200 * 5), .inr (.inl (jl_ u.2.2.1)))), (ra, .inl (G.2.2 0, 200, .inl (ja_ u.2.2.2)))] := hh
        refine lv_lload hx hb d_Wk_walkCycles_111 (lv_at hl 0 rfl) ?_
        refine lv_lconst (v := xl_ 1) hx hb d_Wk_walkCycles_113 (by decide) ?_
        refine xw_ladd hx hb d_Wk_walkCycles_114 ?_
        refine lv_lstore (lv' := [(18, .long (xl_ (c + 1))), (16, .long (xl_ (cy_last w oo f t))), (0, .ref o), (1, .ref a), (2, .long (xl_ w)), (4, .long (xl_ oo)), (6, .long (xl_ f)), (8, .long (xl_ t)), (10, .int (xi_ (40 - (d : Int))))]) hx hb d_Wk_walkCycles_115 hl (by decide) rfl (fun ls hl => ?_)
        refine lv_goto (tgt := 77) hx hb d_Wk_walkCycles_117 (by decide) ?_
        refine ihn (c + 1) u.1 u.2.1 u.2.2.1 u.2.2.2 (run_ 200 sk_pa (g_cyc (gen_ d) T w oo f t c) st) ls H locs (by omega) (by omega) (by omega) hp108 ?_ (lv_sub hl [0, 1, 2, 3, 4, 5, 6, 7, 8] rfl) hh
        rw [← hTG, cy_cons (show c ≤ cy_last w oo f t by omega), run_cons]
set_option maxHeartbeats 4000000 in
set_option maxRecDepth 100000 in
theorem c_Wk_walkCycles_Pa (l : Launch) (G : GG_) (sz : Nat) (o r v ra : Nat) (cnt tm : Int) (vals rat : Nat → Int) (st : List Row_ × Bool)  (d : Nat) (ih : cwk_Pa l G d) (Sd : Nat → Prop) (hSd : ∀ q : Nat, Sd q → q ≠ o ∧ q ≠ r ∧ q ≠ v ∧ q ≠ ra) (a : Nat) (T : PT (d + 1)) (w oo f t : Int) (hw : wok_ (d + 1) T w oo f t) (hft : f < t) (hkd : tr_kd T = 91 ∨ tr_kd T = 69 ∨ tr_kd T = 60 ∨ tr_kd T = 82 ∨ tr_kd T = 86 ∨ (97 ≤ tr_kd T ∧ tr_kd T ≤ 122)) (hrr : rr_ 200 cnt tm vals rat st) : Met l y_Wk_walkCycles (cw_ y_Wk_walkCycles b_Wk_walkCycles 20 none) (rm_Wk_walkCycles d) (xw_P G [.ref o, .ref a, .long (xl_ w), .long (xl_ oo), .long (xl_ f), .long (xl_ t), .int (xi_ (40 - (d : Int)))] sz [(o, .inr (4, [.ref r])), (r, .inr (3, [.int (xi_ (200 : Int)), .ref v, .ref ra, .int (xi_ cnt), .int (xi_ tm)])), (v, .inl (G.2.2 1, (200 * 5), .inr (.inl (jl_ vals)))), (ra, .inl (G.2.2 0, 200, .inl (ja_ rat)))] (fun H => nt_ G Sd (d + 1) H a T)) (xw_Qv (S := Int × Int × (Nat → Int) × (Nat → Int)) G sz [(o, .inr (4, [.ref r])), (r, .inr (3, [.int (xi_ (200 : Int)), .ref v, .ref ra, .int (xi_ cnt), .int (xi_ tm)])), (v, .inl (G.2.2 1, (200 * 5), .inr (.inl (jl_ vals)))), (ra, .inl (G.2.2 0, 200, .inl (ja_ rat)))] (fun u => rr_ 200 u.1 u.2.1 u.2.2.1 u.2.2.2 (run_ 200 sk_pa ((cy_range (cy_first w oo f t) (cy_last w oo f t)).flatMap (g_cyc (gen_ d) T w oo f t)) st)) (fun u => [(o, .inr (4, [.ref r])), (r, .inr (3, [.int (xi_ (200 : Int)), .ref v, .ref ra, .int (xi_ u.1), .int (xi_ u.2.1)])), (v, .inl (G.2.2 1, (200 * 5), .inr (.inl (jl_ u.2.2.1)))), (ra, .inl (G.2.2 0, 200, .inl (ja_ u.2.2.2)))]) (fun _ _ => True)) 0 0 (va_A [(o, .inr (4, [.ref r])), (r, .inr (3, [.int (xi_ (200 : Int)), .ref v, .ref ra, .int (xi_ cnt), .int (xi_ tm)])), (v, .inl (G.2.2 1, (200 * 5), .inr (.inl (jl_ vals)))), (ra, .inl (G.2.2 0, 200, .inl (ja_ rat)))] sz) := by
  refine xw_met (by decide) (Nat.le_of_ble_eq_true rfl) ?_
  intro p0 e0 s m0 args below meth c0 F hr hlk hin hsz hh hX ls hl
  subst hsz
  have hx := F.1
  have hb := F.2.1
  have hl : lv_has ls 20 [(0, .ref o), (1, .ref a), (2, .long (xl_ w)), (4, .long (xl_ oo)), (6, .long (xl_ f)), (8, .long (xl_ t)), (10, .int (xi_ (40 - (d : Int))))] := hl
  have hw0 := hw.2.1
  have hwr := wok_w hw
  have hor := wok_o hw
  have hftb := hw.2.2.2.2.1
  have hcy := cy_rng hw hft
  have hA : ∀ q : Nat, Sd q → q < s.heap.size → ¬ va_A [(o, .inr (4, [.ref r])), (r, .inr (3, [.int (xi_ (200 : Int)), .ref v, .ref ra, .int (xi_ cnt), .int (xi_ tm)])), (v, .inl (G.2.2 1, (200 * 5), .inr (.inl (jl_ vals)))), (ra, .inl (G.2.2 0, 200, .inl (ja_ rat)))] s.heap.size q := not_in4 hSd
  refine lv_lload_n hx hb d_Wk_walkCycles_0 rfl (lv_at hl 2 rfl) ?_
  refine lv_lconst (v := xl_ 0) hx hb d_Wk_walkCycles_1 (by decide) ?_
  refine xw_lcmp_le hx hb 10 d_Wk_walkCycles_2 d_Wk_walkCycles_3 (by decide) (by omega) (fun c2 => ?_) (fun c2 => ?_)
  · refine lv_iconst (v := xi_ 0) hx hb d_Wk_walkCycles_10 rfl ?_
    refine lv_istore (lv' := [(11, .int (xi_ 0)), (0, .ref o), (1, .ref a), (2, .long (xl_ w)), (4, .long (xl_ oo)), (6, .long (xl_ f)), (8, .long (xl_ t)), (10, .int (xi_ (40 - (d : Int))))]) hx hb d_Wk_walkCycles_11 hl (by decide) rfl (fun ls hl => ?_)
    refine lv_lload_n hx hb d_Wk_walkCycles_13 rfl (lv_at hl 3 rfl) ?_
    refine xw_absl F hl.1 lk_Wk_52' (by unfold rm_Wk_walkCycles; (try dsimp only); omega) (Nat.le_trans (m := 60) (Nat.le_of_ble_eq_true rfl) (by unfold rm_Wk_walkCycles; (try dsimp only); omega)) (Nat.zero_le _) (Nat.zero_le _) (by omega) d_Wk_walkCycles_14 ?_
    refine xw_topl (y := -w) (if_neg (by omega)) ?_
    refine lv_lstore (lv' := [(12, .long (xl_ (-w))), (11, .int (xi_ 0)), (0, .ref o), (1, .ref a), (2, .long (xl_ w)), (4, .long (xl_ oo)), (6, .long (xl_ f)), (8, .long (xl_ t)), (10, .int (xi_ (40 - (d : Int))))]) hx hb d_Wk_walkCycles_17 hl (by decide) rfl (fun ls hl => ?_)
    refine lv_iload hx hb d_Wk_walkCycles_19 (lv_at hl 1 rfl) ?_
    refine xw_if_eq hx hb 32 d_Wk_walkCycles_21 (by decide) (by decide) (fun c21 => ?_) (fun c21 => absurd c21 (by decide))
    refine lv_lload hx hb d_Wk_walkCycles_32 (lv_at hl 5 rfl) ?_
    refine lv_lload hx hb d_Wk_walkCycles_34 (lv_at hl 7 rfl) ?_
    refine xw_lsub hx hb d_Wk_walkCycles_36 ?_
    refine lv_lload hx hb d_Wk_walkCycles_37 (lv_at hl 0 rfl) ?_
    refine xw_clp hh (xw_rSp F (c_Jm_floorDiv l G s.heap.size (oo - t) (-w) (by omega)) lk_Wk_58 cd_Jm_floorDiv ss_Jm_floorDiv rfl rfl ⟨by unfold rm_Jm_floorDiv rm_Wk_walkCycles; (try dsimp only); omega, by unfold rm_Jm_floorDiv rm_Wk_walkCycles; (try dsimp only); omega⟩ rfl hl.1 rfl (Nat.le_of_ble_eq_true rfl) d_Wk_walkCycles_39 ⟨Nat.zero_le _, Nat.zero_le _⟩) (fun z39 u H locs hp39 hz hk hh => ?_)
    refine xw_topl (y := cy_first w oo f t) (by rw [hp39]; unfold cy_first; rw [if_neg (by omega)]) ?_
    refine lv_lstore (lv' := [(14, .long (xl_ (cy_first w oo f t))), (12, .long (xl_ (-w))), (11, .int (xi_ 0)), (0, .ref o), (1, .ref a), (2, .long (xl_ w)), (4, .long (xl_ oo)), (6, .long (xl_ f)), (8, .long (xl_ t)), (10, .int (xi_ (40 - (d : Int))))]) hx hb d_Wk_walkCycles_42 hl (by decide) rfl (fun ls hl => ?_)
    refine lv_iload hx hb d_Wk_walkCycles_44 (lv_at hl 2 rfl) ?_
    refine xw_if_eq hx hb 59 d_Wk_walkCycles_46 (by decide) (by decide) (fun c46 => ?_) (fun c46 => absurd c46 (by decide))
    refine lv_lload hx hb d_Wk_walkCycles_59 (lv_at hl 6 rfl) ?_
    refine lv_lconst (v := xl_ 1) hx hb d_Wk_walkCycles_61 (by decide) ?_
    refine xw_lsub hx hb d_Wk_walkCycles_62 ?_
    refine lv_lload hx hb d_Wk_walkCycles_63 (lv_at hl 7 rfl) ?_
    refine xw_lsub hx hb d_Wk_walkCycles_65 ?_
    refine lv_lload hx hb d_Wk_walkCycles_66 (lv_at hl 1 rfl) ?_
    refine xw_clp hh (xw_rSp F (c_Jm_floorDiv l G H.size ((oo - 1) - f) (-w) (by omega)) lk_Wk_58 cd_Jm_floorDiv ss_Jm_floorDiv rfl rfl ⟨by unfold rm_Jm_floorDiv rm_Wk_walkCycles; (try dsimp only); omega, by unfold rm_Jm_floorDiv rm_Wk_walkCycles; (try dsimp only); omega⟩ rfl hl.1 rfl (Nat.le_of_ble_eq_true rfl) d_Wk_walkCycles_68 ⟨Nat.zero_le _, Nat.zero_le _⟩) (fun z68 u H locs hp68 hz hk hh => ?_)
    refine xw_topl (y := cy_last w oo f t) (by rw [hp68]; unfold cy_last; rw [if_neg (by omega)]) ?_
    refine lv_lstore (lv' := [(16, .long (xl_ (cy_last w oo f t))), (14, .long (xl_ (cy_first w oo f t))), (12, .long (xl_ (-w))), (11, .int (xi_ 0)), (0, .ref o), (1, .ref a), (2, .long (xl_ w)), (4, .long (xl_ oo)), (6, .long (xl_ f)), (8, .long (xl_ t)), (10, .int (xi_ (40 - (d : Int))))]) hx hb d_Wk_walkCycles_71 hl (by decide) rfl (fun ls hl => ?_)
    refine lv_lload hx hb d_Wk_walkCycles_73 (lv_at hl 1 rfl) ?_
    refine lv_lstore (lv' := [(18, .long (xl_ (cy_first w oo f t))), (16, .long (xl_ (cy_last w oo f t))), (14, .long (xl_ (cy_first w oo f t))), (12, .long (xl_ (-w))), (11, .int (xi_ 0)), (0, .ref o), (1, .ref a), (2, .long (xl_ w)), (4, .long (xl_ oo)), (6, .long (xl_ f)), (8, .long (xl_ t)), (10, .int (xi_ (40 - (d : Int))))]) hx hb d_Wk_walkCycles_75 hl (by decide) rfl (fun ls hl => ?_)
    refine lp_Wk_walkCycles_Pa d F ih o r v ra  Sd hSd hA a T hX w oo f t hw hft hkd (run_ 200 sk_pa ((cy_range (cy_first w oo f t) (cy_last w oo f t)).flatMap (g_cyc (gen_ d) T w oo f t)) st) (fun u ls H locs hp81 hl hh => ?_) ((cy_last w oo f t + 1 - cy_first w oo f t).toNat + 1) (cy_first w oo f t) cnt tm vals rat st ls H _ (by omega) (by omega) (Or.inr rfl) hrr rfl (lv_sub hl [0, 1, 5, 6, 7, 8, 9, 10, 11] rfl) hh
    exact xw_vret F hr hlk hh u rfl hp81 trivial d_Wk_walkCycles_120
  · refine lv_iconst (v := xi_ 1) hx hb d_Wk_walkCycles_6 rfl ?_
    refine lv_goto (tgt := 11) hx hb d_Wk_walkCycles_7 (by decide) ?_
    refine lv_istore (lv' := [(11, .int (xi_ 1)), (0, .ref o), (1, .ref a), (2, .long (xl_ w)), (4, .long (xl_ oo)), (6, .long (xl_ f)), (8, .long (xl_ t)), (10, .int (xi_ (40 - (d : Int))))]) hx hb d_Wk_walkCycles_11 hl (by decide) rfl (fun ls hl => ?_)
    refine lv_lload_n hx hb d_Wk_walkCycles_13 rfl (lv_at hl 3 rfl) ?_
    refine xw_absl F hl.1 lk_Wk_52' (by unfold rm_Wk_walkCycles; (try dsimp only); omega) (Nat.le_trans (m := 60) (Nat.le_of_ble_eq_true rfl) (by unfold rm_Wk_walkCycles; (try dsimp only); omega)) (Nat.zero_le _) (Nat.zero_le _) (by omega) d_Wk_walkCycles_14 ?_
    refine xw_topl (y := w) (if_pos c2) ?_
    refine lv_lstore (lv' := [(12, .long (xl_ w)), (11, .int (xi_ 1)), (0, .ref o), (1, .ref a), (2, .long (xl_ w)), (4, .long (xl_ oo)), (6, .long (xl_ f)), (8, .long (xl_ t)), (10, .int (xi_ (40 - (d : Int))))]) hx hb d_Wk_walkCycles_17 hl (by decide) rfl (fun ls hl => ?_)
    refine lv_iload hx hb d_Wk_walkCycles_19 (lv_at hl 1 rfl) ?_
    refine xw_if_eq hx hb 32 d_Wk_walkCycles_21 (by decide) (by decide) (fun c21 => absurd c21 (by decide)) (fun c21 => ?_)
    refine lv_lload hx hb d_Wk_walkCycles_24 (lv_at hl 6 rfl) ?_
    refine lv_lload hx hb d_Wk_walkCycles_26 (lv_at hl 5 rfl) ?_
    refine xw_lsub hx hb d_Wk_walkCycles_28 ?_
    refine lv_goto (tgt := 37) hx hb d_Wk_walkCycles_29 (by decide) ?_
    refine lv_lload hx hb d_Wk_walkCycles_37 (lv_at hl 0 rfl) ?_
    refine xw_clp hh (xw_rSp F (c_Jm_floorDiv l G s.heap.size (f - oo) (w) (by omega)) lk_Wk_58 cd_Jm_floorDiv ss_Jm_floorDiv rfl rfl ⟨by unfold rm_Jm_floorDiv rm_Wk_walkCycles; (try dsimp only); omega, by unfold rm_Jm_floorDiv rm_Wk_walkCycles; (try dsimp only); omega⟩ rfl hl.1 rfl (Nat.le_of_ble_eq_true rfl) d_Wk_walkCycles_39 ⟨Nat.zero_le _, Nat.zero_le _⟩) (fun z39 u H locs hp39 hz hk hh => ?_)
    refine xw_topl (y := cy_first w oo f t) (by rw [hp39]; unfold cy_first; rw [if_pos c2]) ?_
    refine lv_lstore (lv' := [(14, .long (xl_ (cy_first w oo f t))), (12, .long (xl_ w)), (11, .int (xi_ 1)), (0, .ref o), (1, .ref a), (2, .long (xl_ w)), (4, .long (xl_ oo)), (6, .long (xl_ f)), (8, .long (xl_ t)), (10, .int (xi_ (40 - (d : Int))))]) hx hb d_Wk_walkCycles_42 hl (by decide) rfl (fun ls hl => ?_)
    refine lv_iload hx hb d_Wk_walkCycles_44 (lv_at hl 2 rfl) ?_
    refine xw_if_eq hx hb 59 d_Wk_walkCycles_46 (by decide) (by decide) (fun c46 => absurd c46 (by decide)) (fun c46 => ?_)
    refine lv_lload hx hb d_Wk_walkCycles_49 (lv_at hl 8 rfl) ?_
    refine lv_lconst (v := xl_ 1) hx hb d_Wk_walkCycles_51 (by decide) ?_
    refine xw_lsub hx hb d_Wk_walkCycles_52 ?_
    refine lv_lload hx hb d_Wk_walkCycles_53 (lv_at hl 6 rfl) ?_
    refine xw_lsub hx hb d_Wk_walkCycles_55 ?_
    refine lv_goto (tgt := 66) hx hb d_Wk_walkCycles_56 (by decide) ?_
    refine lv_lload hx hb d_Wk_walkCycles_66 (lv_at hl 1 rfl) ?_
    refine xw_clp hh (xw_rSp F (c_Jm_floorDiv l G H.size ((t - 1) - oo) (w) (by omega)) lk_Wk_58 cd_Jm_floorDiv ss_Jm_floorDiv rfl rfl ⟨by unfold rm_Jm_floorDiv rm_Wk_walkCycles; (try dsimp only); omega, by unfold rm_Jm_floorDiv rm_Wk_walkCycles; (try dsimp only); omega⟩ rfl hl.1 rfl (Nat.le_of_ble_eq_true rfl) d_Wk_walkCycles_68 ⟨Nat.zero_le _, Nat.zero_le _⟩) (fun z68 u H locs hp68 hz hk hh => ?_)
    refine xw_topl (y := cy_last w oo f t) (by rw [hp68]; unfold cy_last; rw [if_pos c2]) ?_
    refine lv_lstore (lv' := [(16, .long (xl_ (cy_last w oo f t))), (14, .long (xl_ (cy_first w oo f t))), (12, .long (xl_ w)), (11, .int (xi_ 1)), (0, .ref o), (1, .ref a), (2, .long (xl_ w)), (4, .long (xl_ oo)), (6, .long (xl_ f)), (8, .long (xl_ t)), (10, .int (xi_ (40 - (d : Int))))]) hx hb d_Wk_walkCycles_71 hl (by decide) rfl (fun ls hl => ?_)
    refine lv_lload hx hb d_Wk_walkCycles_73 (lv_at hl 1 rfl) ?_
    refine lv_lstore (lv' := [(18, .long (xl_ (cy_first w oo f t))), (16, .long (xl_ (cy_last w oo f t))), (14, .long (xl_ (cy_first w oo f t))), (12, .long (xl_ w)), (11, .int (xi_ 1)), (0, .ref o), (1, .ref a), (2, .long (xl_ w)), (4, .long (xl_ oo)), (6, .long (xl_ f)), (8, .long (xl_ t)), (10, .int (xi_ (40 - (d : Int))))]) hx hb d_Wk_walkCycles_75 hl (by decide) rfl (fun ls hl => ?_)
    refine lp_Wk_walkCycles_Pa d F ih o r v ra  Sd hSd hA a T hX w oo f t hw hft hkd (run_ 200 sk_pa ((cy_range (cy_first w oo f t) (cy_last w oo f t)).flatMap (g_cyc (gen_ d) T w oo f t)) st) (fun u ls H locs hp81 hl hh => ?_) ((cy_last w oo f t + 1 - cy_first w oo f t).toNat + 1) (cy_first w oo f t) cnt tm vals rat st ls H _ (by omega) (by omega) (Or.inr rfl) hrr rfl (lv_sub hl [0, 1, 5, 6, 7, 8, 9, 10, 11] rfl) hh
    exact xw_vret F hr hlk hh u rfl hp81 trivial d_Wk_walkCycles_120
set_option maxHeartbeats 4000000 in
set_option maxRecDepth 100000 in
theorem lp_Wk_walkCycles_On {p0 : Program} {l : Launch} {e0 : Env} {s : State} {m0 : MethodId} {args : Array Value} {below : List Frame} {meth : Method} {c0 : Code} {Q : State → Prop} {G : GG_} {A : Nat → Prop} {H0 : Heap} (d : Nat) (F : xw_F p0 s m0 args c0 b_Wk_walkCycles 20 R_Wk G) (ih : cwk_On l G d) (o r v ra : Nat) (slot tl : Int) (hst : 0 ≤ slot ∧ slot ≤ 7 ∧ 0 < tl ∧ tl ≤ 1099511627776) (Sd : Nat → Prop) (hSd : ∀ q : Nat, Sd q → q ≠ o ∧ q ≠ r ∧ q ≠ v ∧ q ≠ ra) (hA : ∀ q : Nat, Sd q → q < H0.size → ¬ A q) (a : Nat) (T : PT (d + 1)) (hX0 : nt_ G Sd (d + 1) H0 a T) (w oo f t : Int) (hw : wok_ (d + 1) T w oo f t) (hft : f < t) (hkd : tr_kd T = 91 ∨ tr_kd T = 69 ∨ tr_kd T = 60 ∨ tr_kd T = 82 ∨ tr_kd T = 86 ∨ (97 ≤ tr_kd T ∧ tr_kd T ≤ 122)) (TG : List Row_ × Bool)
    (kk : ∀ (u : Int × Int × (Nat → Int) × (Nat → Int)) (ls : Array Slot) (H : Heap) (locs : List Loc), rr_ 100 u.1 u.2.1 u.2.2.1 u.2.2.2 TG → lv_has ls 20 [] → xw_H G A H0 H locs [(o, .inr (5, [.ref r, .int (xi_ slot), .long (xl_ tl)])), (r, .inr (3, [.int (xi_ (100 : Int)), .ref v, .ref ra, .int (xi_ u.1), .int (xi_ u.2.1)])), (v, .inl (G.2.2 1, (100 * 5), .inr (.inl (jl_ u.2.2.1)))), (ra, .inl (G.2.2 0, 100, .inl (ja_ u.2.2.2)))] → W p0 l e0 (rm_Wk_walkCycles d) s m0 args below meth c0 H locs 0 0 Q (F0 m0 120 ls [])) :
    ∀ (N : Nat) (c cnt tm : Int) (vals rat : Nat → Int) (st : List Row_ × Bool) (ls : Array Slot) (H : Heap) (locs : List Loc), (cy_last w oo f t + 1 - c).toNat < N → cy_first w oo f t ≤ c → c ≤ cy_last w oo f t + 1 ∨ c = cy_first w oo f t → rr_ 100 cnt tm vals rat st → run_ 100 (sk_on slot tl) ((cy_range c (cy_last w oo f t)).flatMap (g_cyc (gen_ d) T w oo f t)) st = TG → lv_has ls 20 [(18, .long (xl_ c)), (16, .long (xl_ (cy_last w oo f t))), (0, .ref o), (1, .ref a), (2, .long (xl_ w)), (4, .long (xl_ oo)), (6, .long (xl_ f)), (8, .long (xl_ t)), (10, .int (xi_ (40 - (d : Int))))] → xw_H G A H0 H locs [(o, .inr (5, [.ref r, .int (xi_ slot), .long (xl_ tl)])), (r, .inr (3, [.int (xi_ (100 : Int)), .ref v, .ref ra, .int (xi_ cnt), .int (xi_ tm)])), (v, .inl (G.2.2 1, (100 * 5), .inr (.inl (jl_ vals)))), (ra, .inl (G.2.2 0, 100, .inl (ja_ rat)))] → W p0 l e0 (rm_Wk_walkCycles d) s m0 args below meth c0 H locs 0 0 Q (F0 m0 77 ls []) := by
  have hx := F.1
  have hb := F.2.1
  have hcy := cy_rng hw hft
  intro N
  induction N with
  | zero => intro c cnt tm vals rat st ls H locs h; omega
  | succ N ihn =>
    intro c cnt tm vals rat st ls H locs hN1 hc0 hc1 hrr hTG hl hh
    have htm := hrr.2.2.1
    have hb2 := b2_01 st.2
    refine lv_lload hx hb d_Wk_walkCycles_77 (lv_at hl 0 rfl) ?_
    refine lv_lload hx hb d_Wk_walkCycles_79 (lv_at hl 1 rfl) ?_
    refine xw_lcmp_gt hx hb 120 d_Wk_walkCycles_81 d_Wk_walkCycles_82 (by decide) (by omega) (fun c81 => ?_) (fun c81 => ?_)
    · first
      | (have e81 : st = TG := by
          rw [cy_nil (by omega)] at hTG
          exact hTG
         rw [e81] at hrr)
      | (have e81 : st = TG := by
          rw [← hTG]
          exact (run_full _ hrr.2.1 (b2_ne (by rw [← htm]; exact c92))).symm
         rw [e81] at hrr)
      exact kk (cnt, tm, vals, rat) ls H locs hrr (lv_sub hl [] rfl) hh
    · refine lv_aload_n hx hb d_Wk_walkCycles_85 rfl (lv_at hl 2 rfl) ?_
      refine xw_get F hh.1 (v := .ref r) fl_Wk_12_5 0 rfl rfl d_Wk_walkCycles_86 ?_
      refine xw_get F hh.1 (v := .int (xi_ tm)) fl_Wk_45_3 1 rfl rfl d_Wk_walkCycles_89 ?_
      refine xw_if_ne hx hb 120 d_Wk_walkCycles_92 (by decide) (by omega) (fun c92 => ?_) (fun c92 => ?_)
      · first
        | (have e81 : st = TG := by
            rw [cy_nil (by omega)] at hTG
            exact hTG
           rw [e81] at hrr)
        | (have e81 : st = TG := by
            rw [← hTG]
            exact (run_full _ hrr.2.1 (b2_ne (by rw [← htm]; exact c92))).symm
           rw [e81] at hrr)
        exact kk (cnt, tm, vals, rat) ls H locs hrr (lv_sub hl [] rfl) hh
      · refine lv_aload_n hx hb d_Wk_walkCycles_95 rfl (lv_at hl 2 rfl) ?_
        refine lv_aload_n hx hb d_Wk_walkCycles_96 rfl (lv_at hl 3 rfl) ?_
        refine lv_lload hx hb d_Wk_walkCycles_97 (lv_at hl 0 rfl) ?_
        refine lv_lload_n hx hb d_Wk_walkCycles_99 rfl (lv_at hl 4 rfl) ?_
        refine lv_lload hx hb d_Wk_walkCycles_100 (lv_at hl 5 rfl) ?_
        refine lv_lload hx hb d_Wk_walkCycles_102 (lv_at hl 6 rfl) ?_
        refine lv_lload hx hb d_Wk_walkCycles_104 (lv_at hl 7 rfl) ?_
        refine lv_iload hx hb d_Wk_walkCycles_106 (lv_at hl 8 rfl) ?_
        refine xw_cv (wc := [(o, .inr (5, [.ref r, .int (xi_ slot), .long (xl_ tl)])), (r, .inr (3, [.int (xi_ (100 : Int)), .ref v, .ref ra, .int (xi_ cnt), .int (xi_ tm)])), (v, .inl (G.2.2 1, (100 * 5), .inr (.inl (jl_ vals)))), (ra, .inl (G.2.2 0, 100, .inl (ja_ rat)))]) (wr := []) hh [0, 1, 2, 3] [] rfl rfl rfl (by decide) (xw_rV F hh [0, 1, 2, 3] rfl rfl (c_Wk_walkCycle_On l G H.size o r v ra cnt tm vals rat st slot tl hst d ih Sd hSd a T c w oo f t hw hft hc0 (by omega) hkd hrr) (nt_now hA hX0 hh) lk_Wk_62 cd_Wk_walkCycle se_Wk_walkCycle_On _ hh.1 0 rfl rfl rfl rfl ⟨by unfold rm_Wk_walkCycle rm_Wk_walkCycles; (try dsimp only); omega, by unfold rm_Wk_walkCycle rm_Wk_walkCycles; (try dsimp only); omega⟩ rfl hl.1 rfl (Nat.le_of_ble_eq_true rfl) d_Wk_walkCycles_108 ⟨Nat.zero_le _, Nat.zero_le _⟩) (fun u H locs hp108 hX hz hk hh => ?_)
        have hh : xw_H G A H0 H locs [(o, .inr (5, [.ref r, .int (xi_ slot), .long (xl_ tl)])), (r, .inr (3, [.int (xi_ (100 : Int)), .ref v, .ref ra, .int (xi_ u.1), .int (xi_ u.2.1)])), (v, .inl (G.2.2 1, (100 * 5), .inr (.inl (jl_ u.2.2.1)))), (ra, .inl (G.2.2 0, 100, .inl (ja_ u.2.2.2)))] := hh
        refine lv_lload hx hb d_Wk_walkCycles_111 (lv_at hl 0 rfl) ?_
        refine lv_lconst (v := xl_ 1) hx hb d_Wk_walkCycles_113 (by decide) ?_
        refine xw_ladd hx hb d_Wk_walkCycles_114 ?_
        refine lv_lstore (lv' := [(18, .long (xl_ (c + 1))), (16, .long (xl_ (cy_last w oo f t))), (0, .ref o), (1, .ref a), (2, .long (xl_ w)), (4, .long (xl_ oo)), (6, .long (xl_ f)), (8, .long (xl_ t)), (10, .int (xi_ (40 - (d : Int))))]) hx hb d_Wk_walkCycles_115 hl (by decide) rfl (fun ls hl => ?_)
        refine lv_goto (tgt := 77) hx hb d_Wk_walkCycles_117 (by decide) ?_
        refine ihn (c + 1) u.1 u.2.1 u.2.2.1 u.2.2.2 (run_ 100 (sk_on slot tl) (g_cyc (gen_ d) T w oo f t c) st) ls H locs (by omega) (by omega) (by omega) hp108 ?_ (lv_sub hl [0, 1, 2, 3, 4, 5, 6, 7, 8] rfl) hh
        rw [← hTG, cy_cons (show c ≤ cy_last w oo f t by omega), run_cons]
set_option maxHeartbeats 4000000 in
set_option maxRecDepth 100000 in
theorem c_Wk_walkCycles_On (l : Launch) (G : GG_) (sz : Nat) (o r v ra : Nat) (cnt tm : Int) (vals rat : Nat → Int) (st : List Row_ × Bool) (slot tl : Int) (hst : 0 ≤ slot ∧ slot ≤ 7 ∧ 0 < tl ∧ tl ≤ 1099511627776) (d : Nat) (ih : cwk_On l G d) (Sd : Nat → Prop) (hSd : ∀ q : Nat, Sd q → q ≠ o ∧ q ≠ r ∧ q ≠ v ∧ q ≠ ra) (a : Nat) (T : PT (d + 1)) (w oo f t : Int) (hw : wok_ (d + 1) T w oo f t) (hft : f < t) (hkd : tr_kd T = 91 ∨ tr_kd T = 69 ∨ tr_kd T = 60 ∨ tr_kd T = 82 ∨ tr_kd T = 86 ∨ (97 ≤ tr_kd T ∧ tr_kd T ≤ 122)) (hrr : rr_ 100 cnt tm vals rat st) : Met l y_Wk_walkCycles (cw_ y_Wk_walkCycles b_Wk_walkCycles 20 none) (rm_Wk_walkCycles d) (xw_P G [.ref o, .ref a, .long (xl_ w), .long (xl_ oo), .long (xl_ f), .long (xl_ t), .int (xi_ (40 - (d : Int)))] sz [(o, .inr (5, [.ref r, .int (xi_ slot), .long (xl_ tl)])), (r, .inr (3, [.int (xi_ (100 : Int)), .ref v, .ref ra, .int (xi_ cnt), .int (xi_ tm)])), (v, .inl (G.2.2 1, (100 * 5), .inr (.inl (jl_ vals)))), (ra, .inl (G.2.2 0, 100, .inl (ja_ rat)))] (fun H => nt_ G Sd (d + 1) H a T)) (xw_Qv (S := Int × Int × (Nat → Int) × (Nat → Int)) G sz [(o, .inr (5, [.ref r, .int (xi_ slot), .long (xl_ tl)])), (r, .inr (3, [.int (xi_ (100 : Int)), .ref v, .ref ra, .int (xi_ cnt), .int (xi_ tm)])), (v, .inl (G.2.2 1, (100 * 5), .inr (.inl (jl_ vals)))), (ra, .inl (G.2.2 0, 100, .inl (ja_ rat)))] (fun u => rr_ 100 u.1 u.2.1 u.2.2.1 u.2.2.2 (run_ 100 (sk_on slot tl) ((cy_range (cy_first w oo f t) (cy_last w oo f t)).flatMap (g_cyc (gen_ d) T w oo f t)) st)) (fun u => [(o, .inr (5, [.ref r, .int (xi_ slot), .long (xl_ tl)])), (r, .inr (3, [.int (xi_ (100 : Int)), .ref v, .ref ra, .int (xi_ u.1), .int (xi_ u.2.1)])), (v, .inl (G.2.2 1, (100 * 5), .inr (.inl (jl_ u.2.2.1)))), (ra, .inl (G.2.2 0, 100, .inl (ja_ u.2.2.2)))]) (fun _ _ => True)) 0 0 (va_A [(o, .inr (5, [.ref r, .int (xi_ slot), .long (xl_ tl)])), (r, .inr (3, [.int (xi_ (100 : Int)), .ref v, .ref ra, .int (xi_ cnt), .int (xi_ tm)])), (v, .inl (G.2.2 1, (100 * 5), .inr (.inl (jl_ vals)))), (ra, .inl (G.2.2 0, 100, .inl (ja_ rat)))] sz) := by
  refine xw_met (by decide) (Nat.le_of_ble_eq_true rfl) ?_
  intro p0 e0 s m0 args below meth c0 F hr hlk hin hsz hh hX ls hl
  subst hsz
  have hx := F.1
  have hb := F.2.1
  have hl : lv_has ls 20 [(0, .ref o), (1, .ref a), (2, .long (xl_ w)), (4, .long (xl_ oo)), (6, .long (xl_ f)), (8, .long (xl_ t)), (10, .int (xi_ (40 - (d : Int))))] := hl
  have hw0 := hw.2.1
  have hwr := wok_w hw
  have hor := wok_o hw
  have hftb := hw.2.2.2.2.1
  have hcy := cy_rng hw hft
  have hA : ∀ q : Nat, Sd q → q < s.heap.size → ¬ va_A [(o, .inr (5, [.ref r, .int (xi_ slot), .long (xl_ tl)])), (r, .inr (3, [.int (xi_ (100 : Int)), .ref v, .ref ra, .int (xi_ cnt), .int (xi_ tm)])), (v, .inl (G.2.2 1, (100 * 5), .inr (.inl (jl_ vals)))), (ra, .inl (G.2.2 0, 100, .inl (ja_ rat)))] s.heap.size q := not_in4 hSd
  refine lv_lload_n hx hb d_Wk_walkCycles_0 rfl (lv_at hl 2 rfl) ?_
  refine lv_lconst (v := xl_ 0) hx hb d_Wk_walkCycles_1 (by decide) ?_
  refine xw_lcmp_le hx hb 10 d_Wk_walkCycles_2 d_Wk_walkCycles_3 (by decide) (by omega) (fun c2 => ?_) (fun c2 => ?_)
  · refine lv_iconst (v := xi_ 0) hx hb d_Wk_walkCycles_10 rfl ?_
    refine lv_istore (lv' := [(11, .int (xi_ 0)), (0, .ref o), (1, .ref a), (2, .long (xl_ w)), (4, .long (xl_ oo)), (6, .long (xl_ f)), (8, .long (xl_ t)), (10, .int (xi_ (40 - (d : Int))))]) hx hb d_Wk_walkCycles_11 hl (by decide) rfl (fun ls hl => ?_)
    refine lv_lload_n hx hb d_Wk_walkCycles_13 rfl (lv_at hl 3 rfl) ?_
    refine xw_absl F hl.1 lk_Wk_52' (by unfold rm_Wk_walkCycles; (try dsimp only); omega) (Nat.le_trans (m := 60) (Nat.le_of_ble_eq_true rfl) (by unfold rm_Wk_walkCycles; (try dsimp only); omega)) (Nat.zero_le _) (Nat.zero_le _) (by omega) d_Wk_walkCycles_14 ?_
    refine xw_topl (y := -w) (if_neg (by omega)) ?_
    refine lv_lstore (lv' := [(12, .long (xl_ (-w))), (11, .int (xi_ 0)), (0, .ref o), (1, .ref a), (2, .long (xl_ w)), (4, .long (xl_ oo)), (6, .long (xl_ f)), (8, .long (xl_ t)), (10, .int (xi_ (40 - (d : Int))))]) hx hb d_Wk_walkCycles_17 hl (by decide) rfl (fun ls hl => ?_)
    refine lv_iload hx hb d_Wk_walkCycles_19 (lv_at hl 1 rfl) ?_
    refine xw_if_eq hx hb 32 d_Wk_walkCycles_21 (by decide) (by decide) (fun c21 => ?_) (fun c21 => absurd c21 (by decide))
    refine lv_lload hx hb d_Wk_walkCycles_32 (lv_at hl 5 rfl) ?_
    refine lv_lload hx hb d_Wk_walkCycles_34 (lv_at hl 7 rfl) ?_
    refine xw_lsub hx hb d_Wk_walkCycles_36 ?_
    refine lv_lload hx hb d_Wk_walkCycles_37 (lv_at hl 0 rfl) ?_
    refine xw_clp hh (xw_rSp F (c_Jm_floorDiv l G s.heap.size (oo - t) (-w) (by omega)) lk_Wk_58 cd_Jm_floorDiv ss_Jm_floorDiv rfl rfl ⟨by unfold rm_Jm_floorDiv rm_Wk_walkCycles; (try dsimp only); omega, by unfold rm_Jm_floorDiv rm_Wk_walkCycles; (try dsimp only); omega⟩ rfl hl.1 rfl (Nat.le_of_ble_eq_true rfl) d_Wk_walkCycles_39 ⟨Nat.zero_le _, Nat.zero_le _⟩) (fun z39 u H locs hp39 hz hk hh => ?_)
    refine xw_topl (y := cy_first w oo f t) (by rw [hp39]; unfold cy_first; rw [if_neg (by omega)]) ?_
    refine lv_lstore (lv' := [(14, .long (xl_ (cy_first w oo f t))), (12, .long (xl_ (-w))), (11, .int (xi_ 0)), (0, .ref o), (1, .ref a), (2, .long (xl_ w)), (4, .long (xl_ oo)), (6, .long (xl_ f)), (8, .long (xl_ t)), (10, .int (xi_ (40 - (d : Int))))]) hx hb d_Wk_walkCycles_42 hl (by decide) rfl (fun ls hl => ?_)
    refine lv_iload hx hb d_Wk_walkCycles_44 (lv_at hl 2 rfl) ?_
    refine xw_if_eq hx hb 59 d_Wk_walkCycles_46 (by decide) (by decide) (fun c46 => ?_) (fun c46 => absurd c46 (by decide))
    refine lv_lload hx hb d_Wk_walkCycles_59 (lv_at hl 6 rfl) ?_
    refine lv_lconst (v := xl_ 1) hx hb d_Wk_walkCycles_61 (by decide) ?_
    refine xw_lsub hx hb d_Wk_walkCycles_62 ?_
    refine lv_lload hx hb d_Wk_walkCycles_63 (lv_at hl 7 rfl) ?_
    refine xw_lsub hx hb d_Wk_walkCycles_65 ?_
    refine lv_lload hx hb d_Wk_walkCycles_66 (lv_at hl 1 rfl) ?_
    refine xw_clp hh (xw_rSp F (c_Jm_floorDiv l G H.size ((oo - 1) - f) (-w) (by omega)) lk_Wk_58 cd_Jm_floorDiv ss_Jm_floorDiv rfl rfl ⟨by unfold rm_Jm_floorDiv rm_Wk_walkCycles; (try dsimp only); omega, by unfold rm_Jm_floorDiv rm_Wk_walkCycles; (try dsimp only); omega⟩ rfl hl.1 rfl (Nat.le_of_ble_eq_true rfl) d_Wk_walkCycles_68 ⟨Nat.zero_le _, Nat.zero_le _⟩) (fun z68 u H locs hp68 hz hk hh => ?_)
    refine xw_topl (y := cy_last w oo f t) (by rw [hp68]; unfold cy_last; rw [if_neg (by omega)]) ?_
    refine lv_lstore (lv' := [(16, .long (xl_ (cy_last w oo f t))), (14, .long (xl_ (cy_first w oo f t))), (12, .long (xl_ (-w))), (11, .int (xi_ 0)), (0, .ref o), (1, .ref a), (2, .long (xl_ w)), (4, .long (xl_ oo)), (6, .long (xl_ f)), (8, .long (xl_ t)), (10, .int (xi_ (40 - (d : Int))))]) hx hb d_Wk_walkCycles_71 hl (by decide) rfl (fun ls hl => ?_)
    refine lv_lload hx hb d_Wk_walkCycles_73 (lv_at hl 1 rfl) ?_
    refine lv_lstore (lv' := [(18, .long (xl_ (cy_first w oo f t))), (16, .long (xl_ (cy_last w oo f t))), (14, .long (xl_ (cy_first w oo f t))), (12, .long (xl_ (-w))), (11, .int (xi_ 0)), (0, .ref o), (1, .ref a), (2, .long (xl_ w)), (4, .long (xl_ oo)), (6, .long (xl_ f)), (8, .long (xl_ t)), (10, .int (xi_ (40 - (d : Int))))]) hx hb d_Wk_walkCycles_75 hl (by decide) rfl (fun ls hl => ?_)
    refine lp_Wk_walkCycles_On d F ih o r v ra slot tl hst Sd hSd hA a T hX w oo f t hw hft hkd (run_ 100 (sk_on slot tl) ((cy_range (cy_first w oo f t) (cy_last w oo f t)).flatMap (g_cyc (gen_ d) T w oo f t)) st) (fun u ls H locs hp81 hl hh => ?_) ((cy_last w oo f t + 1 - cy_first w oo f t).toNat + 1) (cy_first w oo f t) cnt tm vals rat st ls H _ (by omega) (by omega) (Or.inr rfl) hrr rfl (lv_sub hl [0, 1, 5, 6, 7, 8, 9, 10, 11] rfl) hh
    exact xw_vret F hr hlk hh u rfl hp81 trivial d_Wk_walkCycles_120
  · refine lv_iconst (v := xi_ 1) hx hb d_Wk_walkCycles_6 rfl ?_
    refine lv_goto (tgt := 11) hx hb d_Wk_walkCycles_7 (by decide) ?_
    refine lv_istore (lv' := [(11, .int (xi_ 1)), (0, .ref o), (1, .ref a), (2, .long (xl_ w)), (4, .long (xl_ oo)), (6, .long (xl_ f)), (8, .long (xl_ t)), (10, .int (xi_ (40 - (d : Int))))]) hx hb d_Wk_walkCycles_11 hl (by decide) rfl (fun ls hl => ?_)
    refine lv_lload_n hx hb d_Wk_walkCycles_13 rfl (lv_at hl 3 rfl) ?_
    refine xw_absl F hl.1 lk_Wk_52' (by unfold rm_Wk_walkCycles; (try dsimp only); omega) (Nat.le_trans (m := 60) (Nat.le_of_ble_eq_true rfl) (by unfold rm_Wk_walkCycles; (try dsimp only); omega)) (Nat.zero_le _) (Nat.zero_le _) (by omega) d_Wk_walkCycles_14 ?_
    refine xw_topl (y := w) (if_pos c2) ?_
    refine lv_lstore (lv' := [(12, .long (xl_ w)), (11, .int (xi_ 1)), (0, .ref o), (1, .ref a), (2, .long (xl_ w)), (4, .long (xl_ oo)), (6, .long (xl_ f)), (8, .long (xl_ t)), (10, .int (xi_ (40 - (d : Int))))]) hx hb d_Wk_walkCycles_17 hl (by decide) rfl (fun ls hl => ?_)
    refine lv_iload hx hb d_Wk_walkCycles_19 (lv_at hl 1 rfl) ?_
    refine xw_if_eq hx hb 32 d_Wk_walkCycles_21 (by decide) (by decide) (fun c21 => absurd c21 (by decide)) (fun c21 => ?_)
    refine lv_lload hx hb d_Wk_walkCycles_24 (lv_at hl 6 rfl) ?_
    refine lv_lload hx hb d_Wk_walkCycles_26 (lv_at hl 5 rfl) ?_
    refine xw_lsub hx hb d_Wk_walkCycles_28 ?_
    refine lv_goto (tgt := 37) hx hb d_Wk_walkCycles_29 (by decide) ?_
    refine lv_lload hx hb d_Wk_walkCycles_37 (lv_at hl 0 rfl) ?_
    refine xw_clp hh (xw_rSp F (c_Jm_floorDiv l G s.heap.size (f - oo) (w) (by omega)) lk_Wk_58 cd_Jm_floorDiv ss_Jm_floorDiv rfl rfl ⟨by unfold rm_Jm_floorDiv rm_Wk_walkCycles; (try dsimp only); omega, by unfold rm_Jm_floorDiv rm_Wk_walkCycles; (try dsimp only); omega⟩ rfl hl.1 rfl (Nat.le_of_ble_eq_true rfl) d_Wk_walkCycles_39 ⟨Nat.zero_le _, Nat.zero_le _⟩) (fun z39 u H locs hp39 hz hk hh => ?_)
    refine xw_topl (y := cy_first w oo f t) (by rw [hp39]; unfold cy_first; rw [if_pos c2]) ?_
    refine lv_lstore (lv' := [(14, .long (xl_ (cy_first w oo f t))), (12, .long (xl_ w)), (11, .int (xi_ 1)), (0, .ref o), (1, .ref a), (2, .long (xl_ w)), (4, .long (xl_ oo)), (6, .long (xl_ f)), (8, .long (xl_ t)), (10, .int (xi_ (40 - (d : Int))))]) hx hb d_Wk_walkCycles_42 hl (by decide) rfl (fun ls hl => ?_)
    refine lv_iload hx hb d_Wk_walkCycles_44 (lv_at hl 2 rfl) ?_
    refine xw_if_eq hx hb 59 d_Wk_walkCycles_46 (by decide) (by decide) (fun c46 => absurd c46 (by decide)) (fun c46 => ?_)
    refine lv_lload hx hb d_Wk_walkCycles_49 (lv_at hl 8 rfl) ?_
    refine lv_lconst (v := xl_ 1) hx hb d_Wk_walkCycles_51 (by decide) ?_
    refine xw_lsub hx hb d_Wk_walkCycles_52 ?_
    refine lv_lload hx hb d_Wk_walkCycles_53 (lv_at hl 6 rfl) ?_
    refine xw_lsub hx hb d_Wk_walkCycles_55 ?_
    refine lv_goto (tgt := 66) hx hb d_Wk_walkCycles_56 (by decide) ?_
    refine lv_lload hx hb d_Wk_walkCycles_66 (lv_at hl 1 rfl) ?_
    refine xw_clp hh (xw_rSp F (c_Jm_floorDiv l G H.size ((t - 1) - oo) (w) (by omega)) lk_Wk_58 cd_Jm_floorDiv ss_Jm_floorDiv rfl rfl ⟨by unfold rm_Jm_floorDiv rm_Wk_walkCycles; (try dsimp only); omega, by unfold rm_Jm_floorDiv rm_Wk_walkCycles; (try dsimp only); omega⟩ rfl hl.1 rfl (Nat.le_of_ble_eq_true rfl) d_Wk_walkCycles_68 ⟨Nat.zero_le _, Nat.zero_le _⟩) (fun z68 u H locs hp68 hz hk hh => ?_)
    refine xw_topl (y := cy_last w oo f t) (by rw [hp68]; unfold cy_last; rw [if_pos c2]) ?_
    refine lv_lstore (lv' := [(16, .long (xl_ (cy_last w oo f t))), (14, .long (xl_ (cy_first w oo f t))), (12, .long (xl_ w)), (11, .int (xi_ 1)), (0, .ref o), (1, .ref a), (2, .long (xl_ w)), (4, .long (xl_ oo)), (6, .long (xl_ f)), (8, .long (xl_ t)), (10, .int (xi_ (40 - (d : Int))))]) hx hb d_Wk_walkCycles_71 hl (by decide) rfl (fun ls hl => ?_)
    refine lv_lload hx hb d_Wk_walkCycles_73 (lv_at hl 1 rfl) ?_
    refine lv_lstore (lv' := [(18, .long (xl_ (cy_first w oo f t))), (16, .long (xl_ (cy_last w oo f t))), (14, .long (xl_ (cy_first w oo f t))), (12, .long (xl_ w)), (11, .int (xi_ 1)), (0, .ref o), (1, .ref a), (2, .long (xl_ w)), (4, .long (xl_ oo)), (6, .long (xl_ f)), (8, .long (xl_ t)), (10, .int (xi_ (40 - (d : Int))))]) hx hb d_Wk_walkCycles_75 hl (by decide) rfl (fun ls hl => ?_)
    refine lp_Wk_walkCycles_On d F ih o r v ra slot tl hst Sd hSd hA a T hX w oo f t hw hft hkd (run_ 100 (sk_on slot tl) ((cy_range (cy_first w oo f t) (cy_last w oo f t)).flatMap (g_cyc (gen_ d) T w oo f t)) st) (fun u ls H locs hp81 hl hh => ?_) ((cy_last w oo f t + 1 - cy_first w oo f t).toNat + 1) (cy_first w oo f t) cnt tm vals rat st ls H _ (by omega) (by omega) (Or.inr rfl) hrr rfl (lv_sub hl [0, 1, 5, 6, 7, 8, 9, 10, 11] rfl) hh
    exact xw_vret F hr hlk hh u rfl hp81 trivial d_Wk_walkCycles_120
