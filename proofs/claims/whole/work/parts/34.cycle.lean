/-! Walk.walkCycle -/
theorem sm_hear : Cond.sameMethod "CyclePatterns$Walk" "CyclePatterns$Walk" "hear" "(CJJJJ)V" ∈ WS := tb_in (i := 348) rfl (by decide +kernel)
theorem sl_hear_Pa : Cond.selects R_Pa ⟨"CyclePatterns$Walk", "hear", "(CJJJJ)V"⟩ y_Pa_hear ∈ WS := tb_in (i := 364) rfl (by decide +kernel)
theorem sl_hear_On : Cond.selects R_On ⟨"CyclePatterns$Walk", "hear", "(CJJJJ)V"⟩ y_On_hear ∈ WS := tb_in (i := 349) rfl (by decide +kernel)
set_option maxHeartbeats 4000000 in
set_option maxRecDepth 100000 in
theorem c_Wk_walkCycle_Pa (l : Launch) (G : GG_) (sz : Nat) (o r v ra : Nat) (cnt tm : Int) (vals rat : Nat → Int) (st : List Row_ × Bool)  (d : Nat) (ih : cwk_Pa l G d) (Sd : Nat → Prop) (hSd : ∀ q : Nat, Sd q → q ≠ o ∧ q ≠ r ∧ q ≠ v ∧ q ≠ ra) (a : Nat) (T : PT (d + 1)) (c w oo f t : Int) (hw : wok_ (d + 1) T w oo f t) (hft : f < t) (h1 : cy_first w oo f t ≤ c) (h2 : c ≤ cy_last w oo f t) (hkd : tr_kd T = 91 ∨ tr_kd T = 69 ∨ tr_kd T = 60 ∨ tr_kd T = 82 ∨ tr_kd T = 86 ∨ (97 ≤ tr_kd T ∧ tr_kd T ≤ 122)) (hrr : rr_ 200 cnt tm vals rat st) : Met l y_Wk_walkCycle (cw_ y_Wk_walkCycle b_Wk_walkCycle 19 none) (rm_Wk_walkCycle d) (xw_P G [.ref o, .ref a, .long (xl_ c), .long (xl_ w), .long (xl_ oo), .long (xl_ f), .long (xl_ t), .int (xi_ (40 - (d : Int)))] sz [(o, .inr (4, [.ref r])), (r, .inr (3, [.int (xi_ (200 : Int)), .ref v, .ref ra, .int (xi_ cnt), .int (xi_ tm)])), (v, .inl (G.2.2 1, (200 * 5), .inr (.inl (jl_ vals)))), (ra, .inl (G.2.2 0, 200, .inl (ja_ rat)))] (fun H => nt_ G Sd (d + 1) H a T)) (xw_Qv (S := Int × Int × (Nat → Int) × (Nat → Int)) G sz [(o, .inr (4, [.ref r])), (r, .inr (3, [.int (xi_ (200 : Int)), .ref v, .ref ra, .int (xi_ cnt), .int (xi_ tm)])), (v, .inl (G.2.2 1, (200 * 5), .inr (.inl (jl_ vals)))), (ra, .inl (G.2.2 0, 200, .inl (ja_ rat)))] (fun u => rr_ 200 u.1 u.2.1 u.2.2.1 u.2.2.2 (run_ 200 sk_pa (g_cyc (gen_ d) T w oo f t c) st)) (fun u => [(o, .inr (4, [.ref r])), (r, .inr (3, [.int (xi_ (200 : Int)), .ref v, .ref ra, .int (xi_ u.1), .int (xi_ u.2.1)])), (v, .inl (G.2.2 1, (200 * 5), .inr (.inl (jl_ u.2.2.1)))), (ra, .inl (G.2.2 0, 200, .inl (ja_ u.2.2.2)))]) (fun _ _ => True)) 0 0 (va_A [(o, .inr (4, [.ref r])), (r, .inr (3, [.int (xi_ (200 : Int)), .ref v, .ref ra, .int (xi_ cnt), .int (xi_ tm)])), (v, .inl (G.2.2 1, (200 * 5), .inr (.inl (jl_ vals)))), (ra, .inl (G.2.2 0, 200, .inl (ja_ rat)))] sz) := by
  refine xw_met (by decide) (Nat.le_of_ble_eq_true rfl) ?_
  intro p0 e0 s m0 args below meth c0 F hr hlk hin hsz hh hX ls hl
  subst hsz
  have hx := F.1
  have hb := F.2.1
  have hl : lv_has ls 19 [(0, .ref o), (1, .ref a), (2, .long (xl_ c)), (4, .long (xl_ w)), (6, .long (xl_ oo)), (8, .long (xl_ f)), (10, .long (xl_ t)), (12, .int (xi_ (40 - (d : Int))))] := hl
  have hX0 := hX
  obtain ⟨hSa, ia, room, fch, hSia, hN, hro1, hro2, hkid⟩ := hX
  have hwf := hw.1.1
  have hrg := wf_rng hwf
  have hwr := wok_w hw
  have hor := wok_o hw
  have hd40 := hw.2.2.2.2.2.1
  have hftb := hw.2.2.2.2.1
  have hA : ∀ q : Nat, Sd q → q < s.heap.size → ¬ va_A [(o, .inr (4, [.ref r])), (r, .inr (3, [.int (xi_ (200 : Int)), .ref v, .ref ra, .int (xi_ cnt), .int (xi_ tm)])), (v, .inl (G.2.2 1, (200 * 5), .inr (.inl (jl_ vals)))), (ra, .inl (G.2.2 0, 200, .inl (ja_ rat)))] s.heap.size q := not_in4 hSd
  have hcr : -9000000000000000 ≤ c ∧ c ≤ 9000000000000000 := by
    have q1 := cy_near hw.2.1 hwr hftb h1 h2 hft
    by_cases hp : 0 < w
    · by_cases hc : 0 ≤ c
      · have q2 : 1 * c ≤ w * c := Int.mul_le_mul_of_nonneg_right (by omega) hc
        omega
      · have q2 : w * c ≤ 1 * c := Int.mul_le_mul_of_nonpos_right (by omega) (by omega)
        omega
    · have e1 : (-w) * c = -(w * c) := Int.neg_mul _ _
      have hw0 := hw.2.1
      by_cases hc : 0 ≤ c
      · have q2 : 1 * c ≤ (-w) * c := Int.mul_le_mul_of_nonneg_right (by omega) hc
        omega
      · have q2 : (-w) * c ≤ 1 * c := Int.mul_le_mul_of_nonpos_right (by omega) (by omega)
        omega
  refine lv_aload_n hx hb d_Wk_walkCycle_0 rfl (lv_at hl 1 rfl) ?_
  refine xw_get F (vp_now hA hSa hSia hN hh) (v := .int (xi_ (tr_kd T))) fl_Wk_26_1 0 rfl rfl d_Wk_walkCycle_1 ?_
  rcases hkd with h91 | h69 | h60 | h82 | h86 | hle
  · refine lv_lookup (off := 52) (tgt := 56) hx hb d_Wk_walkCycle_4 (by decide) (by rw [h91]; decide) (by decide) ?_
    refine lv_aload_n hx hb d_Wk_walkCycle_56 rfl (lv_at hl 0 rfl) ?_
    refine lv_aload_n hx hb d_Wk_walkCycle_57 rfl (lv_at hl 1 rfl) ?_
    refine lv_lload_n hx hb d_Wk_walkCycle_58 rfl (lv_at hl 2 rfl) ?_
    refine lv_lload hx hb d_Wk_walkCycle_59 (lv_at hl 3 rfl) ?_
    refine lv_lload hx hb d_Wk_walkCycle_61 (lv_at hl 4 rfl) ?_
    refine lv_lload hx hb d_Wk_walkCycle_63 (lv_at hl 5 rfl) ?_
    refine lv_lload hx hb d_Wk_walkCycle_65 (lv_at hl 6 rfl) ?_
    refine lv_iload hx hb d_Wk_walkCycle_67 (lv_at hl 7 rfl) ?_
    refine xw_cv (wc := [(o, .inr (4, [.ref r])), (r, .inr (3, [.int (xi_ (200 : Int)), .ref v, .ref ra, .int (xi_ cnt), .int (xi_ tm)])), (v, .inl (G.2.2 1, (200 * 5), .inr (.inl (jl_ vals)))), (ra, .inl (G.2.2 0, 200, .inl (ja_ rat)))]) (wr := []) hh [0, 1, 2, 3] [] rfl rfl rfl (by decide) (xw_rV F hh [0, 1, 2, 3] rfl rfl (c_Wk_walkSteps_Pa l G s.heap.size o r v ra cnt tm vals rat st  d ih Sd hSd a T c w oo f t hw hft h1 h2 (Or.inl h91) hrr) hX0 lk_Wk_66 cd_Wk_walkSteps se_Wk_walkSteps_Pa _ hh.1 0 rfl rfl rfl rfl ⟨by unfold rm_Wk_walkSteps rm_Wk_walkCycle; (try dsimp only); omega, by unfold rm_Wk_walkSteps rm_Wk_walkCycle; (try dsimp only); omega⟩ rfl hl.1 rfl (Nat.le_of_ble_eq_true rfl) d_Wk_walkCycle_69 ⟨Nat.zero_le _, Nat.zero_le _⟩) (fun u H locs hp69 hX hz hk hh => ?_)
    have hh : xw_H G (va_A [(o, .inr (4, [.ref r])), (r, .inr (3, [.int (xi_ (200 : Int)), .ref v, .ref ra, .int (xi_ cnt), .int (xi_ tm)])), (v, .inl (G.2.2 1, (200 * 5), .inr (.inl (jl_ vals)))), (ra, .inl (G.2.2 0, 200, .inl (ja_ rat)))] s.heap.size) s.heap H locs [(o, .inr (4, [.ref r])), (r, .inr (3, [.int (xi_ (200 : Int)), .ref v, .ref ra, .int (xi_ u.1), .int (xi_ u.2.1)])), (v, .inl (G.2.2 1, (200 * 5), .inr (.inl (jl_ u.2.2.1)))), (ra, .inl (G.2.2 0, 200, .inl (ja_ u.2.2.2)))] := hh
    refine lv_goto (tgt := 243) hx hb d_Wk_walkCycle_72 (by decide) ?_
    exact xw_vret F hr hlk hh u rfl hp69 trivial d_Wk_walkCycle_243
  · refine lv_lookup (off := 52) (tgt := 56) hx hb d_Wk_walkCycle_4 (by decide) (by rw [h69]; decide) (by decide) ?_
    refine lv_aload_n hx hb d_Wk_walkCycle_56 rfl (lv_at hl 0 rfl) ?_
    refine lv_aload_n hx hb d_Wk_walkCycle_57 rfl (lv_at hl 1 rfl) ?_
    refine lv_lload_n hx hb d_Wk_walkCycle_58 rfl (lv_at hl 2 rfl) ?_
    refine lv_lload hx hb d_Wk_walkCycle_59 (lv_at hl 3 rfl) ?_
    refine lv_lload hx hb d_Wk_walkCycle_61 (lv_at hl 4 rfl) ?_
    refine lv_lload hx hb d_Wk_walkCycle_63 (lv_at hl 5 rfl) ?_
    refine lv_lload hx hb d_Wk_walkCycle_65 (lv_at hl 6 rfl) ?_
    refine lv_iload hx hb d_Wk_walkCycle_67 (lv_at hl 7 rfl) ?_
    refine xw_cv (wc := [(o, .inr (4, [.ref r])), (r, .inr (3, [.int (xi_ (200 : Int)), .ref v, .ref ra, .int (xi_ cnt), .int (xi_ tm)])), (v, .inl (G.2.2 1, (200 * 5), .inr (.inl (jl_ vals)))), (ra, .inl (G.2.2 0, 200, .inl (ja_ rat)))]) (wr := []) hh [0, 1, 2, 3] [] rfl rfl rfl (by decide) (xw_rV F hh [0, 1, 2, 3] rfl rfl (c_Wk_walkSteps_Pa l G s.heap.size o r v ra cnt tm vals rat st  d ih Sd hSd a T c w oo f t hw hft h1 h2 (Or.inr h69) hrr) hX0 lk_Wk_66 cd_Wk_walkSteps se_Wk_walkSteps_Pa _ hh.1 0 rfl rfl rfl rfl ⟨by unfold rm_Wk_walkSteps rm_Wk_walkCycle; (try dsimp only); omega, by unfold rm_Wk_walkSteps rm_Wk_walkCycle; (try dsimp only); omega⟩ rfl hl.1 rfl (Nat.le_of_ble_eq_true rfl) d_Wk_walkCycle_69 ⟨Nat.zero_le _, Nat.zero_le _⟩) (fun u H locs hp69 hX hz hk hh => ?_)
    have hh : xw_H G (va_A [(o, .inr (4, [.ref r])), (r, .inr (3, [.int (xi_ (200 : Int)), .ref v, .ref ra, .int (xi_ cnt), .int (xi_ tm)])), (v, .inl (G.2.2 1, (200 * 5), .inr (.inl (jl_ vals)))), (ra, .inl (G.2.2 0, 200, .inl (ja_ rat)))] s.heap.size) s.heap H locs [(o, .inr (4, [.ref r])), (r, .inr (3, [.int (xi_ (200 : Int)), .ref v, .ref ra, .int (xi_ u.1), .int (xi_ u.2.1)])), (v, .inl (G.2.2 1, (200 * 5), .inr (.inl (jl_ u.2.2.1)))), (ra, .inl (G.2.2 0, 200, .inl (ja_ u.2.2.2)))] := hh
    refine lv_goto (tgt := 243) hx hb d_Wk_walkCycle_72 (by decide) ?_
    exact xw_vret F hr hlk hh u rfl hp69 trivial d_Wk_walkCycle_243
  · refine lv_lookup (off := 71) (tgt := 75) hx hb d_Wk_walkCycle_4 (by decide) (by rw [h60]; decide) (by decide) ?_
    refine lv_lload_n hx hb d_Wk_walkCycle_75 rfl (lv_at hl 2 rfl) ?_
    refine lv_aload_n hx hb d_Wk_walkCycle_76 rfl (lv_at hl 1 rfl) ?_
    refine xw_get F (vp_now hA hSa hSia hN hh) (v := .int (xi_ (tr_n T))) fl_Wk_42_1 0 rfl rfl d_Wk_walkCycle_77 ?_
    refine xw_i2l hx hb d_Wk_walkCycle_80 (by omega) ?_
    refine xw_clp hh (xw_rSp F (c_Jm_floorDiv l G s.heap.size c (tr_n T) (by omega)) lk_Wk_58 cd_Jm_floorDiv ss_Jm_floorDiv rfl rfl ⟨by unfold rm_Jm_floorDiv rm_Wk_walkCycle; (try dsimp only); omega, by unfold rm_Jm_floorDiv rm_Wk_walkCycle; (try dsimp only); omega⟩ rfl hl.1 rfl (Nat.le_of_ble_eq_true rfl) d_Wk_walkCycle_81 ⟨Nat.zero_le _, Nat.zero_le _⟩) (fun z81 u H locs hp81 hz hk hh => ?_)
    obtain rfl : z81 = c / tr_n T := hp81
    refine lv_lstore (lv' := [(13, .long (xl_ (c / tr_n T))), (0, .ref o), (1, .ref a), (2, .long (xl_ c)), (4, .long (xl_ w)), (6, .long (xl_ oo)), (8, .long (xl_ f)), (10, .long (xl_ t)), (12, .int (xi_ (40 - (d : Int))))]) hx hb d_Wk_walkCycle_84 hl (by decide) rfl (fun ls hl => ?_)
    refine lv_aload_n hx hb d_Wk_walkCycle_86 rfl (lv_at hl 2 rfl) ?_
    refine lv_lload_n hx hb d_Wk_walkCycle_87 rfl (lv_at hl 3 rfl) ?_
    refine lv_aload_n hx hb d_Wk_walkCycle_88 rfl (lv_at hl 2 rfl) ?_
    refine xw_get F (vp_now hA hSa hSia hN hh) (v := .int (xi_ (tr_n T))) fl_Wk_42_1 0 rfl rfl d_Wk_walkCycle_89 ?_
    refine xw_i2l hx hb d_Wk_walkCycle_92 (by omega) ?_
    refine xw_clp hh (xw_rSp F (c_Jm_floorMod l G H.size c (tr_n T) (by omega)) lk_Wk_69 cd_Jm_floorMod ss_Jm_floorMod rfl rfl ⟨by unfold rm_Jm_floorMod rm_Wk_walkCycle; (try dsimp only); omega, by unfold rm_Jm_floorMod rm_Wk_walkCycle; (try dsimp only); omega⟩ rfl hl.1 rfl (Nat.le_of_ble_eq_true rfl) d_Wk_walkCycle_93 ⟨Nat.zero_le _, Nat.zero_le _⟩) (fun z93 u H locs hp93 hz hk hh => ?_)
    obtain rfl : z93 = c % tr_n T := hp93
    refine xw_l2i hx hb d_Wk_walkCycle_96 ?_
    have hn9 : ((tr_cs T).length : Int) = tr_n T ∧ 0 ≤ c % tr_n T ∧ c % tr_n T < tr_n T := by
      refine ⟨by rcases hwf with q | q | q | q | q | q | q <;> omega, Int.emod_nonneg c (by omega), Int.emod_lt_of_pos c (by omega)⟩
    obtain ⟨y97, hy97⟩ : ∃ y, (tr_cs T)[(c % tr_n T).toNat]? = some y := ⟨_, List.getElem?_eq_getElem (by omega)⟩
    obtain ⟨b97, hb97, hnt97⟩ := hkid _ y97 hy97
    refine xw_cap hh (xw_rVp F (c_N_innerAt l G H.size a ia room fch (tr_kd T) ((tr_cs T).length : Int) (tr_k T) (tr_n T) (tr_r T) (b2_ (has_ T)) (c % tr_n T) (by omega) (by omega)) (vp_now hA hSa hSia hN hh) lk_Wk_30 cd_N_innerAt se_N_innerAt _ (vp_now hA hSa hSia hN hh) 0 rfl rfl rfl rfl ⟨by unfold rm_N_innerAt rm_Wk_walkCycle; (try dsimp only); omega, by unfold rm_N_innerAt rm_Wk_walkCycle; (try dsimp only); omega⟩ rfl hl.1 rfl (Nat.le_of_ble_eq_true rfl) d_Wk_walkCycle_97 ⟨Nat.zero_le _, Nat.zero_le _⟩) (fun z97 u H locs hp97 hz hk hh => ?_)
    refine xw_topr (b := b97) (by rw [hp97, if_pos (by omega)]; exact hb97) ?_
    refine lv_astore (lv' := [(15, .ref b97), (13, .long (xl_ (c / tr_n T))), (0, .ref o), (1, .ref a), (2, .long (xl_ c)), (4, .long (xl_ w)), (6, .long (xl_ oo)), (8, .long (xl_ f)), (10, .long (xl_ t)), (12, .int (xi_ (40 - (d : Int))))]) hx hb d_Wk_walkCycle_100 hl (by decide) rfl (fun ls hl => ?_)
    refine lv_aload_n hx hb d_Wk_walkCycle_102 rfl (lv_at hl 2 rfl) ?_
    refine lv_lload hx hb d_Wk_walkCycle_103 (lv_at hl 1 rfl) ?_
    refine lv_aload hx hb d_Wk_walkCycle_105 (lv_at hl 0 rfl) ?_
    refine lv_lload hx hb d_Wk_walkCycle_107 (lv_at hl 5 rfl) ?_
    refine lv_lload hx hb d_Wk_walkCycle_109 (lv_at hl 6 rfl) ?_
    refine lv_lload hx hb d_Wk_walkCycle_111 (lv_at hl 5 rfl) ?_
    refine lv_lload_n hx hb d_Wk_walkCycle_113 rfl (lv_at hl 4 rfl) ?_
    refine lv_lload hx hb d_Wk_walkCycle_114 (lv_at hl 1 rfl) ?_
    refine xw_lsub hx hb d_Wk_walkCycle_116 ?_
    refine xw_lmul hx hb d_Wk_walkCycle_117 ?_
    refine xw_ladd hx hb d_Wk_walkCycle_118 ?_
    refine lv_lload hx hb d_Wk_walkCycle_119 (lv_at hl 7 rfl) ?_
    refine lv_lload hx hb d_Wk_walkCycle_121 (lv_at hl 8 rfl) ?_
    refine lv_iload hx hb d_Wk_walkCycle_123 (lv_at hl 9 rfl) ?_
    obtain ⟨hs1, hs2⟩ := wok_turn hw hft h1 h2 (by omega)
    have hbr := bg_rng (c := c / tr_n T) (w := w) (o := oo + w * (c - c / tr_n T)) (by omega) hs2
    refine xw_cv (wc := [(o, .inr (4, [.ref r])), (r, .inr (3, [.int (xi_ (200 : Int)), .ref v, .ref ra, .int (xi_ cnt), .int (xi_ tm)])), (v, .inl (G.2.2 1, (200 * 5), .inr (.inl (jl_ vals)))), (ra, .inl (G.2.2 0, 200, .inl (ja_ rat)))]) (wr := []) hh [0, 1, 2, 3] [] rfl rfl rfl (by decide) (xw_rV F hh [0, 1, 2, 3] rfl rfl (c_Wk_walkInto_Pa l G H.size o r v ra cnt tm vals rat st  d ih (by omega) Sd hSd (some b97) (some y97) (c / tr_n T) (w) (oo + w * (c - c / tr_n T)) f t (by omega) ⟨hbr.1, hbr.2, by omega, by omega⟩ (fun y hy => by
      cases hy
      exact hs1 _ y97 hy97 _ _ (by omega) (by omega)) hrr) (nt_now hA hnt97 hh) lk_Wk_72 cd_Wk_walkInto se_Wk_walkInto_Pa _ hh.1 0 rfl rfl rfl rfl ⟨by unfold rm_Wk_walkInto rm_Wk_walkCycle; (try dsimp only); omega, by unfold rm_Wk_walkInto rm_Wk_walkCycle; (try dsimp only); omega⟩ rfl hl.1 rfl (Nat.le_of_ble_eq_true rfl) d_Wk_walkCycle_125 ⟨Nat.zero_le _, Nat.zero_le _⟩) (fun u H locs hp125 hX hz hk hh => ?_)
    have hh : xw_H G (va_A [(o, .inr (4, [.ref r])), (r, .inr (3, [.int (xi_ (200 : Int)), .ref v, .ref ra, .int (xi_ cnt), .int (xi_ tm)])), (v, .inl (G.2.2 1, (200 * 5), .inr (.inl (jl_ vals)))), (ra, .inl (G.2.2 0, 200, .inl (ja_ rat)))] s.heap.size) s.heap H locs [(o, .inr (4, [.ref r])), (r, .inr (3, [.int (xi_ (200 : Int)), .ref v, .ref ra, .int (xi_ u.1), .int (xi_ u.2.1)])), (v, .inl (G.2.2 1, (200 * 5), .inr (.inl (jl_ u.2.2.1)))), (ra, .inl (G.2.2 0, 200, .inl (ja_ u.2.2.2)))] := hh
    refine lv_goto (tgt := 243) hx hb d_Wk_walkCycle_128 (by decide) ?_
    have eev : g_cyc (gen_ d) T w oo f t c = g_into (gen_ d) (some y97) (c / tr_n T) w (oo + w * (c - c / tr_n T)) f t := by
      unfold g_cyc
      rw [if_neg (by omega), if_neg (by omega), if_pos h60, hy97]
    exact xw_vret F hr hlk hh u rfl (by rw [eev]; exact hp125) trivial d_Wk_walkCycle_243
  · refine lv_lookup (off := 127) (tgt := 131) hx hb d_Wk_walkCycle_4 (by decide) (by rw [h82]; decide) (by decide) ?_
    refine lv_lload hx hb d_Wk_walkCycle_131 (lv_at hl 4 rfl) ?_
    refine lv_lload hx hb d_Wk_walkCycle_133 (lv_at hl 3 rfl) ?_
    refine lv_ldc2 (v := xl_ 2) hx hb F.2.2.2.1 (F.2.2.2.2.1 _ k_Wk_76) d_Wk_walkCycle_135 ?_
    refine lv_lload_n hx hb d_Wk_walkCycle_138 rfl (lv_at hl 2 rfl) ?_
    refine xw_lmul hx hb d_Wk_walkCycle_139 ?_
    refine lv_lconst (v := xl_ 1) hx hb d_Wk_walkCycle_140 (by decide) ?_
    refine xw_ladd hx hb d_Wk_walkCycle_141 ?_
    refine xw_lmul hx hb d_Wk_walkCycle_142 ?_
    refine xw_ladd hx hb d_Wk_walkCycle_143 ?_
    refine lv_lstore (lv' := [(16, .long (xl_ (oo + (w * ((2 * c) + 1))))), (0, .ref o), (1, .ref a), (2, .long (xl_ c)), (4, .long (xl_ w)), (6, .long (xl_ oo)), (8, .long (xl_ f)), (10, .long (xl_ t)), (12, .int (xi_ (40 - (d : Int))))]) hx hb d_Wk_walkCycle_144 hl (by decide) rfl (fun ls hl => ?_)
    refine lv_aload_n hx hb d_Wk_walkCycle_146 rfl (lv_at hl 1 rfl) ?_
    refine lv_lload_n hx hb d_Wk_walkCycle_147 rfl (lv_at hl 3 rfl) ?_
    refine lv_aload_n hx hb d_Wk_walkCycle_148 rfl (lv_at hl 2 rfl) ?_
    refine lv_iconst (v := xi_ 0) hx hb d_Wk_walkCycle_149 rfl ?_
    have hn9 : (tr_cs T).length = 1 := by rcases hwf with q | q | q | q | q | q | q <;> omega
    obtain ⟨y150, hy150⟩ : ∃ y, (tr_cs T)[0]? = some y := ⟨_, List.getElem?_eq_getElem (by omega)⟩
    obtain ⟨b150, hb150, hnt150⟩ := hkid _ y150 hy150
    refine xw_cap hh (xw_rVp F (c_N_innerAt l G s.heap.size a ia room fch (tr_kd T) ((tr_cs T).length : Int) (tr_k T) (tr_n T) (tr_r T) (b2_ (has_ T)) (0) (by omega) (by omega)) (vp_now hA hSa hSia hN hh) lk_Wk_30 cd_N_innerAt se_N_innerAt _ (vp_now hA hSa hSia hN hh) 0 rfl rfl rfl rfl ⟨by unfold rm_N_innerAt rm_Wk_walkCycle; (try dsimp only); omega, by unfold rm_N_innerAt rm_Wk_walkCycle; (try dsimp only); omega⟩ rfl hl.1 rfl (Nat.le_of_ble_eq_true rfl) d_Wk_walkCycle_150 ⟨Nat.zero_le _, Nat.zero_le _⟩) (fun z150 u H locs hp150 hz hk hh => ?_)
    refine xw_topr (b := b150) (by rw [hp150, if_pos (by omega)]; exact hb150) ?_
    refine lv_lload hx hb d_Wk_walkCycle_153 (lv_at hl 4 rfl) ?_
    refine xw_lneg hx hb d_Wk_walkCycle_155 ?_
    refine lv_lload hx hb d_Wk_walkCycle_156 (lv_at hl 0 rfl) ?_
    refine lv_lload hx hb d_Wk_walkCycle_158 (lv_at hl 6 rfl) ?_
    refine lv_lload hx hb d_Wk_walkCycle_160 (lv_at hl 7 rfl) ?_
    refine lv_iload hx hb d_Wk_walkCycle_162 (lv_at hl 8 rfl) ?_
    obtain ⟨hs1, hs2⟩ := wok_back hw hft h1 h2
    have hbr := bg_rng (c := c) (w := -w) (o := oo + w * (2 * c + 1)) (by omega) hs2
    refine xw_cv (wc := [(o, .inr (4, [.ref r])), (r, .inr (3, [.int (xi_ (200 : Int)), .ref v, .ref ra, .int (xi_ cnt), .int (xi_ tm)])), (v, .inl (G.2.2 1, (200 * 5), .inr (.inl (jl_ vals)))), (ra, .inl (G.2.2 0, 200, .inl (ja_ rat)))]) (wr := []) hh [0, 1, 2, 3] [] rfl rfl rfl (by decide) (xw_rV F hh [0, 1, 2, 3] rfl rfl (c_Wk_walkInto_Pa l G H.size o r v ra cnt tm vals rat st  d ih (by omega) Sd hSd (some b150) (some y150) (c) (-w) (oo + w * (2 * c + 1)) f t (by omega) ⟨hbr.1, hbr.2, by omega, by omega⟩ (fun y hy => by
      cases hy
      exact hs1 _ y150 hy150 _ _ (by omega) (by omega)) hrr) (nt_now hA hnt150 hh) lk_Wk_72 cd_Wk_walkInto se_Wk_walkInto_Pa _ hh.1 0 rfl rfl rfl rfl ⟨by unfold rm_Wk_walkInto rm_Wk_walkCycle; (try dsimp only); omega, by unfold rm_Wk_walkInto rm_Wk_walkCycle; (try dsimp only); omega⟩ rfl hl.1 rfl (Nat.le_of_ble_eq_true rfl) d_Wk_walkCycle_164 ⟨Nat.zero_le _, Nat.zero_le _⟩) (fun u H locs hp164 hX hz hk hh => ?_)
    have hh : xw_H G (va_A [(o, .inr (4, [.ref r])), (r, .inr (3, [.int (xi_ (200 : Int)), .ref v, .ref ra, .int (xi_ cnt), .int (xi_ tm)])), (v, .inl (G.2.2 1, (200 * 5), .inr (.inl (jl_ vals)))), (ra, .inl (G.2.2 0, 200, .inl (ja_ rat)))] s.heap.size) s.heap H locs [(o, .inr (4, [.ref r])), (r, .inr (3, [.int (xi_ (200 : Int)), .ref v, .ref ra, .int (xi_ u.1), .int (xi_ u.2.1)])), (v, .inl (G.2.2 1, (200 * 5), .inr (.inl (jl_ u.2.2.1)))), (ra, .inl (G.2.2 0, 200, .inl (ja_ u.2.2.2)))] := hh
    refine lv_goto (tgt := 243) hx hb d_Wk_walkCycle_167 (by decide) ?_
    have eev : g_cyc (gen_ d) T w oo f t c = g_into (gen_ d) (some y150) c (-w) (oo + w * (2 * c + 1)) f t := by
      unfold g_cyc
      rw [if_neg (by omega), if_neg (by omega), if_neg (by omega), if_pos h82, hy150]
    exact xw_vret F hr hlk hh u rfl (by rw [eev]; exact hp164) trivial d_Wk_walkCycle_243
  · refine lv_lookup (off := 166) (tgt := 170) hx hb d_Wk_walkCycle_4 (by decide) (by rw [h86]; decide) (by decide) ?_
    refine lv_aload_n hx hb d_Wk_walkCycle_170 rfl (lv_at hl 1 rfl) ?_
    refine lv_lload_n hx hb d_Wk_walkCycle_171 rfl (lv_at hl 2 rfl) ?_
    refine lv_aload_n hx hb d_Wk_walkCycle_172 rfl (lv_at hl 1 rfl) ?_
    refine xw_get F (vp_now hA hSa hSia hN hh) (v := .int (xi_ (tr_k T))) fl_Wk_34_1 0 rfl rfl d_Wk_walkCycle_173 ?_
    refine xw_i2l hx hb d_Wk_walkCycle_176 (by omega) ?_
    have hk1 : 1 ≤ tr_k T := by rcases hwf with q | q | q | q | q | q | q <;> omega
    refine xw_clp hh (xw_rSp F (c_Jm_floorMod l G s.heap.size c (tr_k T) (by omega)) lk_Wk_69 cd_Jm_floorMod ss_Jm_floorMod rfl rfl ⟨by unfold rm_Jm_floorMod rm_Wk_walkCycle; (try dsimp only); omega, by unfold rm_Jm_floorMod rm_Wk_walkCycle; (try dsimp only); omega⟩ rfl hl.1 rfl (Nat.le_of_ble_eq_true rfl) d_Wk_walkCycle_177 ⟨Nat.zero_le _, Nat.zero_le _⟩) (fun z177 u H locs hp177 hz hk hh => ?_)
    obtain rfl : z177 = c % tr_k T := hp177
    refine lv_lconst (v := xl_ 0) hx hb d_Wk_walkCycle_180 (by decide) ?_
    have hkm : 0 ≤ c % tr_k T ∧ c % tr_k T < 10 := ⟨Int.emod_nonneg c (by omega), by have := Int.emod_lt_of_pos c (show 0 < tr_k T by omega); omega⟩
    refine xw_lcmp_ne hx hb 189 d_Wk_walkCycle_181 d_Wk_walkCycle_182 (by decide) (by omega) (fun c181 => ?_) (fun c181 => ?_)
    · refine lv_iconst (v := xi_ 1) hx hb d_Wk_walkCycle_189 rfl ?_
      have hn9 : (tr_cs T).length = 2 := by rcases hwf with q | q | q | q | q | q | q <;> omega
      obtain ⟨y190, hy190⟩ : ∃ y, (tr_cs T)[1]? = some y := ⟨_, List.getElem?_eq_getElem (by omega)⟩
      obtain ⟨b190, hb190, hnt190⟩ := hkid _ y190 hy190
      refine xw_cap hh (xw_rVp F (c_N_innerAt l G H.size a ia room fch (tr_kd T) ((tr_cs T).length : Int) (tr_k T) (tr_n T) (tr_r T) (b2_ (has_ T)) (1) (by omega) (by omega)) (vp_now hA hSa hSia hN hh) lk_Wk_30 cd_N_innerAt se_N_innerAt _ (vp_now hA hSa hSia hN hh) 0 rfl rfl rfl rfl ⟨by unfold rm_N_innerAt rm_Wk_walkCycle; (try dsimp only); omega, by unfold rm_N_innerAt rm_Wk_walkCycle; (try dsimp only); omega⟩ rfl hl.1 rfl (Nat.le_of_ble_eq_true rfl) d_Wk_walkCycle_190 ⟨Nat.zero_le _, Nat.zero_le _⟩) (fun z190 u H locs hp190 hz hk hh => ?_)
      refine xw_topr (b := b190) (by rw [hp190, if_pos (by omega)]; exact hb190) ?_
      refine lv_astore (lv' := [(18, .ref b190), (0, .ref o), (1, .ref a), (2, .long (xl_ c)), (4, .long (xl_ w)), (6, .long (xl_ oo)), (8, .long (xl_ f)), (10, .long (xl_ t)), (12, .int (xi_ (40 - (d : Int))))]) hx hb d_Wk_walkCycle_193 hl (by decide) rfl (fun ls hl => ?_)
      refine lv_aload_n hx hb d_Wk_walkCycle_195 rfl (lv_at hl 1 rfl) ?_
      refine lv_lload_n hx hb d_Wk_walkCycle_196 rfl (lv_at hl 3 rfl) ?_
      refine lv_aload hx hb d_Wk_walkCycle_197 (lv_at hl 0 rfl) ?_
      refine lv_lload hx hb d_Wk_walkCycle_199 (lv_at hl 4 rfl) ?_
      refine lv_lload hx hb d_Wk_walkCycle_201 (lv_at hl 5 rfl) ?_
      refine lv_lload hx hb d_Wk_walkCycle_203 (lv_at hl 6 rfl) ?_
      refine lv_lload hx hb d_Wk_walkCycle_205 (lv_at hl 7 rfl) ?_
      refine lv_iload hx hb d_Wk_walkCycle_207 (lv_at hl 8 rfl) ?_
      obtain ⟨hs1, hs2⟩ := wok_same hw hft h1 h2
      have hbr := bg_rng (c := c) (w := w) (o := oo) (by omega) hs2
      refine xw_cv (wc := [(o, .inr (4, [.ref r])), (r, .inr (3, [.int (xi_ (200 : Int)), .ref v, .ref ra, .int (xi_ cnt), .int (xi_ tm)])), (v, .inl (G.2.2 1, (200 * 5), .inr (.inl (jl_ vals)))), (ra, .inl (G.2.2 0, 200, .inl (ja_ rat)))]) (wr := []) hh [0, 1, 2, 3] [] rfl rfl rfl (by decide) (xw_rV F hh [0, 1, 2, 3] rfl rfl (c_Wk_walkInto_Pa l G H.size o r v ra cnt tm vals rat st  d ih (by omega) Sd hSd (some b190) (some y190) (c) (w) (oo) f t (by omega) ⟨hbr.1, hbr.2, by omega, by omega⟩ (fun y hy => by
        cases hy
        exact hs1 _ y190 hy190 _ _ (by omega) (by omega)) hrr) (nt_now hA hnt190 hh) lk_Wk_72 cd_Wk_walkInto se_Wk_walkInto_Pa _ hh.1 0 rfl rfl rfl rfl ⟨by unfold rm_Wk_walkInto rm_Wk_walkCycle; (try dsimp only); omega, by unfold rm_Wk_walkInto rm_Wk_walkCycle; (try dsimp only); omega⟩ rfl hl.1 rfl (Nat.le_of_ble_eq_true rfl) d_Wk_walkCycle_209 ⟨Nat.zero_le _, Nat.zero_le _⟩) (fun u H locs hp209 hX hz hk hh => ?_)
      have hh : xw_H G (va_A [(o, .inr (4, [.ref r])), (r, .inr (3, [.int (xi_ (200 : Int)), .ref v, .ref ra, .int (xi_ cnt), .int (xi_ tm)])), (v, .inl (G.2.2 1, (200 * 5), .inr (.inl (jl_ vals)))), (ra, .inl (G.2.2 0, 200, .inl (ja_ rat)))] s.heap.size) s.heap H locs [(o, .inr (4, [.ref r])), (r, .inr (3, [.int (xi_ (200 : Int)), .ref v, .ref ra, .int (xi_ u.1), .int (xi_ u.2.1)])), (v, .inl (G.2.2 1, (200 * 5), .inr (.inl (jl_ u.2.2.1)))), (ra, .inl (G.2.2 0, 200, .inl (ja_ u.2.2.2)))] := hh
      refine lv_goto (tgt := 243) hx hb d_Wk_walkCycle_212 (by decide) ?_
      have eev : g_cyc (gen_ d) T w oo f t c = g_into (gen_ d) (some y190) c w oo f t := by
        unfold g_cyc
        rw [if_neg (by omega), if_neg (by omega), if_neg (by omega), if_neg (by omega), if_pos h86, if_neg c181, hy190]
      exact xw_vret F hr hlk hh u rfl (by rw [eev]; exact hp209) trivial d_Wk_walkCycle_243
    · refine lv_iconst (v := xi_ 0) hx hb d_Wk_walkCycle_185 rfl ?_
      refine lv_goto (tgt := 190) hx hb d_Wk_walkCycle_186 (by decide) ?_
      have hn9 : (tr_cs T).length = 2 := by rcases hwf with q | q | q | q | q | q | q <;> omega
      obtain ⟨y190, hy190⟩ : ∃ y, (tr_cs T)[0]? = some y := ⟨_, List.getElem?_eq_getElem (by omega)⟩
      obtain ⟨b190, hb190, hnt190⟩ := hkid _ y190 hy190
      refine xw_cap hh (xw_rVp F (c_N_innerAt l G H.size a ia room fch (tr_kd T) ((tr_cs T).length : Int) (tr_k T) (tr_n T) (tr_r T) (b2_ (has_ T)) (0) (by omega) (by omega)) (vp_now hA hSa hSia hN hh) lk_Wk_30 cd_N_innerAt se_N_innerAt _ (vp_now hA hSa hSia hN hh) 0 rfl rfl rfl rfl ⟨by unfold rm_N_innerAt rm_Wk_walkCycle; (try dsimp only); omega, by unfold rm_N_innerAt rm_Wk_walkCycle; (try dsimp only); omega⟩ rfl hl.1 rfl (Nat.le_of_ble_eq_true rfl) d_Wk_walkCycle_190 ⟨Nat.zero_le _, Nat.zero_le _⟩) (fun z190 u H locs hp190 hz hk hh => ?_)
      refine xw_topr (b := b190) (by rw [hp190, if_pos (by omega)]; exact hb190) ?_
      refine lv_astore (lv' := [(18, .ref b190), (0, .ref o), (1, .ref a), (2, .long (xl_ c)), (4, .long (xl_ w)), (6, .long (xl_ oo)), (8, .long (xl_ f)), (10, .long (xl_ t)), (12, .int (xi_ (40 - (d : Int))))]) hx hb d_Wk_walkCycle_193 hl (by decide) rfl (fun ls hl => ?_)
      refine lv_aload_n hx hb d_Wk_walkCycle_195 rfl (lv_at hl 1 rfl) ?_
      refine lv_lload_n hx hb d_Wk_walkCycle_196 rfl (lv_at hl 3 rfl) ?_
      refine lv_aload hx hb d_Wk_walkCycle_197 (lv_at hl 0 rfl) ?_
      refine lv_lload hx hb d_Wk_walkCycle_199 (lv_at hl 4 rfl) ?_
      refine lv_lload hx hb d_Wk_walkCycle_201 (lv_at hl 5 rfl) ?_
      refine lv_lload hx hb d_Wk_walkCycle_203 (lv_at hl 6 rfl) ?_
      refine lv_lload hx hb d_Wk_walkCycle_205 (lv_at hl 7 rfl) ?_
      refine lv_iload hx hb d_Wk_walkCycle_207 (lv_at hl 8 rfl) ?_
      obtain ⟨hs1, hs2⟩ := wok_same hw hft h1 h2
      have hbr := bg_rng (c := c) (w := w) (o := oo) (by omega) hs2
      refine xw_cv (wc := [(o, .inr (4, [.ref r])), (r, .inr (3, [.int (xi_ (200 : Int)), .ref v, .ref ra, .int (xi_ cnt), .int (xi_ tm)])), (v, .inl (G.2.2 1, (200 * 5), .inr (.inl (jl_ vals)))), (ra, .inl (G.2.2 0, 200, .inl (ja_ rat)))]) (wr := []) hh [0, 1, 2, 3] [] rfl rfl rfl (by decide) (xw_rV F hh [0, 1, 2, 3] rfl rfl (c_Wk_walkInto_Pa l G H.size o r v ra cnt tm vals rat st  d ih (by omega) Sd hSd (some b190) (some y190) (c) (w) (oo) f t (by omega) ⟨hbr.1, hbr.2, by omega, by omega⟩ (fun y hy => by
        cases hy
        exact hs1 _ y190 hy190 _ _ (by omega) (by omega)) hrr) (nt_now hA hnt190 hh) lk_Wk_72 cd_Wk_walkInto se_Wk_walkInto_Pa _ hh.1 0 rfl rfl rfl rfl ⟨by unfold rm_Wk_walkInto rm_Wk_walkCycle; (try dsimp only); omega, by unfold rm_Wk_walkInto rm_Wk_walkCycle; (try dsimp only); omega⟩ rfl hl.1 rfl (Nat.le_of_ble_eq_true rfl) d_Wk_walkCycle_209 ⟨Nat.zero_le _, Nat.zero_le _⟩) (fun u H locs hp209 hX hz hk hh => ?_)
      have hh : xw_H G (va_A [(o, .inr (4, [.ref r])), (r, .inr (3, [.int (xi_ (200 : Int)), .ref v, .ref ra, .int (xi_ cnt), .int (xi_ tm)])), (v, .inl (G.2.2 1, (200 * 5), .inr (.inl (jl_ vals)))), (ra, .inl (G.2.2 0, 200, .inl (ja_ rat)))] s.heap.size) s.heap H locs [(o, .inr (4, [.ref r])), (r, .inr (3, [.int (xi_ (200 : Int)), .ref v, .ref ra, .int (xi_ u.1), .int (xi_ u.2.1)])), (v, .inl (G.2.2 1, (200 * 5), .inr (.inl (jl_ u.2.2.1)))), (ra, .inl (G.2.2 0, 200, .inl (ja_ u.2.2.2)))] := hh
      refine lv_goto (tgt := 243) hx hb d_Wk_walkCycle_212 (by decide) ?_
      have eev : g_cyc (gen_ d) T w oo f t c = g_into (gen_ d) (some y190) c w oo f t := by
        unfold g_cyc
        rw [if_neg (by omega), if_neg (by omega), if_neg (by omega), if_neg (by omega), if_pos h86, if_pos c181, hy190]
      exact xw_vret F hr hlk hh u rfl (by rw [eev]; exact hp209) trivial d_Wk_walkCycle_243
  · refine lv_lookup (off := 211) (tgt := 215) hx hb d_Wk_walkCycle_4 (by decide) (by
      rw [xi_toInt (by omega)]
      show Op.lookupswitch.offset [(60, 71), (69, 52), (82, 127), (86, 166), (91, 52)] _ _ = _
      rw [Op.lookupswitch.offset_cons, if_neg (by omega), Op.lookupswitch.offset_cons, if_neg (by omega), Op.lookupswitch.offset_cons, if_neg (by omega), Op.lookupswitch.offset_cons, if_neg (by omega), Op.lookupswitch.offset_cons, if_neg (by omega)]
      rfl) (by decide) ?_
    refine lv_aload_n hx hb d_Wk_walkCycle_215 rfl (lv_at hl 0 rfl) ?_
    refine lv_aload_n hx hb d_Wk_walkCycle_216 rfl (lv_at hl 1 rfl) ?_
    refine xw_get F (vp_now hA hSa hSia hN hh) (v := .int (xi_ (tr_kd T))) fl_Wk_26_1 0 rfl rfl d_Wk_walkCycle_217 ?_
    refine lv_lload_n hx hb d_Wk_walkCycle_220 rfl (lv_at hl 2 rfl) ?_
    refine lv_lload hx hb d_Wk_walkCycle_221 (lv_at hl 3 rfl) ?_
    refine lv_lload hx hb d_Wk_walkCycle_223 (lv_at hl 4 rfl) ?_
    have hsm := wok_same hw hft h1 h2
    have hbr := bg_rng (c := c) (w := w) (o := oo) (by omega) hsm.2
    refine xw_clp hh (xw_rSp F (c_Wk_begin l G s.heap.size c w oo (by omega)) lk_Wk_78 cd_Wk_begin ss_Wk_begin rfl rfl ⟨by unfold rm_Wk_begin rm_Wk_walkCycle; (try dsimp only); omega, by unfold rm_Wk_begin rm_Wk_walkCycle; (try dsimp only); omega⟩ rfl hl.1 rfl (Nat.le_of_ble_eq_true rfl) d_Wk_walkCycle_225 ⟨Nat.zero_le _, Nat.zero_le _⟩) (fun z225 u H locs hp225 hz hk hh => ?_)
    obtain rfl : z225 = bg_ c w oo := hp225
    refine lv_lload_n hx hb d_Wk_walkCycle_228 rfl (lv_at hl 2 rfl) ?_
    refine lv_lload hx hb d_Wk_walkCycle_229 (lv_at hl 3 rfl) ?_
    refine lv_lload hx hb d_Wk_walkCycle_231 (lv_at hl 4 rfl) ?_
    refine xw_clp hh (xw_rSp F (c_Wk_end l G H.size c w oo (by omega)) lk_Wk_82 cd_Wk_end ss_Wk_end rfl rfl ⟨by unfold rm_Wk_end rm_Wk_walkCycle; (try dsimp only); omega, by unfold rm_Wk_end rm_Wk_walkCycle; (try dsimp only); omega⟩ rfl hl.1 rfl (Nat.le_of_ble_eq_true rfl) d_Wk_walkCycle_233 ⟨Nat.zero_le _, Nat.zero_le _⟩) (fun z233 u H locs hp233 hz hk hh => ?_)
    obtain rfl : z233 = en_ c w oo := hp233
    refine lv_lload hx hb d_Wk_walkCycle_236 (lv_at hl 5 rfl) ?_
    refine lv_lload hx hb d_Wk_walkCycle_238 (lv_at hl 6 rfl) ?_
    refine xw_cv (wc := [(o, .inr (4, [.ref r])), (r, .inr (3, [.int (xi_ (200 : Int)), .ref v, .ref ra, .int (xi_ cnt), .int (xi_ tm)])), (v, .inl (G.2.2 1, (200 * 5), .inr (.inl (jl_ vals)))), (ra, .inl (G.2.2 0, 200, .inl (ja_ rat)))]) (wr := []) hh [0, 1, 2, 3] [] rfl rfl rfl (by decide) (xw_rU F hh [0, 1, 2, 3] rfl rfl (x := ⟨"CyclePatterns$Walk", "hear", "(CJJJJ)V"⟩) (owner := "CyclePatterns$Walk") (c_Pa_hear l G H.size o r v ra cnt tm vals rat st  (tr_kd T) (bg_ c w oo) (en_ c w oo) f t (by omega) ⟨hbr.1, hbr.2, by omega, by omega⟩ hrr) trivial lk_Wk_85' cd_Pa_hear ⟨is_Pa_hear, sl_hear_Pa, sm_hear⟩ (va_Decl.abs (F.2.2.2.2.2.2.1 _ dn_hear)) ⟨by decide, by decide, by decide +kernel⟩ _ hh.1 0 rfl rfl rfl rfl ⟨by unfold rm_Pa_hear rm_Wk_walkCycle; (try dsimp only); omega, by unfold rm_Pa_hear rm_Wk_walkCycle; (try dsimp only); omega⟩ rfl hl.1 rfl (Nat.le_of_ble_eq_true rfl) d_Wk_walkCycle_240 ⟨Nat.zero_le _, Nat.zero_le _⟩) (fun u H locs hp240 hX hz hk hh => ?_)
    have hh : xw_H G (va_A [(o, .inr (4, [.ref r])), (r, .inr (3, [.int (xi_ (200 : Int)), .ref v, .ref ra, .int (xi_ cnt), .int (xi_ tm)])), (v, .inl (G.2.2 1, (200 * 5), .inr (.inl (jl_ vals)))), (ra, .inl (G.2.2 0, 200, .inl (ja_ rat)))] s.heap.size) s.heap H locs [(o, .inr (4, [.ref r])), (r, .inr (3, [.int (xi_ (200 : Int)), .ref v, .ref ra, .int (xi_ u.1), .int (xi_ u.2.1)])), (v, .inl (G.2.2 1, (200 * 5), .inr (.inl (jl_ u.2.2.1)))), (ra, .inl (G.2.2 0, 200, .inl (ja_ u.2.2.2)))] := hh
    have eev : g_cyc (gen_ d) T w oo f t c = [(tr_kd T, bg_ c w oo, en_ c w oo, f, t)] := by
      unfold g_cyc
      rw [if_neg (by omega), if_neg (by omega), if_neg (by omega), if_neg (by omega), if_neg (by omega)]
    exact xw_vret F hr hlk hh u rfl (by rw [eev]; exact hp240) trivial d_Wk_walkCycle_243
set_option maxHeartbeats 4000000 in
set_option maxRecDepth 100000 in
theorem c_Wk_walkCycle_On (l : Launch) (G : GG_) (sz : Nat) (o r v ra : Nat) (cnt tm : Int) (vals rat : Nat → Int) (st : List Row_ × Bool) (slot tl : Int) (hst : 0 ≤ slot ∧ slot ≤ 7 ∧ 0 < tl ∧ tl ≤ 1099511627776) (d : Nat) (ih : cwk_On l G d) (Sd : Nat → Prop) (hSd : ∀ q : Nat, Sd q → q ≠ o ∧ q ≠ r ∧ q ≠ v ∧ q ≠ ra) (a : Nat) (T : PT (d + 1)) (c w oo f t : Int) (hw : wok_ (d + 1) T w oo f t) (hft : f < t) (h1 : cy_first w oo f t ≤ c) (h2 : c ≤ cy_last w oo f t) (hkd : tr_kd T = 91 ∨ tr_kd T = 69 ∨ tr_kd T = 60 ∨ tr_kd T = 82 ∨ tr_kd T = 86 ∨ (97 ≤ tr_kd T ∧ tr_kd T ≤ 122)) (hrr : rr_ 100 cnt tm vals rat st) : Met l y_Wk_walkCycle (cw_ y_Wk_walkCycle b_Wk_walkCycle 19 none) (rm_Wk_walkCycle d) (xw_P G [.ref o, .ref a, .long (xl_ c), .long (xl_ w), .long (xl_ oo), .long (xl_ f), .long (xl_ t), .int (xi_ (40 - (d : Int)))] sz [(o, .inr (5, [.ref r, .int (xi_ slot), .long (xl_ tl)])), (r, .inr (3, [.int (xi_ (100 : Int)), .ref v, .ref ra, .int (xi_ cnt), .int (xi_ tm)])), (v, .inl (G.2.2 1, (100 * 5), .inr (.inl (jl_ vals)))), (ra, .inl (G.2.2 0, 100, .inl (ja_ rat)))] (fun H => nt_ G Sd (d + 1) H a T)) (xw_Qv (S := Int × Int × (Nat → Int) × (Nat → Int)) G sz [(o, .inr (5, [.ref r, .int (xi_ slot), .long (xl_ tl)])), (r, .inr (3, [.int (xi_ (100 : Int)), .ref v, .ref ra, .int (xi_ cnt), .int (xi_ tm)])), (v, .inl (G.2.2 1, (100 * 5), .inr (.inl (jl_ vals)))), (ra, .inl (G.2.2 0, 100, .inl (ja_ rat)))] (fun u => rr_ 100 u.1 u.2.1 u.2.2.1 u.2.2.2 (run_ 100 (sk_on slot tl) (g_cyc (gen_ d) T w oo f t c) st)) (fun u => [(o, .inr (5, [.ref r, .int (xi_ slot), .long (xl_ tl)])), (r, .inr (3, [.int (xi_ (100 : Int)), .ref v, .ref ra, .int (xi_ u.1), .int (xi_ u.2.1)])), (v, .inl (G.2.2 1, (100 * 5), .inr (.inl (jl_ u.2.2.1)))), (ra, .inl (G.2.2 0, 100, .inl (ja_ u.2.2.2)))]) (fun _ _ => True)) 0 0 (va_A [(o, .inr (5, [.ref r, .int (xi_ slot), .long (xl_ tl)])), (r, .inr (3, [.int (xi_ (100 : Int)), .ref v, .ref ra, .int (xi_ cnt), .int (xi_ tm)])), (v, .inl (G.2.2 1, (100 * 5), .inr (.inl (jl_ vals)))), (ra, .inl (G.2.2 0, 100, .inl (ja_ rat)))] sz) := by
  refine xw_met (by decide) (Nat.le_of_ble_eq_true rfl) ?_
  intro p0 e0 s m0 args below meth c0 F hr hlk hin hsz hh hX ls hl
  subst hsz
  have hx := F.1
  have hb := F.2.1
  have hl : lv_has ls 19 [(0, .ref o), (1, .ref a), (2, .long (xl_ c)), (4, .long (xl_ w)), (6, .long (xl_ oo)), (8, .long (xl_ f)), (10, .long (xl_ t)), (12, .int (xi_ (40 - (d : Int))))] := hl
  have hX0 := hX
  obtain ⟨hSa, ia, room, fch, hSia, hN, hro1, hro2, hkid⟩ := hX
  have hwf := hw.1.1
  have hrg := wf_rng hwf
  have hwr := wok_w hw
  have hor := wok_o hw
  have hd40 := hw.2.2.2.2.2.1
  have hftb := hw.2.2.2.2.1
  have hA : ∀ q : Nat, Sd q → q < s.heap.size → ¬ va_A [(o, .inr (5, [.ref r, .int (xi_ slot), .long (xl_ tl)])), (r, .inr (3, [.int (xi_ (100 : Int)), .ref v, .ref ra, .int (xi_ cnt), .int (xi_ tm)])), (v, .inl (G.2.2 1, (100 * 5), .inr (.inl (jl_ vals)))), (ra, .inl (G.2.2 0, 100, .inl (ja_ rat)))] s.heap.size q := not_in4 hSd
  have hcr : -9000000000000000 ≤ c ∧ c ≤ 9000000000000000 := by
    have q1 := cy_near hw.2.1 hwr hftb h1 h2 hft
    by_cases hp : 0 < w
    · by_cases hc : 0 ≤ c
      · have q2 : 1 * c ≤ w * c := Int.mul_le_mul_of_nonneg_right (by omega) hc
        omega
      · have q2 : w * c ≤ 1 * c := Int.mul_le_mul_of_nonpos_right (by omega) (by omega)
        omega
    · have e1 : (-w) * c = -(w * c) := Int.neg_mul _ _
      have hw0 := hw.2.1
      by_cases hc : 0 ≤ c
      · have q2 : 1 * c ≤ (-w) * c := Int.mul_le_mul_of_nonneg_right (by omega) hc
        omega
      · have q2 : (-w) * c ≤ 1 * c := Int.mul_le_mul_of_nonpos_right (by omega) (by omega)
        omega
  refine lv_aload_n hx hb d_Wk_walkCycle_0 rfl (lv_at hl 1 rfl) ?_
  refine xw_get F (vp_now hA hSa hSia hN hh) (v := .int (xi_ (tr_kd T))) fl_Wk_26_1 0 rfl rfl d_Wk_walkCycle_1 ?_
  rcases hkd with h91 | h69 | h60 | h82 | h86 | hle
  · refine lv_lookup (off := 52) (tgt := 56) hx hb d_Wk_walkCycle_4 (by decide) (by rw [h91]; decide) (by decide) ?_
    refine lv_aload_n hx hb d_Wk_walkCycle_56 rfl (lv_at hl 0 rfl) ?_
    refine lv_aload_n hx hb d_Wk_walkCycle_57 rfl (lv_at hl 1 rfl) ?_
    refine lv_lload_n hx hb d_Wk_walkCycle_58 rfl (lv_at hl 2 rfl) ?_
    refine lv_lload hx hb d_Wk_walkCycle_59 (lv_at hl 3 rfl) ?_
    refine lv_lload hx hb d_Wk_walkCycle_61 (lv_at hl 4 rfl) ?_
    refine lv_lload hx hb d_Wk_walkCycle_63 (lv_at hl 5 rfl) ?_
    refine lv_lload hx hb d_Wk_walkCycle_65 (lv_at hl 6 rfl) ?_
    refine lv_iload hx hb d_Wk_walkCycle_67 (lv_at hl 7 rfl) ?_
    refine xw_cv (wc := [(o, .inr (5, [.ref r, .int (xi_ slot), .long (xl_ tl)])), (r, .inr (3, [.int (xi_ (100 : Int)), .ref v, .ref ra, .int (xi_ cnt), .int (xi_ tm)])), (v, .inl (G.2.2 1, (100 * 5), .inr (.inl (jl_ vals)))), (ra, .inl (G.2.2 0, 100, .inl (ja_ rat)))]) (wr := []) hh [0, 1, 2, 3] [] rfl rfl rfl (by decide) (xw_rV F hh [0, 1, 2, 3] rfl rfl (c_Wk_walkSteps_On l G s.heap.size o r v ra cnt tm vals rat st slot tl hst d ih Sd hSd a T c w oo f t hw hft h1 h2 (Or.inl h91) hrr) hX0 lk_Wk_66 cd_Wk_walkSteps se_Wk_walkSteps_On _ hh.1 0 rfl rfl rfl rfl ⟨by unfold rm_Wk_walkSteps rm_Wk_walkCycle; (try dsimp only); omega, by unfold rm_Wk_walkSteps rm_Wk_walkCycle; (try dsimp only); omega⟩ rfl hl.1 rfl (Nat.le_of_ble_eq_true rfl) d_Wk_walkCycle_69 ⟨Nat.zero_le _, Nat.zero_le _⟩) (fun u H locs hp69 hX hz hk hh => ?_)
    have hh : xw_H G (va_A [(o, .inr (5, [.ref r, .int (xi_ slot), .long (xl_ tl)])), (r, .inr (3, [.int (xi_ (100 : Int)), .ref v, .ref ra, .int (xi_ cnt), .int (xi_ tm)])), (v, .inl (G.2.2 1, (100 * 5), .inr (.inl (jl_ vals)))), (ra, .inl (G.2.2 0, 100, .inl (ja_ rat)))] s.heap.size) s.heap H locs [(o, .inr (5, [.ref r, .int (xi_ slot), .long (xl_ tl)])), (r, .inr (3, [.int (xi_ (100 : Int)), .ref v, .ref ra, .int (xi_ u.1), .int (xi_ u.2.1)])), (v, .inl (G.2.2 1, (100 * 5), .inr (.inl (jl_ u.2.2.1)))), (ra, .inl (G.2.2 0, 100, .inl (ja_ u.2.2.2)))] := hh
    refine lv_goto (tgt := 243) hx hb d_Wk_walkCycle_72 (by decide) ?_
    exact xw_vret F hr hlk hh u rfl hp69 trivial d_Wk_walkCycle_243
  · refine lv_lookup (off := 52) (tgt := 56) hx hb d_Wk_walkCycle_4 (by decide) (by rw [h69]; decide) (by decide) ?_
    refine lv_aload_n hx hb d_Wk_walkCycle_56 rfl (lv_at hl 0 rfl) ?_
    refine lv_aload_n hx hb d_Wk_walkCycle_57 rfl (lv_at hl 1 rfl) ?_
    refine lv_lload_n hx hb d_Wk_walkCycle_58 rfl (lv_at hl 2 rfl) ?_
    refine lv_lload hx hb d_Wk_walkCycle_59 (lv_at hl 3 rfl) ?_
    refine lv_lload hx hb d_Wk_walkCycle_61 (lv_at hl 4 rfl) ?_
    refine lv_lload hx hb d_Wk_walkCycle_63 (lv_at hl 5 rfl) ?_
    refine lv_lload hx hb d_Wk_walkCycle_65 (lv_at hl 6 rfl) ?_
    refine lv_iload hx hb d_Wk_walkCycle_67 (lv_at hl 7 rfl) ?_
    refine xw_cv (wc := [(o, .inr (5, [.ref r, .int (xi_ slot), .long (xl_ tl)])), (r, .inr (3, [.int (xi_ (100 : Int)), .ref v, .ref ra, .int (xi_ cnt), .int (xi_ tm)])), (v, .inl (G.2.2 1, (100 * 5), .inr (.inl (jl_ vals)))), (ra, .inl (G.2.2 0, 100, .inl (ja_ rat)))]) (wr := []) hh [0, 1, 2, 3] [] rfl rfl rfl (by decide) (xw_rV F hh [0, 1, 2, 3] rfl rfl (c_Wk_walkSteps_On l G s.heap.size o r v ra cnt tm vals rat st slot tl hst d ih Sd hSd a T c w oo f t hw hft h1 h2 (Or.inr h69) hrr) hX0 lk_Wk_66 cd_Wk_walkSteps se_Wk_walkSteps_On _ hh.1 0 rfl rfl rfl rfl ⟨by unfold rm_Wk_walkSteps rm_Wk_walkCycle; (try dsimp only); omega, by unfold rm_Wk_walkSteps rm_Wk_walkCycle; (try dsimp only); omega⟩ rfl hl.1 rfl (Nat.le_of_ble_eq_true rfl) d_Wk_walkCycle_69 ⟨Nat.zero_le _, Nat.zero_le _⟩) (fun u H locs hp69 hX hz hk hh => ?_)
    have hh : xw_H G (va_A [(o, .inr (5, [.ref r, .int (xi_ slot), .long (xl_ tl)])), (r, .inr (3, [.int (xi_ (100 : Int)), .ref v, .ref ra, .int (xi_ cnt), .int (xi_ tm)])), (v, .inl (G.2.2 1, (100 * 5), .inr (.inl (jl_ vals)))), (ra, .inl (G.2.2 0, 100, .inl (ja_ rat)))] s.heap.size) s.heap H locs [(o, .inr (5, [.ref r, .int (xi_ slot), .long (xl_ tl)])), (r, .inr (3, [.int (xi_ (100 : Int)), .ref v, .ref ra, .int (xi_ u.1), .int (xi_ u.2.1)])), (v, .inl (G.2.2 1, (100 * 5), .inr (.inl (jl_ u.2.2.1)))), (ra, .inl (G.2.2 0, 100, .inl (ja_ u.2.2.2)))] := hh
    refine lv_goto (tgt := 243) hx hb d_Wk_walkCycle_72 (by decide) ?_
    exact xw_vret F hr hlk hh u rfl hp69 trivial d_Wk_walkCycle_243
  · refine lv_lookup (off := 71) (tgt := 75) hx hb d_Wk_walkCycle_4 (by decide) (by rw [h60]; decide) (by decide) ?_
    refine lv_lload_n hx hb d_Wk_walkCycle_75 rfl (lv_at hl 2 rfl) ?_
    refine lv_aload_n hx hb d_Wk_walkCycle_76 rfl (lv_at hl 1 rfl) ?_
    refine xw_get F (vp_now hA hSa hSia hN hh) (v := .int (xi_ (tr_n T))) fl_Wk_42_1 0 rfl rfl d_Wk_walkCycle_77 ?_
    refine xw_i2l hx hb d_Wk_walkCycle_80 (by omega) ?_
    refine xw_clp hh (xw_rSp F (c_Jm_floorDiv l G s.heap.size c (tr_n T) (by omega)) lk_Wk_58 cd_Jm_floorDiv ss_Jm_floorDiv rfl rfl ⟨by unfold rm_Jm_floorDiv rm_Wk_walkCycle; (try dsimp only); omega, by unfold rm_Jm_floorDiv rm_Wk_walkCycle; (try dsimp only); omega⟩ rfl hl.1 rfl (Nat.le_of_ble_eq_true rfl) d_Wk_walkCycle_81 ⟨Nat.zero_le _, Nat.zero_le _⟩) (fun z81 u H locs hp81 hz hk hh => ?_)
    obtain rfl : z81 = c / tr_n T := hp81
    refine lv_lstore (lv' := [(13, .long (xl_ (c / tr_n T))), (0, .ref o), (1, .ref a), (2, .long (xl_ c)), (4, .long (xl_ w)), (6, .long (xl_ oo)), (8, .long (xl_ f)), (10, .long (xl_ t)), (12, .int (xi_ (40 - (d : Int))))]) hx hb d_Wk_walkCycle_84 hl (by decide) rfl (fun ls hl => ?_)
    refine lv_aload_n hx hb d_Wk_walkCycle_86 rfl (lv_at hl 2 rfl) ?_
    refine lv_lload_n hx hb d_Wk_walkCycle_87 rfl (lv_at hl 3 rfl) ?_
    refine lv_aload_n hx hb d_Wk_walkCycle_88 rfl (lv_at hl 2 rfl) ?_
    refine xw_get F (vp_now hA hSa hSia hN hh) (v := .int (xi_ (tr_n T))) fl_Wk_42_1 0 rfl rfl d_Wk_walkCycle_89 ?_
    refine xw_i2l hx hb d_Wk_walkCycle_92 (by omega) ?_
    refine xw_clp hh (xw_rSp F (c_Jm_floorMod l G H.size c (tr_n T) (by omega)) lk_Wk_69 cd_Jm_floorMod ss_Jm_floorMod rfl rfl ⟨by unfold rm_Jm_floorMod rm_Wk_walkCycle; (try dsimp only); omega, by unfold rm_Jm_floorMod rm_Wk_walkCycle; (try dsimp only); omega⟩ rfl hl.1 rfl (Nat.le_of_ble_eq_true rfl) d_Wk_walkCycle_93 ⟨Nat.zero_le _, Nat.zero_le _⟩) (fun z93 u H locs hp93 hz hk hh => ?_)
    obtain rfl : z93 = c % tr_n T := hp93
    refine xw_l2i hx hb d_Wk_walkCycle_96 ?_
    have hn9 : ((tr_cs T).length : Int) = tr_n T ∧ 0 ≤ c % tr_n T ∧ c % tr_n T < tr_n T := by
      refine ⟨by rcases hwf with q | q | q | q | q | q | q <;> omega, Int.emod_nonneg c (by omega), Int.emod_lt_of_pos c (by omega)⟩
    obtain ⟨y97, hy97⟩ : ∃ y, (tr_cs T)[(c % tr_n T).toNat]? = some y := ⟨_, List.getElem?_eq_getElem (by omega)⟩
    obtain ⟨b97, hb97, hnt97⟩ := hkid _ y97 hy97
    refine xw_cap hh (xw_rVp F (c_N_innerAt l G H.size a ia room fch (tr_kd T) ((tr_cs T).length : Int) (tr_k T) (tr_n T) (tr_r T) (b2_ (has_ T)) (c % tr_n T) (by omega) (by omega)) (vp_now hA hSa hSia hN hh) lk_Wk_30 cd_N_innerAt se_N_innerAt _ (vp_now hA hSa hSia hN hh) 0 rfl rfl rfl rfl ⟨by unfold rm_N_innerAt rm_Wk_walkCycle; (try dsimp only); omega, by unfold rm_N_innerAt rm_Wk_walkCycle; (try dsimp only); omega⟩ rfl hl.1 rfl (Nat.le_of_ble_eq_true rfl) d_Wk_walkCycle_97 ⟨Nat.zero_le _, Nat.zero_le _⟩) (fun z97 u H locs hp97 hz hk hh => ?_)
    refine xw_topr (b := b97) (by rw [hp97, if_pos (by omega)]; exact hb97) ?_
    refine lv_astore (lv' := [(15, .ref b97), (13, .long (xl_ (c / tr_n T))), (0, .ref o), (1, .ref a), (2, .long (xl_ c)), (4, .long (xl_ w)), (6, .long (xl_ oo)), (8, .long (xl_ f)), (10, .long (xl_ t)), (12, .int (xi_ (40 - (d : Int))))]) hx hb d_Wk_walkCycle_100 hl (by decide) rfl (fun ls hl => ?_)
    refine lv_aload_n hx hb d_Wk_walkCycle_102 rfl (lv_at hl 2 rfl) ?_
    refine lv_lload hx hb d_Wk_walkCycle_103 (lv_at hl 1 rfl) ?_
    refine lv_aload hx hb d_Wk_walkCycle_105 (lv_at hl 0 rfl) ?_
    refine lv_lload hx hb d_Wk_walkCycle_107 (lv_at hl 5 rfl) ?_
    refine lv_lload hx hb d_Wk_walkCycle_109 (lv_at hl 6 rfl) ?_
    refine lv_lload hx hb d_Wk_walkCycle_111 (lv_at hl 5 rfl) ?_
    refine lv_lload_n hx hb d_Wk_walkCycle_113 rfl (lv_at hl 4 rfl) ?_
    refine lv_lload hx hb d_Wk_walkCycle_114 (lv_at hl 1 rfl) ?_
    refine xw_lsub hx hb d_Wk_walkCycle_116 ?_
    refine xw_lmul hx hb d_Wk_walkCycle_117 ?_
    refine xw_ladd hx hb d_Wk_walkCycle_118 ?_
    refine lv_lload hx hb d_Wk_walkCycle_119 (lv_at hl 7 rfl) ?_
    refine lv_lload hx hb d_Wk_walkCycle_121 (lv_at hl 8 rfl) ?_
    refine lv_iload hx hb d_Wk_walkCycle_123 (lv_at hl 9 rfl) ?_
    obtain ⟨hs1, hs2⟩ := wok_turn hw hft h1 h2 (by omega)
    have hbr := bg_rng (c := c / tr_n T) (w := w) (o := oo + w * (c - c / tr_n T)) (by omega) hs2
    refine xw_cv (wc := [(o, .inr (5, [.ref r, .int (xi_ slot), .long (xl_ tl)])), (r, .inr (3, [.int (xi_ (100 : Int)), .ref v, .ref ra, .int (xi_ cnt), .int (xi_ tm)])), (v, .inl (G.2.2 1, (100 * 5), .inr (.inl (jl_ vals)))), (ra, .inl (G.2.2 0, 100, .inl (ja_ rat)))]) (wr := []) hh [0, 1, 2, 3] [] rfl rfl rfl (by decide) (xw_rV F hh [0, 1, 2, 3] rfl rfl (c_Wk_walkInto_On l G H.size o r v ra cnt tm vals rat st slot tl hst d ih (by omega) Sd hSd (some b97) (some y97) (c / tr_n T) (w) (oo + w * (c - c / tr_n T)) f t (by omega) ⟨hbr.1, hbr.2, by omega, by omega⟩ (fun y hy => by
      cases hy
      exact hs1 _ y97 hy97 _ _ (by omega) (by omega)) hrr) (nt_now hA hnt97 hh) lk_Wk_72 cd_Wk_walkInto se_Wk_walkInto_On _ hh.1 0 rfl rfl rfl rfl ⟨by unfold rm_Wk_walkInto rm_Wk_walkCycle; (try dsimp only); omega, by unfold rm_Wk_walkInto rm_Wk_walkCycle; (try dsimp only); omega⟩ rfl hl.1 rfl (Nat.le_of_ble_eq_true rfl) d_Wk_walkCycle_125 ⟨Nat.zero_le _, Nat.zero_le _⟩) (fun u H locs hp125 hX hz hk hh => ?_)
    have hh : xw_H G (va_A [(o, .inr (5, [.ref r, .int (xi_ slot), .long (xl_ tl)])), (r, .inr (3, [.int (xi_ (100 : Int)), .ref v, .ref ra, .int (xi_ cnt), .int (xi_ tm)])), (v, .inl (G.2.2 1, (100 * 5), .inr (.inl (jl_ vals)))), (ra, .inl (G.2.2 0, 100, .inl (ja_ rat)))] s.heap.size) s.heap H locs [(o, .inr (5, [.ref r, .int (xi_ slot), .long (xl_ tl)])), (r, .inr (3, [.int (xi_ (100 : Int)), .ref v, .ref ra, .int (xi_ u.1), .int (xi_ u.2.1)])), (v, .inl (G.2.2 1, (100 * 5), .inr (.inl (jl_ u.2.2.1)))), (ra, .inl (G.2.2 0, 100, .inl (ja_ u.2.2.2)))] := hh
    refine lv_goto (tgt := 243) hx hb d_Wk_walkCycle_128 (by decide) ?_
    have eev : g_cyc (gen_ d) T w oo f t c = g_into (gen_ d) (some y97) (c / tr_n T) w (oo + w * (c - c / tr_n T)) f t := by
      unfold g_cyc
      rw [if_neg (by omega), if_neg (by omega), if_pos h60, hy97]
    exact xw_vret F hr hlk hh u rfl (by rw [eev]; exact hp125) trivial d_Wk_walkCycle_243
  · refine lv_lookup (off := 127) (tgt := 131) hx hb d_Wk_walkCycle_4 (by decide) (by rw [h82]; decide) (by decide) ?_
    refine lv_lload hx hb d_Wk_walkCycle_131 (lv_at hl 4 rfl) ?_
    refine lv_lload hx hb d_Wk_walkCycle_133 (lv_at hl 3 rfl) ?_
    refine lv_ldc2 (v := xl_ 2) hx hb F.2.2.2.1 (F.2.2.2.2.1 _ k_Wk_76) d_Wk_walkCycle_135 ?_
    refine lv_lload_n hx hb d_Wk_walkCycle_138 rfl (lv_at hl 2 rfl) ?_
    refine xw_lmul hx hb d_Wk_walkCycle_139 ?_
    refine lv_lconst (v := xl_ 1) hx hb d_Wk_walkCycle_140 (by decide) ?_
    refine xw_ladd hx hb d_Wk_walkCycle_141 ?_
    refine xw_lmul hx hb d_Wk_walkCycle_142 ?_
    refine xw_ladd hx hb d_Wk_walkCycle_143 ?_
    refine lv_lstore (lv' := [(16, .long (xl_ (oo + (w * ((2 * c) + 1))))), (0, .ref o), (1, .ref a), (2, .long (xl_ c)), (4, .long (xl_ w)), (6, .long (xl_ oo)), (8, .long (xl_ f)), (10, .long (xl_ t)), (12, .int (xi_ (40 - (d : Int))))]) hx hb d_Wk_walkCycle_144 hl (by decide) rfl (fun ls hl => ?_)
    refine lv_aload_n hx hb d_Wk_walkCycle_146 rfl (lv_at hl 1 rfl) ?_
    refine lv_lload_n hx hb d_Wk_walkCycle_147 rfl (lv_at hl 3 rfl) ?_
    refine lv_aload_n hx hb d_Wk_walkCycle_148 rfl (lv_at hl 2 rfl) ?_
    refine lv_iconst (v := xi_ 0) hx hb d_Wk_walkCycle_149 rfl ?_
    have hn9 : (tr_cs T).length = 1 := by rcases hwf with q | q | q | q | q | q | q <;> omega
    obtain ⟨y150, hy150⟩ : ∃ y, (tr_cs T)[0]? = some y := ⟨_, List.getElem?_eq_getElem (by omega)⟩
    obtain ⟨b150, hb150, hnt150⟩ := hkid _ y150 hy150
    refine xw_cap hh (xw_rVp F (c_N_innerAt l G s.heap.size a ia room fch (tr_kd T) ((tr_cs T).length : Int) (tr_k T) (tr_n T) (tr_r T) (b2_ (has_ T)) (0) (by omega) (by omega)) (vp_now hA hSa hSia hN hh) lk_Wk_30 cd_N_innerAt se_N_innerAt _ (vp_now hA hSa hSia hN hh) 0 rfl rfl rfl rfl ⟨by unfold rm_N_innerAt rm_Wk_walkCycle; (try dsimp only); omega, by unfold rm_N_innerAt rm_Wk_walkCycle; (try dsimp only); omega⟩ rfl hl.1 rfl (Nat.le_of_ble_eq_true rfl) d_Wk_walkCycle_150 ⟨Nat.zero_le _, Nat.zero_le _⟩) (fun z150 u H locs hp150 hz hk hh => ?_)
    refine xw_topr (b := b150) (by rw [hp150, if_pos (by omega)]; exact hb150) ?_
    refine lv_lload hx hb d_Wk_walkCycle_153 (lv_at hl 4 rfl) ?_
    refine xw_lneg hx hb d_Wk_walkCycle_155 ?_
    refine lv_lload hx hb d_Wk_walkCycle_156 (lv_at hl 0 rfl) ?_
    refine lv_lload hx hb d_Wk_walkCycle_158 (lv_at hl 6 rfl) ?_
    refine lv_lload hx hb d_Wk_walkCycle_160 (lv_at hl 7 rfl) ?_
    refine lv_iload hx hb d_Wk_walkCycle_162 (lv_at hl 8 rfl) ?_
    obtain ⟨hs1, hs2⟩ := wok_back hw hft h1 h2
    have hbr := bg_rng (c := c) (w := -w) (o := oo + w * (2 * c + 1)) (by omega) hs2
    refine xw_cv (wc := [(o, .inr (5, [.ref r, .int (xi_ slot), .long (xl_ tl)])), (r, .inr (3, [.int (xi_ (100 : Int)), .ref v, .ref ra, .int (xi_ cnt), .int (xi_ tm)])), (v, .inl (G.2.2 1, (100 * 5), .inr (.inl (jl_ vals)))), (ra, .inl (G.2.2 0, 100, .inl (ja_ rat)))]) (wr := []) hh [0, 1, 2, 3] [] rfl rfl rfl (by decide) (xw_rV F hh [0, 1, 2, 3] rfl rfl (c_Wk_walkInto_On l G H.size o r v ra cnt tm vals rat st slot tl hst d ih (by omega) Sd hSd (some b150) (some y150) (c) (-w) (oo + w * (2 * c + 1)) f t (by omega) ⟨hbr.1, hbr.2, by omega, by omega⟩ (fun y hy => by
      cases hy
      exact hs1 _ y150 hy150 _ _ (by omega) (by omega)) hrr) (nt_now hA hnt150 hh) lk_Wk_72 cd_Wk_walkInto se_Wk_walkInto_On _ hh.1 0 rfl rfl rfl rfl ⟨by unfold rm_Wk_walkInto rm_Wk_walkCycle; (try dsimp only); omega, by unfold rm_Wk_walkInto rm_Wk_walkCycle; (try dsimp only); omega⟩ rfl hl.1 rfl (Nat.le_of_ble_eq_true rfl) d_Wk_walkCycle_164 ⟨Nat.zero_le _, Nat.zero_le _⟩) (fun u H locs hp164 hX hz hk hh => ?_)
    have hh : xw_H G (va_A [(o, .inr (5, [.ref r, .int (xi_ slot), .long (xl_ tl)])), (r, .inr (3, [.int (xi_ (100 : Int)), .ref v, .ref ra, .int (xi_ cnt), .int (xi_ tm)])), (v, .inl (G.2.2 1, (100 * 5), .inr (.inl (jl_ vals)))), (ra, .inl (G.2.2 0, 100, .inl (ja_ rat)))] s.heap.size) s.heap H locs [(o, .inr (5, [.ref r, .int (xi_ slot), .long (xl_ tl)])), (r, .inr (3, [.int (xi_ (100 : Int)), .ref v, .ref ra, .int (xi_ u.1), .int (xi_ u.2.1)])), (v, .inl (G.2.2 1, (100 * 5), .inr (.inl (jl_ u.2.2.1)))), (ra, .inl (G.2.2 0, 100, .inl (ja_ u.2.2.2)))] := hh
    refine lv_goto (tgt := 243) hx hb d_Wk_walkCycle_167 (by decide) ?_
    have eev : g_cyc (gen_ d) T w oo f t c = g_into (gen_ d) (some y150) c (-w) (oo + w * (2 * c + 1)) f t := by
      unfold g_cyc
      rw [if_neg (by omega), if_neg (by omega), if_neg (by omega), if_pos h82, hy150]
    exact xw_vret F hr hlk hh u rfl (by rw [eev]; exact hp164) trivial d_Wk_walkCycle_243
  · refine lv_lookup (off := 166) (tgt := 170) hx hb d_Wk_walkCycle_4 (by decide) (by rw [h86]; decide) (by decide) ?_
    refine lv_aload_n hx hb d_Wk_walkCycle_170 rfl (lv_at hl 1 rfl) ?_
    refine lv_lload_n hx hb d_Wk_walkCycle_171 rfl (lv_at hl 2 rfl) ?_
    refine lv_aload_n hx hb d_Wk_walkCycle_172 rfl (lv_at hl 1 rfl) ?_
    refine xw_get F (vp_now hA hSa hSia hN hh) (v := .int (xi_ (tr_k T))) fl_Wk_34_1 0 rfl rfl d_Wk_walkCycle_173 ?_
    refine xw_i2l hx hb d_Wk_walkCycle_176 (by omega) ?_
    have hk1 : 1 ≤ tr_k T := by rcases hwf with q | q | q | q | q | q | q <;> omega
    refine xw_clp hh (xw_rSp F (c_Jm_floorMod l G s.heap.size c (tr_k T) (by omega)) lk_Wk_69 cd_Jm_floorMod ss_Jm_floorMod rfl rfl ⟨by unfold rm_Jm_floorMod rm_Wk_walkCycle; (try dsimp only); omega, by unfold rm_Jm_floorMod rm_Wk_walkCycle; (try dsimp only); omega⟩ rfl hl.1 rfl (Nat.le_of_ble_eq_true rfl) d_Wk_walkCycle_177 ⟨Nat.zero_le _, Nat.zero_le _⟩) (fun z177 u H locs hp177 hz hk hh => ?_)
    obtain rfl : z177 = c % tr_k T := hp177
    refine lv_lconst (v := xl_ 0) hx hb d_Wk_walkCycle_180 (by decide) ?_
    have hkm : 0 ≤ c % tr_k T ∧ c % tr_k T < 10 := ⟨Int.emod_nonneg c (by omega), by have := Int.emod_lt_of_pos c (show 0 < tr_k T by omega); omega⟩
    refine xw_lcmp_ne hx hb 189 d_Wk_walkCycle_181 d_Wk_walkCycle_182 (by decide) (by omega) (fun c181 => ?_) (fun c181 => ?_)
    · refine lv_iconst (v := xi_ 1) hx hb d_Wk_walkCycle_189 rfl ?_
      have hn9 : (tr_cs T).length = 2 := by rcases hwf with q | q | q | q | q | q | q <;> omega
      obtain ⟨y190, hy190⟩ : ∃ y, (tr_cs T)[1]? = some y := ⟨_, List.getElem?_eq_getElem (by omega)⟩
      obtain ⟨b190, hb190, hnt190⟩ := hkid _ y190 hy190
      refine xw_cap hh (xw_rVp F (c_N_innerAt l G H.size a ia room fch (tr_kd T) ((tr_cs T).length : Int) (tr_k T) (tr_n T) (tr_r T) (b2_ (has_ T)) (1) (by omega) (by omega)) (vp_now hA hSa hSia hN hh) lk_Wk_30 cd_N_innerAt se_N_innerAt _ (vp_now hA hSa hSia hN hh) 0 rfl rfl rfl rfl ⟨by unfold rm_N_innerAt rm_Wk_walkCycle; (try dsimp only); omega, by unfold rm_N_innerAt rm_Wk_walkCycle; (try dsimp only); omega⟩ rfl hl.1 rfl (Nat.le_of_ble_eq_true rfl) d_Wk_walkCycle_190 ⟨Nat.zero_le _, Nat.zero_le _⟩) (fun z190 u H locs hp190 hz hk hh => ?_)
      refine xw_topr (b := b190) (by rw [hp190, if_pos (by omega)]; exact hb190) ?_
      refine lv_astore (lv' := [(18, .ref b190), (0, .ref o), (1, .ref a), (2, .long (xl_ c)), (4, .long (xl_ w)), (6, .long (xl_ oo)), (8, .long (xl_ f)), (10, .long (xl_ t)), (12, .int (xi_ (40 - (d : Int))))]) hx hb d_Wk_walkCycle_193 hl (by decide) rfl (fun ls hl => ?_)
      refine lv_aload_n hx hb d_Wk_walkCycle_195 rfl (lv_at hl 1 rfl) ?_
      refine lv_lload_n hx hb d_Wk_walkCycle_196 rfl (lv_at hl 3 rfl) ?_
      refine lv_aload hx hb d_Wk_walkCycle_197 (lv_at hl 0 rfl) ?_
      refine lv_lload hx hb d_Wk_walkCycle_199 (lv_at hl 4 rfl) ?_
      refine lv_lload hx hb d_Wk_walkCycle_201 (lv_at hl 5 rfl) ?_
      refine lv_lload hx hb d_Wk_walkCycle_203 (lv_at hl 6 rfl) ?_
      refine lv_lload hx hb d_Wk_walkCycle_205 (lv_at hl 7 rfl) ?_
      refine lv_iload hx hb d_Wk_walkCycle_207 (lv_at hl 8 rfl) ?_
      obtain ⟨hs1, hs2⟩ := wok_same hw hft h1 h2
      have hbr := bg_rng (c := c) (w := w) (o := oo) (by omega) hs2
      refine xw_cv (wc := [(o, .inr (5, [.ref r, .int (xi_ slot), .long (xl_ tl)])), (r, .inr (3, [.int (xi_ (100 : Int)), .ref v, .ref ra, .int (xi_ cnt), .int (xi_ tm)])), (v, .inl (G.2.2 1, (100 * 5), .inr (.inl (jl_ vals)))), (ra, .inl (G.2.2 0, 100, .inl (ja_ rat)))]) (wr := []) hh [0, 1, 2, 3] [] rfl rfl rfl (by decide) (xw_rV F hh [0, 1, 2, 3] rfl rfl (c_Wk_walkInto_On l G H.size o r v ra cnt tm vals rat st slot tl hst d ih (by omega) Sd hSd (some b190) (some y190) (c) (w) (oo) f t (by omega) ⟨hbr.1, hbr.2, by omega, by omega⟩ (fun y hy => by
        cases hy
        exact hs1 _ y190 hy190 _ _ (by omega) (by omega)) hrr) (nt_now hA hnt190 hh) lk_Wk_72 cd_Wk_walkInto se_Wk_walkInto_On _ hh.1 0 rfl rfl rfl rfl ⟨by unfold rm_Wk_walkInto rm_Wk_walkCycle; (try dsimp only); omega, by unfold rm_Wk_walkInto rm_Wk_walkCycle; (try dsimp only); omega⟩ rfl hl.1 rfl (Nat.le_of_ble_eq_true rfl) d_Wk_walkCycle_209 ⟨Nat.zero_le _, Nat.zero_le _⟩) (fun u H locs hp209 hX hz hk hh => ?_)
      have hh : xw_H G (va_A [(o, .inr (5, [.ref r, .int (xi_ slot), .long (xl_ tl)])), (r, .inr (3, [.int (xi_ (100 : Int)), .ref v, .ref ra, .int (xi_ cnt), .int (xi_ tm)])), (v, .inl (G.2.2 1, (100 * 5), .inr (.inl (jl_ vals)))), (ra, .inl (G.2.2 0, 100, .inl (ja_ rat)))] s.heap.size) s.heap H locs [(o, .inr (5, [.ref r, .int (xi_ slot), .long (xl_ tl)])), (r, .inr (3, [.int (xi_ (100 : Int)), .ref v, .ref ra, .int (xi_ u.1), .int (xi_ u.2.1)])), (v, .inl (G.2.2 1, (100 * 5), .inr (.inl (jl_ u.2.2.1)))), (ra, .inl (G.2.2 0, 100, .inl (ja_ u.2.2.2)))] := hh
      refine lv_goto (tgt := 243) hx hb d_Wk_walkCycle_212 (by decide) ?_
      have eev : g_cyc (gen_ d) T w oo f t c = g_into (gen_ d) (some y190) c w oo f t := by
        unfold g_cyc
        rw [if_neg (by omega), if_neg (by omega), if_neg (by omega), if_neg (by omega), if_pos h86, if_neg c181, hy190]
      exact xw_vret F hr hlk hh u rfl (by rw [eev]; exact hp209) trivial d_Wk_walkCycle_243
    · refine lv_iconst (v := xi_ 0) hx hb d_Wk_walkCycle_185 rfl ?_
      refine lv_goto (tgt := 190) hx hb d_Wk_walkCycle_186 (by decide) ?_
      have hn9 : (tr_cs T).length = 2 := by rcases hwf with q | q | q | q | q | q | q <;> omega
      obtain ⟨y190, hy190⟩ : ∃ y, (tr_cs T)[0]? = some y := ⟨_, List.getElem?_eq_getElem (by omega)⟩
      obtain ⟨b190, hb190, hnt190⟩ := hkid _ y190 hy190
      refine xw_cap hh (xw_rVp F (c_N_innerAt l G H.size a ia room fch (tr_kd T) ((tr_cs T).length : Int) (tr_k T) (tr_n T) (tr_r T) (b2_ (has_ T)) (0) (by omega) (by omega)) (vp_now hA hSa hSia hN hh) lk_Wk_30 cd_N_innerAt se_N_innerAt _ (vp_now hA hSa hSia hN hh) 0 rfl rfl rfl rfl ⟨by unfold rm_N_innerAt rm_Wk_walkCycle; (try dsimp only); omega, by unfold rm_N_innerAt rm_Wk_walkCycle; (try dsimp only); omega⟩ rfl hl.1 rfl (Nat.le_of_ble_eq_true rfl) d_Wk_walkCycle_190 ⟨Nat.zero_le _, Nat.zero_le _⟩) (fun z190 u H locs hp190 hz hk hh => ?_)
      refine xw_topr (b := b190) (by rw [hp190, if_pos (by omega)]; exact hb190) ?_
      refine lv_astore (lv' := [(18, .ref b190), (0, .ref o), (1, .ref a), (2, .long (xl_ c)), (4, .long (xl_ w)), (6, .long (xl_ oo)), (8, .long (xl_ f)), (10, .long (xl_ t)), (12, .int (xi_ (40 - (d : Int))))]) hx hb d_Wk_walkCycle_193 hl (by decide) rfl (fun ls hl => ?_)
      refine lv_aload_n hx hb d_Wk_walkCycle_195 rfl (lv_at hl 1 rfl) ?_
      refine lv_lload_n hx hb d_Wk_walkCycle_196 rfl (lv_at hl 3 rfl) ?_
      refine lv_aload hx hb d_Wk_walkCycle_197 (lv_at hl 0 rfl) ?_
      refine lv_lload hx hb d_Wk_walkCycle_199 (lv_at hl 4 rfl) ?_
      refine lv_lload hx hb d_Wk_walkCycle_201 (lv_at hl 5 rfl) ?_
      refine lv_lload hx hb d_Wk_walkCycle_203 (lv_at hl 6 rfl) ?_
      refine lv_lload hx hb d_Wk_walkCycle_205 (lv_at hl 7 rfl) ?_
      refine lv_iload hx hb d_Wk_walkCycle_207 (lv_at hl 8 rfl) ?_
      obtain ⟨hs1, hs2⟩ := wok_same hw hft h1 h2
      have hbr := bg_rng (c := c) (w := w) (o := oo) (by omega) hs2
      refine xw_cv (wc := [(o, .inr (5, [.ref r, .int (xi_ slot), .long (xl_ tl)])), (r, .inr (3, [.int (xi_ (100 : Int)), .ref v, .ref ra, .int (xi_ cnt), .int (xi_ tm)])), (v, .inl (G.2.2 1, (100 * 5), .inr (.inl (jl_ vals)))), (ra, .inl (G.2.2 0, 100, .inl (ja_ rat)))]) (wr := []) hh [0, 1, 2, 3] [] rfl rfl rfl (by decide) (xw_rV F hh [0, 1, 2, 3] rfl rfl (c_Wk_walkInto_On l G H.size o r v ra cnt tm vals rat st slot tl hst d ih (by omega) Sd hSd (some b190) (some y190) (c) (w) (oo) f t (by omega) ⟨hbr.1, hbr.2, by omega, by omega⟩ (fun y hy => by
        cases hy
        exact hs1 _ y190 hy190 _ _ (by omega) (by omega)) hrr) (nt_now hA hnt190 hh) lk_Wk_72 cd_Wk_walkInto se_Wk_walkInto_On _ hh.1 0 rfl rfl rfl rfl ⟨by unfold rm_Wk_walkInto rm_Wk_walkCycle; (try dsimp only); omega, by unfold rm_Wk_walkInto rm_Wk_walkCycle; (try dsimp only); omega⟩ rfl hl.1 rfl (Nat.le_of_ble_eq_true rfl) d_Wk_walkCycle_209 ⟨Nat.zero_le _, Nat.zero_le _⟩) (fun u H locs hp209 hX hz hk hh => ?_)
      have hh : xw_H G (va_A [(o, .inr (5, [.ref r, .int (xi_ slot), .long (xl_ tl)])), (r, .inr (3, [.int (xi_ (100 : Int)), .ref v, .ref ra, .int (xi_ cnt), .int (xi_ tm)])), (v, .inl (G.2.2 1, (100 * 5), .inr (.inl (jl_ vals)))), (ra, .inl (G.2.2 0, 100, .inl (ja_ rat)))] s.heap.size) s.heap H locs [(o, .inr (5, [.ref r, .int (xi_ slot), .long (xl_ tl)])), (r, .inr (3, [.int (xi_ (100 : Int)), .ref v, .ref ra, .int (xi_ u.1), .int (xi_ u.2.1)])), (v, .inl (G.2.2 1, (100 * 5), .inr (.inl (jl_ u.2.2.1)))), (ra, .inl (G.2.2 0, 100, .inl (ja_ u.2.2.2)))] := hh
      refine lv_goto (tgt := 243) hx hb d_Wk_walkCycle_212 (by decide) ?_
      have eev : g_cyc (gen_ d) T w oo f t c = g_into (gen_ d) (some y190) c w oo f t := by
        unfold g_cyc
        rw [if_neg (by omega), if_neg (by omega), if_neg (by omega), if_neg (by omega), if_pos h86, if_pos c181, hy190]
      exact xw_vret F hr hlk hh u rfl (by rw [eev]; exact hp209) trivial d_Wk_walkCycle_243
  · refine lv_lookup (off := 211) (tgt := 215) hx hb d_Wk_walkCycle_4 (by decide) (by
      rw [xi_toInt (by omega)]
      show Op.lookupswitch.offset [(60, 71), (69, 52), (82, 127), (86, 166), (91, 52)] _ _ = _
      rw [Op.lookupswitch.offset_cons, if_neg (by omega), Op.lookupswitch.offset_cons, if_neg (by omega), Op.lookupswitch.offset_cons, if_neg (by omega), Op.lookupswitch.offset_cons, if_neg (by omega), Op.lookupswitch.offset_cons, if_neg (by omega)]
      rfl) (by decide) ?_
    refine lv_aload_n hx hb d_Wk_walkCycle_215 rfl (lv_at hl 0 rfl) ?_
    refine lv_aload_n hx hb d_Wk_walkCycle_216 rfl (lv_at hl 1 rfl) ?_
    refine xw_get F (vp_now hA hSa hSia hN hh) (v := .int (xi_ (tr_kd T))) fl_Wk_26_1 0 rfl rfl d_Wk_walkCycle_217 ?_
    refine lv_lload_n hx hb d_Wk_walkCycle_220 rfl (lv_at hl 2 rfl) ?_
    refine lv_lload hx hb d_Wk_walkCycle_221 (lv_at hl 3 rfl) ?_
    refine lv_lload hx hb d_Wk_walkCycle_223 (lv_at hl 4 rfl) ?_
    have hsm := wok_same hw hft h1 h2
    have hbr := bg_rng (c := c) (w := w) (o := oo) (by omega) hsm.2
    refine xw_clp hh (xw_rSp F (c_Wk_begin l G s.heap.size c w oo (by omega)) lk_Wk_78 cd_Wk_begin ss_Wk_begin rfl rfl ⟨by unfold rm_Wk_begin rm_Wk_walkCycle; (try dsimp only); omega, by unfold rm_Wk_begin rm_Wk_walkCycle; (try dsimp only); omega⟩ rfl hl.1 rfl (Nat.le_of_ble_eq_true rfl) d_Wk_walkCycle_225 ⟨Nat.zero_le _, Nat.zero_le _⟩) (fun z225 u H locs hp225 hz hk hh => ?_)
    obtain rfl : z225 = bg_ c w oo := hp225
    refine lv_lload_n hx hb d_Wk_walkCycle_228 rfl (lv_at hl 2 rfl) ?_
    refine lv_lload hx hb d_Wk_walkCycle_229 (lv_at hl 3 rfl) ?_
    refine lv_lload hx hb d_Wk_walkCycle_231 (lv_at hl 4 rfl) ?_
    refine xw_clp hh (xw_rSp F (c_Wk_end l G H.size c w oo (by omega)) lk_Wk_82 cd_Wk_end ss_Wk_end rfl rfl ⟨by unfold rm_Wk_end rm_Wk_walkCycle; (try dsimp only); omega, by unfold rm_Wk_end rm_Wk_walkCycle; (try dsimp only); omega⟩ rfl hl.1 rfl (Nat.le_of_ble_eq_true rfl) d_Wk_walkCycle_233 ⟨Nat.zero_le _, Nat.zero_le _⟩) (fun z233 u H locs hp233 hz hk hh => ?_)
    obtain rfl : z233 = en_ c w oo := hp233
    refine lv_lload hx hb d_Wk_walkCycle_236 (lv_at hl 5 rfl) ?_
    refine lv_lload hx hb d_Wk_walkCycle_238 (lv_at hl 6 rfl) ?_
    refine xw_cv (wc := [(o, .inr (5, [.ref r, .int (xi_ slot), .long (xl_ tl)])), (r, .inr (3, [.int (xi_ (100 : Int)), .ref v, .ref ra, .int (xi_ cnt), .int (xi_ tm)])), (v, .inl (G.2.2 1, (100 * 5), .inr (.inl (jl_ vals)))), (ra, .inl (G.2.2 0, 100, .inl (ja_ rat)))]) (wr := []) hh [0, 1, 2, 3] [] rfl rfl rfl (by decide) (xw_rU F hh [0, 1, 2, 3] rfl rfl (x := ⟨"CyclePatterns$Walk", "hear", "(CJJJJ)V"⟩) (owner := "CyclePatterns$Walk") (c_On_hear l G H.size o r v ra cnt tm vals rat st slot tl hst (tr_kd T) (bg_ c w oo) (en_ c w oo) f t (by omega) ⟨hbr.1, hbr.2, by omega, by omega⟩ hrr) trivial lk_Wk_85' cd_On_hear ⟨is_On_hear, sl_hear_On, sm_hear⟩ (va_Decl.abs (F.2.2.2.2.2.2.1 _ dn_hear)) ⟨by decide, by decide, by decide +kernel⟩ _ hh.1 0 rfl rfl rfl rfl ⟨by unfold rm_On_hear rm_Wk_walkCycle; (try dsimp only); omega, by unfold rm_On_hear rm_Wk_walkCycle; (try dsimp only); omega⟩ rfl hl.1 rfl (Nat.le_of_ble_eq_true rfl) d_Wk_walkCycle_240 ⟨Nat.zero_le _, Nat.zero_le _⟩) (fun u H locs hp240 hX hz hk hh => ?_)
    have hh : xw_H G (va_A [(o, .inr (5, [.ref r, .int (xi_ slot), .long (xl_ tl)])), (r, .inr (3, [.int (xi_ (100 : Int)), .ref v, .ref ra, .int (xi_ cnt), .int (xi_ tm)])), (v, .inl (G.2.2 1, (100 * 5), .inr (.inl (jl_ vals)))), (ra, .inl (G.2.2 0, 100, .inl (ja_ rat)))] s.heap.size) s.heap H locs [(o, .inr (5, [.ref r, .int (xi_ slot), .long (xl_ tl)])), (r, .inr (3, [.int (xi_ (100 : Int)), .ref v, .ref ra, .int (xi_ u.1), .int (xi_ u.2.1)])), (v, .inl (G.2.2 1, (100 * 5), .inr (.inl (jl_ u.2.2.1)))), (ra, .inl (G.2.2 0, 100, .inl (ja_ u.2.2.2)))] := hh
    have eev : g_cyc (gen_ d) T w oo f t c = [(tr_kd T, bg_ c w oo, en_ c w oo, f, t)] := by
      unfold g_cyc
      rw [if_neg (by omega), if_neg (by omega), if_neg (by omega), if_neg (by omega), if_neg (by omega)]
    exact xw_vret F hr hlk hh u rfl (by rw [eev]; exact hp240) trivial d_Wk_walkCycle_243
