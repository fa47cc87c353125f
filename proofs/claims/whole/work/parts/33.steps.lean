/-! Walk.walkSteps -/
set_option maxHeartbeats 4000000 in
set_option maxRecDepth 100000 in
theorem lp_Wk_walkSteps_Pa {p0 : Program} {l : Launch} {e0 : Env} {s : State} {m0 : MethodId} {args : Array Value} {below : List Frame} {meth : Method} {c0 : Code} {Q : State → Prop} {G : GG_} {A : Nat → Prop} {H0 : Heap} (d : Nat) (F : xw_F p0 s m0 args c0 b_Wk_walkSteps 20 R_Wk G) (ih : cwk_Pa l G d) (o r v ra : Nat)  (Sd : Nat → Prop) (hSd : ∀ q : Nat, Sd q → q ≠ o ∧ q ≠ r ∧ q ≠ v ∧ q ≠ ra) (hA : ∀ q : Nat, Sd q → q < H0.size → ¬ A q) (a ia room : Nat) (fch : Nat → Option Nat) (T : PT (d + 1)) (hSa : Sd a) (hSia : Sd ia) (hN : va_P (gD G) classes [(a, .inr (1, nd_ (tr_kd T) ia ((tr_cs T).length : Int) (tr_k T) (tr_n T) (tr_r T) (b2_ (has_ T)))), (ia, .inl (G.2.2 4, room, .inr (.inr (.inr (.inr fch)))))] H0) (hroom : (tr_cs T).length ≤ room ∧ room ≤ 9) (hkid : ∀ (i : Nat) (x : PT d), (tr_cs T)[i]? = some x → ∃ b, fch i = some b ∧ nt_ G Sd d H0 b x) (c w oo f t : Int) (hw : wok_ (d + 1) T w oo f t) (hft : f < t) (h1 : cy_first w oo f t ≤ c) (h2 : c ≤ cy_last w oo f t) (hkd : tr_kd T = 91 ∨ tr_kd T = 69) (TG : List Row_ × Bool)
    (kk : ∀ (u : Int × Int × (Nat → Int) × (Nat → Int)) (ls : Array Slot) (H : Heap) (locs : List Loc), rr_ 200 u.1 u.2.1 u.2.2.1 u.2.2.2 TG → lv_has ls 20 [] → xw_H G A H0 H locs [(o, .inr (4, [.ref r])), (r, .inr (3, [.int (xi_ (200 : Int)), .ref v, .ref ra, .int (xi_ u.1), .int (xi_ u.2.1)])), (v, .inl (G.2.2 1, (200 * 5), .inr (.inl (jl_ u.2.2.1)))), (ra, .inl (G.2.2 0, 200, .inl (ja_ u.2.2.2)))] → W p0 l e0 (rm_Wk_walkSteps d) s m0 args below meth c0 H locs 0 0 Q (F0 m0 81 ls [])) :
    ∀ (N : Nat) (i cnt tm : Int) (vals rat : Nat → Int) (st : List Row_ × Bool) (ls : Array Slot) (H : Heap) (locs : List Loc), (tr_n T - i).toNat < N → 0 ≤ i → i ≤ tr_n T → rr_ 200 cnt tm vals rat st → run_ 200 sk_pa (((List.range (tr_n T).toNat).drop i.toNat).flatMap (stp_ T w oo f t c)) st = TG → lv_has ls 20 [(17, .int (xi_ i)), (13, .long (xl_ (w / tr_n T))), (15, .long (xl_ (oo + w * c))), (0, .ref o), (1, .ref a), (2, .long (xl_ c)), (8, .long (xl_ f)), (10, .long (xl_ t)), (12, .int (xi_ (40 - (d : Int))))] → xw_H G A H0 H locs [(o, .inr (4, [.ref r])), (r, .inr (3, [.int (xi_ (200 : Int)), .ref v, .ref ra, .int (xi_ cnt), .int (xi_ tm)])), (v, .inl (G.2.2 1, (200 * 5), .inr (.inl (jl_ vals)))), (ra, .inl (G.2.2 0, 200, .inl (ja_ rat)))] → W p0 l e0 (rm_Wk_walkSteps d) s m0 args below meth c0 H locs 0 0 Q (F0 m0 22 ls []) := by
  have hx := F.1
  have hb := F.2.1
  have hwf := hw.1.1
  have hrg := wf_rng hwf
  have hwr := wok_w hw
  have hd40 := hw.2.2.2.2.2.1
  have hftb := hw.2.2.2.2.1
  intro N
  induction N with
  | zero => intro i cnt tm vals rat st ls H locs h; omega
  | succ N ihn =>
    intro i cnt tm vals rat st ls H locs hN1 hi0 hi1 hrr hTG hl hh
    have htm := hrr.2.2.1
    have hb2 := b2_01 st.2
    refine lv_iload hx hb d_Wk_walkSteps_22 (lv_at hl 0 rfl) ?_
    refine lv_aload_n hx hb d_Wk_walkSteps_24 rfl (lv_at hl 4 rfl) ?_
    refine xw_get F (vp_now hA hSa hSia hN hh) (v := .int (xi_ (tr_n T))) fl_Wk_42_1 0 rfl rfl d_Wk_walkSteps_25 ?_
    refine xw_icmp_ge hx hb 81 d_Wk_walkSteps_28 (by decide) (by omega) (fun c28 => ?_) (fun c28 => ?_)
    · first
      | (have e81 : st = TG := by
          rw [List.drop_eq_nil_of_le (by rw [List.length_range]; omega)] at hTG
          exact hTG
         rw [e81] at hrr)
      | (have e81 : st = TG := by
          rw [← hTG]
          exact (run_full _ hrr.2.1 (b2_ne (by rw [← htm]; exact c38))).symm
         rw [e81] at hrr)
      exact kk (cnt, tm, vals, rat) ls H locs hrr (lv_sub hl [] rfl) hh
    · refine lv_aload_n hx hb d_Wk_walkSteps_31 rfl (lv_at hl 3 rfl) ?_
      refine xw_get F hh.1 (v := .ref r) fl_Wk_12_4 0 rfl rfl d_Wk_walkSteps_32 ?_
      refine xw_get F hh.1 (v := .int (xi_ tm)) fl_Wk_45_3 1 rfl rfl d_Wk_walkSteps_35 ?_
      refine xw_if_ne hx hb 81 d_Wk_walkSteps_38 (by decide) (by omega) (fun c38 => ?_) (fun c38 => ?_)
      · first
        | (have e81 : st = TG := by
            rw [List.drop_eq_nil_of_le (by rw [List.length_range]; omega)] at hTG
            exact hTG
           rw [e81] at hrr)
        | (have e81 : st = TG := by
            rw [← hTG]
            exact (run_full _ hrr.2.1 (b2_ne (by rw [← htm]; exact c38))).symm
           rw [e81] at hrr)
        exact kk (cnt, tm, vals, rat) ls H locs hrr (lv_sub hl [] rfl) hh
      · refine lv_lload hx hb d_Wk_walkSteps_41 (lv_at hl 2 rfl) ?_
        refine lv_lload hx hb d_Wk_walkSteps_43 (lv_at hl 1 rfl) ?_
        refine lv_iload hx hb d_Wk_walkSteps_45 (lv_at hl 0 rfl) ?_
        refine xw_i2l hx hb d_Wk_walkSteps_47 (by omega) ?_
        refine lv_lload_n hx hb d_Wk_walkSteps_48 rfl (lv_at hl 5 rfl) ?_
        refine xw_lsub hx hb d_Wk_walkSteps_49 ?_
        refine xw_lmul hx hb d_Wk_walkSteps_50 ?_
        refine xw_ladd hx hb d_Wk_walkSteps_51 ?_
        refine lv_lstore (lv' := [(18, .long (xl_ ((oo + w * c) + ((w / tr_n T) * (i - c))))), (17, .int (xi_ i)), (13, .long (xl_ (w / tr_n T))), (15, .long (xl_ (oo + w * c))), (0, .ref o), (1, .ref a), (2, .long (xl_ c)), (8, .long (xl_ f)), (10, .long (xl_ t)), (12, .int (xi_ (40 - (d : Int))))]) hx hb d_Wk_walkSteps_52 hl (by decide) rfl (fun ls hl => ?_)
        refine lv_aload_n hx hb d_Wk_walkSteps_54 rfl (lv_at hl 4 rfl) ?_
        refine lv_lload_n hx hb d_Wk_walkSteps_55 rfl (lv_at hl 6 rfl) ?_
        refine lv_aload_n hx hb d_Wk_walkSteps_56 rfl (lv_at hl 5 rfl) ?_
        refine lv_iload hx hb d_Wk_walkSteps_57 (lv_at hl 1 rfl) ?_
        refine xw_cap hh (xw_rVp F (c_N_inStep l G H.size a ia room fch (tr_kd T) ((tr_cs T).length : Int) (tr_k T) (tr_n T) (tr_r T) (b2_ (has_ T)) i (by omega) (by omega) (by omega)) (vp_now hA hSa hSia hN hh) lk_Wk_89 cd_N_inStep se_N_inStep _ (vp_now hA hSa hSia hN hh) 0 rfl rfl rfl rfl ⟨by unfold rm_N_inStep rm_Wk_walkSteps; (try dsimp only); omega, by unfold rm_N_inStep rm_Wk_walkSteps; (try dsimp only); omega⟩ rfl hl.1 rfl (Nat.le_of_ble_eq_true rfl) d_Wk_walkSteps_59 ⟨Nat.zero_le _, Nat.zero_le _⟩) (fun z59 u H locs hp59 hz hk hh => ?_)
        obtain ⟨xo, hxo, hev, hxj⟩ := stp_pick hwf hkid hkd ⟨hi0, by omega⟩ hp59 w oo f t c
        obtain ⟨hs1, hs2, hs3⟩ := wok_step hw hft h1 h2 hkd (i := i) ⟨hi0, by omega⟩
        have hbr := bg_rng hs3 hs2
        refine lv_lload hx hb d_Wk_walkSteps_62 (lv_at hl 2 rfl) ?_
        refine lv_lload hx hb d_Wk_walkSteps_64 (lv_at hl 0 rfl) ?_
        refine lv_lload hx hb d_Wk_walkSteps_66 (lv_at hl 7 rfl) ?_
        refine lv_lload hx hb d_Wk_walkSteps_68 (lv_at hl 8 rfl) ?_
        refine lv_iload hx hb d_Wk_walkSteps_70 (lv_at hl 9 rfl) ?_
        refine xw_cv (wc := [(o, .inr (4, [.ref r])), (r, .inr (3, [.int (xi_ (200 : Int)), .ref v, .ref ra, .int (xi_ cnt), .int (xi_ tm)])), (v, .inl (G.2.2 1, (200 * 5), .inr (.inl (jl_ vals)))), (ra, .inl (G.2.2 0, 200, .inl (ja_ rat)))]) (wr := []) hh [0, 1, 2, 3] [] rfl rfl rfl (by decide) (xw_rV F hh [0, 1, 2, 3] rfl rfl (c_Wk_walkInto_Pa l G H.size o r v ra cnt tm vals rat st  d ih (by omega) Sd hSd z59 xo c (w / tr_n T) (oo + w * c + w / tr_n T * (i - c)) f t (by omega) ⟨hbr.1, hbr.2, by omega, by omega⟩ (fun y hy => by
          obtain ⟨j, hj⟩ := hxj y hy
          exact hs1 j y hj _ _ (by omega) (by omega)) hrr) (nto_now hA hxo hh) lk_Wk_72 cd_Wk_walkInto se_Wk_walkInto_Pa _ hh.1 0 rfl rfl rfl rfl ⟨by unfold rm_Wk_walkInto rm_Wk_walkSteps; (try dsimp only); omega, by unfold rm_Wk_walkInto rm_Wk_walkSteps; (try dsimp only); omega⟩ rfl hl.1 rfl (Nat.le_of_ble_eq_true rfl) d_Wk_walkSteps_72 ⟨Nat.zero_le _, Nat.zero_le _⟩) (fun u H locs hp72 hX hz hk hh => ?_)
        have hh : xw_H G A H0 H locs [(o, .inr (4, [.ref r])), (r, .inr (3, [.int (xi_ (200 : Int)), .ref v, .ref ra, .int (xi_ u.1), .int (xi_ u.2.1)])), (v, .inl (G.2.2 1, (200 * 5), .inr (.inl (jl_ u.2.2.1)))), (ra, .inl (G.2.2 0, 200, .inl (ja_ u.2.2.2)))] := hh
        refine lv_iinc (k := 1) (v := xi_ (i + 1)) (lv' := [(17, .int (xi_ (i + 1))), (18, .long (xl_ ((oo + w * c) + ((w / tr_n T) * (i - c))))), (13, .long (xl_ (w / tr_n T))), (15, .long (xl_ (oo + w * c))), (0, .ref o), (1, .ref a), (2, .long (xl_ c)), (8, .long (xl_ f)), (10, .long (xl_ t)), (12, .int (xi_ (40 - (d : Int))))]) hx hb d_Wk_walkSteps_75 hl rfl (xi_add _ _).symm (by decide) rfl (fun ls hl => ?_)
        refine lv_goto (tgt := 22) hx hb d_Wk_walkSteps_78 (by decide) ?_
        refine ihn (i + 1) u.1 u.2.1 u.2.2.1 u.2.2.2 (run_ 200 sk_pa (g_into (gen_ d) xo c (w / tr_n T) (oo + w * c + w / tr_n T * (i - c)) f t) st) ls H locs (by omega) (by omega) (by omega) hp72 ?_ (lv_sub hl [0, 2, 3, 4, 5, 6, 7, 8, 9] rfl) hh
        rw [← hTG, drop_cons (List.getElem?_range (show i.toNat < (tr_n T).toNat by omega)), run_cons, hev, show (i + 1).toNat = i.toNat + 1 by omega]
set_option maxHeartbeats 4000000 in
set_option maxRecDepth 100000 in
theorem c_Wk_walkSteps_Pa (l : Launch) (G : GG_) (sz : Nat) (o r v ra : Nat) (cnt tm : Int) (vals rat : Nat → Int) (st : List Row_ × Bool)  (d : Nat) (ih : cwk_Pa l G d) (Sd : Nat → Prop) (hSd : ∀ q : Nat, Sd q → q ≠ o ∧ q ≠ r ∧ q ≠ v ∧ q ≠ ra) (a : Nat) (T : PT (d + 1)) (c w oo f t : Int) (hw : wok_ (d + 1) T w oo f t) (hft : f < t) (h1 : cy_first w oo f t ≤ c) (h2 : c ≤ cy_last w oo f t) (hkd : tr_kd T = 91 ∨ tr_kd T = 69) (hrr : rr_ 200 cnt tm vals rat st) : Met l y_Wk_walkSteps (cw_ y_Wk_walkSteps b_Wk_walkSteps 20 none) (rm_Wk_walkSteps d) (xw_P G [.ref o, .ref a, .long (xl_ c), .long (xl_ w), .long (xl_ oo), .long (xl_ f), .long (xl_ t), .int (xi_ (40 - (d : Int)))] sz [(o, .inr (4, [.ref r])), (r, .inr (3, [.int (xi_ (200 : Int)), .ref v, .ref ra, .int (xi_ cnt), .int (xi_ tm)])), (v, .inl (G.2.2 1, (200 * 5), .inr (.inl (jl_ vals)))), (ra, .inl (G.2.2 0, 200, .inl (ja_ rat)))] (fun H => nt_ G Sd (d + 1) H a T)) (xw_Qv (S := Int × Int × (Nat → Int) × (Nat → Int)) G sz [(o, .inr (4, [.ref r])), (r, .inr (3, [.int (xi_ (200 : Int)), .ref v, .ref ra, .int (xi_ cnt), .int (xi_ tm)])), (v, .inl (G.2.2 1, (200 * 5), .inr (.inl (jl_ vals)))), (ra, .inl (G.2.2 0, 200, .inl (ja_ rat)))] (fun u => rr_ 200 u.1 u.2.1 u.2.2.1 u.2.2.2 (run_ 200 sk_pa (g_cyc (gen_ d) T w oo f t c) st)) (fun u => [(o, .inr (4, [.ref r])), (r, .inr (3, [.int (xi_ (200 : Int)), .ref v, .ref ra, .int (xi_ u.1), .int (xi_ u.2.1)])), (v, .inl (G.2.2 1, (200 * 5), .inr (.inl (jl_ u.2.2.1)))), (ra, .inl (G.2.2 0, 200, .inl (ja_ u.2.2.2)))]) (fun _ _ => True)) 0 0 (va_A [(o, .inr (4, [.ref r])), (r, .inr (3, [.int (xi_ (200 : Int)), .ref v, .ref ra, .int (xi_ cnt), .int (xi_ tm)])), (v, .inl (G.2.2 1, (200 * 5), .inr (.inl (jl_ vals)))), (ra, .inl (G.2.2 0, 200, .inl (ja_ rat)))] sz) := by
  refine xw_met (by decide) (Nat.le_of_ble_eq_true rfl) ?_
  intro p0 e0 s m0 args below meth c0 F hr hlk hin hsz hh hX ls hl
  subst hsz
  have hx := F.1
  have hb := F.2.1
  have hl : lv_has ls 20 [(0, .ref o), (1, .ref a), (2, .long (xl_ c)), (4, .long (xl_ w)), (6, .long (xl_ oo)), (8, .long (xl_ f)), (10, .long (xl_ t)), (12, .int (xi_ (40 - (d : Int))))] := hl
  obtain ⟨hSa, ia, room, fch, hSia, hN, hro1, hro2, hkid⟩ := hX
  have hwf := hw.1.1
  have hrg := wf_rng hwf
  have hwr := wok_w hw
  have hor := wok_o hw
  have hd40 := hw.2.2.2.2.2.1
  have hA : ∀ q : Nat, Sd q → q < s.heap.size → ¬ va_A [(o, .inr (4, [.ref r])), (r, .inr (3, [.int (xi_ (200 : Int)), .ref v, .ref ra, .int (xi_ cnt), .int (xi_ tm)])), (v, .inl (G.2.2 1, (200 * 5), .inr (.inl (jl_ vals)))), (ra, .inl (G.2.2 0, 200, .inl (ja_ rat)))] s.heap.size q := not_in4 hSd
  have hdv : tr_n T ∣ w := by
    obtain ⟨q1, -⟩ := wok_div hw (n := tr_n T) (by unfold gn_1; rcases hkd with hk | hk; · rw [if_pos hk]
                                                   · rw [if_neg (by omega), if_neg (by omega), if_pos (Or.inr hk)])
    exact ⟨_, q1⟩
  refine lv_lload hx hb d_Wk_walkSteps_0 (lv_at hl 3 rfl) ?_
  refine lv_aload_n hx hb d_Wk_walkSteps_2 rfl (lv_at hl 1 rfl) ?_
  refine xw_get F (vp_now hA hSa hSia hN hh) (v := .int (xi_ (tr_n T))) fl_Wk_42_1 0 rfl rfl d_Wk_walkSteps_3 ?_
  refine xw_i2l hx hb d_Wk_walkSteps_6 (by omega) ?_
  refine xw_ldiv hx hb d_Wk_walkSteps_7 (by omega) ?_
  refine xw_topl (y := w / tr_n T) (td_ex hdv) ?_
  refine lv_lstore (lv' := [(13, .long (xl_ (w / tr_n T))), (0, .ref o), (1, .ref a), (2, .long (xl_ c)), (4, .long (xl_ w)), (6, .long (xl_ oo)), (8, .long (xl_ f)), (10, .long (xl_ t)), (12, .int (xi_ (40 - (d : Int))))]) hx hb d_Wk_walkSteps_8 hl (by decide) rfl (fun ls hl => ?_)
  refine lv_lload hx hb d_Wk_walkSteps_10 (lv_at hl 5 rfl) ?_
  refine lv_lload hx hb d_Wk_walkSteps_12 (lv_at hl 4 rfl) ?_
  refine lv_lload_n hx hb d_Wk_walkSteps_14 rfl (lv_at hl 3 rfl) ?_
  refine xw_lmul hx hb d_Wk_walkSteps_15 ?_
  refine xw_ladd hx hb d_Wk_walkSteps_16 ?_
  refine lv_lstore (lv' := [(15, .long (xl_ (oo + (w * c)))), (13, .long (xl_ (w / tr_n T))), (0, .ref o), (1, .ref a), (2, .long (xl_ c)), (4, .long (xl_ w)), (6, .long (xl_ oo)), (8, .long (xl_ f)), (10, .long (xl_ t)), (12, .int (xi_ (40 - (d : Int))))]) hx hb d_Wk_walkSteps_17 hl (by decide) rfl (fun ls hl => ?_)
  refine lv_iconst (v := xi_ 0) hx hb d_Wk_walkSteps_19 rfl ?_
  refine lv_istore (lv' := [(17, .int (xi_ 0)), (15, .long (xl_ (oo + (w * c)))), (13, .long (xl_ (w / tr_n T))), (0, .ref o), (1, .ref a), (2, .long (xl_ c)), (4, .long (xl_ w)), (6, .long (xl_ oo)), (8, .long (xl_ f)), (10, .long (xl_ t)), (12, .int (xi_ (40 - (d : Int))))]) hx hb d_Wk_walkSteps_20 hl (by decide) rfl (fun ls hl => ?_)
  refine lp_Wk_walkSteps_Pa d F ih o r v ra  Sd hSd hA a ia room fch T hSa hSia hN ⟨hro1, hro2⟩ hkid c w oo f t hw hft h1 h2 hkd (run_ 200 sk_pa (g_cyc (gen_ d) T w oo f t c) st) (fun u ls H locs hp81 hl hh => ?_) ((tr_n T).toNat + 1) 0 cnt tm vals rat st ls s.heap _ (by omega) (by omega) (by omega) hrr (by rw [stp_cyc hkd]; rfl) (lv_sub hl [0, 2, 1, 3, 4, 5, 8, 9, 10] rfl) hh
  exact xw_vret F hr hlk hh u rfl hp81 trivial d_Wk_walkSteps_81
set_option maxHeartbeats 4000000 in
set_option maxRecDepth 100000 in
theorem lp_Wk_walkSteps_On {p0 : Program} {l : Launch} {e0 : Env} {s : State} {m0 : MethodId} {args : Array Value} {below : List Frame} {meth : Method} {c0 : Code} {Q : State → Prop} {G : GG_} {A : Nat → Prop} {H0 : Heap} (d : Nat) (F : xw_F p0 s m0 args c0 b_Wk_walkSteps 20 R_Wk G) (ih : cwk_On l G d) (o r v ra : Nat) (slot tl : Int) (hst : 0 ≤ slot ∧ slot ≤ 7 ∧ 0 < tl ∧ tl ≤ 1099511627776) (Sd : Nat → Prop) (hSd : ∀ q : Nat, Sd q → q ≠ o ∧ q ≠ r ∧ q ≠ v ∧ q ≠ ra) (hA : ∀ q : Nat, Sd q → q < H0.size → ¬ A q) (a ia room : Nat) (fch : Nat → Option Nat) (T : PT (d + 1)) (hSa : Sd a) (hSia : Sd ia) (hN : va_P (gD G) classes [(a, .inr (1, nd_ (tr_kd T) ia ((tr_cs T).length : Int) (tr_k T) (tr_n T) (tr_r T) (b2_ (has_ T)))), (ia, .inl (G.2.2 4, room, .inr (.inr (.inr (.inr fch)))))] H0) (hroom : (tr_cs T).length ≤ room ∧ room ≤ 9) (hkid : ∀ (i : Nat) (x : PT d), (tr_cs T)[i]? = some x → ∃ b, fch i = some b ∧ nt_ G Sd d H0 b x) (c w oo f t : Int) (hw : wok_ (d + 1) T w oo f t) (hft : f < t) (h1 : cy_first w oo f t ≤ c) (h2 : c ≤ cy_last w oo f t) (hkd : tr_kd T = 91 ∨ tr_kd T = 69) (TG : List Row_ × Bool)
    (kk : ∀ (u : Int × Int × (Nat → Int) × (Nat → Int)) (ls : Array Slot) (H : Heap) (locs : List Loc), rr_ 100 u.1 u.2.1 u.2.2.1 u.2.2.2 TG → lv_has ls 20 [] → xw_H G A H0 H locs [(o, .inr (5, [.ref r, .int (xi_ slot), .long (xl_ tl)])), (r, .inr (3, [.int (xi_ (100 : Int)), .ref v, .ref ra, .int (xi_ u.1), .int (xi_ u.2.1)])), (v, .inl (G.2.2 1, (100 * 5), .inr (.inl (jl_ u.2.2.1)))), (ra, .inl (G.2.2 0, 100, .inl (ja_ u.2.2.2)))] → W p0 l e0 (rm_Wk_walkSteps d) s m0 args below meth c0 H locs 0 0 Q (F0 m0 81 ls [])) :
    ∀ (N : Nat) (i cnt tm : Int) (vals rat : Nat → Int) (st : List Row_ × Bool) (ls : Array Slot) (H : Heap) (locs : List Loc), (tr_n T - i).toNat < N → 0 ≤ i → i ≤ tr_n T → rr_ 100 cnt tm vals rat st → run_ 100 (sk_on slot tl) (((List.range (tr_n T).toNat).drop i.toNat).flatMap (stp_ T w oo f t c)) st = TG → lv_has ls 20 [(17, .int (xi_ i)), (13, .long (xl_ (w / tr_n T))), (15, .long (xl_ (oo + w * c))), (0, .ref o), (1, .ref a), (2, .long (xl_ c)), (8, .long (xl_ f)), (10, .long (xl_ t)), (12, .int (xi_ (40 - (d : Int))))] → xw_H G A H0 H locs [(o, .inr (5, [.ref r, .int (xi_ slot), .long (xl_ tl)])), (r, .inr (3, [.int (xi_ (100 : Int)), .ref v, .ref ra, .int (xi_ cnt), .int (xi_ tm)])), (v, .inl (G.2.2 1, (100 * 5), .inr (.inl (jl_ vals)))), (ra, .inl (G.2.2 0, 100, .inl (ja_ rat)))] → W p0 l e0 (rm_Wk_walkSteps d) s m0 args below meth c0 H locs 0 0 Q (F0 m0 22 ls []) := by
  have hx := F.1
  have hb := F.2.1
  have hwf := hw.1.1
  have hrg := wf_rng hwf
  have hwr := wok_w hw
  have hd40 := hw.2.2.2.2.2.1
  have hftb := hw.2.2.2.2.1
  intro N
  induction N with
  | zero => intro i cnt tm vals rat st ls H locs h; omega
  | succ N ihn =>
    intro i cnt tm vals rat st ls H locs hN1 hi0 hi1 hrr hTG hl hh
    have htm := hrr.2.2.1
    have hb2 := b2_01 st.2
    refine lv_iload hx hb d_Wk_walkSteps_22 (lv_at hl 0 rfl) ?_
    refine lv_aload_n hx hb d_Wk_walkSteps_24 rfl (lv_at hl 4 rfl) ?_
    refine xw_get F (vp_now hA hSa hSia hN hh) (v := .int (xi_ (tr_n T))) fl_Wk_42_1 0 rfl rfl d_Wk_walkSteps_25 ?_
    refine xw_icmp_ge hx hb 81 d_Wk_walkSteps_28 (by decide) (by omega) (fun c28 => ?_) (fun c28 => ?_)
    · first
      | (have e81 : st = TG := by
          rw [List.drop_eq_nil_of_le (by rw [List.length_range]; omega)] at hTG
          exact hTG
         rw [e81] at hrr)
      | (have e81 : st = TG := by
          rw [← hTG]
          exact (run_full _ hrr.2.1 (b2_ne (by rw [← htm]; exact c38))).symm
         rw [e81] at hrr)
      exact kk (cnt, tm, vals, rat) ls H locs hrr (lv_sub hl [] rfl) hh
    · refine lv_aload_n hx hb d_Wk_walkSteps_31 rfl (lv_at hl 3 rfl) ?_
      refine xw_get F hh.1 (v := .ref r) fl_Wk_12_5 0 rfl rfl d_Wk_walkSteps_32 ?_
      refine xw_get F hh.1 (v := .int (xi_ tm)) fl_Wk_45_3 1 rfl rfl d_Wk_walkSteps_35 ?_
      refine xw_if_ne hx hb 81 d_Wk_walkSteps_38 (by decide) (by omega) (fun c38 => ?_) (fun c38 => ?_)
      · first
        | (have e81 : st = TG := by
            rw [List.drop_eq_nil_of_le (by rw [List.length_range]; omega)] at hTG
            exact hTG
           rw [e81] at hrr)
        | (have e81 : st = TG := by
            rw [← hTG]
            exact (run_full _ hrr.2.1 (b2_ne (by rw [← htm]; exact c38))).symm
           rw [e81] at hrr)
        exact kk (cnt, tm, vals, rat) ls H locs hrr (lv_sub hl [] rfl) hh
      · refine lv_lload hx hb d_Wk_walkSteps_41 (lv_at hl 2 rfl) ?_
        refine lv_lload hx hb d_Wk_walkSteps_43 (lv_at hl 1 rfl) ?_
        refine lv_iload hx hb d_Wk_walkSteps_45 (lv_at hl 0 rfl) ?_
        refine xw_i2l hx hb d_Wk_walkSteps_47 (by omega) ?_
        refine lv_lload_n hx hb d_Wk_walkSteps_48 rfl (lv_at hl 5 rfl) ?_
        refine xw_lsub hx hb d_Wk_walkSteps_49 ?_
        refine xw_lmul hx hb d_Wk_walkSteps_50 ?_
        refine xw_ladd hx hb d_Wk_walkSteps_51 ?_
        refine lv_lstore (lv' := [(18, .long (xl_ ((oo + w * c) + ((w / tr_n T) * (i - c))))), (17, .int (xi_ i)), (13, .long (xl_ (w / tr_n T))), (15, .long (xl_ (oo + w * c))), (0, .ref o), (1, .ref a), (2, .long (xl_ c)), (8, .long (xl_ f)), (10, .long (xl_ t)), (12, .int (xi_ (40 - (d : Int))))]) hx hb d_Wk_walkSteps_52 hl (by decide) rfl (fun ls hl => ?_)
        refine lv_aload_n hx hb d_Wk_walkSteps_54 rfl (lv_at hl 4 rfl) ?_
        refine lv_lload_n hx hb d_Wk_walkSteps_55 rfl (lv_at hl 6 rfl) ?_
        refine lv_aload_n hx hb d_Wk_walkSteps_56 rfl (lv_at hl 5 rfl) ?_
        refine lv_iload hx hb d_Wk_walkSteps_57 (lv_at hl 1 rfl) ?_
        refine xw_cap hh (xw_rVp F (c_N_inStep l G H.size a ia room fch (tr_kd T) ((tr_cs T).length : Int) (tr_k T) (tr_n T) (tr_r T) (b2_ (has_ T)) i (by omega) (by omega) (by omega)) (vp_now hA hSa hSia hN hh) lk_Wk_89 cd_N_inStep se_N_inStep _ (vp_now hA hSa hSia hN hh) 0 rfl rfl rfl rfl ⟨by unfold rm_N_inStep rm_Wk_walkSteps; (try dsimp only); omega, by unfold rm_N_inStep rm_Wk_walkSteps; (try dsimp only); omega⟩ rfl hl.1 rfl (Nat.le_of_ble_eq_true rfl) d_Wk_walkSteps_59 ⟨Nat.zero_le _, Nat.zero_le _⟩) (fun z59 u H locs hp59 hz hk hh => ?_)
        obtain ⟨xo, hxo, hev, hxj⟩ := stp_pick hwf hkid hkd ⟨hi0, by omega⟩ hp59 w oo f t c
        obtain ⟨hs1, hs2, hs3⟩ := wok_step hw hft h1 h2 hkd (i := i) ⟨hi0, by omega⟩
        have hbr := bg_rng hs3 hs2
        refine lv_lload hx hb d_Wk_walkSteps_62 (lv_at hl 2 rfl) ?_
        refine lv_lload hx hb d_Wk_walkSteps_64 (lv_at hl 0 rfl) ?_
        refine lv_lload hx hb d_Wk_walkSteps_66 (lv_at hl 7 rfl) ?_
        refine lv_lload hx hb d_Wk_walkSteps_68 (lv_at hl 8 rfl) ?_
        refine lv_iload hx hb d_Wk_walkSteps_70 (lv_at hl 9 rfl) ?_
        refine xw_cv (wc := [(o, .inr (5, [.ref r, .int (xi_ slot), .long (xl_ tl)])), (r, .inr (3, [.int (xi_ (100 : Int)), .ref v, .ref ra, .int (xi_ cnt), .int (xi_ tm)])), (v, .inl (G.2.2 1, (100 * 5), .inr (.inl (jl_ vals)))), (ra, .inl (G.2.2 0, 100, .inl (ja_ rat)))]) (wr := []) hh [0, 1, 2, 3] [] rfl rfl rfl (by decide) (xw_rV F hh [0, 1, 2, 3] rfl rfl (c_Wk_walkInto_On l G H.size o r v ra cnt tm vals rat st slot tl hst d ih (by omega) Sd hSd z59 xo c (w / tr_n T) (oo + w * c + w / tr_n T * (i - c)) f t (by omega) ⟨hbr.1, hbr.2, by omega, by omega⟩ (fun y hy => by
          obtain ⟨j, hj⟩ := hxj y hy
          exact hs1 j y hj _ _ (by omega) (by omega)) hrr) (nto_now hA hxo hh) lk_Wk_72 cd_Wk_walkInto se_Wk_walkInto_On _ hh.1 0 rfl rfl rfl rfl ⟨by unfold rm_Wk_walkInto rm_Wk_walkSteps; (try dsimp only); omega, by unfold rm_Wk_walkInto rm_Wk_walkSteps; (try dsimp only); omega⟩ rfl hl.1 rfl (Nat.le_of_ble_eq_true rfl) d_Wk_walkSteps_72 ⟨Nat.zero_le _, Nat.zero_le _⟩) (fun u H locs hp72 hX hz hk hh => ?_)
        have hh : xw_H G A H0 H locs [(o, .inr (5, [.ref r, .int (xi_ slot), .long (xl_ tl)])), (r, .inr (3, [.int (xi_ (100 : Int)), .ref v, .ref ra, .int (xi_ u.1), .int (xi_ u.2.1)])), (v, .inl (G.2.2 1, (100 * 5), .inr (.inl (jl_ u.2.2.1)))), (ra, .inl (G.2.2 0, 100, .inl (ja_ u.2.2.2)))] := hh
        refine lv_iinc (k := 1) (v := xi_ (i + 1)) (lv' := [(17, .int (xi_ (i + 1))), (18, .long (xl_ ((oo + w * c) + ((w / tr_n T) * (i - c))))), (13, .long (xl_ (w / tr_n T))), (15, .long (xl_ (oo + w * c))), (0, .ref o), (1, .ref a), (2, .long (xl_ c)), (8, .long (xl_ f)), (10, .long (xl_ t)), (12, .int (xi_ (40 - (d : Int))))]) hx hb d_Wk_walkSteps_75 hl rfl (xi_add _ _).symm (by decide) rfl (fun ls hl => ?_)
        refine lv_goto (tgt := 22) hx hb d_Wk_walkSteps_78 (by decide) ?_
        refine ihn (i + 1) u.1 u.2.1 u.2.2.1 u.2.2.2 (run_ 100 (sk_on slot tl) (g_into (gen_ d) xo c (w / tr_n T) (oo + w * c + w / tr_n T * (i - c)) f t) st) ls H locs (by omega) (by omega) (by omega) hp72 ?_ (lv_sub hl [0, 2, 3, 4, 5, 6, 7, 8, 9] rfl) hh
        rw [← hTG, drop_cons (List.getElem?_range (show i.toNat < (tr_n T).toNat by omega)), run_cons, hev, show (i + 1).toNat = i.toNat + 1 by omega]
set_option maxHeartbeats 4000000 in
set_option maxRecDepth 100000 in
theorem c_Wk_walkSteps_On (l : Launch) (G : GG_) (sz : Nat) (o r v ra : Nat) (cnt tm : Int) (vals rat : Nat → Int) (st : List Row_ × Bool) (slot tl : Int) (hst : 0 ≤ slot ∧ slot ≤ 7 ∧ 0 < tl ∧ tl ≤ 1099511627776) (d : Nat) (ih : cwk_On l G d) (Sd : Nat → Prop) (hSd : ∀ q : Nat, Sd q → q ≠ o ∧ q ≠ r ∧ q ≠ v ∧ q ≠ ra) (a : Nat) (T : PT (d + 1)) (c w oo f t : Int) (hw : wok_ (d + 1) T w oo f t) (hft : f < t) (h1 : cy_first w oo f t ≤ c) (h2 : c ≤ cy_last w oo f t) (hkd : tr_kd T = 91 ∨ tr_kd T = 69) (hrr : rr_ 100 cnt tm vals rat st) : Met l y_Wk_walkSteps (cw_ y_Wk_walkSteps b_Wk_walkSteps 20 none) (rm_Wk_walkSteps d) (xw_P G [.ref o, .ref a, .long (xl_ c), .long (xl_ w), .long (xl_ oo), .long (xl_ f), .long (xl_ t), .int (xi_ (40 - (d : Int)))] sz [(o, .inr (5, [.ref r, .int (xi_ slot), .long (xl_ tl)])), (r, .inr (3, [.int (xi_ (100 : Int)), .ref v, .ref ra, .int (xi_ cnt), .int (xi_ tm)])), (v, .inl (G.2.2 1, (100 * 5), .inr (.inl (jl_ vals)))), (ra, .inl (G.2.2 0, 100, .inl (ja_ rat)))] (fun H => nt_ G Sd (d + 1) H a T)) (xw_Qv (S := Int × Int × (Nat → Int) × (Nat → Int)) G sz [(o, .inr (5, [.ref r, .int (xi_ slot), .long (xl_ tl)])), (r, .inr (3, [.int (xi_ (100 : Int)), .ref v, .ref ra, .int (xi_ cnt), .int (xi_ tm)])), (v, .inl (G.2.2 1, (100 * 5), .inr (.inl (jl_ vals)))), (ra, .inl (G.2.2 0, 100, .inl (ja_ rat)))] (fun u => rr_ 100 u.1 u.2.1 u.2.2.1 u.2.2.2 (run_ 100 (sk_on slot tl) (g_cyc (gen_ d) T w oo f t c) st)) (fun u => [(o, .inr (5, [.ref r, .int (xi_ slot), .long (xl_ tl)])), (r, .inr (3, [.int (xi_ (100 : Int)), .ref v, .ref ra, .int (xi_ u.1), .int (xi_ u.2.1)])), (v, .inl (G.2.2 1, (100 * 5), .inr (.inl (jl_ u.2.2.1)))), (ra, .inl (G.2.2 0, 100, .inl (ja_ u.2.2.2)))]) (fun _ _ => True)) 0 0 (va_A [(o, .inr (5, [.ref r, .int (xi_ slot), .long (xl_ tl)])), (r, .inr (3, [.int (xi_ (100 : Int)), .ref v, .ref ra, .int (xi_ cnt), .int (xi_ tm)])), (v, .inl (G.2.2 1, (100 * 5), .inr (.inl (jl_ vals)))), (ra, .inl (G.2.2 0, 100, .inl (ja_ rat)))] sz) := by
  refine xw_met (by decide) (Nat.le_of_ble_eq_true rfl) ?_
  intro p0 e0 s m0 args below meth c0 F hr hlk hin hsz hh hX ls hl
  subst hsz
  have hx := F.1
  have hb := F.2.1
  have hl : lv_has ls 20 [(0, .ref o), (1, .ref a), (2, .long (xl_ c)), (4, .long (xl_ w)), (6, .long (xl_ oo)), (8, .long (xl_ f)), (10, .long (xl_ t)), (12, .int (xi_ (40 - (d : Int))))] := hl
  obtain ⟨hSa, ia, room, fch, hSia, hN, hro1, hro2, hkid⟩ := hX
  have hwf := hw.1.1
  have hrg := wf_rng hwf
  have hwr := wok_w hw
  have hor := wok_o hw
  have hd40 := hw.2.2.2.2.2.1
  have hA : ∀ q : Nat, Sd q → q < s.heap.size → ¬ va_A [(o, .inr (5, [.ref r, .int (xi_ slot), .long (xl_ tl)])), (r, .inr (3, [.int (xi_ (100 : Int)), .ref v, .ref ra, .int (xi_ cnt), .int (xi_ tm)])), (v, .inl (G.2.2 1, (100 * 5), .inr (.inl (jl_ vals)))), (ra, .inl (G.2.2 0, 100, .inl (ja_ rat)))] s.heap.size q := not_in4 hSd
  have hdv : tr_n T ∣ w := by
    obtain ⟨q1, -⟩ := wok_div hw (n := tr_n T) (by unfold gn_1; rcases hkd with hk | hk; · rw [if_pos hk]
                                                   · rw [if_neg (by omega), if_neg (by omega), if_pos (Or.inr hk)])
    exact ⟨_, q1⟩
  refine lv_lload hx hb d_Wk_walkSteps_0 (lv_at hl 3 rfl) ?_
  refine lv_aload_n hx hb d_Wk_walkSteps_2 rfl (lv_at hl 1 rfl) ?_
  refine xw_get F (vp_now hA hSa hSia hN hh) (v := .int (xi_ (tr_n T))) fl_Wk_42_1 0 rfl rfl d_Wk_walkSteps_3 ?_
  refine xw_i2l hx hb d_Wk_walkSteps_6 (by omega) ?_
  refine xw_ldiv hx hb d_Wk_walkSteps_7 (by omega) ?_
  refine xw_topl (y := w / tr_n T) (td_ex hdv) ?_
  refine lv_lstore (lv' := [(13, .long (xl_ (w / tr_n T))), (0, .ref o), (1, .ref a), (2, .long (xl_ c)), (4, .long (xl_ w)), (6, .long (xl_ oo)), (8, .long (xl_ f)), (10, .long (xl_ t)), (12, .int (xi_ (40 - (d : Int))))]) hx hb d_Wk_walkSteps_8 hl (by decide) rfl (fun ls hl => ?_)
  refine lv_lload hx hb d_Wk_walkSteps_10 (lv_at hl 5 rfl) ?_
  refine lv_lload hx hb d_Wk_walkSteps_12 (lv_at hl 4 rfl) ?_
  refine lv_lload_n hx hb d_Wk_walkSteps_14 rfl (lv_at hl 3 rfl) ?_
  refine xw_lmul hx hb d_Wk_walkSteps_15 ?_
  refine xw_ladd hx hb d_Wk_walkSteps_16 ?_
  refine lv_lstore (lv' := [(15, .long (xl_ (oo + (w * c)))), (13, .long (xl_ (w / tr_n T))), (0, .ref o), (1, .ref a), (2, .long (xl_ c)), (4, .long (xl_ w)), (6, .long (xl_ oo)), (8, .long (xl_ f)), (10, .long (xl_ t)), (12, .int (xi_ (40 - (d : Int))))]) hx hb d_Wk_walkSteps_17 hl (by decide) rfl (fun ls hl => ?_)
  refine lv_iconst (v := xi_ 0) hx hb d_Wk_walkSteps_19 rfl ?_
  refine lv_istore (lv' := [(17, .int (xi_ 0)), (15, .long (xl_ (oo + (w * c)))), (13, .long (xl_ (w / tr_n T))), (0, .ref o), (1, .ref a), (2, .long (xl_ c)), (4, .long (xl_ w)), (6, .long (xl_ oo)), (8, .long (xl_ f)), (10, .long (xl_ t)), (12, .int (xi_ (40 - (d : Int))))]) hx hb d_Wk_walkSteps_20 hl (by decide) rfl (fun ls hl => ?_)
  refine lp_Wk_walkSteps_On d F ih o r v ra slot tl hst Sd hSd hA a ia room fch T hSa hSia hN ⟨hro1, hro2⟩ hkid c w oo f t hw hft h1 h2 hkd (run_ 100 (sk_on slot tl) (g_cyc (gen_ d) T w oo f t c) st) (fun u ls H locs hp81 hl hh => ?_) ((tr_n T).toNat + 1) 0 cnt tm vals rat st ls s.heap _ (by omega) (by omega) (by omega) hrr (by rw [stp_cyc hkd]; rfl) (lv_sub hl [0, 2, 1, 3, 4, 5, 8, 9, 10] rfl) hh
  exact xw_vret F hr hlk hh u rfl hp81 trivial d_Wk_walkSteps_81
