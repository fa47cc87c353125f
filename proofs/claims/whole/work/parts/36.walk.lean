/-! Walk.walk -/
theorem gen_empty {d : Nat} {T : PT d} {w o f t : Int} (h : t ≤ f) : gen_ d T w o f t = [] := by
  cases d with
  | zero => rfl
  | succ d =>
    rw [gen_s]
    unfold g_step
    rw [if_pos h]
set_option maxHeartbeats 4000000 in
set_option maxRecDepth 100000 in
theorem lp_Wk_walk_Pa {p0 : Program} {l : Launch} {e0 : Env} {s : State} {m0 : MethodId} {args : Array Value} {below : List Frame} {meth : Method} {c0 : Code} {Q : State → Prop} {G : GG_} {A : Nat → Prop} {H0 : Heap} (d : Nat) (F : xw_F p0 s m0 args c0 b_Wk_walk 14 R_Wk G) (ih : cwk_Pa l G d) (o r v ra : Nat)  (Sd : Nat → Prop) (hSd : ∀ q : Nat, Sd q → q ≠ o ∧ q ≠ r ∧ q ≠ v ∧ q ≠ ra) (hA : ∀ q : Nat, Sd q → q < H0.size → ¬ A q) (a ia room : Nat) (fch : Nat → Option Nat) (T : PT (d + 1)) (hSa : Sd a) (hSia : Sd ia) (hN : va_P (gD G) classes [(a, .inr (1, nd_ (tr_kd T) ia ((tr_cs T).length : Int) (tr_k T) (tr_n T) (tr_r T) (b2_ (has_ T)))), (ia, .inl (G.2.2 4, room, .inr (.inr (.inr (.inr fch)))))] H0) (hroom : (tr_cs T).length ≤ room ∧ room ≤ 9) (hkid : ∀ (i : Nat) (x : PT d), (tr_cs T)[i]? = some x → ∃ b, fch i = some b ∧ nt_ G Sd d H0 b x) (w oo f t : Int) (hw : wok_ (d + 1) T w oo f t) (hft : f < t) (h123 : tr_kd T = 123) (TG : List Row_ × Bool)
    (kk : ∀ (u : Int × Int × (Nat → Int) × (Nat → Int)) (ls : Array Slot) (H : Heap) (locs : List Loc), rr_ 200 u.1 u.2.1 u.2.2.1 u.2.2.2 TG → lv_has ls 14 [] → xw_H G A H0 H locs [(o, .inr (4, [.ref r])), (r, .inr (3, [.int (xi_ (200 : Int)), .ref v, .ref ra, .int (xi_ u.1), .int (xi_ u.2.1)])), (v, .inl (G.2.2 1, (200 * 5), .inr (.inl (jl_ u.2.2.1)))), (ra, .inl (G.2.2 0, 200, .inl (ja_ u.2.2.2)))] → W p0 l e0 (rm_Wk_walk (d + 1)) s m0 args below meth c0 H locs 0 0 Q (F0 m0 228 ls [])) :
    ∀ (N : Nat) (i cnt tm : Int) (vals rat : Nat → Int) (st : List Row_ × Bool) (ls : Array Slot) (H : Heap) (locs : List Loc), (tr_n T - i).toNat < N → 0 ≤ i → i ≤ tr_n T → rr_ 200 cnt tm vals rat st → run_ 200 sk_pa (((tr_cs T).drop i.toNat).flatMap (fun y => gen_ d y w oo f t)) st = TG → lv_has ls 14 [(13, .int (xi_ i)), (0, .ref o), (1, .ref a), (2, .long (xl_ w)), (4, .long (xl_ oo)), (6, .long (xl_ f)), (8, .long (xl_ t)), (10, .int (xi_ (41 - ((d + 1 : Nat) : Int))))] → xw_H G A H0 H locs [(o, .inr (4, [.ref r])), (r, .inr (3, [.int (xi_ (200 : Int)), .ref v, .ref ra, .int (xi_ cnt), .int (xi_ tm)])), (v, .inl (G.2.2 1, (200 * 5), .inr (.inl (jl_ vals)))), (ra, .inl (G.2.2 0, 200, .inl (ja_ rat)))] → W p0 l e0 (rm_Wk_walk (d + 1)) s m0 args below meth c0 H locs 0 0 Q (F0 m0 182 ls []) := by
  have hx := F.1
  have hb := F.2.1
  have hwf := hw.1.1
  have hrg := wf_rng hwf
  have hlen : ((tr_cs T).length : Int) = tr_n T := by rcases hwf with q | q | q | q | q | q | q <;> omega
  have hd40 := hw.2.2.2.2.2.1
  have hftb := hw.2.2.2.2.1
  intro N
  induction N with
  | zero => intro i cnt tm vals rat st ls H locs h; omega
  | succ N ihn =>
    intro i cnt tm vals rat st ls H locs hN1 hi0 hi1 hrr hTG hl hh
    have htm := hrr.2.2.1
    have hb2 := b2_01 st.2
    refine lv_iload hx hb d_Wk_walk_182 (lv_at hl 0 rfl) ?_
    refine lv_aload_n hx hb d_Wk_walk_184 rfl (lv_at hl 2 rfl) ?_
    refine xw_get F (vp_now hA hSa hSia hN hh) (v := .int (xi_ (tr_n T))) fl_Wk_42_1 0 rfl rfl d_Wk_walk_185 ?_
    refine xw_icmp_ge hx hb 228 d_Wk_walk_188 (by decide) (by omega) (fun c188 => ?_) (fun c188 => ?_)
    · first
      | (have e81 : st = TG := by
          rw [List.drop_eq_nil_of_le (by omega)] at hTG
          exact hTG
         rw [e81] at hrr)
      | (have e81 : st = TG := by
          rw [← hTG]
          exact (run_full _ hrr.2.1 (b2_ne (by rw [← htm]; exact c198))).symm
         rw [e81] at hrr)
      exact kk (cnt, tm, vals, rat) ls H locs hrr (lv_sub hl [] rfl) hh
    · refine lv_aload_n hx hb d_Wk_walk_191 rfl (lv_at hl 1 rfl) ?_
      refine xw_get F hh.1 (v := .ref r) fl_Wk_12_4 0 rfl rfl d_Wk_walk_192 ?_
      refine xw_get F hh.1 (v := .int (xi_ tm)) fl_Wk_45_3 1 rfl rfl d_Wk_walk_195 ?_
      refine xw_if_ne hx hb 228 d_Wk_walk_198 (by decide) (by omega) (fun c198 => ?_) (fun c198 => ?_)
      · first
        | (have e81 : st = TG := by
            rw [List.drop_eq_nil_of_le (by omega)] at hTG
            exact hTG
           rw [e81] at hrr)
        | (have e81 : st = TG := by
            rw [← hTG]
            exact (run_full _ hrr.2.1 (b2_ne (by rw [← htm]; exact c198))).symm
           rw [e81] at hrr)
        exact kk (cnt, tm, vals, rat) ls H locs hrr (lv_sub hl [] rfl) hh
      · refine lv_aload_n hx hb d_Wk_walk_201 rfl (lv_at hl 1 rfl) ?_
        refine lv_aload_n hx hb d_Wk_walk_202 rfl (lv_at hl 2 rfl) ?_
        refine lv_iload hx hb d_Wk_walk_203 (lv_at hl 0 rfl) ?_
        obtain ⟨y205, hy205⟩ : ∃ y, (tr_cs T)[(i).toNat]? = some y := ⟨_, List.getElem?_eq_getElem (by omega)⟩
        obtain ⟨b205, hb205, hnt205⟩ := hkid _ y205 hy205
        refine xw_cap hh (xw_rVp F (c_N_innerAt l G H.size a ia room fch (tr_kd T) ((tr_cs T).length : Int) (tr_k T) (tr_n T) (tr_r T) (b2_ (has_ T)) (i) (by omega) (by omega)) (vp_now hA hSa hSia hN hh) lk_Wk_30 cd_N_innerAt se_N_innerAt _ (vp_now hA hSa hSia hN hh) 0 rfl rfl rfl rfl ⟨by unfold rm_N_innerAt rm_Wk_walk; (try dsimp only); omega, by unfold rm_N_innerAt rm_Wk_walk; (try dsimp only); omega⟩ rfl hl.1 rfl (Nat.le_of_ble_eq_true rfl) d_Wk_walk_205 ⟨Nat.zero_le _, Nat.zero_le _⟩) (fun z205 u H locs hp205 hz hk hh => ?_)
        refine xw_topr (b := b205) (by rw [hp205, if_pos (by omega)]; exact hb205) ?_
        refine lv_lload_n hx hb d_Wk_walk_208 rfl (lv_at hl 3 rfl) ?_
        refine lv_lload hx hb d_Wk_walk_209 (lv_at hl 4 rfl) ?_
        refine lv_lload hx hb d_Wk_walk_211 (lv_at hl 5 rfl) ?_
        refine lv_lload hx hb d_Wk_walk_213 (lv_at hl 6 rfl) ?_
        refine lv_iload hx hb d_Wk_walk_215 (lv_at hl 7 rfl) ?_
        refine lv_iconst (v := xi_ 1) hx hb d_Wk_walk_217 rfl ?_
        refine xw_iadd hx hb d_Wk_walk_218 ?_
        refine xw_topi (y := 41 - (d : Int)) (by omega) ?_
        refine xw_cv (wc := [(o, .inr (4, [.ref r])), (r, .inr (3, [.int (xi_ (200 : Int)), .ref v, .ref ra, .int (xi_ cnt), .int (xi_ tm)])), (v, .inl (G.2.2 1, (200 * 5), .inr (.inl (jl_ vals)))), (ra, .inl (G.2.2 0, 200, .inl (ja_ rat)))]) (wr := []) hh [0, 1, 2, 3] [] rfl rfl rfl (by decide) (xw_rV F hh [0, 1, 2, 3] rfl rfl (ih H.size o r v ra cnt tm vals rat st  Sd (some b205) (some y205) (w) (oo) f t hSd hrr (fun y hy => by
          cases hy
          exact wok_st hw hy205) (by omega) (by omega)) (nt_now hA hnt205 hh) lk_Wk_38 cd_Wk_walk se_Wk_walk_Pa _ hh.1 0 rfl rfl rfl rfl ⟨by unfold rm_Wk_walk; (try dsimp only); omega, by unfold rm_Wk_walk; (try dsimp only); omega⟩ rfl hl.1 rfl (Nat.le_of_ble_eq_true rfl) d_Wk_walk_219 ⟨Nat.zero_le _, Nat.zero_le _⟩) (fun u H locs hp219 hX hz hk hh => ?_)
        have hh : xw_H G A H0 H locs [(o, .inr (4, [.ref r])), (r, .inr (3, [.int (xi_ (200 : Int)), .ref v, .ref ra, .int (xi_ u.1), .int (xi_ u.2.1)])), (v, .inl (G.2.2 1, (200 * 5), .inr (.inl (jl_ u.2.2.1)))), (ra, .inl (G.2.2 0, 200, .inl (ja_ u.2.2.2)))] := hh
        refine lv_iinc (k := 0) (v := xi_ (i + 1)) (lv' := [(13, .int (xi_ (i + 1))), (0, .ref o), (1, .ref a), (2, .long (xl_ w)), (4, .long (xl_ oo)), (6, .long (xl_ f)), (8, .long (xl_ t)), (10, .int (xi_ (41 - ((d + 1 : Nat) : Int))))]) hx hb d_Wk_walk_222 hl rfl (xi_add _ _).symm (by decide) rfl (fun ls hl => ?_)
        refine lv_goto (tgt := 182) hx hb d_Wk_walk_225 (by decide) ?_
        refine ihn (i + 1) u.1 u.2.1 u.2.2.1 u.2.2.2 (run_ 200 sk_pa (gen_ d y205 w oo f t) st) ls H locs (by omega) (by omega) (by omega) hp219 ?_ (lv_sub hl [0, 1, 2, 3, 4, 5, 6, 7] rfl) hh
        rw [← hTG, drop_cons hy205, run_cons, show (i + 1).toNat = i.toNat + 1 by omega]
set_option maxHeartbeats 4000000 in
set_option maxRecDepth 100000 in
theorem c_Wk_walk_Pa_ref (l : Launch) (G : GG_) (sz : Nat) (o r v ra : Nat) (cnt tm : Int) (vals rat : Nat → Int) (st : List Row_ × Bool)  (d : Nat) (ih : cwk_Pa l G d) (Sd : Nat → Prop) (hSd : ∀ q : Nat, Sd q → q ≠ o ∧ q ≠ r ∧ q ≠ v ∧ q ≠ ra) (a : Nat) (T : PT (d + 1)) (w oo f t : Int) (hw : wok_ (d + 1) T w oo f t) (hb9 : (-30000000000000 ≤ f ∧ f ≤ 30000000000000) ∧ (-30000000000000 ≤ t ∧ t ≤ 30000000000000)) (hrr : rr_ 200 cnt tm vals rat st) : Met l y_Wk_walk (cw_ y_Wk_walk b_Wk_walk 14 none) (rm_Wk_walk (d + 1)) (xw_P G [.ref o, .ref a, .long (xl_ w), .long (xl_ oo), .long (xl_ f), .long (xl_ t), .int (xi_ (41 - ((d + 1 : Nat) : Int)))] sz [(o, .inr (4, [.ref r])), (r, .inr (3, [.int (xi_ (200 : Int)), .ref v, .ref ra, .int (xi_ cnt), .int (xi_ tm)])), (v, .inl (G.2.2 1, (200 * 5), .inr (.inl (jl_ vals)))), (ra, .inl (G.2.2 0, 200, .inl (ja_ rat)))] (fun H => nt_ G Sd (d + 1) H a T)) (xw_Qv (S := Int × Int × (Nat → Int) × (Nat → Int)) G sz [(o, .inr (4, [.ref r])), (r, .inr (3, [.int (xi_ (200 : Int)), .ref v, .ref ra, .int (xi_ cnt), .int (xi_ tm)])), (v, .inl (G.2.2 1, (200 * 5), .inr (.inl (jl_ vals)))), (ra, .inl (G.2.2 0, 200, .inl (ja_ rat)))] (fun u => rr_ 200 u.1 u.2.1 u.2.2.1 u.2.2.2 (run_ 200 sk_pa (gen_ (d + 1) T w oo f t) st)) (fun u => [(o, .inr (4, [.ref r])), (r, .inr (3, [.int (xi_ (200 : Int)), .ref v, .ref ra, .int (xi_ u.1), .int (xi_ u.2.1)])), (v, .inl (G.2.2 1, (200 * 5), .inr (.inl (jl_ u.2.2.1)))), (ra, .inl (G.2.2 0, 200, .inl (ja_ u.2.2.2)))]) (fun _ _ => True)) 0 0 (va_A [(o, .inr (4, [.ref r])), (r, .inr (3, [.int (xi_ (200 : Int)), .ref v, .ref ra, .int (xi_ cnt), .int (xi_ tm)])), (v, .inl (G.2.2 1, (200 * 5), .inr (.inl (jl_ vals)))), (ra, .inl (G.2.2 0, 200, .inl (ja_ rat)))] sz) := by
  refine xw_met (by decide) (Nat.le_of_ble_eq_true rfl) ?_
  intro p0 e0 s m0 args below meth c0 F hr hlk hin hsz hh hX ls hl
  subst hsz
  have hx := F.1
  have hb := F.2.1
  have hl : lv_has ls 14 [(0, .ref o), (1, .ref a), (2, .long (xl_ w)), (4, .long (xl_ oo)), (6, .long (xl_ f)), (8, .long (xl_ t)), (10, .int (xi_ (41 - ((d + 1 : Nat) : Int))))] := hl
  have hX0 := hX
  obtain ⟨hSa, ia, room, fch, hSia, hN, hro1, hro2, hkid⟩ := hX
  have hwf := hw.1.1
  have hrg := wf_rng hwf
  have hwr := wok_w hw
  have hor := wok_o hw
  have hd40 := hw.2.2.2.2.2.1
  have hftb := hw.2.2.2.2.1
  have hA : ∀ q : Nat, Sd q → q < s.heap.size → ¬ va_A [(o, .inr (4, [.ref r])), (r, .inr (3, [.int (xi_ (200 : Int)), .ref v, .ref ra, .int (xi_ cnt), .int (xi_ tm)])), (v, .inl (G.2.2 1, (200 * 5), .inr (.inl (jl_ vals)))), (ra, .inl (G.2.2 0, 200, .inl (ja_ rat)))] s.heap.size q := not_in4 hSd
  refine lv_aload_n hx hb d_Wk_walk_0 rfl (lv_at hl 1 rfl) ?_
  refine lv_ifnull hx hb d_Wk_walk_1 ?_
  refine lv_aload_n hx hb d_Wk_walk_4 rfl (lv_at hl 1 rfl) ?_
  refine xw_cip hh (xw_rVp F (c_N_canSound l G s.heap.size a ia (tr_kd T) ((tr_cs T).length : Int) (tr_k T) (tr_n T) (tr_r T) (has_ T) (by omega)) ((vp_now hA hSa hSia hN hh).sub [0] rfl) lk_Wk_18 cd_N_canSound se_N_canSound _ (vp_now hA hSa hSia hN hh) 0 rfl rfl rfl rfl ⟨by unfold rm_N_canSound rm_Wk_walk; (try dsimp only); omega, by unfold rm_N_canSound rm_Wk_walk; (try dsimp only); omega⟩ rfl hl.1 rfl (Nat.le_of_ble_eq_true rfl) d_Wk_walk_5 ⟨Nat.zero_le _, Nat.zero_le _⟩) (fun z5 u H locs hp5 hz hk hh => ?_)
  rw [← can_s] at hp5
  obtain rfl : z5 = b2_ (can_ (d + 1) T) := hp5
  have hcan := b2_01 (can_ (d + 1) T)
  refine xw_if_eq hx hb 32 d_Wk_walk_8 (by decide) (by omega) (fun c8 => ?_) (fun c8 => ?_)
  · have eev : gen_ (d + 1) T w oo f t = [] := by first | exact gen_silent hw.1 (b2_e0 c8) w oo f t | exact gen_empty c21
    exact xw_vret F hr hlk hh (cnt, tm, vals, rat) rfl (by rw [eev]; exact hrr) trivial d_Wk_walk_32
  · refine lv_lload_n hx hb d_Wk_walk_11 rfl (lv_at hl 2 rfl) ?_
    refine lv_lconst (v := xl_ 0) hx hb d_Wk_walk_12 (by decide) ?_
    refine xw_lcmp_eq hx hb 32 d_Wk_walk_13 d_Wk_walk_14 (by decide) (by omega) (fun c13 => absurd c13 hw.2.1) (fun c13 => ?_)
    refine lv_lload hx hb d_Wk_walk_17 (lv_at hl 4 rfl) ?_
    refine lv_lload hx hb d_Wk_walk_19 (lv_at hl 5 rfl) ?_
    refine xw_lcmp_ge hx hb 32 d_Wk_walk_21 d_Wk_walk_22 (by decide) (by omega) (fun c21 => ?_) (fun c21 => ?_)
    · have eev : gen_ (d + 1) T w oo f t = [] := by first | exact gen_silent hw.1 (b2_e0 c8) w oo f t | exact gen_empty c21
      exact xw_vret F hr hlk hh (cnt, tm, vals, rat) rfl (by rw [eev]; exact hrr) trivial d_Wk_walk_32
    · refine lv_iload hx hb d_Wk_walk_25 (lv_at hl 6 rfl) ?_
      refine lv_bipush (v := xi_ 40) hx hb d_Wk_walk_27 (by decide) ?_
      refine xw_icmp_le hx hb 33 d_Wk_walk_29 (by decide) (by omega) (fun c29 => ?_) (fun c29 => absurd c29 (by omega))
      refine lv_aload_n hx hb d_Wk_walk_33 rfl (lv_at hl 1 rfl) ?_
      refine xw_get F (vp_now hA hSa hSia hN hh) (v := .int (xi_ (tr_kd T))) fl_Wk_26_1 0 rfl rfl d_Wk_walk_34 ?_
      have hct : can_ (d + 1) T = true := b2_ne c8
      have hkk : tr_kd T = 70 ∨ tr_kd T = 76 ∨ tr_kd T = 83 ∨ tr_kd T = 123 ∨ (tr_kd T = 91 ∨ tr_kd T = 69 ∨ tr_kd T = 60 ∨ tr_kd T = 82 ∨ tr_kd T = 86 ∨ (97 ≤ tr_kd T ∧ tr_kd T ≤ 122)) := by
        have h126 : tr_kd T ≠ 126 := fun q => by
          have hcs : (tr_cs T).length = 0 := by rcases hwf with z | z | z | z | z | z | z <;> omega
          have hcs2 := List.eq_nil_of_length_eq_zero hcs
          rw [can_s] at hct
          unfold has_ is_letter at hct
          rw [q, hcs2] at hct
          simp at hct
        rcases hwf with z | z | z | z | z | z | z <;> omega
      rcases hkk with h70 | h76 | h83 | h123 | hkd
      · refine lv_lookup (off := 43) (tgt := 80) hx hb d_Wk_walk_37 (by decide) (by rw [h70]; decide) (by decide) ?_
        refine lv_aload_n hx hb d_Wk_walk_80 rfl (lv_at hl 0 rfl) ?_
        refine lv_aload_n hx hb d_Wk_walk_81 rfl (lv_at hl 1 rfl) ?_
        refine lv_iconst (v := xi_ 0) hx hb d_Wk_walk_82 rfl ?_
        have hl1 : (tr_cs T).length = 1 := by rcases hwf with q | q | q | q | q | q | q <;> omega
        obtain ⟨y83, hy83⟩ : ∃ y, (tr_cs T)[0]? = some y := ⟨_, List.getElem?_eq_getElem (by omega)⟩
        obtain ⟨b83, hb83, hnt83⟩ := hkid _ y83 hy83
        refine xw_cap hh (xw_rVp F (c_N_innerAt l G H.size a ia room fch (tr_kd T) ((tr_cs T).length : Int) (tr_k T) (tr_n T) (tr_r T) (b2_ (has_ T)) (0) (by omega) (by omega)) (vp_now hA hSa hSia hN hh) lk_Wk_30 cd_N_innerAt se_N_innerAt _ (vp_now hA hSa hSia hN hh) 0 rfl rfl rfl rfl ⟨by unfold rm_N_innerAt rm_Wk_walk; (try dsimp only); omega, by unfold rm_N_innerAt rm_Wk_walk; (try dsimp only); omega⟩ rfl hl.1 rfl (Nat.le_of_ble_eq_true rfl) d_Wk_walk_83 ⟨Nat.zero_le _, Nat.zero_le _⟩) (fun z83 u H locs hp83 hz hk hh => ?_)
        refine xw_topr (b := b83) (by rw [hp83, if_pos (by omega)]; exact hb83) ?_
        refine lv_lload_n hx hb d_Wk_walk_86 rfl (lv_at hl 2 rfl) ?_
        refine lv_aload_n hx hb d_Wk_walk_87 rfl (lv_at hl 1 rfl) ?_
        refine xw_get F (vp_now hA hSa hSia hN hh) (v := .int (xi_ (tr_k T))) fl_Wk_34_1 0 rfl rfl d_Wk_walk_88 ?_
        refine xw_i2l hx hb d_Wk_walk_91 (by omega) ?_
        have hk1 : 1 ≤ tr_k T := by rcases hwf with q | q | q | q | q | q | q <;> omega
        refine xw_ldiv hx hb d_Wk_walk_92 (by omega) ?_
        refine xw_topl (y := w / tr_k T) (td_ex (by
          obtain ⟨q1, -⟩ := wok_div hw (n := tr_k T) (by unfold gn_1; rw [if_neg (by omega), if_pos (Or.inl h70)])
          exact ⟨_, q1⟩)) ?_
        refine lv_lload hx hb d_Wk_walk_93 (lv_at hl 3 rfl) ?_
        refine lv_lload hx hb d_Wk_walk_95 (lv_at hl 4 rfl) ?_
        refine lv_lload hx hb d_Wk_walk_97 (lv_at hl 5 rfl) ?_
        refine lv_iload hx hb d_Wk_walk_99 (lv_at hl 6 rfl) ?_
        refine lv_iconst (v := xi_ 1) hx hb d_Wk_walk_101 rfl ?_
        refine xw_iadd hx hb d_Wk_walk_102 ?_
        refine xw_topi (y := 41 - (d : Int)) (by omega) ?_
        refine xw_cv (wc := [(o, .inr (4, [.ref r])), (r, .inr (3, [.int (xi_ (200 : Int)), .ref v, .ref ra, .int (xi_ cnt), .int (xi_ tm)])), (v, .inl (G.2.2 1, (200 * 5), .inr (.inl (jl_ vals)))), (ra, .inl (G.2.2 0, 200, .inl (ja_ rat)))]) (wr := []) hh [0, 1, 2, 3] [] rfl rfl rfl (by decide) (xw_rV F hh [0, 1, 2, 3] rfl rfl (ih H.size o r v ra cnt tm vals rat st  Sd (some b83) (some y83) (w / tr_k T) (oo) f t hSd hrr (fun y hy => by
          cases hy
          exact wok_F hw h70 hy83) (by omega) (by omega)) (nt_now hA hnt83 hh) lk_Wk_38 cd_Wk_walk se_Wk_walk_Pa _ hh.1 0 rfl rfl rfl rfl ⟨by unfold rm_Wk_walk; (try dsimp only); omega, by unfold rm_Wk_walk; (try dsimp only); omega⟩ rfl hl.1 rfl (Nat.le_of_ble_eq_true rfl) d_Wk_walk_103 ⟨Nat.zero_le _, Nat.zero_le _⟩) (fun u H locs hp103 hX hz hk hh => ?_)
        have hh : xw_H G (va_A [(o, .inr (4, [.ref r])), (r, .inr (3, [.int (xi_ (200 : Int)), .ref v, .ref ra, .int (xi_ cnt), .int (xi_ tm)])), (v, .inl (G.2.2 1, (200 * 5), .inr (.inl (jl_ vals)))), (ra, .inl (G.2.2 0, 200, .inl (ja_ rat)))] s.heap.size) s.heap H locs [(o, .inr (4, [.ref r])), (r, .inr (3, [.int (xi_ (200 : Int)), .ref v, .ref ra, .int (xi_ u.1), .int (xi_ u.2.1)])), (v, .inl (G.2.2 1, (200 * 5), .inr (.inl (jl_ u.2.2.1)))), (ra, .inl (G.2.2 0, 200, .inl (ja_ u.2.2.2)))] := hh
        refine lv_goto (tgt := 245) hx hb d_Wk_walk_106 (by decide) ?_
        have eev : gen_ (d + 1) T w oo f t = gen_ d y83 (w / tr_k T) oo f t := by
          rw [gen_s]
          unfold g_step
          rw [if_neg (by omega), if_neg (by omega), if_pos h70, hy83]
          rfl
        exact xw_vret F hr hlk hh u rfl (by rw [eev]; exact hp103) trivial d_Wk_walk_245
      · refine lv_lookup (off := 101) (tgt := 138) hx hb d_Wk_walk_37 (by decide) (by rw [h76]; decide) (by decide) ?_
        refine lv_lload hx hb d_Wk_walk_138 (lv_at hl 3 rfl) ?_
        refine lv_lload_n hx hb d_Wk_walk_140 rfl (lv_at hl 2 rfl) ?_
        refine lv_aload_n hx hb d_Wk_walk_141 rfl (lv_at hl 1 rfl) ?_
        refine xw_get F (vp_now hA hSa hSia hN hh) (v := .int (xi_ (tr_n T))) fl_Wk_42_1 0 rfl rfl d_Wk_walk_142 ?_
        refine xw_i2l hx hb d_Wk_walk_145 (by omega) ?_
        refine xw_ldiv hx hb d_Wk_walk_146 (by omega) ?_
        refine xw_topl (y := w / tr_n T) (td_ex (by
          obtain ⟨q1, -⟩ := wok_div hw (n := tr_n T) (by unfold gn_1; rw [if_neg (by omega), if_neg (by omega), if_pos (Or.inl h76)])
          exact ⟨_, q1⟩)) ?_
        refine lv_aload_n hx hb d_Wk_walk_147 rfl (lv_at hl 1 rfl) ?_
        refine xw_get F (vp_now hA hSa hSia hN hh) (v := .int (xi_ (tr_k T))) fl_Wk_34_1 0 rfl rfl d_Wk_walk_148 ?_
        refine xw_i2l hx hb d_Wk_walk_151 (by omega) ?_
        refine xw_lmul hx hb d_Wk_walk_152 ?_
        refine xw_ladd hx hb d_Wk_walk_153 ?_
        refine lv_lstore (lv' := [(11, .long (xl_ (oo + ((w / tr_n T) * (tr_k T))))), (0, .ref o), (1, .ref a), (2, .long (xl_ w)), (4, .long (xl_ oo)), (6, .long (xl_ f)), (8, .long (xl_ t)), (10, .int (xi_ (41 - ((d + 1 : Nat) : Int))))]) hx hb d_Wk_walk_154 hl (by decide) rfl (fun ls hl => ?_)
        refine lv_aload_n hx hb d_Wk_walk_156 rfl (lv_at hl 1 rfl) ?_
        refine lv_aload_n hx hb d_Wk_walk_157 rfl (lv_at hl 2 rfl) ?_
        refine lv_iconst (v := xi_ 0) hx hb d_Wk_walk_158 rfl ?_
        have hl1 : (tr_cs T).length = 1 := by rcases hwf with q | q | q | q | q | q | q <;> omega
        obtain ⟨y159, hy159⟩ : ∃ y, (tr_cs T)[0]? = some y := ⟨_, List.getElem?_eq_getElem (by omega)⟩
        obtain ⟨b159, hb159, hnt159⟩ := hkid _ y159 hy159
        refine xw_cap hh (xw_rVp F (c_N_innerAt l G H.size a ia room fch (tr_kd T) ((tr_cs T).length : Int) (tr_k T) (tr_n T) (tr_r T) (b2_ (has_ T)) (0) (by omega) (by omega)) (vp_now hA hSa hSia hN hh) lk_Wk_30 cd_N_innerAt se_N_innerAt _ (vp_now hA hSa hSia hN hh) 0 rfl rfl rfl rfl ⟨by unfold rm_N_innerAt rm_Wk_walk; (try dsimp only); omega, by unfold rm_N_innerAt rm_Wk_walk; (try dsimp only); omega⟩ rfl hl.1 rfl (Nat.le_of_ble_eq_true rfl) d_Wk_walk_159 ⟨Nat.zero_le _, Nat.zero_le _⟩) (fun z159 u H locs hp159 hz hk hh => ?_)
        refine xw_topr (b := b159) (by rw [hp159, if_pos (by omega)]; exact hb159) ?_
        refine lv_lload_n hx hb d_Wk_walk_162 rfl (lv_at hl 3 rfl) ?_
        refine lv_lload hx hb d_Wk_walk_163 (lv_at hl 0 rfl) ?_
        refine lv_lload hx hb d_Wk_walk_165 (lv_at hl 5 rfl) ?_
        refine lv_lload hx hb d_Wk_walk_167 (lv_at hl 6 rfl) ?_
        refine lv_iload hx hb d_Wk_walk_169 (lv_at hl 7 rfl) ?_
        refine lv_iconst (v := xi_ 1) hx hb d_Wk_walk_171 rfl ?_
        refine xw_iadd hx hb d_Wk_walk_172 ?_
        refine xw_topi (y := 41 - (d : Int)) (by omega) ?_
        refine xw_cv (wc := [(o, .inr (4, [.ref r])), (r, .inr (3, [.int (xi_ (200 : Int)), .ref v, .ref ra, .int (xi_ cnt), .int (xi_ tm)])), (v, .inl (G.2.2 1, (200 * 5), .inr (.inl (jl_ vals)))), (ra, .inl (G.2.2 0, 200, .inl (ja_ rat)))]) (wr := []) hh [0, 1, 2, 3] [] rfl rfl rfl (by decide) (xw_rV F hh [0, 1, 2, 3] rfl rfl (ih H.size o r v ra cnt tm vals rat st  Sd (some b159) (some y159) (w) (oo + w / tr_n T * tr_k T) f t hSd hrr (fun y hy => by
          cases hy
          exact wok_L hw h76 hy159) (by omega) (by omega)) (nt_now hA hnt159 hh) lk_Wk_38 cd_Wk_walk se_Wk_walk_Pa _ hh.1 0 rfl rfl rfl rfl ⟨by unfold rm_Wk_walk; (try dsimp only); omega, by unfold rm_Wk_walk; (try dsimp only); omega⟩ rfl hl.1 rfl (Nat.le_of_ble_eq_true rfl) d_Wk_walk_173 ⟨Nat.zero_le _, Nat.zero_le _⟩) (fun u H locs hp173 hX hz hk hh => ?_)
        have hh : xw_H G (va_A [(o, .inr (4, [.ref r])), (r, .inr (3, [.int (xi_ (200 : Int)), .ref v, .ref ra, .int (xi_ cnt), .int (xi_ tm)])), (v, .inl (G.2.2 1, (200 * 5), .inr (.inl (jl_ vals)))), (ra, .inl (G.2.2 0, 200, .inl (ja_ rat)))] s.heap.size) s.heap H locs [(o, .inr (4, [.ref r])), (r, .inr (3, [.int (xi_ (200 : Int)), .ref v, .ref ra, .int (xi_ u.1), .int (xi_ u.2.1)])), (v, .inl (G.2.2 1, (200 * 5), .inr (.inl (jl_ u.2.2.1)))), (ra, .inl (G.2.2 0, 200, .inl (ja_ u.2.2.2)))] := hh
        refine lv_goto (tgt := 245) hx hb d_Wk_walk_176 (by decide) ?_
        have eev : gen_ (d + 1) T w oo f t = gen_ d y159 w (oo + w / tr_n T * tr_k T) f t := by
          rw [gen_s]
          unfold g_step
          rw [if_neg (by omega), if_neg (by omega), if_neg (by omega), if_neg (by omega), if_pos h76, hy159]
          rfl
        exact xw_vret F hr hlk hh u rfl (by rw [eev]; exact hp173) trivial d_Wk_walk_245
      · refine lv_lookup (off := 72) (tgt := 109) hx hb d_Wk_walk_37 (by decide) (by rw [h83]; decide) (by decide) ?_
        refine lv_aload_n hx hb d_Wk_walk_109 rfl (lv_at hl 0 rfl) ?_
        refine lv_aload_n hx hb d_Wk_walk_110 rfl (lv_at hl 1 rfl) ?_
        refine lv_iconst (v := xi_ 0) hx hb d_Wk_walk_111 rfl ?_
        have hl1 : (tr_cs T).length = 1 := by rcases hwf with q | q | q | q | q | q | q <;> omega
        obtain ⟨y112, hy112⟩ : ∃ y, (tr_cs T)[0]? = some y := ⟨_, List.getElem?_eq_getElem (by omega)⟩
        obtain ⟨b112, hb112, hnt112⟩ := hkid _ y112 hy112
        refine xw_cap hh (xw_rVp F (c_N_innerAt l G H.size a ia room fch (tr_kd T) ((tr_cs T).length : Int) (tr_k T) (tr_n T) (tr_r T) (b2_ (has_ T)) (0) (by omega) (by omega)) (vp_now hA hSa hSia hN hh) lk_Wk_30 cd_N_innerAt se_N_innerAt _ (vp_now hA hSa hSia hN hh) 0 rfl rfl rfl rfl ⟨by unfold rm_N_innerAt rm_Wk_walk; (try dsimp only); omega, by unfold rm_N_innerAt rm_Wk_walk; (try dsimp only); omega⟩ rfl hl.1 rfl (Nat.le_of_ble_eq_true rfl) d_Wk_walk_112 ⟨Nat.zero_le _, Nat.zero_le _⟩) (fun z112 u H locs hp112 hz hk hh => ?_)
        refine xw_topr (b := b112) (by rw [hp112, if_pos (by omega)]; exact hb112) ?_
        refine lv_lload_n hx hb d_Wk_walk_115 rfl (lv_at hl 2 rfl) ?_
        refine lv_aload_n hx hb d_Wk_walk_116 rfl (lv_at hl 1 rfl) ?_
        refine xw_get F (vp_now hA hSa hSia hN hh) (v := .int (xi_ (tr_k T))) fl_Wk_34_1 0 rfl rfl d_Wk_walk_117 ?_
        refine xw_i2l hx hb d_Wk_walk_120 (by omega) ?_
        refine xw_lmul hx hb d_Wk_walk_121 ?_
        refine lv_lload hx hb d_Wk_walk_122 (lv_at hl 3 rfl) ?_
        refine lv_lload hx hb d_Wk_walk_124 (lv_at hl 4 rfl) ?_
        refine lv_lload hx hb d_Wk_walk_126 (lv_at hl 5 rfl) ?_
        refine lv_iload hx hb d_Wk_walk_128 (lv_at hl 6 rfl) ?_
        refine lv_iconst (v := xi_ 1) hx hb d_Wk_walk_130 rfl ?_
        refine xw_iadd hx hb d_Wk_walk_131 ?_
        refine xw_topi (y := 41 - (d : Int)) (by omega) ?_
        refine xw_cv (wc := [(o, .inr (4, [.ref r])), (r, .inr (3, [.int (xi_ (200 : Int)), .ref v, .ref ra, .int (xi_ cnt), .int (xi_ tm)])), (v, .inl (G.2.2 1, (200 * 5), .inr (.inl (jl_ vals)))), (ra, .inl (G.2.2 0, 200, .inl (ja_ rat)))]) (wr := []) hh [0, 1, 2, 3] [] rfl rfl rfl (by decide) (xw_rV F hh [0, 1, 2, 3] rfl rfl (ih H.size o r v ra cnt tm vals rat st  Sd (some b112) (some y112) (w * tr_k T) (oo) f t hSd hrr (fun y hy => by
          cases hy
          exact wok_S hw h83 hy112) (by omega) (by omega)) (nt_now hA hnt112 hh) lk_Wk_38 cd_Wk_walk se_Wk_walk_Pa _ hh.1 0 rfl rfl rfl rfl ⟨by unfold rm_Wk_walk; (try dsimp only); omega, by unfold rm_Wk_walk; (try dsimp only); omega⟩ rfl hl.1 rfl (Nat.le_of_ble_eq_true rfl) d_Wk_walk_132 ⟨Nat.zero_le _, Nat.zero_le _⟩) (fun u H locs hp132 hX hz hk hh => ?_)
        have hh : xw_H G (va_A [(o, .inr (4, [.ref r])), (r, .inr (3, [.int (xi_ (200 : Int)), .ref v, .ref ra, .int (xi_ cnt), .int (xi_ tm)])), (v, .inl (G.2.2 1, (200 * 5), .inr (.inl (jl_ vals)))), (ra, .inl (G.2.2 0, 200, .inl (ja_ rat)))] s.heap.size) s.heap H locs [(o, .inr (4, [.ref r])), (r, .inr (3, [.int (xi_ (200 : Int)), .ref v, .ref ra, .int (xi_ u.1), .int (xi_ u.2.1)])), (v, .inl (G.2.2 1, (200 * 5), .inr (.inl (jl_ u.2.2.1)))), (ra, .inl (G.2.2 0, 200, .inl (ja_ u.2.2.2)))] := hh
        refine lv_goto (tgt := 245) hx hb d_Wk_walk_135 (by decide) ?_
        have eev : gen_ (d + 1) T w oo f t = gen_ d y112 (w * tr_k T) oo f t := by
          rw [gen_s]
          unfold g_step
          rw [if_neg (by omega), if_neg (by omega), if_neg (by omega), if_pos h83, hy112]
          rfl
        exact xw_vret F hr hlk hh u rfl (by rw [eev]; exact hp132) trivial d_Wk_walk_245
      · refine lv_lookup (off := 142) (tgt := 179) hx hb d_Wk_walk_37 (by decide) (by rw [h123]; decide) (by decide) ?_
        refine lv_iconst (v := xi_ 0) hx hb d_Wk_walk_179 rfl ?_
        refine lv_istore (lv' := [(13, .int (xi_ 0)), (0, .ref o), (1, .ref a), (2, .long (xl_ w)), (4, .long (xl_ oo)), (6, .long (xl_ f)), (8, .long (xl_ t)), (10, .int (xi_ (41 - ((d + 1 : Nat) : Int))))]) hx hb d_Wk_walk_180 hl (by decide) rfl (fun ls hl => ?_)
        have hlen : ((tr_cs T).length : Int) = tr_n T := by rcases hwf with q | q | q | q | q | q | q <;> omega
        refine lp_Wk_walk_Pa d F ih o r v ra  Sd hSd hA a ia room fch T hSa hSia hN ⟨hro1, hro2⟩ hkid w oo f t hw c21 h123 (run_ 200 sk_pa ((tr_cs T).flatMap (fun y => gen_ d y w oo f t)) st) (fun u ls H locs hp81 hl hh => ?_) ((tr_n T).toNat + 1) 0 cnt tm vals rat st ls H _ (by omega) (by omega) (by omega) hrr rfl (lv_sub hl [0, 1, 2, 3, 4, 5, 6, 7] rfl) hh
        refine lv_goto (tgt := 245) hx hb d_Wk_walk_228 (by decide) ?_
        have eev : gen_ (d + 1) T w oo f t = (tr_cs T).flatMap (fun y => gen_ d y w oo f t) := by
          rw [gen_s]
          unfold g_step
          rw [if_neg (by omega), if_neg (by omega), if_neg (by omega), if_neg (by omega), if_neg (by omega), if_pos h123]
        exact xw_vret F hr hlk hh u rfl (by rw [eev]; exact hp81) trivial d_Wk_walk_245
      · refine lv_lookup (off := 194) (tgt := 231) hx hb d_Wk_walk_37 (by decide) (by
          rw [xi_toInt (by omega)]
          show Op.lookupswitch.offset [(70, 43), (76, 101), (83, 72), (123, 142)] _ _ = _
          rw [Op.lookupswitch.offset_cons, if_neg (by omega), Op.lookupswitch.offset_cons, if_neg (by omega), Op.lookupswitch.offset_cons, if_neg (by omega), Op.lookupswitch.offset_cons, if_neg (by omega)]
          rfl) (by decide) ?_
        refine lv_aload_n hx hb d_Wk_walk_231 rfl (lv_at hl 0 rfl) ?_
        refine lv_aload_n hx hb d_Wk_walk_232 rfl (lv_at hl 1 rfl) ?_
        refine lv_lload_n hx hb d_Wk_walk_233 rfl (lv_at hl 2 rfl) ?_
        refine lv_lload hx hb d_Wk_walk_234 (lv_at hl 3 rfl) ?_
        refine lv_lload hx hb d_Wk_walk_236 (lv_at hl 4 rfl) ?_
        refine lv_lload hx hb d_Wk_walk_238 (lv_at hl 5 rfl) ?_
        refine lv_iload hx hb d_Wk_walk_240 (lv_at hl 6 rfl) ?_
        refine xw_topi (y := 40 - (d : Int)) (by omega) ?_
        refine xw_cv (wc := [(o, .inr (4, [.ref r])), (r, .inr (3, [.int (xi_ (200 : Int)), .ref v, .ref ra, .int (xi_ cnt), .int (xi_ tm)])), (v, .inl (G.2.2 1, (200 * 5), .inr (.inl (jl_ vals)))), (ra, .inl (G.2.2 0, 200, .inl (ja_ rat)))]) (wr := []) hh [0, 1, 2, 3] [] rfl rfl rfl (by decide) (xw_rV F hh [0, 1, 2, 3] rfl rfl (c_Wk_walkCycles_Pa l G H.size o r v ra cnt tm vals rat st  d ih Sd hSd a T w oo f t hw c21 hkd hrr) (nt_now hA hX0 hh) lk_Wk_49 cd_Wk_walkCycles se_Wk_walkCycles_Pa _ hh.1 0 rfl rfl rfl rfl ⟨by unfold rm_Wk_walkCycles rm_Wk_walk; (try dsimp only); omega, by unfold rm_Wk_walkCycles rm_Wk_walk; (try dsimp only); omega⟩ rfl hl.1 rfl (Nat.le_of_ble_eq_true rfl) d_Wk_walk_242 ⟨Nat.zero_le _, Nat.zero_le _⟩) (fun u H locs hp242 hX hz hk hh => ?_)
        have hh : xw_H G (va_A [(o, .inr (4, [.ref r])), (r, .inr (3, [.int (xi_ (200 : Int)), .ref v, .ref ra, .int (xi_ cnt), .int (xi_ tm)])), (v, .inl (G.2.2 1, (200 * 5), .inr (.inl (jl_ vals)))), (ra, .inl (G.2.2 0, 200, .inl (ja_ rat)))] s.heap.size) s.heap H locs [(o, .inr (4, [.ref r])), (r, .inr (3, [.int (xi_ (200 : Int)), .ref v, .ref ra, .int (xi_ u.1), .int (xi_ u.2.1)])), (v, .inl (G.2.2 1, (200 * 5), .inr (.inl (jl_ u.2.2.1)))), (ra, .inl (G.2.2 0, 200, .inl (ja_ u.2.2.2)))] := hh
        have eev : gen_ (d + 1) T w oo f t = (cy_range (cy_first w oo f t) (cy_last w oo f t)).flatMap (g_cyc (gen_ d) T w oo f t) := by
          rw [gen_s]
          unfold g_step
          rw [if_neg (by omega), if_neg (by omega), if_neg (by omega), if_neg (by omega), if_neg (by omega), if_neg (by omega)]
        exact xw_vret F hr hlk hh u rfl (by rw [eev]; exact hp242) trivial d_Wk_walk_245
set_option maxHeartbeats 4000000 in
set_option maxRecDepth 100000 in
theorem c_Wk_walk_Pa_null (l : Launch) (G : GG_) (sz : Nat) (o r v ra : Nat) (cnt tm : Int) (vals rat : Nat → Int) (st : List Row_ × Bool)  (d : Nat) (w oo f t : Int) (hrr : rr_ 200 cnt tm vals rat st) : Met l y_Wk_walk (cw_ y_Wk_walk b_Wk_walk 14 none) (rm_Wk_walk d) (xw_P G [.ref o, .null, .long (xl_ w), .long (xl_ oo), .long (xl_ f), .long (xl_ t), .int (xi_ (41 - (d : Int)))] sz [(o, .inr (4, [.ref r])), (r, .inr (3, [.int (xi_ (200 : Int)), .ref v, .ref ra, .int (xi_ cnt), .int (xi_ tm)])), (v, .inl (G.2.2 1, (200 * 5), .inr (.inl (jl_ vals)))), (ra, .inl (G.2.2 0, 200, .inl (ja_ rat)))] (fun _ => True)) (xw_Qv (S := Int × Int × (Nat → Int) × (Nat → Int)) G sz [(o, .inr (4, [.ref r])), (r, .inr (3, [.int (xi_ (200 : Int)), .ref v, .ref ra, .int (xi_ cnt), .int (xi_ tm)])), (v, .inl (G.2.2 1, (200 * 5), .inr (.inl (jl_ vals)))), (ra, .inl (G.2.2 0, 200, .inl (ja_ rat)))] (fun u => rr_ 200 u.1 u.2.1 u.2.2.1 u.2.2.2 (run_ 200 sk_pa ([]) st)) (fun u => [(o, .inr (4, [.ref r])), (r, .inr (3, [.int (xi_ (200 : Int)), .ref v, .ref ra, .int (xi_ u.1), .int (xi_ u.2.1)])), (v, .inl (G.2.2 1, (200 * 5), .inr (.inl (jl_ u.2.2.1)))), (ra, .inl (G.2.2 0, 200, .inl (ja_ u.2.2.2)))]) (fun _ _ => True)) 0 0 (va_A [(o, .inr (4, [.ref r])), (r, .inr (3, [.int (xi_ (200 : Int)), .ref v, .ref ra, .int (xi_ cnt), .int (xi_ tm)])), (v, .inl (G.2.2 1, (200 * 5), .inr (.inl (jl_ vals)))), (ra, .inl (G.2.2 0, 200, .inl (ja_ rat)))] sz) := by
  refine xw_met (by decide) (Nat.le_of_ble_eq_true rfl) ?_
  intro p0 e0 s m0 args below meth c0 F hr hlk hin hsz hh hX ls hl
  subst hsz
  have hx := F.1
  have hb := F.2.1
  have hl : lv_has ls 14 [(0, .ref o), (1, .null), (2, .long (xl_ w)), (4, .long (xl_ oo)), (6, .long (xl_ f)), (8, .long (xl_ t)), (10, .int (xi_ (41 - (d : Int))))] := hl
  refine lv_aload_nN hx hb d_Wk_walk_0 rfl (lv_at hl 1 rfl) ?_
  refine lv_ifnullN (tgt := 32) hx hb d_Wk_walk_1 (by decide) ?_
  exact xw_vret F hr hlk hh (cnt, tm, vals, rat) rfl hrr trivial d_Wk_walk_32
/-- walk, at every depth -/
theorem walk_all_Pa (l : Launch) (G : GG_) : ∀ d : Nat, cwk_Pa l G d := by
  intro d
  induction d with
  | zero =>
    intro sz o r v ra cnt tm vals rat st  Sd na xo w oo f t hSd hrr hw hb9 hd40
    match na, xo, hw with
    | none, none, _ => exact c_Wk_walk_Pa_null l G sz o r v ra cnt tm vals rat st  0 w oo f t hrr
    | some a, some T, hw => exact ((hw T rfl).1).elim
    | none, some T, hw => exact ((hw T rfl).1).elim
    | some a, none, _ => exact xw_met (by decide) (Nat.le_of_ble_eq_true rfl) (fun _ _ _ _ _ _ _ _ _ _ _ _ _ _ hX _ _ => hX.elim)
  | succ d ih =>
    intro sz o r v ra cnt tm vals rat st  Sd na xo w oo f t hSd hrr hw hb9 hd40
    match na, xo, hw with
    | none, none, _ => exact c_Wk_walk_Pa_null l G sz o r v ra cnt tm vals rat st  (d + 1) w oo f t hrr
    | some a, some T, hw => exact c_Wk_walk_Pa_ref l G sz o r v ra cnt tm vals rat st  d ih Sd hSd a T w oo f t (hw T rfl) hb9 hrr
    | none, some T, _ => exact xw_met (by decide) (Nat.le_of_ble_eq_true rfl) (fun _ _ _ _ _ _ _ _ _ _ _ _ _ _ hX _ _ => hX.elim)
    | some a, none, _ => exact xw_met (by decide) (Nat.le_of_ble_eq_true rfl) (fun _ _ _ _ _ _ _ _ _ _ _ _ _ _ hX _ _ => hX.elim)
set_option maxHeartbeats 4000000 in
set_option maxRecDepth 100000 in
theorem lp_Wk_walk_On {p0 : Program} {l : Launch} {e0 : Env} {s : State} {m0 : MethodId} {args : Array Value} {below : List Frame} {meth : Method} {c0 : Code} {Q : State → Prop} {G : GG_} {A : Nat → Prop} {H0 : Heap} (d : Nat) (F : xw_F p0 s m0 args c0 b_Wk_walk 14 R_Wk G) (ih : cwk_On l G d) (o r v ra : Nat) (slot tl : Int) (hst : 0 ≤ slot ∧ slot ≤ 7 ∧ 0 < tl ∧ tl ≤ 1099511627776) (Sd : Nat → Prop) (hSd : ∀ q : Nat, Sd q → q ≠ o ∧ q ≠ r ∧ q ≠ v ∧ q ≠ ra) (hA : ∀ q : Nat, Sd q → q < H0.size → ¬ A q) (a ia room : Nat) (fch : Nat → Option Nat) (T : PT (d + 1)) (hSa : Sd a) (hSia : Sd ia) (hN : va_P (gD G) classes [(a, .inr (1, nd_ (tr_kd T) ia ((tr_cs T).length : Int) (tr_k T) (tr_n T) (tr_r T) (b2_ (has_ T)))), (ia, .inl (G.2.2 4, room, .inr (.inr (.inr (.inr fch)))))] H0) (hroom : (tr_cs T).length ≤ room ∧ room ≤ 9) (hkid : ∀ (i : Nat) (x : PT d), (tr_cs T)[i]? = some x → ∃ b, fch i = some b ∧ nt_ G Sd d H0 b x) (w oo f t : Int) (hw : wok_ (d + 1) T w oo f t) (hft : f < t) (h123 : tr_kd T = 123) (TG : List Row_ × Bool)
    (kk : ∀ (u : Int × Int × (Nat → Int) × (Nat → Int)) (ls : Array Slot) (H : Heap) (locs : List Loc), rr_ 100 u.1 u.2.1 u.2.2.1 u.2.2.2 TG → lv_has ls 14 [] → xw_H G A H0 H locs [(o, .inr (5, [.ref r, .int (xi_ slot), .long (xl_ tl)])), (r, .inr (3, [.int (xi_ (100 : Int)), .ref v, .ref ra, .int (xi_ u.1), .int (xi_ u.2.1)])), (v, .inl (G.2.2 1, (100 * 5), .inr (.inl (jl_ u.2.2.1)))), (ra, .inl (G.2.2 0, 100, .inl (ja_ u.2.2.2)))] → W p0 l e0 (rm_Wk_walk (d + 1)) s m0 args below meth c0 H locs 0 0 Q (F0 m0 228 ls [])) :
    ∀ (N : Nat) (i cnt tm : Int) (vals rat : Nat → Int) (st : List Row_ × Bool) (ls : Array Slot) (H : Heap) (locs : List Loc), (tr_n T - i).toNat < N → 0 ≤ i → i ≤ tr_n T → rr_ 100 cnt tm vals rat st → run_ 100 (sk_on slot tl) (((tr_cs T).drop i.toNat).flatMap (fun y => gen_ d y w oo f t)) st = TG → lv_has ls 14 [(13, .int (xi_ i)), (0, .ref o), (1, .ref a), (2, .long (xl_ w)), (4, .long (xl_ oo)), (6, .long (xl_ f)), (8, .long (xl_ t)), (10, .int (xi_ (41 - ((d + 1 : Nat) : Int))))] → xw_H G A H0 H locs [(o, .inr (5, [.ref r, .int (xi_ slot), .long (xl_ tl)])), (r, .inr (3, [.int (xi_ (100 : Int)), .ref v, .ref ra, .int (xi_ cnt), .int (xi_ tm)])), (v, .inl (G.2.2 1, (100 * 5), .inr (.inl (jl_ vals)))), (ra, .inl (G.2.2 0, 100, .inl (ja_ rat)))] → W p0 l e0 (rm_Wk_walk (d + 1)) s m0 args below meth c0 H locs 0 0 Q (F0 m0 182 ls []) := by
  have hx := F.1
  have hb := F.2.1
  have hwf := hw.1.1
  have hrg := wf_rng hwf
  have hlen : ((tr_cs T).length : Int) = tr_n T := by rcases hwf with q | q | q | q | q | q | q <;> omega
  have hd40 := hw.2.2.2.2.2.1
  have hftb := hw.2.2.2.2.1
  intro N
  induction N with
  | zero => intro i cnt tm vals rat st ls H locs h; omega
  | succ N ihn =>
    intro i cnt tm vals rat st ls H locs hN1 hi0 hi1 hrr hTG hl hh
    have htm := hrr.2.2.1
    have hb2 := b2_01 st.2
    refine lv_iload hx hb d_Wk_walk_182 (lv_at hl 0 rfl) ?_
    refine lv_aload_n hx hb d_Wk_walk_184 rfl (lv_at hl 2 rfl) ?_
    refine xw_get F (vp_now hA hSa hSia hN hh) (v := .int (xi_ (tr_n T))) fl_Wk_42_1 0 rfl rfl d_Wk_walk_185 ?_
    refine xw_icmp_ge hx hb 228 d_Wk_walk_188 (by decide) (by omega) (fun c188 => ?_) (fun c188 => ?_)
    · first
      | (have e81 : st = TG := by
          rw [List.drop_eq_nil_of_le (by omega)] at hTG
          exact hTG
         rw [e81] at hrr)
      | (have e81 : st = TG := by
          rw [← hTG]
          exact (run_full _ hrr.2.1 (b2_ne (by rw [← htm]; exact c198))).symm
         rw [e81] at hrr)
      exact kk (cnt, tm, vals, rat) ls H locs hrr (lv_sub hl [] rfl) hh
    · refine lv_aload_n hx hb d_Wk_walk_191 rfl (lv_at hl 1 rfl) ?_
      refine xw_get F hh.1 (v := .ref r) fl_Wk_12_5 0 rfl rfl d_Wk_walk_192 ?_
      refine xw_get F hh.1 (v := .int (xi_ tm)) fl_Wk_45_3 1 rfl rfl d_Wk_walk_195 ?_
      refine xw_if_ne hx hb 228 d_Wk_walk_198 (by decide) (by omega) (fun c198 => ?_) (fun c198 => ?_)
      · first
        | (have e81 : st = TG := by
            rw [List.drop_eq_nil_of_le (by omega)] at hTG
            exact hTG
           rw [e81] at hrr)
        | (have e81 : st = TG := by
            rw [← hTG]
            exact (run_full _ hrr.2.1 (b2_ne (by rw [← htm]; exact c198))).symm
           rw [e81] at hrr)
        exact kk (cnt, tm, vals, rat) ls H locs hrr (lv_sub hl [] rfl) hh
      · refine lv_aload_n hx hb d_Wk_walk_201 rfl (lv_at hl 1 rfl) ?_
        refine lv_aload_n hx hb d_Wk_walk_202 rfl (lv_at hl 2 rfl) ?_
        refine lv_iload hx hb d_Wk_walk_203 (lv_at hl 0 rfl) ?_
        obtain ⟨y205, hy205⟩ : ∃ y, (tr_cs T)[(i).toNat]? = some y := ⟨_, List.getElem?_eq_getElem (by omega)⟩
        obtain ⟨b205, hb205, hnt205⟩ := hkid _ y205 hy205
        refine xw_cap hh (xw_rVp F (c_N_innerAt l G H.size a ia room fch (tr_kd T) ((tr_cs T).length : Int) (tr_k T) (tr_n T) (tr_r T) (b2_ (has_ T)) (i) (by omega) (by omega)) (vp_now hA hSa hSia hN hh) lk_Wk_30 cd_N_innerAt se_N_innerAt _ (vp_now hA hSa hSia hN hh) 0 rfl rfl rfl rfl ⟨by unfold rm_N_innerAt rm_Wk_walk; (try dsimp only); omega, by unfold rm_N_innerAt rm_Wk_walk; (try dsimp only); omega⟩ rfl hl.1 rfl (Nat.le_of_ble_eq_true rfl) d_Wk_walk_205 ⟨Nat.zero_le _, Nat.zero_le _⟩) (fun z205 u H locs hp205 hz hk hh => ?_)
        refine xw_topr (b := b205) (by rw [hp205, if_pos (by omega)]; exact hb205) ?_
        refine lv_lload_n hx hb d_Wk_walk_208 rfl (lv_at hl 3 rfl) ?_
        refine lv_lload hx hb d_Wk_walk_209 (lv_at hl 4 rfl) ?_
        refine lv_lload hx hb d_Wk_walk_211 (lv_at hl 5 rfl) ?_
        refine lv_lload hx hb d_Wk_walk_213 (lv_at hl 6 rfl) ?_
        refine lv_iload hx hb d_Wk_walk_215 (lv_at hl 7 rfl) ?_
        refine lv_iconst (v := xi_ 1) hx hb d_Wk_walk_217 rfl ?_
        refine xw_iadd hx hb d_Wk_walk_218 ?_
        refine xw_topi (y := 41 - (d : Int)) (by omega) ?_
        refine xw_cv (wc := [(o, .inr (5, [.ref r, .int (xi_ slot), .long (xl_ tl)])), (r, .inr (3, [.int (xi_ (100 : Int)), .ref v, .ref ra, .int (xi_ cnt), .int (xi_ tm)])), (v, .inl (G.2.2 1, (100 * 5), .inr (.inl (jl_ vals)))), (ra, .inl (G.2.2 0, 100, .inl (ja_ rat)))]) (wr := []) hh [0, 1, 2, 3] [] rfl rfl rfl (by decide) (xw_rV F hh [0, 1, 2, 3] rfl rfl (ih H.size o r v ra cnt tm vals rat st slot tl hst Sd (some b205) (some y205) (w) (oo) f t hSd hrr (fun y hy => by
          cases hy
          exact wok_st hw hy205) (by omega) (by omega)) (nt_now hA hnt205 hh) lk_Wk_38 cd_Wk_walk se_Wk_walk_On _ hh.1 0 rfl rfl rfl rfl ⟨by unfold rm_Wk_walk; (try dsimp only); omega, by unfold rm_Wk_walk; (try dsimp only); omega⟩ rfl hl.1 rfl (Nat.le_of_ble_eq_true rfl) d_Wk_walk_219 ⟨Nat.zero_le _, Nat.zero_le _⟩) (fun u H locs hp219 hX hz hk hh => ?_)
        have hh : xw_H G A H0 H locs [(o, .inr (5, [.ref r, .int (xi_ slot), .long (xl_ tl)])), (r, .inr (3, [.int (xi_ (100 : Int)), .ref v, .ref ra, .int (xi_ u.1), .int (xi_ u.2.1)])), (v, .inl (G.2.2 1, (100 * 5), .inr (.inl (jl_ u.2.2.1)))), (ra, .inl (G.2.2 0, 100, .inl (ja_ u.2.2.2)))] := hh
        refine lv_iinc (k := 0) (v := xi_ (i + 1)) (lv' := [(13, .int (xi_ (i + 1))), (0, .ref o), (1, .ref a), (2, .long (xl_ w)), (4, .long (xl_ oo)), (6, .long (xl_ f)), (8, .long (xl_ t)), (10, .int (xi_ (41 - ((d + 1 : Nat) : Int))))]) hx hb d_Wk_walk_222 hl rfl (xi_add _ _).symm (by decide) rfl (fun ls hl => ?_)
        refine lv_goto (tgt := 182) hx hb d_Wk_walk_225 (by decide) ?_
        refine ihn (i + 1) u.1 u.2.1 u.2.2.1 u.2.2.2 (run_ 100 (sk_on slot tl) (gen_ d y205 w oo f t) st) ls H locs (by omega) (by omega) (by omega) hp219 ?_ (lv_sub hl [0, 1, 2, 3, 4, 5, 6, 7] rfl) hh
        rw [← hTG, drop_cons hy205, run_cons, show (i + 1).toNat = i.toNat + 1 by omega]
set_option maxHeartbeats 4000000 in
set_option maxRecDepth 100000 in
theorem c_Wk_walk_On_ref (l : Launch) (G : GG_) (sz : Nat) (o r v ra : Nat) (cnt tm : Int) (vals rat : Nat → Int) (st : List Row_ × Bool) (slot tl : Int) (hst : 0 ≤ slot ∧ slot ≤ 7 ∧ 0 < tl ∧ tl ≤ 1099511627776) (d : Nat) (ih : cwk_On l G d) (Sd : Nat → Prop) (hSd : ∀ q : Nat, Sd q → q ≠ o ∧ q ≠ r ∧ q ≠ v ∧ q ≠ ra) (a : Nat) (T : PT (d + 1)) (w oo f t : Int) (hw : wok_ (d + 1) T w oo f t) (hb9 : (-30000000000000 ≤ f ∧ f ≤ 30000000000000) ∧ (-30000000000000 ≤ t ∧ t ≤ 30000000000000)) (hrr : rr_ 100 cnt tm vals rat st) : Met l y_Wk_walk (cw_ y_Wk_walk b_Wk_walk 14 none) (rm_Wk_walk (d + 1)) (xw_P G [.ref o, .ref a, .long (xl_ w), .long (xl_ oo), .long (xl_ f), .long (xl_ t), .int (xi_ (41 - ((d + 1 : Nat) : Int)))] sz [(o, .inr (5, [.ref r, .int (xi_ slot), .long (xl_ tl)])), (r, .inr (3, [.int (xi_ (100 : Int)), .ref v, .ref ra, .int (xi_ cnt), .int (xi_ tm)])), (v, .inl (G.2.2 1, (100 * 5), .inr (.inl (jl_ vals)))), (ra, .inl (G.2.2 0, 100, .inl (ja_ rat)))] (fun H => nt_ G Sd (d + 1) H a T)) (xw_Qv (S := Int × Int × (Nat → Int) × (Nat → Int)) G sz [(o, .inr (5, [.ref r, .int (xi_ slot), .long (xl_ tl)])), (r, .inr (3, [.int (xi_ (100 : Int)), .ref v, .ref ra, .int (xi_ cnt), .int (xi_ tm)])), (v, .inl (G.2.2 1, (100 * 5), .inr (.inl (jl_ vals)))), (ra, .inl (G.2.2 0, 100, .inl (ja_ rat)))] (fun u => rr_ 100 u.1 u.2.1 u.2.2.1 u.2.2.2 (run_ 100 (sk_on slot tl) (gen_ (d + 1) T w oo f t) st)) (fun u => [(o, .inr (5, [.ref r, .int (xi_ slot), .long (xl_ tl)])), (r, .inr (3, [.int (xi_ (100 : Int)), .ref v, .ref ra, .int (xi_ u.1), .int (xi_ u.2.1)])), (v, .inl (G.2.2 1, (100 * 5), .inr (.inl (jl_ u.2.2.1)))), (ra, .inl (G.2.2 0, 100, .inl (ja_ u.2.2.2)))]) (fun _ _ => True)) 0 0 (va_A [(o, .inr (5, [.ref r, .int (xi_ slot), .long (xl_ tl)])), (r, .inr (3, [.int (xi_ (100 : Int)), .ref v, .ref ra, .int (xi_ cnt), .int (xi_ tm)])), (v, .inl (G.2.2 1, (100 * 5), .inr (.inl (jl_ vals)))), (ra, .inl (G.2.2 0, 100, .inl (ja_ rat)))] sz) := by
  refine xw_met (by decide) (Nat.le_of_ble_eq_true rfl) ?_
  intro p0 e0 s m0 args below meth c0 F hr hlk hin hsz hh hX ls hl
  subst hsz
  have hx := F.1
  have hb := F.2.1
  have hl : lv_has ls 14 [(0, .ref o), (1, .ref a), (2, .long (xl_ w)), (4, .long (xl_ oo)), (6, .long (xl_ f)), (8, .long (xl_ t)), (10, .int (xi_ (41 - ((d + 1 : Nat) : Int))))] := hl
  have hX0 := hX
  obtain ⟨hSa, ia, room, fch, hSia, hN, hro1, hro2, hkid⟩ := hX
  have hwf := hw.1.1
  have hrg := wf_rng hwf
  have hwr := wok_w hw
  have hor := wok_o hw
  have hd40 := hw.2.2.2.2.2.1
  have hftb := hw.2.2.2.2.1
  have hA : ∀ q : Nat, Sd q → q < s.heap.size → ¬ va_A [(o, .inr (5, [.ref r, .int (xi_ slot), .long (xl_ tl)])), (r, .inr (3, [.int (xi_ (100 : Int)), .ref v, .ref ra, .int (xi_ cnt), .int (xi_ tm)])), (v, .inl (G.2.2 1, (100 * 5), .inr (.inl (jl_ vals)))), (ra, .inl (G.2.2 0, 100, .inl (ja_ rat)))] s.heap.size q := not_in4 hSd
  refine lv_aload_n hx hb d_Wk_walk_0 rfl (lv_at hl 1 rfl) ?_
  refine lv_ifnull hx hb d_Wk_walk_1 ?_
  refine lv_aload_n hx hb d_Wk_walk_4 rfl (lv_at hl 1 rfl) ?_
  refine xw_cip hh (xw_rVp F (c_N_canSound l G s.heap.size a ia (tr_kd T) ((tr_cs T).length : Int) (tr_k T) (tr_n T) (tr_r T) (has_ T) (by omega)) ((vp_now hA hSa hSia hN hh).sub [0] rfl) lk_Wk_18 cd_N_canSound se_N_canSound _ (vp_now hA hSa hSia hN hh) 0 rfl rfl rfl rfl ⟨by unfold rm_N_canSound rm_Wk_walk; (try dsimp only); omega, by unfold rm_N_canSound rm_Wk_walk; (try dsimp only); omega⟩ rfl hl.1 rfl (Nat.le_of_ble_eq_true rfl) d_Wk_walk_5 ⟨Nat.zero_le _, Nat.zero_le _⟩) (fun z5 u H locs hp5 hz hk hh => ?_)
  rw [← can_s] at hp5
  obtain rfl : z5 = b2_ (can_ (d + 1) T) := hp5
  have hcan := b2_01 (can_ (d + 1) T)
  refine xw_if_eq hx hb 32 d_Wk_walk_8 (by decide) (by omega) (fun c8 => ?_) (fun c8 => ?_)
  · have eev : gen_ (d + 1) T w oo f t = [] := by first | exact gen_silent hw.1 (b2_e0 c8) w oo f t | exact gen_empty c21
    exact xw_vret F hr hlk hh (cnt, tm, vals, rat) rfl (by rw [eev]; exact hrr) trivial d_Wk_walk_32
  · refine lv_lload_n hx hb d_Wk_walk_11 rfl (lv_at hl 2 rfl) ?_
    refine lv_lconst (v := xl_ 0) hx hb d_Wk_walk_12 (by decide) ?_
    refine xw_lcmp_eq hx hb 32 d_Wk_walk_13 d_Wk_walk_14 (by decide) (by omega) (fun c13 => absurd c13 hw.2.1) (fun c13 => ?_)
    refine lv_lload hx hb d_Wk_walk_17 (lv_at hl 4 rfl) ?_
    refine lv_lload hx hb d_Wk_walk_19 (lv_at hl 5 rfl) ?_
    refine xw_lcmp_ge hx hb 32 d_Wk_walk_21 d_Wk_walk_22 (by decide) (by omega) (fun c21 => ?_) (fun c21 => ?_)
    · have eev : gen_ (d + 1) T w oo f t = [] := by first | exact gen_silent hw.1 (b2_e0 c8) w oo f t | exact gen_empty c21
      exact xw_vret F hr hlk hh (cnt, tm, vals, rat) rfl (by rw [eev]; exact hrr) trivial d_Wk_walk_32
    · refine lv_iload hx hb d_Wk_walk_25 (lv_at hl 6 rfl) ?_
      refine lv_bipush (v := xi_ 40) hx hb d_Wk_walk_27 (by decide) ?_
      refine xw_icmp_le hx hb 33 d_Wk_walk_29 (by decide) (by omega) (fun c29 => ?_) (fun c29 => absurd c29 (by omega))
      refine lv_aload_n hx hb d_Wk_walk_33 rfl (lv_at hl 1 rfl) ?_
      refine xw_get F (vp_now hA hSa hSia hN hh) (v := .int (xi_ (tr_kd T))) fl_Wk_26_1 0 rfl rfl d_Wk_walk_34 ?_
      have hct : can_ (d + 1) T = true := b2_ne c8
      have hkk : tr_kd T = 70 ∨ tr_kd T = 76 ∨ tr_kd T = 83 ∨ tr_kd T = 123 ∨ (tr_kd T = 91 ∨ tr_kd T = 69 ∨ tr_kd T = 60 ∨ tr_kd T = 82 ∨ tr_kd T = 86 ∨ (97 ≤ tr_kd T ∧ tr_kd T ≤ 122)) := by
        have h126 : tr_kd T ≠ 126 := fun q => by
          have hcs : (tr_cs T).length = 0 := by rcases hwf with z | z | z | z | z | z | z <;> omega
          have hcs2 := List.eq_nil_of_length_eq_zero hcs
          rw [can_s] at hct
          unfold has_ is_letter at hct
          rw [q, hcs2] at hct
          simp at hct
        rcases hwf with z | z | z | z | z | z | z <;> omega
      rcases hkk with h70 | h76 | h83 | h123 | hkd
      · refine lv_lookup (off := 43) (tgt := 80) hx hb d_Wk_walk_37 (by decide) (by rw [h70]; decide) (by decide) ?_
        refine lv_aload_n hx hb d_Wk_walk_80 rfl (lv_at hl 0 rfl) ?_
        refine lv_aload_n hx hb d_Wk_walk_81 rfl (lv_at hl 1 rfl) ?_
        refine lv_iconst (v := xi_ 0) hx hb d_Wk_walk_82 rfl ?_
        have hl1 : (tr_cs T).length = 1 := by rcases hwf with q | q | q | q | q | q | q <;> omega
        obtain ⟨y83, hy83⟩ : ∃ y, (tr_cs T)[0]? = some y := ⟨_, List.getElem?_eq_getElem (by omega)⟩
        obtain ⟨b83, hb83, hnt83⟩ := hkid _ y83 hy83
        refine xw_cap hh (xw_rVp F (c_N_innerAt l G H.size a ia room fch (tr_kd T) ((tr_cs T).length : Int) (tr_k T) (tr_n T) (tr_r T) (b2_ (has_ T)) (0) (by omega) (by omega)) (vp_now hA hSa hSia hN hh) lk_Wk_30 cd_N_innerAt se_N_innerAt _ (vp_now hA hSa hSia hN hh) 0 rfl rfl rfl rfl ⟨by unfold rm_N_innerAt rm_Wk_walk; (try dsimp only); omega, by unfold rm_N_innerAt rm_Wk_walk; (try dsimp only); omega⟩ rfl hl.1 rfl (Nat.le_of_ble_eq_true rfl) d_Wk_walk_83 ⟨Nat.zero_le _, Nat.zero_le _⟩) (fun z83 u H locs hp83 hz hk hh => ?_)
        refine xw_topr (b := b83) (by rw [hp83, if_pos (by omega)]; exact hb83) ?_
        refine lv_lload_n hx hb d_Wk_walk_86 rfl (lv_at hl 2 rfl) ?_
        refine lv_aload_n hx hb d_Wk_walk_87 rfl (lv_at hl 1 rfl) ?_
        refine xw_get F (vp_now hA hSa hSia hN hh) (v := .int (xi_ (tr_k T))) fl_Wk_34_1 0 rfl rfl d_Wk_walk_88 ?_
        refine xw_i2l hx hb d_Wk_walk_91 (by omega) ?_
        have hk1 : 1 ≤ tr_k T := by rcases hwf with q | q | q | q | q | q | q <;> omega
        refine xw_ldiv hx hb d_Wk_walk_92 (by omega) ?_
        refine xw_topl (y := w / tr_k T) (td_ex (by
          obtain ⟨q1, -⟩ := wok_div hw (n := tr_k T) (by unfold gn_1; rw [if_neg (by omega), if_pos (Or.inl h70)])
          exact ⟨_, q1⟩)) ?_
        refine lv_lload hx hb d_Wk_walk_93 (lv_at hl 3 rfl) ?_
        refine lv_lload hx hb d_Wk_walk_95 (lv_at hl 4 rfl) ?_
        refine lv_lload hx hb d_Wk_walk_97 (lv_at hl 5 rfl) ?_
        refine lv_iload hx hb d_Wk_walk_99 (lv_at hl 6 rfl) ?_
        refine lv_iconst (v := xi_ 1) hx hb d_Wk_walk_101 rfl ?_
        refine xw_iadd hx hb d_Wk_walk_102 ?_
        refine xw_topi (y := 41 - (d : Int)) (by omega) ?_
        refine xw_cv (wc := [(o, .inr (5, [.ref r, .int (xi_ slot), .long (xl_ tl)])), (r, .inr (3, [.int (xi_ (100 : Int)), .ref v, .ref ra, .int (xi_ cnt), .int (xi_ tm)])), (v, .inl (G.2.2 1, (100 * 5), .inr (.inl (jl_ vals)))), (ra, .inl (G.2.2 0, 100, .inl (ja_ rat)))]) (wr := []) hh [0, 1, 2, 3] [] rfl rfl rfl (by decide) (xw_rV F hh [0, 1, 2, 3] rfl rfl (ih H.size o r v ra cnt tm vals rat st slot tl hst Sd (some b83) (some y83) (w / tr_k T) (oo) f t hSd hrr (fun y hy => by
          cases hy
          exact wok_F hw h70 hy83) (by omega) (by omega)) (nt_now hA hnt83 hh) lk_Wk_38 cd_Wk_walk se_Wk_walk_On _ hh.1 0 rfl rfl rfl rfl ⟨by unfold rm_Wk_walk; (try dsimp only); omega, by unfold rm_Wk_walk; (try dsimp only); omega⟩ rfl hl.1 rfl (Nat.le_of_ble_eq_true rfl) d_Wk_walk_103 ⟨Nat.zero_le _, Nat.zero_le _⟩) (fun u H locs hp103 hX hz hk hh => ?_)
        have hh : xw_H G (va_A [(o, .inr (5, [.ref r, .int (xi_ slot), .long (xl_ tl)])), (r, .inr (3, [.int (xi_ (100 : Int)), .ref v, .ref ra, .int (xi_ cnt), .int (xi_ tm)])), (v, .inl (G.2.2 1, (100 * 5), .inr (.inl (jl_ vals)))), (ra, .inl (G.2.2 0, 100, .inl (ja_ rat)))] s.heap.size) s.heap H locs [(o, .inr (5, [.ref r, .int (xi_ slot), .long (xl_ tl)])), (r, .inr (3, [.int (xi_ (100 : Int)), .ref v, .ref ra, .int (xi_ u.1), .int (xi_ u.2.1)])), (v, .inl (G.2.2 1, (100 * 5), .inr (.inl (jl_ u.2.2.1)))), (ra, .inl (G.2.2 0, 100, .inl (ja_ u.2.2.2)))] := hh
        refine lv_goto (tgt := 245) hx hb d_Wk_walk_106 (by decide) ?_
        have eev : gen_ (d + 1) T w oo f t = gen_ d y83 (w / tr_k T) oo f t := by
          rw [gen_s]
          unfold g_step
          rw [if_neg (by omega), if_neg (by omega), if_pos h70, hy83]
          rfl
        exact xw_vret F hr hlk hh u rfl (by rw [eev]; exact hp103) trivial d_Wk_walk_245
      · refine lv_lookup (off := 101) (tgt := 138) hx hb d_Wk_walk_37 (by decide) (by rw [h76]; decide) (by decide) ?_
        refine lv_lload hx hb d_Wk_walk_138 (lv_at hl 3 rfl) ?_
        refine lv_lload_n hx hb d_Wk_walk_140 rfl (lv_at hl 2 rfl) ?_
        refine lv_aload_n hx hb d_Wk_walk_141 rfl (lv_at hl 1 rfl) ?_
        refine xw_get F (vp_now hA hSa hSia hN hh) (v := .int (xi_ (tr_n T))) fl_Wk_42_1 0 rfl rfl d_Wk_walk_142 ?_
        refine xw_i2l hx hb d_Wk_walk_145 (by omega) ?_
        refine xw_ldiv hx hb d_Wk_walk_146 (by omega) ?_
        refine xw_topl (y := w / tr_n T) (td_ex (by
          obtain ⟨q1, -⟩ := wok_div hw (n := tr_n T) (by unfold gn_1; rw [if_neg (by omega), if_neg (by omega), if_pos (Or.inl h76)])
          exact ⟨_, q1⟩)) ?_
        refine lv_aload_n hx hb d_Wk_walk_147 rfl (lv_at hl 1 rfl) ?_
        refine xw_get F (vp_now hA hSa hSia hN hh) (v := .int (xi_ (tr_k T))) fl_Wk_34_1 0 rfl rfl d_Wk_walk_148 ?_
        refine xw_i2l hx hb d_Wk_walk_151 (by omega) ?_
        refine xw_lmul hx hb d_Wk_walk_152 ?_
        refine xw_ladd hx hb d_Wk_walk_153 ?_
        refine lv_lstore (lv' := [(11, .long (xl_ (oo + ((w / tr_n T) * (tr_k T))))), (0, .ref o), (1, .ref a), (2, .long (xl_ w)), (4, .long (xl_ oo)), (6, .long (xl_ f)), (8, .long (xl_ t)), (10, .int (xi_ (41 - ((d + 1 : Nat) : Int))))]) hx hb d_Wk_walk_154 hl (by decide) rfl (fun ls hl => ?_)
        refine lv_aload_n hx hb d_Wk_walk_156 rfl (lv_at hl 1 rfl) ?_
        refine lv_aload_n hx hb d_Wk_walk_157 rfl (lv_at hl 2 rfl) ?_
        refine lv_iconst (v := xi_ 0) hx hb d_Wk_walk_158 rfl ?_
        have hl1 : (tr_cs T).length = 1 := by rcases hwf with q | q | q | q | q | q | q <;> omega
        obtain ⟨y159, hy159⟩ : ∃ y, (tr_cs T)[0]? = some y := ⟨_, List.getElem?_eq_getElem (by omega)⟩
        obtain ⟨b159, hb159, hnt159⟩ := hkid _ y159 hy159
        refine xw_cap hh (xw_rVp F (c_N_innerAt l G H.size a ia room fch (tr_kd T) ((tr_cs T).length : Int) (tr_k T) (tr_n T) (tr_r T) (b2_ (has_ T)) (0) (by omega) (by omega)) (vp_now hA hSa hSia hN hh) lk_Wk_30 cd_N_innerAt se_N_innerAt _ (vp_now hA hSa hSia hN hh) 0 rfl rfl rfl rfl ⟨by unfold rm_N_innerAt rm_Wk_walk; (try dsimp only); omega, by unfold rm_N_innerAt rm_Wk_walk; (try dsimp only); omega⟩ rfl hl.1 rfl (Nat.le_of_ble_eq_true rfl) d_Wk_walk_159 ⟨Nat.zero_le _, Nat.zero_le _⟩) (fun z159 u H locs hp159 hz hk hh => ?_)
        refine xw_topr (b := b159) (by rw [hp159, if_pos (by omega)]; exact hb159) ?_
        refine lv_lload_n hx hb d_Wk_walk_162 rfl (lv_at hl 3 rfl) ?_
        refine lv_lload hx hb d_Wk_walk_163 (lv_at hl 0 rfl) ?_
        refine lv_lload hx hb d_Wk_walk_165 (lv_at hl 5 rfl) ?_
        refine lv_lload hx hb d_Wk_walk_167 (lv_at hl 6 rfl) ?_
        refine lv_iload hx hb d_Wk_walk_169 (lv_at hl 7 rfl) ?_
        refine lv_iconst (v := xi_ 1) hx hb d_Wk_walk_171 rfl ?_
        refine xw_iadd hx hb d_Wk_walk_172 ?_
        refine xw_topi (y := 41 - (d : Int)) (by omega) ?_
        refine xw_cv (wc := [(o, .inr (5, [.ref r, .int (xi_ slot), .long (xl_ tl)])), (r, .inr (3, [.int (xi_ (100 : Int)), .ref v, .ref ra, .int (xi_ cnt), .int (xi_ tm)])), (v, .inl (G.2.2 1, (100 * 5), .inr (.inl (jl_ vals)))), (ra, .inl (G.2.2 0, 100, .inl (ja_ rat)))]) (wr := []) hh [0, 1, 2, 3] [] rfl rfl rfl (by decide) (xw_rV F hh [0, 1, 2, 3] rfl rfl (ih H.size o r v ra cnt tm vals rat st slot tl hst Sd (some b159) (some y159) (w) (oo + w / tr_n T * tr_k T) f t hSd hrr (fun y hy => by
          cases hy
          exact wok_L hw h76 hy159) (by omega) (by omega)) (nt_now hA hnt159 hh) lk_Wk_38 cd_Wk_walk se_Wk_walk_On _ hh.1 0 rfl rfl rfl rfl ⟨by unfold rm_Wk_walk; (try dsimp only); omega, by unfold rm_Wk_walk; (try dsimp only); omega⟩ rfl hl.1 rfl (Nat.le_of_ble_eq_true rfl) d_Wk_walk_173 ⟨Nat.zero_le _, Nat.zero_le _⟩) (fun u H locs hp173 hX hz hk hh => ?_)
        have hh : xw_H G (va_A [(o, .inr (5, [.ref r, .int (xi_ slot), .long (xl_ tl)])), (r, .inr (3, [.int (xi_ (100 : Int)), .ref v, .ref ra, .int (xi_ cnt), .int (xi_ tm)])), (v, .inl (G.2.2 1, (100 * 5), .inr (.inl (jl_ vals)))), (ra, .inl (G.2.2 0, 100, .inl (ja_ rat)))] s.heap.size) s.heap H locs [(o, .inr (5, [.ref r, .int (xi_ slot), .long (xl_ tl)])), (r, .inr (3, [.int (xi_ (100 : Int)), .ref v, .ref ra, .int (xi_ u.1), .int (xi_ u.2.1)])), (v, .inl (G.2.2 1, (100 * 5), .inr (.inl (jl_ u.2.2.1)))), (ra, .inl (G.2.2 0, 100, .inl (ja_ u.2.2.2)))] := hh
        refine lv_goto (tgt := 245) hx hb d_Wk_walk_176 (by decide) ?_
        have eev : gen_ (d + 1) T w oo f t = gen_ d y159 w (oo + w / tr_n T * tr_k T) f t := by
          rw [gen_s]
          unfold g_step
          rw [if_neg (by omega), if_neg (by omega), if_neg (by omega), if_neg (by omega), if_pos h76, hy159]
          rfl
        exact xw_vret F hr hlk hh u rfl (by rw [eev]; exact hp173) trivial d_Wk_walk_245
      · refine lv_lookup (off := 72) (tgt := 109) hx hb d_Wk_walk_37 (by decide) (by rw [h83]; decide) (by decide) ?_
        refine lv_aload_n hx hb d_Wk_walk_109 rfl (lv_at hl 0 rfl) ?_
        refine lv_aload_n hx hb d_Wk_walk_110 rfl (lv_at hl 1 rfl) ?_
        refine lv_iconst (v := xi_ 0) hx hb d_Wk_walk_111 rfl ?_
        have hl1 : (tr_cs T).length = 1 := by rcases hwf with q | q | q | q | q | q | q <;> omega
        obtain ⟨y112, hy112⟩ : ∃ y, (tr_cs T)[0]? = some y := ⟨_, List.getElem?_eq_getElem (by omega)⟩
        obtain ⟨b112, hb112, hnt112⟩ := hkid _ y112 hy112
        refine xw_cap hh (xw_rVp F (c_N_innerAt l G H.size a ia room fch (tr_kd T) ((tr_cs T).length : Int) (tr_k T) (tr_n T) (tr_r T) (b2_ (has_ T)) (0) (by omega) (by omega)) (vp_now hA hSa hSia hN hh) lk_Wk_30 cd_N_innerAt se_N_innerAt _ (vp_now hA hSa hSia hN hh) 0 rfl rfl rfl rfl ⟨by unfold rm_N_innerAt rm_Wk_walk; (try dsimp only); omega, by unfold rm_N_innerAt rm_Wk_walk; (try dsimp only); omega⟩ rfl hl.1 rfl (Nat.le_of_ble_eq_true rfl) d_Wk_walk_112 ⟨Nat.zero_le _, Nat.zero_le _⟩) (fun z112 u H locs hp112 hz hk hh => ?_)
        refine xw_topr (b := b112) (by rw [hp112, if_pos (by omega)]; exact hb112) ?_
        refine lv_lload_n hx hb d_Wk_walk_115 rfl (lv_at hl 2 rfl) ?_
        refine lv_aload_n hx hb d_Wk_walk_116 rfl (lv_at hl 1 rfl) ?_
        refine xw_get F (vp_now hA hSa hSia hN hh) (v := .int (xi_ (tr_k T))) fl_Wk_34_1 0 rfl rfl d_Wk_walk_117 ?_
        refine xw_i2l hx hb d_Wk_walk_120 (by omega) ?_
        refine xw_lmul hx hb d_Wk_walk_121 ?_
        refine lv_lload hx hb d_Wk_walk_122 (lv_at hl 3 rfl) ?_
        refine lv_lload hx hb d_Wk_walk_124 (lv_at hl 4 rfl) ?_
        refine lv_lload hx hb d_Wk_walk_126 (lv_at hl 5 rfl) ?_
        refine lv_iload hx hb d_Wk_walk_128 (lv_at hl 6 rfl) ?_
        refine lv_iconst (v := xi_ 1) hx hb d_Wk_walk_130 rfl ?_
        refine xw_iadd hx hb d_Wk_walk_131 ?_
        refine xw_topi (y := 41 - (d : Int)) (by omega) ?_
        refine xw_cv (wc := [(o, .inr (5, [.ref r, .int (xi_ slot), .long (xl_ tl)])), (r, .inr (3, [.int (xi_ (100 : Int)), .ref v, .ref ra, .int (xi_ cnt), .int (xi_ tm)])), (v, .inl (G.2.2 1, (100 * 5), .inr (.inl (jl_ vals)))), (ra, .inl (G.2.2 0, 100, .inl (ja_ rat)))]) (wr := []) hh [0, 1, 2, 3] [] rfl rfl rfl (by decide) (xw_rV F hh [0, 1, 2, 3] rfl rfl (ih H.size o r v ra cnt tm vals rat st slot tl hst Sd (some b112) (some y112) (w * tr_k T) (oo) f t hSd hrr (fun y hy => by
          cases hy
          exact wok_S hw h83 hy112) (by omega) (by omega)) (nt_now hA hnt112 hh) lk_Wk_38 cd_Wk_walk se_Wk_walk_On _ hh.1 0 rfl rfl rfl rfl ⟨by unfold rm_Wk_walk; (try dsimp only); omega, by unfold rm_Wk_walk; (try dsimp only); omega⟩ rfl hl.1 rfl (Nat.le_of_ble_eq_true rfl) d_Wk_walk_132 ⟨Nat.zero_le _, Nat.zero_le _⟩) (fun u H locs hp132 hX hz hk hh => ?_)
        have hh : xw_H G (va_A [(o, .inr (5, [.ref r, .int (xi_ slot), .long (xl_ tl)])), (r, .inr (3, [.int (xi_ (100 : Int)), .ref v, .ref ra, .int (xi_ cnt), .int (xi_ tm)])), (v, .inl (G.2.2 1, (100 * 5), .inr (.inl (jl_ vals)))), (ra, .inl (G.2.2 0, 100, .inl (ja_ rat)))] s.heap.size) s.heap H locs [(o, .inr (5, [.ref r, .int (xi_ slot), .long (xl_ tl)])), (r, .inr (3, [.int (xi_ (100 : Int)), .ref v, .ref ra, .int (xi_ u.1), .int (xi_ u.2.1)])), (v, .inl (G.2.2 1, (100 * 5), .inr (.inl (jl_ u.2.2.1)))), (ra, .inl (G.2.2 0, 100, .inl (ja_ u.2.2.2)))] := hh
        refine lv_goto (tgt := 245) hx hb d_Wk_walk_135 (by decide) ?_
        have eev : gen_ (d + 1) T w oo f t = gen_ d y112 (w * tr_k T) oo f t := by
          rw [gen_s]
          unfold g_step
          rw [if_neg (by omega), if_neg (by omega), if_neg (by omega), if_pos h83, hy112]
          rfl
        exact xw_vret F hr hlk hh u rfl (by rw [eev]; exact hp132) trivial d_Wk_walk_245
      · refine lv_lookup (off := 142) (tgt := 179) hx hb d_Wk_walk_37 (by decide) (by rw [h123]; decide) (by decide) ?_
        refine lv_iconst (v := xi_ 0) hx hb d_Wk_walk_179 rfl ?_
        refine lv_istore (lv' := [(13, .int (xi_ 0)), (0, .ref o), (1, .ref a), (2, .long (xl_ w)), (4, .long (xl_ oo)), (6, .long (xl_ f)), (8, .long (xl_ t)), (10, .int (xi_ (41 - ((d + 1 : Nat) : Int))))]) hx hb d_Wk_walk_180 hl (by decide) rfl (fun ls hl => ?_)
        have hlen : ((tr_cs T).length : Int) = tr_n T := by rcases hwf with q | q | q | q | q | q | q <;> omega
        refine lp_Wk_walk_On d F ih o r v ra slot tl hst Sd hSd hA a ia room fch T hSa hSia hN ⟨hro1, hro2⟩ hkid w oo f t hw c21 h123 (run_ 100 (sk_on slot tl) ((tr_cs T).flatMap (fun y => gen_ d y w oo f t)) st) (fun u ls H locs hp81 hl hh => ?_) ((tr_n T).toNat + 1) 0 cnt tm vals rat st ls H _ (by omega) (by omega) (by omega) hrr rfl (lv_sub hl [0, 1, 2, 3, 4, 5, 6, 7] rfl) hh
        refine lv_goto (tgt := 245) hx hb d_Wk_walk_228 (by decide) ?_
        have eev : gen_ (d + 1) T w oo f t = (tr_cs T).flatMap (fun y => gen_ d y w oo f t) := by
          rw [gen_s]
          unfold g_step
          rw [if_neg (by omega), if_neg (by omega), if_neg (by omega), if_neg (by omega), if_neg (by omega), if_pos h123]
        exact xw_vret F hr hlk hh u rfl (by rw [eev]; exact hp81) trivial d_Wk_walk_245
      · refine lv_lookup (off := 194) (tgt := 231) hx hb d_Wk_walk_37 (by decide) (by
          rw [xi_toInt (by omega)]
          show Op.lookupswitch.offset [(70, 43), (76, 101), (83, 72), (123, 142)] _ _ = _
          rw [Op.lookupswitch.offset_cons, if_neg (by omega), Op.lookupswitch.offset_cons, if_neg (by omega), Op.lookupswitch.offset_cons, if_neg (by omega), Op.lookupswitch.offset_cons, if_neg (by omega)]
          rfl) (by decide) ?_
        refine lv_aload_n hx hb d_Wk_walk_231 rfl (lv_at hl 0 rfl) ?_
        refine lv_aload_n hx hb d_Wk_walk_232 rfl (lv_at hl 1 rfl) ?_
        refine lv_lload_n hx hb d_Wk_walk_233 rfl (lv_at hl 2 rfl) ?_
        refine lv_lload hx hb d_Wk_walk_234 (lv_at hl 3 rfl) ?_
        refine lv_lload hx hb d_Wk_walk_236 (lv_at hl 4 rfl) ?_
        refine lv_lload hx hb d_Wk_walk_238 (lv_at hl 5 rfl) ?_
        refine lv_iload hx hb d_Wk_walk_240 (lv_at hl 6 rfl) ?_
        refine xw_topi (y := 40 - (d : Int)) (by omega) ?_
        refine xw_cv (wc := [(o, .inr (5, [.ref r, .int (xi_ slot), .long (xl_ tl)])), (r, .inr (3, [.int (xi_ (100 : Int)), .ref v, .ref ra, .int (xi_ cnt), .int (xi_ tm)])), (v, .inl (G.2.2 1, (100 * 5), .inr (.inl (jl_ vals)))), (ra, .inl (G.2.2 0, 100, .inl (ja_ rat)))]) (wr := []) hh [0, 1, 2, 3] [] rfl rfl rfl (by decide) (xw_rV F hh [0, 1, 2, 3] rfl rfl (c_Wk_walkCycles_On l G H.size o r v ra cnt tm vals rat st slot tl hst d ih Sd hSd a T w oo f t hw c21 hkd hrr) (nt_now hA hX0 hh) lk_Wk_49 cd_Wk_walkCycles se_Wk_walkCycles_On _ hh.1 0 rfl rfl rfl rfl ⟨by unfold rm_Wk_walkCycles rm_Wk_walk; (try dsimp only); omega, by unfold rm_Wk_walkCycles rm_Wk_walk; (try dsimp only); omega⟩ rfl hl.1 rfl (Nat.le_of_ble_eq_true rfl) d_Wk_walk_242 ⟨Nat.zero_le _, Nat.zero_le _⟩) (fun u H locs hp242 hX hz hk hh => ?_)
        have hh : xw_H G (va_A [(o, .inr (5, [.ref r, .int (xi_ slot), .long (xl_ tl)])), (r, .inr (3, [.int (xi_ (100 : Int)), .ref v, .ref ra, .int (xi_ cnt), .int (xi_ tm)])), (v, .inl (G.2.2 1, (100 * 5), .inr (.inl (jl_ vals)))), (ra, .inl (G.2.2 0, 100, .inl (ja_ rat)))] s.heap.size) s.heap H locs [(o, .inr (5, [.ref r, .int (xi_ slot), .long (xl_ tl)])), (r, .inr (3, [.int (xi_ (100 : Int)), .ref v, .ref ra, .int (xi_ u.1), .int (xi_ u.2.1)])), (v, .inl (G.2.2 1, (100 * 5), .inr (.inl (jl_ u.2.2.1)))), (ra, .inl (G.2.2 0, 100, .inl (ja_ u.2.2.2)))] := hh
        have eev : gen_ (d + 1) T w oo f t = (cy_range (cy_first w oo f t) (cy_last w oo f t)).flatMap (g_cyc (gen_ d) T w oo f t) := by
          rw [gen_s]
          unfold g_step
          rw [if_neg (by omega), if_neg (by omega), if_neg (by omega), if_neg (by omega), if_neg (by omega), if_neg (by omega)]
        exact xw_vret F hr hlk hh u rfl (by rw [eev]; exact hp242) trivial d_Wk_walk_245
set_option maxHeartbeats 4000000 in
set_option maxRecDepth 100000 in
theorem c_Wk_walk_On_null (l : Launch) (G : GG_) (sz : Nat) (o r v ra : Nat) (cnt tm : Int) (vals rat : Nat → Int) (st : List Row_ × Bool) (slot tl : Int) (hst : 0 ≤ slot ∧ slot ≤ 7 ∧ 0 < tl ∧ tl ≤ 1099511627776) (d : Nat) (w oo f t : Int) (hrr : rr_ 100 cnt tm vals rat st) : Met l y_Wk_walk (cw_ y_Wk_walk b_Wk_walk 14 none) (rm_Wk_walk d) (xw_P G [.ref o, .null, .long (xl_ w), .long (xl_ oo), .long (xl_ f), .long (xl_ t), .int (xi_ (41 - (d : Int)))] sz [(o, .inr (5, [.ref r, .int (xi_ slot), .long (xl_ tl)])), (r, .inr (3, [.int (xi_ (100 : Int)), .ref v, .ref ra, .int (xi_ cnt), .int (xi_ tm)])), (v, .inl (G.2.2 1, (100 * 5), .inr (.inl (jl_ vals)))), (ra, .inl (G.2.2 0, 100, .inl (ja_ rat)))] (fun _ => True)) (xw_Qv (S := Int × Int × (Nat → Int) × (Nat → Int)) G sz [(o, .inr (5, [.ref r, .int (xi_ slot), .long (xl_ tl)])), (r, .inr (3, [.int (xi_ (100 : Int)), .ref v, .ref ra, .int (xi_ cnt), .int (xi_ tm)])), (v, .inl (G.2.2 1, (100 * 5), .inr (.inl (jl_ vals)))), (ra, .inl (G.2.2 0, 100, .inl (ja_ rat)))] (fun u => rr_ 100 u.1 u.2.1 u.2.2.1 u.2.2.2 (run_ 100 (sk_on slot tl) ([]) st)) (fun u => [(o, .inr (5, [.ref r, .int (xi_ slot), .long (xl_ tl)])), (r, .inr (3, [.int (xi_ (100 : Int)), .ref v, .ref ra, .int (xi_ u.1), .int (xi_ u.2.1)])), (v, .inl (G.2.2 1, (100 * 5), .inr (.inl (jl_ u.2.2.1)))), (ra, .inl (G.2.2 0, 100, .inl (ja_ u.2.2.2)))]) (fun _ _ => True)) 0 0 (va_A [(o, .inr (5, [.ref r, .int (xi_ slot), .long (xl_ tl)])), (r, .inr (3, [.int (xi_ (100 : Int)), .ref v, .ref ra, .int (xi_ cnt), .int (xi_ tm)])), (v, .inl (G.2.2 1, (100 * 5), .inr (.inl (jl_ vals)))), (ra, .inl (G.2.2 0, 100, .inl (ja_ rat)))] sz) := by
  refine xw_met (by decide) (Nat.le_of_ble_eq_true rfl) ?_
  intro p0 e0 s m0 args below meth c0 F hr hlk hin hsz hh hX ls hl
  subst hsz
  have hx := F.1
  have hb := F.2.1
  have hl : lv_has ls 14 [(0, .ref o), (1, .null), (2, .long (xl_ w)), (4, .long (xl_ oo)), (6, .long (xl_ f)), (8, .long (xl_ t)), (10, .int (xi_ (41 - (d : Int))))] := hl
  refine lv_aload_nN hx hb d_Wk_walk_0 rfl (lv_at hl 1 rfl) ?_
  refine lv_ifnullN (tgt := 32) hx hb d_Wk_walk_1 (by decide) ?_
  exact xw_vret F hr hlk hh (cnt, tm, vals, rat) rfl hrr trivial d_Wk_walk_32
/-- walk, at every depth -/
theorem walk_all_On (l : Launch) (G : GG_) : ∀ d : Nat, cwk_On l G d := by
  intro d
  induction d with
  | zero =>
    intro sz o r v ra cnt tm vals rat st slot tl hst Sd na xo w oo f t hSd hrr hw hb9 hd40
    match na, xo, hw with
    | none, none, _ => exact c_Wk_walk_On_null l G sz o r v ra cnt tm vals rat st slot tl hst 0 w oo f t hrr
    | some a, some T, hw => exact ((hw T rfl).1).elim
    | none, some T, hw => exact ((hw T rfl).1).elim
    | some a, none, _ => exact xw_met (by decide) (Nat.le_of_ble_eq_true rfl) (fun _ _ _ _ _ _ _ _ _ _ _ _ _ _ hX _ _ => hX.elim)
  | succ d ih =>
    intro sz o r v ra cnt tm vals rat st slot tl hst Sd na xo w oo f t hSd hrr hw hb9 hd40
    match na, xo, hw with
    | none, none, _ => exact c_Wk_walk_On_null l G sz o r v ra cnt tm vals rat st slot tl hst (d + 1) w oo f t hrr
    | some a, some T, hw => exact c_Wk_walk_On_ref l G sz o r v ra cnt tm vals rat st slot tl hst d ih Sd hSd a T w oo f t (hw T rfl) hb9 hrr
    | none, some T, _ => exact xw_met (by decide) (Nat.le_of_ble_eq_true rfl) (fun _ _ _ _ _ _ _ _ _ _ _ _ _ _ hX _ _ => hX.elim)
    | some a, none, _ => exact xw_met (by decide) (Nat.le_of_ble_eq_true rfl) (fun _ _ _ _ _ _ _ _ _ _ _ _ _ _ hX _ _ => hX.elim)
