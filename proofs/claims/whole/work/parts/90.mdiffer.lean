/-! the model: differ, advance -/
theorem df_sc {T : PT 40} {g s c : Int} (hs : 0 < s) (hw : wf_ 40 T) (hg : g = gn_ 40 T) : df_run T (g * s) c = (((run_ 200 sk_pa (gen_ 40 T g 0 (c * g) ((c + 1) * g)) ([], false)).1).map (srow_ s), (run_ 200 sk_pa (gen_ 40 T g 0 (c * g) ((c + 1) * g)) ([], false)).2) := by
  have h := run_sc hs (T := T) (w := g) (o := 0) (f := c * g) (t := (c + 1) * g) ⟨hw, ⟨1, by rw [hg, Int.mul_one]⟩⟩
  rw [Int.mul_zero] at h
  unfold df_run
  have e1 : g * s = s * g := Int.mul_comm _ _
  have e2 : c * (g * s) = s * (c * g) := by rw [e1, ← Int.mul_assoc, Int.mul_comm c s, Int.mul_assoc]
  have e3 : c * (g * s) + g * s = s * ((c + 1) * g) := by rw [e2, e1, Int.add_mul, Int.one_mul, Int.mul_add]
  rw [e3, e2, e1]
  exact h
def rm_M_differ : Room := { frames := 6, cells := 0, slots := 0, locals := 185 }
set_option maxHeartbeats 4000000 in
set_option maxRecDepth 100000 in
theorem lp_M_differ {p0 : Program} {l : Launch} {e0 : Env} {s : State} {m0 : MethodId} {args : Array Value} {below : List Frame} {meth : Method} {c0 : Code} {Q : State → Prop} {G : GG_} {A0 : Nat → Prop} {H0 : Heap} (F : xw_F p0 s m0 args c0 b_M_differ 4 R_M G) (mo : Nat) (ma : Nat → Nat) (ty at0 dp un pl sp pe tk du tm : Int) (ro gr : Nat → Int) (A : MT) (st : List Row_ × Bool) (gsf : Nat → Int) (Tr : Nat → PT 40) (hms : msl_ A ro gr gsf Tr) (hsp : sp_ok gsf Tr) (n1 n2 : Nat) (hn12 : n1 < 8 ∧ n2 < 8) (TG : Int)
    (km : ∀ (u : MK × (Nat → Int) × (Nat → Int) × (Nat → Int) × (Nat → Int) × (Nat → Int) × (Nat → Int) × (Nat → Int)) (ls : Array Slot) (H : Heap) (locs : List Loc), mx_ u.2.1 u.2.2.1 u.2.2.2.1 u.2.2.2.2.1 u.2.2.2.2.2.1 u.2.2.2.2.2.2.1 st.1 → TG = -2 → xw_H G A0 H0 H locs [(mo, .inr (6, mo_ ma ty at0 dp (k_wy u.1) un pl sp pe tk du tm)), (ma 3, .inl (G.2.2 0, 432, .inl (ja_ (a_kn A)))), (ma 4, .inl (G.2.2 0, 432, .inl (ja_ (a_on A)))), (ma 5, .inl (G.2.2 0, 432, .inl (ja_ (a_tw A)))), (ma 6, .inl (G.2.2 0, 432, .inl (ja_ (a_th A)))), (ma 7, .inl (G.2.2 0, 432, .inl (ja_ (a_fi A)))), (ma 8, .inl (G.2.2 0, 432, .inl (ja_ (a_ne A)))), (ma 9, .inl (G.2.2 0, 432, .inl (ja_ (a_co A)))), (ma 17, .inl (G.2.2 0, 50, .inl (ja_ (k_no u.1)))), (ma 18, .inl (G.2.2 1, 50, .inr (.inl (jl_ (k_fr u.1))))), (ma 19, .inl (G.2.2 1, 50, .inr (.inl (jl_ (k_to u.1))))), (ma 20, .inl (G.2.2 1, 50, .inr (.inl (jl_ (k_aa u.1))))), (ma 21, .inl (G.2.2 1, 50, .inr (.inl (jl_ (k_bb u.1))))), (ma 22, .inl (G.2.2 1, 50, .inr (.inl (jl_ (k_cy u.1))))), (ma 23, .inl (G.2.2 1, 50, .inr (.inl (jl_ (k_en u.1))))), (ma 24, .inl (G.2.2 0, 50, .inl (ja_ (k_sp u.1)))), (ma 27, .inl (G.2.2 1, 603, .inr (.inl (jl_ u.2.1)))), (ma 28, .inl (G.2.2 1, 603, .inr (.inl (jl_ u.2.2.1)))), (ma 29, .inl (G.2.2 1, 603, .inr (.inl (jl_ u.2.2.2.1)))), (ma 30, .inl (G.2.2 1, 603, .inr (.inl (jl_ u.2.2.2.2.1)))), (ma 31, .inl (G.2.2 0, 603, .inl (ja_ u.2.2.2.2.2.1))), (ma 25, .inl (G.2.2 0, 3, .inl (ja_ u.2.2.2.2.2.2.1))), (ma 26, .inl (G.2.2 3, 3, .inl (ja_ u.2.2.2.2.2.2.2))), (ma 10, .inl (G.2.2 0, 9, .inl (ja_ ro))), (ma 12, .inl (G.2.2 0, 9, .inl (ja_ gr)))] → W p0 l e0 rm_M_differ s m0 args below meth c0 H locs 0 0 Q (F0 m0 119 ls []))
    (kc : ∀ (u : MK × (Nat → Int) × (Nat → Int) × (Nat → Int) × (Nat → Int) × (Nat → Int) × (Nat → Int) × (Nat → Int)) (ci : Int) (ls : Array Slot) (H : Heap) (locs : List Loc), mx_ u.2.1 u.2.2.1 u.2.2.2.1 u.2.2.2.2.1 u.2.2.2.2.2.1 u.2.2.2.2.2.2.1 st.1 → TG = ci → lv_has ls 4 [(3, .int (xi_ ci))] → xw_H G A0 H0 H locs [(mo, .inr (6, mo_ ma ty at0 dp (k_wy u.1) un pl sp pe tk du tm)), (ma 3, .inl (G.2.2 0, 432, .inl (ja_ (a_kn A)))), (ma 4, .inl (G.2.2 0, 432, .inl (ja_ (a_on A)))), (ma 5, .inl (G.2.2 0, 432, .inl (ja_ (a_tw A)))), (ma 6, .inl (G.2.2 0, 432, .inl (ja_ (a_th A)))), (ma 7, .inl (G.2.2 0, 432, .inl (ja_ (a_fi A)))), (ma 8, .inl (G.2.2 0, 432, .inl (ja_ (a_ne A)))), (ma 9, .inl (G.2.2 0, 432, .inl (ja_ (a_co A)))), (ma 17, .inl (G.2.2 0, 50, .inl (ja_ (k_no u.1)))), (ma 18, .inl (G.2.2 1, 50, .inr (.inl (jl_ (k_fr u.1))))), (ma 19, .inl (G.2.2 1, 50, .inr (.inl (jl_ (k_to u.1))))), (ma 20, .inl (G.2.2 1, 50, .inr (.inl (jl_ (k_aa u.1))))), (ma 21, .inl (G.2.2 1, 50, .inr (.inl (jl_ (k_bb u.1))))), (ma 22, .inl (G.2.2 1, 50, .inr (.inl (jl_ (k_cy u.1))))), (ma 23, .inl (G.2.2 1, 50, .inr (.inl (jl_ (k_en u.1))))), (ma 24, .inl (G.2.2 0, 50, .inl (ja_ (k_sp u.1)))), (ma 27, .inl (G.2.2 1, 603, .inr (.inl (jl_ u.2.1)))), (ma 28, .inl (G.2.2 1, 603, .inr (.inl (jl_ u.2.2.1)))), (ma 29, .inl (G.2.2 1, 603, .inr (.inl (jl_ u.2.2.2.1)))), (ma 30, .inl (G.2.2 1, 603, .inr (.inl (jl_ u.2.2.2.2.1)))), (ma 31, .inl (G.2.2 0, 603, .inl (ja_ u.2.2.2.2.2.1))), (ma 25, .inl (G.2.2 0, 3, .inl (ja_ u.2.2.2.2.2.2.1))), (ma 26, .inl (G.2.2 3, 3, .inl (ja_ u.2.2.2.2.2.2.2))), (ma 10, .inl (G.2.2 0, 9, .inl (ja_ ro))), (ma 12, .inl (G.2.2 0, 9, .inl (ja_ gr)))] → W p0 l e0 rm_M_differ s m0 args below meth c0 H locs 0 0 Q (F0 m0 143 ls []))
    (ke : ∀ (u : MK × (Nat → Int) × (Nat → Int) × (Nat → Int) × (Nat → Int) × (Nat → Int) × (Nat → Int) × (Nat → Int)) (ls : Array Slot) (H : Heap) (locs : List Loc), mx_ u.2.1 u.2.2.1 u.2.2.2.1 u.2.2.2.2.1 u.2.2.2.2.2.1 u.2.2.2.2.2.2.1 st.1 → TG = -1 → xw_H G A0 H0 H locs [(mo, .inr (6, mo_ ma ty at0 dp (k_wy u.1) un pl sp pe tk du tm)), (ma 3, .inl (G.2.2 0, 432, .inl (ja_ (a_kn A)))), (ma 4, .inl (G.2.2 0, 432, .inl (ja_ (a_on A)))), (ma 5, .inl (G.2.2 0, 432, .inl (ja_ (a_tw A)))), (ma 6, .inl (G.2.2 0, 432, .inl (ja_ (a_th A)))), (ma 7, .inl (G.2.2 0, 432, .inl (ja_ (a_fi A)))), (ma 8, .inl (G.2.2 0, 432, .inl (ja_ (a_ne A)))), (ma 9, .inl (G.2.2 0, 432, .inl (ja_ (a_co A)))), (ma 17, .inl (G.2.2 0, 50, .inl (ja_ (k_no u.1)))), (ma 18, .inl (G.2.2 1, 50, .inr (.inl (jl_ (k_fr u.1))))), (ma 19, .inl (G.2.2 1, 50, .inr (.inl (jl_ (k_to u.1))))), (ma 20, .inl (G.2.2 1, 50, .inr (.inl (jl_ (k_aa u.1))))), (ma 21, .inl (G.2.2 1, 50, .inr (.inl (jl_ (k_bb u.1))))), (ma 22, .inl (G.2.2 1, 50, .inr (.inl (jl_ (k_cy u.1))))), (ma 23, .inl (G.2.2 1, 50, .inr (.inl (jl_ (k_en u.1))))), (ma 24, .inl (G.2.2 0, 50, .inl (ja_ (k_sp u.1)))), (ma 27, .inl (G.2.2 1, 603, .inr (.inl (jl_ u.2.1)))), (ma 28, .inl (G.2.2 1, 603, .inr (.inl (jl_ u.2.2.1)))), (ma 29, .inl (G.2.2 1, 603, .inr (.inl (jl_ u.2.2.2.1)))), (ma 30, .inl (G.2.2 1, 603, .inr (.inl (jl_ u.2.2.2.2.1)))), (ma 31, .inl (G.2.2 0, 603, .inl (ja_ u.2.2.2.2.2.1))), (ma 25, .inl (G.2.2 0, 3, .inl (ja_ u.2.2.2.2.2.2.1))), (ma 26, .inl (G.2.2 3, 3, .inl (ja_ u.2.2.2.2.2.2.2))), (ma 10, .inl (G.2.2 0, 9, .inl (ja_ ro))), (ma 12, .inl (G.2.2 0, 9, .inl (ja_ gr)))] → W p0 l e0 rm_M_differ s m0 args below meth c0 H locs 0 0 Q (F0 m0 151 ls [])) :
    ∀ (N : Nat) (ci : Int) (k : MK) (be so wh we le mn mu : Nat → Int) (ls : Array Slot) (H : Heap) (locs : List Loc), ci = 16 - (N : Int) → N ≤ 16 → TG = dif_ (Tr n1) (Tr n2) (gsf n1 * gsf n2) N ci → mx_ be so wh we le mn st.1 → lv_has ls 4 [(3, .int (xi_ ci)), (0, .ref mo), (1, .int (xi_ (n1 : Int))), (2, .int (xi_ (n2 : Int)))] → xw_H G A0 H0 H locs [(mo, .inr (6, mo_ ma ty at0 dp (k_wy k) un pl sp pe tk du tm)), (ma 3, .inl (G.2.2 0, 432, .inl (ja_ (a_kn A)))), (ma 4, .inl (G.2.2 0, 432, .inl (ja_ (a_on A)))), (ma 5, .inl (G.2.2 0, 432, .inl (ja_ (a_tw A)))), (ma 6, .inl (G.2.2 0, 432, .inl (ja_ (a_th A)))), (ma 7, .inl (G.2.2 0, 432, .inl (ja_ (a_fi A)))), (ma 8, .inl (G.2.2 0, 432, .inl (ja_ (a_ne A)))), (ma 9, .inl (G.2.2 0, 432, .inl (ja_ (a_co A)))), (ma 17, .inl (G.2.2 0, 50, .inl (ja_ (k_no k)))), (ma 18, .inl (G.2.2 1, 50, .inr (.inl (jl_ (k_fr k))))), (ma 19, .inl (G.2.2 1, 50, .inr (.inl (jl_ (k_to k))))), (ma 20, .inl (G.2.2 1, 50, .inr (.inl (jl_ (k_aa k))))), (ma 21, .inl (G.2.2 1, 50, .inr (.inl (jl_ (k_bb k))))), (ma 22, .inl (G.2.2 1, 50, .inr (.inl (jl_ (k_cy k))))), (ma 23, .inl (G.2.2 1, 50, .inr (.inl (jl_ (k_en k))))), (ma 24, .inl (G.2.2 0, 50, .inl (ja_ (k_sp k)))), (ma 27, .inl (G.2.2 1, 603, .inr (.inl (jl_ be)))), (ma 28, .inl (G.2.2 1, 603, .inr (.inl (jl_ so)))), (ma 29, .inl (G.2.2 1, 603, .inr (.inl (jl_ wh)))), (ma 30, .inl (G.2.2 1, 603, .inr (.inl (jl_ we)))), (ma 31, .inl (G.2.2 0, 603, .inl (ja_ le))), (ma 25, .inl (G.2.2 0, 3, .inl (ja_ mn))), (ma 26, .inl (G.2.2 3, 3, .inl (ja_ mu))), (ma 10, .inl (G.2.2 0, 9, .inl (ja_ ro))), (ma 12, .inl (G.2.2 0, 9, .inl (ja_ gr)))] → W p0 l e0 rm_M_differ s m0 args below meth c0 H locs 0 0 Q (F0 m0 25 ls []) := by
  have hx := F.1
  have hb := F.2.1
  obtain ⟨⟨m1, hrep1⟩, hgr1⟩ := hms n1 hn12.1
  obtain ⟨⟨m2, hrep2⟩, hgr2⟩ := hms n2 hn12.2
  obtain ⟨hs1, hs2, hs3, hs4⟩ := hsp n1 hn12.1
  obtain ⟨ht1, ht2, ht3, ht4⟩ := hsp n2 hn12.2
  intro N
  induction N with
  | zero =>
    intro ci k be so wh we le mn mu ls H locs hci hN hTG hmx hl hh
    refine lv_iload_n hx hb d_M_differ_25 rfl (lv_at hl 0 rfl) ?_
    refine lv_bipush (v := xi_ 16) hx hb d_M_differ_26 (by decide) ?_
    refine xw_icmp_ge hx hb 151 d_M_differ_28 (by decide) (by omega) (fun c28 => ?_) (fun c28 => absurd c28 (by omega))
    exact ke (k, be, so, wh, we, le, mn, mu) ls H locs hmx hTG hh
  | succ N ihn =>
    intro ci k be so wh we le mn mu ls H locs hci hN hTG hmx hl hh
    have hc1 := ab_prod (x := ci) (g := gsf n1) (B := 16) (C := 5040) (by omega) (by omega)
    have hc2 := ab_prod (x := ci + 1) (g := gsf n1) (B := 16) (C := 5040) (by omega) (by omega)
    have hd1 := ab_prod (x := ci) (g := gsf n2) (B := 16) (C := 5040) (by omega) (by omega)
    have hd2 := ab_prod (x := ci + 1) (g := gsf n2) (B := 16) (C := 5040) (by omega) (by omega)
    have hw1 := wok_top hsp (j := n1) hn12.1 (m := 1) (f := ci * gsf n1) (t := (ci + 1) * gsf n1) (by omega) (by omega) (by omega)
    have hw2 := wok_top hsp (j := n2) hn12.2 (m := 1) (f := ci * gsf n2) (t := (ci + 1) * gsf n2) (by omega) (by omega) (by omega)
    rw [Int.mul_one] at hw1 hw2
    have hf1 := df_sc (T := Tr n1) (g := gsf n1) (s := gsf n2) (c := ci) (by omega) hs1 hs2
    have hf2 := df_sc (T := Tr n2) (g := gsf n2) (s := gsf n1) (c := ci) (by omega) ht1 ht2
    rw [Int.mul_comm (gsf n2)] at hf2
    obtain ⟨M1, hM1⟩ : ∃ M1, M1 = run_ 200 sk_pa (gen_ 40 (Tr n1) (gsf n1) 0 (ci * gsf n1) ((ci + 1) * gsf n1)) ([], false) := ⟨_, rfl⟩
    obtain ⟨M2, hM2⟩ : ∃ M2, M2 = run_ 200 sk_pa (gen_ 40 (Tr n2) (gsf n2) 0 (ci * gsf n2) ((ci + 1) * gsf n2)) ([], false) := ⟨_, rfl⟩
    rw [← hM1] at hf1
    rw [← hM2] at hf2
    unfold dif_ at hTG
    rw [hf1, hf2] at hTG
    dsimp only at hTG
    have hb1 := b2_01 M1.2
    have hb2 := b2_01 M2.2
    refine lv_iload_n hx hb d_M_differ_25 rfl (lv_at hl 0 rfl) ?_
    refine lv_bipush (v := xi_ 16) hx hb d_M_differ_26 (by decide) ?_
    refine xw_icmp_ge hx hb 151 d_M_differ_28 (by decide) (by omega) (fun c28 => absurd c28 (by omega)) (fun c28 => ?_)
    refine lv_aload_n hx hb d_M_differ_31 rfl (lv_at hl 1 rfl) ?_
    refine lv_iload_n hx hb d_M_differ_32 rfl (lv_at hl 2 rfl) ?_
    refine lv_iload_n hx hb d_M_differ_33 rfl (lv_at hl 0 rfl) ?_
    refine xw_i2l hx hb d_M_differ_34 (by omega) ?_
    refine lv_aload_n hx hb d_M_differ_35 rfl (lv_at hl 1 rfl) ?_
    refine xw_get F hh.1 (v := .ref (ma 12)) fl_M_40_6 0 rfl rfl d_M_differ_36 ?_
    refine lv_iload_n hx hb d_M_differ_39 rfl (lv_at hl 2 rfl) ?_
    refine xw_iald F hh.1 24 (f := gr) rfl (i := (n1 : Int)) (by omega) d_M_differ_40 ?_
    refine xw_topi (y := gsf n1) hgr1 ?_
    refine xw_i2l hx hb d_M_differ_41 (by omega) ?_
    refine xw_lmul hx hb d_M_differ_42 ?_
    refine lv_iload_n hx hb d_M_differ_43 rfl (lv_at hl 0 rfl) ?_
    refine xw_i2l hx hb d_M_differ_44 (by omega) ?_
    refine lv_lconst (v := xl_ 1) hx hb d_M_differ_45 (by decide) ?_
    refine xw_ladd hx hb d_M_differ_46 ?_
    refine lv_aload_n hx hb d_M_differ_47 rfl (lv_at hl 1 rfl) ?_
    refine xw_get F hh.1 (v := .ref (ma 12)) fl_M_40_6 0 rfl rfl d_M_differ_48 ?_
    refine lv_iload_n hx hb d_M_differ_51 rfl (lv_at hl 2 rfl) ?_
    refine xw_iald F hh.1 24 (f := gr) rfl (i := (n1 : Int)) (by omega) d_M_differ_52 ?_
    refine xw_topi (y := gsf n1) hgr1 ?_
    refine xw_i2l hx hb d_M_differ_53 (by omega) ?_
    refine xw_lmul hx hb d_M_differ_54 ?_
    refine lv_aload_n hx hb d_M_differ_55 rfl (lv_at hl 1 rfl) ?_
    refine xw_get F hh.1 (v := .ref (ma 12)) fl_M_40_6 0 rfl rfl d_M_differ_56 ?_
    refine lv_iload_n hx hb d_M_differ_59 rfl (lv_at hl 2 rfl) ?_
    refine xw_iald F hh.1 24 (f := gr) rfl (i := (n1 : Int)) (by omega) d_M_differ_60 ?_
    refine xw_topi (y := gsf n1) hgr1 ?_
    refine xw_i2l hx hb d_M_differ_61 (by omega) ?_
    refine lv_iconst (v := xi_ 1) hx hb d_M_differ_62 rfl ?_
    refine xw_cv (wc := [(mo, .inr (6, mo_ ma ty at0 dp (k_wy k) un pl sp pe tk du tm)), (ma 3, .inl (G.2.2 0, 432, .inl (ja_ (a_kn A)))), (ma 4, .inl (G.2.2 0, 432, .inl (ja_ (a_on A)))), (ma 5, .inl (G.2.2 0, 432, .inl (ja_ (a_tw A)))), (ma 6, .inl (G.2.2 0, 432, .inl (ja_ (a_th A)))), (ma 7, .inl (G.2.2 0, 432, .inl (ja_ (a_fi A)))), (ma 8, .inl (G.2.2 0, 432, .inl (ja_ (a_ne A)))), (ma 9, .inl (G.2.2 0, 432, .inl (ja_ (a_co A)))), (ma 17, .inl (G.2.2 0, 50, .inl (ja_ (k_no k)))), (ma 18, .inl (G.2.2 1, 50, .inr (.inl (jl_ (k_fr k))))), (ma 19, .inl (G.2.2 1, 50, .inr (.inl (jl_ (k_to k))))), (ma 20, .inl (G.2.2 1, 50, .inr (.inl (jl_ (k_aa k))))), (ma 21, .inl (G.2.2 1, 50, .inr (.inl (jl_ (k_bb k))))), (ma 22, .inl (G.2.2 1, 50, .inr (.inl (jl_ (k_cy k))))), (ma 23, .inl (G.2.2 1, 50, .inr (.inl (jl_ (k_en k))))), (ma 24, .inl (G.2.2 0, 50, .inl (ja_ (k_sp k)))), (ma 27, .inl (G.2.2 1, 603, .inr (.inl (jl_ be)))), (ma 28, .inl (G.2.2 1, 603, .inr (.inl (jl_ so)))), (ma 29, .inl (G.2.2 1, 603, .inr (.inl (jl_ wh)))), (ma 30, .inl (G.2.2 1, 603, .inr (.inl (jl_ we)))), (ma 31, .inl (G.2.2 0, 603, .inl (ja_ le))), (ma 25, .inl (G.2.2 0, 3, .inl (ja_ mn))), (ma 26, .inl (G.2.2 3, 3, .inl (ja_ mu))), (ma 10, .inl (G.2.2 0, 9, .inl (ja_ ro)))]) (wr := [(ma 12, .inl (G.2.2 0, 9, .inl (ja_ gr)))]) hh [0, 1, 2, 3, 4, 5, 6, 7, 8, 9, 10, 11, 12, 13, 14, 15, 16, 17, 18, 19, 20, 21, 22, 23] [24] rfl rfl rfl (by decide) (xw_rV F hh [0, 1, 2, 3, 4, 5, 6, 7, 8, 9, 10, 11, 12, 13, 14, 15, 16, 17, 18, 19, 20, 21, 22, 23] rfl rfl (c_M_gather l G H.size mo ma ty at0 dp un pl sp pe tk du tm ro A (k) (n1 : Int) (Tr n1) m1 (ci * gsf n1) ((ci + 1) * gsf n1) (gsf n1) ⟨by omega, by omega⟩ hrep1 (fun _ => hw1) ⟨⟨by omega, by omega⟩, ⟨by omega, by omega⟩, by omega, by omega, by omega⟩ 1 (by decide) be so wh we le mn mu hmx.2.2.2) trivial lk_M_235 cd_M_gather se_M_gather _ hh.1 0 rfl rfl rfl rfl ⟨by decide, by decide⟩ rfl hl.1 rfl (Nat.le_of_ble_eq_true rfl) d_M_differ_63 ⟨Nat.le_of_ble_eq_true rfl, Nat.le_of_ble_eq_true rfl⟩) (fun ua H locs hp63 hX hz hk hh => ?_)
    have hh : xw_H G A0 H0 H locs [(mo, .inr (6, mo_ ma ty at0 dp (k_wy ua.1) un pl sp pe tk du tm)), (ma 3, .inl (G.2.2 0, 432, .inl (ja_ (a_kn A)))), (ma 4, .inl (G.2.2 0, 432, .inl (ja_ (a_on A)))), (ma 5, .inl (G.2.2 0, 432, .inl (ja_ (a_tw A)))), (ma 6, .inl (G.2.2 0, 432, .inl (ja_ (a_th A)))), (ma 7, .inl (G.2.2 0, 432, .inl (ja_ (a_fi A)))), (ma 8, .inl (G.2.2 0, 432, .inl (ja_ (a_ne A)))), (ma 9, .inl (G.2.2 0, 432, .inl (ja_ (a_co A)))), (ma 17, .inl (G.2.2 0, 50, .inl (ja_ (k_no ua.1)))), (ma 18, .inl (G.2.2 1, 50, .inr (.inl (jl_ (k_fr ua.1))))), (ma 19, .inl (G.2.2 1, 50, .inr (.inl (jl_ (k_to ua.1))))), (ma 20, .inl (G.2.2 1, 50, .inr (.inl (jl_ (k_aa ua.1))))), (ma 21, .inl (G.2.2 1, 50, .inr (.inl (jl_ (k_bb ua.1))))), (ma 22, .inl (G.2.2 1, 50, .inr (.inl (jl_ (k_cy ua.1))))), (ma 23, .inl (G.2.2 1, 50, .inr (.inl (jl_ (k_en ua.1))))), (ma 24, .inl (G.2.2 0, 50, .inl (ja_ (k_sp ua.1)))), (ma 27, .inl (G.2.2 1, 603, .inr (.inl (jl_ ua.2.1)))), (ma 28, .inl (G.2.2 1, 603, .inr (.inl (jl_ ua.2.2.1)))), (ma 29, .inl (G.2.2 1, 603, .inr (.inl (jl_ ua.2.2.2.1)))), (ma 30, .inl (G.2.2 1, 603, .inr (.inl (jl_ ua.2.2.2.2.1)))), (ma 31, .inl (G.2.2 0, 603, .inl (ja_ ua.2.2.2.2.2.1))), (ma 25, .inl (G.2.2 0, 3, .inl (ja_ ua.2.2.2.2.2.2.1))), (ma 26, .inl (G.2.2 3, 3, .inl (ja_ ua.2.2.2.2.2.2.2))), (ma 10, .inl (G.2.2 0, 9, .inl (ja_ ro))), (ma 12, .inl (G.2.2 0, 9, .inl (ja_ gr)))] := xw_H.sub hh [1, 2, 3, 4, 5, 6, 7, 8, 9, 10, 11, 12, 13, 14, 15, 16, 17, 18, 19, 20, 21, 22, 23, 24, 0] rfl rfl
    have hpa := hp63
    rw [← hM1] at hpa
    have hmxa := mx_keep hmx (Nat.le_refl 1) hpa.2 hpa.1.2.2.2.2
    refine lv_aload_n hx hb d_M_differ_66 rfl (lv_at hl 1 rfl) ?_
    refine lv_iload_n hx hb d_M_differ_67 rfl (lv_at hl 3 rfl) ?_
    refine lv_iload_n hx hb d_M_differ_68 rfl (lv_at hl 0 rfl) ?_
    refine xw_i2l hx hb d_M_differ_69 (by omega) ?_
    refine lv_aload_n hx hb d_M_differ_70 rfl (lv_at hl 1 rfl) ?_
    refine xw_get F hh.1 (v := .ref (ma 12)) fl_M_40_6 0 rfl rfl d_M_differ_71 ?_
    refine lv_iload_n hx hb d_M_differ_74 rfl (lv_at hl 3 rfl) ?_
    refine xw_iald F hh.1 24 (f := gr) rfl (i := (n2 : Int)) (by omega) d_M_differ_75 ?_
    refine xw_topi (y := gsf n2) hgr2 ?_
    refine xw_i2l hx hb d_M_differ_76 (by omega) ?_
    refine xw_lmul hx hb d_M_differ_77 ?_
    refine lv_iload_n hx hb d_M_differ_78 rfl (lv_at hl 0 rfl) ?_
    refine xw_i2l hx hb d_M_differ_79 (by omega) ?_
    refine lv_lconst (v := xl_ 1) hx hb d_M_differ_80 (by decide) ?_
    refine xw_ladd hx hb d_M_differ_81 ?_
    refine lv_aload_n hx hb d_M_differ_82 rfl (lv_at hl 1 rfl) ?_
    refine xw_get F hh.1 (v := .ref (ma 12)) fl_M_40_6 0 rfl rfl d_M_differ_83 ?_
    refine lv_iload_n hx hb d_M_differ_86 rfl (lv_at hl 3 rfl) ?_
    refine xw_iald F hh.1 24 (f := gr) rfl (i := (n2 : Int)) (by omega) d_M_differ_87 ?_
    refine xw_topi (y := gsf n2) hgr2 ?_
    refine xw_i2l hx hb d_M_differ_88 (by omega) ?_
    refine xw_lmul hx hb d_M_differ_89 ?_
    refine lv_aload_n hx hb d_M_differ_90 rfl (lv_at hl 1 rfl) ?_
    refine xw_get F hh.1 (v := .ref (ma 12)) fl_M_40_6 0 rfl rfl d_M_differ_91 ?_
    refine lv_iload_n hx hb d_M_differ_94 rfl (lv_at hl 3 rfl) ?_
    refine xw_iald F hh.1 24 (f := gr) rfl (i := (n2 : Int)) (by omega) d_M_differ_95 ?_
    refine xw_topi (y := gsf n2) hgr2 ?_
    refine xw_i2l hx hb d_M_differ_96 (by omega) ?_
    refine lv_iconst (v := xi_ 2) hx hb d_M_differ_97 rfl ?_
    refine xw_cv (wc := [(mo, .inr (6, mo_ ma ty at0 dp (k_wy ua.1) un pl sp pe tk du tm)), (ma 3, .inl (G.2.2 0, 432, .inl (ja_ (a_kn A)))), (ma 4, .inl (G.2.2 0, 432, .inl (ja_ (a_on A)))), (ma 5, .inl (G.2.2 0, 432, .inl (ja_ (a_tw A)))), (ma 6, .inl (G.2.2 0, 432, .inl (ja_ (a_th A)))), (ma 7, .inl (G.2.2 0, 432, .inl (ja_ (a_fi A)))), (ma 8, .inl (G.2.2 0, 432, .inl (ja_ (a_ne A)))), (ma 9, .inl (G.2.2 0, 432, .inl (ja_ (a_co A)))), (ma 17, .inl (G.2.2 0, 50, .inl (ja_ (k_no ua.1)))), (ma 18, .inl (G.2.2 1, 50, .inr (.inl (jl_ (k_fr ua.1))))), (ma 19, .inl (G.2.2 1, 50, .inr (.inl (jl_ (k_to ua.1))))), (ma 20, .inl (G.2.2 1, 50, .inr (.inl (jl_ (k_aa ua.1))))), (ma 21, .inl (G.2.2 1, 50, .inr (.inl (jl_ (k_bb ua.1))))), (ma 22, .inl (G.2.2 1, 50, .inr (.inl (jl_ (k_cy ua.1))))), (ma 23, .inl (G.2.2 1, 50, .inr (.inl (jl_ (k_en ua.1))))), (ma 24, .inl (G.2.2 0, 50, .inl (ja_ (k_sp ua.1)))), (ma 27, .inl (G.2.2 1, 603, .inr (.inl (jl_ ua.2.1)))), (ma 28, .inl (G.2.2 1, 603, .inr (.inl (jl_ ua.2.2.1)))), (ma 29, .inl (G.2.2 1, 603, .inr (.inl (jl_ ua.2.2.2.1)))), (ma 30, .inl (G.2.2 1, 603, .inr (.inl (jl_ ua.2.2.2.2.1)))), (ma 31, .inl (G.2.2 0, 603, .inl (ja_ ua.2.2.2.2.2.1))), (ma 25, .inl (G.2.2 0, 3, .inl (ja_ ua.2.2.2.2.2.2.1))), (ma 26, .inl (G.2.2 3, 3, .inl (ja_ ua.2.2.2.2.2.2.2))), (ma 10, .inl (G.2.2 0, 9, .inl (ja_ ro)))]) (wr := [(ma 12, .inl (G.2.2 0, 9, .inl (ja_ gr)))]) hh [0, 1, 2, 3, 4, 5, 6, 7, 8, 9, 10, 11, 12, 13, 14, 15, 16, 17, 18, 19, 20, 21, 22, 23] [24] rfl rfl rfl (by decide) (xw_rV F hh [0, 1, 2, 3, 4, 5, 6, 7, 8, 9, 10, 11, 12, 13, 14, 15, 16, 17, 18, 19, 20, 21, 22, 23] rfl rfl (c_M_gather l G H.size mo ma ty at0 dp un pl sp pe tk du tm ro A (ua.1) (n2 : Int) (Tr n2) m2 (ci * gsf n2) ((ci + 1) * gsf n2) (gsf n2) ⟨by omega, by omega⟩ hrep2 (fun _ => hw2) ⟨⟨by omega, by omega⟩, ⟨by omega, by omega⟩, by omega, by omega, by omega⟩ 2 (by decide) ua.2.1 ua.2.2.1 ua.2.2.2.1 ua.2.2.2.2.1 ua.2.2.2.2.2.1 ua.2.2.2.2.2.2.1 ua.2.2.2.2.2.2.2 hpa.1.2.2.2.2) trivial lk_M_235 cd_M_gather se_M_gather _ hh.1 0 rfl rfl rfl rfl ⟨by decide, by decide⟩ rfl hl.1 rfl (Nat.le_of_ble_eq_true rfl) d_M_differ_98 ⟨Nat.le_of_ble_eq_true rfl, Nat.le_of_ble_eq_true rfl⟩) (fun ub H locs hp98 hX hz hk hh => ?_)
    have hh : xw_H G A0 H0 H locs [(mo, .inr (6, mo_ ma ty at0 dp (k_wy ub.1) un pl sp pe tk du tm)), (ma 3, .inl (G.2.2 0, 432, .inl (ja_ (a_kn A)))), (ma 4, .inl (G.2.2 0, 432, .inl (ja_ (a_on A)))), (ma 5, .inl (G.2.2 0, 432, .inl (ja_ (a_tw A)))), (ma 6, .inl (G.2.2 0, 432, .inl (ja_ (a_th A)))), (ma 7, .inl (G.2.2 0, 432, .inl (ja_ (a_fi A)))), (ma 8, .inl (G.2.2 0, 432, .inl (ja_ (a_ne A)))), (ma 9, .inl (G.2.2 0, 432, .inl (ja_ (a_co A)))), (ma 17, .inl (G.2.2 0, 50, .inl (ja_ (k_no ub.1)))), (ma 18, .inl (G.2.2 1, 50, .inr (.inl (jl_ (k_fr ub.1))))), (ma 19, .inl (G.2.2 1, 50, .inr (.inl (jl_ (k_to ub.1))))), (ma 20, .inl (G.2.2 1, 50, .inr (.inl (jl_ (k_aa ub.1))))), (ma 21, .inl (G.2.2 1, 50, .inr (.inl (jl_ (k_bb ub.1))))), (ma 22, .inl (G.2.2 1, 50, .inr (.inl (jl_ (k_cy ub.1))))), (ma 23, .inl (G.2.2 1, 50, .inr (.inl (jl_ (k_en ub.1))))), (ma 24, .inl (G.2.2 0, 50, .inl (ja_ (k_sp ub.1)))), (ma 27, .inl (G.2.2 1, 603, .inr (.inl (jl_ ub.2.1)))), (ma 28, .inl (G.2.2 1, 603, .inr (.inl (jl_ ub.2.2.1)))), (ma 29, .inl (G.2.2 1, 603, .inr (.inl (jl_ ub.2.2.2.1)))), (ma 30, .inl (G.2.2 1, 603, .inr (.inl (jl_ ub.2.2.2.2.1)))), (ma 31, .inl (G.2.2 0, 603, .inl (ja_ ub.2.2.2.2.2.1))), (ma 25, .inl (G.2.2 0, 3, .inl (ja_ ub.2.2.2.2.2.2.1))), (ma 26, .inl (G.2.2 3, 3, .inl (ja_ ub.2.2.2.2.2.2.2))), (ma 10, .inl (G.2.2 0, 9, .inl (ja_ ro))), (ma 12, .inl (G.2.2 0, 9, .inl (ja_ gr)))] := xw_H.sub hh [1, 2, 3, 4, 5, 6, 7, 8, 9, 10, 11, 12, 13, 14, 15, 16, 17, 18, 19, 20, 21, 22, 23, 24, 0] rfl rfl
    have hpb := hp98
    rw [← hM2] at hpb
    have hmxb := mx_keep hmxa (by decide) hpb.2 hpb.1.2.2.2.2
    have hkb := hpb.2.2 1 (by decide)
    refine lv_aload_n hx hb d_M_differ_101 rfl (lv_at hl 1 rfl) ?_
    refine xw_get F hh.1 (v := .ref (ma 26)) fl_M_77_6 0 rfl rfl d_M_differ_102 ?_
    refine lv_iconst (v := xi_ 1) hx hb d_M_differ_105 rfl ?_
    refine xw_zald F hh.1 22 (f := ub.2.2.2.2.2.2.2) rfl (i := 1) (by omega) d_M_differ_106 ?_
    refine xw_topi (y := b2_ M1.2) (hkb.2.trans hpa.1.2.1) ?_
    refine xw_if_ne hx hb 119 d_M_differ_107 (by decide) (by omega) (fun c107 => ?_) (fun c107 => ?_)
    · rw [if_pos (b2_ne c107)] at hTG
      exact km ub ls H locs hmxb hTG hh
    · refine lv_aload_n hx hb d_M_differ_110 rfl (lv_at hl 1 rfl) ?_
      refine xw_get F hh.1 (v := .ref (ma 26)) fl_M_77_6 0 rfl rfl d_M_differ_111 ?_
      refine lv_iconst (v := xi_ 2) hx hb d_M_differ_114 rfl ?_
      refine xw_zald F hh.1 22 (f := ub.2.2.2.2.2.2.2) rfl (i := 2) (by omega) d_M_differ_115 ?_
      refine xw_topi (y := b2_ M2.2) hpb.1.2.1 ?_
      refine xw_if_eq hx hb 122 d_M_differ_116 (by decide) (by omega) (fun c116 => ?_) (fun c116 => ?_)
      · refine lv_aload_n hx hb d_M_differ_122 rfl (lv_at hl 1 rfl) ?_
        refine lv_aload_n hx hb d_M_differ_123 rfl (lv_at hl 1 rfl) ?_
        refine xw_get F hh.1 (v := .ref (ma 12)) fl_M_40_6 0 rfl rfl d_M_differ_124 ?_
        refine lv_iload_n hx hb d_M_differ_127 rfl (lv_at hl 2 rfl) ?_
        refine xw_iald F hh.1 24 (f := gr) rfl (i := (n1 : Int)) (by omega) d_M_differ_128 ?_
        refine xw_topi (y := gsf n1) hgr1 ?_
        refine xw_i2l hx hb d_M_differ_129 (by omega) ?_
        refine lv_aload_n hx hb d_M_differ_130 rfl (lv_at hl 1 rfl) ?_
        refine xw_get F hh.1 (v := .ref (ma 12)) fl_M_40_6 0 rfl rfl d_M_differ_131 ?_
        refine lv_iload_n hx hb d_M_differ_134 rfl (lv_at hl 3 rfl) ?_
        refine xw_iald F hh.1 24 (f := gr) rfl (i := (n2 : Int)) (by omega) d_M_differ_135 ?_
        refine xw_topi (y := gsf n2) hgr2 ?_
        refine xw_i2l hx hb d_M_differ_136 (by omega) ?_
        rw [if_neg (by rw [b2_e0 c107]; decide), if_neg (by rw [b2_e0 c116]; decide)] at hTG
        have hr1 : mr_ (201 * 1) ub.2.1 ub.2.2.2.1 ub.2.2.1 ub.2.2.2.2.1 ub.2.2.2.2.2.1 M1.1 := fun p r hr => by
          have hp := (List.getElem?_eq_some_iff.mp hr).1
          have hl9 := hpa.1.2.2.2.1.2.1
          obtain ⟨a1, a2, a3, a4, a5⟩ := hpb.2.1 (201 * 1 + p) (Or.inl (by omega))
          rw [a1, a2, a3, a4, a5]
          exact hpa.1.2.2.1 p r hr
        refine xw_ci (wc := [(mo, .inr (6, mo_ ma ty at0 dp (k_wy ub.1) un pl sp pe tk du tm)), (ma 27, .inl (G.2.2 1, 603, .inr (.inl (jl_ ub.2.1)))), (ma 28, .inl (G.2.2 1, 603, .inr (.inl (jl_ ub.2.2.1)))), (ma 29, .inl (G.2.2 1, 603, .inr (.inl (jl_ ub.2.2.2.1)))), (ma 30, .inl (G.2.2 1, 603, .inr (.inl (jl_ ub.2.2.2.2.1)))), (ma 31, .inl (G.2.2 0, 603, .inl (ja_ ub.2.2.2.2.2.1))), (ma 25, .inl (G.2.2 0, 3, .inl (ja_ ub.2.2.2.2.2.2.1)))]) (wr := [(ma 3, .inl (G.2.2 0, 432, .inl (ja_ (a_kn A)))), (ma 4, .inl (G.2.2 0, 432, .inl (ja_ (a_on A)))), (ma 5, .inl (G.2.2 0, 432, .inl (ja_ (a_tw A)))), (ma 6, .inl (G.2.2 0, 432, .inl (ja_ (a_th A)))), (ma 7, .inl (G.2.2 0, 432, .inl (ja_ (a_fi A)))), (ma 8, .inl (G.2.2 0, 432, .inl (ja_ (a_ne A)))), (ma 9, .inl (G.2.2 0, 432, .inl (ja_ (a_co A)))), (ma 17, .inl (G.2.2 0, 50, .inl (ja_ (k_no ub.1)))), (ma 18, .inl (G.2.2 1, 50, .inr (.inl (jl_ (k_fr ub.1))))), (ma 19, .inl (G.2.2 1, 50, .inr (.inl (jl_ (k_to ub.1))))), (ma 20, .inl (G.2.2 1, 50, .inr (.inl (jl_ (k_aa ub.1))))), (ma 21, .inl (G.2.2 1, 50, .inr (.inl (jl_ (k_bb ub.1))))), (ma 22, .inl (G.2.2 1, 50, .inr (.inl (jl_ (k_cy ub.1))))), (ma 23, .inl (G.2.2 1, 50, .inr (.inl (jl_ (k_en ub.1))))), (ma 24, .inl (G.2.2 0, 50, .inl (ja_ (k_sp ub.1)))), (ma 26, .inl (G.2.2 3, 3, .inl (ja_ ub.2.2.2.2.2.2.2))), (ma 10, .inl (G.2.2 0, 9, .inl (ja_ ro))), (ma 12, .inl (G.2.2 0, 9, .inl (ja_ gr)))]) hh [0, 16, 17, 18, 19, 20, 21] [1, 2, 3, 4, 5, 6, 7, 8, 9, 10, 11, 12, 13, 14, 15, 22, 23, 24] rfl rfl rfl (by decide) (xw_rV F hh [0, 16, 17, 18, 19, 20, 21] rfl rfl (c_M_areOther l G H.size mo ma ty at0 dp (k_wy ub.1) un pl sp pe tk du tm ub.2.1 ub.2.2.1 ub.2.2.2.1 ub.2.2.2.2.1 ub.2.2.2.2.2.1 ub.2.2.2.2.2.2.1 M1.1 M2.1 (hkb.1.trans hpa.1.1) hpb.1.1 hpa.1.2.2.2.1.2.1 hpb.1.2.2.2.1.2.1 hr1 hpb.1.2.2.1 hpb.1.2.2.2.2 (gsf n1) (gsf n2) ⟨⟨by omega, by omega⟩, ⟨by omega, by omega⟩⟩) trivial lk_M_238 cd_M_areOther se_M_areOther _ hh.1 0 rfl rfl rfl rfl ⟨by decide, by decide⟩ rfl hl.1 rfl (Nat.le_of_ble_eq_true rfl) d_M_differ_137 ⟨Nat.le_of_ble_eq_true rfl, Nat.le_of_ble_eq_true rfl⟩) (fun z137 u_ H locs hp137 hX hz hk hh => ?_)
        have hh : xw_H G A0 H0 H locs [(mo, .inr (6, mo_ ma ty at0 dp (k_wy ub.1) un pl sp pe tk du tm)), (ma 3, .inl (G.2.2 0, 432, .inl (ja_ (a_kn A)))), (ma 4, .inl (G.2.2 0, 432, .inl (ja_ (a_on A)))), (ma 5, .inl (G.2.2 0, 432, .inl (ja_ (a_tw A)))), (ma 6, .inl (G.2.2 0, 432, .inl (ja_ (a_th A)))), (ma 7, .inl (G.2.2 0, 432, .inl (ja_ (a_fi A)))), (ma 8, .inl (G.2.2 0, 432, .inl (ja_ (a_ne A)))), (ma 9, .inl (G.2.2 0, 432, .inl (ja_ (a_co A)))), (ma 17, .inl (G.2.2 0, 50, .inl (ja_ (k_no ub.1)))), (ma 18, .inl (G.2.2 1, 50, .inr (.inl (jl_ (k_fr ub.1))))), (ma 19, .inl (G.2.2 1, 50, .inr (.inl (jl_ (k_to ub.1))))), (ma 20, .inl (G.2.2 1, 50, .inr (.inl (jl_ (k_aa ub.1))))), (ma 21, .inl (G.2.2 1, 50, .inr (.inl (jl_ (k_bb ub.1))))), (ma 22, .inl (G.2.2 1, 50, .inr (.inl (jl_ (k_cy ub.1))))), (ma 23, .inl (G.2.2 1, 50, .inr (.inl (jl_ (k_en ub.1))))), (ma 24, .inl (G.2.2 0, 50, .inl (ja_ (k_sp ub.1)))), (ma 27, .inl (G.2.2 1, 603, .inr (.inl (jl_ ub.2.1)))), (ma 28, .inl (G.2.2 1, 603, .inr (.inl (jl_ ub.2.2.1)))), (ma 29, .inl (G.2.2 1, 603, .inr (.inl (jl_ ub.2.2.2.1)))), (ma 30, .inl (G.2.2 1, 603, .inr (.inl (jl_ ub.2.2.2.2.1)))), (ma 31, .inl (G.2.2 0, 603, .inl (ja_ ub.2.2.2.2.2.1))), (ma 25, .inl (G.2.2 0, 3, .inl (ja_ ub.2.2.2.2.2.2.1))), (ma 26, .inl (G.2.2 3, 3, .inl (ja_ ub.2.2.2.2.2.2.2))), (ma 10, .inl (G.2.2 0, 9, .inl (ja_ ro))), (ma 12, .inl (G.2.2 0, 9, .inl (ja_ gr)))] := xw_H.sub hh [18, 0, 1, 2, 3, 4, 5, 6, 7, 8, 9, 10, 11, 12, 13, 14, 19, 20, 21, 22, 23, 24, 15, 16, 17] rfl rfl
        obtain rfl : z137 = b2_ (! decide (M1.1.map (srow_ (gsf n2)) = M2.1.map (srow_ (gsf n1)))) := hp137
        have hb3 := b2_01 (! decide (M1.1.map (srow_ (gsf n2)) = M2.1.map (srow_ (gsf n1))))
        refine xw_if_eq hx hb 145 d_M_differ_140 (by decide) (by omega) (fun c140 => ?_) (fun c140 => ?_)
        · refine lv_iinc (k := 0) (v := xi_ (ci + 1)) (lv' := [(3, .int (xi_ (ci + 1))), (0, .ref mo), (1, .int (xi_ (n1 : Int))), (2, .int (xi_ (n2 : Int)))]) hx hb d_M_differ_145 hl rfl (xi_add _ _).symm (by decide) rfl (fun ls hl => ?_)
          refine lv_goto (tgt := 25) hx hb d_M_differ_148 (by decide) ?_
          have hde : (M1.1.map (srow_ (gsf n2)) = M2.1.map (srow_ (gsf n1))) := by
            have := b2_e0 c140
            simpa using this
          rw [if_pos hde] at hTG
          exact ihn (ci + 1) ub.1 ub.2.1 ub.2.2.1 ub.2.2.2.1 ub.2.2.2.2.1 ub.2.2.2.2.2.1 ub.2.2.2.2.2.2.1 ub.2.2.2.2.2.2.2 ls H locs (by omega) (by omega) hTG hmxb (lv_sub hl [0, 1, 2, 3] rfl) hh
        · have hde : ¬ (M1.1.map (srow_ (gsf n2)) = M2.1.map (srow_ (gsf n1))) := by
            have := b2_ne c140
            simpa using this
          rw [if_neg hde] at hTG
          exact kc ub ci ls H locs hmxb hTG (lv_sub hl [0] rfl) hh
      · rw [if_neg (by rw [b2_e0 c107]; decide), if_pos (b2_ne c116)] at hTG
        exact km ub ls H locs hmxb hTG hh
set_option maxHeartbeats 4000000 in
set_option maxRecDepth 100000 in
theorem c_M_differ (l : Launch) (G : GG_) (sz : Nat) (mo : Nat) (ma : Nat → Nat) (ty at0 dp un pl sp pe tk du tm : Int) (ro gr : Nat → Int) (A : MT) (k : MK) (be so wh we le mn mu : Nat → Int) (st : List Row_ × Bool) (hmx : mx_ be so wh we le mn st.1) (gsf : Nat → Int) (Tr : Nat → PT 40) (hms : msl_ A ro gr gsf Tr) (hsp : sp_ok gsf Tr) (a b : Int) (hn : (-2147483648 ≤ a ∧ a ≤ 2147483647) ∧ (-2147483648 ≤ b ∧ b ≤ 2147483647)) : Met l y_M_differ (cw_ y_M_differ b_M_differ 4 (some .int)) rm_M_differ (xw_P G [.ref mo, .int (xi_ a), .int (xi_ b)] sz [(mo, .inr (6, mo_ ma ty at0 dp (k_wy k) un pl sp pe tk du tm)), (ma 3, .inl (G.2.2 0, 432, .inl (ja_ (a_kn A)))), (ma 4, .inl (G.2.2 0, 432, .inl (ja_ (a_on A)))), (ma 5, .inl (G.2.2 0, 432, .inl (ja_ (a_tw A)))), (ma 6, .inl (G.2.2 0, 432, .inl (ja_ (a_th A)))), (ma 7, .inl (G.2.2 0, 432, .inl (ja_ (a_fi A)))), (ma 8, .inl (G.2.2 0, 432, .inl (ja_ (a_ne A)))), (ma 9, .inl (G.2.2 0, 432, .inl (ja_ (a_co A)))), (ma 17, .inl (G.2.2 0, 50, .inl (ja_ (k_no k)))), (ma 18, .inl (G.2.2 1, 50, .inr (.inl (jl_ (k_fr k))))), (ma 19, .inl (G.2.2 1, 50, .inr (.inl (jl_ (k_to k))))), (ma 20, .inl (G.2.2 1, 50, .inr (.inl (jl_ (k_aa k))))), (ma 21, .inl (G.2.2 1, 50, .inr (.inl (jl_ (k_bb k))))), (ma 22, .inl (G.2.2 1, 50, .inr (.inl (jl_ (k_cy k))))), (ma 23, .inl (G.2.2 1, 50, .inr (.inl (jl_ (k_en k))))), (ma 24, .inl (G.2.2 0, 50, .inl (ja_ (k_sp k)))), (ma 27, .inl (G.2.2 1, 603, .inr (.inl (jl_ be)))), (ma 28, .inl (G.2.2 1, 603, .inr (.inl (jl_ so)))), (ma 29, .inl (G.2.2 1, 603, .inr (.inl (jl_ wh)))), (ma 30, .inl (G.2.2 1, 603, .inr (.inl (jl_ we)))), (ma 31, .inl (G.2.2 0, 603, .inl (ja_ le))), (ma 25, .inl (G.2.2 0, 3, .inl (ja_ mn))), (ma 26, .inl (G.2.2 3, 3, .inl (ja_ mu))), (ma 10, .inl (G.2.2 0, 9, .inl (ja_ ro))), (ma 12, .inl (G.2.2 0, 9, .inl (ja_ gr)))] (fun _ => True)) (xw_Qi (S := MK × (Nat → Int) × (Nat → Int) × (Nat → Int) × (Nat → Int) × (Nat → Int) × (Nat → Int) × (Nat → Int)) G sz [(mo, .inr (6, mo_ ma ty at0 dp (k_wy k) un pl sp pe tk du tm)), (ma 3, .inl (G.2.2 0, 432, .inl (ja_ (a_kn A)))), (ma 4, .inl (G.2.2 0, 432, .inl (ja_ (a_on A)))), (ma 5, .inl (G.2.2 0, 432, .inl (ja_ (a_tw A)))), (ma 6, .inl (G.2.2 0, 432, .inl (ja_ (a_th A)))), (ma 7, .inl (G.2.2 0, 432, .inl (ja_ (a_fi A)))), (ma 8, .inl (G.2.2 0, 432, .inl (ja_ (a_ne A)))), (ma 9, .inl (G.2.2 0, 432, .inl (ja_ (a_co A)))), (ma 17, .inl (G.2.2 0, 50, .inl (ja_ (k_no k)))), (ma 18, .inl (G.2.2 1, 50, .inr (.inl (jl_ (k_fr k))))), (ma 19, .inl (G.2.2 1, 50, .inr (.inl (jl_ (k_to k))))), (ma 20, .inl (G.2.2 1, 50, .inr (.inl (jl_ (k_aa k))))), (ma 21, .inl (G.2.2 1, 50, .inr (.inl (jl_ (k_bb k))))), (ma 22, .inl (G.2.2 1, 50, .inr (.inl (jl_ (k_cy k))))), (ma 23, .inl (G.2.2 1, 50, .inr (.inl (jl_ (k_en k))))), (ma 24, .inl (G.2.2 0, 50, .inl (ja_ (k_sp k)))), (ma 27, .inl (G.2.2 1, 603, .inr (.inl (jl_ be)))), (ma 28, .inl (G.2.2 1, 603, .inr (.inl (jl_ so)))), (ma 29, .inl (G.2.2 1, 603, .inr (.inl (jl_ wh)))), (ma 30, .inl (G.2.2 1, 603, .inr (.inl (jl_ we)))), (ma 31, .inl (G.2.2 0, 603, .inl (ja_ le))), (ma 25, .inl (G.2.2 0, 3, .inl (ja_ mn))), (ma 26, .inl (G.2.2 3, 3, .inl (ja_ mu))), (ma 10, .inl (G.2.2 0, 9, .inl (ja_ ro))), (ma 12, .inl (G.2.2 0, 9, .inl (ja_ gr)))] (fun w u => w = df_ans gsf Tr a b ∧ mx_ u.2.1 u.2.2.1 u.2.2.2.1 u.2.2.2.2.1 u.2.2.2.2.2.1 u.2.2.2.2.2.2.1 st.1) (fun u => [(mo, .inr (6, mo_ ma ty at0 dp (k_wy u.1) un pl sp pe tk du tm)), (ma 3, .inl (G.2.2 0, 432, .inl (ja_ (a_kn A)))), (ma 4, .inl (G.2.2 0, 432, .inl (ja_ (a_on A)))), (ma 5, .inl (G.2.2 0, 432, .inl (ja_ (a_tw A)))), (ma 6, .inl (G.2.2 0, 432, .inl (ja_ (a_th A)))), (ma 7, .inl (G.2.2 0, 432, .inl (ja_ (a_fi A)))), (ma 8, .inl (G.2.2 0, 432, .inl (ja_ (a_ne A)))), (ma 9, .inl (G.2.2 0, 432, .inl (ja_ (a_co A)))), (ma 17, .inl (G.2.2 0, 50, .inl (ja_ (k_no u.1)))), (ma 18, .inl (G.2.2 1, 50, .inr (.inl (jl_ (k_fr u.1))))), (ma 19, .inl (G.2.2 1, 50, .inr (.inl (jl_ (k_to u.1))))), (ma 20, .inl (G.2.2 1, 50, .inr (.inl (jl_ (k_aa u.1))))), (ma 21, .inl (G.2.2 1, 50, .inr (.inl (jl_ (k_bb u.1))))), (ma 22, .inl (G.2.2 1, 50, .inr (.inl (jl_ (k_cy u.1))))), (ma 23, .inl (G.2.2 1, 50, .inr (.inl (jl_ (k_en u.1))))), (ma 24, .inl (G.2.2 0, 50, .inl (ja_ (k_sp u.1)))), (ma 27, .inl (G.2.2 1, 603, .inr (.inl (jl_ u.2.1)))), (ma 28, .inl (G.2.2 1, 603, .inr (.inl (jl_ u.2.2.1)))), (ma 29, .inl (G.2.2 1, 603, .inr (.inl (jl_ u.2.2.2.1)))), (ma 30, .inl (G.2.2 1, 603, .inr (.inl (jl_ u.2.2.2.2.1)))), (ma 31, .inl (G.2.2 0, 603, .inl (ja_ u.2.2.2.2.2.1))), (ma 25, .inl (G.2.2 0, 3, .inl (ja_ u.2.2.2.2.2.2.1))), (ma 26, .inl (G.2.2 3, 3, .inl (ja_ u.2.2.2.2.2.2.2))), (ma 10, .inl (G.2.2 0, 9, .inl (ja_ ro))), (ma 12, .inl (G.2.2 0, 9, .inl (ja_ gr)))]) (fun _ _ => True)) 0 0 (va_A [(mo, .inr (6, mo_ ma ty at0 dp (k_wy k) un pl sp pe tk du tm)), (ma 3, .inl (G.2.2 0, 432, .inl (ja_ (a_kn A)))), (ma 4, .inl (G.2.2 0, 432, .inl (ja_ (a_on A)))), (ma 5, .inl (G.2.2 0, 432, .inl (ja_ (a_tw A)))), (ma 6, .inl (G.2.2 0, 432, .inl (ja_ (a_th A)))), (ma 7, .inl (G.2.2 0, 432, .inl (ja_ (a_fi A)))), (ma 8, .inl (G.2.2 0, 432, .inl (ja_ (a_ne A)))), (ma 9, .inl (G.2.2 0, 432, .inl (ja_ (a_co A)))), (ma 17, .inl (G.2.2 0, 50, .inl (ja_ (k_no k)))), (ma 18, .inl (G.2.2 1, 50, .inr (.inl (jl_ (k_fr k))))), (ma 19, .inl (G.2.2 1, 50, .inr (.inl (jl_ (k_to k))))), (ma 20, .inl (G.2.2 1, 50, .inr (.inl (jl_ (k_aa k))))), (ma 21, .inl (G.2.2 1, 50, .inr (.inl (jl_ (k_bb k))))), (ma 22, .inl (G.2.2 1, 50, .inr (.inl (jl_ (k_cy k))))), (ma 23, .inl (G.2.2 1, 50, .inr (.inl (jl_ (k_en k))))), (ma 24, .inl (G.2.2 0, 50, .inl (ja_ (k_sp k)))), (ma 27, .inl (G.2.2 1, 603, .inr (.inl (jl_ be)))), (ma 28, .inl (G.2.2 1, 603, .inr (.inl (jl_ so)))), (ma 29, .inl (G.2.2 1, 603, .inr (.inl (jl_ wh)))), (ma 30, .inl (G.2.2 1, 603, .inr (.inl (jl_ we)))), (ma 31, .inl (G.2.2 0, 603, .inl (ja_ le))), (ma 25, .inl (G.2.2 0, 3, .inl (ja_ mn))), (ma 26, .inl (G.2.2 3, 3, .inl (ja_ mu))), (ma 10, .inl (G.2.2 0, 9, .inl (ja_ ro))), (ma 12, .inl (G.2.2 0, 9, .inl (ja_ gr)))] sz) := by
  refine xw_met (by decide) (Nat.le_of_ble_eq_true rfl) ?_
  intro p0 e0 s m0 args below meth c0 F hr hlk hin hsz hh hX ls hl
  subst hsz
  have hx := F.1
  have hb := F.2.1
  have hl : lv_has ls 4 [(0, .ref mo), (1, .int (xi_ a)), (2, .int (xi_ b))] := hl
  refine lv_iload_n hx hb d_M_differ_0 rfl (lv_at hl 1 rfl) ?_
  refine xw_if_lt hx hb 20 d_M_differ_1 (by decide) (by omega) (fun c1 => ?_) (fun c1 => ?_)
  · refine lv_bipush (v := xi_ (-9)) hx hb d_M_differ_20 (by decide) ?_
    exact xw_iret F hr hlk hh rfl (k, be, so, wh, we, le, mn, mu) rfl ⟨by unfold df_ans; rw [if_neg (by omega)], hmx⟩ trivial d_M_differ_22
  · refine lv_iload_n hx hb d_M_differ_4 rfl (lv_at hl 1 rfl) ?_
    refine lv_bipush (v := xi_ 7) hx hb d_M_differ_5 (by decide) ?_
    refine xw_icmp_gt hx hb 20 d_M_differ_7 (by decide) (by omega) (fun c7 => ?_) (fun c7 => ?_)
    · refine lv_bipush (v := xi_ (-9)) hx hb d_M_differ_20 (by decide) ?_
      exact xw_iret F hr hlk hh rfl (k, be, so, wh, we, le, mn, mu) rfl ⟨by unfold df_ans; rw [if_neg (by omega)], hmx⟩ trivial d_M_differ_22
    · refine lv_iload_n hx hb d_M_differ_10 rfl (lv_at hl 2 rfl) ?_
      refine xw_if_lt hx hb 20 d_M_differ_11 (by decide) (by omega) (fun c11 => ?_) (fun c11 => ?_)
      · refine lv_bipush (v := xi_ (-9)) hx hb d_M_differ_20 (by decide) ?_
        exact xw_iret F hr hlk hh rfl (k, be, so, wh, we, le, mn, mu) rfl ⟨by unfold df_ans; rw [if_neg (by omega)], hmx⟩ trivial d_M_differ_22
      · refine lv_iload_n hx hb d_M_differ_14 rfl (lv_at hl 2 rfl) ?_
        refine lv_bipush (v := xi_ 7) hx hb d_M_differ_15 (by decide) ?_
        refine xw_icmp_le hx hb 23 d_M_differ_17 (by decide) (by omega) (fun c17 => ?_) (fun c17 => ?_)
        · obtain ⟨n1, rfl⟩ : ∃ n1 : Nat, a = (n1 : Int) := ⟨a.toNat, by omega⟩
          obtain ⟨n2, rfl⟩ : ∃ n2 : Nat, b = (n2 : Int) := ⟨b.toNat, by omega⟩
          have hdf : df_ans gsf Tr (n1 : Int) (n2 : Int) = dif_ (Tr n1) (Tr n2) (gsf n1 * gsf n2) 16 0 := by
            unfold df_ans
            exact if_pos ⟨⟨by omega, by omega⟩, by omega, by omega⟩
          refine lv_iconst (v := xi_ 0) hx hb d_M_differ_23 rfl ?_
          refine lv_istore_n (lv' := [(3, .int (xi_ 0)), (0, .ref mo), (1, .int (xi_ (n1 : Int))), (2, .int (xi_ (n2 : Int)))]) hx hb d_M_differ_24 rfl hl (by decide) rfl (fun ls hl => ?_)
          refine lp_M_differ F mo ma ty at0 dp un pl sp pe tk du tm ro gr A st gsf Tr hms hsp n1 n2 ⟨by omega, by omega⟩ (df_ans gsf Tr (n1 : Int) (n2 : Int)) (fun u ls H locs hm9 hT9 hh => ?_) (fun u ci ls H locs hm9 hT9 hl hh => ?_) (fun u ls H locs hm9 hT9 hh => ?_) 16 0 k be so wh we le mn mu ls s.heap _ (by omega) (by omega) hdf hmx (lv_sub hl [0, 1, 2, 3] rfl) hh
          · refine lv_bipush (v := xi_ (-2)) hx hb d_M_differ_119 (by decide) ?_
            exact xw_iret F hr hlk hh rfl u rfl ⟨hT9.symm, hm9⟩ trivial d_M_differ_121
          · refine lv_iload_n hx hb d_M_differ_143 rfl (lv_at hl 0 rfl) ?_
            exact xw_iret F hr hlk hh rfl u rfl ⟨hT9.symm, hm9⟩ trivial d_M_differ_144
          · refine lv_iconst (v := xi_ (-1)) hx hb d_M_differ_151 rfl ?_
            exact xw_iret F hr hlk hh rfl u rfl ⟨hT9.symm, hm9⟩ trivial d_M_differ_152
        · refine lv_bipush (v := xi_ (-9)) hx hb d_M_differ_20 (by decide) ?_
          exact xw_iret F hr hlk hh rfl (k, be, so, wh, we, le, mn, mu) rfl ⟨by unfold df_ans; rw [if_neg (by omega)], hmx⟩ trivial d_M_differ_22
