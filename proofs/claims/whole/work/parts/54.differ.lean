/-! CyclePatterns.differ -/
def df_run (T : PT 40) (U c : Int) : List Row_ × Bool := run_ 200 sk_pa (gen_ 40 T U 0 (c * U) (c * U + U)) ([], false)
def dif_ (T1 T2 : PT 40) (U : Int) : Nat → Int → Int
  | 0, _ => -1
  | N + 1, c => if (df_run T1 U c).2 = true then -2 else if (df_run T2 U c).2 = true then -2 else if (df_run T1 U c).1 = (df_run T2 U c).1 then dif_ T1 T2 U N (c + 1) else c
def df_ans (gsf : Nat → Int) (Tr : Nat → PT 40) (n1 n2 : Int) : Int := if (0 ≤ n1 ∧ n1 < 8) ∧ (0 ≤ n2 ∧ n2 < 8) then dif_ (Tr n1.toNat) (Tr n2.toNat) (gsf n1.toNat * gsf n2.toNat) 16 0 else -9
def rm_X_differ : Room := { frames := 212, cells := 0, slots := 0, locals := 8427 }
set_option maxHeartbeats 4000000 in
set_option maxRecDepth 100000 in
theorem lp_X_differ {p0 : Program} {l : Launch} {e0 : Env} {s : State} {m0 : MethodId} {args : Array Value} {below : List Frame} {meth : Method} {c0 : Code} {Q : State → Prop} {G : GG_} {A : Nat → Prop} {H0 : Heap} (F : xw_F p0 s m0 args c0 b_X_differ 8 R_X G) (xo rd pa gs fo p1 p2 du : Nat) (fu pl sc ss tk : Int) (r v ra r2 v2 ra2 : Nat) (paf : Nat → Option Nat) (gsf : Nat → Int) (Tr : Nat → PT 40) (hsp : sp_ok gsf Tr) (Sd : Nat → Prop) (hSd : ∀ q : Nat, Sd q → q ∉ [xo, pa, gs, p1, r, v, ra, p2, r2, v2, ra2]) (n1 n2 : Int) (hn : (0 ≤ n1 ∧ n1 < 8) ∧ (0 ≤ n2 ∧ n2 < 8)) (hX0 : sh_ok G Sd paf Tr H0) (hA : ∀ q : Nat, Sd q → q < H0.size → ¬ A q) (TG : Int)
    (km : ∀ (u : (Int × Int × (Nat → Int) × (Nat → Int)) × (Int × Int × (Nat → Int) × (Nat → Int))) (ls : Array Slot) (H : Heap) (locs : List Loc), (∃ sa sb, rr_ 200 u.1.1 u.1.2.1 u.1.2.2.1 u.1.2.2.2 sa ∧ rr_ 200 u.2.1 u.2.2.1 u.2.2.2.1 u.2.2.2.2 sb) → TG = -2 → xw_H G A H0 H locs [(xo, .inr (0, xo_ rd pa gs fo p1 p2 du fu pl sc ss tk)), (pa, .inl (G.2.2 4, 8, .inr (.inr (.inr (.inr paf))))), (gs, .inl (G.2.2 0, 8, .inl (ja_ gsf))), (p1, .inr (4, [.ref r])), (r, .inr (3, [.int (xi_ (200 : Int)), .ref v, .ref ra, .int (xi_ u.1.1), .int (xi_ u.1.2.1)])), (v, .inl (G.2.2 1, (200 * 5), .inr (.inl (jl_ u.1.2.2.1)))), (ra, .inl (G.2.2 0, 200, .inl (ja_ u.1.2.2.2))), (p2, .inr (4, [.ref r2])), (r2, .inr (3, [.int (xi_ (200 : Int)), .ref v2, .ref ra2, .int (xi_ u.2.1), .int (xi_ u.2.2.1)])), (v2, .inl (G.2.2 1, (200 * 5), .inr (.inl (jl_ u.2.2.2.1)))), (ra2, .inl (G.2.2 0, 200, .inl (ja_ u.2.2.2.2)))] → W p0 l e0 rm_X_differ s m0 args below meth c0 H locs 0 0 Q (F0 m0 96 ls []))
    (kc : ∀ (u : (Int × Int × (Nat → Int) × (Nat → Int)) × (Int × Int × (Nat → Int) × (Nat → Int))) (c : Int) (ls : Array Slot) (H : Heap) (locs : List Loc), (∃ sa sb, rr_ 200 u.1.1 u.1.2.1 u.1.2.2.1 u.1.2.2.2 sa ∧ rr_ 200 u.2.1 u.2.2.1 u.2.2.2.1 u.2.2.2.2 sb) → TG = c → lv_has ls 8 [(5, .int (xi_ c))] → xw_H G A H0 H locs [(xo, .inr (0, xo_ rd pa gs fo p1 p2 du fu pl sc ss tk)), (pa, .inl (G.2.2 4, 8, .inr (.inr (.inr (.inr paf))))), (gs, .inl (G.2.2 0, 8, .inl (ja_ gsf))), (p1, .inr (4, [.ref r])), (r, .inr (3, [.int (xi_ (200 : Int)), .ref v, .ref ra, .int (xi_ u.1.1), .int (xi_ u.1.2.1)])), (v, .inl (G.2.2 1, (200 * 5), .inr (.inl (jl_ u.1.2.2.1)))), (ra, .inl (G.2.2 0, 200, .inl (ja_ u.1.2.2.2))), (p2, .inr (4, [.ref r2])), (r2, .inr (3, [.int (xi_ (200 : Int)), .ref v2, .ref ra2, .int (xi_ u.2.1), .int (xi_ u.2.2.1)])), (v2, .inl (G.2.2 1, (200 * 5), .inr (.inl (jl_ u.2.2.2.1)))), (ra2, .inl (G.2.2 0, 200, .inl (ja_ u.2.2.2.2)))] → W p0 l e0 rm_X_differ s m0 args below meth c0 H locs 0 0 Q (F0 m0 119 ls []))
    (ke : ∀ (u : (Int × Int × (Nat → Int) × (Nat → Int)) × (Int × Int × (Nat → Int) × (Nat → Int))) (ls : Array Slot) (H : Heap) (locs : List Loc), (∃ sa sb, rr_ 200 u.1.1 u.1.2.1 u.1.2.2.1 u.1.2.2.2 sa ∧ rr_ 200 u.2.1 u.2.2.1 u.2.2.2.1 u.2.2.2.2 sb) → TG = -1 → xw_H G A H0 H locs [(xo, .inr (0, xo_ rd pa gs fo p1 p2 du fu pl sc ss tk)), (pa, .inl (G.2.2 4, 8, .inr (.inr (.inr (.inr paf))))), (gs, .inl (G.2.2 0, 8, .inl (ja_ gsf))), (p1, .inr (4, [.ref r])), (r, .inr (3, [.int (xi_ (200 : Int)), .ref v, .ref ra, .int (xi_ u.1.1), .int (xi_ u.1.2.1)])), (v, .inl (G.2.2 1, (200 * 5), .inr (.inl (jl_ u.1.2.2.1)))), (ra, .inl (G.2.2 0, 200, .inl (ja_ u.1.2.2.2))), (p2, .inr (4, [.ref r2])), (r2, .inr (3, [.int (xi_ (200 : Int)), .ref v2, .ref ra2, .int (xi_ u.2.1), .int (xi_ u.2.2.1)])), (v2, .inl (G.2.2 1, (200 * 5), .inr (.inl (jl_ u.2.2.2.1)))), (ra2, .inl (G.2.2 0, 200, .inl (ja_ u.2.2.2.2)))] → W p0 l e0 rm_X_differ s m0 args below meth c0 H locs 0 0 Q (F0 m0 128 ls [])) :
    ∀ (N : Nat) (c : Int) (cnt tm : Int) (vals rat : Nat → Int) (st : List Row_ × Bool) (cnt2 tm2 : Int) (vals2 rat2 : Nat → Int) (st2 : List Row_ × Bool) (ls : Array Slot) (H : Heap) (locs : List Loc), c = 16 - (N : Int) → N ≤ 16 → rr_ 200 cnt tm vals rat st → rr_ 200 cnt2 tm2 vals2 rat2 st2 → dif_ (Tr n1.toNat) (Tr n2.toNat) (gsf n1.toNat * gsf n2.toNat) N c = TG → lv_has ls 8 [(5, .int (xi_ c)), (3, .long (xl_ (gsf n1.toNat * gsf n2.toNat))), (0, .ref xo), (1, .int (xi_ n1)), (2, .int (xi_ n2))] → xw_H G A H0 H locs [(xo, .inr (0, xo_ rd pa gs fo p1 p2 du fu pl sc ss tk)), (pa, .inl (G.2.2 4, 8, .inr (.inr (.inr (.inr paf))))), (gs, .inl (G.2.2 0, 8, .inl (ja_ gsf))), (p1, .inr (4, [.ref r])), (r, .inr (3, [.int (xi_ (200 : Int)), .ref v, .ref ra, .int (xi_ cnt), .int (xi_ tm)])), (v, .inl (G.2.2 1, (200 * 5), .inr (.inl (jl_ vals)))), (ra, .inl (G.2.2 0, 200, .inl (ja_ rat))), (p2, .inr (4, [.ref r2])), (r2, .inr (3, [.int (xi_ (200 : Int)), .ref v2, .ref ra2, .int (xi_ cnt2), .int (xi_ tm2)])), (v2, .inl (G.2.2 1, (200 * 5), .inr (.inl (jl_ vals2)))), (ra2, .inl (G.2.2 0, 200, .inl (ja_ rat2)))] → W p0 l e0 rm_X_differ s m0 args below meth c0 H locs 0 0 Q (F0 m0 36 ls []) := by
  have hx := F.1
  have hb := F.2.1
  obtain ⟨-, -, ha1, ha2⟩ := hsp n1.toNat (by omega)
  obtain ⟨-, -, hb1, hb3⟩ := hsp n2.toNat (by omega)
  obtain ⟨b1, hbq1, hnt1⟩ := hX0 n1.toNat (by omega)
  obtain ⟨b2, hbq2, hnt2⟩ := hX0 n2.toNat (by omega)
  have hU : 1 * 1 ≤ gsf n1.toNat * gsf n2.toNat ∧ gsf n1.toNat * gsf n2.toNat ≤ 5040 * 5040 := ⟨Int.mul_le_mul (by omega) (by omega) (by omega) (by omega), Int.mul_le_mul (by omega) (by omega) (by omega) (by omega)⟩
  intro N
  induction N with
  | zero =>
    intro c cnt tm vals rat st cnt2 tm2 vals2 rat2 st2 ls H locs hc hN hrr hrr2 hTG hl hh
    refine lv_iload hx hb d_X_differ_36 (lv_at hl 0 rfl) ?_
    refine lv_bipush (v := xi_ 16) hx hb d_X_differ_38 (by decide) ?_
    refine xw_icmp_ge hx hb 128 d_X_differ_40 (by decide) (by omega) (fun c40 => ?_) (fun c40 => absurd c40 (by omega))
    exact ke ((cnt, tm, vals, rat), (cnt2, tm2, vals2, rat2)) ls H locs ⟨_, _, hrr, hrr2⟩ hTG.symm hh
  | succ N ihn =>
    intro c cnt tm vals rat st cnt2 tm2 vals2 rat2 st2 ls H locs hc hN hrr hrr2 hTG hl hh
    have hcU : 0 ≤ c * (gsf n1.toNat * gsf n2.toNat) ∧ c * (gsf n1.toNat * gsf n2.toNat) ≤ 16 * (5040 * 5040) := ⟨Int.mul_nonneg (by omega) (by omega), Int.mul_le_mul (by omega) hU.2 (by omega) (by omega)⟩
    refine lv_iload hx hb d_X_differ_36 (lv_at hl 0 rfl) ?_
    refine lv_bipush (v := xi_ 16) hx hb d_X_differ_38 (by decide) ?_
    refine xw_icmp_ge hx hb 128 d_X_differ_40 (by decide) (by omega) (fun c40 => absurd c40 (by omega)) (fun c40 => ?_)
    refine lv_iload hx hb d_X_differ_43 (lv_at hl 0 rfl) ?_
    refine xw_i2l hx hb d_X_differ_45 (by omega) ?_
    refine lv_lload_n hx hb d_X_differ_46 rfl (lv_at hl 1 rfl) ?_
    refine xw_lmul hx hb d_X_differ_47 ?_
    refine lv_lstore (lv' := [(6, .long (xl_ (c * (gsf n1.toNat * gsf n2.toNat)))), (5, .int (xi_ c)), (3, .long (xl_ (gsf n1.toNat * gsf n2.toNat))), (0, .ref xo), (1, .int (xi_ n1)), (2, .int (xi_ n2))]) hx hb d_X_differ_48 hl (by decide) rfl (fun ls hl => ?_)
    refine lv_aload_n hx hb d_X_differ_50 rfl (lv_at hl 3 rfl) ?_
    refine xw_get F hh.1 (v := .ref p1) fl_X_40_0 0 rfl rfl d_X_differ_51 ?_
    refine lv_aload_n hx hb d_X_differ_54 rfl (lv_at hl 3 rfl) ?_
    refine xw_get F hh.1 (v := .ref pa) fl_X_18_0 0 rfl rfl d_X_differ_55 ?_
    refine lv_iload_n hx hb d_X_differ_58 rfl (lv_at hl 4 rfl) ?_
    refine xw_aald F hh.1 1 (f := paf) rfl (i := n1) (by omega) (x := some b1) hbq1 d_X_differ_59 ?_
    refine lv_lload_n hx hb d_X_differ_60 rfl (lv_at hl 2 rfl) ?_
    refine lv_lload hx hb d_X_differ_61 (lv_at hl 0 rfl) ?_
    refine lv_lload hx hb d_X_differ_63 (lv_at hl 0 rfl) ?_
    refine lv_lload_n hx hb d_X_differ_65 rfl (lv_at hl 2 rfl) ?_
    refine xw_ladd hx hb d_X_differ_66 ?_
    refine xw_ci (wc := [(p1, .inr (4, [.ref r])), (r, .inr (3, [.int (xi_ (200 : Int)), .ref v, .ref ra, .int (xi_ cnt), .int (xi_ tm)])), (v, .inl (G.2.2 1, (200 * 5), .inr (.inl (jl_ vals)))), (ra, .inl (G.2.2 0, 200, .inl (ja_ rat)))]) (wr := [(xo, .inr (0, xo_ rd pa gs fo p1 p2 du fu pl sc ss tk)), (pa, .inl (G.2.2 4, 8, .inr (.inr (.inr (.inr paf))))), (gs, .inl (G.2.2 0, 8, .inl (ja_ gsf))), (p2, .inr (4, [.ref r2])), (r2, .inr (3, [.int (xi_ (200 : Int)), .ref v2, .ref ra2, .int (xi_ cnt2), .int (xi_ tm2)])), (v2, .inl (G.2.2 1, (200 * 5), .inr (.inl (jl_ vals2)))), (ra2, .inl (G.2.2 0, 200, .inl (ja_ rat2)))]) hh [3, 4, 5, 6] [0, 1, 2, 7, 8, 9, 10] rfl rfl rfl (by decide) (xw_rV F hh [3, 4, 5, 6] rfl rfl (c_Pa_gather l G H.size p1 r v ra cnt tm vals rat st Sd (fun q hq => by
      have h9 := hSd q hq
      simp only [List.mem_cons, List.not_mem_nil, not_or, or_false] at h9
      omega) b1 (Tr n1.toNat) (gsf n1.toNat * gsf n2.toNat) (c * (gsf n1.toNat * gsf n2.toNat)) (c * (gsf n1.toNat * gsf n2.toNat) + gsf n1.toNat * gsf n2.toNat) (wok_top hsp (by omega) (by omega) (by omega) (by omega)) (by omega) hrr) (nt_now hA hnt1 hh) lk_X_87 cd_Pa_gather se_Pa_gather _ hh.1 3 rfl rfl rfl rfl ⟨by decide, by decide⟩ rfl hl.1 rfl (Nat.le_of_ble_eq_true rfl) d_X_differ_67 ⟨Nat.le_of_ble_eq_true rfl, Nat.le_of_ble_eq_true rfl⟩) (fun z67 ua H locs hp67 hX hz hk hh => ?_)
    have hh : xw_H G A H0 H locs [(xo, .inr (0, xo_ rd pa gs fo p1 p2 du fu pl sc ss tk)), (pa, .inl (G.2.2 4, 8, .inr (.inr (.inr (.inr paf))))), (gs, .inl (G.2.2 0, 8, .inl (ja_ gsf))), (p1, .inr (4, [.ref r])), (r, .inr (3, [.int (xi_ (200 : Int)), .ref v, .ref ra, .int (xi_ ua.1), .int (xi_ ua.2.1)])), (v, .inl (G.2.2 1, (200 * 5), .inr (.inl (jl_ ua.2.2.1)))), (ra, .inl (G.2.2 0, 200, .inl (ja_ ua.2.2.2))), (p2, .inr (4, [.ref r2])), (r2, .inr (3, [.int (xi_ (200 : Int)), .ref v2, .ref ra2, .int (xi_ cnt2), .int (xi_ tm2)])), (v2, .inl (G.2.2 1, (200 * 5), .inr (.inl (jl_ vals2)))), (ra2, .inl (G.2.2 0, 200, .inl (ja_ rat2)))] := xw_H.sub hh [0, 1, 2, 7, 8, 9, 10, 3, 4, 5, 6] rfl rfl
    have hp67 : z67 = b2_ (!(df_run (Tr n1.toNat) (gsf n1.toNat * gsf n2.toNat) c).2) ∧ rr_ 200 ua.1 ua.2.1 ua.2.2.1 ua.2.2.2 (if (df_run (Tr n1.toNat) (gsf n1.toNat * gsf n2.toNat) c).2 = true then ([], false) else (df_run (Tr n1.toNat) (gsf n1.toNat * gsf n2.toNat) c)) := hp67
    obtain ⟨hz67, hr67⟩ := hp67
    obtain rfl := hz67
    have hbb67 := b2_01 (!(df_run (Tr n1.toNat) (gsf n1.toNat * gsf n2.toNat) c).2)
    refine xw_if_eq hx hb 96 d_X_differ_70 (by decide) (by omega) (fun c70 => ?_) (fun c70 => ?_)
    · have hf1 : (df_run (Tr n1.toNat) (gsf n1.toNat * gsf n2.toNat) c).2 = true := by simpa using b2_e0 c70
      unfold dif_ at hTG
      rw [if_pos hf1] at hTG
      exact km (ua, (cnt2, tm2, vals2, rat2)) ls H locs ⟨_, _, hr67, hrr2⟩ hTG.symm hh
    · refine lv_aload_n hx hb d_X_differ_73 rfl (lv_at hl 3 rfl) ?_
      refine xw_get F hh.1 (v := .ref p2) fl_X_43_0 0 rfl rfl d_X_differ_74 ?_
      refine lv_aload_n hx hb d_X_differ_77 rfl (lv_at hl 3 rfl) ?_
      refine xw_get F hh.1 (v := .ref pa) fl_X_18_0 0 rfl rfl d_X_differ_78 ?_
      refine lv_iload_n hx hb d_X_differ_81 rfl (lv_at hl 5 rfl) ?_
      refine xw_aald F hh.1 1 (f := paf) rfl (i := n2) (by omega) (x := some b2) hbq2 d_X_differ_82 ?_
      refine lv_lload_n hx hb d_X_differ_83 rfl (lv_at hl 2 rfl) ?_
      refine lv_lload hx hb d_X_differ_84 (lv_at hl 0 rfl) ?_
      refine lv_lload hx hb d_X_differ_86 (lv_at hl 0 rfl) ?_
      refine lv_lload_n hx hb d_X_differ_88 rfl (lv_at hl 2 rfl) ?_
      refine xw_ladd hx hb d_X_differ_89 ?_
      have hw2 : wok_ 40 (Tr n2.toNat) (gsf n1.toNat * gsf n2.toNat) 0 (c * (gsf n1.toNat * gsf n2.toNat)) (c * (gsf n1.toNat * gsf n2.toNat) + gsf n1.toNat * gsf n2.toNat) := by
        have h9 := wok_top (f := c * (gsf n1.toNat * gsf n2.toNat)) (t := c * (gsf n1.toNat * gsf n2.toNat) + gsf n1.toNat * gsf n2.toNat) hsp (j := n2.toNat) (by omega) (m := gsf n1.toNat) (by omega) (by omega) (by omega)
        rw [Int.mul_comm (gsf n2.toNat) (gsf n1.toNat)] at h9
        exact h9
      refine xw_ci (wc := [(p2, .inr (4, [.ref r2])), (r2, .inr (3, [.int (xi_ (200 : Int)), .ref v2, .ref ra2, .int (xi_ cnt2), .int (xi_ tm2)])), (v2, .inl (G.2.2 1, (200 * 5), .inr (.inl (jl_ vals2)))), (ra2, .inl (G.2.2 0, 200, .inl (ja_ rat2)))]) (wr := [(xo, .inr (0, xo_ rd pa gs fo p1 p2 du fu pl sc ss tk)), (pa, .inl (G.2.2 4, 8, .inr (.inr (.inr (.inr paf))))), (gs, .inl (G.2.2 0, 8, .inl (ja_ gsf))), (p1, .inr (4, [.ref r])), (r, .inr (3, [.int (xi_ (200 : Int)), .ref v, .ref ra, .int (xi_ ua.1), .int (xi_ ua.2.1)])), (v, .inl (G.2.2 1, (200 * 5), .inr (.inl (jl_ ua.2.2.1)))), (ra, .inl (G.2.2 0, 200, .inl (ja_ ua.2.2.2)))]) hh [7, 8, 9, 10] [0, 1, 2, 3, 4, 5, 6] rfl rfl rfl (by decide) (xw_rV F hh [7, 8, 9, 10] rfl rfl (c_Pa_gather l G H.size p2 r2 v2 ra2 cnt2 tm2 vals2 rat2 st2 Sd (fun q hq => by
        have h9 := hSd q hq
        simp only [List.mem_cons, List.not_mem_nil, not_or, or_false] at h9
        omega) b2 (Tr n2.toNat) (gsf n1.toNat * gsf n2.toNat) (c * (gsf n1.toNat * gsf n2.toNat)) (c * (gsf n1.toNat * gsf n2.toNat) + gsf n1.toNat * gsf n2.toNat) hw2 (by omega) hrr2) (nt_now hA hnt2 hh) lk_X_87 cd_Pa_gather se_Pa_gather _ hh.1 7 rfl rfl rfl rfl ⟨by decide, by decide⟩ rfl hl.1 rfl (Nat.le_of_ble_eq_true rfl) d_X_differ_90 ⟨Nat.le_of_ble_eq_true rfl, Nat.le_of_ble_eq_true rfl⟩) (fun z90 ub H locs hp90 hX hz hk hh => ?_)
      have hh : xw_H G A H0 H locs [(xo, .inr (0, xo_ rd pa gs fo p1 p2 du fu pl sc ss tk)), (pa, .inl (G.2.2 4, 8, .inr (.inr (.inr (.inr paf))))), (gs, .inl (G.2.2 0, 8, .inl (ja_ gsf))), (p1, .inr (4, [.ref r])), (r, .inr (3, [.int (xi_ (200 : Int)), .ref v, .ref ra, .int (xi_ ua.1), .int (xi_ ua.2.1)])), (v, .inl (G.2.2 1, (200 * 5), .inr (.inl (jl_ ua.2.2.1)))), (ra, .inl (G.2.2 0, 200, .inl (ja_ ua.2.2.2))), (p2, .inr (4, [.ref r2])), (r2, .inr (3, [.int (xi_ (200 : Int)), .ref v2, .ref ra2, .int (xi_ ub.1), .int (xi_ ub.2.1)])), (v2, .inl (G.2.2 1, (200 * 5), .inr (.inl (jl_ ub.2.2.1)))), (ra2, .inl (G.2.2 0, 200, .inl (ja_ ub.2.2.2)))] := hh
      have hp90 : z90 = b2_ (!(df_run (Tr n2.toNat) (gsf n1.toNat * gsf n2.toNat) c).2) ∧ rr_ 200 ub.1 ub.2.1 ub.2.2.1 ub.2.2.2 (if (df_run (Tr n2.toNat) (gsf n1.toNat * gsf n2.toNat) c).2 = true then ([], false) else (df_run (Tr n2.toNat) (gsf n1.toNat * gsf n2.toNat) c)) := hp90
      obtain ⟨hz90, hr90⟩ := hp90
      obtain rfl := hz90
      have hbb90 := b2_01 (!(df_run (Tr n2.toNat) (gsf n1.toNat * gsf n2.toNat) c).2)
      refine xw_if_ne hx hb 99 d_X_differ_93 (by decide) (by omega) (fun c93 => ?_) (fun c93 => ?_)
      · refine lv_aload_n hx hb d_X_differ_99 rfl (lv_at hl 3 rfl) ?_
        refine xw_get F hh.1 (v := .ref p1) fl_X_40_0 0 rfl rfl d_X_differ_100 ?_
        refine xw_get F hh.1 (v := .ref r) fl_X_91_4 3 rfl rfl d_X_differ_103 ?_
        refine lv_aload_n hx hb d_X_differ_106 rfl (lv_at hl 3 rfl) ?_
        refine xw_get F hh.1 (v := .ref p2) fl_X_43_0 0 rfl rfl d_X_differ_107 ?_
        refine xw_get F hh.1 (v := .ref r2) fl_X_91_4 7 rfl rfl d_X_differ_110 ?_
        have hf1 : ¬ (df_run (Tr n1.toNat) (gsf n1.toNat * gsf n2.toNat) c).2 = true := by simpa using b2_ne c70
        have hf2 : ¬ (df_run (Tr n2.toNat) (gsf n1.toNat * gsf n2.toNat) c).2 = true := by simpa using b2_ne c93
        rw [if_neg hf1] at hr67
        rw [if_neg hf2] at hr90
        refine xw_ci (wc := [(r, .inr (3, [.int (xi_ (200 : Int)), .ref v, .ref ra, .int (xi_ ua.1), .int (xi_ ua.2.1)])), (v, .inl (G.2.2 1, (200 * 5), .inr (.inl (jl_ ua.2.2.1)))), (ra, .inl (G.2.2 0, 200, .inl (ja_ ua.2.2.2))), (r2, .inr (3, [.int (xi_ (200 : Int)), .ref v2, .ref ra2, .int (xi_ ub.1), .int (xi_ ub.2.1)])), (v2, .inl (G.2.2 1, (200 * 5), .inr (.inl (jl_ ub.2.2.1)))), (ra2, .inl (G.2.2 0, 200, .inl (ja_ ub.2.2.2)))]) (wr := [(xo, .inr (0, xo_ rd pa gs fo p1 p2 du fu pl sc ss tk)), (pa, .inl (G.2.2 4, 8, .inr (.inr (.inr (.inr paf))))), (gs, .inl (G.2.2 0, 8, .inl (ja_ gsf))), (p1, .inr (4, [.ref r])), (p2, .inr (4, [.ref r2]))]) hh [4, 5, 6, 8, 9, 10] [0, 1, 2, 3, 7] rfl rfl rfl (by decide) (xw_rV F hh [4, 5, 6, 8, 9, 10] rfl rfl (c_Rw_sameAs l G H.size r v ra 200 ua.1 ua.2.1 ua.2.2.1 ua.2.2.2 r2 v2 ra2 200 ub.1 ub.2.1 ub.2.2.1 ub.2.2.2 (df_run (Tr n1.toNat) (gsf n1.toNat * gsf n2.toNat) c) (df_run (Tr n2.toNat) (gsf n1.toNat * gsf n2.toNat) c) ⟨by omega, by omega⟩ hr67 hr90) trivial lk_X_107 cd_Rw_sameAs se_Rw_sameAs _ hh.1 4 rfl rfl rfl rfl ⟨by decide, by decide⟩ rfl hl.1 rfl (Nat.le_of_ble_eq_true rfl) d_X_differ_113 ⟨Nat.le_of_ble_eq_true rfl, Nat.le_of_ble_eq_true rfl⟩) (fun z113 u_ H locs hp113 hX hz hk hh => ?_)
        have hh : xw_H G A H0 H locs [(xo, .inr (0, xo_ rd pa gs fo p1 p2 du fu pl sc ss tk)), (pa, .inl (G.2.2 4, 8, .inr (.inr (.inr (.inr paf))))), (gs, .inl (G.2.2 0, 8, .inl (ja_ gsf))), (p1, .inr (4, [.ref r])), (r, .inr (3, [.int (xi_ (200 : Int)), .ref v, .ref ra, .int (xi_ ua.1), .int (xi_ ua.2.1)])), (v, .inl (G.2.2 1, (200 * 5), .inr (.inl (jl_ ua.2.2.1)))), (ra, .inl (G.2.2 0, 200, .inl (ja_ ua.2.2.2))), (p2, .inr (4, [.ref r2])), (r2, .inr (3, [.int (xi_ (200 : Int)), .ref v2, .ref ra2, .int (xi_ ub.1), .int (xi_ ub.2.1)])), (v2, .inl (G.2.2 1, (200 * 5), .inr (.inl (jl_ ub.2.2.1)))), (ra2, .inl (G.2.2 0, 200, .inl (ja_ ub.2.2.2)))] := xw_H.sub hh [0, 1, 2, 3, 5, 6, 7, 4, 8, 9, 10] rfl rfl
        obtain rfl : z113 = b2_ (decide ((df_run (Tr n1.toNat) (gsf n1.toNat * gsf n2.toNat) c).1 = (df_run (Tr n2.toNat) (gsf n1.toNat * gsf n2.toNat) c).1)) := hp113
        have hbs := b2_01 (decide ((df_run (Tr n1.toNat) (gsf n1.toNat * gsf n2.toNat) c).1 = (df_run (Tr n2.toNat) (gsf n1.toNat * gsf n2.toNat) c).1))
        unfold dif_ at hTG
        rw [if_neg hf1, if_neg hf2] at hTG
        refine xw_if_ne hx hb 122 d_X_differ_116 (by decide) (by omega) (fun c116 => ?_) (fun c116 => ?_)
        · refine lv_iinc (k := 1) (v := xi_ (c + 1)) (lv' := [(5, .int (xi_ (c + 1))), (6, .long (xl_ (c * (gsf n1.toNat * gsf n2.toNat)))), (3, .long (xl_ (gsf n1.toNat * gsf n2.toNat))), (0, .ref xo), (1, .int (xi_ n1)), (2, .int (xi_ n2))]) hx hb d_X_differ_122 hl rfl (xi_add _ _).symm (by decide) rfl (fun ls hl => ?_)
          refine lv_goto (tgt := 36) hx hb d_X_differ_125 (by decide) ?_
          rw [if_pos (of_decide_eq_true (b2_ne c116))] at hTG
          exact ihn (c + 1) ua.1 ua.2.1 ua.2.2.1 ua.2.2.2 (df_run (Tr n1.toNat) (gsf n1.toNat * gsf n2.toNat) c) ub.1 ub.2.1 ub.2.2.1 ub.2.2.2 (df_run (Tr n2.toNat) (gsf n1.toNat * gsf n2.toNat) c) ls H locs (by omega) (by omega) hr67 hr90 hTG (lv_sub hl [0, 2, 3, 4, 5] rfl) hh
        · rw [if_neg (of_decide_eq_false (b2_e0 c116))] at hTG
          exact kc (ua, ub) c ls H locs ⟨_, _, hr67, hr90⟩ hTG.symm (lv_sub hl [1] rfl) hh
      · have hf1 : ¬ (df_run (Tr n1.toNat) (gsf n1.toNat * gsf n2.toNat) c).2 = true := by simpa using b2_ne c70
        have hf2 : (df_run (Tr n2.toNat) (gsf n1.toNat * gsf n2.toNat) c).2 = true := by simpa using b2_e0 c93
        unfold dif_ at hTG
        rw [if_neg hf1, if_pos hf2] at hTG
        exact km (ua, ub) ls H locs ⟨_, _, hr67, hr90⟩ hTG.symm hh
set_option maxHeartbeats 4000000 in
set_option maxRecDepth 100000 in
theorem c_X_differ (l : Launch) (G : GG_) (sz : Nat) (xo rd pa gs fo p1 p2 du : Nat) (fu pl sc ss tk : Int) (r v ra r2 v2 ra2 : Nat) (cnt tm : Int) (vals rat : Nat → Int) (st : List Row_ × Bool) (cnt2 tm2 : Int) (vals2 rat2 : Nat → Int) (st2 : List Row_ × Bool) (paf : Nat → Option Nat) (gsf : Nat → Int) (Tr : Nat → PT 40) (hsp : sp_ok gsf Tr) (Sd : Nat → Prop) (hSd : ∀ q : Nat, Sd q → q ∉ [xo, pa, gs, p1, r, v, ra, p2, r2, v2, ra2]) (n1 n2 : Int) (hn : (-2147483648 ≤ n1 ∧ n1 ≤ 2147483647) ∧ (-2147483648 ≤ n2 ∧ n2 ≤ 2147483647)) (hrr : rr_ 200 cnt tm vals rat st) (hrr2 : rr_ 200 cnt2 tm2 vals2 rat2 st2) : Met l y_X_differ (cw_ y_X_differ b_X_differ 8 (some .int)) rm_X_differ (xw_P G [.ref xo, .int (xi_ n1), .int (xi_ n2)] sz [(xo, .inr (0, xo_ rd pa gs fo p1 p2 du fu pl sc ss tk)), (pa, .inl (G.2.2 4, 8, .inr (.inr (.inr (.inr paf))))), (gs, .inl (G.2.2 0, 8, .inl (ja_ gsf))), (p1, .inr (4, [.ref r])), (r, .inr (3, [.int (xi_ (200 : Int)), .ref v, .ref ra, .int (xi_ cnt), .int (xi_ tm)])), (v, .inl (G.2.2 1, (200 * 5), .inr (.inl (jl_ vals)))), (ra, .inl (G.2.2 0, 200, .inl (ja_ rat))), (p2, .inr (4, [.ref r2])), (r2, .inr (3, [.int (xi_ (200 : Int)), .ref v2, .ref ra2, .int (xi_ cnt2), .int (xi_ tm2)])), (v2, .inl (G.2.2 1, (200 * 5), .inr (.inl (jl_ vals2)))), (ra2, .inl (G.2.2 0, 200, .inl (ja_ rat2)))] (sh_ok G Sd paf Tr)) (xw_Qi (S := (Int × Int × (Nat → Int) × (Nat → Int)) × (Int × Int × (Nat → Int) × (Nat → Int))) G sz [(xo, .inr (0, xo_ rd pa gs fo p1 p2 du fu pl sc ss tk)), (pa, .inl (G.2.2 4, 8, .inr (.inr (.inr (.inr paf))))), (gs, .inl (G.2.2 0, 8, .inl (ja_ gsf))), (p1, .inr (4, [.ref r])), (r, .inr (3, [.int (xi_ (200 : Int)), .ref v, .ref ra, .int (xi_ cnt), .int (xi_ tm)])), (v, .inl (G.2.2 1, (200 * 5), .inr (.inl (jl_ vals)))), (ra, .inl (G.2.2 0, 200, .inl (ja_ rat))), (p2, .inr (4, [.ref r2])), (r2, .inr (3, [.int (xi_ (200 : Int)), .ref v2, .ref ra2, .int (xi_ cnt2), .int (xi_ tm2)])), (v2, .inl (G.2.2 1, (200 * 5), .inr (.inl (jl_ vals2)))), (ra2, .inl (G.2.2 0, 200, .inl (ja_ rat2)))] (fun z u => z = df_ans gsf Tr n1 n2 ∧ (∃ sa sb, rr_ 200 u.1.1 u.1.2.1 u.1.2.2.1 u.1.2.2.2 sa ∧ rr_ 200 u.2.1 u.2.2.1 u.2.2.2.1 u.2.2.2.2 sb)) (fun u => [(xo, .inr (0, xo_ rd pa gs fo p1 p2 du fu pl sc ss tk)), (pa, .inl (G.2.2 4, 8, .inr (.inr (.inr (.inr paf))))), (gs, .inl (G.2.2 0, 8, .inl (ja_ gsf))), (p1, .inr (4, [.ref r])), (r, .inr (3, [.int (xi_ (200 : Int)), .ref v, .ref ra, .int (xi_ u.1.1), .int (xi_ u.1.2.1)])), (v, .inl (G.2.2 1, (200 * 5), .inr (.inl (jl_ u.1.2.2.1)))), (ra, .inl (G.2.2 0, 200, .inl (ja_ u.1.2.2.2))), (p2, .inr (4, [.ref r2])), (r2, .inr (3, [.int (xi_ (200 : Int)), .ref v2, .ref ra2, .int (xi_ u.2.1), .int (xi_ u.2.2.1)])), (v2, .inl (G.2.2 1, (200 * 5), .inr (.inl (jl_ u.2.2.2.1)))), (ra2, .inl (G.2.2 0, 200, .inl (ja_ u.2.2.2.2)))]) (fun _ _ => True)) 0 0 (va_A [(xo, .inr (0, xo_ rd pa gs fo p1 p2 du fu pl sc ss tk)), (pa, .inl (G.2.2 4, 8, .inr (.inr (.inr (.inr paf))))), (gs, .inl (G.2.2 0, 8, .inl (ja_ gsf))), (p1, .inr (4, [.ref r])), (r, .inr (3, [.int (xi_ (200 : Int)), .ref v, .ref ra, .int (xi_ cnt), .int (xi_ tm)])), (v, .inl (G.2.2 1, (200 * 5), .inr (.inl (jl_ vals)))), (ra, .inl (G.2.2 0, 200, .inl (ja_ rat))), (p2, .inr (4, [.ref r2])), (r2, .inr (3, [.int (xi_ (200 : Int)), .ref v2, .ref ra2, .int (xi_ cnt2), .int (xi_ tm2)])), (v2, .inl (G.2.2 1, (200 * 5), .inr (.inl (jl_ vals2)))), (ra2, .inl (G.2.2 0, 200, .inl (ja_ rat2)))] sz) := by
  refine xw_met (by decide) (Nat.le_of_ble_eq_true rfl) ?_
  intro p0 e0 s m0 args below meth c0 F hr hlk hin hsz hh hX ls hl
  subst hsz
  have hx := F.1
  have hb := F.2.1
  have hl : lv_has ls 8 [(0, .ref xo), (1, .int (xi_ n1)), (2, .int (xi_ n2))] := hl
  have hX0 := hX
  have hA : ∀ q : Nat, Sd q → q < s.heap.size → ¬ va_A [(xo, .inr (0, xo_ rd pa gs fo p1 p2 du fu pl sc ss tk)), (pa, .inl (G.2.2 4, 8, .inr (.inr (.inr (.inr paf))))), (gs, .inl (G.2.2 0, 8, .inl (ja_ gsf))), (p1, .inr (4, [.ref r])), (r, .inr (3, [.int (xi_ (200 : Int)), .ref v, .ref ra, .int (xi_ cnt), .int (xi_ tm)])), (v, .inl (G.2.2 1, (200 * 5), .inr (.inl (jl_ vals)))), (ra, .inl (G.2.2 0, 200, .inl (ja_ rat))), (p2, .inr (4, [.ref r2])), (r2, .inr (3, [.int (xi_ (200 : Int)), .ref v2, .ref ra2, .int (xi_ cnt2), .int (xi_ tm2)])), (v2, .inl (G.2.2 1, (200 * 5), .inr (.inl (jl_ vals2)))), (ra2, .inl (G.2.2 0, 200, .inl (ja_ rat2)))] s.heap.size q := fun q hq hl => not_inL (as := [xo, pa, gs, p1, r, v, ra, p2, r2, v2, ra2]) rfl (hSd q hq) hl
  refine lv_iload_n hx hb d_X_differ_0 rfl (lv_at hl 1 rfl) ?_
  refine xw_cip hh (xw_rSp F (c_X_isSlot l G s.heap.size n1 (by omega)) lk_X_63 cd_X_isSlot ss_X_isSlot rfl rfl ⟨by decide, by decide⟩ rfl hl.1 rfl (Nat.le_of_ble_eq_true rfl) d_X_differ_1 ⟨Nat.le_of_ble_eq_true rfl, Nat.le_of_ble_eq_true rfl⟩) (fun z1 u H locs hp1 hz hk hh => ?_)
  obtain rfl : z1 = b2_ (decide (0 ≤ n1 ∧ n1 < 8)) := hp1
  have hsb1 := b2_01 (decide (0 ≤ n1 ∧ n1 < 8))
  refine xw_if_eq hx hb 14 d_X_differ_4 (by decide) (by omega) (fun c4 => ?_) (fun c4 => ?_)
  · refine lv_bipush (v := xi_ (-9)) hx hb d_X_differ_14 (by decide) ?_
    exact xw_iret F hr hlk hh rfl ((cnt, tm, vals, rat), (cnt2, tm2, vals2, rat2)) rfl ⟨by
      unfold df_ans
      rw [if_neg (fun q => by
        first
        | exact absurd q.1 (of_decide_eq_false (b2_e0 c4))
        | exact absurd q.2 (of_decide_eq_false (b2_e0 c11)))], ⟨_, _, hrr, hrr2⟩⟩ trivial d_X_differ_16
  · refine lv_iload_n hx hb d_X_differ_7 rfl (lv_at hl 2 rfl) ?_
    refine xw_cip hh (xw_rSp F (c_X_isSlot l G H.size n2 (by omega)) lk_X_63 cd_X_isSlot ss_X_isSlot rfl rfl ⟨by decide, by decide⟩ rfl hl.1 rfl (Nat.le_of_ble_eq_true rfl) d_X_differ_8 ⟨Nat.le_of_ble_eq_true rfl, Nat.le_of_ble_eq_true rfl⟩) (fun z8 u H locs hp8 hz hk hh => ?_)
    obtain rfl : z8 = b2_ (decide (0 ≤ n2 ∧ n2 < 8)) := hp8
    have hsb8 := b2_01 (decide (0 ≤ n2 ∧ n2 < 8))
    refine xw_if_ne hx hb 17 d_X_differ_11 (by decide) (by omega) (fun c11 => ?_) (fun c11 => ?_)
    · have hn1 : 0 ≤ n1 ∧ n1 < 8 := of_decide_eq_true (b2_ne c4)
      have hn2 : 0 ≤ n2 ∧ n2 < 8 := of_decide_eq_true (b2_ne c11)
      obtain ⟨-, -, ha1, ha2⟩ := hsp n1.toNat (by omega)
      obtain ⟨-, -, hb1, hb3⟩ := hsp n2.toNat (by omega)
      skip
      refine lv_aload_n hx hb d_X_differ_17 rfl (lv_at hl 0 rfl) ?_
      refine xw_get F hh.1 (v := .ref gs) fl_X_22_0 0 rfl rfl d_X_differ_18 ?_
      refine lv_iload_n hx hb d_X_differ_21 rfl (lv_at hl 1 rfl) ?_
      refine xw_iald F hh.1 2 (f := gsf) rfl (i := n1) (by omega) d_X_differ_22 ?_
      refine xw_i2l hx hb d_X_differ_23 (by omega) ?_
      refine lv_aload_n hx hb d_X_differ_24 rfl (lv_at hl 0 rfl) ?_
      refine xw_get F hh.1 (v := .ref gs) fl_X_22_0 0 rfl rfl d_X_differ_25 ?_
      refine lv_iload_n hx hb d_X_differ_28 rfl (lv_at hl 2 rfl) ?_
      refine xw_iald F hh.1 2 (f := gsf) rfl (i := n2) (by omega) d_X_differ_29 ?_
      refine xw_i2l hx hb d_X_differ_30 (by omega) ?_
      refine xw_lmul hx hb d_X_differ_31 ?_
      refine lv_lstore_n (lv' := [(3, .long (xl_ ((gsf (n1).toNat) * (gsf (n2).toNat)))), (0, .ref xo), (1, .int (xi_ n1)), (2, .int (xi_ n2))]) hx hb d_X_differ_32 rfl hl (by decide) rfl (fun ls hl => ?_)
      refine lv_iconst (v := xi_ 0) hx hb d_X_differ_33 rfl ?_
      refine lv_istore (lv' := [(5, .int (xi_ 0)), (3, .long (xl_ ((gsf (n1).toNat) * (gsf (n2).toNat)))), (0, .ref xo), (1, .int (xi_ n1)), (2, .int (xi_ n2))]) hx hb d_X_differ_34 hl (by decide) rfl (fun ls hl => ?_)
      have eA : df_ans gsf Tr n1 n2 = dif_ (Tr n1.toNat) (Tr n2.toNat) (gsf n1.toNat * gsf n2.toNat) 16 0 := by
        unfold df_ans
        rw [if_pos ⟨hn1, hn2⟩]
      rw [eA]
      refine lp_X_differ F xo rd pa gs fo p1 p2 du fu pl sc ss tk r v ra r2 v2 ra2 paf gsf Tr hsp Sd hSd n1 n2 ⟨hn1, hn2⟩ hX0 hA _ (fun u ls H locs hq hT hh => ?_) (fun u c ls H locs hq hT hl hh => ?_) (fun u ls H locs hq hT hh => ?_) 16 0 cnt tm vals rat st cnt2 tm2 vals2 rat2 st2 ls H _ (by omega) (by omega) hrr hrr2 rfl (lv_sub hl [0, 1, 2, 3, 4] rfl) hh
      · refine lv_bipush (v := xi_ (-2)) hx hb d_X_differ_96 (by decide) ?_
        exact xw_iret F hr hlk hh rfl u rfl ⟨hT.symm, hq⟩ trivial d_X_differ_98
      · refine lv_iload hx hb d_X_differ_119 (lv_at hl 0 rfl) ?_
        exact xw_iret F hr hlk hh rfl u rfl ⟨hT.symm, hq⟩ trivial d_X_differ_121
      · refine lv_iconst (v := xi_ (-1)) hx hb d_X_differ_128 rfl ?_
        exact xw_iret F hr hlk hh rfl u rfl ⟨hT.symm, hq⟩ trivial d_X_differ_129
    · refine lv_bipush (v := xi_ (-9)) hx hb d_X_differ_14 (by decide) ?_
      exact xw_iret F hr hlk hh rfl ((cnt, tm, vals, rat), (cnt2, tm2, vals2, rat2)) rfl ⟨by
        unfold df_ans
        rw [if_neg (fun q => by
          first
          | exact absurd q.1 (of_decide_eq_false (b2_e0 c4))
          | exact absurd q.2 (of_decide_eq_false (b2_e0 c11)))], ⟨_, _, hrr, hrr2⟩⟩ trivial d_X_differ_16
