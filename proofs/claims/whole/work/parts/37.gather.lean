/-! Parts.gather -/
theorem rr_clear {lim : Nat} {cnt tm : Int} {vals rat : Nat → Int} {st : List Row_ × Bool} (h : rr_ lim cnt tm vals rat st) : rr_ lim 0 0 vals rat ([], false) := ⟨rfl, a_ok_nil lim, rfl, fun p hp => by simp at hp, h.2.2.2.2⟩
def rm_Pa_gather : Room := { frames := 211, cells := 0, slots := 0, locals := 8400 }
theorem sm_walk_Pa : Cond.sameMethod "CyclePatterns$Parts" "CyclePatterns$Walk" "walk" "(LCyclePatterns$Node;JJJJI)V" ∈ WS := tb_in (i := 292) rfl (by decide +kernel)
theorem sl_walk_Pa : Cond.selects R_Pa ⟨"CyclePatterns$Parts", "walk", "(LCyclePatterns$Node;JJJJI)V"⟩ y_Wk_walk ∈ WS := tb_in (i := 294) rfl (by decide +kernel)
theorem sm_walk_On : Cond.sameMethod "CyclePatterns$Onsets" "CyclePatterns$Walk" "walk" "(LCyclePatterns$Node;JJJJI)V" ∈ WS := tb_in (i := 418) rfl (by decide +kernel)
theorem sl_walk_On : Cond.selects R_On ⟨"CyclePatterns$Onsets", "walk", "(LCyclePatterns$Node;JJJJI)V"⟩ y_Wk_walk ∈ WS := tb_in (i := 419) rfl (by decide +kernel)
set_option maxHeartbeats 4000000 in
set_option maxRecDepth 100000 in
theorem c_Pa_gather (l : Launch) (G : GG_) (sz : Nat) (o r v ra : Nat) (cnt tm : Int) (vals rat : Nat → Int) (st : List Row_ × Bool)  (Sd : Nat → Prop) (hSd : ∀ q : Nat, Sd q → q ≠ o ∧ q ≠ r ∧ q ≠ v ∧ q ≠ ra) (a : Nat) (T : PT 40) (cyc f t : Int) (hw : wok_ 40 T cyc 0 f t) (hb9 : (-30000000000000 ≤ f ∧ f ≤ 30000000000000) ∧ (-30000000000000 ≤ t ∧ t ≤ 30000000000000)) (hrr : rr_ 200 cnt tm vals rat st) : Met l y_Pa_gather (cw_ y_Pa_gather b_Pa_gather 8 (some .boolean)) rm_Pa_gather (xw_P G [.ref o, .ref a, .long (xl_ cyc), .long (xl_ f), .long (xl_ t)] sz [(o, .inr (4, [.ref r])), (r, .inr (3, [.int (xi_ (200 : Int)), .ref v, .ref ra, .int (xi_ cnt), .int (xi_ tm)])), (v, .inl (G.2.2 1, (200 * 5), .inr (.inl (jl_ vals)))), (ra, .inl (G.2.2 0, 200, .inl (ja_ rat)))] (fun H => nt_ G Sd 40 H a T)) (xw_Qi (S := Int × Int × (Nat → Int) × (Nat → Int)) G sz [(o, .inr (4, [.ref r])), (r, .inr (3, [.int (xi_ (200 : Int)), .ref v, .ref ra, .int (xi_ cnt), .int (xi_ tm)])), (v, .inl (G.2.2 1, (200 * 5), .inr (.inl (jl_ vals)))), (ra, .inl (G.2.2 0, 200, .inl (ja_ rat)))] (fun z u => z = b2_ (!(run_ 200 sk_pa (gen_ 40 T cyc 0 f t) ([], false)).2) ∧ rr_ 200 u.1 u.2.1 u.2.2.1 u.2.2.2 (if (run_ 200 sk_pa (gen_ 40 T cyc 0 f t) ([], false)).2 = true then ([], false) else (run_ 200 sk_pa (gen_ 40 T cyc 0 f t) ([], false)))) (fun u => [(o, .inr (4, [.ref r])), (r, .inr (3, [.int (xi_ (200 : Int)), .ref v, .ref ra, .int (xi_ u.1), .int (xi_ u.2.1)])), (v, .inl (G.2.2 1, (200 * 5), .inr (.inl (jl_ u.2.2.1)))), (ra, .inl (G.2.2 0, 200, .inl (ja_ u.2.2.2)))]) (fun _ _ => True)) 0 0 (va_A [(o, .inr (4, [.ref r])), (r, .inr (3, [.int (xi_ (200 : Int)), .ref v, .ref ra, .int (xi_ cnt), .int (xi_ tm)])), (v, .inl (G.2.2 1, (200 * 5), .inr (.inl (jl_ vals)))), (ra, .inl (G.2.2 0, 200, .inl (ja_ rat)))] sz) := by
  refine xw_met (by decide) (Nat.le_of_ble_eq_true rfl) ?_
  intro p0 e0 s m0 args below meth c0 F hr hlk hin hsz hh hX ls hl
  subst hsz
  have hx := F.1
  have hb := F.2.1
  have hl : lv_has ls 8 [(0, .ref o), (1, .ref a), (2, .long (xl_ cyc)), (4, .long (xl_ f)), (6, .long (xl_ t))] := hl
  have hX0 := hX
  have hA : ∀ q : Nat, Sd q → q < s.heap.size → ¬ va_A [(o, .inr (4, [.ref r])), (r, .inr (3, [.int (xi_ (200 : Int)), .ref v, .ref ra, .int (xi_ cnt), .int (xi_ tm)])), (v, .inl (G.2.2 1, (200 * 5), .inr (.inl (jl_ vals)))), (ra, .inl (G.2.2 0, 200, .inl (ja_ rat)))] s.heap.size q := not_in4 hSd
  refine lv_aload_n hx hb d_Pa_gather_0 rfl (lv_at hl 0 rfl) ?_
  refine xw_get F hh.1 (v := .ref r) fl_Pa_9_4 0 rfl rfl d_Pa_gather_1 ?_
  refine xw_cv (wc := [(r, .inr (3, [.int (xi_ (200 : Int)), .ref v, .ref ra, .int (xi_ cnt), .int (xi_ tm)]))]) (wr := [(o, .inr (4, [.ref r])), (v, .inl (G.2.2 1, (200 * 5), .inr (.inl (jl_ vals)))), (ra, .inl (G.2.2 0, 200, .inl (ja_ rat)))]) hh [1] [0, 2, 3] rfl rfl rfl (by decide) (xw_rV F hh [1] rfl rfl (c_Rw_clear l G s.heap.size r v ra 200 (cnt) (tm)) trivial lk_Pa_15 cd_Rw_clear se_Rw_clear _ hh.1 1 rfl rfl rfl rfl ⟨by decide, by decide⟩ rfl hl.1 rfl (Nat.le_of_ble_eq_true rfl) d_Pa_gather_4 ⟨Nat.le_of_ble_eq_true rfl, Nat.le_of_ble_eq_true rfl⟩) (fun u_ H locs hp4 hX hz hk hh => ?_)
  have hh : xw_H G (va_A [(o, .inr (4, [.ref r])), (r, .inr (3, [.int (xi_ (200 : Int)), .ref v, .ref ra, .int (xi_ cnt), .int (xi_ tm)])), (v, .inl (G.2.2 1, (200 * 5), .inr (.inl (jl_ vals)))), (ra, .inl (G.2.2 0, 200, .inl (ja_ rat)))] s.heap.size) s.heap H locs [(o, .inr (4, [.ref r])), (r, .inr (3, [.int (xi_ (200 : Int)), .ref v, .ref ra, .int (xi_ 0), .int (xi_ 0)])), (v, .inl (G.2.2 1, (200 * 5), .inr (.inl (jl_ vals)))), (ra, .inl (G.2.2 0, 200, .inl (ja_ rat)))] := xw_H.sub hh [0, 3, 1, 2] rfl rfl
  refine lv_aload_n hx hb d_Pa_gather_7 rfl (lv_at hl 0 rfl) ?_
  refine lv_aload_n hx hb d_Pa_gather_8 rfl (lv_at hl 1 rfl) ?_
  refine lv_lload_n hx hb d_Pa_gather_9 rfl (lv_at hl 2 rfl) ?_
  refine lv_lconst (v := xl_ 0) hx hb d_Pa_gather_10 (by decide) ?_
  refine lv_lload hx hb d_Pa_gather_11 (lv_at hl 3 rfl) ?_
  refine lv_lload hx hb d_Pa_gather_13 (lv_at hl 4 rfl) ?_
  refine lv_iconst (v := xi_ 1) hx hb d_Pa_gather_15 rfl ?_
  refine xw_cv (wc := [(o, .inr (4, [.ref r])), (r, .inr (3, [.int (xi_ (200 : Int)), .ref v, .ref ra, .int (xi_ 0), .int (xi_ 0)])), (v, .inl (G.2.2 1, (200 * 5), .inr (.inl (jl_ vals)))), (ra, .inl (G.2.2 0, 200, .inl (ja_ rat)))]) (wr := []) hh [0, 1, 2, 3] [] rfl rfl rfl (by decide) (xw_rU F hh [0, 1, 2, 3] rfl rfl (x := ⟨"CyclePatterns$Parts", "walk", "(LCyclePatterns$Node;JJJJI)V"⟩) (owner := "CyclePatterns$Walk") (walk_all_Pa l G 40 H.size o r v ra 0 0 vals rat ([], false) Sd (some a) (some T) cyc 0 f t hSd (rr_clear hrr) (fun y hy => by
    cases hy
    exact hw) hb9 (by decide)) (nt_now hA hX0 hh) lk_Pa_21' cd_Wk_walk ⟨is_Wk_walk, sl_walk_Pa, sm_walk_Pa⟩ (va_Decl.abs (F.2.2.2.2.2.2.1 _ dn_walk)) ⟨by decide, by decide, by decide +kernel⟩ _ hh.1 0 rfl rfl rfl rfl ⟨by decide, by decide⟩ rfl hl.1 rfl (Nat.le_of_ble_eq_true rfl) d_Pa_gather_16 ⟨Nat.zero_le _, Nat.zero_le _⟩) (fun u H locs hp16 hX hz hk hh => ?_)
  have hh : xw_H G (va_A [(o, .inr (4, [.ref r])), (r, .inr (3, [.int (xi_ (200 : Int)), .ref v, .ref ra, .int (xi_ cnt), .int (xi_ tm)])), (v, .inl (G.2.2 1, (200 * 5), .inr (.inl (jl_ vals)))), (ra, .inl (G.2.2 0, 200, .inl (ja_ rat)))] s.heap.size) s.heap H locs [(o, .inr (4, [.ref r])), (r, .inr (3, [.int (xi_ (200 : Int)), .ref v, .ref ra, .int (xi_ u.1), .int (xi_ u.2.1)])), (v, .inl (G.2.2 1, (200 * 5), .inr (.inl (jl_ u.2.2.1)))), (ra, .inl (G.2.2 0, 200, .inl (ja_ u.2.2.2)))] := hh
  have hp16 : rr_ 200 u.1 u.2.1 u.2.2.1 u.2.2.2 (run_ 200 sk_pa (gen_ 40 T cyc 0 f t) ([], false)) := hp16
  have htm := hp16.2.2.1
  have hb2 := b2_01 (run_ 200 sk_pa (gen_ 40 T cyc 0 f t) ([], false)).2
  refine lv_aload_n hx hb d_Pa_gather_19 rfl (lv_at hl 0 rfl) ?_
  refine xw_get F hh.1 (v := .ref r) fl_Pa_9_4 0 rfl rfl d_Pa_gather_20 ?_
  refine xw_get F hh.1 (v := .int (xi_ u.2.1)) fl_Pa_25_3 1 rfl rfl d_Pa_gather_23 ?_
  refine xw_if_eq hx hb 38 d_Pa_gather_26 (by decide) (by omega) (fun c26 => ?_) (fun c26 => ?_)
  · refine lv_iconst (v := xi_ 1) hx hb d_Pa_gather_38 rfl ?_
    exact xw_iret F hr hlk hh (by decide) u rfl (by
      have e9 := b2_e0 (htm.symm.trans c26)
      rw [e9]
      exact ⟨rfl, hp16⟩) trivial d_Pa_gather_39
  · refine lv_aload_n hx hb d_Pa_gather_29 rfl (lv_at hl 0 rfl) ?_
    refine xw_get F hh.1 (v := .ref r) fl_Pa_9_4 0 rfl rfl d_Pa_gather_30 ?_
    refine xw_cv (wc := [(r, .inr (3, [.int (xi_ (200 : Int)), .ref v, .ref ra, .int (xi_ u.1), .int (xi_ u.2.1)]))]) (wr := [(o, .inr (4, [.ref r])), (v, .inl (G.2.2 1, (200 * 5), .inr (.inl (jl_ u.2.2.1)))), (ra, .inl (G.2.2 0, 200, .inl (ja_ u.2.2.2)))]) hh [1] [0, 2, 3] rfl rfl rfl (by decide) (xw_rV F hh [1] rfl rfl (c_Rw_clear l G H.size r v ra 200 (u.1) (u.2.1)) trivial lk_Pa_15 cd_Rw_clear se_Rw_clear _ hh.1 1 rfl rfl rfl rfl ⟨by decide, by decide⟩ rfl hl.1 rfl (Nat.le_of_ble_eq_true rfl) d_Pa_gather_33 ⟨Nat.le_of_ble_eq_true rfl, Nat.le_of_ble_eq_true rfl⟩) (fun u_ H locs hp33 hX hz hk hh => ?_)
    have hh : xw_H G (va_A [(o, .inr (4, [.ref r])), (r, .inr (3, [.int (xi_ (200 : Int)), .ref v, .ref ra, .int (xi_ cnt), .int (xi_ tm)])), (v, .inl (G.2.2 1, (200 * 5), .inr (.inl (jl_ vals)))), (ra, .inl (G.2.2 0, 200, .inl (ja_ rat)))] s.heap.size) s.heap H locs [(o, .inr (4, [.ref r])), (r, .inr (3, [.int (xi_ (200 : Int)), .ref v, .ref ra, .int (xi_ 0), .int (xi_ 0)])), (v, .inl (G.2.2 1, (200 * 5), .inr (.inl (jl_ u.2.2.1)))), (ra, .inl (G.2.2 0, 200, .inl (ja_ u.2.2.2)))] := xw_H.sub hh [0, 3, 1, 2] rfl rfl
    refine lv_iconst (v := xi_ 0) hx hb d_Pa_gather_36 rfl ?_
    exact xw_iret F hr hlk hh (by decide) (0, 0, u.2.2.1, u.2.2.2) rfl (by
      have e9 := b2_ne (fun q => c26 (htm.trans q))
      rw [e9]
      exact ⟨rfl, rr_clear hp16⟩) trivial d_Pa_gather_37
