/-! Reader.readGroup -/
set_option maxHeartbeats 4000000 in
set_option maxRecDepth 100000 in
theorem lp_Rd_readGroup {p0 : Program} {l : Launch} {e0 : Env} {s : State} {m0 : MethodId} {args : Array Value} {below : List Frame} {meth : Method} {c0 : Code} {Q : State → Prop} {G : GG_} {A : Nat → Prop} {H0 : Heap} (d : Nat) (F : xw_F p0 s m0 args c0 b_Rd_readGroup 6 R_Rd G) (ih : cwp_ l G d) (rd ta : Nat) (txt : Nat → Int) (len at_ : Nat) (gr : Int) (kd : Int) (nd ia cR : Nat) (cl : Int) (hcl : 0 ≤ cl ∧ cl ≤ 65535) (hlen : len ≤ 40 ∧ at_ < len) (htx : ∀ j : Nat, 0 ≤ txt j ∧ txt j ≤ 65535) (hgr : 1 ≤ gr ∧ gr ≤ 45360) (hd40 : d ≤ 40) (hnd : H0.size ≤ nd ∧ H0.size ≤ ia ∧ rd < H0.size ∧ ta < H0.size) (TG : Option (List (PT d)) × Nat) (hTle : TG.2 ≤ at_ + cR)
    (kf : ∀ (ls : Array Slot) (H : Heap) (locs : List Loc) (cells slots : Nat) (g : Int), TG.1 = none → (1 ≤ g ∧ g ≤ 45360) → lv_has ls 6 [] → xw_H G A H0 H locs [(rd, .inr (2, [.ref ta, .int (xi_ (len : Int)), .int (xi_ (TG.2 : Int)), .int (xi_ g)])), (ta, .inl (G.2.2 2, 40, .inl (ja_ txt)))] → cells ≤ 2 * (TG.2 - at_) → slots ≤ 16 * (TG.2 - at_) → W p0 l e0 (rm_Rd_readGroup d cR) s m0 args below meth c0 H locs cells slots Q (F0 m0 60 ls []))
    (kk : ∀ (acc : List (PT d)) (f : Nat → Option Nat) (g : Int) (ls : Array Slot) (H : Heap) (locs : List Loc) (cells slots : Nat), TG.1 = some acc → 1 ≤ acc.length → acc.length ≤ 9 → (1 ≤ g ∧ g ≤ 45360) → g = acc.foldl (fun g c => gf_ d c g) gr → kd_ G (fun q : Nat => H0.size ≤ q ∧ q ≠ nd ∧ q ≠ ia) d H f acc → lv_has ls 6 [(5, .int (xi_ (acc.length : Int))), (4, .ref nd), (0, .ref rd), (1, .int (xi_ kd)), (2, .int (xi_ cl)), (3, .int (xi_ (41 - ((d + 1 : Nat) : Int))))] → xw_H G A H0 H locs [(rd, .inr (2, [.ref ta, .int (xi_ (len : Int)), .int (xi_ (TG.2 : Int)), .int (xi_ g)])), (ta, .inl (G.2.2 2, 40, .inl (ja_ txt))), (nd, .inr (1, nd_ kd ia (acc.length : Int) 1 1 0 (b2_ (is_letter kd || acc.any (can_ d))))), (ia, .inl (G.2.2 4, 9, .inr (.inr (.inr (.inr f)))))] → cells ≤ 2 * (TG.2 - at_) → slots ≤ 16 * (TG.2 - at_) → W p0 l e0 (rm_Rd_readGroup d cR) s m0 args below meth c0 H locs cells slots Q (F0 m0 68 ls [])) :
    ∀ (N : Nat) (i : Int) (acc : List (PT d)) (f : Nat → Option Nat) (g : Int) (a : Nat) (ls : Array Slot) (H : Heap) (locs : List Loc) (cells slots : Nat), 9 - acc.length < N → i = (acc.length : Int) → acc.length ≤ 9 → at_ < a → a ≤ len → (1 ≤ g ∧ g ≤ 45360) → g = acc.foldl (fun g c => gf_ d c g) gr → kd_ G (fun q : Nat => H0.size ≤ q ∧ q ≠ nd ∧ q ≠ ia) d H f acc → p_grp (prs_ txt len d) txt len cl (9 - acc.length) acc a = TG → lv_has ls 6 [(5, .int (xi_ i)), (4, .ref nd), (0, .ref rd), (1, .int (xi_ kd)), (2, .int (xi_ cl)), (3, .int (xi_ (41 - ((d + 1 : Nat) : Int))))] → xw_H G A H0 H locs [(rd, .inr (2, [.ref ta, .int (xi_ (len : Int)), .int (xi_ (a : Int)), .int (xi_ g)])), (ta, .inl (G.2.2 2, 40, .inl (ja_ txt))), (nd, .inr (1, nd_ kd ia i 1 1 0 (b2_ (is_letter kd || acc.any (can_ d))))), (ia, .inl (G.2.2 4, 9, .inr (.inr (.inr (.inr f)))))] → cells ≤ 2 * (a - at_) → slots ≤ 16 * (a - at_) → W p0 l e0 (rm_Rd_readGroup d cR) s m0 args below meth c0 H locs cells slots Q (F0 m0 25 ls []) := by
  have hx := F.1
  have hb := F.2.1
  intro N
  induction N with
  | zero => intro i acc f g a ls H locs cells slots h; omega
  | succ N ihn =>
    intro i acc f g a ls H locs cells slots hN1 hi hacc ha1 ha2 hg hgf hkd hTG hl hh hce hsl
    have haT : a ≤ TG.2 := by
      rw [← hTG]
      exact (p_grp_le (prs_le txt len d) _ _ _ ha2).1
    refine lv_iload hx hb d_Rd_readGroup_25 (lv_at hl 0 rfl) ?_
    refine lv_bipush (v := xi_ 9) hx hb d_Rd_readGroup_27 (by decide) ?_
    refine xw_icmp_ge hx hb 68 d_Rd_readGroup_29 (by decide) (by omega) (fun c29 => ?_) (fun c29 => ?_)
    · have eT : TG = (some acc, a) := by
        rw [← hTG]
        first
        | (rw [show 9 - acc.length = 0 by omega]; rfl)
        | (obtain ⟨k9, hk9⟩ : ∃ k9, 9 - acc.length = k9 + 1 := ⟨8 - acc.length, by omega⟩
           rw [hk9]
           unfold p_grp
           exact if_pos ⟨fun q => by rw [q] at hi; exact c34 hi, b2_ne c42⟩)
      subst eT
      subst hi
      exact kk acc f g ls H locs cells slots rfl (by omega) hacc hg hgf hkd (lv_sub hl [0, 1, 2, 3, 4, 5] rfl) hh (by first | exact hce | omega) (by first | exact hsl | omega)
    · refine lv_iload hx hb d_Rd_readGroup_32 (lv_at hl 0 rfl) ?_
      refine xw_if_eq hx hb 45 d_Rd_readGroup_34 (by decide) (by omega) (fun c34 => ?_) (fun c34 => ?_)
      · refine lv_aload hx hb d_Rd_readGroup_45 (lv_at hl 1 rfl) ?_
        refine lv_aload_n hx hb d_Rd_readGroup_47 rfl (lv_at hl 2 rfl) ?_
        refine lv_iload_n hx hb d_Rd_readGroup_48 rfl (lv_at hl 5 rfl) ?_
        refine lv_iconst (v := xi_ 1) hx hb d_Rd_readGroup_49 rfl ?_
        refine xw_iadd hx hb d_Rd_readGroup_50 ?_
        have hTG2 : (match prs_ txt len d a with | (none, b) => (none, b) | (some t, b) => p_grp (prs_ txt len d) txt len cl (8 - acc.length) (acc ++ [t]) b) = TG := by
          rw [← hTG, show 9 - acc.length = (8 - acc.length) + 1 by omega]
          conv => rhs; unfold p_grp
          refine (if_neg (fun q => ?_)).symm
          first
          | exact q.1 (List.eq_nil_of_length_eq_zero (by omega))
          | exact absurd (b2_t q.2) (by omega)
        have hple := prs_le txt len d a ha2
        have hpwf := prs_wf txt len d a
        have hTa : (prs_ txt len d a).2 ≤ TG.2 := by
          rw [← hTG2]
          rcases e1 : prs_ txt len d a with ⟨_ | t, b⟩
          · exact Nat.le_refl _
          · rw [e1] at hple
            exact (p_grp_le (prs_le txt len d) _ _ _ hple.2).1
        refine xw_topi (y := 41 - (d : Int)) (by omega) ?_
        have hszH : nd < H.size ∧ ia < H.size := ⟨(hh.1 2 _ rfl).lt, (hh.1 3 _ rfl).lt⟩
        have hsz0 := hh.2.2.1.1
        refine xw_ca (wc := [(rd, .inr (2, [.ref ta, .int (xi_ (len : Int)), .int (xi_ (a : Int)), .int (xi_ g)])), (ta, .inl (G.2.2 2, 40, .inl (ja_ txt)))]) (wr := [(nd, .inr (1, nd_ kd ia i 1 1 0 (b2_ (is_letter kd || acc.any (can_ d))))), (ia, .inl (G.2.2 4, 9, .inr (.inr (.inr (.inr f)))))]) hh [0, 1] [2, 3] rfl rfl rfl (by decide) (xw_rV F hh [0, 1] rfl rfl (ih H.size rd ta txt len a g ⟨hlen.1, ha2⟩ htx hg hd40) trivial lk_Rd_31 cd_Rd_readPattern se_Rd_readPattern _ hh.1 0 rfl rfl rfl rfl ⟨by unfold rm_Rd_readPattern rm_Rd_readGroup; (try dsimp only); omega, by unfold rm_Rd_readPattern rm_Rd_readGroup; (try dsimp only); omega⟩ rfl hl.1 rfl (Nat.le_of_ble_eq_true rfl) d_Rd_readGroup_51 ⟨by unfold rm_Rd_readGroup; (try dsimp only); omega, by unfold rm_Rd_readGroup; (try dsimp only); omega⟩) (fun z51 u H locs hp51 hX hz hk hh => ?_)
        have hh : xw_H G A H0 H locs [(rd, .inr (2, [.ref ta, .int (xi_ (len : Int)), .int (xi_ ((prs_ txt len d a).2 : Int)), .int (xi_ u)])), (ta, .inl (G.2.2 2, 40, .inl (ja_ txt))), (nd, .inr (1, nd_ kd ia i 1 1 0 (b2_ (is_letter kd || acc.any (can_ d))))), (ia, .inl (G.2.2 4, 9, .inr (.inr (.inr (.inr f)))))] := xw_H.sub hh [2, 3, 0, 1] rfl rfl
        have hkd : kd_ G (fun q : Nat => H0.size ≤ q ∧ q ≠ nd ∧ q ≠ ia) d H f acc := kd_keep (fun q h1 h2 => hk q h2 (not_in2 (by omega) (by omega) h2)) hkd
        obtain ⟨hpn, hpu, hpg⟩ := hp51
        obtain ⟨P, hP⟩ : ∃ P, P = prs_ txt len d a := ⟨_, rfl⟩
        rw [← hP] at hh hpn hpg hTG2 hple hTa hX hpwf
        first
        | rw [← hP]
        | skip
        rcases P with ⟨_ | t, b⟩
        · have hh : xw_H G A H0 H locs [(rd, .inr (2, [.ref ta, .int (xi_ (len : Int)), .int (xi_ (b : Int)), .int (xi_ u)])), (ta, .inl (G.2.2 2, 40, .inl (ja_ txt))), (nd, .inr (1, nd_ kd ia i 1 1 0 (b2_ (is_letter kd || acc.any (can_ d))))), (ia, .inl (G.2.2 4, 9, .inr (.inr (.inr (.inr f)))))] := hh
          refine xw_topn (hpn rfl) ?_
          refine xw_ci (wc := [(nd, .inr (1, nd_ kd ia i 1 1 0 (b2_ (is_letter kd || acc.any (can_ d))))), (ia, .inl (G.2.2 4, 9, .inr (.inr (.inr (.inr f)))))]) (wr := [(rd, .inr (2, [.ref ta, .int (xi_ (len : Int)), .int (xi_ (b : Int)), .int (xi_ u)])), (ta, .inl (G.2.2 2, 40, .inl (ja_ txt)))]) hh [2, 3] [0, 1] rfl rfl rfl (by decide) (xw_rV F hh [2, 3] rfl rfl (c_N_add_null l G H.size nd ia 9 f kd i 1 1 0 (is_letter kd || acc.any (can_ d)) (by omega)) trivial lk_Rd_59 cd_N_add se_N_add _ hh.1 2 rfl rfl rfl rfl ⟨by unfold rm_N_add rm_Rd_readGroup; (try dsimp only); omega, by unfold rm_N_add rm_Rd_readGroup; (try dsimp only); omega⟩ rfl hl.1 rfl (Nat.le_of_ble_eq_true rfl) d_Rd_readGroup_54 ⟨by unfold rm_Rd_readGroup; (try dsimp only at *); omega, by unfold rm_Rd_readGroup; (try dsimp only at *); omega⟩) (fun z54 u_ H locs hp54 hX hz hk hh => ?_)
          have hh : xw_H G A H0 H locs [(rd, .inr (2, [.ref ta, .int (xi_ (len : Int)), .int (xi_ (b : Int)), .int (xi_ u)])), (ta, .inl (G.2.2 2, 40, .inl (ja_ txt))), (nd, .inr (1, nd_ kd ia i 1 1 0 (b2_ (is_letter kd || acc.any (can_ d))))), (ia, .inl (G.2.2 4, 9, .inr (.inr (.inr (.inr f)))))] := hh
          refine xw_topi (y := 0) hp54 ?_
          refine xw_if_ne hx hb 62 d_Rd_readGroup_57 (by decide) (by decide) (fun c57 => absurd c57 (by decide)) (fun c57 => ?_)
          have eT : TG = (none, b) := hTG2.symm
          subst eT
          exact kf ls H locs _ _ u rfl hpu (lv_sub hl [] rfl) (xw_H.sub hh [0, 1] rfl rfl) (by (try dsimp only at *); omega) (by (try dsimp only at *); omega)
        · have hh : xw_H G A H0 H locs [(rd, .inr (2, [.ref ta, .int (xi_ (len : Int)), .int (xi_ (b : Int)), .int (xi_ u)])), (ta, .inl (G.2.2 2, 40, .inl (ja_ txt))), (nd, .inr (1, nd_ kd ia i 1 1 0 (b2_ (is_letter kd || acc.any (can_ d))))), (ia, .inl (G.2.2 4, 9, .inr (.inr (.inr (.inr f)))))] := hh
          obtain ⟨bn, hbn, hbt⟩ := hX t rfl
          have hwt := hpwf t b rfl
          have hbl : _ ≤ bn := (nt_lt hbt).2
          have hbS : nt_ G (fun q : Nat => H0.size ≤ q ∧ q ≠ nd ∧ q ≠ ia) d H bn t := nt_weaken (fun q h1 h2 => ⟨by omega, by omega, by omega⟩) hbt
          obtain ⟨kd2, ia2, cnt2, k2, n2, r2, hb2, hc1, hc2, hc3⟩ := nt_cell hbS hwt
          refine xw_topr hbn ?_
          refine xw_ci (wc := [(nd, .inr (1, nd_ kd ia i 1 1 0 (b2_ (is_letter kd || acc.any (can_ d))))), (ia, .inl (G.2.2 4, 9, .inr (.inr (.inr (.inr f)))))]) (wr := [(rd, .inr (2, [.ref ta, .int (xi_ (len : Int)), .int (xi_ (b : Int)), .int (xi_ u)])), (ta, .inl (G.2.2 2, 40, .inl (ja_ txt)))]) hh [2, 3] [0, 1] rfl rfl rfl (by decide) (xw_rV F hh [2, 3] rfl rfl (c_N_add l G H.size nd ia 9 f kd i 1 1 0 (is_letter kd || acc.any (can_ d)) (by omega) bn ia2 kd2 cnt2 k2 n2 r2 hb2 hc3 ⟨by omega, by omega⟩) hc1 lk_Rd_59 cd_N_add se_N_add _ hh.1 2 rfl rfl rfl rfl ⟨by unfold rm_N_add rm_Rd_readGroup; (try dsimp only); omega, by unfold rm_N_add rm_Rd_readGroup; (try dsimp only); omega⟩ rfl hl.1 rfl (Nat.le_of_ble_eq_true rfl) d_Rd_readGroup_54 ⟨by unfold rm_Rd_readGroup; (try dsimp only at *); omega, by unfold rm_Rd_readGroup; (try dsimp only at *); omega⟩) (fun z54 u_ H locs hp54 hX hz hk hh => ?_)
          have hh : xw_H G A H0 H locs [(rd, .inr (2, [.ref ta, .int (xi_ (len : Int)), .int (xi_ (b : Int)), .int (xi_ u)])), (ta, .inl (G.2.2 2, 40, .inl (ja_ txt))), (nd, .inr (1, nd_ kd ia (i + 1) 1 1 0 (b2_ ((is_letter kd || acc.any (can_ d)) || (hb2 && decide (0 < k2) && decide (0 < n2)))))), (ia, .inl (G.2.2 4, 9, .inr (.inr (.inr (.inr (va_up f i.toNat (some bn)))))))] := hh
          refine xw_topi (y := 1) hp54 ?_
          have hK2 : ∀ q : Nat, (fun q : Nat => H0.size ≤ q ∧ q ≠ nd ∧ q ≠ ia) q → q < _ → H[q]? = _ := fun q h1 h2 => hk q h2 (not_in2 h1.2.1 h1.2.2 h2)
          have hkd3 := kd_snoc (kd_keep hK2 hkd) (nt_keep hK2 hbS)
          rw [hc2, any_snoc, show i.toNat = acc.length by omega] at hh
          have hh : xw_H G A H0 H locs [(rd, .inr (2, [.ref ta, .int (xi_ (len : Int)), .int (xi_ (b : Int)), .int (xi_ u)])), (ta, .inl (G.2.2 2, 40, .inl (ja_ txt))), (nd, .inr (1, nd_ kd ia (i + 1) 1 1 0 (b2_ (is_letter kd || (acc ++ [t]).any (can_ d))))), (ia, .inl (G.2.2 4, 9, .inr (.inr (.inr (.inr (va_up f acc.length (some bn)))))))] := hh
          refine xw_if_ne hx hb 62 d_Rd_readGroup_57 (by decide) (by decide) (fun c57 => ?_) (fun c57 => absurd c57 (by decide))
          refine lv_iinc (k := 0) (v := xi_ (i + 1)) (lv' := [(5, .int (xi_ (i + 1))), (4, .ref nd), (0, .ref rd), (1, .int (xi_ kd)), (2, .int (xi_ cl)), (3, .int (xi_ (41 - ((d + 1 : Nat) : Int))))]) hx hb d_Rd_readGroup_62 hl rfl (xi_add _ _).symm (by decide) rfl (fun ls hl => ?_)
          refine lv_goto (tgt := 25) hx hb d_Rd_readGroup_65 (by decide) ?_
          refine ihn (i + 1) (acc ++ [t]) (va_up f acc.length (some bn)) u b ls H locs _ _ ?_ ?_ ?_ ?_ ?_ hpu ?_ hkd3 ?_ (lv_sub hl [0, 1, 2, 3, 4, 5] rfl) hh ?_ ?_
          · rw [List.length_append]; show _ - (acc.length + 1) < _; omega
          · rw [List.length_append]; show _ = ((acc.length + 1 : Nat) : Int); omega
          · rw [List.length_append]; show acc.length + 1 ≤ _; omega
          · (try dsimp only at *); omega
          · (try dsimp only at *); omega
          · rw [fold_snoc, ← hgf]; exact hpg t rfl
          · rw [List.length_append, show 9 - (acc.length + [t].length) = 8 - acc.length by (show 9 - (acc.length + 1) = _; omega)]; exact hTG2
          · (try dsimp only at *); omega
          · (try dsimp only at *); omega
      · refine lv_aload_n hx hb d_Rd_readGroup_37 rfl (lv_at hl 2 rfl) ?_
        refine lv_iload_n hx hb d_Rd_readGroup_38 rfl (lv_at hl 4 rfl) ?_
        refine xw_ci (wc := [(rd, .inr (2, [.ref ta, .int (xi_ (len : Int)), .int (xi_ (a : Int)), .int (xi_ g)])), (ta, .inl (G.2.2 2, 40, .inl (ja_ txt)))]) (wr := [(nd, .inr (1, nd_ kd ia i 1 1 0 (b2_ (is_letter kd || acc.any (can_ d))))), (ia, .inl (G.2.2 4, 9, .inr (.inr (.inr (.inr f)))))]) hh [0, 1] [2, 3] rfl rfl rfl (by decide) (xw_rV F hh [0, 1] rfl rfl (c_Rd_isAt l G H.size rd ta txt len a g ⟨hlen.1, by omega⟩ htx cl hcl) trivial lk_Rd_56 cd_Rd_isAt se_Rd_isAt _ hh.1 0 rfl rfl rfl rfl ⟨by unfold rm_Rd_isAt rm_Rd_readGroup; (try dsimp only); omega, by unfold rm_Rd_isAt rm_Rd_readGroup; (try dsimp only); omega⟩ rfl hl.1 rfl (Nat.le_of_ble_eq_true rfl) d_Rd_readGroup_39 ⟨by unfold rm_Rd_readGroup; (try dsimp only); omega, by unfold rm_Rd_readGroup; (try dsimp only); omega⟩) (fun z39 u H locs hp39 hX hz hk hh => ?_)
        have hh : xw_H G A H0 H locs [(rd, .inr (2, [.ref ta, .int (xi_ (len : Int)), .int (xi_ (a : Int)), .int (xi_ g)])), (ta, .inl (G.2.2 2, 40, .inl (ja_ txt))), (nd, .inr (1, nd_ kd ia i 1 1 0 (b2_ (is_letter kd || acc.any (can_ d))))), (ia, .inl (G.2.2 4, 9, .inr (.inr (.inr (.inr f)))))] := xw_H.sub hh [2, 3, 0, 1] rfl rfl
        obtain rfl : z39 = b2_ (p_is txt len cl a) := hp39
        have hisb := b2_01 (p_is txt len cl a)
        have hkd : kd_ G (fun q : Nat => H0.size ≤ q ∧ q ≠ nd ∧ q ≠ ia) d H f acc := kd_keep (fun q h1 h2 => hk q h2 (not_in2 (by omega) (by omega) h2)) hkd
        refine xw_if_ne hx hb 68 d_Rd_readGroup_42 (by decide) (by omega) (fun c42 => ?_) (fun c42 => ?_)
        · have eT : TG = (some acc, a) := by
            rw [← hTG]
            first
            | (rw [show 9 - acc.length = 0 by omega]; rfl)
            | (obtain ⟨k9, hk9⟩ : ∃ k9, 9 - acc.length = k9 + 1 := ⟨8 - acc.length, by omega⟩
               rw [hk9]
               unfold p_grp
               exact if_pos ⟨fun q => by rw [q] at hi; exact c34 hi, b2_ne c42⟩)
          subst eT
          subst hi
          exact kk acc f g ls H locs cells slots rfl (by omega) hacc hg hgf hkd (lv_sub hl [0, 1, 2, 3, 4, 5] rfl) hh (by first | exact hce | omega) (by first | exact hsl | omega)
        · refine lv_aload hx hb d_Rd_readGroup_45 (lv_at hl 1 rfl) ?_
          refine lv_aload_n hx hb d_Rd_readGroup_47 rfl (lv_at hl 2 rfl) ?_
          refine lv_iload_n hx hb d_Rd_readGroup_48 rfl (lv_at hl 5 rfl) ?_
          refine lv_iconst (v := xi_ 1) hx hb d_Rd_readGroup_49 rfl ?_
          refine xw_iadd hx hb d_Rd_readGroup_50 ?_
          have hTG2 : (match prs_ txt len d a with | (none, b) => (none, b) | (some t, b) => p_grp (prs_ txt len d) txt len cl (8 - acc.length) (acc ++ [t]) b) = TG := by
            rw [← hTG, show 9 - acc.length = (8 - acc.length) + 1 by omega]
            conv => rhs; unfold p_grp
            refine (if_neg (fun q => ?_)).symm
            first
            | exact q.1 (List.eq_nil_of_length_eq_zero (by omega))
            | exact absurd (b2_t q.2) (by omega)
          have hple := prs_le txt len d a ha2
          have hpwf := prs_wf txt len d a
          have hTa : (prs_ txt len d a).2 ≤ TG.2 := by
            rw [← hTG2]
            rcases e1 : prs_ txt len d a with ⟨_ | t, b⟩
            · exact Nat.le_refl _
            · rw [e1] at hple
              exact (p_grp_le (prs_le txt len d) _ _ _ hple.2).1
          refine xw_topi (y := 41 - (d : Int)) (by omega) ?_
          have hszH : nd < H.size ∧ ia < H.size := ⟨(hh.1 2 _ rfl).lt, (hh.1 3 _ rfl).lt⟩
          have hsz0 := hh.2.2.1.1
          refine xw_ca (wc := [(rd, .inr (2, [.ref ta, .int (xi_ (len : Int)), .int (xi_ (a : Int)), .int (xi_ g)])), (ta, .inl (G.2.2 2, 40, .inl (ja_ txt)))]) (wr := [(nd, .inr (1, nd_ kd ia i 1 1 0 (b2_ (is_letter kd || acc.any (can_ d))))), (ia, .inl (G.2.2 4, 9, .inr (.inr (.inr (.inr f)))))]) hh [0, 1] [2, 3] rfl rfl rfl (by decide) (xw_rV F hh [0, 1] rfl rfl (ih H.size rd ta txt len a g ⟨hlen.1, ha2⟩ htx hg hd40) trivial lk_Rd_31 cd_Rd_readPattern se_Rd_readPattern _ hh.1 0 rfl rfl rfl rfl ⟨by unfold rm_Rd_readPattern rm_Rd_readGroup; (try dsimp only); omega, by unfold rm_Rd_readPattern rm_Rd_readGroup; (try dsimp only); omega⟩ rfl hl.1 rfl (Nat.le_of_ble_eq_true rfl) d_Rd_readGroup_51 ⟨by unfold rm_Rd_readGroup; (try dsimp only); omega, by unfold rm_Rd_readGroup; (try dsimp only); omega⟩) (fun z51 u H locs hp51 hX hz hk hh => ?_)
          have hh : xw_H G A H0 H locs [(rd, .inr (2, [.ref ta, .int (xi_ (len : Int)), .int (xi_ ((prs_ txt len d a).2 : Int)), .int (xi_ u)])), (ta, .inl (G.2.2 2, 40, .inl (ja_ txt))), (nd, .inr (1, nd_ kd ia i 1 1 0 (b2_ (is_letter kd || acc.any (can_ d))))), (ia, .inl (G.2.2 4, 9, .inr (.inr (.inr (.inr f)))))] := xw_H.sub hh [2, 3, 0, 1] rfl rfl
          have hkd : kd_ G (fun q : Nat => H0.size ≤ q ∧ q ≠ nd ∧ q ≠ ia) d H f acc := kd_keep (fun q h1 h2 => hk q h2 (not_in2 (by omega) (by omega) h2)) hkd
          obtain ⟨hpn, hpu, hpg⟩ := hp51
          obtain ⟨P, hP⟩ : ∃ P, P = prs_ txt len d a := ⟨_, rfl⟩
          rw [← hP] at hh hpn hpg hTG2 hple hTa hX hpwf
          first
          | rw [← hP]
          | skip
          rcases P with ⟨_ | t, b⟩
          · have hh : xw_H G A H0 H locs [(rd, .inr (2, [.ref ta, .int (xi_ (len : Int)), .int (xi_ (b : Int)), .int (xi_ u)])), (ta, .inl (G.2.2 2, 40, .inl (ja_ txt))), (nd, .inr (1, nd_ kd ia i 1 1 0 (b2_ (is_letter kd || acc.any (can_ d))))), (ia, .inl (G.2.2 4, 9, .inr (.inr (.inr (.inr f)))))] := hh
            refine xw_topn (hpn rfl) ?_
            refine xw_ci (wc := [(nd, .inr (1, nd_ kd ia i 1 1 0 (b2_ (is_letter kd || acc.any (can_ d))))), (ia, .inl (G.2.2 4, 9, .inr (.inr (.inr (.inr f)))))]) (wr := [(rd, .inr (2, [.ref ta, .int (xi_ (len : Int)), .int (xi_ (b : Int)), .int (xi_ u)])), (ta, .inl (G.2.2 2, 40, .inl (ja_ txt)))]) hh [2, 3] [0, 1] rfl rfl rfl (by decide) (xw_rV F hh [2, 3] rfl rfl (c_N_add_null l G H.size nd ia 9 f kd i 1 1 0 (is_letter kd || acc.any (can_ d)) (by omega)) trivial lk_Rd_59 cd_N_add se_N_add _ hh.1 2 rfl rfl rfl rfl ⟨by unfold rm_N_add rm_Rd_readGroup; (try dsimp only); omega, by unfold rm_N_add rm_Rd_readGroup; (try dsimp only); omega⟩ rfl hl.1 rfl (Nat.le_of_ble_eq_true rfl) d_Rd_readGroup_54 ⟨by unfold rm_Rd_readGroup; (try dsimp only at *); omega, by unfold rm_Rd_readGroup; (try dsimp only at *); omega⟩) (fun z54 u_ H locs hp54 hX hz hk hh => ?_)
            have hh : xw_H G A H0 H locs [(rd, .inr (2, [.ref ta, .int (xi_ (len : Int)), .int (xi_ (b : Int)), .int (xi_ u)])), (ta, .inl (G.2.2 2, 40, .inl (ja_ txt))), (nd, .inr (1, nd_ kd ia i 1 1 0 (b2_ (is_letter kd || acc.any (can_ d))))), (ia, .inl (G.2.2 4, 9, .inr (.inr (.inr (.inr f)))))] := hh
            refine xw_topi (y := 0) hp54 ?_
            refine xw_if_ne hx hb 62 d_Rd_readGroup_57 (by decide) (by decide) (fun c57 => absurd c57 (by decide)) (fun c57 => ?_)
            have eT : TG = (none, b) := hTG2.symm
            subst eT
            exact kf ls H locs _ _ u rfl hpu (lv_sub hl [] rfl) (xw_H.sub hh [0, 1] rfl rfl) (by (try dsimp only at *); omega) (by (try dsimp only at *); omega)
          · have hh : xw_H G A H0 H locs [(rd, .inr (2, [.ref ta, .int (xi_ (len : Int)), .int (xi_ (b : Int)), .int (xi_ u)])), (ta, .inl (G.2.2 2, 40, .inl (ja_ txt))), (nd, .inr (1, nd_ kd ia i 1 1 0 (b2_ (is_letter kd || acc.any (can_ d))))), (ia, .inl (G.2.2 4, 9, .inr (.inr (.inr (.inr f)))))] := hh
            obtain ⟨bn, hbn, hbt⟩ := hX t rfl
            have hwt := hpwf t b rfl
            have hbl : _ ≤ bn := (nt_lt hbt).2
            have hbS : nt_ G (fun q : Nat => H0.size ≤ q ∧ q ≠ nd ∧ q ≠ ia) d H bn t := nt_weaken (fun q h1 h2 => ⟨by omega, by omega, by omega⟩) hbt
            obtain ⟨kd2, ia2, cnt2, k2, n2, r2, hb2, hc1, hc2, hc3⟩ := nt_cell hbS hwt
            refine xw_topr hbn ?_
            refine xw_ci (wc := [(nd, .inr (1, nd_ kd ia i 1 1 0 (b2_ (is_letter kd || acc.any (can_ d))))), (ia, .inl (G.2.2 4, 9, .inr (.inr (.inr (.inr f)))))]) (wr := [(rd, .inr (2, [.ref ta, .int (xi_ (len : Int)), .int (xi_ (b : Int)), .int (xi_ u)])), (ta, .inl (G.2.2 2, 40, .inl (ja_ txt)))]) hh [2, 3] [0, 1] rfl rfl rfl (by decide) (xw_rV F hh [2, 3] rfl rfl (c_N_add l G H.size nd ia 9 f kd i 1 1 0 (is_letter kd || acc.any (can_ d)) (by omega) bn ia2 kd2 cnt2 k2 n2 r2 hb2 hc3 ⟨by omega, by omega⟩) hc1 lk_Rd_59 cd_N_add se_N_add _ hh.1 2 rfl rfl rfl rfl ⟨by unfold rm_N_add rm_Rd_readGroup; (try dsimp only); omega, by unfold rm_N_add rm_Rd_readGroup; (try dsimp only); omega⟩ rfl hl.1 rfl (Nat.le_of_ble_eq_true rfl) d_Rd_readGroup_54 ⟨by unfold rm_Rd_readGroup; (try dsimp only at *); omega, by unfold rm_Rd_readGroup; (try dsimp only at *); omega⟩) (fun z54 u_ H locs hp54 hX hz hk hh => ?_)
            have hh : xw_H G A H0 H locs [(rd, .inr (2, [.ref ta, .int (xi_ (len : Int)), .int (xi_ (b : Int)), .int (xi_ u)])), (ta, .inl (G.2.2 2, 40, .inl (ja_ txt))), (nd, .inr (1, nd_ kd ia (i + 1) 1 1 0 (b2_ ((is_letter kd || acc.any (can_ d)) || (hb2 && decide (0 < k2) && decide (0 < n2)))))), (ia, .inl (G.2.2 4, 9, .inr (.inr (.inr (.inr (va_up f i.toNat (some bn)))))))] := hh
            refine xw_topi (y := 1) hp54 ?_
            have hK2 : ∀ q : Nat, (fun q : Nat => H0.size ≤ q ∧ q ≠ nd ∧ q ≠ ia) q → q < _ → H[q]? = _ := fun q h1 h2 => hk q h2 (not_in2 h1.2.1 h1.2.2 h2)
            have hkd3 := kd_snoc (kd_keep hK2 hkd) (nt_keep hK2 hbS)
            rw [hc2, any_snoc, show i.toNat = acc.length by omega] at hh
            have hh : xw_H G A H0 H locs [(rd, .inr (2, [.ref ta, .int (xi_ (len : Int)), .int (xi_ (b : Int)), .int (xi_ u)])), (ta, .inl (G.2.2 2, 40, .inl (ja_ txt))), (nd, .inr (1, nd_ kd ia (i + 1) 1 1 0 (b2_ (is_letter kd || (acc ++ [t]).any (can_ d))))), (ia, .inl (G.2.2 4, 9, .inr (.inr (.inr (.inr (va_up f acc.length (some bn)))))))] := hh
            refine xw_if_ne hx hb 62 d_Rd_readGroup_57 (by decide) (by decide) (fun c57 => ?_) (fun c57 => absurd c57 (by decide))
            refine lv_iinc (k := 0) (v := xi_ (i + 1)) (lv' := [(5, .int (xi_ (i + 1))), (4, .ref nd), (0, .ref rd), (1, .int (xi_ kd)), (2, .int (xi_ cl)), (3, .int (xi_ (41 - ((d + 1 : Nat) : Int))))]) hx hb d_Rd_readGroup_62 hl rfl (xi_add _ _).symm (by decide) rfl (fun ls hl => ?_)
            refine lv_goto (tgt := 25) hx hb d_Rd_readGroup_65 (by decide) ?_
            refine ihn (i + 1) (acc ++ [t]) (va_up f acc.length (some bn)) u b ls H locs _ _ ?_ ?_ ?_ ?_ ?_ hpu ?_ hkd3 ?_ (lv_sub hl [0, 1, 2, 3, 4, 5] rfl) hh ?_ ?_
            · rw [List.length_append]; show _ - (acc.length + 1) < _; omega
            · rw [List.length_append]; show _ = ((acc.length + 1 : Nat) : Int); omega
            · rw [List.length_append]; show acc.length + 1 ≤ _; omega
            · (try dsimp only at *); omega
            · (try dsimp only at *); omega
            · rw [fold_snoc, ← hgf]; exact hpg t rfl
            · rw [List.length_append, show 9 - (acc.length + [t].length) = 8 - acc.length by (show 9 - (acc.length + 1) = _; omega)]; exact hTG2
            · (try dsimp only at *); omega
            · (try dsimp only at *); omega
