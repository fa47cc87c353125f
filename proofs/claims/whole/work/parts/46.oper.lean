/-! Reader.readOperator -/
set_option maxHeartbeats 4000000 in
set_option maxRecDepth 100000 in
theorem lp_Rd_readOperator {p0 : Program} {l : Launch} {e0 : Env} {s : State} {m0 : MethodId} {args : Array Value} {below : List Frame} {meth : Method} {c0 : Code} {Q : State → Prop} {G : GG_} {A : Nat → Prop} {H0 : Heap} (d : Nat) (F : xw_F p0 s m0 args c0 b_Rd_readOperator 6 R_Rd G) (ih : cwp_ l G d) (rd ta : Nat) (txt : Nat → Int) (len at_ : Nat) (gr : Int) (kd : Int) (nd ia cR : Nat) (np : Nat) (hnp : 1 ≤ np ∧ np ≤ 2) (k n r : Int) (hlen : len ≤ 40 ∧ at_ < len) (htx : ∀ j : Nat, 0 ≤ txt j ∧ txt j ≤ 65535) (hgr : 1 ≤ gr ∧ gr ≤ 45360) (hd40 : d ≤ 40) (hnd : H0.size ≤ nd ∧ H0.size ≤ ia ∧ rd < H0.size ∧ ta < H0.size) (TG : Option (List (PT d)) × Nat) (hTle : TG.2 ≤ at_ + cR)
    (kf : ∀ (ls : Array Slot) (H : Heap) (locs : List Loc) (cells slots : Nat) (g : Int), TG.1 = none → (1 ≤ g ∧ g ≤ 45360) → lv_has ls 6 [] → xw_H G A H0 H locs [(rd, .inr (2, [.ref ta, .int (xi_ (len : Int)), .int (xi_ (TG.2 : Int)), .int (xi_ g)])), (ta, .inl (G.2.2 2, 40, .inl (ja_ txt)))] → cells ≤ 2 * (TG.2 - at_) → slots ≤ 16 * (TG.2 - at_) → W p0 l e0 (rm_Rd_readOperator d cR) s m0 args below meth c0 H locs cells slots Q (F0 m0 56 ls []))
    (kk : ∀ (acc : List (PT d)) (f : Nat → Option Nat) (g : Int) (ls : Array Slot) (H : Heap) (locs : List Loc) (cells slots : Nat), TG.1 = some acc → 1 ≤ acc.length → acc.length ≤ np → (1 ≤ g ∧ g ≤ 45360) → g = acc.foldl (fun g c => gf_ d c g) gr → kd_ G (fun q : Nat => H0.size ≤ q ∧ q ≠ nd ∧ q ≠ ia) d H f acc → lv_has ls 6 [(5, .int (xi_ (acc.length : Int))), (4, .ref nd), (0, .ref rd), (1, .int (xi_ kd)), (2, .int (xi_ (np : Int))), (3, .int (xi_ (41 - ((d + 1 : Nat) : Int))))] → xw_H G A H0 H locs [(rd, .inr (2, [.ref ta, .int (xi_ (len : Int)), .int (xi_ (TG.2 : Int)), .int (xi_ g)])), (ta, .inl (G.2.2 2, 40, .inl (ja_ txt))), (nd, .inr (1, nd_ kd ia (acc.length : Int) k n r (b2_ (is_letter kd || acc.any (can_ d))))), (ia, .inl (G.2.2 4, np, .inr (.inr (.inr (.inr f)))))] → cells ≤ 2 * (TG.2 - at_) → slots ≤ 16 * (TG.2 - at_) → W p0 l e0 (rm_Rd_readOperator d cR) s m0 args below meth c0 H locs cells slots Q (F0 m0 64 ls [])) :
    ∀ (N : Nat) (i : Int) (acc : List (PT d)) (f : Nat → Option Nat) (g : Int) (a : Nat) (ls : Array Slot) (H : Heap) (locs : List Loc) (cells slots : Nat), np - acc.length < N → i = (acc.length : Int) → acc.length ≤ np → at_ < a → a ≤ len → (1 ≤ g ∧ g ≤ 45360) → g = acc.foldl (fun g c => gf_ d c g) gr → kd_ G (fun q : Nat => H0.size ≤ q ∧ q ≠ nd ∧ q ≠ ia) d H f acc → p_kids (prs_ txt len d) (np - acc.length) acc a = TG → lv_has ls 6 [(5, .int (xi_ i)), (4, .ref nd), (0, .ref rd), (1, .int (xi_ kd)), (2, .int (xi_ (np : Int))), (3, .int (xi_ (41 - ((d + 1 : Nat) : Int))))] → xw_H G A H0 H locs [(rd, .inr (2, [.ref ta, .int (xi_ (len : Int)), .int (xi_ (a : Int)), .int (xi_ g)])), (ta, .inl (G.2.2 2, 40, .inl (ja_ txt))), (nd, .inr (1, nd_ kd ia i k n r (b2_ (is_letter kd || acc.any (can_ d))))), (ia, .inl (G.2.2 4, np, .inr (.inr (.inr (.inr f)))))] → cells ≤ 2 * (a - at_) → slots ≤ 16 * (a - at_) → W p0 l e0 (rm_Rd_readOperator d cR) s m0 args below meth c0 H locs cells slots Q (F0 m0 35 ls []) := by
  have hx := F.1
  have hb := F.2.1
  intro N
  induction N with
  | zero => intro i acc f g a ls H locs cells slots h; omega
  | succ N ihn =>
    intro i acc f g a ls H locs cells slots hN1 hi hacc ha1 ha2 hg hgf hkd hTG hl hh hce hsl
    have haT : a ≤ TG.2 := by
      rw [← hTG]
      exact (p_kids_le (prs_le txt len d) _ _ _ ha2).1
    refine lv_iload hx hb d_Rd_readOperator_35 (lv_at hl 0 rfl) ?_
    refine lv_iload_n hx hb d_Rd_readOperator_37 rfl (lv_at hl 4 rfl) ?_
    refine xw_icmp_ge hx hb 64 d_Rd_readOperator_38 (by decide) (by omega) (fun c38 => ?_) (fun c38 => ?_)
    · have eT : TG = (some acc, a) := by
        rw [← hTG, show np - acc.length = 0 by omega]
        rfl
      subst eT
      subst hi
      exact kk acc f g ls H locs cells slots rfl (by omega) hacc hg hgf hkd (lv_sub hl [0, 1, 2, 3, 4, 5] rfl) hh (by first | exact hce | omega) (by first | exact hsl | omega)
    · refine lv_aload hx hb d_Rd_readOperator_41 (lv_at hl 1 rfl) ?_
      refine lv_aload_n hx hb d_Rd_readOperator_43 rfl (lv_at hl 2 rfl) ?_
      refine lv_iload_n hx hb d_Rd_readOperator_44 rfl (lv_at hl 5 rfl) ?_
      refine lv_iconst (v := xi_ 1) hx hb d_Rd_readOperator_45 rfl ?_
      refine xw_iadd hx hb d_Rd_readOperator_46 ?_
      have hTG2 : (match prs_ txt len d a with | (none, b) => (none, b) | (some t, b) => p_kids (prs_ txt len d) (np - 1 - acc.length) (acc ++ [t]) b) = TG := by
        rw [← hTG, show np - acc.length = (np - 1 - acc.length) + 1 by omega]
        rfl
      have hple := prs_le txt len d a ha2
      have hpwf := prs_wf txt len d a
      have hTa : (prs_ txt len d a).2 ≤ TG.2 := by
        rw [← hTG2]
        rcases e1 : prs_ txt len d a with ⟨_ | t, b⟩
        · exact Nat.le_refl _
        · rw [e1] at hple
          exact (p_kids_le (prs_le txt len d) _ _ _ hple.2).1
      refine xw_topi (y := 41 - (d : Int)) (by omega) ?_
      have hszH : nd < H.size ∧ ia < H.size := ⟨(hh.1 2 _ rfl).lt, (hh.1 3 _ rfl).lt⟩
      have hsz0 := hh.2.2.1.1
      refine xw_ca (wc := [(rd, .inr (2, [.ref ta, .int (xi_ (len : Int)), .int (xi_ (a : Int)), .int (xi_ g)])), (ta, .inl (G.2.2 2, 40, .inl (ja_ txt)))]) (wr := [(nd, .inr (1, nd_ kd ia i k n r (b2_ (is_letter kd || acc.any (can_ d))))), (ia, .inl (G.2.2 4, np, .inr (.inr (.inr (.inr f)))))]) hh [0, 1] [2, 3] rfl rfl rfl (by decide) (xw_rV F hh [0, 1] rfl rfl (ih H.size rd ta txt len a g ⟨hlen.1, ha2⟩ htx hg hd40) trivial lk_Rd_31 cd_Rd_readPattern se_Rd_readPattern _ hh.1 0 rfl rfl rfl rfl ⟨by unfold rm_Rd_readPattern rm_Rd_readOperator; (try dsimp only); omega, by unfold rm_Rd_readPattern rm_Rd_readOperator; (try dsimp only); omega⟩ rfl hl.1 rfl (Nat.le_of_ble_eq_true rfl) d_Rd_readOperator_47 ⟨by unfold rm_Rd_readOperator; (try dsimp only); omega, by unfold rm_Rd_readOperator; (try dsimp only); omega⟩) (fun z47 u H locs hp47 hX hz hk hh => ?_)
      have hh : xw_H G A H0 H locs [(rd, .inr (2, [.ref ta, .int (xi_ (len : Int)), .int (xi_ ((prs_ txt len d a).2 : Int)), .int (xi_ u)])), (ta, .inl (G.2.2 2, 40, .inl (ja_ txt))), (nd, .inr (1, nd_ kd ia i k n r (b2_ (is_letter kd || acc.any (can_ d))))), (ia, .inl (G.2.2 4, np, .inr (.inr (.inr (.inr f)))))] := xw_H.sub hh [2, 3, 0, 1] rfl rfl
      have hkd : kd_ G (fun q : Nat => H0.size ≤ q ∧ q ≠ nd ∧ q ≠ ia) d H f acc := kd_keep (fun q h1 h2 => hk q h2 (not_in2 (by omega) (by omega) h2)) hkd
      obtain ⟨hpn, hpu, hpg⟩ := hp47
      obtain ⟨P, hP⟩ : ∃ P, P = prs_ txt len d a := ⟨_, rfl⟩
      rw [← hP] at hh hpn hpg hTG2 hple hTa hX hpwf
      first
      | rw [← hP]
      | skip
      rcases P with ⟨_ | t, b⟩
      · have hh : xw_H G A H0 H locs [(rd, .inr (2, [.ref ta, .int (xi_ (len : Int)), .int (xi_ (b : Int)), .int (xi_ u)])), (ta, .inl (G.2.2 2, 40, .inl (ja_ txt))), (nd, .inr (1, nd_ kd ia i k n r (b2_ (is_letter kd || acc.any (can_ d))))), (ia, .inl (G.2.2 4, np, .inr (.inr (.inr (.inr f)))))] := hh
        refine xw_topn (hpn rfl) ?_
        refine xw_ci (wc := [(nd, .inr (1, nd_ kd ia i k n r (b2_ (is_letter kd || acc.any (can_ d))))), (ia, .inl (G.2.2 4, np, .inr (.inr (.inr (.inr f)))))]) (wr := [(rd, .inr (2, [.ref ta, .int (xi_ (len : Int)), .int (xi_ (b : Int)), .int (xi_ u)])), (ta, .inl (G.2.2 2, 40, .inl (ja_ txt)))]) hh [2, 3] [0, 1] rfl rfl rfl (by decide) (xw_rV F hh [2, 3] rfl rfl (c_N_add_null l G H.size nd ia np f kd i k n r (is_letter kd || acc.any (can_ d)) (by omega)) trivial lk_Rd_59 cd_N_add se_N_add _ hh.1 2 rfl rfl rfl rfl ⟨by unfold rm_N_add rm_Rd_readOperator; (try dsimp only); omega, by unfold rm_N_add rm_Rd_readOperator; (try dsimp only); omega⟩ rfl hl.1 rfl (Nat.le_of_ble_eq_true rfl) d_Rd_readOperator_50 ⟨by unfold rm_Rd_readOperator; (try dsimp only at *); omega, by unfold rm_Rd_readOperator; (try dsimp only at *); omega⟩) (fun z50 u_ H locs hp50 hX hz hk hh => ?_)
        have hh : xw_H G A H0 H locs [(rd, .inr (2, [.ref ta, .int (xi_ (len : Int)), .int (xi_ (b : Int)), .int (xi_ u)])), (ta, .inl (G.2.2 2, 40, .inl (ja_ txt))), (nd, .inr (1, nd_ kd ia i k n r (b2_ (is_letter kd || acc.any (can_ d))))), (ia, .inl (G.2.2 4, np, .inr (.inr (.inr (.inr f)))))] := hh
        refine xw_topi (y := 0) hp50 ?_
        refine xw_if_ne hx hb 58 d_Rd_readOperator_53 (by decide) (by decide) (fun c53 => absurd c53 (by decide)) (fun c53 => ?_)
        have eT : TG = (none, b) := hTG2.symm
        subst eT
        exact kf ls H locs _ _ u rfl hpu (lv_sub hl [] rfl) (xw_H.sub hh [0, 1] rfl rfl) (by (try dsimp only at *); omega) (by (try dsimp only at *); omega)
      · have hh : xw_H G A H0 H locs [(rd, .inr (2, [.ref ta, .int (xi_ (len : Int)), .int (xi_ (b : Int)), .int (xi_ u)])), (ta, .inl (G.2.2 2, 40, .inl (ja_ txt))), (nd, .inr (1, nd_ kd ia i k n r (b2_ (is_letter kd || acc.any (can_ d))))), (ia, .inl (G.2.2 4, np, .inr (.inr (.inr (.inr f)))))] := hh
        obtain ⟨bn, hbn, hbt⟩ := hX t rfl
        have hwt := hpwf t b rfl
        have hbl : _ ≤ bn := (nt_lt hbt).2
        have hbS : nt_ G (fun q : Nat => H0.size ≤ q ∧ q ≠ nd ∧ q ≠ ia) d H bn t := nt_weaken (fun q h1 h2 => ⟨by omega, by omega, by omega⟩) hbt
        obtain ⟨kd2, ia2, cnt2, k2, n2, r2, hb2, hc1, hc2, hc3⟩ := nt_cell hbS hwt
        refine xw_topr hbn ?_
        refine xw_ci (wc := [(nd, .inr (1, nd_ kd ia i k n r (b2_ (is_letter kd || acc.any (can_ d))))), (ia, .inl (G.2.2 4, np, .inr (.inr (.inr (.inr f)))))]) (wr := [(rd, .inr (2, [.ref ta, .int (xi_ (len : Int)), .int (xi_ (b : Int)), .int (xi_ u)])), (ta, .inl (G.2.2 2, 40, .inl (ja_ txt)))]) hh [2, 3] [0, 1] rfl rfl rfl (by decide) (xw_rV F hh [2, 3] rfl rfl (c_N_add l G H.size nd ia np f kd i k n r (is_letter kd || acc.any (can_ d)) (by omega) bn ia2 kd2 cnt2 k2 n2 r2 hb2 hc3 ⟨by omega, by omega⟩) hc1 lk_Rd_59 cd_N_add se_N_add _ hh.1 2 rfl rfl rfl rfl ⟨by unfold rm_N_add rm_Rd_readOperator; (try dsimp only); omega, by unfold rm_N_add rm_Rd_readOperator; (try dsimp only); omega⟩ rfl hl.1 rfl (Nat.le_of_ble_eq_true rfl) d_Rd_readOperator_50 ⟨by unfold rm_Rd_readOperator; (try dsimp only at *); omega, by unfold rm_Rd_readOperator; (try dsimp only at *); omega⟩) (fun z50 u_ H locs hp50 hX hz hk hh => ?_)
        have hh : xw_H G A H0 H locs [(rd, .inr (2, [.ref ta, .int (xi_ (len : Int)), .int (xi_ (b : Int)), .int (xi_ u)])), (ta, .inl (G.2.2 2, 40, .inl (ja_ txt))), (nd, .inr (1, nd_ kd ia (i + 1) k n r (b2_ ((is_letter kd || acc.any (can_ d)) || (hb2 && decide (0 < k2) && decide (0 < n2)))))), (ia, .inl (G.2.2 4, np, .inr (.inr (.inr (.inr (va_up f i.toNat (some bn)))))))] := hh
        refine xw_topi (y := 1) hp50 ?_
        have hK2 : ∀ q : Nat, (fun q : Nat => H0.size ≤ q ∧ q ≠ nd ∧ q ≠ ia) q → q < _ → H[q]? = _ := fun q h1 h2 => hk q h2 (not_in2 h1.2.1 h1.2.2 h2)
        have hkd3 := kd_snoc (kd_keep hK2 hkd) (nt_keep hK2 hbS)
        rw [hc2, any_snoc, show i.toNat = acc.length by omega] at hh
        have hh : xw_H G A H0 H locs [(rd, .inr (2, [.ref ta, .int (xi_ (len : Int)), .int (xi_ (b : Int)), .int (xi_ u)])), (ta, .inl (G.2.2 2, 40, .inl (ja_ txt))), (nd, .inr (1, nd_ kd ia (i + 1) k n r (b2_ (is_letter kd || (acc ++ [t]).any (can_ d))))), (ia, .inl (G.2.2 4, np, .inr (.inr (.inr (.inr (va_up f acc.length (some bn)))))))] := hh
        refine xw_if_ne hx hb 58 d_Rd_readOperator_53 (by decide) (by decide) (fun c53 => ?_) (fun c53 => absurd c53 (by decide))
        refine lv_iinc (k := 0) (v := xi_ (i + 1)) (lv' := [(5, .int (xi_ (i + 1))), (4, .ref nd), (0, .ref rd), (1, .int (xi_ kd)), (2, .int (xi_ (np : Int))), (3, .int (xi_ (41 - ((d + 1 : Nat) : Int))))]) hx hb d_Rd_readOperator_58 hl rfl (xi_add _ _).symm (by decide) rfl (fun ls hl => ?_)
        refine lv_goto (tgt := 35) hx hb d_Rd_readOperator_61 (by decide) ?_
        refine ihn (i + 1) (acc ++ [t]) (va_up f acc.length (some bn)) u b ls H locs _ _ ?_ ?_ ?_ ?_ ?_ hpu ?_ hkd3 ?_ (lv_sub hl [0, 1, 2, 3, 4, 5] rfl) hh ?_ ?_
        · rw [List.length_append]; show _ - (acc.length + 1) < _; omega
        · rw [List.length_append]; show _ = ((acc.length + 1 : Nat) : Int); omega
        · rw [List.length_append]; show acc.length + 1 ≤ _; omega
        · (try dsimp only at *); omega
        · (try dsimp only at *); omega
        · rw [fold_snoc, ← hgf]; exact hpg t rfl
        · rw [List.length_append, show np - (acc.length + [t].length) = np - 1 - acc.length by (show np - (acc.length + 1) = _; omega)]; exact hTG2
        · (try dsimp only at *); omega
        · (try dsimp only at *); omega
def p_oend2 {d : Nat} (kd k n r : Int) (TG : Option (List (PT d)) × Nat) : Option (PT (d + 1)) × Nat := match TG with
  | (none, a) => (none, a)
  | (some cs, a) => (some (tr_mk kd k n r cs), a)
def p_oend {d : Nat} (pr : Nat → Option (PT d) × Nat) (kd : Int) (np : Nat) (D : Option (Int × Int × Int) × Nat) : Option (PT (d + 1)) × Nat := match D with
  | (none, a) => (none, a)
  | (some (k, n, r), a) => p_oend2 kd k n r (p_kids pr np [] a)
set_option maxHeartbeats 4000000 in
set_option maxRecDepth 100000 in
theorem c_Rd_readOperator (l : Launch) (G : GG_) (sz : Nat) (rd ta : Nat) (txt : Nat → Int) (len at_ : Nat) (gr : Int) (d : Nat) (ih : cwp_ l G d) (hd40 : d ≤ 40) (kd : Int) (np : Nat) (hkd : kd = 70 ∨ kd = 83 ∨ kd = 76 ∨ kd = 86 ∨ kd = 69 ∨ kd = 82) (hnp : 1 ≤ np ∧ np ≤ 2) (hlen : len ≤ 40 ∧ at_ < len) (htx : ∀ j : Nat, 0 ≤ txt j ∧ txt j ≤ 65535) (hgr : 1 ≤ gr ∧ gr ≤ 45360) : Met l y_Rd_readOperator (cw_ y_Rd_readOperator b_Rd_readOperator 6 (some (.object "CyclePatterns$Node"))) (rm_Rd_readOperator d ((p_oper (prs_ txt len d) txt len kd np at_).2 - at_)) (xw_P G [.ref rd, .int (xi_ kd), .int (xi_ (np : Int)), .int (xi_ (41 - ((d + 1 : Nat) : Int)))] sz [(rd, .inr (2, [.ref ta, .int (xi_ (len : Int)), .int (xi_ (at_ : Int)), .int (xi_ gr)])), (ta, .inl (G.2.2 2, 40, .inl (ja_ txt)))] (fun _ => True)) (xw_Qa (S := Int) G sz [(rd, .inr (2, [.ref ta, .int (xi_ (len : Int)), .int (xi_ (at_ : Int)), .int (xi_ gr)])), (ta, .inl (G.2.2 2, 40, .inl (ja_ txt)))] (fun x u => rp_ok (p_oper (prs_ txt len d) txt len kd np at_) gr x u) (fun u => [(rd, .inr (2, [.ref ta, .int (xi_ (len : Int)), .int (xi_ ((p_oper (prs_ txt len d) txt len kd np at_).2 : Int)), .int (xi_ u)])), (ta, .inl (G.2.2 2, 40, .inl (ja_ txt)))]) (fun x _ H => rp_nt G sz (p_oper (prs_ txt len d) txt len kd np at_) x H)) (2 * ((p_oper (prs_ txt len d) txt len kd np at_).2 - at_)) (16 * ((p_oper (prs_ txt len d) txt len kd np at_).2 - at_)) (va_A [(rd, .inr (2, [.ref ta, .int (xi_ (len : Int)), .int (xi_ (at_ : Int)), .int (xi_ gr)])), (ta, .inl (G.2.2 2, 40, .inl (ja_ txt)))] sz) := by
  refine xw_met (by decide) (Nat.le_of_ble_eq_true rfl) ?_
  intro p0 e0 s m0 args below meth c0 F hr hlk hin hsz hh hX ls hl
  subst hsz
  have hx := F.1
  have hb := F.2.1
  have hl : lv_has ls 6 [(0, .ref rd), (1, .int (xi_ kd)), (2, .int (xi_ (np : Int))), (3, .int (xi_ (41 - ((d + 1 : Nat) : Int))))] := hl
  have hRle := p_oper_le (tx := txt) (kd := kd) (np := np) (prs_le txt len d) hlen.2
  obtain ⟨Rz, hRz⟩ : ∃ Rz, Rz = p_oper (prs_ txt len d) txt len kd np at_ := ⟨_, rfl⟩
  rw [← hRz] at hRle
  rw [← hRz]
  have hnl : is_letter kd = false := by
    unfold is_letter
    exact decide_eq_false (by omega)
  have hrd0 : rd < s.heap.size ∧ ta < s.heap.size := ⟨(hh.1 0 _ rfl).lt, (hh.1 1 _ rfl).lt⟩
  refine lv_aload_n hx hb d_Rd_readOperator_0 rfl (lv_at hl 0 rfl) ?_
  refine lv_dup hx hb d_Rd_readOperator_1 rfl ?_
  refine xw_get F hh.1 (v := .int (xi_ (at_ : Int))) fl_Rd_25_2 0 rfl rfl d_Rd_readOperator_2 ?_
  refine lv_iconst (v := xi_ 1) hx hb d_Rd_readOperator_5 rfl ?_
  refine xw_iadd hx hb d_Rd_readOperator_6 ?_
  refine xw_put F hh fp_Rd_25_2 0 rfl rfl rfl (Nat.le_of_ble_eq_true rfl) d_Rd_readOperator_7 (fun H locs hh => ?_)
  have hh : xw_H G (va_A [(rd, .inr (2, [.ref ta, .int (xi_ (len : Int)), .int (xi_ (at_ : Int)), .int (xi_ gr)])), (ta, .inl (G.2.2 2, 40, .inl (ja_ txt)))] s.heap.size) s.heap H locs [(rd, .inr (2, [.ref ta, .int (xi_ (len : Int)), .int (xi_ ((at_ : Int) + 1)), .int (xi_ gr)])), (ta, .inl (G.2.2 2, 40, .inl (ja_ txt)))] := hh
  refine xw_new F hh mk_Rd_48 (by unfold rm_Rd_readOperator; (try dsimp only); omega) (by unfold rm_Rd_readOperator; (try dsimp only); omega) d_Rd_readOperator_10 (fun q10 H hh => ?_)
  have hh : xw_H G (va_A [(rd, .inr (2, [.ref ta, .int (xi_ (len : Int)), .int (xi_ (at_ : Int)), .int (xi_ gr)])), (ta, .inl (G.2.2 2, 40, .inl (ja_ txt)))] s.heap.size) s.heap H locs [(rd, .inr (2, [.ref ta, .int (xi_ (len : Int)), .int (xi_ ((at_ : Int) + 1)), .int (xi_ gr)])), (ta, .inl (G.2.2 2, 40, .inl (ja_ txt))), (q10, .inr (1, [.int (xi_ 0), .null, .int (xi_ 0), .int (xi_ 0), .int (xi_ 0), .int (xi_ 0), .int (xi_ 0)]))] := hh
  refine lv_dup hx hb d_Rd_readOperator_13 rfl ?_
  refine lv_iload_n hx hb d_Rd_readOperator_14 rfl (lv_at hl 1 rfl) ?_
  refine lv_iload_n hx hb d_Rd_readOperator_15 rfl (lv_at hl 2 rfl) ?_
  refine xw_cv (wc := [(q10, .inr (1, [.int (xi_ 0), .null, .int (xi_ 0), .int (xi_ 0), .int (xi_ 0), .int (xi_ 0), .int (xi_ 0)]))]) (wr := [(rd, .inr (2, [.ref ta, .int (xi_ (len : Int)), .int (xi_ ((at_ : Int) + 1)), .int (xi_ gr)])), (ta, .inl (G.2.2 2, 40, .inl (ja_ txt)))]) hh [2] [0, 1] rfl rfl rfl (by decide) (xw_rI F hh [2] rfl rfl (c_N_init l G H.size q10 kd np (by omega) (by omega)) trivial lk_Rd_53 cd_N_init ⟨is_N_init, rfl⟩ rfl rfl ⟨by unfold rm_N_init rm_Rd_readOperator; (try dsimp only); omega, by unfold rm_N_init rm_Rd_readOperator; (try dsimp only); omega⟩ rfl hl.1 rfl (Nat.le_of_ble_eq_true rfl) d_Rd_readOperator_16 ⟨by unfold rm_Rd_readOperator; (try dsimp only); omega, by unfold rm_Rd_readOperator; (try dsimp only); omega⟩) (fun ia H locs hp16 hX hz hk hh => ?_)
  have hh : xw_H G (va_A [(rd, .inr (2, [.ref ta, .int (xi_ (len : Int)), .int (xi_ (at_ : Int)), .int (xi_ gr)])), (ta, .inl (G.2.2 2, 40, .inl (ja_ txt)))] s.heap.size) s.heap H locs [(rd, .inr (2, [.ref ta, .int (xi_ (len : Int)), .int (xi_ ((at_ : Int) + 1)), .int (xi_ gr)])), (ta, .inl (G.2.2 2, 40, .inl (ja_ txt))), (q10, .inr (1, nd_ kd ia 0 1 1 0 (b2_ (is_letter kd)))), (ia, .inl (G.2.2 4, np, .inr (.inr (.inr (.inr (fun _ => none))))))] := hh
  have hf1 := xw_fresh2 hh rfl rfl 0 rfl
  have hf2 := xw_fresh2 hh rfl rfl 1 rfl
  refine lv_astore (lv' := [(4, .ref q10), (0, .ref rd), (1, .int (xi_ kd)), (2, .int (xi_ (np : Int))), (3, .int (xi_ (41 - ((d + 1 : Nat) : Int))))]) hx hb d_Rd_readOperator_19 hl (by decide) rfl (fun ls hl => ?_)
  refine lv_aload_n hx hb d_Rd_readOperator_21 rfl (lv_at hl 1 rfl) ?_
  refine lv_aload hx hb d_Rd_readOperator_22 (lv_at hl 0 rfl) ?_
  have hdle := p_digs_le (tx := txt) (kd := kd) (at_ := at_ + 1) (len := len) hlen.2
  have hdT : (p_digs txt len kd (at_ + 1)).2 ≤ Rz.2 := by
    rw [hRz]
    unfold p_oper
    rcases e1 : p_digs txt len kd (at_ + 1) with ⟨_ | ⟨k, n, r⟩, a⟩
    · exact Nat.le_refl _
    · rw [e1] at hdle
      have h2 := p_kids_le (prs_le txt len d) np [] a hdle.2
      dsimp only
      rcases e2 : p_kids (prs_ txt len d) np [] a with ⟨_ | cs, b⟩ <;> (rw [e2] at h2; exact h2.1)
  refine xw_ci (wc := [(rd, .inr (2, [.ref ta, .int (xi_ (len : Int)), .int (xi_ ((at_ : Int) + 1)), .int (xi_ gr)])), (ta, .inl (G.2.2 2, 40, .inl (ja_ txt))), (q10, .inr (1, nd_ kd ia 0 1 1 0 (b2_ (is_letter kd))))]) (wr := [(ia, .inl (G.2.2 4, np, .inr (.inr (.inr (.inr (fun _ => none))))))]) hh [0, 1, 2] [3] rfl rfl rfl (by decide) (xw_rV F hh [0, 1, 2] rfl rfl (c_Rd_readDigits l G H.size rd ta txt len (at_ + 1) gr ⟨hlen.1, by omega⟩ htx q10 ia kd 0 (b2_ (is_letter kd)) hgr hkd) trivial lk_Rd_73 cd_Rd_readDigits se_Rd_readDigits _ hh.1 0 rfl rfl rfl rfl ⟨by unfold rm_Rd_readDigits rm_Rd_readOperator; (try dsimp only); omega, by unfold rm_Rd_readDigits rm_Rd_readOperator; (try dsimp only); omega⟩ rfl hl.1 rfl (Nat.le_of_ble_eq_true rfl) d_Rd_readOperator_24 ⟨by unfold rm_Rd_readOperator; (try dsimp only); omega, by unfold rm_Rd_readOperator; (try dsimp only); omega⟩) (fun z24 u H locs hp24 hX hz hk hh => ?_)
  have hh : xw_H G (va_A [(rd, .inr (2, [.ref ta, .int (xi_ (len : Int)), .int (xi_ (at_ : Int)), .int (xi_ gr)])), (ta, .inl (G.2.2 2, 40, .inl (ja_ txt)))] s.heap.size) s.heap H locs [(rd, .inr (2, [.ref ta, .int (xi_ (len : Int)), .int (xi_ ((p_digs txt len kd (at_ + 1)).2 : Int)), .int (xi_ u.2.2.2)])), (ta, .inl (G.2.2 2, 40, .inl (ja_ txt))), (q10, .inr (1, nd_ kd ia 0 u.1 u.2.1 u.2.2.1 (b2_ (is_letter kd)))), (ia, .inl (G.2.2 4, np, .inr (.inr (.inr (.inr (fun _ => none))))))] := xw_H.sub hh [1, 2, 3, 0] rfl rfl
  obtain ⟨hz24, hu24, hr24⟩ := hp24
  have hdr := fun k n r b h => p_digs_rng (tx := txt) (len := len) (kd := kd) (k := k) (n := n) (r := r) (at_ := at_ + 1) (b := b) h (by omega)
  have eRz : Rz = p_oend (prs_ txt len d) kd np (p_digs txt len kd (at_ + 1)) := hRz
  obtain ⟨D, hD⟩ : ∃ D, D = p_digs txt len kd (at_ + 1) := ⟨_, rfl⟩
  rw [← hD] at hh hz24 hr24 hdle hdT eRz hdr
  rcases D with ⟨_ | ⟨k, n, r⟩, a⟩
  · obtain ⟨g, hge⟩ : ∃ g, g = u.2.2.2 := ⟨_, rfl⟩
    rw [← hge] at hh hu24
    have hg := hu24
    have hh : xw_H G (va_A [(rd, .inr (2, [.ref ta, .int (xi_ (len : Int)), .int (xi_ (at_ : Int)), .int (xi_ gr)])), (ta, .inl (G.2.2 2, 40, .inl (ja_ txt)))] s.heap.size) s.heap H locs [(rd, .inr (2, [.ref ta, .int (xi_ (len : Int)), .int (xi_ (a : Int)), .int (xi_ g)])), (ta, .inl (G.2.2 2, 40, .inl (ja_ txt))), (q10, .inr (1, nd_ kd ia 0 u.1 u.2.1 u.2.2.1 (b2_ (is_letter kd)))), (ia, .inl (G.2.2 4, np, .inr (.inr (.inr (.inr (fun _ => none))))))] := hh
    refine xw_topi (y := 0) hz24 ?_
    have eRn : Rz = (none, a) := eRz
    refine xw_if_ne hx hb 32 d_Rd_readOperator_27 (by decide) (by decide) (fun c27 => absurd c27 (by decide)) (fun c27 => ?_)
    refine lv_null hx hb d_Rd_readOperator_30 ?_
    rw [eRn]
    rw [eRn] at hRle
    have hh2 : xw_H G (va_A [(rd, .inr (2, [.ref ta, .int (xi_ (len : Int)), .int (xi_ (at_ : Int)), .int (xi_ gr)])), (ta, .inl (G.2.2 2, 40, .inl (ja_ txt)))] s.heap.size) s.heap H locs [(rd, .inr (2, [.ref ta, .int (xi_ (len : Int)), .int (xi_ (a : Int)), .int (xi_ g)])), (ta, .inl (G.2.2 2, 40, .inl (ja_ txt)))] := xw_H.sub hh [0, 1] rfl rfl
    refine W.widen (k := 2 * (a - at_)) (n := 16 * (a - at_)) (by (try dsimp only at *); omega) (by (try dsimp only at *); omega) ?_
    exact xw_aret F hr hlk hh2 (x := none) rfl g rfl ⟨fun _ => rfl, hg, fun T h => (by cases h)⟩ (fun T h => (by cases h)) d_Rd_readOperator_31
  · obtain rfl := hr24 k n r rfl
    have hh : xw_H G (va_A [(rd, .inr (2, [.ref ta, .int (xi_ (len : Int)), .int (xi_ (at_ : Int)), .int (xi_ gr)])), (ta, .inl (G.2.2 2, 40, .inl (ja_ txt)))] s.heap.size) s.heap H locs [(rd, .inr (2, [.ref ta, .int (xi_ (len : Int)), .int (xi_ (a : Int)), .int (xi_ (gc_ gr (df_ kd k n)))])), (ta, .inl (G.2.2 2, 40, .inl (ja_ txt))), (q10, .inr (1, nd_ kd ia 0 k n r (b2_ (is_letter kd)))), (ia, .inl (G.2.2 4, np, .inr (.inr (.inr (.inr (fun _ => none))))))] := hh
    have hg0 : 1 ≤ gc_ gr (df_ kd k n) ∧ gc_ gr (df_ kd k n) ≤ 45360 := hu24
    have hdr2 := hdr k n r a rfl
    refine xw_topi (y := 1) hz24 ?_
    refine xw_if_ne hx hb 32 d_Rd_readOperator_27 (by decide) (by decide) (fun c27 => ?_) (fun c27 => absurd c27 (by decide))
    refine lv_iconst (v := xi_ 0) hx hb d_Rd_readOperator_32 rfl ?_
    refine lv_istore (lv' := [(5, .int (xi_ 0)), (4, .ref q10), (0, .ref rd), (1, .int (xi_ kd)), (2, .int (xi_ (np : Int))), (3, .int (xi_ (41 - ((d + 1 : Nat) : Int))))]) hx hb d_Rd_readOperator_33 hl (by decide) rfl (fun ls hl => ?_)
    obtain ⟨TG, hTG⟩ : ∃ TG, TG = p_kids (prs_ txt len d) np [] a := ⟨_, rfl⟩
    have eRz2 : Rz = p_oend2 kd k n r TG := by
      rw [eRz, hTG]
      rfl
    have hTle : TG.2 ≤ Rz.2 := by
      rw [eRz2]
      rcases TG with ⟨_ | cs, b⟩ <;> exact Nat.le_refl _
    have hTge : a ≤ TG.2 ∧ TG.2 ≤ len := by
      rw [hTG]
      exact p_kids_le (prs_le txt len d) _ _ _ hdle.2
    have hh : xw_H G (va_A [(rd, .inr (2, [.ref ta, .int (xi_ (len : Int)), .int (xi_ (at_ : Int)), .int (xi_ gr)])), (ta, .inl (G.2.2 2, 40, .inl (ja_ txt)))] s.heap.size) s.heap H locs [(rd, .inr (2, [.ref ta, .int (xi_ (len : Int)), .int (xi_ (a : Int)), .int (xi_ (gc_ gr (df_ kd k n)))])), (ta, .inl (G.2.2 2, 40, .inl (ja_ txt))), (q10, .inr (1, nd_ kd ia 0 k n r (b2_ (is_letter kd || ([] : List (PT d)).any (can_ d))))), (ia, .inl (G.2.2 4, np, .inr (.inr (.inr (.inr (fun _ => none))))))] := by
      rw [show (is_letter kd || ([] : List (PT d)).any (can_ d)) = is_letter kd by simp]
      exact hh
    have hale := hdle.1
    have hale2 := hdle.2
    (try dsimp only at hale hale2)
    refine lp_Rd_readOperator d F ih rd ta txt len at_ (gc_ gr (df_ kd k n)) kd q10 ia (Rz.2 - at_) np hnp k n r hlen htx hg0 hd40 ⟨hf1, hf2, hrd0.1, hrd0.2⟩ TG (by omega) (fun ls H locs cells slots g hT hg hl hh hce hsl => ?_) (fun acc f g ls H locs cells slots hT hac1 hac2 hg hgf hkds hl hh hce hsl => ?_) (np + 1) 0 [] (fun _ => none) (gc_ gr (df_ kd k n)) a ls H locs _ _ (by simp) rfl (by simp) (by omega) (by omega) hg0 rfl kd_nil hTG.symm (lv_sub hl [0, 1, 2, 3, 4, 5] rfl) hh (by omega) (by omega)
    · have eRn : Rz = (none, TG.2) := by
        rw [eRz2]
        rcases TG with ⟨_ | cs, b⟩
        · rfl
        · cases hT
      refine lv_null hx hb d_Rd_readOperator_56 ?_
      rw [eRn]
      rw [eRn] at hRle
      have hh2 : xw_H G (va_A [(rd, .inr (2, [.ref ta, .int (xi_ (len : Int)), .int (xi_ (at_ : Int)), .int (xi_ gr)])), (ta, .inl (G.2.2 2, 40, .inl (ja_ txt)))] s.heap.size) s.heap H locs [(rd, .inr (2, [.ref ta, .int (xi_ (len : Int)), .int (xi_ (TG.2 : Int)), .int (xi_ g)])), (ta, .inl (G.2.2 2, 40, .inl (ja_ txt)))] := xw_H.sub hh [0, 1] rfl rfl
      refine W.widen (k := 2 * (TG.2 - at_)) (n := 16 * (TG.2 - at_)) (by (try dsimp only at *); omega) (by (try dsimp only at *); omega) ?_
      exact xw_aret F hr hlk hh2 (x := none) rfl g rfl ⟨fun _ => rfl, hg, fun T h => (by cases h)⟩ (fun T h => (by cases h)) d_Rd_readOperator_57
    · have eRs : Rz = (some (tr_mk kd k n r acc), TG.2) := by
        rw [eRz2]
        rcases TG with ⟨_ | cs, b⟩
        · cases hT
        · cases hT
          rfl
      refine lv_aload hx hb d_Rd_readOperator_64 (lv_at hl 1 rfl) ?_
      rw [eRs]
      have hntg : nt_ G (fun q => s.heap.size ≤ q) (d + 1) H q10 (tr_mk kd k n r acc) := nt_mk hf1 hf2 (hh.1.sub [2, 3] rfl) rfl rfl ⟨hac2, by omega⟩ (fun i x hx => by
        obtain ⟨b, hb1, hb2⟩ := hkds i x hx
        exact ⟨b, hb1, nt_weaken (fun q h1 _ => h1.1) hb2⟩)
      have hh2 : xw_H G (va_A [(rd, .inr (2, [.ref ta, .int (xi_ (len : Int)), .int (xi_ (at_ : Int)), .int (xi_ gr)])), (ta, .inl (G.2.2 2, 40, .inl (ja_ txt)))] s.heap.size) s.heap H locs [(rd, .inr (2, [.ref ta, .int (xi_ (len : Int)), .int (xi_ (TG.2 : Int)), .int (xi_ g)])), (ta, .inl (G.2.2 2, 40, .inl (ja_ txt)))] := xw_H.sub hh [0, 1] rfl rfl
      have hgfin : g = gf_ (d + 1) (tr_mk kd k n r acc : PT (d + 1)) gr := by
        rw [gf_s, tr_mk_kd, tr_mk_cs, if_neg (by omega)]
        unfold gn_1
        rw [tr_mk_kd, tr_mk_k, tr_mk_n, if_neg (by omega)]
        exact hgf
      refine W.widen (k := 2 * (TG.2 - at_)) (n := 16 * (TG.2 - at_)) hce hsl ?_
      exact xw_aret F hr hlk hh2 (x := some q10) rfl g rfl ⟨fun h => (by cases h), hg, fun T h => (by cases h; exact hgfin)⟩ (fun T h => (by cases h; exact ⟨q10, rfl, hntg⟩)) d_Rd_readOperator_66
