/-! Reader.readGroup, Reader.readOperator -/
section XPK
variable {p : Program} {l : Launch} {e : Env} {R : Room} {s : State} {m : MethodId} {args : Array Value} {below : List Frame} {meth : Method} {c : Code} {H : Heap} {locs : List Loc} {cells slots : Nat} {Q : State → Prop}
variable {cc : ByteArray} {nL pc : Nat} {ls : Array Slot} {rest : List Value} {own : String} {G : GG_} {A : Nat → Prop} {a : Nat} {ws : va_W} {H0 : Heap}
/-- a write to a field, and that all else stays -/
theorem xw_putK (F : xw_F p s m args c cc nL own G) (hh : xw_H G A H0 H locs ws) {index ci k : Nat} {ty : FieldType} (fl : xw_fp own index ci k ty) (q0 : Nat) {fs : List Value} (he : ws[q0]? = some (a, .inr (ci, fs))) {v : Value} (hn : narrow ty v = v) (hfit : fits ty v = true) (hl : k < fs.length) (hd : decode cc pc = .ok (.putfield index, 3))
    (kk : ∀ (H1 : Heap) (locs1 : List Loc), xw_H G A H0 H1 locs1 (ws.set q0 (a, .inr (ci, fs.set k v))) → (∀ q : Nat, q ≠ a → H1[q]? = H[q]?) → W p l e R s m args below meth c H1 locs1 cells slots Q (F0 m (pc + 3) ls rest)) : W p l e R s m args below meth c H locs cells slots Q (F0 m pc ls (v :: .ref a :: rest)) := by
  obtain ⟨C, T, N, ref, ty0, h1, h2, h3, h4, h5, h6, h7, h8, h9⟩ := fl
  obtain ⟨hx, hb, -, hown, hts, hE⟩ := F
  obtain ⟨hP, hD, hS, hA⟩ := hh
  have hsame : ∀ x, s.fieldFound? (T k).1 (T k).2.1 (T k).2.2.1 = some x → s.fieldFound? ref (T k).2.1 (T k).2.2.1 = some x := by
    rcases h4 with h4 | h4
    · intro x hx; rw [h4]; exact hx
    · exact fun x hx => u_same (hts _ h4) x hx
  have hap := va_apart (own := own) hts h3 ty0 h6 h7 hE.1 h1
  obtain ⟨r, g1, cell, q1, q2, q3, q4⟩ := hP q0 _ he
  obtain rfl : r = (C, T, N) := Option.some.inj (g1.symm.trans h1)
  obtain ⟨hKn, hfc, kC, hkC, hkind⟩ := hE.1.1 ci _ h1
  obtain ⟨cf, kf, fi, f, hi, hsl⟩ := hKn k h2
  have hlay := hts _ (h3 _ (u_in_lay h2))
  unfold u_lay at hlay
  rw [if_neg (by rw [h8]; decide)] at hlay
  have hst := (u_facts hfc hkC (u_lays hts h3 h2) hi).1
  have hsto := u_store hfc hkC hkind hlay hi h9 hn hfit
  have fin : ∀ H' : Heap, H'[a]? = some (cell.setSlot (gD G |>.2 ci k) v) → H'.size = H.size → (∀ q : Nat, q ≠ a → H'[q]? = H[q]?) → xw_H G A H0 H' (locs ++ [⟨a, (gD G).2 ci k⟩]) (ws.set q0 (a, .inr (ci, fs.set k v))) := fun H' e1 e2 e3 =>
    ⟨hP.set hD he ⟨_, h1, t_OB.to (V := updV (vp_V fs) k v) ⟨_, e1, q2, q3, t_set q4 hap h2 v⟩ (fun j _ => vp_updV_set hl v j)⟩ e3, hD.set he, hS.put e2 e3 (hD.2 q0 _ he), hA⟩
  rcases h5 with h5 | ⟨host, h5⟩
  · refine W.putK hx hb (f := f) ⟨hown, hts _ h5, ⟨_, _, _, hsame _ hi⟩, hst⟩ (by rw [q2]; exact hsto) q1 q3 (by rw [hsl]; exact k2_hasslot (q4 k h2)) rfl rfl hd fun H' e1 e2 e3 => ?_
    rw [hsl] at e1 ⊢
    exact kk H' _ (fin H' e1 e2 e3) e3
  · refine va_WputK hx hb (f := f) hown (va_Nw.use rfl (hE.2.1 _ h5)) (hsame _ hi) hst (by rw [q2]; exact hsto) q1 q3 (by rw [hsl]; exact k2_hasslot (q4 k h2)) rfl rfl hd fun H' e1 e2 e3 => ?_
    rw [hsl] at e1 ⊢
    exact kk H' _ (fin H' e1 e2 e3) e3
end XPK
def p_gend {d : Nat} (tx : Nat → Int) (len : Nat) (kd cl : Int) (TG : Option (List (PT d)) × Nat) : Option (PT (d + 1)) × Nat := match TG with
  | (none, a) => (none, a)
  | (some cs, a) => if p_is tx len cl a = true then (some (tr_mk kd 1 (cs.length : Int) 0 cs), a + 1) else (none, a)
set_option maxHeartbeats 4000000 in
set_option maxRecDepth 100000 in
theorem c_Rd_readGroup (l : Launch) (G : GG_) (sz : Nat) (rd ta : Nat) (txt : Nat → Int) (len at_ : Nat) (gr : Int) (d : Nat) (ih : cwp_ l G d) (hd40 : d ≤ 40) (kd cl : Int) (hkd : kd = 91 ∨ kd = 60 ∨ kd = 123) (hcl : 0 ≤ cl ∧ cl ≤ 65535) (hlen : len ≤ 40 ∧ at_ < len) (htx : ∀ j : Nat, 0 ≤ txt j ∧ txt j ≤ 65535) (hgr : 1 ≤ gr ∧ gr ≤ 45360) : Met l y_Rd_readGroup (cw_ y_Rd_readGroup b_Rd_readGroup 6 (some (.object "CyclePatterns$Node"))) (rm_Rd_readGroup d ((p_group (prs_ txt len d) txt len kd cl at_).2 - at_)) (xw_P G [.ref rd, .int (xi_ kd), .int (xi_ cl), .int (xi_ (41 - ((d + 1 : Nat) : Int)))] sz [(rd, .inr (2, [.ref ta, .int (xi_ (len : Int)), .int (xi_ (at_ : Int)), .int (xi_ gr)])), (ta, .inl (G.2.2 2, 40, .inl (ja_ txt)))] (fun _ => True)) (xw_Qa (S := Int) G sz [(rd, .inr (2, [.ref ta, .int (xi_ (len : Int)), .int (xi_ (at_ : Int)), .int (xi_ gr)])), (ta, .inl (G.2.2 2, 40, .inl (ja_ txt)))] (fun x u => rp_ok (p_group (prs_ txt len d) txt len kd cl at_) gr x u) (fun u => [(rd, .inr (2, [.ref ta, .int (xi_ (len : Int)), .int (xi_ ((p_group (prs_ txt len d) txt len kd cl at_).2 : Int)), .int (xi_ u)])), (ta, .inl (G.2.2 2, 40, .inl (ja_ txt)))]) (fun x _ H => rp_nt G sz (p_group (prs_ txt len d) txt len kd cl at_) x H)) (2 * ((p_group (prs_ txt len d) txt len kd cl at_).2 - at_)) (16 * ((p_group (prs_ txt len d) txt len kd cl at_).2 - at_)) (va_A [(rd, .inr (2, [.ref ta, .int (xi_ (len : Int)), .int (xi_ (at_ : Int)), .int (xi_ gr)])), (ta, .inl (G.2.2 2, 40, .inl (ja_ txt)))] sz) := by
  refine xw_met (by decide) (Nat.le_of_ble_eq_true rfl) ?_
  intro p0 e0 s m0 args below meth c0 F hr hlk hin hsz hh hX ls hl
  subst hsz
  have hx := F.1
  have hb := F.2.1
  have hl : lv_has ls 6 [(0, .ref rd), (1, .int (xi_ kd)), (2, .int (xi_ cl)), (3, .int (xi_ (41 - ((d + 1 : Nat) : Int))))] := hl
  have hRle := p_group_le (tx := txt) (kd := kd) (cl := cl) (prs_le txt len d) hlen.2
  obtain ⟨Rz, hRz⟩ : ∃ Rz, Rz = p_group (prs_ txt len d) txt len kd cl at_ := ⟨_, rfl⟩
  rw [← hRz] at hRle
  rw [← hRz]
  have hnl : is_letter kd = false := by
    unfold is_letter
    exact decide_eq_false (by omega)
  have hrd0 : rd < s.heap.size ∧ ta < s.heap.size := ⟨(hh.1 0 _ rfl).lt, (hh.1 1 _ rfl).lt⟩
  refine lv_aload_n hx hb d_Rd_readGroup_0 rfl (lv_at hl 0 rfl) ?_
  refine lv_dup hx hb d_Rd_readGroup_1 rfl ?_
  refine xw_get F hh.1 (v := .int (xi_ (at_ : Int))) fl_Rd_25_2 0 rfl rfl d_Rd_readGroup_2 ?_
  refine lv_iconst (v := xi_ 1) hx hb d_Rd_readGroup_5 rfl ?_
  refine xw_iadd hx hb d_Rd_readGroup_6 ?_
  refine xw_put F hh fp_Rd_25_2 0 rfl rfl rfl (Nat.le_of_ble_eq_true rfl) d_Rd_readGroup_7 (fun H locs hh => ?_)
  have hh : xw_H G (va_A [(rd, .inr (2, [.ref ta, .int (xi_ (len : Int)), .int (xi_ (at_ : Int)), .int (xi_ gr)])), (ta, .inl (G.2.2 2, 40, .inl (ja_ txt)))] s.heap.size) s.heap H locs [(rd, .inr (2, [.ref ta, .int (xi_ (len : Int)), .int (xi_ ((at_ : Int) + 1)), .int (xi_ gr)])), (ta, .inl (G.2.2 2, 40, .inl (ja_ txt)))] := hh
  refine xw_new F hh mk_Rd_48 (by unfold rm_Rd_readGroup; (try dsimp only); omega) (by unfold rm_Rd_readGroup; (try dsimp only); omega) d_Rd_readGroup_10 (fun q10 H hh => ?_)
  have hh : xw_H G (va_A [(rd, .inr (2, [.ref ta, .int (xi_ (len : Int)), .int (xi_ (at_ : Int)), .int (xi_ gr)])), (ta, .inl (G.2.2 2, 40, .inl (ja_ txt)))] s.heap.size) s.heap H locs [(rd, .inr (2, [.ref ta, .int (xi_ (len : Int)), .int (xi_ ((at_ : Int) + 1)), .int (xi_ gr)])), (ta, .inl (G.2.2 2, 40, .inl (ja_ txt))), (q10, .inr (1, [.int (xi_ 0), .null, .int (xi_ 0), .int (xi_ 0), .int (xi_ 0), .int (xi_ 0), .int (xi_ 0)]))] := hh
  refine lv_dup hx hb d_Rd_readGroup_13 rfl ?_
  refine lv_iload_n hx hb d_Rd_readGroup_14 rfl (lv_at hl 1 rfl) ?_
  refine lv_bipush (v := xi_ 9) hx hb d_Rd_readGroup_15 (by decide) ?_
  refine xw_cv (wc := [(q10, .inr (1, [.int (xi_ 0), .null, .int (xi_ 0), .int (xi_ 0), .int (xi_ 0), .int (xi_ 0), .int (xi_ 0)]))]) (wr := [(rd, .inr (2, [.ref ta, .int (xi_ (len : Int)), .int (xi_ ((at_ : Int) + 1)), .int (xi_ gr)])), (ta, .inl (G.2.2 2, 40, .inl (ja_ txt)))]) hh [2] [0, 1] rfl rfl rfl (by decide) (xw_rI F hh [2] rfl rfl (c_N_init l G H.size q10 kd 9 (by omega) (by omega)) trivial lk_Rd_53 cd_N_init ⟨is_N_init, rfl⟩ rfl rfl ⟨by unfold rm_N_init rm_Rd_readGroup; (try dsimp only); omega, by unfold rm_N_init rm_Rd_readGroup; (try dsimp only); omega⟩ rfl hl.1 rfl (Nat.le_of_ble_eq_true rfl) d_Rd_readGroup_17 ⟨by unfold rm_Rd_readGroup; (try dsimp only); omega, by unfold rm_Rd_readGroup; (try dsimp only); omega⟩) (fun ia H locs hp17 hX hz hk hh => ?_)
  have hh : xw_H G (va_A [(rd, .inr (2, [.ref ta, .int (xi_ (len : Int)), .int (xi_ (at_ : Int)), .int (xi_ gr)])), (ta, .inl (G.2.2 2, 40, .inl (ja_ txt)))] s.heap.size) s.heap H locs [(rd, .inr (2, [.ref ta, .int (xi_ (len : Int)), .int (xi_ ((at_ : Int) + 1)), .int (xi_ gr)])), (ta, .inl (G.2.2 2, 40, .inl (ja_ txt))), (q10, .inr (1, nd_ kd ia 0 1 1 0 (b2_ (is_letter kd)))), (ia, .inl (G.2.2 4, 9, .inr (.inr (.inr (.inr (fun _ => none))))))] := hh
  have hf1 := xw_fresh2 hh rfl rfl 0 rfl
  have hf2 := xw_fresh2 hh rfl rfl 1 rfl
  refine lv_astore (lv' := [(4, .ref q10), (0, .ref rd), (1, .int (xi_ kd)), (2, .int (xi_ cl)), (3, .int (xi_ (41 - ((d + 1 : Nat) : Int))))]) hx hb d_Rd_readGroup_20 hl (by decide) rfl (fun ls hl => ?_)
  refine lv_iconst (v := xi_ 0) hx hb d_Rd_readGroup_22 rfl ?_
  refine lv_istore (lv' := [(5, .int (xi_ 0)), (4, .ref q10), (0, .ref rd), (1, .int (xi_ kd)), (2, .int (xi_ cl)), (3, .int (xi_ (41 - ((d + 1 : Nat) : Int))))]) hx hb d_Rd_readGroup_23 hl (by decide) rfl (fun ls hl => ?_)
  obtain ⟨TG, hTG⟩ : ∃ TG, TG = p_grp (prs_ txt len d) txt len cl 9 [] (at_ + 1) := ⟨_, rfl⟩
  have eRz : Rz = p_gend txt len kd cl TG := by
    rw [hRz, hTG]
    rfl
  have hTle : TG.2 ≤ Rz.2 := by
    rw [eRz]
    rcases TG with ⟨_ | cs, a⟩
    · exact Nat.le_refl _
    · unfold p_gend
      dsimp only
      split <;> simp
  have hTge : at_ + 1 ≤ TG.2 ∧ TG.2 ≤ len := by
    rw [hTG]
    exact p_grp_le (prs_le txt len d) _ _ _ hlen.2
  have hh : xw_H G (va_A [(rd, .inr (2, [.ref ta, .int (xi_ (len : Int)), .int (xi_ (at_ : Int)), .int (xi_ gr)])), (ta, .inl (G.2.2 2, 40, .inl (ja_ txt)))] s.heap.size) s.heap H locs [(rd, .inr (2, [.ref ta, .int (xi_ (len : Int)), .int (xi_ ((at_ + 1 : Nat) : Int)), .int (xi_ gr)])), (ta, .inl (G.2.2 2, 40, .inl (ja_ txt))), (q10, .inr (1, nd_ kd ia 0 1 1 0 (b2_ (is_letter kd || ([] : List (PT d)).any (can_ d))))), (ia, .inl (G.2.2 4, 9, .inr (.inr (.inr (.inr (fun _ => none))))))] := by
    rw [show (is_letter kd || ([] : List (PT d)).any (can_ d)) = is_letter kd by simp]
    exact hh
  refine lp_Rd_readGroup d F ih rd ta txt len at_ gr kd q10 ia (Rz.2 - at_) cl hcl hlen htx hgr hd40 ⟨hf1, hf2, hrd0.1, hrd0.2⟩ TG (by omega) (fun ls H locs cells slots g hT hg hl hh hce hsl => ?_) (fun acc f g ls H locs cells slots hT hac1 hac2 hg hgf hkds hl hh hce hsl => ?_) 10 0 [] (fun _ => none) gr (at_ + 1) ls H locs _ _ (by simp) rfl (by simp) (by omega) hlen.2 hgr rfl kd_nil hTG.symm (lv_sub hl [0, 1, 2, 3, 4, 5] rfl) hh (by omega) (by omega)
  · have eRn : Rz = (none, TG.2) := by
      rw [eRz]
      rcases TG with ⟨_ | cs, a⟩
      · rfl
      · cases hT
    refine lv_null hx hb d_Rd_readGroup_60 ?_
    rw [eRn]
    rw [eRn] at hRle
    have hh2 : xw_H G (va_A [(rd, .inr (2, [.ref ta, .int (xi_ (len : Int)), .int (xi_ (at_ : Int)), .int (xi_ gr)])), (ta, .inl (G.2.2 2, 40, .inl (ja_ txt)))] s.heap.size) s.heap H locs [(rd, .inr (2, [.ref ta, .int (xi_ (len : Int)), .int (xi_ (TG.2 : Int)), .int (xi_ g)])), (ta, .inl (G.2.2 2, 40, .inl (ja_ txt)))] := xw_H.sub hh [0, 1] rfl rfl
    refine W.widen (k := 2 * (TG.2 - at_)) (n := 16 * (TG.2 - at_)) (by (try dsimp only at *); omega) (by (try dsimp only at *); omega) ?_
    exact xw_aret F hr hlk hh2 (x := none) rfl g rfl ⟨fun _ => rfl, hg, fun T h => (by cases h)⟩ (fun T h => (by cases h)) d_Rd_readGroup_61
  · rcases TG with ⟨_ | cs, a⟩
    · cases hT
    · cases hT
      have hh : xw_H G (va_A [(rd, .inr (2, [.ref ta, .int (xi_ (len : Int)), .int (xi_ (at_ : Int)), .int (xi_ gr)])), (ta, .inl (G.2.2 2, 40, .inl (ja_ txt)))] s.heap.size) s.heap H locs [(rd, .inr (2, [.ref ta, .int (xi_ (len : Int)), .int (xi_ (a : Int)), .int (xi_ g)])), (ta, .inl (G.2.2 2, 40, .inl (ja_ txt))), (q10, .inr (1, nd_ kd ia (acc.length : Int) 1 1 0 (b2_ (is_letter kd || acc.any (can_ d))))), (ia, .inl (G.2.2 4, 9, .inr (.inr (.inr (.inr f)))))] := hh
      refine lv_aload_n hx hb d_Rd_readGroup_68 rfl (lv_at hl 2 rfl) ?_
      refine lv_iload_n hx hb d_Rd_readGroup_69 rfl (lv_at hl 4 rfl) ?_
      refine xw_ci (wc := [(rd, .inr (2, [.ref ta, .int (xi_ (len : Int)), .int (xi_ (a : Int)), .int (xi_ g)])), (ta, .inl (G.2.2 2, 40, .inl (ja_ txt)))]) (wr := [(q10, .inr (1, nd_ kd ia (acc.length : Int) 1 1 0 (b2_ (is_letter kd || acc.any (can_ d))))), (ia, .inl (G.2.2 4, 9, .inr (.inr (.inr (.inr f)))))]) hh [0, 1] [2, 3] rfl rfl rfl (by decide) (xw_rV F hh [0, 1] rfl rfl (c_Rd_isAt l G H.size rd ta txt len a g ⟨hlen.1, by (try dsimp only at *); omega⟩ htx cl hcl) trivial lk_Rd_56 cd_Rd_isAt se_Rd_isAt _ hh.1 0 rfl rfl rfl rfl ⟨by unfold rm_Rd_isAt rm_Rd_readGroup; (try dsimp only); omega, by unfold rm_Rd_isAt rm_Rd_readGroup; (try dsimp only); omega⟩ rfl hl.1 rfl (Nat.le_of_ble_eq_true rfl) d_Rd_readGroup_70 ⟨by unfold rm_Rd_readGroup; (try dsimp only at *); omega, by unfold rm_Rd_readGroup; (try dsimp only at *); omega⟩) (fun z70 u H locs hp70 hX hz hk hh => ?_)
      have hh : xw_H G (va_A [(rd, .inr (2, [.ref ta, .int (xi_ (len : Int)), .int (xi_ (at_ : Int)), .int (xi_ gr)])), (ta, .inl (G.2.2 2, 40, .inl (ja_ txt)))] s.heap.size) s.heap H locs [(rd, .inr (2, [.ref ta, .int (xi_ (len : Int)), .int (xi_ (a : Int)), .int (xi_ g)])), (ta, .inl (G.2.2 2, 40, .inl (ja_ txt))), (q10, .inr (1, nd_ kd ia (acc.length : Int) 1 1 0 (b2_ (is_letter kd || acc.any (can_ d))))), (ia, .inl (G.2.2 4, 9, .inr (.inr (.inr (.inr f)))))] := xw_H.sub hh [2, 3, 0, 1] rfl rfl
      obtain rfl : z70 = b2_ (p_is txt len cl a) := hp70
      have hisb := b2_01 (p_is txt len cl a)
      have hkds : kd_ G (fun q : Nat => s.heap.size ≤ q ∧ q ≠ q10 ∧ q ≠ ia) d H f acc := kd_keep (fun q h1 h2 => hk q h2 (not_in2 (by omega) (by omega) h2)) hkds
      refine xw_if_ne hx hb 78 d_Rd_readGroup_73 (by decide) (by omega) (fun c73 => ?_) (fun c73 => ?_)
      · have eRs : Rz = (some (tr_mk kd 1 (acc.length : Int) 0 acc), a + 1) := by
          rw [eRz]
          exact if_pos (b2_ne c73)
        have hal := p_is_lt (b2_ne c73)
        have hkdsO := hkds
        have hbef := hh
        skip
        refine lv_aload_n hx hb d_Rd_readGroup_78 rfl (lv_at hl 2 rfl) ?_
        refine lv_dup hx hb d_Rd_readGroup_79 rfl ?_
        refine xw_get F hh.1 (v := .int (xi_ (a : Int))) fl_Rd_25_2 0 rfl rfl d_Rd_readGroup_80 ?_
        refine lv_iconst (v := xi_ 1) hx hb d_Rd_readGroup_83 rfl ?_
        refine xw_iadd hx hb d_Rd_readGroup_84 ?_
        refine xw_putK F hh fp_Rd_25_2 0 rfl rfl rfl (Nat.le_of_ble_eq_true rfl) d_Rd_readGroup_85 (fun H locs hh oq => ?_)
        have hh : xw_H G (va_A [(rd, .inr (2, [.ref ta, .int (xi_ (len : Int)), .int (xi_ (at_ : Int)), .int (xi_ gr)])), (ta, .inl (G.2.2 2, 40, .inl (ja_ txt)))] s.heap.size) s.heap H locs [(rd, .inr (2, [.ref ta, .int (xi_ (len : Int)), .int (xi_ ((a : Int) + 1)), .int (xi_ g)])), (ta, .inl (G.2.2 2, 40, .inl (ja_ txt))), (q10, .inr (1, nd_ kd ia (acc.length : Int) 1 1 0 (b2_ (is_letter kd || acc.any (can_ d))))), (ia, .inl (G.2.2 4, 9, .inr (.inr (.inr (.inr f)))))] := hh
        have hkds : kd_ G (fun q : Nat => s.heap.size ≤ q ∧ q ≠ q10 ∧ q ≠ ia) d H f acc := kd_keep (fun q h1 h2 => oq q (by omega)) hkds
        refine lv_aload hx hb d_Rd_readGroup_88 (lv_at hl 1 rfl) ?_
        refine lv_aload hx hb d_Rd_readGroup_90 (lv_at hl 1 rfl) ?_
        refine xw_get F hh.1 (v := .int (xi_ (acc.length : Int))) fl_Rd_63_1 2 rfl rfl d_Rd_readGroup_92 ?_
        refine xw_putK F hh fp_Rd_66_1 2 rfl rfl rfl (Nat.le_of_ble_eq_true rfl) d_Rd_readGroup_95 (fun H locs hh oq => ?_)
        have hh : xw_H G (va_A [(rd, .inr (2, [.ref ta, .int (xi_ (len : Int)), .int (xi_ (at_ : Int)), .int (xi_ gr)])), (ta, .inl (G.2.2 2, 40, .inl (ja_ txt)))] s.heap.size) s.heap H locs [(rd, .inr (2, [.ref ta, .int (xi_ (len : Int)), .int (xi_ ((a : Int) + 1)), .int (xi_ g)])), (ta, .inl (G.2.2 2, 40, .inl (ja_ txt))), (q10, .inr (1, nd_ kd ia (acc.length : Int) 1 (acc.length : Int) 0 (b2_ (is_letter kd || acc.any (can_ d))))), (ia, .inl (G.2.2 4, 9, .inr (.inr (.inr (.inr f)))))] := hh
        have hkds : kd_ G (fun q : Nat => s.heap.size ≤ q ∧ q ≠ q10 ∧ q ≠ ia) d H f acc := kd_keep (fun q h1 h2 => oq q (by omega)) hkds
        refine lv_iload_n hx hb d_Rd_readGroup_98 rfl (lv_at hl 3 rfl) ?_
        refine lv_bipush (v := xi_ 91) hx hb d_Rd_readGroup_99 (by decide) ?_
        refine xw_icmp_ne hx hb 114 d_Rd_readGroup_101 (by decide) (by omega) (fun c101 => ?_) (fun c101 => ?_)
        · refine lv_aload hx hb d_Rd_readGroup_114 (lv_at hl 1 rfl) ?_
          rw [eRs]
          have hntg : nt_ G (fun q => s.heap.size ≤ q) (d + 1) H q10 (tr_mk kd 1 (acc.length : Int) 0 acc) := nt_mk hf1 hf2 (hh.1.sub [2, 3] rfl) rfl rfl ⟨hac2, Nat.le_refl _⟩ (fun i x hx => by
            obtain ⟨b, hb1, hb2⟩ := hkds i x hx
            exact ⟨b, hb1, nt_weaken (fun q h1 _ => h1.1) hb2⟩)
          have hh2 : xw_H G (va_A [(rd, .inr (2, [.ref ta, .int (xi_ (len : Int)), .int (xi_ (at_ : Int)), .int (xi_ gr)])), (ta, .inl (G.2.2 2, 40, .inl (ja_ txt)))] s.heap.size) s.heap H locs [(rd, .inr (2, [.ref ta, .int (xi_ (len : Int)), .int (xi_ ((a + 1 : Nat) : Int)), .int (xi_ g)])), (ta, .inl (G.2.2 2, 40, .inl (ja_ txt)))] := xw_H.sub hh [0, 1] rfl rfl
          have hgfin : g = gf_ (d + 1) (tr_mk kd 1 (acc.length : Int) 0 acc : PT (d + 1)) gr := by
            rw [gf_s, tr_mk_kd, tr_mk_cs, if_neg c101]
            unfold gn_1
            rw [tr_mk_kd, if_neg c101, if_neg (by omega), if_neg (by omega), gc_1]
            exact hgf
          have hgr9 := hg
          refine W.widen (k := 2 * (a + 1 - at_)) (n := 16 * (a + 1 - at_)) (by (try dsimp only at *); omega) (by (try dsimp only at *); omega) ?_
          exact xw_aret F hr hlk hh2 (x := some q10) rfl (g) rfl ⟨fun h => (by cases h), hgr9, fun T h => (by cases h; exact hgfin)⟩ (fun T h => (by cases h; exact ⟨q10, rfl, hntg⟩)) d_Rd_readGroup_116
        · refine lv_aload_n hx hb d_Rd_readGroup_104 rfl (lv_at hl 2 rfl) ?_
          refine lv_aload hx hb d_Rd_readGroup_105 (lv_at hl 1 rfl) ?_
          refine xw_get F hh.1 (v := .int (xi_ (acc.length : Int))) fl_Rd_66_1 2 rfl rfl d_Rd_readGroup_107 ?_
          refine xw_ci (wc := [(rd, .inr (2, [.ref ta, .int (xi_ (len : Int)), .int (xi_ ((a : Int) + 1)), .int (xi_ g)])), (ta, .inl (G.2.2 2, 40, .inl (ja_ txt)))]) (wr := [(q10, .inr (1, nd_ kd ia (acc.length : Int) 1 (acc.length : Int) 0 (b2_ (is_letter kd || acc.any (can_ d))))), (ia, .inl (G.2.2 4, 9, .inr (.inr (.inr (.inr f)))))]) hh [0, 1] [2, 3] rfl rfl rfl (by decide) (xw_rV F hh [0, 1] rfl rfl (c_Rd_refineGrain l G H.size rd ta txt len (a + 1) g ⟨hlen.1, by (try dsimp only at *); omega⟩ htx (acc.length : Int) hg (by omega)) trivial lk_Rd_69 cd_Rd_refineGrain se_Rd_refineGrain _ hh.1 0 rfl rfl rfl rfl ⟨by unfold rm_Rd_refineGrain rm_Rd_readGroup; (try dsimp only); omega, by unfold rm_Rd_refineGrain rm_Rd_readGroup; (try dsimp only); omega⟩ rfl hl.1 rfl (Nat.le_of_ble_eq_true rfl) d_Rd_readGroup_110 ⟨by unfold rm_Rd_readGroup; (try dsimp only at *); omega, by unfold rm_Rd_readGroup; (try dsimp only at *); omega⟩) (fun z110 u_ H locs hp110 hX hz hk hh => ?_)
          have hh : xw_H G (va_A [(rd, .inr (2, [.ref ta, .int (xi_ (len : Int)), .int (xi_ (at_ : Int)), .int (xi_ gr)])), (ta, .inl (G.2.2 2, 40, .inl (ja_ txt)))] s.heap.size) s.heap H locs [(rd, .inr (2, [.ref ta, .int (xi_ (len : Int)), .int (xi_ ((a + 1 : Nat) : Int)), .int (xi_ (gc_ g (acc.length : Int)))])), (ta, .inl (G.2.2 2, 40, .inl (ja_ txt))), (q10, .inr (1, nd_ kd ia (acc.length : Int) 1 (acc.length : Int) 0 (b2_ (is_letter kd || acc.any (can_ d))))), (ia, .inl (G.2.2 4, 9, .inr (.inr (.inr (.inr f)))))] := xw_H.sub hh [2, 3, 0, 1] rfl rfl
          have hkds : kd_ G (fun q : Nat => s.heap.size ≤ q ∧ q ≠ q10 ∧ q ≠ ia) d H f acc := kd_keep (fun q h1 h2 => hk q h2 (not_in2 (by omega) (by omega) h2)) hkds
          refine lv_pop hx hb d_Rd_readGroup_113 rfl ?_
          refine lv_aload hx hb d_Rd_readGroup_114 (lv_at hl 1 rfl) ?_
          rw [eRs]
          have hntg : nt_ G (fun q => s.heap.size ≤ q) (d + 1) H q10 (tr_mk kd 1 (acc.length : Int) 0 acc) := nt_mk hf1 hf2 (hh.1.sub [2, 3] rfl) rfl rfl ⟨hac2, Nat.le_refl _⟩ (fun i x hx => by
            obtain ⟨b, hb1, hb2⟩ := hkds i x hx
            exact ⟨b, hb1, nt_weaken (fun q h1 _ => h1.1) hb2⟩)
          have hh2 : xw_H G (va_A [(rd, .inr (2, [.ref ta, .int (xi_ (len : Int)), .int (xi_ (at_ : Int)), .int (xi_ gr)])), (ta, .inl (G.2.2 2, 40, .inl (ja_ txt)))] s.heap.size) s.heap H locs [(rd, .inr (2, [.ref ta, .int (xi_ (len : Int)), .int (xi_ ((a + 1 : Nat) : Int)), .int (xi_ (gc_ g (acc.length : Int)))])), (ta, .inl (G.2.2 2, 40, .inl (ja_ txt)))] := xw_H.sub hh [0, 1] rfl rfl
          have hgfin : gc_ g (acc.length : Int) = gf_ (d + 1) (tr_mk kd 1 (acc.length : Int) 0 acc : PT (d + 1)) gr := by
            rw [gf_s, tr_mk_kd, tr_mk_cs, tr_mk_n, if_pos (by omega), ← hgf]
          have hgr9 := gc_rng (g := g) (f := (acc.length : Int)) hg (by omega)
          refine W.widen (k := 2 * (a + 1 - at_)) (n := 16 * (a + 1 - at_)) (by (try dsimp only at *); omega) (by (try dsimp only at *); omega) ?_
          exact xw_aret F hr hlk hh2 (x := some q10) rfl (gc_ g (acc.length : Int)) rfl ⟨fun h => (by cases h), hgr9, fun T h => (by cases h; exact hgfin)⟩ (fun T h => (by cases h; exact ⟨q10, rfl, hntg⟩)) d_Rd_readGroup_116
      · refine lv_null hx hb d_Rd_readGroup_76 ?_
        have eRn : Rz = (none, a) := by
          rw [eRz]
          exact if_neg (fun q => by rw [q] at c73; exact absurd c73 (by decide))
        rw [eRn]
        have hh2 : xw_H G (va_A [(rd, .inr (2, [.ref ta, .int (xi_ (len : Int)), .int (xi_ (at_ : Int)), .int (xi_ gr)])), (ta, .inl (G.2.2 2, 40, .inl (ja_ txt)))] s.heap.size) s.heap H locs [(rd, .inr (2, [.ref ta, .int (xi_ (len : Int)), .int (xi_ (a : Int)), .int (xi_ g)])), (ta, .inl (G.2.2 2, 40, .inl (ja_ txt)))] := xw_H.sub hh [0, 1] rfl rfl
        refine W.widen (k := 2 * (a - at_)) (n := 16 * (a - at_)) (by (try dsimp only at *); omega) (by (try dsimp only at *); omega) ?_
        exact xw_aret F hr hlk hh2 (x := none) rfl g rfl ⟨fun _ => rfl, hg, fun T h => (by cases h)⟩ (fun T h => (by cases h)) d_Rd_readGroup_77
