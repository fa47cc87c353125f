/-! Reader.readDigits -/
section XWI
variable {p : Program} {l : Launch} {e : Env} {R : Room} {s : State} {m : MethodId} {args : Array Value} {below : List Frame} {meth : Method} {c : Code} {H : Heap} {locs : List Loc} {cells slots : Nat} {Q : State → Prop}
variable {cc : ByteArray} {nL pc index : Nat} {ls : Array Slot} {rest : List Value} {own : String} {G : GG_}
theorem xw_maxi (F : xw_F p s m args c cc nL own G) (hsz : ls.size = nL) (lk : Cond.methodLink own index ⟨"java/lang/Math", "max", "(II)I"⟩ ∈ WS) (hfr : 1 ≤ R.frames) (hlo : (rest.map fun v => v.category).sum + 13 ≤ R.locals) (hc : cells ≤ R.cells) (hs : slots ≤ R.slots) {x y : Int} (h : (-2147483648 ≤ x ∧ x ≤ 2147483647) ∧ (-2147483648 ≤ y ∧ y ≤ 2147483647)) (hd : decode cc pc = .ok (.invokestatic index, 3))
    (kk : W p l e R s m args below meth c H locs cells slots Q (F0 m (pc + 3) ls (.int (xi_ (max x y)) :: rest))) : W p l e R s m args below meth c H locs cells slots Q (F0 m pc ls (.int (xi_ y) :: .int (xi_ x) :: rest)) := by
  obtain ⟨hx, hb, hml, hown, hts, hE⟩ := F
  have w1 : Cond.static Lib.Math.max.name ∈ WS := tb_in (i := 264) rfl (by decide +kernel)
  have w2 : Cond.code Lib.Math.max.name Lib.Math.max.code 2 (some .int) ∈ WS := tb_in (i := 265) rfl (by decide +kernel)
  have w3 : Cond.initialized "java/lang/Math" ∈ WS := tb_in (i := 9) rfl (by decide +kernel)
  refine va_mmax hx hb (hml.trans hsz.symm) hown (hts _ lk) (hts _ w1) (hts _ w3) (hts _ w2) hfr hlo hc hs hd ?_
  have e : (if xi_ x < xi_ y then xi_ y else xi_ x) = xi_ (max x y) := by
    by_cases q : x < y
    · rw [if_pos ((xi_lt h).mpr q), show max x y = y by omega]
    · rw [if_neg (fun z => q ((xi_lt h).mp z)), show max x y = x by omega]
  rw [e]
  exact kk
end XWI
/-- the factor of an operator's grain -/
def df_ (kd k n : Int) : Int := if kd = 70 ∨ kd = 83 then k else if kd = 76 ∨ kd = 69 then n else 1
theorem gc_1 {g : Int} : gc_ g 1 = g := by unfold gc_; split <;> omega
def rm_Rd_readDigits : Room := { frames := 2, cells := 0, slots := 0, locals := 44 }
set_option maxHeartbeats 4000000 in
set_option maxRecDepth 100000 in
theorem c_Rd_readDigits (l : Launch) (G : GG_) (sz : Nat) (rd ta : Nat) (txt : Nat → Int) (len at_ : Nat) (gr : Int) (hlen : len ≤ 40 ∧ at_ ≤ 40) (htx : ∀ j : Nat, 0 ≤ txt j ∧ txt j ≤ 65535) (a ia : Nat) (kd cnt hf9 : Int) (hgr : 1 ≤ gr ∧ gr ≤ 45360) (hkd : kd = 70 ∨ kd = 83 ∨ kd = 76 ∨ kd = 86 ∨ kd = 69 ∨ kd = 82) : Met l y_Rd_readDigits (cw_ y_Rd_readDigits b_Rd_readDigits 2 (some .boolean)) rm_Rd_readDigits (xw_P G [.ref rd, .ref a] sz [(rd, .inr (2, [.ref ta, .int (xi_ (len : Int)), .int (xi_ (at_ : Int)), .int (xi_ gr)])), (ta, .inl (G.2.2 2, 40, .inl (ja_ txt))), (a, .inr (1, nd_ kd ia cnt 1 1 0 hf9))] (fun _ => True)) (xw_Qi (S := Int × Int × Int × Int) G sz [(rd, .inr (2, [.ref ta, .int (xi_ (len : Int)), .int (xi_ (at_ : Int)), .int (xi_ gr)])), (ta, .inl (G.2.2 2, 40, .inl (ja_ txt))), (a, .inr (1, nd_ kd ia cnt 1 1 0 hf9))] (fun z u => z = b2_ ((p_digs txt len kd at_).1.isSome) ∧ (1 ≤ u.2.2.2 ∧ u.2.2.2 ≤ 45360) ∧ ∀ k n r, (p_digs txt len kd at_).1 = some (k, n, r) → u = (k, n, r, gc_ gr (df_ kd k n))) (fun u => [(rd, .inr (2, [.ref ta, .int (xi_ (len : Int)), .int (xi_ ((p_digs txt len kd at_).2 : Int)), .int (xi_ u.2.2.2)])), (ta, .inl (G.2.2 2, 40, .inl (ja_ txt))), (a, .inr (1, nd_ kd ia cnt u.1 u.2.1 u.2.2.1 hf9))]) (fun _ _ => True)) 0 0 (va_A [(rd, .inr (2, [.ref ta, .int (xi_ (len : Int)), .int (xi_ (at_ : Int)), .int (xi_ gr)])), (ta, .inl (G.2.2 2, 40, .inl (ja_ txt))), (a, .inr (1, nd_ kd ia cnt 1 1 0 hf9))] sz) := by
  refine xw_met (by decide) (Nat.le_of_ble_eq_true rfl) ?_
  intro p0 e0 s m0 args below meth c0 F hr hlk hin hsz hh hX ls hl
  subst hsz
  have hx := F.1
  have hb := F.2.1
  have hl : lv_has ls 2 [(0, .ref rd), (1, .ref a)] := hl
  refine lv_aload_n hx hb d_Rd_readDigits_0 rfl (lv_at hl 1 rfl) ?_
  refine xw_get F hh.1 (v := .int (xi_ kd)) fl_Rd_76_1 2 rfl rfl d_Rd_readDigits_1 ?_
  rcases hkd with h70 | h83 | h76 | h86 | h69 | h82
  · refine lv_lookup (off := 52) (tgt := 56) hx hb d_Rd_readDigits_4 (by decide) (by rw [h70]; decide) (by decide) ?_
    refine lv_aload_n hx hb d_Rd_readDigits_56 rfl (lv_at hl 0 rfl) ?_
    refine lv_aload_n hx hb d_Rd_readDigits_57 rfl (lv_at hl 1 rfl) ?_
    refine lv_iconst (v := xi_ 1) hx hb d_Rd_readDigits_58 rfl ?_
    refine xw_ci (wc := [(rd, .inr (2, [.ref ta, .int (xi_ (len : Int)), .int (xi_ (at_ : Int)), .int (xi_ gr)])), (ta, .inl (G.2.2 2, 40, .inl (ja_ txt))), (a, .inr (1, nd_ kd ia cnt 1 1 0 hf9))]) (wr := []) hh [0, 1, 2] [] rfl rfl rfl (by decide) (xw_rV F hh [0, 1, 2] rfl rfl (c_Rd_readK l G s.heap.size rd ta txt len at_ gr ⟨hlen.1, by omega⟩ htx a ia kd cnt 1 1 0 hf9 1 (by omega)) trivial lk_Rd_80 cd_Rd_readK se_Rd_readK _ hh.1 0 rfl rfl rfl rfl ⟨by decide, by decide⟩ rfl hl.1 rfl (Nat.le_of_ble_eq_true rfl) d_Rd_readDigits_59 ⟨Nat.le_of_ble_eq_true rfl, Nat.le_of_ble_eq_true rfl⟩) (fun z59 u_ H locs hp59 hX hz hk hh => ?_)
    have hh : xw_H G (va_A [(rd, .inr (2, [.ref ta, .int (xi_ (len : Int)), .int (xi_ (at_ : Int)), .int (xi_ gr)])), (ta, .inl (G.2.2 2, 40, .inl (ja_ txt))), (a, .inr (1, nd_ kd ia cnt 1 1 0 hf9))] s.heap.size) s.heap H locs [(rd, .inr (2, [.ref ta, .int (xi_ (len : Int)), .int (xi_ ((p_dig txt len 1 at_).2 : Int)), .int (xi_ gr)])), (ta, .inl (G.2.2 2, 40, .inl (ja_ txt))), (a, .inr (1, nd_ kd ia cnt ((p_dig txt len 1 at_).1.getD (-1)) 1 0 hf9))] := hh
    have hdg59 := p_dig_rng (tx := txt) (len := len) (low := 1) (at_ := at_)
    obtain ⟨P59, hP59⟩ : ∃ P, P = p_dig txt len 1 at_ := ⟨_, rfl⟩
    rw [← hP59] at hh hp59 hdg59
    rcases P59 with ⟨_ | k59, a59⟩
    · have hh : xw_H G (va_A [(rd, .inr (2, [.ref ta, .int (xi_ (len : Int)), .int (xi_ (at_ : Int)), .int (xi_ gr)])), (ta, .inl (G.2.2 2, 40, .inl (ja_ txt))), (a, .inr (1, nd_ kd ia cnt 1 1 0 hf9))] s.heap.size) s.heap H locs [(rd, .inr (2, [.ref ta, .int (xi_ (len : Int)), .int (xi_ (a59 : Int)), .int (xi_ gr)])), (ta, .inl (G.2.2 2, 40, .inl (ja_ txt))), (a, .inr (1, nd_ kd ia cnt (-1) 1 0 hf9))] := hh
      refine xw_topi (y := 0) hp59 ?_
      refine xw_if_eq hx hb 80 d_Rd_readDigits_62 (by decide) (by decide) (fun c62 => ?_) (fun c62 => absurd c62 (by decide))
      refine lv_iconst (v := xi_ 0) hx hb d_Rd_readDigits_80 rfl ?_
      have eR : p_digs txt len kd at_ = (none, a59) := by
        rw [h70]
        unfold p_digs
        rw [if_pos (Or.inl rfl)]
        rw [← hP59]
        (try dsimp only)
      rw [eR]
      exact xw_iret F hr hlk hh (by decide) ((-1), 1, 0, gr) rfl ⟨rfl, (by omega), (fun k n r q => by cases q)⟩ trivial d_Rd_readDigits_81
    · have hh : xw_H G (va_A [(rd, .inr (2, [.ref ta, .int (xi_ (len : Int)), .int (xi_ (at_ : Int)), .int (xi_ gr)])), (ta, .inl (G.2.2 2, 40, .inl (ja_ txt))), (a, .inr (1, nd_ kd ia cnt 1 1 0 hf9))] s.heap.size) s.heap H locs [(rd, .inr (2, [.ref ta, .int (xi_ (len : Int)), .int (xi_ (a59 : Int)), .int (xi_ gr)])), (ta, .inl (G.2.2 2, 40, .inl (ja_ txt))), (a, .inr (1, nd_ kd ia cnt k59 1 0 hf9))] := hh
      have hd59 := hdg59.2.2.2 k59 rfl
      refine xw_topi (y := 1) hp59 ?_
      refine xw_if_eq hx hb 80 d_Rd_readDigits_62 (by decide) (by decide) (fun c62 => absurd c62 (by decide)) (fun c62 => ?_)
      refine lv_aload_n hx hb d_Rd_readDigits_65 rfl (lv_at hl 0 rfl) ?_
      refine lv_aload_n hx hb d_Rd_readDigits_66 rfl (lv_at hl 1 rfl) ?_
      refine xw_get F hh.1 (v := .int (xi_ k59)) fl_Rd_84_1 2 rfl rfl d_Rd_readDigits_67 ?_
      refine xw_ci (wc := [(rd, .inr (2, [.ref ta, .int (xi_ (len : Int)), .int (xi_ (a59 : Int)), .int (xi_ gr)])), (ta, .inl (G.2.2 2, 40, .inl (ja_ txt)))]) (wr := [(a, .inr (1, nd_ kd ia cnt k59 1 0 hf9))]) hh [0, 1] [2] rfl rfl rfl (by decide) (xw_rV F hh [0, 1] rfl rfl (c_Rd_refineGrain l G H.size rd ta txt len a59 gr ⟨hlen.1, by omega⟩ htx k59 (by omega) (by omega)) trivial lk_Rd_69 cd_Rd_refineGrain se_Rd_refineGrain _ hh.1 0 rfl rfl rfl rfl ⟨by decide, by decide⟩ rfl hl.1 rfl (Nat.le_of_ble_eq_true rfl) d_Rd_readDigits_70 ⟨Nat.le_of_ble_eq_true rfl, Nat.le_of_ble_eq_true rfl⟩) (fun z70 u_ H locs hp70 hX hz hk hh => ?_)
      have hh : xw_H G (va_A [(rd, .inr (2, [.ref ta, .int (xi_ (len : Int)), .int (xi_ (at_ : Int)), .int (xi_ gr)])), (ta, .inl (G.2.2 2, 40, .inl (ja_ txt))), (a, .inr (1, nd_ kd ia cnt 1 1 0 hf9))] s.heap.size) s.heap H locs [(rd, .inr (2, [.ref ta, .int (xi_ (len : Int)), .int (xi_ (a59 : Int)), .int (xi_ (gc_ gr k59))])), (ta, .inl (G.2.2 2, 40, .inl (ja_ txt))), (a, .inr (1, nd_ kd ia cnt k59 1 0 hf9))] := xw_H.sub hh [1, 2, 0] rfl rfl
      have hg70 := gc_rng (g := gr) (f := k59) (by omega) (by omega)
      refine xw_topi (y := 1) hp70 ?_
      refine xw_if_eq hx hb 80 d_Rd_readDigits_73 (by decide) (by decide) (fun c73 => absurd c73 (by decide)) (fun c73 => ?_)
      refine lv_iconst (v := xi_ 1) hx hb d_Rd_readDigits_76 rfl ?_
      refine lv_goto (tgt := 81) hx hb d_Rd_readDigits_77 (by decide) ?_
      have eR : p_digs txt len kd at_ = (some (k59, 1, 0), a59) := by
        rw [h70]
        unfold p_digs
        rw [if_pos (Or.inl rfl)]
        rw [← hP59]
        (try dsimp only)
      rw [eR]
      have eD : df_ kd k59 1 = k59 := by
        rw [h70]
        unfold df_
        rw [if_pos (Or.inl rfl)]
      exact xw_iret F hr hlk hh (by decide) (k59, 1, 0, gc_ gr k59) rfl ⟨rfl, (by omega), (fun k n r q => by
        cases q
        rw [eD])⟩ trivial d_Rd_readDigits_81
  · refine lv_lookup (off := 52) (tgt := 56) hx hb d_Rd_readDigits_4 (by decide) (by rw [h83]; decide) (by decide) ?_
    refine lv_aload_n hx hb d_Rd_readDigits_56 rfl (lv_at hl 0 rfl) ?_
    refine lv_aload_n hx hb d_Rd_readDigits_57 rfl (lv_at hl 1 rfl) ?_
    refine lv_iconst (v := xi_ 1) hx hb d_Rd_readDigits_58 rfl ?_
    refine xw_ci (wc := [(rd, .inr (2, [.ref ta, .int (xi_ (len : Int)), .int (xi_ (at_ : Int)), .int (xi_ gr)])), (ta, .inl (G.2.2 2, 40, .inl (ja_ txt))), (a, .inr (1, nd_ kd ia cnt 1 1 0 hf9))]) (wr := []) hh [0, 1, 2] [] rfl rfl rfl (by decide) (xw_rV F hh [0, 1, 2] rfl rfl (c_Rd_readK l G s.heap.size rd ta txt len at_ gr ⟨hlen.1, by omega⟩ htx a ia kd cnt 1 1 0 hf9 1 (by omega)) trivial lk_Rd_80 cd_Rd_readK se_Rd_readK _ hh.1 0 rfl rfl rfl rfl ⟨by decide, by decide⟩ rfl hl.1 rfl (Nat.le_of_ble_eq_true rfl) d_Rd_readDigits_59 ⟨Nat.le_of_ble_eq_true rfl, Nat.le_of_ble_eq_true rfl⟩) (fun z59 u_ H locs hp59 hX hz hk hh => ?_)
    have hh : xw_H G (va_A [(rd, .inr (2, [.ref ta, .int (xi_ (len : Int)), .int (xi_ (at_ : Int)), .int (xi_ gr)])), (ta, .inl (G.2.2 2, 40, .inl (ja_ txt))), (a, .inr (1, nd_ kd ia cnt 1 1 0 hf9))] s.heap.size) s.heap H locs [(rd, .inr (2, [.ref ta, .int (xi_ (len : Int)), .int (xi_ ((p_dig txt len 1 at_).2 : Int)), .int (xi_ gr)])), (ta, .inl (G.2.2 2, 40, .inl (ja_ txt))), (a, .inr (1, nd_ kd ia cnt ((p_dig txt len 1 at_).1.getD (-1)) 1 0 hf9))] := hh
    have hdg59 := p_dig_rng (tx := txt) (len := len) (low := 1) (at_ := at_)
    obtain ⟨P59, hP59⟩ : ∃ P, P = p_dig txt len 1 at_ := ⟨_, rfl⟩
    rw [← hP59] at hh hp59 hdg59
    rcases P59 with ⟨_ | k59, a59⟩
    · have hh : xw_H G (va_A [(rd, .inr (2, [.ref ta, .int (xi_ (len : Int)), .int (xi_ (at_ : Int)), .int (xi_ gr)])), (ta, .inl (G.2.2 2, 40, .inl (ja_ txt))), (a, .inr (1, nd_ kd ia cnt 1 1 0 hf9))] s.heap.size) s.heap H locs [(rd, .inr (2, [.ref ta, .int (xi_ (len : Int)), .int (xi_ (a59 : Int)), .int (xi_ gr)])), (ta, .inl (G.2.2 2, 40, .inl (ja_ txt))), (a, .inr (1, nd_ kd ia cnt (-1) 1 0 hf9))] := hh
      refine xw_topi (y := 0) hp59 ?_
      refine xw_if_eq hx hb 80 d_Rd_readDigits_62 (by decide) (by decide) (fun c62 => ?_) (fun c62 => absurd c62 (by decide))
      refine lv_iconst (v := xi_ 0) hx hb d_Rd_readDigits_80 rfl ?_
      have eR : p_digs txt len kd at_ = (none, a59) := by
        rw [h83]
        unfold p_digs
        rw [if_pos (Or.inr (Or.inl rfl))]
        rw [← hP59]
        (try dsimp only)
      rw [eR]
      exact xw_iret F hr hlk hh (by decide) ((-1), 1, 0, gr) rfl ⟨rfl, (by omega), (fun k n r q => by cases q)⟩ trivial d_Rd_readDigits_81
    · have hh : xw_H G (va_A [(rd, .inr (2, [.ref ta, .int (xi_ (len : Int)), .int (xi_ (at_ : Int)), .int (xi_ gr)])), (ta, .inl (G.2.2 2, 40, .inl (ja_ txt))), (a, .inr (1, nd_ kd ia cnt 1 1 0 hf9))] s.heap.size) s.heap H locs [(rd, .inr (2, [.ref ta, .int (xi_ (len : Int)), .int (xi_ (a59 : Int)), .int (xi_ gr)])), (ta, .inl (G.2.2 2, 40, .inl (ja_ txt))), (a, .inr (1, nd_ kd ia cnt k59 1 0 hf9))] := hh
      have hd59 := hdg59.2.2.2 k59 rfl
      refine xw_topi (y := 1) hp59 ?_
      refine xw_if_eq hx hb 80 d_Rd_readDigits_62 (by decide) (by decide) (fun c62 => absurd c62 (by decide)) (fun c62 => ?_)
      refine lv_aload_n hx hb d_Rd_readDigits_65 rfl (lv_at hl 0 rfl) ?_
      refine lv_aload_n hx hb d_Rd_readDigits_66 rfl (lv_at hl 1 rfl) ?_
      refine xw_get F hh.1 (v := .int (xi_ k59)) fl_Rd_84_1 2 rfl rfl d_Rd_readDigits_67 ?_
      refine xw_ci (wc := [(rd, .inr (2, [.ref ta, .int (xi_ (len : Int)), .int (xi_ (a59 : Int)), .int (xi_ gr)])), (ta, .inl (G.2.2 2, 40, .inl (ja_ txt)))]) (wr := [(a, .inr (1, nd_ kd ia cnt k59 1 0 hf9))]) hh [0, 1] [2] rfl rfl rfl (by decide) (xw_rV F hh [0, 1] rfl rfl (c_Rd_refineGrain l G H.size rd ta txt len a59 gr ⟨hlen.1, by omega⟩ htx k59 (by omega) (by omega)) trivial lk_Rd_69 cd_Rd_refineGrain se_Rd_refineGrain _ hh.1 0 rfl rfl rfl rfl ⟨by decide, by decide⟩ rfl hl.1 rfl (Nat.le_of_ble_eq_true rfl) d_Rd_readDigits_70 ⟨Nat.le_of_ble_eq_true rfl, Nat.le_of_ble_eq_true rfl⟩) (fun z70 u_ H locs hp70 hX hz hk hh => ?_)
      have hh : xw_H G (va_A [(rd, .inr (2, [.ref ta, .int (xi_ (len : Int)), .int (xi_ (at_ : Int)), .int (xi_ gr)])), (ta, .inl (G.2.2 2, 40, .inl (ja_ txt))), (a, .inr (1, nd_ kd ia cnt 1 1 0 hf9))] s.heap.size) s.heap H locs [(rd, .inr (2, [.ref ta, .int (xi_ (len : Int)), .int (xi_ (a59 : Int)), .int (xi_ (gc_ gr k59))])), (ta, .inl (G.2.2 2, 40, .inl (ja_ txt))), (a, .inr (1, nd_ kd ia cnt k59 1 0 hf9))] := xw_H.sub hh [1, 2, 0] rfl rfl
      have hg70 := gc_rng (g := gr) (f := k59) (by omega) (by omega)
      refine xw_topi (y := 1) hp70 ?_
      refine xw_if_eq hx hb 80 d_Rd_readDigits_73 (by decide) (by decide) (fun c73 => absurd c73 (by decide)) (fun c73 => ?_)
      refine lv_iconst (v := xi_ 1) hx hb d_Rd_readDigits_76 rfl ?_
      refine lv_goto (tgt := 81) hx hb d_Rd_readDigits_77 (by decide) ?_
      have eR : p_digs txt len kd at_ = (some (k59, 1, 0), a59) := by
        rw [h83]
        unfold p_digs
        rw [if_pos (Or.inr (Or.inl rfl))]
        rw [← hP59]
        (try dsimp only)
      rw [eR]
      have eD : df_ kd k59 1 = k59 := by
        rw [h83]
        unfold df_
        rw [if_pos (Or.inr rfl)]
      exact xw_iret F hr hlk hh (by decide) (k59, 1, 0, gc_ gr k59) rfl ⟨rfl, (by omega), (fun k n r q => by
        cases q
        rw [eD])⟩ trivial d_Rd_readDigits_81
  · refine lv_lookup (off := 78) (tgt := 82) hx hb d_Rd_readDigits_4 (by decide) (by rw [h76]; decide) (by decide) ?_
    refine lv_aload_n hx hb d_Rd_readDigits_82 rfl (lv_at hl 0 rfl) ?_
    refine lv_aload_n hx hb d_Rd_readDigits_83 rfl (lv_at hl 1 rfl) ?_
    refine lv_iconst (v := xi_ 1) hx hb d_Rd_readDigits_84 rfl ?_
    refine xw_ci (wc := [(rd, .inr (2, [.ref ta, .int (xi_ (len : Int)), .int (xi_ (at_ : Int)), .int (xi_ gr)])), (ta, .inl (G.2.2 2, 40, .inl (ja_ txt))), (a, .inr (1, nd_ kd ia cnt 1 1 0 hf9))]) (wr := []) hh [0, 1, 2] [] rfl rfl rfl (by decide) (xw_rV F hh [0, 1, 2] rfl rfl (c_Rd_readK l G s.heap.size rd ta txt len at_ gr ⟨hlen.1, by omega⟩ htx a ia kd cnt 1 1 0 hf9 1 (by omega)) trivial lk_Rd_80 cd_Rd_readK se_Rd_readK _ hh.1 0 rfl rfl rfl rfl ⟨by decide, by decide⟩ rfl hl.1 rfl (Nat.le_of_ble_eq_true rfl) d_Rd_readDigits_85 ⟨Nat.le_of_ble_eq_true rfl, Nat.le_of_ble_eq_true rfl⟩) (fun z85 u_ H locs hp85 hX hz hk hh => ?_)
    have hh : xw_H G (va_A [(rd, .inr (2, [.ref ta, .int (xi_ (len : Int)), .int (xi_ (at_ : Int)), .int (xi_ gr)])), (ta, .inl (G.2.2 2, 40, .inl (ja_ txt))), (a, .inr (1, nd_ kd ia cnt 1 1 0 hf9))] s.heap.size) s.heap H locs [(rd, .inr (2, [.ref ta, .int (xi_ (len : Int)), .int (xi_ ((p_dig txt len 1 at_).2 : Int)), .int (xi_ gr)])), (ta, .inl (G.2.2 2, 40, .inl (ja_ txt))), (a, .inr (1, nd_ kd ia cnt ((p_dig txt len 1 at_).1.getD (-1)) 1 0 hf9))] := hh
    have hdg85 := p_dig_rng (tx := txt) (len := len) (low := 1) (at_ := at_)
    obtain ⟨P85, hP85⟩ : ∃ P, P = p_dig txt len 1 at_ := ⟨_, rfl⟩
    rw [← hP85] at hh hp85 hdg85
    rcases P85 with ⟨_ | k85, a85⟩
    · have hh : xw_H G (va_A [(rd, .inr (2, [.ref ta, .int (xi_ (len : Int)), .int (xi_ (at_ : Int)), .int (xi_ gr)])), (ta, .inl (G.2.2 2, 40, .inl (ja_ txt))), (a, .inr (1, nd_ kd ia cnt 1 1 0 hf9))] s.heap.size) s.heap H locs [(rd, .inr (2, [.ref ta, .int (xi_ (len : Int)), .int (xi_ (a85 : Int)), .int (xi_ gr)])), (ta, .inl (G.2.2 2, 40, .inl (ja_ txt))), (a, .inr (1, nd_ kd ia cnt (-1) 1 0 hf9))] := hh
      refine xw_topi (y := 0) hp85 ?_
      refine xw_if_eq hx hb 115 d_Rd_readDigits_88 (by decide) (by decide) (fun c88 => ?_) (fun c88 => absurd c88 (by decide))
      refine lv_iconst (v := xi_ 0) hx hb d_Rd_readDigits_115 rfl ?_
      have eR : p_digs txt len kd at_ = (none, a85) := by
        rw [h76]
        unfold p_digs
        rw [if_neg (by omega), if_pos rfl]
        rw [← hP85]
        (try dsimp only)
      rw [eR]
      exact xw_iret F hr hlk hh (by decide) ((-1), 1, 0, gr) rfl ⟨rfl, (by omega), (fun k n r q => by cases q)⟩ trivial d_Rd_readDigits_116
    · have hh : xw_H G (va_A [(rd, .inr (2, [.ref ta, .int (xi_ (len : Int)), .int (xi_ (at_ : Int)), .int (xi_ gr)])), (ta, .inl (G.2.2 2, 40, .inl (ja_ txt))), (a, .inr (1, nd_ kd ia cnt 1 1 0 hf9))] s.heap.size) s.heap H locs [(rd, .inr (2, [.ref ta, .int (xi_ (len : Int)), .int (xi_ (a85 : Int)), .int (xi_ gr)])), (ta, .inl (G.2.2 2, 40, .inl (ja_ txt))), (a, .inr (1, nd_ kd ia cnt k85 1 0 hf9))] := hh
      have hd85 := hdg85.2.2.2 k85 rfl
      refine xw_topi (y := 1) hp85 ?_
      refine xw_if_eq hx hb 115 d_Rd_readDigits_88 (by decide) (by decide) (fun c88 => absurd c88 (by decide)) (fun c88 => ?_)
      refine lv_aload_n hx hb d_Rd_readDigits_91 rfl (lv_at hl 0 rfl) ?_
      refine lv_aload_n hx hb d_Rd_readDigits_92 rfl (lv_at hl 1 rfl) ?_
      refine lv_iconst (v := xi_ 1) hx hb d_Rd_readDigits_93 rfl ?_
      refine xw_ci (wc := [(rd, .inr (2, [.ref ta, .int (xi_ (len : Int)), .int (xi_ (a85 : Int)), .int (xi_ gr)])), (ta, .inl (G.2.2 2, 40, .inl (ja_ txt))), (a, .inr (1, nd_ kd ia cnt k85 1 0 hf9))]) (wr := []) hh [0, 1, 2] [] rfl rfl rfl (by decide) (xw_rV F hh [0, 1, 2] rfl rfl (c_Rd_readN l G H.size rd ta txt len a85 gr ⟨hlen.1, by omega⟩ htx a ia kd cnt k85 1 0 hf9 1 (by omega)) trivial lk_Rd_87 cd_Rd_readN se_Rd_readN _ hh.1 0 rfl rfl rfl rfl ⟨by decide, by decide⟩ rfl hl.1 rfl (Nat.le_of_ble_eq_true rfl) d_Rd_readDigits_94 ⟨Nat.le_of_ble_eq_true rfl, Nat.le_of_ble_eq_true rfl⟩) (fun z94 u_ H locs hp94 hX hz hk hh => ?_)
      have hh : xw_H G (va_A [(rd, .inr (2, [.ref ta, .int (xi_ (len : Int)), .int (xi_ (at_ : Int)), .int (xi_ gr)])), (ta, .inl (G.2.2 2, 40, .inl (ja_ txt))), (a, .inr (1, nd_ kd ia cnt 1 1 0 hf9))] s.heap.size) s.heap H locs [(rd, .inr (2, [.ref ta, .int (xi_ (len : Int)), .int (xi_ ((p_dig txt len 1 a85).2 : Int)), .int (xi_ gr)])), (ta, .inl (G.2.2 2, 40, .inl (ja_ txt))), (a, .inr (1, nd_ kd ia cnt k85 ((p_dig txt len 1 a85).1.getD (-1)) 0 hf9))] := hh
      have hdg94 := p_dig_rng (tx := txt) (len := len) (low := 1) (at_ := a85)
      obtain ⟨P94, hP94⟩ : ∃ P, P = p_dig txt len 1 a85 := ⟨_, rfl⟩
      rw [← hP94] at hh hp94 hdg94
      rcases P94 with ⟨_ | k94, a94⟩
      · have hh : xw_H G (va_A [(rd, .inr (2, [.ref ta, .int (xi_ (len : Int)), .int (xi_ (at_ : Int)), .int (xi_ gr)])), (ta, .inl (G.2.2 2, 40, .inl (ja_ txt))), (a, .inr (1, nd_ kd ia cnt 1 1 0 hf9))] s.heap.size) s.heap H locs [(rd, .inr (2, [.ref ta, .int (xi_ (len : Int)), .int (xi_ (a94 : Int)), .int (xi_ gr)])), (ta, .inl (G.2.2 2, 40, .inl (ja_ txt))), (a, .inr (1, nd_ kd ia cnt k85 (-1) 0 hf9))] := hh
        refine xw_topi (y := 0) hp94 ?_
        refine xw_if_eq hx hb 115 d_Rd_readDigits_97 (by decide) (by decide) (fun c97 => ?_) (fun c97 => absurd c97 (by decide))
        refine lv_iconst (v := xi_ 0) hx hb d_Rd_readDigits_115 rfl ?_
        have eR : p_digs txt len kd at_ = (none, a94) := by
          rw [h76]
          unfold p_digs
          rw [if_neg (by omega), if_pos rfl]
          rw [← hP85]
          (try dsimp only)
          rw [← hP94]
          (try dsimp only)
        rw [eR]
        exact xw_iret F hr hlk hh (by decide) (k85, (-1), 0, gr) rfl ⟨rfl, (by omega), (fun k n r q => by cases q)⟩ trivial d_Rd_readDigits_116
      · have hh : xw_H G (va_A [(rd, .inr (2, [.ref ta, .int (xi_ (len : Int)), .int (xi_ (at_ : Int)), .int (xi_ gr)])), (ta, .inl (G.2.2 2, 40, .inl (ja_ txt))), (a, .inr (1, nd_ kd ia cnt 1 1 0 hf9))] s.heap.size) s.heap H locs [(rd, .inr (2, [.ref ta, .int (xi_ (len : Int)), .int (xi_ (a94 : Int)), .int (xi_ gr)])), (ta, .inl (G.2.2 2, 40, .inl (ja_ txt))), (a, .inr (1, nd_ kd ia cnt k85 k94 0 hf9))] := hh
        have hd94 := hdg94.2.2.2 k94 rfl
        refine xw_topi (y := 1) hp94 ?_
        refine xw_if_eq hx hb 115 d_Rd_readDigits_97 (by decide) (by decide) (fun c97 => absurd c97 (by decide)) (fun c97 => ?_)
        refine lv_aload_n hx hb d_Rd_readDigits_100 rfl (lv_at hl 0 rfl) ?_
        refine lv_aload_n hx hb d_Rd_readDigits_101 rfl (lv_at hl 1 rfl) ?_
        refine xw_get F hh.1 (v := .int (xi_ k94)) fl_Rd_66_1 2 rfl rfl d_Rd_readDigits_102 ?_
        refine xw_ci (wc := [(rd, .inr (2, [.ref ta, .int (xi_ (len : Int)), .int (xi_ (a94 : Int)), .int (xi_ gr)])), (ta, .inl (G.2.2 2, 40, .inl (ja_ txt)))]) (wr := [(a, .inr (1, nd_ kd ia cnt k85 k94 0 hf9))]) hh [0, 1] [2] rfl rfl rfl (by decide) (xw_rV F hh [0, 1] rfl rfl (c_Rd_refineGrain l G H.size rd ta txt len a94 gr ⟨hlen.1, by omega⟩ htx k94 (by omega) (by omega)) trivial lk_Rd_69 cd_Rd_refineGrain se_Rd_refineGrain _ hh.1 0 rfl rfl rfl rfl ⟨by decide, by decide⟩ rfl hl.1 rfl (Nat.le_of_ble_eq_true rfl) d_Rd_readDigits_105 ⟨Nat.le_of_ble_eq_true rfl, Nat.le_of_ble_eq_true rfl⟩) (fun z105 u_ H locs hp105 hX hz hk hh => ?_)
        have hh : xw_H G (va_A [(rd, .inr (2, [.ref ta, .int (xi_ (len : Int)), .int (xi_ (at_ : Int)), .int (xi_ gr)])), (ta, .inl (G.2.2 2, 40, .inl (ja_ txt))), (a, .inr (1, nd_ kd ia cnt 1 1 0 hf9))] s.heap.size) s.heap H locs [(rd, .inr (2, [.ref ta, .int (xi_ (len : Int)), .int (xi_ (a94 : Int)), .int (xi_ (gc_ gr k94))])), (ta, .inl (G.2.2 2, 40, .inl (ja_ txt))), (a, .inr (1, nd_ kd ia cnt k85 k94 0 hf9))] := xw_H.sub hh [1, 2, 0] rfl rfl
        have hg105 := gc_rng (g := gr) (f := k94) (by omega) (by omega)
        refine xw_topi (y := 1) hp105 ?_
        refine xw_if_eq hx hb 115 d_Rd_readDigits_108 (by decide) (by decide) (fun c108 => absurd c108 (by decide)) (fun c108 => ?_)
        refine lv_iconst (v := xi_ 1) hx hb d_Rd_readDigits_111 rfl ?_
        refine lv_goto (tgt := 116) hx hb d_Rd_readDigits_112 (by decide) ?_
        have eR : p_digs txt len kd at_ = (some (k85, k94, 0), a94) := by
          rw [h76]
          unfold p_digs
          rw [if_neg (by omega), if_pos rfl]
          rw [← hP85]
          (try dsimp only)
          rw [← hP94]
          (try dsimp only)
        rw [eR]
        have eD : df_ kd k85 k94 = k94 := by
          rw [h76]
          unfold df_
          rw [if_neg (by omega), if_pos (Or.inl rfl)]
        exact xw_iret F hr hlk hh (by decide) (k85, k94, 0, gc_ gr k94) rfl ⟨rfl, (by omega), (fun k n r q => by
          cases q
          rw [eD])⟩ trivial d_Rd_readDigits_116
  · refine lv_lookup (off := 113) (tgt := 117) hx hb d_Rd_readDigits_4 (by decide) (by rw [h86]; decide) (by decide) ?_
    refine lv_aload_n hx hb d_Rd_readDigits_117 rfl (lv_at hl 0 rfl) ?_
    refine lv_aload_n hx hb d_Rd_readDigits_118 rfl (lv_at hl 1 rfl) ?_
    refine lv_iconst (v := xi_ 1) hx hb d_Rd_readDigits_119 rfl ?_
    refine xw_ci (wc := [(rd, .inr (2, [.ref ta, .int (xi_ (len : Int)), .int (xi_ (at_ : Int)), .int (xi_ gr)])), (ta, .inl (G.2.2 2, 40, .inl (ja_ txt))), (a, .inr (1, nd_ kd ia cnt 1 1 0 hf9))]) (wr := []) hh [0, 1, 2] [] rfl rfl rfl (by decide) (xw_rV F hh [0, 1, 2] rfl rfl (c_Rd_readK l G s.heap.size rd ta txt len at_ gr ⟨hlen.1, by omega⟩ htx a ia kd cnt 1 1 0 hf9 1 (by omega)) trivial lk_Rd_80 cd_Rd_readK se_Rd_readK _ hh.1 0 rfl rfl rfl rfl ⟨by decide, by decide⟩ rfl hl.1 rfl (Nat.le_of_ble_eq_true rfl) d_Rd_readDigits_120 ⟨Nat.le_of_ble_eq_true rfl, Nat.le_of_ble_eq_true rfl⟩) (fun z120 u_ H locs hp120 hX hz hk hh => ?_)
    have hh : xw_H G (va_A [(rd, .inr (2, [.ref ta, .int (xi_ (len : Int)), .int (xi_ (at_ : Int)), .int (xi_ gr)])), (ta, .inl (G.2.2 2, 40, .inl (ja_ txt))), (a, .inr (1, nd_ kd ia cnt 1 1 0 hf9))] s.heap.size) s.heap H locs [(rd, .inr (2, [.ref ta, .int (xi_ (len : Int)), .int (xi_ ((p_dig txt len 1 at_).2 : Int)), .int (xi_ gr)])), (ta, .inl (G.2.2 2, 40, .inl (ja_ txt))), (a, .inr (1, nd_ kd ia cnt ((p_dig txt len 1 at_).1.getD (-1)) 1 0 hf9))] := hh
    have hdg120 := p_dig_rng (tx := txt) (len := len) (low := 1) (at_ := at_)
    obtain ⟨P120, hP120⟩ : ∃ P, P = p_dig txt len 1 at_ := ⟨_, rfl⟩
    rw [← hP120] at hh hp120 hdg120
    rcases P120 with ⟨_ | k120, a120⟩
    · have hh : xw_H G (va_A [(rd, .inr (2, [.ref ta, .int (xi_ (len : Int)), .int (xi_ (at_ : Int)), .int (xi_ gr)])), (ta, .inl (G.2.2 2, 40, .inl (ja_ txt))), (a, .inr (1, nd_ kd ia cnt 1 1 0 hf9))] s.heap.size) s.heap H locs [(rd, .inr (2, [.ref ta, .int (xi_ (len : Int)), .int (xi_ (a120 : Int)), .int (xi_ gr)])), (ta, .inl (G.2.2 2, 40, .inl (ja_ txt))), (a, .inr (1, nd_ kd ia cnt (-1) 1 0 hf9))] := hh
      refine xw_topi (y := 0) hp120 ?_
      have eR : p_digs txt len kd at_ = (none, a120) := by
        rw [h86]
        unfold p_digs
        rw [if_pos (Or.inr (Or.inr rfl))]
        rw [← hP120]
        (try dsimp only)
      rw [eR]
      exact xw_iret F hr hlk hh (by decide) ((-1), 1, 0, gr) rfl ⟨rfl, (by omega), (fun k n r q => by cases q)⟩ trivial d_Rd_readDigits_123
    · have hh : xw_H G (va_A [(rd, .inr (2, [.ref ta, .int (xi_ (len : Int)), .int (xi_ (at_ : Int)), .int (xi_ gr)])), (ta, .inl (G.2.2 2, 40, .inl (ja_ txt))), (a, .inr (1, nd_ kd ia cnt 1 1 0 hf9))] s.heap.size) s.heap H locs [(rd, .inr (2, [.ref ta, .int (xi_ (len : Int)), .int (xi_ (a120 : Int)), .int (xi_ gr)])), (ta, .inl (G.2.2 2, 40, .inl (ja_ txt))), (a, .inr (1, nd_ kd ia cnt k120 1 0 hf9))] := hh
      have hd120 := hdg120.2.2.2 k120 rfl
      refine xw_topi (y := 1) hp120 ?_
      have eR : p_digs txt len kd at_ = (some (k120, 1, 0), a120) := by
        rw [h86]
        unfold p_digs
        rw [if_pos (Or.inr (Or.inr rfl))]
        rw [← hP120]
        (try dsimp only)
      rw [eR]
      have eD : df_ kd k120 1 = 1 := by
        rw [h86]
        unfold df_
        rw [if_neg (by omega), if_neg (by omega)]
      exact xw_iret F hr hlk hh (by decide) (k120, 1, 0, gr) rfl ⟨rfl, (by omega), (fun k n r q => by
        cases q
        rw [eD, gc_1])⟩ trivial d_Rd_readDigits_123
  · refine lv_lookup (off := 120) (tgt := 124) hx hb d_Rd_readDigits_4 (by decide) (by rw [h69]; decide) (by decide) ?_
    refine lv_aload_n hx hb d_Rd_readDigits_124 rfl (lv_at hl 0 rfl) ?_
    refine lv_aload_n hx hb d_Rd_readDigits_125 rfl (lv_at hl 1 rfl) ?_
    refine lv_iconst (v := xi_ 0) hx hb d_Rd_readDigits_126 rfl ?_
    refine xw_ci (wc := [(rd, .inr (2, [.ref ta, .int (xi_ (len : Int)), .int (xi_ (at_ : Int)), .int (xi_ gr)])), (ta, .inl (G.2.2 2, 40, .inl (ja_ txt))), (a, .inr (1, nd_ kd ia cnt 1 1 0 hf9))]) (wr := []) hh [0, 1, 2] [] rfl rfl rfl (by decide) (xw_rV F hh [0, 1, 2] rfl rfl (c_Rd_readK l G s.heap.size rd ta txt len at_ gr ⟨hlen.1, by omega⟩ htx a ia kd cnt 1 1 0 hf9 0 (by omega)) trivial lk_Rd_80 cd_Rd_readK se_Rd_readK _ hh.1 0 rfl rfl rfl rfl ⟨by decide, by decide⟩ rfl hl.1 rfl (Nat.le_of_ble_eq_true rfl) d_Rd_readDigits_127 ⟨Nat.le_of_ble_eq_true rfl, Nat.le_of_ble_eq_true rfl⟩) (fun z127 u_ H locs hp127 hX hz hk hh => ?_)
    have hh : xw_H G (va_A [(rd, .inr (2, [.ref ta, .int (xi_ (len : Int)), .int (xi_ (at_ : Int)), .int (xi_ gr)])), (ta, .inl (G.2.2 2, 40, .inl (ja_ txt))), (a, .inr (1, nd_ kd ia cnt 1 1 0 hf9))] s.heap.size) s.heap H locs [(rd, .inr (2, [.ref ta, .int (xi_ (len : Int)), .int (xi_ ((p_dig txt len 0 at_).2 : Int)), .int (xi_ gr)])), (ta, .inl (G.2.2 2, 40, .inl (ja_ txt))), (a, .inr (1, nd_ kd ia cnt ((p_dig txt len 0 at_).1.getD (-1)) 1 0 hf9))] := hh
    have hdg127 := p_dig_rng (tx := txt) (len := len) (low := 0) (at_ := at_)
    obtain ⟨P127, hP127⟩ : ∃ P, P = p_dig txt len 0 at_ := ⟨_, rfl⟩
    rw [← hP127] at hh hp127 hdg127
    rcases P127 with ⟨_ | k127, a127⟩
    · have hh : xw_H G (va_A [(rd, .inr (2, [.ref ta, .int (xi_ (len : Int)), .int (xi_ (at_ : Int)), .int (xi_ gr)])), (ta, .inl (G.2.2 2, 40, .inl (ja_ txt))), (a, .inr (1, nd_ kd ia cnt 1 1 0 hf9))] s.heap.size) s.heap H locs [(rd, .inr (2, [.ref ta, .int (xi_ (len : Int)), .int (xi_ (a127 : Int)), .int (xi_ gr)])), (ta, .inl (G.2.2 2, 40, .inl (ja_ txt))), (a, .inr (1, nd_ kd ia cnt (-1) 1 0 hf9))] := hh
      refine xw_topi (y := 0) hp127 ?_
      refine xw_if_eq hx hb 172 d_Rd_readDigits_130 (by decide) (by decide) (fun c130 => ?_) (fun c130 => absurd c130 (by decide))
      refine lv_iconst (v := xi_ 0) hx hb d_Rd_readDigits_172 rfl ?_
      have eR : p_digs txt len kd at_ = (none, a127) := by
        rw [h69]
        unfold p_digs
        rw [if_neg (by omega), if_neg (by omega), if_pos rfl]
        rw [← hP127]
        (try dsimp only)
      rw [eR]
      exact xw_iret F hr hlk hh (by decide) ((-1), 1, 0, gr) rfl ⟨rfl, (by omega), (fun k n r q => by cases q)⟩ trivial d_Rd_readDigits_173
    · have hh : xw_H G (va_A [(rd, .inr (2, [.ref ta, .int (xi_ (len : Int)), .int (xi_ (at_ : Int)), .int (xi_ gr)])), (ta, .inl (G.2.2 2, 40, .inl (ja_ txt))), (a, .inr (1, nd_ kd ia cnt 1 1 0 hf9))] s.heap.size) s.heap H locs [(rd, .inr (2, [.ref ta, .int (xi_ (len : Int)), .int (xi_ (a127 : Int)), .int (xi_ gr)])), (ta, .inl (G.2.2 2, 40, .inl (ja_ txt))), (a, .inr (1, nd_ kd ia cnt k127 1 0 hf9))] := hh
      have hd127 := hdg127.2.2.2 k127 rfl
      refine xw_topi (y := 1) hp127 ?_
      refine xw_if_eq hx hb 172 d_Rd_readDigits_130 (by decide) (by decide) (fun c130 => absurd c130 (by decide)) (fun c130 => ?_)
      refine lv_aload_n hx hb d_Rd_readDigits_133 rfl (lv_at hl 0 rfl) ?_
      refine lv_aload_n hx hb d_Rd_readDigits_134 rfl (lv_at hl 1 rfl) ?_
      refine lv_iconst (v := xi_ 1) hx hb d_Rd_readDigits_135 rfl ?_
      refine lv_aload_n hx hb d_Rd_readDigits_136 rfl (lv_at hl 1 rfl) ?_
      refine xw_get F hh.1 (v := .int (xi_ k127)) fl_Rd_84_1 2 rfl rfl d_Rd_readDigits_137 ?_
      refine xw_maxi F hl.1 lk_Rd_90' (Nat.le_of_ble_eq_true rfl) (Nat.le_of_ble_eq_true rfl) (Nat.zero_le _) (Nat.zero_le _) (by omega) d_Rd_readDigits_140 ?_
      refine xw_ci (wc := [(rd, .inr (2, [.ref ta, .int (xi_ (len : Int)), .int (xi_ (a127 : Int)), .int (xi_ gr)])), (ta, .inl (G.2.2 2, 40, .inl (ja_ txt))), (a, .inr (1, nd_ kd ia cnt k127 1 0 hf9))]) (wr := []) hh [0, 1, 2] [] rfl rfl rfl (by decide) (xw_rV F hh [0, 1, 2] rfl rfl (c_Rd_readN l G H.size rd ta txt len a127 gr ⟨hlen.1, by omega⟩ htx a ia kd cnt k127 1 0 hf9 (max 1 k127) (by omega)) trivial lk_Rd_87 cd_Rd_readN se_Rd_readN _ hh.1 0 rfl rfl rfl rfl ⟨by decide, by decide⟩ rfl hl.1 rfl (Nat.le_of_ble_eq_true rfl) d_Rd_readDigits_143 ⟨Nat.le_of_ble_eq_true rfl, Nat.le_of_ble_eq_true rfl⟩) (fun z143 u_ H locs hp143 hX hz hk hh => ?_)
      have hh : xw_H G (va_A [(rd, .inr (2, [.ref ta, .int (xi_ (len : Int)), .int (xi_ (at_ : Int)), .int (xi_ gr)])), (ta, .inl (G.2.2 2, 40, .inl (ja_ txt))), (a, .inr (1, nd_ kd ia cnt 1 1 0 hf9))] s.heap.size) s.heap H locs [(rd, .inr (2, [.ref ta, .int (xi_ (len : Int)), .int (xi_ ((p_dig txt len (max 1 k127) a127).2 : Int)), .int (xi_ gr)])), (ta, .inl (G.2.2 2, 40, .inl (ja_ txt))), (a, .inr (1, nd_ kd ia cnt k127 ((p_dig txt len (max 1 k127) a127).1.getD (-1)) 0 hf9))] := hh
      have hdg143 := p_dig_rng (tx := txt) (len := len) (low := max 1 k127) (at_ := a127)
      obtain ⟨P143, hP143⟩ : ∃ P, P = p_dig txt len (max 1 k127) a127 := ⟨_, rfl⟩
      rw [← hP143] at hh hp143 hdg143
      rcases P143 with ⟨_ | k143, a143⟩
      · have hh : xw_H G (va_A [(rd, .inr (2, [.ref ta, .int (xi_ (len : Int)), .int (xi_ (at_ : Int)), .int (xi_ gr)])), (ta, .inl (G.2.2 2, 40, .inl (ja_ txt))), (a, .inr (1, nd_ kd ia cnt 1 1 0 hf9))] s.heap.size) s.heap H locs [(rd, .inr (2, [.ref ta, .int (xi_ (len : Int)), .int (xi_ (a143 : Int)), .int (xi_ gr)])), (ta, .inl (G.2.2 2, 40, .inl (ja_ txt))), (a, .inr (1, nd_ kd ia cnt k127 (-1) 0 hf9))] := hh
        refine xw_topi (y := 0) hp143 ?_
        refine xw_if_eq hx hb 172 d_Rd_readDigits_146 (by decide) (by decide) (fun c146 => ?_) (fun c146 => absurd c146 (by decide))
        refine lv_iconst (v := xi_ 0) hx hb d_Rd_readDigits_172 rfl ?_
        have eR : p_digs txt len kd at_ = (none, a143) := by
          rw [h69]
          unfold p_digs
          rw [if_neg (by omega), if_neg (by omega), if_pos rfl]
          rw [← hP127]
          (try dsimp only)
          rw [← hP143]
          (try dsimp only)
        rw [eR]
        exact xw_iret F hr hlk hh (by decide) (k127, (-1), 0, gr) rfl ⟨rfl, (by omega), (fun k n r q => by cases q)⟩ trivial d_Rd_readDigits_173
      · have hh : xw_H G (va_A [(rd, .inr (2, [.ref ta, .int (xi_ (len : Int)), .int (xi_ (at_ : Int)), .int (xi_ gr)])), (ta, .inl (G.2.2 2, 40, .inl (ja_ txt))), (a, .inr (1, nd_ kd ia cnt 1 1 0 hf9))] s.heap.size) s.heap H locs [(rd, .inr (2, [.ref ta, .int (xi_ (len : Int)), .int (xi_ (a143 : Int)), .int (xi_ gr)])), (ta, .inl (G.2.2 2, 40, .inl (ja_ txt))), (a, .inr (1, nd_ kd ia cnt k127 k143 0 hf9))] := hh
        have hd143 := hdg143.2.2.2 k143 rfl
        refine xw_topi (y := 1) hp143 ?_
        refine xw_if_eq hx hb 172 d_Rd_readDigits_146 (by decide) (by decide) (fun c146 => absurd c146 (by decide)) (fun c146 => ?_)
        refine lv_aload_n hx hb d_Rd_readDigits_149 rfl (lv_at hl 0 rfl) ?_
        refine lv_aload_n hx hb d_Rd_readDigits_150 rfl (lv_at hl 1 rfl) ?_
        refine xw_get F hh.1 (v := .int (xi_ k143)) fl_Rd_66_1 2 rfl rfl d_Rd_readDigits_151 ?_
        refine xw_ci (wc := [(rd, .inr (2, [.ref ta, .int (xi_ (len : Int)), .int (xi_ (a143 : Int)), .int (xi_ gr)])), (ta, .inl (G.2.2 2, 40, .inl (ja_ txt)))]) (wr := [(a, .inr (1, nd_ kd ia cnt k127 k143 0 hf9))]) hh [0, 1] [2] rfl rfl rfl (by decide) (xw_rV F hh [0, 1] rfl rfl (c_Rd_refineGrain l G H.size rd ta txt len a143 gr ⟨hlen.1, by omega⟩ htx k143 (by omega) (by omega)) trivial lk_Rd_69 cd_Rd_refineGrain se_Rd_refineGrain _ hh.1 0 rfl rfl rfl rfl ⟨by decide, by decide⟩ rfl hl.1 rfl (Nat.le_of_ble_eq_true rfl) d_Rd_readDigits_154 ⟨Nat.le_of_ble_eq_true rfl, Nat.le_of_ble_eq_true rfl⟩) (fun z154 u_ H locs hp154 hX hz hk hh => ?_)
        have hh : xw_H G (va_A [(rd, .inr (2, [.ref ta, .int (xi_ (len : Int)), .int (xi_ (at_ : Int)), .int (xi_ gr)])), (ta, .inl (G.2.2 2, 40, .inl (ja_ txt))), (a, .inr (1, nd_ kd ia cnt 1 1 0 hf9))] s.heap.size) s.heap H locs [(rd, .inr (2, [.ref ta, .int (xi_ (len : Int)), .int (xi_ (a143 : Int)), .int (xi_ (gc_ gr k143))])), (ta, .inl (G.2.2 2, 40, .inl (ja_ txt))), (a, .inr (1, nd_ kd ia cnt k127 k143 0 hf9))] := xw_H.sub hh [1, 2, 0] rfl rfl
        have hg154 := gc_rng (g := gr) (f := k143) (by omega) (by omega)
        refine xw_topi (y := 1) hp154 ?_
        refine xw_if_eq hx hb 172 d_Rd_readDigits_157 (by decide) (by decide) (fun c157 => absurd c157 (by decide)) (fun c157 => ?_)
        refine lv_aload_n hx hb d_Rd_readDigits_160 rfl (lv_at hl 0 rfl) ?_
        refine lv_aload_n hx hb d_Rd_readDigits_161 rfl (lv_at hl 1 rfl) ?_
        refine xw_ci (wc := [(rd, .inr (2, [.ref ta, .int (xi_ (len : Int)), .int (xi_ (a143 : Int)), .int (xi_ (gc_ gr k143))])), (ta, .inl (G.2.2 2, 40, .inl (ja_ txt))), (a, .inr (1, nd_ kd ia cnt k127 k143 0 hf9))]) (wr := []) hh [0, 1, 2] [] rfl rfl rfl (by decide) (xw_rV F hh [0, 1, 2] rfl rfl (c_Rd_readR l G H.size rd ta txt len a143 (gc_ gr k143) ⟨hlen.1, by omega⟩ htx a ia kd cnt k127 k143 0 hf9) trivial lk_Rd_96 cd_Rd_readR se_Rd_readR _ hh.1 0 rfl rfl rfl rfl ⟨by decide, by decide⟩ rfl hl.1 rfl (Nat.le_of_ble_eq_true rfl) d_Rd_readDigits_162 ⟨Nat.le_of_ble_eq_true rfl, Nat.le_of_ble_eq_true rfl⟩) (fun z162 u_ H locs hp162 hX hz hk hh => ?_)
        have hh : xw_H G (va_A [(rd, .inr (2, [.ref ta, .int (xi_ (len : Int)), .int (xi_ (at_ : Int)), .int (xi_ gr)])), (ta, .inl (G.2.2 2, 40, .inl (ja_ txt))), (a, .inr (1, nd_ kd ia cnt 1 1 0 hf9))] s.heap.size) s.heap H locs [(rd, .inr (2, [.ref ta, .int (xi_ (len : Int)), .int (xi_ ((p_dig txt len 0 a143).2 : Int)), .int (xi_ (gc_ gr k143))])), (ta, .inl (G.2.2 2, 40, .inl (ja_ txt))), (a, .inr (1, nd_ kd ia cnt k127 k143 ((p_dig txt len 0 a143).1.getD (-1)) hf9))] := hh
        have hdg162 := p_dig_rng (tx := txt) (len := len) (low := 0) (at_ := a143)
        obtain ⟨P162, hP162⟩ : ∃ P, P = p_dig txt len 0 a143 := ⟨_, rfl⟩
        rw [← hP162] at hh hp162 hdg162
        rcases P162 with ⟨_ | k162, a162⟩
        · have hh : xw_H G (va_A [(rd, .inr (2, [.ref ta, .int (xi_ (len : Int)), .int (xi_ (at_ : Int)), .int (xi_ gr)])), (ta, .inl (G.2.2 2, 40, .inl (ja_ txt))), (a, .inr (1, nd_ kd ia cnt 1 1 0 hf9))] s.heap.size) s.heap H locs [(rd, .inr (2, [.ref ta, .int (xi_ (len : Int)), .int (xi_ (a162 : Int)), .int (xi_ (gc_ gr k143))])), (ta, .inl (G.2.2 2, 40, .inl (ja_ txt))), (a, .inr (1, nd_ kd ia cnt k127 k143 (-1) hf9))] := hh
          refine xw_topi (y := 0) hp162 ?_
          refine xw_if_eq hx hb 172 d_Rd_readDigits_165 (by decide) (by decide) (fun c165 => ?_) (fun c165 => absurd c165 (by decide))
          refine lv_iconst (v := xi_ 0) hx hb d_Rd_readDigits_172 rfl ?_
          have eR : p_digs txt len kd at_ = (none, a162) := by
            rw [h69]
            unfold p_digs
            rw [if_neg (by omega), if_neg (by omega), if_pos rfl]
            rw [← hP127]
            (try dsimp only)
            rw [← hP143]
            (try dsimp only)
            rw [← hP162]
            (try dsimp only)
          rw [eR]
          exact xw_iret F hr hlk hh (by decide) (k127, k143, (-1), gc_ gr k143) rfl ⟨rfl, (by omega), (fun k n r q => by cases q)⟩ trivial d_Rd_readDigits_173
        · have hh : xw_H G (va_A [(rd, .inr (2, [.ref ta, .int (xi_ (len : Int)), .int (xi_ (at_ : Int)), .int (xi_ gr)])), (ta, .inl (G.2.2 2, 40, .inl (ja_ txt))), (a, .inr (1, nd_ kd ia cnt 1 1 0 hf9))] s.heap.size) s.heap H locs [(rd, .inr (2, [.ref ta, .int (xi_ (len : Int)), .int (xi_ (a162 : Int)), .int (xi_ (gc_ gr k143))])), (ta, .inl (G.2.2 2, 40, .inl (ja_ txt))), (a, .inr (1, nd_ kd ia cnt k127 k143 k162 hf9))] := hh
          have hd162 := hdg162.2.2.2 k162 rfl
          refine xw_topi (y := 1) hp162 ?_
          refine xw_if_eq hx hb 172 d_Rd_readDigits_165 (by decide) (by decide) (fun c165 => absurd c165 (by decide)) (fun c165 => ?_)
          refine lv_iconst (v := xi_ 1) hx hb d_Rd_readDigits_168 rfl ?_
          refine lv_goto (tgt := 173) hx hb d_Rd_readDigits_169 (by decide) ?_
          have eR : p_digs txt len kd at_ = (some (k127, k143, k162), a162) := by
            rw [h69]
            unfold p_digs
            rw [if_neg (by omega), if_neg (by omega), if_pos rfl]
            rw [← hP127]
            (try dsimp only)
            rw [← hP143]
            (try dsimp only)
            rw [← hP162]
            (try dsimp only)
          rw [eR]
          have eD : df_ kd k127 k143 = k143 := by
            rw [h69]
            unfold df_
            rw [if_neg (by omega), if_pos (Or.inr rfl)]
          exact xw_iret F hr hlk hh (by decide) (k127, k143, k162, gc_ gr k143) rfl ⟨rfl, (by omega), (fun k n r q => by
            cases q
            rw [eD])⟩ trivial d_Rd_readDigits_173
  · refine lv_lookup (off := 170) (tgt := 174) hx hb d_Rd_readDigits_4 (by decide) (by rw [h82]; decide) (by decide) ?_
    refine lv_iconst (v := xi_ 1) hx hb d_Rd_readDigits_174 rfl ?_
    have eR : p_digs txt len kd at_ = (some (1, 1, 0), at_) := by
      rw [h82]
      unfold p_digs
      rw [if_neg (by omega), if_neg (by omega), if_neg (by omega)]
    rw [eR]
    have eD : df_ kd 1 1 = 1 := by
      rw [h82]
      unfold df_
      rw [if_neg (by omega), if_neg (by omega)]
    exact xw_iret F hr hlk hh (by decide) (1, 1, 0, gr) rfl ⟨rfl, (by omega), (fun k n r q => by
      cases q
      rw [eD, gc_1])⟩ trivial d_Rd_readDigits_175
