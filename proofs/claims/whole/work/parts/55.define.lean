/-! the grain as it is multiplied and the grain; CyclePatterns.define -/
def rel_ (a b : Int) : Prop := (a ≤ 5040 ↔ b ≤ 5040) ∧ (a ≤ 5040 → a = b) ∧ 1 ≤ a ∧ 1 ≤ b
theorem rel_gc {a b f : Int} (h : rel_ a b) (hf : 1 ≤ f) : rel_ (gc_ a f) (b * f) := by
  obtain ⟨h1, h2, h3, h4⟩ := h
  have h5 : b * 1 ≤ b * f := Int.mul_le_mul_of_nonneg_left hf (by omega)
  unfold gc_
  by_cases ha : a ≤ 5040
  · have e := h2 ha
    subst e
    rw [if_pos ha]
    exact ⟨Iff.rfl, fun _ => rfl, by omega, by omega⟩
  · rw [if_neg ha]
    exact ⟨⟨fun q => absurd q ha, fun q => by omega⟩, fun q => absurd q ha, h3, by omega⟩
theorem fold_rel {d : Nat} (ih : ∀ (T : PT d) (a b : Int), wf_ d T → rel_ a b → rel_ (gf_ d T a) (b * gn_ d T)) : ∀ (cs : List (PT d)) (a b : Int), (∀ c ∈ cs, wf_ d c) → rel_ a b → rel_ (cs.foldl (fun g c => gf_ d c g) a) (b * gn_prod (cs.map (gn_ d)))
  | [], a, b, _, h => by
    show rel_ a (b * 1)
    rw [Int.mul_one]
    exact h
  | c :: cs, a, b, hw, h => by
    have h1 := fold_rel ih cs (gf_ d c a) (b * gn_ d c) (fun x hx => hw x (List.mem_cons_of_mem _ hx)) (ih c a b (hw c List.mem_cons_self) h)
    rw [Int.mul_assoc] at h1
    exact h1
theorem gf_rel : ∀ (d : Nat) (T : PT d) (a b : Int), wf_ d T → rel_ a b → rel_ (gf_ d T a) (b * gn_ d T)
  | 0, T, a, b, hw, h => hw.elim
  | d + 1, T, a, b, hw, h => by
    have hg := gn_1_pos hw.1
    rw [gf_s, gn_s]
    by_cases hk : tr_kd T = 91
    · rw [if_pos hk]
      have h1 := rel_gc (fold_rel (gf_rel d) (tr_cs T) a b hw.2 h) (f := tr_n T) (wf_rng hw.1).2.2.1.1
      rw [show gn_1 T = tr_n T by unfold gn_1; rw [if_pos hk], Int.mul_comm (tr_n T), ← Int.mul_assoc]
      exact h1
    · rw [if_neg hk]
      have h1 := fold_rel (gf_rel d) (tr_cs T) _ _ hw.2 (rel_gc h hg.1)
      rw [Int.mul_assoc] at h1
      exact h1
theorem gf_gn {T : PT 40} (hw : wf_ 40 T) : rel_ (gf_ 40 T 1) (gn_ 40 T) := by
  have h := gf_rel 40 T 1 1 hw ⟨Iff.rfl, fun _ => rfl, by omega, by omega⟩
  rw [Int.one_mul] at h
  exact h
theorem rd_wf {txt : Nat → Int} {len : Nat} {T : PT 40} (h : (rd_R txt len).1 = some T) : wf_ 40 T := by
  unfold rd_R at h
  dsimp only at h
  split at h
  · exact prs_wf txt len 40 0 T (prs_ txt len 40 0).2 (by rw [← h])
  · cases h
/-- what define answers, and the pattern that it puts -/
def de_ans (txt : Nat → Int) (len : Nat) (n : Int) : Int := if 0 ≤ n ∧ n < 8 then (match (rd_R txt len).1 with
  | none => -100 - ((rd_R txt len).2 : Int)
  | some T => if gf_ 40 T 1 ≤ 5040 then gf_ 40 T 1 else -3) else -1
def de_T (txt : Nat → Int) (len : Nat) (n : Int) : Option (PT 40) := if 0 ≤ n ∧ n < 8 then (match (rd_R txt len).1 with
  | none => none
  | some T => if gf_ 40 T 1 ≤ 5040 then some T else none) else none
def de_gs (txt : Nat → Int) (len : Nat) (gsf : Nat → Int) (n : Int) : Nat → Int := match de_T txt len n with
  | none => gsf
  | some T => va_up gsf n.toNat (gf_ 40 T 1)
def de_Tr (txt : Nat → Int) (len : Nat) (Tr : Nat → PT 40) (n : Int) : Nat → PT 40 := match de_T txt len n with
  | none => Tr
  | some T => va_up Tr n.toNat T
theorem de_T_wf {txt : Nat → Int} {len : Nat} {n : Int} {T : PT 40} (h : de_T txt len n = some T) : wf_ 40 T ∧ gf_ 40 T 1 ≤ 5040 := by
  unfold de_T at h
  split at h
  · cases e : (rd_R txt len).1 with
    | none => rw [e] at h; cases h
    | some T1 =>
      rw [e] at h
      dsimp only at h
      split at h
      · cases h
        exact ⟨rd_wf e, by assumption⟩
      · cases h
  · cases h
theorem de_sp {txt : Nat → Int} {len : Nat} {gsf : Nat → Int} {Tr : Nat → PT 40} {n : Int} (h : sp_ok gsf Tr) : sp_ok (de_gs txt len gsf n) (de_Tr txt len Tr n) := by
  unfold de_gs de_Tr
  cases e : de_T txt len n with
  | none => exact h
  | some T =>
    obtain ⟨h1, h2⟩ := de_T_wf e
    have h3 := gf_gn h1
    intro j hj
    dsimp only
    unfold va_up
    by_cases hq : j = n.toNat
    · rw [if_pos hq, if_pos hq]
      exact ⟨h1, h3.2.1 h2, h3.2.2.1, h2⟩
    · rw [if_neg hq, if_neg hq]
      exact h j hj
section XIK
variable {p : Program} {l : Launch} {e : Env} {R : Room} {s : State} {m : MethodId} {args : Array Value} {below : List Frame} {meth : Method} {c : Code} {H : Heap} {locs : List Loc} {cells slots : Nat} {Q : State → Prop}
variable {cc : ByteArray} {nL pc : Nat} {ls : Array Slot} {rest : List Value} {own : String} {G : GG_} {A : Nat → Prop} {a : Nat} {ws : va_W} {H0 : Heap}
/-- a store in an array of ints, and that all else stays -/
theorem xw_iastK (F : xw_F p s m args c cc nL own G) (hh : xw_H G A H0 H locs ws) (q0 : Nat) {n : Nat} {f : Nat → Int} (ha : ws[q0]? = some (a, .inl (G.2.2 0, n, .inl (ja_ f)))) {i x : Int} (hi : 0 ≤ i ∧ i < (n : Int) ∧ (n : Int) ≤ 2147483647) (hd : decode cc pc = .ok (.iastore, 1))
    (kk : ∀ (H1 : Heap) (locs1 : List Loc), xw_H G A H0 H1 locs1 (ws.set q0 (a, .inl (G.2.2 0, n, .inl (ja_ (va_up f i.toNat x))))) → (∀ q : Nat, q ≠ a → H1[q]? = H[q]?) → W p l e R s m args below meth c H1 locs1 cells slots Q (F0 m (pc + 1) ls rest)) : W p l e R s m args below meth c H locs cells slots Q (F0 m pc ls (.int (xi_ x) :: .int (xi_ i) :: .ref a :: rest)) := by
  obtain ⟨hx, hb, -, -, -, hE⟩ := F
  obtain ⟨hP, hD, hS, hA⟩ := hh
  refine W.iast hx hb (hP q0 _ ha) ((hE.1.2 0 _ rfl).1 n (fun j => .int (ja_ f j))) (fun q => by cases q) (by show ¬ (xi_ i < 0 ∨ (arrV _ _ _).slots.size ≤ _); rw [arrV_size]; exact xi_in hi) rfl rfl hd fun H1 e z oq => ?_
  have e3 : (xi_ i).toNatClampNeg = i.toNat := xi_cl (by omega)
  refine kk H1 _ ⟨hP.set hD ha ?_ oq, hD.set ha, hS.put z oq (hD.2 q0 _ ha), hA⟩ oq
  show H1[a]? = some (vp_cell _ _)
  rw [e, e3, vp_cell_i, vp_cell_i, arrV_store, ← ja_up]
  congr 2
  funext q
  by_cases hq : q = i.toNat
  · subst hq
    simp [updV, upd]
  · simp [updV, upd, hq]
end XIK
def rm_X_define : Room := { frames := 132, cells := 80, slots := 640, locals := 2651 }
set_option maxHeartbeats 4000000 in
set_option maxRecDepth 100000 in
theorem c_X_define (l : Launch) (G : GG_) (sz : Nat) (xo rd pa gs fo p1 p2 du : Nat) (fu pl sc ss tk : Int) (ta : Nat) (txt : Nat → Int) (len : Nat) (at0 g0 slot tl : Int) (r v ra : Nat) (cnt tm : Int) (paf : Nat → Option Nat) (gsf : Nat → Int) (Tr : Nat → PT 40) (hsp : sp_ok gsf Tr) (Sd : Nat → Prop) (hSd : ∀ q : Nat, Sd q → q ∉ [xo, rd, ta, pa, gs, du, r]) (n : Int) (hn : (-2147483648 ≤ n ∧ n ≤ 2147483647)) (hlen : len ≤ 40) (htx : ∀ j : Nat, 0 ≤ txt j ∧ txt j ≤ 65535) : Met l y_X_define (cw_ y_X_define b_X_define 3 (some .int)) rm_X_define (xw_P G [.ref xo, .int (xi_ n)] sz [(xo, .inr (0, xo_ rd pa gs fo p1 p2 du fu pl sc ss tk)), (rd, .inr (2, [.ref ta, .int (xi_ (len : Int)), .int (xi_ at0), .int (xi_ g0)])), (ta, .inl (G.2.2 2, 40, .inl (ja_ txt))), (pa, .inl (G.2.2 4, 8, .inr (.inr (.inr (.inr paf))))), (gs, .inl (G.2.2 0, 8, .inl (ja_ gsf))), (du, .inr (5, [.ref r, .int (xi_ slot), .long (xl_ tl)])), (r, .inr (3, [.int (xi_ (100 : Int)), .ref v, .ref ra, .int (xi_ cnt), .int (xi_ tm)]))] (sh_ok G Sd paf Tr)) (xw_Qi (S := (Int × Int × Int × Int × Int) × Int × Int × (Nat → Option Nat)) G sz [(xo, .inr (0, xo_ rd pa gs fo p1 p2 du fu pl sc ss tk)), (rd, .inr (2, [.ref ta, .int (xi_ (len : Int)), .int (xi_ at0), .int (xi_ g0)])), (ta, .inl (G.2.2 2, 40, .inl (ja_ txt))), (pa, .inl (G.2.2 4, 8, .inr (.inr (.inr (.inr paf))))), (gs, .inl (G.2.2 0, 8, .inl (ja_ gsf))), (du, .inr (5, [.ref r, .int (xi_ slot), .long (xl_ tl)])), (r, .inr (3, [.int (xi_ (100 : Int)), .ref v, .ref ra, .int (xi_ cnt), .int (xi_ tm)]))] (fun z u => z = de_ans txt len n ∧ u.1 = if 0 ≤ n ∧ n < 8 then (0, 0, 0, 0, 0) else (pl, tk, cnt, tm, (len : Int))) (fun u => [(xo, .inr (0, xo_ rd pa gs fo p1 p2 du fu u.1.1 sc ss u.1.2.1)), (rd, .inr (2, [.ref ta, .int (xi_ u.1.2.2.2.2), .int (xi_ u.2.1), .int (xi_ u.2.2.1)])), (ta, .inl (G.2.2 2, 40, .inl (ja_ txt))), (pa, .inl (G.2.2 4, 8, .inr (.inr (.inr (.inr u.2.2.2))))), (gs, .inl (G.2.2 0, 8, .inl (ja_ (de_gs txt len gsf n)))), (du, .inr (5, [.ref r, .int (xi_ slot), .long (xl_ tl)])), (r, .inr (3, [.int (xi_ (100 : Int)), .ref v, .ref ra, .int (xi_ u.1.2.2.1), .int (xi_ u.1.2.2.2.1)]))]) (fun u H => sh_ok G (fun q => Sd q ∨ sz ≤ q) u.2.2.2 (de_Tr txt len Tr n) H)) 80 640 (va_A [(xo, .inr (0, xo_ rd pa gs fo p1 p2 du fu pl sc ss tk)), (rd, .inr (2, [.ref ta, .int (xi_ (len : Int)), .int (xi_ at0), .int (xi_ g0)])), (ta, .inl (G.2.2 2, 40, .inl (ja_ txt))), (pa, .inl (G.2.2 4, 8, .inr (.inr (.inr (.inr paf))))), (gs, .inl (G.2.2 0, 8, .inl (ja_ gsf))), (du, .inr (5, [.ref r, .int (xi_ slot), .long (xl_ tl)])), (r, .inr (3, [.int (xi_ (100 : Int)), .ref v, .ref ra, .int (xi_ cnt), .int (xi_ tm)]))] sz) := by
  refine xw_met (by decide) (Nat.le_of_ble_eq_true rfl) ?_
  intro p0 e0 s m0 args below meth c0 F hr hlk hin hsz hh hX ls hl
  subst hsz
  have hx := F.1
  have hb := F.2.1
  have hl : lv_has ls 3 [(0, .ref xo), (1, .int (xi_ n))] := hl
  have hX0 := hX
  have hA : ∀ q : Nat, Sd q → q < s.heap.size → ¬ va_A [(xo, .inr (0, xo_ rd pa gs fo p1 p2 du fu pl sc ss tk)), (rd, .inr (2, [.ref ta, .int (xi_ (len : Int)), .int (xi_ at0), .int (xi_ g0)])), (ta, .inl (G.2.2 2, 40, .inl (ja_ txt))), (pa, .inl (G.2.2 4, 8, .inr (.inr (.inr (.inr paf))))), (gs, .inl (G.2.2 0, 8, .inl (ja_ gsf))), (du, .inr (5, [.ref r, .int (xi_ slot), .long (xl_ tl)])), (r, .inr (3, [.int (xi_ (100 : Int)), .ref v, .ref ra, .int (xi_ cnt), .int (xi_ tm)]))] s.heap.size q := fun q hq hl => not_inL (as := [xo, rd, ta, pa, gs, du, r]) rfl (hSd q hq) hl
  have hlts : xo < s.heap.size ∧ rd < s.heap.size ∧ ta < s.heap.size ∧ pa < s.heap.size ∧ gs < s.heap.size ∧ du < s.heap.size ∧ r < s.heap.size := ⟨(hh.1 0 _ rfl).lt, (hh.1 1 _ rfl).lt, (hh.1 2 _ rfl).lt, (hh.1 3 _ rfl).lt, (hh.1 4 _ rfl).lt, (hh.1 5 _ rfl).lt, (hh.1 6 _ rfl).lt⟩
  refine lv_iload_n hx hb d_X_define_0 rfl (lv_at hl 1 rfl) ?_
  refine xw_cip hh (xw_rSp F (c_X_isSlot l G s.heap.size n (by omega)) lk_X_63 cd_X_isSlot ss_X_isSlot rfl rfl ⟨by decide, by decide⟩ rfl hl.1 rfl (Nat.le_of_ble_eq_true rfl) d_X_define_1 ⟨Nat.le_of_ble_eq_true rfl, Nat.le_of_ble_eq_true rfl⟩) (fun z1 u H locs hp1 hz hk hh => ?_)
  obtain rfl : z1 = b2_ (decide (0 ≤ n ∧ n < 8)) := hp1
  have hsb1 := b2_01 (decide (0 ≤ n ∧ n < 8))
  refine xw_if_ne hx hb 9 d_X_define_4 (by decide) (by omega) (fun c4 => ?_) (fun c4 => ?_)
  · refine lv_aload_n hx hb d_X_define_9 rfl (lv_at hl 0 rfl) ?_
    have hn1 : 0 ≤ n ∧ n < 8 := of_decide_eq_true (b2_ne c4)
    refine xw_cv (wc := [(xo, .inr (0, xo_ rd pa gs fo p1 p2 du fu pl sc ss tk)), (du, .inr (5, [.ref r, .int (xi_ slot), .long (xl_ tl)])), (r, .inr (3, [.int (xi_ (100 : Int)), .ref v, .ref ra, .int (xi_ cnt), .int (xi_ tm)]))]) (wr := [(rd, .inr (2, [.ref ta, .int (xi_ (len : Int)), .int (xi_ at0), .int (xi_ g0)])), (ta, .inl (G.2.2 2, 40, .inl (ja_ txt))), (pa, .inl (G.2.2 4, 8, .inr (.inr (.inr (.inr paf))))), (gs, .inl (G.2.2 0, 8, .inl (ja_ gsf)))]) hh [0, 5, 6] [1, 2, 3, 4] rfl rfl rfl (by decide) (xw_rV F hh [0, 5, 6] rfl rfl (c_X_stopPlaying l G H.size xo rd pa gs fo p1 p2 du fu pl sc ss tk r v ra slot tl cnt tm) trivial lk_X_67 cd_X_stopPlaying se_X_stopPlaying _ hh.1 0 rfl rfl rfl rfl ⟨by decide, by decide⟩ rfl hl.1 rfl (Nat.le_of_ble_eq_true rfl) d_X_define_10 ⟨Nat.le_of_ble_eq_true rfl, Nat.le_of_ble_eq_true rfl⟩) (fun u_ H locs hp10 hX hz hk hh => ?_)
    have hh : xw_H G (va_A [(xo, .inr (0, xo_ rd pa gs fo p1 p2 du fu pl sc ss tk)), (rd, .inr (2, [.ref ta, .int (xi_ (len : Int)), .int (xi_ at0), .int (xi_ g0)])), (ta, .inl (G.2.2 2, 40, .inl (ja_ txt))), (pa, .inl (G.2.2 4, 8, .inr (.inr (.inr (.inr paf))))), (gs, .inl (G.2.2 0, 8, .inl (ja_ gsf))), (du, .inr (5, [.ref r, .int (xi_ slot), .long (xl_ tl)])), (r, .inr (3, [.int (xi_ (100 : Int)), .ref v, .ref ra, .int (xi_ cnt), .int (xi_ tm)]))] s.heap.size) s.heap H locs [(xo, .inr (0, xo_ rd pa gs fo p1 p2 du fu 0 sc ss 0)), (rd, .inr (2, [.ref ta, .int (xi_ (len : Int)), .int (xi_ at0), .int (xi_ g0)])), (ta, .inl (G.2.2 2, 40, .inl (ja_ txt))), (pa, .inl (G.2.2 4, 8, .inr (.inr (.inr (.inr paf))))), (gs, .inl (G.2.2 0, 8, .inl (ja_ gsf))), (du, .inr (5, [.ref r, .int (xi_ slot), .long (xl_ tl)])), (r, .inr (3, [.int (xi_ (100 : Int)), .ref v, .ref ra, .int (xi_ 0), .int (xi_ 0)]))] := xw_H.sub hh [4, 0, 1, 2, 3, 5, 6] rfl rfl
    refine lv_aload_n hx hb d_X_define_13 rfl (lv_at hl 0 rfl) ?_
    refine xw_get F hh.1 (v := .ref rd) fl_X_10_0 0 rfl rfl d_X_define_14 ?_
    have hszs := hh.2.2.1.1
    refine xw_ca (wc := [(rd, .inr (2, [.ref ta, .int (xi_ (len : Int)), .int (xi_ at0), .int (xi_ g0)])), (ta, .inl (G.2.2 2, 40, .inl (ja_ txt)))]) (wr := [(xo, .inr (0, xo_ rd pa gs fo p1 p2 du fu 0 sc ss 0)), (pa, .inl (G.2.2 4, 8, .inr (.inr (.inr (.inr paf))))), (gs, .inl (G.2.2 0, 8, .inl (ja_ gsf))), (du, .inr (5, [.ref r, .int (xi_ slot), .long (xl_ tl)])), (r, .inr (3, [.int (xi_ (100 : Int)), .ref v, .ref ra, .int (xi_ 0), .int (xi_ 0)]))]) hh [1, 2] [0, 3, 4, 5, 6] rfl rfl rfl (by decide) (xw_rV F hh [1, 2] rfl rfl (c_Rd_read l G H.size rd ta txt len at0 g0 hlen htx) trivial lk_X_70 cd_Rd_read se_Rd_read _ hh.1 1 rfl rfl rfl rfl ⟨by decide, by decide⟩ rfl hl.1 rfl (Nat.le_of_ble_eq_true rfl) d_X_define_17 ⟨Nat.le_of_ble_eq_true rfl, Nat.le_of_ble_eq_true rfl⟩) (fun z17 ug H locs hp17 hX hz hk hh => ?_)
    have hh : xw_H G (va_A [(xo, .inr (0, xo_ rd pa gs fo p1 p2 du fu pl sc ss tk)), (rd, .inr (2, [.ref ta, .int (xi_ (len : Int)), .int (xi_ at0), .int (xi_ g0)])), (ta, .inl (G.2.2 2, 40, .inl (ja_ txt))), (pa, .inl (G.2.2 4, 8, .inr (.inr (.inr (.inr paf))))), (gs, .inl (G.2.2 0, 8, .inl (ja_ gsf))), (du, .inr (5, [.ref r, .int (xi_ slot), .long (xl_ tl)])), (r, .inr (3, [.int (xi_ (100 : Int)), .ref v, .ref ra, .int (xi_ cnt), .int (xi_ tm)]))] s.heap.size) s.heap H locs [(xo, .inr (0, xo_ rd pa gs fo p1 p2 du fu 0 sc ss 0)), (rd, .inr (2, [.ref ta, .int (xi_ (len : Int)), .int (xi_ ((rd_R txt len).2 : Int)), .int (xi_ ug)])), (ta, .inl (G.2.2 2, 40, .inl (ja_ txt))), (pa, .inl (G.2.2 4, 8, .inr (.inr (.inr (.inr paf))))), (gs, .inl (G.2.2 0, 8, .inl (ja_ gsf))), (du, .inr (5, [.ref r, .int (xi_ slot), .long (xl_ tl)])), (r, .inr (3, [.int (xi_ (100 : Int)), .ref v, .ref ra, .int (xi_ 0), .int (xi_ 0)]))] := xw_H.sub hh [0, 5, 6, 1, 2, 3, 4] rfl rfl
    obtain ⟨hpn, hpu, hpg⟩ := hp17
    have hRle : (rd_R txt len).2 ≤ 40 := by
      have h9 := prs_le txt len 40 0 (Nat.zero_le _)
      show (prs_ txt len 40 0).2 ≤ 40
      omega
    rcases eT : (rd_R txt len).1 with _ | T
    · obtain rfl := hpn eT
      refine xw_topn rfl ?_
      have eDT : de_T txt len n = none := by
        unfold de_T
        rw [if_pos hn1, eT]
      refine lv_astore_nN (lv' := [(2, .null), (0, .ref xo), (1, .int (xi_ n))]) hx hb d_X_define_20 rfl hl (by decide) rfl (fun ls hl => ?_)
      refine lv_aload_n hx hb d_X_define_21 rfl (lv_at hl 1 rfl) ?_
      refine xw_get F hh.1 (v := .ref rd) fl_X_10_0 0 rfl rfl d_X_define_22 ?_
      refine xw_cv (wc := [(rd, .inr (2, [.ref ta, .int (xi_ (len : Int)), .int (xi_ ((rd_R txt len).2 : Int)), .int (xi_ ug)])), (ta, .inl (G.2.2 2, 40, .inl (ja_ txt)))]) (wr := [(xo, .inr (0, xo_ rd pa gs fo p1 p2 du fu 0 sc ss 0)), (pa, .inl (G.2.2 4, 8, .inr (.inr (.inr (.inr paf))))), (gs, .inl (G.2.2 0, 8, .inl (ja_ gsf))), (du, .inr (5, [.ref r, .int (xi_ slot), .long (xl_ tl)])), (r, .inr (3, [.int (xi_ (100 : Int)), .ref v, .ref ra, .int (xi_ 0), .int (xi_ 0)]))]) hh [1, 2] [0, 3, 4, 5, 6] rfl rfl rfl (by decide) (xw_rV F hh [1, 2] rfl rfl (c_Rd_clear l G H.size rd ta txt len (rd_R txt len).2 ug) trivial lk_X_74 cd_Rd_clear se_Rd_clear _ hh.1 1 rfl rfl rfl rfl ⟨by decide, by decide⟩ rfl hl.1 rfl (Nat.le_of_ble_eq_true rfl) d_X_define_25 ⟨Nat.le_of_ble_eq_true rfl, Nat.le_of_ble_eq_true rfl⟩) (fun u_ H locs hp25 hX hz hk hh => ?_)
      have hh : xw_H G (va_A [(xo, .inr (0, xo_ rd pa gs fo p1 p2 du fu pl sc ss tk)), (rd, .inr (2, [.ref ta, .int (xi_ (len : Int)), .int (xi_ at0), .int (xi_ g0)])), (ta, .inl (G.2.2 2, 40, .inl (ja_ txt))), (pa, .inl (G.2.2 4, 8, .inr (.inr (.inr (.inr paf))))), (gs, .inl (G.2.2 0, 8, .inl (ja_ gsf))), (du, .inr (5, [.ref r, .int (xi_ slot), .long (xl_ tl)])), (r, .inr (3, [.int (xi_ (100 : Int)), .ref v, .ref ra, .int (xi_ cnt), .int (xi_ tm)]))] s.heap.size) s.heap H locs [(xo, .inr (0, xo_ rd pa gs fo p1 p2 du fu 0 sc ss 0)), (rd, .inr (2, [.ref ta, .int (xi_ 0), .int (xi_ ((rd_R txt len).2 : Int)), .int (xi_ ug)])), (ta, .inl (G.2.2 2, 40, .inl (ja_ txt))), (pa, .inl (G.2.2 4, 8, .inr (.inr (.inr (.inr paf))))), (gs, .inl (G.2.2 0, 8, .inl (ja_ gsf))), (du, .inr (5, [.ref r, .int (xi_ slot), .long (xl_ tl)])), (r, .inr (3, [.int (xi_ (100 : Int)), .ref v, .ref ra, .int (xi_ 0), .int (xi_ 0)]))] := xw_H.sub hh [0, 5, 6, 1, 2, 3, 4] rfl rfl
      refine lv_aload_nN hx hb d_X_define_28 rfl (lv_at hl 0 rfl) ?_
      refine lv_ifnonnullN hx hb d_X_define_29 ?_
      refine lv_bipush (v := xi_ (-100)) hx hb d_X_define_32 (by decide) ?_
      refine lv_aload_n hx hb d_X_define_34 rfl (lv_at hl 1 rfl) ?_
      refine xw_get F hh.1 (v := .ref rd) fl_X_10_0 0 rfl rfl d_X_define_35 ?_
      refine xw_get F hh.1 (v := .int (xi_ ((rd_R txt len).2 : Int))) fl_X_77_2 1 rfl rfl d_X_define_38 ?_
      refine xw_isub hx hb d_X_define_41 ?_
      refine W.widen (k := 80) (n := 640) (by omega) (by omega) ?_
      have eG : de_gs txt len gsf n = gsf := by
        unfold de_gs
        rw [eDT]
      have eTr : de_Tr txt len Tr n = Tr := by
        unfold de_Tr
        rw [eDT]
      rw [eG, eTr]
      exact xw_iret F hr hlk hh rfl ((0, 0, 0, 0, 0), ((rd_R txt len).2 : Int), ug, paf) rfl ⟨by
        unfold de_ans
        rw [if_pos hn1, eT], (if_pos hn1).symm⟩ (fun j hj => (hX0 j hj).elim (fun b hb => ⟨b, hb.1, nt_weaken (fun q h1 _ => Or.inl h1) (nt_now hA hb.2 hh)⟩)) d_X_define_42
    · obtain ⟨b17, hb17, hnt17⟩ := hX T eT
      have hgT := hpg T eT
      refine xw_topr hb17 ?_
      have hntS : nt_ G (fun q => s.heap.size ≤ q ∧ q ≠ xo ∧ q ≠ rd ∧ q ≠ ta ∧ q ≠ pa ∧ q ≠ gs ∧ q ≠ du ∧ q ≠ r) 40 H b17 T := nt_weaken (fun q h1 h2 => ⟨by omega, by omega, by omega, by omega, by omega, by omega, by omega, by omega⟩) hnt17
      refine lv_astore_n (lv' := [(2, .ref b17), (0, .ref xo), (1, .int (xi_ n))]) hx hb d_X_define_20 rfl hl (by decide) rfl (fun ls hl => ?_)
      refine lv_aload_n hx hb d_X_define_21 rfl (lv_at hl 1 rfl) ?_
      refine xw_get F hh.1 (v := .ref rd) fl_X_10_0 0 rfl rfl d_X_define_22 ?_
      refine xw_cv (wc := [(rd, .inr (2, [.ref ta, .int (xi_ (len : Int)), .int (xi_ ((rd_R txt len).2 : Int)), .int (xi_ ug)])), (ta, .inl (G.2.2 2, 40, .inl (ja_ txt)))]) (wr := [(xo, .inr (0, xo_ rd pa gs fo p1 p2 du fu 0 sc ss 0)), (pa, .inl (G.2.2 4, 8, .inr (.inr (.inr (.inr paf))))), (gs, .inl (G.2.2 0, 8, .inl (ja_ gsf))), (du, .inr (5, [.ref r, .int (xi_ slot), .long (xl_ tl)])), (r, .inr (3, [.int (xi_ (100 : Int)), .ref v, .ref ra, .int (xi_ 0), .int (xi_ 0)]))]) hh [1, 2] [0, 3, 4, 5, 6] rfl rfl rfl (by decide) (xw_rV F hh [1, 2] rfl rfl (c_Rd_clear l G H.size rd ta txt len (rd_R txt len).2 ug) trivial lk_X_74 cd_Rd_clear se_Rd_clear _ hh.1 1 rfl rfl rfl rfl ⟨by decide, by decide⟩ rfl hl.1 rfl (Nat.le_of_ble_eq_true rfl) d_X_define_25 ⟨Nat.le_of_ble_eq_true rfl, Nat.le_of_ble_eq_true rfl⟩) (fun u_ H locs hp25 hX hz hk hh => ?_)
      have hh : xw_H G (va_A [(xo, .inr (0, xo_ rd pa gs fo p1 p2 du fu pl sc ss tk)), (rd, .inr (2, [.ref ta, .int (xi_ (len : Int)), .int (xi_ at0), .int (xi_ g0)])), (ta, .inl (G.2.2 2, 40, .inl (ja_ txt))), (pa, .inl (G.2.2 4, 8, .inr (.inr (.inr (.inr paf))))), (gs, .inl (G.2.2 0, 8, .inl (ja_ gsf))), (du, .inr (5, [.ref r, .int (xi_ slot), .long (xl_ tl)])), (r, .inr (3, [.int (xi_ (100 : Int)), .ref v, .ref ra, .int (xi_ cnt), .int (xi_ tm)]))] s.heap.size) s.heap H locs [(xo, .inr (0, xo_ rd pa gs fo p1 p2 du fu 0 sc ss 0)), (rd, .inr (2, [.ref ta, .int (xi_ 0), .int (xi_ ((rd_R txt len).2 : Int)), .int (xi_ ug)])), (ta, .inl (G.2.2 2, 40, .inl (ja_ txt))), (pa, .inl (G.2.2 4, 8, .inr (.inr (.inr (.inr paf))))), (gs, .inl (G.2.2 0, 8, .inl (ja_ gsf))), (du, .inr (5, [.ref r, .int (xi_ slot), .long (xl_ tl)])), (r, .inr (3, [.int (xi_ (100 : Int)), .ref v, .ref ra, .int (xi_ 0), .int (xi_ 0)]))] := xw_H.sub hh [0, 5, 6, 1, 2, 3, 4] rfl rfl
      have hntS := nt_keep (fun q h1 h2 => hk q h2 (not_in2 h1.2.2.1 h1.2.2.2.1 h2)) hntS
      obtain ⟨kd2, ia2, cnt2, k2, n2, r2, hb2, hc1, hc2, hc3⟩ := nt_cell hntS (rd_wf eT)
      refine lv_aload_n hx hb d_X_define_28 rfl (lv_at hl 0 rfl) ?_
      refine lv_ifnonnull (tgt := 43) hx hb d_X_define_29 (by decide) ?_
      refine lv_aload_n hx hb d_X_define_43 rfl (lv_at hl 1 rfl) ?_
      refine xw_get F hh.1 (v := .ref rd) fl_X_10_0 0 rfl rfl d_X_define_44 ?_
      refine xw_get F hh.1 (v := .int (xi_ ug)) fl_X_80_2 1 rfl rfl d_X_define_47 ?_
      refine lv_sipush (v := xi_ 5040) hx hb d_X_define_50 (by decide) ?_
      refine xw_icmp_le hx hb 59 d_X_define_53 (by decide) (by omega) (fun c53 => ?_) (fun c53 => ?_)
      · refine lv_aload_n hx hb d_X_define_59 rfl (lv_at hl 1 rfl) ?_
        refine xw_get F hh.1 (v := .ref pa) fl_X_18_0 0 rfl rfl d_X_define_60 ?_
        refine lv_iload_n hx hb d_X_define_63 rfl (lv_at hl 2 rfl) ?_
        refine lv_aload_n hx hb d_X_define_64 rfl (lv_at hl 0 rfl) ?_
        refine xw_aast F hh 3 (f := paf) rfl hc1 0 rfl (i := n) (by omega) d_X_define_65 (fun H locs hh oq => ?_)
        have hh : xw_H G (va_A [(xo, .inr (0, xo_ rd pa gs fo p1 p2 du fu pl sc ss tk)), (rd, .inr (2, [.ref ta, .int (xi_ (len : Int)), .int (xi_ at0), .int (xi_ g0)])), (ta, .inl (G.2.2 2, 40, .inl (ja_ txt))), (pa, .inl (G.2.2 4, 8, .inr (.inr (.inr (.inr paf))))), (gs, .inl (G.2.2 0, 8, .inl (ja_ gsf))), (du, .inr (5, [.ref r, .int (xi_ slot), .long (xl_ tl)])), (r, .inr (3, [.int (xi_ (100 : Int)), .ref v, .ref ra, .int (xi_ cnt), .int (xi_ tm)]))] s.heap.size) s.heap H locs [(xo, .inr (0, xo_ rd pa gs fo p1 p2 du fu 0 sc ss 0)), (rd, .inr (2, [.ref ta, .int (xi_ 0), .int (xi_ ((rd_R txt len).2 : Int)), .int (xi_ ug)])), (ta, .inl (G.2.2 2, 40, .inl (ja_ txt))), (pa, .inl (G.2.2 4, 8, .inr (.inr (.inr (.inr (va_up paf n.toNat (some b17))))))), (gs, .inl (G.2.2 0, 8, .inl (ja_ gsf))), (du, .inr (5, [.ref r, .int (xi_ slot), .long (xl_ tl)])), (r, .inr (3, [.int (xi_ (100 : Int)), .ref v, .ref ra, .int (xi_ 0), .int (xi_ 0)]))] := hh
        have hntS := nt_keep (fun q h1 _ => oq q h1.2.2.2.2.1) hntS
        refine lv_aload_n hx hb d_X_define_66 rfl (lv_at hl 1 rfl) ?_
        refine xw_get F hh.1 (v := .ref gs) fl_X_22_0 0 rfl rfl d_X_define_67 ?_
        refine lv_iload_n hx hb d_X_define_70 rfl (lv_at hl 2 rfl) ?_
        refine lv_aload_n hx hb d_X_define_71 rfl (lv_at hl 1 rfl) ?_
        refine xw_get F hh.1 (v := .ref rd) fl_X_10_0 0 rfl rfl d_X_define_72 ?_
        refine xw_get F hh.1 (v := .int (xi_ ug)) fl_X_80_2 1 rfl rfl d_X_define_75 ?_
        refine xw_iastK F hh 4 (f := gsf) rfl (i := n) (x := ug) (by omega) d_X_define_78 (fun H locs hh oq => ?_)
        have hh : xw_H G (va_A [(xo, .inr (0, xo_ rd pa gs fo p1 p2 du fu pl sc ss tk)), (rd, .inr (2, [.ref ta, .int (xi_ (len : Int)), .int (xi_ at0), .int (xi_ g0)])), (ta, .inl (G.2.2 2, 40, .inl (ja_ txt))), (pa, .inl (G.2.2 4, 8, .inr (.inr (.inr (.inr paf))))), (gs, .inl (G.2.2 0, 8, .inl (ja_ gsf))), (du, .inr (5, [.ref r, .int (xi_ slot), .long (xl_ tl)])), (r, .inr (3, [.int (xi_ (100 : Int)), .ref v, .ref ra, .int (xi_ cnt), .int (xi_ tm)]))] s.heap.size) s.heap H locs [(xo, .inr (0, xo_ rd pa gs fo p1 p2 du fu 0 sc ss 0)), (rd, .inr (2, [.ref ta, .int (xi_ 0), .int (xi_ ((rd_R txt len).2 : Int)), .int (xi_ ug)])), (ta, .inl (G.2.2 2, 40, .inl (ja_ txt))), (pa, .inl (G.2.2 4, 8, .inr (.inr (.inr (.inr (va_up paf n.toNat (some b17))))))), (gs, .inl (G.2.2 0, 8, .inl (ja_ (va_up gsf n.toNat ug)))), (du, .inr (5, [.ref r, .int (xi_ slot), .long (xl_ tl)])), (r, .inr (3, [.int (xi_ (100 : Int)), .ref v, .ref ra, .int (xi_ 0), .int (xi_ 0)]))] := hh
        have hntS := nt_keep (fun q h1 _ => oq q h1.2.2.2.2.2.1) hntS
        refine lv_aload_n hx hb d_X_define_79 rfl (lv_at hl 1 rfl) ?_
        refine xw_get F hh.1 (v := .ref gs) fl_X_22_0 0 rfl rfl d_X_define_80 ?_
        refine lv_iload_n hx hb d_X_define_83 rfl (lv_at hl 2 rfl) ?_
        refine xw_iald F hh.1 4 (f := va_up gsf n.toNat ug) rfl (i := n) (by omega) d_X_define_84 ?_
        refine W.widen (k := 80) (n := 640) (by omega) (by omega) ?_
        have eDT : de_T txt len n = some T := by
          unfold de_T
          rw [if_pos hn1, eT]
          exact if_pos (by omega)
        have eG : de_gs txt len gsf n = va_up gsf n.toNat ug := by
          unfold de_gs
          rw [eDT, hgT]
        have eTr : de_Tr txt len Tr n = va_up Tr n.toNat T := by
          unfold de_Tr
          rw [eDT]
        rw [eG, eTr]
        exact xw_iret F hr hlk hh rfl ((0, 0, 0, 0, 0), ((rd_R txt len).2 : Int), ug, va_up paf n.toNat (some b17)) rfl ⟨by
          unfold de_ans
          rw [if_pos hn1, eT]
          show _ = if _ then _ else _
          rw [if_pos (by omega)]
          unfold va_up
          rw [if_pos rfl]
          exact hgT, (if_pos hn1).symm⟩ (fun j hj => by
          unfold va_up
          dsimp only
          by_cases hq : j = n.toNat
          · rw [if_pos hq, if_pos hq]
            exact ⟨b17, rfl, nt_weaken (fun q h1 _ => Or.inr h1.1) hntS⟩
          · rw [if_neg hq, if_neg hq]
            obtain ⟨b, h1, h2⟩ := hX0 j hj
            exact ⟨b, h1, nt_weaken (fun q h1 _ => Or.inl h1) (nt_now hA h2 hh)⟩) d_X_define_85
      · refine lv_bipush (v := xi_ (-3)) hx hb d_X_define_56 (by decide) ?_
        refine W.widen (k := 80) (n := 640) (by omega) (by omega) ?_
        have eDT : de_T txt len n = none := by
          unfold de_T
          rw [if_pos hn1, eT]
          exact if_neg (by omega)
        have eG : de_gs txt len gsf n = gsf := by
          unfold de_gs
          rw [eDT]
        have eTr : de_Tr txt len Tr n = Tr := by
          unfold de_Tr
          rw [eDT]
        rw [eG, eTr]
        exact xw_iret F hr hlk hh rfl ((0, 0, 0, 0, 0), ((rd_R txt len).2 : Int), ug, paf) rfl ⟨by
          unfold de_ans
          rw [if_pos hn1, eT]
          exact (if_neg (by omega)).symm, (if_pos hn1).symm⟩ (fun j hj => (hX0 j hj).elim (fun b hb => ⟨b, hb.1, nt_weaken (fun q h1 _ => Or.inl h1) (nt_now hA hb.2 hh)⟩)) d_X_define_58
  · refine lv_iconst (v := xi_ (-1)) hx hb d_X_define_7 rfl ?_
    refine W.widen (k := 80) (n := 640) (by omega) (by omega) ?_
    have hn0 : ¬ (0 ≤ n ∧ n < 8) := of_decide_eq_false (b2_e0 c4)
    have eDT : de_T txt len n = none := by
      unfold de_T
      rw [if_neg hn0]
    have eG : de_gs txt len gsf n = gsf := by
      unfold de_gs
      rw [eDT]
    have eTr : de_Tr txt len Tr n = Tr := by
      unfold de_Tr
      rw [eDT]
    rw [eG, eTr]
    exact xw_iret F hr hlk hh rfl ((pl, tk, cnt, tm, (len : Int)), at0, g0, paf) rfl ⟨by
      unfold de_ans
      rw [if_neg hn0], (if_neg hn0).symm⟩ (fun j hj => (hX0 j hj).elim (fun b hb => ⟨b, hb.1, nt_weaken (fun q h1 _ => Or.inl h1) (nt_now hA hb.2 hh)⟩)) d_X_define_8
