/-! Reader: what reading gives, in the heap -/
def p_group {d : Nat} (pr : Nat → Option (PT d) × Nat) (tx : Nat → Int) (len : Nat) (kd cl : Int) (at_ : Nat) : Option (PT (d + 1)) × Nat :=
  match p_grp pr tx len cl 9 [] (at_ + 1) with
    | (none, a) => (none, a)
    | (some cs, a) => if p_is tx len cl a = true then (some (tr_mk kd 1 (cs.length : Int) 0 cs), a + 1) else (none, a)
def p_oper {d : Nat} (pr : Nat → Option (PT d) × Nat) (tx : Nat → Int) (len : Nat) (kd : Int) (np : Nat) (at_ : Nat) : Option (PT (d + 1)) × Nat :=
  match p_digs tx len kd (at_ + 1) with
    | (none, a) => (none, a)
    | (some (k, n, r), a) => match p_kids pr np [] a with
      | (none, a) => (none, a)
      | (some cs, a) => (some (tr_mk kd k n r cs), a)
def p_leaf (d : Nat) (sg : Int) (at_ : Nat) : Option (PT (d + 1)) × Nat := if sg = 126 ∨ (97 ≤ sg ∧ sg ≤ 122) then (some (tr_mk sg 1 1 0 []), at_ + 1) else (none, at_)
theorem p_group_le {d : Nat} {pr : Nat → Option (PT d) × Nat} {tx : Nat → Int} {len : Nat} {kd cl : Int} {at_ : Nat} (hpr : ∀ a, a ≤ len → a ≤ (pr a).2 ∧ (pr a).2 ≤ len) (h : at_ < len) : at_ + 1 ≤ (p_group pr tx len kd cl at_).2 ∧ (p_group pr tx len kd cl at_).2 ≤ len := by
  unfold p_group
  have h1 := p_grp_le (tx := tx) (cl := cl) hpr 9 [] (at_ + 1) h
  rcases e1 : p_grp pr tx len cl 9 [] (at_ + 1) with ⟨_ | cs, a⟩
  · rw [e1] at h1
    exact h1
  · rw [e1] at h1
    dsimp only
    split
    · rename_i q
      have := p_is_lt q
      exact ⟨by have := h1.1; dsimp only at this ⊢; omega, this⟩
    · exact h1
theorem p_oper_le {d : Nat} {pr : Nat → Option (PT d) × Nat} {tx : Nat → Int} {len : Nat} {kd : Int} {np at_ : Nat} (hpr : ∀ a, a ≤ len → a ≤ (pr a).2 ∧ (pr a).2 ≤ len) (h : at_ < len) : at_ + 1 ≤ (p_oper pr tx len kd np at_).2 ∧ (p_oper pr tx len kd np at_).2 ≤ len := by
  unfold p_oper
  have h1 := p_digs_le (tx := tx) (kd := kd) (at_ := at_ + 1) (len := len) h
  rcases e1 : p_digs tx len kd (at_ + 1) with ⟨_ | ⟨k, n, r⟩, a⟩
  · rw [e1] at h1
    exact h1
  · rw [e1] at h1
    have h2 := p_kids_le hpr np [] a h1.2
    dsimp only
    rcases e2 : p_kids pr np [] a with ⟨_ | cs, b⟩ <;> (rw [e2] at h2; exact ⟨Nat.le_trans h1.1 h2.1, h2.2⟩)
/-- what reading from here answers; the grain is u then -/
def rp_ok {d : Nat} (R : Option (PT d) × Nat) (gr : Int) (x : Option Nat) (u : Int) : Prop := (R.1 = none → x = none) ∧ (1 ≤ u ∧ u ≤ 45360) ∧ ∀ T, R.1 = some T → u = gf_ d T gr
def rp_nt (G : GG_) (sz : Nat) {d : Nat} (R : Option (PT d) × Nat) (x : Option Nat) (H : Heap) : Prop := ∀ T, R.1 = some T → ∃ a, x = some a ∧ nt_ G (fun q => sz ≤ q) d H a T
def rm_Rd_readPattern (d c : Nat) : Room := { frames := 10 + 3 * d, cells := 2 * c, slots := 16 * c, locals := 200 + 60 * d }
def rm_Rd_readGroup (d c : Nat) : Room := { frames := 12 + 3 * d, cells := 2 * c, slots := 16 * c, locals := 225 + 60 * d }
def rm_Rd_readOperator (d c : Nat) : Room := { frames := 12 + 3 * d, cells := 2 * c, slots := 16 * c, locals := 225 + 60 * d }
def rm_Rd_readLetterOrRest (c : Nat) : Room := { frames := 5, cells := 2 * c, slots := 16 * c, locals := 100 }
theorem xw_fresh2 {G : GG_} {H0 H : Heap} {locs : List Loc} {ws : va_W} {rd ta sz : Nat} {e1 e2 f1 f2 : va_E} (hh : xw_H G (va_A [(rd, e1), (ta, e2)] sz) H0 H locs ws) (h0 : ws[0]? = some (rd, f1)) (h1 : ws[1]? = some (ta, f2)) (k : Nat) {q : Nat} {e : va_E} (hk : ws[k + 2]? = some (q, e)) : sz ≤ q := by
  rcases hh.2.1.2 _ _ hk with ⟨j, e', hj⟩ | h
  · match j, hj with
    | 0, hj =>
      have e0 : rd = q := congrArg Prod.fst (Option.some.inj hj)
      have := hh.2.1.1 0 (k + 2) _ _ h0 hk e0
      omega
    | 1, hj =>
      have e0 : ta = q := congrArg Prod.fst (Option.some.inj hj)
      have := hh.2.1.1 1 (k + 2) _ _ h1 hk e0
      omega
    | j + 2, hj => simp at hj
  · exact h
theorem not_in2 {o r sz : Nat} {e1 e2 : va_E} {q : Nat} (h1 : q ≠ o) (h2 : q ≠ r) (hl : q < sz) : ¬ va_A [(o, e1), (r, e2)] sz q := by
  intro hz
  rcases hz with ⟨k, e, hz⟩ | hz
  · match k, hz with
    | 0, hz => exact h1 (congrArg Prod.fst (Option.some.inj hz)).symm
    | 1, hz => exact h2 (congrArg Prod.fst (Option.some.inj hz)).symm
    | k + 2, hz => simp at hz
  · omega
theorem nt_mk {G : GG_} {S : Nat → Prop} {H : Heap} {d a ia room : Nat} {kd cnt k n r : Int} {hb : Bool} {f : Nat → Option Nat} {cs : List (PT d)} (ha : S a) (hia : S ia) (hP : va_P (gD G) classes [(a, .inr (1, nd_ kd ia cnt k n r (b2_ hb))), (ia, .inl (G.2.2 4, room, .inr (.inr (.inr (.inr f)))))] H) (hc : cnt = (cs.length : Int)) (hhb : hb = (is_letter kd || cs.any (can_ d))) (hro : cs.length ≤ room ∧ room ≤ 9) (hk : ∀ (i : Nat) (x : PT d), cs[i]? = some x → ∃ b, f i = some b ∧ nt_ G S d H b x) : nt_ G S (d + 1) H a (tr_mk kd k n r cs) := by
  subst hc
  subst hhb
  exact ⟨ha, ia, room, f, hia, hP, hro.1, hro.2, hk⟩
theorem nt_cell {G : GG_} {S : Nat → Prop} {H : Heap} {d b : Nat} {T : PT d} (h : nt_ G S d H b T) (hw : wf_ d T) : ∃ (kd : Int) (ia : Nat) (cnt k n r : Int) (hb : Bool), va_P (gD G) classes [(b, .inr (1, nd_ kd ia cnt k n r (b2_ hb)))] H ∧ (hb && decide (0 < k) && decide (0 < n)) = can_ d T ∧ (-1000 ≤ k ∧ k ≤ 1000 ∧ -1000 ≤ n ∧ n ≤ 1000) := by
  cases d with
  | zero => exact h.elim
  | succ d =>
    obtain ⟨h1, ia, room, f, h2, h3, -⟩ := h
    have hr := wf_rng hw.1
    exact ⟨_, _, _, _, _, _, _, h3.sub [0] rfl, rfl, by omega⟩
def kd_ (G : GG_) (S : Nat → Prop) (d : Nat) (H : Heap) (f : Nat → Option Nat) (acc : List (PT d)) : Prop := ∀ (i : Nat) (x : PT d), acc[i]? = some x → ∃ b, f i = some b ∧ nt_ G S d H b x
theorem kd_nil {G : GG_} {S : Nat → Prop} {d : Nat} {H : Heap} {f : Nat → Option Nat} : kd_ G S d H f [] := fun i x h => by simp at h
theorem kd_keep {G : GG_} {S : Nat → Prop} {H H1 : Heap} (hk : ∀ q : Nat, S q → q < H.size → H1[q]? = H[q]?) {d : Nat} {f : Nat → Option Nat} {acc : List (PT d)} (h : kd_ G S d H f acc) : kd_ G S d H1 f acc := fun i x hx => by
  obtain ⟨b, h1, h2⟩ := h i x hx
  exact ⟨b, h1, nt_keep hk h2⟩
theorem kd_snoc {G : GG_} {S : Nat → Prop} {H : Heap} {d : Nat} {f : Nat → Option Nat} {acc : List (PT d)} {t : PT d} {b : Nat} (h : kd_ G S d H f acc) (hb : nt_ G S d H b t) : kd_ G S d H (va_up f acc.length (some b)) (acc ++ [t]) := fun i x hx => by
  by_cases hi : i < acc.length
  · rw [List.getElem?_append_left hi] at hx
    obtain ⟨c, h1, h2⟩ := h i x hx
    refine ⟨c, ?_, h2⟩
    unfold va_up
    rw [if_neg (by omega)]
    exact h1
  · rw [List.getElem?_append_right (by omega)] at hx
    have he : i = acc.length := by
      obtain ⟨h1, -⟩ := List.getElem?_eq_some_iff.mp hx
      simp at h1
      omega
    subst he
    rw [Nat.sub_self] at hx
    cases hx
    refine ⟨b, ?_, hb⟩
    unfold va_up
    rw [if_pos rfl]
theorem any_snoc {d : Nat} {acc : List (PT d)} {t : PT d} {kd : Int} : ((is_letter kd || acc.any (can_ d)) || can_ d t) = (is_letter kd || (acc ++ [t]).any (can_ d)) := by
  rw [List.any_append, Bool.or_assoc]
  simp
theorem fold_snoc {d : Nat} {acc : List (PT d)} {t : PT d} {g : Int} : (acc ++ [t]).foldl (fun g c => gf_ d c g) g = gf_ d t (acc.foldl (fun g c => gf_ d c g) g) := by
  rw [List.foldl_append]
  rfl
/-- readPattern's contract at a depth -/
def cwp_ (l : Launch) (G : GG_) (d : Nat) : Prop := ∀ (sz : Nat) (rd ta : Nat) (txt : Nat → Int) (len at_ : Nat) (gr : Int), (len ≤ 40 ∧ at_ ≤ len) → (∀ j : Nat, 0 ≤ txt j ∧ txt j ≤ 65535) → (1 ≤ gr ∧ gr ≤ 45360) → d ≤ 40 →
  Met l y_Rd_readPattern (cw_ y_Rd_readPattern b_Rd_readPattern 3 (some (.object "CyclePatterns$Node"))) (rm_Rd_readPattern d ((prs_ txt len d at_).2 - at_)) (xw_P G [.ref rd, .int (xi_ (41 - (d : Int)))] sz [(rd, .inr (2, [.ref ta, .int (xi_ (len : Int)), .int (xi_ (at_ : Int)), .int (xi_ gr)])), (ta, .inl (G.2.2 2, 40, .inl (ja_ txt)))] (fun _ => True)) (xw_Qa (S := Int) G sz [(rd, .inr (2, [.ref ta, .int (xi_ (len : Int)), .int (xi_ (at_ : Int)), .int (xi_ gr)])), (ta, .inl (G.2.2 2, 40, .inl (ja_ txt)))] (fun x u => rp_ok (prs_ txt len d at_) gr x u) (fun u => [(rd, .inr (2, [.ref ta, .int (xi_ (len : Int)), .int (xi_ ((prs_ txt len d at_).2 : Int)), .int (xi_ u)])), (ta, .inl (G.2.2 2, 40, .inl (ja_ txt)))]) (fun x _ H => rp_nt G sz (prs_ txt len d at_) x H)) (2 * ((prs_ txt len d at_).2 - at_)) (16 * ((prs_ txt len d at_).2 - at_)) (va_A [(rd, .inr (2, [.ref ta, .int (xi_ (len : Int)), .int (xi_ (at_ : Int)), .int (xi_ gr)])), (ta, .inl (G.2.2 2, 40, .inl (ja_ txt)))] sz)
set_option maxHeartbeats 4000000 in
set_option maxRecDepth 100000 in
theorem c_Rd_readLetterOrRest (l : Launch) (G : GG_) (sz : Nat) (rd ta : Nat) (txt : Nat → Int) (len at_ : Nat) (gr : Int) (d : Nat) (sg : Int) (hsg : 0 ≤ sg ∧ sg ≤ 65535) (hlen : len ≤ 40 ∧ at_ < len) (htx : ∀ j : Nat, 0 ≤ txt j ∧ txt j ≤ 65535) (hgr : 1 ≤ gr ∧ gr ≤ 45360) : Met l y_Rd_readLetterOrRest (cw_ y_Rd_readLetterOrRest b_Rd_readLetterOrRest 2 (some (.object "CyclePatterns$Node"))) (rm_Rd_readLetterOrRest ((p_leaf d sg at_).2 - at_)) (xw_P G [.ref rd, .int (xi_ sg)] sz [(rd, .inr (2, [.ref ta, .int (xi_ (len : Int)), .int (xi_ (at_ : Int)), .int (xi_ gr)])), (ta, .inl (G.2.2 2, 40, .inl (ja_ txt)))] (fun _ => True)) (xw_Qa (S := Int) G sz [(rd, .inr (2, [.ref ta, .int (xi_ (len : Int)), .int (xi_ (at_ : Int)), .int (xi_ gr)])), (ta, .inl (G.2.2 2, 40, .inl (ja_ txt)))] (fun x u => rp_ok (p_leaf d sg at_) gr x u) (fun u => [(rd, .inr (2, [.ref ta, .int (xi_ (len : Int)), .int (xi_ ((p_leaf d sg at_).2 : Int)), .int (xi_ u)])), (ta, .inl (G.2.2 2, 40, .inl (ja_ txt)))]) (fun x _ H => rp_nt G sz (p_leaf d sg at_) x H)) (2 * ((p_leaf d sg at_).2 - at_)) (16 * ((p_leaf d sg at_).2 - at_)) (va_A [(rd, .inr (2, [.ref ta, .int (xi_ (len : Int)), .int (xi_ (at_ : Int)), .int (xi_ gr)])), (ta, .inl (G.2.2 2, 40, .inl (ja_ txt)))] sz) := by
  refine xw_met (by decide) (Nat.le_of_ble_eq_true rfl) ?_
  intro p0 e0 s m0 args below meth c0 F hr hlk hin hsz hh hX ls hl
  subst hsz
  have hx := F.1
  have hb := F.2.1
  have hl : lv_has ls 2 [(0, .ref rd), (1, .int (xi_ sg))] := hl
  refine lv_iload_n hx hb d_Rd_readLetterOrRest_0 rfl (lv_at hl 1 rfl) ?_
  refine lv_bipush (v := xi_ 126) hx hb d_Rd_readLetterOrRest_1 (by decide) ?_
  refine xw_icmp_eq hx hb 15 d_Rd_readLetterOrRest_3 (by decide) (by omega) (fun c3 => ?_) (fun c3 => ?_)
  · have eR : p_leaf d sg at_ = (some (tr_mk sg 1 1 0 []), at_ + 1) := by
      unfold p_leaf
      refine if_pos ?_
      first
      | exact Or.inl c3
      | exact Or.inr (of_decide_eq_true (b2_ne c10))
    rw [eR]
    have hc1 : 1 ≤ (at_ + 1) - at_ := by omega
    skip
    refine lv_aload_n hx hb d_Rd_readLetterOrRest_15 rfl (lv_at hl 0 rfl) ?_
    refine lv_dup hx hb d_Rd_readLetterOrRest_16 rfl ?_
    refine xw_get F hh.1 (v := .int (xi_ (at_ : Int))) fl_Rd_25_2 0 rfl rfl d_Rd_readLetterOrRest_17 ?_
    refine lv_iconst (v := xi_ 1) hx hb d_Rd_readLetterOrRest_20 rfl ?_
    refine xw_iadd hx hb d_Rd_readLetterOrRest_21 ?_
    refine xw_put F hh fp_Rd_25_2 0 rfl rfl rfl (Nat.le_of_ble_eq_true rfl) d_Rd_readLetterOrRest_22 (fun H locs hh => ?_)
    have hh : xw_H G (va_A [(rd, .inr (2, [.ref ta, .int (xi_ (len : Int)), .int (xi_ (at_ : Int)), .int (xi_ gr)])), (ta, .inl (G.2.2 2, 40, .inl (ja_ txt)))] s.heap.size) s.heap H locs [(rd, .inr (2, [.ref ta, .int (xi_ (len : Int)), .int (xi_ ((at_ : Int) + 1)), .int (xi_ gr)])), (ta, .inl (G.2.2 2, 40, .inl (ja_ txt)))] := hh
    refine xw_new F hh mk_Rd_48 (by unfold rm_Rd_readLetterOrRest; (try dsimp only); omega) (by unfold rm_Rd_readLetterOrRest; (try dsimp only); omega) d_Rd_readLetterOrRest_25 (fun q25 H hh => ?_)
    have hh : xw_H G (va_A [(rd, .inr (2, [.ref ta, .int (xi_ (len : Int)), .int (xi_ (at_ : Int)), .int (xi_ gr)])), (ta, .inl (G.2.2 2, 40, .inl (ja_ txt)))] s.heap.size) s.heap H locs [(rd, .inr (2, [.ref ta, .int (xi_ (len : Int)), .int (xi_ ((at_ : Int) + 1)), .int (xi_ gr)])), (ta, .inl (G.2.2 2, 40, .inl (ja_ txt))), (q25, .inr (1, [.int (xi_ 0), .null, .int (xi_ 0), .int (xi_ 0), .int (xi_ 0), .int (xi_ 0), .int (xi_ 0)]))] := hh
    refine lv_dup hx hb d_Rd_readLetterOrRest_28 rfl ?_
    refine lv_iload_n hx hb d_Rd_readLetterOrRest_29 rfl (lv_at hl 1 rfl) ?_
    refine lv_iconst (v := xi_ 0) hx hb d_Rd_readLetterOrRest_30 rfl ?_
    refine xw_cv (wc := [(q25, .inr (1, [.int (xi_ 0), .null, .int (xi_ 0), .int (xi_ 0), .int (xi_ 0), .int (xi_ 0), .int (xi_ 0)]))]) (wr := [(rd, .inr (2, [.ref ta, .int (xi_ (len : Int)), .int (xi_ ((at_ : Int) + 1)), .int (xi_ gr)])), (ta, .inl (G.2.2 2, 40, .inl (ja_ txt)))]) hh [2] [0, 1] rfl rfl rfl (by decide) (xw_rI F hh [2] rfl rfl (c_N_init l G H.size q25 sg 0 hsg (by omega)) trivial lk_Rd_53 cd_N_init ⟨is_N_init, rfl⟩ rfl rfl ⟨by unfold rm_N_init rm_Rd_readLetterOrRest; (try dsimp only); omega, by unfold rm_N_init rm_Rd_readLetterOrRest; (try dsimp only); omega⟩ rfl hl.1 rfl (Nat.le_of_ble_eq_true rfl) d_Rd_readLetterOrRest_31 ⟨by unfold rm_Rd_readLetterOrRest; (try dsimp only); omega, by unfold rm_Rd_readLetterOrRest; (try dsimp only); omega⟩) (fun ia H locs hp31 hX hz hk hh => ?_)
    have hh : xw_H G (va_A [(rd, .inr (2, [.ref ta, .int (xi_ (len : Int)), .int (xi_ (at_ : Int)), .int (xi_ gr)])), (ta, .inl (G.2.2 2, 40, .inl (ja_ txt)))] s.heap.size) s.heap H locs [(rd, .inr (2, [.ref ta, .int (xi_ (len : Int)), .int (xi_ ((at_ : Int) + 1)), .int (xi_ gr)])), (ta, .inl (G.2.2 2, 40, .inl (ja_ txt))), (q25, .inr (1, nd_ sg ia 0 1 1 0 (b2_ (is_letter sg)))), (ia, .inl (G.2.2 4, 0, .inr (.inr (.inr (.inr (fun _ => none))))))] := hh
    have hf1 := xw_fresh2 hh rfl rfl 0 rfl
    have hf2 := xw_fresh2 hh rfl rfl 1 rfl
    have hnt : nt_ G (fun q => s.heap.size ≤ q) (d + 1) H q25 (tr_mk sg 1 1 0 []) := nt_mk hf1 hf2 (hh.1.sub [2, 3] rfl) rfl (by simp) (by simp) kd_nil
    have hh2 : xw_H G (va_A [(rd, .inr (2, [.ref ta, .int (xi_ (len : Int)), .int (xi_ (at_ : Int)), .int (xi_ gr)])), (ta, .inl (G.2.2 2, 40, .inl (ja_ txt)))] s.heap.size) s.heap H locs [(rd, .inr (2, [.ref ta, .int (xi_ (len : Int)), .int (xi_ ((at_ + 1 : Nat) : Int)), .int (xi_ gr)])), (ta, .inl (G.2.2 2, 40, .inl (ja_ txt)))] := xw_H.sub hh [0, 1] rfl rfl
    refine W.widen (k := 2 * (at_ + 1 - at_)) (n := 16 * (at_ + 1 - at_)) (by omega) (by omega) ?_
    have hsgk : sg = 126 ∨ (97 ≤ sg ∧ sg ≤ 122) := by first | exact Or.inl c3 | exact Or.inr (of_decide_eq_true (b2_ne c10))
    have hgf : gr = gf_ (d + 1) (tr_mk sg 1 1 0 [] : PT (d + 1)) gr := by
      rw [gf_s, tr_mk_kd, tr_mk_cs, if_neg (by omega)]
      unfold gn_1
      rw [tr_mk_kd, if_neg (by omega), if_neg (by omega), if_neg (by omega), gc_1]
      rfl
    exact xw_aret F hr hlk hh2 (x := some q25) rfl gr rfl ⟨fun h => (by cases h), hgr, fun T h => (by cases h; exact hgf)⟩ (fun T h => (by cases h; exact ⟨q25, rfl, hnt⟩)) d_Rd_readLetterOrRest_34
  · refine lv_iload_n hx hb d_Rd_readLetterOrRest_6 rfl (lv_at hl 1 rfl) ?_
    refine xw_cip hh (xw_rSp F (c_N_isLetter l G s.heap.size sg hsg) lk_Rd_47 cd_N_isLetter ss_N_isLetter rfl rfl ⟨by unfold rm_N_isLetter rm_Rd_readLetterOrRest; (try dsimp only); omega, by unfold rm_N_isLetter rm_Rd_readLetterOrRest; (try dsimp only); omega⟩ rfl hl.1 rfl (Nat.le_of_ble_eq_true rfl) d_Rd_readLetterOrRest_7 ⟨by unfold rm_Rd_readLetterOrRest; (try dsimp only); omega, by unfold rm_Rd_readLetterOrRest; (try dsimp only); omega⟩) (fun z7 u H locs hp7 hz hk hh => ?_)
    obtain rfl : z7 = b2_ (is_letter sg) := hp7
    have hle := b2_01 (is_letter sg)
    refine xw_if_ne hx hb 15 d_Rd_readLetterOrRest_10 (by decide) (by omega) (fun c10 => ?_) (fun c10 => ?_)
    · have eR : p_leaf d sg at_ = (some (tr_mk sg 1 1 0 []), at_ + 1) := by
        unfold p_leaf
        refine if_pos ?_
        first
        | exact Or.inl c3
        | exact Or.inr (of_decide_eq_true (b2_ne c10))
      rw [eR]
      have hc1 : 1 ≤ (at_ + 1) - at_ := by omega
      skip
      refine lv_aload_n hx hb d_Rd_readLetterOrRest_15 rfl (lv_at hl 0 rfl) ?_
      refine lv_dup hx hb d_Rd_readLetterOrRest_16 rfl ?_
      refine xw_get F hh.1 (v := .int (xi_ (at_ : Int))) fl_Rd_25_2 0 rfl rfl d_Rd_readLetterOrRest_17 ?_
      refine lv_iconst (v := xi_ 1) hx hb d_Rd_readLetterOrRest_20 rfl ?_
      refine xw_iadd hx hb d_Rd_readLetterOrRest_21 ?_
      refine xw_put F hh fp_Rd_25_2 0 rfl rfl rfl (Nat.le_of_ble_eq_true rfl) d_Rd_readLetterOrRest_22 (fun H locs hh => ?_)
      have hh : xw_H G (va_A [(rd, .inr (2, [.ref ta, .int (xi_ (len : Int)), .int (xi_ (at_ : Int)), .int (xi_ gr)])), (ta, .inl (G.2.2 2, 40, .inl (ja_ txt)))] s.heap.size) s.heap H locs [(rd, .inr (2, [.ref ta, .int (xi_ (len : Int)), .int (xi_ ((at_ : Int) + 1)), .int (xi_ gr)])), (ta, .inl (G.2.2 2, 40, .inl (ja_ txt)))] := hh
      refine xw_new F hh mk_Rd_48 (by unfold rm_Rd_readLetterOrRest; (try dsimp only); omega) (by unfold rm_Rd_readLetterOrRest; (try dsimp only); omega) d_Rd_readLetterOrRest_25 (fun q25 H hh => ?_)
      have hh : xw_H G (va_A [(rd, .inr (2, [.ref ta, .int (xi_ (len : Int)), .int (xi_ (at_ : Int)), .int (xi_ gr)])), (ta, .inl (G.2.2 2, 40, .inl (ja_ txt)))] s.heap.size) s.heap H locs [(rd, .inr (2, [.ref ta, .int (xi_ (len : Int)), .int (xi_ ((at_ : Int) + 1)), .int (xi_ gr)])), (ta, .inl (G.2.2 2, 40, .inl (ja_ txt))), (q25, .inr (1, [.int (xi_ 0), .null, .int (xi_ 0), .int (xi_ 0), .int (xi_ 0), .int (xi_ 0), .int (xi_ 0)]))] := hh
      refine lv_dup hx hb d_Rd_readLetterOrRest_28 rfl ?_
      refine lv_iload_n hx hb d_Rd_readLetterOrRest_29 rfl (lv_at hl 1 rfl) ?_
      refine lv_iconst (v := xi_ 0) hx hb d_Rd_readLetterOrRest_30 rfl ?_
      refine xw_cv (wc := [(q25, .inr (1, [.int (xi_ 0), .null, .int (xi_ 0), .int (xi_ 0), .int (xi_ 0), .int (xi_ 0), .int (xi_ 0)]))]) (wr := [(rd, .inr (2, [.ref ta, .int (xi_ (len : Int)), .int (xi_ ((at_ : Int) + 1)), .int (xi_ gr)])), (ta, .inl (G.2.2 2, 40, .inl (ja_ txt)))]) hh [2] [0, 1] rfl rfl rfl (by decide) (xw_rI F hh [2] rfl rfl (c_N_init l G H.size q25 sg 0 hsg (by omega)) trivial lk_Rd_53 cd_N_init ⟨is_N_init, rfl⟩ rfl rfl ⟨by unfold rm_N_init rm_Rd_readLetterOrRest; (try dsimp only); omega, by unfold rm_N_init rm_Rd_readLetterOrRest; (try dsimp only); omega⟩ rfl hl.1 rfl (Nat.le_of_ble_eq_true rfl) d_Rd_readLetterOrRest_31 ⟨by unfold rm_Rd_readLetterOrRest; (try dsimp only); omega, by unfold rm_Rd_readLetterOrRest; (try dsimp only); omega⟩) (fun ia H locs hp31 hX hz hk hh => ?_)
      have hh : xw_H G (va_A [(rd, .inr (2, [.ref ta, .int (xi_ (len : Int)), .int (xi_ (at_ : Int)), .int (xi_ gr)])), (ta, .inl (G.2.2 2, 40, .inl (ja_ txt)))] s.heap.size) s.heap H locs [(rd, .inr (2, [.ref ta, .int (xi_ (len : Int)), .int (xi_ ((at_ : Int) + 1)), .int (xi_ gr)])), (ta, .inl (G.2.2 2, 40, .inl (ja_ txt))), (q25, .inr (1, nd_ sg ia 0 1 1 0 (b2_ (is_letter sg)))), (ia, .inl (G.2.2 4, 0, .inr (.inr (.inr (.inr (fun _ => none))))))] := hh
      have hf1 := xw_fresh2 hh rfl rfl 0 rfl
      have hf2 := xw_fresh2 hh rfl rfl 1 rfl
      have hnt : nt_ G (fun q => s.heap.size ≤ q) (d + 1) H q25 (tr_mk sg 1 1 0 []) := nt_mk hf1 hf2 (hh.1.sub [2, 3] rfl) rfl (by simp) (by simp) kd_nil
      have hh2 : xw_H G (va_A [(rd, .inr (2, [.ref ta, .int (xi_ (len : Int)), .int (xi_ (at_ : Int)), .int (xi_ gr)])), (ta, .inl (G.2.2 2, 40, .inl (ja_ txt)))] s.heap.size) s.heap H locs [(rd, .inr (2, [.ref ta, .int (xi_ (len : Int)), .int (xi_ ((at_ + 1 : Nat) : Int)), .int (xi_ gr)])), (ta, .inl (G.2.2 2, 40, .inl (ja_ txt)))] := xw_H.sub hh [0, 1] rfl rfl
      refine W.widen (k := 2 * (at_ + 1 - at_)) (n := 16 * (at_ + 1 - at_)) (by omega) (by omega) ?_
      have hsgk : sg = 126 ∨ (97 ≤ sg ∧ sg ≤ 122) := by first | exact Or.inl c3 | exact Or.inr (of_decide_eq_true (b2_ne c10))
      have hgf : gr = gf_ (d + 1) (tr_mk sg 1 1 0 [] : PT (d + 1)) gr := by
        rw [gf_s, tr_mk_kd, tr_mk_cs, if_neg (by omega)]
        unfold gn_1
        rw [tr_mk_kd, if_neg (by omega), if_neg (by omega), if_neg (by omega), gc_1]
        rfl
      exact xw_aret F hr hlk hh2 (x := some q25) rfl gr rfl ⟨fun h => (by cases h), hgr, fun T h => (by cases h; exact hgf)⟩ (fun T h => (by cases h; exact ⟨q25, rfl, hnt⟩)) d_Rd_readLetterOrRest_34
    · refine lv_null hx hb d_Rd_readLetterOrRest_13 ?_
      have eR : p_leaf d sg at_ = (none, at_) := by
        unfold p_leaf
        refine if_neg (fun q => ?_)
        rcases q with q | q
        · exact c3 q
        · have : is_letter sg = true := decide_eq_true q
          rw [this] at c10
          exact absurd c10 (by decide)
      rw [eR]
      refine W.widen (k := 2 * (at_ - at_)) (n := 16 * (at_ - at_)) (by omega) (by omega) ?_
      exact xw_aret F hr hlk hh (x := none) rfl gr rfl ⟨fun _ => rfl, hgr, fun T h => (by cases h)⟩ (fun T h => (by cases h)) d_Rd_readLetterOrRest_14
