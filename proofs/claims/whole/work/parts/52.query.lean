/-! CyclePatterns.query -/
theorem not_inL {ws : va_W} {sz q : Nat} {as : List Nat} (e : ws.map Prod.fst = as) (h : q ∉ as) (hl : q < sz) : ¬ va_A ws sz q := by
  intro hz
  rcases hz with ⟨k, x, hz⟩ | hz
  · apply h
    rw [← e]
    exact List.mem_map.mpr ⟨_, List.mem_of_getElem? hz, rfl⟩
  · omega
/-- the eight patterns: read ones, with their grains -/
def sp_ok (gsf : Nat → Int) (Tr : Nat → PT 40) : Prop := ∀ j : Nat, j < 8 → wf_ 40 (Tr j) ∧ gsf j = gn_ 40 (Tr j) ∧ 1 ≤ gsf j ∧ gsf j ≤ 5040
/-- they are in the heap -/
def sh_ok (G : GG_) (S : Nat → Prop) (paf : Nat → Option Nat) (Tr : Nat → PT 40) (H : Heap) : Prop := ∀ j : Nat, j < 8 → ∃ b, paf j = some b ∧ nt_ G S 40 H b (Tr j)
theorem sh_keep {G : GG_} {S : Nat → Prop} {paf : Nat → Option Nat} {Tr : Nat → PT 40} {H H1 : Heap} (hk : ∀ q : Nat, S q → q < H.size → H1[q]? = H[q]?) (h : sh_ok G S paf Tr H) : sh_ok G S paf Tr H1 := fun j hj => by
  obtain ⟨b, h1, h2⟩ := h j hj
  exact ⟨b, h1, nt_keep hk h2⟩
theorem wok_top {gsf : Nat → Int} {Tr : Nat → PT 40} (h : sp_ok gsf Tr) {j : Nat} (hj : j < 8) {m f t : Int} (hm : 1 ≤ m ∧ m ≤ 20000) (hf : -1099511627776 ≤ f) (ht : t ≤ 1099511627776) : wok_ 40 (Tr j) (gsf j * m) 0 f t := by
  obtain ⟨h1, h2, h3, h4⟩ := h j hj
  have h5 : 0 ≤ gsf j * m := Int.mul_nonneg (by omega) (by omega)
  have h6 : gsf j * m ≤ 5040 * 20000 := Int.mul_le_mul (by omega) (by omega) (by omega) (by omega)
  refine ⟨h1, fun q => ?_, ⟨m, by rw [h2]⟩, ⟨?_, ?_⟩, ⟨hf, ht⟩, by omega, by omega⟩
  · have : 1 * 1 ≤ gsf j * m := Int.mul_le_mul (by omega) (by omega) (by omega) (by omega)
    omega
  · rw [← h2]
    have : 0 ≤ gsf j * m * gsf j := Int.mul_nonneg h5 (by omega)
    omega
  · rw [← h2]
    have : gsf j * m * gsf j ≤ (5040 * 20000) * 5040 := Int.mul_le_mul h6 h4 (by omega) (by omega)
    omega
abbrev q_good (n a b d : Int) : Prop := (0 ≤ n ∧ n < 8) ∧ (1 ≤ d ∧ d ≤ 50) ∧ (-(1000 * d) ≤ a ∧ b ≤ 1000 * d ∧ a < b ∧ b - a ≤ 16 * d)
def q_run (gsf : Nat → Int) (Tr : Nat → PT 40) (n a b d : Int) : List Row_ × Bool := run_ 200 sk_pa (gen_ 40 (Tr n.toNat) (gsf n.toNat * d) 0 (a * gsf n.toNat) (b * gsf n.toNat)) ([], false)
/-- what query answers: the answer, the unit, the rows -/
def q_ans (gsf : Nat → Int) (Tr : Nat → PT 40) (fu : Int) (st : List Row_ × Bool) (n a b d : Int) : Int × Int × (List Row_ × Bool) :=
  if q_good n a b d then (if (q_run gsf Tr n a b d).2 = true then (-2, gsf n.toNat * d, ([], false)) else (((q_run gsf Tr n a b d).1.length : Int), gsf n.toNat * d, q_run gsf Tr n a b d)) else (-1, fu, st)
def rm_X_query : Room := { frames := 212, cells := 0, slots := 0, locals := 8427 }
theorem ab_prod {x g B C : Int} (hx : -B ≤ x ∧ x ≤ B) (hg : 0 ≤ g ∧ g ≤ C) : -(B * C) ≤ x * g ∧ x * g ≤ B * C := by
  have hB : 0 ≤ B := by omega
  have h1 : B * g ≤ B * C := Int.mul_le_mul_of_nonneg_left hg.2 hB
  have h2 : x * g ≤ B * g := Int.mul_le_mul_of_nonneg_right hx.2 hg.1
  have h3 : -B * g ≤ x * g := Int.mul_le_mul_of_nonneg_right hx.1 hg.1
  rw [Int.neg_mul] at h3
  omega
set_option maxHeartbeats 4000000 in
set_option maxRecDepth 100000 in
theorem c_X_query (l : Launch) (G : GG_) (sz : Nat) (xo rd pa gs fo p1 p2 du : Nat) (fu pl sc ss tk : Int) (r v ra : Nat) (cnt tm : Int) (vals rat : Nat → Int) (st : List Row_ × Bool) (paf : Nat → Option Nat) (gsf : Nat → Int) (Tr : Nat → PT 40) (hsp : sp_ok gsf Tr) (Sd : Nat → Prop) (hSd : ∀ q : Nat, Sd q → q ∉ [xo, pa, gs, fo, r, v, ra]) (n a b d : Int) (hn : (-2147483648 ≤ n ∧ n ≤ 2147483647) ∧ (-2147483648 ≤ a ∧ a ≤ 2147483647) ∧ (-2147483648 ≤ b ∧ b ≤ 2147483647) ∧ (-2147483648 ≤ d ∧ d ≤ 2147483647)) (hrr : rr_ 200 cnt tm vals rat st) : Met l y_X_query (cw_ y_X_query b_X_query 7 (some .int)) rm_X_query (xw_P G [.ref xo, .int (xi_ n), .int (xi_ a), .int (xi_ b), .int (xi_ d)] sz [(xo, .inr (0, xo_ rd pa gs fo p1 p2 du fu pl sc ss tk)), (pa, .inl (G.2.2 4, 8, .inr (.inr (.inr (.inr paf))))), (gs, .inl (G.2.2 0, 8, .inl (ja_ gsf))), (fo, .inr (4, [.ref r])), (r, .inr (3, [.int (xi_ (200 : Int)), .ref v, .ref ra, .int (xi_ cnt), .int (xi_ tm)])), (v, .inl (G.2.2 1, (200 * 5), .inr (.inl (jl_ vals)))), (ra, .inl (G.2.2 0, 200, .inl (ja_ rat)))] (sh_ok G Sd paf Tr)) (xw_Qi (S := Int × Int × Int × (Nat → Int) × (Nat → Int)) G sz [(xo, .inr (0, xo_ rd pa gs fo p1 p2 du fu pl sc ss tk)), (pa, .inl (G.2.2 4, 8, .inr (.inr (.inr (.inr paf))))), (gs, .inl (G.2.2 0, 8, .inl (ja_ gsf))), (fo, .inr (4, [.ref r])), (r, .inr (3, [.int (xi_ (200 : Int)), .ref v, .ref ra, .int (xi_ cnt), .int (xi_ tm)])), (v, .inl (G.2.2 1, (200 * 5), .inr (.inl (jl_ vals)))), (ra, .inl (G.2.2 0, 200, .inl (ja_ rat)))] (fun z u => ∃ st2, (z, u.1, st2) = q_ans gsf Tr fu st n a b d ∧ rr_ 200 u.2.1 u.2.2.1 u.2.2.2.1 u.2.2.2.2 st2) (fun u => [(xo, .inr (0, xo_ rd pa gs fo p1 p2 du u.1 pl sc ss tk)), (pa, .inl (G.2.2 4, 8, .inr (.inr (.inr (.inr paf))))), (gs, .inl (G.2.2 0, 8, .inl (ja_ gsf))), (fo, .inr (4, [.ref r])), (r, .inr (3, [.int (xi_ (200 : Int)), .ref v, .ref ra, .int (xi_ u.2.1), .int (xi_ u.2.2.1)])), (v, .inl (G.2.2 1, (200 * 5), .inr (.inl (jl_ u.2.2.2.1)))), (ra, .inl (G.2.2 0, 200, .inl (ja_ u.2.2.2.2)))]) (fun _ _ => True)) 0 0 (va_A [(xo, .inr (0, xo_ rd pa gs fo p1 p2 du fu pl sc ss tk)), (pa, .inl (G.2.2 4, 8, .inr (.inr (.inr (.inr paf))))), (gs, .inl (G.2.2 0, 8, .inl (ja_ gsf))), (fo, .inr (4, [.ref r])), (r, .inr (3, [.int (xi_ (200 : Int)), .ref v, .ref ra, .int (xi_ cnt), .int (xi_ tm)])), (v, .inl (G.2.2 1, (200 * 5), .inr (.inl (jl_ vals)))), (ra, .inl (G.2.2 0, 200, .inl (ja_ rat)))] sz) := by
  refine xw_met (by decide) (Nat.le_of_ble_eq_true rfl) ?_
  intro p0 e0 s m0 args below meth c0 F hr hlk hin hsz hh hX ls hl
  subst hsz
  have hx := F.1
  have hb := F.2.1
  have hl : lv_has ls 7 [(0, .ref xo), (1, .int (xi_ n)), (2, .int (xi_ a)), (3, .int (xi_ b)), (4, .int (xi_ d))] := hl
  have hX0 := hX
  have hA : ∀ q : Nat, Sd q → q < s.heap.size → ¬ va_A [(xo, .inr (0, xo_ rd pa gs fo p1 p2 du fu pl sc ss tk)), (pa, .inl (G.2.2 4, 8, .inr (.inr (.inr (.inr paf))))), (gs, .inl (G.2.2 0, 8, .inl (ja_ gsf))), (fo, .inr (4, [.ref r])), (r, .inr (3, [.int (xi_ (200 : Int)), .ref v, .ref ra, .int (xi_ cnt), .int (xi_ tm)])), (v, .inl (G.2.2 1, (200 * 5), .inr (.inl (jl_ vals)))), (ra, .inl (G.2.2 0, 200, .inl (ja_ rat)))] s.heap.size q := fun q hq hl => not_inL (as := [xo, pa, gs, fo, r, v, ra]) rfl (hSd q hq) hl
  refine lv_iload_n hx hb d_X_query_0 rfl (lv_at hl 1 rfl) ?_
  refine xw_cip hh (xw_rSp F (c_X_isSlot l G s.heap.size n (by omega)) lk_X_63 cd_X_isSlot ss_X_isSlot rfl rfl ⟨by decide, by decide⟩ rfl hl.1 rfl (Nat.le_of_ble_eq_true rfl) d_X_query_1 ⟨Nat.le_of_ble_eq_true rfl, Nat.le_of_ble_eq_true rfl⟩) (fun z1 u H locs hp1 hz hk hh => ?_)
  obtain rfl : z1 = b2_ (decide (0 ≤ n ∧ n < 8)) := hp1
  have hsb1 := b2_01 (decide (0 ≤ n ∧ n < 8))
  refine xw_if_eq hx hb 30 d_X_query_4 (by decide) (by omega) (fun c4 => ?_) (fun c4 => ?_)
  · refine lv_iconst (v := xi_ (-1)) hx hb d_X_query_30 rfl ?_
    exact xw_iret F hr hlk hh rfl (fu, cnt, tm, vals, rat) rfl ⟨st, by
      unfold q_ans
      rw [if_neg (fun q => by
        first
        | omega
        | exact absurd q.1 (of_decide_eq_false (b2_e0 c4))
        | exact absurd q.2.1.1 (by omega)
        | exact absurd q.2.1.2 (by omega)
        | exact absurd q.2.2 (of_decide_eq_false (b2_e0 c27)))], hrr⟩ trivial d_X_query_31
  · refine lv_iload hx hb d_X_query_7 (lv_at hl 4 rfl) ?_
    refine lv_iconst (v := xi_ 1) hx hb d_X_query_9 rfl ?_
    refine xw_icmp_lt hx hb 30 d_X_query_10 (by decide) (by omega) (fun c10 => ?_) (fun c10 => ?_)
    · refine lv_iconst (v := xi_ (-1)) hx hb d_X_query_30 rfl ?_
      exact xw_iret F hr hlk hh rfl (fu, cnt, tm, vals, rat) rfl ⟨st, by
        unfold q_ans
        rw [if_neg (fun q => by
          first
          | omega
          | exact absurd q.1 (of_decide_eq_false (b2_e0 c4))
          | exact absurd q.2.1.1 (by omega)
          | exact absurd q.2.1.2 (by omega)
          | exact absurd q.2.2 (of_decide_eq_false (b2_e0 c27)))], hrr⟩ trivial d_X_query_31
    · refine lv_iload hx hb d_X_query_13 (lv_at hl 4 rfl) ?_
      refine lv_bipush (v := xi_ 50) hx hb d_X_query_15 (by decide) ?_
      refine xw_icmp_gt hx hb 30 d_X_query_17 (by decide) (by omega) (fun c17 => ?_) (fun c17 => ?_)
      · refine lv_iconst (v := xi_ (-1)) hx hb d_X_query_30 rfl ?_
        exact xw_iret F hr hlk hh rfl (fu, cnt, tm, vals, rat) rfl ⟨st, by
          unfold q_ans
          rw [if_neg (fun q => by
            first
            | omega
            | exact absurd q.1 (of_decide_eq_false (b2_e0 c4))
            | exact absurd q.2.1.1 (by omega)
            | exact absurd q.2.1.2 (by omega)
            | exact absurd q.2.2 (of_decide_eq_false (b2_e0 c27)))], hrr⟩ trivial d_X_query_31
      · refine lv_iload_n hx hb d_X_query_20 rfl (lv_at hl 2 rfl) ?_
        refine lv_iload_n hx hb d_X_query_21 rfl (lv_at hl 3 rfl) ?_
        refine lv_iload hx hb d_X_query_22 (lv_at hl 4 rfl) ?_
        refine xw_cip hh (xw_rSp F (c_X_isSpan l G H.size a b d (by omega) (by omega)) lk_X_83 cd_X_isSpan ss_X_isSpan rfl rfl ⟨by decide, by decide⟩ rfl hl.1 rfl (Nat.le_of_ble_eq_true rfl) d_X_query_24 ⟨Nat.le_of_ble_eq_true rfl, Nat.le_of_ble_eq_true rfl⟩) (fun z24 u H locs hp24 hz hk hh => ?_)
        obtain rfl : z24 = b2_ (decide (-(1000 * d) ≤ a ∧ b ≤ 1000 * d ∧ a < b ∧ b - a ≤ 16 * d)) := hp24
        have hsb24 := b2_01 (decide (-(1000 * d) ≤ a ∧ b ≤ 1000 * d ∧ a < b ∧ b - a ≤ 16 * d))
        refine xw_if_ne hx hb 32 d_X_query_27 (by decide) (by omega) (fun c27 => ?_) (fun c27 => ?_)
        · have hn1 : 0 ≤ n ∧ n < 8 := of_decide_eq_true (b2_ne c4)
          have hs1 : -(1000 * d) ≤ a ∧ b ≤ 1000 * d ∧ a < b ∧ b - a ≤ 16 * d := of_decide_eq_true (b2_ne c27)
          have hgood : q_good n a b d := ⟨hn1, ⟨by omega, by omega⟩, hs1⟩
          obtain ⟨hwf, hgn, hg1, hg2⟩ := hsp n.toNat (by omega)
          obtain ⟨bq, hbq, hnt⟩ := hX0 n.toNat (by omega)
          have hm1 : 0 ≤ gsf n.toNat * d ∧ gsf n.toNat * d ≤ 5040 * 50 := ⟨Int.mul_nonneg (by omega) (by omega), Int.mul_le_mul (by omega) (by omega) (by omega) (by omega)⟩
          have hma : -(50000 * 5040) ≤ a * gsf n.toNat ∧ a * gsf n.toNat ≤ 50000 * 5040 := ab_prod (by omega) (by omega)
          have hmb : -(50000 * 5040) ≤ b * gsf n.toNat ∧ b * gsf n.toNat ≤ 50000 * 5040 := ab_prod (by omega) (by omega)
          skip
          refine lv_aload_n hx hb d_X_query_32 rfl (lv_at hl 0 rfl) ?_
          refine xw_get F hh.1 (v := .ref gs) fl_X_22_0 0 rfl rfl d_X_query_33 ?_
          refine lv_iload_n hx hb d_X_query_36 rfl (lv_at hl 1 rfl) ?_
          refine xw_iald F hh.1 2 (f := gsf) rfl (i := n) (by omega) d_X_query_37 ?_
          refine xw_i2l hx hb d_X_query_38 (by omega) ?_
          refine lv_lstore (lv' := [(5, .long (xl_ (gsf (n).toNat))), (0, .ref xo), (1, .int (xi_ n)), (2, .int (xi_ a)), (3, .int (xi_ b)), (4, .int (xi_ d))]) hx hb d_X_query_39 hl (by decide) rfl (fun ls hl => ?_)
          refine lv_aload_n hx hb d_X_query_41 rfl (lv_at hl 1 rfl) ?_
          refine lv_aload_n hx hb d_X_query_42 rfl (lv_at hl 1 rfl) ?_
          refine xw_get F hh.1 (v := .ref gs) fl_X_22_0 0 rfl rfl d_X_query_43 ?_
          refine lv_iload_n hx hb d_X_query_46 rfl (lv_at hl 2 rfl) ?_
          refine xw_iald F hh.1 2 (f := gsf) rfl (i := n) (by omega) d_X_query_47 ?_
          refine lv_iload hx hb d_X_query_48 (lv_at hl 5 rfl) ?_
          refine xw_imul hx hb d_X_query_50 ?_
          refine xw_put F hh fp_X_36_0 0 rfl rfl rfl (Nat.le_of_ble_eq_true rfl) d_X_query_51 (fun H locs hh => ?_)
          have hh : xw_H G (va_A [(xo, .inr (0, xo_ rd pa gs fo p1 p2 du fu pl sc ss tk)), (pa, .inl (G.2.2 4, 8, .inr (.inr (.inr (.inr paf))))), (gs, .inl (G.2.2 0, 8, .inl (ja_ gsf))), (fo, .inr (4, [.ref r])), (r, .inr (3, [.int (xi_ (200 : Int)), .ref v, .ref ra, .int (xi_ cnt), .int (xi_ tm)])), (v, .inl (G.2.2 1, (200 * 5), .inr (.inl (jl_ vals)))), (ra, .inl (G.2.2 0, 200, .inl (ja_ rat)))] s.heap.size) s.heap H locs [(xo, .inr (0, xo_ rd pa gs fo p1 p2 du ((gsf (n).toNat) * d) pl sc ss tk)), (pa, .inl (G.2.2 4, 8, .inr (.inr (.inr (.inr paf))))), (gs, .inl (G.2.2 0, 8, .inl (ja_ gsf))), (fo, .inr (4, [.ref r])), (r, .inr (3, [.int (xi_ (200 : Int)), .ref v, .ref ra, .int (xi_ cnt), .int (xi_ tm)])), (v, .inl (G.2.2 1, (200 * 5), .inr (.inl (jl_ vals)))), (ra, .inl (G.2.2 0, 200, .inl (ja_ rat)))] := hh
          refine lv_aload_n hx hb d_X_query_54 rfl (lv_at hl 1 rfl) ?_
          refine xw_get F hh.1 (v := .ref fo) fl_X_32_0 0 rfl rfl d_X_query_55 ?_
          refine lv_aload_n hx hb d_X_query_58 rfl (lv_at hl 1 rfl) ?_
          refine xw_get F hh.1 (v := .ref pa) fl_X_18_0 0 rfl rfl d_X_query_59 ?_
          refine lv_iload_n hx hb d_X_query_62 rfl (lv_at hl 2 rfl) ?_
          refine xw_aald F hh.1 1 (f := paf) rfl (i := n) (by omega) (x := some bq) hbq d_X_query_63 ?_
          refine lv_aload_n hx hb d_X_query_64 rfl (lv_at hl 1 rfl) ?_
          refine xw_get F hh.1 (v := .int (xi_ ((gsf (n).toNat) * d))) fl_X_36_0 0 rfl rfl d_X_query_65 ?_
          refine xw_i2l hx hb d_X_query_68 (by omega) ?_
          refine lv_iload_n hx hb d_X_query_69 rfl (lv_at hl 3 rfl) ?_
          refine xw_i2l hx hb d_X_query_70 (by omega) ?_
          refine lv_lload hx hb d_X_query_71 (lv_at hl 0 rfl) ?_
          refine xw_lmul hx hb d_X_query_73 ?_
          refine lv_iload_n hx hb d_X_query_74 rfl (lv_at hl 4 rfl) ?_
          refine xw_i2l hx hb d_X_query_75 (by omega) ?_
          refine lv_lload hx hb d_X_query_76 (lv_at hl 0 rfl) ?_
          refine xw_lmul hx hb d_X_query_78 ?_
          refine xw_ci (wc := [(fo, .inr (4, [.ref r])), (r, .inr (3, [.int (xi_ (200 : Int)), .ref v, .ref ra, .int (xi_ cnt), .int (xi_ tm)])), (v, .inl (G.2.2 1, (200 * 5), .inr (.inl (jl_ vals)))), (ra, .inl (G.2.2 0, 200, .inl (ja_ rat)))]) (wr := [(xo, .inr (0, xo_ rd pa gs fo p1 p2 du ((gsf (n).toNat) * d) pl sc ss tk)), (pa, .inl (G.2.2 4, 8, .inr (.inr (.inr (.inr paf))))), (gs, .inl (G.2.2 0, 8, .inl (ja_ gsf)))]) hh [3, 4, 5, 6] [0, 1, 2] rfl rfl rfl (by decide) (xw_rV F hh [3, 4, 5, 6] rfl rfl (c_Pa_gather l G H.size fo r v ra cnt tm vals rat st Sd (fun q hq => by
            have h9 := hSd q hq
            simp only [List.mem_cons, List.not_mem_nil, not_or, or_false] at h9
            omega) bq (Tr n.toNat) (gsf n.toNat * d) (a * gsf n.toNat) (b * gsf n.toNat) (wok_top hsp (by omega) (by omega) (by omega) (by omega)) (by omega) hrr) (nt_now hA hnt hh) lk_X_87 cd_Pa_gather se_Pa_gather _ hh.1 3 rfl rfl rfl rfl ⟨by decide, by decide⟩ rfl hl.1 rfl (Nat.le_of_ble_eq_true rfl) d_X_query_79 ⟨Nat.le_of_ble_eq_true rfl, Nat.le_of_ble_eq_true rfl⟩) (fun z79 u H locs hp79 hX hz hk hh => ?_)
          have hh : xw_H G (va_A [(xo, .inr (0, xo_ rd pa gs fo p1 p2 du fu pl sc ss tk)), (pa, .inl (G.2.2 4, 8, .inr (.inr (.inr (.inr paf))))), (gs, .inl (G.2.2 0, 8, .inl (ja_ gsf))), (fo, .inr (4, [.ref r])), (r, .inr (3, [.int (xi_ (200 : Int)), .ref v, .ref ra, .int (xi_ cnt), .int (xi_ tm)])), (v, .inl (G.2.2 1, (200 * 5), .inr (.inl (jl_ vals)))), (ra, .inl (G.2.2 0, 200, .inl (ja_ rat)))] s.heap.size) s.heap H locs [(xo, .inr (0, xo_ rd pa gs fo p1 p2 du ((gsf (n).toNat) * d) pl sc ss tk)), (pa, .inl (G.2.2 4, 8, .inr (.inr (.inr (.inr paf))))), (gs, .inl (G.2.2 0, 8, .inl (ja_ gsf))), (fo, .inr (4, [.ref r])), (r, .inr (3, [.int (xi_ (200 : Int)), .ref v, .ref ra, .int (xi_ u.1), .int (xi_ u.2.1)])), (v, .inl (G.2.2 1, (200 * 5), .inr (.inl (jl_ u.2.2.1)))), (ra, .inl (G.2.2 0, 200, .inl (ja_ u.2.2.2)))] := hh
          have hp79 : z79 = b2_ (!(q_run gsf Tr n a b d).2) ∧ rr_ 200 u.1 u.2.1 u.2.2.1 u.2.2.2 (if (q_run gsf Tr n a b d).2 = true then ([], false) else q_run gsf Tr n a b d) := hp79
          obtain ⟨hz79, hr79⟩ := hp79
          obtain rfl := hz79
          have hbq2 := b2_01 (!(q_run gsf Tr n a b d).2)
          refine xw_if_eq hx hb 98 d_X_query_82 (by decide) (by omega) (fun c82 => ?_) (fun c82 => ?_)
          · refine lv_bipush (v := xi_ (-2)) hx hb d_X_query_98 (by decide) ?_
            have hfu : (q_run gsf Tr n a b d).2 = true := by simpa using b2_e0 c82
            rw [if_pos hfu] at hr79
            exact xw_iret F hr hlk hh rfl (gsf n.toNat * d, u) rfl ⟨([], false), by
              unfold q_ans
              rw [if_pos hgood, if_pos hfu], hr79⟩ trivial d_X_query_100
          · refine lv_aload_n hx hb d_X_query_85 rfl (lv_at hl 1 rfl) ?_
            refine xw_get F hh.1 (v := .ref fo) fl_X_32_0 0 rfl rfl d_X_query_86 ?_
            refine xw_get F hh.1 (v := .ref r) fl_X_91_4 3 rfl rfl d_X_query_89 ?_
            refine xw_get F hh.1 (v := .int (xi_ u.1)) fl_X_95_3 4 rfl rfl d_X_query_92 ?_
            refine lv_goto (tgt := 100) hx hb d_X_query_95 (by decide) ?_
            have hfu : ¬ (q_run gsf Tr n a b d).2 = true := by simpa using b2_ne c82
            rw [if_neg hfu] at hr79
            exact xw_iret F hr hlk hh rfl (gsf n.toNat * d, u) rfl ⟨q_run gsf Tr n a b d, by
              unfold q_ans
              rw [if_pos hgood, if_neg hfu, hr79.1], hr79⟩ trivial d_X_query_100
        · refine lv_iconst (v := xi_ (-1)) hx hb d_X_query_30 rfl ?_
          exact xw_iret F hr hlk hh rfl (fu, cnt, tm, vals, rat) rfl ⟨st, by
            unfold q_ans
            rw [if_neg (fun q => by
              first
              | omega
              | exact absurd q.1 (of_decide_eq_false (b2_e0 c4))
              | exact absurd q.2.1.1 (by omega)
              | exact absurd q.2.1.2 (by omega)
              | exact absurd q.2.2 (of_decide_eq_false (b2_e0 c27)))], hrr⟩ trivial d_X_query_31
