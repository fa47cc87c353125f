/-! the model: query, areOther -/
/-- the model's list 0 -/
def mx_ (be so wh we le mn : Nat → Int) (rs : List Row_) : Prop := mn 0 = (rs.length : Int) ∧ mr_ 0 be wh so we le rs ∧ rs.length ≤ 200 ∧ rbd_ be so wh we le
theorem mx_of {be so wh we le mn mu : Nat → Int} {st : List Row_ × Bool} (h : mrr_ 0 be so wh we le mn mu st) : mx_ be so wh we le mn st.1 := ⟨h.1, h.2.2.1, h.2.2.2.1.2.1, h.2.2.2.2⟩
theorem mx_nil {be so wh we le mn : Nat → Int} (h : rbd_ be so wh we le) : mx_ be so wh we le (va_up mn 0 0) [] := ⟨va_up_self _ _ _, fun p r q => by simp at q, Nat.zero_le _, h⟩
theorem mx_keep {li : Nat} {be so wh we le mn mu be' so' wh' we' le' mn' mu' : Nat → Int} {rs : List Row_} (h : mx_ be so wh we le mn rs) (hl : 1 ≤ li) (hk : mkp_ li be so wh we le mn mu be' so' wh' we' le' mn' mu') (hb : rbd_ be' so' wh' we' le') : mx_ be' so' wh' we' le' mn' rs := by
  obtain ⟨h1, h2, h3, h4⟩ := h
  refine ⟨(hk.2 0 (by omega)).1.trans h1, fun p r hr => ?_, h3, hb⟩
  have hp : p < rs.length := (List.getElem?_eq_some_iff.mp hr).1
  obtain ⟨a1, a2, a3, a4, a5⟩ := hk.1 (0 + p) (by omega)
  rw [a1, a2, a3, a4, a5]
  exact h2 p r hr
def rm_M_query : Room := { frames := 6, cells := 0, slots := 0, locals := 185 }
set_option maxHeartbeats 4000000 in
set_option maxRecDepth 100000 in
theorem c_M_query (l : Launch) (G : GG_) (sz : Nat) (mo : Nat) (ma : Nat → Nat) (ty at0 dp un pl sp pe tk du tm : Int) (ro gr : Nat → Int) (A : MT) (k : MK) (be so wh we le mn mu : Nat → Int) (st : List Row_ × Bool) (hmx : mx_ be so wh we le mn st.1) (gsf : Nat → Int) (Tr : Nat → PT 40) (hms : msl_ A ro gr gsf Tr) (hsp : sp_ok gsf Tr) (n a b d : Int) (hn : (-2147483648 ≤ n ∧ n ≤ 2147483647) ∧ (-2147483648 ≤ a ∧ a ≤ 2147483647) ∧ (-2147483648 ≤ b ∧ b ≤ 2147483647) ∧ (-2147483648 ≤ d ∧ d ≤ 2147483647)) : Met l y_M_query (cw_ y_M_query b_M_query 5 (some .int)) rm_M_query (xw_P G [.ref mo, .int (xi_ n), .int (xi_ a), .int (xi_ b), .int (xi_ d)] sz [(mo, .inr (6, mo_ ma ty at0 dp (k_wy k) un pl sp pe tk du tm)), (ma 3, .inl (G.2.2 0, 432, .inl (ja_ (a_kn A)))), (ma 4, .inl (G.2.2 0, 432, .inl (ja_ (a_on A)))), (ma 5, .inl (G.2.2 0, 432, .inl (ja_ (a_tw A)))), (ma 6, .inl (G.2.2 0, 432, .inl (ja_ (a_th A)))), (ma 7, .inl (G.2.2 0, 432, .inl (ja_ (a_fi A)))), (ma 8, .inl (G.2.2 0, 432, .inl (ja_ (a_ne A)))), (ma 9, .inl (G.2.2 0, 432, .inl (ja_ (a_co A)))), (ma 17, .inl (G.2.2 0, 50, .inl (ja_ (k_no k)))), (ma 18, .inl (G.2.2 1, 50, .inr (.inl (jl_ (k_fr k))))), (ma 19, .inl (G.2.2 1, 50, .inr (.inl (jl_ (k_to k))))), (ma 20, .inl (G.2.2 1, 50, .inr (.inl (jl_ (k_aa k))))), (ma 21, .inl (G.2.2 1, 50, .inr (.inl (jl_ (k_bb k))))), (ma 22, .inl (G.2.2 1, 50, .inr (.inl (jl_ (k_cy k))))), (ma 23, .inl (G.2.2 1, 50, .inr (.inl (jl_ (k_en k))))), (ma 24, .inl (G.2.2 0, 50, .inl (ja_ (k_sp k)))), (ma 27, .inl (G.2.2 1, 603, .inr (.inl (jl_ be)))), (ma 28, .inl (G.2.2 1, 603, .inr (.inl (jl_ so)))), (ma 29, .inl (G.2.2 1, 603, .inr (.inl (jl_ wh)))), (ma 30, .inl (G.2.2 1, 603, .inr (.inl (jl_ we)))), (ma 31, .inl (G.2.2 0, 603, .inl (ja_ le))), (ma 25, .inl (G.2.2 0, 3, .inl (ja_ mn))), (ma 26, .inl (G.2.2 3, 3, .inl (ja_ mu))), (ma 10, .inl (G.2.2 0, 9, .inl (ja_ ro))), (ma 12, .inl (G.2.2 0, 9, .inl (ja_ gr)))] (fun _ => True)) (xw_Qi (S := MK × Int × (Nat → Int) × (Nat → Int) × (Nat → Int) × (Nat → Int) × (Nat → Int) × (Nat → Int) × (Nat → Int)) G sz [(mo, .inr (6, mo_ ma ty at0 dp (k_wy k) un pl sp pe tk du tm)), (ma 3, .inl (G.2.2 0, 432, .inl (ja_ (a_kn A)))), (ma 4, .inl (G.2.2 0, 432, .inl (ja_ (a_on A)))), (ma 5, .inl (G.2.2 0, 432, .inl (ja_ (a_tw A)))), (ma 6, .inl (G.2.2 0, 432, .inl (ja_ (a_th A)))), (ma 7, .inl (G.2.2 0, 432, .inl (ja_ (a_fi A)))), (ma 8, .inl (G.2.2 0, 432, .inl (ja_ (a_ne A)))), (ma 9, .inl (G.2.2 0, 432, .inl (ja_ (a_co A)))), (ma 17, .inl (G.2.2 0, 50, .inl (ja_ (k_no k)))), (ma 18, .inl (G.2.2 1, 50, .inr (.inl (jl_ (k_fr k))))), (ma 19, .inl (G.2.2 1, 50, .inr (.inl (jl_ (k_to k))))), (ma 20, .inl (G.2.2 1, 50, .inr (.inl (jl_ (k_aa k))))), (ma 21, .inl (G.2.2 1, 50, .inr (.inl (jl_ (k_bb k))))), (ma 22, .inl (G.2.2 1, 50, .inr (.inl (jl_ (k_cy k))))), (ma 23, .inl (G.2.2 1, 50, .inr (.inl (jl_ (k_en k))))), (ma 24, .inl (G.2.2 0, 50, .inl (ja_ (k_sp k)))), (ma 27, .inl (G.2.2 1, 603, .inr (.inl (jl_ be)))), (ma 28, .inl (G.2.2 1, 603, .inr (.inl (jl_ so)))), (ma 29, .inl (G.2.2 1, 603, .inr (.inl (jl_ wh)))), (ma 30, .inl (G.2.2 1, 603, .inr (.inl (jl_ we)))), (ma 31, .inl (G.2.2 0, 603, .inl (ja_ le))), (ma 25, .inl (G.2.2 0, 3, .inl (ja_ mn))), (ma 26, .inl (G.2.2 3, 3, .inl (ja_ mu))), (ma 10, .inl (G.2.2 0, 9, .inl (ja_ ro))), (ma 12, .inl (G.2.2 0, 9, .inl (ja_ gr)))] (fun w u => w = (q_ans gsf Tr un st n a b d).1 ∧ u.2.1 = (q_ans gsf Tr un st n a b d).2.1 ∧ mx_ u.2.2.1 u.2.2.2.1 u.2.2.2.2.1 u.2.2.2.2.2.1 u.2.2.2.2.2.2.1 u.2.2.2.2.2.2.2.1 (q_ans gsf Tr un st n a b d).2.2.1) (fun u => [(mo, .inr (6, mo_ ma ty at0 dp (k_wy u.1) u.2.1 pl sp pe tk du tm)), (ma 3, .inl (G.2.2 0, 432, .inl (ja_ (a_kn A)))), (ma 4, .inl (G.2.2 0, 432, .inl (ja_ (a_on A)))), (ma 5, .inl (G.2.2 0, 432, .inl (ja_ (a_tw A)))), (ma 6, .inl (G.2.2 0, 432, .inl (ja_ (a_th A)))), (ma 7, .inl (G.2.2 0, 432, .inl (ja_ (a_fi A)))), (ma 8, .inl (G.2.2 0, 432, .inl (ja_ (a_ne A)))), (ma 9, .inl (G.2.2 0, 432, .inl (ja_ (a_co A)))), (ma 17, .inl (G.2.2 0, 50, .inl (ja_ (k_no u.1)))), (ma 18, .inl (G.2.2 1, 50, .inr (.inl (jl_ (k_fr u.1))))), (ma 19, .inl (G.2.2 1, 50, .inr (.inl (jl_ (k_to u.1))))), (ma 20, .inl (G.2.2 1, 50, .inr (.inl (jl_ (k_aa u.1))))), (ma 21, .inl (G.2.2 1, 50, .inr (.inl (jl_ (k_bb u.1))))), (ma 22, .inl (G.2.2 1, 50, .inr (.inl (jl_ (k_cy u.1))))), (ma 23, .inl (G.2.2 1, 50, .inr (.inl (jl_ (k_en u.1))))), (ma 24, .inl (G.2.2 0, 50, .inl (ja_ (k_sp u.1)))), (ma 27, .inl (G.2.2 1, 603, .inr (.inl (jl_ u.2.2.1)))), (ma 28, .inl (G.2.2 1, 603, .inr (.inl (jl_ u.2.2.2.1)))), (ma 29, .inl (G.2.2 1, 603, .inr (.inl (jl_ u.2.2.2.2.1)))), (ma 30, .inl (G.2.2 1, 603, .inr (.inl (jl_ u.2.2.2.2.2.1)))), (ma 31, .inl (G.2.2 0, 603, .inl (ja_ u.2.2.2.2.2.2.1))), (ma 25, .inl (G.2.2 0, 3, .inl (ja_ u.2.2.2.2.2.2.2.1))), (ma 26, .inl (G.2.2 3, 3, .inl (ja_ u.2.2.2.2.2.2.2.2))), (ma 10, .inl (G.2.2 0, 9, .inl (ja_ ro))), (ma 12, .inl (G.2.2 0, 9, .inl (ja_ gr)))]) (fun _ _ => True)) 0 0 (va_A [(mo, .inr (6, mo_ ma ty at0 dp (k_wy k) un pl sp pe tk du tm)), (ma 3, .inl (G.2.2 0, 432, .inl (ja_ (a_kn A)))), (ma 4, .inl (G.2.2 0, 432, .inl (ja_ (a_on A)))), (ma 5, .inl (G.2.2 0, 432, .inl (ja_ (a_tw A)))), (ma 6, .inl (G.2.2 0, 432, .inl (ja_ (a_th A)))), (ma 7, .inl (G.2.2 0, 432, .inl (ja_ (a_fi A)))), (ma 8, .inl (G.2.2 0, 432, .inl (ja_ (a_ne A)))), (ma 9, .inl (G.2.2 0, 432, .inl (ja_ (a_co A)))), (ma 17, .inl (G.2.2 0, 50, .inl (ja_ (k_no k)))), (ma 18, .inl (G.2.2 1, 50, .inr (.inl (jl_ (k_fr k))))), (ma 19, .inl (G.2.2 1, 50, .inr (.inl (jl_ (k_to k))))), (ma 20, .inl (G.2.2 1, 50, .inr (.inl (jl_ (k_aa k))))), (ma 21, .inl (G.2.2 1, 50, .inr (.inl (jl_ (k_bb k))))), (ma 22, .inl (G.2.2 1, 50, .inr (.inl (jl_ (k_cy k))))), (ma 23, .inl (G.2.2 1, 50, .inr (.inl (jl_ (k_en k))))), (ma 24, .inl (G.2.2 0, 50, .inl (ja_ (k_sp k)))), (ma 27, .inl (G.2.2 1, 603, .inr (.inl (jl_ be)))), (ma 28, .inl (G.2.2 1, 603, .inr (.inl (jl_ so)))), (ma 29, .inl (G.2.2 1, 603, .inr (.inl (jl_ wh)))), (ma 30, .inl (G.2.2 1, 603, .inr (.inl (jl_ we)))), (ma 31, .inl (G.2.2 0, 603, .inl (ja_ le))), (ma 25, .inl (G.2.2 0, 3, .inl (ja_ mn))), (ma 26, .inl (G.2.2 3, 3, .inl (ja_ mu))), (ma 10, .inl (G.2.2 0, 9, .inl (ja_ ro))), (ma 12, .inl (G.2.2 0, 9, .inl (ja_ gr)))] sz) := by
  refine xw_met (by decide) (Nat.le_of_ble_eq_true rfl) ?_
  intro p0 e0 s m0 args below meth c0 F hr hlk hin hsz hh hX ls hl
  subst hsz
  have hx := F.1
  have hb := F.2.1
  have hl : lv_has ls 5 [(0, .ref mo), (1, .int (xi_ n)), (2, .int (xi_ a)), (3, .int (xi_ b)), (4, .int (xi_ d))] := hl
  refine lv_iload_n hx hb d_M_query_0 rfl (lv_at hl 1 rfl) ?_
  refine xw_if_lt hx hb 79 d_M_query_1 (by decide) (by omega) (fun c1 => ?_) (fun c1 => ?_)
  · refine lv_iconst (v := xi_ (-1)) hx hb d_M_query_79 rfl ?_
    have hqa : q_ans gsf Tr un st n a b d = (-1, un, st) := by
      unfold q_ans
      exact if_neg (fun q => by unfold q_good at q; omega)
    rw [hqa]
    exact xw_iret F hr hlk hh rfl (k, un, be, so, wh, we, le, mn, mu) rfl ⟨rfl, rfl, hmx⟩ trivial d_M_query_80
  · refine lv_iload_n hx hb d_M_query_4 rfl (lv_at hl 1 rfl) ?_
    refine lv_bipush (v := xi_ 7) hx hb d_M_query_5 (by decide) ?_
    refine xw_icmp_gt hx hb 79 d_M_query_7 (by decide) (by omega) (fun c7 => ?_) (fun c7 => ?_)
    · refine lv_iconst (v := xi_ (-1)) hx hb d_M_query_79 rfl ?_
      have hqa : q_ans gsf Tr un st n a b d = (-1, un, st) := by
        unfold q_ans
        exact if_neg (fun q => by unfold q_good at q; omega)
      rw [hqa]
      exact xw_iret F hr hlk hh rfl (k, un, be, so, wh, we, le, mn, mu) rfl ⟨rfl, rfl, hmx⟩ trivial d_M_query_80
    · refine lv_iload hx hb d_M_query_10 (lv_at hl 4 rfl) ?_
      refine lv_iconst (v := xi_ 1) hx hb d_M_query_12 rfl ?_
      refine xw_icmp_lt hx hb 79 d_M_query_13 (by decide) (by omega) (fun c13 => ?_) (fun c13 => ?_)
      · refine lv_iconst (v := xi_ (-1)) hx hb d_M_query_79 rfl ?_
        have hqa : q_ans gsf Tr un st n a b d = (-1, un, st) := by
          unfold q_ans
          exact if_neg (fun q => by unfold q_good at q; omega)
        rw [hqa]
        exact xw_iret F hr hlk hh rfl (k, un, be, so, wh, we, le, mn, mu) rfl ⟨rfl, rfl, hmx⟩ trivial d_M_query_80
      · refine lv_iload hx hb d_M_query_16 (lv_at hl 4 rfl) ?_
        refine lv_bipush (v := xi_ 50) hx hb d_M_query_18 (by decide) ?_
        refine xw_icmp_gt hx hb 79 d_M_query_20 (by decide) (by omega) (fun c20 => ?_) (fun c20 => ?_)
        · refine lv_iconst (v := xi_ (-1)) hx hb d_M_query_79 rfl ?_
          have hqa : q_ans gsf Tr un st n a b d = (-1, un, st) := by
            unfold q_ans
            exact if_neg (fun q => by unfold q_good at q; omega)
          rw [hqa]
          exact xw_iret F hr hlk hh rfl (k, un, be, so, wh, we, le, mn, mu) rfl ⟨rfl, rfl, hmx⟩ trivial d_M_query_80
        · refine lv_iload_n hx hb d_M_query_23 rfl (lv_at hl 2 rfl) ?_
          refine lv_sipush (v := xi_ (-1000)) hx hb d_M_query_24 (by decide) ?_
          refine lv_iload hx hb d_M_query_27 (lv_at hl 4 rfl) ?_
          refine xw_imul hx hb d_M_query_29 ?_
          refine xw_icmp_lt hx hb 79 d_M_query_30 (by decide) (by omega) (fun c30 => ?_) (fun c30 => ?_)
          · refine lv_iconst (v := xi_ (-1)) hx hb d_M_query_79 rfl ?_
            have hqa : q_ans gsf Tr un st n a b d = (-1, un, st) := by
              unfold q_ans
              exact if_neg (fun q => by unfold q_good at q; omega)
            rw [hqa]
            exact xw_iret F hr hlk hh rfl (k, un, be, so, wh, we, le, mn, mu) rfl ⟨rfl, rfl, hmx⟩ trivial d_M_query_80
          · refine lv_iload_n hx hb d_M_query_33 rfl (lv_at hl 2 rfl) ?_
            refine lv_sipush (v := xi_ 1000) hx hb d_M_query_34 (by decide) ?_
            refine lv_iload hx hb d_M_query_37 (lv_at hl 4 rfl) ?_
            refine xw_imul hx hb d_M_query_39 ?_
            refine xw_icmp_gt hx hb 79 d_M_query_40 (by decide) (by omega) (fun c40 => ?_) (fun c40 => ?_)
            · refine lv_iconst (v := xi_ (-1)) hx hb d_M_query_79 rfl ?_
              have hqa : q_ans gsf Tr un st n a b d = (-1, un, st) := by
                unfold q_ans
                exact if_neg (fun q => by unfold q_good at q; omega)
              rw [hqa]
              exact xw_iret F hr hlk hh rfl (k, un, be, so, wh, we, le, mn, mu) rfl ⟨rfl, rfl, hmx⟩ trivial d_M_query_80
            · refine lv_iload_n hx hb d_M_query_43 rfl (lv_at hl 3 rfl) ?_
              refine lv_sipush (v := xi_ (-1000)) hx hb d_M_query_44 (by decide) ?_
              refine lv_iload hx hb d_M_query_47 (lv_at hl 4 rfl) ?_
              refine xw_imul hx hb d_M_query_49 ?_
              refine xw_icmp_lt hx hb 79 d_M_query_50 (by decide) (by omega) (fun c50 => ?_) (fun c50 => ?_)
              · refine lv_iconst (v := xi_ (-1)) hx hb d_M_query_79 rfl ?_
                have hqa : q_ans gsf Tr un st n a b d = (-1, un, st) := by
                  unfold q_ans
                  exact if_neg (fun q => by unfold q_good at q; omega)
                rw [hqa]
                exact xw_iret F hr hlk hh rfl (k, un, be, so, wh, we, le, mn, mu) rfl ⟨rfl, rfl, hmx⟩ trivial d_M_query_80
              · refine lv_iload_n hx hb d_M_query_53 rfl (lv_at hl 3 rfl) ?_
                refine lv_sipush (v := xi_ 1000) hx hb d_M_query_54 (by decide) ?_
                refine lv_iload hx hb d_M_query_57 (lv_at hl 4 rfl) ?_
                refine xw_imul hx hb d_M_query_59 ?_
                refine xw_icmp_gt hx hb 79 d_M_query_60 (by decide) (by omega) (fun c60 => ?_) (fun c60 => ?_)
                · refine lv_iconst (v := xi_ (-1)) hx hb d_M_query_79 rfl ?_
                  have hqa : q_ans gsf Tr un st n a b d = (-1, un, st) := by
                    unfold q_ans
                    exact if_neg (fun q => by unfold q_good at q; omega)
                  rw [hqa]
                  exact xw_iret F hr hlk hh rfl (k, un, be, so, wh, we, le, mn, mu) rfl ⟨rfl, rfl, hmx⟩ trivial d_M_query_80
                · refine lv_iload_n hx hb d_M_query_63 rfl (lv_at hl 2 rfl) ?_
                  refine lv_iload_n hx hb d_M_query_64 rfl (lv_at hl 3 rfl) ?_
                  refine xw_icmp_ge hx hb 79 d_M_query_65 (by decide) (by omega) (fun c65 => ?_) (fun c65 => ?_)
                  · refine lv_iconst (v := xi_ (-1)) hx hb d_M_query_79 rfl ?_
                    have hqa : q_ans gsf Tr un st n a b d = (-1, un, st) := by
                      unfold q_ans
                      exact if_neg (fun q => by unfold q_good at q; omega)
                    rw [hqa]
                    exact xw_iret F hr hlk hh rfl (k, un, be, so, wh, we, le, mn, mu) rfl ⟨rfl, rfl, hmx⟩ trivial d_M_query_80
                  · refine lv_iload_n hx hb d_M_query_68 rfl (lv_at hl 3 rfl) ?_
                    refine lv_iload_n hx hb d_M_query_69 rfl (lv_at hl 2 rfl) ?_
                    refine lv_bipush (v := xi_ 16) hx hb d_M_query_70 (by decide) ?_
                    refine lv_iload hx hb d_M_query_72 (lv_at hl 4 rfl) ?_
                    refine xw_imul hx hb d_M_query_74 ?_
                    refine xw_iadd hx hb d_M_query_75 ?_
                    refine xw_icmp_le hx hb 81 d_M_query_76 (by decide) (by omega) (fun c76 => ?_) (fun c76 => ?_)
                    · obtain ⟨nn, rfl⟩ : ∃ nn : Nat, n = (nn : Int) := ⟨n.toNat, by omega⟩
                      obtain ⟨⟨m9, hrep⟩, hgr⟩ := hms nn (by omega)
                      obtain ⟨hs1, hs2, hs3, hs4⟩ := hsp nn (by omega)
                      have hgd := ab_prod (x := gsf nn) (g := d) (B := 5040) (C := 50) (by omega) (by omega)
                      have hga := ab_prod (x := a) (g := gsf nn) (B := 50000) (C := 5040) (by omega) (by omega)
                      have hgb := ab_prod (x := b) (g := gsf nn) (B := 50000) (C := 5040) (by omega) (by omega)
                      have hgd1 : 1 * 1 ≤ gsf nn * d := Int.mul_le_mul (by omega) (by omega) (by omega) (by omega)
                      have hwk := wok_top hsp (j := nn) (by omega) (m := d) (f := a * gsf nn) (t := b * gsf nn) (by omega) (by omega) (by omega)
                      have hqg : q_good (nn : Int) a b d := by unfold q_good; omega
                      refine lv_aload_n hx hb d_M_query_81 rfl (lv_at hl 0 rfl) ?_
                      refine lv_aload_n hx hb d_M_query_82 rfl (lv_at hl 0 rfl) ?_
                      refine xw_get F hh.1 (v := .ref (ma 12)) fl_M_40_6 0 rfl rfl d_M_query_83 ?_
                      refine lv_iload_n hx hb d_M_query_86 rfl (lv_at hl 1 rfl) ?_
                      refine xw_iald F hh.1 24 (f := gr) rfl (i := (nn : Int)) (by omega) d_M_query_87 ?_
                      refine xw_topi (y := gsf nn) hgr ?_
                      refine lv_iload hx hb d_M_query_88 (lv_at hl 4 rfl) ?_
                      refine xw_imul hx hb d_M_query_90 ?_
                      refine xw_put F hh fp_M_96_6 0 rfl rfl rfl (Nat.le_of_ble_eq_true rfl) d_M_query_91 (fun H locs hh => ?_)
                      have hh : xw_H G (va_A [(mo, .inr (6, mo_ ma ty at0 dp (k_wy k) un pl sp pe tk du tm)), (ma 3, .inl (G.2.2 0, 432, .inl (ja_ (a_kn A)))), (ma 4, .inl (G.2.2 0, 432, .inl (ja_ (a_on A)))), (ma 5, .inl (G.2.2 0, 432, .inl (ja_ (a_tw A)))), (ma 6, .inl (G.2.2 0, 432, .inl (ja_ (a_th A)))), (ma 7, .inl (G.2.2 0, 432, .inl (ja_ (a_fi A)))), (ma 8, .inl (G.2.2 0, 432, .inl (ja_ (a_ne A)))), (ma 9, .inl (G.2.2 0, 432, .inl (ja_ (a_co A)))), (ma 17, .inl (G.2.2 0, 50, .inl (ja_ (k_no k)))), (ma 18, .inl (G.2.2 1, 50, .inr (.inl (jl_ (k_fr k))))), (ma 19, .inl (G.2.2 1, 50, .inr (.inl (jl_ (k_to k))))), (ma 20, .inl (G.2.2 1, 50, .inr (.inl (jl_ (k_aa k))))), (ma 21, .inl (G.2.2 1, 50, .inr (.inl (jl_ (k_bb k))))), (ma 22, .inl (G.2.2 1, 50, .inr (.inl (jl_ (k_cy k))))), (ma 23, .inl (G.2.2 1, 50, .inr (.inl (jl_ (k_en k))))), (ma 24, .inl (G.2.2 0, 50, .inl (ja_ (k_sp k)))), (ma 27, .inl (G.2.2 1, 603, .inr (.inl (jl_ be)))), (ma 28, .inl (G.2.2 1, 603, .inr (.inl (jl_ so)))), (ma 29, .inl (G.2.2 1, 603, .inr (.inl (jl_ wh)))), (ma 30, .inl (G.2.2 1, 603, .inr (.inl (jl_ we)))), (ma 31, .inl (G.2.2 0, 603, .inl (ja_ le))), (ma 25, .inl (G.2.2 0, 3, .inl (ja_ mn))), (ma 26, .inl (G.2.2 3, 3, .inl (ja_ mu))), (ma 10, .inl (G.2.2 0, 9, .inl (ja_ ro))), (ma 12, .inl (G.2.2 0, 9, .inl (ja_ gr)))] s.heap.size) s.heap H locs [(mo, .inr (6, mo_ ma ty at0 dp (k_wy k) ((gsf nn) * d) pl sp pe tk du tm)), (ma 3, .inl (G.2.2 0, 432, .inl (ja_ (a_kn A)))), (ma 4, .inl (G.2.2 0, 432, .inl (ja_ (a_on A)))), (ma 5, .inl (G.2.2 0, 432, .inl (ja_ (a_tw A)))), (ma 6, .inl (G.2.2 0, 432, .inl (ja_ (a_th A)))), (ma 7, .inl (G.2.2 0, 432, .inl (ja_ (a_fi A)))), (ma 8, .inl (G.2.2 0, 432, .inl (ja_ (a_ne A)))), (ma 9, .inl (G.2.2 0, 432, .inl (ja_ (a_co A)))), (ma 17, .inl (G.2.2 0, 50, .inl (ja_ (k_no k)))), (ma 18, .inl (G.2.2 1, 50, .inr (.inl (jl_ (k_fr k))))), (ma 19, .inl (G.2.2 1, 50, .inr (.inl (jl_ (k_to k))))), (ma 20, .inl (G.2.2 1, 50, .inr (.inl (jl_ (k_aa k))))), (ma 21, .inl (G.2.2 1, 50, .inr (.inl (jl_ (k_bb k))))), (ma 22, .inl (G.2.2 1, 50, .inr (.inl (jl_ (k_cy k))))), (ma 23, .inl (G.2.2 1, 50, .inr (.inl (jl_ (k_en k))))), (ma 24, .inl (G.2.2 0, 50, .inl (ja_ (k_sp k)))), (ma 27, .inl (G.2.2 1, 603, .inr (.inl (jl_ be)))), (ma 28, .inl (G.2.2 1, 603, .inr (.inl (jl_ so)))), (ma 29, .inl (G.2.2 1, 603, .inr (.inl (jl_ wh)))), (ma 30, .inl (G.2.2 1, 603, .inr (.inl (jl_ we)))), (ma 31, .inl (G.2.2 0, 603, .inl (ja_ le))), (ma 25, .inl (G.2.2 0, 3, .inl (ja_ mn))), (ma 26, .inl (G.2.2 3, 3, .inl (ja_ mu))), (ma 10, .inl (G.2.2 0, 9, .inl (ja_ ro))), (ma 12, .inl (G.2.2 0, 9, .inl (ja_ gr)))] := hh
                      refine lv_aload_n hx hb d_M_query_94 rfl (lv_at hl 0 rfl) ?_
                      refine lv_iload_n hx hb d_M_query_95 rfl (lv_at hl 1 rfl) ?_
                      refine lv_iload_n hx hb d_M_query_96 rfl (lv_at hl 2 rfl) ?_
                      refine xw_i2l hx hb d_M_query_97 (by omega) ?_
                      refine lv_aload_n hx hb d_M_query_98 rfl (lv_at hl 0 rfl) ?_
                      refine xw_get F hh.1 (v := .ref (ma 12)) fl_M_40_6 0 rfl rfl d_M_query_99 ?_
                      refine lv_iload_n hx hb d_M_query_102 rfl (lv_at hl 1 rfl) ?_
                      refine xw_iald F hh.1 24 (f := gr) rfl (i := (nn : Int)) (by omega) d_M_query_103 ?_
                      refine xw_topi (y := gsf nn) hgr ?_
                      refine xw_i2l hx hb d_M_query_104 (by omega) ?_
                      refine xw_lmul hx hb d_M_query_105 ?_
                      refine lv_iload_n hx hb d_M_query_106 rfl (lv_at hl 3 rfl) ?_
                      refine xw_i2l hx hb d_M_query_107 (by omega) ?_
                      refine lv_aload_n hx hb d_M_query_108 rfl (lv_at hl 0 rfl) ?_
                      refine xw_get F hh.1 (v := .ref (ma 12)) fl_M_40_6 0 rfl rfl d_M_query_109 ?_
                      refine lv_iload_n hx hb d_M_query_112 rfl (lv_at hl 1 rfl) ?_
                      refine xw_iald F hh.1 24 (f := gr) rfl (i := (nn : Int)) (by omega) d_M_query_113 ?_
                      refine xw_topi (y := gsf nn) hgr ?_
                      refine xw_i2l hx hb d_M_query_114 (by omega) ?_
                      refine xw_lmul hx hb d_M_query_115 ?_
                      refine lv_aload_n hx hb d_M_query_116 rfl (lv_at hl 0 rfl) ?_
                      refine xw_get F hh.1 (v := .int (xi_ ((gsf nn) * d))) fl_M_96_6 0 rfl rfl d_M_query_117 ?_
                      refine xw_i2l hx hb d_M_query_120 (by omega) ?_
                      refine lv_iconst (v := xi_ 0) hx hb d_M_query_121 rfl ?_
                      refine xw_cv (wc := [(mo, .inr (6, mo_ ma ty at0 dp (k_wy k) ((gsf nn) * d) pl sp pe tk du tm)), (ma 3, .inl (G.2.2 0, 432, .inl (ja_ (a_kn A)))), (ma 4, .inl (G.2.2 0, 432, .inl (ja_ (a_on A)))), (ma 5, .inl (G.2.2 0, 432, .inl (ja_ (a_tw A)))), (ma 6, .inl (G.2.2 0, 432, .inl (ja_ (a_th A)))), (ma 7, .inl (G.2.2 0, 432, .inl (ja_ (a_fi A)))), (ma 8, .inl (G.2.2 0, 432, .inl (ja_ (a_ne A)))), (ma 9, .inl (G.2.2 0, 432, .inl (ja_ (a_co A)))), (ma 17, .inl (G.2.2 0, 50, .inl (ja_ (k_no k)))), (ma 18, .inl (G.2.2 1, 50, .inr (.inl (jl_ (k_fr k))))), (ma 19, .inl (G.2.2 1, 50, .inr (.inl (jl_ (k_to k))))), (ma 20, .inl (G.2.2 1, 50, .inr (.inl (jl_ (k_aa k))))), (ma 21, .inl (G.2.2 1, 50, .inr (.inl (jl_ (k_bb k))))), (ma 22, .inl (G.2.2 1, 50, .inr (.inl (jl_ (k_cy k))))), (ma 23, .inl (G.2.2 1, 50, .inr (.inl (jl_ (k_en k))))), (ma 24, .inl (G.2.2 0, 50, .inl (ja_ (k_sp k)))), (ma 27, .inl (G.2.2 1, 603, .inr (.inl (jl_ be)))), (ma 28, .inl (G.2.2 1, 603, .inr (.inl (jl_ so)))), (ma 29, .inl (G.2.2 1, 603, .inr (.inl (jl_ wh)))), (ma 30, .inl (G.2.2 1, 603, .inr (.inl (jl_ we)))), (ma 31, .inl (G.2.2 0, 603, .inl (ja_ le))), (ma 25, .inl (G.2.2 0, 3, .inl (ja_ mn))), (ma 26, .inl (G.2.2 3, 3, .inl (ja_ mu))), (ma 10, .inl (G.2.2 0, 9, .inl (ja_ ro)))]) (wr := [(ma 12, .inl (G.2.2 0, 9, .inl (ja_ gr)))]) hh [0, 1, 2, 3, 4, 5, 6, 7, 8, 9, 10, 11, 12, 13, 14, 15, 16, 17, 18, 19, 20, 21, 22, 23] [24] rfl rfl rfl (by decide) (xw_rV F hh [0, 1, 2, 3, 4, 5, 6, 7, 8, 9, 10, 11, 12, 13, 14, 15, 16, 17, 18, 19, 20, 21, 22, 23] rfl rfl (c_M_gather l G H.size mo ma ty at0 dp (gsf nn * d) pl sp pe tk du tm ro A k (nn : Int) (Tr nn) m9 (a * gsf nn) (b * gsf nn) (gsf nn * d) (by omega) hrep (fun _ => hwk) ⟨⟨by omega, by omega⟩, ⟨by omega, by omega⟩, by omega, by omega, by omega⟩ 0 (by omega) be so wh we le mn mu hmx.2.2.2) trivial lk_M_235 cd_M_gather se_M_gather _ hh.1 0 rfl rfl rfl rfl ⟨by decide, by decide⟩ rfl hl.1 rfl (Nat.le_of_ble_eq_true rfl) d_M_query_122 ⟨Nat.le_of_ble_eq_true rfl, Nat.le_of_ble_eq_true rfl⟩) (fun u H locs hp122 hX hz hk hh => ?_)
                      have hh : xw_H G (va_A [(mo, .inr (6, mo_ ma ty at0 dp (k_wy k) un pl sp pe tk du tm)), (ma 3, .inl (G.2.2 0, 432, .inl (ja_ (a_kn A)))), (ma 4, .inl (G.2.2 0, 432, .inl (ja_ (a_on A)))), (ma 5, .inl (G.2.2 0, 432, .inl (ja_ (a_tw A)))), (ma 6, .inl (G.2.2 0, 432, .inl (ja_ (a_th A)))), (ma 7, .inl (G.2.2 0, 432, .inl (ja_ (a_fi A)))), (ma 8, .inl (G.2.2 0, 432, .inl (ja_ (a_ne A)))), (ma 9, .inl (G.2.2 0, 432, .inl (ja_ (a_co A)))), (ma 17, .inl (G.2.2 0, 50, .inl (ja_ (k_no k)))), (ma 18, .inl (G.2.2 1, 50, .inr (.inl (jl_ (k_fr k))))), (ma 19, .inl (G.2.2 1, 50, .inr (.inl (jl_ (k_to k))))), (ma 20, .inl (G.2.2 1, 50, .inr (.inl (jl_ (k_aa k))))), (ma 21, .inl (G.2.2 1, 50, .inr (.inl (jl_ (k_bb k))))), (ma 22, .inl (G.2.2 1, 50, .inr (.inl (jl_ (k_cy k))))), (ma 23, .inl (G.2.2 1, 50, .inr (.inl (jl_ (k_en k))))), (ma 24, .inl (G.2.2 0, 50, .inl (ja_ (k_sp k)))), (ma 27, .inl (G.2.2 1, 603, .inr (.inl (jl_ be)))), (ma 28, .inl (G.2.2 1, 603, .inr (.inl (jl_ so)))), (ma 29, .inl (G.2.2 1, 603, .inr (.inl (jl_ wh)))), (ma 30, .inl (G.2.2 1, 603, .inr (.inl (jl_ we)))), (ma 31, .inl (G.2.2 0, 603, .inl (ja_ le))), (ma 25, .inl (G.2.2 0, 3, .inl (ja_ mn))), (ma 26, .inl (G.2.2 3, 3, .inl (ja_ mu))), (ma 10, .inl (G.2.2 0, 9, .inl (ja_ ro))), (ma 12, .inl (G.2.2 0, 9, .inl (ja_ gr)))] s.heap.size) s.heap H locs [(mo, .inr (6, mo_ ma ty at0 dp (k_wy u.1) ((gsf nn) * d) pl sp pe tk du tm)), (ma 3, .inl (G.2.2 0, 432, .inl (ja_ (a_kn A)))), (ma 4, .inl (G.2.2 0, 432, .inl (ja_ (a_on A)))), (ma 5, .inl (G.2.2 0, 432, .inl (ja_ (a_tw A)))), (ma 6, .inl (G.2.2 0, 432, .inl (ja_ (a_th A)))), (ma 7, .inl (G.2.2 0, 432, .inl (ja_ (a_fi A)))), (ma 8, .inl (G.2.2 0, 432, .inl (ja_ (a_ne A)))), (ma 9, .inl (G.2.2 0, 432, .inl (ja_ (a_co A)))), (ma 17, .inl (G.2.2 0, 50, .inl (ja_ (k_no u.1)))), (ma 18, .inl (G.2.2 1, 50, .inr (.inl (jl_ (k_fr u.1))))), (ma 19, .inl (G.2.2 1, 50, .inr (.inl (jl_ (k_to u.1))))), (ma 20, .inl (G.2.2 1, 50, .inr (.inl (jl_ (k_aa u.1))))), (ma 21, .inl (G.2.2 1, 50, .inr (.inl (jl_ (k_bb u.1))))), (ma 22, .inl (G.2.2 1, 50, .inr (.inl (jl_ (k_cy u.1))))), (ma 23, .inl (G.2.2 1, 50, .inr (.inl (jl_ (k_en u.1))))), (ma 24, .inl (G.2.2 0, 50, .inl (ja_ (k_sp u.1)))), (ma 27, .inl (G.2.2 1, 603, .inr (.inl (jl_ u.2.1)))), (ma 28, .inl (G.2.2 1, 603, .inr (.inl (jl_ u.2.2.1)))), (ma 29, .inl (G.2.2 1, 603, .inr (.inl (jl_ u.2.2.2.1)))), (ma 30, .inl (G.2.2 1, 603, .inr (.inl (jl_ u.2.2.2.2.1)))), (ma 31, .inl (G.2.2 0, 603, .inl (ja_ u.2.2.2.2.2.1))), (ma 25, .inl (G.2.2 0, 3, .inl (ja_ u.2.2.2.2.2.2.1))), (ma 26, .inl (G.2.2 3, 3, .inl (ja_ u.2.2.2.2.2.2.2))), (ma 10, .inl (G.2.2 0, 9, .inl (ja_ ro))), (ma 12, .inl (G.2.2 0, 9, .inl (ja_ gr)))] := xw_H.sub hh [1, 2, 3, 4, 5, 6, 7, 8, 9, 10, 11, 12, 13, 14, 15, 16, 17, 18, 19, 20, 21, 22, 23, 24, 0] rfl rfl
                      have hqr : run_ 200 sk_pa (gen_ 40 (Tr nn) (gsf nn * d) 0 (a * gsf nn) (b * gsf nn)) ([], false) = q_run gsf Tr (nn : Int) a b d := rfl
                      obtain ⟨hp1, hp2⟩ := hp122
                      rw [hqr] at hp1
                      have hb2 := b2_01 (q_run gsf Tr (nn : Int) a b d).2
                      refine lv_aload_n hx hb d_M_query_125 rfl (lv_at hl 0 rfl) ?_
                      refine xw_get F hh.1 (v := .ref (ma 26)) fl_M_77_6 0 rfl rfl d_M_query_126 ?_
                      refine lv_iconst (v := xi_ 0) hx hb d_M_query_129 rfl ?_
                      refine xw_zald F hh.1 22 (f := u.2.2.2.2.2.2.2) rfl (i := 0) (by omega) d_M_query_130 ?_
                      refine xw_topi (y := b2_ (q_run gsf Tr (nn : Int) a b d).2) hp1.2.1 ?_
                      refine xw_if_eq hx hb 141 d_M_query_131 (by decide) (by omega) (fun c131 => ?_) (fun c131 => ?_)
                      · refine lv_aload_n hx hb d_M_query_141 rfl (lv_at hl 0 rfl) ?_
                        refine xw_get F hh.1 (v := .ref (ma 26)) fl_M_77_6 0 rfl rfl d_M_query_142 ?_
                        refine lv_iconst (v := xi_ 0) hx hb d_M_query_145 rfl ?_
                        refine xw_zald F hh.1 22 (f := u.2.2.2.2.2.2.2) rfl (i := 0) (by omega) d_M_query_146 ?_
                        refine xw_topi (y := b2_ (q_run gsf Tr (nn : Int) a b d).2) hp1.2.1 ?_
                        refine xw_if_eq hx hb 155 d_M_query_147 (by decide) (by omega) (fun c147 => ?_) (fun c147 => absurd c147 (by omega))
                        refine lv_aload_n hx hb d_M_query_155 rfl (lv_at hl 0 rfl) ?_
                        refine xw_get F hh.1 (v := .ref (ma 25)) fl_M_74_6 0 rfl rfl d_M_query_156 ?_
                        refine lv_iconst (v := xi_ 0) hx hb d_M_query_159 rfl ?_
                        refine xw_iald F hh.1 21 (f := u.2.2.2.2.2.2.1) rfl (i := 0) (by omega) d_M_query_160 ?_
                        refine xw_topi (y := ((q_run gsf Tr (nn : Int) a b d).1.length : Int)) hp1.1 ?_
                        have hqa : q_ans gsf Tr un st (nn : Int) a b d = (((q_run gsf Tr (nn : Int) a b d).1.length : Int), gsf nn * d, (q_run gsf Tr (nn : Int) a b d)) := by
                          unfold q_ans
                          rw [if_pos hqg, if_neg (by rw [b2_e0 c131]; decide)]
                          rfl
                        rw [hqa]
                        exact xw_iret F hr hlk hh rfl (u.1, gsf nn * d, u.2) rfl ⟨rfl, rfl, mx_of hp1⟩ trivial d_M_query_161
                      · refine lv_aload_n hx hb d_M_query_134 rfl (lv_at hl 0 rfl) ?_
                        refine xw_get F hh.1 (v := .ref (ma 25)) fl_M_74_6 0 rfl rfl d_M_query_135 ?_
                        refine lv_iconst (v := xi_ 0) hx hb d_M_query_138 rfl ?_
                        refine lv_iconst (v := xi_ 0) hx hb d_M_query_139 rfl ?_
                        refine xw_iast F hh 21 (f := u.2.2.2.2.2.2.1) rfl (i := 0) (x := 0) (by omega) d_M_query_140 (fun H locs hh => ?_)
                        have hh : xw_H G (va_A [(mo, .inr (6, mo_ ma ty at0 dp (k_wy k) un pl sp pe tk du tm)), (ma 3, .inl (G.2.2 0, 432, .inl (ja_ (a_kn A)))), (ma 4, .inl (G.2.2 0, 432, .inl (ja_ (a_on A)))), (ma 5, .inl (G.2.2 0, 432, .inl (ja_ (a_tw A)))), (ma 6, .inl (G.2.2 0, 432, .inl (ja_ (a_th A)))), (ma 7, .inl (G.2.2 0, 432, .inl (ja_ (a_fi A)))), (ma 8, .inl (G.2.2 0, 432, .inl (ja_ (a_ne A)))), (ma 9, .inl (G.2.2 0, 432, .inl (ja_ (a_co A)))), (ma 17, .inl (G.2.2 0, 50, .inl (ja_ (k_no k)))), (ma 18, .inl (G.2.2 1, 50, .inr (.inl (jl_ (k_fr k))))), (ma 19, .inl (G.2.2 1, 50, .inr (.inl (jl_ (k_to k))))), (ma 20, .inl (G.2.2 1, 50, .inr (.inl (jl_ (k_aa k))))), (ma 21, .inl (G.2.2 1, 50, .inr (.inl (jl_ (k_bb k))))), (ma 22, .inl (G.2.2 1, 50, .inr (.inl (jl_ (k_cy k))))), (ma 23, .inl (G.2.2 1, 50, .inr (.inl (jl_ (k_en k))))), (ma 24, .inl (G.2.2 0, 50, .inl (ja_ (k_sp k)))), (ma 27, .inl (G.2.2 1, 603, .inr (.inl (jl_ be)))), (ma 28, .inl (G.2.2 1, 603, .inr (.inl (jl_ so)))), (ma 29, .inl (G.2.2 1, 603, .inr (.inl (jl_ wh)))), (ma 30, .inl (G.2.2 1, 603, .inr (.inl (jl_ we)))), (ma 31, .inl (G.2.2 0, 603, .inl (ja_ le))), (ma 25, .inl (G.2.2 0, 3, .inl (ja_ mn))), (ma 26, .inl (G.2.2 3, 3, .inl (ja_ mu))), (ma 10, .inl (G.2.2 0, 9, .inl (ja_ ro))), (ma 12, .inl (G.2.2 0, 9, .inl (ja_ gr)))] s.heap.size) s.heap H locs [(mo, .inr (6, mo_ ma ty at0 dp (k_wy u.1) ((gsf nn) * d) pl sp pe tk du tm)), (ma 3, .inl (G.2.2 0, 432, .inl (ja_ (a_kn A)))), (ma 4, .inl (G.2.2 0, 432, .inl (ja_ (a_on A)))), (ma 5, .inl (G.2.2 0, 432, .inl (ja_ (a_tw A)))), (ma 6, .inl (G.2.2 0, 432, .inl (ja_ (a_th A)))), (ma 7, .inl (G.2.2 0, 432, .inl (ja_ (a_fi A)))), (ma 8, .inl (G.2.2 0, 432, .inl (ja_ (a_ne A)))), (ma 9, .inl (G.2.2 0, 432, .inl (ja_ (a_co A)))), (ma 17, .inl (G.2.2 0, 50, .inl (ja_ (k_no u.1)))), (ma 18, .inl (G.2.2 1, 50, .inr (.inl (jl_ (k_fr u.1))))), (ma 19, .inl (G.2.2 1, 50, .inr (.inl (jl_ (k_to u.1))))), (ma 20, .inl (G.2.2 1, 50, .inr (.inl (jl_ (k_aa u.1))))), (ma 21, .inl (G.2.2 1, 50, .inr (.inl (jl_ (k_bb u.1))))), (ma 22, .inl (G.2.2 1, 50, .inr (.inl (jl_ (k_cy u.1))))), (ma 23, .inl (G.2.2 1, 50, .inr (.inl (jl_ (k_en u.1))))), (ma 24, .inl (G.2.2 0, 50, .inl (ja_ (k_sp u.1)))), (ma 27, .inl (G.2.2 1, 603, .inr (.inl (jl_ u.2.1)))), (ma 28, .inl (G.2.2 1, 603, .inr (.inl (jl_ u.2.2.1)))), (ma 29, .inl (G.2.2 1, 603, .inr (.inl (jl_ u.2.2.2.1)))), (ma 30, .inl (G.2.2 1, 603, .inr (.inl (jl_ u.2.2.2.2.1)))), (ma 31, .inl (G.2.2 0, 603, .inl (ja_ u.2.2.2.2.2.1))), (ma 25, .inl (G.2.2 0, 3, .inl (ja_ (va_up u.2.2.2.2.2.2.1 0 0)))), (ma 26, .inl (G.2.2 3, 3, .inl (ja_ u.2.2.2.2.2.2.2))), (ma 10, .inl (G.2.2 0, 9, .inl (ja_ ro))), (ma 12, .inl (G.2.2 0, 9, .inl (ja_ gr)))] := hh
                        refine lv_aload_n hx hb d_M_query_141 rfl (lv_at hl 0 rfl) ?_
                        refine xw_get F hh.1 (v := .ref (ma 26)) fl_M_77_6 0 rfl rfl d_M_query_142 ?_
                        refine lv_iconst (v := xi_ 0) hx hb d_M_query_145 rfl ?_
                        refine xw_zald F hh.1 22 (f := u.2.2.2.2.2.2.2) rfl (i := 0) (by omega) d_M_query_146 ?_
                        refine xw_topi (y := b2_ (q_run gsf Tr (nn : Int) a b d).2) hp1.2.1 ?_
                        refine xw_if_eq hx hb 155 d_M_query_147 (by decide) (by omega) (fun c147 => absurd c147 (by omega)) (fun c147 => ?_)
                        refine lv_bipush (v := xi_ (-2)) hx hb d_M_query_150 (by decide) ?_
                        refine lv_goto (tgt := 161) hx hb d_M_query_152 (by decide) ?_
                        have hqa : q_ans gsf Tr un st (nn : Int) a b d = (-2, gsf nn * d, ([], false)) := by
                          unfold q_ans
                          rw [if_pos hqg, if_pos (b2_ne c131)]
                          rfl
                        rw [hqa]
                        exact xw_iret F hr hlk hh rfl (u.1, gsf nn * d, u.2.1, u.2.2.1, u.2.2.2.1, u.2.2.2.2.1, u.2.2.2.2.2.1, va_up (u.2.2.2.2.2.2.1) 0 0, u.2.2.2.2.2.2.2) rfl ⟨rfl, rfl, mx_nil hp1.2.2.2.2⟩ trivial d_M_query_161
                    · refine lv_iconst (v := xi_ (-1)) hx hb d_M_query_79 rfl ?_
                      have hqa : q_ans gsf Tr un st n a b d = (-1, un, st) := by
                        unfold q_ans
                        exact if_neg (fun q => by unfold q_good at q; omega)
                      rw [hqa]
                      exact xw_iret F hr hlk hh rfl (k, un, be, so, wh, we, le, mn, mu) rfl ⟨rfl, rfl, hmx⟩ trivial d_M_query_80
theorem ar_s {L1 L2 : List Row_} {p q : Int} {k : Nat} {r1 r2 : Row_} (h1 : L1[k]? = some r1) (h2 : L2[k]? = some r2) : ((L1.take (k + 1)).map (srow_ q) = (L2.take (k + 1)).map (srow_ p)) ↔ ((L1.take k).map (srow_ q) = (L2.take k).map (srow_ p) ∧ srow_ q r1 = srow_ p r2) := by
  obtain ⟨a1, a2⟩ := List.getElem?_eq_some_iff.mp h1
  obtain ⟨b1, b2⟩ := List.getElem?_eq_some_iff.mp h2
  rw [List.take_succ_eq_append_getElem a1, List.take_succ_eq_append_getElem b1, List.map_append, List.map_append, a2, b2, List.map_singleton, List.map_singleton]
  constructor
  · intro h
    have := List.append_inj h (by rw [List.length_map, List.length_map, List.length_take, List.length_take]; omega)
    exact ⟨this.1, by have := this.2; simpa using this⟩
  · rintro ⟨h3, h4⟩
    rw [h3, h4]
theorem srow_eq (q p : Int) (x y : Row_) : srow_ q x = srow_ p y ↔ (x.1 * q = y.1 * p ∧ x.2.1 * q = y.2.1 * p ∧ x.2.2.1 * q = y.2.2.1 * p ∧ x.2.2.2.1 * q = y.2.2.2.1 * p ∧ x.2.2.2.2 = y.2.2.2.2) := by
  unfold srow_
  rw [Prod.mk.injEq, Prod.mk.injEq, Prod.mk.injEq, Prod.mk.injEq, Int.mul_comm q, Int.mul_comm p, Int.mul_comm q, Int.mul_comm p, Int.mul_comm q, Int.mul_comm p, Int.mul_comm q, Int.mul_comm p]
def rm_M_areOther : Room := { frames := 0, cells := 0, slots := 0, locals := 0 }
set_option maxHeartbeats 4000000 in
set_option maxRecDepth 100000 in
theorem lp_M_areOther {p0 : Program} {l : Launch} {e0 : Env} {s : State} {m0 : MethodId} {args : Array Value} {below : List Frame} {meth : Method} {c0 : Code} {Q : State → Prop} {G : GG_} {A : Nat → Prop} {H0 : Heap} (F : xw_F p0 s m0 args c0 b_M_areOther 9 R_M G) (mo : Nat) (ma : Nat → Nat) (ty at0 dp wy un pl sp pe tk du tm : Int) (be so wh we le mn : Nat → Int) (L1 L2 : List Row_) (hm1 : mn 1 = (L1.length : Int)) (hm2 : mn 2 = (L2.length : Int)) (hl1 : L1.length ≤ 200) (hl2 : L2.length ≤ 200) (hr1 : mr_ (201 * 1) be wh so we le L1) (hr2 : mr_ (201 * 2) be wh so we le L2) (hbd : rbd_ be so wh we le) (p q : Int) (hpq : (1 ≤ p ∧ p ≤ 5040) ∧ (1 ≤ q ∧ q ≤ 5040)) (heq : L1.length = L2.length)
    (kt : ∀ (fl : Int) (ls : Array Slot) (H : Heap) (locs : List Loc), fl = b2_ (decide (L1.map (srow_ q) = L2.map (srow_ p))) → lv_has ls 9 [(5, .int (xi_ fl))] → xw_H G A H0 H locs [(mo, .inr (6, mo_ ma ty at0 dp wy un pl sp pe tk du tm)), (ma 27, .inl (G.2.2 1, 603, .inr (.inl (jl_ be)))), (ma 28, .inl (G.2.2 1, 603, .inr (.inl (jl_ so)))), (ma 29, .inl (G.2.2 1, 603, .inr (.inl (jl_ wh)))), (ma 30, .inl (G.2.2 1, 603, .inr (.inl (jl_ we)))), (ma 31, .inl (G.2.2 0, 603, .inl (ja_ le))), (ma 25, .inl (G.2.2 0, 3, .inl (ja_ mn)))] → W p0 l e0 rm_M_areOther s m0 args below meth c0 H locs 0 0 Q (F0 m0 173 ls [])) :
    ∀ (N : Nat) (k : Nat) (fl ki : Int) (ls : Array Slot) (H : Heap) (locs : List Loc), L1.length - k < N → k ≤ L1.length → ki = (k : Int) → fl = b2_ (decide ((L1.take k).map (srow_ q) = (L2.take k).map (srow_ p))) → lv_has ls 9 [(5, .int (xi_ fl)), (6, .int (xi_ ki)), (0, .ref mo), (1, .long (xl_ p)), (3, .long (xl_ q))] → xw_H G A H0 H locs [(mo, .inr (6, mo_ ma ty at0 dp wy un pl sp pe tk du tm)), (ma 27, .inl (G.2.2 1, 603, .inr (.inl (jl_ be)))), (ma 28, .inl (G.2.2 1, 603, .inr (.inl (jl_ so)))), (ma 29, .inl (G.2.2 1, 603, .inr (.inl (jl_ wh)))), (ma 30, .inl (G.2.2 1, 603, .inr (.inl (jl_ we)))), (ma 31, .inl (G.2.2 0, 603, .inl (ja_ le))), (ma 25, .inl (G.2.2 0, 3, .inl (ja_ mn)))] → W p0 l e0 rm_M_areOther s m0 args below meth c0 H locs 0 0 Q (F0 m0 23 ls []) := by
  have hx := F.1
  have hb := F.2.1
  intro N
  induction N with
  | zero => intro k fl ki ls H locs h; omega
  | succ N ihn =>
    intro k fl ki ls H locs hN1 hk hki hfl hl hh
    have hfb := b2_01 (decide ((L1.take k).map (srow_ q) = (L2.take k).map (srow_ p)))
    refine lv_iload hx hb d_M_areOther_23 (lv_at hl 1 rfl) ?_
    refine lv_aload_n hx hb d_M_areOther_25 rfl (lv_at hl 2 rfl) ?_
    refine xw_get F hh.1 (v := .ref (ma 25)) fl_M_74_6 0 rfl rfl d_M_areOther_26 ?_
    refine lv_iconst (v := xi_ 1) hx hb d_M_areOther_29 rfl ?_
    refine xw_iald F hh.1 6 (f := mn) rfl (i := 1) (by omega) d_M_areOther_30 ?_
    refine xw_topi (y := (L1.length : Int)) hm1 ?_
    refine xw_icmp_ge hx hb 173 d_M_areOther_31 (by decide) (by omega) (fun c31 => ?_) (fun c31 => ?_)
    · have ek : k = L1.length := by omega
      rw [ek, List.take_length, heq, List.take_length] at hfl
      exact kt fl ls H locs hfl (lv_sub hl [0] rfl) hh
    · have hr1k := hr1 k _ (List.getElem?_eq_getElem (show k < L1.length by omega))
      have hr2k := hr2 k _ (List.getElem?_eq_getElem (show k < L2.length by omega))
      have har := ar_s (p := p) (q := q) (List.getElem?_eq_getElem (show k < L1.length by omega)) (List.getElem?_eq_getElem (show k < L2.length by omega))
      rw [hr1k, hr2k, srow_eq] at har
      dsimp only at har
      obtain ⟨x1, x2, x3, x4, x5⟩ := hbd (201 * 1 + k)
      obtain ⟨y1, y2, y3, y4, y5⟩ := hbd (201 * 2 + k)
      have hxbe := ab_prod (x := be (201 * 1 + k)) (g := q) (B := 1000000000000000) (C := 5040) (by omega) (by omega)
      have hybe := ab_prod (x := be (201 * 2 + k)) (g := p) (B := 1000000000000000) (C := 5040) (by omega) (by omega)
      have hxso := ab_prod (x := so (201 * 1 + k)) (g := q) (B := 1000000000000000) (C := 5040) (by omega) (by omega)
      have hyso := ab_prod (x := so (201 * 2 + k)) (g := p) (B := 1000000000000000) (C := 5040) (by omega) (by omega)
      have hxwh := ab_prod (x := wh (201 * 1 + k)) (g := q) (B := 1000000000000000) (C := 5040) (by omega) (by omega)
      have hywh := ab_prod (x := wh (201 * 2 + k)) (g := p) (B := 1000000000000000) (C := 5040) (by omega) (by omega)
      have hxwe := ab_prod (x := we (201 * 1 + k)) (g := q) (B := 1000000000000000) (C := 5040) (by omega) (by omega)
      have hywe := ab_prod (x := we (201 * 2 + k)) (g := p) (B := 1000000000000000) (C := 5040) (by omega) (by omega)
      refine lv_sipush (v := xi_ 201) hx hb d_M_areOther_34 (by decide) ?_
      refine lv_iload hx hb d_M_areOther_37 (lv_at hl 1 rfl) ?_
      refine xw_iadd hx hb d_M_areOther_39 ?_
      refine lv_istore (lv' := [(7, .int (xi_ (201 + ki))), (5, .int (xi_ fl)), (6, .int (xi_ ki)), (0, .ref mo), (1, .long (xl_ p)), (3, .long (xl_ q))]) hx hb d_M_areOther_40 hl (by decide) rfl (fun ls hl => ?_)
      refine lv_sipush (v := xi_ 402) hx hb d_M_areOther_42 (by decide) ?_
      refine lv_iload hx hb d_M_areOther_45 (lv_at hl 2 rfl) ?_
      refine xw_iadd hx hb d_M_areOther_47 ?_
      refine lv_istore (lv' := [(8, .int (xi_ (402 + ki))), (7, .int (xi_ (201 + ki))), (5, .int (xi_ fl)), (6, .int (xi_ ki)), (0, .ref mo), (1, .long (xl_ p)), (3, .long (xl_ q))]) hx hb d_M_areOther_48 hl (by decide) rfl (fun ls hl => ?_)
      refine lv_iload hx hb d_M_areOther_50 (lv_at hl 2 rfl) ?_
      refine xw_if_eq hx hb 164 d_M_areOther_52 (by decide) (by omega) (fun c52 => ?_) (fun c52 => ?_)
      · refine lv_iconst (v := xi_ 0) hx hb d_M_areOther_164 rfl ?_
        refine lv_istore (lv' := [(5, .int (xi_ 0)), (8, .int (xi_ (402 + ki))), (7, .int (xi_ (201 + ki))), (6, .int (xi_ ki)), (0, .ref mo), (1, .long (xl_ p)), (3, .long (xl_ q))]) hx hb d_M_areOther_165 hl (by decide) rfl (fun ls hl => ?_)
        refine lv_iinc (k := 3) (v := xi_ (ki + 1)) (lv' := [(6, .int (xi_ (ki + 1))), (5, .int (xi_ 0)), (8, .int (xi_ (402 + ki))), (7, .int (xi_ (201 + ki))), (0, .ref mo), (1, .long (xl_ p)), (3, .long (xl_ q))]) hx hb d_M_areOther_167 hl rfl (xi_add _ _).symm (by decide) rfl (fun ls hl => ?_)
        refine lv_goto (tgt := 23) hx hb d_M_areOther_170 (by decide) ?_
        exact ihn (k + 1) 0 (ki + 1) ls H locs (by omega) (by omega) (by omega) (b2_f (decide_eq_false (fun z => of_decide_eq_false (b2_e0 (hfl.symm.trans c52)) (har.mp z).1))) (lv_sub hl [1, 0, 4, 5, 6] rfl) hh
      · refine lv_aload_n hx hb d_M_areOther_55 rfl (lv_at hl 4 rfl) ?_
        refine xw_get F hh.1 (v := .ref (ma 27)) fl_M_81_6 0 rfl rfl d_M_areOther_56 ?_
        refine lv_iload hx hb d_M_areOther_59 (lv_at hl 1 rfl) ?_
        refine xw_lald F hh.1 1 (f := be) rfl (i := 201 + ki) (by omega) d_M_areOther_61 ?_
        refine xw_topl (y := be (201 * 1 + k)) (congrArg be (by omega)) ?_
        refine lv_lload_n hx hb d_M_areOther_62 rfl (lv_at hl 6 rfl) ?_
        refine xw_lmul hx hb d_M_areOther_63 ?_
        refine lv_aload_n hx hb d_M_areOther_64 rfl (lv_at hl 4 rfl) ?_
        refine xw_get F hh.1 (v := .ref (ma 27)) fl_M_81_6 0 rfl rfl d_M_areOther_65 ?_
        refine lv_iload hx hb d_M_areOther_68 (lv_at hl 0 rfl) ?_
        refine xw_lald F hh.1 1 (f := be) rfl (i := 402 + ki) (by omega) d_M_areOther_70 ?_
        refine xw_topl (y := be (201 * 2 + k)) (congrArg be (by omega)) ?_
        refine lv_lload_n hx hb d_M_areOther_71 rfl (lv_at hl 5 rfl) ?_
        refine xw_lmul hx hb d_M_areOther_72 ?_
        refine xw_lcmp_ne hx hb 164 d_M_areOther_73 d_M_areOther_74 (by decide) (by omega) (fun c73 => ?_) (fun c73 => ?_)
        · refine lv_iconst (v := xi_ 0) hx hb d_M_areOther_164 rfl ?_
          refine lv_istore (lv' := [(5, .int (xi_ 0)), (8, .int (xi_ (402 + ki))), (7, .int (xi_ (201 + ki))), (6, .int (xi_ ki)), (0, .ref mo), (1, .long (xl_ p)), (3, .long (xl_ q))]) hx hb d_M_areOther_165 hl (by decide) rfl (fun ls hl => ?_)
          refine lv_iinc (k := 3) (v := xi_ (ki + 1)) (lv' := [(6, .int (xi_ (ki + 1))), (5, .int (xi_ 0)), (8, .int (xi_ (402 + ki))), (7, .int (xi_ (201 + ki))), (0, .ref mo), (1, .long (xl_ p)), (3, .long (xl_ q))]) hx hb d_M_areOther_167 hl rfl (xi_add _ _).symm (by decide) rfl (fun ls hl => ?_)
          refine lv_goto (tgt := 23) hx hb d_M_areOther_170 (by decide) ?_
          exact ihn (k + 1) 0 (ki + 1) ls H locs (by omega) (by omega) (by omega) (b2_f (decide_eq_false (fun z => c73 (har.mp z).2.1))) (lv_sub hl [1, 0, 4, 5, 6] rfl) hh
        · refine lv_aload_n hx hb d_M_areOther_77 rfl (lv_at hl 4 rfl) ?_
          refine xw_get F hh.1 (v := .ref (ma 28)) fl_M_84_6 0 rfl rfl d_M_areOther_78 ?_
          refine lv_iload hx hb d_M_areOther_81 (lv_at hl 1 rfl) ?_
          refine xw_lald F hh.1 2 (f := so) rfl (i := 201 + ki) (by omega) d_M_areOther_83 ?_
          refine xw_topl (y := so (201 * 1 + k)) (congrArg so (by omega)) ?_
          refine lv_lload_n hx hb d_M_areOther_84 rfl (lv_at hl 6 rfl) ?_
          refine xw_lmul hx hb d_M_areOther_85 ?_
          refine lv_aload_n hx hb d_M_areOther_86 rfl (lv_at hl 4 rfl) ?_
          refine xw_get F hh.1 (v := .ref (ma 28)) fl_M_84_6 0 rfl rfl d_M_areOther_87 ?_
          refine lv_iload hx hb d_M_areOther_90 (lv_at hl 0 rfl) ?_
          refine xw_lald F hh.1 2 (f := so) rfl (i := 402 + ki) (by omega) d_M_areOther_92 ?_
          refine xw_topl (y := so (201 * 2 + k)) (congrArg so (by omega)) ?_
          refine lv_lload_n hx hb d_M_areOther_93 rfl (lv_at hl 5 rfl) ?_
          refine xw_lmul hx hb d_M_areOther_94 ?_
          refine xw_lcmp_ne hx hb 164 d_M_areOther_95 d_M_areOther_96 (by decide) (by omega) (fun c95 => ?_) (fun c95 => ?_)
          · refine lv_iconst (v := xi_ 0) hx hb d_M_areOther_164 rfl ?_
            refine lv_istore (lv' := [(5, .int (xi_ 0)), (8, .int (xi_ (402 + ki))), (7, .int (xi_ (201 + ki))), (6, .int (xi_ ki)), (0, .ref mo), (1, .long (xl_ p)), (3, .long (xl_ q))]) hx hb d_M_areOther_165 hl (by decide) rfl (fun ls hl => ?_)
            refine lv_iinc (k := 3) (v := xi_ (ki + 1)) (lv' := [(6, .int (xi_ (ki + 1))), (5, .int (xi_ 0)), (8, .int (xi_ (402 + ki))), (7, .int (xi_ (201 + ki))), (0, .ref mo), (1, .long (xl_ p)), (3, .long (xl_ q))]) hx hb d_M_areOther_167 hl rfl (xi_add _ _).symm (by decide) rfl (fun ls hl => ?_)
            refine lv_goto (tgt := 23) hx hb d_M_areOther_170 (by decide) ?_
            exact ihn (k + 1) 0 (ki + 1) ls H locs (by omega) (by omega) (by omega) (b2_f (decide_eq_false (fun z => c95 (har.mp z).2.2.2.1))) (lv_sub hl [1, 0, 4, 5, 6] rfl) hh
          · refine lv_aload_n hx hb d_M_areOther_99 rfl (lv_at hl 4 rfl) ?_
            refine xw_get F hh.1 (v := .ref (ma 29)) fl_M_87_6 0 rfl rfl d_M_areOther_100 ?_
            refine lv_iload hx hb d_M_areOther_103 (lv_at hl 1 rfl) ?_
            refine xw_lald F hh.1 3 (f := wh) rfl (i := 201 + ki) (by omega) d_M_areOther_105 ?_
            refine xw_topl (y := wh (201 * 1 + k)) (congrArg wh (by omega)) ?_
            refine lv_lload_n hx hb d_M_areOther_106 rfl (lv_at hl 6 rfl) ?_
            refine xw_lmul hx hb d_M_areOther_107 ?_
            refine lv_aload_n hx hb d_M_areOther_108 rfl (lv_at hl 4 rfl) ?_
            refine xw_get F hh.1 (v := .ref (ma 29)) fl_M_87_6 0 rfl rfl d_M_areOther_109 ?_
            refine lv_iload hx hb d_M_areOther_112 (lv_at hl 0 rfl) ?_
            refine xw_lald F hh.1 3 (f := wh) rfl (i := 402 + ki) (by omega) d_M_areOther_114 ?_
            refine xw_topl (y := wh (201 * 2 + k)) (congrArg wh (by omega)) ?_
            refine lv_lload_n hx hb d_M_areOther_115 rfl (lv_at hl 5 rfl) ?_
            refine xw_lmul hx hb d_M_areOther_116 ?_
            refine xw_lcmp_ne hx hb 164 d_M_areOther_117 d_M_areOther_118 (by decide) (by omega) (fun c117 => ?_) (fun c117 => ?_)
            · refine lv_iconst (v := xi_ 0) hx hb d_M_areOther_164 rfl ?_
              refine lv_istore (lv' := [(5, .int (xi_ 0)), (8, .int (xi_ (402 + ki))), (7, .int (xi_ (201 + ki))), (6, .int (xi_ ki)), (0, .ref mo), (1, .long (xl_ p)), (3, .long (xl_ q))]) hx hb d_M_areOther_165 hl (by decide) rfl (fun ls hl => ?_)
              refine lv_iinc (k := 3) (v := xi_ (ki + 1)) (lv' := [(6, .int (xi_ (ki + 1))), (5, .int (xi_ 0)), (8, .int (xi_ (402 + ki))), (7, .int (xi_ (201 + ki))), (0, .ref mo), (1, .long (xl_ p)), (3, .long (xl_ q))]) hx hb d_M_areOther_167 hl rfl (xi_add _ _).symm (by decide) rfl (fun ls hl => ?_)
              refine lv_goto (tgt := 23) hx hb d_M_areOther_170 (by decide) ?_
              exact ihn (k + 1) 0 (ki + 1) ls H locs (by omega) (by omega) (by omega) (b2_f (decide_eq_false (fun z => c117 (har.mp z).2.2.1))) (lv_sub hl [1, 0, 4, 5, 6] rfl) hh
            · refine lv_aload_n hx hb d_M_areOther_121 rfl (lv_at hl 4 rfl) ?_
              refine xw_get F hh.1 (v := .ref (ma 30)) fl_M_90_6 0 rfl rfl d_M_areOther_122 ?_
              refine lv_iload hx hb d_M_areOther_125 (lv_at hl 1 rfl) ?_
              refine xw_lald F hh.1 4 (f := we) rfl (i := 201 + ki) (by omega) d_M_areOther_127 ?_
              refine xw_topl (y := we (201 * 1 + k)) (congrArg we (by omega)) ?_
              refine lv_lload_n hx hb d_M_areOther_128 rfl (lv_at hl 6 rfl) ?_
              refine xw_lmul hx hb d_M_areOther_129 ?_
              refine lv_aload_n hx hb d_M_areOther_130 rfl (lv_at hl 4 rfl) ?_
              refine xw_get F hh.1 (v := .ref (ma 30)) fl_M_90_6 0 rfl rfl d_M_areOther_131 ?_
              refine lv_iload hx hb d_M_areOther_134 (lv_at hl 0 rfl) ?_
              refine xw_lald F hh.1 4 (f := we) rfl (i := 402 + ki) (by omega) d_M_areOther_136 ?_
              refine xw_topl (y := we (201 * 2 + k)) (congrArg we (by omega)) ?_
              refine lv_lload_n hx hb d_M_areOther_137 rfl (lv_at hl 5 rfl) ?_
              refine xw_lmul hx hb d_M_areOther_138 ?_
              refine xw_lcmp_ne hx hb 164 d_M_areOther_139 d_M_areOther_140 (by decide) (by omega) (fun c139 => ?_) (fun c139 => ?_)
              · refine lv_iconst (v := xi_ 0) hx hb d_M_areOther_164 rfl ?_
                refine lv_istore (lv' := [(5, .int (xi_ 0)), (8, .int (xi_ (402 + ki))), (7, .int (xi_ (201 + ki))), (6, .int (xi_ ki)), (0, .ref mo), (1, .long (xl_ p)), (3, .long (xl_ q))]) hx hb d_M_areOther_165 hl (by decide) rfl (fun ls hl => ?_)
                refine lv_iinc (k := 3) (v := xi_ (ki + 1)) (lv' := [(6, .int (xi_ (ki + 1))), (5, .int (xi_ 0)), (8, .int (xi_ (402 + ki))), (7, .int (xi_ (201 + ki))), (0, .ref mo), (1, .long (xl_ p)), (3, .long (xl_ q))]) hx hb d_M_areOther_167 hl rfl (xi_add _ _).symm (by decide) rfl (fun ls hl => ?_)
                refine lv_goto (tgt := 23) hx hb d_M_areOther_170 (by decide) ?_
                exact ihn (k + 1) 0 (ki + 1) ls H locs (by omega) (by omega) (by omega) (b2_f (decide_eq_false (fun z => c139 (har.mp z).2.2.2.2.1))) (lv_sub hl [1, 0, 4, 5, 6] rfl) hh
              · refine lv_aload_n hx hb d_M_areOther_143 rfl (lv_at hl 4 rfl) ?_
                refine xw_get F hh.1 (v := .ref (ma 31)) fl_M_93_6 0 rfl rfl d_M_areOther_144 ?_
                refine lv_iload hx hb d_M_areOther_147 (lv_at hl 1 rfl) ?_
                refine xw_iald F hh.1 5 (f := le) rfl (i := 201 + ki) (by omega) d_M_areOther_149 ?_
                refine xw_topi (y := le (201 * 1 + k)) (congrArg le (by omega)) ?_
                refine lv_aload_n hx hb d_M_areOther_150 rfl (lv_at hl 4 rfl) ?_
                refine xw_get F hh.1 (v := .ref (ma 31)) fl_M_93_6 0 rfl rfl d_M_areOther_151 ?_
                refine lv_iload hx hb d_M_areOther_154 (lv_at hl 0 rfl) ?_
                refine xw_iald F hh.1 5 (f := le) rfl (i := 402 + ki) (by omega) d_M_areOther_156 ?_
                refine xw_topi (y := le (201 * 2 + k)) (congrArg le (by omega)) ?_
                refine xw_icmp_ne hx hb 164 d_M_areOther_157 (by decide) (by omega) (fun c157 => ?_) (fun c157 => ?_)
                · refine lv_iconst (v := xi_ 0) hx hb d_M_areOther_164 rfl ?_
                  refine lv_istore (lv' := [(5, .int (xi_ 0)), (8, .int (xi_ (402 + ki))), (7, .int (xi_ (201 + ki))), (6, .int (xi_ ki)), (0, .ref mo), (1, .long (xl_ p)), (3, .long (xl_ q))]) hx hb d_M_areOther_165 hl (by decide) rfl (fun ls hl => ?_)
                  refine lv_iinc (k := 3) (v := xi_ (ki + 1)) (lv' := [(6, .int (xi_ (ki + 1))), (5, .int (xi_ 0)), (8, .int (xi_ (402 + ki))), (7, .int (xi_ (201 + ki))), (0, .ref mo), (1, .long (xl_ p)), (3, .long (xl_ q))]) hx hb d_M_areOther_167 hl rfl (xi_add _ _).symm (by decide) rfl (fun ls hl => ?_)
                  refine lv_goto (tgt := 23) hx hb d_M_areOther_170 (by decide) ?_
                  exact ihn (k + 1) 0 (ki + 1) ls H locs (by omega) (by omega) (by omega) (b2_f (decide_eq_false (fun z => c157 (har.mp z).2.2.2.2.2))) (lv_sub hl [1, 0, 4, 5, 6] rfl) hh
                · refine lv_iconst (v := xi_ 1) hx hb d_M_areOther_160 rfl ?_
                  refine lv_goto (tgt := 165) hx hb d_M_areOther_161 (by decide) ?_
                  refine lv_istore (lv' := [(5, .int (xi_ 1)), (8, .int (xi_ (402 + ki))), (7, .int (xi_ (201 + ki))), (6, .int (xi_ ki)), (0, .ref mo), (1, .long (xl_ p)), (3, .long (xl_ q))]) hx hb d_M_areOther_165 hl (by decide) rfl (fun ls hl => ?_)
                  refine lv_iinc (k := 3) (v := xi_ (ki + 1)) (lv' := [(6, .int (xi_ (ki + 1))), (5, .int (xi_ 1)), (8, .int (xi_ (402 + ki))), (7, .int (xi_ (201 + ki))), (0, .ref mo), (1, .long (xl_ p)), (3, .long (xl_ q))]) hx hb d_M_areOther_167 hl rfl (xi_add _ _).symm (by decide) rfl (fun ls hl => ?_)
                  refine lv_goto (tgt := 23) hx hb d_M_areOther_170 (by decide) ?_
                  exact ihn (k + 1) 1 (ki + 1) ls H locs (by omega) (by omega) (by omega) (b2_t (decide_eq_true (har.mpr ⟨of_decide_eq_true (b2_ne (by rw [← hfl]; exact c52)), c73, c117, c95, c139, c157⟩))) (lv_sub hl [1, 0, 4, 5, 6] rfl) hh
set_option maxHeartbeats 4000000 in
set_option maxRecDepth 100000 in
theorem c_M_areOther (l : Launch) (G : GG_) (sz : Nat) (mo : Nat) (ma : Nat → Nat) (ty at0 dp wy un pl sp pe tk du tm : Int) (be so wh we le mn : Nat → Int) (L1 L2 : List Row_) (hm1 : mn 1 = (L1.length : Int)) (hm2 : mn 2 = (L2.length : Int)) (hl1 : L1.length ≤ 200) (hl2 : L2.length ≤ 200) (hr1 : mr_ (201 * 1) be wh so we le L1) (hr2 : mr_ (201 * 2) be wh so we le L2) (hbd : rbd_ be so wh we le) (p q : Int) (hpq : (1 ≤ p ∧ p ≤ 5040) ∧ (1 ≤ q ∧ q ≤ 5040)) : Met l y_M_areOther (cw_ y_M_areOther b_M_areOther 9 (some .boolean)) rm_M_areOther (xw_P G [.ref mo, .long (xl_ p), .long (xl_ q)] sz [(mo, .inr (6, mo_ ma ty at0 dp wy un pl sp pe tk du tm)), (ma 27, .inl (G.2.2 1, 603, .inr (.inl (jl_ be)))), (ma 28, .inl (G.2.2 1, 603, .inr (.inl (jl_ so)))), (ma 29, .inl (G.2.2 1, 603, .inr (.inl (jl_ wh)))), (ma 30, .inl (G.2.2 1, 603, .inr (.inl (jl_ we)))), (ma 31, .inl (G.2.2 0, 603, .inl (ja_ le))), (ma 25, .inl (G.2.2 0, 3, .inl (ja_ mn)))] (fun _ => True)) (xw_Qi (S := Unit) G sz [(mo, .inr (6, mo_ ma ty at0 dp wy un pl sp pe tk du tm)), (ma 27, .inl (G.2.2 1, 603, .inr (.inl (jl_ be)))), (ma 28, .inl (G.2.2 1, 603, .inr (.inl (jl_ so)))), (ma 29, .inl (G.2.2 1, 603, .inr (.inl (jl_ wh)))), (ma 30, .inl (G.2.2 1, 603, .inr (.inl (jl_ we)))), (ma 31, .inl (G.2.2 0, 603, .inl (ja_ le))), (ma 25, .inl (G.2.2 0, 3, .inl (ja_ mn)))] (fun z _ => z = b2_ (! decide (L1.map (srow_ q) = L2.map (srow_ p)))) (fun _ => [(mo, .inr (6, mo_ ma ty at0 dp wy un pl sp pe tk du tm)), (ma 27, .inl (G.2.2 1, 603, .inr (.inl (jl_ be)))), (ma 28, .inl (G.2.2 1, 603, .inr (.inl (jl_ so)))), (ma 29, .inl (G.2.2 1, 603, .inr (.inl (jl_ wh)))), (ma 30, .inl (G.2.2 1, 603, .inr (.inl (jl_ we)))), (ma 31, .inl (G.2.2 0, 603, .inl (ja_ le))), (ma 25, .inl (G.2.2 0, 3, .inl (ja_ mn)))]) (fun _ _ => True)) 0 0 (va_A [(mo, .inr (6, mo_ ma ty at0 dp wy un pl sp pe tk du tm)), (ma 27, .inl (G.2.2 1, 603, .inr (.inl (jl_ be)))), (ma 28, .inl (G.2.2 1, 603, .inr (.inl (jl_ so)))), (ma 29, .inl (G.2.2 1, 603, .inr (.inl (jl_ wh)))), (ma 30, .inl (G.2.2 1, 603, .inr (.inl (jl_ we)))), (ma 31, .inl (G.2.2 0, 603, .inl (ja_ le))), (ma 25, .inl (G.2.2 0, 3, .inl (ja_ mn)))] sz) := by
  refine xw_met (by decide) (Nat.le_of_ble_eq_true rfl) ?_
  intro p0 e0 s m0 args below meth c0 F hr hlk hin hsz hh hX ls hl
  subst hsz
  have hx := F.1
  have hb := F.2.1
  have hl : lv_has ls 9 [(0, .ref mo), (1, .long (xl_ p)), (3, .long (xl_ q))] := hl
  refine lv_aload_n hx hb d_M_areOther_0 rfl (lv_at hl 0 rfl) ?_
  refine xw_get F hh.1 (v := .ref (ma 25)) fl_M_74_6 0 rfl rfl d_M_areOther_1 ?_
  refine lv_iconst (v := xi_ 1) hx hb d_M_areOther_4 rfl ?_
  refine xw_iald F hh.1 6 (f := mn) rfl (i := 1) (by omega) d_M_areOther_5 ?_
  refine xw_topi (y := (L1.length : Int)) hm1 ?_
  refine lv_aload_n hx hb d_M_areOther_6 rfl (lv_at hl 0 rfl) ?_
  refine xw_get F hh.1 (v := .ref (ma 25)) fl_M_74_6 0 rfl rfl d_M_areOther_7 ?_
  refine lv_iconst (v := xi_ 2) hx hb d_M_areOther_10 rfl ?_
  refine xw_iald F hh.1 6 (f := mn) rfl (i := 2) (by omega) d_M_areOther_11 ?_
  refine xw_topi (y := (L2.length : Int)) hm2 ?_
  refine xw_icmp_eq hx hb 17 d_M_areOther_12 (by decide) (by omega) (fun c12 => ?_) (fun c12 => ?_)
  · refine lv_iconst (v := xi_ 1) hx hb d_M_areOther_17 rfl ?_
    refine lv_istore (lv' := [(5, .int (xi_ 1)), (0, .ref mo), (1, .long (xl_ p)), (3, .long (xl_ q))]) hx hb d_M_areOther_18 hl (by decide) rfl (fun ls hl => ?_)
    refine lv_iconst (v := xi_ 0) hx hb d_M_areOther_20 rfl ?_
    refine lv_istore (lv' := [(6, .int (xi_ 0)), (5, .int (xi_ 1)), (0, .ref mo), (1, .long (xl_ p)), (3, .long (xl_ q))]) hx hb d_M_areOther_21 hl (by decide) rfl (fun ls hl => ?_)
    refine lp_M_areOther F mo ma ty at0 dp wy un pl sp pe tk du tm be so wh we le mn L1 L2 hm1 hm2 hl1 hl2 hr1 hr2 hbd p q hpq (by omega) (fun fl ls H locs hfl hl hh => ?_) (L1.length + 1) 0 1 0 ls s.heap _ (by omega) (by omega) rfl rfl (lv_sub hl [1, 0, 2, 3, 4] rfl) hh
    have hfb := b2_01 (decide (L1.map (srow_ q) = L2.map (srow_ p)))
    refine lv_iload hx hb d_M_areOther_173 (lv_at hl 0 rfl) ?_
    refine xw_if_ne hx hb 182 d_M_areOther_175 (by decide) (by omega) (fun c175 => ?_) (fun c175 => ?_)
    · refine lv_iconst (v := xi_ 0) hx hb d_M_areOther_182 rfl ?_
      exact xw_iret F hr hlk hh (by decide) () rfl (by exact b2_f (by rw [b2_ne (fun z => c175 (hfl.trans z))]; rfl)) trivial d_M_areOther_183
    · refine lv_iconst (v := xi_ 1) hx hb d_M_areOther_178 rfl ?_
      refine lv_goto (tgt := 183) hx hb d_M_areOther_179 (by decide) ?_
      exact xw_iret F hr hlk hh (by decide) () rfl (by exact b2_t (by rw [b2_e0 (hfl.symm.trans c175)]; rfl)) trivial d_M_areOther_183
  · refine lv_iconst (v := xi_ 1) hx hb d_M_areOther_15 rfl ?_
    exact xw_iret F hr hlk hh (by decide) () rfl (by exact b2_t (by rw [Bool.not_eq_true', decide_eq_false_iff_not]; intro z; have := congrArg List.length z; rw [List.length_map, List.length_map] at this; omega)) trivial d_M_areOther_16
