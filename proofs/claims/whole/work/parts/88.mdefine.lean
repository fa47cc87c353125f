/-! the model: define -/
theorem qr_case {bf : Nat → Int} {len : Nat} {zs z' : MZ} {v : Int} (h : qr_ bf len zs v z') : agr_ 384 (z_A zs) (z_A z') ∧ ((0 ≤ v ∧ v ≤ (len : Int) ∧ (rd_R bf len).1 = none ∧ v = ((rd_R bf len).2 : Int)) ∨ (v = -1 ∧ ∃ T, (rd_R bf len).1 = some T ∧ z_rt z' = 0 ∧ rep_ (z_A z') 384 40 T 0 (z_sz z' : Int) ∧ z_sz z' ≤ 48)) := by
  obtain ⟨h1, h2⟩ := h
  refine ⟨h2, ?_⟩
  have hle := prs_le bf len 40 0 (Nat.zero_le _)
  unfold rd_R
  dsimp only
  rcases e : prs_ bf len 40 0 with ⟨_ | T, b⟩
  · rw [e] at h1 hle
    dsimp only at h1 hle ⊢
    refine Or.inl ⟨by omega, by omega, ?_, h1⟩
    split <;> rfl
  · rw [e] at h1 hle
    dsimp only at h1 hle ⊢
    split at h1
    · rename_i hb
      exact Or.inl ⟨by omega, by omega, if_neg (by omega), h1⟩
    · rename_i hb
      obtain ⟨q1, q2, q3, q4⟩ := h1
      exact Or.inr ⟨q1, T, if_pos (by omega), q2, q3, q4⟩
theorem de_no {bf : Nat → Int} {len : Nat} {n : Int} (h : (rd_R bf len).1 = none) (hn : 0 ≤ n ∧ n < 8) : de_ans bf len n = -100 - ((rd_R bf len).2 : Int) ∧ de_T bf len n = none := by
  unfold de_ans de_T
  rw [if_pos hn, if_pos hn, h]
  exact ⟨rfl, rfl⟩
theorem de_full {bf : Nat → Int} {len : Nat} {n : Int} {T : PT 40} (h : (rd_R bf len).1 = some T) (hn : 0 ≤ n ∧ n < 8) (hg : ¬ gf_ 40 T 1 ≤ 5040) : de_ans bf len n = -3 ∧ de_T bf len n = none := by
  unfold de_ans de_T
  rw [if_pos hn, if_pos hn, h]
  dsimp only
  rw [if_neg hg, if_neg hg]
  exact ⟨rfl, rfl⟩
theorem de_yes {bf : Nat → Int} {len : Nat} {n : Int} {T : PT 40} (h : (rd_R bf len).1 = some T) (hn : 0 ≤ n ∧ n < 8) (hg : gf_ 40 T 1 ≤ 5040) : de_ans bf len n = gf_ 40 T 1 ∧ de_T bf len n = some T := by
  unfold de_ans de_T
  rw [if_pos hn, if_pos hn, h]
  dsimp only
  rw [if_pos hg, if_pos hg]
  exact ⟨rfl, rfl⟩
theorem de_keep {bf : Nat → Int} {len : Nat} {n : Int} (h : de_T bf len n = none) (gsf : Nat → Int) (Tr : Nat → PT 40) : de_gs bf len gsf n = gsf ∧ de_Tr bf len Tr n = Tr := by
  unfold de_gs de_Tr
  rw [h]
  exact ⟨rfl, rfl⟩
theorem de_put {bf : Nat → Int} {len : Nat} {n : Int} {T : PT 40} (h : de_T bf len n = some T) (gsf : Nat → Int) (Tr : Nat → PT 40) : de_gs bf len gsf n = va_up gsf n.toNat (gf_ 40 T 1) ∧ de_Tr bf len Tr n = va_up Tr n.toNat T := by
  unfold de_gs de_Tr
  rw [h]
  exact ⟨rfl, rfl⟩
theorem rep_kn {A : MT} {b : Int} : ∀ {d : Nat} {T : PT d} {n m : Int}, rep_ A b d T n m → wf_ d T → ∀ q : Int, n ≤ q → q < m → 0 ≤ a_kn A (b + q).toNat ∧ a_kn A (b + q).toNat ≤ 10
  | 0, _, _, _, h, _ => h.elim
  | d + 1, T, n, m, h, hw => fun q q1 q2 => by
    obtain ⟨h1, h2, _, _, _, _, _, _, ps, p0, p1, p2⟩ := h
    by_cases hq : q = n
    · subst hq
      rw [h2]
      have hc := kf_cases (tr_kd T)
      rcases hw.1 with g | g | g | g | g | g | g <;> omega
    · have key : ∀ j : Nat, j ≤ (tr_cs T).length → q < ps j → 0 ≤ a_kn A (b + q).toNat ∧ a_kn A (b + q).toNat ≤ 10 := by
        intro j
        induction j with
        | zero => intro _ hlt; omega
        | succ j ih =>
          intro hj hlt
          by_cases hq2 : q < ps j
          · exact ih (by omega) hq2
          · have hl : j < (tr_cs T).length := by omega
            exact rep_kn (p2 j _ (List.getElem?_eq_getElem hl)).1 (hw.2 _ (List.getElem_mem hl)) q (by omega) hlt
      exact key _ (Nat.le_refl _) (by omega)
def rm_M_define : Room := { frames := 4, cells := 0, slots := 0, locals := 88 }
set_option maxHeartbeats 4000000 in
set_option maxRecDepth 100000 in
theorem lp_M_define {p0 : Program} {l : Launch} {e0 : Env} {s : State} {m0 : MethodId} {args : Array Value} {below : List Frame} {meth : Method} {c0 : Code} {Q : State → Prop} {G : GG_} {A : Nat → Prop} {H0 : Heap} (F : xw_F p0 s m0 args c0 b_M_define 5 R_M G) (mo : Nat) (ma : Nat → Nat) (wy un sp pe tm : Int) (bf ro si gr : Nat → Int) (z : MZ) (nn : Nat) (hnn : nn < 8) (gg : Int) (hs48 : z_sz z ≤ 48)
    (kt : ∀ (ls : Array Slot) (H : Heap) (locs : List Loc), lv_has ls 5 [(0, .ref mo), (1, .int (xi_ (nn : Int))), (3, .int (xi_ gg))] → xw_H G A H0 H locs [(mo, .inr (6, mo_ ma 0 (z_at z : Int) (z_dp z : Int) wy un 0 sp pe 0 0 tm)), (ma 1, .inl (G.2.2 0, 40, .inl (ja_ bf))), (ma 3, .inl (G.2.2 0, 432, .inl (ja_ (a_kn (cpA_ (z_A z) (48 * nn) (z_sz z)))))), (ma 4, .inl (G.2.2 0, 432, .inl (ja_ (a_on (cpA_ (z_A z) (48 * nn) (z_sz z)))))), (ma 5, .inl (G.2.2 0, 432, .inl (ja_ (a_tw (cpA_ (z_A z) (48 * nn) (z_sz z)))))), (ma 6, .inl (G.2.2 0, 432, .inl (ja_ (a_th (cpA_ (z_A z) (48 * nn) (z_sz z)))))), (ma 7, .inl (G.2.2 0, 432, .inl (ja_ (a_fi (cpA_ (z_A z) (48 * nn) (z_sz z)))))), (ma 8, .inl (G.2.2 0, 432, .inl (ja_ (a_ne (cpA_ (z_A z) (48 * nn) (z_sz z)))))), (ma 9, .inl (G.2.2 0, 432, .inl (ja_ (a_co (cpA_ (z_A z) (48 * nn) (z_sz z)))))), (ma 10, .inl (G.2.2 0, 9, .inl (ja_ (va_up ro 8 (z_rt z))))), (ma 11, .inl (G.2.2 0, 9, .inl (ja_ (va_up si 8 (z_sz z : Int))))), (ma 14, .inl (G.2.2 0, 50, .inl (ja_ (z_op z)))), (ma 15, .inl (G.2.2 0, 50, .inl (ja_ (z_la z)))), (ma 12, .inl (G.2.2 0, 9, .inl (ja_ gr)))] → W p0 l e0 rm_M_define s m0 args below meth c0 H locs 0 0 Q (F0 m0 243 ls [])) :
    ∀ (N : Nat) (k : Nat) (ki : Int) (ls : Array Slot) (H : Heap) (locs : List Loc), z_sz z - k < N → k ≤ z_sz z → ki = (k : Int) → lv_has ls 5 [(4, .int (xi_ ki)), (0, .ref mo), (1, .int (xi_ (nn : Int))), (3, .int (xi_ gg))] → xw_H G A H0 H locs [(mo, .inr (6, mo_ ma 0 (z_at z : Int) (z_dp z : Int) wy un 0 sp pe 0 0 tm)), (ma 1, .inl (G.2.2 0, 40, .inl (ja_ bf))), (ma 3, .inl (G.2.2 0, 432, .inl (ja_ (a_kn (cpA_ (z_A z) (48 * nn) k))))), (ma 4, .inl (G.2.2 0, 432, .inl (ja_ (a_on (cpA_ (z_A z) (48 * nn) k))))), (ma 5, .inl (G.2.2 0, 432, .inl (ja_ (a_tw (cpA_ (z_A z) (48 * nn) k))))), (ma 6, .inl (G.2.2 0, 432, .inl (ja_ (a_th (cpA_ (z_A z) (48 * nn) k))))), (ma 7, .inl (G.2.2 0, 432, .inl (ja_ (a_fi (cpA_ (z_A z) (48 * nn) k))))), (ma 8, .inl (G.2.2 0, 432, .inl (ja_ (a_ne (cpA_ (z_A z) (48 * nn) k))))), (ma 9, .inl (G.2.2 0, 432, .inl (ja_ (a_co (cpA_ (z_A z) (48 * nn) k))))), (ma 10, .inl (G.2.2 0, 9, .inl (ja_ (va_up ro 8 (z_rt z))))), (ma 11, .inl (G.2.2 0, 9, .inl (ja_ (va_up si 8 (z_sz z : Int))))), (ma 14, .inl (G.2.2 0, 50, .inl (ja_ (z_op z)))), (ma 15, .inl (G.2.2 0, 50, .inl (ja_ (z_la z)))), (ma 12, .inl (G.2.2 0, 9, .inl (ja_ gr)))] → W p0 l e0 rm_M_define s m0 args below meth c0 H locs 0 0 Q (F0 m0 64 ls []) := by
  have hx := F.1
  have hb := F.2.1
  intro N
  induction N with
  | zero => intro k ki ls H locs h; omega
  | succ N ihn =>
    intro k ki ls H locs hN1 hk hki hl hh
    refine lv_iload hx hb d_M_define_64 (lv_at hl 0 rfl) ?_
    refine lv_aload_n hx hb d_M_define_66 rfl (lv_at hl 1 rfl) ?_
    refine xw_get F hh.1 (v := .ref (ma 11)) fl_M_37_6 0 rfl rfl d_M_define_67 ?_
    refine lv_bipush (v := xi_ 8) hx hb d_M_define_70 (by decide) ?_
    refine xw_iald F hh.1 10 (f := va_up si 8 (z_sz z : Int)) rfl (i := 8) (by omega) d_M_define_72 ?_
    refine xw_topi (y := (z_sz z : Int)) (va_up_self _ _ _) ?_
    refine xw_icmp_ge hx hb 243 d_M_define_73 (by decide) (by omega) (fun c73 => ?_) (fun c73 => ?_)
    · obtain rfl : k = z_sz z := by omega
      exact kt ls H locs (lv_sub hl [1, 2, 3] rfl) hh
    · refine lv_aload_n hx hb d_M_define_76 rfl (lv_at hl 1 rfl) ?_
      refine xw_get F hh.1 (v := .ref (ma 3)) fl_M_13_6 0 rfl rfl d_M_define_77 ?_
      refine lv_bipush (v := xi_ 48) hx hb d_M_define_80 (by decide) ?_
      refine lv_iload_n hx hb d_M_define_82 rfl (lv_at hl 2 rfl) ?_
      refine xw_imul hx hb d_M_define_83 ?_
      refine lv_iload hx hb d_M_define_84 (lv_at hl 0 rfl) ?_
      refine xw_iadd hx hb d_M_define_86 ?_
      refine lv_aload_n hx hb d_M_define_87 rfl (lv_at hl 1 rfl) ?_
      refine xw_get F hh.1 (v := .ref (ma 3)) fl_M_13_6 0 rfl rfl d_M_define_88 ?_
      refine lv_sipush (v := xi_ 384) hx hb d_M_define_91 (by decide) ?_
      refine lv_iload hx hb d_M_define_94 (lv_at hl 0 rfl) ?_
      refine xw_iadd hx hb d_M_define_96 ?_
      refine xw_iald F hh.1 2 (f := a_kn (cpA_ (z_A z) (48 * nn) k)) rfl (i := 384 + ki) (by omega) d_M_define_97 ?_
      refine xw_iast F hh 2 (f := a_kn (cpA_ (z_A z) (48 * nn) k)) rfl (i := (48 * (nn : Int)) + ki) (x := (a_kn (cpA_ (z_A z) (48 * nn) k)) (384 + ki).toNat) (by omega) d_M_define_98 (fun H locs hh => ?_)
      have hh : xw_H G A H0 H locs [(mo, .inr (6, mo_ ma 0 (z_at z : Int) (z_dp z : Int) wy un 0 sp pe 0 0 tm)), (ma 1, .inl (G.2.2 0, 40, .inl (ja_ bf))), (ma 3, .inl (G.2.2 0, 432, .inl (ja_ (va_up (a_kn (cpA_ (z_A z) (48 * nn) k)) ((48 * (nn : Int)) + ki).toNat ((a_kn (cpA_ (z_A z) (48 * nn) k)) (384 + ki).toNat))))), (ma 4, .inl (G.2.2 0, 432, .inl (ja_ (a_on (cpA_ (z_A z) (48 * nn) k))))), (ma 5, .inl (G.2.2 0, 432, .inl (ja_ (a_tw (cpA_ (z_A z) (48 * nn) k))))), (ma 6, .inl (G.2.2 0, 432, .inl (ja_ (a_th (cpA_ (z_A z) (48 * nn) k))))), (ma 7, .inl (G.2.2 0, 432, .inl (ja_ (a_fi (cpA_ (z_A z) (48 * nn) k))))), (ma 8, .inl (G.2.2 0, 432, .inl (ja_ (a_ne (cpA_ (z_A z) (48 * nn) k))))), (ma 9, .inl (G.2.2 0, 432, .inl (ja_ (a_co (cpA_ (z_A z) (48 * nn) k))))), (ma 10, .inl (G.2.2 0, 9, .inl (ja_ (va_up ro 8 (z_rt z))))), (ma 11, .inl (G.2.2 0, 9, .inl (ja_ (va_up si 8 (z_sz z : Int))))), (ma 14, .inl (G.2.2 0, 50, .inl (ja_ (z_op z)))), (ma 15, .inl (G.2.2 0, 50, .inl (ja_ (z_la z)))), (ma 12, .inl (G.2.2 0, 9, .inl (ja_ gr)))] := hh
      refine lv_aload_n hx hb d_M_define_99 rfl (lv_at hl 1 rfl) ?_
      refine xw_get F hh.1 (v := .ref (ma 4)) fl_M_16_6 0 rfl rfl d_M_define_100 ?_
      refine lv_bipush (v := xi_ 48) hx hb d_M_define_103 (by decide) ?_
      refine lv_iload_n hx hb d_M_define_105 rfl (lv_at hl 2 rfl) ?_
      refine xw_imul hx hb d_M_define_106 ?_
      refine lv_iload hx hb d_M_define_107 (lv_at hl 0 rfl) ?_
      refine xw_iadd hx hb d_M_define_109 ?_
      refine lv_aload_n hx hb d_M_define_110 rfl (lv_at hl 1 rfl) ?_
      refine xw_get F hh.1 (v := .ref (ma 4)) fl_M_16_6 0 rfl rfl d_M_define_111 ?_
      refine lv_sipush (v := xi_ 384) hx hb d_M_define_114 (by decide) ?_
      refine lv_iload hx hb d_M_define_117 (lv_at hl 0 rfl) ?_
      refine xw_iadd hx hb d_M_define_119 ?_
      refine xw_iald F hh.1 3 (f := a_on (cpA_ (z_A z) (48 * nn) k)) rfl (i := 384 + ki) (by omega) d_M_define_120 ?_
      refine xw_iast F hh 3 (f := a_on (cpA_ (z_A z) (48 * nn) k)) rfl (i := (48 * (nn : Int)) + ki) (x := (a_on (cpA_ (z_A z) (48 * nn) k)) (384 + ki).toNat) (by omega) d_M_define_121 (fun H locs hh => ?_)
      have hh : xw_H G A H0 H locs [(mo, .inr (6, mo_ ma 0 (z_at z : Int) (z_dp z : Int) wy un 0 sp pe 0 0 tm)), (ma 1, .inl (G.2.2 0, 40, .inl (ja_ bf))), (ma 3, .inl (G.2.2 0, 432, .inl (ja_ (va_up (a_kn (cpA_ (z_A z) (48 * nn) k)) ((48 * (nn : Int)) + ki).toNat ((a_kn (cpA_ (z_A z) (48 * nn) k)) (384 + ki).toNat))))), (ma 4, .inl (G.2.2 0, 432, .inl (ja_ (va_up (a_on (cpA_ (z_A z) (48 * nn) k)) ((48 * (nn : Int)) + ki).toNat ((a_on (cpA_ (z_A z) (48 * nn) k)) (384 + ki).toNat))))), (ma 5, .inl (G.2.2 0, 432, .inl (ja_ (a_tw (cpA_ (z_A z) (48 * nn) k))))), (ma 6, .inl (G.2.2 0, 432, .inl (ja_ (a_th (cpA_ (z_A z) (48 * nn) k))))), (ma 7, .inl (G.2.2 0, 432, .inl (ja_ (a_fi (cpA_ (z_A z) (48 * nn) k))))), (ma 8, .inl (G.2.2 0, 432, .inl (ja_ (a_ne (cpA_ (z_A z) (48 * nn) k))))), (ma 9, .inl (G.2.2 0, 432, .inl (ja_ (a_co (cpA_ (z_A z) (48 * nn) k))))), (ma 10, .inl (G.2.2 0, 9, .inl (ja_ (va_up ro 8 (z_rt z))))), (ma 11, .inl (G.2.2 0, 9, .inl (ja_ (va_up si 8 (z_sz z : Int))))), (ma 14, .inl (G.2.2 0, 50, .inl (ja_ (z_op z)))), (ma 15, .inl (G.2.2 0, 50, .inl (ja_ (z_la z)))), (ma 12, .inl (G.2.2 0, 9, .inl (ja_ gr)))] := hh
      refine lv_aload_n hx hb d_M_define_122 rfl (lv_at hl 1 rfl) ?_
      refine xw_get F hh.1 (v := .ref (ma 5)) fl_M_19_6 0 rfl rfl d_M_define_123 ?_
      refine lv_bipush (v := xi_ 48) hx hb d_M_define_126 (by decide) ?_
      refine lv_iload_n hx hb d_M_define_128 rfl (lv_at hl 2 rfl) ?_
      refine xw_imul hx hb d_M_define_129 ?_
      refine lv_iload hx hb d_M_define_130 (lv_at hl 0 rfl) ?_
      refine xw_iadd hx hb d_M_define_132 ?_
      refine lv_aload_n hx hb d_M_define_133 rfl (lv_at hl 1 rfl) ?_
      refine xw_get F hh.1 (v := .ref (ma 5)) fl_M_19_6 0 rfl rfl d_M_define_134 ?_
      refine lv_sipush (v := xi_ 384) hx hb d_M_define_137 (by decide) ?_
      refine lv_iload hx hb d_M_define_140 (lv_at hl 0 rfl) ?_
      refine xw_iadd hx hb d_M_define_142 ?_
      refine xw_iald F hh.1 4 (f := a_tw (cpA_ (z_A z) (48 * nn) k)) rfl (i := 384 + ki) (by omega) d_M_define_143 ?_
      refine xw_iast F hh 4 (f := a_tw (cpA_ (z_A z) (48 * nn) k)) rfl (i := (48 * (nn : Int)) + ki) (x := (a_tw (cpA_ (z_A z) (48 * nn) k)) (384 + ki).toNat) (by omega) d_M_define_144 (fun H locs hh => ?_)
      have hh : xw_H G A H0 H locs [(mo, .inr (6, mo_ ma 0 (z_at z : Int) (z_dp z : Int) wy un 0 sp pe 0 0 tm)), (ma 1, .inl (G.2.2 0, 40, .inl (ja_ bf))), (ma 3, .inl (G.2.2 0, 432, .inl (ja_ (va_up (a_kn (cpA_ (z_A z) (48 * nn) k)) ((48 * (nn : Int)) + ki).toNat ((a_kn (cpA_ (z_A z) (48 * nn) k)) (384 + ki).toNat))))), (ma 4, .inl (G.2.2 0, 432, .inl (ja_ (va_up (a_on (cpA_ (z_A z) (48 * nn) k)) ((48 * (nn : Int)) + ki).toNat ((a_on (cpA_ (z_A z) (48 * nn) k)) (384 + ki).toNat))))), (ma 5, .inl (G.2.2 0, 432, .inl (ja_ (va_up (a_tw (cpA_ (z_A z) (48 * nn) k)) ((48 * (nn : Int)) + ki).toNat ((a_tw (cpA_ (z_A z) (48 * nn) k)) (384 + ki).toNat))))), (ma 6, .inl (G.2.2 0, 432, .inl (ja_ (a_th (cpA_ (z_A z) (48 * nn) k))))), (ma 7, .inl (G.2.2 0, 432, .inl (ja_ (a_fi (cpA_ (z_A z) (48 * nn) k))))), (ma 8, .inl (G.2.2 0, 432, .inl (ja_ (a_ne (cpA_ (z_A z) (48 * nn) k))))), (ma 9, .inl (G.2.2 0, 432, .inl (ja_ (a_co (cpA_ (z_A z) (48 * nn) k))))), (ma 10, .inl (G.2.2 0, 9, .inl (ja_ (va_up ro 8 (z_rt z))))), (ma 11, .inl (G.2.2 0, 9, .inl (ja_ (va_up si 8 (z_sz z : Int))))), (ma 14, .inl (G.2.2 0, 50, .inl (ja_ (z_op z)))), (ma 15, .inl (G.2.2 0, 50, .inl (ja_ (z_la z)))), (ma 12, .inl (G.2.2 0, 9, .inl (ja_ gr)))] := hh
      refine lv_aload_n hx hb d_M_define_145 rfl (lv_at hl 1 rfl) ?_
      refine xw_get F hh.1 (v := .ref (ma 6)) fl_M_22_6 0 rfl rfl d_M_define_146 ?_
      refine lv_bipush (v := xi_ 48) hx hb d_M_define_149 (by decide) ?_
      refine lv_iload_n hx hb d_M_define_151 rfl (lv_at hl 2 rfl) ?_
      refine xw_imul hx hb d_M_define_152 ?_
      refine lv_iload hx hb d_M_define_153 (lv_at hl 0 rfl) ?_
      refine xw_iadd hx hb d_M_define_155 ?_
      refine lv_aload_n hx hb d_M_define_156 rfl (lv_at hl 1 rfl) ?_
      refine xw_get F hh.1 (v := .ref (ma 6)) fl_M_22_6 0 rfl rfl d_M_define_157 ?_
      refine lv_sipush (v := xi_ 384) hx hb d_M_define_160 (by decide) ?_
      refine lv_iload hx hb d_M_define_163 (lv_at hl 0 rfl) ?_
      refine xw_iadd hx hb d_M_define_165 ?_
      refine xw_iald F hh.1 5 (f := a_th (cpA_ (z_A z) (48 * nn) k)) rfl (i := 384 + ki) (by omega) d_M_define_166 ?_
      refine xw_iast F hh 5 (f := a_th (cpA_ (z_A z) (48 * nn) k)) rfl (i := (48 * (nn : Int)) + ki) (x := (a_th (cpA_ (z_A z) (48 * nn) k)) (384 + ki).toNat) (by omega) d_M_define_167 (fun H locs hh => ?_)
      have hh : xw_H G A H0 H locs [(mo, .inr (6, mo_ ma 0 (z_at z : Int) (z_dp z : Int) wy un 0 sp pe 0 0 tm)), (ma 1, .inl (G.2.2 0, 40, .inl (ja_ bf))), (ma 3, .inl (G.2.2 0, 432, .inl (ja_ (va_up (a_kn (cpA_ (z_A z) (48 * nn) k)) ((48 * (nn : Int)) + ki).toNat ((a_kn (cpA_ (z_A z) (48 * nn) k)) (384 + ki).toNat))))), (ma 4, .inl (G.2.2 0, 432, .inl (ja_ (va_up (a_on (cpA_ (z_A z) (48 * nn) k)) ((48 * (nn : Int)) + ki).toNat ((a_on (cpA_ (z_A z) (48 * nn) k)) (384 + ki).toNat))))), (ma 5, .inl (G.2.2 0, 432, .inl (ja_ (va_up (a_tw (cpA_ (z_A z) (48 * nn) k)) ((48 * (nn : Int)) + ki).toNat ((a_tw (cpA_ (z_A z) (48 * nn) k)) (384 + ki).toNat))))), (ma 6, .inl (G.2.2 0, 432, .inl (ja_ (va_up (a_th (cpA_ (z_A z) (48 * nn) k)) ((48 * (nn : Int)) + ki).toNat ((a_th (cpA_ (z_A z) (48 * nn) k)) (384 + ki).toNat))))), (ma 7, .inl (G.2.2 0, 432, .inl (ja_ (a_fi (cpA_ (z_A z) (48 * nn) k))))), (ma 8, .inl (G.2.2 0, 432, .inl (ja_ (a_ne (cpA_ (z_A z) (48 * nn) k))))), (ma 9, .inl (G.2.2 0, 432, .inl (ja_ (a_co (cpA_ (z_A z) (48 * nn) k))))), (ma 10, .inl (G.2.2 0, 9, .inl (ja_ (va_up ro 8 (z_rt z))))), (ma 11, .inl (G.2.2 0, 9, .inl (ja_ (va_up si 8 (z_sz z : Int))))), (ma 14, .inl (G.2.2 0, 50, .inl (ja_ (z_op z)))), (ma 15, .inl (G.2.2 0, 50, .inl (ja_ (z_la z)))), (ma 12, .inl (G.2.2 0, 9, .inl (ja_ gr)))] := hh
      refine lv_aload_n hx hb d_M_define_168 rfl (lv_at hl 1 rfl) ?_
      refine xw_get F hh.1 (v := .ref (ma 7)) fl_M_25_6 0 rfl rfl d_M_define_169 ?_
      refine lv_bipush (v := xi_ 48) hx hb d_M_define_172 (by decide) ?_
      refine lv_iload_n hx hb d_M_define_174 rfl (lv_at hl 2 rfl) ?_
      refine xw_imul hx hb d_M_define_175 ?_
      refine lv_iload hx hb d_M_define_176 (lv_at hl 0 rfl) ?_
      refine xw_iadd hx hb d_M_define_178 ?_
      refine lv_aload_n hx hb d_M_define_179 rfl (lv_at hl 1 rfl) ?_
      refine xw_get F hh.1 (v := .ref (ma 7)) fl_M_25_6 0 rfl rfl d_M_define_180 ?_
      refine lv_sipush (v := xi_ 384) hx hb d_M_define_183 (by decide) ?_
      refine lv_iload hx hb d_M_define_186 (lv_at hl 0 rfl) ?_
      refine xw_iadd hx hb d_M_define_188 ?_
      refine xw_iald F hh.1 6 (f := a_fi (cpA_ (z_A z) (48 * nn) k)) rfl (i := 384 + ki) (by omega) d_M_define_189 ?_
      refine xw_iast F hh 6 (f := a_fi (cpA_ (z_A z) (48 * nn) k)) rfl (i := (48 * (nn : Int)) + ki) (x := (a_fi (cpA_ (z_A z) (48 * nn) k)) (384 + ki).toNat) (by omega) d_M_define_190 (fun H locs hh => ?_)
      have hh : xw_H G A H0 H locs [(mo, .inr (6, mo_ ma 0 (z_at z : Int) (z_dp z : Int) wy un 0 sp pe 0 0 tm)), (ma 1, .inl (G.2.2 0, 40, .inl (ja_ bf))), (ma 3, .inl (G.2.2 0, 432, .inl (ja_ (va_up (a_kn (cpA_ (z_A z) (48 * nn) k)) ((48 * (nn : Int)) + ki).toNat ((a_kn (cpA_ (z_A z) (48 * nn) k)) (384 + ki).toNat))))), (ma 4, .inl (G.2.2 0, 432, .inl (ja_ (va_up (a_on (cpA_ (z_A z) (48 * nn) k)) ((48 * (nn : Int)) + ki).toNat ((a_on (cpA_ (z_A z) (48 * nn) k)) (384 + ki).toNat))))), (ma 5, .inl (G.2.2 0, 432, .inl (ja_ (va_up (a_tw (cpA_ (z_A z) (48 * nn) k)) ((48 * (nn : Int)) + ki).toNat ((a_tw (cpA_ (z_A z) (48 * nn) k)) (384 + ki).toNat))))), (ma 6, .inl (G.2.2 0, 432, .inl (ja_ (va_up (a_th (cpA_ (z_A z) (48 * nn) k)) ((48 * (nn : Int)) + ki).toNat ((a_th (cpA_ (z_A z) (48 * nn) k)) (384 + ki).toNat))))), (ma 7, .inl (G.2.2 0, 432, .inl (ja_ (va_up (a_fi (cpA_ (z_A z) (48 * nn) k)) ((48 * (nn : Int)) + ki).toNat ((a_fi (cpA_ (z_A z) (48 * nn) k)) (384 + ki).toNat))))), (ma 8, .inl (G.2.2 0, 432, .inl (ja_ (a_ne (cpA_ (z_A z) (48 * nn) k))))), (ma 9, .inl (G.2.2 0, 432, .inl (ja_ (a_co (cpA_ (z_A z) (48 * nn) k))))), (ma 10, .inl (G.2.2 0, 9, .inl (ja_ (va_up ro 8 (z_rt z))))), (ma 11, .inl (G.2.2 0, 9, .inl (ja_ (va_up si 8 (z_sz z : Int))))), (ma 14, .inl (G.2.2 0, 50, .inl (ja_ (z_op z)))), (ma 15, .inl (G.2.2 0, 50, .inl (ja_ (z_la z)))), (ma 12, .inl (G.2.2 0, 9, .inl (ja_ gr)))] := hh
      refine lv_aload_n hx hb d_M_define_191 rfl (lv_at hl 1 rfl) ?_
      refine xw_get F hh.1 (v := .ref (ma 8)) fl_M_28_6 0 rfl rfl d_M_define_192 ?_
      refine lv_bipush (v := xi_ 48) hx hb d_M_define_195 (by decide) ?_
      refine lv_iload_n hx hb d_M_define_197 rfl (lv_at hl 2 rfl) ?_
      refine xw_imul hx hb d_M_define_198 ?_
      refine lv_iload hx hb d_M_define_199 (lv_at hl 0 rfl) ?_
      refine xw_iadd hx hb d_M_define_201 ?_
      refine lv_aload_n hx hb d_M_define_202 rfl (lv_at hl 1 rfl) ?_
      refine xw_get F hh.1 (v := .ref (ma 8)) fl_M_28_6 0 rfl rfl d_M_define_203 ?_
      refine lv_sipush (v := xi_ 384) hx hb d_M_define_206 (by decide) ?_
      refine lv_iload hx hb d_M_define_209 (lv_at hl 0 rfl) ?_
      refine xw_iadd hx hb d_M_define_211 ?_
      refine xw_iald F hh.1 7 (f := a_ne (cpA_ (z_A z) (48 * nn) k)) rfl (i := 384 + ki) (by omega) d_M_define_212 ?_
      refine xw_iast F hh 7 (f := a_ne (cpA_ (z_A z) (48 * nn) k)) rfl (i := (48 * (nn : Int)) + ki) (x := (a_ne (cpA_ (z_A z) (48 * nn) k)) (384 + ki).toNat) (by omega) d_M_define_213 (fun H locs hh => ?_)
      have hh : xw_H G A H0 H locs [(mo, .inr (6, mo_ ma 0 (z_at z : Int) (z_dp z : Int) wy un 0 sp pe 0 0 tm)), (ma 1, .inl (G.2.2 0, 40, .inl (ja_ bf))), (ma 3, .inl (G.2.2 0, 432, .inl (ja_ (va_up (a_kn (cpA_ (z_A z) (48 * nn) k)) ((48 * (nn : Int)) + ki).toNat ((a_kn (cpA_ (z_A z) (48 * nn) k)) (384 + ki).toNat))))), (ma 4, .inl (G.2.2 0, 432, .inl (ja_ (va_up (a_on (cpA_ (z_A z) (48 * nn) k)) ((48 * (nn : Int)) + ki).toNat ((a_on (cpA_ (z_A z) (48 * nn) k)) (384 + ki).toNat))))), (ma 5, .inl (G.2.2 0, 432, .inl (ja_ (va_up (a_tw (cpA_ (z_A z) (48 * nn) k)) ((48 * (nn : Int)) + ki).toNat ((a_tw (cpA_ (z_A z) (48 * nn) k)) (384 + ki).toNat))))), (ma 6, .inl (G.2.2 0, 432, .inl (ja_ (va_up (a_th (cpA_ (z_A z) (48 * nn) k)) ((48 * (nn : Int)) + ki).toNat ((a_th (cpA_ (z_A z) (48 * nn) k)) (384 + ki).toNat))))), (ma 7, .inl (G.2.2 0, 432, .inl (ja_ (va_up (a_fi (cpA_ (z_A z) (48 * nn) k)) ((48 * (nn : Int)) + ki).toNat ((a_fi (cpA_ (z_A z) (48 * nn) k)) (384 + ki).toNat))))), (ma 8, .inl (G.2.2 0, 432, .inl (ja_ (va_up (a_ne (cpA_ (z_A z) (48 * nn) k)) ((48 * (nn : Int)) + ki).toNat ((a_ne (cpA_ (z_A z) (48 * nn) k)) (384 + ki).toNat))))), (ma 9, .inl (G.2.2 0, 432, .inl (ja_ (a_co (cpA_ (z_A z) (48 * nn) k))))), (ma 10, .inl (G.2.2 0, 9, .inl (ja_ (va_up ro 8 (z_rt z))))), (ma 11, .inl (G.2.2 0, 9, .inl (ja_ (va_up si 8 (z_sz z : Int))))), (ma 14, .inl (G.2.2 0, 50, .inl (ja_ (z_op z)))), (ma 15, .inl (G.2.2 0, 50, .inl (ja_ (z_la z)))), (ma 12, .inl (G.2.2 0, 9, .inl (ja_ gr)))] := hh
      refine lv_aload_n hx hb d_M_define_214 rfl (lv_at hl 1 rfl) ?_
      refine xw_get F hh.1 (v := .ref (ma 9)) fl_M_31_6 0 rfl rfl d_M_define_215 ?_
      refine lv_bipush (v := xi_ 48) hx hb d_M_define_218 (by decide) ?_
      refine lv_iload_n hx hb d_M_define_220 rfl (lv_at hl 2 rfl) ?_
      refine xw_imul hx hb d_M_define_221 ?_
      refine lv_iload hx hb d_M_define_222 (lv_at hl 0 rfl) ?_
      refine xw_iadd hx hb d_M_define_224 ?_
      refine lv_aload_n hx hb d_M_define_225 rfl (lv_at hl 1 rfl) ?_
      refine xw_get F hh.1 (v := .ref (ma 9)) fl_M_31_6 0 rfl rfl d_M_define_226 ?_
      refine lv_sipush (v := xi_ 384) hx hb d_M_define_229 (by decide) ?_
      refine lv_iload hx hb d_M_define_232 (lv_at hl 0 rfl) ?_
      refine xw_iadd hx hb d_M_define_234 ?_
      refine xw_iald F hh.1 8 (f := a_co (cpA_ (z_A z) (48 * nn) k)) rfl (i := 384 + ki) (by omega) d_M_define_235 ?_
      refine xw_iast F hh 8 (f := a_co (cpA_ (z_A z) (48 * nn) k)) rfl (i := (48 * (nn : Int)) + ki) (x := (a_co (cpA_ (z_A z) (48 * nn) k)) (384 + ki).toNat) (by omega) d_M_define_236 (fun H locs hh => ?_)
      have hh : xw_H G A H0 H locs [(mo, .inr (6, mo_ ma 0 (z_at z : Int) (z_dp z : Int) wy un 0 sp pe 0 0 tm)), (ma 1, .inl (G.2.2 0, 40, .inl (ja_ bf))), (ma 3, .inl (G.2.2 0, 432, .inl (ja_ (va_up (a_kn (cpA_ (z_A z) (48 * nn) k)) ((48 * (nn : Int)) + ki).toNat ((a_kn (cpA_ (z_A z) (48 * nn) k)) (384 + ki).toNat))))), (ma 4, .inl (G.2.2 0, 432, .inl (ja_ (va_up (a_on (cpA_ (z_A z) (48 * nn) k)) ((48 * (nn : Int)) + ki).toNat ((a_on (cpA_ (z_A z) (48 * nn) k)) (384 + ki).toNat))))), (ma 5, .inl (G.2.2 0, 432, .inl (ja_ (va_up (a_tw (cpA_ (z_A z) (48 * nn) k)) ((48 * (nn : Int)) + ki).toNat ((a_tw (cpA_ (z_A z) (48 * nn) k)) (384 + ki).toNat))))), (ma 6, .inl (G.2.2 0, 432, .inl (ja_ (va_up (a_th (cpA_ (z_A z) (48 * nn) k)) ((48 * (nn : Int)) + ki).toNat ((a_th (cpA_ (z_A z) (48 * nn) k)) (384 + ki).toNat))))), (ma 7, .inl (G.2.2 0, 432, .inl (ja_ (va_up (a_fi (cpA_ (z_A z) (48 * nn) k)) ((48 * (nn : Int)) + ki).toNat ((a_fi (cpA_ (z_A z) (48 * nn) k)) (384 + ki).toNat))))), (ma 8, .inl (G.2.2 0, 432, .inl (ja_ (va_up (a_ne (cpA_ (z_A z) (48 * nn) k)) ((48 * (nn : Int)) + ki).toNat ((a_ne (cpA_ (z_A z) (48 * nn) k)) (384 + ki).toNat))))), (ma 9, .inl (G.2.2 0, 432, .inl (ja_ (va_up (a_co (cpA_ (z_A z) (48 * nn) k)) ((48 * (nn : Int)) + ki).toNat ((a_co (cpA_ (z_A z) (48 * nn) k)) (384 + ki).toNat))))), (ma 10, .inl (G.2.2 0, 9, .inl (ja_ (va_up ro 8 (z_rt z))))), (ma 11, .inl (G.2.2 0, 9, .inl (ja_ (va_up si 8 (z_sz z : Int))))), (ma 14, .inl (G.2.2 0, 50, .inl (ja_ (z_op z)))), (ma 15, .inl (G.2.2 0, 50, .inl (ja_ (z_la z)))), (ma 12, .inl (G.2.2 0, 9, .inl (ja_ gr)))] := hh
      refine lv_iinc (k := 0) (v := xi_ (ki + 1)) (lv' := [(4, .int (xi_ (ki + 1))), (0, .ref mo), (1, .int (xi_ (nn : Int))), (3, .int (xi_ gg))]) hx hb d_M_define_237 hl rfl (xi_add _ _).symm (by decide) rfl (fun ls hl => ?_)
      refine lv_goto (tgt := 64) hx hb d_M_define_240 (by decide) ?_
      have e_a_kn := cp_s (f := a_kn (z_A z)) (b := 48 * nn) (k := k) (X := (48 * (nn : Int) + ki).toNat) (Y := (384 + ki).toNat) (by omega) (by omega) (by omega) (by omega)
      have e_a_on := cp_s (f := a_on (z_A z)) (b := 48 * nn) (k := k) (X := (48 * (nn : Int) + ki).toNat) (Y := (384 + ki).toNat) (by omega) (by omega) (by omega) (by omega)
      have e_a_tw := cp_s (f := a_tw (z_A z)) (b := 48 * nn) (k := k) (X := (48 * (nn : Int) + ki).toNat) (Y := (384 + ki).toNat) (by omega) (by omega) (by omega) (by omega)
      have e_a_th := cp_s (f := a_th (z_A z)) (b := 48 * nn) (k := k) (X := (48 * (nn : Int) + ki).toNat) (Y := (384 + ki).toNat) (by omega) (by omega) (by omega) (by omega)
      have e_a_fi := cp_s (f := a_fi (z_A z)) (b := 48 * nn) (k := k) (X := (48 * (nn : Int) + ki).toNat) (Y := (384 + ki).toNat) (by omega) (by omega) (by omega) (by omega)
      have e_a_ne := cp_s (f := a_ne (z_A z)) (b := 48 * nn) (k := k) (X := (48 * (nn : Int) + ki).toNat) (Y := (384 + ki).toNat) (by omega) (by omega) (by omega) (by omega)
      have e_a_co := cp_s (f := a_co (z_A z)) (b := 48 * nn) (k := k) (X := (48 * (nn : Int) + ki).toNat) (Y := (384 + ki).toNat) (by omega) (by omega) (by omega) (by omega)
      have hh : xw_H G A H0 H locs [(mo, .inr (6, mo_ ma 0 (z_at z : Int) (z_dp z : Int) wy un 0 sp pe 0 0 tm)), (ma 1, .inl (G.2.2 0, 40, .inl (ja_ bf))), (ma 3, .inl (G.2.2 0, 432, .inl (ja_ (a_kn (cpA_ (z_A z) (48 * nn) (k + 1)))))), (ma 4, .inl (G.2.2 0, 432, .inl (ja_ (a_on (cpA_ (z_A z) (48 * nn) (k + 1)))))), (ma 5, .inl (G.2.2 0, 432, .inl (ja_ (a_tw (cpA_ (z_A z) (48 * nn) (k + 1)))))), (ma 6, .inl (G.2.2 0, 432, .inl (ja_ (a_th (cpA_ (z_A z) (48 * nn) (k + 1)))))), (ma 7, .inl (G.2.2 0, 432, .inl (ja_ (a_fi (cpA_ (z_A z) (48 * nn) (k + 1)))))), (ma 8, .inl (G.2.2 0, 432, .inl (ja_ (a_ne (cpA_ (z_A z) (48 * nn) (k + 1)))))), (ma 9, .inl (G.2.2 0, 432, .inl (ja_ (a_co (cpA_ (z_A z) (48 * nn) (k + 1)))))), (ma 10, .inl (G.2.2 0, 9, .inl (ja_ (va_up ro 8 (z_rt z))))), (ma 11, .inl (G.2.2 0, 9, .inl (ja_ (va_up si 8 (z_sz z : Int))))), (ma 14, .inl (G.2.2 0, 50, .inl (ja_ (z_op z)))), (ma 15, .inl (G.2.2 0, 50, .inl (ja_ (z_la z)))), (ma 12, .inl (G.2.2 0, 9, .inl (ja_ gr)))] := by
        show xw_H G A H0 H locs [(mo, .inr (6, mo_ ma 0 (z_at z : Int) (z_dp z : Int) wy un 0 sp pe 0 0 tm)), (ma 1, .inl (G.2.2 0, 40, .inl (ja_ bf))), (ma 3, .inl (G.2.2 0, 432, .inl (ja_ (cp_ (a_kn (z_A z)) (48 * nn) (k + 1))))), (ma 4, .inl (G.2.2 0, 432, .inl (ja_ (cp_ (a_on (z_A z)) (48 * nn) (k + 1))))), (ma 5, .inl (G.2.2 0, 432, .inl (ja_ (cp_ (a_tw (z_A z)) (48 * nn) (k + 1))))), (ma 6, .inl (G.2.2 0, 432, .inl (ja_ (cp_ (a_th (z_A z)) (48 * nn) (k + 1))))), (ma 7, .inl (G.2.2 0, 432, .inl (ja_ (cp_ (a_fi (z_A z)) (48 * nn) (k + 1))))), (ma 8, .inl (G.2.2 0, 432, .inl (ja_ (cp_ (a_ne (z_A z)) (48 * nn) (k + 1))))), (ma 9, .inl (G.2.2 0, 432, .inl (ja_ (cp_ (a_co (z_A z)) (48 * nn) (k + 1))))), (ma 10, .inl (G.2.2 0, 9, .inl (ja_ (va_up ro 8 (z_rt z))))), (ma 11, .inl (G.2.2 0, 9, .inl (ja_ (va_up si 8 (z_sz z : Int))))), (ma 14, .inl (G.2.2 0, 50, .inl (ja_ (z_op z)))), (ma 15, .inl (G.2.2 0, 50, .inl (ja_ (z_la z)))), (ma 12, .inl (G.2.2 0, 9, .inl (ja_ gr)))]
        rw [← e_a_kn, ← e_a_on, ← e_a_tw, ← e_a_th, ← e_a_fi, ← e_a_ne, ← e_a_co]
        exact hh
      exact ihn (k + 1) (ki + 1) ls H locs (by omega) (by omega) (by omega) (lv_sub hl [0, 1, 2, 3] rfl) hh
set_option maxHeartbeats 4000000 in
set_option maxRecDepth 100000 in
theorem c_M_define (l : Launch) (G : GG_) (sz : Nat) (mo : Nat) (ma : Nat → Nat) (wy un pl sp pe tk du tm : Int) (bf ro si gr : Nat → Int) (len : Nat) (hlen : len ≤ 40) (hbf : ∀ j : Nat, 0 ≤ bf j ∧ bf j ≤ 65535) (htx : ∀ j : Nat, j < len → bf j ≠ 0) (zs : MZ) (gsf : Nat → Int) (Tr : Nat → PT 40) (hms : msl_ (z_A zs) ro gr gsf Tr) (n : Int) (hn : (-2147483648 ≤ n ∧ n ≤ 2147483647)) : Met l y_M_define (cw_ y_M_define b_M_define 5 (some .int)) rm_M_define (xw_P G [.ref mo, .int (xi_ n)] sz [(mo, .inr (6, mo_ ma (len : Int) (z_at zs : Int) (z_dp zs : Int) wy un pl sp pe tk du tm)), (ma 1, .inl (G.2.2 0, 40, .inl (ja_ bf))), (ma 3, .inl (G.2.2 0, 432, .inl (ja_ (a_kn (z_A zs))))), (ma 4, .inl (G.2.2 0, 432, .inl (ja_ (a_on (z_A zs))))), (ma 5, .inl (G.2.2 0, 432, .inl (ja_ (a_tw (z_A zs))))), (ma 6, .inl (G.2.2 0, 432, .inl (ja_ (a_th (z_A zs))))), (ma 7, .inl (G.2.2 0, 432, .inl (ja_ (a_fi (z_A zs))))), (ma 8, .inl (G.2.2 0, 432, .inl (ja_ (a_ne (z_A zs))))), (ma 9, .inl (G.2.2 0, 432, .inl (ja_ (a_co (z_A zs))))), (ma 10, .inl (G.2.2 0, 9, .inl (ja_ ro))), (ma 11, .inl (G.2.2 0, 9, .inl (ja_ si))), (ma 14, .inl (G.2.2 0, 50, .inl (ja_ (z_op zs)))), (ma 15, .inl (G.2.2 0, 50, .inl (ja_ (z_la zs)))), (ma 12, .inl (G.2.2 0, 9, .inl (ja_ gr)))] (fun _ => True)) (xw_Qi (S := (Int × Int × Int × Int) × MZ × (Nat → Int) × (Nat → Int) × (Nat → Int)) G sz [(mo, .inr (6, mo_ ma (len : Int) (z_at zs : Int) (z_dp zs : Int) wy un pl sp pe tk du tm)), (ma 1, .inl (G.2.2 0, 40, .inl (ja_ bf))), (ma 3, .inl (G.2.2 0, 432, .inl (ja_ (a_kn (z_A zs))))), (ma 4, .inl (G.2.2 0, 432, .inl (ja_ (a_on (z_A zs))))), (ma 5, .inl (G.2.2 0, 432, .inl (ja_ (a_tw (z_A zs))))), (ma 6, .inl (G.2.2 0, 432, .inl (ja_ (a_th (z_A zs))))), (ma 7, .inl (G.2.2 0, 432, .inl (ja_ (a_fi (z_A zs))))), (ma 8, .inl (G.2.2 0, 432, .inl (ja_ (a_ne (z_A zs))))), (ma 9, .inl (G.2.2 0, 432, .inl (ja_ (a_co (z_A zs))))), (ma 10, .inl (G.2.2 0, 9, .inl (ja_ ro))), (ma 11, .inl (G.2.2 0, 9, .inl (ja_ si))), (ma 14, .inl (G.2.2 0, 50, .inl (ja_ (z_op zs)))), (ma 15, .inl (G.2.2 0, 50, .inl (ja_ (z_la zs)))), (ma 12, .inl (G.2.2 0, 9, .inl (ja_ gr)))] (fun w u => w = de_ans bf len n ∧ u.1 = (if 0 ≤ n ∧ n < 8 then (0, 0, 0, 0) else (pl, du, tk, (len : Int))) ∧ msl_ (z_A u.2.1) u.2.2.1 u.2.2.2.2 (de_gs bf len gsf n) (de_Tr bf len Tr n)) (fun u => [(mo, .inr (6, mo_ ma u.1.2.2.2 (z_at u.2.1 : Int) (z_dp u.2.1 : Int) wy un u.1.1 sp pe u.1.2.2.1 u.1.2.1 tm)), (ma 1, .inl (G.2.2 0, 40, .inl (ja_ bf))), (ma 3, .inl (G.2.2 0, 432, .inl (ja_ (a_kn (z_A u.2.1))))), (ma 4, .inl (G.2.2 0, 432, .inl (ja_ (a_on (z_A u.2.1))))), (ma 5, .inl (G.2.2 0, 432, .inl (ja_ (a_tw (z_A u.2.1))))), (ma 6, .inl (G.2.2 0, 432, .inl (ja_ (a_th (z_A u.2.1))))), (ma 7, .inl (G.2.2 0, 432, .inl (ja_ (a_fi (z_A u.2.1))))), (ma 8, .inl (G.2.2 0, 432, .inl (ja_ (a_ne (z_A u.2.1))))), (ma 9, .inl (G.2.2 0, 432, .inl (ja_ (a_co (z_A u.2.1))))), (ma 10, .inl (G.2.2 0, 9, .inl (ja_ u.2.2.1))), (ma 11, .inl (G.2.2 0, 9, .inl (ja_ u.2.2.2.1))), (ma 14, .inl (G.2.2 0, 50, .inl (ja_ (z_op u.2.1)))), (ma 15, .inl (G.2.2 0, 50, .inl (ja_ (z_la u.2.1)))), (ma 12, .inl (G.2.2 0, 9, .inl (ja_ u.2.2.2.2)))]) (fun _ _ => True)) 0 0 (va_A [(mo, .inr (6, mo_ ma (len : Int) (z_at zs : Int) (z_dp zs : Int) wy un pl sp pe tk du tm)), (ma 1, .inl (G.2.2 0, 40, .inl (ja_ bf))), (ma 3, .inl (G.2.2 0, 432, .inl (ja_ (a_kn (z_A zs))))), (ma 4, .inl (G.2.2 0, 432, .inl (ja_ (a_on (z_A zs))))), (ma 5, .inl (G.2.2 0, 432, .inl (ja_ (a_tw (z_A zs))))), (ma 6, .inl (G.2.2 0, 432, .inl (ja_ (a_th (z_A zs))))), (ma 7, .inl (G.2.2 0, 432, .inl (ja_ (a_fi (z_A zs))))), (ma 8, .inl (G.2.2 0, 432, .inl (ja_ (a_ne (z_A zs))))), (ma 9, .inl (G.2.2 0, 432, .inl (ja_ (a_co (z_A zs))))), (ma 10, .inl (G.2.2 0, 9, .inl (ja_ ro))), (ma 11, .inl (G.2.2 0, 9, .inl (ja_ si))), (ma 14, .inl (G.2.2 0, 50, .inl (ja_ (z_op zs)))), (ma 15, .inl (G.2.2 0, 50, .inl (ja_ (z_la zs)))), (ma 12, .inl (G.2.2 0, 9, .inl (ja_ gr)))] sz) := by
  refine xw_met (by decide) (Nat.le_of_ble_eq_true rfl) ?_
  intro p0 e0 s m0 args below meth c0 F hr hlk hin hsz hh hX ls hl
  subst hsz
  have hx := F.1
  have hb := F.2.1
  have hl : lv_has ls 5 [(0, .ref mo), (1, .int (xi_ n))] := hl
  refine lv_iload_n hx hb d_M_define_0 rfl (lv_at hl 1 rfl) ?_
  refine xw_if_lt hx hb 10 d_M_define_1 (by decide) (by omega) (fun c1 => ?_) (fun c1 => ?_)
  · refine lv_iconst (v := xi_ (-1)) hx hb d_M_define_10 rfl ?_
    have hdT : de_T bf len n = none := by
      unfold de_T
      exact if_neg (by omega)
    obtain ⟨k1, k2⟩ := de_keep hdT gsf Tr
    rw [k1, k2]
    exact xw_iret F hr hlk hh rfl ((pl, du, tk, (len : Int)), zs, ro, si, gr) rfl ⟨by unfold de_ans; rw [if_neg (by omega)], by rw [if_neg (by omega)], hms⟩ trivial d_M_define_11
  · refine lv_iload_n hx hb d_M_define_4 rfl (lv_at hl 1 rfl) ?_
    refine lv_bipush (v := xi_ 7) hx hb d_M_define_5 (by decide) ?_
    refine xw_icmp_le hx hb 12 d_M_define_7 (by decide) (by omega) (fun c7 => ?_) (fun c7 => ?_)
    · obtain ⟨nn, rfl⟩ : ∃ nn : Nat, n = (nn : Int) := ⟨n.toNat, by omega⟩
      refine lv_aload_n hx hb d_M_define_12 rfl (lv_at hl 0 rfl) ?_
      refine lv_iconst (v := xi_ 0) hx hb d_M_define_13 rfl ?_
      refine xw_put F hh fp_M_161_6 0 rfl rfl rfl (Nat.le_of_ble_eq_true rfl) d_M_define_14 (fun H locs hh => ?_)
      have hh : xw_H G (va_A [(mo, .inr (6, mo_ ma (len : Int) (z_at zs : Int) (z_dp zs : Int) wy un pl sp pe tk du tm)), (ma 1, .inl (G.2.2 0, 40, .inl (ja_ bf))), (ma 3, .inl (G.2.2 0, 432, .inl (ja_ (a_kn (z_A zs))))), (ma 4, .inl (G.2.2 0, 432, .inl (ja_ (a_on (z_A zs))))), (ma 5, .inl (G.2.2 0, 432, .inl (ja_ (a_tw (z_A zs))))), (ma 6, .inl (G.2.2 0, 432, .inl (ja_ (a_th (z_A zs))))), (ma 7, .inl (G.2.2 0, 432, .inl (ja_ (a_fi (z_A zs))))), (ma 8, .inl (G.2.2 0, 432, .inl (ja_ (a_ne (z_A zs))))), (ma 9, .inl (G.2.2 0, 432, .inl (ja_ (a_co (z_A zs))))), (ma 10, .inl (G.2.2 0, 9, .inl (ja_ ro))), (ma 11, .inl (G.2.2 0, 9, .inl (ja_ si))), (ma 14, .inl (G.2.2 0, 50, .inl (ja_ (z_op zs)))), (ma 15, .inl (G.2.2 0, 50, .inl (ja_ (z_la zs)))), (ma 12, .inl (G.2.2 0, 9, .inl (ja_ gr)))] s.heap.size) s.heap H locs [(mo, .inr (6, mo_ ma (len : Int) (z_at zs : Int) (z_dp zs : Int) wy un 0 sp pe tk du tm)), (ma 1, .inl (G.2.2 0, 40, .inl (ja_ bf))), (ma 3, .inl (G.2.2 0, 432, .inl (ja_ (a_kn (z_A zs))))), (ma 4, .inl (G.2.2 0, 432, .inl (ja_ (a_on (z_A zs))))), (ma 5, .inl (G.2.2 0, 432, .inl (ja_ (a_tw (z_A zs))))), (ma 6, .inl (G.2.2 0, 432, .inl (ja_ (a_th (z_A zs))))), (ma 7, .inl (G.2.2 0, 432, .inl (ja_ (a_fi (z_A zs))))), (ma 8, .inl (G.2.2 0, 432, .inl (ja_ (a_ne (z_A zs))))), (ma 9, .inl (G.2.2 0, 432, .inl (ja_ (a_co (z_A zs))))), (ma 10, .inl (G.2.2 0, 9, .inl (ja_ ro))), (ma 11, .inl (G.2.2 0, 9, .inl (ja_ si))), (ma 14, .inl (G.2.2 0, 50, .inl (ja_ (z_op zs)))), (ma 15, .inl (G.2.2 0, 50, .inl (ja_ (z_la zs)))), (ma 12, .inl (G.2.2 0, 9, .inl (ja_ gr)))] := hh
      refine lv_aload_n hx hb d_M_define_17 rfl (lv_at hl 0 rfl) ?_
      refine lv_iconst (v := xi_ 0) hx hb d_M_define_18 rfl ?_
      refine xw_put F hh fp_M_164_6 0 rfl rfl rfl (Nat.le_of_ble_eq_true rfl) d_M_define_19 (fun H locs hh => ?_)
      have hh : xw_H G (va_A [(mo, .inr (6, mo_ ma (len : Int) (z_at zs : Int) (z_dp zs : Int) wy un pl sp pe tk du tm)), (ma 1, .inl (G.2.2 0, 40, .inl (ja_ bf))), (ma 3, .inl (G.2.2 0, 432, .inl (ja_ (a_kn (z_A zs))))), (ma 4, .inl (G.2.2 0, 432, .inl (ja_ (a_on (z_A zs))))), (ma 5, .inl (G.2.2 0, 432, .inl (ja_ (a_tw (z_A zs))))), (ma 6, .inl (G.2.2 0, 432, .inl (ja_ (a_th (z_A zs))))), (ma 7, .inl (G.2.2 0, 432, .inl (ja_ (a_fi (z_A zs))))), (ma 8, .inl (G.2.2 0, 432, .inl (ja_ (a_ne (z_A zs))))), (ma 9, .inl (G.2.2 0, 432, .inl (ja_ (a_co (z_A zs))))), (ma 10, .inl (G.2.2 0, 9, .inl (ja_ ro))), (ma 11, .inl (G.2.2 0, 9, .inl (ja_ si))), (ma 14, .inl (G.2.2 0, 50, .inl (ja_ (z_op zs)))), (ma 15, .inl (G.2.2 0, 50, .inl (ja_ (z_la zs)))), (ma 12, .inl (G.2.2 0, 9, .inl (ja_ gr)))] s.heap.size) s.heap H locs [(mo, .inr (6, mo_ ma (len : Int) (z_at zs : Int) (z_dp zs : Int) wy un 0 sp pe tk 0 tm)), (ma 1, .inl (G.2.2 0, 40, .inl (ja_ bf))), (ma 3, .inl (G.2.2 0, 432, .inl (ja_ (a_kn (z_A zs))))), (ma 4, .inl (G.2.2 0, 432, .inl (ja_ (a_on (z_A zs))))), (ma 5, .inl (G.2.2 0, 432, .inl (ja_ (a_tw (z_A zs))))), (ma 6, .inl (G.2.2 0, 432, .inl (ja_ (a_th (z_A zs))))), (ma 7, .inl (G.2.2 0, 432, .inl (ja_ (a_fi (z_A zs))))), (ma 8, .inl (G.2.2 0, 432, .inl (ja_ (a_ne (z_A zs))))), (ma 9, .inl (G.2.2 0, 432, .inl (ja_ (a_co (z_A zs))))), (ma 10, .inl (G.2.2 0, 9, .inl (ja_ ro))), (ma 11, .inl (G.2.2 0, 9, .inl (ja_ si))), (ma 14, .inl (G.2.2 0, 50, .inl (ja_ (z_op zs)))), (ma 15, .inl (G.2.2 0, 50, .inl (ja_ (z_la zs)))), (ma 12, .inl (G.2.2 0, 9, .inl (ja_ gr)))] := hh
      refine lv_aload_n hx hb d_M_define_22 rfl (lv_at hl 0 rfl) ?_
      refine lv_iconst (v := xi_ 0) hx hb d_M_define_23 rfl ?_
      refine xw_put F hh fp_M_167_6 0 rfl rfl rfl (Nat.le_of_ble_eq_true rfl) d_M_define_24 (fun H locs hh => ?_)
      have hh : xw_H G (va_A [(mo, .inr (6, mo_ ma (len : Int) (z_at zs : Int) (z_dp zs : Int) wy un pl sp pe tk du tm)), (ma 1, .inl (G.2.2 0, 40, .inl (ja_ bf))), (ma 3, .inl (G.2.2 0, 432, .inl (ja_ (a_kn (z_A zs))))), (ma 4, .inl (G.2.2 0, 432, .inl (ja_ (a_on (z_A zs))))), (ma 5, .inl (G.2.2 0, 432, .inl (ja_ (a_tw (z_A zs))))), (ma 6, .inl (G.2.2 0, 432, .inl (ja_ (a_th (z_A zs))))), (ma 7, .inl (G.2.2 0, 432, .inl (ja_ (a_fi (z_A zs))))), (ma 8, .inl (G.2.2 0, 432, .inl (ja_ (a_ne (z_A zs))))), (ma 9, .inl (G.2.2 0, 432, .inl (ja_ (a_co (z_A zs))))), (ma 10, .inl (G.2.2 0, 9, .inl (ja_ ro))), (ma 11, .inl (G.2.2 0, 9, .inl (ja_ si))), (ma 14, .inl (G.2.2 0, 50, .inl (ja_ (z_op zs)))), (ma 15, .inl (G.2.2 0, 50, .inl (ja_ (z_la zs)))), (ma 12, .inl (G.2.2 0, 9, .inl (ja_ gr)))] s.heap.size) s.heap H locs [(mo, .inr (6, mo_ ma (len : Int) (z_at zs : Int) (z_dp zs : Int) wy un 0 sp pe 0 0 tm)), (ma 1, .inl (G.2.2 0, 40, .inl (ja_ bf))), (ma 3, .inl (G.2.2 0, 432, .inl (ja_ (a_kn (z_A zs))))), (ma 4, .inl (G.2.2 0, 432, .inl (ja_ (a_on (z_A zs))))), (ma 5, .inl (G.2.2 0, 432, .inl (ja_ (a_tw (z_A zs))))), (ma 6, .inl (G.2.2 0, 432, .inl (ja_ (a_th (z_A zs))))), (ma 7, .inl (G.2.2 0, 432, .inl (ja_ (a_fi (z_A zs))))), (ma 8, .inl (G.2.2 0, 432, .inl (ja_ (a_ne (z_A zs))))), (ma 9, .inl (G.2.2 0, 432, .inl (ja_ (a_co (z_A zs))))), (ma 10, .inl (G.2.2 0, 9, .inl (ja_ ro))), (ma 11, .inl (G.2.2 0, 9, .inl (ja_ si))), (ma 14, .inl (G.2.2 0, 50, .inl (ja_ (z_op zs)))), (ma 15, .inl (G.2.2 0, 50, .inl (ja_ (z_la zs)))), (ma 12, .inl (G.2.2 0, 9, .inl (ja_ gr)))] := hh
      refine lv_aload_n hx hb d_M_define_27 rfl (lv_at hl 0 rfl) ?_
      refine xw_ci (wc := [(mo, .inr (6, mo_ ma (len : Int) (z_at zs : Int) (z_dp zs : Int) wy un 0 sp pe 0 0 tm)), (ma 1, .inl (G.2.2 0, 40, .inl (ja_ bf))), (ma 3, .inl (G.2.2 0, 432, .inl (ja_ (a_kn (z_A zs))))), (ma 4, .inl (G.2.2 0, 432, .inl (ja_ (a_on (z_A zs))))), (ma 5, .inl (G.2.2 0, 432, .inl (ja_ (a_tw (z_A zs))))), (ma 6, .inl (G.2.2 0, 432, .inl (ja_ (a_th (z_A zs))))), (ma 7, .inl (G.2.2 0, 432, .inl (ja_ (a_fi (z_A zs))))), (ma 8, .inl (G.2.2 0, 432, .inl (ja_ (a_ne (z_A zs))))), (ma 9, .inl (G.2.2 0, 432, .inl (ja_ (a_co (z_A zs))))), (ma 10, .inl (G.2.2 0, 9, .inl (ja_ ro))), (ma 11, .inl (G.2.2 0, 9, .inl (ja_ si))), (ma 14, .inl (G.2.2 0, 50, .inl (ja_ (z_op zs)))), (ma 15, .inl (G.2.2 0, 50, .inl (ja_ (z_la zs))))]) (wr := [(ma 12, .inl (G.2.2 0, 9, .inl (ja_ gr)))]) hh [0, 1, 2, 3, 4, 5, 6, 7, 8, 9, 10, 11, 12] [13] rfl rfl rfl (by decide) (xw_rV F hh [0, 1, 2, 3, 4, 5, 6, 7, 8, 9, 10, 11, 12] rfl rfl (c_M_wrong l G H.size mo ma wy un 0 sp pe 0 0 tm bf ro si len hlen hbf htx zs) trivial lk_M_170 cd_M_wrong se_M_wrong _ hh.1 0 rfl rfl rfl rfl ⟨by decide, by decide⟩ rfl hl.1 rfl (Nat.le_of_ble_eq_true rfl) d_M_define_28 ⟨Nat.le_of_ble_eq_true rfl, Nat.le_of_ble_eq_true rfl⟩) (fun v z H locs hp28 hX hz hk hh => ?_)
      have hh : xw_H G (va_A [(mo, .inr (6, mo_ ma (len : Int) (z_at zs : Int) (z_dp zs : Int) wy un pl sp pe tk du tm)), (ma 1, .inl (G.2.2 0, 40, .inl (ja_ bf))), (ma 3, .inl (G.2.2 0, 432, .inl (ja_ (a_kn (z_A zs))))), (ma 4, .inl (G.2.2 0, 432, .inl (ja_ (a_on (z_A zs))))), (ma 5, .inl (G.2.2 0, 432, .inl (ja_ (a_tw (z_A zs))))), (ma 6, .inl (G.2.2 0, 432, .inl (ja_ (a_th (z_A zs))))), (ma 7, .inl (G.2.2 0, 432, .inl (ja_ (a_fi (z_A zs))))), (ma 8, .inl (G.2.2 0, 432, .inl (ja_ (a_ne (z_A zs))))), (ma 9, .inl (G.2.2 0, 432, .inl (ja_ (a_co (z_A zs))))), (ma 10, .inl (G.2.2 0, 9, .inl (ja_ ro))), (ma 11, .inl (G.2.2 0, 9, .inl (ja_ si))), (ma 14, .inl (G.2.2 0, 50, .inl (ja_ (z_op zs)))), (ma 15, .inl (G.2.2 0, 50, .inl (ja_ (z_la zs)))), (ma 12, .inl (G.2.2 0, 9, .inl (ja_ gr)))] s.heap.size) s.heap H locs [(mo, .inr (6, mo_ ma (len : Int) (z_at z : Int) (z_dp z : Int) wy un 0 sp pe 0 0 tm)), (ma 1, .inl (G.2.2 0, 40, .inl (ja_ bf))), (ma 3, .inl (G.2.2 0, 432, .inl (ja_ (a_kn (z_A z))))), (ma 4, .inl (G.2.2 0, 432, .inl (ja_ (a_on (z_A z))))), (ma 5, .inl (G.2.2 0, 432, .inl (ja_ (a_tw (z_A z))))), (ma 6, .inl (G.2.2 0, 432, .inl (ja_ (a_th (z_A z))))), (ma 7, .inl (G.2.2 0, 432, .inl (ja_ (a_fi (z_A z))))), (ma 8, .inl (G.2.2 0, 432, .inl (ja_ (a_ne (z_A z))))), (ma 9, .inl (G.2.2 0, 432, .inl (ja_ (a_co (z_A z))))), (ma 10, .inl (G.2.2 0, 9, .inl (ja_ (va_up ro 8 (z_rt z))))), (ma 11, .inl (G.2.2 0, 9, .inl (ja_ (va_up si 8 (z_sz z : Int))))), (ma 14, .inl (G.2.2 0, 50, .inl (ja_ (z_op z)))), (ma 15, .inl (G.2.2 0, 50, .inl (ja_ (z_la z)))), (ma 12, .inl (G.2.2 0, 9, .inl (ja_ gr)))] := xw_H.sub hh [1, 2, 3, 4, 5, 6, 7, 8, 9, 10, 11, 12, 13, 0] rfl rfl
      have hp28 : qr_ bf len zs v z := hp28
      obtain ⟨hag, hqc⟩ := qr_case hp28
      have hms1 : msl_ (z_A z) ro gr gsf Tr := msl_agr hms hag (fun _ _ => rfl)
      have hvr : -1 ≤ v ∧ v ≤ 40 := by rcases hqc with q | q <;> omega
      refine lv_istore_n (lv' := [(2, .int (xi_ v)), (0, .ref mo), (1, .int (xi_ (nn : Int)))]) hx hb d_M_define_31 rfl hl (by decide) rfl (fun ls hl => ?_)
      refine lv_aload_n hx hb d_M_define_32 rfl (lv_at hl 1 rfl) ?_
      refine lv_iconst (v := xi_ 0) hx hb d_M_define_33 rfl ?_
      refine xw_put F hh fp_M_120_6 0 rfl rfl rfl (Nat.le_of_ble_eq_true rfl) d_M_define_34 (fun H locs hh => ?_)
      have hh : xw_H G (va_A [(mo, .inr (6, mo_ ma (len : Int) (z_at zs : Int) (z_dp zs : Int) wy un pl sp pe tk du tm)), (ma 1, .inl (G.2.2 0, 40, .inl (ja_ bf))), (ma 3, .inl (G.2.2 0, 432, .inl (ja_ (a_kn (z_A zs))))), (ma 4, .inl (G.2.2 0, 432, .inl (ja_ (a_on (z_A zs))))), (ma 5, .inl (G.2.2 0, 432, .inl (ja_ (a_tw (z_A zs))))), (ma 6, .inl (G.2.2 0, 432, .inl (ja_ (a_th (z_A zs))))), (ma 7, .inl (G.2.2 0, 432, .inl (ja_ (a_fi (z_A zs))))), (ma 8, .inl (G.2.2 0, 432, .inl (ja_ (a_ne (z_A zs))))), (ma 9, .inl (G.2.2 0, 432, .inl (ja_ (a_co (z_A zs))))), (ma 10, .inl (G.2.2 0, 9, .inl (ja_ ro))), (ma 11, .inl (G.2.2 0, 9, .inl (ja_ si))), (ma 14, .inl (G.2.2 0, 50, .inl (ja_ (z_op zs)))), (ma 15, .inl (G.2.2 0, 50, .inl (ja_ (z_la zs)))), (ma 12, .inl (G.2.2 0, 9, .inl (ja_ gr)))] s.heap.size) s.heap H locs [(mo, .inr (6, mo_ ma 0 (z_at z : Int) (z_dp z : Int) wy un 0 sp pe 0 0 tm)), (ma 1, .inl (G.2.2 0, 40, .inl (ja_ bf))), (ma 3, .inl (G.2.2 0, 432, .inl (ja_ (a_kn (z_A z))))), (ma 4, .inl (G.2.2 0, 432, .inl (ja_ (a_on (z_A z))))), (ma 5, .inl (G.2.2 0, 432, .inl (ja_ (a_tw (z_A z))))), (ma 6, .inl (G.2.2 0, 432, .inl (ja_ (a_th (z_A z))))), (ma 7, .inl (G.2.2 0, 432, .inl (ja_ (a_fi (z_A z))))), (ma 8, .inl (G.2.2 0, 432, .inl (ja_ (a_ne (z_A z))))), (ma 9, .inl (G.2.2 0, 432, .inl (ja_ (a_co (z_A z))))), (ma 10, .inl (G.2.2 0, 9, .inl (ja_ (va_up ro 8 (z_rt z))))), (ma 11, .inl (G.2.2 0, 9, .inl (ja_ (va_up si 8 (z_sz z : Int))))), (ma 14, .inl (G.2.2 0, 50, .inl (ja_ (z_op z)))), (ma 15, .inl (G.2.2 0, 50, .inl (ja_ (z_la z)))), (ma 12, .inl (G.2.2 0, 9, .inl (ja_ gr)))] := hh
      refine lv_iload_n hx hb d_M_define_37 rfl (lv_at hl 0 rfl) ?_
      refine xw_if_lt hx hb 46 d_M_define_38 (by decide) (by omega) (fun c38 => ?_) (fun c38 => ?_)
      · refine lv_aload_n hx hb d_M_define_46 rfl (lv_at hl 1 rfl) ?_
        obtain ⟨T, hT1, hT2, hT3, hT4⟩ := (hqc.resolve_left (by omega)).2
        have hwf := rd_wf hT1
        obtain ⟨hgp, hfa⟩ := read_fac hT3 hwf
        have hrel := gf_gn hwf
        have hkn : ∀ i : Nat, i < z_sz z → 0 ≤ a_kn (z_A z) (384 + 0 + (i : Int)).toNat ∧ a_kn (z_A z) (384 + 0 + (i : Int)).toNat ≤ 10 := fun i hi => by
          have := rep_kn hT3 hwf (i : Int) (by omega) (by omega)
          rw [show (384 : Int) + 0 + (i : Int) = 384 + (i : Int) by omega]
          exact this
        refine xw_ci (wc := [(mo, .inr (6, mo_ ma 0 (z_at z : Int) (z_dp z : Int) wy un 0 sp pe 0 0 tm)), (ma 3, .inl (G.2.2 0, 432, .inl (ja_ (a_kn (z_A z))))), (ma 4, .inl (G.2.2 0, 432, .inl (ja_ (a_on (z_A z))))), (ma 5, .inl (G.2.2 0, 432, .inl (ja_ (a_tw (z_A z))))), (ma 9, .inl (G.2.2 0, 432, .inl (ja_ (a_co (z_A z))))), (ma 11, .inl (G.2.2 0, 9, .inl (ja_ (va_up si 8 (z_sz z : Int)))))]) (wr := [(ma 1, .inl (G.2.2 0, 40, .inl (ja_ bf))), (ma 6, .inl (G.2.2 0, 432, .inl (ja_ (a_th (z_A z))))), (ma 7, .inl (G.2.2 0, 432, .inl (ja_ (a_fi (z_A z))))), (ma 8, .inl (G.2.2 0, 432, .inl (ja_ (a_ne (z_A z))))), (ma 10, .inl (G.2.2 0, 9, .inl (ja_ (va_up ro 8 (z_rt z))))), (ma 14, .inl (G.2.2 0, 50, .inl (ja_ (z_op z)))), (ma 15, .inl (G.2.2 0, 50, .inl (ja_ (z_la z)))), (ma 12, .inl (G.2.2 0, 9, .inl (ja_ gr)))]) hh [0, 2, 3, 4, 8, 10] [1, 5, 6, 7, 9, 11, 12, 13] rfl rfl rfl (by decide) (xw_rV F hh [0, 2, 3, 4, 8, 10] rfl rfl (c_M_grainOf l G H.size mo ma 0 (z_at z : Int) (z_dp z : Int) wy un 0 sp pe 0 0 tm (z_A z) (va_up si 8 (z_sz z : Int)) (z_sz z) hT4 (va_up_self _ _ _) hkn hfa) trivial lk_M_174 cd_M_grainOf se_M_grainOf _ hh.1 0 rfl rfl rfl rfl ⟨by decide, by decide⟩ rfl hl.1 rfl (Nat.le_of_ble_eq_true rfl) d_M_define_47 ⟨Nat.le_of_ble_eq_true rfl, Nat.le_of_ble_eq_true rfl⟩) (fun gg u_ H locs hp47 hX hz hk hh => ?_)
        have hh : xw_H G (va_A [(mo, .inr (6, mo_ ma (len : Int) (z_at zs : Int) (z_dp zs : Int) wy un pl sp pe tk du tm)), (ma 1, .inl (G.2.2 0, 40, .inl (ja_ bf))), (ma 3, .inl (G.2.2 0, 432, .inl (ja_ (a_kn (z_A zs))))), (ma 4, .inl (G.2.2 0, 432, .inl (ja_ (a_on (z_A zs))))), (ma 5, .inl (G.2.2 0, 432, .inl (ja_ (a_tw (z_A zs))))), (ma 6, .inl (G.2.2 0, 432, .inl (ja_ (a_th (z_A zs))))), (ma 7, .inl (G.2.2 0, 432, .inl (ja_ (a_fi (z_A zs))))), (ma 8, .inl (G.2.2 0, 432, .inl (ja_ (a_ne (z_A zs))))), (ma 9, .inl (G.2.2 0, 432, .inl (ja_ (a_co (z_A zs))))), (ma 10, .inl (G.2.2 0, 9, .inl (ja_ ro))), (ma 11, .inl (G.2.2 0, 9, .inl (ja_ si))), (ma 14, .inl (G.2.2 0, 50, .inl (ja_ (z_op zs)))), (ma 15, .inl (G.2.2 0, 50, .inl (ja_ (z_la zs)))), (ma 12, .inl (G.2.2 0, 9, .inl (ja_ gr)))] s.heap.size) s.heap H locs [(mo, .inr (6, mo_ ma 0 (z_at z : Int) (z_dp z : Int) wy un 0 sp pe 0 0 tm)), (ma 1, .inl (G.2.2 0, 40, .inl (ja_ bf))), (ma 3, .inl (G.2.2 0, 432, .inl (ja_ (a_kn (z_A z))))), (ma 4, .inl (G.2.2 0, 432, .inl (ja_ (a_on (z_A z))))), (ma 5, .inl (G.2.2 0, 432, .inl (ja_ (a_tw (z_A z))))), (ma 6, .inl (G.2.2 0, 432, .inl (ja_ (a_th (z_A z))))), (ma 7, .inl (G.2.2 0, 432, .inl (ja_ (a_fi (z_A z))))), (ma 8, .inl (G.2.2 0, 432, .inl (ja_ (a_ne (z_A z))))), (ma 9, .inl (G.2.2 0, 432, .inl (ja_ (a_co (z_A z))))), (ma 10, .inl (G.2.2 0, 9, .inl (ja_ (va_up ro 8 (z_rt z))))), (ma 11, .inl (G.2.2 0, 9, .inl (ja_ (va_up si 8 (z_sz z : Int))))), (ma 14, .inl (G.2.2 0, 50, .inl (ja_ (z_op z)))), (ma 15, .inl (G.2.2 0, 50, .inl (ja_ (z_la z)))), (ma 12, .inl (G.2.2 0, 9, .inl (ja_ gr)))] := xw_H.sub hh [8, 0, 9, 10, 11, 1, 2, 3, 12, 4, 13, 5, 6, 7] rfl rfl
        obtain ⟨hg1, hg2, hg3, hg4⟩ := hp47
        rw [hgp] at hg1 hg2
        obtain ⟨hr1, hr2, hr3, hr4⟩ := hrel
        refine lv_istore_n (lv' := [(3, .int (xi_ gg)), (2, .int (xi_ v)), (0, .ref mo), (1, .int (xi_ (nn : Int)))]) hx hb d_M_define_50 rfl hl (by decide) rfl (fun ls hl => ?_)
        refine lv_iload_n hx hb d_M_define_51 rfl (lv_at hl 0 rfl) ?_
        refine lv_sipush (v := xi_ 5040) hx hb d_M_define_52 (by decide) ?_
        refine xw_icmp_le hx hb 61 d_M_define_55 (by decide) (by omega) (fun c55 => ?_) (fun c55 => ?_)
        · refine lv_iconst (v := xi_ 0) hx hb d_M_define_61 rfl ?_
          refine lv_istore (lv' := [(4, .int (xi_ 0)), (3, .int (xi_ gg)), (2, .int (xi_ v)), (0, .ref mo), (1, .int (xi_ (nn : Int)))]) hx hb d_M_define_62 hl (by decide) rfl (fun ls hl => ?_)
          have hh : xw_H G (va_A [(mo, .inr (6, mo_ ma (len : Int) (z_at zs : Int) (z_dp zs : Int) wy un pl sp pe tk du tm)), (ma 1, .inl (G.2.2 0, 40, .inl (ja_ bf))), (ma 3, .inl (G.2.2 0, 432, .inl (ja_ (a_kn (z_A zs))))), (ma 4, .inl (G.2.2 0, 432, .inl (ja_ (a_on (z_A zs))))), (ma 5, .inl (G.2.2 0, 432, .inl (ja_ (a_tw (z_A zs))))), (ma 6, .inl (G.2.2 0, 432, .inl (ja_ (a_th (z_A zs))))), (ma 7, .inl (G.2.2 0, 432, .inl (ja_ (a_fi (z_A zs))))), (ma 8, .inl (G.2.2 0, 432, .inl (ja_ (a_ne (z_A zs))))), (ma 9, .inl (G.2.2 0, 432, .inl (ja_ (a_co (z_A zs))))), (ma 10, .inl (G.2.2 0, 9, .inl (ja_ ro))), (ma 11, .inl (G.2.2 0, 9, .inl (ja_ si))), (ma 14, .inl (G.2.2 0, 50, .inl (ja_ (z_op zs)))), (ma 15, .inl (G.2.2 0, 50, .inl (ja_ (z_la zs)))), (ma 12, .inl (G.2.2 0, 9, .inl (ja_ gr)))] s.heap.size) s.heap H locs [(mo, .inr (6, mo_ ma 0 (z_at z : Int) (z_dp z : Int) wy un 0 sp pe 0 0 tm)), (ma 1, .inl (G.2.2 0, 40, .inl (ja_ bf))), (ma 3, .inl (G.2.2 0, 432, .inl (ja_ (a_kn (cpA_ (z_A z) (48 * nn) 0))))), (ma 4, .inl (G.2.2 0, 432, .inl (ja_ (a_on (cpA_ (z_A z) (48 * nn) 0))))), (ma 5, .inl (G.2.2 0, 432, .inl (ja_ (a_tw (cpA_ (z_A z) (48 * nn) 0))))), (ma 6, .inl (G.2.2 0, 432, .inl (ja_ (a_th (cpA_ (z_A z) (48 * nn) 0))))), (ma 7, .inl (G.2.2 0, 432, .inl (ja_ (a_fi (cpA_ (z_A z) (48 * nn) 0))))), (ma 8, .inl (G.2.2 0, 432, .inl (ja_ (a_ne (cpA_ (z_A z) (48 * nn) 0))))), (ma 9, .inl (G.2.2 0, 432, .inl (ja_ (a_co (cpA_ (z_A z) (48 * nn) 0))))), (ma 10, .inl (G.2.2 0, 9, .inl (ja_ (va_up ro 8 (z_rt z))))), (ma 11, .inl (G.2.2 0, 9, .inl (ja_ (va_up si 8 (z_sz z : Int))))), (ma 14, .inl (G.2.2 0, 50, .inl (ja_ (z_op z)))), (ma 15, .inl (G.2.2 0, 50, .inl (ja_ (z_la z)))), (ma 12, .inl (G.2.2 0, 9, .inl (ja_ gr)))] := by
            show xw_H G (va_A [(mo, .inr (6, mo_ ma (len : Int) (z_at zs : Int) (z_dp zs : Int) wy un pl sp pe tk du tm)), (ma 1, .inl (G.2.2 0, 40, .inl (ja_ bf))), (ma 3, .inl (G.2.2 0, 432, .inl (ja_ (a_kn (z_A zs))))), (ma 4, .inl (G.2.2 0, 432, .inl (ja_ (a_on (z_A zs))))), (ma 5, .inl (G.2.2 0, 432, .inl (ja_ (a_tw (z_A zs))))), (ma 6, .inl (G.2.2 0, 432, .inl (ja_ (a_th (z_A zs))))), (ma 7, .inl (G.2.2 0, 432, .inl (ja_ (a_fi (z_A zs))))), (ma 8, .inl (G.2.2 0, 432, .inl (ja_ (a_ne (z_A zs))))), (ma 9, .inl (G.2.2 0, 432, .inl (ja_ (a_co (z_A zs))))), (ma 10, .inl (G.2.2 0, 9, .inl (ja_ ro))), (ma 11, .inl (G.2.2 0, 9, .inl (ja_ si))), (ma 14, .inl (G.2.2 0, 50, .inl (ja_ (z_op zs)))), (ma 15, .inl (G.2.2 0, 50, .inl (ja_ (z_la zs)))), (ma 12, .inl (G.2.2 0, 9, .inl (ja_ gr)))] s.heap.size) s.heap H locs [(mo, .inr (6, mo_ ma 0 (z_at z : Int) (z_dp z : Int) wy un 0 sp pe 0 0 tm)), (ma 1, .inl (G.2.2 0, 40, .inl (ja_ bf))), (ma 3, .inl (G.2.2 0, 432, .inl (ja_ (cp_ (a_kn (z_A z)) (48 * nn) 0)))), (ma 4, .inl (G.2.2 0, 432, .inl (ja_ (cp_ (a_on (z_A z)) (48 * nn) 0)))), (ma 5, .inl (G.2.2 0, 432, .inl (ja_ (cp_ (a_tw (z_A z)) (48 * nn) 0)))), (ma 6, .inl (G.2.2 0, 432, .inl (ja_ (cp_ (a_th (z_A z)) (48 * nn) 0)))), (ma 7, .inl (G.2.2 0, 432, .inl (ja_ (cp_ (a_fi (z_A z)) (48 * nn) 0)))), (ma 8, .inl (G.2.2 0, 432, .inl (ja_ (cp_ (a_ne (z_A z)) (48 * nn) 0)))), (ma 9, .inl (G.2.2 0, 432, .inl (ja_ (cp_ (a_co (z_A z)) (48 * nn) 0)))), (ma 10, .inl (G.2.2 0, 9, .inl (ja_ (va_up ro 8 (z_rt z))))), (ma 11, .inl (G.2.2 0, 9, .inl (ja_ (va_up si 8 (z_sz z : Int))))), (ma 14, .inl (G.2.2 0, 50, .inl (ja_ (z_op z)))), (ma 15, .inl (G.2.2 0, 50, .inl (ja_ (z_la z)))), (ma 12, .inl (G.2.2 0, 9, .inl (ja_ gr)))]
            rw [cp_0, cp_0, cp_0, cp_0, cp_0, cp_0, cp_0]
            exact hh
          refine lp_M_define F mo ma wy un sp pe tm bf ro si gr z nn (by omega) gg hT4 (fun ls H locs hl hh => ?_) (z_sz z + 1) 0 0 ls H locs (by omega) (by omega) rfl (lv_sub hl [0, 3, 4, 1] rfl) hh
          refine lv_aload_n hx hb d_M_define_243 rfl (lv_at hl 0 rfl) ?_
          refine xw_get F hh.1 (v := .ref (ma 10)) fl_M_34_6 0 rfl rfl d_M_define_244 ?_
          refine lv_iload_n hx hb d_M_define_247 rfl (lv_at hl 1 rfl) ?_
          refine lv_aload_n hx hb d_M_define_248 rfl (lv_at hl 0 rfl) ?_
          refine xw_get F hh.1 (v := .ref (ma 10)) fl_M_34_6 0 rfl rfl d_M_define_249 ?_
          refine lv_bipush (v := xi_ 8) hx hb d_M_define_252 (by decide) ?_
          refine xw_iald F hh.1 9 (f := va_up ro 8 (z_rt z)) rfl (i := 8) (by omega) d_M_define_254 ?_
          refine xw_topi (y := z_rt z) (va_up_self _ _ _) ?_
          refine xw_iast F hh 9 (f := va_up ro 8 (z_rt z)) rfl (i := (nn : Int)) (x := z_rt z) (by omega) d_M_define_255 (fun H locs hh => ?_)
          have hh : xw_H G (va_A [(mo, .inr (6, mo_ ma (len : Int) (z_at zs : Int) (z_dp zs : Int) wy un pl sp pe tk du tm)), (ma 1, .inl (G.2.2 0, 40, .inl (ja_ bf))), (ma 3, .inl (G.2.2 0, 432, .inl (ja_ (a_kn (z_A zs))))), (ma 4, .inl (G.2.2 0, 432, .inl (ja_ (a_on (z_A zs))))), (ma 5, .inl (G.2.2 0, 432, .inl (ja_ (a_tw (z_A zs))))), (ma 6, .inl (G.2.2 0, 432, .inl (ja_ (a_th (z_A zs))))), (ma 7, .inl (G.2.2 0, 432, .inl (ja_ (a_fi (z_A zs))))), (ma 8, .inl (G.2.2 0, 432, .inl (ja_ (a_ne (z_A zs))))), (ma 9, .inl (G.2.2 0, 432, .inl (ja_ (a_co (z_A zs))))), (ma 10, .inl (G.2.2 0, 9, .inl (ja_ ro))), (ma 11, .inl (G.2.2 0, 9, .inl (ja_ si))), (ma 14, .inl (G.2.2 0, 50, .inl (ja_ (z_op zs)))), (ma 15, .inl (G.2.2 0, 50, .inl (ja_ (z_la zs)))), (ma 12, .inl (G.2.2 0, 9, .inl (ja_ gr)))] s.heap.size) s.heap H locs [(mo, .inr (6, mo_ ma 0 (z_at z : Int) (z_dp z : Int) wy un 0 sp pe 0 0 tm)), (ma 1, .inl (G.2.2 0, 40, .inl (ja_ bf))), (ma 3, .inl (G.2.2 0, 432, .inl (ja_ (a_kn (cpA_ (z_A z) (48 * nn) (z_sz z)))))), (ma 4, .inl (G.2.2 0, 432, .inl (ja_ (a_on (cpA_ (z_A z) (48 * nn) (z_sz z)))))), (ma 5, .inl (G.2.2 0, 432, .inl (ja_ (a_tw (cpA_ (z_A z) (48 * nn) (z_sz z)))))), (ma 6, .inl (G.2.2 0, 432, .inl (ja_ (a_th (cpA_ (z_A z) (48 * nn) (z_sz z)))))), (ma 7, .inl (G.2.2 0, 432, .inl (ja_ (a_fi (cpA_ (z_A z) (48 * nn) (z_sz z)))))), (ma 8, .inl (G.2.2 0, 432, .inl (ja_ (a_ne (cpA_ (z_A z) (48 * nn) (z_sz z)))))), (ma 9, .inl (G.2.2 0, 432, .inl (ja_ (a_co (cpA_ (z_A z) (48 * nn) (z_sz z)))))), (ma 10, .inl (G.2.2 0, 9, .inl (ja_ (va_up (va_up ro 8 (z_rt z)) ((nn : Int)).toNat (z_rt z))))), (ma 11, .inl (G.2.2 0, 9, .inl (ja_ (va_up si 8 (z_sz z : Int))))), (ma 14, .inl (G.2.2 0, 50, .inl (ja_ (z_op z)))), (ma 15, .inl (G.2.2 0, 50, .inl (ja_ (z_la z)))), (ma 12, .inl (G.2.2 0, 9, .inl (ja_ gr)))] := hh
          refine lv_aload_n hx hb d_M_define_256 rfl (lv_at hl 0 rfl) ?_
          refine xw_get F hh.1 (v := .ref (ma 11)) fl_M_37_6 0 rfl rfl d_M_define_257 ?_
          refine lv_iload_n hx hb d_M_define_260 rfl (lv_at hl 1 rfl) ?_
          refine lv_aload_n hx hb d_M_define_261 rfl (lv_at hl 0 rfl) ?_
          refine xw_get F hh.1 (v := .ref (ma 11)) fl_M_37_6 0 rfl rfl d_M_define_262 ?_
          refine lv_bipush (v := xi_ 8) hx hb d_M_define_265 (by decide) ?_
          refine xw_iald F hh.1 10 (f := va_up si 8 (z_sz z : Int)) rfl (i := 8) (by omega) d_M_define_267 ?_
          refine xw_topi (y := (z_sz z : Int)) (va_up_self _ _ _) ?_
          refine xw_iast F hh 10 (f := va_up si 8 (z_sz z : Int)) rfl (i := (nn : Int)) (x := (z_sz z : Int)) (by omega) d_M_define_268 (fun H locs hh => ?_)
          have hh : xw_H G (va_A [(mo, .inr (6, mo_ ma (len : Int) (z_at zs : Int) (z_dp zs : Int) wy un pl sp pe tk du tm)), (ma 1, .inl (G.2.2 0, 40, .inl (ja_ bf))), (ma 3, .inl (G.2.2 0, 432, .inl (ja_ (a_kn (z_A zs))))), (ma 4, .inl (G.2.2 0, 432, .inl (ja_ (a_on (z_A zs))))), (ma 5, .inl (G.2.2 0, 432, .inl (ja_ (a_tw (z_A zs))))), (ma 6, .inl (G.2.2 0, 432, .inl (ja_ (a_th (z_A zs))))), (ma 7, .inl (G.2.2 0, 432, .inl (ja_ (a_fi (z_A zs))))), (ma 8, .inl (G.2.2 0, 432, .inl (ja_ (a_ne (z_A zs))))), (ma 9, .inl (G.2.2 0, 432, .inl (ja_ (a_co (z_A zs))))), (ma 10, .inl (G.2.2 0, 9, .inl (ja_ ro))), (ma 11, .inl (G.2.2 0, 9, .inl (ja_ si))), (ma 14, .inl (G.2.2 0, 50, .inl (ja_ (z_op zs)))), (ma 15, .inl (G.2.2 0, 50, .inl (ja_ (z_la zs)))), (ma 12, .inl (G.2.2 0, 9, .inl (ja_ gr)))] s.heap.size) s.heap H locs [(mo, .inr (6, mo_ ma 0 (z_at z : Int) (z_dp z : Int) wy un 0 sp pe 0 0 tm)), (ma 1, .inl (G.2.2 0, 40, .inl (ja_ bf))), (ma 3, .inl (G.2.2 0, 432, .inl (ja_ (a_kn (cpA_ (z_A z) (48 * nn) (z_sz z)))))), (ma 4, .inl (G.2.2 0, 432, .inl (ja_ (a_on (cpA_ (z_A z) (48 * nn) (z_sz z)))))), (ma 5, .inl (G.2.2 0, 432, .inl (ja_ (a_tw (cpA_ (z_A z) (48 * nn) (z_sz z)))))), (ma 6, .inl (G.2.2 0, 432, .inl (ja_ (a_th (cpA_ (z_A z) (48 * nn) (z_sz z)))))), (ma 7, .inl (G.2.2 0, 432, .inl (ja_ (a_fi (cpA_ (z_A z) (48 * nn) (z_sz z)))))), (ma 8, .inl (G.2.2 0, 432, .inl (ja_ (a_ne (cpA_ (z_A z) (48 * nn) (z_sz z)))))), (ma 9, .inl (G.2.2 0, 432, .inl (ja_ (a_co (cpA_ (z_A z) (48 * nn) (z_sz z)))))), (ma 10, .inl (G.2.2 0, 9, .inl (ja_ (va_up (va_up ro 8 (z_rt z)) ((nn : Int)).toNat (z_rt z))))), (ma 11, .inl (G.2.2 0, 9, .inl (ja_ (va_up (va_up si 8 (z_sz z : Int)) ((nn : Int)).toNat (z_sz z : Int))))), (ma 14, .inl (G.2.2 0, 50, .inl (ja_ (z_op z)))), (ma 15, .inl (G.2.2 0, 50, .inl (ja_ (z_la z)))), (ma 12, .inl (G.2.2 0, 9, .inl (ja_ gr)))] := hh
          refine lv_aload_n hx hb d_M_define_269 rfl (lv_at hl 0 rfl) ?_
          refine xw_get F hh.1 (v := .ref (ma 12)) fl_M_40_6 0 rfl rfl d_M_define_270 ?_
          refine lv_iload_n hx hb d_M_define_273 rfl (lv_at hl 1 rfl) ?_
          refine lv_iload_n hx hb d_M_define_274 rfl (lv_at hl 2 rfl) ?_
          refine xw_iast F hh 13 (f := gr) rfl (i := (nn : Int)) (x := gg) (by omega) d_M_define_275 (fun H locs hh => ?_)
          have hh : xw_H G (va_A [(mo, .inr (6, mo_ ma (len : Int) (z_at zs : Int) (z_dp zs : Int) wy un pl sp pe tk du tm)), (ma 1, .inl (G.2.2 0, 40, .inl (ja_ bf))), (ma 3, .inl (G.2.2 0, 432, .inl (ja_ (a_kn (z_A zs))))), (ma 4, .inl (G.2.2 0, 432, .inl (ja_ (a_on (z_A zs))))), (ma 5, .inl (G.2.2 0, 432, .inl (ja_ (a_tw (z_A zs))))), (ma 6, .inl (G.2.2 0, 432, .inl (ja_ (a_th (z_A zs))))), (ma 7, .inl (G.2.2 0, 432, .inl (ja_ (a_fi (z_A zs))))), (ma 8, .inl (G.2.2 0, 432, .inl (ja_ (a_ne (z_A zs))))), (ma 9, .inl (G.2.2 0, 432, .inl (ja_ (a_co (z_A zs))))), (ma 10, .inl (G.2.2 0, 9, .inl (ja_ ro))), (ma 11, .inl (G.2.2 0, 9, .inl (ja_ si))), (ma 14, .inl (G.2.2 0, 50, .inl (ja_ (z_op zs)))), (ma 15, .inl (G.2.2 0, 50, .inl (ja_ (z_la zs)))), (ma 12, .inl (G.2.2 0, 9, .inl (ja_ gr)))] s.heap.size) s.heap H locs [(mo, .inr (6, mo_ ma 0 (z_at z : Int) (z_dp z : Int) wy un 0 sp pe 0 0 tm)), (ma 1, .inl (G.2.2 0, 40, .inl (ja_ bf))), (ma 3, .inl (G.2.2 0, 432, .inl (ja_ (a_kn (cpA_ (z_A z) (48 * nn) (z_sz z)))))), (ma 4, .inl (G.2.2 0, 432, .inl (ja_ (a_on (cpA_ (z_A z) (48 * nn) (z_sz z)))))), (ma 5, .inl (G.2.2 0, 432, .inl (ja_ (a_tw (cpA_ (z_A z) (48 * nn) (z_sz z)))))), (ma 6, .inl (G.2.2 0, 432, .inl (ja_ (a_th (cpA_ (z_A z) (48 * nn) (z_sz z)))))), (ma 7, .inl (G.2.2 0, 432, .inl (ja_ (a_fi (cpA_ (z_A z) (48 * nn) (z_sz z)))))), (ma 8, .inl (G.2.2 0, 432, .inl (ja_ (a_ne (cpA_ (z_A z) (48 * nn) (z_sz z)))))), (ma 9, .inl (G.2.2 0, 432, .inl (ja_ (a_co (cpA_ (z_A z) (48 * nn) (z_sz z)))))), (ma 10, .inl (G.2.2 0, 9, .inl (ja_ (va_up (va_up ro 8 (z_rt z)) ((nn : Int)).toNat (z_rt z))))), (ma 11, .inl (G.2.2 0, 9, .inl (ja_ (va_up (va_up si 8 (z_sz z : Int)) ((nn : Int)).toNat (z_sz z : Int))))), (ma 14, .inl (G.2.2 0, 50, .inl (ja_ (z_op z)))), (ma 15, .inl (G.2.2 0, 50, .inl (ja_ (z_la z)))), (ma 12, .inl (G.2.2 0, 9, .inl (ja_ (va_up gr ((nn : Int)).toNat gg))))] := hh
          refine lv_iload_n hx hb d_M_define_276 rfl (lv_at hl 2 rfl) ?_
          have hgf : gg = gf_ 40 T 1 := by omega
          obtain ⟨d1, d2⟩ := de_yes (n := (nn : Int)) hT1 (by omega) (by omega)
          obtain ⟨k1, k2⟩ := de_put d2 gsf Tr
          rw [k1, k2, show ((nn : Int)).toNat = nn from rfl, ← hgf]
          have hmc := msl_cp hms1 (n := nn) (by omega) hT4 hT3 gg (ro' := va_up (va_up ro 8 (z_rt z)) nn (z_rt z)) (gr' := va_up gr nn gg) (fun j hj => by
            by_cases hj2 : j = nn
            · rw [if_pos hj2, hj2, va_up_self, hT2]
            · rw [if_neg hj2, va_up_ne _ _ hj2, va_up_ne _ _ (by omega)]) (fun j hj => by
            by_cases hj2 : j = nn
            · rw [if_pos hj2, hj2, va_up_self]
            · rw [if_neg hj2, va_up_ne _ _ hj2])
          exact xw_iret F hr hlk hh rfl ((0, 0, 0, 0), ((z_at z, z_dp z, z_sz z, z_rt z, (cpA_ (z_A z) (48 * nn) (z_sz z)), z_op z, z_la z) : MZ), va_up (va_up ro 8 (z_rt z)) nn (z_rt z), va_up (va_up si 8 (z_sz z : Int)) nn (z_sz z : Int), va_up gr nn gg) rfl ⟨by rw [d1]; exact hgf, by rw [if_pos (by omega)], hmc⟩ trivial d_M_define_277
        · refine lv_bipush (v := xi_ (-3)) hx hb d_M_define_58 (by decide) ?_
          obtain ⟨d1, d2⟩ := de_full (n := (nn : Int)) hT1 (by omega) (by omega)
          obtain ⟨k1, k2⟩ := de_keep d2 gsf Tr
          rw [k1, k2]
          exact xw_iret F hr hlk hh rfl ((0, 0, 0, 0), z, va_up ro 8 (z_rt z), va_up si 8 (z_sz z : Int), gr) rfl ⟨d1.symm, by rw [if_pos (by omega)], msl_agr hms hag (fun j hj => va_up_ne _ _ (by omega))⟩ trivial d_M_define_60
      · refine lv_bipush (v := xi_ (-100)) hx hb d_M_define_41 (by decide) ?_
        refine lv_iload_n hx hb d_M_define_43 rfl (lv_at hl 0 rfl) ?_
        refine xw_isub hx hb d_M_define_44 ?_
        obtain ⟨q1, q2, q3, q4⟩ := hqc.resolve_right (by omega)
        obtain ⟨d1, d2⟩ := de_no (n := (nn : Int)) q3 (by omega)
        obtain ⟨k1, k2⟩ := de_keep d2 gsf Tr
        rw [k1, k2]
        exact xw_iret F hr hlk hh rfl ((0, 0, 0, 0), z, va_up ro 8 (z_rt z), va_up si 8 (z_sz z : Int), gr) rfl ⟨by rw [d1, q4], by rw [if_pos (by omega)], msl_agr hms hag (fun j hj => va_up_ne _ _ (by omega))⟩ trivial d_M_define_45
    · refine lv_iconst (v := xi_ (-1)) hx hb d_M_define_10 rfl ?_
      have hdT : de_T bf len n = none := by
        unfold de_T
        exact if_neg (by omega)
      obtain ⟨k1, k2⟩ := de_keep hdT gsf Tr
      rw [k1, k2]
      exact xw_iret F hr hlk hh rfl ((pl, du, tk, (len : Int)), zs, ro, si, gr) rfl ⟨by unfold de_ans; rw [if_neg (by omega)], by rw [if_neg (by omega)], hms⟩ trivial d_M_define_11
