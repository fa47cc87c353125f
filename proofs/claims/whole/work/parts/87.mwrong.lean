/-! the model: wrong, grainOf, define -/
def rm_M_wrong : Room := { frames := 3, cells := 0, slots := 0, locals := 68 }
theorem wh_rt : ∀ (D : Nat) (z : MZ) (n : Int), z_dp z = D → wz_ z → (0 ≤ n ∧ n < 48) → (-1 ≤ z_rt z ∧ z_rt z ≤ 1000) → -1 ≤ z_rt (wh_ D z n) ∧ z_rt (wh_ D z n) ≤ 1000
  | 0, z, n, _, _, hn, _ => by show -1 ≤ n ∧ n ≤ 1000; omega
  | D + 1, z, n, hD, hw, hn, hr => by
    unfold wh_
    split
    · exact wh_rt D (wd_ (at1_ z D n) D) (z_op z D) rfl (wz_pop hw hD) ((hw.2.1 D (by omega)).1) hr
    · exact hr
theorem goes_rt {tx : Nat → Int} {len : Nat} {z z' : MZ} (hi : inv_ len z) (hl : z_at z < len) (hr : -1 ≤ z_rt z ∧ z_rt z ≤ 1000) (h : goes_ tx len z z') : -1 ≤ z_rt z' ∧ z_rt z' ≤ 1000 := by
  have hwz := inv_wz hi
  have hs := hi.1
  have h3 := hi.2.2.1
  rcases h with ⟨hc, rfl⟩ | ⟨_, _, _, on, tw, th, a, hd, rfl⟩
  · have hc1 := hc.1
    exact wh_rt (z_dp z - 1) (z_at z + 1, z_dp z - 1, z.2.2) _ rfl ⟨by show z_dp z - 1 ≤ 40; have := hwz.1; omega, fun j hj => hwz.2.1 j (by have hj : j < z_dp z - 1 := hj; omega), fun j hj => hwz.2.2 j (by have hj : j + 1 < z_dp z - 1 := hj; omega)⟩ ((hwz.2.1 (z_dp z - 1) (by omega)).1) hr
  · split
    · exact wh_rt _ _ _ rfl (nw_wz (tx := tx) hi hl _) (by omega) hr
    · exact hr
/-- what a reading comes to -/
def qr_ (bf : Nat → Int) (len : Nat) (zs : MZ) (v : Int) (z' : MZ) : Prop := (match prs_ bf len 40 0 with
      | (none, b) => v = (b : Int)
      | (some T, b) => if b < len then v = (b : Int) else (v = -1 ∧ z_rt z' = 0 ∧ rep_ (z_A z') 384 40 T 0 (z_sz z' : Int) ∧ z_sz z' ≤ 48)) ∧ agr_ 384 (z_A zs) (z_A z')
set_option maxHeartbeats 4000000 in
set_option maxRecDepth 100000 in
theorem lp_M_wrong {p0 : Program} {l : Launch} {e0 : Env} {s : State} {m0 : MethodId} {args : Array Value} {below : List Frame} {meth : Method} {c0 : Code} {Q : State → Prop} {G : GG_} {A : Nat → Prop} {H0 : Heap} (F : xw_F p0 s m0 args c0 b_M_wrong 1 R_M G) (mo : Nat) (ma : Nat → Nat) (wy un pl sp pe tk du tm : Int) (bf ro si : Nat → Int) (len : Nat) (hlen : len ≤ 40) (hbf : ∀ j : Nat, 0 ≤ bf j ∧ bf j ≤ 65535) (Qz : Int → MZ → Prop)
    (k1 : ∀ (v : Int) (u : MZ) (ls : Array Slot) (H : Heap) (locs : List Loc), Qz v u → xw_H G A H0 H locs [(mo, .inr (6, mo_ ma (len : Int) (z_at u : Int) (z_dp u : Int) wy un pl sp pe tk du tm)), (ma 1, .inl (G.2.2 0, 40, .inl (ja_ bf))), (ma 3, .inl (G.2.2 0, 432, .inl (ja_ (a_kn (z_A u))))), (ma 4, .inl (G.2.2 0, 432, .inl (ja_ (a_on (z_A u))))), (ma 5, .inl (G.2.2 0, 432, .inl (ja_ (a_tw (z_A u))))), (ma 6, .inl (G.2.2 0, 432, .inl (ja_ (a_th (z_A u))))), (ma 7, .inl (G.2.2 0, 432, .inl (ja_ (a_fi (z_A u))))), (ma 8, .inl (G.2.2 0, 432, .inl (ja_ (a_ne (z_A u))))), (ma 9, .inl (G.2.2 0, 432, .inl (ja_ (a_co (z_A u))))), (ma 10, .inl (G.2.2 0, 9, .inl (ja_ (va_up ro 8 (z_rt u))))), (ma 11, .inl (G.2.2 0, 9, .inl (ja_ (va_up si 8 (z_sz u : Int))))), (ma 14, .inl (G.2.2 0, 50, .inl (ja_ (z_op u)))), (ma 15, .inl (G.2.2 0, 50, .inl (ja_ (z_la u))))] → W p0 l e0 rm_M_wrong s m0 args below meth c0 H locs 0 0 Q (F0 m0 58 ls [.int (xi_ v)]))
    (k2 : ∀ (v : Int) (u : MZ) (ls : Array Slot) (H : Heap) (locs : List Loc), Qz v u → xw_H G A H0 H locs [(mo, .inr (6, mo_ ma (len : Int) (z_at u : Int) (z_dp u : Int) wy un pl sp pe tk du tm)), (ma 1, .inl (G.2.2 0, 40, .inl (ja_ bf))), (ma 3, .inl (G.2.2 0, 432, .inl (ja_ (a_kn (z_A u))))), (ma 4, .inl (G.2.2 0, 432, .inl (ja_ (a_on (z_A u))))), (ma 5, .inl (G.2.2 0, 432, .inl (ja_ (a_tw (z_A u))))), (ma 6, .inl (G.2.2 0, 432, .inl (ja_ (a_th (z_A u))))), (ma 7, .inl (G.2.2 0, 432, .inl (ja_ (a_fi (z_A u))))), (ma 8, .inl (G.2.2 0, 432, .inl (ja_ (a_ne (z_A u))))), (ma 9, .inl (G.2.2 0, 432, .inl (ja_ (a_co (z_A u))))), (ma 10, .inl (G.2.2 0, 9, .inl (ja_ (va_up ro 8 (z_rt u))))), (ma 11, .inl (G.2.2 0, 9, .inl (ja_ (va_up si 8 (z_sz u : Int))))), (ma 14, .inl (G.2.2 0, 50, .inl (ja_ (z_op u)))), (ma 15, .inl (G.2.2 0, 50, .inl (ja_ (z_la u))))] → W p0 l e0 rm_M_wrong s m0 args below meth c0 H locs 0 0 Q (F0 m0 78 ls [.int (xi_ v)])) :
    ∀ (N : Nat) (z : MZ), out_ bf len Qz N z → z_at z ≤ len → (-1 ≤ z_rt z ∧ z_rt z ≤ 1000) → ∀ (ls : Array Slot) (H : Heap) (locs : List Loc), lv_has ls 1 [(0, .ref mo)] → xw_H G A H0 H locs [(mo, .inr (6, mo_ ma (len : Int) (z_at z : Int) (z_dp z : Int) wy un pl sp pe tk du tm)), (ma 1, .inl (G.2.2 0, 40, .inl (ja_ bf))), (ma 3, .inl (G.2.2 0, 432, .inl (ja_ (a_kn (z_A z))))), (ma 4, .inl (G.2.2 0, 432, .inl (ja_ (a_on (z_A z))))), (ma 5, .inl (G.2.2 0, 432, .inl (ja_ (a_tw (z_A z))))), (ma 6, .inl (G.2.2 0, 432, .inl (ja_ (a_th (z_A z))))), (ma 7, .inl (G.2.2 0, 432, .inl (ja_ (a_fi (z_A z))))), (ma 8, .inl (G.2.2 0, 432, .inl (ja_ (a_ne (z_A z))))), (ma 9, .inl (G.2.2 0, 432, .inl (ja_ (a_co (z_A z))))), (ma 10, .inl (G.2.2 0, 9, .inl (ja_ (va_up ro 8 (z_rt z))))), (ma 11, .inl (G.2.2 0, 9, .inl (ja_ (va_up si 8 (z_sz z : Int))))), (ma 14, .inl (G.2.2 0, 50, .inl (ja_ (z_op z)))), (ma 15, .inl (G.2.2 0, 50, .inl (ja_ (z_la z))))] → W p0 l e0 rm_M_wrong s m0 args below meth c0 H locs 0 0 Q (F0 m0 26 ls []) := by
  have hx := F.1
  have hb := F.2.1
  intro N
  induction N with
  | zero => intro z h; exact h.elim
  | succ N ihn =>
    intro z hout hza hrt ls H locs hl hh
    unfold out_ at hout
    refine lv_aload_n hx hb d_M_wrong_26 rfl (lv_at hl 0 rfl) ?_
    refine xw_get F hh.1 (v := .ref (ma 10)) fl_M_34_6 0 rfl rfl d_M_wrong_27 ?_
    refine lv_bipush (v := xi_ 8) hx hb d_M_wrong_30 (by decide) ?_
    refine xw_iald F hh.1 9 (f := va_up ro 8 (z_rt z)) rfl (i := 8) (by omega) d_M_wrong_32 ?_
    refine xw_topi (y := z_rt z) (va_up_self _ _ _) ?_
    refine xw_if_ge hx hb 59 d_M_wrong_33 (by decide) (by omega) (fun c33 => ?_) (fun c33 => ?_)
    · rw [if_pos c33] at hout
      refine lv_aload_n hx hb d_M_wrong_59 rfl (lv_at hl 0 rfl) ?_
      refine xw_get F hh.1 (v := .int (xi_ (z_at z : Int))) fl_M_130_6 0 rfl rfl d_M_wrong_60 ?_
      refine lv_aload_n hx hb d_M_wrong_63 rfl (lv_at hl 0 rfl) ?_
      refine xw_get F hh.1 (v := .int (xi_ (len : Int))) fl_M_120_6 0 rfl rfl d_M_wrong_64 ?_
      refine xw_icmp_ge hx hb 77 d_M_wrong_67 (by decide) (by omega) (fun c67 => ?_) (fun c67 => ?_)
      · rw [if_neg (by omega)] at hout
        refine lv_iconst (v := xi_ (-1)) hx hb d_M_wrong_77 rfl ?_
        exact k2 _ z ls H locs hout hh
      · rw [if_pos (by omega)] at hout
        refine lv_aload_n hx hb d_M_wrong_70 rfl (lv_at hl 0 rfl) ?_
        refine xw_get F hh.1 (v := .int (xi_ (z_at z : Int))) fl_M_130_6 0 rfl rfl d_M_wrong_71 ?_
        refine lv_goto (tgt := 78) hx hb d_M_wrong_74 (by decide) ?_
        exact k2 _ z ls H locs hout hh
    · rw [if_neg (by omega)] at hout
      refine lv_aload_n hx hb d_M_wrong_36 rfl (lv_at hl 0 rfl) ?_
      refine xw_get F hh.1 (v := .int (xi_ (z_at z : Int))) fl_M_130_6 0 rfl rfl d_M_wrong_37 ?_
      refine lv_aload_n hx hb d_M_wrong_40 rfl (lv_at hl 0 rfl) ?_
      refine xw_get F hh.1 (v := .int (xi_ (len : Int))) fl_M_120_6 0 rfl rfl d_M_wrong_41 ?_
      refine xw_icmp_eq hx hb 54 d_M_wrong_44 (by decide) (by omega) (fun c44 => ?_) (fun c44 => ?_)
      · rw [if_pos (by omega)] at hout
        refine lv_aload_n hx hb d_M_wrong_54 rfl (lv_at hl 0 rfl) ?_
        refine xw_get F hh.1 (v := .int (xi_ (z_at z : Int))) fl_M_130_6 0 rfl rfl d_M_wrong_55 ?_
        exact k1 _ z ls H locs hout hh
      · rw [if_neg (by omega)] at hout
        obtain ⟨hinv, hfa, hgo⟩ := hout
        refine lv_aload_n hx hb d_M_wrong_47 rfl (lv_at hl 0 rfl) ?_
        refine xw_ci (wc := [(mo, .inr (6, mo_ ma (len : Int) (z_at z : Int) (z_dp z : Int) wy un pl sp pe tk du tm)), (ma 1, .inl (G.2.2 0, 40, .inl (ja_ bf))), (ma 3, .inl (G.2.2 0, 432, .inl (ja_ (a_kn (z_A z))))), (ma 4, .inl (G.2.2 0, 432, .inl (ja_ (a_on (z_A z))))), (ma 5, .inl (G.2.2 0, 432, .inl (ja_ (a_tw (z_A z))))), (ma 6, .inl (G.2.2 0, 432, .inl (ja_ (a_th (z_A z))))), (ma 7, .inl (G.2.2 0, 432, .inl (ja_ (a_fi (z_A z))))), (ma 8, .inl (G.2.2 0, 432, .inl (ja_ (a_ne (z_A z))))), (ma 9, .inl (G.2.2 0, 432, .inl (ja_ (a_co (z_A z))))), (ma 10, .inl (G.2.2 0, 9, .inl (ja_ (va_up ro 8 (z_rt z))))), (ma 11, .inl (G.2.2 0, 9, .inl (ja_ (va_up si 8 (z_sz z : Int))))), (ma 14, .inl (G.2.2 0, 50, .inl (ja_ (z_op z)))), (ma 15, .inl (G.2.2 0, 50, .inl (ja_ (z_la z))))]) (wr := []) hh [0, 1, 2, 3, 4, 5, 6, 7, 8, 9, 10, 11, 12] [] rfl rfl rfl (by decide) (xw_rV F hh [0, 1, 2, 3, 4, 5, 6, 7, 8, 9, 10, 11, 12] rfl rfl (c_M_goesOn l G H.size mo ma wy un pl sp pe tk du tm bf ro si len z hinv (by omega) hbf) trivial lk_M_158 cd_M_goesOn se_M_goesOn _ hh.1 0 rfl rfl rfl rfl ⟨by decide, by decide⟩ rfl hl.1 rfl (Nat.le_of_ble_eq_true rfl) d_M_wrong_48 ⟨Nat.le_of_ble_eq_true rfl, Nat.le_of_ble_eq_true rfl⟩) (fun z48 u H locs hp48 hX hz hk hh => ?_)
        have hh : xw_H G A H0 H locs [(mo, .inr (6, mo_ ma (len : Int) (z_at u : Int) (z_dp u : Int) wy un pl sp pe tk du tm)), (ma 1, .inl (G.2.2 0, 40, .inl (ja_ bf))), (ma 3, .inl (G.2.2 0, 432, .inl (ja_ (a_kn (z_A u))))), (ma 4, .inl (G.2.2 0, 432, .inl (ja_ (a_on (z_A u))))), (ma 5, .inl (G.2.2 0, 432, .inl (ja_ (a_tw (z_A u))))), (ma 6, .inl (G.2.2 0, 432, .inl (ja_ (a_th (z_A u))))), (ma 7, .inl (G.2.2 0, 432, .inl (ja_ (a_fi (z_A u))))), (ma 8, .inl (G.2.2 0, 432, .inl (ja_ (a_ne (z_A u))))), (ma 9, .inl (G.2.2 0, 432, .inl (ja_ (a_co (z_A u))))), (ma 10, .inl (G.2.2 0, 9, .inl (ja_ (va_up ro 8 (z_rt u))))), (ma 11, .inl (G.2.2 0, 9, .inl (ja_ (va_up si 8 (z_sz u : Int))))), (ma 14, .inl (G.2.2 0, 50, .inl (ja_ (z_op u)))), (ma 15, .inl (G.2.2 0, 50, .inl (ja_ (z_la u))))] := hh
        rcases hp48 with ⟨rfl, hg⟩ | ⟨rfl, hf⟩
        · refine xw_if_ne hx hb 26 d_M_wrong_51 (by decide) (by decide) (fun c51 => ?_) (fun c51 => absurd c51 (by decide))
          exact ihn u (hgo u hg) (goes_at (by omega) hg) (goes_rt hinv (by omega) hrt hg) ls H locs (lv_sub hl [0] rfl) hh
        · have hua := fails_at (by omega) hf
          refine xw_if_ne hx hb 26 d_M_wrong_51 (by decide) (by decide) (fun c51 => absurd c51 (by decide)) (fun c51 => ?_)
          refine lv_aload_n hx hb d_M_wrong_54 rfl (lv_at hl 0 rfl) ?_
          refine xw_get F hh.1 (v := .int (xi_ (z_at u : Int))) fl_M_130_6 0 rfl rfl d_M_wrong_55 ?_
          exact k1 _ u ls H locs (hfa u hf) hh
set_option maxHeartbeats 4000000 in
set_option maxRecDepth 100000 in
theorem c_M_wrong (l : Launch) (G : GG_) (sz : Nat) (mo : Nat) (ma : Nat → Nat) (wy un pl sp pe tk du tm : Int) (bf ro si : Nat → Int) (len : Nat) (hlen : len ≤ 40) (hbf : ∀ j : Nat, 0 ≤ bf j ∧ bf j ≤ 65535) (htx : ∀ j : Nat, j < len → bf j ≠ 0) (zs : MZ) : Met l y_M_wrong (cw_ y_M_wrong b_M_wrong 1 (some .int)) rm_M_wrong (xw_P G [.ref mo] sz [(mo, .inr (6, mo_ ma (len : Int) (z_at zs : Int) (z_dp zs : Int) wy un pl sp pe tk du tm)), (ma 1, .inl (G.2.2 0, 40, .inl (ja_ bf))), (ma 3, .inl (G.2.2 0, 432, .inl (ja_ (a_kn (z_A zs))))), (ma 4, .inl (G.2.2 0, 432, .inl (ja_ (a_on (z_A zs))))), (ma 5, .inl (G.2.2 0, 432, .inl (ja_ (a_tw (z_A zs))))), (ma 6, .inl (G.2.2 0, 432, .inl (ja_ (a_th (z_A zs))))), (ma 7, .inl (G.2.2 0, 432, .inl (ja_ (a_fi (z_A zs))))), (ma 8, .inl (G.2.2 0, 432, .inl (ja_ (a_ne (z_A zs))))), (ma 9, .inl (G.2.2 0, 432, .inl (ja_ (a_co (z_A zs))))), (ma 10, .inl (G.2.2 0, 9, .inl (ja_ ro))), (ma 11, .inl (G.2.2 0, 9, .inl (ja_ si))), (ma 14, .inl (G.2.2 0, 50, .inl (ja_ (z_op zs)))), (ma 15, .inl (G.2.2 0, 50, .inl (ja_ (z_la zs))))] (fun _ => True)) (xw_Qi (S := MZ) G sz [(mo, .inr (6, mo_ ma (len : Int) (z_at zs : Int) (z_dp zs : Int) wy un pl sp pe tk du tm)), (ma 1, .inl (G.2.2 0, 40, .inl (ja_ bf))), (ma 3, .inl (G.2.2 0, 432, .inl (ja_ (a_kn (z_A zs))))), (ma 4, .inl (G.2.2 0, 432, .inl (ja_ (a_on (z_A zs))))), (ma 5, .inl (G.2.2 0, 432, .inl (ja_ (a_tw (z_A zs))))), (ma 6, .inl (G.2.2 0, 432, .inl (ja_ (a_th (z_A zs))))), (ma 7, .inl (G.2.2 0, 432, .inl (ja_ (a_fi (z_A zs))))), (ma 8, .inl (G.2.2 0, 432, .inl (ja_ (a_ne (z_A zs))))), (ma 9, .inl (G.2.2 0, 432, .inl (ja_ (a_co (z_A zs))))), (ma 10, .inl (G.2.2 0, 9, .inl (ja_ ro))), (ma 11, .inl (G.2.2 0, 9, .inl (ja_ si))), (ma 14, .inl (G.2.2 0, 50, .inl (ja_ (z_op zs)))), (ma 15, .inl (G.2.2 0, 50, .inl (ja_ (z_la zs))))] (fun w u => qr_ bf len zs w u) (fun u => [(mo, .inr (6, mo_ ma (len : Int) (z_at u : Int) (z_dp u : Int) wy un pl sp pe tk du tm)), (ma 1, .inl (G.2.2 0, 40, .inl (ja_ bf))), (ma 3, .inl (G.2.2 0, 432, .inl (ja_ (a_kn (z_A u))))), (ma 4, .inl (G.2.2 0, 432, .inl (ja_ (a_on (z_A u))))), (ma 5, .inl (G.2.2 0, 432, .inl (ja_ (a_tw (z_A u))))), (ma 6, .inl (G.2.2 0, 432, .inl (ja_ (a_th (z_A u))))), (ma 7, .inl (G.2.2 0, 432, .inl (ja_ (a_fi (z_A u))))), (ma 8, .inl (G.2.2 0, 432, .inl (ja_ (a_ne (z_A u))))), (ma 9, .inl (G.2.2 0, 432, .inl (ja_ (a_co (z_A u))))), (ma 10, .inl (G.2.2 0, 9, .inl (ja_ (va_up ro 8 (z_rt u))))), (ma 11, .inl (G.2.2 0, 9, .inl (ja_ (va_up si 8 (z_sz u : Int))))), (ma 14, .inl (G.2.2 0, 50, .inl (ja_ (z_op u)))), (ma 15, .inl (G.2.2 0, 50, .inl (ja_ (z_la u))))]) (fun _ _ => True)) 0 0 (va_A [(mo, .inr (6, mo_ ma (len : Int) (z_at zs : Int) (z_dp zs : Int) wy un pl sp pe tk du tm)), (ma 1, .inl (G.2.2 0, 40, .inl (ja_ bf))), (ma 3, .inl (G.2.2 0, 432, .inl (ja_ (a_kn (z_A zs))))), (ma 4, .inl (G.2.2 0, 432, .inl (ja_ (a_on (z_A zs))))), (ma 5, .inl (G.2.2 0, 432, .inl (ja_ (a_tw (z_A zs))))), (ma 6, .inl (G.2.2 0, 432, .inl (ja_ (a_th (z_A zs))))), (ma 7, .inl (G.2.2 0, 432, .inl (ja_ (a_fi (z_A zs))))), (ma 8, .inl (G.2.2 0, 432, .inl (ja_ (a_ne (z_A zs))))), (ma 9, .inl (G.2.2 0, 432, .inl (ja_ (a_co (z_A zs))))), (ma 10, .inl (G.2.2 0, 9, .inl (ja_ ro))), (ma 11, .inl (G.2.2 0, 9, .inl (ja_ si))), (ma 14, .inl (G.2.2 0, 50, .inl (ja_ (z_op zs)))), (ma 15, .inl (G.2.2 0, 50, .inl (ja_ (z_la zs))))] sz) := by
  refine xw_met (by decide) (Nat.le_of_ble_eq_true rfl) ?_
  intro p0 e0 s m0 args below meth c0 F hr hlk hin hsz hh hX ls hl
  subst hsz
  have hx := F.1
  have hb := F.2.1
  have hl : lv_has ls 1 [(0, .ref mo)] := hl
  refine lv_aload_n hx hb d_M_wrong_0 rfl (lv_at hl 0 rfl) ?_
  refine lv_iconst (v := xi_ 0) hx hb d_M_wrong_1 rfl ?_
  refine xw_put F hh fp_M_130_6 0 rfl rfl rfl (Nat.le_of_ble_eq_true rfl) d_M_wrong_2 (fun H locs hh => ?_)
  have hh : xw_H G (va_A [(mo, .inr (6, mo_ ma (len : Int) (z_at zs : Int) (z_dp zs : Int) wy un pl sp pe tk du tm)), (ma 1, .inl (G.2.2 0, 40, .inl (ja_ bf))), (ma 3, .inl (G.2.2 0, 432, .inl (ja_ (a_kn (z_A zs))))), (ma 4, .inl (G.2.2 0, 432, .inl (ja_ (a_on (z_A zs))))), (ma 5, .inl (G.2.2 0, 432, .inl (ja_ (a_tw (z_A zs))))), (ma 6, .inl (G.2.2 0, 432, .inl (ja_ (a_th (z_A zs))))), (ma 7, .inl (G.2.2 0, 432, .inl (ja_ (a_fi (z_A zs))))), (ma 8, .inl (G.2.2 0, 432, .inl (ja_ (a_ne (z_A zs))))), (ma 9, .inl (G.2.2 0, 432, .inl (ja_ (a_co (z_A zs))))), (ma 10, .inl (G.2.2 0, 9, .inl (ja_ ro))), (ma 11, .inl (G.2.2 0, 9, .inl (ja_ si))), (ma 14, .inl (G.2.2 0, 50, .inl (ja_ (z_op zs)))), (ma 15, .inl (G.2.2 0, 50, .inl (ja_ (z_la zs))))] s.heap.size) s.heap H locs [(mo, .inr (6, mo_ ma (len : Int) 0 (z_dp zs : Int) wy un pl sp pe tk du tm)), (ma 1, .inl (G.2.2 0, 40, .inl (ja_ bf))), (ma 3, .inl (G.2.2 0, 432, .inl (ja_ (a_kn (z_A zs))))), (ma 4, .inl (G.2.2 0, 432, .inl (ja_ (a_on (z_A zs))))), (ma 5, .inl (G.2.2 0, 432, .inl (ja_ (a_tw (z_A zs))))), (ma 6, .inl (G.2.2 0, 432, .inl (ja_ (a_th (z_A zs))))), (ma 7, .inl (G.2.2 0, 432, .inl (ja_ (a_fi (z_A zs))))), (ma 8, .inl (G.2.2 0, 432, .inl (ja_ (a_ne (z_A zs))))), (ma 9, .inl (G.2.2 0, 432, .inl (ja_ (a_co (z_A zs))))), (ma 10, .inl (G.2.2 0, 9, .inl (ja_ ro))), (ma 11, .inl (G.2.2 0, 9, .inl (ja_ si))), (ma 14, .inl (G.2.2 0, 50, .inl (ja_ (z_op zs)))), (ma 15, .inl (G.2.2 0, 50, .inl (ja_ (z_la zs))))] := hh
  refine lv_aload_n hx hb d_M_wrong_5 rfl (lv_at hl 0 rfl) ?_
  refine lv_iconst (v := xi_ 0) hx hb d_M_wrong_6 rfl ?_
  refine xw_put F hh fp_M_123_6 0 rfl rfl rfl (Nat.le_of_ble_eq_true rfl) d_M_wrong_7 (fun H locs hh => ?_)
  have hh : xw_H G (va_A [(mo, .inr (6, mo_ ma (len : Int) (z_at zs : Int) (z_dp zs : Int) wy un pl sp pe tk du tm)), (ma 1, .inl (G.2.2 0, 40, .inl (ja_ bf))), (ma 3, .inl (G.2.2 0, 432, .inl (ja_ (a_kn (z_A zs))))), (ma 4, .inl (G.2.2 0, 432, .inl (ja_ (a_on (z_A zs))))), (ma 5, .inl (G.2.2 0, 432, .inl (ja_ (a_tw (z_A zs))))), (ma 6, .inl (G.2.2 0, 432, .inl (ja_ (a_th (z_A zs))))), (ma 7, .inl (G.2.2 0, 432, .inl (ja_ (a_fi (z_A zs))))), (ma 8, .inl (G.2.2 0, 432, .inl (ja_ (a_ne (z_A zs))))), (ma 9, .inl (G.2.2 0, 432, .inl (ja_ (a_co (z_A zs))))), (ma 10, .inl (G.2.2 0, 9, .inl (ja_ ro))), (ma 11, .inl (G.2.2 0, 9, .inl (ja_ si))), (ma 14, .inl (G.2.2 0, 50, .inl (ja_ (z_op zs)))), (ma 15, .inl (G.2.2 0, 50, .inl (ja_ (z_la zs))))] s.heap.size) s.heap H locs [(mo, .inr (6, mo_ ma (len : Int) 0 0 wy un pl sp pe tk du tm)), (ma 1, .inl (G.2.2 0, 40, .inl (ja_ bf))), (ma 3, .inl (G.2.2 0, 432, .inl (ja_ (a_kn (z_A zs))))), (ma 4, .inl (G.2.2 0, 432, .inl (ja_ (a_on (z_A zs))))), (ma 5, .inl (G.2.2 0, 432, .inl (ja_ (a_tw (z_A zs))))), (ma 6, .inl (G.2.2 0, 432, .inl (ja_ (a_th (z_A zs))))), (ma 7, .inl (G.2.2 0, 432, .inl (ja_ (a_fi (z_A zs))))), (ma 8, .inl (G.2.2 0, 432, .inl (ja_ (a_ne (z_A zs))))), (ma 9, .inl (G.2.2 0, 432, .inl (ja_ (a_co (z_A zs))))), (ma 10, .inl (G.2.2 0, 9, .inl (ja_ ro))), (ma 11, .inl (G.2.2 0, 9, .inl (ja_ si))), (ma 14, .inl (G.2.2 0, 50, .inl (ja_ (z_op zs)))), (ma 15, .inl (G.2.2 0, 50, .inl (ja_ (z_la zs))))] := hh
  refine lv_aload_n hx hb d_M_wrong_10 rfl (lv_at hl 0 rfl) ?_
  refine xw_get F hh.1 (v := .ref (ma 11)) fl_M_37_6 0 rfl rfl d_M_wrong_11 ?_
  refine lv_bipush (v := xi_ 8) hx hb d_M_wrong_14 (by decide) ?_
  refine lv_iconst (v := xi_ 0) hx hb d_M_wrong_16 rfl ?_
  refine xw_iast F hh 10 (f := si) rfl (i := 8) (x := 0) (by omega) d_M_wrong_17 (fun H locs hh => ?_)
  have hh : xw_H G (va_A [(mo, .inr (6, mo_ ma (len : Int) (z_at zs : Int) (z_dp zs : Int) wy un pl sp pe tk du tm)), (ma 1, .inl (G.2.2 0, 40, .inl (ja_ bf))), (ma 3, .inl (G.2.2 0, 432, .inl (ja_ (a_kn (z_A zs))))), (ma 4, .inl (G.2.2 0, 432, .inl (ja_ (a_on (z_A zs))))), (ma 5, .inl (G.2.2 0, 432, .inl (ja_ (a_tw (z_A zs))))), (ma 6, .inl (G.2.2 0, 432, .inl (ja_ (a_th (z_A zs))))), (ma 7, .inl (G.2.2 0, 432, .inl (ja_ (a_fi (z_A zs))))), (ma 8, .inl (G.2.2 0, 432, .inl (ja_ (a_ne (z_A zs))))), (ma 9, .inl (G.2.2 0, 432, .inl (ja_ (a_co (z_A zs))))), (ma 10, .inl (G.2.2 0, 9, .inl (ja_ ro))), (ma 11, .inl (G.2.2 0, 9, .inl (ja_ si))), (ma 14, .inl (G.2.2 0, 50, .inl (ja_ (z_op zs)))), (ma 15, .inl (G.2.2 0, 50, .inl (ja_ (z_la zs))))] s.heap.size) s.heap H locs [(mo, .inr (6, mo_ ma (len : Int) 0 0 wy un pl sp pe tk du tm)), (ma 1, .inl (G.2.2 0, 40, .inl (ja_ bf))), (ma 3, .inl (G.2.2 0, 432, .inl (ja_ (a_kn (z_A zs))))), (ma 4, .inl (G.2.2 0, 432, .inl (ja_ (a_on (z_A zs))))), (ma 5, .inl (G.2.2 0, 432, .inl (ja_ (a_tw (z_A zs))))), (ma 6, .inl (G.2.2 0, 432, .inl (ja_ (a_th (z_A zs))))), (ma 7, .inl (G.2.2 0, 432, .inl (ja_ (a_fi (z_A zs))))), (ma 8, .inl (G.2.2 0, 432, .inl (ja_ (a_ne (z_A zs))))), (ma 9, .inl (G.2.2 0, 432, .inl (ja_ (a_co (z_A zs))))), (ma 10, .inl (G.2.2 0, 9, .inl (ja_ ro))), (ma 11, .inl (G.2.2 0, 9, .inl (ja_ (va_up si 8 0)))), (ma 14, .inl (G.2.2 0, 50, .inl (ja_ (z_op zs)))), (ma 15, .inl (G.2.2 0, 50, .inl (ja_ (z_la zs))))] := hh
  refine lv_aload_n hx hb d_M_wrong_18 rfl (lv_at hl 0 rfl) ?_
  refine xw_get F hh.1 (v := .ref (ma 10)) fl_M_34_6 0 rfl rfl d_M_wrong_19 ?_
  refine lv_bipush (v := xi_ 8) hx hb d_M_wrong_22 (by decide) ?_
  refine lv_iconst (v := xi_ (-1)) hx hb d_M_wrong_24 rfl ?_
  refine xw_iast F hh 9 (f := ro) rfl (i := 8) (x := (-1)) (by omega) d_M_wrong_25 (fun H locs hh => ?_)
  have hh : xw_H G (va_A [(mo, .inr (6, mo_ ma (len : Int) (z_at zs : Int) (z_dp zs : Int) wy un pl sp pe tk du tm)), (ma 1, .inl (G.2.2 0, 40, .inl (ja_ bf))), (ma 3, .inl (G.2.2 0, 432, .inl (ja_ (a_kn (z_A zs))))), (ma 4, .inl (G.2.2 0, 432, .inl (ja_ (a_on (z_A zs))))), (ma 5, .inl (G.2.2 0, 432, .inl (ja_ (a_tw (z_A zs))))), (ma 6, .inl (G.2.2 0, 432, .inl (ja_ (a_th (z_A zs))))), (ma 7, .inl (G.2.2 0, 432, .inl (ja_ (a_fi (z_A zs))))), (ma 8, .inl (G.2.2 0, 432, .inl (ja_ (a_ne (z_A zs))))), (ma 9, .inl (G.2.2 0, 432, .inl (ja_ (a_co (z_A zs))))), (ma 10, .inl (G.2.2 0, 9, .inl (ja_ ro))), (ma 11, .inl (G.2.2 0, 9, .inl (ja_ si))), (ma 14, .inl (G.2.2 0, 50, .inl (ja_ (z_op zs)))), (ma 15, .inl (G.2.2 0, 50, .inl (ja_ (z_la zs))))] s.heap.size) s.heap H locs [(mo, .inr (6, mo_ ma (len : Int) 0 0 wy un pl sp pe tk du tm)), (ma 1, .inl (G.2.2 0, 40, .inl (ja_ bf))), (ma 3, .inl (G.2.2 0, 432, .inl (ja_ (a_kn (z_A zs))))), (ma 4, .inl (G.2.2 0, 432, .inl (ja_ (a_on (z_A zs))))), (ma 5, .inl (G.2.2 0, 432, .inl (ja_ (a_tw (z_A zs))))), (ma 6, .inl (G.2.2 0, 432, .inl (ja_ (a_th (z_A zs))))), (ma 7, .inl (G.2.2 0, 432, .inl (ja_ (a_fi (z_A zs))))), (ma 8, .inl (G.2.2 0, 432, .inl (ja_ (a_ne (z_A zs))))), (ma 9, .inl (G.2.2 0, 432, .inl (ja_ (a_co (z_A zs))))), (ma 10, .inl (G.2.2 0, 9, .inl (ja_ (va_up ro 8 (-1))))), (ma 11, .inl (G.2.2 0, 9, .inl (ja_ (va_up si 8 0)))), (ma 14, .inl (G.2.2 0, 50, .inl (ja_ (z_op zs)))), (ma 15, .inl (G.2.2 0, 50, .inl (ja_ (z_la zs))))] := hh
  have hh : xw_H G (va_A [(mo, .inr (6, mo_ ma (len : Int) (z_at zs : Int) (z_dp zs : Int) wy un pl sp pe tk du tm)), (ma 1, .inl (G.2.2 0, 40, .inl (ja_ bf))), (ma 3, .inl (G.2.2 0, 432, .inl (ja_ (a_kn (z_A zs))))), (ma 4, .inl (G.2.2 0, 432, .inl (ja_ (a_on (z_A zs))))), (ma 5, .inl (G.2.2 0, 432, .inl (ja_ (a_tw (z_A zs))))), (ma 6, .inl (G.2.2 0, 432, .inl (ja_ (a_th (z_A zs))))), (ma 7, .inl (G.2.2 0, 432, .inl (ja_ (a_fi (z_A zs))))), (ma 8, .inl (G.2.2 0, 432, .inl (ja_ (a_ne (z_A zs))))), (ma 9, .inl (G.2.2 0, 432, .inl (ja_ (a_co (z_A zs))))), (ma 10, .inl (G.2.2 0, 9, .inl (ja_ ro))), (ma 11, .inl (G.2.2 0, 9, .inl (ja_ si))), (ma 14, .inl (G.2.2 0, 50, .inl (ja_ (z_op zs)))), (ma 15, .inl (G.2.2 0, 50, .inl (ja_ (z_la zs))))] s.heap.size) s.heap H locs [(mo, .inr (6, mo_ ma (len : Int) (z_at (((0 : Nat), (0 : Nat), (0 : Nat), (-1 : Int), zs.2.2.2.2) : MZ) : Int) (z_dp (((0 : Nat), (0 : Nat), (0 : Nat), (-1 : Int), zs.2.2.2.2) : MZ) : Int) wy un pl sp pe tk du tm)), (ma 1, .inl (G.2.2 0, 40, .inl (ja_ bf))), (ma 3, .inl (G.2.2 0, 432, .inl (ja_ (a_kn (z_A (((0 : Nat), (0 : Nat), (0 : Nat), (-1 : Int), zs.2.2.2.2) : MZ)))))), (ma 4, .inl (G.2.2 0, 432, .inl (ja_ (a_on (z_A (((0 : Nat), (0 : Nat), (0 : Nat), (-1 : Int), zs.2.2.2.2) : MZ)))))), (ma 5, .inl (G.2.2 0, 432, .inl (ja_ (a_tw (z_A (((0 : Nat), (0 : Nat), (0 : Nat), (-1 : Int), zs.2.2.2.2) : MZ)))))), (ma 6, .inl (G.2.2 0, 432, .inl (ja_ (a_th (z_A (((0 : Nat), (0 : Nat), (0 : Nat), (-1 : Int), zs.2.2.2.2) : MZ)))))), (ma 7, .inl (G.2.2 0, 432, .inl (ja_ (a_fi (z_A (((0 : Nat), (0 : Nat), (0 : Nat), (-1 : Int), zs.2.2.2.2) : MZ)))))), (ma 8, .inl (G.2.2 0, 432, .inl (ja_ (a_ne (z_A (((0 : Nat), (0 : Nat), (0 : Nat), (-1 : Int), zs.2.2.2.2) : MZ)))))), (ma 9, .inl (G.2.2 0, 432, .inl (ja_ (a_co (z_A (((0 : Nat), (0 : Nat), (0 : Nat), (-1 : Int), zs.2.2.2.2) : MZ)))))), (ma 10, .inl (G.2.2 0, 9, .inl (ja_ (va_up ro 8 (z_rt (((0 : Nat), (0 : Nat), (0 : Nat), (-1 : Int), zs.2.2.2.2) : MZ)))))), (ma 11, .inl (G.2.2 0, 9, .inl (ja_ (va_up si 8 (z_sz (((0 : Nat), (0 : Nat), (0 : Nat), (-1 : Int), zs.2.2.2.2) : MZ) : Int))))), (ma 14, .inl (G.2.2 0, 50, .inl (ja_ (z_op (((0 : Nat), (0 : Nat), (0 : Nat), (-1 : Int), zs.2.2.2.2) : MZ))))), (ma 15, .inl (G.2.2 0, 50, .inl (ja_ (z_la (((0 : Nat), (0 : Nat), (0 : Nat), (-1 : Int), zs.2.2.2.2) : MZ)))))] := hh
  have hro := read_out (tx := bf) (len := len) htx hlen (z := (((0 : Nat), (0 : Nat), (0 : Nat), (-1 : Int), zs.2.2.2.2) : MZ)) rfl rfl rfl (by show (-1 : Int) < 0; decide)
  refine lp_M_wrong F mo ma wy un pl sp pe tk du tm bf ro si len hlen hbf (qr_ bf len zs) (fun v u ls H locs hq hh => ?_) (fun v u ls H locs hq hh => ?_) (len + 1) (((0 : Nat), (0 : Nat), (0 : Nat), (-1 : Int), zs.2.2.2.2) : MZ) hro (Nat.zero_le _) ⟨Int.le_refl _, (by show (-1 : Int) ≤ 1000; decide)⟩ ls H locs (lv_sub hl [0] rfl) hh
  · exact xw_iret F hr hlk hh rfl u rfl hq trivial d_M_wrong_58
  · exact xw_iret F hr hlk hh rfl u rfl hq trivial d_M_wrong_78
def rm_M_grainOf : Room := { frames := 0, cells := 0, slots := 0, locals := 0 }
set_option maxHeartbeats 4000000 in
set_option maxRecDepth 100000 in
theorem lp_M_grainOf {p0 : Program} {l : Launch} {e0 : Env} {s : State} {m0 : MethodId} {args : Array Value} {below : List Frame} {meth : Method} {c0 : Code} {Q : State → Prop} {G : GG_} {A0 : Nat → Prop} {H0 : Heap} (F : xw_F p0 s m0 args c0 b_M_grainOf 4 R_M G) (mo : Nat) (ma : Nat → Nat) (ty at0 dp wy un pl sp pe tk du tm : Int) (A : MT) (si : Nat → Int) (k9 : Nat) (hk9 : k9 ≤ 48) (hsi : si 8 = (k9 : Int)) (hkn : ∀ i : Nat, i < k9 → 0 ≤ a_kn A (384 + 0 + (i : Int)).toNat ∧ a_kn A (384 + 0 + (i : Int)).toNat ≤ 10) (hfa : ∀ i : Nat, i < k9 → 1 ≤ fac_ A (384 + 0 + (i : Int)).toNat ∧ fac_ A (384 + 0 + (i : Int)).toNat ≤ 9)
    (kt : ∀ (gg : Int) (ls : Array Slot) (H : Heap) (locs : List Loc), ((gpr_ A 384 k9 0 ≤ 5040 → gg = gpr_ A 384 k9 0) ∧ (5040 < gpr_ A 384 k9 0 → 5040 < gg) ∧ 1 ≤ gg ∧ gg ≤ 45360) → lv_has ls 4 [(1, .int (xi_ gg))] → xw_H G A0 H0 H locs [(mo, .inr (6, mo_ ma ty at0 dp wy un pl sp pe tk du tm)), (ma 3, .inl (G.2.2 0, 432, .inl (ja_ (a_kn A)))), (ma 4, .inl (G.2.2 0, 432, .inl (ja_ (a_on A)))), (ma 5, .inl (G.2.2 0, 432, .inl (ja_ (a_tw A)))), (ma 9, .inl (G.2.2 0, 432, .inl (ja_ (a_co A)))), (ma 11, .inl (G.2.2 0, 9, .inl (ja_ si)))] → W p0 l e0 rm_M_grainOf s m0 args below meth c0 H locs 0 0 Q (F0 m0 99 ls [])) :
    ∀ (N : Nat) (k : Nat) (gg ni : Int) (ls : Array Slot) (H : Heap) (locs : List Loc), k9 - k < N → k ≤ k9 → gg = gpr_ A 384 k 0 → gg ≤ 45360 → ni = 384 + (k : Int) → lv_has ls 4 [(1, .int (xi_ gg)), (2, .int (xi_ ni)), (0, .ref mo)] → xw_H G A0 H0 H locs [(mo, .inr (6, mo_ ma ty at0 dp wy un pl sp pe tk du tm)), (ma 3, .inl (G.2.2 0, 432, .inl (ja_ (a_kn A)))), (ma 4, .inl (G.2.2 0, 432, .inl (ja_ (a_on A)))), (ma 5, .inl (G.2.2 0, 432, .inl (ja_ (a_tw A)))), (ma 9, .inl (G.2.2 0, 432, .inl (ja_ (a_co A)))), (ma 11, .inl (G.2.2 0, 9, .inl (ja_ si)))] → W p0 l e0 rm_M_grainOf s m0 args below meth c0 H locs 0 0 Q (F0 m0 6 ls []) := by
  have hx := F.1
  have hb := F.2.1
  intro N
  induction N with
  | zero => intro k gg ni ls H locs h; omega
  | succ N ihn =>
    intro k gg ni ls H locs hN1 hk hg hg2 hni hl hh
    have hm := gpr_mono hfa (k9 - k) k (by omega)
    rw [show k + (k9 - k) = k9 by omega, ← hg] at hm
    refine lv_iload_n hx hb d_M_grainOf_6 rfl (lv_at hl 1 rfl) ?_
    refine lv_sipush (v := xi_ 384) hx hb d_M_grainOf_7 (by decide) ?_
    refine lv_aload_n hx hb d_M_grainOf_10 rfl (lv_at hl 2 rfl) ?_
    refine xw_get F hh.1 (v := .ref (ma 11)) fl_M_37_6 0 rfl rfl d_M_grainOf_11 ?_
    refine lv_bipush (v := xi_ 8) hx hb d_M_grainOf_14 (by decide) ?_
    refine xw_iald F hh.1 5 (f := si) rfl (i := 8) (by omega) d_M_grainOf_16 ?_
    refine xw_topi (y := (k9 : Int)) hsi ?_
    refine xw_iadd hx hb d_M_grainOf_17 ?_
    refine xw_icmp_ge hx hb 99 d_M_grainOf_18 (by decide) (by omega) (fun c18 => ?_) (fun c18 => ?_)
    · have ek : k = k9 := by omega
      rw [ek] at hg
      exact kt gg ls H locs ⟨fun _ => hg, fun q => by omega, by omega, hg2⟩ (lv_sub hl [0] rfl) hh
    · refine lv_iload_n hx hb d_M_grainOf_21 rfl (lv_at hl 0 rfl) ?_
      refine lv_sipush (v := xi_ 5040) hx hb d_M_grainOf_22 (by decide) ?_
      refine xw_icmp_gt hx hb 99 d_M_grainOf_25 (by decide) (by omega) (fun c25 => ?_) (fun c25 => ?_)
      · exact kt gg ls H locs ⟨fun q => by omega, fun _ => by omega, by omega, hg2⟩ (lv_sub hl [0] rfl) hh
      · have hkk := hkn k (by omega)
        have hidx : ni.toNat = (384 + 0 + (k : Int)).toNat := by omega
        rw [← hidx] at hkk
        refine lv_aload_n hx hb d_M_grainOf_28 rfl (lv_at hl 2 rfl) ?_
        refine xw_get F hh.1 (v := .ref (ma 3)) fl_M_13_6 0 rfl rfl d_M_grainOf_29 ?_
        refine lv_iload_n hx hb d_M_grainOf_32 rfl (lv_at hl 1 rfl) ?_
        refine xw_iald F hh.1 1 (f := a_kn A) rfl (i := ni) (by omega) d_M_grainOf_33 ?_
        refine lv_istore_n (lv' := [(3, .int (xi_ ((a_kn A) (ni).toNat))), (1, .int (xi_ gg)), (2, .int (xi_ ni)), (0, .ref mo)]) hx hb d_M_grainOf_34 rfl hl (by decide) rfl (fun ls hl => ?_)
        refine lv_iload_n hx hb d_M_grainOf_35 rfl (lv_at hl 1 rfl) ?_
        refine lv_iload_n hx hb d_M_grainOf_36 rfl (lv_at hl 0 rfl) ?_
        refine lv_iconst (v := xi_ 1) hx hb d_M_grainOf_37 rfl ?_
        refine xw_icmp_ne hx hb 50 d_M_grainOf_38 (by decide) (by omega) (fun c38 => ?_) (fun c38 => ?_)
        · refine lv_iload_n hx hb d_M_grainOf_50 rfl (lv_at hl 0 rfl) ?_
          refine lv_iconst (v := xi_ 4) hx hb d_M_grainOf_51 rfl ?_
          refine xw_icmp_eq hx hb 60 d_M_grainOf_52 (by decide) (by omega) (fun c52 => ?_) (fun c52 => ?_)
          · refine lv_aload_n hx hb d_M_grainOf_60 rfl (lv_at hl 3 rfl) ?_
            refine xw_get F hh.1 (v := .ref (ma 4)) fl_M_16_6 0 rfl rfl d_M_grainOf_61 ?_
            refine lv_iload_n hx hb d_M_grainOf_64 rfl (lv_at hl 2 rfl) ?_
            refine xw_iald F hh.1 2 (f := a_on A) rfl (i := ni) (by omega) d_M_grainOf_65 ?_
            refine lv_goto (tgt := 91) hx hb d_M_grainOf_66 (by decide) ?_
            refine xw_imul hx hb d_M_grainOf_91 ?_
            refine lv_istore_n (lv' := [(1, .int (xi_ (gg * ((a_on A) (ni).toNat)))), (3, .int (xi_ ((a_kn A) (ni).toNat))), (2, .int (xi_ ni)), (0, .ref mo)]) hx hb d_M_grainOf_92 rfl hl (by decide) rfl (fun ls hl => ?_)
            refine lv_iinc (k := 2) (v := xi_ (ni + 1)) (lv' := [(2, .int (xi_ (ni + 1))), (1, .int (xi_ (gg * ((a_on A) (ni).toNat)))), (3, .int (xi_ ((a_kn A) (ni).toNat))), (0, .ref mo)]) hx hb d_M_grainOf_93 hl rfl (xi_add _ _).symm (by decide) rfl (fun ls hl => ?_)
            refine lv_goto (tgt := 6) hx hb d_M_grainOf_96 (by decide) ?_
            have ef : fac_ A ni.toNat = ((a_on A) (ni).toNat) := by
              unfold fac_
              rw [if_neg (by omega), if_pos (by omega)]
            have hfk := hfa k (by omega)
            rw [← hidx] at hfk
            have egn : gpr_ A 384 (k + 1) 0 = gg * (((a_on A) (ni).toNat)) := by
              show gpr_ A 384 k 0 * fac_ A (384 + 0 + (k : Int)).toNat = _
              rw [← hidx, ef, hg]
            have hbn : gg * (((a_on A) (ni).toNat)) ≤ 5040 * 9 := Int.mul_le_mul (by omega) (by rw [← ef]; exact hfk.2) (by rw [← ef]; omega) (by omega)
            exact ihn (k + 1) _ (ni + 1) ls H locs (by omega) (by omega) egn.symm (by omega) (by omega) (lv_sub hl [1, 0, 3] rfl) hh
          · refine lv_iload_n hx hb d_M_grainOf_55 rfl (lv_at hl 0 rfl) ?_
            refine lv_iconst (v := xi_ 5) hx hb d_M_grainOf_56 rfl ?_
            refine xw_icmp_ne hx hb 69 d_M_grainOf_57 (by decide) (by omega) (fun c57 => ?_) (fun c57 => ?_)
            · refine lv_iload_n hx hb d_M_grainOf_69 rfl (lv_at hl 0 rfl) ?_
              refine lv_bipush (v := xi_ 6) hx hb d_M_grainOf_70 (by decide) ?_
              refine xw_icmp_eq hx hb 81 d_M_grainOf_72 (by decide) (by omega) (fun c72 => ?_) (fun c72 => ?_)
              · refine lv_aload_n hx hb d_M_grainOf_81 rfl (lv_at hl 3 rfl) ?_
                refine xw_get F hh.1 (v := .ref (ma 5)) fl_M_19_6 0 rfl rfl d_M_grainOf_82 ?_
                refine lv_iload_n hx hb d_M_grainOf_85 rfl (lv_at hl 2 rfl) ?_
                refine xw_iald F hh.1 3 (f := a_tw A) rfl (i := ni) (by omega) d_M_grainOf_86 ?_
                refine lv_goto (tgt := 91) hx hb d_M_grainOf_87 (by decide) ?_
                refine xw_imul hx hb d_M_grainOf_91 ?_
                refine lv_istore_n (lv' := [(1, .int (xi_ (gg * ((a_tw A) (ni).toNat)))), (3, .int (xi_ ((a_kn A) (ni).toNat))), (2, .int (xi_ ni)), (0, .ref mo)]) hx hb d_M_grainOf_92 rfl hl (by decide) rfl (fun ls hl => ?_)
                refine lv_iinc (k := 2) (v := xi_ (ni + 1)) (lv' := [(2, .int (xi_ (ni + 1))), (1, .int (xi_ (gg * ((a_tw A) (ni).toNat)))), (3, .int (xi_ ((a_kn A) (ni).toNat))), (0, .ref mo)]) hx hb d_M_grainOf_93 hl rfl (xi_add _ _).symm (by decide) rfl (fun ls hl => ?_)
                refine lv_goto (tgt := 6) hx hb d_M_grainOf_96 (by decide) ?_
                have ef : fac_ A ni.toNat = ((a_tw A) (ni).toNat) := by
                  unfold fac_
                  rw [if_neg (by omega), if_neg (by omega), if_pos (by omega)]
                have hfk := hfa k (by omega)
                rw [← hidx] at hfk
                have egn : gpr_ A 384 (k + 1) 0 = gg * (((a_tw A) (ni).toNat)) := by
                  show gpr_ A 384 k 0 * fac_ A (384 + 0 + (k : Int)).toNat = _
                  rw [← hidx, ef, hg]
                have hbn : gg * (((a_tw A) (ni).toNat)) ≤ 5040 * 9 := Int.mul_le_mul (by omega) (by rw [← ef]; exact hfk.2) (by rw [← ef]; omega) (by omega)
                exact ihn (k + 1) _ (ni + 1) ls H locs (by omega) (by omega) egn.symm (by omega) (by omega) (lv_sub hl [1, 0, 3] rfl) hh
              · refine lv_iload_n hx hb d_M_grainOf_75 rfl (lv_at hl 0 rfl) ?_
                refine lv_bipush (v := xi_ 9) hx hb d_M_grainOf_76 (by decide) ?_
                refine xw_icmp_ne hx hb 90 d_M_grainOf_78 (by decide) (by omega) (fun c78 => ?_) (fun c78 => ?_)
                · refine lv_iconst (v := xi_ 1) hx hb d_M_grainOf_90 rfl ?_
                  refine xw_imul hx hb d_M_grainOf_91 ?_
                  refine lv_istore_n (lv' := [(1, .int (xi_ (gg * 1))), (3, .int (xi_ ((a_kn A) (ni).toNat))), (2, .int (xi_ ni)), (0, .ref mo)]) hx hb d_M_grainOf_92 rfl hl (by decide) rfl (fun ls hl => ?_)
                  refine lv_iinc (k := 2) (v := xi_ (ni + 1)) (lv' := [(2, .int (xi_ (ni + 1))), (1, .int (xi_ (gg * 1))), (3, .int (xi_ ((a_kn A) (ni).toNat))), (0, .ref mo)]) hx hb d_M_grainOf_93 hl rfl (xi_add _ _).symm (by decide) rfl (fun ls hl => ?_)
                  refine lv_goto (tgt := 6) hx hb d_M_grainOf_96 (by decide) ?_
                  have ef : fac_ A ni.toNat = 1 := by
                    unfold fac_
                    rw [if_neg (by omega), if_neg (by omega), if_neg (by omega)]
                  have hfk := hfa k (by omega)
                  rw [← hidx] at hfk
                  have egn : gpr_ A 384 (k + 1) 0 = gg * (1) := by
                    show gpr_ A 384 k 0 * fac_ A (384 + 0 + (k : Int)).toNat = _
                    rw [← hidx, ef, hg]
                  have hbn : gg * (1) ≤ 5040 * 9 := Int.mul_le_mul (by omega) (by rw [← ef]; exact hfk.2) (by rw [← ef]; omega) (by omega)
                  exact ihn (k + 1) _ (ni + 1) ls H locs (by omega) (by omega) egn.symm (by omega) (by omega) (lv_sub hl [1, 0, 3] rfl) hh
                · refine lv_aload_n hx hb d_M_grainOf_81 rfl (lv_at hl 3 rfl) ?_
                  refine xw_get F hh.1 (v := .ref (ma 5)) fl_M_19_6 0 rfl rfl d_M_grainOf_82 ?_
                  refine lv_iload_n hx hb d_M_grainOf_85 rfl (lv_at hl 2 rfl) ?_
                  refine xw_iald F hh.1 3 (f := a_tw A) rfl (i := ni) (by omega) d_M_grainOf_86 ?_
                  refine lv_goto (tgt := 91) hx hb d_M_grainOf_87 (by decide) ?_
                  refine xw_imul hx hb d_M_grainOf_91 ?_
                  refine lv_istore_n (lv' := [(1, .int (xi_ (gg * ((a_tw A) (ni).toNat)))), (3, .int (xi_ ((a_kn A) (ni).toNat))), (2, .int (xi_ ni)), (0, .ref mo)]) hx hb d_M_grainOf_92 rfl hl (by decide) rfl (fun ls hl => ?_)
                  refine lv_iinc (k := 2) (v := xi_ (ni + 1)) (lv' := [(2, .int (xi_ (ni + 1))), (1, .int (xi_ (gg * ((a_tw A) (ni).toNat)))), (3, .int (xi_ ((a_kn A) (ni).toNat))), (0, .ref mo)]) hx hb d_M_grainOf_93 hl rfl (xi_add _ _).symm (by decide) rfl (fun ls hl => ?_)
                  refine lv_goto (tgt := 6) hx hb d_M_grainOf_96 (by decide) ?_
                  have ef : fac_ A ni.toNat = ((a_tw A) (ni).toNat) := by
                    unfold fac_
                    rw [if_neg (by omega), if_neg (by omega), if_pos (by omega)]
                  have hfk := hfa k (by omega)
                  rw [← hidx] at hfk
                  have egn : gpr_ A 384 (k + 1) 0 = gg * (((a_tw A) (ni).toNat)) := by
                    show gpr_ A 384 k 0 * fac_ A (384 + 0 + (k : Int)).toNat = _
                    rw [← hidx, ef, hg]
                  have hbn : gg * (((a_tw A) (ni).toNat)) ≤ 5040 * 9 := Int.mul_le_mul (by omega) (by rw [← ef]; exact hfk.2) (by rw [← ef]; omega) (by omega)
                  exact ihn (k + 1) _ (ni + 1) ls H locs (by omega) (by omega) egn.symm (by omega) (by omega) (lv_sub hl [1, 0, 3] rfl) hh
            · refine lv_aload_n hx hb d_M_grainOf_60 rfl (lv_at hl 3 rfl) ?_
              refine xw_get F hh.1 (v := .ref (ma 4)) fl_M_16_6 0 rfl rfl d_M_grainOf_61 ?_
              refine lv_iload_n hx hb d_M_grainOf_64 rfl (lv_at hl 2 rfl) ?_
              refine xw_iald F hh.1 2 (f := a_on A) rfl (i := ni) (by omega) d_M_grainOf_65 ?_
              refine lv_goto (tgt := 91) hx hb d_M_grainOf_66 (by decide) ?_
              refine xw_imul hx hb d_M_grainOf_91 ?_
              refine lv_istore_n (lv' := [(1, .int (xi_ (gg * ((a_on A) (ni).toNat)))), (3, .int (xi_ ((a_kn A) (ni).toNat))), (2, .int (xi_ ni)), (0, .ref mo)]) hx hb d_M_grainOf_92 rfl hl (by decide) rfl (fun ls hl => ?_)
              refine lv_iinc (k := 2) (v := xi_ (ni + 1)) (lv' := [(2, .int (xi_ (ni + 1))), (1, .int (xi_ (gg * ((a_on A) (ni).toNat)))), (3, .int (xi_ ((a_kn A) (ni).toNat))), (0, .ref mo)]) hx hb d_M_grainOf_93 hl rfl (xi_add _ _).symm (by decide) rfl (fun ls hl => ?_)
              refine lv_goto (tgt := 6) hx hb d_M_grainOf_96 (by decide) ?_
              have ef : fac_ A ni.toNat = ((a_on A) (ni).toNat) := by
                unfold fac_
                rw [if_neg (by omega), if_pos (by omega)]
              have hfk := hfa k (by omega)
              rw [← hidx] at hfk
              have egn : gpr_ A 384 (k + 1) 0 = gg * (((a_on A) (ni).toNat)) := by
                show gpr_ A 384 k 0 * fac_ A (384 + 0 + (k : Int)).toNat = _
                rw [← hidx, ef, hg]
              have hbn : gg * (((a_on A) (ni).toNat)) ≤ 5040 * 9 := Int.mul_le_mul (by omega) (by rw [← ef]; exact hfk.2) (by rw [← ef]; omega) (by omega)
              exact ihn (k + 1) _ (ni + 1) ls H locs (by omega) (by omega) egn.symm (by omega) (by omega) (lv_sub hl [1, 0, 3] rfl) hh
        · refine lv_aload_n hx hb d_M_grainOf_41 rfl (lv_at hl 3 rfl) ?_
          refine xw_get F hh.1 (v := .ref (ma 9)) fl_M_31_6 0 rfl rfl d_M_grainOf_42 ?_
          refine lv_iload_n hx hb d_M_grainOf_45 rfl (lv_at hl 2 rfl) ?_
          refine xw_iald F hh.1 4 (f := a_co A) rfl (i := ni) (by omega) d_M_grainOf_46 ?_
          refine lv_goto (tgt := 91) hx hb d_M_grainOf_47 (by decide) ?_
          refine xw_imul hx hb d_M_grainOf_91 ?_
          refine lv_istore_n (lv' := [(1, .int (xi_ (gg * ((a_co A) (ni).toNat)))), (3, .int (xi_ ((a_kn A) (ni).toNat))), (2, .int (xi_ ni)), (0, .ref mo)]) hx hb d_M_grainOf_92 rfl hl (by decide) rfl (fun ls hl => ?_)
          refine lv_iinc (k := 2) (v := xi_ (ni + 1)) (lv' := [(2, .int (xi_ (ni + 1))), (1, .int (xi_ (gg * ((a_co A) (ni).toNat)))), (3, .int (xi_ ((a_kn A) (ni).toNat))), (0, .ref mo)]) hx hb d_M_grainOf_93 hl rfl (xi_add _ _).symm (by decide) rfl (fun ls hl => ?_)
          refine lv_goto (tgt := 6) hx hb d_M_grainOf_96 (by decide) ?_
          have ef : fac_ A ni.toNat = ((a_co A) (ni).toNat) := by
            unfold fac_
            rw [if_pos c38]
          have hfk := hfa k (by omega)
          rw [← hidx] at hfk
          have egn : gpr_ A 384 (k + 1) 0 = gg * (((a_co A) (ni).toNat)) := by
            show gpr_ A 384 k 0 * fac_ A (384 + 0 + (k : Int)).toNat = _
            rw [← hidx, ef, hg]
          have hbn : gg * (((a_co A) (ni).toNat)) ≤ 5040 * 9 := Int.mul_le_mul (by omega) (by rw [← ef]; exact hfk.2) (by rw [← ef]; omega) (by omega)
          exact ihn (k + 1) _ (ni + 1) ls H locs (by omega) (by omega) egn.symm (by omega) (by omega) (lv_sub hl [1, 0, 3] rfl) hh
set_option maxHeartbeats 4000000 in
set_option maxRecDepth 100000 in
theorem c_M_grainOf (l : Launch) (G : GG_) (sz : Nat) (mo : Nat) (ma : Nat → Nat) (ty at0 dp wy un pl sp pe tk du tm : Int) (A : MT) (si : Nat → Int) (k9 : Nat) (hk9 : k9 ≤ 48) (hsi : si 8 = (k9 : Int)) (hkn : ∀ i : Nat, i < k9 → 0 ≤ a_kn A (384 + 0 + (i : Int)).toNat ∧ a_kn A (384 + 0 + (i : Int)).toNat ≤ 10) (hfa : ∀ i : Nat, i < k9 → 1 ≤ fac_ A (384 + 0 + (i : Int)).toNat ∧ fac_ A (384 + 0 + (i : Int)).toNat ≤ 9) : Met l y_M_grainOf (cw_ y_M_grainOf b_M_grainOf 4 (some .int)) rm_M_grainOf (xw_P G [.ref mo] sz [(mo, .inr (6, mo_ ma ty at0 dp wy un pl sp pe tk du tm)), (ma 3, .inl (G.2.2 0, 432, .inl (ja_ (a_kn A)))), (ma 4, .inl (G.2.2 0, 432, .inl (ja_ (a_on A)))), (ma 5, .inl (G.2.2 0, 432, .inl (ja_ (a_tw A)))), (ma 9, .inl (G.2.2 0, 432, .inl (ja_ (a_co A)))), (ma 11, .inl (G.2.2 0, 9, .inl (ja_ si)))] (fun _ => True)) (xw_Qi (S := Unit) G sz [(mo, .inr (6, mo_ ma ty at0 dp wy un pl sp pe tk du tm)), (ma 3, .inl (G.2.2 0, 432, .inl (ja_ (a_kn A)))), (ma 4, .inl (G.2.2 0, 432, .inl (ja_ (a_on A)))), (ma 5, .inl (G.2.2 0, 432, .inl (ja_ (a_tw A)))), (ma 9, .inl (G.2.2 0, 432, .inl (ja_ (a_co A)))), (ma 11, .inl (G.2.2 0, 9, .inl (ja_ si)))] (fun gg _ => ((gpr_ A 384 k9 0 ≤ 5040 → gg = gpr_ A 384 k9 0) ∧ (5040 < gpr_ A 384 k9 0 → 5040 < gg) ∧ 1 ≤ gg ∧ gg ≤ 45360)) (fun _ => [(mo, .inr (6, mo_ ma ty at0 dp wy un pl sp pe tk du tm)), (ma 3, .inl (G.2.2 0, 432, .inl (ja_ (a_kn A)))), (ma 4, .inl (G.2.2 0, 432, .inl (ja_ (a_on A)))), (ma 5, .inl (G.2.2 0, 432, .inl (ja_ (a_tw A)))), (ma 9, .inl (G.2.2 0, 432, .inl (ja_ (a_co A)))), (ma 11, .inl (G.2.2 0, 9, .inl (ja_ si)))]) (fun _ _ => True)) 0 0 (va_A [(mo, .inr (6, mo_ ma ty at0 dp wy un pl sp pe tk du tm)), (ma 3, .inl (G.2.2 0, 432, .inl (ja_ (a_kn A)))), (ma 4, .inl (G.2.2 0, 432, .inl (ja_ (a_on A)))), (ma 5, .inl (G.2.2 0, 432, .inl (ja_ (a_tw A)))), (ma 9, .inl (G.2.2 0, 432, .inl (ja_ (a_co A)))), (ma 11, .inl (G.2.2 0, 9, .inl (ja_ si)))] sz) := by
  refine xw_met (by decide) (Nat.le_of_ble_eq_true rfl) ?_
  intro p0 e0 s m0 args below meth c0 F hr hlk hin hsz hh hX ls hl
  subst hsz
  have hx := F.1
  have hb := F.2.1
  have hl : lv_has ls 4 [(0, .ref mo)] := hl
  refine lv_iconst (v := xi_ 1) hx hb d_M_grainOf_0 rfl ?_
  refine lv_istore_n (lv' := [(1, .int (xi_ 1)), (0, .ref mo)]) hx hb d_M_grainOf_1 rfl hl (by decide) rfl (fun ls hl => ?_)
  refine lv_sipush (v := xi_ 384) hx hb d_M_grainOf_2 (by decide) ?_
  refine lv_istore_n (lv' := [(2, .int (xi_ 384)), (1, .int (xi_ 1)), (0, .ref mo)]) hx hb d_M_grainOf_5 rfl hl (by decide) rfl (fun ls hl => ?_)
  refine lp_M_grainOf F mo ma ty at0 dp wy un pl sp pe tk du tm A si k9 hk9 hsi hkn hfa (fun gg ls H locs hq hl hh => ?_) (k9 + 1) 0 1 384 ls s.heap _ (by omega) (by omega) rfl (by omega) (by omega) (lv_sub hl [1, 0, 2] rfl) hh
  refine lv_iload_n hx hb d_M_grainOf_99 rfl (lv_at hl 0 rfl) ?_
  exact xw_iret F hr hlk hh rfl () rfl (by exact hq) trivial d_M_grainOf_100
