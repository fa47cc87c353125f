/-! the reading: what stays, what whole wants -/
theorem wh_keep : ∀ (D : Nat) (z : MZ) (n : Int), z_at (wh_ D z n) = z_at z ∧ z_sz (wh_ D z n) = z_sz z ∧ a_kn (z_A (wh_ D z n)) = a_kn (z_A z) ∧ a_on (z_A (wh_ D z n)) = a_on (z_A z) ∧ a_tw (z_A (wh_ D z n)) = a_tw (z_A z) ∧ a_th (z_A (wh_ D z n)) = a_th (z_A z) ∧ z_op (wh_ D z n) = z_op z
  | 0, z, n => ⟨rfl, rfl, rfl, rfl, rfl, rfl, rfl⟩
  | D + 1, z, n => by
    unfold wh_
    split
    · exact wh_keep D (wd_ (at1_ z D n) D) (z_op z D)
    · exact ⟨rfl, rfl, rfl, rfl, rfl, rfl, rfl⟩
def wz_ (z : MZ) : Prop := z_dp z ≤ 40 ∧ (∀ j : Nat, j < z_dp z → (0 ≤ z_op z j ∧ z_op z j < 48) ∧ (1 ≤ a_kn (z_A z) (x4_ (z_op z j)) ∧ a_kn (z_A z) (x4_ (z_op z j)) ≤ 9) ∧ (0 ≤ a_co (z_A z) (x4_ (z_op z j)) ∧ a_co (z_A z) (x4_ (z_op z j)) ≤ 9) ∧ (0 < a_co (z_A z) (x4_ (z_op z j)) → 0 ≤ z_la z j ∧ z_la z j < 48)) ∧
  (∀ j : Nat, j + 1 < z_dp z → z_op z j < z_op z (j + 1))
theorem inv_wz {len : Nat} {z : MZ} (h : inv_ len z) : wz_ z := by
  obtain ⟨h1, h2, h3, h4, h5, h6⟩ := h
  refine ⟨by omega, fun j hj => ?_, h6⟩
  obtain ⟨k1, k2, k3, k4⟩ := h5 j hj
  exact ⟨⟨k1.1, by omega⟩, k2, k3, fun q => ⟨(k4 q).1, by have := (k4 q).2; omega⟩⟩
theorem wz_lt {z : MZ} (h : wz_ z) : ∀ (i j : Nat), j + i + 1 < z_dp z → z_op z j < z_op z (j + i + 1)
  | 0, j, hj => h.2.2 j hj
  | i + 1, j, hj => by
    have h1 := wz_lt h i j (by omega)
    have h2 := h.2.2 (j + i + 1) (by omega)
    show z_op z j < z_op z (j + i + 1 + 1)
    omega
theorem wz_pop {z : MZ} {D : Nat} {n : Int} (h : wz_ z) (hD : z_dp z = D + 1) : wz_ (wd_ (at1_ z D n) D) := by
  have hlt := wz_lt h
  obtain ⟨h1, h2, h3⟩ := h
  refine ⟨by show D ≤ 40; omega, fun j hj => ?_, fun j hj => h3 j (by have hj : j + 1 < D := hj; omega)⟩
  have hj : j < D := hj
  obtain ⟨k1, k2, k3, k4⟩ := h2 j (by omega)
  have hop : z_op z j < z_op z D := by
    have := hlt (D - j - 1) j (by omega)
    rw [show j + (D - j - 1) + 1 = D by omega] at this
    exact this
  have hco : a_co (z_A (wd_ (at1_ z D n) D)) (x4_ (z_op z j)) = a_co (z_A z) (x4_ (z_op z j)) := va_up_ne _ _ (by unfold x4_; omega)
  have hla : z_la (wd_ (at1_ z D n) D) j = z_la z j := va_up_ne _ _ (by omega)
  refine ⟨k1, k2, ?_, ?_⟩
  · show 0 ≤ a_co (z_A (wd_ (at1_ z D n) D)) (x4_ (z_op z j)) ∧ a_co (z_A (wd_ (at1_ z D n) D)) (x4_ (z_op z j)) ≤ 9
    rw [hco]
    exact k3
  · show 0 < a_co (z_A (wd_ (at1_ z D n) D)) (x4_ (z_op z j)) → _
    rw [hco, hla]
    exact k4
theorem nw_wz {tx : Nat → Int} {len : Nat} {z : MZ} {on tw th : Nat → Int} {a : Nat} (hi : inv_ len z) (hl : z_at z < len) (kd : Int) : wz_ (nw_ z kd on tw th a) := by
  obtain ⟨i1, i2, i3, i4, i5, i6⟩ := hi
  refine ⟨by show z_dp z ≤ 40; omega, fun j hj => ?_, i6⟩
  obtain ⟨k1, k2, k3, k4⟩ := i5 j hj
  have e1 : a_kn (z_A (nw_ z kd on tw th a)) (x4_ (z_op z j)) = a_kn (z_A z) (x4_ (z_op z j)) := va_up_ne _ _ (by unfold x4_; omega)
  have e2 : a_co (z_A (nw_ z kd on tw th a)) (x4_ (z_op z j)) = a_co (z_A z) (x4_ (z_op z j)) := va_up_ne _ _ (by unfold x4_; omega)
  refine ⟨⟨k1.1, by show z_op z j < 48; omega⟩, ?_, ?_, ?_⟩
  · show 1 ≤ a_kn (z_A (nw_ z kd on tw th a)) (x4_ (z_op z j)) ∧ a_kn (z_A (nw_ z kd on tw th a)) (x4_ (z_op z j)) ≤ 9
    rw [e1]
    exact k2
  · show 0 ≤ a_co (z_A (nw_ z kd on tw th a)) (x4_ (z_op z j)) ∧ a_co (z_A (nw_ z kd on tw th a)) (x4_ (z_op z j)) ≤ 9
    rw [e2]
    exact k3
  · show 0 < a_co (z_A (nw_ z kd on tw th a)) (x4_ (z_op z j)) → _
    rw [e2]
    intro q
    have := k4 q
    exact ⟨this.1, by show z_la z j < 48; omega⟩
/-- all of a reading -/
theorem read_out {tx : Nat → Int} {len : Nat} (htx : ∀ j : Nat, j < len → tx j ≠ 0) (hlen : len ≤ 40) {z : MZ} (ha : z_at z = 0) (hd : z_dp z = 0) (hs : z_sz z = 0) (hr : z_rt z < 0) :
    out_ tx len (fun v z' => (match prs_ tx len 40 0 with
      | (none, b) => v = (b : Int)
      | (some T, b) => if b < len then v = (b : Int) else (v = -1 ∧ z_rt z' = 0 ∧ rep_ (z_A z') 384 40 T 0 (z_sz z' : Int) ∧ z_sz z' ≤ 48)) ∧ agr_ 384 (z_A z) (z_A z')) (len + 1) z := by
  have hi : inv_ len z := ⟨by omega, by omega, hlen, by omega, fun j hj => by omega, fun j hj => by omega⟩
  refine psim_all htx 40 z _ hi hr (by omega) (fun _ => ⟨fun q => ?_, fun q => ?_⟩) (fun T b hb z1 hp N hN => ?_) (fun b z' hb hz hag => ?_) (len + 1) (by omega)
  · have := q.1; omega
  · have := q.1; omega
  · obtain ⟨N', rfl⟩ : ∃ N', N = N' + 1 := by
      obtain ⟨p1, p2, p3, p4, p5, p6, p7⟩ := hp
      have := p7.2.1
      exact ⟨N - 1, by omega⟩
    obtain ⟨p1, p2, p3, p4, p5, p6, p7⟩ := hp
    rw [hd, hs] at *
    unfold out_
    rw [if_pos (show 0 ≤ z_rt (wh_ 0 z1 ((0 : Nat) : Int)) from Int.le_refl 0)]
    rw [ha] at hb
    have e1 : z_at (wh_ 0 z1 ((0 : Nat) : Int)) = b := p1
    have h7 := p7.1
    have h8 := p7.2.1
    refine ⟨?_, agr_mono (by omega) p4⟩
    rw [hb, e1]
    dsimp only
    by_cases hbl : b < len
    · rw [if_pos hbl, if_pos hbl]
    · rw [if_neg hbl, if_neg hbl]
      exact ⟨rfl, rfl, p3, by show z_sz z1 ≤ 48; omega⟩
  · rw [ha] at hb
    refine ⟨?_, hag⟩
    rw [hb]
