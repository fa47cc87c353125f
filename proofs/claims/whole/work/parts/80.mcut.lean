theorem td_nz {w n : Int} (hn : n ≠ 0) (hd : n ∣ w) (hw : w ≠ 0) : w.tdiv n ≠ 0 ∧ w = n * w.tdiv n := by
  obtain ⟨q, rfl⟩ := hd
  rw [Int.mul_tdiv_cancel_left q hn]
  exact ⟨fun z => hw (by rw [z, Int.mul_zero]), rfl⟩
theorem td_o {w o c i n : Int} (hn : 1 ≤ n ∧ n ≤ 9) (hd : n ∣ w) (hwb : -1099511627776 ≤ w ∧ w ≤ 1099511627776) (hi : 0 ≤ i ∧ i ≤ 9) (hob : -1407374883553280 ≤ o ∧ o ≤ 1407374883553280) (hac : -12000000000000 ≤ w * c + o ∧ w * c + o ≤ 12000000000000) : -100000000000000000 ≤ w * c + w.tdiv n * (i - c) + o ∧ w * c + w.tdiv n * (i - c) + o ≤ 100000000000000000 := by
  obtain ⟨q, rfl⟩ := hd
  rw [Int.mul_tdiv_cancel_left q (by omega)]
  have h1 : -(1500000000000000 : Int) ≤ q * c ∧ q * c ≤ 1500000000000000 := by
    refine ab_le (g := n) (by omega) ?_
    have e : q * c * n = n * q * c := by rw [Int.mul_comm (q * c) n, Int.mul_assoc]
    rw [e]
    omega
  have h2 : -(1099511627776 : Int) ≤ q ∧ q ≤ 1099511627776 := ab_le (g := n) (by omega) (by rw [Int.mul_comm]; exact hwb)
  have h3 := m9_ (z := q) (k := i) (B := 1099511627776) hi h2
  have e2 : q * (i - c) = q * i - q * c := Int.mul_sub _ _ _
  rw [e2]
  omega
/-- what the calls of a move want -/
theorem mpr_cut {A : MT} {b F0 T0 : Int} {y : Nat} {k : MK} (h : mpr_ A b F0 T0 y k) :
    (a_kn A (b + k_no k y).toNat = 1 → (k_aa k y).tdiv (a_co A (b + k_no k y).toNat) ≠ 0 ∧ -100000000000000000 ≤ k_aa k y * k_cy k y + (k_aa k y).tdiv (a_co A (b + k_no k y).toNat) * (k_sp k y - k_cy k y) + k_bb k y ∧ k_aa k y * k_cy k y + (k_aa k y).tdiv (a_co A (b + k_no k y).toNat) * (k_sp k y - k_cy k y) + k_bb k y ≤ 100000000000000000) ∧
    (a_kn A (b + k_no k y).toNat = 9 → (k_aa k y).tdiv (a_tw A (b + k_no k y).toNat) ≠ 0 ∧ -100000000000000000 ≤ k_aa k y * k_cy k y + (k_aa k y).tdiv (a_tw A (b + k_no k y).toNat) * (k_sp k y - k_cy k y) + k_bb k y ∧ k_aa k y * k_cy k y + (k_aa k y).tdiv (a_tw A (b + k_no k y).toNat) * (k_sp k y - k_cy k y) + k_bb k y ≤ 100000000000000000) ∧
    (a_kn A (b + k_no k y).toNat = 9 → k_cy k y ≤ k_en k y → k_sp k y < a_tw A (b + k_no k y).toNat) ∧
    (a_kn A (b + k_no k y).toNat = 2 → (-100000000000000000 ≤ k_bb k y + k_aa k y * (k_cy k y - fl_ (k_cy k y) (a_co A (b + k_no k y).toNat)) ∧ k_bb k y + k_aa k y * (k_cy k y - fl_ (k_cy k y) (a_co A (b + k_no k y).toNat)) ≤ 100000000000000000) ∧ 0 ≤ k_cy k y - fl_ (k_cy k y) (a_co A (b + k_no k y).toNat) * a_co A (b + k_no k y).toNat ∧ k_cy k y - fl_ (k_cy k y) (a_co A (b + k_no k y).toNat) * a_co A (b + k_no k y).toNat < a_co A (b + k_no k y).toNat) ∧
    (-100000000000000000 ≤ k_bb k y + k_aa k y * (2 * k_cy k y + 1) ∧ k_bb k y + k_aa k y * (2 * k_cy k y + 1) ≤ 100000000000000000) ∧
    (a_kn A (b + k_no k y).toNat = 4 → (k_aa k y).tdiv (a_on A (b + k_no k y).toNat) ≠ 0) ∧ (a_kn A (b + k_no k y).toNat = 5 → k_aa k y * a_on A (b + k_no k y).toNat ≠ 0) ∧
    (a_kn A (b + k_no k y).toNat = 8 → -100000000000000000 ≤ fl_ (k_cy k y) (a_on A (b + k_no k y).toNat) * a_on A (b + k_no k y).toNat ∧ fl_ (k_cy k y) (a_on A (b + k_no k y).toNat) * a_on A (b + k_no k y).toNat ≤ 100000000000000000) := by
  have hn := mpr_num h
  obtain ⟨⟨n1, n2, n3⟩, n4, n5, n6, n7, n8, n9, n10, n11, n12, n13, n14, n15, n16, n17, n18, n19, n20, n21⟩ := hn
  obtain ⟨_, d, T, m, h1, hr, hw, hft, h2, h3, h4, h5, h6⟩ := h
  have hwf := hw.1.1
  have hkn := hr.2.1
  have hco := hr.2.2.1
  have hon := hr.2.2.2.2.1
  have htw := hr.2.2.2.2.2.1
  have hkc := kf_cases (tr_kd T)
  have hrg := wf_rng hwf
  refine ⟨fun q => ?_, fun q => ?_, fun q q2 => ?_, fun q => ?_, ?_, fun q => ?_, fun q => ?_, fun q => ?_⟩
  · have hk : tr_kd T = 91 := by omega
    have hd : a_co A (b + k_no k y).toNat ∣ k_aa k y := by
      have e : gn_1 T = tr_n T := by unfold gn_1; rw [if_pos hk]
      rw [hco, show ((tr_cs T).length : Int) = tr_n T by rcases hwf with g | g | g | g | g | g | g <;> omega]
      exact ⟨_, (wok_div hw e).1⟩
    have h13 := n13 (by omega)
    exact ⟨(td_nz (by omega) hd n5.1).1, td_o (by omega) hd n5.2 n10 n7 n21⟩
  · have hk : tr_kd T = 69 := by omega
    have hd : a_tw A (b + k_no k y).toNat ∣ k_aa k y := by
      have e : gn_1 T = tr_n T := by unfold gn_1; rw [if_neg (by omega), if_neg (by omega), if_pos (Or.inr hk)]
      rw [htw (Or.inr hk)]
      exact ⟨_, (wok_div hw e).1⟩
    have h16 := n16 (by omega)
    exact ⟨(td_nz (by omega) hd n5.1).1, td_o (by omega) hd n5.2 n10 n7 n21⟩
  · have hk : tr_kd T = 69 := by omega
    have := h6 q2
    unfold sc_ at this
    rw [if_pos (Or.inr hk)] at this
    rw [htw (Or.inr hk)]
    exact this
  · have h13 := n13 (by omega)
    have hfl : fl_ (k_cy k y) (a_co A (b + k_no k y).toNat) = k_cy k y / a_co A (b + k_no k y).toNat := by unfold fl_; rw [if_pos (by omega)]
    rw [hfl]
    generalize a_co A (b + k_no k y).toNat = n at h13 n11
    have r1 := Int.emod_nonneg (k_cy k y) (show n ≠ 0 by omega)
    have r2 := Int.emod_lt_of_pos (k_cy k y) (show 0 < n by omega)
    have e4 := Int.mul_ediv_add_emod (k_cy k y) n
    have e5 := Int.mul_comm n (k_cy k y / n)
    have hm := m9_ (z := k_aa k y) (k := k_cy k y % n) (B := 1099511627776) (by omega) n5.2
    have e0 : k_aa k y * k_cy k y = k_aa k y * (k_cy k y / n) * n + k_aa k y * (k_cy k y % n) := by
      have e6 : k_aa k y * k_cy k y = k_aa k y * (n * (k_cy k y / n) + k_cy k y % n) := by rw [e4]
      rw [e6, Int.mul_add, e5, Int.mul_assoc]
    have hb1 : -(1600000000000000 : Int) ≤ k_aa k y * (k_cy k y / n) ∧ k_aa k y * (k_cy k y / n) ≤ 1600000000000000 := ab_le (g := n) (by omega) (by omega)
    have e2 : k_aa k y * (k_cy k y - k_cy k y / n) = k_aa k y * k_cy k y - k_aa k y * (k_cy k y / n) := Int.mul_sub _ _ _
    rw [e2]
    omega
  · have e2 : k_aa k y * (2 * k_cy k y + 1) = 2 * (k_aa k y * k_cy k y) + k_aa k y := by rw [Int.mul_add, Int.mul_one, ← Int.mul_assoc, Int.mul_comm (k_aa k y) 2, Int.mul_assoc]
    rw [e2]
    omega
  · have hk : tr_kd T = 70 := by omega
    have e : gn_1 T = tr_k T := by unfold gn_1; rw [if_neg (by omega), if_pos (Or.inl hk)]
    have h15 := n15 (by omega)
    refine (td_nz (by omega) ?_ n5.1).1
    rw [hon (by omega)]
    exact ⟨_, (wok_div hw e).1⟩
  · have h15 := n15 (by omega)
    intro z
    rcases Int.mul_eq_zero.mp z with z | z
    · exact n5.1 z
    · omega
  · have h15 := n15 (by omega)
    have hfl : fl_ (k_cy k y) (a_on A (b + k_no k y).toNat) = k_cy k y / a_on A (b + k_no k y).toNat := by unfold fl_; rw [if_pos (by omega)]
    rw [hfl]
    generalize a_on A (b + k_no k y).toNat = n at h15
    have r1 := Int.emod_nonneg (k_cy k y) (show n ≠ 0 by omega)
    have r2 := Int.emod_lt_of_pos (k_cy k y) (show 0 < n by omega)
    have e4 := Int.mul_ediv_add_emod (k_cy k y) n
    have e5 := Int.mul_comm n (k_cy k y / n)
    omega
