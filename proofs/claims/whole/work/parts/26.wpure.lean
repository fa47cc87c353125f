/-! what holds of a walk's numbers, from a pattern to the patterns that it is made of -/
theorem ab_le {w g B : Int} (hg : 1 ≤ g) (h : -B ≤ w * g ∧ w * g ≤ B) : -B ≤ w ∧ w ≤ B := by
  by_cases hw : 0 ≤ w
  · have h1 : w * 1 ≤ w * g := Int.mul_le_mul_of_nonneg_left hg hw
    rw [Int.mul_one] at h1
    omega
  · have h1 : (-w) * 1 ≤ (-w) * g := Int.mul_le_mul_of_nonneg_left hg (by omega)
    rw [Int.mul_one, Int.neg_mul] at h1
    omega
theorem ab_mono {w g g' B : Int} (hg : 1 ≤ g') (hgg : g' ≤ g) (h : -B ≤ w * g ∧ w * g ≤ B) : -B ≤ w * g' ∧ w * g' ≤ B := by
  by_cases hw : 0 ≤ w
  · have h1 : w * g' ≤ w * g := Int.mul_le_mul_of_nonneg_left hgg hw
    have h2 : 0 ≤ w * g' := Int.mul_nonneg hw (by omega)
    omega
  · have h1 : (-w) * g' ≤ (-w) * g := Int.mul_le_mul_of_nonneg_left hgg (by omega)
    have h2 : 0 ≤ (-w) * g' := Int.mul_nonneg (by omega) (by omega)
    rw [Int.neg_mul] at h1 h2
    rw [Int.neg_mul] at h1
    omega
/-- a walk may go into T with these numbers -/
def wok_ (d : Nat) (T : PT d) (w o f t : Int) : Prop :=
  wf_ d T ∧ w ≠ 0 ∧ gn_ d T ∣ w ∧ (-1099511627776 ≤ w * gn_ d T ∧ w * gn_ d T ≤ 1099511627776) ∧ (-1099511627776 ≤ f ∧ t ≤ 1099511627776) ∧ d ≤ 40 ∧
  (-(40 - (d : Int)) * 35184372088832 ≤ o ∧ o ≤ (40 - (d : Int)) * 35184372088832)
theorem wok_w {d : Nat} {T : PT d} {w o f t : Int} (h : wok_ d T w o f t) : -1099511627776 ≤ w ∧ w ≤ 1099511627776 := ab_le (gn_pos h.1) h.2.2.2.1
theorem wok_o {d : Nat} {T : PT d} {w o f t : Int} (h : wok_ d T w o f t) : -1407374883553280 ≤ o ∧ o ≤ 1407374883553280 := by
  have h1 := h.2.2.2.2.2.1
  have h2 := h.2.2.2.2.2.2
  omega
/-- a cycle that meets the span -/
theorem cy_in {w o f t c : Int} (hw : w ≠ 0) (h1 : cy_first w o f t ≤ c) (h2 : c ≤ cy_last w o f t) : (0 < w → o + w * c < t ∧ f < o + w * c + w) ∧ (w < 0 → o + w * c + w < t ∧ f < o + w * c) := by
  refine ⟨fun hp => ?_, fun hn => ?_⟩
  · unfold cy_first at h1
    unfold cy_last at h2
    rw [if_pos hp] at h1 h2
    have a1 := (Int.le_ediv_iff_mul_le hp).mp h2
    have a2 := (Int.ediv_lt_iff_lt_mul hp).mp (Int.lt_add_one_iff.mpr h1)
    rw [Int.mul_comm] at a1
    rw [Int.add_mul, Int.one_mul, Int.mul_comm c w] at a2
    omega
  · unfold cy_first at h1
    unfold cy_last at h2
    rw [if_neg (by omega)] at h1 h2
    have hp : 0 < -w := by omega
    have a1 := (Int.le_ediv_iff_mul_le hp).mp h2
    have a2 := (Int.ediv_lt_iff_lt_mul hp).mp (Int.lt_add_one_iff.mpr h1)
    rw [Int.mul_neg, Int.mul_comm] at a1
    rw [Int.add_mul, Int.one_mul, Int.mul_neg, Int.mul_comm c w] at a2
    omega
/-- so a cycle's place is near the span -/
theorem cy_near {w o f t c : Int} (hw : w ≠ 0) (hwb : -1099511627776 ≤ w ∧ w ≤ 1099511627776) (hf : -1099511627776 ≤ f ∧ t ≤ 1099511627776) (h1 : cy_first w o f t ≤ c) (h2 : c ≤ cy_last w o f t) (hft : f < t) : -2199023255552 ≤ o + w * c ∧ o + w * c ≤ 2199023255552 := by
  obtain ⟨a, b⟩ := cy_in hw h1 h2
  by_cases hp : 0 < w
  · have := a hp
    omega
  · have := b (by omega)
    omega
theorem gn_dvd_kid {d : Nat} {T : PT (d + 1)} {i : Nat} {y : PT d} (hy : (tr_cs T)[i]? = some y) : gn_ d y ∣ gn_prod ((tr_cs T).map (gn_ d)) := gn_prod_dvd (List.mem_map.mpr ⟨y, List.mem_of_getElem? hy, rfl⟩)
theorem gn_le_of_dvd {a b : Int} (ha : 1 ≤ b) (h : a ∣ b) : a ≤ b := Int.le_of_dvd (by omega) h
/-- a pattern within, at the width q (w is n q, n at most 9), its grain times n within the whole's -/
theorem wok_kid {d : Nat} {T : PT (d + 1)} {w o f t : Int} (h : wok_ (d + 1) T w o f t) {i : Nat} {y : PT d} (hy : (tr_cs T)[i]? = some y) {n q o' f' t' : Int} (hn : 1 ≤ n) (hq : w = n * q) (hd : gn_ d y ∣ q) (ho : -(40 - (d : Int)) * 35184372088832 ≤ o' ∧ o' ≤ (40 - (d : Int)) * 35184372088832) (hf : f ≤ f') (ht : t' ≤ t) : wok_ d y q o' f' t' := by
  have hwf := h.1
  have hyw := hwf.2 y (List.mem_of_getElem? hy)
  have hp := gn_pos hyw
  have hd2 : gn_ d y ∣ gn_ (d + 1) T := Int.dvd_trans (gn_dvd_kid hy) ⟨gn_1 T, by rw [gn_s, Int.mul_comm]⟩
  have hle := gn_le_of_dvd (gn_pos hwf) hd2
  have hb := ab_mono hp hle h.2.2.2.1
  have hb2 : -1099511627776 ≤ q * gn_ d y ∧ q * gn_ d y ≤ 1099511627776 := by
    have e : w * gn_ d y = (q * gn_ d y) * n := by rw [hq, Int.mul_comm n q, Int.mul_assoc, Int.mul_assoc, Int.mul_comm n]
    rw [e] at hb
    exact ab_le hn hb
  have hq0 : q ≠ 0 := fun z => h.2.1 (by rw [hq, z, Int.mul_zero])
  have h5 := h.2.2.2.2.1
  have h6 := h.2.2.2.2.2.1
  exact ⟨hyw, hq0, hd, hb2, by omega, by omega, ho⟩
/-- the quotient by the steps -/
theorem wok_div {d : Nat} {T : PT (d + 1)} {w o f t n : Int} (h : wok_ (d + 1) T w o f t) (hn : gn_1 T = n) : w = n * (w / n) ∧ gn_prod ((tr_cs T).map (gn_ d)) ∣ w / n := by
  have hd := h.2.2.1
  have hp := (gn_1_pos h.1.1).1
  rw [gn_s, hn] at hd
  obtain ⟨z, hz⟩ := hd
  have e : w / n = gn_prod ((tr_cs T).map (gn_ d)) * z := by
    rw [hz, Int.mul_assoc]
    exact Int.mul_ediv_cancel_left _ (by omega)
  refine ⟨?_, ⟨z, e⟩⟩
  rw [e, hz, Int.mul_assoc]
theorem wok_prod {d : Nat} {T : PT (d + 1)} {w o f t : Int} (h : wok_ (d + 1) T w o f t) : gn_prod ((tr_cs T).map (gn_ d)) ∣ w := Int.dvd_trans ⟨gn_1 T, by rw [gn_s, Int.mul_comm]⟩ h.2.2.1
theorem wok_F {d : Nat} {T : PT (d + 1)} {w o f t : Int} (h : wok_ (d + 1) T w o f t) (hk : tr_kd T = 70) {i : Nat} {y : PT d} (hy : (tr_cs T)[i]? = some y) : wok_ d y (w / tr_k T) o f t := by
  have e : gn_1 T = tr_k T := by unfold gn_1; rw [if_neg (by omega), if_pos (Or.inl hk)]
  obtain ⟨h1, h2⟩ := wok_div h e
  have hp := (gn_1_pos h.1.1).1
  have hb := h.2.2.2.2.2.2
  exact wok_kid h hy (n := tr_k T) (by omega) h1 (Int.dvd_trans (gn_dvd_kid hy) h2) (by omega) (by omega) (by omega)
theorem wok_S {d : Nat} {T : PT (d + 1)} {w o f t : Int} (h : wok_ (d + 1) T w o f t) (hk : tr_kd T = 83) {i : Nat} {y : PT d} (hy : (tr_cs T)[i]? = some y) : wok_ d y (w * tr_k T) o f t := by
  have e : gn_1 T = tr_k T := by unfold gn_1; rw [if_neg (by omega), if_pos (Or.inr hk)]
  have hp := (gn_1_pos h.1.1).1
  have hyw := h.1.2 y (List.mem_of_getElem? hy)
  have hb := h.2.2.2.2.2.2
  have h5 := h.2.2.2.2.1
  have h6 := h.2.2.2.2.2.1
  have hpp : 1 ≤ gn_prod ((tr_cs T).map (gn_ d)) := gn_prod_pos (fun x hx => by
    obtain ⟨c, hc, rfl⟩ := List.mem_map.mp hx
    exact gn_pos (h.1.2 c hc))
  have hle := gn_le_of_dvd hpp (gn_dvd_kid hy)
  have hw := h.2.2.2.1
  rw [gn_s, e, ← Int.mul_assoc] at hw
  refine ⟨hyw, fun z => ?_, Int.dvd_trans (Int.dvd_trans (gn_dvd_kid hy) (wok_prod h)) ⟨tr_k T, rfl⟩, ab_mono (gn_pos hyw) hle hw, h5, by omega, by omega⟩
  rcases Int.mul_eq_zero.mp z with z | z
  · exact h.2.1 z
  · omega
theorem wok_L {d : Nat} {T : PT (d + 1)} {w o f t : Int} (h : wok_ (d + 1) T w o f t) (hk : tr_kd T = 76) {i : Nat} {y : PT d} (hy : (tr_cs T)[i]? = some y) : wok_ d y w (o + w / tr_n T * tr_k T) f t := by
  have e : gn_1 T = tr_n T := by unfold gn_1; rw [if_neg (by omega), if_neg (by omega), if_pos (Or.inl hk)]
  obtain ⟨h1, h2⟩ := wok_div h e
  have hp := (gn_1_pos h.1.1).1
  have hk9 : 1 ≤ tr_k T ∧ tr_k T ≤ 9 := by rcases h.1.1 with q | q | q | q | q | q | q <;> omega
  have hb := h.2.2.2.2.2.2
  have hw := wok_w h
  have hq : -1099511627776 ≤ w / tr_n T ∧ w / tr_n T ≤ 1099511627776 := ab_le (g := tr_n T) (by omega) (by rw [Int.mul_comm, ← h1]; exact hw)
  have hm : -9895604649984 ≤ w / tr_n T * tr_k T ∧ w / tr_n T * tr_k T ≤ 9895604649984 := by
    generalize w / tr_n T = z at hq ⊢
    generalize tr_k T = k at hk9 ⊢
    have hk : k = 1 ∨ k = 2 ∨ k = 3 ∨ k = 4 ∨ k = 5 ∨ k = 6 ∨ k = 7 ∨ k = 8 ∨ k = 9 := by omega
    rcases hk with rfl | rfl | rfl | rfl | rfl | rfl | rfl | rfl | rfl <;> omega
  exact wok_kid h hy (n := 1) (by omega) (by rw [Int.one_mul]) (Int.dvd_trans (gn_dvd_kid hy) (wok_prod h)) (by omega) (by omega) (by omega)
theorem wok_st {d : Nat} {T : PT (d + 1)} {w o f t : Int} (h : wok_ (d + 1) T w o f t) {i : Nat} {y : PT d} (hy : (tr_cs T)[i]? = some y) : wok_ d y w o f t := by
  have hb := h.2.2.2.2.2.2
  exact wok_kid h hy (n := 1) (by omega) (by rw [Int.one_mul]) (Int.dvd_trans (gn_dvd_kid hy) (wok_prod h)) (by omega) (by omega) (by omega)
