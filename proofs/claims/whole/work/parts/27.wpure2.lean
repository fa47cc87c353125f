/-! the same, for the patterns that are cut by cycles -/
theorem cv_ {n o z P B : Int} (hn : 1 ≤ n ∧ n ≤ 9) (ho : -B ≤ o ∧ o ≤ B) (hz : -P ≤ o + n * z ∧ o + n * z ≤ P) (hP : 0 ≤ P) (hB : 0 ≤ B) : -(P + B) ≤ o + (n - 1) * z ∧ o + (n - 1) * z ≤ P + B := by
  have h : n = 1 ∨ n = 2 ∨ n = 3 ∨ n = 4 ∨ n = 5 ∨ n = 6 ∨ n = 7 ∨ n = 8 ∨ n = 9 := by omega
  rcases h with rfl | rfl | rfl | rfl | rfl | rfl | rfl | rfl | rfl <;> omega
theorem m9_ {z k B : Int} (hk : 0 ≤ k ∧ k ≤ 9) (hz : -B ≤ z ∧ z ≤ B) : -(9 * B) ≤ z * k ∧ z * k ≤ 9 * B := by
  have hk : k = 0 ∨ k = 1 ∨ k = 2 ∨ k = 3 ∨ k = 4 ∨ k = 5 ∨ k = 6 ∨ k = 7 ∨ k = 8 ∨ k = 9 := by omega
  rcases hk with rfl | rfl | rfl | rfl | rfl | rfl | rfl | rfl | rfl | rfl <;> omega
/-- where a cycle begins and ends, near -/
theorem bg_rng {c w o : Int} (hw : -1099511627776 ≤ w ∧ w ≤ 1099511627776) (h : -20000000000000 ≤ o + w * c ∧ o + w * c ≤ 20000000000000) : (-30000000000000 ≤ bg_ c w o ∧ bg_ c w o ≤ 30000000000000) ∧ (-30000000000000 ≤ en_ c w o ∧ en_ c w o ≤ 30000000000000) := by
  have e : w * (c + 1) = w * c + w := by rw [Int.mul_add, Int.mul_one]
  unfold bg_ en_
  by_cases hp : 0 < w
  · rw [if_pos hp, if_pos hp, e]; omega
  · rw [if_neg hp, if_neg hp, e]; omega
theorem wok_step {d : Nat} {T : PT (d + 1)} {w o f t c : Int} (h : wok_ (d + 1) T w o f t) (hft : f < t) (h1 : cy_first w o f t ≤ c) (h2 : c ≤ cy_last w o f t) (hk : tr_kd T = 91 ∨ tr_kd T = 69) {i : Int} (hi : 0 ≤ i ∧ i < tr_n T) :
    (∀ (j : Nat) (y : PT d), (tr_cs T)[j]? = some y → ∀ f' t' : Int, f ≤ f' → t' ≤ t → wok_ d y (w / tr_n T) (o + w * c + w / tr_n T * (i - c)) f' t') ∧ (-20000000000000 ≤ (o + w * c + w / tr_n T * (i - c)) + w / tr_n T * c ∧ (o + w * c + w / tr_n T * (i - c)) + w / tr_n T * c ≤ 20000000000000) ∧ (-1099511627776 ≤ w / tr_n T ∧ w / tr_n T ≤ 1099511627776) := by
  have e : gn_1 T = tr_n T := by
    unfold gn_1
    rcases hk with hk | hk
    · rw [if_pos hk]
    · rw [if_neg (by omega), if_neg (by omega), if_pos (Or.inr hk)]
  obtain ⟨d1, d2⟩ := wok_div h e
  have hp := gn_1_pos h.1.1
  rw [e] at hp
  have hb := h.2.2.2.2.2.2
  have hd := h.2.2.2.2.2.1
  have hw := wok_w h
  have hn := cy_near h.2.1 hw h.2.2.2.2.1 h1 h2 hft
  have hq : -1099511627776 ≤ w / tr_n T ∧ w / tr_n T ≤ 1099511627776 := ab_le (g := tr_n T) (by omega) (by rw [Int.mul_comm, ← d1]; exact hw)
  have hm := m9_ (z := w / tr_n T) (k := i) (B := 1099511627776) (by omega) hq
  have e1 : w * c = tr_n T * (w / tr_n T * c) := by rw [← Int.mul_assoc, ← d1]
  have e2 : w / tr_n T * (i - c) = w / tr_n T * i - w / tr_n T * c := Int.mul_sub _ _ _
  have e3 : (tr_n T - 1) * (w / tr_n T * c) = tr_n T * (w / tr_n T * c) - w / tr_n T * c := by rw [Int.sub_mul, Int.one_mul]
  rw [e1] at hn
  have hc := cv_ (n := tr_n T) (o := o) (z := w / tr_n T * c) (P := 2199023255552) (B := (39 - (d : Int)) * 35184372088832) hp (by omega) hn (by decide) (by omega)
  refine ⟨fun j y hy f' t' hf ht => ?_, ?_, hq⟩
  · exact wok_kid h hy (n := tr_n T) (by omega) d1 (Int.dvd_trans (gn_dvd_kid hy) d2) (by omega) hf ht
  · omega
theorem wok_turn {d : Nat} {T : PT (d + 1)} {w o f t c : Int} (h : wok_ (d + 1) T w o f t) (hft : f < t) (h1 : cy_first w o f t ≤ c) (h2 : c ≤ cy_last w o f t) (hn9 : 1 ≤ tr_n T ∧ tr_n T ≤ 9) :
    (∀ (j : Nat) (y : PT d), (tr_cs T)[j]? = some y → ∀ f' t' : Int, f ≤ f' → t' ≤ t → wok_ d y w (o + w * (c - c / tr_n T)) f' t') ∧ (-20000000000000 ≤ (o + w * (c - c / tr_n T)) + w * (c / tr_n T) ∧ (o + w * (c - c / tr_n T)) + w * (c / tr_n T) ≤ 20000000000000) := by
  have hb := h.2.2.2.2.2.2
  have hd := h.2.2.2.2.2.1
  have hw := wok_w h
  have hn := cy_near h.2.1 hw h.2.2.2.2.1 h1 h2 hft
  have r1 := Int.emod_nonneg c (show tr_n T ≠ 0 by omega)
  have r2 := Int.emod_lt_of_pos c (show 0 < tr_n T by omega)
  have hm := m9_ (z := w) (k := c % tr_n T) (B := 1099511627776) (by omega) hw
  have e0 : w * c = tr_n T * (w * (c / tr_n T)) + w * (c % tr_n T) := by
    have e4 := Int.mul_ediv_add_emod c (tr_n T)
    have e5 : w * c = w * (tr_n T * (c / tr_n T) + c % tr_n T) := by rw [e4]
    rw [e5, Int.mul_add, ← Int.mul_assoc, Int.mul_comm w (tr_n T), Int.mul_assoc]
  have e2 : w * (c - c / tr_n T) = w * c - w * (c / tr_n T) := Int.mul_sub _ _ _
  have e3 : (tr_n T - 1) * (w * (c / tr_n T)) = tr_n T * (w * (c / tr_n T)) - w * (c / tr_n T) := by rw [Int.sub_mul, Int.one_mul]
  have hc := cv_ (n := tr_n T) (o := o) (z := w * (c / tr_n T)) (P := 19791209299968) (B := (39 - (d : Int)) * 35184372088832) hn9 (by omega) (by omega) (by decide) (by omega)
  refine ⟨fun j y hy f' t' hf ht => ?_, ?_⟩
  · exact wok_kid h hy (n := 1) (by omega) (by rw [Int.one_mul]) (Int.dvd_trans (gn_dvd_kid hy) (wok_prod h)) (by omega) hf ht
  · omega
theorem wok_back {d : Nat} {T : PT (d + 1)} {w o f t c : Int} (h : wok_ (d + 1) T w o f t) (hft : f < t) (h1 : cy_first w o f t ≤ c) (h2 : c ≤ cy_last w o f t) :
    (∀ (j : Nat) (y : PT d), (tr_cs T)[j]? = some y → ∀ f' t' : Int, f ≤ f' → t' ≤ t → wok_ d y (-w) (o + w * (2 * c + 1)) f' t') ∧ (-20000000000000 ≤ (o + w * (2 * c + 1)) + (-w) * c ∧ (o + w * (2 * c + 1)) + (-w) * c ≤ 20000000000000) := by
  have hb := h.2.2.2.2.2.2
  have hd := h.2.2.2.2.2.1
  have hw := wok_w h
  have hn := cy_near h.2.1 hw h.2.2.2.2.1 h1 h2 hft
  have e2 : w * (2 * c + 1) = 2 * (w * c) + w := by rw [Int.mul_add, Int.mul_one, ← Int.mul_assoc, Int.mul_comm w 2, Int.mul_assoc]
  have e3 : (-w) * c = -(w * c) := Int.neg_mul _ _
  refine ⟨fun j y hy f' t' hf ht => ?_, ?_⟩
  · have hyw := h.1.2 y (List.mem_of_getElem? hy)
    have k := wok_kid h hy (n := 1) (q := w) (o' := o + w * (2 * c + 1)) (by omega) (by rw [Int.one_mul]) (Int.dvd_trans (gn_dvd_kid hy) (wok_prod h)) (by omega) hf ht
    have k4 := k.2.2.2.1
    have e4 : (-w) * gn_ d y = -(w * gn_ d y) := Int.neg_mul _ _
    exact ⟨k.1, by have := k.2.1; omega, Int.dvd_neg.mpr k.2.2.1, by rw [e4]; omega, k.2.2.2.2⟩
  · omega
theorem wok_same {d : Nat} {T : PT (d + 1)} {w o f t c : Int} (h : wok_ (d + 1) T w o f t) (hft : f < t) (h1 : cy_first w o f t ≤ c) (h2 : c ≤ cy_last w o f t) :
    (∀ (j : Nat) (y : PT d), (tr_cs T)[j]? = some y → ∀ f' t' : Int, f ≤ f' → t' ≤ t → wok_ d y w o f' t') ∧ (-20000000000000 ≤ o + w * c ∧ o + w * c ≤ 20000000000000) := by
  have hw := wok_w h
  have hn := cy_near h.2.1 hw h.2.2.2.2.1 h1 h2 hft
  have hb := h.2.2.2.2.2.2
  refine ⟨fun j y hy f' t' hf ht => ?_, by omega⟩
  exact wok_kid h hy (n := 1) (by omega) (by rw [Int.one_mul]) (Int.dvd_trans (gn_dvd_kid hy) (wok_prod h)) (by omega) hf ht
/-- the rows of events, put in one by one -/
def run_ (lim : Nat) (sk : Ev_ → List Row_) (evs : List Ev_) (st : List Row_ × Bool) : List Row_ × Bool := (evs.flatMap sk).foldl (a_add lim) st
theorem run_nil (lim : Nat) (sk : Ev_ → List Row_) (st : List Row_ × Bool) : run_ lim sk [] st = st := rfl
theorem run_app (lim : Nat) (sk : Ev_ → List Row_) (a b : List Ev_) (st : List Row_ × Bool) : run_ lim sk (a ++ b) st = run_ lim sk b (run_ lim sk a st) := by
  unfold run_
  rw [List.flatMap_append, List.foldl_append]
theorem run_ok {lim : Nat} {sk : Ev_ → List Row_} (evs : List Ev_) {st : List Row_ × Bool} (h : a_ok lim st) : a_ok lim (run_ lim sk evs st) := a_ok_foldl _ h
theorem run_full {lim : Nat} {sk : Ev_ → List Row_} (evs : List Ev_) {st : List Row_ × Bool} (h : a_ok lim st) (hf : st.2 = true) : run_ lim sk evs st = st := a_full _ h hf
/-- the rows of a part, of an onset -/
def sk_pa (e : Ev_) : List Row_ := [(max e.2.1 e.2.2.2.1, e.2.1, min e.2.2.1 e.2.2.2.2, e.2.2.1, e.1)]
def sk_on (slot tl : Int) (e : Ev_) : List Row_ := if e.2.2.2.1 ≤ e.2.1 then [(e.2.1 / tl, slot, e.2.1, e.2.2.1, e.1)] else []
