/-! the model's walk, as a pure machine -/
/-- its way: how long, and node, from, to, a, b, cycle, end, step of each place -/
abbrev MK : Type := Int × (Nat → Int) × (Nat → Int) × (Nat → Int) × (Nat → Int) × (Nat → Int) × (Nat → Int) × (Nat → Int) × (Nat → Int)
abbrev k_wy (k : MK) : Int := k.1
abbrev k_no (k : MK) : Nat → Int := k.2.1
abbrev k_fr (k : MK) : Nat → Int := k.2.2.1
abbrev k_to (k : MK) : Nat → Int := k.2.2.2.1
abbrev k_aa (k : MK) : Nat → Int := k.2.2.2.2.1
abbrev k_bb (k : MK) : Nat → Int := k.2.2.2.2.2.1
abbrev k_cy (k : MK) : Nat → Int := k.2.2.2.2.2.2.1
abbrev k_en (k : MK) : Nat → Int := k.2.2.2.2.2.2.2.1
abbrev k_sp (k : MK) : Nat → Int := k.2.2.2.2.2.2.2.2
/-- its nodes: kinds, ones, twos, threes, firsts, nexts, counts -/
abbrev MT : Type := (Nat → Int) × (Nat → Int) × (Nat → Int) × (Nat → Int) × (Nat → Int) × (Nat → Int) × (Nat → Int)
abbrev a_kn (A : MT) : Nat → Int := A.1
abbrev a_on (A : MT) : Nat → Int := A.2.1
abbrev a_tw (A : MT) : Nat → Int := A.2.2.1
abbrev a_th (A : MT) : Nat → Int := A.2.2.2.1
abbrev a_fi (A : MT) : Nat → Int := A.2.2.2.2.1
abbrev a_ne (A : MT) : Nat → Int := A.2.2.2.2.2.1
abbrev a_co (A : MT) : Nat → Int := A.2.2.2.2.2.2
/-- the child at a place -/
def ch_ (fi ne : Nat → Int) (b n : Int) : Nat → Int
  | 0 => fi (b + n).toNat
  | j + 1 => ne (b + ch_ fi ne b n j).toNat
/-- the next step -/
def fw_ (k : MK) (y : Nat) (all : Int) : MK := (k_wy k, k_no k, k_fr k, k_to k, k_aa k, k_bb k, va_up (k_cy k) y (if k_sp k y + 1 < all then k_cy k y else k_cy k y + 1), k_en k, va_up (k_sp k) y (if k_sp k y + 1 < all then k_sp k y + 1 else 0))
/-- one more place -/
def push_ (k : MK) (n f t w o : Int) : MK := (k_wy k + 1, va_up (k_no k) (k_wy k).toNat n, va_up (k_fr k) (k_wy k).toNat f, va_up (k_to k) (k_wy k).toNat t, va_up (k_aa k) (k_wy k).toNat w, va_up (k_bb k) (k_wy k).toNat o, va_up (k_cy k) (k_wy k).toNat (min (fl_ (f - o) w) (fl_ (t - o) w) - 1), va_up (k_en k) (k_wy k).toNat (max (fl_ (f - o) w) (fl_ (t - o) w) + 1), va_up (k_sp k) (k_wy k).toNat 0)
def pu_ (k : MK) (n f t w o : Int) : MK := if f < t ∧ 0 ≤ n then push_ k n f t w o else k
def cu_x (k : MK) (y : Nat) (c i m : Int) : Int := k_aa k y * c + (k_aa k y * i).tdiv m + k_bb k y
def cu_ (k : MK) (y : Nat) (n c i m a b : Int) : MK := pu_ k n (max (k_fr k y) (min (cu_x k y c i m) (cu_x k y c (i + 1) m))) (min (k_to k y) (max (cu_x k y c i m) (cu_x k y c (i + 1) m))) a b
def lf_ (k : MK) (y : Nat) (c le : Int) : List Ev_ := if max (k_fr k y) (min (k_aa k y * c + k_bb k y) (k_aa k y * (c + 1) + k_bb k y)) < min (k_to k y) (max (k_aa k y * c + k_bb k y) (k_aa k y * (c + 1) + k_bb k y)) then [(le, min (k_aa k y * c + k_bb k y) (k_aa k y * (c + 1) + k_bb k y), max (k_aa k y * c + k_bb k y) (k_aa k y * (c + 1) + k_bb k y), k_fr k y, k_to k y)] else []
/-- the last step there -/
def p1_ (k : MK) (y : Nat) (co : Int) : MK := (k_wy k, k_no k, k_fr k, k_to k, k_aa k, k_bb k, va_up (k_cy k) y (if k_sp k y + 1 < co then k_cy k y else k_en k y + 1), k_en k, va_up (k_sp k) y (k_sp k y + 1))
def pl_ (A : MT) (b : Int) (y : Nat) (k : MK) : MK :=
  if a_kn A (b + k_no k y).toNat = 3 then pu_ (p1_ k y (a_co A (b + k_no k y).toNat)) (ch_ (a_fi A) (a_ne A) b (k_no k y) (k_sp k y).toNat) (k_fr k y) (k_to k y) (k_aa k y) (k_bb k y)
  else if a_kn A (b + k_no k y).toNat = 4 then pu_ (p1_ k y (a_co A (b + k_no k y).toNat)) (a_fi A (b + k_no k y).toNat) (k_fr k y) (k_to k y) ((k_aa k y).tdiv (a_on A (b + k_no k y).toNat)) (k_bb k y)
  else if a_kn A (b + k_no k y).toNat = 5 then pu_ (p1_ k y (a_co A (b + k_no k y).toNat)) (a_fi A (b + k_no k y).toNat) (k_fr k y) (k_to k y) (k_aa k y * a_on A (b + k_no k y).toNat) (k_bb k y)
  else if a_kn A (b + k_no k y).toNat = 6 then pu_ (p1_ k y (a_co A (b + k_no k y).toNat)) (a_fi A (b + k_no k y).toNat) (k_fr k y) (k_to k y) (k_aa k y) (k_bb k y + (k_aa k y).tdiv (a_tw A (b + k_no k y).toNat) * a_on A (b + k_no k y).toNat)
  else p1_ k y (a_co A (b + k_no k y).toNat)
/-- one move; y: the last place -/
def mv_ (A : MT) (b : Int) (y : Nat) (k : MK) : MK × List Ev_ :=
  if k_en k y < k_cy k y then (((y : Int), k.2), [])
  else if a_kn A (b + k_no k y).toNat = 0 then (fw_ k y 1, lf_ k y (k_cy k y) (a_on A (b + k_no k y).toNat))
  else if a_kn A (b + k_no k y).toNat = 1 then (cu_ (fw_ k y (a_co A (b + k_no k y).toNat)) y (ch_ (a_fi A) (a_ne A) b (k_no k y) (k_sp k y).toNat) (k_cy k y) (k_sp k y) (a_co A (b + k_no k y).toNat) ((k_aa k y).tdiv (a_co A (b + k_no k y).toNat)) (k_aa k y * k_cy k y + (k_aa k y).tdiv (a_co A (b + k_no k y).toNat) * (k_sp k y - k_cy k y) + k_bb k y), [])
  else if a_kn A (b + k_no k y).toNat = 9 then (if ((k_sp k y + a_th A (b + k_no k y).toNat) * a_on A (b + k_no k y).toNat).tmod (a_tw A (b + k_no k y).toNat) < a_on A (b + k_no k y).toNat then (cu_ (fw_ k y (a_tw A (b + k_no k y).toNat)) y (a_fi A (b + k_no k y).toNat) (k_cy k y) (k_sp k y) (a_tw A (b + k_no k y).toNat) ((k_aa k y).tdiv (a_tw A (b + k_no k y).toNat)) (k_aa k y * k_cy k y + (k_aa k y).tdiv (a_tw A (b + k_no k y).toNat) * (k_sp k y - k_cy k y) + k_bb k y), []) else (fw_ k y (a_tw A (b + k_no k y).toNat), []))
  else if a_kn A (b + k_no k y).toNat = 2 then (cu_ (fw_ k y 1) y (ch_ (a_fi A) (a_ne A) b (k_no k y) (k_cy k y - fl_ (k_cy k y) (a_co A (b + k_no k y).toNat) * a_co A (b + k_no k y).toNat).toNat) (k_cy k y) 0 1 (k_aa k y) (k_bb k y + k_aa k y * (k_cy k y - fl_ (k_cy k y) (a_co A (b + k_no k y).toNat))), [])
  else if a_kn A (b + k_no k y).toNat = 7 then (cu_ (fw_ k y 1) y (a_fi A (b + k_no k y).toNat) (k_cy k y) 0 1 (-k_aa k y) (k_bb k y + k_aa k y * (2 * k_cy k y + 1)), [])
  else if a_kn A (b + k_no k y).toNat = 8 then (cu_ (fw_ k y 1) y (ch_ (a_fi A) (a_ne A) b (k_no k y) (if fl_ (k_cy k y) (a_on A (b + k_no k y).toNat) * a_on A (b + k_no k y).toNat = k_cy k y then 0 else 1)) (k_cy k y) 0 1 (k_aa k y) (k_bb k y), [])
  else (pl_ A b y k, [])
/-- the node n and those behind it, ahead of m, are the pattern T -/
def rep_ (A : MT) (b : Int) : (d : Nat) → PT d → Int → Int → Prop
  | 0 => fun _ _ _ => False
  | d + 1 => fun T n m => (0 ≤ n ∧ n < m ∧ m ≤ 48) ∧ a_kn A (b + n).toNat = kf_ (tr_kd T) ∧ a_co A (b + n).toNat = ((tr_cs T).length : Int) ∧ ((97 ≤ tr_kd T ∧ tr_kd T ≤ 122) → a_on A (b + n).toNat = tr_kd T) ∧
    ((tr_kd T = 70 ∨ tr_kd T = 83 ∨ tr_kd T = 76 ∨ tr_kd T = 86 ∨ tr_kd T = 69) → a_on A (b + n).toNat = tr_k T) ∧ ((tr_kd T = 76 ∨ tr_kd T = 69) → a_tw A (b + n).toNat = tr_n T) ∧ (tr_kd T = 69 → a_th A (b + n).toNat = tr_r T) ∧
    (tr_cs T ≠ [] → a_fi A (b + n).toNat = n + 1) ∧
    ∃ ps : Nat → Int, ps 0 = n + 1 ∧ ps (tr_cs T).length = m ∧ ∀ (j : Nat) (x : PT d), (tr_cs T)[j]? = some x → rep_ A b d x (ps j) (ps (j + 1)) ∧ (j + 1 < (tr_cs T).length → a_ne A (b + ps j).toNat = ps (j + 1))
theorem rep_rng {A : MT} {b : Int} : ∀ {d : Nat} {T : PT d} {n m : Int}, rep_ A b d T n m → 0 ≤ n ∧ n < m ∧ m ≤ 48
  | 0, _, _, _, h => h.elim
  | _ + 1, _, _, _, h => h.1
theorem rep_ch {A : MT} {b : Int} {d : Nat} {T : PT (d + 1)} {n m : Int} (h : rep_ A b (d + 1) T n m) {j : Nat} {x : PT d} (hj : (tr_cs T)[j]? = some x) : ∃ q, rep_ A b d x (ch_ (a_fi A) (a_ne A) b n j) q := by
  obtain ⟨_, _, _, _, _, _, _, h8, ps, p0, p1, p2⟩ := h
  have key : ∀ j : Nat, j < (tr_cs T).length → ch_ (a_fi A) (a_ne A) b n j = ps j := by
    intro j
    induction j with
    | zero =>
      intro hj
      show a_fi A (b + n).toNat = ps 0
      rw [p0]
      exact h8 (fun e => by rw [e] at hj; exact Nat.lt_irrefl 0 hj)
    | succ j ih =>
      intro hj
      show a_ne A (b + ch_ (a_fi A) (a_ne A) b n j).toNat = ps (j + 1)
      rw [ih (by omega)]
      exact (p2 j _ (List.getElem?_eq_getElem (by omega))).2 hj
  have hl : j < (tr_cs T).length := (List.getElem?_eq_some_iff.mp hj).1
  exact ⟨_, by rw [key j hl]; exact (p2 j x hj).1⟩
theorem rep_fi {A : MT} {b : Int} {d : Nat} {T : PT (d + 1)} {n m : Int} (h : rep_ A b (d + 1) T n m) {x : PT d} (hj : (tr_cs T)[0]? = some x) : ∃ q, rep_ A b d x (a_fi A (b + n).toNat) q := rep_ch h hj
theorem gen_nil {d : Nat} {T : PT d} {w o f t : Int} (h : t ≤ f) : gen_ d T w o f t = [] := by
  cases d with
  | zero => rfl
  | succ d => rw [gen_s]; unfold g_step; rw [if_pos h]
/-! floors, and cycles that don't meet the span -/
theorem fl_mul {x w : Int} (hw : w ≠ 0) : (0 < w → w * fl_ x w ≤ x ∧ x < w * fl_ x w + w) ∧ (w < 0 → x ≤ w * fl_ x w ∧ w * fl_ x w + w < x) := by
  unfold fl_
  refine ⟨fun h => ?_, fun h => ?_⟩
  · rw [if_pos h]
    have h1 := Int.mul_ediv_add_emod x w
    have h2 := Int.emod_nonneg x hw
    have h3 := Int.emod_lt_of_pos x h
    omega
  · rw [if_neg (by omega)]
    have h1 := Int.mul_ediv_add_emod (-x) (-w)
    have h2 := Int.emod_nonneg (-x) (show -w ≠ 0 by omega)
    have h3 := Int.emod_lt_of_pos (-x) (show 0 < -w by omega)
    have e : -w * (-x / -w) = -(w * (-x / -w)) := Int.neg_mul _ _
    omega
theorem cy_out {w o f t c : Int} (hw : w ≠ 0) (h : c < cy_first w o f t ∨ cy_last w o f t < c) : min t (en_ c w o) ≤ max f (bg_ c w o) := by
  unfold cy_first cy_last at h
  unfold en_ bg_
  by_cases hp : 0 < w
  · rw [if_pos hp, if_pos hp] at h
    rw [if_pos hp, if_pos hp]
    rcases h with h | h
    · have a1 := (Int.le_ediv_iff_mul_le hp).mp (show c + 1 ≤ (f - o) / w by omega)
      rw [Int.mul_comm] at a1
      omega
    · have a1 := (Int.ediv_lt_iff_lt_mul hp).mp h
      rw [Int.mul_comm] at a1
      omega
  · rw [if_neg hp, if_neg hp] at h
    rw [if_neg hp, if_neg hp]
    have hq : 0 < -w := by omega
    rcases h with h | h
    · have a1 := (Int.le_ediv_iff_mul_le hq).mp (show c + 1 ≤ (o - t) / -w by omega)
      rw [Int.mul_neg, Int.mul_comm] at a1
      omega
    · have a1 := (Int.ediv_lt_iff_lt_mul hq).mp h
      rw [Int.mul_neg, Int.mul_comm] at a1
      omega
/-- the cycles that the model looks at -/
def c0_ (w o f t : Int) : Int := min (fl_ (f - o) w) (fl_ (t - o) w) - 1
def e0_ (w o f t : Int) : Int := max (fl_ (f - o) w) (fl_ (t - o) w) + 1
theorem c0_le {w o f t : Int} (hw : w ≠ 0) (hft : f < t) : c0_ w o f t ≤ cy_first w o f t ∧ cy_last w o f t ≤ e0_ w o f t ∧ c0_ w o f t ≤ e0_ w o f t := by
  unfold c0_ e0_ cy_first cy_last fl_
  by_cases hp : 0 < w
  · rw [if_pos hp, if_pos hp, if_pos hp, if_pos hp]
    have h1 : (t - 1 - o) / w ≤ (t - o) / w := Int.ediv_le_ediv hp (by omega)
    omega
  · rw [if_neg hp, if_neg hp, if_neg hp, if_neg hp]
    have h1 : (o - 1 - f) / -w ≤ (-(f - o)) / -w := Int.ediv_le_ediv (by omega) (by omega)
    have e : -(t - o) = o - t := by omega
    rw [e]
    omega
theorem c0_near {w o f t c B : Int} (hw : w ≠ 0) (hB : -B ≤ w ∧ w ≤ B) (hf : -B ≤ f ∧ t ≤ B) (hft : f < t) (h1 : c0_ w o f t ≤ c) (h2 : c ≤ e0_ w o f t + 1) : -(5 * B) ≤ o + w * c ∧ o + w * c ≤ 5 * B := by
  unfold c0_ at h1
  unfold e0_ at h2
  obtain ⟨f1, f2⟩ := fl_mul (x := f - o) hw
  obtain ⟨t1, t2⟩ := fl_mul (x := t - o) hw
  generalize fl_ (f - o) w = q at *
  generalize fl_ (t - o) w = r at *
  by_cases hp : 0 < w
  · have f1 := f1 hp
    have t1 := t1 hp
    have a1 : w * (min q r - 1) ≤ w * c := Int.mul_le_mul_of_nonneg_left h1 (by omega)
    have a2 : w * c ≤ w * (max q r + 1 + 1) := Int.mul_le_mul_of_nonneg_left h2 (by omega)
    have m1 : min q r = q ∨ min q r = r := by omega
    have m2 : max q r = q ∨ max q r = r := by omega
    have e1 : ∀ z : Int, w * (z - 1) = w * z - w := fun z => by rw [Int.mul_sub, Int.mul_one]
    have e2 : ∀ z : Int, w * (z + 1 + 1) = w * z + w + w := fun z => by rw [Int.mul_add, Int.mul_add, Int.mul_one]
    rw [e1] at a1
    rw [e2] at a2
    rcases m1 with m1 | m1 <;> rcases m2 with m2 | m2 <;> rw [m1] at a1 <;> rw [m2] at a2 <;> omega
  · have f2 := f2 (by omega)
    have t2 := t2 (by omega)
    have a1 : -w * (min q r - 1) ≤ -w * c := Int.mul_le_mul_of_nonneg_left h1 (by omega)
    have a2 : -w * c ≤ -w * (max q r + 1 + 1) := Int.mul_le_mul_of_nonneg_left h2 (by omega)
    have m1 : min q r = q ∨ min q r = r := by omega
    have m2 : max q r = q ∨ max q r = r := by omega
    have e1 : ∀ z : Int, -w * (z - 1) = -(w * z) + w := fun z => by rw [Int.mul_sub, Int.mul_one, Int.neg_mul]; omega
    have e2 : ∀ z : Int, -w * (z + 1 + 1) = -(w * z) - w - w := fun z => by rw [Int.mul_add, Int.mul_add, Int.mul_one, Int.neg_mul]; omega
    rw [e1, Int.neg_mul] at a1
    rw [e2, Int.neg_mul] at a2
    rcases m1 with m1 | m1 <;> rcases m2 with m2 | m2 <;> rw [m1] at a1 <;> rw [m2] at a2 <;> omega
theorem cy_snoc {a b : Int} (h : a ≤ b + 1) : cy_range a (b + 1) = cy_range a b ++ [b + 1] := by
  unfold cy_range
  have e : (b + 1 - a + 1).toNat = (b - a + 1).toNat + 1 := by omega
  rw [e, List.range_succ, List.map_append, List.map_singleton]
  congr 2
  omega
theorem cy_up {α : Type} (F : Int → List α) {a b : Int} : ∀ (n : Nat) (b' : Int), b ≤ b' → (b' - b).toNat = n → (∀ c, b < c → c ≤ b' → F c = []) → (cy_range a b').flatMap F = (cy_range a b).flatMap F
  | 0, b', h1, h2, _ => by
    have : b' = b := by omega
    rw [this]
  | n + 1, b', h1, h2, h3 => by
    have ih := cy_up F (a := a) (b := b) n (b' - 1) (by omega) (by omega) (fun c h4 h5 => h3 c h4 (by omega))
    rw [← ih]
    have e : b' = b' - 1 + 1 := by omega
    by_cases hb : a ≤ b' - 1 + 1
    · rw [e, cy_snoc hb, List.flatMap_append, ← e, List.flatMap_singleton, h3 b' (by omega) (by omega), List.append_nil]
    · rw [cy_nil (by omega), cy_nil (a := a) (b := b' - 1) (by omega)]
theorem cy_fil {α : Type} {F H : Int → List α} {a b a' b' : Int} (h1 : a' ≤ a) (h2 : b ≤ b') (h3 : ∀ c, a ≤ c → c ≤ b → F c = H c) (h4 : ∀ c, (c < a ∨ b < c) → F c = []) : (cy_range a' b').flatMap F = (cy_range a b).flatMap H := by
  rw [cy_wide F (a := a) _ a' h1 rfl (fun c _ h => h4 c (Or.inl h)), cy_up F (b := b) _ b' h2 rfl (fun c h _ => h4 c (Or.inr h))]
  rw [List.flatMap_def, List.flatMap_def]
  congr 1
  exact List.map_congr_left (fun c hc => h3 c (cy_mem.mp hc).1 (cy_mem.mp hc).2)
/-! the pure machine comes to the events of the pattern -/
def bel_ (y : Nat) (k k' : MK) : Prop := ∀ j : Nat, j < y → k_no k' j = k_no k j ∧ k_fr k' j = k_fr k j ∧ k_to k' j = k_to k j ∧ k_aa k' j = k_aa k j ∧ k_bb k' j = k_bb k j ∧ k_cy k' j = k_cy k j ∧ k_en k' j = k_en k j ∧ k_sp k' j = k_sp k j
theorem bel_refl (y : Nat) (k : MK) : bel_ y k k := fun _ _ => ⟨rfl, rfl, rfl, rfl, rfl, rfl, rfl, rfl⟩
theorem bel_tr {y : Nat} {k k1 k2 : MK} (h1 : bel_ y k k1) (h2 : bel_ y k1 k2) : bel_ y k k2 := fun j hj => by
  obtain ⟨a1, a2, a3, a4, a5, a6, a7, a8⟩ := h1 j hj
  obtain ⟨b1, b2, b3, b4, b5, b6, b7, b8⟩ := h2 j hj
  exact ⟨b1.trans a1, b2.trans a2, b3.trans a3, b4.trans a4, b5.trans a5, b6.trans a6, b7.trans a7, b8.trans a8⟩
theorem bel_mono {y z : Nat} {k k1 : MK} (h : y ≤ z) (h1 : bel_ z k k1) : bel_ y k k1 := fun j hj => h1 j (Nat.lt_of_lt_of_le hj h)
theorem bel_push {y : Nat} {k : MK} (hy : k_wy k = (y : Int)) (n f t w o : Int) : bel_ y k (push_ k n f t w o) := fun j hj => by
  have hne : j ≠ (k_wy k).toNat := by omega
  exact ⟨va_up_ne _ _ hne, va_up_ne _ _ hne, va_up_ne _ _ hne, va_up_ne _ _ hne, va_up_ne _ _ hne, va_up_ne _ _ hne, va_up_ne _ _ hne, va_up_ne _ _ hne⟩
theorem bel_fw (y : Nat) (k : MK) (all : Int) : bel_ y k (fw_ k y all) := fun j hj => by
  have hne : j ≠ y := by omega
  exact ⟨rfl, rfl, rfl, rfl, rfl, va_up_ne _ _ hne, rfl, va_up_ne _ _ hne⟩
theorem bel_p1 (y : Nat) (k : MK) (co : Int) : bel_ y k (p1_ k y co) := fun j hj => by
  have hne : j ≠ y := by omega
  exact ⟨rfl, rfl, rfl, rfl, rfl, va_up_ne _ _ hne, rfl, va_up_ne _ _ hne⟩
/-- how many steps a cycle has -/
def sc_ {d : Nat} (T : PT (d + 1)) : Int := if tr_kd T = 91 ∨ tr_kd T = 69 then tr_n T else if tr_kd T = 123 then ((tr_cs T).length : Int) else 1
theorem sc_rng {d : Nat} {T : PT (d + 1)} (h : wf_1 T) : 1 ≤ sc_ T ∧ sc_ T ≤ 9 := by
  unfold sc_
  rcases h with h | h | h | h | h | h | h
  all_goals (repeat' split) <;> omega
/-- a move can be made -/
def mpr_ (A : MT) (b F0 T0 : Int) (y : Nat) (k : MK) : Prop := (F0 ≤ k_fr k y ∧ k_to k y ≤ T0) ∧ ∃ (d : Nat) (T : PT (d + 1)) (m : Int), y + d ≤ 39 ∧ rep_ A b (d + 1) T (k_no k y) m ∧ wok_ (d + 1) T (k_aa k y) (k_bb k y) (k_fr k y) (k_to k y) ∧ k_fr k y < k_to k y ∧
  c0_ (k_aa k y) (k_bb k y) (k_fr k y) (k_to k y) ≤ k_cy k y ∧ k_en k y = e0_ (k_aa k y) (k_bb k y) (k_fr k y) (k_to k y) ∧ k_cy k y ≤ k_en k y + 1 ∧ (0 ≤ k_sp k y ∧ k_sp k y ≤ 9) ∧ (k_cy k y ≤ k_en k y → k_sp k y < sc_ T)
def mst_ (A : MT) (b F0 T0 : Int) : Nat → MK → List Ev_ → MK → Prop
  | 0, k, es, k' => k' = k ∧ es = []
  | N + 1, k, es, k' => ∃ (y : Nat) (fs : List Ev_), k_wy k = (y : Int) + 1 ∧ mpr_ A b F0 T0 y k ∧ es = (mv_ A b y k).2 ++ fs ∧ mst_ A b F0 T0 N (mv_ A b y k).1 fs k'
theorem mst_add {A : MT} {b F0 T0 : Int} : ∀ {N M : Nat} {k k1 k2 : MK} {es fs : List Ev_}, mst_ A b F0 T0 N k es k1 → mst_ A b F0 T0 M k1 fs k2 → mst_ A b F0 T0 (M + N) k (es ++ fs) k2
  | 0, M, k, k1, k2, es, fs, h1, h2 => by
    obtain ⟨rfl, rfl⟩ := h1
    exact h2
  | N + 1, M, k, k1, k2, es, fs, h1, h2 => by
    obtain ⟨y, gs, hy, hp, rfl, h3⟩ := h1
    exact ⟨y, gs ++ fs, hy, hp, List.append_assoc _ _ _, mst_add h3 h2⟩
theorem mst_one {A : MT} {b F0 T0 : Int} {N y : Nat} {k k1 k2 : MK} {es fs : List Ev_} (hy : k_wy k = (y : Int) + 1) (hp : mpr_ A b F0 T0 y k) (e : mv_ A b y k = (k1, es)) (h : mst_ A b F0 T0 N k1 fs k2) : mst_ A b F0 T0 (N + 1) k (es ++ fs) k2 := ⟨y, fs, hy, hp, by rw [e], by rw [e]; exact h⟩
/-- the place y -/
def ent_ (y : Nat) (k : MK) (n f t w o e c i : Int) : Prop := k_wy k = (y : Int) + 1 ∧ k_no k y = n ∧ k_fr k y = f ∧ k_to k y = t ∧ k_aa k y = w ∧ k_bb k y = o ∧ k_en k y = e ∧ k_cy k y = c ∧ k_sp k y = i
theorem ent_push {y : Nat} {k : MK} (hy : k_wy k = (y : Int)) (n f t w o : Int) : ent_ y (push_ k n f t w o) n f t w o (e0_ w o f t) (c0_ w o f t) 0 := by
  have hz : (k_wy k).toNat = y := by omega
  unfold push_
  rw [hz]
  exact ⟨by show k_wy k + 1 = _; omega, va_up_self _ _ _, va_up_self _ _ _, va_up_self _ _ _, va_up_self _ _ _, va_up_self _ _ _, va_up_self _ _ _, va_up_self _ _ _, va_up_self _ _ _⟩
theorem ent_fw {y : Nat} {k k2 : MK} {n f t w o e c i m : Int} (h : ent_ y k n f t w o e c i) (h2 : bel_ (y + 1) (fw_ k y m) k2) (hw : k_wy k2 = (y : Int) + 1) : ent_ y k2 n f t w o e (if i + 1 < m then c else c + 1) (if i + 1 < m then i + 1 else 0) := by
  obtain ⟨h0, h1, h3, h4, h5, h6, h7, h8, h9⟩ := h
  obtain ⟨b1, b2, b3, b4, b5, b6, b7, b8⟩ := h2 y (Nat.lt_succ_self y)
  refine ⟨hw, b1.trans h1, b2.trans h3, b3.trans h4, b4.trans h5, b5.trans h6, b7.trans h7, b6.trans ?_, b8.trans ?_⟩
  · show va_up (k_cy k) y _ y = _
    rw [va_up_self, h8, h9]
  · show va_up (k_sp k) y _ y = _
    rw [va_up_self, h9]
theorem ent_p1 {y : Nat} {k k2 : MK} {n f t w o e c i m : Int} (h : ent_ y k n f t w o e c i) (h2 : bel_ (y + 1) (p1_ k y m) k2) (hw : k_wy k2 = (y : Int) + 1) : ent_ y k2 n f t w o e (if i + 1 < m then c else e + 1) (i + 1) := by
  obtain ⟨h0, h1, h3, h4, h5, h6, h7, h8, h9⟩ := h
  obtain ⟨b1, b2, b3, b4, b5, b6, b7, b8⟩ := h2 y (Nat.lt_succ_self y)
  refine ⟨hw, b1.trans h1, b2.trans h3, b3.trans h4, b4.trans h5, b5.trans h6, b7.trans h7, b6.trans ?_, b8.trans ?_⟩
  · show va_up (k_cy k) y _ y = _
    rw [va_up_self, h8, h9, h7]
  · show va_up (k_sp k) y _ y = _
    rw [va_up_self, h9]
def sim_ (A : MT) (b F0 T0 : Int) (d : Nat) : Prop := ∀ (T : PT d) (y : Nat) (k : MK) (n m f t w o : Int), k_wy k = (y : Int) → y + d ≤ 40 → rep_ A b d T n m → wok_ d T w o f t → f < t → (F0 ≤ f ∧ t ≤ T0) → ∃ (N : Nat) (k' : MK), mst_ A b F0 T0 N (push_ k n f t w o) (gen_ d T w o f t) k' ∧ k_wy k' = (y : Int) ∧ bel_ y k k'
theorem sub_run {A : MT} {b F0 T0 : Int} {d : Nat} (ih : sim_ A b F0 T0 d) {y : Nat} {k : MK} {x : PT d} {p q w o f t : Int} (hy : k_wy k = (y : Int) + 1) (hd : y + 1 + d ≤ 40) (hr : rep_ A b d x p q) (hw : f < t → wok_ d x w o f t) (hF : F0 ≤ f ∧ t ≤ T0) : ∃ (N : Nat) (k2 : MK), mst_ A b F0 T0 N (pu_ k p f t w o) (gen_ d x w o f t) k2 ∧ k_wy k2 = (y : Int) + 1 ∧ bel_ (y + 1) k k2 := by
  have hp := rep_rng hr
  unfold pu_
  by_cases hft : f < t
  · rw [if_pos ⟨hft, hp.1⟩]
    obtain ⟨N, k2, h1, h2, h3⟩ := ih x (y + 1) k p q f t w o (by omega) hd hr (hw hft) hft hF
    exact ⟨N, k2, h1, by omega, h3⟩
  · rw [if_neg (fun z => hft z.1), gen_nil (by omega)]
    exact ⟨0, k, ⟨rfl, rfl⟩, hy, bel_refl _ _⟩
theorem mv_pop {A : MT} {b F0 T0 : Int} {y : Nat} {k : MK} {n f t w o e c i : Int} (h : ent_ y k n f t w o e c i) (hc : e < c) (hp : mpr_ A b F0 T0 y k) : ∃ (N : Nat) (k' : MK), mst_ A b F0 T0 N k [] k' ∧ k_wy k' = (y : Int) ∧ bel_ y k k' := by
  obtain ⟨h0, h1, h3, h4, h5, h6, h7, h8, h9⟩ := h
  have e1 : mv_ A b y k = (((y : Int), k.2), []) := by
    unfold mv_
    rw [if_pos (by omega)]
  exact ⟨1, ((y : Int), k.2), mst_one h0 hp e1 (N := 0) ⟨rfl, rfl⟩, rfl, bel_refl _ k⟩
theorem cyc_loop {A : MT} {b F0 T0 : Int} {y : Nat} {n f t w o e m c1 : Int} {S : Int → Nat → List Ev_} (hm : 1 ≤ m ∧ m ≤ 9)
    (hst : ∀ (k : MK) (c i : Int), ent_ y k n f t w o e c i → c1 ≤ c → c ≤ e → 0 ≤ i → i < m → ∃ (N : Nat) (k2 : MK), mst_ A b F0 T0 N k (S c i.toNat) k2 ∧ k_wy k2 = (y : Int) + 1 ∧ bel_ (y + 1) (fw_ k y m) k2)
    (hpop : ∀ (k : MK) (c i : Int), ent_ y k n f t w o e c i → c1 ≤ c → c = e + 1 → 0 ≤ i → i < m → mpr_ A b F0 T0 y k) :
    ∀ (M : Nat) (k : MK) (c i : Int), ent_ y k n f t w o e c i → c1 ≤ c → c ≤ e + 1 → 0 ≤ i → i < m → ((e + 1 - c) * 10 + 9 - i).toNat < M → ∃ (N : Nat) (k' : MK), mst_ A b F0 T0 N k (if c ≤ e then ((List.range m.toNat).drop i.toNat).flatMap (S c) ++ (cy_range (c + 1) e).flatMap (fun c => (List.range m.toNat).flatMap (S c)) else []) k' ∧ k_wy k' = (y : Int) ∧ bel_ y k k' := by
  intro M
  induction M with
  | zero => intro k c i _ _ _ _ _ h; omega
  | succ M ih =>
    intro k c i he h1 h2 h3 h4 hM
    by_cases hc : c ≤ e
    · rw [if_pos hc]
      obtain ⟨N, k2, s1, s2, s3⟩ := hst k c i he h1 hc h3 h4
      have he2 := ent_fw he s3 s2
      have hb : bel_ y k k2 := bel_tr (bel_fw y k m) (bel_mono (Nat.le_succ y) s3)
      have hdr : ((List.range m.toNat).drop i.toNat).flatMap (S c) = S c i.toNat ++ ((List.range m.toNat).drop (i.toNat + 1)).flatMap (S c) := by
        rw [List.drop_eq_getElem_cons (by rw [List.length_range]; omega), List.getElem_range, List.flatMap_cons]
      by_cases hi : i + 1 < m
      · rw [if_pos hi, if_pos hi] at he2
        obtain ⟨N2, k3, t1, t2, t3⟩ := ih k2 c (i + 1) he2 h1 h2 (by omega) hi (by omega)
        rw [if_pos hc, show (i + 1).toNat = i.toNat + 1 by omega] at t1
        refine ⟨N2 + N, k3, ?_, t2, bel_tr hb t3⟩
        rw [hdr, List.append_assoc]
        exact mst_add s1 t1
      · rw [if_neg hi, if_neg hi] at he2
        obtain ⟨N2, k3, t1, t2, t3⟩ := ih k2 (c + 1) 0 he2 (by omega) (by omega) (by omega) (by omega) (by omega)
        refine ⟨N2 + N, k3, ?_, t2, bel_tr hb t3⟩
        rw [hdr, List.drop_eq_nil_of_le (by rw [List.length_range]; omega), List.flatMap_nil, List.append_nil]
        refine mst_add s1 ?_
        by_cases hc2 : c + 1 ≤ e
        · rw [if_pos hc2] at t1
          rw [cy_cons hc2, List.flatMap_cons]
          exact t1
        · rw [if_neg hc2] at t1
          rw [cy_nil (by omega)]
          exact t1
    · rw [if_neg hc]
      exact mv_pop he (by omega) (hpop k c i he h1 (by omega) h3 h4)
theorem pln_loop {A : MT} {b F0 T0 : Int} {y : Nat} {n f t w o e co r c : Int} {S : Nat → List Ev_} (hr : 1 ≤ r ∧ r ≤ 9) (hco : ∀ i : Int, 0 ≤ i → i < r → (i + 1 < co ↔ i + 1 < r)) (hce : c ≤ e)
    (hst : ∀ (k : MK) (i : Int), ent_ y k n f t w o e c i → 0 ≤ i → i < r → ∃ (N : Nat) (k2 : MK), mst_ A b F0 T0 N k (S i.toNat) k2 ∧ k_wy k2 = (y : Int) + 1 ∧ bel_ (y + 1) (p1_ k y co) k2)
    (hpop : ∀ (k : MK) (i : Int), ent_ y k n f t w o e (e + 1) i → 0 ≤ i → i ≤ r → mpr_ A b F0 T0 y k) :
    ∀ (M : Nat) (k : MK) (i : Int), ent_ y k n f t w o e c i → 0 ≤ i → i < r → (r - i).toNat < M → ∃ (N : Nat) (k' : MK), mst_ A b F0 T0 N k (((List.range r.toNat).drop i.toNat).flatMap S) k' ∧ k_wy k' = (y : Int) ∧ bel_ y k k' := by
  intro M
  induction M with
  | zero => intro k i _ _ _ h; omega
  | succ M ih =>
    intro k i he h3 h4 hM
    obtain ⟨N, k2, s1, s2, s3⟩ := hst k i he h3 h4
    have he2 := ent_p1 he s3 s2
    have hb : bel_ y k k2 := bel_tr (bel_p1 y k co) (bel_mono (Nat.le_succ y) s3)
    have hdr : ((List.range r.toNat).drop i.toNat).flatMap S = S i.toNat ++ ((List.range r.toNat).drop (i.toNat + 1)).flatMap S := by
      rw [List.drop_eq_getElem_cons (by rw [List.length_range]; omega), List.getElem_range, List.flatMap_cons]
    have hci := hco i h3 h4
    by_cases hi : i + 1 < r
    · rw [if_pos (hci.mpr hi)] at he2
      obtain ⟨N2, k3, t1, t2, t3⟩ := ih k2 (i + 1) he2 (by omega) hi (by omega)
      rw [show (i + 1).toNat = i.toNat + 1 by omega] at t1
      refine ⟨N2 + N, k3, ?_, t2, bel_tr hb t3⟩
      rw [hdr]
      exact mst_add s1 t1
    · rw [if_neg (fun z => hi (hci.mp z))] at he2
      obtain ⟨N2, k3, t1, t2, t3⟩ := mv_pop he2 (by omega) (hpop k2 (i + 1) he2 (by omega) (by omega))
      refine ⟨N2 + N, k3, ?_, t2, bel_tr hb t3⟩
      rw [hdr, List.drop_eq_nil_of_le (by rw [List.length_range]; omega), List.flatMap_nil]
      exact mst_add s1 t1
/-! one step of each kind -/
theorem cut_eq {w o c i n : Int} (hn : 1 ≤ n) (hd : n ∣ w) (hw : w ≠ 0) : min (w * c + (w * i).tdiv n + o) (w * c + (w * (i + 1)).tdiv n + o) = bg_ c (w / n) (o + w * c + w / n * (i - c)) ∧ max (w * c + (w * i).tdiv n + o) (w * c + (w * (i + 1)).tdiv n + o) = en_ c (w / n) (o + w * c + w / n * (i - c)) := by
  obtain ⟨q, rfl⟩ := hd
  have hn0 : n ≠ 0 := by omega
  have hq0 : q ≠ 0 := fun z => hw (by rw [z, Int.mul_zero])
  rw [Int.mul_ediv_cancel_left q hn0, Int.mul_assoc n q i, Int.mul_assoc n q (i + 1), Int.mul_tdiv_cancel_left _ hn0, Int.mul_tdiv_cancel_left _ hn0]
  have e1 : q * (i + 1) = q * i + q := by rw [Int.mul_add, Int.mul_one]
  have e2 : q * (i - c) = q * i - q * c := Int.mul_sub _ _ _
  have e3 : q * (c + 1) = q * c + q := by rw [Int.mul_add, Int.mul_one]
  unfold bg_ en_
  rw [e1, e2]
  by_cases hp : 0 < q
  · rw [if_pos hp, if_pos hp, e3]
    omega
  · rw [if_neg hp, if_neg hp, e3]
    omega
theorem sub_le {w o c i n : Int} (hn : 1 ≤ n) (hd : n ∣ w) (hw : w ≠ 0) (hi : 0 ≤ i ∧ i < n) : bg_ c w o ≤ bg_ c (w / n) (o + w * c + w / n * (i - c)) ∧ en_ c (w / n) (o + w * c + w / n * (i - c)) ≤ en_ c w o := by
  obtain ⟨q, rfl⟩ := hd
  have hn0 : n ≠ 0 := by omega
  have hq0 : q ≠ 0 := fun z => hw (by rw [z, Int.mul_zero])
  rw [Int.mul_ediv_cancel_left q hn0]
  have e2 : q * (i - c) = q * i - q * c := Int.mul_sub _ _ _
  have e3 : q * (c + 1) = q * c + q := by rw [Int.mul_add, Int.mul_one]
  have e4 : n * q * (c + 1) = n * q * c + n * q := by rw [Int.mul_add, Int.mul_one]
  have e5 : q * (i + 1) = q * i + q := by rw [Int.mul_add, Int.mul_one]
  unfold bg_ en_
  by_cases hp : 0 < q
  · have a1 : 0 ≤ q * i := Int.mul_nonneg (by omega) (by omega)
    have a2 : q * (i + 1) ≤ q * n := Int.mul_le_mul_of_nonneg_left (by omega) (by omega)
    have hp2 : 0 < n * q := Int.mul_pos (by omega) hp
    rw [Int.mul_comm q n] at a2
    rw [if_pos hp, if_pos hp, if_pos hp2, if_pos hp2, e2, e3, e4]
    omega
  · have a1 : 0 ≤ -q * i := Int.mul_nonneg (by omega) (by omega)
    have a2 : -q * (i + 1) ≤ -q * n := Int.mul_le_mul_of_nonneg_left (by omega) (by omega)
    have hp2 : ¬ 0 < n * q := fun z => by
      have : 0 < n * -q := Int.mul_pos (by omega) (by omega)
      rw [Int.mul_neg] at this
      omega
    rw [Int.neg_mul] at a1 a2
    rw [Int.neg_mul, Int.mul_comm q n] at a2
    rw [if_neg hp, if_neg hp, if_neg hp2, if_neg hp2, e2, e3, e4]
    omega
theorem cut_1 {w o c : Int} (hw : w ≠ 0) : min (w * c + (w * 0).tdiv 1 + o) (w * c + (w * (0 + 1)).tdiv 1 + o) = bg_ c w o ∧ max (w * c + (w * 0).tdiv 1 + o) (w * c + (w * (0 + 1)).tdiv 1 + o) = en_ c w o := by
  have e3 : w * (c + 1) = w * c + w := by rw [Int.mul_add, Int.mul_one]
  rw [Int.mul_zero, Int.zero_tdiv, Int.zero_add, Int.mul_one, Int.tdiv_one]
  unfold bg_ en_
  by_cases hp : 0 < w
  · rw [if_pos hp, if_pos hp, e3]
    omega
  · rw [if_neg hp, if_neg hp, e3]
    omega
theorem cu_eq {k : MK} {y : Nat} {c i n : Int} (p a o' : Int) (hn : 1 ≤ n) (hd : n ∣ k_aa k y) (hw : k_aa k y ≠ 0) : cu_ k y p c i n a o' = pu_ k p (max (k_fr k y) (bg_ c (k_aa k y / n) (k_bb k y + k_aa k y * c + k_aa k y / n * (i - c)))) (min (k_to k y) (en_ c (k_aa k y / n) (k_bb k y + k_aa k y * c + k_aa k y / n * (i - c)))) a o' := by
  obtain ⟨h1, h2⟩ := cut_eq (o := k_bb k y) (c := c) (i := i) hn hd hw
  unfold cu_ cu_x
  rw [h1, h2]
theorem cu_1 {k : MK} {y : Nat} {c : Int} (p a o' : Int) (hw : k_aa k y ≠ 0) : cu_ k y p c 0 1 a o' = pu_ k p (max (k_fr k y) (bg_ c (k_aa k y) (k_bb k y))) (min (k_to k y) (en_ c (k_aa k y) (k_bb k y))) a o' := by
  obtain ⟨h1, h2⟩ := cut_1 (o := k_bb k y) (c := c) hw
  unfold cu_ cu_x
  rw [h1, h2]
theorem bg_turn (w o c q : Int) : bg_ q w (o + w * (c - q)) = bg_ c w o ∧ en_ q w (o + w * (c - q)) = en_ c w o := by
  have e2 : w * (c - q) = w * c - w * q := Int.mul_sub _ _ _
  have e3 : w * (c + 1) = w * c + w := by rw [Int.mul_add, Int.mul_one]
  have e4 : w * (q + 1) = w * q + w := by rw [Int.mul_add, Int.mul_one]
  unfold bg_ en_
  rw [e2]
  split <;> omega
theorem bg_back {w o c : Int} (hw : w ≠ 0) : bg_ c (-w) (o + w * (2 * c + 1)) = bg_ c w o ∧ en_ c (-w) (o + w * (2 * c + 1)) = en_ c w o := by
  have e2 : w * (2 * c + 1) = w * c + w * c + w := by rw [Int.mul_add, Int.mul_one, ← Int.mul_assoc, Int.mul_comm w 2, Int.mul_assoc]; omega
  have e3 : w * (c + 1) = w * c + w := by rw [Int.mul_add, Int.mul_one]
  unfold bg_ en_
  rw [e2]
  by_cases hp : 0 < w
  · rw [if_pos hp, if_pos hp, if_neg (by omega), if_neg (by omega), Int.neg_mul, Int.neg_mul, e3]
    omega
  · rw [if_neg hp, if_neg hp, if_pos (by omega), if_pos (by omega), Int.neg_mul, Int.neg_mul, e3]
    omega
section ST
variable {A : MT} {b F0 T0 : Int} {d y : Nat} {k : MK} {T : PT (d + 1)} {m : Int}
theorem st_push (ih : sim_ A b F0 T0 d) (hyd : y + d ≤ 39) (hwy : k_wy k = (y : Int) + 1) (hmp : mpr_ A b F0 T0 y k) {k1 : MK} (hk1 : k_wy k1 = (y : Int) + 1) {p q f t w o : Int} {x : PT d} (hmv : mv_ A b y k = (pu_ k1 p f t w o, [])) (hr : rep_ A b d x p q) (hw : f < t → wok_ d x w o f t) (hF : F0 ≤ f ∧ t ≤ T0) {es : List Ev_} (he : es = gen_ d x w o f t) : ∃ (N : Nat) (k2 : MK), mst_ A b F0 T0 N k es k2 ∧ k_wy k2 = (y : Int) + 1 ∧ bel_ (y + 1) k1 k2 := by
  obtain ⟨N, k2, h1, h2, h3⟩ := sub_run ih hk1 (by omega) hr hw hF
  rw [he]
  exact ⟨N + 1, k2, mst_one hwy hmp hmv h1, h2, h3⟩
theorem st_steps (ih : sim_ A b F0 T0 d) (hyd : y + d ≤ 39) (hwy : k_wy k = (y : Int) + 1) (hr : rep_ A b (d + 1) T (k_no k y) m) (hw : wok_ (d + 1) T (k_aa k y) (k_bb k y) (k_fr k y) (k_to k y)) (hft : k_fr k y < k_to k y) (hmp : mpr_ A b F0 T0 y k) (hc : k_cy k y ≤ k_en k y) (hk : tr_kd T = 91 ∨ tr_kd T = 69) (hi : 0 ≤ k_sp k y ∧ k_sp k y < tr_n T) :
    ∃ (N : Nat) (k2 : MK), mst_ A b F0 T0 N k (stp_ T (k_aa k y) (k_bb k y) (k_fr k y) (k_to k y) (k_cy k y) (k_sp k y).toNat) k2 ∧ k_wy k2 = (y : Int) + 1 ∧ bel_ (y + 1) (fw_ k y (tr_n T)) k2 := by
  have hF0 := hmp.1
  have hwf := hw.1.1
  have hrg := wf_rng hwf
  have e : gn_1 T = tr_n T := by
    unfold gn_1
    rcases hk with hk | hk
    · rw [if_pos hk]
    · rw [if_neg (by omega), if_neg (by omega), if_pos (Or.inr hk)]
  have hdv : tr_n T ∣ k_aa k y := ⟨_, (wok_div hw e).1⟩
  have hci : (((k_sp k y).toNat : Nat) : Int) = k_sp k y := by omega
  have eo : ∀ z : Int, k_aa k y * k_cy k y + z + k_bb k y = k_bb k y + k_aa k y * k_cy k y + z := fun z => by omega
  have hwk : ∀ x : PT d, (∃ j : Nat, (tr_cs T)[j]? = some x) → max (k_fr k y) (bg_ (k_cy k y) (k_aa k y / tr_n T) (k_bb k y + k_aa k y * k_cy k y + k_aa k y / tr_n T * (k_sp k y - k_cy k y))) < min (k_to k y) (en_ (k_cy k y) (k_aa k y / tr_n T) (k_bb k y + k_aa k y * k_cy k y + k_aa k y / tr_n T * (k_sp k y - k_cy k y))) → wok_ d x (k_aa k y / tr_n T) (k_bb k y + k_aa k y * k_cy k y + k_aa k y / tr_n T * (k_sp k y - k_cy k y)) (max (k_fr k y) (bg_ (k_cy k y) (k_aa k y / tr_n T) (k_bb k y + k_aa k y * k_cy k y + k_aa k y / tr_n T * (k_sp k y - k_cy k y)))) (min (k_to k y) (en_ (k_cy k y) (k_aa k y / tr_n T) (k_bb k y + k_aa k y * k_cy k y + k_aa k y / tr_n T * (k_sp k y - k_cy k y)))) := fun x hx hlt => by
    obtain ⟨j, hx⟩ := hx
    have hs := sub_le (o := k_bb k y) (c := k_cy k y) (by omega) hdv hw.2.1 hi
    by_cases h1 : cy_first (k_aa k y) (k_bb k y) (k_fr k y) (k_to k y) ≤ k_cy k y
    · by_cases h2 : k_cy k y ≤ cy_last (k_aa k y) (k_bb k y) (k_fr k y) (k_to k y)
      · exact (wok_step hw hft h1 h2 hk hi).1 j x hx _ _ (by omega) (by omega)
      · have := cy_out (o := k_bb k y) (f := k_fr k y) (t := k_to k y) hw.2.1 (Or.inr (Int.not_le.mp h2))
        omega
    · have := cy_out (o := k_bb k y) (f := k_fr k y) (t := k_to k y) hw.2.1 (Or.inl (Int.not_le.mp h1))
      omega
  unfold stp_
  rw [hci]
  rcases hk with hk | hk
  · have hln : tr_n T = ((tr_cs T).length : Int) := by rcases hwf with h | h | h | h | h | h | h <;> omega
    have hkn : a_kn A (b + k_no k y).toNat = 1 := by rw [hr.2.1, hk]; decide
    have hco : a_co A (b + k_no k y).toNat = tr_n T := by rw [hr.2.2.1, hln]
    obtain ⟨x, hx⟩ : ∃ x, (tr_cs T)[(k_sp k y).toNat]? = some x := ⟨_, List.getElem?_eq_getElem (by omega)⟩
    obtain ⟨q, hq⟩ := rep_ch hr hx
    rw [if_pos hk, hx]
    refine st_push ih hyd hwy hmp (k1 := fw_ k y (tr_n T)) hwy ?_ hq (hwk x ⟨_, hx⟩) ⟨by omega, by omega⟩ rfl
    unfold mv_
    rw [if_neg (by omega), if_neg (by omega), if_pos hkn, hco, td_ex hdv, eo]
    exact congrArg (fun z => (z, ([] : List Ev_))) (cu_eq (k := fw_ k y (tr_n T)) _ _ _ (by omega) hdv hw.2.1)
  · have hkn : a_kn A (b + k_no k y).toNat = 9 := by rw [hr.2.1, hk]; decide
    have htw := hr.2.2.2.2.2.1 (Or.inr hk)
    have hon := hr.2.2.2.2.1 (Or.inr (Or.inr (Or.inr (Or.inr hk))))
    have hth := hr.2.2.2.2.2.2.1 hk
    have hnn : 0 ≤ (k_sp k y + tr_r T) * tr_k T := Int.mul_nonneg (by omega) (by omega)
    rw [if_neg (by omega)]
    by_cases hs : (k_sp k y + tr_r T) * tr_k T % tr_n T < tr_k T
    · obtain ⟨x, hx⟩ : ∃ x, (tr_cs T)[0]? = some x := ⟨_, List.getElem?_eq_getElem (by rcases hwf with h | h | h | h | h | h | h <;> omega)⟩
      obtain ⟨q, hq⟩ := rep_fi hr hx
      rw [if_pos hs, hx]
      refine st_push ih hyd hwy hmp (k1 := fw_ k y (tr_n T)) hwy ?_ hq (hwk x ⟨_, hx⟩) ⟨by omega, by omega⟩ rfl
      unfold mv_
      rw [if_neg (by omega), if_neg (by omega), if_neg (by omega), if_pos hkn, htw, hon, hth, Int.tmod_eq_emod_of_nonneg hnn, if_pos hs, td_ex hdv, eo]
      exact congrArg (fun z => (z, ([] : List Ev_))) (cu_eq (k := fw_ k y (tr_n T)) _ _ _ (by omega) hdv hw.2.1)
    · rw [if_neg hs]
      refine ⟨1, fw_ k y (tr_n T), ?_, hwy, bel_refl _ _⟩
      refine mst_one (N := 0) (es := []) (fs := []) hwy hmp ?_ ⟨rfl, rfl⟩
      unfold mv_
      rw [if_neg (by omega), if_neg (by omega), if_neg (by omega), if_pos hkn, htw, hon, hth, Int.tmod_eq_emod_of_nonneg hnn, if_neg hs]
theorem st_cyc (ih : sim_ A b F0 T0 d) (hyd : y + d ≤ 39) (hwy : k_wy k = (y : Int) + 1) (hr : rep_ A b (d + 1) T (k_no k y) m) (hw : wok_ (d + 1) T (k_aa k y) (k_bb k y) (k_fr k y) (k_to k y)) (hft : k_fr k y < k_to k y) (hmp : mpr_ A b F0 T0 y k) (hc : k_cy k y ≤ k_en k y) (hk : tr_kd T = 60 ∨ tr_kd T = 82 ∨ tr_kd T = 86) :
    ∃ (N : Nat) (k2 : MK), mst_ A b F0 T0 N k (g_cyc (gen_ d) T (k_aa k y) (k_bb k y) (k_fr k y) (k_to k y) (k_cy k y)) k2 ∧ k_wy k2 = (y : Int) + 1 ∧ bel_ (y + 1) (fw_ k y 1) k2 := by
  have hF0 := hmp.1
  have hwf := hw.1.1
  have hrg := wf_rng hwf
  have key : ∀ (x : PT d) (w' o' : Int), (∀ (_ : cy_first (k_aa k y) (k_bb k y) (k_fr k y) (k_to k y) ≤ k_cy k y) (_ : k_cy k y ≤ cy_last (k_aa k y) (k_bb k y) (k_fr k y) (k_to k y)) (f' t' : Int), k_fr k y ≤ f' → t' ≤ k_to k y → wok_ d x w' o' f' t') → max (k_fr k y) (bg_ (k_cy k y) (k_aa k y) (k_bb k y)) < min (k_to k y) (en_ (k_cy k y) (k_aa k y) (k_bb k y)) → wok_ d x w' o' (max (k_fr k y) (bg_ (k_cy k y) (k_aa k y) (k_bb k y))) (min (k_to k y) (en_ (k_cy k y) (k_aa k y) (k_bb k y))) := fun x w' o' h hlt => by
    by_cases h1 : cy_first (k_aa k y) (k_bb k y) (k_fr k y) (k_to k y) ≤ k_cy k y
    · by_cases h2 : k_cy k y ≤ cy_last (k_aa k y) (k_bb k y) (k_fr k y) (k_to k y)
      · exact h h1 h2 _ _ (by omega) (by omega)
      · have := cy_out (o := k_bb k y) (f := k_fr k y) (t := k_to k y) hw.2.1 (Or.inr (Int.not_le.mp h2))
        omega
    · have := cy_out (o := k_bb k y) (f := k_fr k y) (t := k_to k y) hw.2.1 (Or.inl (Int.not_le.mp h1))
      omega
  unfold g_cyc
  rcases hk with hk | hk | hk
  · have hln : tr_n T = ((tr_cs T).length : Int) := by rcases hwf with h | h | h | h | h | h | h <;> omega
    have hkn : a_kn A (b + k_no k y).toNat = 2 := by rw [hr.2.1, hk]; decide
    have hco : a_co A (b + k_no k y).toNat = tr_n T := by rw [hr.2.2.1, hln]
    have hfl : fl_ (k_cy k y) (tr_n T) = k_cy k y / tr_n T := by unfold fl_; rw [if_pos (by omega)]
    have r1 := Int.emod_nonneg (k_cy k y) (show tr_n T ≠ 0 by omega)
    have r2 := Int.emod_lt_of_pos (k_cy k y) (show 0 < tr_n T by omega)
    have hmd : k_cy k y - k_cy k y / tr_n T * tr_n T = k_cy k y % tr_n T := by
      have := Int.mul_ediv_add_emod (k_cy k y) (tr_n T)
      rw [Int.mul_comm] at this
      omega
    obtain ⟨x, hx⟩ : ∃ x, (tr_cs T)[(k_cy k y % tr_n T).toNat]? = some x := ⟨_, List.getElem?_eq_getElem (by omega)⟩
    obtain ⟨q, hq⟩ := rep_ch hr hx
    obtain ⟨b1, b2⟩ := bg_turn (k_aa k y) (k_bb k y) (k_cy k y) (k_cy k y / tr_n T)
    rw [if_neg (by omega), if_neg (by omega), if_pos hk, hx]
    refine st_push ih hyd hwy hmp (k1 := fw_ k y 1) hwy ?_ hq (key x _ _ (fun h1 h2 f' t' hf ht => (wok_turn hw hft h1 h2 (by omega)).1 _ x hx f' t' hf ht)) ⟨by omega, by omega⟩ (by show gen_ d x _ _ _ _ = _; rw [b1, b2])
    unfold mv_
    rw [if_neg (by omega), if_neg (by omega), if_neg (by omega), if_neg (by omega), if_pos hkn, hco, hfl, hmd]
    exact congrArg (fun z => (z, ([] : List Ev_))) (cu_1 (k := fw_ k y 1) _ _ _ hw.2.1)
  · have hkn : a_kn A (b + k_no k y).toNat = 7 := by rw [hr.2.1, hk]; decide
    obtain ⟨x, hx⟩ : ∃ x, (tr_cs T)[0]? = some x := ⟨_, List.getElem?_eq_getElem (by rcases hwf with h | h | h | h | h | h | h <;> omega)⟩
    obtain ⟨q, hq⟩ := rep_fi hr hx
    obtain ⟨b1, b2⟩ := bg_back (o := k_bb k y) (c := k_cy k y) hw.2.1
    rw [if_neg (by omega), if_neg (by omega), if_neg (by omega), if_pos hk, hx]
    refine st_push ih hyd hwy hmp (k1 := fw_ k y 1) hwy ?_ hq (key x _ _ (fun h1 h2 f' t' hf ht => (wok_back hw hft h1 h2).1 _ x hx f' t' hf ht)) ⟨by omega, by omega⟩ (by show gen_ d x _ _ _ _ = _; rw [b1, b2])
    unfold mv_
    rw [if_neg (by omega), if_neg (by omega), if_neg (by omega), if_neg (by omega), if_neg (by omega), if_pos hkn]
    exact congrArg (fun z => (z, ([] : List Ev_))) (cu_1 (k := fw_ k y 1) _ _ _ hw.2.1)
  · have hkn : a_kn A (b + k_no k y).toNat = 8 := by rw [hr.2.1, hk]; decide
    have hon := hr.2.2.2.2.1 (Or.inr (Or.inr (Or.inr (Or.inl hk))))
    have hk1 : 1 ≤ tr_k T := by rcases hwf with h | h | h | h | h | h | h <;> omega
    have hl2 : (tr_cs T).length = 2 := by rcases hwf with h | h | h | h | h | h | h <;> omega
    have hfl : fl_ (k_cy k y) (tr_k T) = k_cy k y / tr_k T := by unfold fl_; rw [if_pos (by omega)]
    have hmd : (k_cy k y / tr_k T * tr_k T = k_cy k y) ↔ k_cy k y % tr_k T = 0 := by
      have := Int.mul_ediv_add_emod (k_cy k y) (tr_k T)
      rw [Int.mul_comm] at this
      omega
    obtain ⟨x, j, hx, hj⟩ : ∃ (x : PT d) (j : Nat), (if k_cy k y % tr_k T = 0 then (tr_cs T)[0]? else (tr_cs T)[1]?) = some x ∧ j = (if k_cy k y / tr_k T * tr_k T = k_cy k y then 0 else 1) := by
      by_cases hz : k_cy k y % tr_k T = 0
      · rw [if_pos hz]
        exact ⟨_, _, List.getElem?_eq_getElem (by omega), rfl⟩
      · rw [if_neg hz]
        exact ⟨_, _, List.getElem?_eq_getElem (by omega), rfl⟩
    have hx2 : (tr_cs T)[j]? = some x := by
      rw [hj]
      by_cases hz : k_cy k y % tr_k T = 0
      · rw [if_pos hz] at hx
        rw [if_pos (hmd.mpr hz)]
        exact hx
      · rw [if_neg hz] at hx
        rw [if_neg (fun z => hz (hmd.mp z))]
        exact hx
    obtain ⟨q, hq⟩ := rep_ch hr hx2
    rw [if_neg (by omega), if_neg (by omega), if_neg (by omega), if_neg (by omega), if_pos hk, hx]
    refine st_push ih hyd hwy hmp (k1 := fw_ k y 1) hwy ?_ hq (key x _ _ (fun h1 h2 f' t' hf ht => (wok_same hw hft h1 h2).1 _ x hx2 f' t' hf ht)) ⟨by omega, by omega⟩ rfl
    unfold mv_
    rw [if_neg (by omega), if_neg (by omega), if_neg (by omega), if_neg (by omega), if_neg (by omega), if_neg (by omega), if_pos hkn, hon, hfl, ← hj]
    exact congrArg (fun z => (z, ([] : List Ev_))) (cu_1 (k := fw_ k y 1) _ _ _ hw.2.1)
/-- a letter's event, where it meets the span -/
def le_ (kd w o f t c : Int) : List Ev_ := if max f (bg_ c w o) < min t (en_ c w o) then [(kd, bg_ c w o, en_ c w o, f, t)] else []
theorem st_leaf (hwy : k_wy k = (y : Int) + 1) (hr : rep_ A b (d + 1) T (k_no k y) m) (hw0 : k_aa k y ≠ 0) (hmp : mpr_ A b F0 T0 y k) (hc : k_cy k y ≤ k_en k y) (hk : 97 ≤ tr_kd T ∧ tr_kd T ≤ 122) :
    ∃ (N : Nat) (k2 : MK), mst_ A b F0 T0 N k (le_ (tr_kd T) (k_aa k y) (k_bb k y) (k_fr k y) (k_to k y) (k_cy k y)) k2 ∧ k_wy k2 = (y : Int) + 1 ∧ bel_ (y + 1) (fw_ k y 1) k2 := by
  have hkn : a_kn A (b + k_no k y).toNat = 0 := by rw [hr.2.1]; unfold kf_; rw [if_pos hk]
  have hon := hr.2.2.2.1 hk
  have e3 : k_aa k y * (k_cy k y + 1) = k_aa k y * k_cy k y + k_aa k y := by rw [Int.mul_add, Int.mul_one]
  have e4 : min (k_aa k y * k_cy k y + k_bb k y) (k_aa k y * (k_cy k y + 1) + k_bb k y) = bg_ (k_cy k y) (k_aa k y) (k_bb k y) := by
    unfold bg_
    split
    · omega
    · rw [e3]; omega
  have e5 : max (k_aa k y * k_cy k y + k_bb k y) (k_aa k y * (k_cy k y + 1) + k_bb k y) = en_ (k_cy k y) (k_aa k y) (k_bb k y) := by
    unfold en_
    split
    · rw [e3]; omega
    · omega
  refine ⟨1, fw_ k y 1, ?_, hwy, bel_refl _ _⟩
  have h1 : mv_ A b y k = (fw_ k y 1, le_ (tr_kd T) (k_aa k y) (k_bb k y) (k_fr k y) (k_to k y) (k_cy k y)) := by
    unfold mv_
    rw [if_neg (by omega), if_pos hkn, hon]
    unfold lf_ le_
    rw [e4, e5]
  have h2 := mst_one (N := 0) (fs := []) hwy hmp h1 ⟨rfl, rfl⟩
  rw [List.append_nil] at h2
  exact h2
end ST
/-! all of it -/
theorem gi_out {d : Nat} {x : Option (PT d)} {c w o f t c' w' o' : Int} (h : min t (en_ c w o) ≤ max f (bg_ c w o)) (hb : bg_ c w o ≤ bg_ c' w' o') (he : en_ c' w' o' ≤ en_ c w o) : g_into (gen_ d) x c' w' o' f t = [] := by
  unfold g_into
  cases x with
  | none => rfl
  | some x => exact gen_nil (by omega)
theorem gc_out {d : Nat} {T : PT (d + 1)} {w o f t c : Int} (hw : wok_ (d + 1) T w o f t) (hk : tr_kd T = 91 ∨ tr_kd T = 69 ∨ tr_kd T = 60 ∨ tr_kd T = 82 ∨ tr_kd T = 86) (h : c < cy_first w o f t ∨ cy_last w o f t < c) : g_cyc (gen_ d) T w o f t c = [] := by
  have ho := cy_out hw.2.1 h
  have hwf := hw.1.1
  have hrg := wf_rng hwf
  have hst : (tr_kd T = 91 ∨ tr_kd T = 69) → ∀ (i : Nat) (x : Option (PT d)), (i : Int) < tr_n T → g_into (gen_ d) x c (w / tr_n T) (o + w * c + w / tr_n T * ((i : Int) - c)) f t = [] := fun hk i x hi => by
    have e : gn_1 T = tr_n T := by
      unfold gn_1
      rcases hk with hk | hk
      · rw [if_pos hk]
      · rw [if_neg (by omega), if_neg (by omega), if_pos (Or.inr hk)]
    have hdv : tr_n T ∣ w := ⟨_, (wok_div hw e).1⟩
    have hs := sub_le (o := o) (c := c) (i := (i : Int)) (by omega) hdv hw.2.1 (by omega)
    exact gi_out ho hs.1 hs.2
  unfold g_cyc
  rcases hk with hk | hk | hk | hk | hk
  · rw [if_pos hk]
    exact g_flat_nil (fun i hi => hst (Or.inl hk) i _ (by have := List.mem_range.mp hi; omega))
  · rw [if_neg (by omega), if_pos hk]
    refine g_flat_nil (fun i hi => ?_)
    split
    · exact hst (Or.inr hk) i _ (by have := List.mem_range.mp hi; omega)
    · rfl
  · obtain ⟨b1, b2⟩ := bg_turn w o c (c / tr_n T)
    rw [if_neg (by omega), if_neg (by omega), if_pos hk]
    exact gi_out ho (by omega) (by omega)
  · obtain ⟨b1, b2⟩ := bg_back (o := o) (c := c) hw.2.1
    rw [if_neg (by omega), if_neg (by omega), if_neg (by omega), if_pos hk]
    exact gi_out ho (by omega) (by omega)
  · rw [if_neg (by omega), if_neg (by omega), if_neg (by omega), if_neg (by omega), if_pos hk]
    exact gi_out ho (by omega) (by omega)
theorem le_in {kd w o f t c : Int} (hw : w ≠ 0) (hft : f < t) (h1 : cy_first w o f t ≤ c) (h2 : c ≤ cy_last w o f t) : le_ kd w o f t c = [(kd, bg_ c w o, en_ c w o, f, t)] := by
  obtain ⟨a, b⟩ := cy_in hw h1 h2
  have e3 : w * (c + 1) = w * c + w := by rw [Int.mul_add, Int.mul_one]
  unfold le_
  refine if_pos ?_
  unfold bg_ en_
  by_cases hp : 0 < w
  · have := a hp
    rw [if_pos hp, if_pos hp, e3]
    omega
  · have := b (by omega)
    rw [if_neg hp, if_neg hp, e3]
    omega
theorem le_out {kd w o f t c : Int} (hw : w ≠ 0) (h : c < cy_first w o f t ∨ cy_last w o f t < c) : le_ kd w o f t c = [] := by
  have ho := cy_out hw h
  unfold le_
  exact if_neg (by omega)
theorem rng_flat {α β : Type} (F : α → List β) (l : List α) : (List.range l.length).flatMap (fun i => (l[i]?).elim [] F) = l.flatMap F := by
  have h : (List.range l.length).map (fun i => (l[i]?).elim [] F) = l.map F := by
    apply List.ext_getElem
    · simp
    · intro i h1 h2
      have h3 : i < l.length := by simpa using h2
      rw [List.getElem_map, List.getElem_map, List.getElem_range, List.getElem?_eq_getElem h3]
      rfl
  rw [List.flatMap_def, List.flatMap_def, h]
theorem mpr_mk {A : MT} {b F0 T0 : Int} {d y : Nat} {k : MK} {T : PT (d + 1)} {n m f t w o c i : Int} (he : ent_ y k n f t w o (e0_ w o f t) c i) (hd : y + d ≤ 39) (hr : rep_ A b (d + 1) T n m) (hw : wok_ (d + 1) T w o f t) (hft : f < t) (h1 : c0_ w o f t ≤ c) (h2 : c ≤ e0_ w o f t + 1) (hi : 0 ≤ i ∧ i ≤ 9) (hi2 : c ≤ e0_ w o f t → i < sc_ T) (hF : F0 ≤ f ∧ t ≤ T0) : mpr_ A b F0 T0 y k := by
  obtain ⟨h0, rfl, rfl, rfl, rfl, rfl, h7, rfl, rfl⟩ := he
  exact ⟨hF, d, T, m, hd, hr, hw, hft, h1, h7, by omega, hi, fun z => hi2 (by omega)⟩
theorem sim_all (A : MT) (b F0 T0 : Int) : ∀ d : Nat, sim_ A b F0 T0 d
  | 0 => fun T y k n m f t w o _ _ h => h.elim
  | d + 1 => fun T y k n m f t w o hwy hyd hr hw hft hF => by
    have ih := sim_all A b F0 T0 d
    have hwf := hw.1.1
    have hrg := wf_rng hwf
    have hsc := sc_rng hwf
    have hc0 := c0_le (o := o) hw.2.1 hft
    have he := ent_push hwy n f t w o
    have hbp := bel_push hwy n f t w o
    generalize push_ k n f t w o = K at he hbp ⊢
    have hmk : ∀ (k : MK) (c i : Int), ent_ y k n f t w o (e0_ w o f t) c i → c0_ w o f t ≤ c → c ≤ e0_ w o f t + 1 → 0 ≤ i → i ≤ 9 → (c ≤ e0_ w o f t → i < sc_ T) → mpr_ A b F0 T0 y k := fun k c i h1 h2 h3 h4 h5 h6 => mpr_mk h1 (by omega) hr hw hft h2 h3 ⟨h4, h5⟩ h6 hF
    have fin : ∀ es : List Ev_, (∃ (N : Nat) (k' : MK), mst_ A b F0 T0 N K es k' ∧ k_wy k' = (y : Int) ∧ bel_ y K k') → es = g_step (gen_ d) T w o f t → ∃ (N : Nat) (k' : MK), mst_ A b F0 T0 N K (gen_ (d + 1) T w o f t) k' ∧ k_wy k' = (y : Int) ∧ bel_ y k k' := fun es h e => by
      obtain ⟨N, k', h1, h2, h3⟩ := h
      rw [gen_s, ← e]
      exact ⟨N, k', h1, h2, bel_tr hbp h3⟩
    have cyc : ∀ (sc : Int) (S : Int → Nat → List Ev_), sc = sc_ T → (tr_kd T ≠ 126 ∧ tr_kd T ≠ 70 ∧ tr_kd T ≠ 83 ∧ tr_kd T ≠ 76 ∧ tr_kd T ≠ 123) →
        (∀ (k : MK) (c i : Int), ent_ y k n f t w o (e0_ w o f t) c i → c0_ w o f t ≤ c → c ≤ e0_ w o f t → 0 ≤ i → i < sc → ∃ (N : Nat) (k2 : MK), mst_ A b F0 T0 N k (S c i.toNat) k2 ∧ k_wy k2 = (y : Int) + 1 ∧ bel_ (y + 1) (fw_ k y sc) k2) →
        (∀ c, cy_first w o f t ≤ c → c ≤ cy_last w o f t → (List.range sc.toNat).flatMap (S c) = g_cyc (gen_ d) T w o f t c) → (∀ c, (c < cy_first w o f t ∨ cy_last w o f t < c) → (List.range sc.toNat).flatMap (S c) = []) → ∃ (N : Nat) (k' : MK), mst_ A b F0 T0 N K (gen_ (d + 1) T w o f t) k' ∧ k_wy k' = (y : Int) ∧ bel_ y k k' := fun sc S esc hk hst hin hout => by
      refine fin _ (cyc_loop (S := S) (m := sc) (c1 := c0_ w o f t) (by omega) hst (fun k c i h1 h2 h3 h4 h5 => hmk k c i h1 h2 (by omega) h4 (by omega) (fun z => by omega)) _ K (c0_ w o f t) 0 he (Int.le_refl _) (by omega) (by omega) (by omega) (Nat.lt_succ_self _)) ?_
      rw [if_pos hc0.2.2]
      unfold g_step
      rw [if_neg (by omega), if_neg hk.1, if_neg hk.2.1, if_neg hk.2.2.1, if_neg hk.2.2.2.1, if_neg hk.2.2.2.2]
      rw [← cy_fil (F := fun c => (List.range sc.toNat).flatMap (S c)) hc0.1 hc0.2.1 hin hout, cy_cons hc0.2.2, List.flatMap_cons]
      rfl
    have pln : ∀ (r co : Int) (S : Nat → List Ev_), r = sc_ T → (∀ i : Int, 0 ≤ i → i < r → (i + 1 < co ↔ i + 1 < r)) → (∀ (k : MK) (i : Int), ent_ y k n f t w o (e0_ w o f t) (c0_ w o f t) i → 0 ≤ i → i < r → ∃ (N : Nat) (k2 : MK), mst_ A b F0 T0 N k (S i.toNat) k2 ∧ k_wy k2 = (y : Int) + 1 ∧ bel_ (y + 1) (p1_ k y co) k2) → (List.range r.toNat).flatMap S = g_step (gen_ d) T w o f t → ∃ (N : Nat) (k' : MK), mst_ A b F0 T0 N K (gen_ (d + 1) T w o f t) k' ∧ k_wy k' = (y : Int) ∧ bel_ y k k' := fun r co S er hco hst hev => by
      refine fin _ (pln_loop (S := S) (r := r) (co := co) (c := c0_ w o f t) (by omega) hco hc0.2.2 hst (fun k i h1 h2 h3 => hmk k _ i h1 (by omega) (by omega) h2 (by omega) (fun z => by omega)) _ K 0 he (by omega) (by omega) (Nat.lt_succ_self _)) ?_
      exact hev
    have stp1 : ∀ (co : Int) (x : PT d) (p q w' o' : Int), (∀ k : MK, ent_ y k n f t w o (e0_ w o f t) (c0_ w o f t) 0 → mv_ A b y k = (pu_ (p1_ k y co) p f t w' o', [])) → rep_ A b d x p q → wok_ d x w' o' f t → ∀ (k : MK) (i : Int), ent_ y k n f t w o (e0_ w o f t) (c0_ w o f t) i → 0 ≤ i → i < 1 → ∃ (N : Nat) (k2 : MK), mst_ A b F0 T0 N k (gen_ d x w' o' f t) k2 ∧ k_wy k2 = (y : Int) + 1 ∧ bel_ (y + 1) (p1_ k y co) k2 := fun co x p q w' o' hmv hq hwx k i h1 h2 h3 => by
      obtain rfl : i = 0 := by omega
      exact st_push ih (by omega) h1.1 (hmk k _ 0 h1 (by omega) (by omega) (by omega) (by omega) (fun _ => by omega)) (k1 := p1_ k y co) h1.1 (hmv k h1) hq (fun _ => hwx) hF rfl
    have one : ∀ F : List Ev_, (List.range (1 : Int).toNat).flatMap (fun _ => F) = F := fun F => by
      show (List.range 1).flatMap (fun _ => F) = F
      simp
    by_cases h91 : tr_kd T = 91 ∨ tr_kd T = 69
    · have es : sc_ T = tr_n T := by unfold sc_; rw [if_pos h91]
      refine cyc (tr_n T) (fun c i => stp_ T w o f t c i) es.symm (by omega) (fun k c i h1 h2 h3 h4 h5 => ?_) (fun c _ _ => (stp_cyc h91 w o f t c).symm) (fun c h => ?_)
      · have hmp := hmk k c i h1 h2 (by omega) h4 (by omega) (fun _ => by omega)
        obtain ⟨e0, rfl, rfl, rfl, rfl, rfl, e7, rfl, rfl⟩ := h1
        exact st_steps ih (by omega) e0 hr hw hft hmp (by omega) h91 ⟨h4, h5⟩
      · show (List.range (tr_n T).toNat).flatMap (stp_ T w o f t c) = []
        rw [← stp_cyc h91 w o f t c]
        exact gc_out hw (by omega) h
    · have es1 : tr_kd T ≠ 123 → sc_ T = 1 := fun h => by unfold sc_; rw [if_neg h91, if_neg h]
      by_cases h60 : tr_kd T = 60 ∨ tr_kd T = 82 ∨ tr_kd T = 86
      · refine cyc 1 (fun c _ => g_cyc (gen_ d) T w o f t c) (es1 (by omega)).symm (by omega) (fun k c i h1 h2 h3 h4 h5 => ?_) (fun c _ _ => one _) (fun c h => (one _).trans (gc_out hw (by omega) h))
        have hmp := hmk k c i h1 h2 (by omega) h4 (by omega) (fun _ => by rw [es1 (by omega)]; exact h5)
        obtain ⟨e0, rfl, rfl, rfl, rfl, rfl, e7, rfl, rfl⟩ := h1
        exact st_cyc ih (by omega) e0 hr hw hft hmp (by omega) h60
      · by_cases hlet : 97 ≤ tr_kd T ∧ tr_kd T ≤ 122
        · refine cyc 1 (fun c _ => le_ (tr_kd T) w o f t c) (es1 (by omega)).symm (by omega) (fun k c i h1 h2 h3 h4 h5 => ?_) (fun c q1 q2 => ?_) (fun c h => (one _).trans (le_out hw.2.1 h))
          · have hmp := hmk k c i h1 h2 (by omega) h4 (by omega) (fun _ => by rw [es1 (by omega)]; exact h5)
            obtain ⟨e0, rfl, rfl, rfl, rfl, rfl, e7, rfl, rfl⟩ := h1
            exact st_leaf e0 hr hw.2.1 hmp (by omega) hlet
          · refine (one _).trans ?_
            rw [le_in hw.2.1 hft q1 q2]
            unfold g_cyc
            rw [if_neg (by omega), if_neg (by omega), if_neg (by omega), if_neg (by omega), if_neg (by omega)]
        · have hkd : tr_kd T = 126 ∨ tr_kd T = 123 ∨ tr_kd T = 70 ∨ tr_kd T = 83 ∨ tr_kd T = 76 := by rcases hwf with h | h | h | h | h | h | h <;> omega
          have first : (tr_kd T = 70 ∨ tr_kd T = 83 ∨ tr_kd T = 76) → ∃ x, (tr_cs T)[0]? = some x ∧ a_co A (b + n).toNat = 1 := fun h => by
            have hl1 : (tr_cs T).length = 1 := by rcases hwf with h | h | h | h | h | h | h <;> omega
            exact ⟨_, List.getElem?_eq_getElem (by omega), by rw [hr.2.2.1, hl1]; rfl⟩
          have ec1 : ∀ i : Int, 0 ≤ i → i < 1 → (i + 1 < (1 : Int) ↔ i + 1 < 1) := fun i _ _ => Iff.rfl
          rcases hkd with hk | hk | hk | hk | hk
          · have hkn : a_kn A (b + n).toNat = 10 := by rw [hr.2.1, hk]; decide
            have hl0 : (tr_cs T).length = 0 := by rcases hwf with h | h | h | h | h | h | h <;> omega
            have hco : a_co A (b + n).toNat = 0 := by rw [hr.2.2.1, hl0]; rfl
            refine pln 1 0 (fun _ => []) (es1 (by omega)).symm (fun i h1 h2 => by omega) (fun k i h1 h2 h3 => ?_) ?_
            · have hmp := hmk k _ i h1 (by omega) (by omega) h2 (by omega) (fun _ => by rw [es1 (by omega)]; exact h3)
              obtain ⟨e0, rfl, rfl, rfl, rfl, rfl, e7, e8, rfl⟩ := h1
              refine ⟨1, p1_ k y 0, ?_, e0, bel_refl _ _⟩
              refine mst_one (N := 0) (es := []) (fs := []) e0 hmp ?_ ⟨rfl, rfl⟩
              unfold mv_ pl_
              rw [if_neg (by omega), if_neg (by omega), if_neg (by omega), if_neg (by omega), if_neg (by omega), if_neg (by omega), if_neg (by omega), if_neg (by omega), if_neg (by omega), if_neg (by omega), if_neg (by omega), hco]
            · rw [one]
              unfold g_step
              rw [if_neg (by omega), if_pos hk]
          · have hkn : a_kn A (b + n).toNat = 3 := by rw [hr.2.1, hk]; decide
            have hsl : sc_ T = ((tr_cs T).length : Int) := by unfold sc_; rw [if_neg h91, if_pos hk]
            refine pln ((tr_cs T).length : Int) ((tr_cs T).length : Int) (fun i => ((tr_cs T)[i]?).elim [] (fun x => gen_ d x w o f t)) hsl.symm (fun i h1 h2 => Iff.rfl) (fun k i h1 h2 h3 => ?_) ?_
            · have hmp := hmk k _ i h1 (by omega) (by omega) h2 (by omega) (fun _ => by omega)
              obtain ⟨x, hx⟩ : ∃ x, (tr_cs T)[i.toNat]? = some x := ⟨_, List.getElem?_eq_getElem (by omega)⟩
              obtain ⟨q, hq⟩ := rep_ch hr hx
              have hco := hr.2.2.1
              obtain ⟨e0, rfl, rfl, rfl, rfl, rfl, e7, e8, rfl⟩ := h1
              refine st_push ih (by omega) e0 hmp (k1 := p1_ k y ((tr_cs T).length : Int)) e0 ?_ hq (fun _ => wok_st hw hx) hF (by rw [hx]; rfl)
              unfold mv_ pl_
              rw [if_neg (by omega), if_neg (by omega), if_neg (by omega), if_neg (by omega), if_neg (by omega), if_neg (by omega), if_neg (by omega), if_pos hkn, hco]
            · show (List.range (tr_cs T).length).flatMap _ = _
              rw [rng_flat]
              unfold g_step
              rw [if_neg (by omega), if_neg (by omega), if_neg (by omega), if_neg (by omega), if_neg (by omega), if_pos hk]
          · have hkn : a_kn A (b + n).toNat = 4 := by rw [hr.2.1, hk]; decide
            obtain ⟨x, hx, hco⟩ := first (by omega)
            obtain ⟨q, hq⟩ := rep_fi hr hx
            have hon := hr.2.2.2.2.1 (by omega)
            have eg : gn_1 T = tr_k T := by unfold gn_1; rw [if_neg (by omega), if_pos (Or.inl hk)]
            have hdv : tr_k T ∣ w := ⟨_, (wok_div hw eg).1⟩
            refine pln 1 1 (fun _ => gen_ d x (w / tr_k T) o f t) (es1 (by omega)).symm ec1 (stp1 1 x _ q _ _ (fun k h1 => ?_) hq (wok_F hw hk hx)) ?_
            · obtain ⟨e0, rfl, rfl, rfl, rfl, rfl, e7, e8, e9⟩ := h1
              unfold mv_ pl_
              rw [if_neg (by omega), if_neg (by omega), if_neg (by omega), if_neg (by omega), if_neg (by omega), if_neg (by omega), if_neg (by omega), if_neg (by omega), if_pos hkn, hco, hon, td_ex hdv]
            · rw [one]
              unfold g_step
              rw [if_neg (by omega), if_neg (by omega), if_pos hk, hx]
              rfl
          · have hkn : a_kn A (b + n).toNat = 5 := by rw [hr.2.1, hk]; decide
            obtain ⟨x, hx, hco⟩ := first (by omega)
            obtain ⟨q, hq⟩ := rep_fi hr hx
            have hon := hr.2.2.2.2.1 (by omega)
            refine pln 1 1 (fun _ => gen_ d x (w * tr_k T) o f t) (es1 (by omega)).symm ec1 (stp1 1 x _ q _ _ (fun k h1 => ?_) hq (wok_S hw hk hx)) ?_
            · obtain ⟨e0, rfl, rfl, rfl, rfl, rfl, e7, e8, e9⟩ := h1
              unfold mv_ pl_
              rw [if_neg (by omega), if_neg (by omega), if_neg (by omega), if_neg (by omega), if_neg (by omega), if_neg (by omega), if_neg (by omega), if_neg (by omega), if_neg (by omega), if_pos hkn, hco, hon]
            · rw [one]
              unfold g_step
              rw [if_neg (by omega), if_neg (by omega), if_neg (by omega), if_pos hk, hx]
              rfl
          · have hkn : a_kn A (b + n).toNat = 6 := by rw [hr.2.1, hk]; decide
            obtain ⟨x, hx, hco⟩ := first (by omega)
            obtain ⟨q, hq⟩ := rep_fi hr hx
            have hon := hr.2.2.2.2.1 (by omega)
            have htw := hr.2.2.2.2.2.1 (Or.inl hk)
            have eg : gn_1 T = tr_n T := by unfold gn_1; rw [if_neg (by omega), if_neg (by omega), if_pos (Or.inl hk)]
            have hdv : tr_n T ∣ w := ⟨_, (wok_div hw eg).1⟩
            refine pln 1 1 (fun _ => gen_ d x w (o + w / tr_n T * tr_k T) f t) (es1 (by omega)).symm ec1 (stp1 1 x _ q _ _ (fun k h1 => ?_) hq (wok_L hw hk hx)) ?_
            · obtain ⟨e0, rfl, rfl, rfl, rfl, rfl, e7, e8, e9⟩ := h1
              unfold mv_ pl_
              rw [if_neg (by omega), if_neg (by omega), if_neg (by omega), if_neg (by omega), if_neg (by omega), if_neg (by omega), if_neg (by omega), if_neg (by omega), if_neg (by omega), if_neg (by omega), if_pos hkn, hco, hon, htw, td_ex hdv]
            · rw [one]
              unfold g_step
              rw [if_neg (by omega), if_neg (by omega), if_neg (by omega), if_neg (by omega), if_pos hk, hx]
              rfl
