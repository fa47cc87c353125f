/-! the grain of the nodes read; rows put in by shifting; bounds of a move -/
def fac_ (A : MT) (j : Nat) : Int := if a_kn A j = 1 then a_co A j else if a_kn A j = 4 ∨ a_kn A j = 5 then a_on A j else if a_kn A j = 6 ∨ a_kn A j = 9 then a_tw A j else 1
def gpr_ (A : MT) (b : Int) : Nat → Int → Int
  | 0, _ => 1
  | k + 1, n => gpr_ A b k n * fac_ A (b + n + (k : Int)).toNat
theorem gpr_add (A : MT) (b : Int) (i : Nat) (n : Int) : ∀ j : Nat, gpr_ A b (i + j) n = gpr_ A b i n * gpr_ A b j (n + (i : Int))
  | 0 => by show gpr_ A b i n = _ * 1; rw [Int.mul_one]
  | j + 1 => by
    show gpr_ A b (i + j) n * fac_ A (b + n + ((i + j : Nat) : Int)).toNat = gpr_ A b i n * (gpr_ A b j (n + (i : Int)) * fac_ A (b + (n + (i : Int)) + (j : Int)).toNat)
    rw [gpr_add A b i n j, Int.mul_assoc]
    congr 3
    congr 1
    omega
theorem gpr_1 (A : MT) (b n : Int) : gpr_ A b 1 n = fac_ A (b + n).toNat := by
  show 1 * fac_ A (b + n + ((0 : Nat) : Int)).toNat = _
  rw [Int.one_mul]
  congr 2
  omega
theorem gn_prod_snoc : ∀ (l : List Int) (x : Int), gn_prod (l ++ [x]) = gn_prod l * x
  | [], x => by show x * 1 = 1 * x; rw [Int.mul_one, Int.one_mul]
  | y :: l, x => by
    show y * gn_prod (l ++ [x]) = y * gn_prod l * x
    rw [gn_prod_snoc l x, Int.mul_assoc]
theorem fac_head {A : MT} {b : Int} {d : Nat} {T : PT (d + 1)} {n m : Int} (h : rep_ A b (d + 1) T n m) (hw : wf_1 T) : fac_ A (b + n).toNat = gn_1 T := by
  obtain ⟨h1, h2, h3, h4, h5, h6, h7, _⟩ := h
  unfold fac_ gn_1
  rw [h2]
  have hc := kf_cases (tr_kd T)
  by_cases k1 : tr_kd T = 91
  · rw [if_pos (by omega), if_pos k1, h3]
    rcases hw with q | q | q | q | q | q | q <;> omega
  · by_cases k2 : tr_kd T = 70 ∨ tr_kd T = 83
    · rw [if_neg (by omega), if_pos (by omega), if_neg k1, if_pos k2]
      exact h5 (by omega)
    · by_cases k3 : tr_kd T = 76 ∨ tr_kd T = 69
      · rw [if_neg (by omega), if_neg (by omega), if_pos (by omega), if_neg k1, if_neg k2, if_pos k3]
        exact h6 k3
      · rw [if_neg (by omega), if_neg (by omega), if_neg (by omega), if_neg k1, if_neg k2, if_neg k3]
theorem rep_ps {A : MT} {b : Int} {d : Nat} {cs : List (PT d)} {ps : Nat → Int} (p2 : ∀ (j : Nat) (x : PT d), cs[j]? = some x → rep_ A b d x (ps j) (ps (j + 1))) : ∀ j : Nat, j ≤ cs.length → ps 0 ≤ ps j := by
  intro j
  induction j with
  | zero => intro _; exact Int.le_refl _
  | succ j ih =>
    intro hj
    have h1 := rep_rng (p2 j _ (List.getElem?_eq_getElem (by omega)))
    have h2 := ih (by omega)
    omega
theorem rep_gn {A : MT} {b : Int} : ∀ {d : Nat} {T : PT d} {n m : Int}, rep_ A b d T n m → wf_ d T → gpr_ A b (m - n).toNat n = gn_ d T
  | 0, _, _, _, h, _ => h.elim
  | d + 1, T, n, m, h, hw => by
    have hf := fac_head h hw.1
    obtain ⟨h1, _, _, _, _, _, _, _, ps, p0, p1, p2⟩ := h
    have hps := rep_ps (cs := tr_cs T) (ps := ps) (fun j x hx => (p2 j x hx).1)
    have key : ∀ j : Nat, j ≤ (tr_cs T).length → gpr_ A b (ps j - (n + 1)).toNat (n + 1) = gn_prod (((tr_cs T).take j).map (gn_ d)) := by
      intro j
      induction j with
      | zero =>
        intro _
        rw [p0, show (n + 1 - (n + 1)).toNat = 0 by omega]
        rfl
      | succ j ih =>
        intro hj
        have hlt : j < (tr_cs T).length := by omega
        have hx := List.getElem?_eq_getElem hlt
        have r1 := (p2 j _ hx).1
        have r2 := rep_rng r1
        have r3 := hps j (by omega)
        have e1 : (ps (j + 1) - (n + 1)).toNat = (ps j - (n + 1)).toNat + (ps (j + 1) - ps j).toNat := by omega
        have e2 : n + 1 + (((ps j - (n + 1)).toNat : Nat) : Int) = ps j := by omega
        rw [e1, gpr_add, ih (by omega), e2, rep_gn r1 (hw.2 _ (List.getElem_mem hlt)), List.take_succ_eq_append_getElem hlt, List.map_append, List.map_singleton, gn_prod_snoc]
    have hl := key (tr_cs T).length (Nat.le_refl _)
    have e1 : (m - n).toNat = 1 + (m - (n + 1)).toNat := by omega
    rw [p1, List.take_length] at hl
    rw [e1, gpr_add, gpr_1, hf, gn_s]
    show gn_1 T * gpr_ A b (m - (n + 1)).toNat (n + 1) = _
    rw [hl]
theorem rep_fac {A : MT} {b : Int} : ∀ {d : Nat} {T : PT d} {n m : Int}, rep_ A b d T n m → wf_ d T → ∀ q : Int, n ≤ q → q < m → 1 ≤ fac_ A (b + q).toNat ∧ fac_ A (b + q).toNat ≤ 9
  | 0, _, _, _, h, _ => h.elim
  | d + 1, T, n, m, h, hw => fun q q1 q2 => by
    have hf := fac_head h hw.1
    obtain ⟨h1, _, _, _, _, _, _, _, ps, p0, p1, p2⟩ := h
    by_cases hq : q = n
    · subst hq
      rw [hf]
      exact gn_1_pos hw.1
    · have key : ∀ j : Nat, j ≤ (tr_cs T).length → q < ps j → 1 ≤ fac_ A (b + q).toNat ∧ fac_ A (b + q).toNat ≤ 9 := by
        intro j
        induction j with
        | zero => intro _ hlt; omega
        | succ j ih =>
          intro hj hlt
          by_cases hq2 : q < ps j
          · exact ih (by omega) hq2
          · have hl : j < (tr_cs T).length := by omega
            exact rep_fac (p2 j _ (List.getElem?_eq_getElem hl)).1 (hw.2 _ (List.getElem_mem hl)) q (by omega) hlt
      exact key _ (Nat.le_refl _) (by omega)
/-- the product, stopped where it is too much -/
theorem gpr_mono {A : MT} {b n : Int} {s : Nat} (hf : ∀ k : Nat, k < s → 1 ≤ fac_ A (b + n + (k : Int)).toNat ∧ fac_ A (b + n + (k : Int)).toNat ≤ 9) : ∀ j i : Nat, i + j ≤ s → gpr_ A b i n ≤ gpr_ A b (i + j) n ∧ 1 ≤ gpr_ A b i n := by
  have pos : ∀ i : Nat, i ≤ s → 1 ≤ gpr_ A b i n := by
    intro i
    induction i with
    | zero => intro _; exact Int.le_refl _
    | succ i ih =>
      intro hi
      have h1 := ih (by omega)
      have h2 := (hf i (by omega)).1
      show 1 ≤ gpr_ A b i n * fac_ A (b + n + (i : Int)).toNat
      have := Int.mul_le_mul h1 h2 (by decide) (by omega)
      omega
  intro j
  induction j with
  | zero => intro i hi; exact ⟨Int.le_refl _, pos i (by omega)⟩
  | succ j ih =>
    intro i hi
    have h1 := ih i (by omega)
    have h2 := pos (i + j) (by omega)
    have h3 := (hf (i + j) (by omega)).1
    refine ⟨?_, h1.2⟩
    show gpr_ A b i n ≤ gpr_ A b (i + j) n * fac_ A (b + n + ((i + j : Nat) : Int)).toNat
    have := Int.mul_le_mul_of_nonneg_left h3 (show 0 ≤ gpr_ A b (i + j) n by omega)
    rw [Int.mul_one] at this
    omega
/-! shifting -/
def sh_ (f : Nat → Int) (b p n : Nat) : Nat → Int := fun j => if b + p < j ∧ j ≤ b + n then f (j - 1) else f j
theorem sh_0 (f : Nat → Int) (b n : Nat) : sh_ f b n n = f := by
  funext j
  unfold sh_
  exact if_neg (by omega)
theorem sh_at (f : Nat → Int) (b p n : Nat) : sh_ f b (p + 1) n (b + p) = f (b + p) := by
  unfold sh_
  exact if_neg (by omega)
theorem sh_s (f : Nat → Int) (b p n : Nat) (h : p + 1 ≤ n) : va_up (sh_ f b (p + 1) n) (b + p + 1) (f (b + p)) = sh_ f b p n := by
  funext j
  unfold va_up sh_
  by_cases hj : j = b + p + 1
  · subst hj
    rw [if_pos rfl, if_pos (by omega)]
    rfl
  · rw [if_neg hj]
    by_cases h2 : b + (p + 1) < j ∧ j ≤ b + n
    · rw [if_pos h2, if_pos (by omega)]
    · rw [if_neg h2, if_neg (by omega)]
def in_ (f : Nat → Int) (b p n : Nat) (v : Int) : Nat → Int := va_up (sh_ f b p n) (b + p) v
theorem in_lo (f : Nat → Int) (b p n : Nat) (v : Int) {j : Nat} (h : j < b + p) : in_ f b p n v j = f j := by
  unfold in_
  rw [va_up_ne _ _ (by omega)]
  unfold sh_
  exact if_neg (by omega)
theorem in_at (f : Nat → Int) (b p n : Nat) (v : Int) : in_ f b p n v (b + p) = v := va_up_self _ _ _
theorem in_hi (f : Nat → Int) (b p n : Nat) (v : Int) {j : Nat} (h : b + p < j) (h2 : j ≤ b + n) : in_ f b p n v j = f (j - 1) := by
  unfold in_
  rw [va_up_ne _ _ (by omega)]
  unfold sh_
  exact if_pos ⟨h, h2⟩
theorem in_out (f : Nat → Int) (b p n : Nat) (v : Int) {j : Nat} (hp : p ≤ n) (h : j < b ∨ b + n < j) : in_ f b p n v j = f j := by
  unfold in_
  rw [va_up_ne _ _ (by omega)]
  unfold sh_
  exact if_neg (by omega)
theorem ins_get {l : List Row_} {r x : Row_} {q : Nat} (h : (r_ins r l)[q]? = some x) : (q < r_pos r l ∧ l[q]? = some x) ∨ (q = r_pos r l ∧ x = r) ∨ (r_pos r l < q ∧ q ≤ l.length ∧ l[q - 1]? = some x) := by
  have hp := r_pos_le r l
  have hlen : q < l.length + 1 := by
    rw [← r_ins_len r l]
    exact (List.getElem?_eq_some_iff.mp h).1
  rw [r_ins_eq] at h
  have ht : (l.take (r_pos r l)).length = r_pos r l := by rw [List.length_take]; omega
  rcases Nat.lt_trichotomy q (r_pos r l) with hq | hq | hq
  · rw [List.getElem?_append_left (by omega), List.getElem?_take_of_lt hq] at h
    exact Or.inl ⟨hq, h⟩
  · rw [List.getElem?_append_right (by omega), ht, hq, Nat.sub_self] at h
    cases h
    exact Or.inr (Or.inl ⟨hq, rfl⟩)
  · rw [List.getElem?_append_right (by omega), ht, show q - r_pos r l = (q - r_pos r l - 1) + 1 by omega, List.getElem?_cons_succ, List.getElem?_drop] at h
    rw [show r_pos r l + (q - r_pos r l - 1) = q - 1 by omega] at h
    exact Or.inr (Or.inr ⟨hq, by omega, h⟩)
/-! bounds of a move -/
theorem mpr_num {A : MT} {b F0 T0 : Int} {y : Nat} {k : MK} (h : mpr_ A b F0 T0 y k) :
    (y ≤ 39 ∧ 0 ≤ k_no k y ∧ k_no k y < 48) ∧ (0 ≤ a_kn A (b + k_no k y).toNat ∧ a_kn A (b + k_no k y).toNat ≤ 10) ∧ (k_aa k y ≠ 0 ∧ -1099511627776 ≤ k_aa k y ∧ k_aa k y ≤ 1099511627776) ∧ (-1099511627776 ≤ k_fr k y ∧ k_fr k y < k_to k y ∧ k_to k y ≤ 1099511627776) ∧ (-1407374883553280 ≤ k_bb k y ∧ k_bb k y ≤ 1407374883553280) ∧ (-5497558138880 ≤ k_bb k y + k_aa k y * k_cy k y ∧ k_bb k y + k_aa k y * k_cy k y ≤ 5497558138880) ∧
    (-2000000000000000 ≤ k_cy k y ∧ k_cy k y ≤ 2000000000000000 ∧ k_cy k y ≤ k_en k y + 1 ∧ k_en k y ≤ 2000000000000000) ∧ (0 ≤ k_sp k y ∧ k_sp k y ≤ 9) ∧ (0 ≤ a_co A (b + k_no k y).toNat ∧ a_co A (b + k_no k y).toNat ≤ 9) ∧ (a_kn A (b + k_no k y).toNat = 0 → 0 ≤ a_on A (b + k_no k y).toNat ∧ a_on A (b + k_no k y).toNat ≤ 65535) ∧
    ((a_kn A (b + k_no k y).toNat = 1 ∨ a_kn A (b + k_no k y).toNat = 2 ∨ a_kn A (b + k_no k y).toNat = 3) → 1 ≤ a_co A (b + k_no k y).toNat) ∧ (k_cy k y ≤ k_en k y → (a_kn A (b + k_no k y).toNat = 1 ∨ a_kn A (b + k_no k y).toNat = 3) → k_sp k y < a_co A (b + k_no k y).toNat) ∧
    ((a_kn A (b + k_no k y).toNat = 4 ∨ a_kn A (b + k_no k y).toNat = 5 ∨ a_kn A (b + k_no k y).toNat = 6 ∨ a_kn A (b + k_no k y).toNat = 8) → 1 ≤ a_on A (b + k_no k y).toNat ∧ a_on A (b + k_no k y).toNat ≤ 9) ∧ ((a_kn A (b + k_no k y).toNat = 6 ∨ a_kn A (b + k_no k y).toNat = 9) → 1 ≤ a_tw A (b + k_no k y).toNat ∧ a_tw A (b + k_no k y).toNat ≤ 9) ∧ (a_kn A (b + k_no k y).toNat = 9 → (0 ≤ a_on A (b + k_no k y).toNat ∧ a_on A (b + k_no k y).toNat ≤ 9) ∧ (0 ≤ a_th A (b + k_no k y).toNat ∧ a_th A (b + k_no k y).toNat ≤ 9)) ∧
    (a_kn A (b + k_no k y).toNat = 8 → a_co A (b + k_no k y).toNat = 2) ∧ ((a_kn A (b + k_no k y).toNat = 4 ∨ a_kn A (b + k_no k y).toNat = 5 ∨ a_kn A (b + k_no k y).toNat = 6 ∨ a_kn A (b + k_no k y).toNat = 7 ∨ a_kn A (b + k_no k y).toNat = 9) → a_co A (b + k_no k y).toNat = 1) ∧
    (∀ j : Nat, (j : Int) < a_co A (b + k_no k y).toNat → 0 ≤ ch_ (a_fi A) (a_ne A) b (k_no k y) j ∧ ch_ (a_fi A) (a_ne A) b (k_no k y) j < 48) ∧
    (-12000000000000 ≤ k_aa k y * k_cy k y + k_bb k y ∧ k_aa k y * k_cy k y + k_bb k y ≤ 12000000000000) := by
  obtain ⟨_, d, T, m, h1, hr, hw, hft, h2, h3, h4, h5, h6⟩ := h
  have hwf := hw.1.1
  have hrg := wf_rng hwf
  have hnr := rep_rng hr
  have hwb := wok_w hw
  have hob := wok_o hw
  have hfb := hw.2.2.2.2.1
  have hw0 := hw.2.1
  have hcn := c0_near (B := 1099511627776) hw.2.1 (by omega) (by omega) hft h2 (by omega)
  have hc0 := c0_le (o := k_bb k y) hw.2.1 hft
  have hen := c0_near (o := k_bb k y) (c := k_en k y + 1) (B := 1099511627776) hw.2.1 (by omega) (by omega) hft (by omega) (by omega)
  have hwc : ∀ z : Int, (-5497558138880 ≤ k_bb k y + k_aa k y * z ∧ k_bb k y + k_aa k y * z ≤ 5497558138880) → -1500000000000000 ≤ z ∧ z ≤ 1500000000000000 := fun z hz => by
    by_cases hp : 0 < k_aa k y
    · exact ab_le (g := k_aa k y) (by omega) (by rw [Int.mul_comm]; omega)
    · refine ab_le (g := -k_aa k y) (by omega) ?_
      rw [Int.mul_neg, Int.mul_comm]
      omega
  have c1 := hwc (k_cy k y) hcn
  have c2 := hwc (k_en k y + 1) hen
  have hch : ∀ j : Nat, (j : Int) < a_co A (b + k_no k y).toNat → 0 ≤ ch_ (a_fi A) (a_ne A) b (k_no k y) j ∧ ch_ (a_fi A) (a_ne A) b (k_no k y) j < 48 := fun j hj => by
    rw [hr.2.2.1] at hj
    obtain ⟨q, hq⟩ := rep_ch hr (List.getElem?_eq_getElem (show j < (tr_cs T).length by omega))
    have := rep_rng hq
    omega
  have hkn := hr.2.1
  have hco := hr.2.2.1
  have hl := hr.2.2.2.1
  have hon := hr.2.2.2.2.1
  have htw := hr.2.2.2.2.2.1
  have hth := hr.2.2.2.2.2.2.1
  have hkc := kf_cases (tr_kd T)
  rw [hkn, hco]
  have hsc : (tr_kd T = 91 ∨ tr_kd T = 123) → sc_ T = ((tr_cs T).length : Int) := fun q => by
    unfold sc_
    rcases q with q | q
    · rw [if_pos (Or.inl q)]
      rcases hwf with g | g | g | g | g | g | g <;> omega
    · rw [if_neg (by omega), if_pos q]
  rw [hco] at hch
  refine ⟨⟨by omega, by omega, by omega⟩, ?_, ⟨hw.2.1, hwb.1, hwb.2⟩, ⟨hfb.1, hft, hfb.2⟩, hob, by omega, ⟨by omega, by omega, h4, by omega⟩, h5, ⟨by omega, by omega⟩, fun q => ?_, fun q => ?_, fun q1 q => ?_, fun q => ?_, fun q => ?_, fun q => ?_, fun q => ?_, fun q => ?_, hch, by omega⟩
  · rcases hwf with g | g | g | g | g | g | g <;> omega
  · rw [hl (by omega)]; omega
  · rcases hwf with g | g | g | g | g | g | g <;> omega
  · rw [← hsc (by omega)]
    exact h6 q1
  · rw [hon (by omega)]
    rcases hwf with g | g | g | g | g | g | g <;> omega
  · rw [htw (by omega)]; omega
  · rw [hon (by omega), hth (by omega)]; omega
  · rcases hwf with g | g | g | g | g | g | g <;> omega
  · rcases hwf with g | g | g | g | g | g | g <;> omega
/-! the same events in a finer unit -/
def sev_ (s : Int) (e : Ev_) : Ev_ := (e.1, s * e.2.1, s * e.2.2.1, s * e.2.2.2.1, s * e.2.2.2.2)
theorem sc_pos {s w : Int} (hs : 0 < s) : 0 < s * w ↔ 0 < w := by
  constructor
  · intro h
    by_cases hw : 0 < w
    · exact hw
    · have := Int.mul_le_mul_of_nonneg_left (show w ≤ 0 by omega) (Int.le_of_lt hs)
      rw [Int.mul_zero] at this
      omega
  · exact fun h => Int.mul_pos hs h
theorem sc_le {s x y : Int} (hs : 0 < s) : s * x ≤ s * y ↔ x ≤ y := by
  constructor
  · intro h
    by_cases hw : x ≤ y
    · exact hw
    · have := Int.mul_lt_mul_of_pos_left (show y < x by omega) hs
      omega
  · exact fun h => Int.mul_le_mul_of_nonneg_left h (Int.le_of_lt hs)
theorem sc_max {s : Int} (hs : 0 < s) (x y : Int) : max (s * x) (s * y) = s * max x y := by
  by_cases h : x ≤ y
  · have := (sc_le hs).mpr h
    rw [Int.max_eq_right h, Int.max_eq_right this]
  · have := (sc_le hs).mpr (show y ≤ x by omega)
    rw [Int.max_eq_left (a := x) (b := y) (by omega), Int.max_eq_left this]
theorem sc_min {s : Int} (hs : 0 < s) (x y : Int) : min (s * x) (s * y) = s * min x y := by
  by_cases h : x ≤ y
  · have := (sc_le hs).mpr h
    rw [Int.min_eq_left h, Int.min_eq_left this]
  · have := (sc_le hs).mpr (show y ≤ x by omega)
    rw [Int.min_eq_right (a := x) (b := y) (by omega), Int.min_eq_right this]
theorem sc_bg {s : Int} (hs : 0 < s) (c w o : Int) : bg_ c (s * w) (s * o) = s * bg_ c w o ∧ en_ c (s * w) (s * o) = s * en_ c w o := by
  have hp := sc_pos (w := w) hs
  unfold bg_ en_
  by_cases h : 0 < w
  · rw [if_pos (hp.mpr h), if_pos h, if_pos (hp.mpr h), if_pos h, Int.mul_assoc, Int.mul_assoc, ← Int.mul_add, ← Int.mul_add]
    exact ⟨rfl, rfl⟩
  · rw [if_neg (fun q => h (hp.mp q)), if_neg h, if_neg (fun q => h (hp.mp q)), if_neg h, Int.mul_assoc, Int.mul_assoc, ← Int.mul_add, ← Int.mul_add]
    exact ⟨rfl, rfl⟩
theorem sc_m1 {s x : Int} (hs : 0 < s) : (s * x - 1) / s = x - 1 := by
  have e : s * x - 1 = (s - 1) + s * (x - 1) := by rw [Int.mul_sub, Int.mul_one]; omega
  rw [e, Int.add_mul_ediv_left _ _ (by omega), Int.ediv_eq_zero_of_lt (by omega) (by omega), Int.zero_add]
theorem sc_cy {s : Int} (hs : 0 < s) (w o f t : Int) : cy_first (s * w) (s * o) (s * f) (s * t) = cy_first w o f t ∧ cy_last (s * w) (s * o) (s * f) (s * t) = cy_last w o f t := by
  have hp := sc_pos (w := w) hs
  have e1 : s * f - s * o = s * (f - o) := (Int.mul_sub _ _ _).symm
  have e2 : s * t - 1 - s * o = s * (t - o) - 1 := by rw [Int.mul_sub]; omega
  have e3 : s * o - s * t = s * (o - t) := (Int.mul_sub _ _ _).symm
  have e4 : s * o - 1 - s * f = s * (o - f) - 1 := by rw [Int.mul_sub]; omega
  have e5 : -(s * w) = s * -w := (Int.mul_neg _ _).symm
  unfold cy_first cy_last
  by_cases h : 0 < w
  · rw [if_pos (hp.mpr h), if_pos h, if_pos (hp.mpr h), if_pos h, e1, e2, Int.mul_ediv_mul_of_pos _ _ hs]
    refine ⟨rfl, ?_⟩
    rw [← Int.ediv_ediv_of_nonneg (by omega), sc_m1 hs]
    congr 1
    omega
  · rw [if_neg (fun q => h (hp.mp q)), if_neg h, if_neg (fun q => h (hp.mp q)), if_neg h, e3, e4, e5, Int.mul_ediv_mul_of_pos _ _ hs]
    refine ⟨rfl, ?_⟩
    rw [← Int.ediv_ediv_of_nonneg (by omega), sc_m1 hs]
    congr 1
    omega
theorem sc_div {s w n : Int} (hn : n ≠ 0) (hd : n ∣ w) : s * w / n = s * (w / n) := by
  obtain ⟨q, rfl⟩ := hd
  rw [Int.mul_ediv_cancel_left _ hn, ← Int.mul_assoc, Int.mul_comm s n, Int.mul_assoc, Int.mul_ediv_cancel_left _ hn]
def dv_ (d : Nat) (T : PT d) (w : Int) : Prop := wf_ d T ∧ gn_ d T ∣ w
theorem dv_div {d : Nat} {T : PT (d + 1)} {w n : Int} (h : dv_ (d + 1) T w) (hn : gn_1 T = n) : n ≠ 0 ∧ n ∣ w ∧ gn_prod ((tr_cs T).map (gn_ d)) ∣ w / n := by
  have hd := h.2
  have hp := (gn_1_pos h.1.1).1
  rw [gn_s, hn] at hd
  obtain ⟨z, hz⟩ := hd
  refine ⟨by omega, ⟨_, by rw [hz, Int.mul_assoc]⟩, ⟨z, ?_⟩⟩
  rw [hz, Int.mul_assoc]
  exact Int.mul_ediv_cancel_left _ (by omega)
theorem dv_w {d : Nat} {T : PT (d + 1)} {w : Int} (h : dv_ (d + 1) T w) : gn_prod ((tr_cs T).map (gn_ d)) ∣ w := Int.dvd_trans ⟨gn_1 T, by rw [gn_s, Int.mul_comm]⟩ h.2
theorem dv_kid {d : Nat} {T : PT (d + 1)} {w q : Int} (h : dv_ (d + 1) T w) {i : Nat} {y : PT d} (hy : (tr_cs T)[i]? = some y) (hq : gn_prod ((tr_cs T).map (gn_ d)) ∣ q) : dv_ d y q := ⟨h.1.2 y (List.mem_of_getElem? hy), Int.dvd_trans (gn_dvd_kid hy) hq⟩
theorem flat_map {α : Type} {F H : α → List Ev_} {s : Int} {l : List α} (h : ∀ a ∈ l, F a = (H a).map (sev_ s)) : l.flatMap F = (l.flatMap H).map (sev_ s) := by
  rw [List.map_flatMap, List.flatMap_def, List.flatMap_def]
  congr 1
  exact List.map_congr_left h
theorem gi_sc {s : Int} (hs : 0 < s) {d : Nat} {x : Option (PT d)} (ih : ∀ (y : PT d) (w o f t : Int), dv_ d y w → gen_ d y (s * w) (s * o) (s * f) (s * t) = (gen_ d y w o f t).map (sev_ s)) {c w o f t : Int} (hd : ∀ y, x = some y → dv_ d y w) : g_into (gen_ d) x c (s * w) (s * o) (s * f) (s * t) = (g_into (gen_ d) x c w o f t).map (sev_ s) := by
  obtain ⟨b1, b2⟩ := sc_bg hs c w o
  unfold g_into
  cases x with
  | none => rfl
  | some y =>
    show gen_ d y _ _ _ _ = (gen_ d y _ _ _ _).map (sev_ s)
    rw [b1, b2, sc_max hs, sc_min hs]
    exact ih y _ _ _ _ (hd y rfl)
theorem gen_sc {s : Int} (hs : 0 < s) : ∀ (d : Nat) (T : PT d) (w o f t : Int), dv_ d T w → gen_ d T (s * w) (s * o) (s * f) (s * t) = (gen_ d T w o f t).map (sev_ s)
  | 0, _, _, _, _, _, _ => rfl
  | d + 1, T, w, o, f, t, h => by
    have ih := fun y w o f t hd => gen_sc hs d y w o f t hd
    have hwf := h.1.1
    have hrg := wf_rng hwf
    have el : ∀ (i : Nat) (w' o' : Int), (∀ y, (tr_cs T)[i]? = some y → dv_ d y w') → ((tr_cs T)[i]?).elim [] (fun y => gen_ d y (s * w') (s * o') (s * f) (s * t)) = (((tr_cs T)[i]?).elim [] (fun y => gen_ d y w' o' f t)).map (sev_ s) := fun i w' o' hd => by
      cases hy : (tr_cs T)[i]? with
      | none => rfl
      | some y => exact ih y _ _ _ _ (hd y hy)
    rw [gen_s]
    unfold g_step
    by_cases h0 : t ≤ f
    · rw [if_pos h0, if_pos ((sc_le hs).mpr h0)]
      rfl
    · rw [if_neg h0, if_neg (fun q => h0 ((sc_le hs).mp q))]
      by_cases h1 : tr_kd T = 126
      · rw [if_pos h1, if_pos h1]
        rfl
      · rw [if_neg h1, if_neg h1]
        by_cases h2 : tr_kd T = 70
        · obtain ⟨d1, d2, d3⟩ := dv_div h (show gn_1 T = tr_k T by unfold gn_1; rw [if_neg (by omega), if_pos (Or.inl h2)])
          rw [if_pos h2, if_pos h2, sc_div d1 d2]
          exact el 0 _ _ (fun y hy => dv_kid h hy d3)
        · rw [if_neg h2, if_neg h2]
          by_cases h3 : tr_kd T = 83
          · rw [if_pos h3, if_pos h3, Int.mul_assoc]
            exact el 0 _ _ (fun y hy => dv_kid h hy (Int.dvd_trans (dv_w h) ⟨_, rfl⟩))
          · rw [if_neg h3, if_neg h3]
            by_cases h4 : tr_kd T = 76
            · obtain ⟨d1, d2, d3⟩ := dv_div h (show gn_1 T = tr_n T by unfold gn_1; rw [if_neg (by omega), if_neg (by omega), if_pos (Or.inl h4)])
              rw [if_pos h4, if_pos h4, sc_div d1 d2, Int.mul_assoc, ← Int.mul_add]
              exact el 0 _ _ (fun y hy => dv_kid h hy (dv_w h))
            · rw [if_neg h4, if_neg h4]
              by_cases h5 : tr_kd T = 123
              · rw [if_pos h5, if_pos h5]
                exact flat_map (fun y hy => by
                  obtain ⟨i, hi⟩ := List.getElem?_of_mem hy
                  exact ih y _ _ _ _ (dv_kid h hi (dv_w h)))
              · rw [if_neg h5, if_neg h5]
                obtain ⟨c1, c2⟩ := sc_cy hs w o f t
                rw [c1, c2]
                refine flat_map (fun c _ => ?_)
                have hst : (tr_kd T = 91 ∨ tr_kd T = 69) → ∀ (i : Nat) (j : Nat), g_into (gen_ d) (tr_cs T)[j]? c (s * w / tr_n T) (s * o + s * w * c + s * w / tr_n T * ((i : Int) - c)) (s * f) (s * t) = (g_into (gen_ d) (tr_cs T)[j]? c (w / tr_n T) (o + w * c + w / tr_n T * ((i : Int) - c)) f t).map (sev_ s) := fun hk i j => by
                  obtain ⟨d1, d2, d3⟩ := dv_div h (show gn_1 T = tr_n T by
                    unfold gn_1
                    rcases hk with hk | hk
                    · rw [if_pos hk]
                    · rw [if_neg (by omega), if_neg (by omega), if_pos (Or.inr hk)])
                  rw [sc_div d1 d2, Int.mul_assoc, Int.mul_assoc, ← Int.mul_add, ← Int.mul_add]
                  exact gi_sc hs ih (fun y hy => dv_kid h hy d3)
                unfold g_cyc
                by_cases k1 : tr_kd T = 91
                · rw [if_pos k1, if_pos k1]
                  exact flat_map (fun i _ => hst (Or.inl k1) i i)
                · rw [if_neg k1, if_neg k1]
                  by_cases k2 : tr_kd T = 69
                  · rw [if_pos k2, if_pos k2]
                    refine flat_map (fun i _ => ?_)
                    split
                    · exact hst (Or.inr k2) i 0
                    · rfl
                  · rw [if_neg k2, if_neg k2]
                    by_cases k3 : tr_kd T = 60
                    · rw [if_pos k3, if_pos k3, Int.mul_assoc, ← Int.mul_add]
                      exact gi_sc hs ih (fun y hy => dv_kid h hy (dv_w h))
                    · rw [if_neg k3, if_neg k3]
                      by_cases k4 : tr_kd T = 82
                      · rw [if_pos k4, if_pos k4, Int.mul_assoc, ← Int.mul_add, ← Int.mul_neg]
                        exact gi_sc hs ih (fun y hy => dv_kid h hy (Int.dvd_neg.mpr (dv_w h)))
                      · rw [if_neg k4, if_neg k4]
                        by_cases k5 : tr_kd T = 86
                        · rw [if_pos k5, if_pos k5]
                          refine gi_sc hs ih (fun y hy => ?_)
                          split at hy
                          · exact dv_kid h hy (dv_w h)
                          · exact dv_kid h hy (dv_w h)
                        · rw [if_neg k5, if_neg k5]
                          obtain ⟨b1, b2⟩ := sc_bg hs c w o
                          rw [b1, b2]
                          rfl
/-- the rows -/
def srow_ (s : Int) (r : Row_) : Row_ := (s * r.1, s * r.2.1, s * r.2.2.1, s * r.2.2.2.1, r.2.2.2.2)
theorem sc_lt {s x y : Int} (hs : 0 < s) : s * x < s * y ↔ x < y := by
  have := sc_le (x := y) (y := x) hs
  omega
theorem scl_eq {s x y : Int} (hs : 0 < s) : s * x = s * y ↔ x = y := by
  have h1 := sc_le (x := x) (y := y) hs
  have h2 := sc_le (x := y) (y := x) hs
  omega
theorem srow_lt {s : Int} (hs : 0 < s) (x y : Row_) : r_lt (srow_ s x) (srow_ s y) = r_lt x y := by
  have h1 := sc_lt (x := x.1) (y := y.1) hs
  have h2 := sc_lt (x := x.2.1) (y := y.2.1) hs
  have h3 := sc_lt (x := x.2.2.1) (y := y.2.2.1) hs
  have h4 := sc_lt (x := x.2.2.2.1) (y := y.2.2.2.1) hs
  have g1 := scl_eq (x := x.1) (y := y.1) hs
  have g2 := scl_eq (x := x.2.1) (y := y.2.1) hs
  have g3 := scl_eq (x := x.2.2.1) (y := y.2.2.1) hs
  have g4 := scl_eq (x := x.2.2.2.1) (y := y.2.2.2.1) hs
  have e : r_lt (srow_ s x) (srow_ s y) = true ↔ r_lt x y = true := by
    rw [r_lt_iff, r_lt_iff]
    unfold srow_
    dsimp only
    rw [h1, h2, h3, h4, g1, g2, g3, g4]
  exact Bool.eq_iff_iff.mpr e
theorem srow_ins {s : Int} (hs : 0 < s) (x : Row_) : ∀ l : List Row_, r_ins (srow_ s x) (l.map (srow_ s)) = (r_ins x l).map (srow_ s)
  | [] => rfl
  | y :: l => by
    rw [List.map_cons]
    unfold r_ins
    rw [srow_lt hs, srow_ins hs x l]
    split <;> rfl
theorem srow_add {s : Int} (hs : 0 < s) (lim : Nat) (st : List Row_ × Bool) (r : Row_) : a_add lim (st.1.map (srow_ s), st.2) (srow_ s r) = ((a_add lim st r).1.map (srow_ s), (a_add lim st r).2) := by
  unfold a_add
  dsimp only
  rw [List.length_map]
  split
  · rfl
  · dsimp only
    rw [srow_ins hs]
theorem srow_fold {s : Int} (hs : 0 < s) (lim : Nat) : ∀ (rs : List Row_) (st : List Row_ × Bool), (rs.map (srow_ s)).foldl (a_add lim) (st.1.map (srow_ s), st.2) = (((rs.foldl (a_add lim) st).1).map (srow_ s), (rs.foldl (a_add lim) st).2)
  | [], _ => rfl
  | r :: rs, st => by
    rw [List.map_cons, List.foldl_cons, List.foldl_cons, srow_add hs]
    exact srow_fold hs lim rs (a_add lim st r)
theorem sk_sc {s : Int} (hs : 0 < s) (evs : List Ev_) : (evs.map (sev_ s)).flatMap sk_pa = (evs.flatMap sk_pa).map (srow_ s) := by
  induction evs with
  | nil => rfl
  | cons e evs ih =>
    rw [List.map_cons, List.flatMap_cons, List.flatMap_cons, List.map_append, ih]
    congr 1
    unfold sk_pa sev_ srow_
    dsimp only
    rw [sc_max hs, sc_min hs]
    rfl
theorem run_sc {s : Int} (hs : 0 < s) {d : Nat} {T : PT d} {w o f t : Int} (h : dv_ d T w) : run_ 200 sk_pa (gen_ d T (s * w) (s * o) (s * f) (s * t)) ([], false) = (((run_ 200 sk_pa (gen_ d T w o f t) ([], false)).1).map (srow_ s), (run_ 200 sk_pa (gen_ d T w o f t) ([], false)).2) := by
  rw [gen_sc hs d T w o f t h]
  unfold run_
  rw [sk_sc hs]
  exact srow_fold hs 200 _ ([], false)
/-! bounds of the events -/
def eb_ (e : Ev_) : Prop := (97 ≤ e.1 ∧ e.1 ≤ 122) ∧ (-30000000000000 ≤ e.2.1 ∧ e.2.1 ≤ 30000000000000) ∧ (-30000000000000 ≤ e.2.2.1 ∧ e.2.2.1 ≤ 30000000000000) ∧ e.2.1 < e.2.2.2.2
theorem gen_eb : ∀ (d : Nat) (T : PT d) (w o f t : Int), wok_ d T w o f t → ∀ e ∈ gen_ d T w o f t, eb_ e
  | 0, _, _, _, _, _, _ => fun e he => by cases he
  | d + 1, T, w, o, f, t, h => fun e he => by
    have ih := gen_eb d
    have hwf := h.1.1
    have el : ∀ (i : Nat) (w' o' : Int), (∀ y, (tr_cs T)[i]? = some y → wok_ d y w' o' f t) → e ∈ ((tr_cs T)[i]?).elim [] (fun y => gen_ d y w' o' f t) → eb_ e := fun i w' o' hd he => by
      cases hy : (tr_cs T)[i]? with
      | none => rw [hy] at he; cases he
      | some y => rw [hy] at he; exact ih y _ _ _ _ (hd y hy) e he
    rw [gen_s] at he
    unfold g_step at he
    split at he
    · cases he
    · rename_i hft
      split at he
      · cases he
      · split at he
        · rename_i hk; exact el 0 _ _ (fun y hy => wok_F h hk hy) he
        · split at he
          · rename_i hk; exact el 0 _ _ (fun y hy => wok_S h hk hy) he
          · split at he
            · rename_i hk; exact el 0 _ _ (fun y hy => wok_L h hk hy) he
            · split at he
              · obtain ⟨y, hy, hm⟩ := List.mem_flatMap.mp he
                obtain ⟨i, hi⟩ := List.getElem?_of_mem hy
                exact ih y _ _ _ _ (wok_st h hi) e hm
              · obtain ⟨c, hc, hm⟩ := List.mem_flatMap.mp he
                have hc1 := (cy_mem.mp hc).1
                have hc2 := (cy_mem.mp hc).2
                have hft : f < t := by omega
                have gi : ∀ (x : Option (PT d)) (c' w' o' : Int), (∀ y, x = some y → ∀ f' t' : Int, f ≤ f' → t' ≤ t → wok_ d y w' o' f' t') → e ∈ g_into (gen_ d) x c' w' o' f t → eb_ e := fun x c' w' o' hd he => by
                  unfold g_into at he
                  cases x with
                  | none => cases he
                  | some y => exact ih y _ _ _ _ (hd y rfl _ _ (by omega) (by omega)) e he
                unfold g_cyc at hm
                split at hm
                · rename_i hk
                  obtain ⟨i, hi, hm⟩ := List.mem_flatMap.mp hm
                  have hi := List.mem_range.mp hi
                  exact gi _ _ _ _ (fun y hy f' t' hf ht => (wok_step h hft hc1 hc2 (Or.inl hk) (i := (i : Int)) (by omega)).1 _ y hy f' t' hf ht) hm
                · split at hm
                  · rename_i hk
                    obtain ⟨i, hi, hm⟩ := List.mem_flatMap.mp hm
                    have hi := List.mem_range.mp hi
                    split at hm
                    · exact gi _ _ _ _ (fun y hy f' t' hf ht => (wok_step h hft hc1 hc2 (Or.inr hk) (i := (i : Int)) (by omega)).1 _ y hy f' t' hf ht) hm
                    · cases hm
                  · split at hm
                    · rename_i hk
                      exact gi _ _ _ _ (fun y hy f' t' hf ht => (wok_turn h hft hc1 hc2 (by have := wf_rng hwf; omega)).1 _ y hy f' t' hf ht) hm
                    · split at hm
                      · exact gi _ _ _ _ (fun y hy f' t' hf ht => (wok_back h hft hc1 hc2).1 _ y hy f' t' hf ht) hm
                      · split at hm
                        · refine gi _ _ _ _ (fun y hy f' t' hf ht => ?_) hm
                          split at hy
                          · exact (wok_same h hft hc1 hc2).1 _ y hy f' t' hf ht
                          · exact (wok_same h hft hc1 hc2).1 _ y hy f' t' hf ht
                        · have hb := bg_rng (c := c) (w := w) (o := o) (wok_w h) (wok_same h hft hc1 hc2).2
                          have hin := cy_in h.2.1 hc1 hc2
                          have hw0 := h.2.1
                          cases List.mem_singleton.mp hm
                          refine ⟨?_, hb.1, hb.2, ?_⟩
                          · show 97 ≤ tr_kd T ∧ tr_kd T ≤ 122
                            rcases hwf with g | g | g | g | g | g | g <;> omega
                          · show bg_ c w o < t
                            have e3 : w * (c + 1) = w * c + w := by rw [Int.mul_add, Int.mul_one]
                            unfold bg_
                            split
                            · have := hin.1 (by assumption); omega
                            · have := hin.2 (by omega); rw [e3]; omega
