/-! patterns as trees of bounded depth; their events in a span -/
def PT : Nat → Type
  | 0 => Unit
  | d + 1 => (Int × Int × Int × Int) × List (PT d)
def tr_h {d : Nat} (t : PT (d + 1)) : Int × Int × Int × Int := Prod.fst (β := List (PT d)) t
def tr_cs {d : Nat} (t : PT (d + 1)) : List (PT d) := Prod.snd (α := Int × Int × Int × Int) t
/-- the sign -/
def tr_kd {d : Nat} (t : PT (d + 1)) : Int := (tr_h t).1
def tr_k {d : Nat} (t : PT (d + 1)) : Int := (tr_h t).2.1
def tr_n {d : Nat} (t : PT (d + 1)) : Int := (tr_h t).2.2.1
def tr_r {d : Nat} (t : PT (d + 1)) : Int := (tr_h t).2.2.2
def tr_mk {d : Nat} (kd k n r : Int) (cs : List (PT d)) : PT (d + 1) := ((kd, k, n, r), cs)
theorem tr_mk_kd {d : Nat} (kd k n r : Int) (cs : List (PT d)) : tr_kd (tr_mk kd k n r cs) = kd := rfl
theorem tr_mk_k {d : Nat} (kd k n r : Int) (cs : List (PT d)) : tr_k (tr_mk kd k n r cs) = k := rfl
theorem tr_mk_n {d : Nat} (kd k n r : Int) (cs : List (PT d)) : tr_n (tr_mk kd k n r cs) = n := rfl
theorem tr_mk_r {d : Nat} (kd k n r : Int) (cs : List (PT d)) : tr_r (tr_mk kd k n r cs) = r := rfl
theorem tr_mk_cs {d : Nat} (kd k n r : Int) (cs : List (PT d)) : tr_cs (tr_mk kd k n r cs) = cs := rfl
/-- letter, begin and end of the whole, the span that it is cut to -/
abbrev Ev_ : Type := Int × Int × Int × Int × Int
/-- where cycle c begins and ends, when time t comes at o + t w -/
def bg_ (c w o : Int) : Int := o + w * (if 0 < w then c else c + 1)
def en_ (c w o : Int) : Int := o + w * (if 0 < w then c + 1 else c)
def cy_first (w o f t : Int) : Int := if 0 < w then (f - o) / w else (o - t) / (-w)
def cy_last (w o f t : Int) : Int := if 0 < w then (t - 1 - o) / w else (o - 1 - f) / (-w)
def cy_range (a b : Int) : List Int := (List.range (b - a + 1).toNat).map (fun (i : Nat) => a + (i : Int))
/-- one cycle of an inner pattern, with the span cut to it -/
def g_into {d : Nat} (g : PT d → Int → Int → Int → Int → List Ev_) (x : Option (PT d)) (c w o f t : Int) : List Ev_ :=
  x.elim [] (fun y => g y w o (max f (bg_ c w o)) (min t (en_ c w o)))
def g_cyc {d : Nat} (g : PT d → Int → Int → Int → Int → List Ev_) (T : PT (d + 1)) (w o f t c : Int) : List Ev_ :=
  if tr_kd T = 91 then (List.range (tr_n T).toNat).flatMap (fun (i : Nat) => g_into g (tr_cs T)[i]? c (w / tr_n T) (o + w * c + w / tr_n T * ((i : Int) - c)) f t)
  else if tr_kd T = 69 then (List.range (tr_n T).toNat).flatMap (fun (i : Nat) => if ((i : Int) + tr_r T) * tr_k T % tr_n T < tr_k T then g_into g (tr_cs T)[0]? c (w / tr_n T) (o + w * c + w / tr_n T * ((i : Int) - c)) f t else [])
  else if tr_kd T = 60 then g_into g (tr_cs T)[(c % tr_n T).toNat]? (c / tr_n T) w (o + w * (c - c / tr_n T)) f t
  else if tr_kd T = 82 then g_into g (tr_cs T)[0]? c (-w) (o + w * (2 * c + 1)) f t
  else if tr_kd T = 86 then g_into g (if c % tr_k T = 0 then (tr_cs T)[0]? else (tr_cs T)[1]?) c w o f t
  else [(tr_kd T, bg_ c w o, en_ c w o, f, t)]
def g_step {d : Nat} (g : PT d → Int → Int → Int → Int → List Ev_) (T : PT (d + 1)) (w o f t : Int) : List Ev_ :=
  if t ≤ f then []
  else if tr_kd T = 126 then []
  else if tr_kd T = 70 then ((tr_cs T)[0]?).elim [] (fun y => g y (w / tr_k T) o f t)
  else if tr_kd T = 83 then ((tr_cs T)[0]?).elim [] (fun y => g y (w * tr_k T) o f t)
  else if tr_kd T = 76 then ((tr_cs T)[0]?).elim [] (fun y => g y w (o + w / tr_n T * tr_k T) f t)
  else if tr_kd T = 123 then (tr_cs T).flatMap (fun y => g y w o f t)
  else (cy_range (cy_first w o f t) (cy_last w o f t)).flatMap (g_cyc g T w o f t)
/-- the events of a pattern whose time t comes at o + t w, in the span from f to t -/
def gen_ : (d : Nat) → PT d → Int → Int → Int → Int → List Ev_
  | 0 => fun _ _ _ _ _ => []
  | d + 1 => g_step (gen_ d)
theorem gen_s (d : Nat) : gen_ (d + 1) = g_step (gen_ d) := rfl
def is_letter (c : Int) : Bool := decide (97 ≤ c ∧ c ≤ 122)
/-- whether it can have events, as the program keeps it -/
def can_ : (d : Nat) → PT d → Bool
  | 0 => fun _ => false
  | d + 1 => fun T => (is_letter (tr_kd T) || (tr_cs T).any (can_ d)) && decide (0 < tr_k T) && decide (0 < tr_n T)
/-- whether a letter is in it that can sound -/
def has_ {d : Nat} (T : PT (d + 1)) : Bool := is_letter (tr_kd T) || (tr_cs T).any (can_ d)
theorem can_s {d : Nat} (T : PT (d + 1)) : can_ (d + 1) T = (has_ T && decide (0 < tr_k T) && decide (0 < tr_n T)) := rfl
/-- a node as it can be read -/
def wf_1 {d : Nat} (T : PT (d + 1)) : Prop :=
  ((tr_kd T = 126 ∨ (97 ≤ tr_kd T ∧ tr_kd T ≤ 122)) ∧ tr_k T = 1 ∧ tr_n T = 1 ∧ tr_r T = 0 ∧ (tr_cs T).length = 0) ∨
  ((tr_kd T = 91 ∨ tr_kd T = 60 ∨ tr_kd T = 123) ∧ tr_k T = 1 ∧ tr_n T = (tr_cs T).length ∧ tr_r T = 0 ∧ 1 ≤ (tr_cs T).length ∧ (tr_cs T).length ≤ 9) ∨
  ((tr_kd T = 70 ∨ tr_kd T = 83) ∧ 1 ≤ tr_k T ∧ tr_k T ≤ 9 ∧ tr_n T = 1 ∧ tr_r T = 0 ∧ (tr_cs T).length = 1) ∨
  (tr_kd T = 76 ∧ 1 ≤ tr_k T ∧ tr_k T ≤ 9 ∧ 1 ≤ tr_n T ∧ tr_n T ≤ 9 ∧ tr_r T = 0 ∧ (tr_cs T).length = 1) ∨
  (tr_kd T = 82 ∧ tr_k T = 1 ∧ tr_n T = 1 ∧ tr_r T = 0 ∧ (tr_cs T).length = 1) ∨
  (tr_kd T = 86 ∧ 1 ≤ tr_k T ∧ tr_k T ≤ 9 ∧ tr_n T = 1 ∧ tr_r T = 0 ∧ (tr_cs T).length = 2) ∨
  (tr_kd T = 69 ∧ 0 ≤ tr_k T ∧ tr_k T ≤ tr_n T ∧ 1 ≤ tr_n T ∧ tr_n T ≤ 9 ∧ 0 ≤ tr_r T ∧ tr_r T ≤ 9 ∧ (tr_cs T).length = 1)
def wf_ : (d : Nat) → PT d → Prop
  | 0 => fun _ => False
  | d + 1 => fun T => wf_1 T ∧ ∀ c ∈ tr_cs T, wf_ d c
theorem wf_s {d : Nat} (T : PT (d + 1)) : wf_ (d + 1) T ↔ (wf_1 T ∧ ∀ c ∈ tr_cs T, wf_ d c) := Iff.rfl
/-- the grain -/
def gn_1 {d : Nat} (T : PT (d + 1)) : Int := if tr_kd T = 91 then tr_n T else if tr_kd T = 70 ∨ tr_kd T = 83 then tr_k T else if tr_kd T = 76 ∨ tr_kd T = 69 then tr_n T else 1
def gn_prod (l : List Int) : Int := l.foldr (fun x y => x * y) 1
def gn_ : (d : Nat) → PT d → Int
  | 0 => fun _ => 1
  | d + 1 => fun T => gn_1 T * gn_prod ((tr_cs T).map (gn_ d))
theorem gn_s {d : Nat} (T : PT (d + 1)) : gn_ (d + 1) T = gn_1 T * gn_prod ((tr_cs T).map (gn_ d)) := rfl
theorem gn_prod_dvd : ∀ {l : List Int} {x : Int}, x ∈ l → x ∣ gn_prod l
  | y :: l, x, h => by
    unfold gn_prod
    rw [List.foldr_cons]
    rcases List.mem_cons.mp h with rfl | h
    · exact ⟨_, rfl⟩
    · obtain ⟨z, hz⟩ := gn_prod_dvd h
      unfold gn_prod at hz
      rw [hz]
      exact ⟨y * z, by rw [← Int.mul_assoc, ← Int.mul_assoc, Int.mul_comm y x]⟩
theorem gn_1_pos {d : Nat} {T : PT (d + 1)} (h : wf_1 T) : 1 ≤ gn_1 T ∧ gn_1 T ≤ 9 := by
  unfold gn_1
  rcases h with h | h | h | h | h | h | h
  all_goals (repeat' split) <;> omega
theorem gn_prod_pos : ∀ {l : List Int}, (∀ x ∈ l, 1 ≤ x) → 1 ≤ gn_prod l
  | [], _ => by decide
  | y :: l, h => by
    have h1 := h y List.mem_cons_self
    have h2 := gn_prod_pos (fun x hx => h x (List.mem_cons_of_mem _ hx))
    show 1 ≤ y * gn_prod l
    have := Int.mul_le_mul h1 h2 (by decide) (by omega)
    omega
theorem gn_pos : ∀ {d : Nat} {T : PT d}, wf_ d T → 1 ≤ gn_ d T
  | 0, _, h => h.elim
  | d + 1, T, h => by
    rw [gn_s]
    have h1 := (gn_1_pos h.1).1
    have h2 : 1 ≤ gn_prod ((tr_cs T).map (gn_ d)) := gn_prod_pos (fun x hx => by
      obtain ⟨c, hc, rfl⟩ := List.mem_map.mp hx
      exact gn_pos (h.2 c hc))
    have := Int.mul_le_mul h1 h2 (by decide) (by omega)
    omega
theorem cy_cons {a b : Int} (h : a ≤ b) : cy_range a b = a :: cy_range (a + 1) b := by
  unfold cy_range
  have e : (b - a + 1).toNat = (b - (a + 1) + 1).toNat + 1 := by omega
  rw [e, List.range_succ_eq_map, List.map_cons, List.map_map]
  congr 1
  · omega
  · apply List.map_congr_left
    intro i _
    simp only [Function.comp]
    omega
theorem cy_nil {a b : Int} (h : b < a) : cy_range a b = [] := by
  unfold cy_range
  have e : (b - a + 1).toNat = 0 := by omega
  rw [e]
  rfl
theorem cy_mem {a b c : Int} : c ∈ cy_range a b ↔ a ≤ c ∧ c ≤ b := by
  unfold cy_range
  rw [List.mem_map]
  constructor
  · rintro ⟨i, hi, rfl⟩
    have := List.mem_range.mp hi
    omega
  · intro h
    have h1 : (c - a).toNat < (b - a + 1).toNat := by omega
    have h2 : a + (((c - a).toNat : Nat) : Int) = c := by omega
    exact ⟨(c - a).toNat, List.mem_range.mpr h1, h2⟩
/-- cycles ahead of the first that meets the span give nothing -/
theorem cy_wide {α : Type} (F : Int → List α) {a b : Int} : ∀ (n : Nat) (a' : Int), a' ≤ a → (a - a').toNat = n → (∀ c, a' ≤ c → c < a → F c = []) → (cy_range a' b).flatMap F = (cy_range a b).flatMap F
  | 0, a', h1, h2, _ => by
    have : a' = a := by omega
    rw [this]
  | n + 1, a', h1, h2, h3 => by
    have ih := cy_wide F (a := a) (b := b) n (a' + 1) (by omega) (by omega) (fun c h4 h5 => h3 c (by omega) h5)
    by_cases hb : a' ≤ b
    · rw [cy_cons hb, List.flatMap_cons, h3 a' (by omega) (by omega), List.nil_append, ih]
    · rw [cy_nil (by omega), cy_nil (a := a) (by omega)]
theorem g_into_nil {d : Nat} {g : PT d → Int → Int → Int → Int → List Ev_} {x : Option (PT d)} (h : ∀ y, x = some y → ∀ w o f t : Int, g y w o f t = []) (c w o f t : Int) : g_into g x c w o f t = [] := by
  unfold g_into
  cases x with
  | none => rfl
  | some y => exact h y rfl _ _ _ _
theorem g_flat_nil {α β : Type} {l : List α} {F : α → List β} (h : ∀ a ∈ l, F a = []) : l.flatMap F = [] := List.flatMap_eq_nil_iff.mpr h
/-- a pattern without a letter that can sound has no events -/
theorem gen_silent : ∀ {d : Nat} {T : PT d}, wf_ d T → can_ d T = false → ∀ w o f t : Int, gen_ d T w o f t = []
  | 0, _, _, _, _, _, _, _ => rfl
  | d + 1, T, hw, hc, w, o, f, t => by
    obtain ⟨h1, h2⟩ := hw
    rw [can_s] at hc
    have hcase : has_ T = false ∨ (tr_kd T = 69 ∧ tr_k T = 0) := by
      cases hh : has_ T with
      | false => exact Or.inl rfl
      | true =>
        right
        rw [hh, Bool.true_and, Bool.and_eq_false_iff, decide_eq_false_iff_not, decide_eq_false_iff_not] at hc
        rcases h1 with h | h | h | h | h | h | h <;> omega
    rw [gen_s]
    unfold g_step
    rcases hcase with hc | ⟨hk, hz⟩
    · have hl : is_letter (tr_kd T) = false ∧ ∀ c ∈ tr_cs T, can_ d c = false := by
        unfold has_ at hc
        rw [Bool.or_eq_false_iff] at hc
        refine ⟨hc.1, fun c hcm => ?_⟩
        have := List.any_eq_false.mp hc.2 c hcm
        simpa using this
      have hs : ∀ c ∈ tr_cs T, ∀ w o f t : Int, gen_ d c w o f t = [] := fun c hcm => gen_silent (h2 c hcm) (hl.2 c hcm)
      have hi : ∀ (i : Nat) (y : PT d), (tr_cs T)[i]? = some y → ∀ w o f t : Int, gen_ d y w o f t = [] := fun i y hy => hs y (List.mem_of_getElem? hy)
      have he : ∀ (i : Nat) (w o f t : Int), ((tr_cs T)[i]?).elim [] (fun y => gen_ d y w o f t) = [] := fun i w o f t => by
        cases hy : (tr_cs T)[i]? with
        | none => rfl
        | some y => exact hi i y hy _ _ _ _
      split
      · rfl
      · split
        · rfl
        · split
          · exact he 0 _ _ _ _
          · split
            · exact he 0 _ _ _ _
            · split
              · exact he 0 _ _ _ _
              · split
                · exact g_flat_nil (fun c hcm => hs c hcm _ _ _ _)
                · refine g_flat_nil (fun c _ => ?_)
                  unfold g_cyc
                  split
                  · exact g_flat_nil (fun i _ => g_into_nil (hi i) _ _ _ _ _)
                  · split
                    · refine g_flat_nil (fun i _ => ?_)
                      split
                      · exact g_into_nil (hi 0) _ _ _ _ _
                      · rfl
                    · split
                      · exact g_into_nil (hi _) _ _ _ _ _
                      · split
                        · exact g_into_nil (hi 0) _ _ _ _ _
                        · split
                          · refine g_into_nil (fun y hy => ?_) _ _ _ _ _
                            split at hy
                            · exact hi 0 y hy
                            · exact hi 1 y hy
                          · exfalso
                            have h3 : ¬ (97 ≤ tr_kd T ∧ tr_kd T ≤ 122) := by simpa [is_letter] using hl.1
                            rcases h1 with h | h | h | h | h | h | h <;> omega
    · split
      · rfl
      · rw [if_neg (by omega), if_neg (by omega), if_neg (by omega), if_neg (by omega), if_neg (by omega)]
        refine g_flat_nil (fun c _ => ?_)
        unfold g_cyc
        rw [if_neg (by omega), if_pos hk]
        refine g_flat_nil (fun i _ => ?_)
        rw [if_neg]
        rw [hz]
        have : ((i : Int) + tr_r T) * 0 % tr_n T = 0 := by simp
        omega
