/-! rows of five numbers, in order by the first, then the second ..; putting one in; a limited number of them -/
abbrev Row_ : Type := Int × Int × Int × Int × Int
def r_lt (x y : Row_) : Bool := decide (x.1 < y.1 ∨ (x.1 = y.1 ∧ (x.2.1 < y.2.1 ∨ (x.2.1 = y.2.1 ∧ (x.2.2.1 < y.2.2.1 ∨ (x.2.2.1 = y.2.2.1 ∧ (x.2.2.2.1 < y.2.2.2.1 ∨ (x.2.2.2.1 = y.2.2.2.1 ∧ x.2.2.2.2 < y.2.2.2.2))))))))
theorem r_lt_iff (x y : Row_) : r_lt x y = true ↔ (x.1 < y.1 ∨ (x.1 = y.1 ∧ (x.2.1 < y.2.1 ∨ (x.2.1 = y.2.1 ∧ (x.2.2.1 < y.2.2.1 ∨ (x.2.2.1 = y.2.2.1 ∧ (x.2.2.2.1 < y.2.2.2.1 ∨ (x.2.2.2.1 = y.2.2.2.1 ∧ x.2.2.2.2 < y.2.2.2.2)))))))) := by
  unfold r_lt
  exact decide_eq_true_iff
theorem r_nlt_iff (x y : Row_) : r_lt x y = false ↔ ¬ (x.1 < y.1 ∨ (x.1 = y.1 ∧ (x.2.1 < y.2.1 ∨ (x.2.1 = y.2.1 ∧ (x.2.2.1 < y.2.2.1 ∨ (x.2.2.1 = y.2.2.1 ∧ (x.2.2.2.1 < y.2.2.2.1 ∨ (x.2.2.2.1 = y.2.2.2.1 ∧ x.2.2.2.2 < y.2.2.2.2)))))))) := by
  unfold r_lt
  exact decide_eq_false_iff_not
/-- x < y and y ≤ z give x < z -/
theorem r_lt_le {x y z : Row_} (h1 : r_lt x y = true) (h2 : r_lt z y = false) : r_lt x z = true := by
  obtain ⟨x1, x2, x3, x4, x5⟩ := x
  obtain ⟨y1, y2, y3, y4, y5⟩ := y
  obtain ⟨z1, z2, z3, z4, z5⟩ := z
  rw [r_lt_iff] at h1 ⊢
  rw [r_nlt_iff] at h2
  dsimp only at h1 h2 ⊢
  omega
theorem r_irr (x : Row_) : r_lt x x = false := by
  rw [r_nlt_iff]
  omega
theorem r_asym {x y : Row_} (h : r_lt x y = true) : r_lt y x = false := by
  obtain ⟨x1, x2, x3, x4, x5⟩ := x
  obtain ⟨y1, y2, y3, y4, y5⟩ := y
  rw [r_lt_iff] at h
  rw [r_nlt_iff]
  dsimp only at h ⊢
  omega
/-- x ≤ y ≤ z -/
theorem r_le_tr {x y z : Row_} (h1 : r_lt y x = false) (h2 : r_lt z y = false) : r_lt z x = false := by
  obtain ⟨x1, x2, x3, x4, x5⟩ := x
  obtain ⟨y1, y2, y3, y4, y5⟩ := y
  obtain ⟨z1, z2, z3, z4, z5⟩ := z
  rw [r_nlt_iff] at h1 h2 ⊢
  dsimp only at h1 h2 ⊢
  omega
def r_ins (x : Row_) : List Row_ → List Row_
  | [] => [x]
  | y :: l => if r_lt x y = true then x :: y :: l else y :: r_ins x l
/-- how many stand ahead of where x comes -/
def r_pos (x : Row_) : List Row_ → Nat
  | [] => 0
  | y :: l => if r_lt x y = true then 0 else r_pos x l + 1
def r_sorted (l : List Row_) : Prop := l.Pairwise (fun a b => r_lt b a = false)
theorem r_pos_le (x : Row_) : ∀ l : List Row_, r_pos x l ≤ l.length
  | [] => Nat.le_refl _
  | y :: l => by
    unfold r_pos
    split
    · exact Nat.zero_le _
    · have := r_pos_le x l
      simp only [List.length_cons]
      omega
theorem r_ins_eq (x : Row_) : ∀ l : List Row_, r_ins x l = l.take (r_pos x l) ++ x :: l.drop (r_pos x l)
  | [] => rfl
  | y :: l => by
    unfold r_ins r_pos
    split
    · rfl
    · rw [r_ins_eq x l]
      rfl
theorem r_ins_len (x : Row_) (l : List Row_) : (r_ins x l).length = l.length + 1 := by
  have h := r_pos_le x l
  rw [r_ins_eq]
  simp only [List.length_append, List.length_cons, List.length_take, List.length_drop]
  omega
/-- in a sorted list, the ones ahead of the place are just those that x isn't before -/
theorem r_pos_lt {x : Row_} : ∀ {l : List Row_}, r_sorted l → ∀ {i : Nat} {y : Row_}, l[i]? = some y → (i < r_pos x l ↔ r_lt x y = false)
  | [], _, i, y, h => by simp at h
  | z :: l, hs, i, y, h => by
    obtain ⟨h1, h2⟩ := List.pairwise_cons.mp hs
    unfold r_pos
    cases i with
    | zero =>
      rw [List.getElem?_cons_zero] at h
      cases h
      split
      · rename_i hz
        simp [hz]
      · rename_i hz
        simp only [Nat.zero_lt_succ, true_iff]
        exact Bool.eq_false_iff.mpr hz
    | succ i =>
      rw [List.getElem?_cons_succ] at h
      split
      · rename_i hz
        have := r_lt_le hz (h1 y (List.mem_of_getElem? h))
        simp [this]
      · have := r_pos_lt (x := x) h2 h
        rw [← this]
        omega
theorem r_ins_sorted {x : Row_} : ∀ {l : List Row_}, r_sorted l → r_sorted (r_ins x l)
  | [], _ => List.pairwise_singleton _ _
  | z :: l, hs => by
    obtain ⟨h1, h2⟩ := List.pairwise_cons.mp hs
    unfold r_ins
    split
    · rename_i hz
      refine List.pairwise_cons.mpr ⟨fun y hy => ?_, hs⟩
      rcases List.mem_cons.mp hy with rfl | hy
      · exact r_asym hz
      · exact r_asym (r_lt_le hz (h1 y hy))
    · rename_i hz
      refine List.pairwise_cons.mpr ⟨fun y hy => ?_, r_ins_sorted h2⟩
      rw [r_ins_eq] at hy
      rcases List.mem_append.mp hy with hy | hy
      · exact h1 y (List.mem_of_mem_take hy)
      · rcases List.mem_cons.mp hy with rfl | hy
        · exact Bool.eq_false_iff.mpr hz
        · exact h1 y (List.mem_of_mem_drop hy)
/-- one more row, where there is room -/
def a_add (lim : Nat) (st : List Row_ × Bool) (r : Row_) : List Row_ × Bool := if lim ≤ st.1.length then (st.1, true) else (r_ins r st.1, st.2)
/-- what holds of a limited list: sorted, not too long, full where there were too many -/
def a_ok (lim : Nat) (st : List Row_ × Bool) : Prop := r_sorted st.1 ∧ st.1.length ≤ lim ∧ (st.2 = true → lim ≤ st.1.length)
theorem a_ok_nil (lim : Nat) : a_ok lim ([], false) := ⟨List.Pairwise.nil, Nat.zero_le _, fun h => by cases h⟩
theorem a_ok_add {lim : Nat} {st : List Row_ × Bool} (h : a_ok lim st) (r : Row_) : a_ok lim (a_add lim st r) := by
  obtain ⟨h1, h2, h3⟩ := h
  unfold a_add
  split
  · rename_i hl
    exact ⟨h1, h2, fun _ => hl⟩
  · rename_i hl
    refine ⟨r_ins_sorted h1, ?_, fun q => absurd (h3 q) hl⟩
    show (r_ins r st.1).length ≤ lim
    rw [r_ins_len]
    omega
theorem a_ok_foldl {lim : Nat} (rs : List Row_) : ∀ {st : List Row_ × Bool}, a_ok lim st → a_ok lim (rs.foldl (a_add lim) st) := by
  induction rs with
  | nil => exact fun h => h
  | cons r rs ih => exact fun h => ih (a_ok_add h r)
/-- once there were too many, nothing changes any more -/
theorem a_full {lim : Nat} (rs : List Row_) {st : List Row_ × Bool} (h : a_ok lim st) (hf : st.2 = true) : rs.foldl (a_add lim) st = st := by
  induction rs with
  | nil => rfl
  | cons r rs ih =>
    have : a_add lim st r = st := by
      obtain ⟨l, b⟩ := st
      have hl := h.2.2 hf
      dsimp only at hf hl
      subst hf
      simp [a_add, hl]
    rw [List.foldl_cons, this, ih]
