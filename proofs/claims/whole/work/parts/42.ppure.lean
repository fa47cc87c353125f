/-! reading: how far it goes, what it gives -/
theorem p_dig_le {tx : Nat → Int} {len : Nat} {low : Int} {at_ : Nat} (h : at_ ≤ len) : at_ ≤ (p_dig tx len low at_).2 ∧ (p_dig tx len low at_).2 ≤ len := by
  unfold p_dig
  split
  · rename_i q
    exact ⟨Nat.le_succ _, q.1⟩
  · exact ⟨Nat.le_refl _, h⟩
theorem p_digs_le {tx : Nat → Int} {len : Nat} {kd : Int} {at_ : Nat} (h : at_ ≤ len) : at_ ≤ (p_digs tx len kd at_).2 ∧ (p_digs tx len kd at_).2 ≤ len := by
  have key : ∀ (low : Int) (a : Nat), a ≤ len → ∀ (o : Option Int) (b : Nat), p_dig tx len low a = (o, b) → a ≤ b ∧ b ≤ len := fun low a ha o b e => by
    have := p_dig_le (tx := tx) (low := low) ha
    rw [e] at this
    exact this
  unfold p_digs
  split
  · rcases e1 : p_dig tx len 1 at_ with ⟨_ | k, a⟩ <;> exact key _ _ h _ _ e1
  · split
    · rcases e1 : p_dig tx len 1 at_ with ⟨_ | k, a⟩
      · exact key _ _ h _ _ e1
      · have k1 := key _ _ h _ _ e1
        dsimp only
        rcases e2 : p_dig tx len 1 a with ⟨_ | n, b⟩ <;> (have k2 := key _ _ k1.2 _ _ e2; exact ⟨Nat.le_trans k1.1 k2.1, k2.2⟩)
    · split
      · rcases e1 : p_dig tx len 0 at_ with ⟨_ | k, a⟩
        · exact key _ _ h _ _ e1
        · have k1 := key _ _ h _ _ e1
          dsimp only
          rcases e2 : p_dig tx len (max 1 k) a with ⟨_ | n, b⟩
          · have k2 := key _ _ k1.2 _ _ e2
            exact ⟨Nat.le_trans k1.1 k2.1, k2.2⟩
          · have k2 := key _ _ k1.2 _ _ e2
            dsimp only
            rcases e3 : p_dig tx len 0 b with ⟨_ | r, c⟩ <;> (have k3 := key _ _ k2.2 _ _ e3; exact ⟨Nat.le_trans k1.1 (Nat.le_trans k2.1 k3.1), k3.2⟩)
      · exact ⟨Nat.le_refl _, h⟩
theorem p_grp_le {d : Nat} {pr : Nat → Option (PT d) × Nat} {tx : Nat → Int} {len : Nat} {cl : Int} (hpr : ∀ a, a ≤ len → a ≤ (pr a).2 ∧ (pr a).2 ≤ len) : ∀ (k : Nat) (acc : List (PT d)) (at_ : Nat), at_ ≤ len → at_ ≤ (p_grp pr tx len cl k acc at_).2 ∧ (p_grp pr tx len cl k acc at_).2 ≤ len
  | 0, acc, at_, h => ⟨Nat.le_refl _, h⟩
  | k + 1, acc, at_, h => by
    unfold p_grp
    split
    · exact ⟨Nat.le_refl _, h⟩
    · have h1 := hpr at_ h
      rcases e1 : pr at_ with ⟨_ | t, a⟩
      · rw [e1] at h1
        exact h1
      · rw [e1] at h1
        have h2 := p_grp_le (tx := tx) (cl := cl) hpr k (acc ++ [t]) a h1.2
        exact ⟨Nat.le_trans h1.1 h2.1, h2.2⟩
theorem p_kids_le {d : Nat} {pr : Nat → Option (PT d) × Nat} {len : Nat} (hpr : ∀ a, a ≤ len → a ≤ (pr a).2 ∧ (pr a).2 ≤ len) : ∀ (k : Nat) (acc : List (PT d)) (at_ : Nat), at_ ≤ len → at_ ≤ (p_kids pr k acc at_).2 ∧ (p_kids pr k acc at_).2 ≤ len
  | 0, acc, at_, h => ⟨Nat.le_refl _, h⟩
  | k + 1, acc, at_, h => by
    unfold p_kids
    have h1 := hpr at_ h
    rcases e1 : pr at_ with ⟨_ | t, a⟩
    · rw [e1] at h1
      exact h1
    · rw [e1] at h1
      have h2 := p_kids_le hpr k (acc ++ [t]) a h1.2
      exact ⟨Nat.le_trans h1.1 h2.1, h2.2⟩
theorem p_is_lt {tx : Nat → Int} {len : Nat} {c : Int} {a : Nat} (h : p_is tx len c a = true) : a < len := by
  unfold p_is at h
  exact (of_decide_eq_true h).1
theorem prs_le (tx : Nat → Int) (len : Nat) : ∀ (d at_ : Nat), at_ ≤ len → at_ ≤ (prs_ tx len d at_).2 ∧ (prs_ tx len d at_).2 ≤ len
  | 0, at_, h => ⟨Nat.le_refl _, h⟩
  | d + 1, at_, h => by
    rw [prs_s]
    unfold p_step
    split
    · exact ⟨Nat.le_refl _, h⟩
    · rename_i hlt
      split
      · have h1 := p_grp_le (tx := tx) (cl := p_close (tx at_)) (prs_le tx len d) 9 [] (at_ + 1) (by omega)
        rcases e1 : p_grp (prs_ tx len d) tx len (p_close (tx at_)) 9 [] (at_ + 1) with ⟨_ | cs, a⟩
        · rw [e1] at h1
          exact ⟨by have := h1.1; dsimp only at this ⊢; omega, h1.2⟩
        · rw [e1] at h1
          dsimp only
          split
          · rename_i q
            have := p_is_lt q
            exact ⟨by have := h1.1; dsimp only at this ⊢; omega, this⟩
          · exact ⟨by have := h1.1; dsimp only at this ⊢; omega, h1.2⟩
      · split
        · have h1 := p_digs_le (tx := tx) (kd := tx at_) (at_ := at_ + 1) (len := len) (by omega)
          rcases e1 : p_digs tx len (tx at_) (at_ + 1) with ⟨_ | ⟨k, n, r⟩, a⟩
          · rw [e1] at h1
            exact ⟨by have := h1.1; dsimp only at this ⊢; omega, h1.2⟩
          · rw [e1] at h1
            have h2 := p_kids_le (prs_le tx len d) (if tx at_ = 86 then 2 else 1) [] a h1.2
            dsimp only
            rcases e2 : p_kids (prs_ tx len d) (if tx at_ = 86 then 2 else 1) [] a with ⟨_ | cs, b⟩ <;> (rw [e2] at h2; exact ⟨by have := h1.1; have := h2.1; dsimp only at *; omega, h2.2⟩)
        · split
          · exact ⟨Nat.le_succ _, by dsimp only; omega⟩
          · exact ⟨Nat.le_refl _, h⟩
/-- what is read is a pattern -/
theorem p_grp_wf {d : Nat} {pr : Nat → Option (PT d) × Nat} {tx : Nat → Int} {len : Nat} {cl : Int} (hpr : ∀ a T b, pr a = (some T, b) → wf_ d T) : ∀ (k : Nat) (acc : List (PT d)) (at_ : Nat) (cs : List (PT d)) (b : Nat), p_grp pr tx len cl k acc at_ = (some cs, b) → (∀ x ∈ acc, wf_ d x) → acc.length + k ≤ 9 → (acc ≠ [] ∨ 0 < k) → (∀ x ∈ cs, wf_ d x) ∧ cs.length ≤ 9 ∧ 1 ≤ cs.length
  | 0, acc, at_, cs, b, e, h1, h2, h3 => by
    cases e
    rcases h3 with h3 | h3
    · exact ⟨h1, by omega, List.length_pos_iff.mpr h3⟩
    · omega
  | k + 1, acc, at_, cs, b, e, h1, h2, h3 => by
    unfold p_grp at e
    split at e
    · rename_i q
      cases e
      exact ⟨h1, by omega, List.length_pos_iff.mpr q.1⟩
    · rcases e1 : pr at_ with ⟨_ | t, a⟩
      · rw [e1] at e
        cases e
      · rw [e1] at e
        refine p_grp_wf hpr k (acc ++ [t]) a cs b e (fun x hx => ?_) (by rw [List.length_append]; show acc.length + 1 + k ≤ 9; omega) (Or.inl (by simp))
        rcases List.mem_append.mp hx with hx | hx
        · exact h1 x hx
        · rw [List.mem_singleton.mp hx]
          exact hpr at_ t a e1
theorem p_kids_wf {d : Nat} {pr : Nat → Option (PT d) × Nat} (hpr : ∀ a T b, pr a = (some T, b) → wf_ d T) : ∀ (k : Nat) (acc : List (PT d)) (at_ : Nat) (cs : List (PT d)) (b : Nat), p_kids pr k acc at_ = (some cs, b) → (∀ x ∈ acc, wf_ d x) → (∀ x ∈ cs, wf_ d x) ∧ cs.length = acc.length + k
  | 0, acc, at_, cs, b, e, h1 => by
    cases e
    exact ⟨h1, rfl⟩
  | k + 1, acc, at_, cs, b, e, h1 => by
    unfold p_kids at e
    rcases e1 : pr at_ with ⟨_ | t, a⟩
    · rw [e1] at e
      cases e
    · rw [e1] at e
      obtain ⟨g1, g2⟩ := p_kids_wf hpr k (acc ++ [t]) a cs b e (fun x hx => by
        rcases List.mem_append.mp hx with hx | hx
        · exact h1 x hx
        · rw [List.mem_singleton.mp hx]
          exact hpr at_ t a e1)
      exact ⟨g1, by rw [g2, List.length_append]; show acc.length + 1 + k = _; omega⟩
theorem p_digs_rng {tx : Nat → Int} {len : Nat} {kd k n r : Int} {at_ b : Nat} (h : p_digs tx len kd at_ = (some (k, n, r), b)) (hk : kd = 70 ∨ kd = 83 ∨ kd = 76 ∨ kd = 82 ∨ kd = 69 ∨ kd = 86) :
    ((kd = 70 ∨ kd = 83 ∨ kd = 86) → 1 ≤ k ∧ k ≤ 9 ∧ n = 1 ∧ r = 0) ∧ (kd = 76 → 1 ≤ k ∧ k ≤ 9 ∧ 1 ≤ n ∧ n ≤ 9 ∧ r = 0) ∧ (kd = 82 → k = 1 ∧ n = 1 ∧ r = 0) ∧ (kd = 69 → 0 ≤ k ∧ k ≤ n ∧ 1 ≤ n ∧ n ≤ 9 ∧ 0 ≤ r ∧ r ≤ 9) := by
  have key : ∀ (low : Int) (a : Nat) (k : Int) (b : Nat), p_dig tx len low a = (some k, b) → low ≤ k ∧ k ≤ 9 := fun low a k b e => by
    have := (p_dig_rng (tx := tx) (len := len) (low := low) (at_ := a)).2.2.2 k (by rw [e])
    exact ⟨this.1, this.2.1⟩
  unfold p_digs at h
  split at h
  · rename_i q
    rcases e1 : p_dig tx len 1 at_ with ⟨_ | k1, a⟩
    · rw [e1] at h
      cases h
    · rw [e1] at h
      cases h
      have := key _ _ _ _ e1
      omega
  · split at h
    · rcases e1 : p_dig tx len 1 at_ with ⟨_ | k1, a⟩
      · rw [e1] at h
        cases h
      · rw [e1] at h
        dsimp only at h
        rcases e2 : p_dig tx len 1 a with ⟨_ | n1, b1⟩
        · rw [e2] at h
          cases h
        · rw [e2] at h
          cases h
          have := key _ _ _ _ e1
          have := key _ _ _ _ e2
          omega
    · split at h
      · rcases e1 : p_dig tx len 0 at_ with ⟨_ | k1, a⟩
        · rw [e1] at h
          cases h
        · rw [e1] at h
          dsimp only at h
          rcases e2 : p_dig tx len (max 1 k1) a with ⟨_ | n1, b1⟩
          · rw [e2] at h
            cases h
          · rw [e2] at h
            dsimp only at h
            rcases e3 : p_dig tx len 0 b1 with ⟨_ | r1, c1⟩
            · rw [e3] at h
              cases h
            · rw [e3] at h
              cases h
              have := key _ _ _ _ e1
              have := key _ _ _ _ e2
              have := key _ _ _ _ e3
              omega
      · cases h
        omega
theorem wf_op {d : Nat} {kd k n r : Int} {cs : List (PT d)} (hk : kd = 70 ∨ kd = 83 ∨ kd = 76 ∨ kd = 82 ∨ kd = 69 ∨ kd = 86) (h1 : (kd = 70 ∨ kd = 83 ∨ kd = 86) → 1 ≤ k ∧ k ≤ 9 ∧ n = 1 ∧ r = 0) (h2 : kd = 76 → 1 ≤ k ∧ k ≤ 9 ∧ 1 ≤ n ∧ n ≤ 9 ∧ r = 0) (h3 : kd = 82 → k = 1 ∧ n = 1 ∧ r = 0) (h4 : kd = 69 → 0 ≤ k ∧ k ≤ n ∧ 1 ≤ n ∧ n ≤ 9 ∧ 0 ≤ r ∧ r ≤ 9) (hl : cs.length = if kd = 86 then 2 else 1) : wf_1 (tr_mk kd k n r cs) := by
  rcases hk with rfl | rfl | rfl | rfl | rfl | rfl
  · obtain ⟨a, b, c, e⟩ := h1 (Or.inl rfl)
    exact Or.inr (Or.inr (Or.inl ⟨Or.inl rfl, a, b, c, e, hl⟩))
  · obtain ⟨a, b, c, e⟩ := h1 (Or.inr (Or.inl rfl))
    exact Or.inr (Or.inr (Or.inl ⟨Or.inr rfl, a, b, c, e, hl⟩))
  · obtain ⟨a, b, c, e, f⟩ := h2 rfl
    exact Or.inr (Or.inr (Or.inr (Or.inl ⟨rfl, a, b, c, e, f, hl⟩)))
  · obtain ⟨a, b, c⟩ := h3 rfl
    exact Or.inr (Or.inr (Or.inr (Or.inr (Or.inl ⟨rfl, a, b, c, hl⟩))))
  · obtain ⟨a, b, c, e, f, g⟩ := h4 rfl
    exact Or.inr (Or.inr (Or.inr (Or.inr (Or.inr (Or.inr ⟨rfl, a, b, c, e, f, g, hl⟩)))))
  · obtain ⟨a, b, c, e⟩ := h1 (Or.inr (Or.inr rfl))
    exact Or.inr (Or.inr (Or.inr (Or.inr (Or.inr (Or.inl ⟨rfl, a, b, c, e, hl⟩)))))
theorem prs_wf (tx : Nat → Int) (len : Nat) : ∀ (d at_ : Nat) (T : PT d) (b : Nat), prs_ tx len d at_ = (some T, b) → wf_ d T
  | 0, at_, T, b, e => by cases e
  | d + 1, at_, T, b, e => by
    rw [prs_s] at e
    unfold p_step at e
    split at e
    · cases e
    · split at e
      · rename_i hk
        rcases e1 : p_grp (prs_ tx len d) tx len (p_close (tx at_)) 9 [] (at_ + 1) with ⟨_ | cs, a⟩
        · rw [e1] at e
          cases e
        · rw [e1] at e
          dsimp only at e
          split at e
          · cases e
            obtain ⟨g1, g2, g3⟩ := p_grp_wf (prs_wf tx len d) 9 [] (at_ + 1) cs a e1 (fun x hx => by cases hx) (by simp) (Or.inr (by decide))
            refine ⟨Or.inr (Or.inl ⟨hk, rfl, rfl, rfl, g3, g2⟩), g1⟩
          · cases e
      · split at e
        · rename_i hk
          rcases e1 : p_digs tx len (tx at_) (at_ + 1) with ⟨_ | ⟨k, n, r⟩, a⟩
          · rw [e1] at e
            cases e
          · rw [e1] at e
            dsimp only at e
            rcases e2 : p_kids (prs_ tx len d) (if tx at_ = 86 then 2 else 1) [] a with ⟨_ | cs, b1⟩
            · rw [e2] at e
              cases e
            · rw [e2] at e
              cases e
              obtain ⟨g1, g2⟩ := p_kids_wf (prs_wf tx len d) _ [] a cs b e2 (fun x hx => by cases hx)
              have hr := p_digs_rng e1 hk
              refine ⟨wf_op hk hr.1 hr.2.1 hr.2.2.1 hr.2.2.2 ?_, g1⟩
              rw [g2]
              exact Nat.zero_add _
        · split at e
          · rename_i hk
            cases e
            exact ⟨Or.inl ⟨hk, rfl, rfl, rfl, rfl⟩, fun c hc => by cases hc⟩
          · cases e
/-- the grain as the program multiplies it -/
def gf_ : (d : Nat) → PT d → Int → Int
  | 0 => fun _ g => g
  | d + 1 => fun T g => if tr_kd T = 91 then gc_ ((tr_cs T).foldl (fun g c => gf_ d c g) g) (tr_n T) else (tr_cs T).foldl (fun g c => gf_ d c g) (gc_ g (gn_1 T))
theorem gf_s {d : Nat} (T : PT (d + 1)) (g : Int) : gf_ (d + 1) T g = if tr_kd T = 91 then gc_ ((tr_cs T).foldl (fun g c => gf_ d c g) g) (tr_n T) else (tr_cs T).foldl (fun g c => gf_ d c g) (gc_ g (gn_1 T)) := rfl
