/-! the model's rows: putting one in -/
theorem sh_st {f : Nat → Int} {b p n X Y : Nat} (hX : X = b + p + 1) (hY : Y = b + p) (h : p + 1 ≤ n) : va_up (sh_ f b (p + 1) n) X (sh_ f b (p + 1) n Y) = sh_ f b p n := by
  rw [hX, hY, sh_at]
  exact sh_s f b p n h
theorem sh_or (f : Nat → Int) (b p n j : Nat) : ∃ i : Nat, sh_ f b p n j = f i ∧ (i = j - 1 ∨ i = j) ∧ ∀ g : Nat → Int, sh_ g b p n j = g i := by
  unfold sh_
  by_cases h : b + p < j ∧ j ≤ b + n
  · exact ⟨j - 1, if_pos h, Or.inl rfl, fun g => if_pos h⟩
  · exact ⟨j, if_neg h, Or.inr rfl, fun g => if_neg h⟩
theorem rbd_sh {be so wh we le : Nat → Int} (h : rbd_ be so wh we le) (b p n : Nat) : rbd_ (sh_ be b p n) (sh_ so b p n) (sh_ wh b p n) (sh_ we b p n) (sh_ le b p n) := fun j => by
  obtain ⟨i, e, _, eg⟩ := sh_or be b p n j
  rw [eg, eg, eg, eg, eg]
  exact h i
theorem dbd_sh {dt ds dm de dl : Nat → Int} (h : dbd_ dt ds dm de dl) (b p n : Nat) : dbd_ (sh_ dt b p n) (sh_ ds b p n) (sh_ dm b p n) (sh_ de b p n) (sh_ dl b p n) := fun j => by
  obtain ⟨i, e, _, eg⟩ := sh_or dt b p n j
  rw [eg, eg, eg, eg, eg]
  exact h i
/-- the model's list li -/
def mrr_ (li : Nat) (be so wh we le mn mu : Nat → Int) (st : List Row_ × Bool) : Prop := mn li = (st.1.length : Int) ∧ mu li = b2_ st.2 ∧ mr_ (201 * li) be wh so we le st.1 ∧ a_ok 200 st ∧ rbd_ be so wh we le
/-- the other lists stay -/
def mkp_ (li : Nat) (be so wh we le mn mu be' so' wh' we' le' mn' mu' : Nat → Int) : Prop := (∀ j : Nat, (j < 201 * li ∨ 201 * li + 201 ≤ j) → be' j = be j ∧ so' j = so j ∧ wh' j = wh j ∧ we' j = we j ∧ le' j = le j) ∧ ∀ j : Nat, j ≠ li → mn' j = mn j ∧ mu' j = mu j
theorem mkp_refl (li : Nat) (be so wh we le mn mu : Nat → Int) : mkp_ li be so wh we le mn mu be so wh we le mn mu := ⟨fun _ _ => ⟨rfl, rfl, rfl, rfl, rfl⟩, fun _ _ => ⟨rfl, rfl⟩⟩
theorem mkp_tr {li : Nat} {be so wh we le mn mu be1 so1 wh1 we1 le1 mn1 mu1 be2 so2 wh2 we2 le2 mn2 mu2 : Nat → Int} (h1 : mkp_ li be so wh we le mn mu be1 so1 wh1 we1 le1 mn1 mu1) (h2 : mkp_ li be1 so1 wh1 we1 le1 mn1 mu1 be2 so2 wh2 we2 le2 mn2 mu2) : mkp_ li be so wh we le mn mu be2 so2 wh2 we2 le2 mn2 mu2 := by
  refine ⟨fun j hj => ?_, fun j hj => ?_⟩
  · obtain ⟨a1, a2, a3, a4, a5⟩ := h1.1 j hj
    obtain ⟨b1, b2, b3, b4, b5⟩ := h2.1 j hj
    exact ⟨b1.trans a1, b2.trans a2, b3.trans a3, b4.trans a4, b5.trans a5⟩
  · obtain ⟨a1, a2⟩ := h1.2 j hj
    obtain ⟨b1, b2⟩ := h2.2 j hj
    exact ⟨b1.trans a1, b2.trans a2⟩
theorem mrr_full {li : Nat} {be so wh we le mn mu : Nat → Int} {st : List Row_ × Bool} (h : mrr_ li be so wh we le mn mu st) (hf : 200 ≤ st.1.length) (r : Row_) : mrr_ li be so wh we le mn (va_up mu li 1) (a_add 200 st r) ∧ mkp_ li be so wh we le mn mu be so wh we le mn (va_up mu li 1) := by
  obtain ⟨h1, h2, h3, h4, h5⟩ := h
  have h6 := a_ok_add h4 r
  have e : a_add 200 st r = (st.1, true) := by unfold a_add; rw [if_pos hf]
  rw [e] at h6 ⊢
  exact ⟨⟨h1, va_up_self _ _ _, h3, h6, h5⟩, ⟨fun _ _ => ⟨rfl, rfl, rfl, rfl, rfl⟩, fun j hj => ⟨rfl, va_up_ne _ _ hj⟩⟩⟩
theorem in_or (f : Nat → Int) (b p n : Nat) (v : Int) (j : Nat) : (j = b + p ∧ in_ f b p n v j = v) ∨ (j ≠ b + p ∧ in_ f b p n v j = sh_ f b p n j) := by
  by_cases h : j = b + p
  · subst h
    exact Or.inl ⟨rfl, in_at f b p n v⟩
  · exact Or.inr ⟨h, va_up_ne _ _ h⟩
theorem mrr_ins {li : Nat} {be so wh we le mn mu : Nat → Int} {st : List Row_ × Bool} (h : mrr_ li be so wh we le mn mu st) (hf : st.1.length < 200) (r : Row_) (hrv : (-1000000000000000 ≤ r.1 ∧ r.1 ≤ 1000000000000000) ∧ (-1000000000000000 ≤ r.2.1 ∧ r.2.1 ≤ 1000000000000000) ∧ (-1000000000000000 ≤ r.2.2.1 ∧ r.2.2.1 ≤ 1000000000000000) ∧ (-1000000000000000 ≤ r.2.2.2.1 ∧ r.2.2.2.1 ≤ 1000000000000000) ∧ (0 ≤ r.2.2.2.2 ∧ r.2.2.2.2 ≤ 65535)) :
    mrr_ li (in_ be (201 * li) (r_pos r st.1) st.1.length r.1) (in_ so (201 * li) (r_pos r st.1) st.1.length r.2.2.1) (in_ wh (201 * li) (r_pos r st.1) st.1.length r.2.1) (in_ we (201 * li) (r_pos r st.1) st.1.length r.2.2.2.1) (in_ le (201 * li) (r_pos r st.1) st.1.length r.2.2.2.2) (va_up mn li ((st.1.length : Int) + 1)) mu (a_add 200 st r) ∧
    mkp_ li be so wh we le mn mu (in_ be (201 * li) (r_pos r st.1) st.1.length r.1) (in_ so (201 * li) (r_pos r st.1) st.1.length r.2.2.1) (in_ wh (201 * li) (r_pos r st.1) st.1.length r.2.1) (in_ we (201 * li) (r_pos r st.1) st.1.length r.2.2.2.1) (in_ le (201 * li) (r_pos r st.1) st.1.length r.2.2.2.2) (va_up mn li ((st.1.length : Int) + 1)) mu := by
  obtain ⟨h1, h2, h3, h4, h5⟩ := h
  have h6 := a_ok_add h4 r
  have hp := r_pos_le r st.1
  have e : a_add 200 st r = (r_ins r st.1, st.2) := by unfold a_add; rw [if_neg (by omega)]
  rw [e] at h6 ⊢
  refine ⟨⟨?_, h2, fun q x hx => ?_, h6, fun j => ?_⟩, ⟨fun j hj => ?_, fun j hj => ⟨va_up_ne _ _ hj, rfl⟩⟩⟩
  · rw [va_up_self]
    show _ = ((r_ins r st.1).length : Int)
    rw [r_ins_len]
    omega
  · rcases ins_get hx with ⟨q1, q2⟩ | ⟨q1, q2⟩ | ⟨q1, q2, q3⟩
    · rw [in_lo _ _ _ _ _ (by omega), in_lo _ _ _ _ _ (by omega), in_lo _ _ _ _ _ (by omega), in_lo _ _ _ _ _ (by omega), in_lo _ _ _ _ _ (by omega)]
      exact h3 q x q2
    · subst q1
      rw [in_at, in_at, in_at, in_at, in_at, q2]
    · rw [in_hi _ _ _ _ _ (by omega) (by omega), in_hi _ _ _ _ _ (by omega) (by omega), in_hi _ _ _ _ _ (by omega) (by omega), in_hi _ _ _ _ _ (by omega) (by omega), in_hi _ _ _ _ _ (by omega) (by omega), show 201 * li + q - 1 = 201 * li + (q - 1) by omega]
      exact h3 (q - 1) x q3
  · have hs := rbd_sh h5 (201 * li) (r_pos r st.1) st.1.length j
    rcases in_or be (201 * li) (r_pos r st.1) st.1.length r.1 j with ⟨hj, _⟩ | ⟨hj, _⟩
    · subst hj
      rw [in_at, in_at, in_at, in_at, in_at]
      exact ⟨hrv.1, hrv.2.2.1, hrv.2.1, hrv.2.2.2.1, hrv.2.2.2.2⟩
    · have eg : ∀ (f : Nat → Int) (v : Int), in_ f (201 * li) (r_pos r st.1) st.1.length v j = sh_ f (201 * li) (r_pos r st.1) st.1.length j := fun f v => va_up_ne _ _ hj
      rw [eg, eg, eg, eg, eg]
      exact hs
  · have eo : ∀ (f : Nat → Int) (v : Int), in_ f (201 * li) (r_pos r st.1) st.1.length v j = f j := fun f v => in_out _ _ _ _ _ hp (by omega)
    exact ⟨eo _ _, eo _ _, eo _ _, eo _ _, eo _ _⟩
/-- the model's due rows -/
def mdd_ (dt ds dl da dm de : Nat → Int) (f : Row_ → Int) (st : List Row_ × Bool) : Prop := mq_ dt ds dm de dl da f st.1 ∧ a_ok 100 st ∧ dbd_ dt ds dm de dl
theorem mdd_ins {dt ds dl da dm de : Nat → Int} {f : Row_ → Int} {st : List Row_ × Bool} (h : mdd_ dt ds dl da dm de f st) (hf : st.1.length < 100) (r : Row_) (v : Int) (hv : v = f r) (hrv : (-2000000000 ≤ r.1 ∧ r.1 ≤ 2000000000) ∧ (0 ≤ r.2.1 ∧ r.2.1 ≤ 7) ∧ (-1000000000000000 ≤ r.2.2.1 ∧ r.2.2.1 ≤ 1000000000000000) ∧ (-1000000000000000 ≤ r.2.2.2.1 ∧ r.2.2.2.1 ≤ 1000000000000000) ∧ (0 ≤ r.2.2.2.2 ∧ r.2.2.2.2 ≤ 65535)) :
    mdd_ (in_ dt 0 (r_pos r st.1) st.1.length r.1) (in_ ds 0 (r_pos r st.1) st.1.length r.2.1) (in_ dl 0 (r_pos r st.1) st.1.length r.2.2.2.2) (in_ da 0 (r_pos r st.1) st.1.length v) (in_ dm 0 (r_pos r st.1) st.1.length r.2.2.1) (in_ de 0 (r_pos r st.1) st.1.length r.2.2.2.1) f (a_add 100 st r) := by
  obtain ⟨h3, h4, h5⟩ := h
  have h6 := a_ok_add h4 r
  have hp := r_pos_le r st.1
  have e : a_add 100 st r = (r_ins r st.1, st.2) := by unfold a_add; rw [if_neg (by omega)]
  rw [e] at h6 ⊢
  refine ⟨fun q x hx => ?_, h6, fun j => ?_⟩
  · rcases ins_get hx with ⟨q1, q2⟩ | ⟨q1, q2⟩ | ⟨q1, q2, q3⟩
    · rw [in_lo _ _ _ _ _ (by omega), in_lo _ _ _ _ _ (by omega), in_lo _ _ _ _ _ (by omega), in_lo _ _ _ _ _ (by omega), in_lo _ _ _ _ _ (by omega), in_lo _ _ _ _ _ (by omega)]
      exact h3 q x q2
    · have eq0 : q = 0 + r_pos r st.1 := by omega
      rw [eq0, in_at, in_at, in_at, in_at, in_at, in_at, q2]
      exact ⟨rfl, hv⟩
    · rw [in_hi _ _ _ _ _ (by omega) (by omega), in_hi _ _ _ _ _ (by omega) (by omega), in_hi _ _ _ _ _ (by omega) (by omega), in_hi _ _ _ _ _ (by omega) (by omega), in_hi _ _ _ _ _ (by omega) (by omega), in_hi _ _ _ _ _ (by omega) (by omega)]
      exact h3 (q - 1) x q3
  · have hs := dbd_sh h5 0 (r_pos r st.1) st.1.length j
    by_cases hj : j = 0 + r_pos r st.1
    · subst hj
      rw [in_at, in_at, in_at, in_at, in_at]
      exact hrv
    · have eg : ∀ (f : Nat → Int) (v : Int), in_ f 0 (r_pos r st.1) st.1.length v j = sh_ f 0 (r_pos r st.1) st.1.length j := fun f v => va_up_ne _ _ hj
      rw [eg, eg, eg, eg, eg]
      exact hs
theorem mdd_full {dt ds dl da dm de : Nat → Int} {f : Row_ → Int} {st : List Row_ × Bool} (h : mdd_ dt ds dl da dm de f st) (hf : 100 ≤ st.1.length) (r : Row_) : mdd_ dt ds dl da dm de f (a_add 100 st r) ∧ a_add 100 st r = (st.1, true) := by
  obtain ⟨h3, h4, h5⟩ := h
  have h6 := a_ok_add h4 r
  have e : a_add 100 st r = (st.1, true) := by unfold a_add; rw [if_pos hf]
  rw [e] at h6 ⊢
  exact ⟨⟨h3, h6, h5⟩, rfl⟩
