/-! the model's reading, as a pure machine: the place, the depth, how many nodes, the root, the nodes, the open ones, the last in each -/
abbrev MZ : Type := Nat × Nat × Nat × Int × MT × (Nat → Int) × (Nat → Int)
abbrev z_at (z : MZ) : Nat := z.1
abbrev z_dp (z : MZ) : Nat := z.2.1
abbrev z_sz (z : MZ) : Nat := z.2.2.1
abbrev z_rt (z : MZ) : Int := z.2.2.2.1
abbrev z_A (z : MZ) : MT := z.2.2.2.2.1
abbrev z_op (z : MZ) : Nat → Int := z.2.2.2.2.2.1
abbrev z_la (z : MZ) : Nat → Int := z.2.2.2.2.2.2
abbrev x4_ (n : Int) : Nat := (384 + n).toNat
/-- n becomes one more of the last open one -/
def at1_ (z : MZ) (D : Nat) (n : Int) : MZ := (z_at z, z_dp z, z_sz z, z_rt z,
  (a_kn (z_A z), a_on (z_A z), a_tw (z_A z), a_th (z_A z),
   (if a_co (z_A z) (x4_ (z_op z D)) = 0 then va_up (a_fi (z_A z)) (x4_ (z_op z D)) n else a_fi (z_A z)),
   (if a_co (z_A z) (x4_ (z_op z D)) = 0 then a_ne (z_A z) else va_up (a_ne (z_A z)) (x4_ (z_la z D)) n),
   va_up (a_co (z_A z)) (x4_ (z_op z D)) (a_co (z_A z) (x4_ (z_op z D)) + 1)), z_op z, va_up (z_la z) D n)
def wd_ (z : MZ) (D : Nat) : MZ := (z_at z, D, z.2.2)
/-- n is whole; D: the depth -/
def wh_ : Nat → MZ → Int → MZ
  | 0, z, n => (z_at z, z_dp z, z_sz z, n, z.2.2.2.2)
  | D + 1, z, n => if a_co (z_A z) (x4_ (z_op z D)) + 1 = wn_ (a_kn (z_A z) (x4_ (z_op z D))) then wh_ D (wd_ (at1_ z D n) D) (z_op z D) else at1_ z D n
/-- what holds of the state -/
def inv_ (len : Nat) (z : MZ) : Prop := z_sz z ≤ z_at z ∧ z_at z ≤ len ∧ len ≤ 40 ∧ z_dp z ≤ z_sz z ∧
  (∀ j : Nat, j < z_dp z → (0 ≤ z_op z j ∧ z_op z j < (z_sz z : Int)) ∧ (1 ≤ a_kn (z_A z) (x4_ (z_op z j)) ∧ a_kn (z_A z) (x4_ (z_op z j)) ≤ 9) ∧ (0 ≤ a_co (z_A z) (x4_ (z_op z j)) ∧ a_co (z_A z) (x4_ (z_op z j)) ≤ 9) ∧ (0 < a_co (z_A z) (x4_ (z_op z j)) → 0 ≤ z_la z j ∧ z_la z j < (z_sz z : Int))) ∧
  (∀ j : Nat, j + 1 < z_dp z → z_op z j < z_op z (j + 1))
def clz_ (tx : Nat → Int) (z : MZ) : Prop := 0 < z_dp z ∧ 0 < a_co (z_A z) (x4_ (z_op z (z_dp z - 1))) ∧ tx (z_at z) = cl_ (a_kn (z_A z) (x4_ (z_op z (z_dp z - 1))))
def fil_ (z : MZ) : Prop := 0 < z_dp z ∧ wn_ (a_kn (z_A z) (x4_ (z_op z (z_dp z - 1)))) = 10 ∧ a_co (z_A z) (x4_ (z_op z (z_dp z - 1))) = 9
/-- a new node, its digits read -/
def nw_ (z : MZ) (kd : Int) (on tw th : Nat → Int) (a : Nat) : MZ := (a, z_dp z, z_sz z + 1, z_rt z,
  (va_up (a_kn (z_A z)) (x4_ (z_sz z)) kd, on, tw, th, va_up (a_fi (z_A z)) (x4_ (z_sz z)) (-1), va_up (a_ne (z_A z)) (x4_ (z_sz z)) (-1), va_up (a_co (z_A z)) (x4_ (z_sz z)) 0), z_op z, z_la z)
def opn1_ (z : MZ) (n : Int) : MZ := (z_at z, z_dp z + 1, z_sz z, z_rt z, z_A z, va_up (z_op z) (z_dp z) n, z_la z)
def dgs_ (tx : Nat → Int) (len : Nat) (z : MZ) (on tw th : Nat → Int) (a : Nat) : Prop := ∃ kk nn rr : Int, p_digs tx len (ks_ (kf_ (tx (z_at z)))) (z_at z + 1) = (some (kk, nn, rr), a) ∧
  (∀ j : Nat, j ≠ x4_ (z_sz z) → on j = a_on (z_A z) j ∧ tw j = a_tw (z_A z) j ∧ th j = a_th (z_A z) j) ∧
  ((kf_ (tx (z_at z)) = 4 ∨ kf_ (tx (z_at z)) = 5 ∨ kf_ (tx (z_at z)) = 8 ∨ kf_ (tx (z_at z)) = 6 ∨ kf_ (tx (z_at z)) = 9) → on (x4_ (z_sz z)) = kk) ∧ ((kf_ (tx (z_at z)) = 6 ∨ kf_ (tx (z_at z)) = 9) → tw (x4_ (z_sz z)) = nn) ∧ (kf_ (tx (z_at z)) = 9 → th (x4_ (z_sz z)) = rr) ∧
  (¬ (kf_ (tx (z_at z)) = 4 ∨ kf_ (tx (z_at z)) = 5 ∨ kf_ (tx (z_at z)) = 8 ∨ kf_ (tx (z_at z)) = 6 ∨ kf_ (tx (z_at z)) = 9) → on (x4_ (z_sz z)) = tx (z_at z))
/-- it goes on -/
def goes_ (tx : Nat → Int) (len : Nat) (z z' : MZ) : Prop :=
  (clz_ tx z ∧ z' = wh_ (z_dp z - 1) (z_at z + 1, z_dp z - 1, z.2.2) (z_op z (z_dp z - 1))) ∨
  (¬ clz_ tx z ∧ 0 ≤ kf_ (tx (z_at z)) ∧ ¬ fil_ z ∧ ∃ (on tw th : Nat → Int) (a : Nat), dgs_ tx len z on tw th a ∧
    z' = if wn_ (kf_ (tx (z_at z))) = 0 then wh_ (z_dp z) (nw_ z (kf_ (tx (z_at z))) on tw th a) (z_sz z) else opn1_ (nw_ z (kf_ (tx (z_at z))) on tw th a) (z_sz z))
/-- the nodes ahead of the place j of the arrays are as they were -/
def agr_ (j0 : Nat) (A A' : MT) : Prop := ∀ j : Nat, j < j0 → a_kn A' j = a_kn A j ∧ a_on A' j = a_on A j ∧ a_tw A' j = a_tw A j ∧ a_th A' j = a_th A j ∧ a_fi A' j = a_fi A j ∧ a_ne A' j = a_ne A j ∧ a_co A' j = a_co A j
/-- it fails -/
def fails_ (tx : Nat → Int) (len : Nat) (z z' : MZ) : Prop :=
  ¬ clz_ tx z ∧ (((kf_ (tx (z_at z)) < 0 ∨ fil_ z) ∧ z' = z) ∨ (0 ≤ kf_ (tx (z_at z)) ∧ ¬ fil_ z ∧ p_digs tx len (ks_ (kf_ (tx (z_at z)))) (z_at z + 1) = (none, z_at z') ∧ agr_ 384 (z_A z) (z_A z')))
/-- every run from z comes to Q, in so many rounds -/
def out_ (tx : Nat → Int) (len : Nat) (Q : Int → MZ → Prop) : Nat → MZ → Prop
  | 0, _ => False
  | N + 1, z => if 0 ≤ z_rt z then Q (if z_at z < len then (z_at z : Int) else -1) z
    else if z_at z = len then Q (z_at z : Int) z
    else inv_ len z ∧ (∀ z', fails_ tx len z z' → Q (z_at z' : Int) z') ∧ (∀ z', goes_ tx len z z' → out_ tx len Q N z')
theorem agr_refl (j : Nat) (A : MT) : agr_ j A A := fun _ _ => ⟨rfl, rfl, rfl, rfl, rfl, rfl, rfl⟩
theorem agr_tr {j : Nat} {A B C : MT} (h1 : agr_ j A B) (h2 : agr_ j B C) : agr_ j A C := fun i hi => by
  obtain ⟨a1, a2, a3, a4, a5, a6, a7⟩ := h1 i hi
  obtain ⟨b1, b2, b3, b4, b5, b6, b7⟩ := h2 i hi
  exact ⟨b1.trans a1, b2.trans a2, b3.trans a3, b4.trans a4, b5.trans a5, b6.trans a6, b7.trans a7⟩
theorem agr_mono {i j : Nat} {A B : MT} (h : i ≤ j) (h1 : agr_ j A B) : agr_ i A B := fun q hq => h1 q (Nat.lt_of_lt_of_le hq h)
/-- nodes moved, or others changed -/
theorem rep_mv {A A' : MT} {b b' : Int} : ∀ {d : Nat} {T : PT d} {n m : Int}, rep_ A b d T n m →
    (∀ q : Int, n ≤ q → q < m → a_kn A' (b' + q).toNat = a_kn A (b + q).toNat ∧ a_on A' (b' + q).toNat = a_on A (b + q).toNat ∧ a_tw A' (b' + q).toNat = a_tw A (b + q).toNat ∧ a_th A' (b' + q).toNat = a_th A (b + q).toNat ∧ a_fi A' (b' + q).toNat = a_fi A (b + q).toNat ∧ a_co A' (b' + q).toNat = a_co A (b + q).toNat ∧ (n < q → a_ne A' (b' + q).toNat = a_ne A (b + q).toNat)) → rep_ A' b' d T n m
  | 0, _, _, _, h, _ => h.elim
  | d + 1, T, n, m, h, hq => by
    obtain ⟨h1, h2, h3, h4, h5, h6, h7, h8, ps, p0, p1, p2⟩ := h
    obtain ⟨q1, q2, q3, q4, q5, q6, q7⟩ := hq n (Int.le_refl _) h1.2.1
    have hps : ∀ j : Nat, j < (tr_cs T).length → ps j < ps (j + 1) := fun j hj => (rep_rng (p2 j _ (List.getElem?_eq_getElem hj)).1).2.1
    have hlo : ∀ j : Nat, j ≤ (tr_cs T).length → n + 1 ≤ ps j := by
      intro j
      induction j with
      | zero => intro _; omega
      | succ j ih => intro hj; have := hps j (by omega); have := ih (by omega); omega
    have hhi : ∀ i j : Nat, j + i = (tr_cs T).length → ps j ≤ m := by
      intro i
      induction i with
      | zero => intro j hj; rw [← p1, ← hj]; exact Int.le_refl _
      | succ i ih => intro j hj; have := hps j (by omega); have := ih (j + 1) (by omega); omega
    refine ⟨h1, by rw [q1]; exact h2, by rw [q6]; exact h3, fun z => by rw [q2]; exact h4 z, fun z => by rw [q2]; exact h5 z, fun z => by rw [q3]; exact h6 z, fun z => by rw [q4]; exact h7 z, fun z => by rw [q5]; exact h8 z, ps, p0, p1, fun j x hx => ?_⟩
    have hj : j < (tr_cs T).length := (List.getElem?_eq_some_iff.mp hx).1
    have a1 := hlo j (by omega)
    have a2 := hhi ((tr_cs T).length - (j + 1)) (j + 1) (by omega)
    have a3 := hps j hj
    refine ⟨rep_mv (p2 j x hx).1 (fun q g1 g2 => ?_), fun hl => ?_⟩
    · obtain ⟨r1, r2, r3, r4, r5, r6, r7⟩ := hq q (by omega) (by omega)
      exact ⟨r1, r2, r3, r4, r5, r6, fun _ => r7 (by omega)⟩
    · rw [← (p2 j x hx).2 hl]
      exact (hq (ps j) (by omega) (by omega)).2.2.2.2.2.2 (by omega)
/-! the machine reads what prs_ reads -/
theorem inv_lt {len : Nat} {z : MZ} (h : inv_ len z) : ∀ (i j : Nat), j + i + 1 < z_dp z → z_op z j < z_op z (j + i + 1)
  | 0, j, hj => h.2.2.2.2.2 j hj
  | i + 1, j, hj => by
    have h1 := inv_lt h i j (by omega)
    have h2 := h.2.2.2.2.2 (j + i + 1) (by omega)
    show z_op z j < z_op z (j + i + 1 + 1)
    omega
theorem inv_wd {len : Nat} {z : MZ} (h : inv_ len z) {a D : Nat} (ha : z_at z ≤ a ∧ a ≤ len) (hD : D ≤ z_dp z) : inv_ len (a, D, z.2.2) := by
  obtain ⟨h1, h2, h3, h4, h5, h6⟩ := h
  exact ⟨Nat.le_trans h1 ha.1, ha.2, h3, Nat.le_trans hD h4, fun j hj => h5 j (Nat.lt_of_lt_of_le hj hD), fun j hj => h6 j (Nat.lt_of_lt_of_le hj hD)⟩
/-- from z0 on, with what was there kept -/
def rl_ (len : Nat) (z0 z : MZ) : Prop := agr_ (384 + z_sz z0) (z_A z0) (z_A z) ∧ (∀ j : Nat, j < z_dp z0 → z_op z j = z_op z0 j ∧ z_la z j = z_la z0 j) ∧ z_rt z = z_rt z0 ∧ inv_ len z
def post1_ (len d : Nat) (z0 z1 : MZ) (T : PT d) (b : Nat) : Prop := z_at z1 = b ∧ z_dp z1 = z_dp z0 ∧ rep_ (z_A z1) 384 d T (z_sz z0 : Int) (z_sz z1 : Int) ∧ rl_ len z0 z1
/-- the open node p, at depth D, with the patterns acc -/
def opn_ {d : Nat} (z : MZ) (D : Nat) (p kd k n r : Int) (acc : List (PT d)) : Prop := z_dp z = D + 1 ∧ z_op z D = p ∧ 0 ≤ p ∧ a_kn (z_A z) (x4_ p) = kf_ kd ∧ a_co (z_A z) (x4_ p) = (acc.length : Int) ∧
  ((kd = 70 ∨ kd = 83 ∨ kd = 76 ∨ kd = 86 ∨ kd = 69) → a_on (z_A z) (x4_ p) = k) ∧ ((kd = 76 ∨ kd = 69) → a_tw (z_A z) (x4_ p) = n) ∧ (kd = 69 → a_th (z_A z) (x4_ p) = r) ∧ (acc ≠ [] → a_fi (z_A z) (x4_ p) = p + 1) ∧
  ∃ ps : Nat → Int, ps 0 = p + 1 ∧ ps acc.length = (z_sz z : Int) ∧ (acc ≠ [] → z_la z D = ps (acc.length - 1)) ∧ ∀ (j : Nat) (x : PT d), acc[j]? = some x → rep_ (z_A z) 384 d x (ps j) (ps (j + 1)) ∧ (j + 1 < acc.length → a_ne (z_A z) (x4_ (ps j)) = ps (j + 1))
theorem opn_rep {d : Nat} {z : MZ} {D : Nat} {p kd k n r : Int} {acc : List (PT d)} (h : opn_ z D p kd k n r acc) (hs : p < (z_sz z : Int) ∧ z_sz z ≤ 48) (hk : ¬ (97 ≤ kd ∧ kd ≤ 122)) : rep_ (z_A z) 384 (d + 1) (tr_mk kd k n r acc) p (z_sz z : Int) := by
  obtain ⟨_, _, h2, h3, h4, h5, h6, h7, h8, ps, p0, p1, _, p3⟩ := h
  exact ⟨⟨h2, hs.1, by omega⟩, h3, h4, fun q => absurd q hk, h5, h6, h7, h8, ps, p0, p1, p3⟩
theorem att_ {len d : Nat} {z z1 : MZ} {D : Nat} {p kd k n r : Int} {acc : List (PT d)} {x : PT d} {b : Nat} (ho : opn_ z D p kd k n r acc) (hps : p < (z_sz z : Int)) (hp : post1_ len d z z1 x b) (hl : acc.length ≤ 8) :
    opn_ (at1_ z1 D (z_sz z : Int)) D p kd k n r (acc ++ [x]) ∧ agr_ (384 + p.toNat) (z_A z1) (z_A (at1_ z1 D (z_sz z : Int))) ∧ inv_ len (at1_ z1 D (z_sz z : Int)) ∧ z_op z1 D = p ∧ a_co (z_A z1) (x4_ p) = (acc.length : Int) ∧ a_kn (z_A z1) (x4_ p) = kf_ kd := by
  obtain ⟨o1, o2, o3, o4, o5, o6, o7, o8, o9, ps, p0, p1, p2, p3⟩ := ho
  obtain ⟨b1, b2, b3, b4, b5, b6, b7⟩ := hp
  obtain ⟨c1, c2⟩ := b5 D (by omega)
  rw [o2] at c1
  obtain ⟨g1, g2, g3, g4, g5, g6, g7⟩ := b4 (x4_ p) (by unfold x4_; omega)
  have hsz := rep_rng b3
  have hco : a_co (z_A z1) (x4_ p) = (acc.length : Int) := g7.trans o5
  have hpsj : ∀ j : Nat, j < acc.length → ps j < ps (j + 1) := fun j hj => (rep_rng (p3 j _ (List.getElem?_eq_getElem hj)).1).2.1
  have hlo : ∀ j : Nat, j ≤ acc.length → p + 1 ≤ ps j := by
    intro j
    induction j with
    | zero => intro _; omega
    | succ j ih => intro hj; have := hpsj j (by omega); have := ih (by omega); omega
  have hhi : ∀ i j : Nat, j + i ≤ acc.length → ps j ≤ ps (j + i) := by
    intro i
    induction i with
    | zero => intro j _; exact Int.le_refl _
    | succ i ih => intro j hj; have := hpsj (j + i) (by omega); have := ih j (by omega); show ps j ≤ ps (j + i + 1); omega
  -- what changes
  have uco : ∀ q : Int, 0 ≤ q → q ≠ p → a_co (z_A (at1_ z1 D (z_sz z : Int))) (x4_ q) = a_co (z_A z1) (x4_ q) := fun q h0 hq => va_up_ne _ _ (by unfold x4_; omega)
  have ufi : ∀ q : Int, 0 ≤ q → q ≠ p → a_fi (z_A (at1_ z1 D (z_sz z : Int))) (x4_ q) = a_fi (z_A z1) (x4_ q) := fun q h0 hq => by
    show (if a_co (z_A z1) (x4_ (z_op z1 D)) = 0 then va_up (a_fi (z_A z1)) (x4_ (z_op z1 D)) (z_sz z : Int) else a_fi (z_A z1)) (x4_ q) = _
    rw [c1]
    split
    · exact va_up_ne _ _ (by unfold x4_; omega)
    · rfl
  have hla : acc ≠ [] → z_la z1 D = ps (acc.length - 1) := fun h => c2.trans (p2 h)
  have une : ∀ q : Int, 0 ≤ q → (acc ≠ [] → q ≠ ps (acc.length - 1)) → a_ne (z_A (at1_ z1 D (z_sz z : Int))) (x4_ q) = a_ne (z_A z1) (x4_ q) := fun q h0 hq => by
    show (if a_co (z_A z1) (x4_ (z_op z1 D)) = 0 then a_ne (z_A z1) else va_up (a_ne (z_A z1)) (x4_ (z_la z1 D)) (z_sz z : Int)) (x4_ q) = _
    rw [c1, hco]
    split
    · rfl
    · rename_i hz
      have hne : acc ≠ [] := fun e => hz (by rw [e]; rfl)
      have h1 := hq hne
      have h2 := hlo (acc.length - 1) (by omega)
      rw [hla hne]
      exact va_up_ne _ _ (by unfold x4_; omega)
  have hlen : (acc ++ [x]).length = acc.length + 1 := by rw [List.length_append]; rfl
  have hne0 : acc ≠ [] → 0 < acc.length := fun h => List.length_pos_iff.mpr h
  obtain ⟨pt, e1, e2⟩ : ∃ pt : Nat → Int, (∀ j : Nat, j ≤ acc.length → pt j = ps j) ∧ pt (acc.length + 1) = (z_sz z1 : Int) := ⟨fun j => if j ≤ acc.length then ps j else (z_sz z1 : Int), fun j hj => if_pos hj, if_neg (by omega)⟩
  refine ⟨⟨b2.trans o1, c1, o3, g1.trans o4, ?_, fun q => g2.trans (o6 q), fun q => g3.trans (o7 q), fun q => g4.trans (o8 q), fun _ => ?_, pt, ?_, ?_, fun _ => ?_, fun j y hy => ?_⟩, ?_, ?_, c1, hco, g1.trans o4⟩
  · show va_up (a_co (z_A z1)) (x4_ (z_op z1 D)) _ (x4_ p) = _
    rw [c1, va_up_self, hco, hlen]
    omega
  · show (if a_co (z_A z1) (x4_ (z_op z1 D)) = 0 then va_up (a_fi (z_A z1)) (x4_ (z_op z1 D)) (z_sz z : Int) else a_fi (z_A z1)) (x4_ p) = _
    rw [c1, hco]
    by_cases he : acc = []
    · subst he
      rw [if_pos (show (([] : List (PT d)).length : Int) = 0 from rfl), va_up_self, ← p1]
      exact p0
    · rw [if_neg (by have := hne0 he; omega), g5]
      exact o9 he
  · rw [e1 0 (Nat.zero_le _)]
    exact p0
  · rw [hlen]
    exact e2
  · rw [hlen]
    show va_up (z_la z1) D (z_sz z : Int) D = pt (acc.length + 1 - 1)
    rw [va_up_self, Nat.add_sub_cancel, e1 _ (Nat.le_refl _), p1]
  · have hj : j < acc.length + 1 := by rw [← hlen]; exact (List.getElem?_eq_some_iff.mp hy).1
    rw [hlen]
    by_cases hjl : j < acc.length
    · rw [List.getElem?_append_left hjl] at hy
      obtain ⟨r1, r2⟩ := p3 j y hy
      have hb1 := hlo j (by omega)
      have hb2 := hpsj j hjl
      have hb3 := hhi (acc.length - (j + 1)) (j + 1) (by omega)
      rw [show j + 1 + (acc.length - (j + 1)) = acc.length by omega, p1] at hb3
      have hacc : acc ≠ [] := fun e => by rw [e] at hjl; exact absurd hjl (Nat.not_lt_zero _)
      rw [e1 j (by omega), e1 (j + 1) (by omega)]
      refine ⟨rep_mv r1 (fun q q1 q2 => ?_), fun hj1 => ?_⟩
      · obtain ⟨v1, v2, v3, v4, v5, v6, v7⟩ := b4 (384 + q).toNat (by omega)
        refine ⟨v1, v2, v3, v4, (ufi q (by omega) (by omega)).trans v5, (uco q (by omega) (by omega)).trans v7, fun q3 => (une q (by omega) (fun _ => ?_)).trans v6⟩
        by_cases hjj : j + 1 = acc.length
        · rw [show acc.length - 1 = j by omega]
          omega
        · have := hhi (acc.length - 1 - (j + 1)) (j + 1) (by omega)
          rw [show j + 1 + (acc.length - 1 - (j + 1)) = acc.length - 1 by omega] at this
          omega
      · by_cases hjj : j + 1 = acc.length
        · show (if a_co (z_A z1) (x4_ (z_op z1 D)) = 0 then a_ne (z_A z1) else va_up (a_ne (z_A z1)) (x4_ (z_la z1 D)) (z_sz z : Int)) (x4_ (ps j)) = _
          rw [c1, hco, if_neg (by omega), hla hacc, show acc.length - 1 = j by omega, va_up_self, hjj, p1]
        · obtain ⟨v1, v2, v3, v4, v5, v6, v7⟩ := b4 (x4_ (ps j)) (by unfold x4_; omega)
          refine ((une (ps j) (by omega) (fun _ => ?_)).trans v6).trans (r2 (by omega))
          have := hhi (acc.length - 1 - (j + 1)) (j + 1) (by omega)
          rw [show j + 1 + (acc.length - 1 - (j + 1)) = acc.length - 1 by omega] at this
          omega
    · have hje : j = acc.length := by omega
      subst hje
      rw [List.getElem?_append_right (Nat.le_refl _), Nat.sub_self] at hy
      cases hy
      rw [e1 _ (Nat.le_refl _), e2, p1]
      refine ⟨rep_mv b3 (fun q q1 q2 => ?_), fun hj1 => absurd hj1 (by omega)⟩
      refine ⟨rfl, rfl, rfl, rfl, ufi q (by omega) (by omega), uco q (by omega) (by omega), fun _ => une q (by omega) (fun he => ?_)⟩
      have := hpsj (acc.length - 1) (by have := hne0 he; omega)
      rw [show acc.length - 1 + 1 = acc.length by have := hne0 he; omega, p1] at this
      omega
  · intro j hj
    refine ⟨rfl, rfl, rfl, rfl, ?_, ?_, ?_⟩
    · show (if a_co (z_A z1) (x4_ (z_op z1 D)) = 0 then va_up (a_fi (z_A z1)) (x4_ (z_op z1 D)) (z_sz z : Int) else a_fi (z_A z1)) j = _
      rw [c1]
      split
      · exact va_up_ne _ _ (by unfold x4_; omega)
      · rfl
    · show (if a_co (z_A z1) (x4_ (z_op z1 D)) = 0 then a_ne (z_A z1) else va_up (a_ne (z_A z1)) (x4_ (z_la z1 D)) (z_sz z : Int)) j = _
      rw [c1, hco]
      split
      · rfl
      · rename_i hz
        have hne : acc ≠ [] := fun e => hz (by rw [e]; rfl)
        have h2 := hlo (acc.length - 1) (by omega)
        rw [hla hne]
        exact va_up_ne _ _ (by unfold x4_; omega)
    · exact va_up_ne _ _ (by rw [c1]; unfold x4_; omega)
  · obtain ⟨i1, i2, i3, i4, i5, i6⟩ := b7
    refine ⟨i1, i2, i3, i4, fun j hj => ?_, i6⟩
    have hjD : j < D + 1 := by rw [← o1, ← b2]; exact hj
    obtain ⟨k1, k2, k3, k4⟩ := i5 j hj
    refine ⟨k1, k2, ?_, ?_⟩
    · by_cases hje : j = D
      · subst hje
        show 0 ≤ va_up (a_co (z_A z1)) (x4_ (z_op z1 j)) _ (x4_ (z_op z1 j)) ∧ va_up (a_co (z_A z1)) (x4_ (z_op z1 j)) _ (x4_ (z_op z1 j)) ≤ 9
        rw [va_up_self, c1, hco]
        omega
      · have hlt := inv_lt (z := z1) ⟨i1, i2, i3, i4, i5, i6⟩ (D - j - 1) j (by omega)
        rw [show j + (D - j - 1) + 1 = D by omega, c1] at hlt
        rw [show z_op (at1_ z1 D (z_sz z : Int)) j = z_op z1 j from rfl, uco _ k1.1 (by omega)]
        exact k3
    · by_cases hje : j = D
      · subst hje
        intro _
        show 0 ≤ va_up (z_la z1) j (z_sz z : Int) j ∧ va_up (z_la z1) j (z_sz z : Int) j < (z_sz z1 : Int)
        rw [va_up_self]
        omega
      · have hlt := inv_lt (z := z1) ⟨i1, i2, i3, i4, i5, i6⟩ (D - j - 1) j (by omega)
        rw [show j + (D - j - 1) + 1 = D by omega, c1] at hlt
        rw [show z_op (at1_ z1 D (z_sz z : Int)) j = z_op z1 j from rfl, uco _ k1.1 (by omega)]
        show _ → 0 ≤ va_up (z_la z1) D (z_sz z : Int) j ∧ va_up (z_la z1) D (z_sz z : Int) j < (z_sz z1 : Int)
        rw [va_up_ne _ _ hje]
        exact k4
/-! every text -/
theorem kf_cases (c : Int) : (kf_ c = -1 ∧ ¬ (97 ≤ c ∧ c ≤ 122) ∧ c ≠ 91 ∧ c ≠ 60 ∧ c ≠ 123 ∧ c ≠ 70 ∧ c ≠ 83 ∧ c ≠ 76 ∧ c ≠ 82 ∧ c ≠ 86 ∧ c ≠ 69 ∧ c ≠ 126) ∨ ((97 ≤ c ∧ c ≤ 122) ∧ kf_ c = 0) ∨ (c = 91 ∧ kf_ c = 1) ∨ (c = 60 ∧ kf_ c = 2) ∨ (c = 123 ∧ kf_ c = 3) ∨ (c = 70 ∧ kf_ c = 4) ∨ (c = 83 ∧ kf_ c = 5) ∨ (c = 76 ∧ kf_ c = 6) ∨ (c = 82 ∧ kf_ c = 7) ∨ (c = 86 ∧ kf_ c = 8) ∨ (c = 69 ∧ kf_ c = 9) ∨ (c = 126 ∧ kf_ c = 10) := by
  by_cases h0 : 97 ≤ c ∧ c ≤ 122
  · exact Or.inr (Or.inl ⟨h0, by unfold kf_; rw [if_pos h0]⟩)
  · by_cases h1 : c = 91
    · subst h1; exact Or.inr (Or.inr (Or.inl ⟨rfl, by decide⟩))
    · by_cases h2 : c = 60
      · subst h2; exact Or.inr (Or.inr (Or.inr (Or.inl ⟨rfl, by decide⟩)))
      · by_cases h3 : c = 123
        · subst h3; exact Or.inr (Or.inr (Or.inr (Or.inr (Or.inl ⟨rfl, by decide⟩))))
        · by_cases h4 : c = 70
          · subst h4; exact Or.inr (Or.inr (Or.inr (Or.inr (Or.inr (Or.inl ⟨rfl, by decide⟩)))))
          · by_cases h5 : c = 83
            · subst h5; exact Or.inr (Or.inr (Or.inr (Or.inr (Or.inr (Or.inr (Or.inl ⟨rfl, by decide⟩))))))
            · by_cases h6 : c = 76
              · subst h6; exact Or.inr (Or.inr (Or.inr (Or.inr (Or.inr (Or.inr (Or.inr (Or.inl ⟨rfl, by decide⟩)))))))
              · by_cases h7 : c = 82
                · subst h7; exact Or.inr (Or.inr (Or.inr (Or.inr (Or.inr (Or.inr (Or.inr (Or.inr (Or.inl ⟨rfl, by decide⟩))))))))
                · by_cases h8 : c = 86
                  · subst h8; exact Or.inr (Or.inr (Or.inr (Or.inr (Or.inr (Or.inr (Or.inr (Or.inr (Or.inr (Or.inl ⟨rfl, by decide⟩)))))))))
                  · by_cases h9 : c = 69
                    · subst h9; exact Or.inr (Or.inr (Or.inr (Or.inr (Or.inr (Or.inr (Or.inr (Or.inr (Or.inr (Or.inr (Or.inl ⟨rfl, by decide⟩))))))))))
                    · by_cases h10 : c = 126
                      · subst h10; exact Or.inr (Or.inr (Or.inr (Or.inr (Or.inr (Or.inr (Or.inr (Or.inr (Or.inr (Or.inr (Or.inr ⟨rfl, by decide⟩))))))))))
                      · refine Or.inl ⟨?_, h0, h1, h2, h3, h4, h5, h6, h7, h8, h9, h10⟩
                        unfold kf_
                        rw [if_neg h0, if_neg h1, if_neg h2, if_neg h3, if_neg h4, if_neg h5, if_neg h6, if_neg h7, if_neg h8, if_neg h9, if_neg h10]
theorem wn_or (k : Int) : ((k = 1 ∨ k = 2 ∨ k = 3) ∧ wn_ k = 10) ∨ (k = 8 ∧ wn_ k = 2) ∨ ((k = 0 ∨ k = 10) ∧ wn_ k = 0) ∨ (k ≠ 1 ∧ k ≠ 2 ∧ k ≠ 3 ∧ k ≠ 8 ∧ k ≠ 0 ∧ k ≠ 10 ∧ wn_ k = 1) := by
  by_cases h1 : k = 1 ∨ k = 2 ∨ k = 3
  · exact Or.inl ⟨h1, by unfold wn_; rw [if_pos h1]⟩
  · by_cases h2 : k = 8
    · exact Or.inr (Or.inl ⟨h2, by unfold wn_; rw [if_neg h1, if_pos h2]⟩)
    · by_cases h3 : k = 0 ∨ k = 10
      · exact Or.inr (Or.inr (Or.inl ⟨h3, by unfold wn_; rw [if_neg h1, if_neg h2, if_pos h3]⟩))
      · refine Or.inr (Or.inr (Or.inr ⟨by omega, by omega, by omega, by omega, by omega, by omega, ?_⟩))
        unfold wn_
        rw [if_neg h1, if_neg h2, if_neg h3]
/-- the digits of an operator, of another sign -/
theorem dig_op {tx : Nat → Int} {len : Nat} {c : Int} (hc : c = 70 ∨ c = 83 ∨ c = 76 ∨ c = 82 ∨ c = 69 ∨ c = 86) (a : Nat) : p_digs tx len (ks_ (kf_ c)) a = p_digs tx len c a := by
  rcases hc with rfl | rfl | rfl | rfl | rfl | rfl <;> rfl
theorem dig_no {tx : Nat → Int} {len : Nat} {c : Int} (hc : 0 ≤ kf_ c) (ho : ¬ (c = 70 ∨ c = 83 ∨ c = 76 ∨ c = 82 ∨ c = 69 ∨ c = 86)) (a : Nat) : p_digs tx len (ks_ (kf_ c)) a = (some (1, 1, 0), a) := by
  have e : ks_ (kf_ c) = 82 := by
    rcases kf_cases c with h | h | h | h | h | h | h | h | h | h | h | h
    · omega
    all_goals first | (rw [h.2]; rfl) | (exfalso; omega)
  rw [e]
  rfl
section NWZ
variable {tx : Nat → Int} {len : Nat} {z : MZ} {on tw th : Nat → Int} {a : Nat}
theorem dgs_a (h : dgs_ tx len z on tw th a) (hl : z_at z < len) : z_at z + 1 ≤ a ∧ a ≤ len := by
  obtain ⟨kk, nn, rr, h1, _⟩ := h
  have := p_digs_le (tx := tx) (len := len) (kd := ks_ (kf_ (tx (z_at z)))) (at_ := z_at z + 1) (by omega)
  rw [h1] at this
  exact this
theorem nw_agr (h : dgs_ tx len z on tw th a) (kd : Int) : agr_ (384 + z_sz z) (z_A z) (z_A (nw_ z kd on tw th a)) := fun j hj => by
  obtain ⟨kk, nn, rr, _, h2, _⟩ := h
  have hne : j ≠ x4_ (z_sz z) := by unfold x4_; omega
  obtain ⟨a1, a2, a3⟩ := h2 j hne
  exact ⟨va_up_ne _ _ hne, a1, a2, a3, va_up_ne _ _ hne, va_up_ne _ _ hne, va_up_ne _ _ hne⟩
theorem nw_inv (hi : inv_ len z) (hl : z_at z < len) (h : dgs_ tx len z on tw th a) (kd : Int) : inv_ len (nw_ z kd on tw th a) := by
  have ha := dgs_a h hl
  have hg := nw_agr h kd
  obtain ⟨i1, i2, i3, i4, i5, i6⟩ := hi
  refine ⟨by show z_sz z + 1 ≤ a; omega, ha.2, i3, by show z_dp z ≤ z_sz z + 1; omega, fun j hj => ?_, i6⟩
  obtain ⟨k1, k2, k3, k4⟩ := i5 j hj
  obtain ⟨g1, _, _, _, _, _, g7⟩ := hg (x4_ (z_op z j)) (by unfold x4_; omega)
  refine ⟨⟨k1.1, by show z_op z j < ((z_sz z + 1 : Nat) : Int); omega⟩, ?_, ?_, ?_⟩
  · show 1 ≤ a_kn (z_A (nw_ z kd on tw th a)) (x4_ (z_op z j)) ∧ a_kn (z_A (nw_ z kd on tw th a)) (x4_ (z_op z j)) ≤ 9
    rw [g1]
    exact k2
  · show 0 ≤ a_co (z_A (nw_ z kd on tw th a)) (x4_ (z_op z j)) ∧ a_co (z_A (nw_ z kd on tw th a)) (x4_ (z_op z j)) ≤ 9
    rw [g7]
    exact k3
  · show 0 < a_co (z_A (nw_ z kd on tw th a)) (x4_ (z_op z j)) → _
    rw [g7]
    intro q
    have := k4 q
    exact ⟨this.1, by show z_la z j < ((z_sz z + 1 : Nat) : Int); omega⟩
theorem op_inv (hi : inv_ len z) (hl : z_at z < len) (h : dgs_ tx len z on tw th a) {kd : Int} (hk : 1 ≤ kd ∧ kd ≤ 9) : inv_ len (opn1_ (nw_ z kd on tw th a) (z_sz z)) := by
  have hn := nw_inv hi hl h kd
  obtain ⟨i1, i2, i3, i4, i5, i6⟩ := hn
  have e1 : ∀ j : Nat, j < z_dp z → va_up (z_op z) (z_dp z) (z_sz z : Int) j = z_op z j := fun j hj => va_up_ne _ _ (by omega)
  have e2 : va_up (z_op z) (z_dp z) (z_sz z : Int) (z_dp z) = (z_sz z : Int) := va_up_self _ _ _
  refine ⟨i1, i2, i3, ?_, fun j hj => ?_, fun j hj => ?_⟩
  · have := hi.2.2.2.1
    show z_dp z + 1 ≤ z_sz z + 1
    omega
  · have hj : j < z_dp z + 1 := hj
    by_cases hjd : j = z_dp z
    · subst hjd
      show (0 ≤ va_up (z_op z) (z_dp z) (z_sz z : Int) (z_dp z) ∧ va_up (z_op z) (z_dp z) (z_sz z : Int) (z_dp z) < ((z_sz z + 1 : Nat) : Int)) ∧ (1 ≤ va_up (a_kn (z_A z)) (x4_ (z_sz z)) kd (x4_ (va_up (z_op z) (z_dp z) (z_sz z : Int) (z_dp z))) ∧ va_up (a_kn (z_A z)) (x4_ (z_sz z)) kd (x4_ (va_up (z_op z) (z_dp z) (z_sz z : Int) (z_dp z))) ≤ 9) ∧ (0 ≤ va_up (a_co (z_A z)) (x4_ (z_sz z)) 0 (x4_ (va_up (z_op z) (z_dp z) (z_sz z : Int) (z_dp z))) ∧ va_up (a_co (z_A z)) (x4_ (z_sz z)) 0 (x4_ (va_up (z_op z) (z_dp z) (z_sz z : Int) (z_dp z))) ≤ 9) ∧ (0 < va_up (a_co (z_A z)) (x4_ (z_sz z)) 0 (x4_ (va_up (z_op z) (z_dp z) (z_sz z : Int) (z_dp z))) → _)
      rw [e2, va_up_self, va_up_self]
      exact ⟨by omega, hk, by omega, fun q => absurd q (by omega)⟩
    · have k := i5 j (by show j < z_dp z; omega)
      have e3 : z_op (opn1_ (nw_ z kd on tw th a) (z_sz z)) j = z_op (nw_ z kd on tw th a) j := e1 j (by omega)
      rw [e3]
      exact k
  · have hj : j + 1 < z_dp z + 1 := hj
    show va_up (z_op z) (z_dp z) (z_sz z : Int) j < va_up (z_op z) (z_dp z) (z_sz z : Int) (j + 1)
    rw [e1 j (by omega)]
    by_cases hjd : j + 1 = z_dp z
    · rw [hjd, e2]
      have := (hi.2.2.2.2.1 j (by omega)).1
      omega
    · rw [e1 (j + 1) (by omega)]
      exact hi.2.2.2.2.2 j (by omega)
theorem op_rl (hi : inv_ len z) (hl : z_at z < len) (h : dgs_ tx len z on tw th a) {kd : Int} (hk : 1 ≤ kd ∧ kd ≤ 9) : rl_ len z (opn1_ (nw_ z kd on tw th a) (z_sz z)) :=
  ⟨nw_agr h kd, fun j hj => ⟨va_up_ne _ _ (Nat.ne_of_lt hj), rfl⟩, rfl, op_inv hi hl h hk⟩
theorem op_opn (d : Nat) (h : dgs_ tx len z on tw th a) {kk nn rr : Int} (hd : p_digs tx len (ks_ (kf_ (tx (z_at z)))) (z_at z + 1) = (some (kk, nn, rr), a)) : opn_ (d := d) (opn1_ (nw_ z (kf_ (tx (z_at z))) on tw th a) (z_sz z)) (z_dp z) (z_sz z : Int) (tx (z_at z)) kk nn rr [] := by
  obtain ⟨kk', nn', rr', h1, h2, h3, h4, h5, h6⟩ := h
  rw [h1] at hd
  cases hd
  refine ⟨rfl, va_up_self _ _ _, by omega, va_up_self _ _ _, va_up_self _ _ _, fun q => h3 ?_, fun q => h4 ?_, fun q => h5 ?_, fun q => absurd rfl q, fun _ => (z_sz z : Int) + 1, rfl, by show (z_sz z : Int) + 1 = ((z_sz z + 1 : Nat) : Int); omega, fun q => absurd rfl q, fun j x hx => by simp at hx⟩
  · rcases q with q | q | q | q | q <;> rw [q] <;> decide
  · rcases q with q | q <;> rw [q] <;> decide
  · rw [q]; decide
end NWZ
def psim_ (tx : Nat → Int) (len d : Nat) : Prop := ∀ (z : MZ) (Q : Int → MZ → Prop), inv_ len z → z_rt z < 0 → len ≤ z_at z + d → (z_at z < len → ¬ clz_ tx z ∧ ¬ fil_ z) →
  (∀ (T : PT d) (b : Nat), prs_ tx len d (z_at z) = (some T, b) → ∀ z1 : MZ, post1_ len d z z1 T b → ∀ N : Nat, len < b + N → out_ tx len Q N (wh_ (z_dp z) z1 (z_sz z : Int))) →
  (∀ (b : Nat) (z' : MZ), prs_ tx len d (z_at z) = (none, b) → z_at z' = b → agr_ 384 (z_A z) (z_A z') → Q (b : Int) z') → ∀ N : Nat, len < z_at z + N → out_ tx len Q N z
theorem opn_post {len d : Nat} {z0 z3 : MZ} {kd k n r : Int} {cs : List (PT d)} (ho : opn_ z3 (z_dp z0) (z_sz z0 : Int) kd k n r cs) (hr : rl_ len z0 z3) (hs : z_sz z0 < z_sz z3) (hk : ¬ (97 ≤ kd ∧ kd ≤ 122)) {a : Nat} (ha : z_at z3 ≤ a ∧ a ≤ len) : post1_ len (d + 1) z0 (a, z_dp z0, z3.2.2) (tr_mk kd k n r cs) a := by
  obtain ⟨r1, r2, r3, r4⟩ := hr
  have h40 := r4.2.2.1
  have hsz := r4.1
  have hat := r4.2.1
  have hrep := opn_rep ho ⟨by omega, by omega⟩ hk
  exact ⟨rfl, rfl, hrep, r1, r2, r3, inv_wd r4 ha (by rw [ho.1]; omega)⟩
theorem child_ {tx : Nat → Int} {len d : Nat} (ih : psim_ tx len d) {z0 z : MZ} {kd k n r : Int} {acc : List (PT d)} {Q : Int → MZ → Prop} (ho : opn_ z (z_dp z0) (z_sz z0 : Int) kd k n r acc) (hr : rl_ len z0 z) (hs : z_sz z0 < z_sz z) (hl : acc.length ≤ 8) (hrt : z_rt z0 < 0) (hd : len ≤ z_at z + d) (hf : z_at z < len → ¬ clz_ tx z ∧ ¬ fil_ z)
    (hS : ∀ (x : PT d) (b : Nat), prs_ tx len d (z_at z) = (some x, b) → ∀ z3 : MZ, opn_ z3 (z_dp z0) (z_sz z0 : Int) kd k n r (acc ++ [x]) → rl_ len z0 z3 → z_at z3 = b → z_sz z0 < z_sz z3 → ∀ N : Nat, len < b + N → if (acc.length : Int) + 1 = wn_ (kf_ kd) then out_ tx len Q N (wh_ (z_dp z0) (z_at z3, z_dp z0, z3.2.2) (z_sz z0 : Int)) else out_ tx len Q N z3)
    (hF : ∀ (b : Nat) (z' : MZ), prs_ tx len d (z_at z) = (none, b) → z_at z' = b → agr_ 384 (z_A z0) (z_A z') → Q (b : Int) z') : ∀ N : Nat, len < z_at z + N → out_ tx len Q N z := by
  obtain ⟨r1, r2, r3, r4⟩ := hr
  refine ih z Q r4 (by rw [r3]; exact hrt) hd hf (fun T b hb z1 hp N hN => ?_) (fun b z' hb hz ha => hF b z' hb hz (agr_tr (agr_mono (by omega) r1) ha))
  obtain ⟨a1, a2, a3, a4, a5, a6⟩ := att_ ho (by omega) hp hl
  obtain ⟨p1, p2, p3, p4, p5, p6, p7⟩ := hp
  have hsz := rep_rng p3
  have hrl : rl_ len z0 (at1_ z1 (z_dp z0) (z_sz z : Int)) := by
    refine ⟨agr_tr (agr_tr r1 (agr_mono (by omega) p4)) (agr_mono (by omega) a2), fun j hj => ?_, p6.trans r3, a3⟩
    obtain ⟨q1, q2⟩ := p5 j (by have := ho.1; omega)
    obtain ⟨q3, q4⟩ := r2 j hj
    exact ⟨q1.trans q3, (va_up_ne _ _ (by omega)).trans (q2.trans q4)⟩
  have key := hS T b hb _ a1 hrl p1 (by show z_sz z0 < z_sz z1; omega) N hN
  rw [ho.1]
  unfold wh_
  rw [a4, a5, a6]
  by_cases hw : (acc.length : Int) + 1 = wn_ (kf_ kd)
  · rw [if_pos hw] at key ⊢
    exact key
  · rw [if_neg hw] at key ⊢
    exact key
/-! the groups, then all -/
theorem out_end {tx : Nat → Int} {len : Nat} {Q : Int → MZ → Prop} {z : MZ} {N : Nat} (hr : z_rt z < 0) (ha : z_at z = len) (hN : len < z_at z + N) (h : Q (z_at z : Int) z) : out_ tx len Q N z := by
  obtain ⟨M, rfl⟩ : ∃ M, N = M + 1 := ⟨N - 1, by omega⟩
  unfold out_
  rw [if_neg (by omega), if_pos ha]
  exact h
theorem grp_ {tx : Nat → Int} {len d : Nat} (ih : psim_ tx len d) {z0 : MZ} {kd : Int} {k0 n0 r0 : Int} {Q : Int → MZ → Prop} (hkd : kd = 91 ∨ kd = 60 ∨ kd = 123) (hrt : z_rt z0 < 0) :
    ∀ (k : Nat) (acc : List (PT d)) (z : MZ), acc.length + k = 9 → opn_ z (z_dp z0) (z_sz z0 : Int) kd k0 n0 r0 acc → rl_ len z0 z → z_sz z0 < z_sz z → len ≤ z_at z + d →
      (∀ (cs : List (PT d)) (z3 : MZ), p_grp (prs_ tx len d) tx len (p_close kd) k acc (z_at z) = (some cs, z_at z3) → p_is tx len (p_close kd) (z_at z3) = true → opn_ z3 (z_dp z0) (z_sz z0 : Int) kd k0 n0 r0 cs → rl_ len z0 z3 → z_sz z0 < z_sz z3 → ∀ N : Nat, len < z_at z3 + 1 + N → out_ tx len Q N (wh_ (z_dp z0) (z_at z3 + 1, z_dp z0, z3.2.2) (z_sz z0 : Int))) →
      (∀ (b : Nat) (z' : MZ), (p_grp (prs_ tx len d) tx len (p_close kd) k acc (z_at z) = (none, b) ∨ (∃ cs, p_grp (prs_ tx len d) tx len (p_close kd) k acc (z_at z) = (some cs, b) ∧ p_is tx len (p_close kd) b = false)) → z_at z' = b → agr_ 384 (z_A z0) (z_A z') → Q (b : Int) z') → ∀ N : Nat, len < z_at z + N → out_ tx len Q N z := by
  have hcl : cl_ (kf_ kd) = p_close kd := by rcases hkd with rfl | rfl | rfl <;> decide
  have hw10 : wn_ (kf_ kd) = 10 := by rcases hkd with rfl | rfl | rfl <;> decide
  have close : ∀ (acc : List (PT d)) (z : MZ), opn_ z (z_dp z0) (z_sz z0 : Int) kd k0 n0 r0 acc → rl_ len z0 z → acc ≠ [] → acc.length ≤ 9 → (z_at z < len → tx (z_at z) ≠ p_close kd → acc.length = 9) →
      (p_is tx len (p_close kd) (z_at z) = true → ∀ N : Nat, len < z_at z + 1 + N → out_ tx len Q N (wh_ (z_dp z0) (z_at z + 1, z_dp z0, z.2.2) (z_sz z0 : Int))) → (p_is tx len (p_close kd) (z_at z) = false → ∀ z', z_at z' = z_at z → agr_ 384 (z_A z0) (z_A z') → Q (z_at z : Int) z') → ∀ N : Nat, len < z_at z + N → out_ tx len Q N z := by
    intro acc z ho hr hne hl9 hfull h1 h2 N hN
    have hr' := hr
    obtain ⟨r1, r2, r3, r4⟩ := hr
    have hco := ho.2.2.2.2.1
    have hkn := ho.2.2.2.1
    have hop := ho.2.1
    have hdp := ho.1
    have hpos : 0 < acc.length := List.length_pos_iff.mpr hne
    have hag : agr_ 384 (z_A z0) (z_A z) := agr_mono (by omega) r1
    by_cases hat : z_at z = len
    · refine out_end (by rw [r3]; exact hrt) hat hN (h2 ?_ z rfl hag)
      unfold p_is
      exact decide_eq_false (by omega)
    · have hlt : z_at z < len := by have := r4.2.1; omega
      obtain ⟨M, rfl⟩ : ∃ M, N = M + 1 := ⟨N - 1, by omega⟩
      have e1 : z_op z (z_dp z - 1) = (z_sz z0 : Int) := by rw [hdp, Nat.add_sub_cancel]; exact hop
      unfold out_
      rw [if_neg (by rw [r3]; omega), if_neg hat]
      refine ⟨r4, fun z' hz => ?_, fun z' hz => ?_⟩
      · obtain ⟨hc, hz⟩ := hz
        have hn : tx (z_at z) ≠ p_close kd := fun e => hc ⟨by omega, by rw [e1, hco]; omega, by rw [e1, hkn, hcl]; exact e⟩
        have hpi : p_is tx len (p_close kd) (z_at z) = false := by unfold p_is; exact decide_eq_false (fun q => hn q.2)
        have hfil : fil_ z := ⟨by omega, by rw [e1, hkn]; exact hw10, by rw [e1, hco, hfull hlt hn]; rfl⟩
        rcases hz with ⟨_, rfl⟩ | ⟨_, hz, _⟩
        · exact h2 hpi z' rfl hag
        · exact absurd hfil hz
      · rcases hz with ⟨hc, rfl⟩ | ⟨hc, _, hz, _⟩
        · have e2 := hc.2.2
          rw [e1, hkn, hcl] at e2
          have key := h1 (by unfold p_is; exact decide_eq_true ⟨hlt, e2⟩) M (by omega)
          rw [e1, hdp, Nat.add_sub_cancel]
          exact key
        · have hn : tx (z_at z) ≠ p_close kd := fun e => hc ⟨by omega, by rw [e1, hco]; omega, by rw [e1, hkn, hcl]; exact e⟩
          exact absurd ⟨by omega, by rw [e1, hkn]; exact hw10, by rw [e1, hco, hfull hlt hn]; rfl⟩ hz
  intro k
  induction k with
  | zero =>
    intro acc z hk ho hr hs hd hS hF N hN
    have hne : acc ≠ [] := fun e => by rw [e] at hk; simp at hk
    refine close acc z ho hr hne (by omega) (fun _ _ => by omega) (fun hp N hN => hS acc z rfl hp ho hr hs N hN) (fun hp z' hz ha => hF (z_at z) z' (Or.inr ⟨acc, rfl, hp⟩) hz ha) N hN
  | succ k ihk =>
    intro acc z hk ho hr hs hd hS hF N hN
    by_cases hc : acc ≠ [] ∧ p_is tx len (p_close kd) (z_at z) = true
    · have eg : p_grp (prs_ tx len d) tx len (p_close kd) (k + 1) acc (z_at z) = (some acc, z_at z) := by
        unfold p_grp
        rw [if_pos hc]
      have hq := of_decide_eq_true (p := z_at z < len ∧ tx (z_at z) = p_close kd) hc.2
      exact close acc z ho hr hc.1 (by omega) (fun _ hn => absurd hq.2 hn) (fun hp N hN => hS acc z eg hp ho hr hs N hN) (fun hp z' hz ha => hF (z_at z) z' (Or.inr ⟨acc, eg, hp⟩) hz ha) N hN
    · have hco := ho.2.2.2.2.1
      have hkn := ho.2.2.2.1
      have hop := ho.2.1
      have hdp := ho.1
      have e1 : z_op z (z_dp z - 1) = (z_sz z0 : Int) := by rw [hdp, Nat.add_sub_cancel]; exact hop
      have egN : ∀ b, prs_ tx len d (z_at z) = (none, b) → p_grp (prs_ tx len d) tx len (p_close kd) (k + 1) acc (z_at z) = (none, b) := fun b hb => by
        rw [p_grp, if_neg hc, hb]
      have egS : ∀ x b, prs_ tx len d (z_at z) = (some x, b) → p_grp (prs_ tx len d) tx len (p_close kd) (k + 1) acc (z_at z) = p_grp (prs_ tx len d) tx len (p_close kd) k (acc ++ [x]) b := fun x b hb => by
        rw [p_grp, if_neg hc, hb]
      refine child_ ih ho hr hs (by omega) hrt hd (fun hlt => ⟨fun q => ?_, fun q => ?_⟩) (fun x b hb z3 ho3 hr3 ha3 hs3 N3 hN3 => ?_) (fun b z' hb hz ha => hF b z' (Or.inl (egN b hb)) hz ha) N hN
      · apply hc
        have q2 := q.2.1
        have q3 := q.2.2
        rw [e1, hco] at q2
        rw [e1, hkn, hcl] at q3
        exact ⟨fun e => by rw [e] at q2; simp at q2, by unfold p_is; exact decide_eq_true ⟨hlt, q3⟩⟩
      · have q3 := q.2.2
        rw [e1, hco] at q3
        omega
      · rw [hw10, if_neg (by omega)]
        have hle := prs_le tx len d (z_at z) (hr.2.2.2.2.1)
        rw [hb] at hle
        have eg' : p_grp (prs_ tx len d) tx len (p_close kd) (k + 1) acc (z_at z) = p_grp (prs_ tx len d) tx len (p_close kd) k (acc ++ [x]) (z_at z3) := by rw [egS x b hb, ha3]
        refine ihk (acc ++ [x]) z3 (by rw [List.length_append]; show acc.length + 1 + k = 9; omega) ho3 hr3 hs3 (by have := hle.1; dsimp only at this; omega) (fun cs z4 hg hp ho4 hr4 hs4 N4 hN4 => hS cs z4 (by rw [eg']; exact hg) hp ho4 hr4 hs4 N4 hN4) (fun b' z' hg hz ha => hF b' z' (by rw [eg']; exact hg) hz ha) N3 (by rw [ha3]; exact hN3)
theorem psim_all {tx : Nat → Int} {len : Nat} (htx : ∀ j : Nat, j < len → tx j ≠ 0) : ∀ d : Nat, psim_ tx len d
  | 0 => fun z Q hi hr hd hf hS hF N hN => by
    have ha : z_at z = len := by have := hi.2.1; omega
    exact out_end hr ha hN (hF (z_at z) z rfl rfl (agr_refl _ _))
  | d + 1 => fun z Q hi hr hd hf hS hF N hN => by
    have ih := psim_all htx d
    by_cases hat : z_at z = len
    · refine out_end hr hat hN (hF (z_at z) z ?_ rfl (agr_refl _ _))
      rw [prs_s]
      unfold p_step
      rw [if_pos (by omega)]
    · have hlt : z_at z < len := by have := hi.2.1; omega
      obtain ⟨hnc, hnf⟩ := hf hlt
      obtain ⟨M, rfl⟩ : ∃ M, N = M + 1 := ⟨N - 1, by omega⟩
      have ep : prs_ tx len (d + 1) (z_at z) = p_step (prs_ tx len d) tx len (z_at z) := rfl
      have hsz := hi.1
      have h40 := hi.2.2.1
      have hkc := kf_cases (tx (z_at z))
      unfold out_
      rw [if_neg (by omega), if_neg hat]
      refine ⟨hi, fun z' hz => ?_, fun z' hz => ?_⟩
      · obtain ⟨_, hz⟩ := hz
        rcases hz with ⟨hk | hk, rfl⟩ | ⟨hk, _, hdg, hag⟩
        · refine hF (z_at z') z' ?_ rfl (agr_refl _ _)
          rw [ep]
          unfold p_step
          rw [if_neg (by omega), if_neg (by omega), if_neg (by omega), if_neg (by omega)]
        · exact absurd hk hnf
        · by_cases ho : tx (z_at z) = 70 ∨ tx (z_at z) = 83 ∨ tx (z_at z) = 76 ∨ tx (z_at z) = 82 ∨ tx (z_at z) = 69 ∨ tx (z_at z) = 86
          · rw [dig_op ho] at hdg
            refine hF (z_at z') z' ?_ rfl hag
            rw [ep]
            unfold p_step
            rw [if_neg (by omega), if_neg (by omega), if_pos ho, hdg]
          · rw [dig_no hk ho] at hdg
            cases hdg
      · rcases hz with ⟨hc, _⟩ | ⟨_, hk, _, on, tw, th, a, hdg, rfl⟩
        · exact absurd hc hnc
        · have hda := dgs_a hdg hlt
          by_cases hleaf : wn_ (kf_ (tx (z_at z))) = 0
          · -- a letter or a rest
            rw [if_pos hleaf]
            have hk0 : tx (z_at z) = 126 ∨ (97 ≤ tx (z_at z) ∧ tx (z_at z) ≤ 122) := by
              have := wn_or (kf_ (tx (z_at z)))
              omega
            have eT : prs_ tx len (d + 1) (z_at z) = (some (tr_mk (tx (z_at z)) 1 1 0 []), z_at z + 1) := by
              rw [ep]
              unfold p_step
              rw [if_neg (by omega), if_neg (by omega), if_neg (by omega), if_pos hk0]
            have ea : a = z_at z + 1 := by
              obtain ⟨kk, nn, rr, h1, _⟩ := hdg
              rw [dig_no hk (by omega)] at h1
              cases h1
              rfl
            refine hS _ _ eT (nw_ z (kf_ (tx (z_at z))) on tw th a) ⟨ea, rfl, ?_, nw_agr hdg _, fun j _ => ⟨rfl, rfl⟩, rfl, nw_inv hi hlt hdg _⟩ M (by omega)
            obtain ⟨kk, nn, rr, h1, h2, h3, h4, h5, h6⟩ := hdg
            refine ⟨⟨by omega, by show (z_sz z : Int) < ((z_sz z + 1 : Nat) : Int); omega, by show ((z_sz z + 1 : Nat) : Int) ≤ 48; omega⟩, va_up_self _ _ _, va_up_self _ _ _, fun _ => h6 (by omega), fun q => ?_, fun q => ?_, fun q => ?_, fun q => absurd rfl q, fun _ => (z_sz z : Int) + 1, rfl, ?_, fun j x hx => ?_⟩
            · rw [tr_mk_kd] at q; omega
            · rw [tr_mk_kd] at q; omega
            · rw [tr_mk_kd] at q; omega
            · show (z_sz z : Int) + 1 = ((z_sz z + 1 : Nat) : Int)
              omega
            · rw [tr_mk_cs] at hx
              simp at hx
          · rw [if_neg hleaf]
            have hk19 : 1 ≤ kf_ (tx (z_at z)) ∧ kf_ (tx (z_at z)) ≤ 9 := by
              have := wn_or (kf_ (tx (z_at z)))
              omega
            obtain ⟨kk, nn, rr, hdd⟩ : ∃ kk nn rr, p_digs tx len (ks_ (kf_ (tx (z_at z)))) (z_at z + 1) = (some (kk, nn, rr), a) := by
              obtain ⟨kk, nn, rr, h1, _⟩ := hdg
              exact ⟨kk, nn, rr, h1⟩
            have ho := op_opn d hdg hdd
            have hrl := op_rl hi hlt hdg hk19
            have hss : z_sz z < z_sz (opn1_ (nw_ z (kf_ (tx (z_at z))) on tw th a) (z_sz z : Int)) := Nat.lt_succ_self _
            have hza : z_at (opn1_ (nw_ z (kf_ (tx (z_at z))) on tw th a) (z_sz z : Int)) = a := rfl
            generalize hZ : opn1_ (nw_ z (kf_ (tx (z_at z))) on tw th a) (z_sz z : Int) = Z at ho hrl hss hza
            have hco0 := ho.2.2.2.2.1
            have hop0 := ho.2.1
            have hdp0 := ho.1
            have e1 : z_op Z (z_dp Z - 1) = (z_sz z : Int) := by rw [hdp0, Nat.add_sub_cancel]; exact hop0
            by_cases hopr : tx (z_at z) = 70 ∨ tx (z_at z) = 83 ∨ tx (z_at z) = 76 ∨ tx (z_at z) = 82 ∨ tx (z_at z) = 69 ∨ tx (z_at z) = 86
            · rw [dig_op hopr] at hdd
              have ep2 : prs_ tx len (d + 1) (z_at z) = match p_kids (prs_ tx len d) (if tx (z_at z) = 86 then 2 else 1) [] a with
                  | (none, a) => (none, a)
                  | (some cs, a) => (some (tr_mk (tx (z_at z)) kk nn rr cs), a) := by
                rw [ep]
                unfold p_step
                rw [if_neg (by omega), if_neg (by omega), if_pos hopr, hdd]
                rfl
              refine child_ ih ho hrl hss (by simp) hr (by omega) (fun _ => ⟨fun q => ?_, fun q => ?_⟩) (fun x b hb z3 ho3 hr3 ha3 hs3 N3 hN3 => ?_) (fun b z' hb hz ha => hF b z' ?_ hz ha) M (by omega)
              · have q2 := q.2.1
                rw [e1, hco0] at q2
                simp at q2
              · have q2 := q.2.2
                rw [e1, hco0] at q2
                simp at q2
              · rw [hza] at hb
                have hle := prs_le tx len d a hda.2
                rw [hb] at hle
                by_cases h86 : tx (z_at z) = 86
                · rw [if_neg (by rw [h86]; show ¬ ((0 : Int) + 1 = wn_ (kf_ 86)); decide)]
                  have hco3 := ho3.2.2.2.2.1
                  have hkn3 := ho3.2.2.2.1
                  have hop3 := ho3.2.1
                  have hdp3 := ho3.1
                  have e3 : z_op z3 (z_dp z3 - 1) = (z_sz z : Int) := by rw [hdp3, Nat.add_sub_cancel]; exact hop3
                  refine child_ ih ho3 hr3 hs3 (by show 1 ≤ 8; omega) hr (by have := hle.1; dsimp only at this; omega) (fun hlt3 => ⟨fun q => ?_, fun q => ?_⟩) (fun x2 b2 hb2 z4 ho4 hr4 ha4 hs4 N4 hN4 => ?_) (fun b2 z' hb2 hz ha => hF b2 z' ?_ hz ha) N3 (by rw [ha3]; exact hN3)
                  · have q2 := q.2.2
                    rw [e3, hkn3, h86] at q2
                    exact absurd q2 (htx _ hlt3)
                  · have q2 := q.2.2
                    rw [e3, hco3] at q2
                    simp at q2
                  · rw [if_pos (by rw [h86]; show ((1 : Int) + 1 = wn_ (kf_ 86)); decide)]
                    have hle4 := hr4.2.2.2.2.1
                    refine hS (tr_mk (tx (z_at z)) kk nn rr [x, x2]) (z_at z4) ?_ _ (opn_post ho4 hr4 hs4 (by omega) ⟨Nat.le_refl _, hle4⟩) N4 (by rw [ha4]; exact hN4)
                    rw [ha3] at hb2
                    rw [ep2, if_pos h86]
                    unfold p_kids p_kids p_kids
                    rw [hb]
                    dsimp only
                    rw [hb2, ha4]
                    rfl
                  · rw [ha3] at hb2
                    rw [ep2, if_pos h86]
                    unfold p_kids p_kids
                    rw [hb]
                    dsimp only
                    rw [hb2]
                · have hw1 : wn_ (kf_ (tx (z_at z))) = 1 := by
                    have := wn_or (kf_ (tx (z_at z)))
                    omega
                  rw [if_pos (by rw [hw1]; rfl)]
                  have hle3 := hr3.2.2.2.2.1
                  refine hS (tr_mk (tx (z_at z)) kk nn rr [x]) (z_at z3) ?_ _ (opn_post ho3 hr3 hs3 (by omega) ⟨Nat.le_refl _, hle3⟩) N3 (by rw [ha3]; exact hN3)
                  rw [ep2, if_neg h86]
                  unfold p_kids p_kids
                  rw [hb, ha3]
                  rfl
              · rw [hza] at hb
                rw [ep2]
                by_cases h86 : tx (z_at z) = 86
                · rw [if_pos h86]
                  unfold p_kids
                  rw [hb]
                · rw [if_neg h86]
                  unfold p_kids
                  rw [hb]
            · have hkd : tx (z_at z) = 91 ∨ tx (z_at z) = 60 ∨ tx (z_at z) = 123 := by omega
              rw [dig_no hk hopr] at hdd
              cases hdd
              have ep2 : prs_ tx len (d + 1) (z_at z) = match p_grp (prs_ tx len d) tx len (p_close (tx (z_at z))) 9 [] (z_at z + 1) with
                  | (none, a) => (none, a)
                  | (some cs, a) => if p_is tx len (p_close (tx (z_at z))) a = true then (some (tr_mk (tx (z_at z)) 1 (cs.length : Int) 0 cs), a + 1) else (none, a) := by
                rw [ep]
                unfold p_step
                rw [if_neg (by omega), if_pos hkd]
                rfl
              refine grp_ ih hkd hr 9 [] Z rfl ho hrl hss (by omega) (fun cs z3 hg hp ho3 hr3 hs3 N3 hN3 => ?_) (fun b z' hg hz ha => hF b z' ?_ hz ha) M (by omega)
              · rw [hza] at hg
                have hq := of_decide_eq_true (p := z_at z3 < len ∧ tx (z_at z3) = p_close (tx (z_at z))) hp
                have ho4 : opn_ z3 (z_dp z) (z_sz z : Int) (tx (z_at z)) 1 (cs.length : Int) 0 cs := by
                  obtain ⟨o1, o2, o3, o4, o5, o6, o7, o8, o9⟩ := ho3
                  exact ⟨o1, o2, o3, o4, o5, fun q => by omega, fun q => by omega, fun q => by omega, o9⟩
                refine hS (tr_mk (tx (z_at z)) 1 (cs.length : Int) 0 cs) (z_at z3 + 1) ?_ _ (opn_post ho4 hr3 hs3 (by omega) ⟨Nat.le_succ _, hq.1⟩) N3 hN3
                rw [ep2, hg]
                dsimp only
                rw [if_pos hp]
              · rw [hza] at hg
                rw [ep2]
                rcases hg with hg | ⟨cs, hg, hp⟩
                · rw [hg]
                · rw [hg]
                  dsimp only
                  rw [if_neg (by rw [hp]; decide)]
