theorem goes_at {tx : Nat → Int} {len : Nat} {z z' : MZ} (hl : z_at z < len) (h : goes_ tx len z z') : z_at z' ≤ len := by
  rcases h with ⟨_, rfl⟩ | ⟨_, _, _, on, tw, th, a, hd, rfl⟩
  · rw [(wh_keep _ _ _).1]
    show z_at z + 1 ≤ len
    omega
  · have ha := dgs_a hd hl
    split
    · rw [(wh_keep _ _ _).1]
      exact ha.2
    · exact ha.2
theorem fails_at {tx : Nat → Int} {len : Nat} {z z' : MZ} (hl : z_at z < len) (h : fails_ tx len z z') : z_at z' ≤ len := by
  rcases h with ⟨_, ⟨_, rfl⟩ | ⟨_, _, hd, _⟩⟩
  · omega
  · have := p_digs_le (tx := tx) (len := len) (kd := ks_ (kf_ (tx (z_at z)))) (at_ := z_at z + 1) (by omega)
    rw [hd] at this
    exact this.2
/-- k places copied to b -/
def cp_ (f : Nat → Int) (b k : Nat) : Nat → Int := fun j => if b ≤ j ∧ j < b + k then f (384 + (j - b)) else f j
theorem cp_0 (f : Nat → Int) (b : Nat) : cp_ f b 0 = f := by
  funext j
  unfold cp_
  exact if_neg (by omega)
theorem cp_s {f : Nat → Int} {b k X Y : Nat} (hX : X = b + k) (hY : Y = 384 + k) (hb : b + 48 ≤ 384) (hk : k < 48) : va_up (cp_ f b k) X (cp_ f b k Y) = cp_ f b (k + 1) := by
  subst hX
  subst hY
  funext j
  unfold va_up cp_
  by_cases hj : j = b + k
  · subst hj
    rw [if_pos rfl, if_neg (by omega), if_pos (by omega)]
    congr 1
    omega
  · rw [if_neg hj]
    by_cases h2 : b ≤ j ∧ j < b + k
    · rw [if_pos h2, if_pos (by omega)]
    · rw [if_neg h2, if_neg (by omega)]
theorem cp_in {f : Nat → Int} {b k : Nat} {q : Int} (h0 : 0 ≤ q) (h : q < (k : Int)) : cp_ f b k ((b : Int) + q).toNat = f (384 + q).toNat := by
  unfold cp_
  rw [if_pos (by omega)]
  congr 1
  omega
theorem cp_out {f : Nat → Int} {b k j : Nat} (h : j < b ∨ b + k ≤ j) : cp_ f b k j = f j := by
  unfold cp_
  exact if_neg (by omega)
def cpA_ (A : MT) (b k : Nat) : MT := (cp_ (a_kn A) b k, cp_ (a_on A) b k, cp_ (a_tw A) b k, cp_ (a_th A) b k, cp_ (a_fi A) b k, cp_ (a_ne A) b k, cp_ (a_co A) b k)
/-- the model's eight patterns -/
def msl_ (A : MT) (ro gr gsf : Nat → Int) (Tr : Nat → PT 40) : Prop := ∀ j : Nat, j < 8 → (∃ m : Int, rep_ A (48 * (j : Int)) 40 (Tr j) (ro j) m) ∧ gr j = gsf j
theorem msl_agr {A A' : MT} {ro gr gsf : Nat → Int} {Tr : Nat → PT 40} (h : msl_ A ro gr gsf Tr) (hg : agr_ 384 A A') {ro' : Nat → Int} (hr : ∀ j : Nat, j < 8 → ro' j = ro j) : msl_ A' ro' gr gsf Tr := fun j hj => by
  obtain ⟨⟨m, hm⟩, h2⟩ := h j hj
  refine ⟨⟨m, ?_⟩, h2⟩
  rw [hr j hj]
  have hrg := rep_rng hm
  refine rep_mv hm (fun q q1 q2 => ?_)
  obtain ⟨a1, a2, a3, a4, a5, a6, a7⟩ := hg (48 * (j : Int) + q).toNat (by omega)
  exact ⟨a1, a2, a3, a4, a5, a7, fun _ => a6⟩
theorem msl_cp {A : MT} {ro gr gsf : Nat → Int} {Tr : Nat → PT 40} (h : msl_ A ro gr gsf Tr) {n : Nat} (hn : n < 8) {T : PT 40} {k : Nat} (hk : k ≤ 48) (hT : rep_ A 384 40 T 0 (k : Int)) (g : Int) {ro' gr' : Nat → Int} (hr : ∀ j : Nat, j < 8 → ro' j = if j = n then 0 else ro j) (hgr : ∀ j : Nat, j < 8 → gr' j = if j = n then g else gr j) :
    msl_ (cpA_ A (48 * n) k) ro' gr' (va_up gsf n g) (va_up Tr n T) := fun j hj => by
  rw [hr j hj, hgr j hj]
  by_cases hjn : j = n
  · subst hjn
    rw [if_pos rfl, if_pos rfl, va_up_self, va_up_self]
    refine ⟨⟨(k : Int), rep_mv hT (fun q q1 q2 => ?_)⟩, rfl⟩
    have e : (48 * (j : Int) + q).toNat = (((48 * j : Nat) : Int) + q).toNat := by omega
    rw [e]
    exact ⟨cp_in q1 q2, cp_in q1 q2, cp_in q1 q2, cp_in q1 q2, cp_in q1 q2, cp_in q1 q2, fun _ => cp_in q1 q2⟩
  · obtain ⟨⟨m, hm⟩, h2⟩ := h j hj
    rw [if_neg hjn, if_neg hjn, va_up_ne _ _ hjn, va_up_ne _ _ hjn]
    have hrg := rep_rng hm
    refine ⟨⟨m, rep_mv hm (fun q q1 q2 => ?_)⟩, h2⟩
    have ho : (48 * (j : Int) + q).toNat < 48 * n ∨ 48 * n + k ≤ (48 * (j : Int) + q).toNat := by omega
    exact ⟨cp_out ho, cp_out ho, cp_out ho, cp_out ho, cp_out ho, cp_out ho, fun _ => cp_out ho⟩
/-- the grain of what was read -/
theorem read_fac {A : MT} {T : PT 40} {k : Nat} (hT : rep_ A 384 40 T 0 (k : Int)) (hw : wf_ 40 T) : gpr_ A 384 k 0 = gn_ 40 T ∧ ∀ i : Nat, i < k → 1 ≤ fac_ A (384 + 0 + (i : Int)).toNat ∧ fac_ A (384 + 0 + (i : Int)).toNat ≤ 9 := by
  refine ⟨?_, fun i hi => ?_⟩
  · have := rep_gn hT hw
    rw [show ((k : Int) - 0).toNat = k by omega] at this
    exact this
  · have := rep_fac hT hw (i : Int) (by omega) (by omega)
    rw [show (384 : Int) + 0 + (i : Int) = 384 + (i : Int) by omega]
    exact this
