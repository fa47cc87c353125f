/-! a walk's methods: rooms, what each says -/
def rm_Wk_walk (d : Nat) : Room := { frames := 10 + 5 * d, cells := 0, slots := 0, locals := 300 + 200 * d }
def rm_Wk_walkInto (d : Nat) : Room := { frames := 11 + 5 * d, cells := 0, slots := 0, locals := 340 + 200 * d }
def rm_Wk_walkSteps (d : Nat) : Room := { frames := 12 + 5 * d, cells := 0, slots := 0, locals := 380 + 200 * d }
def rm_Wk_walkCycle (d : Nat) : Room := { frames := 13 + 5 * d, cells := 0, slots := 0, locals := 420 + 200 * d }
def rm_Wk_walkCycles (d : Nat) : Room := { frames := 14 + 5 * d, cells := 0, slots := 0, locals := 460 + 200 * d }
theorem wf_rng {d : Nat} {T : PT (d + 1)} (h : wf_1 T) : (0 ≤ tr_kd T ∧ tr_kd T ≤ 65535) ∧ (0 ≤ tr_k T ∧ tr_k T ≤ 9) ∧ (1 ≤ tr_n T ∧ tr_n T ≤ 9) ∧ (0 ≤ tr_r T ∧ tr_r T ≤ 9) ∧ (tr_cs T).length ≤ 9 := by
  rcases h with h | h | h | h | h | h | h <;> omega
theorem td_ex {w n : Int} (h : n ∣ w) : w.tdiv n = w / n := Int.tdiv_eq_ediv_of_dvd h
/-- one step of a cycle of [ ] or E -/
def stp_ {d : Nat} (T : PT (d + 1)) (w o f t c : Int) (i : Nat) : List Ev_ :=
  if tr_kd T = 91 then g_into (gen_ d) (tr_cs T)[i]? c (w / tr_n T) (o + w * c + w / tr_n T * ((i : Int) - c)) f t
  else if ((i : Int) + tr_r T) * tr_k T % tr_n T < tr_k T then g_into (gen_ d) (tr_cs T)[0]? c (w / tr_n T) (o + w * c + w / tr_n T * ((i : Int) - c)) f t else []
theorem stp_cyc {d : Nat} {T : PT (d + 1)} (hk : tr_kd T = 91 ∨ tr_kd T = 69) (w o f t c : Int) : g_cyc (gen_ d) T w o f t c = (List.range (tr_n T).toNat).flatMap (stp_ T w o f t c) := by
  unfold g_cyc stp_
  rcases hk with hk | hk
  · rw [if_pos hk]
    congr 1
    funext i
    rw [if_pos hk]
  · rw [if_neg (by omega), if_pos hk]
    congr 1
    funext i
    rw [if_neg (c := tr_kd T = 91) (by omega)]
theorem stp_pick {G : GG_} {S : Nat → Prop} {d : Nat} {H : Heap} {T : PT (d + 1)} {fch : Nat → Option Nat} (hwf : wf_1 T) (hkid : ∀ (i : Nat) (x : PT d), (tr_cs T)[i]? = some x → ∃ b, fch i = some b ∧ nt_ G S d H b x) (hk : tr_kd T = 91 ∨ tr_kd T = 69) {i : Int} (hi : 0 ≤ i ∧ i < tr_n T) {x : Option Nat}
    (hx : x = if tr_kd T = 91 then (if 0 ≤ i ∧ i < ((tr_cs T).length : Int) then fch i.toNat else none) else if 0 < tr_n T ∧ ((i + tr_r T) * tr_k T).tmod (tr_n T) < tr_k T then (if 0 < ((tr_cs T).length : Int) then fch 0 else none) else none) (w o f t c : Int) :
    ∃ xo : Option (PT d), nto_ G S d H x xo ∧ stp_ T w o f t c i.toNat = g_into (gen_ d) xo c (w / tr_n T) (o + w * c + w / tr_n T * (i - c)) f t ∧ ∀ y, xo = some y → ∃ j : Nat, (tr_cs T)[j]? = some y := by
  have hr := wf_rng hwf
  have hci : ((i.toNat : Nat) : Int) = i := by omega
  unfold stp_
  rw [hci]
  rcases hk with hk | hk
  · have hl : tr_n T = ((tr_cs T).length : Int) := by rcases hwf with h | h | h | h | h | h | h <;> omega
    rw [if_pos hk, if_pos (by omega)] at hx
    rw [if_pos hk]
    obtain ⟨y, hy⟩ : ∃ y, (tr_cs T)[i.toNat]? = some y := ⟨_, List.getElem?_eq_getElem (by omega)⟩
    obtain ⟨b, h1, h2⟩ := hkid _ y hy
    refine ⟨some y, ?_, by rw [hy], fun z hz => ⟨_, by rw [hy, hz]⟩⟩
    rw [hx, h1]
    exact h2
  · have hl : (tr_cs T).length = 1 := by rcases hwf with h | h | h | h | h | h | h <;> omega
    rw [if_neg (by omega)] at hx
    rw [if_neg (by omega)]
    have hnn : 0 ≤ (i + tr_r T) * tr_k T := Int.mul_nonneg (by omega) (by omega)
    rw [Int.tmod_eq_emod_of_nonneg hnn] at hx
    by_cases hc : (i + tr_r T) * tr_k T % tr_n T < tr_k T
    · rw [if_pos ⟨by omega, hc⟩, if_pos (by omega)] at hx
      rw [if_pos hc]
      obtain ⟨y, hy⟩ : ∃ y, (tr_cs T)[0]? = some y := ⟨_, List.getElem?_eq_getElem (by omega)⟩
      obtain ⟨b, h1, h2⟩ := hkid _ y hy
      refine ⟨some y, ?_, by rw [hy], fun z hz => ⟨_, by rw [hy, hz]⟩⟩
      rw [hx, h1]
      exact h2
    · rw [if_neg (fun q => hc q.2)] at hx
      rw [if_neg hc]
      exact ⟨none, by rw [hx]; trivial, rfl, fun z hz => by cases hz⟩
