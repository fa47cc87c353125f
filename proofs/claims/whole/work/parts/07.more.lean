/-! a world in another order, or a part of it -/
theorem xw_H.sub {G : GG_} {A : Nat → Prop} {H0 H : Heap} {locs : List Loc} {ws ws' : va_W} (hh : xw_H G A H0 H locs ws) (is : List Nat) (hn : va_nd is = true) (hs : is.map (fun i => ws[i]?) = ws'.map some) : xw_H G A H0 H locs ws' := by
  refine ⟨fun k q hk => ?_, hh.2.1.sub is hn hs, hh.2.2.1, hh.2.2.2⟩
  have h1 : (is.map (fun i => ws[i]?))[k]? = some (some q) := by rw [hs, List.getElem?_map, hk]; rfl
  rw [List.getElem?_map] at h1
  cases hi : is[k]? with
  | none => rw [hi] at h1; cases h1
  | some i => rw [hi] at h1; exact hh.1 i q (Option.some.inj h1)
