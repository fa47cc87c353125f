/-! trees and nodes that are only read, now -/
section XWQ
variable {p : Program} {l : Launch} {e : Env} {R : Room} {s : State} {m : MethodId} {args : Array Value} {below : List Frame} {meth : Method} {c : Code} {H : Heap} {locs : List Loc} {cells slots : Nat} {Q : State → Prop}
variable {pc : Nat} {ls : Array Slot} {rest : List Value} {G : GG_} {A : Nat → Prop} {ws : va_W} {H0 : Heap} {S : Nat → Prop}
theorem xw_topr {x : Option Nat} {b : Nat} (h : x = some b) (k : W p l e R s m args below meth c H locs cells slots Q (F0 m pc ls (.ref b :: rest))) : W p l e R s m args below meth c H locs cells slots Q (F0 m pc ls (va_rf x :: rest)) := by subst h; exact k
theorem xw_topn {x : Option Nat} (h : x = none) (k : W p l e R s m args below meth c H locs cells slots Q (F0 m pc ls (.null :: rest))) : W p l e R s m args below meth c H locs cells slots Q (F0 m pc ls (va_rf x :: rest)) := by subst h; exact k
theorem nt_now {d a : Nat} {T : PT d} (hA : ∀ q : Nat, S q → q < H0.size → ¬ A q) (hX : nt_ G S d H0 a T) (hh : xw_H G A H0 H locs ws) : nt_ G S d H a T := nt_keep (fun q h1 h2 => hh.2.2.1.2.1 q h2 (hA q h1 h2)) hX
theorem vp_now {a ia : Nat} {e1 e2 : va_E} (hA : ∀ q : Nat, S q → q < H0.size → ¬ A q) (h1 : S a) (h2 : S ia) (hN : va_P (gD G) classes [(a, e1), (ia, e2)] H0) (hh : xw_H G A H0 H locs ws) : va_P (gD G) classes [(a, e1), (ia, e2)] H := hN.kept (fun k q hq => by
  have hlt := (hN k q hq).lt
  match k, hq with
  | 0, hq => cases hq; exact hh.2.2.1.2.1 _ hlt (hA _ h1 hlt)
  | 1, hq => cases hq; exact hh.2.2.1.2.1 _ hlt (hA _ h2 hlt)
  | k + 2, hq => simp at hq)
theorem not_in4 {o r v ra sz : Nat} {e1 e2 e3 e4 : va_E} (hS : ∀ q : Nat, S q → q ≠ o ∧ q ≠ r ∧ q ≠ v ∧ q ≠ ra) : ∀ q : Nat, S q → q < sz → ¬ va_A [(o, e1), (r, e2), (v, e3), (ra, e4)] sz q := by
  intro q hq hl hz
  obtain ⟨h1, h2, h3, h4⟩ := hS q hq
  rcases hz with ⟨k, e, hz⟩ | hz
  · match k, hz with
    | 0, hz => exact h1 (congrArg Prod.fst (Option.some.inj hz)).symm
    | 1, hz => exact h2 (congrArg Prod.fst (Option.some.inj hz)).symm
    | 2, hz => exact h3 (congrArg Prod.fst (Option.some.inj hz)).symm
    | 3, hz => exact h4 (congrArg Prod.fst (Option.some.inj hz)).symm
    | k + 4, hz => simp at hz
  · omega
/-- a node or null, and the pattern or none -/
def nto_ (G : GG_) (S : Nat → Prop) (d : Nat) (H : Heap) (na : Option Nat) (xo : Option (PT d)) : Prop := match na, xo with
  | none, none => True
  | some a, some T => nt_ G S d H a T
  | _, _ => False
theorem nto_now {d : Nat} {na : Option Nat} {xo : Option (PT d)} (hA : ∀ q : Nat, S q → q < H0.size → ¬ A q) (hX : nto_ G S d H0 na xo) (hh : xw_H G A H0 H locs ws) : nto_ G S d H na xo := by
  match na, xo, hX with
  | none, none, _ => trivial
  | some a, some T, hX => exact nt_now hA hX hh
end XWQ
theorem drop_cons {α : Type} {l : List α} {i : Nat} {x : α} (h : l[i]? = some x) : l.drop i = x :: l.drop (i + 1) := by
  obtain ⟨h1, h2⟩ := List.getElem?_eq_some_iff.mp h
  rw [List.drop_eq_getElem_cons h1, h2]
theorem run_cons {lim : Nat} {sk : Ev_ → List Row_} {α : Type} {F : α → List Ev_} {x : α} {l : List α} {st : List Row_ × Bool} : run_ lim sk ((x :: l).flatMap F) st = run_ lim sk (l.flatMap F) (run_ lim sk (F x) st) := by
  rw [List.flatMap_cons, run_app]
