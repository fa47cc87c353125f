/-! the library's members that are called: arraycopy in one int array, max, min, abs of longs, max of ints -/
section XWL
variable {p : Program} {l : Launch} {e : Env} {R : Room} {s : State} {m : MethodId} {args : Array Value} {below : List Frame} {meth : Method} {c : Code} {H : Heap} {locs : List Loc} {cells slots : Nat} {Q : State → Prop}
variable {cc : ByteArray} {nL pc index : Nat} {ls : Array Slot} {rest : List Value} {own : String} {G : GG_} {A : Nat → Prop} {a : Nat} {ws : va_W} {H0 : Heap}
theorem ja_cpy (f g : Nat → Int) (sp dp n : Nat) : va_cpy (ja_ f) (ja_ g) sp dp n = ja_ (va_cpy f g sp dp n) := by
  funext j
  show (if dp ≤ j ∧ j < dp + n then xi_ (f (sp + (j - dp))) else xi_ (g j)) = xi_ (if dp ≤ j ∧ j < dp + n then f (sp + (j - dp)) else g j)
  split <;> rfl
theorem xw_acopy (F : xw_F p s m args c cc nL own G) (hh : xw_H G A H0 H locs ws) (hsz : ls.size = nL) (lk : Cond.methodLink own index arraycopyName ∈ WS) (q0 : Nat) {n : Nat} {f : Nat → Int} (ha : ws[q0]? = some (a, .inl (G.2.2 0, n, .inl (ja_ f)))) {sp dp k : Int} (h : 0 ≤ sp ∧ 0 ≤ dp ∧ 0 ≤ k ∧ sp + k ≤ (n : Int) ∧ dp + k ≤ (n : Int) ∧ (n : Int) ≤ 2147483647)
    (hfr : 1 ≤ R.frames) (hlo : (rest.map fun v => v.category).sum + (nativeFrameWords "java/lang/System" "arraycopy" 5 + 11) ≤ R.locals) (hd : decode cc pc = .ok (.invokestatic index, 3))
    (kk : ∀ (H1 : Heap) (locs1 : List Loc), xw_H G A H0 H1 locs1 (ws.set q0 (a, .inl (G.2.2 0, n, .inl (ja_ (va_cpy f f sp.toNat dp.toNat k.toNat))))) → W p l e R s m args below meth c H1 locs1 cells slots Q (F0 m (pc + 3) ls rest)) : W p l e R s m args below meth c H locs cells slots Q (F0 m pc ls (.int (xi_ k) :: .int (xi_ dp) :: .ref a :: .int (xi_ sp) :: .ref a :: rest)) := by
  obtain ⟨hx, hb, hml, hown, hts, hE⟩ := F
  obtain ⟨hP, hD, hS, hA⟩ := hh
  have n0 : ∀ z : Int, 0 ≤ z → z ≤ 2147483647 → ¬ xi_ z < 0 := fun z h1 h2 q => by
    rw [xi_0, xi_lt (by omega)] at q
    omega
  have w1 : Cond.native arraycopyName ∈ WS := tb_in (i := 363) rfl (by decide +kernel)
  have w2 : Cond.static arraycopyName ∈ WS := tb_in (i := 362) rfl (by decide +kernel)
  have w3 : Cond.initialized "java/lang/System" ∈ WS := tb_in (i := 10) rfl (by decide +kernel)
  refine va_copyi (ty := .int) hx hb (hml.trans hsz.symm) hown (hts _ lk) (hts _ w1) (hts _ w2) (hts _ w3) hE.1 hP hD hS q0 q0 0 0 ha ha rfl rfl rfl (n0 sp (by omega) (by omega)) (n0 dp (by omega) (by omega)) (n0 k (by omega) (by omega)) ?_ ?_ (fun _ _ => rfl) hfr hlo hd (fun H1 locs1 a1 a2 a3 => kk H1 locs1 ?_)
  · rw [xi_cl (by omega), xi_cl (by omega)]; omega
  · rw [xi_cl (by omega), xi_cl (by omega)]; omega
  · rw [xi_cl (by omega), xi_cl (by omega), xi_cl (by omega), ja_cpy] at a1 a2
    exact ⟨a1, a2, a3, hA⟩
theorem xw_maxl (F : xw_F p s m args c cc nL own G) (hsz : ls.size = nL) (lk : Cond.methodLink own index ⟨"java/lang/Math", "max", "(JJ)J"⟩ ∈ WS) (hfr : 1 ≤ R.frames) (hlo : (rest.map fun v => v.category).sum + 15 ≤ R.locals) (hc : cells ≤ R.cells) (hs : slots ≤ R.slots) {x y : Int} (h : (-9223372036854775808 ≤ y ∧ y ≤ 9223372036854775807) ∧ (-9223372036854775808 ≤ x ∧ x ≤ 9223372036854775807)) (hd : decode cc pc = .ok (.invokestatic index, 3))
    (kk : W p l e R s m args below meth c H locs cells slots Q (F0 m (pc + 3) ls (.long (xl_ (max x y)) :: rest))) : W p l e R s m args below meth c H locs cells slots Q (F0 m pc ls (.long (xl_ y) :: .long (xl_ x) :: rest)) := by
  obtain ⟨hx, hb, hml, hown, hts, hE⟩ := F
  have w1 : Cond.static Lib.MathLoose.max_long.x ∈ WS := tb_in (i := 334) rfl (by decide +kernel)
  have w2 : Cond.code Lib.MathLoose.max_long.x Lib.MathLoose.max_long.code 4 (some .long) ∈ WS := tb_in (i := 335) rfl (by decide +kernel)
  have w3 : Cond.initialized "java/lang/Math" ∈ WS := tb_in (i := 9) rfl (by decide +kernel)
  refine va_mmax_long hx hb (hml.trans hsz.symm) hown (hts _ lk) (hts _ w1) (hts _ w3) (hts _ w2) hfr hlo hc hs hd ?_
  have e : (if xl_ y < xl_ x then xl_ x else xl_ y) = xl_ (max x y) := by
    by_cases q : y < x
    · rw [if_pos ((xl_lt h).mpr q), show max x y = x by omega]
    · rw [if_neg (fun z => q ((xl_lt h).mp z)), show max x y = y by omega]
  rw [e]
  exact kk
theorem xw_minl (F : xw_F p s m args c cc nL own G) (hsz : ls.size = nL) (lk : Cond.methodLink own index ⟨"java/lang/Math", "min", "(JJ)J"⟩ ∈ WS) (hfr : 1 ≤ R.frames) (hlo : (rest.map fun v => v.category).sum + 15 ≤ R.locals) (hc : cells ≤ R.cells) (hs : slots ≤ R.slots) {x y : Int} (h : (-9223372036854775808 ≤ y ∧ y ≤ 9223372036854775807) ∧ (-9223372036854775808 ≤ x ∧ x ≤ 9223372036854775807)) (hd : decode cc pc = .ok (.invokestatic index, 3))
    (kk : W p l e R s m args below meth c H locs cells slots Q (F0 m (pc + 3) ls (.long (xl_ (min x y)) :: rest))) : W p l e R s m args below meth c H locs cells slots Q (F0 m pc ls (.long (xl_ y) :: .long (xl_ x) :: rest)) := by
  obtain ⟨hx, hb, hml, hown, hts, hE⟩ := F
  have w1 : Cond.static Lib.MathLoose.min_long.x ∈ WS := tb_in (i := 340) rfl (by decide +kernel)
  have w2 : Cond.code Lib.MathLoose.min_long.x Lib.MathLoose.min_long.code 4 (some .long) ∈ WS := tb_in (i := 341) rfl (by decide +kernel)
  have w3 : Cond.initialized "java/lang/Math" ∈ WS := tb_in (i := 9) rfl (by decide +kernel)
  refine va_mmin_long hx hb (hml.trans hsz.symm) hown (hts _ lk) (hts _ w1) (hts _ w3) (hts _ w2) hfr hlo hc hs hd ?_
  have e : (if xl_ y < xl_ x then xl_ y else xl_ x) = xl_ (min x y) := by
    by_cases q : y < x
    · rw [if_pos ((xl_lt h).mpr q), show min x y = y by omega]
    · rw [if_neg (fun z => q ((xl_lt h).mp z)), show min x y = x by omega]
  rw [e]
  exact kk
theorem xw_absl (F : xw_F p s m args c cc nL own G) (hsz : ls.size = nL) (lk : Cond.methodLink own index ⟨"java/lang/Math", "abs", "(J)J"⟩ ∈ WS) (hfr : 1 ≤ R.frames) (hlo : (rest.map fun v => v.category).sum + 13 ≤ R.locals) (hc : cells ≤ R.cells) (hs : slots ≤ R.slots) {x : Int} (h : -9223372036854775808 ≤ x ∧ x ≤ 9223372036854775807) (hd : decode cc pc = .ok (.invokestatic index, 3))
    (kk : W p l e R s m args below meth c H locs cells slots Q (F0 m (pc + 3) ls (.long (xl_ (if 0 < x then x else -x)) :: rest))) : W p l e R s m args below meth c H locs cells slots Q (F0 m pc ls (.long (xl_ x) :: rest)) := by
  obtain ⟨hx, hb, hml, hown, hts, hE⟩ := F
  have w1 : Cond.static Lib.MathLoose.abs_long.x ∈ WS := tb_in (i := 308) rfl (by decide +kernel)
  have w2 : Cond.code Lib.MathLoose.abs_long.x Lib.MathLoose.abs_long.code 2 (some .long) ∈ WS := tb_in (i := 309) rfl (by decide +kernel)
  have w3 : Cond.initialized "java/lang/Math" ∈ WS := tb_in (i := 9) rfl (by decide +kernel)
  refine va_mabs_long hx hb (hml.trans hsz.symm) hown (hts _ lk) (hts _ w1) (hts _ w3) (hts _ w2) hfr hlo hc hs hd ?_
  have e : (if 0 < xl_ x then xl_ x else - xl_ x) = xl_ (if 0 < x then x else -x) := by
    have h2 : (0 : Int64) < xl_ x ↔ 0 < x := by rw [xl_0, xl_lt (by omega)]
    by_cases q : 0 < x
    · rw [if_pos (h2.mpr q), if_pos q]
    · rw [if_neg (fun z => q (h2.mp z)), if_neg q, xl_neg]
  rw [e]
  exact kk
/-- the sign of an exclusive or -/
theorem xl_xor_neg (x y : Int64) : (x ^^^ y) < 0 ↔ ¬ (x < 0 ↔ y < 0) := by
  have h : ∀ z : Int64, z < 0 ↔ z.toBitVec.msb = true := fun z => by
    exact BitVec.slt_zero_iff_msb_cond (x := z.toBitVec)
  rw [h, h, h, Int64.toBitVec_xor, BitVec.msb_xor]
  cases x.toBitVec.msb <;> cases y.toBitVec.msb <;> decide
end XWL
