/-! making arrays and objects -/
section XWM
variable {p : Program} {l : Launch} {e : Env} {R : Room} {s : State} {m : MethodId} {args : Array Value} {below : List Frame} {meth : Method} {c : Code} {H : Heap} {locs : List Loc} {cells slots : Nat} {Q : State → Prop}
variable {cc : ByteArray} {nL pc index : Nat} {ls : Array Slot} {rest : List Value} {own : String} {G : GG_} {A : Nat → Prop} {a : Nat} {ws : va_W} {H0 : Heap}
theorem xw_n0 {n : Int} (h : 0 ≤ n ∧ n ≤ 100000) : ¬ xi_ n < 0 := fun q => by
  rw [xi_0, xi_lt (by omega)] at q
  omega
theorem xw_newi (F : xw_F p s m args c cc nL own G) (hh : xw_H G A H0 H locs ws) {n : Int} {N : Nat} (hN : n = (N : Int) ∧ n ≤ 100000) (hcells : cells + 1 ≤ R.cells) (hslots : slots + N ≤ R.slots) (hd : decode cc pc = .ok (.newarray .int, 2))
    (kk : ∀ (q : Nat) (H1 : Heap), xw_H G A H0 H1 locs (ws ++ [(q, .inl (G.2.2 0, N, .inl (ja_ (fun _ => 0))))]) → W p l e R s m args below meth c H1 locs (cells + 1) (slots + N) Q (F0 m (pc + 2) ls (.ref q :: rest))) : W p l e R s m args below meth c H locs cells slots Q (F0 m pc ls (.int (xi_ n) :: rest)) := by
  obtain ⟨hx, hb, -, -, hts, hE⟩ := F
  obtain ⟨hP, hD, hS, hA⟩ := hh
  refine va_newa (atype := .int) (ty := .int) (a0 := (N, .inl (ja_ (fun _ => 0)))) hx hb (hts _ ac_int) rfl hE.1 hP hD hS hA (fun cA => ?_) (xw_n0 (by omega)) (by rw [xi_cl (by omega)]; omega) (by show N * 4 ≤ _; omega) hcells hslots hd (fun q cA H1 k1 k2 k3 k4 => ?_)
  · show arrV cA N (fun _ => .int (xi_ 0)) = _
    rw [← xi_0]
    rfl
  · have e : cA = G.2.2 0 := by
      have h1 := (k1.2 5 (cA, .int) rfl).2
      have h2 := (hE.1.2 0 (G.2.2 0, .int) rfl).2
      exact Option.some.inj ((show s.vm.findClass _ = some cA from h1).symm.trans h2)
    subst e
    exact kk q H1 ⟨k2, k3, k4, hA⟩
theorem xw_newl (F : xw_F p s m args c cc nL own G) (hh : xw_H G A H0 H locs ws) {n : Int} {N : Nat} (hN : n = (N : Int) ∧ n ≤ 100000) (hcells : cells + 1 ≤ R.cells) (hslots : slots + N ≤ R.slots) (hd : decode cc pc = .ok (.newarray .long, 2))
    (kk : ∀ (q : Nat) (H1 : Heap), xw_H G A H0 H1 locs (ws ++ [(q, .inl (G.2.2 1, N, .inr (.inl (jl_ (fun _ => 0)))))]) → W p l e R s m args below meth c H1 locs (cells + 1) (slots + N) Q (F0 m (pc + 2) ls (.ref q :: rest))) : W p l e R s m args below meth c H locs cells slots Q (F0 m pc ls (.int (xi_ n) :: rest)) := by
  obtain ⟨hx, hb, -, -, hts, hE⟩ := F
  obtain ⟨hP, hD, hS, hA⟩ := hh
  refine va_newa (atype := .long) (ty := .long) (a0 := (N, .inr (.inl (jl_ (fun _ => 0))))) hx hb (hts _ ac_long) rfl hE.1 hP hD hS hA (fun cA => ?_) (xw_n0 (by omega)) (by rw [xi_cl (by omega)]; omega) (by show N * 8 ≤ _; omega) hcells hslots hd (fun q cA H1 k1 k2 k3 k4 => ?_)
  · show arrV cA N (fun _ => .long (xl_ 0)) = _
    rw [← xl_0]
    rfl
  · have e : cA = G.2.2 1 := by
      have h1 := (k1.2 5 (cA, .long) rfl).2
      have h2 := (hE.1.2 1 (G.2.2 1, .long) rfl).2
      exact Option.some.inj ((show s.vm.findClass _ = some cA from h1).symm.trans h2)
    subst e
    exact kk q H1 ⟨k2, k3, k4, hA⟩
theorem xw_newc (F : xw_F p s m args c cc nL own G) (hh : xw_H G A H0 H locs ws) {n : Int} {N : Nat} (hN : n = (N : Int) ∧ n ≤ 100000) (hcells : cells + 1 ≤ R.cells) (hslots : slots + N ≤ R.slots) (hd : decode cc pc = .ok (.newarray .char, 2))
    (kk : ∀ (q : Nat) (H1 : Heap), xw_H G A H0 H1 locs (ws ++ [(q, .inl (G.2.2 2, N, .inl (ja_ (fun _ => 0))))]) → W p l e R s m args below meth c H1 locs (cells + 1) (slots + N) Q (F0 m (pc + 2) ls (.ref q :: rest))) : W p l e R s m args below meth c H locs cells slots Q (F0 m pc ls (.int (xi_ n) :: rest)) := by
  obtain ⟨hx, hb, -, -, hts, hE⟩ := F
  obtain ⟨hP, hD, hS, hA⟩ := hh
  refine va_newa (atype := .char) (ty := .char) (a0 := (N, .inl (ja_ (fun _ => 0)))) hx hb (hts _ ac_char) rfl hE.1 hP hD hS hA (fun cA => ?_) (xw_n0 (by omega)) (by rw [xi_cl (by omega)]; omega) (by show N * 2 ≤ _; omega) hcells hslots hd (fun q cA H1 k1 k2 k3 k4 => ?_)
  · show arrV cA N (fun _ => .int (xi_ 0)) = _
    rw [← xi_0]
    rfl
  · have e : cA = G.2.2 2 := by
      have h1 := (k1.2 5 (cA, .char) rfl).2
      have h2 := (hE.1.2 2 (G.2.2 2, .char) rfl).2
      exact Option.some.inj ((show s.vm.findClass _ = some cA from h1).symm.trans h2)
    subst e
    exact kk q H1 ⟨k2, k3, k4, hA⟩
theorem xw_newz (F : xw_F p s m args c cc nL own G) (hh : xw_H G A H0 H locs ws) {n : Int} {N : Nat} (hN : n = (N : Int) ∧ n ≤ 100000) (hcells : cells + 1 ≤ R.cells) (hslots : slots + N ≤ R.slots) (hd : decode cc pc = .ok (.newarray .boolean, 2))
    (kk : ∀ (q : Nat) (H1 : Heap), xw_H G A H0 H1 locs (ws ++ [(q, .inl (G.2.2 3, N, .inl (ja_ (fun _ => 0))))]) → W p l e R s m args below meth c H1 locs (cells + 1) (slots + N) Q (F0 m (pc + 2) ls (.ref q :: rest))) : W p l e R s m args below meth c H locs cells slots Q (F0 m pc ls (.int (xi_ n) :: rest)) := by
  obtain ⟨hx, hb, -, -, hts, hE⟩ := F
  obtain ⟨hP, hD, hS, hA⟩ := hh
  refine va_newa (atype := .boolean) (ty := .boolean) (a0 := (N, .inl (ja_ (fun _ => 0)))) hx hb (hts _ ac_boolean) rfl hE.1 hP hD hS hA (fun cA => ?_) (xw_n0 (by omega)) (by rw [xi_cl (by omega)]; omega) (by show N * 1 ≤ _; omega) hcells hslots hd (fun q cA H1 k1 k2 k3 k4 => ?_)
  · show arrV cA N (fun _ => .int (xi_ 0)) = _
    rw [← xi_0]
    rfl
  · have e : cA = G.2.2 3 := by
      have h1 := (k1.2 5 (cA, .boolean) rfl).2
      have h2 := (hE.1.2 3 (G.2.2 3, .boolean) rfl).2
      exact Option.some.inj ((show s.vm.findClass _ = some cA from h1).symm.trans h2)
    subst e
    exact kk q H1 ⟨k2, k3, k4, hA⟩
theorem xw_newq (F : xw_F p s m args c cc nL own G) (hh : xw_H G A H0 H locs ws) (cl : Cond.classLink own index R_N ∈ WS) {n : Int} {N : Nat} (hN : n = (N : Int) ∧ n ≤ 100000) (hcells : cells + 1 ≤ R.cells) (hslots : slots + N ≤ R.slots) (hd : decode cc pc = .ok (.anewarray index, 3))
    (kk : ∀ (q : Nat) (H1 : Heap), xw_H G A H0 H1 locs (ws ++ [(q, .inl (G.2.2 4, N, .inr (.inr (.inr (.inr (fun _ => none))))))]) → W p l e R s m args below meth c H1 locs (cells + 1) (slots + N) Q (F0 m (pc + 3) ls (.ref q :: rest))) : W p l e R s m args below meth c H locs cells slots Q (F0 m pc ls (.int (xi_ n) :: rest)) := by
  obtain ⟨hx, hb, -, hown, hts, hE⟩ := F
  obtain ⟨hP, hD, hS, hA⟩ := hh
  refine va_newq hx hb hown (hts _ cl) hE.2.2 hE.1 hP hD hS hA (xw_n0 (by omega)) (by rw [xi_cl (by omega)]; omega) (N' := N) (by omega) hcells hslots hd (fun q cA H1 k1 k2 k3 k4 => ?_)
  have e : cA = G.2.2 4 := by
    obtain ⟨_, _, -, -, -, h1⟩ := (k1.2 5 (cA, .object R_N) rfl).2
    obtain ⟨_, _, -, -, -, h2⟩ := (hE.1.2 4 (G.2.2 4, .object R_N) rfl).2
    exact Option.some.inj (h1.symm.trans h2)
  subst e
  exact kk q H1 ⟨k2, k3, k4, hA⟩
/-- a class whose objects may be made: its number, its fields' first values -/
def xw_mk (own : String) (index ci N : Nat) (fs : List Value) : Prop := ∃ (C : String) (T : u_T) (ty : Nat → FieldType), classes[ci]? = some (C, T, N) ∧ (∀ w ∈ u_ws C T N, w ∈ WS) ∧ (∀ k, k < N → parseFieldDescriptor (T k).2.2.1 = some (ty k)) ∧ Cond.classLink own index C ∈ WS ∧ Cond.instantiable C N ∈ WS ∧ Cond.initialized C ∈ WS ∧ (∀ j, j < N → defaultValue (ty j) = vp_V fs j)
theorem xw_new (F : xw_F p s m args c cc nL own G) (hh : xw_H G A H0 H locs ws) {ci N : Nat} {fs : List Value} (mk : xw_mk own index ci N fs) (hcells : cells + 1 ≤ R.cells) (hslots : slots + N ≤ R.slots) (hd : decode cc pc = .ok (.new index, 3))
    (kk : ∀ (q : Nat) (H1 : Heap), xw_H G A H0 H1 locs (ws ++ [(q, .inr (ci, fs))]) → W p l e R s m args below meth c H1 locs (cells + 1) (slots + N) Q (F0 m (pc + 3) ls (.ref q :: rest))) : W p l e R s m args below meth c H locs cells slots Q (F0 m pc ls rest) := by
  obtain ⟨C, T, ty, h1, h2, h3, h4, h5, h6, h7⟩ := mk
  obtain ⟨hx, hb, -, hown, hts, hE⟩ := F
  obtain ⟨hP, hD, hS, hA⟩ := hh
  exact va_new hx hb hts h2 ty h3 hown (hts _ h4) (hts _ h5) (hts _ h6) hE.1 hP hD hS hA h1 h7 hcells hslots hd (fun q H1 k1 k2 k3 => kk q H1 ⟨k1, k2, k3, hA⟩)
theorem xw_obj (F : xw_F p s m args c cc nL own G) (hsz : ls.size = nL) (lk : Cond.methodLink own index objectInit ∈ WS) (hfr : 1 ≤ R.frames) (hlo : (rest.map fun v => v.category).sum + 12 ≤ R.locals) (hd : decode cc pc = .ok (.invokespecial index, 3))
    (kk : W p l e R s m args below meth c H locs cells slots Q (F0 m (pc + 3) ls rest)) : W p l e R s m args below meth c H locs cells slots Q (F0 m pc ls (.ref a :: rest)) := by
  obtain ⟨hx, hb, hml, hown, hts, hE⟩ := F
  have w1 : Cond.instanceMethod objectInit ∈ WS := tb_in (i := 17) rfl (by decide +kernel)
  have w2 : Cond.code objectInit ⟨#[0xb1]⟩ 1 none ∈ WS := tb_in (i := 18) rfl (by decide +kernel)
  exact W.objInit hx hb hown (hts _ lk) (hts _ w1) (hts _ w2) rfl (hsz.trans hml.symm) rfl hd hfr (by show 2 * 0 + _ + 12 ≤ _; omega) kk
end XWM
set_option maxRecDepth 20000 in
theorem mk_L_7 : xw_mk R_L 7 0 12 [.null, .null, .null, .null, .int (xi_ 0), .null, .null, .null, .int (xi_ 0), .int (xi_ 0), .int (xi_ 0), .long (xl_ 0)] := ⟨R_X, F_X, t_X, rfl, in_X, t_X_ok, cl_L_7, ib_X, it_X, by decide +kernel⟩
set_option maxRecDepth 20000 in
theorem mk_X_7 : xw_mk R_X 7 2 4 [.null, .int (xi_ 0), .int (xi_ 0), .int (xi_ 0)] := ⟨R_Rd, F_Rd, t_Rd, rfl, in_Rd, t_Rd_ok, cl_X_7, ib_Rd, it_Rd, by decide +kernel⟩
set_option maxRecDepth 20000 in
theorem mk_X_16 : xw_mk R_X 16 1 7 [.int (xi_ 0), .null, .int (xi_ 0), .int (xi_ 0), .int (xi_ 0), .int (xi_ 0), .int (xi_ 0)] := ⟨R_N, F_N, t_N, rfl, in_N, t_N_ok, cl_X_16, ib_N, it_N, by decide +kernel⟩
set_option maxRecDepth 20000 in
theorem mk_N_8 : xw_mk R_N 8 1 7 [.int (xi_ 0), .null, .int (xi_ 0), .int (xi_ 0), .int (xi_ 0), .int (xi_ 0), .int (xi_ 0)] := ⟨R_N, F_N, t_N, rfl, in_N, t_N_ok, cl_N_8, ib_N, it_N, by decide +kernel⟩
set_option maxRecDepth 20000 in
theorem mk_X_29 : xw_mk R_X 29 4 1 [.null] := ⟨R_Pa, F_Pa, t_Pa, rfl, in_Pa, t_Pa_ok, cl_X_29, ib_Pa, it_Pa, by decide +kernel⟩
set_option maxRecDepth 20000 in
theorem mk_Wk_7 : xw_mk R_Wk 7 3 5 [.int (xi_ 0), .null, .null, .int (xi_ 0), .int (xi_ 0)] := ⟨R_Rw, F_Rw, t_Rw, rfl, in_Rw, t_Rw_ok, cl_Wk_7, ib_Rw, it_Rw, by decide +kernel⟩
set_option maxRecDepth 20000 in
theorem mk_X_46 : xw_mk R_X 46 5 3 [.null, .int (xi_ 0), .long (xl_ 0)] := ⟨R_On, F_On, t_On, rfl, in_On, t_On_ok, cl_X_46, ib_On, it_On, by decide +kernel⟩
set_option maxRecDepth 20000 in
theorem mk_Rd_48 : xw_mk R_Rd 48 1 7 [.int (xi_ 0), .null, .int (xi_ 0), .int (xi_ 0), .int (xi_ 0), .int (xi_ 0), .int (xi_ 0)] := ⟨R_N, F_N, t_N, rfl, in_N, t_N_ok, cl_Rd_48, ib_N, it_N, by decide +kernel⟩
set_option maxRecDepth 20000 in
theorem mk_L_10 : xw_mk R_L 10 6 45 [.int (xi_ 0), .null, .int (xi_ 0), .null, .null, .null, .null, .null, .null, .null, .null, .null, .null, .int (xi_ 0), .null, .null, .int (xi_ 0), .null, .null, .null, .null, .null, .null, .null, .null, .null, .null, .null, .null, .null, .null, .null, .int (xi_ 0), .int (xi_ 0), .long (xl_ 0), .long (xl_ 0), .int (xi_ 0), .int (xi_ 0), .int (xi_ 0), .null, .null, .null, .null, .null, .null] := ⟨R_M, F_M, t_M, rfl, in_M, t_M_ok, cl_L_10, ib_M, it_M, by decide +kernel⟩
