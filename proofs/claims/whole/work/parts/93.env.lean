/-! what the law's start gives: the words, the classes' numbers -/
theorem xt_sel {s : State} {args : Array Value} {C D : String} {y z z1 : MethodName} {n : Nat} (hy : y.cls ≠ "java/lang/invoke/MethodHandle" ∧ y.cls ≠ "java/lang/invoke/VarHandle") (hins : (Cond.instantiable C n).before args s = true) (hpriv : (Cond.privateMethod y).before args s = true) (hinst : (Cond.instanceMethod y).before args s = true) (hz : (Cond.selects D z z1).before args s = true) (hc1 : z1.cls = y.cls) : (Cond.selects C y y).before args s = true := by
  obtain ⟨c, k, hc, hk, -, -, -, -⟩ := Cond.instantiable_spec hins
  obtain ⟨mk, methM, hnamed, hmethM, -, -⟩ := Cond.instanceMethod_spec hinst
  obtain ⟨c2, r2, m2, -, -, hm2, -, kk, hkk, hni⟩ := Cond.selects_spec hz
  have hfound : s.methodFound? y.cls y.name y.desc = some mk := State.methodFound?_of_named hnamed hy
  have e1 := findClass_of_methodNamed hnamed
  have e2 := findClass_of_methodNamed hm2
  rw [hc1] at e2
  have hcls : m2.cls = mk.cls := Option.some.inj (e2.symm.trans e1)
  rw [hcls] at hkk
  have hsel : selectMethod {} s.vm c mk = .method mk := selectMethod_private hmethM (Cond.privateMethod_at hpriv mk methM hnamed hmethM)
  simp only [Cond.before, Cond.holds, Cond.value, hc, hfound, hnamed, hsel, hkk]
  simp; exact hni
theorem ar_known {s : State} {args : Array Value} {ty : FieldType} (h : (Cond.arrayClass ty).before args s = true) : ∃ cA : ClassId, ArrOfT s cA ty ∧ s.vm.findClass ("[" ++ ty.toString) = some cA := by
  obtain ⟨cA, kA, comp, h1, h2, h3⟩ := Cond.arrayClass_spec h
  exact ⟨cA, fun n z => ⟨fun k q => (by cases q), kA, h2, comp, h3⟩, h1⟩
set_option maxRecDepth 20000 in
theorem law_ws {s : State} {b : Nat} (hts : ∀ w ∈ lw_tbl, w.before #[Value.ref b] s = true) : ∀ w ∈ WS, w.before #[Value.ref b] s = true := by
  intro w hw
  have hw := (List.mem_filter.mp hw).1
  rcases List.mem_append.mp hw with hw | hw
  · have tb : ∀ {w : Cond} {i : Nat}, tables_1[i]? = some w → w.before #[Value.ref b] s = true := fun h => hts _ (List.mem_append_right _ (List.mem_of_getElem? h))
    have hsel : (Cond.selects R_On y_Wk_walk y_Wk_walk).before #[Value.ref b] s = true := tb (i := 733) rfl
    have ip : (Cond.instantiable R_Pa 1).before #[Value.ref b] s = true := tb (i := 85) rfl
    have io : (Cond.instantiable R_On 3).before #[Value.ref b] s = true := tb (i := 131) rfl
    have key : ∀ y : MethodName, y.cls = R_Wk → (Cond.privateMethod y).before #[Value.ref b] s = true → (Cond.instanceMethod y).before #[Value.ref b] s = true → (Cond.selects R_Pa y y).before #[Value.ref b] s = true ∧ (Cond.selects R_On y y).before #[Value.ref b] s = true := fun y hy h1 h2 =>
      ⟨xt_sel (by rw [hy]; exact ⟨by decide +kernel, by decide +kernel⟩) ip h1 h2 hsel hy.symm, xt_sel (by rw [hy]; exact ⟨by decide +kernel, by decide +kernel⟩) io h1 h2 hsel hy.symm⟩
    have k_walkCycles := key y_Wk_walkCycles rfl (tb (i := 304) rfl) (tb (i := 305) rfl)
    have k_walkCycle := key y_Wk_walkCycle rfl (tb (i := 314) rfl) (tb (i := 315) rfl)
    have k_walkSteps := key y_Wk_walkSteps rfl (tb (i := 318) rfl) (tb (i := 319) rfl)
    have k_walkInto := key y_Wk_walkInto rfl (tb (i := 327) rfl) (tb (i := 328) rfl)
    simp only [xt_, List.mem_cons, List.not_mem_nil, or_false] at hw
    rcases hw with rfl | rfl | rfl | rfl | rfl | rfl | rfl | rfl
    · exact k_walkCycles.1
    · exact k_walkCycle.1
    · exact k_walkSteps.1
    · exact k_walkInto.1
    · exact k_walkCycles.2
    · exact k_walkCycle.2
    · exact k_walkSteps.2
    · exact k_walkInto.2
  · exact hts w hw
set_option maxRecDepth 20000 in
theorem NW_onT : ∀ w ∈ NW, w.onTables = true := List.all_eq_true.mp rfl
set_option maxRecDepth 20000 in
theorem NW_in : ∀ w ∈ NW, w ∈ lw_tbl := fun w hw => by
  have h : NW.map some = [26, 28, 30, 54, 55, 58, 60, 61, 63, 64, 66, 103, 105, 106, 107, 137, 139, 21, 293, 347].map (fun i => tables_1[i]?) := rfl
  have h2 : some w ∈ [26, 28, 30, 54, 55, 58, 60, 61, 63, 64, 66, 103, 105, 106, 107, 137, 139, 21, 293, 347].map (fun i => tables_1[i]?) := by
    rw [← h]
    exact List.mem_map.mpr ⟨w, hw, rfl⟩
  obtain ⟨i, _, hi⟩ := List.mem_map.mp h2
  exact List.mem_append_right _ (List.mem_of_getElem? hi)
set_option maxRecDepth 20000 in
theorem law_env {s : State} {b : Nat} (hts : ∀ w ∈ lw_tbl, w.before #[Value.ref b] s = true) : ∃ G : GG_, xw_E G s := by
  have tb : ∀ {w : Cond} {i : Nat}, tables_1[i]? = some w → w.before #[Value.ref b] s = true := fun h => hts _ (List.mem_append_right _ (List.mem_of_getElem? h))
  have hws := law_ws hts
  obtain ⟨c_X, i_X, h_X⟩ := u_known (C := R_X) (T := F_X) (N := 12) (n := 12) hws in_X (tb (i := 12) rfl)
  obtain ⟨c_N, i_N, h_N⟩ := u_known (C := R_N) (T := F_N) (N := 7) (n := 7) hws in_N (tb (i := 44) rfl)
  obtain ⟨c_Rd, i_Rd, h_Rd⟩ := u_known (C := R_Rd) (T := F_Rd) (N := 4) (n := 4) hws in_Rd (tb (i := 20) rfl)
  obtain ⟨c_Rw, i_Rw, h_Rw⟩ := u_known (C := R_Rw) (T := F_Rw) (N := 5) (n := 5) hws in_Rw (tb (i := 94) rfl)
  obtain ⟨c_Pa, i_Pa, h_Pa⟩ := u_known (C := R_Pa) (T := F_Pa) (N := 1) (n := 1) hws in_Pa (tb (i := 85) rfl)
  obtain ⟨c_On, i_On, h_On⟩ := u_known (C := R_On) (T := F_On) (N := 3) (n := 3) hws in_On (tb (i := 131) rfl)
  obtain ⟨c_M, i_M, h_M⟩ := u_known (C := R_M) (T := F_M) (N := 45) (n := 45) hws in_M (tb (i := 435) rfl)
  obtain ⟨a0, b0, f0⟩ := ar_known (ty := .int) (tb (i := 83) rfl)
  obtain ⟨a1, b1, f1⟩ := ar_known (ty := .long) (tb (i := 119) rfl)
  obtain ⟨a2, b2, f2⟩ := ar_known (ty := .char) (tb (i := 41) rfl)
  obtain ⟨a3, b3, f3⟩ := ar_known (ty := .boolean) (tb (i := 576) rfl)
  have hao : (Cond.arrayOver (.object R_N)).before #[Value.ref b] s = true := tb (i := 43) rfl
  obtain ⟨comp, a4, k4, hcomp, hidx, hk4, hkind4, hname4⟩ := Cond.arrayOver_spec hao
  refine ⟨(fun c => match c with
    | 0 => c_X
    | 1 => c_N
    | 2 => c_Rd
    | 3 => c_Rw
    | 4 => c_Pa
    | 5 => c_On
    | _ => c_M, fun c => match c with
    | 0 => i_X
    | 1 => i_N
    | 2 => i_Rd
    | 3 => i_Rw
    | 4 => i_Pa
    | 5 => i_On
    | _ => i_M, fun k => match k with
    | 0 => a0
    | 1 => a1
    | 2 => a2
    | 3 => a3
    | _ => a4), ⟨fun c q hq => ?_, fun k q hk => ?_⟩, fun w hw => ?_, va_AO.of hao⟩
  · match c, hq with
    | 0, hq => cases hq; exact h_X
    | 1, hq => cases hq; exact h_N
    | 2, hq => cases hq; exact h_Rd
    | 3, hq => cases hq; exact h_Rw
    | 4, hq => cases hq; exact h_Pa
    | 5, hq => cases hq; exact h_On
    | 6, hq => cases hq; exact h_M
    | c + 7, hq => simp [classes] at hq
  · match k, hk with
    | 0, hk => cases hk; exact ⟨b0, f0⟩
    | 1, hk => cases hk; exact ⟨b1, f1⟩
    | 2, hk => cases hk; exact ⟨b2, f2⟩
    | 3, hk => cases hk; exact ⟨b3, f3⟩
    | 4, hk => cases hk; exact ⟨fun n z => ⟨fun k q => (by cases q), k4, hk4, comp, hkind4⟩, k4, comp, hk4, hkind4, hcomp, hname4⟩
    | k + 5, hk => simp [gT] at hk
  · exact va_Nw.of (NW_onT w hw) (hts w (NW_in w hw))
