/-! Math.floorDiv, floorMod by a divisor above 0 -/
theorem xl_sg {x y : Int} (h : (-9223372036854775808 ≤ x ∧ x ≤ 9223372036854775807) ∧ 0 < y ∧ y ≤ 9223372036854775807) : xl_ 0 ≤ xl_ x ^^^ xl_ y ↔ 0 ≤ x := by
  have h1 := xl_xor_neg (xl_ x) (xl_ y)
  rw [xl_0, xl_lt (a := x) (by omega), xl_lt (a := y) (by omega)] at h1
  rw [← Int64.not_lt, h1]
  omega
theorem td_neg {x y : Int} (hx : x < 0) (hy : 0 < y) : (x.tdiv y * y = x → x / y = x.tdiv y) ∧ (x.tdiv y * y ≠ x → x / y = x.tdiv y - 1) := by
  have h1 := Int.mul_tdiv_add_tmod x y
  have h2 := Int.lt_tmod_of_pos x hy
  have h3 : x.tmod y ≤ 0 := by
    have := Int.tmod_nonneg (a := -x) y (by omega)
    rw [Int.neg_tmod] at this
    omega
  have h4 := Int.mul_comm y (x.tdiv y)
  refine ⟨fun e => ?_, fun e => ?_⟩
  · exact ((Int.ediv_emod_unique hy (r := 0) (q := x.tdiv y)).mpr ⟨by omega, by omega, by omega⟩).1
  · have h5 : y * (x.tdiv y - 1) = y * x.tdiv y - y := by rw [Int.mul_sub, Int.mul_one]
    exact ((Int.ediv_emod_unique hy (r := x.tmod y + y) (q := x.tdiv y - 1)).mpr ⟨by omega, by omega, by omega⟩).1
theorem tm_neg {x y : Int} (hx : x < 0) (hy : 0 < y) : (x.tmod y = 0 → x % y = x.tmod y) ∧ (x.tmod y ≠ 0 → x % y = x.tmod y + y) := by
  have h1 := Int.mul_tdiv_add_tmod x y
  have h2 := Int.lt_tmod_of_pos x hy
  have h3 : x.tmod y ≤ 0 := by
    have := Int.tmod_nonneg (a := -x) y (by omega)
    rw [Int.neg_tmod] at this
    omega
  refine ⟨fun e => ?_, fun e => ?_⟩
  · exact ((Int.ediv_emod_unique hy (r := x.tmod y) (q := x.tdiv y)).mpr ⟨by omega, by omega, by omega⟩).2
  · have h5 : y * (x.tdiv y - 1) = y * x.tdiv y - y := by rw [Int.mul_sub, Int.mul_one]
    exact ((Int.ediv_emod_unique hy (r := x.tmod y + y) (q := x.tdiv y - 1)).mpr ⟨by omega, by omega, by omega⟩).2
theorem td_rng {x y : Int} (h : (-9223372036854775807 ≤ x ∧ x ≤ 9223372036854775807)) : -9223372036854775807 ≤ x.tdiv y ∧ x.tdiv y ≤ 9223372036854775807 := by
  have h1 : (x.tdiv y).natAbs ≤ x.natAbs := by rw [Int.natAbs_tdiv]; exact Nat.div_le_self _ _
  omega
theorem xw_metF {l : Launch} {y : MethodName} {cc : ByteArray} {maxL : Nat} {ret : Option FieldType} {rm : Room} {G : GG_} {av : List Value} {sz : Nat} {ws : va_W} {X : Heap → Prop} {Qc : Array Value → State → Outcome → State → Prop} {mc ms : Nat}
    (hy : plainFor y = true) (hn : (lg_sl av).length ≤ maxL)
    (body : ∀ (p : Program) (e : Env) (s : State) (m : MethodId) (args : Array Value) (below : List Frame) (meth : Method) (c : Code), xw_F p s m args c cc maxL y.cls G → meth.sig.returnType = ret → meth.locks = false → meth.name = y.name → s.heap.size = sz → xw_H G (va_A ws sz) s.heap s.heap [] ws → X s.heap →
      ∀ ls : Array Slot, lv_has ls maxL (lv_args 0 av) → W p l e rm s m args below meth c s.heap [] 0 0 (MQ below Qc args s mc ms (va_A ws sz)) (F0 m 0 ls [])) :
    Met l y (cw_ y cc maxL ret) rm (xw_P G av sz ws X) Qc mc ms (va_A ws sz) := by
  refine va_MetF (cc := cc) (maxL := maxL) (ret := ret) hy rfl ?_
  intro p e s m args below meth c s₁ B hml hv
  obtain ⟨hargs, hsz, hP, hE, hD, hX⟩ := hv
  have hts := atoms_spec (ws := cw_ y cc maxL ret) B.pre
  have hown : s.vm.findClass y.cls = some m.cls := findClass_of_methodNamed B.named
  have hF : xw_F p s m args c cc maxL y.cls G := ⟨B.exec, B.bytes, hml, hown, fun w hw => hts w (List.mem_cons_of_mem _ hw), hE⟩
  have hH : xw_H G (va_A ws sz) s.heap s.heap [] ws := ⟨hP, hD.self, va_S.rf, fun q h => Or.inr (by rw [← hsz]; exact h)⟩
  have hl := lv_entry av (n := maxL) hn
  have hfr : entryFrame m args maxL = F0 m 0 ((lg_sl av ++ List.replicate (maxL - (lg_sl av).length) Slot.unset).toArray) [] := by rw [hargs]; exact lg_entry_eq m av maxL
  rw [hfr]
  exact body p e s m args below meth c hF B.returns B.notSynchronized (name_of_methodNamed B.named B.method).1 hsz hH hX _ hl
def rm_Jm_floorDiv : Room := { frames := 0, cells := 0, slots := 0, locals := 0 }
set_option maxHeartbeats 4000000 in
set_option maxRecDepth 100000 in
theorem c_Jm_floorDiv (l : Launch) (G : GG_) (sz : Nat) (x y : Int) (hxy : (-9223372036854775807 ≤ x ∧ x ≤ 9223372036854775807) ∧ 0 < y ∧ y ≤ 9223372036854775807) : Met l y_Jm_floorDiv (cw_ y_Jm_floorDiv b_Jm_floorDiv 6 (some .long)) rm_Jm_floorDiv (xw_P G [.long (xl_ x), .long (xl_ y)] sz [] (fun _ => True)) (xw_Ql (S := Unit) G sz [] (fun z _ => z = x / y) (fun _ => []) (fun _ _ => True)) 0 0 (va_A [] sz) := by
  refine xw_metF (by decide +kernel) (Nat.le_of_ble_eq_true rfl) ?_
  intro p e s m args below meth c F hr hlk hin hsz hh hX ls hl
  subst hsz
  have hx := F.1
  have hb := F.2.1
  have hl : lv_has ls 6 [(0, .long (xl_ x)), (2, .long (xl_ y))] := hl
  refine lv_lload_n hx hb d_Jm_floorDiv_0 rfl (lv_at hl 0 rfl) ?_
  refine lv_lload_n hx hb d_Jm_floorDiv_1 rfl (lv_at hl 1 rfl) ?_
  refine xw_ldiv hx hb d_Jm_floorDiv_2 (by omega) ?_
  refine lv_lstore (lv' := [(4, .long (xl_ (x.tdiv y))), (0, .long (xl_ x)), (2, .long (xl_ y))]) hx hb d_Jm_floorDiv_3 hl (by decide) rfl (fun ls hl => ?_)
  refine lv_lload_n hx hb d_Jm_floorDiv_5 rfl (lv_at hl 1 rfl) ?_
  refine lv_lload_n hx hb d_Jm_floorDiv_6 rfl (lv_at hl 2 rfl) ?_
  refine lv_lxor hx hb d_Jm_floorDiv_7 ?_
  refine lv_lconst (v := xl_ 0) hx hb d_Jm_floorDiv_8 (by decide) ?_
  refine W.lcmp hx hb d_Jm_floorDiv_9 ?_
  refine lv_if_ge (tgt := 27) hx hb d_Jm_floorDiv_10 (by decide) (fun q => ?_) (fun q => ?_)
  · have hs : 0 ≤ x := (xl_sg (y := y) (by omega)).mp ((lg_cmp_ge _ _).mp q)
    refine lv_lload hx hb d_Jm_floorDiv_27 (lv_at hl 0 rfl) ?_
    exact xw_lret F hr hlk hh () rfl (by first | exact Int.tdiv_eq_ediv_of_nonneg hs | exact ((td_neg hs hxy.2.1).1 (by omega)).symm) trivial d_Jm_floorDiv_29
  · have hs : x < 0 := Int.not_le.mp (fun z => q ((lg_cmp_ge _ _).mpr ((xl_sg (y := y) (by omega)).mpr z)))
    refine lv_lload hx hb d_Jm_floorDiv_13 (lv_at hl 0 rfl) ?_
    refine lv_lload_n hx hb d_Jm_floorDiv_15 rfl (lv_at hl 2 rfl) ?_
    refine xw_lmul hx hb d_Jm_floorDiv_16 ?_
    refine lv_lload_n hx hb d_Jm_floorDiv_17 rfl (lv_at hl 1 rfl) ?_
    have hq := td_neg hs hxy.2.1
    have hq2 := Int.mul_tdiv_add_tmod x y
    have hq3 := Int.lt_tmod_of_pos x hxy.2.1
    have hq4 : x.tmod y ≤ 0 := by
      have := Int.tmod_nonneg (a := -x) y (by omega)
      rw [Int.neg_tmod] at this
      omega
    have hq5 := Int.mul_comm y (x.tdiv y)
    refine xw_lcmp_eq hx hb 27 d_Jm_floorDiv_18 d_Jm_floorDiv_19 (by decide) (by omega) (fun c18 => ?_) (fun c18 => ?_)
    · refine lv_lload hx hb d_Jm_floorDiv_27 (lv_at hl 0 rfl) ?_
      exact xw_lret F hr hlk hh () rfl (by first | exact Int.tdiv_eq_ediv_of_nonneg hs | exact ((td_neg hs hxy.2.1).1 (by omega)).symm) trivial d_Jm_floorDiv_29
    · refine lv_lload hx hb d_Jm_floorDiv_22 (lv_at hl 0 rfl) ?_
      refine lv_lconst (v := xl_ 1) hx hb d_Jm_floorDiv_24 (by decide) ?_
      refine xw_lsub hx hb d_Jm_floorDiv_25 ?_
      exact xw_lret F hr hlk hh () rfl (by exact ((td_neg hs hxy.2.1).2 (fun q => c18 (by omega))).symm) trivial d_Jm_floorDiv_26
def rm_Jm_floorMod : Room := { frames := 0, cells := 0, slots := 0, locals := 0 }
set_option maxHeartbeats 4000000 in
set_option maxRecDepth 100000 in
theorem c_Jm_floorMod (l : Launch) (G : GG_) (sz : Nat) (x y : Int) (hxy : (-9223372036854775807 ≤ x ∧ x ≤ 9223372036854775807) ∧ 0 < y ∧ y ≤ 9223372036854775807) : Met l y_Jm_floorMod (cw_ y_Jm_floorMod b_Jm_floorMod 6 (some .long)) rm_Jm_floorMod (xw_P G [.long (xl_ x), .long (xl_ y)] sz [] (fun _ => True)) (xw_Ql (S := Unit) G sz [] (fun z _ => z = x % y) (fun _ => []) (fun _ _ => True)) 0 0 (va_A [] sz) := by
  refine xw_metF (by decide +kernel) (Nat.le_of_ble_eq_true rfl) ?_
  intro p e s m args below meth c F hr hlk hin hsz hh hX ls hl
  subst hsz
  have hx := F.1
  have hb := F.2.1
  have hl : lv_has ls 6 [(0, .long (xl_ x)), (2, .long (xl_ y))] := hl
  refine lv_lload_n hx hb d_Jm_floorMod_0 rfl (lv_at hl 0 rfl) ?_
  refine lv_lload_n hx hb d_Jm_floorMod_1 rfl (lv_at hl 1 rfl) ?_
  refine xw_lrem hx hb d_Jm_floorMod_2 (by omega) ?_
  refine lv_lstore (lv' := [(4, .long (xl_ (x.tmod y))), (0, .long (xl_ x)), (2, .long (xl_ y))]) hx hb d_Jm_floorMod_3 hl (by decide) rfl (fun ls hl => ?_)
  refine lv_lload_n hx hb d_Jm_floorMod_5 rfl (lv_at hl 1 rfl) ?_
  refine lv_lload_n hx hb d_Jm_floorMod_6 rfl (lv_at hl 2 rfl) ?_
  refine lv_lxor hx hb d_Jm_floorMod_7 ?_
  refine lv_lconst (v := xl_ 0) hx hb d_Jm_floorMod_8 (by decide) ?_
  refine W.lcmp hx hb d_Jm_floorMod_9 ?_
  refine lv_if_ge (tgt := 25) hx hb d_Jm_floorMod_10 (by decide) (fun q => ?_) (fun q => ?_)
  · have hs : 0 ≤ x := (xl_sg (y := y) (by omega)).mp ((lg_cmp_ge _ _).mp q)
    refine lv_lload hx hb d_Jm_floorMod_25 (lv_at hl 0 rfl) ?_
    exact xw_lret F hr hlk hh () rfl (by first | exact Int.tmod_eq_emod_of_nonneg hs | exact ((tm_neg hs hxy.2.1).1 (by omega)).symm) trivial d_Jm_floorMod_27
  · have hs : x < 0 := Int.not_le.mp (fun z => q ((lg_cmp_ge _ _).mpr ((xl_sg (y := y) (by omega)).mpr z)))
    refine lv_lload hx hb d_Jm_floorMod_13 (lv_at hl 0 rfl) ?_
    refine lv_lconst (v := xl_ 0) hx hb d_Jm_floorMod_15 (by decide) ?_
    have hq3 := Int.lt_tmod_of_pos x hxy.2.1
    have hq4 := Int.tmod_lt_of_pos x hxy.2.1
    refine xw_lcmp_eq hx hb 25 d_Jm_floorMod_16 d_Jm_floorMod_17 (by decide) (by omega) (fun c16 => ?_) (fun c16 => ?_)
    · refine lv_lload hx hb d_Jm_floorMod_25 (lv_at hl 0 rfl) ?_
      exact xw_lret F hr hlk hh () rfl (by first | exact Int.tmod_eq_emod_of_nonneg hs | exact ((tm_neg hs hxy.2.1).1 (by omega)).symm) trivial d_Jm_floorMod_27
    · refine lv_lload hx hb d_Jm_floorMod_20 (lv_at hl 0 rfl) ?_
      refine lv_lload_n hx hb d_Jm_floorMod_22 rfl (lv_at hl 2 rfl) ?_
      refine xw_ladd hx hb d_Jm_floorMod_23 ?_
      exact xw_lret F hr hlk hh () rfl (by exact ((tm_neg hs hxy.2.1).2 (fun q => c16 (by omega))).symm) trivial d_Jm_floorMod_24
