-- ===== PART A: goes FIRST, ahead of the names: the tables' words, and 'selects' of the private methods out of them =====
/-- a private method of a class that the tables say can be made, by its rows of tables_1 -/
def lw_okq (q : MethodName × Nat) : Prop := (q.1.cls ≠ "java/lang/invoke/MethodHandle" ∧ q.1.cls ≠ "java/lang/invoke/VarHandle") ∧ Cond.instantiable q.1.cls q.2 ∈ tables_1 ∧ Cond.privateMethod q.1 ∈ tables_1 ∧ Cond.instanceMethod q.1 ∈ tables_1
theorem lw_p0 : lw_okq (⟨"CyclePatterns", "stopPlaying", "()V"⟩, 12) := ⟨⟨by decide +kernel, by decide +kernel⟩, List.mem_of_getElem? (i := 12) (by decide +kernel), List.mem_of_getElem? (i := 206) (by decide +kernel), List.mem_of_getElem? (i := 207) (by decide +kernel)⟩
theorem lw_p1 : lw_okq (⟨"CyclePatterns$Reader", "readPattern", "(I)LCyclePatterns$Node;"⟩, 4) := ⟨⟨by decide +kernel, by decide +kernel⟩, List.mem_of_getElem? (i := 20) (by decide +kernel), List.mem_of_getElem? (i := 218) (by decide +kernel), List.mem_of_getElem? (i := 219) (by decide +kernel)⟩
theorem lw_p2 : lw_okq (⟨"CyclePatterns$Reader", "readGroup", "(CCI)LCyclePatterns$Node;"⟩, 4) := ⟨⟨by decide +kernel, by decide +kernel⟩, List.mem_of_getElem? (i := 20) (by decide +kernel), List.mem_of_getElem? (i := 222) (by decide +kernel), List.mem_of_getElem? (i := 223) (by decide +kernel)⟩
theorem lw_p3 : lw_okq (⟨"CyclePatterns$Reader", "isAt", "(C)Z"⟩, 4) := ⟨⟨by decide +kernel, by decide +kernel⟩, List.mem_of_getElem? (i := 20) (by decide +kernel), List.mem_of_getElem? (i := 228) (by decide +kernel), List.mem_of_getElem? (i := 229) (by decide +kernel)⟩
theorem lw_p4 : lw_okq (⟨"CyclePatterns$Reader", "refineGrain", "(I)Z"⟩, 4) := ⟨⟨by decide +kernel, by decide +kernel⟩, List.mem_of_getElem? (i := 20) (by decide +kernel), List.mem_of_getElem? (i := 240) (by decide +kernel), List.mem_of_getElem? (i := 241) (by decide +kernel)⟩
theorem lw_p5 : lw_okq (⟨"CyclePatterns$Reader", "readOperator", "(CII)LCyclePatterns$Node;"⟩, 4) := ⟨⟨by decide +kernel, by decide +kernel⟩, List.mem_of_getElem? (i := 20) (by decide +kernel), List.mem_of_getElem? (i := 244) (by decide +kernel), List.mem_of_getElem? (i := 245) (by decide +kernel)⟩
theorem lw_p6 : lw_okq (⟨"CyclePatterns$Reader", "readDigits", "(LCyclePatterns$Node;)Z"⟩, 4) := ⟨⟨by decide +kernel, by decide +kernel⟩, List.mem_of_getElem? (i := 20) (by decide +kernel), List.mem_of_getElem? (i := 248) (by decide +kernel), List.mem_of_getElem? (i := 249) (by decide +kernel)⟩
theorem lw_p7 : lw_okq (⟨"CyclePatterns$Reader", "readK", "(LCyclePatterns$Node;I)Z"⟩, 4) := ⟨⟨by decide +kernel, by decide +kernel⟩, List.mem_of_getElem? (i := 20) (by decide +kernel), List.mem_of_getElem? (i := 252) (by decide +kernel), List.mem_of_getElem? (i := 253) (by decide +kernel)⟩
theorem lw_p8 : lw_okq (⟨"CyclePatterns$Reader", "readDigit", "(I)I"⟩, 4) := ⟨⟨by decide +kernel, by decide +kernel⟩, List.mem_of_getElem? (i := 20) (by decide +kernel), List.mem_of_getElem? (i := 256) (by decide +kernel), List.mem_of_getElem? (i := 257) (by decide +kernel)⟩
theorem lw_p9 : lw_okq (⟨"CyclePatterns$Reader", "readN", "(LCyclePatterns$Node;I)Z"⟩, 4) := ⟨⟨by decide +kernel, by decide +kernel⟩, List.mem_of_getElem? (i := 20) (by decide +kernel), List.mem_of_getElem? (i := 260) (by decide +kernel), List.mem_of_getElem? (i := 261) (by decide +kernel)⟩
theorem lw_p10 : lw_okq (⟨"CyclePatterns$Reader", "readR", "(LCyclePatterns$Node;)Z"⟩, 4) := ⟨⟨by decide +kernel, by decide +kernel⟩, List.mem_of_getElem? (i := 20) (by decide +kernel), List.mem_of_getElem? (i := 267) (by decide +kernel), List.mem_of_getElem? (i := 268) (by decide +kernel)⟩
theorem lw_p11 : lw_okq (⟨"CyclePatterns$Reader", "readLetterOrRest", "(C)LCyclePatterns$Node;"⟩, 4) := ⟨⟨by decide +kernel, by decide +kernel⟩, List.mem_of_getElem? (i := 20) (by decide +kernel), List.mem_of_getElem? (i := 271) (by decide +kernel), List.mem_of_getElem? (i := 272) (by decide +kernel)⟩
theorem lw_p12 : lw_okq (⟨"CyclePatterns$Rows", "isNewestBefore", "(I)Z"⟩, 5) := ⟨⟨by decide +kernel, by decide +kernel⟩, List.mem_of_getElem? (i := 94) (by decide +kernel), List.mem_of_getElem? (i := 358) (by decide +kernel), List.mem_of_getElem? (i := 359) (by decide +kernel)⟩
theorem lw_p13 : lw_okq (⟨"CyclePatterns", "gatherOnsets", "(II)V"⟩, 12) := ⟨⟨by decide +kernel, by decide +kernel⟩, List.mem_of_getElem? (i := 12) (by decide +kernel), List.mem_of_getElem? (i := 409) (by decide +kernel), List.mem_of_getElem? (i := 410) (by decide +kernel)⟩
theorem lw_p14 : lw_okq (⟨"CyclePatterns", "tickLength", "(I)J"⟩, 12) := ⟨⟨by decide +kernel, by decide +kernel⟩, List.mem_of_getElem? (i := 12) (by decide +kernel), List.mem_of_getElem? (i := 413) (by decide +kernel), List.mem_of_getElem? (i := 414) (by decide +kernel)⟩
theorem lw_p15 : lw_okq (⟨"CyclePatterns", "ticksItLasts", "(I)J"⟩, 12) := ⟨⟨by decide +kernel, by decide +kernel⟩, List.mem_of_getElem? (i := 12) (by decide +kernel), List.mem_of_getElem? (i := 425) (by decide +kernel), List.mem_of_getElem? (i := 426) (by decide +kernel)⟩
def lw_privs_1 : List (MethodName × Nat) := [(⟨"CyclePatterns", "stopPlaying", "()V"⟩, 12), (⟨"CyclePatterns$Reader", "readPattern", "(I)LCyclePatterns$Node;"⟩, 4), (⟨"CyclePatterns$Reader", "readGroup", "(CCI)LCyclePatterns$Node;"⟩, 4), (⟨"CyclePatterns$Reader", "isAt", "(C)Z"⟩, 4), (⟨"CyclePatterns$Reader", "refineGrain", "(I)Z"⟩, 4), (⟨"CyclePatterns$Reader", "readOperator", "(CII)LCyclePatterns$Node;"⟩, 4), (⟨"CyclePatterns$Reader", "readDigits", "(LCyclePatterns$Node;)Z"⟩, 4), (⟨"CyclePatterns$Reader", "readK", "(LCyclePatterns$Node;I)Z"⟩, 4), (⟨"CyclePatterns$Reader", "readDigit", "(I)I"⟩, 4), (⟨"CyclePatterns$Reader", "readN", "(LCyclePatterns$Node;I)Z"⟩, 4), (⟨"CyclePatterns$Reader", "readR", "(LCyclePatterns$Node;)Z"⟩, 4), (⟨"CyclePatterns$Reader", "readLetterOrRest", "(C)LCyclePatterns$Node;"⟩, 4), (⟨"CyclePatterns$Rows", "isNewestBefore", "(I)Z"⟩, 5), (⟨"CyclePatterns", "gatherOnsets", "(II)V"⟩, 12), (⟨"CyclePatterns", "tickLength", "(I)J"⟩, 12), (⟨"CyclePatterns", "ticksItLasts", "(I)J"⟩, 12)]
theorem lw_r1 : ∀ q ∈ lw_privs_1, lw_okq q := List.forall_mem_cons.mpr ⟨lw_p0, List.forall_mem_cons.mpr ⟨lw_p1, List.forall_mem_cons.mpr ⟨lw_p2, List.forall_mem_cons.mpr ⟨lw_p3, List.forall_mem_cons.mpr ⟨lw_p4, List.forall_mem_cons.mpr ⟨lw_p5, List.forall_mem_cons.mpr ⟨lw_p6, List.forall_mem_cons.mpr ⟨lw_p7, List.forall_mem_cons.mpr ⟨lw_p8, List.forall_mem_cons.mpr ⟨lw_p9, List.forall_mem_cons.mpr ⟨lw_p10, List.forall_mem_cons.mpr ⟨lw_p11, List.forall_mem_cons.mpr ⟨lw_p12, List.forall_mem_cons.mpr ⟨lw_p13, List.forall_mem_cons.mpr ⟨lw_p14, List.forall_mem_cons.mpr ⟨lw_p15, fun _ h => absurd h List.not_mem_nil⟩⟩⟩⟩⟩⟩⟩⟩⟩⟩⟩⟩⟩⟩⟩⟩
theorem lw_p16 : lw_okq (⟨"CyclePatternsModel", "wrong", "()I"⟩, 45) := ⟨⟨by decide +kernel, by decide +kernel⟩, List.mem_of_getElem? (i := 435) (by decide +kernel), List.mem_of_getElem? (i := 587) (by decide +kernel), List.mem_of_getElem? (i := 588) (by decide +kernel)⟩
theorem lw_p17 : lw_okq (⟨"CyclePatternsModel", "goesOn", "()Z"⟩, 45) := ⟨⟨by decide +kernel, by decide +kernel⟩, List.mem_of_getElem? (i := 435) (by decide +kernel), List.mem_of_getElem? (i := 591) (by decide +kernel), List.mem_of_getElem? (i := 592) (by decide +kernel)⟩
theorem lw_p18 : lw_okq (⟨"CyclePatternsModel", "closes", "(I)Z"⟩, 45) := ⟨⟨by decide +kernel, by decide +kernel⟩, List.mem_of_getElem? (i := 435) (by decide +kernel), List.mem_of_getElem? (i := 595) (by decide +kernel), List.mem_of_getElem? (i := 596) (by decide +kernel)⟩
theorem lw_p19 : lw_okq (⟨"CyclePatternsModel", "whole", "(I)V"⟩, 45) := ⟨⟨by decide +kernel, by decide +kernel⟩, List.mem_of_getElem? (i := 435) (by decide +kernel), List.mem_of_getElem? (i := 599) (by decide +kernel), List.mem_of_getElem? (i := 600) (by decide +kernel)⟩
theorem lw_p20 : lw_okq (⟨"CyclePatternsModel", "isFilled", "()Z"⟩, 45) := ⟨⟨by decide +kernel, by decide +kernel⟩, List.mem_of_getElem? (i := 435) (by decide +kernel), List.mem_of_getElem? (i := 609) (by decide +kernel), List.mem_of_getElem? (i := 610) (by decide +kernel)⟩
theorem lw_p21 : lw_okq (⟨"CyclePatternsModel", "node", "(I)I"⟩, 45) := ⟨⟨by decide +kernel, by decide +kernel⟩, List.mem_of_getElem? (i := 435) (by decide +kernel), List.mem_of_getElem? (i := 613) (by decide +kernel), List.mem_of_getElem? (i := 614) (by decide +kernel)⟩
theorem lw_p22 : lw_okq (⟨"CyclePatternsModel", "hasDigits", "(I)Z"⟩, 45) := ⟨⟨by decide +kernel, by decide +kernel⟩, List.mem_of_getElem? (i := 435) (by decide +kernel), List.mem_of_getElem? (i := 617) (by decide +kernel), List.mem_of_getElem? (i := 618) (by decide +kernel)⟩
theorem lw_p23 : lw_okq (⟨"CyclePatternsModel", "digit", "(II)I"⟩, 45) := ⟨⟨by decide +kernel, by decide +kernel⟩, List.mem_of_getElem? (i := 435) (by decide +kernel), List.mem_of_getElem? (i := 621) (by decide +kernel), List.mem_of_getElem? (i := 622) (by decide +kernel)⟩
theorem lw_p24 : lw_okq (⟨"CyclePatternsModel", "grainOf", "()I"⟩, 45) := ⟨⟨by decide +kernel, by decide +kernel⟩, List.mem_of_getElem? (i := 435) (by decide +kernel), List.mem_of_getElem? (i := 625) (by decide +kernel), List.mem_of_getElem? (i := 626) (by decide +kernel)⟩
theorem lw_p25 : lw_okq (⟨"CyclePatternsModel", "gather", "(IJJJI)V"⟩, 45) := ⟨⟨by decide +kernel, by decide +kernel⟩, List.mem_of_getElem? (i := 435) (by decide +kernel), List.mem_of_getElem? (i := 633) (by decide +kernel), List.mem_of_getElem? (i := 634) (by decide +kernel)⟩
theorem lw_p26 : lw_okq (⟨"CyclePatternsModel", "search", "(IJJJI)V"⟩, 45) := ⟨⟨by decide +kernel, by decide +kernel⟩, List.mem_of_getElem? (i := 435) (by decide +kernel), List.mem_of_getElem? (i := 637) (by decide +kernel), List.mem_of_getElem? (i := 638) (by decide +kernel)⟩
theorem lw_p27 : lw_okq (⟨"CyclePatternsModel", "enter", "(IJJJJ)V"⟩, 45) := ⟨⟨by decide +kernel, by decide +kernel⟩, List.mem_of_getElem? (i := 435) (by decide +kernel), List.mem_of_getElem? (i := 641) (by decide +kernel), List.mem_of_getElem? (i := 642) (by decide +kernel)⟩
theorem lw_p28 : lw_okq (⟨"CyclePatternsModel", "move", "(II)V"⟩, 45) := ⟨⟨by decide +kernel, by decide +kernel⟩, List.mem_of_getElem? (i := 435) (by decide +kernel), List.mem_of_getElem? (i := 654) (by decide +kernel), List.mem_of_getElem? (i := 655) (by decide +kernel)⟩
theorem lw_p29 : lw_okq (⟨"CyclePatternsModel", "forward", "(II)V"⟩, 45) := ⟨⟨by decide +kernel, by decide +kernel⟩, List.mem_of_getElem? (i := 435) (by decide +kernel), List.mem_of_getElem? (i := 658) (by decide +kernel), List.mem_of_getElem? (i := 659) (by decide +kernel)⟩
theorem lw_p30 : lw_okq (⟨"CyclePatternsModel", "leaf", "(IJIII)V"⟩, 45) := ⟨⟨by decide +kernel, by decide +kernel⟩, List.mem_of_getElem? (i := 435) (by decide +kernel), List.mem_of_getElem? (i := 662) (by decide +kernel), List.mem_of_getElem? (i := 663) (by decide +kernel)⟩
theorem lw_p31 : lw_okq (⟨"CyclePatternsModel", "add", "(IJJJJI)V"⟩, 45) := ⟨⟨by decide +kernel, by decide +kernel⟩, List.mem_of_getElem? (i := 435) (by decide +kernel), List.mem_of_getElem? (i := 666) (by decide +kernel), List.mem_of_getElem? (i := 667) (by decide +kernel)⟩
def lw_privs_2 : List (MethodName × Nat) := [(⟨"CyclePatternsModel", "wrong", "()I"⟩, 45), (⟨"CyclePatternsModel", "goesOn", "()Z"⟩, 45), (⟨"CyclePatternsModel", "closes", "(I)Z"⟩, 45), (⟨"CyclePatternsModel", "whole", "(I)V"⟩, 45), (⟨"CyclePatternsModel", "isFilled", "()Z"⟩, 45), (⟨"CyclePatternsModel", "node", "(I)I"⟩, 45), (⟨"CyclePatternsModel", "hasDigits", "(I)Z"⟩, 45), (⟨"CyclePatternsModel", "digit", "(II)I"⟩, 45), (⟨"CyclePatternsModel", "grainOf", "()I"⟩, 45), (⟨"CyclePatternsModel", "gather", "(IJJJI)V"⟩, 45), (⟨"CyclePatternsModel", "search", "(IJJJI)V"⟩, 45), (⟨"CyclePatternsModel", "enter", "(IJJJJ)V"⟩, 45), (⟨"CyclePatternsModel", "move", "(II)V"⟩, 45), (⟨"CyclePatternsModel", "forward", "(II)V"⟩, 45), (⟨"CyclePatternsModel", "leaf", "(IJIII)V"⟩, 45), (⟨"CyclePatternsModel", "add", "(IJJJJI)V"⟩, 45)]
theorem lw_r2 : ∀ q ∈ lw_privs_2, lw_okq q := List.forall_mem_cons.mpr ⟨lw_p16, List.forall_mem_cons.mpr ⟨lw_p17, List.forall_mem_cons.mpr ⟨lw_p18, List.forall_mem_cons.mpr ⟨lw_p19, List.forall_mem_cons.mpr ⟨lw_p20, List.forall_mem_cons.mpr ⟨lw_p21, List.forall_mem_cons.mpr ⟨lw_p22, List.forall_mem_cons.mpr ⟨lw_p23, List.forall_mem_cons.mpr ⟨lw_p24, List.forall_mem_cons.mpr ⟨lw_p25, List.forall_mem_cons.mpr ⟨lw_p26, List.forall_mem_cons.mpr ⟨lw_p27, List.forall_mem_cons.mpr ⟨lw_p28, List.forall_mem_cons.mpr ⟨lw_p29, List.forall_mem_cons.mpr ⟨lw_p30, List.forall_mem_cons.mpr ⟨lw_p31, fun _ h => absurd h List.not_mem_nil⟩⟩⟩⟩⟩⟩⟩⟩⟩⟩⟩⟩⟩⟩⟩⟩
theorem lw_p32 : lw_okq (⟨"CyclePatternsModel", "isBefore", "(IJJJJI)Z"⟩, 45) := ⟨⟨by decide +kernel, by decide +kernel⟩, List.mem_of_getElem? (i := 435) (by decide +kernel), List.mem_of_getElem? (i := 670) (by decide +kernel), List.mem_of_getElem? (i := 671) (by decide +kernel)⟩
theorem lw_p33 : lw_okq (⟨"CyclePatternsModel", "addOnset", "(IJJI)V"⟩, 45) := ⟨⟨by decide +kernel, by decide +kernel⟩, List.mem_of_getElem? (i := 435) (by decide +kernel), List.mem_of_getElem? (i := 674) (by decide +kernel), List.mem_of_getElem? (i := 675) (by decide +kernel)⟩
theorem lw_p34 : lw_okq (⟨"CyclePatternsModel", "isLater", "(IIIJJI)Z"⟩, 45) := ⟨⟨by decide +kernel, by decide +kernel⟩, List.mem_of_getElem? (i := 435) (by decide +kernel), List.mem_of_getElem? (i := 678) (by decide +kernel), List.mem_of_getElem? (i := 679) (by decide +kernel)⟩
theorem lw_p35 : lw_okq (⟨"CyclePatternsModel", "child", "(III)I"⟩, 45) := ⟨⟨by decide +kernel, by decide +kernel⟩, List.mem_of_getElem? (i := 435) (by decide +kernel), List.mem_of_getElem? (i := 682) (by decide +kernel), List.mem_of_getElem? (i := 683) (by decide +kernel)⟩
theorem lw_p36 : lw_okq (⟨"CyclePatternsModel", "cut", "(IIJIIJJ)V"⟩, 45) := ⟨⟨by decide +kernel, by decide +kernel⟩, List.mem_of_getElem? (i := 435) (by decide +kernel), List.mem_of_getElem? (i := 686) (by decide +kernel), List.mem_of_getElem? (i := 687) (by decide +kernel)⟩
theorem lw_p37 : lw_okq (⟨"CyclePatternsModel", "plain", "(IIIIJJ)V"⟩, 45) := ⟨⟨by decide +kernel, by decide +kernel⟩, List.mem_of_getElem? (i := 435) (by decide +kernel), List.mem_of_getElem? (i := 691) (by decide +kernel), List.mem_of_getElem? (i := 692) (by decide +kernel)⟩
theorem lw_p38 : lw_okq (⟨"CyclePatternsModel", "areOther", "(JJ)Z"⟩, 45) := ⟨⟨by decide +kernel, by decide +kernel⟩, List.mem_of_getElem? (i := 435) (by decide +kernel), List.mem_of_getElem? (i := 711) (by decide +kernel), List.mem_of_getElem? (i := 712) (by decide +kernel)⟩
def lw_privs_3 : List (MethodName × Nat) := [(⟨"CyclePatternsModel", "isBefore", "(IJJJJI)Z"⟩, 45), (⟨"CyclePatternsModel", "addOnset", "(IJJI)V"⟩, 45), (⟨"CyclePatternsModel", "isLater", "(IIIJJI)Z"⟩, 45), (⟨"CyclePatternsModel", "child", "(III)I"⟩, 45), (⟨"CyclePatternsModel", "cut", "(IIJIIJJ)V"⟩, 45), (⟨"CyclePatternsModel", "plain", "(IIIIJJ)V"⟩, 45), (⟨"CyclePatternsModel", "areOther", "(JJ)Z"⟩, 45)]
theorem lw_r3 : ∀ q ∈ lw_privs_3, lw_okq q := List.forall_mem_cons.mpr ⟨lw_p32, List.forall_mem_cons.mpr ⟨lw_p33, List.forall_mem_cons.mpr ⟨lw_p34, List.forall_mem_cons.mpr ⟨lw_p35, List.forall_mem_cons.mpr ⟨lw_p36, List.forall_mem_cons.mpr ⟨lw_p37, List.forall_mem_cons.mpr ⟨lw_p38, fun _ h => absurd h List.not_mem_nil⟩⟩⟩⟩⟩⟩⟩
def lw_privs : List (MethodName × Nat) := lw_privs_1 ++ (lw_privs_2 ++ (lw_privs_3))
def lw_tbl : List Cond := k2_sels lw_privs ++ tables_1
theorem lw_privs_ok : ∀ q ∈ lw_privs, lw_okq q := by
  show ∀ q ∈ lw_privs_1 ++ (lw_privs_2 ++ (lw_privs_3)), lw_okq q
  exact List.forall_mem_append.mpr ⟨lw_r1, List.forall_mem_append.mpr ⟨lw_r2, lw_r3⟩⟩
/-! names: classes, fields in the order of the slots, methods -/
def R_X : String := "CyclePatterns"
def F_X : u_T := fun k => match k with
  | 0 => ("CyclePatterns", "reader", "LCyclePatterns$Reader;", true)
  | 1 => ("CyclePatterns", "patterns", "[LCyclePatterns$Node;", true)
  | 2 => ("CyclePatterns", "grains", "[I", true)
  | 3 => ("CyclePatterns", "found", "LCyclePatterns$Parts;", true)
  | 4 => ("CyclePatterns", "foundUnit", "I", false)
  | 5 => ("CyclePatterns", "partsOfOne", "LCyclePatterns$Parts;", true)
  | 6 => ("CyclePatterns", "partsOfOther", "LCyclePatterns$Parts;", true)
  | 7 => ("CyclePatterns", "dueOnsets", "LCyclePatterns$Onsets;", true)
  | 8 => ("CyclePatterns", "playing", "I", false)
  | 9 => ("CyclePatterns", "speedCycles", "I", false)
  | 10 => ("CyclePatterns", "speedSplit", "I", false)
  | _ => ("CyclePatterns", "presentTick", "J", false)
def t_X : Nat → FieldType := fun k => match k with
  | 0 => .object "CyclePatterns$Reader"
  | 1 => .array (.object "CyclePatterns$Node")
  | 2 => .array .int
  | 3 => .object "CyclePatterns$Parts"
  | 4 => .int
  | 5 => .object "CyclePatterns$Parts"
  | 6 => .object "CyclePatterns$Parts"
  | 7 => .object "CyclePatterns$Onsets"
  | 8 => .int
  | 9 => .int
  | 10 => .int
  | _ => .long
theorem n_X : ∀ a, a < 12 → ∀ b, b < 12 → a ≠ b → (F_X a).2.1 ≠ (F_X b).2.1 := by decide +kernel
theorem t_X_ok : ∀ k, k < 12 → parseFieldDescriptor (F_X k).2.2.1 = some (t_X k) := by decide +kernel
def R_N : String := "CyclePatterns$Node"
def F_N : u_T := fun k => match k with
  | 0 => ("CyclePatterns$Node", "kind", "C", true)
  | 1 => ("CyclePatterns$Node", "inner", "[LCyclePatterns$Node;", true)
  | 2 => ("CyclePatterns$Node", "innerCount", "I", false)
  | 3 => ("CyclePatterns$Node", "k", "I", false)
  | 4 => ("CyclePatterns$Node", "n", "I", false)
  | 5 => ("CyclePatterns$Node", "\x72", "I", false)
  | _ => ("CyclePatterns$Node", "hasLetter", "Z", false)
def t_N : Nat → FieldType := fun k => match k with
  | 0 => .char
  | 1 => .array (.object "CyclePatterns$Node")
  | 2 => .int
  | 3 => .int
  | 4 => .int
  | 5 => .int
  | _ => .boolean
theorem n_N : ∀ a, a < 7 → ∀ b, b < 7 → a ≠ b → (F_N a).2.1 ≠ (F_N b).2.1 := by decide +kernel
theorem t_N_ok : ∀ k, k < 7 → parseFieldDescriptor (F_N k).2.2.1 = some (t_N k) := by decide +kernel
def R_Rd : String := "CyclePatterns$Reader"
def F_Rd : u_T := fun k => match k with
  | 0 => ("CyclePatterns$Reader", "text", "[C", true)
  | 1 => ("CyclePatterns$Reader", "length", "I", false)
  | 2 => ("CyclePatterns$Reader", "at", "I", false)
  | _ => ("CyclePatterns$Reader", "grain", "I", false)
def t_Rd : Nat → FieldType := fun k => match k with
  | 0 => .array .char
  | 1 => .int
  | 2 => .int
  | _ => .int
theorem n_Rd : ∀ a, a < 4 → ∀ b, b < 4 → a ≠ b → (F_Rd a).2.1 ≠ (F_Rd b).2.1 := by decide +kernel
theorem t_Rd_ok : ∀ k, k < 4 → parseFieldDescriptor (F_Rd k).2.2.1 = some (t_Rd k) := by decide +kernel
def R_Rw : String := "CyclePatterns$Rows"
def F_Rw : u_T := fun k => match k with
  | 0 => ("CyclePatterns$Rows", "limit", "I", true)
  | 1 => ("CyclePatterns$Rows", "values", "[J", true)
  | 2 => ("CyclePatterns$Rows", "rowAt", "[I", true)
  | 3 => ("CyclePatterns$Rows", "count", "I", false)
  | _ => ("CyclePatterns$Rows", "tooMany", "Z", false)
def t_Rw : Nat → FieldType := fun k => match k with
  | 0 => .int
  | 1 => .array .long
  | 2 => .array .int
  | 3 => .int
  | _ => .boolean
theorem n_Rw : ∀ a, a < 5 → ∀ b, b < 5 → a ≠ b → (F_Rw a).2.1 ≠ (F_Rw b).2.1 := by decide +kernel
theorem t_Rw_ok : ∀ k, k < 5 → parseFieldDescriptor (F_Rw k).2.2.1 = some (t_Rw k) := by decide +kernel
def R_Pa : String := "CyclePatterns$Parts"
def F_Pa : u_T := fun k => match k with
  | _ => ("CyclePatterns$Walk", "rows", "LCyclePatterns$Rows;", true)
def t_Pa : Nat → FieldType := fun k => match k with
  | _ => .object "CyclePatterns$Rows"
theorem n_Pa : ∀ a, a < 1 → ∀ b, b < 1 → a ≠ b → (F_Pa a).2.1 ≠ (F_Pa b).2.1 := by decide +kernel
theorem t_Pa_ok : ∀ k, k < 1 → parseFieldDescriptor (F_Pa k).2.2.1 = some (t_Pa k) := by decide +kernel
def R_On : String := "CyclePatterns$Onsets"
def F_On : u_T := fun k => match k with
  | 0 => ("CyclePatterns$Walk", "rows", "LCyclePatterns$Rows;", true)
  | 1 => ("CyclePatterns$Onsets", "slot", "I", false)
  | _ => ("CyclePatterns$Onsets", "tickLength", "J", false)
def t_On : Nat → FieldType := fun k => match k with
  | 0 => .object "CyclePatterns$Rows"
  | 1 => .int
  | _ => .long
theorem n_On : ∀ a, a < 3 → ∀ b, b < 3 → a ≠ b → (F_On a).2.1 ≠ (F_On b).2.1 := by decide +kernel
theorem t_On_ok : ∀ k, k < 3 → parseFieldDescriptor (F_On k).2.2.1 = some (t_On k) := by decide +kernel
def R_M : String := "CyclePatternsModel"
def F_M : u_T := fun k => match k with
  | 0 => ("CyclePatternsModel", "typed", "I", false)
  | 1 => ("CyclePatternsModel", "buffer", "[I", true)
  | 2 => ("CyclePatternsModel", "at", "I", false)
  | 3 => ("CyclePatternsModel", "kinds", "[I", true)
  | 4 => ("CyclePatternsModel", "ones", "[I", true)
  | 5 => ("CyclePatternsModel", "twos", "[I", true)
  | 6 => ("CyclePatternsModel", "threes", "[I", true)
  | 7 => ("CyclePatternsModel", "firsts", "[I", true)
  | 8 => ("CyclePatternsModel", "nexts", "[I", true)
  | 9 => ("CyclePatternsModel", "counts", "[I", true)
  | 10 => ("CyclePatternsModel", "roots", "[I", true)
  | 11 => ("CyclePatternsModel", "sizes", "[I", true)
  | 12 => ("CyclePatternsModel", "grains", "[I", true)
  | 13 => ("CyclePatternsModel", "depth", "I", false)
  | 14 => ("CyclePatternsModel", "open", "[I", true)
  | 15 => ("CyclePatternsModel", "lasts", "[I", true)
  | 16 => ("CyclePatternsModel", "way", "I", false)
  | 17 => ("CyclePatternsModel", "nodes", "[I", true)
  | 18 => ("CyclePatternsModel", "froms", "[J", true)
  | 19 => ("CyclePatternsModel", "tos", "[J", true)
  | 20 => ("CyclePatternsModel", "as", "[J", true)
  | 21 => ("CyclePatternsModel", "bs", "[J", true)
  | 22 => ("CyclePatternsModel", "cycles", "[J", true)
  | 23 => ("CyclePatternsModel", "ends", "[J", true)
  | 24 => ("CyclePatternsModel", "steps", "[I", true)
  | 25 => ("CyclePatternsModel", "many", "[I", true)
  | 26 => ("CyclePatternsModel", "much", "[Z", true)
  | 27 => ("CyclePatternsModel", "begins", "[J", true)
  | 28 => ("CyclePatternsModel", "stops", "[J", true)
  | 29 => ("CyclePatternsModel", "wholes", "[J", true)
  | 30 => ("CyclePatternsModel", "wholeEnds", "[J", true)
  | 31 => ("CyclePatternsModel", "letters", "[I", true)
  | 32 => ("CyclePatternsModel", "unit", "I", false)
  | 33 => ("CyclePatternsModel", "playing", "I", false)
  | 34 => ("CyclePatternsModel", "speed", "J", false)
  | 35 => ("CyclePatternsModel", "per", "J", false)
  | 36 => ("CyclePatternsModel", "tick", "I", false)
  | 37 => ("CyclePatternsModel", "due", "I", false)
  | 38 => ("CyclePatternsModel", "tooMany", "Z", false)
  | 39 => ("CyclePatternsModel", "dueTicks", "[I", true)
  | 40 => ("CyclePatternsModel", "dueSlots", "[I", true)
  | 41 => ("CyclePatternsModel", "dueLetters", "[I", true)
  | 42 => ("CyclePatternsModel", "dueLasts", "[I", true)
  | 43 => ("CyclePatternsModel", "dueTimes", "[J", true)
  | _ => ("CyclePatternsModel", "dueEnds", "[J", true)
def t_M : Nat → FieldType := fun k => match k with
  | 0 => .int
  | 1 => .array .int
  | 2 => .int
  | 3 => .array .int
  | 4 => .array .int
  | 5 => .array .int
  | 6 => .array .int
  | 7 => .array .int
  | 8 => .array .int
  | 9 => .array .int
  | 10 => .array .int
  | 11 => .array .int
  | 12 => .array .int
  | 13 => .int
  | 14 => .array .int
  | 15 => .array .int
  | 16 => .int
  | 17 => .array .int
  | 18 => .array .long
  | 19 => .array .long
  | 20 => .array .long
  | 21 => .array .long
  | 22 => .array .long
  | 23 => .array .long
  | 24 => .array .int
  | 25 => .array .int
  | 26 => .array .boolean
  | 27 => .array .long
  | 28 => .array .long
  | 29 => .array .long
  | 30 => .array .long
  | 31 => .array .int
  | 32 => .int
  | 33 => .int
  | 34 => .long
  | 35 => .long
  | 36 => .int
  | 37 => .int
  | 38 => .boolean
  | 39 => .array .int
  | 40 => .array .int
  | 41 => .array .int
  | 42 => .array .int
  | 43 => .array .long
  | _ => .array .long
theorem n_M : ∀ a, a < 45 → ∀ b, b < 45 → a ≠ b → (F_M a).2.1 ≠ (F_M b).2.1 := by decide +kernel
theorem t_M_ok : ∀ k, k < 45 → parseFieldDescriptor (F_M k).2.2.1 = some (t_M k) := by decide +kernel
def R_Wk : String := "CyclePatterns$Walk"
def R_L : String := "CyclePatternsLaw"
def R_Jm : String := "java/lang/Math"
abbrev classes : List vw_C := [(R_X, F_X, 12), (R_N, F_N, 7), (R_Rd, F_Rd, 4), (R_Rw, F_Rw, 5), (R_Pa, F_Pa, 1), (R_On, F_On, 3), (R_M, F_M, 45)]
abbrev b_X_init : ByteArray := prog_1_method_1_code
def y_X_init : MethodName := ⟨R_X, "<init>", "()V"⟩
abbrev b_X_type : ByteArray := prog_1_method_2_code
def y_X_type : MethodName := ⟨R_X, "type", "(JI)I"⟩
abbrev b_X_define : ByteArray := prog_1_method_3_code
def y_X_define : MethodName := ⟨R_X, "define", "(I)I"⟩
abbrev b_X_query : ByteArray := prog_1_method_4_code
def y_X_query : MethodName := ⟨R_X, "query", "(IIII)I"⟩
abbrev b_X_unit : ByteArray := prog_1_method_5_code
def y_X_unit : MethodName := ⟨R_X, "unit", "()I"⟩
abbrev b_X_part : ByteArray := prog_1_method_6_code
def y_X_part : MethodName := ⟨R_X, "part", "(II)I"⟩
abbrev b_X_onsets : ByteArray := prog_1_method_7_code
def y_X_onsets : MethodName := ⟨R_X, "onsets", "()I"⟩
abbrev b_X_differ : ByteArray := prog_1_method_8_code
def y_X_differ : MethodName := ⟨R_X, "differ", "(II)I"⟩
abbrev b_X_play : ByteArray := prog_1_method_9_code
def y_X_play : MethodName := ⟨R_X, "play", "(III)Z"⟩
abbrev b_X_advance : ByteArray := prog_1_method_10_code
def y_X_advance : MethodName := ⟨R_X, "advance", "(I)I"⟩
abbrev b_X_due : ByteArray := prog_1_method_11_code
def y_X_due : MethodName := ⟨R_X, "due", "(II)I"⟩
abbrev b_X_tick : ByteArray := prog_1_method_12_code
def y_X_tick : MethodName := ⟨R_X, "tick", "()I"⟩
abbrev b_X_isSlot : ByteArray := prog_1_method_13_code
def y_X_isSlot : MethodName := ⟨R_X, "isSlot", "(I)Z"⟩
abbrev b_X_isSpan : ByteArray := prog_1_method_14_code
def y_X_isSpan : MethodName := ⟨R_X, "isSpan", "(III)Z"⟩
abbrev b_X_stopPlaying : ByteArray := prog_1_method_15_code
def y_X_stopPlaying : MethodName := ⟨R_X, "stopPlaying", "()V"⟩
abbrev b_X_gatherOnsets : ByteArray := prog_1_method_16_code
def y_X_gatherOnsets : MethodName := ⟨R_X, "gatherOnsets", "(II)V"⟩
abbrev b_X_tickLength : ByteArray := prog_1_method_17_code
def y_X_tickLength : MethodName := ⟨R_X, "tickLength", "(I)J"⟩
abbrev b_X_ticksItLasts : ByteArray := prog_1_method_18_code
def y_X_ticksItLasts : MethodName := ⟨R_X, "ticksItLasts", "(I)J"⟩
abbrev b_M_init : ByteArray := prog_9_method_1_code
def y_M_init : MethodName := ⟨R_M, "<init>", "()V"⟩
abbrev b_M_type : ByteArray := prog_9_method_2_code
def y_M_type : MethodName := ⟨R_M, "type", "(JI)I"⟩
abbrev b_M_node : ByteArray := prog_9_method_3_code
def y_M_node : MethodName := ⟨R_M, "node", "(I)I"⟩
abbrev b_M_wants : ByteArray := prog_9_method_4_code
def y_M_wants : MethodName := ⟨R_M, "wants", "(I)I"⟩
abbrev b_M_whole : ByteArray := prog_9_method_5_code
def y_M_whole : MethodName := ⟨R_M, "whole", "(I)V"⟩
abbrev b_M_digit : ByteArray := prog_9_method_6_code
def y_M_digit : MethodName := ⟨R_M, "digit", "(II)I"⟩
abbrev b_M_kindOf : ByteArray := prog_9_method_7_code
def y_M_kindOf : MethodName := ⟨R_M, "kindOf", "(I)I"⟩
abbrev b_M_hasDigits : ByteArray := prog_9_method_8_code
def y_M_hasDigits : MethodName := ⟨R_M, "hasDigits", "(I)Z"⟩
abbrev b_M_closes : ByteArray := prog_9_method_9_code
def y_M_closes : MethodName := ⟨R_M, "closes", "(I)Z"⟩
abbrev b_M_isFilled : ByteArray := prog_9_method_10_code
def y_M_isFilled : MethodName := ⟨R_M, "isFilled", "()Z"⟩
abbrev b_M_goesOn : ByteArray := prog_9_method_11_code
def y_M_goesOn : MethodName := ⟨R_M, "goesOn", "()Z"⟩
abbrev b_M_wrong : ByteArray := prog_9_method_12_code
def y_M_wrong : MethodName := ⟨R_M, "wrong", "()I"⟩
abbrev b_M_grainOf : ByteArray := prog_9_method_13_code
def y_M_grainOf : MethodName := ⟨R_M, "grainOf", "()I"⟩
abbrev b_M_define : ByteArray := prog_9_method_14_code
def y_M_define : MethodName := ⟨R_M, "define", "(I)I"⟩
abbrev b_M_floor : ByteArray := prog_9_method_15_code
def y_M_floor : MethodName := ⟨R_M, "floor", "(JJ)J"⟩
abbrev b_M_low : ByteArray := prog_9_method_16_code
def y_M_low : MethodName := ⟨R_M, "low", "(JJ)J"⟩
abbrev b_M_high : ByteArray := prog_9_method_17_code
def y_M_high : MethodName := ⟨R_M, "high", "(JJ)J"⟩
abbrev b_M_enter : ByteArray := prog_9_method_18_code
def y_M_enter : MethodName := ⟨R_M, "enter", "(IJJJJ)V"⟩
abbrev b_M_child : ByteArray := prog_9_method_19_code
def y_M_child : MethodName := ⟨R_M, "child", "(III)I"⟩
abbrev b_M_forward : ByteArray := prog_9_method_20_code
def y_M_forward : MethodName := ⟨R_M, "forward", "(II)V"⟩
abbrev b_M_cut : ByteArray := prog_9_method_21_code
def y_M_cut : MethodName := ⟨R_M, "cut", "(IIJIIJJ)V"⟩
abbrev b_M_move : ByteArray := prog_9_method_22_code
def y_M_move : MethodName := ⟨R_M, "move", "(II)V"⟩
abbrev b_M_plain : ByteArray := prog_9_method_23_code
def y_M_plain : MethodName := ⟨R_M, "plain", "(IIIIJJ)V"⟩
abbrev b_M_leaf : ByteArray := prog_9_method_24_code
def y_M_leaf : MethodName := ⟨R_M, "leaf", "(IJIII)V"⟩
abbrev b_M_search : ByteArray := prog_9_method_25_code
def y_M_search : MethodName := ⟨R_M, "search", "(IJJJI)V"⟩
abbrev b_M_isBefore : ByteArray := prog_9_method_26_code
def y_M_isBefore : MethodName := ⟨R_M, "isBefore", "(IJJJJI)Z"⟩
abbrev b_M_add : ByteArray := prog_9_method_27_code
def y_M_add : MethodName := ⟨R_M, "add", "(IJJJJI)V"⟩
abbrev b_M_gather : ByteArray := prog_9_method_28_code
def y_M_gather : MethodName := ⟨R_M, "gather", "(IJJJI)V"⟩
abbrev b_M_query : ByteArray := prog_9_method_29_code
def y_M_query : MethodName := ⟨R_M, "query", "(IIII)I"⟩
abbrev b_M_unit : ByteArray := prog_9_method_30_code
def y_M_unit : MethodName := ⟨R_M, "unit", "()I"⟩
abbrev b_M_part : ByteArray := prog_9_method_31_code
def y_M_part : MethodName := ⟨R_M, "part", "(II)I"⟩
abbrev b_M_onsets : ByteArray := prog_9_method_32_code
def y_M_onsets : MethodName := ⟨R_M, "onsets", "()I"⟩
abbrev b_M_areOther : ByteArray := prog_9_method_33_code
def y_M_areOther : MethodName := ⟨R_M, "areOther", "(JJ)Z"⟩
abbrev b_M_differ : ByteArray := prog_9_method_34_code
def y_M_differ : MethodName := ⟨R_M, "differ", "(II)I"⟩
abbrev b_M_play : ByteArray := prog_9_method_35_code
def y_M_play : MethodName := ⟨R_M, "play", "(III)Z"⟩
abbrev b_M_addOnset : ByteArray := prog_9_method_36_code
def y_M_addOnset : MethodName := ⟨R_M, "addOnset", "(IJJI)V"⟩
abbrev b_M_isLater : ByteArray := prog_9_method_37_code
def y_M_isLater : MethodName := ⟨R_M, "isLater", "(IIIJJI)Z"⟩
abbrev b_M_advance : ByteArray := prog_9_method_38_code
def y_M_advance : MethodName := ⟨R_M, "advance", "(I)I"⟩
abbrev b_M_due : ByteArray := prog_9_method_39_code
def y_M_due : MethodName := ⟨R_M, "due", "(II)I"⟩
abbrev b_M_tick : ByteArray := prog_9_method_40_code
def y_M_tick : MethodName := ⟨R_M, "tick", "()I"⟩
abbrev b_N_init : ByteArray := prog_2_method_1_code
def y_N_init : MethodName := ⟨R_N, "<init>", "(CI)V"⟩
abbrev b_N_isLetter : ByteArray := prog_2_method_2_code
def y_N_isLetter : MethodName := ⟨R_N, "isLetter", "(C)Z"⟩
abbrev b_N_add : ByteArray := prog_2_method_3_code
def y_N_add : MethodName := ⟨R_N, "add", "(LCyclePatterns$Node;)Z"⟩
abbrev b_N_canSound : ByteArray := prog_2_method_4_code
def y_N_canSound : MethodName := ⟨R_N, "canSound", "()Z"⟩
abbrev b_N_innerAt : ByteArray := prog_2_method_5_code
def y_N_innerAt : MethodName := ⟨R_N, "innerAt", "(I)LCyclePatterns$Node;"⟩
abbrev b_N_inStep : ByteArray := prog_2_method_6_code
def y_N_inStep : MethodName := ⟨R_N, "inStep", "(I)LCyclePatterns$Node;"⟩
abbrev b_On_init : ByteArray := prog_3_method_1_code
def y_On_init : MethodName := ⟨R_On, "<init>", "()V"⟩
abbrev b_On_hear : ByteArray := prog_3_method_2_code
def y_On_hear : MethodName := ⟨R_On, "hear", "(CJJJJ)V"⟩
abbrev b_Pa_init : ByteArray := prog_4_method_1_code
def y_Pa_init : MethodName := ⟨R_Pa, "<init>", "()V"⟩
abbrev b_Pa_gather : ByteArray := prog_4_method_2_code
def y_Pa_gather : MethodName := ⟨R_Pa, "gather", "(LCyclePatterns$Node;JJJ)Z"⟩
abbrev b_Pa_hear : ByteArray := prog_4_method_3_code
def y_Pa_hear : MethodName := ⟨R_Pa, "hear", "(CJJJJ)V"⟩
abbrev b_Rd_init : ByteArray := prog_5_method_1_code
def y_Rd_init : MethodName := ⟨R_Rd, "<init>", "()V"⟩
abbrev b_Rd_areTypeable : ByteArray := prog_5_method_2_code
def y_Rd_areTypeable : MethodName := ⟨R_Rd, "areTypeable", "(JI)Z"⟩
abbrev b_Rd_signAt : ByteArray := prog_5_method_3_code
def y_Rd_signAt : MethodName := ⟨R_Rd, "signAt", "(JI)C"⟩
abbrev b_Rd_append : ByteArray := prog_5_method_4_code
def y_Rd_append : MethodName := ⟨R_Rd, "append", "(JI)Z"⟩
abbrev b_Rd_clear : ByteArray := prog_5_method_5_code
def y_Rd_clear : MethodName := ⟨R_Rd, "clear", "()V"⟩
abbrev b_Rd_read : ByteArray := prog_5_method_6_code
def y_Rd_read : MethodName := ⟨R_Rd, "read", "()LCyclePatterns$Node;"⟩
abbrev b_Rd_readPattern : ByteArray := prog_5_method_7_code
def y_Rd_readPattern : MethodName := ⟨R_Rd, "readPattern", "(I)LCyclePatterns$Node;"⟩
abbrev b_Rd_readLetterOrRest : ByteArray := prog_5_method_8_code
def y_Rd_readLetterOrRest : MethodName := ⟨R_Rd, "readLetterOrRest", "(C)LCyclePatterns$Node;"⟩
abbrev b_Rd_readGroup : ByteArray := prog_5_method_9_code
def y_Rd_readGroup : MethodName := ⟨R_Rd, "readGroup", "(CCI)LCyclePatterns$Node;"⟩
abbrev b_Rd_isAt : ByteArray := prog_5_method_10_code
def y_Rd_isAt : MethodName := ⟨R_Rd, "isAt", "(C)Z"⟩
abbrev b_Rd_readOperator : ByteArray := prog_5_method_11_code
def y_Rd_readOperator : MethodName := ⟨R_Rd, "readOperator", "(CII)LCyclePatterns$Node;"⟩
abbrev b_Rd_readDigits : ByteArray := prog_5_method_12_code
def y_Rd_readDigits : MethodName := ⟨R_Rd, "readDigits", "(LCyclePatterns$Node;)Z"⟩
abbrev b_Rd_readK : ByteArray := prog_5_method_13_code
def y_Rd_readK : MethodName := ⟨R_Rd, "readK", "(LCyclePatterns$Node;I)Z"⟩
abbrev b_Rd_readN : ByteArray := prog_5_method_14_code
def y_Rd_readN : MethodName := ⟨R_Rd, "readN", "(LCyclePatterns$Node;I)Z"⟩
abbrev b_Rd_readR : ByteArray := prog_5_method_15_code
def y_Rd_readR : MethodName := ⟨R_Rd, "readR", "(LCyclePatterns$Node;)Z"⟩
abbrev b_Rd_readDigit : ByteArray := prog_5_method_16_code
def y_Rd_readDigit : MethodName := ⟨R_Rd, "readDigit", "(I)I"⟩
abbrev b_Rd_refineGrain : ByteArray := prog_5_method_17_code
def y_Rd_refineGrain : MethodName := ⟨R_Rd, "refineGrain", "(I)Z"⟩
abbrev b_Rw_init : ByteArray := prog_6_method_1_code
def y_Rw_init : MethodName := ⟨R_Rw, "<init>", "(I)V"⟩
abbrev b_Rw_clear : ByteArray := prog_6_method_2_code
def y_Rw_clear : MethodName := ⟨R_Rw, "clear", "()V"⟩
abbrev b_Rw_has : ByteArray := prog_6_method_3_code
def y_Rw_has : MethodName := ⟨R_Rw, "has", "(I)Z"⟩
abbrev b_Rw_value : ByteArray := prog_6_method_4_code
def y_Rw_value : MethodName := ⟨R_Rw, "value", "(II)J"⟩
abbrev b_Rw_add : ByteArray := prog_6_method_5_code
def y_Rw_add : MethodName := ⟨R_Rw, "add", "(JJJJJ)V"⟩
abbrev b_Rw_isNewestBefore : ByteArray := prog_6_method_6_code
def y_Rw_isNewestBefore : MethodName := ⟨R_Rw, "isNewestBefore", "(I)Z"⟩
abbrev b_Rw_sameAs : ByteArray := prog_6_method_7_code
def y_Rw_sameAs : MethodName := ⟨R_Rw, "sameAs", "(LCyclePatterns$Rows;)Z"⟩
abbrev b_Wk_init : ByteArray := prog_7_method_1_code
def y_Wk_init : MethodName := ⟨R_Wk, "<init>", "(I)V"⟩
abbrev b_Wk_walk : ByteArray := prog_7_method_3_code
def y_Wk_walk : MethodName := ⟨R_Wk, "walk", "(LCyclePatterns$Node;JJJJI)V"⟩
abbrev b_Wk_walkCycles : ByteArray := prog_7_method_4_code
def y_Wk_walkCycles : MethodName := ⟨R_Wk, "walkCycles", "(LCyclePatterns$Node;JJJJI)V"⟩
abbrev b_Wk_walkCycle : ByteArray := prog_7_method_5_code
def y_Wk_walkCycle : MethodName := ⟨R_Wk, "walkCycle", "(LCyclePatterns$Node;JJJJJI)V"⟩
abbrev b_Wk_walkSteps : ByteArray := prog_7_method_6_code
def y_Wk_walkSteps : MethodName := ⟨R_Wk, "walkSteps", "(LCyclePatterns$Node;JJJJJI)V"⟩
abbrev b_Wk_walkInto : ByteArray := prog_7_method_7_code
def y_Wk_walkInto : MethodName := ⟨R_Wk, "walkInto", "(JLCyclePatterns$Node;JJJJI)V"⟩
abbrev b_Wk_begin : ByteArray := prog_7_method_8_code
def y_Wk_begin : MethodName := ⟨R_Wk, "begin", "(JJJ)J"⟩
abbrev b_Wk_end : ByteArray := prog_7_method_9_code
def y_Wk_end : MethodName := ⟨R_Wk, "end", "(JJJ)J"⟩
abbrev b_Jm_floorDiv : ByteArray := prog_10_method_49_code
def y_Jm_floorDiv : MethodName := ⟨R_Jm, "floorDiv", "(JJ)J"⟩
abbrev b_Jm_floorMod : ByteArray := prog_10_method_52_code
def y_Jm_floorMod : MethodName := ⟨R_Jm, "floorMod", "(JJ)J"⟩
/-- links to private members of nest mates -/
def NW : List Cond := [Cond.fieldLinkNest "CyclePatterns" 60 "CyclePatterns$Reader" "length" "I" "CyclePatterns", Cond.fieldLinkNest "CyclePatterns" 77 "CyclePatterns$Reader" "at" "I" "CyclePatterns", Cond.fieldLinkNest "CyclePatterns" 80 "CyclePatterns$Reader" "grain" "I" "CyclePatterns", Cond.fieldLinkNest "CyclePatterns$Walk" 26 "CyclePatterns$Node" "kind" "C" "CyclePatterns", Cond.fieldLinkNest "CyclePatterns$Reader" 76 "CyclePatterns$Node" "kind" "C" "CyclePatterns", Cond.fieldLinkNest "CyclePatterns$Reader" 63 "CyclePatterns$Node" "innerCount" "I" "CyclePatterns", Cond.fieldLinkNest "CyclePatterns$Walk" 34 "CyclePatterns$Node" "k" "I" "CyclePatterns", Cond.fieldLinkNest "CyclePatterns$Reader" 84 "CyclePatterns$Node" "k" "I" "CyclePatterns", Cond.fieldLinkNest "CyclePatterns$Walk" 42 "CyclePatterns$Node" "n" "I" "CyclePatterns", Cond.fieldLinkNest "CyclePatterns$Reader" 66 "CyclePatterns$Node" "n" "I" "CyclePatterns", Cond.fieldLinkNest "CyclePatterns$Reader" 103 "CyclePatterns$Node" "\x72" "I" "CyclePatterns", Cond.fieldLinkNest "CyclePatterns" 95 "CyclePatterns$Rows" "count" "I" "CyclePatterns", Cond.fieldLinkNest "CyclePatterns$Parts" 25 "CyclePatterns$Rows" "tooMany" "Z" "CyclePatterns", Cond.fieldLinkNest "CyclePatterns$Walk" 45 "CyclePatterns$Rows" "tooMany" "Z" "CyclePatterns", Cond.fieldLinkNest "CyclePatterns" 126 "CyclePatterns$Rows" "tooMany" "Z" "CyclePatterns", Cond.fieldLinkNest "CyclePatterns" 143 "CyclePatterns$Onsets" "slot" "I" "CyclePatterns", Cond.fieldLinkNest "CyclePatterns" 146 "CyclePatterns$Onsets" "tickLength" "J" "CyclePatterns", Cond.methodLinkNest "CyclePatterns" 9 ⟨"CyclePatterns$Reader", "<init>", "()V"⟩ "CyclePatterns", Cond.declares ⟨"CyclePatterns$Walk", "walk", "(LCyclePatterns$Node;JJJJI)V"⟩, Cond.declares ⟨"CyclePatterns$Walk", "hear", "(CJJJJ)V"⟩]
/-- private methods of Walk, called on its two kinds -/
def xt_ : List Cond := [Cond.selects R_Pa y_Wk_walkCycles y_Wk_walkCycles, Cond.selects R_Pa y_Wk_walkCycle y_Wk_walkCycle, Cond.selects R_Pa y_Wk_walkSteps y_Wk_walkSteps, Cond.selects R_Pa y_Wk_walkInto y_Wk_walkInto, Cond.selects R_On y_Wk_walkCycles y_Wk_walkCycles, Cond.selects R_On y_Wk_walkCycle y_Wk_walkCycle, Cond.selects R_On y_Wk_walkSteps y_Wk_walkSteps, Cond.selects R_On y_Wk_walkInto y_Wk_walkInto]
