/-! the claim's own surroundings: the classes' numbers G, the words WS, what every method may take as given (xw_F), the world (xw_H) -/
def ja_ (g : Nat → Int) : Nat → Int32 := fun j => xi_ (g j)
def jl_ (g : Nat → Int) : Nat → Int64 := fun j => xl_ (g j)
theorem ja_up (g : Nat → Int) (k : Nat) (x : Int) : upd (ja_ g) k (xi_ x) = ja_ (va_up g k x) := by
  funext j
  unfold upd ja_ va_up
  split <;> rfl
theorem jl_up (g : Nat → Int) (k : Nat) (x : Int) : vp_updL (jl_ g) k (xl_ x) = jl_ (va_up g k x) := by
  funext j
  unfold vp_updL jl_ va_up
  split <;> rfl
/-- class numbers, slots of fields, numbers of the array classes: int 0, long 1, char 2, boolean 3, Node 4 -/
abbrev GG_ : Type := (Nat → ClassId) × (Nat → Nat → Nat) × (Nat → ClassId)
def gD (G : GG_) : va_G := (G.1, G.2.1)
def gT (G : GG_) : List (ClassId × FieldType) := [(G.2.2 0, .int), (G.2.2 1, .long), (G.2.2 2, .char), (G.2.2 3, .boolean), (G.2.2 4, .object R_N)]
def is_nest : Cond → Bool
  | .fieldLinkNest .. => true
  | .methodLinkNest .. => true
  | .declares _ => true
  | _ => false
theorem NW_nest : ∀ w ∈ NW, is_nest w = true := List.all_eq_true.mp rfl
theorem nest_warm {w : Cond} (h : is_nest w = true) {s U : State} (hW : s.WarmedH U.vm) (hZ : va_Nw w s) : va_Nw w U := by
  cases w
  case fieldLinkNest => exact va_Nw.warmF hW hZ
  case methodLinkNest => exact va_Nw.warmM hW hZ
  case declares => exact va_Nw.warmD hW hZ
  all_goals cases h
/-- what the tables say: class numbers, links to private members of nest mates, arrays of nodes -/
def xw_E (G : GG_) (U : State) : Prop := va_K (gD G) classes (gT G) U ∧ (∀ w ∈ NW, va_Nw w U) ∧ va_AO R_N U
theorem xw_E.warm {G : GG_} {s U : State} (hW : s.WarmedH U.vm) (h : xw_E G s) : xw_E G U :=
  ⟨va_K.moved hW.alike h.1, fun w hw => nest_warm (NW_nest w hw) hW (h.2.1 w hw), va_AO.moved hW.alike h.2.2⟩
theorem xw_E.same {G : GG_} {s U : State} (hvm : s.vm = U.vm) (h : xw_E G s) : xw_E G U :=
  ⟨va_K.moved (by rw [hvm]; exact Vm.Alike.refl U.vm) h.1, fun w hw => va_Nw.same (by have := NW_nest w hw; cases w <;> first | rfl | cases this) hvm (h.2.1 w hw), va_AO.moved (by rw [hvm]; exact Vm.Alike.refl U.vm) h.2.2⟩
def WS : List Cond := (xt_ ++ lw_tbl).filter goodWord
theorem WS_in {w : Cond} (h : w ∈ xt_ ++ lw_tbl) (g : goodWord w = true) : w ∈ WS := List.mem_filter.mpr ⟨h, g⟩
theorem WS_good {w : Cond} (h : w ∈ WS) : (w.onTables && w.keeps) = true ∨ ∃ ty, w = .arrayClass ty := good_of_word (List.mem_filter.mp h).2
theorem WS_all {w1 w2 : Cond} (h : w2 ∈ WS) : GoodIn (w1 :: WS) (w2 :: WS) := fun w hw => by
  rcases List.mem_cons.mp hw with rfl | hw
  · exact ⟨List.mem_cons_of_mem _ h, WS_good h⟩
  · exact ⟨List.mem_cons_of_mem _ hw, WS_good hw⟩
/-- a method's words: its own code, and all of the tables -/
abbrev cw_ (y : MethodName) (cc : ByteArray) (n : Nat) (ret : Option FieldType) : List Cond := Cond.code y cc n ret :: WS
/-- what a method's walk takes as given -/
def xw_F (p : Program) (s : State) (m : MethodId) (args : Array Value) (c : Code) (cc : ByteArray) (nL : Nat) (own : String) (G : GG_) : Prop :=
  p.tables.exec = Jvm.exec ∧ c.code = cc ∧ c.maxLocals = nL ∧ s.vm.findClass own = some m.cls ∧ (∀ w ∈ WS, w.before args s = true) ∧ xw_E G s
/-- the world: its cells, apart and in A; nothing else that is old has changed -/
def xw_H (G : GG_) (A : Nat → Prop) (H0 H : Heap) (locs : List Loc) (ws : va_W) : Prop :=
  va_P (gD G) classes ws H ∧ va_D A ws ∧ va_S A H0 H locs ∧ ∀ q, H0.size ≤ q → A q
/-- a contract's start -/
def xw_P (G : GG_) (av : List Value) (sz : Nat) (ws : va_W) (X : Heap → Prop) : Array Value → State → Prop :=
  va_Pc av (fun U => U.heap.size = sz ∧ va_P (gD G) classes ws U.heap ∧ xw_E G U ∧ va_D (fun _ => True) ws ∧ X U.heap)
theorem xw_P.blind {G : GG_} {av : List Value} {sz : Nat} {ws : va_W} {X : Heap → Prop} : FrameBlind (xw_P G av sz ws X) := fun a U g mk h => by
  obtain ⟨h1, h2, h3, h4, h5, h6⟩ := h
  exact ⟨h1, h2, h3, xw_E.same (s := U) (U := U.calling g mk a) rfl h4, h5, h6⟩
/-- its end: the answer z, and a state u of your own; the cells w' u; what else holds of the heap -/
def xw_Qi {S : Type} (G : GG_) (sz : Nat) (ws : va_W) (post : Int → S → Prop) (w' : S → va_W) (X' : S → Heap → Prop) : Array Value → State → Outcome → State → Prop :=
  va_Qi (fun r (u : Int × S) => r = xi_ u.1 ∧ post u.1 u.2) (fun u t => va_P (gD G) classes (w' u.2) t.heap ∧ va_D (va_A ws sz) (w' u.2) ∧ X' u.2 t.heap) (va_A ws sz)
def xw_Ql {S : Type} (G : GG_) (sz : Nat) (ws : va_W) (post : Int → S → Prop) (w' : S → va_W) (X' : S → Heap → Prop) : Array Value → State → Outcome → State → Prop :=
  va_Ql (fun r (u : Int × S) => r = xl_ u.1 ∧ post u.1 u.2) (fun u t => va_P (gD G) classes (w' u.2) t.heap ∧ va_D (va_A ws sz) (w' u.2) ∧ X' u.2 t.heap) (va_A ws sz)
def xw_Qv {S : Type} (G : GG_) (sz : Nat) (ws : va_W) (post : S → Prop) (w' : S → va_W) (X' : S → Heap → Prop) : Array Value → State → Outcome → State → Prop :=
  va_Qv post (fun u t => va_P (gD G) classes (w' u) t.heap ∧ va_D (va_A ws sz) (w' u) ∧ X' u t.heap) (va_A ws sz)
/-- an answer that is a cell or null -/
def xw_Qa {S : Type} (G : GG_) (sz : Nat) (ws : va_W) (post : Option Nat → S → Prop) (w' : S → va_W) (X' : Option Nat → S → Heap → Prop) : Array Value → State → Outcome → State → Prop :=
  fun _ st oc t => (∃ (r : Option Nat) (u : S), oc = .returned (some (va_rf r)) ∧ post r u ∧ va_P (gD G) classes (w' u) t.heap ∧ va_D (va_A ws sz) (w' u) ∧ X' r u t.heap) ∧ va_F (va_A ws sz) st t
theorem xw_met {l : Launch} {y : MethodName} {cc : ByteArray} {maxL : Nat} {ret : Option FieldType} {rm : Room} {G : GG_} {av : List Value} {sz : Nat} {ws : va_W} {X : Heap → Prop} {Qc : Array Value → State → Outcome → State → Prop} {mc ms : Nat}
    (hy : plainName y.cls = true) (hn : (lg_sl av).length ≤ maxL)
    (body : ∀ (p : Program) (e : Env) (s : State) (m : MethodId) (args : Array Value) (below : List Frame) (meth : Method) (c : Code), xw_F p s m args c cc maxL y.cls G → meth.sig.returnType = ret → meth.locks = false → meth.name = y.name → s.heap.size = sz → xw_H G (va_A ws sz) s.heap s.heap [] ws → X s.heap →
      ∀ ls : Array Slot, lv_has ls maxL (lv_args 0 av) → W p l e rm s m args below meth c s.heap [] 0 0 (MQ below Qc args s mc ms (va_A ws sz)) (F0 m 0 ls [])) :
    Met l y (cw_ y cc maxL ret) rm (xw_P G av sz ws X) Qc mc ms (va_A ws sz) := by
  refine Met.ofW (cc := cc) (maxL := maxL) (ret := ret) hy rfl ?_
  intro p e s m args below meth c s₁ B hml hv
  obtain ⟨hargs, hsz, hP, hE, hD, hX⟩ := hv
  have hts := atoms_spec (ws := cw_ y cc maxL ret) B.pre
  have hown : s.vm.findClass y.cls = some m.cls := findClass_of_methodNamed B.named
  have hF : xw_F p s m args c cc maxL y.cls G := ⟨B.exec, B.bytes, hml, hown, fun w hw => hts w (List.mem_cons_of_mem _ hw), hE⟩
  have hH : xw_H G (va_A ws sz) s.heap s.heap [] ws := ⟨hP, hD.self, va_S.rf, fun q h => Or.inr (by rw [← hsz]; exact h)⟩
  have hl := lv_entry av (n := maxL) hn
  have hfr : entryFrame m args maxL = F0 m 0 ((lg_sl av ++ List.replicate (maxL - (lg_sl av).length) Slot.unset).toArray) [] := by rw [hargs]; exact lg_entry_eq m av maxL
  rw [hfr]
  exact body p e s m args below meth c hF B.returns B.notSynchronized (name_of_methodNamed B.named B.method).1 hsz hH hX _ hl
section XWH
variable {p : Program} {l : Launch} {e : Env} {R : Room} {s : State} {m : MethodId} {args : Array Value} {below : List Frame} {meth : Method} {c : Code} {H : Heap} {locs : List Loc} {cells slots : Nat} {Q : State → Prop}
variable {cc : ByteArray} {nL pc : Nat} {ls : Array Slot} {rest : List Value} {own : String} {G : GG_} {A : Nat → Prop} {a : Nat} {ws : va_W} {H0 : Heap}
/-- a field that an instruction of class own names by its constant index: field k of the class number ci -/
def xw_fl (own : String) (index ci k : Nat) : Prop := ∃ (C : String) (T : u_T) (N : Nat) (ref : String), classes[ci]? = some (C, T, N) ∧ k < N ∧ (∀ w ∈ u_ws C T N, w ∈ WS) ∧ (ref = (T k).1 ∨ Cond.sameField ref (T k).1 (T k).2.1 (T k).2.2.1 ∈ WS) ∧
  (Cond.fieldLink own index ref (T k).2.1 (T k).2.2.1 ∈ WS ∨ ∃ host, Cond.fieldLinkNest own index ref (T k).2.1 (T k).2.2.1 host ∈ NW)
/-- the same, of a field that may be written -/
def xw_fp (own : String) (index ci k : Nat) (ty : FieldType) : Prop := ∃ (C : String) (T : u_T) (N : Nat) (ref : String) (ty0 : Nat → FieldType), classes[ci]? = some (C, T, N) ∧ k < N ∧ (∀ w ∈ u_ws C T N, w ∈ WS) ∧ (ref = (T k).1 ∨ Cond.sameField ref (T k).1 (T k).2.1 (T k).2.2.1 ∈ WS) ∧
  (Cond.fieldLink own index ref (T k).2.1 (T k).2.2.1 ∈ WS ∨ ∃ host, Cond.fieldLinkNest own index ref (T k).2.1 (T k).2.2.1 host ∈ NW) ∧ (∀ k, k < N → parseFieldDescriptor (T k).2.2.1 = some (ty0 k)) ∧ (∀ a, a < N → ∀ b, b < N → a ≠ b → (T a).2.1 ≠ (T b).2.1) ∧ (T k).2.2.2 = false ∧ parseFieldDescriptor (T k).2.2.1 = some ty
/-- the same, of a final field in its class's constructor -/
def xw_ff (own : String) (index ci k : Nat) (ty : FieldType) : Prop := ∃ (C : String) (T : u_T) (N : Nat) (ty0 : Nat → FieldType), classes[ci]? = some (C, T, N) ∧ k < N ∧ (∀ w ∈ u_ws C T N, w ∈ WS) ∧ (T k).1 = own ∧
  Cond.fieldLink own index (T k).1 (T k).2.1 (T k).2.2.1 ∈ WS ∧ (∀ k, k < N → parseFieldDescriptor (T k).2.2.1 = some (ty0 k)) ∧ (∀ a, a < N → ∀ b, b < N → a ≠ b → (T a).2.1 ≠ (T b).2.1) ∧ (T k).2.2.2 = true ∧ parseFieldDescriptor (T k).2.2.1 = some ty
theorem xw_get (F : xw_F p s m args c cc nL own G) (hP : va_P (gD G) classes ws H) {index ci k : Nat} (fl : xw_fl own index ci k) (q0 : Nat) {fs : List Value} (he : ws[q0]? = some (a, .inr (ci, fs))) {v : Value} (hv : fs[k]? = some v) (hd : decode cc pc = .ok (.getfield index, 3))
    (kk : W p l e R s m args below meth c H locs cells slots Q (F0 m (pc + 3) ls (v :: rest))) : W p l e R s m args below meth c H locs cells slots Q (F0 m pc ls (.ref a :: rest)) := by
  obtain ⟨C, T, N, ref, h1, h2, h3, h4, h5⟩ := fl
  obtain ⟨hx, hb, -, hown, hts, hE⟩ := F
  have hsame : ∀ x, s.fieldFound? (T k).1 (T k).2.1 (T k).2.2.1 = some x → s.fieldFound? ref (T k).2.1 (T k).2.2.1 = some x := by
    rcases h4 with h4 | h4
    · intro x hx; rw [h4]; exact hx
    · exact fun x hx => u_same (hts _ h4) x hx
  rcases h5 with h5 | ⟨host, h5⟩
  · exact va_get hx hb hts h3 hown hE.1 hP q0 he h1 k h2 (hts _ h5) hsame hv hd kk
  · exact va_getN hx hb hts h3 hown hE.1 hP q0 he h1 k h2 (va_Nw.use rfl (hE.2.1 _ h5)) hsame hv hd kk
theorem xw_put (F : xw_F p s m args c cc nL own G) (hh : xw_H G A H0 H locs ws) {index ci k : Nat} {ty : FieldType} (fl : xw_fp own index ci k ty) (q0 : Nat) {fs : List Value} (he : ws[q0]? = some (a, .inr (ci, fs))) {v : Value} (hn : narrow ty v = v) (hfit : fits ty v = true) (hl : k < fs.length) (hd : decode cc pc = .ok (.putfield index, 3))
    (kk : ∀ (H1 : Heap) (locs1 : List Loc), xw_H G A H0 H1 locs1 (ws.set q0 (a, .inr (ci, fs.set k v))) → W p l e R s m args below meth c H1 locs1 cells slots Q (F0 m (pc + 3) ls rest)) : W p l e R s m args below meth c H locs cells slots Q (F0 m pc ls (v :: .ref a :: rest)) := by
  obtain ⟨C, T, N, ref, ty0, h1, h2, h3, h4, h5, h6, h7, h8, h9⟩ := fl
  obtain ⟨hx, hb, -, hown, hts, hE⟩ := F
  obtain ⟨hP, hD, hS, hA⟩ := hh
  have hsame : ∀ x, s.fieldFound? (T k).1 (T k).2.1 (T k).2.2.1 = some x → s.fieldFound? ref (T k).2.1 (T k).2.2.1 = some x := by
    rcases h4 with h4 | h4
    · intro x hx; rw [h4]; exact hx
    · exact fun x hx => u_same (hts _ h4) x hx
  rcases h5 with h5 | ⟨host, h5⟩
  · exact va_put hx hb hts h3 ty0 h6 h7 hown hE.1 hP hD hS q0 he h1 k h2 (hts _ h5) hsame h8 h9 hn hfit hl hd (fun H1 locs1 a1 a2 a3 => kk H1 locs1 ⟨a1, a2, a3, hA⟩)
  · exact va_putN hx hb hts h3 ty0 h6 h7 hown hE.1 hP hD hS q0 he h1 k h2 (va_Nw.use rfl (hE.2.1 _ h5)) hsame h8 h9 hn hfit hl hd (fun H1 locs1 a1 a2 a3 => kk H1 locs1 ⟨a1, a2, a3, hA⟩)
theorem xw_putF (F : xw_F p s m args c cc nL own G) (hh : xw_H G A H0 H locs ws) (hin : meth.name = "<init>") {index ci k : Nat} {ty : FieldType} (fl : xw_ff own index ci k ty) (q0 : Nat) {fs : List Value} (he : ws[q0]? = some (a, .inr (ci, fs))) {v : Value} (hn : narrow ty v = v) (hfit : fits ty v = true) (hl : k < fs.length) (hd : decode cc pc = .ok (.putfield index, 3))
    (kk : ∀ (H1 : Heap) (locs1 : List Loc), xw_H G A H0 H1 locs1 (ws.set q0 (a, .inr (ci, fs.set k v))) → W p l e R s m args below meth c H1 locs1 cells slots Q (F0 m (pc + 3) ls rest)) : W p l e R s m args below meth c H locs cells slots Q (F0 m pc ls (v :: .ref a :: rest)) := by
  obtain ⟨C, T, N, ty0, h1, h2, h3, h4, h5, h6, h7, h8, h9⟩ := fl
  obtain ⟨hx, hb, -, hown, hts, hE⟩ := F
  obtain ⟨hP, hD, hS, hA⟩ := hh
  exact va_putF hx hb hts h3 ty0 h6 h7 hown hE.1 hP hD hS q0 he h1 k h2 (hts _ h5) (fun _ h9 => h9) h8 hin h4 h9 hn hfit hl hd (fun H1 locs1 a1 a2 a3 => kk H1 locs1 ⟨a1, a2, a3, hA⟩)
theorem xw_iald (F : xw_F p s m args c cc nL own G) (hP : va_P (gD G) classes ws H) (q0 : Nat) {n : Nat} {f : Nat → Int} (ha : ws[q0]? = some (a, .inl (G.2.2 0, n, .inl (ja_ f)))) {i : Int} (hi : 0 ≤ i ∧ i < (n : Int) ∧ (n : Int) ≤ 2147483647) (hd : decode cc pc = .ok (.iaload, 1))
    (kk : W p l e R s m args below meth c H locs cells slots Q (F0 m (pc + 1) ls (.int (xi_ (f i.toNat)) :: rest))) : W p l e R s m args below meth c H locs cells slots Q (F0 m pc ls (.int (xi_ i) :: .ref a :: rest)) := by
  obtain ⟨hx, hb, -, -, -, hE⟩ := F
  refine va_iald hx hb hE.1 hP q0 0 ha rfl (xi_in hi) hd ?_
  rw [xi_cl (by omega)]
  exact kk
theorem xw_cald (F : xw_F p s m args c cc nL own G) (hP : va_P (gD G) classes ws H) (q0 : Nat) {n : Nat} {f : Nat → Int} (ha : ws[q0]? = some (a, .inl (G.2.2 2, n, .inl (ja_ f)))) {i : Int} (hi : 0 ≤ i ∧ i < (n : Int) ∧ (n : Int) ≤ 2147483647) (hd : decode cc pc = .ok (.caload, 1))
    (kk : W p l e R s m args below meth c H locs cells slots Q (F0 m (pc + 1) ls (.int (xi_ (f i.toNat)) :: rest))) : W p l e R s m args below meth c H locs cells slots Q (F0 m pc ls (.int (xi_ i) :: .ref a :: rest)) := by
  obtain ⟨hx, hb, -, -, -, hE⟩ := F
  refine va_cald hx hb hE.1 hP q0 2 ha rfl (xi_in hi) hd ?_
  rw [xi_cl (by omega)]
  exact kk
theorem xw_zald (F : xw_F p s m args c cc nL own G) (hP : va_P (gD G) classes ws H) (q0 : Nat) {n : Nat} {f : Nat → Int} (ha : ws[q0]? = some (a, .inl (G.2.2 3, n, .inl (ja_ f)))) {i : Int} (hi : 0 ≤ i ∧ i < (n : Int) ∧ (n : Int) ≤ 2147483647) (hd : decode cc pc = .ok (.baload, 1))
    (kk : W p l e R s m args below meth c H locs cells slots Q (F0 m (pc + 1) ls (.int (xi_ (f i.toNat)) :: rest))) : W p l e R s m args below meth c H locs cells slots Q (F0 m pc ls (.int (xi_ i) :: .ref a :: rest)) := by
  obtain ⟨hx, hb, -, -, -, hE⟩ := F
  refine va_zald hx hb hE.1 hP q0 3 ha rfl (xi_in hi) hd ?_
  rw [xi_cl (by omega)]
  exact kk
theorem xw_lald (F : xw_F p s m args c cc nL own G) (hP : va_P (gD G) classes ws H) (q0 : Nat) {n : Nat} {f : Nat → Int} (ha : ws[q0]? = some (a, .inl (G.2.2 1, n, .inr (.inl (jl_ f))))) {i : Int} (hi : 0 ≤ i ∧ i < (n : Int) ∧ (n : Int) ≤ 2147483647) (hd : decode cc pc = .ok (.laload, 1))
    (kk : W p l e R s m args below meth c H locs cells slots Q (F0 m (pc + 1) ls (.long (xl_ (f i.toNat)) :: rest))) : W p l e R s m args below meth c H locs cells slots Q (F0 m pc ls (.int (xi_ i) :: .ref a :: rest)) := by
  obtain ⟨hx, hb, -, -, -, hE⟩ := F
  refine va_lald hx hb hE.1 hP q0 1 ha rfl (xi_in hi) hd ?_
  rw [xi_cl (by omega)]
  exact kk
theorem xw_aald (F : xw_F p s m args c cc nL own G) (hP : va_P (gD G) classes ws H) (q0 : Nat) {n : Nat} {f : Nat → Option Nat} (ha : ws[q0]? = some (a, .inl (G.2.2 4, n, .inr (.inr (.inr (.inr f)))))) {i : Int} (hi : 0 ≤ i ∧ i < (n : Int) ∧ (n : Int) ≤ 2147483647) {x : Option Nat} (hf : f i.toNat = x) (hd : decode cc pc = .ok (.aaload, 1))
    (kk : W p l e R s m args below meth c H locs cells slots Q (F0 m (pc + 1) ls (va_rf x :: rest))) : W p l e R s m args below meth c H locs cells slots Q (F0 m pc ls (.int (xi_ i) :: .ref a :: rest)) := by
  obtain ⟨hx, hb, -, -, -, hE⟩ := F
  refine va_aldq hx hb hE.1 hP q0 4 ha rfl (xi_in hi) hd ?_
  rw [xi_cl (by omega), hf]
  exact kk
theorem xw_iast (F : xw_F p s m args c cc nL own G) (hh : xw_H G A H0 H locs ws) (q0 : Nat) {n : Nat} {f : Nat → Int} (ha : ws[q0]? = some (a, .inl (G.2.2 0, n, .inl (ja_ f)))) {i x : Int} (hi : 0 ≤ i ∧ i < (n : Int) ∧ (n : Int) ≤ 2147483647) (hd : decode cc pc = .ok (.iastore, 1))
    (kk : ∀ (H1 : Heap) (locs1 : List Loc), xw_H G A H0 H1 locs1 (ws.set q0 (a, .inl (G.2.2 0, n, .inl (ja_ (va_up f i.toNat x))))) → W p l e R s m args below meth c H1 locs1 cells slots Q (F0 m (pc + 1) ls rest)) : W p l e R s m args below meth c H locs cells slots Q (F0 m pc ls (.int (xi_ x) :: .int (xi_ i) :: .ref a :: rest)) := by
  obtain ⟨hx, hb, -, -, -, hE⟩ := F
  obtain ⟨hP, hD, hS, hA⟩ := hh
  refine va_iast hx hb hE.1 hP hD hS q0 0 ha rfl (xi_in hi) hd (fun H1 locs1 a1 a2 a3 => kk H1 locs1 ?_)
  rw [xi_cl (by omega), ja_up] at a1 a2
  exact ⟨a1, a2, a3, hA⟩
theorem xw_last (F : xw_F p s m args c cc nL own G) (hh : xw_H G A H0 H locs ws) (q0 : Nat) {n : Nat} {f : Nat → Int} (ha : ws[q0]? = some (a, .inl (G.2.2 1, n, .inr (.inl (jl_ f))))) {i x : Int} (hi : 0 ≤ i ∧ i < (n : Int) ∧ (n : Int) ≤ 2147483647) (hd : decode cc pc = .ok (.lastore, 1))
    (kk : ∀ (H1 : Heap) (locs1 : List Loc), xw_H G A H0 H1 locs1 (ws.set q0 (a, .inl (G.2.2 1, n, .inr (.inl (jl_ (va_up f i.toNat x)))))) → W p l e R s m args below meth c H1 locs1 cells slots Q (F0 m (pc + 1) ls rest)) : W p l e R s m args below meth c H locs cells slots Q (F0 m pc ls (.long (xl_ x) :: .int (xi_ i) :: .ref a :: rest)) := by
  obtain ⟨hx, hb, -, -, -, hE⟩ := F
  obtain ⟨hP, hD, hS, hA⟩ := hh
  refine va_last hx hb hE.1 hP hD hS q0 1 ha rfl (xi_in hi) hd (fun H1 locs1 a1 a2 a3 => kk H1 locs1 ?_)
  rw [xi_cl (by omega), jl_up] at a1 a2
  exact ⟨a1, a2, a3, hA⟩
theorem xi_char {x : Int} (h : 0 ≤ x ∧ x ≤ 65535) : vp_nar .char (xi_ x) = xi_ x := by
  obtain ⟨n, rfl⟩ := Int.eq_ofNat_of_zero_le h.1
  have e := (pk_charN (q := n) (by omega)).1
  rw [xi_nat] at e
  show (match narrow .char (.int (xi_ (n : Int))) with | .int y => y | _ => 0) = xi_ (n : Int)
  rw [e]
theorem xi_bool {x : Int} (h : x = 0 ∨ x = 1) : vp_nar .boolean (xi_ x) = xi_ x := by rcases h with rfl | rfl <;> decide
theorem xw_cast (F : xw_F p s m args c cc nL own G) (hh : xw_H G A H0 H locs ws) (q0 : Nat) {n : Nat} {f : Nat → Int} (ha : ws[q0]? = some (a, .inl (G.2.2 2, n, .inl (ja_ f)))) {i x : Int} (hi : 0 ≤ i ∧ i < (n : Int) ∧ (n : Int) ≤ 2147483647) (hxr : 0 ≤ x ∧ x ≤ 65535) (hd : decode cc pc = .ok (.castore, 1))
    (kk : ∀ (H1 : Heap) (locs1 : List Loc), xw_H G A H0 H1 locs1 (ws.set q0 (a, .inl (G.2.2 2, n, .inl (ja_ (va_up f i.toNat x))))) → W p l e R s m args below meth c H1 locs1 cells slots Q (F0 m (pc + 1) ls rest)) : W p l e R s m args below meth c H locs cells slots Q (F0 m pc ls (.int (xi_ x) :: .int (xi_ i) :: .ref a :: rest)) := by
  obtain ⟨hx, hb, -, -, -, hE⟩ := F
  obtain ⟨hP, hD, hS, hA⟩ := hh
  refine va_cast hx hb hE.1 hP hD hS q0 2 ha rfl (xi_in hi) hd (fun H1 locs1 a1 a2 a3 => kk H1 locs1 ?_)
  rw [xi_cl (by omega), xi_char hxr, ja_up] at a1 a2
  exact ⟨a1, a2, a3, hA⟩
theorem xw_zast (F : xw_F p s m args c cc nL own G) (hh : xw_H G A H0 H locs ws) (q0 : Nat) {n : Nat} {f : Nat → Int} (ha : ws[q0]? = some (a, .inl (G.2.2 3, n, .inl (ja_ f)))) {i x : Int} (hi : 0 ≤ i ∧ i < (n : Int) ∧ (n : Int) ≤ 2147483647) (hxr : x = 0 ∨ x = 1) (hd : decode cc pc = .ok (.bastore, 1))
    (kk : ∀ (H1 : Heap) (locs1 : List Loc), xw_H G A H0 H1 locs1 (ws.set q0 (a, .inl (G.2.2 3, n, .inl (ja_ (va_up f i.toNat x))))) → W p l e R s m args below meth c H1 locs1 cells slots Q (F0 m (pc + 1) ls rest)) : W p l e R s m args below meth c H locs cells slots Q (F0 m pc ls (.int (xi_ x) :: .int (xi_ i) :: .ref a :: rest)) := by
  obtain ⟨hx, hb, -, -, -, hE⟩ := F
  obtain ⟨hP, hD, hS, hA⟩ := hh
  refine va_zast hx hb hE.1 hP hD hS q0 3 ha rfl (xi_in hi) hd (fun H1 locs1 a1 a2 a3 => kk H1 locs1 ?_)
  rw [xi_cl (by omega), xi_bool hxr, ja_up] at a1 a2
  exact ⟨a1, a2, a3, hA⟩
/-- ends -/
theorem xw_iret {S : Type} {sz : Nat} {ws0 : va_W} {post : Int → S → Prop} {w' : S → va_W} {X' : S → Heap → Prop} {rt : FieldType} (F : xw_F p s m args c cc nL own G) (hr : meth.sig.returnType = some rt) (hlk : meth.locks = false) (hh : xw_H G (va_A ws0 sz) s.heap H locs ws) {x : Int} (hn : narrow rt (.int (xi_ x)) = .int (xi_ x)) (u : S) (hw : ws = w' u) (hp : post x u) (hX : X' u H) (hd : decode cc pc = .ok (.ireturn, 1)) :
    W p l e R s m args below meth c H locs cells slots (MQ below (xw_Qi G sz ws0 post w' X') args s cells slots (va_A ws0 sz)) (F0 m pc ls [.int (xi_ x)]) := by
  subst hw
  exact W.zret F.1 F.2.1 hr hn (fun t ht _ => ⟨⟨xi_ x, (x, u), rfl, ⟨rfl, hp⟩, by rw [ht]; exact hh.1, hh.2.1, by rw [ht]; exact hX⟩, hh.2.2.1.F ht⟩) hh.2.2.1.2.2 hd hlk
theorem xw_lret {S : Type} {sz : Nat} {ws0 : va_W} {post : Int → S → Prop} {w' : S → va_W} {X' : S → Heap → Prop} (F : xw_F p s m args c cc nL own G) (hr : meth.sig.returnType = some .long) (hlk : meth.locks = false) (hh : xw_H G (va_A ws0 sz) s.heap H locs ws) {x : Int} (u : S) (hw : ws = w' u) (hp : post x u) (hX : X' u H) (hd : decode cc pc = .ok (.lreturn, 1)) :
    W p l e R s m args below meth c H locs cells slots (MQ below (xw_Ql G sz ws0 post w' X') args s cells slots (va_A ws0 sz)) (F0 m pc ls [.long (xl_ x)]) := by
  subst hw
  exact W.lret F.1 F.2.1 hr (fun t ht _ => ⟨⟨xl_ x, (x, u), rfl, ⟨rfl, hp⟩, by rw [ht]; exact hh.1, hh.2.1, by rw [ht]; exact hX⟩, hh.2.2.1.F ht⟩) hh.2.2.1.2.2 hd hlk
theorem xw_vret {S : Type} {sz : Nat} {ws0 : va_W} {post : S → Prop} {w' : S → va_W} {X' : S → Heap → Prop} (F : xw_F p s m args c cc nL own G) (hr : meth.sig.returnType = none) (hlk : meth.locks = false) (hh : xw_H G (va_A ws0 sz) s.heap H locs ws) (u : S) (hw : ws = w' u) (hp : post u) (hX : X' u H) (hd : decode cc pc = .ok (.return_, 1)) :
    W p l e R s m args below meth c H locs cells slots (MQ below (xw_Qv G sz ws0 post w' X') args s cells slots (va_A ws0 sz)) (F0 m pc ls []) := by
  subst hw
  exact W.vret F.1 F.2.1 hr (fun t ht _ => ⟨⟨u, rfl, hp, by rw [ht]; exact hh.1, hh.2.1, by rw [ht]; exact hX⟩, hh.2.2.1.F ht⟩) hh.2.2.1.2.2 hd hlk
theorem xw_aret {S : Type} {sz : Nat} {ws0 : va_W} {post : Option Nat → S → Prop} {w' : S → va_W} {X' : Option Nat → S → Heap → Prop} {C : String} (F : xw_F p s m args c cc nL own G) (hr : meth.sig.returnType = some (.object C)) (hlk : meth.locks = false) (hh : xw_H G (va_A ws0 sz) s.heap H locs ws) {x : Option Nat} {v : Value} (hv : v = va_rf x) (u : S) (hw : ws = w' u) (hp : post x u) (hX : X' x u H) (hd : decode cc pc = .ok (.areturn, 1)) :
    W p l e R s m args below meth c H locs cells slots (MQ below (xw_Qa G sz ws0 post w' X') args s cells slots (va_A ws0 sz)) (F0 m pc ls [v]) := by
  subst hw
  subst hv
  exact W.aret F.1 F.2.1 hr (Or.inl ⟨_, rfl⟩) (by cases x <;> first | exact Or.inl rfl | exact Or.inr ⟨_, rfl⟩) (fun t ht _ => ⟨⟨x, u, rfl, hp, by rw [ht]; exact hh.1, hh.2.1, by rw [ht]; exact hX⟩, hh.2.2.1.F ht⟩) hh.2.2.1.2.2 hd hlk
end XWH
