/-! calls: what stands in the tables of a call's site; the run of the callee's contract; what comes behind it -/
section XWC
variable {p : Program} {l : Launch} {e : Env} {R : Room} {s : State} {m : MethodId} {args : Array Value} {below : List Frame} {meth : Method} {c : Code} {H : Heap} {locs : List Loc} {cells slots : Nat} {Q : State → Prop}
variable {cc bytes : ByteArray} {nL pc index maxL n mc ms : Nat} {ls : Array Slot} {rest st0 As : List Value} {own C : String} {G : GG_} {A : Nat → Prop} {b : Nat} {ws wc wr : va_W} {H0 : Heap} {y : MethodName} {ret : Option FieldType} {rm : Room} {Qc : Array Value → State → Outcome → State → Prop} {X : Heap → Prop}
def xw_lk (own : String) (index : Nat) (y : MethodName) : Prop := Cond.methodLink own index y ∈ WS ∨ ∃ host, Cond.methodLinkNest own index y host ∈ NW
def xw_code (y : MethodName) (bytes : ByteArray) (maxL : Nat) (ret : Option FieldType) (n : Nat) : Prop :=
  Cond.code y bytes maxL ret ∈ WS ∧ Cond.initialized y.cls ∈ WS ∧ y.cls ≠ "java/lang/invoke/MethodHandle" ∧ y.cls ≠ "java/lang/invoke/VarHandle" ∧ (parseMethodDescriptor y.desc).map (fun d => d.parameters.length) = some n
theorem WS_in1 {w : Cond} (h : w ∈ WS) : GoodIn WS (w :: WS) := fun x hx => by
  rcases List.mem_cons.mp hx with rfl | hx
  · exact ⟨h, WS_good h⟩
  · exact ⟨hx, WS_good hx⟩
theorem xw_pre (F : xw_F p s m args c cc nL own G) (hh : xw_H G A H0 H locs ws) (isC : List Nat) (hC : isC.map (fun i => ws[i]?) = wc.map some) (hnd : va_nd isC = true) (hX : X H) (av : List Value) : FrameBlind (xw_P G av H.size wc X) ∧ ∀ U : State, U.heap = H → s.WarmedH U.vm → xw_P G av H.size wc X av.toArray U := by
  refine ⟨xw_P.blind, fun U hU hW => ⟨rfl, by rw [hU], ?_, F.2.2.2.2.2.warm hW, (hh.2.1.sub isC hnd hC).weaken (fun _ _ _ _ => trivial), by rw [hU]; exact hX⟩⟩
  rw [hU]
  intro k q hk
  have h1 : (isC.map (fun i => ws[i]?))[k]? = some (some q) := by rw [hC, List.getElem?_map, hk]; rfl
  rw [List.getElem?_map] at h1
  cases hi : isC[k]? with
  | none => rw [hi] at h1; cases h1
  | some i => rw [hi] at h1; exact hh.1 i q (Option.some.inj h1)
/-- invokevirtual: the receiver b is an object of class C -/
theorem xw_rV (F : xw_F p s m args c cc nL own G) (hh : xw_H G A H0 H locs ws) (isC : List Nat) (hC : isC.map (fun i => ws[i]?) = wc.map some) (hnd : va_nd isC = true)
    (hM : Met l y (cw_ y bytes maxL ret) rm (xw_P G (.ref b :: As) H.size wc X) Qc mc ms (va_A wc H.size)) (hX : X H)
    (lk : xw_lk own index y) (cd : xw_code y bytes maxL ret n) (sel : Cond.instanceMethod y ∈ WS ∧ Cond.selects C y y ∈ WS) (wb : va_W) (hb : va_P (gD G) classes wb H) (q0 : Nat) {ci : Nat} {T : u_T} {N : Nat} {fs : List Value} (he : wb[q0]? = some (b, .inr (ci, fs))) (hc : classes[ci]? = some (C, T, N))
    (hrc : rm.cells = mc) (hrs : rm.slots = ms) (hR : rm.frames + 1 ≤ R.frames ∧ 8 + (maxL + 11) + rm.locals ≤ R.locals) (hn : As.length = n) (hsz : ls.size = nL) (hst : st0 = As.reverse ++ .ref b :: rest) (hW : (rest.map fun v => v.category).sum ≤ 8) (hd : decode cc pc = .ok (.invokevirtual index, 3)) (hf : cells + mc ≤ R.cells ∧ slots + ms ≤ R.slots) :
    va_Run p l e R s m args below meth c H locs cells slots mc ms (F0 m pc ls st0) rest (Qc (Value.ref b :: As).toArray) (va_A wc H.size) := by
  have hp := xw_pre (wc := wc) F hh isC hC hnd hX (.ref b :: As)
  have hrecv := va_recv F.2.2.2.2.2.1 hb hc he
  obtain ⟨hx, hbc, hml, hown, hts, hE⟩ := F
  obtain ⟨cd1, cd2, cd3, cd4, cd5⟩ := cd
  rcases lk with lk | ⟨host, lk⟩
  · exact va_runV (C := C) (Ts := WS) ⟨hx, hbc, hml, hown, hts⟩ hM ⟨callB_of n hts (WS_in1 cd1) rfl hrc hrs (hts _ cd2) (hts _ lk) ⟨cd3, cd4, cd5⟩ hR, hts _ sel.1, hts _ sel.2⟩ ⟨hp.1, hrecv, hp.2⟩ rfl hn hsz hst (lv_room hW) hd hf
  · exact va_runVN (C := C) (Ts := WS) (host := host) ⟨hx, hbc, hml, hown, hts⟩ hM ⟨va_cnB n hts (WS_in1 cd1) rfl hrc hrs (hE.2.1 _ lk) (hts _ cd2) ⟨cd3, cd4, cd5⟩ hR, hts _ sel.1, hts _ sel.2⟩ ⟨hp.1, hrecv, hp.2⟩ rfl hn hsz hst (lv_room hW) hd hf
/-- invokevirtual of a method that the receiver's class inherits, or that is abstract where it is named -/
theorem xw_rU (F : xw_F p s m args c cc nL own G) (hh : xw_H G A H0 H locs ws) (isC : List Nat) (hC : isC.map (fun i => ws[i]?) = wc.map some) (hnd : va_nd isC = true) {x : MethodName} {owner : String}
    (hM : Met l y (cw_ y bytes maxL ret) rm (xw_P G (.ref b :: As) H.size wc X) Qc mc ms (va_A wc H.size)) (hX : X H)
    (lk : Cond.methodLink own index x ∈ WS) (cd : xw_code y bytes maxL ret n) (sel : Cond.instanceMethod y ∈ WS ∧ Cond.selects C x y ∈ WS ∧ Cond.sameMethod x.cls owner x.name x.desc ∈ WS) (hdecl : va_Decl s ⟨owner, x.name, x.desc⟩) (hxd : owner ≠ "java/lang/invoke/MethodHandle" ∧ owner ≠ "java/lang/invoke/VarHandle" ∧ (parseMethodDescriptor x.desc).map (fun d => d.parameters.length) = some n)
    (wb : va_W) (hb : va_P (gD G) classes wb H) (q0 : Nat) {ci : Nat} {T : u_T} {N : Nat} {fs : List Value} (he : wb[q0]? = some (b, .inr (ci, fs))) (hc : classes[ci]? = some (C, T, N))
    (hrc : rm.cells = mc) (hrs : rm.slots = ms) (hR : rm.frames + 1 ≤ R.frames ∧ 8 + (maxL + 11) + rm.locals ≤ R.locals) (hn : As.length = n) (hsz : ls.size = nL) (hst : st0 = As.reverse ++ .ref b :: rest) (hW : (rest.map fun v => v.category).sum ≤ 8) (hd : decode cc pc = .ok (.invokevirtual index, 3)) (hf : cells + mc ≤ R.cells ∧ slots + ms ≤ R.slots) :
    va_Run p l e R s m args below meth c H locs cells slots mc ms (F0 m pc ls st0) rest (Qc (Value.ref b :: As).toArray) (va_A wc H.size) := by
  have hp := xw_pre (wc := wc) F hh isC hC hnd hX (.ref b :: As)
  have hrecv := va_recv F.2.2.2.2.2.1 hb hc he
  obtain ⟨hx, hbc, hml, hown, hts, hE⟩ := F
  obtain ⟨cd1, cd2, cd3, cd4, cd5⟩ := cd
  refine va_runU (C := C) (x := x) (owner := owner) (Ts := WS) ⟨hx, hbc, hml, hown, hts⟩ hM ⟨⟨hrc, hrs, hR.1, hR.2, pay_in hts (WS_in1 cd1), List.mem_cons_self⟩, hts _ cd1, hts _ cd2, ⟨hxd.1, hxd.2.1⟩, fun sig h => ?_, hts _ lk, hts _ sel.2.2, hdecl, hts _ sel.2.1, hts _ sel.1⟩ ⟨hp.1, hrecv, hp.2⟩ rfl hn hsz hst (lv_room hW) hd hf
  have h2 := hxd.2.2
  rw [h] at h2
  exact (Option.some.inj h2).symm
/-- invokestatic -/
theorem xw_rS (F : xw_F p s m args c cc nL own G) (hh : xw_H G A H0 H locs ws) (isC : List Nat) (hC : isC.map (fun i => ws[i]?) = wc.map some) (hnd : va_nd isC = true)
    (hM : Met l y (cw_ y bytes maxL ret) rm (xw_P G As H.size wc X) Qc mc ms (va_A wc H.size)) (hX : X H)
    (lk : xw_lk own index y) (cd : xw_code y bytes maxL ret n) (sel : Cond.static y ∈ WS)
    (hrc : rm.cells = mc) (hrs : rm.slots = ms) (hR : rm.frames + 1 ≤ R.frames ∧ 8 + (maxL + 11) + rm.locals ≤ R.locals) (hn : As.length = n) (hsz : ls.size = nL) (hst : st0 = As.reverse ++ rest) (hW : (rest.map fun v => v.category).sum ≤ 8) (hd : decode cc pc = .ok (.invokestatic index, 3)) (hf : cells + mc ≤ R.cells ∧ slots + ms ≤ R.slots) :
    va_Run p l e R s m args below meth c H locs cells slots mc ms (F0 m pc ls st0) rest (Qc As.toArray) (va_A wc H.size) := by
  have hp := xw_pre (wc := wc) F hh isC hC hnd hX As
  obtain ⟨hx, hbc, hml, hown, hts, hE⟩ := F
  obtain ⟨cd1, cd2, cd3, cd4, cd5⟩ := cd
  rcases lk with lk | ⟨host, lk⟩
  · exact va_runS (Ts := WS) ⟨hx, hbc, hml, hown, hts⟩ hM ⟨callB_of n hts (WS_in1 cd1) rfl hrc hrs (hts _ cd2) (hts _ lk) ⟨cd3, cd4, cd5⟩ hR, hts _ sel⟩ hp rfl hn hsz hst (lv_room hW) hd hf
  · exact va_runSN (Ts := WS) (host := host) ⟨hx, hbc, hml, hown, hts⟩ hM ⟨va_cnB n hts (WS_in1 cd1) rfl hrc hrs (hE.2.1 _ lk) (hts _ cd2) ⟨cd3, cd4, cd5⟩ hR, hts _ sel, trivial⟩ hp rfl hn hsz hst (lv_room hW) hd hf
/-- invokespecial of a constructor -/
theorem xw_rI (F : xw_F p s m args c cc nL own G) (hh : xw_H G A H0 H locs ws) (isC : List Nat) (hC : isC.map (fun i => ws[i]?) = wc.map some) (hnd : va_nd isC = true)
    (hM : Met l y (cw_ y bytes maxL none) rm (xw_P G (.ref b :: As) H.size wc X) Qc mc ms (va_A wc H.size)) (hX : X H)
    (lk : xw_lk own index y) (cd : xw_code y bytes maxL none n) (sel : Cond.instanceMethod y ∈ WS ∧ y.name = "<init>")
    (hrc : rm.cells = mc) (hrs : rm.slots = ms) (hR : rm.frames + 1 ≤ R.frames ∧ 8 + (maxL + 11) + rm.locals ≤ R.locals) (hn : As.length = n) (hsz : ls.size = nL) (hst : st0 = As.reverse ++ .ref b :: rest) (hW : (rest.map fun v => v.category).sum ≤ 8) (hd : decode cc pc = .ok (.invokespecial index, 3)) (hf : cells + mc ≤ R.cells ∧ slots + ms ≤ R.slots) :
    va_Run p l e R s m args below meth c H locs cells slots mc ms (F0 m pc ls st0) rest (Qc (Value.ref b :: As).toArray) (va_A wc H.size) := by
  have hp := xw_pre (wc := wc) F hh isC hC hnd hX (.ref b :: As)
  obtain ⟨hx, hbc, hml, hown, hts, hE⟩ := F
  obtain ⟨cd1, cd2, cd3, cd4, cd5⟩ := cd
  rcases lk with lk | ⟨host, lk⟩
  · exact va_runI (Ts := WS) ⟨hx, hbc, hml, hown, hts⟩ hM ⟨callB_of n hts (WS_in1 cd1) rfl hrc hrs (hts _ cd2) (hts _ lk) ⟨cd3, cd4, cd5⟩ hR, sel.2, hts _ sel.1⟩ hp rfl hn hsz hst (lv_room hW) hd hf
  · exact va_runIN (Ts := WS) (host := host) ⟨hx, hbc, hml, hown, hts⟩ hM ⟨va_cnB n hts (WS_in1 cd1) rfl hrc hrs (hE.2.1 _ lk) (hts _ cd2) ⟨cd3, cd4, cd5⟩ hR, sel.2, hts _ sel.1⟩ hp rfl hn hsz hst (lv_room hW) hd hf
/-- behind a call that answers an int: the caller's other cells wr, and the callee's w' u -/
theorem xw_ci {S : Type} {post : Int → S → Prop} {w' : S → va_W} {X' : S → Heap → Prop} {av : Array Value} (hh : xw_H G A H0 H locs ws) (isC isR : List Nat) (hC : isC.map (fun i => ws[i]?) = wc.map some) (hRr : isR.map (fun i => ws[i]?) = wr.map some) (hnd : va_nd isR = true) (hdis : ∀ i ∈ isR, i ∉ isC)
    (hr : va_Run p l e R s m args below meth c H locs cells slots mc ms (F0 m pc ls st0) rest (xw_Qi G H.size wc post w' X' av) (va_A wc H.size))
    (kk : ∀ (x : Int) (u : S) (H1 : Heap) (locs1 : List Loc), post x u → X' u H1 → H.size ≤ H1.size → (∀ q : Nat, q < H.size → ¬ va_A wc H.size q → H1[q]? = H[q]?) → xw_H G A H0 H1 locs1 (wr ++ w' u) → W p l e R s m args below meth c H1 locs1 (cells + mc) (slots + ms) Q (F0 m (pc + 3) ls (.int (xi_ x) :: rest))) :
    W p l e R s m args below meth c H locs cells slots Q (F0 m pc ls st0) := by
  obtain ⟨hP, hD, hS, hA⟩ := hh
  have hFc := va_free (wc := wc) hD hS hA isC hC
  refine va_calli hr hS (fun q _ h => hFc q h) hFc (fun r u t H1 locs1 ht hvm hp hB hz hk hS1 => ?_)
  obtain ⟨hr1, hp1⟩ := hp
  obtain ⟨hP1, hD1, hX1⟩ := hB
  rw [ht] at hP1 hX1
  obtain ⟨j1, j2⟩ := va_join (wr := wr) hP hD isC isR hC hRr hnd hdis hk hFc hP1 hD1
  rw [hr1]
  exact kk u.1 u.2 H1 locs1 hp1 hX1 hz hk ⟨j1, j2, hS1, hA⟩
theorem xw_cl {S : Type} {post : Int → S → Prop} {w' : S → va_W} {X' : S → Heap → Prop} {av : Array Value} (hh : xw_H G A H0 H locs ws) (isC isR : List Nat) (hC : isC.map (fun i => ws[i]?) = wc.map some) (hRr : isR.map (fun i => ws[i]?) = wr.map some) (hnd : va_nd isR = true) (hdis : ∀ i ∈ isR, i ∉ isC)
    (hr : va_Run p l e R s m args below meth c H locs cells slots mc ms (F0 m pc ls st0) rest (xw_Ql G H.size wc post w' X' av) (va_A wc H.size))
    (kk : ∀ (x : Int) (u : S) (H1 : Heap) (locs1 : List Loc), post x u → X' u H1 → H.size ≤ H1.size → (∀ q : Nat, q < H.size → ¬ va_A wc H.size q → H1[q]? = H[q]?) → xw_H G A H0 H1 locs1 (wr ++ w' u) → W p l e R s m args below meth c H1 locs1 (cells + mc) (slots + ms) Q (F0 m (pc + 3) ls (.long (xl_ x) :: rest))) :
    W p l e R s m args below meth c H locs cells slots Q (F0 m pc ls st0) := by
  obtain ⟨hP, hD, hS, hA⟩ := hh
  have hFc := va_free (wc := wc) hD hS hA isC hC
  refine va_calll hr hS (fun q _ h => hFc q h) hFc (fun r u t H1 locs1 ht hvm hp hB hz hk hS1 => ?_)
  obtain ⟨hr1, hp1⟩ := hp
  obtain ⟨hP1, hD1, hX1⟩ := hB
  rw [ht] at hP1 hX1
  obtain ⟨j1, j2⟩ := va_join (wr := wr) hP hD isC isR hC hRr hnd hdis hk hFc hP1 hD1
  rw [hr1]
  exact kk u.1 u.2 H1 locs1 hp1 hX1 hz hk ⟨j1, j2, hS1, hA⟩
theorem xw_cv {S : Type} {post : S → Prop} {w' : S → va_W} {X' : S → Heap → Prop} {av : Array Value} (hh : xw_H G A H0 H locs ws) (isC isR : List Nat) (hC : isC.map (fun i => ws[i]?) = wc.map some) (hRr : isR.map (fun i => ws[i]?) = wr.map some) (hnd : va_nd isR = true) (hdis : ∀ i ∈ isR, i ∉ isC)
    (hr : va_Run p l e R s m args below meth c H locs cells slots mc ms (F0 m pc ls st0) rest (xw_Qv G H.size wc post w' X' av) (va_A wc H.size))
    (kk : ∀ (u : S) (H1 : Heap) (locs1 : List Loc), post u → X' u H1 → H.size ≤ H1.size → (∀ q : Nat, q < H.size → ¬ va_A wc H.size q → H1[q]? = H[q]?) → xw_H G A H0 H1 locs1 (wr ++ w' u) → W p l e R s m args below meth c H1 locs1 (cells + mc) (slots + ms) Q (F0 m (pc + 3) ls rest)) :
    W p l e R s m args below meth c H locs cells slots Q (F0 m pc ls st0) := by
  obtain ⟨hP, hD, hS, hA⟩ := hh
  have hFc := va_free (wc := wc) hD hS hA isC hC
  refine va_callv hr hS (fun q _ h => hFc q h) hFc (fun u t H1 locs1 ht hvm hp hB hz hk hS1 => ?_)
  obtain ⟨hP1, hD1, hX1⟩ := hB
  rw [ht] at hP1 hX1
  obtain ⟨j1, j2⟩ := va_join (wr := wr) hP hD isC isR hC hRr hnd hdis hk hFc hP1 hD1
  exact kk u H1 locs1 hp hX1 hz hk ⟨j1, j2, hS1, hA⟩
theorem xw_ca {S : Type} {post : Option Nat → S → Prop} {w' : S → va_W} {X' : Option Nat → S → Heap → Prop} {av : Array Value} (hh : xw_H G A H0 H locs ws) (isC isR : List Nat) (hC : isC.map (fun i => ws[i]?) = wc.map some) (hRr : isR.map (fun i => ws[i]?) = wr.map some) (hnd : va_nd isR = true) (hdis : ∀ i ∈ isR, i ∉ isC)
    (hr : va_Run p l e R s m args below meth c H locs cells slots mc ms (F0 m pc ls st0) rest (xw_Qa G H.size wc post w' X' av) (va_A wc H.size))
    (kk : ∀ (x : Option Nat) (u : S) (H1 : Heap) (locs1 : List Loc), post x u → X' x u H1 → H.size ≤ H1.size → (∀ q : Nat, q < H.size → ¬ va_A wc H.size q → H1[q]? = H[q]?) → xw_H G A H0 H1 locs1 (wr ++ w' u) → W p l e R s m args below meth c H1 locs1 (cells + mc) (slots + ms) Q (F0 m (pc + 3) ls (va_rf x :: rest))) :
    W p l e R s m args below meth c H locs cells slots Q (F0 m pc ls st0) := by
  obtain ⟨hP, hD, hS, hA⟩ := hh
  have hFc := va_free (wc := wc) hD hS hA isC hC
  intro T hT X
  obtain ⟨v, st₀, t, T', L, h0, X1, hL, e1, e2, ⟨⟨r, u, hv, hp, hP1, hD1, hX1⟩, hz, hk⟩, st⟩ := hr T hT X
  cases hv
  rw [h0] at hz hk
  rw [← e1] at hP1 hX1 hz hk
  obtain ⟨j1, j2⟩ := va_join (wr := wr) hP hD isC isR hC hRr hnd hdis hk hFc hP1 hD1
  have hS1 : va_S A H0 T'.heap (locs ++ L) := ⟨Nat.le_trans hS.1 hz, fun q h1 h2 => by rw [hk q (Nat.lt_of_lt_of_le h1 hS.1) (fun z => h2 (hFc q z))]; exact hS.2.1 q h1 h2, fun q hq => by
    rcases List.mem_append.mp hq with h | h
    · exact hS.2.2 q h
    · exact hFc _ (hL q h)⟩
  obtain ⟨t2, a1, b1⟩ := kk r u T'.heap (locs ++ L) hp hX1 hz hk ⟨j1, j2, hS1, hA⟩ T' rfl X1
  exact ⟨t2, st t2 a1, b1⟩
/-- the same, where the callee's world is the caller's whole -/
theorem xw_pre0 (F : xw_F p s m args c cc nL own G) (hh : xw_H G A H0 H locs ws) (hX : X H) (av : List Value) : FrameBlind (xw_P G av H.size ws X) ∧ ∀ U : State, U.heap = H → s.WarmedH U.vm → xw_P G av H.size ws X av.toArray U :=
  ⟨xw_P.blind, fun U hU hW => ⟨rfl, by rw [hU], by rw [hU]; exact hh.1, F.2.2.2.2.2.warm hW, hh.2.1.weaken (fun _ _ _ _ => trivial), by rw [hU]; exact hX⟩⟩
theorem xw_free0 (hh : xw_H G A H0 H locs ws) : ∀ q, va_A ws H.size q → A q := fun q h => by
  rcases h with ⟨k, e, h⟩ | h
  · exact hh.2.1.2 k (q, e) h
  · exact hh.2.2.2 q (Nat.le_trans hh.2.2.1.1 h)
theorem xw_rV0 (F : xw_F p s m args c cc nL own G) (hh : xw_H G A H0 H locs ws)
    (hM : Met l y (cw_ y bytes maxL ret) rm (xw_P G (.ref b :: As) H.size ws X) Qc mc ms (va_A ws H.size)) (hX : X H)
    (lk : xw_lk own index y) (cd : xw_code y bytes maxL ret n) (sel : Cond.instanceMethod y ∈ WS ∧ Cond.selects C y y ∈ WS) (q0 : Nat) {ci : Nat} {T : u_T} {N : Nat} {fs : List Value} (he : ws[q0]? = some (b, .inr (ci, fs))) (hc : classes[ci]? = some (C, T, N))
    (hrc : rm.cells = mc) (hrs : rm.slots = ms) (hR : rm.frames + 1 ≤ R.frames ∧ 8 + (maxL + 11) + rm.locals ≤ R.locals) (hn : As.length = n) (hsz : ls.size = nL) (hst : st0 = As.reverse ++ .ref b :: rest) (hW : (rest.map fun v => v.category).sum ≤ 8) (hd : decode cc pc = .ok (.invokevirtual index, 3)) (hf : cells + mc ≤ R.cells ∧ slots + ms ≤ R.slots) :
    va_Run p l e R s m args below meth c H locs cells slots mc ms (F0 m pc ls st0) rest (Qc (Value.ref b :: As).toArray) (va_A ws H.size) := by
  have hp := xw_pre0 F hh hX (.ref b :: As)
  have hrecv := va_recv F.2.2.2.2.2.1 hh.1 hc he
  obtain ⟨hx, hbc, hml, hown, hts, hE⟩ := F
  obtain ⟨cd1, cd2, cd3, cd4, cd5⟩ := cd
  rcases lk with lk | ⟨host, lk⟩
  · exact va_runV (C := C) (Ts := WS) ⟨hx, hbc, hml, hown, hts⟩ hM ⟨callB_of n hts (WS_in1 cd1) rfl hrc hrs (hts _ cd2) (hts _ lk) ⟨cd3, cd4, cd5⟩ hR, hts _ sel.1, hts _ sel.2⟩ ⟨hp.1, hrecv, hp.2⟩ rfl hn hsz hst (lv_room hW) hd hf
  · exact va_runVN (C := C) (Ts := WS) (host := host) ⟨hx, hbc, hml, hown, hts⟩ hM ⟨va_cnB n hts (WS_in1 cd1) rfl hrc hrs (hE.2.1 _ lk) (hts _ cd2) ⟨cd3, cd4, cd5⟩ hR, hts _ sel.1, hts _ sel.2⟩ ⟨hp.1, hrecv, hp.2⟩ rfl hn hsz hst (lv_room hW) hd hf
theorem xw_rS0 (F : xw_F p s m args c cc nL own G) (hh : xw_H G A H0 H locs ws)
    (hM : Met l y (cw_ y bytes maxL ret) rm (xw_P G As H.size ws X) Qc mc ms (va_A ws H.size)) (hX : X H)
    (lk : xw_lk own index y) (cd : xw_code y bytes maxL ret n) (sel : Cond.static y ∈ WS)
    (hrc : rm.cells = mc) (hrs : rm.slots = ms) (hR : rm.frames + 1 ≤ R.frames ∧ 8 + (maxL + 11) + rm.locals ≤ R.locals) (hn : As.length = n) (hsz : ls.size = nL) (hst : st0 = As.reverse ++ rest) (hW : (rest.map fun v => v.category).sum ≤ 8) (hd : decode cc pc = .ok (.invokestatic index, 3)) (hf : cells + mc ≤ R.cells ∧ slots + ms ≤ R.slots) :
    va_Run p l e R s m args below meth c H locs cells slots mc ms (F0 m pc ls st0) rest (Qc As.toArray) (va_A ws H.size) := by
  have hp := xw_pre0 F hh hX As
  obtain ⟨hx, hbc, hml, hown, hts, hE⟩ := F
  obtain ⟨cd1, cd2, cd3, cd4, cd5⟩ := cd
  rcases lk with lk | ⟨host, lk⟩
  · exact va_runS (Ts := WS) ⟨hx, hbc, hml, hown, hts⟩ hM ⟨callB_of n hts (WS_in1 cd1) rfl hrc hrs (hts _ cd2) (hts _ lk) ⟨cd3, cd4, cd5⟩ hR, hts _ sel⟩ hp rfl hn hsz hst (lv_room hW) hd hf
  · exact va_runSN (Ts := WS) (host := host) ⟨hx, hbc, hml, hown, hts⟩ hM ⟨va_cnB n hts (WS_in1 cd1) rfl hrc hrs (hE.2.1 _ lk) (hts _ cd2) ⟨cd3, cd4, cd5⟩ hR, hts _ sel, trivial⟩ hp rfl hn hsz hst (lv_room hW) hd hf
theorem xw_ci0 {S : Type} {post : Int → S → Prop} {w' : S → va_W} {X' : S → Heap → Prop} {av : Array Value} (hh : xw_H G A H0 H locs ws)
    (hr : va_Run p l e R s m args below meth c H locs cells slots mc ms (F0 m pc ls st0) rest (xw_Qi G H.size ws post w' X' av) (va_A ws H.size))
    (kk : ∀ (x : Int) (u : S) (H1 : Heap) (locs1 : List Loc), post x u → X' u H1 → H.size ≤ H1.size → (∀ q : Nat, q < H.size → ¬ va_A ws H.size q → H1[q]? = H[q]?) → xw_H G A H0 H1 locs1 (w' u) → W p l e R s m args below meth c H1 locs1 (cells + mc) (slots + ms) Q (F0 m (pc + 3) ls (.int (xi_ x) :: rest))) :
    W p l e R s m args below meth c H locs cells slots Q (F0 m pc ls st0) := by
  have hFc := xw_free0 hh
  obtain ⟨hP, hD, hS, hA⟩ := hh
  refine va_calli hr hS (fun q _ h => hFc q h) hFc (fun r u t H1 locs1 ht hvm hp hB hz hk hS1 => ?_)
  obtain ⟨hr1, hp1⟩ := hp
  obtain ⟨hP1, hD1, hX1⟩ := hB
  rw [ht] at hP1 hX1
  rw [hr1]
  exact kk u.1 u.2 H1 locs1 hp1 hX1 hz hk ⟨hP1, hD1.weaken (fun _ q _ h => hFc q.1 h), hS1, hA⟩
theorem xw_cl0 {S : Type} {post : Int → S → Prop} {w' : S → va_W} {X' : S → Heap → Prop} {av : Array Value} (hh : xw_H G A H0 H locs ws)
    (hr : va_Run p l e R s m args below meth c H locs cells slots mc ms (F0 m pc ls st0) rest (xw_Ql G H.size ws post w' X' av) (va_A ws H.size))
    (kk : ∀ (x : Int) (u : S) (H1 : Heap) (locs1 : List Loc), post x u → X' u H1 → H.size ≤ H1.size → (∀ q : Nat, q < H.size → ¬ va_A ws H.size q → H1[q]? = H[q]?) → xw_H G A H0 H1 locs1 (w' u) → W p l e R s m args below meth c H1 locs1 (cells + mc) (slots + ms) Q (F0 m (pc + 3) ls (.long (xl_ x) :: rest))) :
    W p l e R s m args below meth c H locs cells slots Q (F0 m pc ls st0) := by
  have hFc := xw_free0 hh
  obtain ⟨hP, hD, hS, hA⟩ := hh
  refine va_calll hr hS (fun q _ h => hFc q h) hFc (fun r u t H1 locs1 ht hvm hp hB hz hk hS1 => ?_)
  obtain ⟨hr1, hp1⟩ := hp
  obtain ⟨hP1, hD1, hX1⟩ := hB
  rw [ht] at hP1 hX1
  rw [hr1]
  exact kk u.1 u.2 H1 locs1 hp1 hX1 hz hk ⟨hP1, hD1.weaken (fun _ q _ h => hFc q.1 h), hS1, hA⟩
theorem xw_cv0 {S : Type} {post : S → Prop} {w' : S → va_W} {X' : S → Heap → Prop} {av : Array Value} (hh : xw_H G A H0 H locs ws)
    (hr : va_Run p l e R s m args below meth c H locs cells slots mc ms (F0 m pc ls st0) rest (xw_Qv G H.size ws post w' X' av) (va_A ws H.size))
    (kk : ∀ (u : S) (H1 : Heap) (locs1 : List Loc), post u → X' u H1 → H.size ≤ H1.size → (∀ q : Nat, q < H.size → ¬ va_A ws H.size q → H1[q]? = H[q]?) → xw_H G A H0 H1 locs1 (w' u) → W p l e R s m args below meth c H1 locs1 (cells + mc) (slots + ms) Q (F0 m (pc + 3) ls rest)) :
    W p l e R s m args below meth c H locs cells slots Q (F0 m pc ls st0) := by
  have hFc := xw_free0 hh
  obtain ⟨hP, hD, hS, hA⟩ := hh
  refine va_callv hr hS (fun q _ h => hFc q h) hFc (fun u t H1 locs1 ht hvm hp hB hz hk hS1 => ?_)
  obtain ⟨hP1, hD1, hX1⟩ := hB
  rw [ht] at hP1 hX1
  exact kk u H1 locs1 hp hX1 hz hk ⟨hP1, hD1.weaken (fun _ q _ h => hFc q.1 h), hS1, hA⟩
/-- calls of methods that touch no cell -/
theorem xw_keep0 (hh : xw_H G A H0 H locs ws) {H1 : Heap} (hz : H.size ≤ H1.size) (hk : ∀ q : Nat, q < H.size → ¬ va_A [] H.size q → H1[q]? = H[q]?) {locs1 : List Loc} (hS1 : va_S A H0 H1 locs1) : xw_H G A H0 H1 locs1 ws ∧ ∀ q : Nat, q < H.size → H1[q]? = H[q]? := by
  have hq : ∀ q : Nat, q < H.size → H1[q]? = H[q]? := fun q h => hk q h (fun z => by
    rcases z with ⟨k, e, z⟩ | z
    · simp at z
    · omega)
  exact ⟨⟨hh.1.kept (fun k q hk => hq q.1 (hh.1 k q hk).lt), hh.2.1, hS1, hh.2.2.2⟩, hq⟩
theorem xw_freeN (hh : xw_H G A H0 H locs ws) : ∀ q, va_A [] H.size q → A q := fun q h => by
  rcases h with ⟨k, e, h⟩ | h
  · simp at h
  · exact hh.2.2.2 q (Nat.le_trans hh.2.2.1.1 h)
theorem xw_rSp (F : xw_F p s m args c cc nL own G)
    (hM : Met l y (cw_ y bytes maxL ret) rm (xw_P G As H.size [] (fun _ => True)) Qc mc ms (va_A [] H.size))
    (lk : xw_lk own index y) (cd : xw_code y bytes maxL ret n) (sel : Cond.static y ∈ WS)
    (hrc : rm.cells = mc) (hrs : rm.slots = ms) (hR : rm.frames + 1 ≤ R.frames ∧ 8 + (maxL + 11) + rm.locals ≤ R.locals) (hn : As.length = n) (hsz : ls.size = nL) (hst : st0 = As.reverse ++ rest) (hW : (rest.map fun v => v.category).sum ≤ 8) (hd : decode cc pc = .ok (.invokestatic index, 3)) (hf : cells + mc ≤ R.cells ∧ slots + ms ≤ R.slots) :
    va_Run p l e R s m args below meth c H locs cells slots mc ms (F0 m pc ls st0) rest (Qc As.toArray) (va_A [] H.size) := by
  have hp : FrameBlind (xw_P G As H.size [] (fun _ => True)) ∧ ∀ U : State, U.heap = H → s.WarmedH U.vm → xw_P G As H.size [] (fun _ => True) As.toArray U :=
    ⟨xw_P.blind, fun U hU hW => ⟨rfl, by rw [hU], fun k q h => by simp at h, F.2.2.2.2.2.warm hW, ⟨fun i j a b h => by simp at h, fun k q h => by simp at h⟩, trivial⟩⟩
  obtain ⟨hx, hbc, hml, hown, hts, hE⟩ := F
  obtain ⟨cd1, cd2, cd3, cd4, cd5⟩ := cd
  rcases lk with lk | ⟨host, lk⟩
  · exact va_runS (Ts := WS) ⟨hx, hbc, hml, hown, hts⟩ hM ⟨callB_of n hts (WS_in1 cd1) rfl hrc hrs (hts _ cd2) (hts _ lk) ⟨cd3, cd4, cd5⟩ hR, hts _ sel⟩ hp rfl hn hsz hst (lv_room hW) hd hf
  · exact va_runSN (Ts := WS) (host := host) ⟨hx, hbc, hml, hown, hts⟩ hM ⟨va_cnB n hts (WS_in1 cd1) rfl hrc hrs (hE.2.1 _ lk) (hts _ cd2) ⟨cd3, cd4, cd5⟩ hR, hts _ sel, trivial⟩ hp rfl hn hsz hst (lv_room hW) hd hf
theorem xw_cip {S : Type} {post : Int → S → Prop} {X' : S → Heap → Prop} {av : Array Value} (hh : xw_H G A H0 H locs ws)
    (hr : va_Run p l e R s m args below meth c H locs cells slots mc ms (F0 m pc ls st0) rest (xw_Qi G H.size [] post (fun _ => []) X' av) (va_A [] H.size))
    (kk : ∀ (x : Int) (u : S) (H1 : Heap) (locs1 : List Loc), post x u → H.size ≤ H1.size → (∀ q : Nat, q < H.size → H1[q]? = H[q]?) → xw_H G A H0 H1 locs1 ws → W p l e R s m args below meth c H1 locs1 (cells + mc) (slots + ms) Q (F0 m (pc + 3) ls (.int (xi_ x) :: rest))) :
    W p l e R s m args below meth c H locs cells slots Q (F0 m pc ls st0) := by
  have hFc := xw_freeN hh
  refine va_calli hr hh.2.2.1 (fun q _ h => hFc q h) hFc (fun r u t H1 locs1 ht hvm hp hB hz hk hS1 => ?_)
  obtain ⟨hr1, hp1⟩ := hp
  rw [hr1]
  obtain ⟨k1, k2⟩ := xw_keep0 hh hz hk hS1
  exact kk u.1 u.2 H1 locs1 hp1 hz k2 k1
theorem xw_clp {S : Type} {post : Int → S → Prop} {X' : S → Heap → Prop} {av : Array Value} (hh : xw_H G A H0 H locs ws)
    (hr : va_Run p l e R s m args below meth c H locs cells slots mc ms (F0 m pc ls st0) rest (xw_Ql G H.size [] post (fun _ => []) X' av) (va_A [] H.size))
    (kk : ∀ (x : Int) (u : S) (H1 : Heap) (locs1 : List Loc), post x u → H.size ≤ H1.size → (∀ q : Nat, q < H.size → H1[q]? = H[q]?) → xw_H G A H0 H1 locs1 ws → W p l e R s m args below meth c H1 locs1 (cells + mc) (slots + ms) Q (F0 m (pc + 3) ls (.long (xl_ x) :: rest))) :
    W p l e R s m args below meth c H locs cells slots Q (F0 m pc ls st0) := by
  have hFc := xw_freeN hh
  refine va_calll hr hh.2.2.1 (fun q _ h => hFc q h) hFc (fun r u t H1 locs1 ht hvm hp hB hz hk hS1 => ?_)
  obtain ⟨hr1, hp1⟩ := hp
  rw [hr1]
  obtain ⟨k1, k2⟩ := xw_keep0 hh hz hk hS1
  exact kk u.1 u.2 H1 locs1 hp1 hz k2 k1
end XWC
