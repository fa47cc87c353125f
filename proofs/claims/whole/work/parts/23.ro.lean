/-! cells that are only read: calls that touch no cell of the caller's world but read others; storing a node in an array -/
section XWR
variable {p : Program} {l : Launch} {e : Env} {R : Room} {s : State} {m : MethodId} {args : Array Value} {below : List Frame} {meth : Method} {c : Code} {H : Heap} {locs : List Loc} {cells slots : Nat} {Q : State → Prop}
variable {cc bytes : ByteArray} {nL pc index maxL n mc ms : Nat} {ls : Array Slot} {rest st0 As : List Value} {own C : String} {G : GG_} {A : Nat → Prop} {a b : Nat} {ws wc wr : va_W} {H0 : Heap} {y : MethodName} {ret : Option FieldType} {rm : Room} {Qc : Array Value → State → Outcome → State → Prop} {X : Heap → Prop}
theorem xi_nc {x : Int} (h : 0 ≤ x ∧ x ≤ 65535) : narrow .char (.int (xi_ x)) = .int (xi_ x) ∧ fits .char (.int (xi_ x)) = true := by
  obtain ⟨n, rfl⟩ := Int.eq_ofNat_of_zero_le h.1
  have e := pk_charN (q := n) (by omega)
  rw [xi_nat] at e
  exact e
theorem xi_nz (b : Bool) : narrow .boolean (.int (xi_ (b2_ b))) = .int (xi_ (b2_ b)) ∧ fits .boolean (.int (xi_ (b2_ b))) = true := by cases b <;> decide
theorem xw_rVp (F : xw_F p s m args c cc nL own G)
    (hM : Met l y (cw_ y bytes maxL ret) rm (xw_P G (.ref b :: As) H.size [] X) Qc mc ms (va_A [] H.size)) (hX : X H)
    (lk : xw_lk own index y) (cd : xw_code y bytes maxL ret n) (sel : Cond.instanceMethod y ∈ WS ∧ Cond.selects C y y ∈ WS) (wb : va_W) (hb : va_P (gD G) classes wb H) (q0 : Nat) {ci : Nat} {T : u_T} {N : Nat} {fs : List Value} (he : wb[q0]? = some (b, .inr (ci, fs))) (hc : classes[ci]? = some (C, T, N))
    (hrc : rm.cells = mc) (hrs : rm.slots = ms) (hR : rm.frames + 1 ≤ R.frames ∧ 8 + (maxL + 11) + rm.locals ≤ R.locals) (hn : As.length = n) (hsz : ls.size = nL) (hst : st0 = As.reverse ++ .ref b :: rest) (hW : (rest.map fun v => v.category).sum ≤ 8) (hd : decode cc pc = .ok (.invokevirtual index, 3)) (hf : cells + mc ≤ R.cells ∧ slots + ms ≤ R.slots) :
    va_Run p l e R s m args below meth c H locs cells slots mc ms (F0 m pc ls st0) rest (Qc (Value.ref b :: As).toArray) (va_A [] H.size) := by
  have hp : FrameBlind (xw_P G (.ref b :: As) H.size [] X) ∧ ∀ U : State, U.heap = H → s.WarmedH U.vm → xw_P G (.ref b :: As) H.size [] X (.ref b :: As).toArray U :=
    ⟨xw_P.blind, fun U hU hW => ⟨rfl, by rw [hU], fun k q h => by simp at h, F.2.2.2.2.2.warm hW, ⟨fun i j a b h => by simp at h, fun k q h => by simp at h⟩, by rw [hU]; exact hX⟩⟩
  have hrecv := va_recv F.2.2.2.2.2.1 hb hc he
  obtain ⟨hx, hbc, hml, hown, hts, hE⟩ := F
  obtain ⟨cd1, cd2, cd3, cd4, cd5⟩ := cd
  rcases lk with lk | ⟨host, lk⟩
  · exact va_runV (C := C) (Ts := WS) ⟨hx, hbc, hml, hown, hts⟩ hM ⟨callB_of n hts (WS_in1 cd1) rfl hrc hrs (hts _ cd2) (hts _ lk) ⟨cd3, cd4, cd5⟩ hR, hts _ sel.1, hts _ sel.2⟩ ⟨hp.1, hrecv, hp.2⟩ rfl hn hsz hst (lv_room hW) hd hf
  · exact va_runVN (C := C) (Ts := WS) (host := host) ⟨hx, hbc, hml, hown, hts⟩ hM ⟨va_cnB n hts (WS_in1 cd1) rfl hrc hrs (hE.2.1 _ lk) (hts _ cd2) ⟨cd3, cd4, cd5⟩ hR, hts _ sel.1, hts _ sel.2⟩ ⟨hp.1, hrecv, hp.2⟩ rfl hn hsz hst (lv_room hW) hd hf
theorem xw_cap {S : Type} {post : Option Nat → S → Prop} {X' : Option Nat → S → Heap → Prop} {av : Array Value} (hh : xw_H G A H0 H locs ws)
    (hr : va_Run p l e R s m args below meth c H locs cells slots mc ms (F0 m pc ls st0) rest (xw_Qa G H.size [] post (fun _ => []) X' av) (va_A [] H.size))
    (kk : ∀ (x : Option Nat) (u : S) (H1 : Heap) (locs1 : List Loc), post x u → H.size ≤ H1.size → (∀ q : Nat, q < H.size → H1[q]? = H[q]?) → xw_H G A H0 H1 locs1 ws → W p l e R s m args below meth c H1 locs1 (cells + mc) (slots + ms) Q (F0 m (pc + 3) ls (va_rf x :: rest))) :
    W p l e R s m args below meth c H locs cells slots Q (F0 m pc ls st0) := by
  have hFc := xw_freeN hh
  intro T hT X
  obtain ⟨v, st₀, t, T', L, h0, X1, hL, e1, e2, ⟨⟨r, u, hv, hp, -, -, -⟩, hz, hk⟩, st⟩ := hr T hT X
  cases hv
  rw [h0] at hz hk
  rw [← e1] at hz hk
  have hS := hh.2.2.1
  have hS1 : va_S A H0 T'.heap (locs ++ L) := ⟨Nat.le_trans hS.1 hz, fun q h1 h2 => by rw [hk q (Nat.lt_of_lt_of_le h1 hS.1) (fun z => h2 (hFc q z))]; exact hS.2.1 q h1 h2, fun q hq => by
    rcases List.mem_append.mp hq with h | h
    · exact hS.2.2 q h
    · exact hFc _ (hL q h)⟩
  obtain ⟨k1, k2⟩ := xw_keep0 hh hz hk hS1
  obtain ⟨t2, a1, b1⟩ := kk r u T'.heap (locs ++ L) hp hz k2 k1 T' rfl X1
  exact ⟨t2, st t2 a1, b1⟩
theorem xw_topi {x y : Int} (h : x = y) (k : W p l e R s m args below meth c H locs cells slots Q (F0 m pc ls (.int (xi_ y) :: rest))) : W p l e R s m args below meth c H locs cells slots Q (F0 m pc ls (.int (xi_ x) :: rest)) := by rw [h]; exact k
theorem xw_topl {x y : Int} (h : x = y) (k : W p l e R s m args below meth c H locs cells slots Q (F0 m pc ls (.long (xl_ y) :: rest))) : W p l e R s m args below meth c H locs cells slots Q (F0 m pc ls (.long (xl_ x) :: rest)) := by rw [h]; exact k
/-- what is only read stays -/
theorem xw_ro {wro : va_W} {H1 : Heap} (h : va_P (gD G) classes wro H) (hk : ∀ (k : Nat) (q : Nat × va_E), wro[k]? = some q → H1[q.1]? = H[q.1]?) : va_P (gD G) classes wro H1 := h.kept hk
theorem xw_aast (F : xw_F p s m args c cc nL own G) (hh : xw_H G A H0 H locs ws) (q0 : Nat) {n : Nat} {f : Nat → Option Nat} (ha : ws[q0]? = some (a, .inl (G.2.2 4, n, .inr (.inr (.inr (.inr f)))))) {wb : va_W} (hb2 : va_P (gD G) classes wb H) (qk : Nat) {v : Nat} {fs : List Value} (hv : wb[qk]? = some (v, .inr (1, fs))) {i : Int} (hi : 0 ≤ i ∧ i < (n : Int) ∧ (n : Int) ≤ 2147483647) (hd : decode cc pc = .ok (.aastore, 1))
    (kk : ∀ (H1 : Heap) (locs1 : List Loc), xw_H G A H0 H1 locs1 (ws.set q0 (a, .inl (G.2.2 4, n, .inr (.inr (.inr (.inr (va_up f i.toNat (some v)))))))) → (∀ q : Nat, q ≠ a → H1[q]? = H[q]?) → W p l e R s m args below meth c H1 locs1 cells slots Q (F0 m (pc + 1) ls rest)) : W p l e R s m args below meth c H locs cells slots Q (F0 m pc ls (.ref v :: .int (xi_ i) :: .ref a :: rest)) := by
  obtain ⟨hx, hb, -, -, -, hE⟩ := F
  obtain ⟨hP, hD, hS, hA⟩ := hh
  have hlt : (xi_ i).toNatClampNeg < n := by rw [xi_cl (by omega)]; omega
  have h0 : ¬ xi_ i < 0 := fun q => by
    rw [xi_0, xi_lt (by omega)] at q
    omega
  obtain ⟨r', hr', cellV, g1, g2, g3, -⟩ := hb2 qk _ hv
  have hcls := (hE.1.1 1 (R_N, F_N, 7) rfl).2
  obtain ⟨kA, comp, k1, k2, k3, -⟩ := (hE.1.2 4 (G.2.2 4, .object R_N) rfl).2
  have hcomp : comp = (gD G).1 1 := Option.some.inj (k3.symm.trans hcls.1)
  subst hcomp
  obtain ⟨kC, hkC, -⟩ := hcls.2
  refine W.aast hx hb (hP q0 _ ha) (fun q h => by cases h) (fun h => by cases h) k1 k2 rfl hkC ⟨h0, by show _ < (arrV _ _ _).slots.size; rw [arrV_size]; exact hlt⟩ g1 (fun q h => by rw [g3] at h; cases h) (by rw [g2]; exact hkC) (by rw [g2]; exact va_assign hcls) rfl rfl hd fun H1 e z oq => ?_
  have e3 : (xi_ i).toNatClampNeg = i.toNat := xi_cl (by omega)
  refine kk H1 _ ⟨hP.set hD ha ?_ oq, hD.set ha, hS.put z oq (hD.2 q0 _ ha), hA⟩ oq
  show H1[a]? = some (vp_cell _ _)
  rw [e, e3]
  rw [vp_cell_q, vp_cell_q, arrV_store]
  congr 2
  funext q
  by_cases hq : q = i.toNat
  · subst hq
    simp [updV, va_up, va_rf]
  · simp [updV, va_up, hq]
end XWR
/-- the fields of a node -/
def nd_ (kd : Int) (ia : Nat) (cnt k n r hl : Int) : List Value := [.int (xi_ kd), .ref ia, .int (xi_ cnt), .int (xi_ k), .int (xi_ n), .int (xi_ r), .int (xi_ hl)]
/-- a pattern's tree in the heap: the node at a is the pattern T, all its cells are of the kind S -/
def nt_ (G : GG_) (S : Nat → Prop) : (d : Nat) → Heap → Nat → PT d → Prop
  | 0 => fun _ _ _ => False
  | d + 1 => fun H a T => S a ∧ ∃ (ia room : Nat) (f : Nat → Option Nat), S ia ∧ va_P (gD G) classes [(a, .inr (1, nd_ (tr_kd T) ia ((tr_cs T).length : Int) (tr_k T) (tr_n T) (tr_r T) (b2_ (has_ T)))), (ia, .inl (G.2.2 4, room, .inr (.inr (.inr (.inr f)))))] H ∧ (tr_cs T).length ≤ room ∧ room ≤ 9 ∧
      ∀ (i : Nat) (x : PT d), (tr_cs T)[i]? = some x → ∃ b, f i = some b ∧ nt_ G S d H b x
theorem nt_s {G : GG_} {S : Nat → Prop} {d : Nat} {H : Heap} {a : Nat} {T : PT (d + 1)} : nt_ G S (d + 1) H a T ↔ (S a ∧ ∃ (ia room : Nat) (f : Nat → Option Nat), S ia ∧ va_P (gD G) classes [(a, .inr (1, nd_ (tr_kd T) ia ((tr_cs T).length : Int) (tr_k T) (tr_n T) (tr_r T) (b2_ (has_ T)))), (ia, .inl (G.2.2 4, room, .inr (.inr (.inr (.inr f)))))] H ∧ (tr_cs T).length ≤ room ∧ room ≤ 9 ∧
      ∀ (i : Nat) (x : PT d), (tr_cs T)[i]? = some x → ∃ b, f i = some b ∧ nt_ G S d H b x) := Iff.rfl
/-- it stays where its cells stay -/
theorem nt_keep {G : GG_} {S : Nat → Prop} {H H1 : Heap} (hk : ∀ q : Nat, S q → q < H.size → H1[q]? = H[q]?) : ∀ {d : Nat} {a : Nat} {T : PT d}, nt_ G S d H a T → nt_ G S d H1 a T
  | 0, _, _, h => h.elim
  | d + 1, a, T, h => by
    obtain ⟨h1, ia, room, f, h2, h3, h4, h5, h6⟩ := h
    refine ⟨h1, ia, room, f, h2, h3.kept (fun k q hq => ?_), h4, h5, fun i x hx => ?_⟩
    · have hlt := (h3 k q hq).lt
      match k, hq with
      | 0, hq => cases hq; exact hk _ h1 hlt
      | 1, hq => cases hq; exact hk _ h2 hlt
      | k + 2, hq => simp at hq
    · obtain ⟨b, hb, hb2⟩ := h6 i x hx
      exact ⟨b, hb, nt_keep hk hb2⟩
theorem nt_weaken {G : GG_} {S S' : Nat → Prop} {H : Heap} (hS : ∀ q : Nat, S q → q < H.size → S' q) : ∀ {d : Nat} {a : Nat} {T : PT d}, nt_ G S d H a T → nt_ G S' d H a T
  | 0, _, _, h => h.elim
  | d + 1, a, T, h => by
    obtain ⟨h1, ia, room, f, h2, h3, h4, h5, h6⟩ := h
    have l1 : a < H.size := (h3 0 _ rfl).lt
    have l2 : ia < H.size := (h3 1 _ rfl).lt
    refine ⟨hS a h1 l1, ia, room, f, hS ia h2 l2, h3, h4, h5, fun i x hx => ?_⟩
    obtain ⟨b, hb, hb2⟩ := h6 i x hx
    exact ⟨b, hb, nt_weaken hS hb2⟩
theorem nt_lt {G : GG_} {S : Nat → Prop} {H : Heap} {d : Nat} {a : Nat} {T : PT d} (h : nt_ G S d H a T) : a < H.size ∧ S a := by
  cases d with
  | zero => exact h.elim
  | succ d =>
    obtain ⟨h1, ia, room, f, h2, h3, -⟩ := h
    exact ⟨(h3 0 _ rfl).lt, h1⟩
