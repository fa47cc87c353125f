/-! the law: what holds between the class and the model -/
/-- the text so far: signs that can be typed -/
def txk_ (txt : Nat → Int) (len : Nat) : Prop := len ≤ 40 ∧ (∀ j : Nat, 0 ≤ txt j ∧ txt j ≤ 65535) ∧ ∀ j : Nat, j < len → txt j ≠ 0
theorem txk_ty {txt : Nat → Int} {len : Nat} {ch n : Int} (h : txk_ txt len) : txk_ (ty_ans txt len ch n).2.2 (ty_ans txt len ch n).2.1 := by
  obtain ⟨h1, h2, h3⟩ := h
  unfold ty_ans
  split
  · rename_i hq
    split
    · rename_i hl
      refine ⟨hl, tx_app_rng h2 _ _ _ _, fun j hj => ?_⟩
      show tx_app txt len ch n.toNat n.toNat j ≠ 0
      unfold tx_app
      have hj : j < len + n.toNat := hj
      split
      · rename_i hr
        have hok := hq.2.2
        unfold ty_ok at hok
        rw [List.all_eq_true] at hok
        have := of_decide_eq_true (hok (n.toNat - 1 - (j - len)) (List.mem_range.mpr (by omega)))
        rw [show ((n.toNat - 1 - (j - len) : Nat) : Int) = ((n.toNat : Nat) : Int) - 1 - ((j : Int) - (len : Int)) by omega] at this
        omega
      · exact h3 j (by omega)
    · exact ⟨h1, h2, h3⟩
  · exact ⟨h1, h2, h3⟩
/-- the rows of due: a slot, an end that isn't far -/
def hro_ (rs : List Row_) : Prop := ∀ r ∈ rs, 0 ≤ r.2.1 ∧ r.2.1 ≤ 7 ∧ -30000000000000 ≤ r.2.2.2.1 ∧ r.2.2.2.1 ≤ 30000000000000
theorem hro_ins {r : Row_} {l : List Row_} (h : hro_ l) (hr : 0 ≤ r.2.1 ∧ r.2.1 ≤ 7 ∧ -30000000000000 ≤ r.2.2.2.1 ∧ r.2.2.2.1 ≤ 30000000000000) : hro_ (r_ins r l) := fun x hx => by
  rw [r_ins_eq] at hx
  rcases List.mem_append.mp hx with hx | hx
  · exact h x (List.mem_of_mem_take hx)
  · rcases List.mem_cons.mp hx with rfl | hx
    · exact hr
    · exact h x (List.mem_of_mem_drop hx)
theorem hro_fold : ∀ (rs : List Row_) (st : List Row_ × Bool), hro_ st.1 → hro_ rs → hro_ (rs.foldl (a_add 100) st).1
  | [], _, h, _ => h
  | r :: rs, st, h, hr => by
    rw [List.foldl_cons]
    refine hro_fold rs _ ?_ (fun x hx => hr x (List.mem_cons_of_mem _ hx))
    unfold a_add
    split
    · exact h
    · exact hro_ins h (hr r List.mem_cons_self)
theorem hro_run {slot tl : Int} (hs : 0 ≤ slot ∧ slot ≤ 7) {evs : List Ev_} (he : ∀ e ∈ evs, eb_ e) {st : List Row_ × Bool} (h : hro_ st.1) : hro_ (run_ 100 (sk_on slot tl) evs st).1 := by
  unfold run_
  refine hro_fold _ st h (fun r hr => ?_)
  obtain ⟨e, h1, h2⟩ := List.mem_flatMap.mp hr
  have hb := he e h1
  unfold sk_on at h2
  split at h2
  · cases List.mem_singleton.mp h2
    exact ⟨hs.1, hs.2, hb.2.2.1.1, hb.2.2.1.2⟩
  · cases h2
theorem hro_ad {gsf : Nat → Int} {Tr : Nat → PT 40} (hsp : sp_ok gsf Tr) {pl sc ss tk k : Int} (hsc : 1 ≤ sc ∧ sc ≤ 20) (hss : 1 ≤ ss ∧ ss ≤ 20) (htk : 0 ≤ tk ∧ tk ≤ 10000000) (hk : 1 ≤ k ∧ k ≤ 500) : hro_ (ad_run gsf Tr pl sc ss tk k).1 := by
  have key : ∀ (l : List Nat) (st : List Row_ × Bool), (∀ n ∈ l, n < 8) → hro_ st.1 → hro_ (l.foldl (ad_step gsf Tr pl sc ss tk k) st).1 := by
    intro l
    induction l with
    | nil => intro st _ h; exact h
    | cons n l ih =>
      intro st hl h
      rw [List.foldl_cons]
      refine ih _ (fun x hx => hl x (List.mem_cons_of_mem _ hx)) ?_
      have hn := hl n List.mem_cons_self
      unfold ad_step
      split
      · obtain ⟨hs1, hs2, hs3, hs4⟩ := hsp n hn
        have h0 : 0 ≤ sc * gsf n ∧ sc * gsf n ≤ 20 * 5040 := ⟨Int.mul_nonneg (by omega) (by omega), Int.mul_le_mul (by omega) (by omega) (by omega) (by omega)⟩
        have h1 : 0 ≤ tk * (sc * gsf n) ∧ tk * (sc * gsf n) ≤ 10000000 * 100800 := ⟨Int.mul_nonneg (by omega) (by omega), Int.mul_le_mul (by omega) (by omega) (by omega) (by omega)⟩
        have h2 : 0 ≤ k * (sc * gsf n) ∧ k * (sc * gsf n) ≤ 500 * 100800 := ⟨Int.mul_nonneg (by omega) (by omega), Int.mul_le_mul (by omega) (by omega) (by omega) (by omega)⟩
        have hw := wok_top hsp (j := n) hn (m := 1000 * ss) (f := tk * (sc * gsf n)) (t := tk * (sc * gsf n) + k * (sc * gsf n)) (by omega) (by omega) (by omega)
        exact hro_run (by omega) (gen_eb 40 _ _ _ _ _ hw) h
      · exact h
  exact key _ _ (fun n hn => List.mem_range.mp hn) (fun r hr => by cases hr)
theorem hro_ans {gsf : Nat → Int} {Tr : Nat → PT 40} (hsp : sp_ok gsf Tr) {pl sc ss tk k : Int} {st : List Row_ × Bool} (hpp : pl = 0 ∨ (1 ≤ sc ∧ sc ≤ 20 ∧ 1 ≤ ss ∧ ss ≤ 20)) (htk : 0 ≤ tk ∧ tk ≤ 10000000) (h : hro_ st.1) : hro_ (ad_ans gsf Tr pl sc ss tk st k).2.2.1 := by
  unfold ad_ans
  split
  · exact h
  · split
    · exact fun r hr => by cases hr
    · have := hpp.resolve_left (by omega)
      exact hro_ad hsp (by omega) (by omega) htk (by omega)
theorem due_eq {gr gsf : Nat → Int} {sc : Int} {rs : List Row_} (hg : ∀ j : Nat, j < 8 → gr j = gsf j) (hr : hro_ rs) (i w : Int) : due_ gr sc rs i w = due_ gsf sc rs i w := by
  unfold due_
  cases e : row_ rs i with
  | none => rfl
  | some r =>
    have hm : r ∈ rs := by
      unfold row_ at e
      split at e
      · exact List.mem_of_getElem? e
      · cases e
    have hs := hr r hm
    have e2 : lasts_ gr sc r = lasts_ gsf sc r := by
      unfold lasts_
      rw [hg r.2.1.toNat (by omega)]
    dsimp only
    rw [e2]
theorem my_gr {dt ds dl da dm de : Nat → Int} {du : Int} {f g : Row_ → Int} {rs : List Row_} (h : my_ dt ds dl da dm de du f rs) (he : rs = []) : my_ dt ds dl da dm de du g rs := by
  subst he
  exact ⟨h.1, fun p r q => by simp at q, h.2.2.1, h.2.2.2⟩
theorem ad_tk {gsf : Nat → Int} {Tr : Nat → PT 40} {pl sc ss tk k : Int} {st : List Row_ × Bool} (h : 0 ≤ tk) : tk ≤ (ad_ans gsf Tr pl sc ss tk st k).2.1 ∧ (ad_ans gsf Tr pl sc ss tk st k).2.1 ≤ tk + 500 ∧ (pl = 0 → (ad_ans gsf Tr pl sc ss tk st k).2.1 = tk) := by
  unfold ad_ans
  split
  · exact ⟨Int.le_refl _, by show tk ≤ tk + 500; omega, fun _ => rfl⟩
  · rename_i hq
    split
    · exact ⟨Int.le_refl _, by show tk ≤ tk + 500; omega, fun _ => rfl⟩
    · exact ⟨by show tk ≤ tk + k; omega, by show tk + k ≤ tk + 500; omega, fun q => absurd (Or.inl q) hq⟩
theorem nin_sub {as bs : List Nat} {q : Nat} (is : List Nat) (h : is.map (fun i => bs[i]?) = as.map some) (hq : q ∉ bs) : q ∉ as := fun hm => by
  have h2 : some q ∈ is.map (fun i => bs[i]?) := by
    rw [h]
    exact List.mem_map.mpr ⟨q, hm, rfl⟩
  obtain ⟨i, _, hi⟩ := List.mem_map.mp h2
  exact hq (List.mem_of_getElem? hi)
theorem rr_nil {lim : Nat} {cnt tm : Int} {vals rat : Nat → Int} {st : List Row_ × Bool} (h : rr_ lim cnt tm vals rat st) : rr_ lim 0 0 vals rat ([], false) := ⟨rfl, a_ok_nil _, rfl, fun p h => absurd h (Nat.not_lt_zero _), h.2.2.2.2⟩
theorem my_cg {dt ds dl da dm de : Nat → Int} {du : Int} {f g : Row_ → Int} {rs : List Row_} (h : my_ dt ds dl da dm de du f rs) (he : ∀ r ∈ rs, f r = g r) : my_ dt ds dl da dm de du g rs :=
  ⟨h.1, fun p r q => ⟨(h.2.1 p r q).1, (h.2.1 p r q).2.trans (he r (List.mem_of_getElem? q))⟩, h.2.2.1, h.2.2.2⟩
theorem la_cg {gr gsf : Nat → Int} {sc : Int} {rs : List Row_} (hg : ∀ j : Nat, j < 8 → gr j = gsf j) (hr : hro_ rs) : ∀ r ∈ rs, lasts_ gr sc r = lasts_ gsf sc r := fun r hm => by
  have hs := hr r hm
  unfold lasts_
  rw [hg r.2.1.toNat (by omega)]
theorem ad_far {G : GG_} {A : Nat → Prop} {H0 H : Heap} {locs : List Loc} {ws : va_W} (hh : xw_H G A H0 H locs ws) {q : Nat} (hq : H.size ≤ q) : q ∉ ws.map Prod.fst := fun hm => by
  obtain ⟨x, hx, e⟩ := List.mem_map.mp hm
  obtain ⟨k, hk⟩ := List.getElem?_of_mem hx
  have := (hh.1 k x hk).lt
  omega
section XSA
variable {p : Program} {l : Launch} {e : Env} {R : Room} {s : State} {m : MethodId} {args : Array Value} {below : List Frame} {meth : Method} {c : Code} {H : Heap} {locs : List Loc} {cells slots : Nat} {Q : State → Prop}
variable {cc : ByteArray} {pc : Nat} {ls : Array Slot} {rest : List Value}
theorem xw_same (hx : p.tables.exec = Jvm.exec) (hb : c.code = cc) {a b : Int} {off : Int} (tgt : Nat) (hd : decode cc pc = .ok (.if_icmp .eq off, 3)) (ht : (pc : Int) + off = (tgt : Int)) (h : a = b) (k : W p l e R s m args below meth c H locs cells slots Q (F0 m tgt ls rest)) : W p l e R s m args below meth c H locs cells slots Q (F0 m pc ls (.int (xi_ b) :: .int (xi_ a) :: rest)) := lv_icmp_eq hx hb hd ht (fun _ => k) (fun q => absurd (congrArg xi_ h) q)
theorem xw_sx {v : Int32} {y : Int} (h : v = xi_ y) (k : W p l e R s m args below meth c H locs cells slots Q (F0 m pc ls (.int (xi_ y) :: rest))) : W p l e R s m args below meth c H locs cells slots Q (F0 m pc ls (.int v :: rest)) := by
  rw [h]
  exact k
theorem xw_sl {v : Int64} {y : Int} (h : v = xl_ y) (k : W p l e R s m args below meth c H locs cells slots Q (F0 m pc ls (.long (xl_ y) :: rest))) : W p l e R s m args below meth c H locs cells slots Q (F0 m pc ls (.long v :: rest)) := by
  rw [h]
  exact k
end XSA
