section AMW
theorem st_in {w : Cond} {i : Nat} (h : tables_1[i]? = some w) : w ∈ lw_tbl := List.mem_append_right _ (List.mem_of_getElem? h)
theorem st_i : ∀ (k : Nat) (r : vw_C), vwCl[k]? = some r → Cond.instantiable r.1 r.2.2 ∈ lw_tbl := by
  intro k r h
  match k, h with
  | 0, h => cases h; exact (st_in (w := Cond.instantiable RX0 3) (i := 51) (by decide +kernel))
  | 1, h => cases h; exact (st_in (w := Cond.instantiable RX1 3) (i := 44) (by decide +kernel))
  | 2, h => cases h; exact (st_in (w := Cond.instantiable RX2 3) (i := 132) (by decide +kernel))
  | 3, h => cases h; exact (st_in (w := Cond.instantiable RX3 2) (i := 30) (by decide +kernel))
  | 4, h => cases h; exact (st_in (w := Cond.instantiable RX4 4) (i := 202) (by decide +kernel))
  | 5, h => cases h; exact (st_in (w := Cond.instantiable RX5 5) (i := 84) (by decide +kernel))
  | 6, h => cases h; exact (st_in (w := Cond.instantiable RX6 4) (i := 273) (by decide +kernel))
  | 7, h => cases h; exact (st_in (w := Cond.instantiable RX7 5) (i := 179) (by decide +kernel))
  | 8, h => cases h; exact (st_in (w := Cond.instantiable RX8 5) (i := 24) (by decide +kernel))
  | 9, h => cases h; exact (st_in (w := Cond.instantiable RX9 7) (i := 150) (by decide +kernel))
  | 10, h => cases h; exact (st_in (w := Cond.instantiable RX10 8) (i := 208) (by decide +kernel))
  | 11, h => cases h; exact (st_in (w := Cond.instantiable RX11 9) (i := 16) (by decide +kernel))
  | k + 12, h => simp at h
theorem st_K {s : State} {args : Array Value} (hts : ∀ w ∈ lw_tbl, w.before args s = true) (hw : ∀ w ∈ wsL_law, w.before args s = true) : ∃ D : va_G, va_K D vwCl [] s := by
  have H : ∀ k : Nat, ∃ (cC : ClassId) (iS : Nat → Nat), ∀ q : vw_C, vwCl[k]? = some q → u_Kn s q.1 q.2.1 q.2.2 cC iS := by
    intro k
    cases h : vwCl[k]? with
    | none => exact ⟨(0 : Nat), fun _ => 0, fun q e => by cases e⟩
    | some r =>
      obtain ⟨cC, iS, hk⟩ := u_known (C := r.1) (T := r.2.1) (N := r.2.2) (n := r.2.2) hw (am_clP k r h).1 (hts _ (st_i k r h))
      exact ⟨cC, iS, fun q e => by cases e; exact hk⟩
  obtain ⟨dC, h1⟩ := Classical.skolem.mp H
  obtain ⟨dI, h2⟩ := Classical.skolem.mp h1
  exact ⟨(dC, dI), fun c q h => h2 c q h, fun k q h => by simp at h⟩
theorem st_A {s : State} {args : Array Value} (hts : ∀ w ∈ lw_tbl, w.before args s = true) : ∃ gA : Nat → ClassId, ∀ t, t < 4 → ArrOfT s (gA t) (am_tyA t) ∧ va_RA s (gA t) (am_tyA t) := by
  obtain ⟨c0, k0, m0, h01, h02, h03⟩ := Cond.arrayClass_spec (hts (.arrayClass .int) (st_in (i := 42) (by decide +kernel)))
  obtain ⟨p1, c1, k1, h11, h12, h13, h14, h15⟩ := Cond.arrayOver_spec (hts (.arrayOver (.object "CardTabulator$Card")) (st_in (i := 50) (by decide +kernel)))
  obtain ⟨p2, c2, k2, h21, h22, h23, h24, h25⟩ := Cond.arrayOver_spec (hts (.arrayOver (.object "CardTabulator$State")) (st_in (i := 138) (by decide +kernel)))
  obtain ⟨p3, c3, k3, h31, h32, h33, h34, h35⟩ := Cond.arrayOver_spec (hts (.arrayOver (.object "CardTabulator$Totals")) (st_in (i := 279) (by decide +kernel)))
  refine ⟨fun t => match t with | 0 => c0 | 1 => c1 | 2 => c2 | _ => c3, fun t ht => ?_⟩
  rcases (show t = 0 ∨ t = 1 ∨ t = 2 ∨ t = 3 by omega) with rfl | rfl | rfl | rfl
  · exact ⟨fun n z => ⟨fun k h => (by cases h), k0, h02, m0, h03⟩, h01⟩
  · exact ⟨fun n z => ⟨fun k h => (by cases h), k1, h13, p1, h14⟩, k1, p1, h13, h14, h11, h15⟩
  · exact ⟨fun n z => ⟨fun k h => (by cases h), k2, h23, p2, h24⟩, k2, p2, h23, h24, h21, h25⟩
  · exact ⟨fun n z => ⟨fun k h => (by cases h), k3, h33, p3, h34⟩, k3, p3, h33, h34, h31, h35⟩
theorem st_O {s : State} {args : Array Value} (hts : ∀ w ∈ lw_tbl, w.before args s = true) : ∀ t, 0 < t → t < 4 → va_AO (am_cn (am_comp t)) s := by
  intro t h0 ht
  rcases (show t = 1 ∨ t = 2 ∨ t = 3 by omega) with rfl | rfl | rfl
  · exact va_AO.of (C := "CardTabulator$Card") (hts (.arrayOver (.object "CardTabulator$Card")) (st_in (i := 50) (by decide +kernel)))
  · exact va_AO.of (C := "CardTabulator$State") (hts (.arrayOver (.object "CardTabulator$State")) (st_in (i := 138) (by decide +kernel)))
  · exact va_AO.of (C := "CardTabulator$Totals") (hts (.arrayOver (.object "CardTabulator$Totals")) (st_in (i := 279) (by decide +kernel)))
theorem st_N : ∀ q ∈ am_nests, Cond.methodLinkNest q.1 q.2.1 q.2.2.1 q.2.2.2 ∈ lw_tbl := List.forall_mem_cons.mpr ⟨st_in (i := 25) (by decide +kernel), List.forall_mem_cons.mpr ⟨st_in (i := 31) (by decide +kernel), List.forall_mem_cons.mpr ⟨st_in (i := 85) (by decide +kernel), List.forall_mem_cons.mpr ⟨st_in (i := 133) (by decide +kernel), List.forall_mem_cons.mpr ⟨st_in (i := 151) (by decide +kernel), List.forall_mem_cons.mpr ⟨st_in (i := 180) (by decide +kernel), List.forall_mem_cons.mpr ⟨st_in (i := 203) (by decide +kernel), List.forall_mem_cons.mpr ⟨st_in (i := 209) (by decide +kernel), List.forall_mem_cons.mpr ⟨st_in (i := 280) (by decide +kernel), List.forall_mem_cons.mpr ⟨st_in (i := 297) (by decide +kernel), List.forall_mem_cons.mpr ⟨st_in (i := 362) (by decide +kernel), List.forall_mem_cons.mpr ⟨st_in (i := 411) (by decide +kernel), List.forall_mem_cons.mpr ⟨st_in (i := 422) (by decide +kernel), List.forall_mem_cons.mpr ⟨st_in (i := 461) (by decide +kernel), List.forall_mem_cons.mpr ⟨st_in (i := 507) (by decide +kernel), List.forall_mem_cons.mpr ⟨st_in (i := 576) (by decide +kernel), List.forall_mem_cons.mpr ⟨st_in (i := 771) (by decide +kernel), fun _ h => absurd h List.not_mem_nil⟩⟩⟩⟩⟩⟩⟩⟩⟩⟩⟩⟩⟩⟩⟩⟩⟩
theorem st_S {s : State} {b : Nat} (hs : ∀ c ∈ flatC (Jvm.Cond.and given_1 narrow_1), c.before #[Value.ref b] s = true) (hts : ∀ w ∈ lw_tbl, w.before #[Value.ref b] s = true) : ∃ (tS : Nat) (gs : Nat → Int32), (∀ k, k < 4 → gs k = nI (if k = 0 then 2 else if k = 1 then 1 else 9999)) ∧ b ≠ tS ∧ tS < s.heap.size ∧ va_T .int tS 4 (fun j => .int (gs j)) (fun q => s.heap.size ≤ q) s s.heap ∧ va_Z "CardTabulator" "MOST_OF_SETTING" "[I" (.ref tS) (fun q => s.heap.size ≤ q) s s.heap := by
  have hA : ∀ a : Nat, a < s.heap.size → ¬ (fun q : Nat => s.heap.size ≤ q) a := fun a h => Nat.not_le.mpr h
  have harr : (Cond.arrayOf (.static "CardTabulator" "MOST_OF_SETTING" "[I") .int).before #[Value.ref b] s = true := hs _ (by decide +kernel)
  have hlen : (Cond.eq (.length (.static "CardTabulator" "MOST_OF_SETTING" "[I")) (.int 4)).before #[Value.ref b] s = true := hs _ (by decide +kernel)
  have h0 : (Cond.eq (.elem (.static "CardTabulator" "MOST_OF_SETTING" "[I") (.int 0)) (.int 2)).before #[Value.ref b] s = true := hs _ (by decide +kernel)
  have h1 : (Cond.eq (.elem (.static "CardTabulator" "MOST_OF_SETTING" "[I") (.int 1)) (.int 1)).before #[Value.ref b] s = true := hs _ (by decide +kernel)
  have h2 : (Cond.eq (.elem (.static "CardTabulator" "MOST_OF_SETTING" "[I") (.int 2)) (.int 9999)).before #[Value.ref b] s = true := hs _ (by decide +kernel)
  have h3 : (Cond.eq (.elem (.static "CardTabulator" "MOST_OF_SETTING" "[I") (.int 3)) (.int 9999)).before #[Value.ref b] s = true := hs _ (by decide +kernel)
  have hne : (Cond.not (Cond.eq (.arg 0) (.static "CardTabulator" "MOST_OF_SETTING" "[I"))).before #[Value.ref b] s = true := hs _ (by decide +kernel)
  have hel : ∀ j : Nat, j < 4 → (Term.elem (.static "CardTabulator" "MOST_OF_SETTING" "[I") (.int (Int32.ofNat j))).eval #[Value.ref b] s none [] s = some (Value.int ((fun k : Nat => nI (if k = 0 then 2 else if k = 1 then 1 else 9999)) j)) := by
    intro j hj
    rcases (show j = 0 ∨ j = 1 ∨ j = 2 ∨ j = 3 by omega) with rfl | rfl | rfl | rfl
    · exact va_eqt h0
    · exact va_eqt h1
    · exact va_eqt h2
    · exact va_eqt h3
  obtain ⟨t, ht, hT⟩ := va_Tof (ty := .int) (N := 4) (f := fun j => Value.int ((fun k : Nat => nI (if k = 0 then 2 else if k = 1 then 1 else 9999)) j)) (A := fun q : Nat => s.heap.size ≤ q) (by decide) harr (va_eqt hlen) hel hA
  have hZ := va_Zof (A := fun q : Nat => s.heap.size ≤ q) (hts (.laysStatic "CardTabulator" "MOST_OF_SETTING" "[I") (st_in (i := 502) (by decide +kernel))) (hts (.initialized "CardTabulator") (st_in (i := 1) (by decide +kernel))) ht hA
  refine ⟨t, fun k : Nat => nI (if k = 0 then 2 else if k = 1 then 1 else 9999), fun _ _ => rfl, fun e => ?_, ?_, hT, hZ⟩
  · subst e
    have h1 := Cond.holds_not_iff.mp hne
    have h2 := Cond.eq_same (show (Term.arg 0).eval #[Value.ref b] s none [] s = some (.ref b) from rfl) ht (Or.inr (Or.inr rfl))
    simp [Cond.holds, h1] at h2
  · obtain ⟨cell, hc, -⟩ := hT
    exact (Array.getElem?_eq_some_iff.mp hc).1
theorem st_ret {mi : am_I} {i : Instr} {st : List Value} (h : am_ret mi i st = some (some (.int 1))) : i = .ireturn ∧ st = [.int 1] := by
  unfold am_ret at h
  split at h
  · split at h
    · cases h; exact ⟨rfl, rfl⟩
    · split at h
      · cases h; exact ⟨rfl, rfl⟩
      · cases h
    · cases h
  · split at h <;> cases h
  · split at h <;> cases h
  · split at h <;> cases h
  · split at h <;> cases h
  · cases h
def st_h (b L : Nat) (xs : Nat → Int32) (t : Nat) (gs : Nat → Int32) : Nat → Option am_C := fun a => if a = b then some (.inl (9, L, .inl xs)) else if a = t then some (.inl (9, 4, .inl gs)) else none
theorem st_I {s : State} {b L : Nat} {xs : Nat → Int32} {D : va_G} {gA : Nat → ClassId} {t : Nat} {gs : Nat → Int32} (hX : va_X b L xs s s.heap) (hbl : b < s.heap.size) (htl : t < s.heap.size) (hT : va_T .int t 4 (fun j => .int (gs j)) (fun q => s.heap.size ≤ q) s s.heap) (hZ : va_Z "CardTabulator" "MOST_OF_SETTING" "[I" (.ref t) (fun q => s.heap.size ≤ q) s s.heap) : am_Inv (D, gA, s.heap.size, t) s (st_h b L xs t gs, s.heap.size, 0) s.heap := by
  refine ⟨rfl, Nat.le_refl _, hZ, fun a c hc => ?_⟩
  have hc : st_h b L xs t gs a = some c := hc
  unfold st_h at hc
  by_cases e : a = b
  · rw [if_pos e] at hc
    cases hc
    subst e
    obtain ⟨scr, h1, h2, h3, h4, h5⟩ := hX
    exact ⟨hbl, Or.inl ⟨rfl, hbl, L, xs, rfl, scr, h1, h2, h3, Nat.le_of_eq h4.symm, by rw [h4], h5, Nat.not_le.mpr hbl⟩⟩
  · rw [if_neg e] at hc
    by_cases e2 : a = t
    · rw [if_pos e2] at hc
      cases hc
      subst e2
      exact ⟨htl, Or.inl ⟨rfl, htl, 4, gs, rfl, hT⟩⟩
    · rw [if_neg e2] at hc
      cases hc
end AMW
/-! THE CLAIM OUT OF ONE WALK OF THE LAW'S BODY. Your part is whole_start (and what it stands on); all else here is the same for every law, but numbers. -/
def R_law : String := "CardTabulatorLaw"
def lw_P (b : Addr) (xs : List Int32) (args : Array Value) (s : State) : Prop := args = #[.ref b] ∧ s.IntsAt b xs ∧ xs.length ≤ 260 ∧ (Jvm.Cond.and given_1 narrow_1).before args s = true
/-- what a walk over the start with the record d0 says of its end, said of the start itself -/
theorem lw_closed {s t : State} {o : Outcome} {d0 : Drawn} {L : List Loc} {k n : Nat} (hd0 : s.drawn.sameBut d0 lw_cs) (hv : ∃ v, o = .returned v) (hW : (s.setDrawn d0).WarmedH t.vm) (hs : (s.setDrawn d0).sameButNew ({ t with vm := s.vm } : State) L k n) : State.butDraws s t lw_cs (fun t1 => Framed s o t1 L k n) := by
  have h2 : t.drawn = d0 := congrArg State.drawn hs.1
  refine ⟨⟨hv, hW, State.sameButNew.setDrawn hs s.drawn⟩, ?_, by decide⟩
  rw [h2]
  exact hd0
def lw_Q (_ : Array Value) (s : State) (o : Outcome) (t : State) : Prop := o = .returned (some (.int 1)) ∧ State.butDraws s t lw_cs (fun t1 => Framed s o t1 [] 600000 7302250)
def lw_Z (below : List Frame) (a : Array Value) (s : State) : State → Prop := fun t => ∃ o, t.status = .running ∧ Ended t below o ∧ lw_Q a s o t
/-- the law's own end, with 1 on the stack, nothing written that was there before, its room as the claim has it; d0: the record of draws at this point (at the entry s.drawn: begin with 'refine W.base ?_' and 'have hd0 := Drawn.sameBut.refl s.drawn lw_cs') -/
theorem lw_ret {p : Program} {l : Launch} {e : Env} {s : State} {m : MethodId} {below : List Frame} {meth : Method} {c : Code} {b : Nat} {d0 : Drawn} (hd0 : s.drawn.sameBut d0 lw_cs) (hx : p.tables.exec = Jvm.exec) (hb : c.code = code) (hr : meth.sig.returnType = ret) (hlocks : meth.locks = false) {pc : Nat} {H : Heap} {ls : Array Slot} (hdg : decode code pc = .ok (.ireturn, 1)) : W p l e room_1 (s.setDrawn d0) m #[Value.ref b] below meth c H [] 600000 7302250 (lw_Z below #[Value.ref b] s) (F0 m pc ls [.int 1]) := by
  intro T hT X
  obtain ⟨fs, hret, hrun, hended, hW, hframe⟩ := X.leave (v := some (.int 1)) (hlocks := hlocks) (fun h => by rw [hr] at h; cases h)
  have hmeth' : T.vm.method? m = some meth := X.method'
  refine ⟨T.setFrames fs, ?_, .returned (some (.int 1)), hrun, hended, rfl, lw_closed hd0 ⟨_, rfl⟩ hW hframe⟩
  jvm_step X.here [X.here.top, hx, hb, hdg, hmeth', hr, ret, narrow_b1]
  (try refine ⟨rfl, ?_⟩); (try refine ⟨rfl, ?_⟩)
  first | (intro acts; rw [hret _ acts rfl rfl rfl]) | rw [hret _ _ rfl rfl rfl]
  exact Steps.refl _
/-- what holds at the law's entry: the machine, the code, the tables' words (any of lw_tbl by 'hts w (by decide +kernel)'), the script of L ints xs at the cell b, what the Statement gives of the start (any of its parts by flat_of_before) -/
def lw_At (p : Program) (s : State) (m : MethodId) (meth : Method) (c : Code) (b L : Nat) (xs : Nat → Int32) : Prop :=
  p.tables.exec = Jvm.exec ∧ c.code = code ∧ meth.sig.returnType = ret ∧ c.maxLocals = 6 ∧ s.vm.findClass R_law = some m.cls ∧ (∀ w ∈ lw_tbl, w.before #[Value.ref b] s = true) ∧ va_X b L xs s s.heap ∧ b < s.heap.size ∧ meth.locks = false ∧ (Jvm.Cond.and given_1 narrow_1).before #[Value.ref b] s = true
-- ===== YOUR PART BEGINS =====
/-- YOUR PART: from the entry, for every script of at most 260 ints, the law comes to its end with true ('hflags': the launch's flags, for a law that throws: no stack traces) -/
theorem whole_start {p : Program} {e : Env} {s : State} {m : MethodId} {below : List Frame} {meth : Method} {c : Code} (l : Launch) (hflags : l.flags = flags0) {b L : Nat} {xs : Nat → Int32} (hL : L ≤ 260) (C0 : lw_At p s m meth c b L xs) : W p l e room_1 s m #[Value.ref b] below meth c s.heap [] 0 0 (lw_Z below #[Value.ref b] s) (entryFrame m ([Value.ref b] : List Value).toArray 6) := by
  obtain ⟨hx, hb, hr, hml, hown, hts, hX, hbl, hlocks, hgv⟩ := id C0
  have hs := flat_of_before _ hgv
  have hw : ∀ w ∈ wsL_law, w.before #[Value.ref b] s = true := fun w h => hts w (wsL_law_in w h)
  obtain ⟨D, hK⟩ := st_K hts hw
  obtain ⟨gA, hA⟩ := st_A hts
  obtain ⟨t, gs, hgs, hbt, htl, hT, hZ⟩ := st_S hs hts
  have hI : am_Inv (D, gA, s.heap.size, t) s (st_h b L xs t gs, s.heap.size, 0) s.heap := st_I hX hbl htl hT hZ
  have hb0 : st_h b L xs t gs b = some (.inl (9, L, .inl xs)) := if_pos rfl
  have ht0 : st_h b L xs t gs t = some (.inl (9, 4, .inl gs)) := (if_neg (fun e => hbt e.symm)).trans (if_pos rfl)
  obtain ⟨n, r, H', hex, hr1, hq1, hq2⟩ := law_all (sA := t) (X := s.heap.size) (w0 := 0) hL hbl htl hgs hb0 ht0
  have hr1 : r = some (.int 1) := hr1
  have hex : am_exec t n mL_law 0 (am_entry [Value.ref b] 6) [] (st_h b L xs t gs, s.heap.size, 0) = some (r, H') := hex
  have hKn : am_Kn (D, gA, s.heap.size, t) s := ⟨hK, hA, st_O hts, fun q hq => va_Nw.of rfl (hts _ (st_N q hq))⟩
  have C : am_Cx p room_1 s m #[Value.ref b] meth c (D, gA, s.heap.size, t) mL_law s.heap.size := ⟨hx, hb, hml, hown, hw, fun h => absurd h (by decide +kernel), ⟨rfl, rfl⟩, hKn, Nat.le_refl _⟩
  have k := am_snd l (D, gA, s.heap.size, t) n mL_law 0 (am_entry [Value.ref b] 6) [] (st_h b L xs t gs, s.heap.size, 0) r H' hex p e room_1 s m #[Value.ref b] below meth c (lw_Z below #[Value.ref b] s) s.heap.size 0 C (by
      show H'.2.1 - s.heap.size ≤ 600000 ∧ H'.2.2 - 0 ≤ 7302250
      omega) (fun i pc' ls' st' hd hret => by
      intro lsC Hc locs hl hL' hI' hS z1 z2
      rw [hr1] at hret
      obtain ⟨e1, e2⟩ := st_ret hret
      subst e1
      subst e2
      refine va_forget (fun q hq => hS.2.2 q hq) (W.widen (k := 600000) (n := 7302250) (by omega) (by omega) (W.base ?_))
      exact lw_ret (Drawn.sameBut.refl s.drawn lw_cs) hx hb hr hlocks hd)
  have k := k _ s.heap [] (am_entry_has (vs := [Value.ref b]) (n := 6) (Nat.le_of_ble_eq_true rfl)) (am_entry_len (vs := [Value.ref b]) (n := 6) (Nat.le_of_ble_eq_true rfl)) hI va_S.rf (Nat.le_refl _) (Nat.le_refl _)
  rw [lg_entry_eq]
  exact W.widen (Nat.zero_le _) (Nat.zero_le _) k
-- ===== YOUR PART ENDS =====
set_option maxHeartbeats 4000000 in
theorem lw_walk (l : Launch) (hflags : l.flags = flags0) (b : Addr) (xs : List Int32) : MetFree l x (headSpec (Jvm.Cond.code x code maxLocals ret :: tables_1) room_1) (lw_P b xs) (fun _ _ _ _ _ => True) lw_Q := by
  refine MetFree.of_bodyS (code := code) (maxLocals := maxLocals) (ret := ret) (by decide) ?_ ?_
  · intro args s m h hn
    obtain ⟨meth, c, h1, h2, h3, h4, h5, h6, -, -⟩ := Cond.code_spec hn (atoms_spec (ws := Jvm.Cond.code x code maxLocals ret :: tables_1) h _ List.mem_cons_self)
    exact ⟨meth, c, h1, h2, h3, h4, h5, h6⟩
  · intro p e s m args below meth c s₁ B hml0 hP _
    obtain ⟨rfl, hx, hbd, hgv⟩ := hP
    obtain ⟨scr, harrAt, hlist, hof, hsmall⟩ := hx
    obtain ⟨hcb, hkn, -, -⟩ := State.arrayAt?_spec harrAt
    have hown : s.vm.findClass R_law = some m.cls := findClass_of_methodNamed B.named
    have hts0 : ∀ c ∈ (Jvm.Cond.code x code maxLocals ret :: tables_1), c.before #[Value.ref b] s = true := atoms_spec (ws := Jvm.Cond.code x code maxLocals ret :: tables_1) B.pre
    have hts : ∀ w ∈ lw_tbl, w.before #[Value.ref b] s = true := k2_hts_sels lw_privs (fun w hw => hts0 w (List.mem_cons_of_mem _ hw)) lw_privs_ok
    have hml : c.maxLocals = 6 := B.maxLocals_eq (hts0 _ List.mem_cons_self)
    have X₀ : Stand p l e room_1 s m #[Value.ref b] below meth c s₁ [] 0 0 := Stand.of_body B
    have hh0 : s₁.heap = s.heap := by rw [B.state]; rfl
    have hsz : scr.slots.size = xs.length := by rw [← Array.length_toList, hlist, List.length_map]
    have hval : ∀ j : Nat, j < xs.length → scr.slots[j]? = some (.int (xs.getD j 0)) := fun j hj => by
      rw [← Array.getElem?_toList, hlist]
      simp [hj]
    have hbl : b < s.heap.size := (Array.getElem?_eq_some_iff.mp hcb).1
    have hX : va_X b xs.length (fun j => xs.getD j 0) s s.heap := ⟨scr, hcb, hof, hkn, hsz, hval⟩
    have K : W p l e room_1 s m #[Value.ref b] below meth c s₁.heap [] 0 0 (lw_Z below #[Value.ref b] s) (entryFrame m ([Value.ref b] : List Value).toArray 6) := by
      rw [hh0]
      exact whole_start l hflags hbd ⟨B.exec, B.bytes, B.returns, hml, hown, hts, hX, hbl, B.notSynchronized, hgv⟩
    obtain ⟨t, a1, o, b1, b2, b3⟩ := K s₁ rfl X₀
    exact ⟨t, o, a1, b1, b2, b3⟩
theorem lw_pre_spec {args : Array Value} {s : State} (h : (Jvm.Cond.and given_1 narrow_1).before args s = true) (hr : rest_1_c.before args s = true) : ∃ (b : Addr) (xs : List Int32), lw_P b xs args s := by
  have hs := flat_of_before _ h
  have hq := flat_of_before _ hr
  have hc : (Cond.count 1).before args s = true := hs _ (by decide +kernel)
  have harr : (Cond.arrayOf (.arg 0) .int).before args s = true := hs _ (by decide +kernel)
  have hle : (Cond.le (.length (.arg 0)) (.int 260)).before args s = true := hs _ (by decide +kernel)
  have hlen : (Cond.isInt (.length (.arg 0))).before args s = true := hq _ (by decide +kernel)
  have hall : (Cond.all (.arg 0) (.isInt (.elem (.arg 0) (.index 0)))).before args s = true := hq _ (by decide +kernel)
  obtain ⟨b, xs, hb, hx⟩ := State.ints_of_pre rfl harr hlen hall
  have hsm : xs.length < 2 ^ 31 := hx.choose_spec.2.2.2
  have hev : (Term.length (.arg 0)).eval args s none [] s = some (.int xs.length.toInt32) := hx.length_eval hb
  have hv := Cond.le_ints hev (show (Term.int 260).eval args s none [] s = some (.int 260) from rfl)
  have hd : xs.length.toInt32 ≤ 260 := by
    simpa [Cond.before, Cond.holds, hv] using hle
  have hN : xs.length ≤ 260 := (Int32.ofNat_le_ofNat hsm (by decide)).mp (show Int32.ofNat xs.length ≤ Int32.ofNat 260 from hd)
  exact ⟨b, xs, Cond.one_arg hc (show args[0]? = some (.ref b) from hb), hx, hN, h⟩
theorem lw_comes (l : Launch) (hflags : l.flags = flags0) : Comes l x (Jvm.Cond.code x code maxLocals ret :: tables_1) room_1 (fun tb e args s => Calls_1 tb e args s ∧ rest_1 tb e args s ∧ Pre_1 tb e args s)
    (fun _ _ args s o t => lw_Q args s o t) := by
  intro p e ha hc hk s m args below hf hfit hheap happ hpre
  obtain ⟨b, xs, hP⟩ := lw_pre_spec hpre.2.2 hpre.2.1
  obtain ⟨k, o, h1, h2, h3, hQ⟩ := lw_walk l hflags b xs p e ha hc hk s m args below hf ((Spec.applies_iff_loose hf).mp happ).1 hP trivial
  exact ⟨k, o, h1, h2, h3, hQ⟩
theorem lw_frame {s t : State} {o : Outcome} {args : Array Value} (h : State.butDraws s t lw_cs (fun t1 => Framed s o t1 [] 600000 7302250)) :
    State.butDraws s t [Jvm.Choice.named "NaN.bits"] (fun t1 => Framed s o t1 (fieldLocs frame_1_writes args s ++ arrayLocs frame_1_arrays args s ++ staticLocs frame_1_statics s) 600000 7302250) := h
theorem lw_limb (L : Cond) (hL : ∀ (args : Array Value) (s t : State), L.after args s (.returned (some (.int 1))) t = true) :
    ArmFor flags0 classFile x code maxLocals ret World_1 tables_1 room_1 Calls_1 rest_1 Pre_1
      (fun tb e a s o t => postC L tb e a s o t ∧ State.butDraws s t [Jvm.Choice.named "NaN.bits"] (fun t1 => Framed s o t1 (fieldLocs frame_1_writes a s ++ arrayLocs frame_1_arrays a s ++ staticLocs frame_1_statics s) 600000 7302250)) := by
  intro l hflags _ _ p e ha hc hk s m args below hf hfit hheap happ hpre
  obtain ⟨k, o, h1, h2, h3, rfl, hF⟩ := lw_comes l hflags p e ha hc hk s m args below hf hfit hheap happ hpre
  exact ⟨k, _, h1, h2, h3, hL args s _, lw_frame hF⟩
theorem i_vc : Claimed_1_1 ∧ Claimed_1_2 := ⟨lw_limb limb_1_1 (fun args s t => by simp [limb_1_1, Cond.after, Cond.holds, Cond.value]), lw_limb limb_1_2 (fun args s t => Cond.after_iff.mpr (by
  first | (rw [show limb_1_2 = Cond.eq .result (.int 1) from rfl, Cond.eq_ints (x := 1) (y := 1) rfl rfl]; simp; done) | (simp [limb_1_2, Cond.value, Term.eval]; done)))⟩
