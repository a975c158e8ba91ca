theorem am_tyA_comp {t : Nat} (h0 : 0 < t) (h4 : t < 4) : am_tyA t = .object (am_cn (am_comp t)) := by
  match t, h0, h4 with
  | 1, _, _ => rfl
  | 2, _, _ => rfl
  | 3, _, _ => rfl
theorem am_tx0 (k : Nat) : (TX0 k).1 = RX0 := by unfold TX0; split <;> rfl
theorem am_tx1 (k : Nat) : (TX1 k).1 = RX1 := by unfold TX1; split <;> rfl
theorem am_tx2 (k : Nat) : (TX2 k).1 = RX2 := by unfold TX2; split <;> rfl
theorem am_tx3 (k : Nat) : (TX3 k).1 = RX3 := by unfold TX3; split <;> rfl
theorem am_tx4 (k : Nat) : (TX4 k).1 = RX4 := by unfold TX4; split <;> rfl
theorem am_tx5 (k : Nat) : (TX5 k).1 = RX5 := by unfold TX5; split <;> rfl
theorem am_tx6 (k : Nat) : (TX6 k).1 = RX6 := by unfold TX6; split <;> rfl
theorem am_tx7 (k : Nat) : (TX7 k).1 = RX7 := by unfold TX7; split <;> rfl
theorem am_tx8 (k : Nat) : (TX8 k).1 = RX8 := by unfold TX8; split <;> rfl
theorem am_tx9 (k : Nat) : (TX9 k).1 = RX9 := by unfold TX9; split <;> rfl
theorem am_tx10 (k : Nat) : (TX10 k).1 = RX10 := by unfold TX10; split <;> rfl
theorem am_tx11 (k : Nat) : (TX11 k).1 = RX11 := by unfold TX11; split <;> rfl
theorem am_finOwn {ci k c : Nat} {r : vw_C} (hr : vwCl[ci]? = some r) (hk : k < r.2.2) (hf : (r.2.1 k).2.2.2 = true) (h : ci = c) : (r.2.1 k).1 = am_cn c := by
  subst h
  match ci, hr with
  | 0, hr => cases hr; exact am_tx0 k
  | 1, hr => cases hr; exact am_tx1 k
  | 2, hr => cases hr; exact am_tx2 k
  | 3, hr => cases hr; exact am_tx3 k
  | 4, hr => cases hr; exact am_tx4 k
  | 5, hr => cases hr; exact am_tx5 k
  | 6, hr => cases hr; exact am_tx6 k
  | 7, hr => cases hr; exact am_tx7 k
  | 8, hr => cases hr; exact am_tx8 k
  | 9, hr => cases hr; exact am_tx9 k
  | 10, hr => cases hr; exact am_tx10 k
  | 11, hr => cases hr; exact am_tx11 k
  | n + 12, h => simp [vwCl] at h
theorem am_nn_i (z : Int32) (hz : ¬ z < 0) : z.toInt = (z.toNatClampNeg : Int) := by
  have hz0 : (0 : Int) ≤ z.toInt := by
    have := Int32.not_lt.mp hz
    simpa using Int32.le_iff_toInt_le.mp this
  show z.toInt = ((z.toInt.toNat : Nat) : Int)
  omega
theorem am_copyW {p : Program} {l : Launch} {e : Env} {R : Room} {s : State} {m : MethodId} {args : Array Value} {below : List Frame} {meth : Method} {c : Code} {H : Heap} {locs : List Loc} {cells slots : Nat} {Q : State → Prop} {cc : ByteArray} {pc : Nat} {ls : Array Slot} {rest : List Value} (hexec : p.tables.exec = Jvm.exec) (hb : c.code = cc) (hml : c.maxLocals = ls.size) {own : String} {index : Nat} (hown : s.vm.findClass own = some m.cls) (hlink : (Cond.methodLink own index arraycopyName).before args s = true) (hnat : (Cond.native arraycopyName).before args s = true) (hstat : (Cond.static arraycopyName).before args s = true) (hini : (Cond.initialized "java/lang/System").before args s = true)
    {cA : ClassId} (hAr : ArrOfT s cA .int) {a a0 : Nat} {n0 n1 : Nat} {f f1 : Nat → Int32} (hc0 : H[a0]? = some (vp_cell cA (n0, .inl f))) (hc1 : H[a]? = some (vp_cell cA (n1, .inl f1)))
    {sp dp n : Int32} (h1 : ¬ sp < 0) (h2 : ¬ dp < 0) (h3 : ¬ n < 0) (h4 : sp.toNatClampNeg + n.toNatClampNeg ≤ n0) (h5 : dp.toNatClampNeg + n.toNatClampNeg ≤ n1)
    (hframes : 1 ≤ R.frames) (hlocals : (rest.map fun v => v.category).sum + 18 ≤ R.locals) (hdg : decode cc pc = .ok (.invokestatic index, 3))
    (kk : ∀ (H1 : Heap) (L : List Loc), H1[a]? = some (vp_cell cA (n1, .inl (va_cpy f f1 sp.toNatClampNeg dp.toNatClampNeg n.toNatClampNeg))) → H1.size = H.size → (∀ q : Nat, q ≠ a → H1[q]? = H[q]?) → (∀ q ∈ L, q.base = a) → W p l e R s m args below meth c H1 (locs ++ L) cells slots Q (F0 m (pc + 3) ls rest)) : W p l e R s m args below meth c H locs cells slots Q (F0 m pc ls (.int n :: .int dp :: .ref a :: .int sp :: .ref a0 :: rest)) := by
  intro T hT X
  obtain ⟨-, k0, hk0, cm0, hkk0⟩ := hAr n0 (fun j => .int (f j))
  obtain ⟨-, k1, hk1, cm1, hkk1⟩ := hAr n1 (fun j => .int (f1 j))
  obtain ⟨vm', X', step⟩ := X.arraycopy hexec hown hlink hnat hstat hini (src := a0) (dst := a) (cs := vp_cell cA (n0, .inl f)) (cd := vp_cell cA (n1, .inl f1)) (srcPos := sp) (destPos := dp) (n := n) (by rw [hT]; exact hc0) (by rw [hT]; exact hc1)
    (fun _ h => by cases h) (fun _ h => by cases h) (fun h => by cases h) (fun h => by cases h) hk0 hk1 hkk0 hkk1 (by simp [refKind]) h1 h2 h3
    (by rw [am_nn_i sp h1, am_nn_i n h3]; show ¬ _ > ((arrV cA n0 (fun j => .int (f j))).slots.size : Int); rw [arrV_size]; omega)
    (by rw [am_nn_i dp h2, am_nn_i n h3]; show ¬ _ > ((arrV cA n1 (fun j => .int (f1 j))).slots.size : Int); rw [arrV_size]; omega)
    (fun vm₁ _ i hi => by
      have e : (vp_cell cA (n0, .inl f)).slots.getD (sp.toNatClampNeg + i) .null = .int (f (sp.toNatClampNeg + i)) := by
        show (arrV cA n0 (fun j => .int (f j))).slots.getD _ _ = _
        rw [Array.getD_eq_getD_getElem?, arrV_read _ _ (by omega)]
        rfl
      refine ⟨?_, ?_⟩
      · rw [e]
        rfl
      · rw [e]
        exact trivial)
    (g := F0 m pc ls (.int n :: .int dp :: .ref a :: .int sp :: .ref a0 :: rest)) rfl (by rw [hml]) (rest := rest) rfl (by rw [hb]; exact hdg) hframes (by show 2 * 0 + _ + 18 ≤ _; omega)
  have e1 : copied (vp_cell cA (n0, .inl f)) (vp_cell cA (n1, .inl f1)) sp dp n = vp_cell cA (n1, .inl (va_cpy f f1 sp.toNatClampNeg dp.toNatClampNeg n.toNatClampNeg)) := va_copied (fun z => .int z) cA cA f f1 h4
  rw [e1] at X' step
  have hl : a < H.size := (Array.getElem?_eq_some_iff.mp hc1).1
  have hheap : ((T.setVm vm').setCell a (vp_cell cA (n1, .inl (va_cpy f f1 sp.toNatClampNeg dp.toNatClampNeg n.toNatClampNeg)))).heap = H.setIfInBounds a (vp_cell cA (n1, .inl (va_cpy f f1 sp.toNatClampNeg dp.toNatClampNeg n.toNatClampNeg))) := by rw [← hT]; rfl
  obtain ⟨t, a1, b1⟩ := kk _ _ (by simp [Array.getElem?_setIfInBounds, hl]) (by simp) (fun q hq => by simp [Array.getElem?_setIfInBounds, Ne.symm hq]) (fun q hq => by
      obtain ⟨z, -, hz⟩ := List.mem_map.mp hq
      rw [← hz]) _ hheap X'
  exact ⟨t, step t a1, b1⟩
set_option maxRecDepth 100000 in
theorem am_wgets : Cond.fieldLink RX11 99 "CardTabulator" "MOST_OF_SETTING" "[I" ∈ wsL_law := wr14 _ (List.mem_of_getElem? (i := 5) rfl)
set_option maxRecDepth 100000 in
theorem am_wobj1 : Cond.instanceMethod objectInit ∈ wsL_law := wr1 _ (List.mem_of_getElem? (i := 7) rfl)
set_option maxRecDepth 100000 in
theorem am_wobj2 : Cond.code objectInit ⟨#[0xb1]⟩ 1 none ∈ wsL_law := wr1 _ (List.mem_of_getElem? (i := 8) rfl)
set_option maxRecDepth 100000 in
theorem am_wcp1 : Cond.native arraycopyName ∈ wsL_law := wr12 _ (List.mem_of_getElem? (i := 20) rfl)
set_option maxRecDepth 100000 in
theorem am_wcp2 : Cond.static arraycopyName ∈ wsL_law := wr12 _ (List.mem_of_getElem? (i := 21) rfl)
set_option maxRecDepth 100000 in
theorem am_wcp3 : Cond.initialized "java/lang/System" ∈ wsL_law := wr12 _ (List.mem_of_getElem? (i := 22) rfl)
set_option maxRecDepth 100000 in
theorem am_wmin1 : Cond.static Lib.Math.min.name ∈ wsL_law := wr9 _ (List.mem_of_getElem? (i := 10) rfl)
set_option maxRecDepth 100000 in
theorem am_wmin2 : Cond.code Lib.Math.min.name Lib.Math.min.code 2 (some .int) ∈ wsL_law := wr9 _ (List.mem_of_getElem? (i := 12) rfl)
set_option maxRecDepth 100000 in
theorem am_wabs1 : Cond.static Lib.Math.abs.name ∈ wsL_law := wr16 _ (List.mem_of_getElem? (i := 1) rfl)
set_option maxRecDepth 100000 in
theorem am_wabs2 : Cond.code Lib.Math.abs.name Lib.Math.abs.code 1 (some .int) ∈ wsL_law := wr16 _ (List.mem_of_getElem? (i := 2) rfl)
set_option maxRecDepth 100000 in
theorem am_wmath : Cond.initialized "java/lang/Math" ∈ wsL_law := wr9 _ (List.mem_of_getElem? (i := 11) rfl)
set_option maxRecDepth 100000 in
theorem am_warr : Cond.arrayClass .int ∈ wsL_law := wr3 _ (List.mem_of_getElem? (i := 9) rfl)
section AMH
variable {p : Program} {l : Launch} {e : Env} {R : Room} {s : State} {m : MethodId} {args : Array Value} {below : List Frame} {meth : Method} {c : Code} {Q : State → Prop} {g : am_g} {mi : am_I} {sz0 sl0 : Nat}
theorem am_okv_sp {ty : FieldType} {v : Value} (h : am_okv ty v = true) : narrow ty v = v ∧ fits ty v = true := by
  cases ty <;> cases v <;> first | exact ⟨rfl, rfl⟩ | cases h
theorem am_bl_V {ci : Nat} {r : vw_C} (hr : vwCl[ci]? = some r) {j : Nat} (hj : j < r.2.2) : defaultValue (am_tys ci j) = vp_V (am_bl ci) j := by
  unfold am_bl vp_V
  rw [hr]
  simp [List.getD_eq_getElem?_getD, hj]
theorem am_bl_len {ci : Nat} {r : vw_C} (hr : vwCl[ci]? = some r) : (am_bl ci).length = r.2.2 := by
  unfold am_bl
  rw [hr]
  simp
theorem am_nf_e {ci : Nat} {r : vw_C} (hr : vwCl[ci]? = some r) : am_nf ci = r.2.2 := by
  unfold am_nf
  rw [hr]
theorem am_one {g : am_g} {a ci : Nat} {fs : List Value} {r : vw_C} {Hc : Heap} (hr : vwCl[ci]? = some r) (ho : t_OB a (g.1.1 ci) r.2.2 (g.1.2 ci) Hc (vp_V fs)) : va_P g.1 vwCl [(a, .inr (ci, fs))] Hc := by
  intro j q hq
  cases j with
  | zero => cases hq; exact ⟨r, hr, ho⟩
  | succ j => simp at hq
theorem am_iarr {a t n : Nat} {f : Nat → Int32} {Hc : Heap} (hKn : am_Kn g s) (h : am_at g s a (.inl (t, n, .inl f)) Hc) (ht : t = 0 ∨ t = 9) : ∃ cell : Cell, Hc[a]? = some cell ∧ s.isArrayOf cell .int ∧ cell.vm ≠ .unknown ∧ n ≤ cell.slots.size ∧ cell.slots.size.toInt32 = Int32.ofNat n ∧ ∀ j : Nat, j < n → cell.slots[j]? = some (.int (f j)) := by
  rcases h with ⟨h1, h2, n', f', h3, cell, q1, q2, q3, q4, q5, q6, q7⟩ | ⟨h1, h2, h3⟩
  · cases h3
    exact ⟨cell, q1, q2, q3, q4, q5, q6⟩
  · have h0 : t = 0 := by omega
    subst h0
    refine ⟨_, h3, (hKn.2.1 0 (by decide)).1 n (fun j => .int (f j)), (fun q => by cases q), ?_, ?_, fun j hj => ?_⟩
    · show n ≤ (arrV _ _ _).slots.size
      rw [arrV_size]
      exact Nat.le_refl _
    · show (arrV _ _ _).slots.size.toInt32 = _
      rw [arrV_size]
      try rfl
    · show (arrV _ _ _).slots[j]? = _
      rw [arrV_read _ _ hj]
theorem am_w_getf (C : am_Cx p R s m args meth c g mi sz0) {pc : Nat} {ls : am_L} {st : List Value} {H : am_H} {r : Nat × am_L × List Value × am_H} {cp : Nat} (hd : decode mi.2.1 pc = .ok (.getfield cp, 3)) (h : am_step g.2.2.2 mi (.getfield cp) pc ls st H = some r) (hRm : r.2.2.2.2.1 - sz0 ≤ R.cells ∧ r.2.2.2.2.2 - sl0 ≤ R.slots) (k : am_K p l e R s m args below meth c Q g mi sz0 sl0 r.1 r.2.1 r.2.2.1 r.2.2.2) : am_K p l e R s m args below meth c Q g mi sz0 sl0 pc ls st H := by
  intro lsC Hc locs hl hL hI hS z1 z2
  obtain ⟨hx, hb, hml, hown, hts, hini, hR, hKn, hB⟩ := C
  replace h : am_getf mi.1 cp (pc + 3) ls st H = some r := h
  unfold am_getf at h
  split at h
  · rename_i a st0 ci q hlk
    split at h
    · rename_i cj fs ha
      split at h
      · rename_i hci
        subst hci
        split at h
        · rename_i v hv
          cases h
          obtain ⟨r0, hr0, hk, hw⟩ := am_fldP _ _ (am_lk _ _ _ hlk)
          dsimp only at hr0 hk hw
          obtain ⟨-, r1, hr1, hlen, hob⟩ := (hI.2.2.2 a _ ha).2
          cases hr1.symm.trans hr0
          obtain ⟨hin, hty, hnm, hcn⟩ := am_clP _ _ hr0
          exact va_get (D := g.1) (ci := cj) (C := r0.1) (T := r0.2.1) (N := r0.2.2) (tys := []) hx hb hts hin hown hKn.1 (am_one hr0 hob) 0 rfl hr0 q hk (hts _ hw) (fun _ z => z) hv hd (k _ _ _ hl hL hI hS z1 z2)
        · cases h
      · cases h
    · cases h
  · cases h
theorem am_w_putf (C : am_Cx p R s m args meth c g mi sz0) {pc : Nat} {ls : am_L} {st : List Value} {H : am_H} {r : Nat × am_L × List Value × am_H} {cp : Nat} (hd : decode mi.2.1 pc = .ok (.putfield cp, 3)) (h : am_step g.2.2.2 mi (.putfield cp) pc ls st H = some r) (hRm : r.2.2.2.2.1 - sz0 ≤ R.cells ∧ r.2.2.2.2.2 - sl0 ≤ R.slots) (k : am_K p l e R s m args below meth c Q g mi sz0 sl0 r.1 r.2.1 r.2.2.1 r.2.2.2) : am_K p l e R s m args below meth c Q g mi sz0 sl0 pc ls st H := by
  intro lsC Hc locs hl hL hI hS z1 z2
  obtain ⟨hx, hb, hml, hown, hts, hini, hR, hKn, hB⟩ := C
  replace h : am_putf (am_ini mi) mi.1 cp (pc + 3) ls st H = some r := h
  unfold am_putf at h
  split at h
  · rename_i v a st0 ci q hlk
    split at h
    · rename_i cj fs ha
      split at h
      · rename_i hcond
        obtain ⟨hci, hok, hfin⟩ := hcond
        subst hci
        cases h
        obtain ⟨r0, hr0, hk, hw⟩ := am_fldP _ _ (am_lk _ _ _ hlk)
        dsimp only at hr0 hk hw
        have hlt := (hI.2.2.2 a _ ha).1
        obtain ⟨hBa, r1, hr1, hlen, hob⟩ := (hI.2.2.2 a _ ha).2
        cases hr1.symm.trans hr0
        obtain ⟨hin, hty, hnm, hcn⟩ := am_clP _ _ hr0
        obtain ⟨hn, hfit⟩ := am_okv_sp hok
        have hap := va_apart (own := "") hts hin (am_tys cj) hty hnm hKn.1 hr0
        obtain ⟨cell, q1, q2, q3, q4⟩ := hob
        obtain ⟨hSl, hfc, kC, hkC, hkind⟩ := hKn.1.1 cj _ hr0
        obtain ⟨cf, kf, fi, f, hi, hsl⟩ := hSl q hk
        have hst := (u_facts hfc hkC (u_lays hts hin hk) hi).1
        have hlay := hts _ (hin _ (u_in_lay hk))
        unfold u_lay at hlay
        have hkk : ∀ H1 : Heap, H1[a]? = some (cell.setSlot f.slot v) → H1.size = Hc.size → (∀ q, q ≠ a → H1[q]? = Hc[q]?) → W p l e R s m args below meth c H1 (locs ++ [⟨a, f.slot⟩]) (H.2.1 - sz0) (H.2.2 - sl0) Q (F0 m (pc + 3) lsC st0) := by
          intro H1 e1 e2 e3
          rw [hsl] at e1
          refine k lsC H1 _ hl hL (hI.put e2 e3 hBa hlt ⟨hBa, r0, hr0, by rw [List.length_set]; exact hlen, ?_⟩) (hS.put e2 e3 hBa) z1 z2
          exact t_OB.to (V := updV (vp_V fs) q v) ⟨_, e1, q2, q3, t_set q4 hap hk v⟩ (fun j _ => vp_updV_set (by omega) v j)
        by_cases hf : (r0.2.1 q).2.2.2 = true
        · rw [if_pos hf] at hlay
          rcases hfin with hfin | ⟨hi1, hi2⟩
          · unfold am_fin at hfin
            rw [hr0] at hfin
            exact absurd (hf.symm.trans hfin) (by decide)
          · have hcf : m.cls = cf := by
              obtain ⟨_, _, c', _, _, _, -, -, hf', -, -, -, hown2, -⟩ := Cond.laysFinal_spec hlay
              have e1 : c' = cf := by have := hi.symm.trans hf'; simp at this; exact this.1.symm
              have e2 : (r0.2.1 q).1 = am_cn mi.1 := am_finOwn hr0 hk hf hi2
              rw [e2] at hown2
              rw [← e1]; exact Option.some.inj (hown.symm.trans hown2)
            have h6 := u_fits hfc hkC hkind (Or.inr hlay) hi (hty q hk) hn hfit
            exact W.putFinK hx hb hown (hts _ hw) hi hst hcf (hini hi1) (by rw [q2]; exact h6) q1 q3 (by rw [hsl]; exact k2_hasslot (q4 q hk)) rfl rfl hd hkk
        · rw [if_neg hf] at hlay
          have h6 := u_store hfc hkC hkind hlay hi (hty q hk) hn hfit
          exact W.putK hx hb (f := f) ⟨hown, hts _ hw, ⟨_, _, _, hi⟩, hst⟩ (by rw [q2]; exact h6) q1 q3 (by rw [hsl]; exact k2_hasslot (q4 q hk)) rfl rfl hd hkk
      · cases h
    · cases h
  · cases h
theorem am_w_gets (C : am_Cx p R s m args meth c g mi sz0) {pc : Nat} {ls : am_L} {st : List Value} {H : am_H} {r : Nat × am_L × List Value × am_H} {cp : Nat} (hd : decode mi.2.1 pc = .ok (.getstatic cp, 3)) (h : am_step g.2.2.2 mi (.getstatic cp) pc ls st H = some r) (hRm : r.2.2.2.2.1 - sz0 ≤ R.cells ∧ r.2.2.2.2.2 - sl0 ≤ R.slots) (k : am_K p l e R s m args below meth c Q g mi sz0 sl0 r.1 r.2.1 r.2.2.1 r.2.2.2) : am_K p l e R s m args below meth c Q g mi sz0 sl0 pc ls st H := by
  intro lsC Hc locs hl hL hI hS z1 z2
  obtain ⟨hx, hb, hml, hown, hts, hini, hR, hKn, hB⟩ := C
  replace h : am_gets g.2.2.2 mi.1 cp (pc + 3) ls st H = some r := h
  unfold am_gets at h
  split at h
  · rename_i q
    cases h
    obtain ⟨q1, q2⟩ := q
    subst q2
    rw [q1] at hown
    obtain ⟨cf, kf, fi, f, a, cell, h1, h2, h3, h4, h5, h6, h7, h8⟩ := hI.2.2.1
    exact W.gets hx hb hown (hts _ am_wgets) h1 h2 h3 h4 h5 (fun e => by rw [e] at h6; cases h6) h7 rfl hd (k _ _ _ hl hL hI hS z1 z2)
  · cases h
theorem am_w_new (C : am_Cx p R s m args meth c g mi sz0) {pc : Nat} {ls : am_L} {st : List Value} {H : am_H} {r : Nat × am_L × List Value × am_H} {cp : Nat} (hd : decode mi.2.1 pc = .ok (.new cp, 3)) (h : am_step g.2.2.2 mi (.new cp) pc ls st H = some r) (hRm : r.2.2.2.2.1 - sz0 ≤ R.cells ∧ r.2.2.2.2.2 - sl0 ≤ R.slots) (k : am_K p l e R s m args below meth c Q g mi sz0 sl0 r.1 r.2.1 r.2.2.1 r.2.2.2) : am_K p l e R s m args below meth c Q g mi sz0 sl0 pc ls st H := by
  intro lsC Hc locs hl hL hI hS z1 z2
  obtain ⟨hx, hb, hml, hown, hts, hini, hR, hKn, hB⟩ := C
  replace h : am_new mi.1 cp (pc + 3) ls st H = some r := h
  unfold am_new at h
  split at h
  · rename_i ci hlk
    cases h
    obtain ⟨r0, hr0, hw1, hw2, hw3⟩ := am_newP _ _ (am_lk _ _ _ hlk)
    dsimp only at hr0 hw1 hRm
    have hnf := am_nf_e hr0
    obtain ⟨hin, hty, hnm, hcn⟩ := am_clP _ _ hr0
    have hKc := hKn.1.1 ci _ hr0
    refine W.newcK hx hb hown (hts _ hw1) (hts _ hw2) (hts _ hw3) rfl hd (by omega) (by omega) hKc.2.1 rfl fun H1 kC hkC e1 y1 o1 => ?_
    have k := k lsC H1 locs hl hL (hI.push (c' := .inr (ci, am_bl ci)) y1 o1 ⟨hI.2.1, r0, hr0, am_bl_len hr0, (u_born (am_tys ci) hts hin hKc hkC (by rw [← hI.1]; exact e1) hty).to (fun j hj => am_bl_V hr0 hj)⟩) ⟨Nat.le_trans hS.1 (by omega), fun x g1 g2 => (o1 x (Nat.lt_of_lt_of_le g1 hS.1)).trans (hS.2.1 x g1 g2), hS.2.2⟩ (by show sz0 ≤ H.2.1 + 1; omega) (by show sl0 ≤ H.2.2 + am_nf ci; omega)
    dsimp only at k
    rw [show H.2.1 + 1 - sz0 = (H.2.1 - sz0) + 1 by omega, show H.2.2 + am_nf ci - sl0 = (H.2.2 - sl0) + r0.2.2 by omega] at k
    rw [hI.1]
    exact k
  · cases h
theorem am_w_newa (C : am_Cx p R s m args meth c g mi sz0) {pc : Nat} {ls : am_L} {st : List Value} {H : am_H} {r : Nat × am_L × List Value × am_H} {t : ArrayType} (hd : decode mi.2.1 pc = .ok (.newarray t, 2)) (h : am_step g.2.2.2 mi (.newarray t) pc ls st H = some r) (hRm : r.2.2.2.2.1 - sz0 ≤ R.cells ∧ r.2.2.2.2.2 - sl0 ≤ R.slots) (k : am_K p l e R s m args below meth c Q g mi sz0 sl0 r.1 r.2.1 r.2.2.1 r.2.2.2) : am_K p l e R s m args below meth c Q g mi sz0 sl0 pc ls st H := by
  intro lsC Hc locs hl hL hI hS z1 z2
  obtain ⟨hx, hb, hml, hown, hts, hini, hR, hKn, hB⟩ := C
  replace h : (if t = .int then am_newa (pc + 2) ls st H else none) = some r := h
  split at h
  · rename_i ht
    subst ht
    unfold am_newa at h
    split at h
    · rename_i n st0
      split at h
      · rename_i hc
        cases h
        dsimp only at hRm
        refine va_newaK (atype := .int) hx hb (hts _ am_warr) rfl hd rfl (am_nlt hc.1) rfl (by show _ * 4 ≤ _; omega) (by omega) (by omega) rfl fun H1 cA e1 y1 o1 hAr hNm => ?_
        have hA0 : s.vm.findClass ("[" ++ (FieldType.int).toString) = some (g.2.1 0) := (hKn.2.1 0 (by decide)).2
        cases hNm.symm.trans hA0
        have k := k lsC H1 locs hl hL (hI.push (c' := .inl (0, n.toNatClampNeg, .inl (fun _ => 0))) y1 o1 (Or.inr ⟨by decide, hI.2.1, by rw [← hI.1]; exact e1⟩)) ⟨Nat.le_trans hS.1 (by omega), fun x g1 g2 => (o1 x (Nat.lt_of_lt_of_le g1 hS.1)).trans (hS.2.1 x g1 g2), hS.2.2⟩ (by show sz0 ≤ H.2.1 + 1; omega) (by show sl0 ≤ H.2.2 + _; omega)
        dsimp only at k
        rw [show H.2.1 + 1 - sz0 = (H.2.1 - sz0) + 1 by omega, show H.2.2 + n.toNatClampNeg - sl0 = (H.2.2 - sl0) + n.toNatClampNeg by omega] at k
        rw [hI.1]
        exact k
      · cases h
    · cases h
  · cases h
theorem am_w_anew (C : am_Cx p R s m args meth c g mi sz0) {pc : Nat} {ls : am_L} {st : List Value} {H : am_H} {r : Nat × am_L × List Value × am_H} {cp : Nat} (hd : decode mi.2.1 pc = .ok (.anewarray cp, 3)) (h : am_step g.2.2.2 mi (.anewarray cp) pc ls st H = some r) (hRm : r.2.2.2.2.1 - sz0 ≤ R.cells ∧ r.2.2.2.2.2 - sl0 ≤ R.slots) (k : am_K p l e R s m args below meth c Q g mi sz0 sl0 r.1 r.2.1 r.2.2.1 r.2.2.2) : am_K p l e R s m args below meth c Q g mi sz0 sl0 pc ls st H := by
  intro lsC Hc locs hl hL hI hS z1 z2
  obtain ⟨hx, hb, hml, hown, hts, hini, hR, hKn, hB⟩ := C
  replace h : am_anew mi.1 cp (pc + 3) ls st H = some r := h
  unfold am_anew at h
  split at h
  · rename_i n st0 t hlk
    split at h
    · rename_i hc
      cases h
      dsimp only at hRm
      obtain ⟨⟨ht0, ht4⟩, hw⟩ := am_anP _ _ (am_lk _ _ _ hlk)
      dsimp only at ht0 ht4 hw
      have hcmp : am_tyA t = .object (am_cn (am_comp t)) := am_tyA_comp ht0 ht4
      refine W.anew hx hb hown (hts _ hw) (va_AO.use (hKn.2.2.1 t ht0 ht4)) rfl hd rfl (am_nlt hc.1) (by omega) (by omega) (by omega) fun cA kA comp f1 f2 f3 f4 => ?_
      generalize hH1 : Hc.push ({ cls := cA, slots := Array.replicate n.toNatClampNeg .null, vm := .none } : Cell) = H1
      have y1 : H1.size = Hc.size + 1 := by rw [← hH1, Array.size_push]
      have e1 : H1[Hc.size]? = some (arrV cA n.toNatClampNeg (fun _ => .null)) := by rw [← hH1, Array.getElem?_push_size, ← arrV_new]
      have o1 : ∀ q : Nat, q < Hc.size → H1[q]? = Hc[q]? := fun q hq => by rw [← hH1, Array.getElem?_push, if_neg (Nat.ne_of_lt hq)]
      have hA0 := (hKn.2.1 t ht4).2
      rw [hcmp] at hA0
      obtain ⟨kA2, comp2, w1, w2, w3, w4⟩ := hA0
      cases f1.symm.trans w4
      have k := k lsC H1 locs hl hL (hI.push (c' := .inl (t, n.toNatClampNeg, .inr (.inr (.inr (.inr (fun _ => none)))))) y1 o1 (Or.inr ⟨ht4, hI.2.1, by rw [← hI.1]; exact e1⟩)) ⟨Nat.le_trans hS.1 (by omega), fun x g1 g2 => (o1 x (Nat.lt_of_lt_of_le g1 hS.1)).trans (hS.2.1 x g1 g2), hS.2.2⟩ (by show sz0 ≤ H.2.1 + 1; omega) (by show sl0 ≤ H.2.2 + _; omega)
      dsimp only at k
      rw [show H.2.1 + 1 - sz0 = (H.2.1 - sz0) + 1 by omega, show H.2.2 + n.toNatClampNeg - sl0 = (H.2.2 - sl0) + n.toNatClampNeg by omega] at k
      rw [hI.1]
      exact k
    · cases h
  · cases h
theorem am_w_iald (C : am_Cx p R s m args meth c g mi sz0) {pc : Nat} {ls : am_L} {st : List Value} {H : am_H} {r : Nat × am_L × List Value × am_H}  (hd : decode mi.2.1 pc = .ok (.iaload, 1)) (h : am_step g.2.2.2 mi (.iaload) pc ls st H = some r) (hRm : r.2.2.2.2.1 - sz0 ≤ R.cells ∧ r.2.2.2.2.2 - sl0 ≤ R.slots) (k : am_K p l e R s m args below meth c Q g mi sz0 sl0 r.1 r.2.1 r.2.2.1 r.2.2.2) : am_K p l e R s m args below meth c Q g mi sz0 sl0 pc ls st H := by
  intro lsC Hc locs hl hL hI hS z1 z2
  obtain ⟨hx, hb, hml, hown, hts, hini, hR, hKn, hB⟩ := C
  replace h : am_iald (pc + 1) ls st H = some r := h
  unfold am_iald at h
  split at h
  · rename_i i a st0
    split at h
    · rename_i t n f ha
      split at h
      · rename_i hc
        obtain ⟨ht, h0, h1⟩ := hc
        cases h
        obtain ⟨cell, q1, q2, q3, q4, q5, q6⟩ := am_iarr hKn (hI.2.2.2 a _ ha).2 ht
        exact W.iald (v := .int (f i.toNatClampNeg)) hx hb q1 q2 q3 (am_in h0 (by omega)) (q6 _ h1) rfl rfl hd (k _ _ _ hl hL hI hS z1 z2)
      · cases h
    · cases h
  · cases h
theorem am_w_alen (C : am_Cx p R s m args meth c g mi sz0) {pc : Nat} {ls : am_L} {st : List Value} {H : am_H} {r : Nat × am_L × List Value × am_H}  (hd : decode mi.2.1 pc = .ok (.arraylength, 1)) (h : am_step g.2.2.2 mi (.arraylength) pc ls st H = some r) (hRm : r.2.2.2.2.1 - sz0 ≤ R.cells ∧ r.2.2.2.2.2 - sl0 ≤ R.slots) (k : am_K p l e R s m args below meth c Q g mi sz0 sl0 r.1 r.2.1 r.2.2.1 r.2.2.2) : am_K p l e R s m args below meth c Q g mi sz0 sl0 pc ls st H := by
  intro lsC Hc locs hl hL hI hS z1 z2
  obtain ⟨hx, hb, hml, hown, hts, hini, hR, hKn, hB⟩ := C
  replace h : am_alen (pc + 1) ls st H = some r := h
  unfold am_alen at h
  split at h
  · rename_i a st0
    split at h
    · rename_i t n f ha
      split at h
      · rename_i ht
        cases h
        obtain ⟨cell, q1, q2, q3, q4, q5, q6⟩ := am_iarr hKn (hI.2.2.2 a _ ha).2 ht
        exact W.alen (n := Int32.ofNat n) hx hb q1 q2 q5 rfl rfl hd (k _ _ _ hl hL hI hS z1 z2)
      · cases h
    · cases h
  · cases h
theorem am_w_iast (C : am_Cx p R s m args meth c g mi sz0) {pc : Nat} {ls : am_L} {st : List Value} {H : am_H} {r : Nat × am_L × List Value × am_H}  (hd : decode mi.2.1 pc = .ok (.iastore, 1)) (h : am_step g.2.2.2 mi (.iastore) pc ls st H = some r) (hRm : r.2.2.2.2.1 - sz0 ≤ R.cells ∧ r.2.2.2.2.2 - sl0 ≤ R.slots) (k : am_K p l e R s m args below meth c Q g mi sz0 sl0 r.1 r.2.1 r.2.2.1 r.2.2.2) : am_K p l e R s m args below meth c Q g mi sz0 sl0 pc ls st H := by
  intro lsC Hc locs hl hL hI hS z1 z2
  obtain ⟨hx, hb, hml, hown, hts, hini, hR, hKn, hB⟩ := C
  replace h : am_iast (pc + 1) ls st H = some r := h
  unfold am_iast at h
  split at h
  · rename_i x i a st0
    split at h
    · rename_i t n f ha
      split at h
      · rename_i hc
        obtain ⟨ht, h0, h1⟩ := hc
        subst ht
        cases h
        have hlt := (hI.2.2.2 a _ ha).1
        rcases (hI.2.2.2 a _ ha).2 with ⟨w1, -⟩ | ⟨-, hBa, hcell⟩
        · exact absurd w1 (by decide)
        · refine W.iast hx hb hcell ((hKn.2.1 0 (by decide)).1 n (fun j => .int (f j))) (fun q => by cases q) (by show ¬ (i < 0 ∨ (arrV _ _ _).slots.size ≤ _); rw [arrV_size]; exact am_in h0 h1) rfl rfl hd fun H1 e1 y1 oq => ?_
          refine k lsC H1 _ hl hL (hI.put y1 oq hBa hlt (Or.inr ⟨by decide, hBa, ?_⟩)) (hS.put y1 oq hBa) z1 z2
          rw [e1, vp_cell_i, vp_cell_i, arrV_store]
          congr 2
          funext q
          by_cases hq : q = i.toNatClampNeg
          · subst hq
            simp [updV, upd]
          · simp [updV, upd, hq]
      · cases h
    · cases h
  · cases h
theorem am_w_aald (C : am_Cx p R s m args meth c g mi sz0) {pc : Nat} {ls : am_L} {st : List Value} {H : am_H} {r : Nat × am_L × List Value × am_H}  (hd : decode mi.2.1 pc = .ok (.aaload, 1)) (h : am_step g.2.2.2 mi (.aaload) pc ls st H = some r) (hRm : r.2.2.2.2.1 - sz0 ≤ R.cells ∧ r.2.2.2.2.2 - sl0 ≤ R.slots) (k : am_K p l e R s m args below meth c Q g mi sz0 sl0 r.1 r.2.1 r.2.2.1 r.2.2.2) : am_K p l e R s m args below meth c Q g mi sz0 sl0 pc ls st H := by
  intro lsC Hc locs hl hL hI hS z1 z2
  obtain ⟨hx, hb, hml, hown, hts, hini, hR, hKn, hB⟩ := C
  replace h : am_aald (pc + 1) ls st H = some r := h
  unfold am_aald at h
  split at h
  · rename_i i a st0
    split at h
    · rename_i t n f ha
      split at h
      · rename_i hc
        obtain ⟨⟨ht0, ht4⟩, h0, h1⟩ := hc
        cases h
        rcases (hI.2.2.2 a _ ha).2 with ⟨w1, -⟩ | ⟨-, hBa, hcell⟩
        · exact absurd w1 (by omega)
        · have hcmp : am_tyA t = .object (am_cn (am_comp t)) := am_tyA_comp ht0 ht4
          have hAr := (hKn.2.1 t ht4).1 n (fun j => va_rf (f j))
          rw [hcmp] at hAr
          exact W.aald (v := va_rf (f i.toNatClampNeg)) (ty := .object (am_cn (am_comp t))) hx hb hcell hAr rfl (fun q => by cases q) (by show ¬ (i < 0 ∨ (arrV _ _ _).slots.size ≤ _); rw [arrV_size]; exact am_in h0 h1) (by show (arrV _ _ _).slots[_]? = _; rw [arrV_read _ _ h1]) rfl rfl hd (k _ _ _ hl hL hI hS z1 z2)
      · cases h
    · cases h
  · cases h
theorem am_w_aast (C : am_Cx p R s m args meth c g mi sz0) {pc : Nat} {ls : am_L} {st : List Value} {H : am_H} {r : Nat × am_L × List Value × am_H}  (hd : decode mi.2.1 pc = .ok (.aastore, 1)) (h : am_step g.2.2.2 mi (.aastore) pc ls st H = some r) (hRm : r.2.2.2.2.1 - sz0 ≤ R.cells ∧ r.2.2.2.2.2 - sl0 ≤ R.slots) (k : am_K p l e R s m args below meth c Q g mi sz0 sl0 r.1 r.2.1 r.2.2.1 r.2.2.2) : am_K p l e R s m args below meth c Q g mi sz0 sl0 pc ls st H := by
  intro lsC Hc locs hl hL hI hS z1 z2
  obtain ⟨hx, hb, hml, hown, hts, hini, hR, hKn, hB⟩ := C
  replace h : am_aast (pc + 1) ls st H = some r := h
  unfold am_aast at h
  split at h
  · rename_i b i a st0
    split at h
    · rename_i t n f ci vs ha hbq
      split at h
      · rename_i hc
        obtain ⟨⟨⟨ht0, ht4⟩, hci⟩, h0, h1⟩ := hc
        cases h
        have hlt := (hI.2.2.2 a _ ha).1
        rcases (hI.2.2.2 a _ ha).2 with ⟨w1, -⟩ | ⟨-, hBa, hcell⟩
        · exact absurd w1 (by omega)
        · have hcmp : am_tyA t = .object (am_cn (am_comp t)) := am_tyA_comp ht0 ht4
          obtain ⟨-, r1, hr1, hlen, cellV, g1, g2, g3, -⟩ := (hI.2.2.2 b _ hbq).2
          obtain ⟨hin, hty, hnm, hcn⟩ := am_clP _ _ hr1
          have hcls := (hKn.1.1 ci _ hr1).2
          have hRA := (hKn.2.1 t ht4).2
          rw [hcmp, ← hci] at hRA
          obtain ⟨kA, comp, k1, k2, k3, -⟩ := hRA
          have hcomp : comp = g.1.1 ci := by
            have h9 := hcls.1
            rw [hcn] at h9
            exact Option.some.inj (k3.symm.trans h9)
          subst hcomp
          obtain ⟨kC, hkC, -⟩ := hcls.2
          refine W.aast hx hb hcell (fun q h => by cases h) (fun h => by cases h) k1 k2 rfl hkC ⟨am_nlt h0, by show _ < (arrV _ _ _).slots.size; rw [arrV_size]; exact h1⟩ g1 (fun q h => by rw [g3] at h; cases h) (by rw [g2]; exact hkC) (by rw [g2]; exact va_assign hcls) rfl rfl hd fun H1 e1 y1 oq => ?_
          refine k lsC H1 _ hl hL (hI.put y1 oq hBa hlt (Or.inr ⟨ht4, hBa, ?_⟩)) (hS.put y1 oq hBa) z1 z2
          rw [e1, vp_cell_q, vp_cell_q, arrV_store]
          congr 2
          funext q
          by_cases hq : q = i.toNatClampNeg
          · subst hq
            simp [updV, va_up, va_rf]
          · simp [updV, va_up, hq]
      · cases h
    · cases h
  · cases h
theorem am_w_objI (C : am_Cx p R s m args meth c g mi sz0) {pc : Nat} {ls : am_L} {st : List Value} {H : am_H} {r : Nat × am_L × List Value × am_H} {cp : Nat} (hd : decode mi.2.1 pc = .ok (.invokespecial cp, 3)) (h : am_step g.2.2.2 mi (.invokespecial cp) pc ls st H = some r) (hRm : r.2.2.2.2.1 - sz0 ≤ R.cells ∧ r.2.2.2.2.2 - sl0 ≤ R.slots) (k : am_K p l e R s m args below meth c Q g mi sz0 sl0 r.1 r.2.1 r.2.2.1 r.2.2.2) : am_K p l e R s m args below meth c Q g mi sz0 sl0 pc ls st H := by
  intro lsC Hc locs hl hL hI hS z1 z2
  obtain ⟨hx, hb, hml, hown, hts, hini, hR, hKn, hB⟩ := C
  replace h : am_objI mi cp pc ls st H = some r := h
  unfold am_objI at h
  split at h
  · rename_i hlk
    unfold am_obj at h
    split at h
    · rename_i a st0
      split at h
      · rename_i hc
        cases h
        have hw := (am_spP _ _ (am_lk _ _ _ hlk)).1 rfl
        have hsum : (st0.map fun v => v.category).sum + 12 ≤ mi.2.2.2.2.2.2 := hc.2
        exact W.objInit hx hb hown (hts _ hw) (hts _ am_wobj1) (hts _ am_wobj2) (g := F0 m pc lsC (.ref a :: st0)) rfl (hl.1.trans (hL.trans hml.symm)) rfl hd (by rw [hR.1]; exact hc.1) (by show 2 * 0 + _ + 12 ≤ _; rw [hR.2]; omega) (k _ _ _ hl hL hI hS z1 z2)
      · cases h
    · cases h
  · cases h
theorem am_w_stat (C : am_Cx p R s m args meth c g mi sz0) {pc : Nat} {ls : am_L} {st : List Value} {H : am_H} {r : Nat × am_L × List Value × am_H} {cp : Nat} (hd : decode mi.2.1 pc = .ok (.invokestatic cp, 3)) (h : am_step g.2.2.2 mi (.invokestatic cp) pc ls st H = some r) (hRm : r.2.2.2.2.1 - sz0 ≤ R.cells ∧ r.2.2.2.2.2 - sl0 ≤ R.slots) (k : am_K p l e R s m args below meth c Q g mi sz0 sl0 r.1 r.2.1 r.2.2.1 r.2.2.2) : am_K p l e R s m args below meth c Q g mi sz0 sl0 pc ls st H := by
  intro lsC Hc locs hl hL hI hS z1 z2
  obtain ⟨hx, hb, hml, hown, hts, hini, hR, hKn, hB⟩ := C
  replace h : am_special mi cp pc ls st H = some r := h
  unfold am_special at h
  split at h
  · rename_i hlk
    unfold am_copy at h
    split at h
    · rename_i n dp a sp a0 st0
      split at h
      · rename_i t0 n0 f t1 n1 f1 ha0 ha
        split at h
        · rename_i hc
          obtain ⟨⟨ht0, ht1⟩, ⟨p1, p2, p3⟩, ⟨p4, p5⟩, p6, p7⟩ := hc
          subst ht0
          subst ht1
          cases h
          have hw := (am_spP _ _ (am_lk _ _ _ hlk)).2.1 rfl
          have hlt := (hI.2.2.2 a _ ha).1
          rcases (hI.2.2.2 a0 _ ha0).2 with ⟨w1, -⟩ | ⟨-, -, hc0⟩
          · exact absurd w1 (by decide)
          rcases (hI.2.2.2 a _ ha).2 with ⟨w1, -⟩ | ⟨-, hBa, hc1⟩
          · exact absurd w1 (by decide)
          have hsum : (st0.map fun v => v.category).sum + 18 ≤ mi.2.2.2.2.2.2 := p7
          exact am_copyW hx hb (hml.trans (hL.symm.trans hl.1.symm)) hown (hts _ hw) (hts _ am_wcp1) (hts _ am_wcp2) (hts _ am_wcp3) (hKn.2.1 0 (by decide)).1 hc0 hc1 (am_nlt p1) (am_nlt p2) (am_nlt p3) p4 p5 (by rw [hR.1]; exact p6) (by rw [hR.2]; exact hsum) hd (fun H1 locs1 e1 y1 oq hlo => k lsC H1 _ hl hL (hI.put y1 oq hBa hlt (Or.inr ⟨by decide, hBa, e1⟩)) ⟨by rw [y1]; exact hS.1, fun q g1 g2 => (oq q (fun e => g2 (by rw [e]; exact hBa))).trans (hS.2.1 q g1 g2), fun q hq => by
            rcases List.mem_append.mp hq with h | h
            · exact hS.2.2 q h
            · rw [hlo q h]; exact hBa⟩ z1 z2)
        · cases h
      · cases h
    · cases h
  · rename_i hlk
    unfold am_min at h
    split at h
    · rename_i y x st0
      split at h
      · rename_i hc
        cases h
        have hw := (am_spP _ _ (am_lk _ _ _ hlk)).2.2.1 rfl
        have hsum : (st0.map fun v => v.category).sum + 13 ≤ mi.2.2.2.2.2.2 := hc.2
        exact va_mmin hx hb (hml.trans (hL.symm.trans hl.1.symm)) hown (hts _ hw) (hts _ am_wmin1) (hts _ am_wmath) (hts _ am_wmin2) (by rw [hR.1]; exact hc.1) (by rw [hR.2]; exact hsum) hRm.1 hRm.2 hd (k _ _ _ hl hL hI hS z1 z2)
      · cases h
    · cases h
  · rename_i hlk
    unfold am_abs at h
    split at h
    · rename_i x st0
      split at h
      · rename_i hc
        cases h
        have hw := (am_spP _ _ (am_lk _ _ _ hlk)).2.2.2 rfl
        have hsum : (st0.map fun v => v.category).sum + 13 ≤ mi.2.2.2.2.2.2 := hc.2
        exact va_mabs hx hb (hml.trans (hL.symm.trans hl.1.symm)) hown (hts _ hw) (hts _ am_wabs1) (hts _ am_wmath) (hts _ am_wabs2) (by rw [hR.1]; exact hc.1) (by rw [hR.2]; exact hsum) hRm.1 hRm.2 hd (k _ _ _ hl hL hI hS z1 z2)
      · cases h
    · cases h
  · cases h
end AMH
