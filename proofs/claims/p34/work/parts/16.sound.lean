section AMZ
variable {l : Launch} {g : am_g}
/-- what the soundness says at a fuel -/
def am_SND (l : Launch) (g : am_g) (n : Nat) : Prop := ∀ (mi : am_I) (pc : Nat) (ls : am_L) (st : List Value) (H : am_H) (r : Option Value) (H' : am_H), am_exec g.2.2.2 n mi pc ls st H = some (r, H') → ∀ (p : Program) (e : Env) (R : Room) (s : State) (m : MethodId) (args : Array Value) (below : List Frame) (meth : Method) (c : Code) (Q : State → Prop) (sz0 sl0 : Nat), am_Cx p R s m args meth c g mi sz0 → (H'.2.1 - sz0 ≤ R.cells ∧ H'.2.2 - sl0 ≤ R.slots) →
  (∀ (i : Instr) (pc' : Nat) (ls' : am_L) (st' : List Value), decode mi.2.1 pc' = .ok (i, 1) → am_ret mi i st' = some r → am_K p l e R s m args below meth c Q g mi sz0 sl0 pc' ls' st' H') → am_K p l e R s m args below meth c Q g mi sz0 sl0 pc ls st H
def am_rm (mj : am_I) (H H' : am_H) : Room := { frames := mj.2.2.2.2.2.1, cells := H'.2.1 - H.2.1, slots := H'.2.2 - H.2.2, locals := mj.2.2.2.2.2.2 }
def am_ws (mj : am_I) : List Jvm.Cond := Jvm.Cond.code mj.2.2.1 mj.2.1 mj.2.2.2.1 mj.2.2.2.2.1 :: wsL_law
theorem am_endK {p : Program} {e : Env} {R : Room} {s : State} {m : MethodId} {args : Array Value} {below : List Frame} {meth : Method} {c : Code} {mi : am_I} {sz0 sl0 : Nat} {r : Option Value} {H' : am_H} (hx : p.tables.exec = Jvm.exec) (hb : c.code = mi.2.1) (hr : meth.sig.returnType = mi.2.2.2.2.1) (hlocks : meth.locks = false) {i : Instr} {pc : Nat} {ls : am_L} {st : List Value} (hd : decode mi.2.1 pc = .ok (i, 1)) (h : am_ret mi i st = some r) :
    am_K p l e R s m args below meth c (MQ below (am_Qc g r H') args s (H'.2.1 - sz0) (H'.2.2 - sl0) (fun q => g.2.2.1 ≤ q)) g mi sz0 sl0 pc ls st H' := by
  intro lsC Hc locs hl hL hI hS z1 z2
  have hq : ∀ t : State, t.heap = Hc → s.WarmedH t.vm → am_Qc g r H' args s (.returned r) t := fun t ht hW => ⟨rfl, by rw [ht]; exact hI.moved hW.alike, hS.F ht⟩
  unfold am_ret at h
  split at h
  · split at h
    · rename_i hty
      cases h
      exact W.iret hx hb (hr.trans hty) hq hS.2.2 hd hlocks
    · rename_i hty
      split at h
      · rename_i hv
        cases h
        exact W.zret hx hb (hr.trans hty) (by rcases hv with rfl | rfl <;> rfl) hq hS.2.2 hd hlocks
      · cases h
    · cases h
  · split at h
    · rename_i hty
      cases h
      exact W.lret hx hb (hr.trans hty) hq hS.2.2 hd hlocks
    · cases h
  · split at h
    · rename_i hty
      cases h
      exact W.fret hx hb (hr.trans hty) hq hS.2.2 hd hlocks
    · cases h
  · split at h
    · rename_i nm hty
      cases h
      exact W.aret hx hb (hr.trans hty) (Or.inl ⟨_, rfl⟩) (Or.inr ⟨_, rfl⟩) hq hS.2.2 hd hlocks
    · cases h
  · split at h
    · rename_i hty
      cases h
      exact W.vret hx hb (hr.trans hty) hq hS.2.2 hd hlocks
    · cases h
  · cases h
theorem am_met {n : Nat} (ih : am_SND l g n) {mj : am_I} (hO : am_MO mj) {As : List Value} {H : am_H} {r : Option Value} {H' : am_H} (hf : (am_flat As).length ≤ mj.2.2.2.1) (h : am_exec g.2.2.2 n mj 0 (am_entry As mj.2.2.2.1) [] H = some (r, H')) : Met l mj.2.2.1 (am_ws mj) (am_rm mj H H') (am_Pc g As H) (am_Qc g r H') (H'.2.1 - H.2.1) (H'.2.2 - H.2.2) (fun q => g.2.2.1 ≤ q) := by
  refine am_ofW (cc := mj.2.1) (maxL := mj.2.2.2.1) (ret := mj.2.2.2.2.1) hO.2.1 rfl ?_
  intro p e s m args below meth c s₁ B hml hv
  obtain ⟨rfl, hI, hKn⟩ := hv
  have hts : ∀ w ∈ am_ws mj, w.before As.toArray s = true := atoms_spec (ws := am_ws mj) B.pre
  have hown : s.vm.findClass (am_cn mj.1) = some m.cls := by
    rw [hO.2.2.2.2]
    exact findClass_of_methodNamed B.named
  rw [lg_entry_eq]
  have hm := am_mono _ _ _ _ _ _ _ _ _ h
  have k := ih mj 0 _ [] H r H' h p e (am_rm mj H H') s m As.toArray below meth c (MQ below (am_Qc g r H') As.toArray s (H'.2.1 - H.2.1) (H'.2.2 - H.2.2) (fun q => g.2.2.1 ≤ q)) H.2.1 H.2.2
    ⟨B.exec, B.bytes, hml, hown, fun w hw => hts w (List.mem_cons_of_mem _ hw), fun hi => by
      have h1 := (name_of_methodNamed B.named B.method).1
      rw [h1]
      unfold am_ini at hi
      exact beq_iff_eq.mp hi, ⟨rfl, rfl⟩, hKn, by rw [hI.1]; exact hI.2.1⟩ ⟨Nat.le_refl _, Nat.le_refl _⟩
    (fun i pc' ls' st' hd hret => am_endK B.exec B.bytes B.returns B.notSynchronized hd hret)
  have k := k _ s.heap [] (am_entry_has hf) (am_entry_len hf) hI va_S.rf (Nat.le_refl _) (Nat.le_refl _)
  rw [Nat.sub_self, Nat.sub_self] at k
  exact k
theorem am_goodIn (mj : am_I) (hO : am_MO mj) : GoodIn wsL_law (am_ws mj) := by
  intro w hw
  rcases List.mem_cons.mp hw with h | h
  · subst h
    exact ⟨hO.1, Or.inl rfl⟩
  · exact ⟨h, am_good w h⟩
theorem am_callS_inv {mi mj mk : am_I} {k n : Nat} {st As rest : List Value} {H : am_H} (h : am_callS mi k n mj st H = some (mk, As, rest)) : mk = mj ∧ (mj.2.2.2.2.2.1 + 1 ≤ mi.2.2.2.2.2.1 ∧ 8 + (mj.2.2.2.1 + 11) + mj.2.2.2.2.2.2 ≤ mi.2.2.2.2.2.2) ∧ am_cat rest ≤ 8 ∧
    (((k = 1 ∨ k = 4) ∧ As.length = n ∧ st = As.reverse ++ rest) ∨ (¬ (k = 1 ∨ k = 4) ∧ ∃ (b : Nat) (Bs : List Value), As = .ref b :: Bs ∧ Bs.length = n ∧ st = Bs.reverse ++ .ref b :: rest ∧ (k = 0 → ∃ ci fs, H.1 b = some (.inr (ci, fs)) ∧ ci = mj.1))) := by
  unfold am_callS at h
  dsimp only at h
  split at h
  · rename_i q
    obtain ⟨q1, q2, q3⟩ := q
    have e : st = ((st.take n).reverse).reverse ++ st.drop n := by rw [List.reverse_reverse, List.take_append_drop]
    split at h
    · rename_i hk
      split at h
      · cases h
        exact ⟨rfl, ⟨q2, q3⟩, by assumption, Or.inl ⟨hk, q1, e⟩⟩
      · cases h
    · rename_i hk
      split at h
      · rename_i b rest' hdrop
        rw [hdrop] at e
        split at h
        · rename_i hc
          split at h
          · rename_i hk0
            split at h
            · rename_i ci fs hb
              split at h
              · rename_i hci
                cases h
                exact ⟨rfl, ⟨q2, q3⟩, hc, Or.inr ⟨hk, b, _, rfl, q1, e, fun _ => ⟨ci, fs, hb, hci⟩⟩⟩
              · cases h
            · cases h
          · rename_i hk0
            cases h
            exact ⟨rfl, ⟨q2, q3⟩, hc, Or.inr ⟨hk, b, _, rfl, q1, e, fun z => absurd z hk0⟩⟩
        · cases h
      · cases h
  · cases h
theorem am_lenI {i : Instr} {n0 : Nat} {cp : Nat} (hi : i = .invokevirtual cp ∨ i = .invokestatic cp ∨ i = .invokespecial cp) (hn : am_lenOk i n0 = true) : n0 = 3 := by
  rcases hi with rfl | rfl | rfl <;> simpa [am_lenOk] using hn
set_option maxHeartbeats 4000000 in
theorem am_callW {n : Nat} (ih : am_SND l g n) {p : Program} {e : Env} {R : Room} {s : State} {m : MethodId} {args : Array Value} {below : List Frame} {meth : Method} {c : Code} {Q : State → Prop} {mi : am_I} {sz0 sl0 : Nat} (C : am_Cx p R s m args meth c g mi sz0) {i : Instr} {n0 pc : Nat} {ls : am_L} {st : List Value} {H : am_H} (hd : decode mi.2.1 pc = .ok (i, n0)) (hn : am_lenOk i n0 = true) {mj : am_I} {As rest : List Value} (hc : am_call mi i st H = some (mj, As, rest)) (hf : (am_flat As).length ≤ mj.2.2.2.1) {r1 : Option Value} {H1 : am_H} (h1 : am_exec g.2.2.2 n mj 0 (am_entry As mj.2.2.2.1) [] H = some (r1, H1)) (hRm : H1.2.1 - sz0 ≤ R.cells ∧ H1.2.2 - sl0 ≤ R.slots)
    (k : am_K p l e R s m args below meth c Q g mi sz0 sl0 (pc + 3) ls (r1.toList ++ rest) H1) : am_K p l e R s m args below meth c Q g mi sz0 sl0 pc ls st H := by
  intro lsC Hc locs hl hL hI hS z1 z2
  obtain ⟨hx, hb, hml, hown, hts, hini, hR, hKn, hB⟩ := C
  have hm := am_mono _ _ _ _ _ _ _ _ _ h1
  have kk : ∀ (Hc1 : Heap) (locs1 : List Loc), am_Inv g s H1 Hc1 → va_S (fun q => g.2.2.1 ≤ q) s.heap Hc1 locs1 → W p l e R s m args below meth c Hc1 locs1 ((H.2.1 - sz0) + (H1.2.1 - H.2.1)) ((H.2.2 - sl0) + (H1.2.2 - H.2.2)) Q (F0 m (pc + 3) lsC (r1.toList ++ rest)) := by
    intro Hc1 locs1 hI1 hS1
    have k := k lsC Hc1 locs1 hl hL hI1 hS1 (by omega) (by omega)
    rw [show (H.2.1 - sz0) + (H1.2.1 - H.2.1) = H1.2.1 - sz0 by omega, show (H.2.2 - sl0) + (H1.2.2 - H.2.2) = H1.2.2 - sl0 by omega]
    exact k
  have hfit : (H.2.1 - sz0) + (H1.2.1 - H.2.1) ≤ R.cells ∧ (H.2.2 - sl0) + (H1.2.2 - H.2.2) ≤ R.slots := ⟨by omega, by omega⟩
  have hsize : lsC.size = c.maxLocals := hl.1.trans (hL.trans hml.symm)
  have hPU : ∀ U : State, U.heap = Hc → s.WarmedH U.vm → am_Pc g As H As.toArray U := fun U hU hW => ⟨rfl, by rw [hU]; exact hI.moved hW.alike, hKn.moved hW⟩
  unfold am_call at hc
  split at hc
  · -- invokevirtual
    rename_i cp
    have e3 := am_lenI (cp := cp) (Or.inl rfl) hn
    subst e3
    split at hc
    · rename_i kd nn mq hlk
      split at hc
      · rename_i hk0
        subst hk0
        obtain ⟨e1, hroom, hcat, hcase⟩ := am_callS_inv hc
        subst e1
        obtain ⟨hO, hw1, -, hw3, hw4, -, -, hn8⟩ := am_callP _ _ (am_lk _ _ _ hlk)
        dsimp only at hO hw1 hw3 hw4 hn8
        rcases hcase with ⟨hz, -⟩ | ⟨-, b, Bs, hAs, hBs, hst, hrecv⟩
        · rcases hz with hz | hz <;> cases hz
        · obtain ⟨ci, fs, hHb, hci⟩ := hrecv rfl
          subst hAs
          subst hst
          obtain ⟨-, r0, hr0, hlen, hob⟩ := (hI.2.2.2 b _ hHb).2
          have hcl := (am_clP _ _ hr0).2.2.2
          have hM := am_met ih hO hf h1
          have hrc := va_recv (q0 := 0) hKn.1 (am_one hr0 hob) hr0 rfl
          rw [hcl, hci, hO.2.2.2.2] at hrc
          exact am_callK (va_runV (As := Bs) (rest := rest) ⟨hx, hb, hml, hown, hts⟩ hM ⟨callB_of nn hts (am_goodIn _ hO) rfl rfl rfl (hts _ hO.2.2.2.1) (hts _ (hw1 (by decide))) ⟨hO.2.2.1.1, hO.2.2.1.2, hn8⟩ ⟨by rw [hR.1]; exact hroom.1, by rw [hR.2]; exact hroom.2⟩, hts _ (hw3 (by decide)), hts _ (hw4 rfl)⟩ ⟨am_blind g _ H, hrc, hPU⟩ rfl hBs (hsize.trans hml) rfl (lv_room hcat) hd hfit) hS kk
      · cases hc
    · cases hc
  · -- invokestatic
    rename_i cp
    have e3 := am_lenI (cp := cp) (Or.inr (Or.inl rfl)) hn
    subst e3
    split at hc
    · rename_i kd nn mq hlk
      split at hc
      · rename_i hk0
        obtain ⟨e1, hroom, hcat, hcase⟩ := am_callS_inv hc
        subst e1
        obtain ⟨hO, hw1, hw2, -, -, hw5, -, hn8⟩ := am_callP _ _ (am_lk _ _ _ hlk)
        dsimp only at hO hw1 hw2 hw5 hn8
        rcases hcase with ⟨-, hAn, hst⟩ | ⟨hz, -⟩
        · subst hst
          have hM := am_met ih hO hf h1
          rcases hk0 with hk | hk
          · subst hk
            exact am_callK (va_runS (As := As) (rest := rest) ⟨hx, hb, hml, hown, hts⟩ hM ⟨callB_of nn hts (am_goodIn _ hO) rfl rfl rfl (hts _ hO.2.2.2.1) (hts _ (hw1 (by decide))) ⟨hO.2.2.1.1, hO.2.2.1.2, hn8⟩ ⟨by rw [hR.1]; exact hroom.1, by rw [hR.2]; exact hroom.2⟩, hts _ (hw5 (Or.inl rfl))⟩ ⟨am_blind g _ H, hPU⟩ rfl hAn (hsize.trans hml) rfl (lv_room hcat) hd hfit) hS kk
          · subst hk
            exact am_callK (va_runSN (As := As) (rest := rest) ⟨hx, hb, hml, hown, hts⟩ hM ⟨va_cnB nn hts (am_goodIn _ hO) rfl rfl rfl (hKn.2.2.2 _ (hw2 (by decide))) (hts _ hO.2.2.2.1) ⟨hO.2.2.1.1, hO.2.2.1.2, hn8⟩ ⟨by rw [hR.1]; exact hroom.1, by rw [hR.2]; exact hroom.2⟩, hts _ (hw5 (Or.inr rfl)), trivial⟩ ⟨am_blind g _ H, hPU⟩ rfl hAn (hsize.trans hml) rfl (lv_room hcat) hd hfit) hS kk
        · exact absurd hk0 hz
      · cases hc
    · cases hc
  · -- invokespecial
    rename_i cp
    have e3 := am_lenI (cp := cp) (Or.inr (Or.inr rfl)) hn
    subst e3
    split at hc
    · rename_i kd nn mq hlk
      split at hc
      · rename_i hk0
        obtain ⟨e1, hroom, hcat, hcase⟩ := am_callS_inv hc
        subst e1
        obtain ⟨hO, hw1, hw2, hw3, -, -, hw6, hn8⟩ := am_callP _ _ (am_lk _ _ _ hlk)
        dsimp only at hO hw1 hw2 hw3 hw6 hn8
        rcases hcase with ⟨hz, -⟩ | ⟨-, b, Bs, hAs, hBs, hst, -⟩
        · rcases hz with hz | hz <;> rcases hk0 with hk | hk <;> omega
        · subst hAs
          subst hst
          have hM := am_met ih hO hf h1
          obtain ⟨hname, hret⟩ := hw6 hk0
          have hG := am_goodIn _ hO
          have hW8 : am_ws mj = Jvm.Cond.code mj.2.2.1 mj.2.1 mj.2.2.2.1 none :: wsL_law := by unfold am_ws; rw [hret]
          rcases hk0 with hk | hk
          · subst hk
            exact am_callK (va_runI (As := Bs) (rest := rest) ⟨hx, hb, hml, hown, hts⟩ hM ⟨callB_of nn hts hG hW8 rfl rfl (hts _ hO.2.2.2.1) (hts _ (hw1 (by decide))) ⟨hO.2.2.1.1, hO.2.2.1.2, hn8⟩ ⟨by rw [hR.1]; exact hroom.1, by rw [hR.2]; exact hroom.2⟩, hname, hts _ (hw3 (by decide))⟩ ⟨am_blind g _ H, hPU⟩ rfl hBs (hsize.trans hml) rfl (lv_room hcat) hd hfit) hS kk
          · subst hk
            exact am_callK (va_runIN (As := Bs) (rest := rest) ⟨hx, hb, hml, hown, hts⟩ hM ⟨va_cnB nn hts hG hW8 rfl rfl (hKn.2.2.2 _ (hw2 (by decide))) (hts _ hO.2.2.2.1) ⟨hO.2.2.1.1, hO.2.2.1.2, hn8⟩ ⟨by rw [hR.1]; exact hroom.1, by rw [hR.2]; exact hroom.2⟩, hname, hts _ (hw3 (by decide))⟩ ⟨am_blind g _ H, hPU⟩ rfl hBs (hsize.trans hml) rfl (lv_room hcat) hd hfit) hS kk
      · cases hc
    · cases hc
  · cases hc
theorem am_snd (l : Launch) (g : am_g) : ∀ n : Nat, am_SND l g n
  | 0 => by
    intro mi pc ls st H r H' h
    simp [am_exec] at h
  | n + 1 => by
    intro mi pc ls st H r H' h p e R s m args below meth c Q sz0 sl0 C hRm kr
    have ih := am_snd l g n
    unfold am_exec at h
    split at h
    · cases h
    · rename_i i n0 hd
      split at h
      · rename_i hn
        split at h
        · rename_i r0 hret
          cases h
          have e1 := am_ret_len hret hn
          subst e1
          exact kr i pc ls st hd hret
        · split at h
          · rename_i mj As rest hc
            split at h
            · rename_i hf
              split at h
              · rename_i r1 H1 h1
                have hm := am_mono _ _ _ _ _ _ _ _ _ h
                exact am_callW ih C hd hn hc hf h1 ⟨by omega, by omega⟩ (ih mi _ _ _ _ _ _ h p e R s m args below meth c Q sz0 sl0 C hRm kr)
              · cases h
            · cases h
          · split at h
            · rename_i pc' ls' st' H1 hs
              split at h
              · have hm := am_mono _ _ _ _ _ _ _ _ _ h
                exact am_step_snd C hd hn hs ⟨by dsimp only; omega, by dsimp only; omega⟩ (ih mi _ _ _ _ _ _ h p e R s m args below meth c Q sz0 sl0 C hRm kr)
              · cases h
            · cases h
      · cases h
end AMZ
