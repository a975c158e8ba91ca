section AMX
variable {p : Program} {l : Launch} {e : Env} {R : Room} {s : State} {m : MethodId} {args : Array Value} {below : List Frame} {meth : Method} {c : Code} {Q : State → Prop} {g : am_g} {mi : am_I} {sz0 sl0 : Nat}
set_option maxHeartbeats 4000000 in
theorem am_step_snd (C : am_Cx p R s m args meth c g mi sz0) {i : Instr} {n0 pc : Nat} {ls : am_L} {st : List Value} {H : am_H} {r : Nat × am_L × List Value × am_H} (hd : decode mi.2.1 pc = .ok (i, n0)) (hn : am_lenOk i n0 = true) (h : am_step g.2.2.2 mi i pc ls st H = some r) (hRm : r.2.2.2.2.1 - sz0 ≤ R.cells ∧ r.2.2.2.2.2 - sl0 ≤ R.slots) (k : am_K p l e R s m args below meth c Q g mi sz0 sl0 r.1 r.2.1 r.2.2.1 r.2.2.2) : am_K p l e R s m args below meth c Q g mi sz0 sl0 pc ls st H := by
  cases i with
  | iconst v => cases (show n0 = 1 by simpa [am_lenOk] using hn); exact am_w_iconst C hd h k
  | bipush v => cases (show n0 = 2 by simpa [am_lenOk] using hn); exact am_w_bipush C hd h k
  | sipush v => cases (show n0 = 3 by simpa [am_lenOk] using hn); exact am_w_sipush C hd h k
  | aconst_null => cases (show n0 = 1 by simpa [am_lenOk] using hn); exact am_w_null C hd h k
  | ldc cp => cases (show n0 = 2 by simpa [am_lenOk] using hn); exact am_w_ldc C hd h k
  | ldc2_w cp => cases (show n0 = 3 by simpa [am_lenOk] using hn); exact am_w_ldc2 C hd h k
  | fconst f => cases (show n0 = 1 by simpa [am_lenOk] using hn); exact am_w_fconst C hd h k
  | iload_n i => cases (show n0 = 1 by simpa [am_lenOk] using hn); exact am_w_iload_n C hd h k
  | lload_n i => cases (show n0 = 1 by simpa [am_lenOk] using hn); exact am_w_lload_n C hd h k
  | iload i => cases (show n0 = 2 by simpa [am_lenOk] using hn); exact am_w_iload C hd h k
  | lload i => cases (show n0 = 2 by simpa [am_lenOk] using hn); exact am_w_lload C hd h k
  | dload i => cases (show n0 = 2 by simpa [am_lenOk] using hn); exact am_w_dload C hd h k
  | aload_n i => cases (show n0 = 1 by simpa [am_lenOk] using hn); exact am_w_aload_n C hd h k
  | aload i => cases (show n0 = 2 by simpa [am_lenOk] using hn); exact am_w_aload C hd h k
  | istore_n i => cases (show n0 = 1 by simpa [am_lenOk] using hn); exact am_w_istore_n C hd h k
  | istore i => cases (show n0 = 2 by simpa [am_lenOk] using hn); exact am_w_istore C hd h k
  | lstore_n i => cases (show n0 = 1 by simpa [am_lenOk] using hn); exact am_w_lstore_n C hd h k
  | lstore i => cases (show n0 = 2 by simpa [am_lenOk] using hn); exact am_w_lstore C hd h k
  | dstore i => cases (show n0 = 2 by simpa [am_lenOk] using hn); exact am_w_dstore C hd h k
  | astore_n i => cases (show n0 = 1 by simpa [am_lenOk] using hn); exact am_w_astore_n C hd h k
  | astore i => cases (show n0 = 2 by simpa [am_lenOk] using hn); exact am_w_astore C hd h k
  | iinc i v => cases (show n0 = 3 by simpa [am_lenOk] using hn); exact am_w_iinc C hd h k
  | iadd => cases (show n0 = 1 by simpa [am_lenOk] using hn); exact am_w_iadd C hd h k
  | isub => cases (show n0 = 1 by simpa [am_lenOk] using hn); exact am_w_isub C hd h k
  | imul => cases (show n0 = 1 by simpa [am_lenOk] using hn); exact am_w_imul C hd h k
  | iand => cases (show n0 = 1 by simpa [am_lenOk] using hn); exact am_w_iand C hd h k
  | ior => cases (show n0 = 1 by simpa [am_lenOk] using hn); exact am_w_ior C hd h k
  | ixor => cases (show n0 = 1 by simpa [am_lenOk] using hn); exact am_w_ixor C hd h k
  | ishl => cases (show n0 = 1 by simpa [am_lenOk] using hn); exact am_w_ishl C hd h k
  | ishr => cases (show n0 = 1 by simpa [am_lenOk] using hn); exact am_w_ishr C hd h k
  | idiv => cases (show n0 = 1 by simpa [am_lenOk] using hn); exact am_w_idiv C hd h k
  | irem => cases (show n0 = 1 by simpa [am_lenOk] using hn); exact am_w_irem C hd h k
  | ladd => cases (show n0 = 1 by simpa [am_lenOk] using hn); exact am_w_ladd C hd h k
  | lmul => cases (show n0 = 1 by simpa [am_lenOk] using hn); exact am_w_lmul C hd h k
  | lcmp => cases (show n0 = 1 by simpa [am_lenOk] using hn); exact am_w_lcmp C hd h k
  | ldiv => cases (show n0 = 1 by simpa [am_lenOk] using hn); exact am_w_ldiv C hd h k
  | ineg => cases (show n0 = 1 by simpa [am_lenOk] using hn); exact am_w_ineg C hd h k
  | i2l => cases (show n0 = 1 by simpa [am_lenOk] using hn); exact am_w_i2l C hd h k
  | l2i => cases (show n0 = 1 by simpa [am_lenOk] using hn); exact am_w_l2i C hd h k
  | l2f => cases (show n0 = 1 by simpa [am_lenOk] using hn); exact am_w_l2f C hd h k
  | i2f => cases (show n0 = 1 by simpa [am_lenOk] using hn); exact am_w_i2f C hd h k
  | f2d => cases (show n0 = 1 by simpa [am_lenOk] using hn); exact am_w_f2d C hd h k
  | fdiv => cases (show n0 = 1 by simpa [am_lenOk] using hn); exact am_w_fdiv C hd h k
  | dcmp op => cases (show n0 = 1 by simpa [am_lenOk] using hn); exact am_w_dcmp C hd h k
  | fcmp op => cases (show n0 = 1 by simpa [am_lenOk] using hn); exact am_w_fcmp C hd h k
  | dup => cases (show n0 = 1 by simpa [am_lenOk] using hn); exact am_w_dup C hd h k
  | dup2 => cases (show n0 = 1 by simpa [am_lenOk] using hn); exact am_w_dup2 C hd h k
  | ifCond q off => cases (show n0 = 3 by simpa [am_lenOk] using hn); exact am_w_ifCond C hd h k
  | if_icmp q off => cases (show n0 = 3 by simpa [am_lenOk] using hn); exact am_w_icmp C hd h k
  | ifnonnull off => cases (show n0 = 3 by simpa [am_lenOk] using hn); exact am_w_ifnn C hd h k
  | goto off => cases (show n0 = 3 by simpa [am_lenOk] using hn); exact am_w_goto C hd h k
  | getfield cp => cases (show n0 = 3 by simpa [am_lenOk] using hn); exact am_w_getf C hd h hRm k
  | putfield cp => cases (show n0 = 3 by simpa [am_lenOk] using hn); exact am_w_putf C hd h hRm k
  | getstatic cp => cases (show n0 = 3 by simpa [am_lenOk] using hn); exact am_w_gets C hd h hRm k
  | new cp => cases (show n0 = 3 by simpa [am_lenOk] using hn); exact am_w_new C hd h hRm k
  | newarray t => cases (show n0 = 2 by simpa [am_lenOk] using hn); exact am_w_newa C hd h hRm k
  | anewarray cp => cases (show n0 = 3 by simpa [am_lenOk] using hn); exact am_w_anew C hd h hRm k
  | iaload => cases (show n0 = 1 by simpa [am_lenOk] using hn); exact am_w_iald C hd h hRm k
  | arraylength => cases (show n0 = 1 by simpa [am_lenOk] using hn); exact am_w_alen C hd h hRm k
  | iastore => cases (show n0 = 1 by simpa [am_lenOk] using hn); exact am_w_iast C hd h hRm k
  | aaload => cases (show n0 = 1 by simpa [am_lenOk] using hn); exact am_w_aald C hd h hRm k
  | aastore => cases (show n0 = 1 by simpa [am_lenOk] using hn); exact am_w_aast C hd h hRm k
  | invokespecial cp => cases (show n0 = 3 by simpa [am_lenOk] using hn); exact am_w_objI C hd h hRm k
  | invokestatic cp => cases (show n0 = 3 by simpa [am_lenOk] using hn); exact am_w_stat C hd h hRm k
  | tableswitch d lo hi offs => exact am_w_tsw C hd h k
  | lookupswitch d ps => exact am_w_lsw C hd h k
  | _ => exact absurd h (by simp [am_step])
theorem am_mono (sA : Nat) : ∀ (n : Nat) (mi : am_I) (pc : Nat) (ls : am_L) (st : List Value) (H : am_H) (r : Option Value) (H' : am_H), am_exec sA n mi pc ls st H = some (r, H') → H.2.1 ≤ H'.2.1 ∧ H.2.2 ≤ H'.2.2
  | 0, _, _, _, _, _, _, _, h => by simp [am_exec] at h
  | n + 1, mi, pc, ls, st, H, r, H', h => by
    unfold am_exec at h
    split at h
    · cases h
    · split at h
      · split at h
        · cases h
          exact ⟨Nat.le_refl _, Nat.le_refl _⟩
        · split at h
          · split at h
            · split at h
              · rename_i r1 H1 h1
                have a := am_mono sA n _ _ _ _ _ _ _ h1
                have b := am_mono sA n _ _ _ _ _ _ _ h
                exact ⟨Nat.le_trans a.1 b.1, Nat.le_trans a.2 b.2⟩
              · cases h
            · cases h
          · split at h
            · split at h
              · rename_i q
                have b := am_mono sA n _ _ _ _ _ _ _ h
                exact ⟨Nat.le_trans q.1 b.1, Nat.le_trans q.2 b.2⟩
              · cases h
            · cases h
      · cases h
theorem am_ret_len {i : Instr} {n0 : Nat} {st : List Value} {r : Option Value} (h : am_ret mi i st = some r) (hn : am_lenOk i n0 = true) : n0 = 1 := by
  unfold am_ret at h
  split at h <;> first | (simpa [am_lenOk] using hn) | cases h
theorem am_ofW {y : MethodName} {ws ws' : List Jvm.Cond} {rm : Room} {Pc : Array Value → State → Prop} {Qc : Array Value → State → Outcome → State → Prop} {mc ms : Nat} {free : Addr → Prop} {cc : ByteArray} {maxL : Nat} {ret : Option FieldType}
    (hy : plainFor y = true) (hw : ws = Jvm.Cond.code y cc maxL ret :: ws')
    (body : ∀ p e s m args below meth c s₁, BodyLoose p l y (headSpec ws rm) cc maxL ret e s m args below meth c s₁ → c.maxLocals = maxL → Pc args s →
      W p l e (headSpec ws rm).room s m args below meth c s.heap [] 0 0 (MQ below Qc args s mc ms free) (entryFrame m args maxL)) : Met l y ws rm Pc Qc mc ms free := by
  refine MetFree.of_bodySF (code := cc) (maxLocals := maxL) (ret := ret) hy ?_ ?_
  · intro args s m h hn
    obtain ⟨meth, c, h1, h2, h3, h4, h5, h6, -, -⟩ := Cond.code_spec hn (atoms_spec (ws := ws) h _ (by rw [hw]; exact List.mem_cons_self))
    exact ⟨meth, c, h1, h2, h3, h4, h5, h6⟩
  · intro p e s m args below meth c s₁ B hml hP _
    have hh0 : s₁.heap = s.heap := by rw [B.state]; rfl
    obtain ⟨t, a1, o, b1, b2, b3⟩ := body p e s m args below meth c s₁ B hml hP s₁ hh0 (Stand.of_body B)
    exact ⟨t, o, a1, b1, b2, ⟨b3.1, b3.2⟩⟩
def am_Pc (g : am_g) (As : List Value) (H : am_H) : Array Value → State → Prop := va_Pc As (fun U => am_Inv g U H U.heap ∧ am_Kn g U)
def am_Qc (g : am_g) (r : Option Value) (H' : am_H) : Array Value → State → Outcome → State → Prop := fun _ st o t => o = .returned r ∧ am_Inv g t H' t.heap ∧ va_F (fun q => g.2.2.1 ≤ q) st t
theorem am_blind (g : am_g) (As : List Value) (H : am_H) : FrameBlind (am_Pc g As H) := by
  rintro a U fr mk ⟨h1, h2, h3⟩
  exact ⟨h1, am_Inv.moved (u := U) (U := U.calling fr mk a) (Vm.Alike.refl U.vm) h2, am_Kn.same (u := U) (U := U.calling fr mk a) rfl h3⟩
theorem am_callK {rest st0 : List Value} {Hc : Heap} {locs : List Loc} {cells slots mc ms pc : Nat} {lsC : Array Slot} {r : Option Value} {H1 : am_H} {a : Array Value} (hr : va_Run p l e R s m args below meth c Hc locs cells slots mc ms (F0 m pc lsC st0) rest (am_Qc g r H1 a) (fun q => g.2.2.1 ≤ q)) (hS : va_S (fun q => g.2.2.1 ≤ q) s.heap Hc locs)
    (kk : ∀ (Hc1 : Heap) (locs1 : List Loc), am_Inv g s H1 Hc1 → va_S (fun q => g.2.2.1 ≤ q) s.heap Hc1 locs1 → W p l e R s m args below meth c Hc1 locs1 (cells + mc) (slots + ms) Q (F0 m (pc + 3) lsC (r.toList ++ rest))) : W p l e R s m args below meth c Hc locs cells slots Q (F0 m pc lsC st0) := by
  intro T hT X
  obtain ⟨v, st₀, t, T', L, h0, X', hL, e1, e2, ⟨hv, hI, hz, hk⟩, st⟩ := hr T hT X
  cases hv
  rw [h0] at hz hk
  have hal : s.vm.Alike t.vm := by rw [← e2]; exact X'.warmed.alike
  obtain ⟨t2, a1, b1⟩ := kk T'.heap (locs ++ L) (by rw [e1]; exact hI.moved hal.symm) ⟨Nat.le_trans hS.1 (by rw [e1]; exact hz), fun q h1 h2 => by rw [e1, hk q (Nat.lt_of_lt_of_le h1 hS.1) h2]; exact hS.2.1 q h1 h2, fun q hq => by
      rcases List.mem_append.mp hq with h | h
      · exact hS.2.2 q h
      · exact hL q h⟩ T' rfl X'
  exact ⟨t2, st t2 a1, b1⟩
theorem am_flat_sl : ∀ vs : List Value, am_flat vs = (lg_sl vs).map (fun x => match x with | .val v => some v | _ => none)
  | [] => rfl
  | v :: vs => by
    have ih := am_flat_sl vs
    unfold am_flat lg_sl at ih ⊢
    rw [List.flatMap_cons, List.flatMap_cons, List.map_append, ← ih]
    congr 1
    by_cases h : v.category = 2 <;> simp [h]
theorem am_entry_len {vs : List Value} {n : Nat} (h : (am_flat vs).length ≤ n) : (am_entry vs n).length = n := by
  unfold am_entry
  rw [List.length_append, List.length_replicate]
  omega
theorem am_entry_has {vs : List Value} {n : Nat} (h : (am_flat vs).length ≤ n) : am_Has ((lg_sl vs ++ List.replicate (n - (lg_sl vs).length) Slot.unset).toArray) (am_entry vs n) := by
  have e : (am_flat vs).length = (lg_sl vs).length := by rw [am_flat_sl, List.length_map]
  have hl := lv_entry vs (n := n) (by omega)
  refine ⟨by rw [am_entry_len h]; exact hl.1, hl.2.1, fun q hq => ?_⟩
  have hq := am_al_mem.mp hq
  unfold am_entry at hq
  rw [List.getElem?_toArray]
  by_cases hlt : q.1 < (am_flat vs).length
  · rw [List.getElem?_append_left hlt, am_flat_sl, List.getElem?_map] at hq
    rw [List.getElem?_append_left (by omega)]
    cases hx : (lg_sl vs)[q.1]? with
    | none => rw [hx] at hq; cases hq
    | some x =>
      rw [hx] at hq
      cases x with
      | val v => simp at hq; rw [hq]
      | second => simp at hq
      | unset => simp at hq
  · rw [List.getElem?_append_right (by omega), List.getElem?_replicate] at hq
    split at hq
    · cases hq
    · cases hq
end AMX
