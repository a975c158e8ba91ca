/-! walking the small machine: from here the method ends, with Q -/
def Rn (sA : Nat) (mi : am_I) (pc : Nat) (ls : am_L) (st : List Value) (H : am_H) (Q : Option Value → am_H → Prop) : Prop := ∃ n r H', am_exec sA n mi pc ls st H = some (r, H') ∧ Q r H'
theorem am_fuel1 (sA : Nat) : ∀ (n : Nat) (mi : am_I) (pc : Nat) (ls : am_L) (st : List Value) (H : am_H) (x : Option Value × am_H), am_exec sA n mi pc ls st H = some x → am_exec sA (n + 1) mi pc ls st H = some x
  | 0, _, _, _, _, _, _, h => by simp [am_exec] at h
  | n + 1, mi, pc, ls, st, H, x, h => by
    have ih := am_fuel1 sA n
    unfold am_exec at h
    unfold am_exec
    split at h
    · cases h
    · split at h
      · rename_i i n0 hd hl
        rw [if_pos hl]
        split at h
        · rename_i r hr
          exact h
        · rename_i hr
          split at h
          · rename_i mj As rest hc
            split at h
            · rename_i hf
              rw [if_pos hf]
              split at h
              · rename_i r1 H1 h1
                rw [ih _ _ _ _ _ _ h1]
                exact ih _ _ _ _ _ _ h
              · cases h
            · cases h
          · rename_i hc
            split at h
            · rename_i pc' ls' st' H' hs
              split at h
              · rename_i hm
                rw [if_pos hm]
                exact ih _ _ _ _ _ _ h
              · cases h
            · cases h
      · cases h
theorem am_fuel {sA n n' : Nat} {mi : am_I} {pc : Nat} {ls : am_L} {st : List Value} {H : am_H} {x : Option Value × am_H} (h : am_exec sA n mi pc ls st H = some x) (hn : n ≤ n') : am_exec sA n' mi pc ls st H = some x := by
  induction hn with
  | refl => exact h
  | step _ ih => exact am_fuel1 sA _ _ _ _ _ _ _ ih
section RNS
variable {sA : Nat} {mi : am_I} {pc : Nat} {ls : am_L} {st : List Value} {h : Nat → Option am_C} {z : Nat × Nat} {Q : Option Value → am_H → Prop}
theorem Rn.step {H : am_H} {i : Instr} {n0 : Nat} {pc' : Nat} {ls' : am_L} {st' : List Value} {H' : am_H} (hd : decode mi.2.1 pc = .ok (i, n0)) (hl : am_lenOk i n0 = true) (hr : am_ret mi i st = none) (hc : am_call mi i st H = none) (hs : am_step sA mi i pc ls st H = some (pc', ls', st', H')) (hm : H.2.1 ≤ H'.2.1 ∧ H.2.2 ≤ H'.2.2) (k : Rn sA mi pc' ls' st' H' Q) : Rn sA mi pc ls st H Q := by
  obtain ⟨n, r, H2, e, q⟩ := k
  refine ⟨n + 1, r, H2, ?_, q⟩
  unfold am_exec
  rw [hd]
  dsimp only
  rw [if_pos hl, hr]
  dsimp only
  rw [hc]
  dsimp only
  rw [hs]
  dsimp only
  rw [if_pos hm]
  exact e
theorem Rn.call {H : am_H} {i : Instr} {n0 : Nat} {mj : am_I} {As rest : List Value} (hd : decode mi.2.1 pc = .ok (i, n0)) (hl : am_lenOk i n0 = true) (hr : am_ret mi i st = none) (hc : am_call mi i st H = some (mj, As, rest)) (hf : (am_flat As).length ≤ mj.2.2.2.1) (k : Rn sA mj 0 (am_entry As mj.2.2.2.1) [] H (fun r H' => Rn sA mi (pc + 3) ls (r.toList ++ rest) H' Q)) : Rn sA mi pc ls st H Q := by
  obtain ⟨n1, r1, H1, e1, n2, r2, H2, e2, q⟩ := k
  refine ⟨(n1 + n2) + 1, r2, H2, ?_, q⟩
  unfold am_exec
  rw [hd]
  dsimp only
  rw [if_pos hl, hr]
  dsimp only
  rw [hc]
  dsimp only
  rw [if_pos hf, am_fuel e1 (Nat.le_add_right n1 n2)]
  exact am_fuel e2 (Nat.le_add_left n2 n1)
theorem Rn.ret {H : am_H} {i : Instr} {n0 : Nat} {r : Option Value} (hd : decode mi.2.1 pc = .ok (i, n0)) (hl : am_lenOk i n0 = true) (hr : am_ret mi i st = some r) (q : Q r H) : Rn sA mi pc ls st H Q := by
  refine ⟨1, r, H, ?_, q⟩
  unfold am_exec
  rw [hd]
  dsimp only
  rw [if_pos hl, hr]
theorem Rn.mono {H : am_H} {Q' : Option Value → am_H → Prop} (k : Rn sA mi pc ls st H Q) (hq : ∀ r H', Q r H' → Q' r H') : Rn sA mi pc ls st H Q' := by
  obtain ⟨n, r, H2, e, q⟩ := k
  exact ⟨n, r, H2, e, hq _ _ q⟩
theorem am_iN {i : Int32} {j n : Nat} (hi : i = nI j) (hj : j < n) (hn : n ≤ 100000) : 0 ≤ i ∧ i.toNatClampNeg < n ∧ i.toNatClampNeg = j := by
  subst hi
  have h31 : j < 2 ^ 31 := by omega
  exact ⟨nI_pos' h31, by rw [nI_clamp h31]; exact hj, nI_clamp h31⟩
theorem am_iM {i : Int32} {n : Nat} (hi : i = nI n) (hn : n ≤ 100000) : 0 ≤ i ∧ i.toNatClampNeg = n := by
  subst hi
  have h31 : n < 2 ^ 31 := by omega
  exact ⟨nI_pos' h31, nI_clamp h31⟩
theorem up_s {α : Type} {f : Nat → α} {a : Nat} {c : α} : va_up f a c a = c := by simp [va_up]
theorem up_n {α : Type} {f : Nat → α} {a b : Nat} {c v : α} (hne : b ≠ a) (hb : f b = v) : va_up f a c b = v := by simp [va_up, hne, hb]
theorem upd_s {f : Nat → Int32} {a : Nat} {c : Int32} : upd f a c a = c := by simp [upd]
theorem upd_n {f : Nat → Int32} {a b : Nat} {c : Int32} (hne : b ≠ a) : upd f a c b = f b := by simp [upd, hne]
theorem R_iconst {v : Int} {x : Int32} (hd : decode mi.2.1 pc = .ok (.iconst v, 1)) (hv : Int32.ofInt v = x) (k : Rn sA mi (pc + 1) ls (.int x :: st) (h, z) Q) : Rn sA mi pc ls st (h, z) Q :=
  Rn.step (H' := (h, z)) hd rfl rfl rfl (by rw [← hv]; rfl) ⟨Nat.le_refl _, Nat.le_refl _⟩ k
theorem R_bipush {v : Int} {x : Int32} (hd : decode mi.2.1 pc = .ok (.bipush v, 2)) (hv : (Int8.ofInt v).toInt32 = x) (k : Rn sA mi (pc + 2) ls (.int x :: st) (h, z) Q) : Rn sA mi pc ls st (h, z) Q :=
  Rn.step (H' := (h, z)) hd rfl rfl rfl (by rw [← hv]; rfl) ⟨Nat.le_refl _, Nat.le_refl _⟩ k
theorem R_sipush {v : Int} {x : Int32} (hd : decode mi.2.1 pc = .ok (.sipush v, 3)) (hv : (Int16.ofInt v).toInt32 = x) (k : Rn sA mi (pc + 3) ls (.int x :: st) (h, z) Q) : Rn sA mi pc ls st (h, z) Q :=
  Rn.step (H' := (h, z)) hd rfl rfl rfl (by rw [← hv]; rfl) ⟨Nat.le_refl _, Nat.le_refl _⟩ k
theorem R_ldc {cp : Nat} {x : Int32} (hd : decode mi.2.1 pc = .ok (.ldc cp, 2)) (hv : (am_conL mi.1).lookup cp = some x) (k : Rn sA mi (pc + 2) ls (.int x :: st) (h, z) Q) : Rn sA mi pc ls st (h, z) Q :=
  Rn.step (H' := (h, z)) hd rfl rfl rfl (by simp only [am_step, hv, am_pushO, Option.map]) ⟨Nat.le_refl _, Nat.le_refl _⟩ k
theorem R_ldc2 {cp : Nat} {x : Int64} (hd : decode mi.2.1 pc = .ok (.ldc2_w cp, 3)) (hv : (am_lngL mi.1).lookup cp = some x) (k : Rn sA mi (pc + 3) ls (.long x :: st) (h, z) Q) : Rn sA mi pc ls st (h, z) Q :=
  Rn.step (H' := (h, z)) hd rfl rfl rfl (by simp only [am_step, hv, am_pushO, Option.map]) ⟨Nat.le_refl _, Nat.le_refl _⟩ k
theorem R_fconst0  (hd : decode mi.2.1 pc = .ok (.fconst 0, 1))  (k : Rn sA mi (pc + 1) ls (.float FP.fconst0 :: st) (h, z) Q) : Rn sA mi pc ls st (h, z) Q :=
  Rn.step (H' := (h, z)) hd rfl rfl rfl (rfl) ⟨Nat.le_refl _, Nat.le_refl _⟩ k
theorem R_null  (hd : decode mi.2.1 pc = .ok (.aconst_null, 1))  (k : Rn sA mi (pc + 1) ls (.null :: st) (h, z) Q) : Rn sA mi pc ls st (h, z) Q :=
  Rn.step (H' := (h, z)) hd rfl rfl rfl (rfl) ⟨Nat.le_refl _, Nat.le_refl _⟩ k
theorem R_iload_n {i : Fin 4} {x : Int32} (hd : decode mi.2.1 pc = .ok (.iload_n i, 1)) (hx : ls[(i : Nat)]? = some (some (.int x))) (k : Rn sA mi (pc + 1) ls (.int x :: st) (h, z) Q) : Rn sA mi pc ls st (h, z) Q :=
  Rn.step (H' := (h, z)) hd rfl rfl rfl (by simp [am_step, am_load, hx, am_isI, am_isL]) ⟨Nat.le_refl _, Nat.le_refl _⟩ k
theorem R_lload_n {i : Fin 4} {x : Int64} (hd : decode mi.2.1 pc = .ok (.lload_n i, 1)) (hx : ls[(i : Nat)]? = some (some (.long x))) (k : Rn sA mi (pc + 1) ls (.long x :: st) (h, z) Q) : Rn sA mi pc ls st (h, z) Q :=
  Rn.step (H' := (h, z)) hd rfl rfl rfl (by simp [am_step, am_load, hx, am_isI, am_isL]) ⟨Nat.le_refl _, Nat.le_refl _⟩ k
theorem R_iload {i : Nat} {x : Int32} (hd : decode mi.2.1 pc = .ok (.iload i, 2)) (hx : ls[i]? = some (some (.int x))) (k : Rn sA mi (pc + 2) ls (.int x :: st) (h, z) Q) : Rn sA mi pc ls st (h, z) Q :=
  Rn.step (H' := (h, z)) hd rfl rfl rfl (by simp [am_step, am_load, hx, am_isI, am_isL, am_isD]) ⟨Nat.le_refl _, Nat.le_refl _⟩ k
theorem R_lload {i : Nat} {x : Int64} (hd : decode mi.2.1 pc = .ok (.lload i, 2)) (hx : ls[i]? = some (some (.long x))) (k : Rn sA mi (pc + 2) ls (.long x :: st) (h, z) Q) : Rn sA mi pc ls st (h, z) Q :=
  Rn.step (H' := (h, z)) hd rfl rfl rfl (by simp [am_step, am_load, hx, am_isI, am_isL, am_isD]) ⟨Nat.le_refl _, Nat.le_refl _⟩ k
theorem R_dload {i : Nat} {x : UInt64} (hd : decode mi.2.1 pc = .ok (.dload i, 2)) (hx : ls[i]? = some (some (.double x))) (k : Rn sA mi (pc + 2) ls (.double x :: st) (h, z) Q) : Rn sA mi pc ls st (h, z) Q :=
  Rn.step (H' := (h, z)) hd rfl rfl rfl (by simp [am_step, am_load, hx, am_isI, am_isL, am_isD]) ⟨Nat.le_refl _, Nat.le_refl _⟩ k
theorem R_aload_n {i : Fin 4} {a : Nat} (hd : decode mi.2.1 pc = .ok (.aload_n i, 1)) (hx : ls[(i : Nat)]? = some (some (.ref a))) (k : Rn sA mi (pc + 1) ls (.ref a :: st) (h, z) Q) : Rn sA mi pc ls st (h, z) Q :=
  Rn.step (H' := (h, z)) hd rfl rfl rfl (by simp [am_step, am_load, hx, am_isA]) ⟨Nat.le_refl _, Nat.le_refl _⟩ k
theorem R_aload {i : Nat} {a : Nat} (hd : decode mi.2.1 pc = .ok (.aload i, 2)) (hx : ls[i]? = some (some (.ref a))) (k : Rn sA mi (pc + 2) ls (.ref a :: st) (h, z) Q) : Rn sA mi pc ls st (h, z) Q :=
  Rn.step (H' := (h, z)) hd rfl rfl rfl (by simp [am_step, am_load, hx, am_isA]) ⟨Nat.le_refl _, Nat.le_refl _⟩ k
theorem R_aload_nN {i : Fin 4} (hd : decode mi.2.1 pc = .ok (.aload_n i, 1)) (hx : ls[(i : Nat)]? = some (some .null)) (k : Rn sA mi (pc + 1) ls (.null :: st) (h, z) Q) : Rn sA mi pc ls st (h, z) Q :=
  Rn.step (H' := (h, z)) hd rfl rfl rfl (by simp [am_step, am_load, hx, am_isA]) ⟨Nat.le_refl _, Nat.le_refl _⟩ k
theorem R_aloadN {i : Nat} (hd : decode mi.2.1 pc = .ok (.aload i, 2)) (hx : ls[i]? = some (some .null)) (k : Rn sA mi (pc + 2) ls (.null :: st) (h, z) Q) : Rn sA mi pc ls st (h, z) Q :=
  Rn.step (H' := (h, z)) hd rfl rfl rfl (by simp [am_step, am_load, hx, am_isA]) ⟨Nat.le_refl _, Nat.le_refl _⟩ k
theorem R_istore_n {i : Fin 4} {x : Int32} {ls2 : am_L} (hd : decode mi.2.1 pc = .ok (.istore_n i, 1)) (hi : (i : Nat) + 1 ≤ ls.length) (hl2 : am_set (.int x) i ls = ls2) (k : Rn sA mi (pc + 1) ls2 st (h, z) Q) : Rn sA mi pc ls (.int x :: st) (h, z) Q :=
  Rn.step (H' := (h, z)) hd rfl rfl rfl (by subst hl2; simp [am_step, am_store, am_isI, am_isL, am_isA, Value.category, hi]) ⟨Nat.le_refl _, Nat.le_refl _⟩ k
theorem R_lstore_n {i : Fin 4} {x : Int64} {ls2 : am_L} (hd : decode mi.2.1 pc = .ok (.lstore_n i, 1)) (hi : (i : Nat) + 2 ≤ ls.length) (hl2 : am_set (.long x) i ls = ls2) (k : Rn sA mi (pc + 1) ls2 st (h, z) Q) : Rn sA mi pc ls (.long x :: st) (h, z) Q :=
  Rn.step (H' := (h, z)) hd rfl rfl rfl (by subst hl2; simp [am_step, am_store, am_isI, am_isL, am_isA, Value.category, hi]) ⟨Nat.le_refl _, Nat.le_refl _⟩ k
theorem R_astore_n {i : Fin 4} {x : Nat} {ls2 : am_L} (hd : decode mi.2.1 pc = .ok (.astore_n i, 1)) (hi : (i : Nat) + 1 ≤ ls.length) (hl2 : am_set (.ref x) i ls = ls2) (k : Rn sA mi (pc + 1) ls2 st (h, z) Q) : Rn sA mi pc ls (.ref x :: st) (h, z) Q :=
  Rn.step (H' := (h, z)) hd rfl rfl rfl (by subst hl2; simp [am_step, am_store, am_isI, am_isL, am_isA, Value.category, hi]) ⟨Nat.le_refl _, Nat.le_refl _⟩ k
theorem R_istore {i : Nat} {x : Int32} {ls2 : am_L} (hd : decode mi.2.1 pc = .ok (.istore i, 2)) (hi : i + 1 ≤ ls.length) (hl2 : am_set (.int x) i ls = ls2) (k : Rn sA mi (pc + 2) ls2 st (h, z) Q) : Rn sA mi pc ls (.int x :: st) (h, z) Q :=
  Rn.step (H' := (h, z)) hd rfl rfl rfl (by subst hl2; simp [am_step, am_store, am_isI, am_isL, am_isD, am_isA, Value.category, hi]) ⟨Nat.le_refl _, Nat.le_refl _⟩ k
theorem R_lstore {i : Nat} {x : Int64} {ls2 : am_L} (hd : decode mi.2.1 pc = .ok (.lstore i, 2)) (hi : i + 2 ≤ ls.length) (hl2 : am_set (.long x) i ls = ls2) (k : Rn sA mi (pc + 2) ls2 st (h, z) Q) : Rn sA mi pc ls (.long x :: st) (h, z) Q :=
  Rn.step (H' := (h, z)) hd rfl rfl rfl (by subst hl2; simp [am_step, am_store, am_isI, am_isL, am_isD, am_isA, Value.category, hi]) ⟨Nat.le_refl _, Nat.le_refl _⟩ k
theorem R_dstore {i : Nat} {x : UInt64} {ls2 : am_L} (hd : decode mi.2.1 pc = .ok (.dstore i, 2)) (hi : i + 2 ≤ ls.length) (hl2 : am_set (.double x) i ls = ls2) (k : Rn sA mi (pc + 2) ls2 st (h, z) Q) : Rn sA mi pc ls (.double x :: st) (h, z) Q :=
  Rn.step (H' := (h, z)) hd rfl rfl rfl (by subst hl2; simp [am_step, am_store, am_isI, am_isL, am_isD, am_isA, Value.category, hi]) ⟨Nat.le_refl _, Nat.le_refl _⟩ k
theorem R_astore {i : Nat} {x : Nat} {ls2 : am_L} (hd : decode mi.2.1 pc = .ok (.astore i, 2)) (hi : i + 1 ≤ ls.length) (hl2 : am_set (.ref x) i ls = ls2) (k : Rn sA mi (pc + 2) ls2 st (h, z) Q) : Rn sA mi pc ls (.ref x :: st) (h, z) Q :=
  Rn.step (H' := (h, z)) hd rfl rfl rfl (by subst hl2; simp [am_step, am_store, am_isI, am_isL, am_isD, am_isA, Value.category, hi]) ⟨Nat.le_refl _, Nat.le_refl _⟩ k
theorem R_astore_nN {i : Fin 4} {ls2 : am_L} (hd : decode mi.2.1 pc = .ok (.astore_n i, 1)) (hi : (i : Nat) + 1 ≤ ls.length) (hl2 : am_set .null i ls = ls2) (k : Rn sA mi (pc + 1) ls2 st (h, z) Q) : Rn sA mi pc ls (.null :: st) (h, z) Q :=
  Rn.step (H' := (h, z)) hd rfl rfl rfl (by subst hl2; simp [am_step, am_store, am_isA, Value.category, hi]) ⟨Nat.le_refl _, Nat.le_refl _⟩ k
theorem R_iinc {i : Nat} {v : Int} {x y : Int32} {ls2 : am_L} (hd : decode mi.2.1 pc = .ok (.iinc i v, 3)) (hx : ls[i]? = some (some (.int x))) (hv : x + Int32.ofInt v = y) (hl2 : am_set (.int y) i ls = ls2) (k : Rn sA mi (pc + 3) ls2 st (h, z) Q) : Rn sA mi pc ls st (h, z) Q :=
  Rn.step (H' := (h, z)) hd rfl rfl rfl (by subst hv; subst hl2; simp [am_step, am_iinc, hx]) ⟨Nat.le_refl _, Nat.le_refl _⟩ k
theorem R_iadd {x y : Int32} (hd : decode mi.2.1 pc = .ok (.iadd, 1))  (k : Rn sA mi (pc + 1) ls (.int (x + y) :: st) (h, z) Q) : Rn sA mi pc ls (.int y :: .int x :: st) (h, z) Q :=
  Rn.step (H' := (h, z)) hd rfl rfl rfl (rfl) ⟨Nat.le_refl _, Nat.le_refl _⟩ k
theorem R_isub {x y : Int32} (hd : decode mi.2.1 pc = .ok (.isub, 1))  (k : Rn sA mi (pc + 1) ls (.int (x - y) :: st) (h, z) Q) : Rn sA mi pc ls (.int y :: .int x :: st) (h, z) Q :=
  Rn.step (H' := (h, z)) hd rfl rfl rfl (rfl) ⟨Nat.le_refl _, Nat.le_refl _⟩ k
theorem R_imul {x y : Int32} (hd : decode mi.2.1 pc = .ok (.imul, 1))  (k : Rn sA mi (pc + 1) ls (.int (x * y) :: st) (h, z) Q) : Rn sA mi pc ls (.int y :: .int x :: st) (h, z) Q :=
  Rn.step (H' := (h, z)) hd rfl rfl rfl (rfl) ⟨Nat.le_refl _, Nat.le_refl _⟩ k
theorem R_iand {x y : Int32} (hd : decode mi.2.1 pc = .ok (.iand, 1))  (k : Rn sA mi (pc + 1) ls (.int (x &&& y) :: st) (h, z) Q) : Rn sA mi pc ls (.int y :: .int x :: st) (h, z) Q :=
  Rn.step (H' := (h, z)) hd rfl rfl rfl (rfl) ⟨Nat.le_refl _, Nat.le_refl _⟩ k
theorem R_ior {x y : Int32} (hd : decode mi.2.1 pc = .ok (.ior, 1))  (k : Rn sA mi (pc + 1) ls (.int (x ||| y) :: st) (h, z) Q) : Rn sA mi pc ls (.int y :: .int x :: st) (h, z) Q :=
  Rn.step (H' := (h, z)) hd rfl rfl rfl (rfl) ⟨Nat.le_refl _, Nat.le_refl _⟩ k
theorem R_ixor {x y : Int32} (hd : decode mi.2.1 pc = .ok (.ixor, 1))  (k : Rn sA mi (pc + 1) ls (.int (x ^^^ y) :: st) (h, z) Q) : Rn sA mi pc ls (.int y :: .int x :: st) (h, z) Q :=
  Rn.step (H' := (h, z)) hd rfl rfl rfl (rfl) ⟨Nat.le_refl _, Nat.le_refl _⟩ k
theorem R_ishl {x y : Int32} (hd : decode mi.2.1 pc = .ok (.ishl, 1))  (k : Rn sA mi (pc + 1) ls (.int (x <<< (y &&& 31)) :: st) (h, z) Q) : Rn sA mi pc ls (.int y :: .int x :: st) (h, z) Q :=
  Rn.step (H' := (h, z)) hd rfl rfl rfl (rfl) ⟨Nat.le_refl _, Nat.le_refl _⟩ k
theorem R_ishr {x y : Int32} (hd : decode mi.2.1 pc = .ok (.ishr, 1))  (k : Rn sA mi (pc + 1) ls (.int (x >>> (y &&& 31)) :: st) (h, z) Q) : Rn sA mi pc ls (.int y :: .int x :: st) (h, z) Q :=
  Rn.step (H' := (h, z)) hd rfl rfl rfl (rfl) ⟨Nat.le_refl _, Nat.le_refl _⟩ k
theorem R_idiv {x y : Int32} (hd : decode mi.2.1 pc = .ok (.idiv, 1)) (hy : ¬ y = 0) (k : Rn sA mi (pc + 1) ls (.int (x / y) :: st) (h, z) Q) : Rn sA mi pc ls (.int y :: .int x :: st) (h, z) Q :=
  Rn.step (H' := (h, z)) hd rfl rfl rfl (by simp [am_step, am_i2, hy]) ⟨Nat.le_refl _, Nat.le_refl _⟩ k
theorem R_irem {x y : Int32} (hd : decode mi.2.1 pc = .ok (.irem, 1)) (hy : ¬ y = 0) (k : Rn sA mi (pc + 1) ls (.int (x - x / y * y) :: st) (h, z) Q) : Rn sA mi pc ls (.int y :: .int x :: st) (h, z) Q :=
  Rn.step (H' := (h, z)) hd rfl rfl rfl (by simp [am_step, am_i2, hy]) ⟨Nat.le_refl _, Nat.le_refl _⟩ k
theorem R_ineg {x : Int32} (hd : decode mi.2.1 pc = .ok (.ineg, 1))  (k : Rn sA mi (pc + 1) ls (.int (-x) :: st) (h, z) Q) : Rn sA mi pc ls (.int x :: st) (h, z) Q :=
  Rn.step (H' := (h, z)) hd rfl rfl rfl (rfl) ⟨Nat.le_refl _, Nat.le_refl _⟩ k
theorem R_ladd {x y : Int64} (hd : decode mi.2.1 pc = .ok (.ladd, 1))  (k : Rn sA mi (pc + 1) ls (.long (x + y) :: st) (h, z) Q) : Rn sA mi pc ls (.long y :: .long x :: st) (h, z) Q :=
  Rn.step (H' := (h, z)) hd rfl rfl rfl (rfl) ⟨Nat.le_refl _, Nat.le_refl _⟩ k
theorem R_lmul {x y : Int64} (hd : decode mi.2.1 pc = .ok (.lmul, 1))  (k : Rn sA mi (pc + 1) ls (.long (x * y) :: st) (h, z) Q) : Rn sA mi pc ls (.long y :: .long x :: st) (h, z) Q :=
  Rn.step (H' := (h, z)) hd rfl rfl rfl (rfl) ⟨Nat.le_refl _, Nat.le_refl _⟩ k
theorem R_ldiv {x y : Int64} (hd : decode mi.2.1 pc = .ok (.ldiv, 1)) (hy : ¬ y = 0) (k : Rn sA mi (pc + 1) ls (.long (x / y) :: st) (h, z) Q) : Rn sA mi pc ls (.long y :: .long x :: st) (h, z) Q :=
  Rn.step (H' := (h, z)) hd rfl rfl rfl (by simp [am_step, am_l2, hy]) ⟨Nat.le_refl _, Nat.le_refl _⟩ k
theorem R_lcmp {x y : Int64} (hd : decode mi.2.1 pc = .ok (.lcmp, 1))  (k : Rn sA mi (pc + 1) ls (.int (lg_cmp x y) :: st) (h, z) Q) : Rn sA mi pc ls (.long y :: .long x :: st) (h, z) Q :=
  Rn.step (H' := (h, z)) hd rfl rfl rfl (rfl) ⟨Nat.le_refl _, Nat.le_refl _⟩ k
theorem R_i2l {x : Int32} (hd : decode mi.2.1 pc = .ok (.i2l, 1))  (k : Rn sA mi (pc + 1) ls (.long x.toInt64 :: st) (h, z) Q) : Rn sA mi pc ls (.int x :: st) (h, z) Q :=
  Rn.step (H' := (h, z)) hd rfl rfl rfl (rfl) ⟨Nat.le_refl _, Nat.le_refl _⟩ k
theorem R_l2i {x : Int64} (hd : decode mi.2.1 pc = .ok (.l2i, 1))  (k : Rn sA mi (pc + 1) ls (.int x.toInt32 :: st) (h, z) Q) : Rn sA mi pc ls (.long x :: st) (h, z) Q :=
  Rn.step (H' := (h, z)) hd rfl rfl rfl (rfl) ⟨Nat.le_refl _, Nat.le_refl _⟩ k
theorem R_l2f {x : Int64} (hd : decode mi.2.1 pc = .ok (.l2f, 1))  (k : Rn sA mi (pc + 1) ls (.float (FP.l2f x) :: st) (h, z) Q) : Rn sA mi pc ls (.long x :: st) (h, z) Q :=
  Rn.step (H' := (h, z)) hd rfl rfl rfl (rfl) ⟨Nat.le_refl _, Nat.le_refl _⟩ k
theorem R_i2f {x : Int32} (hd : decode mi.2.1 pc = .ok (.i2f, 1))  (k : Rn sA mi (pc + 1) ls (.float (FP.i2f x) :: st) (h, z) Q) : Rn sA mi pc ls (.int x :: st) (h, z) Q :=
  Rn.step (H' := (h, z)) hd rfl rfl rfl (rfl) ⟨Nat.le_refl _, Nat.le_refl _⟩ k
theorem R_f2d {x : UInt32} (hd : decode mi.2.1 pc = .ok (.f2d, 1)) (hn : vf_n64 (FP.f2d x)) (k : Rn sA mi (pc + 1) ls (.double (FP.f2d x) :: st) (h, z) Q) : Rn sA mi pc ls (.float x :: st) (h, z) Q :=
  Rn.step (H' := (h, z)) hd rfl rfl rfl (by have hn2 : FP.f2d x &&& 0x7fffffffffffffff ≤ 0x7ff0000000000000 := hn; simp [am_step, am_u1, am_n64, hn2]) ⟨Nat.le_refl _, Nat.le_refl _⟩ k
theorem R_fdiv {x y : UInt32} (hd : decode mi.2.1 pc = .ok (.fdiv, 1)) (hn : vf_n32 (FP.fdiv x y)) (k : Rn sA mi (pc + 1) ls (.float (FP.fdiv x y) :: st) (h, z) Q) : Rn sA mi pc ls (.float y :: .float x :: st) (h, z) Q :=
  Rn.step (H' := (h, z)) hd rfl rfl rfl (by have hn2 : FP.fdiv x y &&& 0x7fffffff ≤ 0x7f800000 := hn; simp [am_step, am_f2, am_n32, am_pushO, hn2]) ⟨Nat.le_refl _, Nat.le_refl _⟩ k
theorem R_dcmp {x y : UInt64} {op : CmpOp} (hd : decode mi.2.1 pc = .ok (.dcmp op, 1))  (k : Rn sA mi (pc + 1) ls (.int (Op.cmpValue (FP.dcmp x y) op) :: st) (h, z) Q) : Rn sA mi pc ls (.double y :: .double x :: st) (h, z) Q :=
  Rn.step (H' := (h, z)) hd rfl rfl rfl (rfl) ⟨Nat.le_refl _, Nat.le_refl _⟩ k
theorem R_fcmp {x y : UInt32} {op : CmpOp} (hd : decode mi.2.1 pc = .ok (.fcmp op, 1))  (k : Rn sA mi (pc + 1) ls (.int (Op.cmpValue (FP.fcmp x y) op) :: st) (h, z) Q) : Rn sA mi pc ls (.float y :: .float x :: st) (h, z) Q :=
  Rn.step (H' := (h, z)) hd rfl rfl rfl (rfl) ⟨Nat.le_refl _, Nat.le_refl _⟩ k
theorem R_dup {v : Value} (hd : decode mi.2.1 pc = .ok (.dup, 1)) (hv : v.category = 1) (k : Rn sA mi (pc + 1) ls (v :: v :: st) (h, z) Q) : Rn sA mi pc ls (v :: st) (h, z) Q :=
  Rn.step (H' := (h, z)) hd rfl rfl rfl (by simp [am_step, am_dup, hv]) ⟨Nat.le_refl _, Nat.le_refl _⟩ k
theorem R_dup2 {v u : Value} (hd : decode mi.2.1 pc = .ok (.dup2, 1)) (hv : v.category = 1) (hu : u.category = 1) (k : Rn sA mi (pc + 1) ls (v :: u :: v :: u :: st) (h, z) Q) : Rn sA mi pc ls (v :: u :: st) (h, z) Q :=
  Rn.step (H' := (h, z)) hd rfl rfl rfl (by simp [am_step, am_dup2, hv, hu]) ⟨Nat.le_refl _, Nat.le_refl _⟩ k
theorem R_goto {off : Int} {t : Nat} (hd : decode mi.2.1 pc = .ok (.goto off, 3)) (ht : (pc : Int) + off = (t : Int)) (k : Rn sA mi t ls st (h, z) Q) : Rn sA mi pc ls st (h, z) Q :=
  Rn.step (H' := (h, z)) hd rfl rfl rfl (by simp only [am_step, am_tgt, ht]; simp) ⟨Nat.le_refl _, Nat.le_refl _⟩ k
theorem R_if_eq {x : Int32} {off : Int} {t : Nat} (hd : decode mi.2.1 pc = .ok (.ifCond .eq off, 3)) (ht : (pc : Int) + off = (t : Int)) (k1 : x = 0 → Rn sA mi t ls st (h, z) Q) (k2 : ¬ x = 0 → Rn sA mi (pc + 3) ls st (h, z) Q) : Rn sA mi pc ls (.int x :: st) (h, z) Q := by
  by_cases hc : x = 0
  · exact Rn.step hd rfl rfl rfl (by simp only [am_step, am_if1, am_c1, ht]; simp [hc]) ⟨Nat.le_refl _, Nat.le_refl _⟩ (k1 hc)
  · exact Rn.step hd rfl rfl rfl (by simp only [am_step, am_if1, am_c1, ht]; simp [hc]) ⟨Nat.le_refl _, Nat.le_refl _⟩ (k2 hc)
theorem R_icmp_eq {x y : Int32} {off : Int} {t : Nat} (hd : decode mi.2.1 pc = .ok (.if_icmp .eq off, 3)) (ht : (pc : Int) + off = (t : Int)) (k1 : x = y → Rn sA mi t ls st (h, z) Q) (k2 : ¬ x = y → Rn sA mi (pc + 3) ls st (h, z) Q) : Rn sA mi pc ls (.int y :: .int x :: st) (h, z) Q := by
  by_cases hc : x = y
  · exact Rn.step hd rfl rfl rfl (by simp only [am_step, am_if2, am_c2, ht]; simp [hc]) ⟨Nat.le_refl _, Nat.le_refl _⟩ (k1 hc)
  · exact Rn.step hd rfl rfl rfl (by simp only [am_step, am_if2, am_c2, ht]; simp [hc]) ⟨Nat.le_refl _, Nat.le_refl _⟩ (k2 hc)
theorem R_if_ne {x : Int32} {off : Int} {t : Nat} (hd : decode mi.2.1 pc = .ok (.ifCond .ne off, 3)) (ht : (pc : Int) + off = (t : Int)) (k1 : ¬ x = 0 → Rn sA mi t ls st (h, z) Q) (k2 : x = 0 → Rn sA mi (pc + 3) ls st (h, z) Q) : Rn sA mi pc ls (.int x :: st) (h, z) Q := by
  by_cases hc : ¬ x = 0
  · exact Rn.step hd rfl rfl rfl (by simp only [am_step, am_if1, am_c1, ht]; simp [hc]) ⟨Nat.le_refl _, Nat.le_refl _⟩ (k1 hc)
  · exact Rn.step hd rfl rfl rfl (by simp only [am_step, am_if1, am_c1, ht]; simp [hc]) ⟨Nat.le_refl _, Nat.le_refl _⟩ (k2 (Decidable.not_not.mp hc))
theorem R_icmp_ne {x y : Int32} {off : Int} {t : Nat} (hd : decode mi.2.1 pc = .ok (.if_icmp .ne off, 3)) (ht : (pc : Int) + off = (t : Int)) (k1 : ¬ x = y → Rn sA mi t ls st (h, z) Q) (k2 : x = y → Rn sA mi (pc + 3) ls st (h, z) Q) : Rn sA mi pc ls (.int y :: .int x :: st) (h, z) Q := by
  by_cases hc : ¬ x = y
  · exact Rn.step hd rfl rfl rfl (by simp only [am_step, am_if2, am_c2, ht]; simp [hc]) ⟨Nat.le_refl _, Nat.le_refl _⟩ (k1 hc)
  · exact Rn.step hd rfl rfl rfl (by simp only [am_step, am_if2, am_c2, ht]; simp [hc]) ⟨Nat.le_refl _, Nat.le_refl _⟩ (k2 (Decidable.not_not.mp hc))
theorem R_if_lt {x : Int32} {off : Int} {t : Nat} (hd : decode mi.2.1 pc = .ok (.ifCond .lt off, 3)) (ht : (pc : Int) + off = (t : Int)) (k1 : x < 0 → Rn sA mi t ls st (h, z) Q) (k2 : ¬ x < 0 → Rn sA mi (pc + 3) ls st (h, z) Q) : Rn sA mi pc ls (.int x :: st) (h, z) Q := by
  by_cases hc : x < 0
  · exact Rn.step hd rfl rfl rfl (by simp only [am_step, am_if1, am_c1, ht]; simp [hc]) ⟨Nat.le_refl _, Nat.le_refl _⟩ (k1 hc)
  · exact Rn.step hd rfl rfl rfl (by simp only [am_step, am_if1, am_c1, ht]; simp [hc]) ⟨Nat.le_refl _, Nat.le_refl _⟩ (k2 hc)
theorem R_icmp_lt {x y : Int32} {off : Int} {t : Nat} (hd : decode mi.2.1 pc = .ok (.if_icmp .lt off, 3)) (ht : (pc : Int) + off = (t : Int)) (k1 : x < y → Rn sA mi t ls st (h, z) Q) (k2 : ¬ x < y → Rn sA mi (pc + 3) ls st (h, z) Q) : Rn sA mi pc ls (.int y :: .int x :: st) (h, z) Q := by
  by_cases hc : x < y
  · exact Rn.step hd rfl rfl rfl (by simp only [am_step, am_if2, am_c2, ht]; simp [hc]) ⟨Nat.le_refl _, Nat.le_refl _⟩ (k1 hc)
  · exact Rn.step hd rfl rfl rfl (by simp only [am_step, am_if2, am_c2, ht]; simp [hc]) ⟨Nat.le_refl _, Nat.le_refl _⟩ (k2 hc)
theorem R_if_ge {x : Int32} {off : Int} {t : Nat} (hd : decode mi.2.1 pc = .ok (.ifCond .ge off, 3)) (ht : (pc : Int) + off = (t : Int)) (k1 : 0 ≤ x → Rn sA mi t ls st (h, z) Q) (k2 : ¬ 0 ≤ x → Rn sA mi (pc + 3) ls st (h, z) Q) : Rn sA mi pc ls (.int x :: st) (h, z) Q := by
  by_cases hc : 0 ≤ x
  · exact Rn.step hd rfl rfl rfl (by simp only [am_step, am_if1, am_c1, ht]; simp [hc]) ⟨Nat.le_refl _, Nat.le_refl _⟩ (k1 hc)
  · exact Rn.step hd rfl rfl rfl (by simp only [am_step, am_if1, am_c1, ht]; simp [hc]) ⟨Nat.le_refl _, Nat.le_refl _⟩ (k2 hc)
theorem R_icmp_ge {x y : Int32} {off : Int} {t : Nat} (hd : decode mi.2.1 pc = .ok (.if_icmp .ge off, 3)) (ht : (pc : Int) + off = (t : Int)) (k1 : y ≤ x → Rn sA mi t ls st (h, z) Q) (k2 : ¬ y ≤ x → Rn sA mi (pc + 3) ls st (h, z) Q) : Rn sA mi pc ls (.int y :: .int x :: st) (h, z) Q := by
  by_cases hc : y ≤ x
  · exact Rn.step hd rfl rfl rfl (by simp only [am_step, am_if2, am_c2, ht]; simp [hc]) ⟨Nat.le_refl _, Nat.le_refl _⟩ (k1 hc)
  · exact Rn.step hd rfl rfl rfl (by simp only [am_step, am_if2, am_c2, ht]; simp [hc]) ⟨Nat.le_refl _, Nat.le_refl _⟩ (k2 hc)
theorem R_if_gt {x : Int32} {off : Int} {t : Nat} (hd : decode mi.2.1 pc = .ok (.ifCond .gt off, 3)) (ht : (pc : Int) + off = (t : Int)) (k1 : 0 < x → Rn sA mi t ls st (h, z) Q) (k2 : ¬ 0 < x → Rn sA mi (pc + 3) ls st (h, z) Q) : Rn sA mi pc ls (.int x :: st) (h, z) Q := by
  by_cases hc : 0 < x
  · exact Rn.step hd rfl rfl rfl (by simp only [am_step, am_if1, am_c1, ht]; simp [hc]) ⟨Nat.le_refl _, Nat.le_refl _⟩ (k1 hc)
  · exact Rn.step hd rfl rfl rfl (by simp only [am_step, am_if1, am_c1, ht]; simp [hc]) ⟨Nat.le_refl _, Nat.le_refl _⟩ (k2 hc)
theorem R_icmp_gt {x y : Int32} {off : Int} {t : Nat} (hd : decode mi.2.1 pc = .ok (.if_icmp .gt off, 3)) (ht : (pc : Int) + off = (t : Int)) (k1 : y < x → Rn sA mi t ls st (h, z) Q) (k2 : ¬ y < x → Rn sA mi (pc + 3) ls st (h, z) Q) : Rn sA mi pc ls (.int y :: .int x :: st) (h, z) Q := by
  by_cases hc : y < x
  · exact Rn.step hd rfl rfl rfl (by simp only [am_step, am_if2, am_c2, ht]; simp [hc]) ⟨Nat.le_refl _, Nat.le_refl _⟩ (k1 hc)
  · exact Rn.step hd rfl rfl rfl (by simp only [am_step, am_if2, am_c2, ht]; simp [hc]) ⟨Nat.le_refl _, Nat.le_refl _⟩ (k2 hc)
theorem R_if_le {x : Int32} {off : Int} {t : Nat} (hd : decode mi.2.1 pc = .ok (.ifCond .le off, 3)) (ht : (pc : Int) + off = (t : Int)) (k1 : x ≤ 0 → Rn sA mi t ls st (h, z) Q) (k2 : ¬ x ≤ 0 → Rn sA mi (pc + 3) ls st (h, z) Q) : Rn sA mi pc ls (.int x :: st) (h, z) Q := by
  by_cases hc : x ≤ 0
  · exact Rn.step hd rfl rfl rfl (by simp only [am_step, am_if1, am_c1, ht]; simp [hc]) ⟨Nat.le_refl _, Nat.le_refl _⟩ (k1 hc)
  · exact Rn.step hd rfl rfl rfl (by simp only [am_step, am_if1, am_c1, ht]; simp [hc]) ⟨Nat.le_refl _, Nat.le_refl _⟩ (k2 hc)
theorem R_icmp_le {x y : Int32} {off : Int} {t : Nat} (hd : decode mi.2.1 pc = .ok (.if_icmp .le off, 3)) (ht : (pc : Int) + off = (t : Int)) (k1 : x ≤ y → Rn sA mi t ls st (h, z) Q) (k2 : ¬ x ≤ y → Rn sA mi (pc + 3) ls st (h, z) Q) : Rn sA mi pc ls (.int y :: .int x :: st) (h, z) Q := by
  by_cases hc : x ≤ y
  · exact Rn.step hd rfl rfl rfl (by simp only [am_step, am_if2, am_c2, ht]; simp [hc]) ⟨Nat.le_refl _, Nat.le_refl _⟩ (k1 hc)
  · exact Rn.step hd rfl rfl rfl (by simp only [am_step, am_if2, am_c2, ht]; simp [hc]) ⟨Nat.le_refl _, Nat.le_refl _⟩ (k2 hc)
theorem R_ifnn {off : Int} {t a : Nat} (hd : decode mi.2.1 pc = .ok (.ifnonnull off, 3)) (ht : (pc : Int) + off = (t : Int)) (k : Rn sA mi t ls st (h, z) Q) : Rn sA mi pc ls (.ref a :: st) (h, z) Q :=
  Rn.step (H' := (h, z)) hd rfl rfl rfl (by simp only [am_step, am_nn, am_tgt, ht]; simp) ⟨Nat.le_refl _, Nat.le_refl _⟩ k
theorem R_ifnnN {off : Int} (hd : decode mi.2.1 pc = .ok (.ifnonnull off, 3))  (k : Rn sA mi (pc + 3) ls st (h, z) Q) : Rn sA mi pc ls (.null :: st) (h, z) Q :=
  Rn.step (H' := (h, z)) hd rfl rfl rfl (rfl) ⟨Nat.le_refl _, Nat.le_refl _⟩ k
theorem R_tswO {d lo hi : Int} {offs : Array Int} {n0 t : Nat} {x : Int32} (hd : decode mi.2.1 pc = .ok (.tableswitch d lo hi offs, n0)) (hx : x.toInt < lo ∨ hi < x.toInt) (ht : (pc : Int) + d = (t : Int)) (k : Rn sA mi t ls st (h, z) Q) : Rn sA mi pc ls (.int x :: st) (h, z) Q :=
  Rn.step (H' := (h, z)) hd rfl rfl rfl (by simp only [am_step, am_tsw, am_tgt, ht, if_pos hx]; simp) ⟨Nat.le_refl _, Nat.le_refl _⟩ k
theorem R_tswI {d lo hi off : Int} {offs : Array Int} {n0 t : Nat} {x : Int32} (hd : decode mi.2.1 pc = .ok (.tableswitch d lo hi offs, n0)) (hx : ¬ (x.toInt < lo ∨ hi < x.toInt)) (ho : offs[(x.toInt - lo).toNat]? = some off) (ht : (pc : Int) + off = (t : Int)) (k : Rn sA mi t ls st (h, z) Q) : Rn sA mi pc ls (.int x :: st) (h, z) Q :=
  Rn.step (H' := (h, z)) hd rfl rfl rfl (by simp only [am_step, am_tsw, am_tgt, if_neg hx, ho, ht]; simp) ⟨Nat.le_refl _, Nat.le_refl _⟩ k
theorem R_lsw {d off : Int} {ps : Array (Int × Int)} {n0 t : Nat} {x : Int32} (hd : decode mi.2.1 pc = .ok (.lookupswitch d ps, n0)) (hp : (ps.toList.zip (ps.toList.drop 1)).all (fun (a, next) => a.1 < next.1) = true) (ho : Op.lookupswitch.offset ps.toList d x.toInt = off) (ht : (pc : Int) + off = (t : Int)) (k : Rn sA mi t ls st (h, z) Q) : Rn sA mi pc ls (.int x :: st) (h, z) Q :=
  Rn.step (H' := (h, z)) hd rfl rfl rfl (by simp only [am_step, am_lsw, am_tgt, if_pos hp, ho, ht]; simp) ⟨Nat.le_refl _, Nat.le_refl _⟩ k
theorem R_getf {a cp ci kf : Nat} {fs : List Value} {v : Value} (hd : decode mi.2.1 pc = .ok (.getfield cp, 3)) (hlk : (am_fldL mi.1).lookup cp = some (ci, kf)) (ha : h a = some (.inr (ci, fs))) (hv : fs[kf]? = some v) (k : Rn sA mi (pc + 3) ls (v :: st) (h, z) Q) : Rn sA mi pc ls (.ref a :: st) (h, z) Q :=
  Rn.step (H' := (h, z)) hd rfl rfl rfl (by simp [am_step, am_getf, hlk, ha, hv]) ⟨Nat.le_refl _, Nat.le_refl _⟩ k
theorem R_putf {a cp ci kf : Nat} {fs fs2 : List Value} {v : Value} (hd : decode mi.2.1 pc = .ok (.putfield cp, 3)) (hlk : (am_fldL mi.1).lookup cp = some (ci, kf)) (ha : h a = some (.inr (ci, fs))) (hok : am_okv (am_tys ci kf) v = true) (hf : am_fin ci kf = false ∨ (am_ini mi = true ∧ ci = mi.1)) (hs : fs.set kf v = fs2) (k : Rn sA mi (pc + 3) ls st (va_up h a (some (.inr (ci, fs2))), z) Q) : Rn sA mi pc ls (v :: .ref a :: st) (h, z) Q :=
  Rn.step (H' := (va_up h a (some (.inr (ci, fs2))), z)) hd rfl rfl rfl (by subst hs; simp only [am_step, am_putf, hlk, ha]; rw [if_pos ⟨trivial, hok, hf⟩]) ⟨Nat.le_refl _, Nat.le_refl _⟩ k
theorem R_gets  (hd : decode mi.2.1 pc = .ok (.getstatic 99, 3)) (hc : mi.1 = 11) (k : Rn sA mi (pc + 3) ls (.ref sA :: st) (h, z) Q) : Rn sA mi pc ls st (h, z) Q :=
  Rn.step (H' := (h, z)) hd rfl rfl rfl (by simp [am_step, am_gets, hc]) ⟨Nat.le_refl _, Nat.le_refl _⟩ k
theorem R_new {cp ci n : Nat} {fs : List Value} (hd : decode mi.2.1 pc = .ok (.new cp, 3)) (hlk : (am_newL mi.1).lookup cp = some ci) (hf : am_bl ci = fs) (hn : am_nf ci = n) (k : Rn sA mi (pc + 3) ls (.ref z.1 :: st) (va_up h z.1 (some (.inr (ci, fs))), z.1 + 1, z.2 + n) Q) : Rn sA mi pc ls st (h, z) Q :=
  Rn.step (H' := (va_up h z.1 (some (.inr (ci, fs))), z.1 + 1, z.2 + n)) hd rfl rfl rfl (by subst hf; subst hn; simp [am_step, am_new, hlk]) ⟨Nat.le_succ _, Nat.le_add_right _ _⟩ k
theorem R_newa {i : Int32} {n : Nat} (hd : decode mi.2.1 pc = .ok (.newarray .int, 2)) (hi : i = nI n) (hn : n ≤ 100000) (k : Rn sA mi (pc + 2) ls (.ref z.1 :: st) (va_up h z.1 (some (.inl (0, n, .inl (fun _ => 0)))), z.1 + 1, z.2 + n) Q) : Rn sA mi pc ls (.int i :: st) (h, z) Q :=
  Rn.step (H' := (va_up h z.1 (some (.inl (0, n, .inl (fun _ => 0)))), z.1 + 1, z.2 + n)) hd rfl rfl rfl (by have h1 := am_iM hi hn; simp only [am_step, am_newa, if_true]; rw [if_pos ⟨h1.1, by rw [h1.2]; exact hn⟩, h1.2]) ⟨Nat.le_succ _, Nat.le_add_right _ _⟩ k
theorem R_anew {i : Int32} {n cp t : Nat} (hd : decode mi.2.1 pc = .ok (.anewarray cp, 3)) (hlk : (am_anL mi.1).lookup cp = some t) (hi : i = nI n) (hn : n ≤ 100000) (k : Rn sA mi (pc + 3) ls (.ref z.1 :: st) (va_up h z.1 (some (.inl (t, n, .inr (.inr (.inr (.inr (fun _ => none))))))), z.1 + 1, z.2 + n) Q) : Rn sA mi pc ls (.int i :: st) (h, z) Q :=
  Rn.step (H' := (va_up h z.1 (some (.inl (t, n, .inr (.inr (.inr (.inr (fun _ => none))))))), z.1 + 1, z.2 + n)) hd rfl rfl rfl (by have h1 := am_iM hi hn; simp only [am_step, am_anew, hlk]; rw [if_pos ⟨h1.1, by rw [h1.2]; exact hn⟩, h1.2]) ⟨Nat.le_succ _, Nat.le_add_right _ _⟩ k
theorem R_iald {a t n j : Nat} {i : Int32} {f : Nat → Int32} (hd : decode mi.2.1 pc = .ok (.iaload, 1)) (ha : h a = some (.inl (t, n, .inl f))) (ht : t = 0 ∨ t = 9) (hi : i = nI j) (hj : j < n) (hn : n ≤ 100000) (k : Rn sA mi (pc + 1) ls (.int (f j) :: st) (h, z) Q) : Rn sA mi pc ls (.int i :: .ref a :: st) (h, z) Q :=
  Rn.step (H' := (h, z)) hd rfl rfl rfl (by have h1 := am_iN hi hj hn; simp only [am_step, am_iald, ha]; rw [if_pos ⟨ht, h1.1, h1.2.1⟩, h1.2.2]) ⟨Nat.le_refl _, Nat.le_refl _⟩ k
theorem R_iast {a n j : Nat} {i x : Int32} {f : Nat → Int32} (hd : decode mi.2.1 pc = .ok (.iastore, 1)) (ha : h a = some (.inl (0, n, .inl f))) (hi : i = nI j) (hj : j < n) (hn : n ≤ 100000) (k : Rn sA mi (pc + 1) ls st (va_up h a (some (.inl (0, n, .inl (upd f j x)))), z) Q) : Rn sA mi pc ls (.int x :: .int i :: .ref a :: st) (h, z) Q :=
  Rn.step (H' := (va_up h a (some (.inl (0, n, .inl (upd f j x)))), z)) hd rfl rfl rfl (by have h1 := am_iN hi hj hn; simp only [am_step, am_iast, ha]; rw [if_pos ⟨trivial, h1.1, h1.2.1⟩, h1.2.2]) ⟨Nat.le_refl _, Nat.le_refl _⟩ k
theorem R_aald {a t n j : Nat} {i : Int32} {f : Nat → Option Nat} {v : Value} (hd : decode mi.2.1 pc = .ok (.aaload, 1)) (ha : h a = some (.inl (t, n, .inr (.inr (.inr (.inr f)))))) (ht : 0 < t ∧ t < 4) (hi : i = nI j) (hj : j < n) (hn : n ≤ 100000) (hv : va_rf (f j) = v) (k : Rn sA mi (pc + 1) ls (v :: st) (h, z) Q) : Rn sA mi pc ls (.int i :: .ref a :: st) (h, z) Q :=
  Rn.step (H' := (h, z)) hd rfl rfl rfl (by have h1 := am_iN hi hj hn; subst hv; simp only [am_step, am_aald, ha]; rw [if_pos ⟨ht, h1.1, h1.2.1⟩, h1.2.2]) ⟨Nat.le_refl _, Nat.le_refl _⟩ k
theorem R_aast {a b t n j ci : Nat} {i : Int32} {f : Nat → Option Nat} {fs : List Value} (hd : decode mi.2.1 pc = .ok (.aastore, 1)) (ha : h a = some (.inl (t, n, .inr (.inr (.inr (.inr f)))))) (hb : h b = some (.inr (ci, fs))) (ht : (0 < t ∧ t < 4) ∧ ci = am_comp t) (hi : i = nI j) (hj : j < n) (hn : n ≤ 100000) (k : Rn sA mi (pc + 1) ls st (va_up h a (some (.inl (t, n, .inr (.inr (.inr (.inr (va_up f j (some b)))))))), z) Q) : Rn sA mi pc ls (.ref b :: .int i :: .ref a :: st) (h, z) Q :=
  Rn.step (H' := (va_up h a (some (.inl (t, n, .inr (.inr (.inr (.inr (va_up f j (some b)))))))), z)) hd rfl rfl rfl (by have h1 := am_iN hi hj hn; simp only [am_step, am_aast, ha, hb]; rw [if_pos ⟨ht, h1.1, h1.2.1⟩, h1.2.2]) ⟨Nat.le_refl _, Nat.le_refl _⟩ k
theorem R_alen {a t n : Nat} {f : Nat → Int32} (hd : decode mi.2.1 pc = .ok (.arraylength, 1)) (ha : h a = some (.inl (t, n, .inl f))) (ht : t = 0 ∨ t = 9) (k : Rn sA mi (pc + 1) ls (.int (nI n) :: st) (h, z) Q) : Rn sA mi pc ls (.ref a :: st) (h, z) Q :=
  Rn.step (H' := (h, z)) hd rfl rfl rfl (by simp only [am_step, am_alen, ha]; rw [if_pos ht]; rfl) ⟨Nat.le_refl _, Nat.le_refl _⟩ k
theorem R_obj {a cp : Nat} (hd : decode mi.2.1 pc = .ok (.invokespecial cp, 3)) (hsp : (am_spL mi.1).lookup cp = some 0) (hcl : (am_callL mi.1).lookup cp = none) (hr : 1 ≤ mi.2.2.2.2.2.1 ∧ am_cat st + 12 ≤ mi.2.2.2.2.2.2) (k : Rn sA mi (pc + 3) ls st (h, z) Q) : Rn sA mi pc ls (.ref a :: st) (h, z) Q :=
  Rn.step hd rfl rfl (by simp only [am_call, hcl]) (by simp only [am_step, am_objI, hsp, am_obj]; rw [if_pos hr]) ⟨Nat.le_refl _, Nat.le_refl _⟩ k
theorem R_min {cp : Nat} {x y : Int32} (hd : decode mi.2.1 pc = .ok (.invokestatic cp, 3)) (hsp : (am_spL mi.1).lookup cp = some 2) (hcl : (am_callL mi.1).lookup cp = none) (hr : 1 ≤ mi.2.2.2.2.2.1 ∧ am_cat st + 13 ≤ mi.2.2.2.2.2.2) (k : Rn sA mi (pc + 3) ls (.int (if y < x then y else x) :: st) (h, z) Q) : Rn sA mi pc ls (.int y :: .int x :: st) (h, z) Q :=
  Rn.step hd rfl rfl (by simp only [am_call, hcl]) (by simp only [am_step, am_special, hsp, am_min]; rw [if_pos hr]) ⟨Nat.le_refl _, Nat.le_refl _⟩ k
theorem R_abs {cp : Nat} {x : Int32} (hd : decode mi.2.1 pc = .ok (.invokestatic cp, 3)) (hsp : (am_spL mi.1).lookup cp = some 3) (hcl : (am_callL mi.1).lookup cp = none) (hr : 1 ≤ mi.2.2.2.2.2.1 ∧ am_cat st + 13 ≤ mi.2.2.2.2.2.2) (k : Rn sA mi (pc + 3) ls (.int (if 0 ≤ x then x else 0 - x) :: st) (h, z) Q) : Rn sA mi pc ls (.int x :: st) (h, z) Q :=
  Rn.step hd rfl rfl (by simp only [am_call, hcl]) (by simp only [am_step, am_special, hsp, am_abs]; rw [if_pos hr]) ⟨Nat.le_refl _, Nat.le_refl _⟩ k
theorem R_copy {cp a a0 n0 n1 p q n : Nat} {i0 i1 i2 : Int32} {f f1 : Nat → Int32} (hd : decode mi.2.1 pc = .ok (.invokestatic cp, 3)) (hsp : (am_spL mi.1).lookup cp = some 1) (hcl : (am_callL mi.1).lookup cp = none) (ha0 : h a0 = some (.inl (0, n0, .inl f))) (ha : h a = some (.inl (0, n1, .inl f1))) (h0 : i0 = nI p) (h1 : i1 = nI q) (h2 : i2 = nI n) (hn : n0 ≤ 100000 ∧ n1 ≤ 100000) (hb : p + n ≤ n0 ∧ q + n ≤ n1) (hr : 1 ≤ mi.2.2.2.2.2.1 ∧ am_cat st + 18 ≤ mi.2.2.2.2.2.2)
    (k : Rn sA mi (pc + 3) ls st (va_up h a (some (.inl (0, n1, .inl (va_cpy f f1 p q n)))), z) Q) : Rn sA mi pc ls (.int i2 :: .int i1 :: .ref a :: .int i0 :: .ref a0 :: st) (h, z) Q := by
  obtain ⟨p0, p2⟩ := am_iM h0 (by omega)
  obtain ⟨q0, q2⟩ := am_iM h1 (by omega)
  obtain ⟨r0, r2⟩ := am_iM h2 (by omega)
  refine Rn.step (H' := (va_up h a (some (.inl (0, n1, .inl (va_cpy f f1 p q n)))), z)) hd rfl rfl (by simp only [am_call, hcl]) ?_ ⟨Nat.le_refl _, Nat.le_refl _⟩ k
  simp only [am_step, am_special, hsp, am_copy, ha0, ha]
  rw [if_pos ⟨⟨trivial, trivial⟩, ⟨p0, q0, r0⟩, ⟨by omega, by omega⟩, hr⟩, p2, q2, r2]
/-- calls: kd 0 of an object of a class of ours, 1 and 4 static, 2 and 5 constructors -/
theorem R_callV {cp n b : Nat} {mj : am_I} {As rest fs} (hd : decode mi.2.1 pc = .ok (.invokevirtual cp, 3)) (hlk : (am_callL mi.1).lookup cp = some (0, n, mj)) (hb : h b = some (.inr (mj.1, fs))) (hs : ((st.take n).reverse, st.drop n) = (As, .ref b :: rest)) (hc : (decide (As.length = n) && (Nat.ble (mj.2.2.2.2.2.1 + 1) mi.2.2.2.2.2.1 && (Nat.ble (8 + (mj.2.2.2.1 + 11) + mj.2.2.2.2.2.2) mi.2.2.2.2.2.2 && (Nat.ble (am_cat rest) 8 && Nat.ble (am_flat (.ref b :: As)).length mj.2.2.2.1)))) = true)
    (k : Rn sA mj 0 (am_entry (.ref b :: As) mj.2.2.2.1) [] (h, z) (fun r H' => Rn sA mi (pc + 3) ls (r.toList ++ rest) H' Q)) : Rn sA mi pc ls st (h, z) Q := by
  obtain ⟨e1, e2⟩ := Prod.mk.inj hs
  simp only [Bool.and_eq_true, decide_eq_true_eq, Nat.ble_eq] at hc
  obtain ⟨c1, c2, c3, c4, c5⟩ := hc
  refine Rn.call hd rfl rfl ?_ c5 k
  simp only [am_call, hlk, if_true, am_callS, e1, e2]
  rw [if_pos ⟨c1, c2, c3⟩, if_neg (by decide), if_pos c4]
  simp only [if_true, hb]
theorem R_callS {cp n kd : Nat} {mj : am_I} {As rest} (hd : decode mi.2.1 pc = .ok (.invokestatic cp, 3)) (hlk : (am_callL mi.1).lookup cp = some (kd, n, mj)) (hk : kd = 1 ∨ kd = 4) (hs : ((st.take n).reverse, st.drop n) = (As, rest)) (hc : (decide (As.length = n) && (Nat.ble (mj.2.2.2.2.2.1 + 1) mi.2.2.2.2.2.1 && (Nat.ble (8 + (mj.2.2.2.1 + 11) + mj.2.2.2.2.2.2) mi.2.2.2.2.2.2 && (Nat.ble (am_cat rest) 8 && Nat.ble (am_flat As).length mj.2.2.2.1)))) = true)
    (k : Rn sA mj 0 (am_entry As mj.2.2.2.1) [] (h, z) (fun r H' => Rn sA mi (pc + 3) ls (r.toList ++ rest) H' Q)) : Rn sA mi pc ls st (h, z) Q := by
  obtain ⟨e1, e2⟩ := Prod.mk.inj hs
  simp only [Bool.and_eq_true, decide_eq_true_eq, Nat.ble_eq] at hc
  obtain ⟨c1, c2, c3, c4, c5⟩ := hc
  refine Rn.call hd rfl rfl ?_ c5 k
  simp only [am_call, hlk, if_pos hk, am_callS, e1, e2]
  rw [if_pos ⟨c1, c2, c3⟩, if_pos c4]
theorem R_callI {cp n kd b : Nat} {mj : am_I} {As rest} (hd : decode mi.2.1 pc = .ok (.invokespecial cp, 3)) (hlk : (am_callL mi.1).lookup cp = some (kd, n, mj)) (hk : kd = 2 ∨ kd = 5) (hs : ((st.take n).reverse, st.drop n) = (As, .ref b :: rest)) (hc : (decide (As.length = n) && (Nat.ble (mj.2.2.2.2.2.1 + 1) mi.2.2.2.2.2.1 && (Nat.ble (8 + (mj.2.2.2.1 + 11) + mj.2.2.2.2.2.2) mi.2.2.2.2.2.2 && (Nat.ble (am_cat rest) 8 && Nat.ble (am_flat (.ref b :: As)).length mj.2.2.2.1)))) = true)
    (k : Rn sA mj 0 (am_entry (.ref b :: As) mj.2.2.2.1) [] (h, z) (fun r H' => Rn sA mi (pc + 3) ls (r.toList ++ rest) H' Q)) : Rn sA mi pc ls st (h, z) Q := by
  obtain ⟨e1, e2⟩ := Prod.mk.inj hs
  simp only [Bool.and_eq_true, decide_eq_true_eq, Nat.ble_eq] at hc
  obtain ⟨c1, c2, c3, c4, c5⟩ := hc
  refine Rn.call hd rfl rfl ?_ c5 k
  simp only [am_call, hlk, if_pos hk, am_callS, e1, e2]
  rw [if_pos ⟨c1, c2, c3⟩, if_neg (by rcases hk with rfl | rfl <;> decide), if_pos c4, if_neg (by rcases hk with rfl | rfl <;> decide)]
/-- ends -/
theorem R_iret {x : Int32} (hd : decode mi.2.1 pc = .ok (.ireturn, 1)) (ht : mi.2.2.2.2.1 = some .int) (q : Q (some (.int x)) (h, z)) : Rn sA mi pc ls [.int x] (h, z) Q := Rn.ret hd rfl (by simp only [am_ret, ht]) q
theorem R_zret {x : Int32} (hd : decode mi.2.1 pc = .ok (.ireturn, 1)) (ht : mi.2.2.2.2.1 = some .boolean) (hx : x = 0 ∨ x = 1) (q : Q (some (.int x)) (h, z)) : Rn sA mi pc ls [.int x] (h, z) Q := Rn.ret hd rfl (by simp only [am_ret, ht]; rw [if_pos hx]) q
theorem R_lret {x : Int64} (hd : decode mi.2.1 pc = .ok (.lreturn, 1)) (ht : mi.2.2.2.2.1 = some .long) (q : Q (some (.long x)) (h, z)) : Rn sA mi pc ls [.long x] (h, z) Q := Rn.ret hd rfl (by simp only [am_ret, ht]) q
theorem R_fret {x : UInt32} (hd : decode mi.2.1 pc = .ok (.freturn, 1)) (ht : mi.2.2.2.2.1 = some .float) (q : Q (some (.float x)) (h, z)) : Rn sA mi pc ls [.float x] (h, z) Q := Rn.ret hd rfl (by simp only [am_ret, ht]) q
theorem R_aret {x : Nat} {cn : String} (hd : decode mi.2.1 pc = .ok (.areturn, 1)) (ht : mi.2.2.2.2.1 = some (.object cn)) (q : Q (some (.ref x)) (h, z)) : Rn sA mi pc ls [.ref x] (h, z) Q := Rn.ret hd rfl (by simp only [am_ret, ht]) q
theorem R_vret (hd : decode mi.2.1 pc = .ok (.return_, 1)) (ht : mi.2.2.2.2.1 = none) (q : Q none (h, z)) : Rn sA mi pc ls [] (h, z) Q := Rn.ret hd rfl (by simp only [am_ret, ht]) q
end RNS
