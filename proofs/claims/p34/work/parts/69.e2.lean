section CE2
variable {sA : Nat} {h : Nat → Option am_C} {z : Nat × Nat} {Q : Option Value → am_H → Prop}
theorem c11_setting {x B Y pm fl l : Nat} {PA IM T U : Nat → Int32} {fk fp : Int32} {a : Int32} {g : Nat → Int32} (r : RstI h z x B Y PA pm IM fl T l fk fp) (st : StW h (x + 1) U) (hst : h sA = some (.inl (9, 4, .inl g))) (hB : (∀ k, k < 4 → ¬ a = nI k) → Q (some (.int (-1000001))) (h, z)) (hG : ∀ k, k < 4 → a = nI k → Q (some (.int (U (12 + k)))) (h, z)) : Rn sA mX11_setting 0 [some (.ref x), some (.int a)] [] (h, z) Q := by
  have hx := r.2.1
  have st9 := st
  obtain ⟨P, Wd, n, pe, K, R, se, co, sa, sr⟩ := st9
  have sa1 := sa.1
  refine R_iload_n (pc := 0) dX11_setting_0 rfl ?_
  refine R_callS (pc := 1) dX11_setting_1 rfl (Or.inl rfl) rfl rfl ?_
  refine c_isSetting hst (fun j hj e => ?_) (fun e => ?_)
  · subst e
    refine R_if_eq (pc := 4) (t := 18) dX11_setting_4 (by decide) (fun hz9 => absurd hz9 (by decide)) (fun _ => ?_)
    refine R_aload_n (pc := 7) dX11_setting_7 rfl ?_
    refine R_getf (pc := 8) dX11_setting_8 rfl (by repeat (first | assumption | exact up_s | refine up_n (by omega) ?_)) rfl ?_
    refine R_iload_n (pc := 11) dX11_setting_11 rfl ?_
    refine R_callV (pc := 12) dX11_setting_12 rfl (by repeat (first | assumption | exact up_s | refine up_n (by omega) ?_)) rfl rfl ?_
    refine c8_settingOf sa hst hj ?_
    rw [sr.2.2.2.2.1 j hj]
    refine R_goto (pc := 15) (t := 20) dX11_setting_15 (by decide) ?_
    refine R_iret (pc := 20) dX11_setting_20 rfl ?_
    first
      | exact hB e
      | exact hG j hj rfl
  · refine R_if_eq (pc := 4) (t := 18) dX11_setting_4 (by decide) (fun _ => ?_) (fun hz9 => absurd hz9 (by decide))
    refine R_ldc (pc := 18) (x := (-1000001)) dX11_setting_18 rfl ?_
    refine R_iret (pc := 20) dX11_setting_20 rfl ?_
    first
      | exact hB e
      | exact hG j hj rfl
theorem c11_line {x B Y pm fl l : Nat} {PA IM T U : Nat → Int32} {fk fp : Int32} {a b : Int32} {n1 : Nat} (r : RstI h z x B Y PA pm IM fl T l fk fp) (st : StW h (x + 1) U) (hn : n1 ≤ 161) (hw : U 1304 = nI n1) (hB : (∀ l k, ¬ (l < n1 ∧ k < 9 ∧ a = nI l ∧ b = nI k)) → Q (some (.int (-1000001))) (h, z)) (hG : ∀ l k, l < n1 → k < 9 → a = nI l → b = nI k → Q (some (.int (U (1305 + 9 * l + k)))) (h, z)) : Rn sA mX11_line 0 [some (.ref x), some (.int a), some (.int b)] [] (h, z) Q := by
  have hx := r.2.1
  have st9 := st
  obtain ⟨P, Wd, n, pe, K, R, se, co, sa, sr⟩ := st9
  have sa1 := sa.1
  obtain rfl : R.1 = n1 := by
    have e := sr.2.2.2.1.1.symm.trans hw
    have := sr.2.2.2.1.2.1
    exact (nI_eq (by omega) (by omega)).mp e
  refine R_aload_n (pc := 0) dX11_line_0 rfl ?_
  refine R_getf (pc := 1) dX11_line_1 rfl (by repeat (first | assumption | exact up_s | refine up_n (by omega) ?_)) rfl ?_
  refine R_getf (pc := 4) dX11_line_4 rfl (by repeat (first | assumption | exact up_s | refine up_n (by omega) ?_)) rfl ?_
  refine R_iload_n (pc := 7) dX11_line_7 rfl ?_
  refine R_callV (pc := 8) dX11_line_8 rfl sa.2.2.2.1.1 rfl rfl ?_
  refine c5_has sa.2.2.2.1 hn (fun c hc e => ?_) (fun e => ?_)
  · subst e
    refine R_if_eq (pc := 11) (t := 24) dX11_line_11 (by decide) (fun hz9 => absurd hz9 (by decide)) (fun _ => ?_)
    refine R_iload_n (pc := 14) dX11_line_14 rfl ?_
    refine R_iconst (pc := 15) (x := nI 0) dX11_line_15 rfl ?_
    refine R_bipush (pc := 16) (x := nI 8) dX11_line_16 (by decide) ?_
    refine R_callS (pc := 18) dX11_line_18 rfl (Or.inl rfl) rfl rfl ?_
    refine c_inG (a := 0) (b := 8) rfl rfl (by omega) (by omega) (fun k _ hk e2 => ?_) (fun e2 => ?_)
    · subst e2
      refine R_if_ne (pc := 21) (t := 27) dX11_line_21 (by decide) (fun _ => ?_) (fun hz9 => absurd hz9 (by decide))
      refine R_aload_n (pc := 27) dX11_line_27 rfl ?_
      refine R_getf (pc := 28) dX11_line_28 rfl (by repeat (first | assumption | exact up_s | refine up_n (by omega) ?_)) rfl ?_
      refine R_getf (pc := 31) dX11_line_31 rfl (by repeat (first | assumption | exact up_s | refine up_n (by omega) ?_)) rfl ?_
      refine R_iload_n (pc := 34) dX11_line_34 rfl ?_
      refine R_iload_n (pc := 35) dX11_line_35 rfl ?_
      refine R_callV (pc := 36) dX11_line_36 rfl sa.2.2.2.1.1 rfl rfl ?_
      refine c5_number sa.2.2.2.1 hn hc (by omega) ?_
      rw [sr.2.2.2.1.2.2.2.2.2.1 c hc k (by omega)]
      refine R_iret (pc := 39) dX11_line_39 rfl ?_
      first
        | exact hB (fun f k q => e f q.1 q.2.2.1)
        | exact hB (fun f k q => e2 k (by omega) (by omega) q.2.2.2)
        | exact hG c k hc (by omega) rfl rfl
    · refine R_if_ne (pc := 21) (t := 27) dX11_line_21 (by decide) (fun hz9 => absurd hz9 (by decide)) (fun _ => ?_)
      refine R_ldc (pc := 24) (x := (-1000001)) dX11_line_24 rfl ?_
      refine R_iret (pc := 26) dX11_line_26 rfl ?_
      first
        | exact hB (fun f k q => e f q.1 q.2.2.1)
        | exact hB (fun f k q => e2 k (by omega) (by omega) q.2.2.2)
        | exact hG c k hc (by omega) rfl rfl
  · refine R_if_eq (pc := 11) (t := 24) dX11_line_11 (by decide) (fun _ => ?_) (fun hz9 => absurd hz9 (by decide))
    refine R_ldc (pc := 24) (x := (-1000001)) dX11_line_24 rfl ?_
    refine R_iret (pc := 26) dX11_line_26 rfl ?_
    first
      | exact hB (fun f k q => e f q.1 q.2.2.1)
      | exact hB (fun f k q => e2 k (by omega) (by omega) q.2.2.2)
      | exact hG c k hc (by omega) rfl rfl
theorem c11_reason {x B Y pm fl l : Nat} {PA IM T U : Nat → Int32} {fk fp : Int32} {a : Int32} {n1 : Nat} (r : RstI h z x B Y PA pm IM fl T l fk fp) (st : StW h (x + 1) U) (hn : n1 ≤ 40) (hw : U 1062 = nI n1) (hB : (∀ k, k < n1 → ¬ a = nI k) → Q (some (.int (-1000001))) (h, z)) (hG : ∀ k, k < n1 → a = nI k → Q (some (.int (U (1063 + k)))) (h, z)) : Rn sA mX11_reason 0 [some (.ref x), some (.int a)] [] (h, z) Q := by
  have hx := r.2.1
  have st9 := st
  obtain ⟨P, Wd, n, pe, K, R, se, co, sa, sr⟩ := st9
  have sa1 := sa.1
  obtain rfl : R.2.1 = n1 := by
    have e := sr.2.2.2.1.2.2.1.symm.trans hw
    have := sr.2.2.2.1.2.2.2.1
    exact (nI_eq (by omega) (by omega)).mp e
  refine R_aload_n (pc := 0) dX11_reason_0 rfl ?_
  refine R_getf (pc := 1) dX11_reason_1 rfl (by repeat (first | assumption | exact up_s | refine up_n (by omega) ?_)) rfl ?_
  refine R_getf (pc := 4) dX11_reason_4 rfl (by repeat (first | assumption | exact up_s | refine up_n (by omega) ?_)) rfl ?_
  refine R_iload_n (pc := 7) dX11_reason_7 rfl ?_
  refine R_callV (pc := 8) dX11_reason_8 rfl sa.2.2.2.1.1 rfl rfl ?_
  refine c5_hadCard sa.2.2.2.1 hn (fun c hc e => ?_) (fun e => ?_)
  · subst e
    refine R_if_eq (pc := 11) (t := 28) dX11_reason_11 (by decide) (fun hz9 => absurd hz9 (by decide)) (fun _ => ?_)
    refine R_aload_n (pc := 14) dX11_reason_14 rfl ?_
    refine R_getf (pc := 15) dX11_reason_15 rfl (by repeat (first | assumption | exact up_s | refine up_n (by omega) ?_)) rfl ?_
    refine R_getf (pc := 18) dX11_reason_18 rfl (by repeat (first | assumption | exact up_s | refine up_n (by omega) ?_)) rfl ?_
    refine R_iload_n (pc := 21) dX11_reason_21 rfl ?_
    refine R_callV (pc := 22) dX11_reason_22 rfl sa.2.2.2.1.1 rfl rfl ?_
    refine c5_reasonOf sa.2.2.2.1 hn hc ?_
    rw [sr.2.2.2.1.2.2.2.2.2.2.2 c hc]
    refine R_goto (pc := 25) (t := 30) dX11_reason_25 (by decide) ?_
    refine R_iret (pc := 30) dX11_reason_30 rfl ?_
    first
      | exact hB e
      | exact hG c hc rfl
  · refine R_if_eq (pc := 11) (t := 28) dX11_reason_11 (by decide) (fun _ => ?_) (fun hz9 => absurd hz9 (by decide))
    refine R_ldc (pc := 28) (x := (-1000001)) dX11_reason_28 rfl ?_
    refine R_iret (pc := 30) dX11_reason_30 rfl ?_
    first
      | exact hB e
      | exact hG c hc rfl
theorem RstI.txt {h' : Nat → Option am_C} {z : Nat × Nat} {x B Y : Nat} {PA : Nat → Int32} {pm : Nat} {IM : Nat → Int32} {fl : Nat} {T : Nat → Int32} {l : Nat} {fk fp : Int32} {T2 : Nat → Int32} {l2 : Nat} {fk2 fp2 : Int32} (a : RstI h z x B Y PA pm IM fl T l fk fp) (b : TxW h' (x + 97) T2 l2 fk2 fp2) (hl : l2 ≤ 50) (e : ∀ y, (y < x + 97 ∨ x + 97 + 4 ≤ y) → h' y = h y) : RstI h' z x B Y PA pm IM fl T2 l2 fk2 fp2 := by
  obtain ⟨a1, a2, ⟨old, F, a3, a4, a5⟩, a6, a7⟩ := a
  exact ⟨a1, (e x (by omega)).trans a2, ⟨old, F, a3.fr a5 (e _ (by omega)) (e _ (by omega)) (fun y hy => e y (by omega)), a4.fr a5 (e _ (by omega)) (fun y hy => e y (by omega)), a5.fr (fun y hy => e y (by omega))⟩, b, hl⟩
theorem c11_wipe {x B Y pm fl l : Nat} {PA IM T : Nat → Int32} {fk fp : Int32} (r : RstI h z x B Y PA pm IM fl T l fk fp) (hQ : ∀ h2 : Nat → Option am_C, RstI h2 z x B Y PA pm IM fl T 0 fk fp → (∀ a, (a < x + 97 ∨ x + 101 ≤ a) → h2 a = h a) → Q (some (.int (nI l))) (h2, z)) : Rn sA mX11_wipe 0 [some (.ref x), none] [] (h, z) Q := by
  have hx := r.2.1
  have tx := r.2.2.2.1
  have tx9 := tx
  obtain ⟨t2, t3, wv, tx1, tx2, tx3, tx4⟩ := tx9
  refine R_aload_n (pc := 0) dX11_wipe_0 rfl ?_
  refine R_getf (pc := 1) dX11_wipe_1 rfl (by repeat (first | assumption | exact up_s | refine up_n (by omega) ?_)) rfl ?_
  refine R_callV (pc := 4) dX11_wipe_4 rfl (by repeat (first | assumption | exact up_s | refine up_n (by omega) ?_)) rfl rfl ?_
  refine c9_size tx ?_
  refine R_istore_n (pc := 7) dX11_wipe_7 (Nat.le_of_ble_eq_true rfl) rfl ?_
  refine R_aload_n (pc := 8) dX11_wipe_8 rfl ?_
  refine R_getf (pc := 9) dX11_wipe_9 rfl (by repeat (first | assumption | exact up_s | refine up_n (by omega) ?_)) rfl ?_
  refine R_callV (pc := 12) dX11_wipe_12 rfl (by repeat (first | assumption | exact up_s | refine up_n (by omega) ?_)) rfl rfl ?_
  refine c9_clear tx (fun h2 q1 q2 => ?_)
  refine R_iload_n (pc := 15) dX11_wipe_15 rfl ?_
  refine R_iret (pc := 16) dX11_wipe_16 rfl ?_
  exact hQ h2 (r.txt q1 (by omega) q2) (fun a ha => q2 a (by omega))
theorem c11_write {x B Y pm fl l : Nat} {PA IM T : Nat → Int32} {fk fp : Int32} {a : Int32} (r : RstI h z x B Y PA pm IM fl T l fk fp) (hB : (∀ x, 32 ≤ x → x ≤ 126 → ¬ a = nI x) → Q (some (.int (-1000001))) (h, z)) (hF : ∀ x, 32 ≤ x → x ≤ 126 → a = nI x → l = 50 → Q (some (.int (-1000003))) (h, z)) (hG : ∀ y, 32 ≤ y → y ≤ 126 → a = nI y → l < 50 → ∀ h2 : Nat → Option am_C, RstI h2 z x B Y PA pm IM fl (upd T l a) (l + 1) fk fp → (∀ a, (a < x + 97 ∨ x + 101 ≤ a) → h2 a = h a) → Q (some (.int (nI (l + 1)))) (h2, z)) : Rn sA mX11_write 0 [some (.ref x), some (.int a)] [] (h, z) Q := by
  have hx := r.2.1
  have tx := r.2.2.2.1
  have tx9 := tx
  obtain ⟨t2, t3, wv, tx1, tx2, tx3, tx4⟩ := tx9
  have hl5 := r.2.2.2.2
  refine R_iload_n (pc := 0) dX11_write_0 rfl ?_
  refine R_bipush (pc := 1) (x := nI 32) dX11_write_1 (by decide) ?_
  refine R_bipush (pc := 3) (x := nI 126) dX11_write_3 (by decide) ?_
  refine R_callS (pc := 5) dX11_write_5 rfl (Or.inl rfl) rfl rfl ?_
  refine c_inG (a := 32) (b := 126) rfl rfl (by omega) (by omega) (fun k k1 k2 e2 => ?_) (fun e2 => ?_)
  · refine R_if_ne (pc := 8) (t := 14) dX11_write_8 (by decide) (fun _ => ?_) (fun hz9 => absurd hz9 (by decide))
    refine R_aload_n (pc := 14) dX11_write_14 rfl ?_
    refine R_getf (pc := 15) dX11_write_15 rfl (by repeat (first | assumption | exact up_s | refine up_n (by omega) ?_)) rfl ?_
    refine R_callV (pc := 18) dX11_write_18 rfl (by repeat (first | assumption | exact up_s | refine up_n (by omega) ?_)) rfl rfl ?_
    refine c9_size tx ?_
    refine R_bipush (pc := 21) (x := nI 50) dX11_write_21 (by decide) ?_
    refine R_icmp_lt (pc := 23) (t := 29) dX11_write_23 (by decide) (fun h23 => ?_) (fun h23 => ?_)
    · have l5 : l < 50 := by
        refine Decidable.byContradiction (fun q => ?_)
        exact nI_nlt (a := l) (b := 50) (by omega) (by omega) h23
      refine R_aload_n (pc := 29) dX11_write_29 rfl ?_
      refine R_getf (pc := 30) dX11_write_30 rfl (by repeat (first | assumption | exact up_s | refine up_n (by omega) ?_)) rfl ?_
      refine R_iload_n (pc := 33) dX11_write_33 rfl ?_
      refine R_callV (pc := 34) dX11_write_34 rfl (by repeat (first | assumption | exact up_s | refine up_n (by omega) ?_)) rfl rfl ?_
      refine c9_append tx l5 (fun h2 q1 q2 => ?_)
      have hx2 := (q2 x (by omega)).trans hx
      have q19 := q1
      obtain ⟨u2, u3, uv, q11, -⟩ := q19
      refine R_aload_n (pc := 37) dX11_write_37 rfl ?_
      refine R_getf (pc := 38) dX11_write_38 rfl (by repeat (first | assumption | exact up_s | refine up_n (by omega) ?_)) rfl ?_
      refine R_callV (pc := 41) dX11_write_41 rfl (by repeat (first | assumption | exact up_s | refine up_n (by omega) ?_)) rfl rfl ?_
      refine c9_size q1 ?_
      refine R_iret (pc := 44) dX11_write_44 rfl ?_
      first
        | exact hB e2
        | exact hF k k1 k2 e2 l5
        | exact hG k k1 k2 e2 l5 h2 (r.txt q1 (by omega) q2) (fun a ha => q2 a (by omega))
    · have l5 : l = 50 := by
        refine Decidable.byContradiction (fun q => h23 (nI_lt (by omega) (by omega)))
      refine R_ldc (pc := 26) (x := (-1000003)) dX11_write_26 rfl ?_
      refine R_iret (pc := 28) dX11_write_28 rfl ?_
      first
        | exact hB e2
        | exact hF k k1 k2 e2 l5
        | exact hG k k1 k2 e2 l5 h2 (r.txt q1 (by omega) q2) (fun a ha => q2 a (by omega))
  · refine R_if_ne (pc := 8) (t := 14) dX11_write_8 (by decide) (fun hz9 => absurd hz9 (by decide)) (fun _ => ?_)
    refine R_ldc (pc := 11) (x := (-1000001)) dX11_write_11 rfl ?_
    refine R_iret (pc := 13) dX11_write_13 rfl ?_
    first
      | exact hB e2
      | exact hF k k1 k2 e2 l5
      | exact hG k k1 k2 e2 l5 h2 (r.txt q1 (by omega) q2) (fun a ha => q2 a (by omega))
end CE2
