section MOD8
variable {sA : Nat} {h : Nat → Option am_C} {z : Nat × Nat} {Q : Option Value → am_H → Prop} {M : Nat} {A : Nat → Nat → Int32} {S : Nat → Int32}
theorem s12_write {a : Int32} {l : Nat} (hl : l ≤ 50) (hS : S 6 = nI l) (hB : (∀ x, 32 ≤ x → x ≤ 126 → ¬ a = nI x) → Q (some (.int (-1000001))) (putM h M A S, z)) (hF : ∀ x, 32 ≤ x → x ≤ 126 → a = nI x → l = 50 → Q (some (.int (-1000003))) (putM h M A S, z)) (hG : ∀ x, 32 ≤ x → x ≤ 126 → a = nI x → l < 50 → Q (some (.int (nI (l + 1)))) (putM h M (va_up A 4 (upd (A 4) l a)) (va_up S 6 (nI (l + 1))), z)) : Rn sA mX12_write 0 [some (.ref M), some (.int a)] [] (putM h M A S, z) Q := by
  refine R_iload_n (pc := 0) dX12_write_0 rfl ?_
  refine R_bipush (pc := 1) (x := nI 32) dX12_write_1 (by decide) ?_
  refine R_bipush (pc := 3) (x := nI 126) dX12_write_3 (by decide) ?_
  refine R_callS (pc := 5) dX12_write_5 rfl (Or.inl rfl) rfl rfl ?_
  refine s12_inG (a := 32) (b := 126) (by first | rfl | decide) (by first | rfl | decide) (by omega) (by omega) (fun x xa xb e => ?_) (fun e => ?_)
  · subst e
    refine R_if_ne (pc := 8) (t := 14) dX12_write_8 (by decide) (fun _ => ?_) (fun hz9 => absurd hz9 (by decide))
    refine R_aload_n (pc := 14) dX12_write_14 rfl ?_
    refine M_g (pc := 15) dX12_write_15 rfl rfl ?_
    refine R_bipush (pc := 18) (x := nI 50) dX12_write_18 (by decide) ?_
    refine R_icmp_ne (pc := 20) (t := 26) dX12_write_20 (by decide) (fun h20 => ?_) (fun h20 => ?_)
    · have h20 : ¬ l = 50 := fun q => h20 (by rw [hS, q])
      refine R_aload_n (pc := 26) dX12_write_26 rfl ?_
      refine M_g (pc := 27) dX12_write_27 rfl rfl ?_
      refine R_aload_n (pc := 30) dX12_write_30 rfl ?_
      refine M_g (pc := 31) dX12_write_31 rfl rfl ?_
      refine R_iload_n (pc := 34) dX12_write_34 rfl ?_
      refine M_ast (pc := 35) dX12_write_35 hS (by simp only [mol4]; omega) ?_
      refine R_aload_n (pc := 36) dX12_write_36 rfl ?_
      refine R_dup (pc := 37) dX12_write_37 rfl ?_
      refine M_g (pc := 38) dX12_write_38 rfl rfl ?_
      refine R_iconst (pc := 41) (x := nI 1) dX12_write_41 rfl ?_
      refine R_iadd (pc := 42) dX12_write_42 ?_
      refine M_p (pc := 43) dX12_write_43 rfl rfl ?_
      refine R_aload_n (pc := 46) dX12_write_46 rfl ?_
      refine M_g (pc := 47) dX12_write_47 rfl rfl ?_
      refine R_iret (pc := 50) dX12_write_50 rfl ?_
      first
        | exact hB e
        | exact hF x xa xb rfl h20
        | (rw [hS, nI_add]
           exact hG x xa xb rfl (by omega))
    · have h20 : l = 50 := (nI_eq (by omega) (by omega)).mp (hS.symm.trans h20)
      refine R_ldc (pc := 23) (x := (-1000003)) dX12_write_23 rfl ?_
      refine R_iret (pc := 25) dX12_write_25 rfl ?_
      first
        | exact hB e
        | exact hF x xa xb rfl h20
        | (rw [hS, nI_add]
           exact hG x xa xb rfl (by omega))
  · refine R_if_ne (pc := 8) (t := 14) dX12_write_8 (by decide) (fun hz9 => absurd hz9 (by decide)) (fun _ => ?_)
    refine R_ldc (pc := 11) (x := (-1000001)) dX12_write_11 rfl ?_
    refine R_iret (pc := 13) dX12_write_13 rfl ?_
    first
      | exact hB e
      | exact hF x xa xb rfl h20
      | (rw [hS, nI_add]
         exact hG x xa xb rfl (by omega))
theorem s12_wipe  (hQ : Q (some (.int (S 6))) (putM h M A (va_up S 6 (nI 0)), z)) : Rn sA mX12_wipe 0 [some (.ref M), none] [] (putM h M A S, z) Q := by
  refine R_aload_n (pc := 0) dX12_wipe_0 rfl ?_
  refine M_g (pc := 1) dX12_wipe_1 rfl rfl ?_
  refine R_istore_n (pc := 4) dX12_wipe_4 (Nat.le_of_ble_eq_true rfl) rfl ?_
  refine R_aload_n (pc := 5) dX12_wipe_5 rfl ?_
  refine R_iconst (pc := 6) (x := nI 0) dX12_wipe_6 rfl ?_
  refine M_p (pc := 7) dX12_wipe_7 rfl rfl ?_
  refine R_iload_n (pc := 10) dX12_wipe_10 rfl ?_
  refine R_iret (pc := 11) dX12_wipe_11 rfl ?_
  exact hQ
theorem s12_fault {a : Int32} (hQ : Q (some (.int (if a = 0 then S 7 else if a = nI 1 then S 8 else (-1000001)))) (putM h M A S, z)) : Rn sA mX12_fault 0 [some (.ref M), some (.int a)] [] (putM h M A S, z) Q := by
  refine R_iload_n (pc := 0) dX12_fault_0 rfl ?_
  refine R_if_ne (pc := 1) (t := 11) dX12_fault_1 (by decide) (fun h1 => ?_) (fun h1 => ?_)
  · refine R_iload_n (pc := 11) dX12_fault_11 rfl ?_
    refine R_iconst (pc := 12) (x := nI 1) dX12_fault_12 rfl ?_
    refine R_icmp_ne (pc := 13) (t := 23) dX12_fault_13 (by decide) (fun h13 => ?_) (fun h13 => ?_)
    · refine R_ldc (pc := 23) (x := (-1000001)) dX12_fault_23 rfl ?_
      refine R_iret (pc := 25) dX12_fault_25 rfl ?_
      first
        | (rw [if_pos h1] at hQ; exact hQ)
        | (rw [if_neg h1, if_pos h13] at hQ; exact hQ)
        | (rw [if_neg h1, if_neg h13] at hQ; exact hQ)
    · refine R_aload_n (pc := 16) dX12_fault_16 rfl ?_
      refine M_g (pc := 17) dX12_fault_17 rfl rfl ?_
      refine R_goto (pc := 20) (t := 25) dX12_fault_20 (by decide) ?_
      refine R_iret (pc := 25) dX12_fault_25 rfl ?_
      first
        | (rw [if_pos h1] at hQ; exact hQ)
        | (rw [if_neg h1, if_pos h13] at hQ; exact hQ)
        | (rw [if_neg h1, if_neg h13] at hQ; exact hQ)
  · refine R_aload_n (pc := 4) dX12_fault_4 rfl ?_
    refine M_g (pc := 5) dX12_fault_5 rfl rfl ?_
    refine R_goto (pc := 8) (t := 25) dX12_fault_8 (by decide) ?_
    refine R_iret (pc := 25) dX12_fault_25 rfl ?_
    first
      | (rw [if_pos h1] at hQ; exact hQ)
      | (rw [if_neg h1, if_pos h13] at hQ; exact hQ)
      | (rw [if_neg h1, if_neg h13] at hQ; exact hQ)
theorem s12_setting {a : Int32} (hB : (∀ k, k < 4 → ¬ a = nI k) → Q (some (.int (-1000001))) (putM h M A S, z)) (hG : ∀ k, k < 4 → a = nI k → Q (some (.int (A 1 (12 + k)))) (putM h M A S, z)) : Rn sA mX12_setting 0 [some (.ref M), some (.int a)] [] (putM h M A S, z) Q := by
  refine R_iload_n (pc := 0) dX12_setting_0 rfl ?_
  refine R_iconst (pc := 1) (x := nI 0) dX12_setting_1 rfl ?_
  refine R_iconst (pc := 2) (x := nI 3) dX12_setting_2 rfl ?_
  refine R_callS (pc := 3) dX12_setting_3 rfl (Or.inl rfl) rfl rfl ?_
  refine s12_inG (a := 0) (b := 3) (by first | rfl | decide) (by first | rfl | decide) (by omega) (by omega) (fun k ka kb e => ?_) (fun e => ?_)
  · subst e
    refine R_if_eq (pc := 6) (t := 21) dX12_setting_6 (by decide) (fun hz9 => absurd hz9 (by decide)) (fun _ => ?_)
    refine R_aload_n (pc := 9) dX12_setting_9 rfl ?_
    refine M_g (pc := 10) dX12_setting_10 rfl rfl ?_
    refine R_bipush (pc := 13) (x := nI 12) dX12_setting_13 (by decide) ?_
    refine R_iload_n (pc := 15) dX12_setting_15 rfl ?_
    refine R_iadd (pc := 16) dX12_setting_16 ?_
    refine M_ald (pc := 17) dX12_setting_17 (by first | with_reducible rfl | (simp only [nI_add, pk_mul]; exact rfl)) (by simp only [mol1, mol2, mol3, mol4, mol5, mol6, mol7, mol8, mol9, mol10, mol11, mol12, mol13]; omega) ?_
    refine R_goto (pc := 18) (t := 23) dX12_setting_18 (by decide) ?_
    refine R_iret (pc := 23) dX12_setting_23 rfl ?_
    first
      | exact hB (fun k hk => e k (Nat.zero_le _) (by omega))
      | exact hG k (by omega) rfl
  · refine R_if_eq (pc := 6) (t := 21) dX12_setting_6 (by decide) (fun _ => ?_) (fun hz9 => absurd hz9 (by decide))
    refine R_ldc (pc := 21) (x := (-1000001)) dX12_setting_21 rfl ?_
    refine R_iret (pc := 23) dX12_setting_23 rfl ?_
    first
      | exact hB (fun k hk => e k (Nat.zero_le _) (by omega))
      | exact hG k (by omega) rfl
theorem s12_field {a b : Int32} (hB : (∀ f k, ¬ (f < 6 ∧ k < 2 ∧ a = nI f ∧ b = nI k)) → Q (some (.int (-1000001))) (putM h M A S, z)) (hG : ∀ f k, f < 6 → k < 2 → a = nI f → b = nI k → Q (some (.int (A 1 (0 + 2 * f + k)))) (putM h M A S, z)) : Rn sA mX12_field 0 [some (.ref M), some (.int a), some (.int b)] [] (putM h M A S, z) Q := by
  refine R_iload_n (pc := 0) dX12_field_0 rfl ?_
  refine R_callS (pc := 1) dX12_field_1 rfl (Or.inl rfl) rfl rfl ?_
  refine s12_isField (fun f hf e => ?_) (fun e => ?_)
  · subst e
    refine R_if_eq (pc := 4) (t := 31) dX12_field_4 (by decide) (fun hz9 => absurd hz9 (by decide)) (fun _ => ?_)
    refine R_iload_n (pc := 7) dX12_field_7 rfl ?_
    refine R_iconst (pc := 8) (x := nI 0) dX12_field_8 rfl ?_
    refine R_iconst (pc := 9) (x := nI 1) dX12_field_9 rfl ?_
    refine R_callS (pc := 10) dX12_field_10 rfl (Or.inl rfl) rfl rfl ?_
    refine s12_inG (a := 0) (b := 1) (by first | rfl | decide) (by first | rfl | decide) (by omega) (by omega) (fun k ka kb e2 => ?_) (fun e2 => ?_)
    · subst e2
      refine R_if_eq (pc := 13) (t := 31) dX12_field_13 (by decide) (fun hz9 => absurd hz9 (by decide)) (fun _ => ?_)
      refine R_aload_n (pc := 16) dX12_field_16 rfl ?_
      refine M_g (pc := 17) dX12_field_17 rfl rfl ?_
      refine R_iconst (pc := 20) (x := nI 0) dX12_field_20 rfl ?_
      refine R_iconst (pc := 21) (x := nI 2) dX12_field_21 rfl ?_
      refine R_iload_n (pc := 22) dX12_field_22 rfl ?_
      refine R_imul (pc := 23) dX12_field_23 ?_
      refine R_iadd (pc := 24) dX12_field_24 ?_
      refine R_iload_n (pc := 25) dX12_field_25 rfl ?_
      refine R_iadd (pc := 26) dX12_field_26 ?_
      refine M_ald (pc := 27) dX12_field_27 (by first | with_reducible rfl | (simp only [nI_add, pk_mul]; exact rfl)) (by simp only [mol1, mol2, mol3, mol4, mol5, mol6, mol7, mol8, mol9, mol10, mol11, mol12, mol13]; omega) ?_
      refine R_goto (pc := 28) (t := 33) dX12_field_28 (by decide) ?_
      refine R_iret (pc := 33) dX12_field_33 rfl ?_
      first
        | exact hB (fun f k hz => e f hz.1 hz.2.2.1)
        | exact hB (fun f k hz => e2 k (Nat.zero_le _) (by have := hz.2.1; omega) hz.2.2.2)
        | exact hG f k hf (by omega) rfl rfl
    · refine R_if_eq (pc := 13) (t := 31) dX12_field_13 (by decide) (fun _ => ?_) (fun hz9 => absurd hz9 (by decide))
      refine R_ldc (pc := 31) (x := (-1000001)) dX12_field_31 rfl ?_
      refine R_iret (pc := 33) dX12_field_33 rfl ?_
      first
        | exact hB (fun f k hz => e f hz.1 hz.2.2.1)
        | exact hB (fun f k hz => e2 k (Nat.zero_le _) (by have := hz.2.1; omega) hz.2.2.2)
        | exact hG f k hf (by omega) rfl rfl
  · refine R_if_eq (pc := 4) (t := 31) dX12_field_4 (by decide) (fun _ => ?_) (fun hz9 => absurd hz9 (by decide))
    refine R_ldc (pc := 31) (x := (-1000001)) dX12_field_31 rfl ?_
    refine R_iret (pc := 33) dX12_field_33 rfl ?_
    first
      | exact hB (fun f k hz => e f hz.1 hz.2.2.1)
      | exact hB (fun f k hz => e2 k (Nat.zero_le _) (by have := hz.2.1; omega) hz.2.2.2)
      | exact hG f k hf (by omega) rfl rfl
theorem s12_column {a b : Int32} {n : Nat} (hn : n ≤ 40) (hw : A 1 19 = nI n) (hB : (∀ c k, ¬ (c < n ∧ k < 24 ∧ a = nI c ∧ b = nI k)) → Q (some (.int (-1000001))) (putM h M A S, z)) (hG : ∀ c k, c < n → k < 24 → a = nI c → b = nI k → Q (some (.int (A 1 (20 + 26 * c + k)))) (putM h M A S, z)) : Rn sA mX12_column 0 [some (.ref M), some (.int a), some (.int b)] [] (putM h M A S, z) Q := by
  refine R_aload_n (pc := 0) dX12_column_0 rfl ?_
  refine R_iload_n (pc := 1) dX12_column_1 rfl ?_
  refine R_callV (pc := 2) dX12_column_2 rfl putM_o rfl rfl ?_
  refine s12_isCard hn hw (fun c hc e => ?_) (fun e => ?_)
  · subst e
    refine R_if_eq (pc := 5) (t := 24) dX12_column_5 (by decide) (fun hz9 => absurd hz9 (by decide)) (fun _ => ?_)
    refine R_iload_n (pc := 8) dX12_column_8 rfl ?_
    refine R_callS (pc := 9) dX12_column_9 rfl (Or.inl rfl) rfl rfl ?_
    refine s12_isColumn (fun k hk e2 => ?_) (fun e2 => ?_)
    · subst e2
      refine R_if_eq (pc := 12) (t := 24) dX12_column_12 (by decide) (fun hz9 => absurd hz9 (by decide)) (fun _ => ?_)
      refine R_aload_n (pc := 15) dX12_column_15 rfl ?_
      refine R_iload_n (pc := 16) dX12_column_16 rfl ?_
      refine R_iload_n (pc := 17) dX12_column_17 rfl ?_
      refine R_callV (pc := 18) dX12_column_18 rfl putM_o rfl rfl ?_
      refine s12_of (by omega) (by omega) ?_
      refine R_goto (pc := 21) (t := 26) dX12_column_21 (by decide) ?_
      refine R_iret (pc := 26) dX12_column_26 rfl ?_
      first
        | exact hB (fun f k hz => e f hz.1 hz.2.2.1)
        | exact hB (fun f k hz => e2 k hz.2.1 hz.2.2.2)
        | exact hG c k hc hk rfl rfl
    · refine R_if_eq (pc := 12) (t := 24) dX12_column_12 (by decide) (fun _ => ?_) (fun hz9 => absurd hz9 (by decide))
      refine R_ldc (pc := 24) (x := (-1000001)) dX12_column_24 rfl ?_
      refine R_iret (pc := 26) dX12_column_26 rfl ?_
      first
        | exact hB (fun f k hz => e f hz.1 hz.2.2.1)
        | exact hB (fun f k hz => e2 k hz.2.1 hz.2.2.2)
        | exact hG c k hc hk rfl rfl
  · refine R_if_eq (pc := 5) (t := 24) dX12_column_5 (by decide) (fun _ => ?_) (fun hz9 => absurd hz9 (by decide))
    refine R_ldc (pc := 24) (x := (-1000001)) dX12_column_24 rfl ?_
    refine R_iret (pc := 26) dX12_column_26 rfl ?_
    first
      | exact hB (fun f k hz => e f hz.1 hz.2.2.1)
      | exact hB (fun f k hz => e2 k hz.2.1 hz.2.2.2)
      | exact hG c k hc hk rfl rfl
def keyM (d g u : Int32) : Int64 := 100000000 * d.toInt64 + 10000 * g.toInt64 + u.toInt64
def colW (U : Nat → Int32) (k : Nat) : Nat → Int32 := fun j => U (20 + 26 * k + j)
/-- from card k on, the latest key is l: 1 if they are in order -/
def ordR (P Wd : Nat → Nat) (U : Nat → Int32) : Nat → Nat → Int64 → Int32
  | 0, _, _ => nI 1
  | n + 1, k, l => if valF P Wd (colW U k) 0 = (-1000009) ∨ valF P Wd (colW U k) 1 = (-1000009) ∨ valF P Wd (colW U k) 2 = (-1000009) then ordR P Wd U n (k + 1) l else if keyM (valF P Wd (colW U k) 0) (valF P Wd (colW U k) 1) (valF P Wd (colW U k) 2) < l then nI 0 else ordR P Wd U n (k + 1) (keyM (valF P Wd (colW U k) 0) (valF P Wd (colW U k) 1) (valF P Wd (colW U k) 2))
theorem ordR_01 {P Wd : Nat → Nat} {U : Nat → Int32} : ∀ (n k : Nat) (l : Int64), ordR P Wd U n k l = nI 0 ∨ ordR P Wd U n k l = nI 1
  | 0, _, _ => Or.inr rfl
  | n + 1, k, l => by
    unfold ordR
    split
    · exact ordR_01 n (k + 1) l
    · split
      · exact Or.inl rfl
      · exact ordR_01 n (k + 1) _
theorem cmp_ge {x y : Int64} : (0 : Int32) ≤ lg_cmp x y ↔ ¬ x < y := by
  unfold lg_cmp
  split
  · rename_i q
    exact ⟨fun _ => lg_lt_not q, fun _ => by decide⟩
  · rename_i q
    split
    · rename_i e
      subst e
      exact ⟨fun _ => q, fun _ => by decide⟩
    · rename_i e
      refine ⟨fun z => absurd z (by decide), fun z => ?_⟩
      rcases lg_tri x y with t | t | t
      · exact absurd t z
      · exact absurd t e
      · exact absurd t q
theorem s12_key {d g u : Int32} (hQ : Q (some (.long (keyM d g u))) (h, z)) : Rn sA mX12_key 0 [some (.int d), some (.int g), some (.int u)] [] (h, z) Q := by
  refine R_ldc2 (pc := 0) (x := (100000000)) dX12_key_0 rfl ?_
  refine R_iload_n (pc := 3) dX12_key_3 rfl ?_
  refine R_i2l (pc := 4) dX12_key_4 ?_
  refine R_lmul (pc := 5) dX12_key_5 ?_
  refine R_ldc2 (pc := 6) (x := (10000)) dX12_key_6 rfl ?_
  refine R_iload_n (pc := 9) dX12_key_9 rfl ?_
  refine R_i2l (pc := 10) dX12_key_10 ?_
  refine R_lmul (pc := 11) dX12_key_11 ?_
  refine R_ladd (pc := 12) dX12_key_12 ?_
  refine R_iload_n (pc := 13) dX12_key_13 rfl ?_
  refine R_i2l (pc := 14) dX12_key_14 ?_
  refine R_ladd (pc := 15) dX12_key_15 ?_
  refine R_lret (pc := 16) dX12_key_16 rfl ?_
  exact hQ
theorem l12_ord {n : Nat} {P Wd : Nat → Nat} (hL : LayW (A 1) P Wd) (hn : n ≤ 40) (hw : A 1 19 = nI n) : ∀ (n1 k : Nat) (l : Int64) (g : Nat → Int32) (o4 o5 : Option Value) (_ : k + n1 = n) (_ : (∀ (g : Nat → Int32), Q (some (.int (ordR P Wd (A 1) n1 k l))) (putM h M (va_up A 5 g) S, z))), Rn sA mX12_isOrdered 6 [some (.ref M), some (.long l), none, some (.int (nI k)), o4, o5] [] (putM h M (va_up A 5 g) S, z) Q
  | 0, k, l, g, o4, o5, hk, hQ => by
    obtain rfl : k = n := by omega
    refine R_iload_n (pc := 6) dX12_isOrdered_6 rfl ?_
    refine R_aload_n (pc := 7) dX12_isOrdered_7 rfl ?_
    refine M_g (pc := 8) dX12_isOrdered_8 rfl rfl ?_
    refine R_bipush (pc := 11) (x := nI 19) dX12_isOrdered_11 (by decide) ?_
    refine M_ald (pc := 13) dX12_isOrdered_13 (by first | with_reducible rfl | (simp only [nI_add, pk_mul]; exact rfl)) (by simp only [mol1, mol2, mol3, mol4, mol5, mol6, mol7, mol8, mol9, mol10, mol11, mol12, mol13]; omega) ?_
    refine R_icmp_ge (pc := 14) (t := 90) dX12_isOrdered_14 (by decide) (fun _ => ?_) (fun hz9 => absurd (by show A 1 19 ≤ nI k; rw [hw]; exact (nI_le (by omega) (by omega))) hz9)
    refine R_iconst (pc := 90) (x := nI 1) dX12_isOrdered_90 rfl ?_
    refine R_zret (pc := 91) dX12_isOrdered_91 rfl (by decide) ?_
    exact hQ g
  | n1 + 1, k, l, g, o4, o5, hk, hQ => by
    refine R_iload_n (pc := 6) dX12_isOrdered_6 rfl ?_
    refine R_aload_n (pc := 7) dX12_isOrdered_7 rfl ?_
    refine M_g (pc := 8) dX12_isOrdered_8 rfl rfl ?_
    refine R_bipush (pc := 11) (x := nI 19) dX12_isOrdered_11 (by decide) ?_
    refine M_ald (pc := 13) dX12_isOrdered_13 (by first | with_reducible rfl | (simp only [nI_add, pk_mul]; exact rfl)) (by simp only [mol1, mol2, mol3, mol4, mol5, mol6, mol7, mol8, mol9, mol10, mol11, mol12, mol13]; omega) ?_
    refine R_icmp_ge (pc := 14) (t := 90) dX12_isOrdered_14 (by decide) (fun hz9 => absurd hz9 (by show ¬ A 1 19 ≤ nI k; rw [hw]; exact (nI_ge (by omega) (by omega)))) (fun _ => ?_)
    refine R_aload_n (pc := 17) dX12_isOrdered_17 rfl ?_
    refine R_iload_n (pc := 18) dX12_isOrdered_18 rfl ?_
    refine R_callV (pc := 19) dX12_isOrdered_19 rfl putM_o rfl rfl ?_
    refine s12_look (A := va_up A 5 g) (by omega) (fun g2 hg2 => ?_)
    rw [va_up_up]
    have hV : ∀ f, f < 6 → valF P Wd g2 f = valF P Wd (colW (A 1) k) f := fun f hf => valF_congr hL hg2 hf
    refine R_aload_n (pc := 22) dX12_isOrdered_22 rfl ?_
    refine R_iconst (pc := 23) (x := nI 0) dX12_isOrdered_23 rfl ?_
    refine R_callV (pc := 24) dX12_isOrdered_24 rfl putM_o rfl rfl ?_
    refine s12_valueOf (A := va_up A 5 g2) hL (by omega) ?_
    refine R_ldc (pc := 27) (x := (-1000009)) dX12_isOrdered_27 rfl ?_
    refine R_icmp_eq (pc := 29) (t := 84) dX12_isOrdered_29 (by decide) (fun h29 => ?_) (fun h29 => ?_)
    · have h29 : valF P Wd (colW (A 1) k) 0 = (-1000009) := by rw [← hV 0 (by omega)]; exact h29
      refine R_iinc (pc := 84) dX12_isOrdered_84 rfl (by first | exact nI_inc _ | rfl) rfl ?_
      refine R_goto (pc := 87) (t := 6) dX12_isOrdered_87 (by decide) ?_
      first
        | exact l12_ord hL hn hw n1 (k + 1) l g2 _ _ (by omega) (fun g3 => by have q := hQ g3; unfold ordR at q; rw [if_pos (Or.inl h29)] at q; exact q)
        | exact l12_ord hL hn hw n1 (k + 1) l g2 _ _ (by omega) (fun g3 => by have q := hQ g3; unfold ordR at q; rw [if_pos (Or.inr (Or.inl h39))] at q; exact q)
        | exact l12_ord hL hn hw n1 (k + 1) l g2 _ _ (by omega) (fun g3 => by have q := hQ g3; unfold ordR at q; rw [if_pos (Or.inr (Or.inr h49))] at q; exact q)
        | exact l12_ord hL hn hw n1 (k + 1) _ g2 _ _ (by omega) (fun g3 => by
            have q := hQ g3
            unfold ordR at q
            rw [if_neg (by rintro (t | t | t); exact h29 t; exact h39 t; exact h49 t), if_neg (cmp_ge.mp h76)] at q
            exact q)
    · have h29 : ¬ valF P Wd (colW (A 1) k) 0 = (-1000009) := fun q => h29 ((hV 0 (by omega)).trans q)
      refine R_aload_n (pc := 32) dX12_isOrdered_32 rfl ?_
      refine R_iconst (pc := 33) (x := nI 1) dX12_isOrdered_33 rfl ?_
      refine R_callV (pc := 34) dX12_isOrdered_34 rfl putM_o rfl rfl ?_
      refine s12_valueOf (A := va_up A 5 g2) hL (by omega) ?_
      refine R_ldc (pc := 37) (x := (-1000009)) dX12_isOrdered_37 rfl ?_
      refine R_icmp_eq (pc := 39) (t := 84) dX12_isOrdered_39 (by decide) (fun h39 => ?_) (fun h39 => ?_)
      · have h39 : valF P Wd (colW (A 1) k) 1 = (-1000009) := by rw [← hV 1 (by omega)]; exact h39
        refine R_iinc (pc := 84) dX12_isOrdered_84 rfl (by first | exact nI_inc _ | rfl) rfl ?_
        refine R_goto (pc := 87) (t := 6) dX12_isOrdered_87 (by decide) ?_
        first
          | exact l12_ord hL hn hw n1 (k + 1) l g2 _ _ (by omega) (fun g3 => by have q := hQ g3; unfold ordR at q; rw [if_pos (Or.inl h29)] at q; exact q)
          | exact l12_ord hL hn hw n1 (k + 1) l g2 _ _ (by omega) (fun g3 => by have q := hQ g3; unfold ordR at q; rw [if_pos (Or.inr (Or.inl h39))] at q; exact q)
          | exact l12_ord hL hn hw n1 (k + 1) l g2 _ _ (by omega) (fun g3 => by have q := hQ g3; unfold ordR at q; rw [if_pos (Or.inr (Or.inr h49))] at q; exact q)
          | exact l12_ord hL hn hw n1 (k + 1) _ g2 _ _ (by omega) (fun g3 => by
              have q := hQ g3
              unfold ordR at q
              rw [if_neg (by rintro (t | t | t); exact h29 t; exact h39 t; exact h49 t), if_neg (cmp_ge.mp h76)] at q
              exact q)
      · have h39 : ¬ valF P Wd (colW (A 1) k) 1 = (-1000009) := fun q => h39 ((hV 1 (by omega)).trans q)
        refine R_aload_n (pc := 42) dX12_isOrdered_42 rfl ?_
        refine R_iconst (pc := 43) (x := nI 2) dX12_isOrdered_43 rfl ?_
        refine R_callV (pc := 44) dX12_isOrdered_44 rfl putM_o rfl rfl ?_
        refine s12_valueOf (A := va_up A 5 g2) hL (by omega) ?_
        refine R_ldc (pc := 47) (x := (-1000009)) dX12_isOrdered_47 rfl ?_
        refine R_icmp_eq (pc := 49) (t := 84) dX12_isOrdered_49 (by decide) (fun h49 => ?_) (fun h49 => ?_)
        · have h49 : valF P Wd (colW (A 1) k) 2 = (-1000009) := by rw [← hV 2 (by omega)]; exact h49
          refine R_iinc (pc := 84) dX12_isOrdered_84 rfl (by first | exact nI_inc _ | rfl) rfl ?_
          refine R_goto (pc := 87) (t := 6) dX12_isOrdered_87 (by decide) ?_
          first
            | exact l12_ord hL hn hw n1 (k + 1) l g2 _ _ (by omega) (fun g3 => by have q := hQ g3; unfold ordR at q; rw [if_pos (Or.inl h29)] at q; exact q)
            | exact l12_ord hL hn hw n1 (k + 1) l g2 _ _ (by omega) (fun g3 => by have q := hQ g3; unfold ordR at q; rw [if_pos (Or.inr (Or.inl h39))] at q; exact q)
            | exact l12_ord hL hn hw n1 (k + 1) l g2 _ _ (by omega) (fun g3 => by have q := hQ g3; unfold ordR at q; rw [if_pos (Or.inr (Or.inr h49))] at q; exact q)
            | exact l12_ord hL hn hw n1 (k + 1) _ g2 _ _ (by omega) (fun g3 => by
                have q := hQ g3
                unfold ordR at q
                rw [if_neg (by rintro (t | t | t); exact h29 t; exact h39 t; exact h49 t), if_neg (cmp_ge.mp h76)] at q
                exact q)
        · have h49 : ¬ valF P Wd (colW (A 1) k) 2 = (-1000009) := fun q => h49 ((hV 2 (by omega)).trans q)
          refine R_aload_n (pc := 52) dX12_isOrdered_52 rfl ?_
          refine R_iconst (pc := 53) (x := nI 0) dX12_isOrdered_53 rfl ?_
          refine R_callV (pc := 54) dX12_isOrdered_54 rfl putM_o rfl rfl ?_
          refine s12_valueOf (A := va_up A 5 g2) hL (by omega) ?_
          refine R_aload_n (pc := 57) dX12_isOrdered_57 rfl ?_
          refine R_iconst (pc := 58) (x := nI 1) dX12_isOrdered_58 rfl ?_
          refine R_callV (pc := 59) dX12_isOrdered_59 rfl putM_o rfl rfl ?_
          refine s12_valueOf (A := va_up A 5 g2) hL (by omega) ?_
          refine R_aload_n (pc := 62) dX12_isOrdered_62 rfl ?_
          refine R_iconst (pc := 63) (x := nI 2) dX12_isOrdered_63 rfl ?_
          refine R_callV (pc := 64) dX12_isOrdered_64 rfl putM_o rfl rfl ?_
          refine s12_valueOf (A := va_up A 5 g2) hL (by omega) ?_
          refine R_callS (pc := 67) dX12_isOrdered_67 rfl (Or.inl rfl) rfl rfl ?_
          refine s12_key ?_
          rw [show va_up A 5 g2 5 = g2 from rfl, hV 0 (by omega), hV 1 (by omega), hV 2 (by omega)]
          refine R_lstore (pc := 70) dX12_isOrdered_70 (Nat.le_of_ble_eq_true rfl) rfl ?_
          refine R_lload (pc := 72) dX12_isOrdered_72 rfl ?_
          refine R_lload_n (pc := 74) dX12_isOrdered_74 rfl ?_
          refine R_lcmp (pc := 75) dX12_isOrdered_75 ?_
          refine R_if_ge (pc := 76) (t := 81) dX12_isOrdered_76 (by decide) (fun h76 => ?_) (fun h76 => ?_)
          · refine R_lload (pc := 81) dX12_isOrdered_81 rfl ?_
            refine R_lstore_n (pc := 83) dX12_isOrdered_83 (Nat.le_of_ble_eq_true rfl) rfl ?_
            refine R_iinc (pc := 84) dX12_isOrdered_84 rfl (by first | exact nI_inc _ | rfl) rfl ?_
            refine R_goto (pc := 87) (t := 6) dX12_isOrdered_87 (by decide) ?_
            first
              | exact l12_ord hL hn hw n1 (k + 1) l g2 _ _ (by omega) (fun g3 => by have q := hQ g3; unfold ordR at q; rw [if_pos (Or.inl h29)] at q; exact q)
              | exact l12_ord hL hn hw n1 (k + 1) l g2 _ _ (by omega) (fun g3 => by have q := hQ g3; unfold ordR at q; rw [if_pos (Or.inr (Or.inl h39))] at q; exact q)
              | exact l12_ord hL hn hw n1 (k + 1) l g2 _ _ (by omega) (fun g3 => by have q := hQ g3; unfold ordR at q; rw [if_pos (Or.inr (Or.inr h49))] at q; exact q)
              | exact l12_ord hL hn hw n1 (k + 1) _ g2 _ _ (by omega) (fun g3 => by
                  have q := hQ g3
                  unfold ordR at q
                  rw [if_neg (by rintro (t | t | t); exact h29 t; exact h39 t; exact h49 t), if_neg (cmp_ge.mp h76)] at q
                  exact q)
          · refine R_iconst (pc := 79) (x := nI 0) dX12_isOrdered_79 rfl ?_
            refine R_zret (pc := 80) dX12_isOrdered_80 rfl (by decide) ?_
            have q := hQ g2
            unfold ordR at q
            rw [if_neg (by rintro (t | t | t); exact h29 t; exact h39 t; exact h49 t), if_pos (Classical.not_not.mp (fun t => h76 (cmp_ge.mpr t)))] at q
            exact q
theorem s12_ordered {n : Nat} {P Wd : Nat → Nat} (hL : LayW (A 1) P Wd) (hn : n ≤ 40) (hw : A 1 19 = nI n) (hQ : ∀ (g : Nat → Int32), Q (some (.int (ordR P Wd (A 1) n 0 (-1)))) (putM h M (va_up A 5 g) S, z)) : Rn sA mX12_isOrdered 0 [some (.ref M), none, none, none, none, none] [] (putM h M A S, z) Q := by
  refine R_ldc2 (pc := 0) (x := (-1)) dX12_isOrdered_0 rfl ?_
  refine R_lstore_n (pc := 3) dX12_isOrdered_3 (Nat.le_of_ble_eq_true rfl) rfl ?_
  refine R_iconst (pc := 4) (x := nI 0) dX12_isOrdered_4 rfl ?_
  refine R_istore_n (pc := 5) dX12_isOrdered_5 (Nat.le_of_ble_eq_true rfl) rfl ?_
  refine Rn_A (A' := va_up A 5 (A 5)) va_up_id.symm ?_
  exact l12_ord hL hn hw n 0 (-1) (A 5) none none (by omega) hQ
def refR (U : Nat → Int32) : Nat → Nat → Int32 → Int32
  | 0, _, a => a
  | n + 1, k, a => refR U n (k + 1) (a + (if nI 1 ≤ U (1063 + k) ∧ U (1063 + k) ≤ nI 5 then nI 1 else nI 0))
theorem l12_ref {n : Nat} (hn : n ≤ 40) (hf : A 1 1062 = nI n) : ∀ (n1 k : Nat) (a : Int32) (_ : k + n1 = n) (_ : Q (some (.int (refR (A 1) n1 k a))) (putM h M A S, z)), Rn sA mX12_refused 4 [some (.ref M), some (.int a), some (.int (nI k))] [] (putM h M A S, z) Q
  | 0, k, a, hk, hQ => by
    obtain rfl : k = n := by omega
    refine R_iload_n (pc := 4) dX12_refused_4 rfl ?_
    refine R_aload_n (pc := 5) dX12_refused_5 rfl ?_
    refine M_g (pc := 6) dX12_refused_6 rfl rfl ?_
    refine R_sipush (pc := 9) (x := nI 1062) dX12_refused_9 (by decide) ?_
    refine M_ald (pc := 12) dX12_refused_12 (by first | with_reducible rfl | (simp only [nI_add, pk_mul]; exact rfl)) (by simp only [mol1, mol2, mol3, mol4, mol5, mol6, mol7, mol8, mol9, mol10, mol11, mol12, mol13]; omega) ?_
    refine R_icmp_ge (pc := 13) (t := 48) dX12_refused_13 (by decide) (fun _ => ?_) (fun hz9 => absurd (by rw [hf]; exact (nI_le (by omega) (by omega))) hz9)
    refine R_iload_n (pc := 48) dX12_refused_48 rfl ?_
    refine R_iret (pc := 49) dX12_refused_49 rfl ?_
    exact hQ
  | n1 + 1, k, a, hk, hQ => by
    refine R_iload_n (pc := 4) dX12_refused_4 rfl ?_
    refine R_aload_n (pc := 5) dX12_refused_5 rfl ?_
    refine M_g (pc := 6) dX12_refused_6 rfl rfl ?_
    refine R_sipush (pc := 9) (x := nI 1062) dX12_refused_9 (by decide) ?_
    refine M_ald (pc := 12) dX12_refused_12 (by first | with_reducible rfl | (simp only [nI_add, pk_mul]; exact rfl)) (by simp only [mol1, mol2, mol3, mol4, mol5, mol6, mol7, mol8, mol9, mol10, mol11, mol12, mol13]; omega) ?_
    refine R_icmp_ge (pc := 13) (t := 48) dX12_refused_13 (by decide) (fun hz9 => absurd hz9 (by rw [hf]; exact (nI_ge (by omega) (by omega)))) (fun _ => ?_)
    refine R_iload_n (pc := 16) dX12_refused_16 rfl ?_
    refine R_aload_n (pc := 17) dX12_refused_17 rfl ?_
    refine M_g (pc := 18) dX12_refused_18 rfl rfl ?_
    refine R_sipush (pc := 21) (x := nI 1063) dX12_refused_21 (by decide) ?_
    refine R_iload_n (pc := 24) dX12_refused_24 rfl ?_
    refine R_iadd (pc := 25) dX12_refused_25 ?_
    refine M_ald (pc := 26) dX12_refused_26 (by first | with_reducible rfl | (simp only [nI_add, pk_mul]; exact rfl)) (by simp only [mol1, mol2, mol3, mol4, mol5, mol6, mol7, mol8, mol9, mol10, mol11, mol12, mol13]; omega) ?_
    refine R_iconst (pc := 27) (x := nI 1) dX12_refused_27 rfl ?_
    refine R_iconst (pc := 28) (x := nI 5) dX12_refused_28 rfl ?_
    refine R_callS (pc := 29) dX12_refused_29 rfl (Or.inl rfl) rfl rfl ?_
    refine s12_isIn (fun e1 e2 => ?_) (fun e => ?_)
    · have hx : (if nI 1 ≤ A 1 (1063 + k) ∧ A 1 (1063 + k) ≤ nI 5 then nI 1 else nI 0) = nI 1 := if_pos ⟨e1, e2⟩
      refine R_if_eq (pc := 32) (t := 39) dX12_refused_32 (by decide) (fun hz9 => absurd hz9 (by decide)) (fun _ => ?_)
      refine R_iconst (pc := 35) (x := nI 1) dX12_refused_35 rfl ?_
      refine R_goto (pc := 36) (t := 40) dX12_refused_36 (by decide) ?_
      refine R_iadd (pc := 40) dX12_refused_40 ?_
      refine R_istore_n (pc := 41) dX12_refused_41 (Nat.le_of_ble_eq_true rfl) rfl ?_
      refine R_iinc (pc := 42) dX12_refused_42 rfl (by first | exact nI_inc _ | rfl) rfl ?_
      refine R_goto (pc := 45) (t := 4) dX12_refused_45 (by decide) ?_
      exact l12_ref hn hf n1 (k + 1) _ (by omega) (by rw [refR, hx] at hQ; exact hQ)
    · have hx : (if nI 1 ≤ A 1 (1063 + k) ∧ A 1 (1063 + k) ≤ nI 5 then nI 1 else nI 0) = nI 0 := if_neg e
      refine R_if_eq (pc := 32) (t := 39) dX12_refused_32 (by decide) (fun _ => ?_) (fun hz9 => absurd hz9 (by decide))
      refine R_iconst (pc := 39) (x := nI 0) dX12_refused_39 rfl ?_
      refine R_iadd (pc := 40) dX12_refused_40 ?_
      refine R_istore_n (pc := 41) dX12_refused_41 (Nat.le_of_ble_eq_true rfl) rfl ?_
      refine R_iinc (pc := 42) dX12_refused_42 rfl (by first | exact nI_inc _ | rfl) rfl ?_
      refine R_goto (pc := 45) (t := 4) dX12_refused_45 (by decide) ?_
      exact l12_ref hn hf n1 (k + 1) _ (by omega) (by rw [refR, hx] at hQ; exact hQ)
theorem s12_refused {n : Nat} (hn : n ≤ 40) (hf : A 1 1062 = nI n) (hQ : Q (some (.int (refR (A 1) n 0 (nI 0)))) (putM h M A S, z)) : Rn sA mX12_refused 0 [some (.ref M), none, none] [] (putM h M A S, z) Q := by
  refine R_iconst (pc := 0) (x := nI 0) dX12_refused_0 rfl ?_
  refine R_istore_n (pc := 1) dX12_refused_1 (Nat.le_of_ble_eq_true rfl) rfl ?_
  refine R_iconst (pc := 2) (x := nI 0) dX12_refused_2 rfl ?_
  refine R_istore_n (pc := 3) dX12_refused_3 (Nat.le_of_ble_eq_true rfl) rfl ?_
  exact l12_ref hn hf n 0 (nI 0) (by omega) hQ
theorem s12_line {a b : Int32} {n : Nat} (hn : n ≤ 161) (hw : A 1 1304 = nI n) (hB : (∀ l k, ¬ (l < n ∧ k < 9 ∧ a = nI l ∧ b = nI k)) → Q (some (.int (-1000001))) (putM h M A S, z)) (hG : ∀ l k, l < n → k < 9 → a = nI l → b = nI k → Q (some (.int (A 1 (1305 + 9 * l + k)))) (putM h M A S, z)) : Rn sA mX12_line 0 [some (.ref M), some (.int a), some (.int b)] [] (putM h M A S, z) Q := by
  refine R_iload_n (pc := 0) dX12_line_0 rfl ?_
  refine R_iconst (pc := 1) (x := nI 0) dX12_line_1 rfl ?_
  refine R_aload_n (pc := 2) dX12_line_2 rfl ?_
  refine M_g (pc := 3) dX12_line_3 rfl rfl ?_
  refine R_sipush (pc := 6) (x := nI 1304) dX12_line_6 (by decide) ?_
  refine M_ald (pc := 9) dX12_line_9 (by first | with_reducible rfl | (simp only [nI_add, pk_mul]; exact rfl)) (by simp only [mol1, mol2, mol3, mol4, mol5, mol6, mol7, mol8, mol9, mol10, mol11, mol12, mol13]; omega) ?_
  refine R_iconst (pc := 10) (x := nI 1) dX12_line_10 rfl ?_
  refine R_isub (pc := 11) dX12_line_11 ?_
  refine R_callS (pc := 12) dX12_line_12 rfl (Or.inl rfl) rfl rfl ?_
  refine s12_in0 (n := n) (by omega) (by rw [hw]) (fun l hl e => ?_) (fun e => ?_)
  · subst e
    refine R_if_eq (pc := 15) (t := 46) dX12_line_15 (by decide) (fun hz9 => absurd hz9 (by decide)) (fun _ => ?_)
    refine R_iload_n (pc := 18) dX12_line_18 rfl ?_
    refine R_iconst (pc := 19) (x := nI 0) dX12_line_19 rfl ?_
    refine R_bipush (pc := 20) (x := nI 8) dX12_line_20 (by decide) ?_
    refine R_callS (pc := 22) dX12_line_22 rfl (Or.inl rfl) rfl rfl ?_
    refine s12_inG (a := 0) (b := 8) (by first | rfl | decide) (by first | rfl | decide) (by omega) (by omega) (fun k ka kb e2 => ?_) (fun e2 => ?_)
    · subst e2
      refine R_if_eq (pc := 25) (t := 46) dX12_line_25 (by decide) (fun hz9 => absurd hz9 (by decide)) (fun _ => ?_)
      refine R_aload_n (pc := 28) dX12_line_28 rfl ?_
      refine M_g (pc := 29) dX12_line_29 rfl rfl ?_
      refine R_sipush (pc := 32) (x := nI 1305) dX12_line_32 (by decide) ?_
      refine R_bipush (pc := 35) (x := nI 9) dX12_line_35 (by decide) ?_
      refine R_iload_n (pc := 37) dX12_line_37 rfl ?_
      refine R_imul (pc := 38) dX12_line_38 ?_
      refine R_iadd (pc := 39) dX12_line_39 ?_
      refine R_iload_n (pc := 40) dX12_line_40 rfl ?_
      refine R_iadd (pc := 41) dX12_line_41 ?_
      refine M_ald (pc := 42) dX12_line_42 (by first | with_reducible rfl | (simp only [nI_add, pk_mul]; exact rfl)) (by simp only [mol1, mol2, mol3, mol4, mol5, mol6, mol7, mol8, mol9, mol10, mol11, mol12, mol13]; omega) ?_
      refine R_goto (pc := 43) (t := 48) dX12_line_43 (by decide) ?_
      refine R_iret (pc := 48) dX12_line_48 rfl ?_
      first
        | exact hB (fun f k hz => e f hz.1 hz.2.2.1)
        | exact hB (fun f k hz => e2 k (Nat.zero_le _) (by have := hz.2.1; omega) hz.2.2.2)
        | exact hG l k hl (by omega) rfl rfl
    · refine R_if_eq (pc := 25) (t := 46) dX12_line_25 (by decide) (fun _ => ?_) (fun hz9 => absurd hz9 (by decide))
      refine R_ldc (pc := 46) (x := (-1000001)) dX12_line_46 rfl ?_
      refine R_iret (pc := 48) dX12_line_48 rfl ?_
      first
        | exact hB (fun f k hz => e f hz.1 hz.2.2.1)
        | exact hB (fun f k hz => e2 k (Nat.zero_le _) (by have := hz.2.1; omega) hz.2.2.2)
        | exact hG l k hl (by omega) rfl rfl
  · refine R_if_eq (pc := 15) (t := 46) dX12_line_15 (by decide) (fun _ => ?_) (fun hz9 => absurd hz9 (by decide))
    refine R_ldc (pc := 46) (x := (-1000001)) dX12_line_46 rfl ?_
    refine R_iret (pc := 48) dX12_line_48 rfl ?_
    first
      | exact hB (fun f k hz => e f hz.1 hz.2.2.1)
      | exact hB (fun f k hz => e2 k (Nat.zero_le _) (by have := hz.2.1; omega) hz.2.2.2)
      | exact hG l k hl (by omega) rfl rfl
theorem s12_reason {a : Int32} {n : Nat} (hn : n ≤ 40) (hw : A 1 1062 = nI n) (hB : (∀ k, k < n → ¬ a = nI k) → Q (some (.int (-1000001))) (putM h M A S, z)) (hG : ∀ k, k < n → a = nI k → Q (some (.int (A 1 (1063 + k)))) (putM h M A S, z)) : Rn sA mX12_reason 0 [some (.ref M), some (.int a)] [] (putM h M A S, z) Q := by
  refine R_iload_n (pc := 0) dX12_reason_0 rfl ?_
  refine R_iconst (pc := 1) (x := nI 0) dX12_reason_1 rfl ?_
  refine R_aload_n (pc := 2) dX12_reason_2 rfl ?_
  refine M_g (pc := 3) dX12_reason_3 rfl rfl ?_
  refine R_sipush (pc := 6) (x := nI 1062) dX12_reason_6 (by decide) ?_
  refine M_ald (pc := 9) dX12_reason_9 (by first | with_reducible rfl | (simp only [nI_add, pk_mul]; exact rfl)) (by simp only [mol1, mol2, mol3, mol4, mol5, mol6, mol7, mol8, mol9, mol10, mol11, mol12, mol13]; omega) ?_
  refine R_iconst (pc := 10) (x := nI 1) dX12_reason_10 rfl ?_
  refine R_isub (pc := 11) dX12_reason_11 ?_
  refine R_callS (pc := 12) dX12_reason_12 rfl (Or.inl rfl) rfl rfl ?_
  refine s12_in0 (n := n) (by omega) (by rw [hw]) (fun k hk e => ?_) (fun e => ?_)
  · subst e
    refine R_if_eq (pc := 15) (t := 31) dX12_reason_15 (by decide) (fun hz9 => absurd hz9 (by decide)) (fun _ => ?_)
    refine R_aload_n (pc := 18) dX12_reason_18 rfl ?_
    refine M_g (pc := 19) dX12_reason_19 rfl rfl ?_
    refine R_sipush (pc := 22) (x := nI 1063) dX12_reason_22 (by decide) ?_
    refine R_iload_n (pc := 25) dX12_reason_25 rfl ?_
    refine R_iadd (pc := 26) dX12_reason_26 ?_
    refine M_ald (pc := 27) dX12_reason_27 (by first | with_reducible rfl | (simp only [nI_add, pk_mul]; exact rfl)) (by simp only [mol1, mol2, mol3, mol4, mol5, mol6, mol7, mol8, mol9, mol10, mol11, mol12, mol13]; omega) ?_
    refine R_goto (pc := 28) (t := 33) dX12_reason_28 (by decide) ?_
    refine R_iret (pc := 33) dX12_reason_33 rfl ?_
    first
      | exact hB e
      | exact hG k hk rfl
  · refine R_if_eq (pc := 15) (t := 31) dX12_reason_15 (by decide) (fun _ => ?_) (fun hz9 => absurd hz9 (by decide))
    refine R_ldc (pc := 31) (x := (-1000001)) dX12_reason_31 rfl ?_
    refine R_iret (pc := 33) dX12_reason_33 rfl ?_
    first
      | exact hB e
      | exact hG k hk rfl
def difR (U : Nat → Int32) (x : Nat) : Nat → Nat → Int32 → Int32
  | 0, _, a => a
  | n + 1, k, a => difR U x n (k + 1) (a + (if x = 0 then nI 1 else U (1104 + 5 * k + (if x = 1 then 3 else 2))))
theorem l12_dif {n x : Nat} (hn : n ≤ 40) (hf : A 1 1103 = nI n) (hx : x < 3) : ∀ (n1 k : Nat) (a : Int32) (_ : k + n1 = n) (_ : Rn sA mX12_differs 88 [some (.ref M), some (.int (nI x)), some (.int (difR (A 1) x n1 k a)), some (.int (nI n))] [] (putM h M A S, z) Q), Rn sA mX12_differs 44 [some (.ref M), some (.int (nI x)), some (.int a), some (.int (nI k))] [] (putM h M A S, z) Q
  | 0, k, a, hk, hX => by
    obtain rfl : k = n := by omega
    refine R_iload_n (pc := 44) dX12_differs_44 rfl ?_
    refine R_aload_n (pc := 45) dX12_differs_45 rfl ?_
    refine M_g (pc := 46) dX12_differs_46 rfl rfl ?_
    refine R_sipush (pc := 49) (x := nI 1103) dX12_differs_49 (by decide) ?_
    refine M_ald (pc := 52) dX12_differs_52 (by first | with_reducible rfl | (simp only [nI_add, pk_mul]; exact rfl)) (by simp only [mol1, mol2, mol3, mol4, mol5, mol6, mol7, mol8, mol9, mol10, mol11, mol12, mol13]; omega) ?_
    refine R_icmp_ge (pc := 53) (t := 88) dX12_differs_53 (by decide) (fun _ => ?_) (fun hz9 => absurd (by rw [hf]; exact (nI_le (by omega) (by omega))) hz9)
    exact hX
  | n1 + 1, k, a, hk, hX => by
    refine R_iload_n (pc := 44) dX12_differs_44 rfl ?_
    refine R_aload_n (pc := 45) dX12_differs_45 rfl ?_
    refine M_g (pc := 46) dX12_differs_46 rfl rfl ?_
    refine R_sipush (pc := 49) (x := nI 1103) dX12_differs_49 (by decide) ?_
    refine M_ald (pc := 52) dX12_differs_52 (by first | with_reducible rfl | (simp only [nI_add, pk_mul]; exact rfl)) (by simp only [mol1, mol2, mol3, mol4, mol5, mol6, mol7, mol8, mol9, mol10, mol11, mol12, mol13]; omega) ?_
    refine R_icmp_ge (pc := 53) (t := 88) dX12_differs_53 (by decide) (fun hz9 => absurd hz9 (by rw [hf]; exact (nI_ge (by omega) (by omega)))) (fun _ => ?_)
    refine R_iload_n (pc := 56) dX12_differs_56 rfl ?_
    refine R_iload_n (pc := 57) dX12_differs_57 rfl ?_
    refine R_if_ne (pc := 58) (t := 65) dX12_differs_58 (by decide) (fun h58 => ?_) (fun h58 => ?_)
    · have h58 : ¬ x = 0 := fun q => h58 (by rw [q]; exact nI_0)
      refine R_aload_n (pc := 65) dX12_differs_65 rfl ?_
      refine R_iload_n (pc := 66) dX12_differs_66 rfl ?_
      refine R_iload_n (pc := 67) dX12_differs_67 rfl ?_
      refine R_iconst (pc := 68) (x := nI 1) dX12_differs_68 rfl ?_
      refine R_icmp_ne (pc := 69) (t := 76) dX12_differs_69 (by decide) (fun h69 => ?_) (fun h69 => ?_)
      · have h69 : ¬ x = 1 := fun q => h69 (by rw [q])
        refine R_iconst (pc := 76) (x := nI 2) dX12_differs_76 rfl ?_
        refine R_callV (pc := 77) dX12_differs_77 rfl putM_o rfl rfl ?_
        refine s12_accepted (by omega) (by omega) ?_
        refine R_iadd (pc := 80) dX12_differs_80 ?_
        refine R_istore_n (pc := 81) dX12_differs_81 (Nat.le_of_ble_eq_true rfl) rfl ?_
        refine R_iinc (pc := 82) dX12_differs_82 rfl (by first | exact nI_inc _ | rfl) rfl ?_
        refine R_goto (pc := 85) (t := 44) dX12_differs_85 (by decide) ?_
        first
          | exact l12_dif hn hf hx n1 (k + 1) _ (by omega) (fun a k1 => by have q := hX a k1; rw [difR, if_pos h58] at q; exact q)
          | exact l12_dif hn hf hx n1 (k + 1) _ (by omega) (by rw [difR, if_pos h58] at hX; exact hX)
          | exact l12_dif hn hf hx n1 (k + 1) _ (by omega) (by rw [difR, if_neg h58, if_pos h69] at hX; exact hX)
          | exact l12_dif hn hf hx n1 (k + 1) _ (by omega) (by rw [difR, if_neg h58, if_neg h69] at hX; exact hX)
      · have h69 : x = 1 := (nI_eq (by omega) (by omega)).mp h69
        refine R_iconst (pc := 72) (x := nI 3) dX12_differs_72 rfl ?_
        refine R_goto (pc := 73) (t := 77) dX12_differs_73 (by decide) ?_
        refine R_callV (pc := 77) dX12_differs_77 rfl putM_o rfl rfl ?_
        refine s12_accepted (by omega) (by omega) ?_
        refine R_iadd (pc := 80) dX12_differs_80 ?_
        refine R_istore_n (pc := 81) dX12_differs_81 (Nat.le_of_ble_eq_true rfl) rfl ?_
        refine R_iinc (pc := 82) dX12_differs_82 rfl (by first | exact nI_inc _ | rfl) rfl ?_
        refine R_goto (pc := 85) (t := 44) dX12_differs_85 (by decide) ?_
        first
          | exact l12_dif hn hf hx n1 (k + 1) _ (by omega) (fun a k1 => by have q := hX a k1; rw [difR, if_pos h58] at q; exact q)
          | exact l12_dif hn hf hx n1 (k + 1) _ (by omega) (by rw [difR, if_pos h58] at hX; exact hX)
          | exact l12_dif hn hf hx n1 (k + 1) _ (by omega) (by rw [difR, if_neg h58, if_pos h69] at hX; exact hX)
          | exact l12_dif hn hf hx n1 (k + 1) _ (by omega) (by rw [difR, if_neg h58, if_neg h69] at hX; exact hX)
    · have h58 : x = 0 := (nI_eq (by omega) (by omega)).mp (h58.trans nI_0.symm)
      refine R_iconst (pc := 61) (x := nI 1) dX12_differs_61 rfl ?_
      refine R_goto (pc := 62) (t := 80) dX12_differs_62 (by decide) ?_
      refine R_iadd (pc := 80) dX12_differs_80 ?_
      refine R_istore_n (pc := 81) dX12_differs_81 (Nat.le_of_ble_eq_true rfl) rfl ?_
      refine R_iinc (pc := 82) dX12_differs_82 rfl (by first | exact nI_inc _ | rfl) rfl ?_
      refine R_goto (pc := 85) (t := 44) dX12_differs_85 (by decide) ?_
      first
        | exact l12_dif hn hf hx n1 (k + 1) _ (by omega) (fun a k1 => by have q := hX a k1; rw [difR, if_pos h58] at q; exact q)
        | exact l12_dif hn hf hx n1 (k + 1) _ (by omega) (by rw [difR, if_pos h58] at hX; exact hX)
        | exact l12_dif hn hf hx n1 (k + 1) _ (by omega) (by rw [difR, if_neg h58, if_pos h69] at hX; exact hX)
        | exact l12_dif hn hf hx n1 (k + 1) _ (by omega) (by rw [difR, if_neg h58, if_neg h69] at hX; exact hX)
theorem s12_differs {a : Int32} {n : Nat} (hn : n ≤ 40) (hf : A 1 1103 = nI n) (hB : (∀ x, x < 3 → ¬ a = nI x) → Q (some (.int (-1000001))) (putM h M A S, z)) (hG : ∀ x, x < 3 → a = nI x → Q (some (.int (if A 1 (16 + x) = (-1000009) ∨ A 1 1060 = 0 then (-1000009) else difR (A 1) x n 0 (nI 0) - A 1 (16 + x)))) (putM h M A S, z)) : Rn sA mX12_differs 0 [some (.ref M), some (.int a), none, none] [] (putM h M A S, z) Q := by
  refine R_iload_n (pc := 0) dX12_differs_0 rfl ?_
  refine R_iconst (pc := 1) (x := nI 0) dX12_differs_1 rfl ?_
  refine R_iconst (pc := 2) (x := nI 2) dX12_differs_2 rfl ?_
  refine R_callS (pc := 3) dX12_differs_3 rfl (Or.inl rfl) rfl rfl ?_
  refine s12_inG (a := 0) (b := 2) (by first | rfl | decide) (by first | rfl | decide) (by omega) (by omega) (fun x xa xb e => ?_) (fun e => ?_)
  · subst e
    refine R_if_ne (pc := 6) (t := 12) dX12_differs_6 (by decide) (fun _ => ?_) (fun hz9 => absurd hz9 (by decide))
    refine R_aload_n (pc := 12) dX12_differs_12 rfl ?_
    refine M_g (pc := 13) dX12_differs_13 rfl rfl ?_
    refine R_bipush (pc := 16) (x := nI 16) dX12_differs_16 (by decide) ?_
    refine R_iload_n (pc := 18) dX12_differs_18 rfl ?_
    refine R_iadd (pc := 19) dX12_differs_19 ?_
    refine M_ald (pc := 20) dX12_differs_20 (by first | with_reducible rfl | (simp only [nI_add, pk_mul]; exact rfl)) (by simp only [mol1, mol2, mol3, mol4, mol5, mol6, mol7, mol8, mol9, mol10, mol11, mol12, mol13]; omega) ?_
    refine R_ldc (pc := 21) (x := (-1000009)) dX12_differs_21 rfl ?_
    refine R_icmp_eq (pc := 23) (t := 37) dX12_differs_23 (by decide) (fun h23 => ?_) (fun h23 => ?_)
    · refine R_ldc (pc := 37) (x := (-1000009)) dX12_differs_37 rfl ?_
      refine R_iret (pc := 39) dX12_differs_39 rfl ?_
      have q := hG x (by omega) rfl
      first
        | (rw [if_pos (Or.inl h23)] at q; exact q)
        | (rw [if_pos (Or.inr h34)] at q; exact q)
    · refine R_aload_n (pc := 26) dX12_differs_26 rfl ?_
      refine M_g (pc := 27) dX12_differs_27 rfl rfl ?_
      refine R_sipush (pc := 30) (x := nI 1060) dX12_differs_30 (by decide) ?_
      refine M_ald (pc := 33) dX12_differs_33 (by first | with_reducible rfl | (simp only [nI_add, pk_mul]; exact rfl)) (by simp only [mol1, mol2, mol3, mol4, mol5, mol6, mol7, mol8, mol9, mol10, mol11, mol12, mol13]; omega) ?_
      refine R_if_ne (pc := 34) (t := 40) dX12_differs_34 (by decide) (fun h34 => ?_) (fun h34 => ?_)
      · refine R_iconst (pc := 40) (x := nI 0) dX12_differs_40 rfl ?_
        refine R_istore_n (pc := 41) dX12_differs_41 (Nat.le_of_ble_eq_true rfl) rfl ?_
        refine R_iconst (pc := 42) (x := nI 0) dX12_differs_42 rfl ?_
        refine R_istore_n (pc := 43) dX12_differs_43 (Nat.le_of_ble_eq_true rfl) rfl ?_
        refine l12_dif hn hf (x := x) (by omega) n 0 (nI 0) (by omega) ?_
        refine R_iload_n (pc := 88) dX12_differs_88 rfl ?_
        refine R_aload_n (pc := 89) dX12_differs_89 rfl ?_
        refine M_g (pc := 90) dX12_differs_90 rfl rfl ?_
        refine R_bipush (pc := 93) (x := nI 16) dX12_differs_93 (by decide) ?_
        refine R_iload_n (pc := 95) dX12_differs_95 rfl ?_
        refine R_iadd (pc := 96) dX12_differs_96 ?_
        refine M_ald (pc := 97) dX12_differs_97 (by first | with_reducible rfl | (simp only [nI_add, pk_mul]; exact rfl)) (by simp only [mol1, mol2, mol3, mol4, mol5, mol6, mol7, mol8, mol9, mol10, mol11, mol12, mol13]; omega) ?_
        refine R_isub (pc := 98) dX12_differs_98 ?_
        refine R_iret (pc := 99) dX12_differs_99 rfl ?_
        have q := hG x (by omega) rfl
        rw [if_neg (by rintro (t | t); exact h23 t; exact h34 t)] at q
        exact q
      · refine R_ldc (pc := 37) (x := (-1000009)) dX12_differs_37 rfl ?_
        refine R_iret (pc := 39) dX12_differs_39 rfl ?_
        have q := hG x (by omega) rfl
        first
          | (rw [if_pos (Or.inl h23)] at q; exact q)
          | (rw [if_pos (Or.inr h34)] at q; exact q)
  · refine R_if_ne (pc := 6) (t := 12) dX12_differs_6 (by decide) (fun hz9 => absurd hz9 (by decide)) (fun _ => ?_)
    refine R_ldc (pc := 9) (x := (-1000001)) dX12_differs_9 rfl ?_
    refine R_iret (pc := 11) dX12_differs_11 rfl ?_
    exact hB (fun x hx => e x (Nat.zero_le _) (by omega))
end MOD8
