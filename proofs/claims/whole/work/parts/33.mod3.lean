section MOD3
variable {sA : Nat} {h : Nat → Option am_C} {z : Nat × Nat} {Q : Option Value → am_H → Prop} {M : Nat} {A : Nat → Nat → Int32} {S : Nat → Int32}
theorem Rn_A {mi : am_I} {pc : Nat} {ls : am_L} {st : List Value} {A' : Nat → Nat → Int32} (e : A = A') (k : Rn sA mi pc ls st (putM h M A' S, z) Q) : Rn sA mi pc ls st (putM h M A S, z) Q := by subst e; exact k
theorem Rn_S {mi : am_I} {pc : Nat} {ls : am_L} {st : List Value} {S' : Nat → Int32} (e : S = S') (k : Rn sA mi pc ls st (putM h M A S', z) Q) : Rn sA mi pc ls st (putM h M A S, z) Q := by subst e; exact k
theorem cpy_0 {f g : Nat → Int32} {sp dp : Nat} : va_cpy f g sp dp 0 = g := by
  funext j
  unfold va_cpy
  rw [if_neg (by omega)]
theorem cpy_step {f g : Nat → Int32} {sp dp k i : Nat} {x : Int32} (hi : i = dp + k) (hx : x = f (sp + k)) : upd (va_cpy f g sp dp k) i x = va_cpy f g sp dp (k + 1) := by
  subst hi
  subst hx
  funext j
  unfold upd va_cpy
  by_cases e : j = dp + k
  · rw [if_pos e, if_pos (by omega), show j - dp = k by omega]
  · rw [if_neg e]
    by_cases e2 : dp ≤ j ∧ j < dp + k
    · rw [if_pos e2, if_pos (by omega)]
    · rw [if_neg e2, if_neg (by omega)]
theorem cpy_in {f g : Nat → Int32} {sp dp n j : Nat} (h1 : dp ≤ j) (h2 : j < dp + n) : va_cpy f g sp dp n j = f (sp + (j - dp)) := by unfold va_cpy; rw [if_pos ⟨h1, h2⟩]
theorem cpy_out {f g : Nat → Int32} {sp dp n j : Nat} (h1 : j < dp ∨ dp + n ≤ j) : va_cpy f g sp dp n j = g j := by unfold va_cpy; rw [if_neg (by omega)]
theorem l12_hold   : ∀ (n k : Nat) (_ : k + n = 1040) (_ : Rn sA mX12_holdDeck 30 [some (.ref M), some (.int (nI 1040))] [] (putM h M (va_up A 8 (va_cpy (A 1) (A 8) (20) (0) 1040)) S, z) Q), Rn sA mX12_holdDeck 2 [some (.ref M), some (.int (nI k))] [] (putM h M (va_up A 8 (va_cpy (A 1) (A 8) (20) (0) k)) S, z) Q
  | 0, k, hk, hX => by
    obtain rfl : k = 1040 := by omega
    refine R_iload_n (pc := 2) dX12_holdDeck_2 rfl ?_
    refine R_sipush (pc := 3) (x := nI 1040) dX12_holdDeck_3 (by decide) ?_
    refine R_icmp_ge (pc := 6) (t := 30) dX12_holdDeck_6 (by decide) (fun _ => ?_) (fun hz9 => absurd (nI_le (by omega) (by omega)) hz9)
    exact hX
  | n + 1, k, hk, hX => by
    refine R_iload_n (pc := 2) dX12_holdDeck_2 rfl ?_
    refine R_sipush (pc := 3) (x := nI 1040) dX12_holdDeck_3 (by decide) ?_
    refine R_icmp_ge (pc := 6) (t := 30) dX12_holdDeck_6 (by decide) (fun hz9 => absurd hz9 (nI_ge (by omega) (by omega))) (fun _ => ?_)
    refine R_aload_n (pc := 9) dX12_holdDeck_9 rfl ?_
    refine M_g (pc := 10) dX12_holdDeck_10 rfl rfl ?_
    refine R_iload_n (pc := 13) dX12_holdDeck_13 rfl ?_
    refine R_aload_n (pc := 14) dX12_holdDeck_14 rfl ?_
    refine M_g (pc := 15) dX12_holdDeck_15 rfl rfl ?_
    refine R_bipush (pc := 18) (x := nI 20) dX12_holdDeck_18 (by decide) ?_
    refine R_iload_n (pc := 20) dX12_holdDeck_20 rfl ?_
    refine R_iadd (pc := 21) dX12_holdDeck_21 ?_
    refine M_ald (pc := 22) dX12_holdDeck_22 (by first | with_reducible rfl | (simp only [nI_add, pk_mul]; exact rfl)) (by simp only [mol1, mol2, mol3, mol4, mol5, mol6, mol7, mol8, mol9, mol10, mol11, mol12, mol13]; omega) ?_
    refine M_ast (pc := 23) dX12_holdDeck_23 (by first | with_reducible rfl | (simp only [nI_add, pk_mul]; exact rfl)) (by simp only [mol1, mol2, mol3, mol4, mol5, mol6, mol7, mol8, mol9, mol10, mol11, mol12, mol13]; omega) ?_
    refine R_iinc (pc := 24) dX12_holdDeck_24 rfl (by first | exact nI_inc _ | rfl) rfl ?_
    refine R_goto (pc := 27) (t := 2) dX12_holdDeck_27 (by decide) ?_
    refine Rn_A (A' := va_up A 8 (va_cpy (A 1) (A 8) (20) (0) (k + 1))) (by rw [va_up_up]; exact congrArg (va_up A 8) (cpy_step (by omega) (rfl))) ?_
    exact l12_hold  n (k + 1) (by omega) hX
theorem s12_hold  (hQ : Q none (putM h M (va_up A 8 (va_cpy (A 1) (A 8) 20 0 1040)) S, z)) : Rn sA mX12_holdDeck 0 [some (.ref M), none] [] (putM h M A S, z) Q := by
  refine R_iconst (pc := 0) (x := nI 0) dX12_holdDeck_0 rfl ?_
  refine R_istore_n (pc := 1) dX12_holdDeck_1 (Nat.le_of_ble_eq_true rfl) rfl ?_
  refine Rn_A (A' := va_up A 8 (va_cpy (A 1) (A 8) 20 0 0)) (by rw [cpy_0, va_up_id]) ?_
  refine l12_hold 1040 0 (by omega) ?_
  refine R_vret (pc := 30) dX12_holdDeck_30 rfl ?_
  exact hQ
theorem l12_aside   : ∀ (n k : Nat) (_ : k + n = 2754) (_ : Rn sA mX12_putAside 27 [some (.ref M), some (.int (nI 2754))] [] (putM h M (va_up A 13 (va_cpy (A 1) (A 13) (0) (0) 2754)) S, z) Q), Rn sA mX12_putAside 2 [some (.ref M), some (.int (nI k))] [] (putM h M (va_up A 13 (va_cpy (A 1) (A 13) (0) (0) k)) S, z) Q
  | 0, k, hk, hX => by
    obtain rfl : k = 2754 := by omega
    refine R_iload_n (pc := 2) dX12_putAside_2 rfl ?_
    refine R_sipush (pc := 3) (x := nI 2754) dX12_putAside_3 (by decide) ?_
    refine R_icmp_ge (pc := 6) (t := 27) dX12_putAside_6 (by decide) (fun _ => ?_) (fun hz9 => absurd (nI_le (by omega) (by omega)) hz9)
    exact hX
  | n + 1, k, hk, hX => by
    refine R_iload_n (pc := 2) dX12_putAside_2 rfl ?_
    refine R_sipush (pc := 3) (x := nI 2754) dX12_putAside_3 (by decide) ?_
    refine R_icmp_ge (pc := 6) (t := 27) dX12_putAside_6 (by decide) (fun hz9 => absurd hz9 (nI_ge (by omega) (by omega))) (fun _ => ?_)
    refine R_aload_n (pc := 9) dX12_putAside_9 rfl ?_
    refine M_g (pc := 10) dX12_putAside_10 rfl rfl ?_
    refine R_iload_n (pc := 13) dX12_putAside_13 rfl ?_
    refine R_aload_n (pc := 14) dX12_putAside_14 rfl ?_
    refine M_g (pc := 15) dX12_putAside_15 rfl rfl ?_
    refine R_iload_n (pc := 18) dX12_putAside_18 rfl ?_
    refine M_ald (pc := 19) dX12_putAside_19 (by first | with_reducible rfl | (simp only [nI_add, pk_mul]; exact rfl)) (by simp only [mol1, mol2, mol3, mol4, mol5, mol6, mol7, mol8, mol9, mol10, mol11, mol12, mol13]; omega) ?_
    refine M_ast (pc := 20) dX12_putAside_20 (by first | with_reducible rfl | (simp only [nI_add, pk_mul]; exact rfl)) (by simp only [mol1, mol2, mol3, mol4, mol5, mol6, mol7, mol8, mol9, mol10, mol11, mol12, mol13]; omega) ?_
    refine R_iinc (pc := 21) dX12_putAside_21 rfl (by first | exact nI_inc _ | rfl) rfl ?_
    refine R_goto (pc := 24) (t := 2) dX12_putAside_24 (by decide) ?_
    refine Rn_A (A' := va_up A 13 (va_cpy (A 1) (A 13) (0) (0) (k + 1))) (by rw [va_up_up]; exact congrArg (va_up A 13) (cpy_step (by omega) (by rw [Nat.zero_add]; rfl))) ?_
    exact l12_aside  n (k + 1) (by omega) hX
theorem s12_aside  (hQ : Q none (putM h M (va_up A 13 (va_cpy (A 1) (A 13) 0 0 2754)) S, z)) : Rn sA mX12_putAside 0 [some (.ref M), none] [] (putM h M A S, z) Q := by
  refine R_iconst (pc := 0) (x := nI 0) dX12_putAside_0 rfl ?_
  refine R_istore_n (pc := 1) dX12_putAside_1 (Nat.le_of_ble_eq_true rfl) rfl ?_
  refine Rn_A (A' := va_up A 13 (va_cpy (A 1) (A 13) 0 0 0)) (by rw [cpy_0, va_up_id]) ?_
  refine l12_aside 2754 0 (by omega) ?_
  refine R_vret (pc := 27) dX12_putAside_27 rfl ?_
  exact hQ
theorem l12_putBack   : ∀ (n k : Nat) (_ : k + n = 2754) (_ : Rn sA mX12_putBack 27 [some (.ref M), some (.int (nI 2754))] [] (putM h M (va_up A 1 (va_cpy (A 13) (A 1) (0) (0) 2754)) S, z) Q), Rn sA mX12_putBack 2 [some (.ref M), some (.int (nI k))] [] (putM h M (va_up A 1 (va_cpy (A 13) (A 1) (0) (0) k)) S, z) Q
  | 0, k, hk, hX => by
    obtain rfl : k = 2754 := by omega
    refine R_iload_n (pc := 2) dX12_putBack_2 rfl ?_
    refine R_sipush (pc := 3) (x := nI 2754) dX12_putBack_3 (by decide) ?_
    refine R_icmp_ge (pc := 6) (t := 27) dX12_putBack_6 (by decide) (fun _ => ?_) (fun hz9 => absurd (nI_le (by omega) (by omega)) hz9)
    exact hX
  | n + 1, k, hk, hX => by
    refine R_iload_n (pc := 2) dX12_putBack_2 rfl ?_
    refine R_sipush (pc := 3) (x := nI 2754) dX12_putBack_3 (by decide) ?_
    refine R_icmp_ge (pc := 6) (t := 27) dX12_putBack_6 (by decide) (fun hz9 => absurd hz9 (nI_ge (by omega) (by omega))) (fun _ => ?_)
    refine R_aload_n (pc := 9) dX12_putBack_9 rfl ?_
    refine M_g (pc := 10) dX12_putBack_10 rfl rfl ?_
    refine R_iload_n (pc := 13) dX12_putBack_13 rfl ?_
    refine R_aload_n (pc := 14) dX12_putBack_14 rfl ?_
    refine M_g (pc := 15) dX12_putBack_15 rfl rfl ?_
    refine R_iload_n (pc := 18) dX12_putBack_18 rfl ?_
    refine M_ald (pc := 19) dX12_putBack_19 (by first | with_reducible rfl | (simp only [nI_add, pk_mul]; exact rfl)) (by simp only [mol1, mol2, mol3, mol4, mol5, mol6, mol7, mol8, mol9, mol10, mol11, mol12, mol13]; omega) ?_
    refine M_ast (pc := 20) dX12_putBack_20 (by first | with_reducible rfl | (simp only [nI_add, pk_mul]; exact rfl)) (by simp only [mol1, mol2, mol3, mol4, mol5, mol6, mol7, mol8, mol9, mol10, mol11, mol12, mol13]; omega) ?_
    refine R_iinc (pc := 21) dX12_putBack_21 rfl (by first | exact nI_inc _ | rfl) rfl ?_
    refine R_goto (pc := 24) (t := 2) dX12_putBack_24 (by decide) ?_
    refine Rn_A (A' := va_up A 1 (va_cpy (A 13) (A 1) (0) (0) (k + 1))) (by rw [va_up_up]; exact congrArg (va_up A 1) (cpy_step (by omega) (by rw [Nat.zero_add]; rfl))) ?_
    exact l12_putBack  n (k + 1) (by omega) hX
theorem s12_putBack  (hQ : Q none (putM h M (va_up A 1 (va_cpy (A 13) (A 1) 0 0 2754)) S, z)) : Rn sA mX12_putBack 0 [some (.ref M), none] [] (putM h M A S, z) Q := by
  refine R_iconst (pc := 0) (x := nI 0) dX12_putBack_0 rfl ?_
  refine R_istore_n (pc := 1) dX12_putBack_1 (Nat.le_of_ble_eq_true rfl) rfl ?_
  refine Rn_A (A' := va_up A 1 (va_cpy (A 13) (A 1) 0 0 0)) (by rw [cpy_0, va_up_id]) ?_
  refine l12_putBack 2754 0 (by omega) ?_
  refine R_vret (pc := 27) dX12_putBack_27 rfl ?_
  exact hQ
theorem l12_from {a b : Nat} (ha : a < 40) (hb : b < 40) : ∀ (n k : Nat) (_ : k + n = 26) (_ : Rn sA mX12_fromHeld 39 [some (.ref M), some (.int (nI a)), some (.int (nI b)), some (.int (nI 26))] [] (putM h M (va_up A 1 (va_cpy (A 8) (A 1) (26 * a) (20 + 26 * b) 26)) S, z) Q), Rn sA mX12_fromHeld 2 [some (.ref M), some (.int (nI a)), some (.int (nI b)), some (.int (nI k))] [] (putM h M (va_up A 1 (va_cpy (A 8) (A 1) (26 * a) (20 + 26 * b) k)) S, z) Q
  | 0, k, hk, hX => by
    obtain rfl : k = 26 := by omega
    refine R_iload_n (pc := 2) dX12_fromHeld_2 rfl ?_
    refine R_bipush (pc := 3) (x := nI 26) dX12_fromHeld_3 (by decide) ?_
    refine R_icmp_ge (pc := 5) (t := 39) dX12_fromHeld_5 (by decide) (fun _ => ?_) (fun hz9 => absurd (nI_le (by omega) (by omega)) hz9)
    exact hX
  | n + 1, k, hk, hX => by
    refine R_iload_n (pc := 2) dX12_fromHeld_2 rfl ?_
    refine R_bipush (pc := 3) (x := nI 26) dX12_fromHeld_3 (by decide) ?_
    refine R_icmp_ge (pc := 5) (t := 39) dX12_fromHeld_5 (by decide) (fun hz9 => absurd hz9 (nI_ge (by omega) (by omega))) (fun _ => ?_)
    refine R_aload_n (pc := 8) dX12_fromHeld_8 rfl ?_
    refine M_g (pc := 9) dX12_fromHeld_9 rfl rfl ?_
    refine R_bipush (pc := 12) (x := nI 20) dX12_fromHeld_12 (by decide) ?_
    refine R_bipush (pc := 14) (x := nI 26) dX12_fromHeld_14 (by decide) ?_
    refine R_iload_n (pc := 16) dX12_fromHeld_16 rfl ?_
    refine R_imul (pc := 17) dX12_fromHeld_17 ?_
    refine R_iadd (pc := 18) dX12_fromHeld_18 ?_
    refine R_iload_n (pc := 19) dX12_fromHeld_19 rfl ?_
    refine R_iadd (pc := 20) dX12_fromHeld_20 ?_
    refine R_aload_n (pc := 21) dX12_fromHeld_21 rfl ?_
    refine M_g (pc := 22) dX12_fromHeld_22 rfl rfl ?_
    refine R_bipush (pc := 25) (x := nI 26) dX12_fromHeld_25 (by decide) ?_
    refine R_iload_n (pc := 27) dX12_fromHeld_27 rfl ?_
    refine R_imul (pc := 28) dX12_fromHeld_28 ?_
    refine R_iload_n (pc := 29) dX12_fromHeld_29 rfl ?_
    refine R_iadd (pc := 30) dX12_fromHeld_30 ?_
    refine M_ald (pc := 31) dX12_fromHeld_31 (by first | with_reducible rfl | (simp only [nI_add, pk_mul]; exact rfl)) (by simp only [mol1, mol2, mol3, mol4, mol5, mol6, mol7, mol8, mol9, mol10, mol11, mol12, mol13]; omega) ?_
    refine M_ast (pc := 32) dX12_fromHeld_32 (by first | with_reducible rfl | (simp only [nI_add, pk_mul]; exact rfl)) (by simp only [mol1, mol2, mol3, mol4, mol5, mol6, mol7, mol8, mol9, mol10, mol11, mol12, mol13]; omega) ?_
    refine R_iinc (pc := 33) dX12_fromHeld_33 rfl (by first | exact nI_inc _ | rfl) rfl ?_
    refine R_goto (pc := 36) (t := 2) dX12_fromHeld_36 (by decide) ?_
    refine Rn_A (A' := va_up A 1 (va_cpy (A 8) (A 1) (26 * a) (20 + 26 * b) (k + 1))) (by rw [va_up_up]; exact congrArg (va_up A 1) (cpy_step (by omega) (rfl))) ?_
    exact l12_from ha hb n (k + 1) (by omega) hX
theorem s12_from {a b : Nat} (ha : a < 40) (hb : b < 40) (hQ : Q none (putM h M (va_up A 1 (va_cpy (A 8) (A 1) (26 * a) (20 + 26 * b) 26)) S, z)) : Rn sA mX12_fromHeld 0 [some (.ref M), some (.int (nI a)), some (.int (nI b)), none] [] (putM h M A S, z) Q := by
  refine R_iconst (pc := 0) (x := nI 0) dX12_fromHeld_0 rfl ?_
  refine R_istore_n (pc := 1) dX12_fromHeld_1 (Nat.le_of_ble_eq_true rfl) rfl ?_
  refine Rn_A (A' := va_up A 1 (va_cpy (A 8) (A 1) (26 * a) (20 + 26 * b) 0)) (by rw [cpy_0, va_up_id]) ?_
  refine l12_from ha hb 26 0 (by omega) ?_
  refine R_vret (pc := 39) dX12_fromHeld_39 rfl ?_
  exact hQ
theorem l12_cpc {a b : Nat} (ha : a < 40) (hb : b < 40) (hab : a ≠ b) : ∀ (n k : Nat) (_ : k + n = 26) (_ : Rn sA mX12_copyCard 42 [some (.ref M), some (.int (nI a)), some (.int (nI b)), some (.int (nI 26))] [] (putM h M (va_up A 1 (va_cpy (A 1) (A 1) (20 + 26 * a) (20 + 26 * b) 26)) S, z) Q), Rn sA mX12_copyCard 2 [some (.ref M), some (.int (nI a)), some (.int (nI b)), some (.int (nI k))] [] (putM h M (va_up A 1 (va_cpy (A 1) (A 1) (20 + 26 * a) (20 + 26 * b) k)) S, z) Q
  | 0, k, hk, hX => by
    obtain rfl : k = 26 := by omega
    refine R_iload_n (pc := 2) dX12_copyCard_2 rfl ?_
    refine R_bipush (pc := 3) (x := nI 26) dX12_copyCard_3 (by decide) ?_
    refine R_icmp_ge (pc := 5) (t := 42) dX12_copyCard_5 (by decide) (fun _ => ?_) (fun hz9 => absurd (nI_le (by omega) (by omega)) hz9)
    exact hX
  | n + 1, k, hk, hX => by
    refine R_iload_n (pc := 2) dX12_copyCard_2 rfl ?_
    refine R_bipush (pc := 3) (x := nI 26) dX12_copyCard_3 (by decide) ?_
    refine R_icmp_ge (pc := 5) (t := 42) dX12_copyCard_5 (by decide) (fun hz9 => absurd hz9 (nI_ge (by omega) (by omega))) (fun _ => ?_)
    refine R_aload_n (pc := 8) dX12_copyCard_8 rfl ?_
    refine M_g (pc := 9) dX12_copyCard_9 rfl rfl ?_
    refine R_bipush (pc := 12) (x := nI 20) dX12_copyCard_12 (by decide) ?_
    refine R_bipush (pc := 14) (x := nI 26) dX12_copyCard_14 (by decide) ?_
    refine R_iload_n (pc := 16) dX12_copyCard_16 rfl ?_
    refine R_imul (pc := 17) dX12_copyCard_17 ?_
    refine R_iadd (pc := 18) dX12_copyCard_18 ?_
    refine R_iload_n (pc := 19) dX12_copyCard_19 rfl ?_
    refine R_iadd (pc := 20) dX12_copyCard_20 ?_
    refine R_aload_n (pc := 21) dX12_copyCard_21 rfl ?_
    refine M_g (pc := 22) dX12_copyCard_22 rfl rfl ?_
    refine R_bipush (pc := 25) (x := nI 20) dX12_copyCard_25 (by decide) ?_
    refine R_bipush (pc := 27) (x := nI 26) dX12_copyCard_27 (by decide) ?_
    refine R_iload_n (pc := 29) dX12_copyCard_29 rfl ?_
    refine R_imul (pc := 30) dX12_copyCard_30 ?_
    refine R_iadd (pc := 31) dX12_copyCard_31 ?_
    refine R_iload_n (pc := 32) dX12_copyCard_32 rfl ?_
    refine R_iadd (pc := 33) dX12_copyCard_33 ?_
    refine M_ald (pc := 34) dX12_copyCard_34 (by first | with_reducible rfl | (simp only [nI_add, pk_mul]; exact rfl)) (by simp only [mol1, mol2, mol3, mol4, mol5, mol6, mol7, mol8, mol9, mol10, mol11, mol12, mol13]; omega) ?_
    refine M_ast (pc := 35) dX12_copyCard_35 (by first | with_reducible rfl | (simp only [nI_add, pk_mul]; exact rfl)) (by simp only [mol1, mol2, mol3, mol4, mol5, mol6, mol7, mol8, mol9, mol10, mol11, mol12, mol13]; omega) ?_
    refine R_iinc (pc := 36) dX12_copyCard_36 rfl (by first | exact nI_inc _ | rfl) rfl ?_
    refine R_goto (pc := 39) (t := 2) dX12_copyCard_39 (by decide) ?_
    refine Rn_A (A' := va_up A 1 (va_cpy (A 1) (A 1) (20 + 26 * a) (20 + 26 * b) (k + 1))) (by rw [va_up_up]; exact congrArg (va_up A 1) (cpy_step (by omega) (by show va_cpy _ _ _ _ _ _ = _; rw [cpy_out (by omega)]))) ?_
    exact l12_cpc ha hb hab n (k + 1) (by omega) hX
theorem s12_cpc {a b : Nat} (ha : a < 40) (hb : b < 40) (hab : a ≠ b) (hQ : Q none (putM h M (va_up A 1 (va_cpy (A 1) (A 1) (20 + 26 * a) (20 + 26 * b) 26)) S, z)) : Rn sA mX12_copyCard 0 [some (.ref M), some (.int (nI a)), some (.int (nI b)), none] [] (putM h M A S, z) Q := by
  refine R_iconst (pc := 0) (x := nI 0) dX12_copyCard_0 rfl ?_
  refine R_istore_n (pc := 1) dX12_copyCard_1 (Nat.le_of_ble_eq_true rfl) rfl ?_
  refine Rn_A (A' := va_up A 1 (va_cpy (A 1) (A 1) (20 + 26 * a) (20 + 26 * b) 0)) (by rw [cpy_0, va_up_id]) ?_
  refine l12_cpc ha hb hab 26 0 (by omega) ?_
  refine R_vret (pc := 42) dX12_copyCard_42 rfl ?_
  exact hQ
def remP (W P : Nat → Int32) (pm : Nat) : Nat → Int32 := if pm = 8 then va_cpy W (va_cpy P P 2754 0 19278) 0 (2754 * 7) 2754 else va_cpy W P 0 (2754 * pm) 2754
def remN (pm : Nat) : Nat := if pm = 8 then 8 else pm + 1
theorem l12_rem1   : ∀ (n k : Nat) (_ : k + n = 19278) (_ : Rn sA mX12_remember 40 [some (.ref M), some (.int (nI 19278))] [] (putM h M (va_up A 2 (va_cpy (A 2) (A 2) (2754) (0) 19278)) S, z) Q), Rn sA mX12_remember 11 [some (.ref M), some (.int (nI k))] [] (putM h M (va_up A 2 (va_cpy (A 2) (A 2) (2754) (0) k)) S, z) Q
  | 0, k, hk, hX => by
    obtain rfl : k = 19278 := by omega
    refine R_iload_n (pc := 11) dX12_remember_11 rfl ?_
    refine R_sipush (pc := 12) (x := nI 19278) dX12_remember_12 (by decide) ?_
    refine R_icmp_ge (pc := 15) (t := 40) dX12_remember_15 (by decide) (fun _ => ?_) (fun hz9 => absurd (nI_le (by omega) (by omega)) hz9)
    exact hX
  | n + 1, k, hk, hX => by
    refine R_iload_n (pc := 11) dX12_remember_11 rfl ?_
    refine R_sipush (pc := 12) (x := nI 19278) dX12_remember_12 (by decide) ?_
    refine R_icmp_ge (pc := 15) (t := 40) dX12_remember_15 (by decide) (fun hz9 => absurd hz9 (nI_ge (by omega) (by omega))) (fun _ => ?_)
    refine R_aload_n (pc := 18) dX12_remember_18 rfl ?_
    refine M_g (pc := 19) dX12_remember_19 rfl rfl ?_
    refine R_iload_n (pc := 22) dX12_remember_22 rfl ?_
    refine R_aload_n (pc := 23) dX12_remember_23 rfl ?_
    refine M_g (pc := 24) dX12_remember_24 rfl rfl ?_
    refine R_iload_n (pc := 27) dX12_remember_27 rfl ?_
    refine R_sipush (pc := 28) (x := nI 2754) dX12_remember_28 (by decide) ?_
    refine R_iadd (pc := 31) dX12_remember_31 ?_
    refine M_ald (pc := 32) dX12_remember_32 (by first | with_reducible rfl | (simp only [nI_add, pk_mul]; exact rfl)) (by simp only [mol1, mol2, mol3, mol4, mol5, mol6, mol7, mol8, mol9, mol10, mol11, mol12, mol13]; omega) ?_
    refine M_ast (pc := 33) dX12_remember_33 (by first | with_reducible rfl | (simp only [nI_add, pk_mul]; exact rfl)) (by simp only [mol1, mol2, mol3, mol4, mol5, mol6, mol7, mol8, mol9, mol10, mol11, mol12, mol13]; omega) ?_
    refine R_iinc (pc := 34) dX12_remember_34 rfl (by first | exact nI_inc _ | rfl) rfl ?_
    refine R_goto (pc := 37) (t := 11) dX12_remember_37 (by decide) ?_
    refine Rn_A (A' := va_up A 2 (va_cpy (A 2) (A 2) (2754) (0) (k + 1))) (by rw [va_up_up]; exact congrArg (va_up A 2) (cpy_step (by omega) (by show va_cpy _ _ _ _ _ _ = _; rw [cpy_out (by omega), Nat.add_comm]))) ?_
    exact l12_rem1  n (k + 1) (by omega) hX
theorem l12_rem2 {q : Nat} (hq : q < 8) (hS : S 2 = nI q) : ∀ (n k : Nat) (_ : k + n = 2754) (_ : Rn sA mX12_remember 86 [some (.ref M), some (.int (nI 2754))] [] (putM h M (va_up A 2 (va_cpy (A 1) (A 2) (0) (2754 * q) 2754)) S, z) Q), Rn sA mX12_remember 52 [some (.ref M), some (.int (nI k))] [] (putM h M (va_up A 2 (va_cpy (A 1) (A 2) (0) (2754 * q) k)) S, z) Q
  | 0, k, hk, hX => by
    obtain rfl : k = 2754 := by omega
    refine R_iload_n (pc := 52) dX12_remember_52 rfl ?_
    refine R_sipush (pc := 53) (x := nI 2754) dX12_remember_53 (by decide) ?_
    refine R_icmp_ge (pc := 56) (t := 86) dX12_remember_56 (by decide) (fun _ => ?_) (fun hz9 => absurd (nI_le (by omega) (by omega)) hz9)
    exact hX
  | n + 1, k, hk, hX => by
    refine R_iload_n (pc := 52) dX12_remember_52 rfl ?_
    refine R_sipush (pc := 53) (x := nI 2754) dX12_remember_53 (by decide) ?_
    refine R_icmp_ge (pc := 56) (t := 86) dX12_remember_56 (by decide) (fun hz9 => absurd hz9 (nI_ge (by omega) (by omega))) (fun _ => ?_)
    refine R_aload_n (pc := 59) dX12_remember_59 rfl ?_
    refine M_g (pc := 60) dX12_remember_60 rfl rfl ?_
    refine R_sipush (pc := 63) (x := nI 2754) dX12_remember_63 (by decide) ?_
    refine R_aload_n (pc := 66) dX12_remember_66 rfl ?_
    refine M_g (pc := 67) dX12_remember_67 rfl rfl ?_
    refine R_imul (pc := 70) dX12_remember_70 ?_
    refine R_iload_n (pc := 71) dX12_remember_71 rfl ?_
    refine R_iadd (pc := 72) dX12_remember_72 ?_
    refine R_aload_n (pc := 73) dX12_remember_73 rfl ?_
    refine M_g (pc := 74) dX12_remember_74 rfl rfl ?_
    refine R_iload_n (pc := 77) dX12_remember_77 rfl ?_
    refine M_ald (pc := 78) dX12_remember_78 (by first | with_reducible rfl | (simp only [nI_add, pk_mul]; exact rfl)) (by simp only [mol1, mol2, mol3, mol4, mol5, mol6, mol7, mol8, mol9, mol10, mol11, mol12, mol13]; omega) ?_
    refine M_ast (pc := 79) dX12_remember_79 (by rw [hS, pk_mul, nI_add]) (by simp only [mol2]; omega) ?_
    refine R_iinc (pc := 80) dX12_remember_80 rfl (by first | exact nI_inc _ | rfl) rfl ?_
    refine R_goto (pc := 83) (t := 52) dX12_remember_83 (by decide) ?_
    refine Rn_A (A' := va_up A 2 (va_cpy (A 1) (A 2) (0) (2754 * q) (k + 1))) (by rw [va_up_up]; exact congrArg (va_up A 2) (cpy_step (by omega) (by rw [Nat.zero_add]; rfl))) ?_
    exact l12_rem2 hq hS n (k + 1) (by omega) hX
theorem t12_rem2 {q : Nat} {o : Option Value} (hq : q < 8) (hS : S 2 = nI q) (hQ : Q none (putM h M (va_up A 2 (va_cpy (A 1) (A 2) 0 (2754 * q) 2754)) (va_up S 2 (nI (q + 1))), z)) : Rn sA mX12_remember 50 [some (.ref M), o] [] (putM h M A S, z) Q := by
  refine R_iconst (pc := 50) (x := nI 0) dX12_remember_50 rfl ?_
  refine R_istore_n (pc := 51) dX12_remember_51 (Nat.le_of_ble_eq_true rfl) rfl ?_
  refine Rn_A (A' := va_up A 2 (va_cpy (A 1) (A 2) 0 (2754 * q) 0)) (by rw [cpy_0, va_up_id]) ?_
  refine l12_rem2 hq hS 2754 0 (by omega) ?_
  refine R_aload_n (pc := 86) dX12_remember_86 rfl ?_
  refine R_dup (pc := 87) dX12_remember_87 rfl ?_
  refine M_g (pc := 88) dX12_remember_88 rfl rfl ?_
  refine R_iconst (pc := 91) (x := nI 1) dX12_remember_91 rfl ?_
  refine R_iadd (pc := 92) dX12_remember_92 ?_
  refine M_p (pc := 93) dX12_remember_93 rfl rfl ?_
  refine R_vret (pc := 96) dX12_remember_96 rfl ?_
  rw [hS, nI_add]
  exact hQ
theorem s12_remember {pm : Nat} (hpm : pm ≤ 8) (hS : S 2 = nI pm) (hQ : Q none (putM h M (va_up A 2 (remP (A 1) (A 2) pm)) (va_up S 2 (nI (remN pm))), z)) : Rn sA mX12_remember 0 [some (.ref M), none] [] (putM h M A S, z) Q := by
  refine R_aload_n (pc := 0) dX12_remember_0 rfl ?_
  refine M_g (pc := 1) dX12_remember_1 rfl rfl ?_
  refine R_bipush (pc := 4) (x := nI 8) dX12_remember_4 (by decide) ?_
  refine R_icmp_ne (pc := 6) (t := 50) dX12_remember_6 (by decide) (fun h6 => ?_) (fun h6 => ?_)
  · first
      | (have hne : ¬ pm = 8 := fun q => h6 (by rw [hS, q])
         unfold remP remN at hQ
         rw [if_neg hne, if_neg hne] at hQ
         exact t12_rem2 (by omega) hS hQ)
      | (have he : pm = 8 := (nI_eq (by omega) (by omega)).mp (hS.symm.trans h6)
         subst he
         refine Rn_S (S' := va_up S 2 (nI 7)) (by rw [hS]; rfl) ?_
         refine t12_rem2 (q := 7) (by omega) rfl ?_
         rw [va_up_up, va_up_up]
         exact hQ)
  · refine R_iconst (pc := 9) (x := nI 0) dX12_remember_9 rfl ?_
    refine R_istore_n (pc := 10) dX12_remember_10 (Nat.le_of_ble_eq_true rfl) rfl ?_
    refine Rn_A (A' := va_up A 2 (va_cpy (A 2) (A 2) 2754 0 0)) (by rw [cpy_0, va_up_id]) ?_
    refine l12_rem1 19278 0 (by omega) ?_
    refine R_aload_n (pc := 40) dX12_remember_40 rfl ?_
    refine R_dup (pc := 41) dX12_remember_41 rfl ?_
    refine M_g (pc := 42) dX12_remember_42 rfl rfl ?_
    refine R_iconst (pc := 45) (x := nI 1) dX12_remember_45 rfl ?_
    refine R_isub (pc := 46) dX12_remember_46 ?_
    refine M_p (pc := 47) dX12_remember_47 rfl rfl ?_
    have he : pm = 8 := (nI_eq (by omega) (by omega)).mp (hS.symm.trans h6)
    subst he
    refine Rn_S (S' := va_up S 2 (nI 7)) (by rw [hS]; rfl) ?_
    refine t12_rem2 (q := 7) (by omega) rfl ?_
    rw [va_up_up, va_up_up]
    exact hQ
end MOD3
