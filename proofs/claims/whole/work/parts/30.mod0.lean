/-! THE REFERENCE'S OBJECT at M: its arrays M + 1 .. M + 13 with contents A 1 .. A 13, its numbers S (by slots 2, 4, 6, 7, 8, 12, 13) -/
def mo_obj (M : Nat) (S : Nat → Int32) : List Value := [.ref (M + 1), .ref (M + 2), .int (S 2), .ref (M + 3), .int (S 4), .ref (M + 4), .int (S 6), .int (S 7), .int (S 8), .ref (M + 5), .ref (M + 6), .ref (M + 7), .int (S 12), .int (S 13), .ref (M + 8), .ref (M + 9), .ref (M + 10), .ref (M + 11), .ref (M + 12), .ref (M + 13)]
def mo_len (o : Nat) : Nat := match o with
  | 1 => 2754
  | 2 => 22032
  | 3 => 5508
  | 4 => 50
  | 5 => 24
  | 6 => 5
  | 7 => 5
  | 8 => 1040
  | 9 => 40
  | 10 => 40
  | 11 => 40
  | 12 => 16
  | 13 => 2754
  | _ => 0

theorem mol1 : mo_len 1 = 2754 := rfl
theorem mol2 : mo_len 2 = 22032 := rfl
theorem mol3 : mo_len 3 = 5508 := rfl
theorem mol4 : mo_len 4 = 50 := rfl
theorem mol5 : mo_len 5 = 24 := rfl
theorem mol6 : mo_len 6 = 5 := rfl
theorem mol7 : mo_len 7 = 5 := rfl
theorem mol8 : mo_len 8 = 1040 := rfl
theorem mol9 : mo_len 9 = 40 := rfl
theorem mol10 : mo_len 10 = 40 := rfl
theorem mol11 : mo_len 11 = 40 := rfl
theorem mol12 : mo_len 12 = 16 := rfl
theorem mol13 : mo_len 13 = 2754 := rfl
theorem mo_len_le (o : Nat) : mo_len o ≤ 100000 := by unfold mo_len; split <;> decide
def putM (h : Nat → Option am_C) (M : Nat) (A : Nat → Nat → Int32) (S : Nat → Int32) : Nat → Option am_C := fun a => if a = M then some (.inr (12, mo_obj M S)) else if M < a ∧ a < M + 14 then some (.inl (0, mo_len (a - M), .inl (A (a - M)))) else h a
section MOD
variable {sA : Nat} {mi : am_I} {pc : Nat} {ls : am_L} {st : List Value} {h : Nat → Option am_C} {z : Nat × Nat} {Q : Option Value → am_H → Prop} {M : Nat} {A : Nat → Nat → Int32} {S : Nat → Int32}
theorem putM_o : putM h M A S M = some (.inr (12, mo_obj M S)) := by simp [putM]
theorem putM_a {o : Nat} (h0 : 0 < o) (h1 : o < 14) : putM h M A S (M + o) = some (.inl (0, mo_len o, .inl (A o))) := by
  unfold putM
  rw [if_neg (by omega), if_pos (by omega), show M + o - M = o by omega]
theorem putM_out {a : Nat} (ha : a < M ∨ M + 14 ≤ a) : putM h M A S a = h a := by
  unfold putM
  rw [if_neg (by omega), if_neg (by omega)]
theorem putM_sA {o : Nat} {f : Nat → Int32} (h0 : 0 < o) (h1 : o < 14) : va_up (putM h M A S) (M + o) (some (.inl (0, mo_len o, .inl f))) = putM h M (va_up A o f) S := by
  funext a
  unfold va_up putM
  by_cases e : a = M + o
  · rw [if_pos e, if_neg (by omega), if_pos (by omega)]
    subst e
    rw [show M + o - M = o by omega]
    show _ = some (Sum.inl (0, mo_len o, Sum.inl (if o = o then f else A o)))
    rw [if_pos rfl]
  · rw [if_neg e]
    by_cases e2 : a = M
    · rw [if_pos e2, if_pos e2]
    · rw [if_neg e2, if_neg e2]
      by_cases e3 : M < a ∧ a < M + 14
      · rw [if_pos e3, if_pos e3]
        show _ = some (Sum.inl (0, mo_len (a - M), Sum.inl (if a - M = o then f else A (a - M))))
        rw [if_neg (by omega)]
      · rw [if_neg e3, if_neg e3]
theorem putM_sS {k : Nat} {x : Int32} (hs : (mo_obj M S).set k (.int x) = mo_obj M (va_up S k x)) : va_up (putM h M A S) M (some (.inr (12, (mo_obj M S).set k (.int x)))) = putM h M A (va_up S k x) := by
  rw [hs]
  funext a
  unfold va_up putM
  by_cases e : a = M
  · rw [if_pos e, if_pos e]
  · rw [if_neg e, if_neg e, if_neg e]
theorem M_g {cp kf : Nat} {v : Value} (hd : decode mi.2.1 pc = .ok (.getfield cp, 3)) (hlk : (am_fldL mi.1).lookup cp = some (12, kf)) (hv : (mo_obj M S)[kf]? = some v) (k : Rn sA mi (pc + 3) ls (v :: st) (putM h M A S, z) Q) : Rn sA mi pc ls (.ref M :: st) (putM h M A S, z) Q := R_getf hd hlk putM_o hv k
theorem M_p {cp kf : Nat} {x : Int32} (hd : decode mi.2.1 pc = .ok (.putfield cp, 3)) (hlk : (am_fldL mi.1).lookup cp = some (12, kf)) (hk : (kf == 2 || kf == 4 || kf == 6 || kf == 7 || kf == 8 || kf == 12 || kf == 13) = true) (k : Rn sA mi (pc + 3) ls st (putM h M A (va_up S kf x), z) Q) : Rn sA mi pc ls (.int x :: .ref M :: st) (putM h M A S, z) Q := by
  have key : (mo_obj M S).set kf (.int x) = mo_obj M (va_up S kf x) ∧ am_okv (am_tys 12 kf) (.int x) = true ∧ am_fin 12 kf = false := by
    simp only [Bool.or_eq_true, beq_iff_eq] at hk
    rcases hk with (((((hk | hk) | hk) | hk) | hk) | hk) | hk <;> subst hk <;> exact ⟨rfl, rfl, rfl⟩
  refine R_putf hd hlk putM_o key.2.1 (Or.inl key.2.2) rfl ?_
  rw [putM_sS key.1]
  exact k
theorem M_ald {o j : Nat} {i : Int32} (hd : decode mi.2.1 pc = .ok (.iaload, 1)) (hi : i = nI j) (hj : j < mo_len o) (k : Rn sA mi (pc + 1) ls (.int (A o j) :: st) (putM h M A S, z) Q) (ho : (Nat.ble 1 o && Nat.ble o 13) = true := by rfl) : Rn sA mi pc ls (.int i :: .ref (M + o) :: st) (putM h M A S, z) Q := by
  simp only [Bool.and_eq_true, Nat.ble_eq] at ho
  exact R_iald hd (putM_a (by omega) (by omega)) (Or.inl rfl) hi hj (mo_len_le o) k
theorem M_ast {o j : Nat} {i x : Int32} (hd : decode mi.2.1 pc = .ok (.iastore, 1)) (hi : i = nI j) (hj : j < mo_len o) (k : Rn sA mi (pc + 1) ls st (putM h M (va_up A o (upd (A o) j x)) S, z) Q) (ho : (Nat.ble 1 o && Nat.ble o 13) = true := by rfl) : Rn sA mi pc ls (.int x :: .int i :: .ref (M + o) :: st) (putM h M A S, z) Q := by
  simp only [Bool.and_eq_true, Nat.ble_eq] at ho
  refine R_iast hd (putM_a (by omega) (by omega)) hi hj (mo_len_le o) ?_
  rw [putM_sA (by omega) (by omega)]
  exact k
theorem va_up_up {α : Type} {f : Nat → α} {k : Nat} {x y : α} : va_up (va_up f k x) k y = va_up f k y := by
  funext a
  unfold va_up
  by_cases e : a = k
  · rw [if_pos e, if_pos e]
  · rw [if_neg e, if_neg e, if_neg e]
theorem va_up_same {α : Type} {f : Nat → α} {k : Nat} {x : α} : va_up f k x k = x := by simp [va_up]
theorem nI_lt30 {a b : Nat} (ha : a < 2 ^ 31) (hb : b < 2 ^ 31) : nI a < nI b ↔ a < b := nI_ltI ha hb
theorem ix_le (x : Int32) {n : Nat} (hn : n ≤ 100000) (h : ∃ j, j < n ∧ x = nI j) : nI 0 ≤ x ∧ x ≤ nI n - nI 1 := by
  obtain ⟨j, hj, rfl⟩ := h
  rw [pk_sub (by omega)]
  exact ⟨(nI_leI (by omega) (by omega)).mpr (by omega), (nI_leI (by omega) (by omega)).mpr (by omega)⟩
theorem ix_of (x : Int32) {n : Nat} (hn : n ≤ 100000) (h : nI 0 ≤ x ∧ x ≤ nI n - nI 1) : ∃ j, j < n ∧ x = nI j := by
  rcases pk_ix x (n := n) (by omega) with h1 | h1 | h1
  · exact absurd h.1 (Int32.not_le.mpr h1)
  · exfalso
    have h2 := Int32.le_trans h1 h.2
    have h3 : (nI n).toInt = n := nI_toInt (by omega)
    have h4 : (nI n - nI 1).toInt = (n : Int) - 1 := by
      have := pk_sub_toInt (a := n) (b := 1) (by omega) (by omega)
      simpa using this
    have h5 := Int32.le_iff_toInt_le.mp h2
    omega
  · exact h1
theorem ix_le' (x : Int32) {n : Nat} (hn : n < 100000) (h : ∃ j, j ≤ n ∧ x = nI j) : nI 0 ≤ x ∧ x ≤ nI n := by
  obtain ⟨j, hj, rfl⟩ := h
  exact ⟨(nI_leI (by omega) (by omega)).mpr (by omega), (nI_leI (by omega) (by omega)).mpr hj⟩
theorem ix_of' (x : Int32) {n : Nat} (hn : n < 100000) (h : nI 0 ≤ x ∧ x ≤ nI n) : ∃ j, j ≤ n ∧ x = nI j := by
  rcases pk_ix x (n := n + 1) (by omega) with h1 | h1 | ⟨j, h1, h2⟩
  · exact absurd h.1 (Int32.not_le.mpr h1)
  · exact absurd (Int32.le_trans h1 h.2) (fun q => by have := (nI_leI (by omega) (by omega)).mp q; omega)
  · exact ⟨j, by omega, h2⟩
theorem s12_isIn {v lo hi : Int32} (h1 : lo ≤ v → v ≤ hi → Q (some (.int (nI 1))) (h, z)) (h0 : ¬ (lo ≤ v ∧ v ≤ hi) → Q (some (.int (nI 0))) (h, z)) : Rn sA mX12_isIn 0 [some (.int v), some (.int lo), some (.int hi)] [] (h, z) Q := by
  refine R_iload_n (pc := 0) dX12_isIn_0 rfl ?_
  refine R_iload_n (pc := 1) dX12_isIn_1 rfl ?_
  refine R_icmp_lt (pc := 2) (t := 14) dX12_isIn_2 (by decide) (fun h2 => ?_) (fun h2 => ?_)
  · refine R_iconst (pc := 14) (x := nI 0) dX12_isIn_14 rfl ?_
    refine R_zret (pc := 15) dX12_isIn_15 rfl (by decide) ?_
    first | exact h1 (Int32.not_lt.mp h2) (Int32.not_lt.mp h7) | exact h0 (fun q => absurd q.1 (Int32.not_le.mpr h2)) | exact h0 (fun q => absurd q.2 (Int32.not_le.mpr h7))
  · refine R_iload_n (pc := 5) dX12_isIn_5 rfl ?_
    refine R_iload_n (pc := 6) dX12_isIn_6 rfl ?_
    refine R_icmp_gt (pc := 7) (t := 14) dX12_isIn_7 (by decide) (fun h7 => ?_) (fun h7 => ?_)
    · refine R_iconst (pc := 14) (x := nI 0) dX12_isIn_14 rfl ?_
      refine R_zret (pc := 15) dX12_isIn_15 rfl (by decide) ?_
      first | exact h1 (Int32.not_lt.mp h2) (Int32.not_lt.mp h7) | exact h0 (fun q => absurd q.1 (Int32.not_le.mpr h2)) | exact h0 (fun q => absurd q.2 (Int32.not_le.mpr h7))
    · refine R_iconst (pc := 10) (x := nI 1) dX12_isIn_10 rfl ?_
      refine R_goto (pc := 11) (t := 15) dX12_isIn_11 (by decide) ?_
      refine R_zret (pc := 15) dX12_isIn_15 rfl (by decide) ?_
      first | exact h1 (Int32.not_lt.mp h2) (Int32.not_lt.mp h7) | exact h0 (fun q => absurd q.1 (Int32.not_le.mpr h2)) | exact h0 (fun q => absurd q.2 (Int32.not_le.mpr h7))
/-- a number from 0 to n - 1, or not -/
theorem s12_in0 {v hi : Int32} {n : Nat} (hn : n ≤ 100000) (hh : hi = nI n - nI 1) (h1 : ∀ j, j < n → v = nI j → Q (some (.int (nI 1))) (h, z)) (h0 : (∀ j, j < n → v ≠ nI j) → Q (some (.int (nI 0))) (h, z)) : Rn sA mX12_isIn 0 [some (.int v), some (.int (nI 0)), some (.int hi)] [] (h, z) Q := by
  subst hh
  refine s12_isIn (fun a b => ?_) (fun a => ?_)
  · obtain ⟨j, hj, e⟩ := ix_of v hn ⟨a, b⟩
    exact h1 j hj e
  · exact h0 (fun j hj e => a (ix_le v hn ⟨j, hj, e⟩))
theorem s12_in1 {v : Int32} {n : Nat} (hn : n < 100000) (h1 : ∀ j, j ≤ n → v = nI j → Q (some (.int (nI 1))) (h, z)) (h0 : (∀ j, j ≤ n → v ≠ nI j) → Q (some (.int (nI 0))) (h, z)) : Rn sA mX12_isIn 0 [some (.int v), some (.int (nI 0)), some (.int (nI n))] [] (h, z) Q := by
  refine s12_isIn (fun a b => ?_) (fun a => ?_)
  · obtain ⟨j, hj, e⟩ := ix_of' v hn ⟨a, b⟩
    exact h1 j hj e
  · exact h0 (fun j hj e => a (ix_le' v hn ⟨j, hj, e⟩))
theorem s12_isField {v : Int32} (h1 : ∀ j, j < 6 → v = nI j → Q (some (.int (nI 1))) (h, z)) (h0 : (∀ j, j < 6 → v ≠ nI j) → Q (some (.int (nI 0))) (h, z)) : Rn sA mX12_isField 0 [some (.int v)] [] (h, z) Q := by
  refine R_iload_n (pc := 0) dX12_isField_0 rfl ?_
  refine R_iconst (pc := 1) (x := nI 0) dX12_isField_1 rfl ?_
  refine R_iconst (pc := 2) (x := nI 5) dX12_isField_2 rfl ?_
  refine R_callS (pc := 3) dX12_isField_3 rfl (Or.inl rfl) rfl rfl ?_
  refine s12_in0 (n := 6) (by decide) (by decide) (fun j hj e => ?_) (fun e => ?_)
  · refine R_zret (pc := 6) dX12_isField_6 rfl (by decide) ?_
    first | exact h1 j hj e | exact h0 e
  · refine R_zret (pc := 6) dX12_isField_6 rfl (by decide) ?_
    first | exact h1 j hj e | exact h0 e
theorem s12_isColumn {v : Int32} (h1 : ∀ j, j < 24 → v = nI j → Q (some (.int (nI 1))) (h, z)) (h0 : (∀ j, j < 24 → v ≠ nI j) → Q (some (.int (nI 0))) (h, z)) : Rn sA mX12_isColumn 0 [some (.int v)] [] (h, z) Q := by
  refine R_iload_n (pc := 0) dX12_isColumn_0 rfl ?_
  refine R_iconst (pc := 1) (x := nI 0) dX12_isColumn_1 rfl ?_
  refine R_bipush (pc := 2) (x := nI 23) dX12_isColumn_2 (by decide) ?_
  refine R_callS (pc := 4) dX12_isColumn_4 rfl (Or.inl rfl) rfl rfl ?_
  refine s12_in0 (n := 24) (by decide) (by decide) (fun j hj e => ?_) (fun e => ?_)
  · refine R_zret (pc := 7) dX12_isColumn_7 rfl (by decide) ?_
    first | exact h1 j hj e | exact h0 e
  · refine R_zret (pc := 7) dX12_isColumn_7 rfl (by decide) ?_
    first | exact h1 j hj e | exact h0 e
theorem s12_isImage {v : Int32} (h1 : ∀ j, j < 2 → v = nI j → Q (some (.int (nI 1))) (h, z)) (h0 : (∀ j, j < 2 → v ≠ nI j) → Q (some (.int (nI 0))) (h, z)) : Rn sA mX12_isImage 0 [some (.int v)] [] (h, z) Q := by
  refine R_iload_n (pc := 0) dX12_isImage_0 rfl ?_
  refine R_iconst (pc := 1) (x := nI 0) dX12_isImage_1 rfl ?_
  refine R_iconst (pc := 2) (x := nI 1) dX12_isImage_2 rfl ?_
  refine R_callS (pc := 3) dX12_isImage_3 rfl (Or.inl rfl) rfl rfl ?_
  refine s12_in0 (n := 2) (by decide) (by decide) (fun j hj e => ?_) (fun e => ?_)
  · refine R_zret (pc := 6) dX12_isImage_6 rfl (by decide) ?_
    first | exact h1 j hj e | exact h0 e
  · refine R_zret (pc := 6) dX12_isImage_6 rfl (by decide) ?_
    first | exact h1 j hj e | exact h0 e
theorem s12_isCard {v : Int32} {n : Nat} (hn : n ≤ 40) (hw : A 1 19 = nI n) (h1 : ∀ j, j < n → v = nI j → Q (some (.int (nI 1))) (putM h M A S, z)) (h0 : (∀ j, j < n → v ≠ nI j) → Q (some (.int (nI 0))) (putM h M A S, z)) : Rn sA mX12_isCard 0 [some (.ref M), some (.int v)] [] (putM h M A S, z) Q := by
  refine R_iload_n (pc := 0) dX12_isCard_0 rfl ?_
  refine R_iconst (pc := 1) (x := nI 0) dX12_isCard_1 rfl ?_
  refine R_aload_n (pc := 2) dX12_isCard_2 rfl ?_
  refine M_g (pc := 3) dX12_isCard_3 rfl rfl ?_
  refine R_bipush (pc := 6) (x := nI 19) dX12_isCard_6 (by decide) ?_
  refine M_ald (pc := 8) dX12_isCard_8 (by first | with_reducible rfl | (simp only [nI_add, pk_mul]; exact rfl)) (by simp only [mol1, mol2, mol3, mol4, mol5, mol6, mol7, mol8, mol9, mol10, mol11, mol12, mol13]; omega) ?_
  refine R_iconst (pc := 9) (x := nI 1) dX12_isCard_9 rfl ?_
  refine R_isub (pc := 10) dX12_isCard_10 ?_
  refine R_callS (pc := 11) dX12_isCard_11 rfl (Or.inl rfl) rfl rfl ?_
  refine s12_in0 (n := n) (by omega) (by rw [hw]) (fun j hj e => ?_) (fun e => ?_)
  · refine R_zret (pc := 14) dX12_isCard_14 rfl (by decide) ?_
    first | exact h1 j hj e | exact h0 e
  · refine R_zret (pc := 14) dX12_isCard_14 rfl (by decide) ?_
    first | exact h1 j hj e | exact h0 e
theorem s12_of {c k : Nat} (hc : c < 41) (hk : k < 26) (hQ : Q (some (.int (A 1 (20 + 26 * c + k)))) (putM h M A S, z)) : Rn sA mX12_of 0 [some (.ref M), some (.int (nI c)), some (.int (nI k))] [] (putM h M A S, z) Q := by
  refine R_aload_n (pc := 0) dX12_of_0 rfl ?_
  refine M_g (pc := 1) dX12_of_1 rfl rfl ?_
  refine R_bipush (pc := 4) (x := nI 20) dX12_of_4 (by decide) ?_
  refine R_bipush (pc := 6) (x := nI 26) dX12_of_6 (by decide) ?_
  refine R_iload_n (pc := 8) dX12_of_8 rfl ?_
  refine R_imul (pc := 9) dX12_of_9 ?_
  refine R_iadd (pc := 10) dX12_of_10 ?_
  refine R_iload_n (pc := 11) dX12_of_11 rfl ?_
  refine R_iadd (pc := 12) dX12_of_12 ?_
  refine M_ald (pc := 13) dX12_of_13 (by first | with_reducible rfl | (simp only [nI_add, pk_mul]; exact rfl)) (by simp only [mol1, mol2, mol3, mol4, mol5, mol6, mol7, mol8, mol9, mol10, mol11, mol12, mol13]; omega) ?_
  refine R_iret (pc := 14) dX12_of_14 rfl ?_
  exact hQ
theorem s12_first {f : Nat} (hf : f < 6) (hQ : Q (some (.int (A 1 (0 + 2 * f)))) (putM h M A S, z)) : Rn sA mX12_first 0 [some (.ref M), some (.int (nI f))] [] (putM h M A S, z) Q := by
  refine R_aload_n (pc := 0) dX12_first_0 rfl ?_
  refine M_g (pc := 1) dX12_first_1 rfl rfl ?_
  refine R_iconst (pc := 4) (x := nI 0) dX12_first_4 rfl ?_
  refine R_iconst (pc := 5) (x := nI 2) dX12_first_5 rfl ?_
  refine R_iload_n (pc := 6) dX12_first_6 rfl ?_
  refine R_imul (pc := 7) dX12_first_7 ?_
  refine R_iadd (pc := 8) dX12_first_8 ?_
  refine M_ald (pc := 9) dX12_first_9 (by first | with_reducible rfl | (simp only [nI_add, pk_mul]; exact rfl)) (by simp only [mol1, mol2, mol3, mol4, mol5, mol6, mol7, mol8, mol9, mol10, mol11, mol12, mol13]; omega) ?_
  refine R_iret (pc := 10) dX12_first_10 rfl ?_
  exact hQ
theorem s12_width {f : Nat} (hf : f < 6) (hQ : Q (some (.int (A 1 (0 + 2 * f + 1)))) (putM h M A S, z)) : Rn sA mX12_width 0 [some (.ref M), some (.int (nI f))] [] (putM h M A S, z) Q := by
  refine R_aload_n (pc := 0) dX12_width_0 rfl ?_
  refine M_g (pc := 1) dX12_width_1 rfl rfl ?_
  refine R_iconst (pc := 4) (x := nI 0) dX12_width_4 rfl ?_
  refine R_iconst (pc := 5) (x := nI 2) dX12_width_5 rfl ?_
  refine R_iload_n (pc := 6) dX12_width_6 rfl ?_
  refine R_imul (pc := 7) dX12_width_7 ?_
  refine R_iadd (pc := 8) dX12_width_8 ?_
  refine R_iconst (pc := 9) (x := nI 1) dX12_width_9 rfl ?_
  refine R_iadd (pc := 10) dX12_width_10 ?_
  refine M_ald (pc := 11) dX12_width_11 (by first | with_reducible rfl | (simp only [nI_add, pk_mul]; exact rfl)) (by simp only [mol1, mol2, mol3, mol4, mol5, mol6, mol7, mol8, mol9, mol10, mol11, mol12, mol13]; omega) ?_
  refine R_iret (pc := 12) dX12_width_12 rfl ?_
  exact hQ
theorem s12_accepted {c k : Nat} (hc : c < 40) (hk : k < 5) (hQ : Q (some (.int (A 1 (1104 + 5 * c + k)))) (putM h M A S, z)) : Rn sA mX12_accepted 0 [some (.ref M), some (.int (nI c)), some (.int (nI k))] [] (putM h M A S, z) Q := by
  refine R_aload_n (pc := 0) dX12_accepted_0 rfl ?_
  refine M_g (pc := 1) dX12_accepted_1 rfl rfl ?_
  refine R_sipush (pc := 4) (x := nI 1104) dX12_accepted_4 (by decide) ?_
  refine R_iconst (pc := 7) (x := nI 5) dX12_accepted_7 rfl ?_
  refine R_iload_n (pc := 8) dX12_accepted_8 rfl ?_
  refine R_imul (pc := 9) dX12_accepted_9 ?_
  refine R_iadd (pc := 10) dX12_accepted_10 ?_
  refine R_iload_n (pc := 11) dX12_accepted_11 rfl ?_
  refine R_iadd (pc := 12) dX12_accepted_12 ?_
  refine M_ald (pc := 13) dX12_accepted_13 (by first | with_reducible rfl | (simp only [nI_add, pk_mul]; exact rfl)) (by simp only [mol1, mol2, mol3, mol4, mol5, mol6, mol7, mol8, mol9, mol10, mol11, mol12, mol13]; omega) ?_
  refine R_iret (pc := 14) dX12_accepted_14 rfl ?_
  exact hQ
theorem s12_layField {f : Nat} {p q : Int32} (hf : f < 6) (hQ : Q none (putM h M (va_up A 1 (upd (upd (A 1) (0 + 2 * f) p) (0 + 2 * f + 1) q)) S, z)) : Rn sA mX12_layField 0 [some (.ref M), some (.int (nI f)), some (.int p), some (.int q)] [] (putM h M A S, z) Q := by
  refine R_aload_n (pc := 0) dX12_layField_0 rfl ?_
  refine M_g (pc := 1) dX12_layField_1 rfl rfl ?_
  refine R_iconst (pc := 4) (x := nI 0) dX12_layField_4 rfl ?_
  refine R_iconst (pc := 5) (x := nI 2) dX12_layField_5 rfl ?_
  refine R_iload_n (pc := 6) dX12_layField_6 rfl ?_
  refine R_imul (pc := 7) dX12_layField_7 ?_
  refine R_iadd (pc := 8) dX12_layField_8 ?_
  refine R_iload_n (pc := 9) dX12_layField_9 rfl ?_
  refine M_ast (pc := 10) dX12_layField_10 (by first | with_reducible rfl | (simp only [nI_add, pk_mul]; exact rfl)) (by simp only [mol1, mol2, mol3, mol4, mol5, mol6, mol7, mol8, mol9, mol10, mol11, mol12, mol13]; omega) ?_
  refine R_aload_n (pc := 11) dX12_layField_11 rfl ?_
  refine M_g (pc := 12) dX12_layField_12 rfl rfl ?_
  refine R_iconst (pc := 15) (x := nI 0) dX12_layField_15 rfl ?_
  refine R_iconst (pc := 16) (x := nI 2) dX12_layField_16 rfl ?_
  refine R_iload_n (pc := 17) dX12_layField_17 rfl ?_
  refine R_imul (pc := 18) dX12_layField_18 ?_
  refine R_iadd (pc := 19) dX12_layField_19 ?_
  refine R_iconst (pc := 20) (x := nI 1) dX12_layField_20 rfl ?_
  refine R_iadd (pc := 21) dX12_layField_21 ?_
  refine R_iload_n (pc := 22) dX12_layField_22 rfl ?_
  refine M_ast (pc := 23) dX12_layField_23 (by first | with_reducible rfl | (simp only [nI_add, pk_mul]; exact rfl)) (by simp only [mol1, mol2, mol3, mol4, mol5, mol6, mol7, mol8, mol9, mol10, mol11, mol12, mol13]; omega) ?_
  refine R_vret (pc := 24) dX12_layField_24 rfl ?_
  simpa [va_up_up, va_up_same] using hQ
theorem s12_fails {p q : Int32} (hQ : Q none (putM h M A (va_up (va_up S 12 p) 13 q), z)) : Rn sA mX12_fails 0 [some (.ref M), some (.int p), some (.int q)] [] (putM h M A S, z) Q := by
  refine R_aload_n (pc := 0) dX12_fails_0 rfl ?_
  refine R_iload_n (pc := 1) dX12_fails_1 rfl ?_
  refine M_p (pc := 2) dX12_fails_2 rfl rfl ?_
  refine R_aload_n (pc := 5) dX12_fails_5 rfl ?_
  refine R_iload_n (pc := 6) dX12_fails_6 rfl ?_
  refine M_p (pc := 7) dX12_fails_7 rfl rfl ?_
  refine R_vret (pc := 10) dX12_fails_10 rfl ?_
  exact hQ
end MOD
