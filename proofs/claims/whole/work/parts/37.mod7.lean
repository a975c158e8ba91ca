section MOD7
variable {sA : Nat} {h : Nat → Option am_C} {z : Nat × Nat} {Q : Option Value → am_H → Prop} {M : Nat} {A : Nat → Nat → Int32} {S : Nat → Int32}
theorem DkO.ext {U V : Nat → Int32} {n : Nat} {o o' : Nat → Nat} (h : DkO U n o V) (e : ∀ i, i < n → o i = o' i) : DkO U n o' V := ⟨fun i hi j hj => by rw [← e i hi]; exact h.1 i hi j hj, h.2⟩
theorem DkO.cpy {U V : Nat → Int32} {n a b : Nat} {o : Nat → Nat} (h : DkO U n o V) (ha : a < n) (hb : b < n) : DkO U n (fun i => if i = b then o a else o i) (va_cpy V V (20 + 26 * a) (20 + 26 * b) 26) := by
  refine ⟨fun i hi j hj => ?_, fun j hj => ?_⟩
  · dsimp only
    by_cases e : i = b
    · subst e
      rw [cpy_in (by omega) (by omega), if_pos rfl, show 20 + 26 * i + j - (20 + 26 * i) = j by omega]
      exact h.1 a ha j hj
    · rw [cpy_out (by omega), if_neg e]
      exact h.1 i hi j hj
  · rw [cpy_out (by omega)]
    exact h.2 j hj
theorem DkO.held {U V F : Nat → Int32} {n a b : Nat} {o : Nat → Nat} (hn : n ≤ 40) (hF : ∀ j, j < 1040 → F j = U (20 + j)) (h : DkO U n o V) (ha : a < n) (hb : b < n) : DkO U n (fun i => if i = b then a else o i) (va_cpy F V (26 * a) (20 + 26 * b) 26) := by
  refine ⟨fun i hi j hj => ?_, fun j hj => ?_⟩
  · dsimp only
    by_cases e : i = b
    · subst e
      rw [cpy_in (by omega) (by omega), if_pos rfl, show 20 + 26 * i + j - (20 + 26 * i) = j by omega, hF _ (by omega)]
      congr 1
      omega
    · rw [cpy_out (by omega), if_neg e]
      exact h.1 i hi j hj
  · rw [cpy_out (by omega)]
    exact h.2 j hj
theorem DkO.rf {U : Nat → Int32} {n : Nat} : DkO U n (fun i => i) U := ⟨fun _ _ _ _ => rfl, fun _ _ => rfl⟩
def tkO (c m i : Nat) : Nat := if c ≤ i ∧ i < m then i + 1 else i
theorem tkO_step {c m : Nat} (i : Nat) (hc : c ≤ m) : (if i = m then tkO c m (m + 1) else tkO c m i) = tkO c (m + 1) i := by
  unfold tkO
  repeat' split
  all_goals omega
theorem l12_take {U : Nat → Int32} {n c : Nat} (hn : n ≤ 40) (hw : U 19 = nI n) (hc : c < n) : ∀ (r m : Nat) (V : Nat → Int32) (_ : m + r = n - 1) (_ : c ≤ m) (_ : DkO U n (tkO c m) V) (_ : (∀ (V : Nat → Int32) (k2 : Option Value), DkO U n (tkO c (n - 1)) V → Rn sA mX12_take 44 [some (.ref M), some (.int (nI c)), k2] [] (putM h M (va_up A 1 V) S, z) Q)), Rn sA mX12_take 17 [some (.ref M), some (.int (nI c)), some (.int (nI m))] [] (putM h M (va_up A 1 V) S, z) Q
  | 0, m, V, hk, hcm, hO, hX => by
    obtain rfl : m = n - 1 := by omega
    refine R_iload_n (pc := 17) dX12_take_17 rfl ?_
    refine R_iconst (pc := 18) (x := nI 1) dX12_take_18 rfl ?_
    refine R_iadd (pc := 19) dX12_take_19 ?_
    refine R_aload_n (pc := 20) dX12_take_20 rfl ?_
    refine M_g (pc := 21) dX12_take_21 rfl rfl ?_
    refine R_bipush (pc := 24) (x := nI 19) dX12_take_24 (by decide) ?_
    refine M_ald (pc := 26) dX12_take_26 (by first | with_reducible rfl | (simp only [nI_add, pk_mul]; exact rfl)) (by simp only [mol1, mol2, mol3, mol4, mol5, mol6, mol7, mol8, mol9, mol10, mol11, mol12, mol13]; omega) ?_
    refine R_icmp_ge (pc := 27) (t := 44) dX12_take_27 (by decide) (fun _ => ?_) (fun hz9 => absurd (by rw [nI_add, show va_up A 1 V 1 19 = nI n from (hO.2 19 (by omega)).trans hw]; exact nI_le (by omega) (by omega)) hz9)
    exact hX V _ hO
  | r + 1, m, V, hk, hcm, hO, hX => by
    refine R_iload_n (pc := 17) dX12_take_17 rfl ?_
    refine R_iconst (pc := 18) (x := nI 1) dX12_take_18 rfl ?_
    refine R_iadd (pc := 19) dX12_take_19 ?_
    refine R_aload_n (pc := 20) dX12_take_20 rfl ?_
    refine M_g (pc := 21) dX12_take_21 rfl rfl ?_
    refine R_bipush (pc := 24) (x := nI 19) dX12_take_24 (by decide) ?_
    refine M_ald (pc := 26) dX12_take_26 (by first | with_reducible rfl | (simp only [nI_add, pk_mul]; exact rfl)) (by simp only [mol1, mol2, mol3, mol4, mol5, mol6, mol7, mol8, mol9, mol10, mol11, mol12, mol13]; omega) ?_
    refine R_icmp_ge (pc := 27) (t := 44) dX12_take_27 (by decide) (fun hz9 => absurd hz9 (by rw [nI_add, show va_up A 1 V 1 19 = nI n from (hO.2 19 (by omega)).trans hw]; exact nI_ge (by omega) (by omega))) (fun _ => ?_)
    refine R_aload_n (pc := 30) dX12_take_30 rfl ?_
    refine R_iload_n (pc := 31) dX12_take_31 rfl ?_
    refine R_iconst (pc := 32) (x := nI 1) dX12_take_32 rfl ?_
    refine R_iadd (pc := 33) dX12_take_33 ?_
    refine R_iload_n (pc := 34) dX12_take_34 rfl ?_
    refine R_callV (pc := 35) dX12_take_35 rfl putM_o rfl rfl ?_
    rw [nI_add]
    refine s12_cpc (by omega) (by omega) (by omega) ?_
    refine R_iinc (pc := 38) dX12_take_38 rfl (by first | exact nI_inc _ | rfl) rfl ?_
    refine R_goto (pc := 41) (t := 17) dX12_take_41 (by decide) ?_
    rw [va_up_up]
    exact l12_take hn hw hc r (m + 1) (va_cpy V V (20 + 26 * (m + 1)) (20 + 26 * m) 26) (by omega) (by omega) ((hO.cpy (by omega) (by omega)).ext (fun i hi => tkO_step i (by omega))) hX
theorem s12_take {a : Int32} {n pm : Nat} (hn : n ≤ 40) (hw : A 1 19 = nI n) (hpm : pm ≤ 8) (hS : S 2 = nI pm) (hB : (∀ c, c < n → ¬ a = nI c) → Q (some (.int (-1000001))) (putM h M A S, z)) (hG : ∀ c, c < n → a = nI c → ∀ (V : Nat → Int32) (A2 : Nat → Nat → Int32), DkO (A 1) n (tkO c (n - 1)) V → A2 1 = upd V 19 (nI (n - 1)) → A2 2 = remP (A 1) (A 2) pm → A2 3 = A 3 → A2 4 = A 4 → Q (some (.int (nI (n - 1)))) (putM h M A2 (va_up S 2 (nI (remN pm))), z)) : Rn sA mX12_take 0 [some (.ref M), some (.int a), none] [] (putM h M A S, z) Q := by
  refine R_aload_n (pc := 0) dX12_take_0 rfl ?_
  refine R_iload_n (pc := 1) dX12_take_1 rfl ?_
  refine R_callV (pc := 2) dX12_take_2 rfl putM_o rfl rfl ?_
  refine s12_isCard hn hw (fun c hcc ec => ?_) (fun ec => ?_)
  · subst ec
    refine R_if_ne (pc := 5) (t := 11) dX12_take_5 (by decide) (fun _ => ?_) (fun hz9 => absurd hz9 (by decide))
    refine R_aload_n (pc := 11) dX12_take_11 rfl ?_
    refine R_callV (pc := 12) dX12_take_12 rfl putM_o rfl rfl ?_
    refine s12_remember hpm hS ?_
    refine R_iload_n (pc := 15) dX12_take_15 rfl ?_
    refine R_istore_n (pc := 16) dX12_take_16 (Nat.le_of_ble_eq_true rfl) rfl ?_
    refine Rn_A (A' := va_up (va_up A 2 (remP (A 1) (A 2) pm)) 1 (A 1)) (show _ = va_up (va_up A 2 (remP (A 1) (A 2) pm)) 1 (va_up A 2 (remP (A 1) (A 2) pm) 1) from va_up_id.symm) ?_
    refine l12_take (A := va_up A 2 (remP (A 1) (A 2) pm)) (U := A 1) hn hw hcc (n - 1 - c) c (A 1) (by omega) (Nat.le_refl _) (DkO.rf.ext (fun i _ => by unfold tkO; rw [if_neg (by omega)])) (fun V k2 hO => ?_)
    refine R_aload_n (pc := 44) dX12_take_44 rfl ?_
    refine M_g (pc := 45) dX12_take_45 rfl rfl ?_
    refine R_bipush (pc := 48) (x := nI 19) dX12_take_48 (by decide) ?_
    refine R_dup2 (pc := 50) dX12_take_50 rfl rfl ?_
    refine M_ald (pc := 51) dX12_take_51 (by first | with_reducible rfl | (simp only [nI_add, pk_mul]; exact rfl)) (by simp only [mol1, mol2, mol3, mol4, mol5, mol6, mol7, mol8, mol9, mol10, mol11, mol12, mol13]; omega) ?_
    refine R_iconst (pc := 52) (x := nI 1) dX12_take_52 rfl ?_
    refine R_isub (pc := 53) dX12_take_53 ?_
    refine M_ast (pc := 54) dX12_take_54 (by first | with_reducible rfl | (simp only [nI_add, pk_mul]; exact rfl)) (by simp only [mol1, mol2, mol3, mol4, mol5, mol6, mol7, mol8, mol9, mol10, mol11, mol12, mol13]; omega) ?_
    refine R_aload_n (pc := 55) dX12_take_55 rfl ?_
    refine M_g (pc := 56) dX12_take_56 rfl rfl ?_
    refine R_bipush (pc := 59) (x := nI 19) dX12_take_59 (by decide) ?_
    refine M_ald (pc := 61) dX12_take_61 (by first | with_reducible rfl | (simp only [nI_add, pk_mul]; exact rfl)) (by simp only [mol1, mol2, mol3, mol4, mol5, mol6, mol7, mol8, mol9, mol10, mol11, mol12, mol13]; omega) ?_
    refine R_iret (pc := 62) dX12_take_62 rfl ?_
    first
      | exact hB ec
      | (have e19 : V 19 = nI n := (hO.2 19 (by omega)).trans hw
         have e20 : V 19 - nI 1 = nI (n - 1) := by rw [e19, pk_sub (by omega)]
         exact Eq.mpr (congrArg (fun x => Q (some (.int x)) _) (show upd V 19 (V 19 - nI 1) 19 = nI (n - 1) by rw [upd_s, e20])) (hG c hcc rfl V _ hO (show upd V 19 (V 19 - nI 1) = _ by rw [e20]) rfl rfl rfl))
  · refine R_if_ne (pc := 5) (t := 11) dX12_take_5 (by decide) (fun hz9 => absurd hz9 (by decide)) (fun _ => ?_)
    refine R_ldc (pc := 8) (x := (-1000001)) dX12_take_8 rfl ?_
    refine R_iret (pc := 10) dX12_take_10 rfl ?_
    first
      | exact hB ec
      | (have e19 : V 19 = nI n := (hO.2 19 (by omega)).trans hw
         have e20 : V 19 - nI 1 = nI (n - 1) := by rw [e19, pk_sub (by omega)]
         exact Eq.mpr (congrArg (fun x => Q (some (.int x)) _) (show upd V 19 (V 19 - nI 1) 19 = nI (n - 1) by rw [upd_s, e20])) (hG c hcc rfl V _ hO (show upd V 19 (V 19 - nI 1) = _ by rw [e20]) rfl rfl rfl))
def mvO2 (c t i : Nat) : Nat := if i = t then c else if c ≤ i ∧ i < t then i + 1 else if t < i ∧ i ≤ c then i - 1 else i
def mvA (c m i : Nat) : Nat := if c ≤ i ∧ i < m then i + 1 else i
def mvB (c t m i : Nat) : Nat := if m < i ∧ i ≤ c then i - 1 else mvA c t i
theorem mvA_step {c m : Nat} (i : Nat) (hc : c ≤ m) : (if i = m then m + 1 else mvA c m i) = mvA c (m + 1) i := by
  unfold mvA
  repeat' split
  all_goals omega
theorem mvB_step {c t m : Nat} (i : Nat) (hc : m + 1 ≤ c) : (if i = m + 1 then m else mvB c t (m + 1) i) = mvB c t m i := by
  unfold mvB
  repeat' split
  all_goals omega
theorem mvB_end {c t : Nat} (i : Nat) : (if i = t then c else mvB c t (min c t) i) = mvO2 c t i := by
  unfold mvB mvA mvO2
  repeat' split
  all_goals omega
theorem mvB_0 {c t : Nat} (i : Nat) : mvB c t c i = mvA c t i := by
  unfold mvB
  rw [if_neg (by omega)]
theorem l12_mvA {U : Nat → Int32} {n c t : Nat} (hn : n ≤ 40) (hc : c < n) (ht : t < n) (hF : ∀ j, j < 1040 → A 8 j = U (20 + j)) : ∀ (r m : Nat) (V : Nat → Int32) (_ : m + r = t ∨ (r = 0 ∧ t ≤ m ∧ m = c)) (_ : c ≤ m) (_ : DkO U n (mvA c m) V) (_ : (∀ (V : Nat → Int32) (k3 : Option Value), DkO U n (mvA c t) V → Rn sA mX12_move 48 [some (.ref M), some (.int (nI c)), some (.int (nI t)), k3] [] (putM h M (va_up A 1 V) S, z) Q)), Rn sA mX12_move 29 [some (.ref M), some (.int (nI c)), some (.int (nI t)), some (.int (nI m))] [] (putM h M (va_up A 1 V) S, z) Q
  | 0, m, V, hk, hcm, hO, hX => by
    have hle : t ≤ m := by omega
    have hO2 : DkO U n (mvA c t) V := hO.ext (fun i hi => by unfold mvA; repeat' split
                                                             all_goals omega)
    refine R_iload_n (pc := 29) dX12_move_29 rfl ?_
    refine R_iload_n (pc := 30) dX12_move_30 rfl ?_
    refine R_icmp_ge (pc := 31) (t := 48) dX12_move_31 (by decide) (fun _ => ?_) (fun hz9 => absurd (nI_le (by omega) (by omega)) hz9)
    exact hX V _ hO2
  | r + 1, m, V, hk, hcm, hO, hX => by
    refine R_iload_n (pc := 29) dX12_move_29 rfl ?_
    refine R_iload_n (pc := 30) dX12_move_30 rfl ?_
    refine R_icmp_ge (pc := 31) (t := 48) dX12_move_31 (by decide) (fun hz9 => absurd hz9 (nI_ge (by omega) (by omega))) (fun _ => ?_)
    refine R_aload_n (pc := 34) dX12_move_34 rfl ?_
    refine R_iload_n (pc := 35) dX12_move_35 rfl ?_
    refine R_iconst (pc := 36) (x := nI 1) dX12_move_36 rfl ?_
    refine R_iadd (pc := 37) dX12_move_37 ?_
    refine R_iload_n (pc := 38) dX12_move_38 rfl ?_
    refine R_callV (pc := 39) dX12_move_39 rfl putM_o rfl rfl ?_
    rw [nI_add]
    refine s12_from (by omega) (by omega) ?_
    refine R_iinc (pc := 42) dX12_move_42 rfl (by first | exact nI_inc _ | rfl) rfl ?_
    refine R_goto (pc := 45) (t := 29) dX12_move_45 (by decide) ?_
    rw [va_up_up]
    exact l12_mvA hn hc ht hF r (m + 1) _ (by omega) (by omega) ((hO.held hn hF (by omega) (by omega)).ext (fun i _ => mvA_step i (by omega))) hX
theorem l12_mvB {U : Nat → Int32} {n c t : Nat} (hn : n ≤ 40) (hc : c < n) (ht : t < n) (hF : ∀ j, j < 1040 → A 8 j = U (20 + j)) : ∀ (r m : Nat) (V : Nat → Int32) (_ : m = t + r ∨ (r = 0 ∧ m ≤ t ∧ m = c)) (_ : m ≤ c) (_ : DkO U n (mvB c t m) V) (_ : (∀ (V : Nat → Int32) (k3 : Option Value), DkO U n (mvB c t (min c t)) V → Rn sA mX12_move 69 [some (.ref M), some (.int (nI c)), some (.int (nI t)), k3] [] (putM h M (va_up A 1 V) S, z) Q)), Rn sA mX12_move 50 [some (.ref M), some (.int (nI c)), some (.int (nI t)), some (.int (nI m))] [] (putM h M (va_up A 1 V) S, z) Q
  | 0, m, V, hk, hcm, hO, hX => by
    have hle : m ≤ t := by omega
    have hm : m = min c t := by omega
    rw [hm] at hO
    refine R_iload_n (pc := 50) dX12_move_50 rfl ?_
    refine R_iload_n (pc := 51) dX12_move_51 rfl ?_
    refine R_icmp_le (pc := 52) (t := 69) dX12_move_52 (by decide) (fun _ => ?_) (fun hz9 => absurd (nI_le (by omega) (by omega)) hz9)
    exact hX V _ hO
  | r + 1, m, V, hk, hcm, hO, hX => by
    obtain ⟨q, rfl⟩ : ∃ q, m = q + 1 := ⟨m - 1, by omega⟩
    refine R_iload_n (pc := 50) dX12_move_50 rfl ?_
    refine R_iload_n (pc := 51) dX12_move_51 rfl ?_
    refine R_icmp_le (pc := 52) (t := 69) dX12_move_52 (by decide) (fun hz9 => absurd hz9 (nI_ge (by omega) (by omega))) (fun _ => ?_)
    refine R_aload_n (pc := 55) dX12_move_55 rfl ?_
    refine R_iload_n (pc := 56) dX12_move_56 rfl ?_
    refine R_iconst (pc := 57) (x := nI 1) dX12_move_57 rfl ?_
    refine R_isub (pc := 58) dX12_move_58 ?_
    refine R_iload_n (pc := 59) dX12_move_59 rfl ?_
    refine R_callV (pc := 60) dX12_move_60 rfl putM_o rfl rfl ?_
    rw [show nI (q + 1) - nI 1 = nI q by rw [pk_sub (by omega)]; rfl]
    refine s12_from (by omega) (by omega) ?_
    refine R_iinc (pc := 63) dX12_move_63 rfl (show nI (q + 1) + Int32.ofInt (-1) = nI q from (show nI (q + 1) + (-1) = nI q by rw [← Int32.sub_eq_add_neg]; exact nI_pred q)) rfl ?_
    refine R_goto (pc := 66) (t := 50) dX12_move_66 (by decide) ?_
    rw [va_up_up]
    exact l12_mvB hn hc ht hF r q _ (by omega) (by omega) ((hO.held hn hF (by omega) (by omega)).ext (fun i _ => mvB_step i (by omega))) hX
def mvN (c t : Nat) : Nat := if c = t then 0 else if c < t then t - c + 1 else c - t + 1
theorem s12_move {a b : Int32} {n pm : Nat} (hn : n ≤ 40) (hw : A 1 19 = nI n) (hpm : pm ≤ 8) (hS : S 2 = nI pm) (hB : (∀ c t, ¬ (c < n ∧ t < n ∧ a = nI c ∧ b = nI t)) → Q (some (.int (-1000001))) (putM h M A S, z)) (hG : ∀ c t, c < n → t < n → a = nI c → b = nI t → ∀ A2 : Nat → Nat → Int32, DkO (A 1) n (mvO2 c t) (A2 1) → A2 2 = remP (A 1) (A 2) pm → A2 3 = A 3 → A2 4 = A 4 → Q (some (.int (nI (mvN c t)))) (putM h M A2 (va_up S 2 (nI (remN pm))), z)) : Rn sA mX12_move 0 [some (.ref M), some (.int a), some (.int b), none] [] (putM h M A S, z) Q := by
  refine R_aload_n (pc := 0) dX12_move_0 rfl ?_
  refine R_iload_n (pc := 1) dX12_move_1 rfl ?_
  refine R_callV (pc := 2) dX12_move_2 rfl putM_o rfl rfl ?_
  refine s12_isCard hn hw (fun c hcc ec => ?_) (fun ec => ?_)
  · subst ec
    refine R_if_eq (pc := 5) (t := 16) dX12_move_5 (by decide) (fun hz9 => absurd hz9 (by decide)) (fun _ => ?_)
    refine R_aload_n (pc := 8) dX12_move_8 rfl ?_
    refine R_iload_n (pc := 9) dX12_move_9 rfl ?_
    refine R_callV (pc := 10) dX12_move_10 rfl putM_o rfl rfl ?_
    refine s12_isCard hn hw (fun t hct et => ?_) (fun et => ?_)
    · subst et
      refine R_if_ne (pc := 13) (t := 19) dX12_move_13 (by decide) (fun _ => ?_) (fun hz9 => absurd hz9 (by decide))
      refine R_aload_n (pc := 19) dX12_move_19 rfl ?_
      refine R_callV (pc := 20) dX12_move_20 rfl putM_o rfl rfl ?_
      refine s12_remember hpm hS ?_
      refine R_aload_n (pc := 23) dX12_move_23 rfl ?_
      refine R_callV (pc := 24) dX12_move_24 rfl putM_o rfl rfl ?_
      refine s12_hold ?_
      refine R_iload_n (pc := 27) dX12_move_27 rfl ?_
      refine R_istore_n (pc := 28) dX12_move_28 (Nat.le_of_ble_eq_true rfl) rfl ?_
      generalize hB2 : va_up (va_up A 2 (remP (A 1) (A 2) pm)) 8 (va_cpy (va_up A 2 (remP (A 1) (A 2) pm) 1) (va_up A 2 (remP (A 1) (A 2) pm) 8) 20 0 1040) = B
      have hB1 : B 1 = A 1 := by rw [← hB2]; rfl
      have hF : ∀ j, j < 1040 → B 8 j = A 1 (20 + j) := fun j hj => by rw [← hB2]; show va_cpy _ _ _ _ _ _ = _; rw [cpy_in (by omega) (by omega)]; rfl
      refine Rn_A (A' := va_up B 1 (A 1)) (by rw [← hB1, va_up_id]) ?_
      refine l12_mvA (A := B) (U := A 1) hn hcc hct hF (t - c) c (A 1) (by omega) (Nat.le_refl _) (DkO.rf.ext (fun i _ => by unfold mvA; rw [if_neg (by omega)])) (fun V k3 hO => ?_)
      refine R_iload_n (pc := 48) dX12_move_48 rfl ?_
      refine R_istore_n (pc := 49) dX12_move_49 (Nat.le_of_ble_eq_true rfl) rfl ?_
      refine l12_mvB (A := B) (U := A 1) hn hcc hct hF (c - t) c V (by omega) (Nat.le_refl _) (hO.ext (fun i _ => (mvB_0 i).symm)) (fun V2 k4 hO2 => ?_)
      refine R_aload_n (pc := 69) dX12_move_69 rfl ?_
      refine R_iload_n (pc := 70) dX12_move_70 rfl ?_
      refine R_iload_n (pc := 71) dX12_move_71 rfl ?_
      refine R_callV (pc := 72) dX12_move_72 rfl putM_o rfl rfl ?_
      refine s12_from (by omega) (by omega) ?_
      have hO3 := (hO2.held (a := c) (b := t) hn hF hcc hct).ext (fun i _ => mvB_end i)
      refine R_iload_n (pc := 75) dX12_move_75 rfl ?_
      refine R_iload_n (pc := 76) dX12_move_76 rfl ?_
      refine R_icmp_ne (pc := 77) (t := 84) dX12_move_77 (by decide) (fun h77 => ?_) (fun h77 => ?_)
      · have h77 : ¬ c = t := fun q => h77 (by rw [q])
        refine R_iload_n (pc := 84) dX12_move_84 rfl ?_
        refine R_iload_n (pc := 85) dX12_move_85 rfl ?_
        refine R_icmp_ge (pc := 86) (t := 97) dX12_move_86 (by decide) (fun h86 => ?_) (fun h86 => ?_)
        · have h86 : ¬ c < t := fun q => absurd ((nI_leI (by omega) (by omega)).mp h86) (by omega)
          refine R_iload_n (pc := 97) dX12_move_97 rfl ?_
          refine R_iload_n (pc := 98) dX12_move_98 rfl ?_
          refine R_isub (pc := 99) dX12_move_99 ?_
          refine R_iconst (pc := 100) (x := nI 1) dX12_move_100 rfl ?_
          refine R_iadd (pc := 101) dX12_move_101 ?_
          refine R_iret (pc := 102) dX12_move_102 rfl ?_
          first
            | exact hB (fun c0 t0 hz => ec c0 hz.1 hz.2.2.1)
            | exact hB (fun c0 t0 hz => et t0 hz.2.1 hz.2.2.2)
            | (have hG2 := hG c t hcc hct rfl rfl (va_up (va_up B 1 V2) 1 (va_cpy (B 8) V2 (26 * c) (20 + 26 * t) 26)) hO3 (by rw [← hB2]; rfl) (by rw [← hB2]; rfl) (by rw [← hB2]; rfl)
               unfold mvN at hG2
               first
                 | (rw [if_pos h77] at hG2; exact hG2)
                 | (rw [if_neg h77, if_pos h86] at hG2; rw [pk_sub (by omega), nI_add]; exact hG2)
                 | (rw [if_neg h77, if_neg h86] at hG2; rw [pk_sub (by omega), nI_add]; exact hG2))
        · have h86 : c < t := Nat.lt_of_not_le (fun q => h86 ((nI_leI (by omega) (by omega)).mpr q))
          refine R_iload_n (pc := 89) dX12_move_89 rfl ?_
          refine R_iload_n (pc := 90) dX12_move_90 rfl ?_
          refine R_isub (pc := 91) dX12_move_91 ?_
          refine R_iconst (pc := 92) (x := nI 1) dX12_move_92 rfl ?_
          refine R_iadd (pc := 93) dX12_move_93 ?_
          refine R_goto (pc := 94) (t := 102) dX12_move_94 (by decide) ?_
          refine R_iret (pc := 102) dX12_move_102 rfl ?_
          first
            | exact hB (fun c0 t0 hz => ec c0 hz.1 hz.2.2.1)
            | exact hB (fun c0 t0 hz => et t0 hz.2.1 hz.2.2.2)
            | (have hG2 := hG c t hcc hct rfl rfl (va_up (va_up B 1 V2) 1 (va_cpy (B 8) V2 (26 * c) (20 + 26 * t) 26)) hO3 (by rw [← hB2]; rfl) (by rw [← hB2]; rfl) (by rw [← hB2]; rfl)
               unfold mvN at hG2
               first
                 | (rw [if_pos h77] at hG2; exact hG2)
                 | (rw [if_neg h77, if_pos h86] at hG2; rw [pk_sub (by omega), nI_add]; exact hG2)
                 | (rw [if_neg h77, if_neg h86] at hG2; rw [pk_sub (by omega), nI_add]; exact hG2))
      · have h77 : c = t := (nI_eq (by omega) (by omega)).mp h77
        refine R_iconst (pc := 80) (x := nI 0) dX12_move_80 rfl ?_
        refine R_goto (pc := 81) (t := 102) dX12_move_81 (by decide) ?_
        refine R_iret (pc := 102) dX12_move_102 rfl ?_
        first
          | exact hB (fun c0 t0 hz => ec c0 hz.1 hz.2.2.1)
          | exact hB (fun c0 t0 hz => et t0 hz.2.1 hz.2.2.2)
          | (have hG2 := hG c t hcc hct rfl rfl (va_up (va_up B 1 V2) 1 (va_cpy (B 8) V2 (26 * c) (20 + 26 * t) 26)) hO3 (by rw [← hB2]; rfl) (by rw [← hB2]; rfl) (by rw [← hB2]; rfl)
             unfold mvN at hG2
             first
               | (rw [if_pos h77] at hG2; exact hG2)
               | (rw [if_neg h77, if_pos h86] at hG2; rw [pk_sub (by omega), nI_add]; exact hG2)
               | (rw [if_neg h77, if_neg h86] at hG2; rw [pk_sub (by omega), nI_add]; exact hG2))
    · refine R_if_ne (pc := 13) (t := 19) dX12_move_13 (by decide) (fun hz9 => absurd hz9 (by decide)) (fun _ => ?_)
      refine R_ldc (pc := 16) (x := (-1000001)) dX12_move_16 rfl ?_
      refine R_iret (pc := 18) dX12_move_18 rfl ?_
      first
        | exact hB (fun c0 t0 hz => ec c0 hz.1 hz.2.2.1)
        | exact hB (fun c0 t0 hz => et t0 hz.2.1 hz.2.2.2)
        | (have hG2 := hG c t hcc hct rfl rfl (va_up (va_up B 1 V2) 1 (va_cpy (B 8) V2 (26 * c) (20 + 26 * t) 26)) hO3 (by rw [← hB2]; rfl) (by rw [← hB2]; rfl) (by rw [← hB2]; rfl)
           unfold mvN at hG2
           first
             | (rw [if_pos h77] at hG2; exact hG2)
             | (rw [if_neg h77, if_pos h86] at hG2; rw [pk_sub (by omega), nI_add]; exact hG2)
             | (rw [if_neg h77, if_neg h86] at hG2; rw [pk_sub (by omega), nI_add]; exact hG2))
  · refine R_if_eq (pc := 5) (t := 16) dX12_move_5 (by decide) (fun _ => ?_) (fun hz9 => absurd hz9 (by decide))
    refine R_ldc (pc := 16) (x := (-1000001)) dX12_move_16 rfl ?_
    refine R_iret (pc := 18) dX12_move_18 rfl ?_
    first
      | exact hB (fun c0 t0 hz => ec c0 hz.1 hz.2.2.1)
      | exact hB (fun c0 t0 hz => et t0 hz.2.1 hz.2.2.2)
      | (have hG2 := hG c t hcc hct rfl rfl (va_up (va_up B 1 V2) 1 (va_cpy (B 8) V2 (26 * c) (20 + 26 * t) 26)) hO3 (by rw [← hB2]; rfl) (by rw [← hB2]; rfl) (by rw [← hB2]; rfl)
         unfold mvN at hG2
         first
           | (rw [if_pos h77] at hG2; exact hG2)
           | (rw [if_neg h77, if_pos h86] at hG2; rw [pk_sub (by omega), nI_add]; exact hG2)
           | (rw [if_neg h77, if_neg h86] at hG2; rw [pk_sub (by omega), nI_add]; exact hG2))
theorem l12_undo {q : Nat} (hq : q < 8) (hS : S 2 = nI q) : ∀ (n k : Nat) (_ : k + n = 2754) (_ : Rn sA mX12_undo 56 [some (.ref M), some (.int (nI 2754))] [] (putM h M (va_up A 1 (va_cpy (A 2) (A 1) (2754 * q) (0) 2754)) S, z) Q), Rn sA mX12_undo 22 [some (.ref M), some (.int (nI k))] [] (putM h M (va_up A 1 (va_cpy (A 2) (A 1) (2754 * q) (0) k)) S, z) Q
  | 0, k, hk, hX => by
    obtain rfl : k = 2754 := by omega
    refine R_iload_n (pc := 22) dX12_undo_22 rfl ?_
    refine R_sipush (pc := 23) (x := nI 2754) dX12_undo_23 (by decide) ?_
    refine R_icmp_ge (pc := 26) (t := 56) dX12_undo_26 (by decide) (fun _ => ?_) (fun hz9 => absurd (nI_le (by omega) (by omega)) hz9)
    exact hX
  | n + 1, k, hk, hX => by
    refine R_iload_n (pc := 22) dX12_undo_22 rfl ?_
    refine R_sipush (pc := 23) (x := nI 2754) dX12_undo_23 (by decide) ?_
    refine R_icmp_ge (pc := 26) (t := 56) dX12_undo_26 (by decide) (fun hz9 => absurd hz9 (nI_ge (by omega) (by omega))) (fun _ => ?_)
    refine R_aload_n (pc := 29) dX12_undo_29 rfl ?_
    refine M_g (pc := 30) dX12_undo_30 rfl rfl ?_
    refine R_iload_n (pc := 33) dX12_undo_33 rfl ?_
    refine R_aload_n (pc := 34) dX12_undo_34 rfl ?_
    refine M_g (pc := 35) dX12_undo_35 rfl rfl ?_
    refine R_sipush (pc := 38) (x := nI 2754) dX12_undo_38 (by decide) ?_
    refine R_aload_n (pc := 41) dX12_undo_41 rfl ?_
    refine M_g (pc := 42) dX12_undo_42 rfl rfl ?_
    refine R_imul (pc := 45) dX12_undo_45 ?_
    refine R_iload_n (pc := 46) dX12_undo_46 rfl ?_
    refine R_iadd (pc := 47) dX12_undo_47 ?_
    refine M_ald (pc := 48) dX12_undo_48 (by rw [hS, pk_mul, nI_add]) (by simp only [mol2]; omega) ?_
    refine M_ast (pc := 49) dX12_undo_49 (by first | with_reducible rfl | (simp only [nI_add, pk_mul]; exact rfl)) (by simp only [mol1, mol2, mol3, mol4, mol5, mol6, mol7, mol8, mol9, mol10, mol11, mol12, mol13]; omega) ?_
    refine R_iinc (pc := 50) dX12_undo_50 rfl (by first | exact nI_inc _ | rfl) rfl ?_
    refine R_goto (pc := 53) (t := 22) dX12_undo_53 (by decide) ?_
    refine Rn_A (A' := va_up A 1 (va_cpy (A 2) (A 1) (2754 * q) (0) (k + 1))) (by rw [va_up_up]; exact congrArg (va_up A 1) (cpy_step (by omega) (by first | rfl | (rw [Nat.zero_add]; rfl)))) ?_
    exact l12_undo hq hS n (k + 1) (by omega) hX
theorem s12_undo {pm : Nat} (hpm : pm ≤ 8) (hS : S 2 = nI pm) (hB : pm = 0 → Q (some (.int (-1000002))) (putM h M A S, z)) (hG : ∀ q, pm = q + 1 → Q (some (.int (nI q))) (putM h M (va_up A 1 (va_cpy (A 2) (A 1) (2754 * q) 0 2754)) (va_up S 2 (nI q)), z)) : Rn sA mX12_undo 0 [some (.ref M), none] [] (putM h M A S, z) Q := by
  refine R_aload_n (pc := 0) dX12_undo_0 rfl ?_
  refine M_g (pc := 1) dX12_undo_1 rfl rfl ?_
  refine R_if_ne (pc := 4) (t := 10) dX12_undo_4 (by decide) (fun h4 => ?_) (fun h4 => ?_)
  · have h4 : ¬ pm = 0 := fun q => h4 (by rw [hS, q]; exact nI_0)
    obtain ⟨q, rfl⟩ : ∃ q, pm = q + 1 := ⟨pm - 1, by omega⟩
    refine R_aload_n (pc := 10) dX12_undo_10 rfl ?_
    refine R_dup (pc := 11) dX12_undo_11 rfl ?_
    refine M_g (pc := 12) dX12_undo_12 rfl rfl ?_
    refine R_iconst (pc := 15) (x := nI 1) dX12_undo_15 rfl ?_
    refine R_isub (pc := 16) dX12_undo_16 ?_
    refine M_p (pc := 17) dX12_undo_17 rfl rfl ?_
    refine R_iconst (pc := 20) (x := nI 0) dX12_undo_20 rfl ?_
    refine R_istore_n (pc := 21) dX12_undo_21 (Nat.le_of_ble_eq_true rfl) rfl ?_
    refine Rn_S (S' := va_up S 2 (nI q)) (by rw [hS, pk_sub (by omega)]; rfl) ?_
    refine Rn_A (A' := va_up A 1 (va_cpy (A 2) (A 1) (2754 * q) 0 0)) (by rw [cpy_0, va_up_id]) ?_
    refine l12_undo (S := va_up S 2 (nI q)) (q := q) (by omega) rfl 2754 0 (by omega) ?_
    refine R_aload_n (pc := 56) dX12_undo_56 rfl ?_
    refine M_g (pc := 57) dX12_undo_57 rfl rfl ?_
    refine R_iret (pc := 60) dX12_undo_60 rfl ?_
    exact hG q rfl
  · have h4 : pm = 0 := (nI_eq (by omega) (by omega)).mp ((hS.symm.trans h4).trans nI_0.symm)
    refine R_ldc (pc := 7) (x := (-1000002)) dX12_undo_7 rfl ?_
    refine R_iret (pc := 9) dX12_undo_9 rfl ?_
    exact hB h4
theorem fl_bit {fl i : Nat} (hf : fl < 4) (hi : i < 2) : (nI fl >>> (nI i &&& 31)) &&& nI 1 = nI (fl / 2 ^ i % 2) := by
  have : ∀ a : Fin 4, ∀ b : Fin 2, (nI a.val >>> (nI b.val &&& 31)) &&& nI 1 = nI (a.val / 2 ^ b.val % 2) := by decide
  exact this ⟨fl, hf⟩ ⟨i, hi⟩
theorem fl_set {fl i : Nat} (hf : fl < 4) (hi : i < 2) : nI fl ||| (nI 1 <<< (nI i &&& 31)) = nI (fl ||| 2 ^ i) := by
  have : ∀ a : Fin 4, ∀ b : Fin 2, nI a.val ||| (nI 1 <<< (nI b.val &&& 31)) = nI (a.val ||| 2 ^ b.val) := by decide
  exact this ⟨fl, hf⟩ ⟨i, hi⟩
theorem l12_keep {i : Nat} (hi : i < 2) : ∀ (n k : Nat) (_ : k + n = 2754) (_ : Rn sA mX12_keep 43 [some (.ref M), some (.int (nI i)), some (.int (nI 2754))] [] (putM h M (va_up A 3 (va_cpy (A 1) (A 3) (0) (2754 * i) 2754)) S, z) Q), Rn sA mX12_keep 12 [some (.ref M), some (.int (nI i)), some (.int (nI k))] [] (putM h M (va_up A 3 (va_cpy (A 1) (A 3) (0) (2754 * i) k)) S, z) Q
  | 0, k, hk, hX => by
    obtain rfl : k = 2754 := by omega
    refine R_iload_n (pc := 12) dX12_keep_12 rfl ?_
    refine R_sipush (pc := 13) (x := nI 2754) dX12_keep_13 (by decide) ?_
    refine R_icmp_ge (pc := 16) (t := 43) dX12_keep_16 (by decide) (fun _ => ?_) (fun hz9 => absurd (nI_le (by omega) (by omega)) hz9)
    exact hX
  | n + 1, k, hk, hX => by
    refine R_iload_n (pc := 12) dX12_keep_12 rfl ?_
    refine R_sipush (pc := 13) (x := nI 2754) dX12_keep_13 (by decide) ?_
    refine R_icmp_ge (pc := 16) (t := 43) dX12_keep_16 (by decide) (fun hz9 => absurd hz9 (nI_ge (by omega) (by omega))) (fun _ => ?_)
    refine R_aload_n (pc := 19) dX12_keep_19 rfl ?_
    refine M_g (pc := 20) dX12_keep_20 rfl rfl ?_
    refine R_sipush (pc := 23) (x := nI 2754) dX12_keep_23 (by decide) ?_
    refine R_iload_n (pc := 26) dX12_keep_26 rfl ?_
    refine R_imul (pc := 27) dX12_keep_27 ?_
    refine R_iload_n (pc := 28) dX12_keep_28 rfl ?_
    refine R_iadd (pc := 29) dX12_keep_29 ?_
    refine R_aload_n (pc := 30) dX12_keep_30 rfl ?_
    refine M_g (pc := 31) dX12_keep_31 rfl rfl ?_
    refine R_iload_n (pc := 34) dX12_keep_34 rfl ?_
    refine M_ald (pc := 35) dX12_keep_35 (by first | with_reducible rfl | (simp only [nI_add, pk_mul]; exact rfl)) (by simp only [mol1, mol2, mol3, mol4, mol5, mol6, mol7, mol8, mol9, mol10, mol11, mol12, mol13]; omega) ?_
    refine M_ast (pc := 36) dX12_keep_36 (by first | with_reducible rfl | (simp only [nI_add, pk_mul]; exact rfl)) (by simp only [mol1, mol2, mol3, mol4, mol5, mol6, mol7, mol8, mol9, mol10, mol11, mol12, mol13]; omega) ?_
    refine R_iinc (pc := 37) dX12_keep_37 rfl (by first | exact nI_inc _ | rfl) rfl ?_
    refine R_goto (pc := 40) (t := 12) dX12_keep_40 (by decide) ?_
    refine Rn_A (A' := va_up A 3 (va_cpy (A 1) (A 3) (0) (2754 * i) (k + 1))) (by rw [va_up_up]; exact congrArg (va_up A 3) (cpy_step (by omega) (by first | rfl | (rw [Nat.zero_add]; rfl)))) ?_
    exact l12_keep hi n (k + 1) (by omega) hX
theorem s12_keep {a : Int32} {fl : Nat} (hfl : fl < 4) (hS4 : S 4 = nI fl) (hB : (∀ i, i < 2 → ¬ a = nI i) → Q (some (.int (-1000001))) (putM h M A S, z)) (hG : ∀ i, i < 2 → a = nI i → Q (some (.int (A 1 19))) (putM h M (va_up A 3 (va_cpy (A 1) (A 3) 0 (2754 * i) 2754)) (va_up S 4 (nI (fl ||| 2 ^ i))), z)) : Rn sA mX12_keep 0 [some (.ref M), some (.int a), none] [] (putM h M A S, z) Q := by
  refine R_iload_n (pc := 0) dX12_keep_0 rfl ?_
  refine R_callS (pc := 1) dX12_keep_1 rfl (Or.inl rfl) rfl rfl ?_
  refine s12_isImage (fun i hi e => ?_) (fun e => ?_)
  · subst e
    refine R_if_ne (pc := 4) (t := 10) dX12_keep_4 (by decide) (fun _ => ?_) (fun hz9 => absurd hz9 (by decide))
    refine R_iconst (pc := 10) (x := nI 0) dX12_keep_10 rfl ?_
    refine R_istore_n (pc := 11) dX12_keep_11 (Nat.le_of_ble_eq_true rfl) rfl ?_
    refine Rn_A (A' := va_up A 3 (va_cpy (A 1) (A 3) 0 (2754 * i) 0)) (by rw [cpy_0, va_up_id]) ?_
    refine l12_keep hi 2754 0 (by omega) ?_
    refine R_aload_n (pc := 43) dX12_keep_43 rfl ?_
    refine R_dup (pc := 44) dX12_keep_44 rfl ?_
    refine M_g (pc := 45) dX12_keep_45 rfl rfl ?_
    refine R_iconst (pc := 48) (x := nI 1) dX12_keep_48 rfl ?_
    refine R_iload_n (pc := 49) dX12_keep_49 rfl ?_
    refine R_ishl (pc := 50) dX12_keep_50 ?_
    refine R_ior (pc := 51) dX12_keep_51 ?_
    refine M_p (pc := 52) dX12_keep_52 rfl rfl ?_
    refine R_aload_n (pc := 55) dX12_keep_55 rfl ?_
    refine M_g (pc := 56) dX12_keep_56 rfl rfl ?_
    refine R_bipush (pc := 59) (x := nI 19) dX12_keep_59 (by decide) ?_
    refine M_ald (pc := 61) dX12_keep_61 (by first | with_reducible rfl | (simp only [nI_add, pk_mul]; exact rfl)) (by simp only [mol1, mol2, mol3, mol4, mol5, mol6, mol7, mol8, mol9, mol10, mol11, mol12, mol13]; omega) ?_
    refine R_iret (pc := 62) dX12_keep_62 rfl ?_
    rw [hS4, fl_set hfl hi]
    exact hG i hi rfl
  · refine R_if_ne (pc := 4) (t := 10) dX12_keep_4 (by decide) (fun hz9 => absurd hz9 (by decide)) (fun _ => ?_)
    refine R_ldc (pc := 7) (x := (-1000001)) dX12_keep_7 rfl ?_
    refine R_iret (pc := 9) dX12_keep_9 rfl ?_
    exact hB e
theorem l12_back {i : Nat} (hi : i < 2) : ∀ (n k : Nat) (_ : k + n = 2754) (_ : Rn sA mX12_back 61 [some (.ref M), some (.int (nI i)), some (.int (nI 2754))] [] (putM h M (va_up A 1 (va_cpy (A 3) (A 1) (2754 * i) (0) 2754)) S, z) Q), Rn sA mX12_back 30 [some (.ref M), some (.int (nI i)), some (.int (nI k))] [] (putM h M (va_up A 1 (va_cpy (A 3) (A 1) (2754 * i) (0) k)) S, z) Q
  | 0, k, hk, hX => by
    obtain rfl : k = 2754 := by omega
    refine R_iload_n (pc := 30) dX12_back_30 rfl ?_
    refine R_sipush (pc := 31) (x := nI 2754) dX12_back_31 (by decide) ?_
    refine R_icmp_ge (pc := 34) (t := 61) dX12_back_34 (by decide) (fun _ => ?_) (fun hz9 => absurd (nI_le (by omega) (by omega)) hz9)
    exact hX
  | n + 1, k, hk, hX => by
    refine R_iload_n (pc := 30) dX12_back_30 rfl ?_
    refine R_sipush (pc := 31) (x := nI 2754) dX12_back_31 (by decide) ?_
    refine R_icmp_ge (pc := 34) (t := 61) dX12_back_34 (by decide) (fun hz9 => absurd hz9 (nI_ge (by omega) (by omega))) (fun _ => ?_)
    refine R_aload_n (pc := 37) dX12_back_37 rfl ?_
    refine M_g (pc := 38) dX12_back_38 rfl rfl ?_
    refine R_iload_n (pc := 41) dX12_back_41 rfl ?_
    refine R_aload_n (pc := 42) dX12_back_42 rfl ?_
    refine M_g (pc := 43) dX12_back_43 rfl rfl ?_
    refine R_sipush (pc := 46) (x := nI 2754) dX12_back_46 (by decide) ?_
    refine R_iload_n (pc := 49) dX12_back_49 rfl ?_
    refine R_imul (pc := 50) dX12_back_50 ?_
    refine R_iload_n (pc := 51) dX12_back_51 rfl ?_
    refine R_iadd (pc := 52) dX12_back_52 ?_
    refine M_ald (pc := 53) dX12_back_53 (by first | with_reducible rfl | (simp only [nI_add, pk_mul]; exact rfl)) (by simp only [mol1, mol2, mol3, mol4, mol5, mol6, mol7, mol8, mol9, mol10, mol11, mol12, mol13]; omega) ?_
    refine M_ast (pc := 54) dX12_back_54 (by first | with_reducible rfl | (simp only [nI_add, pk_mul]; exact rfl)) (by simp only [mol1, mol2, mol3, mol4, mol5, mol6, mol7, mol8, mol9, mol10, mol11, mol12, mol13]; omega) ?_
    refine R_iinc (pc := 55) dX12_back_55 rfl (by first | exact nI_inc _ | rfl) rfl ?_
    refine R_goto (pc := 58) (t := 30) dX12_back_58 (by decide) ?_
    refine Rn_A (A' := va_up A 1 (va_cpy (A 3) (A 1) (2754 * i) (0) (k + 1))) (by rw [va_up_up]; exact congrArg (va_up A 1) (cpy_step (by omega) (by first | rfl | (rw [Nat.zero_add]; rfl)))) ?_
    exact l12_back hi n (k + 1) (by omega) hX
theorem s12_back {a : Int32} {fl pm : Nat} (hfl : fl < 4) (hS4 : S 4 = nI fl) (hpm : pm ≤ 8) (hS : S 2 = nI pm) (hB : (∀ i, i < 2 → ¬ a = nI i) → Q (some (.int (-1000001))) (putM h M A S, z)) (hT : ∀ i, i < 2 → a = nI i → fl / 2 ^ i % 2 = 0 → Q (some (.int (-1000002))) (putM h M A S, z)) (hG : ∀ i, i < 2 → a = nI i → ¬ fl / 2 ^ i % 2 = 0 → Q (some (.int (A 3 (2754 * i + 19)))) (putM h M (va_up (va_up A 2 (remP (A 1) (A 2) pm)) 1 (va_cpy (A 3) (A 1) (2754 * i) 0 2754)) (va_up S 2 (nI (remN pm))), z)) : Rn sA mX12_back 0 [some (.ref M), some (.int a), none] [] (putM h M A S, z) Q := by
  refine R_iload_n (pc := 0) dX12_back_0 rfl ?_
  refine R_callS (pc := 1) dX12_back_1 rfl (Or.inl rfl) rfl rfl ?_
  refine s12_isImage (fun i hi e => ?_) (fun e => ?_)
  · subst e
    refine R_if_ne (pc := 4) (t := 10) dX12_back_4 (by decide) (fun _ => ?_) (fun hz9 => absurd hz9 (by decide))
    refine R_aload_n (pc := 10) dX12_back_10 rfl ?_
    refine M_g (pc := 11) dX12_back_11 rfl rfl ?_
    refine R_iload_n (pc := 14) dX12_back_14 rfl ?_
    refine R_ishr (pc := 15) dX12_back_15 ?_
    refine R_iconst (pc := 16) (x := nI 1) dX12_back_16 rfl ?_
    refine R_iand (pc := 17) dX12_back_17 ?_
    refine R_if_ne (pc := 18) (t := 24) dX12_back_18 (by decide) (fun h18 => ?_) (fun h18 => ?_)
    · rw [hS4, fl_bit hfl hi] at h18
      have h18 : ¬ fl / 2 ^ i % 2 = 0 := fun q => h18 (by rw [q]; exact nI_0)
      refine R_aload_n (pc := 24) dX12_back_24 rfl ?_
      refine R_callV (pc := 25) dX12_back_25 rfl putM_o rfl rfl ?_
      refine s12_remember hpm hS ?_
      refine R_iconst (pc := 28) (x := nI 0) dX12_back_28 rfl ?_
      refine R_istore_n (pc := 29) dX12_back_29 (Nat.le_of_ble_eq_true rfl) rfl ?_
      refine Rn_A (A' := va_up (va_up A 2 (remP (A 1) (A 2) pm)) 1 (va_cpy (A 3) (A 1) (2754 * i) 0 0)) (by rw [cpy_0]; exact (va_up_id (f := va_up A 2 (remP (A 1) (A 2) pm)) (k := 1)).symm) ?_
      refine l12_back (A := va_up A 2 (remP (A 1) (A 2) pm)) hi 2754 0 (by omega) ?_
      refine R_aload_n (pc := 61) dX12_back_61 rfl ?_
      refine M_g (pc := 62) dX12_back_62 rfl rfl ?_
      refine R_bipush (pc := 65) (x := nI 19) dX12_back_65 (by decide) ?_
      refine M_ald (pc := 67) dX12_back_67 (by first | with_reducible rfl | (simp only [nI_add, pk_mul]; exact rfl)) (by simp only [mol1, mol2, mol3, mol4, mol5, mol6, mol7, mol8, mol9, mol10, mol11, mol12, mol13]; omega) ?_
      refine R_iret (pc := 68) dX12_back_68 rfl ?_
      refine Eq.mpr (congrArg (fun x => Q (some (.int x)) _) ?_) (hG i hi rfl h18)
      show va_cpy (A 3) (A 1) (2754 * i) 0 2754 19 = _
      rw [cpy_in (by omega) (by omega)]
    · rw [hS4, fl_bit hfl hi] at h18
      have h18 : fl / 2 ^ i % 2 = 0 := (nI_eq (by omega) (by omega)).mp (h18.trans nI_0.symm)
      refine R_ldc (pc := 21) (x := (-1000002)) dX12_back_21 rfl ?_
      refine R_iret (pc := 23) dX12_back_23 rfl ?_
      exact hT i hi rfl h18
  · refine R_if_ne (pc := 4) (t := 10) dX12_back_4 (by decide) (fun hz9 => absurd hz9 (by decide)) (fun _ => ?_)
    refine R_ldc (pc := 7) (x := (-1000001)) dX12_back_7 rfl ?_
    refine R_iret (pc := 9) dX12_back_9 rfl ?_
    exact hB e
end MOD7
