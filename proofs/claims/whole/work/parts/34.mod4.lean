section MOD4
variable {sA : Nat} {h : Nat → Option am_C} {z : Nat × Nat} {Q : Option Value → am_H → Prop} {M : Nat} {A : Nat → Nat → Int32} {S : Nat → Int32}
theorem ix_inG (x : Int32) {a b : Nat} (ha : a ≤ b) (hb : b < 2 ^ 30) : (nI a ≤ x ∧ x ≤ nI b) ↔ ∃ j, a ≤ j ∧ j ≤ b ∧ x = nI j := by
  constructor
  · rintro ⟨h1, h2⟩
    have h0 : nI 0 ≤ x := Int32.le_trans ((nI_leI (by omega) (by omega)).mpr (Nat.zero_le a)) h1
    rcases pk_ix x (n := b + 1) (by omega) with q | q | ⟨j, q1, q2⟩
    · exact absurd h0 (Int32.not_le.mpr q)
    · have := (nI_leI (by omega) (by omega)).mp (Int32.le_trans q h2)
      omega
    · subst q2
      exact ⟨j, (nI_leI (by omega) (by omega)).mp h1, by omega, rfl⟩
  · rintro ⟨j, h1, h2, rfl⟩
    exact ⟨(nI_leI (by omega) (by omega)).mpr h1, (nI_leI (by omega) (by omega)).mpr h2⟩
theorem s12_inG {v lo hi : Int32} {a b : Nat} (hlo : lo = nI a) (hhi : hi = nI b) (ha : a ≤ b) (hb : b < 2 ^ 30) (h1 : ∀ j, a ≤ j → j ≤ b → v = nI j → Q (some (.int (nI 1))) (h, z)) (h0 : (∀ j, a ≤ j → j ≤ b → ¬ v = nI j) → Q (some (.int (nI 0))) (h, z)) : Rn sA mX12_isIn 0 [some (.int v), some (.int lo), some (.int hi)] [] (h, z) Q := by
  subst hlo
  subst hhi
  refine s12_isIn (fun p q => ?_) (fun p => ?_)
  · obtain ⟨j, q1, q2, q3⟩ := (ix_inG v ha hb).mp ⟨p, q⟩
    exact h1 j q1 q2 q3
  · exact h0 (fun j q1 q2 q3 => p ((ix_inG v ha hb).mpr ⟨j, q1, q2, q3⟩))
theorem s12_put {j pm : Nat} {v : Int32} (hpm : pm ≤ 8) (hS : S 2 = nI pm) (hj : j < 2754) (hQ : Q (some (.int (A 1 j))) (putM h M (va_up (va_up A 2 (remP (A 1) (A 2) pm)) 1 (upd (A 1) j v)) (va_up S 2 (nI (remN pm))), z)) : Rn sA mX12_put 0 [some (.ref M), some (.int (nI j)), some (.int v), none] [] (putM h M A S, z) Q := by
  refine R_aload_n (pc := 0) dX12_put_0 rfl ?_
  refine R_callV (pc := 1) dX12_put_1 rfl putM_o rfl rfl ?_
  refine s12_remember hpm hS ?_
  refine R_aload_n (pc := 4) dX12_put_4 rfl ?_
  refine M_g (pc := 5) dX12_put_5 rfl rfl ?_
  refine R_iload_n (pc := 8) dX12_put_8 rfl ?_
  refine M_ald (pc := 9) dX12_put_9 rfl (by simp only [mol1]; omega) ?_
  refine R_istore_n (pc := 10) dX12_put_10 (Nat.le_of_ble_eq_true rfl) rfl ?_
  refine R_aload_n (pc := 11) dX12_put_11 rfl ?_
  refine M_g (pc := 12) dX12_put_12 rfl rfl ?_
  refine R_iload_n (pc := 15) dX12_put_15 rfl ?_
  refine R_iload_n (pc := 16) dX12_put_16 rfl ?_
  refine M_ast (pc := 17) dX12_put_17 rfl (by simp only [mol1]; omega) ?_
  refine R_iload_n (pc := 18) dX12_put_18 rfl ?_
  refine R_iret (pc := 19) dX12_put_19 rfl ?_
  exact hQ
def layOK (a b c : Int32) (f p q : Nat) : Prop := f < 6 ∧ 1 ≤ q ∧ q ≤ (if f = 5 then 1 else 4) ∧ p + q ≤ 24 ∧ a = nI f ∧ b = nI p ∧ c = nI q
theorem lay_f {a b c : Int32} {f f0 p q : Nat} (hz : layOK a b c f0 p q) (hf : f < 6) (e : a = nI f) : f0 = f := (nI_eq (by have := hz.1; omega) (by omega)).mp (hz.2.2.2.2.1.symm.trans e)
theorem lay_q {a b c : Int32} {f f0 p q : Nat} (hz : layOK a b c f0 p q) (hf : f < 6) (e : a = nI f) {x : Nat} (hx : (if f = 5 then 1 else 4) = x) (e2 : ∀ j, 1 ≤ j → j ≤ x → ¬ c = nI j) : False := by
  have h0 := lay_f hz hf e
  subst h0
  exact e2 q hz.2.1 (by rw [← hx]; exact hz.2.2.1) hz.2.2.2.2.2.2
theorem lay_p {a b c : Int32} {f0 p q q1 : Nat} (hz : layOK a b c f0 p q) (hq1 : q1 ≤ 4) (e : c = nI q1) (e3 : ∀ j, 0 ≤ j → j ≤ 24 - q1 → ¬ b = nI j) : False := by
  obtain ⟨h1, h2, h3, h4, h5, h6, h7⟩ := hz
  have h8 : q ≤ 4 := by split at h3 <;> omega
  have h0 : q = q1 := (nI_eq (by omega) (by omega)).mp (h7.symm.trans e)
  subst h0
  exact e3 p (Nat.zero_le _) (by omega) h6
theorem s12_lay {a b c : Int32} {pm : Nat} (hpm : pm ≤ 8) (hS : S 2 = nI pm) (hB : (∀ f p q, ¬ layOK a b c f p q) → Q (some (.int (-1000001))) (putM h M A S, z)) (hG : ∀ f p q, layOK a b c f p q → Q (some (.int (A 1 (0 + 2 * f)))) (putM h M (va_up (va_up A 2 (remP (A 1) (A 2) pm)) 1 (upd (upd (A 1) (0 + 2 * f) b) (0 + 2 * f + 1) c)) (va_up S 2 (nI (remN pm))), z)) : Rn sA mX12_lay 0 [some (.ref M), some (.int a), some (.int b), some (.int c), none] [] (putM h M A S, z) Q := by
  refine R_iload_n (pc := 0) dX12_lay_0 rfl ?_
  refine R_callS (pc := 1) dX12_lay_1 rfl (Or.inl rfl) rfl rfl ?_
  refine s12_isField (fun f hf e => ?_) (fun e => ?_)
  · subst e
    refine R_if_eq (pc := 4) (t := 37) dX12_lay_4 (by decide) (fun hz9 => absurd hz9 (by decide)) (fun _ => ?_)
    refine R_iload_n (pc := 7) dX12_lay_7 rfl ?_
    refine R_iconst (pc := 8) (x := nI 1) dX12_lay_8 rfl ?_
    refine R_iload_n (pc := 9) dX12_lay_9 rfl ?_
    refine R_iconst (pc := 10) (x := nI 5) dX12_lay_10 rfl ?_
    refine R_icmp_ne (pc := 11) (t := 18) dX12_lay_11 (by decide) (fun h11 => ?_) (fun h11 => ?_)
    · have h11 : ¬ f = 5 := fun q => h11 (by rw [q])
      refine R_iconst (pc := 18) (x := nI 4) dX12_lay_18 rfl ?_
      refine R_callS (pc := 19) dX12_lay_19 rfl (Or.inl rfl) rfl rfl ?_
      refine s12_inG (a := 1) (b := 4) (by first | rfl | decide) (by first | rfl | decide) (by omega) (by omega) (fun q qa qb e2 => ?_) (fun e2 => ?_)
      · subst e2
        refine R_if_eq (pc := 22) (t := 37) dX12_lay_22 (by decide) (fun hz9 => absurd hz9 (by decide)) (fun _ => ?_)
        refine R_iload_n (pc := 25) dX12_lay_25 rfl ?_
        refine R_iconst (pc := 26) (x := nI 0) dX12_lay_26 rfl ?_
        refine R_bipush (pc := 27) (x := nI 24) dX12_lay_27 (by decide) ?_
        refine R_iload_n (pc := 29) dX12_lay_29 rfl ?_
        refine R_isub (pc := 30) dX12_lay_30 ?_
        refine R_callS (pc := 31) dX12_lay_31 rfl (Or.inl rfl) rfl rfl ?_
        refine s12_inG (a := 0) (b := 24 - q) (by first | rfl | decide) (by rw [pk_sub (by omega)]) (by omega) (by omega) (fun r ra rb e3 => ?_) (fun e3 => ?_)
        · subst e3
          refine R_if_ne (pc := 34) (t := 40) dX12_lay_34 (by decide) (fun _ => ?_) (fun hz9 => absurd hz9 (by decide))
          refine R_aload_n (pc := 40) dX12_lay_40 rfl ?_
          refine R_callV (pc := 41) dX12_lay_41 rfl putM_o rfl rfl ?_
          refine s12_remember hpm hS ?_
          refine R_aload_n (pc := 44) dX12_lay_44 rfl ?_
          refine R_iload_n (pc := 45) dX12_lay_45 rfl ?_
          refine R_callV (pc := 46) dX12_lay_46 rfl putM_o rfl rfl ?_
          refine s12_first (A := (va_up A 2 (remP (A 1) (A 2) pm))) hf ?_
          refine R_istore (pc := 49) dX12_lay_49 (Nat.le_of_ble_eq_true rfl) rfl ?_
          refine R_aload_n (pc := 51) dX12_lay_51 rfl ?_
          refine R_iload_n (pc := 52) dX12_lay_52 rfl ?_
          refine R_iload_n (pc := 53) dX12_lay_53 rfl ?_
          refine R_iload_n (pc := 54) dX12_lay_54 rfl ?_
          refine R_callV (pc := 55) dX12_lay_55 rfl putM_o rfl rfl ?_
          refine s12_layField (A := (va_up A 2 (remP (A 1) (A 2) pm))) hf ?_
          refine R_iload (pc := 58) dX12_lay_58 rfl ?_
          refine R_iret (pc := 60) dX12_lay_60 rfl ?_
          exact hG f r q ⟨hf, qa, by first | (rw [if_neg h11]; exact qb) | (rw [if_pos h11]; exact qb), by omega, rfl, rfl, rfl⟩
        · refine R_if_ne (pc := 34) (t := 40) dX12_lay_34 (by decide) (fun hz9 => absurd hz9 (by decide)) (fun _ => ?_)
          refine R_ldc (pc := 37) (x := (-1000001)) dX12_lay_37 rfl ?_
          refine R_iret (pc := 39) dX12_lay_39 rfl ?_
          first
            | exact hB (fun f0 p0 q0 hz => e f0 hz.1 hz.2.2.2.2.1)
            | exact hB (fun f0 p0 q0 hz => lay_q hz hf rfl (if_neg h11) e2)
            | exact hB (fun f0 p0 q0 hz => lay_q hz hf rfl (if_pos h11) e2)
            | exact hB (fun f0 p0 q0 hz => lay_p (q1 := q) hz (by omega) rfl e3)
      · refine R_if_eq (pc := 22) (t := 37) dX12_lay_22 (by decide) (fun _ => ?_) (fun hz9 => absurd hz9 (by decide))
        refine R_ldc (pc := 37) (x := (-1000001)) dX12_lay_37 rfl ?_
        refine R_iret (pc := 39) dX12_lay_39 rfl ?_
        first
          | exact hB (fun f0 p0 q0 hz => e f0 hz.1 hz.2.2.2.2.1)
          | exact hB (fun f0 p0 q0 hz => lay_q hz hf rfl (if_neg h11) e2)
          | exact hB (fun f0 p0 q0 hz => lay_q hz hf rfl (if_pos h11) e2)
          | exact hB (fun f0 p0 q0 hz => lay_p (q1 := q) hz (by omega) rfl e3)
    · have h11 : f = 5 := (nI_eq (by omega) (by omega)).mp h11
      refine R_iconst (pc := 14) (x := nI 1) dX12_lay_14 rfl ?_
      refine R_goto (pc := 15) (t := 19) dX12_lay_15 (by decide) ?_
      refine R_callS (pc := 19) dX12_lay_19 rfl (Or.inl rfl) rfl rfl ?_
      refine s12_inG (a := 1) (b := 1) (by first | rfl | decide) (by first | rfl | decide) (by omega) (by omega) (fun q qa qb e2 => ?_) (fun e2 => ?_)
      · subst e2
        refine R_if_eq (pc := 22) (t := 37) dX12_lay_22 (by decide) (fun hz9 => absurd hz9 (by decide)) (fun _ => ?_)
        refine R_iload_n (pc := 25) dX12_lay_25 rfl ?_
        refine R_iconst (pc := 26) (x := nI 0) dX12_lay_26 rfl ?_
        refine R_bipush (pc := 27) (x := nI 24) dX12_lay_27 (by decide) ?_
        refine R_iload_n (pc := 29) dX12_lay_29 rfl ?_
        refine R_isub (pc := 30) dX12_lay_30 ?_
        refine R_callS (pc := 31) dX12_lay_31 rfl (Or.inl rfl) rfl rfl ?_
        refine s12_inG (a := 0) (b := 24 - q) (by first | rfl | decide) (by rw [pk_sub (by omega)]) (by omega) (by omega) (fun r ra rb e3 => ?_) (fun e3 => ?_)
        · subst e3
          refine R_if_ne (pc := 34) (t := 40) dX12_lay_34 (by decide) (fun _ => ?_) (fun hz9 => absurd hz9 (by decide))
          refine R_aload_n (pc := 40) dX12_lay_40 rfl ?_
          refine R_callV (pc := 41) dX12_lay_41 rfl putM_o rfl rfl ?_
          refine s12_remember hpm hS ?_
          refine R_aload_n (pc := 44) dX12_lay_44 rfl ?_
          refine R_iload_n (pc := 45) dX12_lay_45 rfl ?_
          refine R_callV (pc := 46) dX12_lay_46 rfl putM_o rfl rfl ?_
          refine s12_first (A := (va_up A 2 (remP (A 1) (A 2) pm))) hf ?_
          refine R_istore (pc := 49) dX12_lay_49 (Nat.le_of_ble_eq_true rfl) rfl ?_
          refine R_aload_n (pc := 51) dX12_lay_51 rfl ?_
          refine R_iload_n (pc := 52) dX12_lay_52 rfl ?_
          refine R_iload_n (pc := 53) dX12_lay_53 rfl ?_
          refine R_iload_n (pc := 54) dX12_lay_54 rfl ?_
          refine R_callV (pc := 55) dX12_lay_55 rfl putM_o rfl rfl ?_
          refine s12_layField (A := (va_up A 2 (remP (A 1) (A 2) pm))) hf ?_
          refine R_iload (pc := 58) dX12_lay_58 rfl ?_
          refine R_iret (pc := 60) dX12_lay_60 rfl ?_
          exact hG f r q ⟨hf, qa, by first | (rw [if_neg h11]; exact qb) | (rw [if_pos h11]; exact qb), by omega, rfl, rfl, rfl⟩
        · refine R_if_ne (pc := 34) (t := 40) dX12_lay_34 (by decide) (fun hz9 => absurd hz9 (by decide)) (fun _ => ?_)
          refine R_ldc (pc := 37) (x := (-1000001)) dX12_lay_37 rfl ?_
          refine R_iret (pc := 39) dX12_lay_39 rfl ?_
          first
            | exact hB (fun f0 p0 q0 hz => e f0 hz.1 hz.2.2.2.2.1)
            | exact hB (fun f0 p0 q0 hz => lay_q hz hf rfl (if_neg h11) e2)
            | exact hB (fun f0 p0 q0 hz => lay_q hz hf rfl (if_pos h11) e2)
            | exact hB (fun f0 p0 q0 hz => lay_p (q1 := q) hz (by omega) rfl e3)
      · refine R_if_eq (pc := 22) (t := 37) dX12_lay_22 (by decide) (fun _ => ?_) (fun hz9 => absurd hz9 (by decide))
        refine R_ldc (pc := 37) (x := (-1000001)) dX12_lay_37 rfl ?_
        refine R_iret (pc := 39) dX12_lay_39 rfl ?_
        first
          | exact hB (fun f0 p0 q0 hz => e f0 hz.1 hz.2.2.2.2.1)
          | exact hB (fun f0 p0 q0 hz => lay_q hz hf rfl (if_neg h11) e2)
          | exact hB (fun f0 p0 q0 hz => lay_q hz hf rfl (if_pos h11) e2)
          | exact hB (fun f0 p0 q0 hz => lay_p (q1 := q) hz (by omega) rfl e3)
  · refine R_if_eq (pc := 4) (t := 37) dX12_lay_4 (by decide) (fun _ => ?_) (fun hz9 => absurd hz9 (by decide))
    refine R_ldc (pc := 37) (x := (-1000001)) dX12_lay_37 rfl ?_
    refine R_iret (pc := 39) dX12_lay_39 rfl ?_
    first
      | exact hB (fun f0 p0 q0 hz => e f0 hz.1 hz.2.2.2.2.1)
      | exact hB (fun f0 p0 q0 hz => lay_q hz hf rfl (if_neg h11) e2)
      | exact hB (fun f0 p0 q0 hz => lay_q hz hf rfl (if_pos h11) e2)
      | exact hB (fun f0 p0 q0 hz => lay_p (q1 := q) hz (by omega) rfl e3)
def setOK (a b : Int32) (k v : Nat) : Prop := k < 4 ∧ v ≤ (if k = 0 then 2 else if k = 1 then 1 else 9999) ∧ a = nI k ∧ b = nI v
theorem set_k {a b : Int32} {k v k0 : Nat} (hz : setOK a b k v) (hk : k0 < 4) (e : a = nI k0) : k = k0 := (nI_eq (by have := hz.1; omega) (by omega)).mp (hz.2.2.1.symm.trans e)
theorem set_no {a b : Int32} {k v k0 x : Nat} (hz : setOK a b k v) (hk : k0 < 4) (ea : a = nI k0) (hx : (if k0 = 0 then 2 else if k0 = 1 then 1 else 9999) = x) (e : ∀ j, 0 ≤ j → j ≤ x → ¬ b = nI j) : False := by
  have h0 := set_k hz hk ea
  subst h0
  exact e v (Nat.zero_le _) (by rw [← hx]; exact hz.2.1) hz.2.2.2
theorem set_gone {a b : Int32} {k v : Nat} (hz : setOK a b k v) (h0 : ¬ a = 0) (h1 : ¬ a = nI 1) (e : ∀ j, 2 ≤ j → j ≤ 3 → ¬ a = nI j) : False := by
  obtain ⟨q1, q2, q3, q4⟩ := hz
  have : k = 0 ∨ k = 1 ∨ (2 ≤ k ∧ k ≤ 3) := by omega
  rcases this with q | q | q
  · subst q; exact h0 (q3.trans nI_0)
  · subst q; exact h1 q3
  · exact e k q.1 q.2 q3
theorem s12_isOf {a b : Int32} (hB : (∀ k v, ¬ setOK a b k v) → Q (some (.int (nI 0))) (h, z)) (hG : ∀ k v, setOK a b k v → Q (some (.int (nI 1))) (h, z)) : Rn sA mX12_isOf 0 [some (.int a), some (.int b)] [] (h, z) Q := by
  refine R_iload_n (pc := 0) dX12_isOf_0 rfl ?_
  refine R_if_ne (pc := 1) (t := 13) dX12_isOf_1 (by decide) (fun h1 => ?_) (fun h1 => ?_)
  · refine R_iload_n (pc := 13) dX12_isOf_13 rfl ?_
    refine R_iconst (pc := 14) (x := nI 1) dX12_isOf_14 rfl ?_
    refine R_icmp_ne (pc := 15) (t := 27) dX12_isOf_15 (by decide) (fun h15 => ?_) (fun h15 => ?_)
    · refine R_iload_n (pc := 27) dX12_isOf_27 rfl ?_
      refine R_iconst (pc := 28) (x := nI 2) dX12_isOf_28 rfl ?_
      refine R_iconst (pc := 29) (x := nI 3) dX12_isOf_29 rfl ?_
      refine R_callS (pc := 30) dX12_isOf_30 rfl (Or.inl rfl) rfl rfl ?_
      refine s12_inG (a := 2) (b := 3) (by first | rfl | decide) (by first | rfl | decide) (by omega) (by omega) (fun k ka kb e => ?_) (fun e => ?_)
      · subst e
        refine R_if_eq (pc := 33) (t := 51) dX12_isOf_33 (by decide) (fun hz9 => absurd hz9 (by decide)) (fun _ => ?_)
        refine R_iload_n (pc := 36) dX12_isOf_36 rfl ?_
        refine R_iconst (pc := 37) (x := nI 0) dX12_isOf_37 rfl ?_
        refine R_sipush (pc := 38) (x := nI 9999) dX12_isOf_38 (by decide) ?_
        refine R_callS (pc := 41) dX12_isOf_41 rfl (Or.inl rfl) rfl rfl ?_
        refine s12_inG (a := 0) (b := 9999) (by first | rfl | decide) (by first | rfl | decide) (by omega) (by omega) (fun v va vb e2 => ?_) (fun e2 => ?_)
        · subst e2
          refine R_if_eq (pc := 44) (t := 51) dX12_isOf_44 (by decide) (fun hz9 => absurd hz9 (by decide)) (fun _ => ?_)
          refine R_iconst (pc := 47) (x := nI 1) dX12_isOf_47 rfl ?_
          refine R_goto (pc := 48) (t := 52) dX12_isOf_48 (by decide) ?_
          refine R_zret (pc := 52) dX12_isOf_52 rfl (by decide) ?_
          first
            | exact hG 0 v ⟨by omega, vb, h1.trans nI_0.symm, rfl⟩
            | exact hG 1 v ⟨by omega, vb, h15, rfl⟩
            | exact hG k v ⟨by omega, by rw [if_neg (by omega), if_neg (by omega)]; exact vb, rfl, rfl⟩
            | exact hB (fun k0 v0 hz => set_no hz (k0 := 0) (by omega) (h1.trans nI_0.symm) rfl e)
            | exact hB (fun k0 v0 hz => set_no hz (k0 := 1) (by omega) h15 rfl e)
            | exact hB (fun k0 v0 hz => set_gone hz h1 h15 e)
            | exact hB (fun k0 v0 hz => set_no hz (k0 := k) (by omega) rfl (by rw [if_neg (by omega), if_neg (by omega)]) e2)
        · refine R_if_eq (pc := 44) (t := 51) dX12_isOf_44 (by decide) (fun _ => ?_) (fun hz9 => absurd hz9 (by decide))
          refine R_iconst (pc := 51) (x := nI 0) dX12_isOf_51 rfl ?_
          refine R_zret (pc := 52) dX12_isOf_52 rfl (by decide) ?_
          first
            | exact hG 0 v ⟨by omega, vb, h1.trans nI_0.symm, rfl⟩
            | exact hG 1 v ⟨by omega, vb, h15, rfl⟩
            | exact hG k v ⟨by omega, by rw [if_neg (by omega), if_neg (by omega)]; exact vb, rfl, rfl⟩
            | exact hB (fun k0 v0 hz => set_no hz (k0 := 0) (by omega) (h1.trans nI_0.symm) rfl e)
            | exact hB (fun k0 v0 hz => set_no hz (k0 := 1) (by omega) h15 rfl e)
            | exact hB (fun k0 v0 hz => set_gone hz h1 h15 e)
            | exact hB (fun k0 v0 hz => set_no hz (k0 := k) (by omega) rfl (by rw [if_neg (by omega), if_neg (by omega)]) e2)
      · refine R_if_eq (pc := 33) (t := 51) dX12_isOf_33 (by decide) (fun _ => ?_) (fun hz9 => absurd hz9 (by decide))
        refine R_iconst (pc := 51) (x := nI 0) dX12_isOf_51 rfl ?_
        refine R_zret (pc := 52) dX12_isOf_52 rfl (by decide) ?_
        first
          | exact hG 0 v ⟨by omega, vb, h1.trans nI_0.symm, rfl⟩
          | exact hG 1 v ⟨by omega, vb, h15, rfl⟩
          | exact hG k v ⟨by omega, by rw [if_neg (by omega), if_neg (by omega)]; exact vb, rfl, rfl⟩
          | exact hB (fun k0 v0 hz => set_no hz (k0 := 0) (by omega) (h1.trans nI_0.symm) rfl e)
          | exact hB (fun k0 v0 hz => set_no hz (k0 := 1) (by omega) h15 rfl e)
          | exact hB (fun k0 v0 hz => set_gone hz h1 h15 e)
          | exact hB (fun k0 v0 hz => set_no hz (k0 := k) (by omega) rfl (by rw [if_neg (by omega), if_neg (by omega)]) e2)
    · refine R_iload_n (pc := 18) dX12_isOf_18 rfl ?_
      refine R_iconst (pc := 19) (x := nI 0) dX12_isOf_19 rfl ?_
      refine R_iconst (pc := 20) (x := nI 1) dX12_isOf_20 rfl ?_
      refine R_callS (pc := 21) dX12_isOf_21 rfl (Or.inl rfl) rfl rfl ?_
      refine s12_inG (a := 0) (b := 1) (by first | rfl | decide) (by first | rfl | decide) (by omega) (by omega) (fun v va vb e => ?_) (fun e => ?_)
      · subst e
        refine R_goto (pc := 24) (t := 52) dX12_isOf_24 (by decide) ?_
        refine R_zret (pc := 52) dX12_isOf_52 rfl (by decide) ?_
        first
          | exact hG 0 v ⟨by omega, vb, h1.trans nI_0.symm, rfl⟩
          | exact hG 1 v ⟨by omega, vb, h15, rfl⟩
          | exact hG k v ⟨by omega, by rw [if_neg (by omega), if_neg (by omega)]; exact vb, rfl, rfl⟩
          | exact hB (fun k0 v0 hz => set_no hz (k0 := 0) (by omega) (h1.trans nI_0.symm) rfl e)
          | exact hB (fun k0 v0 hz => set_no hz (k0 := 1) (by omega) h15 rfl e)
          | exact hB (fun k0 v0 hz => set_gone hz h1 h15 e)
          | exact hB (fun k0 v0 hz => set_no hz (k0 := k) (by omega) rfl (by rw [if_neg (by omega), if_neg (by omega)]) e2)
      · refine R_goto (pc := 24) (t := 52) dX12_isOf_24 (by decide) ?_
        refine R_zret (pc := 52) dX12_isOf_52 rfl (by decide) ?_
        first
          | exact hG 0 v ⟨by omega, vb, h1.trans nI_0.symm, rfl⟩
          | exact hG 1 v ⟨by omega, vb, h15, rfl⟩
          | exact hG k v ⟨by omega, by rw [if_neg (by omega), if_neg (by omega)]; exact vb, rfl, rfl⟩
          | exact hB (fun k0 v0 hz => set_no hz (k0 := 0) (by omega) (h1.trans nI_0.symm) rfl e)
          | exact hB (fun k0 v0 hz => set_no hz (k0 := 1) (by omega) h15 rfl e)
          | exact hB (fun k0 v0 hz => set_gone hz h1 h15 e)
          | exact hB (fun k0 v0 hz => set_no hz (k0 := k) (by omega) rfl (by rw [if_neg (by omega), if_neg (by omega)]) e2)
  · refine R_iload_n (pc := 4) dX12_isOf_4 rfl ?_
    refine R_iconst (pc := 5) (x := nI 0) dX12_isOf_5 rfl ?_
    refine R_iconst (pc := 6) (x := nI 2) dX12_isOf_6 rfl ?_
    refine R_callS (pc := 7) dX12_isOf_7 rfl (Or.inl rfl) rfl rfl ?_
    refine s12_inG (a := 0) (b := 2) (by first | rfl | decide) (by first | rfl | decide) (by omega) (by omega) (fun v va vb e => ?_) (fun e => ?_)
    · subst e
      refine R_goto (pc := 10) (t := 52) dX12_isOf_10 (by decide) ?_
      refine R_zret (pc := 52) dX12_isOf_52 rfl (by decide) ?_
      first
        | exact hG 0 v ⟨by omega, vb, h1.trans nI_0.symm, rfl⟩
        | exact hG 1 v ⟨by omega, vb, h15, rfl⟩
        | exact hG k v ⟨by omega, by rw [if_neg (by omega), if_neg (by omega)]; exact vb, rfl, rfl⟩
        | exact hB (fun k0 v0 hz => set_no hz (k0 := 0) (by omega) (h1.trans nI_0.symm) rfl e)
        | exact hB (fun k0 v0 hz => set_no hz (k0 := 1) (by omega) h15 rfl e)
        | exact hB (fun k0 v0 hz => set_gone hz h1 h15 e)
        | exact hB (fun k0 v0 hz => set_no hz (k0 := k) (by omega) rfl (by rw [if_neg (by omega), if_neg (by omega)]) e2)
    · refine R_goto (pc := 10) (t := 52) dX12_isOf_10 (by decide) ?_
      refine R_zret (pc := 52) dX12_isOf_52 rfl (by decide) ?_
      first
        | exact hG 0 v ⟨by omega, vb, h1.trans nI_0.symm, rfl⟩
        | exact hG 1 v ⟨by omega, vb, h15, rfl⟩
        | exact hG k v ⟨by omega, by rw [if_neg (by omega), if_neg (by omega)]; exact vb, rfl, rfl⟩
        | exact hB (fun k0 v0 hz => set_no hz (k0 := 0) (by omega) (h1.trans nI_0.symm) rfl e)
        | exact hB (fun k0 v0 hz => set_no hz (k0 := 1) (by omega) h15 rfl e)
        | exact hB (fun k0 v0 hz => set_gone hz h1 h15 e)
        | exact hB (fun k0 v0 hz => set_no hz (k0 := k) (by omega) rfl (by rw [if_neg (by omega), if_neg (by omega)]) e2)
theorem s12_set {a b : Int32} {pm : Nat} (hpm : pm ≤ 8) (hS : S 2 = nI pm) (hB : (∀ k v, ¬ setOK a b k v) → Q (some (.int (-1000001))) (putM h M A S, z)) (hG : ∀ k v, setOK a b k v → Q (some (.int (A 1 (12 + k)))) (putM h M (va_up (va_up A 2 (remP (A 1) (A 2) pm)) 1 (upd (A 1) (12 + k) (b))) (va_up S 2 (nI (remN pm))), z)) : Rn sA mX12_set 0 [some (.ref M), some (.int a), some (.int b)] [] (putM h M A S, z) Q := by
  refine R_iload_n (pc := 0) dX12_set_0 rfl ?_
  refine R_iload_n (pc := 1) dX12_set_1 rfl ?_
  refine R_callS (pc := 2) dX12_set_2 rfl (Or.inl rfl) rfl rfl ?_
  refine s12_isOf (fun e => ?_) (fun k v e => ?_)
  · refine R_if_eq (pc := 5) (t := 20) dX12_set_5 (by decide) (fun _ => ?_) (fun hz9 => absurd hz9 (by decide))
    refine R_ldc (pc := 20) (x := (-1000001)) dX12_set_20 rfl ?_
    refine R_iret (pc := 22) dX12_set_22 rfl ?_
    first | exact hB e | exact hG k v e
  · obtain ⟨hk, hv, ha, -⟩ := id e
    subst ha
    refine R_if_eq (pc := 5) (t := 20) dX12_set_5 (by decide) (fun hz9 => absurd hz9 (by decide)) (fun _ => ?_)
    refine R_aload_n (pc := 8) dX12_set_8 rfl ?_
    refine R_bipush (pc := 9) (x := nI 12) dX12_set_9 (by decide) ?_
    refine R_iload_n (pc := 11) dX12_set_11 rfl ?_
    refine R_iadd (pc := 12) dX12_set_12 ?_
    refine R_iload_n (pc := 13) dX12_set_13 rfl ?_
    refine R_callV (pc := 14) dX12_set_14 rfl putM_o rfl rfl ?_
    rw [nI_add]
    refine s12_put (j := 12 + k) hpm hS (by omega) ?_
    refine R_goto (pc := 17) (t := 22) dX12_set_17 (by decide) ?_
    refine R_iret (pc := 22) dX12_set_22 rfl ?_
    first | exact hB e | exact hG k v e
def ctlOK (a b : Int32) (k : Nat) : Prop := k < 3 ∧ a = nI k ∧ (b = (-1000009) ∨ ∃ v, v ≤ 1000000 ∧ b = nI v)
theorem s12_control {a b : Int32} {pm : Nat} (hpm : pm ≤ 8) (hS : S 2 = nI pm) (hB : (∀ k, ¬ ctlOK a b k) → Q (some (.int (-1000001))) (putM h M A S, z)) (hG : ∀ k, ctlOK a b k → Q (some (.int (A 1 (16 + k)))) (putM h M (va_up (va_up A 2 (remP (A 1) (A 2) pm)) 1 (upd (A 1) (16 + k) (b))) (va_up S 2 (nI (remN pm))), z)) : Rn sA mX12_control 0 [some (.ref M), some (.int a), some (.int b)] [] (putM h M A S, z) Q := by
  refine R_iload_n (pc := 0) dX12_control_0 rfl ?_
  refine R_iconst (pc := 1) (x := nI 0) dX12_control_1 rfl ?_
  refine R_iconst (pc := 2) (x := nI 2) dX12_control_2 rfl ?_
  refine R_callS (pc := 3) dX12_control_3 rfl (Or.inl rfl) rfl rfl ?_
  refine s12_inG (a := 0) (b := 2) (by first | rfl | decide) (by first | rfl | decide) (by omega) (by omega) (fun k ka kb e => ?_) (fun e => ?_)
  · subst e
    refine R_if_eq (pc := 6) (t := 37) dX12_control_6 (by decide) (fun hz9 => absurd hz9 (by decide)) (fun _ => ?_)
    refine R_iload_n (pc := 9) dX12_control_9 rfl ?_
    refine R_ldc (pc := 10) (x := (-1000009)) dX12_control_10 rfl ?_
    refine R_icmp_eq (pc := 12) (t := 25) dX12_control_12 (by decide) (fun h12 => ?_) (fun h12 => ?_)
    · refine R_aload_n (pc := 25) dX12_control_25 rfl ?_
      refine R_bipush (pc := 26) (x := nI 16) dX12_control_26 (by decide) ?_
      refine R_iload_n (pc := 28) dX12_control_28 rfl ?_
      refine R_iadd (pc := 29) dX12_control_29 ?_
      refine R_iload_n (pc := 30) dX12_control_30 rfl ?_
      refine R_callV (pc := 31) dX12_control_31 rfl putM_o rfl rfl ?_
      rw [nI_add]
      refine s12_put (j := 16 + k) hpm hS (by omega) ?_
      refine R_goto (pc := 34) (t := 39) dX12_control_34 (by decide) ?_
      refine R_iret (pc := 39) dX12_control_39 rfl ?_
      first
        | exact hG k ⟨by omega, rfl, Or.inl h12⟩
        | exact hG k ⟨by omega, rfl, Or.inr ⟨v, vb, e2⟩⟩
        | exact hB (fun k0 hz => e k0 (Nat.zero_le _) (by have := hz.1; omega) hz.2.1)
        | exact hB (fun k0 hz => by
            rcases hz.2.2 with q | ⟨v, q1, q2⟩
            · exact h12 q
            · exact e2 v (Nat.zero_le _) q1 q2)
    · refine R_iload_n (pc := 15) dX12_control_15 rfl ?_
      refine R_iconst (pc := 16) (x := nI 0) dX12_control_16 rfl ?_
      refine R_ldc (pc := 17) (x := (1000000)) dX12_control_17 rfl ?_
      refine R_callS (pc := 19) dX12_control_19 rfl (Or.inl rfl) rfl rfl ?_
      refine s12_inG (a := 0) (b := 1000000) (by first | rfl | decide) (by first | rfl | decide) (by omega) (by omega) (fun v va vb e2 => ?_) (fun e2 => ?_)
      · refine R_if_eq (pc := 22) (t := 37) dX12_control_22 (by decide) (fun hz9 => absurd hz9 (by decide)) (fun _ => ?_)
        refine R_aload_n (pc := 25) dX12_control_25 rfl ?_
        refine R_bipush (pc := 26) (x := nI 16) dX12_control_26 (by decide) ?_
        refine R_iload_n (pc := 28) dX12_control_28 rfl ?_
        refine R_iadd (pc := 29) dX12_control_29 ?_
        refine R_iload_n (pc := 30) dX12_control_30 rfl ?_
        refine R_callV (pc := 31) dX12_control_31 rfl putM_o rfl rfl ?_
        rw [nI_add]
        refine s12_put (j := 16 + k) hpm hS (by omega) ?_
        refine R_goto (pc := 34) (t := 39) dX12_control_34 (by decide) ?_
        refine R_iret (pc := 39) dX12_control_39 rfl ?_
        first
          | exact hG k ⟨by omega, rfl, Or.inl h12⟩
          | exact hG k ⟨by omega, rfl, Or.inr ⟨v, vb, e2⟩⟩
          | exact hB (fun k0 hz => e k0 (Nat.zero_le _) (by have := hz.1; omega) hz.2.1)
          | exact hB (fun k0 hz => by
              rcases hz.2.2 with q | ⟨v, q1, q2⟩
              · exact h12 q
              · exact e2 v (Nat.zero_le _) q1 q2)
      · refine R_if_eq (pc := 22) (t := 37) dX12_control_22 (by decide) (fun _ => ?_) (fun hz9 => absurd hz9 (by decide))
        refine R_ldc (pc := 37) (x := (-1000001)) dX12_control_37 rfl ?_
        refine R_iret (pc := 39) dX12_control_39 rfl ?_
        first
          | exact hG k ⟨by omega, rfl, Or.inl h12⟩
          | exact hG k ⟨by omega, rfl, Or.inr ⟨v, vb, e2⟩⟩
          | exact hB (fun k0 hz => e k0 (Nat.zero_le _) (by have := hz.1; omega) hz.2.1)
          | exact hB (fun k0 hz => by
              rcases hz.2.2 with q | ⟨v, q1, q2⟩
              · exact h12 q
              · exact e2 v (Nat.zero_le _) q1 q2)
  · refine R_if_eq (pc := 6) (t := 37) dX12_control_6 (by decide) (fun _ => ?_) (fun hz9 => absurd hz9 (by decide))
    refine R_ldc (pc := 37) (x := (-1000001)) dX12_control_37 rfl ?_
    refine R_iret (pc := 39) dX12_control_39 rfl ?_
    first
      | exact hG k ⟨by omega, rfl, Or.inl h12⟩
      | exact hG k ⟨by omega, rfl, Or.inr ⟨v, vb, e2⟩⟩
      | exact hB (fun k0 hz => e k0 (Nat.zero_le _) (by have := hz.1; omega) hz.2.1)
      | exact hB (fun k0 hz => by
          rcases hz.2.2 with q | ⟨v, q1, q2⟩
          · exact h12 q
          · exact e2 v (Nat.zero_le _) q1 q2)
def rpOK (n : Nat) (a b d : Int32) (c k : Nat) : Prop := c < n ∧ k < 24 ∧ a = nI c ∧ b = nI k ∧ (d = (-1000009) ∨ ∃ v, v ≤ 9 ∧ d = nI v)
def mkOK (n : Nat) (a b d : Int32) (c k t : Nat) : Prop := c < n ∧ k ≤ 3 ∧ t < 24 ∧ a = nI c ∧ b = nI k ∧ d = nI t
theorem s12_repunch {a b d : Int32} {n pm : Nat} (hn : n ≤ 40) (hw : A 1 19 = nI n) (hpm : pm ≤ 8) (hS : S 2 = nI pm) (hB : (∀ c k, ¬ rpOK n a b d c k) → Q (some (.int (-1000001))) (putM h M A S, z)) (hG : ∀ c k, rpOK n a b d c k → Q (some (.int (A 1 (20 + 26 * c + k)))) (putM h M (va_up (va_up A 2 (remP (A 1) (A 2) pm)) 1 (upd (A 1) (20 + 26 * c + k) (d))) (va_up S 2 (nI (remN pm))), z)) : Rn sA mX12_repunch 0 [some (.ref M), some (.int a), some (.int b), some (.int d), none] [] (putM h M A S, z) Q := by
  refine R_aload_n (pc := 0) dX12_repunch_0 rfl ?_
  refine R_iload_n (pc := 1) dX12_repunch_1 rfl ?_
  refine R_callV (pc := 2) dX12_repunch_2 rfl putM_o rfl rfl ?_
  refine s12_isCard hn hw (fun c hc e => ?_) (fun e => ?_)
  · subst e
    refine R_if_eq (pc := 5) (t := 35) dX12_repunch_5 (by decide) (fun hz9 => absurd hz9 (by decide)) (fun _ => ?_)
    refine R_iload_n (pc := 8) dX12_repunch_8 rfl ?_
    refine R_callS (pc := 9) dX12_repunch_9 rfl (Or.inl rfl) rfl rfl ?_
    refine s12_isColumn (fun k hk e2 => ?_) (fun e2 => ?_)
    · subst e2
      refine R_if_eq (pc := 12) (t := 35) dX12_repunch_12 (by decide) (fun hz9 => absurd hz9 (by decide)) (fun _ => ?_)
      refine R_iload_n (pc := 15) dX12_repunch_15 rfl ?_
      refine R_ldc (pc := 16) (x := (-1000009)) dX12_repunch_16 rfl ?_
      refine R_icmp_eq (pc := 18) (t := 31) dX12_repunch_18 (by decide) (fun h18 => ?_) (fun h18 => ?_)
      · refine R_iconst (pc := 31) (x := nI 1) dX12_repunch_31 rfl ?_
        refine R_goto (pc := 32) (t := 36) dX12_repunch_32 (by decide) ?_
        refine R_istore (pc := 36) dX12_repunch_36 (Nat.le_of_ble_eq_true rfl) rfl ?_
        refine R_iload (pc := 38) dX12_repunch_38 rfl ?_
        refine R_if_eq (pc := 40) (t := 60) dX12_repunch_40 (by decide) (fun hz9 => absurd hz9 (by decide)) (fun _ => ?_)
        refine R_aload_n (pc := 43) dX12_repunch_43 rfl ?_
        refine R_bipush (pc := 44) (x := nI 20) dX12_repunch_44 (by decide) ?_
        refine R_bipush (pc := 46) (x := nI 26) dX12_repunch_46 (by decide) ?_
        refine R_iload_n (pc := 48) dX12_repunch_48 rfl ?_
        refine R_imul (pc := 49) dX12_repunch_49 ?_
        refine R_iadd (pc := 50) dX12_repunch_50 ?_
        refine R_iload_n (pc := 51) dX12_repunch_51 rfl ?_
        refine R_iadd (pc := 52) dX12_repunch_52 ?_
        refine R_iload_n (pc := 53) dX12_repunch_53 rfl ?_
        refine R_callV (pc := 54) dX12_repunch_54 rfl putM_o rfl rfl ?_
        rw [pk_mul, nI_add, nI_add]
        refine s12_put (j := 20 + 26 * c + k) hpm hS (by omega) ?_
        refine R_goto (pc := 57) (t := 62) dX12_repunch_57 (by decide) ?_
        refine R_iret (pc := 62) dX12_repunch_62 rfl ?_
        first
          | exact hG c k ⟨hc, hk, rfl, rfl, Or.inl h18⟩
          | exact hG c k ⟨hc, hk, rfl, rfl, Or.inr ⟨v, vb, e3⟩⟩
          | exact hB (fun c0 k0 hz => e c0 hz.1 hz.2.2.1)
          | exact hB (fun c0 k0 hz => e2 k0 hz.2.1 hz.2.2.2.1)
          | exact hB (fun c0 k0 hz => by
              rcases hz.2.2.2.2 with q | ⟨v, q1, q2⟩
              · exact h18 q
              · exact e3 v (Nat.zero_le _) q1 q2)
      · refine R_iload_n (pc := 21) dX12_repunch_21 rfl ?_
        refine R_iconst (pc := 22) (x := nI 0) dX12_repunch_22 rfl ?_
        refine R_bipush (pc := 23) (x := nI 9) dX12_repunch_23 (by decide) ?_
        refine R_callS (pc := 25) dX12_repunch_25 rfl (Or.inl rfl) rfl rfl ?_
        refine s12_inG (a := 0) (b := 9) (by first | rfl | decide) (by first | rfl | decide) (by omega) (by omega) (fun v va vb e3 => ?_) (fun e3 => ?_)
        · refine R_if_eq (pc := 28) (t := 35) dX12_repunch_28 (by decide) (fun hz9 => absurd hz9 (by decide)) (fun _ => ?_)
          refine R_iconst (pc := 31) (x := nI 1) dX12_repunch_31 rfl ?_
          refine R_goto (pc := 32) (t := 36) dX12_repunch_32 (by decide) ?_
          refine R_istore (pc := 36) dX12_repunch_36 (Nat.le_of_ble_eq_true rfl) rfl ?_
          refine R_iload (pc := 38) dX12_repunch_38 rfl ?_
          refine R_if_eq (pc := 40) (t := 60) dX12_repunch_40 (by decide) (fun hz9 => absurd hz9 (by decide)) (fun _ => ?_)
          refine R_aload_n (pc := 43) dX12_repunch_43 rfl ?_
          refine R_bipush (pc := 44) (x := nI 20) dX12_repunch_44 (by decide) ?_
          refine R_bipush (pc := 46) (x := nI 26) dX12_repunch_46 (by decide) ?_
          refine R_iload_n (pc := 48) dX12_repunch_48 rfl ?_
          refine R_imul (pc := 49) dX12_repunch_49 ?_
          refine R_iadd (pc := 50) dX12_repunch_50 ?_
          refine R_iload_n (pc := 51) dX12_repunch_51 rfl ?_
          refine R_iadd (pc := 52) dX12_repunch_52 ?_
          refine R_iload_n (pc := 53) dX12_repunch_53 rfl ?_
          refine R_callV (pc := 54) dX12_repunch_54 rfl putM_o rfl rfl ?_
          rw [pk_mul, nI_add, nI_add]
          refine s12_put (j := 20 + 26 * c + k) hpm hS (by omega) ?_
          refine R_goto (pc := 57) (t := 62) dX12_repunch_57 (by decide) ?_
          refine R_iret (pc := 62) dX12_repunch_62 rfl ?_
          first
            | exact hG c k ⟨hc, hk, rfl, rfl, Or.inl h18⟩
            | exact hG c k ⟨hc, hk, rfl, rfl, Or.inr ⟨v, vb, e3⟩⟩
            | exact hB (fun c0 k0 hz => e c0 hz.1 hz.2.2.1)
            | exact hB (fun c0 k0 hz => e2 k0 hz.2.1 hz.2.2.2.1)
            | exact hB (fun c0 k0 hz => by
                rcases hz.2.2.2.2 with q | ⟨v, q1, q2⟩
                · exact h18 q
                · exact e3 v (Nat.zero_le _) q1 q2)
        · refine R_if_eq (pc := 28) (t := 35) dX12_repunch_28 (by decide) (fun _ => ?_) (fun hz9 => absurd hz9 (by decide))
          refine R_iconst (pc := 35) (x := nI 0) dX12_repunch_35 rfl ?_
          refine R_istore (pc := 36) dX12_repunch_36 (Nat.le_of_ble_eq_true rfl) rfl ?_
          refine R_iload (pc := 38) dX12_repunch_38 rfl ?_
          refine R_if_eq (pc := 40) (t := 60) dX12_repunch_40 (by decide) (fun _ => ?_) (fun hz9 => absurd nI_0 hz9)
          refine R_ldc (pc := 60) (x := (-1000001)) dX12_repunch_60 rfl ?_
          refine R_iret (pc := 62) dX12_repunch_62 rfl ?_
          first
            | exact hG c k ⟨hc, hk, rfl, rfl, Or.inl h18⟩
            | exact hG c k ⟨hc, hk, rfl, rfl, Or.inr ⟨v, vb, e3⟩⟩
            | exact hB (fun c0 k0 hz => e c0 hz.1 hz.2.2.1)
            | exact hB (fun c0 k0 hz => e2 k0 hz.2.1 hz.2.2.2.1)
            | exact hB (fun c0 k0 hz => by
                rcases hz.2.2.2.2 with q | ⟨v, q1, q2⟩
                · exact h18 q
                · exact e3 v (Nat.zero_le _) q1 q2)
    · refine R_if_eq (pc := 12) (t := 35) dX12_repunch_12 (by decide) (fun _ => ?_) (fun hz9 => absurd hz9 (by decide))
      refine R_iconst (pc := 35) (x := nI 0) dX12_repunch_35 rfl ?_
      refine R_istore (pc := 36) dX12_repunch_36 (Nat.le_of_ble_eq_true rfl) rfl ?_
      refine R_iload (pc := 38) dX12_repunch_38 rfl ?_
      refine R_if_eq (pc := 40) (t := 60) dX12_repunch_40 (by decide) (fun _ => ?_) (fun hz9 => absurd nI_0 hz9)
      refine R_ldc (pc := 60) (x := (-1000001)) dX12_repunch_60 rfl ?_
      refine R_iret (pc := 62) dX12_repunch_62 rfl ?_
      first
        | exact hG c k ⟨hc, hk, rfl, rfl, Or.inl h18⟩
        | exact hG c k ⟨hc, hk, rfl, rfl, Or.inr ⟨v, vb, e3⟩⟩
        | exact hB (fun c0 k0 hz => e c0 hz.1 hz.2.2.1)
        | exact hB (fun c0 k0 hz => e2 k0 hz.2.1 hz.2.2.2.1)
        | exact hB (fun c0 k0 hz => by
            rcases hz.2.2.2.2 with q | ⟨v, q1, q2⟩
            · exact h18 q
            · exact e3 v (Nat.zero_le _) q1 q2)
  · refine R_if_eq (pc := 5) (t := 35) dX12_repunch_5 (by decide) (fun _ => ?_) (fun hz9 => absurd hz9 (by decide))
    refine R_iconst (pc := 35) (x := nI 0) dX12_repunch_35 rfl ?_
    refine R_istore (pc := 36) dX12_repunch_36 (Nat.le_of_ble_eq_true rfl) rfl ?_
    refine R_iload (pc := 38) dX12_repunch_38 rfl ?_
    refine R_if_eq (pc := 40) (t := 60) dX12_repunch_40 (by decide) (fun _ => ?_) (fun hz9 => absurd nI_0 hz9)
    refine R_ldc (pc := 60) (x := (-1000001)) dX12_repunch_60 rfl ?_
    refine R_iret (pc := 62) dX12_repunch_62 rfl ?_
    first
      | exact hG c k ⟨hc, hk, rfl, rfl, Or.inl h18⟩
      | exact hG c k ⟨hc, hk, rfl, rfl, Or.inr ⟨v, vb, e3⟩⟩
      | exact hB (fun c0 k0 hz => e c0 hz.1 hz.2.2.1)
      | exact hB (fun c0 k0 hz => e2 k0 hz.2.1 hz.2.2.2.1)
      | exact hB (fun c0 k0 hz => by
          rcases hz.2.2.2.2 with q | ⟨v, q1, q2⟩
          · exact h18 q
          · exact e3 v (Nat.zero_le _) q1 q2)
theorem s12_mark {a b d : Int32} {n pm : Nat} (hn : n ≤ 40) (hw : A 1 19 = nI n) (hpm : pm ≤ 8) (hS : S 2 = nI pm) (hB : (∀ c k t, ¬ mkOK n a b d c k t) → Q (some (.int (-1000001))) (putM h M A S, z)) (hG : ∀ c k t, mkOK n a b d c k t → Q (some (.int (A 1 (20 + 26 * c + 24)))) (putM h M (va_up (va_up A 2 (remP (A 1) (A 2) pm)) 1 (upd (upd (A 1) (20 + 26 * c + 24) b) (20 + 26 * c + 25) d)) (va_up S 2 (nI (remN pm))), z)) : Rn sA mX12_mark 0 [some (.ref M), some (.int a), some (.int b), some (.int d), none] [] (putM h M A S, z) Q := by
  refine R_aload_n (pc := 0) dX12_mark_0 rfl ?_
  refine R_iload_n (pc := 1) dX12_mark_1 rfl ?_
  refine R_callV (pc := 2) dX12_mark_2 rfl putM_o rfl rfl ?_
  refine s12_isCard hn hw (fun c hc e => ?_) (fun e => ?_)
  · subst e
    refine R_if_eq (pc := 5) (t := 24) dX12_mark_5 (by decide) (fun hz9 => absurd hz9 (by decide)) (fun _ => ?_)
    refine R_iload_n (pc := 8) dX12_mark_8 rfl ?_
    refine R_iconst (pc := 9) (x := nI 0) dX12_mark_9 rfl ?_
    refine R_iconst (pc := 10) (x := nI 3) dX12_mark_10 rfl ?_
    refine R_callS (pc := 11) dX12_mark_11 rfl (Or.inl rfl) rfl rfl ?_
    refine s12_inG (a := 0) (b := 3) (by first | rfl | decide) (by first | rfl | decide) (by omega) (by omega) (fun k ka kb e2 => ?_) (fun e2 => ?_)
    · subst e2
      refine R_if_eq (pc := 14) (t := 24) dX12_mark_14 (by decide) (fun hz9 => absurd hz9 (by decide)) (fun _ => ?_)
      refine R_iload_n (pc := 17) dX12_mark_17 rfl ?_
      refine R_callS (pc := 18) dX12_mark_18 rfl (Or.inl rfl) rfl rfl ?_
      refine s12_isColumn (fun t ht e3 => ?_) (fun e3 => ?_)
      · subst e3
        refine R_if_ne (pc := 21) (t := 27) dX12_mark_21 (by decide) (fun _ => ?_) (fun hz9 => absurd hz9 (by decide))
        refine R_aload_n (pc := 27) dX12_mark_27 rfl ?_
        refine R_bipush (pc := 28) (x := nI 20) dX12_mark_28 (by decide) ?_
        refine R_bipush (pc := 30) (x := nI 26) dX12_mark_30 (by decide) ?_
        refine R_iload_n (pc := 32) dX12_mark_32 rfl ?_
        refine R_imul (pc := 33) dX12_mark_33 ?_
        refine R_iadd (pc := 34) dX12_mark_34 ?_
        refine R_bipush (pc := 35) (x := nI 24) dX12_mark_35 (by decide) ?_
        refine R_iadd (pc := 37) dX12_mark_37 ?_
        refine R_iload_n (pc := 38) dX12_mark_38 rfl ?_
        refine R_callV (pc := 39) dX12_mark_39 rfl putM_o rfl rfl ?_
        rw [pk_mul, nI_add, nI_add]
        refine s12_put (j := 20 + 26 * c + 24) hpm hS (by omega) ?_
        refine R_istore (pc := 42) dX12_mark_42 (Nat.le_of_ble_eq_true rfl) rfl ?_
        refine R_aload_n (pc := 44) dX12_mark_44 rfl ?_
        refine M_g (pc := 45) dX12_mark_45 rfl rfl ?_
        refine R_bipush (pc := 48) (x := nI 20) dX12_mark_48 (by decide) ?_
        refine R_bipush (pc := 50) (x := nI 26) dX12_mark_50 (by decide) ?_
        refine R_iload_n (pc := 52) dX12_mark_52 rfl ?_
        refine R_imul (pc := 53) dX12_mark_53 ?_
        refine R_iadd (pc := 54) dX12_mark_54 ?_
        refine R_bipush (pc := 55) (x := nI 25) dX12_mark_55 (by decide) ?_
        refine R_iadd (pc := 57) dX12_mark_57 ?_
        refine R_iload_n (pc := 58) dX12_mark_58 rfl ?_
        refine M_ast (pc := 59) dX12_mark_59 (by first | with_reducible rfl | (simp only [nI_add, pk_mul]; exact rfl)) (by simp only [mol1, mol2, mol3, mol4, mol5, mol6, mol7, mol8, mol9, mol10, mol11, mol12, mol13]; omega) ?_
        refine R_iload (pc := 60) dX12_mark_60 rfl ?_
        refine R_iret (pc := 62) dX12_mark_62 rfl ?_
        rw [va_up_up]
        exact hG c k t ⟨hc, kb, ht, rfl, rfl, rfl⟩
      · refine R_if_ne (pc := 21) (t := 27) dX12_mark_21 (by decide) (fun hz9 => absurd hz9 (by decide)) (fun _ => ?_)
        refine R_ldc (pc := 24) (x := (-1000001)) dX12_mark_24 rfl ?_
        refine R_iret (pc := 26) dX12_mark_26 rfl ?_
        first
          | exact hB (fun c0 k0 t0 hz => e c0 hz.1 hz.2.2.2.1)
          | exact hB (fun c0 k0 t0 hz => e2 k0 (Nat.zero_le _) hz.2.1 hz.2.2.2.2.1)
          | exact hB (fun c0 k0 t0 hz => e3 t0 hz.2.2.1 hz.2.2.2.2.2)
    · refine R_if_eq (pc := 14) (t := 24) dX12_mark_14 (by decide) (fun _ => ?_) (fun hz9 => absurd hz9 (by decide))
      refine R_ldc (pc := 24) (x := (-1000001)) dX12_mark_24 rfl ?_
      refine R_iret (pc := 26) dX12_mark_26 rfl ?_
      first
        | exact hB (fun c0 k0 t0 hz => e c0 hz.1 hz.2.2.2.1)
        | exact hB (fun c0 k0 t0 hz => e2 k0 (Nat.zero_le _) hz.2.1 hz.2.2.2.2.1)
        | exact hB (fun c0 k0 t0 hz => e3 t0 hz.2.2.1 hz.2.2.2.2.2)
  · refine R_if_eq (pc := 5) (t := 24) dX12_mark_5 (by decide) (fun _ => ?_) (fun hz9 => absurd hz9 (by decide))
    refine R_ldc (pc := 24) (x := (-1000001)) dX12_mark_24 rfl ?_
    refine R_iret (pc := 26) dX12_mark_26 rfl ?_
    first
      | exact hB (fun c0 k0 t0 hz => e c0 hz.1 hz.2.2.2.1)
      | exact hB (fun c0 k0 t0 hz => e2 k0 (Nat.zero_le _) hz.2.1 hz.2.2.2.2.1)
      | exact hB (fun c0 k0 t0 hz => e3 t0 hz.2.2.1 hz.2.2.2.2.2)
end MOD4
