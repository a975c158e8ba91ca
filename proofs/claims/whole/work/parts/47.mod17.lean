section MOD17
variable {sA : Nat} {h : Nat → Option am_C} {z : Nat × Nat} {Q : Option Value → am_H → Prop} {M : Nat} {A : Nat → Nat → Int32} {S : Nat → Int32}
theorem s12_ofAll {c what : Nat} (hc : c < 161) (h0 : A 1 1304 = nI (c + 1)) (hwh : what < 5) (hQ : Q (some (.int (A 1 (1305 + 9 * c + 4 + what)))) (putM h M A S, z)) : Rn sA mX12_ofAll 0 [some (.ref M), some (.int (nI what))] [] (putM h M A S, z) Q := by
  refine R_aload_n (pc := 0) dX12_ofAll_0 rfl ?_
  refine M_g (pc := 1) dX12_ofAll_1 rfl rfl ?_
  refine R_sipush (pc := 4) (x := nI 1305) dX12_ofAll_4 (by decide) ?_
  refine R_bipush (pc := 7) (x := nI 9) dX12_ofAll_7 (by decide) ?_
  refine R_aload_n (pc := 9) dX12_ofAll_9 rfl ?_
  refine M_g (pc := 10) dX12_ofAll_10 rfl rfl ?_
  refine R_sipush (pc := 13) (x := nI 1304) dX12_ofAll_13 (by decide) ?_
  refine M_ald (pc := 16) dX12_ofAll_16 rfl (by simp only [mol1]; omega) ?_
  refine R_iconst (pc := 17) (x := nI 1) dX12_ofAll_17 rfl ?_
  refine R_isub (pc := 18) dX12_ofAll_18 ?_
  refine R_imul (pc := 19) dX12_ofAll_19 ?_
  rw [h0, pk_sub (show 1 ≤ c + 1 by omega), Nat.add_sub_cancel, pk_mul]
  refine R_iadd (pc := 20) dX12_ofAll_20 ?_
  rw [nI_add]
  refine R_iconst (pc := 21) (x := nI 4) dX12_ofAll_21 rfl ?_
  refine R_iadd (pc := 22) dX12_ofAll_22 ?_
  refine R_iload_n (pc := 23) dX12_ofAll_23 rfl ?_
  refine R_iadd (pc := 24) dX12_ofAll_24 ?_
  refine M_ald (pc := 25) dX12_ofAll_25 (by simp only [nI_add]; exact rfl) (by simp only [mol1]; omega) ?_
  refine R_iret (pc := 26) dX12_ofAll_26 rfl ?_
  exact hQ
theorem s12_keyOf {acc : Nat → Nat → Int32} {m : Nat} {k : Nat} (hm : m ≤ 40) (hacc : ∀ k f, k < m → f < 5 → A 1 (1104 + 5 * k + f) = acc k f) (hk : k < m) (hQ : Q (some (.long (keyA acc k))) (putM h M A S, z)) : Rn sA mX12_keyOf 0 [some (.ref M), some (.int (nI k))] [] (putM h M A S, z) Q := by
  refine R_aload_n (pc := 0) dX12_keyOf_0 rfl ?_
  refine R_iload_n (pc := 1) dX12_keyOf_1 rfl ?_
  refine R_iconst (pc := 2) (x := nI 0) dX12_keyOf_2 rfl ?_
  refine R_callV (pc := 3) dX12_keyOf_3 rfl putM_o rfl rfl ?_
  refine s12_accepted (by omega) (by omega) ?_
  rw [hacc k 0 (by omega) (by omega)]
  refine R_aload_n (pc := 6) dX12_keyOf_6 rfl ?_
  refine R_iload_n (pc := 7) dX12_keyOf_7 rfl ?_
  refine R_iconst (pc := 8) (x := nI 1) dX12_keyOf_8 rfl ?_
  refine R_callV (pc := 9) dX12_keyOf_9 rfl putM_o rfl rfl ?_
  refine s12_accepted (by omega) (by omega) ?_
  rw [hacc k 1 (by omega) (by omega)]
  refine R_aload_n (pc := 12) dX12_keyOf_12 rfl ?_
  refine R_iload_n (pc := 13) dX12_keyOf_13 rfl ?_
  refine R_iconst (pc := 14) (x := nI 2) dX12_keyOf_14 rfl ?_
  refine R_callV (pc := 15) dX12_keyOf_15 rfl putM_o rfl rfl ?_
  refine s12_accepted (by omega) (by omega) ?_
  rw [hacc k 2 (by omega) (by omega)]
  refine R_callS (pc := 18) dX12_keyOf_18 rfl (Or.inl rfl) rfl rfl ?_
  refine s12_key ?_
  refine R_lret (pc := 21) dX12_keyOf_21 rfl ?_
  exact hQ
def agB (L : Nat → Int32) (lim : Int32) (acc : Nat → Nat → Int32) (m : Nat) : Nat → Bool
  | 0 => true
  | k + 1 => agB L lim acc m k && decide (L k = inR lim acc m (-1) k m)
def bI (b : Bool) : Int32 := if b = true then nI 1 else nI 0
theorem bI_and (a b : Bool) : bI a &&& bI b = bI (a && b) := by cases a <;> cases b <;> decide
theorem l12_agr {acc : Nat → Nat → Int32} {m : Nat} {c : Nat} {lim : Int32} (hm : m ≤ 40) (hm2 : A 1 1103 = nI m) (hacc : ∀ k f, k < m → f < 5 → A 1 (1104 + 5 * k + f) = acc k f) (hlim : A 1 1061 = lim) (hc : c < 161) (hc2 : A 1 1304 = nI (c + 1)) : ∀ (n k : Nat) (_ : k + n = 4) (_ : agB (fun k => A 1 (1305 + 9 * c + 4 + k)) lim acc m 4 = true → Q (some (.int (nI 1))) (putM h M A S, z)) (_ : agB (fun k => A 1 (1305 + 9 * c + 4 + k)) lim acc m 4 = false → Q (some (.int (nI 0))) (putM h M A S, z)), Rn sA mX12_agrees 4 [some (.ref M), some (.int (bI (agB (fun k => A 1 (1305 + 9 * c + 4 + k)) lim acc m k))), some (.int (nI k))] [] (putM h M A S, z) Q
  | 0, k, hk, h1, h0 => by
    obtain rfl : k = 4 := by omega
    refine R_iload_n (pc := 4) dX12_agrees_4 rfl ?_
    refine R_iconst (pc := 5) (x := nI 4) dX12_agrees_5 rfl ?_
    refine R_icmp_ge (pc := 6) (t := 48) dX12_agrees_6 (by decide) (fun _ => ?_) (fun hz9 => absurd (nI_le (by omega) (by omega)) hz9)
    by_cases eb : agB (fun k => A 1 (1305 + 9 * c + 4 + k)) lim acc m 4 = true
    · rw [eb, show bI true = nI 1 from rfl]
      refine R_iload_n (pc := 48) dX12_agrees_48 rfl ?_
      refine R_if_eq (pc := 49) (t := 56) dX12_agrees_49 (by decide) (fun hz9 => absurd hz9 (by decide)) (fun _ => ?_)
      refine R_iconst (pc := 52) (x := nI 1) dX12_agrees_52 rfl ?_
      refine R_goto (pc := 53) (t := 57) dX12_agrees_53 (by decide) ?_
      refine R_iret (pc := 57) dX12_agrees_57 rfl ?_
      exact h1 eb
    · rw [Bool.eq_false_iff.mpr eb, show bI false = nI 0 from rfl]
      refine R_iload_n (pc := 48) dX12_agrees_48 rfl ?_
      refine R_if_eq (pc := 49) (t := 56) dX12_agrees_49 (by decide) (fun _ => ?_) (fun hz9 => absurd rfl hz9)
      refine R_iconst (pc := 56) (x := nI 0) dX12_agrees_56 rfl ?_
      refine R_iret (pc := 57) dX12_agrees_57 rfl ?_
      exact h0 (Bool.eq_false_iff.mpr eb)
  | n + 1, k, hk, h1, h0 => by
    refine R_iload_n (pc := 4) dX12_agrees_4 rfl ?_
    refine R_iconst (pc := 5) (x := nI 4) dX12_agrees_5 rfl ?_
    refine R_icmp_ge (pc := 6) (t := 48) dX12_agrees_6 (by decide) (fun hz9 => absurd hz9 (nI_ge (by omega) (by omega))) (fun _ => ?_)
    refine R_aload_n (pc := 9) dX12_agrees_9 rfl ?_
    refine M_g (pc := 10) dX12_agrees_10 rfl rfl ?_
    refine R_sipush (pc := 13) (x := nI 1304) dX12_agrees_13 (by decide) ?_
    refine M_ald (pc := 16) dX12_agrees_16 rfl (by simp only [mol1]; omega) ?_
    refine R_if_le (pc := 17) (t := 48) dX12_agrees_17 (by decide) (fun hz9 => absurd hz9 (by rw [hc2]; exact nI_nle (by omega) (by omega))) (fun _ => ?_)
    refine R_iload_n (pc := 20) dX12_agrees_20 rfl ?_
    refine R_aload_n (pc := 21) dX12_agrees_21 rfl ?_
    refine R_iload_n (pc := 22) dX12_agrees_22 rfl ?_
    refine R_callV (pc := 23) dX12_agrees_23 rfl putM_o rfl rfl ?_
    refine s12_ofAll hc hc2 (by omega) ?_
    refine R_aload_n (pc := 26) dX12_agrees_26 rfl ?_
    refine R_iconst (pc := 27) (x := (-1)) dX12_agrees_27 rfl ?_
    refine R_iload_n (pc := 28) dX12_agrees_28 rfl ?_
    refine R_callV (pc := 29) dX12_agrees_29 rfl putM_o rfl rfl ?_
    refine s12_inS hm hm2 hacc hlim (by omega) ?_
    refine R_icmp_ne (pc := 32) (t := 39) dX12_agrees_32 (by decide) (fun h32 => ?_) (fun h32 => ?_)
    · refine R_iconst (pc := 39) (x := nI 0) dX12_agrees_39 rfl ?_
      refine R_iand (pc := 40) dX12_agrees_40 ?_
      refine R_istore_n (pc := 41) dX12_agrees_41 (Nat.le_of_ble_eq_true rfl) rfl ?_
      refine R_iinc (pc := 42) dX12_agrees_42 rfl (by first | exact nI_inc _ | rfl) rfl ?_
      refine R_goto (pc := 45) (t := 4) dX12_agrees_45 (by decide) ?_
      have q := l12_agr hm hm2 hacc hlim hc hc2 n (k + 1) (by omega) h1 h0
      first
        | (rw [show agB (fun k => A 1 (1305 + 9 * c + 4 + k)) lim acc m (k + 1) = (agB (fun k => A 1 (1305 + 9 * c + 4 + k)) lim acc m k && true) from congrArg (fun b => agB (fun k => A 1 (1305 + 9 * c + 4 + k)) lim acc m k && b) (decide_eq_true h32), ← bI_and] at q; exact q)
        | (rw [show agB (fun k => A 1 (1305 + 9 * c + 4 + k)) lim acc m (k + 1) = (agB (fun k => A 1 (1305 + 9 * c + 4 + k)) lim acc m k && false) from congrArg (fun b => agB (fun k => A 1 (1305 + 9 * c + 4 + k)) lim acc m k && b) (decide_eq_false h32), ← bI_and] at q; exact q)
    · refine R_iconst (pc := 35) (x := nI 1) dX12_agrees_35 rfl ?_
      refine R_goto (pc := 36) (t := 40) dX12_agrees_36 (by decide) ?_
      refine R_iand (pc := 40) dX12_agrees_40 ?_
      refine R_istore_n (pc := 41) dX12_agrees_41 (Nat.le_of_ble_eq_true rfl) rfl ?_
      refine R_iinc (pc := 42) dX12_agrees_42 rfl (by first | exact nI_inc _ | rfl) rfl ?_
      refine R_goto (pc := 45) (t := 4) dX12_agrees_45 (by decide) ?_
      have q := l12_agr hm hm2 hacc hlim hc hc2 n (k + 1) (by omega) h1 h0
      first
        | (rw [show agB (fun k => A 1 (1305 + 9 * c + 4 + k)) lim acc m (k + 1) = (agB (fun k => A 1 (1305 + 9 * c + 4 + k)) lim acc m k && true) from congrArg (fun b => agB (fun k => A 1 (1305 + 9 * c + 4 + k)) lim acc m k && b) (decide_eq_true h32), ← bI_and] at q; exact q)
        | (rw [show agB (fun k => A 1 (1305 + 9 * c + 4 + k)) lim acc m (k + 1) = (agB (fun k => A 1 (1305 + 9 * c + 4 + k)) lim acc m k && false) from congrArg (fun b => agB (fun k => A 1 (1305 + 9 * c + 4 + k)) lim acc m k && b) (decide_eq_false h32), ← bI_and] at q; exact q)
theorem s12_agrees {acc : Nat → Nat → Int32} {m : Nat} {c : Nat} {lim : Int32} (hm : m ≤ 40) (hm2 : A 1 1103 = nI m) (hacc : ∀ k f, k < m → f < 5 → A 1 (1104 + 5 * k + f) = acc k f) (hlim : A 1 1061 = lim) (hc : c < 161) (hc2 : A 1 1304 = nI (c + 1)) (h1 : agB (fun k => A 1 (1305 + 9 * c + 4 + k)) lim acc m 4 = true → Q (some (.int (nI 1))) (putM h M A S, z)) (h0 : agB (fun k => A 1 (1305 + 9 * c + 4 + k)) lim acc m 4 = false → Q (some (.int (nI 0))) (putM h M A S, z)) : Rn sA mX12_agrees 0 [some (.ref M), none, none] [] (putM h M A S, z) Q := by
  refine R_iconst (pc := 0) (x := nI 1) dX12_agrees_0 rfl ?_
  refine R_istore_n (pc := 1) dX12_agrees_1 (Nat.le_of_ble_eq_true rfl) rfl ?_
  refine R_iconst (pc := 2) (x := nI 0) dX12_agrees_2 rfl ?_
  refine R_istore_n (pc := 3) dX12_agrees_3 (Nat.le_of_ble_eq_true rfl) rfl ?_
  exact l12_agr hm hm2 hacc hlim hc hc2 4 0 (by omega) h1 h0
theorem s12_agrees0  (hc2 : A 1 1304 = nI 0) (hQ : Q (some (.int (nI 1))) (putM h M A S, z)) : Rn sA mX12_agrees 0 [some (.ref M), none, none] [] (putM h M A S, z) Q := by
  refine R_iconst (pc := 0) (x := nI 1) dX12_agrees_0 rfl ?_
  refine R_istore_n (pc := 1) dX12_agrees_1 (Nat.le_of_ble_eq_true rfl) rfl ?_
  refine R_iconst (pc := 2) (x := nI 0) dX12_agrees_2 rfl ?_
  refine R_istore_n (pc := 3) dX12_agrees_3 (Nat.le_of_ble_eq_true rfl) rfl ?_
  refine R_iload_n (pc := 4) dX12_agrees_4 rfl ?_
  refine R_iconst (pc := 5) (x := nI 4) dX12_agrees_5 rfl ?_
  refine R_icmp_ge (pc := 6) (t := 48) dX12_agrees_6 (by decide) (fun hz9 => absurd hz9 (by decide)) (fun _ => ?_)
  refine R_aload_n (pc := 9) dX12_agrees_9 rfl ?_
  refine M_g (pc := 10) dX12_agrees_10 rfl rfl ?_
  refine R_sipush (pc := 13) (x := nI 1304) dX12_agrees_13 (by decide) ?_
  refine M_ald (pc := 16) dX12_agrees_16 rfl (by simp only [mol1]; omega) ?_
  refine R_if_le (pc := 17) (t := 48) dX12_agrees_17 (by decide) (fun _ => ?_) (fun hz9 => absurd (by rw [hc2]; decide) hz9)
  refine R_iload_n (pc := 48) dX12_agrees_48 rfl ?_
  refine R_if_eq (pc := 49) (t := 56) dX12_agrees_49 (by decide) (fun hz9 => absurd hz9 (by decide)) (fun _ => ?_)
  refine R_iconst (pc := 52) (x := nI 1) dX12_agrees_52 rfl ?_
  refine R_goto (pc := 53) (t := 57) dX12_agrees_53 (by decide) ?_
  refine R_iret (pc := 57) dX12_agrees_57 rfl ?_
  exact hQ
theorem l12_rank {acc : Nat → Nat → Int32} {m : Nat} {k : Nat} {lim : Int32} (hm : m ≤ 40) (hm2 : A 1 1103 = nI m) (hacc : ∀ k f, k < m → f < 5 → A 1 (1104 + 5 * k + f) = acc k f) (hlim : A 1 1061 = lim) (hk : k < m) : ∀ (n i : Nat) (_ : i + n = m) (o4 : Option Value) (_ : Q (some (.int (rkR lim acc m k m))) (putM h M A S, z)), Rn sA mX12_rank 4 [some (.ref M), some (.int (nI k)), some (.int (rkR lim acc m k i)), some (.int (nI i)), o4] [] (putM h M A S, z) Q
  | 0, i, hi, o4, hQ => by
    obtain rfl : i = m := by omega
    refine R_iload_n (pc := 4) dX12_rank_4 rfl ?_
    refine R_aload_n (pc := 5) dX12_rank_5 rfl ?_
    refine M_g (pc := 6) dX12_rank_6 rfl rfl ?_
    refine R_sipush (pc := 9) (x := nI 1103) dX12_rank_9 (by decide) ?_
    refine M_ald (pc := 12) dX12_rank_12 rfl (by simp only [mol1]; omega) ?_
    refine R_icmp_ge (pc := 13) (t := 94) dX12_rank_13 (by decide) (fun _ => ?_) (fun hz9 => absurd (by rw [hm2]; exact nI_le (by omega) (by omega)) hz9)
    refine R_iload_n (pc := 94) dX12_rank_94 rfl ?_
    refine R_iret (pc := 95) dX12_rank_95 rfl ?_
    exact hQ
  | n + 1, i, hi, o4, hQ => by
    have tail1 : ahB lim acc i k = true → Rn sA mX12_rank 67 [some (.ref M), some (.int (nI k)), some (.int (rkR lim acc m k i)), some (.int (nI i)), some (.int (nI 1))] [] (putM h M A S, z) Q := by
      intro ea
      refine R_iload_n (pc := 67) dX12_rank_67 rfl ?_
      refine R_aload_n (pc := 68) dX12_rank_68 rfl ?_
      refine R_iload_n (pc := 69) dX12_rank_69 rfl ?_
      refine R_callV (pc := 70) dX12_rank_70 rfl putM_o rfl rfl ?_
      refine s12_isLast hm hm2 hacc (k := i) (by omega) (fun el => ?_) (fun el => ?_)
      · refine R_if_eq (pc := 73) (t := 85) dX12_rank_73 (by decide) (fun hz9 => absurd hz9 (by decide)) (fun _ => ?_)
        refine R_iload (pc := 76) dX12_rank_76 rfl ?_
        refine R_if_eq (pc := 78) (t := 85) dX12_rank_78 (by decide) (fun hz9 => absurd hz9 (by decide)) (fun _ => ?_)
        refine R_iconst (pc := 81) (x := nI 1) dX12_rank_81 rfl ?_
        refine R_goto (pc := 82) (t := 86) dX12_rank_82 (by decide) ?_
        refine R_iadd (pc := 86) dX12_rank_86 ?_
        refine R_istore_n (pc := 87) dX12_rank_87 (Nat.le_of_ble_eq_true rfl) rfl ?_
        refine R_iinc (pc := 88) dX12_rank_88 rfl (by first | exact nI_inc _ | rfl) rfl ?_
        refine R_goto (pc := 91) (t := 4) dX12_rank_91 (by decide) ?_
        have q := l12_rank hm hm2 hacc hlim hk n (i + 1) (by omega) (some (.int (nI 1))) hQ
        first
          | (rw [show rkR lim acc m k (i + 1) = rkR lim acc m k i from if_neg (by show ¬ (lastB acc m i && ahB lim acc i k) = true; rw [el, Bool.false_and]; decide)] at q; first | exact q | (rw [show rkR lim acc m k i + nI 0 = rkR lim acc m k i from Int32.add_zero _]; exact q))
          | (rw [show rkR lim acc m k (i + 1) = rkR lim acc m k i from if_neg (by show ¬ (lastB acc m i && ahB lim acc i k) = true; rw [ea, Bool.and_false]; decide)] at q; first | exact q | (rw [show rkR lim acc m k i + nI 0 = rkR lim acc m k i from Int32.add_zero _]; exact q))
          | (rw [show rkR lim acc m k (i + 1) = rkR lim acc m k i + nI 1 from if_pos (by show (lastB acc m i && ahB lim acc i k) = true; rw [el, ea]; rfl)] at q; exact q)
      · refine R_if_eq (pc := 73) (t := 85) dX12_rank_73 (by decide) (fun _ => ?_) (fun hz9 => absurd hz9 (by decide))
        refine R_iconst (pc := 85) (x := nI 0) dX12_rank_85 rfl ?_
        refine R_iadd (pc := 86) dX12_rank_86 ?_
        refine R_istore_n (pc := 87) dX12_rank_87 (Nat.le_of_ble_eq_true rfl) rfl ?_
        refine R_iinc (pc := 88) dX12_rank_88 rfl (by first | exact nI_inc _ | rfl) rfl ?_
        refine R_goto (pc := 91) (t := 4) dX12_rank_91 (by decide) ?_
        have q := l12_rank hm hm2 hacc hlim hk n (i + 1) (by omega) (some (.int (nI 1))) hQ
        first
          | (rw [show rkR lim acc m k (i + 1) = rkR lim acc m k i from if_neg (by show ¬ (lastB acc m i && ahB lim acc i k) = true; rw [el, Bool.false_and]; decide)] at q; first | exact q | (rw [show rkR lim acc m k i + nI 0 = rkR lim acc m k i from Int32.add_zero _]; exact q))
          | (rw [show rkR lim acc m k (i + 1) = rkR lim acc m k i from if_neg (by show ¬ (lastB acc m i && ahB lim acc i k) = true; rw [ea, Bool.and_false]; decide)] at q; first | exact q | (rw [show rkR lim acc m k i + nI 0 = rkR lim acc m k i from Int32.add_zero _]; exact q))
          | (rw [show rkR lim acc m k (i + 1) = rkR lim acc m k i + nI 1 from if_pos (by show (lastB acc m i && ahB lim acc i k) = true; rw [el, ea]; rfl)] at q; exact q)
    have tail0 : ahB lim acc i k = false → Rn sA mX12_rank 67 [some (.ref M), some (.int (nI k)), some (.int (rkR lim acc m k i)), some (.int (nI i)), some (.int (nI 0))] [] (putM h M A S, z) Q := by
      intro ea
      refine R_iload_n (pc := 67) dX12_rank_67 rfl ?_
      refine R_aload_n (pc := 68) dX12_rank_68 rfl ?_
      refine R_iload_n (pc := 69) dX12_rank_69 rfl ?_
      refine R_callV (pc := 70) dX12_rank_70 rfl putM_o rfl rfl ?_
      refine s12_isLast hm hm2 hacc (k := i) (by omega) (fun el => ?_) (fun el => ?_)
      · refine R_if_eq (pc := 73) (t := 85) dX12_rank_73 (by decide) (fun hz9 => absurd hz9 (by decide)) (fun _ => ?_)
        refine R_iload (pc := 76) dX12_rank_76 rfl ?_
        refine R_if_eq (pc := 78) (t := 85) dX12_rank_78 (by decide) (fun _ => ?_) (fun hz9 => absurd rfl hz9)
        refine R_iconst (pc := 85) (x := nI 0) dX12_rank_85 rfl ?_
        refine R_iadd (pc := 86) dX12_rank_86 ?_
        refine R_istore_n (pc := 87) dX12_rank_87 (Nat.le_of_ble_eq_true rfl) rfl ?_
        refine R_iinc (pc := 88) dX12_rank_88 rfl (by first | exact nI_inc _ | rfl) rfl ?_
        refine R_goto (pc := 91) (t := 4) dX12_rank_91 (by decide) ?_
        have q := l12_rank hm hm2 hacc hlim hk n (i + 1) (by omega) (some (.int (nI 0))) hQ
        first
          | (rw [show rkR lim acc m k (i + 1) = rkR lim acc m k i from if_neg (by show ¬ (lastB acc m i && ahB lim acc i k) = true; rw [el, Bool.false_and]; decide)] at q; first | exact q | (rw [show rkR lim acc m k i + nI 0 = rkR lim acc m k i from Int32.add_zero _]; exact q))
          | (rw [show rkR lim acc m k (i + 1) = rkR lim acc m k i from if_neg (by show ¬ (lastB acc m i && ahB lim acc i k) = true; rw [ea, Bool.and_false]; decide)] at q; first | exact q | (rw [show rkR lim acc m k i + nI 0 = rkR lim acc m k i from Int32.add_zero _]; exact q))
          | (rw [show rkR lim acc m k (i + 1) = rkR lim acc m k i + nI 1 from if_pos (by show (lastB acc m i && ahB lim acc i k) = true; rw [el, ea]; rfl)] at q; exact q)
      · refine R_if_eq (pc := 73) (t := 85) dX12_rank_73 (by decide) (fun _ => ?_) (fun hz9 => absurd hz9 (by decide))
        refine R_iconst (pc := 85) (x := nI 0) dX12_rank_85 rfl ?_
        refine R_iadd (pc := 86) dX12_rank_86 ?_
        refine R_istore_n (pc := 87) dX12_rank_87 (Nat.le_of_ble_eq_true rfl) rfl ?_
        refine R_iinc (pc := 88) dX12_rank_88 rfl (by first | exact nI_inc _ | rfl) rfl ?_
        refine R_goto (pc := 91) (t := 4) dX12_rank_91 (by decide) ?_
        have q := l12_rank hm hm2 hacc hlim hk n (i + 1) (by omega) (some (.int (nI 0))) hQ
        first
          | (rw [show rkR lim acc m k (i + 1) = rkR lim acc m k i from if_neg (by show ¬ (lastB acc m i && ahB lim acc i k) = true; rw [el, Bool.false_and]; decide)] at q; first | exact q | (rw [show rkR lim acc m k i + nI 0 = rkR lim acc m k i from Int32.add_zero _]; exact q))
          | (rw [show rkR lim acc m k (i + 1) = rkR lim acc m k i from if_neg (by show ¬ (lastB acc m i && ahB lim acc i k) = true; rw [ea, Bool.and_false]; decide)] at q; first | exact q | (rw [show rkR lim acc m k i + nI 0 = rkR lim acc m k i from Int32.add_zero _]; exact q))
          | (rw [show rkR lim acc m k (i + 1) = rkR lim acc m k i + nI 1 from if_pos (by show (lastB acc m i && ahB lim acc i k) = true; rw [el, ea]; rfl)] at q; exact q)
    refine R_iload_n (pc := 4) dX12_rank_4 rfl ?_
    refine R_aload_n (pc := 5) dX12_rank_5 rfl ?_
    refine M_g (pc := 6) dX12_rank_6 rfl rfl ?_
    refine R_sipush (pc := 9) (x := nI 1103) dX12_rank_9 (by decide) ?_
    refine M_ald (pc := 12) dX12_rank_12 rfl (by simp only [mol1]; omega) ?_
    refine R_icmp_ge (pc := 13) (t := 94) dX12_rank_13 (by decide) (fun hz9 => absurd hz9 (by rw [hm2]; exact nI_ge (by omega) (by omega))) (fun _ => ?_)
    refine R_aload_n (pc := 16) dX12_rank_16 rfl ?_
    refine R_iload_n (pc := 17) dX12_rank_17 rfl ?_
    refine R_iconst (pc := 18) (x := nI 2) dX12_rank_18 rfl ?_
    refine R_callV (pc := 19) dX12_rank_19 rfl putM_o rfl rfl ?_
    refine s12_ofKey hm hacc hlim (l := i) (by omega) (by omega) ?_
    refine R_aload_n (pc := 22) dX12_rank_22 rfl ?_
    refine R_iload_n (pc := 23) dX12_rank_23 rfl ?_
    refine R_iconst (pc := 24) (x := nI 2) dX12_rank_24 rfl ?_
    refine R_callV (pc := 25) dX12_rank_25 rfl putM_o rfl rfl ?_
    refine s12_ofKey hm hacc hlim (l := k) (by omega) (by omega) ?_
    refine R_icmp_gt (pc := 28) (t := 60) dX12_rank_28 (by decide) (fun h28 => ?_) (fun h28 => ?_)
    · refine R_iconst (pc := 60) (x := nI 1) dX12_rank_60 rfl ?_
      refine R_goto (pc := 61) (t := 65) dX12_rank_61 (by decide) ?_
      refine R_istore (pc := 65) dX12_rank_65 (Nat.le_of_ble_eq_true rfl) rfl ?_
      first
        | exact tail1 (decide_eq_true (Or.inl h28))
        | exact tail0 (decide_eq_false (fun q => q.elim h28 (fun t => h43 t.1)))
        | exact tail0 (decide_eq_false (fun q => q.elim h28 (fun t => cmp_ge.mp h57 t.2)))
        | exact tail1 (decide_eq_true (Or.inr ⟨h43, hlt⟩))
    · refine R_aload_n (pc := 31) dX12_rank_31 rfl ?_
      refine R_iload_n (pc := 32) dX12_rank_32 rfl ?_
      refine R_iconst (pc := 33) (x := nI 2) dX12_rank_33 rfl ?_
      refine R_callV (pc := 34) dX12_rank_34 rfl putM_o rfl rfl ?_
      refine s12_ofKey hm hacc hlim (l := i) (by omega) (by omega) ?_
      refine R_aload_n (pc := 37) dX12_rank_37 rfl ?_
      refine R_iload_n (pc := 38) dX12_rank_38 rfl ?_
      refine R_iconst (pc := 39) (x := nI 2) dX12_rank_39 rfl ?_
      refine R_callV (pc := 40) dX12_rank_40 rfl putM_o rfl rfl ?_
      refine s12_ofKey hm hacc hlim (l := k) (by omega) (by omega) ?_
      refine R_icmp_ne (pc := 43) (t := 64) dX12_rank_43 (by decide) (fun h43 => ?_) (fun h43 => ?_)
      · refine R_iconst (pc := 64) (x := nI 0) dX12_rank_64 rfl ?_
        refine R_istore (pc := 65) dX12_rank_65 (Nat.le_of_ble_eq_true rfl) rfl ?_
        first
          | exact tail1 (decide_eq_true (Or.inl h28))
          | exact tail0 (decide_eq_false (fun q => q.elim h28 (fun t => h43 t.1)))
          | exact tail0 (decide_eq_false (fun q => q.elim h28 (fun t => cmp_ge.mp h57 t.2)))
          | exact tail1 (decide_eq_true (Or.inr ⟨h43, hlt⟩))
      · refine R_aload_n (pc := 46) dX12_rank_46 rfl ?_
        refine R_iload_n (pc := 47) dX12_rank_47 rfl ?_
        refine R_callV (pc := 48) dX12_rank_48 rfl putM_o rfl rfl ?_
        refine s12_keyOf hm hacc (k := i) (by omega) ?_
        refine R_aload_n (pc := 51) dX12_rank_51 rfl ?_
        refine R_iload_n (pc := 52) dX12_rank_52 rfl ?_
        refine R_callV (pc := 53) dX12_rank_53 rfl putM_o rfl rfl ?_
        refine s12_keyOf hm hacc (k := k) (by omega) ?_
        refine R_lcmp (pc := 56) dX12_rank_56 ?_
        refine R_if_ge (pc := 57) (t := 64) dX12_rank_57 (by decide) (fun h57 => ?_) (fun h57 => ?_)
        · refine R_iconst (pc := 64) (x := nI 0) dX12_rank_64 rfl ?_
          refine R_istore (pc := 65) dX12_rank_65 (Nat.le_of_ble_eq_true rfl) rfl ?_
          first
            | exact tail1 (decide_eq_true (Or.inl h28))
            | exact tail0 (decide_eq_false (fun q => q.elim h28 (fun t => h43 t.1)))
            | exact tail0 (decide_eq_false (fun q => q.elim h28 (fun t => cmp_ge.mp h57 t.2)))
            | exact tail1 (decide_eq_true (Or.inr ⟨h43, hlt⟩))
        · have hlt := Decidable.not_not.mp (fun q => h57 (cmp_ge.mpr q))
          refine R_iconst (pc := 60) (x := nI 1) dX12_rank_60 rfl ?_
          refine R_goto (pc := 61) (t := 65) dX12_rank_61 (by decide) ?_
          refine R_istore (pc := 65) dX12_rank_65 (Nat.le_of_ble_eq_true rfl) rfl ?_
          first
            | exact tail1 (decide_eq_true (Or.inl h28))
            | exact tail0 (decide_eq_false (fun q => q.elim h28 (fun t => h43 t.1)))
            | exact tail0 (decide_eq_false (fun q => q.elim h28 (fun t => cmp_ge.mp h57 t.2)))
            | exact tail1 (decide_eq_true (Or.inr ⟨h43, hlt⟩))
theorem s12_rank {acc : Nat → Nat → Int32} {m : Nat} {k : Nat} {lim : Int32} (hm : m ≤ 40) (hm2 : A 1 1103 = nI m) (hacc : ∀ k f, k < m → f < 5 → A 1 (1104 + 5 * k + f) = acc k f) (hlim : A 1 1061 = lim) (hk : k < m) (hQ : Q (some (.int (rkR lim acc m k m))) (putM h M A S, z)) : Rn sA mX12_rank 0 [some (.ref M), some (.int (nI k)), none, none, none] [] (putM h M A S, z) Q := by
  refine R_iconst (pc := 0) (x := nI 0) dX12_rank_0 rfl ?_
  refine R_istore_n (pc := 1) dX12_rank_1 (Nat.le_of_ble_eq_true rfl) rfl ?_
  refine R_iconst (pc := 2) (x := nI 0) dX12_rank_2 rfl ?_
  refine R_istore_n (pc := 3) dX12_rank_3 (Nat.le_of_ble_eq_true rfl) rfl ?_
  exact l12_rank hm hm2 hacc hlim hk m 0 (by omega) none hQ
theorem l12_rkd {acc : Nat → Nat → Int32} {m : Nat} {a lim : Int32} {what : Nat} (hm : m ≤ 40) (hm2 : A 1 1103 = nI m) (hacc : ∀ k f, k < m → f < 5 → A 1 (1104 + 5 * k + f) = acc k f) (hlim : A 1 1061 = lim) (hwh : what < 4) : ∀ (n i : Nat) (_ : i + n = m) (_ : Q (some (.int (rkL lim acc m a what n i))) (putM h M A S, z)), Rn sA mX12_ranked 18 [some (.ref M), some (.int a), some (.int (nI what)), some (.int (nI i))] [] (putM h M A S, z) Q
  | 0, i, hi, hQ => by
    obtain rfl : i = m := by omega
    refine R_iload_n (pc := 18) dX12_ranked_18 rfl ?_
    refine R_aload_n (pc := 19) dX12_ranked_19 rfl ?_
    refine M_g (pc := 20) dX12_ranked_20 rfl rfl ?_
    refine R_sipush (pc := 23) (x := nI 1103) dX12_ranked_23 (by decide) ?_
    refine M_ald (pc := 26) dX12_ranked_26 rfl (by simp only [mol1]; omega) ?_
    refine R_icmp_ge (pc := 27) (t := 74) dX12_ranked_27 (by decide) (fun _ => ?_) (fun hz9 => absurd (by rw [hm2]; exact nI_le (by omega) (by omega)) hz9)
    refine R_ldc (pc := 74) (x := (-1000009)) dX12_ranked_74 rfl ?_
    refine R_iret (pc := 76) dX12_ranked_76 rfl ?_
    exact hQ
  | n + 1, i, hi, hQ => by
    refine R_iload_n (pc := 18) dX12_ranked_18 rfl ?_
    refine R_aload_n (pc := 19) dX12_ranked_19 rfl ?_
    refine M_g (pc := 20) dX12_ranked_20 rfl rfl ?_
    refine R_sipush (pc := 23) (x := nI 1103) dX12_ranked_23 (by decide) ?_
    refine M_ald (pc := 26) dX12_ranked_26 rfl (by simp only [mol1]; omega) ?_
    refine R_icmp_ge (pc := 27) (t := 74) dX12_ranked_27 (by decide) (fun hz9 => absurd hz9 (by rw [hm2]; exact nI_ge (by omega) (by omega))) (fun _ => ?_)
    refine R_aload_n (pc := 30) dX12_ranked_30 rfl ?_
    refine R_iload_n (pc := 31) dX12_ranked_31 rfl ?_
    refine R_callV (pc := 32) dX12_ranked_32 rfl putM_o rfl rfl ?_
    refine s12_isLast hm hm2 hacc (k := i) (by omega) (fun el => ?_) (fun el => ?_)
    · refine R_if_eq (pc := 35) (t := 68) dX12_ranked_35 (by decide) (fun hz9 => absurd hz9 (by decide)) (fun _ => ?_)
      refine R_aload_n (pc := 38) dX12_ranked_38 rfl ?_
      refine R_iload_n (pc := 39) dX12_ranked_39 rfl ?_
      refine R_callV (pc := 40) dX12_ranked_40 rfl putM_o rfl rfl ?_
      refine s12_rank hm hm2 hacc hlim (by omega) ?_
      refine R_iload_n (pc := 43) dX12_ranked_43 rfl ?_
      refine R_icmp_ne (pc := 44) (t := 68) dX12_ranked_44 (by decide) (fun h44 => ?_) (fun h44 => ?_)
      · refine R_iinc (pc := 68) dX12_ranked_68 rfl (by first | exact nI_inc _ | rfl) rfl ?_
        refine R_goto (pc := 71) (t := 18) dX12_ranked_71 (by decide) ?_
        refine l12_rkd hm hm2 hacc hlim hwh n (i + 1) (by omega) ?_
        first
          | (rw [show rkL lim acc m a what (n + 1) i = rkL lim acc m a what n (i + 1) from if_neg (fun q => h44 q.2)] at hQ; exact hQ)
          | (rw [show rkL lim acc m a what (n + 1) i = rkL lim acc m a what n (i + 1) from if_neg (fun q => Bool.false_ne_true (el.symm.trans q.1))] at hQ; exact hQ)
      · refine R_iload_n (pc := 47) dX12_ranked_47 rfl ?_
        refine R_iconst (pc := 48) (x := nI 3) dX12_ranked_48 rfl ?_
        refine R_icmp_ge (pc := 49) (t := 61) dX12_ranked_49 (by decide) (fun h49 => ?_) (fun h49 => ?_)
        · have c49 : 3 ≤ what := (nI_leI (by omega) (by omega)).mp h49
          refine R_aload_n (pc := 61) dX12_ranked_61 rfl ?_
          refine R_iload_n (pc := 62) dX12_ranked_62 rfl ?_
          refine R_iconst (pc := 63) (x := nI 2) dX12_ranked_63 rfl ?_
          refine R_callV (pc := 64) dX12_ranked_64 rfl putM_o rfl rfl ?_
          refine s12_ofKey hm hacc hlim (l := i) (by omega) (by omega) ?_
          refine R_iret (pc := 67) dX12_ranked_67 rfl ?_
          rw [show rkL lim acc m a what (n + 1) i = (if what < 3 then acc i what else okR lim acc i (i + 1) 2) from if_pos ⟨el, h44⟩] at hQ
          first
            | (rw [if_pos c49] at hQ; exact hQ)
            | (rw [if_neg (by omega)] at hQ; exact hQ)
        · have c49 : what < 3 := Nat.lt_of_not_le (fun q => h49 (nI_le q (by omega)))
          refine R_aload_n (pc := 52) dX12_ranked_52 rfl ?_
          refine R_iload_n (pc := 53) dX12_ranked_53 rfl ?_
          refine R_iload_n (pc := 54) dX12_ranked_54 rfl ?_
          refine R_callV (pc := 55) dX12_ranked_55 rfl putM_o rfl rfl ?_
          refine s12_accepted (by omega) (by omega) ?_
          rw [hacc i what (by omega) (by omega)]
          refine R_goto (pc := 58) (t := 67) dX12_ranked_58 (by decide) ?_
          refine R_iret (pc := 67) dX12_ranked_67 rfl ?_
          rw [show rkL lim acc m a what (n + 1) i = (if what < 3 then acc i what else okR lim acc i (i + 1) 2) from if_pos ⟨el, h44⟩] at hQ
          first
            | (rw [if_pos c49] at hQ; exact hQ)
            | (rw [if_neg (by omega)] at hQ; exact hQ)
    · refine R_if_eq (pc := 35) (t := 68) dX12_ranked_35 (by decide) (fun _ => ?_) (fun hz9 => absurd hz9 (by decide))
      refine R_iinc (pc := 68) dX12_ranked_68 rfl (by first | exact nI_inc _ | rfl) rfl ?_
      refine R_goto (pc := 71) (t := 18) dX12_ranked_71 (by decide) ?_
      refine l12_rkd hm hm2 hacc hlim hwh n (i + 1) (by omega) ?_
      first
        | (rw [show rkL lim acc m a what (n + 1) i = rkL lim acc m a what n (i + 1) from if_neg (fun q => h44 q.2)] at hQ; exact hQ)
        | (rw [show rkL lim acc m a what (n + 1) i = rkL lim acc m a what n (i + 1) from if_neg (fun q => Bool.false_ne_true (el.symm.trans q.1))] at hQ; exact hQ)
theorem s12_ranked {acc : Nat → Nat → Int32} {m : Nat} {a b lim : Int32} (hm : m ≤ 40) (hm2 : A 1 1103 = nI m) (hacc : ∀ k f, k < m → f < 5 → A 1 (1104 + 5 * k + f) = acc k f) (hlim : A 1 1061 = lim) (hB : (a < 0 ∨ ∀ k, k < 4 → ¬ b = nI k) → Q (some (.int (-1000001))) (putM h M A S, z)) (hG : ∀ k, ¬ a < 0 → k < 4 → b = nI k → Q (some (.int (rkL lim acc m a k m 0))) (putM h M A S, z)) : Rn sA mX12_ranked 0 [some (.ref M), some (.int a), some (.int b), none] [] (putM h M A S, z) Q := by
  refine R_iload_n (pc := 0) dX12_ranked_0 rfl ?_
  refine R_if_lt (pc := 1) (t := 13) dX12_ranked_1 (by decide) (fun h1 => ?_) (fun h1 => ?_)
  · refine R_ldc (pc := 13) (x := (-1000001)) dX12_ranked_13 rfl ?_
    refine R_iret (pc := 15) dX12_ranked_15 rfl ?_
    first
      | exact hB (Or.inl h1)
      | exact hB (Or.inr (fun k hk => e k (Nat.zero_le _) (by omega)))
  · refine R_iload_n (pc := 4) dX12_ranked_4 rfl ?_
    refine R_iconst (pc := 5) (x := nI 0) dX12_ranked_5 rfl ?_
    refine R_iconst (pc := 6) (x := nI 3) dX12_ranked_6 rfl ?_
    refine R_callS (pc := 7) dX12_ranked_7 rfl (Or.inl rfl) rfl rfl ?_
    refine s12_inG (a := 0) (b := 3) rfl (by decide) (by omega) (by omega) (fun k k0 hk e => ?_) (fun e => ?_)
    · subst e
      refine R_if_ne (pc := 10) (t := 16) dX12_ranked_10 (by decide) (fun _ => ?_) (fun hz9 => absurd hz9 (by decide))
      refine R_iconst (pc := 16) (x := nI 0) dX12_ranked_16 rfl ?_
      refine R_istore_n (pc := 17) dX12_ranked_17 (Nat.le_of_ble_eq_true rfl) rfl ?_
      exact l12_rkd hm hm2 hacc hlim (by omega) m 0 (by omega) (hG k h1 (by omega) rfl)
    · refine R_if_ne (pc := 10) (t := 16) dX12_ranked_10 (by decide) (fun hz9 => absurd hz9 (by decide)) (fun _ => ?_)
      refine R_ldc (pc := 13) (x := (-1000001)) dX12_ranked_13 rfl ?_
      refine R_iret (pc := 15) dX12_ranked_15 rfl ?_
      first
        | exact hB (Or.inl h1)
        | exact hB (Or.inr (fun k hk => e k (Nat.zero_le _) (by omega)))
/-- ten times the wages by the hours, as a float -/
def meanV (wg hr : Int32) : UInt32 := FP.fdiv (FP.l2f (10 * wg.toInt64)) (FP.i2f hr)
theorem s12_mean {c : Nat} (hc : c < 161) (hc2 : A 1 1304 = nI (c + 1)) (hn : ¬ A 1 (1305 + 9 * c + 4 + 1) = 0 → vf_n32 (meanV (A 1 (1305 + 9 * c + 4 + 2)) (A 1 (1305 + 9 * c + 4 + 1)))) (hQ : Q (some (.float (if A 1 (1305 + 9 * c + 4 + 1) = 0 then FP.fconst0 else meanV (A 1 (1305 + 9 * c + 4 + 2)) (A 1 (1305 + 9 * c + 4 + 1))))) (putM h M A S, z)) : Rn sA mX12_mean 0 [some (.ref M)] [] (putM h M A S, z) Q := by
  refine R_aload_n (pc := 0) dX12_mean_0 rfl ?_
  refine M_g (pc := 1) dX12_mean_1 rfl rfl ?_
  refine R_sipush (pc := 4) (x := nI 1304) dX12_mean_4 (by decide) ?_
  refine M_ald (pc := 7) dX12_mean_7 rfl (by simp only [mol1]; omega) ?_
  refine R_if_eq (pc := 8) (t := 19) dX12_mean_8 (by decide) (fun hz9 => absurd hz9 (by rw [hc2]; exact nI_ne0 (by omega) (by omega))) (fun _ => ?_)
  refine R_aload_n (pc := 11) dX12_mean_11 rfl ?_
  refine R_iconst (pc := 12) (x := nI 1) dX12_mean_12 rfl ?_
  refine R_callV (pc := 13) dX12_mean_13 rfl putM_o rfl rfl ?_
  refine s12_ofAll hc hc2 (by omega) ?_
  refine R_if_ne (pc := 16) (t := 23) dX12_mean_16 (by decide) (fun h16 => ?_) (fun h16 => ?_)
  · refine R_ldc2 (pc := 23) (x := (10)) dX12_mean_23 rfl ?_
    refine R_aload_n (pc := 26) dX12_mean_26 rfl ?_
    refine R_iconst (pc := 27) (x := nI 2) dX12_mean_27 rfl ?_
    refine R_callV (pc := 28) dX12_mean_28 rfl putM_o rfl rfl ?_
    refine s12_ofAll hc hc2 (by omega) ?_
    refine R_i2l (pc := 31) dX12_mean_31 ?_
    refine R_lmul (pc := 32) dX12_mean_32 ?_
    refine R_l2f (pc := 33) dX12_mean_33 ?_
    refine R_aload_n (pc := 34) dX12_mean_34 rfl ?_
    refine R_iconst (pc := 35) (x := nI 1) dX12_mean_35 rfl ?_
    refine R_callV (pc := 36) dX12_mean_36 rfl putM_o rfl rfl ?_
    refine s12_ofAll hc hc2 (by omega) ?_
    refine R_i2f (pc := 39) dX12_mean_39 ?_
    refine R_fdiv (pc := 40) dX12_mean_40 (hn h16) ?_
    refine R_fret (pc := 41) dX12_mean_41 rfl ?_
    first
      | (rw [if_neg h16] at hQ; exact hQ)
      | (rw [if_pos h16] at hQ; exact hQ)
  · refine R_fconst0 (pc := 19) dX12_mean_19 ?_
    refine R_goto (pc := 20) (t := 41) dX12_mean_20 (by decide) ?_
    refine R_fret (pc := 41) dX12_mean_41 rfl ?_
    first
      | (rw [if_neg h16] at hQ; exact hQ)
      | (rw [if_pos h16] at hQ; exact hQ)
theorem s12_mean0  (hc2 : A 1 1304 = nI 0) (hQ : Q (some (.float FP.fconst0)) (putM h M A S, z)) : Rn sA mX12_mean 0 [some (.ref M)] [] (putM h M A S, z) Q := by
  refine R_aload_n (pc := 0) dX12_mean_0 rfl ?_
  refine M_g (pc := 1) dX12_mean_1 rfl rfl ?_
  refine R_sipush (pc := 4) (x := nI 1304) dX12_mean_4 (by decide) ?_
  refine M_ald (pc := 7) dX12_mean_7 rfl (by simp only [mol1]; omega) ?_
  refine R_if_eq (pc := 8) (t := 19) dX12_mean_8 (by decide) (fun _ => ?_) (fun hz9 => absurd hc2 hz9)
  refine R_fconst0 (pc := 19) dX12_mean_19 ?_
  refine R_goto (pc := 20) (t := 41) dX12_mean_20 (by decide) ?_
  refine R_fret (pc := 41) dX12_mean_41 rfl ?_
  exact hQ
end MOD17
