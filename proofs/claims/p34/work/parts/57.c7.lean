section CC7
variable {sA : Nat} {h : Nat → Option am_C} {z : Nat × Nat} {Q : Option Value → am_H → Prop}
def wdI (f : Nat) : Int32 := if f = 5 then (-1) else nI f
/-- a text at t: its bytes, how many; the fault; what was read -/
def TxI (h : Nat → Option am_C) (t : Nat) (T : Nat → Int32) (l : Nat) (fk fp : Int32) (s : TS) : Prop := ∃ g2 g3 : Nat → Int32, h t = some (.inr (9, [.ref (t + 1), .ref (t + 2), .ref (t + 3), .int (nI l), .int (wdI s.1), .int fk, .int fp])) ∧ h (t + 1) = some (.inl (0, 50, .inl T)) ∧ h (t + 2) = some (.inl (0, 5, .inl g2)) ∧ h (t + 3) = some (.inl (0, 5, .inl g3)) ∧ (∀ f, f < 5 → g2 f = nI (s.2.1 f)) ∧ ∀ f, f < 5 → (0 < s.2.1 f ∨ s.1 = f) → g3 f = nI (s.2.2.2 f)
def TxW (h : Nat → Option am_C) (t : Nat) (T : Nat → Int32) (l : Nat) (fk fp : Int32) : Prop := ∃ (g2 g3 : Nat → Int32) (wv : Int32), h t = some (.inr (9, [.ref (t + 1), .ref (t + 2), .ref (t + 3), .int (nI l), .int wv, .int fk, .int fp])) ∧ h (t + 1) = some (.inl (0, 50, .inl T)) ∧ h (t + 2) = some (.inl (0, 5, .inl g2)) ∧ h (t + 3) = some (.inl (0, 5, .inl g3))
theorem TxI.w {h : Nat → Option am_C} {t : Nat} {T : Nat → Int32} {l : Nat} {fk fp : Int32} {s : TS} (a : TxI h t T l fk fp s) : TxW h t T l fk fp := by
  obtain ⟨g2, g3, a1, a2, a3, a4, -, -⟩ := a
  exact ⟨g2, g3, _, a1, a2, a3, a4⟩
theorem TxI.fr {h h' : Nat → Option am_C} {t : Nat} {T : Nat → Int32} {l : Nat} {fk fp : Int32} {s : TS} (a : TxI h t T l fk fp s) (e : ∀ x, t ≤ x → x < t + 4 → h' x = h x) : TxI h' t T l fk fp s := by
  obtain ⟨g2, g3, a1, a2, a3, a4, a5, a6⟩ := a
  exact ⟨g2, g3, (e _ (by omega) (by omega)).trans a1, (e _ (by omega) (by omega)).trans a2, (e _ (by omega) (by omega)).trans a3, (e _ (by omega) (by omega)).trans a4, a5, a6⟩
theorem TxW.fr {h h' : Nat → Option am_C} {t : Nat} {T : Nat → Int32} {l : Nat} {fk fp : Int32} (a : TxW h t T l fk fp) (e : ∀ x, t ≤ x → x < t + 4 → h' x = h x) : TxW h' t T l fk fp := by
  obtain ⟨g2, g3, wv, a1, a2, a3, a4⟩ := a
  exact ⟨g2, g3, wv, (e _ (by omega) (by omega)).trans a1, (e _ (by omega) (by omega)).trans a2, (e _ (by omega) (by omega)).trans a3, (e _ (by omega) (by omega)).trans a4⟩
theorem nI_val {j : Nat} (h : j < 1000) : (nI j).toInt = (j : Int) := nI_toInt (by omega)
theorem ne_val {x : Int32} {j : Nat} (h : ¬ x = nI j) (hj : j < 1000) : ¬ (j : Int) = x.toInt := fun e => h (Int32.toInt_inj.mp (by rw [← e, nI_val hj]))
theorem c9_fieldOf {x : Int32} (hQ : Q (some (.int (wdI (ltr x)))) (h, z)) : Rn sA mX9_fieldOf 0 [some (.int x)] [] (h, z) Q := by
  refine R_iload_n (pc := 0) dX9_fieldOf_0 rfl ?_
  unfold ltr at hQ
  by_cases e100 : x = nI 100
  · rw [if_pos e100] at hQ
    subst e100
    refine R_lsw (pc := 1) (off := 51) (t := 52) dX9_fieldOf_1 (by decide) (by decide) (by decide) ?_
    refine R_iconst (pc := 52) (x := nI 0) dX9_fieldOf_52 rfl ?_
    exact R_iret (pc := 53) dX9_fieldOf_53 rfl hQ
  · skip
    by_cases e103 : x = nI 103
    · rw [if_neg e100, if_pos e103] at hQ
      subst e103
      refine R_lsw (pc := 1) (off := 53) (t := 54) dX9_fieldOf_1 (by decide) (by decide) (by decide) ?_
      refine R_iconst (pc := 54) (x := nI 1) dX9_fieldOf_54 rfl ?_
      exact R_iret (pc := 55) dX9_fieldOf_55 rfl hQ
    · skip
      by_cases e119 : x = nI 119
      · rw [if_neg e100, if_neg e103, if_pos e119] at hQ
        subst e119
        refine R_lsw (pc := 1) (off := 55) (t := 56) dX9_fieldOf_1 (by decide) (by decide) (by decide) ?_
        refine R_iconst (pc := 56) (x := nI 2) dX9_fieldOf_56 rfl ?_
        exact R_iret (pc := 57) dX9_fieldOf_57 rfl hQ
      · skip
        by_cases e104 : x = nI 104
        · rw [if_neg e100, if_neg e103, if_neg e119, if_pos e104] at hQ
          subst e104
          refine R_lsw (pc := 1) (off := 57) (t := 58) dX9_fieldOf_1 (by decide) (by decide) (by decide) ?_
          refine R_iconst (pc := 58) (x := nI 3) dX9_fieldOf_58 rfl ?_
          exact R_iret (pc := 59) dX9_fieldOf_59 rfl hQ
        · skip
          by_cases e114 : x = nI 114
          · rw [if_neg e100, if_neg e103, if_neg e119, if_neg e104, if_pos e114] at hQ
            subst e114
            refine R_lsw (pc := 1) (off := 59) (t := 60) dX9_fieldOf_1 (by decide) (by decide) (by decide) ?_
            refine R_iconst (pc := 60) (x := nI 4) dX9_fieldOf_60 rfl ?_
            exact R_iret (pc := 61) dX9_fieldOf_61 rfl hQ
          · skip
            rw [if_neg e100, if_neg e103, if_neg e119, if_neg e104, if_neg e114] at hQ
            refine R_lsw (pc := 1) (off := 61) (t := 62) dX9_fieldOf_1 (by decide) ?_ (by decide) ?_
            · show Op.lookupswitch.offset [(100, 51), (103, 53), (104, 57), (114, 59), (119, 55)] 61 x.toInt = 61
              simp only [Op.lookupswitch.offset_cons, Op.lookupswitch.offset_nil]
              rw [if_neg (show ¬ (100 : Int) = x.toInt from ne_val (j := 100) e100 (by decide)), if_neg (show ¬ (103 : Int) = x.toInt from ne_val (j := 103) e103 (by decide)), if_neg (show ¬ (104 : Int) = x.toInt from ne_val (j := 104) e104 (by decide)), if_neg (show ¬ (114 : Int) = x.toInt from ne_val (j := 114) e114 (by decide)), if_neg (show ¬ (119 : Int) = x.toInt from ne_val (j := 119) e119 (by decide))]
            · refine R_iconst (pc := 62) (x := (-1)) dX9_fieldOf_62 rfl ?_
              exact R_iret (pc := 63) dX9_fieldOf_63 rfl hQ
theorem c9_isTextField {v : Int32} (hY : ∀ j, j < 5 → v = nI j → Q (some (.int (nI 1))) (h, z)) (hN : (∀ j, j < 5 → ¬ v = nI j) → Q (some (.int (nI 0))) (h, z)) : Rn sA mX9_isTextField 0 [some (.int v)] [] (h, z) Q := by
  refine R_iload_n (pc := 0) dX9_isTextField_0 rfl ?_
  refine R_if_lt (pc := 1) (t := 13) dX9_isTextField_1 (by decide) (fun h1 => ?_) (fun h1 => ?_)
  · refine R_iconst (pc := 13) (x := nI 0) dX9_isTextField_13 rfl ?_
    refine R_zret (pc := 14) dX9_isTextField_14 rfl (by decide) ?_
    first
      | exact hN (fun j hj => rg_lt h1 j hj (by omega))
      | exact hN (fun j hj => rg_ge h6 j hj (by omega))
      | (obtain ⟨j, hj, e⟩ := rg_in h1 h6 (by omega); exact hY j hj e)
  · refine R_iload_n (pc := 4) dX9_isTextField_4 rfl ?_
    refine R_iconst (pc := 5) (x := nI 5) dX9_isTextField_5 rfl ?_
    refine R_icmp_ge (pc := 6) (t := 13) dX9_isTextField_6 (by decide) (fun h6 => ?_) (fun h6 => ?_)
    · refine R_iconst (pc := 13) (x := nI 0) dX9_isTextField_13 rfl ?_
      refine R_zret (pc := 14) dX9_isTextField_14 rfl (by decide) ?_
      first
        | exact hN (fun j hj => rg_lt h1 j hj (by omega))
        | exact hN (fun j hj => rg_ge h6 j hj (by omega))
        | (obtain ⟨j, hj, e⟩ := rg_in h1 h6 (by omega); exact hY j hj e)
    · refine R_iconst (pc := 9) (x := nI 1) dX9_isTextField_9 rfl ?_
      refine R_goto (pc := 10) (t := 14) dX9_isTextField_10 (by decide) ?_
      refine R_zret (pc := 14) dX9_isTextField_14 rfl (by decide) ?_
      first
        | exact hN (fun j hj => rg_lt h1 j hj (by omega))
        | exact hN (fun j hj => rg_ge h6 j hj (by omega))
        | (obtain ⟨j, hj, e⟩ := rg_in h1 h6 (by omega); exact hY j hj e)
theorem c9_at {t l : Nat} {T : Nat → Int32} {fk fp : Int32} {s : TS} {k : Nat} (ht : TxI h t T l fk fp s) (hk : k < l) (hl : l ≤ 50) (hQ : Q (some (.int (T k))) (h, z)) : Rn sA mX9_at 0 [some (.ref t), some (.int (nI k))] [] (h, z) Q := by
  have ht9 := ht
  obtain ⟨g2, g3, ht1, ht2, ht3, ht4, ht5, ht6⟩ := ht9
  refine R_iload_n (pc := 0) dX9_at_0 rfl ?_
  refine R_if_lt (pc := 1) (t := 21) dX9_at_1 (by decide) (fun hz9 => absurd hz9 (nI_pos (by omega))) (fun _ => ?_)
  refine R_iload_n (pc := 4) dX9_at_4 rfl ?_
  refine R_aload_n (pc := 5) dX9_at_5 rfl ?_
  refine R_getf (pc := 6) dX9_at_6 rfl (by repeat (first | assumption | exact up_s | refine up_n (by omega) ?_)) rfl ?_
  refine R_icmp_ge (pc := 9) (t := 21) dX9_at_9 (by decide) (fun hz9 => absurd hz9 (nI_ge (by omega) (by omega))) (fun _ => ?_)
  refine R_aload_n (pc := 12) dX9_at_12 rfl ?_
  refine R_getf (pc := 13) dX9_at_13 rfl (by repeat (first | assumption | exact up_s | refine up_n (by omega) ?_)) rfl ?_
  refine R_iload_n (pc := 16) dX9_at_16 rfl ?_
  refine R_iald (pc := 17) dX9_at_17 (by repeat (first | assumption | exact up_s | refine up_n (by omega) ?_)) (Or.inl rfl) (by first | with_reducible rfl | (simp only [nI_add, pk_mul]; exact rfl)) (by omega) (by decide) ?_
  refine R_goto (pc := 18) (t := 23) dX9_at_18 (by decide) ?_
  refine R_iret (pc := 23) dX9_at_23 rfl ?_
  exact hQ
theorem c9_digitsOf {t l : Nat} {T : Nat → Int32} {fk fp : Int32} {s : TS} {f : Nat} (ht : TxI h t T l fk fp s) (hf : f < 5) (hQ : Q (some (.int (nI (s.2.1 f)))) (h, z)) : Rn sA mX9_digitsOf 0 [some (.ref t), some (.int (nI f))] [] (h, z) Q := by
  have ht9 := ht
  obtain ⟨g2, g3, ht1, ht2, ht3, ht4, ht5, ht6⟩ := ht9
  refine R_iload_n (pc := 0) dX9_digitsOf_0 rfl ?_
  refine R_callS (pc := 1) dX9_digitsOf_1 rfl (Or.inl rfl) rfl rfl ?_
  refine c9_isTextField (fun j hj e => ?_) (fun e => absurd rfl (e f hf))
  · obtain rfl := (nI_eq (by omega) (by omega)).mp e
    refine R_if_eq (pc := 4) (t := 16) dX9_digitsOf_4 (by decide) (fun hz9 => absurd hz9 (by decide)) (fun _ => ?_)
    refine R_aload_n (pc := 7) dX9_digitsOf_7 rfl ?_
    refine R_getf (pc := 8) dX9_digitsOf_8 rfl (by repeat (first | assumption | exact up_s | refine up_n (by omega) ?_)) rfl ?_
    refine R_iload_n (pc := 11) dX9_digitsOf_11 rfl ?_
    refine R_iald (pc := 12) dX9_digitsOf_12 (by repeat (first | assumption | exact up_s | refine up_n (by omega) ?_)) (Or.inl rfl) (by first | with_reducible rfl | (simp only [nI_add, pk_mul]; exact rfl)) (by omega) (by decide) ?_
    refine R_goto (pc := 13) (t := 17) dX9_digitsOf_13 (by decide) ?_
    refine R_iret (pc := 17) dX9_digitsOf_17 rfl ?_
    rw [ht5 f hf]
    exact hQ
theorem c9_between {t l : Nat} {T : Nat → Int32} {fk fp : Int32} {s : TS} {k : Nat} {Wd : Nat → Nat} (ht : TxI h t T l fk fp s) (hT : TsOK Wd s) (hV : LayV Wd) (h5 : s.1 = 5) (hk : k < l) (hl : l ≤ 50) (hE : ¬ (scS Wd (T k) k s).1 = 0 → Q (some (.int (nI (scS Wd (T k) k s).1))) (h, z)) (hG : (scS Wd (T k) k s).1 = 0 → ∀ h2 : Nat → Option am_C, TxI h2 t T l fk fp (scS Wd (T k) k s).2 → (∀ a, (a < t ∨ t + 4 ≤ a) → h2 a = h a) → Q (some (.int (nI 0))) (h2, z)) : Rn sA mX9_readBetweenWords 0 [some (.ref t), some (.int (nI k)), none, none] [] (h, z) Q := by
  have ht9 := ht
  obtain ⟨g2, g3, ht1, ht2, ht3, ht4, ht5, ht6⟩ := ht9
  by_cases x32 : T k = nI 32
  · have eS : scS Wd (T k) k s = (0, s) := by unfold scS; rw [if_pos h5, if_pos x32]
    refine R_aload_n (pc := 0) dX9_readBetweenWords_0 rfl ?_
    refine R_iload_n (pc := 1) dX9_readBetweenWords_1 rfl ?_
    refine R_callV (pc := 2) dX9_readBetweenWords_2 rfl (by repeat (first | assumption | exact up_s | refine up_n (by omega) ?_)) rfl rfl ?_
    refine c9_at ht hk hl ?_
    refine R_istore_n (pc := 5) dX9_readBetweenWords_5 (Nat.le_of_ble_eq_true rfl) rfl ?_
    refine R_iload_n (pc := 6) dX9_readBetweenWords_6 rfl ?_
    refine R_bipush (pc := 7) (x := nI 32) dX9_readBetweenWords_7 (by decide) ?_
    refine R_icmp_ne (pc := 9) (t := 14) dX9_readBetweenWords_9 (by decide) (fun hz9 => absurd x32 hz9) (fun _ => ?_)
    refine R_iconst (pc := 12) (x := nI 0) dX9_readBetweenWords_12 rfl ?_
    refine R_iret (pc := 13) dX9_readBetweenWords_13 rfl ?_
    rw [eS] at hG
    exact hG rfl h ht (fun _ _ => rfl)
  · by_cases hlt : ltr (T k) = 5
    · have eS : scS Wd (T k) k s = (1, s) := by unfold scS; rw [if_pos h5, if_neg x32, if_pos hlt]
      rw [eS] at hE
      refine R_aload_n (pc := 0) dX9_readBetweenWords_0 rfl ?_
      refine R_iload_n (pc := 1) dX9_readBetweenWords_1 rfl ?_
      refine R_callV (pc := 2) dX9_readBetweenWords_2 rfl (by repeat (first | assumption | exact up_s | refine up_n (by omega) ?_)) rfl rfl ?_
      refine c9_at ht hk hl ?_
      refine R_istore_n (pc := 5) dX9_readBetweenWords_5 (Nat.le_of_ble_eq_true rfl) rfl ?_
      refine R_iload_n (pc := 6) dX9_readBetweenWords_6 rfl ?_
      refine R_bipush (pc := 7) (x := nI 32) dX9_readBetweenWords_7 (by decide) ?_
      refine R_icmp_ne (pc := 9) (t := 14) dX9_readBetweenWords_9 (by decide) (fun _ => ?_) (fun hz9 => absurd hz9 x32)
      refine R_iload_n (pc := 14) dX9_readBetweenWords_14 rfl ?_
      refine R_callS (pc := 15) dX9_readBetweenWords_15 rfl (Or.inl rfl) rfl rfl ?_
      refine c9_fieldOf ?_
      rw [hlt, show wdI 5 = (-1) from rfl]
      refine R_istore_n (pc := 18) dX9_readBetweenWords_18 (Nat.le_of_ble_eq_true rfl) rfl ?_
      refine R_iload_n (pc := 19) dX9_readBetweenWords_19 rfl ?_
      refine R_iconst (pc := 20) (x := (-1)) dX9_readBetweenWords_20 rfl ?_
      refine R_icmp_ne (pc := 21) (t := 26) dX9_readBetweenWords_21 (by decide) (fun hz9 => absurd rfl hz9) (fun _ => ?_)
      refine R_iconst (pc := 24) (x := nI 1) dX9_readBetweenWords_24 rfl ?_
      refine R_iret (pc := 25) dX9_readBetweenWords_25 rfl ?_
      exact hE (show ¬ 1 = 0 by decide)
    · obtain ⟨f, hf, ef⟩ : ∃ f, f < 5 ∧ ltr (T k) = f := ⟨ltr (T k), by have := ltr_le (T k); omega, rfl⟩
      have n5 : ¬ nI f = (-1) := (by decide : ∀ j, j < 5 → ¬ nI j = (-1)) f hf
      have d4 := (hT.2 f hf).1
      have d5 := (hV f (by omega)).2
      by_cases hd : 0 < s.2.1 f
      · have eS : scS Wd (T k) k s = (2, s) := by unfold scS; rw [if_pos h5, if_neg x32, if_neg hlt, ef, if_pos hd]
        refine R_aload_n (pc := 0) dX9_readBetweenWords_0 rfl ?_
        refine R_iload_n (pc := 1) dX9_readBetweenWords_1 rfl ?_
        refine R_callV (pc := 2) dX9_readBetweenWords_2 rfl (by repeat (first | assumption | exact up_s | refine up_n (by omega) ?_)) rfl rfl ?_
        refine c9_at ht hk hl ?_
        refine R_istore_n (pc := 5) dX9_readBetweenWords_5 (Nat.le_of_ble_eq_true rfl) rfl ?_
        refine R_iload_n (pc := 6) dX9_readBetweenWords_6 rfl ?_
        refine R_bipush (pc := 7) (x := nI 32) dX9_readBetweenWords_7 (by decide) ?_
        refine R_icmp_ne (pc := 9) (t := 14) dX9_readBetweenWords_9 (by decide) (fun _ => ?_) (fun hz9 => absurd hz9 x32)
        refine R_iload_n (pc := 14) dX9_readBetweenWords_14 rfl ?_
        refine R_callS (pc := 15) dX9_readBetweenWords_15 rfl (Or.inl rfl) rfl rfl ?_
        refine c9_fieldOf ?_
        rw [ef, show wdI f = nI f from if_neg (by omega)]
        refine R_istore_n (pc := 18) dX9_readBetweenWords_18 (Nat.le_of_ble_eq_true rfl) rfl ?_
        refine R_iload_n (pc := 19) dX9_readBetweenWords_19 rfl ?_
        refine R_iconst (pc := 20) (x := (-1)) dX9_readBetweenWords_20 rfl ?_
        refine R_icmp_ne (pc := 21) (t := 26) dX9_readBetweenWords_21 (by decide) (fun _ => ?_) (fun hz9 => absurd hz9 n5)
        refine R_aload_n (pc := 26) dX9_readBetweenWords_26 rfl ?_
        refine R_iload_n (pc := 27) dX9_readBetweenWords_27 rfl ?_
        refine R_callV (pc := 28) dX9_readBetweenWords_28 rfl (by repeat (first | assumption | exact up_s | refine up_n (by omega) ?_)) rfl rfl ?_
        refine c9_digitsOf ht hf ?_
        refine R_if_le (pc := 31) (t := 36) dX9_readBetweenWords_31 (by decide) (fun hz9 => absurd hz9 (nI_nle hd (by omega))) (fun _ => ?_)
        refine R_iconst (pc := 34) (x := nI 2) dX9_readBetweenWords_34 rfl ?_
        refine R_iret (pc := 35) dX9_readBetweenWords_35 rfl ?_
        rw [eS] at hE
        exact hE (show ¬ 2 = 0 by decide)
      · have eS : scS Wd (T k) k s = (0, (f, s.2.1, updN s.2.2.1 f 0, updN s.2.2.2 f (k + 1))) := by unfold scS; rw [if_pos h5, if_neg x32, if_neg hlt, ef, if_neg hd]
        refine R_aload_n (pc := 0) dX9_readBetweenWords_0 rfl ?_
        refine R_iload_n (pc := 1) dX9_readBetweenWords_1 rfl ?_
        refine R_callV (pc := 2) dX9_readBetweenWords_2 rfl (by repeat (first | assumption | exact up_s | refine up_n (by omega) ?_)) rfl rfl ?_
        refine c9_at ht hk hl ?_
        refine R_istore_n (pc := 5) dX9_readBetweenWords_5 (Nat.le_of_ble_eq_true rfl) rfl ?_
        refine R_iload_n (pc := 6) dX9_readBetweenWords_6 rfl ?_
        refine R_bipush (pc := 7) (x := nI 32) dX9_readBetweenWords_7 (by decide) ?_
        refine R_icmp_ne (pc := 9) (t := 14) dX9_readBetweenWords_9 (by decide) (fun _ => ?_) (fun hz9 => absurd hz9 x32)
        refine R_iload_n (pc := 14) dX9_readBetweenWords_14 rfl ?_
        refine R_callS (pc := 15) dX9_readBetweenWords_15 rfl (Or.inl rfl) rfl rfl ?_
        refine c9_fieldOf ?_
        rw [ef, show wdI f = nI f from if_neg (by omega)]
        refine R_istore_n (pc := 18) dX9_readBetweenWords_18 (Nat.le_of_ble_eq_true rfl) rfl ?_
        refine R_iload_n (pc := 19) dX9_readBetweenWords_19 rfl ?_
        refine R_iconst (pc := 20) (x := (-1)) dX9_readBetweenWords_20 rfl ?_
        refine R_icmp_ne (pc := 21) (t := 26) dX9_readBetweenWords_21 (by decide) (fun _ => ?_) (fun hz9 => absurd hz9 n5)
        refine R_aload_n (pc := 26) dX9_readBetweenWords_26 rfl ?_
        refine R_iload_n (pc := 27) dX9_readBetweenWords_27 rfl ?_
        refine R_callV (pc := 28) dX9_readBetweenWords_28 rfl (by repeat (first | assumption | exact up_s | refine up_n (by omega) ?_)) rfl rfl ?_
        refine c9_digitsOf ht hf ?_
        rw [show s.2.1 f = 0 by omega]
        refine R_if_le (pc := 31) (t := 36) dX9_readBetweenWords_31 (by decide) (fun _ => ?_) (fun hz9 => absurd (by decide) hz9)
        refine R_aload_n (pc := 36) dX9_readBetweenWords_36 rfl ?_
        refine R_iload_n (pc := 37) dX9_readBetweenWords_37 rfl ?_
        refine R_putf (pc := 38) dX9_readBetweenWords_38 rfl (by repeat (first | assumption | exact up_s | refine up_n (by omega) ?_)) rfl (Or.inl rfl) rfl ?_
        refine R_iload_n (pc := 41) dX9_readBetweenWords_41 rfl ?_
        refine R_callS (pc := 42) dX9_readBetweenWords_42 rfl (Or.inl rfl) rfl rfl ?_
        refine c9_isTextField (fun j hj e => ?_) (fun e => absurd rfl (e f hf))
        · obtain rfl := (nI_eq (by omega) (by omega)).mp e
          refine R_if_eq (pc := 45) (t := 57) dX9_readBetweenWords_45 (by decide) (fun hz9 => absurd hz9 (by decide)) (fun _ => ?_)
          refine R_aload_n (pc := 48) dX9_readBetweenWords_48 rfl ?_
          refine R_getf (pc := 49) dX9_readBetweenWords_49 rfl (by repeat (first | assumption | exact up_s | refine up_n (by omega) ?_)) rfl ?_
          refine R_iload_n (pc := 52) dX9_readBetweenWords_52 rfl ?_
          refine R_iload_n (pc := 53) dX9_readBetweenWords_53 rfl ?_
          refine R_iconst (pc := 54) (x := nI 1) dX9_readBetweenWords_54 rfl ?_
          refine R_iadd (pc := 55) dX9_readBetweenWords_55 ?_
          refine R_iast (pc := 56) dX9_readBetweenWords_56 (by repeat (first | assumption | exact up_s | refine up_n (by omega) ?_)) (by first | with_reducible rfl | (simp only [nI_add, pk_mul]; exact rfl)) (by omega) (by decide) ?_
          refine R_iconst (pc := 57) (x := nI 0) dX9_readBetweenWords_57 rfl ?_
          refine R_iret (pc := 58) dX9_readBetweenWords_58 rfl ?_
          rw [eS] at hG
          refine hG rfl _ ⟨g2, upd g3 f (nI k + nI 1), ?_, up_n (by omega) (up_n (by omega) ht2), up_n (by omega) (up_n (by omega) ht3), up_s, ht5, fun j hj hj2 => ?_⟩ (fun a ha => by rw [up_n (by omega) rfl, up_n (by omega) rfl])
          · rw [up_n (by omega) up_s]
            show _ = some (Sum.inr (9, [_, _, _, _, Value.int (wdI f), _, _]))
            rw [show wdI f = nI f from if_neg (by omega)]
            rfl
          · show upd g3 f _ j = nI (updN s.2.2.2 f (k + 1) j)
            unfold updN
            by_cases e : j = f
            · subst e; rw [upd_s, if_pos rfl, nI_add]
            · rw [upd_n e, if_neg e]
              refine ht6 j hj (Or.inl ?_)
              rcases hj2 with q | q
              · exact q
              · exact absurd q (fun q2 => e q2.symm)
theorem c9_countDigit {t l : Nat} {T : Nat → Int32} {fk fp : Int32} {s : TS} {w f : Nat} (ht : TxI h t T l fk fp s) (hf : f < 5) (ef : s.1 = f) (hw : w ≤ 4) (hd : s.2.1 f ≤ 4) (hE : w ≤ s.2.1 f → Q (some (.int (nI 3))) (h, z)) (hG : s.2.1 f < w → ∀ (h2 : Nat → Option am_C) (vl : Nat → Nat), TxI h2 t T l fk fp (f, updN s.2.1 f (s.2.1 f + 1), vl, s.2.2.2) → (∀ a, (a < t ∨ t + 4 ≤ a) → h2 a = h a) → Q (some (.int (nI 0))) (h2, z)) : Rn sA mX9_countDigit 0 [some (.ref t), some (.int (nI w))] [] (h, z) Q := by
  have ht9 := ht
  obtain ⟨g2, g3, ht1, ht2, ht3, ht4, ht5, ht6⟩ := ht9
  rw [ef, show wdI f = nI f from if_neg (by omega)] at ht1
  refine R_aload_n (pc := 0) dX9_countDigit_0 rfl ?_
  refine R_aload_n (pc := 1) dX9_countDigit_1 rfl ?_
  refine R_getf (pc := 2) dX9_countDigit_2 rfl (by repeat (first | assumption | exact up_s | refine up_n (by omega) ?_)) rfl ?_
  refine R_callV (pc := 5) dX9_countDigit_5 rfl (by repeat (first | assumption | exact up_s | refine up_n (by omega) ?_)) rfl rfl ?_
  refine c9_digitsOf ht hf ?_
  refine R_iload_n (pc := 8) dX9_countDigit_8 rfl ?_
  refine R_icmp_lt (pc := 9) (t := 14) dX9_countDigit_9 (by decide) (fun h9 => ?_) (fun h9 => ?_)
  · have c9 : s.2.1 f < w := (nI_ltI (by omega) (by omega)).mp h9
    refine R_aload_n (pc := 14) dX9_countDigit_14 rfl ?_
    refine R_getf (pc := 15) dX9_countDigit_15 rfl (by repeat (first | assumption | exact up_s | refine up_n (by omega) ?_)) rfl ?_
    refine R_callS (pc := 18) dX9_countDigit_18 rfl (Or.inl rfl) rfl rfl ?_
    refine c9_isTextField (fun j hj e => ?_) (fun e => absurd rfl (e f hf))
    · obtain rfl := (nI_eq (by omega) (by omega)).mp e
      refine R_if_eq (pc := 21) (t := 37) dX9_countDigit_21 (by decide) (fun hz9 => absurd hz9 (by decide)) (fun _ => ?_)
      refine R_aload_n (pc := 24) dX9_countDigit_24 rfl ?_
      refine R_getf (pc := 25) dX9_countDigit_25 rfl (by repeat (first | assumption | exact up_s | refine up_n (by omega) ?_)) rfl ?_
      refine R_aload_n (pc := 28) dX9_countDigit_28 rfl ?_
      refine R_getf (pc := 29) dX9_countDigit_29 rfl (by repeat (first | assumption | exact up_s | refine up_n (by omega) ?_)) rfl ?_
      refine R_dup2 (pc := 32) dX9_countDigit_32 rfl rfl ?_
      refine R_iald (pc := 33) dX9_countDigit_33 (by repeat (first | assumption | exact up_s | refine up_n (by omega) ?_)) (Or.inl rfl) (by first | with_reducible rfl | (simp only [nI_add, pk_mul]; exact rfl)) (by omega) (by decide) ?_
      refine R_iconst (pc := 34) (x := nI 1) dX9_countDigit_34 rfl ?_
      refine R_iadd (pc := 35) dX9_countDigit_35 ?_
      refine R_iast (pc := 36) dX9_countDigit_36 (by repeat (first | assumption | exact up_s | refine up_n (by omega) ?_)) (by first | with_reducible rfl | (simp only [nI_add, pk_mul]; exact rfl)) (by omega) (by decide) ?_
      refine R_iconst (pc := 37) (x := nI 0) dX9_countDigit_37 rfl ?_
      refine R_iret (pc := 38) dX9_countDigit_38 rfl ?_
      first
        | exact hE (by omega)
        | (refine hG c9 _ s.2.2.1 ⟨upd g2 f (g2 f + nI 1), g3, up_n (by omega) (ht1.trans (by rw [show wdI f = nI f from if_neg (by omega)])), up_n (by omega) ht2, up_s, up_n (by omega) ht4, fun j hj => ?_, fun j hj hj2 => ?_⟩ (fun a ha => up_n (by omega) rfl)
           · show upd g2 f _ j = nI (updN s.2.1 f (s.2.1 f + 1) j)
             unfold updN
             by_cases e : j = f
             · subst e; rw [upd_s, if_pos rfl, ht5 j hj, nI_add]
             · rw [upd_n e, if_neg e]; exact ht5 j hj
           · refine ht6 j hj ?_
             by_cases e : j = f
             · exact Or.inr (ef.trans e.symm)
             · rcases hj2 with q | q
               · refine Or.inl ?_
                 have q2 : 0 < updN s.2.1 f (s.2.1 f + 1) j := q
                 unfold updN at q2
                 rw [if_neg e] at q2
                 exact q2
               · exact absurd q (fun q2 => e q2.symm))
  · have c9 : ¬ s.2.1 f < w := fun q => h9 (nI_lt q (by omega))
    refine R_iconst (pc := 12) (x := nI 3) dX9_countDigit_12 rfl ?_
    refine R_iret (pc := 13) dX9_countDigit_13 rfl ?_
    first
      | exact hE (by omega)
      | (refine hG c9 _ s.2.2.1 ⟨upd g2 f (g2 f + nI 1), g3, up_n (by omega) (ht1.trans (by rw [show wdI f = nI f from if_neg (by omega)])), up_n (by omega) ht2, up_s, up_n (by omega) ht4, fun j hj => ?_, fun j hj hj2 => ?_⟩ (fun a ha => up_n (by omega) rfl)
         · show upd g2 f _ j = nI (updN s.2.1 f (s.2.1 f + 1) j)
           unfold updN
           by_cases e : j = f
           · subst e; rw [upd_s, if_pos rfl, ht5 j hj, nI_add]
           · rw [upd_n e, if_neg e]; exact ht5 j hj
         · refine ht6 j hj ?_
           by_cases e : j = f
           · exact Or.inr (ef.trans e.symm)
           · rcases hj2 with q | q
             · refine Or.inl ?_
               have q2 : 0 < updN s.2.1 f (s.2.1 f + 1) j := q
               unfold updN at q2
               rw [if_neg e] at q2
               exact q2
             · exact absurd q (fun q2 => e q2.symm))
theorem c9_inWord {t l : Nat} {T : Nat → Int32} {fk fp : Int32} {s : TS} {k y : Nat} {P Wd : Nat → Nat} (ht : TxI h t T l fk fp s) (hy : LyAt h y P Wd) (hT : TsOK Wd s) (hV : LayV Wd) (h5 : ¬ s.1 = 5) (hk : k < l) (hl : l ≤ 50) (hE : ¬ (scS Wd (T k) k s).1 = 0 → Q (some (.int (nI (scS Wd (T k) k s).1))) (h, z)) (hG : (scS Wd (T k) k s).1 = 0 → ∀ h2 : Nat → Option am_C, TxI h2 t T l fk fp (scS Wd (T k) k s).2 → (∀ a, (a < t ∨ t + 4 ≤ a) → h2 a = h a) → Q (some (.int (nI 0))) (h2, z)) : Rn sA mX9_readInWord 0 [some (.ref t), some (.int (nI k)), some (.ref y), none] [] (h, z) Q := by
  have ht9 := ht
  obtain ⟨g2, g3, ht1, ht2, ht3, ht4, ht5, ht6⟩ := ht9
  obtain ⟨f, hf, ef⟩ : ∃ f, f < 5 ∧ s.1 = f := ⟨s.1, by have := hT.1; omega, rfl⟩
  have ew : wdI s.1 = nI f := by rw [ef]; exact if_neg (by omega)
  rw [ew] at ht1
  have d4 := (hT.2 f hf).1
  have d5 := (hV f (by omega)).2
  have hy9 := hy
  obtain ⟨y2, y3, hy1, -, -, -⟩ := hy9
  by_cases hdg : nI 48 ≤ T k ∧ T k ≤ nI 57
  · obtain ⟨d, hd1, hd2, hd3⟩ := dig_of hdg
    refine R_aload_n (pc := 0) dX9_readInWord_0 rfl ?_
    refine R_iload_n (pc := 1) dX9_readInWord_1 rfl ?_
    refine R_callV (pc := 2) dX9_readInWord_2 rfl (by repeat (first | assumption | exact up_s | refine up_n (by omega) ?_)) rfl rfl ?_
    refine c9_at ht hk hl ?_
    refine R_istore_n (pc := 5) dX9_readInWord_5 (Nat.le_of_ble_eq_true rfl) rfl ?_
    refine R_iload_n (pc := 6) dX9_readInWord_6 rfl ?_
    refine R_bipush (pc := 7) (x := nI 48) dX9_readInWord_7 (by decide) ?_
    refine R_bipush (pc := 9) (x := nI 57) dX9_readInWord_9 (by decide) ?_
    refine R_callS (pc := 11) dX9_readInWord_11 rfl (Or.inr rfl) rfl rfl ?_
    refine c_isWithin (fun q1 q2 => ?_) (fun q => absurd hdg q)
    · refine R_if_eq (pc := 14) (t := 30) dX9_readInWord_14 (by decide) (fun hz9 => absurd hz9 (by decide)) (fun _ => ?_)
      refine R_aload_n (pc := 17) dX9_readInWord_17 rfl ?_
      refine R_aload_n (pc := 18) dX9_readInWord_18 rfl ?_
      refine R_aload_n (pc := 19) dX9_readInWord_19 rfl ?_
      refine R_getf (pc := 20) dX9_readInWord_20 rfl (by repeat (first | assumption | exact up_s | refine up_n (by omega) ?_)) rfl ?_
      refine R_callV (pc := 23) dX9_readInWord_23 rfl (by repeat (first | assumption | exact up_s | refine up_n (by omega) ?_)) rfl rfl ?_
      refine c3_widthOf hy (by omega) ?_
      refine R_callV (pc := 26) dX9_readInWord_26 rfl (by repeat (first | assumption | exact up_s | refine up_n (by omega) ?_)) rfl rfl ?_
      refine c9_countDigit ht hf ef (by omega) (by omega) (fun q => ?_) (fun q h2 vl r1 r2 => ?_)
      · refine R_iret (pc := 29) dX9_readInWord_29 rfl ?_
        have eS : scS Wd (T k) k s = (3, s) := by unfold scS; rw [if_neg h5, if_pos hdg, ef, if_pos (by omega)]
        rw [eS] at hE
        exact hE (show ¬ 3 = 0 by decide)
      · refine R_iret (pc := 29) dX9_readInWord_29 rfl ?_
        have eS : scS Wd (T k) k s = (0, (f, updN s.2.1 f (s.2.1 f + 1), updN s.2.2.1 f (10 * s.2.2.1 f + d), s.2.2.2)) := by unfold scS; rw [if_neg h5, if_pos hdg, ef, if_neg (by omega), hd3]
        rw [eS] at hG
        refine hG rfl h2 ?_ r2
        obtain ⟨u2, u3, r1⟩ := r1
        exact ⟨u2, u3, r1⟩
  · by_cases hsp : T k = nI 32 ∧ 0 < s.2.1 f
    · have eS : scS Wd (T k) k s = (0, (5, s.2)) := by unfold scS; rw [if_neg h5, if_neg hdg, ef, if_pos hsp]
      refine R_aload_n (pc := 0) dX9_readInWord_0 rfl ?_
      refine R_iload_n (pc := 1) dX9_readInWord_1 rfl ?_
      refine R_callV (pc := 2) dX9_readInWord_2 rfl (by repeat (first | assumption | exact up_s | refine up_n (by omega) ?_)) rfl rfl ?_
      refine c9_at ht hk hl ?_
      refine R_istore_n (pc := 5) dX9_readInWord_5 (Nat.le_of_ble_eq_true rfl) rfl ?_
      refine R_iload_n (pc := 6) dX9_readInWord_6 rfl ?_
      refine R_bipush (pc := 7) (x := nI 48) dX9_readInWord_7 (by decide) ?_
      refine R_bipush (pc := 9) (x := nI 57) dX9_readInWord_9 (by decide) ?_
      refine R_callS (pc := 11) dX9_readInWord_11 rfl (Or.inr rfl) rfl rfl ?_
      refine c_isWithin (fun q1 q2 => absurd ⟨q1, q2⟩ hdg) (fun q => ?_)
      · refine R_if_eq (pc := 14) (t := 30) dX9_readInWord_14 (by decide) (fun _ => ?_) (fun hz9 => absurd hz9 (by decide))
        refine R_iload_n (pc := 30) dX9_readInWord_30 rfl ?_
        refine R_bipush (pc := 31) (x := nI 32) dX9_readInWord_31 (by decide) ?_
        refine R_icmp_ne (pc := 33) (t := 54) dX9_readInWord_33 (by decide) (fun hz9 => absurd hsp.1 hz9) (fun _ => ?_)
        refine R_aload_n (pc := 36) dX9_readInWord_36 rfl ?_
        refine R_aload_n (pc := 37) dX9_readInWord_37 rfl ?_
        refine R_getf (pc := 38) dX9_readInWord_38 rfl (by repeat (first | assumption | exact up_s | refine up_n (by omega) ?_)) rfl ?_
        refine R_callV (pc := 41) dX9_readInWord_41 rfl (by repeat (first | assumption | exact up_s | refine up_n (by omega) ?_)) rfl rfl ?_
        refine c9_digitsOf ht hf ?_
        refine R_if_le (pc := 44) (t := 54) dX9_readInWord_44 (by decide) (fun hz9 => absurd hz9 (nI_nle hsp.2 (by omega))) (fun _ => ?_)
        refine R_aload_n (pc := 47) dX9_readInWord_47 rfl ?_
        refine R_iconst (pc := 48) (x := (-1)) dX9_readInWord_48 rfl ?_
        refine R_putf (pc := 49) dX9_readInWord_49 rfl (by repeat (first | assumption | exact up_s | refine up_n (by omega) ?_)) rfl (Or.inl rfl) rfl ?_
        refine R_iconst (pc := 52) (x := nI 0) dX9_readInWord_52 rfl ?_
        refine R_iret (pc := 53) dX9_readInWord_53 rfl ?_
        rw [eS] at hG
        refine hG rfl _ ⟨g2, g3, up_s, up_n (by omega) ht2, up_n (by omega) ht3, up_n (by omega) ht4, ht5, fun j hj hj2 => ?_⟩ (fun a ha => up_n (by omega) rfl)
        refine ht6 j hj (Or.inl ?_)
        rcases hj2 with q | q
        · exact q
        · exact absurd q (by show ¬ 5 = j; omega)
    · have eS : scS Wd (T k) k s = (1, s) := by unfold scS; rw [if_neg h5, if_neg hdg, ef, if_neg hsp]
      rw [eS] at hE
      by_cases x32 : T k = nI 32
      · have hz : s.2.1 f = 0 := by
          by_cases q : s.2.1 f = 0
          · exact q
          · exact absurd ⟨x32, by omega⟩ hsp
        refine R_aload_n (pc := 0) dX9_readInWord_0 rfl ?_
        refine R_iload_n (pc := 1) dX9_readInWord_1 rfl ?_
        refine R_callV (pc := 2) dX9_readInWord_2 rfl (by repeat (first | assumption | exact up_s | refine up_n (by omega) ?_)) rfl rfl ?_
        refine c9_at ht hk hl ?_
        refine R_istore_n (pc := 5) dX9_readInWord_5 (Nat.le_of_ble_eq_true rfl) rfl ?_
        refine R_iload_n (pc := 6) dX9_readInWord_6 rfl ?_
        refine R_bipush (pc := 7) (x := nI 48) dX9_readInWord_7 (by decide) ?_
        refine R_bipush (pc := 9) (x := nI 57) dX9_readInWord_9 (by decide) ?_
        refine R_callS (pc := 11) dX9_readInWord_11 rfl (Or.inr rfl) rfl rfl ?_
        refine c_isWithin (fun q1 q2 => absurd ⟨q1, q2⟩ hdg) (fun q => ?_)
        · refine R_if_eq (pc := 14) (t := 30) dX9_readInWord_14 (by decide) (fun _ => ?_) (fun hz9 => absurd hz9 (by decide))
          refine R_iload_n (pc := 30) dX9_readInWord_30 rfl ?_
          refine R_bipush (pc := 31) (x := nI 32) dX9_readInWord_31 (by decide) ?_
          refine R_icmp_ne (pc := 33) (t := 54) dX9_readInWord_33 (by decide) (fun hz9 => absurd x32 hz9) (fun _ => ?_)
          refine R_aload_n (pc := 36) dX9_readInWord_36 rfl ?_
          refine R_aload_n (pc := 37) dX9_readInWord_37 rfl ?_
          refine R_getf (pc := 38) dX9_readInWord_38 rfl (by repeat (first | assumption | exact up_s | refine up_n (by omega) ?_)) rfl ?_
          refine R_callV (pc := 41) dX9_readInWord_41 rfl (by repeat (first | assumption | exact up_s | refine up_n (by omega) ?_)) rfl rfl ?_
          refine c9_digitsOf ht hf ?_
          rw [hz]
          refine R_if_le (pc := 44) (t := 54) dX9_readInWord_44 (by decide) (fun _ => ?_) (fun hz9 => absurd (by decide) hz9)
          refine R_iconst (pc := 54) (x := nI 1) dX9_readInWord_54 rfl ?_
          refine R_iret (pc := 55) dX9_readInWord_55 rfl ?_
          exact hE (show ¬ 1 = 0 by decide)
      · skip
        refine R_aload_n (pc := 0) dX9_readInWord_0 rfl ?_
        refine R_iload_n (pc := 1) dX9_readInWord_1 rfl ?_
        refine R_callV (pc := 2) dX9_readInWord_2 rfl (by repeat (first | assumption | exact up_s | refine up_n (by omega) ?_)) rfl rfl ?_
        refine c9_at ht hk hl ?_
        refine R_istore_n (pc := 5) dX9_readInWord_5 (Nat.le_of_ble_eq_true rfl) rfl ?_
        refine R_iload_n (pc := 6) dX9_readInWord_6 rfl ?_
        refine R_bipush (pc := 7) (x := nI 48) dX9_readInWord_7 (by decide) ?_
        refine R_bipush (pc := 9) (x := nI 57) dX9_readInWord_9 (by decide) ?_
        refine R_callS (pc := 11) dX9_readInWord_11 rfl (Or.inr rfl) rfl rfl ?_
        refine c_isWithin (fun q1 q2 => absurd ⟨q1, q2⟩ hdg) (fun q => ?_)
        · refine R_if_eq (pc := 14) (t := 30) dX9_readInWord_14 (by decide) (fun _ => ?_) (fun hz9 => absurd hz9 (by decide))
          refine R_iload_n (pc := 30) dX9_readInWord_30 rfl ?_
          refine R_bipush (pc := 31) (x := nI 32) dX9_readInWord_31 (by decide) ?_
          refine R_icmp_ne (pc := 33) (t := 54) dX9_readInWord_33 (by decide) (fun _ => ?_) (fun hz9 => absurd hz9 x32)
          refine R_iconst (pc := 54) (x := nI 1) dX9_readInWord_54 rfl ?_
          refine R_iret (pc := 55) dX9_readInWord_55 rfl ?_
          exact hE (show ¬ 1 = 0 by decide)
end CC7
