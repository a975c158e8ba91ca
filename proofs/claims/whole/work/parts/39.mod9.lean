section MOD9
variable {sA : Nat} {h : Nat → Option am_C} {z : Nat × Nat} {Q : Option Value → am_H → Prop} {M : Nat} {A : Nat → Nat → Int32} {S : Nat → Int32}
theorem sw_case (a : Int32) {lo hi : Nat} (h1 : lo ≤ hi) (h2 : hi < 1000000) : (a.toInt < (lo : Int) ∨ (hi : Int) < a.toInt) ∨ ∃ j, lo ≤ j ∧ j ≤ hi ∧ a = nI j := by
  by_cases h : a.toInt < (lo : Int) ∨ (hi : Int) < a.toInt
  · exact Or.inl h
  · right
    have h3 : nI lo ≤ a := Int32.le_iff_toInt_le.mpr (by rw [nI_toInt (by omega)]; omega)
    have h4 : a ≤ nI hi := Int32.le_iff_toInt_le.mpr (by rw [nI_toInt (by omega)]; omega)
    exact (ix_inG a h1 (by omega)).mp ⟨h3, h4⟩
theorem sw_not {a : Int32} {lo hi : Nat} (h2 : hi < 1000000) (h : a.toInt < (lo : Int) ∨ (hi : Int) < a.toInt) {j : Nat} (hj : lo ≤ j) (hj2 : j ≤ hi) : ¬ a = nI j := by
  intro e
  subst e
  rw [nI_toInt (by omega)] at h
  omega
theorem s12_told {a : Int32} {n m : Nat} {P Wd : Nat → Nat} (hL : LayW (A 1) P Wd) (hn : n ≤ 40) (hw : A 1 19 = nI n) (hm : m ≤ 40) (hf : A 1 1062 = nI m) (h0 : a = nI 0 → Q (some (.int (A 1 19))) (putM h M A S, z)) (h1 : a = nI 1 → Q (some (.int (A 1 1304))) (putM h M A S, z)) (h2 : a = nI 2 → Q (some (.int (if A 1 1060 = 0 then (-1000009) else A 1 1103))) (putM h M A S, z)) (h3 : a = nI 3 → Q (some (.int (refR (A 1) m 0 (nI 0)))) (putM h M A S, z)) (h4 : a = nI 4 → ∀ g : Nat → Int32, Q (some (.int (ordR P Wd (A 1) n 0 (-1)))) (putM h M (va_up A 5 g) S, z)) (h5 : a = nI 5 → Q (some (.int (S 6))) (putM h M A S, z)) (h6 : a = nI 6 → Q (some (.int (S 2))) (putM h M A S, z)) (hB : (∀ j, j < 7 → ¬ a = nI j) → Q (some (.int (-1000001))) (putM h M A S, z)) : Rn sA mX12_told 0 [some (.ref M), some (.int a)] [] (putM h M A S, z) Q := by
  refine R_iload_n (pc := 0) dX12_told_0 rfl ?_
  rcases sw_case a (lo := 0) (hi := 6) (by decide) (by decide) with hsw | ⟨jw, jwa, jwb, rfl⟩
  · refine R_tswO (pc := 1) (t := 114) dX12_told_1 hsw (by decide) ?_
    refine R_ldc (pc := 114) (x := (-1000001)) dX12_told_114 rfl ?_
    refine R_iret (pc := 116) dX12_told_116 rfl ?_
    first
      | exact h0 rfl
      | exact h1 rfl
      | (have q := h2 rfl; rw [if_pos h69] at q; exact q)
      | (have q := h2 rfl; rw [if_neg h69] at q; exact q)
      | exact h3 rfl
      | exact h5 rfl
      | exact h6 rfl
      | exact hB (fun j hj => sw_not (by decide) hsw (Nat.zero_le _) (by omega))
      | (have q := h4 rfl g; rw [h95] at q; exact q)
      | (have q := h4 rfl g; rw [(ordR_01 _ _ _).resolve_left (fun t => h95 (t.trans nI_0))] at q; exact q)
  · rcases (by omega : jw = 0 ∨ jw = 1 ∨ jw = 2 ∨ jw = 3 ∨ jw = 4 ∨ jw = 5 ∨ jw = 6) with rfl | rfl | rfl | rfl | rfl | rfl | rfl
    · refine R_tswI (pc := 1) (off := 43) (t := 44) dX12_told_1 (by decide) (by decide) (by decide) ?_
      refine R_aload_n (pc := 44) dX12_told_44 rfl ?_
      refine M_g (pc := 45) dX12_told_45 rfl rfl ?_
      refine R_bipush (pc := 48) (x := nI 19) dX12_told_48 (by decide) ?_
      refine M_ald (pc := 50) dX12_told_50 (by first | with_reducible rfl | (simp only [nI_add, pk_mul]; exact rfl)) (by simp only [mol1, mol2, mol3, mol4, mol5, mol6, mol7, mol8, mol9, mol10, mol11, mol12, mol13]; omega) ?_
      refine R_iret (pc := 51) dX12_told_51 rfl ?_
      first
        | exact h0 rfl
        | exact h1 rfl
        | (have q := h2 rfl; rw [if_pos h69] at q; exact q)
        | (have q := h2 rfl; rw [if_neg h69] at q; exact q)
        | exact h3 rfl
        | exact h5 rfl
        | exact h6 rfl
        | exact hB (fun j hj => sw_not (by decide) hsw (Nat.zero_le _) (by omega))
        | (have q := h4 rfl g; rw [h95] at q; exact q)
        | (have q := h4 rfl g; rw [(ordR_01 _ _ _).resolve_left (fun t => h95 (t.trans nI_0))] at q; exact q)
    · refine R_tswI (pc := 1) (off := 51) (t := 52) dX12_told_1 (by decide) (by decide) (by decide) ?_
      refine R_aload_n (pc := 52) dX12_told_52 rfl ?_
      refine M_g (pc := 53) dX12_told_53 rfl rfl ?_
      refine R_sipush (pc := 56) (x := nI 1304) dX12_told_56 (by decide) ?_
      refine M_ald (pc := 59) dX12_told_59 (by first | with_reducible rfl | (simp only [nI_add, pk_mul]; exact rfl)) (by simp only [mol1, mol2, mol3, mol4, mol5, mol6, mol7, mol8, mol9, mol10, mol11, mol12, mol13]; omega) ?_
      refine R_iret (pc := 60) dX12_told_60 rfl ?_
      first
        | exact h0 rfl
        | exact h1 rfl
        | (have q := h2 rfl; rw [if_pos h69] at q; exact q)
        | (have q := h2 rfl; rw [if_neg h69] at q; exact q)
        | exact h3 rfl
        | exact h5 rfl
        | exact h6 rfl
        | exact hB (fun j hj => sw_not (by decide) hsw (Nat.zero_le _) (by omega))
        | (have q := h4 rfl g; rw [h95] at q; exact q)
        | (have q := h4 rfl g; rw [(ordR_01 _ _ _).resolve_left (fun t => h95 (t.trans nI_0))] at q; exact q)
    · refine R_tswI (pc := 1) (off := 60) (t := 61) dX12_told_1 (by decide) (by decide) (by decide) ?_
      refine R_aload_n (pc := 61) dX12_told_61 rfl ?_
      refine M_g (pc := 62) dX12_told_62 rfl rfl ?_
      refine R_sipush (pc := 65) (x := nI 1060) dX12_told_65 (by decide) ?_
      refine M_ald (pc := 68) dX12_told_68 (by first | with_reducible rfl | (simp only [nI_add, pk_mul]; exact rfl)) (by simp only [mol1, mol2, mol3, mol4, mol5, mol6, mol7, mol8, mol9, mol10, mol11, mol12, mol13]; omega) ?_
      refine R_if_ne (pc := 69) (t := 77) dX12_told_69 (by decide) (fun h69 => ?_) (fun h69 => ?_)
      · refine R_aload_n (pc := 77) dX12_told_77 rfl ?_
        refine M_g (pc := 78) dX12_told_78 rfl rfl ?_
        refine R_sipush (pc := 81) (x := nI 1103) dX12_told_81 (by decide) ?_
        refine M_ald (pc := 84) dX12_told_84 (by first | with_reducible rfl | (simp only [nI_add, pk_mul]; exact rfl)) (by simp only [mol1, mol2, mol3, mol4, mol5, mol6, mol7, mol8, mol9, mol10, mol11, mol12, mol13]; omega) ?_
        refine R_iret (pc := 85) dX12_told_85 rfl ?_
        first
          | exact h0 rfl
          | exact h1 rfl
          | (have q := h2 rfl; rw [if_pos h69] at q; exact q)
          | (have q := h2 rfl; rw [if_neg h69] at q; exact q)
          | exact h3 rfl
          | exact h5 rfl
          | exact h6 rfl
          | exact hB (fun j hj => sw_not (by decide) hsw (Nat.zero_le _) (by omega))
          | (have q := h4 rfl g; rw [h95] at q; exact q)
          | (have q := h4 rfl g; rw [(ordR_01 _ _ _).resolve_left (fun t => h95 (t.trans nI_0))] at q; exact q)
      · refine R_ldc (pc := 72) (x := (-1000009)) dX12_told_72 rfl ?_
        refine R_goto (pc := 74) (t := 85) dX12_told_74 (by decide) ?_
        refine R_iret (pc := 85) dX12_told_85 rfl ?_
        first
          | exact h0 rfl
          | exact h1 rfl
          | (have q := h2 rfl; rw [if_pos h69] at q; exact q)
          | (have q := h2 rfl; rw [if_neg h69] at q; exact q)
          | exact h3 rfl
          | exact h5 rfl
          | exact h6 rfl
          | exact hB (fun j hj => sw_not (by decide) hsw (Nat.zero_le _) (by omega))
          | (have q := h4 rfl g; rw [h95] at q; exact q)
          | (have q := h4 rfl g; rw [(ordR_01 _ _ _).resolve_left (fun t => h95 (t.trans nI_0))] at q; exact q)
    · refine R_tswI (pc := 1) (off := 85) (t := 86) dX12_told_1 (by decide) (by decide) (by decide) ?_
      refine R_aload_n (pc := 86) dX12_told_86 rfl ?_
      refine R_callV (pc := 87) dX12_told_87 rfl putM_o rfl rfl ?_
      refine s12_refused hm hf ?_
      refine R_iret (pc := 90) dX12_told_90 rfl ?_
      first
        | exact h0 rfl
        | exact h1 rfl
        | (have q := h2 rfl; rw [if_pos h69] at q; exact q)
        | (have q := h2 rfl; rw [if_neg h69] at q; exact q)
        | exact h3 rfl
        | exact h5 rfl
        | exact h6 rfl
        | exact hB (fun j hj => sw_not (by decide) hsw (Nat.zero_le _) (by omega))
        | (have q := h4 rfl g; rw [h95] at q; exact q)
        | (have q := h4 rfl g; rw [(ordR_01 _ _ _).resolve_left (fun t => h95 (t.trans nI_0))] at q; exact q)
    · refine R_tswI (pc := 1) (off := 90) (t := 91) dX12_told_1 (by decide) (by decide) (by decide) ?_
      refine R_aload_n (pc := 91) dX12_told_91 rfl ?_
      refine R_callV (pc := 92) dX12_told_92 rfl putM_o rfl rfl ?_
      refine s12_ordered hL hn hw (fun g => ?_)
      refine R_if_eq (pc := 95) (t := 102) dX12_told_95 (by decide) (fun h95 => ?_) (fun h95 => ?_)
      · refine R_iconst (pc := 102) (x := nI 0) dX12_told_102 rfl ?_
        refine R_iret (pc := 103) dX12_told_103 rfl ?_
        first
          | exact h0 rfl
          | exact h1 rfl
          | (have q := h2 rfl; rw [if_pos h69] at q; exact q)
          | (have q := h2 rfl; rw [if_neg h69] at q; exact q)
          | exact h3 rfl
          | exact h5 rfl
          | exact h6 rfl
          | exact hB (fun j hj => sw_not (by decide) hsw (Nat.zero_le _) (by omega))
          | (have q := h4 rfl g; rw [h95] at q; exact q)
          | (have q := h4 rfl g; rw [(ordR_01 _ _ _).resolve_left (fun t => h95 (t.trans nI_0))] at q; exact q)
      · refine R_iconst (pc := 98) (x := nI 1) dX12_told_98 rfl ?_
        refine R_goto (pc := 99) (t := 103) dX12_told_99 (by decide) ?_
        refine R_iret (pc := 103) dX12_told_103 rfl ?_
        first
          | exact h0 rfl
          | exact h1 rfl
          | (have q := h2 rfl; rw [if_pos h69] at q; exact q)
          | (have q := h2 rfl; rw [if_neg h69] at q; exact q)
          | exact h3 rfl
          | exact h5 rfl
          | exact h6 rfl
          | exact hB (fun j hj => sw_not (by decide) hsw (Nat.zero_le _) (by omega))
          | (have q := h4 rfl g; rw [h95] at q; exact q)
          | (have q := h4 rfl g; rw [(ordR_01 _ _ _).resolve_left (fun t => h95 (t.trans nI_0))] at q; exact q)
    · refine R_tswI (pc := 1) (off := 103) (t := 104) dX12_told_1 (by decide) (by decide) (by decide) ?_
      refine R_aload_n (pc := 104) dX12_told_104 rfl ?_
      refine M_g (pc := 105) dX12_told_105 rfl rfl ?_
      refine R_iret (pc := 108) dX12_told_108 rfl ?_
      first
        | exact h0 rfl
        | exact h1 rfl
        | (have q := h2 rfl; rw [if_pos h69] at q; exact q)
        | (have q := h2 rfl; rw [if_neg h69] at q; exact q)
        | exact h3 rfl
        | exact h5 rfl
        | exact h6 rfl
        | exact hB (fun j hj => sw_not (by decide) hsw (Nat.zero_le _) (by omega))
        | (have q := h4 rfl g; rw [h95] at q; exact q)
        | (have q := h4 rfl g; rw [(ordR_01 _ _ _).resolve_left (fun t => h95 (t.trans nI_0))] at q; exact q)
    · refine R_tswI (pc := 1) (off := 108) (t := 109) dX12_told_1 (by decide) (by decide) (by decide) ?_
      refine R_aload_n (pc := 109) dX12_told_109 rfl ?_
      refine M_g (pc := 110) dX12_told_110 rfl rfl ?_
      refine R_iret (pc := 113) dX12_told_113 rfl ?_
      first
        | exact h0 rfl
        | exact h1 rfl
        | (have q := h2 rfl; rw [if_pos h69] at q; exact q)
        | (have q := h2 rfl; rw [if_neg h69] at q; exact q)
        | exact h3 rfl
        | exact h5 rfl
        | exact h6 rfl
        | exact hB (fun j hj => sw_not (by decide) hsw (Nat.zero_le _) (by omega))
        | (have q := h4 rfl g; rw [h95] at q; exact q)
        | (have q := h4 rfl g; rw [(ordR_01 _ _ _).resolve_left (fun t => h95 (t.trans nI_0))] at q; exact q)
theorem s12_card {a b : Int32} {n : Nat} {P Wd : Nat → Nat} (hL : LayW (A 1) P Wd) (hn : n ≤ 40) (hw : A 1 19 = nI n) (hT : ∀ c, c < n → ∃ t, t < 24 ∧ A 1 (20 + 26 * c + 25) = nI t) (hB : (∀ c k, ¬ (c < n ∧ k < 10 ∧ a = nI c ∧ b = nI k)) → Q (some (.int (-1000001))) (putM h M A S, z)) (hV : ∀ c f, c < n → f < 6 → a = nI c → b = nI f → ∀ g : Nat → Int32, Q (some (.int (valF P Wd (colW (A 1) c) f))) (putM h M (va_up A 5 g) S, z)) (h6 : ∀ c, c < n → a = nI c → b = nI 6 → ∀ g : Nat → Int32, Q (some (.int (dueR P Wd (colW (A 1) c)))) (putM h M (va_up A 5 g) S, z)) (h7 : ∀ c, c < n → a = nI c → b = nI 7 → ∀ g : Nat → Int32, Q (some (.int (A 1 (20 + 26 * c + 24)))) (putM h M (va_up A 5 g) S, z)) (h8 : ∀ c, c < n → a = nI c → b = nI 8 → ∀ g : Nat → Int32, Q (some (.int (A 1 (20 + 26 * c + 25)))) (putM h M (va_up A 5 g) S, z)) (h9 : ∀ c, c < n → a = nI c → b = nI 9 → ∀ g : Nat → Int32, Q (some (.int (rsnR P Wd (A 1 (20 + 26 * c + 24)) (A 1 13) (A 1 14) (rdF (A 1) c)))) (putM h M (va_up A 5 g) S, z)) : Rn sA mX12_card 0 [some (.ref M), some (.int a), some (.int b)] [] (putM h M A S, z) Q := by
  refine R_aload_n (pc := 0) dX12_card_0 rfl ?_
  refine R_iload_n (pc := 1) dX12_card_1 rfl ?_
  refine R_callV (pc := 2) dX12_card_2 rfl putM_o rfl rfl ?_
  refine s12_isCard hn hw (fun c hc e => ?_) (fun e => ?_)
  · subst e
    refine R_if_eq (pc := 5) (t := 18) dX12_card_5 (by decide) (fun hz9 => absurd hz9 (by decide)) (fun _ => ?_)
    refine R_iload_n (pc := 8) dX12_card_8 rfl ?_
    refine R_iconst (pc := 9) (x := nI 0) dX12_card_9 rfl ?_
    refine R_bipush (pc := 10) (x := nI 9) dX12_card_10 (by decide) ?_
    refine R_callS (pc := 12) dX12_card_12 rfl (Or.inl rfl) rfl rfl ?_
    refine s12_inG (a := 0) (b := 9) (by first | rfl | decide) (by first | rfl | decide) (by omega) (by omega) (fun k ka kb e2 => ?_) (fun e2 => ?_)
    · subst e2
      refine R_if_ne (pc := 15) (t := 21) dX12_card_15 (by decide) (fun _ => ?_) (fun hz9 => absurd hz9 (by decide))
      refine R_aload_n (pc := 21) dX12_card_21 rfl ?_
      refine R_iload_n (pc := 22) dX12_card_22 rfl ?_
      refine R_callV (pc := 23) dX12_card_23 rfl putM_o rfl rfl ?_
      refine s12_look (by omega) (fun g hg => ?_)
      refine R_iload_n (pc := 26) dX12_card_26 rfl ?_
      rcases (by omega : k = 0 ∨ k = 1 ∨ k = 2 ∨ k = 3 ∨ k = 4 ∨ k = 5 ∨ k = 6 ∨ k = 7 ∨ k = 8 ∨ k = 9) with rfl | rfl | rfl | rfl | rfl | rfl | rfl | rfl | rfl | rfl
      · refine R_tswO (pc := 27) (t := 83) dX12_card_27 (by decide) (by decide) ?_
        refine R_aload_n (pc := 83) dX12_card_83 rfl ?_
        refine R_iload_n (pc := 84) dX12_card_84 rfl ?_
        refine R_callV (pc := 85) dX12_card_85 rfl putM_o rfl rfl ?_
        refine s12_valueOf (A := va_up A 5 g) hL (by omega) ?_
        refine R_iret (pc := 88) dX12_card_88 rfl ?_
        rw [show va_up A 5 g 5 = g from rfl, valF_congr hL (fun j hj => hg j hj) (by omega)]
        exact hV c _ hc (by omega) rfl rfl g
      · refine R_tswO (pc := 27) (t := 83) dX12_card_27 (by decide) (by decide) ?_
        refine R_aload_n (pc := 83) dX12_card_83 rfl ?_
        refine R_iload_n (pc := 84) dX12_card_84 rfl ?_
        refine R_callV (pc := 85) dX12_card_85 rfl putM_o rfl rfl ?_
        refine s12_valueOf (A := va_up A 5 g) hL (by omega) ?_
        refine R_iret (pc := 88) dX12_card_88 rfl ?_
        rw [show va_up A 5 g 5 = g from rfl, valF_congr hL (fun j hj => hg j hj) (by omega)]
        exact hV c _ hc (by omega) rfl rfl g
      · refine R_tswO (pc := 27) (t := 83) dX12_card_27 (by decide) (by decide) ?_
        refine R_aload_n (pc := 83) dX12_card_83 rfl ?_
        refine R_iload_n (pc := 84) dX12_card_84 rfl ?_
        refine R_callV (pc := 85) dX12_card_85 rfl putM_o rfl rfl ?_
        refine s12_valueOf (A := va_up A 5 g) hL (by omega) ?_
        refine R_iret (pc := 88) dX12_card_88 rfl ?_
        rw [show va_up A 5 g 5 = g from rfl, valF_congr hL (fun j hj => hg j hj) (by omega)]
        exact hV c _ hc (by omega) rfl rfl g
      · refine R_tswO (pc := 27) (t := 83) dX12_card_27 (by decide) (by decide) ?_
        refine R_aload_n (pc := 83) dX12_card_83 rfl ?_
        refine R_iload_n (pc := 84) dX12_card_84 rfl ?_
        refine R_callV (pc := 85) dX12_card_85 rfl putM_o rfl rfl ?_
        refine s12_valueOf (A := va_up A 5 g) hL (by omega) ?_
        refine R_iret (pc := 88) dX12_card_88 rfl ?_
        rw [show va_up A 5 g 5 = g from rfl, valF_congr hL (fun j hj => hg j hj) (by omega)]
        exact hV c _ hc (by omega) rfl rfl g
      · refine R_tswO (pc := 27) (t := 83) dX12_card_27 (by decide) (by decide) ?_
        refine R_aload_n (pc := 83) dX12_card_83 rfl ?_
        refine R_iload_n (pc := 84) dX12_card_84 rfl ?_
        refine R_callV (pc := 85) dX12_card_85 rfl putM_o rfl rfl ?_
        refine s12_valueOf (A := va_up A 5 g) hL (by omega) ?_
        refine R_iret (pc := 88) dX12_card_88 rfl ?_
        rw [show va_up A 5 g 5 = g from rfl, valF_congr hL (fun j hj => hg j hj) (by omega)]
        exact hV c _ hc (by omega) rfl rfl g
      · refine R_tswO (pc := 27) (t := 83) dX12_card_27 (by decide) (by decide) ?_
        refine R_aload_n (pc := 83) dX12_card_83 rfl ?_
        refine R_iload_n (pc := 84) dX12_card_84 rfl ?_
        refine R_callV (pc := 85) dX12_card_85 rfl putM_o rfl rfl ?_
        refine s12_valueOf (A := va_up A 5 g) hL (by omega) ?_
        refine R_iret (pc := 88) dX12_card_88 rfl ?_
        rw [show va_up A 5 g 5 = g from rfl, valF_congr hL (fun j hj => hg j hj) (by omega)]
        exact hV c _ hc (by omega) rfl rfl g
      · refine R_tswI (pc := 27) (off := 29) (t := 56) dX12_card_27 (by decide) (by decide) (by decide) ?_
        refine R_aload_n (pc := 56) dX12_card_56 rfl ?_
        refine R_callV (pc := 57) dX12_card_57 rfl putM_o rfl rfl ?_
        refine s12_due (A := va_up A 5 g) hL ?_
        refine R_iret (pc := 60) dX12_card_60 rfl ?_
        rw [show va_up A 5 g 5 = g from rfl, dueR_congr hL (fun j hj => hg j hj)]
        exact h6 c hc rfl rfl g
      · refine R_tswI (pc := 27) (off := 34) (t := 61) dX12_card_27 (by decide) (by decide) (by decide) ?_
        refine R_aload_n (pc := 61) dX12_card_61 rfl ?_
        refine R_iload_n (pc := 62) dX12_card_62 rfl ?_
        refine R_bipush (pc := 63) (x := nI 24) dX12_card_63 (by decide) ?_
        refine R_callV (pc := 65) dX12_card_65 rfl putM_o rfl rfl ?_
        refine s12_of (A := va_up A 5 g) (by omega) (by omega) ?_
        refine R_iret (pc := 68) dX12_card_68 rfl ?_
        exact h7 c hc rfl rfl g
      · refine R_tswI (pc := 27) (off := 42) (t := 69) dX12_card_27 (by decide) (by decide) (by decide) ?_
        refine R_aload_n (pc := 69) dX12_card_69 rfl ?_
        refine R_iload_n (pc := 70) dX12_card_70 rfl ?_
        refine R_bipush (pc := 71) (x := nI 25) dX12_card_71 (by decide) ?_
        refine R_callV (pc := 73) dX12_card_73 rfl putM_o rfl rfl ?_
        refine s12_of (A := va_up A 5 g) (by omega) (by omega) ?_
        refine R_iret (pc := 76) dX12_card_76 rfl ?_
        exact h8 c hc rfl rfl g
      · refine R_tswI (pc := 27) (off := 50) (t := 77) dX12_card_27 (by decide) (by decide) (by decide) ?_
        refine R_aload_n (pc := 77) dX12_card_77 rfl ?_
        refine R_iload_n (pc := 78) dX12_card_78 rfl ?_
        refine R_callV (pc := 79) dX12_card_79 rfl putM_o rfl rfl ?_
        obtain ⟨t, ht, ht2⟩ := hT c hc
        refine s12_own (A := va_up A 5 g) (t := t) hL (by omega) ht ht2 (fun g2 hg2 => ?_)
        rw [va_up_up]
        refine R_iret (pc := 82) dX12_card_82 rfl ?_
        exact h9 c hc rfl rfl g2
    · refine R_if_ne (pc := 15) (t := 21) dX12_card_15 (by decide) (fun hz9 => absurd hz9 (by decide)) (fun _ => ?_)
      refine R_ldc (pc := 18) (x := (-1000001)) dX12_card_18 rfl ?_
      refine R_iret (pc := 20) dX12_card_20 rfl ?_
      first
        | exact hB (fun c0 k0 hz => e c0 hz.1 hz.2.2.1)
        | exact hB (fun c0 k0 hz => e2 k0 (Nat.zero_le _) (by have := hz.2.1; omega) hz.2.2.2)
  · refine R_if_eq (pc := 5) (t := 18) dX12_card_5 (by decide) (fun _ => ?_) (fun hz9 => absurd hz9 (by decide))
    refine R_ldc (pc := 18) (x := (-1000001)) dX12_card_18 rfl ?_
    refine R_iret (pc := 20) dX12_card_20 rfl ?_
    first
      | exact hB (fun c0 k0 hz => e c0 hz.1 hz.2.2.1)
      | exact hB (fun c0 k0 hz => e2 k0 (Nat.zero_le _) (by have := hz.2.1; omega) hz.2.2.2)
end MOD9
