section CC9
variable {sA : Nat} {h : Nat → Option am_C} {z : Nat × Nat} {Q : Option Value → am_H → Prop}
theorem dg_ld {v d e : Nat} (h : v < 10 ^ d) (e1 : d ≤ e) : v / 10 ^ e % 10 = 0 := by
  rw [Nat.div_eq_of_lt (Nat.lt_of_lt_of_le h (Nat.pow_le_pow_right (by omega) e1))]
theorem lc9_pn {t l c y f : Nat} {T : Nat → Int32} {fk fp : Int32} {s : TS} {P Wd : Nat → Nat} {C : CdX} {g : Nat → Option am_C} (ht : TxI g t T l fk fp s) (hT : TsT T l s) (hl : l ≤ 50) (hy : LyAt g y P Wd) (hct : c + 2 ≤ t ∨ t + 4 ≤ c) (hcy : c + 2 ≤ y ∨ y + 3 ≤ c) (hPW : ∀ f, f < 6 → P f + Wd f ≤ 24) (hO : TsOK Wd s) (hf : f < 5) (h0 : 0 < s.2.1 f) : ∀ (n k : Nat) (h : Nat → Option am_C) (C2 : CdX) (o7 : Option Value) (_ : k + n = Wd f) (_ : CdAt h c C2) (_ : C2.2 = C.2) (_ : ∀ j, j < 24 → C2.1 j = if P f ≤ j ∧ j < P f + k then nI (dgA Wd s.2.2.1 f (j - P f)) else C.1 j) (_ : ∀ a, ¬ a = c + 1 → h a = g a) (_ : (∀ h2 : Nat → Option am_C, ∀ C2 : CdX, CdAt h2 c C2 → C2.2 = C.2 → (∀ j, j < 24 → C2.1 j = psK P Wd s.2.2.1 f C.1 j) → (∀ a, ¬ a = c + 1 → h2 a = g a) → Q none (h2, z))), Rn sA mX9_punchNumber 20 [some (.ref t), some (.ref c), some (.ref y), some (.int (nI f)), some (.int (nI (Wd f))), some (.int (nI (Wd f - s.2.1 f))), some (.int (nI k)), o7] [] (h, z) Q
  | 0, k, h, C2, o7, hk, hc, hc0, hj0, hg, hX => by
    have htx : TxI h t T l fk fp s := ht.fr (fun x x1 x2 => hg x (by omega))
    have hyx : LyAt h y P Wd := hy.fr (fun x x1 x2 => hg x (by omega))
    have htq := htx
    have hyq := hyx
    obtain ⟨g2, g3, ht1, ht2, ht3, ht4, ht5, ht6⟩ := htq
    obtain ⟨f2, f3, hy1, -⟩ := hyq
    have hcx := hc
    obtain ⟨hc1, hc2⟩ := hcx
    have hpw := hPW f (by omega)
    have hw := (hO.2 f hf).1
    have hv := (hO.2 f hf).2
    obtain rfl : k = Wd f := by omega
    refine R_iload (pc := 20) dX9_punchNumber_20 rfl ?_
    refine R_iload (pc := 22) dX9_punchNumber_22 rfl ?_
    refine R_icmp_ge (pc := 24) (t := 79) dX9_punchNumber_24 (by decide) (fun _ => ?_) (fun hz9 => absurd (nI_le (by omega) (by omega)) hz9)
    refine R_vret (pc := 79) dX9_punchNumber_79 rfl ?_
    refine hX h C2 hc hc0 (fun j hj => ?_) hg
    rw [hj0 j hj]
    rfl
  | n + 1, k, h, C2, o7, hk, hc, hc0, hj0, hg, hX => by
    have htx : TxI h t T l fk fp s := ht.fr (fun x x1 x2 => hg x (by omega))
    have hyx : LyAt h y P Wd := hy.fr (fun x x1 x2 => hg x (by omega))
    have htq := htx
    have hyq := hyx
    obtain ⟨g2, g3, ht1, ht2, ht3, ht4, ht5, ht6⟩ := htq
    obtain ⟨f2, f3, hy1, -⟩ := hyq
    have hcx := hc
    obtain ⟨hc1, hc2⟩ := hcx
    have hpw := hPW f (by omega)
    have hw := (hO.2 f hf).1
    have hv := (hO.2 f hf).2
    by_cases hz : k < Wd f - s.2.1 f
    · have D0 : nI (dgA Wd s.2.2.1 f k) = nI 0 := by unfold dgA; rw [dg_ld hv (by omega)]
      refine R_iload (pc := 20) dX9_punchNumber_20 rfl ?_
      refine R_iload (pc := 22) dX9_punchNumber_22 rfl ?_
      refine R_icmp_ge (pc := 24) (t := 79) dX9_punchNumber_24 (by decide) (fun hz9 => absurd hz9 (nI_ge (by omega) (by omega))) (fun _ => ?_)
      refine R_iload (pc := 27) dX9_punchNumber_27 rfl ?_
      refine R_iload (pc := 29) dX9_punchNumber_29 rfl ?_
      refine R_icmp_ge (pc := 31) (t := 38) dX9_punchNumber_31 (by decide) (fun hz9 => absurd hz9 (nI_ge (by omega) (by omega))) (fun _ => ?_)
      refine R_iconst (pc := 34) (x := nI 0) dX9_punchNumber_34 rfl ?_
      refine R_goto (pc := 35) (t := 57) dX9_punchNumber_35 (by decide) ?_
      refine R_istore (pc := 57) dX9_punchNumber_57 (Nat.le_of_ble_eq_true rfl) rfl ?_
      refine R_aload_n (pc := 59) dX9_punchNumber_59 rfl ?_
      refine R_aload_n (pc := 60) dX9_punchNumber_60 rfl ?_
      refine R_iload_n (pc := 61) dX9_punchNumber_61 rfl ?_
      refine R_callV (pc := 62) dX9_punchNumber_62 rfl hy1 rfl rfl ?_
      refine c3_firstOf hyx (by omega) ?_
      refine R_iload (pc := 65) dX9_punchNumber_65 rfl ?_
      refine R_iadd (pc := 67) dX9_punchNumber_67 ?_
      refine R_iload (pc := 68) dX9_punchNumber_68 rfl ?_
      refine R_callV (pc := 70) dX9_punchNumber_70 rfl hc1 rfl rfl ?_
      rw [nI_add]
      refine c0_show hc (k := P f + k) (by omega) (fun h2 q1 q2 => ?_)
      have q3 : (upd C2.1 (P f + k) (nI 0), C2.2).2 = C.2 := hc0
      refine R_iinc (pc := 73) dX9_punchNumber_73 rfl (by first | exact nI_inc _ | rfl) rfl ?_
      refine R_goto (pc := 76) (t := 20) dX9_punchNumber_76 (by decide) ?_
      refine lc9_pn ht hT hl hy hct hcy hPW hO hf h0 n (k + 1) h2 _ _ (by omega) q1 q3 (fun j hj => ?_) (fun a ha => (q2 a ha).trans (hg a ha)) hX
      show upd C2.1 (P f + k) _ j = _
      by_cases e : j = P f + k
      · subst e
        rw [upd_s, if_pos (by omega), show P f + k - P f = k by omega]
        first | done | exact D0.symm
      · rw [upd_n e, hj0 j hj]
        by_cases e2 : P f ≤ j ∧ j < P f + k
        · rw [if_pos e2, if_pos (by omega)]
        · rw [if_neg e2, if_neg (by omega)]
    · have D1 : nI (48 + s.2.2.1 f / 10 ^ (s.2.1 f - 1 - (k - (Wd f - s.2.1 f))) % 10) - nI 48 = nI (dgA Wd s.2.2.1 f k) := by
        unfold dgA
        rw [pk_sub (by omega), show s.2.1 f - 1 - (k - (Wd f - s.2.1 f)) = Wd f - 1 - k by omega, Nat.add_sub_cancel_left]
      refine R_iload (pc := 20) dX9_punchNumber_20 rfl ?_
      refine R_iload (pc := 22) dX9_punchNumber_22 rfl ?_
      refine R_icmp_ge (pc := 24) (t := 79) dX9_punchNumber_24 (by decide) (fun hz9 => absurd hz9 (nI_ge (by omega) (by omega))) (fun _ => ?_)
      refine R_iload (pc := 27) dX9_punchNumber_27 rfl ?_
      refine R_iload (pc := 29) dX9_punchNumber_29 rfl ?_
      refine R_icmp_ge (pc := 31) (t := 38) dX9_punchNumber_31 (by decide) (fun _ => ?_) (fun hz9 => absurd (nI_le (by omega) (by omega)) hz9)
      refine R_aload_n (pc := 38) dX9_punchNumber_38 rfl ?_
      refine R_aload_n (pc := 39) dX9_punchNumber_39 rfl ?_
      refine R_getf (pc := 40) dX9_punchNumber_40 rfl (by repeat (first | assumption | exact up_s | refine up_n (by omega) ?_)) rfl ?_
      refine R_iload_n (pc := 43) dX9_punchNumber_43 rfl ?_
      refine R_iald (pc := 44) dX9_punchNumber_44 (by repeat (first | assumption | exact up_s | refine up_n (by omega) ?_)) (Or.inl rfl) (by first | with_reducible rfl | (simp only [nI_add, pk_mul]; exact rfl)) (by omega) (by decide) ?_
      refine R_iload (pc := 45) dX9_punchNumber_45 rfl ?_
      refine R_iadd (pc := 47) dX9_punchNumber_47 ?_
      refine R_iload (pc := 48) dX9_punchNumber_48 rfl ?_
      refine R_isub (pc := 50) dX9_punchNumber_50 ?_
      refine R_callV (pc := 51) dX9_punchNumber_51 rfl (by repeat (first | assumption | exact up_s | refine up_n (by omega) ?_)) rfl rfl ?_
      rw [ht6 f hf (Or.inl h0), nI_add, pk_sub (by omega), show s.2.2.2 f + k - (Wd f - s.2.1 f) = s.2.2.2 f + (k - (Wd f - s.2.1 f)) by omega]
      refine c9_at htx ((hT f hf).1 (k - (Wd f - s.2.1 f)) (by omega)).1 hl ?_
      rw [((hT f hf).1 (k - (Wd f - s.2.1 f)) (by omega)).2]
      refine R_bipush (pc := 54) (x := nI 48) dX9_punchNumber_54 (by decide) ?_
      refine R_isub (pc := 56) dX9_punchNumber_56 ?_
      rw [D1]
      refine R_istore (pc := 57) dX9_punchNumber_57 (Nat.le_of_ble_eq_true rfl) rfl ?_
      refine R_aload_n (pc := 59) dX9_punchNumber_59 rfl ?_
      refine R_aload_n (pc := 60) dX9_punchNumber_60 rfl ?_
      refine R_iload_n (pc := 61) dX9_punchNumber_61 rfl ?_
      refine R_callV (pc := 62) dX9_punchNumber_62 rfl hy1 rfl rfl ?_
      refine c3_firstOf hyx (by omega) ?_
      refine R_iload (pc := 65) dX9_punchNumber_65 rfl ?_
      refine R_iadd (pc := 67) dX9_punchNumber_67 ?_
      refine R_iload (pc := 68) dX9_punchNumber_68 rfl ?_
      refine R_callV (pc := 70) dX9_punchNumber_70 rfl hc1 rfl rfl ?_
      rw [nI_add]
      refine c0_show hc (k := P f + k) (by omega) (fun h2 q1 q2 => ?_)
      have q3 : (upd C2.1 (P f + k) (nI (dgA Wd s.2.2.1 f k)), C2.2).2 = C.2 := hc0
      refine R_iinc (pc := 73) dX9_punchNumber_73 rfl (by first | exact nI_inc _ | rfl) rfl ?_
      refine R_goto (pc := 76) (t := 20) dX9_punchNumber_76 (by decide) ?_
      refine lc9_pn ht hT hl hy hct hcy hPW hO hf h0 n (k + 1) h2 _ _ (by omega) q1 q3 (fun j hj => ?_) (fun a ha => (q2 a ha).trans (hg a ha)) hX
      show upd C2.1 (P f + k) _ j = _
      by_cases e : j = P f + k
      · subst e
        rw [upd_s, if_pos (by omega), show P f + k - P f = k by omega]
        done
      · rw [upd_n e, hj0 j hj]
        by_cases e2 : P f ≤ j ∧ j < P f + k
        · rw [if_pos e2, if_pos (by omega)]
        · rw [if_neg e2, if_neg (by omega)]
theorem c9_punchNumber {t l c y f : Nat} {T : Nat → Int32} {fk fp : Int32} {s : TS} {P Wd : Nat → Nat} {C : CdX}  (ht : TxI h t T l fk fp s) (hT : TsT T l s) (hl : l ≤ 50) (hy : LyAt h y P Wd) (hct : c + 2 ≤ t ∨ t + 4 ≤ c) (hcy : c + 2 ≤ y ∨ y + 3 ≤ c) (hPW : ∀ f, f < 6 → P f + Wd f ≤ 24) (hO : TsOK Wd s) (hf : f < 5) (h0 : 0 < s.2.1 f) (hc : CdAt h c C) (hX : (∀ h2 : Nat → Option am_C, ∀ C2 : CdX, CdAt h2 c C2 → C2.2 = C.2 → (∀ j, j < 24 → C2.1 j = psK P Wd s.2.2.1 f C.1 j) → (∀ a, ¬ a = c + 1 → h2 a = h a) → Q none (h2, z))) : Rn sA mX9_punchNumber 0 [some (.ref t), some (.ref c), some (.ref y), some (.int (nI f)), none, none, none, none] [] (h, z) Q := by
  have htq := ht
  have hyq := hy
  obtain ⟨g2, g3, ht1, -⟩ := htq
  obtain ⟨f2, f3, hy1, -⟩ := hyq
  refine R_aload_n (pc := 0) dX9_punchNumber_0 rfl ?_
  refine R_iload_n (pc := 1) dX9_punchNumber_1 rfl ?_
  refine R_callV (pc := 2) dX9_punchNumber_2 rfl hy1 rfl rfl ?_
  refine c3_widthOf hy (by omega) ?_
  refine R_istore (pc := 5) dX9_punchNumber_5 (Nat.le_of_ble_eq_true rfl) rfl ?_
  refine R_iload (pc := 7) dX9_punchNumber_7 rfl ?_
  refine R_aload_n (pc := 9) dX9_punchNumber_9 rfl ?_
  refine R_iload_n (pc := 10) dX9_punchNumber_10 rfl ?_
  refine R_callV (pc := 11) dX9_punchNumber_11 rfl ht1 rfl rfl ?_
  refine c9_digitsOf ht hf ?_
  refine R_isub (pc := 14) dX9_punchNumber_14 ?_
  rw [pk_sub (hO.2 f hf).1]
  refine R_istore (pc := 15) dX9_punchNumber_15 (Nat.le_of_ble_eq_true rfl) rfl ?_
  refine R_iconst (pc := 17) (x := nI 0) dX9_punchNumber_17 rfl ?_
  refine R_istore (pc := 18) dX9_punchNumber_18 (Nat.le_of_ble_eq_true rfl) rfl ?_
  refine lc9_pn (g := h) ht hT hl hy hct hcy hPW hO hf h0 (Wd f) 0 h C none (by omega) hc rfl (fun j hj => by rw [if_neg (by omega)]) (fun _ _ => rfl) hX
theorem lc9_po {t l c y : Nat} {T : Nat → Int32} {fk fp : Int32} {s : TS} {P Wd : Nat → Nat} {C : CdX} {g : Nat → Option am_C} (ht : TxI g t T l fk fp s) (hT : TsT T l s) (hl : l ≤ 50) (hy : LyAt g y P Wd) (hct : c + 2 ≤ t ∨ t + 4 ≤ c) (hcy : c + 2 ≤ y ∨ y + 3 ≤ c) (hPW : ∀ f, f < 6 → P f + Wd f ≤ 24) (hO : TsOK Wd s) (hW : ∀ f, f < 6 → Wd f ≤ 4) : ∀ (n f : Nat) (h : Nat → Option am_C) (C2 : CdX) (_ : f + n = 5) (_ : CdAt h c C2) (_ : C2.2 = C.2) (_ : ∀ a, ¬ a = c + 1 → h a = g a) (_ : (∀ h2 : Nat → Option am_C, ∀ C3 : CdX, CdAt h2 c C3 → C3.2 = C.2 → (∀ j, j < 24 → C3.1 j = psO P Wd s.2.1 s.2.2.1 n f C2.1 j) → (∀ a, ¬ a = c + 1 → h2 a = g a) → Q none (h2, z))), Rn sA mX9_punchOn 2 [some (.ref t), some (.ref c), some (.ref y), some (.int (nI f))] [] (h, z) Q
  | 0, f, h, C2, hk, hc, hc0, hg, hX => by
    obtain rfl : f = 5 := by omega
    have htx : TxI h t T l fk fp s := ht.fr (fun x x1 x2 => hg x (by omega))
    have hyx : LyAt h y P Wd := hy.fr (fun x x1 x2 => hg x (by omega))
    have htq := htx
    obtain ⟨g2, g3, ht1, ht2, ht3, ht4, ht5, ht6⟩ := htq
    refine R_iload_n (pc := 2) dX9_punchOn_2 rfl ?_
    refine R_iconst (pc := 3) (x := nI 5) dX9_punchOn_3 rfl ?_
    refine R_icmp_ge (pc := 4) (t := 29) dX9_punchOn_4 (by decide) (fun _ => ?_) (fun hz9 => absurd (nI_le (by omega) (by omega)) hz9)
    refine R_vret (pc := 29) dX9_punchOn_29 rfl ?_
    exact hX h C2 hc hc0 (fun j hj => rfl) hg
  | n + 1, f, h, C2, hk, hc, hc0, hg, hX => by
    have htx : TxI h t T l fk fp s := ht.fr (fun x x1 x2 => hg x (by omega))
    have hyx : LyAt h y P Wd := hy.fr (fun x x1 x2 => hg x (by omega))
    have htq := htx
    obtain ⟨g2, g3, ht1, ht2, ht3, ht4, ht5, ht6⟩ := htq
    have d4 : s.2.1 f ≤ 4 := by have := (hO.2 f (by omega)).1; have := hW f (by omega); omega
    by_cases h0 : s.2.1 f = 0
    · have eX : psO P Wd s.2.1 s.2.2.1 (n + 1) f C2.1 = psO P Wd s.2.1 s.2.2.1 n (f + 1) C2.1 := by show psO P Wd s.2.1 s.2.2.1 n (f + 1) (if s.2.1 f = 0 then _ else _) = _; rw [if_pos h0]
      rw [eX] at hX
      refine R_iload_n (pc := 2) dX9_punchOn_2 rfl ?_
      refine R_iconst (pc := 3) (x := nI 5) dX9_punchOn_3 rfl ?_
      refine R_icmp_ge (pc := 4) (t := 29) dX9_punchOn_4 (by decide) (fun hz9 => absurd hz9 (nI_ge (by omega) (by omega))) (fun _ => ?_)
      refine R_aload_n (pc := 7) dX9_punchOn_7 rfl ?_
      refine R_getf (pc := 8) dX9_punchOn_8 rfl (by repeat (first | assumption | exact up_s | refine up_n (by omega) ?_)) rfl ?_
      refine R_iload_n (pc := 11) dX9_punchOn_11 rfl ?_
      refine R_iald (pc := 12) dX9_punchOn_12 (by repeat (first | assumption | exact up_s | refine up_n (by omega) ?_)) (Or.inl rfl) (by first | with_reducible rfl | (simp only [nI_add, pk_mul]; exact rfl)) (by omega) (by decide) ?_
      refine R_if_le (pc := 13) (t := 23) dX9_punchOn_13 (by decide) (fun _ => ?_) (fun hz9 => absurd (by rw [ht5 f (by omega), h0]; decide) hz9)
      refine R_iinc (pc := 23) dX9_punchOn_23 rfl (by first | exact nI_inc _ | rfl) rfl ?_
      refine R_goto (pc := 26) (t := 2) dX9_punchOn_26 (by decide) ?_
      exact lc9_po ht hT hl hy hct hcy hPW hO hW n (f + 1) h C2 (by omega) hc hc0 hg hX
    · have eX : psO P Wd s.2.1 s.2.2.1 (n + 1) f C2.1 = psO P Wd s.2.1 s.2.2.1 n (f + 1) (psK P Wd s.2.2.1 f C2.1) := by show psO P Wd s.2.1 s.2.2.1 n (f + 1) (if s.2.1 f = 0 then _ else _) = _; rw [if_neg h0]
      rw [eX] at hX
      refine R_iload_n (pc := 2) dX9_punchOn_2 rfl ?_
      refine R_iconst (pc := 3) (x := nI 5) dX9_punchOn_3 rfl ?_
      refine R_icmp_ge (pc := 4) (t := 29) dX9_punchOn_4 (by decide) (fun hz9 => absurd hz9 (nI_ge (by omega) (by omega))) (fun _ => ?_)
      refine R_aload_n (pc := 7) dX9_punchOn_7 rfl ?_
      refine R_getf (pc := 8) dX9_punchOn_8 rfl (by repeat (first | assumption | exact up_s | refine up_n (by omega) ?_)) rfl ?_
      refine R_iload_n (pc := 11) dX9_punchOn_11 rfl ?_
      refine R_iald (pc := 12) dX9_punchOn_12 (by repeat (first | assumption | exact up_s | refine up_n (by omega) ?_)) (Or.inl rfl) (by first | with_reducible rfl | (simp only [nI_add, pk_mul]; exact rfl)) (by omega) (by decide) ?_
      refine R_if_le (pc := 13) (t := 23) dX9_punchOn_13 (by decide) (fun hz9 => absurd hz9 (by rw [ht5 f (by omega)]; exact nI_nle (by omega) (by omega))) (fun _ => ?_)
      refine R_aload_n (pc := 16) dX9_punchOn_16 rfl ?_
      refine R_aload_n (pc := 17) dX9_punchOn_17 rfl ?_
      refine R_aload_n (pc := 18) dX9_punchOn_18 rfl ?_
      refine R_iload_n (pc := 19) dX9_punchOn_19 rfl ?_
      refine R_callV (pc := 20) dX9_punchOn_20 rfl (by repeat (first | assumption | exact up_s | refine up_n (by omega) ?_)) rfl rfl ?_
      refine c9_punchNumber htx hT hl hyx hct hcy hPW hO (by omega) (by omega) hc (fun h2 C3 q1 q2 q3 q4 => ?_)
      refine R_iinc (pc := 23) dX9_punchOn_23 rfl (by first | exact nI_inc _ | rfl) rfl ?_
      refine R_goto (pc := 26) (t := 2) dX9_punchOn_26 (by decide) ?_
      exact lc9_po ht hT hl hy hct hcy hPW hO hW n (f + 1) h2 C3 (by omega) q1 (q2.trans hc0) (fun a ha => (q4 a ha).trans (hg a ha)) (fun h3 C4 r1 r2 r3 r4 => hX h3 C4 r1 r2 (fun j hj => (r3 j hj).trans (psO_congr n (f + 1) _ _ q3 j hj)) r4)
theorem c9_punchOn {t l c y : Nat} {T : Nat → Int32} {fk fp : Int32} {s : TS} {P Wd : Nat → Nat} {C : CdX}  (ht : TxI h t T l fk fp s) (hT : TsT T l s) (hl : l ≤ 50) (hy : LyAt h y P Wd) (hct : c + 2 ≤ t ∨ t + 4 ≤ c) (hcy : c + 2 ≤ y ∨ y + 3 ≤ c) (hPW : ∀ f, f < 6 → P f + Wd f ≤ 24) (hO : TsOK Wd s) (hW : ∀ f, f < 6 → Wd f ≤ 4) (hc : CdAt h c C) (hX : ∀ h2 : Nat → Option am_C, ∀ C3 : CdX, CdAt h2 c C3 → C3.2 = C.2 → (∀ j, j < 24 → C3.1 j = psO P Wd s.2.1 s.2.2.1 5 0 C.1 j) → (∀ a, ¬ a = c + 1 → h2 a = h a) → Q none (h2, z)) : Rn sA mX9_punchOn 0 [some (.ref t), some (.ref c), some (.ref y), none] [] (h, z) Q := by
  refine R_iconst (pc := 0) (x := nI 0) dX9_punchOn_0 rfl ?_
  refine R_istore_n (pc := 1) dX9_punchOn_1 (Nat.le_of_ble_eq_true rfl) rfl ?_
  exact lc9_po (g := h) ht hT hl hy hct hcy hPW hO hW 5 0 h C (by omega) hc rfl (fun _ _ => rfl) hX
theorem c9_size {t l : Nat} {T : Nat → Int32} {fk fp : Int32} (ht : TxW h t T l fk fp) (hQ : Q (some (.int (nI l))) (h, z)) : Rn sA mX9_size 0 [some (.ref t)] [] (h, z) Q := by
  have ht9 := ht
  obtain ⟨g2, g3, wv, ht1, ht2, ht3, ht4⟩ := ht9
  refine R_aload_n (pc := 0) dX9_size_0 rfl ?_
  refine R_getf (pc := 1) dX9_size_1 rfl (by repeat (first | assumption | exact up_s | refine up_n (by omega) ?_)) rfl ?_
  refine R_iret (pc := 4) dX9_size_4 rfl ?_
  exact hQ
theorem c9_clear {t l : Nat} {T : Nat → Int32} {fk fp : Int32} (ht : TxW h t T l fk fp) (hQ : ∀ h2 : Nat → Option am_C, TxW h2 t T 0 fk fp → (∀ a, (a < t ∨ t + 4 ≤ a) → h2 a = h a) → Q none (h2, z)) : Rn sA mX9_clear 0 [some (.ref t)] [] (h, z) Q := by
  have ht9 := ht
  obtain ⟨g2, g3, wv, ht1, ht2, ht3, ht4⟩ := ht9
  refine R_aload_n (pc := 0) dX9_clear_0 rfl ?_
  refine R_iconst (pc := 1) (x := nI 0) dX9_clear_1 rfl ?_
  refine R_putf (pc := 2) dX9_clear_2 rfl (by repeat (first | assumption | exact up_s | refine up_n (by omega) ?_)) rfl (Or.inl rfl) rfl ?_
  refine R_vret (pc := 5) dX9_clear_5 rfl ?_
  exact hQ _ ⟨g2, g3, wv, up_s, up_n (by omega) ht2, up_n (by omega) ht3, up_n (by omega) ht4⟩ (fun a ha => up_n (by omega) rfl)
theorem c9_append {t l : Nat} {T : Nat → Int32} {fk fp : Int32} {x : Int32} (ht : TxW h t T l fk fp) (hl : l < 50) (hQ : ∀ h2 : Nat → Option am_C, TxW h2 t (upd T l x) (l + 1) fk fp → (∀ a, (a < t ∨ t + 4 ≤ a) → h2 a = h a) → Q none (h2, z)) : Rn sA mX9_append 0 [some (.ref t), some (.int x)] [] (h, z) Q := by
  have ht9 := ht
  obtain ⟨g2, g3, wv, ht1, ht2, ht3, ht4⟩ := ht9
  refine R_aload_n (pc := 0) dX9_append_0 rfl ?_
  refine R_getf (pc := 1) dX9_append_1 rfl (by repeat (first | assumption | exact up_s | refine up_n (by omega) ?_)) rfl ?_
  refine R_bipush (pc := 4) (x := nI 50) dX9_append_4 (by decide) ?_
  refine R_icmp_ge (pc := 6) (t := 29) dX9_append_6 (by decide) (fun hz9 => absurd hz9 (nI_ge (by omega) (by omega))) (fun _ => ?_)
  refine R_aload_n (pc := 9) dX9_append_9 rfl ?_
  refine R_getf (pc := 10) dX9_append_10 rfl (by repeat (first | assumption | exact up_s | refine up_n (by omega) ?_)) rfl ?_
  refine R_aload_n (pc := 13) dX9_append_13 rfl ?_
  refine R_getf (pc := 14) dX9_append_14 rfl (by repeat (first | assumption | exact up_s | refine up_n (by omega) ?_)) rfl ?_
  refine R_iload_n (pc := 17) dX9_append_17 rfl ?_
  refine R_iast (pc := 18) dX9_append_18 (by repeat (first | assumption | exact up_s | refine up_n (by omega) ?_)) (by first | with_reducible rfl | (simp only [nI_add, pk_mul]; exact rfl)) (by omega) (by decide) ?_
  refine R_aload_n (pc := 19) dX9_append_19 rfl ?_
  refine R_dup (pc := 20) dX9_append_20 rfl ?_
  refine R_getf (pc := 21) dX9_append_21 rfl (by repeat (first | assumption | exact up_s | refine up_n (by omega) ?_)) rfl ?_
  refine R_iconst (pc := 24) (x := nI 1) dX9_append_24 rfl ?_
  refine R_iadd (pc := 25) dX9_append_25 ?_
  refine R_putf (pc := 26) dX9_append_26 rfl (by repeat (first | assumption | exact up_s | refine up_n (by omega) ?_)) rfl (Or.inl rfl) rfl ?_
  refine R_vret (pc := 29) dX9_append_29 rfl ?_
  rw [nI_add]
  exact hQ _ ⟨g2, g3, wv, up_s, up_n (by omega) up_s, up_n (by omega) (up_n (by omega) ht3), up_n (by omega) (up_n (by omega) ht4)⟩ (fun a ha => by rw [up_n (by omega) rfl, up_n (by omega) rfl])
theorem c9_init {t x : Nat} (ht : h t = some (.inr (9, am_bl 9))) (hQ : ∀ h2 : Nat → Option am_C, TxW h2 t (fun _ => 0) 0 (-1000009) (-1000009) → (∀ a, (a < t ∨ t + 4 ≤ a) → h2 a = h a) → Q none (h2, t + 4, x + 60)) : Rn sA mX9_init 0 [some (.ref t)] [] (h, t + 1, x) Q := by
  refine R_aload_n (pc := 0) dX9_init_0 rfl ?_
  refine R_obj (pc := 1) dX9_init_1 rfl rfl ⟨Nat.le_of_ble_eq_true rfl, Nat.le_of_ble_eq_true rfl⟩ ?_
  refine R_aload_n (pc := 4) dX9_init_4 rfl ?_
  refine R_bipush (pc := 5) (x := nI 50) dX9_init_5 (by decide) ?_
  refine R_newa (pc := 7) dX9_init_7 rfl (by decide) ?_
  refine R_putf (pc := 9) dX9_init_9 rfl (by repeat (first | assumption | exact up_s | refine up_n (by omega) ?_)) rfl (Or.inr ⟨by decide, rfl⟩) rfl ?_
  refine R_aload_n (pc := 12) dX9_init_12 rfl ?_
  refine R_iconst (pc := 13) (x := nI 5) dX9_init_13 rfl ?_
  refine R_newa (pc := 14) dX9_init_14 rfl (by decide) ?_
  refine R_putf (pc := 16) dX9_init_16 rfl (by repeat (first | assumption | exact up_s | refine up_n (by omega) ?_)) rfl (Or.inr ⟨by decide, rfl⟩) rfl ?_
  refine R_aload_n (pc := 19) dX9_init_19 rfl ?_
  refine R_iconst (pc := 20) (x := nI 5) dX9_init_20 rfl ?_
  refine R_newa (pc := 21) dX9_init_21 rfl (by decide) ?_
  refine R_putf (pc := 23) dX9_init_23 rfl (by repeat (first | assumption | exact up_s | refine up_n (by omega) ?_)) rfl (Or.inr ⟨by decide, rfl⟩) rfl ?_
  refine R_aload_n (pc := 26) dX9_init_26 rfl ?_
  refine R_ldc (pc := 27) (x := (-1000009)) dX9_init_27 rfl ?_
  refine R_putf (pc := 29) dX9_init_29 rfl (by repeat (first | assumption | exact up_s | refine up_n (by omega) ?_)) rfl (Or.inr ⟨by decide, rfl⟩) rfl ?_
  refine R_aload_n (pc := 32) dX9_init_32 rfl ?_
  refine R_ldc (pc := 33) (x := (-1000009)) dX9_init_33 rfl ?_
  refine R_putf (pc := 35) dX9_init_35 rfl (by repeat (first | assumption | exact up_s | refine up_n (by omega) ?_)) rfl (Or.inr ⟨by decide, rfl⟩) rfl ?_
  refine R_vret (pc := 38) dX9_init_38 rfl ?_
  refine Q_z (a' := t + 4) (b' := x + 60) (by show _ = t + 1 + 1 + 1 + 1; omega) (by show _ = x + 50 + 5 + 5; omega) ?_
  refine hQ _ ⟨fun _ => 0, fun _ => 0, 0, up_s, (by repeat (first | exact up_s | refine up_n (by omega) ?_)), (by repeat (first | exact up_s | refine up_n (by omega) ?_)), (by repeat (first | exact up_s | refine up_n (by omega) ?_))⟩ (fun a ha => ?_)
  simp only [va_up]
  repeat rw [if_neg (by omega)]
end CC9
