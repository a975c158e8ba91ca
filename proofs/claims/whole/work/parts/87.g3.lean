section CG3
variable {sA : Nat} {h : Nat → Option am_C} {z : Nat × Nat} {Q : Option Value → am_H → Prop}
theorem pk_lt4 {L k : Nat} (hL : L ≤ 2048) (hk : k ≤ 4000) : nI L - nI 4 < nI k ↔ L < k + 4 := by
  rw [Int32.lt_iff_toInt_lt, pk_sub_toInt (by omega) (by omega), nI_toInt (by omega)]
  omega
/-- the law has answered 1, in its room -/
def QL (x w0 : Nat) (r : Option Value) (H : am_H) : Prop := r = some (.int 1) ∧ H.2.1 ≤ x + 2000 ∧ H.2.2 ≤ w0 + 70000
theorem law_loop {b L x Y w0 : Nat} {xs gs : Nat → Int32} (hL : L ≤ 2048) (hbx : b < x) (hsA : sA < x) (hgs : ∀ k, k < 4 → gs k = nI (if k = 0 then 2 else if k = 1 then 1 else 9999)) (hY : Y ≤ w0 + 40000) : ∀ (n k : Nat) (h : Nat → Option am_C) (z : Nat × Nat) (A : Nat → Nat → Int32) (S : Nat → Int32) (pm fl l : Nat) (o4 o5 o6 o7 : Option Value) (_ : L < k + 4 * n + 4) (_ : k + 4 * n ≤ 4000) (_ : putM h (x + 158) A S = h) (_ : LX b L xs gs sA x Y h z A S pm fl l), Rn sA mL_law 18 [some (.ref b), some (.ref x), some (.ref (x + 158)), some (.int (nI k)), o4, o5, o6, o7] [] (h, z) (QL x w0)
  | 0, k, h, z, A, S, pm, fl, l, o4, o5, o6, o7, hn, hk, hp, lx => by
    have hb := lx.1
    refine R_iload_n (pc := 18) dL_law_18 rfl ?_
    refine R_aload_n (pc := 19) dL_law_19 rfl ?_
    refine R_alen (pc := 20) dL_law_20 hb (Or.inr rfl) ?_
    refine R_iconst (pc := 21) (x := nI 4) dL_law_21 rfl ?_
    refine R_isub (pc := 22) dL_law_22 ?_
    refine R_icmp_gt (pc := 23) (t := 1011) dL_law_23 (by decide) (fun _ => ?_) (fun hz9 => absurd ((pk_lt4 hL (by omega)).mpr (by omega)) hz9)
    refine R_iconst (pc := 1011) (x := nI 1) dL_law_1011 rfl ?_
    refine R_zret (pc := 1012) dL_law_1012 rfl (by decide) ?_
    refine ⟨rfl, ?_, ?_⟩
    · have q := lx.2.2.2.1
      obtain ⟨_, _, ⟨_, F, _, _, q⟩, _⟩ := q
      have := cF_le (F := F) 10
      show z.1 ≤ x + 2000
      rw [q.2.2.1]
      omega
    · have q := lx.2.2.2.1
      obtain ⟨_, _, ⟨_, F, _, _, q⟩, _⟩ := q
      have := cF_le (F := F) 10
      show z.2 ≤ w0 + 70000
      rw [q.2.2.2]
      omega
  | n + 1, k, h, z, A, S, pm, fl, l, o4, o5, o6, o7, hn, hk, hp, lx => by
    by_cases hend : L < k + 4
    · have hb := lx.1
      refine R_iload_n (pc := 18) dL_law_18 rfl ?_
      refine R_aload_n (pc := 19) dL_law_19 rfl ?_
      refine R_alen (pc := 20) dL_law_20 hb (Or.inr rfl) ?_
      refine R_iconst (pc := 21) (x := nI 4) dL_law_21 rfl ?_
      refine R_isub (pc := 22) dL_law_22 ?_
      refine R_icmp_gt (pc := 23) (t := 1011) dL_law_23 (by decide) (fun _ => ?_) (fun hz9 => absurd ((pk_lt4 hL (by omega)).mpr (by omega)) hz9)
      refine R_iconst (pc := 1011) (x := nI 1) dL_law_1011 rfl ?_
      refine R_zret (pc := 1012) dL_law_1012 rfl (by decide) ?_
      refine ⟨rfl, ?_, ?_⟩
      · have q := lx.2.2.2.1
        obtain ⟨_, _, ⟨_, F, _, _, q⟩, _⟩ := q
        have := cF_le (F := F) 10
        show z.1 ≤ x + 2000
        rw [q.2.2.1]
        omega
      · have q := lx.2.2.2.1
        obtain ⟨_, _, ⟨_, F, _, _, q⟩, _⟩ := q
        have := cF_le (F := F) 10
        show z.2 ≤ w0 + 70000
        rw [q.2.2.2]
        omega
    · have hb := lx.1
      have nxt : ∀ (h' : Nat → Option am_C) (z' : Nat × Nat) (A' : Nat → Nat → Int32) (S' : Nat → Int32) (pm' fl' l' : Nat) (o4 o5 o6 o7 : Option Value), putM h' (x + 158) A' S' = h' → LX b L xs gs sA x Y h' z' A' S' pm' fl' l' → Rn sA mL_law 1005 [some (.ref b), some (.ref x), some (.ref (x + 158)), some (.int (nI k)), o4, o5, o6, o7] [] (h', z') (QL x w0) := by
        intro h' z' A' S' pm' fl' l' o4 o5 o6 o7 e1 e2
        refine R_iinc (pc := 1005) dL_law_1005 rfl (show nI k + Int32.ofInt 4 = nI (k + 4) from nI_add k 4) rfl ?_
        refine R_goto (pc := 1008) (t := 18) dL_law_1008 (by decide) ?_
        exact law_loop hL hbx hsA hgs hY n (k + 4) h' z' A' S' pm' fl' l' o4 o5 o6 o7 (by omega) (by omega) e1 e2
      refine R_iload_n (pc := 18) dL_law_18 rfl ?_
      refine R_aload_n (pc := 19) dL_law_19 rfl ?_
      refine R_alen (pc := 20) dL_law_20 hb (Or.inr rfl) ?_
      refine R_iconst (pc := 21) (x := nI 4) dL_law_21 rfl ?_
      refine R_isub (pc := 22) dL_law_22 ?_
      refine R_icmp_gt (pc := 23) (t := 1011) dL_law_23 (by decide) (fun hz9 => absurd hz9 (fun q => absurd ((pk_lt4 hL (by omega)).mp q) (by omega))) (fun _ => ?_)
      refine R_aload_n (pc := 26) dL_law_26 rfl ?_
      refine R_iload_n (pc := 27) dL_law_27 rfl ?_
      refine R_iald (pc := 28) dL_law_28 hb (Or.inr rfl) rfl (by omega) (by omega) ?_
      refine R_bipush (pc := 29) (x := nI 31) dL_law_29 (by decide) ?_
      refine R_iand (pc := 31) dL_law_31 ?_
      obtain ⟨j, hj, ej⟩ := pk_andE (xs k) (m := nI 31) 5 (by decide)
      rw [ej]
      rcases (by omega : j = 0 ∨ j = 1 ∨ j = 2 ∨ j = 3 ∨ j = 4 ∨ j = 5 ∨ j = 6 ∨ j = 7 ∨ j = 8 ∨ j = 9 ∨ j = 10 ∨ j = 11 ∨ j = 12 ∨ j = 13 ∨ j = 14 ∨ j = 15 ∨ j = 16 ∨ j = 17 ∨ j = 18 ∨ j = 19 ∨ j = 20 ∨ j = 21 ∨ j = 22 ∨ j = 23 ∨ j = 24 ∨ j = 25 ∨ j = 26 ∨ j = 27 ∨ j = 28 ∨ j = 29 ∨ j = 30 ∨ j = 31) with rfl | rfl | rfl | rfl | rfl | rfl | rfl | rfl | rfl | rfl | rfl | rfl | rfl | rfl | rfl | rfl | rfl | rfl | rfl | rfl | rfl | rfl | rfl | rfl | rfl | rfl | rfl | rfl | rfl | rfl | rfl | rfl
      · refine R_tswI (pc := 32) (off := 140) (t := 172) dL_law_32 (by decide) (by decide) (by decide) ?_
        exact law_c0 (by omega) hL hbx hsA hgs hp lx nxt
      · refine R_tswI (pc := 32) (off := 183) (t := 215) dL_law_32 (by decide) (by decide) (by decide) ?_
        exact law_c1 (by omega) hL hbx hsA hgs hp lx nxt
      · refine R_tswI (pc := 32) (off := 216) (t := 248) dL_law_32 (by decide) (by decide) (by decide) ?_
        exact law_c2 (by omega) hL hbx hsA hgs hp lx nxt
      · refine R_tswI (pc := 32) (off := 249) (t := 281) dL_law_32 (by decide) (by decide) (by decide) ?_
        exact law_c3 (by omega) hL hbx hsA hgs hp lx nxt
      · refine R_tswI (pc := 32) (off := 272) (t := 304) dL_law_32 (by decide) (by decide) (by decide) ?_
        exact law_c4 (by omega) hL hbx hsA hgs hp lx nxt
      · refine R_tswI (pc := 32) (off := 295) (t := 327) dL_law_32 (by decide) (by decide) (by decide) ?_
        exact law_c5 (by omega) hL hbx hsA hgs hp lx nxt
      · refine R_tswI (pc := 32) (off := 328) (t := 360) dL_law_32 (by decide) (by decide) (by decide) ?_
        exact law_c6 (by omega) hL hbx hsA hgs hp lx nxt
      · refine R_tswI (pc := 32) (off := 371) (t := 403) dL_law_32 (by decide) (by decide) (by decide) ?_
        exact law_c7 (by omega) hL hbx hsA hgs hp lx nxt
      · refine R_tswI (pc := 32) (off := 414) (t := 446) dL_law_32 (by decide) (by decide) (by decide) ?_
        exact law_c8 (by omega) hL hbx hsA hgs hp lx nxt
      · refine R_tswI (pc := 32) (off := 437) (t := 469) dL_law_32 (by decide) (by decide) (by decide) ?_
        exact law_c9 (by omega) hL hbx hsA hgs hp lx nxt
      · refine R_tswI (pc := 32) (off := 460) (t := 492) dL_law_32 (by decide) (by decide) (by decide) ?_
        exact law_c10 (by omega) hL hbx hsA hgs hp lx nxt
      · refine R_tswI (pc := 32) (off := 473) (t := 505) dL_law_32 (by decide) (by decide) (by decide) ?_
        exact law_c11 (by omega) hL hbx hsA hgs hp lx nxt
      · refine R_tswI (pc := 32) (off := 486) (t := 518) dL_law_32 (by decide) (by decide) (by decide) ?_
        exact law_c12 (by omega) hL hbx hsA hgs hp lx nxt
      · refine R_tswI (pc := 32) (off := 509) (t := 541) dL_law_32 (by decide) (by decide) (by decide) ?_
        exact law_c13 (by omega) hL hbx hsA hgs hp lx nxt
      · refine R_tswI (pc := 32) (off := 522) (t := 554) dL_law_32 (by decide) (by decide) (by decide) ?_
        exact law_c14 (by omega) hL hbx hsA hgs hp lx nxt
      · refine R_tswI (pc := 32) (off := 545) (t := 577) dL_law_32 (by decide) (by decide) (by decide) ?_
        exact law_c15 (by omega) hL hbx hsA hgs hp lx nxt
      · refine R_tswI (pc := 32) (off := 568) (t := 600) dL_law_32 (by decide) (by decide) (by decide) ?_
        exact law_c16 (by omega) hL hbx hsA hgs hp lx nxt
      · refine R_tswI (pc := 32) (off := 591) (t := 623) dL_law_32 (by decide) (by decide) (by decide) ?_
        exact law_c17 (by omega) hL hbx hsA hgs hp lx nxt
      · refine R_tswI (pc := 32) (off := 624) (t := 656) dL_law_32 (by decide) (by decide) (by decide) ?_
        exact law_c18 (by omega) hL hbx hsA hgs hp lx nxt
      · refine R_tswI (pc := 32) (off := 657) (t := 689) dL_law_32 (by decide) (by decide) (by decide) ?_
        exact law_c19 (by omega) hL hbx hsA hgs hp lx nxt
      · refine R_tswI (pc := 32) (off := 690) (t := 722) dL_law_32 (by decide) (by decide) (by decide) ?_
        exact law_c20 (by omega) hL hbx hsA hgs hp lx nxt
      · refine R_tswI (pc := 32) (off := 723) (t := 755) dL_law_32 (by decide) (by decide) (by decide) ?_
        exact law_c21 (by omega) hL hbx hsA hgs hp lx nxt
      · refine R_tswI (pc := 32) (off := 746) (t := 778) dL_law_32 (by decide) (by decide) (by decide) ?_
        exact law_c22 (by omega) hL hbx hsA hgs hp lx nxt
      · refine R_tswI (pc := 32) (off := 769) (t := 801) dL_law_32 (by decide) (by decide) (by decide) ?_
        exact law_c23 (by omega) hL hbx hsA hgs hp lx nxt
      · refine R_tswI (pc := 32) (off := 802) (t := 834) dL_law_32 (by decide) (by decide) (by decide) ?_
        exact law_c24 (by omega) hL hbx hsA hgs hp lx nxt
      · refine R_tswI (pc := 32) (off := 815) (t := 847) dL_law_32 (by decide) (by decide) (by decide) ?_
        exact law_c25 (by omega) hL hbx hsA hgs hp lx nxt
      · refine R_tswI (pc := 32) (off := 848) (t := 880) dL_law_32 (by decide) (by decide) (by decide) ?_
        exact law_c26 (by omega) hL hbx hsA hgs hp lx nxt
      · refine R_tswI (pc := 32) (off := 891) (t := 923) dL_law_32 (by decide) (by decide) (by decide) ?_
        exact law_c27 (by omega) hL hbx hsA hgs hp lx nxt
      · refine R_tswI (pc := 32) (off := 904) (t := 936) dL_law_32 (by decide) (by decide) (by decide) ?_
        exact law_c28 (by omega) hL hbx hsA hgs hp lx nxt
      · refine R_tswI (pc := 32) (off := 927) (t := 959) dL_law_32 (by decide) (by decide) (by decide) ?_
        exact law_c29 (by omega) hL hbx hsA hgs hp lx nxt
      · refine R_tswI (pc := 32) (off := 950) (t := 982) dL_law_32 (by decide) (by decide) (by decide) ?_
        exact law_c30 (by omega) hL hbx hsA hgs hp lx nxt
      · refine R_tswO (pc := 32) (t := 1005) dL_law_32 (by decide) (by decide) ?_
        exact nxt h z A S pm fl l _ _ _ _ hp lx
theorem law_all {h : Nat → Option am_C} {b L x w0 : Nat} {xs gs : Nat → Int32} (hL : L ≤ 2048) (hbx : b < x) (hsA : sA < x) (hgs : ∀ k, k < 4 → gs k = nI (if k = 0 then 2 else if k = 1 then 1 else 9999)) (hb : h b = some (.inl (9, L, .inl xs))) (hst : h sA = some (.inl (9, 4, .inl gs))) : Rn sA mL_law 0 [some (.ref b), none, none, none, none, none, none, none] [] (h, x, w0) (QL x w0) := by
  refine R_new (pc := 0) dL_law_0 rfl rfl rfl ?_
  refine R_dup (pc := 3) dL_law_3 rfl ?_
  refine R_callI (pc := 4) dL_law_4 rfl (Or.inl rfl) rfl rfl ?_
  refine c11_init (x := x) (w0 := w0 + 9) up_s (fun h1 i1 f1 => ?_)
  refine R_astore_n (pc := 7) dL_law_7 (Nat.le_of_ble_eq_true rfl) rfl ?_
  refine R_new (pc := 8) dL_law_8 rfl rfl rfl ?_
  refine R_dup (pc := 11) dL_law_11 rfl ?_
  refine R_callI (pc := 12) dL_law_12 rfl (Or.inl rfl) rfl rfl ?_
  refine s12_init (M := x + 158) (w0 := w0 + 9 + 3499 + 20) up_s (fun U a0 a1 a2 a3 a4 a5 a6 a7 a8 a9 a10 a11 a12 a13 a14 a15 a16 a17 a18 az => ?_)
  have hU : U00 U := ⟨a0, a1, a2, a3, a4, a5, a6, a7, a8, a9, a10, a11, a12, a13, a14, a15, a16, a17, a18, az⟩
  refine R_astore_n (pc := 15) dL_law_15 (Nat.le_of_ble_eq_true rfl) rfl ?_
  refine R_iconst (pc := 16) (x := nI 0) dL_law_16 rfl ?_
  refine R_istore_n (pc := 17) dL_law_17 (Nat.le_of_ble_eq_true rfl) rfl ?_
  obtain ⟨j1, j2, j3, j4, j5, j6, j7⟩ := i1
  have fh : ∀ y, (y < x + 158 ∨ x + 172 ≤ y) → putM (va_up h1 (x + 158) (some (.inr (12, am_bl 12)))) (x + 158) (va_up (fun _ _ => 0) 1 U) S00 y = va_up h1 (x + 158) (some (.inr (12, am_bl 12))) y := fun y hy => putM_ou (by omega)
  have fi : ∀ y, y < x + 158 → putM (va_up h1 (x + 158) (some (.inr (12, am_bl 12)))) (x + 158) (va_up (fun _ _ => 0) 1 U) S00 y = h1 y := fun y hy => (fh y (Or.inl hy)).trans (up_n (by omega) rfl)
  refine law_loop hL hbx hsA hgs (Y := w0 + 37836) (by omega) 512 0 _ _ (va_up (fun _ _ => 0) 1 U) S00 0 0 0 _ _ _ _ (by omega) (by omega) putM_putM ⟨(fi b (by omega)).trans ((f1 b hbx).trans ((up_n (by omega) rfl).trans hb)), (fi sA (by omega)).trans ((f1 sA hsA).trans ((up_n (by omega) rfl).trans hst)), (j2 U hU).fr (fun y y1 y2 => fi y (by omega)), ⟨Nat.le_of_ble_eq_true (by show Nat.ble (x + 158) (x + 172) = true; exact Nat.ble_eq.mpr (by omega)), (fi x (by omega)).trans j1, ⟨0, fun _ => none, ⟨(fi _ (by omega)).trans j3, ⟨_, (fi _ (by omega)).trans j4, fun _ _ => rfl⟩, by omega, by omega, fun i hi => absurd hi (Nat.not_lt_zero _)⟩, ⟨⟨_, (fi _ (by omega)).trans j5, fun _ _ => rfl⟩, by omega, fun i hi => Or.inl ⟨by rw [Nat.zero_div], rfl⟩⟩, ⟨fun i hi s hs => (by cases hs), fun i j hi hj hij s t hs => (by cases hs), rfl, by show w0 + 9 + 3499 + 20 + 34308 = w0 + 37836 + 2831 * 0; omega⟩⟩, j6.fr (fun y y1 y2 => fi y (by omega)), by omega⟩, j7.fr (fun y y1 y2 => fi y (by omega)), rfl, rfl, rfl, WOK.ze az, fun i hi => absurd hi (Nat.not_lt_zero _), fun i hi nz => absurd (by rw [Nat.zero_div]) nz⟩
end CG3
