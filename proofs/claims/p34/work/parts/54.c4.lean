section CC4
variable {sA : Nat} {h : Nat → Option am_C} {z : Nat × Nat} {Q : Option Value → am_H → Prop}
def rfC (g : Nat → Int32) : Nat → Nat → Int32 → Int32
  | 0, _, a => a
  | n + 1, k, a => rfC g n (k + 1) (if nI 1 ≤ g k ∧ g k ≤ nI 5 then a + nI 1 else a)
def cardB (R : RpX) (k : Nat) : Bool := decide (R.2.2.2.1 (k * 10) = 0)
def swC (R : RpX) : Nat → Nat → Int32 → Int32
  | 0, _, a => a
  | n + 1, k, a => swC R n (k + 1) (if R.2.2.2.1 (k * 10) = 0 then a + R.2.2.2.1 (k * 10 + 3) else a)
theorem lc5_refused {r : Nat} {R : RpX} (hr : RpAt h r R) (hn : R.2.1 ≤ 40) : ∀ (n k : Nat) (a : Int32) (_ : k + n = R.2.1) (_ : Q (some (.int (rfC R.2.2.2.2 n k a))) (h, z)), Rn sA mX5_refusedCards 4 [some (.ref r), some (.int a), some (.int (nI k))] [] (h, z) Q
  | 0, k, a, hk, hQ => by
    have hr9 := hr
    obtain ⟨hr1, hr2, hr3⟩ := hr9
    refine R_iload_n (pc := 4) dX5_refusedCards_4 rfl ?_
    refine R_aload_n (pc := 5) dX5_refusedCards_5 rfl ?_
    refine R_getf (pc := 6) dX5_refusedCards_6 rfl (by repeat (first | assumption | exact up_s | refine up_n (by omega) ?_)) rfl ?_
    refine R_icmp_ge (pc := 9) (t := 34) dX5_refusedCards_9 (by decide) (fun _ => ?_) (fun hz9 => absurd (by rw [← hk]; exact nI_le (by omega) (by omega)) hz9)
    refine R_iload_n (pc := 34) dX5_refusedCards_34 rfl ?_
    refine R_iret (pc := 35) dX5_refusedCards_35 rfl ?_
    exact hQ
  | n + 1, k, a, hk, hQ => by
    have hr9 := hr
    obtain ⟨hr1, hr2, hr3⟩ := hr9
    refine R_iload_n (pc := 4) dX5_refusedCards_4 rfl ?_
    refine R_aload_n (pc := 5) dX5_refusedCards_5 rfl ?_
    refine R_getf (pc := 6) dX5_refusedCards_6 rfl (by repeat (first | assumption | exact up_s | refine up_n (by omega) ?_)) rfl ?_
    refine R_icmp_ge (pc := 9) (t := 34) dX5_refusedCards_9 (by decide) (fun hz9 => absurd hz9 (nI_ge (by omega) (by omega))) (fun _ => ?_)
    refine R_aload_n (pc := 12) dX5_refusedCards_12 rfl ?_
    refine R_iload_n (pc := 13) dX5_refusedCards_13 rfl ?_
    refine R_callV (pc := 14) dX5_refusedCards_14 rfl (by repeat (first | assumption | exact up_s | refine up_n (by omega) ?_)) rfl rfl ?_
    refine c5_reasonOf hr hn (by omega) ?_
    refine R_iconst (pc := 17) (x := nI 1) dX5_refusedCards_17 rfl ?_
    refine R_iconst (pc := 18) (x := nI 5) dX5_refusedCards_18 rfl ?_
    refine R_callS (pc := 19) dX5_refusedCards_19 rfl (Or.inr rfl) rfl rfl ?_
    refine c_isWithin (fun q1 q2 => ?_) (fun q => ?_)
    · refine R_if_eq (pc := 22) (t := 28) dX5_refusedCards_22 (by decide) (fun hz9 => absurd hz9 (by decide)) (fun _ => ?_)
      refine R_iinc (pc := 25) dX5_refusedCards_25 rfl rfl rfl ?_
      refine R_iinc (pc := 28) dX5_refusedCards_28 rfl (by first | exact nI_inc _ | rfl) rfl ?_
      refine R_goto (pc := 31) (t := 4) dX5_refusedCards_31 (by decide) ?_
      refine lc5_refused hr hn n (k + 1) _ (by omega) ?_
      first
        | (rw [show rfC R.2.2.2.2 (n + 1) k a = rfC R.2.2.2.2 n (k + 1) (a + nI 1) from congrArg (rfC R.2.2.2.2 n (k + 1)) (if_pos ⟨q1, q2⟩)] at hQ; exact hQ)
        | (rw [show rfC R.2.2.2.2 (n + 1) k a = rfC R.2.2.2.2 n (k + 1) a from congrArg (rfC R.2.2.2.2 n (k + 1)) (if_neg q)] at hQ; exact hQ)
    · refine R_if_eq (pc := 22) (t := 28) dX5_refusedCards_22 (by decide) (fun _ => ?_) (fun hz9 => absurd hz9 (by decide))
      refine R_iinc (pc := 28) dX5_refusedCards_28 rfl (by first | exact nI_inc _ | rfl) rfl ?_
      refine R_goto (pc := 31) (t := 4) dX5_refusedCards_31 (by decide) ?_
      refine lc5_refused hr hn n (k + 1) _ (by omega) ?_
      first
        | (rw [show rfC R.2.2.2.2 (n + 1) k a = rfC R.2.2.2.2 n (k + 1) (a + nI 1) from congrArg (rfC R.2.2.2.2 n (k + 1)) (if_pos ⟨q1, q2⟩)] at hQ; exact hQ)
        | (rw [show rfC R.2.2.2.2 (n + 1) k a = rfC R.2.2.2.2 n (k + 1) a from congrArg (rfC R.2.2.2.2 n (k + 1)) (if_neg q)] at hQ; exact hQ)
theorem c5_refusedCards {r : Nat} {R : RpX} (hr : RpAt h r R) (hn : R.2.1 ≤ 40) (hQ : Q (some (.int (rfC R.2.2.2.2 R.2.1 0 (nI 0)))) (h, z)) : Rn sA mX5_refusedCards 0 [some (.ref r), none, none] [] (h, z) Q := by
  refine R_iconst (pc := 0) (x := nI 0) dX5_refusedCards_0 rfl ?_
  refine R_istore_n (pc := 1) dX5_refusedCards_1 (Nat.le_of_ble_eq_true rfl) rfl ?_
  refine R_iconst (pc := 2) (x := nI 0) dX5_refusedCards_2 rfl ?_
  refine R_istore_n (pc := 3) dX5_refusedCards_3 (Nat.le_of_ble_eq_true rfl) rfl ?_
  exact lc5_refused hr hn _ 0 (nI 0) (by omega) hQ
theorem c5_isCard {r : Nat} {R : RpX} {k : Nat} (hr : RpAt h r R) (hn : R.1 ≤ 161) (hk : k < R.1) (hY : R.2.2.2.1 (k * 10) = 0 → Q (some (.int (nI 1))) (h, z)) (hN : ¬ R.2.2.2.1 (k * 10) = 0 → Q (some (.int (nI 0))) (h, z)) : Rn sA mX5_isCard 0 [some (.ref r), some (.int (nI k))] [] (h, z) Q := by
  have hr9 := hr
  obtain ⟨hr1, hr2, hr3⟩ := hr9
  refine R_aload_n (pc := 0) dX5_isCard_0 rfl ?_
  refine R_iload_n (pc := 1) dX5_isCard_1 rfl ?_
  refine R_callV (pc := 2) dX5_isCard_2 rfl (by repeat (first | assumption | exact up_s | refine up_n (by omega) ?_)) rfl rfl ?_
  refine c5_has hr hn (fun j hj e => ?_) (fun e => absurd rfl (e k hk))
  · obtain rfl := (nI_eq (by omega) (by omega)).mp e
    refine R_if_eq (pc := 5) (t := 21) dX5_isCard_5 (by decide) (fun hz9 => absurd hz9 (by decide)) (fun _ => ?_)
    refine R_aload_n (pc := 8) dX5_isCard_8 rfl ?_
    refine R_iload_n (pc := 9) dX5_isCard_9 rfl ?_
    refine R_iconst (pc := 10) (x := nI 0) dX5_isCard_10 rfl ?_
    refine R_callV (pc := 11) dX5_isCard_11 rfl (by repeat (first | assumption | exact up_s | refine up_n (by omega) ?_)) rfl rfl ?_
    refine c5_number (c := 0) hr hn (by omega) (by omega) ?_
    refine R_if_ne (pc := 14) (t := 21) dX5_isCard_14 (by decide) (fun h14 => ?_) (fun h14 => ?_)
    · refine R_iconst (pc := 21) (x := nI 0) dX5_isCard_21 rfl ?_
      refine R_zret (pc := 22) dX5_isCard_22 rfl (by decide) ?_
      first
        | exact hN h14
        | exact hY h14
    · refine R_iconst (pc := 17) (x := nI 1) dX5_isCard_17 rfl ?_
      refine R_goto (pc := 18) (t := 22) dX5_isCard_18 (by decide) ?_
      refine R_zret (pc := 22) dX5_isCard_22 rfl (by decide) ?_
      first
        | exact hN h14
        | exact hY h14
theorem lc5_sumW {r : Nat} {R : RpX} (hr : RpAt h r R) (hn : R.1 ≤ 161) : ∀ (n k : Nat) (a : Int32) (_ : k + n = R.1) (_ : Q (some (.int (swC R n k a))) (h, z)), Rn sA mX5_sumOfWorkers 4 [some (.ref r), some (.int a), some (.int (nI k))] [] (h, z) Q
  | 0, k, a, hk, hQ => by
    have hr9 := hr
    obtain ⟨hr1, hr2, hr3⟩ := hr9
    refine R_iload_n (pc := 4) dX5_sumOfWorkers_4 rfl ?_
    refine R_aload_n (pc := 5) dX5_sumOfWorkers_5 rfl ?_
    refine R_getf (pc := 6) dX5_sumOfWorkers_6 rfl (by repeat (first | assumption | exact up_s | refine up_n (by omega) ?_)) rfl ?_
    refine R_icmp_ge (pc := 9) (t := 35) dX5_sumOfWorkers_9 (by decide) (fun _ => ?_) (fun hz9 => absurd (by rw [← hk]; exact nI_le (by omega) (by omega)) hz9)
    refine R_iload_n (pc := 35) dX5_sumOfWorkers_35 rfl ?_
    refine R_iret (pc := 36) dX5_sumOfWorkers_36 rfl ?_
    exact hQ
  | n + 1, k, a, hk, hQ => by
    have hr9 := hr
    obtain ⟨hr1, hr2, hr3⟩ := hr9
    refine R_iload_n (pc := 4) dX5_sumOfWorkers_4 rfl ?_
    refine R_aload_n (pc := 5) dX5_sumOfWorkers_5 rfl ?_
    refine R_getf (pc := 6) dX5_sumOfWorkers_6 rfl (by repeat (first | assumption | exact up_s | refine up_n (by omega) ?_)) rfl ?_
    refine R_icmp_ge (pc := 9) (t := 35) dX5_sumOfWorkers_9 (by decide) (fun hz9 => absurd hz9 (nI_ge (by omega) (by omega))) (fun _ => ?_)
    refine R_aload_n (pc := 12) dX5_sumOfWorkers_12 rfl ?_
    refine R_iload_n (pc := 13) dX5_sumOfWorkers_13 rfl ?_
    refine R_callV (pc := 14) dX5_sumOfWorkers_14 rfl (by repeat (first | assumption | exact up_s | refine up_n (by omega) ?_)) rfl rfl ?_
    refine c5_isCard hr hn (k := k) (by omega) (fun q => ?_) (fun q => ?_)
    · refine R_if_eq (pc := 17) (t := 29) dX5_sumOfWorkers_17 (by decide) (fun hz9 => absurd hz9 (by decide)) (fun _ => ?_)
      refine R_iload_n (pc := 20) dX5_sumOfWorkers_20 rfl ?_
      refine R_aload_n (pc := 21) dX5_sumOfWorkers_21 rfl ?_
      refine R_iload_n (pc := 22) dX5_sumOfWorkers_22 rfl ?_
      refine R_iconst (pc := 23) (x := nI 3) dX5_sumOfWorkers_23 rfl ?_
      refine R_callV (pc := 24) dX5_sumOfWorkers_24 rfl (by repeat (first | assumption | exact up_s | refine up_n (by omega) ?_)) rfl rfl ?_
      refine c5_number hr hn (by omega) (by omega) ?_
      refine R_iadd (pc := 27) dX5_sumOfWorkers_27 ?_
      refine R_istore_n (pc := 28) dX5_sumOfWorkers_28 (Nat.le_of_ble_eq_true rfl) rfl ?_
      refine R_iinc (pc := 29) dX5_sumOfWorkers_29 rfl (by first | exact nI_inc _ | rfl) rfl ?_
      refine R_goto (pc := 32) (t := 4) dX5_sumOfWorkers_32 (by decide) ?_
      refine lc5_sumW hr hn n (k + 1) _ (by omega) ?_
      first
        | (rw [show swC R (n + 1) k a = swC R n (k + 1) (a + R.2.2.2.1 (k * 10 + 3)) from congrArg (swC R n (k + 1)) (if_pos q)] at hQ; exact hQ)
        | (rw [show swC R (n + 1) k a = swC R n (k + 1) a from congrArg (swC R n (k + 1)) (if_neg q)] at hQ; exact hQ)
    · refine R_if_eq (pc := 17) (t := 29) dX5_sumOfWorkers_17 (by decide) (fun _ => ?_) (fun hz9 => absurd hz9 (by decide))
      refine R_iinc (pc := 29) dX5_sumOfWorkers_29 rfl (by first | exact nI_inc _ | rfl) rfl ?_
      refine R_goto (pc := 32) (t := 4) dX5_sumOfWorkers_32 (by decide) ?_
      refine lc5_sumW hr hn n (k + 1) _ (by omega) ?_
      first
        | (rw [show swC R (n + 1) k a = swC R n (k + 1) (a + R.2.2.2.1 (k * 10 + 3)) from congrArg (swC R n (k + 1)) (if_pos q)] at hQ; exact hQ)
        | (rw [show swC R (n + 1) k a = swC R n (k + 1) a from congrArg (swC R n (k + 1)) (if_neg q)] at hQ; exact hQ)
theorem c5_sumOfWorkers {r : Nat} {R : RpX} (hr : RpAt h r R) (hn : R.1 ≤ 161) (hQ : Q (some (.int (swC R R.1 0 (nI 0)))) (h, z)) : Rn sA mX5_sumOfWorkers 0 [some (.ref r), none, none] [] (h, z) Q := by
  refine R_iconst (pc := 0) (x := nI 0) dX5_sumOfWorkers_0 rfl ?_
  refine R_istore_n (pc := 1) dX5_sumOfWorkers_1 (Nat.le_of_ble_eq_true rfl) rfl ?_
  refine R_iconst (pc := 2) (x := nI 0) dX5_sumOfWorkers_2 rfl ?_
  refine R_istore_n (pc := 3) dX5_sumOfWorkers_3 (Nat.le_of_ble_eq_true rfl) rfl ?_
  exact lc5_sumW hr hn _ 0 (nI 0) (by omega) hQ
/-- the columns of a printed line, with the rate behind them -/
def lnT (kd : Nat) (T : Nat → Int32) (e : Int32) (j : Nat) : Int32 := if j = 9 then T 3 else lineV kd T (T 4) (T 5) (T 6) (T 7) e j
def prF (c : Nat) (L f : Nat → Int32) : Nat → Int32 := fun x => if c * 10 ≤ x ∧ x < c * 10 + 10 then L (x - c * 10) else f x
def prR (R : RpX) (L : Nat → Int32) : RpX := (R.1 + 1, R.2.1, R.2.2.1, prF R.1 L R.2.2.2.1, R.2.2.2.2)
theorem lnT_c (kd : Nat) (T : Nat → Int32) (e : Int32) {j : Nat} (h1 : 0 < j) (h2 : j < 4) : lnT kd T e j = colV kd T (j - 1) := by
  unfold lnT lineV
  rw [if_neg (by omega), if_neg (by omega), if_pos h2]
theorem c5_print {r t kd : Nat} {R : RpX} {T : Nat → Int32} {e : Int32} (hr : RpAt h r R) (ht : TtAt h t T) (hrt : t < r ∨ r + 3 ≤ t) (hn : R.1 < 161) (hkd : kd ≤ 4) (hQ : ∀ h2 : Nat → Option am_C, RpAt h2 r (prR R (lnT kd T e)) → (∀ a, (a < r ∨ r + 3 ≤ a) → h2 a = h a) → Q none (h2, z)) : Rn sA mX5_print 0 [some (.ref r), some (.int (nI kd)), some (.ref t), some (.int e), none] [] (h, z) Q := by
  have hr9 := hr
  obtain ⟨hr1, hr2, hr3⟩ := hr9
  have ht9 := ht
  unfold TtAt at ht9
  refine R_aload_n (pc := 0) dX5_print_0 rfl ?_
  refine R_getf (pc := 1) dX5_print_1 rfl (by repeat (first | assumption | exact up_s | refine up_n (by omega) ?_)) rfl ?_
  refine R_sipush (pc := 4) (x := nI 161) dX5_print_4 (by decide) ?_
  refine R_icmp_lt (pc := 7) (t := 11) dX5_print_7 (by decide) (fun _ => ?_) (fun hz9 => absurd (nI_lt (by omega) (by omega)) hz9)
  refine R_aload_n (pc := 11) dX5_print_11 rfl ?_
  refine R_getf (pc := 12) dX5_print_12 rfl (by repeat (first | assumption | exact up_s | refine up_n (by omega) ?_)) rfl ?_
  refine R_bipush (pc := 15) (x := nI 10) dX5_print_15 (by decide) ?_
  refine R_imul (pc := 17) dX5_print_17 ?_
  refine R_istore (pc := 18) dX5_print_18 (Nat.le_of_ble_eq_true rfl) rfl ?_
  refine R_aload_n (pc := 20) dX5_print_20 rfl ?_
  refine R_getf (pc := 21) dX5_print_21 rfl (by repeat (first | assumption | exact up_s | refine up_n (by omega) ?_)) rfl ?_
  refine R_iload (pc := 24) dX5_print_24 rfl ?_
  refine R_iconst (pc := 26) (x := nI 0) dX5_print_26 rfl ?_
  refine R_iadd (pc := 27) dX5_print_27 ?_
  refine R_iload_n (pc := 28) dX5_print_28 rfl ?_
  refine R_iast (pc := 29) dX5_print_29 (by repeat (first | assumption | exact up_s | refine up_n (by omega) ?_)) (by simp only [pk_mul, nI_add]; exact rfl) (by omega) (by decide) ?_
  refine R_aload_n (pc := 30) dX5_print_30 rfl ?_
  refine R_getf (pc := 31) dX5_print_31 rfl (by repeat (first | assumption | exact up_s | refine up_n (by omega) ?_)) rfl ?_
  refine R_iload (pc := 34) dX5_print_34 rfl ?_
  refine R_iconst (pc := 36) (x := nI 1) dX5_print_36 rfl ?_
  refine R_iadd (pc := 37) dX5_print_37 ?_
  refine R_iload_n (pc := 38) dX5_print_38 rfl ?_
  refine R_iconst (pc := 39) (x := nI 3) dX5_print_39 rfl ?_
  refine R_icmp_gt (pc := 40) (t := 50) dX5_print_40 (by decide) (fun h40 => ?_) (fun h40 => ?_)
  · have c40 : 3 < kd := (nI_ltI (by omega) (by omega)).mp h40
    refine R_ldc (pc := 50) (x := (-1000009)) dX5_print_50 rfl ?_
    refine R_iast (pc := 52) dX5_print_52 (by repeat (first | assumption | exact up_s | refine up_n (by omega) ?_)) (by simp only [pk_mul, nI_add]; exact rfl) (by omega) (by decide) ?_
    refine R_aload_n (pc := 53) dX5_print_53 rfl ?_
    refine R_getf (pc := 54) dX5_print_54 rfl (by repeat (first | assumption | exact up_s | refine up_n (by omega) ?_)) rfl ?_
    refine R_iload (pc := 57) dX5_print_57 rfl ?_
    refine R_iconst (pc := 59) (x := nI 2) dX5_print_59 rfl ?_
    refine R_iadd (pc := 60) dX5_print_60 ?_
    refine R_iload_n (pc := 61) dX5_print_61 rfl ?_
    refine R_iconst (pc := 62) (x := nI 2) dX5_print_62 rfl ?_
    refine R_icmp_gt (pc := 63) (t := 73) dX5_print_63 (by decide) (fun _ => ?_) (fun hz9 => absurd (nI_lt (by omega) (by omega)) hz9)
    refine R_ldc (pc := 73) (x := (-1000009)) dX5_print_73 rfl ?_
    refine R_iast (pc := 75) dX5_print_75 (by repeat (first | assumption | exact up_s | refine up_n (by omega) ?_)) (by simp only [pk_mul, nI_add]; exact rfl) (by omega) (by decide) ?_
    refine R_aload_n (pc := 76) dX5_print_76 rfl ?_
    refine R_getf (pc := 77) dX5_print_77 rfl (by repeat (first | assumption | exact up_s | refine up_n (by omega) ?_)) rfl ?_
    refine R_iload (pc := 80) dX5_print_80 rfl ?_
    refine R_iconst (pc := 82) (x := nI 3) dX5_print_82 rfl ?_
    refine R_iadd (pc := 83) dX5_print_83 ?_
    refine R_iload_n (pc := 84) dX5_print_84 rfl ?_
    refine R_iconst (pc := 85) (x := nI 1) dX5_print_85 rfl ?_
    refine R_icmp_gt (pc := 86) (t := 96) dX5_print_86 (by decide) (fun _ => ?_) (fun hz9 => absurd (nI_lt (by omega) (by omega)) hz9)
    refine R_ldc (pc := 96) (x := (-1000009)) dX5_print_96 rfl ?_
    refine R_iast (pc := 98) dX5_print_98 (by repeat (first | assumption | exact up_s | refine up_n (by omega) ?_)) (by simp only [pk_mul, nI_add]; exact rfl) (by omega) (by decide) ?_
    refine R_aload_n (pc := 99) dX5_print_99 rfl ?_
    refine R_getf (pc := 100) dX5_print_100 rfl (by repeat (first | assumption | exact up_s | refine up_n (by omega) ?_)) rfl ?_
    refine R_iload (pc := 103) dX5_print_103 rfl ?_
    refine R_iconst (pc := 105) (x := nI 4) dX5_print_105 rfl ?_
    refine R_iadd (pc := 106) dX5_print_106 ?_
    refine R_aload_n (pc := 107) dX5_print_107 rfl ?_
    refine R_getf (pc := 108) dX5_print_108 rfl (by repeat (first | assumption | exact up_s | refine up_n (by omega) ?_)) rfl ?_
    refine R_iast (pc := 111) dX5_print_111 (by repeat (first | assumption | exact up_s | refine up_n (by omega) ?_)) (by simp only [pk_mul, nI_add]; exact rfl) (by omega) (by decide) ?_
    refine R_aload_n (pc := 112) dX5_print_112 rfl ?_
    refine R_getf (pc := 113) dX5_print_113 rfl (by repeat (first | assumption | exact up_s | refine up_n (by omega) ?_)) rfl ?_
    refine R_iload (pc := 116) dX5_print_116 rfl ?_
    refine R_iconst (pc := 118) (x := nI 5) dX5_print_118 rfl ?_
    refine R_iadd (pc := 119) dX5_print_119 ?_
    refine R_aload_n (pc := 120) dX5_print_120 rfl ?_
    refine R_getf (pc := 121) dX5_print_121 rfl (by repeat (first | assumption | exact up_s | refine up_n (by omega) ?_)) rfl ?_
    refine R_iast (pc := 124) dX5_print_124 (by repeat (first | assumption | exact up_s | refine up_n (by omega) ?_)) (by simp only [pk_mul, nI_add]; exact rfl) (by omega) (by decide) ?_
    refine R_aload_n (pc := 125) dX5_print_125 rfl ?_
    refine R_getf (pc := 126) dX5_print_126 rfl (by repeat (first | assumption | exact up_s | refine up_n (by omega) ?_)) rfl ?_
    refine R_iload (pc := 129) dX5_print_129 rfl ?_
    refine R_bipush (pc := 131) (x := nI 6) dX5_print_131 (by decide) ?_
    refine R_iadd (pc := 133) dX5_print_133 ?_
    refine R_aload_n (pc := 134) dX5_print_134 rfl ?_
    refine R_getf (pc := 135) dX5_print_135 rfl (by repeat (first | assumption | exact up_s | refine up_n (by omega) ?_)) rfl ?_
    refine R_iast (pc := 138) dX5_print_138 (by repeat (first | assumption | exact up_s | refine up_n (by omega) ?_)) (by simp only [pk_mul, nI_add]; exact rfl) (by omega) (by decide) ?_
    refine R_aload_n (pc := 139) dX5_print_139 rfl ?_
    refine R_getf (pc := 140) dX5_print_140 rfl (by repeat (first | assumption | exact up_s | refine up_n (by omega) ?_)) rfl ?_
    refine R_iload (pc := 143) dX5_print_143 rfl ?_
    refine R_bipush (pc := 145) (x := nI 7) dX5_print_145 (by decide) ?_
    refine R_iadd (pc := 147) dX5_print_147 ?_
    refine R_aload_n (pc := 148) dX5_print_148 rfl ?_
    refine R_getf (pc := 149) dX5_print_149 rfl (by repeat (first | assumption | exact up_s | refine up_n (by omega) ?_)) rfl ?_
    refine R_iast (pc := 152) dX5_print_152 (by repeat (first | assumption | exact up_s | refine up_n (by omega) ?_)) (by simp only [pk_mul, nI_add]; exact rfl) (by omega) (by decide) ?_
    refine R_aload_n (pc := 153) dX5_print_153 rfl ?_
    refine R_getf (pc := 154) dX5_print_154 rfl (by repeat (first | assumption | exact up_s | refine up_n (by omega) ?_)) rfl ?_
    refine R_iload (pc := 157) dX5_print_157 rfl ?_
    refine R_bipush (pc := 159) (x := nI 8) dX5_print_159 (by decide) ?_
    refine R_iadd (pc := 161) dX5_print_161 ?_
    refine R_iload_n (pc := 162) dX5_print_162 rfl ?_
    refine R_iast (pc := 163) dX5_print_163 (by repeat (first | assumption | exact up_s | refine up_n (by omega) ?_)) (by simp only [pk_mul, nI_add]; exact rfl) (by omega) (by decide) ?_
    refine R_aload_n (pc := 164) dX5_print_164 rfl ?_
    refine R_getf (pc := 165) dX5_print_165 rfl (by repeat (first | assumption | exact up_s | refine up_n (by omega) ?_)) rfl ?_
    refine R_iload (pc := 168) dX5_print_168 rfl ?_
    refine R_bipush (pc := 170) (x := nI 9) dX5_print_170 (by decide) ?_
    refine R_iadd (pc := 172) dX5_print_172 ?_
    refine R_aload_n (pc := 173) dX5_print_173 rfl ?_
    refine R_getf (pc := 174) dX5_print_174 rfl (by repeat (first | assumption | exact up_s | refine up_n (by omega) ?_)) rfl ?_
    refine R_iast (pc := 177) dX5_print_177 (by repeat (first | assumption | exact up_s | refine up_n (by omega) ?_)) (by simp only [pk_mul, nI_add]; exact rfl) (by omega) (by decide) ?_
    refine R_aload_n (pc := 178) dX5_print_178 rfl ?_
    refine R_dup (pc := 179) dX5_print_179 rfl ?_
    refine R_getf (pc := 180) dX5_print_180 rfl (by repeat (first | assumption | exact up_s | refine up_n (by omega) ?_)) rfl ?_
    refine R_iconst (pc := 183) (x := nI 1) dX5_print_183 rfl ?_
    refine R_iadd (pc := 184) dX5_print_184 ?_
    refine R_putf (pc := 185) dX5_print_185 rfl (by repeat (first | assumption | exact up_s | refine up_n (by omega) ?_)) rfl (Or.inl rfl) rfl ?_
    refine R_vret (pc := 188) dX5_print_188 rfl ?_
    refine hQ _ ⟨?_, up_n (by omega) (up_s.trans ?_), ?_⟩ (fun a ha => ?_)
    · refine up_s.trans ?_
      rw [nI_add]
      rfl
    · refine congrArg (fun F => some (Sum.inl (0, 1610, Sum.inl F))) (funext fun x => ?_)
      show _ = prF R.1 (lnT kd T e) R.2.2.2.1 x
      unfold prF
      by_cases hx : R.1 * 10 ≤ x ∧ x < R.1 * 10 + 10
      · rw [if_pos hx]
        have cs : ∀ y : Nat, y < 10 → y = 0 ∨ y = 1 ∨ y = 2 ∨ y = 3 ∨ y = 4 ∨ y = 5 ∨ y = 6 ∨ y = 7 ∨ y = 8 ∨ y = 9 := by omega
        obtain ⟨y, rfl⟩ : ∃ y, x = R.1 * 10 + y := ⟨x - R.1 * 10, by omega⟩
        rw [show R.1 * 10 + y - R.1 * 10 = y by omega]
        rcases cs y (by omega) with rfl | rfl | rfl | rfl | rfl | rfl | rfl | rfl | rfl | rfl
        · repeat rw [upd_n (by omega)]
          rw [upd_s]; rfl
        · repeat rw [upd_n (by omega)]
          rw [upd_s, lnT_c kd T e (by omega) (by omega)]
          unfold colV
          first
            | (rw [if_pos (by unfold noneK; omega)]; done)
            | (rw [if_neg (by unfold noneK; omega)])
        · repeat rw [upd_n (by omega)]
          rw [upd_s, lnT_c kd T e (by omega) (by omega)]
          unfold colV
          first
            | (rw [if_pos (by unfold noneK; omega)]; done)
            | (rw [if_neg (by unfold noneK; omega)])
        · repeat rw [upd_n (by omega)]
          rw [upd_s, lnT_c kd T e (by omega) (by omega)]
          unfold colV
          first
            | (rw [if_pos (by unfold noneK; omega)]; done)
            | (rw [if_neg (by unfold noneK; omega)])
        · repeat rw [upd_n (by omega)]
          rw [upd_s]; rfl
        · repeat rw [upd_n (by omega)]
          rw [upd_s]; rfl
        · repeat rw [upd_n (by omega)]
          rw [upd_s]; rfl
        · repeat rw [upd_n (by omega)]
          rw [upd_s]; rfl
        · repeat rw [upd_n (by omega)]
          rw [upd_s]; rfl
        · rw [upd_s]; rfl
      · rw [if_neg hx]
        repeat rw [upd_n (by omega)]
    · simp only [va_up]
      repeat rw [if_neg (by omega)]
      exact hr3
    · simp only [va_up]
      repeat rw [if_neg (by omega)]
  · have c40 : ¬ 3 < kd := fun q => h40 (nI_lt q (by omega))
    refine R_aload_n (pc := 43) dX5_print_43 rfl ?_
    refine R_getf (pc := 44) dX5_print_44 rfl (by repeat (first | assumption | exact up_s | refine up_n (by omega) ?_)) rfl ?_
    refine R_goto (pc := 47) (t := 52) dX5_print_47 (by decide) ?_
    refine R_iast (pc := 52) dX5_print_52 (by repeat (first | assumption | exact up_s | refine up_n (by omega) ?_)) (by simp only [pk_mul, nI_add]; exact rfl) (by omega) (by decide) ?_
    refine R_aload_n (pc := 53) dX5_print_53 rfl ?_
    refine R_getf (pc := 54) dX5_print_54 rfl (by repeat (first | assumption | exact up_s | refine up_n (by omega) ?_)) rfl ?_
    refine R_iload (pc := 57) dX5_print_57 rfl ?_
    refine R_iconst (pc := 59) (x := nI 2) dX5_print_59 rfl ?_
    refine R_iadd (pc := 60) dX5_print_60 ?_
    refine R_iload_n (pc := 61) dX5_print_61 rfl ?_
    refine R_iconst (pc := 62) (x := nI 2) dX5_print_62 rfl ?_
    refine R_icmp_gt (pc := 63) (t := 73) dX5_print_63 (by decide) (fun h63 => ?_) (fun h63 => ?_)
    · have c63 : 2 < kd := (nI_ltI (by omega) (by omega)).mp h63
      refine R_ldc (pc := 73) (x := (-1000009)) dX5_print_73 rfl ?_
      refine R_iast (pc := 75) dX5_print_75 (by repeat (first | assumption | exact up_s | refine up_n (by omega) ?_)) (by simp only [pk_mul, nI_add]; exact rfl) (by omega) (by decide) ?_
      refine R_aload_n (pc := 76) dX5_print_76 rfl ?_
      refine R_getf (pc := 77) dX5_print_77 rfl (by repeat (first | assumption | exact up_s | refine up_n (by omega) ?_)) rfl ?_
      refine R_iload (pc := 80) dX5_print_80 rfl ?_
      refine R_iconst (pc := 82) (x := nI 3) dX5_print_82 rfl ?_
      refine R_iadd (pc := 83) dX5_print_83 ?_
      refine R_iload_n (pc := 84) dX5_print_84 rfl ?_
      refine R_iconst (pc := 85) (x := nI 1) dX5_print_85 rfl ?_
      refine R_icmp_gt (pc := 86) (t := 96) dX5_print_86 (by decide) (fun _ => ?_) (fun hz9 => absurd (nI_lt (by omega) (by omega)) hz9)
      refine R_ldc (pc := 96) (x := (-1000009)) dX5_print_96 rfl ?_
      refine R_iast (pc := 98) dX5_print_98 (by repeat (first | assumption | exact up_s | refine up_n (by omega) ?_)) (by simp only [pk_mul, nI_add]; exact rfl) (by omega) (by decide) ?_
      refine R_aload_n (pc := 99) dX5_print_99 rfl ?_
      refine R_getf (pc := 100) dX5_print_100 rfl (by repeat (first | assumption | exact up_s | refine up_n (by omega) ?_)) rfl ?_
      refine R_iload (pc := 103) dX5_print_103 rfl ?_
      refine R_iconst (pc := 105) (x := nI 4) dX5_print_105 rfl ?_
      refine R_iadd (pc := 106) dX5_print_106 ?_
      refine R_aload_n (pc := 107) dX5_print_107 rfl ?_
      refine R_getf (pc := 108) dX5_print_108 rfl (by repeat (first | assumption | exact up_s | refine up_n (by omega) ?_)) rfl ?_
      refine R_iast (pc := 111) dX5_print_111 (by repeat (first | assumption | exact up_s | refine up_n (by omega) ?_)) (by simp only [pk_mul, nI_add]; exact rfl) (by omega) (by decide) ?_
      refine R_aload_n (pc := 112) dX5_print_112 rfl ?_
      refine R_getf (pc := 113) dX5_print_113 rfl (by repeat (first | assumption | exact up_s | refine up_n (by omega) ?_)) rfl ?_
      refine R_iload (pc := 116) dX5_print_116 rfl ?_
      refine R_iconst (pc := 118) (x := nI 5) dX5_print_118 rfl ?_
      refine R_iadd (pc := 119) dX5_print_119 ?_
      refine R_aload_n (pc := 120) dX5_print_120 rfl ?_
      refine R_getf (pc := 121) dX5_print_121 rfl (by repeat (first | assumption | exact up_s | refine up_n (by omega) ?_)) rfl ?_
      refine R_iast (pc := 124) dX5_print_124 (by repeat (first | assumption | exact up_s | refine up_n (by omega) ?_)) (by simp only [pk_mul, nI_add]; exact rfl) (by omega) (by decide) ?_
      refine R_aload_n (pc := 125) dX5_print_125 rfl ?_
      refine R_getf (pc := 126) dX5_print_126 rfl (by repeat (first | assumption | exact up_s | refine up_n (by omega) ?_)) rfl ?_
      refine R_iload (pc := 129) dX5_print_129 rfl ?_
      refine R_bipush (pc := 131) (x := nI 6) dX5_print_131 (by decide) ?_
      refine R_iadd (pc := 133) dX5_print_133 ?_
      refine R_aload_n (pc := 134) dX5_print_134 rfl ?_
      refine R_getf (pc := 135) dX5_print_135 rfl (by repeat (first | assumption | exact up_s | refine up_n (by omega) ?_)) rfl ?_
      refine R_iast (pc := 138) dX5_print_138 (by repeat (first | assumption | exact up_s | refine up_n (by omega) ?_)) (by simp only [pk_mul, nI_add]; exact rfl) (by omega) (by decide) ?_
      refine R_aload_n (pc := 139) dX5_print_139 rfl ?_
      refine R_getf (pc := 140) dX5_print_140 rfl (by repeat (first | assumption | exact up_s | refine up_n (by omega) ?_)) rfl ?_
      refine R_iload (pc := 143) dX5_print_143 rfl ?_
      refine R_bipush (pc := 145) (x := nI 7) dX5_print_145 (by decide) ?_
      refine R_iadd (pc := 147) dX5_print_147 ?_
      refine R_aload_n (pc := 148) dX5_print_148 rfl ?_
      refine R_getf (pc := 149) dX5_print_149 rfl (by repeat (first | assumption | exact up_s | refine up_n (by omega) ?_)) rfl ?_
      refine R_iast (pc := 152) dX5_print_152 (by repeat (first | assumption | exact up_s | refine up_n (by omega) ?_)) (by simp only [pk_mul, nI_add]; exact rfl) (by omega) (by decide) ?_
      refine R_aload_n (pc := 153) dX5_print_153 rfl ?_
      refine R_getf (pc := 154) dX5_print_154 rfl (by repeat (first | assumption | exact up_s | refine up_n (by omega) ?_)) rfl ?_
      refine R_iload (pc := 157) dX5_print_157 rfl ?_
      refine R_bipush (pc := 159) (x := nI 8) dX5_print_159 (by decide) ?_
      refine R_iadd (pc := 161) dX5_print_161 ?_
      refine R_iload_n (pc := 162) dX5_print_162 rfl ?_
      refine R_iast (pc := 163) dX5_print_163 (by repeat (first | assumption | exact up_s | refine up_n (by omega) ?_)) (by simp only [pk_mul, nI_add]; exact rfl) (by omega) (by decide) ?_
      refine R_aload_n (pc := 164) dX5_print_164 rfl ?_
      refine R_getf (pc := 165) dX5_print_165 rfl (by repeat (first | assumption | exact up_s | refine up_n (by omega) ?_)) rfl ?_
      refine R_iload (pc := 168) dX5_print_168 rfl ?_
      refine R_bipush (pc := 170) (x := nI 9) dX5_print_170 (by decide) ?_
      refine R_iadd (pc := 172) dX5_print_172 ?_
      refine R_aload_n (pc := 173) dX5_print_173 rfl ?_
      refine R_getf (pc := 174) dX5_print_174 rfl (by repeat (first | assumption | exact up_s | refine up_n (by omega) ?_)) rfl ?_
      refine R_iast (pc := 177) dX5_print_177 (by repeat (first | assumption | exact up_s | refine up_n (by omega) ?_)) (by simp only [pk_mul, nI_add]; exact rfl) (by omega) (by decide) ?_
      refine R_aload_n (pc := 178) dX5_print_178 rfl ?_
      refine R_dup (pc := 179) dX5_print_179 rfl ?_
      refine R_getf (pc := 180) dX5_print_180 rfl (by repeat (first | assumption | exact up_s | refine up_n (by omega) ?_)) rfl ?_
      refine R_iconst (pc := 183) (x := nI 1) dX5_print_183 rfl ?_
      refine R_iadd (pc := 184) dX5_print_184 ?_
      refine R_putf (pc := 185) dX5_print_185 rfl (by repeat (first | assumption | exact up_s | refine up_n (by omega) ?_)) rfl (Or.inl rfl) rfl ?_
      refine R_vret (pc := 188) dX5_print_188 rfl ?_
      refine hQ _ ⟨?_, up_n (by omega) (up_s.trans ?_), ?_⟩ (fun a ha => ?_)
      · refine up_s.trans ?_
        rw [nI_add]
        rfl
      · refine congrArg (fun F => some (Sum.inl (0, 1610, Sum.inl F))) (funext fun x => ?_)
        show _ = prF R.1 (lnT kd T e) R.2.2.2.1 x
        unfold prF
        by_cases hx : R.1 * 10 ≤ x ∧ x < R.1 * 10 + 10
        · rw [if_pos hx]
          have cs : ∀ y : Nat, y < 10 → y = 0 ∨ y = 1 ∨ y = 2 ∨ y = 3 ∨ y = 4 ∨ y = 5 ∨ y = 6 ∨ y = 7 ∨ y = 8 ∨ y = 9 := by omega
          obtain ⟨y, rfl⟩ : ∃ y, x = R.1 * 10 + y := ⟨x - R.1 * 10, by omega⟩
          rw [show R.1 * 10 + y - R.1 * 10 = y by omega]
          rcases cs y (by omega) with rfl | rfl | rfl | rfl | rfl | rfl | rfl | rfl | rfl | rfl
          · repeat rw [upd_n (by omega)]
            rw [upd_s]; rfl
          · repeat rw [upd_n (by omega)]
            rw [upd_s, lnT_c kd T e (by omega) (by omega)]
            unfold colV
            first
              | (rw [if_pos (by unfold noneK; omega)]; done)
              | (rw [if_neg (by unfold noneK; omega)])
          · repeat rw [upd_n (by omega)]
            rw [upd_s, lnT_c kd T e (by omega) (by omega)]
            unfold colV
            first
              | (rw [if_pos (by unfold noneK; omega)]; done)
              | (rw [if_neg (by unfold noneK; omega)])
          · repeat rw [upd_n (by omega)]
            rw [upd_s, lnT_c kd T e (by omega) (by omega)]
            unfold colV
            first
              | (rw [if_pos (by unfold noneK; omega)]; done)
              | (rw [if_neg (by unfold noneK; omega)])
          · repeat rw [upd_n (by omega)]
            rw [upd_s]; rfl
          · repeat rw [upd_n (by omega)]
            rw [upd_s]; rfl
          · repeat rw [upd_n (by omega)]
            rw [upd_s]; rfl
          · repeat rw [upd_n (by omega)]
            rw [upd_s]; rfl
          · repeat rw [upd_n (by omega)]
            rw [upd_s]; rfl
          · rw [upd_s]; rfl
        · rw [if_neg hx]
          repeat rw [upd_n (by omega)]
      · simp only [va_up]
        repeat rw [if_neg (by omega)]
        exact hr3
      · simp only [va_up]
        repeat rw [if_neg (by omega)]
    · have c63 : ¬ 2 < kd := fun q => h63 (nI_lt q (by omega))
      refine R_aload_n (pc := 66) dX5_print_66 rfl ?_
      refine R_getf (pc := 67) dX5_print_67 rfl (by repeat (first | assumption | exact up_s | refine up_n (by omega) ?_)) rfl ?_
      refine R_goto (pc := 70) (t := 75) dX5_print_70 (by decide) ?_
      refine R_iast (pc := 75) dX5_print_75 (by repeat (first | assumption | exact up_s | refine up_n (by omega) ?_)) (by simp only [pk_mul, nI_add]; exact rfl) (by omega) (by decide) ?_
      refine R_aload_n (pc := 76) dX5_print_76 rfl ?_
      refine R_getf (pc := 77) dX5_print_77 rfl (by repeat (first | assumption | exact up_s | refine up_n (by omega) ?_)) rfl ?_
      refine R_iload (pc := 80) dX5_print_80 rfl ?_
      refine R_iconst (pc := 82) (x := nI 3) dX5_print_82 rfl ?_
      refine R_iadd (pc := 83) dX5_print_83 ?_
      refine R_iload_n (pc := 84) dX5_print_84 rfl ?_
      refine R_iconst (pc := 85) (x := nI 1) dX5_print_85 rfl ?_
      refine R_icmp_gt (pc := 86) (t := 96) dX5_print_86 (by decide) (fun h86 => ?_) (fun h86 => ?_)
      · have c86 : 1 < kd := (nI_ltI (by omega) (by omega)).mp h86
        refine R_ldc (pc := 96) (x := (-1000009)) dX5_print_96 rfl ?_
        refine R_iast (pc := 98) dX5_print_98 (by repeat (first | assumption | exact up_s | refine up_n (by omega) ?_)) (by simp only [pk_mul, nI_add]; exact rfl) (by omega) (by decide) ?_
        refine R_aload_n (pc := 99) dX5_print_99 rfl ?_
        refine R_getf (pc := 100) dX5_print_100 rfl (by repeat (first | assumption | exact up_s | refine up_n (by omega) ?_)) rfl ?_
        refine R_iload (pc := 103) dX5_print_103 rfl ?_
        refine R_iconst (pc := 105) (x := nI 4) dX5_print_105 rfl ?_
        refine R_iadd (pc := 106) dX5_print_106 ?_
        refine R_aload_n (pc := 107) dX5_print_107 rfl ?_
        refine R_getf (pc := 108) dX5_print_108 rfl (by repeat (first | assumption | exact up_s | refine up_n (by omega) ?_)) rfl ?_
        refine R_iast (pc := 111) dX5_print_111 (by repeat (first | assumption | exact up_s | refine up_n (by omega) ?_)) (by simp only [pk_mul, nI_add]; exact rfl) (by omega) (by decide) ?_
        refine R_aload_n (pc := 112) dX5_print_112 rfl ?_
        refine R_getf (pc := 113) dX5_print_113 rfl (by repeat (first | assumption | exact up_s | refine up_n (by omega) ?_)) rfl ?_
        refine R_iload (pc := 116) dX5_print_116 rfl ?_
        refine R_iconst (pc := 118) (x := nI 5) dX5_print_118 rfl ?_
        refine R_iadd (pc := 119) dX5_print_119 ?_
        refine R_aload_n (pc := 120) dX5_print_120 rfl ?_
        refine R_getf (pc := 121) dX5_print_121 rfl (by repeat (first | assumption | exact up_s | refine up_n (by omega) ?_)) rfl ?_
        refine R_iast (pc := 124) dX5_print_124 (by repeat (first | assumption | exact up_s | refine up_n (by omega) ?_)) (by simp only [pk_mul, nI_add]; exact rfl) (by omega) (by decide) ?_
        refine R_aload_n (pc := 125) dX5_print_125 rfl ?_
        refine R_getf (pc := 126) dX5_print_126 rfl (by repeat (first | assumption | exact up_s | refine up_n (by omega) ?_)) rfl ?_
        refine R_iload (pc := 129) dX5_print_129 rfl ?_
        refine R_bipush (pc := 131) (x := nI 6) dX5_print_131 (by decide) ?_
        refine R_iadd (pc := 133) dX5_print_133 ?_
        refine R_aload_n (pc := 134) dX5_print_134 rfl ?_
        refine R_getf (pc := 135) dX5_print_135 rfl (by repeat (first | assumption | exact up_s | refine up_n (by omega) ?_)) rfl ?_
        refine R_iast (pc := 138) dX5_print_138 (by repeat (first | assumption | exact up_s | refine up_n (by omega) ?_)) (by simp only [pk_mul, nI_add]; exact rfl) (by omega) (by decide) ?_
        refine R_aload_n (pc := 139) dX5_print_139 rfl ?_
        refine R_getf (pc := 140) dX5_print_140 rfl (by repeat (first | assumption | exact up_s | refine up_n (by omega) ?_)) rfl ?_
        refine R_iload (pc := 143) dX5_print_143 rfl ?_
        refine R_bipush (pc := 145) (x := nI 7) dX5_print_145 (by decide) ?_
        refine R_iadd (pc := 147) dX5_print_147 ?_
        refine R_aload_n (pc := 148) dX5_print_148 rfl ?_
        refine R_getf (pc := 149) dX5_print_149 rfl (by repeat (first | assumption | exact up_s | refine up_n (by omega) ?_)) rfl ?_
        refine R_iast (pc := 152) dX5_print_152 (by repeat (first | assumption | exact up_s | refine up_n (by omega) ?_)) (by simp only [pk_mul, nI_add]; exact rfl) (by omega) (by decide) ?_
        refine R_aload_n (pc := 153) dX5_print_153 rfl ?_
        refine R_getf (pc := 154) dX5_print_154 rfl (by repeat (first | assumption | exact up_s | refine up_n (by omega) ?_)) rfl ?_
        refine R_iload (pc := 157) dX5_print_157 rfl ?_
        refine R_bipush (pc := 159) (x := nI 8) dX5_print_159 (by decide) ?_
        refine R_iadd (pc := 161) dX5_print_161 ?_
        refine R_iload_n (pc := 162) dX5_print_162 rfl ?_
        refine R_iast (pc := 163) dX5_print_163 (by repeat (first | assumption | exact up_s | refine up_n (by omega) ?_)) (by simp only [pk_mul, nI_add]; exact rfl) (by omega) (by decide) ?_
        refine R_aload_n (pc := 164) dX5_print_164 rfl ?_
        refine R_getf (pc := 165) dX5_print_165 rfl (by repeat (first | assumption | exact up_s | refine up_n (by omega) ?_)) rfl ?_
        refine R_iload (pc := 168) dX5_print_168 rfl ?_
        refine R_bipush (pc := 170) (x := nI 9) dX5_print_170 (by decide) ?_
        refine R_iadd (pc := 172) dX5_print_172 ?_
        refine R_aload_n (pc := 173) dX5_print_173 rfl ?_
        refine R_getf (pc := 174) dX5_print_174 rfl (by repeat (first | assumption | exact up_s | refine up_n (by omega) ?_)) rfl ?_
        refine R_iast (pc := 177) dX5_print_177 (by repeat (first | assumption | exact up_s | refine up_n (by omega) ?_)) (by simp only [pk_mul, nI_add]; exact rfl) (by omega) (by decide) ?_
        refine R_aload_n (pc := 178) dX5_print_178 rfl ?_
        refine R_dup (pc := 179) dX5_print_179 rfl ?_
        refine R_getf (pc := 180) dX5_print_180 rfl (by repeat (first | assumption | exact up_s | refine up_n (by omega) ?_)) rfl ?_
        refine R_iconst (pc := 183) (x := nI 1) dX5_print_183 rfl ?_
        refine R_iadd (pc := 184) dX5_print_184 ?_
        refine R_putf (pc := 185) dX5_print_185 rfl (by repeat (first | assumption | exact up_s | refine up_n (by omega) ?_)) rfl (Or.inl rfl) rfl ?_
        refine R_vret (pc := 188) dX5_print_188 rfl ?_
        refine hQ _ ⟨?_, up_n (by omega) (up_s.trans ?_), ?_⟩ (fun a ha => ?_)
        · refine up_s.trans ?_
          rw [nI_add]
          rfl
        · refine congrArg (fun F => some (Sum.inl (0, 1610, Sum.inl F))) (funext fun x => ?_)
          show _ = prF R.1 (lnT kd T e) R.2.2.2.1 x
          unfold prF
          by_cases hx : R.1 * 10 ≤ x ∧ x < R.1 * 10 + 10
          · rw [if_pos hx]
            have cs : ∀ y : Nat, y < 10 → y = 0 ∨ y = 1 ∨ y = 2 ∨ y = 3 ∨ y = 4 ∨ y = 5 ∨ y = 6 ∨ y = 7 ∨ y = 8 ∨ y = 9 := by omega
            obtain ⟨y, rfl⟩ : ∃ y, x = R.1 * 10 + y := ⟨x - R.1 * 10, by omega⟩
            rw [show R.1 * 10 + y - R.1 * 10 = y by omega]
            rcases cs y (by omega) with rfl | rfl | rfl | rfl | rfl | rfl | rfl | rfl | rfl | rfl
            · repeat rw [upd_n (by omega)]
              rw [upd_s]; rfl
            · repeat rw [upd_n (by omega)]
              rw [upd_s, lnT_c kd T e (by omega) (by omega)]
              unfold colV
              first
                | (rw [if_pos (by unfold noneK; omega)]; done)
                | (rw [if_neg (by unfold noneK; omega)])
            · repeat rw [upd_n (by omega)]
              rw [upd_s, lnT_c kd T e (by omega) (by omega)]
              unfold colV
              first
                | (rw [if_pos (by unfold noneK; omega)]; done)
                | (rw [if_neg (by unfold noneK; omega)])
            · repeat rw [upd_n (by omega)]
              rw [upd_s, lnT_c kd T e (by omega) (by omega)]
              unfold colV
              first
                | (rw [if_pos (by unfold noneK; omega)]; done)
                | (rw [if_neg (by unfold noneK; omega)])
            · repeat rw [upd_n (by omega)]
              rw [upd_s]; rfl
            · repeat rw [upd_n (by omega)]
              rw [upd_s]; rfl
            · repeat rw [upd_n (by omega)]
              rw [upd_s]; rfl
            · repeat rw [upd_n (by omega)]
              rw [upd_s]; rfl
            · repeat rw [upd_n (by omega)]
              rw [upd_s]; rfl
            · rw [upd_s]; rfl
          · rw [if_neg hx]
            repeat rw [upd_n (by omega)]
        · simp only [va_up]
          repeat rw [if_neg (by omega)]
          exact hr3
        · simp only [va_up]
          repeat rw [if_neg (by omega)]
      · have c86 : ¬ 1 < kd := fun q => h86 (nI_lt q (by omega))
        refine R_aload_n (pc := 89) dX5_print_89 rfl ?_
        refine R_getf (pc := 90) dX5_print_90 rfl (by repeat (first | assumption | exact up_s | refine up_n (by omega) ?_)) rfl ?_
        refine R_goto (pc := 93) (t := 98) dX5_print_93 (by decide) ?_
        refine R_iast (pc := 98) dX5_print_98 (by repeat (first | assumption | exact up_s | refine up_n (by omega) ?_)) (by simp only [pk_mul, nI_add]; exact rfl) (by omega) (by decide) ?_
        refine R_aload_n (pc := 99) dX5_print_99 rfl ?_
        refine R_getf (pc := 100) dX5_print_100 rfl (by repeat (first | assumption | exact up_s | refine up_n (by omega) ?_)) rfl ?_
        refine R_iload (pc := 103) dX5_print_103 rfl ?_
        refine R_iconst (pc := 105) (x := nI 4) dX5_print_105 rfl ?_
        refine R_iadd (pc := 106) dX5_print_106 ?_
        refine R_aload_n (pc := 107) dX5_print_107 rfl ?_
        refine R_getf (pc := 108) dX5_print_108 rfl (by repeat (first | assumption | exact up_s | refine up_n (by omega) ?_)) rfl ?_
        refine R_iast (pc := 111) dX5_print_111 (by repeat (first | assumption | exact up_s | refine up_n (by omega) ?_)) (by simp only [pk_mul, nI_add]; exact rfl) (by omega) (by decide) ?_
        refine R_aload_n (pc := 112) dX5_print_112 rfl ?_
        refine R_getf (pc := 113) dX5_print_113 rfl (by repeat (first | assumption | exact up_s | refine up_n (by omega) ?_)) rfl ?_
        refine R_iload (pc := 116) dX5_print_116 rfl ?_
        refine R_iconst (pc := 118) (x := nI 5) dX5_print_118 rfl ?_
        refine R_iadd (pc := 119) dX5_print_119 ?_
        refine R_aload_n (pc := 120) dX5_print_120 rfl ?_
        refine R_getf (pc := 121) dX5_print_121 rfl (by repeat (first | assumption | exact up_s | refine up_n (by omega) ?_)) rfl ?_
        refine R_iast (pc := 124) dX5_print_124 (by repeat (first | assumption | exact up_s | refine up_n (by omega) ?_)) (by simp only [pk_mul, nI_add]; exact rfl) (by omega) (by decide) ?_
        refine R_aload_n (pc := 125) dX5_print_125 rfl ?_
        refine R_getf (pc := 126) dX5_print_126 rfl (by repeat (first | assumption | exact up_s | refine up_n (by omega) ?_)) rfl ?_
        refine R_iload (pc := 129) dX5_print_129 rfl ?_
        refine R_bipush (pc := 131) (x := nI 6) dX5_print_131 (by decide) ?_
        refine R_iadd (pc := 133) dX5_print_133 ?_
        refine R_aload_n (pc := 134) dX5_print_134 rfl ?_
        refine R_getf (pc := 135) dX5_print_135 rfl (by repeat (first | assumption | exact up_s | refine up_n (by omega) ?_)) rfl ?_
        refine R_iast (pc := 138) dX5_print_138 (by repeat (first | assumption | exact up_s | refine up_n (by omega) ?_)) (by simp only [pk_mul, nI_add]; exact rfl) (by omega) (by decide) ?_
        refine R_aload_n (pc := 139) dX5_print_139 rfl ?_
        refine R_getf (pc := 140) dX5_print_140 rfl (by repeat (first | assumption | exact up_s | refine up_n (by omega) ?_)) rfl ?_
        refine R_iload (pc := 143) dX5_print_143 rfl ?_
        refine R_bipush (pc := 145) (x := nI 7) dX5_print_145 (by decide) ?_
        refine R_iadd (pc := 147) dX5_print_147 ?_
        refine R_aload_n (pc := 148) dX5_print_148 rfl ?_
        refine R_getf (pc := 149) dX5_print_149 rfl (by repeat (first | assumption | exact up_s | refine up_n (by omega) ?_)) rfl ?_
        refine R_iast (pc := 152) dX5_print_152 (by repeat (first | assumption | exact up_s | refine up_n (by omega) ?_)) (by simp only [pk_mul, nI_add]; exact rfl) (by omega) (by decide) ?_
        refine R_aload_n (pc := 153) dX5_print_153 rfl ?_
        refine R_getf (pc := 154) dX5_print_154 rfl (by repeat (first | assumption | exact up_s | refine up_n (by omega) ?_)) rfl ?_
        refine R_iload (pc := 157) dX5_print_157 rfl ?_
        refine R_bipush (pc := 159) (x := nI 8) dX5_print_159 (by decide) ?_
        refine R_iadd (pc := 161) dX5_print_161 ?_
        refine R_iload_n (pc := 162) dX5_print_162 rfl ?_
        refine R_iast (pc := 163) dX5_print_163 (by repeat (first | assumption | exact up_s | refine up_n (by omega) ?_)) (by simp only [pk_mul, nI_add]; exact rfl) (by omega) (by decide) ?_
        refine R_aload_n (pc := 164) dX5_print_164 rfl ?_
        refine R_getf (pc := 165) dX5_print_165 rfl (by repeat (first | assumption | exact up_s | refine up_n (by omega) ?_)) rfl ?_
        refine R_iload (pc := 168) dX5_print_168 rfl ?_
        refine R_bipush (pc := 170) (x := nI 9) dX5_print_170 (by decide) ?_
        refine R_iadd (pc := 172) dX5_print_172 ?_
        refine R_aload_n (pc := 173) dX5_print_173 rfl ?_
        refine R_getf (pc := 174) dX5_print_174 rfl (by repeat (first | assumption | exact up_s | refine up_n (by omega) ?_)) rfl ?_
        refine R_iast (pc := 177) dX5_print_177 (by repeat (first | assumption | exact up_s | refine up_n (by omega) ?_)) (by simp only [pk_mul, nI_add]; exact rfl) (by omega) (by decide) ?_
        refine R_aload_n (pc := 178) dX5_print_178 rfl ?_
        refine R_dup (pc := 179) dX5_print_179 rfl ?_
        refine R_getf (pc := 180) dX5_print_180 rfl (by repeat (first | assumption | exact up_s | refine up_n (by omega) ?_)) rfl ?_
        refine R_iconst (pc := 183) (x := nI 1) dX5_print_183 rfl ?_
        refine R_iadd (pc := 184) dX5_print_184 ?_
        refine R_putf (pc := 185) dX5_print_185 rfl (by repeat (first | assumption | exact up_s | refine up_n (by omega) ?_)) rfl (Or.inl rfl) rfl ?_
        refine R_vret (pc := 188) dX5_print_188 rfl ?_
        refine hQ _ ⟨?_, up_n (by omega) (up_s.trans ?_), ?_⟩ (fun a ha => ?_)
        · refine up_s.trans ?_
          rw [nI_add]
          rfl
        · refine congrArg (fun F => some (Sum.inl (0, 1610, Sum.inl F))) (funext fun x => ?_)
          show _ = prF R.1 (lnT kd T e) R.2.2.2.1 x
          unfold prF
          by_cases hx : R.1 * 10 ≤ x ∧ x < R.1 * 10 + 10
          · rw [if_pos hx]
            have cs : ∀ y : Nat, y < 10 → y = 0 ∨ y = 1 ∨ y = 2 ∨ y = 3 ∨ y = 4 ∨ y = 5 ∨ y = 6 ∨ y = 7 ∨ y = 8 ∨ y = 9 := by omega
            obtain ⟨y, rfl⟩ : ∃ y, x = R.1 * 10 + y := ⟨x - R.1 * 10, by omega⟩
            rw [show R.1 * 10 + y - R.1 * 10 = y by omega]
            rcases cs y (by omega) with rfl | rfl | rfl | rfl | rfl | rfl | rfl | rfl | rfl | rfl
            · repeat rw [upd_n (by omega)]
              rw [upd_s]; rfl
            · repeat rw [upd_n (by omega)]
              rw [upd_s, lnT_c kd T e (by omega) (by omega)]
              unfold colV
              first
                | (rw [if_pos (by unfold noneK; omega)]; done)
                | (rw [if_neg (by unfold noneK; omega)])
            · repeat rw [upd_n (by omega)]
              rw [upd_s, lnT_c kd T e (by omega) (by omega)]
              unfold colV
              first
                | (rw [if_pos (by unfold noneK; omega)]; done)
                | (rw [if_neg (by unfold noneK; omega)])
            · repeat rw [upd_n (by omega)]
              rw [upd_s, lnT_c kd T e (by omega) (by omega)]
              unfold colV
              first
                | (rw [if_pos (by unfold noneK; omega)]; done)
                | (rw [if_neg (by unfold noneK; omega)])
            · repeat rw [upd_n (by omega)]
              rw [upd_s]; rfl
            · repeat rw [upd_n (by omega)]
              rw [upd_s]; rfl
            · repeat rw [upd_n (by omega)]
              rw [upd_s]; rfl
            · repeat rw [upd_n (by omega)]
              rw [upd_s]; rfl
            · repeat rw [upd_n (by omega)]
              rw [upd_s]; rfl
            · rw [upd_s]; rfl
          · rw [if_neg hx]
            repeat rw [upd_n (by omega)]
        · simp only [va_up]
          repeat rw [if_neg (by omega)]
          exact hr3
        · simp only [va_up]
          repeat rw [if_neg (by omega)]
def rcT (R : RpX) (k : Nat) : Nat → Int32 := fun j => if j = 0 then R.2.2.2.1 (k * 10 + 1) else if j = 1 then R.2.2.2.1 (k * 10 + 2) else if j = 2 then R.2.2.2.1 (k * 10 + 3) else if j = 3 then R.2.2.2.1 (k * 10 + 9) else R.2.2.2.1 (k * 10 + j)
theorem c5_readCard {r t k : Nat} {R : RpX} {T : Nat → Int32} (hr : RpAt h r R) (ht : TtAt h t T) (hrt : t < r ∨ r + 3 ≤ t) (hn : R.1 ≤ 161) (hk : k < R.1) (hQ : ∀ h2 : Nat → Option am_C, TtAt h2 t (rcT R k) → (∀ a, ¬ a = t → h2 a = h a) → Q none (h2, z)) : Rn sA mX5_readCard 0 [some (.ref r), some (.int (nI k)), some (.ref t)] [] (h, z) Q := by
  have hr9 := hr
  obtain ⟨hr1, hr2, hr3⟩ := hr9
  have ht9 := ht
  unfold TtAt at ht9
  refine R_aload_n (pc := 0) dX5_readCard_0 rfl ?_
  refine R_aload_n (pc := 1) dX5_readCard_1 rfl ?_
  refine R_iload_n (pc := 2) dX5_readCard_2 rfl ?_
  refine R_iconst (pc := 3) (x := nI 1) dX5_readCard_3 rfl ?_
  refine R_callV (pc := 4) dX5_readCard_4 rfl (by repeat (first | assumption | exact up_s | refine up_n (by omega) ?_)) rfl rfl ?_
  refine c5_number (RpAt.fr hr (fun x x1 x2 => by simp only [va_up]; (repeat rw [if_neg (by omega)]))) hn hk (by omega) ?_
  refine R_putf (pc := 7) dX5_readCard_7 rfl (by repeat (first | assumption | exact up_s | refine up_n (by omega) ?_)) rfl (Or.inl rfl) rfl ?_
  refine R_aload_n (pc := 10) dX5_readCard_10 rfl ?_
  refine R_aload_n (pc := 11) dX5_readCard_11 rfl ?_
  refine R_iload_n (pc := 12) dX5_readCard_12 rfl ?_
  refine R_iconst (pc := 13) (x := nI 2) dX5_readCard_13 rfl ?_
  refine R_callV (pc := 14) dX5_readCard_14 rfl (by repeat (first | assumption | exact up_s | refine up_n (by omega) ?_)) rfl rfl ?_
  refine c5_number (RpAt.fr hr (fun x x1 x2 => by simp only [va_up]; (repeat rw [if_neg (by omega)]))) hn hk (by omega) ?_
  refine R_putf (pc := 17) dX5_readCard_17 rfl (by repeat (first | assumption | exact up_s | refine up_n (by omega) ?_)) rfl (Or.inl rfl) rfl ?_
  refine R_aload_n (pc := 20) dX5_readCard_20 rfl ?_
  refine R_aload_n (pc := 21) dX5_readCard_21 rfl ?_
  refine R_iload_n (pc := 22) dX5_readCard_22 rfl ?_
  refine R_iconst (pc := 23) (x := nI 3) dX5_readCard_23 rfl ?_
  refine R_callV (pc := 24) dX5_readCard_24 rfl (by repeat (first | assumption | exact up_s | refine up_n (by omega) ?_)) rfl rfl ?_
  refine c5_number (RpAt.fr hr (fun x x1 x2 => by simp only [va_up]; (repeat rw [if_neg (by omega)]))) hn hk (by omega) ?_
  refine R_putf (pc := 27) dX5_readCard_27 rfl (by repeat (first | assumption | exact up_s | refine up_n (by omega) ?_)) rfl (Or.inl rfl) rfl ?_
  refine R_aload_n (pc := 30) dX5_readCard_30 rfl ?_
  refine R_aload_n (pc := 31) dX5_readCard_31 rfl ?_
  refine R_iload_n (pc := 32) dX5_readCard_32 rfl ?_
  refine R_bipush (pc := 33) (x := nI 9) dX5_readCard_33 (by decide) ?_
  refine R_callV (pc := 35) dX5_readCard_35 rfl (by repeat (first | assumption | exact up_s | refine up_n (by omega) ?_)) rfl rfl ?_
  refine c5_number (RpAt.fr hr (fun x x1 x2 => by simp only [va_up]; (repeat rw [if_neg (by omega)]))) hn hk (by omega) ?_
  refine R_putf (pc := 38) dX5_readCard_38 rfl (by repeat (first | assumption | exact up_s | refine up_n (by omega) ?_)) rfl (Or.inl rfl) rfl ?_
  refine R_aload_n (pc := 41) dX5_readCard_41 rfl ?_
  refine R_aload_n (pc := 42) dX5_readCard_42 rfl ?_
  refine R_iload_n (pc := 43) dX5_readCard_43 rfl ?_
  refine R_iconst (pc := 44) (x := nI 4) dX5_readCard_44 rfl ?_
  refine R_callV (pc := 45) dX5_readCard_45 rfl (by repeat (first | assumption | exact up_s | refine up_n (by omega) ?_)) rfl rfl ?_
  refine c5_number (RpAt.fr hr (fun x x1 x2 => by simp only [va_up]; (repeat rw [if_neg (by omega)]))) hn hk (by omega) ?_
  refine R_putf (pc := 48) dX5_readCard_48 rfl (by repeat (first | assumption | exact up_s | refine up_n (by omega) ?_)) rfl (Or.inl rfl) rfl ?_
  refine R_aload_n (pc := 51) dX5_readCard_51 rfl ?_
  refine R_aload_n (pc := 52) dX5_readCard_52 rfl ?_
  refine R_iload_n (pc := 53) dX5_readCard_53 rfl ?_
  refine R_iconst (pc := 54) (x := nI 5) dX5_readCard_54 rfl ?_
  refine R_callV (pc := 55) dX5_readCard_55 rfl (by repeat (first | assumption | exact up_s | refine up_n (by omega) ?_)) rfl rfl ?_
  refine c5_number (RpAt.fr hr (fun x x1 x2 => by simp only [va_up]; (repeat rw [if_neg (by omega)]))) hn hk (by omega) ?_
  refine R_putf (pc := 58) dX5_readCard_58 rfl (by repeat (first | assumption | exact up_s | refine up_n (by omega) ?_)) rfl (Or.inl rfl) rfl ?_
  refine R_aload_n (pc := 61) dX5_readCard_61 rfl ?_
  refine R_aload_n (pc := 62) dX5_readCard_62 rfl ?_
  refine R_iload_n (pc := 63) dX5_readCard_63 rfl ?_
  refine R_bipush (pc := 64) (x := nI 6) dX5_readCard_64 (by decide) ?_
  refine R_callV (pc := 66) dX5_readCard_66 rfl (by repeat (first | assumption | exact up_s | refine up_n (by omega) ?_)) rfl rfl ?_
  refine c5_number (RpAt.fr hr (fun x x1 x2 => by simp only [va_up]; (repeat rw [if_neg (by omega)]))) hn hk (by omega) ?_
  refine R_putf (pc := 69) dX5_readCard_69 rfl (by repeat (first | assumption | exact up_s | refine up_n (by omega) ?_)) rfl (Or.inl rfl) rfl ?_
  refine R_aload_n (pc := 72) dX5_readCard_72 rfl ?_
  refine R_aload_n (pc := 73) dX5_readCard_73 rfl ?_
  refine R_iload_n (pc := 74) dX5_readCard_74 rfl ?_
  refine R_bipush (pc := 75) (x := nI 7) dX5_readCard_75 (by decide) ?_
  refine R_callV (pc := 77) dX5_readCard_77 rfl (by repeat (first | assumption | exact up_s | refine up_n (by omega) ?_)) rfl rfl ?_
  refine c5_number (RpAt.fr hr (fun x x1 x2 => by simp only [va_up]; (repeat rw [if_neg (by omega)]))) hn hk (by omega) ?_
  refine R_putf (pc := 80) dX5_readCard_80 rfl (by repeat (first | assumption | exact up_s | refine up_n (by omega) ?_)) rfl (Or.inl rfl) rfl ?_
  refine R_vret (pc := 83) dX5_readCard_83 rfl ?_
  exact hQ _ up_s (fun a ha => by simp only [va_up, if_neg ha])
end CC4
