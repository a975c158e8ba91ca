section CC6
variable {sA : Nat} {h : Nat → Option am_C} {z : Nat × Nat} {Q : Option Value → am_H → Prop}
theorem c0_init {c x : Nat} (hc : h c = some (.inr (0, am_bl 0))) (hQ : ∀ (h2 : Nat → Option am_C) (C : CdX), CdAt h2 c C → C.2 = (nI 0, nI 0) → (∀ j, j < 24 → C.1 j = (-1000009)) → (∀ a, (a < c ∨ c + 2 ≤ a) → h2 a = h a) → Q none (h2, c + 2, x + 24)) : Rn sA mX0_init 0 [some (.ref c)] [] (h, c + 1, x) Q := by
  refine R_aload_n (pc := 0) dX0_init_0 rfl ?_
  refine R_obj (pc := 1) dX0_init_1 rfl rfl ⟨Nat.le_of_ble_eq_true rfl, Nat.le_of_ble_eq_true rfl⟩ ?_
  refine R_aload_n (pc := 4) dX0_init_4 rfl ?_
  refine R_bipush (pc := 5) (x := nI 24) dX0_init_5 (by decide) ?_
  refine R_newa (pc := 7) dX0_init_7 rfl (by decide) ?_
  refine R_putf (pc := 9) dX0_init_9 rfl (by repeat (first | assumption | exact up_s | refine up_n (by omega) ?_)) rfl (Or.inr ⟨by decide, rfl⟩) rfl ?_
  skip
  refine R_aload_n (pc := 12) dX0_init_12 rfl ?_
  refine R_callV (pc := 13) dX0_init_13 rfl (by repeat (first | assumption | exact up_s | refine up_n (by omega) ?_)) rfl rfl ?_
  refine c0_clear (c := c) (C := (fun _ => 0, nI 0, nI 0)) ⟨up_s, up_n (by omega) up_s⟩ (fun h2 C q1 q2 q3 q4 => ?_)
  refine R_vret (pc := 16) dX0_init_16 rfl ?_
  refine hQ h2 C q1 q2 q3 (fun a ha => (q4 a (by omega) (by omega)).trans ?_)
  simp only [va_up]
  rw [if_neg (by omega), if_neg (by omega)]
theorem Rn_z {mi : am_I} {pc : Nat} {ls : am_L} {st : List Value} {a b a' b' : Nat} (e1 : a = a') (e2 : b = b') (k : Rn sA mi pc ls st (h, a', b') Q) : Rn sA mi pc ls st (h, a, b) Q := by subst e1; subst e2; exact k
theorem Q_z {r : Option Value} {a b a' b' : Nat} (e1 : a' = a) (e2 : b' = b) (k : Q r (h, a', b')) : Q r (h, a, b) := by subst e1; subst e2; exact k
def P00 (f : Nat) : Nat := if f = 0 then 0 else if f = 1 then 2 else if f = 2 then 4 else if f = 3 then 7 else if f = 4 then 10 else 14
def Wd00 (f : Nat) : Nat := if f = 0 then 2 else if f = 1 then 2 else if f = 2 then 3 else if f = 3 then 3 else if f = 4 then 4 else 1
theorem c3_init {l x : Nat} (hl : h l = some (.inr (3, am_bl 3))) (hQ : ∀ h2 : Nat → Option am_C, LyAt h2 l P00 Wd00 → (∀ a, (a < l ∨ l + 3 ≤ a) → h2 a = h a) → Q none (h2, l + 3, x + 12)) : Rn sA mX3_init 0 [some (.ref l)] [] (h, l + 1, x) Q := by
  refine R_aload_n (pc := 0) dX3_init_0 rfl ?_
  refine R_obj (pc := 1) dX3_init_1 rfl rfl ⟨Nat.le_of_ble_eq_true rfl, Nat.le_of_ble_eq_true rfl⟩ ?_
  refine R_aload_n (pc := 4) dX3_init_4 rfl ?_
  refine R_bipush (pc := 5) (x := nI 6) dX3_init_5 (by decide) ?_
  refine R_newa (pc := 7) dX3_init_7 rfl (by decide) ?_
  refine R_dup (pc := 9) dX3_init_9 rfl ?_
  refine R_iconst (pc := 10) (x := nI 0) dX3_init_10 rfl ?_
  refine R_iconst (pc := 11) (x := nI 0) dX3_init_11 rfl ?_
  refine R_iast (pc := 12) dX3_init_12 (by repeat (first | assumption | exact up_s | refine up_n (by omega) ?_)) (by first | with_reducible rfl | (simp only [nI_add, pk_mul]; exact rfl)) (by omega) (by decide) ?_
  refine R_dup (pc := 13) dX3_init_13 rfl ?_
  refine R_iconst (pc := 14) (x := nI 1) dX3_init_14 rfl ?_
  refine R_iconst (pc := 15) (x := nI 2) dX3_init_15 rfl ?_
  refine R_iast (pc := 16) dX3_init_16 (by repeat (first | assumption | exact up_s | refine up_n (by omega) ?_)) (by first | with_reducible rfl | (simp only [nI_add, pk_mul]; exact rfl)) (by omega) (by decide) ?_
  refine R_dup (pc := 17) dX3_init_17 rfl ?_
  refine R_iconst (pc := 18) (x := nI 2) dX3_init_18 rfl ?_
  refine R_iconst (pc := 19) (x := nI 4) dX3_init_19 rfl ?_
  refine R_iast (pc := 20) dX3_init_20 (by repeat (first | assumption | exact up_s | refine up_n (by omega) ?_)) (by first | with_reducible rfl | (simp only [nI_add, pk_mul]; exact rfl)) (by omega) (by decide) ?_
  refine R_dup (pc := 21) dX3_init_21 rfl ?_
  refine R_iconst (pc := 22) (x := nI 3) dX3_init_22 rfl ?_
  refine R_bipush (pc := 23) (x := nI 7) dX3_init_23 (by decide) ?_
  refine R_iast (pc := 25) dX3_init_25 (by repeat (first | assumption | exact up_s | refine up_n (by omega) ?_)) (by first | with_reducible rfl | (simp only [nI_add, pk_mul]; exact rfl)) (by omega) (by decide) ?_
  refine R_dup (pc := 26) dX3_init_26 rfl ?_
  refine R_iconst (pc := 27) (x := nI 4) dX3_init_27 rfl ?_
  refine R_bipush (pc := 28) (x := nI 10) dX3_init_28 (by decide) ?_
  refine R_iast (pc := 30) dX3_init_30 (by repeat (first | assumption | exact up_s | refine up_n (by omega) ?_)) (by first | with_reducible rfl | (simp only [nI_add, pk_mul]; exact rfl)) (by omega) (by decide) ?_
  refine R_dup (pc := 31) dX3_init_31 rfl ?_
  refine R_iconst (pc := 32) (x := nI 5) dX3_init_32 rfl ?_
  refine R_bipush (pc := 33) (x := nI 14) dX3_init_33 (by decide) ?_
  refine R_iast (pc := 35) dX3_init_35 (by repeat (first | assumption | exact up_s | refine up_n (by omega) ?_)) (by first | with_reducible rfl | (simp only [nI_add, pk_mul]; exact rfl)) (by omega) (by decide) ?_
  refine R_putf (pc := 36) dX3_init_36 rfl (by repeat (first | assumption | exact up_s | refine up_n (by omega) ?_)) rfl (Or.inr ⟨by decide, rfl⟩) rfl ?_
  refine R_aload_n (pc := 39) dX3_init_39 rfl ?_
  refine R_bipush (pc := 40) (x := nI 6) dX3_init_40 (by decide) ?_
  refine R_newa (pc := 42) dX3_init_42 rfl (by decide) ?_
  refine R_dup (pc := 44) dX3_init_44 rfl ?_
  refine R_iconst (pc := 45) (x := nI 0) dX3_init_45 rfl ?_
  refine R_iconst (pc := 46) (x := nI 2) dX3_init_46 rfl ?_
  refine R_iast (pc := 47) dX3_init_47 (by repeat (first | assumption | exact up_s | refine up_n (by omega) ?_)) (by first | with_reducible rfl | (simp only [nI_add, pk_mul]; exact rfl)) (by omega) (by decide) ?_
  refine R_dup (pc := 48) dX3_init_48 rfl ?_
  refine R_iconst (pc := 49) (x := nI 1) dX3_init_49 rfl ?_
  refine R_iconst (pc := 50) (x := nI 2) dX3_init_50 rfl ?_
  refine R_iast (pc := 51) dX3_init_51 (by repeat (first | assumption | exact up_s | refine up_n (by omega) ?_)) (by first | with_reducible rfl | (simp only [nI_add, pk_mul]; exact rfl)) (by omega) (by decide) ?_
  refine R_dup (pc := 52) dX3_init_52 rfl ?_
  refine R_iconst (pc := 53) (x := nI 2) dX3_init_53 rfl ?_
  refine R_iconst (pc := 54) (x := nI 3) dX3_init_54 rfl ?_
  refine R_iast (pc := 55) dX3_init_55 (by repeat (first | assumption | exact up_s | refine up_n (by omega) ?_)) (by first | with_reducible rfl | (simp only [nI_add, pk_mul]; exact rfl)) (by omega) (by decide) ?_
  refine R_dup (pc := 56) dX3_init_56 rfl ?_
  refine R_iconst (pc := 57) (x := nI 3) dX3_init_57 rfl ?_
  refine R_iconst (pc := 58) (x := nI 3) dX3_init_58 rfl ?_
  refine R_iast (pc := 59) dX3_init_59 (by repeat (first | assumption | exact up_s | refine up_n (by omega) ?_)) (by first | with_reducible rfl | (simp only [nI_add, pk_mul]; exact rfl)) (by omega) (by decide) ?_
  refine R_dup (pc := 60) dX3_init_60 rfl ?_
  refine R_iconst (pc := 61) (x := nI 4) dX3_init_61 rfl ?_
  refine R_iconst (pc := 62) (x := nI 4) dX3_init_62 rfl ?_
  refine R_iast (pc := 63) dX3_init_63 (by repeat (first | assumption | exact up_s | refine up_n (by omega) ?_)) (by first | with_reducible rfl | (simp only [nI_add, pk_mul]; exact rfl)) (by omega) (by decide) ?_
  refine R_dup (pc := 64) dX3_init_64 rfl ?_
  refine R_iconst (pc := 65) (x := nI 5) dX3_init_65 rfl ?_
  refine R_iconst (pc := 66) (x := nI 1) dX3_init_66 rfl ?_
  refine R_iast (pc := 67) dX3_init_67 (by repeat (first | assumption | exact up_s | refine up_n (by omega) ?_)) (by first | with_reducible rfl | (simp only [nI_add, pk_mul]; exact rfl)) (by omega) (by decide) ?_
  refine R_putf (pc := 68) dX3_init_68 rfl (by repeat (first | assumption | exact up_s | refine up_n (by omega) ?_)) rfl (Or.inr ⟨by decide, rfl⟩) rfl ?_
  refine R_vret (pc := 71) dX3_init_71 rfl ?_
  refine hQ _ ⟨_, _, up_s, up_n (by omega) (up_n (by omega) (up_n (by omega) (up_n (by omega) (up_n (by omega) (up_n (by omega) (up_n (by omega) (up_n (by omega) (up_n (by omega) up_s)))))))), up_n (by omega) up_s, fun f hf => ?_⟩ (fun a ha => ?_)
  · have cs : ∀ y : Nat, y < 6 → y = 0 ∨ y = 1 ∨ y = 2 ∨ y = 3 ∨ y = 4 ∨ y = 5 := by omega
    rcases cs f hf with rfl | rfl | rfl | rfl | rfl | rfl <;> exact ⟨rfl, rfl⟩
  · simp only [va_up]
    repeat rw [if_neg (by omega)]
theorem c5_init {r x : Nat} (hr : h r = some (.inr (5, am_bl 5))) (hQ : ∀ h2 : Nat → Option am_C, RpAt h2 r (0, 0, 0, fun _ => 0, fun _ => 0) → (∀ a, (a < r ∨ r + 3 ≤ a) → h2 a = h a) → Q none (h2, r + 3, x + 1650)) : Rn sA mX5_init 0 [some (.ref r)] [] (h, r + 1, x) Q := by
  refine R_aload_n (pc := 0) dX5_init_0 rfl ?_
  refine R_obj (pc := 1) dX5_init_1 rfl rfl ⟨Nat.le_of_ble_eq_true rfl, Nat.le_of_ble_eq_true rfl⟩ ?_
  refine R_aload_n (pc := 4) dX5_init_4 rfl ?_
  refine R_sipush (pc := 5) (x := nI 1610) dX5_init_5 (by decide) ?_
  refine R_newa (pc := 8) dX5_init_8 rfl (by decide) ?_
  refine R_putf (pc := 10) dX5_init_10 rfl (by repeat (first | assumption | exact up_s | refine up_n (by omega) ?_)) rfl (Or.inr ⟨by decide, rfl⟩) rfl ?_
  refine R_aload_n (pc := 13) dX5_init_13 rfl ?_
  refine R_bipush (pc := 14) (x := nI 40) dX5_init_14 (by decide) ?_
  refine R_newa (pc := 16) dX5_init_16 rfl (by decide) ?_
  refine R_putf (pc := 18) dX5_init_18 rfl (by repeat (first | assumption | exact up_s | refine up_n (by omega) ?_)) rfl (Or.inr ⟨by decide, rfl⟩) rfl ?_
  refine R_vret (pc := 21) dX5_init_21 rfl ?_
  rw [show x + 1610 + 40 = x + 1650 by omega]
  refine hQ _ ⟨up_s, up_n (by omega) (up_n (by omega) (up_n (by omega) up_s)), up_n (by omega) up_s⟩ (fun a ha => ?_)
  simp only [va_up]
  repeat rw [if_neg (by omega)]
def DkI (h : Nat → Option am_C) (d k : Nat) : Prop := h d = some (.inr (1, [.ref (d + 1), .ref (d + 2), .int (nI 0)])) ∧ (∃ f : Nat → Option Nat, h (d + 1) = some (.inl (1, 40, .inr (.inr (.inr (.inr f))))) ∧ (∀ i, i < k → f i = some (d + 2 + 2 * (i + 1)))) ∧ ∃ K : Nat → CdX, ∀ j, j < k + 1 → CdAt h (d + 2 + 2 * j) (K j)
theorem lc1_init {d x : Nat} {g : Nat → Option am_C}  : ∀ (n k : Nat) (h : Nat → Option am_C) (_ : k + n = 40) (_ : DkI h d k) (_ : ∀ a, (a < d ∨ d + 84 ≤ a) → h a = g a) (_ : (∀ h2 : Nat → Option am_C, DkI h2 d 40 → (∀ a, (a < d ∨ d + 84 ≤ a) → h2 a = g a) → Q none (h2, d + 84, x + 1080))), Rn sA mX1_init 26 [some (.ref d), some (.int (nI k))] [] (h, d + 4 + 2 * k, x + 27 * k) Q
  | 0, k, h, hk, hI, hg, hX => by
    obtain rfl : k = 40 := by omega
    refine R_iload_n (pc := 26) dX1_init_26 rfl ?_
    refine R_bipush (pc := 27) (x := nI 40) dX1_init_27 (by decide) ?_
    refine R_icmp_ge (pc := 29) (t := 51) dX1_init_29 (by decide) (fun _ => ?_) (fun hz9 => absurd (nI_le (by omega) (by omega)) hz9)
    refine R_vret (pc := 51) dX1_init_51 rfl ?_
    exact hX h hI hg
  | n + 1, k, h, hk, hI, hg, hX => by
    obtain ⟨i1, ⟨f, i2, i3⟩, K, i4⟩ := hI
    refine R_iload_n (pc := 26) dX1_init_26 rfl ?_
    refine R_bipush (pc := 27) (x := nI 40) dX1_init_27 (by decide) ?_
    refine R_icmp_ge (pc := 29) (t := 51) dX1_init_29 (by decide) (fun hz9 => absurd hz9 (nI_ge (by omega) (by omega))) (fun _ => ?_)
    refine R_aload_n (pc := 32) dX1_init_32 rfl ?_
    refine R_getf (pc := 33) dX1_init_33 rfl (by repeat (first | assumption | exact up_s | refine up_n (by omega) ?_)) rfl ?_
    refine R_iload_n (pc := 36) dX1_init_36 rfl ?_
    refine R_new (pc := 37) dX1_init_37 rfl rfl rfl ?_
    refine R_dup (pc := 40) dX1_init_40 rfl ?_
    refine R_callI (pc := 41) dX1_init_41 rfl (Or.inl rfl) rfl rfl ?_
    refine c0_init (c := d + 4 + 2 * k) up_s (fun h2 C q1 q2 q3 q4 => ?_)
    have e1 : h2 d = _ := (q4 d (by omega)).trans ((up_n (by omega) rfl).trans i1)
    have e2 : h2 (d + 1) = _ := (q4 (d + 1) (by omega)).trans ((up_n (by omega) rfl).trans i2)
    have e3 := q1.1
    refine R_aast (pc := 44) dX1_init_44 e2 e3 (by decide) rfl (by omega) (by decide) ?_
    refine R_iinc (pc := 45) dX1_init_45 rfl (by first | exact nI_inc _ | rfl) rfl ?_
    refine R_goto (pc := 48) (t := 26) dX1_init_48 (by decide) ?_
    refine Rn_z (a' := d + 4 + 2 * (k + 1)) (b' := x + 27 * (k + 1)) (by show d + 4 + 2 * k + 2 = _; omega) (by show x + 27 * k + 3 + 24 = _; omega) ?_
    refine lc1_init n (k + 1) _ (by omega) ⟨up_n (by omega) e1, ⟨_, up_s, fun i hi => ?_⟩, updK K (k + 1) C, fun j hj => ?_⟩ (fun a ha => ?_) hX
    · by_cases e : i = k
      · subst e; rw [up_s]; congr 1; omega
      · exact up_n e (i3 i (by omega))
    · refine CdAt.fr (h := h2) ?_ (fun y y1 y2 => up_n (by omega) rfl)
      by_cases e : j = k + 1
      · subst e; rw [updK_s, show d + 2 + 2 * (k + 1) = d + 4 + 2 * k by omega]; exact q1
      · rw [updK_n e]
        exact (i4 j (by omega)).fr (fun y y1 y2 => (q4 y (by omega)).trans (up_n (by omega) rfl))
    · rw [up_n (by omega) rfl, q4 a (by omega), up_n (by omega) rfl]
      exact hg a ha
theorem c1_init {d x : Nat} (hd : h d = some (.inr (1, am_bl 1))) (hQ : ∀ (h2 : Nat → Option am_C) (K : Nat → CdX), DkAt h2 d 0 (fun i => i + 1) K → (∀ a, (a < d ∨ d + 84 ≤ a) → h2 a = h a) → Q none (h2, d + 84, x + 1147)) : Rn sA mX1_init 0 [some (.ref d), none] [] (h, d + 1, x) Q := by
  refine R_aload_n (pc := 0) dX1_init_0 rfl ?_
  refine R_obj (pc := 1) dX1_init_1 rfl rfl ⟨Nat.le_of_ble_eq_true rfl, Nat.le_of_ble_eq_true rfl⟩ ?_
  refine R_aload_n (pc := 4) dX1_init_4 rfl ?_
  refine R_bipush (pc := 5) (x := nI 40) dX1_init_5 (by decide) ?_
  refine R_anew (pc := 7) dX1_init_7 rfl rfl (by decide) ?_
  refine R_putf (pc := 10) dX1_init_10 rfl (by repeat (first | assumption | exact up_s | refine up_n (by omega) ?_)) rfl (Or.inr ⟨by decide, rfl⟩) rfl ?_
  refine R_aload_n (pc := 13) dX1_init_13 rfl ?_
  refine R_new (pc := 14) dX1_init_14 rfl rfl rfl ?_
  refine R_dup (pc := 17) dX1_init_17 rfl ?_
  refine R_callI (pc := 18) dX1_init_18 rfl (Or.inl rfl) rfl rfl ?_
  refine c0_init (c := d + 2) up_s (fun h2 C q1 q2 q3 q4 => ?_)
  have e1 : h2 d = _ := (q4 d (by omega)).trans ((up_n (by omega) rfl).trans up_s)
  have e2 : h2 (d + 1) = _ := (q4 (d + 1) (by omega)).trans ((up_n (by omega) rfl).trans ((up_n (by omega) rfl).trans up_s))
  refine R_putf (pc := 21) dX1_init_21 rfl (by repeat (first | assumption | exact up_s | refine up_n (by omega) ?_)) rfl (Or.inr ⟨by decide, rfl⟩) rfl ?_
  refine R_iconst (pc := 24) (x := nI 0) dX1_init_24 rfl ?_
  refine R_istore_n (pc := 25) dX1_init_25 (Nat.le_of_ble_eq_true rfl) rfl ?_
  refine Rn_z (a' := d + 4 + 2 * 0) (b' := x + 67 + 27 * 0) (by show d + 2 + 2 = _; omega) (by show x + 40 + 3 + 24 = _; omega) ?_
  refine lc1_init (g := h) (x := x + 67) 40 0 _ (by omega) ⟨up_s, ⟨_, up_n (by omega) e2, fun i hi => absurd hi (Nat.not_lt_zero _)⟩, fun _ => C, fun j hj => ?_⟩ (fun a ha => ?_) (fun h3 r1 r2 => ?_)
  · obtain rfl : j = 0 := by omega
    exact q1.fr (fun y y1 y2 => up_n (by omega) rfl)
  · rw [up_n (by omega) rfl, q4 a (by omega), up_n (by omega) rfl, up_n (by omega) rfl, up_n (by omega) rfl]
  · obtain ⟨s1, ⟨f, s2, s3⟩, K, s4⟩ := r1
    rw [show x + 67 + 1080 = x + 1147 by omega]
    exact hQ h3 K ⟨s1, ⟨f, s2, s3⟩, fun j hj => s4 j (by omega), fun i hi => by show i + 1 < 41; omega⟩ r2
/-- the numbers of the state that a new object begins with -/
def U00 (U : Nat → Int32) : Prop := U 0 = nI 0 ∧ U 1 = nI 2 ∧ U 2 = nI 2 ∧ U 3 = nI 2 ∧ U 4 = nI 4 ∧ U 5 = nI 3 ∧ U 6 = nI 7 ∧ U 7 = nI 3 ∧ U 8 = nI 10 ∧ U 9 = nI 4 ∧ U 10 = nI 14 ∧ U 11 = nI 1 ∧ U 12 = nI 1 ∧ U 13 = nI 1 ∧ U 14 = nI 999 ∧ U 15 = nI 400 ∧ U 16 = (-1000009) ∧ U 17 = (-1000009) ∧ U 18 = (-1000009) ∧ ∀ j, 19 ≤ j → U j = 0
theorem U00.st {U : Nat → Int32} (a : U00 U) {K : Nat → CdX} {se co : Nat → Int32} (h1 : ∀ f, f < 4 → se f = if f = 0 then nI 1 else if f = 1 then nI 1 else if f = 2 then nI 999 else nI 400) (h2 : ∀ k, k < 3 → co k = (-1000009)) : StR U P00 Wd00 0 (fun i => i + 1) K (0, 0, 0, fun _ => 0, fun _ => 0) se co := by
  obtain ⟨a0, a1, a2, a3, a4, a5, a6, a7, a8, a9, a10, a11, a12, a13, a14, a15, a16, a17, a18, az⟩ := a
  have c6 : ∀ y : Nat, y < 6 → y = 0 ∨ y = 1 ∨ y = 2 ∨ y = 3 ∨ y = 4 ∨ y = 5 := by omega
  refine ⟨fun f hf => ?_, fun f hf => ?_, ⟨(az 19 (by omega)).trans rfl, by omega, fun i j _ _ e => by have e2 : i + 1 = j + 1 := e; omega, fun i hi => absurd hi (Nat.not_lt_zero _)⟩, ⟨(az 1304 (by omega)).trans rfl, by show 0 ≤ 161; omega, (az 1062 (by omega)).trans rfl, by show 0 ≤ 40; omega, az 1061 (by omega), fun i hi => absurd hi (Nat.not_lt_zero _), fun i hi => absurd hi (Nat.not_lt_zero _), fun i hi => absurd hi (Nat.not_lt_zero _)⟩, fun f hf => ?_, fun k hk => ?_⟩
  · rcases c6 f hf with rfl | rfl | rfl | rfl | rfl | rfl
    · exact ⟨a0, a1, by decide⟩
    · exact ⟨a2, a3, by decide⟩
    · exact ⟨a4, a5, by decide⟩
    · exact ⟨a6, a7, by decide⟩
    · exact ⟨a8, a9, by decide⟩
    · exact ⟨a10, a11, by decide⟩
  · rcases c6 f hf with rfl | rfl | rfl | rfl | rfl | rfl <;> decide
  · have c4 : ∀ y : Nat, y < 4 → y = 0 ∨ y = 1 ∨ y = 2 ∨ y = 3 := by omega
    rw [h1 f hf]
    rcases c4 f hf with rfl | rfl | rfl | rfl
    · exact a12.symm
    · exact a13.symm
    · exact a14.symm
    · exact a15.symm
  · have c3 : ∀ y : Nat, y < 3 → y = 0 ∨ y = 1 ∨ y = 2 := by omega
    rw [h2 k hk]
    rcases c3 k hk with rfl | rfl | rfl
    · exact a16.symm
    · exact a17.symm
    · exact a18.symm
theorem c8_init {s x : Nat} (hs : h s = some (.inr (8, am_bl 8))) (hQ : ∀ (h2 : Nat → Option am_C), (∀ U, U00 U → StW h2 s U) → (∀ a, (a < s ∨ s + 93 ≤ a) → h2 a = h a) → Q none (h2, s + 93, x + 2826)) : Rn sA mX8_init 0 [some (.ref s)] [] (h, s + 1, x) Q := by
  refine R_aload_n (pc := 0) dX8_init_0 rfl ?_
  refine R_obj (pc := 1) dX8_init_1 rfl rfl ⟨Nat.le_of_ble_eq_true rfl, Nat.le_of_ble_eq_true rfl⟩ ?_
  refine R_aload_n (pc := 4) dX8_init_4 rfl ?_
  refine R_new (pc := 5) dX8_init_5 rfl rfl rfl ?_
  refine R_dup (pc := 8) dX8_init_8 rfl ?_
  refine R_callI (pc := 9) dX8_init_9 rfl (Or.inr rfl) rfl rfl ?_
  refine c3_init (l := s + 1) up_s (fun h2 q1 q2 => ?_)
  have e0 : h2 s = _ := (q2 s (by omega)).trans ((up_n (by omega) rfl).trans hs)
  refine R_putf (pc := 12) dX8_init_12 rfl (by repeat (first | assumption | exact up_s | refine up_n (by omega) ?_)) rfl (Or.inr ⟨by decide, rfl⟩) rfl ?_
  refine R_aload_n (pc := 15) dX8_init_15 rfl ?_
  refine R_new (pc := 16) dX8_init_16 rfl rfl rfl ?_
  refine R_dup (pc := 19) dX8_init_19 rfl ?_
  refine R_callI (pc := 20) dX8_init_20 rfl (Or.inl rfl) rfl rfl ?_
  refine c1_init (d := s + 4) up_s (fun h3 K q3 q4 => ?_)
  have e1 : h3 s = _ := (q4 s (by omega)).trans ((up_n (by omega) rfl).trans up_s)
  refine R_putf (pc := 23) dX8_init_23 rfl (by repeat (first | assumption | exact up_s | refine up_n (by omega) ?_)) rfl (Or.inr ⟨by decide, rfl⟩) rfl ?_
  refine R_aload_n (pc := 26) dX8_init_26 rfl ?_
  refine R_new (pc := 27) dX8_init_27 rfl rfl rfl ?_
  refine R_dup (pc := 30) dX8_init_30 rfl ?_
  refine R_callI (pc := 31) dX8_init_31 rfl (Or.inr rfl) rfl rfl ?_
  refine c5_init (r := s + 88) up_s (fun h4 q5 q6 => ?_)
  have e2 : h4 s = _ := (q6 s (by omega)).trans ((up_n (by omega) rfl).trans up_s)
  refine R_putf (pc := 34) dX8_init_34 rfl (by repeat (first | assumption | exact up_s | refine up_n (by omega) ?_)) rfl (Or.inr ⟨by decide, rfl⟩) rfl ?_
  refine R_aload_n (pc := 37) dX8_init_37 rfl ?_
  refine R_iconst (pc := 38) (x := nI 4) dX8_init_38 rfl ?_
  refine R_newa (pc := 39) dX8_init_39 rfl (by decide) ?_
  refine R_dup (pc := 41) dX8_init_41 rfl ?_
  refine R_iconst (pc := 42) (x := nI 0) dX8_init_42 rfl ?_
  refine R_iconst (pc := 43) (x := nI 1) dX8_init_43 rfl ?_
  refine R_iast (pc := 44) dX8_init_44 (by repeat (first | assumption | exact up_s | refine up_n (by omega) ?_)) (by first | with_reducible rfl | (simp only [nI_add, pk_mul]; exact rfl)) (by omega) (by decide) ?_
  refine R_dup (pc := 45) dX8_init_45 rfl ?_
  refine R_iconst (pc := 46) (x := nI 1) dX8_init_46 rfl ?_
  refine R_iconst (pc := 47) (x := nI 1) dX8_init_47 rfl ?_
  refine R_iast (pc := 48) dX8_init_48 (by repeat (first | assumption | exact up_s | refine up_n (by omega) ?_)) (by first | with_reducible rfl | (simp only [nI_add, pk_mul]; exact rfl)) (by omega) (by decide) ?_
  refine R_dup (pc := 49) dX8_init_49 rfl ?_
  refine R_iconst (pc := 50) (x := nI 2) dX8_init_50 rfl ?_
  refine R_sipush (pc := 51) (x := nI 999) dX8_init_51 (by decide) ?_
  refine R_iast (pc := 54) dX8_init_54 (by repeat (first | assumption | exact up_s | refine up_n (by omega) ?_)) (by first | with_reducible rfl | (simp only [nI_add, pk_mul]; exact rfl)) (by omega) (by decide) ?_
  refine R_dup (pc := 55) dX8_init_55 rfl ?_
  refine R_iconst (pc := 56) (x := nI 3) dX8_init_56 rfl ?_
  refine R_sipush (pc := 57) (x := nI 400) dX8_init_57 (by decide) ?_
  refine R_iast (pc := 60) dX8_init_60 (by repeat (first | assumption | exact up_s | refine up_n (by omega) ?_)) (by first | with_reducible rfl | (simp only [nI_add, pk_mul]; exact rfl)) (by omega) (by decide) ?_
  refine R_putf (pc := 61) dX8_init_61 rfl (by repeat (first | assumption | exact up_s | refine up_n (by omega) ?_)) rfl (Or.inr ⟨by decide, rfl⟩) rfl ?_
  refine R_aload_n (pc := 64) dX8_init_64 rfl ?_
  refine R_iconst (pc := 65) (x := nI 3) dX8_init_65 rfl ?_
  refine R_newa (pc := 66) dX8_init_66 rfl (by decide) ?_
  refine R_dup (pc := 68) dX8_init_68 rfl ?_
  refine R_iconst (pc := 69) (x := nI 0) dX8_init_69 rfl ?_
  refine R_ldc (pc := 70) (x := (-1000009)) dX8_init_70 rfl ?_
  refine R_iast (pc := 72) dX8_init_72 (by repeat (first | assumption | exact up_s | refine up_n (by omega) ?_)) (by first | with_reducible rfl | (simp only [nI_add, pk_mul]; exact rfl)) (by omega) (by decide) ?_
  refine R_dup (pc := 73) dX8_init_73 rfl ?_
  refine R_iconst (pc := 74) (x := nI 1) dX8_init_74 rfl ?_
  refine R_ldc (pc := 75) (x := (-1000009)) dX8_init_75 rfl ?_
  refine R_iast (pc := 77) dX8_init_77 (by repeat (first | assumption | exact up_s | refine up_n (by omega) ?_)) (by first | with_reducible rfl | (simp only [nI_add, pk_mul]; exact rfl)) (by omega) (by decide) ?_
  refine R_dup (pc := 78) dX8_init_78 rfl ?_
  refine R_iconst (pc := 79) (x := nI 2) dX8_init_79 rfl ?_
  refine R_ldc (pc := 80) (x := (-1000009)) dX8_init_80 rfl ?_
  refine R_iast (pc := 82) dX8_init_82 (by repeat (first | assumption | exact up_s | refine up_n (by omega) ?_)) (by first | with_reducible rfl | (simp only [nI_add, pk_mul]; exact rfl)) (by omega) (by decide) ?_
  refine R_putf (pc := 83) dX8_init_83 rfl (by repeat (first | assumption | exact up_s | refine up_n (by omega) ?_)) rfl (Or.inr ⟨by decide, rfl⟩) rfl ?_
  refine R_vret (pc := 86) dX8_init_86 rfl ?_
  refine Q_z (a' := s + 93) (b' := x + 2826) (by show _ = s + 88 + 3 + 1 + 1; omega) (by show _ = x + 2 + 12 + 3 + 1147 + 5 + 1650 + 4 + 3; omega) ?_
  refine hQ _ (fun U hU => ⟨P00, Wd00, 0, fun i => i + 1, K, (0, 0, 0, fun _ => 0, fun _ => 0), _, _, ⟨up_s, q1.fr (fun y y1 y2 => ?_), q3.fr (fun y y1 y2 => ?_), q5.fr (fun y y1 y2 => ?_), up_n (by omega) (up_n (by omega) (up_n (by omega) (up_n (by omega) (up_n (by omega) (up_n (by omega) up_s))))), up_n (by omega) up_s⟩, hU.st (fun f hf => ?_) (fun k hk => ?_)⟩) (fun a ha => ?_)
  · simp only [va_up]
    repeat rw [if_neg (by omega)]
    rw [q6 y (by omega)]
    simp only [va_up]
    repeat rw [if_neg (by omega)]
    rw [q4 y (by omega)]
    simp only [va_up]
    repeat rw [if_neg (by omega)]
  · simp only [va_up]
    repeat rw [if_neg (by omega)]
    rw [q6 y (by omega)]
    simp only [va_up]
    repeat rw [if_neg (by omega)]
  · simp only [va_up]
    repeat rw [if_neg (by omega)]
  · have c4 : ∀ y : Nat, y < 4 → y = 0 ∨ y = 1 ∨ y = 2 ∨ y = 3 := by omega
    rcases c4 f hf with rfl | rfl | rfl | rfl <;> rfl
  · have c3 : ∀ y : Nat, y < 3 → y = 0 ∨ y = 1 ∨ y = 2 := by omega
    rcases c3 k hk with rfl | rfl | rfl <;> rfl
  · simp only [va_up]
    repeat rw [if_neg (by omega)]
    rw [q6 a (by omega)]
    simp only [va_up]
    repeat rw [if_neg (by omega)]
    rw [q4 a (by omega)]
    simp only [va_up]
    repeat rw [if_neg (by omega)]
    rw [q2 a (by omega)]
    simp only [va_up]
    repeat rw [if_neg (by omega)]
end CC6
