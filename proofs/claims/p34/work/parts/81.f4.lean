section CF4
variable {sA : Nat} {h : Nat → Option am_C} {z : Nat × Nat} {Q : Option Value → am_H → Prop}
theorem c2_init {t x : Nat} (ht : h t = some (.inr (2, am_bl 2))) (hQ : ∀ h2 : Nat → Option am_C, h2 t = some (.inr (2, [.ref (t + 1), .int (nI 0), .int (nI 0)])) → h2 (t + 1) = some (.inl (2, 8, .inr (.inr (.inr (.inr (fun _ => none)))))) → (∀ a, (a < t ∨ t + 2 ≤ a) → h2 a = h a) → Q none (h2, t + 2, x + 8)) : Rn sA mX2_init 0 [some (.ref t)] [] (h, t + 1, x) Q := by
  refine R_aload_n (pc := 0) dX2_init_0 rfl ?_
  refine R_obj (pc := 1) dX2_init_1 rfl rfl ⟨Nat.le_of_ble_eq_true rfl, Nat.le_of_ble_eq_true rfl⟩ ?_
  refine R_aload_n (pc := 4) dX2_init_4 rfl ?_
  refine R_bipush (pc := 5) (x := nI 8) dX2_init_5 (by decide) ?_
  refine R_anew (pc := 7) dX2_init_7 rfl rfl (by decide) ?_
  refine R_putf (pc := 10) dX2_init_10 rfl (by repeat (first | assumption | exact up_s | refine up_n (by omega) ?_)) rfl (Or.inr ⟨by decide, rfl⟩) rfl ?_
  refine R_vret (pc := 13) dX2_init_13 rfl ?_
  refine hQ _ up_s (up_n (by omega) up_s) (fun a ha => ?_)
  rw [up_n (by omega) rfl, up_n (by omega) rfl]
theorem c4_init {t x : Nat} (ht : h t = some (.inr (4, am_bl 4))) (hQ : ∀ h2 : Nat → Option am_C, PrX h2 t (fun _ _ => nI 0) → (∀ a, (a < t ∨ t + 5 ≤ a) → h2 a = h a) → Q none (h2, t + 5, x + 32)) : Rn sA mX4_init 0 [some (.ref t)] [] (h, t + 1, x) Q := by
  refine R_aload_n (pc := 0) dX4_init_0 rfl ?_
  refine R_obj (pc := 1) dX4_init_1 rfl rfl ⟨Nat.le_of_ble_eq_true rfl, Nat.le_of_ble_eq_true rfl⟩ ?_
  refine R_aload_n (pc := 4) dX4_init_4 rfl ?_
  refine R_new (pc := 5) dX4_init_5 rfl rfl rfl ?_
  refine R_dup (pc := 8) dX4_init_8 rfl ?_
  refine R_callI (pc := 9) dX4_init_9 rfl (Or.inr rfl) rfl rfl ?_
  refine c10_init up_s (fun z0 => ?_)
  refine R_putf (pc := 12) dX4_init_12 rfl (by repeat (first | assumption | exact up_s | refine up_n (by omega) ?_)) rfl (Or.inr ⟨by decide, rfl⟩) rfl ?_
  refine R_aload_n (pc := 15) dX4_init_15 rfl ?_
  refine R_new (pc := 16) dX4_init_16 rfl rfl rfl ?_
  refine R_dup (pc := 19) dX4_init_19 rfl ?_
  refine R_callI (pc := 20) dX4_init_20 rfl (Or.inr rfl) rfl rfl ?_
  refine c10_init up_s (fun z1 => ?_)
  refine R_putf (pc := 23) dX4_init_23 rfl (by repeat (first | assumption | exact up_s | refine up_n (by omega) ?_)) rfl (Or.inr ⟨by decide, rfl⟩) rfl ?_
  refine R_aload_n (pc := 26) dX4_init_26 rfl ?_
  refine R_new (pc := 27) dX4_init_27 rfl rfl rfl ?_
  refine R_dup (pc := 30) dX4_init_30 rfl ?_
  refine R_callI (pc := 31) dX4_init_31 rfl (Or.inr rfl) rfl rfl ?_
  refine c10_init up_s (fun z2 => ?_)
  refine R_putf (pc := 34) dX4_init_34 rfl (by repeat (first | assumption | exact up_s | refine up_n (by omega) ?_)) rfl (Or.inr ⟨by decide, rfl⟩) rfl ?_
  refine R_aload_n (pc := 37) dX4_init_37 rfl ?_
  refine R_new (pc := 38) dX4_init_38 rfl rfl rfl ?_
  refine R_dup (pc := 41) dX4_init_41 rfl ?_
  refine R_callI (pc := 42) dX4_init_42 rfl (Or.inr rfl) rfl rfl ?_
  refine c10_init up_s (fun z3 => ?_)
  refine R_putf (pc := 45) dX4_init_45 rfl (by repeat (first | assumption | exact up_s | refine up_n (by omega) ?_)) rfl (Or.inr ⟨by decide, rfl⟩) rfl ?_
  refine R_vret (pc := 48) dX4_init_48 rfl ?_
  refine Q_z (a' := t + 5) (b' := x + 32) (by show _ = t + 1 + 1 + 1 + 1 + 1; omega) (by show _ = x + 8 + 8 + 8 + 8; omega) ?_
  refine hQ _ ⟨up_s, fun q hq => ?_⟩ (fun a ha => ?_)
  · have cc : q = 0 ∨ q = 1 ∨ q = 2 ∨ q = 3 := by omega
    rcases cc with rfl | rfl | rfl | rfl
    · refine z0.fr ?_
      simp only [va_up]
      repeat (first | rw [if_neg (by omega)] | rfl)
    · refine z1.fr ?_
      simp only [va_up]
      repeat (first | rw [if_neg (by omega)] | rfl)
    · refine z2.fr ?_
      simp only [va_up]
      repeat (first | rw [if_neg (by omega)] | rfl)
    · refine z3.fr ?_
      simp only [va_up]
      repeat (first | rw [if_neg (by omega)] | rfl)
  · simp only [va_up]
    repeat rw [if_neg (by omega)]
def InitI (h : Nat → Option am_C) (x : Nat) : Prop := h x = some (.inr (11, [.ref (x + 1), .ref (x + 94), .ref (x + 96), .ref (x + 97), .ref (x + 101), .ref (x + 106), .ref (x + 111), .ref (x + 155), .ref (x + 157)])) ∧ (∀ U, U00 U → StW h (x + 1) U) ∧ h (x + 94) = some (.inr (2, [.ref (x + 95), .int (nI 0), .int (nI 0)])) ∧ h (x + 95) = some (.inl (2, 8, .inr (.inr (.inr (.inr (fun _ => none)))))) ∧ h (x + 96) = some (.inl (2, 2, .inr (.inr (.inr (.inr (fun _ => none)))))) ∧ TxW h (x + 97) (fun _ => 0) 0 (-1000009) (-1000009) ∧ ScrI h x
theorem c11_init {x w0 : Nat} (hx : h x = some (.inr (11, am_bl 11))) (hQ : ∀ h2 : Nat → Option am_C, InitI h2 x → (∀ a, a < x → h2 a = h a) → Q none (h2, x + 158, w0 + 3499)) : Rn sA mX11_init 0 [some (.ref x)] [] (h, x + 1, w0) Q := by
  refine R_aload_n (pc := 0) dX11_init_0 rfl ?_
  refine R_obj (pc := 1) dX11_init_1 rfl rfl ⟨Nat.le_of_ble_eq_true rfl, Nat.le_of_ble_eq_true rfl⟩ ?_
  refine R_aload_n (pc := 4) dX11_init_4 rfl ?_
  refine R_new (pc := 5) dX11_init_5 rfl rfl rfl ?_
  refine R_dup (pc := 8) dX11_init_8 rfl ?_
  refine R_callI (pc := 9) dX11_init_9 rfl (Or.inr rfl) rfl rfl ?_
  refine c8_init (s := x + 1) up_s (fun h1 s1 f1 => ?_)
  have e1 : h1 x = _ := (f1 x (by omega)).trans ((up_n (by omega) rfl).trans hx)
  have g1 : ∀ y, y < x → h1 y = h y := fun y y1 => (f1 y (by omega)).trans (up_n (by omega) rfl)
  refine R_putf (pc := 12) dX11_init_12 rfl (by repeat (first | assumption | exact up_s | refine up_n (by omega) ?_)) rfl (Or.inr ⟨by decide, rfl⟩) rfl ?_
  refine R_aload_n (pc := 15) dX11_init_15 rfl ?_
  refine R_new (pc := 16) dX11_init_16 rfl rfl rfl ?_
  refine R_dup (pc := 19) dX11_init_19 rfl ?_
  refine R_callI (pc := 20) dX11_init_20 rfl (Or.inr rfl) rfl rfl ?_
  refine c2_init (t := x + 94) up_s (fun h2 a94 a95 f2 => ?_)
  have g2 : ∀ y, ¬ y = x → y < x + 94 → h2 y = h1 y := fun y y1 y2 => (f2 y (by omega)).trans (up_n (by omega) (up_n (by omega) rfl))
  have e2 : h2 x = _ := (f2 x (by omega)).trans (up_n (by omega) up_s)
  refine R_putf (pc := 23) dX11_init_23 rfl (by repeat (first | assumption | exact up_s | refine up_n (by omega) ?_)) rfl (Or.inr ⟨by decide, rfl⟩) rfl ?_
  refine R_aload_n (pc := 26) dX11_init_26 rfl ?_
  refine R_iconst (pc := 27) (x := nI 2) dX11_init_27 rfl ?_
  refine R_anew (pc := 28) dX11_init_28 rfl rfl (by decide) ?_
  refine R_putf (pc := 31) dX11_init_31 rfl (by repeat (first | assumption | exact up_s | refine up_n (by omega) ?_)) rfl (Or.inr ⟨by decide, rfl⟩) rfl ?_
  refine R_aload_n (pc := 34) dX11_init_34 rfl ?_
  refine R_new (pc := 35) dX11_init_35 rfl rfl rfl ?_
  refine R_dup (pc := 38) dX11_init_38 rfl ?_
  refine R_callI (pc := 39) dX11_init_39 rfl (Or.inr rfl) rfl rfl ?_
  refine c9_init (t := x + 97) up_s (fun h3 s3 f3 => ?_)
  have g3 : ∀ y, ¬ y = x → y < x + 96 → h3 y = h2 y := fun y y1 y2 => (f3 y (by omega)).trans (up_n (by omega) (up_n (by omega) (up_n (by omega) (up_n (by omega) rfl))))
  have a96 : h3 (x + 96) = some (.inl (2, 2, .inr (.inr (.inr (.inr (fun _ => none)))))) := (f3 _ (by omega)).trans (up_n (by omega) (up_n (by omega) up_s))
  have e3 : h3 x = _ := (f3 x (by omega)).trans (up_n (by omega) up_s)
  refine R_putf (pc := 42) dX11_init_42 rfl (by repeat (first | assumption | exact up_s | refine up_n (by omega) ?_)) rfl (Or.inr ⟨by decide, rfl⟩) rfl ?_
  refine R_aload_n (pc := 45) dX11_init_45 rfl ?_
  refine R_new (pc := 46) dX11_init_46 rfl rfl rfl ?_
  refine R_dup (pc := 49) dX11_init_49 rfl ?_
  refine R_callI (pc := 50) dX11_init_50 rfl (Or.inr rfl) rfl rfl ?_
  refine c7_init (r := x + 101) up_s (fun h4 s4 f4 => ?_)
  have g4 : ∀ y, ¬ y = x → y < x + 101 → h4 y = h3 y := fun y y1 y2 => (f4 y (by omega)).trans (up_n (by omega) (up_n (by omega) rfl))
  have e4 : h4 x = _ := (f4 x (by omega)).trans (up_n (by omega) up_s)
  refine R_putf (pc := 53) dX11_init_53 rfl (by repeat (first | assumption | exact up_s | refine up_n (by omega) ?_)) rfl (Or.inr ⟨by decide, rfl⟩) rfl ?_
  refine R_aload_n (pc := 56) dX11_init_56 rfl ?_
  refine R_new (pc := 57) dX11_init_57 rfl rfl rfl ?_
  refine R_dup (pc := 60) dX11_init_60 rfl ?_
  refine R_callI (pc := 61) dX11_init_61 rfl (Or.inr rfl) rfl rfl ?_
  refine c4_init (t := x + 106) up_s (fun h5 s5 f5 => ?_)
  have g5 : ∀ y, ¬ y = x → y < x + 106 → h5 y = h4 y := fun y y1 y2 => (f5 y (by omega)).trans (up_n (by omega) (up_n (by omega) rfl))
  have e5 : h5 x = _ := (f5 x (by omega)).trans (up_n (by omega) up_s)
  refine R_putf (pc := 64) dX11_init_64 rfl (by repeat (first | assumption | exact up_s | refine up_n (by omega) ?_)) rfl (Or.inr ⟨by decide, rfl⟩) rfl ?_
  refine R_aload_n (pc := 67) dX11_init_67 rfl ?_
  refine R_new (pc := 68) dX11_init_68 rfl rfl rfl ?_
  refine R_dup (pc := 71) dX11_init_71 rfl ?_
  refine R_callI (pc := 72) dX11_init_72 rfl (Or.inl rfl) rfl rfl ?_
  refine c6_init (u := x + 111) up_s (fun h6 ff s6 s6f f6 => ?_)
  have g6 : ∀ y, ¬ y = x → y < x + 111 → h6 y = h5 y := fun y y1 y2 => (f6 y (by omega)).trans (up_n (by omega) (up_n (by omega) rfl))
  have e6 : h6 x = _ := (f6 x (by omega)).trans (up_n (by omega) up_s)
  refine R_putf (pc := 75) dX11_init_75 rfl (by repeat (first | assumption | exact up_s | refine up_n (by omega) ?_)) rfl (Or.inr ⟨by decide, rfl⟩) rfl ?_
  refine R_aload_n (pc := 78) dX11_init_78 rfl ?_
  refine R_new (pc := 79) dX11_init_79 rfl rfl rfl ?_
  refine R_dup (pc := 82) dX11_init_82 rfl ?_
  refine R_callI (pc := 83) dX11_init_83 rfl (Or.inl rfl) rfl rfl ?_
  refine c0_init (c := x + 155) up_s (fun h7 C s7 s7a s7b f7 => ?_)
  have g7 : ∀ y, ¬ y = x → y < x + 155 → h7 y = h6 y := fun y y1 y2 => (f7 y (by omega)).trans (up_n (by omega) (up_n (by omega) rfl))
  have e7 : h7 x = _ := (f7 x (by omega)).trans (up_n (by omega) up_s)
  refine R_putf (pc := 86) dX11_init_86 rfl (by repeat (first | assumption | exact up_s | refine up_n (by omega) ?_)) rfl (Or.inr ⟨by decide, rfl⟩) rfl ?_
  refine R_aload_n (pc := 89) dX11_init_89 rfl ?_
  refine R_new (pc := 90) dX11_init_90 rfl rfl rfl ?_
  refine R_dup (pc := 93) dX11_init_93 rfl ?_
  refine R_callI (pc := 94) dX11_init_94 rfl (Or.inr rfl) rfl rfl ?_
  refine c10_init up_s (fun s8 => ?_)
  refine R_putf (pc := 97) dX11_init_97 rfl (by repeat (first | assumption | exact up_s | refine up_n (by omega) ?_)) rfl (Or.inr ⟨by decide, rfl⟩) rfl ?_
  refine R_vret (pc := 100) dX11_init_100 rfl ?_
  refine Q_z (a' := x + 158) (b' := w0 + 3499) rfl (by show w0 + 3499 = w0 + 5 + 2826 + 3 + 8 + 2 + 7 + 60 + 5 + 132 + 4 + 32 + 4 + 376 + 3 + 24 + 8; omega) ?_
  have gz : ∀ (a b c : Option am_C) (y : Nat), ¬ y = x → y < x + 157 → va_up (va_up (va_up h7 x a) (x + 157) b) x c y = h7 y := fun a b c y y1 y2 => (up_n (by omega) (up_n (by omega) (up_n (by omega) rfl)))
  refine hQ _ ⟨up_s, fun U hU => (s1 U hU).fr (fun y y1 y2 => ?_), ?_, ?_, ?_, s3.fr (fun y y1 y2 => ?_), ⟨_, _, _, _, _, s4.fr (fun y y1 y2 => ?_)⟩, ⟨_, s5.fr (fun y y1 y2 => ?_)⟩, ⟨_, _, _, _, _, s6.fr (fun y y1 y2 => ?_), s6f⟩, ⟨_, s7.fr (fun y y1 y2 => ?_)⟩, ⟨_, s8.fr (up_n (by omega) rfl)⟩⟩ (fun a ha => ?_)
  · refine (gz _ _ _ y (by omega) (by omega)).trans ?_
    rw [g7 y (by omega) (by omega), g6 y (by omega) (by omega), g5 y (by omega) (by omega), g4 y (by omega) (by omega), g3 y (by omega) (by omega), g2 y (by omega) (by omega)]
  · refine (gz _ _ _ _ (by omega) (by omega)).trans ?_
    rw [g7 _ (by omega) (by omega), g6 _ (by omega) (by omega), g5 _ (by omega) (by omega), g4 _ (by omega) (by omega), g3 _ (by omega) (by omega)]; exact a94
  · refine (gz _ _ _ _ (by omega) (by omega)).trans ?_
    rw [g7 _ (by omega) (by omega), g6 _ (by omega) (by omega), g5 _ (by omega) (by omega), g4 _ (by omega) (by omega), g3 _ (by omega) (by omega)]; exact a95
  · refine (gz _ _ _ _ (by omega) (by omega)).trans ?_
    rw [g7 _ (by omega) (by omega), g6 _ (by omega) (by omega), g5 _ (by omega) (by omega), g4 _ (by omega) (by omega)]; exact a96
  · refine (gz _ _ _ y (by omega) (by omega)).trans ?_
    rw [g7 y (by omega) (by omega), g6 y (by omega) (by omega), g5 y (by omega) (by omega), g4 y (by omega) (by omega)]
  · refine (gz _ _ _ y (by omega) (by omega)).trans ?_
    rw [g7 y (by omega) (by omega), g6 y (by omega) (by omega), g5 y (by omega) (by omega)]
  · refine (gz _ _ _ y (by omega) (by omega)).trans ?_
    rw [g7 y (by omega) (by omega), g6 y (by omega) (by omega)]
  · refine (gz _ _ _ y (by omega) (by omega)).trans ?_
    rw [g7 y (by omega) (by omega)]
  · exact gz _ _ _ y (by omega) (by omega)
  · refine (gz _ _ _ a (by omega) (by omega)).trans ?_
    rw [g7 a (by omega) (by omega), g6 a (by omega) (by omega), g5 a (by omega) (by omega), g4 a (by omega) (by omega), g3 a (by omega) (by omega), g2 a (by omega) (by omega), g1 a ha]
end CF4
