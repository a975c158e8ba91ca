section MOD11
variable {sA : Nat} {h : Nat → Option am_C} {z : Nat × Nat} {Q : Option Value → am_H → Prop} {M : Nat} {A : Nat → Nat → Int32} {S : Nat → Int32}
/-- the digit that a field's number shows in its j-th column -/
def dgA (Wd vl : Nat → Nat) (f j : Nat) : Nat := vl f / 10 ^ (Wd f - 1 - j) % 10
def psK (P Wd vl : Nat → Nat) (f : Nat) (g : Nat → Int32) : Nat → Int32 := fun j => if P f ≤ j ∧ j < P f + Wd f then nI (dgA Wd vl f (j - P f)) else g j
/-- the numbers of the fields f .. punched in their order -/
def psO (P Wd dg vl : Nat → Nat) : Nat → Nat → (Nat → Int32) → (Nat → Int32)
  | 0, _, g => g
  | n + 1, f, g => psO P Wd dg vl n (f + 1) (if dg f = 0 then g else psK P Wd vl f g)
def psN : Nat → Int32 := fun _ => (-1000009)
/-- the columns of a punched card -/
def psA (P Wd : Nat → Nat) (s : TS) : Nat → Int32 := upd (psO P Wd s.2.1 s.2.2.1 5 0 psN) (P 5) (dueR P Wd (psO P Wd s.2.1 s.2.2.1 5 0 psN))
theorem psK_part {P Wd vl : Nat → Nat} {f : Nat} {g g' : Nat → Int32} (h : ∀ j, j < 24 → g j = g' j) : ∀ j, j < 24 → psK P Wd vl f g j = psK P Wd vl f g' j := by
  intro j hj
  unfold psK
  split
  · rfl
  · exact h j hj
theorem psO_congr {P Wd dg vl : Nat → Nat} : ∀ (n f : Nat) (g g' : Nat → Int32) (_ : ∀ j, j < 24 → g j = g' j), ∀ j, j < 24 → psO P Wd dg vl n f g j = psO P Wd dg vl n f g' j
  | 0, _, _, _, h => h
  | n + 1, f, g, g', h => by
    unfold psO
    refine psO_congr n (f + 1) _ _ ?_
    by_cases e : dg f = 0
    · rw [if_pos e, if_pos e]; exact h
    · rw [if_neg e, if_neg e]; exact psK_part h
theorem l12_psf {P Wd : Nat → Nat} {f : Nat} (hf : f < 5) : ∀ (k v : Nat) (A : Nat → Nat → Int32) (_ : v < 10000) (_ : P f + k ≤ 24) (_ : LayW (A 1) P Wd) (_ : ¬ A 6 f = (-1000009)) (_ : (∀ A2 : Nat → Nat → Int32, (∀ q, q ≠ 5 → A2 q = A q) → (∀ j, j < 24 → A2 5 j = if P f ≤ j ∧ j < P f + k then nI (v / 10 ^ (k - 1 - (j - P f)) % 10) else A 5 j) → ∀ o2 o3 : Option Value, Rn sA mX12_punchSeen 86 [some (.ref M), some (.int (nI f)), o2, o3] [] (putM h M A2 S, z) Q)), Rn sA mX12_punchSeen 44 [some (.ref M), some (.int (nI f)), some (.int (nI v)), some (.int (nI k - nI 1))] [] (putM h M A S, z) Q
  | 0, v, A, hv, hk, hL, hT, hX => by
    refine R_iload_n (pc := 44) dX12_punchSeen_44 rfl ?_
    refine R_if_lt (pc := 45) (t := 86) dX12_punchSeen_45 (by decide) (fun _ => ?_) (fun hz9 => absurd (by decide) hz9)
    exact hX A (fun _ _ => rfl) (fun j hj => by rw [if_neg (by omega)]) _ _
  | k + 1, v, A, hv, hk, hL, hT, hX => by
    obtain ⟨l1, l2, l3⟩ := hL f (by omega)
    have e1 : nI (k + 1) - nI 1 = nI k := by rw [pk_sub (by omega)]; rfl
    rw [e1]
    refine R_iload_n (pc := 44) dX12_punchSeen_44 rfl ?_
    refine R_if_lt (pc := 45) (t := 86) dX12_punchSeen_45 (by decide) (fun hz9 => absurd hz9 (fun q => by have := nI_pos (n := k) (by omega); exact this q)) (fun _ => ?_)
    refine R_aload_n (pc := 48) dX12_punchSeen_48 rfl ?_
    refine M_g (pc := 49) dX12_punchSeen_49 rfl rfl ?_
    refine R_iload_n (pc := 52) dX12_punchSeen_52 rfl ?_
    refine M_ald (pc := 53) dX12_punchSeen_53 (by first | with_reducible rfl | (simp only [nI_add, pk_mul]; exact rfl)) (by simp only [mol1, mol2, mol3, mol4, mol5, mol6, mol7, mol8, mol9, mol10, mol11, mol12, mol13]; omega) ?_
    refine R_ldc (pc := 54) (x := (-1000009)) dX12_punchSeen_54 rfl ?_
    refine R_icmp_eq (pc := 56) (t := 86) dX12_punchSeen_56 (by decide) (fun hz9 => absurd hz9 hT) (fun _ => ?_)
    refine R_aload_n (pc := 59) dX12_punchSeen_59 rfl ?_
    refine M_g (pc := 60) dX12_punchSeen_60 rfl rfl ?_
    refine R_aload_n (pc := 63) dX12_punchSeen_63 rfl ?_
    refine R_iload_n (pc := 64) dX12_punchSeen_64 rfl ?_
    refine R_callV (pc := 65) dX12_punchSeen_65 rfl putM_o rfl rfl ?_
    refine s12_first (by omega) ?_
    refine R_iload_n (pc := 68) dX12_punchSeen_68 rfl ?_
    refine R_iadd (pc := 69) dX12_punchSeen_69 ?_
    refine R_iload_n (pc := 70) dX12_punchSeen_70 rfl ?_
    refine R_bipush (pc := 71) (x := nI 10) dX12_punchSeen_71 (by decide) ?_
    refine R_irem (pc := 73) dX12_punchSeen_73 (by decide) ?_
    refine M_ast (pc := 74) dX12_punchSeen_74 (by rw [l1]; exact nI_add _ _) (by simp only [mol5]; omega) ?_
    refine R_iload_n (pc := 75) dX12_punchSeen_75 rfl ?_
    refine R_bipush (pc := 76) (x := nI 10) dX12_punchSeen_76 (by decide) ?_
    refine R_idiv (pc := 78) dX12_punchSeen_78 (by decide) ?_
    refine R_istore_n (pc := 79) dX12_punchSeen_79 (Nat.le_of_ble_eq_true rfl) rfl ?_
    refine R_iinc (pc := 80) dX12_punchSeen_80 rfl (show nI k + Int32.ofInt (-1) = nI k - nI 1 by rw [Int32.sub_eq_add_neg]; rfl) rfl ?_
    refine R_goto (pc := 83) (t := 44) dX12_punchSeen_83 (by decide) ?_
    rw [show nI v - nI v / nI 10 * nI 10 = nI (v % 10) from pk_rem (by omega) (by omega) (by omega), show nI v / nI 10 = nI (v / 10) from pk_div (by omega) (by omega) (by omega)]
    refine l12_psf hf k (v / 10) _ (by omega) (by omega) hL hT (fun A2 a b o2 o3 => hX A2 (fun q hq => (a q hq).trans (by unfold va_up; rw [if_neg hq])) (fun j hj => ?_) o2 o3)
    rw [b j hj]
    show (if P f ≤ j ∧ j < P f + k then _ else upd (A 5) (P f + k) (nI (v % 10)) j) = _
    by_cases c1 : P f ≤ j ∧ j < P f + k
    · rw [if_pos c1, if_pos (by omega)]
      congr 1
      rw [Nat.div_div_eq_div_mul, show 10 * 10 ^ (k - 1 - (j - P f)) = 10 ^ (k + 1 - 1 - (j - P f)) by rw [Nat.mul_comm, ← Nat.pow_succ]; congr 1; omega]
    · rw [if_neg c1]
      by_cases c2 : j = P f + k
      · subst c2
        rw [upd_s, if_pos (by omega), show k + 1 - 1 - (P f + k - P f) = 0 by omega, Nat.pow_zero, Nat.div_one]
      · rw [upd_n c2, if_neg (by omega)]
theorem l12_pso {P Wd dg vl : Nat → Nat} {T : Nat → Int32} (hT : ∀ f, f < 5 → T f = if dg f = 0 then (-1000009) else nI (vl f)) (hv : ∀ f, f < 5 → vl f < 10000) : ∀ (n f : Nat) (A : Nat → Nat → Int32) (_ : f + n = 5) (_ : LayW (A 1) P Wd) (_ : A 6 = T) (o2 o3 : Option Value) (_ : (∀ A2 : Nat → Nat → Int32, (∀ q, q ≠ 5 → A2 q = A q) → (∀ j, j < 24 → A2 5 j = psO P Wd dg vl n f (A 5) j) → ∀ o2 o3 : Option Value, Rn sA mX12_punchSeen 92 [some (.ref M), some (.int (nI 5)), o2, o3] [] (putM h M A2 S, z) Q)), Rn sA mX12_punchSeen 24 [some (.ref M), some (.int (nI f)), o2, o3] [] (putM h M A S, z) Q
  | 0, f, A, hk, hL, hA6, o2, o3, hX => by
    obtain rfl : f = 5 := by omega
    refine R_iload_n (pc := 24) dX12_punchSeen_24 rfl ?_
    refine R_iconst (pc := 25) (x := nI 5) dX12_punchSeen_25 rfl ?_
    refine R_icmp_ge (pc := 26) (t := 92) dX12_punchSeen_26 (by decide) (fun _ => ?_) (fun hz9 => absurd (nI_le (by omega) (by omega)) hz9)
    exact hX A (fun _ _ => rfl) (fun _ _ => rfl) _ _
  | n + 1, f, A, hk, hL, hA6, o2, o3, hX => by
    obtain ⟨l1, l2, l3⟩ := hL f (by omega)
    have t1 := hT f (by omega)
    have t2 := hv f (by omega)
    by_cases hd : dg f = 0
    · rw [if_pos hd] at t1
      have e6 : A 6 f = (-1000009) := by rw [hA6]; exact t1
      refine R_iload_n (pc := 24) dX12_punchSeen_24 rfl ?_
      refine R_iconst (pc := 25) (x := nI 5) dX12_punchSeen_25 rfl ?_
      refine R_icmp_ge (pc := 26) (t := 92) dX12_punchSeen_26 (by decide) (fun hz9 => absurd hz9 (nI_ge (by omega) (by omega))) (fun _ => ?_)
      refine R_aload_n (pc := 29) dX12_punchSeen_29 rfl ?_
      refine M_g (pc := 30) dX12_punchSeen_30 rfl rfl ?_
      refine R_iload_n (pc := 33) dX12_punchSeen_33 rfl ?_
      refine M_ald (pc := 34) dX12_punchSeen_34 rfl (by simp only [mol6]; omega) ?_
      refine R_istore_n (pc := 35) dX12_punchSeen_35 (Nat.le_of_ble_eq_true rfl) rfl ?_
      refine R_aload_n (pc := 36) dX12_punchSeen_36 rfl ?_
      refine R_iload_n (pc := 37) dX12_punchSeen_37 rfl ?_
      refine R_callV (pc := 38) dX12_punchSeen_38 rfl putM_o rfl rfl ?_
      refine s12_width (by omega) ?_
      refine R_iconst (pc := 41) (x := nI 1) dX12_punchSeen_41 rfl ?_
      refine R_isub (pc := 42) dX12_punchSeen_42 ?_
      refine R_istore_n (pc := 43) dX12_punchSeen_43 (Nat.le_of_ble_eq_true rfl) rfl ?_
      refine R_iload_n (pc := 44) dX12_punchSeen_44 rfl ?_
      have hend : ∀ o2 o3 : Option Value, Rn sA mX12_punchSeen 86 [some (.ref M), some (.int (nI f)), o2, o3] [] (putM h M A S, z) Q := by
        intro o2 o3
        refine R_iinc (pc := 86) dX12_punchSeen_86 rfl (by first | exact nI_inc _ | rfl) rfl ?_
        refine R_goto (pc := 89) (t := 24) dX12_punchSeen_89 (by decide) ?_
        refine l12_pso hT hv n (f + 1) _ (by omega) (by exact hL) (by exact hA6) _ _ (fun A2 a b => hX A2 (fun q hq => a q hq) (fun j hj => ?_))
        rw [b j hj]
        show _ = psO P Wd dg vl n (f + 1) (if dg f = 0 then A 5 else psK P Wd vl f (A 5)) j
        rw [if_pos hd]
      refine R_if_lt (pc := 45) (t := 86) dX12_punchSeen_45 (by decide) (fun _ => hend _ _) (fun _ => ?_)
      refine R_aload_n (pc := 48) dX12_punchSeen_48 rfl ?_
      refine M_g (pc := 49) dX12_punchSeen_49 rfl rfl ?_
      refine R_iload_n (pc := 52) dX12_punchSeen_52 rfl ?_
      refine M_ald (pc := 53) dX12_punchSeen_53 (by first | with_reducible rfl | (simp only [nI_add, pk_mul]; exact rfl)) (by simp only [mol1, mol2, mol3, mol4, mol5, mol6, mol7, mol8, mol9, mol10, mol11, mol12, mol13]; omega) ?_
      refine R_ldc (pc := 54) (x := (-1000009)) dX12_punchSeen_54 rfl ?_
      refine R_icmp_eq (pc := 56) (t := 86) dX12_punchSeen_56 (by decide) (fun _ => ?_) (fun hz9 => absurd e6 hz9)
      exact hend _ _
    · rw [if_neg hd] at t1
      have e6 : A 6 f = nI (vl f) := by rw [hA6]; exact t1
      refine R_iload_n (pc := 24) dX12_punchSeen_24 rfl ?_
      refine R_iconst (pc := 25) (x := nI 5) dX12_punchSeen_25 rfl ?_
      refine R_icmp_ge (pc := 26) (t := 92) dX12_punchSeen_26 (by decide) (fun hz9 => absurd hz9 (nI_ge (by omega) (by omega))) (fun _ => ?_)
      refine R_aload_n (pc := 29) dX12_punchSeen_29 rfl ?_
      refine M_g (pc := 30) dX12_punchSeen_30 rfl rfl ?_
      refine R_iload_n (pc := 33) dX12_punchSeen_33 rfl ?_
      refine M_ald (pc := 34) dX12_punchSeen_34 rfl (by simp only [mol6]; omega) ?_
      refine R_istore_n (pc := 35) dX12_punchSeen_35 (Nat.le_of_ble_eq_true rfl) rfl ?_
      rw [e6]
      refine R_aload_n (pc := 36) dX12_punchSeen_36 rfl ?_
      refine R_iload_n (pc := 37) dX12_punchSeen_37 rfl ?_
      refine R_callV (pc := 38) dX12_punchSeen_38 rfl putM_o rfl rfl ?_
      refine s12_width (by omega) ?_
      refine R_iconst (pc := 41) (x := nI 1) dX12_punchSeen_41 rfl ?_
      refine R_isub (pc := 42) dX12_punchSeen_42 ?_
      refine R_istore_n (pc := 43) dX12_punchSeen_43 (Nat.le_of_ble_eq_true rfl) rfl ?_
      rw [l2]
      refine l12_psf (by omega) (Wd f) (vl f) A t2 l3 hL (by rw [e6]; exact nI_noN (by omega)) (fun A3 a3 b3 o2 o3 => ?_)
      refine R_iinc (pc := 86) dX12_punchSeen_86 rfl (by first | exact nI_inc _ | rfl) rfl ?_
      refine R_goto (pc := 89) (t := 24) dX12_punchSeen_89 (by decide) ?_
      refine l12_pso hT hv n (f + 1) _ (by omega) (by rw [a3 1 (by omega)]; exact hL) (by rw [a3 6 (by omega)]; exact hA6) _ _ (fun A2 a b => hX A2 (fun q hq => (a q hq).trans (a3 q hq)) (fun j hj => ?_))
      rw [b j hj]
      show _ = psO P Wd dg vl n (f + 1) (if dg f = 0 then A 5 else psK P Wd vl f (A 5)) j
      rw [if_neg hd]
      exact psO_congr n (f + 1) _ _ (fun i hi => by rw [b3 i hi]; rfl) j hj
theorem l12_ps0   : ∀ (n k : Nat) (A : Nat → Nat → Int32) (_ : k + n = 24) (_ : ∀ j, j < k → A 5 j = (-1000009)) (_ : ∀ A2 : Nat → Nat → Int32, (∀ q, q ≠ 5 → A2 q = A q) → (∀ j, j < 24 → A2 5 j = (-1000009)) → Rn sA mX12_punchSeen 22 [some (.ref M), some (.int (nI 24)), none, none] [] (putM h M A2 S, z) Q), Rn sA mX12_punchSeen 2 [some (.ref M), some (.int (nI k)), none, none] [] (putM h M A S, z) Q
  | 0, k, A, hk, hj, hX => by
    obtain rfl : k = 24 := by omega
    refine R_iload_n (pc := 2) dX12_punchSeen_2 rfl ?_
    refine R_bipush (pc := 3) (x := nI 24) dX12_punchSeen_3 (by decide) ?_
    refine R_icmp_ge (pc := 5) (t := 22) dX12_punchSeen_5 (by decide) (fun _ => ?_) (fun hz9 => absurd (nI_le (by omega) (by omega)) hz9)
    exact hX A (fun _ _ => rfl) hj
  | n + 1, k, A, hk, hj, hX => by
    refine R_iload_n (pc := 2) dX12_punchSeen_2 rfl ?_
    refine R_bipush (pc := 3) (x := nI 24) dX12_punchSeen_3 (by decide) ?_
    refine R_icmp_ge (pc := 5) (t := 22) dX12_punchSeen_5 (by decide) (fun hz9 => absurd hz9 (nI_ge (by omega) (by omega))) (fun _ => ?_)
    refine R_aload_n (pc := 8) dX12_punchSeen_8 rfl ?_
    refine M_g (pc := 9) dX12_punchSeen_9 rfl rfl ?_
    refine R_iload_n (pc := 12) dX12_punchSeen_12 rfl ?_
    refine R_ldc (pc := 13) (x := (-1000009)) dX12_punchSeen_13 rfl ?_
    refine M_ast (pc := 15) dX12_punchSeen_15 rfl (by simp only [mol5]; omega) ?_
    refine R_iinc (pc := 16) dX12_punchSeen_16 rfl (by first | exact nI_inc _ | rfl) rfl ?_
    refine R_goto (pc := 19) (t := 2) dX12_punchSeen_19 (by decide) ?_
    exact l12_ps0 n (k + 1) _ (by omega) (fun j hj2 => by show upd (A 5) k (-1000009) j = _; by_cases e : j = k; exact (by subst e; exact upd_s); exact (by rw [upd_n e]; exact hj j (by omega))) (fun A2 a b => hX A2 (fun q hq => (a q hq).trans (by unfold va_up; rw [if_neg hq])) b)
theorem s12_punchSeen {P Wd : Nat → Nat} {s : TS} (hL : LayW (A 1) P Wd) (hV : LayV Wd) (hT : ∀ f, f < 5 → A 6 f = if s.2.1 f = 0 then (-1000009) else nI (s.2.2.1 f)) (hv : ∀ f, f < 5 → s.2.2.1 f < 10000) (hQ : ∀ A2 : Nat → Nat → Int32, (∀ q, q ≠ 5 → A2 q = A q) → (∀ j, j < 24 → A2 5 j = psA P Wd s j) → Q none (putM h M A2 S, z)) : Rn sA mX12_punchSeen 0 [some (.ref M), none, none, none] [] (putM h M A S, z) Q := by
  refine R_iconst (pc := 0) (x := nI 0) dX12_punchSeen_0 rfl ?_
  refine R_istore_n (pc := 1) dX12_punchSeen_1 (Nat.le_of_ble_eq_true rfl) rfl ?_
  refine l12_ps0 24 0 A (by omega) (fun j hj => absurd hj (Nat.not_lt_zero _)) (fun A3 a3 b3 => ?_)
  refine R_iconst (pc := 22) (x := nI 0) dX12_punchSeen_22 rfl ?_
  refine R_istore_n (pc := 23) dX12_punchSeen_23 (Nat.le_of_ble_eq_true rfl) rfl ?_
  refine l12_pso (dg := s.2.1) (vl := s.2.2.1) (T := A 6) hT hv 5 0 A3 (by omega) (by rw [a3 1 (by omega)]; exact hL) (a3 6 (by omega)) _ _ (fun A4 a4 b4 o2 o3 => ?_)
  have hL4 : LayW (A4 1) P Wd := by rw [a4 1 (by omega), a3 1 (by omega)]; exact hL
  obtain ⟨l1, l2, l3⟩ := hL4 5 (by omega)
  have v5 := (hV 5 (by omega)).1
  have b5 : ∀ j, j < 24 → A4 5 j = psO P Wd s.2.1 s.2.2.1 5 0 psN j := fun j hj => (b4 j hj).trans (psO_congr 5 0 _ _ (fun i hi => b3 i hi) j hj)
  refine R_aload_n (pc := 92) dX12_punchSeen_92 rfl ?_
  refine M_g (pc := 93) dX12_punchSeen_93 rfl rfl ?_
  refine R_aload_n (pc := 96) dX12_punchSeen_96 rfl ?_
  refine R_iconst (pc := 97) (x := nI 5) dX12_punchSeen_97 rfl ?_
  refine R_callV (pc := 98) dX12_punchSeen_98 rfl putM_o rfl rfl ?_
  refine s12_first (by omega) ?_
  refine R_aload_n (pc := 101) dX12_punchSeen_101 rfl ?_
  refine R_callV (pc := 102) dX12_punchSeen_102 rfl putM_o rfl rfl ?_
  refine s12_due hL4 ?_
  refine M_ast (pc := 105) dX12_punchSeen_105 l1 (by simp only [mol5]; omega) ?_
  refine R_vret (pc := 106) dX12_punchSeen_106 rfl ?_
  refine hQ _ (fun q hq => ?_) (fun j hj => ?_)
  · unfold va_up
    rw [if_neg hq, a4 q hq, a3 q hq]
  · show upd (A4 5) (P 5) (dueR P Wd (A4 5)) j = psA P Wd s j
    unfold psA
    rw [dueR_congr hL4 b5]
    by_cases e : j = P 5
    · subst e; rw [upd_s, upd_s]
    · rw [upd_n e, upd_n e, b5 j hj]
theorem scS_kd {Wd : Nat → Nat} {x : Int32} {k : Nat} {s : TS} : (scS Wd x k s).1 < 5 := by
  unfold scS
  (repeat' split) <;> (simp only []; try omega)
theorem scL_kd {Wd : Nat → Nat} {T : Nat → Int32} : ∀ (n k : Nat) (s : TS), (scL Wd T n k s).1 < 5
  | 0, _, s => by show scE s < 5; unfold scE; split <;> omega
  | n + 1, k, s => by
    unfold scL
    split
    · exact scL_kd n (k + 1) _
    · exact scS_kd
/-- the deck with room made behind a place -/
def shO (c i : Nat) : Nat := if c < i then i - 1 else i
def PnS (U : Nat → Int32) (n m : Nat) (V : Nat → Int32) : Prop := (∀ i, i ≤ n → ∀ j, j < 26 → V (20 + 26 * i + j) = U (20 + 26 * (shO m i) + j)) ∧ ∀ j, (j < 20 ∨ 20 + 26 * (n + 1) ≤ j) → V j = U j
theorem PnS.step {U V : Nat → Int32} {n m : Nat} (h : PnS U n (m + 1) V) (hm : m < n) : PnS U n m (va_cpy V V (20 + 26 * m) (20 + 26 * (m + 1)) 26) := by
  refine ⟨fun i hi j hj => ?_, fun j hj => ?_⟩
  · by_cases e : i = m + 1
    · subst e
      rw [cpy_in (by omega) (by omega), show 20 + 26 * m + (20 + 26 * (m + 1) + j - (20 + 26 * (m + 1))) = 20 + 26 * m + j by omega, h.1 m (by omega) j hj]
      congr 1
      unfold shO
      rw [if_neg (by omega), if_pos (by omega)]
      omega
    · rw [cpy_out (by omega), h.1 i hi j hj]
      unfold shO
      by_cases e2 : m + 1 < i
      · rw [if_pos e2, if_pos (by omega)]
      · rw [if_neg e2, if_neg (by omega)]
  · rw [cpy_out (by omega)]
    exact h.2 j hj
/-- the state behind a punch -/
def PnW (U : Nat → Int32) (n c : Nat) (g : Nat → Int32) (V : Nat → Int32) : Prop := (∀ i, i ≤ n → ¬ i = c → ∀ j, j < 26 → V (20 + 26 * i + j) = U (20 + 26 * (shO c i) + j)) ∧ (∀ j, j < 24 → V (20 + 26 * c + j) = g j) ∧ V (20 + 26 * c + 24) = nI 0 ∧ V (20 + 26 * c + 25) = nI 0 ∧ V 19 = nI (n + 1) ∧ ∀ j, (j < 19 ∨ 20 + 26 * (n + 1) ≤ j) → V j = U j
theorem l12_pun {U : Nat → Int32} {n c : Nat} (hn : n < 40) : ∀ (r m : Nat) (V : Nat → Int32) (_ : m = c + r) (_ : m ≤ n) (_ : PnS U n m V) (_ : (∀ (V : Nat → Int32) (k2 : Option Value), PnS U n c V → Rn sA mX12_punch 96 [some (.ref M), some (.int (nI c)), k2, none] [] (putM h M (va_up A 1 V) S, z) Q)), Rn sA mX12_punch 77 [some (.ref M), some (.int (nI c)), some (.int (nI m)), none] [] (putM h M (va_up A 1 V) S, z) Q
  | 0, m, V, hk, hcm, hO, hX => by
    obtain rfl : m = c := by omega
    refine R_iload_n (pc := 77) dX12_punch_77 rfl ?_
    refine R_iload_n (pc := 78) dX12_punch_78 rfl ?_
    refine R_icmp_le (pc := 79) (t := 96) dX12_punch_79 (by decide) (fun _ => ?_) (fun hz9 => absurd (nI_le (by omega) (by omega)) hz9)
    exact hX V _ hO
  | r + 1, m, V, hk, hcm, hO, hX => by
    obtain ⟨m, rfl⟩ : ∃ x, m = x + 1 := ⟨m - 1, by omega⟩
    refine R_iload_n (pc := 77) dX12_punch_77 rfl ?_
    refine R_iload_n (pc := 78) dX12_punch_78 rfl ?_
    refine R_icmp_le (pc := 79) (t := 96) dX12_punch_79 (by decide) (fun hz9 => absurd hz9 (nI_ge (by omega) (by omega))) (fun _ => ?_)
    refine R_aload_n (pc := 82) dX12_punch_82 rfl ?_
    refine R_iload_n (pc := 83) dX12_punch_83 rfl ?_
    refine R_iconst (pc := 84) (x := nI 1) dX12_punch_84 rfl ?_
    refine R_isub (pc := 85) dX12_punch_85 ?_
    refine R_iload_n (pc := 86) dX12_punch_86 rfl ?_
    refine R_callV (pc := 87) dX12_punch_87 rfl putM_o rfl rfl ?_
    rw [pk_sub (show 1 ≤ m + 1 by omega), Nat.add_sub_cancel]
    refine s12_cpc (by omega) (by omega) (by omega) ?_
    refine R_iinc (pc := 90) dX12_punch_90 rfl (show nI (m + 1) + Int32.ofInt (-1) = nI m from pk_m1 m) rfl ?_
    refine R_goto (pc := 93) (t := 77) dX12_punch_93 (by decide) ?_
    rw [va_up_up]
    exact l12_pun hn r m _ (by omega) (by omega) (hO.step (by omega)) hX
theorem l12_pcp {c : Nat} {g : Nat → Int32} (hc : c < 40) (hg : ∀ j, j < 24 → A 5 j = g j) : ∀ (n k : Nat) (V : Nat → Int32) (_ : k + n = 24) (_ : ∀ V2 : Nat → Int32, (∀ j, (j < 20 + 26 * c + k ∨ 20 + 26 * c + 24 ≤ j) → V2 j = V j) → (∀ j, k ≤ j → j < 24 → V2 (20 + 26 * c + j) = g j) → Rn sA mX12_punch 147 [some (.ref M), some (.int (nI c)), some (.int (nI (20 + 26 * c))), some (.int (nI 24))] [] (putM h M (va_up A 1 V2) S, z) Q), Rn sA mX12_punch 121 [some (.ref M), some (.int (nI c)), some (.int (nI (20 + 26 * c))), some (.int (nI k))] [] (putM h M (va_up A 1 V) S, z) Q
  | 0, k, V, hk, hX => by
    obtain rfl : k = 24 := by omega
    refine R_iload_n (pc := 121) dX12_punch_121 rfl ?_
    refine R_bipush (pc := 122) (x := nI 24) dX12_punch_122 (by decide) ?_
    refine R_icmp_ge (pc := 124) (t := 147) dX12_punch_124 (by decide) (fun _ => ?_) (fun hz9 => absurd (nI_le (by omega) (by omega)) hz9)
    exact hX V (fun _ _ => rfl) (fun j a b => absurd b (by omega))
  | n + 1, k, V, hk, hX => by
    refine R_iload_n (pc := 121) dX12_punch_121 rfl ?_
    refine R_bipush (pc := 122) (x := nI 24) dX12_punch_122 (by decide) ?_
    refine R_icmp_ge (pc := 124) (t := 147) dX12_punch_124 (by decide) (fun hz9 => absurd hz9 (nI_ge (by omega) (by omega))) (fun _ => ?_)
    refine R_aload_n (pc := 127) dX12_punch_127 rfl ?_
    refine M_g (pc := 128) dX12_punch_128 rfl rfl ?_
    refine R_iload_n (pc := 131) dX12_punch_131 rfl ?_
    refine R_iload_n (pc := 132) dX12_punch_132 rfl ?_
    refine R_iadd (pc := 133) dX12_punch_133 ?_
    refine R_aload_n (pc := 134) dX12_punch_134 rfl ?_
    refine M_g (pc := 135) dX12_punch_135 rfl rfl ?_
    refine R_iload_n (pc := 138) dX12_punch_138 rfl ?_
    refine M_ald (pc := 139) dX12_punch_139 rfl (by simp only [mol5]; omega) ?_
    refine M_ast (pc := 140) dX12_punch_140 (nI_add _ _) (by simp only [mol1]; omega) ?_
    refine R_iinc (pc := 141) dX12_punch_141 rfl (by first | exact nI_inc _ | rfl) rfl ?_
    refine R_goto (pc := 144) (t := 121) dX12_punch_144 (by decide) ?_
    rw [show va_up A 1 V 5 k = g k from hg k (by omega), va_up_up]
    refine l12_pcp hc hg n (k + 1) (upd V (20 + 26 * c + k) (g k)) (by omega) (fun V2 a b => hX V2 (fun j hj => (a j (by omega)).trans (upd_n (by omega))) (fun j j1 j2 => ?_))
    by_cases e : j = k
    · subst e
      exact (a _ (by omega)).trans upd_s
    · exact b j (by omega) j2
theorem s12_punch {a : Int32} {n pm l : Nat} {P Wd : Nat → Nat} (hL : LayW (A 1) P Wd) (hV : LayV Wd) (hn : n ≤ 40) (hw : A 1 19 = nI n) (hpm : pm ≤ 8) (hS : S 2 = nI pm)(hl : S 6 = nI l) (hl5 : l ≤ 50) (hB : (∀ c, c ≤ n → ¬ a = nI c) → Q (some (.int (-1000001))) (putM h M A S, z)) (hE : ∀ c, c ≤ n → a = nI c → ¬ (scL Wd (A 4) l 0 sc0).1 = 0 → ∀ A2 : Nat → Nat → Int32, (∀ q, q ≠ 6 → q ≠ 7 → A2 q = A q) → ∀ S2 : Nat → Int32, (∀ q, q < 7 → S2 q = S q) → S2 7 = nI (scL Wd (A 4) l 0 sc0).1 → S2 8 = nI (scL Wd (A 4) l 0 sc0).2.1 → Q (some (.int (-1000002))) (putM h M A2 S2, z)) (hF : ∀ c, c ≤ n → a = nI c → (scL Wd (A 4) l 0 sc0).1 = 0 → n = 40 → ∀ A2 : Nat → Nat → Int32, (∀ q, q ≠ 6 → q ≠ 7 → A2 q = A q) → ∀ S2 : Nat → Int32, (∀ q, q < 9 → S2 q = S q) → Q (some (.int (-1000003))) (putM h M A2 S2, z)) (hG : ∀ c, c ≤ n → a = nI c → (scL Wd (A 4) l 0 sc0).1 = 0 → n < 40 → ∀ A2 : Nat → Nat → Int32, PnW (A 1) n c (psA P Wd (scL Wd (A 4) l 0 sc0).2.2) (A2 1) → A2 2 = remP (A 1) (A 2) pm → A2 3 = A 3 → A2 4 = A 4 → ∀ S2 : Nat → Int32, S2 2 = nI (remN pm) → (∀ q, q < 9 → q ≠ 2 → S2 q = S q) → Q (some (.int (nI (n + 1)))) (putM h M A2 S2, z)) : Rn sA mX12_punch 0 [some (.ref M), some (.int a), none, none] [] (putM h M A S, z) Q := by
  have hok := scL_ok (T := A 4) l 0 sc0 (sc0_ok (Wd := Wd))
  refine R_iload_n (pc := 0) dX12_punch_0 rfl ?_
  refine R_iconst (pc := 1) (x := nI 0) dX12_punch_1 rfl ?_
  refine R_aload_n (pc := 2) dX12_punch_2 rfl ?_
  refine M_g (pc := 3) dX12_punch_3 rfl rfl ?_
  refine R_bipush (pc := 6) (x := nI 19) dX12_punch_6 (by decide) ?_
  refine M_ald (pc := 8) dX12_punch_8 (by first | with_reducible rfl | (simp only [nI_add, pk_mul]; exact rfl)) (by simp only [mol1, mol2, mol3, mol4, mol5, mol6, mol7, mol8, mol9, mol10, mol11, mol12, mol13]; omega) ?_
  refine R_callS (pc := 9) dX12_punch_9 rfl (Or.inl rfl) rfl rfl ?_
  refine s12_inG (a := 0) (b := n) rfl hw (by omega) (by omega) (fun c hc0 hc e => ?_) (fun e => ?_)
  · subst e
    refine R_if_ne (pc := 12) (t := 18) dX12_punch_12 (by decide) (fun _ => ?_) (fun hz9 => absurd hz9 (by decide))
    refine R_aload_n (pc := 18) dX12_punch_18 rfl ?_
    refine R_callV (pc := 19) dX12_punch_19 rfl putM_o rfl rfl ?_
    refine s12_readText hL hV hl hl5 (fun A2 kd q1 q2 q3 => ?_) (fun A2 q1 q2 q3 => ?_)
    · have hkl : kd < 5 := by rw [← q2]; exact scL_kd l 0 sc0
      refine R_aload_n (pc := 22) dX12_punch_22 rfl ?_
      refine M_g (pc := 23) dX12_punch_23 rfl rfl ?_
      refine R_ldc (pc := 26) (x := (-1000009)) dX12_punch_26 rfl ?_
      refine R_icmp_eq (pc := 28) (t := 50) dX12_punch_28 (by decide) (fun hz9 => absurd hz9 (show ¬ nI kd = (-1000009) from nI_noN (by have := hkl; omega))) (fun _ => ?_)
      refine R_aload_n (pc := 31) dX12_punch_31 rfl ?_
      refine R_aload_n (pc := 32) dX12_punch_32 rfl ?_
      refine M_g (pc := 33) dX12_punch_33 rfl rfl ?_
      refine M_p (pc := 36) dX12_punch_36 rfl rfl ?_
      refine R_aload_n (pc := 39) dX12_punch_39 rfl ?_
      refine R_aload_n (pc := 40) dX12_punch_40 rfl ?_
      refine M_g (pc := 41) dX12_punch_41 rfl rfl ?_
      refine M_p (pc := 44) dX12_punch_44 rfl rfl ?_
      refine R_ldc (pc := 47) (x := (-1000002)) dX12_punch_47 rfl ?_
      refine R_iret (pc := 49) dX12_punch_49 rfl ?_
      refine hE c hc rfl (by omega) A2 q1 _ (fun q hq => ?_) ?_ ?_
      · unfold va_up
        rw [if_neg (by omega), if_neg (by omega), if_neg (by omega), if_neg (by omega)]
      · rw [q2]; rfl
      · rfl
    · have e21 : A2 1 = A 1 := q1 1 (by omega) (by omega)
      by_cases h40 : n = 40
      · refine R_aload_n (pc := 22) dX12_punch_22 rfl ?_
        refine M_g (pc := 23) dX12_punch_23 rfl rfl ?_
        refine R_ldc (pc := 26) (x := (-1000009)) dX12_punch_26 rfl ?_
        refine R_icmp_eq (pc := 28) (t := 50) dX12_punch_28 (by decide) (fun _ => ?_) (fun hz9 => absurd rfl hz9)
        refine R_aload_n (pc := 50) dX12_punch_50 rfl ?_
        refine M_g (pc := 51) dX12_punch_51 rfl rfl ?_
        refine R_bipush (pc := 54) (x := nI 19) dX12_punch_54 (by decide) ?_
        refine M_ald (pc := 56) dX12_punch_56 rfl (by simp only [mol1]; omega) ?_
        refine R_bipush (pc := 57) (x := nI 40) dX12_punch_57 (by decide) ?_
        refine R_icmp_ne (pc := 59) (t := 65) dX12_punch_59 (by decide) (fun hz9 => absurd (by rw [e21, hw, h40]) hz9) (fun _ => ?_)
        refine R_ldc (pc := 62) (x := (-1000003)) dX12_punch_62 rfl ?_
        refine R_iret (pc := 64) dX12_punch_64 rfl ?_
        exact hF c hc rfl q2 h40 A2 q1 _ (fun q hq => by unfold va_up; rw [if_neg (by omega), if_neg (by omega)])
      · have hn2 : n < 40 := by omega
        refine R_aload_n (pc := 22) dX12_punch_22 rfl ?_
        refine M_g (pc := 23) dX12_punch_23 rfl rfl ?_
        refine R_ldc (pc := 26) (x := (-1000009)) dX12_punch_26 rfl ?_
        refine R_icmp_eq (pc := 28) (t := 50) dX12_punch_28 (by decide) (fun _ => ?_) (fun hz9 => absurd rfl hz9)
        refine R_aload_n (pc := 50) dX12_punch_50 rfl ?_
        refine M_g (pc := 51) dX12_punch_51 rfl rfl ?_
        refine R_bipush (pc := 54) (x := nI 19) dX12_punch_54 (by decide) ?_
        refine M_ald (pc := 56) dX12_punch_56 rfl (by simp only [mol1]; omega) ?_
        refine R_bipush (pc := 57) (x := nI 40) dX12_punch_57 (by decide) ?_
        refine R_icmp_ne (pc := 59) (t := 65) dX12_punch_59 (by decide) (fun _ => ?_) (fun hz9 => absurd hz9 (by rw [e21, hw]; exact fun q => h40 ((nI_eq (by omega) (by omega)).mp q)))
        refine R_aload_n (pc := 65) dX12_punch_65 rfl ?_
        refine R_callV (pc := 66) dX12_punch_66 rfl putM_o rfl rfl ?_
        refine s12_remember hpm (show va_up (va_up S 12 (-1000009)) 13 (-1000009) 2 = _ from hS) ?_
        refine R_aload_n (pc := 69) dX12_punch_69 rfl ?_
        refine M_g (pc := 70) dX12_punch_70 rfl rfl ?_
        refine R_bipush (pc := 73) (x := nI 19) dX12_punch_73 (by decide) ?_
        refine M_ald (pc := 75) dX12_punch_75 rfl (by simp only [mol1]; omega) ?_
        refine R_istore_n (pc := 76) dX12_punch_76 (Nat.le_of_ble_eq_true rfl) rfl ?_
        generalize hB : va_up A2 2 (remP (A2 1) (A2 2) pm) = B
        generalize hS2 : va_up (va_up (va_up S 12 (-1000009)) 13 (-1000009)) 2 (nI (remN pm)) = S2
        have B1 : B 1 = A 1 := by rw [← hB]; exact e21
        rw [B1, hw]
        refine Rn_A (A' := va_up B 1 (A 1)) (by rw [← B1]; exact va_up_id.symm) ?_
        refine l12_pun (U := A 1) hn2 (n - c) n (A 1) (by omega) (Nat.le_refl n) ⟨fun i hi j hj => by unfold shO; rw [if_neg (by omega)], fun _ _ => rfl⟩ (fun V k2 hO => ?_)
        have v19 : V 19 = nI n := (hO.2 19 (by omega)).trans hw
        refine R_aload_n (pc := 96) dX12_punch_96 rfl ?_
        refine M_g (pc := 97) dX12_punch_97 rfl rfl ?_
        refine R_bipush (pc := 100) (x := nI 19) dX12_punch_100 (by decide) ?_
        refine R_dup2 (pc := 102) dX12_punch_102 rfl rfl ?_
        refine M_ald (pc := 103) dX12_punch_103 rfl (by simp only [mol1]; omega) ?_
        refine R_iconst (pc := 104) (x := nI 1) dX12_punch_104 rfl ?_
        refine R_iadd (pc := 105) dX12_punch_105 ?_
        refine M_ast (pc := 106) dX12_punch_106 rfl (by simp only [mol1]; omega) ?_
        refine R_aload_n (pc := 107) dX12_punch_107 rfl ?_
        refine R_callV (pc := 108) dX12_punch_108 rfl putM_o rfl rfl ?_
        rw [va_up_up, show va_up B 1 V 1 19 = nI n from v19, nI_add]
        have BL : LayW (va_up B 1 (upd V 19 (nI (n + 1))) 1) P Wd := fun f hf => by
          show upd V 19 _ _ = _ ∧ upd V 19 _ _ = _ ∧ _
          rw [upd_n (by omega), upd_n (by omega), hO.2 _ (by omega), hO.2 _ (by omega)]
          exact hL f hf
        refine s12_punchSeen BL hV (s := (scL Wd (A 4) l 0 sc0).2.2) (fun f hf => by rw [← hB]; exact q3 f hf) (fun f hf => Nat.lt_of_lt_of_le (hok.2 f hf).2 (p10_le (by have := (hok.2 f hf).1; have := (hV f (by omega)).2; omega))) (fun A4 a4 b4 => ?_)
        refine R_bipush (pc := 111) (x := nI 20) dX12_punch_111 (by decide) ?_
        refine R_bipush (pc := 113) (x := nI 26) dX12_punch_113 (by decide) ?_
        refine R_iload_n (pc := 115) dX12_punch_115 rfl ?_
        refine R_imul (pc := 116) dX12_punch_116 ?_
        refine R_iadd (pc := 117) dX12_punch_117 ?_
        rw [pk_mul, nI_add]
        refine R_istore_n (pc := 118) dX12_punch_118 (Nat.le_of_ble_eq_true rfl) rfl ?_
        refine R_iconst (pc := 119) (x := nI 0) dX12_punch_119 rfl ?_
        refine R_istore_n (pc := 120) dX12_punch_120 (Nat.le_of_ble_eq_true rfl) rfl ?_
        generalize hV0 : A4 1 = V0
        have eV0 : V0 = upd V 19 (nI (n + 1)) := by rw [← hV0, a4 1 (by omega)]; rfl
        refine Rn_A (A' := va_up A4 1 V0) (by rw [← hV0]; exact va_up_id.symm) ?_
        refine l12_pcp (by omega) b4 24 0 V0 (by omega) (fun V2 a5 b5 => ?_)
        refine R_aload_n (pc := 147) dX12_punch_147 rfl ?_
        refine M_g (pc := 148) dX12_punch_148 rfl rfl ?_
        refine R_iload_n (pc := 151) dX12_punch_151 rfl ?_
        refine R_bipush (pc := 152) (x := nI 24) dX12_punch_152 (by decide) ?_
        refine R_iadd (pc := 154) dX12_punch_154 ?_
        refine R_iconst (pc := 155) (x := nI 0) dX12_punch_155 rfl ?_
        refine M_ast (pc := 156) dX12_punch_156 (by first | with_reducible rfl | (simp only [nI_add, pk_mul]; exact rfl)) (by simp only [mol1, mol2, mol3, mol4, mol5, mol6, mol7, mol8, mol9, mol10, mol11, mol12, mol13]; omega) ?_
        refine R_aload_n (pc := 157) dX12_punch_157 rfl ?_
        refine M_g (pc := 158) dX12_punch_158 rfl rfl ?_
        refine R_iload_n (pc := 161) dX12_punch_161 rfl ?_
        refine R_bipush (pc := 162) (x := nI 25) dX12_punch_162 (by decide) ?_
        refine R_iadd (pc := 164) dX12_punch_164 ?_
        refine R_iconst (pc := 165) (x := nI 0) dX12_punch_165 rfl ?_
        refine M_ast (pc := 166) dX12_punch_166 (by first | with_reducible rfl | (simp only [nI_add, pk_mul]; exact rfl)) (by simp only [mol1, mol2, mol3, mol4, mol5, mol6, mol7, mol8, mol9, mol10, mol11, mol12, mol13]; omega) ?_
        refine R_aload_n (pc := 167) dX12_punch_167 rfl ?_
        refine M_g (pc := 168) dX12_punch_168 rfl rfl ?_
        refine R_bipush (pc := 171) (x := nI 19) dX12_punch_171 (by decide) ?_
        refine M_ald (pc := 173) dX12_punch_173 rfl (by simp only [mol1]; omega) ?_
        refine R_iret (pc := 174) dX12_punch_174 rfl ?_
        have e19 : upd (upd V2 (20 + 26 * c + 24) (nI 0)) (20 + 26 * c + 25) (nI 0) 19 = nI (n + 1) := by rw [upd_n (by omega), upd_n (by omega), a5 19 (by omega), eV0, upd_s]
        refine Eq.mpr (congrArg (fun x => Q (some (.int x)) _) e19) ?_
        refine hG c hc rfl q2 hn2 _ ⟨fun i hi hic j hj => ?_, fun j hj => ?_, ?_, ?_, e19, fun j hj => ?_⟩ ?_ ?_ ?_ _ ?_ (fun q h9 h2 => ?_)
        · show upd (upd V2 (20 + 26 * c + 24) (nI 0)) (20 + 26 * c + 25) (nI 0) _ = _
          rw [upd_n (by omega), upd_n (by omega), a5 _ (by omega), eV0, upd_n (by omega)]
          exact hO.1 i hi j hj
        · show upd (upd V2 (20 + 26 * c + 24) (nI 0)) (20 + 26 * c + 25) (nI 0) _ = _
          rw [upd_n (by omega), upd_n (by omega)]
          exact b5 j (by omega) hj
        · show upd (upd V2 (20 + 26 * c + 24) (nI 0)) (20 + 26 * c + 25) (nI 0) _ = _
          rw [upd_n (by omega), upd_s]
        · show upd (upd V2 (20 + 26 * c + 24) (nI 0)) (20 + 26 * c + 25) (nI 0) _ = _
          rw [upd_s]
        · show upd (upd V2 (20 + 26 * c + 24) (nI 0)) (20 + 26 * c + 25) (nI 0) _ = _
          rw [upd_n (by omega), upd_n (by omega), a5 _ (by omega), eV0, upd_n (by omega)]
          exact hO.2 j (by omega)
        · show A4 2 = _
          rw [a4 2 (by omega)]
          show B 2 = _
          rw [← hB]
          show remP (A2 1) (A2 2) pm = _
          rw [e21, q1 2 (by omega) (by omega)]
        · show A4 3 = _
          rw [a4 3 (by omega)]
          show B 3 = _
          rw [← hB]
          exact q1 3 (by omega) (by omega)
        · show A4 4 = _
          rw [a4 4 (by omega)]
          show B 4 = _
          rw [← hB]
          exact q1 4 (by omega) (by omega)
        · rw [← hS2]; rfl
        · rw [← hS2]
          unfold va_up
          rw [if_neg h2, if_neg (by omega), if_neg (by omega)]
  · refine R_if_ne (pc := 12) (t := 18) dX12_punch_12 (by decide) (fun hz9 => absurd hz9 (by decide)) (fun _ => ?_)
    refine R_ldc (pc := 15) (x := (-1000001)) dX12_punch_15 rfl ?_
    refine R_iret (pc := 17) dX12_punch_17 rfl ?_
    exact hB (fun j hj => e j (Nat.zero_le _) hj)
end MOD11
