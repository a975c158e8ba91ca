section CD0
variable {sA : Nat} {h : Nat → Option am_C} {z : Nat × Nat} {Q : Option Value → am_H → Prop}
theorem dgt_0 : dgt 0 = (-1000009) := rfl
theorem dgt_s (e : Nat) : dgt (e + 1) = nI e := by unfold dgt; rw [if_neg (by omega), Nat.add_sub_cancel]
theorem valR_rng {g : Nat → Int32} {p : Nat} (hg : ∀ j, j < 24 → ∃ d, d < 11 ∧ g j = dgt d) : ∀ (n k v m : Nat), p + k + n ≤ 24 → v < 10 ^ m → valR g p n k (nI v) = (-1000009) ∨ ∃ u, u < 10 ^ (m + n) ∧ valR g p n k (nI v) = nI u
  | 0, k, v, m, _, hv => Or.inr ⟨v, hv, rfl⟩
  | n + 1, k, v, m, hk, hv => by
    unfold valR
    obtain ⟨d, h1, h2⟩ := hg (p + k) (by omega)
    by_cases e : d = 0
    · subst e
      exact Or.inl (if_pos h2)
    · obtain ⟨y, rfl⟩ : ∃ y, d = y + 1 := ⟨d - 1, by omega⟩
      rw [dgt_s] at h2
      rw [if_neg (by rw [h2]; exact nI_noN (by omega)), h2, pk_mul, nI_add]
      rcases valR_rng (p := p) hg n (k + 1) (10 * v + y) (m + 1) (by omega) (by rw [Nat.pow_succ]; omega) with q | ⟨u, q1, q2⟩
      · exact Or.inl q
      · exact Or.inr ⟨u, by rw [show m + (n + 1) = m + 1 + n by omega]; exact q1, q2⟩
theorem valF_rng {P Wd : Nat → Nat} {g : Nat → Int32} (hg : ∀ j, j < 24 → ∃ d, d < 11 ∧ g j = dgt d) {f : Nat} (hp : P f + Wd f ≤ 24) (hw : Wd f ≤ 4) : valF P Wd g f = (-1000009) ∨ ∃ u, u < 10000 ∧ valF P Wd g f = nI u := by
  rcases valR_rng hg (Wd f) 0 0 0 (by omega) (by decide : (0 : Nat) < 10 ^ 0) with q | ⟨u, q1, q2⟩
  · exact Or.inl q
  · refine Or.inr ⟨u, Nat.lt_of_lt_of_le q1 ?_, q2⟩
    rw [Nat.zero_add]
    exact (Nat.pow_le_pow_right (by omega) hw : 10 ^ Wd f ≤ 10 ^ 4)
theorem keyM_nI {a b c : Nat} (ha : a < 10000) (hb : b < 10000) (hc : c < 10000) : keyM (nI a) (nI b) (nI c) = lN (100000000 * a + 10000 * b + c) := by
  unfold keyM
  rw [nI_l (by omega), nI_l (by omega), nI_l (by omega), show (100000000 : Int64) = lN 100000000 from rfl, show (10000 : Int64) = lN 10000 from rfl, lN_mul, lN_mul, lN_add, lN_add]
theorem lN_ltB {a b : Nat} (ha : a < 2 ^ 62) (hb : b < 2 ^ 62) : lN a < lN b ↔ a < b := by
  rw [Int64.lt_iff_toInt_lt, pk_lT (by omega), pk_lT (by omega)]; omega
theorem lN_eqB {a b : Nat} (ha : a < 2 ^ 62) (hb : b < 2 ^ 62) : lN a = lN b ↔ a = b := by
  rw [← Int64.toInt_inj, pk_lT (by omega), pk_lT (by omega)]; omega
theorem lN_nM {a : Nat} (ha : a < 2 ^ 62) : ¬ lN a = (-1) := by
  intro e
  have := congrArg Int64.toInt e
  rw [pk_lT (by omega)] at this
  rw [show (-1 : Int64).toInt = -1 from rfl] at this
  omega
theorem cmp_eq {x y : Int64} : lg_cmp x y = 0 ↔ x = y := by
  unfold lg_cmp
  split
  · rename_i q
    refine ⟨fun z => absurd z (by decide), fun z => ?_⟩
    subst z
    exact absurd q (lg_lt_not q)
  · split
    · rename_i e
      exact ⟨fun _ => e, fun _ => rfl⟩
    · rename_i e
      exact ⟨fun z => absurd z (by decide), fun z => absurd z e⟩
/-- a sorter at r -/
def SoX (h : Nat → Option am_C) (r n : Nat) (G g2 g3 : Nat → Int32) (f4 : Nat → Option Nat) : Prop := h r = some (.inr (7, [.ref (r + 1), .ref (r + 2), .ref (r + 3), .ref (r + 4), .int (nI n)])) ∧ h (r + 1) = some (.inl (0, 40, .inl G)) ∧ h (r + 2) = some (.inl (0, 40, .inl g2)) ∧ h (r + 3) = some (.inl (0, 12, .inl g3)) ∧ h (r + 4) = some (.inl (1, 40, .inr (.inr (.inr (.inr f4)))))
theorem SoX.fr {h h' : Nat → Option am_C} {r n : Nat} {G g2 g3 : Nat → Int32} {f4 : Nat → Option Nat} (a : SoX h r n G g2 g3 f4) (e : ∀ x, r ≤ x → x < r + 5 → h' x = h x) : SoX h' r n G g2 g3 f4 := ⟨(e _ (by omega) (by omega)).trans a.1, (e _ (by omega) (by omega)).trans a.2.1, (e _ (by omega) (by omega)).trans a.2.2.1, (e _ (by omega) (by omega)).trans a.2.2.2.1, (e _ (by omega) (by omega)).trans a.2.2.2.2⟩
theorem c7_init {r x : Nat} (hr : h r = some (.inr (7, am_bl 7))) (hQ : ∀ h2 : Nat → Option am_C, SoX h2 r 0 (fun _ => 0) (fun _ => 0) (fun _ => 0) (fun _ => none) → (∀ a, (a < r ∨ r + 5 ≤ a) → h2 a = h a) → Q none (h2, r + 5, x + 132)) : Rn sA mX7_init 0 [some (.ref r)] [] (h, r + 1, x) Q := by
  refine R_aload_n (pc := 0) dX7_init_0 rfl ?_
  refine R_obj (pc := 1) dX7_init_1 rfl rfl ⟨Nat.le_of_ble_eq_true rfl, Nat.le_of_ble_eq_true rfl⟩ ?_
  refine R_aload_n (pc := 4) dX7_init_4 rfl ?_
  refine R_bipush (pc := 5) (x := nI 40) dX7_init_5 (by decide) ?_
  refine R_newa (pc := 7) dX7_init_7 rfl (by decide) ?_
  refine R_putf (pc := 9) dX7_init_9 rfl (by repeat (first | assumption | exact up_s | refine up_n (by omega) ?_)) rfl (Or.inr ⟨by decide, rfl⟩) rfl ?_
  refine R_aload_n (pc := 12) dX7_init_12 rfl ?_
  refine R_bipush (pc := 13) (x := nI 40) dX7_init_13 (by decide) ?_
  refine R_newa (pc := 15) dX7_init_15 rfl (by decide) ?_
  refine R_putf (pc := 17) dX7_init_17 rfl (by repeat (first | assumption | exact up_s | refine up_n (by omega) ?_)) rfl (Or.inr ⟨by decide, rfl⟩) rfl ?_
  refine R_aload_n (pc := 20) dX7_init_20 rfl ?_
  refine R_bipush (pc := 21) (x := nI 12) dX7_init_21 (by decide) ?_
  refine R_newa (pc := 23) dX7_init_23 rfl (by decide) ?_
  refine R_putf (pc := 25) dX7_init_25 rfl (by repeat (first | assumption | exact up_s | refine up_n (by omega) ?_)) rfl (Or.inr ⟨by decide, rfl⟩) rfl ?_
  refine R_aload_n (pc := 28) dX7_init_28 rfl ?_
  refine R_bipush (pc := 29) (x := nI 40) dX7_init_29 (by decide) ?_
  refine R_anew (pc := 31) dX7_init_31 rfl rfl (by decide) ?_
  refine R_putf (pc := 34) dX7_init_34 rfl (by repeat (first | assumption | exact up_s | refine up_n (by omega) ?_)) rfl (Or.inr ⟨by decide, rfl⟩) rfl ?_
  refine R_vret (pc := 37) dX7_init_37 rfl ?_
  refine Q_z (a' := r + 5) (b' := x + 132) (by show _ = r + 1 + 1 + 1 + 1 + 1; omega) (by show _ = x + 40 + 40 + 12 + 40; omega) ?_
  refine hQ _ ⟨up_s, (by repeat (first | exact up_s | refine up_n (by omega) ?_)), (by repeat (first | exact up_s | refine up_n (by omega) ?_)), (by repeat (first | exact up_s | refine up_n (by omega) ?_)), (by repeat (first | exact up_s | refine up_n (by omega) ?_))⟩ (fun a ha => ?_)
  simp only [va_up]
  repeat rw [if_neg (by omega)]
theorem lc7_begin {r n d : Nat} {g2 g3 : Nat → Int32} {f4 : Nat → Option Nat} {g : Nat → Option am_C} (hn : n ≤ 40) : ∀ (m k : Nat) (h : Nat → Option am_C) (G : Nat → Int32) (_ : k + m = n) (_ : SoX h r n G g2 g3 f4) (_ : ∀ i, i < k → G i = nI i) (_ : ∀ a, (a < r ∨ r + 5 ≤ a) → h a = g a) (_ : (∀ (h2 : Nat → Option am_C) (G2 : Nat → Int32), SoX h2 r n G2 g2 g3 f4 → (∀ i, i < n → G2 i = nI i) → (∀ a, (a < r ∨ r + 5 ≤ a) → h2 a = g a) → Q none (h2, z))), Rn sA mX7_begin 15 [some (.ref r), some (.ref d), some (.int (nI k))] [] (h, z) Q
  | 0, k, h, G, hk, hs, hi, hg, hX => by
    have hs9 := hs
    obtain ⟨hs1, hs2, hs3, hs4, hs5⟩ := hs9
    obtain rfl : k = n := by omega
    refine R_iload_n (pc := 15) dX7_begin_15 rfl ?_
    refine R_aload_n (pc := 16) dX7_begin_16 rfl ?_
    refine R_getf (pc := 17) dX7_begin_17 rfl (by repeat (first | assumption | exact up_s | refine up_n (by omega) ?_)) rfl ?_
    refine R_icmp_ge (pc := 20) (t := 36) dX7_begin_20 (by decide) (fun _ => ?_) (fun hz9 => absurd (nI_le (by omega) (by omega)) hz9)
    refine R_vret (pc := 36) dX7_begin_36 rfl ?_
    exact hX h G hs hi hg
  | m + 1, k, h, G, hk, hs, hi, hg, hX => by
    have hs9 := hs
    obtain ⟨hs1, hs2, hs3, hs4, hs5⟩ := hs9
    refine R_iload_n (pc := 15) dX7_begin_15 rfl ?_
    refine R_aload_n (pc := 16) dX7_begin_16 rfl ?_
    refine R_getf (pc := 17) dX7_begin_17 rfl (by repeat (first | assumption | exact up_s | refine up_n (by omega) ?_)) rfl ?_
    refine R_icmp_ge (pc := 20) (t := 36) dX7_begin_20 (by decide) (fun hz9 => absurd hz9 (nI_ge (by omega) (by omega))) (fun _ => ?_)
    refine R_aload_n (pc := 23) dX7_begin_23 rfl ?_
    refine R_getf (pc := 24) dX7_begin_24 rfl (by repeat (first | assumption | exact up_s | refine up_n (by omega) ?_)) rfl ?_
    refine R_iload_n (pc := 27) dX7_begin_27 rfl ?_
    refine R_iload_n (pc := 28) dX7_begin_28 rfl ?_
    refine R_iast (pc := 29) dX7_begin_29 (by repeat (first | assumption | exact up_s | refine up_n (by omega) ?_)) (by first | with_reducible rfl | (simp only [nI_add, pk_mul]; exact rfl)) (by omega) (by decide) ?_
    refine R_iinc (pc := 30) dX7_begin_30 rfl (by first | exact nI_inc _ | rfl) rfl ?_
    refine R_goto (pc := 33) (t := 15) dX7_begin_33 (by decide) ?_
    refine lc7_begin hn m (k + 1) _ (upd G k (nI k)) (by omega) ⟨up_n (by omega) hs1, up_s, up_n (by omega) hs3, up_n (by omega) hs4, up_n (by omega) hs5⟩ (fun i hi2 => ?_) (fun a ha => (up_n (by omega) rfl).trans (hg a ha)) hX
    by_cases e : i = k
    · subst e; exact upd_s
    · rw [upd_n e]; exact hi i (by omega)
theorem c7_begin {d n : Nat} {pe : Nat → Nat} {K : Nat → CdX} {m : Nat} {r : Nat} {G g2 g3 : Nat → Int32} {f4 : Nat → Option Nat} (hs : SoX h r m G g2 g3 f4) (hd : DkAt h d n pe K) (hn : n ≤ 40) (hrd : r + 5 ≤ d ∨ d + 84 ≤ r) (hQ : ∀ (h2 : Nat → Option am_C) (G2 : Nat → Int32), SoX h2 r n G2 g2 g3 f4 → (∀ i, i < n → G2 i = nI i) → (∀ a, (a < r ∨ r + 5 ≤ a) → h2 a = h a) → Q none (h2, z)) : Rn sA mX7_begin 0 [some (.ref r), some (.ref d), none] [] (h, z) Q := by
  obtain ⟨hs1, hs2, hs3, hs4, hs5⟩ := hs
  refine R_aload_n (pc := 0) dX7_begin_0 rfl ?_
  refine R_aload_n (pc := 1) dX7_begin_1 rfl ?_
  refine R_callV (pc := 2) dX7_begin_2 rfl hd.1 rfl rfl ?_
  refine c1_size hd ?_
  refine R_bipush (pc := 5) (x := nI 40) dX7_begin_5 (by decide) ?_
  refine R_min (pc := 7) dX7_begin_7 rfl rfl ⟨Nat.le_of_ble_eq_true rfl, Nat.le_of_ble_eq_true rfl⟩ ?_
  rw [if_neg (show ¬ nI 40 < nI n from nI_nlt hn (by omega))]
  refine R_putf (pc := 10) dX7_begin_10 rfl (by repeat (first | assumption | exact up_s | refine up_n (by omega) ?_)) rfl (Or.inl rfl) rfl ?_
  refine R_iconst (pc := 13) (x := nI 0) dX7_begin_13 rfl ?_
  refine R_istore_n (pc := 14) dX7_begin_14 (Nat.le_of_ble_eq_true rfl) rfl ?_
  exact lc7_begin (g := h) hn n 0 _ G (by omega) ⟨up_s, up_n (by omega) hs2, up_n (by omega) hs3, up_n (by omega) hs4, up_n (by omega) hs5⟩ (fun i hi => absurd hi (Nat.not_lt_zero _)) (fun a ha => up_n (by omega) rfl) hQ
theorem c7_stackOf {c k d : Nat} {C : CdX} (hc : CdAt h c C) (hk : k < 24) (hd : d < 11) (he : C.1 k = dgt d) (hQ : Q (some (.int (nI d))) (h, z)) : Rn sA mX7_stackOf 0 [some (.ref c), some (.int (nI k)), none] [] (h, z) Q := by
  by_cases d0 : d = 0
  · subst d0
    rw [dgt_0] at he
    refine R_aload_n (pc := 0) dX7_stackOf_0 rfl ?_
    refine R_iload_n (pc := 1) dX7_stackOf_1 rfl ?_
    refine R_callV (pc := 2) dX7_stackOf_2 rfl hc.1 rfl rfl ?_
    refine c0_shows hc hk ?_
    rw [he]
    refine R_istore_n (pc := 5) dX7_stackOf_5 (Nat.le_of_ble_eq_true rfl) rfl ?_
    refine R_iload_n (pc := 6) dX7_stackOf_6 rfl ?_
    refine R_iconst (pc := 7) (x := nI 0) dX7_stackOf_7 rfl ?_
    refine R_bipush (pc := 8) (x := nI 9) dX7_stackOf_8 (by decide) ?_
    refine R_callS (pc := 10) dX7_stackOf_10 rfl (Or.inr rfl) rfl rfl ?_
    refine c_inG (a := 0) (b := 9) rfl rfl (by omega) (by omega) (fun j j1 j2 e => absurd e.symm (nI_noN (by omega))) (fun _ => ?_)
    · refine R_if_eq (pc := 13) (t := 22) dX7_stackOf_13 (by decide) (fun _ => ?_) (fun hz9 => absurd hz9 (by decide))
      refine R_iconst (pc := 22) (x := nI 0) dX7_stackOf_22 rfl ?_
      refine R_iret (pc := 23) dX7_stackOf_23 rfl ?_
      exact hQ
  · obtain ⟨e, rfl⟩ : ∃ e, d = e + 1 := ⟨d - 1, by omega⟩
    rw [dgt_s] at he
    refine R_aload_n (pc := 0) dX7_stackOf_0 rfl ?_
    refine R_iload_n (pc := 1) dX7_stackOf_1 rfl ?_
    refine R_callV (pc := 2) dX7_stackOf_2 rfl hc.1 rfl rfl ?_
    refine c0_shows hc hk ?_
    rw [he]
    refine R_istore_n (pc := 5) dX7_stackOf_5 (Nat.le_of_ble_eq_true rfl) rfl ?_
    refine R_iload_n (pc := 6) dX7_stackOf_6 rfl ?_
    refine R_iconst (pc := 7) (x := nI 0) dX7_stackOf_7 rfl ?_
    refine R_bipush (pc := 8) (x := nI 9) dX7_stackOf_8 (by decide) ?_
    refine R_callS (pc := 10) dX7_stackOf_10 rfl (Or.inr rfl) rfl rfl ?_
    refine c_inG (a := 0) (b := 9) rfl rfl (by omega) (by omega) (fun j j1 j2 _ => ?_) (fun q => absurd rfl (q e (by omega) (by omega)))
    · refine R_if_eq (pc := 13) (t := 22) dX7_stackOf_13 (by decide) (fun hz9 => absurd hz9 (by decide)) (fun _ => ?_)
      refine R_iload_n (pc := 16) dX7_stackOf_16 rfl ?_
      refine R_iconst (pc := 17) (x := nI 1) dX7_stackOf_17 rfl ?_
      refine R_iadd (pc := 18) dX7_stackOf_18 ?_
      refine R_goto (pc := 19) (t := 23) dX7_stackOf_19 (by decide) ?_
      refine R_iret (pc := 23) dX7_stackOf_23 rfl ?_
      rw [nI_add]
      exact hQ
theorem lc7_fsC {d n c : Nat} {r : Nat} {G g2 : Nat → Int32} {f4 : Nat → Option Nat} {sk : Nat → Nat} {g : Nat → Option am_C}  : ∀ (m k : Nat) (h : Nat → Option am_C) (g3 : Nat → Int32) (_ : k + 1 + m = 12) (_ : SoX h r n G g2 g3 f4) (_ : ∀ j, j < k + 1 → g3 j = nI (cum sk n j)) (_ : ∀ j, k ≤ j → j < 11 → g3 (j + 1) = nI (cnt sk j n)) (_ : ∀ a, (a < r ∨ r + 5 ≤ a) → h a = g a) (_ : (∀ (h2 : Nat → Option am_C) (g3 : Nat → Int32), SoX h2 r n G g2 g3 f4 → (∀ j, j < 12 → g3 j = nI (cum sk n j)) → (∀ a, (a < r ∨ r + 5 ≤ a) → h2 a = g a) → Q none (h2, z))), Rn sA mX7_findStarts 64 [some (.ref r), some (.ref d), some (.int (nI c)), some (.int (nI (k + 1)))] [] (h, z) Q
  | 0, k, h, g3, hk, hx, hA, hB, hg, hX => by
    have hx9 := hx
    obtain ⟨hs1, hs2, hs3, hs4, hs5⟩ := hx9
    obtain rfl : k = 11 := by omega
    refine R_iload_n (pc := 64) dX7_findStarts_64 rfl ?_
    refine R_bipush (pc := 65) (x := nI 11) dX7_findStarts_65 (by decide) ?_
    refine R_icmp_gt (pc := 67) (t := 93) dX7_findStarts_67 (by decide) (fun _ => ?_) (fun hz9 => absurd (nI_lt (by omega) (by omega)) hz9)
    refine R_vret (pc := 93) dX7_findStarts_93 rfl ?_
    exact hX h g3 hx hA hg
  | m + 1, k, h, g3, hk, hx, hA, hB, hg, hX => by
    have hx9 := hx
    obtain ⟨hs1, hs2, hs3, hs4, hs5⟩ := hx9
    refine R_iload_n (pc := 64) dX7_findStarts_64 rfl ?_
    refine R_bipush (pc := 65) (x := nI 11) dX7_findStarts_65 (by decide) ?_
    refine R_icmp_gt (pc := 67) (t := 93) dX7_findStarts_67 (by decide) (fun hz9 => absurd hz9 (nI_nlt (by omega) (by omega))) (fun _ => ?_)
    refine R_aload_n (pc := 70) dX7_findStarts_70 rfl ?_
    refine R_getf (pc := 71) dX7_findStarts_71 rfl (by repeat (first | assumption | exact up_s | refine up_n (by omega) ?_)) rfl ?_
    refine R_iload_n (pc := 74) dX7_findStarts_74 rfl ?_
    refine R_dup2 (pc := 75) dX7_findStarts_75 rfl rfl ?_
    refine R_iald (pc := 76) dX7_findStarts_76 (by repeat (first | assumption | exact up_s | refine up_n (by omega) ?_)) (Or.inl rfl) (by first | with_reducible rfl | (simp only [nI_add, pk_mul]; exact rfl)) (by omega) (by decide) ?_
    refine R_aload_n (pc := 77) dX7_findStarts_77 rfl ?_
    refine R_getf (pc := 78) dX7_findStarts_78 rfl (by repeat (first | assumption | exact up_s | refine up_n (by omega) ?_)) rfl ?_
    refine R_iload_n (pc := 81) dX7_findStarts_81 rfl ?_
    refine R_iconst (pc := 82) (x := nI 1) dX7_findStarts_82 rfl ?_
    refine R_isub (pc := 83) dX7_findStarts_83 ?_
    refine R_iald (pc := 84) dX7_findStarts_84 (by repeat (first | assumption | exact up_s | refine up_n (by omega) ?_)) (Or.inl rfl) (pk_sub (show 1 ≤ k + 1 by omega)) (by omega) (by decide) ?_
    refine R_iadd (pc := 85) dX7_findStarts_85 ?_
    refine R_iast (pc := 86) dX7_findStarts_86 (by repeat (first | assumption | exact up_s | refine up_n (by omega) ?_)) (by first | with_reducible rfl | (simp only [nI_add, pk_mul]; exact rfl)) (by omega) (by decide) ?_
    refine R_iinc (pc := 87) dX7_findStarts_87 rfl (by first | exact nI_inc _ | rfl) rfl ?_
    refine R_goto (pc := 90) (t := 64) dX7_findStarts_90 (by decide) ?_
    refine lc7_fsC m (k + 1) _ (upd g3 (k + 1) (g3 (k + 1) + g3 (k + 1 - 1))) (by omega) ⟨up_n (by omega) hs1, up_n (by omega) hs2, up_n (by omega) hs3, up_s, up_n (by omega) hs5⟩ (fun j hj => ?_) (fun j j1 j2 => ?_) (fun a ha => (up_n (by omega) rfl).trans (hg a ha)) hX
    · by_cases e : j = k + 1
      · subst e
        rw [upd_s, hB k (by omega) (by omega), Nat.add_sub_cancel, hA k (by omega), nI_add, Nat.add_comm]
        rfl
      · rw [upd_n e]; exact hA j (by omega)
    · rw [upd_n (by omega)]; exact hB j (by omega) j2
theorem lc7_fsB {d n c : Nat} {pe : Nat → Nat} {K : Nat → CdX} {r : Nat} {G g2 : Nat → Int32} {f4 : Nat → Option Nat} {sk o : Nat → Nat} {g : Nat → Option am_C} (hd : DkAt g d n pe K) (hn : n ≤ 40) (hrd : r + 5 ≤ d ∨ d + 84 ≤ r) (hc : c < 24) (ho : ∀ i, i < n → o i < n) (hG : ∀ i, i < n → G i = nI (o i)) (hs : ∀ i, i < n → sk i < 11) (hcol : ∀ i, i < n → (K (pe (o i))).1 c = dgt (sk i)) : ∀ (m k : Nat) (h : Nat → Option am_C) (g3 : Nat → Int32) (_ : k + m = n) (_ : SoX h r n G g2 g3 f4) (_ : g3 0 = nI 0) (_ : ∀ j, j < 11 → g3 (j + 1) = nI (cnt sk j k)) (_ : ∀ a, (a < r ∨ r + 5 ≤ a) → h a = g a) (_ : (∀ (h2 : Nat → Option am_C) (g3 : Nat → Int32), SoX h2 r n G g2 g3 f4 → g3 0 = nI 0 → (∀ j, j < 11 → g3 (j + 1) = nI (cnt sk j n)) → (∀ a, (a < r ∨ r + 5 ≤ a) → h2 a = g a) → Rn sA mX7_findStarts 62 [some (.ref r), some (.ref d), some (.int (nI c)), some (.int (nI n))] [] (h2, z) Q)), Rn sA mX7_findStarts 23 [some (.ref r), some (.ref d), some (.int (nI c)), some (.int (nI k))] [] (h, z) Q
  | 0, k, h, g3, hk, hx, hA, hB, hg, hX => by
    have hx9 := hx
    obtain ⟨hs1, hs2, hs3, hs4, hs5⟩ := hx9
    obtain rfl : k = n := by omega
    refine R_iload_n (pc := 23) dX7_findStarts_23 rfl ?_
    refine R_aload_n (pc := 24) dX7_findStarts_24 rfl ?_
    refine R_getf (pc := 25) dX7_findStarts_25 rfl (by repeat (first | assumption | exact up_s | refine up_n (by omega) ?_)) rfl ?_
    refine R_icmp_ge (pc := 28) (t := 62) dX7_findStarts_28 (by decide) (fun _ => ?_) (fun hz9 => absurd (nI_le (by omega) (by omega)) hz9)
    exact hX h g3 hx hA hB hg
  | m + 1, k, h, g3, hk, hx, hA, hB, hg, hX => by
    have hx9 := hx
    obtain ⟨hs1, hs2, hs3, hs4, hs5⟩ := hx9
    have hdx : DkAt h d n pe K := hd.fr (fun x x1 x2 => hg x (by omega))
    have hok := ho k (by omega)
    have hsk := hs k (by omega)
    have hpk := hd.2.2.2 (o k) (by omega)
    refine R_iload_n (pc := 23) dX7_findStarts_23 rfl ?_
    refine R_aload_n (pc := 24) dX7_findStarts_24 rfl ?_
    refine R_getf (pc := 25) dX7_findStarts_25 rfl (by repeat (first | assumption | exact up_s | refine up_n (by omega) ?_)) rfl ?_
    refine R_icmp_ge (pc := 28) (t := 62) dX7_findStarts_28 (by decide) (fun hz9 => absurd hz9 (nI_ge (by omega) (by omega))) (fun _ => ?_)
    refine R_aload_n (pc := 31) dX7_findStarts_31 rfl ?_
    refine R_getf (pc := 32) dX7_findStarts_32 rfl (by repeat (first | assumption | exact up_s | refine up_n (by omega) ?_)) rfl ?_
    refine R_aload_n (pc := 35) dX7_findStarts_35 rfl ?_
    refine R_aload_n (pc := 36) dX7_findStarts_36 rfl ?_
    refine R_getf (pc := 37) dX7_findStarts_37 rfl (by repeat (first | assumption | exact up_s | refine up_n (by omega) ?_)) rfl ?_
    refine R_iload_n (pc := 40) dX7_findStarts_40 rfl ?_
    refine R_iald (pc := 41) dX7_findStarts_41 (by repeat (first | assumption | exact up_s | refine up_n (by omega) ?_)) (Or.inl rfl) (by first | with_reducible rfl | (simp only [nI_add, pk_mul]; exact rfl)) (by omega) (by decide) ?_
    refine R_callV (pc := 42) dX7_findStarts_42 rfl hdx.1 rfl rfl ?_
    rw [hG k (by omega)]
    refine c1_at hdx (by omega) ?_
    refine R_iload_n (pc := 45) dX7_findStarts_45 rfl ?_
    refine R_callS (pc := 46) dX7_findStarts_46 rfl (Or.inl rfl) rfl rfl ?_
    refine c7_stackOf (hdx.2.2.1 _ hpk) hc hsk (hcol k (by omega)) ?_
    refine R_iconst (pc := 49) (x := nI 1) dX7_findStarts_49 rfl ?_
    refine R_iadd (pc := 50) dX7_findStarts_50 ?_
    rw [nI_add]
    refine R_dup2 (pc := 51) dX7_findStarts_51 rfl rfl ?_
    refine R_iald (pc := 52) dX7_findStarts_52 (by repeat (first | assumption | exact up_s | refine up_n (by omega) ?_)) (Or.inl rfl) (by first | with_reducible rfl | (simp only [nI_add, pk_mul]; exact rfl)) (by omega) (by decide) ?_
    refine R_iconst (pc := 53) (x := nI 1) dX7_findStarts_53 rfl ?_
    refine R_iadd (pc := 54) dX7_findStarts_54 ?_
    refine R_iast (pc := 55) dX7_findStarts_55 (by repeat (first | assumption | exact up_s | refine up_n (by omega) ?_)) (by first | with_reducible rfl | (simp only [nI_add, pk_mul]; exact rfl)) (by omega) (by decide) ?_
    refine R_iinc (pc := 56) dX7_findStarts_56 rfl (by first | exact nI_inc _ | rfl) rfl ?_
    refine R_goto (pc := 59) (t := 23) dX7_findStarts_59 (by decide) ?_
    refine lc7_fsB hd hn hrd hc ho hG hs hcol m (k + 1) _ (upd g3 (sk k + 1) (g3 (sk k + 1) + nI 1)) (by omega) ⟨up_n (by omega) hs1, up_n (by omega) hs2, up_n (by omega) hs3, up_s, up_n (by omega) hs5⟩ ?_ (fun j hj => ?_) (fun a ha => (up_n (by omega) rfl).trans (hg a ha)) hX
    · rw [upd_n (by omega)]; exact hA
    · show _ = nI (cnt sk j k + if sk k = j then 1 else 0)
      by_cases e : sk k = j
      · subst e
        rw [upd_s, hB _ (by omega), nI_add, if_pos rfl]
      · rw [upd_n (by omega), if_neg e]; exact hB j hj
theorem lc7_fsA {d n c : Nat} {r : Nat} {G g2 : Nat → Int32} {f4 : Nat → Option Nat} {g : Nat → Option am_C}  : ∀ (m k : Nat) (h : Nat → Option am_C) (g3 : Nat → Int32) (_ : k + m = 12) (_ : SoX h r n G g2 g3 f4) (_ : ∀ j, j < k → g3 j = nI 0) (_ : ∀ a, (a < r ∨ r + 5 ≤ a) → h a = g a) (_ : (∀ (h2 : Nat → Option am_C) (g3 : Nat → Int32), SoX h2 r n G g2 g3 f4 → (∀ j, j < 12 → g3 j = nI 0) → (∀ a, (a < r ∨ r + 5 ≤ a) → h2 a = g a) → Rn sA mX7_findStarts 21 [some (.ref r), some (.ref d), some (.int (nI c)), some (.int (nI 12))] [] (h2, z) Q)), Rn sA mX7_findStarts 2 [some (.ref r), some (.ref d), some (.int (nI c)), some (.int (nI k))] [] (h, z) Q
  | 0, k, h, g3, hk, hx, hA, hg, hX => by
    have hx9 := hx
    obtain ⟨hs1, hs2, hs3, hs4, hs5⟩ := hx9
    obtain rfl : k = 12 := by omega
    refine R_iload_n (pc := 2) dX7_findStarts_2 rfl ?_
    refine R_bipush (pc := 3) (x := nI 11) dX7_findStarts_3 (by decide) ?_
    refine R_icmp_gt (pc := 5) (t := 21) dX7_findStarts_5 (by decide) (fun _ => ?_) (fun hz9 => absurd (nI_lt (by omega) (by omega)) hz9)
    exact hX h g3 hx hA hg
  | m + 1, k, h, g3, hk, hx, hA, hg, hX => by
    have hx9 := hx
    obtain ⟨hs1, hs2, hs3, hs4, hs5⟩ := hx9
    refine R_iload_n (pc := 2) dX7_findStarts_2 rfl ?_
    refine R_bipush (pc := 3) (x := nI 11) dX7_findStarts_3 (by decide) ?_
    refine R_icmp_gt (pc := 5) (t := 21) dX7_findStarts_5 (by decide) (fun hz9 => absurd hz9 (nI_nlt (by omega) (by omega))) (fun _ => ?_)
    refine R_aload_n (pc := 8) dX7_findStarts_8 rfl ?_
    refine R_getf (pc := 9) dX7_findStarts_9 rfl (by repeat (first | assumption | exact up_s | refine up_n (by omega) ?_)) rfl ?_
    refine R_iload_n (pc := 12) dX7_findStarts_12 rfl ?_
    refine R_iconst (pc := 13) (x := nI 0) dX7_findStarts_13 rfl ?_
    refine R_iast (pc := 14) dX7_findStarts_14 (by repeat (first | assumption | exact up_s | refine up_n (by omega) ?_)) (by first | with_reducible rfl | (simp only [nI_add, pk_mul]; exact rfl)) (by omega) (by decide) ?_
    refine R_iinc (pc := 15) dX7_findStarts_15 rfl (by first | exact nI_inc _ | rfl) rfl ?_
    refine R_goto (pc := 18) (t := 2) dX7_findStarts_18 (by decide) ?_
    refine lc7_fsA m (k + 1) _ (upd g3 k (nI 0)) (by omega) ⟨up_n (by omega) hs1, up_n (by omega) hs2, up_n (by omega) hs3, up_s, up_n (by omega) hs5⟩ (fun j hj => ?_) (fun a ha => (up_n (by omega) rfl).trans (hg a ha)) hX
    by_cases e : j = k
    · subst e; exact upd_s
    · rw [upd_n e]; exact hA j (by omega)
theorem c7_findStarts {d n c : Nat} {pe : Nat → Nat} {K : Nat → CdX} {r : Nat} {G g2 : Nat → Int32} {f4 : Nat → Option Nat} {sk o : Nat → Nat} {g3 : Nat → Int32} (hd : DkAt h d n pe K) (hn : n ≤ 40) (hrd : r + 5 ≤ d ∨ d + 84 ≤ r) (hc : c < 24) (ho : ∀ i, i < n → o i < n) (hG : ∀ i, i < n → G i = nI (o i)) (hs : ∀ i, i < n → sk i < 11) (hcol : ∀ i, i < n → (K (pe (o i))).1 c = dgt (sk i)) (hx : SoX h r n G g2 g3 f4) (hX : (∀ (h2 : Nat → Option am_C) (g3 : Nat → Int32), SoX h2 r n G g2 g3 f4 → (∀ j, j < 12 → g3 j = nI (cum sk n j)) → (∀ a, (a < r ∨ r + 5 ≤ a) → h2 a = h a) → Q none (h2, z))) : Rn sA mX7_findStarts 0 [some (.ref r), some (.ref d), some (.int (nI c)), none] [] (h, z) Q := by
  refine R_iconst (pc := 0) (x := nI 0) dX7_findStarts_0 rfl ?_
  refine R_istore_n (pc := 1) dX7_findStarts_1 (Nat.le_of_ble_eq_true rfl) rfl ?_
  refine lc7_fsA (g := h) 12 0 h g3 (by omega) hx (fun j hj => absurd hj (Nat.not_lt_zero _)) (fun _ _ => rfl) (fun h3 t3 q1 q2 q3 => ?_)
  refine R_iconst (pc := 21) (x := nI 0) dX7_findStarts_21 rfl ?_
  refine R_istore_n (pc := 22) dX7_findStarts_22 (Nat.le_of_ble_eq_true rfl) rfl ?_
  refine lc7_fsB (g := h) (sk := sk) hd hn hrd hc ho hG hs hcol n 0 h3 t3 (by omega) q1 (q2 0 (by omega)) (fun j hj => q2 (j + 1) (by omega)) q3 (fun h4 t4 q4 q5 q6 q7 => ?_)
  refine R_iconst (pc := 62) (x := nI 1) dX7_findStarts_62 rfl ?_
  refine R_istore_n (pc := 63) dX7_findStarts_63 (Nat.le_of_ble_eq_true rfl) rfl ?_
  exact lc7_fsC (g := h) (sk := sk) 11 0 h4 t4 (by omega) q4 (fun j hj => by rw [(by omega : j = 0)]; exact q5) (fun j _ j2 => q6 j j2) q7 hX
theorem lc7_pb {d n c : Nat} {pe : Nat → Nat} {K : Nat → CdX} {r : Nat} {G : Nat → Int32} {f4 : Nat → Option Nat} {sk o : Nat → Nat} {g : Nat → Option am_C} (hd : DkAt g d n pe K) (hn : n ≤ 40) (hrd : r + 5 ≤ d ∨ d + 84 ≤ r) (hc : c < 24) (ho : ∀ i, i < n → o i < n) (hG : ∀ i, i < n → G i = nI (o i)) (hs : ∀ i, i < n → sk i < 11) (hcol : ∀ i, i < n → (K (pe (o i))).1 c = dgt (sk i)) : ∀ (m k : Nat) (h : Nat → Option am_C) (g2 g3 : Nat → Int32) (o4 o5 : Option Value) (_ : k + m = n) (_ : SoX h r n G g2 g3 f4) (_ : ∀ j, j < 11 → g3 j = nI (cum sk n j + cnt sk j k)) (_ : ∀ i, i < k → g2 (pos sk n i) = G i) (_ : ∀ a, (a < r ∨ r + 5 ≤ a) → h a = g a) (_ : (∀ (h2 : Nat → Option am_C) (G2 g2 g3 : Nat → Int32), SoX h2 r n G2 g2 g3 f4 → (∀ i, i < n → G2 (pos sk n i) = G i) → (∀ a, (a < r ∨ r + 5 ≤ a) → h2 a = g a) → Q none (h2, z))), Rn sA mX7_passBy 8 [some (.ref r), some (.ref d), some (.int (nI c)), some (.int (nI k)), o4, o5] [] (h, z) Q
  | 0, k, h, g2, g3, o4, o5, hk, hx, hA, hB, hg, hX => by
    have hx9 := hx
    obtain ⟨hs1, hs2, hs3, hs4, hs5⟩ := hx9
    obtain rfl : k = n := by omega
    refine R_iload_n (pc := 8) dX7_passBy_8 rfl ?_
    refine R_aload_n (pc := 9) dX7_passBy_9 rfl ?_
    refine R_getf (pc := 10) dX7_passBy_10 rfl (by repeat (first | assumption | exact up_s | refine up_n (by omega) ?_)) rfl ?_
    refine R_icmp_ge (pc := 13) (t := 83) dX7_passBy_13 (by decide) (fun _ => ?_) (fun hz9 => absurd (nI_le (by omega) (by omega)) hz9)
    refine R_aload_n (pc := 83) dX7_passBy_83 rfl ?_
    refine R_getf (pc := 84) dX7_passBy_84 rfl (by repeat (first | assumption | exact up_s | refine up_n (by omega) ?_)) rfl ?_
    refine R_iconst (pc := 87) (x := nI 0) dX7_passBy_87 rfl ?_
    refine R_aload_n (pc := 88) dX7_passBy_88 rfl ?_
    refine R_getf (pc := 89) dX7_passBy_89 rfl (by repeat (first | assumption | exact up_s | refine up_n (by omega) ?_)) rfl ?_
    refine R_iconst (pc := 92) (x := nI 0) dX7_passBy_92 rfl ?_
    refine R_aload_n (pc := 93) dX7_passBy_93 rfl ?_
    refine R_getf (pc := 94) dX7_passBy_94 rfl (by repeat (first | assumption | exact up_s | refine up_n (by omega) ?_)) rfl ?_
    refine R_copy (pc := 97) dX7_passBy_97 rfl rfl (by repeat (first | assumption | exact up_s | refine up_n (by omega) ?_)) (by repeat (first | assumption | exact up_s | refine up_n (by omega) ?_)) rfl rfl rfl (by omega) (by omega) ⟨Nat.le_of_ble_eq_true rfl, Nat.le_of_ble_eq_true rfl⟩ ?_
    refine R_vret (pc := 100) dX7_passBy_100 rfl ?_
    refine hX _ (va_cpy g2 G 0 0 k) g2 g3 ⟨up_n (by omega) hs1, up_s, up_n (by omega) hs3, up_n (by omega) hs4, up_n (by omega) hs5⟩ (fun i hi => ?_) (fun a ha => (up_n (by omega) rfl).trans (hg a ha))
    have := pos_lt hs hi
    rw [cpy_in (by omega) (by omega), Nat.sub_zero, Nat.zero_add]
    exact hB i hi
  | m + 1, k, h, g2, g3, o4, o5, hk, hx, hA, hB, hg, hX => by
    have hx9 := hx
    obtain ⟨hs1, hs2, hs3, hs4, hs5⟩ := hx9
    have hdx : DkAt h d n pe K := hd.fr (fun x x1 x2 => hg x (by omega))
    have hok := ho k (by omega)
    have hsk := hs k (by omega)
    have hpk := hd.2.2.2 (o k) (by omega)
    have hpos := pos_lt hs (show k < n by omega)
    have ep : g3 (sk k) = nI (pos sk n k) := hA (sk k) hsk
    refine R_iload_n (pc := 8) dX7_passBy_8 rfl ?_
    refine R_aload_n (pc := 9) dX7_passBy_9 rfl ?_
    refine R_getf (pc := 10) dX7_passBy_10 rfl (by repeat (first | assumption | exact up_s | refine up_n (by omega) ?_)) rfl ?_
    refine R_icmp_ge (pc := 13) (t := 83) dX7_passBy_13 (by decide) (fun hz9 => absurd hz9 (nI_ge (by omega) (by omega))) (fun _ => ?_)
    refine R_aload_n (pc := 16) dX7_passBy_16 rfl ?_
    refine R_aload_n (pc := 17) dX7_passBy_17 rfl ?_
    refine R_getf (pc := 18) dX7_passBy_18 rfl (by repeat (first | assumption | exact up_s | refine up_n (by omega) ?_)) rfl ?_
    refine R_iload_n (pc := 21) dX7_passBy_21 rfl ?_
    refine R_iald (pc := 22) dX7_passBy_22 (by repeat (first | assumption | exact up_s | refine up_n (by omega) ?_)) (Or.inl rfl) (by first | with_reducible rfl | (simp only [nI_add, pk_mul]; exact rfl)) (by omega) (by decide) ?_
    refine R_callV (pc := 23) dX7_passBy_23 rfl hdx.1 rfl rfl ?_
    rw [hG k (by omega)]
    refine c1_at hdx (by omega) ?_
    refine R_iload_n (pc := 26) dX7_passBy_26 rfl ?_
    refine R_callS (pc := 27) dX7_passBy_27 rfl (Or.inl rfl) rfl rfl ?_
    refine c7_stackOf (hdx.2.2.1 _ hpk) hc hsk (hcol k (by omega)) ?_
    refine R_istore (pc := 30) dX7_passBy_30 (Nat.le_of_ble_eq_true rfl) rfl ?_
    refine R_aload_n (pc := 32) dX7_passBy_32 rfl ?_
    refine R_getf (pc := 33) dX7_passBy_33 rfl (by repeat (first | assumption | exact up_s | refine up_n (by omega) ?_)) rfl ?_
    refine R_iload (pc := 36) dX7_passBy_36 rfl ?_
    refine R_iald (pc := 38) dX7_passBy_38 hs4 (Or.inl rfl) rfl (by omega) (by decide) ?_
    rw [ep]
    refine R_istore (pc := 39) dX7_passBy_39 (Nat.le_of_ble_eq_true rfl) rfl ?_
    refine R_iload (pc := 41) dX7_passBy_41 rfl ?_
    refine R_if_lt (pc := 43) (t := 66) dX7_passBy_43 (by decide) (fun hz9 => absurd hz9 (nI_pos (by omega))) (fun _ => ?_)
    refine R_iload (pc := 46) dX7_passBy_46 rfl ?_
    refine R_bipush (pc := 48) (x := nI 40) dX7_passBy_48 (by decide) ?_
    refine R_icmp_ge (pc := 50) (t := 66) dX7_passBy_50 (by decide) (fun hz9 => absurd hz9 (nI_ge (by omega) (by omega))) (fun _ => ?_)
    refine R_aload_n (pc := 53) dX7_passBy_53 rfl ?_
    refine R_getf (pc := 54) dX7_passBy_54 rfl (by repeat (first | assumption | exact up_s | refine up_n (by omega) ?_)) rfl ?_
    refine R_iload (pc := 57) dX7_passBy_57 rfl ?_
    refine R_aload_n (pc := 59) dX7_passBy_59 rfl ?_
    refine R_getf (pc := 60) dX7_passBy_60 rfl (by repeat (first | assumption | exact up_s | refine up_n (by omega) ?_)) rfl ?_
    refine R_iload_n (pc := 63) dX7_passBy_63 rfl ?_
    refine R_iald (pc := 64) dX7_passBy_64 (by repeat (first | assumption | exact up_s | refine up_n (by omega) ?_)) (Or.inl rfl) (by first | with_reducible rfl | (simp only [nI_add, pk_mul]; exact rfl)) (by omega) (by decide) ?_
    refine R_iast (pc := 65) dX7_passBy_65 (by repeat (first | assumption | exact up_s | refine up_n (by omega) ?_)) (by first | with_reducible rfl | (simp only [nI_add, pk_mul]; exact rfl)) (by omega) (by decide) ?_
    refine R_aload_n (pc := 66) dX7_passBy_66 rfl ?_
    refine R_getf (pc := 67) dX7_passBy_67 rfl (by repeat (first | assumption | exact up_s | refine up_n (by omega) ?_)) rfl ?_
    refine R_iload (pc := 70) dX7_passBy_70 rfl ?_
    refine R_dup2 (pc := 72) dX7_passBy_72 rfl rfl ?_
    refine R_iald (pc := 73) dX7_passBy_73 (by repeat (first | assumption | exact up_s | refine up_n (by omega) ?_)) (Or.inl rfl) (by first | with_reducible rfl | (simp only [nI_add, pk_mul]; exact rfl)) (by omega) (by decide) ?_
    refine R_iconst (pc := 74) (x := nI 1) dX7_passBy_74 rfl ?_
    refine R_iadd (pc := 75) dX7_passBy_75 ?_
    refine R_iast (pc := 76) dX7_passBy_76 (by repeat (first | assumption | exact up_s | refine up_n (by omega) ?_)) (by first | with_reducible rfl | (simp only [nI_add, pk_mul]; exact rfl)) (by omega) (by decide) ?_
    refine R_iinc (pc := 77) dX7_passBy_77 rfl (by first | exact nI_inc _ | rfl) rfl ?_
    refine R_goto (pc := 80) (t := 8) dX7_passBy_80 (by decide) ?_
    refine lc7_pb hd hn hrd hc ho hG hs hcol m (k + 1) _ (upd g2 (pos sk n k) (G k)) (upd g3 (sk k) (g3 (sk k) + nI 1)) _ _ (by omega) ⟨up_n (by omega) (up_n (by omega) hs1), up_n (by omega) (up_n (by omega) hs2), up_n (by omega) up_s, up_s, up_n (by omega) (up_n (by omega) hs5)⟩ (fun j hj => ?_) (fun i hi => ?_) (fun a ha => (up_n (by omega) (up_n (by omega) rfl)).trans (hg a ha)) hX
    · show _ = nI (cum sk n j + (cnt sk j k + if sk k = j then 1 else 0))
      by_cases e : sk k = j
      · subst e
        rw [upd_s, hA _ (by omega), nI_add, if_pos rfl, Nat.add_assoc]
      · rw [upd_n (fun q => e q.symm), if_neg e]; exact hA j hj
    · by_cases e : i = k
      · subst e; exact upd_s
      · rw [upd_n (fun q => e (pos_inj (by omega) (by omega) q))]; exact hB i (by omega)
theorem c7_passBy {d n c : Nat} {pe : Nat → Nat} {K : Nat → CdX} {r : Nat} {G g2 : Nat → Int32} {f4 : Nat → Option Nat} {sk o : Nat → Nat} {g3 : Nat → Int32} (hd : DkAt h d n pe K) (hn : n ≤ 40) (hrd : r + 5 ≤ d ∨ d + 84 ≤ r) (hc : c < 24) (ho : ∀ i, i < n → o i < n) (hG : ∀ i, i < n → G i = nI (o i)) (hs : ∀ i, i < n → sk i < 11) (hcol : ∀ i, i < n → (K (pe (o i))).1 c = dgt (sk i)) (hx : SoX h r n G g2 g3 f4) (hX : (∀ (h2 : Nat → Option am_C) (G2 g2 g3 : Nat → Int32), SoX h2 r n G2 g2 g3 f4 → (∀ i, i < n → G2 (pos sk n i) = G i) → (∀ a, (a < r ∨ r + 5 ≤ a) → h2 a = h a) → Q none (h2, z))) : Rn sA mX7_passBy 0 [some (.ref r), some (.ref d), some (.int (nI c)), none, none, none] [] (h, z) Q := by
  have hx9 := hx
  obtain ⟨hs1, hs2, hs3, hs4, hs5⟩ := hx9
  refine R_aload_n (pc := 0) dX7_passBy_0 rfl ?_
  refine R_aload_n (pc := 1) dX7_passBy_1 rfl ?_
  refine R_iload_n (pc := 2) dX7_passBy_2 rfl ?_
  refine R_callV (pc := 3) dX7_passBy_3 rfl (by repeat (first | assumption | exact up_s | refine up_n (by omega) ?_)) rfl rfl ?_
  refine c7_findStarts hd hn hrd hc ho hG hs hcol hx (fun h3 t3 q1 q2 q3 => ?_)
  refine R_iconst (pc := 6) (x := nI 0) dX7_passBy_6 rfl ?_
  refine R_istore_n (pc := 7) dX7_passBy_7 (Nat.le_of_ble_eq_true rfl) rfl ?_
  exact lc7_pb (g := h) hd hn hrd hc ho hG hs hcol n 0 h3 g2 t3 none none (by omega) q1 (fun j hj => q2 j (by omega)) (fun i hi => absurd hi (Nat.not_lt_zero _)) q3 hX
theorem nxtO_at {U : Nat → Int32} {n c : Nat} {o : Nat → Nat} (hs : ∀ i, i < n → skF U c (o i) < 11) (i : Nat) (hi : i < n) : ∃ k, k < n ∧ pos (fun k => skF U c (o k)) n k = i ∧ nxtO U n c o i = o k := by
  obtain ⟨k, h1, h2⟩ := pos_surj (sk := fun k => skF U c (o k)) hs hi
  exact ⟨k, h1, h2, by unfold nxtO; rw [← h2, invP_pos h1]⟩
theorem nxtO_inj {U : Nat → Int32} {n c : Nat} {o : Nat → Nat} (hs : ∀ i, i < n → skF U c (o i) < 11) (hi : ∀ i j, i < n → j < n → o i = o j → i = j) : ∀ i j, i < n → j < n → nxtO U n c o i = nxtO U n c o j → i = j := by
  intro i j h1 h2 e
  obtain ⟨a, a1, a2, a3⟩ := nxtO_at hs i h1
  obtain ⟨b, b1, b2, b3⟩ := nxtO_at hs j h2
  rw [a3, b3] at e
  rw [← a2, ← b2, hi a b a1 b1 e]
theorem c7_passO {d n c : Nat} {pe : Nat → Nat} {K : Nat → CdX} {r : Nat} {G g2 g3 : Nat → Int32} {f4 : Nat → Option Nat} {o : Nat → Nat} {U : Nat → Int32} (hd : DkAt h d n pe K) (hR : DkR U n pe K) (hD : DigW U n) (hrd : r + 5 ≤ d ∨ d + 84 ≤ r) (hc : c < 24) (ho : ∀ i, i < n → o i < n) (hG : ∀ i, i < n → G i = nI (o i)) (hx : SoX h r n G g2 g3 f4) (hQ : ∀ (h2 : Nat → Option am_C) (G2 g2 g3 : Nat → Int32), SoX h2 r n G2 g2 g3 f4 → (∀ i, i < n → G2 i = nI (nxtO U n c o i)) → (∀ i, i < n → nxtO U n c o i < n) → (∀ a, (a < r ∨ r + 5 ≤ a) → h2 a = h a) → Q none (h2, z)) : Rn sA mX7_passBy 0 [some (.ref r), some (.ref d), some (.int (nI c)), none, none, none] [] (h, z) Q := by
  have hs : ∀ i, i < n → skF U c (o i) < 11 := fun i hi => (skF_sp hD (ho i hi) hc).1
  refine c7_passBy (sk := fun k => skF U c (o k)) hd hR.2.1 hrd hc ho hG hs (fun i hi => ?_) hx (fun h2 G2 t2 t3 q1 q2 q3 => hQ h2 G2 t2 t3 q1 (fun i hi => ?_) (fun i hi => ?_) q3)
  · rw [(hR.2.2.2 (o i) (ho i hi)).1 c hc]
    exact (skF_sp hD (ho i hi) hc).2
  · obtain ⟨k, k1, k2, k3⟩ := nxtO_at hs i hi
    have := q2 k k1
    rw [k2] at this
    rw [k3, this]
    exact hG k k1
  · obtain ⟨k, k1, k2, k3⟩ := nxtO_at hs i hi
    rw [k3]
    exact ho k k1
end CD0
