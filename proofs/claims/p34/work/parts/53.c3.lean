section CC3
variable {sA : Nat} {h : Nat → Option am_C} {z : Nat × Nat} {Q : Option Value → am_H → Prop}
def CdEq (C D : CdX) : Prop := C.2 = D.2 ∧ ∀ j, j < 24 → C.1 j = D.1 j
def InjP (pe : Nat → Nat) : Prop := ∀ i j, i < 40 → j < 40 → pe i = pe j → i = j
theorem lc1_copy {d e m : Nat} {pe pe2 : Nat → Nat} {K2 : Nat → CdX} {g : Nat → Option am_C} (hm : m ≤ 40) (hde : d + 84 ≤ e ∨ e + 84 ≤ d) (hi : InjP pe) : ∀ (n k : Nat) (h : Nat → Option am_C) (K : Nat → CdX) (_ : k + n = m) (_ : DkAt h d m pe K) (_ : DkAt h e m pe2 K2) (_ : ∀ i, i < k → CdEq (K (pe i)) (K2 (pe2 i))) (_ : ∀ a, (a < d ∨ d + 84 ≤ a) → h a = g a) (_ : (∀ (h2 : Nat → Option am_C) (K3 : Nat → CdX), DkAt h2 d m pe K3 → (∀ i, i < m → CdEq (K3 (pe i)) (K2 (pe2 i))) → (∀ a, (a < d ∨ d + 84 ≤ a) → h2 a = g a) → Q none (h2, z))), Rn sA mX1_copyFrom 10 [some (.ref d), some (.ref e), some (.int (nI k))] [] (h, z) Q
  | 0, k, h, K, hk, hd, he, hK, hg, hX => by
    have hd9 := hd
    obtain ⟨hd1, hd2, hd3, hd4⟩ := hd9
    have he9 := he
    obtain ⟨he1, he2, he3, he4⟩ := he9
    obtain rfl : k = m := by omega
    refine R_iload_n (pc := 10) dX1_copyFrom_10 rfl ?_
    refine R_aload_n (pc := 11) dX1_copyFrom_11 rfl ?_
    refine R_getf (pc := 12) dX1_copyFrom_12 rfl (by repeat (first | assumption | exact up_s | refine up_n (by omega) ?_)) rfl ?_
    refine R_icmp_ge (pc := 15) (t := 37) dX1_copyFrom_15 (by decide) (fun _ => ?_) (fun hz9 => absurd (nI_le (by omega) (by omega)) hz9)
    refine R_vret (pc := 37) dX1_copyFrom_37 rfl ?_
    exact hX h K hd hK hg
  | n + 1, k, h, K, hk, hd, he, hK, hg, hX => by
    have hd9 := hd
    obtain ⟨hd1, hd2, hd3, hd4⟩ := hd9
    have he9 := he
    obtain ⟨he1, he2, he3, he4⟩ := he9
    refine R_iload_n (pc := 10) dX1_copyFrom_10 rfl ?_
    refine R_aload_n (pc := 11) dX1_copyFrom_11 rfl ?_
    refine R_getf (pc := 12) dX1_copyFrom_12 rfl (by repeat (first | assumption | exact up_s | refine up_n (by omega) ?_)) rfl ?_
    refine R_icmp_ge (pc := 15) (t := 37) dX1_copyFrom_15 (by decide) (fun hz9 => absurd hz9 (nI_ge (by omega) (by omega))) (fun _ => ?_)
    refine R_aload_n (pc := 18) dX1_copyFrom_18 rfl ?_
    refine R_iload_n (pc := 19) dX1_copyFrom_19 rfl ?_
    refine R_callV (pc := 20) dX1_copyFrom_20 rfl (by repeat (first | assumption | exact up_s | refine up_n (by omega) ?_)) rfl rfl ?_
    refine c1_at hd (i := k) (by omega) ?_
    refine R_aload_n (pc := 23) dX1_copyFrom_23 rfl ?_
    refine R_iload_n (pc := 24) dX1_copyFrom_24 rfl ?_
    refine R_callV (pc := 25) dX1_copyFrom_25 rfl (by repeat (first | assumption | exact up_s | refine up_n (by omega) ?_)) rfl rfl ?_
    refine c1_at he (i := k) (by omega) ?_
    refine R_callV (pc := 28) dX1_copyFrom_28 rfl (hd3 (pe k) (hd4 k (by omega))).1 rfl rfl ?_
    refine c0_copyFrom (hd3 (pe k) (hd4 k (by omega))) (he3 (pe2 k) (he4 k (by omega))) (by have := hd4 k (by omega); have := he4 k (by omega); omega) (fun h2 C q1 q2 q3 q4 => ?_)
    refine R_iinc (pc := 31) dX1_copyFrom_31 rfl (by first | exact nI_inc _ | rfl) rfl ?_
    refine R_goto (pc := 34) (t := 10) dX1_copyFrom_34 (by decide) ?_
    have hp := hd4 k (by omega)
    refine lc1_copy hm hde hi n (k + 1) h2 (updK K (pe k) C) (by omega) (hd.card (hd4 k (by omega)) q1 q4) (he.fr (fun x x1 x2 => q4 x (by omega) (by omega))) (fun i hi2 => ?_) (fun a ha => (q4 a (by omega) (by omega)).trans (hg a ha)) hX
    by_cases e : i = k
    · subst e; rw [updK_s]; exact ⟨q2, q3⟩
    · rw [updK_n (fun t => e (hi i k (by omega) (by omega) t))]; exact hK i (by omega)
theorem c1_copyFrom {d e n m : Nat} {pe pe2 : Nat → Nat} {K K2 : Nat → CdX} (hd : DkAt h d n pe K) (he : DkAt h e m pe2 K2) (hm : m ≤ 40) (hde : d + 84 ≤ e ∨ e + 84 ≤ d) (hi : InjP pe) (hQ : ∀ (h2 : Nat → Option am_C) (K3 : Nat → CdX), DkAt h2 d m pe K3 → (∀ i, i < m → CdEq (K3 (pe i)) (K2 (pe2 i))) → (∀ a, (a < d ∨ d + 84 ≤ a) → h2 a = h a) → Q none (h2, z)) : Rn sA mX1_copyFrom 0 [some (.ref d), some (.ref e), none] [] (h, z) Q := by
  have hd9 := hd
  obtain ⟨hd1, hd2, hd3, hd4⟩ := hd9
  have he9 := he
  obtain ⟨he1, he2, he3, he4⟩ := he9
  refine R_aload_n (pc := 0) dX1_copyFrom_0 rfl ?_
  refine R_aload_n (pc := 1) dX1_copyFrom_1 rfl ?_
  refine R_getf (pc := 2) dX1_copyFrom_2 rfl (by repeat (first | assumption | exact up_s | refine up_n (by omega) ?_)) rfl ?_
  refine R_putf (pc := 5) dX1_copyFrom_5 rfl (by repeat (first | assumption | exact up_s | refine up_n (by omega) ?_)) rfl (Or.inl rfl) rfl ?_
  refine R_iconst (pc := 8) (x := nI 0) dX1_copyFrom_8 rfl ?_
  refine R_istore_n (pc := 9) dX1_copyFrom_9 (Nat.le_of_ble_eq_true rfl) rfl ?_
  exact lc1_copy (g := h) hm hde hi m 0 _ K (by omega) hd.cnt (he.fr (fun x x1 x2 => up_n (by omega) rfl)) (fun i hi => absurd hi (Nat.not_lt_zero _)) (fun a ha => up_n (by omega) rfl) hQ
/-- a report at r: lines so far, cards that were fed, the limit, the lines' columns, the reasons -/
abbrev RpX := Nat × Nat × Int32 × (Nat → Int32) × (Nat → Int32)
def RpAt (h : Nat → Option am_C) (r : Nat) (R : RpX) : Prop := h r = some (.inr (5, [.ref (r + 1), .ref (r + 2), .int (nI R.1), .int (nI R.2.1), .int R.2.2.1])) ∧ h (r + 1) = some (.inl (0, 1610, .inl R.2.2.2.1)) ∧ h (r + 2) = some (.inl (0, 40, .inl R.2.2.2.2))
theorem RpAt.fr {h h' : Nat → Option am_C} {r : Nat} {R : RpX} (a : RpAt h r R) (e : ∀ x, r ≤ x → x < r + 3 → h' x = h x) : RpAt h' r R := ⟨(e _ (by omega) (by omega)).trans a.1, (e _ (by omega) (by omega)).trans a.2.1, (e _ (by omega) (by omega)).trans a.2.2⟩
def RpEq (R T : RpX) : Prop := R.1 = T.1 ∧ R.2.1 = T.2.1 ∧ R.2.2.1 = T.2.2.1 ∧ (∀ j, j < 10 * T.1 → R.2.2.2.1 j = T.2.2.2.1 j) ∧ ∀ j, j < T.2.1 → R.2.2.2.2 j = T.2.2.2.2 j
theorem c5_copyFrom {r t : Nat} {R T : RpX} (hr : RpAt h r R) (ht : RpAt h t T) (hrt : r + 3 ≤ t ∨ t + 3 ≤ r) (h1 : T.1 ≤ 161) (h2 : T.2.1 ≤ 40) (hQ : ∀ (h2 : Nat → Option am_C) (R2 : RpX), RpAt h2 r R2 → RpEq R2 T → (∀ a, (a < r ∨ r + 3 ≤ a) → h2 a = h a) → Q none (h2, z)) : Rn sA mX5_copyFrom 0 [some (.ref r), some (.ref t)] [] (h, z) Q := by
  obtain ⟨hr1, hr2, hr3⟩ := hr
  obtain ⟨ht1, ht2, ht3⟩ := ht
  refine R_aload_n (pc := 0) dX5_copyFrom_0 rfl ?_
  refine R_aload_n (pc := 1) dX5_copyFrom_1 rfl ?_
  refine R_getf (pc := 2) dX5_copyFrom_2 rfl (by repeat (first | assumption | exact up_s | refine up_n (by omega) ?_)) rfl ?_
  refine R_putf (pc := 5) dX5_copyFrom_5 rfl (by repeat (first | assumption | exact up_s | refine up_n (by omega) ?_)) rfl (Or.inl rfl) rfl ?_
  refine R_aload_n (pc := 8) dX5_copyFrom_8 rfl ?_
  refine R_aload_n (pc := 9) dX5_copyFrom_9 rfl ?_
  refine R_getf (pc := 10) dX5_copyFrom_10 rfl (by repeat (first | assumption | exact up_s | refine up_n (by omega) ?_)) rfl ?_
  refine R_putf (pc := 13) dX5_copyFrom_13 rfl (by repeat (first | assumption | exact up_s | refine up_n (by omega) ?_)) rfl (Or.inl rfl) rfl ?_
  refine R_aload_n (pc := 16) dX5_copyFrom_16 rfl ?_
  refine R_aload_n (pc := 17) dX5_copyFrom_17 rfl ?_
  refine R_getf (pc := 18) dX5_copyFrom_18 rfl (by repeat (first | assumption | exact up_s | refine up_n (by omega) ?_)) rfl ?_
  refine R_putf (pc := 21) dX5_copyFrom_21 rfl (by repeat (first | assumption | exact up_s | refine up_n (by omega) ?_)) rfl (Or.inl rfl) rfl ?_
  refine R_aload_n (pc := 24) dX5_copyFrom_24 rfl ?_
  refine R_getf (pc := 25) dX5_copyFrom_25 rfl (by repeat (first | assumption | exact up_s | refine up_n (by omega) ?_)) rfl ?_
  refine R_iconst (pc := 28) (x := nI 0) dX5_copyFrom_28 rfl ?_
  refine R_aload_n (pc := 29) dX5_copyFrom_29 rfl ?_
  refine R_getf (pc := 30) dX5_copyFrom_30 rfl (by repeat (first | assumption | exact up_s | refine up_n (by omega) ?_)) rfl ?_
  refine R_iconst (pc := 33) (x := nI 0) dX5_copyFrom_33 rfl ?_
  refine R_aload_n (pc := 34) dX5_copyFrom_34 rfl ?_
  refine R_getf (pc := 35) dX5_copyFrom_35 rfl (by repeat (first | assumption | exact up_s | refine up_n (by omega) ?_)) rfl ?_
  refine R_bipush (pc := 38) (x := nI 10) dX5_copyFrom_38 (by decide) ?_
  refine R_imul (pc := 40) dX5_copyFrom_40 ?_
  refine R_copy (pc := 41) dX5_copyFrom_41 rfl rfl (by repeat (first | assumption | exact up_s | refine up_n (by omega) ?_)) (by repeat (first | assumption | exact up_s | refine up_n (by omega) ?_)) rfl rfl (n := T.1 * 10) (by rw [show nI 10 = nI 10 from rfl, pk_mul]) (by omega) (by omega) ⟨Nat.le_of_ble_eq_true rfl, Nat.le_of_ble_eq_true rfl⟩ ?_
  refine R_aload_n (pc := 44) dX5_copyFrom_44 rfl ?_
  refine R_getf (pc := 45) dX5_copyFrom_45 rfl (by repeat (first | assumption | exact up_s | refine up_n (by omega) ?_)) rfl ?_
  refine R_iconst (pc := 48) (x := nI 0) dX5_copyFrom_48 rfl ?_
  refine R_aload_n (pc := 49) dX5_copyFrom_49 rfl ?_
  refine R_getf (pc := 50) dX5_copyFrom_50 rfl (by repeat (first | assumption | exact up_s | refine up_n (by omega) ?_)) rfl ?_
  refine R_iconst (pc := 53) (x := nI 0) dX5_copyFrom_53 rfl ?_
  refine R_aload_n (pc := 54) dX5_copyFrom_54 rfl ?_
  refine R_getf (pc := 55) dX5_copyFrom_55 rfl (by repeat (first | assumption | exact up_s | refine up_n (by omega) ?_)) rfl ?_
  refine R_copy (pc := 58) dX5_copyFrom_58 rfl rfl (by repeat (first | assumption | exact up_s | refine up_n (by omega) ?_)) (by repeat (first | assumption | exact up_s | refine up_n (by omega) ?_)) rfl rfl (n := T.2.1) rfl (by omega) (by omega) ⟨Nat.le_of_ble_eq_true rfl, Nat.le_of_ble_eq_true rfl⟩ ?_
  refine R_vret (pc := 61) dX5_copyFrom_61 rfl ?_
  refine hQ _ (T.1, T.2.1, T.2.2.1, va_cpy T.2.2.2.1 R.2.2.2.1 0 0 (T.1 * 10), va_cpy T.2.2.2.2 R.2.2.2.2 0 0 T.2.1) ⟨up_n (by omega) (up_n (by omega) up_s), up_n (by omega) up_s, up_s⟩ ⟨rfl, rfl, rfl, fun j hj => ?_, fun j hj => ?_⟩ (fun a ha => ?_)
  · show va_cpy _ _ _ _ _ j = _
    rw [cpy_in (by omega) (by omega), Nat.sub_zero, Nat.zero_add]
  · show va_cpy _ _ _ _ _ j = _
    rw [cpy_in (by omega) (by omega), Nat.sub_zero, Nat.zero_add]
  · simp only [va_up]
    repeat rw [if_neg (by omega)]
theorem c5_begin {r : Nat} {R : RpX} {n : Nat} {l : Int32} (hr : RpAt h r R) (hn : n ≤ 40) (hQ : ∀ h2 : Nat → Option am_C, RpAt h2 r (0, n, l, R.2.2.2) → (∀ a, (a < r ∨ r + 3 ≤ a) → h2 a = h a) → Q none (h2, z)) : Rn sA mX5_begin 0 [some (.ref r), some (.int (nI n)), some (.int l)] [] (h, z) Q := by
  obtain ⟨hr1, hr2, hr3⟩ := hr
  refine R_aload_n (pc := 0) dX5_begin_0 rfl ?_
  refine R_iconst (pc := 1) (x := nI 0) dX5_begin_1 rfl ?_
  refine R_putf (pc := 2) dX5_begin_2 rfl (by repeat (first | assumption | exact up_s | refine up_n (by omega) ?_)) rfl (Or.inl rfl) rfl ?_
  refine R_aload_n (pc := 5) dX5_begin_5 rfl ?_
  refine R_iload_n (pc := 6) dX5_begin_6 rfl ?_
  refine R_bipush (pc := 7) (x := nI 40) dX5_begin_7 (by decide) ?_
  refine R_min (pc := 9) dX5_begin_9 rfl rfl ⟨Nat.le_of_ble_eq_true rfl, Nat.le_of_ble_eq_true rfl⟩ ?_
  refine R_putf (pc := 12) dX5_begin_12 rfl (by repeat (first | assumption | exact up_s | refine up_n (by omega) ?_)) rfl (Or.inl rfl) rfl ?_
  refine R_aload_n (pc := 15) dX5_begin_15 rfl ?_
  refine R_iload_n (pc := 16) dX5_begin_16 rfl ?_
  refine R_putf (pc := 17) dX5_begin_17 rfl (by repeat (first | assumption | exact up_s | refine up_n (by omega) ?_)) rfl (Or.inl rfl) rfl ?_
  refine R_vret (pc := 20) dX5_begin_20 rfl ?_
  refine hQ _ ⟨?_, up_n (by omega) (up_n (by omega) (up_n (by omega) hr2)), up_n (by omega) (up_n (by omega) (up_n (by omega) hr3))⟩ (fun a ha => by simp only [va_up]; repeat rw [if_neg (by omega)])
  refine up_s.trans ?_
  by_cases e : nI 40 < nI n
  · exact absurd e (nI_nlt (by omega) (by omega))
  · simp only [if_neg e]
    rfl
theorem c5_hadCard {r : Nat} {R : RpX} {v : Int32} (hr : RpAt h r R) (hn : R.2.1 ≤ 40) (hY : ∀ j, j < R.2.1 → v = nI j → Q (some (.int (nI 1))) (h, z)) (hN : (∀ j, j < R.2.1 → ¬ v = nI j) → Q (some (.int (nI 0))) (h, z)) : Rn sA mX5_hadCard 0 [some (.ref r), some (.int v)] [] (h, z) Q := by
  obtain ⟨hr1, hr2, hr3⟩ := hr
  refine R_iload_n (pc := 0) dX5_hadCard_0 rfl ?_
  refine R_if_lt (pc := 1) (t := 16) dX5_hadCard_1 (by decide) (fun h1 => ?_) (fun h1 => ?_)
  · refine R_iconst (pc := 16) (x := nI 0) dX5_hadCard_16 rfl ?_
    refine R_zret (pc := 17) dX5_hadCard_17 rfl (by decide) ?_
    first
      | exact hN (fun j hj => rg_lt h1 j hj (by omega))
      | exact hN (fun j hj => rg_ge h9 j hj (by omega))
      | (obtain ⟨j, hj, e⟩ := rg_in h1 h9 (by omega); exact hY j hj e)
  · refine R_iload_n (pc := 4) dX5_hadCard_4 rfl ?_
    refine R_aload_n (pc := 5) dX5_hadCard_5 rfl ?_
    refine R_getf (pc := 6) dX5_hadCard_6 rfl (by repeat (first | assumption | exact up_s | refine up_n (by omega) ?_)) rfl ?_
    refine R_icmp_ge (pc := 9) (t := 16) dX5_hadCard_9 (by decide) (fun h9 => ?_) (fun h9 => ?_)
    · refine R_iconst (pc := 16) (x := nI 0) dX5_hadCard_16 rfl ?_
      refine R_zret (pc := 17) dX5_hadCard_17 rfl (by decide) ?_
      first
        | exact hN (fun j hj => rg_lt h1 j hj (by omega))
        | exact hN (fun j hj => rg_ge h9 j hj (by omega))
        | (obtain ⟨j, hj, e⟩ := rg_in h1 h9 (by omega); exact hY j hj e)
    · refine R_iconst (pc := 12) (x := nI 1) dX5_hadCard_12 rfl ?_
      refine R_goto (pc := 13) (t := 17) dX5_hadCard_13 (by decide) ?_
      refine R_zret (pc := 17) dX5_hadCard_17 rfl (by decide) ?_
      first
        | exact hN (fun j hj => rg_lt h1 j hj (by omega))
        | exact hN (fun j hj => rg_ge h9 j hj (by omega))
        | (obtain ⟨j, hj, e⟩ := rg_in h1 h9 (by omega); exact hY j hj e)
theorem c5_has {r : Nat} {R : RpX} {v : Int32} (hr : RpAt h r R) (hn : R.1 ≤ 161) (hY : ∀ j, j < R.1 → v = nI j → Q (some (.int (nI 1))) (h, z)) (hN : (∀ j, j < R.1 → ¬ v = nI j) → Q (some (.int (nI 0))) (h, z)) : Rn sA mX5_has 0 [some (.ref r), some (.int v)] [] (h, z) Q := by
  obtain ⟨hr1, hr2, hr3⟩ := hr
  refine R_iload_n (pc := 0) dX5_has_0 rfl ?_
  refine R_if_lt (pc := 1) (t := 16) dX5_has_1 (by decide) (fun h1 => ?_) (fun h1 => ?_)
  · refine R_iconst (pc := 16) (x := nI 0) dX5_has_16 rfl ?_
    refine R_zret (pc := 17) dX5_has_17 rfl (by decide) ?_
    first
      | exact hN (fun j hj => rg_lt h1 j hj (by omega))
      | exact hN (fun j hj => rg_ge h9 j hj (by omega))
      | (obtain ⟨j, hj, e⟩ := rg_in h1 h9 (by omega); exact hY j hj e)
  · refine R_iload_n (pc := 4) dX5_has_4 rfl ?_
    refine R_aload_n (pc := 5) dX5_has_5 rfl ?_
    refine R_getf (pc := 6) dX5_has_6 rfl (by repeat (first | assumption | exact up_s | refine up_n (by omega) ?_)) rfl ?_
    refine R_icmp_ge (pc := 9) (t := 16) dX5_has_9 (by decide) (fun h9 => ?_) (fun h9 => ?_)
    · refine R_iconst (pc := 16) (x := nI 0) dX5_has_16 rfl ?_
      refine R_zret (pc := 17) dX5_has_17 rfl (by decide) ?_
      first
        | exact hN (fun j hj => rg_lt h1 j hj (by omega))
        | exact hN (fun j hj => rg_ge h9 j hj (by omega))
        | (obtain ⟨j, hj, e⟩ := rg_in h1 h9 (by omega); exact hY j hj e)
    · refine R_iconst (pc := 12) (x := nI 1) dX5_has_12 rfl ?_
      refine R_goto (pc := 13) (t := 17) dX5_has_13 (by decide) ?_
      refine R_zret (pc := 17) dX5_has_17 rfl (by decide) ?_
      first
        | exact hN (fun j hj => rg_lt h1 j hj (by omega))
        | exact hN (fun j hj => rg_ge h9 j hj (by omega))
        | (obtain ⟨j, hj, e⟩ := rg_in h1 h9 (by omega); exact hY j hj e)
theorem c5_reasonOf {r : Nat} {R : RpX} {k : Nat} (hr : RpAt h r R) (hn : R.2.1 ≤ 40) (hk : k < R.2.1) (hQ : Q (some (.int (R.2.2.2.2 k))) (h, z)) : Rn sA mX5_reasonOf 0 [some (.ref r), some (.int (nI k))] [] (h, z) Q := by
  have hr9 := hr
  obtain ⟨hr1, hr2, hr3⟩ := hr9
  refine R_aload_n (pc := 0) dX5_reasonOf_0 rfl ?_
  refine R_iload_n (pc := 1) dX5_reasonOf_1 rfl ?_
  refine R_callV (pc := 2) dX5_reasonOf_2 rfl (by repeat (first | assumption | exact up_s | refine up_n (by omega) ?_)) rfl rfl ?_
  refine c5_hadCard hr hn (fun j hj e => ?_) (fun e => absurd rfl (e k hk))
  · obtain rfl := (nI_eq (by omega) (by omega)).mp e
    refine R_if_eq (pc := 5) (t := 17) dX5_reasonOf_5 (by decide) (fun hz9 => absurd hz9 (by decide)) (fun _ => ?_)
    refine R_aload_n (pc := 8) dX5_reasonOf_8 rfl ?_
    refine R_getf (pc := 9) dX5_reasonOf_9 rfl (by repeat (first | assumption | exact up_s | refine up_n (by omega) ?_)) rfl ?_
    refine R_iload_n (pc := 12) dX5_reasonOf_12 rfl ?_
    refine R_iald (pc := 13) dX5_reasonOf_13 (by repeat (first | assumption | exact up_s | refine up_n (by omega) ?_)) (Or.inl rfl) (by first | with_reducible rfl | (simp only [nI_add, pk_mul]; exact rfl)) (by omega) (by decide) ?_
    refine R_goto (pc := 14) (t := 19) dX5_reasonOf_14 (by decide) ?_
    refine R_iret (pc := 19) dX5_reasonOf_19 rfl ?_
    exact hQ
theorem c5_judge {r : Nat} {R : RpX} {k : Nat} {x : Int32} (hr : RpAt h r R) (hn : R.2.1 ≤ 40) (hk : k < R.2.1) (hQ : ∀ h2 : Nat → Option am_C, RpAt h2 r (R.1, R.2.1, R.2.2.1, R.2.2.2.1, upd R.2.2.2.2 k x) → (∀ a, (a < r ∨ r + 3 ≤ a) → h2 a = h a) → Q none (h2, z)) : Rn sA mX5_judge 0 [some (.ref r), some (.int (nI k)), some (.int x)] [] (h, z) Q := by
  have hr9 := hr
  obtain ⟨hr1, hr2, hr3⟩ := hr9
  refine R_aload_n (pc := 0) dX5_judge_0 rfl ?_
  refine R_iload_n (pc := 1) dX5_judge_1 rfl ?_
  refine R_callV (pc := 2) dX5_judge_2 rfl (by repeat (first | assumption | exact up_s | refine up_n (by omega) ?_)) rfl rfl ?_
  refine c5_hadCard hr hn (fun j hj e => ?_) (fun e => absurd rfl (e k hk))
  · obtain rfl := (nI_eq (by omega) (by omega)).mp e
    refine R_if_eq (pc := 5) (t := 15) dX5_judge_5 (by decide) (fun hz9 => absurd hz9 (by decide)) (fun _ => ?_)
    refine R_aload_n (pc := 8) dX5_judge_8 rfl ?_
    refine R_getf (pc := 9) dX5_judge_9 rfl (by repeat (first | assumption | exact up_s | refine up_n (by omega) ?_)) rfl ?_
    refine R_iload_n (pc := 12) dX5_judge_12 rfl ?_
    refine R_iload_n (pc := 13) dX5_judge_13 rfl ?_
    refine R_iast (pc := 14) dX5_judge_14 (by repeat (first | assumption | exact up_s | refine up_n (by omega) ?_)) (by first | with_reducible rfl | (simp only [nI_add, pk_mul]; exact rfl)) (by omega) (by decide) ?_
    refine R_vret (pc := 15) dX5_judge_15 rfl ?_
    exact hQ _ ⟨up_n (by omega) hr1, up_n (by omega) hr2, up_s⟩ (fun a ha => up_n (by omega) rfl)
theorem c5_isEmpty {r : Nat} {R : RpX} (hr : RpAt h r R) (hn : R.1 ≤ 161) (hY : R.1 = 0 → Q (some (.int (nI 1))) (h, z)) (hN : ¬ R.1 = 0 → Q (some (.int (nI 0))) (h, z)) : Rn sA mX5_isEmpty 0 [some (.ref r)] [] (h, z) Q := by
  obtain ⟨hr1, hr2, hr3⟩ := hr
  refine R_aload_n (pc := 0) dX5_isEmpty_0 rfl ?_
  refine R_getf (pc := 1) dX5_isEmpty_1 rfl (by repeat (first | assumption | exact up_s | refine up_n (by omega) ?_)) rfl ?_
  refine R_if_ne (pc := 4) (t := 11) dX5_isEmpty_4 (by decide) (fun h4 => ?_) (fun h4 => ?_)
  · refine R_iconst (pc := 11) (x := nI 0) dX5_isEmpty_11 rfl ?_
    refine R_zret (pc := 12) dX5_isEmpty_12 rfl (by decide) ?_
    first
      | exact hY ((nI_eq (b := 0) (by omega) (by omega)).mp h4)
      | exact hN (fun e => h4 (by rw [e]; rfl))
  · refine R_iconst (pc := 7) (x := nI 1) dX5_isEmpty_7 rfl ?_
    refine R_goto (pc := 8) (t := 12) dX5_isEmpty_8 (by decide) ?_
    refine R_zret (pc := 12) dX5_isEmpty_12 rfl (by decide) ?_
    first
      | exact hY ((nI_eq (b := 0) (by omega) (by omega)).mp h4)
      | exact hN (fun e => h4 (by rw [e]; rfl))
theorem c5_number {r : Nat} {R : RpX} {k c : Nat} (hr : RpAt h r R) (hn : R.1 ≤ 161) (hk : k < R.1) (hc : c < 10) (hQ : Q (some (.int (R.2.2.2.1 (k * 10 + c)))) (h, z)) : Rn sA mX5_number 0 [some (.ref r), some (.int (nI k)), some (.int (nI c))] [] (h, z) Q := by
  have hr9 := hr
  obtain ⟨hr1, hr2, hr3⟩ := hr9
  refine R_aload_n (pc := 0) dX5_number_0 rfl ?_
  refine R_iload_n (pc := 1) dX5_number_1 rfl ?_
  refine R_callV (pc := 2) dX5_number_2 rfl (by repeat (first | assumption | exact up_s | refine up_n (by omega) ?_)) rfl rfl ?_
  refine c5_has hr hn (fun j hj e => ?_) (fun e => absurd rfl (e k hk))
  · obtain rfl := (nI_eq (by omega) (by omega)).mp e
    refine R_if_eq (pc := 5) (t := 32) dX5_number_5 (by decide) (fun hz9 => absurd hz9 (by decide)) (fun _ => ?_)
    refine R_iload_n (pc := 8) dX5_number_8 rfl ?_
    refine R_iconst (pc := 9) (x := nI 0) dX5_number_9 rfl ?_
    refine R_bipush (pc := 10) (x := nI 9) dX5_number_10 (by decide) ?_
    refine R_callS (pc := 12) dX5_number_12 rfl (Or.inr rfl) rfl rfl ?_
    refine c_inG (a := 0) (b := 9) rfl (by decide) (by omega) (by omega) (fun j2 hj0 hj2 e2 => ?_) (fun e2 => absurd rfl (e2 c (Nat.zero_le _) (by omega)))
    · obtain rfl := (nI_eq (by omega) (by omega)).mp e2
      refine R_if_eq (pc := 15) (t := 32) dX5_number_15 (by decide) (fun hz9 => absurd hz9 (by decide)) (fun _ => ?_)
      refine R_aload_n (pc := 18) dX5_number_18 rfl ?_
      refine R_getf (pc := 19) dX5_number_19 rfl (by repeat (first | assumption | exact up_s | refine up_n (by omega) ?_)) rfl ?_
      refine R_iload_n (pc := 22) dX5_number_22 rfl ?_
      refine R_bipush (pc := 23) (x := nI 10) dX5_number_23 (by decide) ?_
      refine R_imul (pc := 25) dX5_number_25 ?_
      refine R_iload_n (pc := 26) dX5_number_26 rfl ?_
      refine R_iadd (pc := 27) dX5_number_27 ?_
      refine R_iald (pc := 28) dX5_number_28 (by repeat (first | assumption | exact up_s | refine up_n (by omega) ?_)) (Or.inl rfl) (by simp only [pk_mul, nI_add]; exact rfl) (by omega) (by decide) ?_
      refine R_goto (pc := 29) (t := 33) dX5_number_29 (by decide) ?_
      refine R_iret (pc := 33) dX5_number_33 rfl ?_
      exact hQ
theorem c5_number0 {r : Nat} {R : RpX} {v : Int32} {c : Nat} (hr : RpAt h r R) (hn : R.1 ≤ 161) (hk : ∀ j, j < R.1 → ¬ v = nI j) (hQ : Q (some (.int (nI 0))) (h, z)) : Rn sA mX5_number 0 [some (.ref r), some (.int v), some (.int (nI c))] [] (h, z) Q := by
  have hr9 := hr
  obtain ⟨hr1, hr2, hr3⟩ := hr9
  refine R_aload_n (pc := 0) dX5_number_0 rfl ?_
  refine R_iload_n (pc := 1) dX5_number_1 rfl ?_
  refine R_callV (pc := 2) dX5_number_2 rfl (by repeat (first | assumption | exact up_s | refine up_n (by omega) ?_)) rfl rfl ?_
  refine c5_has hr hn (fun j hj e => absurd e (hk j hj)) (fun e => ?_)
  · refine R_if_eq (pc := 5) (t := 32) dX5_number_5 (by decide) (fun _ => ?_) (fun hz9 => absurd hz9 (by decide))
    refine R_iconst (pc := 32) (x := nI 0) dX5_number_32 rfl ?_
    refine R_iret (pc := 33) dX5_number_33 rfl ?_
    exact hQ
theorem c5_lastLine {r : Nat} {R : RpX} {c k : Nat} (hr : RpAt h r R) (hn : R.1 ≤ 161) (hk : R.1 = k + 1) (hc : c < 10) (hQ : Q (some (.int (R.2.2.2.1 (k * 10 + c)))) (h, z)) : Rn sA mX5_lastLine 0 [some (.ref r), some (.int (nI c))] [] (h, z) Q := by
  have hr9 := hr
  obtain ⟨hr1, hr2, hr3⟩ := hr9
  refine R_aload_n (pc := 0) dX5_lastLine_0 rfl ?_
  refine R_aload_n (pc := 1) dX5_lastLine_1 rfl ?_
  refine R_getf (pc := 2) dX5_lastLine_2 rfl (by repeat (first | assumption | exact up_s | refine up_n (by omega) ?_)) rfl ?_
  refine R_iconst (pc := 5) (x := nI 1) dX5_lastLine_5 rfl ?_
  refine R_isub (pc := 6) dX5_lastLine_6 ?_
  refine R_iload_n (pc := 7) dX5_lastLine_7 rfl ?_
  refine R_callV (pc := 8) dX5_lastLine_8 rfl (by repeat (first | assumption | exact up_s | refine up_n (by omega) ?_)) rfl rfl ?_
  rw [hk, pk_sub (show 1 ≤ k + 1 by omega), Nat.add_sub_cancel]
  refine c5_number hr hn (by omega) hc ?_
  refine R_iret (pc := 11) dX5_lastLine_11 rfl ?_
  exact hQ
theorem c5_lastLine0 {r : Nat} {R : RpX} {c : Nat} (hr : RpAt h r R) (hk : R.1 = 0) (hQ : Q (some (.int (nI 0))) (h, z)) : Rn sA mX5_lastLine 0 [some (.ref r), some (.int (nI c))] [] (h, z) Q := by
  have hr9 := hr
  obtain ⟨hr1, hr2, hr3⟩ := hr9
  refine R_aload_n (pc := 0) dX5_lastLine_0 rfl ?_
  refine R_aload_n (pc := 1) dX5_lastLine_1 rfl ?_
  refine R_getf (pc := 2) dX5_lastLine_2 rfl (by repeat (first | assumption | exact up_s | refine up_n (by omega) ?_)) rfl ?_
  refine R_iconst (pc := 5) (x := nI 1) dX5_lastLine_5 rfl ?_
  refine R_isub (pc := 6) dX5_lastLine_6 ?_
  refine R_iload_n (pc := 7) dX5_lastLine_7 rfl ?_
  refine R_callV (pc := 8) dX5_lastLine_8 rfl (by repeat (first | assumption | exact up_s | refine up_n (by omega) ?_)) rfl rfl ?_
  refine c5_number0 hr (by omega) (fun j hj => absurd hj (by omega)) ?_
  refine R_iret (pc := 11) dX5_lastLine_11 rfl ?_
  exact hQ
end CC3
