section CC0
variable {sA : Nat} {h : Nat → Option am_C} {z : Nat × Nat} {Q : Option Value → am_H → Prop}
/-- a card at c: its columns, how it is fed, its torn column -/
abbrev CdX := (Nat → Int32) × Int32 × Int32
def CdAt (h : Nat → Option am_C) (c : Nat) (C : CdX) : Prop := h c = some (.inr (0, [.ref (c + 1), .int C.2.1, .int C.2.2])) ∧ h (c + 1) = some (.inl (0, 24, .inl C.1))
theorem CdAt.fr {h h' : Nat → Option am_C} {c : Nat} {C : CdX} (a : CdAt h c C) (e : ∀ x, c ≤ x → x < c + 2 → h' x = h x) : CdAt h' c C := ⟨(e c (by omega) (by omega)).trans a.1, (e (c + 1) (by omega) (by omega)).trans a.2⟩
/-- a range check, by its halves -/
theorem rg_lt {v : Int32} {n : Nat} (h : v < 0) (j : Nat) (hj : j < n) (hn : n < 100000) : ¬ v = nI j := fun e => nI_pos (n := j) (by omega) (by rw [← e]; exact h)
theorem rg_ge {v : Int32} {n : Nat} (h : nI n ≤ v) (j : Nat) (hj : j < n) (hn : n < 100000) : ¬ v = nI j := fun e => nI_ge hj (by omega) (by rw [← e]; exact h)
theorem rg_in {v : Int32} {n : Nat} (h1 : ¬ v < 0) (h2 : ¬ nI n ≤ v) (hn : n < 100000) : ∃ j, j < n ∧ v = nI j := by
  rcases pk_ix v (n := n) (by omega) with q | q | q
  · exact absurd q h1
  · exact absurd q h2
  · exact q
theorem c_isField {v : Int32} (hY : ∀ j, j < 6 → v = nI j → Q (some (.int (nI 1))) (h, z)) (hN : (∀ j, j < 6 → ¬ v = nI j) → Q (some (.int (nI 0))) (h, z)) : Rn sA mX11_isField 0 [some (.int v)] [] (h, z) Q := by
  refine R_iload_n (pc := 0) dX11_isField_0 rfl ?_
  refine R_if_lt (pc := 1) (t := 14) dX11_isField_1 (by decide) (fun h1 => ?_) (fun h1 => ?_)
  · refine R_iconst (pc := 14) (x := nI 0) dX11_isField_14 rfl ?_
    refine R_zret (pc := 15) dX11_isField_15 rfl (by decide) ?_
    first
      | exact hN (fun j hj => rg_lt h1 j hj (by omega))
      | exact hN (fun j hj => rg_ge h7 j hj (by omega))
      | (obtain ⟨j, hj, e⟩ := rg_in h1 h7 (by omega); exact hY j hj e)
  · refine R_iload_n (pc := 4) dX11_isField_4 rfl ?_
    refine R_bipush (pc := 5) (x := nI 6) dX11_isField_5 (by decide) ?_
    refine R_icmp_ge (pc := 7) (t := 14) dX11_isField_7 (by decide) (fun h7 => ?_) (fun h7 => ?_)
    · refine R_iconst (pc := 14) (x := nI 0) dX11_isField_14 rfl ?_
      refine R_zret (pc := 15) dX11_isField_15 rfl (by decide) ?_
      first
        | exact hN (fun j hj => rg_lt h1 j hj (by omega))
        | exact hN (fun j hj => rg_ge h7 j hj (by omega))
        | (obtain ⟨j, hj, e⟩ := rg_in h1 h7 (by omega); exact hY j hj e)
    · refine R_iconst (pc := 10) (x := nI 1) dX11_isField_10 rfl ?_
      refine R_goto (pc := 11) (t := 15) dX11_isField_11 (by decide) ?_
      refine R_zret (pc := 15) dX11_isField_15 rfl (by decide) ?_
      first
        | exact hN (fun j hj => rg_lt h1 j hj (by omega))
        | exact hN (fun j hj => rg_ge h7 j hj (by omega))
        | (obtain ⟨j, hj, e⟩ := rg_in h1 h7 (by omega); exact hY j hj e)
theorem c_isColumn {v : Int32} (hY : ∀ j, j < 24 → v = nI j → Q (some (.int (nI 1))) (h, z)) (hN : (∀ j, j < 24 → ¬ v = nI j) → Q (some (.int (nI 0))) (h, z)) : Rn sA mX11_isColumn 0 [some (.int v)] [] (h, z) Q := by
  refine R_iload_n (pc := 0) dX11_isColumn_0 rfl ?_
  refine R_if_lt (pc := 1) (t := 14) dX11_isColumn_1 (by decide) (fun h1 => ?_) (fun h1 => ?_)
  · refine R_iconst (pc := 14) (x := nI 0) dX11_isColumn_14 rfl ?_
    refine R_zret (pc := 15) dX11_isColumn_15 rfl (by decide) ?_
    first
      | exact hN (fun j hj => rg_lt h1 j hj (by omega))
      | exact hN (fun j hj => rg_ge h7 j hj (by omega))
      | (obtain ⟨j, hj, e⟩ := rg_in h1 h7 (by omega); exact hY j hj e)
  · refine R_iload_n (pc := 4) dX11_isColumn_4 rfl ?_
    refine R_bipush (pc := 5) (x := nI 24) dX11_isColumn_5 (by decide) ?_
    refine R_icmp_ge (pc := 7) (t := 14) dX11_isColumn_7 (by decide) (fun h7 => ?_) (fun h7 => ?_)
    · refine R_iconst (pc := 14) (x := nI 0) dX11_isColumn_14 rfl ?_
      refine R_zret (pc := 15) dX11_isColumn_15 rfl (by decide) ?_
      first
        | exact hN (fun j hj => rg_lt h1 j hj (by omega))
        | exact hN (fun j hj => rg_ge h7 j hj (by omega))
        | (obtain ⟨j, hj, e⟩ := rg_in h1 h7 (by omega); exact hY j hj e)
    · refine R_iconst (pc := 10) (x := nI 1) dX11_isColumn_10 rfl ?_
      refine R_goto (pc := 11) (t := 15) dX11_isColumn_11 (by decide) ?_
      refine R_zret (pc := 15) dX11_isColumn_15 rfl (by decide) ?_
      first
        | exact hN (fun j hj => rg_lt h1 j hj (by omega))
        | exact hN (fun j hj => rg_ge h7 j hj (by omega))
        | (obtain ⟨j, hj, e⟩ := rg_in h1 h7 (by omega); exact hY j hj e)
theorem c_isControl {v : Int32} (hY : ∀ j, j < 3 → v = nI j → Q (some (.int (nI 1))) (h, z)) (hN : (∀ j, j < 3 → ¬ v = nI j) → Q (some (.int (nI 0))) (h, z)) : Rn sA mX11_isControl 0 [some (.int v)] [] (h, z) Q := by
  refine R_iload_n (pc := 0) dX11_isControl_0 rfl ?_
  refine R_if_lt (pc := 1) (t := 13) dX11_isControl_1 (by decide) (fun h1 => ?_) (fun h1 => ?_)
  · refine R_iconst (pc := 13) (x := nI 0) dX11_isControl_13 rfl ?_
    refine R_zret (pc := 14) dX11_isControl_14 rfl (by decide) ?_
    first
      | exact hN (fun j hj => rg_lt h1 j hj (by omega))
      | exact hN (fun j hj => rg_ge h6 j hj (by omega))
      | (obtain ⟨j, hj, e⟩ := rg_in h1 h6 (by omega); exact hY j hj e)
  · refine R_iload_n (pc := 4) dX11_isControl_4 rfl ?_
    refine R_iconst (pc := 5) (x := nI 3) dX11_isControl_5 rfl ?_
    refine R_icmp_ge (pc := 6) (t := 13) dX11_isControl_6 (by decide) (fun h6 => ?_) (fun h6 => ?_)
    · refine R_iconst (pc := 13) (x := nI 0) dX11_isControl_13 rfl ?_
      refine R_zret (pc := 14) dX11_isControl_14 rfl (by decide) ?_
      first
        | exact hN (fun j hj => rg_lt h1 j hj (by omega))
        | exact hN (fun j hj => rg_ge h6 j hj (by omega))
        | (obtain ⟨j, hj, e⟩ := rg_in h1 h6 (by omega); exact hY j hj e)
    · refine R_iconst (pc := 9) (x := nI 1) dX11_isControl_9 rfl ?_
      refine R_goto (pc := 10) (t := 14) dX11_isControl_10 (by decide) ?_
      refine R_zret (pc := 14) dX11_isControl_14 rfl (by decide) ?_
      first
        | exact hN (fun j hj => rg_lt h1 j hj (by omega))
        | exact hN (fun j hj => rg_ge h6 j hj (by omega))
        | (obtain ⟨j, hj, e⟩ := rg_in h1 h6 (by omega); exact hY j hj e)
theorem c_isSetting {v : Int32} {g : Nat → Int32} (hs : h sA = some (.inl (9, 4, .inl g))) (hY : ∀ j, j < 4 → v = nI j → Q (some (.int (nI 1))) (h, z)) (hN : (∀ j, j < 4 → ¬ v = nI j) → Q (some (.int (nI 0))) (h, z)) : Rn sA mX11_isSetting 0 [some (.int v)] [] (h, z) Q := by
  refine R_iload_n (pc := 0) dX11_isSetting_0 rfl ?_
  refine R_if_lt (pc := 1) (t := 16) dX11_isSetting_1 (by decide) (fun h1 => ?_) (fun h1 => ?_)
  · refine R_iconst (pc := 16) (x := nI 0) dX11_isSetting_16 rfl ?_
    refine R_zret (pc := 17) dX11_isSetting_17 rfl (by decide) ?_
    first
      | exact hN (fun j hj => rg_lt h1 j hj (by omega))
      | exact hN (fun j hj => rg_ge h9 j hj (by omega))
      | (obtain ⟨j, hj, e⟩ := rg_in h1 h9 (by omega); exact hY j hj e)
  · refine R_iload_n (pc := 4) dX11_isSetting_4 rfl ?_
    refine R_gets (pc := 5) dX11_isSetting_5 rfl ?_
    refine R_alen (pc := 8) dX11_isSetting_8 hs (Or.inr rfl) ?_
    refine R_icmp_ge (pc := 9) (t := 16) dX11_isSetting_9 (by decide) (fun h9 => ?_) (fun h9 => ?_)
    · refine R_iconst (pc := 16) (x := nI 0) dX11_isSetting_16 rfl ?_
      refine R_zret (pc := 17) dX11_isSetting_17 rfl (by decide) ?_
      first
        | exact hN (fun j hj => rg_lt h1 j hj (by omega))
        | exact hN (fun j hj => rg_ge h9 j hj (by omega))
        | (obtain ⟨j, hj, e⟩ := rg_in h1 h9 (by omega); exact hY j hj e)
    · refine R_iconst (pc := 12) (x := nI 1) dX11_isSetting_12 rfl ?_
      refine R_goto (pc := 13) (t := 17) dX11_isSetting_13 (by decide) ?_
      refine R_zret (pc := 17) dX11_isSetting_17 rfl (by decide) ?_
      first
        | exact hN (fun j hj => rg_lt h1 j hj (by omega))
        | exact hN (fun j hj => rg_ge h9 j hj (by omega))
        | (obtain ⟨j, hj, e⟩ := rg_in h1 h9 (by omega); exact hY j hj e)
theorem c_isWithin {v lo hi : Int32} (h1 : lo ≤ v → v ≤ hi → Q (some (.int (nI 1))) (h, z)) (h0 : ¬ (lo ≤ v ∧ v ≤ hi) → Q (some (.int (nI 0))) (h, z)) : Rn sA mX11_isWithin 0 [some (.int v), some (.int lo), some (.int hi)] [] (h, z) Q := by
  refine R_iload_n (pc := 0) dX11_isWithin_0 rfl ?_
  refine R_iload_n (pc := 1) dX11_isWithin_1 rfl ?_
  refine R_icmp_lt (pc := 2) (t := 14) dX11_isWithin_2 (by decide) (fun h2 => ?_) (fun h2 => ?_)
  · refine R_iconst (pc := 14) (x := nI 0) dX11_isWithin_14 rfl ?_
    refine R_zret (pc := 15) dX11_isWithin_15 rfl (by decide) ?_
    first | exact h1 (Int32.not_lt.mp h2) (Int32.not_lt.mp h7) | exact h0 (fun q => absurd q.1 (Int32.not_le.mpr h2)) | exact h0 (fun q => absurd q.2 (Int32.not_le.mpr h7))
  · refine R_iload_n (pc := 5) dX11_isWithin_5 rfl ?_
    refine R_iload_n (pc := 6) dX11_isWithin_6 rfl ?_
    refine R_icmp_gt (pc := 7) (t := 14) dX11_isWithin_7 (by decide) (fun h7 => ?_) (fun h7 => ?_)
    · refine R_iconst (pc := 14) (x := nI 0) dX11_isWithin_14 rfl ?_
      refine R_zret (pc := 15) dX11_isWithin_15 rfl (by decide) ?_
      first | exact h1 (Int32.not_lt.mp h2) (Int32.not_lt.mp h7) | exact h0 (fun q => absurd q.1 (Int32.not_le.mpr h2)) | exact h0 (fun q => absurd q.2 (Int32.not_le.mpr h7))
    · refine R_iconst (pc := 10) (x := nI 1) dX11_isWithin_10 rfl ?_
      refine R_goto (pc := 11) (t := 15) dX11_isWithin_11 (by decide) ?_
      refine R_zret (pc := 15) dX11_isWithin_15 rfl (by decide) ?_
      first | exact h1 (Int32.not_lt.mp h2) (Int32.not_lt.mp h7) | exact h0 (fun q => absurd q.1 (Int32.not_le.mpr h2)) | exact h0 (fun q => absurd q.2 (Int32.not_le.mpr h7))
theorem c_inG {v lo hi : Int32} {a b : Nat} (hlo : lo = nI a) (hhi : hi = nI b) (ha : a ≤ b) (hb : b < 2 ^ 30) (h1 : ∀ j, a ≤ j → j ≤ b → v = nI j → Q (some (.int (nI 1))) (h, z)) (h0 : (∀ j, a ≤ j → j ≤ b → ¬ v = nI j) → Q (some (.int (nI 0))) (h, z)) : Rn sA mX11_isWithin 0 [some (.int v), some (.int lo), some (.int hi)] [] (h, z) Q := by
  subst hlo
  subst hhi
  refine c_isWithin (fun p q => ?_) (fun p => ?_)
  · obtain ⟨j, q1, q2, q3⟩ := (ix_inG v ha hb).mp ⟨p, q⟩
    exact h1 j q1 q2 q3
  · exact h0 (fun j q1 q2 q3 => p ((ix_inG v ha hb).mpr ⟨j, q1, q2, q3⟩))
theorem c0_shows {c k : Nat} {C : CdX} (hc : CdAt h c C) (hk : k < 24) (hQ : Q (some (.int (C.1 k))) (h, z)) : Rn sA mX0_shows 0 [some (.ref c), some (.int (nI k))] [] (h, z) Q := by
  obtain ⟨hc1, hc2⟩ := hc
  refine R_iload_n (pc := 0) dX0_shows_0 rfl ?_
  refine R_callS (pc := 1) dX0_shows_1 rfl (Or.inr rfl) rfl rfl ?_
  refine c_isColumn (fun j hj e => ?_) (fun e => absurd rfl (e k hk))
  · obtain rfl := (nI_eq (by omega) (by omega)).mp e
    refine R_if_eq (pc := 4) (t := 16) dX0_shows_4 (by decide) (fun hz9 => absurd hz9 (by decide)) (fun _ => ?_)
    refine R_aload_n (pc := 7) dX0_shows_7 rfl ?_
    refine R_getf (pc := 8) dX0_shows_8 rfl (by repeat (first | assumption | exact up_s | refine up_n (by omega) ?_)) rfl ?_
    refine R_iload_n (pc := 11) dX0_shows_11 rfl ?_
    refine R_iald (pc := 12) dX0_shows_12 (by repeat (first | assumption | exact up_s | refine up_n (by omega) ?_)) (Or.inl rfl) (by first | with_reducible rfl | (simp only [nI_add, pk_mul]; exact rfl)) (by omega) (by decide) ?_
    refine R_goto (pc := 13) (t := 18) dX0_shows_13 (by decide) ?_
    refine R_iret (pc := 18) dX0_shows_18 rfl ?_
    exact hQ
theorem c0_show {c k : Nat} {C : CdX} {d : Int32} (hc : CdAt h c C) (hk : k < 24) (hQ : ∀ h2 : Nat → Option am_C, CdAt h2 c (upd C.1 k d, C.2) → (∀ a, ¬ a = c + 1 → h2 a = h a) → Q none (h2, z)) : Rn sA mX0_show 0 [some (.ref c), some (.int (nI k)), some (.int d)] [] (h, z) Q := by
  obtain ⟨hc1, hc2⟩ := hc
  refine R_iload_n (pc := 0) dX0_show_0 rfl ?_
  refine R_callS (pc := 1) dX0_show_1 rfl (Or.inr rfl) rfl rfl ?_
  refine c_isColumn (fun j hj e => ?_) (fun e => absurd rfl (e k hk))
  · obtain rfl := (nI_eq (by omega) (by omega)).mp e
    refine R_if_eq (pc := 4) (t := 14) dX0_show_4 (by decide) (fun hz9 => absurd hz9 (by decide)) (fun _ => ?_)
    refine R_aload_n (pc := 7) dX0_show_7 rfl ?_
    refine R_getf (pc := 8) dX0_show_8 rfl (by repeat (first | assumption | exact up_s | refine up_n (by omega) ?_)) rfl ?_
    refine R_iload_n (pc := 11) dX0_show_11 rfl ?_
    refine R_iload_n (pc := 12) dX0_show_12 rfl ?_
    refine R_iast (pc := 13) dX0_show_13 (by repeat (first | assumption | exact up_s | refine up_n (by omega) ?_)) (by first | with_reducible rfl | (simp only [nI_add, pk_mul]; exact rfl)) (by omega) (by decide) ?_
    refine R_vret (pc := 14) dX0_show_14 rfl ?_
    exact hQ _ ⟨up_n (by omega) hc1, up_s⟩ (fun a ha => up_n ha rfl)
theorem lc0_clear {c : Nat}  : ∀ (n k : Nat) (h : Nat → Option am_C) (C : CdX) (_ : k + n = 24) (_ : CdAt h c C) (_ : ∀ j, j < k → C.1 j = (-1000009)) (_ : ∀ (h2 : Nat → Option am_C) (C2 : CdX), CdAt h2 c C2 → C2.2 = (nI 0, nI 0) → (∀ j, j < 24 → C2.1 j = (-1000009)) → (∀ a, ¬ a = c → ¬ a = c + 1 → h2 a = h a) → Q none (h2, z)), Rn sA mX0_clear 2 [some (.ref c), some (.int (nI k))] [] (h, z) Q
  | 0, k, h, C, hk, hc, hj, hQ => by
    obtain ⟨hc1, hc2⟩ := hc
    obtain rfl : k = 24 := by omega
    refine R_iload_n (pc := 2) dX0_clear_2 rfl ?_
    refine R_bipush (pc := 3) (x := nI 24) dX0_clear_3 (by decide) ?_
    refine R_icmp_ge (pc := 5) (t := 22) dX0_clear_5 (by decide) (fun _ => ?_) (fun hz9 => absurd (nI_le (by omega) (by omega)) hz9)
    refine R_aload_n (pc := 22) dX0_clear_22 rfl ?_
    refine R_iconst (pc := 23) (x := nI 0) dX0_clear_23 rfl ?_
    refine R_putf (pc := 24) dX0_clear_24 rfl (by repeat (first | assumption | exact up_s | refine up_n (by omega) ?_)) rfl (Or.inl rfl) rfl ?_
    refine R_aload_n (pc := 27) dX0_clear_27 rfl ?_
    refine R_iconst (pc := 28) (x := nI 0) dX0_clear_28 rfl ?_
    refine R_putf (pc := 29) dX0_clear_29 rfl (by repeat (first | assumption | exact up_s | refine up_n (by omega) ?_)) rfl (Or.inl rfl) rfl ?_
    refine R_vret (pc := 32) dX0_clear_32 rfl ?_
    exact hQ _ (C.1, nI 0, nI 0) ⟨up_s, up_n (by omega) (up_n (by omega) hc2)⟩ rfl hj (fun a a1 a2 => up_n a1 (up_n a1 rfl))
  | n + 1, k, h, C, hk, hc, hj, hQ => by
    obtain ⟨hc1, hc2⟩ := hc
    refine R_iload_n (pc := 2) dX0_clear_2 rfl ?_
    refine R_bipush (pc := 3) (x := nI 24) dX0_clear_3 (by decide) ?_
    refine R_icmp_ge (pc := 5) (t := 22) dX0_clear_5 (by decide) (fun hz9 => absurd hz9 (nI_ge (by omega) (by omega))) (fun _ => ?_)
    refine R_aload_n (pc := 8) dX0_clear_8 rfl ?_
    refine R_getf (pc := 9) dX0_clear_9 rfl (by repeat (first | assumption | exact up_s | refine up_n (by omega) ?_)) rfl ?_
    refine R_iload_n (pc := 12) dX0_clear_12 rfl ?_
    refine R_ldc (pc := 13) (x := (-1000009)) dX0_clear_13 rfl ?_
    refine R_iast (pc := 15) dX0_clear_15 (by repeat (first | assumption | exact up_s | refine up_n (by omega) ?_)) (by first | with_reducible rfl | (simp only [nI_add, pk_mul]; exact rfl)) (by omega) (by decide) ?_
    refine R_iinc (pc := 16) dX0_clear_16 rfl (by first | exact nI_inc _ | rfl) rfl ?_
    refine R_goto (pc := 19) (t := 2) dX0_clear_19 (by decide) ?_
    refine lc0_clear n (k + 1) _ (upd C.1 k (-1000009), C.2) (by omega) ⟨up_n (by omega) hc1, up_s⟩ (fun j hj2 => ?_) (fun h2 C2 q1 q2 q3 q4 => hQ h2 C2 q1 q2 q3 (fun a a1 a2 => (q4 a a1 a2).trans (up_n a2 rfl)))
    show upd C.1 k (-1000009) j = _
    by_cases e : j = k
    · subst e; exact upd_s
    · rw [upd_n e]; exact hj j (by omega)
theorem c0_clear {c : Nat} {C : CdX} (hc : CdAt h c C) (hQ : ∀ (h2 : Nat → Option am_C) (C2 : CdX), CdAt h2 c C2 → C2.2 = (nI 0, nI 0) → (∀ j, j < 24 → C2.1 j = (-1000009)) → (∀ a, ¬ a = c → ¬ a = c + 1 → h2 a = h a) → Q none (h2, z)) : Rn sA mX0_clear 0 [some (.ref c), none] [] (h, z) Q := by
  refine R_iconst (pc := 0) (x := nI 0) dX0_clear_0 rfl ?_
  refine R_istore_n (pc := 1) dX0_clear_1 (Nat.le_of_ble_eq_true rfl) rfl ?_
  exact lc0_clear 24 0 h C (by omega) hc (fun j hj => absurd hj (Nat.not_lt_zero _)) hQ
theorem c0_copyFrom {c d : Nat} {C D : CdX} (hc : CdAt h c C) (hd : CdAt h d D) (hcd : c + 2 ≤ d ∨ d + 2 ≤ c) (hQ : ∀ (h2 : Nat → Option am_C) (C2 : CdX), CdAt h2 c C2 → C2.2 = D.2 → (∀ j, j < 24 → C2.1 j = D.1 j) → (∀ a, ¬ a = c → ¬ a = c + 1 → h2 a = h a) → Q none (h2, z)) : Rn sA mX0_copyFrom 0 [some (.ref c), some (.ref d)] [] (h, z) Q := by
  obtain ⟨hc1, hc2⟩ := hc
  obtain ⟨hd1, hd2⟩ := hd
  refine R_aload_n (pc := 0) dX0_copyFrom_0 rfl ?_
  refine R_getf (pc := 1) dX0_copyFrom_1 rfl (by repeat (first | assumption | exact up_s | refine up_n (by omega) ?_)) rfl ?_
  refine R_iconst (pc := 4) (x := nI 0) dX0_copyFrom_4 rfl ?_
  refine R_aload_n (pc := 5) dX0_copyFrom_5 rfl ?_
  refine R_getf (pc := 6) dX0_copyFrom_6 rfl (by repeat (first | assumption | exact up_s | refine up_n (by omega) ?_)) rfl ?_
  refine R_iconst (pc := 9) (x := nI 0) dX0_copyFrom_9 rfl ?_
  refine R_bipush (pc := 10) (x := nI 24) dX0_copyFrom_10 (by decide) ?_
  refine R_copy (pc := 12) dX0_copyFrom_12 rfl rfl (by repeat (first | assumption | exact up_s | refine up_n (by omega) ?_)) (by repeat (first | assumption | exact up_s | refine up_n (by omega) ?_)) rfl rfl rfl (by omega) (by omega) (by decide) ?_
  refine R_aload_n (pc := 15) dX0_copyFrom_15 rfl ?_
  refine R_aload_n (pc := 16) dX0_copyFrom_16 rfl ?_
  refine R_getf (pc := 17) dX0_copyFrom_17 rfl (by repeat (first | assumption | exact up_s | refine up_n (by omega) ?_)) rfl ?_
  refine R_putf (pc := 20) dX0_copyFrom_20 rfl (by repeat (first | assumption | exact up_s | refine up_n (by omega) ?_)) rfl (Or.inl rfl) rfl ?_
  refine R_aload_n (pc := 23) dX0_copyFrom_23 rfl ?_
  refine R_aload_n (pc := 24) dX0_copyFrom_24 rfl ?_
  refine R_getf (pc := 25) dX0_copyFrom_25 rfl (by repeat (first | assumption | exact up_s | refine up_n (by omega) ?_)) rfl ?_
  refine R_putf (pc := 28) dX0_copyFrom_28 rfl (by repeat (first | assumption | exact up_s | refine up_n (by omega) ?_)) rfl (Or.inl rfl) rfl ?_
  refine R_vret (pc := 31) dX0_copyFrom_31 rfl ?_
  refine hQ _ (va_cpy D.1 C.1 0 0 24, D.2) ⟨up_s, up_n (by omega) (up_n (by omega) up_s)⟩ rfl (fun j hj => ?_) (fun a a1 a2 => up_n a1 (up_n a1 (up_n a2 rfl)))
  show va_cpy D.1 C.1 0 0 24 j = _
  rw [cpy_in (by omega) (by omega), Nat.sub_zero, Nat.zero_add]
/-- what the reader reads of a card -/
def rdC (D : CdX) (k : Nat) : Int32 := if D.2.1 = nI 3 ∧ nI k = D.2.2 then (-1000009) else if D.2.1 = nI 2 then (if k + 1 < 24 then D.1 (k + 1) else (-1000009)) else D.1 k
theorem c0_readFrom {c d t : Nat} {C D : CdX} (hc : CdAt h c C) (hd : CdAt h d D) (hcd : c + 2 ≤ d ∨ d + 2 ≤ c) (ht : t < 24) (ht2 : D.2.2 = nI t) (hQ : ∀ (h2 : Nat → Option am_C) (C2 : CdX), CdAt h2 c C2 → (∀ j, j < 24 → C2.1 j = rdC D j) → (∀ a, ¬ a = c → ¬ a = c + 1 → h2 a = h a) → Q none (h2, z)) : Rn sA mX0_readFrom 0 [some (.ref c), some (.ref d)] [] (h, z) Q := by
  obtain ⟨hd1, hd2⟩ := hd
  obtain ⟨hc1, hc2⟩ := hc
  refine R_aload_n (pc := 0) dX0_readFrom_0 rfl ?_
  refine R_aload_n (pc := 1) dX0_readFrom_1 rfl ?_
  refine R_callV (pc := 2) dX0_readFrom_2 rfl (by repeat (first | assumption | exact up_s | refine up_n (by omega) ?_)) rfl rfl ?_
  refine c0_copyFrom ⟨hc1, hc2⟩ ⟨hd1, hd2⟩ hcd (fun h2 C2 q1 q2 q3 q4 => ?_)
  have hd1 : h2 d = _ := (q4 d (by omega) (by omega)).trans hd1
  have hd2 : h2 (d + 1) = _ := (q4 (d + 1) (by omega) (by omega)).trans hd2
  obtain ⟨hc1, hc2⟩ := q1
  have tail : ∀ (h3 : Nat → Option am_C) (C3 : CdX), CdAt h3 c C3 → (∀ a, ¬ a = c → ¬ a = c + 1 → h3 a = h a) → (∀ j, j < 24 → C3.1 j = if D.2.1 = nI 2 then (if j + 1 < 24 then D.1 (j + 1) else (-1000009)) else D.1 j) → Rn sA mX0_readFrom 36 [some (.ref c), some (.ref d)] [] (h3, z) Q := by
    intro h3 C3 q5 q6 q7
    have hd1 : h3 d = _ := (q6 d (by omega) (by omega)).trans ((q4 d (by omega) (by omega)).symm.trans hd1)
    have hd2 : h3 (d + 1) = _ := (q6 (d + 1) (by omega) (by omega)).trans ((q4 (d + 1) (by omega) (by omega)).symm.trans hd2)
    have hc1 := q5.1
    have hc2 := q5.2
    refine R_aload_n (pc := 36) dX0_readFrom_36 rfl ?_
    refine R_getf (pc := 37) dX0_readFrom_37 rfl (by repeat (first | assumption | exact up_s | refine up_n (by omega) ?_)) rfl ?_
    refine R_iconst (pc := 40) (x := nI 3) dX0_readFrom_40 rfl ?_
    refine R_icmp_ne (pc := 41) (t := 54) dX0_readFrom_41 (by decide) (fun h41 => ?_) (fun h41 => ?_)
    · refine R_vret (pc := 54) dX0_readFrom_54 rfl ?_
      first
        | (refine hQ _ _ r1 (fun j hj => ?_) (fun a a1 a2 => (r2 a a2).trans (q6 a a1 a2))
           show upd C3.1 t (-1000009) j = _
           unfold rdC
           by_cases e : j = t
           · subst e; rw [upd_s, if_pos ⟨h41, ht2.symm⟩]
           · rw [upd_n e, if_neg (fun q => e ((nI_eq (by omega) (by omega)).mp (q.2.trans ht2))), q7 j hj])
        | (refine hQ _ _ q5 (fun j hj => ?_) q6
           unfold rdC
           rw [if_neg (fun q => h41 q.1), q7 j hj])
    · refine R_aload_n (pc := 44) dX0_readFrom_44 rfl ?_
      refine R_aload_n (pc := 45) dX0_readFrom_45 rfl ?_
      refine R_getf (pc := 46) dX0_readFrom_46 rfl (by repeat (first | assumption | exact up_s | refine up_n (by omega) ?_)) rfl ?_
      refine R_ldc (pc := 49) (x := (-1000009)) dX0_readFrom_49 rfl ?_
      refine R_callV (pc := 51) dX0_readFrom_51 rfl (by repeat (first | assumption | exact up_s | refine up_n (by omega) ?_)) rfl rfl ?_
      rw [ht2]
      refine c0_show q5 ht (fun h4 r1 r2 => ?_)
      refine R_vret (pc := 54) dX0_readFrom_54 rfl ?_
      first
        | (refine hQ _ _ r1 (fun j hj => ?_) (fun a a1 a2 => (r2 a a2).trans (q6 a a1 a2))
           show upd C3.1 t (-1000009) j = _
           unfold rdC
           by_cases e : j = t
           · subst e; rw [upd_s, if_pos ⟨h41, ht2.symm⟩]
           · rw [upd_n e, if_neg (fun q => e ((nI_eq (by omega) (by omega)).mp (q.2.trans ht2))), q7 j hj])
        | (refine hQ _ _ q5 (fun j hj => ?_) q6
           unfold rdC
           rw [if_neg (fun q => h41 q.1), q7 j hj])
  refine R_aload_n (pc := 5) dX0_readFrom_5 rfl ?_
  refine R_getf (pc := 6) dX0_readFrom_6 rfl (by repeat (first | assumption | exact up_s | refine up_n (by omega) ?_)) rfl ?_
  refine R_iconst (pc := 9) (x := nI 2) dX0_readFrom_9 rfl ?_
  refine R_icmp_ne (pc := 10) (t := 36) dX0_readFrom_10 (by decide) (fun h10 => ?_) (fun h10 => ?_)
  · first
      | (refine tail _ _ r1 (fun a a1 a2 => (r2 a a2).trans ((up_n a2 rfl).trans (q4 a a1 a2))) (fun j hj => ?_)
         show upd (va_cpy D.1 C2.1 1 0 23) 23 (-1000009) j = _
         rw [if_pos h10]
         by_cases e : j = 23
         · subst e; rw [upd_s, if_neg (by omega)]
         · rw [upd_n e, cpy_in (by omega) (by omega), if_pos (by omega), Nat.sub_zero, Nat.add_comm])
      | (refine tail h2 C2 ⟨hc1, hc2⟩ q4 (fun j hj => ?_)
         rw [if_neg h10, q3 j hj])
  · refine R_aload_n (pc := 13) dX0_readFrom_13 rfl ?_
    refine R_getf (pc := 14) dX0_readFrom_14 rfl (by repeat (first | assumption | exact up_s | refine up_n (by omega) ?_)) rfl ?_
    refine R_iconst (pc := 17) (x := nI 1) dX0_readFrom_17 rfl ?_
    refine R_aload_n (pc := 18) dX0_readFrom_18 rfl ?_
    refine R_getf (pc := 19) dX0_readFrom_19 rfl (by repeat (first | assumption | exact up_s | refine up_n (by omega) ?_)) rfl ?_
    refine R_iconst (pc := 22) (x := nI 0) dX0_readFrom_22 rfl ?_
    refine R_bipush (pc := 23) (x := nI 23) dX0_readFrom_23 (by decide) ?_
    refine R_copy (pc := 25) dX0_readFrom_25 rfl rfl (by repeat (first | assumption | exact up_s | refine up_n (by omega) ?_)) (by repeat (first | assumption | exact up_s | refine up_n (by omega) ?_)) (p := 1) rfl (q := 0) rfl (n := 23) rfl (by omega) (by omega) (by decide) ?_
    refine R_aload_n (pc := 28) dX0_readFrom_28 rfl ?_
    refine R_bipush (pc := 29) (x := nI 23) dX0_readFrom_29 (by decide) ?_
    refine R_ldc (pc := 31) (x := (-1000009)) dX0_readFrom_31 rfl ?_
    refine R_callV (pc := 33) dX0_readFrom_33 rfl (by repeat (first | assumption | exact up_s | refine up_n (by omega) ?_)) rfl rfl ?_
    refine c0_show (c := c) (C := (va_cpy D.1 C2.1 1 0 23, C2.2)) ⟨up_n (by omega) hc1, up_s⟩ (by omega) (fun h4 r1 r2 => ?_)
    first
      | (refine tail _ _ r1 (fun a a1 a2 => (r2 a a2).trans ((up_n a2 rfl).trans (q4 a a1 a2))) (fun j hj => ?_)
         show upd (va_cpy D.1 C2.1 1 0 23) 23 (-1000009) j = _
         rw [if_pos h10]
         by_cases e : j = 23
         · subst e; rw [upd_s, if_neg (by omega)]
         · rw [upd_n e, cpy_in (by omega) (by omega), if_pos (by omega), Nat.sub_zero, Nat.add_comm])
      | (refine tail h2 C2 ⟨hc1, hc2⟩ q4 (fun j hj => ?_)
         rw [if_neg h10, q3 j hj])
end CC0
