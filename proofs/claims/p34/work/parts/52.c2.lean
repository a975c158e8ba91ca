section CC2
variable {sA : Nat} {h : Nat → Option am_C} {z : Nat × Nat} {Q : Option Value → am_H → Prop}
/-- a deck at d: n cards, at place i the card pe i (card 0 is the stray one), what each card shows -/
def DkAt (h : Nat → Option am_C) (d n : Nat) (pe : Nat → Nat) (K : Nat → CdX) : Prop := h d = some (.inr (1, [.ref (d + 1), .ref (d + 2), .int (nI n)])) ∧ (∃ f : Nat → Option Nat, h (d + 1) = some (.inl (1, 40, .inr (.inr (.inr (.inr f))))) ∧ ∀ i, i < 40 → f i = some (d + 2 + 2 * pe i)) ∧ (∀ j, j < 41 → CdAt h (d + 2 + 2 * j) (K j)) ∧ ∀ i, i < 40 → pe i < 41
theorem DkAt.fr {h h' : Nat → Option am_C} {d n : Nat} {pe : Nat → Nat} {K : Nat → CdX} (a : DkAt h d n pe K) (e : ∀ x, d ≤ x → x < d + 84 → h' x = h x) : DkAt h' d n pe K := ⟨(e _ (by omega) (by omega)).trans a.1, a.2.1.imp (fun f q => ⟨(e _ (by omega) (by omega)).trans q.1, q.2⟩), fun j hj => (a.2.2.1 j hj).fr (fun x x1 x2 => e x (by omega) (by omega)), a.2.2.2⟩
def updK (K : Nat → CdX) (j : Nat) (C : CdX) : Nat → CdX := fun x => if x = j then C else K x
theorem DkAt.card {h h' : Nat → Option am_C} {d n j : Nat} {pe : Nat → Nat} {K : Nat → CdX} {C : CdX} (a : DkAt h d n pe K) (hj : j < 41) (hc : CdAt h' (d + 2 + 2 * j) C) (e : ∀ x, ¬ x = d + 2 + 2 * j → ¬ x = d + 2 + 2 * j + 1 → h' x = h x) : DkAt h' d n pe (updK K j C) := by
  refine ⟨(e _ (by omega) (by omega)).trans a.1, a.2.1.imp (fun f q => ⟨(e _ (by omega) (by omega)).trans q.1, q.2⟩), fun i hi => ?_, a.2.2.2⟩
  unfold updK
  by_cases q : i = j
  · subst q; rw [if_pos rfl]; exact hc
  · rw [if_neg q]; exact (a.2.2.1 i hi).fr (fun x x1 x2 => e x (by omega) (by omega))
theorem updK_s {K : Nat → CdX} {j : Nat} {C : CdX} : updK K j C j = C := if_pos rfl
theorem updK_n {K : Nat → CdX} {j i : Nat} {C : CdX} (h : ¬ i = j) : updK K j C i = K i := if_neg h
theorem c1_size {d n : Nat} {pe : Nat → Nat} {K : Nat → CdX} (hd : DkAt h d n pe K) (hQ : Q (some (.int (nI n))) (h, z)) : Rn sA mX1_size 0 [some (.ref d)] [] (h, z) Q := by
  obtain ⟨hd1, hd2, hd3, hd4⟩ := hd
  refine R_aload_n (pc := 0) dX1_size_0 rfl ?_
  refine R_getf (pc := 1) dX1_size_1 rfl (by repeat (first | assumption | exact up_s | refine up_n (by omega) ?_)) rfl ?_
  refine R_iret (pc := 4) dX1_size_4 rfl ?_
  exact hQ
theorem c1_has {d n : Nat} {pe : Nat → Nat} {K : Nat → CdX} {v : Int32} (hd : DkAt h d n pe K) (hn : n ≤ 40) (hY : ∀ j, j < n → v = nI j → Q (some (.int (nI 1))) (h, z)) (hN : (∀ j, j < n → ¬ v = nI j) → Q (some (.int (nI 0))) (h, z)) : Rn sA mX1_has 0 [some (.ref d), some (.int v)] [] (h, z) Q := by
  obtain ⟨hd1, hd2, hd3, hd4⟩ := hd
  refine R_iload_n (pc := 0) dX1_has_0 rfl ?_
  refine R_if_lt (pc := 1) (t := 16) dX1_has_1 (by decide) (fun h1 => ?_) (fun h1 => ?_)
  · refine R_iconst (pc := 16) (x := nI 0) dX1_has_16 rfl ?_
    refine R_zret (pc := 17) dX1_has_17 rfl (by decide) ?_
    first
      | exact hN (fun j hj => rg_lt h1 j hj (by omega))
      | exact hN (fun j hj => rg_ge h9 j hj (by omega))
      | (obtain ⟨j, hj, e⟩ := rg_in h1 h9 (by omega); exact hY j hj e)
  · refine R_iload_n (pc := 4) dX1_has_4 rfl ?_
    refine R_aload_n (pc := 5) dX1_has_5 rfl ?_
    refine R_getf (pc := 6) dX1_has_6 rfl (by repeat (first | assumption | exact up_s | refine up_n (by omega) ?_)) rfl ?_
    refine R_icmp_ge (pc := 9) (t := 16) dX1_has_9 (by decide) (fun h9 => ?_) (fun h9 => ?_)
    · refine R_iconst (pc := 16) (x := nI 0) dX1_has_16 rfl ?_
      refine R_zret (pc := 17) dX1_has_17 rfl (by decide) ?_
      first
        | exact hN (fun j hj => rg_lt h1 j hj (by omega))
        | exact hN (fun j hj => rg_ge h9 j hj (by omega))
        | (obtain ⟨j, hj, e⟩ := rg_in h1 h9 (by omega); exact hY j hj e)
    · refine R_iconst (pc := 12) (x := nI 1) dX1_has_12 rfl ?_
      refine R_goto (pc := 13) (t := 17) dX1_has_13 (by decide) ?_
      refine R_zret (pc := 17) dX1_has_17 rfl (by decide) ?_
      first
        | exact hN (fun j hj => rg_lt h1 j hj (by omega))
        | exact hN (fun j hj => rg_ge h9 j hj (by omega))
        | (obtain ⟨j, hj, e⟩ := rg_in h1 h9 (by omega); exact hY j hj e)
theorem c1_at {d n : Nat} {pe : Nat → Nat} {K : Nat → CdX} {i : Nat} (hd : DkAt h d n pe K) (hi : i < 40) (hQ : Q (some (.ref (d + 2 + 2 * pe i))) (h, z)) : Rn sA mX1_at 0 [some (.ref d), some (.int (nI i)), none] [] (h, z) Q := by
  obtain ⟨hd1, hd2, hd3, hd4⟩ := hd
  obtain ⟨f, hd2, hdf⟩ := hd2
  refine R_iload_n (pc := 0) dX1_at_0 rfl ?_
  refine R_if_lt (pc := 1) (t := 19) dX1_at_1 (by decide) (fun hz9 => absurd hz9 (nI_pos (by omega))) (fun _ => ?_)
  refine R_iload_n (pc := 4) dX1_at_4 rfl ?_
  refine R_bipush (pc := 5) (x := nI 40) dX1_at_5 (by decide) ?_
  refine R_icmp_ge (pc := 7) (t := 19) dX1_at_7 (by decide) (fun hz9 => absurd hz9 (nI_ge (by omega) (by omega))) (fun _ => ?_)
  refine R_aload_n (pc := 10) dX1_at_10 rfl ?_
  refine R_getf (pc := 11) dX1_at_11 rfl (by repeat (first | assumption | exact up_s | refine up_n (by omega) ?_)) rfl ?_
  refine R_iload_n (pc := 14) dX1_at_14 rfl ?_
  refine R_aald (pc := 15) dX1_at_15 hd2 (by decide) rfl hi (by decide) (by rw [hdf i hi]) ?_
  refine R_goto (pc := 16) (t := 20) dX1_at_16 (by decide) ?_
  refine R_astore_n (pc := 20) dX1_at_20 (Nat.le_of_ble_eq_true rfl) rfl ?_
  refine R_aload_n (pc := 21) dX1_at_21 rfl ?_
  refine R_ifnn (pc := 22) (t := 32) dX1_at_22 (by decide) ?_
  refine R_aload_n (pc := 32) dX1_at_32 rfl ?_
  refine R_aret (pc := 33) dX1_at_33 rfl ?_
  exact hQ
theorem c1_put {d n : Nat} {pe : Nat → Nat} {K : Nat → CdX} {i j : Nat} (hd : DkAt h d n pe K) (hi : i < 40) (hj : j < 41) (hQ : ∀ h2 : Nat → Option am_C, DkAt h2 d n (updN pe i j) K → (∀ a, ¬ a = d + 1 → h2 a = h a) → Q none (h2, z)) : Rn sA mX1_put 0 [some (.ref d), some (.int (nI i)), some (.ref (d + 2 + 2 * j))] [] (h, z) Q := by
  obtain ⟨hd1, hd2, hd3, hd4⟩ := hd
  obtain ⟨f, hd2, hdf⟩ := hd2
  refine R_iload_n (pc := 0) dX1_put_0 rfl ?_
  refine R_if_lt (pc := 1) (t := 17) dX1_put_1 (by decide) (fun hz9 => absurd hz9 (nI_pos (by omega))) (fun _ => ?_)
  refine R_iload_n (pc := 4) dX1_put_4 rfl ?_
  refine R_bipush (pc := 5) (x := nI 40) dX1_put_5 (by decide) ?_
  refine R_icmp_ge (pc := 7) (t := 17) dX1_put_7 (by decide) (fun hz9 => absurd hz9 (nI_ge (by omega) (by omega))) (fun _ => ?_)
  refine R_aload_n (pc := 10) dX1_put_10 rfl ?_
  refine R_getf (pc := 11) dX1_put_11 rfl (by repeat (first | assumption | exact up_s | refine up_n (by omega) ?_)) rfl ?_
  refine R_iload_n (pc := 14) dX1_put_14 rfl ?_
  refine R_aload_n (pc := 15) dX1_put_15 rfl ?_
  refine R_aast (pc := 16) dX1_put_16 hd2 (hd3 j hj).1 (by decide) rfl hi (by decide) ?_
  refine R_vret (pc := 17) dX1_put_17 rfl ?_
  refine hQ _ ⟨up_n (by omega) hd1, ⟨_, up_s, fun x hx => ?_⟩, fun x hx => (hd3 x hx).fr (fun y y1 y2 => up_n (by omega) rfl), fun x hx => ?_⟩ (fun a ha => up_n ha rfl)
  · unfold va_up updN
    by_cases e : x = i
    · rw [if_pos e, if_pos e]
    · rw [if_neg e, if_neg e]; exact hdf x hx
  · unfold updN
    split
    · exact hj
    · exact hd4 x hx
theorem DkAt.pe {h : Nat → Option am_C} {d n : Nat} {pe pe' : Nat → Nat} {K : Nat → CdX} (a : DkAt h d n pe K) (e : ∀ i, pe' i = pe i) : DkAt h d n pe' K := by
  have : pe' = pe := funext e
  subst this
  exact a
theorem mvA_e {c t m i : Nat} (hm : m + 0 = t ∨ (0 = 0 ∧ t ≤ m ∧ m = c)) : mvA c t i = mvA c m i := by
  unfold mvA
  rcases hm with e | e
  · rw [show m = t by omega]
  · rw [if_neg (by omega), if_neg (by omega)]
theorem lc1_carA {d n c t r3 : Nat} {pe : Nat → Nat} {K : Nat → CdX} {g : Nat → Option am_C} (hc : c < 40) (ht : t < 40) : ∀ (n1 m : Nat) (h : Nat → Option am_C) (_ : m + n1 = t ∨ (n1 = 0 ∧ t ≤ m ∧ m = c)) (_ : c ≤ m) (_ : DkAt h d n (fun i => pe (mvA c m i)) K) (_ : ∀ a, ¬ a = d + 1 → h a = g a) (_ : (∀ h2 : Nat → Option am_C, DkAt h2 d n (fun i => pe (mvA c t i)) K → (∀ a, ¬ a = d + 1 → h2 a = g a) → ∀ o4 : Option Value, Rn sA mX1_carry 35 [some (.ref d), some (.int (nI c)), some (.int (nI t)), some (.ref r3), o4] [] (h2, z) Q)), Rn sA mX1_carry 9 [some (.ref d), some (.int (nI c)), some (.int (nI t)), some (.ref r3), some (.int (nI m))] [] (h, z) Q
  | 0, m, h, hm, hcm, hd, hg, hX => by
    have hd9 := hd
    obtain ⟨hd1, hd2, hd3, hd4⟩ := hd9
    refine R_iload (pc := 9) dX1_carry_9 rfl ?_
    refine R_iload_n (pc := 11) dX1_carry_11 rfl ?_
    refine R_icmp_ge (pc := 12) (t := 35) dX1_carry_12 (by decide) (fun _ => ?_) (fun hz9 => absurd (nI_le (by omega) (by omega)) hz9)
    exact hX h (hd.pe (fun i => congrArg pe (mvA_e hm))) hg _
  | n1 + 1, m, h, hm, hcm, hd, hg, hX => by
    have hd9 := hd
    obtain ⟨hd1, hd2, hd3, hd4⟩ := hd9
    have hmt : m < t := by omega
    refine R_iload (pc := 9) dX1_carry_9 rfl ?_
    refine R_iload_n (pc := 11) dX1_carry_11 rfl ?_
    refine R_icmp_ge (pc := 12) (t := 35) dX1_carry_12 (by decide) (fun hz9 => absurd hz9 (nI_ge (by omega) (by omega))) (fun _ => ?_)
    refine R_aload_n (pc := 15) dX1_carry_15 rfl ?_
    refine R_iload (pc := 16) dX1_carry_16 rfl ?_
    refine R_aload_n (pc := 18) dX1_carry_18 rfl ?_
    refine R_iload (pc := 19) dX1_carry_19 rfl ?_
    refine R_iconst (pc := 21) (x := nI 1) dX1_carry_21 rfl ?_
    refine R_iadd (pc := 22) dX1_carry_22 ?_
    refine R_callV (pc := 23) dX1_carry_23 rfl (by repeat (first | assumption | exact up_s | refine up_n (by omega) ?_)) rfl rfl ?_
    rw [nI_add]
    refine c1_at hd (i := m + 1) (by omega) ?_
    refine R_callV (pc := 26) dX1_carry_26 rfl (by repeat (first | assumption | exact up_s | refine up_n (by omega) ?_)) rfl rfl ?_
    refine c1_put hd (i := m) (j := pe (mvA c m (m + 1))) (by omega) (hd4 (m + 1) (by omega)) (fun h2 q1 q2 => ?_)
    refine R_iinc (pc := 29) dX1_carry_29 rfl (by first | exact nI_inc _ | rfl) rfl ?_
    refine R_goto (pc := 32) (t := 9) dX1_carry_32 (by decide) ?_
    refine lc1_carA hc ht n1 (m + 1) h2 (by omega) (by omega) (q1.pe (fun i => ?_)) (fun a ha => (q2 a ha).trans (hg a ha)) hX
    unfold updN
    rw [← mvA_step i hcm]
    by_cases e : i = m
    · rw [if_pos e, if_pos e]
      congr 1
      unfold mvA
      rw [if_neg (by omega)]
    · rw [if_neg e, if_neg e]
theorem lc1_carB {d n c t r3 : Nat} {pe : Nat → Nat} {K : Nat → CdX} {g : Nat → Option am_C} (hc : c < 40) (ht : t < 40) : ∀ (n1 m : Nat) (h : Nat → Option am_C) (_ : m = t + n1 ∨ (n1 = 0 ∧ m ≤ t ∧ m = c)) (_ : m ≤ c) (_ : DkAt h d n (fun i => pe (mvB c t m i)) K) (_ : ∀ a, ¬ a = d + 1 → h a = g a) (_ : (∀ h2 : Nat → Option am_C, DkAt h2 d n (fun i => pe (mvB c t (min c t) i)) K → (∀ a, ¬ a = d + 1 → h2 a = g a) → ∀ o4 : Option Value, Rn sA mX1_carry 64 [some (.ref d), some (.int (nI c)), some (.int (nI t)), some (.ref r3), o4] [] (h2, z) Q)), Rn sA mX1_carry 38 [some (.ref d), some (.int (nI c)), some (.int (nI t)), some (.ref r3), some (.int (nI m))] [] (h, z) Q
  | 0, m, h, hm, hcm, hd, hg, hX => by
    have hd9 := hd
    obtain ⟨hd1, hd2, hd3, hd4⟩ := hd9
    obtain rfl : m = min c t := by omega
    refine R_iload (pc := 38) dX1_carry_38 rfl ?_
    refine R_iload_n (pc := 40) dX1_carry_40 rfl ?_
    refine R_icmp_le (pc := 41) (t := 64) dX1_carry_41 (by decide) (fun _ => ?_) (fun hz9 => absurd (nI_le (by omega) (by omega)) hz9)
    exact hX h hd hg _
  | n1 + 1, m, h, hm, hcm, hd, hg, hX => by
    have hd9 := hd
    obtain ⟨hd1, hd2, hd3, hd4⟩ := hd9
    obtain ⟨m, rfl⟩ : ∃ x, m = x + 1 := ⟨m - 1, by omega⟩
    refine R_iload (pc := 38) dX1_carry_38 rfl ?_
    refine R_iload_n (pc := 40) dX1_carry_40 rfl ?_
    refine R_icmp_le (pc := 41) (t := 64) dX1_carry_41 (by decide) (fun hz9 => absurd hz9 (nI_ge (by omega) (by omega))) (fun _ => ?_)
    refine R_aload_n (pc := 44) dX1_carry_44 rfl ?_
    refine R_iload (pc := 45) dX1_carry_45 rfl ?_
    refine R_aload_n (pc := 47) dX1_carry_47 rfl ?_
    refine R_iload (pc := 48) dX1_carry_48 rfl ?_
    refine R_iconst (pc := 50) (x := nI 1) dX1_carry_50 rfl ?_
    refine R_isub (pc := 51) dX1_carry_51 ?_
    refine R_callV (pc := 52) dX1_carry_52 rfl (by repeat (first | assumption | exact up_s | refine up_n (by omega) ?_)) rfl rfl ?_
    rw [pk_sub (show 1 ≤ m + 1 by omega), Nat.add_sub_cancel]
    refine c1_at hd (i := m) (by omega) ?_
    refine R_callV (pc := 55) dX1_carry_55 rfl (by repeat (first | assumption | exact up_s | refine up_n (by omega) ?_)) rfl rfl ?_
    refine c1_put hd (i := m + 1) (j := pe (mvB c t (m + 1) m)) (by omega) (hd4 m (by omega)) (fun h2 q1 q2 => ?_)
    refine R_iinc (pc := 58) dX1_carry_58 rfl (show nI (m + 1) + Int32.ofInt (-1) = nI m from pk_m1 m) rfl ?_
    refine R_goto (pc := 61) (t := 38) dX1_carry_61 (by decide) ?_
    refine lc1_carB hc ht n1 m h2 (by omega) (by omega) (q1.pe (fun i => ?_)) (fun a ha => (q2 a ha).trans (hg a ha)) hX
    unfold updN
    rw [← mvB_step i (by omega)]
    by_cases e : i = m + 1
    · rw [if_pos e, if_pos e]
      congr 1
      unfold mvB
      rw [if_neg (by omega)]
      unfold mvA
      rw [if_neg (by omega)]
    · rw [if_neg e, if_neg e]
theorem c1_carry {d n : Nat} {pe : Nat → Nat} {K : Nat → CdX} {c t : Nat} (hd : DkAt h d n pe K) (hc : c < 40) (ht : t < 40) (hQ : ∀ h2 : Nat → Option am_C, DkAt h2 d n (fun i => pe (mvO2 c t i)) K → (∀ a, ¬ a = d + 1 → h2 a = h a) → Q none (h2, z)) : Rn sA mX1_carry 0 [some (.ref d), some (.int (nI c)), some (.int (nI t)), none, none] [] (h, z) Q := by
  have hd9 := hd
  obtain ⟨hd1, hd2, hd3, hd4⟩ := hd9
  refine R_aload_n (pc := 0) dX1_carry_0 rfl ?_
  refine R_iload_n (pc := 1) dX1_carry_1 rfl ?_
  refine R_callV (pc := 2) dX1_carry_2 rfl (by repeat (first | assumption | exact up_s | refine up_n (by omega) ?_)) rfl rfl ?_
  refine c1_at hd hc ?_
  refine R_astore_n (pc := 5) dX1_carry_5 (Nat.le_of_ble_eq_true rfl) rfl ?_
  refine R_iload_n (pc := 6) dX1_carry_6 rfl ?_
  refine R_istore (pc := 7) dX1_carry_7 (Nat.le_of_ble_eq_true rfl) rfl ?_
  refine lc1_carA (pe := pe) (K := K) (g := h) hc ht (t - c) c h (by omega) (Nat.le_refl c) (hd.pe (fun i => by congr 1; unfold mvA; rw [if_neg (by omega)])) (fun _ _ => rfl) (fun h2 q1 q2 o4 => ?_)
  refine R_iload_n (pc := 35) dX1_carry_35 rfl ?_
  refine R_istore (pc := 36) dX1_carry_36 (Nat.le_of_ble_eq_true rfl) rfl ?_
  refine lc1_carB (pe := pe) (K := K) (g := h) hc ht (c - t) c h2 (by omega) (Nat.le_refl c) (q1.pe (fun i => by rw [mvB_0])) q2 (fun h3 q3 q4 o4 => ?_)
  obtain ⟨he1, he2, he3, he4⟩ := q3
  refine R_aload_n (pc := 64) dX1_carry_64 rfl ?_
  refine R_iload_n (pc := 65) dX1_carry_65 rfl ?_
  refine R_aload_n (pc := 66) dX1_carry_66 rfl ?_
  refine R_callV (pc := 67) dX1_carry_67 rfl (by repeat (first | assumption | exact up_s | refine up_n (by omega) ?_)) rfl rfl ?_
  refine c1_put ⟨he1, he2, he3, he4⟩ ht (hd4 c hc) (fun h4 q5 q6 => ?_)
  refine R_vret (pc := 70) dX1_carry_70 rfl ?_
  refine hQ h4 (q5.pe (fun i => ?_)) (fun a ha => (q6 a ha).trans (q4 a ha))
  unfold updN
  rw [← mvB_end i]
  by_cases e : i = t
  · rw [if_pos e, if_pos e]
  · rw [if_neg e, if_neg e]
theorem DkAt.cnt {h : Nat → Option am_C} {d n m : Nat} {pe : Nat → Nat} {K : Nat → CdX} (a : DkAt h d n pe K) : DkAt (va_up h d (some (.inr (1, [.ref (d + 1), .ref (d + 2), .int (nI m)])))) d m pe K := ⟨up_s, a.2.1.imp (fun f q => ⟨up_n (by omega) q.1, q.2⟩), fun j hj => (a.2.2.1 j hj).fr (fun x x1 x2 => up_n (by omega) rfl), a.2.2.2⟩
theorem c1_insertBlank {d n : Nat} {pe : Nat → Nat} {K : Nat → CdX} {c : Nat} (hd : DkAt h d n pe K) (hn : n < 40) (hc : c ≤ n) (hQ : ∀ (h2 : Nat → Option am_C) (C : CdX), DkAt h2 d (n + 1) (fun i => pe (mvO2 n c i)) (updK K (pe n) C) → C.2 = (nI 0, nI 0) → (∀ j, j < 24 → C.1 j = (-1000009)) → (∀ a, (a < d ∨ d + 84 ≤ a) → h2 a = h a) → Q (some (.ref (d + 2 + 2 * pe n))) (h2, z)) : Rn sA mX1_insertBlank 0 [some (.ref d), some (.int (nI c)), none] [] (h, z) Q := by
  have hd9 := hd
  obtain ⟨hd1, hd2, hd3, hd4⟩ := hd9
  refine R_aload_n (pc := 0) dX1_insertBlank_0 rfl ?_
  refine R_getf (pc := 1) dX1_insertBlank_1 rfl (by repeat (first | assumption | exact up_s | refine up_n (by omega) ?_)) rfl ?_
  refine R_bipush (pc := 4) (x := nI 40) dX1_insertBlank_4 (by decide) ?_
  refine R_icmp_lt (pc := 6) (t := 14) dX1_insertBlank_6 (by decide) (fun _ => ?_) (fun hz9 => absurd (nI_lt (by omega) (by omega)) hz9)
  refine R_aload_n (pc := 14) dX1_insertBlank_14 rfl ?_
  refine R_aload_n (pc := 15) dX1_insertBlank_15 rfl ?_
  refine R_getf (pc := 16) dX1_insertBlank_16 rfl (by repeat (first | assumption | exact up_s | refine up_n (by omega) ?_)) rfl ?_
  refine R_callV (pc := 19) dX1_insertBlank_19 rfl (by repeat (first | assumption | exact up_s | refine up_n (by omega) ?_)) rfl rfl ?_
  refine c1_at hd hn ?_
  refine R_astore_n (pc := 22) dX1_insertBlank_22 (Nat.le_of_ble_eq_true rfl) rfl ?_
  refine R_aload_n (pc := 23) dX1_insertBlank_23 rfl ?_
  refine R_callV (pc := 24) dX1_insertBlank_24 rfl (hd3 (pe n) (hd4 n hn)).1 rfl rfl ?_
  refine c0_clear (hd3 (pe n) (hd4 n hn)) (fun h2 C q1 q2 q3 q4 => ?_)
  have he := hd.card (hd4 n hn) q1 q4
  obtain ⟨he1, he2, he3, he4⟩ := he
  refine R_aload_n (pc := 27) dX1_insertBlank_27 rfl ?_
  refine R_aload_n (pc := 28) dX1_insertBlank_28 rfl ?_
  refine R_getf (pc := 29) dX1_insertBlank_29 rfl (by repeat (first | assumption | exact up_s | refine up_n (by omega) ?_)) rfl ?_
  refine R_iload_n (pc := 32) dX1_insertBlank_32 rfl ?_
  refine R_callV (pc := 33) dX1_insertBlank_33 rfl (by repeat (first | assumption | exact up_s | refine up_n (by omega) ?_)) rfl rfl ?_
  refine c1_carry ⟨he1, he2, he3, he4⟩ hn (by omega) (fun h3 q5 q6 => ?_)
  have hf := q5.1
  refine R_aload_n (pc := 36) dX1_insertBlank_36 rfl ?_
  refine R_dup (pc := 37) dX1_insertBlank_37 rfl ?_
  refine R_getf (pc := 38) dX1_insertBlank_38 rfl (by repeat (first | assumption | exact up_s | refine up_n (by omega) ?_)) rfl ?_
  refine R_iconst (pc := 41) (x := nI 1) dX1_insertBlank_41 rfl ?_
  refine R_iadd (pc := 42) dX1_insertBlank_42 ?_
  refine R_putf (pc := 43) dX1_insertBlank_43 rfl (by repeat (first | assumption | exact up_s | refine up_n (by omega) ?_)) rfl (Or.inl rfl) rfl ?_
  refine R_aload_n (pc := 46) dX1_insertBlank_46 rfl ?_
  refine R_aret (pc := 47) dX1_insertBlank_47 rfl ?_
  have hp := hd4 n hn
  refine hQ _ C (by rw [nI_add]; exact q5.cnt) q2 q3 (fun a ha => ?_)
  rw [show va_up h3 d _ a = h3 a from up_n (by omega) rfl, q6 a (by omega), q4 a (by omega) (by omega)]
theorem c1_remove {d n : Nat} {pe : Nat → Nat} {K : Nat → CdX} {c : Nat} (hd : DkAt h d n pe K) (hn : n ≤ 40) (hc : c < n) (hQ : ∀ (h2 : Nat → Option am_C), DkAt h2 d (n - 1) (fun i => pe (mvO2 c (n - 1) i)) K → (∀ a, (a < d ∨ d + 84 ≤ a) → h2 a = h a) → Q none (h2, z)) : Rn sA mX1_remove 0 [some (.ref d), some (.int (nI c))] [] (h, z) Q := by
  have hd9 := hd
  obtain ⟨hd1, hd2, hd3, hd4⟩ := hd9
  refine R_aload_n (pc := 0) dX1_remove_0 rfl ?_
  refine R_iload_n (pc := 1) dX1_remove_1 rfl ?_
  refine R_callV (pc := 2) dX1_remove_2 rfl (by repeat (first | assumption | exact up_s | refine up_n (by omega) ?_)) rfl rfl ?_
  refine c1_has hd hn (fun j hj e => ?_) (fun e => absurd rfl (e c hc))
  · refine R_if_eq (pc := 5) (t := 29) dX1_remove_5 (by decide) (fun hz9 => absurd hz9 (by decide)) (fun _ => ?_)
    refine R_aload_n (pc := 8) dX1_remove_8 rfl ?_
    refine R_iload_n (pc := 9) dX1_remove_9 rfl ?_
    refine R_aload_n (pc := 10) dX1_remove_10 rfl ?_
    refine R_getf (pc := 11) dX1_remove_11 rfl (by repeat (first | assumption | exact up_s | refine up_n (by omega) ?_)) rfl ?_
    refine R_iconst (pc := 14) (x := nI 1) dX1_remove_14 rfl ?_
    refine R_isub (pc := 15) dX1_remove_15 ?_
    refine R_callV (pc := 16) dX1_remove_16 rfl (by repeat (first | assumption | exact up_s | refine up_n (by omega) ?_)) rfl rfl ?_
    rw [pk_sub (show 1 ≤ n by omega)]
    refine c1_carry hd (by omega) (by omega) (fun h3 q5 q6 => ?_)
    have hf := q5.1
    refine R_aload_n (pc := 19) dX1_remove_19 rfl ?_
    refine R_dup (pc := 20) dX1_remove_20 rfl ?_
    refine R_getf (pc := 21) dX1_remove_21 rfl (by repeat (first | assumption | exact up_s | refine up_n (by omega) ?_)) rfl ?_
    refine R_iconst (pc := 24) (x := nI 1) dX1_remove_24 rfl ?_
    refine R_isub (pc := 25) dX1_remove_25 ?_
    refine R_putf (pc := 26) dX1_remove_26 rfl (by repeat (first | assumption | exact up_s | refine up_n (by omega) ?_)) rfl (Or.inl rfl) rfl ?_
    refine R_vret (pc := 29) dX1_remove_29 rfl ?_
    refine hQ _ (by rw [pk_sub (show 1 ≤ n by omega)]; exact q5.cnt) (fun a ha => ?_)
    rw [show va_up h3 d _ a = h3 a from up_n (by omega) rfl, q6 a (by omega)]
end CC2
