section CD3
variable {sA : Nat} {h : Nat → Option am_C} {z : Nat × Nat} {Q : Option Value → am_H → Prop}
theorem PtI.any {lim : Int32} {acc : Nat → Nat → Int32} {k lv : Nat} {v v2 : Nat → Int32} {p : PS} {R : RpX} {T : Nat → Nat → Int32} (a : PtI lim acc k lv v p R T) : PtI lim acc k 4 v2 p R T := ⟨a.1, a.2.1, a.2.2.1, a.2.2.2.1, a.2.2.2.2.1, a.2.2.2.2.2.1, fun q q1 q2 => absurd q1 (by omega)⟩
theorem brk_sum {lim : Int32} {lv : Nat} {v : Nat → Int32} {p : PS} {c : Nat} (h : lv < 3) (hc : c < 2) : (brk lim lv v p).2.2 (12 + c) = p.2.2 (12 + c) := by
  show (if (12 + c) / 4 = lv then nI 0 else brkA lim lv v p.2.2 (12 + c)) = _
  rw [if_neg (by omega)]
  unfold brkA
  split
  · show (if (12 + c) % 4 = 2 ∨ (12 + c) % 4 = 3 then _ else _) = _
    rw [if_neg (by omega)]
  · rfl
theorem brks_sum {lim : Int32} {v : Nat → Int32} {p : PS} {c : Nat} (hc : c < 2) : ∀ n, n ≤ 3 → (brks lim v n p).2.2 (12 + c) = p.2.2 (12 + c)
  | 0, _ => rfl
  | n + 1, h => (brk_sum (p := brks lim v n p) (by omega) hc).trans (brks_sum hc n (by omega))
theorem ptB_sum {lim : Int32} {acc : Nat → Nat → Int32} {p : PS} {k c : Nat} (hc : c < 2) : (ptB lim acc k p).2.2 (12 + c) = p.2.2 (12 + c) := by
  unfold ptB
  split
  · rfl
  · exact brks_sum hc _ (lvN_le _ _)
theorem ptS_cards {lim : Int32} {acc : Nat → Nat → Int32} {num : Nat → Int32} : ∀ k, (ptS lim acc num k).2.2 12 = nI k
  | 0 => rfl
  | k + 1 => by
    show (ptB lim acc k (ptS lim acc num k)).2.2 12 + nI 1 = nI (k + 1)
    rw [ptB_sum (c := 0) (by omega), ptS_cards k, nI_add]
theorem keyM_ne {u v : Nat → Int32} (hu : ∀ f, f < 3 → ∃ a, a < 10000 ∧ u f = nI a) (hv : ∀ f, f < 3 → ∃ a, a < 10000 ∧ v f = nI a) : keyM (u 0) (u 1) (u 2) = keyM (v 0) (v 1) (v 2) ↔ u 0 = v 0 ∧ u 1 = v 1 ∧ u 2 = v 2 := by
  obtain ⟨a0, a1, a2⟩ := hu 0 (by omega)
  obtain ⟨b0, b1, b2⟩ := hu 1 (by omega)
  obtain ⟨c0, c1, c2⟩ := hu 2 (by omega)
  obtain ⟨d0, d1, d2⟩ := hv 0 (by omega)
  obtain ⟨e0, e1, e2⟩ := hv 1 (by omega)
  obtain ⟨f0, f1, f2⟩ := hv 2 (by omega)
  rw [a2, b2, c2, d2, e2, f2, keyM_nI a1 b1 c1, keyM_nI d1 e1 f1, lN_eqB (by omega) (by omega), nI_eq (by omega) (by omega), nI_eq (by omega) (by omega), nI_eq (by omega) (by omega)]
  omega
theorem lnT_card {S v : Nat → Int32} {e : Int32} (h0 : ∀ f, f < 3 → S f = v f) (h4 : S 4 = nI 1) (h5 : S 5 = v 3) (h6 : S 6 = wag v) (h7 : S 7 = nI 0) (j : Nat) (hj : j < 9) : lnT 0 S e j = lineV 0 v (nI 1) (v 3) (wag v) (nI 0) e j := by
  unfold lnT
  rw [if_neg (by omega), h4, h5, h6, h7]
  unfold lineV
  by_cases j0 : j = 0
  · rw [if_pos j0, if_pos j0]
  · rw [if_neg j0, if_neg j0]
    by_cases j4 : j < 4
    · rw [if_pos j4, if_pos j4]
      unfold colV
      rw [h0 (j - 1) (by omega)]
    · rw [if_neg j4, if_neg j4]
theorem lvN_1 {u v : Nat → Int32} (h0 : u 0 = v 0) (h1 : u 1 = v 1) (h2 : ¬ u 2 = v 2) : lvN u v = 1 := by unfold lvN; rw [if_neg (fun q => q h0), if_neg (fun q => q h1), if_pos h2]
theorem lvN_2 {u v : Nat → Int32} (h0 : u 0 = v 0) (h1 : ¬ u 1 = v 1) : lvN u v = 2 := by unfold lvN; rw [if_neg (fun q => q h0), if_pos h1]
theorem lvN_3 {u v : Nat → Int32} (h0 : ¬ u 0 = v 0) : lvN u v = 3 := by unfold lvN; rw [if_pos h0]
theorem lvN_0 {u v : Nat → Int32} (h : u 0 = v 0 ∧ u 1 = v 1 ∧ u 2 = v 2) : lvN u v = 0 := by unfold lvN; rw [if_neg (fun q => q h.1), if_neg (fun q => q h.2.1), if_neg (fun q => q h.2.2)]
/-- behind k accepted cards -/
def PtK (lim : Int32) (acc : Nat → Nat → Int32) (num : Nat → Int32) (k : Nat) (R : RpX) (T : Nat → Nat → Int32) : Prop := PtI lim acc k (if k = 0 then 4 else 0) (acc (k - 1)) (ptS lim acc num k) R T
theorem PtK.ze {lim : Int32} {acc : Nat → Nat → Int32} {num : Nat → Int32} {n : Nat} {f g : Nat → Int32} : PtK lim acc num 0 (0, n, lim, f, g) (fun _ _ => nI 0) := ⟨rfl, rfl, fun i hi => absurd hi (Nat.not_lt_zero _), fun i hi => absurd hi (Nat.not_lt_zero _), rfl, fun _ _ _ _ => rfl, fun q q1 q2 => absurd q1 (by rw [if_pos rfl]; omega)⟩
theorem c4_breakBefore {p r s k : Nat} {T : Nat → Nat → Int32} {R : RpX} {S v : Nat → Int32} {lim : Int32} {acc : Nat → Nat → Int32} {P : PS} (hp : PrX h p T) (hr : RpAt h r R) (hs : TtAt h s S) (hpr : p + 5 ≤ r ∨ r + 3 ≤ p) (hps : s < p ∨ p + 5 ≤ s) (hrs : s < r ∨ r + 3 ≤ s) (a : PtI lim acc k 0 v P R T) (hn : P.1 + 3 ≤ 161) (hne : ¬ (S 0 = v 0 ∧ S 1 = v 1 ∧ S 2 = v 2)) (hQ : ∀ (h2 : Nat → Option am_C) (R2 : RpX) (T2 : Nat → Nat → Int32), PrX h2 p T2 → RpAt h2 r R2 → PtI lim acc k 4 (acc k) (brks lim v (lvN S v) P) R2 T2 → R2.2.1 = R.2.1 → R2.2.2.2.2 = R.2.2.2.2 → (∀ a, (a < p ∨ p + 5 ≤ a) → (a < r ∨ r + 3 ≤ a) → h2 a = h a) → Q none (h2, z)) : Rn sA mX4_breakBefore 0 [some (.ref p), some (.ref r), some (.ref s), none] [] (h, z) Q := by
  have ho := hp.1
  have e30 : T 3 0 = v 0 := (a.2.2.2.2.2.2 3 (by omega) (by omega)).1 0 (by omega)
  have e31 : ovT (ovr (T 0 5) R.2.2.1 (T 0 3)) (T 3) 1 = v 1 := by rw [ovT_n (by omega)]; exact (a.2.2.2.2.2.2 3 (by omega) (by omega)).1 1 (by omega)
  by_cases d0 : S 0 = v 0
  · by_cases g0 : S 1 = v 1
    · have el := lvN_1 d0 g0 (fun q => hne ⟨d0, g0, q⟩)
      refine R_aload_n (pc := 0) dX4_breakBefore_0 rfl ?_
      refine R_getf (pc := 1) dX4_breakBefore_1 rfl hs rfl ?_
      refine R_aload_n (pc := 4) dX4_breakBefore_4 rfl ?_
      refine R_getf (pc := 5) dX4_breakBefore_5 rfl (by repeat (first | assumption | exact up_s | refine up_n (by omega) ?_)) rfl ?_
      refine R_getf (pc := 8) dX4_breakBefore_8 rfl (hp.2 3 (by omega)) rfl ?_
      refine R_icmp_eq (pc := 11) (t := 18) dX4_breakBefore_11 (by decide) (fun _ => ?_) (fun hz9 => absurd (d0.trans e30.symm) hz9)
      refine R_iconst (pc := 18) (x := nI 0) dX4_breakBefore_18 rfl ?_
      refine R_istore_n (pc := 19) dX4_breakBefore_19 (Nat.le_of_ble_eq_true rfl) rfl ?_
      refine R_aload_n (pc := 20) dX4_breakBefore_20 rfl ?_
      refine R_aload_n (pc := 21) dX4_breakBefore_21 rfl ?_
      refine R_callV (pc := 22) dX4_breakBefore_22 rfl hp.1 rfl rfl ?_
      refine c4_breakWorker hp hr hpr (by rw [a.1]; omega) (fun h1 p1 r1 f1 => ?_)
      have i1 := a.brk0
      have o1 := p1.1
      have n1 := i1.1
      have s1 := hs.fr (f1 s hps hrs)
      have r1o := r1.1
      refine R_iload_n (pc := 25) dX4_breakBefore_25 rfl ?_
      refine R_if_ne (pc := 26) (t := 43) dX4_breakBefore_26 (by decide) (fun hz9 => absurd rfl hz9) (fun _ => ?_)
      refine R_aload_n (pc := 29) dX4_breakBefore_29 rfl ?_
      refine R_getf (pc := 30) dX4_breakBefore_30 rfl s1 rfl ?_
      refine R_aload_n (pc := 33) dX4_breakBefore_33 rfl ?_
      refine R_getf (pc := 34) dX4_breakBefore_34 rfl (by repeat (first | assumption | exact up_s | refine up_n (by omega) ?_)) rfl ?_
      refine R_getf (pc := 37) dX4_breakBefore_37 rfl (p1.2 3 (by omega)) rfl ?_
      refine R_icmp_eq (pc := 40) (t := 48) dX4_breakBefore_40 (by decide) (fun _ => ?_) (fun hz9 => absurd (g0.trans e31.symm) hz9)
      refine R_iload_n (pc := 48) dX4_breakBefore_48 rfl ?_
      refine R_if_eq (pc := 49) (t := 57) dX4_breakBefore_49 (by decide) (fun _ => ?_) (fun hz9 => absurd rfl hz9)
      refine R_vret (pc := 57) dX4_breakBefore_57 rfl ?_
      rw [el] at hQ
      refine hQ h1 _ _ p1 r1 i1.any rfl rfl (fun x x1 x2 => ?_)
      rw [f1 x x1 x2]
    · have el := lvN_2 d0 g0
      refine R_aload_n (pc := 0) dX4_breakBefore_0 rfl ?_
      refine R_getf (pc := 1) dX4_breakBefore_1 rfl hs rfl ?_
      refine R_aload_n (pc := 4) dX4_breakBefore_4 rfl ?_
      refine R_getf (pc := 5) dX4_breakBefore_5 rfl (by repeat (first | assumption | exact up_s | refine up_n (by omega) ?_)) rfl ?_
      refine R_getf (pc := 8) dX4_breakBefore_8 rfl (hp.2 3 (by omega)) rfl ?_
      refine R_icmp_eq (pc := 11) (t := 18) dX4_breakBefore_11 (by decide) (fun _ => ?_) (fun hz9 => absurd (d0.trans e30.symm) hz9)
      refine R_iconst (pc := 18) (x := nI 0) dX4_breakBefore_18 rfl ?_
      refine R_istore_n (pc := 19) dX4_breakBefore_19 (Nat.le_of_ble_eq_true rfl) rfl ?_
      refine R_aload_n (pc := 20) dX4_breakBefore_20 rfl ?_
      refine R_aload_n (pc := 21) dX4_breakBefore_21 rfl ?_
      refine R_callV (pc := 22) dX4_breakBefore_22 rfl hp.1 rfl rfl ?_
      refine c4_breakWorker hp hr hpr (by rw [a.1]; omega) (fun h1 p1 r1 f1 => ?_)
      have i1 := a.brk0
      have o1 := p1.1
      have n1 := i1.1
      have s1 := hs.fr (f1 s hps hrs)
      have r1o := r1.1
      refine R_iload_n (pc := 25) dX4_breakBefore_25 rfl ?_
      refine R_if_ne (pc := 26) (t := 43) dX4_breakBefore_26 (by decide) (fun hz9 => absurd rfl hz9) (fun _ => ?_)
      refine R_aload_n (pc := 29) dX4_breakBefore_29 rfl ?_
      refine R_getf (pc := 30) dX4_breakBefore_30 rfl s1 rfl ?_
      refine R_aload_n (pc := 33) dX4_breakBefore_33 rfl ?_
      refine R_getf (pc := 34) dX4_breakBefore_34 rfl (by repeat (first | assumption | exact up_s | refine up_n (by omega) ?_)) rfl ?_
      refine R_getf (pc := 37) dX4_breakBefore_37 rfl (p1.2 3 (by omega)) rfl ?_
      refine R_icmp_eq (pc := 40) (t := 48) dX4_breakBefore_40 (by decide) (fun hz9 => absurd hz9 (fun q => g0 (q.trans e31))) (fun _ => ?_)
      refine R_aload_n (pc := 43) dX4_breakBefore_43 rfl ?_
      refine R_aload_n (pc := 44) dX4_breakBefore_44 rfl ?_
      refine R_callV (pc := 45) dX4_breakBefore_45 rfl p1.1 rfl rfl ?_
      refine c4_breakGroup p1 r1 hpr (by rw [n1]; show P.1 + 1 < 161; omega) (fun h2 p2 r2 f2 => ?_)
      have i2 := i1.brkS (lv := 1) (u := v) (by omega) (by omega) (fun _ => ⟨rfl, rfl⟩)
      have o2 := p2.1
      have n2 := i2.1
      have r2o := r2.1
      refine R_iload_n (pc := 48) dX4_breakBefore_48 rfl ?_
      refine R_if_eq (pc := 49) (t := 57) dX4_breakBefore_49 (by decide) (fun _ => ?_) (fun hz9 => absurd rfl hz9)
      refine R_vret (pc := 57) dX4_breakBefore_57 rfl ?_
      rw [el] at hQ
      refine hQ h2 _ _ p2 r2 i2.any rfl rfl (fun x x1 x2 => ?_)
      rw [f2 x x1 x2, f1 x x1 x2]
  · have el := lvN_3 d0
    refine R_aload_n (pc := 0) dX4_breakBefore_0 rfl ?_
    refine R_getf (pc := 1) dX4_breakBefore_1 rfl hs rfl ?_
    refine R_aload_n (pc := 4) dX4_breakBefore_4 rfl ?_
    refine R_getf (pc := 5) dX4_breakBefore_5 rfl (by repeat (first | assumption | exact up_s | refine up_n (by omega) ?_)) rfl ?_
    refine R_getf (pc := 8) dX4_breakBefore_8 rfl (hp.2 3 (by omega)) rfl ?_
    refine R_icmp_eq (pc := 11) (t := 18) dX4_breakBefore_11 (by decide) (fun hz9 => absurd hz9 (fun q => d0 (q.trans e30))) (fun _ => ?_)
    refine R_iconst (pc := 14) (x := nI 1) dX4_breakBefore_14 rfl ?_
    refine R_goto (pc := 15) (t := 19) dX4_breakBefore_15 (by decide) ?_
    refine R_istore_n (pc := 19) dX4_breakBefore_19 (Nat.le_of_ble_eq_true rfl) rfl ?_
    refine R_aload_n (pc := 20) dX4_breakBefore_20 rfl ?_
    refine R_aload_n (pc := 21) dX4_breakBefore_21 rfl ?_
    refine R_callV (pc := 22) dX4_breakBefore_22 rfl hp.1 rfl rfl ?_
    refine c4_breakWorker hp hr hpr (by rw [a.1]; omega) (fun h1 p1 r1 f1 => ?_)
    have i1 := a.brk0
    have o1 := p1.1
    have n1 := i1.1
    have s1 := hs.fr (f1 s hps hrs)
    have r1o := r1.1
    refine R_iload_n (pc := 25) dX4_breakBefore_25 rfl ?_
    refine R_if_ne (pc := 26) (t := 43) dX4_breakBefore_26 (by decide) (fun _ => ?_) (fun hz9 => absurd hz9 (by decide))
    refine R_aload_n (pc := 43) dX4_breakBefore_43 rfl ?_
    refine R_aload_n (pc := 44) dX4_breakBefore_44 rfl ?_
    refine R_callV (pc := 45) dX4_breakBefore_45 rfl p1.1 rfl rfl ?_
    refine c4_breakGroup p1 r1 hpr (by rw [n1]; show P.1 + 1 < 161; omega) (fun h2 p2 r2 f2 => ?_)
    have i2 := i1.brkS (lv := 1) (u := v) (by omega) (by omega) (fun _ => ⟨rfl, rfl⟩)
    have o2 := p2.1
    have n2 := i2.1
    have r2o := r2.1
    refine R_iload_n (pc := 48) dX4_breakBefore_48 rfl ?_
    refine R_if_eq (pc := 49) (t := 57) dX4_breakBefore_49 (by decide) (fun hz9 => absurd hz9 (by decide)) (fun _ => ?_)
    refine R_aload_n (pc := 52) dX4_breakBefore_52 rfl ?_
    refine R_aload_n (pc := 53) dX4_breakBefore_53 rfl ?_
    refine R_callV (pc := 54) dX4_breakBefore_54 rfl p2.1 rfl rfl ?_
    refine c4_breakDepartment p2 r2 hpr (by rw [n2]; show P.1 + 1 + 1 < 161; omega) (fun h3 p3 r3 f3 => ?_)
    have i3 := i2.brkS (lv := 2) (u := v) (by omega) (by omega) (fun _ => ⟨rfl, rfl⟩)
    refine R_vret (pc := 57) dX4_breakBefore_57 rfl ?_
    rw [el] at hQ
    refine hQ h3 _ _ p3 r3 i3.any rfl rfl (fun x x1 x2 => ?_)
    rw [f3 x x1 x2, f2 x x1 x2, f1 x x1 x2]
theorem c4_accept {p r s k : Nat} {T : Nat → Nat → Int32} {R : RpX} {S : Nat → Int32} {lim : Int32} {acc : Nat → Nat → Int32} {num : Nat → Int32} (hp : PrX h p T) (hr : RpAt h r R) (hs : TtAt h s S) (hpr : p + 5 ≤ r ∨ r + 3 ≤ p) (hps : s < p ∨ p + 5 ≤ s) (hrs : s < r ∨ r + 3 ≤ s) (a : PtK lim acc num k R T) (hk : k < 40) (hS : ∀ f, f < 3 → S f = acc k f) (hS3 : S 3 = acc k 4) (hS4 : S 4 = nI 1) (hS5 : S 5 = acc k 3) (hS6 : S 6 = wag (acc k)) (hS7 : S 7 = nI 0) (hr9 : ∀ i, i ≤ k → ∀ f, f < 3 → ∃ u, u < 10000 ∧ acc i f = nI u) (hQ : ∀ (h2 : Nat → Option am_C) (R2 : RpX) (T2 : Nat → Nat → Int32), PrX h2 p T2 → RpAt h2 r R2 → PtK lim acc num (k + 1) R2 T2 → R2.2.1 = R.2.1 → R2.2.2.2.2 = R.2.2.2.2 → (∀ a, (a < p ∨ p + 5 ≤ a) → (a < r ∨ r + 3 ≤ a) → h2 a = h a) → Q none (h2, z)) : Rn sA mX4_accept 0 [some (.ref p), some (.ref r), some (.ref s), some (.int (num k))] [] (h, z) Q := by
  have hB : (ptB lim acc k (ptS lim acc num k)).1 < 161 := by
    have e : (ptS lim acc num (k + 1)).1 = (ptB lim acc k (ptS lim acc num k)).1 + 1 := rfl
    have := (ptS_le (lim := lim) (acc := acc) (num := num) (k + 1)).1
    omega
  have tail : ∀ (h0 : Nat → Option am_C) (R1 : RpX) (T1 : Nat → Nat → Int32), PrX h0 p T1 → RpAt h0 r R1 → PtI lim acc k 4 (acc k) (ptB lim acc k (ptS lim acc num k)) R1 T1 → R1.2.1 = R.2.1 → R1.2.2.2.2 = R.2.2.2.2 → (∀ x, (x < p ∨ p + 5 ≤ x) → (x < r ∨ r + 3 ≤ x) → h0 x = h x) → Rn sA mX4_accept 31 [some (.ref p), some (.ref r), some (.ref s), some (.int (num k))] [] (h0, z) Q := by
    intro h0 R1 T1 p0 r0 i0 d1 d2 d3
    have s0 : TtAt h0 s S := hs.fr (d3 s hps hrs)
    have o0 := p0.1
    refine R_aload_n (pc := 31) dX4_accept_31 rfl ?_
    refine R_iconst (pc := 32) (x := nI 0) dX4_accept_32 rfl ?_
    refine R_aload_n (pc := 33) dX4_accept_33 rfl ?_
    refine R_iload_n (pc := 34) dX4_accept_34 rfl ?_
    refine R_callV (pc := 35) dX4_accept_35 rfl r0.1 rfl rfl ?_
    refine c5_print r0 (t := s) (T := S) (kd := 0) s0 hrs (by rw [i0.1]; exact hB) (by omega) (fun h1 q1 g1 => ?_)
    have p1 : PrX h1 p T1 := p0.fr (fun x x1 x2 => g1 x (by omega))
    have s1 : TtAt h1 s S := s0.fr (g1 s hrs)
    have o1 := p1.1
    refine R_aload_n (pc := 38) dX4_accept_38 rfl ?_
    refine R_getf (pc := 39) dX4_accept_39 rfl (by repeat (first | assumption | exact up_s | refine up_n (by omega) ?_)) rfl ?_
    refine R_aload_n (pc := 42) dX4_accept_42 rfl ?_
    refine R_callV (pc := 43) dX4_accept_43 rfl (p1.2 0 (by omega)) rfl rfl ?_
    refine c10_addCard (p1.2 0 (by omega)) s1 (by omega) (fun h2 c2 g2 => ?_)
    have p2 := p1.up (q := 0) c2 g2
    have s2 : TtAt h2 s S := s1.fr (g2 s (by omega))
    have o2 := p2.1
    refine R_aload_n (pc := 46) dX4_accept_46 rfl ?_
    refine R_getf (pc := 47) dX4_accept_47 rfl (by repeat (first | assumption | exact up_s | refine up_n (by omega) ?_)) rfl ?_
    refine R_aload_n (pc := 50) dX4_accept_50 rfl ?_
    refine R_callV (pc := 51) dX4_accept_51 rfl (p2.2 1 (by omega)) rfl rfl ?_
    refine c10_addCard (p2.2 1 (by omega)) s2 (by omega) (fun h3 c3 g3 => ?_)
    have p3 := p2.up (q := 1) c3 g3
    have s3 : TtAt h3 s S := s2.fr (g3 s (by omega))
    have o3 := p3.1
    refine R_aload_n (pc := 54) dX4_accept_54 rfl ?_
    refine R_getf (pc := 55) dX4_accept_55 rfl (by repeat (first | assumption | exact up_s | refine up_n (by omega) ?_)) rfl ?_
    refine R_aload_n (pc := 58) dX4_accept_58 rfl ?_
    refine R_callV (pc := 59) dX4_accept_59 rfl (p3.2 2 (by omega)) rfl rfl ?_
    refine c10_addCard (p3.2 2 (by omega)) s3 (by omega) (fun h4 c4 g4 => ?_)
    have p4 := p3.up (q := 2) c4 g4
    have s4 : TtAt h4 s S := s3.fr (g4 s (by omega))
    have o4 := p4.1
    refine R_aload_n (pc := 62) dX4_accept_62 rfl ?_
    refine R_getf (pc := 63) dX4_accept_63 rfl (by repeat (first | assumption | exact up_s | refine up_n (by omega) ?_)) rfl ?_
    refine R_aload_n (pc := 66) dX4_accept_66 rfl ?_
    refine R_callV (pc := 67) dX4_accept_67 rfl (p4.2 3 (by omega)) rfl rfl ?_
    refine c10_addCard (p4.2 3 (by omega)) s4 (by omega) (fun h5 c5 g5 => ?_)
    have p5 := p4.up (q := 3) c5 g5
    have s5 : TtAt h5 s S := s4.fr (g5 s (by omega))
    have o5 := p5.1
    refine R_vret (pc := 70) dX4_accept_70 rfl ?_
    refine hQ h5 _ (fun q => adT (T1 q) S) (p5.to (fun q hq => ?_)) (q1.fr (fun x x1 x2 => ?_)) ?_ d1 d2 (fun x x1 x2 => ?_)
    · have cc : ∀ y : Nat, y < 4 → y = 0 ∨ y = 1 ∨ y = 2 ∨ y = 3 := by omega
      rcases cc q hq with rfl | rfl | rfl | rfl <;> rfl
    · rw [g5 x (by omega), g4 x (by omega), g3 x (by omega), g2 x (by omega)]
    · unfold PtK
      rw [if_neg (Nat.succ_ne_zero k), Nat.add_sub_cancel]
      refine i0.put (fun j hj => lnT_card hS hS4 hS5 hS6 hS7 j hj) (fun _ => hS3) (by show k + 1 = k + if nI 0 = 0 then 1 else 0; rw [if_pos (show nI 0 = 0 from rfl)]) (fun q hq c hc => ?_) (fun q q1 q2 => ⟨fun f hf => ?_, ?_⟩)
      · have e := i0.2.2.2.2.2.1 q hq c hc
        have cc : ∀ y : Nat, y < 4 → y = 0 ∨ y = 1 ∨ y = 2 ∨ y = 3 := by omega
        unfold adT addC
        rcases cc c hc with rfl | rfl | rfl | rfl
        · rw [if_neg (by omega), if_pos (by omega), if_pos (by omega), ← e, ← hS4]
        · rw [if_neg (by omega), if_pos (by omega), if_neg (by omega), if_pos (by omega), ← e, ← hS5]
        · rw [if_neg (by omega), if_pos (by omega), if_neg (by omega), if_neg (by omega), if_pos (by omega), ← e, ← hS6]
        · rw [if_neg (by omega), if_neg (by omega), if_neg (by omega), if_neg (by omega), if_neg (by omega), ← e]
      · unfold adT
        rw [if_pos (by omega)]
        exact hS f hf
      · unfold adT
        rw [if_pos (by omega)]
        exact hS3
    · rw [g5 x (by omega), g4 x (by omega), g3 x (by omega), g2 x (by omega), g1 x x2, d3 x x1 x2]
  have ho := hp.1
  have e34 : T 3 4 = nI k := (a.2.2.2.2.2.1 3 (by omega) 0 (by omega)).trans (ptS_cards k)
  by_cases k0 : k = 0
  · subst k0
    refine R_aload_n (pc := 0) dX4_accept_0 rfl ?_
    refine R_getf (pc := 1) dX4_accept_1 rfl (by repeat (first | assumption | exact up_s | refine up_n (by omega) ?_)) rfl ?_
    refine R_getf (pc := 4) dX4_accept_4 rfl (hp.2 3 (by omega)) rfl ?_
    refine R_if_le (pc := 7) (t := 31) dX4_accept_7 (by decide) (fun _ => ?_) (fun hz9 => absurd (by rw [e34]; decide) hz9)
    exact tail h R T hp hr (by have := a; unfold PtK at this; exact this.any) rfl rfl (fun _ _ _ => rfl)
  · have a0 : PtI lim acc k 0 (acc (k - 1)) (ptS lim acc num k) R T := by have := a; unfold PtK at this; rw [if_neg k0] at this; exact this
    have a7 := a0.2.2.2.2.2.2 3 (by omega) (by omega)
    have t30 := a7.1 0 (by omega)
    have t31 := a7.1 1 (by omega)
    have t32 := a7.1 2 (by omega)
    refine R_aload_n (pc := 0) dX4_accept_0 rfl ?_
    refine R_getf (pc := 1) dX4_accept_1 rfl (by repeat (first | assumption | exact up_s | refine up_n (by omega) ?_)) rfl ?_
    refine R_getf (pc := 4) dX4_accept_4 rfl (hp.2 3 (by omega)) rfl ?_
    refine R_if_le (pc := 7) (t := 31) dX4_accept_7 (by decide) (fun hz9 => absurd hz9 (by rw [e34]; exact nI_nle (by omega) (by omega))) (fun _ => ?_)
    refine R_aload_n (pc := 10) dX4_accept_10 rfl ?_
    refine R_callV (pc := 11) dX4_accept_11 rfl hs rfl rfl ?_
    refine c10_key hs ?_
    refine R_aload_n (pc := 14) dX4_accept_14 rfl ?_
    refine R_getf (pc := 15) dX4_accept_15 rfl (by repeat (first | assumption | exact up_s | refine up_n (by omega) ?_)) rfl ?_
    refine R_callV (pc := 18) dX4_accept_18 rfl (hp.2 3 (by omega)) rfl rfl ?_
    refine c10_key (hp.2 3 (by omega)) ?_
    refine R_lcmp (pc := 21) dX4_accept_21 ?_
    refine R_if_eq (pc := 22) (t := 31) dX4_accept_22 (by decide) (fun h22 => ?_) (fun h22 => ?_)
    · exact tail h R T hp hr (by
        have ek := cmp_eq.mp h22
        rw [hS 0 (by omega), hS 1 (by omega), hS 2 (by omega), t30, t31, t32] at ek
        unfold ptB
        rw [if_neg k0, lvN_0 ((keyM_ne (hr9 k (Nat.le_refl k)) (hr9 (k - 1) (by omega))).mp ek)]
        exact a0.any) rfl rfl (fun _ _ _ => rfl)
    · refine R_aload_n (pc := 25) dX4_accept_25 rfl ?_
      refine R_aload_n (pc := 26) dX4_accept_26 rfl ?_
      refine R_aload_n (pc := 27) dX4_accept_27 rfl ?_
      refine R_callV (pc := 28) dX4_accept_28 rfl ho rfl rfl ?_
      refine c4_breakBefore hp hr hs hpr hps hrs a0 (by have := (ptS_le (lim := lim) (acc := acc) (num := num) k).2 (by omega); omega) (fun q => h22 (cmp_eq.mpr ?_)) (fun h1 R1 T1 b1 b2 b3 b4 b5 b6 => ?_)
      · rw [q.1, q.2.1, q.2.2, t30, t31, t32]
      refine tail h1 R1 T1 b1 b2 ?_ b4 b5 b6
      unfold ptB
      rw [if_neg k0]
      have el : lvN S (acc (k - 1)) = lvN (acc k) (acc (k - 1)) := by unfold lvN; rw [hS 0 (by omega), hS 1 (by omega), hS 2 (by omega)]
      rw [← el]
      exact b3
theorem c4_end {p r k : Nat} {T : Nat → Nat → Int32} {R : RpX} {lim : Int32} {acc : Nat → Nat → Int32} {num : Nat → Int32} (hp : PrX h p T) (hr : RpAt h r R) (hpr : p + 5 ≤ r ∨ r + 3 ≤ p) (a : PtK lim acc num k R T) (hk : k ≤ 40) (hQ : ∀ (h2 : Nat → Option am_C) (R2 : RpX) (T2 T3 : Nat → Nat → Int32), PrX h2 p T2 → RpAt h2 r R2 → PtI lim acc k 4 (acc 0) (ptE lim acc num k) R2 T3 → R2.2.1 = R.2.1 → R2.2.2.2.2 = R.2.2.2.2 → (∀ a, (a < p ∨ p + 5 ≤ a) → (a < r ∨ r + 3 ≤ a) → h2 a = h a) → Q none (h2, z)) : Rn sA mX4_end 0 [some (.ref p), some (.ref r)] [] (h, z) Q := by
  have ho := hp.1
  have e34 : T 3 4 = nI k := (a.2.2.2.2.2.1 3 (by omega) 0 (by omega)).trans (ptS_cards k)
  have last : ∀ (h0 : Nat → Option am_C) (R1 : RpX) (T1 : Nat → Nat → Int32) (lv : Nat) (v : Nat → Int32) (P : PS), PrX h0 p T1 → RpAt h0 r R1 → PtI lim acc k lv v P R1 T1 → brk lim 3 (acc 0) P = ptE lim acc num k → P.1 < 161 → R1.2.1 = R.2.1 → R1.2.2.2.2 = R.2.2.2.2 → (∀ x, (x < p ∨ p + 5 ≤ x) → (x < r ∨ r + 3 ≤ x) → h0 x = h x) → Rn sA mX4_end 25 [some (.ref p), some (.ref r)] [] (h0, z) Q := by
    intro h0 R1 T1 lv v P p0 r0 i0 eP hP d1 d2 d3
    have o0 := p0.1
    refine R_aload_n (pc := 25) dX4_end_25 rfl ?_
    refine R_iconst (pc := 26) (x := nI 4) dX4_end_26 rfl ?_
    refine R_aload_n (pc := 27) dX4_end_27 rfl ?_
    refine R_getf (pc := 28) dX4_end_28 rfl (by repeat (first | assumption | exact up_s | refine up_n (by omega) ?_)) rfl ?_
    refine R_ldc (pc := 31) (x := (-1000009)) dX4_end_31 rfl ?_
    refine R_callV (pc := 33) dX4_end_33 rfl r0.1 rfl rfl ?_
    refine c5_print r0 (t := p + 4) (T := T1 3) (kd := 4) (p0.2 3 (by omega)) (by omega) (by rw [i0.1]; exact hP) (by omega) (fun h1 q1 g1 => ?_)
    refine R_vret (pc := 36) dX4_end_36 rfl ?_
    have i1 := i0.brkS (lv := 3) (u := acc 0) (by omega) (by omega) (fun q => absurd q (by omega))
    rw [eP] at i1
    exact hQ h1 _ _ _ (p0.fr (fun x x1 x2 => g1 x (by omega))) q1 i1.any d1 d2 (fun x x1 x2 => by rw [g1 x x2, d3 x x1 x2])
  by_cases k0 : k = 0
  · subst k0
    refine R_aload_n (pc := 0) dX4_end_0 rfl ?_
    refine R_getf (pc := 1) dX4_end_1 rfl (by repeat (first | assumption | exact up_s | refine up_n (by omega) ?_)) rfl ?_
    refine R_getf (pc := 4) dX4_end_4 rfl (hp.2 3 (by omega)) rfl ?_
    refine R_if_le (pc := 7) (t := 25) dX4_end_7 (by decide) (fun _ => ?_) (fun hz9 => absurd (by rw [e34]; decide) hz9)
    have i0 := a
    unfold PtK at i0
    exact last h R T _ _ _ hp hr i0 rfl (by show 0 < 161; omega) rfl rfl (fun _ _ _ => rfl)
  · have a0 : PtI lim acc k 0 (acc (k - 1)) (ptS lim acc num k) R T := by have := a; unfold PtK at this; rw [if_neg k0] at this; exact this
    have hle := (ptS_le (lim := lim) (acc := acc) (num := num) k).2 (by omega)
    refine R_aload_n (pc := 0) dX4_end_0 rfl ?_
    refine R_getf (pc := 1) dX4_end_1 rfl (by repeat (first | assumption | exact up_s | refine up_n (by omega) ?_)) rfl ?_
    refine R_getf (pc := 4) dX4_end_4 rfl (hp.2 3 (by omega)) rfl ?_
    refine R_if_le (pc := 7) (t := 25) dX4_end_7 (by decide) (fun hz9 => absurd hz9 (by rw [e34]; exact nI_nle (by omega) (by omega))) (fun _ => ?_)
    refine R_aload_n (pc := 10) dX4_end_10 rfl ?_
    refine R_aload_n (pc := 11) dX4_end_11 rfl ?_
    refine R_callV (pc := 12) dX4_end_12 rfl hp.1 rfl rfl ?_
    refine c4_breakWorker hp hr hpr (by rw [a0.1]; omega) (fun h1 p1 r1 f1 => ?_)
    have i1 := a0.brk0
    have o1 := p1.1
    have n1 := i1.1
    have s1 := True.intro
    have r1o := r1.1
    refine R_aload_n (pc := 15) dX4_end_15 rfl ?_
    refine R_aload_n (pc := 16) dX4_end_16 rfl ?_
    refine R_callV (pc := 17) dX4_end_17 rfl p1.1 rfl rfl ?_
    refine c4_breakGroup p1 r1 hpr (by rw [n1]; show (ptS lim acc num k).1 + 1 < 161; omega) (fun h2 p2 r2 f2 => ?_)
    have i2 := i1.brkS (lv := 1) (u := acc (k - 1)) (by omega) (by omega) (fun _ => ⟨rfl, rfl⟩)
    have o2 := p2.1
    have n2 := i2.1
    have r2o := r2.1
    refine R_aload_n (pc := 20) dX4_end_20 rfl ?_
    refine R_aload_n (pc := 21) dX4_end_21 rfl ?_
    refine R_callV (pc := 22) dX4_end_22 rfl p2.1 rfl rfl ?_
    refine c4_breakDepartment p2 r2 hpr (by rw [n2]; show (ptS lim acc num k).1 + 1 + 1 < 161; omega) (fun h3 p3 r3 f3 => ?_)
    have i3 := i2.brkS (lv := 2) (u := acc (k - 1)) (by omega) (by omega) (fun _ => ⟨rfl, rfl⟩)
    refine last h3 _ _ _ _ _ p3 r3 i3 ?_ (by show (ptS lim acc num k).1 + 1 + 1 + 1 < 161; omega) rfl rfl (fun x x1 x2 => by rw [f3 x x1 x2, f2 x x1 x2, f1 x x1 x2])
    unfold ptE
    rw [if_neg k0]
    rfl
end CD3
