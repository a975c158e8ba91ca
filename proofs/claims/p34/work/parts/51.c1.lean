section CC1
variable {sA : Nat} {h : Nat → Option am_C} {z : Nat × Nat} {Q : Option Value → am_H → Prop}
/-- where the fields lie, at l -/
def LyAt (h : Nat → Option am_C) (l : Nat) (P Wd : Nat → Nat) : Prop := ∃ f2 f3 : Nat → Int32, h l = some (.inr (3, [.ref (l + 1), .ref (l + 2)])) ∧ h (l + 1) = some (.inl (0, 6, .inl f2)) ∧ h (l + 2) = some (.inl (0, 6, .inl f3)) ∧ ∀ f, f < 6 → f2 f = nI (P f) ∧ f3 f = nI (Wd f)
theorem LyAt.fr {h h' : Nat → Option am_C} {l : Nat} {P Wd : Nat → Nat} (a : LyAt h l P Wd) (e : ∀ x, l ≤ x → x < l + 3 → h' x = h x) : LyAt h' l P Wd := by
  obtain ⟨f2, f3, a1, a2, a3, a4⟩ := a
  exact ⟨f2, f3, (e _ (by omega) (by omega)).trans a1, (e _ (by omega) (by omega)).trans a2, (e _ (by omega) (by omega)).trans a3, a4⟩
/-- totals at t: department, group, worker, rate, cards, hours, wages, overtime -/
def TtAt (h : Nat → Option am_C) (t : Nat) (T : Nat → Int32) : Prop := h t = some (.inr (10, [.int (T 0), .int (T 1), .int (T 2), .int (T 3), .int (T 4), .int (T 5), .int (T 6), .int (T 7)]))
theorem TtAt.fr {h h' : Nat → Option am_C} {t : Nat} {T : Nat → Int32} (a : TtAt h t T) (e : h' t = h t) : TtAt h' t T := e.trans a
theorem TtAt.cg {h : Nat → Option am_C} {t : Nat} {T T' : Nat → Int32} (a : TtAt h t T) (e : ∀ k, k < 8 → T k = T' k) : TtAt h t T' := by
  unfold TtAt at a ⊢
  rw [a, e 0 (by omega), e 1 (by omega), e 2 (by omega), e 3 (by omega), e 4 (by omega), e 5 (by omega), e 6 (by omega), e 7 (by omega)]
theorem dueF_s {g : Nat → Int32} {p : Nat} : ∀ (n k : Nat) (s : Int32), dueF g p n k s = s + dueF g p n k (nI 0)
  | 0, _, s => (Int32.add_zero s).symm
  | n + 1, k, s => by
    unfold dueF
    rw [dueF_s n (k + 1) (s + digR g p k), dueF_s n (k + 1) (nI 0 + digR g p k), Int32.add_assoc, show nI 0 + digR g p k = digR g p k from Int32.zero_add _]
/-- the key of what a card shows, -1 for none -/
def keyC (P Wd : Nat → Nat) (g : Nat → Int32) : Int64 := if valF P Wd g 0 = (-1000009) ∨ valF P Wd g 1 = (-1000009) ∨ valF P Wd g 2 = (-1000009) then (-1) else keyM (valF P Wd g 0) (valF P Wd g 1) (valF P Wd g 2)
theorem keyM_eq (d g u : Int32) : (d.toInt64 * 10000 + g.toInt64) * 10000 + u.toInt64 = keyM d g u := by
  unfold keyM
  grind
theorem c3_firstOf {l f : Nat} {P Wd : Nat → Nat} (hl : LyAt h l P Wd) (hf : f < 6) (hQ : Q (some (.int (nI (P f)))) (h, z)) : Rn sA mX3_firstOf 0 [some (.ref l), some (.int (nI f))] [] (h, z) Q := by
  obtain ⟨f2, f3, hl1, hl2, hl3, hl4⟩ := hl
  refine R_iload_n (pc := 0) dX3_firstOf_0 rfl ?_
  refine R_callS (pc := 1) dX3_firstOf_1 rfl (Or.inr rfl) rfl rfl ?_
  refine c_isField (fun j hj e => ?_) (fun e => absurd rfl (e f hf))
  · obtain rfl := (nI_eq (by omega) (by omega)).mp e
    refine R_if_eq (pc := 4) (t := 16) dX3_firstOf_4 (by decide) (fun hz9 => absurd hz9 (by decide)) (fun _ => ?_)
    refine R_aload_n (pc := 7) dX3_firstOf_7 rfl ?_
    refine R_getf (pc := 8) dX3_firstOf_8 rfl (by repeat (first | assumption | exact up_s | refine up_n (by omega) ?_)) rfl ?_
    refine R_iload_n (pc := 11) dX3_firstOf_11 rfl ?_
    refine R_iald (pc := 12) dX3_firstOf_12 (by repeat (first | assumption | exact up_s | refine up_n (by omega) ?_)) (Or.inl rfl) (by first | with_reducible rfl | (simp only [nI_add, pk_mul]; exact rfl)) (by omega) (by decide) ?_
    refine R_goto (pc := 13) (t := 17) dX3_firstOf_13 (by decide) ?_
    refine R_iret (pc := 17) dX3_firstOf_17 rfl ?_
    rw [(hl4 f hf).1]
    exact hQ
theorem c3_widthOf {l f : Nat} {P Wd : Nat → Nat} (hl : LyAt h l P Wd) (hf : f < 6) (hQ : Q (some (.int (nI (Wd f)))) (h, z)) : Rn sA mX3_widthOf 0 [some (.ref l), some (.int (nI f))] [] (h, z) Q := by
  obtain ⟨f2, f3, hl1, hl2, hl3, hl4⟩ := hl
  refine R_iload_n (pc := 0) dX3_widthOf_0 rfl ?_
  refine R_callS (pc := 1) dX3_widthOf_1 rfl (Or.inr rfl) rfl rfl ?_
  refine c_isField (fun j hj e => ?_) (fun e => absurd rfl (e f hf))
  · obtain rfl := (nI_eq (by omega) (by omega)).mp e
    refine R_if_eq (pc := 4) (t := 16) dX3_widthOf_4 (by decide) (fun hz9 => absurd hz9 (by decide)) (fun _ => ?_)
    refine R_aload_n (pc := 7) dX3_widthOf_7 rfl ?_
    refine R_getf (pc := 8) dX3_widthOf_8 rfl (by repeat (first | assumption | exact up_s | refine up_n (by omega) ?_)) rfl ?_
    refine R_iload_n (pc := 11) dX3_widthOf_11 rfl ?_
    refine R_iald (pc := 12) dX3_widthOf_12 (by repeat (first | assumption | exact up_s | refine up_n (by omega) ?_)) (Or.inl rfl) (by first | with_reducible rfl | (simp only [nI_add, pk_mul]; exact rfl)) (by omega) (by decide) ?_
    refine R_goto (pc := 13) (t := 17) dX3_widthOf_13 (by decide) ?_
    refine R_iret (pc := 17) dX3_widthOf_17 rfl ?_
    rw [(hl4 f hf).2]
    exact hQ
theorem c3_place {l f p q : Nat} {P Wd : Nat → Nat} (hl : LyAt h l P Wd) (hf : f < 6) (hQ : ∀ h2 : Nat → Option am_C, LyAt h2 l (updN P f p) (updN Wd f q) → (∀ a, (a < l ∨ l + 3 ≤ a) → h2 a = h a) → Q none (h2, z)) : Rn sA mX3_place 0 [some (.ref l), some (.int (nI f)), some (.int (nI p)), some (.int (nI q))] [] (h, z) Q := by
  obtain ⟨f2, f3, hl1, hl2, hl3, hl4⟩ := hl
  refine R_iload_n (pc := 0) dX3_place_0 rfl ?_
  refine R_callS (pc := 1) dX3_place_1 rfl (Or.inr rfl) rfl rfl ?_
  refine c_isField (fun j hj e => ?_) (fun e => absurd rfl (e f hf))
  · obtain rfl := (nI_eq (by omega) (by omega)).mp e
    refine R_if_eq (pc := 4) (t := 21) dX3_place_4 (by decide) (fun hz9 => absurd hz9 (by decide)) (fun _ => ?_)
    refine R_aload_n (pc := 7) dX3_place_7 rfl ?_
    refine R_getf (pc := 8) dX3_place_8 rfl (by repeat (first | assumption | exact up_s | refine up_n (by omega) ?_)) rfl ?_
    refine R_iload_n (pc := 11) dX3_place_11 rfl ?_
    refine R_iload_n (pc := 12) dX3_place_12 rfl ?_
    refine R_iast (pc := 13) dX3_place_13 (by repeat (first | assumption | exact up_s | refine up_n (by omega) ?_)) (by first | with_reducible rfl | (simp only [nI_add, pk_mul]; exact rfl)) (by omega) (by decide) ?_
    refine R_aload_n (pc := 14) dX3_place_14 rfl ?_
    refine R_getf (pc := 15) dX3_place_15 rfl (by repeat (first | assumption | exact up_s | refine up_n (by omega) ?_)) rfl ?_
    refine R_iload_n (pc := 18) dX3_place_18 rfl ?_
    refine R_iload_n (pc := 19) dX3_place_19 rfl ?_
    refine R_iast (pc := 20) dX3_place_20 (by repeat (first | assumption | exact up_s | refine up_n (by omega) ?_)) (by first | with_reducible rfl | (simp only [nI_add, pk_mul]; exact rfl)) (by omega) (by decide) ?_
    refine R_vret (pc := 21) dX3_place_21 rfl ?_
    refine hQ _ ⟨upd f2 f (nI p), upd f3 f (nI q), up_n (by omega) (up_n (by omega) hl1), up_n (by omega) up_s, up_s, fun x hx => ?_⟩ (fun a ha => up_n (by omega) (up_n (by omega) rfl))
    unfold upd updN
    by_cases e : x = f
    · rw [if_pos e, if_pos e, if_pos e, if_pos e]; exact ⟨rfl, rfl⟩
    · rw [if_neg e, if_neg e, if_neg e, if_neg e]; exact hl4 x hx
theorem c3_copyFrom {l m : Nat} {P Wd P2 Wd2 : Nat → Nat} (hl : LyAt h l P Wd) (hm : LyAt h m P2 Wd2) (hlm : l + 3 ≤ m ∨ m + 3 ≤ l) (hQ : ∀ h2 : Nat → Option am_C, LyAt h2 l P2 Wd2 → (∀ a, (a < l ∨ l + 3 ≤ a) → h2 a = h a) → Q none (h2, z)) : Rn sA mX3_copyFrom 0 [some (.ref l), some (.ref m)] [] (h, z) Q := by
  obtain ⟨f2, f3, hl1, hl2, hl3, hl4⟩ := hl
  obtain ⟨g2, g3, hm1, hm2, hm3, hm4⟩ := hm
  refine R_aload_n (pc := 0) dX3_copyFrom_0 rfl ?_
  refine R_getf (pc := 1) dX3_copyFrom_1 rfl (by repeat (first | assumption | exact up_s | refine up_n (by omega) ?_)) rfl ?_
  refine R_iconst (pc := 4) (x := nI 0) dX3_copyFrom_4 rfl ?_
  refine R_aload_n (pc := 5) dX3_copyFrom_5 rfl ?_
  refine R_getf (pc := 6) dX3_copyFrom_6 rfl (by repeat (first | assumption | exact up_s | refine up_n (by omega) ?_)) rfl ?_
  refine R_iconst (pc := 9) (x := nI 0) dX3_copyFrom_9 rfl ?_
  refine R_bipush (pc := 10) (x := nI 6) dX3_copyFrom_10 (by decide) ?_
  refine R_copy (pc := 12) dX3_copyFrom_12 rfl rfl (by repeat (first | assumption | exact up_s | refine up_n (by omega) ?_)) (by repeat (first | assumption | exact up_s | refine up_n (by omega) ?_)) rfl rfl rfl (by omega) (by omega) (by decide) ?_
  refine R_aload_n (pc := 15) dX3_copyFrom_15 rfl ?_
  refine R_getf (pc := 16) dX3_copyFrom_16 rfl (by repeat (first | assumption | exact up_s | refine up_n (by omega) ?_)) rfl ?_
  refine R_iconst (pc := 19) (x := nI 0) dX3_copyFrom_19 rfl ?_
  refine R_aload_n (pc := 20) dX3_copyFrom_20 rfl ?_
  refine R_getf (pc := 21) dX3_copyFrom_21 rfl (by repeat (first | assumption | exact up_s | refine up_n (by omega) ?_)) rfl ?_
  refine R_iconst (pc := 24) (x := nI 0) dX3_copyFrom_24 rfl ?_
  refine R_bipush (pc := 25) (x := nI 6) dX3_copyFrom_25 (by decide) ?_
  refine R_copy (pc := 27) dX3_copyFrom_27 rfl rfl (by repeat (first | assumption | exact up_s | refine up_n (by omega) ?_)) (by repeat (first | assumption | exact up_s | refine up_n (by omega) ?_)) rfl rfl rfl (by omega) (by omega) (by decide) ?_
  refine R_vret (pc := 30) dX3_copyFrom_30 rfl ?_
  refine hQ _ ⟨va_cpy g2 f2 0 0 6, va_cpy g3 f3 0 0 6, up_n (by omega) (up_n (by omega) hl1), up_n (by omega) up_s, up_s, fun x hx => ?_⟩ (fun a ha => up_n (by omega) (up_n (by omega) rfl))
  rw [cpy_in (by omega) (by omega), cpy_in (by omega) (by omega), Nat.sub_zero, Nat.zero_add]
  exact hm4 x hx
theorem lc3_valueOn {l c f : Nat} {P Wd : Nat → Nat} {C : CdX} (hc : CdAt h c C) (hPW : P f + Wd f ≤ 24) : ∀ (n k : Nat) (v : Int32) (o7 : Option Value) (_ : k + n = Wd f) (_ : Q (some (.int (valR C.1 (P f) n k v))) (h, z)), Rn sA mX3_valueOn 19 [some (.ref l), some (.ref c), some (.int (nI f)), some (.int (nI (P f))), some (.int (nI (Wd f))), some (.int v), some (.int (nI k)), o7] [] (h, z) Q
  | 0, k, v, o7, hk, hQ => by
    have hc1 := hc.1
    refine R_iload (pc := 19) dX3_valueOn_19 rfl ?_
    refine R_iload (pc := 21) dX3_valueOn_21 rfl ?_
    refine R_icmp_ge (pc := 23) (t := 62) dX3_valueOn_23 (by decide) (fun _ => ?_) (fun hz9 => absurd (by rw [← hk]; exact nI_le (by omega) (by omega)) hz9)
    refine R_iload (pc := 62) dX3_valueOn_62 rfl ?_
    refine R_iret (pc := 64) dX3_valueOn_64 rfl ?_
    exact hQ
  | n + 1, k, v, o7, hk, hQ => by
    have hc1 := hc.1
    refine R_iload (pc := 19) dX3_valueOn_19 rfl ?_
    refine R_iload (pc := 21) dX3_valueOn_21 rfl ?_
    refine R_icmp_ge (pc := 23) (t := 62) dX3_valueOn_23 (by decide) (fun hz9 => absurd hz9 (nI_ge (by omega) (by omega))) (fun _ => ?_)
    refine R_aload_n (pc := 26) dX3_valueOn_26 rfl ?_
    refine R_iload_n (pc := 27) dX3_valueOn_27 rfl ?_
    refine R_iload (pc := 28) dX3_valueOn_28 rfl ?_
    refine R_iadd (pc := 30) dX3_valueOn_30 ?_
    refine R_callV (pc := 31) dX3_valueOn_31 rfl (by repeat (first | assumption | exact up_s | refine up_n (by omega) ?_)) rfl rfl ?_
    rw [nI_add]
    refine c0_shows hc (by omega) ?_
    refine R_istore (pc := 34) dX3_valueOn_34 (Nat.le_of_ble_eq_true rfl) rfl ?_
    refine R_iload (pc := 36) dX3_valueOn_36 rfl ?_
    refine R_ldc (pc := 38) (x := (-1000009)) dX3_valueOn_38 rfl ?_
    refine R_icmp_ne (pc := 40) (t := 46) dX3_valueOn_40 (by decide) (fun h40 => ?_) (fun h40 => ?_)
    · refine R_bipush (pc := 46) (x := nI 10) dX3_valueOn_46 (by decide) ?_
      refine R_iload (pc := 48) dX3_valueOn_48 rfl ?_
      refine R_imul (pc := 50) dX3_valueOn_50 ?_
      refine R_iload (pc := 51) dX3_valueOn_51 rfl ?_
      refine R_iadd (pc := 53) dX3_valueOn_53 ?_
      refine R_istore (pc := 54) dX3_valueOn_54 (Nat.le_of_ble_eq_true rfl) rfl ?_
      refine R_iinc (pc := 56) dX3_valueOn_56 rfl (by first | exact nI_inc _ | rfl) rfl ?_
      refine R_goto (pc := 59) (t := 19) dX3_valueOn_59 (by decide) ?_
      rw [show valR C.1 (P f) (n + 1) k v = valR C.1 (P f) n (k + 1) (nI 10 * v + C.1 (P f + k)) from if_neg h40] at hQ
      exact lc3_valueOn hc hPW n (k + 1) _ _ (by omega) hQ
    · refine R_ldc (pc := 43) (x := (-1000009)) dX3_valueOn_43 rfl ?_
      refine R_iret (pc := 45) dX3_valueOn_45 rfl ?_
      rw [show valR C.1 (P f) (n + 1) k v = (-1000009) from if_pos h40] at hQ
      exact hQ
theorem c3_valueOn {l c f : Nat} {P Wd : Nat → Nat} {C : CdX} (hl : LyAt h l P Wd) (hc : CdAt h c C) (hf : f < 6) (hPW : ∀ f, f < 6 → P f + Wd f ≤ 24) (hQ : Q (some (.int (valF P Wd C.1 f))) (h, z)) : Rn sA mX3_valueOn 0 [some (.ref l), some (.ref c), some (.int (nI f)), none, none, none, none, none] [] (h, z) Q := by
  have hl9 := hl
  obtain ⟨f2, f3, hl1, hl2, hl3, hl4⟩ := hl9
  refine R_aload_n (pc := 0) dX3_valueOn_0 rfl ?_
  refine R_iload_n (pc := 1) dX3_valueOn_1 rfl ?_
  refine R_callV (pc := 2) dX3_valueOn_2 rfl (by repeat (first | assumption | exact up_s | refine up_n (by omega) ?_)) rfl rfl ?_
  refine c3_firstOf hl hf ?_
  refine R_istore_n (pc := 5) dX3_valueOn_5 (Nat.le_of_ble_eq_true rfl) rfl ?_
  refine R_aload_n (pc := 6) dX3_valueOn_6 rfl ?_
  refine R_iload_n (pc := 7) dX3_valueOn_7 rfl ?_
  refine R_callV (pc := 8) dX3_valueOn_8 rfl (by repeat (first | assumption | exact up_s | refine up_n (by omega) ?_)) rfl rfl ?_
  refine c3_widthOf hl hf ?_
  refine R_istore (pc := 11) dX3_valueOn_11 (Nat.le_of_ble_eq_true rfl) rfl ?_
  refine R_iconst (pc := 13) (x := nI 0) dX3_valueOn_13 rfl ?_
  refine R_istore (pc := 14) dX3_valueOn_14 (Nat.le_of_ble_eq_true rfl) rfl ?_
  refine R_iconst (pc := 16) (x := nI 0) dX3_valueOn_16 rfl ?_
  refine R_istore (pc := 17) dX3_valueOn_17 (Nat.le_of_ble_eq_true rfl) rfl ?_
  exact lc3_valueOn hc (hPW f hf) (Wd f) 0 (nI 0) none (by omega) hQ
theorem lc3_weighed {l c f : Nat} {P Wd : Nat → Nat} {C : CdX} (hc : CdAt h c C) (hPW : P f + Wd f ≤ 24) : ∀ (n k : Nat) (v : Int32) (o7 : Option Value) (_ : k + n = Wd f) (_ : Q (some (.int (dueF C.1 (P f) n k v))) (h, z)), Rn sA mX3_weighedDigits 19 [some (.ref l), some (.ref c), some (.int (nI f)), some (.int (nI (P f))), some (.int (nI (Wd f))), some (.int v), some (.int (nI k)), o7] [] (h, z) Q
  | 0, k, v, o7, hk, hQ => by
    have hc1 := hc.1
    refine R_iload (pc := 19) dX3_weighedDigits_19 rfl ?_
    refine R_iload (pc := 21) dX3_weighedDigits_21 rfl ?_
    refine R_icmp_ge (pc := 23) (t := 70) dX3_weighedDigits_23 (by decide) (fun _ => ?_) (fun hz9 => absurd (by rw [← hk]; exact nI_le (by omega) (by omega)) hz9)
    refine R_iload (pc := 70) dX3_weighedDigits_70 rfl ?_
    refine R_iret (pc := 72) dX3_weighedDigits_72 rfl ?_
    exact hQ
  | n + 1, k, v, o7, hk, hQ => by
    have hc1 := hc.1
    refine R_iload (pc := 19) dX3_weighedDigits_19 rfl ?_
    refine R_iload (pc := 21) dX3_weighedDigits_21 rfl ?_
    refine R_icmp_ge (pc := 23) (t := 70) dX3_weighedDigits_23 (by decide) (fun hz9 => absurd hz9 (nI_ge (by omega) (by omega))) (fun _ => ?_)
    refine R_aload_n (pc := 26) dX3_weighedDigits_26 rfl ?_
    refine R_iload_n (pc := 27) dX3_weighedDigits_27 rfl ?_
    refine R_iload (pc := 28) dX3_weighedDigits_28 rfl ?_
    refine R_iadd (pc := 30) dX3_weighedDigits_30 ?_
    refine R_callV (pc := 31) dX3_weighedDigits_31 rfl (by repeat (first | assumption | exact up_s | refine up_n (by omega) ?_)) rfl rfl ?_
    rw [nI_add]
    refine c0_shows hc (by omega) ?_
    refine R_istore (pc := 34) dX3_weighedDigits_34 (Nat.le_of_ble_eq_true rfl) rfl ?_
    refine R_iload (pc := 36) dX3_weighedDigits_36 rfl ?_
    refine R_ldc (pc := 38) (x := (-1000009)) dX3_weighedDigits_38 rfl ?_
    refine R_icmp_eq (pc := 40) (t := 64) dX3_weighedDigits_40 (by decide) (fun h40 => ?_) (fun h40 => ?_)
    · refine R_iinc (pc := 64) dX3_weighedDigits_64 rfl (by first | exact nI_inc _ | rfl) rfl ?_
      refine R_goto (pc := 67) (t := 19) dX3_weighedDigits_67 (by decide) ?_
      refine lc3_weighed hc hPW n (k + 1) _ _ (by omega) ?_
      first
        | (rw [show dueF C.1 (P f) (n + 1) k v = dueF C.1 (P f) n (k + 1) (v + digR C.1 (P f) k) from rfl, digR_none h40, show v + nI 0 = v from Int32.add_zero v] at hQ; exact hQ)
        | (rw [show dueF C.1 (P f) (n + 1) k v = dueF C.1 (P f) n (k + 1) (v + digR C.1 (P f) k) from rfl, digR_even h40 h49] at hQ; exact hQ)
        | (rw [show dueF C.1 (P f) (n + 1) k v = dueF C.1 (P f) n (k + 1) (v + digR C.1 (P f) k) from rfl, digR_odd h40 h49] at hQ; exact hQ)
    · refine R_iload (pc := 43) dX3_weighedDigits_43 rfl ?_
      refine R_iload (pc := 45) dX3_weighedDigits_45 rfl ?_
      refine R_iconst (pc := 47) (x := nI 2) dX3_weighedDigits_47 rfl ?_
      refine R_irem (pc := 48) dX3_weighedDigits_48 (by decide) ?_
      rw [show nI k - nI k / nI 2 * nI 2 = nI (k % 2) from pk_rem (by omega) (by omega) (by omega)]
      refine R_if_ne (pc := 49) (t := 59) dX3_weighedDigits_49 (by decide) (fun h49 => ?_) (fun h49 => ?_)
      · refine R_iload (pc := 59) dX3_weighedDigits_59 rfl ?_
        refine R_iadd (pc := 61) dX3_weighedDigits_61 ?_
        refine R_istore (pc := 62) dX3_weighedDigits_62 (Nat.le_of_ble_eq_true rfl) rfl ?_
        refine R_iinc (pc := 64) dX3_weighedDigits_64 rfl (by first | exact nI_inc _ | rfl) rfl ?_
        refine R_goto (pc := 67) (t := 19) dX3_weighedDigits_67 (by decide) ?_
        refine lc3_weighed hc hPW n (k + 1) _ _ (by omega) ?_
        first
          | (rw [show dueF C.1 (P f) (n + 1) k v = dueF C.1 (P f) n (k + 1) (v + digR C.1 (P f) k) from rfl, digR_none h40, show v + nI 0 = v from Int32.add_zero v] at hQ; exact hQ)
          | (rw [show dueF C.1 (P f) (n + 1) k v = dueF C.1 (P f) n (k + 1) (v + digR C.1 (P f) k) from rfl, digR_even h40 h49] at hQ; exact hQ)
          | (rw [show dueF C.1 (P f) (n + 1) k v = dueF C.1 (P f) n (k + 1) (v + digR C.1 (P f) k) from rfl, digR_odd h40 h49] at hQ; exact hQ)
      · refine R_iconst (pc := 52) (x := nI 3) dX3_weighedDigits_52 rfl ?_
        refine R_iload (pc := 53) dX3_weighedDigits_53 rfl ?_
        refine R_imul (pc := 55) dX3_weighedDigits_55 ?_
        refine R_goto (pc := 56) (t := 61) dX3_weighedDigits_56 (by decide) ?_
        refine R_iadd (pc := 61) dX3_weighedDigits_61 ?_
        refine R_istore (pc := 62) dX3_weighedDigits_62 (Nat.le_of_ble_eq_true rfl) rfl ?_
        refine R_iinc (pc := 64) dX3_weighedDigits_64 rfl (by first | exact nI_inc _ | rfl) rfl ?_
        refine R_goto (pc := 67) (t := 19) dX3_weighedDigits_67 (by decide) ?_
        refine lc3_weighed hc hPW n (k + 1) _ _ (by omega) ?_
        first
          | (rw [show dueF C.1 (P f) (n + 1) k v = dueF C.1 (P f) n (k + 1) (v + digR C.1 (P f) k) from rfl, digR_none h40, show v + nI 0 = v from Int32.add_zero v] at hQ; exact hQ)
          | (rw [show dueF C.1 (P f) (n + 1) k v = dueF C.1 (P f) n (k + 1) (v + digR C.1 (P f) k) from rfl, digR_even h40 h49] at hQ; exact hQ)
          | (rw [show dueF C.1 (P f) (n + 1) k v = dueF C.1 (P f) n (k + 1) (v + digR C.1 (P f) k) from rfl, digR_odd h40 h49] at hQ; exact hQ)
theorem c3_weighed {l c f : Nat} {P Wd : Nat → Nat} {C : CdX} (hl : LyAt h l P Wd) (hc : CdAt h c C) (hf : f < 6) (hPW : ∀ f, f < 6 → P f + Wd f ≤ 24) (hQ : Q (some (.int (dueF C.1 (P f) (Wd f) 0 (nI 0)))) (h, z)) : Rn sA mX3_weighedDigits 0 [some (.ref l), some (.ref c), some (.int (nI f)), none, none, none, none, none] [] (h, z) Q := by
  have hl9 := hl
  obtain ⟨f2, f3, hl1, hl2, hl3, hl4⟩ := hl9
  refine R_aload_n (pc := 0) dX3_weighedDigits_0 rfl ?_
  refine R_iload_n (pc := 1) dX3_weighedDigits_1 rfl ?_
  refine R_callV (pc := 2) dX3_weighedDigits_2 rfl (by repeat (first | assumption | exact up_s | refine up_n (by omega) ?_)) rfl rfl ?_
  refine c3_firstOf hl hf ?_
  refine R_istore_n (pc := 5) dX3_weighedDigits_5 (Nat.le_of_ble_eq_true rfl) rfl ?_
  refine R_aload_n (pc := 6) dX3_weighedDigits_6 rfl ?_
  refine R_iload_n (pc := 7) dX3_weighedDigits_7 rfl ?_
  refine R_callV (pc := 8) dX3_weighedDigits_8 rfl (by repeat (first | assumption | exact up_s | refine up_n (by omega) ?_)) rfl rfl ?_
  refine c3_widthOf hl hf ?_
  refine R_istore (pc := 11) dX3_weighedDigits_11 (Nat.le_of_ble_eq_true rfl) rfl ?_
  refine R_iconst (pc := 13) (x := nI 0) dX3_weighedDigits_13 rfl ?_
  refine R_istore (pc := 14) dX3_weighedDigits_14 (Nat.le_of_ble_eq_true rfl) rfl ?_
  refine R_iconst (pc := 16) (x := nI 0) dX3_weighedDigits_16 rfl ?_
  refine R_istore (pc := 17) dX3_weighedDigits_17 (Nat.le_of_ble_eq_true rfl) rfl ?_
  exact lc3_weighed hc (hPW f hf) (Wd f) 0 (nI 0) none (by omega) hQ
theorem lc3_dueOn {l c : Nat} {P Wd : Nat → Nat} {C : CdX} (hl : LyAt h l P Wd) (hc : CdAt h c C) (hPW : ∀ f, f < 6 → P f + Wd f ≤ 24) : ∀ (n f : Nat) (v : Int32) (_ : f + n = 5) (_ : Q (some (.int (rem10 (dueO P Wd C.1 n f v)))) (h, z)), Rn sA mX3_dueOn 4 [some (.ref l), some (.ref c), some (.int v), some (.int (nI f))] [] (h, z) Q
  | 0, f, v, hk, hQ => by
    have hl9 := hl
    obtain ⟨f2, f3, hl1, hl2, hl3, hl4⟩ := hl9
    obtain rfl : f = 5 := by omega
    refine R_iload_n (pc := 4) dX3_dueOn_4 rfl ?_
    refine R_iconst (pc := 5) (x := nI 5) dX3_dueOn_5 rfl ?_
    refine R_icmp_ge (pc := 6) (t := 24) dX3_dueOn_6 (by decide) (fun _ => ?_) (fun hz9 => absurd (nI_le (by omega) (by omega)) hz9)
    refine R_iload_n (pc := 24) dX3_dueOn_24 rfl ?_
    refine R_bipush (pc := 25) (x := nI 10) dX3_dueOn_25 (by decide) ?_
    refine R_irem (pc := 27) dX3_dueOn_27 (by decide) ?_
    refine R_iret (pc := 28) dX3_dueOn_28 rfl ?_
    exact hQ
  | n + 1, f, v, hk, hQ => by
    have hl9 := hl
    obtain ⟨f2, f3, hl1, hl2, hl3, hl4⟩ := hl9
    refine R_iload_n (pc := 4) dX3_dueOn_4 rfl ?_
    refine R_iconst (pc := 5) (x := nI 5) dX3_dueOn_5 rfl ?_
    refine R_icmp_ge (pc := 6) (t := 24) dX3_dueOn_6 (by decide) (fun hz9 => absurd hz9 (nI_ge (by omega) (by omega))) (fun _ => ?_)
    refine R_iload_n (pc := 9) dX3_dueOn_9 rfl ?_
    refine R_aload_n (pc := 10) dX3_dueOn_10 rfl ?_
    refine R_aload_n (pc := 11) dX3_dueOn_11 rfl ?_
    refine R_iload_n (pc := 12) dX3_dueOn_12 rfl ?_
    refine R_callV (pc := 13) dX3_dueOn_13 rfl (by repeat (first | assumption | exact up_s | refine up_n (by omega) ?_)) rfl rfl ?_
    refine c3_weighed hl hc (by omega) hPW ?_
    refine R_iadd (pc := 16) dX3_dueOn_16 ?_
    refine R_istore_n (pc := 17) dX3_dueOn_17 (Nat.le_of_ble_eq_true rfl) rfl ?_
    refine R_iinc (pc := 18) dX3_dueOn_18 rfl (by first | exact nI_inc _ | rfl) rfl ?_
    refine R_goto (pc := 21) (t := 4) dX3_dueOn_21 (by decide) ?_
    rw [← dueF_s]
    exact lc3_dueOn hl hc hPW n (f + 1) _ (by omega) hQ
theorem c3_dueOn {l c : Nat} {P Wd : Nat → Nat} {C : CdX} (hl : LyAt h l P Wd) (hc : CdAt h c C) (hPW : ∀ f, f < 6 → P f + Wd f ≤ 24) (hQ : Q (some (.int (dueR P Wd C.1))) (h, z)) : Rn sA mX3_dueOn 0 [some (.ref l), some (.ref c), none, none] [] (h, z) Q := by
  refine R_iconst (pc := 0) (x := nI 0) dX3_dueOn_0 rfl ?_
  refine R_istore_n (pc := 1) dX3_dueOn_1 (Nat.le_of_ble_eq_true rfl) rfl ?_
  refine R_iconst (pc := 2) (x := nI 0) dX3_dueOn_2 rfl ?_
  refine R_istore_n (pc := 3) dX3_dueOn_3 (Nat.le_of_ble_eq_true rfl) rfl ?_
  exact lc3_dueOn hl hc hPW 5 0 (nI 0) (by omega) hQ
theorem c10_keyOf {a b d : Int32} (hQ : Q (some (.long (keyM a b d))) (h, z)) : Rn sA mX10_keyOf 0 [some (.int a), some (.int b), some (.int d)] [] (h, z) Q := by
  refine R_iload_n (pc := 0) dX10_keyOf_0 rfl ?_
  refine R_i2l (pc := 1) dX10_keyOf_1 ?_
  refine R_ldc2 (pc := 2) (x := (10000)) dX10_keyOf_2 rfl ?_
  refine R_lmul (pc := 5) dX10_keyOf_5 ?_
  refine R_iload_n (pc := 6) dX10_keyOf_6 rfl ?_
  refine R_i2l (pc := 7) dX10_keyOf_7 ?_
  refine R_ladd (pc := 8) dX10_keyOf_8 ?_
  refine R_ldc2 (pc := 9) (x := (10000)) dX10_keyOf_9 rfl ?_
  refine R_lmul (pc := 12) dX10_keyOf_12 ?_
  refine R_iload_n (pc := 13) dX10_keyOf_13 rfl ?_
  refine R_i2l (pc := 14) dX10_keyOf_14 ?_
  refine R_ladd (pc := 15) dX10_keyOf_15 ?_
  refine R_lret (pc := 16) dX10_keyOf_16 rfl ?_
  rw [keyM_eq]
  exact hQ
theorem c3_keyOn {l c : Nat} {P Wd : Nat → Nat} {C : CdX} (hl : LyAt h l P Wd) (hc : CdAt h c C) (hPW : ∀ f, f < 6 → P f + Wd f ≤ 24) (hQ : Q (some (.long (keyC P Wd C.1))) (h, z)) : Rn sA mX3_keyOn 0 [some (.ref l), some (.ref c), none, none, none] [] (h, z) Q := by
  have hl9 := hl
  obtain ⟨f2, f3, hl1, hl2, hl3, hl4⟩ := hl9
  refine R_aload_n (pc := 0) dX3_keyOn_0 rfl ?_
  refine R_aload_n (pc := 1) dX3_keyOn_1 rfl ?_
  refine R_iconst (pc := 2) (x := nI 0) dX3_keyOn_2 rfl ?_
  refine R_callV (pc := 3) dX3_keyOn_3 rfl (by repeat (first | assumption | exact up_s | refine up_n (by omega) ?_)) rfl rfl ?_
  refine c3_valueOn hl hc (by omega) hPW ?_
  refine R_istore_n (pc := 6) dX3_keyOn_6 (Nat.le_of_ble_eq_true rfl) rfl ?_
  refine R_aload_n (pc := 7) dX3_keyOn_7 rfl ?_
  refine R_aload_n (pc := 8) dX3_keyOn_8 rfl ?_
  refine R_iconst (pc := 9) (x := nI 1) dX3_keyOn_9 rfl ?_
  refine R_callV (pc := 10) dX3_keyOn_10 rfl (by repeat (first | assumption | exact up_s | refine up_n (by omega) ?_)) rfl rfl ?_
  refine c3_valueOn hl hc (by omega) hPW ?_
  refine R_istore_n (pc := 13) dX3_keyOn_13 (Nat.le_of_ble_eq_true rfl) rfl ?_
  refine R_aload_n (pc := 14) dX3_keyOn_14 rfl ?_
  refine R_aload_n (pc := 15) dX3_keyOn_15 rfl ?_
  refine R_iconst (pc := 16) (x := nI 2) dX3_keyOn_16 rfl ?_
  refine R_callV (pc := 17) dX3_keyOn_17 rfl (by repeat (first | assumption | exact up_s | refine up_n (by omega) ?_)) rfl rfl ?_
  refine c3_valueOn hl hc (by omega) hPW ?_
  refine R_istore (pc := 20) dX3_keyOn_20 (Nat.le_of_ble_eq_true rfl) rfl ?_
  refine R_iload_n (pc := 22) dX3_keyOn_22 rfl ?_
  refine R_ldc (pc := 23) (x := (-1000009)) dX3_keyOn_23 rfl ?_
  refine R_icmp_eq (pc := 25) (t := 41) dX3_keyOn_25 (by decide) (fun h25 => ?_) (fun h25 => ?_)
  · refine R_ldc2 (pc := 41) (x := (-1)) dX3_keyOn_41 rfl ?_
    refine R_lret (pc := 44) dX3_keyOn_44 rfl ?_
    unfold keyC at hQ
    first
      | (rw [if_pos (Or.inl h25)] at hQ; exact hQ)
      | (rw [if_pos (Or.inr (Or.inl h31))] at hQ; exact hQ)
      | (rw [if_pos (Or.inr (Or.inr h38))] at hQ; exact hQ)
      | (rw [if_neg (fun q => q.elim h25 (fun q => q.elim h31 h38))] at hQ; exact hQ)
  · refine R_iload_n (pc := 28) dX3_keyOn_28 rfl ?_
    refine R_ldc (pc := 29) (x := (-1000009)) dX3_keyOn_29 rfl ?_
    refine R_icmp_eq (pc := 31) (t := 41) dX3_keyOn_31 (by decide) (fun h31 => ?_) (fun h31 => ?_)
    · refine R_ldc2 (pc := 41) (x := (-1)) dX3_keyOn_41 rfl ?_
      refine R_lret (pc := 44) dX3_keyOn_44 rfl ?_
      unfold keyC at hQ
      first
        | (rw [if_pos (Or.inl h25)] at hQ; exact hQ)
        | (rw [if_pos (Or.inr (Or.inl h31))] at hQ; exact hQ)
        | (rw [if_pos (Or.inr (Or.inr h38))] at hQ; exact hQ)
        | (rw [if_neg (fun q => q.elim h25 (fun q => q.elim h31 h38))] at hQ; exact hQ)
    · refine R_iload (pc := 34) dX3_keyOn_34 rfl ?_
      refine R_ldc (pc := 36) (x := (-1000009)) dX3_keyOn_36 rfl ?_
      refine R_icmp_ne (pc := 38) (t := 45) dX3_keyOn_38 (by decide) (fun h38 => ?_) (fun h38 => ?_)
      · refine R_iload_n (pc := 45) dX3_keyOn_45 rfl ?_
        refine R_iload_n (pc := 46) dX3_keyOn_46 rfl ?_
        refine R_iload (pc := 47) dX3_keyOn_47 rfl ?_
        refine R_callS (pc := 49) dX3_keyOn_49 rfl (Or.inl rfl) rfl rfl ?_
        refine c10_keyOf ?_
        refine R_lret (pc := 52) dX3_keyOn_52 rfl ?_
        unfold keyC at hQ
        first
          | (rw [if_pos (Or.inl h25)] at hQ; exact hQ)
          | (rw [if_pos (Or.inr (Or.inl h31))] at hQ; exact hQ)
          | (rw [if_pos (Or.inr (Or.inr h38))] at hQ; exact hQ)
          | (rw [if_neg (fun q => q.elim h25 (fun q => q.elim h31 h38))] at hQ; exact hQ)
      · refine R_ldc2 (pc := 41) (x := (-1)) dX3_keyOn_41 rfl ?_
        refine R_lret (pc := 44) dX3_keyOn_44 rfl ?_
        unfold keyC at hQ
        first
          | (rw [if_pos (Or.inl h25)] at hQ; exact hQ)
          | (rw [if_pos (Or.inr (Or.inl h31))] at hQ; exact hQ)
          | (rw [if_pos (Or.inr (Or.inr h38))] at hQ; exact hQ)
          | (rw [if_neg (fun q => q.elim h25 (fun q => q.elim h31 h38))] at hQ; exact hQ)
theorem c10_clear {t : Nat} {T : Nat → Int32} (ht : TtAt h t T) (hQ : ∀ h2 : Nat → Option am_C, TtAt h2 t (fun _ => nI 0) → (∀ a, ¬ a = t → h2 a = h a) → Q none (h2, z)) : Rn sA mX10_clear 0 [some (.ref t)] [] (h, z) Q := by
  unfold TtAt at ht
  refine R_aload_n (pc := 0) dX10_clear_0 rfl ?_
  refine R_iconst (pc := 1) (x := nI 0) dX10_clear_1 rfl ?_
  refine R_putf (pc := 2) dX10_clear_2 rfl (by repeat (first | assumption | exact up_s | refine up_n (by omega) ?_)) rfl (Or.inl rfl) rfl ?_
  refine R_aload_n (pc := 5) dX10_clear_5 rfl ?_
  refine R_iconst (pc := 6) (x := nI 0) dX10_clear_6 rfl ?_
  refine R_putf (pc := 7) dX10_clear_7 rfl (by repeat (first | assumption | exact up_s | refine up_n (by omega) ?_)) rfl (Or.inl rfl) rfl ?_
  refine R_aload_n (pc := 10) dX10_clear_10 rfl ?_
  refine R_iconst (pc := 11) (x := nI 0) dX10_clear_11 rfl ?_
  refine R_putf (pc := 12) dX10_clear_12 rfl (by repeat (first | assumption | exact up_s | refine up_n (by omega) ?_)) rfl (Or.inl rfl) rfl ?_
  refine R_aload_n (pc := 15) dX10_clear_15 rfl ?_
  refine R_iconst (pc := 16) (x := nI 0) dX10_clear_16 rfl ?_
  refine R_putf (pc := 17) dX10_clear_17 rfl (by repeat (first | assumption | exact up_s | refine up_n (by omega) ?_)) rfl (Or.inl rfl) rfl ?_
  refine R_aload_n (pc := 20) dX10_clear_20 rfl ?_
  refine R_iconst (pc := 21) (x := nI 0) dX10_clear_21 rfl ?_
  refine R_putf (pc := 22) dX10_clear_22 rfl (by repeat (first | assumption | exact up_s | refine up_n (by omega) ?_)) rfl (Or.inl rfl) rfl ?_
  refine R_aload_n (pc := 25) dX10_clear_25 rfl ?_
  refine R_iconst (pc := 26) (x := nI 0) dX10_clear_26 rfl ?_
  refine R_putf (pc := 27) dX10_clear_27 rfl (by repeat (first | assumption | exact up_s | refine up_n (by omega) ?_)) rfl (Or.inl rfl) rfl ?_
  refine R_aload_n (pc := 30) dX10_clear_30 rfl ?_
  refine R_iconst (pc := 31) (x := nI 0) dX10_clear_31 rfl ?_
  refine R_putf (pc := 32) dX10_clear_32 rfl (by repeat (first | assumption | exact up_s | refine up_n (by omega) ?_)) rfl (Or.inl rfl) rfl ?_
  refine R_aload_n (pc := 35) dX10_clear_35 rfl ?_
  refine R_iconst (pc := 36) (x := nI 0) dX10_clear_36 rfl ?_
  refine R_putf (pc := 37) dX10_clear_37 rfl (by repeat (first | assumption | exact up_s | refine up_n (by omega) ?_)) rfl (Or.inl rfl) rfl ?_
  refine R_vret (pc := 40) dX10_clear_40 rfl ?_
  exact hQ _ up_s (fun a ha => by simp only [va_up, if_neg ha])
theorem c10_key {t : Nat} {T : Nat → Int32} (ht : TtAt h t T) (hQ : Q (some (.long (keyM (T 0) (T 1) (T 2)))) (h, z)) : Rn sA mX10_key 0 [some (.ref t)] [] (h, z) Q := by
  unfold TtAt at ht
  refine R_aload_n (pc := 0) dX10_key_0 rfl ?_
  refine R_getf (pc := 1) dX10_key_1 rfl (by repeat (first | assumption | exact up_s | refine up_n (by omega) ?_)) rfl ?_
  refine R_aload_n (pc := 4) dX10_key_4 rfl ?_
  refine R_getf (pc := 5) dX10_key_5 rfl (by repeat (first | assumption | exact up_s | refine up_n (by omega) ?_)) rfl ?_
  refine R_aload_n (pc := 8) dX10_key_8 rfl ?_
  refine R_getf (pc := 9) dX10_key_9 rfl (by repeat (first | assumption | exact up_s | refine up_n (by omega) ?_)) rfl ?_
  refine R_callS (pc := 12) dX10_key_12 rfl (Or.inl rfl) rfl rfl ?_
  refine c10_keyOf ?_
  refine R_lret (pc := 15) dX10_key_15 rfl ?_
  exact hQ
theorem c10_overtime {t : Nat} {T : Nat → Int32} {a : Int32} (ht : TtAt h t T) (hQ : Q (some (.int (ovr (T 5) a (T 3)))) (h, z)) : Rn sA mX10_overtimeBeyond 0 [some (.ref t), some (.int a)] [] (h, z) Q := by
  unfold TtAt at ht
  refine R_aload_n (pc := 0) dX10_overtimeBeyond_0 rfl ?_
  refine R_getf (pc := 1) dX10_overtimeBeyond_1 rfl (by repeat (first | assumption | exact up_s | refine up_n (by omega) ?_)) rfl ?_
  refine R_iload_n (pc := 4) dX10_overtimeBeyond_4 rfl ?_
  refine R_icmp_gt (pc := 5) (t := 10) dX10_overtimeBeyond_5 (by decide) (fun h5 => ?_) (fun h5 => ?_)
  · refine R_aload_n (pc := 10) dX10_overtimeBeyond_10 rfl ?_
    refine R_getf (pc := 11) dX10_overtimeBeyond_11 rfl (by repeat (first | assumption | exact up_s | refine up_n (by omega) ?_)) rfl ?_
    refine R_iload_n (pc := 14) dX10_overtimeBeyond_14 rfl ?_
    refine R_isub (pc := 15) dX10_overtimeBeyond_15 ?_
    refine R_i2l (pc := 16) dX10_overtimeBeyond_16 ?_
    refine R_aload_n (pc := 17) dX10_overtimeBeyond_17 rfl ?_
    refine R_getf (pc := 18) dX10_overtimeBeyond_18 rfl (by repeat (first | assumption | exact up_s | refine up_n (by omega) ?_)) rfl ?_
    refine R_i2l (pc := 21) dX10_overtimeBeyond_21 ?_
    refine R_lmul (pc := 22) dX10_overtimeBeyond_22 ?_
    refine R_ldc2 (pc := 23) (x := (20)) dX10_overtimeBeyond_23 rfl ?_
    refine R_ldiv (pc := 26) dX10_overtimeBeyond_26 (by decide) ?_
    refine R_l2i (pc := 27) dX10_overtimeBeyond_27 ?_
    refine R_iret (pc := 28) dX10_overtimeBeyond_28 rfl ?_
    unfold ovr at hQ
    first
      | (rw [if_pos h5] at hQ; exact hQ)
      | (rw [if_neg h5] at hQ; exact hQ)
  · refine R_iconst (pc := 8) (x := nI 0) dX10_overtimeBeyond_8 rfl ?_
    refine R_iret (pc := 9) dX10_overtimeBeyond_9 rfl ?_
    unfold ovr at hQ
    first
      | (rw [if_pos h5] at hQ; exact hQ)
      | (rw [if_neg h5] at hQ; exact hQ)
theorem c10_addOvertime {t : Nat} {T : Nat → Int32} {a : Int32} (ht : TtAt h t T) (hQ : ∀ h2 : Nat → Option am_C, TtAt h2 t (upd (upd T 6 (T 6 + a)) 7 (T 7 + a)) → (∀ a, ¬ a = t → h2 a = h a) → Q none (h2, z)) : Rn sA mX10_addOvertime 0 [some (.ref t), some (.int a)] [] (h, z) Q := by
  unfold TtAt at ht
  refine R_aload_n (pc := 0) dX10_addOvertime_0 rfl ?_
  refine R_dup (pc := 1) dX10_addOvertime_1 rfl ?_
  refine R_getf (pc := 2) dX10_addOvertime_2 rfl (by repeat (first | assumption | exact up_s | refine up_n (by omega) ?_)) rfl ?_
  refine R_iload_n (pc := 5) dX10_addOvertime_5 rfl ?_
  refine R_iadd (pc := 6) dX10_addOvertime_6 ?_
  refine R_putf (pc := 7) dX10_addOvertime_7 rfl (by repeat (first | assumption | exact up_s | refine up_n (by omega) ?_)) rfl (Or.inl rfl) rfl ?_
  refine R_aload_n (pc := 10) dX10_addOvertime_10 rfl ?_
  refine R_dup (pc := 11) dX10_addOvertime_11 rfl ?_
  refine R_getf (pc := 12) dX10_addOvertime_12 rfl (by repeat (first | assumption | exact up_s | refine up_n (by omega) ?_)) rfl ?_
  refine R_iload_n (pc := 15) dX10_addOvertime_15 rfl ?_
  refine R_iadd (pc := 16) dX10_addOvertime_16 ?_
  refine R_putf (pc := 17) dX10_addOvertime_17 rfl (by repeat (first | assumption | exact up_s | refine up_n (by omega) ?_)) rfl (Or.inl rfl) rfl ?_
  refine R_vret (pc := 20) dX10_addOvertime_20 rfl ?_
  exact hQ _ up_s (fun a ha => by simp only [va_up, if_neg ha])
def adT (T S : Nat → Int32) : Nat → Int32 := fun k => if k < 4 then S k else if k < 7 then T k + S k else T k
theorem c10_addCard {t s : Nat} {T S : Nat → Int32} (ht : TtAt h t T) (hs : TtAt h s S) (hts : ¬ s = t) (hQ : ∀ h2 : Nat → Option am_C, TtAt h2 t (adT T S) → (∀ a, ¬ a = t → h2 a = h a) → Q none (h2, z)) : Rn sA mX10_addCard 0 [some (.ref t), some (.ref s)] [] (h, z) Q := by
  unfold TtAt at ht hs
  refine R_aload_n (pc := 0) dX10_addCard_0 rfl ?_
  refine R_aload_n (pc := 1) dX10_addCard_1 rfl ?_
  refine R_getf (pc := 2) dX10_addCard_2 rfl (by repeat (first | assumption | exact up_s | refine up_n (by omega) ?_)) rfl ?_
  refine R_putf (pc := 5) dX10_addCard_5 rfl (by repeat (first | assumption | exact up_s | refine up_n (by omega) ?_)) rfl (Or.inl rfl) rfl ?_
  refine R_aload_n (pc := 8) dX10_addCard_8 rfl ?_
  refine R_aload_n (pc := 9) dX10_addCard_9 rfl ?_
  refine R_getf (pc := 10) dX10_addCard_10 rfl (by repeat (first | assumption | exact up_s | refine up_n (by omega) ?_)) rfl ?_
  refine R_putf (pc := 13) dX10_addCard_13 rfl (by repeat (first | assumption | exact up_s | refine up_n (by omega) ?_)) rfl (Or.inl rfl) rfl ?_
  refine R_aload_n (pc := 16) dX10_addCard_16 rfl ?_
  refine R_aload_n (pc := 17) dX10_addCard_17 rfl ?_
  refine R_getf (pc := 18) dX10_addCard_18 rfl (by repeat (first | assumption | exact up_s | refine up_n (by omega) ?_)) rfl ?_
  refine R_putf (pc := 21) dX10_addCard_21 rfl (by repeat (first | assumption | exact up_s | refine up_n (by omega) ?_)) rfl (Or.inl rfl) rfl ?_
  refine R_aload_n (pc := 24) dX10_addCard_24 rfl ?_
  refine R_aload_n (pc := 25) dX10_addCard_25 rfl ?_
  refine R_getf (pc := 26) dX10_addCard_26 rfl (by repeat (first | assumption | exact up_s | refine up_n (by omega) ?_)) rfl ?_
  refine R_putf (pc := 29) dX10_addCard_29 rfl (by repeat (first | assumption | exact up_s | refine up_n (by omega) ?_)) rfl (Or.inl rfl) rfl ?_
  refine R_aload_n (pc := 32) dX10_addCard_32 rfl ?_
  refine R_dup (pc := 33) dX10_addCard_33 rfl ?_
  refine R_getf (pc := 34) dX10_addCard_34 rfl (by repeat (first | assumption | exact up_s | refine up_n (by omega) ?_)) rfl ?_
  refine R_aload_n (pc := 37) dX10_addCard_37 rfl ?_
  refine R_getf (pc := 38) dX10_addCard_38 rfl (by repeat (first | assumption | exact up_s | refine up_n (by omega) ?_)) rfl ?_
  refine R_iadd (pc := 41) dX10_addCard_41 ?_
  refine R_putf (pc := 42) dX10_addCard_42 rfl (by repeat (first | assumption | exact up_s | refine up_n (by omega) ?_)) rfl (Or.inl rfl) rfl ?_
  refine R_aload_n (pc := 45) dX10_addCard_45 rfl ?_
  refine R_dup (pc := 46) dX10_addCard_46 rfl ?_
  refine R_getf (pc := 47) dX10_addCard_47 rfl (by repeat (first | assumption | exact up_s | refine up_n (by omega) ?_)) rfl ?_
  refine R_aload_n (pc := 50) dX10_addCard_50 rfl ?_
  refine R_getf (pc := 51) dX10_addCard_51 rfl (by repeat (first | assumption | exact up_s | refine up_n (by omega) ?_)) rfl ?_
  refine R_iadd (pc := 54) dX10_addCard_54 ?_
  refine R_putf (pc := 55) dX10_addCard_55 rfl (by repeat (first | assumption | exact up_s | refine up_n (by omega) ?_)) rfl (Or.inl rfl) rfl ?_
  refine R_aload_n (pc := 58) dX10_addCard_58 rfl ?_
  refine R_dup (pc := 59) dX10_addCard_59 rfl ?_
  refine R_getf (pc := 60) dX10_addCard_60 rfl (by repeat (first | assumption | exact up_s | refine up_n (by omega) ?_)) rfl ?_
  refine R_aload_n (pc := 63) dX10_addCard_63 rfl ?_
  refine R_getf (pc := 64) dX10_addCard_64 rfl (by repeat (first | assumption | exact up_s | refine up_n (by omega) ?_)) rfl ?_
  refine R_iadd (pc := 67) dX10_addCard_67 ?_
  refine R_putf (pc := 68) dX10_addCard_68 rfl (by repeat (first | assumption | exact up_s | refine up_n (by omega) ?_)) rfl (Or.inl rfl) rfl ?_
  refine R_vret (pc := 71) dX10_addCard_71 rfl ?_
  exact hQ _ up_s (fun a ha => by simp only [va_up, if_neg ha])
def slT (g : Nat → Int32) : Nat → Int32 := fun k => if k = 0 then g 0 else if k = 1 then g 1 else if k = 2 then g 2 else if k = 3 then g 4 else if k = 4 then nI 1 else if k = 5 then g 3 else if k = 6 then g 3 * g 4 / nI 10 else nI 0
theorem c10_fillFrom {t l c : Nat} {T : Nat → Int32} {P Wd : Nat → Nat} {C : CdX} (ht : TtAt h t T) (hl : LyAt h l P Wd) (hc : CdAt h c C) (hPW : ∀ f, f < 6 → P f + Wd f ≤ 24) (htl : t < l ∨ l + 3 ≤ t) (htc : t < c ∨ c + 2 ≤ t) (h0 : noVal P Wd C.1 → ∀ (h2 : Nat → Option am_C) (T2 : Nat → Int32), TtAt h2 t T2 → (∀ a, ¬ a = t → h2 a = h a) → Q (some (.int (nI 0))) (h2, z)) (h1 : ¬ noVal P Wd C.1 → ∀ (h2 : Nat → Option am_C), TtAt h2 t (slT (fun f => valF P Wd C.1 f)) → (∀ a, ¬ a = t → h2 a = h a) → Q (some (.int (nI 1))) (h2, z)) : Rn sA mX10_fillFrom 0 [some (.ref t), some (.ref c), some (.ref l)] [] (h, z) Q := by
  unfold TtAt at ht
  have hl9 := hl
  obtain ⟨f2, f3, hl1, hl2, hl3, hl4⟩ := hl9
  refine R_aload_n (pc := 0) dX10_fillFrom_0 rfl ?_
  refine R_aload_n (pc := 1) dX10_fillFrom_1 rfl ?_
  refine R_aload_n (pc := 2) dX10_fillFrom_2 rfl ?_
  refine R_iconst (pc := 3) (x := nI 0) dX10_fillFrom_3 rfl ?_
  refine R_callV (pc := 4) dX10_fillFrom_4 rfl (by repeat (first | assumption | exact up_s | refine up_n (by omega) ?_)) rfl rfl ?_
  refine c3_valueOn (LyAt.fr hl (fun x x1 x2 => by simp only [va_up]; (repeat rw [if_neg (by omega)]))) (CdAt.fr hc (fun x x1 x2 => by simp only [va_up]; (repeat rw [if_neg (by omega)]))) (by omega) hPW ?_
  refine R_putf (pc := 7) dX10_fillFrom_7 rfl (by repeat (first | assumption | exact up_s | refine up_n (by omega) ?_)) rfl (Or.inl rfl) rfl ?_
  refine R_aload_n (pc := 10) dX10_fillFrom_10 rfl ?_
  refine R_aload_n (pc := 11) dX10_fillFrom_11 rfl ?_
  refine R_aload_n (pc := 12) dX10_fillFrom_12 rfl ?_
  refine R_iconst (pc := 13) (x := nI 1) dX10_fillFrom_13 rfl ?_
  refine R_callV (pc := 14) dX10_fillFrom_14 rfl (by repeat (first | assumption | exact up_s | refine up_n (by omega) ?_)) rfl rfl ?_
  refine c3_valueOn (LyAt.fr hl (fun x x1 x2 => by simp only [va_up]; (repeat rw [if_neg (by omega)]))) (CdAt.fr hc (fun x x1 x2 => by simp only [va_up]; (repeat rw [if_neg (by omega)]))) (by omega) hPW ?_
  refine R_putf (pc := 17) dX10_fillFrom_17 rfl (by repeat (first | assumption | exact up_s | refine up_n (by omega) ?_)) rfl (Or.inl rfl) rfl ?_
  refine R_aload_n (pc := 20) dX10_fillFrom_20 rfl ?_
  refine R_aload_n (pc := 21) dX10_fillFrom_21 rfl ?_
  refine R_aload_n (pc := 22) dX10_fillFrom_22 rfl ?_
  refine R_iconst (pc := 23) (x := nI 2) dX10_fillFrom_23 rfl ?_
  refine R_callV (pc := 24) dX10_fillFrom_24 rfl (by repeat (first | assumption | exact up_s | refine up_n (by omega) ?_)) rfl rfl ?_
  refine c3_valueOn (LyAt.fr hl (fun x x1 x2 => by simp only [va_up]; (repeat rw [if_neg (by omega)]))) (CdAt.fr hc (fun x x1 x2 => by simp only [va_up]; (repeat rw [if_neg (by omega)]))) (by omega) hPW ?_
  refine R_putf (pc := 27) dX10_fillFrom_27 rfl (by repeat (first | assumption | exact up_s | refine up_n (by omega) ?_)) rfl (Or.inl rfl) rfl ?_
  refine R_aload_n (pc := 30) dX10_fillFrom_30 rfl ?_
  refine R_aload_n (pc := 31) dX10_fillFrom_31 rfl ?_
  refine R_aload_n (pc := 32) dX10_fillFrom_32 rfl ?_
  refine R_iconst (pc := 33) (x := nI 3) dX10_fillFrom_33 rfl ?_
  refine R_callV (pc := 34) dX10_fillFrom_34 rfl (by repeat (first | assumption | exact up_s | refine up_n (by omega) ?_)) rfl rfl ?_
  refine c3_valueOn (LyAt.fr hl (fun x x1 x2 => by simp only [va_up]; (repeat rw [if_neg (by omega)]))) (CdAt.fr hc (fun x x1 x2 => by simp only [va_up]; (repeat rw [if_neg (by omega)]))) (by omega) hPW ?_
  refine R_putf (pc := 37) dX10_fillFrom_37 rfl (by repeat (first | assumption | exact up_s | refine up_n (by omega) ?_)) rfl (Or.inl rfl) rfl ?_
  refine R_aload_n (pc := 40) dX10_fillFrom_40 rfl ?_
  refine R_aload_n (pc := 41) dX10_fillFrom_41 rfl ?_
  refine R_aload_n (pc := 42) dX10_fillFrom_42 rfl ?_
  refine R_iconst (pc := 43) (x := nI 4) dX10_fillFrom_43 rfl ?_
  refine R_callV (pc := 44) dX10_fillFrom_44 rfl (by repeat (first | assumption | exact up_s | refine up_n (by omega) ?_)) rfl rfl ?_
  refine c3_valueOn (LyAt.fr hl (fun x x1 x2 => by simp only [va_up]; (repeat rw [if_neg (by omega)]))) (CdAt.fr hc (fun x x1 x2 => by simp only [va_up]; (repeat rw [if_neg (by omega)]))) (by omega) hPW ?_
  refine R_putf (pc := 47) dX10_fillFrom_47 rfl (by repeat (first | assumption | exact up_s | refine up_n (by omega) ?_)) rfl (Or.inl rfl) rfl ?_
  refine R_aload_n (pc := 50) dX10_fillFrom_50 rfl ?_
  refine R_getf (pc := 51) dX10_fillFrom_51 rfl (by repeat (first | assumption | exact up_s | refine up_n (by omega) ?_)) rfl ?_
  refine R_ldc (pc := 54) (x := (-1000009)) dX10_fillFrom_54 rfl ?_
  refine R_icmp_eq (pc := 56) (t := 95) dX10_fillFrom_56 (by decide) (fun h56 => ?_) (fun h56 => ?_)
  · refine R_iconst (pc := 95) (x := nI 0) dX10_fillFrom_95 rfl ?_
    refine R_zret (pc := 96) dX10_fillFrom_96 rfl (by decide) ?_
    first
      | exact h1 (fun q => q.elim h56 (fun q => q.elim h65 (fun q => q.elim h74 (fun q => q.elim h83 h92)))) _ up_s (fun a ha => by simp only [va_up, if_neg ha])
      | exact h0 (by unfold noVal; simp only [*, true_or, or_true]) _ (fun k => if k = 0 then valF P Wd C.1 0 else if k = 1 then valF P Wd C.1 1 else if k = 2 then valF P Wd C.1 2 else if k = 3 then valF P Wd C.1 4 else if k = 5 then valF P Wd C.1 3 else T k) up_s (fun a ha => by simp only [va_up, if_neg ha])
  · refine R_aload_n (pc := 59) dX10_fillFrom_59 rfl ?_
    refine R_getf (pc := 60) dX10_fillFrom_60 rfl (by repeat (first | assumption | exact up_s | refine up_n (by omega) ?_)) rfl ?_
    refine R_ldc (pc := 63) (x := (-1000009)) dX10_fillFrom_63 rfl ?_
    refine R_icmp_eq (pc := 65) (t := 95) dX10_fillFrom_65 (by decide) (fun h65 => ?_) (fun h65 => ?_)
    · refine R_iconst (pc := 95) (x := nI 0) dX10_fillFrom_95 rfl ?_
      refine R_zret (pc := 96) dX10_fillFrom_96 rfl (by decide) ?_
      first
        | exact h1 (fun q => q.elim h56 (fun q => q.elim h65 (fun q => q.elim h74 (fun q => q.elim h83 h92)))) _ up_s (fun a ha => by simp only [va_up, if_neg ha])
        | exact h0 (by unfold noVal; simp only [*, true_or, or_true]) _ (fun k => if k = 0 then valF P Wd C.1 0 else if k = 1 then valF P Wd C.1 1 else if k = 2 then valF P Wd C.1 2 else if k = 3 then valF P Wd C.1 4 else if k = 5 then valF P Wd C.1 3 else T k) up_s (fun a ha => by simp only [va_up, if_neg ha])
    · refine R_aload_n (pc := 68) dX10_fillFrom_68 rfl ?_
      refine R_getf (pc := 69) dX10_fillFrom_69 rfl (by repeat (first | assumption | exact up_s | refine up_n (by omega) ?_)) rfl ?_
      refine R_ldc (pc := 72) (x := (-1000009)) dX10_fillFrom_72 rfl ?_
      refine R_icmp_eq (pc := 74) (t := 95) dX10_fillFrom_74 (by decide) (fun h74 => ?_) (fun h74 => ?_)
      · refine R_iconst (pc := 95) (x := nI 0) dX10_fillFrom_95 rfl ?_
        refine R_zret (pc := 96) dX10_fillFrom_96 rfl (by decide) ?_
        first
          | exact h1 (fun q => q.elim h56 (fun q => q.elim h65 (fun q => q.elim h74 (fun q => q.elim h83 h92)))) _ up_s (fun a ha => by simp only [va_up, if_neg ha])
          | exact h0 (by unfold noVal; simp only [*, true_or, or_true]) _ (fun k => if k = 0 then valF P Wd C.1 0 else if k = 1 then valF P Wd C.1 1 else if k = 2 then valF P Wd C.1 2 else if k = 3 then valF P Wd C.1 4 else if k = 5 then valF P Wd C.1 3 else T k) up_s (fun a ha => by simp only [va_up, if_neg ha])
      · refine R_aload_n (pc := 77) dX10_fillFrom_77 rfl ?_
        refine R_getf (pc := 78) dX10_fillFrom_78 rfl (by repeat (first | assumption | exact up_s | refine up_n (by omega) ?_)) rfl ?_
        refine R_ldc (pc := 81) (x := (-1000009)) dX10_fillFrom_81 rfl ?_
        refine R_icmp_eq (pc := 83) (t := 95) dX10_fillFrom_83 (by decide) (fun h83 => ?_) (fun h83 => ?_)
        · refine R_iconst (pc := 95) (x := nI 0) dX10_fillFrom_95 rfl ?_
          refine R_zret (pc := 96) dX10_fillFrom_96 rfl (by decide) ?_
          first
            | exact h1 (fun q => q.elim h56 (fun q => q.elim h65 (fun q => q.elim h74 (fun q => q.elim h83 h92)))) _ up_s (fun a ha => by simp only [va_up, if_neg ha])
            | exact h0 (by unfold noVal; simp only [*, true_or, or_true]) _ (fun k => if k = 0 then valF P Wd C.1 0 else if k = 1 then valF P Wd C.1 1 else if k = 2 then valF P Wd C.1 2 else if k = 3 then valF P Wd C.1 4 else if k = 5 then valF P Wd C.1 3 else T k) up_s (fun a ha => by simp only [va_up, if_neg ha])
        · refine R_aload_n (pc := 86) dX10_fillFrom_86 rfl ?_
          refine R_getf (pc := 87) dX10_fillFrom_87 rfl (by repeat (first | assumption | exact up_s | refine up_n (by omega) ?_)) rfl ?_
          refine R_ldc (pc := 90) (x := (-1000009)) dX10_fillFrom_90 rfl ?_
          refine R_icmp_ne (pc := 92) (t := 97) dX10_fillFrom_92 (by decide) (fun h92 => ?_) (fun h92 => ?_)
          · refine R_aload_n (pc := 97) dX10_fillFrom_97 rfl ?_
            refine R_iconst (pc := 98) (x := nI 1) dX10_fillFrom_98 rfl ?_
            refine R_putf (pc := 99) dX10_fillFrom_99 rfl (by repeat (first | assumption | exact up_s | refine up_n (by omega) ?_)) rfl (Or.inl rfl) rfl ?_
            refine R_aload_n (pc := 102) dX10_fillFrom_102 rfl ?_
            refine R_aload_n (pc := 103) dX10_fillFrom_103 rfl ?_
            refine R_getf (pc := 104) dX10_fillFrom_104 rfl (by repeat (first | assumption | exact up_s | refine up_n (by omega) ?_)) rfl ?_
            refine R_aload_n (pc := 107) dX10_fillFrom_107 rfl ?_
            refine R_getf (pc := 108) dX10_fillFrom_108 rfl (by repeat (first | assumption | exact up_s | refine up_n (by omega) ?_)) rfl ?_
            refine R_imul (pc := 111) dX10_fillFrom_111 ?_
            refine R_bipush (pc := 112) (x := nI 10) dX10_fillFrom_112 (by decide) ?_
            refine R_idiv (pc := 114) dX10_fillFrom_114 (by decide) ?_
            refine R_putf (pc := 115) dX10_fillFrom_115 rfl (by repeat (first | assumption | exact up_s | refine up_n (by omega) ?_)) rfl (Or.inl rfl) rfl ?_
            refine R_aload_n (pc := 118) dX10_fillFrom_118 rfl ?_
            refine R_iconst (pc := 119) (x := nI 0) dX10_fillFrom_119 rfl ?_
            refine R_putf (pc := 120) dX10_fillFrom_120 rfl (by repeat (first | assumption | exact up_s | refine up_n (by omega) ?_)) rfl (Or.inl rfl) rfl ?_
            refine R_iconst (pc := 123) (x := nI 1) dX10_fillFrom_123 rfl ?_
            refine R_zret (pc := 124) dX10_fillFrom_124 rfl (by decide) ?_
            first
              | exact h1 (fun q => q.elim h56 (fun q => q.elim h65 (fun q => q.elim h74 (fun q => q.elim h83 h92)))) _ up_s (fun a ha => by simp only [va_up, if_neg ha])
              | exact h0 (by unfold noVal; simp only [*, true_or, or_true]) _ (fun k => if k = 0 then valF P Wd C.1 0 else if k = 1 then valF P Wd C.1 1 else if k = 2 then valF P Wd C.1 2 else if k = 3 then valF P Wd C.1 4 else if k = 5 then valF P Wd C.1 3 else T k) up_s (fun a ha => by simp only [va_up, if_neg ha])
          · refine R_iconst (pc := 95) (x := nI 0) dX10_fillFrom_95 rfl ?_
            refine R_zret (pc := 96) dX10_fillFrom_96 rfl (by decide) ?_
            first
              | exact h1 (fun q => q.elim h56 (fun q => q.elim h65 (fun q => q.elim h74 (fun q => q.elim h83 h92)))) _ up_s (fun a ha => by simp only [va_up, if_neg ha])
              | exact h0 (by unfold noVal; simp only [*, true_or, or_true]) _ (fun k => if k = 0 then valF P Wd C.1 0 else if k = 1 then valF P Wd C.1 1 else if k = 2 then valF P Wd C.1 2 else if k = 3 then valF P Wd C.1 4 else if k = 5 then valF P Wd C.1 3 else T k) up_s (fun a ha => by simp only [va_up, if_neg ha])
end CC1
