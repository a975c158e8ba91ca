section CE3
variable {sA : Nat} {h : Nat → Option am_C} {z : Nat × Nat} {Q : Option Value → am_H → Prop}
def OutI (h h3 : Nat → Option am_C) (z3 : Nat × Nat) (x B Y : Nat) (V PA : Nat → Int32) (pm : Nat) (IM : Nat → Int32) (fl : Nat) (T : Nat → Int32) (l : Nat) (fk fp : Int32) : Prop := StW h3 (x + 1) V ∧ RstI h3 z3 x B Y PA pm IM fl T l fk fp ∧ ScrI h3 x ∧ ∀ a, (a < x ∨ (x + 158 ≤ a ∧ a < B)) → h3 a = h a
theorem OutI.mk {h h2 h3 : Nat → Option am_C} {z3 : Nat × Nat} {x B Y : Nat} {V PA : Nat → Int32} {pm : Nat} {IM : Nat → Int32} {fl : Nat} {T : Nat → Int32} {l : Nat} {fk fp : Int32} (r : RstI h2 z3 x B Y PA pm IM fl T l fk fp) (sc : ScrI h2 x) (f2 : ∀ a, ¬ a = x + 94 → ¬ a = x + 95 → a < B → h2 a = h a) (e : ∀ a, (a < x + 1 ∨ x + 94 ≤ a) → h3 a = h2 a) (s : StW h3 (x + 1) V) : OutI h h3 z3 x B Y V PA pm IM fl T l fk fp := ⟨s, r.fr (fun y hy => e y (by have := r.1; omega)), sc.fr (fun y y1 y2 => e y (by omega)), fun a ha => (e a (by omega)).trans (f2 a (by omega) (by omega) (by have := r.1; omega))⟩
theorem OutI.frm {h h2 h3 : Nat → Option am_C} {z3 : Nat × Nat} {x B Y : Nat} {PA : Nat → Int32} {pm : Nat} {IM : Nat → Int32} {fl : Nat} {T : Nat → Int32} {l : Nat} {fk fp : Int32} (r : RstI h2 z3 x B Y PA pm IM fl T l fk fp) (f2 : ∀ a, ¬ a = x + 94 → ¬ a = x + 95 → a < B → h2 a = h a) (e : ∀ a, (a < x + 1 ∨ x + 158 ≤ a) → h3 a = h2 a) : ∀ a, (a < x ∨ (x + 158 ≤ a ∧ a < B)) → h3 a = h a := fun a ha => (e a (by omega)).trans (f2 a (by omega) (by omega) (by have := r.1; omega))
theorem RpR.cg {U V : Nat → Int32} {R : RpX} (a : RpR U R) (e : ∀ j, 1060 ≤ j → j < 2754 → V j = U j) : RpR V R := by
  obtain ⟨d1, d2, d3, d4, d5, d6, d7, d8⟩ := a
  have el : ∀ i, i ≤ 161 → lnN V i = lnN U i := fun i hi => cnt_congr (fun l hl => by rw [e _ (by omega) (by omega)])
  refine ⟨(e 1304 (by omega) (by omega)).trans d1, d2, (e 1062 (by omega) (by omega)).trans d3, d4, (e 1061 (by omega) (by omega)).trans d5, fun i hi j hj => ?_, fun i hi h0 => ?_, fun k hk => ?_⟩
  · rw [e _ (by omega) (by omega)]; exact d6 i hi j hj
  · rw [e _ (by omega) (by omega)] at h0
    have := lnN_le (U := U) i
    rw [el i (by omega), e _ (by omega) (by omega)]
    exact d7 i hi h0
  · rw [e _ (by omega) (by omega)]; exact d8 k hk
theorem LayW.cg {U V : Nat → Int32} {P Wd : Nat → Nat} (a : LayW U P Wd) (e : ∀ j, j < 12 → V j = U j) : LayW V P Wd := fun f hf => by rw [e _ (by omega), e _ (by omega)]; exact a f hf
theorem DkR.cg {U V : Nat → Int32} {n : Nat} {pe : Nat → Nat} {K : Nat → CdX} (a : DkR U n pe K) (e : ∀ j, 19 ≤ j → j < 1060 → V j = U j) : DkR V n pe K := by
  obtain ⟨c1, c2, c3, c4⟩ := a
  refine ⟨(e 19 (by omega) (by omega)).trans c1, c2, c3, fun i hi => ?_⟩
  obtain ⟨q1, q2, q3⟩ := c4 i hi
  exact ⟨fun k hk => by rw [e _ (by omega) (by omega)]; exact q1 k hk, by rw [e _ (by omega) (by omega)]; exact q2, by rw [e _ (by omega) (by omega)]; exact q3⟩
theorem upd_nn {f : Nat → Int32} {k j : Nat} {c : Int32} (h : ¬ j = k) : upd f k c j = f j := upd_n h
theorem c11_fits {f : Nat} {b c : Int32} (hf : f < 6) (hY : ∀ p q, 1 ≤ q → q ≤ (if f = 5 then 1 else 4) → p + q ≤ 24 → b = nI p → c = nI q → Q (some (.int (nI 1))) (h, z)) (hN : (∀ p q, ¬ (1 ≤ q ∧ q ≤ (if f = 5 then 1 else 4) ∧ p + q ≤ 24 ∧ b = nI p ∧ c = nI q)) → Q (some (.int (nI 0))) (h, z)) : Rn sA mX11_fits 0 [some (.int (nI f)), some (.int b), some (.int c), none] [] (h, z) Q := by
  refine R_iload_n (pc := 0) dX11_fits_0 rfl ?_
  refine R_iconst (pc := 1) (x := nI 5) dX11_fits_1 rfl ?_
  refine R_icmp_ne (pc := 2) (t := 9) dX11_fits_2 (by decide) (fun h2 => ?_) (fun h2 => ?_)
  · have hw : (if f = 5 then 1 else 4) = 4 := if_neg (fun q => h2 (by rw [q]))
    rw [hw] at hY hN
    refine R_iconst (pc := 9) (x := nI 4) dX11_fits_9 rfl ?_
    refine R_istore_n (pc := 10) dX11_fits_10 (Nat.le_of_ble_eq_true rfl) rfl ?_
    refine R_iload_n (pc := 11) dX11_fits_11 rfl ?_
    refine R_iconst (pc := 12) (x := nI 1) dX11_fits_12 rfl ?_
    refine R_iload_n (pc := 13) dX11_fits_13 rfl ?_
    refine R_callS (pc := 14) dX11_fits_14 rfl (Or.inl rfl) rfl rfl ?_
    refine c_inG (a := 1) (b := 4) rfl rfl (by omega) (by omega) (fun q q1 q2 e2 => ?_) (fun e2 => ?_)
    · refine R_if_eq (pc := 17) (t := 39) dX11_fits_17 (by decide) (fun hz9 => absurd hz9 (by decide)) (fun _ => ?_)
      refine R_iload_n (pc := 20) dX11_fits_20 rfl ?_
      refine R_callS (pc := 21) dX11_fits_21 rfl (Or.inl rfl) rfl rfl ?_
      refine c_isColumn (fun p hp e3 => ?_) (fun e3 => ?_)
      · refine R_if_eq (pc := 24) (t := 39) dX11_fits_24 (by decide) (fun hz9 => absurd hz9 (by decide)) (fun _ => ?_)
        refine R_iload_n (pc := 27) dX11_fits_27 rfl ?_
        refine R_iload_n (pc := 28) dX11_fits_28 rfl ?_
        refine R_iadd (pc := 29) dX11_fits_29 ?_
        rw [e3, e2, nI_add]
        refine R_bipush (pc := 30) (x := nI 24) dX11_fits_30 (by decide) ?_
        refine R_icmp_gt (pc := 32) (t := 39) dX11_fits_32 (by decide) (fun h32 => ?_) (fun h32 => ?_)
        · refine R_iconst (pc := 39) (x := nI 0) dX11_fits_39 rfl ?_
          refine R_zret (pc := 40) dX11_fits_40 rfl (by decide) ?_
          first
            | exact hN (fun p q k => e2 q k.1 k.2.1 k.2.2.2.2)
            | exact hN (fun p q k => e3 p (by omega) k.2.2.2.1)
            | exact hN (fun p' q' k => by
                have a1 := (nI_eq (by omega) (by omega)).mp (e3.symm.trans k.2.2.2.1)
                have a2 := (nI_eq (by omega) (by omega)).mp (e2.symm.trans k.2.2.2.2)
                have a3 := (nI_ltI (by omega) (by omega)).mp h32
                omega)
            | exact hY p q q1 q2 (Decidable.byContradiction (fun k => h32 (nI_lt (by omega) (by omega)))) e3 e2
        · refine R_iconst (pc := 35) (x := nI 1) dX11_fits_35 rfl ?_
          refine R_goto (pc := 36) (t := 40) dX11_fits_36 (by decide) ?_
          refine R_zret (pc := 40) dX11_fits_40 rfl (by decide) ?_
          first
            | exact hN (fun p q k => e2 q k.1 k.2.1 k.2.2.2.2)
            | exact hN (fun p q k => e3 p (by omega) k.2.2.2.1)
            | exact hN (fun p' q' k => by
                have a1 := (nI_eq (by omega) (by omega)).mp (e3.symm.trans k.2.2.2.1)
                have a2 := (nI_eq (by omega) (by omega)).mp (e2.symm.trans k.2.2.2.2)
                have a3 := (nI_ltI (by omega) (by omega)).mp h32
                omega)
            | exact hY p q q1 q2 (Decidable.byContradiction (fun k => h32 (nI_lt (by omega) (by omega)))) e3 e2
      · refine R_if_eq (pc := 24) (t := 39) dX11_fits_24 (by decide) (fun _ => ?_) (fun hz9 => absurd hz9 (by decide))
        refine R_iconst (pc := 39) (x := nI 0) dX11_fits_39 rfl ?_
        refine R_zret (pc := 40) dX11_fits_40 rfl (by decide) ?_
        first
          | exact hN (fun p q k => e2 q k.1 k.2.1 k.2.2.2.2)
          | exact hN (fun p q k => e3 p (by omega) k.2.2.2.1)
          | exact hN (fun p' q' k => by
              have a1 := (nI_eq (by omega) (by omega)).mp (e3.symm.trans k.2.2.2.1)
              have a2 := (nI_eq (by omega) (by omega)).mp (e2.symm.trans k.2.2.2.2)
              have a3 := (nI_ltI (by omega) (by omega)).mp h32
              omega)
          | exact hY p q q1 q2 (Decidable.byContradiction (fun k => h32 (nI_lt (by omega) (by omega)))) e3 e2
    · refine R_if_eq (pc := 17) (t := 39) dX11_fits_17 (by decide) (fun _ => ?_) (fun hz9 => absurd hz9 (by decide))
      refine R_iconst (pc := 39) (x := nI 0) dX11_fits_39 rfl ?_
      refine R_zret (pc := 40) dX11_fits_40 rfl (by decide) ?_
      first
        | exact hN (fun p q k => e2 q k.1 k.2.1 k.2.2.2.2)
        | exact hN (fun p q k => e3 p (by omega) k.2.2.2.1)
        | exact hN (fun p' q' k => by
            have a1 := (nI_eq (by omega) (by omega)).mp (e3.symm.trans k.2.2.2.1)
            have a2 := (nI_eq (by omega) (by omega)).mp (e2.symm.trans k.2.2.2.2)
            have a3 := (nI_ltI (by omega) (by omega)).mp h32
            omega)
        | exact hY p q q1 q2 (Decidable.byContradiction (fun k => h32 (nI_lt (by omega) (by omega)))) e3 e2
  · have hw : (if f = 5 then 1 else 4) = 1 := if_pos ((nI_eq (by omega) (by omega)).mp h2)
    rw [hw] at hY hN
    refine R_iconst (pc := 5) (x := nI 1) dX11_fits_5 rfl ?_
    refine R_goto (pc := 6) (t := 10) dX11_fits_6 (by decide) ?_
    refine R_istore_n (pc := 10) dX11_fits_10 (Nat.le_of_ble_eq_true rfl) rfl ?_
    refine R_iload_n (pc := 11) dX11_fits_11 rfl ?_
    refine R_iconst (pc := 12) (x := nI 1) dX11_fits_12 rfl ?_
    refine R_iload_n (pc := 13) dX11_fits_13 rfl ?_
    refine R_callS (pc := 14) dX11_fits_14 rfl (Or.inl rfl) rfl rfl ?_
    refine c_inG (a := 1) (b := 1) rfl rfl (by omega) (by omega) (fun q q1 q2 e2 => ?_) (fun e2 => ?_)
    · refine R_if_eq (pc := 17) (t := 39) dX11_fits_17 (by decide) (fun hz9 => absurd hz9 (by decide)) (fun _ => ?_)
      refine R_iload_n (pc := 20) dX11_fits_20 rfl ?_
      refine R_callS (pc := 21) dX11_fits_21 rfl (Or.inl rfl) rfl rfl ?_
      refine c_isColumn (fun p hp e3 => ?_) (fun e3 => ?_)
      · refine R_if_eq (pc := 24) (t := 39) dX11_fits_24 (by decide) (fun hz9 => absurd hz9 (by decide)) (fun _ => ?_)
        refine R_iload_n (pc := 27) dX11_fits_27 rfl ?_
        refine R_iload_n (pc := 28) dX11_fits_28 rfl ?_
        refine R_iadd (pc := 29) dX11_fits_29 ?_
        rw [e3, e2, nI_add]
        refine R_bipush (pc := 30) (x := nI 24) dX11_fits_30 (by decide) ?_
        refine R_icmp_gt (pc := 32) (t := 39) dX11_fits_32 (by decide) (fun h32 => ?_) (fun h32 => ?_)
        · refine R_iconst (pc := 39) (x := nI 0) dX11_fits_39 rfl ?_
          refine R_zret (pc := 40) dX11_fits_40 rfl (by decide) ?_
          first
            | exact hN (fun p q k => e2 q k.1 k.2.1 k.2.2.2.2)
            | exact hN (fun p q k => e3 p (by omega) k.2.2.2.1)
            | exact hN (fun p' q' k => by
                have a1 := (nI_eq (by omega) (by omega)).mp (e3.symm.trans k.2.2.2.1)
                have a2 := (nI_eq (by omega) (by omega)).mp (e2.symm.trans k.2.2.2.2)
                have a3 := (nI_ltI (by omega) (by omega)).mp h32
                omega)
            | exact hY p q q1 q2 (Decidable.byContradiction (fun k => h32 (nI_lt (by omega) (by omega)))) e3 e2
        · refine R_iconst (pc := 35) (x := nI 1) dX11_fits_35 rfl ?_
          refine R_goto (pc := 36) (t := 40) dX11_fits_36 (by decide) ?_
          refine R_zret (pc := 40) dX11_fits_40 rfl (by decide) ?_
          first
            | exact hN (fun p q k => e2 q k.1 k.2.1 k.2.2.2.2)
            | exact hN (fun p q k => e3 p (by omega) k.2.2.2.1)
            | exact hN (fun p' q' k => by
                have a1 := (nI_eq (by omega) (by omega)).mp (e3.symm.trans k.2.2.2.1)
                have a2 := (nI_eq (by omega) (by omega)).mp (e2.symm.trans k.2.2.2.2)
                have a3 := (nI_ltI (by omega) (by omega)).mp h32
                omega)
            | exact hY p q q1 q2 (Decidable.byContradiction (fun k => h32 (nI_lt (by omega) (by omega)))) e3 e2
      · refine R_if_eq (pc := 24) (t := 39) dX11_fits_24 (by decide) (fun _ => ?_) (fun hz9 => absurd hz9 (by decide))
        refine R_iconst (pc := 39) (x := nI 0) dX11_fits_39 rfl ?_
        refine R_zret (pc := 40) dX11_fits_40 rfl (by decide) ?_
        first
          | exact hN (fun p q k => e2 q k.1 k.2.1 k.2.2.2.2)
          | exact hN (fun p q k => e3 p (by omega) k.2.2.2.1)
          | exact hN (fun p' q' k => by
              have a1 := (nI_eq (by omega) (by omega)).mp (e3.symm.trans k.2.2.2.1)
              have a2 := (nI_eq (by omega) (by omega)).mp (e2.symm.trans k.2.2.2.2)
              have a3 := (nI_ltI (by omega) (by omega)).mp h32
              omega)
          | exact hY p q q1 q2 (Decidable.byContradiction (fun k => h32 (nI_lt (by omega) (by omega)))) e3 e2
    · refine R_if_eq (pc := 17) (t := 39) dX11_fits_17 (by decide) (fun _ => ?_) (fun hz9 => absurd hz9 (by decide))
      refine R_iconst (pc := 39) (x := nI 0) dX11_fits_39 rfl ?_
      refine R_zret (pc := 40) dX11_fits_40 rfl (by decide) ?_
      first
        | exact hN (fun p q k => e2 q k.1 k.2.1 k.2.2.2.2)
        | exact hN (fun p q k => e3 p (by omega) k.2.2.2.1)
        | exact hN (fun p' q' k => by
            have a1 := (nI_eq (by omega) (by omega)).mp (e3.symm.trans k.2.2.2.1)
            have a2 := (nI_eq (by omega) (by omega)).mp (e2.symm.trans k.2.2.2.2)
            have a3 := (nI_ltI (by omega) (by omega)).mp h32
            omega)
        | exact hY p q q1 q2 (Decidable.byContradiction (fun k => h32 (nI_lt (by omega) (by omega)))) e3 e2
theorem c11_lay {x B Y pm fl l : Nat} {PA IM T U : Nat → Int32} {fk fp : Int32} {a b c : Int32} (r : RstI h z x B Y PA pm IM fl T l fk fp) (st : StW h (x + 1) U) (sc : ScrI h x) (hB : (∀ f p q, ¬ layOK a b c f p q) → Q (some (.int (-1000001))) (h, z)) (hG : ∀ f p q, layOK a b c f p q → ∀ (h3 : Nat → Option am_C) (z3 : Nat × Nat), OutI h h3 z3 x B Y (upd (upd U (0 + 2 * f) b) (0 + 2 * f + 1) c) (remP U PA pm) (remN pm) IM fl T l fk fp → Q (some (.int (U (0 + 2 * f)))) (h3, z3)) : Rn sA mX11_lay 0 [some (.ref x), some (.int a), some (.int b), some (.int c), none] [] (h, z) Q := by
  have hx := r.2.1
  have st9 := st
  obtain ⟨P, Wd, n, pe, K, R, se, co, sa, sr⟩ := st9
  have sa1 := sa.1
  have h94 : ∃ fs, h (x + 94) = some (.inr (2, fs)) := by obtain ⟨_, _, ⟨_, _, q, _⟩, _⟩ := r; exact ⟨_, q.1⟩
  obtain ⟨fs94, h94⟩ := h94
  refine R_iload_n (pc := 0) dX11_lay_0 rfl ?_
  refine R_callS (pc := 1) dX11_lay_1 rfl (Or.inl rfl) rfl rfl ?_
  refine c_isField (fun f hf e => ?_) (fun e => ?_)
  · subst e
    refine R_if_eq (pc := 4) (t := 16) dX11_lay_4 (by decide) (fun hz9 => absurd hz9 (by decide)) (fun _ => ?_)
    refine R_iload_n (pc := 7) dX11_lay_7 rfl ?_
    refine R_iload_n (pc := 8) dX11_lay_8 rfl ?_
    refine R_iload_n (pc := 9) dX11_lay_9 rfl ?_
    refine R_callS (pc := 10) dX11_lay_10 rfl (Or.inl rfl) rfl rfl ?_
    refine c11_fits hf (fun p q q1 q2 q3 q4 q5 => ?_) (fun e2 => ?_)
    · subst q4
      subst q5
      have hL : layOK (nI f) (nI p) (nI q) f p q := ⟨hf, q1, q2, q3, rfl, rfl, rfl⟩
      refine R_if_ne (pc := 13) (t := 19) dX11_lay_13 (by decide) (fun _ => ?_) (fun hz9 => absurd hz9 (by decide))
      refine R_aload_n (pc := 19) dX11_lay_19 rfl ?_
      refine R_getf (pc := 20) dX11_lay_20 rfl (by repeat (first | assumption | exact up_s | refine up_n (by omega) ?_)) rfl ?_
      refine R_aload_n (pc := 23) dX11_lay_23 rfl ?_
      refine R_getf (pc := 24) dX11_lay_24 rfl (by repeat (first | assumption | exact up_s | refine up_n (by omega) ?_)) rfl ?_
      refine R_callV (pc := 27) dX11_lay_27 rfl h94 rfl rfl ?_
      refine c2_record r st (fun h2 z2 r2 fr2 => ?_)
      have hB := r.1
      have hx2 := r2.2.1
      have sa2 : StAt h2 (x + 1) P Wd n pe K R se co := sa.fr (fun y y1 y2 => fr2 y (by omega) (by omega) (by omega))
      have sc2 : ScrI h2 x := sc.fr (fun y y1 y2 => fr2 y (by omega) (by omega) (by omega))
      have sa21 := sa2.1
      have s91 := sa2.2.2.2.2.1
      have s92 := sa2.2.2.2.2.2
      refine R_aload_n (pc := 30) dX11_lay_30 rfl ?_
      refine R_getf (pc := 31) dX11_lay_31 rfl (by repeat (first | assumption | exact up_s | refine up_n (by omega) ?_)) rfl ?_
      refine R_getf (pc := 34) dX11_lay_34 rfl (by repeat (first | assumption | exact up_s | refine up_n (by omega) ?_)) rfl ?_
      refine R_iload_n (pc := 37) dX11_lay_37 rfl ?_
      refine R_callV (pc := 38) dX11_lay_38 rfl (sa2.2.1.choose_spec.choose_spec.1) rfl rfl ?_
      refine c3_firstOf sa2.2.1 hf ?_
      rw [← (sr.1 f hf).1]
      refine R_istore (pc := 41) dX11_lay_41 (Nat.le_of_ble_eq_true rfl) rfl ?_
      refine R_aload_n (pc := 43) dX11_lay_43 rfl ?_
      refine R_getf (pc := 44) dX11_lay_44 rfl (by repeat (first | assumption | exact up_s | refine up_n (by omega) ?_)) rfl ?_
      refine R_getf (pc := 47) dX11_lay_47 rfl (by repeat (first | assumption | exact up_s | refine up_n (by omega) ?_)) rfl ?_
      refine R_iload_n (pc := 50) dX11_lay_50 rfl ?_
      refine R_iload_n (pc := 51) dX11_lay_51 rfl ?_
      refine R_iload_n (pc := 52) dX11_lay_52 rfl ?_
      refine R_callV (pc := 53) dX11_lay_53 rfl (sa2.2.1.choose_spec.choose_spec.1) rfl rfl ?_
      refine c3_place sa2.2.1 hf (fun h3 k1 k2 => ?_)
      refine R_iload (pc := 56) dX11_lay_56 rfl ?_
      refine R_iret (pc := 58) dX11_lay_58 rfl ?_
      first
        | exact hB (fun f p q k => e f k.1 k.2.2.2.2.1)
        | exact hB (fun f' p q k => by
            have a1 := (nI_eq (by have := k.1; omega) (by omega)).mp k.2.2.2.2.1.symm
            obtain ⟨k1, k2, k3, k4, k5, k6, k7⟩ := k
            subst a1
            exact e2 p q ⟨k2, k3, k4, k6, k7⟩)
        | (refine hG f p q hL h3 z2 (OutI.mk r2 sc2 fr2 (fun y hy => k2 y (by omega)) ⟨updN P f p, updN Wd f q, n, pe, K, R, se, co, ⟨(k2 _ (by omega)).trans sa2.1, k1, sa2.2.2.1.fr (fun y y1 y2 => k2 y (by omega)), sa2.2.2.2.1.fr (fun y y1 y2 => k2 y (by omega)), (k2 _ (by omega)).trans sa2.2.2.2.2.1, (k2 _ (by omega)).trans sa2.2.2.2.2.2⟩, fun g hg => ?_, fun g hg => ?_, sr.2.2.1.cg (fun j j1 j2 => by rw [upd_n (by omega), upd_n (by omega)]), sr.2.2.2.1.cg (fun j j1 j2 => by rw [upd_n (by omega), upd_n (by omega)]), fun g hg => by rw [upd_n (by omega), upd_n (by omega)]; exact sr.2.2.2.2.1 g hg, fun g hg => by rw [upd_n (by omega), upd_n (by omega)]; exact sr.2.2.2.2.2 g hg⟩)
           · by_cases eg : g = f
             · subst eg
               rw [updN_s, updN_s, upd_n (by omega), upd_s, upd_s]
               exact ⟨rfl, rfl, q3⟩
             · rw [updN_n eg, updN_n eg, upd_n (by omega), upd_n (by omega), upd_n (by omega), upd_n (by omega)]
               exact sr.1 g hg
           · by_cases eg : g = f
             · subst eg
               rw [updN_s]
               refine ⟨q1, ?_⟩
               split at q2 <;> omega
             · rw [updN_n eg]
               exact sr.2.1 g hg)
    · refine R_if_ne (pc := 13) (t := 19) dX11_lay_13 (by decide) (fun hz9 => absurd hz9 (by decide)) (fun _ => ?_)
      refine R_ldc (pc := 16) (x := (-1000001)) dX11_lay_16 rfl ?_
      refine R_iret (pc := 18) dX11_lay_18 rfl ?_
      first
        | exact hB (fun f p q k => e f k.1 k.2.2.2.2.1)
        | exact hB (fun f' p q k => by
            have a1 := (nI_eq (by have := k.1; omega) (by omega)).mp k.2.2.2.2.1.symm
            obtain ⟨k1, k2, k3, k4, k5, k6, k7⟩ := k
            subst a1
            exact e2 p q ⟨k2, k3, k4, k6, k7⟩)
        | (refine hG f p q hL h3 z2 (OutI.mk r2 sc2 fr2 (fun y hy => k2 y (by omega)) ⟨updN P f p, updN Wd f q, n, pe, K, R, se, co, ⟨(k2 _ (by omega)).trans sa2.1, k1, sa2.2.2.1.fr (fun y y1 y2 => k2 y (by omega)), sa2.2.2.2.1.fr (fun y y1 y2 => k2 y (by omega)), (k2 _ (by omega)).trans sa2.2.2.2.2.1, (k2 _ (by omega)).trans sa2.2.2.2.2.2⟩, fun g hg => ?_, fun g hg => ?_, sr.2.2.1.cg (fun j j1 j2 => by rw [upd_n (by omega), upd_n (by omega)]), sr.2.2.2.1.cg (fun j j1 j2 => by rw [upd_n (by omega), upd_n (by omega)]), fun g hg => by rw [upd_n (by omega), upd_n (by omega)]; exact sr.2.2.2.2.1 g hg, fun g hg => by rw [upd_n (by omega), upd_n (by omega)]; exact sr.2.2.2.2.2 g hg⟩)
           · by_cases eg : g = f
             · subst eg
               rw [updN_s, updN_s, upd_n (by omega), upd_s, upd_s]
               exact ⟨rfl, rfl, q3⟩
             · rw [updN_n eg, updN_n eg, upd_n (by omega), upd_n (by omega), upd_n (by omega), upd_n (by omega)]
               exact sr.1 g hg
           · by_cases eg : g = f
             · subst eg
               rw [updN_s]
               refine ⟨q1, ?_⟩
               split at q2 <;> omega
             · rw [updN_n eg]
               exact sr.2.1 g hg)
  · refine R_if_eq (pc := 4) (t := 16) dX11_lay_4 (by decide) (fun _ => ?_) (fun hz9 => absurd hz9 (by decide))
    refine R_ldc (pc := 16) (x := (-1000001)) dX11_lay_16 rfl ?_
    refine R_iret (pc := 18) dX11_lay_18 rfl ?_
    first
      | exact hB (fun f p q k => e f k.1 k.2.2.2.2.1)
      | exact hB (fun f' p q k => by
          have a1 := (nI_eq (by have := k.1; omega) (by omega)).mp k.2.2.2.2.1.symm
          obtain ⟨k1, k2, k3, k4, k5, k6, k7⟩ := k
          subst a1
          exact e2 p q ⟨k2, k3, k4, k6, k7⟩)
      | (refine hG f p q hL h3 z2 (OutI.mk r2 sc2 fr2 (fun y hy => k2 y (by omega)) ⟨updN P f p, updN Wd f q, n, pe, K, R, se, co, ⟨(k2 _ (by omega)).trans sa2.1, k1, sa2.2.2.1.fr (fun y y1 y2 => k2 y (by omega)), sa2.2.2.2.1.fr (fun y y1 y2 => k2 y (by omega)), (k2 _ (by omega)).trans sa2.2.2.2.2.1, (k2 _ (by omega)).trans sa2.2.2.2.2.2⟩, fun g hg => ?_, fun g hg => ?_, sr.2.2.1.cg (fun j j1 j2 => by rw [upd_n (by omega), upd_n (by omega)]), sr.2.2.2.1.cg (fun j j1 j2 => by rw [upd_n (by omega), upd_n (by omega)]), fun g hg => by rw [upd_n (by omega), upd_n (by omega)]; exact sr.2.2.2.2.1 g hg, fun g hg => by rw [upd_n (by omega), upd_n (by omega)]; exact sr.2.2.2.2.2 g hg⟩)
         · by_cases eg : g = f
           · subst eg
             rw [updN_s, updN_s, upd_n (by omega), upd_s, upd_s]
             exact ⟨rfl, rfl, q3⟩
           · rw [updN_n eg, updN_n eg, upd_n (by omega), upd_n (by omega), upd_n (by omega), upd_n (by omega)]
             exact sr.1 g hg
         · by_cases eg : g = f
           · subst eg
             rw [updN_s]
             refine ⟨q1, ?_⟩
             split at q2 <;> omega
           · rw [updN_n eg]
             exact sr.2.1 g hg)
theorem c11_set {x B Y pm fl l : Nat} {PA IM T U : Nat → Int32} {fk fp : Int32} {a b : Int32} {g : Nat → Int32} (r : RstI h z x B Y PA pm IM fl T l fk fp) (st : StW h (x + 1) U) (sc : ScrI h x) (hst : h sA = some (.inl (9, 4, .inl g))) (hsA : sA < x) (hg : ∀ k, k < 4 → g k = nI (if k = 0 then 2 else if k = 1 then 1 else 9999)) (hB : (∀ k v, ¬ setOK a b k v) → Q (some (.int (-1000001))) (h, z)) (hG : ∀ k v, setOK a b k v → ∀ (h3 : Nat → Option am_C) (z3 : Nat × Nat), OutI h h3 z3 x B Y (upd U (12 + k) b) (remP U PA pm) (remN pm) IM fl T l fk fp → Q (some (.int (U (12 + k)))) (h3, z3)) : Rn sA mX11_set 0 [some (.ref x), some (.int a), some (.int b), none] [] (h, z) Q := by
  have hx := r.2.1
  have st9 := st
  obtain ⟨P, Wd, n, pe, K, R, se, co, sa, sr⟩ := st9
  have sa1 := sa.1
  have h94 : ∃ fs, h (x + 94) = some (.inr (2, fs)) := by obtain ⟨_, _, ⟨_, _, q, _⟩, _⟩ := r; exact ⟨_, q.1⟩
  obtain ⟨fs94, h94⟩ := h94
  refine R_iload_n (pc := 0) dX11_set_0 rfl ?_
  refine R_callS (pc := 1) dX11_set_1 rfl (Or.inl rfl) rfl rfl ?_
  refine c_isSetting hst (fun j hj e => ?_) (fun e => ?_)
  · subst e
    have m30 : (if j = 0 then 2 else if j = 1 then 1 else 9999) < 2 ^ 30 := by (repeat' split) <;> omega
    refine R_if_eq (pc := 4) (t := 20) dX11_set_4 (by decide) (fun hz9 => absurd hz9 (by decide)) (fun _ => ?_)
    refine R_iload_n (pc := 7) dX11_set_7 rfl ?_
    refine R_iconst (pc := 8) (x := nI 0) dX11_set_8 rfl ?_
    refine R_gets (pc := 9) dX11_set_9 rfl ?_
    refine R_iload_n (pc := 12) dX11_set_12 rfl ?_
    refine R_iald (pc := 13) dX11_set_13 hst (Or.inr rfl) rfl hj (by decide) ?_
    refine R_callS (pc := 14) dX11_set_14 rfl (Or.inl rfl) rfl rfl ?_
    rw [hg j hj]
    refine c_inG (a := 0) (b := if j = 0 then 2 else if j = 1 then 1 else 9999) rfl rfl (Nat.zero_le _) m30 (fun v _ v2 e2 => ?_) (fun e2 => ?_)
    · subst e2
      refine R_if_ne (pc := 17) (t := 23) dX11_set_17 (by decide) (fun _ => ?_) (fun hz9 => absurd hz9 (by decide))
      refine R_aload_n (pc := 23) dX11_set_23 rfl ?_
      refine R_getf (pc := 24) dX11_set_24 rfl (by repeat (first | assumption | exact up_s | refine up_n (by omega) ?_)) rfl ?_
      refine R_aload_n (pc := 27) dX11_set_27 rfl ?_
      refine R_getf (pc := 28) dX11_set_28 rfl (by repeat (first | assumption | exact up_s | refine up_n (by omega) ?_)) rfl ?_
      refine R_callV (pc := 31) dX11_set_31 rfl h94 rfl rfl ?_
      refine c2_record r st (fun h2 z2 r2 fr2 => ?_)
      have hB := r.1
      have hx2 := r2.2.1
      have sa2 : StAt h2 (x + 1) P Wd n pe K R se co := sa.fr (fun y y1 y2 => fr2 y (by omega) (by omega) (by omega))
      have sc2 : ScrI h2 x := sc.fr (fun y y1 y2 => fr2 y (by omega) (by omega) (by omega))
      have sa21 := sa2.1
      have s91 := sa2.2.2.2.2.1
      have s92 := sa2.2.2.2.2.2
      refine R_aload_n (pc := 34) dX11_set_34 rfl ?_
      refine R_getf (pc := 35) dX11_set_35 rfl (by repeat (first | assumption | exact up_s | refine up_n (by omega) ?_)) rfl ?_
      refine R_iload_n (pc := 38) dX11_set_38 rfl ?_
      refine R_callV (pc := 39) dX11_set_39 rfl (by repeat (first | assumption | exact up_s | refine up_n (by omega) ?_)) rfl rfl ?_
      refine c8_settingOf sa2 (show h2 sA = _ from (fr2 sA (by omega) (by omega) (by omega)).trans hst) hj ?_
      rw [sr.2.2.2.2.1 j hj]
      refine R_istore_n (pc := 42) dX11_set_42 (Nat.le_of_ble_eq_true rfl) rfl ?_
      refine R_aload_n (pc := 43) dX11_set_43 rfl ?_
      refine R_getf (pc := 44) dX11_set_44 rfl (by repeat (first | assumption | exact up_s | refine up_n (by omega) ?_)) rfl ?_
      refine R_getf (pc := 47) dX11_set_47 rfl (by repeat (first | assumption | exact up_s | refine up_n (by omega) ?_)) rfl ?_
      refine R_iload_n (pc := 50) dX11_set_50 rfl ?_
      refine R_iload_n (pc := 51) dX11_set_51 rfl ?_
      refine R_iast (pc := 52) dX11_set_52 (by repeat (first | assumption | exact up_s | refine up_n (by omega) ?_)) (by first | with_reducible rfl | (simp only [nI_add, pk_mul]; exact rfl)) (by omega) (by decide) ?_
      refine R_iload_n (pc := 53) dX11_set_53 rfl ?_
      refine R_iret (pc := 54) dX11_set_54 rfl ?_
      first
        | exact hB (fun k v q => e k q.1 q.2.2.1)
        | exact hB (fun k v q => by
            obtain ⟨k1, k2, k3, k4⟩ := q
            have a1 := (nI_eq (by omega) (by omega)).mp k3
            subst a1
            exact e2 v (Nat.zero_le _) k2 k4)
        | (refine hG j v ⟨hj, v2, rfl, rfl⟩ _ z2 (OutI.mk r2 sc2 fr2 (fun y hy => up_n (by omega) rfl) ⟨P, Wd, n, pe, K, R, upd se j (nI v), co, ⟨up_n (by omega) sa2.1, sa2.2.1.fr (fun y y1 y2 => up_n (by omega) rfl), sa2.2.2.1.fr (fun y y1 y2 => up_n (by omega) rfl), sa2.2.2.2.1.fr (fun y y1 y2 => up_n (by omega) rfl), up_s, up_n (by omega) sa2.2.2.2.2.2⟩, sr.1.cg (fun j j1 => by rw [upd_n (by omega)]), sr.2.1, sr.2.2.1.cg (fun j j1 j2 => by rw [upd_n (by omega)]), sr.2.2.2.1.cg (fun j j1 j2 => by rw [upd_n (by omega)]), fun g hg => ?_, fun g hg => ?_⟩)
           · by_cases e : g = j
             · subst e; rw [upd_s, upd_s]
             · rw [upd_n e, upd_n (by omega)]; exact sr.2.2.2.2.1 g hg
           · rw [upd_n (by omega)]; exact sr.2.2.2.2.2 g hg)
    · refine R_if_ne (pc := 17) (t := 23) dX11_set_17 (by decide) (fun hz9 => absurd hz9 (by decide)) (fun _ => ?_)
      refine R_ldc (pc := 20) (x := (-1000001)) dX11_set_20 rfl ?_
      refine R_iret (pc := 22) dX11_set_22 rfl ?_
      first
        | exact hB (fun k v q => e k q.1 q.2.2.1)
        | exact hB (fun k v q => by
            obtain ⟨k1, k2, k3, k4⟩ := q
            have a1 := (nI_eq (by omega) (by omega)).mp k3
            subst a1
            exact e2 v (Nat.zero_le _) k2 k4)
        | (refine hG j v ⟨hj, v2, rfl, rfl⟩ _ z2 (OutI.mk r2 sc2 fr2 (fun y hy => up_n (by omega) rfl) ⟨P, Wd, n, pe, K, R, upd se j (nI v), co, ⟨up_n (by omega) sa2.1, sa2.2.1.fr (fun y y1 y2 => up_n (by omega) rfl), sa2.2.2.1.fr (fun y y1 y2 => up_n (by omega) rfl), sa2.2.2.2.1.fr (fun y y1 y2 => up_n (by omega) rfl), up_s, up_n (by omega) sa2.2.2.2.2.2⟩, sr.1.cg (fun j j1 => by rw [upd_n (by omega)]), sr.2.1, sr.2.2.1.cg (fun j j1 j2 => by rw [upd_n (by omega)]), sr.2.2.2.1.cg (fun j j1 j2 => by rw [upd_n (by omega)]), fun g hg => ?_, fun g hg => ?_⟩)
           · by_cases e : g = j
             · subst e; rw [upd_s, upd_s]
             · rw [upd_n e, upd_n (by omega)]; exact sr.2.2.2.2.1 g hg
           · rw [upd_n (by omega)]; exact sr.2.2.2.2.2 g hg)
  · refine R_if_eq (pc := 4) (t := 20) dX11_set_4 (by decide) (fun _ => ?_) (fun hz9 => absurd hz9 (by decide))
    refine R_ldc (pc := 20) (x := (-1000001)) dX11_set_20 rfl ?_
    refine R_iret (pc := 22) dX11_set_22 rfl ?_
    first
      | exact hB (fun k v q => e k q.1 q.2.2.1)
      | exact hB (fun k v q => by
          obtain ⟨k1, k2, k3, k4⟩ := q
          have a1 := (nI_eq (by omega) (by omega)).mp k3
          subst a1
          exact e2 v (Nat.zero_le _) k2 k4)
      | (refine hG j v ⟨hj, v2, rfl, rfl⟩ _ z2 (OutI.mk r2 sc2 fr2 (fun y hy => up_n (by omega) rfl) ⟨P, Wd, n, pe, K, R, upd se j (nI v), co, ⟨up_n (by omega) sa2.1, sa2.2.1.fr (fun y y1 y2 => up_n (by omega) rfl), sa2.2.2.1.fr (fun y y1 y2 => up_n (by omega) rfl), sa2.2.2.2.1.fr (fun y y1 y2 => up_n (by omega) rfl), up_s, up_n (by omega) sa2.2.2.2.2.2⟩, sr.1.cg (fun j j1 => by rw [upd_n (by omega)]), sr.2.1, sr.2.2.1.cg (fun j j1 j2 => by rw [upd_n (by omega)]), sr.2.2.2.1.cg (fun j j1 j2 => by rw [upd_n (by omega)]), fun g hg => ?_, fun g hg => ?_⟩)
         · by_cases e : g = j
           · subst e; rw [upd_s, upd_s]
           · rw [upd_n e, upd_n (by omega)]; exact sr.2.2.2.2.1 g hg
         · rw [upd_n (by omega)]; exact sr.2.2.2.2.2 g hg)
theorem c11_control {x B Y pm fl l : Nat} {PA IM T U : Nat → Int32} {fk fp : Int32} {a b : Int32} (r : RstI h z x B Y PA pm IM fl T l fk fp) (st : StW h (x + 1) U) (sc : ScrI h x) (hB : (∀ k, ¬ ctlOK a b k) → Q (some (.int (-1000001))) (h, z)) (hG : ∀ k, ctlOK a b k → ∀ (h3 : Nat → Option am_C) (z3 : Nat × Nat), OutI h h3 z3 x B Y (upd U (16 + k) b) (remP U PA pm) (remN pm) IM fl T l fk fp → Q (some (.int (U (16 + k)))) (h3, z3)) : Rn sA mX11_control 0 [some (.ref x), some (.int a), some (.int b), none] [] (h, z) Q := by
  have hx := r.2.1
  have st9 := st
  obtain ⟨P, Wd, n, pe, K, R, se, co, sa, sr⟩ := st9
  have sa1 := sa.1
  have h94 : ∃ fs, h (x + 94) = some (.inr (2, fs)) := by obtain ⟨_, _, ⟨_, _, q, _⟩, _⟩ := r; exact ⟨_, q.1⟩
  obtain ⟨fs94, h94⟩ := h94
  refine R_iload_n (pc := 0) dX11_control_0 rfl ?_
  refine R_callS (pc := 1) dX11_control_1 rfl (Or.inl rfl) rfl rfl ?_
  refine c_isControl (fun j hj e => ?_) (fun e => ?_)
  · subst e
    refine R_if_eq (pc := 4) (t := 23) dX11_control_4 (by decide) (fun hz9 => absurd hz9 (by decide)) (fun _ => ?_)
    refine R_iload_n (pc := 7) dX11_control_7 rfl ?_
    refine R_ldc (pc := 8) (x := (-1000009)) dX11_control_8 rfl ?_
    refine R_icmp_eq (pc := 10) (t := 26) dX11_control_10 (by decide) (fun h10 => ?_) (fun h10 => ?_)
    · refine R_aload_n (pc := 26) dX11_control_26 rfl ?_
      refine R_getf (pc := 27) dX11_control_27 rfl (by repeat (first | assumption | exact up_s | refine up_n (by omega) ?_)) rfl ?_
      refine R_aload_n (pc := 30) dX11_control_30 rfl ?_
      refine R_getf (pc := 31) dX11_control_31 rfl (by repeat (first | assumption | exact up_s | refine up_n (by omega) ?_)) rfl ?_
      refine R_callV (pc := 34) dX11_control_34 rfl h94 rfl rfl ?_
      refine c2_record r st (fun h2 z2 r2 fr2 => ?_)
      have hB := r.1
      have hx2 := r2.2.1
      have sa2 : StAt h2 (x + 1) P Wd n pe K R se co := sa.fr (fun y y1 y2 => fr2 y (by omega) (by omega) (by omega))
      have sc2 : ScrI h2 x := sc.fr (fun y y1 y2 => fr2 y (by omega) (by omega) (by omega))
      have sa21 := sa2.1
      have s91 := sa2.2.2.2.2.1
      have s92 := sa2.2.2.2.2.2
      refine R_aload_n (pc := 37) dX11_control_37 rfl ?_
      refine R_getf (pc := 38) dX11_control_38 rfl (by repeat (first | assumption | exact up_s | refine up_n (by omega) ?_)) rfl ?_
      refine R_getf (pc := 41) dX11_control_41 rfl (by repeat (first | assumption | exact up_s | refine up_n (by omega) ?_)) rfl ?_
      refine R_iload_n (pc := 44) dX11_control_44 rfl ?_
      refine R_iald (pc := 45) dX11_control_45 (by repeat (first | assumption | exact up_s | refine up_n (by omega) ?_)) (Or.inl rfl) (by first | with_reducible rfl | (simp only [nI_add, pk_mul]; exact rfl)) (by omega) (by decide) ?_
      refine R_istore_n (pc := 46) dX11_control_46 (Nat.le_of_ble_eq_true rfl) rfl ?_
      refine R_aload_n (pc := 47) dX11_control_47 rfl ?_
      refine R_getf (pc := 48) dX11_control_48 rfl (by repeat (first | assumption | exact up_s | refine up_n (by omega) ?_)) rfl ?_
      refine R_getf (pc := 51) dX11_control_51 rfl (by repeat (first | assumption | exact up_s | refine up_n (by omega) ?_)) rfl ?_
      refine R_iload_n (pc := 54) dX11_control_54 rfl ?_
      refine R_iload_n (pc := 55) dX11_control_55 rfl ?_
      refine R_iast (pc := 56) dX11_control_56 (by repeat (first | assumption | exact up_s | refine up_n (by omega) ?_)) (by first | with_reducible rfl | (simp only [nI_add, pk_mul]; exact rfl)) (by omega) (by decide) ?_
      refine R_iload_n (pc := 57) dX11_control_57 rfl ?_
      refine R_iret (pc := 58) dX11_control_58 rfl ?_
      first
        | exact hB (fun k q => e k q.1 q.2.1)
        | exact hB (fun k q => q.2.2.elim h10 (fun ⟨v, v1, v2⟩ => e2 v (Nat.zero_le _) v1 v2))
        | (have ok : ctlOK (nI j) b j := ⟨hj, rfl, by first | exact Or.inl h10 | exact Or.inr ⟨v, v2, e2⟩⟩
           rw [sr.2.2.2.2.2 j hj]
           refine hG j ok _ z2 (OutI.mk r2 sc2 fr2 (fun y hy => up_n (by omega) rfl) ⟨P, Wd, n, pe, K, R, se, upd co j b, ⟨up_n (by omega) sa2.1, sa2.2.1.fr (fun y y1 y2 => up_n (by omega) rfl), sa2.2.2.1.fr (fun y y1 y2 => up_n (by omega) rfl), sa2.2.2.2.1.fr (fun y y1 y2 => up_n (by omega) rfl), up_n (by omega) sa2.2.2.2.2.1, up_s⟩, sr.1.cg (fun j j1 => by rw [upd_n (by omega)]), sr.2.1, sr.2.2.1.cg (fun j j1 j2 => by rw [upd_n (by omega)]), sr.2.2.2.1.cg (fun j j1 j2 => by rw [upd_n (by omega)]), fun g hg => ?_, fun g hg => ?_⟩)
           · rw [upd_n (by omega)]; exact sr.2.2.2.2.1 g hg
           · by_cases e : g = j
             · subst e; rw [upd_s, upd_s]
             · rw [upd_n e, upd_n (by omega)]; exact sr.2.2.2.2.2 g hg)
    · refine R_iload_n (pc := 13) dX11_control_13 rfl ?_
      refine R_iconst (pc := 14) (x := nI 0) dX11_control_14 rfl ?_
      refine R_ldc (pc := 15) (x := (1000000)) dX11_control_15 rfl ?_
      refine R_callS (pc := 17) dX11_control_17 rfl (Or.inl rfl) rfl rfl ?_
      refine c_inG (a := 0) (b := 1000000) rfl rfl (by omega) (by omega) (fun v _ v2 e2 => ?_) (fun e2 => ?_)
      · refine R_if_ne (pc := 20) (t := 26) dX11_control_20 (by decide) (fun _ => ?_) (fun hz9 => absurd hz9 (by decide))
        refine R_aload_n (pc := 26) dX11_control_26 rfl ?_
        refine R_getf (pc := 27) dX11_control_27 rfl (by repeat (first | assumption | exact up_s | refine up_n (by omega) ?_)) rfl ?_
        refine R_aload_n (pc := 30) dX11_control_30 rfl ?_
        refine R_getf (pc := 31) dX11_control_31 rfl (by repeat (first | assumption | exact up_s | refine up_n (by omega) ?_)) rfl ?_
        refine R_callV (pc := 34) dX11_control_34 rfl h94 rfl rfl ?_
        refine c2_record r st (fun h2 z2 r2 fr2 => ?_)
        have hB := r.1
        have hx2 := r2.2.1
        have sa2 : StAt h2 (x + 1) P Wd n pe K R se co := sa.fr (fun y y1 y2 => fr2 y (by omega) (by omega) (by omega))
        have sc2 : ScrI h2 x := sc.fr (fun y y1 y2 => fr2 y (by omega) (by omega) (by omega))
        have sa21 := sa2.1
        have s91 := sa2.2.2.2.2.1
        have s92 := sa2.2.2.2.2.2
        refine R_aload_n (pc := 37) dX11_control_37 rfl ?_
        refine R_getf (pc := 38) dX11_control_38 rfl (by repeat (first | assumption | exact up_s | refine up_n (by omega) ?_)) rfl ?_
        refine R_getf (pc := 41) dX11_control_41 rfl (by repeat (first | assumption | exact up_s | refine up_n (by omega) ?_)) rfl ?_
        refine R_iload_n (pc := 44) dX11_control_44 rfl ?_
        refine R_iald (pc := 45) dX11_control_45 (by repeat (first | assumption | exact up_s | refine up_n (by omega) ?_)) (Or.inl rfl) (by first | with_reducible rfl | (simp only [nI_add, pk_mul]; exact rfl)) (by omega) (by decide) ?_
        refine R_istore_n (pc := 46) dX11_control_46 (Nat.le_of_ble_eq_true rfl) rfl ?_
        refine R_aload_n (pc := 47) dX11_control_47 rfl ?_
        refine R_getf (pc := 48) dX11_control_48 rfl (by repeat (first | assumption | exact up_s | refine up_n (by omega) ?_)) rfl ?_
        refine R_getf (pc := 51) dX11_control_51 rfl (by repeat (first | assumption | exact up_s | refine up_n (by omega) ?_)) rfl ?_
        refine R_iload_n (pc := 54) dX11_control_54 rfl ?_
        refine R_iload_n (pc := 55) dX11_control_55 rfl ?_
        refine R_iast (pc := 56) dX11_control_56 (by repeat (first | assumption | exact up_s | refine up_n (by omega) ?_)) (by first | with_reducible rfl | (simp only [nI_add, pk_mul]; exact rfl)) (by omega) (by decide) ?_
        refine R_iload_n (pc := 57) dX11_control_57 rfl ?_
        refine R_iret (pc := 58) dX11_control_58 rfl ?_
        first
          | exact hB (fun k q => e k q.1 q.2.1)
          | exact hB (fun k q => q.2.2.elim h10 (fun ⟨v, v1, v2⟩ => e2 v (Nat.zero_le _) v1 v2))
          | (have ok : ctlOK (nI j) b j := ⟨hj, rfl, by first | exact Or.inl h10 | exact Or.inr ⟨v, v2, e2⟩⟩
             rw [sr.2.2.2.2.2 j hj]
             refine hG j ok _ z2 (OutI.mk r2 sc2 fr2 (fun y hy => up_n (by omega) rfl) ⟨P, Wd, n, pe, K, R, se, upd co j b, ⟨up_n (by omega) sa2.1, sa2.2.1.fr (fun y y1 y2 => up_n (by omega) rfl), sa2.2.2.1.fr (fun y y1 y2 => up_n (by omega) rfl), sa2.2.2.2.1.fr (fun y y1 y2 => up_n (by omega) rfl), up_n (by omega) sa2.2.2.2.2.1, up_s⟩, sr.1.cg (fun j j1 => by rw [upd_n (by omega)]), sr.2.1, sr.2.2.1.cg (fun j j1 j2 => by rw [upd_n (by omega)]), sr.2.2.2.1.cg (fun j j1 j2 => by rw [upd_n (by omega)]), fun g hg => ?_, fun g hg => ?_⟩)
             · rw [upd_n (by omega)]; exact sr.2.2.2.2.1 g hg
             · by_cases e : g = j
               · subst e; rw [upd_s, upd_s]
               · rw [upd_n e, upd_n (by omega)]; exact sr.2.2.2.2.2 g hg)
      · refine R_if_ne (pc := 20) (t := 26) dX11_control_20 (by decide) (fun hz9 => absurd hz9 (by decide)) (fun _ => ?_)
        refine R_ldc (pc := 23) (x := (-1000001)) dX11_control_23 rfl ?_
        refine R_iret (pc := 25) dX11_control_25 rfl ?_
        first
          | exact hB (fun k q => e k q.1 q.2.1)
          | exact hB (fun k q => q.2.2.elim h10 (fun ⟨v, v1, v2⟩ => e2 v (Nat.zero_le _) v1 v2))
          | (have ok : ctlOK (nI j) b j := ⟨hj, rfl, by first | exact Or.inl h10 | exact Or.inr ⟨v, v2, e2⟩⟩
             rw [sr.2.2.2.2.2 j hj]
             refine hG j ok _ z2 (OutI.mk r2 sc2 fr2 (fun y hy => up_n (by omega) rfl) ⟨P, Wd, n, pe, K, R, se, upd co j b, ⟨up_n (by omega) sa2.1, sa2.2.1.fr (fun y y1 y2 => up_n (by omega) rfl), sa2.2.2.1.fr (fun y y1 y2 => up_n (by omega) rfl), sa2.2.2.2.1.fr (fun y y1 y2 => up_n (by omega) rfl), up_n (by omega) sa2.2.2.2.2.1, up_s⟩, sr.1.cg (fun j j1 => by rw [upd_n (by omega)]), sr.2.1, sr.2.2.1.cg (fun j j1 j2 => by rw [upd_n (by omega)]), sr.2.2.2.1.cg (fun j j1 j2 => by rw [upd_n (by omega)]), fun g hg => ?_, fun g hg => ?_⟩)
             · rw [upd_n (by omega)]; exact sr.2.2.2.2.1 g hg
             · by_cases e : g = j
               · subst e; rw [upd_s, upd_s]
               · rw [upd_n e, upd_n (by omega)]; exact sr.2.2.2.2.2 g hg)
  · refine R_if_eq (pc := 4) (t := 23) dX11_control_4 (by decide) (fun _ => ?_) (fun hz9 => absurd hz9 (by decide))
    refine R_ldc (pc := 23) (x := (-1000001)) dX11_control_23 rfl ?_
    refine R_iret (pc := 25) dX11_control_25 rfl ?_
    first
      | exact hB (fun k q => e k q.1 q.2.1)
      | exact hB (fun k q => q.2.2.elim h10 (fun ⟨v, v1, v2⟩ => e2 v (Nat.zero_le _) v1 v2))
      | (have ok : ctlOK (nI j) b j := ⟨hj, rfl, by first | exact Or.inl h10 | exact Or.inr ⟨v, v2, e2⟩⟩
         rw [sr.2.2.2.2.2 j hj]
         refine hG j ok _ z2 (OutI.mk r2 sc2 fr2 (fun y hy => up_n (by omega) rfl) ⟨P, Wd, n, pe, K, R, se, upd co j b, ⟨up_n (by omega) sa2.1, sa2.2.1.fr (fun y y1 y2 => up_n (by omega) rfl), sa2.2.2.1.fr (fun y y1 y2 => up_n (by omega) rfl), sa2.2.2.2.1.fr (fun y y1 y2 => up_n (by omega) rfl), up_n (by omega) sa2.2.2.2.2.1, up_s⟩, sr.1.cg (fun j j1 => by rw [upd_n (by omega)]), sr.2.1, sr.2.2.1.cg (fun j j1 j2 => by rw [upd_n (by omega)]), sr.2.2.2.1.cg (fun j j1 j2 => by rw [upd_n (by omega)]), fun g hg => ?_, fun g hg => ?_⟩)
         · rw [upd_n (by omega)]; exact sr.2.2.2.2.1 g hg
         · by_cases e : g = j
           · subst e; rw [upd_s, upd_s]
           · rw [upd_n e, upd_n (by omega)]; exact sr.2.2.2.2.2 g hg)
theorem mvO2_lt {c t i N : Nat} (hc : c < N) (ht : t < N) (hi : i < N) : mvO2 c t i < N := by unfold mvO2; (repeat' split) <;> omega
theorem mvO2_inj {c t i j : Nat} (h : mvO2 c t i = mvO2 c t j) : i = j := by unfold mvO2 at h; (repeat' split at h) <;> omega
theorem InjP.mv {pe : Nat → Nat} {c t : Nat} (a : InjP pe) (hc : c < 40) (ht : t < 40) : InjP (fun i => pe (mvO2 c t i)) := fun i j hi hj e => mvO2_inj (a _ _ (mvO2_lt hc ht hi) (mvO2_lt hc ht hj) e)
/-- a state whose deck alone has changed -/
theorem StR.dk {U V : Nat → Int32} {P Wd : Nat → Nat} {n n2 : Nat} {pe pe2 : Nat → Nat} {K K2 : Nat → CdX} {R : RpX} {se co : Nat → Int32} (a : StR U P Wd n pe K R se co) (e : ∀ j, (j < 19 ∨ (1060 ≤ j ∧ j < 2754)) → V j = U j) (d : DkR V n2 pe2 K2) : StR V P Wd n2 pe2 K2 R se co := ⟨a.1.cg (fun j hj => e j (by omega)), a.2.1, d, a.2.2.2.1.cg (fun j j1 j2 => e j (by omega)), fun f hf => (a.2.2.2.2.1 f hf).trans (e _ (by omega)).symm, fun k hk => (a.2.2.2.2.2 k hk).trans (e _ (by omega)).symm⟩
theorem DkR.mv {U V : Nat → Int32} {n m : Nat} {pe o : Nat → Nat} {K : Nat → CdX} {pe2 : Nat → Nat} (a : DkR U n pe K) (hm : V 19 = nI m) (hm2 : m ≤ n) (ho : ∀ i, i < m → o i < n) (hp : ∀ i, i < m → pe2 i = pe (o i)) (hi : InjP pe2) (hV : ∀ i, i < m → ∀ j, j < 26 → V (20 + 26 * i + j) = U (20 + 26 * o i + j)) : DkR V m pe2 K := by
  obtain ⟨c1, c2, c3, c4⟩ := a
  refine ⟨hm, by omega, hi, fun i hi => ?_⟩
  obtain ⟨q1, q2, q3⟩ := c4 (o i) (ho i hi)
  rw [hp i hi]
  exact ⟨fun k hk => by rw [hV i hi k (by omega)]; exact q1 k hk, by rw [hV i hi 24 (by omega)]; exact q2, by rw [hV i hi 25 (by omega)]; exact q3⟩
theorem c11_take {x B Y pm fl l : Nat} {PA IM T U : Nat → Int32} {fk fp : Int32} {a : Int32} {n : Nat} (r : RstI h z x B Y PA pm IM fl T l fk fp) (st : StW h (x + 1) U) (sc : ScrI h x) (hn : n ≤ 40) (hw : U 19 = nI n) (hB : (∀ c, c < n → ¬ a = nI c) → Q (some (.int (-1000001))) (h, z)) (hG : ∀ c, c < n → a = nI c → ∀ (h3 : Nat → Option am_C) (z3 : Nat × Nat), (∀ a, (a < x ∨ (x + 158 ≤ a ∧ a < B)) → h3 a = h a) → (∀ V0 V : Nat → Int32, DkO U n (tkO c (n - 1)) V0 → V = upd V0 19 (nI (n - 1)) → OutI h h3 z3 x B Y V (remP U PA pm) (remN pm) IM fl T l fk fp) → Q (some (.int (nI (n - 1)))) (h3, z3)) : Rn sA mX11_take 0 [some (.ref x), some (.int a)] [] (h, z) Q := by
  have hx := r.2.1
  have st9 := st
  obtain ⟨P, Wd, n0, pe, K, R, se, co, sa, sr⟩ := st9
  have sa1 := sa.1
  have h94 : ∃ fs, h (x + 94) = some (.inr (2, fs)) := by obtain ⟨_, _, ⟨_, _, q, _⟩, _⟩ := r; exact ⟨_, q.1⟩
  obtain ⟨fs94, h94⟩ := h94
  obtain rfl : n = n0 := by
    have e := hw.symm.trans sr.2.2.1.1
    have := sr.2.2.1.2.1
    exact (nI_eq (by omega) (by omega)).mp e
  refine R_aload_n (pc := 0) dX11_take_0 rfl ?_
  refine R_getf (pc := 1) dX11_take_1 rfl (by repeat (first | assumption | exact up_s | refine up_n (by omega) ?_)) rfl ?_
  refine R_getf (pc := 4) dX11_take_4 rfl (by repeat (first | assumption | exact up_s | refine up_n (by omega) ?_)) rfl ?_
  refine R_iload_n (pc := 7) dX11_take_7 rfl ?_
  refine R_callV (pc := 8) dX11_take_8 rfl sa.2.2.1.1 rfl rfl ?_
  refine c1_has sa.2.2.1 (by omega) (fun c hc e => ?_) (fun e => ?_)
  · subst e
    refine R_if_ne (pc := 11) (t := 17) dX11_take_11 (by decide) (fun _ => ?_) (fun hz9 => absurd hz9 (by decide))
    refine R_aload_n (pc := 17) dX11_take_17 rfl ?_
    refine R_getf (pc := 18) dX11_take_18 rfl (by repeat (first | assumption | exact up_s | refine up_n (by omega) ?_)) rfl ?_
    refine R_aload_n (pc := 21) dX11_take_21 rfl ?_
    refine R_getf (pc := 22) dX11_take_22 rfl (by repeat (first | assumption | exact up_s | refine up_n (by omega) ?_)) rfl ?_
    refine R_callV (pc := 25) dX11_take_25 rfl h94 rfl rfl ?_
    refine c2_record r st (fun h2 z2 r2 fr2 => ?_)
    have hB := r.1
    have hx2 := r2.2.1
    have sa2 : StAt h2 (x + 1) P Wd n pe K R se co := sa.fr (fun y y1 y2 => fr2 y (by omega) (by omega) (by omega))
    have sc2 : ScrI h2 x := sc.fr (fun y y1 y2 => fr2 y (by omega) (by omega) (by omega))
    have sa21 := sa2.1
    have s91 := sa2.2.2.2.2.1
    have s92 := sa2.2.2.2.2.2
    refine R_aload_n (pc := 28) dX11_take_28 rfl ?_
    refine R_getf (pc := 29) dX11_take_29 rfl (by repeat (first | assumption | exact up_s | refine up_n (by omega) ?_)) rfl ?_
    refine R_getf (pc := 32) dX11_take_32 rfl (by repeat (first | assumption | exact up_s | refine up_n (by omega) ?_)) rfl ?_
    refine R_iload_n (pc := 35) dX11_take_35 rfl ?_
    refine R_callV (pc := 36) dX11_take_36 rfl sa2.2.2.1.1 rfl rfl ?_
    refine c1_remove sa2.2.2.1 (by omega) hc (fun h3 k1 k2 => ?_)
    have hx3 := (k2 x (by omega)).trans hx2
    have sa31 := (k2 (x + 1) (by omega)).trans sa21
    refine R_aload_n (pc := 39) dX11_take_39 rfl ?_
    refine R_getf (pc := 40) dX11_take_40 rfl (by repeat (first | assumption | exact up_s | refine up_n (by omega) ?_)) rfl ?_
    refine R_getf (pc := 43) dX11_take_43 rfl (by repeat (first | assumption | exact up_s | refine up_n (by omega) ?_)) rfl ?_
    refine R_callV (pc := 46) dX11_take_46 rfl k1.1 rfl rfl ?_
    refine c1_size k1 ?_
    refine R_iret (pc := 49) dX11_take_49 rfl ?_
    first
      | exact hB e
      | (refine hG c hc rfl h3 z2 (OutI.frm r2 fr2 (fun y hy => k2 y (by omega))) (fun V0 V v1 v2 => OutI.mk r2 sc2 fr2 (fun y hy => k2 y (by omega)) ⟨P, Wd, n - 1, _, K, R, se, co, ⟨sa31, sa2.2.1.fr (fun y y1 y2 => k2 y (by omega)), k1, sa2.2.2.2.1.fr (fun y y1 y2 => k2 y (by omega)), (k2 _ (by omega)).trans sa2.2.2.2.2.1, (k2 _ (by omega)).trans sa2.2.2.2.2.2⟩, sr.dk (fun j hj => ?_) (sr.2.2.1.mv (o := tkO c (n - 1)) ?_ (by omega) (fun i hi => ?_) (fun i hi => ?_) (sr.2.2.1.2.2.1.mv (by omega) (by omega)) (fun i hi j hj => ?_))⟩)
         · rw [v2, upd_n (by omega)]; exact v1.2 j (by omega)
         · rw [v2, upd_s]
         · unfold tkO; split <;> omega
         · show pe (mvO2 c (n - 1) i) = pe (tkO c (n - 1) i)
           congr 1
           unfold mvO2 tkO
           (repeat' split) <;> omega
         · rw [v2, upd_n (by omega)]; exact v1.1 i (by omega) j hj)
  · refine R_if_ne (pc := 11) (t := 17) dX11_take_11 (by decide) (fun hz9 => absurd hz9 (by decide)) (fun _ => ?_)
    refine R_ldc (pc := 14) (x := (-1000001)) dX11_take_14 rfl ?_
    refine R_iret (pc := 16) dX11_take_16 rfl ?_
    first
      | exact hB e
      | (refine hG c hc rfl h3 z2 (OutI.frm r2 fr2 (fun y hy => k2 y (by omega))) (fun V0 V v1 v2 => OutI.mk r2 sc2 fr2 (fun y hy => k2 y (by omega)) ⟨P, Wd, n - 1, _, K, R, se, co, ⟨sa31, sa2.2.1.fr (fun y y1 y2 => k2 y (by omega)), k1, sa2.2.2.2.1.fr (fun y y1 y2 => k2 y (by omega)), (k2 _ (by omega)).trans sa2.2.2.2.2.1, (k2 _ (by omega)).trans sa2.2.2.2.2.2⟩, sr.dk (fun j hj => ?_) (sr.2.2.1.mv (o := tkO c (n - 1)) ?_ (by omega) (fun i hi => ?_) (fun i hi => ?_) (sr.2.2.1.2.2.1.mv (by omega) (by omega)) (fun i hi j hj => ?_))⟩)
         · rw [v2, upd_n (by omega)]; exact v1.2 j (by omega)
         · rw [v2, upd_s]
         · unfold tkO; split <;> omega
         · show pe (mvO2 c (n - 1) i) = pe (tkO c (n - 1) i)
           congr 1
           unfold mvO2 tkO
           (repeat' split) <;> omega
         · rw [v2, upd_n (by omega)]; exact v1.1 i (by omega) j hj)
theorem abs_mv {c t : Nat} (hc : c < 40) (ht : t < 40) (h : ¬ c = t) : (if 0 ≤ nI c - nI t then nI c - nI t else 0 - (nI c - nI t)) + nI 1 = nI (mvN c t) := by
  unfold mvN
  rw [if_neg h]
  by_cases e : c < t
  · have l : nI c - nI t < 0 := pk_sneg (by omega) e
    rw [if_neg (fun q => absurd l (Int32.not_lt.mpr q)), if_pos e, show (0 : Int32) - (nI c - nI t) = nI t - nI c by rw [Int32.zero_sub, Int32.neg_sub], pk_sub (by omega), nI_add]
  · rw [pk_sub (by omega), if_pos (nI_pos' (by omega)), if_neg e, nI_add]
theorem c11_move {x B Y pm fl l : Nat} {PA IM T U : Nat → Int32} {fk fp : Int32} {a b : Int32} {n : Nat} (r : RstI h z x B Y PA pm IM fl T l fk fp) (st : StW h (x + 1) U) (sc : ScrI h x) (hn : n ≤ 40) (hw : U 19 = nI n) (hB : (∀ c t, ¬ (c < n ∧ t < n ∧ a = nI c ∧ b = nI t)) → Q (some (.int (-1000001))) (h, z)) (hG : ∀ c t, c < n → t < n → a = nI c → b = nI t → ∀ (h3 : Nat → Option am_C) (z3 : Nat × Nat), (∀ a, (a < x ∨ (x + 158 ≤ a ∧ a < B)) → h3 a = h a) → (∀ V : Nat → Int32, DkO U n (mvO2 c t) V → OutI h h3 z3 x B Y V (remP U PA pm) (remN pm) IM fl T l fk fp) → Q (some (.int (nI (mvN c t)))) (h3, z3)) : Rn sA mX11_move 0 [some (.ref x), some (.int a), some (.int b)] [] (h, z) Q := by
  have hx := r.2.1
  have st9 := st
  obtain ⟨P, Wd, n0, pe, K, R, se, co, sa, sr⟩ := st9
  have sa1 := sa.1
  have h94 : ∃ fs, h (x + 94) = some (.inr (2, fs)) := by obtain ⟨_, _, ⟨_, _, q, _⟩, _⟩ := r; exact ⟨_, q.1⟩
  obtain ⟨fs94, h94⟩ := h94
  obtain rfl : n = n0 := by
    have e := hw.symm.trans sr.2.2.1.1
    have := sr.2.2.1.2.1
    exact (nI_eq (by omega) (by omega)).mp e
  refine R_aload_n (pc := 0) dX11_move_0 rfl ?_
  refine R_getf (pc := 1) dX11_move_1 rfl (by repeat (first | assumption | exact up_s | refine up_n (by omega) ?_)) rfl ?_
  refine R_getf (pc := 4) dX11_move_4 rfl (by repeat (first | assumption | exact up_s | refine up_n (by omega) ?_)) rfl ?_
  refine R_iload_n (pc := 7) dX11_move_7 rfl ?_
  refine R_callV (pc := 8) dX11_move_8 rfl sa.2.2.1.1 rfl rfl ?_
  refine c1_has sa.2.2.1 (by omega) (fun c hc e => ?_) (fun e => ?_)
  · subst e
    refine R_if_eq (pc := 11) (t := 28) dX11_move_11 (by decide) (fun hz9 => absurd hz9 (by decide)) (fun _ => ?_)
    refine R_aload_n (pc := 14) dX11_move_14 rfl ?_
    refine R_getf (pc := 15) dX11_move_15 rfl (by repeat (first | assumption | exact up_s | refine up_n (by omega) ?_)) rfl ?_
    refine R_getf (pc := 18) dX11_move_18 rfl (by repeat (first | assumption | exact up_s | refine up_n (by omega) ?_)) rfl ?_
    refine R_iload_n (pc := 21) dX11_move_21 rfl ?_
    refine R_callV (pc := 22) dX11_move_22 rfl sa.2.2.1.1 rfl rfl ?_
    refine c1_has sa.2.2.1 (by omega) (fun t ht e2 => ?_) (fun e2 => ?_)
    · subst e2
      refine R_if_ne (pc := 25) (t := 31) dX11_move_25 (by decide) (fun _ => ?_) (fun hz9 => absurd hz9 (by decide))
      refine R_aload_n (pc := 31) dX11_move_31 rfl ?_
      refine R_getf (pc := 32) dX11_move_32 rfl (by repeat (first | assumption | exact up_s | refine up_n (by omega) ?_)) rfl ?_
      refine R_aload_n (pc := 35) dX11_move_35 rfl ?_
      refine R_getf (pc := 36) dX11_move_36 rfl (by repeat (first | assumption | exact up_s | refine up_n (by omega) ?_)) rfl ?_
      refine R_callV (pc := 39) dX11_move_39 rfl h94 rfl rfl ?_
      refine c2_record r st (fun h2 z2 r2 fr2 => ?_)
      have hB := r.1
      have hx2 := r2.2.1
      have sa2 : StAt h2 (x + 1) P Wd n pe K R se co := sa.fr (fun y y1 y2 => fr2 y (by omega) (by omega) (by omega))
      have sc2 : ScrI h2 x := sc.fr (fun y y1 y2 => fr2 y (by omega) (by omega) (by omega))
      have sa21 := sa2.1
      have s91 := sa2.2.2.2.2.1
      have s92 := sa2.2.2.2.2.2
      refine R_aload_n (pc := 42) dX11_move_42 rfl ?_
      refine R_getf (pc := 43) dX11_move_43 rfl (by repeat (first | assumption | exact up_s | refine up_n (by omega) ?_)) rfl ?_
      refine R_getf (pc := 46) dX11_move_46 rfl (by repeat (first | assumption | exact up_s | refine up_n (by omega) ?_)) rfl ?_
      refine R_iload_n (pc := 49) dX11_move_49 rfl ?_
      refine R_iload_n (pc := 50) dX11_move_50 rfl ?_
      refine R_callV (pc := 51) dX11_move_51 rfl sa2.2.2.1.1 rfl rfl ?_
      refine c1_carry sa2.2.2.1 (by omega) (by omega) (fun h3 k1 k2 => ?_)
      have fin : (∀ V : Nat → Int32, DkO U n (mvO2 c t) V → OutI h h3 z2 x B Y V (remP U PA pm) (remN pm) IM fl T l fk fp) := by
        refine fun V v1 => OutI.mk r2 sc2 fr2 (fun y hy => k2 y (by omega)) ⟨P, Wd, n, _, K, R, se, co, ⟨(k2 _ (by omega)).trans sa21, sa2.2.1.fr (fun y y1 y2 => k2 y (by omega)), k1, sa2.2.2.2.1.fr (fun y y1 y2 => k2 y (by omega)), (k2 _ (by omega)).trans sa2.2.2.2.2.1, (k2 _ (by omega)).trans sa2.2.2.2.2.2⟩, sr.dk (fun j hj => v1.2 j (by omega)) (sr.2.2.1.mv (o := mvO2 c t) ((v1.2 19 (by omega)).trans hw) (by omega) (fun i hi => mvO2_lt hc ht hi) (fun i hi => rfl) (sr.2.2.1.2.2.1.mv (by omega) (by omega)) v1.1)⟩
      refine R_iload_n (pc := 54) dX11_move_54 rfl ?_
      refine R_iload_n (pc := 55) dX11_move_55 rfl ?_
      refine R_icmp_ne (pc := 56) (t := 63) dX11_move_56 (by decide) (fun h56 => ?_) (fun h56 => ?_)
      · refine R_iload_n (pc := 63) dX11_move_63 rfl ?_
        refine R_iload_n (pc := 64) dX11_move_64 rfl ?_
        refine R_isub (pc := 65) dX11_move_65 ?_
        refine R_abs (pc := 66) dX11_move_66 rfl rfl ⟨Nat.le_of_ble_eq_true rfl, Nat.le_of_ble_eq_true rfl⟩ ?_
        refine R_iconst (pc := 69) (x := nI 1) dX11_move_69 rfl ?_
        refine R_iadd (pc := 70) dX11_move_70 ?_
        refine R_iret (pc := 71) dX11_move_71 rfl ?_
        first
          | exact hB (fun c t q => e c q.1 q.2.2.1)
          | exact hB (fun c t q => e2 t q.2.1 q.2.2.2)
          | (have ct : ¬ c = t := fun q => h56 (by rw [q])
             rw [abs_mv (by omega) (by omega) ct]
             exact hG c t hc ht rfl rfl h3 z2 (OutI.frm r2 fr2 (fun y hy => k2 y (by omega))) fin)
          | (have ct : c = t := (nI_eq (by omega) (by omega)).mp h56
             have em : mvN c t = 0 := by unfold mvN; rw [if_pos ct]
             have := hG c t hc ht rfl rfl h3 z2 (OutI.frm r2 fr2 (fun y hy => k2 y (by omega))) fin
             rw [em] at this
             exact this)
      · refine R_iconst (pc := 59) (x := nI 0) dX11_move_59 rfl ?_
        refine R_goto (pc := 60) (t := 71) dX11_move_60 (by decide) ?_
        refine R_iret (pc := 71) dX11_move_71 rfl ?_
        first
          | exact hB (fun c t q => e c q.1 q.2.2.1)
          | exact hB (fun c t q => e2 t q.2.1 q.2.2.2)
          | (have ct : ¬ c = t := fun q => h56 (by rw [q])
             rw [abs_mv (by omega) (by omega) ct]
             exact hG c t hc ht rfl rfl h3 z2 (OutI.frm r2 fr2 (fun y hy => k2 y (by omega))) fin)
          | (have ct : c = t := (nI_eq (by omega) (by omega)).mp h56
             have em : mvN c t = 0 := by unfold mvN; rw [if_pos ct]
             have := hG c t hc ht rfl rfl h3 z2 (OutI.frm r2 fr2 (fun y hy => k2 y (by omega))) fin
             rw [em] at this
             exact this)
    · refine R_if_ne (pc := 25) (t := 31) dX11_move_25 (by decide) (fun hz9 => absurd hz9 (by decide)) (fun _ => ?_)
      refine R_ldc (pc := 28) (x := (-1000001)) dX11_move_28 rfl ?_
      refine R_iret (pc := 30) dX11_move_30 rfl ?_
      first
        | exact hB (fun c t q => e c q.1 q.2.2.1)
        | exact hB (fun c t q => e2 t q.2.1 q.2.2.2)
        | (have ct : ¬ c = t := fun q => h56 (by rw [q])
           rw [abs_mv (by omega) (by omega) ct]
           exact hG c t hc ht rfl rfl h3 z2 (OutI.frm r2 fr2 (fun y hy => k2 y (by omega))) fin)
        | (have ct : c = t := (nI_eq (by omega) (by omega)).mp h56
           have em : mvN c t = 0 := by unfold mvN; rw [if_pos ct]
           have := hG c t hc ht rfl rfl h3 z2 (OutI.frm r2 fr2 (fun y hy => k2 y (by omega))) fin
           rw [em] at this
           exact this)
  · refine R_if_eq (pc := 11) (t := 28) dX11_move_11 (by decide) (fun _ => ?_) (fun hz9 => absurd hz9 (by decide))
    refine R_ldc (pc := 28) (x := (-1000001)) dX11_move_28 rfl ?_
    refine R_iret (pc := 30) dX11_move_30 rfl ?_
    first
      | exact hB (fun c t q => e c q.1 q.2.2.1)
      | exact hB (fun c t q => e2 t q.2.1 q.2.2.2)
      | (have ct : ¬ c = t := fun q => h56 (by rw [q])
         rw [abs_mv (by omega) (by omega) ct]
         exact hG c t hc ht rfl rfl h3 z2 (OutI.frm r2 fr2 (fun y hy => k2 y (by omega))) fin)
      | (have ct : c = t := (nI_eq (by omega) (by omega)).mp h56
         have em : mvN c t = 0 := by unfold mvN; rw [if_pos ct]
         have := hG c t hc ht rfl rfl h3 z2 (OutI.frm r2 fr2 (fun y hy => k2 y (by omega))) fin
         rw [em] at this
         exact this)
end CE3
