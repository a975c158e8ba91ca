section CE1
variable {sA : Nat} {h : Nat → Option am_C} {z : Nat × Nat} {Q : Option Value → am_H → Prop}
theorem c2_size {x B Y pm fl l : Nat} {PA IM T U : Nat → Int32} {fk fp : Int32} (r : RstI h z x B Y PA pm IM fl T l fk fp) (hQ : Q (some (.int (nI pm))) (h, z)) : Rn sA mX2_size 0 [some (.ref (x + 94))] [] (h, z) Q := by
  have r9 := r
  obtain ⟨hB, hx, ⟨old, F, ⟨h1, ⟨f, h2a, h2b⟩, ho8, hp8, hpast⟩, im, lz⟩, tx, hl⟩ := r9
  refine R_aload_n (pc := 0) dX2_size_0 rfl ?_
  refine R_getf (pc := 1) dX2_size_1 rfl (by repeat (first | assumption | exact up_s | refine up_n (by omega) ?_)) rfl ?_
  refine R_iret (pc := 4) dX2_size_4 rfl ?_
  exact hQ
theorem c2_isEmpty {x B Y pm fl l : Nat} {PA IM T U : Nat → Int32} {fk fp : Int32} (r : RstI h z x B Y PA pm IM fl T l fk fp) (hY : pm = 0 → Q (some (.int (nI 1))) (h, z)) (hN : ¬ pm = 0 → Q (some (.int (nI 0))) (h, z)) : Rn sA mX2_isEmpty 0 [some (.ref (x + 94))] [] (h, z) Q := by
  have r9 := r
  obtain ⟨hB, hx, ⟨old, F, ⟨h1, ⟨f, h2a, h2b⟩, ho8, hp8, hpast⟩, im, lz⟩, tx, hl⟩ := r9
  refine R_aload_n (pc := 0) dX2_isEmpty_0 rfl ?_
  refine R_getf (pc := 1) dX2_isEmpty_1 rfl (by repeat (first | assumption | exact up_s | refine up_n (by omega) ?_)) rfl ?_
  refine R_if_ne (pc := 4) (t := 11) dX2_isEmpty_4 (by decide) (fun h4 => ?_) (fun h4 => ?_)
  · refine R_iconst (pc := 11) (x := nI 0) dX2_isEmpty_11 rfl ?_
    refine R_zret (pc := 12) dX2_isEmpty_12 rfl (by decide) ?_
    first
      | exact hN (fun q => h4 (by rw [q]; rfl))
      | exact hY ((nI_eq (b := 0) (by omega) (by omega)).mp h4)
  · refine R_iconst (pc := 7) (x := nI 1) dX2_isEmpty_7 rfl ?_
    refine R_goto (pc := 8) (t := 12) dX2_isEmpty_8 (by decide) ?_
    refine R_zret (pc := 12) dX2_isEmpty_12 rfl (by decide) ?_
    first
      | exact hN (fun q => h4 (by rw [q]; rfl))
      | exact hY ((nI_eq (b := 0) (by omega) (by omega)).mp h4)
theorem c2_atS {x i old s : Nat} {pmv : Int32} {F f : Nat → Option Nat} (h1 : h (x + 94) = some (.inr (2, [.ref (x + 95), .int (nI old), .int pmv]))) (h2a : h (x + 95) = some (.inl (2, 8, .inr (.inr (.inr (.inr f)))))) (h2b : ∀ i, i < 8 → f i = F i) (ho8 : old < 8) (hi : i ≤ 8) (es : F ((old + i) % 8) = some s) (hQ : Q (some (.ref s)) (h, z)) : Rn sA mX2_at 0 [some (.ref (x + 94)), some (.int (nI i)), none, none] [] (h, z) Q := by
  refine R_aload_n (pc := 0) dX2_at_0 rfl ?_
  refine R_getf (pc := 1) dX2_at_1 rfl (by repeat (first | assumption | exact up_s | refine up_n (by omega) ?_)) rfl ?_
  refine R_iload_n (pc := 4) dX2_at_4 rfl ?_
  refine R_iadd (pc := 5) dX2_at_5 ?_
  rw [nI_add]
  refine R_bipush (pc := 6) (x := nI 8) dX2_at_6 (by decide) ?_
  refine R_callS (pc := 8) dX2_at_8 rfl (Or.inl rfl) rfl rfl ?_
  refine cJ9 (by omega) ?_
  refine R_istore_n (pc := 11) dX2_at_11 (Nat.le_of_ble_eq_true rfl) rfl ?_
  refine R_aload_n (pc := 12) dX2_at_12 rfl ?_
  refine R_getf (pc := 13) dX2_at_13 rfl (by repeat (first | assumption | exact up_s | refine up_n (by omega) ?_)) rfl ?_
  refine R_iload_n (pc := 16) dX2_at_16 rfl ?_
  refine R_aald (pc := 17) dX2_at_17 h2a (by decide) rfl (by omega) (by decide) (by rw [h2b _ (by omega), es]) ?_
  refine R_astore_n (pc := 18) dX2_at_18 (Nat.le_of_ble_eq_true rfl) rfl ?_
  refine R_aload_n (pc := 19) dX2_at_19 rfl ?_
  refine R_ifnn (pc := 20) (t := 38) dX2_at_20 (by decide) ?_
  refine R_aload_n (pc := 38) dX2_at_38 rfl ?_
  refine R_aret (pc := 39) dX2_at_39 rfl ?_
  exact hQ
theorem c2_record {x B Y pm fl l : Nat} {PA IM T U : Nat → Int32} {fk fp : Int32} (r : RstI h z x B Y PA pm IM fl T l fk fp) (st : StW h (x + 1) U) (hQ : ∀ (h2 : Nat → Option am_C) (z2 : Nat × Nat), RstI h2 z2 x B Y (remP U PA pm) (remN pm) IM fl T l fk fp → (∀ a, ¬ a = x + 94 → ¬ a = x + 95 → a < B → h2 a = h a) → Q none (h2, z2)) : Rn sA mX2_record 0 [some (.ref (x + 94)), some (.ref (x + 1))] [] (h, z) Q := by
  have r9 := r
  obtain ⟨hB, hx, ⟨old, F, ⟨h1, ⟨f, h2a, h2b⟩, ho8, hp8, hpast⟩, im, lz⟩, tx, hl⟩ := r9
  refine R_aload_n (pc := 0) dX2_record_0 rfl ?_
  refine R_aload_n (pc := 1) dX2_record_1 rfl ?_
  refine R_getf (pc := 2) dX2_record_2 rfl (by repeat (first | assumption | exact up_s | refine up_n (by omega) ?_)) rfl ?_
  refine R_callV (pc := 5) dX2_record_5 rfl (by repeat (first | assumption | exact up_s | refine up_n (by omega) ?_)) rfl rfl ?_
  refine c2_at h1 h2a h2b lz hB ho8 hp8 (fun h2 z2 F2 s q1 q2 q3 q4 q5 => ?_)
  have hz := lz.2.2.1
  obtain ⟨f2, q3a, q3b⟩ := q3
  have e94 : h2 (x + 94) = _ := (q5 (x + 94) (by omega) (by omega)).trans h1
  have st2 : StW h2 (x + 1) U := st.fr (fun y y1 y2 => q5 y (by omega) (by omega))
  obtain ⟨gs1, gs2, gs3⟩ := q4.1 ((old + pm) % 8) (by omega) s q1
  have e8 : ∃ fs, h2 s = some (.inr (8, fs)) := by obtain ⟨_, _, _, _, _, _, _, _, q, _⟩ := gs3; exact ⟨_, q.1⟩
  obtain ⟨fs, e8⟩ := e8
  refine R_aload_n (pc := 8) dX2_record_8 rfl ?_
  refine R_callV (pc := 9) dX2_record_9 rfl e8 rfl rfl ?_
  refine c8_copyFrom gs3 st2 (by omega) (fun h3 r1 r2 => ?_)
  have e94 : h3 (x + 94) = _ := (r2 (x + 94) (by omega)).trans e94
  have fin : ∀ (h4 : Nat → Option am_C) (o2 : Nat), (pm = 8 → o2 = (old + 1) % 8) → (¬ pm = 8 → o2 = old) → h4 (x + 94) = some (.inr (2, [.ref (x + 95), .int (nI o2), .int (nI (remN pm))])) → (∀ y, ¬ y = x + 94 → h4 y = h3 y) → Q none (h4, z2) := by
    intro h4 o2 ho1 ho2 h94 hv
    have hpq : ∀ j t W, j < 10 → ¬ j = (old + pm) % 8 → F j = some t → StW h t W → F2 j = some t ∧ StW h4 t W := by
      intro j t W hj hne e1 e2
      have e3 := (q2 j hne).trans e1
      obtain ⟨g1, g2, -⟩ := lz.1 j hj t e1
      refine ⟨e3, e2.fr (fun y y1 y2 => ?_)⟩
      rw [hv y (by omega), r2 y (by have := q4.2.1 j ((old + pm) % 8) hj (by omega) hne t s e3 q1; omega), q5 y (by omega) (by omega)]
    have hs4 : StW h4 s U := r1.fr (fun y y1 y2 => hv y (by omega))
    have lz4 : LzI h4 B z2 Y F2 := (q4.put (by omega) q1 r1.sh r2).fr (fun y hy => hv y (by omega))
    refine hQ h4 z2 ⟨hB, ?_, ⟨o2, F2, ⟨h94, ⟨f2, ?_, q3b⟩, ?_, ?_, fun i hi => ?_⟩, ⟨?_, im.2.1, fun i hi => ?_⟩, lz4⟩, tx.fr (fun y y1 y2 => ?_), hl⟩ (fun a a1 a2 a3 => ?_)
    · rw [hv x (by omega), r2 x (by omega), q5 x (by omega) (by omega)]; exact hx
    · rw [hv _ (by omega), r2 _ (by omega)]; exact q3a
    · omega
    · unfold remN; split <;> omega
    · unfold remN at hi
      unfold remP
      by_cases p8 : pm = 8
      · rw [if_pos p8] at hi ⊢
        by_cases e : i = 7
        · subst e
          refine ⟨s, by rw [← q1]; congr 1; omega, hs4.cg (fun j hj => ?_)⟩
          show va_cpy U _ 0 (2754 * 7) 2754 (2754 * 7 + j) = U j
          rw [cpy_in (by omega) (by omega), show 0 + (2754 * 7 + j - 2754 * 7) = j by omega]
        · obtain ⟨t, t1, t2⟩ := hpast (i + 1) (by omega)
          obtain ⟨u1, u2⟩ := hpq _ t _ (by omega) (by omega) t1 t2
          refine ⟨t, by rw [← u1]; congr 1; omega, u2.cg (fun j hj => ?_)⟩
          show va_cpy U _ 0 (2754 * 7) 2754 (2754 * i + j) = PA (2754 * (i + 1) + j)
          rw [cpy_out (by omega), cpy_in (by omega) (by omega), show 2754 + (2754 * i + j - 0) = 2754 * (i + 1) + j by omega]
      · rw [if_neg p8] at hi ⊢
        by_cases e : i = pm
        · subst e
          refine ⟨s, by rw [← q1]; congr 1; omega, hs4.cg (fun j hj => ?_)⟩
          show va_cpy U _ 0 (2754 * i) 2754 (2754 * i + j) = U j
          rw [cpy_in (by omega) (by omega), show 0 + (2754 * i + j - 2754 * i) = j by omega]
        · obtain ⟨t, t1, t2⟩ := hpast i (by omega)
          obtain ⟨u1, u2⟩ := hpq _ t _ (by omega) (by omega) t1 t2
          refine ⟨t, by rw [← u1]; congr 1; omega, u2.cg (fun j hj => ?_)⟩
          show va_cpy U _ 0 (2754 * pm) 2754 (2754 * i + j) = PA (2754 * i + j)
          rw [cpy_out (by omega)]
    · obtain ⟨⟨f3, f3a, f3b⟩, -, -⟩ := im
      refine ⟨f3, ?_, fun i hi => (f3b i hi).trans (q2 _ (by omega)).symm⟩
      rw [hv _ (by omega), r2 _ (by omega), q5 _ (by omega) (by omega)]
      exact f3a
    · rcases im.2.2 i hi with q | ⟨qa, t, t1, t2⟩
      · exact Or.inl ⟨q.1, (q2 _ (by omega)).trans q.2⟩
      · obtain ⟨u1, u2⟩ := hpq (8 + i) t _ (by omega) (by omega) t1 t2
        exact Or.inr ⟨qa, t, u1, u2⟩
    · rw [hv y (by omega), r2 y (by omega), q5 y (by omega) (by omega)]
    · rw [hv a (by omega), r2 a (by omega), q5 a (by omega) (by omega)]
  refine R_aload_n (pc := 12) dX2_record_12 rfl ?_
  refine R_getf (pc := 13) dX2_record_13 rfl (by repeat (first | assumption | exact up_s | refine up_n (by omega) ?_)) rfl ?_
  refine R_bipush (pc := 16) (x := nI 8) dX2_record_16 (by decide) ?_
  refine R_icmp_ge (pc := 18) (t := 34) dX2_record_18 (by decide) (fun h18 => ?_) (fun h18 => ?_)
  · have h8 : pm = 8 := by
      have := (nI_leI (a := 8) (b := pm) (by omega) (by omega)).mp h18
      omega
    refine R_aload_n (pc := 34) dX2_record_34 rfl ?_
    refine R_aload_n (pc := 35) dX2_record_35 rfl ?_
    refine R_getf (pc := 36) dX2_record_36 rfl (by repeat (first | assumption | exact up_s | refine up_n (by omega) ?_)) rfl ?_
    refine R_iconst (pc := 39) (x := nI 1) dX2_record_39 rfl ?_
    refine R_iadd (pc := 40) dX2_record_40 ?_
    refine R_bipush (pc := 41) (x := nI 8) dX2_record_41 (by decide) ?_
    refine R_irem (pc := 43) dX2_record_43 (by decide) ?_
    rw [nI_add, pk_rem (show old + 1 < 2 ^ 31 by omega) (by omega) (by omega)]
    refine R_putf (pc := 44) dX2_record_44 rfl (by repeat (first | assumption | exact up_s | refine up_n (by omega) ?_)) rfl (Or.inl rfl) rfl ?_
    refine R_vret (pc := 47) dX2_record_47 rfl ?_
    exact fin _ ((old + 1) % 8) (fun _ => rfl) (fun q => absurd h8 q) (by rw [up_s]; unfold remN; rw [if_pos h8, h8]; rfl) (fun y hy => up_n hy rfl)
  · have h8 : ¬ pm = 8 := by
      intro q
      rw [q] at h18
      exact h18 (Int32.le_refl _)
    refine R_aload_n (pc := 21) dX2_record_21 rfl ?_
    refine R_dup (pc := 22) dX2_record_22 rfl ?_
    refine R_getf (pc := 23) dX2_record_23 rfl (by repeat (first | assumption | exact up_s | refine up_n (by omega) ?_)) rfl ?_
    refine R_iconst (pc := 26) (x := nI 1) dX2_record_26 rfl ?_
    refine R_iadd (pc := 27) dX2_record_27 ?_
    rw [nI_add]
    refine R_putf (pc := 28) dX2_record_28 rfl (by repeat (first | assumption | exact up_s | refine up_n (by omega) ?_)) rfl (Or.inl rfl) rfl ?_
    refine R_goto (pc := 31) (t := 47) dX2_record_31 (by decide) ?_
    refine R_vret (pc := 47) dX2_record_47 rfl ?_
    exact fin _ old (fun q => absurd q h8) (fun _ => rfl) (by rw [up_s]; unfold remN; rw [if_neg h8]; rfl) (fun y hy => up_n hy rfl)
theorem c2_restoreInto {x B Y pm fl l : Nat} {PA IM T U : Nat → Int32} {fk fp : Int32} {q : Nat} (r : RstI h z x B Y PA pm IM fl T l fk fp) (st : StS h (x + 1)) (hq : pm = q + 1) (hQ : ∀ (h2 : Nat → Option am_C), StW h2 (x + 1) (fun j => PA (2754 * q + j)) → RstI h2 z x B Y PA q IM fl T l fk fp → (∀ a, (a < x + 1 ∨ x + 95 ≤ a) → h2 a = h a) → Q none (h2, z)) : Rn sA mX2_restoreInto 0 [some (.ref (x + 94)), some (.ref (x + 1))] [] (h, z) Q := by
  have r9 := r
  obtain ⟨hB, hx, ⟨old, F, ⟨h1, ⟨f, h2a, h2b⟩, ho8, hp8, hpast⟩, im, lz⟩, tx, hl⟩ := r9
  obtain ⟨s, t1, t2⟩ := hpast q (by omega)
  have gs := (lz.1 _ (by omega) s t1).1
  have e8 : ∃ fs, h (x + 1) = some (.inr (8, fs)) := by obtain ⟨_, _, _, _, _, _, _, _, q, _⟩ := st; exact ⟨_, q.1⟩
  obtain ⟨fs, e8⟩ := e8
  refine R_aload_n (pc := 0) dX2_restoreInto_0 rfl ?_
  refine R_getf (pc := 1) dX2_restoreInto_1 rfl (by repeat (first | assumption | exact up_s | refine up_n (by omega) ?_)) rfl ?_
  refine R_if_le (pc := 4) (t := 29) dX2_restoreInto_4 (by decide) (fun hz9 => absurd hz9 (nI_nle (by omega) (by omega))) (fun _ => ?_)
  refine R_aload_n (pc := 7) dX2_restoreInto_7 rfl ?_
  refine R_dup (pc := 8) dX2_restoreInto_8 rfl ?_
  refine R_getf (pc := 9) dX2_restoreInto_9 rfl (by repeat (first | assumption | exact up_s | refine up_n (by omega) ?_)) rfl ?_
  refine R_iconst (pc := 12) (x := nI 1) dX2_restoreInto_12 rfl ?_
  refine R_isub (pc := 13) dX2_restoreInto_13 ?_
  rw [pk_sub (show 1 ≤ pm by omega), show pm - 1 = q by omega]
  refine R_putf (pc := 14) dX2_restoreInto_14 rfl (by repeat (first | assumption | exact up_s | refine up_n (by omega) ?_)) rfl (Or.inl rfl) rfl ?_
  refine R_aload_n (pc := 17) dX2_restoreInto_17 rfl ?_
  refine R_aload_n (pc := 18) dX2_restoreInto_18 rfl ?_
  refine R_aload_n (pc := 19) dX2_restoreInto_19 rfl ?_
  refine R_getf (pc := 20) dX2_restoreInto_20 rfl (by repeat (first | assumption | exact up_s | refine up_n (by omega) ?_)) rfl ?_
  refine R_callV (pc := 23) dX2_restoreInto_23 rfl (by repeat (first | assumption | exact up_s | refine up_n (by omega) ?_)) rfl rfl ?_
  refine c2_atS (s := s) up_s (up_n (by omega) h2a) h2b ho8 (by omega) t1 ?_
  refine R_callV (pc := 26) dX2_restoreInto_26 rfl (by repeat (first | assumption | exact up_s | refine up_n (by omega) ?_)) rfl rfl ?_
  refine c8_copyFrom (U := fun j => PA (2754 * q + j)) (st.fr (fun y y1 y2 => up_n (by omega) rfl)) (t2.fr (fun y y1 y2 => up_n (by omega) rfl)) (by omega) (fun h3 r1 r2 => ?_)
  refine R_vret (pc := 29) dX2_restoreInto_29 rfl ?_
  have hv : ∀ y, ¬ y = x + 94 → (y < x + 1 ∨ x + 94 ≤ y) → h3 y = h y := fun y y1 y2 => by rw [r2 y (by omega), up_n y1 rfl]
  refine hQ h3 r1 ⟨hB, (hv x (by omega) (by omega)).trans hx, ⟨old, F, ⟨(r2 _ (by omega)).trans up_s, ⟨f, (hv _ (by omega) (by omega)).trans h2a, h2b⟩, ho8, by omega, fun i hi => ?_⟩, im.fr lz (hv _ (by omega) (by omega)) (fun y hy => hv y (by omega) (by omega)), lz.fr (fun y hy => hv y (by omega) (by omega))⟩, tx.fr (fun y y1 y2 => hv y (by omega) (by omega)), hl⟩ (fun a ha => hv a (by omega) (by omega))
  obtain ⟨u, u1, u2⟩ := hpast i (by omega)
  exact ⟨u, u1, u2.fr (fun y y1 y2 => hv y (by have := (lz.1 _ (by omega) u u1).1; omega) (by have := (lz.1 _ (by omega) u u1).1; omega))⟩
end CE1
