section CE8
variable {sA : Nat} {h : Nat → Option am_C} {z : Nat × Nat} {Q : Option Value → am_H → Prop}
theorem c11_back {x B Y pm fl l : Nat} {PA IM T U : Nat → Int32} {fk fp : Int32} {P Wd : Nat → Nat} {n : Nat} {pe : Nat → Nat} {K : Nat → CdX} {R : RpX} {se co : Nat → Int32} {a : Int32} (r : RstI h z x B Y PA pm IM fl T l fk fp) (sa : StAt h (x + 1) P Wd n pe K R se co) (sr : StR U P Wd n pe K R se co) (sc : ScrI h x) (hB : (∀ i, i < 2 → ¬ a = nI i) → Q (some (.int (-1000001))) (h, z)) (hT : ∀ i, i < 2 → a = nI i → fl / 2 ^ i % 2 = 0 → Q (some (.int (-1000002))) (h, z)) (hG : ∀ i, i < 2 → a = nI i → ¬ fl / 2 ^ i % 2 = 0 → ∀ (h3 : Nat → Option am_C) (z3 : Nat × Nat), OutI h h3 z3 x B Y (fun j => IM (2754 * i + j)) (remP U PA pm) (remN pm) IM fl T l fk fp → Q (some (.int (IM (2754 * i + 19)))) (h3, z3)) : Rn sA mX11_back 0 [some (.ref x), some (.int a), none] [] (h, z) Q := by
  have hx := r.2.1
  have st : StW h (x + 1) U := ⟨P, Wd, n, pe, K, R, se, co, sa, sr⟩
  have sa1 := sa.1
  have hn := sr.2.2.1.2.1
  have h94 : ∃ fs, h (x + 94) = some (.inr (2, fs)) := by obtain ⟨_, _, ⟨_, _, q, _⟩, _⟩ := r; exact ⟨_, q.1⟩
  obtain ⟨fs94, h94⟩ := h94
  have r9 := r
  obtain ⟨hBx, -, ⟨old, F, hs, im, lz⟩, tx, hl⟩ := r9
  have im9 := im
  obtain ⟨⟨f, h96, h96b⟩, hfl, hf⟩ := im9
  by_cases hin : ∃ i, i < 2 ∧ a = nI i
  · obtain ⟨i, hi, rfl⟩ := hin
    rcases hf i hi with ⟨q1, es⟩ | ⟨nz, s, es, -⟩
    · refine R_iload_n (pc := 0) dX11_back_0 rfl ?_
      refine R_iconst (pc := 1) (x := nI 0) dX11_back_1 rfl ?_
      refine R_iconst (pc := 2) (x := nI 1) dX11_back_2 rfl ?_
      refine R_callS (pc := 3) dX11_back_3 rfl (Or.inl rfl) rfl rfl ?_
      refine c_inG (a := 0) (b := 1) rfl rfl (by omega) (by omega) (fun j _ _ e9 => ?_) (fun e => absurd rfl (e i (by omega) (by omega)))
      · obtain rfl : i = j := (nI_eq (by omega) (by omega)).mp e9
        refine R_if_ne (pc := 6) (t := 12) dX11_back_6 (by decide) (fun _ => ?_) (fun hz9 => absurd hz9 (by decide))
        refine R_aload_n (pc := 12) dX11_back_12 rfl ?_
        refine R_getf (pc := 13) dX11_back_13 rfl (by repeat (first | assumption | exact up_s | refine up_n (by omega) ?_)) rfl ?_
        refine R_iload_n (pc := 16) dX11_back_16 rfl ?_
        refine R_aald (pc := 17) dX11_back_17 h96 (by decide) rfl (by omega) (by decide) (by rw [h96b _ (by omega), es]) ?_
        refine R_astore_nN (pc := 18) dX11_back_18 (Nat.le_of_ble_eq_true rfl) rfl ?_
        refine R_aload_nN (pc := 19) dX11_back_19 rfl ?_
        refine R_ifnnN (pc := 20) dX11_back_20 ?_
        refine R_ldc (pc := 23) (x := (-1000002)) dX11_back_23 rfl ?_
        refine R_iret (pc := 25) dX11_back_25 rfl ?_
        exact hT i hi rfl q1
    · refine R_iload_n (pc := 0) dX11_back_0 rfl ?_
      refine R_iconst (pc := 1) (x := nI 0) dX11_back_1 rfl ?_
      refine R_iconst (pc := 2) (x := nI 1) dX11_back_2 rfl ?_
      refine R_callS (pc := 3) dX11_back_3 rfl (Or.inl rfl) rfl rfl ?_
      refine c_inG (a := 0) (b := 1) rfl rfl (by omega) (by omega) (fun j _ _ e9 => ?_) (fun e => absurd rfl (e i (by omega) (by omega)))
      · obtain rfl : i = j := (nI_eq (by omega) (by omega)).mp e9
        refine R_if_ne (pc := 6) (t := 12) dX11_back_6 (by decide) (fun _ => ?_) (fun hz9 => absurd hz9 (by decide))
        refine R_aload_n (pc := 12) dX11_back_12 rfl ?_
        refine R_getf (pc := 13) dX11_back_13 rfl (by repeat (first | assumption | exact up_s | refine up_n (by omega) ?_)) rfl ?_
        refine R_iload_n (pc := 16) dX11_back_16 rfl ?_
        refine R_aald (pc := 17) dX11_back_17 h96 (by decide) rfl (by omega) (by decide) (by rw [h96b _ (by omega), es]) ?_
        refine R_astore_n (pc := 18) dX11_back_18 (Nat.le_of_ble_eq_true rfl) rfl ?_
        refine R_aload_n (pc := 19) dX11_back_19 rfl ?_
        refine R_ifnn (pc := 20) (t := 26) dX11_back_20 (by decide) ?_
        refine R_aload_n (pc := 26) dX11_back_26 rfl ?_
        refine R_getf (pc := 27) dX11_back_27 rfl (by repeat (first | assumption | exact up_s | refine up_n (by omega) ?_)) rfl ?_
        refine R_aload_n (pc := 30) dX11_back_30 rfl ?_
        refine R_getf (pc := 31) dX11_back_31 rfl (by repeat (first | assumption | exact up_s | refine up_n (by omega) ?_)) rfl ?_
        refine R_callV (pc := 34) dX11_back_34 rfl h94 rfl rfl ?_
        refine c2_record r st (fun h2 z2 r2 fr2 => ?_)
        have hx2 := r2.2.1
        have sa2 : StAt h2 (x + 1) P Wd n pe K R se co := sa.fr (fun y y1 y2 => fr2 y (by omega) (by omega) (by omega))
        have sc2 : ScrI h2 x := sc.fr (fun y y1 y2 => fr2 y (by omega) (by omega) (by omega))
        have sa21 := sa2.1
        have st2 : StS h2 (x + 1) := ⟨P, Wd, n, pe, K, R, se, co, sa2, sr.2.2.1.2.2.1⟩
        have im2 : ∃ s2 : Nat, s2 = s ∧ B ≤ s ∧ StW h2 s (fun j => IM (2754 * i + j)) := by
          obtain ⟨-, -, ⟨old2, F2, hs2, ⟨⟨f2, g96, g96b⟩, -, gf⟩, lz2⟩, -⟩ := r2
          have e96 : some (Sum.inl (2, 2, Sum.inr (Sum.inr (Sum.inr (Sum.inr f2))))) = some (Sum.inl (2, 2, Sum.inr (Sum.inr (Sum.inr (Sum.inr f))))) := g96.symm.trans ((fr2 (x + 96) (by omega) (by omega) (by omega)).trans h96)
          injection e96 with e96
          injection e96 with e96
          injection e96 with e96 e97
          injection e97 with e97 e98
          injection e98 with e98
          injection e98 with e98
          injection e98 with e98
          injection e98 with e98
          rcases gf i hi with q | ⟨q1, t, t1, t2⟩
          · exact absurd q.1 nz
          · have e99 : F2 (8 + i) = some s := by rw [← g96b i hi, e98, h96b i hi, es]
            rw [e99] at t1
            injection t1 with t1
            subst t1
            exact ⟨_, rfl, (lz2.1 (8 + i) (by omega) s e99).1, t2⟩
        obtain ⟨_, -, gsB, sti⟩ := im2
        have e8 : ∃ fs, h2 s = some (.inr (8, fs)) := by obtain ⟨_, _, _, _, _, _, _, _, q, _⟩ := sti; exact ⟨_, q.1⟩
        obtain ⟨fs8, e8⟩ := e8
        refine R_aload_n (pc := 37) dX11_back_37 rfl ?_
        refine R_getf (pc := 38) dX11_back_38 rfl (by repeat (first | assumption | exact up_s | refine up_n (by omega) ?_)) rfl ?_
        refine R_aload_n (pc := 41) dX11_back_41 rfl ?_
        refine R_callV (pc := 42) dX11_back_42 rfl sa21 rfl rfl ?_
        refine c8_copyFrom st2 sti (by omega) (fun h3 r1 r3 => ?_)
        have hx3 := (r3 x (by omega)).trans hx2
        have r19 := r1
        obtain ⟨P3, Wd3, n3, pe3, K3, R3, se3, co3, s31, s32⟩ := r19
        have s311 := s31.1
        have s3d := s31.2.2.1.1
        refine R_aload_n (pc := 45) dX11_back_45 rfl ?_
        refine R_getf (pc := 46) dX11_back_46 rfl (by repeat (first | assumption | exact up_s | refine up_n (by omega) ?_)) rfl ?_
        refine R_getf (pc := 49) dX11_back_49 rfl (by repeat (first | assumption | exact up_s | refine up_n (by omega) ?_)) rfl ?_
        refine R_callV (pc := 52) dX11_back_52 rfl s3d rfl rfl ?_
        refine c1_size s31.2.2.1 ?_
        refine R_iret (pc := 55) dX11_back_55 rfl ?_
        rw [← s32.2.2.1.1]
        exact hG i hi rfl nz h3 z2 (OutI.mk r2 sc2 fr2 (fun y hy => r3 y (by omega)) r1)
  · have hbad : ∀ i, i < 2 → ¬ a = nI i := fun i hi e => hin ⟨i, hi, e⟩
    refine R_iload_n (pc := 0) dX11_back_0 rfl ?_
    refine R_iconst (pc := 1) (x := nI 0) dX11_back_1 rfl ?_
    refine R_iconst (pc := 2) (x := nI 1) dX11_back_2 rfl ?_
    refine R_callS (pc := 3) dX11_back_3 rfl (Or.inl rfl) rfl rfl ?_
    refine c_inG (a := 0) (b := 1) rfl rfl (by omega) (by omega) (fun j _ hj e9 => absurd e9 (hbad j (by omega))) (fun e => ?_)
    · refine R_if_ne (pc := 6) (t := 12) dX11_back_6 (by decide) (fun hz9 => absurd hz9 (by decide)) (fun _ => ?_)
      refine R_ldc (pc := 9) (x := (-1000001)) dX11_back_9 rfl ?_
      refine R_iret (pc := 11) dX11_back_11 rfl ?_
      exact hB hbad
theorem c11_fault2 {x c t : Nat} {U g gs : Nat → Int32} {P Wd : Nat → Nat} {n : Nat} {pe : Nat → Nat} {K : Nat → CdX} {R : RpX} {se co : Nat → Int32} {C C0 : CdX} {T0 : Nat → Int32} (hx : h x = some (.inr (11, [.ref (x + 1), .ref (x + 94), .ref (x + 96), .ref (x + 97), .ref (x + 101), .ref (x + 106), .ref (x + 111), .ref (x + 155), .ref (x + 157)]))) (sa : StAt h (x + 1) P Wd n pe K R se co) (sL : LayW U P Wd) (sS : ∀ f, f < 4 → se f = U (12 + f)) (hst : h sA = some (.inl (9, 4, .inl gs))) (hsA : sA < x) (cd : CdAt h c C) (hc1 : x + 7 ≤ c) (hc2 : c + 2 ≤ x + 89) (ht : t < 24) (ht2 : C.2.2 = nI t) (rd : CdAt h (x + 155) C0) (sl : TtAt h (x + 157) T0) (hg : ∀ j, j < 24 → rdC C j = g j) (hQ : ∀ (h2 : Nat → Option am_C) (C2 : CdX) (T2 : Nat → Int32), CdAt h2 (x + 155) C2 → TtAt h2 (x + 157) T2 → ((rsnR P Wd C.2.1 (U 13) (U 14) g) = nI 0 → ∀ k, k < 8 → T2 k = slT (valF P Wd g) k) → (∀ a, (a < x + 155 ∨ x + 158 ≤ a) → h2 a = h a) → Q (some (.int (rsnR P Wd C.2.1 (U 13) (U 14) g))) (h2, z)) : Rn sA mX11_faultOfCard 0 [some (.ref x), some (.ref c)] [] (h, z) Q := by
  have hPW : ∀ f, f < 6 → P f + Wd f ≤ 24 := fun f hf => (sL f hf).2.2
  have sl1 := sl
  unfold TtAt at sl1
  refine R_aload_n (pc := 0) dX11_faultOfCard_0 rfl ?_
  refine R_getf (pc := 1) dX11_faultOfCard_1 rfl cd.1 rfl ?_
  refine R_iconst (pc := 4) (x := nI 1) dX11_faultOfCard_4 rfl ?_
  refine R_icmp_ne (pc := 5) (t := 10) dX11_faultOfCard_5 (by decide) (fun h5 => ?_) (fun h5 => ?_)
  · refine R_aload_n (pc := 10) dX11_faultOfCard_10 rfl ?_
    refine R_getf (pc := 11) dX11_faultOfCard_11 rfl (by repeat (first | assumption | exact up_s | refine up_n (by omega) ?_)) rfl ?_
    refine R_aload_n (pc := 14) dX11_faultOfCard_14 rfl ?_
    refine R_callV (pc := 15) dX11_faultOfCard_15 rfl rd.1 rfl rfl ?_
    refine c0_readFrom rd cd (by omega) ht ht2 (fun h2 C2 q1 q2 q3 => ?_)
    have hx2 := (q3 x (by omega) (by omega)).trans hx
    have sa2 : StAt h2 (x + 1) P Wd n pe K R se co := sa.fr (fun y y1 y2 => q3 y (by omega) (by omega))
    have sa21 := sa2.1
    have q11 := q1.1
    have ly2 := sa2.2.1
    have sl2 : TtAt h2 (x + 157) T0 := sl.fr (q3 _ (by omega) (by omega))
    have hst2 := (q3 sA (by omega) (by omega)).trans hst
    have hcg : ∀ j, j < 24 → C2.1 j = g j := fun j hj => (q2 j hj).trans (hg j hj)
    have ev : ∀ f, f < 6 → valF P Wd C2.1 f = valF P Wd g f := fun f hf => valF_congr sL hcg hf
    refine R_aload_n (pc := 18) dX11_faultOfCard_18 rfl ?_
    refine R_getf (pc := 19) dX11_faultOfCard_19 rfl (by repeat (first | assumption | exact up_s | refine up_n (by omega) ?_)) rfl ?_
    refine R_aload_n (pc := 22) dX11_faultOfCard_22 rfl ?_
    refine R_getf (pc := 23) dX11_faultOfCard_23 rfl (by repeat (first | assumption | exact up_s | refine up_n (by omega) ?_)) rfl ?_
    refine R_aload_n (pc := 26) dX11_faultOfCard_26 rfl ?_
    refine R_getf (pc := 27) dX11_faultOfCard_27 rfl (by repeat (first | assumption | exact up_s | refine up_n (by omega) ?_)) rfl ?_
    refine R_getf (pc := 30) dX11_faultOfCard_30 rfl (by repeat (first | assumption | exact up_s | refine up_n (by omega) ?_)) rfl ?_
    refine R_callV (pc := 33) dX11_faultOfCard_33 rfl sl2 rfl rfl ?_
    refine c10_fillFrom sl2 ly2 q1 hPW (by omega) (by omega) (fun w0 h3 T2 k1 k2 => ?_) (fun w0 h3 k1 k2 => ?_)
    · refine R_if_ne (pc := 36) (t := 41) dX11_faultOfCard_36 (by decide) (fun hz9 => absurd hz9 (by decide)) (fun _ => ?_)
      refine R_iconst (pc := 39) (x := nI 2) dX11_faultOfCard_39 rfl ?_
      refine R_iret (pc := 40) dX11_faultOfCard_40 rfl ?_
      first
        | (have e : (rsnR P Wd C.2.1 (U 13) (U 14) g) = nI 1 := by unfold rsnR; rw [if_pos h5]
           rw [← e]
           exact hQ h C0 T0 rd sl (fun q => absurd (e.symm.trans q) (by decide)) (fun _ _ => rfl))
        | (have w2 : noVal P Wd g := by
             unfold noVal at w0 ⊢
             rw [ev 0 (by omega), ev 1 (by omega), ev 2 (by omega), ev 3 (by omega), ev 4 (by omega)] at w0
             exact w0
           have e : (rsnR P Wd C.2.1 (U 13) (U 14) g) = nI 2 := by unfold rsnR; rw [if_neg h5, if_pos w2]
           rw [← e]
           exact hQ h3 C2 T2 (q1.fr (fun y y1 y2 => k2 y (by omega))) k1 (fun q => absurd (e.symm.trans q) (by decide)) (fun a ha => by rw [k2 a (by omega), q3 a (by omega) (by omega)]))
        | (have e : (rsnR P Wd C.2.1 (U 13) (U 14) g) = nI 3 := by unfold rsnR; rw [if_neg h5, if_neg w1, if_pos ⟨h50, fun q => h82 (by rw [ev 5 (by omega), dueR_congr sL hcg]; exact q)⟩]
           rw [← e]
           exact hQ h3 C2 _ rd3 k3 (fun q => absurd (e.symm.trans q) (by decide)) (fun a ha => by rw [k2 a (by omega), q3 a (by omega) (by omega)]))
        | (have cc : ¬ (U 13 = nI 1 ∧ ¬ valF P Wd g 5 = dueR P Wd g) := by
             first
               | exact fun q => h50 q.1
               | exact fun q => q.2 (by rw [← ev 5 (by omega), h82, dueR_congr sL hcg])
           have e : (rsnR P Wd C.2.1 (U 13) (U 14) g) = nI 4 := by unfold rsnR; rw [if_neg h5, if_neg w1, if_neg cc, if_pos (by rw [← ev 3 (by omega)]; exact Int32.not_le.mp h102)]
           rw [← e]
           exact hQ h3 C2 _ rd3 k3 (fun q => absurd (e.symm.trans q) (by decide)) (fun a ha => by rw [k2 a (by omega), q3 a (by omega) (by omega)]))
        | (have cc : ¬ (U 13 = nI 1 ∧ ¬ valF P Wd g 5 = dueR P Wd g) := by
             first
               | exact fun q => h50 q.1
               | exact fun q => q.2 (by rw [← ev 5 (by omega), h82, dueR_congr sL hcg])
           have e : (rsnR P Wd C.2.1 (U 13) (U 14) g) = nI 0 := by unfold rsnR; rw [if_neg h5, if_neg w1, if_neg cc, if_neg (by rw [← ev 3 (by omega)]; exact Int32.not_lt.mpr h102)]
           rw [← e]
           exact hQ h3 C2 _ rd3 k3 (fun _ => fun _ _ => rfl) (fun a ha => by rw [k2 a (by omega), q3 a (by omega) (by omega)]))
    · have hx3 := (k2 x (by omega)).trans hx2
      have sa3 : StAt h3 (x + 1) P Wd n pe K R se co := sa2.fr (fun y y1 y2 => k2 y (by omega))
      have sa31 := sa3.1
      have rd3 : CdAt h3 (x + 155) C2 := q1.fr (fun y y1 y2 => k2 y (by omega))
      have rd31 := rd3.1
      have ly3 := sa3.2.1
      have ly39 := ly3
      obtain ⟨v2, v3, ly31, -⟩ := ly39
      have hst3 := (k2 sA (by omega)).trans hst2
      have k11 := k1
      unfold TtAt at k11
      have w1 : ¬ noVal P Wd g := by
        intro q
        unfold noVal at q w0
        rw [ev 0 (by omega), ev 1 (by omega), ev 2 (by omega), ev 3 (by omega), ev 4 (by omega)] at w0
        exact w0 q
      have k3 : TtAt h3 (x + 157) (slT (valF P Wd g)) := k1.cg (fun k hk => by unfold slT; dsimp only; rw [ev 0 (by omega), ev 1 (by omega), ev 2 (by omega), ev 3 (by omega), ev 4 (by omega)])
      refine R_if_ne (pc := 36) (t := 41) dX11_faultOfCard_36 (by decide) (fun _ => ?_) (fun hz9 => absurd hz9 (by decide))
      refine R_aload_n (pc := 41) dX11_faultOfCard_41 rfl ?_
      refine R_getf (pc := 42) dX11_faultOfCard_42 rfl (by repeat (first | assumption | exact up_s | refine up_n (by omega) ?_)) rfl ?_
      refine R_iconst (pc := 45) (x := nI 1) dX11_faultOfCard_45 rfl ?_
      refine R_callV (pc := 46) dX11_faultOfCard_46 rfl sa31 rfl rfl ?_
      refine c8_settingOf sa3 hst3 (by omega) ?_
      rw [sS 1 (by omega)]
      refine R_iconst (pc := 49) (x := nI 1) dX11_faultOfCard_49 rfl ?_
      refine R_icmp_ne (pc := 50) (t := 87) dX11_faultOfCard_50 (by decide) (fun h50 => ?_) (fun h50 => ?_)
      · refine R_aload_n (pc := 87) dX11_faultOfCard_87 rfl ?_
        refine R_getf (pc := 88) dX11_faultOfCard_88 rfl (by repeat (first | assumption | exact up_s | refine up_n (by omega) ?_)) rfl ?_
        refine R_getf (pc := 91) dX11_faultOfCard_91 rfl k1 rfl ?_
        refine R_aload_n (pc := 94) dX11_faultOfCard_94 rfl ?_
        refine R_getf (pc := 95) dX11_faultOfCard_95 rfl (by repeat (first | assumption | exact up_s | refine up_n (by omega) ?_)) rfl ?_
        refine R_iconst (pc := 98) (x := nI 2) dX11_faultOfCard_98 rfl ?_
        refine R_callV (pc := 99) dX11_faultOfCard_99 rfl sa31 rfl rfl ?_
        refine c8_settingOf sa3 hst3 (by omega) ?_
        rw [sS 2 (by omega)]
        refine R_icmp_le (pc := 102) (t := 109) dX11_faultOfCard_102 (by decide) (fun h102 => ?_) (fun h102 => ?_)
        · refine R_iconst (pc := 109) (x := nI 0) dX11_faultOfCard_109 rfl ?_
          refine R_iret (pc := 110) dX11_faultOfCard_110 rfl ?_
          first
            | (have e : (rsnR P Wd C.2.1 (U 13) (U 14) g) = nI 1 := by unfold rsnR; rw [if_pos h5]
               rw [← e]
               exact hQ h C0 T0 rd sl (fun q => absurd (e.symm.trans q) (by decide)) (fun _ _ => rfl))
            | (have w2 : noVal P Wd g := by
                 unfold noVal at w0 ⊢
                 rw [ev 0 (by omega), ev 1 (by omega), ev 2 (by omega), ev 3 (by omega), ev 4 (by omega)] at w0
                 exact w0
               have e : (rsnR P Wd C.2.1 (U 13) (U 14) g) = nI 2 := by unfold rsnR; rw [if_neg h5, if_pos w2]
               rw [← e]
               exact hQ h3 C2 T2 (q1.fr (fun y y1 y2 => k2 y (by omega))) k1 (fun q => absurd (e.symm.trans q) (by decide)) (fun a ha => by rw [k2 a (by omega), q3 a (by omega) (by omega)]))
            | (have e : (rsnR P Wd C.2.1 (U 13) (U 14) g) = nI 3 := by unfold rsnR; rw [if_neg h5, if_neg w1, if_pos ⟨h50, fun q => h82 (by rw [ev 5 (by omega), dueR_congr sL hcg]; exact q)⟩]
               rw [← e]
               exact hQ h3 C2 _ rd3 k3 (fun q => absurd (e.symm.trans q) (by decide)) (fun a ha => by rw [k2 a (by omega), q3 a (by omega) (by omega)]))
            | (have cc : ¬ (U 13 = nI 1 ∧ ¬ valF P Wd g 5 = dueR P Wd g) := by
                 first
                   | exact fun q => h50 q.1
                   | exact fun q => q.2 (by rw [← ev 5 (by omega), h82, dueR_congr sL hcg])
               have e : (rsnR P Wd C.2.1 (U 13) (U 14) g) = nI 4 := by unfold rsnR; rw [if_neg h5, if_neg w1, if_neg cc, if_pos (by rw [← ev 3 (by omega)]; exact Int32.not_le.mp h102)]
               rw [← e]
               exact hQ h3 C2 _ rd3 k3 (fun q => absurd (e.symm.trans q) (by decide)) (fun a ha => by rw [k2 a (by omega), q3 a (by omega) (by omega)]))
            | (have cc : ¬ (U 13 = nI 1 ∧ ¬ valF P Wd g 5 = dueR P Wd g) := by
                 first
                   | exact fun q => h50 q.1
                   | exact fun q => q.2 (by rw [← ev 5 (by omega), h82, dueR_congr sL hcg])
               have e : (rsnR P Wd C.2.1 (U 13) (U 14) g) = nI 0 := by unfold rsnR; rw [if_neg h5, if_neg w1, if_neg cc, if_neg (by rw [← ev 3 (by omega)]; exact Int32.not_lt.mpr h102)]
               rw [← e]
               exact hQ h3 C2 _ rd3 k3 (fun _ => fun _ _ => rfl) (fun a ha => by rw [k2 a (by omega), q3 a (by omega) (by omega)]))
        · refine R_iconst (pc := 105) (x := nI 4) dX11_faultOfCard_105 rfl ?_
          refine R_goto (pc := 106) (t := 110) dX11_faultOfCard_106 (by decide) ?_
          refine R_iret (pc := 110) dX11_faultOfCard_110 rfl ?_
          first
            | (have e : (rsnR P Wd C.2.1 (U 13) (U 14) g) = nI 1 := by unfold rsnR; rw [if_pos h5]
               rw [← e]
               exact hQ h C0 T0 rd sl (fun q => absurd (e.symm.trans q) (by decide)) (fun _ _ => rfl))
            | (have w2 : noVal P Wd g := by
                 unfold noVal at w0 ⊢
                 rw [ev 0 (by omega), ev 1 (by omega), ev 2 (by omega), ev 3 (by omega), ev 4 (by omega)] at w0
                 exact w0
               have e : (rsnR P Wd C.2.1 (U 13) (U 14) g) = nI 2 := by unfold rsnR; rw [if_neg h5, if_pos w2]
               rw [← e]
               exact hQ h3 C2 T2 (q1.fr (fun y y1 y2 => k2 y (by omega))) k1 (fun q => absurd (e.symm.trans q) (by decide)) (fun a ha => by rw [k2 a (by omega), q3 a (by omega) (by omega)]))
            | (have e : (rsnR P Wd C.2.1 (U 13) (U 14) g) = nI 3 := by unfold rsnR; rw [if_neg h5, if_neg w1, if_pos ⟨h50, fun q => h82 (by rw [ev 5 (by omega), dueR_congr sL hcg]; exact q)⟩]
               rw [← e]
               exact hQ h3 C2 _ rd3 k3 (fun q => absurd (e.symm.trans q) (by decide)) (fun a ha => by rw [k2 a (by omega), q3 a (by omega) (by omega)]))
            | (have cc : ¬ (U 13 = nI 1 ∧ ¬ valF P Wd g 5 = dueR P Wd g) := by
                 first
                   | exact fun q => h50 q.1
                   | exact fun q => q.2 (by rw [← ev 5 (by omega), h82, dueR_congr sL hcg])
               have e : (rsnR P Wd C.2.1 (U 13) (U 14) g) = nI 4 := by unfold rsnR; rw [if_neg h5, if_neg w1, if_neg cc, if_pos (by rw [← ev 3 (by omega)]; exact Int32.not_le.mp h102)]
               rw [← e]
               exact hQ h3 C2 _ rd3 k3 (fun q => absurd (e.symm.trans q) (by decide)) (fun a ha => by rw [k2 a (by omega), q3 a (by omega) (by omega)]))
            | (have cc : ¬ (U 13 = nI 1 ∧ ¬ valF P Wd g 5 = dueR P Wd g) := by
                 first
                   | exact fun q => h50 q.1
                   | exact fun q => q.2 (by rw [← ev 5 (by omega), h82, dueR_congr sL hcg])
               have e : (rsnR P Wd C.2.1 (U 13) (U 14) g) = nI 0 := by unfold rsnR; rw [if_neg h5, if_neg w1, if_neg cc, if_neg (by rw [← ev 3 (by omega)]; exact Int32.not_lt.mpr h102)]
               rw [← e]
               exact hQ h3 C2 _ rd3 k3 (fun _ => fun _ _ => rfl) (fun a ha => by rw [k2 a (by omega), q3 a (by omega) (by omega)]))
      · refine R_aload_n (pc := 53) dX11_faultOfCard_53 rfl ?_
        refine R_getf (pc := 54) dX11_faultOfCard_54 rfl (by repeat (first | assumption | exact up_s | refine up_n (by omega) ?_)) rfl ?_
        refine R_getf (pc := 57) dX11_faultOfCard_57 rfl (by repeat (first | assumption | exact up_s | refine up_n (by omega) ?_)) rfl ?_
        refine R_aload_n (pc := 60) dX11_faultOfCard_60 rfl ?_
        refine R_getf (pc := 61) dX11_faultOfCard_61 rfl (by repeat (first | assumption | exact up_s | refine up_n (by omega) ?_)) rfl ?_
        refine R_iconst (pc := 64) (x := nI 5) dX11_faultOfCard_64 rfl ?_
        refine R_callV (pc := 65) dX11_faultOfCard_65 rfl ly31 rfl rfl ?_
        refine c3_valueOn ly3 rd3 (by omega) hPW ?_
        refine R_aload_n (pc := 68) dX11_faultOfCard_68 rfl ?_
        refine R_getf (pc := 69) dX11_faultOfCard_69 rfl (by repeat (first | assumption | exact up_s | refine up_n (by omega) ?_)) rfl ?_
        refine R_getf (pc := 72) dX11_faultOfCard_72 rfl (by repeat (first | assumption | exact up_s | refine up_n (by omega) ?_)) rfl ?_
        refine R_aload_n (pc := 75) dX11_faultOfCard_75 rfl ?_
        refine R_getf (pc := 76) dX11_faultOfCard_76 rfl (by repeat (first | assumption | exact up_s | refine up_n (by omega) ?_)) rfl ?_
        refine R_callV (pc := 79) dX11_faultOfCard_79 rfl ly31 rfl rfl ?_
        refine c3_dueOn ly3 rd3 hPW ?_
        refine R_icmp_eq (pc := 82) (t := 87) dX11_faultOfCard_82 (by decide) (fun h82 => ?_) (fun h82 => ?_)
        · refine R_aload_n (pc := 87) dX11_faultOfCard_87 rfl ?_
          refine R_getf (pc := 88) dX11_faultOfCard_88 rfl (by repeat (first | assumption | exact up_s | refine up_n (by omega) ?_)) rfl ?_
          refine R_getf (pc := 91) dX11_faultOfCard_91 rfl k1 rfl ?_
          refine R_aload_n (pc := 94) dX11_faultOfCard_94 rfl ?_
          refine R_getf (pc := 95) dX11_faultOfCard_95 rfl (by repeat (first | assumption | exact up_s | refine up_n (by omega) ?_)) rfl ?_
          refine R_iconst (pc := 98) (x := nI 2) dX11_faultOfCard_98 rfl ?_
          refine R_callV (pc := 99) dX11_faultOfCard_99 rfl sa31 rfl rfl ?_
          refine c8_settingOf sa3 hst3 (by omega) ?_
          rw [sS 2 (by omega)]
          refine R_icmp_le (pc := 102) (t := 109) dX11_faultOfCard_102 (by decide) (fun h102 => ?_) (fun h102 => ?_)
          · refine R_iconst (pc := 109) (x := nI 0) dX11_faultOfCard_109 rfl ?_
            refine R_iret (pc := 110) dX11_faultOfCard_110 rfl ?_
            first
              | (have e : (rsnR P Wd C.2.1 (U 13) (U 14) g) = nI 1 := by unfold rsnR; rw [if_pos h5]
                 rw [← e]
                 exact hQ h C0 T0 rd sl (fun q => absurd (e.symm.trans q) (by decide)) (fun _ _ => rfl))
              | (have w2 : noVal P Wd g := by
                   unfold noVal at w0 ⊢
                   rw [ev 0 (by omega), ev 1 (by omega), ev 2 (by omega), ev 3 (by omega), ev 4 (by omega)] at w0
                   exact w0
                 have e : (rsnR P Wd C.2.1 (U 13) (U 14) g) = nI 2 := by unfold rsnR; rw [if_neg h5, if_pos w2]
                 rw [← e]
                 exact hQ h3 C2 T2 (q1.fr (fun y y1 y2 => k2 y (by omega))) k1 (fun q => absurd (e.symm.trans q) (by decide)) (fun a ha => by rw [k2 a (by omega), q3 a (by omega) (by omega)]))
              | (have e : (rsnR P Wd C.2.1 (U 13) (U 14) g) = nI 3 := by unfold rsnR; rw [if_neg h5, if_neg w1, if_pos ⟨h50, fun q => h82 (by rw [ev 5 (by omega), dueR_congr sL hcg]; exact q)⟩]
                 rw [← e]
                 exact hQ h3 C2 _ rd3 k3 (fun q => absurd (e.symm.trans q) (by decide)) (fun a ha => by rw [k2 a (by omega), q3 a (by omega) (by omega)]))
              | (have cc : ¬ (U 13 = nI 1 ∧ ¬ valF P Wd g 5 = dueR P Wd g) := by
                   first
                     | exact fun q => h50 q.1
                     | exact fun q => q.2 (by rw [← ev 5 (by omega), h82, dueR_congr sL hcg])
                 have e : (rsnR P Wd C.2.1 (U 13) (U 14) g) = nI 4 := by unfold rsnR; rw [if_neg h5, if_neg w1, if_neg cc, if_pos (by rw [← ev 3 (by omega)]; exact Int32.not_le.mp h102)]
                 rw [← e]
                 exact hQ h3 C2 _ rd3 k3 (fun q => absurd (e.symm.trans q) (by decide)) (fun a ha => by rw [k2 a (by omega), q3 a (by omega) (by omega)]))
              | (have cc : ¬ (U 13 = nI 1 ∧ ¬ valF P Wd g 5 = dueR P Wd g) := by
                   first
                     | exact fun q => h50 q.1
                     | exact fun q => q.2 (by rw [← ev 5 (by omega), h82, dueR_congr sL hcg])
                 have e : (rsnR P Wd C.2.1 (U 13) (U 14) g) = nI 0 := by unfold rsnR; rw [if_neg h5, if_neg w1, if_neg cc, if_neg (by rw [← ev 3 (by omega)]; exact Int32.not_lt.mpr h102)]
                 rw [← e]
                 exact hQ h3 C2 _ rd3 k3 (fun _ => fun _ _ => rfl) (fun a ha => by rw [k2 a (by omega), q3 a (by omega) (by omega)]))
          · refine R_iconst (pc := 105) (x := nI 4) dX11_faultOfCard_105 rfl ?_
            refine R_goto (pc := 106) (t := 110) dX11_faultOfCard_106 (by decide) ?_
            refine R_iret (pc := 110) dX11_faultOfCard_110 rfl ?_
            first
              | (have e : (rsnR P Wd C.2.1 (U 13) (U 14) g) = nI 1 := by unfold rsnR; rw [if_pos h5]
                 rw [← e]
                 exact hQ h C0 T0 rd sl (fun q => absurd (e.symm.trans q) (by decide)) (fun _ _ => rfl))
              | (have w2 : noVal P Wd g := by
                   unfold noVal at w0 ⊢
                   rw [ev 0 (by omega), ev 1 (by omega), ev 2 (by omega), ev 3 (by omega), ev 4 (by omega)] at w0
                   exact w0
                 have e : (rsnR P Wd C.2.1 (U 13) (U 14) g) = nI 2 := by unfold rsnR; rw [if_neg h5, if_pos w2]
                 rw [← e]
                 exact hQ h3 C2 T2 (q1.fr (fun y y1 y2 => k2 y (by omega))) k1 (fun q => absurd (e.symm.trans q) (by decide)) (fun a ha => by rw [k2 a (by omega), q3 a (by omega) (by omega)]))
              | (have e : (rsnR P Wd C.2.1 (U 13) (U 14) g) = nI 3 := by unfold rsnR; rw [if_neg h5, if_neg w1, if_pos ⟨h50, fun q => h82 (by rw [ev 5 (by omega), dueR_congr sL hcg]; exact q)⟩]
                 rw [← e]
                 exact hQ h3 C2 _ rd3 k3 (fun q => absurd (e.symm.trans q) (by decide)) (fun a ha => by rw [k2 a (by omega), q3 a (by omega) (by omega)]))
              | (have cc : ¬ (U 13 = nI 1 ∧ ¬ valF P Wd g 5 = dueR P Wd g) := by
                   first
                     | exact fun q => h50 q.1
                     | exact fun q => q.2 (by rw [← ev 5 (by omega), h82, dueR_congr sL hcg])
                 have e : (rsnR P Wd C.2.1 (U 13) (U 14) g) = nI 4 := by unfold rsnR; rw [if_neg h5, if_neg w1, if_neg cc, if_pos (by rw [← ev 3 (by omega)]; exact Int32.not_le.mp h102)]
                 rw [← e]
                 exact hQ h3 C2 _ rd3 k3 (fun q => absurd (e.symm.trans q) (by decide)) (fun a ha => by rw [k2 a (by omega), q3 a (by omega) (by omega)]))
              | (have cc : ¬ (U 13 = nI 1 ∧ ¬ valF P Wd g 5 = dueR P Wd g) := by
                   first
                     | exact fun q => h50 q.1
                     | exact fun q => q.2 (by rw [← ev 5 (by omega), h82, dueR_congr sL hcg])
                 have e : (rsnR P Wd C.2.1 (U 13) (U 14) g) = nI 0 := by unfold rsnR; rw [if_neg h5, if_neg w1, if_neg cc, if_neg (by rw [← ev 3 (by omega)]; exact Int32.not_lt.mpr h102)]
                 rw [← e]
                 exact hQ h3 C2 _ rd3 k3 (fun _ => fun _ _ => rfl) (fun a ha => by rw [k2 a (by omega), q3 a (by omega) (by omega)]))
        · refine R_iconst (pc := 85) (x := nI 3) dX11_faultOfCard_85 rfl ?_
          refine R_iret (pc := 86) dX11_faultOfCard_86 rfl ?_
          first
            | (have e : (rsnR P Wd C.2.1 (U 13) (U 14) g) = nI 1 := by unfold rsnR; rw [if_pos h5]
               rw [← e]
               exact hQ h C0 T0 rd sl (fun q => absurd (e.symm.trans q) (by decide)) (fun _ _ => rfl))
            | (have w2 : noVal P Wd g := by
                 unfold noVal at w0 ⊢
                 rw [ev 0 (by omega), ev 1 (by omega), ev 2 (by omega), ev 3 (by omega), ev 4 (by omega)] at w0
                 exact w0
               have e : (rsnR P Wd C.2.1 (U 13) (U 14) g) = nI 2 := by unfold rsnR; rw [if_neg h5, if_pos w2]
               rw [← e]
               exact hQ h3 C2 T2 (q1.fr (fun y y1 y2 => k2 y (by omega))) k1 (fun q => absurd (e.symm.trans q) (by decide)) (fun a ha => by rw [k2 a (by omega), q3 a (by omega) (by omega)]))
            | (have e : (rsnR P Wd C.2.1 (U 13) (U 14) g) = nI 3 := by unfold rsnR; rw [if_neg h5, if_neg w1, if_pos ⟨h50, fun q => h82 (by rw [ev 5 (by omega), dueR_congr sL hcg]; exact q)⟩]
               rw [← e]
               exact hQ h3 C2 _ rd3 k3 (fun q => absurd (e.symm.trans q) (by decide)) (fun a ha => by rw [k2 a (by omega), q3 a (by omega) (by omega)]))
            | (have cc : ¬ (U 13 = nI 1 ∧ ¬ valF P Wd g 5 = dueR P Wd g) := by
                 first
                   | exact fun q => h50 q.1
                   | exact fun q => q.2 (by rw [← ev 5 (by omega), h82, dueR_congr sL hcg])
               have e : (rsnR P Wd C.2.1 (U 13) (U 14) g) = nI 4 := by unfold rsnR; rw [if_neg h5, if_neg w1, if_neg cc, if_pos (by rw [← ev 3 (by omega)]; exact Int32.not_le.mp h102)]
               rw [← e]
               exact hQ h3 C2 _ rd3 k3 (fun q => absurd (e.symm.trans q) (by decide)) (fun a ha => by rw [k2 a (by omega), q3 a (by omega) (by omega)]))
            | (have cc : ¬ (U 13 = nI 1 ∧ ¬ valF P Wd g 5 = dueR P Wd g) := by
                 first
                   | exact fun q => h50 q.1
                   | exact fun q => q.2 (by rw [← ev 5 (by omega), h82, dueR_congr sL hcg])
               have e : (rsnR P Wd C.2.1 (U 13) (U 14) g) = nI 0 := by unfold rsnR; rw [if_neg h5, if_neg w1, if_neg cc, if_neg (by rw [← ev 3 (by omega)]; exact Int32.not_lt.mpr h102)]
               rw [← e]
               exact hQ h3 C2 _ rd3 k3 (fun _ => fun _ _ => rfl) (fun a ha => by rw [k2 a (by omega), q3 a (by omega) (by omega)]))
  · refine R_iconst (pc := 8) (x := nI 1) dX11_faultOfCard_8 rfl ?_
    refine R_iret (pc := 9) dX11_faultOfCard_9 rfl ?_
    first
      | (have e : (rsnR P Wd C.2.1 (U 13) (U 14) g) = nI 1 := by unfold rsnR; rw [if_pos h5]
         rw [← e]
         exact hQ h C0 T0 rd sl (fun q => absurd (e.symm.trans q) (by decide)) (fun _ _ => rfl))
      | (have w2 : noVal P Wd g := by
           unfold noVal at w0 ⊢
           rw [ev 0 (by omega), ev 1 (by omega), ev 2 (by omega), ev 3 (by omega), ev 4 (by omega)] at w0
           exact w0
         have e : (rsnR P Wd C.2.1 (U 13) (U 14) g) = nI 2 := by unfold rsnR; rw [if_neg h5, if_pos w2]
         rw [← e]
         exact hQ h3 C2 T2 (q1.fr (fun y y1 y2 => k2 y (by omega))) k1 (fun q => absurd (e.symm.trans q) (by decide)) (fun a ha => by rw [k2 a (by omega), q3 a (by omega) (by omega)]))
      | (have e : (rsnR P Wd C.2.1 (U 13) (U 14) g) = nI 3 := by unfold rsnR; rw [if_neg h5, if_neg w1, if_pos ⟨h50, fun q => h82 (by rw [ev 5 (by omega), dueR_congr sL hcg]; exact q)⟩]
         rw [← e]
         exact hQ h3 C2 _ rd3 k3 (fun q => absurd (e.symm.trans q) (by decide)) (fun a ha => by rw [k2 a (by omega), q3 a (by omega) (by omega)]))
      | (have cc : ¬ (U 13 = nI 1 ∧ ¬ valF P Wd g 5 = dueR P Wd g) := by
           first
             | exact fun q => h50 q.1
             | exact fun q => q.2 (by rw [← ev 5 (by omega), h82, dueR_congr sL hcg])
         have e : (rsnR P Wd C.2.1 (U 13) (U 14) g) = nI 4 := by unfold rsnR; rw [if_neg h5, if_neg w1, if_neg cc, if_pos (by rw [← ev 3 (by omega)]; exact Int32.not_le.mp h102)]
         rw [← e]
         exact hQ h3 C2 _ rd3 k3 (fun q => absurd (e.symm.trans q) (by decide)) (fun a ha => by rw [k2 a (by omega), q3 a (by omega) (by omega)]))
      | (have cc : ¬ (U 13 = nI 1 ∧ ¬ valF P Wd g 5 = dueR P Wd g) := by
           first
             | exact fun q => h50 q.1
             | exact fun q => q.2 (by rw [← ev 5 (by omega), h82, dueR_congr sL hcg])
         have e : (rsnR P Wd C.2.1 (U 13) (U 14) g) = nI 0 := by unfold rsnR; rw [if_neg h5, if_neg w1, if_neg cc, if_neg (by rw [← ev 3 (by omega)]; exact Int32.not_lt.mpr h102)]
         rw [← e]
         exact hQ h3 C2 _ rd3 k3 (fun _ => fun _ _ => rfl) (fun a ha => by rw [k2 a (by omega), q3 a (by omega) (by omega)]))
theorem c11_refusal {x c t : Nat} {U g gs : Nat → Int32} {P Wd : Nat → Nat} {n : Nat} {pe : Nat → Nat} {K : Nat → CdX} {R : RpX} {se co : Nat → Int32} {C C0 : CdX} {T0 : Nat → Int32} {ru ow : Int32} {lt ky : Int64} (hx : h x = some (.inr (11, [.ref (x + 1), .ref (x + 94), .ref (x + 96), .ref (x + 97), .ref (x + 101), .ref (x + 106), .ref (x + 111), .ref (x + 155), .ref (x + 157)]))) (sa : StAt h (x + 1) P Wd n pe K R se co) (sL : LayW U P Wd) (sS : ∀ f, f < 4 → se f = U (12 + f)) (hst : h sA = some (.inl (9, 4, .inl gs))) (hsA : sA < x) (cd : CdAt h c C) (hc1 : x + 7 ≤ c) (hc2 : c + 2 ≤ x + 89) (ht : t < 24) (ht2 : C.2.2 = nI t) (rd : CdAt h (x + 155) C0) (sl : TtAt h (x + 157) T0) (hg : ∀ j, j < 24 → rdC C j = g j) (how : (rsnR P Wd C.2.1 (U 13) (U 14) g) = ow) (hky : (keyM (valF P Wd g 0) (valF P Wd g 1) (valF P Wd g 2)) = ky) (hA : (ow = nI 0 ∧ ¬ ru = 0 ∧ ky < lt) → ∀ (h2 : Nat → Option am_C) (C2 : CdX) (T2 : Nat → Int32), CdAt h2 (x + 155) C2 → TtAt h2 (x + 157) T2 → (ow = nI 0 → ∀ k, k < 8 → T2 k = slT (valF P Wd g) k) → (∀ a, (a < x + 155 ∨ x + 158 ≤ a) → h2 a = h a) → Q (some (.int (nI 5))) (h2, z)) (hB : ¬ (ow = nI 0 ∧ ¬ ru = 0 ∧ ky < lt) → ∀ (h2 : Nat → Option am_C) (C2 : CdX) (T2 : Nat → Int32), CdAt h2 (x + 155) C2 → TtAt h2 (x + 157) T2 → (ow = nI 0 → ∀ k, k < 8 → T2 k = slT (valF P Wd g) k) → (∀ a, (a < x + 155 ∨ x + 158 ≤ a) → h2 a = h a) → Q (some (.int ow)) (h2, z)) : Rn sA mX11_refusal 0 [some (.ref x), some (.ref c), some (.int ru), some (.long lt), none, none] [] (h, z) Q := by
  refine R_aload_n (pc := 0) dX11_refusal_0 rfl ?_
  refine R_aload_n (pc := 1) dX11_refusal_1 rfl ?_
  refine R_callV (pc := 2) dX11_refusal_2 rfl hx rfl rfl ?_
  refine c11_fault2 hx sa sL sS hst hsA cd hc1 hc2 ht ht2 rd sl hg (fun h2 C2 T2 q1 q2 q3 q4 => ?_)
  have hx2 := (q4 x (by omega)).trans hx
  rw [how] at q3 ⊢
  refine R_istore (pc := 5) dX11_refusal_5 (Nat.le_of_ble_eq_true rfl) rfl ?_
  refine R_iload (pc := 7) dX11_refusal_7 rfl ?_
  refine R_if_ne (pc := 9) (t := 30) dX11_refusal_9 (by decide) (fun h9 => ?_) (fun h9 => ?_)
  · refine R_iload (pc := 30) dX11_refusal_30 rfl ?_
    refine R_iret (pc := 32) dX11_refusal_32 rfl ?_
    first
      | exact hB (fun q => h9 q.1) h2 C2 T2 q1 q2 q3 q4
      | exact hB (fun q => q.2.1 h13) h2 C2 T2 q1 q2 q3 q4
      | exact hB (fun q => cmp_ge.mp h25 q.2.2) h2 C2 T2 q1 q2 q3 q4
      | exact hA ⟨h9, h13, Decidable.byContradiction (fun q => h25 (cmp_ge.mpr q))⟩ h2 C2 T2 q1 q2 q3 q4
  · refine R_iload_n (pc := 12) dX11_refusal_12 rfl ?_
    refine R_if_eq (pc := 13) (t := 30) dX11_refusal_13 (by decide) (fun h13 => ?_) (fun h13 => ?_)
    · refine R_iload (pc := 30) dX11_refusal_30 rfl ?_
      refine R_iret (pc := 32) dX11_refusal_32 rfl ?_
      first
        | exact hB (fun q => h9 q.1) h2 C2 T2 q1 q2 q3 q4
        | exact hB (fun q => q.2.1 h13) h2 C2 T2 q1 q2 q3 q4
        | exact hB (fun q => cmp_ge.mp h25 q.2.2) h2 C2 T2 q1 q2 q3 q4
        | exact hA ⟨h9, h13, Decidable.byContradiction (fun q => h25 (cmp_ge.mpr q))⟩ h2 C2 T2 q1 q2 q3 q4
    · refine R_aload_n (pc := 16) dX11_refusal_16 rfl ?_
      refine R_getf (pc := 17) dX11_refusal_17 rfl (by repeat (first | assumption | exact up_s | refine up_n (by omega) ?_)) rfl ?_
      refine R_callV (pc := 20) dX11_refusal_20 rfl q2 rfl rfl ?_
      have qs := q3 h9
      refine c10_key q2 ?_
      rw [qs 0 (by omega), qs 1 (by omega), qs 2 (by omega)]
      rw [show slT (valF P Wd g) 0 = valF P Wd g 0 from rfl, show slT (valF P Wd g) 1 = valF P Wd g 1 from rfl, show slT (valF P Wd g) 2 = valF P Wd g 2 from rfl, hky]
      refine R_lload_n (pc := 23) dX11_refusal_23 rfl ?_
      refine R_lcmp (pc := 24) dX11_refusal_24 ?_
      refine R_if_ge (pc := 25) (t := 30) dX11_refusal_25 (by decide) (fun h25 => ?_) (fun h25 => ?_)
      · refine R_iload (pc := 30) dX11_refusal_30 rfl ?_
        refine R_iret (pc := 32) dX11_refusal_32 rfl ?_
        first
          | exact hB (fun q => h9 q.1) h2 C2 T2 q1 q2 q3 q4
          | exact hB (fun q => q.2.1 h13) h2 C2 T2 q1 q2 q3 q4
          | exact hB (fun q => cmp_ge.mp h25 q.2.2) h2 C2 T2 q1 q2 q3 q4
          | exact hA ⟨h9, h13, Decidable.byContradiction (fun q => h25 (cmp_ge.mpr q))⟩ h2 C2 T2 q1 q2 q3 q4
      · refine R_iconst (pc := 28) (x := nI 5) dX11_refusal_28 rfl ?_
        refine R_iret (pc := 29) dX11_refusal_29 rfl ?_
        first
          | exact hB (fun q => h9 q.1) h2 C2 T2 q1 q2 q3 q4
          | exact hB (fun q => q.2.1 h13) h2 C2 T2 q1 q2 q3 q4
          | exact hB (fun q => cmp_ge.mp h25 q.2.2) h2 C2 T2 q1 q2 q3 q4
          | exact hA ⟨h9, h13, Decidable.byContradiction (fun q => h25 (cmp_ge.mpr q))⟩ h2 C2 T2 q1 q2 q3 q4
end CE8
