section CE9
variable {sA : Nat} {h : Nat → Option am_C} {z : Nat × Nat} {Q : Option Value → am_H → Prop}
theorem rdC_F {U : Nat → Int32} {C : CdX} {i : Nat} (h1 : ∀ k, k < 24 → C.1 k = U (20 + 26 * i + k)) (h2 : C.2.1 = U (20 + 26 * i + 24)) (h3 : C.2.2 = U (20 + 26 * i + 25)) : ∀ j, j < 24 → rdC C j = rdF U i j := by
  intro j hj
  unfold rdC rdF
  rw [h2, h3, h1 j hj]
  by_cases e : j + 1 < 24
  · rw [if_pos e, if_pos e, h1 (j + 1) e]
  · rw [if_neg e, if_neg e]
theorem rsn_n5 {P Wd : Nat → Nat} {mk ck mh : Int32} {g : Nat → Int32} : ¬ rsnR P Wd mk ck mh g = nI 5 := by
  unfold rsnR
  (repeat' split) <;> decide
theorem c11_step {x : Nat} {U gs : Nat → Int32} {P Wd : Nat → Nat} {n : Nat} {pe : Nat → Nat} {K : Nat → CdX} {R : RpX} {se co : Nat → Int32} {ru pv : Int32} {i : Nat} {o8 : Option Value} {C0 : CdX} {T0 : Nat → Int32} (hx : h x = some (.inr (11, [.ref (x + 1), .ref (x + 94), .ref (x + 96), .ref (x + 97), .ref (x + 101), .ref (x + 106), .ref (x + 111), .ref (x + 155), .ref (x + 157)]))) (sa : StAt h (x + 1) P Wd n pe K R se co) (sL : LayW U P Wd) (sS : ∀ f, f < 4 → se f = U (12 + f)) (dR : DkR U n pe K) (hT : ∀ c, c < n → ∃ t, t < 24 ∧ U (20 + 26 * c + 25) = nI t) (hst : h sA = some (.inl (9, 4, .inl gs))) (hsA : sA < x) (rd : CdAt h (x + 155) C0) (sl : TtAt h (x + 157) T0) (hi : i < n) (hX : ∀ (h2 : Nat → Option am_C) (C2 : CdX) (T2 : Nat → Int32), CdAt h2 (x + 155) C2 → TtAt h2 (x + 157) T2 → (fdR P Wd U ru i = nI 0 → ∀ k, k < 8 → T2 k = slT (accF P Wd U i) k) → (∀ a, (a < x + 155 ∨ x + 158 ≤ a) → h2 a = h a) → Rn sA mX11_feedDeck 94 [some (.ref x), some (.int ru), some (.int pv), some (.int (nI (accN P Wd U ru (i + 1)))), some (.long (fdS P Wd U ru (i + 1)).1), none, some (.int (bI (fdS P Wd U ru (i + 1)).2)), some (.int (nI i)), some (.int (fdR P Wd U ru i))] [] (h2, z) Q) : Rn sA mX11_feedDeck 13 [some (.ref x), some (.int ru), some (.int pv), some (.int (nI (accN P Wd U ru i))), some (.long (fdS P Wd U ru i).1), none, some (.int (bI (fdS P Wd U ru i).2)), some (.int (nI i)), o8] [] (h, z) Q := by
  have hn := dR.2.1
  have sa1 := sa.1
  have dk1 := sa.2.2.1.1
  have eN : fdS P Wd U ru (i + 1) = nxtS (ownF P Wd U i) (keyF P Wd U i) ru (fdS P Wd U ru i) := rfl
  have eF : fdR P Wd U ru i = tellR (ownF P Wd U i) (keyF P Wd U i) ru (fdS P Wd U ru i) := rfl
  have eA := accN_s P Wd U ru i
  by_cases hs : (fdS P Wd U ru i).2 = true
  · have e1 : fdR P Wd U ru i = nI 6 := by rw [eF]; unfold tellR; rw [if_pos hs]
    have e2 : fdS P Wd U ru (i + 1) = ((fdS P Wd U ru i).1, true) := by
      rw [eN]
      unfold nxtS
      rw [if_pos hs, ← eF, e1, if_neg (by decide)]
    rw [e1, if_neg (by decide)] at eA
    rw [eA, e2, e1] at hX
    rw [hs]
    refine R_iload (pc := 13) dX11_feedDeck_13 rfl ?_
    refine R_aload_n (pc := 15) dX11_feedDeck_15 rfl ?_
    refine R_getf (pc := 16) dX11_feedDeck_16 rfl (by repeat (first | assumption | exact up_s | refine up_n (by omega) ?_)) rfl ?_
    refine R_getf (pc := 19) dX11_feedDeck_19 rfl (by repeat (first | assumption | exact up_s | refine up_n (by omega) ?_)) rfl ?_
    refine R_callV (pc := 22) dX11_feedDeck_22 rfl dk1 rfl rfl ?_
    refine c1_size sa.2.2.1 ?_
    refine R_icmp_ge (pc := 25) (t := 112) dX11_feedDeck_25 (by decide) (fun hz9 => absurd hz9 (nI_ge (by omega) (by omega))) (fun _ => ?_)
    refine R_iload (pc := 28) dX11_feedDeck_28 rfl ?_
    refine R_if_eq (pc := 30) (t := 38) dX11_feedDeck_30 (by decide) (fun hz9 => absurd hz9 (by decide)) (fun _ => ?_)
    refine R_bipush (pc := 33) (x := nI 6) dX11_feedDeck_33 (by decide) ?_
    refine R_goto (pc := 35) (t := 57) dX11_feedDeck_35 (by decide) ?_
    refine R_istore (pc := 57) dX11_feedDeck_57 (Nat.le_of_ble_eq_true rfl) rfl ?_
    refine R_iload (pc := 59) dX11_feedDeck_59 rfl ?_
    refine R_iconst (pc := 61) (x := nI 5) dX11_feedDeck_61 rfl ?_
    refine R_icmp_ne (pc := 62) (t := 77) dX11_feedDeck_62 (by decide) (fun _ => ?_) (fun hz9 => absurd hz9 (by decide))
    refine R_iload (pc := 77) dX11_feedDeck_77 rfl ?_
    refine R_if_ne (pc := 79) (t := 94) dX11_feedDeck_79 (by decide) (fun _ => ?_) (fun hz9 => absurd hz9 (by decide))
    exact hX h C0 T0 rd sl (fun q => absurd q (by decide)) (fun _ _ => rfl)
  · have hs2 : (fdS P Wd U ru i).2 = false := by cases hq : (fdS P Wd U ru i).2 with | false => rfl | true => exact absurd hq hs
    rw [hs2]
    have hpi := sa.2.2.1.2.2.2 i (by omega)
    obtain ⟨d1, d2, d3⟩ := dR.2.2.2 i hi
    obtain ⟨t, ht, ht2⟩ := hT i hi
    refine R_iload (pc := 13) dX11_feedDeck_13 rfl ?_
    refine R_aload_n (pc := 15) dX11_feedDeck_15 rfl ?_
    refine R_getf (pc := 16) dX11_feedDeck_16 rfl (by repeat (first | assumption | exact up_s | refine up_n (by omega) ?_)) rfl ?_
    refine R_getf (pc := 19) dX11_feedDeck_19 rfl (by repeat (first | assumption | exact up_s | refine up_n (by omega) ?_)) rfl ?_
    refine R_callV (pc := 22) dX11_feedDeck_22 rfl dk1 rfl rfl ?_
    refine c1_size sa.2.2.1 ?_
    refine R_icmp_ge (pc := 25) (t := 112) dX11_feedDeck_25 (by decide) (fun hz9 => absurd hz9 (nI_ge (by omega) (by omega))) (fun _ => ?_)
    refine R_iload (pc := 28) dX11_feedDeck_28 rfl ?_
    refine R_if_eq (pc := 30) (t := 38) dX11_feedDeck_30 (by decide) (fun _ => ?_) (fun hz9 => absurd rfl hz9)
    refine R_aload_n (pc := 38) dX11_feedDeck_38 rfl ?_
    refine R_aload_n (pc := 39) dX11_feedDeck_39 rfl ?_
    refine R_getf (pc := 40) dX11_feedDeck_40 rfl (by repeat (first | assumption | exact up_s | refine up_n (by omega) ?_)) rfl ?_
    refine R_getf (pc := 43) dX11_feedDeck_43 rfl (by repeat (first | assumption | exact up_s | refine up_n (by omega) ?_)) rfl ?_
    refine R_iload (pc := 46) dX11_feedDeck_46 rfl ?_
    refine R_callV (pc := 48) dX11_feedDeck_48 rfl dk1 rfl rfl ?_
    refine c1_at sa.2.2.1 (by omega) ?_
    refine R_iload_n (pc := 51) dX11_feedDeck_51 rfl ?_
    refine R_lload (pc := 52) dX11_feedDeck_52 rfl ?_
    refine R_callV (pc := 54) dX11_feedDeck_54 rfl hx rfl rfl ?_
    refine c11_refusal (g := rdF U i) (ow := ownF P Wd U i) (ky := keyF P Wd U i) hx sa sL sS hst hsA (sa.2.2.1.2.2.1 (pe i) hpi) (by omega) (by omega) ht (d3.trans ht2) rd sl (rdC_F d1 d2 d3) (by unfold ownF; rw [d2]) rfl (fun hc h2 C2 T2 q1 q2 q3 q4 => ?_) (fun hc h2 C2 T2 q1 q2 q3 q4 => ?_)
    · have hx2 := (q4 x (by omega)).trans hx
      refine R_istore (pc := 57) dX11_feedDeck_57 (Nat.le_of_ble_eq_true rfl) rfl ?_
      refine R_iload (pc := 59) dX11_feedDeck_59 rfl ?_
      refine R_iconst (pc := 61) (x := nI 5) dX11_feedDeck_61 rfl ?_
      refine R_icmp_ne (pc := 62) (t := 77) dX11_feedDeck_62 (by decide) (fun hz9 => absurd rfl hz9) (fun _ => ?_)
      refine R_iload_n (pc := 65) dX11_feedDeck_65 rfl ?_
      refine R_iconst (pc := 66) (x := nI 2) dX11_feedDeck_66 rfl ?_
      refine R_icmp_ne (pc := 67) (t := 77) dX11_feedDeck_67 (by decide) (fun h67 => ?_) (fun h67 => ?_)
      · refine R_iload (pc := 77) dX11_feedDeck_77 rfl ?_
        refine R_if_ne (pc := 79) (t := 94) dX11_feedDeck_79 (by decide) (fun _ => ?_) (fun hz9 => absurd hz9 (by decide))
        have e1 : fdR P Wd U ru i = nI 5 := by rw [eF]; unfold tellR; rw [if_neg hs, if_pos hc, if_neg h67]
        have e2 : fdS P Wd U ru (i + 1) = ((fdS P Wd U ru i).1, false) := by
          rw [eN]
          unfold nxtS
          rw [if_neg hs, ← eF, e1, if_neg (by decide), if_pos hc, decide_eq_false h67]
        rw [e1, if_neg (by decide)] at eA
        rw [eA, e2, e1] at hX
        exact hX h2 C2 T2 q1 q2 (fun q => absurd q (by decide)) q4
      · refine R_iconst (pc := 70) (x := nI 1) dX11_feedDeck_70 rfl ?_
        refine R_istore (pc := 71) dX11_feedDeck_71 (Nat.le_of_ble_eq_true rfl) rfl ?_
        refine R_bipush (pc := 73) (x := nI 6) dX11_feedDeck_73 (by decide) ?_
        refine R_istore (pc := 75) dX11_feedDeck_75 (Nat.le_of_ble_eq_true rfl) rfl ?_
        refine R_iload (pc := 77) dX11_feedDeck_77 rfl ?_
        refine R_if_ne (pc := 79) (t := 94) dX11_feedDeck_79 (by decide) (fun _ => ?_) (fun hz9 => absurd hz9 (by decide))
        have e1 : fdR P Wd U ru i = nI 6 := by rw [eF]; unfold tellR; rw [if_neg hs, if_pos hc, if_pos h67]
        have e2 : fdS P Wd U ru (i + 1) = ((fdS P Wd U ru i).1, true) := by
          rw [eN]
          unfold nxtS
          rw [if_neg hs, ← eF, e1, if_neg (by decide), if_pos hc, decide_eq_true h67]
        rw [e1, if_neg (by decide)] at eA
        rw [eA, e2, e1] at hX
        exact hX h2 C2 T2 q1 q2 (fun q => absurd q (by decide)) q4
    · have hx2 := (q4 x (by omega)).trans hx
      refine R_istore (pc := 57) dX11_feedDeck_57 (Nat.le_of_ble_eq_true rfl) rfl ?_
      refine R_iload (pc := 59) dX11_feedDeck_59 rfl ?_
      refine R_iconst (pc := 61) (x := nI 5) dX11_feedDeck_61 rfl ?_
      refine R_icmp_ne (pc := 62) (t := 77) dX11_feedDeck_62 (by decide) (fun _ => ?_) (fun hz9 => absurd hz9 rsn_n5)
      refine R_iload (pc := 77) dX11_feedDeck_77 rfl ?_
      refine R_if_ne (pc := 79) (t := 94) dX11_feedDeck_79 (by decide) (fun h79 => ?_) (fun h79 => ?_)
      · have e1 : fdR P Wd U ru i = ownF P Wd U i := by rw [eF]; unfold tellR; rw [if_neg hs, if_neg hc]
        have e0 : ¬ fdR P Wd U ru i = nI 0 := by rw [e1]; exact h79
        have e2 : fdS P Wd U ru (i + 1) = ((fdS P Wd U ru i).1, false) := by
          rw [eN]
          unfold nxtS
          rw [if_neg hs, ← eF, if_neg e0, if_neg hc]
        rw [if_neg e0] at eA
        rw [eA, e2, e1] at hX
        exact hX h2 C2 T2 q1 q2 q3 q4
      · refine R_iinc (pc := 82) dX11_feedDeck_82 rfl (by first | exact nI_inc _ | rfl) rfl ?_
        refine R_aload_n (pc := 85) dX11_feedDeck_85 rfl ?_
        refine R_getf (pc := 86) dX11_feedDeck_86 rfl (by repeat (first | assumption | exact up_s | refine up_n (by omega) ?_)) rfl ?_
        refine R_callV (pc := 89) dX11_feedDeck_89 rfl q2 rfl rfl ?_
        have qs := q3 h79
        refine c10_key q2 ?_
        rw [qs 0 (by omega), qs 1 (by omega), qs 2 (by omega)]
        rw [show slT (valF P Wd (rdF U i)) 0 = valF P Wd (rdF U i) 0 from rfl, show slT (valF P Wd (rdF U i)) 1 = valF P Wd (rdF U i) 1 from rfl, show slT (valF P Wd (rdF U i)) 2 = valF P Wd (rdF U i) 2 from rfl, show keyM (valF P Wd (rdF U i) 0) (valF P Wd (rdF U i) 1) (valF P Wd (rdF U i) 2) = keyF P Wd U i from rfl]
        refine R_lstore (pc := 92) dX11_feedDeck_92 (Nat.le_of_ble_eq_true rfl) rfl ?_
        have e1 : fdR P Wd U ru i = ownF P Wd U i := by rw [eF]; unfold tellR; rw [if_neg hs, if_neg hc]
        have e0 : fdR P Wd U ru i = nI 0 := by rw [e1]; exact h79
        have e2 : fdS P Wd U ru (i + 1) = (keyF P Wd U i, false) := by
          rw [eN]
          unfold nxtS
          rw [if_neg hs, ← eF, if_pos e0, if_neg hc]
        rw [if_pos e0] at eA
        rw [eA, e2, e1] at hX
        exact hX h2 C2 T2 q1 q2 q3 q4
theorem lc11_fd0 {x : Nat} {U gs : Nat → Int32} {P Wd : Nat → Nat} {n : Nat} {pe : Nat → Nat} {K : Nat → CdX} {R : RpX} {se co : Nat → Int32} {ru : Int32} {g : Nat → Option am_C} (hx : g x = some (.inr (11, [.ref (x + 1), .ref (x + 94), .ref (x + 96), .ref (x + 97), .ref (x + 101), .ref (x + 106), .ref (x + 111), .ref (x + 155), .ref (x + 157)]))) (sa : StAt g (x + 1) P Wd n pe K R se co) (sL : LayW U P Wd) (sS : ∀ f, f < 4 → se f = U (12 + f)) (dR : DkR U n pe K) (hT : ∀ c, c < n → ∃ t, t < 24 ∧ U (20 + 26 * c + 25) = nI t) (hst : g sA = some (.inl (9, 4, .inl gs))) (hsA : sA < x) (hX : (∀ (h2 : Nat → Option am_C) (C2 : CdX) (T2 : Nat → Int32), CdAt h2 (x + 155) C2 → TtAt h2 (x + 157) T2 → (∀ a, (a < x + 155 ∨ x + 158 ≤ a) → h2 a = g a) → Q (some (.int (nI (accN P Wd U ru n)))) (h2, z))) : ∀ (m i : Nat) (h : Nat → Option am_C) (C0 : CdX) (T0 : Nat → Int32) (o8 : Option Value) (_ : i + m = n) (_ : CdAt h (x + 155) C0) (_ : TtAt h (x + 157) T0) (_ : ∀ a, (a < x + 155 ∨ x + 158 ≤ a) → h a = g a), Rn sA mX11_feedDeck 13 [some (.ref x), some (.int ru), some (.int (nI 0)), some (.int (nI (accN P Wd U ru i))), some (.long (fdS P Wd U ru i).1), none, some (.int (bI (fdS P Wd U ru i).2)), some (.int (nI i)), o8] [] (h, z) Q
  | 0, i, h, C0, T0, o8, hk, rd, sl, hg => by
    have hxh := (hg x (by omega)).trans hx
    have sah : StAt h (x + 1) P Wd n pe K R se co := sa.fr (fun y y1 y2 => hg y (by omega))
    have sa1 := sah.1
    have dk1 := sah.2.2.1.1
    have hn := dR.2.1
    obtain rfl : i = n := by omega
    refine R_iload (pc := 13) dX11_feedDeck_13 rfl ?_
    refine R_aload_n (pc := 15) dX11_feedDeck_15 rfl ?_
    refine R_getf (pc := 16) dX11_feedDeck_16 rfl (by repeat (first | assumption | exact up_s | refine up_n (by omega) ?_)) rfl ?_
    refine R_getf (pc := 19) dX11_feedDeck_19 rfl (by repeat (first | assumption | exact up_s | refine up_n (by omega) ?_)) rfl ?_
    refine R_callV (pc := 22) dX11_feedDeck_22 rfl dk1 rfl rfl ?_
    refine c1_size sah.2.2.1 ?_
    refine R_icmp_ge (pc := 25) (t := 112) dX11_feedDeck_25 (by decide) (fun _ => ?_) (fun hz9 => absurd (nI_le (by omega) (by omega)) hz9)
    refine R_iload_n (pc := 112) dX11_feedDeck_112 rfl ?_
    refine R_iret (pc := 113) dX11_feedDeck_113 rfl ?_
    exact hX h C0 T0 rd sl hg
  | m + 1, i, h, C0, T0, o8, hk, rd, sl, hg => by
    have hxh := (hg x (by omega)).trans hx
    have sah : StAt h (x + 1) P Wd n pe K R se co := sa.fr (fun y y1 y2 => hg y (by omega))
    refine c11_step hxh sah sL sS dR hT ((hg sA (by omega)).trans hst) hsA rd sl (show i < n by omega) (fun h2 C2 T2 q1 q2 q3 q4 => ?_)
    refine R_iload_n (pc := 94) dX11_feedDeck_94 rfl ?_
    refine R_if_eq (pc := 95) (t := 106) dX11_feedDeck_95 (by decide) (fun _ => ?_) (fun hz9 => absurd rfl hz9)
    refine R_iinc (pc := 106) dX11_feedDeck_106 rfl (by first | exact nI_inc _ | rfl) rfl ?_
    refine R_goto (pc := 109) (t := 13) dX11_feedDeck_109 (by decide) ?_
    exact lc11_fd0 hx sa sL sS dR hT hst hsA hX m (i + 1) h2 C2 T2 _ (by omega) q1 q2 (fun a ha => (q4 a ha).trans (hg a ha))
theorem c11_feed0 {x : Nat} {U gs : Nat → Int32} {P Wd : Nat → Nat} {n : Nat} {pe : Nat → Nat} {K : Nat → CdX} {R : RpX} {se co : Nat → Int32} {ru : Int32} {C0 : CdX} {T0 : Nat → Int32} (hx : h x = some (.inr (11, [.ref (x + 1), .ref (x + 94), .ref (x + 96), .ref (x + 97), .ref (x + 101), .ref (x + 106), .ref (x + 111), .ref (x + 155), .ref (x + 157)]))) (sa : StAt h (x + 1) P Wd n pe K R se co) (sL : LayW U P Wd) (sS : ∀ f, f < 4 → se f = U (12 + f)) (dR : DkR U n pe K) (hT : ∀ c, c < n → ∃ t, t < 24 ∧ U (20 + 26 * c + 25) = nI t) (hst : h sA = some (.inl (9, 4, .inl gs))) (hsA : sA < x) (rd : CdAt h (x + 155) C0) (sl : TtAt h (x + 157) T0) (hX : (∀ (h2 : Nat → Option am_C) (C2 : CdX) (T2 : Nat → Int32), CdAt h2 (x + 155) C2 → TtAt h2 (x + 157) T2 → (∀ a, (a < x + 155 ∨ x + 158 ≤ a) → h2 a = h a) → Q (some (.int (nI (accN P Wd U ru n)))) (h2, z))) : Rn sA mX11_feedDeck 0 [some (.ref x), some (.int ru), some (.int (nI 0)), none, none, none, none, none, none] [] (h, z) Q := by
  refine R_iconst (pc := 0) (x := nI 0) dX11_feedDeck_0 rfl ?_
  refine R_istore_n (pc := 1) dX11_feedDeck_1 (Nat.le_of_ble_eq_true rfl) rfl ?_
  refine R_ldc2 (pc := 2) (x := (-1)) dX11_feedDeck_2 rfl ?_
  refine R_lstore (pc := 5) dX11_feedDeck_5 (Nat.le_of_ble_eq_true rfl) rfl ?_
  refine R_iconst (pc := 7) (x := nI 0) dX11_feedDeck_7 rfl ?_
  refine R_istore (pc := 8) dX11_feedDeck_8 (Nat.le_of_ble_eq_true rfl) rfl ?_
  refine R_iconst (pc := 10) (x := nI 0) dX11_feedDeck_10 rfl ?_
  refine R_istore (pc := 11) dX11_feedDeck_11 (Nat.le_of_ble_eq_true rfl) rfl ?_
  exact lc11_fd0 (g := h) hx sa sL sS dR hT hst hsA hX n 0 h C0 T0 none (by omega) rd sl (fun _ _ => rfl)
theorem ScrI.rs {h h' : Nat → Option am_C} {x : Nat} {C2 : CdX} {T2 : Nat → Int32} (a : ScrI h x) (b : CdAt h' (x + 155) C2) (c : TtAt h' (x + 157) T2) (e : ∀ y, x + 101 ≤ y → y < x + 155 → h' y = h y) : ScrI h' x := by
  obtain ⟨⟨n, G, g2, g3, f4, a1⟩, ⟨T, a2⟩, ⟨k, qe, f, V, Z, a3, a4⟩, -, -⟩ := a
  exact ⟨⟨n, G, g2, g3, f4, a1.fr (fun y y1 y2 => e y (by omega) (by omega))⟩, ⟨T, a2.fr (fun y y1 y2 => e y (by omega) (by omega))⟩, ⟨k, qe, f, V, Z, a3.fr (fun y y1 y2 => e y (by omega) (by omega)), a4⟩, ⟨C2, b⟩, ⟨T2, c⟩⟩
theorem c11_accepts {x : Nat} {U gs : Nat → Int32} {P Wd : Nat → Nat} {n : Nat} {pe : Nat → Nat} {K : Nat → CdX} {R : RpX} {se co : Nat → Int32} {a : Int32} (hx : h x = some (.inr (11, [.ref (x + 1), .ref (x + 94), .ref (x + 96), .ref (x + 97), .ref (x + 101), .ref (x + 106), .ref (x + 111), .ref (x + 155), .ref (x + 157)]))) (sa : StAt h (x + 1) P Wd n pe K R se co) (sL : LayW U P Wd) (sS : ∀ f, f < 4 → se f = U (12 + f)) (dR : DkR U n pe K) (hT : ∀ c, c < n → ∃ t, t < 24 ∧ U (20 + 26 * c + 25) = nI t) (hst : h sA = some (.inl (9, 4, .inl gs))) (hsA : sA < x) (hgs : gs 0 = nI 2) (sc : ScrI h x) (hB : (∀ v, v ≤ 2 → ¬ a = nI v) → Q (some (.int (-1000001))) (h, z)) (hG : ∀ v, v ≤ 2 → a = nI v → ∀ h2 : Nat → Option am_C, ScrI h2 x → (∀ b, (b < x + 155 ∨ x + 158 ≤ b) → h2 b = h b) → Q (some (.int (nI (accN P Wd U (nI v) n)))) (h2, z)) : Rn sA mX11_accepts 0 [some (.ref x), some (.int a)] [] (h, z) Q := by
  refine R_iload_n (pc := 0) dX11_accepts_0 rfl ?_
  refine R_iconst (pc := 1) (x := nI 0) dX11_accepts_1 rfl ?_
  refine R_gets (pc := 2) dX11_accepts_2 rfl ?_
  refine R_iconst (pc := 5) (x := nI 0) dX11_accepts_5 rfl ?_
  refine R_iald (pc := 6) dX11_accepts_6 hst (Or.inr rfl) rfl (by omega) (by decide) ?_
  refine R_callS (pc := 7) dX11_accepts_7 rfl (Or.inl rfl) rfl rfl ?_
  rw [hgs]
  refine c_inG (a := 0) (b := 2) rfl rfl (by omega) (by omega) (fun v _ v2 e => ?_) (fun e => ?_)
  · subst e
    obtain ⟨-, -, -, ⟨C0, rd⟩, ⟨T0, sl⟩⟩ := id sc
    refine R_if_ne (pc := 10) (t := 16) dX11_accepts_10 (by decide) (fun _ => ?_) (fun hz9 => absurd hz9 (by decide))
    refine R_aload_n (pc := 16) dX11_accepts_16 rfl ?_
    refine R_iload_n (pc := 17) dX11_accepts_17 rfl ?_
    refine R_iconst (pc := 18) (x := nI 0) dX11_accepts_18 rfl ?_
    refine R_callV (pc := 19) dX11_accepts_19 rfl hx rfl rfl ?_
    refine c11_feed0 (ru := nI v) hx sa sL sS dR hT hst hsA rd sl (fun h2 C2 T2 q1 q2 q3 => ?_)
    refine R_iret (pc := 22) dX11_accepts_22 rfl ?_
    first
      | exact hB (fun v v2 q => e v (Nat.zero_le _) v2 q)
      | exact hG v v2 rfl h2 (sc.rs q1 q2 (fun y y1 y2 => q3 y (by omega))) q3
  · refine R_if_ne (pc := 10) (t := 16) dX11_accepts_10 (by decide) (fun hz9 => absurd hz9 (by decide)) (fun _ => ?_)
    refine R_ldc (pc := 13) (x := (-1000001)) dX11_accepts_13 rfl ?_
    refine R_iret (pc := 15) dX11_accepts_15 rfl ?_
    first
      | exact hB (fun v v2 q => e v (Nat.zero_le _) v2 q)
      | exact hG v v2 rfl h2 (sc.rs q1 q2 (fun y y1 y2 => q3 y (by omega))) q3
end CE9
