section CF1
variable {sA : Nat} {h : Nat → Option am_C} {z : Nat × Nat} {Q : Option Value → am_H → Prop}
theorem lc11_fd1 {x : Nat} {U gs : Nat → Int32} {P Wd : Nat → Nat} {n : Nat} {pe : Nat → Nat} {K : Nat → CdX} {se co : Nat → Int32} {ru lim : Int32} {acc : Nat → Nat → Int32} {num : Nat → Int32} {g : Nat → Option am_C} (hx : g x = some (.inr (11, [.ref (x + 1), .ref (x + 94), .ref (x + 96), .ref (x + 97), .ref (x + 101), .ref (x + 106), .ref (x + 111), .ref (x + 155), .ref (x + 157)]))) (sL : LayW U P Wd) (sS : ∀ f, f < 4 → se f = U (12 + f)) (dR : DkR U n pe K) (hT : ∀ c, c < n → ∃ t, t < 24 ∧ U (20 + 26 * c + 25) = nI t) (hst : g sA = some (.inl (9, 4, .inl gs))) (hsA : sA < x) (hacc : ∀ i, i < n → fdR P Wd U ru i = nI 0 → (∀ f, f < 5 → acc (accN P Wd U ru i) f = accF P Wd U i f) ∧ num (accN P Wd U ru i) = nI i) (hr9 : ∀ k, k < accN P Wd U ru n → ∀ f, f < 3 → ∃ u, u < 10000 ∧ acc k f = nI u) (hX : (∀ (h2 : Nat → Option am_C) (R2 : RpX) (T2 : Nat → Nat → Int32) (C2 : CdX) (S2 : Nat → Int32), StAt h2 (x + 1) P Wd n pe K R2 se co → PrX h2 (x + 106) T2 → PtK lim acc num (accN P Wd U ru n) R2 T2 → R2.2.1 = n → (∀ k, k < n → R2.2.2.2.2 k = fdR P Wd U ru k) → CdAt h2 (x + 155) C2 → TtAt h2 (x + 157) S2 → (∀ a, (a < x + 89 ∨ x + 92 ≤ a) → (a < x + 106 ∨ x + 111 ≤ a) → (a < x + 155 ∨ x + 158 ≤ a) → h2 a = g a) → Q (some (.int (nI (accN P Wd U ru n)))) (h2, z))) : ∀ (m : Nat) (i : Nat) (h : Nat → Option am_C) (R : RpX) (T : Nat → Nat → Int32) (C0 : CdX) (T0 : Nat → Int32) (o8 : Option Value) (_ : i + m = n) (_ : StAt h (x + 1) P Wd n pe K R se co) (_ : PrX h (x + 106) T) (_ : PtK lim acc num (accN P Wd U ru i) R T) (_ : R.2.1 = n) (_ : ∀ k, k < i → R.2.2.2.2 k = fdR P Wd U ru k) (_ : CdAt h (x + 155) C0) (_ : TtAt h (x + 157) T0) (_ : (∀ a, (a < x + 89 ∨ x + 92 ≤ a) → (a < x + 106 ∨ x + 111 ≤ a) → (a < x + 155 ∨ x + 158 ≤ a) → h a = g a)), Rn sA mX11_feedDeck 13 [some (.ref x), some (.int ru), some (.int (nI 1)), some (.int (nI (accN P Wd U ru i))), some (.long (fdS P Wd U ru i).1), none, some (.int (bI (fdS P Wd U ru i).2)), some (.int (nI i)), o8] [] (h, z) Q
  | 0, i, h, R, T, C0, T0, o8, hk, sa, pr, kk, hRn, hre, rd, sl, hg => by
    have hxh := (hg x (by omega) (by omega) (by omega)).trans hx
    have sa1 := sa.1
    have dk1 := sa.2.2.1.1
    have hn := dR.2.1
    obtain rfl : i = n := by omega
    refine R_iload (pc := 13) dX11_feedDeck_13 rfl ?_
    refine R_aload_n (pc := 15) dX11_feedDeck_15 rfl ?_
    refine R_getf (pc := 16) dX11_feedDeck_16 rfl (by repeat (first | assumption | exact up_s | refine up_n (by omega) ?_)) rfl ?_
    refine R_getf (pc := 19) dX11_feedDeck_19 rfl (by repeat (first | assumption | exact up_s | refine up_n (by omega) ?_)) rfl ?_
    refine R_callV (pc := 22) dX11_feedDeck_22 rfl dk1 rfl rfl ?_
    refine c1_size sa.2.2.1 ?_
    refine R_icmp_ge (pc := 25) (t := 112) dX11_feedDeck_25 (by decide) (fun _ => ?_) (fun hz9 => absurd (nI_le (by omega) (by omega)) hz9)
    refine R_iload_n (pc := 112) dX11_feedDeck_112 rfl ?_
    refine R_iret (pc := 113) dX11_feedDeck_113 rfl ?_
    exact hX h R T C0 T0 sa pr kk hRn hre rd sl hg
  | m + 1, i, h, R, T, C0, T0, o8, hk, sa, pr, kk, hRn, hre, rd, sl, hg => by
    have hxh := (hg x (by omega) (by omega) (by omega)).trans hx
    have hn := dR.2.1
    refine c11_step hxh sa sL sS dR hT ((hg sA (by omega) (by omega) (by omega)).trans hst) hsA rd sl (show i < n by omega) (fun h2 C2 T2 q1 q2 q3 q4 => ?_)
    have hx2 := (q4 x (by omega)).trans hxh
    have sa2 : StAt h2 (x + 1) P Wd n pe K R se co := sa.fr (fun y y1 y2 => q4 y (by omega))
    have pr2 : PrX h2 (x + 106) T := pr.fr (fun y y1 y2 => q4 y (by omega))
    have eA := accN_s P Wd U ru i
    refine R_iload_n (pc := 94) dX11_feedDeck_94 rfl ?_
    refine R_if_eq (pc := 95) (t := 106) dX11_feedDeck_95 (by decide) (fun hz9 => absurd hz9 (by decide)) (fun _ => ?_)
    refine R_aload_n (pc := 98) dX11_feedDeck_98 rfl ?_
    refine R_iload (pc := 99) dX11_feedDeck_99 rfl ?_
    refine R_iload (pc := 101) dX11_feedDeck_101 rfl ?_
    refine R_callV (pc := 103) dX11_feedDeck_103 rfl hx2 rfl rfl ?_
    refine c11_pj (k := accN P Wd U ru i) hx2 sa2 pr2 q2 kk (by omega) (by omega) (fun h0 => ?_) (fun h3 R3 T3 k1 k2 k3 k4 k5 k6 => ?_)
    · obtain ⟨e1, e2⟩ := hacc i (by omega) h0
      have qs := q3 h0
      rw [if_pos h0] at eA
      have mo := accN_mono (P := P) (Wd := Wd) (U := U) (ru := ru) (show i + 1 ≤ n by omega)
      have le := accN_le P Wd U ru i
      have r3 : ∀ f, f < 3 → T2 f = acc (accN P Wd U ru i) f := by
        intro f hf
        rw [qs f (by omega), e1 f (by omega)]
        have cc : f = 0 ∨ f = 1 ∨ f = 2 := by omega
        rcases cc with rfl | rfl | rfl <;> rfl
      refine ⟨r3, ?_, qs 4 (by omega), ?_, ?_, qs 7 (by omega), by omega, e2, fun k hk => hr9 k (by omega)⟩
      · rw [qs 3 (by omega), e1 4 (by omega)]; rfl
      · rw [qs 5 (by omega), e1 3 (by omega)]; rfl
      · rw [qs 6 (by omega)]
        unfold wag
        rw [e1 3 (by omega), e1 4 (by omega)]
        rfl
    refine R_iinc (pc := 106) dX11_feedDeck_106 rfl (by first | exact nI_inc _ | rfl) rfl ?_
    refine R_goto (pc := 109) (t := 13) dX11_feedDeck_109 (by decide) ?_
    refine lc11_fd1 hx sL sS dR hT hst hsA hacc hr9 hX m (i + 1) h3 R3 T3 C2 T2 _ (by omega) k1 k2 ?_ (k4.trans hRn) (fun k hk2 => ?_) (q1.fr (fun y y1 y2 => k6 y (by omega) (by omega))) (q2.fr (k6 _ (by omega) (by omega))) (fun a a1 a2 a3 => by rw [k6 a a1 a2, q4 a (by omega)]; exact hg a a1 a2 a3)
    · rw [eA]; exact k3
    · rw [k5]
      by_cases e : k = i
      · subst e; exact upd_s
      · rw [upd_n e]; exact hre k (by omega)
theorem ptE_le {lim : Int32} {acc : Nat → Nat → Int32} {num : Nat → Int32} {m : Nat} (hm : m ≤ 40) : (ptE lim acc num m).1 ≤ 161 := by
  unfold ptE
  show (if m = 0 then ptS lim acc num m else brks lim (acc (m - 1)) 3 (ptS lim acc num m)).1 + 1 ≤ 161
  have h := ptS_le (lim := lim) (acc := acc) (num := num) m
  by_cases e : m = 0
  · rw [if_pos e]; omega
  · rw [if_neg e, brks_1]
    have := h.2 (by omega)
    omega
theorem c11_feed1 {x : Nat} {U gs : Nat → Int32} {P Wd : Nat → Nat} {n : Nat} {pe : Nat → Nat} {K : Nat → CdX} {se co : Nat → Int32} {ru lim : Int32} {acc : Nat → Nat → Int32} {num : Nat → Int32} {R : RpX} {T : Nat → Nat → Int32} {C0 : CdX} {T0 : Nat → Int32} (hx : h x = some (.inr (11, [.ref (x + 1), .ref (x + 94), .ref (x + 96), .ref (x + 97), .ref (x + 101), .ref (x + 106), .ref (x + 111), .ref (x + 155), .ref (x + 157)]))) (sa : StAt h (x + 1) P Wd n pe K R se co) (sL : LayW U P Wd) (sS : ∀ f, f < 4 → se f = U (12 + f)) (dR : DkR U n pe K) (hT : ∀ c, c < n → ∃ t, t < 24 ∧ U (20 + 26 * c + 25) = nI t) (hst : h sA = some (.inl (9, 4, .inl gs))) (hsA : sA < x) (hacc : ∀ i, i < n → fdR P Wd U ru i = nI 0 → (∀ f, f < 5 → acc (accN P Wd U ru i) f = accF P Wd U i f) ∧ num (accN P Wd U ru i) = nI i) (hr9 : ∀ k, k < accN P Wd U ru n → ∀ f, f < 3 → ∃ u, u < 10000 ∧ acc k f = nI u) (pr : PrX h (x + 106) T) (kk : PtK lim acc num 0 R T) (hRn : R.2.1 = n) (rd : CdAt h (x + 155) C0) (sl : TtAt h (x + 157) T0) (hX : (∀ (h2 : Nat → Option am_C) (R2 : RpX) (T2 : Nat → Nat → Int32) (C2 : CdX) (S2 : Nat → Int32), StAt h2 (x + 1) P Wd n pe K R2 se co → PrX h2 (x + 106) T2 → PtK lim acc num (accN P Wd U ru n) R2 T2 → R2.2.1 = n → (∀ k, k < n → R2.2.2.2.2 k = fdR P Wd U ru k) → CdAt h2 (x + 155) C2 → TtAt h2 (x + 157) S2 → (∀ a, (a < x + 89 ∨ x + 92 ≤ a) → (a < x + 106 ∨ x + 111 ≤ a) → (a < x + 155 ∨ x + 158 ≤ a) → h2 a = h a) → Q (some (.int (nI (accN P Wd U ru n)))) (h2, z))) : Rn sA mX11_feedDeck 0 [some (.ref x), some (.int ru), some (.int (nI 1)), none, none, none, none, none, none] [] (h, z) Q := by
  refine R_iconst (pc := 0) (x := nI 0) dX11_feedDeck_0 rfl ?_
  refine R_istore_n (pc := 1) dX11_feedDeck_1 (Nat.le_of_ble_eq_true rfl) rfl ?_
  refine R_ldc2 (pc := 2) (x := (-1)) dX11_feedDeck_2 rfl ?_
  refine R_lstore (pc := 5) dX11_feedDeck_5 (Nat.le_of_ble_eq_true rfl) rfl ?_
  refine R_iconst (pc := 7) (x := nI 0) dX11_feedDeck_7 rfl ?_
  refine R_istore (pc := 8) dX11_feedDeck_8 (Nat.le_of_ble_eq_true rfl) rfl ?_
  refine R_iconst (pc := 10) (x := nI 0) dX11_feedDeck_10 rfl ?_
  refine R_istore (pc := 11) dX11_feedDeck_11 (Nat.le_of_ble_eq_true rfl) rfl ?_
  exact lc11_fd1 (g := h) hx sL sS dR hT hst hsA hacc hr9 hX n 0 h R T C0 T0 none (by omega) sa pr kk hRn (fun k hk => absurd hk (Nat.not_lt_zero _)) rd sl (fun _ _ _ _ => rfl)
theorem c11_run {x B Y pm fl l : Nat} {PA IM T U gs : Nat → Int32} {fk fp : Int32} {P Wd : Nat → Nat} {n : Nat} {pe : Nat → Nat} {K : Nat → CdX} {R : RpX} {se co : Nat → Int32} (r : RstI h z x B Y PA pm IM fl T l fk fp) (sa : StAt h (x + 1) P Wd n pe K R se co) (sr : StR U P Wd n pe K R se co) (sc : ScrI h x) (hD : DigW U n) (hT : ∀ c, c < n → ∃ t, t < 24 ∧ U (20 + 26 * c + 25) = nI t) (hst : h sA = some (.inl (9, 4, .inl gs))) (hsA : sA < x) (hG : ∀ (h3 : Nat → Option am_C) (z3 : Nat × Nat), (∀ a, (a < x ∨ (x + 158 ≤ a ∧ a < B)) → h3 a = h a) → (∀ V : Nat → Int32, RunW P Wd U n V → OutI h h3 z3 x B Y V (remP U PA pm) (remN pm) IM fl T l fk fp) → Q (some (.int (nI (accN P Wd U (U 12) n)))) (h3, z3)) : Rn sA mX11_run 0 [some (.ref x), none] [] (h, z) Q := by
  have hx := r.2.1
  have st : StW h (x + 1) U := ⟨P, Wd, n, pe, K, R, se, co, sa, sr⟩
  have sa1 := sa.1
  have hn := sr.2.2.1.2.1
  have h94 : ∃ fs, h (x + 94) = some (.inr (2, fs)) := by obtain ⟨_, _, ⟨_, _, q, _⟩, _⟩ := r; exact ⟨_, q.1⟩
  obtain ⟨fs94, h94⟩ := h94
  have hacc : ∀ i, i < n → fdR P Wd U (U 12) i = nI 0 → (∀ f, f < 5 → (fun k f => accF P Wd U (invA P Wd U (U 12) n k) f) (accN P Wd U (U 12) i) f = accF P Wd U i f) ∧ (fun k => nI (invA P Wd U (U 12) n k)) (accN P Wd U (U 12) i) = nI i := by
    intro i hi h0
    refine ⟨fun f _ => ?_, ?_⟩
    · show accF P Wd U (invA P Wd U (U 12) n (accN P Wd U (U 12) i)) f = _
      rw [invA_at hi h0]
    · show nI (invA P Wd U (U 12) n (accN P Wd U (U 12) i)) = _
      rw [invA_at hi h0]
  have hr9 : ∀ k, k < accN P Wd U (U 12) n → ∀ f, f < 3 → ∃ u, u < 10000 ∧ (fun k f => accF P Wd U (invA P Wd U (U 12) n k) f) k f = nI u := by
    intro k hk f hf
    obtain ⟨i, i1, i2, i3⟩ := accN_find hk
    show ∃ u, u < 10000 ∧ accF P Wd U (invA P Wd U (U 12) n k) f = nI u
    rw [← i3, invA_at i1 i2]
    exact accF_rng sr.1 sr.2.1 hD i1 i2 f (by omega)
  generalize hac : (fun k f => accF P Wd U (invA P Wd U (U 12) n k) f) = acc at hacc hr9
  generalize hnu : (fun k => nI (invA P Wd U (U 12) n k)) = num at hacc
  refine R_aload_n (pc := 0) dX11_run_0 rfl ?_
  refine R_getf (pc := 1) dX11_run_1 rfl (by repeat (first | assumption | exact up_s | refine up_n (by omega) ?_)) rfl ?_
  refine R_aload_n (pc := 4) dX11_run_4 rfl ?_
  refine R_getf (pc := 5) dX11_run_5 rfl (by repeat (first | assumption | exact up_s | refine up_n (by omega) ?_)) rfl ?_
  refine R_callV (pc := 8) dX11_run_8 rfl h94 rfl rfl ?_
  refine c2_record r st (fun h2 z2 r2 fr2 => ?_)
  have hB := r.1
  have hx2 := r2.2.1
  have sa2 : StAt h2 (x + 1) P Wd n pe K R se co := sa.fr (fun y y1 y2 => fr2 y (by omega) (by omega) (by omega))
  have sc2 : ScrI h2 x := sc.fr (fun y y1 y2 => fr2 y (by omega) (by omega) (by omega))
  have sa21 := sa2.1
  have hst2 := (fr2 sA (by omega) (by omega) (by omega)).trans hst
  refine R_aload_n (pc := 11) dX11_run_11 rfl ?_
  refine R_getf (pc := 12) dX11_run_12 rfl (by repeat (first | assumption | exact up_s | refine up_n (by omega) ?_)) rfl ?_
  refine R_getf (pc := 15) dX11_run_15 rfl (by repeat (first | assumption | exact up_s | refine up_n (by omega) ?_)) rfl ?_
  refine R_aload_n (pc := 18) dX11_run_18 rfl ?_
  refine R_getf (pc := 19) dX11_run_19 rfl (by repeat (first | assumption | exact up_s | refine up_n (by omega) ?_)) rfl ?_
  refine R_getf (pc := 22) dX11_run_22 rfl (by repeat (first | assumption | exact up_s | refine up_n (by omega) ?_)) rfl ?_
  refine R_callV (pc := 25) dX11_run_25 rfl sa2.2.2.1.1 rfl rfl ?_
  refine c1_size sa2.2.2.1 ?_
  refine R_aload_n (pc := 28) dX11_run_28 rfl ?_
  refine R_getf (pc := 29) dX11_run_29 rfl (by repeat (first | assumption | exact up_s | refine up_n (by omega) ?_)) rfl ?_
  refine R_iconst (pc := 32) (x := nI 3) dX11_run_32 rfl ?_
  refine R_callV (pc := 33) dX11_run_33 rfl sa21 rfl rfl ?_
  refine c8_settingOf sa2 hst2 (by omega) ?_
  rw [sr.2.2.2.2.1 3 (by omega)]
  refine R_callV (pc := 36) dX11_run_36 rfl sa2.2.2.2.1.1 rfl rfl ?_
  refine c5_begin sa2.2.2.2.1 hn (fun h3 b1 b2 => ?_)
  have hx3 := (b2 x (by omega)).trans hx2
  have sA3 : StAt h3 (x + 1) P Wd n pe K (0, n, U 15, R.2.2.2) se co := ⟨(b2 _ (by omega)).trans sa21, sa2.2.1.fr (fun y y1 y2 => b2 y (by omega)), sa2.2.2.1.fr (fun y y1 y2 => b2 y (by omega)), b1, (b2 _ (by omega)).trans sa2.2.2.2.2.1, (b2 _ (by omega)).trans sa2.2.2.2.2.2⟩
  have sA31 := sA3.1
  obtain ⟨g1, ⟨T0, pr0⟩, g3, ⟨C0, rd0⟩, ⟨S0, sl0⟩⟩ := sc2.fr (h' := h3) (fun y y1 y2 => b2 y (by omega))
  have pr01 := pr0.1
  refine R_aload_n (pc := 39) dX11_run_39 rfl ?_
  refine R_getf (pc := 40) dX11_run_40 rfl (by repeat (first | assumption | exact up_s | refine up_n (by omega) ?_)) rfl ?_
  refine R_callV (pc := 43) dX11_run_43 rfl pr01 rfl rfl ?_
  refine c4_begin pr0 (fun h4 c1 c2 => ?_)
  have hx4 := (c2 x (by omega)).trans hx3
  have sA4 : StAt h4 (x + 1) P Wd n pe K (0, n, U 15, R.2.2.2) se co := sA3.fr (fun y y1 y2 => c2 y (by omega))
  have sA41 := sA4.1
  have hst4 : h4 sA = _ := (c2 sA (by omega)).trans ((b2 sA (by omega)).trans hst2)
  refine R_aload_n (pc := 46) dX11_run_46 rfl ?_
  refine R_aload_n (pc := 47) dX11_run_47 rfl ?_
  refine R_getf (pc := 48) dX11_run_48 rfl (by repeat (first | assumption | exact up_s | refine up_n (by omega) ?_)) rfl ?_
  refine R_iconst (pc := 51) (x := nI 0) dX11_run_51 rfl ?_
  refine R_callV (pc := 52) dX11_run_52 rfl sA41 rfl rfl ?_
  refine c8_settingOf sA4 hst4 (by omega) ?_
  rw [sr.2.2.2.2.1 0 (by omega)]
  refine R_iconst (pc := 55) (x := nI 1) dX11_run_55 rfl ?_
  refine R_callV (pc := 56) dX11_run_56 rfl hx4 rfl rfl ?_
  refine c11_feed1 (ru := U 12) (lim := U 15) (acc := acc) (num := num) hx4 sA4 sr.1 sr.2.2.2.2.1 sr.2.2.1 hT hst4 hsA hacc hr9 c1 PtK.ze rfl (rd0.fr (fun y y1 y2 => c2 y (by omega))) (sl0.fr (c2 _ (by omega))) (fun h5 R5 T5 C5 S5 d1 d2 d3 d4 d5 d6 d7 d8 => ?_)
  have hx5 := (d8 x (by omega) (by omega) (by omega)).trans hx4
  have d11 := d1.1
  have d21 := d2.1
  refine R_istore_n (pc := 59) dX11_run_59 (Nat.le_of_ble_eq_true rfl) rfl ?_
  refine R_aload_n (pc := 60) dX11_run_60 rfl ?_
  refine R_getf (pc := 61) dX11_run_61 rfl (by repeat (first | assumption | exact up_s | refine up_n (by omega) ?_)) rfl ?_
  refine R_aload_n (pc := 64) dX11_run_64 rfl ?_
  refine R_getf (pc := 65) dX11_run_65 rfl (by repeat (first | assumption | exact up_s | refine up_n (by omega) ?_)) rfl ?_
  refine R_getf (pc := 68) dX11_run_68 rfl (by repeat (first | assumption | exact up_s | refine up_n (by omega) ?_)) rfl ?_
  refine R_callV (pc := 71) dX11_run_71 rfl d21 rfl rfl ?_
  refine c4_end d2 d1.2.2.2.1 (by omega) d3 (by have := accN_le P Wd U (U 12) n; omega) (fun h6 R6 T6 T7 e1 e2 e3 e4 e5 e6 => ?_)
  refine R_iload_n (pc := 74) dX11_run_74 rfl ?_
  refine R_iret (pc := 75) dX11_run_75 rfl ?_
  have fall : ∀ y, (y < x + 89 ∨ x + 92 ≤ y) → (y < x + 106 ∨ x + 111 ≤ y) → (y < x + 155 ∨ x + 158 ≤ y) → h6 y = h2 y := fun y y1 y2 y3 => by rw [e6 y (by omega) (by omega), d8 y y1 y2 y3, c2 y (by omega), b2 y (by omega)]
  refine hG h6 z2 (OutI.frm r2 fr2 (fun y hy => fall y (by omega) (by omega) (by omega))) (fun V hV => ⟨⟨P, Wd, n, pe, K, R6, se, co, ⟨(fall _ (by omega) (by omega) (by omega)).trans sa21, sa2.2.1.fr (fun y y1 y2 => fall y (by omega) (by omega) (by omega)), sa2.2.2.1.fr (fun y y1 y2 => fall y (by omega) (by omega) (by omega)), e2, (fall _ (by omega) (by omega) (by omega)).trans sa2.2.2.2.2.1, (fall _ (by omega) (by omega) (by omega)).trans sa2.2.2.2.2.2⟩, ?_⟩, r2.fr (fun y hy => fall y (by omega) (by omega) (by omega)), ?_, fun y hy => ?_⟩)
  · obtain ⟨V1, G, v1, v2, v3, v4, v5, v6, v7, Z, w1, w2, w3, w4⟩ := hV
    have hm := accN_le P Wd U (U 12) n
    have ep : ptE (U 15) (fun k f => V1 (1104 + 5 * k + f)) G (accN P Wd U (U 12) n) = ptE (U 15) acc num (accN P Wd U (U 12) n) := by
      refine ptE_cg (fun k hk f hf => ?_) (fun k hk => ?_)
      · obtain ⟨i, i1, i2, i3⟩ := accN_find hk
        show V1 (1104 + 5 * k + f) = acc k f
        rw [← i3, (hacc i i1 i2).1 f hf]
        exact (v7 i i1 i2).1 f hf
      · obtain ⟨i, i1, i2, i3⟩ := accN_find hk
        rw [← i3, (hacc i i1 i2).2]
        exact (v7 i i1 i2).2
    rw [ep] at w2 w3
    obtain ⟨p1, p2, p3, p4, p5, -, -⟩ := e3
    have hU : ∀ j, j < 1060 → V j = U j := fun j hj => (w1 j (by omega)).trans (v1 j (by omega))
    have h161 : (ptE (U 15) acc num (accN P Wd U (U 12) n)).1 ≤ 161 := ptE_le (by omega)
    refine ⟨sr.1.cg (fun j hj => hU j (by omega)), sr.2.1, sr.2.2.1.cg (fun j j1 j2 => hU j (by omega)), ⟨by rw [p1]; exact w2, by omega, by rw [e4, d4]; exact (w1 _ (by omega)).trans v4, by omega, by rw [p2]; exact (w1 _ (by omega)).trans v3, fun i hi j hj => ?_, fun i hi h0 => ?_, fun k hk => ?_⟩, fun f hf => by rw [hU _ (by omega)]; exact sr.2.2.2.2.1 f hf, fun k hk => by rw [hU _ (by omega)]; exact sr.2.2.2.2.2 k hk⟩
    · rw [p3 i (by omega) j hj]; exact (w3 i (by omega) j hj).symm
    · have hi2 : i < (ptE (U 15) acc num (accN P Wd U (U 12) n)).1 := by omega
      have ez := w3 i hi2 0 (by omega)
      rw [Nat.add_zero] at ez
      rw [ez] at h0
      have el : lnN V i = cnL (ptE (U 15) acc num (accN P Wd U (U 12) n)).2.1 i := cnt_congr (fun l hl => by
        have := w3 l (by omega) 0 (by omega)
        rw [Nat.add_zero] at this
        rw [this])
      rw [p4 i hi2 h0, el]
      have cs := cnL_s (ptE (U 15) acc num (accN P Wd U (U 12) n)).2.1 i
      rw [if_pos h0] at cs
      have cm : cnL (ptE (U 15) acc num (accN P Wd U (U 12) n)).2.1 (i + 1) ≤ cnL (ptE (U 15) acc num (accN P Wd U (U 12) n)).2.1 (ptE (U 15) acc num (accN P Wd U (U 12) n)).1 := cnt_mono (by omega)
      rw [p5] at cm
      obtain ⟨a, a1, a2, a3⟩ := accN_find (show cnL (ptE (U 15) acc num (accN P Wd U (U 12) n)).2.1 i < accN P Wd U (U 12) n by omega)
      rw [← a3, (hacc a a1 a2).1 4 (by omega), w1 _ (by have := accN_le P Wd U (U 12) a; omega), (v7 a a1 a2).1 4 (by omega)]
    · rw [e4, d4] at hk
      rw [e5, d5 k hk]
      exact ((w1 _ (by omega)).trans (v6 k hk)).symm
  · obtain ⟨⟨m0, G0, g20, g30, f40, so⟩, -, ⟨c0, qe, f0, V0, Z0, sw, sf⟩, -, -⟩ := sc2
    exact ⟨⟨m0, G0, g20, g30, f40, so.fr (fun y y1 y2 => fall y (by omega) (by omega) (by omega))⟩, ⟨T6, e1⟩, ⟨c0, qe, f0, V0, Z0, sw.fr (fun y y1 y2 => fall y (by omega) (by omega) (by omega)), sf⟩, ⟨C5, d6.fr (fun y y1 y2 => e6 y (by omega) (by omega))⟩, ⟨S5, d7.fr (e6 _ (by omega) (by omega))⟩⟩
  · rw [fall y (by omega) (by omega) (by omega), fr2 y (by omega) (by omega) (by omega)]
end CF1
