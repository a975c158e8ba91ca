section CF2
variable {sA : Nat} {h : Nat → Option am_C} {z : Nat × Nat} {Q : Option Value → am_H → Prop}
/-- a report that adds up: m accepted cards -/
def RepOK (U : Nat → Int32) (m : Nat) : Prop := U 1103 = nI m ∧ m ≤ 40 ∧ (∀ k, k < m → ∀ f, f < 5 → ∃ u, u < 10000 ∧ U (1104 + 5 * k + f) = nI u) ∧ ((U 1304 = nI 0 ∧ U 1060 = 0 ∧ m = 0) ∨ (¬ U 1060 = 0 ∧ ∃ q, q < 161 ∧ U 1304 = nI (q + 1) ∧ lnN U (q + 1) = m ∧ (∀ i, i < q + 1 → U (1305 + 9 * i) = 0 → (∀ f, f < 3 → U (1305 + 9 * i + 1 + f) = U (1104 + 5 * lnN U i + f)) ∧ U (1305 + 9 * i + 4) = nI 1 ∧ U (1305 + 9 * i + 5) = U (1104 + 5 * lnN U i + 3) ∧ U (1305 + 9 * i + 6) = wag (fun f => U (1104 + 5 * lnN U i + f)) ∧ U (1305 + 9 * i + 7) = nI 0) ∧ U (1305 + 9 * q + 4) = nI m ∧ U (1305 + 9 * q + 5) = sT (fun k => U (1104 + 5 * k + 3)) m))
theorem RpR.ln {U : Nat → Int32} {R : RpX} (b : RpR U R) : ∀ i, i ≤ R.1 → cnR R i = lnN U i := fun i hi => cnt_congr (fun l hl => by
  have e := b.2.2.2.2.2.1 l (by omega) 0 (by omega)
  rw [Nat.add_zero, Nat.add_zero] at e
  rw [e])
theorem RepOK.rp {U : Nat → Int32} {m : Nat} {R : RpX} (a : RepOK U m) (b : RpR U R) : (R.1 = 0 → U 1060 = 0 ∧ m = 0) ∧ (∀ k, R.1 = k + 1 → ¬ U 1060 = 0 ∧ R.2.2.2.1 (k * 10 + 4) = nI m ∧ R.2.2.2.1 (k * 10 + 5) = sT (fun k => U (1104 + 5 * k + 3)) m) ∧ cnR R R.1 = m ∧ (∀ i, i < R.1 → R.2.2.2.1 (i * 10) = 0 → ∀ x, x < 8 → rcT R i x = slA (fun f => U (1104 + 5 * cnR R i + f)) x) ∧ (∀ i, i < R.1 → R.2.2.2.1 (i * 10) = 0 → R.2.2.2.1 (i * 10 + 3) = U (1104 + 5 * cnR R i + 2)) := by
  have ln := b.ln
  obtain ⟨a1, a2, a3, a4⟩ := a
  obtain ⟨b1, b2, b3, b4, b5, b6, b7, b8⟩ := b
  rcases a4 with ⟨c1, c2, c3⟩ | ⟨c0, q, q1, q2, q3, q4, q5, q6⟩
  · have e0 : R.1 = 0 := (nI_eq (b := 0) (by omega) (by omega)).mp (b1.symm.trans c1)
    refine ⟨fun _ => ⟨c2, c3⟩, fun k hk => by omega, by rw [e0, c3]; rfl, fun i hi => by omega, fun i hi => by omega⟩
  · have e0 : R.1 = q + 1 := (nI_eq (by omega) (by omega)).mp (b1.symm.trans q2)
    have line0 : ∀ i, i < R.1 → R.2.2.2.1 (i * 10) = 0 → U (1305 + 9 * i) = 0 := fun i hi h0 => by
      have e := b6 i hi 0 (by omega)
      rw [Nat.add_zero, Nat.add_zero] at e
      rw [← e]; exact h0
    refine ⟨fun h => by omega, fun k hk => ?_, by rw [ln _ (Nat.le_refl _), e0]; exact q3, fun i hi h0 x hx => ?_, fun i hi h0 => ?_⟩
    · obtain rfl : k = q := by omega
      exact ⟨c0, by rw [b6 k (by omega) 4 (by omega)]; exact q5, by rw [b6 k (by omega) 5 (by omega)]; exact q6⟩
    · have u0 := line0 i hi h0
      obtain ⟨l1, l2, l3, l4, l5⟩ := q4 i (by omega) u0
      rw [ln i (by omega)]
      have cc : x = 0 ∨ x = 1 ∨ x = 2 ∨ x = 3 ∨ x = 4 ∨ x = 5 ∨ x = 6 ∨ x = 7 := by omega
      rcases cc with rfl | rfl | rfl | rfl | rfl | rfl | rfl | rfl
      · show R.2.2.2.1 (i * 10 + 1) = _; rw [b6 i hi 1 (by omega)]; exact l1 0 (by omega)
      · show R.2.2.2.1 (i * 10 + 2) = _; rw [b6 i hi 2 (by omega)]; exact l1 1 (by omega)
      · show R.2.2.2.1 (i * 10 + 3) = _; rw [b6 i hi 3 (by omega)]; exact l1 2 (by omega)
      · show R.2.2.2.1 (i * 10 + 9) = _; exact b7 i hi u0
      · show R.2.2.2.1 (i * 10 + 4) = _; rw [b6 i hi 4 (by omega)]; exact l2
      · show R.2.2.2.1 (i * 10 + 5) = _; rw [b6 i hi 5 (by omega)]; exact l3
      · show R.2.2.2.1 (i * 10 + 6) = _; rw [b6 i hi 6 (by omega)]; exact l4
      · show R.2.2.2.1 (i * 10 + 7) = _; rw [b6 i hi 7 (by omega)]; exact l5
    · have u0 := line0 i hi h0
      rw [ln i (by omega), b6 i hi 3 (by omega)]
      exact (q4 i (by omega) u0).1 2 (by omega)
theorem swC_T {R : RpX} {g : Nat → Int32} (hg : ∀ i, i < R.1 → R.2.2.2.1 (i * 10) = 0 → R.2.2.2.1 (i * 10 + 3) = g (cnR R i)) : ∀ (n k : Nat), k + n = R.1 → swC R n k (sT g (cnR R k)) = sT g (cnR R R.1)
  | 0, k, h => by
    obtain rfl : k = R.1 := by omega
    rfl
  | n + 1, k, h => by
    unfold swC
    have e : (if R.2.2.2.1 (k * 10) = 0 then sT g (cnR R k) + R.2.2.2.1 (k * 10 + 3) else sT g (cnR R k)) = sT g (cnR R (k + 1)) := by
      by_cases q : R.2.2.2.1 (k * 10) = 0
      · rw [if_pos q, hg k (by omega) q, cnR_s, if_pos q, sT_s]
      · rw [if_neg q, cnR_s, if_neg q, Nat.add_zero]
    rw [e]
    exact swC_T hg n (k + 1) (by omega)
theorem difR_T {U : Nat → Int32} {x : Nat} : ∀ (n k : Nat), difR U x n k (sT (fun k => if x = 0 then nI 1 else U (1104 + 5 * k + (if x = 1 then 3 else 2))) k) = sT (fun k => if x = 0 then nI 1 else U (1104 + 5 * k + (if x = 1 then 3 else 2))) (k + n)
  | 0, _ => rfl
  | n + 1, k => by
    have e := difR_T (U := U) (x := x) n (k + 1)
    rw [show k + (n + 1) = k + 1 + n by omega, ← e]
    rfl
theorem sT_one1 : ∀ n, sT (fun _ => nI 1) n = nI n
  | 0 => rfl
  | n + 1 => by rw [sT_s, sT_one1 n, nI_add]
theorem rfC_R {U : Nat → Int32} {g : Nat → Int32} {N : Nat} (hg : ∀ k, k < N → g k = U (1063 + k)) : ∀ (n k : Nat) (a : Int32), k + n = N → rfC g n k a = refR U n k a
  | 0, _, _, _ => rfl
  | n + 1, k, a, h => by
    unfold rfC refR
    rw [hg k (by omega)]
    by_cases e : nI 1 ≤ U (1063 + k) ∧ U (1063 + k) ≤ nI 5
    · rw [if_pos e, if_pos e]; exact rfC_R hg n (k + 1) _ (by omega)
    · rw [if_neg e, if_neg e, add_0]; exact rfC_R hg n (k + 1) _ (by omega)
theorem c11_told {x B Y pm fl l : Nat} {PA IM T U : Nat → Int32} {fk fp : Int32} {P Wd : Nat → Nat} {n m : Nat} {pe : Nat → Nat} {K : Nat → CdX} {R : RpX} {se co : Nat → Int32} {a : Int32} (r : RstI h z x B Y PA pm IM fl T l fk fp) (sa : StAt h (x + 1) P Wd n pe K R se co) (sr : StR U P Wd n pe K R se co) (sc : ScrI h x) (rep : RepOK U m) (hD : DigW U n) (h0 : a = nI 0 → Q (some (.int (U 19))) (h, z)) (h1 : a = nI 1 → Q (some (.int (U 1304))) (h, z)) (h2 : a = nI 2 → Q (some (.int (if U 1060 = 0 then (-1000009) else U 1103))) (h, z)) (h3 : a = nI 3 → Q (some (.int (refR U R.2.1 0 (nI 0)))) (h, z)) (h4 : a = nI 4 → ∀ h2 : Nat → Option am_C, ScrI h2 x → (∀ a, (a < x + 101 ∨ x + 106 ≤ a) → h2 a = h a) → Q (some (.int (ordR P Wd U n 0 (-1)))) (h2, z)) (h5 : a = nI 5 → Q (some (.int (nI l))) (h, z)) (h6 : a = nI 6 → Q (some (.int (nI pm))) (h, z)) (hB : (∀ j, j < 7 → ¬ a = nI j) → Q (some (.int (-1000001))) (h, z)) : Rn sA mX11_told 0 [some (.ref x), some (.int a)] [] (h, z) Q := by
  have hx := r.2.1
  have sa1 := sa.1
  have hn := sr.2.2.1.2.1
  have hR1 := sr.2.2.2.1.2.1
  have hR2 := sr.2.2.2.1.2.2.2.1
  have tx := r.2.2.2.1
  have tx9 := tx
  obtain ⟨t2, t3, wv, tx1, -⟩ := tx9
  obtain ⟨re0, re1, re2, re3, re4⟩ := rep.rp sr.2.2.2.1
  have h94 : ∃ fs, h (x + 94) = some (.inr (2, fs)) := by obtain ⟨_, _, ⟨_, _, q, _⟩, _⟩ := r; exact ⟨_, q.1⟩
  obtain ⟨fs94, h94⟩ := h94
  have rp1 := sa.2.2.2.1.1
  refine R_iload_n (pc := 0) dX11_told_0 rfl ?_
  rcases sw_case a (lo := 0) (hi := 6) (by decide) (by decide) with hsw | ⟨j, ja, jb, rfl⟩
  · refine R_tswO (pc := 1) (t := 136) dX11_told_1 hsw (by decide) ?_
    refine R_ldc (pc := 136) (x := (-1000001)) dX11_told_136 rfl ?_
    refine R_iret (pc := 138) dX11_told_138 rfl ?_
    first
      | exact hB (fun j hj e => by rw [e, nI_toInt (by omega)] at hsw; omega)
      | (rw [← sr.2.2.1.1]; exact h0 rfl)
      | (rw [← sr.2.2.2.1.1]; exact h1 rfl)
      | (have q := h2 rfl
         rw [if_pos (re0 e).1] at q
         exact q)
      | (have q := h2 rfl
         obtain ⟨q1, q2, q3⟩ := re1 k hk
         rw [if_neg q1, rep.1] at q
         rw [q2]
         exact q)
      | (rw [rfC_R (fun k hk => sr.2.2.2.1.2.2.2.2.2.2.2 k hk) R.2.1 0 (nI 0) (by omega)]; exact h3 rfl)
      | (rw [h111] at h4'; exact h4')
      | (rw [(ordG_01 _ _ _).elim (fun q => absurd q h111) id] at h4'; exact h4')
      | exact h5 rfl
      | exact h6 rfl
  · rcases (by omega : j = 0 ∨ j = 1 ∨ j = 2 ∨ j = 3 ∨ j = 4 ∨ j = 5 ∨ j = 6) with rfl | rfl | rfl | rfl | rfl | rfl | rfl
    · refine R_tswI (pc := 1) (off := 43) (t := 44) dX11_told_1 (by decide) (by decide) (by decide) ?_
      refine R_aload_n (pc := 44) dX11_told_44 rfl ?_
      refine R_getf (pc := 45) dX11_told_45 rfl (by repeat (first | assumption | exact up_s | refine up_n (by omega) ?_)) rfl ?_
      refine R_getf (pc := 48) dX11_told_48 rfl (by repeat (first | assumption | exact up_s | refine up_n (by omega) ?_)) rfl ?_
      refine R_callV (pc := 51) dX11_told_51 rfl sa.2.2.1.1 rfl rfl ?_
      refine c1_size sa.2.2.1 ?_
      refine R_iret (pc := 54) dX11_told_54 rfl ?_
      first
        | exact hB (fun j hj e => by rw [e, nI_toInt (by omega)] at hsw; omega)
        | (rw [← sr.2.2.1.1]; exact h0 rfl)
        | (rw [← sr.2.2.2.1.1]; exact h1 rfl)
        | (have q := h2 rfl
           rw [if_pos (re0 e).1] at q
           exact q)
        | (have q := h2 rfl
           obtain ⟨q1, q2, q3⟩ := re1 k hk
           rw [if_neg q1, rep.1] at q
           rw [q2]
           exact q)
        | (rw [rfC_R (fun k hk => sr.2.2.2.1.2.2.2.2.2.2.2 k hk) R.2.1 0 (nI 0) (by omega)]; exact h3 rfl)
        | (rw [h111] at h4'; exact h4')
        | (rw [(ordG_01 _ _ _).elim (fun q => absurd q h111) id] at h4'; exact h4')
        | exact h5 rfl
        | exact h6 rfl
    · refine R_tswI (pc := 1) (off := 54) (t := 55) dX11_told_1 (by decide) (by decide) (by decide) ?_
      refine R_aload_n (pc := 55) dX11_told_55 rfl ?_
      refine R_getf (pc := 56) dX11_told_56 rfl (by repeat (first | assumption | exact up_s | refine up_n (by omega) ?_)) rfl ?_
      refine R_getf (pc := 59) dX11_told_59 rfl (by repeat (first | assumption | exact up_s | refine up_n (by omega) ?_)) rfl ?_
      refine R_getf (pc := 62) dX11_told_62 rfl (by repeat (first | assumption | exact up_s | refine up_n (by omega) ?_)) rfl ?_
      refine R_iret (pc := 65) dX11_told_65 rfl ?_
      first
        | exact hB (fun j hj e => by rw [e, nI_toInt (by omega)] at hsw; omega)
        | (rw [← sr.2.2.1.1]; exact h0 rfl)
        | (rw [← sr.2.2.2.1.1]; exact h1 rfl)
        | (have q := h2 rfl
           rw [if_pos (re0 e).1] at q
           exact q)
        | (have q := h2 rfl
           obtain ⟨q1, q2, q3⟩ := re1 k hk
           rw [if_neg q1, rep.1] at q
           rw [q2]
           exact q)
        | (rw [rfC_R (fun k hk => sr.2.2.2.1.2.2.2.2.2.2.2 k hk) R.2.1 0 (nI 0) (by omega)]; exact h3 rfl)
        | (rw [h111] at h4'; exact h4')
        | (rw [(ordG_01 _ _ _).elim (fun q => absurd q h111) id] at h4'; exact h4')
        | exact h5 rfl
        | exact h6 rfl
    · refine R_tswI (pc := 1) (off := 65) (t := 66) dX11_told_1 (by decide) (by decide) (by decide) ?_
      refine R_aload_n (pc := 66) dX11_told_66 rfl ?_
      refine R_getf (pc := 67) dX11_told_67 rfl (by repeat (first | assumption | exact up_s | refine up_n (by omega) ?_)) rfl ?_
      refine R_getf (pc := 70) dX11_told_70 rfl (by repeat (first | assumption | exact up_s | refine up_n (by omega) ?_)) rfl ?_
      refine R_callV (pc := 73) dX11_told_73 rfl rp1 rfl rfl ?_
      refine c5_isEmpty sa.2.2.2.1 hR1 (fun e => ?_) (fun e => ?_)
      · refine R_if_eq (pc := 76) (t := 84) dX11_told_76 (by decide) (fun hz9 => absurd hz9 (by decide)) (fun _ => ?_)
        refine R_ldc (pc := 79) (x := (-1000009)) dX11_told_79 rfl ?_
        refine R_goto (pc := 81) (t := 95) dX11_told_81 (by decide) ?_
        refine R_iret (pc := 95) dX11_told_95 rfl ?_
        first
          | exact hB (fun j hj e => by rw [e, nI_toInt (by omega)] at hsw; omega)
          | (rw [← sr.2.2.1.1]; exact h0 rfl)
          | (rw [← sr.2.2.2.1.1]; exact h1 rfl)
          | (have q := h2 rfl
             rw [if_pos (re0 e).1] at q
             exact q)
          | (have q := h2 rfl
             obtain ⟨q1, q2, q3⟩ := re1 k hk
             rw [if_neg q1, rep.1] at q
             rw [q2]
             exact q)
          | (rw [rfC_R (fun k hk => sr.2.2.2.1.2.2.2.2.2.2.2 k hk) R.2.1 0 (nI 0) (by omega)]; exact h3 rfl)
          | (rw [h111] at h4'; exact h4')
          | (rw [(ordG_01 _ _ _).elim (fun q => absurd q h111) id] at h4'; exact h4')
          | exact h5 rfl
          | exact h6 rfl
      · obtain ⟨k, hk⟩ : ∃ k, R.1 = k + 1 := ⟨R.1 - 1, by omega⟩
        refine R_if_eq (pc := 76) (t := 84) dX11_told_76 (by decide) (fun _ => ?_) (fun hz9 => absurd hz9 (by decide))
        refine R_aload_n (pc := 84) dX11_told_84 rfl ?_
        refine R_getf (pc := 85) dX11_told_85 rfl (by repeat (first | assumption | exact up_s | refine up_n (by omega) ?_)) rfl ?_
        refine R_getf (pc := 88) dX11_told_88 rfl (by repeat (first | assumption | exact up_s | refine up_n (by omega) ?_)) rfl ?_
        refine R_iconst (pc := 91) (x := nI 4) dX11_told_91 rfl ?_
        refine R_callV (pc := 92) dX11_told_92 rfl rp1 rfl rfl ?_
        refine c5_lastLine sa.2.2.2.1 hR1 hk (by omega) ?_
        refine R_iret (pc := 95) dX11_told_95 rfl ?_
        first
          | exact hB (fun j hj e => by rw [e, nI_toInt (by omega)] at hsw; omega)
          | (rw [← sr.2.2.1.1]; exact h0 rfl)
          | (rw [← sr.2.2.2.1.1]; exact h1 rfl)
          | (have q := h2 rfl
             rw [if_pos (re0 e).1] at q
             exact q)
          | (have q := h2 rfl
             obtain ⟨q1, q2, q3⟩ := re1 k hk
             rw [if_neg q1, rep.1] at q
             rw [q2]
             exact q)
          | (rw [rfC_R (fun k hk => sr.2.2.2.1.2.2.2.2.2.2.2 k hk) R.2.1 0 (nI 0) (by omega)]; exact h3 rfl)
          | (rw [h111] at h4'; exact h4')
          | (rw [(ordG_01 _ _ _).elim (fun q => absurd q h111) id] at h4'; exact h4')
          | exact h5 rfl
          | exact h6 rfl
    · refine R_tswI (pc := 1) (off := 95) (t := 96) dX11_told_1 (by decide) (by decide) (by decide) ?_
      refine R_aload_n (pc := 96) dX11_told_96 rfl ?_
      refine R_getf (pc := 97) dX11_told_97 rfl (by repeat (first | assumption | exact up_s | refine up_n (by omega) ?_)) rfl ?_
      refine R_getf (pc := 100) dX11_told_100 rfl (by repeat (first | assumption | exact up_s | refine up_n (by omega) ?_)) rfl ?_
      refine R_callV (pc := 103) dX11_told_103 rfl rp1 rfl rfl ?_
      refine c5_refusedCards sa.2.2.2.1 hR2 ?_
      refine R_iret (pc := 106) dX11_told_106 rfl ?_
      first
        | exact hB (fun j hj e => by rw [e, nI_toInt (by omega)] at hsw; omega)
        | (rw [← sr.2.2.1.1]; exact h0 rfl)
        | (rw [← sr.2.2.2.1.1]; exact h1 rfl)
        | (have q := h2 rfl
           rw [if_pos (re0 e).1] at q
           exact q)
        | (have q := h2 rfl
           obtain ⟨q1, q2, q3⟩ := re1 k hk
           rw [if_neg q1, rep.1] at q
           rw [q2]
           exact q)
        | (rw [rfC_R (fun k hk => sr.2.2.2.1.2.2.2.2.2.2.2 k hk) R.2.1 0 (nI 0) (by omega)]; exact h3 rfl)
        | (rw [h111] at h4'; exact h4')
        | (rw [(ordG_01 _ _ _).elim (fun q => absurd q h111) id] at h4'; exact h4')
        | exact h5 rfl
        | exact h6 rfl
    · refine R_tswI (pc := 1) (off := 106) (t := 107) dX11_told_1 (by decide) (by decide) (by decide) ?_
      refine R_aload_n (pc := 107) dX11_told_107 rfl ?_
      refine R_callV (pc := 108) dX11_told_108 rfl hx rfl rfl ?_
      obtain ⟨m0, G0, g20, g30, f40, so⟩ := sc.1
      refine c11_inOrder hx sa sr hD so (fun g2 G2 g2' g3 f4 k1 k2 => ?_)
      have eo : ordR P Wd U n 0 (-1) = ordG P Wd (fun k j => U (20 + 26 * k + j)) n 0 (-1) := ordR_G (N := n) sr.1 (fun _ _ _ _ => rfl) n 0 (-1) (by omega)
      have h4' := h4 rfl g2 (sc.so k1 (fun y y1 y2 => k2 y (by omega))) k2
      rw [eo] at h4'
      refine R_if_eq (pc := 111) (t := 118) dX11_told_111 (by decide) (fun h111 => ?_) (fun h111 => ?_)
      · refine R_iconst (pc := 118) (x := nI 0) dX11_told_118 rfl ?_
        refine R_iret (pc := 119) dX11_told_119 rfl ?_
        first
          | exact hB (fun j hj e => by rw [e, nI_toInt (by omega)] at hsw; omega)
          | (rw [← sr.2.2.1.1]; exact h0 rfl)
          | (rw [← sr.2.2.2.1.1]; exact h1 rfl)
          | (have q := h2 rfl
             rw [if_pos (re0 e).1] at q
             exact q)
          | (have q := h2 rfl
             obtain ⟨q1, q2, q3⟩ := re1 k hk
             rw [if_neg q1, rep.1] at q
             rw [q2]
             exact q)
          | (rw [rfC_R (fun k hk => sr.2.2.2.1.2.2.2.2.2.2.2 k hk) R.2.1 0 (nI 0) (by omega)]; exact h3 rfl)
          | (rw [h111] at h4'; exact h4')
          | (rw [(ordG_01 _ _ _).elim (fun q => absurd q h111) id] at h4'; exact h4')
          | exact h5 rfl
          | exact h6 rfl
      · refine R_iconst (pc := 114) (x := nI 1) dX11_told_114 rfl ?_
        refine R_goto (pc := 115) (t := 119) dX11_told_115 (by decide) ?_
        refine R_iret (pc := 119) dX11_told_119 rfl ?_
        first
          | exact hB (fun j hj e => by rw [e, nI_toInt (by omega)] at hsw; omega)
          | (rw [← sr.2.2.1.1]; exact h0 rfl)
          | (rw [← sr.2.2.2.1.1]; exact h1 rfl)
          | (have q := h2 rfl
             rw [if_pos (re0 e).1] at q
             exact q)
          | (have q := h2 rfl
             obtain ⟨q1, q2, q3⟩ := re1 k hk
             rw [if_neg q1, rep.1] at q
             rw [q2]
             exact q)
          | (rw [rfC_R (fun k hk => sr.2.2.2.1.2.2.2.2.2.2.2 k hk) R.2.1 0 (nI 0) (by omega)]; exact h3 rfl)
          | (rw [h111] at h4'; exact h4')
          | (rw [(ordG_01 _ _ _).elim (fun q => absurd q h111) id] at h4'; exact h4')
          | exact h5 rfl
          | exact h6 rfl
    · refine R_tswI (pc := 1) (off := 119) (t := 120) dX11_told_1 (by decide) (by decide) (by decide) ?_
      refine R_aload_n (pc := 120) dX11_told_120 rfl ?_
      refine R_getf (pc := 121) dX11_told_121 rfl (by repeat (first | assumption | exact up_s | refine up_n (by omega) ?_)) rfl ?_
      refine R_callV (pc := 124) dX11_told_124 rfl tx1 rfl rfl ?_
      refine c9_size tx ?_
      refine R_iret (pc := 127) dX11_told_127 rfl ?_
      first
        | exact hB (fun j hj e => by rw [e, nI_toInt (by omega)] at hsw; omega)
        | (rw [← sr.2.2.1.1]; exact h0 rfl)
        | (rw [← sr.2.2.2.1.1]; exact h1 rfl)
        | (have q := h2 rfl
           rw [if_pos (re0 e).1] at q
           exact q)
        | (have q := h2 rfl
           obtain ⟨q1, q2, q3⟩ := re1 k hk
           rw [if_neg q1, rep.1] at q
           rw [q2]
           exact q)
        | (rw [rfC_R (fun k hk => sr.2.2.2.1.2.2.2.2.2.2.2 k hk) R.2.1 0 (nI 0) (by omega)]; exact h3 rfl)
        | (rw [h111] at h4'; exact h4')
        | (rw [(ordG_01 _ _ _).elim (fun q => absurd q h111) id] at h4'; exact h4')
        | exact h5 rfl
        | exact h6 rfl
    · refine R_tswI (pc := 1) (off := 127) (t := 128) dX11_told_1 (by decide) (by decide) (by decide) ?_
      refine R_aload_n (pc := 128) dX11_told_128 rfl ?_
      refine R_getf (pc := 129) dX11_told_129 rfl (by repeat (first | assumption | exact up_s | refine up_n (by omega) ?_)) rfl ?_
      refine R_callV (pc := 132) dX11_told_132 rfl h94 rfl rfl ?_
      refine c2_size (U := U) r ?_
      refine R_iret (pc := 135) dX11_told_135 rfl ?_
      first
        | exact hB (fun j hj e => by rw [e, nI_toInt (by omega)] at hsw; omega)
        | (rw [← sr.2.2.1.1]; exact h0 rfl)
        | (rw [← sr.2.2.2.1.1]; exact h1 rfl)
        | (have q := h2 rfl
           rw [if_pos (re0 e).1] at q
           exact q)
        | (have q := h2 rfl
           obtain ⟨q1, q2, q3⟩ := re1 k hk
           rw [if_neg q1, rep.1] at q
           rw [q2]
           exact q)
        | (rw [rfC_R (fun k hk => sr.2.2.2.1.2.2.2.2.2.2.2 k hk) R.2.1 0 (nI 0) (by omega)]; exact h3 rfl)
        | (rw [h111] at h4'; exact h4')
        | (rw [(ordG_01 _ _ _).elim (fun q => absurd q h111) id] at h4'; exact h4')
        | exact h5 rfl
        | exact h6 rfl
theorem c11_card {x B Y pm fl l : Nat} {PA IM T U : Nat → Int32} {fk fp : Int32} {P Wd : Nat → Nat} {n m : Nat} {pe : Nat → Nat} {K : Nat → CdX} {R : RpX} {se co : Nat → Int32} {a b : Int32} {gs : Nat → Int32} (r : RstI h z x B Y PA pm IM fl T l fk fp) (sa : StAt h (x + 1) P Wd n pe K R se co) (sr : StR U P Wd n pe K R se co) (sc : ScrI h x) (rep : RepOK U m) (hT : ∀ c, c < n → ∃ t, t < 24 ∧ U (20 + 26 * c + 25) = nI t) (hst : h sA = some (.inl (9, 4, .inl gs))) (hsA : sA < x) (hB : (∀ c k, ¬ (c < n ∧ k < 10 ∧ a = nI c ∧ b = nI k)) → Q (some (.int (-1000001))) (h, z)) (hV : ∀ c f, c < n → f < 6 → a = nI c → b = nI f → Q (some (.int (valF P Wd (colW U c) f))) (h, z)) (h6 : ∀ c, c < n → a = nI c → b = nI 6 → Q (some (.int (dueR P Wd (colW U c)))) (h, z)) (h7 : ∀ c, c < n → a = nI c → b = nI 7 → Q (some (.int (U (20 + 26 * c + 24)))) (h, z)) (h8 : ∀ c, c < n → a = nI c → b = nI 8 → Q (some (.int (U (20 + 26 * c + 25)))) (h, z)) (h9 : ∀ c, c < n → a = nI c → b = nI 9 → ∀ h2 : Nat → Option am_C, ScrI h2 x → (∀ a, (a < x + 155 ∨ x + 158 ≤ a) → h2 a = h a) → Q (some (.int (rsnR P Wd (U (20 + 26 * c + 24)) (U 13) (U 14) (rdF U c)))) (h2, z)) : Rn sA mX11_card 0 [some (.ref x), some (.int a), some (.int b), none] [] (h, z) Q := by
  have hx := r.2.1
  have sa1 := sa.1
  have hn := sr.2.2.1.2.1
  have hR1 := sr.2.2.2.1.2.1
  have hR2 := sr.2.2.2.1.2.2.2.1
  have tx := r.2.2.2.1
  have tx9 := tx
  obtain ⟨t2, t3, wv, tx1, -⟩ := tx9
  obtain ⟨re0, re1, re2, re3, re4⟩ := rep.rp sr.2.2.2.1
  have h94 : ∃ fs, h (x + 94) = some (.inr (2, fs)) := by obtain ⟨_, _, ⟨_, _, q, _⟩, _⟩ := r; exact ⟨_, q.1⟩
  obtain ⟨fs94, h94⟩ := h94
  have rp1 := sa.2.2.2.1.1
  have hPW : ∀ f, f < 6 → P f + Wd f ≤ 24 := fun f hf => (sr.1 f hf).2.2
  refine R_aload_n (pc := 0) dX11_card_0 rfl ?_
  refine R_getf (pc := 1) dX11_card_1 rfl (by repeat (first | assumption | exact up_s | refine up_n (by omega) ?_)) rfl ?_
  refine R_getf (pc := 4) dX11_card_4 rfl (by repeat (first | assumption | exact up_s | refine up_n (by omega) ?_)) rfl ?_
  refine R_iload_n (pc := 7) dX11_card_7 rfl ?_
  refine R_callV (pc := 8) dX11_card_8 rfl sa.2.2.1.1 rfl rfl ?_
  refine c1_has sa.2.2.1 (by omega) (fun c hc e => ?_) (fun e => ?_)
  · subst e
    refine R_if_ne (pc := 11) (t := 17) dX11_card_11 (by decide) (fun _ => ?_) (fun hz9 => absurd hz9 (by decide))
    refine R_aload_n (pc := 17) dX11_card_17 rfl ?_
    refine R_getf (pc := 18) dX11_card_18 rfl (by repeat (first | assumption | exact up_s | refine up_n (by omega) ?_)) rfl ?_
    refine R_getf (pc := 21) dX11_card_21 rfl (by repeat (first | assumption | exact up_s | refine up_n (by omega) ?_)) rfl ?_
    refine R_iload_n (pc := 24) dX11_card_24 rfl ?_
    refine R_callV (pc := 25) dX11_card_25 rfl sa.2.2.1.1 rfl rfl ?_
    refine c1_at sa.2.2.1 (by omega) ?_
    have hpc := sa.2.2.1.2.2.2 c (by omega)
    have cd := sa.2.2.1.2.2.1 (pe c) hpc
    have cd1 := cd.1
    obtain ⟨k1, k2, k3⟩ := sr.2.2.1.2.2.2 c hc
    have ly1 := sa.2.1.choose_spec.choose_spec.1
    refine R_astore_n (pc := 28) dX11_card_28 (Nat.le_of_ble_eq_true rfl) rfl ?_
    refine R_iload_n (pc := 29) dX11_card_29 rfl ?_
    refine R_callS (pc := 30) dX11_card_30 rfl (Or.inl rfl) rfl rfl ?_
    refine c_isField (fun f hf e => ?_) (fun e => ?_)
    · subst e
      refine R_if_eq (pc := 33) (t := 49) dX11_card_33 (by decide) (fun hz9 => absurd hz9 (by decide)) (fun _ => ?_)
      refine R_aload_n (pc := 36) dX11_card_36 rfl ?_
      refine R_getf (pc := 37) dX11_card_37 rfl (by repeat (first | assumption | exact up_s | refine up_n (by omega) ?_)) rfl ?_
      refine R_getf (pc := 40) dX11_card_40 rfl (by repeat (first | assumption | exact up_s | refine up_n (by omega) ?_)) rfl ?_
      refine R_aload_n (pc := 43) dX11_card_43 rfl ?_
      refine R_iload_n (pc := 44) dX11_card_44 rfl ?_
      refine R_callV (pc := 45) dX11_card_45 rfl ly1 rfl rfl ?_
      refine c3_valueOn sa.2.1 cd hf hPW ?_
      rw [valF_congr sr.1 k1 hf]
      refine R_iret (pc := 48) dX11_card_48 rfl ?_
      first
        | exact hB (fun c k q => e c q.1 q.2.2.1)
        | exact hV c f hc hf rfl rfl
        | exact hB (fun c k q => by
            obtain ⟨q1, q2, q3, q4⟩ := q
            by_cases k6 : k < 6
            · exact e k k6 q4
            · rw [q4, nI_toInt (by omega)] at hsw
              omega)
        | exact h6 c hc rfl rfl
        | (rw [k2]; exact h7 c hc rfl rfl)
        | (rw [k3]; exact h8 c hc rfl rfl)
        | exact h9 c hc rfl rfl g2 (sc.rs q1 q2 (fun y y1 y2 => q4 y (by omega))) q4
    · refine R_if_eq (pc := 33) (t := 49) dX11_card_33 (by decide) (fun _ => ?_) (fun hz9 => absurd hz9 (by decide))
      refine R_iload_n (pc := 49) dX11_card_49 rfl ?_
      rcases sw_case b (lo := 6) (hi := 9) (by decide) (by decide) with hsw | ⟨j, ja, jb, rfl⟩
      · refine R_tswO (pc := 50) (t := 108) dX11_card_50 hsw (by decide) ?_
        refine R_ldc (pc := 108) (x := (-1000001)) dX11_card_108 rfl ?_
        refine R_iret (pc := 110) dX11_card_110 rfl ?_
        first
          | exact hB (fun c k q => e c q.1 q.2.2.1)
          | exact hV c f hc hf rfl rfl
          | exact hB (fun c k q => by
              obtain ⟨q1, q2, q3, q4⟩ := q
              by_cases k6 : k < 6
              · exact e k k6 q4
              · rw [q4, nI_toInt (by omega)] at hsw
                omega)
          | exact h6 c hc rfl rfl
          | (rw [k2]; exact h7 c hc rfl rfl)
          | (rw [k3]; exact h8 c hc rfl rfl)
          | exact h9 c hc rfl rfl g2 (sc.rs q1 q2 (fun y y1 y2 => q4 y (by omega))) q4
      · rcases (by omega : j = 6 ∨ j = 7 ∨ j = 8 ∨ j = 9) with rfl | rfl | rfl | rfl
        · refine R_tswI (pc := 50) (off := 30) (t := 80) dX11_card_50 (by decide) (by decide) (by decide) ?_
          refine R_aload_n (pc := 80) dX11_card_80 rfl ?_
          refine R_getf (pc := 81) dX11_card_81 rfl (by repeat (first | assumption | exact up_s | refine up_n (by omega) ?_)) rfl ?_
          refine R_getf (pc := 84) dX11_card_84 rfl (by repeat (first | assumption | exact up_s | refine up_n (by omega) ?_)) rfl ?_
          refine R_aload_n (pc := 87) dX11_card_87 rfl ?_
          refine R_callV (pc := 88) dX11_card_88 rfl ly1 rfl rfl ?_
          refine c3_dueOn sa.2.1 cd hPW ?_
          rw [dueR_congr sr.1 k1]
          refine R_iret (pc := 91) dX11_card_91 rfl ?_
          first
            | exact hB (fun c k q => e c q.1 q.2.2.1)
            | exact hV c f hc hf rfl rfl
            | exact hB (fun c k q => by
                obtain ⟨q1, q2, q3, q4⟩ := q
                by_cases k6 : k < 6
                · exact e k k6 q4
                · rw [q4, nI_toInt (by omega)] at hsw
                  omega)
            | exact h6 c hc rfl rfl
            | (rw [k2]; exact h7 c hc rfl rfl)
            | (rw [k3]; exact h8 c hc rfl rfl)
            | exact h9 c hc rfl rfl g2 (sc.rs q1 q2 (fun y y1 y2 => q4 y (by omega))) q4
        · refine R_tswI (pc := 50) (off := 42) (t := 92) dX11_card_50 (by decide) (by decide) (by decide) ?_
          refine R_aload_n (pc := 92) dX11_card_92 rfl ?_
          refine R_getf (pc := 93) dX11_card_93 rfl (by repeat (first | assumption | exact up_s | refine up_n (by omega) ?_)) rfl ?_
          refine R_iret (pc := 96) dX11_card_96 rfl ?_
          first
            | exact hB (fun c k q => e c q.1 q.2.2.1)
            | exact hV c f hc hf rfl rfl
            | exact hB (fun c k q => by
                obtain ⟨q1, q2, q3, q4⟩ := q
                by_cases k6 : k < 6
                · exact e k k6 q4
                · rw [q4, nI_toInt (by omega)] at hsw
                  omega)
            | exact h6 c hc rfl rfl
            | (rw [k2]; exact h7 c hc rfl rfl)
            | (rw [k3]; exact h8 c hc rfl rfl)
            | exact h9 c hc rfl rfl g2 (sc.rs q1 q2 (fun y y1 y2 => q4 y (by omega))) q4
        · refine R_tswI (pc := 50) (off := 47) (t := 97) dX11_card_50 (by decide) (by decide) (by decide) ?_
          refine R_aload_n (pc := 97) dX11_card_97 rfl ?_
          refine R_getf (pc := 98) dX11_card_98 rfl (by repeat (first | assumption | exact up_s | refine up_n (by omega) ?_)) rfl ?_
          refine R_iret (pc := 101) dX11_card_101 rfl ?_
          first
            | exact hB (fun c k q => e c q.1 q.2.2.1)
            | exact hV c f hc hf rfl rfl
            | exact hB (fun c k q => by
                obtain ⟨q1, q2, q3, q4⟩ := q
                by_cases k6 : k < 6
                · exact e k k6 q4
                · rw [q4, nI_toInt (by omega)] at hsw
                  omega)
            | exact h6 c hc rfl rfl
            | (rw [k2]; exact h7 c hc rfl rfl)
            | (rw [k3]; exact h8 c hc rfl rfl)
            | exact h9 c hc rfl rfl g2 (sc.rs q1 q2 (fun y y1 y2 => q4 y (by omega))) q4
        · refine R_tswI (pc := 50) (off := 52) (t := 102) dX11_card_50 (by decide) (by decide) (by decide) ?_
          refine R_aload_n (pc := 102) dX11_card_102 rfl ?_
          refine R_aload_n (pc := 103) dX11_card_103 rfl ?_
          refine R_callV (pc := 104) dX11_card_104 rfl hx rfl rfl ?_
          obtain ⟨-, -, -, ⟨C0, rd⟩, ⟨T0, sl⟩⟩ := id sc
          obtain ⟨t, ht, ht2⟩ := hT c hc
          refine c11_fault2 (g := rdF U c) hx sa sr.1 sr.2.2.2.2.1 hst hsA cd (by omega) (by omega) ht (k3.trans ht2) rd sl (rdC_F k1 k2 k3) (fun g2 C2 T2 q1 q2 q3 q4 => ?_)
          rw [k2]
          refine R_iret (pc := 107) dX11_card_107 rfl ?_
          first
            | exact hB (fun c k q => e c q.1 q.2.2.1)
            | exact hV c f hc hf rfl rfl
            | exact hB (fun c k q => by
                obtain ⟨q1, q2, q3, q4⟩ := q
                by_cases k6 : k < 6
                · exact e k k6 q4
                · rw [q4, nI_toInt (by omega)] at hsw
                  omega)
            | exact h6 c hc rfl rfl
            | (rw [k2]; exact h7 c hc rfl rfl)
            | (rw [k3]; exact h8 c hc rfl rfl)
            | exact h9 c hc rfl rfl g2 (sc.rs q1 q2 (fun y y1 y2 => q4 y (by omega))) q4
  · refine R_if_ne (pc := 11) (t := 17) dX11_card_11 (by decide) (fun hz9 => absurd hz9 (by decide)) (fun _ => ?_)
    refine R_ldc (pc := 14) (x := (-1000001)) dX11_card_14 rfl ?_
    refine R_iret (pc := 16) dX11_card_16 rfl ?_
    first
      | exact hB (fun c k q => e c q.1 q.2.2.1)
      | exact hV c f hc hf rfl rfl
      | exact hB (fun c k q => by
          obtain ⟨q1, q2, q3, q4⟩ := q
          by_cases k6 : k < 6
          · exact e k k6 q4
          · rw [q4, nI_toInt (by omega)] at hsw
            omega)
      | exact h6 c hc rfl rfl
      | (rw [k2]; exact h7 c hc rfl rfl)
      | (rw [k3]; exact h8 c hc rfl rfl)
      | exact h9 c hc rfl rfl g2 (sc.rs q1 q2 (fun y y1 y2 => q4 y (by omega))) q4
theorem c11_total {x B Y pm fl l : Nat} {PA IM T U : Nat → Int32} {fk fp : Int32} {P Wd : Nat → Nat} {n m : Nat} {pe : Nat → Nat} {K : Nat → CdX} {R : RpX} {se co : Nat → Int32} {v k : Nat} (r : RstI h z x B Y PA pm IM fl T l fk fp) (sa : StAt h (x + 1) P Wd n pe K R se co) (sr : StR U P Wd n pe K R se co) (sc : ScrI h x) (rep : RepOK U m) (hk : R.1 = k + 1) (hv : v < 3) (hQ : Q (some (.int (difR U v m 0 (nI 0)))) (h, z)) : Rn sA mX11_acceptedTotal 0 [some (.ref x), some (.int (nI v))] [] (h, z) Q := by
  have hx := r.2.1
  have sa1 := sa.1
  have hn := sr.2.2.1.2.1
  have hR1 := sr.2.2.2.1.2.1
  have hR2 := sr.2.2.2.1.2.2.2.1
  have tx := r.2.2.2.1
  have tx9 := tx
  obtain ⟨t2, t3, wv, tx1, -⟩ := tx9
  obtain ⟨re0, re1, re2, re3, re4⟩ := rep.rp sr.2.2.2.1
  have h94 : ∃ fs, h (x + 94) = some (.inr (2, fs)) := by obtain ⟨_, _, ⟨_, _, q, _⟩, _⟩ := r; exact ⟨_, q.1⟩
  obtain ⟨fs94, h94⟩ := h94
  have rp1 := sa.2.2.2.1.1
  refine R_iload_n (pc := 0) dX11_acceptedTotal_0 rfl ?_
  have eT := difR_T (U := U) (x := v) m 0
  rw [Nat.zero_add] at eT
  rw [show difR U v m 0 (nI 0) = _ from eT] at hQ
  obtain ⟨q1, q2, q3⟩ := re1 k hk
  have cc : v = 0 ∨ v = 1 ∨ v = 2 := by omega
  rcases cc with rfl | rfl | rfl
  · refine R_lsw (pc := 1) (off := 27) (t := 28) dX11_acceptedTotal_1 (by decide) (by decide) (by decide) ?_
    refine R_aload_n (pc := 28) dX11_acceptedTotal_28 rfl ?_
    refine R_getf (pc := 29) dX11_acceptedTotal_29 rfl (by repeat (first | assumption | exact up_s | refine up_n (by omega) ?_)) rfl ?_
    refine R_getf (pc := 32) dX11_acceptedTotal_32 rfl (by repeat (first | assumption | exact up_s | refine up_n (by omega) ?_)) rfl ?_
    refine R_iconst (pc := 35) (x := nI 4) dX11_acceptedTotal_35 rfl ?_
    refine R_callV (pc := 36) dX11_acceptedTotal_36 rfl rp1 rfl rfl ?_
    refine c5_lastLine sa.2.2.2.1 hR1 hk (by omega) ?_
    refine R_iret (pc := 39) dX11_acceptedTotal_39 rfl ?_
    rw [q2, ← sT_one1 m]
    exact hQ
  · refine R_lsw (pc := 1) (off := 39) (t := 40) dX11_acceptedTotal_1 (by decide) (by decide) (by decide) ?_
    refine R_aload_n (pc := 40) dX11_acceptedTotal_40 rfl ?_
    refine R_getf (pc := 41) dX11_acceptedTotal_41 rfl (by repeat (first | assumption | exact up_s | refine up_n (by omega) ?_)) rfl ?_
    refine R_getf (pc := 44) dX11_acceptedTotal_44 rfl (by repeat (first | assumption | exact up_s | refine up_n (by omega) ?_)) rfl ?_
    refine R_iconst (pc := 47) (x := nI 5) dX11_acceptedTotal_47 rfl ?_
    refine R_callV (pc := 48) dX11_acceptedTotal_48 rfl rp1 rfl rfl ?_
    refine c5_lastLine sa.2.2.2.1 hR1 hk (by omega) ?_
    refine R_iret (pc := 51) dX11_acceptedTotal_51 rfl ?_
    rw [q3]
    exact hQ
  · refine R_lsw (pc := 1) (off := 51) (t := 52) dX11_acceptedTotal_1 (by decide) (by decide) (by decide) ?_
    refine R_aload_n (pc := 52) dX11_acceptedTotal_52 rfl ?_
    refine R_getf (pc := 53) dX11_acceptedTotal_53 rfl (by repeat (first | assumption | exact up_s | refine up_n (by omega) ?_)) rfl ?_
    refine R_getf (pc := 56) dX11_acceptedTotal_56 rfl (by repeat (first | assumption | exact up_s | refine up_n (by omega) ?_)) rfl ?_
    refine R_callV (pc := 59) dX11_acceptedTotal_59 rfl rp1 rfl rfl ?_
    refine c5_sumOfWorkers sa.2.2.2.1 hR1 ?_
    refine R_iret (pc := 62) dX11_acceptedTotal_62 rfl ?_
    have e := swC_T (g := fun k => U (1104 + 5 * k + 2)) re4 R.1 0 (by omega)
    rw [re2] at e
    rw [show swC R R.1 0 (nI 0) = _ from e]
    exact hQ
theorem c11_differs {x B Y pm fl l : Nat} {PA IM T U : Nat → Int32} {fk fp : Int32} {P Wd : Nat → Nat} {n m : Nat} {pe : Nat → Nat} {K : Nat → CdX} {R : RpX} {se co : Nat → Int32} {a : Int32} (r : RstI h z x B Y PA pm IM fl T l fk fp) (sa : StAt h (x + 1) P Wd n pe K R se co) (sr : StR U P Wd n pe K R se co) (sc : ScrI h x) (rep : RepOK U m) (hB : (∀ v, v < 3 → ¬ a = nI v) → Q (some (.int (-1000001))) (h, z)) (hG : ∀ v, v < 3 → a = nI v → Q (some (.int (if U (16 + v) = (-1000009) ∨ U 1060 = 0 then (-1000009) else difR U v m 0 (nI 0) - U (16 + v)))) (h, z)) : Rn sA mX11_differs 0 [some (.ref x), some (.int a)] [] (h, z) Q := by
  have hx := r.2.1
  have sa1 := sa.1
  have hn := sr.2.2.1.2.1
  have hR1 := sr.2.2.2.1.2.1
  have hR2 := sr.2.2.2.1.2.2.2.1
  have tx := r.2.2.2.1
  have tx9 := tx
  obtain ⟨t2, t3, wv, tx1, -⟩ := tx9
  obtain ⟨re0, re1, re2, re3, re4⟩ := rep.rp sr.2.2.2.1
  have h94 : ∃ fs, h (x + 94) = some (.inr (2, fs)) := by obtain ⟨_, _, ⟨_, _, q, _⟩, _⟩ := r; exact ⟨_, q.1⟩
  obtain ⟨fs94, h94⟩ := h94
  have rp1 := sa.2.2.2.1.1
  refine R_iload_n (pc := 0) dX11_differs_0 rfl ?_
  refine R_callS (pc := 1) dX11_differs_1 rfl (Or.inl rfl) rfl rfl ?_
  refine c_isControl (fun v hv e9 => ?_) (fun e9 => ?_)
  · subst e9
    refine R_if_ne (pc := 4) (t := 10) dX11_differs_4 (by decide) (fun _ => ?_) (fun hz9 => absurd hz9 (by decide))
    refine R_aload_n (pc := 10) dX11_differs_10 rfl ?_
    refine R_getf (pc := 11) dX11_differs_11 rfl (by repeat (first | assumption | exact up_s | refine up_n (by omega) ?_)) rfl ?_
    refine R_getf (pc := 14) dX11_differs_14 rfl (by repeat (first | assumption | exact up_s | refine up_n (by omega) ?_)) rfl ?_
    refine R_iload_n (pc := 17) dX11_differs_17 rfl ?_
    refine R_iald (pc := 18) dX11_differs_18 sa.2.2.2.2.2 (Or.inl rfl) rfl hv (by decide) ?_
    rw [sr.2.2.2.2.2 v hv]
    refine R_ldc (pc := 19) (x := (-1000009)) dX11_differs_19 rfl ?_
    refine R_icmp_eq (pc := 21) (t := 37) dX11_differs_21 (by decide) (fun h21 => ?_) (fun h21 => ?_)
    · refine R_ldc (pc := 37) (x := (-1000009)) dX11_differs_37 rfl ?_
      refine R_iret (pc := 39) dX11_differs_39 rfl ?_
      first
        | exact hB e9
        | (have q := hG v hv rfl
           rw [if_pos (Or.inl h21)] at q
           exact q)
        | (have q := hG v hv rfl
           rw [if_pos (Or.inr (re0 e).1)] at q
           exact q)
        | (have q := hG v hv rfl
           rw [if_neg (fun c => c.elim h21 (re1 k hk).1)] at q
           exact q)
    · refine R_aload_n (pc := 24) dX11_differs_24 rfl ?_
      refine R_getf (pc := 25) dX11_differs_25 rfl (by repeat (first | assumption | exact up_s | refine up_n (by omega) ?_)) rfl ?_
      refine R_getf (pc := 28) dX11_differs_28 rfl (by repeat (first | assumption | exact up_s | refine up_n (by omega) ?_)) rfl ?_
      refine R_callV (pc := 31) dX11_differs_31 rfl rp1 rfl rfl ?_
      refine c5_isEmpty sa.2.2.2.1 hR1 (fun e => ?_) (fun e => ?_)
      · refine R_if_eq (pc := 34) (t := 40) dX11_differs_34 (by decide) (fun hz9 => absurd hz9 (by decide)) (fun _ => ?_)
        refine R_ldc (pc := 37) (x := (-1000009)) dX11_differs_37 rfl ?_
        refine R_iret (pc := 39) dX11_differs_39 rfl ?_
        first
          | exact hB e9
          | (have q := hG v hv rfl
             rw [if_pos (Or.inl h21)] at q
             exact q)
          | (have q := hG v hv rfl
             rw [if_pos (Or.inr (re0 e).1)] at q
             exact q)
          | (have q := hG v hv rfl
             rw [if_neg (fun c => c.elim h21 (re1 k hk).1)] at q
             exact q)
      · obtain ⟨k, hk⟩ : ∃ k, R.1 = k + 1 := ⟨R.1 - 1, by omega⟩
        refine R_if_eq (pc := 34) (t := 40) dX11_differs_34 (by decide) (fun _ => ?_) (fun hz9 => absurd hz9 (by decide))
        refine R_aload_n (pc := 40) dX11_differs_40 rfl ?_
        refine R_iload_n (pc := 41) dX11_differs_41 rfl ?_
        refine R_callV (pc := 42) dX11_differs_42 rfl hx rfl rfl ?_
        refine c11_total r sa sr sc rep hk hv ?_
        refine R_aload_n (pc := 45) dX11_differs_45 rfl ?_
        refine R_getf (pc := 46) dX11_differs_46 rfl (by repeat (first | assumption | exact up_s | refine up_n (by omega) ?_)) rfl ?_
        refine R_getf (pc := 49) dX11_differs_49 rfl (by repeat (first | assumption | exact up_s | refine up_n (by omega) ?_)) rfl ?_
        refine R_iload_n (pc := 52) dX11_differs_52 rfl ?_
        refine R_iald (pc := 53) dX11_differs_53 sa.2.2.2.2.2 (Or.inl rfl) rfl hv (by decide) ?_
        rw [sr.2.2.2.2.2 v hv]
        refine R_isub (pc := 54) dX11_differs_54 ?_
        refine R_iret (pc := 55) dX11_differs_55 rfl ?_
        first
          | exact hB e9
          | (have q := hG v hv rfl
             rw [if_pos (Or.inl h21)] at q
             exact q)
          | (have q := hG v hv rfl
             rw [if_pos (Or.inr (re0 e).1)] at q
             exact q)
          | (have q := hG v hv rfl
             rw [if_neg (fun c => c.elim h21 (re1 k hk).1)] at q
             exact q)
  · refine R_if_ne (pc := 4) (t := 10) dX11_differs_4 (by decide) (fun hz9 => absurd hz9 (by decide)) (fun _ => ?_)
    refine R_ldc (pc := 7) (x := (-1000001)) dX11_differs_7 rfl ?_
    refine R_iret (pc := 9) dX11_differs_9 rfl ?_
    first
      | exact hB e9
      | (have q := hG v hv rfl
         rw [if_pos (Or.inl h21)] at q
         exact q)
      | (have q := hG v hv rfl
         rw [if_pos (Or.inr (re0 e).1)] at q
         exact q)
      | (have q := hG v hv rfl
         rw [if_neg (fun c => c.elim h21 (re1 k hk).1)] at q
         exact q)
end CF2
