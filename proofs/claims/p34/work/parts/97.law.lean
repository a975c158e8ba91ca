section LAW
variable {sA : Nat} {gs : Nat → Int32} {b L : Nat} {xs : Nat → Int32} {x Yx y Yy M1 M2 : Nat} {So Sq S : St5} {h : Nat → Option am_C} {z : Nat × Nat} {K : am_H} {Q : Option Value → am_H → Prop}
/-- the script, and two objects that don't meet -/
def W2 (sA : Nat) (gs : Nat → Int32) (b L : Nat) (xs : Nat → Int32) (x Yx y Yy : Nat) (So Sq : St5) (M1 M2 : Nat) (K : am_H) : Prop := ∃ F u1 u2 F' v1 v2, Obx sA gs x Yx K F u1 u2 So [] ∧ Obx sA gs y Yy K F' v1 v2 Sq [] ∧ (∀ a, F a → ¬ F' a) ∧ (K.1 b = some (.inl (9, L, .inl xs)) ∧ b < K.2.1) ∧ K.2.1 + u1 + v1 ≤ M1 ∧ K.2.2 + u2 + v2 ≤ M2
theorem W2.o (w : W2 sA gs b L xs x Yx y Yy So Sq M1 M2 K) : ∃ F u1 u2, Wx sA gs x Yx K F u1 u2 0 0 gNo So [] K ∧ ∀ (t1 t2 : Nat) (G : Nat → am_C → Prop) (S' : St5) (K' : am_H), Wx sA gs x Yx K F u1 u2 t1 t2 G S' [] K' → W2 sA gs b L xs x Yx y Yy S' Sq (M1 + t1) (M2 + t2) K' := by
  obtain ⟨F, u1, u2, F', v1, v2, o, q, dj, ⟨c1, c2⟩, m1, m2⟩ := w
  refine ⟨F, u1, u2, Wx.be o, fun t1 t2 G S' K' w' => ?_⟩
  obtain ⟨F1, r1, r2, o1, lk, -⟩ := w'
  refine ⟨F1, r1, r2, F', v1, v2, o1, q.by lk (fun b c hb hw => o.cst hb hw) (fun a ha hb => dj a hb ha), fun a ha hb => ?_, ⟨?_, Nat.lt_of_lt_of_le c2 lk.1.1⟩, ?_, ?_⟩
  · rcases lk.2.2.2 a ha with e | e
    · exact dj a e hb
    · have := q.no a hb; omega
  · rw [lk.2.2.1 b c2 (o.cst c1 (fun h => h rfl))]; exact c1
  · have := lk.2.1.1; omega
  · have := lk.2.1.2; omega
theorem W2.sw (w : W2 sA gs b L xs x Yx y Yy So Sq M1 M2 K) : W2 sA gs b L xs y Yy x Yx Sq So M1 M2 K := by
  obtain ⟨F, u1, u2, F', v1, v2, o, q, dj, c, m1, m2⟩ := w
  exact ⟨F', v1, v2, F, u1, u2, q, o, fun a h1 h2 => dj a h2 h1, c, by omega, by omega⟩
theorem W2.q (w : W2 sA gs b L xs x Yx y Yy So Sq M1 M2 K) : ∃ F u1 u2, Wx sA gs y Yy K F u1 u2 0 0 gNo Sq [] K ∧ ∀ (t1 t2 : Nat) (G : Nat → am_C → Prop) (S' : St5) (K' : am_H), Wx sA gs y Yy K F u1 u2 t1 t2 G S' [] K' → W2 sA gs b L xs x Yx y Yy So S' (M1 + t1) (M2 + t2) K' := by
  obtain ⟨F, u1, u2, h1, h2⟩ := w.sw.o
  exact ⟨F, u1, u2, h1, fun t1 t2 G S' K' w' => (h2 t1 t2 G S' K' w').sw⟩
theorem W2.cx (w : W2 sA gs b L xs x Yx y Yy So Sq M1 M2 K) : ∃ fs, K.1 x = some (.inr (11, fs)) := by
  obtain ⟨F, u1, u2, h1, -⟩ := w.o
  exact h1.cls
theorem W2.cy (w : W2 sA gs b L xs x Yx y Yy So Sq M1 M2 K) : ∃ fs, K.1 y = some (.inr (11, fs)) := by
  obtain ⟨F, u1, u2, h1, -⟩ := w.q
  exact h1.cls
theorem W2.scr (w : W2 sA gs b L xs x Yx y Yy So Sq M1 M2 K) : K.1 b = some (.inl (9, L, .inl xs)) := by
  obtain ⟨F, u1, u2, F', v1, v2, o, q, dj, ⟨c1, c2⟩, m1, m2⟩ := w
  exact c1
theorem W2.le {N1 N2 : Nat} (w : W2 sA gs b L xs x Yx y Yy So Sq M1 M2 K) (h1 : M1 ≤ N1) (h2 : M2 ≤ N2) : W2 sA gs b L xs x Yx y Yy So Sq N1 N2 K := by
  obtain ⟨F, u1, u2, F', v1, v2, o, q, dj, c, m1, m2⟩ := w
  exact ⟨F, u1, u2, F', v1, v2, o, q, dj, c, by omega, by omega⟩
theorem W2.sz (w : W2 sA gs b L xs x Yx y Yy So Sq M1 M2 K) : K.2.1 ≤ M1 ∧ K.2.2 ≤ M2 := by
  obtain ⟨F, u1, u2, F', v1, v2, o, q, dj, c, m1, m2⟩ := w
  omega
theorem W2.nw (w : W2 sA gs b L xs x Yx y Yy So Sq M1 M2 K) (k : OKS So) : So.1 19 = nI (nU So.1) ∧ nU So.1 ≤ 40 := by
  obtain ⟨F, u1, u2, h1, -⟩ := w.o
  have q := h1.nw k
  exact ⟨q.1, q.2.1⟩
theorem al_t {o4 : Option Value} (k : OKS S) (hX : ∀ (h' : Nat → Option am_C) (z' : Nat × Nat), W2 sA gs b L xs x Yx y Yy S S M1 M2 (h', z') → Rn sA mL_areAlike 76 [some (.ref x), some (.ref y), some (.int (nI 1)), some (.int (nI 5)), o4] [] (h', z') Q) : ∀ (n i : Nat) (h : Nat → Option am_C) (z : Nat × Nat), i + n = 5 → W2 sA gs b L xs x Yx y Yy S S M1 M2 (h, z) → Rn sA mL_areAlike 42 [some (.ref x), some (.ref y), some (.int (nI 1)), some (.int (nI i)), o4] [] (h, z) Q
  | 0, i, h, z, hn, w => by
    obtain rfl : i = 5 := by omega
    refine R_iload_n (pc := 42) dL_areAlike_42 rfl ?_
    refine R_iconst (pc := 43) (x := nI 5) dL_areAlike_43 rfl ?_
    refine R_icmp_ge (pc := 44) (t := 76) dL_areAlike_44 (by decide) (fun _ => ?_) (fun hz9 => absurd (Int32.le_refl _) hz9)
    exact hX _ _ w
  | n + 1, i, h, z, hn, w => by
    refine R_iload_n (pc := 42) dL_areAlike_42 rfl ?_
    refine R_iconst (pc := 43) (x := nI 5) dL_areAlike_43 rfl ?_
    refine R_icmp_ge (pc := 44) (t := 76) dL_areAlike_44 (by decide) (fun hz9 => absurd hz9 (nI_ge (by omega) (by omega))) (fun _ => ?_)
    refine R_iload_n (pc := 47) dL_areAlike_47 rfl ?_
    refine R_if_eq (pc := 48) (t := 68) dL_areAlike_48 (by decide) (fun hz9 => absurd hz9 (by decide)) (fun _ => ?_)
    refine R_aload_n (pc := 51) dL_areAlike_51 rfl ?_
    refine R_iload_n (pc := 52) dL_areAlike_52 rfl ?_
    refine R_callV (pc := 53) dL_areAlike_53 rfl w.cx.choose_spec rfl rfl ?_
    obtain ⟨F1, u1, v1, e1, g1⟩ := w.o
    refine o_told (j := i) e1 k (by omega) (fun h1 z1 d1 => ?_)
    have w1 : W2 sA gs b L xs x Yx y Yy S S M1 M2 (h1, z1) := g1 _ _ _ _ _ d1
    refine R_aload_n (pc := 56) dL_areAlike_56 rfl ?_
    refine R_iload_n (pc := 57) dL_areAlike_57 rfl ?_
    refine R_callV (pc := 58) dL_areAlike_58 rfl w1.cy.choose_spec rfl rfl ?_
    obtain ⟨F2, u2, v2, e2, g2⟩ := w1.q
    refine o_told (j := i) e2 k (by omega) (fun h2 z2 d2 => ?_)
    have w2 : W2 sA gs b L xs x Yx y Yy S S M1 M2 (h2, z2) := g2 _ _ _ _ _ d2
    refine R_icmp_ne (pc := 61) (t := 68) dL_areAlike_61 (by decide) (fun hz9 => absurd rfl hz9) (fun _ => ?_)
    refine R_iconst (pc := 64) (x := nI 1) dL_areAlike_64 rfl ?_
    refine R_goto (pc := 65) (t := 69) dL_areAlike_65 (by decide) ?_
    refine R_istore_n (pc := 69) dL_areAlike_69 (Nat.le_of_ble_eq_true rfl) rfl ?_
    refine R_iinc (pc := 70) dL_areAlike_70 rfl (by first | exact nI_inc _ | rfl) rfl ?_
    refine R_goto (pc := 73) (t := 42) dL_areAlike_73 (by decide) ?_
    exact al_t k hX n (i + 1) _ _ (by omega) w2
theorem al_c {i : Nat} (k : OKS S) (hi : i < nU S.1) (hX : ∀ (h' : Nat → Option am_C) (z' : Nat × Nat) (o4 : Option Value), W2 sA gs b L xs x Yx y Yy S S M1 M2 (h', z') → Rn sA mL_areAlike 130 [some (.ref x), some (.ref y), some (.int (nI 1)), some (.int (nI i)), o4] [] (h', z') Q) : ∀ (n j : Nat) (h : Nat → Option am_C) (z : Nat × Nat), j + n = 10 → W2 sA gs b L xs x Yx y Yy S S M1 M2 (h, z) → Rn sA mL_areAlike 90 [some (.ref x), some (.ref y), some (.int (nI 1)), some (.int (nI i)), some (.int (nI j))] [] (h, z) Q
  | 0, j, h, z, hn, w => by
    obtain rfl : j = 10 := by omega
    refine R_iload (pc := 90) dL_areAlike_90 rfl ?_
    refine R_bipush (pc := 92) (x := nI 10) dL_areAlike_92 (by decide) ?_
    refine R_icmp_ge (pc := 94) (t := 130) dL_areAlike_94 (by decide) (fun _ => ?_) (fun hz9 => absurd (Int32.le_refl _) hz9)
    exact hX _ _ _ w
  | n + 1, j, h, z, hn, w => by
    refine R_iload (pc := 90) dL_areAlike_90 rfl ?_
    refine R_bipush (pc := 92) (x := nI 10) dL_areAlike_92 (by decide) ?_
    refine R_icmp_ge (pc := 94) (t := 130) dL_areAlike_94 (by decide) (fun hz9 => absurd hz9 (nI_ge (by omega) (by omega))) (fun _ => ?_)
    refine R_iload_n (pc := 97) dL_areAlike_97 rfl ?_
    refine R_if_eq (pc := 98) (t := 122) dL_areAlike_98 (by decide) (fun hz9 => absurd hz9 (by decide)) (fun _ => ?_)
    refine R_aload_n (pc := 101) dL_areAlike_101 rfl ?_
    refine R_iload_n (pc := 102) dL_areAlike_102 rfl ?_
    refine R_iload (pc := 103) dL_areAlike_103 rfl ?_
    refine R_callV (pc := 105) dL_areAlike_105 rfl w.cx.choose_spec rfl rfl ?_
    obtain ⟨F1, u1, v1, e1, g1⟩ := w.o
    refine o_card (j := j) e1 k hi (by omega) (fun h1 z1 d1 => ?_)
    have w1 : W2 sA gs b L xs x Yx y Yy S S M1 M2 (h1, z1) := g1 _ _ _ _ _ d1
    refine R_aload_n (pc := 108) dL_areAlike_108 rfl ?_
    refine R_iload_n (pc := 109) dL_areAlike_109 rfl ?_
    refine R_iload (pc := 110) dL_areAlike_110 rfl ?_
    refine R_callV (pc := 112) dL_areAlike_112 rfl w1.cy.choose_spec rfl rfl ?_
    obtain ⟨F2, u2, v2, e2, g2⟩ := w1.q
    refine o_card (j := j) e2 k hi (by omega) (fun h2 z2 d2 => ?_)
    have w2 : W2 sA gs b L xs x Yx y Yy S S M1 M2 (h2, z2) := g2 _ _ _ _ _ d2
    refine R_icmp_ne (pc := 115) (t := 122) dL_areAlike_115 (by decide) (fun hz9 => absurd rfl hz9) (fun _ => ?_)
    refine R_iconst (pc := 118) (x := nI 1) dL_areAlike_118 rfl ?_
    refine R_goto (pc := 119) (t := 123) dL_areAlike_119 (by decide) ?_
    refine R_istore_n (pc := 123) dL_areAlike_123 (Nat.le_of_ble_eq_true rfl) rfl ?_
    refine R_iinc (pc := 124) dL_areAlike_124 rfl (by first | exact nI_inc _ | rfl) rfl ?_
    refine R_goto (pc := 127) (t := 90) dL_areAlike_127 (by decide) ?_
    exact al_c k hi hX n (j + 1) _ _ (by omega) w2
theorem al_d (k : OKS S) (hX : ∀ (h' : Nat → Option am_C) (z' : Nat × Nat) (o4 : Option Value), W2 sA gs b L xs x Yx y Yy S S M1 M2 (h', z') → Rn sA mL_areAlike 136 [some (.ref x), some (.ref y), some (.int (nI 1)), some (.int (nI (nU S.1))), o4] [] (h', z') Q) : ∀ (n i : Nat) (h : Nat → Option am_C) (z : Nat × Nat) (o4 : Option Value), i + n = nU S.1 → W2 sA gs b L xs x Yx y Yy S S M1 M2 (h, z) → Rn sA mL_areAlike 78 [some (.ref x), some (.ref y), some (.int (nI 1)), some (.int (nI i)), o4] [] (h, z) Q
  | 0, i, h, z, o4, hn, w => by
    obtain rfl : i = nU S.1 := by omega
    have nw := w.nw k
    refine R_iload_n (pc := 78) dL_areAlike_78 rfl ?_
    refine R_aload_n (pc := 79) dL_areAlike_79 rfl ?_
    refine R_iconst (pc := 80) (x := nI 0) dL_areAlike_80 rfl ?_
    refine R_callV (pc := 81) dL_areAlike_81 rfl w.cx.choose_spec rfl rfl ?_
    obtain ⟨F1, u1, v1, e1, g1⟩ := w.o
    refine o_told (j := 0) e1 k (by omega) (fun h1 z1 d1 => ?_)
    have w1 : W2 sA gs b L xs x Yx y Yy S S M1 M2 (h1, z1) := g1 _ _ _ _ _ d1
    rw [show toA S.1 0 = nI (nU S.1) from nw.1]
    refine R_icmp_ge (pc := 84) (t := 136) dL_areAlike_84 (by decide) (fun _ => ?_) (fun hz9 => absurd (Int32.le_refl _) hz9)
    exact hX _ _ _ w1
  | n + 1, i, h, z, o4, hn, w => by
    have nw := w.nw k
    refine R_iload_n (pc := 78) dL_areAlike_78 rfl ?_
    refine R_aload_n (pc := 79) dL_areAlike_79 rfl ?_
    refine R_iconst (pc := 80) (x := nI 0) dL_areAlike_80 rfl ?_
    refine R_callV (pc := 81) dL_areAlike_81 rfl w.cx.choose_spec rfl rfl ?_
    obtain ⟨F1, u1, v1, e1, g1⟩ := w.o
    refine o_told (j := 0) e1 k (by omega) (fun h1 z1 d1 => ?_)
    have w1 : W2 sA gs b L xs x Yx y Yy S S M1 M2 (h1, z1) := g1 _ _ _ _ _ d1
    rw [show toA S.1 0 = nI (nU S.1) from nw.1]
    refine R_icmp_ge (pc := 84) (t := 136) dL_areAlike_84 (by decide) (fun hz9 => absurd hz9 (nI_ge (by omega) (by omega))) (fun _ => ?_)
    refine R_iconst (pc := 87) (x := nI 0) dL_areAlike_87 rfl ?_
    refine R_istore (pc := 88) dL_areAlike_88 (Nat.le_of_ble_eq_true rfl) rfl ?_
    refine al_c k (by omega) (fun h2 z2 o42 w2 => ?_) 10 0 _ _ (by omega) w1
    refine R_iinc (pc := 130) dL_areAlike_130 rfl (by first | exact nI_inc _ | rfl) rfl ?_
    refine R_goto (pc := 133) (t := 78) dL_areAlike_133 (by decide) ?_
    exact al_d k hX n (i + 1) _ _ _ (by omega) w2
theorem l_areAlike (k : OKS S) (w : W2 sA gs b L xs x Yx y Yy S S M1 M2 (h, z)) (kk : ∀ (h' : Nat → Option am_C) (z' : Nat × Nat), W2 sA gs b L xs x Yx y Yy S S M1 M2 (h', z') → Q (some (.int (nI 1))) (h', z')) : Rn sA mL_areAlike 0 [some (.ref x), some (.ref y), none, none, none] [] (h, z) Q := by
  have hv : vf_n32 (meA S.1) := by
    obtain ⟨F, u1, u2, h1, -⟩ := w.o
    obtain ⟨h0, z0, v0⟩ := h1.vo
    exact (v_mean v0 k.1.1).1
  refine R_aload_n (pc := 0) dL_areAlike_0 rfl ?_
  refine R_callV (pc := 1) dL_areAlike_1 rfl w.cx.choose_spec rfl rfl ?_
  obtain ⟨F1, u1, v1, e1, g1⟩ := w.o
  refine o_mean e1 k (fun h1 z1 d1 => ?_)
  have w1 : W2 sA gs b L xs x Yx y Yy S S M1 M2 (h1, z1) := g1 _ _ _ _ _ d1
  refine R_aload_n (pc := 4) dL_areAlike_4 rfl ?_
  refine R_callV (pc := 5) dL_areAlike_5 rfl w1.cy.choose_spec rfl rfl ?_
  obtain ⟨F2, u2, v2, e2, g2⟩ := w1.q
  refine o_mean e2 k (fun h2 z2 d2 => ?_)
  have w2 : W2 sA gs b L xs x Yx y Yy S S M1 M2 (h2, z2) := g2 _ _ _ _ _ d2
  refine R_fcmp (pc := 8) dL_areAlike_8 ?_
  refine R_if_ne (pc := 9) (t := 38) dL_areAlike_9 (by decide) (fun hz9 => absurd (fcmp_n hv) hz9) (fun _ => ?_)
  refine R_aload_n (pc := 12) dL_areAlike_12 rfl ?_
  refine R_callV (pc := 13) dL_areAlike_13 rfl w2.cx.choose_spec rfl rfl ?_
  obtain ⟨F3, u3, v3, e3, g3⟩ := w2.o
  refine o_agrees e3 k (fun h3 z3 d3 => ?_)
  have w3 : W2 sA gs b L xs x Yx y Yy S S M1 M2 (h3, z3) := g3 _ _ _ _ _ d3
  refine R_aload_n (pc := 16) dL_areAlike_16 rfl ?_
  refine R_callV (pc := 17) dL_areAlike_17 rfl w3.cy.choose_spec rfl rfl ?_
  obtain ⟨F4, u4, v4, e4, g4⟩ := w3.q
  refine o_agrees e4 k (fun h4 z4 d4 => ?_)
  have w4 : W2 sA gs b L xs x Yx y Yy S S M1 M2 (h4, z4) := g4 _ _ _ _ _ d4
  refine R_icmp_ne (pc := 20) (t := 38) dL_areAlike_20 (by decide) (fun hz9 => absurd rfl hz9) (fun _ => ?_)
  refine R_aload_n (pc := 23) dL_areAlike_23 rfl ?_
  refine R_callV (pc := 24) dL_areAlike_24 rfl w4.cx.choose_spec rfl rfl ?_
  obtain ⟨F5, u5, v5, e5, g5⟩ := w4.o
  refine o_passes e5 k (fun h5 z5 d5 => ?_)
  have w5 : W2 sA gs b L xs x Yx y Yy S S M1 M2 (h5, z5) := g5 _ _ _ _ _ d5
  refine R_aload_n (pc := 27) dL_areAlike_27 rfl ?_
  refine R_callV (pc := 28) dL_areAlike_28 rfl w5.cy.choose_spec rfl rfl ?_
  obtain ⟨F6, u6, v6, e6, g6⟩ := w5.q
  refine o_passes e6 k (fun h6 z6 d6 => ?_)
  have w6 : W2 sA gs b L xs x Yx y Yy S S M1 M2 (h6, z6) := g6 _ _ _ _ _ d6
  refine R_icmp_ne (pc := 31) (t := 38) dL_areAlike_31 (by decide) (fun hz9 => absurd rfl hz9) (fun _ => ?_)
  refine R_iconst (pc := 34) (x := nI 1) dL_areAlike_34 rfl ?_
  refine R_goto (pc := 35) (t := 39) dL_areAlike_35 (by decide) ?_
  refine R_istore_n (pc := 39) dL_areAlike_39 (Nat.le_of_ble_eq_true rfl) rfl ?_
  refine R_iconst (pc := 40) (x := nI 0) dL_areAlike_40 rfl ?_
  refine R_istore_n (pc := 41) dL_areAlike_41 (Nat.le_of_ble_eq_true rfl) rfl ?_
  refine al_t k (fun h7 z7 w7 => ?_) 5 0 _ _ (by omega) w6
  refine R_iconst (pc := 76) (x := nI 0) dL_areAlike_76 rfl ?_
  refine R_istore_n (pc := 77) dL_areAlike_77 (Nat.le_of_ble_eq_true rfl) rfl ?_
  refine al_d k (fun h8 z8 o48 w8 => ?_) (nU S.1) 0 _ _ _ (by omega) w7
  refine R_iload_n (pc := 136) dL_areAlike_136 rfl ?_
  refine R_zret (pc := 137) dL_areAlike_137 rfl (by decide) ?_
  exact kk _ _ w8
def u0 : Nat → Int32 := fun j => if j = 1 then nI 2 else if j = 2 then nI 2 else if j = 3 then nI 2 else if j = 4 then nI 4 else if j = 5 then nI 3 else if j = 6 then nI 7 else if j = 7 then nI 3 else if j = 8 then nI 10 else if j = 9 then nI 4 else if j = 10 then nI 14 else if j = 11 then nI 1 else if j = 12 then nI 1 else if j = 13 then nI 1 else if j = 14 then nI 999 else if j = 15 then nI 400 else if j = 16 then (-1000009) else if j = 17 then (-1000009) else if j = 18 then (-1000009) else 0
theorem u0_ok : U00 u0 := ⟨rfl, rfl, rfl, rfl, rfl, rfl, rfl, rfl, rfl, rfl, rfl, rfl, rfl, rfl, rfl, rfl, rfl, rfl, rfl, fun j hj => by unfold u0; (repeat rw [if_neg (by omega)])⟩
def S0 : St5 := (u0, fun _ => 0, 0, fun _ => 0, 0)
theorem S0_ok : OKS S0 := ⟨OKU.ze u0_ok, fun i hi nz => absurd (show 0 / 2 ^ i % 2 = 0 by rw [Nat.zero_div]) nz⟩
theorem InitI.vo {h : Nat → Option am_C} {x w : Nat} (i : InitI h x) (hsA : sA < x) (hst : h sA = some (.inl (9, 4, .inl gs))) : Vo sA gs x w (h, x + 158, w) S0 [] := by
  obtain ⟨j1, j2, j3, j4, j5, j6, j7⟩ := i
  exact ⟨hsA, hst, fun _ => 0, 0, _, _, ⟨Nat.le_refl _, j1, ⟨0, fun _ => none, ⟨j3, ⟨_, j4, fun _ _ => rfl⟩, by omega, by omega, fun i hi => absurd hi (Nat.not_lt_zero _)⟩, ⟨⟨_, j5, fun _ _ => rfl⟩, by show 0 < 4; omega, fun i hi => Or.inl ⟨by show 0 / 2 ^ i % 2 = 0; rw [Nat.zero_div], rfl⟩⟩, ⟨fun i hi s hs => (by cases hs), fun i j hi hj hij s t hs => (by cases hs), rfl, rfl⟩⟩, j6, by show 0 ≤ 50; omega⟩, j2 u0 u0_ok, j7, Hs.ni⟩
theorem sm_vid (v : Value) : sm_v id v = v := by cases v <;> rfl
theorem ar_1 : 3499 + 28310 = 31809 := rfl
theorem ar_2 {a b c : Nat} (h : b + c ≤ a + 31809) : b + c ≤ a + (3499 + 28310) := by rw [ar_1]; exact h
theorem ar_3 {a b c : Nat} (h : b + c ≤ a + 31809) : b + c ≤ a + 3499 + 28310 := by rw [Nat.add_assoc]; exact ar_2 h
theorem ar_i {a b c : Nat} (h : b + c ≤ a + 31809 + 0) : b + c ≤ a + 3499 + 28310 := ar_3 h
theorem o_init {m1 : Nat} (hst : h sA = some (.inl (9, 4, .inl gs))) (hsA : sA < z.1) (kk : ∀ (h' : Nat → Option am_C) (z' : Nat × Nat) (F : Nat → Prop) (u1 u2 : Nat), Obx sA gs z.1 (z.2 + m1 + 3499) (h', z') F u1 u2 S0 [] → (∀ a, a < z.1 → h' a = h a) → (∀ a, F a → z.1 ≤ a) → z.1 + 1 ≤ z'.1 → z'.1 + u1 ≤ z.1 + 1088 → z'.2 + u2 ≤ z.2 + m1 + 3499 + 28310 → Q none (h', z')) : Rn sA mX11_init 0 [some (.ref z.1)] [] (va_up h z.1 (some (.inr (11, am_bl 11))), z.1 + 1, z.2 + m1) Q := by
  have em : Em0 id (fun a => if a = z.1 then some (.inr (11, am_bl 11)) else if a = sA then some (.inl (9, 4, .inl gs)) else none, z.1 + 1, z.2 + m1) (va_up h z.1 (some (.inr (11, am_bl 11))), z.1 + 1, z.2 + m1) := by
    refine ⟨fun a b _ _ e => e, fun a ha => ha, fun a c hc => ?_⟩
    have hc : (if a = z.1 then some (.inr (11, am_bl 11)) else if a = sA then some (.inl (9, 4, .inl gs)) else none) = some c := hc
    by_cases e : a = z.1
    · rw [if_pos e] at hc
      cases hc
      subst e
      refine ⟨Nat.lt_succ_self _, cl_bl 11, ?_⟩
      show va_up h z.1 _ z.1 = some (.inr (11, sm_S id (am_bl 11)))
      rw [sm_bl]
      exact up_s
    · rw [if_neg e] at hc
      by_cases e2 : a = sA
      · rw [if_pos e2] at hc
        cases hc
        subst e2
        exact ⟨Nat.lt_succ_of_lt hsA, trivial, up_n e hst⟩
      · rw [if_neg e2] at hc
        cases hc
  refine Rn.emb (Q0 := fun r H' => r = none ∧ Vo sA gs z.1 (z.2 + m1 + 3499) H' S0 []) em rfl (Nat.lt_succ_of_lt hsA) (fun i v hv => ?_) ?_ ?_ (fun r H' K' ψ hq ag E' hm lk => ?_)
  · rcases LsOk.get (x := z.1) (ls := [some (.ref z.1)]) ⟨Or.inl rfl, trivial⟩ i v hv with q | ⟨y, q⟩
    · subst q; exact fun a ha => by cases ha; exact Nat.lt_succ_self _
    · subst q; exact cl_int
  · show [some (sm_v id (Value.ref z.1))] = [some (Value.ref z.1)]
    rw [sm_vid]
  · refine c11_init (x := z.1) (w0 := z.2 + m1) (if_pos rfl) (fun h2 i f => ⟨rfl, i.vo hsA ?_⟩)
    rw [f sA hsA]
    show (if sA = z.1 then _ else _) = _
    rw [if_neg (by omega), if_pos rfl]
  · obtain ⟨rfl, v⟩ := hq
    obtain ⟨w1, w2, w3, w4, w5⟩ := v.sz
    obtain ⟨h', z'⟩ := K'
    have lk2 := lk 1087 31809 w1 w2 (by dsimp only; omega) (by dsimp only; omega)
    have fp0 : ∀ a, Fp id (fun a => if a = z.1 then some (.inr (11, am_bl 11)) else if a = sA then some (.inl (9, 4, .inl gs)) else none, z.1 + 1, z.2 + m1) a → a = z.1 := by
      rintro a ⟨a2, c, hc, hw, rfl⟩
      have hc : (if a2 = z.1 then some (.inr (11, am_bl 11)) else if a2 = sA then some (.inl (9, 4, .inl gs)) else none) = some c := hc
      by_cases e : a2 = z.1
      · exact e
      · rw [if_neg e] at hc
        by_cases e2 : a2 = sA
        · rw [if_pos e2] at hc
          cases hc
          exact absurd rfl hw
        · rw [if_neg e2] at hc
          cases hc
    refine kk h' z' (Fp ψ H') w1 w2 ⟨ψ, H', E', rfl, ⟨ag z.1 (Nat.lt_succ_self _), ag sA (Nat.lt_succ_of_lt hsA)⟩, v, w3, w4⟩ (fun a ha => ?_) (fun a ha => ?_) lk2.1.1 ?_ ?_
    · have q := lk2.2.2.1 a (Nat.lt_succ_of_lt ha) (fun q => by have := fp0 a q; omega)
      exact q.trans (up_n (by omega) rfl)
    · rcases lk2.2.2.2 a ha with q | q
      · have := fp0 a q; omega
      · have q : z.1 + 1 ≤ a := q
        omega
    · have q := lk2.2.1.1
      dsimp only at q
      omega
    · exact ar_i (a := z.2 + m1) (b := z'.2) (c := w2) lk2.2.1.2
theorem law_loop {B1 B2 : Nat} (hL : L ≤ 260) (hg : GsOK gs) : ∀ (n t : Nat) (S : St5) (h : Nat → Option am_C) (z : Nat × Nat) (o4 o5 : Option Value), t + n = 40 → OKS S → W2 sA gs b L xs x Yx y Yy S S (B1 + t) (B2 + 20 * t) (h, z) → Rn sA mL_law 18 [some (.ref b), some (.ref x), some (.ref y), some (.int (nI t)), o4, o5] [] (h, z) (fun r H => r = some (.int (nI 1)) ∧ H.2.1 ≤ B1 + 40 ∧ H.2.2 ≤ B2 + 800)
  | 0, t, S, h, z, o4, o5, hn, k, w => by
    obtain rfl : t = 40 := by omega
    refine R_iload_n (pc := 18) dL_law_18 rfl ?_
    refine R_bipush (pc := 19) (x := nI 40) dL_law_19 (by decide) ?_
    refine R_icmp_ge (pc := 21) (t := 128) dL_law_21 (by decide) (fun _ => ?_) (fun hz9 => absurd (Int32.le_refl _) hz9)
    refine R_aload_n (pc := 128) dL_law_128 rfl ?_
    refine R_aload_n (pc := 129) dL_law_129 rfl ?_
    refine R_callS (pc := 130) dL_law_130 rfl (Or.inl rfl) rfl rfl ?_
    refine l_areAlike k w (fun h1 z1 w1 => ?_)
    refine R_zret (pc := 133) dL_law_133 rfl (by decide) ?_
    exact ⟨rfl, w1.sz.1, w1.sz.2⟩
  | n + 1, t, S, h, z, o4, o5, hn, k, w => by
    have nxt : ∀ (S' : St5) (h' : Nat → Option am_C) (z' : Nat × Nat) (o4 o5 : Option Value), OKS S' → W2 sA gs b L xs x Yx y Yy S' S' (B1 + (t + 1)) (B2 + 20 * (t + 1)) (h', z') → Rn sA mL_law 122 [some (.ref b), some (.ref x), some (.ref y), some (.int (nI t)), o4, o5] [] (h', z') (fun r H => r = some (.int (nI 1)) ∧ H.2.1 ≤ B1 + 40 ∧ H.2.2 ≤ B2 + 800) := by
      intro S' h' z' o4 o5 k' w'
      refine R_iinc (pc := 122) dL_law_122 rfl (by first | exact nI_inc _ | rfl) rfl ?_
      refine R_goto (pc := 125) (t := 18) dL_law_125 (by decide) ?_
      exact law_loop hL hg n (t + 1) S' h' z' _ _ (by omega) k' w'
    have n84 : ∀ (S' : St5) (v m : Int32) (h' : Nat → Option am_C) (z' : Nat × Nat), OKS S' → W2 sA gs b L xs x Yx y Yy S' S' (B1 + (t + 1)) (B2 + 20 * (t + 1)) (h', z') → Rn sA mL_law 84 [some (.ref b), some (.ref x), some (.ref y), some (.int (nI t)), some (.int v), some (.int m)] [] (h', z') (fun r H => r = some (.int (nI 1)) ∧ H.2.1 ≤ B1 + 40 ∧ H.2.2 ≤ B2 + 800) := by
      intro S' v m h' z' k' w'
      refine R_iload_n (pc := 84) dL_law_84 rfl ?_
      refine R_iconst (pc := 85) (x := nI 5) dL_law_85 rfl ?_
      refine R_irem (pc := 86) dL_law_86 (by decide) ?_
      rw [pk_rem (by omega) (by omega) (by omega)]
      refine R_iconst (pc := 87) (x := nI 4) dL_law_87 rfl ?_
      refine R_icmp_ne (pc := 88) (t := 122) dL_law_88 (by decide) (fun h88 => ?_) (fun h88 => ?_)
      · skip
        exact nxt S' h' z' _ _ k' w'
      · skip
        refine R_aload_n (pc := 91) dL_law_91 rfl ?_
        refine R_callS (pc := 92) dL_law_92 rfl (Or.inl rfl) rfl rfl ?_
        obtain ⟨F1, u1, v1, e1, g1⟩ := w'.o
        refine l_isAgain e1 k' (fun h1 z1 d1 => ?_)
        have w1 : W2 sA gs b L xs x Yx y Yy S' S' (B1 + (t + 1)) (B2 + 20 * (t + 1)) (h1, z1) := g1 _ _ _ _ _ d1
        refine R_if_eq (pc := 95) (t := 120) dL_law_95 (by decide) (fun hz9 => absurd hz9 (by decide)) (fun _ => ?_)
        refine R_aload_n (pc := 98) dL_law_98 rfl ?_
        refine R_callS (pc := 99) dL_law_99 rfl (Or.inl rfl) rfl rfl ?_
        obtain ⟨F2, u2, v2, e2, g2⟩ := w1.o
        refine l_isSorted e2 k' (fun h2 z2 d2 => ?_)
        have w2 : W2 sA gs b L xs x Yx y Yy S' S' (B1 + (t + 1)) (B2 + 20 * (t + 1)) (h2, z2) := g2 _ _ _ _ _ d2
        refine R_if_eq (pc := 102) (t := 120) dL_law_102 (by decide) (fun hz9 => absurd hz9 (by decide)) (fun _ => ?_)
        refine R_aload_n (pc := 105) dL_law_105 rfl ?_
        refine R_iload (pc := 106) dL_law_106 rfl ?_
        refine R_iconst (pc := 108) (x := nI 3) dL_law_108 rfl ?_
        refine R_ishr (pc := 109) dL_law_109 ?_
        refine R_iconst (pc := 110) (x := nI 3) dL_law_110 rfl ?_
        refine R_callS (pc := 111) dL_law_111 rfl (Or.inl rfl) rfl rfl ?_
        refine l_low (by omega) (by omega) ?_
        refine R_callS (pc := 114) dL_law_114 rfl (Or.inl rfl) rfl rfl ?_
        obtain ⟨F3, u3, v3, e3, g3⟩ := w2.o
        refine l_isAccepted hg (Nat.le_of_lt_succ (lo_lt (by omega))) e3 k' (fun h3 z3 d3 => ?_)
        have w3 : W2 sA gs b L xs x Yx y Yy S' S' (B1 + (t + 1)) (B2 + 20 * (t + 1)) (h3, z3) := g3 _ _ _ _ _ d3
        refine R_if_ne (pc := 117) (t := 122) dL_law_117 (by decide) (fun _ => ?_) (fun hz9 => absurd hz9 (by decide))
        exact nxt S' h3 z3 _ _ k' w3
    have n75 : ∀ (S' : St5) (v m : Int32) (h' : Nat → Option am_C) (z' : Nat × Nat), OKS S' → W2 sA gs b L xs x Yx y Yy S' S' (B1 + t) (B2 + 20 * t) (h', z') → Rn sA mL_law 75 [some (.ref b), some (.ref x), some (.ref y), some (.int (nI t)), some (.int v), some (.int m)] [] (h', z') (fun r H => r = some (.int (nI 1)) ∧ H.2.1 ≤ B1 + 40 ∧ H.2.2 ≤ B2 + 800) := by
      intro S' v m h' z' k' w'
      refine R_aload_n (pc := 75) dL_law_75 rfl ?_
      refine R_callS (pc := 76) dL_law_76 rfl (Or.inl rfl) rfl rfl ?_
      obtain ⟨F1, u1, v1, e1, g1⟩ := w'.o
      refine l_isReport e1 (Nat.le_refl _) k' (fun h1 z1 yy ee d1 => ?_) (fun h1 z1 d1 => ?_)
      · have w1 := g1 _ _ _ _ _ d1
        refine R_if_ne (pc := 79) (t := 84) dL_law_79 (by decide) (fun _ => ?_) (fun hz9 => absurd hz9 (by decide))
        exact n84 S' v m _ _ k' (w1.le (by omega) (by omega))
      · have w1 := g1 _ _ _ _ _ d1
        refine R_if_ne (pc := 79) (t := 84) dL_law_79 (by decide) (fun _ => ?_) (fun hz9 => absurd hz9 (by decide))
        exact n84 S' v m _ _ k' (w1.le (by omega) (by omega))
    refine R_iload_n (pc := 18) dL_law_18 rfl ?_
    refine R_bipush (pc := 19) (x := nI 40) dL_law_19 (by decide) ?_
    refine R_icmp_ge (pc := 21) (t := 128) dL_law_21 (by decide) (fun hz9 => absurd hz9 (nI_ge (by omega) (by omega))) (fun _ => ?_)
    refine R_aload_n (pc := 24) dL_law_24 rfl ?_
    refine R_iconst (pc := 25) (x := nI 2) dL_law_25 rfl ?_
    refine R_iload_n (pc := 26) dL_law_26 rfl ?_
    refine R_imul (pc := 27) dL_law_27 ?_
    rw [pk_mul]
    refine R_callS (pc := 28) dL_law_28 rfl (Or.inl rfl) rfl rfl ?_
    refine l_cell w.scr hL (by omega) ?_
    refine R_istore (pc := 31) dL_law_31 (Nat.le_of_ble_eq_true rfl) rfl ?_
    refine R_aload_n (pc := 33) dL_law_33 rfl ?_
    refine R_iconst (pc := 34) (x := nI 2) dL_law_34 rfl ?_
    refine R_iload_n (pc := 35) dL_law_35 rfl ?_
    refine R_imul (pc := 36) dL_law_36 ?_
    refine R_iconst (pc := 37) (x := nI 1) dL_law_37 rfl ?_
    refine R_iadd (pc := 38) dL_law_38 ?_
    rw [pk_mul, nI_add]
    refine R_callS (pc := 39) dL_law_39 rfl (Or.inl rfl) rfl rfl ?_
    refine l_cell w.scr hL (by omega) ?_
    refine R_istore (pc := 42) dL_law_42 (Nat.le_of_ble_eq_true rfl) rfl ?_
    refine R_iload (pc := 44) dL_law_44 rfl ?_
    refine R_bipush (pc := 46) (x := nI 26) dL_law_46 (by decide) ?_
    refine R_callS (pc := 48) dL_law_48 rfl (Or.inl rfl) rfl rfl ?_
    refine l_low (by omega) (by omega) ?_
    refine R_bipush (pc := 51) (x := nI 17) dL_law_51 (by decide) ?_
    refine R_icmp_eq (pc := 53) (t := 75) dL_law_53 (by decide) (fun h53 => ?_) (fun h53 => ?_)
    · skip
      exact n75 S _ _ h z k w
    · have h17 : ¬ lo (celL L xs (2 * t)) 26 = 17 := fun q => h53 (by rw [q])
      refine R_aload_n (pc := 56) dL_law_56 rfl ?_
      refine R_iload (pc := 57) dL_law_57 rfl ?_
      refine R_iload (pc := 59) dL_law_59 rfl ?_
      refine R_callS (pc := 61) dL_law_61 rfl (Or.inl rfl) rfl rfl ?_
      obtain ⟨F1, u1, v1, e1, g1⟩ := w.o
      refine l_change hg e1 k h17 (fun h1 z1 k1 d1 => ?_)
      have w1 : W2 sA gs b L xs x Yx y Yy (fCh (celL L xs (2 * t)) (celL L xs (2 * t + 1)) S).2 S (B1 + t) (B2 + 20 * t) (h1, z1) := g1 _ _ _ _ _ d1
      refine R_aload_n (pc := 64) dL_law_64 rfl ?_
      refine R_iload (pc := 65) dL_law_65 rfl ?_
      refine R_iload (pc := 67) dL_law_67 rfl ?_
      refine R_callS (pc := 69) dL_law_69 rfl (Or.inl rfl) rfl rfl ?_
      obtain ⟨F2, u2, v2, e2, g2⟩ := w1.q
      refine l_change hg e2 k h17 (fun h2 z2 k2 d2 => ?_)
      have w2 : W2 sA gs b L xs x Yx y Yy (fCh (celL L xs (2 * t)) (celL L xs (2 * t + 1)) S).2 (fCh (celL L xs (2 * t)) (celL L xs (2 * t + 1)) S).2 (B1 + t) (B2 + 20 * t) (h2, z2) := g2 _ _ _ _ _ d2
      refine R_icmp_ne (pc := 72) (t := 82) dL_law_72 (by decide) (fun hz9 => absurd rfl hz9) (fun _ => ?_)
      exact n75 _ _ _ h2 z2 k1 w2
theorem law_all {X w0 : Nat} (hL : L ≤ 260) (hbx : b < X) (hsA : sA < X) (hg : GsOK gs) (hb : h b = some (.inl (9, L, .inl xs))) (hst : h sA = some (.inl (9, 4, .inl gs))) : Rn sA mL_law 0 [some (.ref b), none, none, none, none, none] [] (h, X, w0) (fun r H => r = some (.int (nI 1)) ∧ H.2.1 ≤ X + 3000 ∧ H.2.2 ≤ w0 + 70000) := by
  refine R_new (pc := 0) dL_law_0 rfl rfl rfl ?_
  refine R_dup (pc := 3) dL_law_3 rfl ?_
  refine R_callI (pc := 4) dL_law_4 rfl (Or.inl rfl) rfl rfl ?_
  refine o_init (z := (X, w0)) (m1 := 9) hst hsA (fun h1 z1 F u1 u2 o f1 f2 f3 f4 f5 => ?_)
  have f1 : ∀ a, a < X → h1 a = h a := f1
  have f3 : X + 1 ≤ z1.1 := f3
  refine R_astore_n (pc := 7) dL_law_7 (Nat.le_of_ble_eq_true rfl) rfl ?_
  refine R_new (pc := 8) dL_law_8 rfl rfl rfl ?_
  refine R_dup (pc := 11) dL_law_11 rfl ?_
  refine R_callI (pc := 12) dL_law_12 rfl (Or.inl rfl) rfl rfl ?_
  refine o_init (z := z1) (m1 := 9) o.stat (show sA < z1.1 by omega) (fun h2 z2 F2 v1 v2 q e1 e2 e3 e4 e5 => ?_)
  refine R_astore_n (pc := 15) dL_law_15 (Nat.le_of_ble_eq_true rfl) rfl ?_
  refine R_iconst (pc := 16) (x := nI 0) dL_law_16 rfl ?_
  refine R_istore_n (pc := 17) dL_law_17 (Nat.le_of_ble_eq_true rfl) rfl ?_
  have o2 : Obx sA gs X (w0 + 9 + 3499) (h2, z2) F u1 u2 S0 [] := o.fr (show z1.1 ≤ z2.1 by omega) (fun a ha _ => e1 a ha)
  have f4 : z1.1 + u1 ≤ X + 1088 := f4
  have f5 : z1.2 + u2 ≤ w0 + 9 + 3499 + 28310 := f5
  refine (law_loop (xs := xs) (B1 := X + 2200) (B2 := w0 + 65000) hL hg 40 0 S0 h2 z2 _ _ (by omega) S0_ok ⟨F, u1, u2, F2, v1, v2, o2, q, fun a ha hb => ?_, ⟨?_, ?_⟩, ?_, ?_⟩).mono (fun r H q => ⟨q.1, by have := q.2.1; omega, by have := q.2.2; omega⟩)
  · have h1 : a < z1.1 := o.no a ha
    have h2 := e2 a hb
    omega
  · show h2 b = _
    rw [e1 b (by omega), f1 b hbx]
    exact hb
  · show b < z2.1
    omega
  · show z2.1 + u1 + v1 ≤ _
    omega
  · show z2.2 + u2 + v2 ≤ _
    omega
end LAW
