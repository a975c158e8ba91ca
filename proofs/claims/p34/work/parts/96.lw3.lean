section LW3
variable {sA : Nat} {gs : Nat → Int32} {x Y : Nat} {K0 : am_H} {F0 : Nat → Prop} {s1 s2 t1 t2 : Nat} {G : Nat → am_C → Prop} {S : St5} {h : Nat → Option am_C} {z : Nat × Nat} {Q : Option Value → am_H → Prop}
theorem fSort_ok {f : Nat} (hf : f < 6) : fSort (nI f) S = (mvO (soO S.1 f) (nU S.1) 0 (nI 0), (srV S.1 f, S.2)) := by
  unfold fSort
  rw [icl_t (show inP (nI f) 6 from ⟨f, hf, rfl⟩), cI_n (by omega)]
  rfl
theorem o_sortS {U : Nat → Int32} {R : (Nat → Int32) × Nat × (Nat → Int32) × Nat} {L : List (Nat → Int32)} {K : am_H} {f : Nat} (w : Wx sA gs x Y K0 F0 s1 s2 t1 t2 G (U, R) L K) (k : OKS (U, R)) (hl : L.length ≤ 7) (hf : f < 6) (kk : ∀ (h' : Nat → Option am_C) (z' : Nat × Nat) (u : Nat), u ≤ 40 → OKS (srV U f, R) → Wx sA gs x Y K0 F0 s1 s2 t1 t2 G (srV U f, R) (U :: L) (h', z') → Q (some (.int (nI u))) (h', z')) : Rn sA mX11_sort 0 [some (.ref x), some (.int (nI f)), none] [] K Q := by
  refine o_sort w k hl (fun h1 z1 k1 w1 => ?_)
  obtain ⟨u, u1, u2⟩ := mvO_N (o := soO U f) (nU U) 0 0
  have eF : fSort (nI f) (U, R) = (mvO (soO U f) (nU U) 0 (nI 0), (srV U f, R)) := fSort_ok (S := (U, R)) hf
  have eL : rcL (inP (nI f) 6) (U, R) L = U :: L := icl_t ⟨f, hf, rfl⟩
  rw [eF] at k1 w1 ⊢
  rw [eL] at w1
  show Q (some (.int (mvO (soO U f) (nU U) 0 (nI 0)))) (h1, z1)
  rw [u2]
  have hn : nU U ≤ 40 := (w.nw k).2.1
  exact kk h1 z1 u (by omega) k1 w1
theorem so_57 {U V1 V2 V3 : Nat → Int32} {R : (Nat → Int32) × Nat × (Nat → Int32) × Nat} {ps : Int32} {o2 o3 : Option Value} (k1 : OKS (V1, R)) (k2 : OKS (V2, R)) (k3 : OKS (V3, R)) (k : OKS (U, R)) (h01 : toA U 4 = nI 0 ∨ toA U 4 = nI 1) (hps : ps = 0 ↔ toA U 4 = nI 1) (w : Wx sA gs x Y K0 F0 s1 s2 t1 t2 G (V3, R) [V2, V1, U] (h, z)) (kk : ∀ (h' : Nat → Option am_C) (z' : Nat × Nat), Wx sA gs x Y K0 F0 s1 s2 t1 t2 G (U, R) [] (h', z') → Q (some (.int (nI 1))) (h', z')) : Rn sA mL_isSorted 57 [some (.ref x), some (.int ps), o2, o3, some (.int (nI 1))] [] (h, z) Q := by
  rcases h01 with r0 | r1
  · refine R_aload_n (pc := 57) dL_isSorted_57 rfl ?_
    refine R_callV (pc := 58) dL_isSorted_58 rfl w.cls.choose_spec rfl rfl ?_
    refine o_undo w k3 (fun q1 h1 z1 hq1 w1 => ?_)
    refine R_if_lt (pc := 61) (t := 113) dL_isSorted_61 (by decide) (fun hz9 => absurd hz9 (nI_pos (by omega))) (fun _ => ?_)
    refine R_aload_n (pc := 64) dL_isSorted_64 rfl ?_
    refine R_callV (pc := 65) dL_isSorted_65 rfl w1.cls.choose_spec rfl rfl ?_
    refine o_undo w1 k2 (fun q2 h2 z2 hq2 w2 => ?_)
    refine R_if_lt (pc := 68) (t := 113) dL_isSorted_68 (by decide) (fun hz9 => absurd hz9 (nI_pos (by omega))) (fun _ => ?_)
    refine R_aload_n (pc := 71) dL_isSorted_71 rfl ?_
    refine R_callV (pc := 72) dL_isSorted_72 rfl w2.cls.choose_spec rfl rfl ?_
    refine o_undo w2 k1 (fun q3 h3 z3 hq3 w3 => ?_)
    refine R_if_lt (pc := 75) (t := 113) dL_isSorted_75 (by decide) (fun hz9 => absurd hz9 (nI_pos (by omega))) (fun _ => ?_)
    refine R_iload (pc := 78) dL_isSorted_78 rfl ?_
    refine R_if_eq (pc := 80) (t := 113) dL_isSorted_80 (by decide) (fun hz9 => absurd hz9 (by decide)) (fun _ => ?_)
    refine R_iload_n (pc := 83) dL_isSorted_83 rfl ?_
    refine R_if_ne (pc := 84) (t := 91) dL_isSorted_84 (by decide) (fun _ => ?_) (fun hz9 => absurd hz9 (fun q => absurd ((hps.mp q).symm.trans r0) (by decide)))
    refine R_iconst (pc := 91) (x := nI 0) dL_isSorted_91 rfl ?_
    refine R_aload_n (pc := 92) dL_isSorted_92 rfl ?_
    refine R_iconst (pc := 93) (x := nI 4) dL_isSorted_93 rfl ?_
    refine R_callV (pc := 94) dL_isSorted_94 rfl w3.cls.choose_spec rfl rfl ?_
    refine o_told (j := 4) w3 k (by omega) (fun h4 z4 w4 => ?_)
    rw [show toA (U, R).1 4 = nI 0 from r0]
    refine R_iconst (pc := 97) (x := nI 1) dL_isSorted_97 rfl ?_
    refine R_icmp_ne (pc := 98) (t := 105) dL_isSorted_98 (by decide) (fun _ => ?_) (fun hz9 => absurd hz9 (by decide))
    refine R_iconst (pc := 105) (x := nI 0) dL_isSorted_105 rfl ?_
    refine R_icmp_ne (pc := 106) (t := 113) dL_isSorted_106 (by decide) (fun hz9 => absurd rfl hz9) (fun _ => ?_)
    refine R_iconst (pc := 109) (x := nI 1) dL_isSorted_109 rfl ?_
    refine R_goto (pc := 110) (t := 114) dL_isSorted_110 (by decide) ?_
    refine R_zret (pc := 114) dL_isSorted_114 rfl (by decide) ?_
    exact kk _ _ w4
  · refine R_aload_n (pc := 57) dL_isSorted_57 rfl ?_
    refine R_callV (pc := 58) dL_isSorted_58 rfl w.cls.choose_spec rfl rfl ?_
    refine o_undo w k3 (fun q1 h1 z1 hq1 w1 => ?_)
    refine R_if_lt (pc := 61) (t := 113) dL_isSorted_61 (by decide) (fun hz9 => absurd hz9 (nI_pos (by omega))) (fun _ => ?_)
    refine R_aload_n (pc := 64) dL_isSorted_64 rfl ?_
    refine R_callV (pc := 65) dL_isSorted_65 rfl w1.cls.choose_spec rfl rfl ?_
    refine o_undo w1 k2 (fun q2 h2 z2 hq2 w2 => ?_)
    refine R_if_lt (pc := 68) (t := 113) dL_isSorted_68 (by decide) (fun hz9 => absurd hz9 (nI_pos (by omega))) (fun _ => ?_)
    refine R_aload_n (pc := 71) dL_isSorted_71 rfl ?_
    refine R_callV (pc := 72) dL_isSorted_72 rfl w2.cls.choose_spec rfl rfl ?_
    refine o_undo w2 k1 (fun q3 h3 z3 hq3 w3 => ?_)
    refine R_if_lt (pc := 75) (t := 113) dL_isSorted_75 (by decide) (fun hz9 => absurd hz9 (nI_pos (by omega))) (fun _ => ?_)
    refine R_iload (pc := 78) dL_isSorted_78 rfl ?_
    refine R_if_eq (pc := 80) (t := 113) dL_isSorted_80 (by decide) (fun hz9 => absurd hz9 (by decide)) (fun _ => ?_)
    refine R_iload_n (pc := 83) dL_isSorted_83 rfl ?_
    refine R_if_ne (pc := 84) (t := 91) dL_isSorted_84 (by decide) (fun hz9 => absurd (hps.mpr r1) hz9) (fun _ => ?_)
    refine R_iconst (pc := 87) (x := nI 1) dL_isSorted_87 rfl ?_
    refine R_goto (pc := 88) (t := 92) dL_isSorted_88 (by decide) ?_
    refine R_aload_n (pc := 92) dL_isSorted_92 rfl ?_
    refine R_iconst (pc := 93) (x := nI 4) dL_isSorted_93 rfl ?_
    refine R_callV (pc := 94) dL_isSorted_94 rfl w3.cls.choose_spec rfl rfl ?_
    refine o_told (j := 4) w3 k (by omega) (fun h4 z4 w4 => ?_)
    rw [show toA (U, R).1 4 = nI 1 from r1]
    refine R_iconst (pc := 97) (x := nI 1) dL_isSorted_97 rfl ?_
    refine R_icmp_ne (pc := 98) (t := 105) dL_isSorted_98 (by decide) (fun hz9 => absurd rfl hz9) (fun _ => ?_)
    refine R_iconst (pc := 101) (x := nI 1) dL_isSorted_101 rfl ?_
    refine R_goto (pc := 102) (t := 106) dL_isSorted_102 (by decide) ?_
    refine R_icmp_ne (pc := 106) (t := 113) dL_isSorted_106 (by decide) (fun hz9 => absurd rfl hz9) (fun _ => ?_)
    refine R_iconst (pc := 109) (x := nI 1) dL_isSorted_109 rfl ?_
    refine R_goto (pc := 110) (t := 114) dL_isSorted_110 (by decide) ?_
    refine R_zret (pc := 114) dL_isSorted_114 rfl (by decide) ?_
    exact kk _ _ w4
theorem l_isSorted (w : Wx sA gs x Y K0 F0 s1 s2 t1 t2 G S [] (h, z)) (k : OKS S) (kk : ∀ (h' : Nat → Option am_C) (z' : Nat × Nat), Wx sA gs x Y K0 F0 s1 s2 t1 t2 G S [] (h', z') → Q (some (.int (nI 1))) (h', z')) : Rn sA mL_isSorted 0 [some (.ref x), none, none, none, none] [] (h, z) Q := by
  obtain ⟨U, R⟩ := S
  have nw := w.nw k
  obtain ⟨h0, z0, v0⟩ := w.vo
  obtain ⟨_, _, _, _, _, _, _, _, _, _, _, _, _, _, _, _, hD, _⟩ := v0.un k.1.1
  have hL := nw.2.2.2.2.2.2.1
  have hV := nw.2.2.2.2.2.2.2
  have hps := psU_0 hL hV
  have h01 := toA_01 hL
  have h301 : toA (srV (srV (srV U 2) 1) 0) 4 = nI 0 ∨ toA (srV (srV (srV U 2) 1) 0) 4 = nI 1 := by
    rw [srt3 hL hD]
    exact ordG_01 _ _ _
  have ne01 : ¬ nI 0 = nI 1 := by decide
  rcases psU_s hL hV hD with ⟨e, e1, e2⟩ | ⟨e2, e3⟩
  · rcases h301 with q0 | q1
    · refine R_aload_n (pc := 0) dL_isSorted_0 rfl ?_
      refine R_callV (pc := 1) dL_isSorted_1 rfl w.cls.choose_spec rfl rfl ?_
      refine o_passes w k (fun h1 z1 w1 => ?_)
      rw [show psU (U, R).1 = psU U from rfl]
      refine R_istore_n (pc := 4) dL_isSorted_4 (Nat.le_of_ble_eq_true rfl) rfl ?_
      refine R_aload_n (pc := 5) dL_isSorted_5 rfl ?_
      refine R_iconst (pc := 6) (x := nI 2) dL_isSorted_6 rfl ?_
      refine R_callV (pc := 7) dL_isSorted_7 rfl w1.cls.choose_spec rfl rfl ?_
      refine o_sortS w1 k (Nat.le_of_ble_eq_true rfl) (by omega) (fun h2 z2 u2 b2 k2 w2 => ?_)
      refine R_aload_n (pc := 10) dL_isSorted_10 rfl ?_
      refine R_iconst (pc := 11) (x := nI 1) dL_isSorted_11 rfl ?_
      refine R_callV (pc := 12) dL_isSorted_12 rfl w2.cls.choose_spec rfl rfl ?_
      refine o_sortS w2 k2 (Nat.le_of_ble_eq_true rfl) (by omega) (fun h3 z3 u3 b3 k3 w3 => ?_)
      refine R_iadd (pc := 15) dL_isSorted_15 ?_
      rw [nI_add]
      refine R_aload_n (pc := 16) dL_isSorted_16 rfl ?_
      refine R_iconst (pc := 17) (x := nI 0) dL_isSorted_17 rfl ?_
      refine R_callV (pc := 18) dL_isSorted_18 rfl w3.cls.choose_spec rfl rfl ?_
      refine o_sortS w3 k3 (Nat.le_of_ble_eq_true rfl) (by omega) (fun h4 z4 u4 b4 k4 w4 => ?_)
      refine R_iadd (pc := 21) dL_isSorted_21 ?_
      rw [nI_add]
      refine R_istore_n (pc := 22) dL_isSorted_22 (Nat.le_of_ble_eq_true rfl) rfl ?_
      refine R_aload_n (pc := 23) dL_isSorted_23 rfl ?_
      refine R_iconst (pc := 24) (x := nI 4) dL_isSorted_24 rfl ?_
      refine R_callV (pc := 25) dL_isSorted_25 rfl w4.cls.choose_spec rfl rfl ?_
      refine o_told (j := 4) w4 k4 (by omega) (fun h5 z5 w5 => ?_)
      rw [show toA (srV (srV (srV U 2) 1) 0, R).1 4 = nI 0 from q0]
      refine R_iconst (pc := 28) (x := nI 1) dL_isSorted_28 rfl ?_
      refine R_icmp_ne (pc := 29) (t := 36) dL_isSorted_29 (by decide) (fun _ => ?_) (fun hz9 => absurd hz9 ne01)
      refine R_iconst (pc := 36) (x := nI 0) dL_isSorted_36 rfl ?_
      refine R_istore_n (pc := 37) dL_isSorted_37 (Nat.le_of_ble_eq_true rfl) rfl ?_
      refine R_iload_n (pc := 38) dL_isSorted_38 rfl ?_
      refine R_if_ge (pc := 39) (t := 46) dL_isSorted_39 (by decide) (fun _ => ?_) (fun hz9 => absurd (by rw [e2]; exact nI_pos' (by omega)) hz9)
      refine R_iload_n (pc := 46) dL_isSorted_46 rfl ?_
      refine R_if_lt (pc := 47) (t := 54) dL_isSorted_47 (by decide) (fun hz9 => absurd hz9 (nI_pos (by omega))) (fun _ => ?_)
      refine R_iconst (pc := 50) (x := nI 1) dL_isSorted_50 rfl ?_
      refine R_goto (pc := 51) (t := 55) dL_isSorted_51 (by decide) ?_
      refine R_istore (pc := 55) dL_isSorted_55 (Nat.le_of_ble_eq_true rfl) rfl ?_
      exact so_57 k2 k3 k4 k h01 hps w5 kk
    · refine R_aload_n (pc := 0) dL_isSorted_0 rfl ?_
      refine R_callV (pc := 1) dL_isSorted_1 rfl w.cls.choose_spec rfl rfl ?_
      refine o_passes w k (fun h1 z1 w1 => ?_)
      rw [show psU (U, R).1 = psU U from rfl]
      refine R_istore_n (pc := 4) dL_isSorted_4 (Nat.le_of_ble_eq_true rfl) rfl ?_
      refine R_aload_n (pc := 5) dL_isSorted_5 rfl ?_
      refine R_iconst (pc := 6) (x := nI 2) dL_isSorted_6 rfl ?_
      refine R_callV (pc := 7) dL_isSorted_7 rfl w1.cls.choose_spec rfl rfl ?_
      refine o_sortS w1 k (Nat.le_of_ble_eq_true rfl) (by omega) (fun h2 z2 u2 b2 k2 w2 => ?_)
      refine R_aload_n (pc := 10) dL_isSorted_10 rfl ?_
      refine R_iconst (pc := 11) (x := nI 1) dL_isSorted_11 rfl ?_
      refine R_callV (pc := 12) dL_isSorted_12 rfl w2.cls.choose_spec rfl rfl ?_
      refine o_sortS w2 k2 (Nat.le_of_ble_eq_true rfl) (by omega) (fun h3 z3 u3 b3 k3 w3 => ?_)
      refine R_iadd (pc := 15) dL_isSorted_15 ?_
      rw [nI_add]
      refine R_aload_n (pc := 16) dL_isSorted_16 rfl ?_
      refine R_iconst (pc := 17) (x := nI 0) dL_isSorted_17 rfl ?_
      refine R_callV (pc := 18) dL_isSorted_18 rfl w3.cls.choose_spec rfl rfl ?_
      refine o_sortS w3 k3 (Nat.le_of_ble_eq_true rfl) (by omega) (fun h4 z4 u4 b4 k4 w4 => ?_)
      refine R_iadd (pc := 21) dL_isSorted_21 ?_
      rw [nI_add]
      refine R_istore_n (pc := 22) dL_isSorted_22 (Nat.le_of_ble_eq_true rfl) rfl ?_
      refine R_aload_n (pc := 23) dL_isSorted_23 rfl ?_
      refine R_iconst (pc := 24) (x := nI 4) dL_isSorted_24 rfl ?_
      refine R_callV (pc := 25) dL_isSorted_25 rfl w4.cls.choose_spec rfl rfl ?_
      refine o_told (j := 4) w4 k4 (by omega) (fun h5 z5 w5 => ?_)
      rw [show toA (srV (srV (srV U 2) 1) 0, R).1 4 = nI 1 from q1]
      refine R_iconst (pc := 28) (x := nI 1) dL_isSorted_28 rfl ?_
      refine R_icmp_ne (pc := 29) (t := 36) dL_isSorted_29 (by decide) (fun hz9 => absurd rfl hz9) (fun _ => ?_)
      refine R_iconst (pc := 32) (x := nI 1) dL_isSorted_32 rfl ?_
      refine R_goto (pc := 33) (t := 37) dL_isSorted_33 (by decide) ?_
      refine R_istore_n (pc := 37) dL_isSorted_37 (Nat.le_of_ble_eq_true rfl) rfl ?_
      refine R_iload_n (pc := 38) dL_isSorted_38 rfl ?_
      refine R_if_ge (pc := 39) (t := 46) dL_isSorted_39 (by decide) (fun _ => ?_) (fun hz9 => absurd (by rw [e2]; exact nI_pos' (by omega)) hz9)
      refine R_iload_n (pc := 46) dL_isSorted_46 rfl ?_
      refine R_if_lt (pc := 47) (t := 54) dL_isSorted_47 (by decide) (fun hz9 => absurd hz9 (nI_pos (by omega))) (fun _ => ?_)
      refine R_iconst (pc := 50) (x := nI 1) dL_isSorted_50 rfl ?_
      refine R_goto (pc := 51) (t := 55) dL_isSorted_51 (by decide) ?_
      refine R_istore (pc := 55) dL_isSorted_55 (Nat.le_of_ble_eq_true rfl) rfl ?_
      exact so_57 k2 k3 k4 k h01 hps w5 kk
  · have q0 : toA (srV (srV (srV U 2) 1) 0) 4 = nI 0 := h301.resolve_right e3
    refine R_aload_n (pc := 0) dL_isSorted_0 rfl ?_
    refine R_callV (pc := 1) dL_isSorted_1 rfl w.cls.choose_spec rfl rfl ?_
    refine o_passes w k (fun h1 z1 w1 => ?_)
    rw [show psU (U, R).1 = psU U from rfl]
    refine R_istore_n (pc := 4) dL_isSorted_4 (Nat.le_of_ble_eq_true rfl) rfl ?_
    refine R_aload_n (pc := 5) dL_isSorted_5 rfl ?_
    refine R_iconst (pc := 6) (x := nI 2) dL_isSorted_6 rfl ?_
    refine R_callV (pc := 7) dL_isSorted_7 rfl w1.cls.choose_spec rfl rfl ?_
    refine o_sortS w1 k (Nat.le_of_ble_eq_true rfl) (by omega) (fun h2 z2 u2 b2 k2 w2 => ?_)
    refine R_aload_n (pc := 10) dL_isSorted_10 rfl ?_
    refine R_iconst (pc := 11) (x := nI 1) dL_isSorted_11 rfl ?_
    refine R_callV (pc := 12) dL_isSorted_12 rfl w2.cls.choose_spec rfl rfl ?_
    refine o_sortS w2 k2 (Nat.le_of_ble_eq_true rfl) (by omega) (fun h3 z3 u3 b3 k3 w3 => ?_)
    refine R_iadd (pc := 15) dL_isSorted_15 ?_
    rw [nI_add]
    refine R_aload_n (pc := 16) dL_isSorted_16 rfl ?_
    refine R_iconst (pc := 17) (x := nI 0) dL_isSorted_17 rfl ?_
    refine R_callV (pc := 18) dL_isSorted_18 rfl w3.cls.choose_spec rfl rfl ?_
    refine o_sortS w3 k3 (Nat.le_of_ble_eq_true rfl) (by omega) (fun h4 z4 u4 b4 k4 w4 => ?_)
    refine R_iadd (pc := 21) dL_isSorted_21 ?_
    rw [nI_add]
    refine R_istore_n (pc := 22) dL_isSorted_22 (Nat.le_of_ble_eq_true rfl) rfl ?_
    refine R_aload_n (pc := 23) dL_isSorted_23 rfl ?_
    refine R_iconst (pc := 24) (x := nI 4) dL_isSorted_24 rfl ?_
    refine R_callV (pc := 25) dL_isSorted_25 rfl w4.cls.choose_spec rfl rfl ?_
    refine o_told (j := 4) w4 k4 (by omega) (fun h5 z5 w5 => ?_)
    rw [show toA (srV (srV (srV U 2) 1) 0, R).1 4 = nI 0 from q0]
    refine R_iconst (pc := 28) (x := nI 1) dL_isSorted_28 rfl ?_
    refine R_icmp_ne (pc := 29) (t := 36) dL_isSorted_29 (by decide) (fun _ => ?_) (fun hz9 => absurd hz9 ne01)
    refine R_iconst (pc := 36) (x := nI 0) dL_isSorted_36 rfl ?_
    refine R_istore_n (pc := 37) dL_isSorted_37 (Nat.le_of_ble_eq_true rfl) rfl ?_
    refine R_iload_n (pc := 38) dL_isSorted_38 rfl ?_
    refine R_if_ge (pc := 39) (t := 46) dL_isSorted_39 (by decide) (fun hz9 => absurd hz9 (by rw [e2]; decide)) (fun _ => ?_)
    refine R_iload_n (pc := 42) dL_isSorted_42 rfl ?_
    refine R_if_ne (pc := 43) (t := 54) dL_isSorted_43 (by decide) (fun hz9 => absurd (show nI 0 = 0 from rfl) hz9) (fun _ => ?_)
    refine R_iload_n (pc := 46) dL_isSorted_46 rfl ?_
    refine R_if_lt (pc := 47) (t := 54) dL_isSorted_47 (by decide) (fun hz9 => absurd hz9 (nI_pos (by omega))) (fun _ => ?_)
    refine R_iconst (pc := 50) (x := nI 1) dL_isSorted_50 rfl ?_
    refine R_goto (pc := 51) (t := 55) dL_isSorted_51 (by decide) ?_
    refine R_istore (pc := 55) dL_isSorted_55 (Nat.le_of_ble_eq_true rfl) rfl ?_
    exact so_57 k2 k3 k4 k h01 hps w5 kk
theorem ac_loop {U V : Nat → Int32} {R : (Nat → Int32) × Nat × (Nat → Int32) × Nat} {M : List (Nat → Int32)} {v gt : Nat} {t c : Nat → Nat} {o2 o3 o4 : Option Value} (k : OKS (V, R)) (hv : v ≤ 2) (ac : AcA U V v t c) (hX : ∀ (h' : Nat → Option am_C) (z' : Nat × Nat) (o9 o10 : Option Value), Wx sA gs x Y K0 F0 s1 s2 t1 t2 G (V, R) M (h', z') → Rn sA mL_isAccepted 151 [some (.ref x), some (.int (nI v)), o2, o3, o4, some (.int (nI gt)), some (.int (nI (c (nU U)))), some (.int (nI (rfN t (nU U)))), some (.int (nI (nU U))), o9, o10] [] (h', z') Q) : ∀ (n i a b : Nat) (h : Nat → Option am_C) (z : Nat × Nat) (o9 o10 : Option Value), i + n = nU U → a = c i → b = rfN t i → Wx sA gs x Y K0 F0 s1 s2 t1 t2 G (V, R) M (h, z) → Rn sA mL_isAccepted 35 [some (.ref x), some (.int (nI v)), o2, o3, o4, some (.int (nI gt)), some (.int (nI a)), some (.int (nI b)), some (.int (nI i)), o9, o10] [] (h, z) Q
  | 0, i, a, b, h, z, o9, o10, hn, ha, hb, w => by
    obtain rfl : i = nU U := by omega
    subst ha
    subst hb
    refine R_iload (pc := 35) dL_isAccepted_35 rfl ?_
    refine R_aload_n (pc := 37) dL_isAccepted_37 rfl ?_
    refine R_iconst (pc := 38) (x := nI 0) dL_isAccepted_38 rfl ?_
    refine R_callV (pc := 39) dL_isAccepted_39 rfl w.cls.choose_spec rfl rfl ?_
    refine o_told (j := 0) w k (by omega) (fun h1 z1 w1 => ?_)
    rw [show toA (V, R).1 0 = nI (nU U) from ac.1.2.1]
    refine R_icmp_ge (pc := 42) (t := 151) dL_isAccepted_42 (by decide) (fun _ => ?_) (fun hz9 => absurd (Int32.le_refl _) hz9)
    exact hX _ _ _ _ w1
  | n + 1, i, a, b, h, z, o9, o10, hn, ha, hb, w => by
    have hi : i < nU U := by omega
    have h40 := ac.1.2.2.2
    obtain ⟨t6, tv, t5, te, tz, tc⟩ := ac.2.1 i hi
    have nxt : ∀ (a2 b2 : Nat), a2 = c (i + 1) → b2 = rfN t (i + 1) → ∀ (h' : Nat → Option am_C) (z' : Nat × Nat) (o9 o10 : Option Value), Wx sA gs x Y K0 F0 s1 s2 t1 t2 G (V, R) M (h', z') → Rn sA mL_isAccepted 145 [some (.ref x), some (.int (nI v)), o2, o3, o4, some (.int (nI gt)), some (.int (nI a2)), some (.int (nI b2)), some (.int (nI i)), o9, o10] [] (h', z') Q := by
      intro a2 b2 e1 e2 h' z' o9 o10 w'
      refine R_iinc (pc := 145) dL_isAccepted_145 rfl (by first | exact nI_inc _ | rfl) rfl ?_
      refine R_goto (pc := 148) (t := 35) dL_isAccepted_148 (by decide) ?_
      exact ac_loop k hv ac hX n (i + 1) a2 b2 h' z' _ _ (by omega) e1 e2 w'
    have hr : rfN t (i + 1) = rfN t i + (if 1 ≤ t i ∧ t i ≤ 5 then 1 else 0) := rfl
    obtain ⟨q, hq⟩ : ∃ q, q = t i := ⟨_, rfl⟩
    rw [← hq] at t6 tv t5 te tz tc hr
    rcases (by omega : q = 0 ∨ q = 1 ∨ q = 2 ∨ q = 3 ∨ q = 4 ∨ q = 5 ∨ q = 6) with rfl | rfl | rfl | rfl | rfl | rfl | rfl
    · have ow := t5 (by omega)
      refine R_iload (pc := 35) dL_isAccepted_35 rfl ?_
      refine R_aload_n (pc := 37) dL_isAccepted_37 rfl ?_
      refine R_iconst (pc := 38) (x := nI 0) dL_isAccepted_38 rfl ?_
      refine R_callV (pc := 39) dL_isAccepted_39 rfl w.cls.choose_spec rfl rfl ?_
      refine o_told (j := 0) w k (by omega) (fun h1 z1 w1 => ?_)
      rw [show toA (V, R).1 0 = nI (nU U) from ac.1.2.1]
      refine R_icmp_ge (pc := 42) (t := 151) dL_isAccepted_42 (by decide) (fun hz9 => absurd hz9 (nI_ge (by omega) (by omega))) (fun _ => ?_)
      refine R_aload_n (pc := 45) dL_isAccepted_45 rfl ?_
      refine R_iload (pc := 46) dL_isAccepted_46 rfl ?_
      refine R_callV (pc := 48) dL_isAccepted_48 rfl w1.cls.choose_spec rfl rfl ?_
      refine o_reason w1 k (show i < kU V by rw [ac.1.2.2.1]; exact hi) (fun h2 z2 w2 => ?_)
      rw [show (V, R).1 (1063 + i) = nI 0 from tv]
      refine R_istore (pc := 51) dL_isAccepted_51 (Nat.le_of_ble_eq_true rfl) rfl ?_
      refine R_aload_n (pc := 53) dL_isAccepted_53 rfl ?_
      refine R_iload (pc := 54) dL_isAccepted_54 rfl ?_
      refine R_bipush (pc := 56) (x := nI 9) dL_isAccepted_56 (by decide) ?_
      refine R_callV (pc := 58) dL_isAccepted_58 rfl w2.cls.choose_spec rfl rfl ?_
      refine o_card (j := 9) w2 k (show i < nU V by rw [ac.1.1]; exact hi) (by omega) (fun h3 z3 w3 => ?_)
      rw [show caA (V, R).1 i 9 = nI 0 from ow]
      refine R_istore (pc := 61) dL_isAccepted_61 (Nat.le_of_ble_eq_true rfl) rfl ?_
      refine R_iload (pc := 63) dL_isAccepted_63 rfl ?_
      refine R_if_ne (pc := 65) (t := 75) dL_isAccepted_65 (by decide) (fun hz9 => absurd (show nI 0 = 0 from rfl) hz9) (fun _ => ?_)
      refine R_iload (pc := 68) dL_isAccepted_68 rfl ?_
      refine R_iconst (pc := 70) (x := nI 1) dL_isAccepted_70 rfl ?_
      refine R_iadd (pc := 71) dL_isAccepted_71 ?_
      rw [nI_add]
      refine R_goto (pc := 72) (t := 77) dL_isAccepted_72 (by decide) ?_
      refine R_istore (pc := 77) dL_isAccepted_77 (Nat.le_of_ble_eq_true rfl) rfl ?_
      refine R_iload (pc := 79) dL_isAccepted_79 rfl ?_
      refine R_if_le (pc := 81) (t := 98) dL_isAccepted_81 (by decide) (fun _ => ?_) (fun hz9 => absurd (by decide) hz9)
      refine R_iload (pc := 98) dL_isAccepted_98 rfl ?_
      refine R_istore (pc := 100) dL_isAccepted_100 (Nat.le_of_ble_eq_true rfl) rfl ?_
      refine R_iload (pc := 102) dL_isAccepted_102 rfl ?_
      refine R_iconst (pc := 104) (x := nI 5) dL_isAccepted_104 rfl ?_
      refine R_icmp_ge (pc := 105) (t := 115) dL_isAccepted_105 (by decide) (fun hz9 => absurd hz9 (by decide)) (fun _ => ?_)
      refine R_iload (pc := 108) dL_isAccepted_108 rfl ?_
      refine R_iload (pc := 110) dL_isAccepted_110 rfl ?_
      refine R_icmp_ne (pc := 112) (t := 143) dL_isAccepted_112 (by decide) (fun hz9 => absurd rfl hz9) (fun _ => ?_)
      refine R_iload (pc := 115) dL_isAccepted_115 rfl ?_
      refine R_iconst (pc := 117) (x := nI 5) dL_isAccepted_117 rfl ?_
      refine R_icmp_ne (pc := 118) (t := 131) dL_isAccepted_118 (by decide) (fun _ => ?_) (fun hz9 => absurd hz9 (by decide))
      refine R_iload (pc := 131) dL_isAccepted_131 rfl ?_
      refine R_bipush (pc := 133) (x := nI 6) dL_isAccepted_133 (by decide) ?_
      refine R_icmp_ne (pc := 135) (t := 145) dL_isAccepted_135 (by decide) (fun _ => ?_) (fun hz9 => absurd hz9 (by decide))
      exact nxt (a + 1) b (by rw [tc, ha]; rfl) (by rw [hr, hb]; rfl) _ _ _ _ w3
    · have ow := t5 (by omega)
      refine R_iload (pc := 35) dL_isAccepted_35 rfl ?_
      refine R_aload_n (pc := 37) dL_isAccepted_37 rfl ?_
      refine R_iconst (pc := 38) (x := nI 0) dL_isAccepted_38 rfl ?_
      refine R_callV (pc := 39) dL_isAccepted_39 rfl w.cls.choose_spec rfl rfl ?_
      refine o_told (j := 0) w k (by omega) (fun h1 z1 w1 => ?_)
      rw [show toA (V, R).1 0 = nI (nU U) from ac.1.2.1]
      refine R_icmp_ge (pc := 42) (t := 151) dL_isAccepted_42 (by decide) (fun hz9 => absurd hz9 (nI_ge (by omega) (by omega))) (fun _ => ?_)
      refine R_aload_n (pc := 45) dL_isAccepted_45 rfl ?_
      refine R_iload (pc := 46) dL_isAccepted_46 rfl ?_
      refine R_callV (pc := 48) dL_isAccepted_48 rfl w1.cls.choose_spec rfl rfl ?_
      refine o_reason w1 k (show i < kU V by rw [ac.1.2.2.1]; exact hi) (fun h2 z2 w2 => ?_)
      rw [show (V, R).1 (1063 + i) = nI 1 from tv]
      refine R_istore (pc := 51) dL_isAccepted_51 (Nat.le_of_ble_eq_true rfl) rfl ?_
      refine R_aload_n (pc := 53) dL_isAccepted_53 rfl ?_
      refine R_iload (pc := 54) dL_isAccepted_54 rfl ?_
      refine R_bipush (pc := 56) (x := nI 9) dL_isAccepted_56 (by decide) ?_
      refine R_callV (pc := 58) dL_isAccepted_58 rfl w2.cls.choose_spec rfl rfl ?_
      refine o_card (j := 9) w2 k (show i < nU V by rw [ac.1.1]; exact hi) (by omega) (fun h3 z3 w3 => ?_)
      rw [show caA (V, R).1 i 9 = nI 1 from ow]
      refine R_istore (pc := 61) dL_isAccepted_61 (Nat.le_of_ble_eq_true rfl) rfl ?_
      refine R_iload (pc := 63) dL_isAccepted_63 rfl ?_
      refine R_if_ne (pc := 65) (t := 75) dL_isAccepted_65 (by decide) (fun _ => ?_) (fun hz9 => absurd hz9 (by decide))
      refine R_iload (pc := 75) dL_isAccepted_75 rfl ?_
      refine R_istore (pc := 77) dL_isAccepted_77 (Nat.le_of_ble_eq_true rfl) rfl ?_
      refine R_iload (pc := 79) dL_isAccepted_79 rfl ?_
      refine R_if_le (pc := 81) (t := 98) dL_isAccepted_81 (by decide) (fun hz9 => absurd hz9 (by decide)) (fun _ => ?_)
      refine R_iload (pc := 84) dL_isAccepted_84 rfl ?_
      refine R_bipush (pc := 86) (x := nI 6) dL_isAccepted_86 (by decide) ?_
      refine R_icmp_ge (pc := 88) (t := 98) dL_isAccepted_88 (by decide) (fun hz9 => absurd hz9 (by decide)) (fun _ => ?_)
      refine R_iload (pc := 91) dL_isAccepted_91 rfl ?_
      refine R_iconst (pc := 93) (x := nI 1) dL_isAccepted_93 rfl ?_
      refine R_iadd (pc := 94) dL_isAccepted_94 ?_
      rw [nI_add]
      refine R_goto (pc := 95) (t := 100) dL_isAccepted_95 (by decide) ?_
      refine R_istore (pc := 100) dL_isAccepted_100 (Nat.le_of_ble_eq_true rfl) rfl ?_
      refine R_iload (pc := 102) dL_isAccepted_102 rfl ?_
      refine R_iconst (pc := 104) (x := nI 5) dL_isAccepted_104 rfl ?_
      refine R_icmp_ge (pc := 105) (t := 115) dL_isAccepted_105 (by decide) (fun hz9 => absurd hz9 (by decide)) (fun _ => ?_)
      refine R_iload (pc := 108) dL_isAccepted_108 rfl ?_
      refine R_iload (pc := 110) dL_isAccepted_110 rfl ?_
      refine R_icmp_ne (pc := 112) (t := 143) dL_isAccepted_112 (by decide) (fun hz9 => absurd rfl hz9) (fun _ => ?_)
      refine R_iload (pc := 115) dL_isAccepted_115 rfl ?_
      refine R_iconst (pc := 117) (x := nI 5) dL_isAccepted_117 rfl ?_
      refine R_icmp_ne (pc := 118) (t := 131) dL_isAccepted_118 (by decide) (fun _ => ?_) (fun hz9 => absurd hz9 (by decide))
      refine R_iload (pc := 131) dL_isAccepted_131 rfl ?_
      refine R_bipush (pc := 133) (x := nI 6) dL_isAccepted_133 (by decide) ?_
      refine R_icmp_ne (pc := 135) (t := 145) dL_isAccepted_135 (by decide) (fun _ => ?_) (fun hz9 => absurd hz9 (by decide))
      exact nxt a (b + 1) (by rw [tc, ha]; rfl) (by rw [hr, hb]; rfl) _ _ _ _ w3
    · have ow := t5 (by omega)
      refine R_iload (pc := 35) dL_isAccepted_35 rfl ?_
      refine R_aload_n (pc := 37) dL_isAccepted_37 rfl ?_
      refine R_iconst (pc := 38) (x := nI 0) dL_isAccepted_38 rfl ?_
      refine R_callV (pc := 39) dL_isAccepted_39 rfl w.cls.choose_spec rfl rfl ?_
      refine o_told (j := 0) w k (by omega) (fun h1 z1 w1 => ?_)
      rw [show toA (V, R).1 0 = nI (nU U) from ac.1.2.1]
      refine R_icmp_ge (pc := 42) (t := 151) dL_isAccepted_42 (by decide) (fun hz9 => absurd hz9 (nI_ge (by omega) (by omega))) (fun _ => ?_)
      refine R_aload_n (pc := 45) dL_isAccepted_45 rfl ?_
      refine R_iload (pc := 46) dL_isAccepted_46 rfl ?_
      refine R_callV (pc := 48) dL_isAccepted_48 rfl w1.cls.choose_spec rfl rfl ?_
      refine o_reason w1 k (show i < kU V by rw [ac.1.2.2.1]; exact hi) (fun h2 z2 w2 => ?_)
      rw [show (V, R).1 (1063 + i) = nI 2 from tv]
      refine R_istore (pc := 51) dL_isAccepted_51 (Nat.le_of_ble_eq_true rfl) rfl ?_
      refine R_aload_n (pc := 53) dL_isAccepted_53 rfl ?_
      refine R_iload (pc := 54) dL_isAccepted_54 rfl ?_
      refine R_bipush (pc := 56) (x := nI 9) dL_isAccepted_56 (by decide) ?_
      refine R_callV (pc := 58) dL_isAccepted_58 rfl w2.cls.choose_spec rfl rfl ?_
      refine o_card (j := 9) w2 k (show i < nU V by rw [ac.1.1]; exact hi) (by omega) (fun h3 z3 w3 => ?_)
      rw [show caA (V, R).1 i 9 = nI 2 from ow]
      refine R_istore (pc := 61) dL_isAccepted_61 (Nat.le_of_ble_eq_true rfl) rfl ?_
      refine R_iload (pc := 63) dL_isAccepted_63 rfl ?_
      refine R_if_ne (pc := 65) (t := 75) dL_isAccepted_65 (by decide) (fun _ => ?_) (fun hz9 => absurd hz9 (by decide))
      refine R_iload (pc := 75) dL_isAccepted_75 rfl ?_
      refine R_istore (pc := 77) dL_isAccepted_77 (Nat.le_of_ble_eq_true rfl) rfl ?_
      refine R_iload (pc := 79) dL_isAccepted_79 rfl ?_
      refine R_if_le (pc := 81) (t := 98) dL_isAccepted_81 (by decide) (fun hz9 => absurd hz9 (by decide)) (fun _ => ?_)
      refine R_iload (pc := 84) dL_isAccepted_84 rfl ?_
      refine R_bipush (pc := 86) (x := nI 6) dL_isAccepted_86 (by decide) ?_
      refine R_icmp_ge (pc := 88) (t := 98) dL_isAccepted_88 (by decide) (fun hz9 => absurd hz9 (by decide)) (fun _ => ?_)
      refine R_iload (pc := 91) dL_isAccepted_91 rfl ?_
      refine R_iconst (pc := 93) (x := nI 1) dL_isAccepted_93 rfl ?_
      refine R_iadd (pc := 94) dL_isAccepted_94 ?_
      rw [nI_add]
      refine R_goto (pc := 95) (t := 100) dL_isAccepted_95 (by decide) ?_
      refine R_istore (pc := 100) dL_isAccepted_100 (Nat.le_of_ble_eq_true rfl) rfl ?_
      refine R_iload (pc := 102) dL_isAccepted_102 rfl ?_
      refine R_iconst (pc := 104) (x := nI 5) dL_isAccepted_104 rfl ?_
      refine R_icmp_ge (pc := 105) (t := 115) dL_isAccepted_105 (by decide) (fun hz9 => absurd hz9 (by decide)) (fun _ => ?_)
      refine R_iload (pc := 108) dL_isAccepted_108 rfl ?_
      refine R_iload (pc := 110) dL_isAccepted_110 rfl ?_
      refine R_icmp_ne (pc := 112) (t := 143) dL_isAccepted_112 (by decide) (fun hz9 => absurd rfl hz9) (fun _ => ?_)
      refine R_iload (pc := 115) dL_isAccepted_115 rfl ?_
      refine R_iconst (pc := 117) (x := nI 5) dL_isAccepted_117 rfl ?_
      refine R_icmp_ne (pc := 118) (t := 131) dL_isAccepted_118 (by decide) (fun _ => ?_) (fun hz9 => absurd hz9 (by decide))
      refine R_iload (pc := 131) dL_isAccepted_131 rfl ?_
      refine R_bipush (pc := 133) (x := nI 6) dL_isAccepted_133 (by decide) ?_
      refine R_icmp_ne (pc := 135) (t := 145) dL_isAccepted_135 (by decide) (fun _ => ?_) (fun hz9 => absurd hz9 (by decide))
      exact nxt a (b + 1) (by rw [tc, ha]; rfl) (by rw [hr, hb]; rfl) _ _ _ _ w3
    · have ow := t5 (by omega)
      refine R_iload (pc := 35) dL_isAccepted_35 rfl ?_
      refine R_aload_n (pc := 37) dL_isAccepted_37 rfl ?_
      refine R_iconst (pc := 38) (x := nI 0) dL_isAccepted_38 rfl ?_
      refine R_callV (pc := 39) dL_isAccepted_39 rfl w.cls.choose_spec rfl rfl ?_
      refine o_told (j := 0) w k (by omega) (fun h1 z1 w1 => ?_)
      rw [show toA (V, R).1 0 = nI (nU U) from ac.1.2.1]
      refine R_icmp_ge (pc := 42) (t := 151) dL_isAccepted_42 (by decide) (fun hz9 => absurd hz9 (nI_ge (by omega) (by omega))) (fun _ => ?_)
      refine R_aload_n (pc := 45) dL_isAccepted_45 rfl ?_
      refine R_iload (pc := 46) dL_isAccepted_46 rfl ?_
      refine R_callV (pc := 48) dL_isAccepted_48 rfl w1.cls.choose_spec rfl rfl ?_
      refine o_reason w1 k (show i < kU V by rw [ac.1.2.2.1]; exact hi) (fun h2 z2 w2 => ?_)
      rw [show (V, R).1 (1063 + i) = nI 3 from tv]
      refine R_istore (pc := 51) dL_isAccepted_51 (Nat.le_of_ble_eq_true rfl) rfl ?_
      refine R_aload_n (pc := 53) dL_isAccepted_53 rfl ?_
      refine R_iload (pc := 54) dL_isAccepted_54 rfl ?_
      refine R_bipush (pc := 56) (x := nI 9) dL_isAccepted_56 (by decide) ?_
      refine R_callV (pc := 58) dL_isAccepted_58 rfl w2.cls.choose_spec rfl rfl ?_
      refine o_card (j := 9) w2 k (show i < nU V by rw [ac.1.1]; exact hi) (by omega) (fun h3 z3 w3 => ?_)
      rw [show caA (V, R).1 i 9 = nI 3 from ow]
      refine R_istore (pc := 61) dL_isAccepted_61 (Nat.le_of_ble_eq_true rfl) rfl ?_
      refine R_iload (pc := 63) dL_isAccepted_63 rfl ?_
      refine R_if_ne (pc := 65) (t := 75) dL_isAccepted_65 (by decide) (fun _ => ?_) (fun hz9 => absurd hz9 (by decide))
      refine R_iload (pc := 75) dL_isAccepted_75 rfl ?_
      refine R_istore (pc := 77) dL_isAccepted_77 (Nat.le_of_ble_eq_true rfl) rfl ?_
      refine R_iload (pc := 79) dL_isAccepted_79 rfl ?_
      refine R_if_le (pc := 81) (t := 98) dL_isAccepted_81 (by decide) (fun hz9 => absurd hz9 (by decide)) (fun _ => ?_)
      refine R_iload (pc := 84) dL_isAccepted_84 rfl ?_
      refine R_bipush (pc := 86) (x := nI 6) dL_isAccepted_86 (by decide) ?_
      refine R_icmp_ge (pc := 88) (t := 98) dL_isAccepted_88 (by decide) (fun hz9 => absurd hz9 (by decide)) (fun _ => ?_)
      refine R_iload (pc := 91) dL_isAccepted_91 rfl ?_
      refine R_iconst (pc := 93) (x := nI 1) dL_isAccepted_93 rfl ?_
      refine R_iadd (pc := 94) dL_isAccepted_94 ?_
      rw [nI_add]
      refine R_goto (pc := 95) (t := 100) dL_isAccepted_95 (by decide) ?_
      refine R_istore (pc := 100) dL_isAccepted_100 (Nat.le_of_ble_eq_true rfl) rfl ?_
      refine R_iload (pc := 102) dL_isAccepted_102 rfl ?_
      refine R_iconst (pc := 104) (x := nI 5) dL_isAccepted_104 rfl ?_
      refine R_icmp_ge (pc := 105) (t := 115) dL_isAccepted_105 (by decide) (fun hz9 => absurd hz9 (by decide)) (fun _ => ?_)
      refine R_iload (pc := 108) dL_isAccepted_108 rfl ?_
      refine R_iload (pc := 110) dL_isAccepted_110 rfl ?_
      refine R_icmp_ne (pc := 112) (t := 143) dL_isAccepted_112 (by decide) (fun hz9 => absurd rfl hz9) (fun _ => ?_)
      refine R_iload (pc := 115) dL_isAccepted_115 rfl ?_
      refine R_iconst (pc := 117) (x := nI 5) dL_isAccepted_117 rfl ?_
      refine R_icmp_ne (pc := 118) (t := 131) dL_isAccepted_118 (by decide) (fun _ => ?_) (fun hz9 => absurd hz9 (by decide))
      refine R_iload (pc := 131) dL_isAccepted_131 rfl ?_
      refine R_bipush (pc := 133) (x := nI 6) dL_isAccepted_133 (by decide) ?_
      refine R_icmp_ne (pc := 135) (t := 145) dL_isAccepted_135 (by decide) (fun _ => ?_) (fun hz9 => absurd hz9 (by decide))
      exact nxt a (b + 1) (by rw [tc, ha]; rfl) (by rw [hr, hb]; rfl) _ _ _ _ w3
    · have ow := t5 (by omega)
      refine R_iload (pc := 35) dL_isAccepted_35 rfl ?_
      refine R_aload_n (pc := 37) dL_isAccepted_37 rfl ?_
      refine R_iconst (pc := 38) (x := nI 0) dL_isAccepted_38 rfl ?_
      refine R_callV (pc := 39) dL_isAccepted_39 rfl w.cls.choose_spec rfl rfl ?_
      refine o_told (j := 0) w k (by omega) (fun h1 z1 w1 => ?_)
      rw [show toA (V, R).1 0 = nI (nU U) from ac.1.2.1]
      refine R_icmp_ge (pc := 42) (t := 151) dL_isAccepted_42 (by decide) (fun hz9 => absurd hz9 (nI_ge (by omega) (by omega))) (fun _ => ?_)
      refine R_aload_n (pc := 45) dL_isAccepted_45 rfl ?_
      refine R_iload (pc := 46) dL_isAccepted_46 rfl ?_
      refine R_callV (pc := 48) dL_isAccepted_48 rfl w1.cls.choose_spec rfl rfl ?_
      refine o_reason w1 k (show i < kU V by rw [ac.1.2.2.1]; exact hi) (fun h2 z2 w2 => ?_)
      rw [show (V, R).1 (1063 + i) = nI 4 from tv]
      refine R_istore (pc := 51) dL_isAccepted_51 (Nat.le_of_ble_eq_true rfl) rfl ?_
      refine R_aload_n (pc := 53) dL_isAccepted_53 rfl ?_
      refine R_iload (pc := 54) dL_isAccepted_54 rfl ?_
      refine R_bipush (pc := 56) (x := nI 9) dL_isAccepted_56 (by decide) ?_
      refine R_callV (pc := 58) dL_isAccepted_58 rfl w2.cls.choose_spec rfl rfl ?_
      refine o_card (j := 9) w2 k (show i < nU V by rw [ac.1.1]; exact hi) (by omega) (fun h3 z3 w3 => ?_)
      rw [show caA (V, R).1 i 9 = nI 4 from ow]
      refine R_istore (pc := 61) dL_isAccepted_61 (Nat.le_of_ble_eq_true rfl) rfl ?_
      refine R_iload (pc := 63) dL_isAccepted_63 rfl ?_
      refine R_if_ne (pc := 65) (t := 75) dL_isAccepted_65 (by decide) (fun _ => ?_) (fun hz9 => absurd hz9 (by decide))
      refine R_iload (pc := 75) dL_isAccepted_75 rfl ?_
      refine R_istore (pc := 77) dL_isAccepted_77 (Nat.le_of_ble_eq_true rfl) rfl ?_
      refine R_iload (pc := 79) dL_isAccepted_79 rfl ?_
      refine R_if_le (pc := 81) (t := 98) dL_isAccepted_81 (by decide) (fun hz9 => absurd hz9 (by decide)) (fun _ => ?_)
      refine R_iload (pc := 84) dL_isAccepted_84 rfl ?_
      refine R_bipush (pc := 86) (x := nI 6) dL_isAccepted_86 (by decide) ?_
      refine R_icmp_ge (pc := 88) (t := 98) dL_isAccepted_88 (by decide) (fun hz9 => absurd hz9 (by decide)) (fun _ => ?_)
      refine R_iload (pc := 91) dL_isAccepted_91 rfl ?_
      refine R_iconst (pc := 93) (x := nI 1) dL_isAccepted_93 rfl ?_
      refine R_iadd (pc := 94) dL_isAccepted_94 ?_
      rw [nI_add]
      refine R_goto (pc := 95) (t := 100) dL_isAccepted_95 (by decide) ?_
      refine R_istore (pc := 100) dL_isAccepted_100 (Nat.le_of_ble_eq_true rfl) rfl ?_
      refine R_iload (pc := 102) dL_isAccepted_102 rfl ?_
      refine R_iconst (pc := 104) (x := nI 5) dL_isAccepted_104 rfl ?_
      refine R_icmp_ge (pc := 105) (t := 115) dL_isAccepted_105 (by decide) (fun hz9 => absurd hz9 (by decide)) (fun _ => ?_)
      refine R_iload (pc := 108) dL_isAccepted_108 rfl ?_
      refine R_iload (pc := 110) dL_isAccepted_110 rfl ?_
      refine R_icmp_ne (pc := 112) (t := 143) dL_isAccepted_112 (by decide) (fun hz9 => absurd rfl hz9) (fun _ => ?_)
      refine R_iload (pc := 115) dL_isAccepted_115 rfl ?_
      refine R_iconst (pc := 117) (x := nI 5) dL_isAccepted_117 rfl ?_
      refine R_icmp_ne (pc := 118) (t := 131) dL_isAccepted_118 (by decide) (fun _ => ?_) (fun hz9 => absurd hz9 (by decide))
      refine R_iload (pc := 131) dL_isAccepted_131 rfl ?_
      refine R_bipush (pc := 133) (x := nI 6) dL_isAccepted_133 (by decide) ?_
      refine R_icmp_ne (pc := 135) (t := 145) dL_isAccepted_135 (by decide) (fun _ => ?_) (fun hz9 => absurd hz9 (by decide))
      exact nxt a (b + 1) (by rw [tc, ha]; rfl) (by rw [hr, hb]; rfl) _ _ _ _ w3
    · obtain ⟨te1, te2⟩ := te rfl
      refine R_iload (pc := 35) dL_isAccepted_35 rfl ?_
      refine R_aload_n (pc := 37) dL_isAccepted_37 rfl ?_
      refine R_iconst (pc := 38) (x := nI 0) dL_isAccepted_38 rfl ?_
      refine R_callV (pc := 39) dL_isAccepted_39 rfl w.cls.choose_spec rfl rfl ?_
      refine o_told (j := 0) w k (by omega) (fun h1 z1 w1 => ?_)
      rw [show toA (V, R).1 0 = nI (nU U) from ac.1.2.1]
      refine R_icmp_ge (pc := 42) (t := 151) dL_isAccepted_42 (by decide) (fun hz9 => absurd hz9 (nI_ge (by omega) (by omega))) (fun _ => ?_)
      refine R_aload_n (pc := 45) dL_isAccepted_45 rfl ?_
      refine R_iload (pc := 46) dL_isAccepted_46 rfl ?_
      refine R_callV (pc := 48) dL_isAccepted_48 rfl w1.cls.choose_spec rfl rfl ?_
      refine o_reason w1 k (show i < kU V by rw [ac.1.2.2.1]; exact hi) (fun h2 z2 w2 => ?_)
      rw [show (V, R).1 (1063 + i) = nI 5 from tv]
      refine R_istore (pc := 51) dL_isAccepted_51 (Nat.le_of_ble_eq_true rfl) rfl ?_
      refine R_aload_n (pc := 53) dL_isAccepted_53 rfl ?_
      refine R_iload (pc := 54) dL_isAccepted_54 rfl ?_
      refine R_bipush (pc := 56) (x := nI 9) dL_isAccepted_56 (by decide) ?_
      refine R_callV (pc := 58) dL_isAccepted_58 rfl w2.cls.choose_spec rfl rfl ?_
      refine o_card (j := 9) w2 k (show i < nU V by rw [ac.1.1]; exact hi) (by omega) (fun h3 z3 w3 => ?_)
      rw [show caA (V, R).1 i 9 = nI 0 from te1]
      refine R_istore (pc := 61) dL_isAccepted_61 (Nat.le_of_ble_eq_true rfl) rfl ?_
      refine R_iload (pc := 63) dL_isAccepted_63 rfl ?_
      refine R_if_ne (pc := 65) (t := 75) dL_isAccepted_65 (by decide) (fun _ => ?_) (fun hz9 => absurd hz9 (by decide))
      refine R_iload (pc := 75) dL_isAccepted_75 rfl ?_
      refine R_istore (pc := 77) dL_isAccepted_77 (Nat.le_of_ble_eq_true rfl) rfl ?_
      refine R_iload (pc := 79) dL_isAccepted_79 rfl ?_
      refine R_if_le (pc := 81) (t := 98) dL_isAccepted_81 (by decide) (fun hz9 => absurd hz9 (by decide)) (fun _ => ?_)
      refine R_iload (pc := 84) dL_isAccepted_84 rfl ?_
      refine R_bipush (pc := 86) (x := nI 6) dL_isAccepted_86 (by decide) ?_
      refine R_icmp_ge (pc := 88) (t := 98) dL_isAccepted_88 (by decide) (fun hz9 => absurd hz9 (by decide)) (fun _ => ?_)
      refine R_iload (pc := 91) dL_isAccepted_91 rfl ?_
      refine R_iconst (pc := 93) (x := nI 1) dL_isAccepted_93 rfl ?_
      refine R_iadd (pc := 94) dL_isAccepted_94 ?_
      rw [nI_add]
      refine R_goto (pc := 95) (t := 100) dL_isAccepted_95 (by decide) ?_
      refine R_istore (pc := 100) dL_isAccepted_100 (Nat.le_of_ble_eq_true rfl) rfl ?_
      refine R_iload (pc := 102) dL_isAccepted_102 rfl ?_
      refine R_iconst (pc := 104) (x := nI 5) dL_isAccepted_104 rfl ?_
      refine R_icmp_ge (pc := 105) (t := 115) dL_isAccepted_105 (by decide) (fun _ => ?_) (fun hz9 => absurd (by decide) hz9)
      refine R_iload (pc := 115) dL_isAccepted_115 rfl ?_
      refine R_iconst (pc := 117) (x := nI 5) dL_isAccepted_117 rfl ?_
      refine R_icmp_ne (pc := 118) (t := 131) dL_isAccepted_118 (by decide) (fun hz9 => absurd rfl hz9) (fun _ => ?_)
      refine R_iload (pc := 121) dL_isAccepted_121 rfl ?_
      refine R_if_ne (pc := 123) (t := 143) dL_isAccepted_123 (by decide) (fun hz9 => absurd (show nI 0 = 0 from rfl) hz9) (fun _ => ?_)
      refine R_iload_n (pc := 126) dL_isAccepted_126 rfl ?_
      refine R_iconst (pc := 127) (x := nI 1) dL_isAccepted_127 rfl ?_
      refine R_icmp_ne (pc := 128) (t := 143) dL_isAccepted_128 (by decide) (fun hz9 => absurd (by rw [te2]) hz9) (fun _ => ?_)
      refine R_iload (pc := 131) dL_isAccepted_131 rfl ?_
      refine R_bipush (pc := 133) (x := nI 6) dL_isAccepted_133 (by decide) ?_
      refine R_icmp_ne (pc := 135) (t := 145) dL_isAccepted_135 (by decide) (fun _ => ?_) (fun hz9 => absurd hz9 (by decide))
      exact nxt a (b + 1) (by rw [tc, ha]; rfl) (by rw [hr, hb]; rfl) _ _ _ _ w3
    · have tz1 := tz rfl
      refine R_iload (pc := 35) dL_isAccepted_35 rfl ?_
      refine R_aload_n (pc := 37) dL_isAccepted_37 rfl ?_
      refine R_iconst (pc := 38) (x := nI 0) dL_isAccepted_38 rfl ?_
      refine R_callV (pc := 39) dL_isAccepted_39 rfl w.cls.choose_spec rfl rfl ?_
      refine o_told (j := 0) w k (by omega) (fun h1 z1 w1 => ?_)
      rw [show toA (V, R).1 0 = nI (nU U) from ac.1.2.1]
      refine R_icmp_ge (pc := 42) (t := 151) dL_isAccepted_42 (by decide) (fun hz9 => absurd hz9 (nI_ge (by omega) (by omega))) (fun _ => ?_)
      refine R_aload_n (pc := 45) dL_isAccepted_45 rfl ?_
      refine R_iload (pc := 46) dL_isAccepted_46 rfl ?_
      refine R_callV (pc := 48) dL_isAccepted_48 rfl w1.cls.choose_spec rfl rfl ?_
      refine o_reason w1 k (show i < kU V by rw [ac.1.2.2.1]; exact hi) (fun h2 z2 w2 => ?_)
      rw [show (V, R).1 (1063 + i) = nI 6 from tv]
      refine R_istore (pc := 51) dL_isAccepted_51 (Nat.le_of_ble_eq_true rfl) rfl ?_
      refine R_aload_n (pc := 53) dL_isAccepted_53 rfl ?_
      refine R_iload (pc := 54) dL_isAccepted_54 rfl ?_
      refine R_bipush (pc := 56) (x := nI 9) dL_isAccepted_56 (by decide) ?_
      refine R_callV (pc := 58) dL_isAccepted_58 rfl w2.cls.choose_spec rfl rfl ?_
      refine o_card (j := 9) w2 k (show i < nU V by rw [ac.1.1]; exact hi) (by omega) (fun h3 z3 w3 => ?_)
      rw [show caA (V, R).1 i 9 = caA V i 9 from rfl]
      refine R_istore (pc := 61) dL_isAccepted_61 (Nat.le_of_ble_eq_true rfl) rfl ?_
      refine R_iload (pc := 63) dL_isAccepted_63 rfl ?_
      refine R_if_ne (pc := 65) (t := 75) dL_isAccepted_65 (by decide) (fun _ => ?_) (fun hz9 => absurd hz9 (by decide))
      refine R_iload (pc := 75) dL_isAccepted_75 rfl ?_
      refine R_istore (pc := 77) dL_isAccepted_77 (Nat.le_of_ble_eq_true rfl) rfl ?_
      refine R_iload (pc := 79) dL_isAccepted_79 rfl ?_
      refine R_if_le (pc := 81) (t := 98) dL_isAccepted_81 (by decide) (fun hz9 => absurd hz9 (by decide)) (fun _ => ?_)
      refine R_iload (pc := 84) dL_isAccepted_84 rfl ?_
      refine R_bipush (pc := 86) (x := nI 6) dL_isAccepted_86 (by decide) ?_
      refine R_icmp_ge (pc := 88) (t := 98) dL_isAccepted_88 (by decide) (fun _ => ?_) (fun hz9 => absurd (by decide) hz9)
      refine R_iload (pc := 98) dL_isAccepted_98 rfl ?_
      refine R_istore (pc := 100) dL_isAccepted_100 (Nat.le_of_ble_eq_true rfl) rfl ?_
      refine R_iload (pc := 102) dL_isAccepted_102 rfl ?_
      refine R_iconst (pc := 104) (x := nI 5) dL_isAccepted_104 rfl ?_
      refine R_icmp_ge (pc := 105) (t := 115) dL_isAccepted_105 (by decide) (fun _ => ?_) (fun hz9 => absurd (by decide) hz9)
      refine R_iload (pc := 115) dL_isAccepted_115 rfl ?_
      refine R_iconst (pc := 117) (x := nI 5) dL_isAccepted_117 rfl ?_
      refine R_icmp_ne (pc := 118) (t := 131) dL_isAccepted_118 (by decide) (fun _ => ?_) (fun hz9 => absurd hz9 (by decide))
      refine R_iload (pc := 131) dL_isAccepted_131 rfl ?_
      refine R_bipush (pc := 133) (x := nI 6) dL_isAccepted_133 (by decide) ?_
      refine R_icmp_ne (pc := 135) (t := 145) dL_isAccepted_135 (by decide) (fun hz9 => absurd rfl hz9) (fun _ => ?_)
      refine R_iload_n (pc := 138) dL_isAccepted_138 rfl ?_
      refine R_iconst (pc := 139) (x := nI 2) dL_isAccepted_139 rfl ?_
      refine R_icmp_eq (pc := 140) (t := 145) dL_isAccepted_140 (by decide) (fun _ => ?_) (fun hz9 => absurd (by rw [tz1]) hz9)
      exact nxt a b (by rw [tc, ha]; rfl) (by rw [hr, hb]; rfl) _ _ _ _ w3
theorem l_isAccepted {v : Nat} (hg : GsOK gs) (hv : v ≤ 2) (w : Wx sA gs x Y K0 F0 s1 s2 t1 t2 G S [] (h, z)) (k : OKS S) (kk : ∀ (h' : Nat → Option am_C) (z' : Nat × Nat), Wx sA gs x Y K0 F0 s1 s2 t1 t2 G S [] (h', z') → Q (some (.int (nI 1))) (h', z')) : Rn sA mL_isAccepted 0 [some (.ref x), some (.int (nI v)), none, none, none, none, none, none, none, none, none] [] (h, z) Q := by
  obtain ⟨U, R⟩ := S
  have nw := w.nw k
  dsimp only at nw
  obtain ⟨ea, t, c, ac⟩ := acp_all (U := U) (v := v) nw.2.2.2.2.2.2.1 nw.1 nw.2.1 hv
  have hp : setP (nI 0) (nI v) := ⟨0, v, by omega, by rw [if_pos rfl]; exact hv, rfl, rfl⟩
  have eF : fSet (nI 0) (nI v) (U, R) = (U 12, (upd U 12 (nI v), R)) := by
    unfold fSet
    rw [icl_t hp, cI_n (by omega)]
  have eL : rcL (setP (nI 0) (nI v)) (U, R) [] = [U] := icl_t hp
  have eR : fRun (upd U 12 (nI v), R) = (nI (acA U v), (runV (PfU (upd U 12 (nI v))) (WfU (upd U 12 (nI v))) (upd U 12 (nI v)) (nU (upd U 12 (nI v))), R)) := by
    unfold fRun
    rw [ea]
  generalize hVV : runV (PfU (upd U 12 (nI v))) (WfU (upd U 12 (nI v))) (upd U 12 (nI v)) (nU (upd U 12 (nI v))) = V at eR ac
  obtain ⟨⟨n1, n2, n3, n4⟩, b1, b2, b3, b4, b5, b6, b7⟩ := id ac
  have hc40 : acA U v ≤ 40 := by rw [← b3]; omega
  have h040 : acA U 0 ≤ 40 := by have := accN_le (PfU U) (WfU U) U (nI 0) (nU U); unfold acA; omega
  refine R_aload_n (pc := 0) dL_isAccepted_0 rfl ?_
  refine R_iload_n (pc := 1) dL_isAccepted_1 rfl ?_
  refine R_callV (pc := 2) dL_isAccepted_2 rfl w.cls.choose_spec rfl rfl ?_
  refine o_accepts w k hg hv (fun h1 z1 w1 => ?_)
  rw [show acA (U, R).1 v = acA U v from rfl]
  refine R_istore_n (pc := 5) dL_isAccepted_5 (Nat.le_of_ble_eq_true rfl) rfl ?_
  refine R_aload_n (pc := 6) dL_isAccepted_6 rfl ?_
  refine R_iconst (pc := 7) (x := nI 0) dL_isAccepted_7 rfl ?_
  refine R_callV (pc := 8) dL_isAccepted_8 rfl w1.cls.choose_spec rfl rfl ?_
  refine o_accepts (j := 0) w1 k hg (by omega) (fun h2 z2 w2 => ?_)
  rw [show acA (U, R).1 0 = acA U 0 from rfl]
  refine R_istore_n (pc := 11) dL_isAccepted_11 (Nat.le_of_ble_eq_true rfl) rfl ?_
  refine R_aload_n (pc := 12) dL_isAccepted_12 rfl ?_
  refine R_iconst (pc := 13) (x := nI 0) dL_isAccepted_13 rfl ?_
  refine R_iload_n (pc := 14) dL_isAccepted_14 rfl ?_
  refine R_callV (pc := 15) dL_isAccepted_15 rfl w2.cls.choose_spec rfl rfl ?_
  refine o_set w2 k (Nat.zero_le _) hg (fun h3 z3 k3 w3 => ?_)
  rw [eF] at k3 w3 ⊢
  rw [eL] at w3
  have k3 : OKS (upd U 12 (nI v), R) := k3
  have w3 : Wx sA gs x Y K0 F0 s1 s2 t1 t2 G (upd U 12 (nI v), R) [U] (h3, z3) := w3
  refine R_istore (pc := 18) dL_isAccepted_18 (Nat.le_of_ble_eq_true rfl) rfl ?_
  refine R_aload_n (pc := 20) dL_isAccepted_20 rfl ?_
  refine R_callV (pc := 21) dL_isAccepted_21 rfl w3.cls.choose_spec rfl rfl ?_
  refine o_run w3 k3 (Nat.le_of_ble_eq_true rfl) (fun h4 z4 k4 w4 => ?_)
  rw [eR] at k4 w4 ⊢
  have k4 : OKS (V, R) := k4
  have w4 : Wx sA gs x Y K0 F0 s1 s2 t1 t2 G (V, R) [upd U 12 (nI v), U] (h4, z4) := w4
  refine R_istore (pc := 24) dL_isAccepted_24 (Nat.le_of_ble_eq_true rfl) rfl ?_
  refine R_iconst (pc := 26) (x := nI 0) dL_isAccepted_26 rfl ?_
  refine R_istore (pc := 27) dL_isAccepted_27 (Nat.le_of_ble_eq_true rfl) rfl ?_
  refine R_iconst (pc := 29) (x := nI 0) dL_isAccepted_29 rfl ?_
  refine R_istore (pc := 30) dL_isAccepted_30 (Nat.le_of_ble_eq_true rfl) rfl ?_
  refine R_iconst (pc := 32) (x := nI 0) dL_isAccepted_32 rfl ?_
  refine R_istore (pc := 33) dL_isAccepted_33 (Nat.le_of_ble_eq_true rfl) rfl ?_
  refine ac_loop k4 hv ac (fun h5 z5 o9 o10 w5 => ?_) (nU U) 0 0 0 h4 z4 _ _ (by omega) b2.symm rfl w4
  have fin : ∀ (h9 : Nat → Option am_C) (z9 : Nat × Nat) (o9 o10 : Option Value), Wx sA gs x Y K0 F0 s1 s2 t1 t2 G (V, R) [upd U 12 (nI v), U] (h9, z9) → Rn sA mL_isAccepted 200 [some (.ref x), some (.int (nI v)), some (.int (nI (acA U v))), some (.int (nI (acA U 0))), some (.int (U 12)), some (.int (nI (acA U v))), some (.int (nI (c (nU U)))), some (.int (nI (rfN t (nU U)))), some (.int (nI (nU U))), o9, o10] [] (h9, z9) Q := by
    intro h9 z9 o9 o10 w9
    refine R_iconst (pc := 200) (x := nI 1) dL_isAccepted_200 rfl ?_
    refine R_goto (pc := 201) (t := 205) dL_isAccepted_201 (by decide) ?_
    refine R_istore (pc := 205) dL_isAccepted_205 (Nat.le_of_ble_eq_true rfl) rfl ?_
    refine R_aload_n (pc := 207) dL_isAccepted_207 rfl ?_
    refine R_callV (pc := 208) dL_isAccepted_208 rfl w9.cls.choose_spec rfl rfl ?_
    refine o_undo w9 k4 (fun q10 h10 z10 hq10 w10 => ?_)
    refine R_if_lt (pc := 211) (t := 240) dL_isAccepted_211 (by decide) (fun hz9 => absurd hz9 (nI_pos (by omega))) (fun _ => ?_)
    refine R_aload_n (pc := 214) dL_isAccepted_214 rfl ?_
    refine R_callV (pc := 215) dL_isAccepted_215 rfl w10.cls.choose_spec rfl rfl ?_
    refine o_undo w10 k3 (fun q11 h11 z11 hq11 w11 => ?_)
    refine R_if_lt (pc := 218) (t := 240) dL_isAccepted_218 (by decide) (fun hz9 => absurd hz9 (nI_pos (by omega))) (fun _ => ?_)
    refine R_iload (pc := 221) dL_isAccepted_221 rfl ?_
    refine R_if_eq (pc := 223) (t := 240) dL_isAccepted_223 (by decide) (fun hz9 => absurd hz9 (by decide)) (fun _ => ?_)
    refine R_aload_n (pc := 226) dL_isAccepted_226 rfl ?_
    refine R_iconst (pc := 227) (x := nI 0) dL_isAccepted_227 rfl ?_
    refine R_callV (pc := 228) dL_isAccepted_228 rfl w11.cls.choose_spec rfl rfl ?_
    refine o_setting (i := 0) w11 k (by omega) (fun h12 z12 w12 => ?_)
    refine R_iload (pc := 231) dL_isAccepted_231 rfl ?_
    refine R_icmp_ne (pc := 233) (t := 240) dL_isAccepted_233 (by decide) (fun hz9 => absurd rfl hz9) (fun _ => ?_)
    refine R_iconst (pc := 236) (x := nI 1) dL_isAccepted_236 rfl ?_
    refine R_goto (pc := 237) (t := 241) dL_isAccepted_237 (by decide) ?_
    refine R_zret (pc := 241) dL_isAccepted_241 rfl (by decide) ?_
    exact kk _ _ w12
  refine R_iload (pc := 151) dL_isAccepted_151 rfl ?_
  refine R_iload_n (pc := 153) dL_isAccepted_153 rfl ?_
  refine R_icmp_ne (pc := 154) (t := 204) dL_isAccepted_154 (by decide) (fun hz9 => absurd rfl hz9) (fun _ => ?_)
  refine R_iload (pc := 157) dL_isAccepted_157 rfl ?_
  refine R_iload (pc := 159) dL_isAccepted_159 rfl ?_
  refine R_icmp_ne (pc := 161) (t := 204) dL_isAccepted_161 (by decide) (fun hz9 => absurd (by rw [b3]) hz9) (fun _ => ?_)
  refine R_iload (pc := 164) dL_isAccepted_164 rfl ?_
  refine R_aload_n (pc := 166) dL_isAccepted_166 rfl ?_
  refine R_iconst (pc := 167) (x := nI 3) dL_isAccepted_167 rfl ?_
  refine R_callV (pc := 168) dL_isAccepted_168 rfl w5.cls.choose_spec rfl rfl ?_
  refine o_told (j := 3) w5 k4 (by omega) (fun h6 z6 w6 => ?_)
  rw [show toA (V, R).1 3 = nI (rfN t (nU U)) from b6]
  refine R_icmp_ne (pc := 171) (t := 204) dL_isAccepted_171 (by decide) (fun hz9 => absurd rfl hz9) (fun _ => ?_)
  refine R_iload_n (pc := 174) dL_isAccepted_174 rfl ?_
  refine R_iload_n (pc := 175) dL_isAccepted_175 rfl ?_
  refine R_icmp_gt (pc := 176) (t := 204) dL_isAccepted_176 (by decide) (fun hz9 => absurd hz9 (nI_nlt b5 (by omega))) (fun _ => ?_)
  refine R_iload_n (pc := 179) dL_isAccepted_179 rfl ?_
  refine R_iconst (pc := 180) (x := nI 1) dL_isAccepted_180 rfl ?_
  refine R_icmp_ne (pc := 181) (t := 200) dL_isAccepted_181 (by decide) (fun h181 => ?_) (fun h181 => ?_)
  · skip
    exact fin _ _ _ _ w6
  · skip
    refine R_aload_n (pc := 184) dL_isAccepted_184 rfl ?_
    refine R_iconst (pc := 185) (x := nI 3) dL_isAccepted_185 rfl ?_
    refine R_callV (pc := 186) dL_isAccepted_186 rfl w6.cls.choose_spec rfl rfl ?_
    refine o_told (j := 3) w6 k4 (by omega) (fun h7 z7 w7 => ?_)
    rw [show toA (V, R).1 3 = nI (rfN t (nU U)) from b6]
    refine R_aload_n (pc := 189) dL_isAccepted_189 rfl ?_
    refine R_iconst (pc := 190) (x := nI 0) dL_isAccepted_190 rfl ?_
    refine R_callV (pc := 191) dL_isAccepted_191 rfl w7.cls.choose_spec rfl rfl ?_
    refine o_told (j := 0) w7 k4 (by omega) (fun h8 z8 w8 => ?_)
    rw [show toA (V, R).1 0 = nI (nU U) from n2]
    refine R_iload (pc := 194) dL_isAccepted_194 rfl ?_
    refine R_isub (pc := 196) dL_isAccepted_196 ?_
    rw [pk_sub b4]
    refine R_icmp_ne (pc := 197) (t := 204) dL_isAccepted_197 (by decide) (fun hz9 => absurd (by have h1 := b7 ((nI_eq (by omega) (by omega)).mp (Decidable.byContradiction (fun q => q h181))); congr 1; omega) hz9) (fun _ => ?_)
    exact fin _ _ _ _ w8
end LW3
