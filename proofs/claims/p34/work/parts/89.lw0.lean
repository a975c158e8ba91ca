section LW0
variable {sA : Nat} {gs : Nat → Int32} {x Y : Nat} {K0 : am_H} {F0 : Nat → Prop} {s1 s2 t1 t2 : Nat} {G : Nat → am_C → Prop} {S : St5} {h : Nat → Option am_C} {z : Nat × Nat} {Q : Option Value → am_H → Prop}
def lo (v : Int32) (n : Nat) : Nat := v.toBitVec.toNat % 2 ^ 31 % n
abbrev sh (v : Int32) (k : Nat) : Int32 := v >>> (nI k &&& 31)
theorem lo_lt {v : Int32} {n : Nat} (hn : 0 < n) : lo v n < n := Nat.mod_lt _ hn
theorem z_of {k : Nat} (h : nI k = 0) (hk : k < 100000) : k = 0 := (nI_eq (b := 0) (by omega) (by omega)).mp h
theorem nz_of {k : Nat} (h : ¬ nI k = 0) : ¬ k = 0 := fun e => h (by rw [e]; rfl)
def celL (L : Nat) (xs : Nat → Int32) (k : Nat) : Int32 := if k < L then xs k else 747796405 * (nI k + nI 1)
noncomputable def fN1 (q : Nat) (S : St5) : St5 := if 99 < q then (fWrite (nI 48 + nI (q / 100 % 10)) S).2 else S
noncomputable def fN2 (q : Nat) (S : St5) : St5 := if 9 < q then (fWrite (nI 48 + nI (q / 10 % 10)) S).2 else S
noncomputable def fNum (c : Int32) (q : Nat) (S : St5) : Int32 × St5 := fWrite (nI 48 + nI (q % 10)) (fN2 q (fN1 q (fWrite c S).2))
noncomputable def fW8 (v : Int32) (S : St5) : St5 := (fNum (nI 104) (lo (sh v 6) (if lo (sh v 20) 9 = 0 then 1000 else 500)) (fWrite (nI 32) (fNum (nI 119) (lo (sh v 4) 4) (fWrite (nI 32) (fNum (nI 103) (lo (sh v 2) 2) (fWrite (nI 32) (fNum (nI 100) (lo v 3) (fWipe S).2).2).2).2).2).2).2).2
noncomputable def fWr (v : Int32) (S : St5) : Int32 × St5 := if lo (sh v 23) 12 = 0 then fWrite (nI 32) (fW8 v S) else fNum (nI 114) (1 + lo (sh v 9) 900) (fWrite (nI 32) (fW8 v S)).2
noncomputable def crd (v : Int32) (S : St5) : Int32 := if nU S.1 = 0 then nI 0 else nI (lo (sh v 5) (nU S.1))
noncomputable def fChJ (v more : Int32) (S : St5) : Nat → Int32 × St5
  | 0 => if lo more 5 = 0 then fLay (nI (lo (sh more 3) 6)) (nI (lo (sh more 6) 20)) (nI 1 + nI (lo (sh more 11) 4)) S else fSet (nI 1) (nI (lo (sh more 3) 2)) S
  | 1 => fSet (nI 0) (nI (lo more 3)) S
  | 2 => fSet (nI 2) (nI 200 + nI (lo more 900)) S
  | 3 => fSet (nI 3) (nI (lo more 900)) S
  | 4 => fCtl (nI (lo more 3)) (if lo (sh more 2) 4 = 0 then (-1000009) else nI (lo (sh more 4) 2000)) S
  | 5 => fTake (crd v S) S
  | 6 => if nU S.1 = 0 then ((-1), S) else fMove (crd v S) (nI (lo more (nU S.1))) S
  | 7 => fRep (crd v S) (nI (lo more 24)) (if lo (sh more 5) 6 = 0 then (-1000009) else nI (lo (sh more 8) 10)) S
  | 8 => fMark (crd v S) (if lo more 3 = 0 then nI (lo (sh more 2) 4) else nI 0) (nI (lo (sh more 4) 24)) S
  | 9 => fMark (crd v S) (if lo more 3 = 0 then nI (lo (sh more 2) 4) else nI 0) (nI (lo (sh more 4) 24)) S
  | 10 => fPass (nI (lo more 24)) S
  | 11 => fSort (nI (lo more 3)) S
  | 12 => fSort (nI (lo more 3)) S
  | 13 => fSort (nI (lo more 3)) S
  | 14 => fRun S
  | 15 => fRun S
  | 16 => fRun S
  | 17 => ((-1), S)
  | 18 => if lo more 2 = 0 then fKeep (nI (lo (sh more 1) 2)) S else fBack (nI (lo (sh more 1) 2)) S
  | _ => fPunch (nI (lo (sh v 9) (nU S.1 + 1))) (fWr more S).2
/-- what the law's change makes of an object -/
noncomputable def fCh (v more : Int32) (S : St5) : Int32 × St5 := fChJ v more S (lo v 26)
theorem l_low {v : Int32} {n : Nat} (hn : 0 < n) (hn2 : n < 100000) (hQ : Q (some (.int (nI (lo v n)))) (h, z)) : Rn sA mL_low 0 [some (.int v), some (.int (nI n))] [] (h, z) Q := by
  refine R_iload_n (pc := 0) dL_low_0 rfl ?_
  refine R_ldc (pc := 1) (x := (2147483647)) dL_low_1 rfl ?_
  refine R_iand (pc := 3) dL_low_3 ?_
  rw [show v &&& (2147483647 : Int32) = nI (v.toBitVec.toNat % 2 ^ 31) from pk_and v 31 (by decide)]
  refine R_iload_n (pc := 4) dL_low_4 rfl ?_
  refine R_irem (pc := 5) dL_low_5 (nI_ne0 hn (by omega)) ?_
  rw [pk_rem (Nat.mod_lt _ (by decide)) hn (by omega)]
  refine R_iret (pc := 6) dL_low_6 rfl ?_
  exact hQ
theorem l_cell {b k L : Nat} {xs : Nat → Int32} (hb : h b = some (.inl (9, L, .inl xs))) (hL : L ≤ 260) (hk : k < 1000) (hQ : Q (some (.int (celL L xs k))) (h, z)) : Rn sA mL_cell 0 [some (.ref b), some (.int (nI k))] [] (h, z) Q := by
  refine R_iload_n (pc := 0) dL_cell_0 rfl ?_
  refine R_aload_n (pc := 1) dL_cell_1 rfl ?_
  refine R_alen (pc := 2) dL_cell_2 hb (Or.inr rfl) ?_
  refine R_icmp_ge (pc := 3) (t := 12) dL_cell_3 (by decide) (fun h3 => ?_) (fun h3 => ?_)
  · have e0 : celL L xs k = 747796405 * (nI k + nI 1) := if_neg (fun q => absurd h3 (nI_ge q (by omega)))
    rw [e0] at hQ
    refine R_ldc (pc := 12) (x := (747796405)) dL_cell_12 rfl ?_
    refine R_iload_n (pc := 14) dL_cell_14 rfl ?_
    refine R_iconst (pc := 15) (x := nI 1) dL_cell_15 rfl ?_
    refine R_iadd (pc := 16) dL_cell_16 ?_
    refine R_imul (pc := 17) dL_cell_17 ?_
    refine R_iret (pc := 18) dL_cell_18 rfl ?_
    exact hQ
  · have e0 : celL L xs k = xs k := if_pos (Decidable.byContradiction (fun q => h3 (nI_le (by omega) (by omega))))
    rw [e0] at hQ
    refine R_aload_n (pc := 6) dL_cell_6 rfl ?_
    refine R_iload_n (pc := 7) dL_cell_7 rfl ?_
    refine R_iald (pc := 8) dL_cell_8 hb (Or.inr rfl) rfl (Decidable.byContradiction (fun q => h3 (nI_le (by omega) (by omega)))) (by omega) ?_
    refine R_goto (pc := 9) (t := 18) dL_cell_9 (by decide) ?_
    refine R_iret (pc := 18) dL_cell_18 rfl ?_
    exact hQ
theorem n_48 {q : Nat} {c : Int32} {o3 : Option Value} (hq : q < 100000) (w : Wx sA gs x Y K0 F0 s1 s2 t1 t2 G S [] (h, z)) (k : OKS S) (kk : ∀ (h' : Nat → Option am_C) (z' : Nat × Nat), OKS (fWrite (nI 48 + nI (q % 10)) S).2 → Wx sA gs x Y K0 F0 s1 s2 t1 t2 G (fWrite (nI 48 + nI (q % 10)) S).2 [] (h', z') → Q (some (.int (fWrite (nI 48 + nI (q % 10)) S).1)) (h', z')) : Rn sA mL_number 48 [some (.ref x), some (.int c), some (.int (nI q)), o3] [] (h, z) Q := by
  refine R_aload_n (pc := 48) dL_number_48 rfl ?_
  refine R_bipush (pc := 49) (x := nI 48) dL_number_49 (by decide) ?_
  refine R_iload_n (pc := 51) dL_number_51 rfl ?_
  refine R_bipush (pc := 52) (x := nI 10) dL_number_52 (by decide) ?_
  refine R_irem (pc := 54) dL_number_54 (by decide) ?_
  rw [pk_rem (by omega) (by omega) (by omega)]
  refine R_iadd (pc := 55) dL_number_55 ?_
  refine R_callV (pc := 56) dL_number_56 rfl w.cls.choose_spec rfl rfl ?_
  refine o_write w k (fun h1 z1 k1 w1 => ?_)
  refine R_iret (pc := 59) dL_number_59 rfl ?_
  exact kk _ _ k1 w1
theorem n_27 {q : Nat} {c : Int32} {o3 : Option Value} (hq : q < 100000) (w : Wx sA gs x Y K0 F0 s1 s2 t1 t2 G S [] (h, z)) (k : OKS S) (kk : ∀ (h' : Nat → Option am_C) (z' : Nat × Nat), OKS ((fun S => fWrite (nI 48 + nI (q % 10)) (fN2 q S)) S).2 → Wx sA gs x Y K0 F0 s1 s2 t1 t2 G ((fun S => fWrite (nI 48 + nI (q % 10)) (fN2 q S)) S).2 [] (h', z') → Q (some (.int ((fun S => fWrite (nI 48 + nI (q % 10)) (fN2 q S)) S).1)) (h', z')) : Rn sA mL_number 27 [some (.ref x), some (.int c), some (.int (nI q)), o3] [] (h, z) Q := by
  refine R_iload_n (pc := 27) dL_number_27 rfl ?_
  refine R_bipush (pc := 28) (x := nI 9) dL_number_28 (by decide) ?_
  refine R_icmp_le (pc := 30) (t := 48) dL_number_30 (by decide) (fun h30 => ?_) (fun h30 => ?_)
  · have e0 : fN2 q S = S := if_neg (by have := (nI_leI (by omega) (by omega)).mp h30; omega)
    dsimp only at kk
    rw [e0] at kk
    exact n_48 hq w k kk
  · have e0 : fN2 q S = (fWrite (nI 48 + nI (q / 10 % 10)) S).2 := if_pos (by have := mt (nI_leI (by omega) (by omega)).mpr h30; omega)
    dsimp only at kk
    rw [e0] at kk
    refine R_aload_n (pc := 33) dL_number_33 rfl ?_
    refine R_bipush (pc := 34) (x := nI 48) dL_number_34 (by decide) ?_
    refine R_iload_n (pc := 36) dL_number_36 rfl ?_
    refine R_bipush (pc := 37) (x := nI 10) dL_number_37 (by decide) ?_
    refine R_idiv (pc := 39) dL_number_39 (by decide) ?_
    rw [pk_div (by omega) (by omega) (by omega)]
    refine R_bipush (pc := 40) (x := nI 10) dL_number_40 (by decide) ?_
    refine R_irem (pc := 42) dL_number_42 (by decide) ?_
    rw [pk_rem (by omega) (by omega) (by omega)]
    refine R_iadd (pc := 43) dL_number_43 ?_
    refine R_callV (pc := 44) dL_number_44 rfl w.cls.choose_spec rfl rfl ?_
    refine o_write w k (fun h1 z1 k1 w1 => ?_)
    refine R_istore_n (pc := 47) dL_number_47 (Nat.le_of_ble_eq_true rfl) rfl ?_
    exact n_48 hq w1 k1 kk
theorem n_6 {q : Nat} {c : Int32} {o3 : Option Value} (hq : q < 100000) (w : Wx sA gs x Y K0 F0 s1 s2 t1 t2 G S [] (h, z)) (k : OKS S) (kk : ∀ (h' : Nat → Option am_C) (z' : Nat × Nat), OKS ((fun S => fWrite (nI 48 + nI (q % 10)) (fN2 q (fN1 q S))) S).2 → Wx sA gs x Y K0 F0 s1 s2 t1 t2 G ((fun S => fWrite (nI 48 + nI (q % 10)) (fN2 q (fN1 q S))) S).2 [] (h', z') → Q (some (.int ((fun S => fWrite (nI 48 + nI (q % 10)) (fN2 q (fN1 q S))) S).1)) (h', z')) : Rn sA mL_number 6 [some (.ref x), some (.int c), some (.int (nI q)), o3] [] (h, z) Q := by
  refine R_iload_n (pc := 6) dL_number_6 rfl ?_
  refine R_bipush (pc := 7) (x := nI 99) dL_number_7 (by decide) ?_
  refine R_icmp_le (pc := 9) (t := 27) dL_number_9 (by decide) (fun h9 => ?_) (fun h9 => ?_)
  · have e0 : fN1 q S = S := if_neg (by have := (nI_leI (by omega) (by omega)).mp h9; omega)
    dsimp only at kk
    rw [e0] at kk
    exact n_27 hq w k kk
  · have e0 : fN1 q S = (fWrite (nI 48 + nI (q / 100 % 10)) S).2 := if_pos (by have := mt (nI_leI (by omega) (by omega)).mpr h9; omega)
    dsimp only at kk
    rw [e0] at kk
    refine R_aload_n (pc := 12) dL_number_12 rfl ?_
    refine R_bipush (pc := 13) (x := nI 48) dL_number_13 (by decide) ?_
    refine R_iload_n (pc := 15) dL_number_15 rfl ?_
    refine R_bipush (pc := 16) (x := nI 100) dL_number_16 (by decide) ?_
    refine R_idiv (pc := 18) dL_number_18 (by decide) ?_
    rw [pk_div (by omega) (by omega) (by omega)]
    refine R_bipush (pc := 19) (x := nI 10) dL_number_19 (by decide) ?_
    refine R_irem (pc := 21) dL_number_21 (by decide) ?_
    rw [pk_rem (by omega) (by omega) (by omega)]
    refine R_iadd (pc := 22) dL_number_22 ?_
    refine R_callV (pc := 23) dL_number_23 rfl w.cls.choose_spec rfl rfl ?_
    refine o_write w k (fun h1 z1 k1 w1 => ?_)
    refine R_istore_n (pc := 26) dL_number_26 (Nat.le_of_ble_eq_true rfl) rfl ?_
    exact n_27 hq w1 k1 kk
theorem l_number {q : Nat} {c : Int32} (hq : q < 100000) (w : Wx sA gs x Y K0 F0 s1 s2 t1 t2 G S [] (h, z)) (k : OKS S) (kk : ∀ (h' : Nat → Option am_C) (z' : Nat × Nat), OKS (fNum c q S).2 → Wx sA gs x Y K0 F0 s1 s2 t1 t2 G (fNum c q S).2 [] (h', z') → Q (some (.int (fNum c q S).1)) (h', z')) : Rn sA mL_number 0 [some (.ref x), some (.int c), some (.int (nI q)), none] [] (h, z) Q := by
  refine R_aload_n (pc := 0) dL_number_0 rfl ?_
  refine R_iload_n (pc := 1) dL_number_1 rfl ?_
  refine R_callV (pc := 2) dL_number_2 rfl w.cls.choose_spec rfl rfl ?_
  refine o_write w k (fun h1 z1 k1 w1 => ?_)
  refine R_istore_n (pc := 5) dL_number_5 (Nat.le_of_ble_eq_true rfl) rfl ?_
  exact n_6 hq w1 k1 kk
theorem w_94 {v : Int32} {m : Nat} {o2 : Option Value} (hm : 0 < m) (hm2 : m ≤ 1000) (w : Wx sA gs x Y K0 F0 s1 s2 t1 t2 G S [] (h, z)) (k : OKS S) (kk : ∀ (h' : Nat → Option am_C) (z' : Nat × Nat), OKS (if lo (sh v 23) 12 = 0 then fWrite (nI 32) (fNum (nI 104) (lo (sh v 6) m) S).2 else fNum (nI 114) (1 + lo (sh v 9) 900) (fWrite (nI 32) (fNum (nI 104) (lo (sh v 6) m) S).2).2).2 → Wx sA gs x Y K0 F0 s1 s2 t1 t2 G (if lo (sh v 23) 12 = 0 then fWrite (nI 32) (fNum (nI 104) (lo (sh v 6) m) S).2 else fNum (nI 114) (1 + lo (sh v 9) 900) (fWrite (nI 32) (fNum (nI 104) (lo (sh v 6) m) S).2).2).2 [] (h', z') → Q (some (.int (if lo (sh v 23) 12 = 0 then fWrite (nI 32) (fNum (nI 104) (lo (sh v 6) m) S).2 else fNum (nI 114) (1 + lo (sh v 9) 900) (fWrite (nI 32) (fNum (nI 104) (lo (sh v 6) m) S).2).2).1)) (h', z')) : Rn sA mL_write 94 [some (.ref x), some (.int v), o2] [.int (nI m), .int (sh v 6), .int (nI 104), .ref x] (h, z) Q := by
  refine R_callS (pc := 94) dL_write_94 rfl (Or.inl rfl) rfl rfl ?_
  refine l_low hm (by omega) ?_
  refine R_callS (pc := 97) dL_write_97 rfl (Or.inl rfl) rfl rfl ?_
  refine l_number (Nat.lt_of_lt_of_le (lo_lt hm) (by omega)) w k (fun h1 z1 k1 w1 => ?_)
  refine R_istore_n (pc := 100) dL_write_100 (Nat.le_of_ble_eq_true rfl) rfl ?_
  refine R_aload_n (pc := 101) dL_write_101 rfl ?_
  refine R_bipush (pc := 102) (x := nI 32) dL_write_102 (by decide) ?_
  refine R_callV (pc := 104) dL_write_104 rfl w1.cls.choose_spec rfl rfl ?_
  refine o_write w1 k1 (fun h2 z2 k2 w2 => ?_)
  refine R_istore_n (pc := 107) dL_write_107 (Nat.le_of_ble_eq_true rfl) rfl ?_
  refine R_iload_n (pc := 108) dL_write_108 rfl ?_
  refine R_bipush (pc := 109) (x := nI 23) dL_write_109 (by decide) ?_
  refine R_ishr (pc := 111) dL_write_111 ?_
  refine R_bipush (pc := 112) (x := nI 12) dL_write_112 (by decide) ?_
  refine R_callS (pc := 114) dL_write_114 rfl (Or.inl rfl) rfl rfl ?_
  refine l_low (by omega) (by omega) ?_
  refine R_if_ne (pc := 117) (t := 124) dL_write_117 (by decide) (fun h117 => ?_) (fun h117 => ?_)
  · rw [if_neg (nz_of h117)] at kk
    refine R_aload_n (pc := 124) dL_write_124 rfl ?_
    refine R_bipush (pc := 125) (x := nI 114) dL_write_125 (by decide) ?_
    refine R_iconst (pc := 127) (x := nI 1) dL_write_127 rfl ?_
    refine R_iload_n (pc := 128) dL_write_128 rfl ?_
    refine R_bipush (pc := 129) (x := nI 9) dL_write_129 (by decide) ?_
    refine R_ishr (pc := 131) dL_write_131 ?_
    refine R_sipush (pc := 132) (x := nI 900) dL_write_132 (by decide) ?_
    refine R_callS (pc := 135) dL_write_135 rfl (Or.inl rfl) rfl rfl ?_
    refine l_low (by omega) (by omega) ?_
    refine R_iadd (pc := 138) dL_write_138 ?_
    rw [nI_add]
    refine R_callS (pc := 139) dL_write_139 rfl (Or.inl rfl) rfl rfl ?_
    refine l_number (q := 1 + lo (sh v 9) 900) (by have := @lo_lt (sh v 9) 900 (by omega); omega) w2 k2 (fun h3 z3 k3 w3 => ?_)
    refine R_iret (pc := 142) dL_write_142 rfl ?_
    exact kk _ _ k3 w3
  · rw [if_pos (z_of h117 (Nat.lt_of_lt_of_le (lo_lt (by omega)) (by omega)))] at kk
    refine R_iload_n (pc := 120) dL_write_120 rfl ?_
    refine R_goto (pc := 121) (t := 142) dL_write_121 (by decide) ?_
    refine R_iret (pc := 142) dL_write_142 rfl ?_
    exact kk _ _ k2 w2
theorem l_write {v : Int32} (w : Wx sA gs x Y K0 F0 s1 s2 t1 t2 G S [] (h, z)) (k : OKS S) (kk : ∀ (h' : Nat → Option am_C) (z' : Nat × Nat), OKS (fWr v S).2 → Wx sA gs x Y K0 F0 s1 s2 t1 t2 G (fWr v S).2 [] (h', z') → Q (some (.int (fWr v S).1)) (h', z')) : Rn sA mL_write 0 [some (.ref x), some (.int v), none] [] (h, z) Q := by
  refine R_aload_n (pc := 0) dL_write_0 rfl ?_
  refine R_callV (pc := 1) dL_write_1 rfl w.cls.choose_spec rfl rfl ?_
  refine o_wipe w k (fun h1 z1 k1 w1 => ?_)
  refine R_istore_n (pc := 4) dL_write_4 (Nat.le_of_ble_eq_true rfl) rfl ?_
  refine R_aload_n (pc := 5) dL_write_5 rfl ?_
  refine R_bipush (pc := 6) (x := nI 100) dL_write_6 (by decide) ?_
  refine R_iload_n (pc := 8) dL_write_8 rfl ?_
  refine R_iconst (pc := 9) (x := nI 3) dL_write_9 rfl ?_
  refine R_callS (pc := 10) dL_write_10 rfl (Or.inl rfl) rfl rfl ?_
  refine l_low (by omega) (by omega) ?_
  refine R_callS (pc := 13) dL_write_13 rfl (Or.inl rfl) rfl rfl ?_
  refine l_number (Nat.lt_of_lt_of_le (lo_lt (by omega)) (by omega)) w1 k1 (fun h2 z2 k2 w2 => ?_)
  refine R_istore_n (pc := 16) dL_write_16 (Nat.le_of_ble_eq_true rfl) rfl ?_
  refine R_aload_n (pc := 17) dL_write_17 rfl ?_
  refine R_bipush (pc := 18) (x := nI 32) dL_write_18 (by decide) ?_
  refine R_callV (pc := 20) dL_write_20 rfl w2.cls.choose_spec rfl rfl ?_
  refine o_write w2 k2 (fun h3 z3 k3 w3 => ?_)
  refine R_istore_n (pc := 23) dL_write_23 (Nat.le_of_ble_eq_true rfl) rfl ?_
  refine R_aload_n (pc := 24) dL_write_24 rfl ?_
  refine R_bipush (pc := 25) (x := nI 103) dL_write_25 (by decide) ?_
  refine R_iload_n (pc := 27) dL_write_27 rfl ?_
  refine R_iconst (pc := 28) (x := nI 2) dL_write_28 rfl ?_
  refine R_ishr (pc := 29) dL_write_29 ?_
  refine R_iconst (pc := 30) (x := nI 2) dL_write_30 rfl ?_
  refine R_callS (pc := 31) dL_write_31 rfl (Or.inl rfl) rfl rfl ?_
  refine l_low (by omega) (by omega) ?_
  refine R_callS (pc := 34) dL_write_34 rfl (Or.inl rfl) rfl rfl ?_
  refine l_number (Nat.lt_of_lt_of_le (lo_lt (by omega)) (by omega)) w3 k3 (fun h4 z4 k4 w4 => ?_)
  refine R_istore_n (pc := 37) dL_write_37 (Nat.le_of_ble_eq_true rfl) rfl ?_
  refine R_aload_n (pc := 38) dL_write_38 rfl ?_
  refine R_bipush (pc := 39) (x := nI 32) dL_write_39 (by decide) ?_
  refine R_callV (pc := 41) dL_write_41 rfl w4.cls.choose_spec rfl rfl ?_
  refine o_write w4 k4 (fun h5 z5 k5 w5 => ?_)
  refine R_istore_n (pc := 44) dL_write_44 (Nat.le_of_ble_eq_true rfl) rfl ?_
  refine R_aload_n (pc := 45) dL_write_45 rfl ?_
  refine R_bipush (pc := 46) (x := nI 119) dL_write_46 (by decide) ?_
  refine R_iload_n (pc := 48) dL_write_48 rfl ?_
  refine R_iconst (pc := 49) (x := nI 4) dL_write_49 rfl ?_
  refine R_ishr (pc := 50) dL_write_50 ?_
  refine R_iconst (pc := 51) (x := nI 4) dL_write_51 rfl ?_
  refine R_callS (pc := 52) dL_write_52 rfl (Or.inl rfl) rfl rfl ?_
  refine l_low (by omega) (by omega) ?_
  refine R_callS (pc := 55) dL_write_55 rfl (Or.inl rfl) rfl rfl ?_
  refine l_number (Nat.lt_of_lt_of_le (lo_lt (by omega)) (by omega)) w5 k5 (fun h6 z6 k6 w6 => ?_)
  refine R_istore_n (pc := 58) dL_write_58 (Nat.le_of_ble_eq_true rfl) rfl ?_
  refine R_aload_n (pc := 59) dL_write_59 rfl ?_
  refine R_bipush (pc := 60) (x := nI 32) dL_write_60 (by decide) ?_
  refine R_callV (pc := 62) dL_write_62 rfl w6.cls.choose_spec rfl rfl ?_
  refine o_write w6 k6 (fun h7 z7 k7 w7 => ?_)
  refine R_istore_n (pc := 65) dL_write_65 (Nat.le_of_ble_eq_true rfl) rfl ?_
  refine R_aload_n (pc := 66) dL_write_66 rfl ?_
  refine R_bipush (pc := 67) (x := nI 104) dL_write_67 (by decide) ?_
  refine R_iload_n (pc := 69) dL_write_69 rfl ?_
  refine R_bipush (pc := 70) (x := nI 6) dL_write_70 (by decide) ?_
  refine R_ishr (pc := 72) dL_write_72 ?_
  refine R_iload_n (pc := 73) dL_write_73 rfl ?_
  refine R_bipush (pc := 74) (x := nI 20) dL_write_74 (by decide) ?_
  refine R_ishr (pc := 76) dL_write_76 ?_
  refine R_bipush (pc := 77) (x := nI 9) dL_write_77 (by decide) ?_
  refine R_callS (pc := 79) dL_write_79 rfl (Or.inl rfl) rfl rfl ?_
  refine l_low (by omega) (by omega) ?_
  refine R_if_ne (pc := 82) (t := 91) dL_write_82 (by decide) (fun h82 => ?_) (fun h82 => ?_)
  · have e0 : (if lo (sh v 20) 9 = 0 then 1000 else 500) = 500 := if_neg (nz_of h82)
    unfold fWr fW8 at kk
    rw [e0] at kk
    refine R_sipush (pc := 91) (x := nI 500) dL_write_91 (by decide) ?_
    exact w_94 (by omega) (by omega) w7 k7 kk
  · have e0 : (if lo (sh v 20) 9 = 0 then 1000 else 500) = 1000 := if_pos (z_of h82 (Nat.lt_of_lt_of_le (lo_lt (by omega)) (by omega)))
    unfold fWr fW8 at kk
    rw [e0] at kk
    refine R_sipush (pc := 85) (x := nI 1000) dL_write_85 (by decide) ?_
    refine R_goto (pc := 88) (t := 94) dL_write_88 (by decide) ?_
    exact w_94 (by omega) (by omega) w7 k7 kk
theorem ch_21 {v more : Int32} {j : Nat} {o4 o5 : Option Value} (hg : GsOK gs) (w : Wx sA gs x Y K0 F0 s1 s2 t1 t2 G S [] (h, z)) (k : OKS S) (hn : nU S.1 ≤ 40) (hj : lo v 26 = j) (h17 : ¬ j = 17) (kk : ∀ (h' : Nat → Option am_C) (z' : Nat × Nat), OKS (fChJ v more S j).2 → Wx sA gs x Y K0 F0 s1 s2 t1 t2 G (fChJ v more S j).2 [] (h', z') → Q (some (.int (fChJ v more S j).1)) (h', z')) : Rn sA mL_change 21 [some (.ref x), some (.int v), some (.int more), some (.int (nI (nU S.1))), o4, o5] [.int (crd v S)] (h, z) Q := by
  refine R_istore (pc := 21) dL_change_21 (Nat.le_of_ble_eq_true rfl) rfl ?_
  refine R_iload_n (pc := 23) dL_change_23 rfl ?_
  refine R_bipush (pc := 24) (x := nI 26) dL_change_24 (by decide) ?_
  refine R_callS (pc := 26) dL_change_26 rfl (Or.inl rfl) rfl rfl ?_
  refine l_low (by omega) (by omega) ?_
  have hjl : j < 26 := by rw [← hj]; exact lo_lt (by omega)
  rw [hj]
  clear hj
  rcases (by omega : j = 0 ∨ j = 1 ∨ j = 2 ∨ j = 3 ∨ j = 4 ∨ j = 5 ∨ j = 6 ∨ j = 7 ∨ j = 8 ∨ j = 9 ∨ j = 10 ∨ j = 11 ∨ j = 12 ∨ j = 13 ∨ j = 14 ∨ j = 15 ∨ j = 16 ∨ j = 17 ∨ j = 18 ∨ j = 19 ∨ j = 20 ∨ j = 21 ∨ j = 22 ∨ j = 23 ∨ j = 24 ∨ j = 25) with rfl | rfl | rfl | rfl | rfl | rfl | rfl | rfl | rfl | rfl | rfl | rfl | rfl | rfl | rfl | rfl | rfl | rfl | rfl | rfl | rfl | rfl | rfl | rfl | rfl | rfl
  · refine R_tswI (pc := 29) (off := 91) (t := 120) dL_change_29 (by decide) (by decide) (by decide) ?_
    refine R_iload_n (pc := 120) dL_change_120 rfl ?_
    refine R_iconst (pc := 121) (x := nI 5) dL_change_121 rfl ?_
    refine R_callS (pc := 122) dL_change_122 rfl (Or.inl rfl) rfl rfl ?_
    refine l_low (by omega) (by omega) ?_
    refine R_if_ne (pc := 125) (t := 162) dL_change_125 (by decide) (fun h125 => ?_) (fun h125 => ?_)
    · have e0 : fChJ v more S 0 = fSet (nI 1) (nI (lo (sh more 3) 2)) S := if_neg (nz_of h125)
      rw [e0] at kk
      refine R_aload_n (pc := 162) dL_change_162 rfl ?_
      refine R_iconst (pc := 163) (x := nI 1) dL_change_163 rfl ?_
      refine R_iload_n (pc := 164) dL_change_164 rfl ?_
      refine R_iconst (pc := 165) (x := nI 3) dL_change_165 rfl ?_
      refine R_ishr (pc := 166) dL_change_166 ?_
      refine R_iconst (pc := 167) (x := nI 2) dL_change_167 rfl ?_
      refine R_callS (pc := 168) dL_change_168 rfl (Or.inl rfl) rfl rfl ?_
      refine l_low (by omega) (by omega) ?_
      refine R_callV (pc := 171) dL_change_171 rfl w.cls.choose_spec rfl rfl ?_
      refine o_set w k (Nat.zero_le _) hg (fun h1 z1 k1 w1 => ?_)
      refine R_iret (pc := 174) dL_change_174 rfl ?_
      exact kk _ _ k1 w1.ni
    · have e0 : fChJ v more S 0 = fLay (nI (lo (sh more 3) 6)) (nI (lo (sh more 6) 20)) (nI 1 + nI (lo (sh more 11) 4)) S := if_pos (z_of h125 (Nat.lt_of_lt_of_le (lo_lt (by omega)) (by omega)))
      rw [e0] at kk
      refine R_aload_n (pc := 128) dL_change_128 rfl ?_
      refine R_iload_n (pc := 129) dL_change_129 rfl ?_
      refine R_iconst (pc := 130) (x := nI 3) dL_change_130 rfl ?_
      refine R_ishr (pc := 131) dL_change_131 ?_
      refine R_bipush (pc := 132) (x := nI 6) dL_change_132 (by decide) ?_
      refine R_callS (pc := 134) dL_change_134 rfl (Or.inl rfl) rfl rfl ?_
      refine l_low (by omega) (by omega) ?_
      refine R_iload_n (pc := 137) dL_change_137 rfl ?_
      refine R_bipush (pc := 138) (x := nI 6) dL_change_138 (by decide) ?_
      refine R_ishr (pc := 140) dL_change_140 ?_
      refine R_bipush (pc := 141) (x := nI 20) dL_change_141 (by decide) ?_
      refine R_callS (pc := 143) dL_change_143 rfl (Or.inl rfl) rfl rfl ?_
      refine l_low (by omega) (by omega) ?_
      refine R_iconst (pc := 146) (x := nI 1) dL_change_146 rfl ?_
      refine R_iload_n (pc := 147) dL_change_147 rfl ?_
      refine R_bipush (pc := 148) (x := nI 11) dL_change_148 (by decide) ?_
      refine R_ishr (pc := 150) dL_change_150 ?_
      refine R_iconst (pc := 151) (x := nI 4) dL_change_151 rfl ?_
      refine R_callS (pc := 152) dL_change_152 rfl (Or.inl rfl) rfl rfl ?_
      refine l_low (by omega) (by omega) ?_
      refine R_iadd (pc := 155) dL_change_155 ?_
      refine R_callV (pc := 156) dL_change_156 rfl w.cls.choose_spec rfl rfl ?_
      refine o_lay w k (Nat.zero_le _) (fun h1 z1 k1 w1 => ?_)
      refine R_goto (pc := 159) (t := 174) dL_change_159 (by decide) ?_
      refine R_iret (pc := 174) dL_change_174 rfl ?_
      exact kk _ _ k1 w1.ni
  · refine R_tswI (pc := 29) (off := 146) (t := 175) dL_change_29 (by decide) (by decide) (by decide) ?_
    refine R_aload_n (pc := 175) dL_change_175 rfl ?_
    refine R_iconst (pc := 176) (x := nI 0) dL_change_176 rfl ?_
    refine R_iload_n (pc := 177) dL_change_177 rfl ?_
    refine R_iconst (pc := 178) (x := nI 3) dL_change_178 rfl ?_
    refine R_callS (pc := 179) dL_change_179 rfl (Or.inl rfl) rfl rfl ?_
    refine l_low (by omega) (by omega) ?_
    refine R_callV (pc := 182) dL_change_182 rfl w.cls.choose_spec rfl rfl ?_
    refine o_set w k (Nat.zero_le _) hg (fun h1 z1 k1 w1 => ?_)
    refine R_iret (pc := 185) dL_change_185 rfl ?_
    exact kk _ _ k1 w1.ni
  · refine R_tswI (pc := 29) (off := 157) (t := 186) dL_change_29 (by decide) (by decide) (by decide) ?_
    refine R_aload_n (pc := 186) dL_change_186 rfl ?_
    refine R_iconst (pc := 187) (x := nI 2) dL_change_187 rfl ?_
    refine R_sipush (pc := 188) (x := nI 200) dL_change_188 (by decide) ?_
    refine R_iload_n (pc := 191) dL_change_191 rfl ?_
    refine R_sipush (pc := 192) (x := nI 900) dL_change_192 (by decide) ?_
    refine R_callS (pc := 195) dL_change_195 rfl (Or.inl rfl) rfl rfl ?_
    refine l_low (by omega) (by omega) ?_
    refine R_iadd (pc := 198) dL_change_198 ?_
    refine R_callV (pc := 199) dL_change_199 rfl w.cls.choose_spec rfl rfl ?_
    refine o_set w k (Nat.zero_le _) hg (fun h1 z1 k1 w1 => ?_)
    refine R_iret (pc := 202) dL_change_202 rfl ?_
    exact kk _ _ k1 w1.ni
  · refine R_tswI (pc := 29) (off := 174) (t := 203) dL_change_29 (by decide) (by decide) (by decide) ?_
    refine R_aload_n (pc := 203) dL_change_203 rfl ?_
    refine R_iconst (pc := 204) (x := nI 3) dL_change_204 rfl ?_
    refine R_iload_n (pc := 205) dL_change_205 rfl ?_
    refine R_sipush (pc := 206) (x := nI 900) dL_change_206 (by decide) ?_
    refine R_callS (pc := 209) dL_change_209 rfl (Or.inl rfl) rfl rfl ?_
    refine l_low (by omega) (by omega) ?_
    refine R_callV (pc := 212) dL_change_212 rfl w.cls.choose_spec rfl rfl ?_
    refine o_set w k (Nat.zero_le _) hg (fun h1 z1 k1 w1 => ?_)
    refine R_iret (pc := 215) dL_change_215 rfl ?_
    exact kk _ _ k1 w1.ni
  · refine R_tswI (pc := 29) (off := 187) (t := 216) dL_change_29 (by decide) (by decide) (by decide) ?_
    refine R_aload_n (pc := 216) dL_change_216 rfl ?_
    refine R_iload_n (pc := 217) dL_change_217 rfl ?_
    refine R_iconst (pc := 218) (x := nI 3) dL_change_218 rfl ?_
    refine R_callS (pc := 219) dL_change_219 rfl (Or.inl rfl) rfl rfl ?_
    refine l_low (by omega) (by omega) ?_
    refine R_iload_n (pc := 222) dL_change_222 rfl ?_
    refine R_iconst (pc := 223) (x := nI 2) dL_change_223 rfl ?_
    refine R_ishr (pc := 224) dL_change_224 ?_
    refine R_iconst (pc := 225) (x := nI 4) dL_change_225 rfl ?_
    refine R_callS (pc := 226) dL_change_226 rfl (Or.inl rfl) rfl rfl ?_
    refine l_low (by omega) (by omega) ?_
    refine R_if_ne (pc := 229) (t := 237) dL_change_229 (by decide) (fun h229 => ?_) (fun h229 => ?_)
    · have e0 : fChJ v more S 4 = fCtl (nI (lo more 3)) (nI (lo (sh more 4) 2000)) S := by
        show fCtl (nI (lo more 3)) (if lo (sh more 2) 4 = 0 then (-1000009) else (nI (lo (sh more 4) 2000))) S = _
        rw [if_neg (nz_of h229)]
      rw [e0] at kk
      refine R_iload_n (pc := 237) dL_change_237 rfl ?_
      refine R_iconst (pc := 238) (x := nI 4) dL_change_238 rfl ?_
      refine R_ishr (pc := 239) dL_change_239 ?_
      refine R_sipush (pc := 240) (x := nI 2000) dL_change_240 (by decide) ?_
      refine R_callS (pc := 243) dL_change_243 rfl (Or.inl rfl) rfl rfl ?_
      refine l_low (by omega) (by omega) ?_
      refine R_callV (pc := 246) dL_change_246 rfl w.cls.choose_spec rfl rfl ?_
      refine o_control w k (Nat.zero_le _) (fun h1 z1 k1 w1 => ?_)
      refine R_iret (pc := 249) dL_change_249 rfl ?_
      exact kk _ _ k1 w1.ni
    · have e0 : fChJ v more S 4 = fCtl (nI (lo more 3)) (-1000009) S := by
        show fCtl (nI (lo more 3)) (if lo (sh more 2) 4 = 0 then (-1000009) else (nI (lo (sh more 4) 2000))) S = _
        rw [if_pos (z_of h229 (Nat.lt_of_lt_of_le (lo_lt (by omega)) (by omega)))]
      rw [e0] at kk
      refine R_ldc (pc := 232) (x := (-1000009)) dL_change_232 rfl ?_
      refine R_goto (pc := 234) (t := 246) dL_change_234 (by decide) ?_
      refine R_callV (pc := 246) dL_change_246 rfl w.cls.choose_spec rfl rfl ?_
      refine o_control w k (Nat.zero_le _) (fun h1 z1 k1 w1 => ?_)
      refine R_iret (pc := 249) dL_change_249 rfl ?_
      exact kk _ _ k1 w1.ni
  · refine R_tswI (pc := 29) (off := 221) (t := 250) dL_change_29 (by decide) (by decide) (by decide) ?_
    refine R_aload_n (pc := 250) dL_change_250 rfl ?_
    refine R_iload (pc := 251) dL_change_251 rfl ?_
    refine R_callV (pc := 253) dL_change_253 rfl w.cls.choose_spec rfl rfl ?_
    refine o_take w k (Nat.zero_le _) (fun h1 z1 k1 w1 => ?_)
    refine R_iret (pc := 256) dL_change_256 rfl ?_
    exact kk _ _ k1 w1.ni
  · refine R_tswI (pc := 29) (off := 228) (t := 257) dL_change_29 (by decide) (by decide) (by decide) ?_
    refine R_iload_n (pc := 257) dL_change_257 rfl ?_
    refine R_if_ne (pc := 258) (t := 265) dL_change_258 (by decide) (fun h258 => ?_) (fun h258 => ?_)
    · have e0 : fChJ v more S 6 = fMove (crd v S) (nI (lo more (nU S.1))) S := if_neg (nz_of h258)
      rw [e0] at kk
      have hnp : 0 < nU S.1 := Nat.pos_of_ne_zero (nz_of h258)
      refine R_aload_n (pc := 265) dL_change_265 rfl ?_
      refine R_iload (pc := 266) dL_change_266 rfl ?_
      refine R_iload_n (pc := 268) dL_change_268 rfl ?_
      refine R_iload_n (pc := 269) dL_change_269 rfl ?_
      refine R_callS (pc := 270) dL_change_270 rfl (Or.inl rfl) rfl rfl ?_
      refine l_low hnp (by omega) ?_
      refine R_callV (pc := 273) dL_change_273 rfl w.cls.choose_spec rfl rfl ?_
      refine o_move w k (Nat.zero_le _) (fun h1 z1 k1 w1 => ?_)
      refine R_iret (pc := 276) dL_change_276 rfl ?_
      exact kk _ _ k1 w1.ni
    · have e0 : fChJ v more S 6 = ((-1), S) := if_pos (z_of h258 (by omega))
      rw [e0] at kk
      refine R_iconst (pc := 261) (x := (-1)) dL_change_261 rfl ?_
      refine R_goto (pc := 262) (t := 276) dL_change_262 (by decide) ?_
      refine R_iret (pc := 276) dL_change_276 rfl ?_
      exact kk _ _ k w
  · refine R_tswI (pc := 29) (off := 248) (t := 277) dL_change_29 (by decide) (by decide) (by decide) ?_
    refine R_aload_n (pc := 277) dL_change_277 rfl ?_
    refine R_iload (pc := 278) dL_change_278 rfl ?_
    refine R_iload_n (pc := 280) dL_change_280 rfl ?_
    refine R_bipush (pc := 281) (x := nI 24) dL_change_281 (by decide) ?_
    refine R_callS (pc := 283) dL_change_283 rfl (Or.inl rfl) rfl rfl ?_
    refine l_low (by omega) (by omega) ?_
    refine R_iload_n (pc := 286) dL_change_286 rfl ?_
    refine R_iconst (pc := 287) (x := nI 5) dL_change_287 rfl ?_
    refine R_ishr (pc := 288) dL_change_288 ?_
    refine R_bipush (pc := 289) (x := nI 6) dL_change_289 (by decide) ?_
    refine R_callS (pc := 291) dL_change_291 rfl (Or.inl rfl) rfl rfl ?_
    refine l_low (by omega) (by omega) ?_
    refine R_if_ne (pc := 294) (t := 302) dL_change_294 (by decide) (fun h294 => ?_) (fun h294 => ?_)
    · have e0 : fChJ v more S 7 = fRep (crd v S) (nI (lo more 24)) (nI (lo (sh more 8) 10)) S := by
        show fRep (crd v S) (nI (lo more 24)) (if lo (sh more 5) 6 = 0 then (-1000009) else (nI (lo (sh more 8) 10))) S = _
        rw [if_neg (nz_of h294)]
      rw [e0] at kk
      refine R_iload_n (pc := 302) dL_change_302 rfl ?_
      refine R_bipush (pc := 303) (x := nI 8) dL_change_303 (by decide) ?_
      refine R_ishr (pc := 305) dL_change_305 ?_
      refine R_bipush (pc := 306) (x := nI 10) dL_change_306 (by decide) ?_
      refine R_callS (pc := 308) dL_change_308 rfl (Or.inl rfl) rfl rfl ?_
      refine l_low (by omega) (by omega) ?_
      refine R_callV (pc := 311) dL_change_311 rfl w.cls.choose_spec rfl rfl ?_
      refine o_repunch w k (Nat.zero_le _) (fun h1 z1 k1 w1 => ?_)
      refine R_iret (pc := 314) dL_change_314 rfl ?_
      exact kk _ _ k1 w1.ni
    · have e0 : fChJ v more S 7 = fRep (crd v S) (nI (lo more 24)) (-1000009) S := by
        show fRep (crd v S) (nI (lo more 24)) (if lo (sh more 5) 6 = 0 then (-1000009) else (nI (lo (sh more 8) 10))) S = _
        rw [if_pos (z_of h294 (Nat.lt_of_lt_of_le (lo_lt (by omega)) (by omega)))]
      rw [e0] at kk
      refine R_ldc (pc := 297) (x := (-1000009)) dL_change_297 rfl ?_
      refine R_goto (pc := 299) (t := 311) dL_change_299 (by decide) ?_
      refine R_callV (pc := 311) dL_change_311 rfl w.cls.choose_spec rfl rfl ?_
      refine o_repunch w k (Nat.zero_le _) (fun h1 z1 k1 w1 => ?_)
      refine R_iret (pc := 314) dL_change_314 rfl ?_
      exact kk _ _ k1 w1.ni
  · refine R_tswI (pc := 29) (off := 286) (t := 315) dL_change_29 (by decide) (by decide) (by decide) ?_
    refine R_aload_n (pc := 315) dL_change_315 rfl ?_
    refine R_iload (pc := 316) dL_change_316 rfl ?_
    refine R_iload_n (pc := 318) dL_change_318 rfl ?_
    refine R_iconst (pc := 319) (x := nI 3) dL_change_319 rfl ?_
    refine R_callS (pc := 320) dL_change_320 rfl (Or.inl rfl) rfl rfl ?_
    refine l_low (by omega) (by omega) ?_
    refine R_if_le (pc := 323) (t := 330) dL_change_323 (by decide) (fun h323 => ?_) (fun h323 => ?_)
    · have e0 : fChJ v more S 8 = fMark (crd v S) (nI (lo (sh more 2) 4)) (nI (lo (sh more 4) 24)) S := by
        show fMark (crd v S) (if lo more 3 = 0 then nI (lo (sh more 2) 4) else nI 0) (nI (lo (sh more 4) 24)) S = _
        rw [if_pos (Decidable.byContradiction (fun q => nI_nle (Nat.pos_of_ne_zero q) (by have := @lo_lt more 3 (by omega); omega) h323))]
      rw [e0] at kk
      refine R_iload_n (pc := 330) dL_change_330 rfl ?_
      refine R_iconst (pc := 331) (x := nI 2) dL_change_331 rfl ?_
      refine R_ishr (pc := 332) dL_change_332 ?_
      refine R_iconst (pc := 333) (x := nI 4) dL_change_333 rfl ?_
      refine R_callS (pc := 334) dL_change_334 rfl (Or.inl rfl) rfl rfl ?_
      refine l_low (by omega) (by omega) ?_
      refine R_iload_n (pc := 337) dL_change_337 rfl ?_
      refine R_iconst (pc := 338) (x := nI 4) dL_change_338 rfl ?_
      refine R_ishr (pc := 339) dL_change_339 ?_
      refine R_bipush (pc := 340) (x := nI 24) dL_change_340 (by decide) ?_
      refine R_callS (pc := 342) dL_change_342 rfl (Or.inl rfl) rfl rfl ?_
      refine l_low (by omega) (by omega) ?_
      refine R_callV (pc := 345) dL_change_345 rfl w.cls.choose_spec rfl rfl ?_
      refine o_mark w k (Nat.zero_le _) (fun h1 z1 k1 w1 => ?_)
      refine R_iret (pc := 348) dL_change_348 rfl ?_
      exact kk _ _ k1 w1.ni
    · have e0 : fChJ v more S 8 = fMark (crd v S) (nI 0) (nI (lo (sh more 4) 24)) S := by
        show fMark (crd v S) (if lo more 3 = 0 then nI (lo (sh more 2) 4) else nI 0) (nI (lo (sh more 4) 24)) S = _
        rw [if_neg (fun q => h323 (by rw [q]; decide))]
      rw [e0] at kk
      refine R_iconst (pc := 326) (x := nI 0) dL_change_326 rfl ?_
      refine R_goto (pc := 327) (t := 337) dL_change_327 (by decide) ?_
      refine R_iload_n (pc := 337) dL_change_337 rfl ?_
      refine R_iconst (pc := 338) (x := nI 4) dL_change_338 rfl ?_
      refine R_ishr (pc := 339) dL_change_339 ?_
      refine R_bipush (pc := 340) (x := nI 24) dL_change_340 (by decide) ?_
      refine R_callS (pc := 342) dL_change_342 rfl (Or.inl rfl) rfl rfl ?_
      refine l_low (by omega) (by omega) ?_
      refine R_callV (pc := 345) dL_change_345 rfl w.cls.choose_spec rfl rfl ?_
      refine o_mark w k (Nat.zero_le _) (fun h1 z1 k1 w1 => ?_)
      refine R_iret (pc := 348) dL_change_348 rfl ?_
      exact kk _ _ k1 w1.ni
  · refine R_tswI (pc := 29) (off := 286) (t := 315) dL_change_29 (by decide) (by decide) (by decide) ?_
    refine R_aload_n (pc := 315) dL_change_315 rfl ?_
    refine R_iload (pc := 316) dL_change_316 rfl ?_
    refine R_iload_n (pc := 318) dL_change_318 rfl ?_
    refine R_iconst (pc := 319) (x := nI 3) dL_change_319 rfl ?_
    refine R_callS (pc := 320) dL_change_320 rfl (Or.inl rfl) rfl rfl ?_
    refine l_low (by omega) (by omega) ?_
    refine R_if_le (pc := 323) (t := 330) dL_change_323 (by decide) (fun h323 => ?_) (fun h323 => ?_)
    · have e0 : fChJ v more S 9 = fMark (crd v S) (nI (lo (sh more 2) 4)) (nI (lo (sh more 4) 24)) S := by
        show fMark (crd v S) (if lo more 3 = 0 then nI (lo (sh more 2) 4) else nI 0) (nI (lo (sh more 4) 24)) S = _
        rw [if_pos (Decidable.byContradiction (fun q => nI_nle (Nat.pos_of_ne_zero q) (by have := @lo_lt more 3 (by omega); omega) h323))]
      rw [e0] at kk
      refine R_iload_n (pc := 330) dL_change_330 rfl ?_
      refine R_iconst (pc := 331) (x := nI 2) dL_change_331 rfl ?_
      refine R_ishr (pc := 332) dL_change_332 ?_
      refine R_iconst (pc := 333) (x := nI 4) dL_change_333 rfl ?_
      refine R_callS (pc := 334) dL_change_334 rfl (Or.inl rfl) rfl rfl ?_
      refine l_low (by omega) (by omega) ?_
      refine R_iload_n (pc := 337) dL_change_337 rfl ?_
      refine R_iconst (pc := 338) (x := nI 4) dL_change_338 rfl ?_
      refine R_ishr (pc := 339) dL_change_339 ?_
      refine R_bipush (pc := 340) (x := nI 24) dL_change_340 (by decide) ?_
      refine R_callS (pc := 342) dL_change_342 rfl (Or.inl rfl) rfl rfl ?_
      refine l_low (by omega) (by omega) ?_
      refine R_callV (pc := 345) dL_change_345 rfl w.cls.choose_spec rfl rfl ?_
      refine o_mark w k (Nat.zero_le _) (fun h1 z1 k1 w1 => ?_)
      refine R_iret (pc := 348) dL_change_348 rfl ?_
      exact kk _ _ k1 w1.ni
    · have e0 : fChJ v more S 9 = fMark (crd v S) (nI 0) (nI (lo (sh more 4) 24)) S := by
        show fMark (crd v S) (if lo more 3 = 0 then nI (lo (sh more 2) 4) else nI 0) (nI (lo (sh more 4) 24)) S = _
        rw [if_neg (fun q => h323 (by rw [q]; decide))]
      rw [e0] at kk
      refine R_iconst (pc := 326) (x := nI 0) dL_change_326 rfl ?_
      refine R_goto (pc := 327) (t := 337) dL_change_327 (by decide) ?_
      refine R_iload_n (pc := 337) dL_change_337 rfl ?_
      refine R_iconst (pc := 338) (x := nI 4) dL_change_338 rfl ?_
      refine R_ishr (pc := 339) dL_change_339 ?_
      refine R_bipush (pc := 340) (x := nI 24) dL_change_340 (by decide) ?_
      refine R_callS (pc := 342) dL_change_342 rfl (Or.inl rfl) rfl rfl ?_
      refine l_low (by omega) (by omega) ?_
      refine R_callV (pc := 345) dL_change_345 rfl w.cls.choose_spec rfl rfl ?_
      refine o_mark w k (Nat.zero_le _) (fun h1 z1 k1 w1 => ?_)
      refine R_iret (pc := 348) dL_change_348 rfl ?_
      exact kk _ _ k1 w1.ni
  · refine R_tswI (pc := 29) (off := 320) (t := 349) dL_change_29 (by decide) (by decide) (by decide) ?_
    refine R_aload_n (pc := 349) dL_change_349 rfl ?_
    refine R_iload_n (pc := 350) dL_change_350 rfl ?_
    refine R_bipush (pc := 351) (x := nI 24) dL_change_351 (by decide) ?_
    refine R_callS (pc := 353) dL_change_353 rfl (Or.inl rfl) rfl rfl ?_
    refine l_low (by omega) (by omega) ?_
    refine R_callV (pc := 356) dL_change_356 rfl w.cls.choose_spec rfl rfl ?_
    refine o_pass w k (Nat.zero_le _) (fun h1 z1 k1 w1 => ?_)
    refine R_iret (pc := 359) dL_change_359 rfl ?_
    exact kk _ _ k1 w1.ni
  · refine R_tswI (pc := 29) (off := 331) (t := 360) dL_change_29 (by decide) (by decide) (by decide) ?_
    refine R_aload_n (pc := 360) dL_change_360 rfl ?_
    refine R_iload_n (pc := 361) dL_change_361 rfl ?_
    refine R_iconst (pc := 362) (x := nI 3) dL_change_362 rfl ?_
    refine R_callS (pc := 363) dL_change_363 rfl (Or.inl rfl) rfl rfl ?_
    refine l_low (by omega) (by omega) ?_
    refine R_callV (pc := 366) dL_change_366 rfl w.cls.choose_spec rfl rfl ?_
    refine o_sort w k (Nat.zero_le _) (fun h1 z1 k1 w1 => ?_)
    refine R_iret (pc := 369) dL_change_369 rfl ?_
    exact kk _ _ k1 w1.ni
  · refine R_tswI (pc := 29) (off := 331) (t := 360) dL_change_29 (by decide) (by decide) (by decide) ?_
    refine R_aload_n (pc := 360) dL_change_360 rfl ?_
    refine R_iload_n (pc := 361) dL_change_361 rfl ?_
    refine R_iconst (pc := 362) (x := nI 3) dL_change_362 rfl ?_
    refine R_callS (pc := 363) dL_change_363 rfl (Or.inl rfl) rfl rfl ?_
    refine l_low (by omega) (by omega) ?_
    refine R_callV (pc := 366) dL_change_366 rfl w.cls.choose_spec rfl rfl ?_
    refine o_sort w k (Nat.zero_le _) (fun h1 z1 k1 w1 => ?_)
    refine R_iret (pc := 369) dL_change_369 rfl ?_
    exact kk _ _ k1 w1.ni
  · refine R_tswI (pc := 29) (off := 331) (t := 360) dL_change_29 (by decide) (by decide) (by decide) ?_
    refine R_aload_n (pc := 360) dL_change_360 rfl ?_
    refine R_iload_n (pc := 361) dL_change_361 rfl ?_
    refine R_iconst (pc := 362) (x := nI 3) dL_change_362 rfl ?_
    refine R_callS (pc := 363) dL_change_363 rfl (Or.inl rfl) rfl rfl ?_
    refine l_low (by omega) (by omega) ?_
    refine R_callV (pc := 366) dL_change_366 rfl w.cls.choose_spec rfl rfl ?_
    refine o_sort w k (Nat.zero_le _) (fun h1 z1 k1 w1 => ?_)
    refine R_iret (pc := 369) dL_change_369 rfl ?_
    exact kk _ _ k1 w1.ni
  · refine R_tswI (pc := 29) (off := 341) (t := 370) dL_change_29 (by decide) (by decide) (by decide) ?_
    refine R_aload_n (pc := 370) dL_change_370 rfl ?_
    refine R_callV (pc := 371) dL_change_371 rfl w.cls.choose_spec rfl rfl ?_
    refine o_run w k (Nat.zero_le _) (fun h1 z1 k1 w1 => ?_)
    refine R_iret (pc := 374) dL_change_374 rfl ?_
    exact kk _ _ k1 w1.ni
  · refine R_tswI (pc := 29) (off := 341) (t := 370) dL_change_29 (by decide) (by decide) (by decide) ?_
    refine R_aload_n (pc := 370) dL_change_370 rfl ?_
    refine R_callV (pc := 371) dL_change_371 rfl w.cls.choose_spec rfl rfl ?_
    refine o_run w k (Nat.zero_le _) (fun h1 z1 k1 w1 => ?_)
    refine R_iret (pc := 374) dL_change_374 rfl ?_
    exact kk _ _ k1 w1.ni
  · refine R_tswI (pc := 29) (off := 341) (t := 370) dL_change_29 (by decide) (by decide) (by decide) ?_
    refine R_aload_n (pc := 370) dL_change_370 rfl ?_
    refine R_callV (pc := 371) dL_change_371 rfl w.cls.choose_spec rfl rfl ?_
    refine o_run w k (Nat.zero_le _) (fun h1 z1 k1 w1 => ?_)
    refine R_iret (pc := 374) dL_change_374 rfl ?_
    exact kk _ _ k1 w1.ni
  · refine R_tswI (pc := 29) (off := 346) (t := 375) dL_change_29 (by decide) (by decide) (by decide) ?_
    exact absurd rfl h17
  · refine R_tswI (pc := 29) (off := 351) (t := 380) dL_change_29 (by decide) (by decide) (by decide) ?_
    refine R_iload_n (pc := 380) dL_change_380 rfl ?_
    refine R_iconst (pc := 381) (x := nI 2) dL_change_381 rfl ?_
    refine R_callS (pc := 382) dL_change_382 rfl (Or.inl rfl) rfl rfl ?_
    refine l_low (by omega) (by omega) ?_
    refine R_if_ne (pc := 385) (t := 402) dL_change_385 (by decide) (fun h385 => ?_) (fun h385 => ?_)
    · have e0 : fChJ v more S 18 = fBack (nI (lo (sh more 1) 2)) S := if_neg (nz_of h385)
      rw [e0] at kk
      refine R_aload_n (pc := 402) dL_change_402 rfl ?_
      refine R_iload_n (pc := 403) dL_change_403 rfl ?_
      refine R_iconst (pc := 404) (x := nI 1) dL_change_404 rfl ?_
      refine R_ishr (pc := 405) dL_change_405 ?_
      refine R_iconst (pc := 406) (x := nI 2) dL_change_406 rfl ?_
      refine R_callS (pc := 407) dL_change_407 rfl (Or.inl rfl) rfl rfl ?_
      refine l_low (by omega) (by omega) ?_
      refine R_callV (pc := 410) dL_change_410 rfl w.cls.choose_spec rfl rfl ?_
      refine o_back w k (Nat.zero_le _) (fun h1 z1 k1 w1 => ?_)
      refine R_iret (pc := 413) dL_change_413 rfl ?_
      exact kk _ _ k1 w1.ni
    · have e0 : fChJ v more S 18 = fKeep (nI (lo (sh more 1) 2)) S := if_pos (z_of h385 (Nat.lt_of_lt_of_le (lo_lt (by omega)) (by omega)))
      rw [e0] at kk
      refine R_aload_n (pc := 388) dL_change_388 rfl ?_
      refine R_iload_n (pc := 389) dL_change_389 rfl ?_
      refine R_iconst (pc := 390) (x := nI 1) dL_change_390 rfl ?_
      refine R_ishr (pc := 391) dL_change_391 ?_
      refine R_iconst (pc := 392) (x := nI 2) dL_change_392 rfl ?_
      refine R_callS (pc := 393) dL_change_393 rfl (Or.inl rfl) rfl rfl ?_
      refine l_low (by omega) (by omega) ?_
      refine R_callV (pc := 396) dL_change_396 rfl w.cls.choose_spec rfl rfl ?_
      refine o_keep w k (fun h1 z1 k1 w1 => ?_)
      refine R_goto (pc := 399) (t := 413) dL_change_399 (by decide) ?_
      refine R_iret (pc := 413) dL_change_413 rfl ?_
      exact kk _ _ k1 w1.ni
  · refine R_tswO (pc := 29) (t := 414) dL_change_29 (by decide) (by decide) ?_
    refine R_aload_n (pc := 414) dL_change_414 rfl ?_
    refine R_iload_n (pc := 415) dL_change_415 rfl ?_
    refine R_callS (pc := 416) dL_change_416 rfl (Or.inl rfl) rfl rfl ?_
    refine l_write w k (fun h1 z1 k1 w1 => ?_)
    refine R_istore (pc := 419) dL_change_419 (Nat.le_of_ble_eq_true rfl) rfl ?_
    refine R_aload_n (pc := 421) dL_change_421 rfl ?_
    refine R_iload_n (pc := 422) dL_change_422 rfl ?_
    refine R_bipush (pc := 423) (x := nI 9) dL_change_423 (by decide) ?_
    refine R_ishr (pc := 425) dL_change_425 ?_
    refine R_iload_n (pc := 426) dL_change_426 rfl ?_
    refine R_iconst (pc := 427) (x := nI 1) dL_change_427 rfl ?_
    refine R_iadd (pc := 428) dL_change_428 ?_
    rw [nI_add]
    refine R_callS (pc := 429) dL_change_429 rfl (Or.inl rfl) rfl rfl ?_
    refine l_low (by omega) (by omega) ?_
    refine R_callV (pc := 432) dL_change_432 rfl w1.cls.choose_spec rfl rfl ?_
    refine o_punch w1 k1 (Nat.zero_le _) (fun h2 z2 k2 w2 => ?_)
    refine R_iret (pc := 435) dL_change_435 rfl ?_
    exact kk _ _ k2 w2.ni
  · refine R_tswO (pc := 29) (t := 414) dL_change_29 (by decide) (by decide) ?_
    refine R_aload_n (pc := 414) dL_change_414 rfl ?_
    refine R_iload_n (pc := 415) dL_change_415 rfl ?_
    refine R_callS (pc := 416) dL_change_416 rfl (Or.inl rfl) rfl rfl ?_
    refine l_write w k (fun h1 z1 k1 w1 => ?_)
    refine R_istore (pc := 419) dL_change_419 (Nat.le_of_ble_eq_true rfl) rfl ?_
    refine R_aload_n (pc := 421) dL_change_421 rfl ?_
    refine R_iload_n (pc := 422) dL_change_422 rfl ?_
    refine R_bipush (pc := 423) (x := nI 9) dL_change_423 (by decide) ?_
    refine R_ishr (pc := 425) dL_change_425 ?_
    refine R_iload_n (pc := 426) dL_change_426 rfl ?_
    refine R_iconst (pc := 427) (x := nI 1) dL_change_427 rfl ?_
    refine R_iadd (pc := 428) dL_change_428 ?_
    rw [nI_add]
    refine R_callS (pc := 429) dL_change_429 rfl (Or.inl rfl) rfl rfl ?_
    refine l_low (by omega) (by omega) ?_
    refine R_callV (pc := 432) dL_change_432 rfl w1.cls.choose_spec rfl rfl ?_
    refine o_punch w1 k1 (Nat.zero_le _) (fun h2 z2 k2 w2 => ?_)
    refine R_iret (pc := 435) dL_change_435 rfl ?_
    exact kk _ _ k2 w2.ni
  · refine R_tswO (pc := 29) (t := 414) dL_change_29 (by decide) (by decide) ?_
    refine R_aload_n (pc := 414) dL_change_414 rfl ?_
    refine R_iload_n (pc := 415) dL_change_415 rfl ?_
    refine R_callS (pc := 416) dL_change_416 rfl (Or.inl rfl) rfl rfl ?_
    refine l_write w k (fun h1 z1 k1 w1 => ?_)
    refine R_istore (pc := 419) dL_change_419 (Nat.le_of_ble_eq_true rfl) rfl ?_
    refine R_aload_n (pc := 421) dL_change_421 rfl ?_
    refine R_iload_n (pc := 422) dL_change_422 rfl ?_
    refine R_bipush (pc := 423) (x := nI 9) dL_change_423 (by decide) ?_
    refine R_ishr (pc := 425) dL_change_425 ?_
    refine R_iload_n (pc := 426) dL_change_426 rfl ?_
    refine R_iconst (pc := 427) (x := nI 1) dL_change_427 rfl ?_
    refine R_iadd (pc := 428) dL_change_428 ?_
    rw [nI_add]
    refine R_callS (pc := 429) dL_change_429 rfl (Or.inl rfl) rfl rfl ?_
    refine l_low (by omega) (by omega) ?_
    refine R_callV (pc := 432) dL_change_432 rfl w1.cls.choose_spec rfl rfl ?_
    refine o_punch w1 k1 (Nat.zero_le _) (fun h2 z2 k2 w2 => ?_)
    refine R_iret (pc := 435) dL_change_435 rfl ?_
    exact kk _ _ k2 w2.ni
  · refine R_tswO (pc := 29) (t := 414) dL_change_29 (by decide) (by decide) ?_
    refine R_aload_n (pc := 414) dL_change_414 rfl ?_
    refine R_iload_n (pc := 415) dL_change_415 rfl ?_
    refine R_callS (pc := 416) dL_change_416 rfl (Or.inl rfl) rfl rfl ?_
    refine l_write w k (fun h1 z1 k1 w1 => ?_)
    refine R_istore (pc := 419) dL_change_419 (Nat.le_of_ble_eq_true rfl) rfl ?_
    refine R_aload_n (pc := 421) dL_change_421 rfl ?_
    refine R_iload_n (pc := 422) dL_change_422 rfl ?_
    refine R_bipush (pc := 423) (x := nI 9) dL_change_423 (by decide) ?_
    refine R_ishr (pc := 425) dL_change_425 ?_
    refine R_iload_n (pc := 426) dL_change_426 rfl ?_
    refine R_iconst (pc := 427) (x := nI 1) dL_change_427 rfl ?_
    refine R_iadd (pc := 428) dL_change_428 ?_
    rw [nI_add]
    refine R_callS (pc := 429) dL_change_429 rfl (Or.inl rfl) rfl rfl ?_
    refine l_low (by omega) (by omega) ?_
    refine R_callV (pc := 432) dL_change_432 rfl w1.cls.choose_spec rfl rfl ?_
    refine o_punch w1 k1 (Nat.zero_le _) (fun h2 z2 k2 w2 => ?_)
    refine R_iret (pc := 435) dL_change_435 rfl ?_
    exact kk _ _ k2 w2.ni
  · refine R_tswO (pc := 29) (t := 414) dL_change_29 (by decide) (by decide) ?_
    refine R_aload_n (pc := 414) dL_change_414 rfl ?_
    refine R_iload_n (pc := 415) dL_change_415 rfl ?_
    refine R_callS (pc := 416) dL_change_416 rfl (Or.inl rfl) rfl rfl ?_
    refine l_write w k (fun h1 z1 k1 w1 => ?_)
    refine R_istore (pc := 419) dL_change_419 (Nat.le_of_ble_eq_true rfl) rfl ?_
    refine R_aload_n (pc := 421) dL_change_421 rfl ?_
    refine R_iload_n (pc := 422) dL_change_422 rfl ?_
    refine R_bipush (pc := 423) (x := nI 9) dL_change_423 (by decide) ?_
    refine R_ishr (pc := 425) dL_change_425 ?_
    refine R_iload_n (pc := 426) dL_change_426 rfl ?_
    refine R_iconst (pc := 427) (x := nI 1) dL_change_427 rfl ?_
    refine R_iadd (pc := 428) dL_change_428 ?_
    rw [nI_add]
    refine R_callS (pc := 429) dL_change_429 rfl (Or.inl rfl) rfl rfl ?_
    refine l_low (by omega) (by omega) ?_
    refine R_callV (pc := 432) dL_change_432 rfl w1.cls.choose_spec rfl rfl ?_
    refine o_punch w1 k1 (Nat.zero_le _) (fun h2 z2 k2 w2 => ?_)
    refine R_iret (pc := 435) dL_change_435 rfl ?_
    exact kk _ _ k2 w2.ni
  · refine R_tswO (pc := 29) (t := 414) dL_change_29 (by decide) (by decide) ?_
    refine R_aload_n (pc := 414) dL_change_414 rfl ?_
    refine R_iload_n (pc := 415) dL_change_415 rfl ?_
    refine R_callS (pc := 416) dL_change_416 rfl (Or.inl rfl) rfl rfl ?_
    refine l_write w k (fun h1 z1 k1 w1 => ?_)
    refine R_istore (pc := 419) dL_change_419 (Nat.le_of_ble_eq_true rfl) rfl ?_
    refine R_aload_n (pc := 421) dL_change_421 rfl ?_
    refine R_iload_n (pc := 422) dL_change_422 rfl ?_
    refine R_bipush (pc := 423) (x := nI 9) dL_change_423 (by decide) ?_
    refine R_ishr (pc := 425) dL_change_425 ?_
    refine R_iload_n (pc := 426) dL_change_426 rfl ?_
    refine R_iconst (pc := 427) (x := nI 1) dL_change_427 rfl ?_
    refine R_iadd (pc := 428) dL_change_428 ?_
    rw [nI_add]
    refine R_callS (pc := 429) dL_change_429 rfl (Or.inl rfl) rfl rfl ?_
    refine l_low (by omega) (by omega) ?_
    refine R_callV (pc := 432) dL_change_432 rfl w1.cls.choose_spec rfl rfl ?_
    refine o_punch w1 k1 (Nat.zero_le _) (fun h2 z2 k2 w2 => ?_)
    refine R_iret (pc := 435) dL_change_435 rfl ?_
    exact kk _ _ k2 w2.ni
  · refine R_tswO (pc := 29) (t := 414) dL_change_29 (by decide) (by decide) ?_
    refine R_aload_n (pc := 414) dL_change_414 rfl ?_
    refine R_iload_n (pc := 415) dL_change_415 rfl ?_
    refine R_callS (pc := 416) dL_change_416 rfl (Or.inl rfl) rfl rfl ?_
    refine l_write w k (fun h1 z1 k1 w1 => ?_)
    refine R_istore (pc := 419) dL_change_419 (Nat.le_of_ble_eq_true rfl) rfl ?_
    refine R_aload_n (pc := 421) dL_change_421 rfl ?_
    refine R_iload_n (pc := 422) dL_change_422 rfl ?_
    refine R_bipush (pc := 423) (x := nI 9) dL_change_423 (by decide) ?_
    refine R_ishr (pc := 425) dL_change_425 ?_
    refine R_iload_n (pc := 426) dL_change_426 rfl ?_
    refine R_iconst (pc := 427) (x := nI 1) dL_change_427 rfl ?_
    refine R_iadd (pc := 428) dL_change_428 ?_
    rw [nI_add]
    refine R_callS (pc := 429) dL_change_429 rfl (Or.inl rfl) rfl rfl ?_
    refine l_low (by omega) (by omega) ?_
    refine R_callV (pc := 432) dL_change_432 rfl w1.cls.choose_spec rfl rfl ?_
    refine o_punch w1 k1 (Nat.zero_le _) (fun h2 z2 k2 w2 => ?_)
    refine R_iret (pc := 435) dL_change_435 rfl ?_
    exact kk _ _ k2 w2.ni
theorem l_change {v more : Int32} (hg : GsOK gs) (w : Wx sA gs x Y K0 F0 s1 s2 t1 t2 G S [] (h, z)) (k : OKS S) (h17 : ¬ lo v 26 = 17) (kk : ∀ (h' : Nat → Option am_C) (z' : Nat × Nat), OKS (fCh v more S).2 → Wx sA gs x Y K0 F0 s1 s2 t1 t2 G (fCh v more S).2 [] (h', z') → Q (some (.int (fCh v more S).1)) (h', z')) : Rn sA mL_change 0 [some (.ref x), some (.int v), some (.int more), none, none, none] [] (h, z) Q := by
  have hn := w.nw k
  refine R_aload_n (pc := 0) dL_change_0 rfl ?_
  refine R_iconst (pc := 1) (x := nI 0) dL_change_1 rfl ?_
  refine R_callV (pc := 2) dL_change_2 rfl w.cls.choose_spec rfl rfl ?_
  refine o_told (j := 0) w k (by omega) (fun h1 z1 w1 => ?_)
  rw [show toA S.1 0 = nI (nU S.1) from hn.1]
  refine R_istore_n (pc := 5) dL_change_5 (Nat.le_of_ble_eq_true rfl) rfl ?_
  refine R_iload_n (pc := 6) dL_change_6 rfl ?_
  refine R_if_ne (pc := 7) (t := 14) dL_change_7 (by decide) (fun h7 => ?_) (fun h7 => ?_)
  · have e0 : crd v S = nI (lo (sh v 5) (nU S.1)) := if_neg (nz_of h7)
    have hnp : 0 < nU S.1 := Nat.pos_of_ne_zero (nz_of h7)
    refine R_iload_n (pc := 14) dL_change_14 rfl ?_
    refine R_iconst (pc := 15) (x := nI 5) dL_change_15 rfl ?_
    refine R_ishr (pc := 16) dL_change_16 ?_
    refine R_iload_n (pc := 17) dL_change_17 rfl ?_
    refine R_callS (pc := 18) dL_change_18 rfl (Or.inl rfl) rfl rfl ?_
    refine l_low hnp (by omega) ?_
    rw [← e0]
    exact ch_21 hg w1 k hn.2.1 rfl h17 kk
  · have e0 : crd v S = nI 0 := if_pos (z_of h7 (by omega))
    refine R_iconst (pc := 10) (x := nI 0) dL_change_10 rfl ?_
    refine R_goto (pc := 11) (t := 21) dL_change_11 (by decide) ?_
    rw [← e0]
    exact ch_21 hg w1 k hn.2.1 rfl h17 kk
end LW0
