section MOD14
variable {sA : Nat} {h : Nat → Option am_C} {z : Nat × Nat} {Q : Option Value → am_H → Prop} {M : Nat} {A : Nat → Nat → Int32} {S : Nat → Int32}
theorem PsR.sum {U V : Nat → Int32} {p : PS} {Z : Nat → Int32} (h : PsR U p V Z) {j : Nat} (hj : j < 16) : Z j = p.2.2 j := h.2.2.2 j hj
theorem l12_bk1 {cd : Nat} {x : Int32}  : ∀ (n k : Nat) (Z : Nat → Int32) (_ : k + n = 4) (_ : (∀ Z2 : Nat → Int32, (∀ j, j < 16 → Z2 j = if (j % 4 = 2 ∨ j % 4 = 3) ∧ k ≤ j / 4 then Z j + x else Z j) → Rn sA mX12_breakLevel 73 [some (.ref M), some (.int (nI 0)), some (.int (nI cd)), some (.int x), some (.int (nI 4))] [] (putM h M (va_up A 12 Z2) S, z) Q)), Rn sA mX12_breakLevel 31 [some (.ref M), some (.int (nI 0)), some (.int (nI cd)), some (.int x), some (.int (nI k))] [] (putM h M (va_up A 12 Z) S, z) Q
  | 0, k, Z, hk, hX => by
    obtain rfl : k = 4 := by omega
    refine R_iload (pc := 31) dX12_breakLevel_31 rfl ?_
    refine R_iconst (pc := 33) (x := nI 4) dX12_breakLevel_33 rfl ?_
    refine R_icmp_ge (pc := 34) (t := 73) dX12_breakLevel_34 (by decide) (fun _ => ?_) (fun hz9 => absurd (nI_le (by omega) (by omega)) hz9)
    exact hX Z (fun j hj => by rw [if_neg (by omega)])
  | n + 1, k, Z, hk, hX => by
    refine R_iload (pc := 31) dX12_breakLevel_31 rfl ?_
    refine R_iconst (pc := 33) (x := nI 4) dX12_breakLevel_33 rfl ?_
    refine R_icmp_ge (pc := 34) (t := 73) dX12_breakLevel_34 (by decide) (fun hz9 => absurd hz9 (nI_ge (by omega) (by omega))) (fun _ => ?_)
    refine R_aload_n (pc := 37) dX12_breakLevel_37 rfl ?_
    refine M_g (pc := 38) dX12_breakLevel_38 rfl rfl ?_
    refine R_iconst (pc := 41) (x := nI 4) dX12_breakLevel_41 rfl ?_
    refine R_iload (pc := 42) dX12_breakLevel_42 rfl ?_
    refine R_imul (pc := 44) dX12_breakLevel_44 ?_
    refine R_iconst (pc := 45) (x := nI 2) dX12_breakLevel_45 rfl ?_
    refine R_iadd (pc := 46) dX12_breakLevel_46 ?_
    refine R_dup2 (pc := 47) dX12_breakLevel_47 rfl rfl ?_
    refine M_ald (pc := 48) dX12_breakLevel_48 (by simp only [nI_add, pk_mul]; exact rfl) (by simp only [mol12]; omega) ?_
    refine R_iload_n (pc := 49) dX12_breakLevel_49 rfl ?_
    refine R_iadd (pc := 50) dX12_breakLevel_50 ?_
    refine M_ast (pc := 51) dX12_breakLevel_51 (by simp only [nI_add, pk_mul]; exact rfl) (by simp only [mol12]; omega) ?_
    refine R_aload_n (pc := 52) dX12_breakLevel_52 rfl ?_
    refine M_g (pc := 53) dX12_breakLevel_53 rfl rfl ?_
    refine R_iconst (pc := 56) (x := nI 4) dX12_breakLevel_56 rfl ?_
    refine R_iload (pc := 57) dX12_breakLevel_57 rfl ?_
    refine R_imul (pc := 59) dX12_breakLevel_59 ?_
    refine R_iconst (pc := 60) (x := nI 3) dX12_breakLevel_60 rfl ?_
    refine R_iadd (pc := 61) dX12_breakLevel_61 ?_
    refine R_dup2 (pc := 62) dX12_breakLevel_62 rfl rfl ?_
    refine M_ald (pc := 63) dX12_breakLevel_63 (by simp only [nI_add, pk_mul]; exact rfl) (by simp only [mol12]; omega) ?_
    refine R_iload_n (pc := 64) dX12_breakLevel_64 rfl ?_
    refine R_iadd (pc := 65) dX12_breakLevel_65 ?_
    refine M_ast (pc := 66) dX12_breakLevel_66 (by simp only [nI_add, pk_mul]; exact rfl) (by simp only [mol12]; omega) ?_
    refine R_iinc (pc := 67) dX12_breakLevel_67 rfl (by first | exact nI_inc _ | rfl) rfl ?_
    refine R_goto (pc := 70) (t := 31) dX12_breakLevel_70 (by decide) ?_
    rw [va_up_up, va_up_up]
    refine l12_bk1 n (k + 1) _ (by omega) (fun Z2 b => hX Z2 (fun j hj => ?_))
    rw [b j hj]
    show (if _ then upd (upd Z (4 * k + 2) (Z (4 * k + 2) + x)) (4 * k + 3) (upd Z (4 * k + 2) (Z (4 * k + 2) + x) (4 * k + 3) + x) j + x else upd (upd Z (4 * k + 2) (Z (4 * k + 2) + x)) (4 * k + 3) (upd Z (4 * k + 2) (Z (4 * k + 2) + x) (4 * k + 3) + x) j) = _
    by_cases c1 : j = 4 * k + 3
    · subst c1
      rw [if_neg (by omega), upd_s, upd_n (by omega), if_pos (by omega)]
    · by_cases c2 : j = 4 * k + 2
      · subst c2
        rw [if_neg (by omega), upd_n (by omega), upd_s, if_pos (by omega)]
      · rw [upd_n c1, upd_n c2]
        by_cases c3 : (j % 4 = 2 ∨ j % 4 = 3) ∧ k + 1 ≤ j / 4
        · rw [if_pos c3, if_pos (by omega)]
        · rw [if_neg c3, if_neg (by omega)]
theorem l12_bk2 {lv : Nat} {o2 o4 : Option Value} (hlv : lv ≤ 3) : ∀ (n k : Nat) (Z : Nat → Int32) (_ : k + n = 4) (_ : (∀ Z2 : Nat → Int32, (∀ j, j < 16 → Z2 j = if j / 4 = lv ∧ k ≤ j % 4 then nI 0 else Z j) → Q none (putM h M (va_up A 12 Z2) S, z))), Rn sA mX12_breakLevel 127 [some (.ref M), some (.int (nI lv)), o2, some (.int (nI k)), o4] [] (putM h M (va_up A 12 Z) S, z) Q
  | 0, k, Z, hk, hX => by
    obtain rfl : k = 4 := by omega
    refine R_iload_n (pc := 127) dX12_breakLevel_127 rfl ?_
    refine R_iconst (pc := 128) (x := nI 4) dX12_breakLevel_128 rfl ?_
    refine R_icmp_ge (pc := 129) (t := 149) dX12_breakLevel_129 (by decide) (fun _ => ?_) (fun hz9 => absurd (nI_le (by omega) (by omega)) hz9)
    refine R_vret (pc := 149) dX12_breakLevel_149 rfl ?_
    exact hX Z (fun j hj => by rw [if_neg (by omega)])
  | n + 1, k, Z, hk, hX => by
    refine R_iload_n (pc := 127) dX12_breakLevel_127 rfl ?_
    refine R_iconst (pc := 128) (x := nI 4) dX12_breakLevel_128 rfl ?_
    refine R_icmp_ge (pc := 129) (t := 149) dX12_breakLevel_129 (by decide) (fun hz9 => absurd hz9 (nI_ge (by omega) (by omega))) (fun _ => ?_)
    refine R_aload_n (pc := 132) dX12_breakLevel_132 rfl ?_
    refine M_g (pc := 133) dX12_breakLevel_133 rfl rfl ?_
    refine R_iconst (pc := 136) (x := nI 4) dX12_breakLevel_136 rfl ?_
    refine R_iload_n (pc := 137) dX12_breakLevel_137 rfl ?_
    refine R_imul (pc := 138) dX12_breakLevel_138 ?_
    refine R_iload_n (pc := 139) dX12_breakLevel_139 rfl ?_
    refine R_iadd (pc := 140) dX12_breakLevel_140 ?_
    refine R_iconst (pc := 141) (x := nI 0) dX12_breakLevel_141 rfl ?_
    refine M_ast (pc := 142) dX12_breakLevel_142 (by simp only [nI_add, pk_mul]; exact rfl) (by simp only [mol12]; omega) ?_
    refine R_iinc (pc := 143) dX12_breakLevel_143 rfl (by first | exact nI_inc _ | rfl) rfl ?_
    refine R_goto (pc := 146) (t := 127) dX12_breakLevel_146 (by decide) ?_
    rw [va_up_up]
    refine l12_bk2 hlv n (k + 1) _ (by omega) (fun Z2 b => hX Z2 (fun j hj => ?_))
    rw [b j hj]
    show (if _ then _ else upd Z (4 * lv + k) (nI 0) j) = _
    by_cases c1 : j = 4 * lv + k
    · subst c1
      rw [if_neg (by omega), upd_s, if_pos (by omega)]
    · rw [upd_n c1]
      by_cases c3 : j / 4 = lv ∧ k + 1 ≤ j % 4
      · rw [if_pos c3, if_pos (by omega)]
      · rw [if_neg c3, if_neg (by omega)]
theorem l12_bk3 {U v sm : Nat → Int32} {p : PS} {lv cd : Nat} {o3 o4 : Option Value} (hlv : lv ≤ 3) (hcd : cd < 40) (hp : p.1 < 161) (hv : ∀ f, f < 3 → U (1104 + 5 * cd + f) = v f) (hP : PsR U p (A 1) p.2.2) (hs : ∀ j, j < 16 → A 12 j = sm j) (hQ : ∀ A2 : Nat → Nat → Int32, (∀ q, q ≠ 1 → q ≠ 12 → A2 q = A q) → PsR U (putL p (lineV (lv + 1) v (sm (4 * lv)) (sm (4 * lv + 1)) (sm (4 * lv + 2)) (sm (4 * lv + 3)) (-1000009)) (fun j => if j / 4 = lv then nI 0 else sm j)) (A2 1) (A2 12) → Q none (putM h M A2 S, z)) : Rn sA mX12_breakLevel 73 [some (.ref M), some (.int (nI lv)), some (.int (nI cd)), o3, o4] [] (putM h M A S, z) Q := by
  refine R_aload_n (pc := 73) dX12_breakLevel_73 rfl ?_
  refine R_iload_n (pc := 74) dX12_breakLevel_74 rfl ?_
  refine R_iconst (pc := 75) (x := nI 1) dX12_breakLevel_75 rfl ?_
  refine R_iadd (pc := 76) dX12_breakLevel_76 ?_
  refine R_iload_n (pc := 77) dX12_breakLevel_77 rfl ?_
  refine R_callV (pc := 78) dX12_breakLevel_78 rfl putM_o rfl rfl ?_
  rw [nI_add]
  refine s12_printLine (v := v) hp hcd (by omega) hP.2.1 (fun f hf => (hP.1 _ (by omega)).trans (hv f hf)) (fun A2 a1 a2 a3 a4 a5 => ?_)
  have z12 : A2 12 = A 12 := a1 12 (by omega)
  refine R_aload_n (pc := 81) dX12_breakLevel_81 rfl ?_
  refine R_aload_n (pc := 82) dX12_breakLevel_82 rfl ?_
  refine M_g (pc := 83) dX12_breakLevel_83 rfl rfl ?_
  refine R_iconst (pc := 86) (x := nI 4) dX12_breakLevel_86 rfl ?_
  refine R_iload_n (pc := 87) dX12_breakLevel_87 rfl ?_
  refine R_imul (pc := 88) dX12_breakLevel_88 ?_
  refine M_ald (pc := 89) dX12_breakLevel_89 (by simp only [nI_add, pk_mul]; exact rfl) (by simp only [mol12]; omega) ?_
  refine R_aload_n (pc := 90) dX12_breakLevel_90 rfl ?_
  refine M_g (pc := 91) dX12_breakLevel_91 rfl rfl ?_
  refine R_iconst (pc := 94) (x := nI 4) dX12_breakLevel_94 rfl ?_
  refine R_iload_n (pc := 95) dX12_breakLevel_95 rfl ?_
  refine R_imul (pc := 96) dX12_breakLevel_96 ?_
  refine R_iconst (pc := 97) (x := nI 1) dX12_breakLevel_97 rfl ?_
  refine R_iadd (pc := 98) dX12_breakLevel_98 ?_
  refine M_ald (pc := 99) dX12_breakLevel_99 (by simp only [nI_add, pk_mul]; exact rfl) (by simp only [mol12]; omega) ?_
  refine R_aload_n (pc := 100) dX12_breakLevel_100 rfl ?_
  refine M_g (pc := 101) dX12_breakLevel_101 rfl rfl ?_
  refine R_iconst (pc := 104) (x := nI 4) dX12_breakLevel_104 rfl ?_
  refine R_iload_n (pc := 105) dX12_breakLevel_105 rfl ?_
  refine R_imul (pc := 106) dX12_breakLevel_106 ?_
  refine R_iconst (pc := 107) (x := nI 2) dX12_breakLevel_107 rfl ?_
  refine R_iadd (pc := 108) dX12_breakLevel_108 ?_
  refine M_ald (pc := 109) dX12_breakLevel_109 (by simp only [nI_add, pk_mul]; exact rfl) (by simp only [mol12]; omega) ?_
  refine R_aload_n (pc := 110) dX12_breakLevel_110 rfl ?_
  refine M_g (pc := 111) dX12_breakLevel_111 rfl rfl ?_
  refine R_iconst (pc := 114) (x := nI 4) dX12_breakLevel_114 rfl ?_
  refine R_iload_n (pc := 115) dX12_breakLevel_115 rfl ?_
  refine R_imul (pc := 116) dX12_breakLevel_116 ?_
  refine R_iconst (pc := 117) (x := nI 3) dX12_breakLevel_117 rfl ?_
  refine R_iadd (pc := 118) dX12_breakLevel_118 ?_
  refine M_ald (pc := 119) dX12_breakLevel_119 (by simp only [nI_add, pk_mul]; exact rfl) (by simp only [mol12]; omega) ?_
  refine R_ldc (pc := 120) (x := (-1000009)) dX12_breakLevel_120 rfl ?_
  refine R_callV (pc := 122) dX12_breakLevel_122 rfl putM_o rfl rfl ?_
  rw [z12, hs _ (by omega), hs _ (by omega), hs _ (by omega), hs _ (by omega)]
  refine s12_fill hp a2 (fun A3 b1 b2 b3 b4 b5 b6 b7 => ?_)
  refine R_iconst (pc := 125) (x := nI 0) dX12_breakLevel_125 rfl ?_
  refine R_istore_n (pc := 126) dX12_breakLevel_126 (Nat.le_of_ble_eq_true rfl) rfl ?_
  refine Rn_A (A' := va_up A3 12 (A3 12)) va_up_id.symm ?_
  refine l12_bk2 hlv 4 0 (A3 12) (by omega) (fun Z2 zz => ?_)
  refine hQ _ (fun q q1 q2 => by unfold va_up; rw [if_neg q2, b1 q q1, a1 q q1]) (hP.put (fun j hj => ?_) ?_ (fun j hj => ?_) (fun j hj => ?_))
  · show A3 1 j = _
    rw [b2 j (by omega), a3 j (by omega) (by omega)]
  · show A3 1 1304 = _
    rw [b2 1304 (by omega), a2]
  · show A3 1 (1305 + 9 * p.1 + j) = _
    have cs : ∀ x : Nat, x < 9 → x = 0 ∨ x = 1 ∨ x = 2 ∨ x = 3 ∨ x = 4 ∨ x = 5 ∨ x = 6 ∨ x = 7 ∨ x = 8 := by omega
    rcases cs j hj with rfl | rfl | rfl | rfl | rfl | rfl | rfl | rfl | rfl
    · rw [b2 _ (by omega)]; exact a4
    · rw [b2 _ (by omega)]; exact a5 0 (by omega)
    · rw [b2 _ (by omega)]; exact a5 1 (by omega)
    · rw [b2 _ (by omega)]; exact a5 2 (by omega)
    · exact b3
    · exact b4
    · exact b5
    · exact b6
    · exact b7
  · show Z2 j = _
    rw [zz j hj, b1 12 (by omega), z12, hs j hj]
    by_cases e : j / 4 = lv
    · rw [if_pos e, if_pos ⟨e, Nat.zero_le _⟩]
    · rw [if_neg e, if_neg (fun q => e q.1)]
theorem s12_brk {U v : Nat → Int32} {p : PS} {lv cd : Nat} {lim : Int32} (hlv : lv ≤ 3) (hcd : cd < 40) (hp : p.1 < 161) (hv : ∀ f, f < 5 → U (1104 + 5 * cd + f) = v f) (hP : PsR U p (A 1) (A 12)) (hlim : U 1061 = lim) (hQ : ∀ A2 : Nat → Nat → Int32, (∀ q, q ≠ 1 → q ≠ 12 → A2 q = A q) → PsR U (brk lim lv v p) (A2 1) (A2 12) → Q none (putM h M A2 S, z)) : Rn sA mX12_breakLevel 0 [some (.ref M), some (.int (nI lv)), some (.int (nI cd)), none, none] [] (putM h M A S, z) Q := by
  have hP3 : PsR U p (A 1) p.2.2 := ⟨hP.1, hP.2.1, hP.2.2.1, fun _ _ => rfl⟩
  by_cases hl0 : lv = 0
  · subst hl0
    refine R_iload_n (pc := 0) dX12_breakLevel_0 rfl ?_
    refine R_if_ne (pc := 1) (t := 73) dX12_breakLevel_1 (by decide) (fun hz9 => absurd (show nI 0 = 0 from rfl) hz9) (fun _ => ?_)
    refine R_aload_n (pc := 4) dX12_breakLevel_4 rfl ?_
    refine M_g (pc := 5) dX12_breakLevel_5 rfl rfl ?_
    refine R_iconst (pc := 8) (x := nI 1) dX12_breakLevel_8 rfl ?_
    refine M_ald (pc := 9) dX12_breakLevel_9 rfl (by simp only [mol12]; omega) ?_
    refine R_aload_n (pc := 10) dX12_breakLevel_10 rfl ?_
    refine M_g (pc := 11) dX12_breakLevel_11 rfl rfl ?_
    refine R_sipush (pc := 14) (x := nI 1061) dX12_breakLevel_14 (by decide) ?_
    refine M_ald (pc := 17) dX12_breakLevel_17 rfl (by simp only [mol1]; omega) ?_
    refine R_aload_n (pc := 18) dX12_breakLevel_18 rfl ?_
    refine R_iload_n (pc := 19) dX12_breakLevel_19 rfl ?_
    refine R_iconst (pc := 20) (x := nI 4) dX12_breakLevel_20 rfl ?_
    refine R_callV (pc := 21) dX12_breakLevel_21 rfl putM_o rfl rfl ?_
    refine s12_accepted hcd (by omega) ?_
    refine R_callS (pc := 24) dX12_breakLevel_24 rfl (Or.inl rfl) rfl rfl ?_
    rw [hP.1 1061 (by omega), hlim, hP.1 (1104 + 5 * cd + 4) (by omega), hv 4 (by omega), hP.2.2.2 1 (by omega)]
    refine s12_overtime ?_
    refine R_istore_n (pc := 27) dX12_breakLevel_27 (Nat.le_of_ble_eq_true rfl) rfl ?_
    refine R_iconst (pc := 28) (x := nI 0) dX12_breakLevel_28 rfl ?_
    refine R_istore (pc := 29) dX12_breakLevel_29 (Nat.le_of_ble_eq_true rfl) rfl ?_
    refine Rn_A (A' := va_up A 12 (A 12)) va_up_id.symm ?_
    refine l12_bk1 4 0 (A 12) (by omega) (fun Z2 zz => ?_)
    refine l12_bk3 (A := va_up A 12 Z2) (U := U) (v := v) (p := p) (sm := brkA lim 0 v p.2.2) (by omega) hcd hp (fun f hf => hv f (by omega)) hP3 (fun j hj => ?_) (fun A2 a b => hQ A2 (fun q q1 q2 => (a q q1 q2).trans (by unfold va_up; rw [if_neg q2])) b)
    show Z2 j = _
    rw [zz j hj, hP.2.2.2 j hj]
    unfold brkA
    rw [if_pos rfl]
    by_cases e : j % 4 = 2 ∨ j % 4 = 3
    · rw [if_pos e, if_pos ⟨e, Nat.zero_le _⟩]
    · rw [if_neg e, if_neg (fun q => e q.1)]
  · skip
    refine R_iload_n (pc := 0) dX12_breakLevel_0 rfl ?_
    refine R_if_ne (pc := 1) (t := 73) dX12_breakLevel_1 (by decide) (fun _ => ?_) (fun hz9 => absurd hz9 (nI_ne0 (by omega) (by omega)))
    refine l12_bk3 (U := U) (v := v) (p := p) (sm := brkA lim lv v p.2.2) hlv hcd hp (fun f hf => hv f (by omega)) hP3 (fun j hj => ?_) hQ
    unfold brkA
    rw [if_neg hl0]
    exact hP.2.2.2 j hj
theorem pk_lt1 {k m : Nat} (hk : k < 1000) (hm : m < 1000) : nI m - nI 1 < nI k ↔ m ≤ k := by
  rw [Int32.lt_iff_toInt_lt, pk_sub_toInt (by omega) (by omega), nI_toInt (by omega)]
  omega
theorem l12_brks {U v : Nat → Int32} {p : PS} {m cd : Nat} {lim : Int32} (hm : m ≤ 3) (hcd : cd < 40) (hp : p.1 + m ≤ 161) (hv : ∀ f, f < 5 → U (1104 + 5 * cd + f) = v f) (hlim : U 1061 = lim) : ∀ (n k : Nat) (A : Nat → Nat → Int32) (_ : k + n = m) (_ : PsR U (brks lim v k p) (A 1) (A 12)) (_ : (∀ A2 : Nat → Nat → Int32, (∀ q, q ≠ 1 → q ≠ 12 → A2 q = A q) → PsR U (brks lim v m p) (A2 1) (A2 12) → Q none (putM h M A2 S, z))), Rn sA mX12_breaks 2 [some (.ref M), some (.int (nI m - nI 1)), some (.int (nI cd)), some (.int (nI k))] [] (putM h M A S, z) Q
  | 0, k, A, hk, hP, hX => by
    obtain rfl : k = m := by omega
    refine R_iload_n (pc := 2) dX12_breaks_2 rfl ?_
    refine R_iload_n (pc := 3) dX12_breaks_3 rfl ?_
    refine R_icmp_gt (pc := 4) (t := 19) dX12_breaks_4 (by decide) (fun _ => ?_) (fun hz9 => absurd ((pk_lt1 (by omega) (by omega)).mpr (by omega)) hz9)
    refine R_vret (pc := 19) dX12_breaks_19 rfl ?_
    exact hX A (fun _ _ _ => rfl) hP
  | n + 1, k, A, hk, hP, hX => by
    refine R_iload_n (pc := 2) dX12_breaks_2 rfl ?_
    refine R_iload_n (pc := 3) dX12_breaks_3 rfl ?_
    refine R_icmp_gt (pc := 4) (t := 19) dX12_breaks_4 (by decide) (fun hz9 => absurd hz9 (fun q => by have := (pk_lt1 (by omega) (by omega)).mp q; omega)) (fun _ => ?_)
    refine R_aload_n (pc := 7) dX12_breaks_7 rfl ?_
    refine R_iload_n (pc := 8) dX12_breaks_8 rfl ?_
    refine R_iload_n (pc := 9) dX12_breaks_9 rfl ?_
    refine R_callV (pc := 10) dX12_breaks_10 rfl putM_o rfl rfl ?_
    refine s12_brk (v := v) (lim := lim) (by omega) hcd (by rw [brks_1]; omega) hv hP hlim (fun A3 a3 b3 => ?_)
    refine R_iinc (pc := 13) dX12_breaks_13 rfl (by first | exact nI_inc _ | rfl) rfl ?_
    refine R_goto (pc := 16) (t := 2) dX12_breaks_16 (by decide) ?_
    exact l12_brks hm hcd hp hv hlim n (k + 1) A3 (by omega) b3 (fun A2 a b => hX A2 (fun q q1 q2 => (a q q1 q2).trans (a3 q q1 q2)) b)
theorem s12_brks {U v : Nat → Int32} {p : PS} {m cd : Nat} {lim : Int32} (hm : m ≤ 3) (hcd : cd < 40) (hp : p.1 + m ≤ 161) (hv : ∀ f, f < 5 → U (1104 + 5 * cd + f) = v f) (hP : PsR U p (A 1) (A 12)) (hlim : U 1061 = lim) (hQ : (∀ A2 : Nat → Nat → Int32, (∀ q, q ≠ 1 → q ≠ 12 → A2 q = A q) → PsR U (brks lim v m p) (A2 1) (A2 12) → Q none (putM h M A2 S, z))) : Rn sA mX12_breaks 0 [some (.ref M), some (.int (nI m - nI 1)), some (.int (nI cd)), none] [] (putM h M A S, z) Q := by
  refine R_iconst (pc := 0) (x := nI 0) dX12_breaks_0 rfl ?_
  refine R_istore_n (pc := 1) dX12_breaks_1 (Nat.le_of_ble_eq_true rfl) rfl ?_
  exact l12_brks hm hcd hp hv hlim m 0 A (by omega) hP hQ
end MOD14
