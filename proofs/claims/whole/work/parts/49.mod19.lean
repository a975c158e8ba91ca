section MOD19
variable {sA : Nat} {h : Nat → Option am_C} {q0 q1 : Nat} {Q : Option Value → am_H → Prop}
/-- objects of the reference while it is made: what lies from M on -/
def frM (h : Nat → Option am_C) (M : Nat) (n : Nat) (fs : List Value) : Nat → Option am_C := fun a => if a = M then some (.inr (12, fs)) else if M < a ∧ a < M + n then some (.inl (0, mo_len (a - M), .inl (fun _ => 0))) else h a
theorem frM_o {M n : Nat} {fs : List Value} : frM h M n fs M = some (.inr (12, fs)) := if_pos rfl
theorem frM_up {M n : Nat} {fs fs2 : List Value} : va_up (frM h M n fs) M (some (.inr (12, fs2))) = frM h M n fs2 := by
  funext a
  unfold va_up frM
  by_cases e : a = M
  · rw [if_pos e, if_pos e]
  · rw [if_neg e, if_neg e, if_neg e]
theorem frM_new {M n : Nat} {fs : List Value} (hn : 0 < n) {l : Nat} (hl : mo_len n = l) : va_up (frM h M n fs) (M + n) (some (.inl (0, l, .inl (fun _ => 0)))) = frM h M (n + 1) fs := by
  funext a
  unfold va_up frM
  by_cases e : a = M + n
  · rw [if_pos e, if_neg (by omega), if_pos (by omega), ← hl, show a - M = n by omega]
  · rw [if_neg e]
    by_cases e1 : a = M
    · rw [if_pos e1, if_pos e1]
    · rw [if_neg e1, if_neg e1]
      by_cases e2 : M < a ∧ a < M + n
      · rw [if_pos e2, if_pos (by omega)]
      · rw [if_neg e2, if_neg (by omega)]
theorem frM_end {M : Nat} {S : Nat → Int32} : frM h M 14 (mo_obj M S) = putM h M (fun _ _ => 0) S := rfl
theorem frM_0 {M : Nat} {fs fs2 : List Value} (hM : h M = some (.inr (12, fs))) : va_up h M (some (.inr (12, fs2))) = frM h M 1 fs2 := by
  funext a
  unfold va_up frM
  by_cases e : a = M
  · rw [if_pos e, if_pos e]
  · rw [if_neg e, if_neg e, if_neg (by omega)]
/-- making the k-th array and keeping it -/
theorem frM_id {M : Nat} {fs : List Value} (hM : h M = some (.inr (12, fs))) : h = frM h M 1 fs := by
  funext a
  unfold frM
  by_cases e : a = M
  · rw [if_pos e, e, hM]
  · rw [if_neg e, if_neg (by omega)]
def S00 : Nat → Int32 := fun k => if k = 7 then (-1000009) else if k = 8 then (-1000009) else 0
theorem s12_init {M w0 : Nat} (hM : h M = some (.inr (12, am_bl 12))) (hQ : ∀ U : Nat → Int32, U 0 = nI 0 → U 1 = nI 2 → U 2 = nI 2 → U 3 = nI 2 → U 4 = nI 4 → U 5 = nI 3 → U 6 = nI 7 → U 7 = nI 3 → U 8 = nI 10 → U 9 = nI 4 → U 10 = nI 14 → U 11 = nI 1 → U 12 = nI 1 → U 13 = nI 1 → U 14 = nI 999 → U 15 = nI 400 → U 16 = (-1000009) → U 17 = (-1000009) → U 18 = (-1000009) → (∀ j, 19 ≤ j → U j = 0) → Q none (putM h M (va_up (fun _ _ => 0) 1 U) S00, M + 14, w0 + 34308)) : Rn sA mX12_init 0 [some (.ref M), none] [] (h, M + 1, w0) Q := by
  rw [frM_id hM]
  refine R_aload_n (pc := 0) dX12_init_0 rfl ?_
  refine R_obj (pc := 1) dX12_init_1 rfl rfl (by decide) ?_
  refine R_aload_n (pc := 4) dX12_init_4 rfl ?_
  refine R_sipush (pc := 5) (x := nI 2754) dX12_init_5 (by decide) ?_
  refine R_newa (pc := 8) dX12_init_8 rfl (by decide) ?_
  dsimp only [Prod.fst, Prod.snd]
  rw [frM_new (M := M) (n := 1) (l := 2754) (by omega) rfl, show M + 1 + 1 = M + 2 from rfl]
  refine R_putf (pc := 10) dX12_init_10 rfl frM_o rfl (Or.inr ⟨by decide, rfl⟩) rfl ?_
  rw [frM_up]
  refine R_aload_n (pc := 13) dX12_init_13 rfl ?_
  refine R_sipush (pc := 14) (x := nI 22032) dX12_init_14 (by decide) ?_
  refine R_newa (pc := 17) dX12_init_17 rfl (by decide) ?_
  dsimp only [Prod.fst, Prod.snd]
  rw [frM_new (M := M) (n := 2) (l := 22032) (by omega) rfl, show M + 2 + 1 = M + 3 from rfl]
  refine R_putf (pc := 19) dX12_init_19 rfl frM_o rfl (Or.inr ⟨by decide, rfl⟩) rfl ?_
  rw [frM_up]
  refine R_aload_n (pc := 22) dX12_init_22 rfl ?_
  refine R_sipush (pc := 23) (x := nI 5508) dX12_init_23 (by decide) ?_
  refine R_newa (pc := 26) dX12_init_26 rfl (by decide) ?_
  dsimp only [Prod.fst, Prod.snd]
  rw [frM_new (M := M) (n := 3) (l := 5508) (by omega) rfl, show M + 3 + 1 = M + 4 from rfl]
  refine R_putf (pc := 28) dX12_init_28 rfl frM_o rfl (Or.inr ⟨by decide, rfl⟩) rfl ?_
  rw [frM_up]
  refine R_aload_n (pc := 31) dX12_init_31 rfl ?_
  refine R_bipush (pc := 32) (x := nI 50) dX12_init_32 (by decide) ?_
  refine R_newa (pc := 34) dX12_init_34 rfl (by decide) ?_
  dsimp only [Prod.fst, Prod.snd]
  rw [frM_new (M := M) (n := 4) (l := 50) (by omega) rfl, show M + 4 + 1 = M + 5 from rfl]
  refine R_putf (pc := 36) dX12_init_36 rfl frM_o rfl (Or.inr ⟨by decide, rfl⟩) rfl ?_
  rw [frM_up]
  refine R_aload_n (pc := 39) dX12_init_39 rfl ?_
  refine R_ldc (pc := 40) (x := (-1000009)) dX12_init_40 rfl ?_
  refine R_putf (pc := 42) dX12_init_42 rfl frM_o rfl (Or.inr ⟨by decide, rfl⟩) rfl ?_
  rw [frM_up]
  refine R_aload_n (pc := 45) dX12_init_45 rfl ?_
  refine R_ldc (pc := 46) (x := (-1000009)) dX12_init_46 rfl ?_
  refine R_putf (pc := 48) dX12_init_48 rfl frM_o rfl (Or.inr ⟨by decide, rfl⟩) rfl ?_
  rw [frM_up]
  refine R_aload_n (pc := 51) dX12_init_51 rfl ?_
  refine R_bipush (pc := 52) (x := nI 24) dX12_init_52 (by decide) ?_
  refine R_newa (pc := 54) dX12_init_54 rfl (by decide) ?_
  dsimp only [Prod.fst, Prod.snd]
  rw [frM_new (M := M) (n := 5) (l := 24) (by omega) rfl, show M + 5 + 1 = M + 6 from rfl]
  refine R_putf (pc := 56) dX12_init_56 rfl frM_o rfl (Or.inr ⟨by decide, rfl⟩) rfl ?_
  rw [frM_up]
  refine R_aload_n (pc := 59) dX12_init_59 rfl ?_
  refine R_iconst (pc := 60) (x := nI 5) dX12_init_60 rfl ?_
  refine R_newa (pc := 61) dX12_init_61 rfl (by decide) ?_
  dsimp only [Prod.fst, Prod.snd]
  rw [frM_new (M := M) (n := 6) (l := 5) (by omega) rfl, show M + 6 + 1 = M + 7 from rfl]
  refine R_putf (pc := 63) dX12_init_63 rfl frM_o rfl (Or.inr ⟨by decide, rfl⟩) rfl ?_
  rw [frM_up]
  refine R_aload_n (pc := 66) dX12_init_66 rfl ?_
  refine R_iconst (pc := 67) (x := nI 5) dX12_init_67 rfl ?_
  refine R_newa (pc := 68) dX12_init_68 rfl (by decide) ?_
  dsimp only [Prod.fst, Prod.snd]
  rw [frM_new (M := M) (n := 7) (l := 5) (by omega) rfl, show M + 7 + 1 = M + 8 from rfl]
  refine R_putf (pc := 70) dX12_init_70 rfl frM_o rfl (Or.inr ⟨by decide, rfl⟩) rfl ?_
  rw [frM_up]
  refine R_aload_n (pc := 73) dX12_init_73 rfl ?_
  refine R_sipush (pc := 74) (x := nI 1040) dX12_init_74 (by decide) ?_
  refine R_newa (pc := 77) dX12_init_77 rfl (by decide) ?_
  dsimp only [Prod.fst, Prod.snd]
  rw [frM_new (M := M) (n := 8) (l := 1040) (by omega) rfl, show M + 8 + 1 = M + 9 from rfl]
  refine R_putf (pc := 79) dX12_init_79 rfl frM_o rfl (Or.inr ⟨by decide, rfl⟩) rfl ?_
  rw [frM_up]
  refine R_aload_n (pc := 82) dX12_init_82 rfl ?_
  refine R_bipush (pc := 83) (x := nI 40) dX12_init_83 (by decide) ?_
  refine R_newa (pc := 85) dX12_init_85 rfl (by decide) ?_
  dsimp only [Prod.fst, Prod.snd]
  rw [frM_new (M := M) (n := 9) (l := 40) (by omega) rfl, show M + 9 + 1 = M + 10 from rfl]
  refine R_putf (pc := 87) dX12_init_87 rfl frM_o rfl (Or.inr ⟨by decide, rfl⟩) rfl ?_
  rw [frM_up]
  refine R_aload_n (pc := 90) dX12_init_90 rfl ?_
  refine R_bipush (pc := 91) (x := nI 40) dX12_init_91 (by decide) ?_
  refine R_newa (pc := 93) dX12_init_93 rfl (by decide) ?_
  dsimp only [Prod.fst, Prod.snd]
  rw [frM_new (M := M) (n := 10) (l := 40) (by omega) rfl, show M + 10 + 1 = M + 11 from rfl]
  refine R_putf (pc := 95) dX12_init_95 rfl frM_o rfl (Or.inr ⟨by decide, rfl⟩) rfl ?_
  rw [frM_up]
  refine R_aload_n (pc := 98) dX12_init_98 rfl ?_
  refine R_bipush (pc := 99) (x := nI 40) dX12_init_99 (by decide) ?_
  refine R_newa (pc := 101) dX12_init_101 rfl (by decide) ?_
  dsimp only [Prod.fst, Prod.snd]
  rw [frM_new (M := M) (n := 11) (l := 40) (by omega) rfl, show M + 11 + 1 = M + 12 from rfl]
  refine R_putf (pc := 103) dX12_init_103 rfl frM_o rfl (Or.inr ⟨by decide, rfl⟩) rfl ?_
  rw [frM_up]
  refine R_aload_n (pc := 106) dX12_init_106 rfl ?_
  refine R_bipush (pc := 107) (x := nI 16) dX12_init_107 (by decide) ?_
  refine R_newa (pc := 109) dX12_init_109 rfl (by decide) ?_
  dsimp only [Prod.fst, Prod.snd]
  rw [frM_new (M := M) (n := 12) (l := 16) (by omega) rfl, show M + 12 + 1 = M + 13 from rfl]
  refine R_putf (pc := 111) dX12_init_111 rfl frM_o rfl (Or.inr ⟨by decide, rfl⟩) rfl ?_
  rw [frM_up]
  refine R_aload_n (pc := 114) dX12_init_114 rfl ?_
  refine R_sipush (pc := 115) (x := nI 2754) dX12_init_115 (by decide) ?_
  refine R_newa (pc := 118) dX12_init_118 rfl (by decide) ?_
  dsimp only [Prod.fst, Prod.snd]
  rw [frM_new (M := M) (n := 13) (l := 2754) (by omega) rfl, show M + 13 + 1 = M + 14 from rfl]
  refine R_putf (pc := 120) dX12_init_120 rfl frM_o rfl (Or.inr ⟨by decide, rfl⟩) rfl ?_
  rw [frM_up]
  rw [show w0 + 2754 + 22032 + 5508 + 50 + 24 + 5 + 5 + 1040 + 40 + 40 + 40 + 16 + 2754 = w0 + 34308 by omega]
  show Rn sA mX12_init 123 [some (.ref M), none] [] (frM h M 14 (mo_obj M S00), M + 14, w0 + 34308) Q
  rw [frM_end]
  refine R_aload_n (pc := 123) dX12_init_123 rfl ?_
  refine R_iconst (pc := 124) (x := nI 0) dX12_init_124 rfl ?_
  refine R_iconst (pc := 125) (x := nI 0) dX12_init_125 rfl ?_
  refine R_iconst (pc := 126) (x := nI 2) dX12_init_126 rfl ?_
  refine R_callV (pc := 127) dX12_init_127 rfl putM_o rfl rfl ?_
  refine s12_layField (by omega) ?_
  refine R_aload_n (pc := 130) dX12_init_130 rfl ?_
  refine R_iconst (pc := 131) (x := nI 1) dX12_init_131 rfl ?_
  refine R_iconst (pc := 132) (x := nI 2) dX12_init_132 rfl ?_
  refine R_iconst (pc := 133) (x := nI 2) dX12_init_133 rfl ?_
  refine R_callV (pc := 134) dX12_init_134 rfl putM_o rfl rfl ?_
  refine s12_layField (by omega) ?_
  refine R_aload_n (pc := 137) dX12_init_137 rfl ?_
  refine R_iconst (pc := 138) (x := nI 2) dX12_init_138 rfl ?_
  refine R_iconst (pc := 139) (x := nI 4) dX12_init_139 rfl ?_
  refine R_iconst (pc := 140) (x := nI 3) dX12_init_140 rfl ?_
  refine R_callV (pc := 141) dX12_init_141 rfl putM_o rfl rfl ?_
  refine s12_layField (by omega) ?_
  refine R_aload_n (pc := 144) dX12_init_144 rfl ?_
  refine R_iconst (pc := 145) (x := nI 3) dX12_init_145 rfl ?_
  refine R_bipush (pc := 146) (x := nI 7) dX12_init_146 (by decide) ?_
  refine R_iconst (pc := 148) (x := nI 3) dX12_init_148 rfl ?_
  refine R_callV (pc := 149) dX12_init_149 rfl putM_o rfl rfl ?_
  refine s12_layField (by omega) ?_
  refine R_aload_n (pc := 152) dX12_init_152 rfl ?_
  refine R_iconst (pc := 153) (x := nI 4) dX12_init_153 rfl ?_
  refine R_bipush (pc := 154) (x := nI 10) dX12_init_154 (by decide) ?_
  refine R_iconst (pc := 156) (x := nI 4) dX12_init_156 rfl ?_
  refine R_callV (pc := 157) dX12_init_157 rfl putM_o rfl rfl ?_
  refine s12_layField (by omega) ?_
  refine R_aload_n (pc := 160) dX12_init_160 rfl ?_
  refine R_iconst (pc := 161) (x := nI 5) dX12_init_161 rfl ?_
  refine R_bipush (pc := 162) (x := nI 14) dX12_init_162 (by decide) ?_
  refine R_iconst (pc := 164) (x := nI 1) dX12_init_164 rfl ?_
  refine R_callV (pc := 165) dX12_init_165 rfl putM_o rfl rfl ?_
  refine s12_layField (by omega) ?_
  refine R_aload_n (pc := 168) dX12_init_168 rfl ?_
  refine M_g (pc := 169) dX12_init_169 rfl rfl ?_
  refine R_bipush (pc := 172) (x := nI 12) dX12_init_172 (by decide) ?_
  refine R_iconst (pc := 174) (x := nI 1) dX12_init_174 rfl ?_
  refine M_ast (pc := 175) dX12_init_175 rfl (by simp only [mol1]; omega) ?_
  refine R_aload_n (pc := 176) dX12_init_176 rfl ?_
  refine M_g (pc := 177) dX12_init_177 rfl rfl ?_
  refine R_bipush (pc := 180) (x := nI 13) dX12_init_180 (by decide) ?_
  refine R_iconst (pc := 182) (x := nI 1) dX12_init_182 rfl ?_
  refine M_ast (pc := 183) dX12_init_183 rfl (by simp only [mol1]; omega) ?_
  refine R_aload_n (pc := 184) dX12_init_184 rfl ?_
  refine M_g (pc := 185) dX12_init_185 rfl rfl ?_
  refine R_bipush (pc := 188) (x := nI 14) dX12_init_188 (by decide) ?_
  refine R_sipush (pc := 190) (x := nI 999) dX12_init_190 (by decide) ?_
  refine M_ast (pc := 193) dX12_init_193 rfl (by simp only [mol1]; omega) ?_
  refine R_aload_n (pc := 194) dX12_init_194 rfl ?_
  refine M_g (pc := 195) dX12_init_195 rfl rfl ?_
  refine R_bipush (pc := 198) (x := nI 15) dX12_init_198 (by decide) ?_
  refine R_sipush (pc := 200) (x := nI 400) dX12_init_200 (by decide) ?_
  refine M_ast (pc := 203) dX12_init_203 rfl (by simp only [mol1]; omega) ?_
  refine R_iconst (pc := 204) (x := nI 0) dX12_init_204 rfl ?_
  refine R_istore_n (pc := 205) dX12_init_205 (Nat.le_of_ble_eq_true rfl) rfl ?_
  refine R_iload_n (pc := 206) dX12_init_206 rfl ?_
  refine R_iconst (pc := 207) (x := nI 3) dX12_init_207 rfl ?_
  refine R_icmp_ge (pc := 208) (t := 228) dX12_init_208 (by decide) (fun hz9 => absurd hz9 (by decide)) (fun _ => ?_)
  refine R_aload_n (pc := 211) dX12_init_211 rfl ?_
  refine M_g (pc := 212) dX12_init_212 rfl rfl ?_
  refine R_bipush (pc := 215) (x := nI 16) dX12_init_215 (by decide) ?_
  refine R_iload_n (pc := 217) dX12_init_217 rfl ?_
  refine R_iadd (pc := 218) dX12_init_218 ?_
  refine R_ldc (pc := 219) (x := (-1000009)) dX12_init_219 rfl ?_
  refine M_ast (pc := 221) dX12_init_221 (nI_add _ _) (by simp only [mol1]; omega) ?_
  refine R_iinc (pc := 222) dX12_init_222 rfl (by first | exact nI_inc _ | rfl) rfl ?_
  refine R_goto (pc := 225) (t := 206) dX12_init_225 (by decide) ?_
  refine R_iload_n (pc := 206) dX12_init_206 rfl ?_
  refine R_iconst (pc := 207) (x := nI 3) dX12_init_207 rfl ?_
  refine R_icmp_ge (pc := 208) (t := 228) dX12_init_208 (by decide) (fun hz9 => absurd hz9 (by decide)) (fun _ => ?_)
  refine R_aload_n (pc := 211) dX12_init_211 rfl ?_
  refine M_g (pc := 212) dX12_init_212 rfl rfl ?_
  refine R_bipush (pc := 215) (x := nI 16) dX12_init_215 (by decide) ?_
  refine R_iload_n (pc := 217) dX12_init_217 rfl ?_
  refine R_iadd (pc := 218) dX12_init_218 ?_
  refine R_ldc (pc := 219) (x := (-1000009)) dX12_init_219 rfl ?_
  refine M_ast (pc := 221) dX12_init_221 (nI_add _ _) (by simp only [mol1]; omega) ?_
  refine R_iinc (pc := 222) dX12_init_222 rfl (by first | exact nI_inc _ | rfl) rfl ?_
  refine R_goto (pc := 225) (t := 206) dX12_init_225 (by decide) ?_
  refine R_iload_n (pc := 206) dX12_init_206 rfl ?_
  refine R_iconst (pc := 207) (x := nI 3) dX12_init_207 rfl ?_
  refine R_icmp_ge (pc := 208) (t := 228) dX12_init_208 (by decide) (fun hz9 => absurd hz9 (by decide)) (fun _ => ?_)
  refine R_aload_n (pc := 211) dX12_init_211 rfl ?_
  refine M_g (pc := 212) dX12_init_212 rfl rfl ?_
  refine R_bipush (pc := 215) (x := nI 16) dX12_init_215 (by decide) ?_
  refine R_iload_n (pc := 217) dX12_init_217 rfl ?_
  refine R_iadd (pc := 218) dX12_init_218 ?_
  refine R_ldc (pc := 219) (x := (-1000009)) dX12_init_219 rfl ?_
  refine M_ast (pc := 221) dX12_init_221 (nI_add _ _) (by simp only [mol1]; omega) ?_
  refine R_iinc (pc := 222) dX12_init_222 rfl (by first | exact nI_inc _ | rfl) rfl ?_
  refine R_goto (pc := 225) (t := 206) dX12_init_225 (by decide) ?_
  refine R_iload_n (pc := 206) dX12_init_206 rfl ?_
  refine R_iconst (pc := 207) (x := nI 3) dX12_init_207 rfl ?_
  refine R_icmp_ge (pc := 208) (t := 228) dX12_init_208 (by decide) (fun _ => ?_) (fun hz9 => absurd (by decide) hz9)
  refine R_vret (pc := 228) dX12_init_228 rfl ?_
  simp only [va_up_up, va_up_same]
  refine hQ _ ?_ ?_ ?_ ?_ ?_ ?_ ?_ ?_ ?_ ?_ ?_ ?_ ?_ ?_ ?_ ?_ ?_ ?_ ?_ (fun j hj => ?_)
  all_goals first | (simp [upd]; done) | (repeat rw [upd_n (by omega)])
end MOD19
