section MOD15
variable {sA : Nat} {h : Nat → Option am_C} {z : Nat × Nat} {Q : Option Value → am_H → Prop} {M : Nat} {A : Nat → Nat → Int32} {S : Nat → Int32}
theorem l12_pr1 {v : Nat → Int32} {cd : Nat} {o3 o4 : Option Value} (hcd : cd < 40) (hv : ∀ f, f < 5 → A 1 (1104 + 5 * cd + f) = v f) : ∀ (n k : Nat) (Z : Nat → Int32) (_ : k + n = 4) (_ : (∀ Z2 : Nat → Int32, (∀ j, j < 16 → Z2 j = if k ≤ j / 4 then addC v Z j else Z j) → ∀ o2 : Option Value, Rn sA mX12_printReport 242 [some (.ref M), some (.int (nI cd)), o2, o3, o4] [] (putM h M (va_up A 12 Z2) S, z) Q)), Rn sA mX12_printReport 182 [some (.ref M), some (.int (nI cd)), some (.int (nI k)), o3, o4] [] (putM h M (va_up A 12 Z) S, z) Q
  | 0, k, Z, hk, hX => by
    obtain rfl : k = 4 := by omega
    refine R_iload_n (pc := 182) dX12_printReport_182 rfl ?_
    refine R_iconst (pc := 183) (x := nI 4) dX12_printReport_183 rfl ?_
    refine R_icmp_ge (pc := 184) (t := 242) dX12_printReport_184 (by decide) (fun _ => ?_) (fun hz9 => absurd (nI_le (by omega) (by omega)) hz9)
    exact hX Z (fun j hj => by rw [if_neg (by omega)]) _
  | n + 1, k, Z, hk, hX => by
    have e1 : ∀ Z' : Nat → Int32, va_up A 12 Z' 1 = A 1 := fun _ => rfl
    refine R_iload_n (pc := 182) dX12_printReport_182 rfl ?_
    refine R_iconst (pc := 183) (x := nI 4) dX12_printReport_183 rfl ?_
    refine R_icmp_ge (pc := 184) (t := 242) dX12_printReport_184 (by decide) (fun hz9 => absurd hz9 (nI_ge (by omega) (by omega))) (fun _ => ?_)
    refine R_aload_n (pc := 187) dX12_printReport_187 rfl ?_
    refine M_g (pc := 188) dX12_printReport_188 rfl rfl ?_
    refine R_iconst (pc := 191) (x := nI 4) dX12_printReport_191 rfl ?_
    refine R_iload_n (pc := 192) dX12_printReport_192 rfl ?_
    refine R_imul (pc := 193) dX12_printReport_193 ?_
    refine R_dup2 (pc := 194) dX12_printReport_194 rfl rfl ?_
    refine M_ald (pc := 195) dX12_printReport_195 (by simp only [nI_add, pk_mul]; exact rfl) (by simp only [mol12]; omega) ?_
    refine R_iconst (pc := 196) (x := nI 1) dX12_printReport_196 rfl ?_
    refine R_iadd (pc := 197) dX12_printReport_197 ?_
    refine M_ast (pc := 198) dX12_printReport_198 (by simp only [nI_add, pk_mul]; exact rfl) (by simp only [mol12]; omega) ?_
    refine R_aload_n (pc := 199) dX12_printReport_199 rfl ?_
    refine M_g (pc := 200) dX12_printReport_200 rfl rfl ?_
    refine R_iconst (pc := 203) (x := nI 4) dX12_printReport_203 rfl ?_
    refine R_iload_n (pc := 204) dX12_printReport_204 rfl ?_
    refine R_imul (pc := 205) dX12_printReport_205 ?_
    refine R_iconst (pc := 206) (x := nI 1) dX12_printReport_206 rfl ?_
    refine R_iadd (pc := 207) dX12_printReport_207 ?_
    refine R_dup2 (pc := 208) dX12_printReport_208 rfl rfl ?_
    refine M_ald (pc := 209) dX12_printReport_209 (by simp only [nI_add, pk_mul]; exact rfl) (by simp only [mol12]; omega) ?_
    refine R_aload_n (pc := 210) dX12_printReport_210 rfl ?_
    refine R_iload_n (pc := 211) dX12_printReport_211 rfl ?_
    refine R_iconst (pc := 212) (x := nI 3) dX12_printReport_212 rfl ?_
    refine R_callV (pc := 213) dX12_printReport_213 rfl putM_o rfl rfl ?_
    refine s12_accepted hcd (by omega) ?_
    rw [show va_up (va_up A 12 Z) 12 (upd (va_up A 12 Z 12) (4 * k) (va_up A 12 Z 12 (4 * k) + nI 1)) 1 = A 1 from rfl, hv 3 (by omega)]
    refine R_iadd (pc := 216) dX12_printReport_216 ?_
    refine M_ast (pc := 217) dX12_printReport_217 (by simp only [nI_add, pk_mul]; exact rfl) (by simp only [mol12]; omega) ?_
    refine R_aload_n (pc := 218) dX12_printReport_218 rfl ?_
    refine M_g (pc := 219) dX12_printReport_219 rfl rfl ?_
    refine R_iconst (pc := 222) (x := nI 4) dX12_printReport_222 rfl ?_
    refine R_iload_n (pc := 223) dX12_printReport_223 rfl ?_
    refine R_imul (pc := 224) dX12_printReport_224 ?_
    refine R_iconst (pc := 225) (x := nI 2) dX12_printReport_225 rfl ?_
    refine R_iadd (pc := 226) dX12_printReport_226 ?_
    refine R_dup2 (pc := 227) dX12_printReport_227 rfl rfl ?_
    refine M_ald (pc := 228) dX12_printReport_228 (by simp only [nI_add, pk_mul]; exact rfl) (by simp only [mol12]; omega) ?_
    refine R_aload_n (pc := 229) dX12_printReport_229 rfl ?_
    refine R_iload_n (pc := 230) dX12_printReport_230 rfl ?_
    refine R_callV (pc := 231) dX12_printReport_231 rfl putM_o rfl rfl ?_
    refine s12_wageOf hcd ?_
    generalize hZ : va_up (va_up (va_up A 12 Z) 12 _) 12 _ = B
    have eB : B 1 = A 1 := by rw [← hZ]; rfl
    rw [show wag (fun f => B 1 (1104 + 5 * cd + f)) = wag v by unfold wag; dsimp only; rw [eB, hv 3 (by omega), hv 4 (by omega)]]
    subst hZ
    refine R_iadd (pc := 234) dX12_printReport_234 ?_
    refine M_ast (pc := 235) dX12_printReport_235 (by simp only [nI_add, pk_mul]; exact rfl) (by simp only [mol12]; omega) ?_
    refine R_iinc (pc := 236) dX12_printReport_236 rfl (by first | exact nI_inc _ | rfl) rfl ?_
    refine R_goto (pc := 239) (t := 182) dX12_printReport_239 (by decide) ?_
    rw [va_up_up, va_up_up, va_up_up]
    refine l12_pr1 hcd hv n (k + 1) _ (by omega) (fun Z2 b o2 => hX Z2 (fun j hj => ?_) o2)
    rw [b j hj]
    generalize hW : upd _ (4 * k + 2) _ = W
    have hw : W j = if j / 4 = k then addC v Z j else Z j := by
      rw [← hW]
      show (upd (upd (upd Z (4 * k) (Z (4 * k) + nI 1)) (4 * k + 1) ((upd Z (4 * k) (Z (4 * k) + nI 1)) (4 * k + 1) + v 3)) (4 * k + 2) ((upd (upd Z (4 * k) (Z (4 * k) + nI 1)) (4 * k + 1) ((upd Z (4 * k) (Z (4 * k) + nI 1)) (4 * k + 1) + v 3)) (4 * k + 2) + wag v)) j = _
      unfold addC
      by_cases c2 : j = 4 * k + 2
      · subst c2
        rw [upd_s, if_pos (by omega), if_neg (by omega), if_neg (by omega), if_pos (by omega), upd_n (by omega), upd_n (by omega)]
      · rw [upd_n c2]
        by_cases c1 : j = 4 * k + 1
        · subst c1
          rw [upd_s, if_pos (by omega), if_neg (by omega), if_pos (by omega), upd_n (by omega)]
        · rw [upd_n c1]
          by_cases c0 : j = 4 * k
          · subst c0
            rw [upd_s, if_pos (by omega), if_pos (by omega)]
          · rw [upd_n c0]
            by_cases q : j / 4 = k
            · rw [if_pos q, if_neg (by omega), if_neg (by omega), if_neg (by omega)]
            · rw [if_neg q]
    by_cases q : k + 1 ≤ j / 4
    · rw [if_pos q, if_pos (by omega)]
      have hw2 : W j = Z j := hw.trans (if_neg (by omega))
      unfold addC
      rw [hw2]
    · rw [if_neg q, hw]
      by_cases q2 : j / 4 = k
      · rw [if_pos q2, if_pos (by omega)]
      · rw [if_neg q2, if_neg (by omega)]
theorem l12_prc {U : Nat → Int32} {acc : Nat → Nat → Int32} {num : Nat → Int32} {lim : Int32} {m : Nat} (hm40 : m ≤ 40) (hm2 : U 1103 = nI m) (hlim : U 1061 = lim) (hacc : ∀ k f, k < m → f < 5 → U (1104 + 5 * k + f) = acc k f) : ∀ (n k : Nat) (A : Nat → Nat → Int32) (o2 o3 o4 : Option Value) (_ : k + n = m) (_ : A 11 = num) (_ : PsR U (ptS lim acc num k) (A 1) (A 12)) (_ : (∀ A2 : Nat → Nat → Int32, (∀ q, q ≠ 1 → q ≠ 12 → A2 q = A q) → PsR U (ptS lim acc num m) (A2 1) (A2 12) → ∀ o2 o3 o4 : Option Value, Rn sA mX12_printReport 248 [some (.ref M), some (.int (nI m)), o2, o3, o4] [] (putM h M A2 S, z) Q)), Rn sA mX12_printReport 32 [some (.ref M), some (.int (nI k)), o2, o3, o4] [] (putM h M A S, z) Q
  | 0, k, A, o2, o3, o4, hk, hnum, hP, hX => by
    obtain rfl : k = m := by omega
    refine R_iload_n (pc := 32) dX12_printReport_32 rfl ?_
    refine R_aload_n (pc := 33) dX12_printReport_33 rfl ?_
    refine M_g (pc := 34) dX12_printReport_34 rfl rfl ?_
    refine R_sipush (pc := 37) (x := nI 1103) dX12_printReport_37 (by decide) ?_
    refine M_ald (pc := 40) dX12_printReport_40 rfl (by simp only [mol1]; omega) ?_
    refine R_icmp_ge (pc := 41) (t := 248) dX12_printReport_41 (by decide) (fun _ => ?_) (fun hz9 => absurd (by rw [(hP.1 1103 (by omega)).trans hm2]; exact nI_le (by omega) (by omega)) hz9)
    exact hX A (fun _ _ _ => rfl) hP _ _ _
  | n + 1, k, A, o2, o3, o4, hk, hnum, hP, hX => by
    have hkm : k < m := by omega
    have hc161 : (ptB lim acc k (ptS lim acc num k)).1 < 161 := by
      have := (ptS_le (lim := lim) (acc := acc) (num := num) (k + 1)).2 (by omega)
      have e : (ptS lim acc num (k + 1)).1 = (ptB lim acc k (ptS lim acc num k)).1 + 1 := rfl
      omega
    have tail : ∀ (B : Nat → Nat → Int32) (o2 o3 o4 : Option Value), (∀ q, q ≠ 1 → q ≠ 12 → B q = A q) → PsR U (ptB lim acc k (ptS lim acc num k)) (B 1) (B 12) → Rn sA mX12_printReport 151 [some (.ref M), some (.int (nI k)), o2, o3, o4] [] (putM h M B S, z) Q := by
      intro B o2 o3 o4 hq hB
      refine R_aload_n (pc := 151) dX12_printReport_151 rfl ?_
      refine R_iconst (pc := 152) (x := nI 0) dX12_printReport_152 rfl ?_
      refine R_iload_n (pc := 153) dX12_printReport_153 rfl ?_
      refine R_callV (pc := 154) dX12_printReport_154 rfl putM_o rfl rfl ?_
      refine s12_printLine (v := acc k) (by omega) (by omega) (by omega) hB.2.1 (fun f hf => (hB.1 _ (by omega)).trans (hacc k f (by omega) (by omega))) (fun A2 a1 a2 a3 a4 a5 => ?_)
      have u1 : ∀ j, j < 1304 → A2 1 j = U j := fun j hj => (a3 j (by omega) (by omega)).trans (hB.1 j hj)
      refine R_aload_n (pc := 157) dX12_printReport_157 rfl ?_
      refine R_iconst (pc := 158) (x := nI 1) dX12_printReport_158 rfl ?_
      refine R_aload_n (pc := 159) dX12_printReport_159 rfl ?_
      refine R_iload_n (pc := 160) dX12_printReport_160 rfl ?_
      refine R_iconst (pc := 161) (x := nI 3) dX12_printReport_161 rfl ?_
      refine R_callV (pc := 162) dX12_printReport_162 rfl putM_o rfl rfl ?_
      refine s12_accepted (by omega) (by omega) ?_
      rw [u1 _ (by omega), hacc k 3 (by omega) (by omega)]
      refine R_aload_n (pc := 165) dX12_printReport_165 rfl ?_
      refine R_iload_n (pc := 166) dX12_printReport_166 rfl ?_
      refine R_callV (pc := 167) dX12_printReport_167 rfl putM_o rfl rfl ?_
      refine s12_wageOf (by omega) ?_
      rw [show wag (fun f => A2 1 (1104 + 5 * k + f)) = wag (acc k) by unfold wag; dsimp only; rw [u1 _ (by omega), u1 _ (by omega), hacc k 3 (by omega) (by omega), hacc k 4 (by omega) (by omega)]]
      refine R_iconst (pc := 170) (x := nI 0) dX12_printReport_170 rfl ?_
      refine R_aload_n (pc := 171) dX12_printReport_171 rfl ?_
      refine M_g (pc := 172) dX12_printReport_172 rfl rfl ?_
      refine R_iload_n (pc := 175) dX12_printReport_175 rfl ?_
      refine M_ald (pc := 176) dX12_printReport_176 rfl (by simp only [mol11]; omega) ?_
      refine R_callV (pc := 177) dX12_printReport_177 rfl putM_o rfl rfl ?_
      rw [a1 11 (by omega), hq 11 (by omega) (by omega), hnum]
      refine s12_fill (by omega) a2 (fun A3 b1 b2 b3 b4 b5 b6 b7 => ?_)
      refine R_iconst (pc := 180) (x := nI 0) dX12_printReport_180 rfl ?_
      refine R_istore_n (pc := 181) dX12_printReport_181 (Nat.le_of_ble_eq_true rfl) rfl ?_
      refine Rn_A (A' := va_up A3 12 (A3 12)) va_up_id.symm ?_
      refine l12_pr1 (v := acc k) (by omega) (fun f hf => by rw [b2 _ (by omega), u1 _ (by omega)]; exact hacc k f (by omega) hf) 4 0 (A3 12) (by omega) (fun Z2 zz o2 => ?_)
      have e12 : A3 12 = B 12 := by rw [b1 12 (by omega), a1 12 (by omega)]
      refine Eq.mp (congrArg (fun x => Rn sA mX12_printReport 242 x [] _ Q) rfl) ?_
      refine R_iinc (pc := 242) dX12_printReport_242 rfl (by first | exact nI_inc _ | rfl) rfl ?_
      refine R_goto (pc := 245) (t := 32) dX12_printReport_245 (by decide) ?_
      refine l12_prc hm40 hm2 hlim hacc n (k + 1) _ _ _ _ (by omega) (by show A3 11 = num; rw [b1 11 (by omega), a1 11 (by omega), hq 11 (by omega) (by omega)]; exact hnum) ?_ (fun A4 q1 q2 o2 o3 o4 => hX A4 (fun q c1 c2 => ?_) q2 o2 o3 o4)
      · refine hB.put (fun j hj => ?_) ?_ (fun j hj => ?_) (fun j hj => ?_)
        · show A3 1 j = _
          rw [b2 j (by omega), a3 j (by omega) (by omega)]
        · show A3 1 1304 = _
          rw [b2 1304 (by omega), a2]
        · show A3 1 (1305 + 9 * (ptB lim acc k (ptS lim acc num k)).1 + j) = _
          have cs : ∀ x : Nat, x < 9 → x = 0 ∨ x = 1 ∨ x = 2 ∨ x = 3 ∨ x = 4 ∨ x = 5 ∨ x = 6 ∨ x = 7 ∨ x = 8 := by omega
          rcases cs j hj with rfl | rfl | rfl | rfl | rfl | rfl | rfl | rfl | rfl
          · rw [b2 _ (by omega)]; exact a4
          · rw [b2 _ (by omega)]; exact a5 0 (by omega)
          · rw [b2 _ (by omega)]; exact a5 1 (by omega)
          · rw [b2 _ (by omega)]; exact a5 2 (by omega)
          · exact b3
          · exact b4
          · exact b5
          · exact b6
          · exact b7
        · show Z2 j = addC (acc k) (ptB lim acc k (ptS lim acc num k)).2.2 j
          rw [zz j hj, if_pos (Nat.zero_le _), e12]
          unfold addC
          rw [hB.2.2.2 j hj]
      · rw [q1 q c1 c2]
        show va_up A3 12 Z2 q = _
        unfold va_up
        rw [if_neg c2, b1 q c1, a1 q c1, hq q c1 c2]
    by_cases hk0 : k = 0
    · have ep : ptB lim acc k (ptS lim acc num k) = ptS lim acc num k := by unfold ptB; rw [if_pos hk0]
      refine R_iload_n (pc := 32) dX12_printReport_32 rfl ?_
      refine R_aload_n (pc := 33) dX12_printReport_33 rfl ?_
      refine M_g (pc := 34) dX12_printReport_34 rfl rfl ?_
      refine R_sipush (pc := 37) (x := nI 1103) dX12_printReport_37 (by decide) ?_
      refine M_ald (pc := 40) dX12_printReport_40 rfl (by simp only [mol1]; omega) ?_
      refine R_icmp_ge (pc := 41) (t := 248) dX12_printReport_41 (by decide) (fun hz9 => absurd hz9 (by rw [(hP.1 1103 (by omega)).trans hm2]; exact nI_ge (by omega) (by omega))) (fun _ => ?_)
      refine R_iload_n (pc := 44) dX12_printReport_44 rfl ?_
      refine R_if_le (pc := 45) (t := 151) dX12_printReport_45 (by decide) (fun _ => ?_) (fun hz9 => absurd (by rw [hk0]; decide) hz9)
      exact tail A _ _ _ (fun _ _ _ => rfl) (by rw [ep]; exact hP)
    · have ep : ptB lim acc k (ptS lim acc num k) = brks lim (acc (k - 1)) (lvN (acc k) (acc (k - 1))) (ptS lim acc num k) := by unfold ptB; rw [if_neg (by omega)]
      have ka : ∀ f, f < 5 → A 1 (1104 + 5 * k + f) = acc k f := fun f hf => (hP.1 _ (by omega)).trans (hacc k f (by omega) hf)
      have kb : ∀ f, f < 5 → A 1 (1104 + 5 * (k - 1) + f) = acc (k - 1) f := fun f hf => (hP.1 _ (by omega)).trans (hacc (k - 1) f (by omega) hf)
      refine R_iload_n (pc := 32) dX12_printReport_32 rfl ?_
      refine R_aload_n (pc := 33) dX12_printReport_33 rfl ?_
      refine M_g (pc := 34) dX12_printReport_34 rfl rfl ?_
      refine R_sipush (pc := 37) (x := nI 1103) dX12_printReport_37 (by decide) ?_
      refine M_ald (pc := 40) dX12_printReport_40 rfl (by simp only [mol1]; omega) ?_
      refine R_icmp_ge (pc := 41) (t := 248) dX12_printReport_41 (by decide) (fun hz9 => absurd hz9 (by rw [(hP.1 1103 (by omega)).trans hm2]; exact nI_ge (by omega) (by omega))) (fun _ => ?_)
      refine R_iload_n (pc := 44) dX12_printReport_44 rfl ?_
      refine R_if_le (pc := 45) (t := 151) dX12_printReport_45 (by decide) (fun hz9 => absurd hz9 (nI_nle (by omega) (by omega))) (fun _ => ?_)
      refine R_aload_n (pc := 48) dX12_printReport_48 rfl ?_
      refine R_iload_n (pc := 49) dX12_printReport_49 rfl ?_
      refine R_iconst (pc := 50) (x := nI 0) dX12_printReport_50 rfl ?_
      refine R_callV (pc := 51) dX12_printReport_51 rfl putM_o rfl rfl ?_
      refine s12_accepted (by omega) (by omega) ?_
      rw [ka 0 (by omega)]
      refine R_aload_n (pc := 54) dX12_printReport_54 rfl ?_
      refine R_iload_n (pc := 55) dX12_printReport_55 rfl ?_
      refine R_iconst (pc := 56) (x := nI 1) dX12_printReport_56 rfl ?_
      refine R_isub (pc := 57) dX12_printReport_57 ?_
      refine R_iconst (pc := 58) (x := nI 0) dX12_printReport_58 rfl ?_
      refine R_callV (pc := 59) dX12_printReport_59 rfl putM_o rfl rfl ?_
      rw [pk_sub (show 1 ≤ k by omega)]
      refine s12_accepted (by omega) (by omega) ?_
      rw [kb 0 (by omega)]
      refine R_icmp_eq (pc := 62) (t := 69) dX12_printReport_62 (by decide) (fun h62 => ?_) (fun h62 => ?_)
      · refine R_iconst (pc := 69) (x := nI 0) dX12_printReport_69 rfl ?_
        refine R_istore_n (pc := 70) dX12_printReport_70 (Nat.le_of_ble_eq_true rfl) rfl ?_
        refine R_aload_n (pc := 71) dX12_printReport_71 rfl ?_
        refine R_iload_n (pc := 72) dX12_printReport_72 rfl ?_
        refine R_iconst (pc := 73) (x := nI 1) dX12_printReport_73 rfl ?_
        refine R_callV (pc := 74) dX12_printReport_74 rfl putM_o rfl rfl ?_
        refine s12_accepted (by omega) (by omega) ?_
        rw [ka 1 (by omega)]
        refine R_aload_n (pc := 77) dX12_printReport_77 rfl ?_
        refine R_iload_n (pc := 78) dX12_printReport_78 rfl ?_
        refine R_iconst (pc := 79) (x := nI 1) dX12_printReport_79 rfl ?_
        refine R_isub (pc := 80) dX12_printReport_80 ?_
        refine R_iconst (pc := 81) (x := nI 1) dX12_printReport_81 rfl ?_
        refine R_callV (pc := 82) dX12_printReport_82 rfl putM_o rfl rfl ?_
        rw [pk_sub (show 1 ≤ k by omega)]
        refine s12_accepted (by omega) (by omega) ?_
        rw [kb 1 (by omega)]
        refine R_icmp_eq (pc := 85) (t := 92) dX12_printReport_85 (by decide) (fun h85 => ?_) (fun h85 => ?_)
        · refine R_iconst (pc := 92) (x := nI 0) dX12_printReport_92 rfl ?_
          refine R_istore_n (pc := 93) dX12_printReport_93 (Nat.le_of_ble_eq_true rfl) rfl ?_
          refine R_aload_n (pc := 94) dX12_printReport_94 rfl ?_
          refine R_iload_n (pc := 95) dX12_printReport_95 rfl ?_
          refine R_iconst (pc := 96) (x := nI 2) dX12_printReport_96 rfl ?_
          refine R_callV (pc := 97) dX12_printReport_97 rfl putM_o rfl rfl ?_
          refine s12_accepted (by omega) (by omega) ?_
          rw [ka 2 (by omega)]
          refine R_aload_n (pc := 100) dX12_printReport_100 rfl ?_
          refine R_iload_n (pc := 101) dX12_printReport_101 rfl ?_
          refine R_iconst (pc := 102) (x := nI 1) dX12_printReport_102 rfl ?_
          refine R_isub (pc := 103) dX12_printReport_103 ?_
          refine R_iconst (pc := 104) (x := nI 2) dX12_printReport_104 rfl ?_
          refine R_callV (pc := 105) dX12_printReport_105 rfl putM_o rfl rfl ?_
          rw [pk_sub (show 1 ≤ k by omega)]
          refine s12_accepted (by omega) (by omega) ?_
          rw [kb 2 (by omega)]
          refine R_icmp_eq (pc := 108) (t := 115) dX12_printReport_108 (by decide) (fun h108 => ?_) (fun h108 => ?_)
          · refine R_iconst (pc := 115) (x := nI 0) dX12_printReport_115 rfl ?_
            refine R_istore (pc := 116) dX12_printReport_116 (Nat.le_of_ble_eq_true rfl) rfl ?_
            refine R_aload_n (pc := 118) dX12_printReport_118 rfl ?_
            refine R_iload_n (pc := 119) dX12_printReport_119 rfl ?_
            refine R_if_eq (pc := 120) (t := 127) dX12_printReport_120 (by decide) (fun _ => ?_) (fun hz9 => absurd (show nI 0 = 0 from rfl) hz9)
            refine R_iload_n (pc := 127) dX12_printReport_127 rfl ?_
            refine R_if_eq (pc := 128) (t := 135) dX12_printReport_128 (by decide) (fun _ => ?_) (fun hz9 => absurd (show nI 0 = 0 from rfl) hz9)
            refine R_iload (pc := 135) dX12_printReport_135 rfl ?_
            refine R_if_eq (pc := 137) (t := 144) dX12_printReport_137 (by decide) (fun _ => ?_) (fun hz9 => absurd (show nI 0 = 0 from rfl) hz9)
            refine R_iconst (pc := 144) (x := (-1)) dX12_printReport_144 rfl ?_
            refine R_iload_n (pc := 145) dX12_printReport_145 rfl ?_
            refine R_iconst (pc := 146) (x := nI 1) dX12_printReport_146 rfl ?_
            refine R_isub (pc := 147) dX12_printReport_147 ?_
            refine R_callV (pc := 148) dX12_printReport_148 rfl putM_o rfl rfl ?_
            rw [pk_sub (show 1 ≤ k by omega)]
            have hl : lvN (acc k) (acc (k - 1)) = 0 := by unfold lvN; rw [if_neg (not_not_intro h62), if_neg (not_not_intro h85), if_neg (not_not_intro h108)]
            rw [show (-1 : Int32) = nI 0 - nI 1 by decide]
            refine s12_brks (v := acc (k - 1)) (m := 0) (lim := lim) (by omega) (by omega) (by have := (ptS_le (lim := lim) (acc := acc) (num := num) k).2 (by omega); omega) (fun f hf => hacc (k - 1) f (by omega) hf) hP hlim (fun B hq hB => ?_)
            exact tail B _ _ _ hq (by rw [ep, hl]; exact hB)
          · refine R_iconst (pc := 111) (x := nI 1) dX12_printReport_111 rfl ?_
            refine R_goto (pc := 112) (t := 116) dX12_printReport_112 (by decide) ?_
            refine R_istore (pc := 116) dX12_printReport_116 (Nat.le_of_ble_eq_true rfl) rfl ?_
            refine R_aload_n (pc := 118) dX12_printReport_118 rfl ?_
            refine R_iload_n (pc := 119) dX12_printReport_119 rfl ?_
            refine R_if_eq (pc := 120) (t := 127) dX12_printReport_120 (by decide) (fun _ => ?_) (fun hz9 => absurd (show nI 0 = 0 from rfl) hz9)
            refine R_iload_n (pc := 127) dX12_printReport_127 rfl ?_
            refine R_if_eq (pc := 128) (t := 135) dX12_printReport_128 (by decide) (fun _ => ?_) (fun hz9 => absurd (show nI 0 = 0 from rfl) hz9)
            refine R_iload (pc := 135) dX12_printReport_135 rfl ?_
            refine R_if_eq (pc := 137) (t := 144) dX12_printReport_137 (by decide) (fun hz9 => absurd hz9 (show ¬ nI 1 = 0 by decide)) (fun _ => ?_)
            refine R_iconst (pc := 140) (x := nI 0) dX12_printReport_140 rfl ?_
            refine R_goto (pc := 141) (t := 145) dX12_printReport_141 (by decide) ?_
            refine R_iload_n (pc := 145) dX12_printReport_145 rfl ?_
            refine R_iconst (pc := 146) (x := nI 1) dX12_printReport_146 rfl ?_
            refine R_isub (pc := 147) dX12_printReport_147 ?_
            refine R_callV (pc := 148) dX12_printReport_148 rfl putM_o rfl rfl ?_
            rw [pk_sub (show 1 ≤ k by omega)]
            have hl : lvN (acc k) (acc (k - 1)) = 1 := by unfold lvN; rw [if_neg (not_not_intro h62), if_neg (not_not_intro h85), if_pos h108]
            rw [show (nI 0 : Int32) = nI 1 - nI 1 by decide]
            refine s12_brks (v := acc (k - 1)) (m := 1) (lim := lim) (by omega) (by omega) (by have := (ptS_le (lim := lim) (acc := acc) (num := num) k).2 (by omega); omega) (fun f hf => hacc (k - 1) f (by omega) hf) hP hlim (fun B hq hB => ?_)
            exact tail B _ _ _ hq (by rw [ep, hl]; exact hB)
        · refine R_iconst (pc := 88) (x := nI 1) dX12_printReport_88 rfl ?_
          refine R_goto (pc := 89) (t := 93) dX12_printReport_89 (by decide) ?_
          refine R_istore_n (pc := 93) dX12_printReport_93 (Nat.le_of_ble_eq_true rfl) rfl ?_
          refine R_aload_n (pc := 94) dX12_printReport_94 rfl ?_
          refine R_iload_n (pc := 95) dX12_printReport_95 rfl ?_
          refine R_iconst (pc := 96) (x := nI 2) dX12_printReport_96 rfl ?_
          refine R_callV (pc := 97) dX12_printReport_97 rfl putM_o rfl rfl ?_
          refine s12_accepted (by omega) (by omega) ?_
          rw [ka 2 (by omega)]
          refine R_aload_n (pc := 100) dX12_printReport_100 rfl ?_
          refine R_iload_n (pc := 101) dX12_printReport_101 rfl ?_
          refine R_iconst (pc := 102) (x := nI 1) dX12_printReport_102 rfl ?_
          refine R_isub (pc := 103) dX12_printReport_103 ?_
          refine R_iconst (pc := 104) (x := nI 2) dX12_printReport_104 rfl ?_
          refine R_callV (pc := 105) dX12_printReport_105 rfl putM_o rfl rfl ?_
          rw [pk_sub (show 1 ≤ k by omega)]
          refine s12_accepted (by omega) (by omega) ?_
          rw [kb 2 (by omega)]
          refine R_icmp_eq (pc := 108) (t := 115) dX12_printReport_108 (by decide) (fun h108 => ?_) (fun h108 => ?_)
          · refine R_iconst (pc := 115) (x := nI 0) dX12_printReport_115 rfl ?_
            refine R_istore (pc := 116) dX12_printReport_116 (Nat.le_of_ble_eq_true rfl) rfl ?_
            refine R_aload_n (pc := 118) dX12_printReport_118 rfl ?_
            refine R_iload_n (pc := 119) dX12_printReport_119 rfl ?_
            refine R_if_eq (pc := 120) (t := 127) dX12_printReport_120 (by decide) (fun _ => ?_) (fun hz9 => absurd (show nI 0 = 0 from rfl) hz9)
            refine R_iload_n (pc := 127) dX12_printReport_127 rfl ?_
            refine R_if_eq (pc := 128) (t := 135) dX12_printReport_128 (by decide) (fun hz9 => absurd hz9 (show ¬ nI 1 = 0 by decide)) (fun _ => ?_)
            refine R_iconst (pc := 131) (x := nI 1) dX12_printReport_131 rfl ?_
            refine R_goto (pc := 132) (t := 145) dX12_printReport_132 (by decide) ?_
            refine R_iload_n (pc := 145) dX12_printReport_145 rfl ?_
            refine R_iconst (pc := 146) (x := nI 1) dX12_printReport_146 rfl ?_
            refine R_isub (pc := 147) dX12_printReport_147 ?_
            refine R_callV (pc := 148) dX12_printReport_148 rfl putM_o rfl rfl ?_
            rw [pk_sub (show 1 ≤ k by omega)]
            have hl : lvN (acc k) (acc (k - 1)) = 2 := by unfold lvN; rw [if_neg (not_not_intro h62), if_pos h85]
            rw [show (nI 1 : Int32) = nI 2 - nI 1 by decide]
            refine s12_brks (v := acc (k - 1)) (m := 2) (lim := lim) (by omega) (by omega) (by have := (ptS_le (lim := lim) (acc := acc) (num := num) k).2 (by omega); omega) (fun f hf => hacc (k - 1) f (by omega) hf) hP hlim (fun B hq hB => ?_)
            exact tail B _ _ _ hq (by rw [ep, hl]; exact hB)
          · refine R_iconst (pc := 111) (x := nI 1) dX12_printReport_111 rfl ?_
            refine R_goto (pc := 112) (t := 116) dX12_printReport_112 (by decide) ?_
            refine R_istore (pc := 116) dX12_printReport_116 (Nat.le_of_ble_eq_true rfl) rfl ?_
            refine R_aload_n (pc := 118) dX12_printReport_118 rfl ?_
            refine R_iload_n (pc := 119) dX12_printReport_119 rfl ?_
            refine R_if_eq (pc := 120) (t := 127) dX12_printReport_120 (by decide) (fun _ => ?_) (fun hz9 => absurd (show nI 0 = 0 from rfl) hz9)
            refine R_iload_n (pc := 127) dX12_printReport_127 rfl ?_
            refine R_if_eq (pc := 128) (t := 135) dX12_printReport_128 (by decide) (fun hz9 => absurd hz9 (show ¬ nI 1 = 0 by decide)) (fun _ => ?_)
            refine R_iconst (pc := 131) (x := nI 1) dX12_printReport_131 rfl ?_
            refine R_goto (pc := 132) (t := 145) dX12_printReport_132 (by decide) ?_
            refine R_iload_n (pc := 145) dX12_printReport_145 rfl ?_
            refine R_iconst (pc := 146) (x := nI 1) dX12_printReport_146 rfl ?_
            refine R_isub (pc := 147) dX12_printReport_147 ?_
            refine R_callV (pc := 148) dX12_printReport_148 rfl putM_o rfl rfl ?_
            rw [pk_sub (show 1 ≤ k by omega)]
            have hl : lvN (acc k) (acc (k - 1)) = 2 := by unfold lvN; rw [if_neg (not_not_intro h62), if_pos h85]
            rw [show (nI 1 : Int32) = nI 2 - nI 1 by decide]
            refine s12_brks (v := acc (k - 1)) (m := 2) (lim := lim) (by omega) (by omega) (by have := (ptS_le (lim := lim) (acc := acc) (num := num) k).2 (by omega); omega) (fun f hf => hacc (k - 1) f (by omega) hf) hP hlim (fun B hq hB => ?_)
            exact tail B _ _ _ hq (by rw [ep, hl]; exact hB)
      · refine R_iconst (pc := 65) (x := nI 1) dX12_printReport_65 rfl ?_
        refine R_goto (pc := 66) (t := 70) dX12_printReport_66 (by decide) ?_
        refine R_istore_n (pc := 70) dX12_printReport_70 (Nat.le_of_ble_eq_true rfl) rfl ?_
        refine R_aload_n (pc := 71) dX12_printReport_71 rfl ?_
        refine R_iload_n (pc := 72) dX12_printReport_72 rfl ?_
        refine R_iconst (pc := 73) (x := nI 1) dX12_printReport_73 rfl ?_
        refine R_callV (pc := 74) dX12_printReport_74 rfl putM_o rfl rfl ?_
        refine s12_accepted (by omega) (by omega) ?_
        rw [ka 1 (by omega)]
        refine R_aload_n (pc := 77) dX12_printReport_77 rfl ?_
        refine R_iload_n (pc := 78) dX12_printReport_78 rfl ?_
        refine R_iconst (pc := 79) (x := nI 1) dX12_printReport_79 rfl ?_
        refine R_isub (pc := 80) dX12_printReport_80 ?_
        refine R_iconst (pc := 81) (x := nI 1) dX12_printReport_81 rfl ?_
        refine R_callV (pc := 82) dX12_printReport_82 rfl putM_o rfl rfl ?_
        rw [pk_sub (show 1 ≤ k by omega)]
        refine s12_accepted (by omega) (by omega) ?_
        rw [kb 1 (by omega)]
        refine R_icmp_eq (pc := 85) (t := 92) dX12_printReport_85 (by decide) (fun h85 => ?_) (fun h85 => ?_)
        · refine R_iconst (pc := 92) (x := nI 0) dX12_printReport_92 rfl ?_
          refine R_istore_n (pc := 93) dX12_printReport_93 (Nat.le_of_ble_eq_true rfl) rfl ?_
          refine R_aload_n (pc := 94) dX12_printReport_94 rfl ?_
          refine R_iload_n (pc := 95) dX12_printReport_95 rfl ?_
          refine R_iconst (pc := 96) (x := nI 2) dX12_printReport_96 rfl ?_
          refine R_callV (pc := 97) dX12_printReport_97 rfl putM_o rfl rfl ?_
          refine s12_accepted (by omega) (by omega) ?_
          rw [ka 2 (by omega)]
          refine R_aload_n (pc := 100) dX12_printReport_100 rfl ?_
          refine R_iload_n (pc := 101) dX12_printReport_101 rfl ?_
          refine R_iconst (pc := 102) (x := nI 1) dX12_printReport_102 rfl ?_
          refine R_isub (pc := 103) dX12_printReport_103 ?_
          refine R_iconst (pc := 104) (x := nI 2) dX12_printReport_104 rfl ?_
          refine R_callV (pc := 105) dX12_printReport_105 rfl putM_o rfl rfl ?_
          rw [pk_sub (show 1 ≤ k by omega)]
          refine s12_accepted (by omega) (by omega) ?_
          rw [kb 2 (by omega)]
          refine R_icmp_eq (pc := 108) (t := 115) dX12_printReport_108 (by decide) (fun h108 => ?_) (fun h108 => ?_)
          · refine R_iconst (pc := 115) (x := nI 0) dX12_printReport_115 rfl ?_
            refine R_istore (pc := 116) dX12_printReport_116 (Nat.le_of_ble_eq_true rfl) rfl ?_
            refine R_aload_n (pc := 118) dX12_printReport_118 rfl ?_
            refine R_iload_n (pc := 119) dX12_printReport_119 rfl ?_
            refine R_if_eq (pc := 120) (t := 127) dX12_printReport_120 (by decide) (fun hz9 => absurd hz9 (show ¬ nI 1 = 0 by decide)) (fun _ => ?_)
            refine R_iconst (pc := 123) (x := nI 2) dX12_printReport_123 rfl ?_
            refine R_goto (pc := 124) (t := 145) dX12_printReport_124 (by decide) ?_
            refine R_iload_n (pc := 145) dX12_printReport_145 rfl ?_
            refine R_iconst (pc := 146) (x := nI 1) dX12_printReport_146 rfl ?_
            refine R_isub (pc := 147) dX12_printReport_147 ?_
            refine R_callV (pc := 148) dX12_printReport_148 rfl putM_o rfl rfl ?_
            rw [pk_sub (show 1 ≤ k by omega)]
            have hl : lvN (acc k) (acc (k - 1)) = 3 := by unfold lvN; rw [if_pos h62]
            rw [show (nI 2 : Int32) = nI 3 - nI 1 by decide]
            refine s12_brks (v := acc (k - 1)) (m := 3) (lim := lim) (by omega) (by omega) (by have := (ptS_le (lim := lim) (acc := acc) (num := num) k).2 (by omega); omega) (fun f hf => hacc (k - 1) f (by omega) hf) hP hlim (fun B hq hB => ?_)
            exact tail B _ _ _ hq (by rw [ep, hl]; exact hB)
          · refine R_iconst (pc := 111) (x := nI 1) dX12_printReport_111 rfl ?_
            refine R_goto (pc := 112) (t := 116) dX12_printReport_112 (by decide) ?_
            refine R_istore (pc := 116) dX12_printReport_116 (Nat.le_of_ble_eq_true rfl) rfl ?_
            refine R_aload_n (pc := 118) dX12_printReport_118 rfl ?_
            refine R_iload_n (pc := 119) dX12_printReport_119 rfl ?_
            refine R_if_eq (pc := 120) (t := 127) dX12_printReport_120 (by decide) (fun hz9 => absurd hz9 (show ¬ nI 1 = 0 by decide)) (fun _ => ?_)
            refine R_iconst (pc := 123) (x := nI 2) dX12_printReport_123 rfl ?_
            refine R_goto (pc := 124) (t := 145) dX12_printReport_124 (by decide) ?_
            refine R_iload_n (pc := 145) dX12_printReport_145 rfl ?_
            refine R_iconst (pc := 146) (x := nI 1) dX12_printReport_146 rfl ?_
            refine R_isub (pc := 147) dX12_printReport_147 ?_
            refine R_callV (pc := 148) dX12_printReport_148 rfl putM_o rfl rfl ?_
            rw [pk_sub (show 1 ≤ k by omega)]
            have hl : lvN (acc k) (acc (k - 1)) = 3 := by unfold lvN; rw [if_pos h62]
            rw [show (nI 2 : Int32) = nI 3 - nI 1 by decide]
            refine s12_brks (v := acc (k - 1)) (m := 3) (lim := lim) (by omega) (by omega) (by have := (ptS_le (lim := lim) (acc := acc) (num := num) k).2 (by omega); omega) (fun f hf => hacc (k - 1) f (by omega) hf) hP hlim (fun B hq hB => ?_)
            exact tail B _ _ _ hq (by rw [ep, hl]; exact hB)
        · refine R_iconst (pc := 88) (x := nI 1) dX12_printReport_88 rfl ?_
          refine R_goto (pc := 89) (t := 93) dX12_printReport_89 (by decide) ?_
          refine R_istore_n (pc := 93) dX12_printReport_93 (Nat.le_of_ble_eq_true rfl) rfl ?_
          refine R_aload_n (pc := 94) dX12_printReport_94 rfl ?_
          refine R_iload_n (pc := 95) dX12_printReport_95 rfl ?_
          refine R_iconst (pc := 96) (x := nI 2) dX12_printReport_96 rfl ?_
          refine R_callV (pc := 97) dX12_printReport_97 rfl putM_o rfl rfl ?_
          refine s12_accepted (by omega) (by omega) ?_
          rw [ka 2 (by omega)]
          refine R_aload_n (pc := 100) dX12_printReport_100 rfl ?_
          refine R_iload_n (pc := 101) dX12_printReport_101 rfl ?_
          refine R_iconst (pc := 102) (x := nI 1) dX12_printReport_102 rfl ?_
          refine R_isub (pc := 103) dX12_printReport_103 ?_
          refine R_iconst (pc := 104) (x := nI 2) dX12_printReport_104 rfl ?_
          refine R_callV (pc := 105) dX12_printReport_105 rfl putM_o rfl rfl ?_
          rw [pk_sub (show 1 ≤ k by omega)]
          refine s12_accepted (by omega) (by omega) ?_
          rw [kb 2 (by omega)]
          refine R_icmp_eq (pc := 108) (t := 115) dX12_printReport_108 (by decide) (fun h108 => ?_) (fun h108 => ?_)
          · refine R_iconst (pc := 115) (x := nI 0) dX12_printReport_115 rfl ?_
            refine R_istore (pc := 116) dX12_printReport_116 (Nat.le_of_ble_eq_true rfl) rfl ?_
            refine R_aload_n (pc := 118) dX12_printReport_118 rfl ?_
            refine R_iload_n (pc := 119) dX12_printReport_119 rfl ?_
            refine R_if_eq (pc := 120) (t := 127) dX12_printReport_120 (by decide) (fun hz9 => absurd hz9 (show ¬ nI 1 = 0 by decide)) (fun _ => ?_)
            refine R_iconst (pc := 123) (x := nI 2) dX12_printReport_123 rfl ?_
            refine R_goto (pc := 124) (t := 145) dX12_printReport_124 (by decide) ?_
            refine R_iload_n (pc := 145) dX12_printReport_145 rfl ?_
            refine R_iconst (pc := 146) (x := nI 1) dX12_printReport_146 rfl ?_
            refine R_isub (pc := 147) dX12_printReport_147 ?_
            refine R_callV (pc := 148) dX12_printReport_148 rfl putM_o rfl rfl ?_
            rw [pk_sub (show 1 ≤ k by omega)]
            have hl : lvN (acc k) (acc (k - 1)) = 3 := by unfold lvN; rw [if_pos h62]
            rw [show (nI 2 : Int32) = nI 3 - nI 1 by decide]
            refine s12_brks (v := acc (k - 1)) (m := 3) (lim := lim) (by omega) (by omega) (by have := (ptS_le (lim := lim) (acc := acc) (num := num) k).2 (by omega); omega) (fun f hf => hacc (k - 1) f (by omega) hf) hP hlim (fun B hq hB => ?_)
            exact tail B _ _ _ hq (by rw [ep, hl]; exact hB)
          · refine R_iconst (pc := 111) (x := nI 1) dX12_printReport_111 rfl ?_
            refine R_goto (pc := 112) (t := 116) dX12_printReport_112 (by decide) ?_
            refine R_istore (pc := 116) dX12_printReport_116 (Nat.le_of_ble_eq_true rfl) rfl ?_
            refine R_aload_n (pc := 118) dX12_printReport_118 rfl ?_
            refine R_iload_n (pc := 119) dX12_printReport_119 rfl ?_
            refine R_if_eq (pc := 120) (t := 127) dX12_printReport_120 (by decide) (fun hz9 => absurd hz9 (show ¬ nI 1 = 0 by decide)) (fun _ => ?_)
            refine R_iconst (pc := 123) (x := nI 2) dX12_printReport_123 rfl ?_
            refine R_goto (pc := 124) (t := 145) dX12_printReport_124 (by decide) ?_
            refine R_iload_n (pc := 145) dX12_printReport_145 rfl ?_
            refine R_iconst (pc := 146) (x := nI 1) dX12_printReport_146 rfl ?_
            refine R_isub (pc := 147) dX12_printReport_147 ?_
            refine R_callV (pc := 148) dX12_printReport_148 rfl putM_o rfl rfl ?_
            rw [pk_sub (show 1 ≤ k by omega)]
            have hl : lvN (acc k) (acc (k - 1)) = 3 := by unfold lvN; rw [if_pos h62]
            rw [show (nI 2 : Int32) = nI 3 - nI 1 by decide]
            refine s12_brks (v := acc (k - 1)) (m := 3) (lim := lim) (by omega) (by omega) (by have := (ptS_le (lim := lim) (acc := acc) (num := num) k).2 (by omega); omega) (fun f hf => hacc (k - 1) f (by omega) hf) hP hlim (fun B hq hB => ?_)
            exact tail B _ _ _ hq (by rw [ep, hl]; exact hB)
theorem l12_pr0   : ∀ (n k : Nat) (A : Nat → Nat → Int32) (_ : k + n = 16) (_ : ∀ j, j < k → A 12 j = nI 0) (_ : ∀ A2 : Nat → Nat → Int32, (∀ q, q ≠ 12 → A2 q = A q) → (∀ j, j < 16 → A2 12 j = nI 0) → Rn sA mX12_printReport 30 [some (.ref M), some (.int (nI 16)), none, none, none] [] (putM h M A2 S, z) Q), Rn sA mX12_printReport 11 [some (.ref M), some (.int (nI k)), none, none, none] [] (putM h M A S, z) Q
  | 0, k, A, hk, hj, hX => by
    obtain rfl : k = 16 := by omega
    refine R_iload_n (pc := 11) dX12_printReport_11 rfl ?_
    refine R_bipush (pc := 12) (x := nI 16) dX12_printReport_12 (by decide) ?_
    refine R_icmp_ge (pc := 14) (t := 30) dX12_printReport_14 (by decide) (fun _ => ?_) (fun hz9 => absurd (nI_le (by omega) (by omega)) hz9)
    exact hX A (fun _ _ => rfl) hj
  | n + 1, k, A, hk, hj, hX => by
    refine R_iload_n (pc := 11) dX12_printReport_11 rfl ?_
    refine R_bipush (pc := 12) (x := nI 16) dX12_printReport_12 (by decide) ?_
    refine R_icmp_ge (pc := 14) (t := 30) dX12_printReport_14 (by decide) (fun hz9 => absurd hz9 (nI_ge (by omega) (by omega))) (fun _ => ?_)
    refine R_aload_n (pc := 17) dX12_printReport_17 rfl ?_
    refine M_g (pc := 18) dX12_printReport_18 rfl rfl ?_
    refine R_iload_n (pc := 21) dX12_printReport_21 rfl ?_
    refine R_iconst (pc := 22) (x := nI 0) dX12_printReport_22 rfl ?_
    refine M_ast (pc := 23) dX12_printReport_23 rfl (by simp only [mol12]; omega) ?_
    refine R_iinc (pc := 24) dX12_printReport_24 rfl (by first | exact nI_inc _ | rfl) rfl ?_
    refine R_goto (pc := 27) (t := 11) dX12_printReport_27 (by decide) ?_
    exact l12_pr0 n (k + 1) _ (by omega) (fun j hj2 => by show upd (A 12) k (nI 0) j = _; by_cases e : j = k; exact (by subst e; exact upd_s); exact (by rw [upd_n e]; exact hj j (by omega))) (fun A2 a b => hX A2 (fun q hq => (a q hq).trans (by unfold va_up; rw [if_neg hq])) b)
theorem s12_printReport {m : Nat} (hm40 : m ≤ 40) (hm2 : A 1 1103 = nI m) (hQ : ∀ A2 : Nat → Nat → Int32, (∀ q, q ≠ 1 → q ≠ 12 → A2 q = A q) → PsR (A 1) (ptE (A 1 1061) (fun k f => A 1 (1104 + 5 * k + f)) (A 11) m) (A2 1) (A2 12) → Q none (putM h M A2 S, z)) : Rn sA mX12_printReport 0 [some (.ref M), none, none, none, none] [] (putM h M A S, z) Q := by
  refine R_aload_n (pc := 0) dX12_printReport_0 rfl ?_
  refine M_g (pc := 1) dX12_printReport_1 rfl rfl ?_
  refine R_sipush (pc := 4) (x := nI 1304) dX12_printReport_4 (by decide) ?_
  refine R_iconst (pc := 7) (x := nI 0) dX12_printReport_7 rfl ?_
  refine M_ast (pc := 8) dX12_printReport_8 rfl (by simp only [mol1]; omega) ?_
  refine R_iconst (pc := 9) (x := nI 0) dX12_printReport_9 rfl ?_
  refine R_istore_n (pc := 10) dX12_printReport_10 (Nat.le_of_ble_eq_true rfl) rfl ?_
  refine l12_pr0 16 0 _ (by omega) (fun j hj => absurd hj (Nat.not_lt_zero _)) (fun A3 r1 r2 => ?_)
  refine R_iconst (pc := 30) (x := nI 0) dX12_printReport_30 rfl ?_
  refine R_istore_n (pc := 31) dX12_printReport_31 (Nat.le_of_ble_eq_true rfl) rfl ?_
  have e1 : A3 1 = upd (A 1) 1304 (nI 0) := by rw [r1 1 (by omega)]; rfl
  refine l12_prc (U := A 1) (acc := fun k f => A 1 (1104 + 5 * k + f)) (num := A 11) (lim := A 1 1061) hm40 hm2 rfl (fun _ _ _ _ => rfl) m 0 A3 none none none (by omega) (by rw [r1 11 (by omega)]; rfl) ⟨fun j hj => by rw [e1, upd_n (by omega)], by rw [e1, upd_s]; rfl, fun i hi => absurd hi (Nat.not_lt_zero _), fun j hj => r2 j hj⟩ (fun A2 a b o2 o3 o4 => ?_)
  have pl := ptS_le (lim := A 1 1061) (acc := fun k f => A 1 (1104 + 5 * k + f)) (num := A 11) m
  have fr : ∀ q, q ≠ 1 → q ≠ 12 → A2 q = A q := fun q c1 c2 => by rw [a q c1 c2, r1 q c2]; unfold va_up; rw [if_neg c1]
  by_cases hm0 : m = 0
  · skip
    refine R_aload_n (pc := 248) dX12_printReport_248 rfl ?_
    refine M_g (pc := 249) dX12_printReport_249 rfl rfl ?_
    refine R_sipush (pc := 252) (x := nI 1103) dX12_printReport_252 (by decide) ?_
    refine M_ald (pc := 255) dX12_printReport_255 rfl (by simp only [mol1]; omega) ?_
    refine R_if_le (pc := 256) (t := 274) dX12_printReport_256 (by decide) (fun _ => ?_) (fun hz9 => absurd (by rw [b.1 1103 (by omega), hm2, hm0]; decide) hz9)
    refine R_aload_n (pc := 274) dX12_printReport_274 rfl ?_
    refine R_iconst (pc := 275) (x := nI 3) dX12_printReport_275 rfl ?_
    refine R_iconst (pc := 276) (x := nI 0) dX12_printReport_276 rfl ?_
    refine R_callV (pc := 277) dX12_printReport_277 rfl putM_o rfl rfl ?_
    refine s12_brk (U := A 1) (v := fun f => A 1 (1104 + 5 * 0 + f)) (lim := A 1 1061) (by omega) (by omega) (by omega) (fun f hf => rfl) b rfl (fun A4 a4 b4 => ?_)
    refine R_vret (pc := 280) dX12_printReport_280 rfl ?_
    refine hQ A4 (fun q c1 c2 => (a4 q c1 c2).trans (fr q c1 c2)) ?_
    unfold ptE
    rw [if_pos hm0]
    exact b4
  · skip
    refine R_aload_n (pc := 248) dX12_printReport_248 rfl ?_
    refine M_g (pc := 249) dX12_printReport_249 rfl rfl ?_
    refine R_sipush (pc := 252) (x := nI 1103) dX12_printReport_252 (by decide) ?_
    refine M_ald (pc := 255) dX12_printReport_255 rfl (by simp only [mol1]; omega) ?_
    refine R_if_le (pc := 256) (t := 274) dX12_printReport_256 (by decide) (fun hz9 => absurd hz9 (by rw [b.1 1103 (by omega), hm2]; exact nI_nle (by omega) (by omega))) (fun _ => ?_)
    refine R_aload_n (pc := 259) dX12_printReport_259 rfl ?_
    refine R_iconst (pc := 260) (x := nI 2) dX12_printReport_260 rfl ?_
    refine R_aload_n (pc := 261) dX12_printReport_261 rfl ?_
    refine M_g (pc := 262) dX12_printReport_262 rfl rfl ?_
    refine R_sipush (pc := 265) (x := nI 1103) dX12_printReport_265 (by decide) ?_
    refine M_ald (pc := 268) dX12_printReport_268 rfl (by simp only [mol1]; omega) ?_
    refine R_iconst (pc := 269) (x := nI 1) dX12_printReport_269 rfl ?_
    refine R_isub (pc := 270) dX12_printReport_270 ?_
    refine R_callV (pc := 271) dX12_printReport_271 rfl putM_o rfl rfl ?_
    rw [b.1 1103 (by omega), hm2, pk_sub (show 1 ≤ m by omega)]
    rw [show (nI 2 : Int32) = nI 3 - nI 1 by decide]
    refine s12_brks (U := A 1) (v := fun f => A 1 (1104 + 5 * (m - 1) + f)) (m := 3) (lim := A 1 1061) (by omega) (by omega) (by have := pl.2 (by omega); omega) (fun f hf => rfl) b rfl (fun A3 a3 b3 => ?_)
    refine R_aload_n (pc := 274) dX12_printReport_274 rfl ?_
    refine R_iconst (pc := 275) (x := nI 3) dX12_printReport_275 rfl ?_
    refine R_iconst (pc := 276) (x := nI 0) dX12_printReport_276 rfl ?_
    refine R_callV (pc := 277) dX12_printReport_277 rfl putM_o rfl rfl ?_
    refine s12_brk (U := A 1) (v := fun f => A 1 (1104 + 5 * 0 + f)) (lim := A 1 1061) (by omega) (by omega) (by rw [brks_1]; have := pl.2 (by omega); omega) (fun f hf => rfl) b3 rfl (fun A4 a4 b4 => ?_)
    refine R_vret (pc := 280) dX12_printReport_280 rfl ?_
    refine hQ A4 (fun q c1 c2 => (a4 q c1 c2).trans ((a3 q c1 c2).trans (fr q c1 c2))) ?_
    unfold ptE
    rw [if_neg hm0]
    exact b4
/-- the state behind a run of the deck -/
def RunW (P Wd : Nat → Nat) (U : Nat → Int32) (n : Nat) (V : Nat → Int32) : Prop := ∃ V1 G, (∀ j, (j < 1060 ∨ 1304 ≤ j) → V1 j = U j) ∧ V1 1060 = nI 1 ∧ V1 1061 = U 15 ∧ V1 1062 = nI n ∧ V1 1103 = nI (accN P Wd U (U 12) n) ∧ (∀ i, i < n → V1 (1063 + i) = fdR P Wd U (U 12) i) ∧ (∀ i, i < n → fdR P Wd U (U 12) i = nI 0 → (∀ f, f < 5 → V1 (1104 + 5 * accN P Wd U (U 12) i + f) = accF P Wd U i f) ∧ G (accN P Wd U (U 12) i) = nI i) ∧ ∃ Z, PsR V1 (ptE (U 15) (fun k f => V1 (1104 + 5 * k + f)) G (accN P Wd U (U 12) n)) V Z
theorem rdF_far {u u' : Nat → Int32} {c : Nat} (hc : c < 40) (h : ∀ j, j < 1060 → u j = u' j) : ∀ j, j < 24 → rdF u c j = rdF u' c j := rdF_congr (fun j hj => h _ (by omega))
/-- what is fed depends on the fields, the settings and the cards alone -/
theorem fd_congr {P Wd : Nat → Nat} {u u' : Nat → Int32} {ru : Int32} (hL : LayW u P Wd) (h : ∀ j, j < 1060 → u j = u' j) {i : Nat} (hi : i < 40) : ownF P Wd u i = ownF P Wd u' i ∧ ∀ f, f < 6 → accF P Wd u i f = accF P Wd u' i f := by
  refine ⟨?_, fun f hf => valF_congr hL (rdF_far hi h) hf⟩
  unfold ownF
  rw [h 13 (by omega), h 14 (by omega), h (20 + 26 * i + 24) (by omega)]
  exact rsnR_congr hL (rdF_far hi h)
theorem fdS_congr {P Wd : Nat → Nat} {u u' : Nat → Int32} {ru : Int32} (hL : LayW u P Wd) (h : ∀ j, j < 1060 → u j = u' j) : ∀ i, i ≤ 40 → fdS P Wd u ru i = fdS P Wd u' ru i
  | 0, _ => rfl
  | i + 1, hi => by
    obtain ⟨h1, h2⟩ := fd_congr (ru := ru) hL h (show i < 40 by omega)
    show nxtS _ _ _ _ = nxtS _ _ _ _
    rw [fdS_congr hL h i (by omega), h1]
    unfold keyF
    rw [h2 0 (by omega), h2 1 (by omega), h2 2 (by omega)]
theorem fdR_congr {P Wd : Nat → Nat} {u u' : Nat → Int32} {ru : Int32} (hL : LayW u P Wd) (h : ∀ j, j < 1060 → u j = u' j) {i : Nat} (hi : i < 40) : fdR P Wd u ru i = fdR P Wd u' ru i := by
  obtain ⟨h1, h2⟩ := fd_congr (ru := ru) hL h hi
  unfold fdR
  rw [fdS_congr hL h i (by omega), h1]
  unfold keyF
  rw [h2 0 (by omega), h2 1 (by omega), h2 2 (by omega)]
theorem accN_congr {P Wd : Nat → Nat} {u u' : Nat → Int32} {ru : Int32} (hL : LayW u P Wd) (h : ∀ j, j < 1060 → u j = u' j) : ∀ i, i ≤ 40 → accN P Wd u ru i = accN P Wd u' ru i := by
  intro i
  induction i with
  | zero => exact fun _ => (show accN P Wd u ru 0 = 0 from rfl).trans (show 0 = accN P Wd u' ru 0 from rfl)
  | succ i ih =>
    intro hi
    rw [accN_s, accN_s, fdR_congr hL h (show i < 40 by omega), ih (by omega)]
theorem s12_run {P Wd : Nat → Nat} {n pm : Nat} (hL : LayW (A 1) P Wd) (hn : n ≤ 40) (hw : A 1 19 = nI n) (hT : ∀ c, c < n → ∃ t, t < 24 ∧ A 1 (20 + 26 * c + 25) = nI t) (hpm : pm ≤ 8) (hS : S 2 = nI pm) (hQ : ∀ A2 : Nat → Nat → Int32, RunW P Wd (A 1) n (A2 1) → A2 2 = remP (A 1) (A 2) pm → A2 3 = A 3 → A2 4 = A 4 → Q (some (.int (nI (accN P Wd (A 1) (A 1 12) n)))) (putM h M A2 (va_up S 2 (nI (remN pm))), z)) : Rn sA mX12_run 0 [some (.ref M)] [] (putM h M A S, z) Q := by
  refine R_aload_n (pc := 0) dX12_run_0 rfl ?_
  refine R_callV (pc := 1) dX12_run_1 rfl putM_o rfl rfl ?_
  refine s12_remember hpm hS ?_
  refine R_aload_n (pc := 4) dX12_run_4 rfl ?_
  refine M_g (pc := 5) dX12_run_5 rfl rfl ?_
  refine R_sipush (pc := 8) (x := nI 1060) dX12_run_8 (by decide) ?_
  refine R_iconst (pc := 11) (x := nI 1) dX12_run_11 rfl ?_
  refine M_ast (pc := 12) dX12_run_12 rfl (by simp only [mol1]; omega) ?_
  refine R_aload_n (pc := 13) dX12_run_13 rfl ?_
  refine M_g (pc := 14) dX12_run_14 rfl rfl ?_
  refine R_sipush (pc := 17) (x := nI 1061) dX12_run_17 (by decide) ?_
  refine R_aload_n (pc := 20) dX12_run_20 rfl ?_
  refine M_g (pc := 21) dX12_run_21 rfl rfl ?_
  refine R_bipush (pc := 24) (x := nI 15) dX12_run_24 (by decide) ?_
  refine M_ald (pc := 26) dX12_run_26 rfl (by simp only [mol1]; omega) ?_
  refine M_ast (pc := 27) dX12_run_27 rfl (by simp only [mol1]; omega) ?_
  refine R_aload_n (pc := 28) dX12_run_28 rfl ?_
  refine R_callV (pc := 29) dX12_run_29 rfl putM_o rfl rfl ?_
  generalize hB : va_up (va_up _ 1 _) 1 _ = B
  have eB : B 1 = upd (upd (A 1) 1060 (nI 1)) 1061 (A 1 15) := by
    rw [← hB]
    show upd (upd (A 1) 1060 (nI 1)) 1061 (upd (A 1) 1060 (nI 1) 15) = _
    rw [upd_n (show 15 ≠ 1060 by omega)]
  have eU : ∀ j, (j < 1060 ∨ 1062 ≤ j) → B 1 j = A 1 j := fun j hj => by rw [eB, upd_n (by omega), upd_n (by omega)]
  have eq : ∀ q, q ≠ 1 → q ≠ 2 → B q = A q := fun q c1 c2 => by rw [← hB]; unfold va_up; rw [if_neg c1, if_neg c1, if_neg c2]
  have e2 : B 2 = remP (A 1) (A 2) pm := by rw [← hB]; rfl
  clear hB
  have hL1 : LayW (B 1) P Wd := fun f hf => by rw [eU _ (by omega), eU _ (by omega)]; exact hL f hf
  refine s12_runCards (P := P) (Wd := Wd) (n := n) hL1 hn (by rw [eU 19 (by omega)]; exact hw) (fun c hc => by rw [eU _ (by omega)]; exact hT c hc) (fun A2 q1 q2 => ?_)
  obtain ⟨c1, c2, c3, c4, c5⟩ := q2
  have eAll : ∀ j, j < 1060 → B 1 j = A 1 j := fun j hj => eU j (Or.inl hj)
  have ea : ∀ i, i ≤ 40 → accN P Wd (B 1) (B 1 12) i = accN P Wd (A 1) (A 1 12) i := fun i hi => by rw [eU 12 (by omega)]; exact accN_congr hL1 eAll i hi
  have er : ∀ i, i < 40 → fdR P Wd (B 1) (B 1 12) i = fdR P Wd (A 1) (A 1 12) i := fun i hi => by rw [eU 12 (by omega)]; exact fdR_congr hL1 eAll hi
  have hm := accN_le P Wd (A 1) (A 1 12) n
  refine R_aload_n (pc := 32) dX12_run_32 rfl ?_
  refine R_callV (pc := 33) dX12_run_33 rfl putM_o rfl rfl ?_
  refine s12_printReport (m := accN P Wd (A 1) (A 1 12) n) (by omega) (by rw [c3, ea n hn]) (fun A3 r1 r2 => ?_)
  refine R_aload_n (pc := 36) dX12_run_36 rfl ?_
  refine M_g (pc := 37) dX12_run_37 rfl rfl ?_
  refine R_sipush (pc := 40) (x := nI 1103) dX12_run_40 (by decide) ?_
  refine M_ald (pc := 43) dX12_run_43 rfl (by simp only [mol1]; omega) ?_
  refine R_iret (pc := 44) dX12_run_44 rfl ?_
  rw [r2.1 1103 (by omega), c3, ea n hn]
  have e15 : A2 1 1061 = A 1 15 := by rw [c1 1061 (by omega), eB, upd_s]
  rw [e15] at r2
  refine hQ A3 ⟨A2 1, A2 11, fun j hj => ?_, ?_, e15, c2, by rw [c3, ea n hn], fun i hi => ?_, fun i hi h0 => ?_, A3 12, r2⟩ ?_ ?_ ?_
  · rw [c1 j (by omega)]; exact eU j (by omega)
  · rw [c1 1060 (by omega), eB, upd_n (by omega), upd_s]
  · rw [c4 i hi, er i (by omega)]
  · rw [← er i (by omega)] at h0
    obtain ⟨d1, d2⟩ := c5 i hi h0
    rw [ea i (by omega)] at d1 d2
    refine ⟨fun f hf => ?_, d2⟩
    rw [d1 f hf]
    exact (fd_congr (ru := 0) hL1 eAll (show i < 40 by omega)).2 f (by omega)
  · rw [r1 2 (by omega) (by omega), q1 2 (by omega) (by omega) (by omega), e2]
  · rw [r1 3 (by omega) (by omega), q1 3 (by omega) (by omega) (by omega), eq 3 (by omega) (by omega)]
  · rw [r1 4 (by omega) (by omega), q1 4 (by omega) (by omega) (by omega), eq 4 (by omega) (by omega)]
end MOD15
