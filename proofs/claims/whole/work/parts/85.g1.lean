section CG1
variable {sA : Nat} {h : Nat → Option am_C} {z : Nat × Nat} {Q : Option Value → am_H → Prop}
theorem law_c0 {b L k x Y pm fl l : Nat} {xs gs : Nat → Int32} {A : Nat → Nat → Int32} {S : Nat → Int32} {o4 o5 o6 o7 : Option Value} (hk : k + 4 ≤ L) (hL : L ≤ 2048) (hbx : b < x) (hsA : sA < x) (hgs : ∀ k, k < 4 → gs k = nI (if k = 0 then 2 else if k = 1 then 1 else 9999)) (hp : putM h (x + 158) A S = h) (lx : LX b L xs gs sA x Y h z A S pm fl l)  (hX : ∀ (h' : Nat → Option am_C) (z' : Nat × Nat) (A' : Nat → Nat → Int32) (S' : Nat → Int32) (pm' fl' l' : Nat) (o4 o5 o6 o7 : Option Value), putM h' (x + 158) A' S' = h' → LX b L xs gs sA x Y h' z' A' S' pm' fl' l' → Rn sA mL_law 1005 [some (.ref b), some (.ref x), some (.ref (x + 158)), some (.int (nI k)), o4, o5, o6, o7] [] (h', z') Q) : Rn sA mL_law 172 [some (.ref b), some (.ref x), some (.ref (x + 158)), some (.int (nI k)), o4, o5, o6, o7] [] (h, z) Q := by
  obtain ⟨hb, hst, st, r, sc, hS2, hS4, hS6, wk, wp, wi⟩ := id lx
  have hx := r.2.1
  have hpm : pm ≤ 8 := by obtain ⟨_, _, ⟨_, _, q, _⟩, _⟩ := r; exact q.2.2.2.1
  have hfl : fl < 4 := by obtain ⟨_, _, ⟨_, _, _, q, _⟩, _⟩ := r; exact q.2.1
  have hl := r.2.2.2.2
  have hM : h (x + 158) = some (.inr (12, mo_obj (x + 158) S)) := by rw [← hp]; exact putM_o
  obtain ⟨P, Wd, n, pe, K, R, se, co, sa, sr⟩ := id st
  obtain ⟨⟨n0, okd⟩, m, rep⟩ := id wk
  have hw := sr.2.2.1.1
  have hn := sr.2.2.1.2.1
  obtain rfl : n = n0 := (nI_eq (by omega) (by have := okd.2.1; omega)).mp (hw.symm.trans okd.1)
  have hD := okd.2.2.1
  have hT := okd.2.2.2
  refine R_aload_n (pc := 172) dL_law_172 rfl ?_
  refine R_aload_n (pc := 173) dL_law_173 rfl ?_
  refine R_iload_n (pc := 174) dL_law_174 rfl ?_
  refine R_iconst (pc := 175) (x := nI 1) dL_law_175 rfl ?_
  refine R_iadd (pc := 176) dL_law_176 ?_
  refine R_iald (pc := 177) dL_law_177 (by repeat (first | assumption | exact up_s | refine up_n (by omega) ?_)) (Or.inr rfl) (by first | with_reducible rfl | (simp only [nI_add]; exact rfl)) (by omega) (by omega) ?_
  refine R_aload_n (pc := 178) dL_law_178 rfl ?_
  refine R_iload_n (pc := 179) dL_law_179 rfl ?_
  refine R_iconst (pc := 180) (x := nI 2) dL_law_180 rfl ?_
  refine R_iadd (pc := 181) dL_law_181 ?_
  refine R_iald (pc := 182) dL_law_182 (by repeat (first | assumption | exact up_s | refine up_n (by omega) ?_)) (Or.inr rfl) (by first | with_reducible rfl | (simp only [nI_add]; exact rfl)) (by omega) (by omega) ?_
  refine R_aload_n (pc := 183) dL_law_183 rfl ?_
  refine R_iload_n (pc := 184) dL_law_184 rfl ?_
  refine R_iconst (pc := 185) (x := nI 3) dL_law_185 rfl ?_
  refine R_iadd (pc := 186) dL_law_186 ?_
  refine R_iald (pc := 187) dL_law_187 (by repeat (first | assumption | exact up_s | refine up_n (by omega) ?_)) (Or.inr rfl) (by first | with_reducible rfl | (simp only [nI_add]; exact rfl)) (by omega) (by omega) ?_
  refine R_callV (pc := 188) dL_law_188 rfl (by repeat (first | assumption | exact up_s | refine up_n (by omega) ?_)) rfl rfl ?_
  refine c11_lay r st sc (fun hbad => ?_) (fun f p q ok h3 z3 o => ?_)
  · refine R_aload_n (pc := 191) dL_law_191 rfl ?_
    refine R_aload_n (pc := 192) dL_law_192 rfl ?_
    refine R_iload_n (pc := 193) dL_law_193 rfl ?_
    refine R_iconst (pc := 194) (x := nI 1) dL_law_194 rfl ?_
    refine R_iadd (pc := 195) dL_law_195 ?_
    refine R_iald (pc := 196) dL_law_196 (by repeat (first | assumption | exact up_s | refine up_n (by omega) ?_)) (Or.inr rfl) (by first | with_reducible rfl | (simp only [nI_add]; exact rfl)) (by omega) (by omega) ?_
    refine R_aload_n (pc := 197) dL_law_197 rfl ?_
    refine R_iload_n (pc := 198) dL_law_198 rfl ?_
    refine R_iconst (pc := 199) (x := nI 2) dL_law_199 rfl ?_
    refine R_iadd (pc := 200) dL_law_200 ?_
    refine R_iald (pc := 201) dL_law_201 (by repeat (first | assumption | exact up_s | refine up_n (by omega) ?_)) (Or.inr rfl) (by first | with_reducible rfl | (simp only [nI_add]; exact rfl)) (by omega) (by omega) ?_
    refine R_aload_n (pc := 202) dL_law_202 rfl ?_
    refine R_iload_n (pc := 203) dL_law_203 rfl ?_
    refine R_iconst (pc := 204) (x := nI 3) dL_law_204 rfl ?_
    refine R_iadd (pc := 205) dL_law_205 ?_
    refine R_iald (pc := 206) dL_law_206 (by repeat (first | assumption | exact up_s | refine up_n (by omega) ?_)) (Or.inr rfl) (by first | with_reducible rfl | (simp only [nI_add]; exact rfl)) (by omega) (by omega) ?_
    refine R_callV (pc := 207) dL_law_207 rfl hM rfl rfl ?_
    refine Rn_h hp.symm ?_
    refine s12_lay hpm hS2 (fun _ => ?_) (fun f p q ok => absurd ok (hbad f p q))
    refine R_icmp_eq (pc := 210) (t := 1005) dL_law_210 (by decide) (fun _ => ?_) (fun hz9 => absurd rfl hz9)
    rw [hp]
    exact hX h z A S pm fl l _ _ _ _ hp lx
  · have fr3 := o.2.2.2
    have hb_h3 : h3 b = _ := (fr3 b (by omega)).trans hb
    have hp_h3 : putM h3 (x + 158) A S = h3 := putM_keep hp (fun a a1 a2 => fr3 a (by omega))
    have hM_h3 : h3 (x + 158) = some (.inr (12, mo_obj (x + 158) S)) := by rw [← hp_h3]; exact putM_o
    refine R_aload_n (pc := 191) dL_law_191 rfl ?_
    refine R_aload_n (pc := 192) dL_law_192 rfl ?_
    refine R_iload_n (pc := 193) dL_law_193 rfl ?_
    refine R_iconst (pc := 194) (x := nI 1) dL_law_194 rfl ?_
    refine R_iadd (pc := 195) dL_law_195 ?_
    refine R_iald (pc := 196) dL_law_196 (by repeat (first | assumption | exact up_s | refine up_n (by omega) ?_)) (Or.inr rfl) (by first | with_reducible rfl | (simp only [nI_add]; exact rfl)) (by omega) (by omega) ?_
    refine R_aload_n (pc := 197) dL_law_197 rfl ?_
    refine R_iload_n (pc := 198) dL_law_198 rfl ?_
    refine R_iconst (pc := 199) (x := nI 2) dL_law_199 rfl ?_
    refine R_iadd (pc := 200) dL_law_200 ?_
    refine R_iald (pc := 201) dL_law_201 (by repeat (first | assumption | exact up_s | refine up_n (by omega) ?_)) (Or.inr rfl) (by first | with_reducible rfl | (simp only [nI_add]; exact rfl)) (by omega) (by omega) ?_
    refine R_aload_n (pc := 202) dL_law_202 rfl ?_
    refine R_iload_n (pc := 203) dL_law_203 rfl ?_
    refine R_iconst (pc := 204) (x := nI 3) dL_law_204 rfl ?_
    refine R_iadd (pc := 205) dL_law_205 ?_
    refine R_iald (pc := 206) dL_law_206 (by repeat (first | assumption | exact up_s | refine up_n (by omega) ?_)) (Or.inr rfl) (by first | with_reducible rfl | (simp only [nI_add]; exact rfl)) (by omega) (by omega) ?_
    refine R_callV (pc := 207) dL_law_207 rfl hM_h3 rfl rfl ?_
    refine Rn_h hp_h3.symm ?_
    refine s12_lay hpm hS2 (fun hbad => absurd ok (hbad f p q)) (fun f2 p2 q2 ok2 => ?_)
    obtain rfl : f2 = f := (nI_eq (by have := ok2.1; omega) (by have := ok.1; omega)).mp (ok2.2.2.2.2.1.symm.trans ok.2.2.2.2.1)
    refine R_icmp_eq (pc := 210) (t := 1005) dL_law_210 (by decide) (fun _ => ?_) (fun hz9 => absurd rfl hz9)
    refine hX _ z3 (va_up (va_up A 2 (remP (A 1) (A 2) pm)) 1 (upd (upd (A 1) (0 + 2 * f2) (xs (k + 2))) (0 + 2 * f2 + 1) (xs (k + 3)))) (va_up S 2 (nI (remN pm))) (remN pm) fl l _ _ _ _ putM_putM (lx.rc hbx hsA hpm ?_ rfl rfl rfl up_s (fun q _ hq => va_up_o hq) ?_)
    · exact o
    · have := ok.1
      exact wk.cg (fun j j1 j2 => by show upd (upd (A 1) _ _) _ _ j = _; rw [upd_n (by omega), upd_n (by omega)])
theorem law_c1 {b L k x Y pm fl l : Nat} {xs gs : Nat → Int32} {A : Nat → Nat → Int32} {S : Nat → Int32} {o4 o5 o6 o7 : Option Value} (hk : k + 4 ≤ L) (hL : L ≤ 2048) (hbx : b < x) (hsA : sA < x) (hgs : ∀ k, k < 4 → gs k = nI (if k = 0 then 2 else if k = 1 then 1 else 9999)) (hp : putM h (x + 158) A S = h) (lx : LX b L xs gs sA x Y h z A S pm fl l)  (hX : ∀ (h' : Nat → Option am_C) (z' : Nat × Nat) (A' : Nat → Nat → Int32) (S' : Nat → Int32) (pm' fl' l' : Nat) (o4 o5 o6 o7 : Option Value), putM h' (x + 158) A' S' = h' → LX b L xs gs sA x Y h' z' A' S' pm' fl' l' → Rn sA mL_law 1005 [some (.ref b), some (.ref x), some (.ref (x + 158)), some (.int (nI k)), o4, o5, o6, o7] [] (h', z') Q) : Rn sA mL_law 215 [some (.ref b), some (.ref x), some (.ref (x + 158)), some (.int (nI k)), o4, o5, o6, o7] [] (h, z) Q := by
  obtain ⟨hb, hst, st, r, sc, hS2, hS4, hS6, wk, wp, wi⟩ := id lx
  have hx := r.2.1
  have hpm : pm ≤ 8 := by obtain ⟨_, _, ⟨_, _, q, _⟩, _⟩ := r; exact q.2.2.2.1
  have hfl : fl < 4 := by obtain ⟨_, _, ⟨_, _, _, q, _⟩, _⟩ := r; exact q.2.1
  have hl := r.2.2.2.2
  have hM : h (x + 158) = some (.inr (12, mo_obj (x + 158) S)) := by rw [← hp]; exact putM_o
  obtain ⟨P, Wd, n, pe, K, R, se, co, sa, sr⟩ := id st
  obtain ⟨⟨n0, okd⟩, m, rep⟩ := id wk
  have hw := sr.2.2.1.1
  have hn := sr.2.2.1.2.1
  obtain rfl : n = n0 := (nI_eq (by omega) (by have := okd.2.1; omega)).mp (hw.symm.trans okd.1)
  have hD := okd.2.2.1
  have hT := okd.2.2.2
  refine R_aload_n (pc := 215) dL_law_215 rfl ?_
  refine R_aload_n (pc := 216) dL_law_216 rfl ?_
  refine R_iload_n (pc := 217) dL_law_217 rfl ?_
  refine R_iconst (pc := 218) (x := nI 1) dL_law_218 rfl ?_
  refine R_iadd (pc := 219) dL_law_219 ?_
  refine R_iald (pc := 220) dL_law_220 (by repeat (first | assumption | exact up_s | refine up_n (by omega) ?_)) (Or.inr rfl) (by first | with_reducible rfl | (simp only [nI_add]; exact rfl)) (by omega) (by omega) ?_
  refine R_aload_n (pc := 221) dL_law_221 rfl ?_
  refine R_iload_n (pc := 222) dL_law_222 rfl ?_
  refine R_iconst (pc := 223) (x := nI 2) dL_law_223 rfl ?_
  refine R_iadd (pc := 224) dL_law_224 ?_
  refine R_iald (pc := 225) dL_law_225 (by repeat (first | assumption | exact up_s | refine up_n (by omega) ?_)) (Or.inr rfl) (by first | with_reducible rfl | (simp only [nI_add]; exact rfl)) (by omega) (by omega) ?_
  refine R_callV (pc := 226) dL_law_226 rfl (by repeat (first | assumption | exact up_s | refine up_n (by omega) ?_)) rfl rfl ?_
  refine c11_set r st sc hst hsA hgs (fun hbad => ?_) (fun f v ok h3 z3 o => ?_)
  · refine R_aload_n (pc := 229) dL_law_229 rfl ?_
    refine R_aload_n (pc := 230) dL_law_230 rfl ?_
    refine R_iload_n (pc := 231) dL_law_231 rfl ?_
    refine R_iconst (pc := 232) (x := nI 1) dL_law_232 rfl ?_
    refine R_iadd (pc := 233) dL_law_233 ?_
    refine R_iald (pc := 234) dL_law_234 (by repeat (first | assumption | exact up_s | refine up_n (by omega) ?_)) (Or.inr rfl) (by first | with_reducible rfl | (simp only [nI_add]; exact rfl)) (by omega) (by omega) ?_
    refine R_aload_n (pc := 235) dL_law_235 rfl ?_
    refine R_iload_n (pc := 236) dL_law_236 rfl ?_
    refine R_iconst (pc := 237) (x := nI 2) dL_law_237 rfl ?_
    refine R_iadd (pc := 238) dL_law_238 ?_
    refine R_iald (pc := 239) dL_law_239 (by repeat (first | assumption | exact up_s | refine up_n (by omega) ?_)) (Or.inr rfl) (by first | with_reducible rfl | (simp only [nI_add]; exact rfl)) (by omega) (by omega) ?_
    refine R_callV (pc := 240) dL_law_240 rfl hM rfl rfl ?_
    refine Rn_h hp.symm ?_
    refine s12_set hpm hS2 (fun _ => ?_) (fun f v ok => absurd ok (hbad f v))
    refine R_icmp_eq (pc := 243) (t := 1005) dL_law_243 (by decide) (fun _ => ?_) (fun hz9 => absurd rfl hz9)
    rw [hp]
    exact hX h z A S pm fl l _ _ _ _ hp lx
  · have fr3 := o.2.2.2
    have hb_h3 : h3 b = _ := (fr3 b (by omega)).trans hb
    have hp_h3 : putM h3 (x + 158) A S = h3 := putM_keep hp (fun a a1 a2 => fr3 a (by omega))
    have hM_h3 : h3 (x + 158) = some (.inr (12, mo_obj (x + 158) S)) := by rw [← hp_h3]; exact putM_o
    refine R_aload_n (pc := 229) dL_law_229 rfl ?_
    refine R_aload_n (pc := 230) dL_law_230 rfl ?_
    refine R_iload_n (pc := 231) dL_law_231 rfl ?_
    refine R_iconst (pc := 232) (x := nI 1) dL_law_232 rfl ?_
    refine R_iadd (pc := 233) dL_law_233 ?_
    refine R_iald (pc := 234) dL_law_234 (by repeat (first | assumption | exact up_s | refine up_n (by omega) ?_)) (Or.inr rfl) (by first | with_reducible rfl | (simp only [nI_add]; exact rfl)) (by omega) (by omega) ?_
    refine R_aload_n (pc := 235) dL_law_235 rfl ?_
    refine R_iload_n (pc := 236) dL_law_236 rfl ?_
    refine R_iconst (pc := 237) (x := nI 2) dL_law_237 rfl ?_
    refine R_iadd (pc := 238) dL_law_238 ?_
    refine R_iald (pc := 239) dL_law_239 (by repeat (first | assumption | exact up_s | refine up_n (by omega) ?_)) (Or.inr rfl) (by first | with_reducible rfl | (simp only [nI_add]; exact rfl)) (by omega) (by omega) ?_
    refine R_callV (pc := 240) dL_law_240 rfl hM_h3 rfl rfl ?_
    refine Rn_h hp_h3.symm ?_
    refine s12_set hpm hS2 (fun hbad => absurd ok (hbad f v)) (fun f2 v2 ok2 => ?_)
    obtain rfl : f2 = f := (nI_eq (by have := ok2.1; omega) (by have := ok.1; omega)).mp (ok2.2.2.1.symm.trans ok.2.2.1)
    refine R_icmp_eq (pc := 243) (t := 1005) dL_law_243 (by decide) (fun _ => ?_) (fun hz9 => absurd rfl hz9)
    refine hX _ z3 (va_up (va_up A 2 (remP (A 1) (A 2) pm)) 1 (upd (A 1) (12 + f2) (xs (k + 2)))) (va_up S 2 (nI (remN pm))) (remN pm) fl l _ _ _ _ putM_putM (lx.rc hbx hsA hpm ?_ rfl rfl rfl up_s (fun q _ hq => va_up_o hq) ?_)
    · exact o
    · have := ok.1
      exact wk.cg (fun j j1 j2 => by show upd (A 1) _ _ j = _; rw [upd_n (by omega)])
theorem law_c2 {b L k x Y pm fl l : Nat} {xs gs : Nat → Int32} {A : Nat → Nat → Int32} {S : Nat → Int32} {o4 o5 o6 o7 : Option Value} (hk : k + 4 ≤ L) (hL : L ≤ 2048) (hbx : b < x) (hsA : sA < x) (hgs : ∀ k, k < 4 → gs k = nI (if k = 0 then 2 else if k = 1 then 1 else 9999)) (hp : putM h (x + 158) A S = h) (lx : LX b L xs gs sA x Y h z A S pm fl l)  (hX : ∀ (h' : Nat → Option am_C) (z' : Nat × Nat) (A' : Nat → Nat → Int32) (S' : Nat → Int32) (pm' fl' l' : Nat) (o4 o5 o6 o7 : Option Value), putM h' (x + 158) A' S' = h' → LX b L xs gs sA x Y h' z' A' S' pm' fl' l' → Rn sA mL_law 1005 [some (.ref b), some (.ref x), some (.ref (x + 158)), some (.int (nI k)), o4, o5, o6, o7] [] (h', z') Q) : Rn sA mL_law 248 [some (.ref b), some (.ref x), some (.ref (x + 158)), some (.int (nI k)), o4, o5, o6, o7] [] (h, z) Q := by
  obtain ⟨hb, hst, st, r, sc, hS2, hS4, hS6, wk, wp, wi⟩ := id lx
  have hx := r.2.1
  have hpm : pm ≤ 8 := by obtain ⟨_, _, ⟨_, _, q, _⟩, _⟩ := r; exact q.2.2.2.1
  have hfl : fl < 4 := by obtain ⟨_, _, ⟨_, _, _, q, _⟩, _⟩ := r; exact q.2.1
  have hl := r.2.2.2.2
  have hM : h (x + 158) = some (.inr (12, mo_obj (x + 158) S)) := by rw [← hp]; exact putM_o
  obtain ⟨P, Wd, n, pe, K, R, se, co, sa, sr⟩ := id st
  obtain ⟨⟨n0, okd⟩, m, rep⟩ := id wk
  have hw := sr.2.2.1.1
  have hn := sr.2.2.1.2.1
  obtain rfl : n = n0 := (nI_eq (by omega) (by have := okd.2.1; omega)).mp (hw.symm.trans okd.1)
  have hD := okd.2.2.1
  have hT := okd.2.2.2
  refine R_aload_n (pc := 248) dL_law_248 rfl ?_
  refine R_aload_n (pc := 249) dL_law_249 rfl ?_
  refine R_iload_n (pc := 250) dL_law_250 rfl ?_
  refine R_iconst (pc := 251) (x := nI 1) dL_law_251 rfl ?_
  refine R_iadd (pc := 252) dL_law_252 ?_
  refine R_iald (pc := 253) dL_law_253 (by repeat (first | assumption | exact up_s | refine up_n (by omega) ?_)) (Or.inr rfl) (by first | with_reducible rfl | (simp only [nI_add]; exact rfl)) (by omega) (by omega) ?_
  refine R_aload_n (pc := 254) dL_law_254 rfl ?_
  refine R_iload_n (pc := 255) dL_law_255 rfl ?_
  refine R_iconst (pc := 256) (x := nI 2) dL_law_256 rfl ?_
  refine R_iadd (pc := 257) dL_law_257 ?_
  refine R_iald (pc := 258) dL_law_258 (by repeat (first | assumption | exact up_s | refine up_n (by omega) ?_)) (Or.inr rfl) (by first | with_reducible rfl | (simp only [nI_add]; exact rfl)) (by omega) (by omega) ?_
  refine R_callV (pc := 259) dL_law_259 rfl (by repeat (first | assumption | exact up_s | refine up_n (by omega) ?_)) rfl rfl ?_
  refine c11_control r st sc (fun hbad => ?_) (fun f ok h3 z3 o => ?_)
  · refine R_aload_n (pc := 262) dL_law_262 rfl ?_
    refine R_aload_n (pc := 263) dL_law_263 rfl ?_
    refine R_iload_n (pc := 264) dL_law_264 rfl ?_
    refine R_iconst (pc := 265) (x := nI 1) dL_law_265 rfl ?_
    refine R_iadd (pc := 266) dL_law_266 ?_
    refine R_iald (pc := 267) dL_law_267 (by repeat (first | assumption | exact up_s | refine up_n (by omega) ?_)) (Or.inr rfl) (by first | with_reducible rfl | (simp only [nI_add]; exact rfl)) (by omega) (by omega) ?_
    refine R_aload_n (pc := 268) dL_law_268 rfl ?_
    refine R_iload_n (pc := 269) dL_law_269 rfl ?_
    refine R_iconst (pc := 270) (x := nI 2) dL_law_270 rfl ?_
    refine R_iadd (pc := 271) dL_law_271 ?_
    refine R_iald (pc := 272) dL_law_272 (by repeat (first | assumption | exact up_s | refine up_n (by omega) ?_)) (Or.inr rfl) (by first | with_reducible rfl | (simp only [nI_add]; exact rfl)) (by omega) (by omega) ?_
    refine R_callV (pc := 273) dL_law_273 rfl hM rfl rfl ?_
    refine Rn_h hp.symm ?_
    refine s12_control hpm hS2 (fun _ => ?_) (fun f ok => absurd ok (hbad f))
    refine R_icmp_eq (pc := 276) (t := 1005) dL_law_276 (by decide) (fun _ => ?_) (fun hz9 => absurd rfl hz9)
    rw [hp]
    exact hX h z A S pm fl l _ _ _ _ hp lx
  · have fr3 := o.2.2.2
    have hb_h3 : h3 b = _ := (fr3 b (by omega)).trans hb
    have hp_h3 : putM h3 (x + 158) A S = h3 := putM_keep hp (fun a a1 a2 => fr3 a (by omega))
    have hM_h3 : h3 (x + 158) = some (.inr (12, mo_obj (x + 158) S)) := by rw [← hp_h3]; exact putM_o
    refine R_aload_n (pc := 262) dL_law_262 rfl ?_
    refine R_aload_n (pc := 263) dL_law_263 rfl ?_
    refine R_iload_n (pc := 264) dL_law_264 rfl ?_
    refine R_iconst (pc := 265) (x := nI 1) dL_law_265 rfl ?_
    refine R_iadd (pc := 266) dL_law_266 ?_
    refine R_iald (pc := 267) dL_law_267 (by repeat (first | assumption | exact up_s | refine up_n (by omega) ?_)) (Or.inr rfl) (by first | with_reducible rfl | (simp only [nI_add]; exact rfl)) (by omega) (by omega) ?_
    refine R_aload_n (pc := 268) dL_law_268 rfl ?_
    refine R_iload_n (pc := 269) dL_law_269 rfl ?_
    refine R_iconst (pc := 270) (x := nI 2) dL_law_270 rfl ?_
    refine R_iadd (pc := 271) dL_law_271 ?_
    refine R_iald (pc := 272) dL_law_272 (by repeat (first | assumption | exact up_s | refine up_n (by omega) ?_)) (Or.inr rfl) (by first | with_reducible rfl | (simp only [nI_add]; exact rfl)) (by omega) (by omega) ?_
    refine R_callV (pc := 273) dL_law_273 rfl hM_h3 rfl rfl ?_
    refine Rn_h hp_h3.symm ?_
    refine s12_control hpm hS2 (fun hbad => absurd ok (hbad f)) (fun f2 ok2 => ?_)
    obtain rfl : f2 = f := (nI_eq (by have := ok2.1; omega) (by have := ok.1; omega)).mp (ok2.2.1.symm.trans ok.2.1)
    refine R_icmp_eq (pc := 276) (t := 1005) dL_law_276 (by decide) (fun _ => ?_) (fun hz9 => absurd rfl hz9)
    refine hX _ z3 (va_up (va_up A 2 (remP (A 1) (A 2) pm)) 1 (upd (A 1) (16 + f2) (xs (k + 2)))) (va_up S 2 (nI (remN pm))) (remN pm) fl l _ _ _ _ putM_putM (lx.rc hbx hsA hpm ?_ rfl rfl rfl up_s (fun q _ hq => va_up_o hq) ?_)
    · exact o
    · have := ok.1
      exact wk.cg (fun j j1 j2 => by show upd (A 1) _ _ j = _; rw [upd_n (by omega)])
theorem law_c6 {b L k x Y pm fl l : Nat} {xs gs : Nat → Int32} {A : Nat → Nat → Int32} {S : Nat → Int32} {o4 o5 o6 o7 : Option Value} (hk : k + 4 ≤ L) (hL : L ≤ 2048) (hbx : b < x) (hsA : sA < x) (hgs : ∀ k, k < 4 → gs k = nI (if k = 0 then 2 else if k = 1 then 1 else 9999)) (hp : putM h (x + 158) A S = h) (lx : LX b L xs gs sA x Y h z A S pm fl l)  (hX : ∀ (h' : Nat → Option am_C) (z' : Nat × Nat) (A' : Nat → Nat → Int32) (S' : Nat → Int32) (pm' fl' l' : Nat) (o4 o5 o6 o7 : Option Value), putM h' (x + 158) A' S' = h' → LX b L xs gs sA x Y h' z' A' S' pm' fl' l' → Rn sA mL_law 1005 [some (.ref b), some (.ref x), some (.ref (x + 158)), some (.int (nI k)), o4, o5, o6, o7] [] (h', z') Q) : Rn sA mL_law 360 [some (.ref b), some (.ref x), some (.ref (x + 158)), some (.int (nI k)), o4, o5, o6, o7] [] (h, z) Q := by
  obtain ⟨hb, hst, st, r, sc, hS2, hS4, hS6, wk, wp, wi⟩ := id lx
  have hx := r.2.1
  have hpm : pm ≤ 8 := by obtain ⟨_, _, ⟨_, _, q, _⟩, _⟩ := r; exact q.2.2.2.1
  have hfl : fl < 4 := by obtain ⟨_, _, ⟨_, _, _, q, _⟩, _⟩ := r; exact q.2.1
  have hl := r.2.2.2.2
  have hM : h (x + 158) = some (.inr (12, mo_obj (x + 158) S)) := by rw [← hp]; exact putM_o
  obtain ⟨P, Wd, n, pe, K, R, se, co, sa, sr⟩ := id st
  obtain ⟨⟨n0, okd⟩, m, rep⟩ := id wk
  have hw := sr.2.2.1.1
  have hn := sr.2.2.1.2.1
  obtain rfl : n = n0 := (nI_eq (by omega) (by have := okd.2.1; omega)).mp (hw.symm.trans okd.1)
  have hD := okd.2.2.1
  have hT := okd.2.2.2
  refine R_aload_n (pc := 360) dL_law_360 rfl ?_
  refine R_aload_n (pc := 361) dL_law_361 rfl ?_
  refine R_iload_n (pc := 362) dL_law_362 rfl ?_
  refine R_iconst (pc := 363) (x := nI 1) dL_law_363 rfl ?_
  refine R_iadd (pc := 364) dL_law_364 ?_
  refine R_iald (pc := 365) dL_law_365 (by repeat (first | assumption | exact up_s | refine up_n (by omega) ?_)) (Or.inr rfl) (by first | with_reducible rfl | (simp only [nI_add]; exact rfl)) (by omega) (by omega) ?_
  refine R_aload_n (pc := 366) dL_law_366 rfl ?_
  refine R_iload_n (pc := 367) dL_law_367 rfl ?_
  refine R_iconst (pc := 368) (x := nI 2) dL_law_368 rfl ?_
  refine R_iadd (pc := 369) dL_law_369 ?_
  refine R_iald (pc := 370) dL_law_370 (by repeat (first | assumption | exact up_s | refine up_n (by omega) ?_)) (Or.inr rfl) (by first | with_reducible rfl | (simp only [nI_add]; exact rfl)) (by omega) (by omega) ?_
  refine R_aload_n (pc := 371) dL_law_371 rfl ?_
  refine R_iload_n (pc := 372) dL_law_372 rfl ?_
  refine R_iconst (pc := 373) (x := nI 3) dL_law_373 rfl ?_
  refine R_iadd (pc := 374) dL_law_374 ?_
  refine R_iald (pc := 375) dL_law_375 (by repeat (first | assumption | exact up_s | refine up_n (by omega) ?_)) (Or.inr rfl) (by first | with_reducible rfl | (simp only [nI_add]; exact rfl)) (by omega) (by omega) ?_
  refine R_callV (pc := 376) dL_law_376 rfl (by repeat (first | assumption | exact up_s | refine up_n (by omega) ?_)) rfl rfl ?_
  refine c11_repunch r sa sr sc (fun hbad => ?_) (fun c j ok h3 z3 o => ?_)
  · refine R_aload_n (pc := 379) dL_law_379 rfl ?_
    refine R_aload_n (pc := 380) dL_law_380 rfl ?_
    refine R_iload_n (pc := 381) dL_law_381 rfl ?_
    refine R_iconst (pc := 382) (x := nI 1) dL_law_382 rfl ?_
    refine R_iadd (pc := 383) dL_law_383 ?_
    refine R_iald (pc := 384) dL_law_384 (by repeat (first | assumption | exact up_s | refine up_n (by omega) ?_)) (Or.inr rfl) (by first | with_reducible rfl | (simp only [nI_add]; exact rfl)) (by omega) (by omega) ?_
    refine R_aload_n (pc := 385) dL_law_385 rfl ?_
    refine R_iload_n (pc := 386) dL_law_386 rfl ?_
    refine R_iconst (pc := 387) (x := nI 2) dL_law_387 rfl ?_
    refine R_iadd (pc := 388) dL_law_388 ?_
    refine R_iald (pc := 389) dL_law_389 (by repeat (first | assumption | exact up_s | refine up_n (by omega) ?_)) (Or.inr rfl) (by first | with_reducible rfl | (simp only [nI_add]; exact rfl)) (by omega) (by omega) ?_
    refine R_aload_n (pc := 390) dL_law_390 rfl ?_
    refine R_iload_n (pc := 391) dL_law_391 rfl ?_
    refine R_iconst (pc := 392) (x := nI 3) dL_law_392 rfl ?_
    refine R_iadd (pc := 393) dL_law_393 ?_
    refine R_iald (pc := 394) dL_law_394 (by repeat (first | assumption | exact up_s | refine up_n (by omega) ?_)) (Or.inr rfl) (by first | with_reducible rfl | (simp only [nI_add]; exact rfl)) (by omega) (by omega) ?_
    refine R_callV (pc := 395) dL_law_395 rfl hM rfl rfl ?_
    refine Rn_h hp.symm ?_
    refine s12_repunch hn hw hpm hS2 (fun _ => ?_) (fun c j ok => absurd ok (hbad c j))
    refine R_icmp_eq (pc := 398) (t := 1005) dL_law_398 (by decide) (fun _ => ?_) (fun hz9 => absurd rfl hz9)
    rw [hp]
    exact hX h z A S pm fl l _ _ _ _ hp lx
  · have fr3 := o.2.2.2
    have hb_h3 : h3 b = _ := (fr3 b (by omega)).trans hb
    have hp_h3 : putM h3 (x + 158) A S = h3 := putM_keep hp (fun a a1 a2 => fr3 a (by omega))
    have hM_h3 : h3 (x + 158) = some (.inr (12, mo_obj (x + 158) S)) := by rw [← hp_h3]; exact putM_o
    refine R_aload_n (pc := 379) dL_law_379 rfl ?_
    refine R_aload_n (pc := 380) dL_law_380 rfl ?_
    refine R_iload_n (pc := 381) dL_law_381 rfl ?_
    refine R_iconst (pc := 382) (x := nI 1) dL_law_382 rfl ?_
    refine R_iadd (pc := 383) dL_law_383 ?_
    refine R_iald (pc := 384) dL_law_384 (by repeat (first | assumption | exact up_s | refine up_n (by omega) ?_)) (Or.inr rfl) (by first | with_reducible rfl | (simp only [nI_add]; exact rfl)) (by omega) (by omega) ?_
    refine R_aload_n (pc := 385) dL_law_385 rfl ?_
    refine R_iload_n (pc := 386) dL_law_386 rfl ?_
    refine R_iconst (pc := 387) (x := nI 2) dL_law_387 rfl ?_
    refine R_iadd (pc := 388) dL_law_388 ?_
    refine R_iald (pc := 389) dL_law_389 (by repeat (first | assumption | exact up_s | refine up_n (by omega) ?_)) (Or.inr rfl) (by first | with_reducible rfl | (simp only [nI_add]; exact rfl)) (by omega) (by omega) ?_
    refine R_aload_n (pc := 390) dL_law_390 rfl ?_
    refine R_iload_n (pc := 391) dL_law_391 rfl ?_
    refine R_iconst (pc := 392) (x := nI 3) dL_law_392 rfl ?_
    refine R_iadd (pc := 393) dL_law_393 ?_
    refine R_iald (pc := 394) dL_law_394 (by repeat (first | assumption | exact up_s | refine up_n (by omega) ?_)) (Or.inr rfl) (by first | with_reducible rfl | (simp only [nI_add]; exact rfl)) (by omega) (by omega) ?_
    refine R_callV (pc := 395) dL_law_395 rfl hM_h3 rfl rfl ?_
    refine Rn_h hp_h3.symm ?_
    refine s12_repunch hn hw hpm hS2 (fun hbad => absurd ok (hbad c j)) (fun c2 j2 ok2 => ?_)
    obtain rfl : c2 = c := (nI_eq (by have := ok2.1; omega) (by have := ok.1; omega)).mp (ok2.2.2.1.symm.trans ok.2.2.1)
    obtain rfl : j2 = j := (nI_eq (by have := ok2.2.1; omega) (by have := ok.2.1; omega)).mp (ok2.2.2.2.1.symm.trans ok.2.2.2.1)
    refine R_icmp_eq (pc := 398) (t := 1005) dL_law_398 (by decide) (fun _ => ?_) (fun hz9 => absurd rfl hz9)
    refine hX _ z3 (va_up (va_up A 2 (remP (A 1) (A 2) pm)) 1 (upd (A 1) (20 + 26 * c2 + j2) (xs (k + 3)))) (va_up S 2 (nI (remN pm))) (remN pm) fl l _ _ _ _ putM_putM (lx.rc hbx hsA hpm ?_ rfl rfl rfl up_s (fun q _ hq => va_up_o hq) ?_)
    · exact o
    · rcases ok.2.2.2.2 with e | ⟨v, v1, v2⟩
      · exact wk.col hw hn ok.1 ok.2.1 (show 0 < 11 by omega) e
      · exact wk.col hw hn ok.1 ok.2.1 (show v + 1 < 11 by omega) (v2.trans (dgt_s v).symm)
theorem law_c7 {b L k x Y pm fl l : Nat} {xs gs : Nat → Int32} {A : Nat → Nat → Int32} {S : Nat → Int32} {o4 o5 o6 o7 : Option Value} (hk : k + 4 ≤ L) (hL : L ≤ 2048) (hbx : b < x) (hsA : sA < x) (hgs : ∀ k, k < 4 → gs k = nI (if k = 0 then 2 else if k = 1 then 1 else 9999)) (hp : putM h (x + 158) A S = h) (lx : LX b L xs gs sA x Y h z A S pm fl l)  (hX : ∀ (h' : Nat → Option am_C) (z' : Nat × Nat) (A' : Nat → Nat → Int32) (S' : Nat → Int32) (pm' fl' l' : Nat) (o4 o5 o6 o7 : Option Value), putM h' (x + 158) A' S' = h' → LX b L xs gs sA x Y h' z' A' S' pm' fl' l' → Rn sA mL_law 1005 [some (.ref b), some (.ref x), some (.ref (x + 158)), some (.int (nI k)), o4, o5, o6, o7] [] (h', z') Q) : Rn sA mL_law 403 [some (.ref b), some (.ref x), some (.ref (x + 158)), some (.int (nI k)), o4, o5, o6, o7] [] (h, z) Q := by
  obtain ⟨hb, hst, st, r, sc, hS2, hS4, hS6, wk, wp, wi⟩ := id lx
  have hx := r.2.1
  have hpm : pm ≤ 8 := by obtain ⟨_, _, ⟨_, _, q, _⟩, _⟩ := r; exact q.2.2.2.1
  have hfl : fl < 4 := by obtain ⟨_, _, ⟨_, _, _, q, _⟩, _⟩ := r; exact q.2.1
  have hl := r.2.2.2.2
  have hM : h (x + 158) = some (.inr (12, mo_obj (x + 158) S)) := by rw [← hp]; exact putM_o
  obtain ⟨P, Wd, n, pe, K, R, se, co, sa, sr⟩ := id st
  obtain ⟨⟨n0, okd⟩, m, rep⟩ := id wk
  have hw := sr.2.2.1.1
  have hn := sr.2.2.1.2.1
  obtain rfl : n = n0 := (nI_eq (by omega) (by have := okd.2.1; omega)).mp (hw.symm.trans okd.1)
  have hD := okd.2.2.1
  have hT := okd.2.2.2
  refine R_aload_n (pc := 403) dL_law_403 rfl ?_
  refine R_aload_n (pc := 404) dL_law_404 rfl ?_
  refine R_iload_n (pc := 405) dL_law_405 rfl ?_
  refine R_iconst (pc := 406) (x := nI 1) dL_law_406 rfl ?_
  refine R_iadd (pc := 407) dL_law_407 ?_
  refine R_iald (pc := 408) dL_law_408 (by repeat (first | assumption | exact up_s | refine up_n (by omega) ?_)) (Or.inr rfl) (by first | with_reducible rfl | (simp only [nI_add]; exact rfl)) (by omega) (by omega) ?_
  refine R_aload_n (pc := 409) dL_law_409 rfl ?_
  refine R_iload_n (pc := 410) dL_law_410 rfl ?_
  refine R_iconst (pc := 411) (x := nI 2) dL_law_411 rfl ?_
  refine R_iadd (pc := 412) dL_law_412 ?_
  refine R_iald (pc := 413) dL_law_413 (by repeat (first | assumption | exact up_s | refine up_n (by omega) ?_)) (Or.inr rfl) (by first | with_reducible rfl | (simp only [nI_add]; exact rfl)) (by omega) (by omega) ?_
  refine R_aload_n (pc := 414) dL_law_414 rfl ?_
  refine R_iload_n (pc := 415) dL_law_415 rfl ?_
  refine R_iconst (pc := 416) (x := nI 3) dL_law_416 rfl ?_
  refine R_iadd (pc := 417) dL_law_417 ?_
  refine R_iald (pc := 418) dL_law_418 (by repeat (first | assumption | exact up_s | refine up_n (by omega) ?_)) (Or.inr rfl) (by first | with_reducible rfl | (simp only [nI_add]; exact rfl)) (by omega) (by omega) ?_
  refine R_callV (pc := 419) dL_law_419 rfl (by repeat (first | assumption | exact up_s | refine up_n (by omega) ?_)) rfl rfl ?_
  refine c11_mark r sa sr sc (fun hbad => ?_) (fun c j t ok h3 z3 o => ?_)
  · refine R_aload_n (pc := 422) dL_law_422 rfl ?_
    refine R_aload_n (pc := 423) dL_law_423 rfl ?_
    refine R_iload_n (pc := 424) dL_law_424 rfl ?_
    refine R_iconst (pc := 425) (x := nI 1) dL_law_425 rfl ?_
    refine R_iadd (pc := 426) dL_law_426 ?_
    refine R_iald (pc := 427) dL_law_427 (by repeat (first | assumption | exact up_s | refine up_n (by omega) ?_)) (Or.inr rfl) (by first | with_reducible rfl | (simp only [nI_add]; exact rfl)) (by omega) (by omega) ?_
    refine R_aload_n (pc := 428) dL_law_428 rfl ?_
    refine R_iload_n (pc := 429) dL_law_429 rfl ?_
    refine R_iconst (pc := 430) (x := nI 2) dL_law_430 rfl ?_
    refine R_iadd (pc := 431) dL_law_431 ?_
    refine R_iald (pc := 432) dL_law_432 (by repeat (first | assumption | exact up_s | refine up_n (by omega) ?_)) (Or.inr rfl) (by first | with_reducible rfl | (simp only [nI_add]; exact rfl)) (by omega) (by omega) ?_
    refine R_aload_n (pc := 433) dL_law_433 rfl ?_
    refine R_iload_n (pc := 434) dL_law_434 rfl ?_
    refine R_iconst (pc := 435) (x := nI 3) dL_law_435 rfl ?_
    refine R_iadd (pc := 436) dL_law_436 ?_
    refine R_iald (pc := 437) dL_law_437 (by repeat (first | assumption | exact up_s | refine up_n (by omega) ?_)) (Or.inr rfl) (by first | with_reducible rfl | (simp only [nI_add]; exact rfl)) (by omega) (by omega) ?_
    refine R_callV (pc := 438) dL_law_438 rfl hM rfl rfl ?_
    refine Rn_h hp.symm ?_
    refine s12_mark hn hw hpm hS2 (fun _ => ?_) (fun c j t ok => absurd ok (hbad c j t))
    refine R_icmp_eq (pc := 441) (t := 1005) dL_law_441 (by decide) (fun _ => ?_) (fun hz9 => absurd rfl hz9)
    rw [hp]
    exact hX h z A S pm fl l _ _ _ _ hp lx
  · have fr3 := o.2.2.2
    have hb_h3 : h3 b = _ := (fr3 b (by omega)).trans hb
    have hp_h3 : putM h3 (x + 158) A S = h3 := putM_keep hp (fun a a1 a2 => fr3 a (by omega))
    have hM_h3 : h3 (x + 158) = some (.inr (12, mo_obj (x + 158) S)) := by rw [← hp_h3]; exact putM_o
    refine R_aload_n (pc := 422) dL_law_422 rfl ?_
    refine R_aload_n (pc := 423) dL_law_423 rfl ?_
    refine R_iload_n (pc := 424) dL_law_424 rfl ?_
    refine R_iconst (pc := 425) (x := nI 1) dL_law_425 rfl ?_
    refine R_iadd (pc := 426) dL_law_426 ?_
    refine R_iald (pc := 427) dL_law_427 (by repeat (first | assumption | exact up_s | refine up_n (by omega) ?_)) (Or.inr rfl) (by first | with_reducible rfl | (simp only [nI_add]; exact rfl)) (by omega) (by omega) ?_
    refine R_aload_n (pc := 428) dL_law_428 rfl ?_
    refine R_iload_n (pc := 429) dL_law_429 rfl ?_
    refine R_iconst (pc := 430) (x := nI 2) dL_law_430 rfl ?_
    refine R_iadd (pc := 431) dL_law_431 ?_
    refine R_iald (pc := 432) dL_law_432 (by repeat (first | assumption | exact up_s | refine up_n (by omega) ?_)) (Or.inr rfl) (by first | with_reducible rfl | (simp only [nI_add]; exact rfl)) (by omega) (by omega) ?_
    refine R_aload_n (pc := 433) dL_law_433 rfl ?_
    refine R_iload_n (pc := 434) dL_law_434 rfl ?_
    refine R_iconst (pc := 435) (x := nI 3) dL_law_435 rfl ?_
    refine R_iadd (pc := 436) dL_law_436 ?_
    refine R_iald (pc := 437) dL_law_437 (by repeat (first | assumption | exact up_s | refine up_n (by omega) ?_)) (Or.inr rfl) (by first | with_reducible rfl | (simp only [nI_add]; exact rfl)) (by omega) (by omega) ?_
    refine R_callV (pc := 438) dL_law_438 rfl hM_h3 rfl rfl ?_
    refine Rn_h hp_h3.symm ?_
    refine s12_mark hn hw hpm hS2 (fun hbad => absurd ok (hbad c j t)) (fun c2 j2 t2 ok2 => ?_)
    obtain rfl : c2 = c := (nI_eq (by have := ok2.1; omega) (by have := ok.1; omega)).mp (ok2.2.2.2.1.symm.trans ok.2.2.2.1)
    refine R_icmp_eq (pc := 441) (t := 1005) dL_law_441 (by decide) (fun _ => ?_) (fun hz9 => absurd rfl hz9)
    refine hX _ z3 (va_up (va_up A 2 (remP (A 1) (A 2) pm)) 1 (upd (upd (A 1) (20 + 26 * c2 + 24) (xs (k + 2))) (20 + 26 * c2 + 25) (xs (k + 3)))) (va_up S 2 (nI (remN pm))) (remN pm) fl l _ _ _ _ putM_putM (lx.rc hbx hsA hpm ?_ rfl rfl rfl up_s (fun q _ hq => va_up_o hq) ?_)
    · exact o
    · exact wk.mark hw hn ok.1 ok.2.2.1 ok.2.2.2.2.2
theorem law_c4 {b L k x Y pm fl l : Nat} {xs gs : Nat → Int32} {A : Nat → Nat → Int32} {S : Nat → Int32} {o4 o5 o6 o7 : Option Value} (hk : k + 4 ≤ L) (hL : L ≤ 2048) (hbx : b < x) (hsA : sA < x) (hgs : ∀ k, k < 4 → gs k = nI (if k = 0 then 2 else if k = 1 then 1 else 9999)) (hp : putM h (x + 158) A S = h) (lx : LX b L xs gs sA x Y h z A S pm fl l)  (hX : ∀ (h' : Nat → Option am_C) (z' : Nat × Nat) (A' : Nat → Nat → Int32) (S' : Nat → Int32) (pm' fl' l' : Nat) (o4 o5 o6 o7 : Option Value), putM h' (x + 158) A' S' = h' → LX b L xs gs sA x Y h' z' A' S' pm' fl' l' → Rn sA mL_law 1005 [some (.ref b), some (.ref x), some (.ref (x + 158)), some (.int (nI k)), o4, o5, o6, o7] [] (h', z') Q) : Rn sA mL_law 304 [some (.ref b), some (.ref x), some (.ref (x + 158)), some (.int (nI k)), o4, o5, o6, o7] [] (h, z) Q := by
  obtain ⟨hb, hst, st, r, sc, hS2, hS4, hS6, wk, wp, wi⟩ := id lx
  have hx := r.2.1
  have hpm : pm ≤ 8 := by obtain ⟨_, _, ⟨_, _, q, _⟩, _⟩ := r; exact q.2.2.2.1
  have hfl : fl < 4 := by obtain ⟨_, _, ⟨_, _, _, q, _⟩, _⟩ := r; exact q.2.1
  have hl := r.2.2.2.2
  have hM : h (x + 158) = some (.inr (12, mo_obj (x + 158) S)) := by rw [← hp]; exact putM_o
  obtain ⟨P, Wd, n, pe, K, R, se, co, sa, sr⟩ := id st
  obtain ⟨⟨n0, okd⟩, m, rep⟩ := id wk
  have hw := sr.2.2.1.1
  have hn := sr.2.2.1.2.1
  obtain rfl : n = n0 := (nI_eq (by omega) (by have := okd.2.1; omega)).mp (hw.symm.trans okd.1)
  have hD := okd.2.2.1
  have hT := okd.2.2.2
  refine R_aload_n (pc := 304) dL_law_304 rfl ?_
  refine R_aload_n (pc := 305) dL_law_305 rfl ?_
  refine R_iload_n (pc := 306) dL_law_306 rfl ?_
  refine R_iconst (pc := 307) (x := nI 1) dL_law_307 rfl ?_
  refine R_iadd (pc := 308) dL_law_308 ?_
  refine R_iald (pc := 309) dL_law_309 (by repeat (first | assumption | exact up_s | refine up_n (by omega) ?_)) (Or.inr rfl) (by first | with_reducible rfl | (simp only [nI_add]; exact rfl)) (by omega) (by omega) ?_
  refine R_callV (pc := 310) dL_law_310 rfl (by repeat (first | assumption | exact up_s | refine up_n (by omega) ?_)) rfl rfl ?_
  refine c11_take r st sc hn hw (fun hbad => ?_) (fun c hc e h3 z3 fr3 o => ?_)
  · refine R_aload_n (pc := 313) dL_law_313 rfl ?_
    refine R_aload_n (pc := 314) dL_law_314 rfl ?_
    refine R_iload_n (pc := 315) dL_law_315 rfl ?_
    refine R_iconst (pc := 316) (x := nI 1) dL_law_316 rfl ?_
    refine R_iadd (pc := 317) dL_law_317 ?_
    refine R_iald (pc := 318) dL_law_318 (by repeat (first | assumption | exact up_s | refine up_n (by omega) ?_)) (Or.inr rfl) (by first | with_reducible rfl | (simp only [nI_add]; exact rfl)) (by omega) (by omega) ?_
    refine R_callV (pc := 319) dL_law_319 rfl hM rfl rfl ?_
    refine Rn_h hp.symm ?_
    refine s12_take hn hw hpm hS2 (fun _ => ?_) (fun c hc e => absurd e (hbad c hc))
    refine R_icmp_eq (pc := 322) (t := 1005) dL_law_322 (by decide) (fun _ => ?_) (fun hz9 => absurd rfl hz9)
    rw [hp]
    exact hX h z A S pm fl l _ _ _ _ hp lx
  · have hb_h3 : h3 b = _ := (fr3 b (by omega)).trans hb
    have hp_h3 : putM h3 (x + 158) A S = h3 := putM_keep hp (fun a a1 a2 => fr3 a (by omega))
    have hM_h3 : h3 (x + 158) = some (.inr (12, mo_obj (x + 158) S)) := by rw [← hp_h3]; exact putM_o
    refine R_aload_n (pc := 313) dL_law_313 rfl ?_
    refine R_aload_n (pc := 314) dL_law_314 rfl ?_
    refine R_iload_n (pc := 315) dL_law_315 rfl ?_
    refine R_iconst (pc := 316) (x := nI 1) dL_law_316 rfl ?_
    refine R_iadd (pc := 317) dL_law_317 ?_
    refine R_iald (pc := 318) dL_law_318 (by repeat (first | assumption | exact up_s | refine up_n (by omega) ?_)) (Or.inr rfl) (by first | with_reducible rfl | (simp only [nI_add]; exact rfl)) (by omega) (by omega) ?_
    refine R_callV (pc := 319) dL_law_319 rfl hM_h3 rfl rfl ?_
    refine Rn_h hp_h3.symm ?_
    refine s12_take hn hw hpm hS2 (fun hbad => absurd e (hbad c hc)) (fun c2 hc2 e2 V0 A2 m0 m1 m2 m3 m4 => ?_)
    obtain rfl : c2 = c := (nI_eq (by omega) (by omega)).mp (e2.symm.trans e)
    refine R_icmp_eq (pc := 322) (t := 1005) dL_law_322 (by decide) (fun _ => ?_) (fun hz9 => absurd rfl hz9)
    refine hX _ z3 A2 (va_up S 2 (nI (remN pm))) (remN pm) fl l _ _ _ _ putM_putM (lx.rc hbx hsA hpm ?_ m2 m3 m4 up_s (fun q _ hq => va_up_o hq) ?_)
    · exact o V0 _ m0 m1
    · exact wk.take hw hn hc m0 m1
theorem law_c5 {b L k x Y pm fl l : Nat} {xs gs : Nat → Int32} {A : Nat → Nat → Int32} {S : Nat → Int32} {o4 o5 o6 o7 : Option Value} (hk : k + 4 ≤ L) (hL : L ≤ 2048) (hbx : b < x) (hsA : sA < x) (hgs : ∀ k, k < 4 → gs k = nI (if k = 0 then 2 else if k = 1 then 1 else 9999)) (hp : putM h (x + 158) A S = h) (lx : LX b L xs gs sA x Y h z A S pm fl l)  (hX : ∀ (h' : Nat → Option am_C) (z' : Nat × Nat) (A' : Nat → Nat → Int32) (S' : Nat → Int32) (pm' fl' l' : Nat) (o4 o5 o6 o7 : Option Value), putM h' (x + 158) A' S' = h' → LX b L xs gs sA x Y h' z' A' S' pm' fl' l' → Rn sA mL_law 1005 [some (.ref b), some (.ref x), some (.ref (x + 158)), some (.int (nI k)), o4, o5, o6, o7] [] (h', z') Q) : Rn sA mL_law 327 [some (.ref b), some (.ref x), some (.ref (x + 158)), some (.int (nI k)), o4, o5, o6, o7] [] (h, z) Q := by
  obtain ⟨hb, hst, st, r, sc, hS2, hS4, hS6, wk, wp, wi⟩ := id lx
  have hx := r.2.1
  have hpm : pm ≤ 8 := by obtain ⟨_, _, ⟨_, _, q, _⟩, _⟩ := r; exact q.2.2.2.1
  have hfl : fl < 4 := by obtain ⟨_, _, ⟨_, _, _, q, _⟩, _⟩ := r; exact q.2.1
  have hl := r.2.2.2.2
  have hM : h (x + 158) = some (.inr (12, mo_obj (x + 158) S)) := by rw [← hp]; exact putM_o
  obtain ⟨P, Wd, n, pe, K, R, se, co, sa, sr⟩ := id st
  obtain ⟨⟨n0, okd⟩, m, rep⟩ := id wk
  have hw := sr.2.2.1.1
  have hn := sr.2.2.1.2.1
  obtain rfl : n = n0 := (nI_eq (by omega) (by have := okd.2.1; omega)).mp (hw.symm.trans okd.1)
  have hD := okd.2.2.1
  have hT := okd.2.2.2
  refine R_aload_n (pc := 327) dL_law_327 rfl ?_
  refine R_aload_n (pc := 328) dL_law_328 rfl ?_
  refine R_iload_n (pc := 329) dL_law_329 rfl ?_
  refine R_iconst (pc := 330) (x := nI 1) dL_law_330 rfl ?_
  refine R_iadd (pc := 331) dL_law_331 ?_
  refine R_iald (pc := 332) dL_law_332 (by repeat (first | assumption | exact up_s | refine up_n (by omega) ?_)) (Or.inr rfl) (by first | with_reducible rfl | (simp only [nI_add]; exact rfl)) (by omega) (by omega) ?_
  refine R_aload_n (pc := 333) dL_law_333 rfl ?_
  refine R_iload_n (pc := 334) dL_law_334 rfl ?_
  refine R_iconst (pc := 335) (x := nI 2) dL_law_335 rfl ?_
  refine R_iadd (pc := 336) dL_law_336 ?_
  refine R_iald (pc := 337) dL_law_337 (by repeat (first | assumption | exact up_s | refine up_n (by omega) ?_)) (Or.inr rfl) (by first | with_reducible rfl | (simp only [nI_add]; exact rfl)) (by omega) (by omega) ?_
  refine R_callV (pc := 338) dL_law_338 rfl (by repeat (first | assumption | exact up_s | refine up_n (by omega) ?_)) rfl rfl ?_
  refine c11_move r st sc hn hw (fun hbad => ?_) (fun c t hc ht e e2 h3 z3 fr3 o => ?_)
  · refine R_aload_n (pc := 341) dL_law_341 rfl ?_
    refine R_aload_n (pc := 342) dL_law_342 rfl ?_
    refine R_iload_n (pc := 343) dL_law_343 rfl ?_
    refine R_iconst (pc := 344) (x := nI 1) dL_law_344 rfl ?_
    refine R_iadd (pc := 345) dL_law_345 ?_
    refine R_iald (pc := 346) dL_law_346 (by repeat (first | assumption | exact up_s | refine up_n (by omega) ?_)) (Or.inr rfl) (by first | with_reducible rfl | (simp only [nI_add]; exact rfl)) (by omega) (by omega) ?_
    refine R_aload_n (pc := 347) dL_law_347 rfl ?_
    refine R_iload_n (pc := 348) dL_law_348 rfl ?_
    refine R_iconst (pc := 349) (x := nI 2) dL_law_349 rfl ?_
    refine R_iadd (pc := 350) dL_law_350 ?_
    refine R_iald (pc := 351) dL_law_351 (by repeat (first | assumption | exact up_s | refine up_n (by omega) ?_)) (Or.inr rfl) (by first | with_reducible rfl | (simp only [nI_add]; exact rfl)) (by omega) (by omega) ?_
    refine R_callV (pc := 352) dL_law_352 rfl hM rfl rfl ?_
    refine Rn_h hp.symm ?_
    refine s12_move hn hw hpm hS2 (fun _ => ?_) (fun c t hc ht e e2 => absurd ⟨hc, ht, e, e2⟩ (hbad c t))
    refine R_icmp_eq (pc := 355) (t := 1005) dL_law_355 (by decide) (fun _ => ?_) (fun hz9 => absurd rfl hz9)
    rw [hp]
    exact hX h z A S pm fl l _ _ _ _ hp lx
  · have hb_h3 : h3 b = _ := (fr3 b (by omega)).trans hb
    have hp_h3 : putM h3 (x + 158) A S = h3 := putM_keep hp (fun a a1 a2 => fr3 a (by omega))
    have hM_h3 : h3 (x + 158) = some (.inr (12, mo_obj (x + 158) S)) := by rw [← hp_h3]; exact putM_o
    refine R_aload_n (pc := 341) dL_law_341 rfl ?_
    refine R_aload_n (pc := 342) dL_law_342 rfl ?_
    refine R_iload_n (pc := 343) dL_law_343 rfl ?_
    refine R_iconst (pc := 344) (x := nI 1) dL_law_344 rfl ?_
    refine R_iadd (pc := 345) dL_law_345 ?_
    refine R_iald (pc := 346) dL_law_346 (by repeat (first | assumption | exact up_s | refine up_n (by omega) ?_)) (Or.inr rfl) (by first | with_reducible rfl | (simp only [nI_add]; exact rfl)) (by omega) (by omega) ?_
    refine R_aload_n (pc := 347) dL_law_347 rfl ?_
    refine R_iload_n (pc := 348) dL_law_348 rfl ?_
    refine R_iconst (pc := 349) (x := nI 2) dL_law_349 rfl ?_
    refine R_iadd (pc := 350) dL_law_350 ?_
    refine R_iald (pc := 351) dL_law_351 (by repeat (first | assumption | exact up_s | refine up_n (by omega) ?_)) (Or.inr rfl) (by first | with_reducible rfl | (simp only [nI_add]; exact rfl)) (by omega) (by omega) ?_
    refine R_callV (pc := 352) dL_law_352 rfl hM_h3 rfl rfl ?_
    refine Rn_h hp_h3.symm ?_
    refine s12_move hn hw hpm hS2 (fun hbad => absurd ⟨hc, ht, e, e2⟩ (hbad c t)) (fun c2 t2 hc2 ht2 e3 e4 A2 m1 m2 m3 m4 => ?_)
    obtain rfl : c2 = c := (nI_eq (by omega) (by omega)).mp (e3.symm.trans e)
    obtain rfl : t2 = t := (nI_eq (by omega) (by omega)).mp (e4.symm.trans e2)
    refine R_icmp_eq (pc := 355) (t := 1005) dL_law_355 (by decide) (fun _ => ?_) (fun hz9 => absurd rfl hz9)
    refine hX _ z3 A2 (va_up S 2 (nI (remN pm))) (remN pm) fl l _ _ _ _ putM_putM (lx.rc hbx hsA hpm ?_ m2 m3 m4 up_s (fun q _ hq => va_up_o hq) ?_)
    · exact o _ m1
    · exact wk.ord hw hn (fun i hi => mvO2_lt hc ht hi) m1
theorem law_c8 {b L k x Y pm fl l : Nat} {xs gs : Nat → Int32} {A : Nat → Nat → Int32} {S : Nat → Int32} {o4 o5 o6 o7 : Option Value} (hk : k + 4 ≤ L) (hL : L ≤ 2048) (hbx : b < x) (hsA : sA < x) (hgs : ∀ k, k < 4 → gs k = nI (if k = 0 then 2 else if k = 1 then 1 else 9999)) (hp : putM h (x + 158) A S = h) (lx : LX b L xs gs sA x Y h z A S pm fl l)  (hX : ∀ (h' : Nat → Option am_C) (z' : Nat × Nat) (A' : Nat → Nat → Int32) (S' : Nat → Int32) (pm' fl' l' : Nat) (o4 o5 o6 o7 : Option Value), putM h' (x + 158) A' S' = h' → LX b L xs gs sA x Y h' z' A' S' pm' fl' l' → Rn sA mL_law 1005 [some (.ref b), some (.ref x), some (.ref (x + 158)), some (.int (nI k)), o4, o5, o6, o7] [] (h', z') Q) : Rn sA mL_law 446 [some (.ref b), some (.ref x), some (.ref (x + 158)), some (.int (nI k)), o4, o5, o6, o7] [] (h, z) Q := by
  obtain ⟨hb, hst, st, r, sc, hS2, hS4, hS6, wk, wp, wi⟩ := id lx
  have hx := r.2.1
  have hpm : pm ≤ 8 := by obtain ⟨_, _, ⟨_, _, q, _⟩, _⟩ := r; exact q.2.2.2.1
  have hfl : fl < 4 := by obtain ⟨_, _, ⟨_, _, _, q, _⟩, _⟩ := r; exact q.2.1
  have hl := r.2.2.2.2
  have hM : h (x + 158) = some (.inr (12, mo_obj (x + 158) S)) := by rw [← hp]; exact putM_o
  obtain ⟨P, Wd, n, pe, K, R, se, co, sa, sr⟩ := id st
  obtain ⟨⟨n0, okd⟩, m, rep⟩ := id wk
  have hw := sr.2.2.1.1
  have hn := sr.2.2.1.2.1
  obtain rfl : n = n0 := (nI_eq (by omega) (by have := okd.2.1; omega)).mp (hw.symm.trans okd.1)
  have hD := okd.2.2.1
  have hT := okd.2.2.2
  refine R_aload_n (pc := 446) dL_law_446 rfl ?_
  refine R_aload_n (pc := 447) dL_law_447 rfl ?_
  refine R_iload_n (pc := 448) dL_law_448 rfl ?_
  refine R_iconst (pc := 449) (x := nI 1) dL_law_449 rfl ?_
  refine R_iadd (pc := 450) dL_law_450 ?_
  refine R_iald (pc := 451) dL_law_451 (by repeat (first | assumption | exact up_s | refine up_n (by omega) ?_)) (Or.inr rfl) (by first | with_reducible rfl | (simp only [nI_add]; exact rfl)) (by omega) (by omega) ?_
  refine R_callV (pc := 452) dL_law_452 rfl (by repeat (first | assumption | exact up_s | refine up_n (by omega) ?_)) rfl rfl ?_
  refine c11_pass r sa sr sc hD (fun hbad => ?_) (fun c hc e h3 z3 fr3 o => ?_)
  · refine R_aload_n (pc := 455) dL_law_455 rfl ?_
    refine R_aload_n (pc := 456) dL_law_456 rfl ?_
    refine R_iload_n (pc := 457) dL_law_457 rfl ?_
    refine R_iconst (pc := 458) (x := nI 1) dL_law_458 rfl ?_
    refine R_iadd (pc := 459) dL_law_459 ?_
    refine R_iald (pc := 460) dL_law_460 (by repeat (first | assumption | exact up_s | refine up_n (by omega) ?_)) (Or.inr rfl) (by first | with_reducible rfl | (simp only [nI_add]; exact rfl)) (by omega) (by omega) ?_
    refine R_callV (pc := 461) dL_law_461 rfl hM rfl rfl ?_
    refine Rn_h hp.symm ?_
    refine s12_pass hn hw hD hpm hS2 (fun _ => ?_) (fun c hc e => absurd e (hbad c hc))
    refine R_icmp_eq (pc := 464) (t := 1005) dL_law_464 (by decide) (fun _ => ?_) (fun hz9 => absurd rfl hz9)
    rw [hp]
    exact hX h z A S pm fl l _ _ _ _ hp lx
  · have hb_h3 : h3 b = _ := (fr3 b (by omega)).trans hb
    have hp_h3 : putM h3 (x + 158) A S = h3 := putM_keep hp (fun a a1 a2 => fr3 a (by omega))
    have hM_h3 : h3 (x + 158) = some (.inr (12, mo_obj (x + 158) S)) := by rw [← hp_h3]; exact putM_o
    refine R_aload_n (pc := 455) dL_law_455 rfl ?_
    refine R_aload_n (pc := 456) dL_law_456 rfl ?_
    refine R_iload_n (pc := 457) dL_law_457 rfl ?_
    refine R_iconst (pc := 458) (x := nI 1) dL_law_458 rfl ?_
    refine R_iadd (pc := 459) dL_law_459 ?_
    refine R_iald (pc := 460) dL_law_460 (by repeat (first | assumption | exact up_s | refine up_n (by omega) ?_)) (Or.inr rfl) (by first | with_reducible rfl | (simp only [nI_add]; exact rfl)) (by omega) (by omega) ?_
    refine R_callV (pc := 461) dL_law_461 rfl hM_h3 rfl rfl ?_
    refine Rn_h hp_h3.symm ?_
    refine s12_pass hn hw hD hpm hS2 (fun hbad => absurd e (hbad c hc)) (fun c2 hc2 e2 A2 m1 m2 m3 m4 => ?_)
    obtain rfl : c2 = c := (nI_eq (by omega) (by omega)).mp (e2.symm.trans e)
    refine R_icmp_eq (pc := 464) (t := 1005) dL_law_464 (by decide) (fun _ => ?_) (fun hz9 => absurd rfl hz9)
    refine hX _ z3 A2 (va_up S 2 (nI (remN pm))) (remN pm) fl l _ _ _ _ putM_putM (lx.rc hbx hsA hpm ?_ m2 m3 m4 up_s (fun q _ hq => va_up_o hq) ?_)
    · exact o _ m1
    · exact wk.ord hw hn (nxtO_lt hD hc (fun i hi => hi)) m1
theorem law_c9 {b L k x Y pm fl l : Nat} {xs gs : Nat → Int32} {A : Nat → Nat → Int32} {S : Nat → Int32} {o4 o5 o6 o7 : Option Value} (hk : k + 4 ≤ L) (hL : L ≤ 2048) (hbx : b < x) (hsA : sA < x) (hgs : ∀ k, k < 4 → gs k = nI (if k = 0 then 2 else if k = 1 then 1 else 9999)) (hp : putM h (x + 158) A S = h) (lx : LX b L xs gs sA x Y h z A S pm fl l)  (hX : ∀ (h' : Nat → Option am_C) (z' : Nat × Nat) (A' : Nat → Nat → Int32) (S' : Nat → Int32) (pm' fl' l' : Nat) (o4 o5 o6 o7 : Option Value), putM h' (x + 158) A' S' = h' → LX b L xs gs sA x Y h' z' A' S' pm' fl' l' → Rn sA mL_law 1005 [some (.ref b), some (.ref x), some (.ref (x + 158)), some (.int (nI k)), o4, o5, o6, o7] [] (h', z') Q) : Rn sA mL_law 469 [some (.ref b), some (.ref x), some (.ref (x + 158)), some (.int (nI k)), o4, o5, o6, o7] [] (h, z) Q := by
  obtain ⟨hb, hst, st, r, sc, hS2, hS4, hS6, wk, wp, wi⟩ := id lx
  have hx := r.2.1
  have hpm : pm ≤ 8 := by obtain ⟨_, _, ⟨_, _, q, _⟩, _⟩ := r; exact q.2.2.2.1
  have hfl : fl < 4 := by obtain ⟨_, _, ⟨_, _, _, q, _⟩, _⟩ := r; exact q.2.1
  have hl := r.2.2.2.2
  have hM : h (x + 158) = some (.inr (12, mo_obj (x + 158) S)) := by rw [← hp]; exact putM_o
  obtain ⟨P, Wd, n, pe, K, R, se, co, sa, sr⟩ := id st
  obtain ⟨⟨n0, okd⟩, m, rep⟩ := id wk
  have hw := sr.2.2.1.1
  have hn := sr.2.2.1.2.1
  obtain rfl : n = n0 := (nI_eq (by omega) (by have := okd.2.1; omega)).mp (hw.symm.trans okd.1)
  have hD := okd.2.2.1
  have hT := okd.2.2.2
  refine R_aload_n (pc := 469) dL_law_469 rfl ?_
  refine R_aload_n (pc := 470) dL_law_470 rfl ?_
  refine R_iload_n (pc := 471) dL_law_471 rfl ?_
  refine R_iconst (pc := 472) (x := nI 1) dL_law_472 rfl ?_
  refine R_iadd (pc := 473) dL_law_473 ?_
  refine R_iald (pc := 474) dL_law_474 (by repeat (first | assumption | exact up_s | refine up_n (by omega) ?_)) (Or.inr rfl) (by first | with_reducible rfl | (simp only [nI_add]; exact rfl)) (by omega) (by omega) ?_
  refine R_callV (pc := 475) dL_law_475 rfl (by repeat (first | assumption | exact up_s | refine up_n (by omega) ?_)) rfl rfl ?_
  refine c11_sort r sa sr sc hD (fun hbad => ?_) (fun c hc e h3 z3 fr3 o => ?_)
  · refine R_aload_n (pc := 478) dL_law_478 rfl ?_
    refine R_aload_n (pc := 479) dL_law_479 rfl ?_
    refine R_iload_n (pc := 480) dL_law_480 rfl ?_
    refine R_iconst (pc := 481) (x := nI 1) dL_law_481 rfl ?_
    refine R_iadd (pc := 482) dL_law_482 ?_
    refine R_iald (pc := 483) dL_law_483 (by repeat (first | assumption | exact up_s | refine up_n (by omega) ?_)) (Or.inr rfl) (by first | with_reducible rfl | (simp only [nI_add]; exact rfl)) (by omega) (by omega) ?_
    refine R_callV (pc := 484) dL_law_484 rfl hM rfl rfl ?_
    refine Rn_h hp.symm ?_
    refine s12_sort sr.1 hn hw hD hpm hS2 (fun _ => ?_) (fun c hc e => absurd e (hbad c hc))
    refine R_icmp_eq (pc := 487) (t := 1005) dL_law_487 (by decide) (fun _ => ?_) (fun hz9 => absurd rfl hz9)
    rw [hp]
    exact hX h z A S pm fl l _ _ _ _ hp lx
  · have hb_h3 : h3 b = _ := (fr3 b (by omega)).trans hb
    have hp_h3 : putM h3 (x + 158) A S = h3 := putM_keep hp (fun a a1 a2 => fr3 a (by omega))
    have hM_h3 : h3 (x + 158) = some (.inr (12, mo_obj (x + 158) S)) := by rw [← hp_h3]; exact putM_o
    refine R_aload_n (pc := 478) dL_law_478 rfl ?_
    refine R_aload_n (pc := 479) dL_law_479 rfl ?_
    refine R_iload_n (pc := 480) dL_law_480 rfl ?_
    refine R_iconst (pc := 481) (x := nI 1) dL_law_481 rfl ?_
    refine R_iadd (pc := 482) dL_law_482 ?_
    refine R_iald (pc := 483) dL_law_483 (by repeat (first | assumption | exact up_s | refine up_n (by omega) ?_)) (Or.inr rfl) (by first | with_reducible rfl | (simp only [nI_add]; exact rfl)) (by omega) (by omega) ?_
    refine R_callV (pc := 484) dL_law_484 rfl hM_h3 rfl rfl ?_
    refine Rn_h hp_h3.symm ?_
    refine s12_sort sr.1 hn hw hD hpm hS2 (fun hbad => absurd e (hbad c hc)) (fun c2 hc2 e2 A2 m1 m2 m3 m4 => ?_)
    obtain rfl : c2 = c := (nI_eq (by omega) (by omega)).mp (e2.symm.trans e)
    refine R_icmp_eq (pc := 487) (t := 1005) dL_law_487 (by decide) (fun _ => ?_) (fun hz9 => absurd rfl hz9)
    refine hX _ z3 A2 (va_up S 2 (nI (remN pm))) (remN pm) fl l _ _ _ _ putM_putM (lx.rc hbx hsA hpm ?_ m2 m3 m4 up_s (fun q _ hq => va_up_o hq) ?_)
    · exact o _ m1
    · exact wk.ord hw hn (srtO_lt hD _ _ (sr.1 c2 hc).2.2 (fun i hi => hi)) m1
theorem law_c10 {b L k x Y pm fl l : Nat} {xs gs : Nat → Int32} {A : Nat → Nat → Int32} {S : Nat → Int32} {o4 o5 o6 o7 : Option Value} (hk : k + 4 ≤ L) (hL : L ≤ 2048) (hbx : b < x) (hsA : sA < x) (hgs : ∀ k, k < 4 → gs k = nI (if k = 0 then 2 else if k = 1 then 1 else 9999)) (hp : putM h (x + 158) A S = h) (lx : LX b L xs gs sA x Y h z A S pm fl l)  (hX : ∀ (h' : Nat → Option am_C) (z' : Nat × Nat) (A' : Nat → Nat → Int32) (S' : Nat → Int32) (pm' fl' l' : Nat) (o4 o5 o6 o7 : Option Value), putM h' (x + 158) A' S' = h' → LX b L xs gs sA x Y h' z' A' S' pm' fl' l' → Rn sA mL_law 1005 [some (.ref b), some (.ref x), some (.ref (x + 158)), some (.int (nI k)), o4, o5, o6, o7] [] (h', z') Q) : Rn sA mL_law 492 [some (.ref b), some (.ref x), some (.ref (x + 158)), some (.int (nI k)), o4, o5, o6, o7] [] (h, z) Q := by
  obtain ⟨hb, hst, st, r, sc, hS2, hS4, hS6, wk, wp, wi⟩ := id lx
  have hx := r.2.1
  have hpm : pm ≤ 8 := by obtain ⟨_, _, ⟨_, _, q, _⟩, _⟩ := r; exact q.2.2.2.1
  have hfl : fl < 4 := by obtain ⟨_, _, ⟨_, _, _, q, _⟩, _⟩ := r; exact q.2.1
  have hl := r.2.2.2.2
  have hM : h (x + 158) = some (.inr (12, mo_obj (x + 158) S)) := by rw [← hp]; exact putM_o
  obtain ⟨P, Wd, n, pe, K, R, se, co, sa, sr⟩ := id st
  obtain ⟨⟨n0, okd⟩, m, rep⟩ := id wk
  have hw := sr.2.2.1.1
  have hn := sr.2.2.1.2.1
  obtain rfl : n = n0 := (nI_eq (by omega) (by have := okd.2.1; omega)).mp (hw.symm.trans okd.1)
  have hD := okd.2.2.1
  have hT := okd.2.2.2
  refine R_aload_n (pc := 492) dL_law_492 rfl ?_
  refine R_callV (pc := 493) dL_law_493 rfl (by repeat (first | assumption | exact up_s | refine up_n (by omega) ?_)) rfl rfl ?_
  refine c11_run r sa sr sc hD hT hst hsA (fun h3 z3 fr3 o => ?_)
  have hb_h3 : h3 b = _ := (fr3 b (by omega)).trans hb
  have hp_h3 : putM h3 (x + 158) A S = h3 := putM_keep hp (fun a a1 a2 => fr3 a (by omega))
  have hM_h3 : h3 (x + 158) = some (.inr (12, mo_obj (x + 158) S)) := by rw [← hp_h3]; exact putM_o
  refine R_aload_n (pc := 496) dL_law_496 rfl ?_
  refine R_callV (pc := 497) dL_law_497 rfl hM_h3 rfl rfl ?_
  refine Rn_h hp_h3.symm ?_
  refine s12_run sr.1 hn hw hT hpm hS2 (fun A2 m1 m2 m3 m4 => ?_)
  refine R_icmp_eq (pc := 500) (t := 1005) dL_law_500 (by decide) (fun _ => ?_) (fun hz9 => absurd rfl hz9)
  refine hX _ z3 A2 (va_up S 2 (nI (remN pm))) (remN pm) fl l _ _ _ _ putM_putM (lx.rc hbx hsA hpm ?_ m2 m3 m4 up_s (fun q _ hq => va_up_o hq) ?_)
  · exact o _ m1
  · exact wk.run sr.1 sr.2.1 hw hn m1
theorem law_c3 {b L k x Y pm fl l : Nat} {xs gs : Nat → Int32} {A : Nat → Nat → Int32} {S : Nat → Int32} {o4 o5 o6 o7 : Option Value} (hk : k + 4 ≤ L) (hL : L ≤ 2048) (hbx : b < x) (hsA : sA < x) (hgs : ∀ k, k < 4 → gs k = nI (if k = 0 then 2 else if k = 1 then 1 else 9999)) (hp : putM h (x + 158) A S = h) (lx : LX b L xs gs sA x Y h z A S pm fl l)  (hX : ∀ (h' : Nat → Option am_C) (z' : Nat × Nat) (A' : Nat → Nat → Int32) (S' : Nat → Int32) (pm' fl' l' : Nat) (o4 o5 o6 o7 : Option Value), putM h' (x + 158) A' S' = h' → LX b L xs gs sA x Y h' z' A' S' pm' fl' l' → Rn sA mL_law 1005 [some (.ref b), some (.ref x), some (.ref (x + 158)), some (.int (nI k)), o4, o5, o6, o7] [] (h', z') Q) : Rn sA mL_law 281 [some (.ref b), some (.ref x), some (.ref (x + 158)), some (.int (nI k)), o4, o5, o6, o7] [] (h, z) Q := by
  obtain ⟨hb, hst, st, r, sc, hS2, hS4, hS6, wk, wp, wi⟩ := id lx
  have hx := r.2.1
  have hpm : pm ≤ 8 := by obtain ⟨_, _, ⟨_, _, q, _⟩, _⟩ := r; exact q.2.2.2.1
  have hfl : fl < 4 := by obtain ⟨_, _, ⟨_, _, _, q, _⟩, _⟩ := r; exact q.2.1
  have hl := r.2.2.2.2
  have hM : h (x + 158) = some (.inr (12, mo_obj (x + 158) S)) := by rw [← hp]; exact putM_o
  obtain ⟨P, Wd, n, pe, K, R, se, co, sa, sr⟩ := id st
  obtain ⟨⟨n0, okd⟩, m, rep⟩ := id wk
  have hw := sr.2.2.1.1
  have hn := sr.2.2.1.2.1
  obtain rfl : n = n0 := (nI_eq (by omega) (by have := okd.2.1; omega)).mp (hw.symm.trans okd.1)
  have hD := okd.2.2.1
  have hT := okd.2.2.2
  refine R_aload_n (pc := 281) dL_law_281 rfl ?_
  refine R_aload_n (pc := 282) dL_law_282 rfl ?_
  refine R_iload_n (pc := 283) dL_law_283 rfl ?_
  refine R_iconst (pc := 284) (x := nI 1) dL_law_284 rfl ?_
  refine R_iadd (pc := 285) dL_law_285 ?_
  refine R_iald (pc := 286) dL_law_286 (by repeat (first | assumption | exact up_s | refine up_n (by omega) ?_)) (Or.inr rfl) (by first | with_reducible rfl | (simp only [nI_add]; exact rfl)) (by omega) (by omega) ?_
  refine R_callV (pc := 287) dL_law_287 rfl (by repeat (first | assumption | exact up_s | refine up_n (by omega) ?_)) rfl rfl ?_
  refine c11_punch r sa sr sc (fun hbad => ?_) (fun c hc e n0 h3 rr fr3 => ?_) (fun c hc e n0 n40 h3 rr fr3 => ?_) (fun c hc e n0 n40 h3 z3 fr3 o => ?_)
  · refine R_aload_n (pc := 290) dL_law_290 rfl ?_
    refine R_aload_n (pc := 291) dL_law_291 rfl ?_
    refine R_iload_n (pc := 292) dL_law_292 rfl ?_
    refine R_iconst (pc := 293) (x := nI 1) dL_law_293 rfl ?_
    refine R_iadd (pc := 294) dL_law_294 ?_
    refine R_iald (pc := 295) dL_law_295 (by repeat (first | assumption | exact up_s | refine up_n (by omega) ?_)) (Or.inr rfl) (by first | with_reducible rfl | (simp only [nI_add]; exact rfl)) (by omega) (by omega) ?_
    refine R_callV (pc := 296) dL_law_296 rfl hM rfl rfl ?_
    refine Rn_h hp.symm ?_
    refine s12_punch sr.1 sr.2.1 hn hw hpm hS2 hS6 hl (fun _ => ?_) (fun c hc e => absurd e (hbad c hc)) (fun c hc e => absurd e (hbad c hc)) (fun c hc e => absurd e (hbad c hc))
    refine R_icmp_eq (pc := 299) (t := 1005) dL_law_299 (by decide) (fun _ => ?_) (fun hz9 => absurd rfl hz9)
    rw [hp]
    exact hX h z A S pm fl l _ _ _ _ hp lx
  · have hb_h3 : h3 b = _ := (fr3 b (by omega)).trans hb
    have hp_h3 : putM h3 (x + 158) A S = h3 := putM_keep hp (fun a a1 a2 => fr3 a (by omega))
    have hM_h3 : h3 (x + 158) = some (.inr (12, mo_obj (x + 158) S)) := by rw [← hp_h3]; exact putM_o
    refine R_aload_n (pc := 290) dL_law_290 rfl ?_
    refine R_aload_n (pc := 291) dL_law_291 rfl ?_
    refine R_iload_n (pc := 292) dL_law_292 rfl ?_
    refine R_iconst (pc := 293) (x := nI 1) dL_law_293 rfl ?_
    refine R_iadd (pc := 294) dL_law_294 ?_
    refine R_iald (pc := 295) dL_law_295 (by repeat (first | assumption | exact up_s | refine up_n (by omega) ?_)) (Or.inr rfl) (by first | with_reducible rfl | (simp only [nI_add]; exact rfl)) (by omega) (by omega) ?_
    refine R_callV (pc := 296) dL_law_296 rfl hM_h3 rfl rfl ?_
    refine Rn_h hp_h3.symm ?_
    refine s12_punch sr.1 sr.2.1 hn hw hpm hS2 hS6 hl (fun hbad => absurd e (hbad c hc)) (fun c2 hc2 e2 n2 A2 m1 S2 m2 m3 m4 => ?_) (fun c2 hc2 e2 n2 => absurd n2 n0) (fun c2 hc2 e2 n2 => absurd n2 n0)
    refine R_icmp_eq (pc := 299) (t := 1005) dL_law_299 (by decide) (fun _ => ?_) (fun hz9 => absurd rfl hz9)
    refine hX _ z A2 S2 pm fl l _ _ _ _ putM_putM (lx.put hbx hsA (fun a ha => fr3 a (by omega)) ?_ ?_ (sc.fr (fun y y1 y2 => fr3 y (by omega))) ((m2 2 (by omega)).trans hS2) ((m2 4 (by omega)).trans hS4) ((m2 6 (by omega)).trans hS6) ?_ ?_ ?_)
    · rw [m1 1 (by omega) (by omega)]; exact st.fr (fun y y1 y2 => fr3 y (by omega))
    · rw [m1 2 (by omega) (by omega), m1 3 (by omega) (by omega), m1 4 (by omega) (by omega), m3, m4]; exact rr
    · rw [m1 1 (by omega) (by omega)]; exact wk
    · rw [m1 2 (by omega) (by omega)]; exact wp
    · rw [m1 3 (by omega) (by omega)]; exact wi
  · have hb_h3 : h3 b = _ := (fr3 b (by omega)).trans hb
    have hp_h3 : putM h3 (x + 158) A S = h3 := putM_keep hp (fun a a1 a2 => fr3 a (by omega))
    have hM_h3 : h3 (x + 158) = some (.inr (12, mo_obj (x + 158) S)) := by rw [← hp_h3]; exact putM_o
    refine R_aload_n (pc := 290) dL_law_290 rfl ?_
    refine R_aload_n (pc := 291) dL_law_291 rfl ?_
    refine R_iload_n (pc := 292) dL_law_292 rfl ?_
    refine R_iconst (pc := 293) (x := nI 1) dL_law_293 rfl ?_
    refine R_iadd (pc := 294) dL_law_294 ?_
    refine R_iald (pc := 295) dL_law_295 (by repeat (first | assumption | exact up_s | refine up_n (by omega) ?_)) (Or.inr rfl) (by first | with_reducible rfl | (simp only [nI_add]; exact rfl)) (by omega) (by omega) ?_
    refine R_callV (pc := 296) dL_law_296 rfl hM_h3 rfl rfl ?_
    refine Rn_h hp_h3.symm ?_
    refine s12_punch sr.1 sr.2.1 hn hw hpm hS2 hS6 hl (fun hbad => absurd e (hbad c hc)) (fun c2 hc2 e2 n2 => absurd n0 n2) (fun c2 hc2 e2 n2 n4 A2 m1 S2 m2 => ?_) (fun c2 hc2 e2 n2 n4 => absurd n4 (by omega))
    refine R_icmp_eq (pc := 299) (t := 1005) dL_law_299 (by decide) (fun _ => ?_) (fun hz9 => absurd rfl hz9)
    refine hX _ z A2 S2 pm fl l _ _ _ _ putM_putM (lx.put hbx hsA (fun a ha => fr3 a (by omega)) ?_ ?_ (sc.fr (fun y y1 y2 => fr3 y (by omega))) ((m2 2 (by omega)).trans hS2) ((m2 4 (by omega)).trans hS4) ((m2 6 (by omega)).trans hS6) ?_ ?_ ?_)
    · rw [m1 1 (by omega) (by omega)]; exact st.fr (fun y y1 y2 => fr3 y (by omega))
    · rw [m1 2 (by omega) (by omega), m1 3 (by omega) (by omega), m1 4 (by omega) (by omega), m2 7 (by omega), m2 8 (by omega)]; exact rr
    · rw [m1 1 (by omega) (by omega)]; exact wk
    · rw [m1 2 (by omega) (by omega)]; exact wp
    · rw [m1 3 (by omega) (by omega)]; exact wi
  · have hb_h3 : h3 b = _ := (fr3 b (by omega)).trans hb
    have hp_h3 : putM h3 (x + 158) A S = h3 := putM_keep hp (fun a a1 a2 => fr3 a (by omega))
    have hM_h3 : h3 (x + 158) = some (.inr (12, mo_obj (x + 158) S)) := by rw [← hp_h3]; exact putM_o
    refine R_aload_n (pc := 290) dL_law_290 rfl ?_
    refine R_aload_n (pc := 291) dL_law_291 rfl ?_
    refine R_iload_n (pc := 292) dL_law_292 rfl ?_
    refine R_iconst (pc := 293) (x := nI 1) dL_law_293 rfl ?_
    refine R_iadd (pc := 294) dL_law_294 ?_
    refine R_iald (pc := 295) dL_law_295 (by repeat (first | assumption | exact up_s | refine up_n (by omega) ?_)) (Or.inr rfl) (by first | with_reducible rfl | (simp only [nI_add]; exact rfl)) (by omega) (by omega) ?_
    refine R_callV (pc := 296) dL_law_296 rfl hM_h3 rfl rfl ?_
    refine Rn_h hp_h3.symm ?_
    refine s12_punch sr.1 sr.2.1 hn hw hpm hS2 hS6 hl (fun hbad => absurd e (hbad c hc)) (fun c2 hc2 e2 n2 => absurd n0 n2) (fun c2 hc2 e2 n2 n4 => absurd n4 (by omega)) (fun c2 hc2 e2 n2 n4 A2 m1 m2 m3 m4 S2 m5 m6 => ?_)
    obtain rfl : c2 = c := (nI_eq (by omega) (by omega)).mp (e2.symm.trans e)
    refine R_icmp_eq (pc := 299) (t := 1005) dL_law_299 (by decide) (fun _ => ?_) (fun hz9 => absurd rfl hz9)
    refine hX _ z3 A2 S2 (remN pm) fl l _ _ _ _ putM_putM (lx.rc hbx hsA hpm ?_ m2 m3 m4 m5 (fun q hq1 hq2 => m6 q hq1 hq2) ?_)
    · exact o _ m1
    · exact wk.punch (fun f hf => (sr.1 f hf).2.2) hw n40 hc m1
end CG1
