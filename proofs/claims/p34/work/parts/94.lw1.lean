section LW1
variable {sA : Nat} {gs : Nat → Int32} {x Y : Nat} {K0 : am_H} {F0 : Nat → Prop} {s1 s2 t1 t2 : Nat} {G0 : Nat → am_C → Prop} {S : St5} {h : Nat → Option am_C} {z : Nat × Nat} {Q : Option Value → am_H → Prop}
def awS (kd : Nat) (L g : Nat → Int32) (w : Nat) : Nat → Int32 := fun j => if 4 * kd ≤ j ∧ j < 4 * kd + w then g j + L (4 + (j - 4 * kd)) else g j
def zwS (kd : Nat) (g : Nat → Int32) (w : Nat) : Nat → Int32 := fun j => if 4 * kd ≤ j + 4 ∧ j + 4 < 4 * kd + w then nI 0 else g j
theorem awS_st {kd w : Nat} {L g0 g : Nat → Int32} (hg : ∀ j, j < 20 → g j = awS kd L g0 w j) (hw : 4 * kd + w < 20) : ∀ j, j < 20 → upd g (4 * kd + w) (g (4 * kd + w) + L (4 + w)) j = awS kd L g0 (w + 1) j := by
  intro j hj
  by_cases e : j = 4 * kd + w
  · subst e
    rw [upd_s, hg _ hj]
    unfold awS
    rw [if_neg (by omega), if_pos ⟨by omega, by omega⟩, show 4 + (4 * kd + w - 4 * kd) = 4 + w by omega]
  · rw [upd_n e, hg j hj]
    unfold awS
    by_cases q : 4 * kd ≤ j ∧ j < 4 * kd + w
    · rw [if_pos q, if_pos ⟨q.1, by omega⟩]
    · rw [if_neg q, if_neg (by omega)]
theorem zwS_st {kd w : Nat} {g0 g : Nat → Int32} (hg : ∀ j, j < 20 → g j = zwS kd g0 w j) (h0 : 0 < kd) : ∀ j, j < 20 → upd g (4 * kd - 4 + w) (nI 0) j = zwS kd g0 (w + 1) j := by
  intro j hj
  by_cases e : j = 4 * kd - 4 + w
  · subst e
    rw [upd_s]
    unfold zwS
    rw [if_pos ⟨by omega, by omega⟩]
  · rw [upd_n e, hg j hj]
    unfold zwS
    by_cases q : 4 * kd ≤ j + 4 ∧ j + 4 < 4 * kd + w
    · rw [if_pos q, if_pos ⟨q.1, by omega⟩]
    · rw [if_neg q, if_neg (by omega)]
theorem lwS_k {kd : Nat} {L g0 g1 g : Nat → Int32} (h0 : 0 < kd) (h1 : ∀ j, j < 20 → g1 j = zwS kd g0 4 j) (h2 : ∀ j, j < 20 → g j = awS kd L g1 4 j) : ∀ j, j < 20 → g j = lwS kd L g0 j := by
  intro j hj
  rw [h2 j hj]
  unfold awS lwS
  by_cases q : 4 * kd ≤ j ∧ j < 4 * kd + 4
  · rw [if_pos q, if_pos q, h1 j hj]
    unfold zwS
    rw [if_neg (by omega)]
  · rw [if_neg q, if_neg q, h1 j hj]
    unfold zwS
    by_cases q2 : 4 * kd ≤ j + 4 ∧ j < 4 * kd
    · rw [if_pos q2, if_pos ⟨q2.1, by omega⟩]
    · rw [if_neg q2, if_neg (by omega)]
theorem lwS_0 {L g0 g : Nat → Int32} (h2 : ∀ j, j < 20 → g j = awS 0 L g0 4 j) : ∀ j, j < 20 → g j = lwS 0 L g0 j := by
  intro j hj
  rw [h2 j hj]
  unfold awS lwS
  by_cases q : 4 * 0 ≤ j ∧ j < 4 * 0 + 4
  · rw [if_pos q, if_pos q]
  · rw [if_neg q, if_neg q, if_neg (by omega)]
theorem rp_add {i kd N y : Nat} {g0 : Nat → Int32} {cc o7 o8 : Option Value} (k : OKS S) (hi : i < lU S.1) (hk : kd ≤ 4) (hy : K0.2.1 ≤ y) (hX : ∀ (h' : Nat → Option am_C) (z' : Nat × Nat) (g' : Nat → Int32), (∀ j, j < 20 → g' j = awS kd (fun j => S.1 (1305 + 9 * i + j)) g0 4 j) → Wx sA gs x Y K0 F0 s1 s2 t1 t2 (gAt y (.inl (0, 20, .inl g'))) S [] (h', z') → Rn sA mL_isReport 389 [some (.ref x), some (.int (nI N)), some (.ref y), cc, some (.int (nI i)), some (.int (nI kd)), some (.int (nI 4)), o7, o8] [] (h', z') Q) : ∀ (n w : Nat) (h : Nat → Option am_C) (z : Nat × Nat) (g : Nat → Int32), w + n = 4 → (∀ j, j < 20 → g j = awS kd (fun j => S.1 (1305 + 9 * i + j)) g0 w j) → Wx sA gs x Y K0 F0 s1 s2 t1 t2 (gAt y (.inl (0, 20, .inl g))) S [] (h, z) → Rn sA mL_isReport 348 [some (.ref x), some (.int (nI N)), some (.ref y), cc, some (.int (nI i)), some (.int (nI kd)), some (.int (nI w)), o7, o8] [] (h, z) Q
  | 0, w, h, z, g, hw, hg, wx => by
    obtain rfl : w = 4 := by omega
    refine R_iload (pc := 348) dL_isReport_348 rfl ?_
    refine R_iconst (pc := 350) (x := nI 4) dL_isReport_350 rfl ?_
    refine R_icmp_ge (pc := 351) (t := 389) dL_isReport_351 (by decide) (fun _ => ?_) (fun hz9 => absurd (nI_le (by omega) (by omega)) hz9)
    exact hX h z g hg wx
  | n + 1, w, h, z, g, hw, hg, wx => by
    refine R_iload (pc := 348) dL_isReport_348 rfl ?_
    refine R_iconst (pc := 350) (x := nI 4) dL_isReport_350 rfl ?_
    refine R_icmp_ge (pc := 351) (t := 389) dL_isReport_351 (by decide) (fun hz9 => absurd hz9 (nI_ge (by omega) (by omega))) (fun _ => ?_)
    refine R_aload_n (pc := 354) dL_isReport_354 rfl ?_
    refine R_iconst (pc := 355) (x := nI 4) dL_isReport_355 rfl ?_
    refine R_iload (pc := 356) dL_isReport_356 rfl ?_
    refine R_imul (pc := 358) dL_isReport_358 ?_
    refine R_iload (pc := 359) dL_isReport_359 rfl ?_
    refine R_iadd (pc := 361) dL_isReport_361 ?_
    refine R_aload_n (pc := 362) dL_isReport_362 rfl ?_
    refine R_iconst (pc := 363) (x := nI 4) dL_isReport_363 rfl ?_
    refine R_iload (pc := 364) dL_isReport_364 rfl ?_
    refine R_imul (pc := 366) dL_isReport_366 ?_
    refine R_iload (pc := 367) dL_isReport_367 rfl ?_
    refine R_iadd (pc := 369) dL_isReport_369 ?_
    refine R_iald (pc := 370) dL_isReport_370 wx.at (Or.inl rfl) (by first | with_reducible rfl | (simp only [nI_add, pk_mul]; exact rfl)) (by omega) (by decide) ?_
    refine R_aload_n (pc := 371) dL_isReport_371 rfl ?_
    refine R_iload (pc := 372) dL_isReport_372 rfl ?_
    refine R_iconst (pc := 374) (x := nI 4) dL_isReport_374 rfl ?_
    refine R_iload (pc := 375) dL_isReport_375 rfl ?_
    refine R_iadd (pc := 377) dL_isReport_377 ?_
    rw [nI_add]
    refine R_callV (pc := 378) dL_isReport_378 rfl wx.cls.choose_spec rfl rfl ?_
    refine o_line wx k hi (by omega) (fun h1 z1 w1 => ?_)
    refine R_iadd (pc := 381) dL_isReport_381 ?_
    refine R_iast (pc := 382) dL_isReport_382 w1.at (by first | with_reducible rfl | (simp only [nI_add, pk_mul]; exact rfl)) (by omega) (by decide) ?_
    refine R_iinc (pc := 383) dL_isReport_383 rfl (by first | exact nI_inc _ | rfl) rfl ?_
    refine R_goto (pc := 386) (t := 348) dL_isReport_386 (by decide) ?_
    exact rp_add k hi hk hy hX n (w + 1) _ _ _ (by omega) (awS_st hg (by omega)) (w1.wr (show ¬ 0 = 9 by omega) hy)
theorem rp_zero {i kd N y : Nat} {g0 : Nat → Int32} {cc o6 : Option Value} (h0 : 0 < kd) (hk : kd ≤ 4) (hy : K0.2.1 ≤ y) (hX : ∀ (h' : Nat → Option am_C) (z' : Nat × Nat) (g' : Nat → Int32), (∀ j, j < 20 → g' j = zwS kd g0 4 j) → Wx sA gs x Y K0 F0 s1 s2 t1 t2 (gAt y (.inl (0, 20, .inl g'))) S [] (h', z') → Rn sA mL_isReport 345 [some (.ref x), some (.int (nI N)), some (.ref y), cc, some (.int (nI i)), some (.int (nI kd)), o6, some (.int (nI 1)), some (.int (nI (4 * kd - 4 + 4)))] [] (h', z') Q) : ∀ (n w : Nat) (h : Nat → Option am_C) (z : Nat × Nat) (g : Nat → Int32), w + n = 4 → (∀ j, j < 20 → g j = zwS kd g0 w j) → Wx sA gs x Y K0 F0 s1 s2 t1 t2 (gAt y (.inl (0, 20, .inl g))) S [] (h, z) → Rn sA mL_isReport 325 [some (.ref x), some (.int (nI N)), some (.ref y), cc, some (.int (nI i)), some (.int (nI kd)), o6, some (.int (nI 1)), some (.int (nI (4 * kd - 4 + w)))] [] (h, z) Q
  | 0, w, h, z, g, hw, hg, wx => by
    obtain rfl : w = 4 := by omega
    refine R_iload (pc := 325) dL_isReport_325 rfl ?_
    refine R_iconst (pc := 327) (x := nI 4) dL_isReport_327 rfl ?_
    refine R_iload (pc := 328) dL_isReport_328 rfl ?_
    refine R_imul (pc := 330) dL_isReport_330 ?_
    rw [pk_mul]
    refine R_icmp_ge (pc := 331) (t := 345) dL_isReport_331 (by decide) (fun _ => ?_) (fun hz9 => absurd (nI_le (by omega) (by omega)) hz9)
    exact hX h z g hg wx
  | n + 1, w, h, z, g, hw, hg, wx => by
    refine R_iload (pc := 325) dL_isReport_325 rfl ?_
    refine R_iconst (pc := 327) (x := nI 4) dL_isReport_327 rfl ?_
    refine R_iload (pc := 328) dL_isReport_328 rfl ?_
    refine R_imul (pc := 330) dL_isReport_330 ?_
    rw [pk_mul]
    refine R_icmp_ge (pc := 331) (t := 345) dL_isReport_331 (by decide) (fun hz9 => absurd hz9 (nI_ge (by omega) (by omega))) (fun _ => ?_)
    refine R_aload_n (pc := 334) dL_isReport_334 rfl ?_
    refine R_iload (pc := 335) dL_isReport_335 rfl ?_
    refine R_iconst (pc := 337) (x := nI 0) dL_isReport_337 rfl ?_
    refine R_iast (pc := 338) dL_isReport_338 wx.at rfl (by omega) (by decide) ?_
    refine R_iinc (pc := 339) dL_isReport_339 rfl (show nI (4 * kd - 4 + w) + Int32.ofInt 1 = nI (4 * kd - 4 + (w + 1)) from nI_inc _) rfl ?_
    refine R_goto (pc := 342) (t := 325) dL_isReport_342 (by decide) ?_
    exact rp_zero h0 hk hy hX n (w + 1) _ _ _ (by omega) (zwS_st hg h0) (wx.wr (show ¬ 0 = 9 by omega) hy)
theorem rp_317 {i kd N y : Nat} {g0 : Nat → Int32} {cc o6 o8 : Option Value} (k : OKS S) (hi : i < lU S.1) (h0 : 0 < kd) (hk : kd ≤ 4) (hy : K0.2.1 ≤ y) (wx : Wx sA gs x Y K0 F0 s1 s2 t1 t2 (gAt y (.inl (0, 20, .inl g0))) S [] (h, z)) (hX : ∀ (h' : Nat → Option am_C) (z' : Nat × Nat) (g' : Nat → Int32) (o6 o7 o8 : Option Value), (∀ j, j < 20 → g' j = lwS kd (fun j => S.1 (1305 + 9 * i + j)) g0 j) → Wx sA gs x Y K0 F0 s1 s2 t1 t2 (gAt y (.inl (0, 20, .inl g'))) S [] (h', z') → Rn sA mL_isReport 389 [some (.ref x), some (.int (nI N)), some (.ref y), cc, some (.int (nI i)), some (.int (nI kd)), o6, o7, o8] [] (h', z') Q) : Rn sA mL_isReport 317 [some (.ref x), some (.int (nI N)), some (.ref y), cc, some (.int (nI i)), some (.int (nI kd)), o6, some (.int (nI 1)), o8] [] (h, z) Q := by
  refine R_iconst (pc := 317) (x := nI 4) dL_isReport_317 rfl ?_
  refine R_iload (pc := 318) dL_isReport_318 rfl ?_
  refine R_imul (pc := 320) dL_isReport_320 ?_
  refine R_iconst (pc := 321) (x := nI 4) dL_isReport_321 rfl ?_
  refine R_isub (pc := 322) dL_isReport_322 ?_
  rw [pk_mul, pk_sub (by omega)]
  refine R_istore (pc := 323) dL_isReport_323 (Nat.le_of_ble_eq_true rfl) rfl ?_
  refine rp_zero (g0 := g0) h0 hk hy (fun h1 z1 g1 e1 w1 => ?_) 4 0 _ _ g0 (by omega) (fun j hj => (if_neg (by omega)).symm) wx
  refine R_iconst (pc := 345) (x := nI 0) dL_isReport_345 rfl ?_
  refine R_istore (pc := 346) dL_isReport_346 (Nat.le_of_ble_eq_true rfl) rfl ?_
  exact rp_add (g0 := g1) k hi hk hy (fun h2 z2 g2 e2 w2 => hX h2 z2 g2 _ _ _ (lwS_k h0 e1 e2) w2) 4 0 _ _ g1 (by omega) (fun j hj => (if_neg (by omega)).symm) w1
theorem rp_345 {i N y : Nat} {g0 : Nat → Int32} {cc o6 o7 o8 : Option Value} (k : OKS S) (hi : i < lU S.1) (hy : K0.2.1 ≤ y) (wx : Wx sA gs x Y K0 F0 s1 s2 t1 t2 (gAt y (.inl (0, 20, .inl g0))) S [] (h, z)) (hX : ∀ (h' : Nat → Option am_C) (z' : Nat × Nat) (g' : Nat → Int32) (o6 o7 o8 : Option Value), (∀ j, j < 20 → g' j = lwS 0 (fun j => S.1 (1305 + 9 * i + j)) g0 j) → Wx sA gs x Y K0 F0 s1 s2 t1 t2 (gAt y (.inl (0, 20, .inl g'))) S [] (h', z') → Rn sA mL_isReport 389 [some (.ref x), some (.int (nI N)), some (.ref y), cc, some (.int (nI i)), some (.int (nI 0)), o6, o7, o8] [] (h', z') Q) : Rn sA mL_isReport 345 [some (.ref x), some (.int (nI N)), some (.ref y), cc, some (.int (nI i)), some (.int (nI 0)), o6, o7, o8] [] (h, z) Q := by
  refine R_iconst (pc := 345) (x := nI 0) dL_isReport_345 rfl ?_
  refine R_istore (pc := 346) dL_isReport_346 (Nat.le_of_ble_eq_true rfl) rfl ?_
  exact rp_add (g0 := g0) (kd := 0) k hi (by omega) hy (fun h2 z2 g2 e2 w2 => hX h2 z2 g2 _ _ _ (lwS_0 e2) w2) 4 0 _ _ g0 (by omega) (fun j hj => (if_neg (by omega)).symm) wx
theorem rp_k1 {i N y : Nat} {g : Nat → Int32} {G : Nat → Int32} {cc o6 o7 o8 : Option Value} (k : OKS S) (hi : i < lU S.1) (hok : okL 1 (fun j => S.1 (1305 + 9 * i + j)) G) (hg : ∀ j, j < 20 → g j = G j) (wx : Wx sA gs x Y K0 F0 s1 s2 t1 t2 (gAt y (.inl (0, 20, .inl g))) S [] (h, z)) (hX : ∀ (h' : Nat → Option am_C) (z' : Nat × Nat) (o6 : Option Value), Wx sA gs x Y K0 F0 s1 s2 t1 t2 (gAt y (.inl (0, 20, .inl g))) S [] (h', z') → Rn sA mL_isReport 317 [some (.ref x), some (.int (nI N)), some (.ref y), cc, some (.int (nI i)), some (.int (nI 1)), o6, some (.int (nI 1)), o8] [] (h', z') Q) : Rn sA mL_isReport 125 [some (.ref x), some (.int (nI N)), some (.ref y), cc, some (.int (nI i)), some (.int (nI 1)), o6, o7, o8] [] (h, z) Q := by
  obtain ⟨-, hb⟩ := hok
  obtain ⟨b4, b5, b6, b7, b8, b3, b1⟩ := hb (by omega)
  have e4 : S.1 (1305 + 9 * i + 4) = g 0 := b4.trans (hg 0 (by omega)).symm
  have e5 : S.1 (1305 + 9 * i + 5) = g 1 := b5.trans (hg 1 (by omega)).symm
  have e6 : S.1 (1305 + 9 * i + 6) = g 2 + S.1 (1305 + 9 * i + 7) := by rw [hg 2 (by omega)]; exact b6
  have e8 : S.1 (1305 + 9 * i + 8) = (-1000009) := b8
  have e3 : ¬ S.1 (1305 + 9 * i + 3) = (-1000009) := fun q => absurd (b3.mp q) (by omega)
  have e1 : ¬ S.1 (1305 + 9 * i + 1) = (-1000009) := fun q => absurd (b1.mp q) (by omega)
  refine R_iload (pc := 125) dL_isReport_125 rfl ?_
  refine R_iconst (pc := 127) (x := nI 1) dL_isReport_127 rfl ?_
  refine R_icmp_ne (pc := 128) (t := 142) dL_isReport_128 (by decide) (fun hz9 => absurd rfl hz9) (fun _ => ?_)
  refine R_aload_n (pc := 131) dL_isReport_131 rfl ?_
  refine R_iload (pc := 132) dL_isReport_132 rfl ?_
  refine R_bipush (pc := 134) (x := nI 7) dL_isReport_134 (by decide) ?_
  refine R_callV (pc := 136) dL_isReport_136 rfl wx.cls.choose_spec rfl rfl ?_
  refine o_line wx k hi (by omega) (fun h1 z1 w1 => ?_)
  refine R_goto (pc := 139) (t := 143) dL_isReport_139 (by decide) ?_
  refine R_istore (pc := 143) dL_isReport_143 (Nat.le_of_ble_eq_true rfl) rfl ?_
  refine R_aload_n (pc := 145) dL_isReport_145 rfl ?_
  refine R_iload (pc := 146) dL_isReport_146 rfl ?_
  refine R_iconst (pc := 148) (x := nI 4) dL_isReport_148 rfl ?_
  refine R_callV (pc := 149) dL_isReport_149 rfl w1.cls.choose_spec rfl rfl ?_
  refine o_line w1 k hi (by omega) (fun h2 z2 w2 => ?_)
  refine R_aload_n (pc := 152) dL_isReport_152 rfl ?_
  refine R_iconst (pc := 153) (x := nI 4) dL_isReport_153 rfl ?_
  refine R_iload (pc := 154) dL_isReport_154 rfl ?_
  refine R_imul (pc := 156) dL_isReport_156 ?_
  refine R_iconst (pc := 157) (x := nI 4) dL_isReport_157 rfl ?_
  refine R_isub (pc := 158) dL_isReport_158 ?_
  refine R_iald (pc := 159) dL_isReport_159 w2.at (Or.inl rfl) (show nI 4 * nI 1 - nI 4 = nI 0 from by decide) (by omega) (by decide) ?_
  refine R_icmp_ne (pc := 160) (t := 245) dL_isReport_160 (by decide) (fun hz9 => absurd e4 hz9) (fun _ => ?_)
  refine R_aload_n (pc := 163) dL_isReport_163 rfl ?_
  refine R_iload (pc := 164) dL_isReport_164 rfl ?_
  refine R_iconst (pc := 166) (x := nI 5) dL_isReport_166 rfl ?_
  refine R_callV (pc := 167) dL_isReport_167 rfl w2.cls.choose_spec rfl rfl ?_
  refine o_line w2 k hi (by omega) (fun h3 z3 w3 => ?_)
  refine R_aload_n (pc := 170) dL_isReport_170 rfl ?_
  refine R_iconst (pc := 171) (x := nI 4) dL_isReport_171 rfl ?_
  refine R_iload (pc := 172) dL_isReport_172 rfl ?_
  refine R_imul (pc := 174) dL_isReport_174 ?_
  refine R_iconst (pc := 175) (x := nI 3) dL_isReport_175 rfl ?_
  refine R_isub (pc := 176) dL_isReport_176 ?_
  refine R_iald (pc := 177) dL_isReport_177 w3.at (Or.inl rfl) (show nI 4 * nI 1 - nI 3 = nI 1 from by decide) (by omega) (by decide) ?_
  refine R_icmp_ne (pc := 178) (t := 245) dL_isReport_178 (by decide) (fun hz9 => absurd e5 hz9) (fun _ => ?_)
  refine R_aload_n (pc := 181) dL_isReport_181 rfl ?_
  refine R_iload (pc := 182) dL_isReport_182 rfl ?_
  refine R_bipush (pc := 184) (x := nI 6) dL_isReport_184 (by decide) ?_
  refine R_callV (pc := 186) dL_isReport_186 rfl w3.cls.choose_spec rfl rfl ?_
  refine o_line w3 k hi (by omega) (fun h4 z4 w4 => ?_)
  refine R_aload_n (pc := 189) dL_isReport_189 rfl ?_
  refine R_iconst (pc := 190) (x := nI 4) dL_isReport_190 rfl ?_
  refine R_iload (pc := 191) dL_isReport_191 rfl ?_
  refine R_imul (pc := 193) dL_isReport_193 ?_
  refine R_iconst (pc := 194) (x := nI 2) dL_isReport_194 rfl ?_
  refine R_isub (pc := 195) dL_isReport_195 ?_
  refine R_iald (pc := 196) dL_isReport_196 w4.at (Or.inl rfl) (show nI 4 * nI 1 - nI 2 = nI 2 from by decide) (by omega) (by decide) ?_
  refine R_iload (pc := 197) dL_isReport_197 rfl ?_
  refine R_iadd (pc := 199) dL_isReport_199 ?_
  refine R_icmp_ne (pc := 200) (t := 245) dL_isReport_200 (by decide) (fun hz9 => absurd e6 hz9) (fun _ => ?_)
  refine R_iload (pc := 203) dL_isReport_203 rfl ?_
  refine R_iconst (pc := 205) (x := nI 1) dL_isReport_205 rfl ?_
  refine R_icmp_eq (pc := 206) (t := 228) dL_isReport_206 (by decide) (fun _ => ?_) (fun hz9 => absurd rfl hz9)
  refine R_aload_n (pc := 228) dL_isReport_228 rfl ?_
  refine R_iload (pc := 229) dL_isReport_229 rfl ?_
  refine R_bipush (pc := 231) (x := nI 8) dL_isReport_231 (by decide) ?_
  refine R_callV (pc := 233) dL_isReport_233 rfl w4.cls.choose_spec rfl rfl ?_
  refine o_line w4 k hi (by omega) (fun h5 z5 w5 => ?_)
  refine R_ldc (pc := 236) (x := (-1000009)) dL_isReport_236 rfl ?_
  refine R_icmp_ne (pc := 238) (t := 245) dL_isReport_238 (by decide) (fun hz9 => absurd e8 hz9) (fun _ => ?_)
  refine R_iconst (pc := 241) (x := nI 1) dL_isReport_241 rfl ?_
  refine R_goto (pc := 242) (t := 246) dL_isReport_242 (by decide) ?_
  refine R_istore (pc := 246) dL_isReport_246 (Nat.le_of_ble_eq_true rfl) rfl ?_
  refine R_iload (pc := 248) dL_isReport_248 rfl ?_
  refine R_if_eq (pc := 250) (t := 315) dL_isReport_250 (by decide) (fun hz9 => absurd hz9 (by decide)) (fun _ => ?_)
  refine R_aload_n (pc := 253) dL_isReport_253 rfl ?_
  refine R_iload (pc := 254) dL_isReport_254 rfl ?_
  refine R_iconst (pc := 256) (x := nI 3) dL_isReport_256 rfl ?_
  refine R_callV (pc := 257) dL_isReport_257 rfl w5.cls.choose_spec rfl rfl ?_
  refine o_line w5 k hi (by omega) (fun h6 z6 w6 => ?_)
  refine R_ldc (pc := 260) (x := (-1000009)) dL_isReport_260 rfl ?_
  refine R_icmp_ne (pc := 262) (t := 269) dL_isReport_262 (by decide) (fun _ => ?_) (fun hz9 => absurd hz9 e3)
  refine R_iconst (pc := 269) (x := nI 0) dL_isReport_269 rfl ?_
  refine R_iload (pc := 270) dL_isReport_270 rfl ?_
  refine R_iconst (pc := 272) (x := nI 1) dL_isReport_272 rfl ?_
  refine R_icmp_le (pc := 273) (t := 280) dL_isReport_273 (by decide) (fun _ => ?_) (fun hz9 => absurd (by decide) hz9)
  refine R_iconst (pc := 280) (x := nI 0) dL_isReport_280 rfl ?_
  refine R_icmp_ne (pc := 281) (t := 315) dL_isReport_281 (by decide) (fun hz9 => absurd rfl hz9) (fun _ => ?_)
  refine R_aload_n (pc := 284) dL_isReport_284 rfl ?_
  refine R_iload (pc := 285) dL_isReport_285 rfl ?_
  refine R_iconst (pc := 287) (x := nI 1) dL_isReport_287 rfl ?_
  refine R_callV (pc := 288) dL_isReport_288 rfl w6.cls.choose_spec rfl rfl ?_
  refine o_line w6 k hi (by omega) (fun h7 z7 w7 => ?_)
  refine R_ldc (pc := 291) (x := (-1000009)) dL_isReport_291 rfl ?_
  refine R_icmp_ne (pc := 293) (t := 300) dL_isReport_293 (by decide) (fun _ => ?_) (fun hz9 => absurd hz9 e1)
  refine R_iconst (pc := 300) (x := nI 0) dL_isReport_300 rfl ?_
  refine R_iload (pc := 301) dL_isReport_301 rfl ?_
  refine R_iconst (pc := 303) (x := nI 3) dL_isReport_303 rfl ?_
  refine R_icmp_le (pc := 304) (t := 311) dL_isReport_304 (by decide) (fun _ => ?_) (fun hz9 => absurd (by decide) hz9)
  refine R_iconst (pc := 311) (x := nI 0) dL_isReport_311 rfl ?_
  refine R_icmp_eq (pc := 312) (t := 317) dL_isReport_312 (by decide) (fun _ => ?_) (fun hz9 => absurd rfl hz9)
  exact hX _ _ _ w7
theorem rp_k2 {i N y : Nat} {g : Nat → Int32} {G : Nat → Int32} {cc o6 o7 o8 : Option Value} (k : OKS S) (hi : i < lU S.1) (hok : okL 2 (fun j => S.1 (1305 + 9 * i + j)) G) (hg : ∀ j, j < 20 → g j = G j) (wx : Wx sA gs x Y K0 F0 s1 s2 t1 t2 (gAt y (.inl (0, 20, .inl g))) S [] (h, z)) (hX : ∀ (h' : Nat → Option am_C) (z' : Nat × Nat) (o6 : Option Value), Wx sA gs x Y K0 F0 s1 s2 t1 t2 (gAt y (.inl (0, 20, .inl g))) S [] (h', z') → Rn sA mL_isReport 317 [some (.ref x), some (.int (nI N)), some (.ref y), cc, some (.int (nI i)), some (.int (nI 2)), o6, some (.int (nI 1)), o8] [] (h', z') Q) : Rn sA mL_isReport 125 [some (.ref x), some (.int (nI N)), some (.ref y), cc, some (.int (nI i)), some (.int (nI 2)), o6, o7, o8] [] (h, z) Q := by
  obtain ⟨-, hb⟩ := hok
  obtain ⟨b4, b5, b6, b7, b8, b3, b1⟩ := hb (by omega)
  have e4 : S.1 (1305 + 9 * i + 4) = g 4 := b4.trans (hg 4 (by omega)).symm
  have e5 : S.1 (1305 + 9 * i + 5) = g 5 := b5.trans (hg 5 (by omega)).symm
  have e6 : S.1 (1305 + 9 * i + 6) = g 6 + nI 0 := by rw [hg 6 (by omega)]; exact b6
  have e7 : S.1 (1305 + 9 * i + 7) = g 7 := (b7 (by omega)).trans (hg 7 (by omega)).symm
  have e8 : S.1 (1305 + 9 * i + 8) = (-1000009) := b8
  have e3 : S.1 (1305 + 9 * i + 3) = (-1000009) := b3.mpr (by omega)
  have e1 : ¬ S.1 (1305 + 9 * i + 1) = (-1000009) := fun q => absurd (b1.mp q) (by omega)
  refine R_iload (pc := 125) dL_isReport_125 rfl ?_
  refine R_iconst (pc := 127) (x := nI 1) dL_isReport_127 rfl ?_
  refine R_icmp_ne (pc := 128) (t := 142) dL_isReport_128 (by decide) (fun _ => ?_) (fun hz9 => absurd hz9 (by decide))
  refine R_iconst (pc := 142) (x := nI 0) dL_isReport_142 rfl ?_
  refine R_istore (pc := 143) dL_isReport_143 (Nat.le_of_ble_eq_true rfl) rfl ?_
  refine R_aload_n (pc := 145) dL_isReport_145 rfl ?_
  refine R_iload (pc := 146) dL_isReport_146 rfl ?_
  refine R_iconst (pc := 148) (x := nI 4) dL_isReport_148 rfl ?_
  refine R_callV (pc := 149) dL_isReport_149 rfl wx.cls.choose_spec rfl rfl ?_
  refine o_line wx k hi (by omega) (fun h1 z1 w1 => ?_)
  refine R_aload_n (pc := 152) dL_isReport_152 rfl ?_
  refine R_iconst (pc := 153) (x := nI 4) dL_isReport_153 rfl ?_
  refine R_iload (pc := 154) dL_isReport_154 rfl ?_
  refine R_imul (pc := 156) dL_isReport_156 ?_
  refine R_iconst (pc := 157) (x := nI 4) dL_isReport_157 rfl ?_
  refine R_isub (pc := 158) dL_isReport_158 ?_
  refine R_iald (pc := 159) dL_isReport_159 w1.at (Or.inl rfl) (show nI 4 * nI 2 - nI 4 = nI 4 from by decide) (by omega) (by decide) ?_
  refine R_icmp_ne (pc := 160) (t := 245) dL_isReport_160 (by decide) (fun hz9 => absurd e4 hz9) (fun _ => ?_)
  refine R_aload_n (pc := 163) dL_isReport_163 rfl ?_
  refine R_iload (pc := 164) dL_isReport_164 rfl ?_
  refine R_iconst (pc := 166) (x := nI 5) dL_isReport_166 rfl ?_
  refine R_callV (pc := 167) dL_isReport_167 rfl w1.cls.choose_spec rfl rfl ?_
  refine o_line w1 k hi (by omega) (fun h2 z2 w2 => ?_)
  refine R_aload_n (pc := 170) dL_isReport_170 rfl ?_
  refine R_iconst (pc := 171) (x := nI 4) dL_isReport_171 rfl ?_
  refine R_iload (pc := 172) dL_isReport_172 rfl ?_
  refine R_imul (pc := 174) dL_isReport_174 ?_
  refine R_iconst (pc := 175) (x := nI 3) dL_isReport_175 rfl ?_
  refine R_isub (pc := 176) dL_isReport_176 ?_
  refine R_iald (pc := 177) dL_isReport_177 w2.at (Or.inl rfl) (show nI 4 * nI 2 - nI 3 = nI 5 from by decide) (by omega) (by decide) ?_
  refine R_icmp_ne (pc := 178) (t := 245) dL_isReport_178 (by decide) (fun hz9 => absurd e5 hz9) (fun _ => ?_)
  refine R_aload_n (pc := 181) dL_isReport_181 rfl ?_
  refine R_iload (pc := 182) dL_isReport_182 rfl ?_
  refine R_bipush (pc := 184) (x := nI 6) dL_isReport_184 (by decide) ?_
  refine R_callV (pc := 186) dL_isReport_186 rfl w2.cls.choose_spec rfl rfl ?_
  refine o_line w2 k hi (by omega) (fun h3 z3 w3 => ?_)
  refine R_aload_n (pc := 189) dL_isReport_189 rfl ?_
  refine R_iconst (pc := 190) (x := nI 4) dL_isReport_190 rfl ?_
  refine R_iload (pc := 191) dL_isReport_191 rfl ?_
  refine R_imul (pc := 193) dL_isReport_193 ?_
  refine R_iconst (pc := 194) (x := nI 2) dL_isReport_194 rfl ?_
  refine R_isub (pc := 195) dL_isReport_195 ?_
  refine R_iald (pc := 196) dL_isReport_196 w3.at (Or.inl rfl) (show nI 4 * nI 2 - nI 2 = nI 6 from by decide) (by omega) (by decide) ?_
  refine R_iload (pc := 197) dL_isReport_197 rfl ?_
  refine R_iadd (pc := 199) dL_isReport_199 ?_
  refine R_icmp_ne (pc := 200) (t := 245) dL_isReport_200 (by decide) (fun hz9 => absurd e6 hz9) (fun _ => ?_)
  refine R_iload (pc := 203) dL_isReport_203 rfl ?_
  refine R_iconst (pc := 205) (x := nI 1) dL_isReport_205 rfl ?_
  refine R_icmp_eq (pc := 206) (t := 228) dL_isReport_206 (by decide) (fun hz9 => absurd hz9 (by decide)) (fun _ => ?_)
  refine R_aload_n (pc := 209) dL_isReport_209 rfl ?_
  refine R_iload (pc := 210) dL_isReport_210 rfl ?_
  refine R_bipush (pc := 212) (x := nI 7) dL_isReport_212 (by decide) ?_
  refine R_callV (pc := 214) dL_isReport_214 rfl w3.cls.choose_spec rfl rfl ?_
  refine o_line w3 k hi (by omega) (fun h4 z4 w4 => ?_)
  refine R_aload_n (pc := 217) dL_isReport_217 rfl ?_
  refine R_iconst (pc := 218) (x := nI 4) dL_isReport_218 rfl ?_
  refine R_iload (pc := 219) dL_isReport_219 rfl ?_
  refine R_imul (pc := 221) dL_isReport_221 ?_
  refine R_iconst (pc := 222) (x := nI 1) dL_isReport_222 rfl ?_
  refine R_isub (pc := 223) dL_isReport_223 ?_
  refine R_iald (pc := 224) dL_isReport_224 w4.at (Or.inl rfl) (show nI 4 * nI 2 - nI 1 = nI 7 from by decide) (by omega) (by decide) ?_
  refine R_icmp_ne (pc := 225) (t := 245) dL_isReport_225 (by decide) (fun hz9 => absurd e7 hz9) (fun _ => ?_)
  refine R_aload_n (pc := 228) dL_isReport_228 rfl ?_
  refine R_iload (pc := 229) dL_isReport_229 rfl ?_
  refine R_bipush (pc := 231) (x := nI 8) dL_isReport_231 (by decide) ?_
  refine R_callV (pc := 233) dL_isReport_233 rfl w4.cls.choose_spec rfl rfl ?_
  refine o_line w4 k hi (by omega) (fun h5 z5 w5 => ?_)
  refine R_ldc (pc := 236) (x := (-1000009)) dL_isReport_236 rfl ?_
  refine R_icmp_ne (pc := 238) (t := 245) dL_isReport_238 (by decide) (fun hz9 => absurd e8 hz9) (fun _ => ?_)
  refine R_iconst (pc := 241) (x := nI 1) dL_isReport_241 rfl ?_
  refine R_goto (pc := 242) (t := 246) dL_isReport_242 (by decide) ?_
  refine R_istore (pc := 246) dL_isReport_246 (Nat.le_of_ble_eq_true rfl) rfl ?_
  refine R_iload (pc := 248) dL_isReport_248 rfl ?_
  refine R_if_eq (pc := 250) (t := 315) dL_isReport_250 (by decide) (fun hz9 => absurd hz9 (by decide)) (fun _ => ?_)
  refine R_aload_n (pc := 253) dL_isReport_253 rfl ?_
  refine R_iload (pc := 254) dL_isReport_254 rfl ?_
  refine R_iconst (pc := 256) (x := nI 3) dL_isReport_256 rfl ?_
  refine R_callV (pc := 257) dL_isReport_257 rfl w5.cls.choose_spec rfl rfl ?_
  refine o_line w5 k hi (by omega) (fun h6 z6 w6 => ?_)
  refine R_ldc (pc := 260) (x := (-1000009)) dL_isReport_260 rfl ?_
  refine R_icmp_ne (pc := 262) (t := 269) dL_isReport_262 (by decide) (fun hz9 => absurd e3 hz9) (fun _ => ?_)
  refine R_iconst (pc := 265) (x := nI 1) dL_isReport_265 rfl ?_
  refine R_goto (pc := 266) (t := 270) dL_isReport_266 (by decide) ?_
  refine R_iload (pc := 270) dL_isReport_270 rfl ?_
  refine R_iconst (pc := 272) (x := nI 1) dL_isReport_272 rfl ?_
  refine R_icmp_le (pc := 273) (t := 280) dL_isReport_273 (by decide) (fun hz9 => absurd hz9 (by decide)) (fun _ => ?_)
  refine R_iconst (pc := 276) (x := nI 1) dL_isReport_276 rfl ?_
  refine R_goto (pc := 277) (t := 281) dL_isReport_277 (by decide) ?_
  refine R_icmp_ne (pc := 281) (t := 315) dL_isReport_281 (by decide) (fun hz9 => absurd rfl hz9) (fun _ => ?_)
  refine R_aload_n (pc := 284) dL_isReport_284 rfl ?_
  refine R_iload (pc := 285) dL_isReport_285 rfl ?_
  refine R_iconst (pc := 287) (x := nI 1) dL_isReport_287 rfl ?_
  refine R_callV (pc := 288) dL_isReport_288 rfl w6.cls.choose_spec rfl rfl ?_
  refine o_line w6 k hi (by omega) (fun h7 z7 w7 => ?_)
  refine R_ldc (pc := 291) (x := (-1000009)) dL_isReport_291 rfl ?_
  refine R_icmp_ne (pc := 293) (t := 300) dL_isReport_293 (by decide) (fun _ => ?_) (fun hz9 => absurd hz9 e1)
  refine R_iconst (pc := 300) (x := nI 0) dL_isReport_300 rfl ?_
  refine R_iload (pc := 301) dL_isReport_301 rfl ?_
  refine R_iconst (pc := 303) (x := nI 3) dL_isReport_303 rfl ?_
  refine R_icmp_le (pc := 304) (t := 311) dL_isReport_304 (by decide) (fun _ => ?_) (fun hz9 => absurd (by decide) hz9)
  refine R_iconst (pc := 311) (x := nI 0) dL_isReport_311 rfl ?_
  refine R_icmp_eq (pc := 312) (t := 317) dL_isReport_312 (by decide) (fun _ => ?_) (fun hz9 => absurd rfl hz9)
  exact hX _ _ _ w7
theorem rp_k3 {i N y : Nat} {g : Nat → Int32} {G : Nat → Int32} {cc o6 o7 o8 : Option Value} (k : OKS S) (hi : i < lU S.1) (hok : okL 3 (fun j => S.1 (1305 + 9 * i + j)) G) (hg : ∀ j, j < 20 → g j = G j) (wx : Wx sA gs x Y K0 F0 s1 s2 t1 t2 (gAt y (.inl (0, 20, .inl g))) S [] (h, z)) (hX : ∀ (h' : Nat → Option am_C) (z' : Nat × Nat) (o6 : Option Value), Wx sA gs x Y K0 F0 s1 s2 t1 t2 (gAt y (.inl (0, 20, .inl g))) S [] (h', z') → Rn sA mL_isReport 317 [some (.ref x), some (.int (nI N)), some (.ref y), cc, some (.int (nI i)), some (.int (nI 3)), o6, some (.int (nI 1)), o8] [] (h', z') Q) : Rn sA mL_isReport 125 [some (.ref x), some (.int (nI N)), some (.ref y), cc, some (.int (nI i)), some (.int (nI 3)), o6, o7, o8] [] (h, z) Q := by
  obtain ⟨-, hb⟩ := hok
  obtain ⟨b4, b5, b6, b7, b8, b3, b1⟩ := hb (by omega)
  have e4 : S.1 (1305 + 9 * i + 4) = g 8 := b4.trans (hg 8 (by omega)).symm
  have e5 : S.1 (1305 + 9 * i + 5) = g 9 := b5.trans (hg 9 (by omega)).symm
  have e6 : S.1 (1305 + 9 * i + 6) = g 10 + nI 0 := by rw [hg 10 (by omega)]; exact b6
  have e7 : S.1 (1305 + 9 * i + 7) = g 11 := (b7 (by omega)).trans (hg 11 (by omega)).symm
  have e8 : S.1 (1305 + 9 * i + 8) = (-1000009) := b8
  have e3 : S.1 (1305 + 9 * i + 3) = (-1000009) := b3.mpr (by omega)
  have e1 : ¬ S.1 (1305 + 9 * i + 1) = (-1000009) := fun q => absurd (b1.mp q) (by omega)
  refine R_iload (pc := 125) dL_isReport_125 rfl ?_
  refine R_iconst (pc := 127) (x := nI 1) dL_isReport_127 rfl ?_
  refine R_icmp_ne (pc := 128) (t := 142) dL_isReport_128 (by decide) (fun _ => ?_) (fun hz9 => absurd hz9 (by decide))
  refine R_iconst (pc := 142) (x := nI 0) dL_isReport_142 rfl ?_
  refine R_istore (pc := 143) dL_isReport_143 (Nat.le_of_ble_eq_true rfl) rfl ?_
  refine R_aload_n (pc := 145) dL_isReport_145 rfl ?_
  refine R_iload (pc := 146) dL_isReport_146 rfl ?_
  refine R_iconst (pc := 148) (x := nI 4) dL_isReport_148 rfl ?_
  refine R_callV (pc := 149) dL_isReport_149 rfl wx.cls.choose_spec rfl rfl ?_
  refine o_line wx k hi (by omega) (fun h1 z1 w1 => ?_)
  refine R_aload_n (pc := 152) dL_isReport_152 rfl ?_
  refine R_iconst (pc := 153) (x := nI 4) dL_isReport_153 rfl ?_
  refine R_iload (pc := 154) dL_isReport_154 rfl ?_
  refine R_imul (pc := 156) dL_isReport_156 ?_
  refine R_iconst (pc := 157) (x := nI 4) dL_isReport_157 rfl ?_
  refine R_isub (pc := 158) dL_isReport_158 ?_
  refine R_iald (pc := 159) dL_isReport_159 w1.at (Or.inl rfl) (show nI 4 * nI 3 - nI 4 = nI 8 from by decide) (by omega) (by decide) ?_
  refine R_icmp_ne (pc := 160) (t := 245) dL_isReport_160 (by decide) (fun hz9 => absurd e4 hz9) (fun _ => ?_)
  refine R_aload_n (pc := 163) dL_isReport_163 rfl ?_
  refine R_iload (pc := 164) dL_isReport_164 rfl ?_
  refine R_iconst (pc := 166) (x := nI 5) dL_isReport_166 rfl ?_
  refine R_callV (pc := 167) dL_isReport_167 rfl w1.cls.choose_spec rfl rfl ?_
  refine o_line w1 k hi (by omega) (fun h2 z2 w2 => ?_)
  refine R_aload_n (pc := 170) dL_isReport_170 rfl ?_
  refine R_iconst (pc := 171) (x := nI 4) dL_isReport_171 rfl ?_
  refine R_iload (pc := 172) dL_isReport_172 rfl ?_
  refine R_imul (pc := 174) dL_isReport_174 ?_
  refine R_iconst (pc := 175) (x := nI 3) dL_isReport_175 rfl ?_
  refine R_isub (pc := 176) dL_isReport_176 ?_
  refine R_iald (pc := 177) dL_isReport_177 w2.at (Or.inl rfl) (show nI 4 * nI 3 - nI 3 = nI 9 from by decide) (by omega) (by decide) ?_
  refine R_icmp_ne (pc := 178) (t := 245) dL_isReport_178 (by decide) (fun hz9 => absurd e5 hz9) (fun _ => ?_)
  refine R_aload_n (pc := 181) dL_isReport_181 rfl ?_
  refine R_iload (pc := 182) dL_isReport_182 rfl ?_
  refine R_bipush (pc := 184) (x := nI 6) dL_isReport_184 (by decide) ?_
  refine R_callV (pc := 186) dL_isReport_186 rfl w2.cls.choose_spec rfl rfl ?_
  refine o_line w2 k hi (by omega) (fun h3 z3 w3 => ?_)
  refine R_aload_n (pc := 189) dL_isReport_189 rfl ?_
  refine R_iconst (pc := 190) (x := nI 4) dL_isReport_190 rfl ?_
  refine R_iload (pc := 191) dL_isReport_191 rfl ?_
  refine R_imul (pc := 193) dL_isReport_193 ?_
  refine R_iconst (pc := 194) (x := nI 2) dL_isReport_194 rfl ?_
  refine R_isub (pc := 195) dL_isReport_195 ?_
  refine R_iald (pc := 196) dL_isReport_196 w3.at (Or.inl rfl) (show nI 4 * nI 3 - nI 2 = nI 10 from by decide) (by omega) (by decide) ?_
  refine R_iload (pc := 197) dL_isReport_197 rfl ?_
  refine R_iadd (pc := 199) dL_isReport_199 ?_
  refine R_icmp_ne (pc := 200) (t := 245) dL_isReport_200 (by decide) (fun hz9 => absurd e6 hz9) (fun _ => ?_)
  refine R_iload (pc := 203) dL_isReport_203 rfl ?_
  refine R_iconst (pc := 205) (x := nI 1) dL_isReport_205 rfl ?_
  refine R_icmp_eq (pc := 206) (t := 228) dL_isReport_206 (by decide) (fun hz9 => absurd hz9 (by decide)) (fun _ => ?_)
  refine R_aload_n (pc := 209) dL_isReport_209 rfl ?_
  refine R_iload (pc := 210) dL_isReport_210 rfl ?_
  refine R_bipush (pc := 212) (x := nI 7) dL_isReport_212 (by decide) ?_
  refine R_callV (pc := 214) dL_isReport_214 rfl w3.cls.choose_spec rfl rfl ?_
  refine o_line w3 k hi (by omega) (fun h4 z4 w4 => ?_)
  refine R_aload_n (pc := 217) dL_isReport_217 rfl ?_
  refine R_iconst (pc := 218) (x := nI 4) dL_isReport_218 rfl ?_
  refine R_iload (pc := 219) dL_isReport_219 rfl ?_
  refine R_imul (pc := 221) dL_isReport_221 ?_
  refine R_iconst (pc := 222) (x := nI 1) dL_isReport_222 rfl ?_
  refine R_isub (pc := 223) dL_isReport_223 ?_
  refine R_iald (pc := 224) dL_isReport_224 w4.at (Or.inl rfl) (show nI 4 * nI 3 - nI 1 = nI 11 from by decide) (by omega) (by decide) ?_
  refine R_icmp_ne (pc := 225) (t := 245) dL_isReport_225 (by decide) (fun hz9 => absurd e7 hz9) (fun _ => ?_)
  refine R_aload_n (pc := 228) dL_isReport_228 rfl ?_
  refine R_iload (pc := 229) dL_isReport_229 rfl ?_
  refine R_bipush (pc := 231) (x := nI 8) dL_isReport_231 (by decide) ?_
  refine R_callV (pc := 233) dL_isReport_233 rfl w4.cls.choose_spec rfl rfl ?_
  refine o_line w4 k hi (by omega) (fun h5 z5 w5 => ?_)
  refine R_ldc (pc := 236) (x := (-1000009)) dL_isReport_236 rfl ?_
  refine R_icmp_ne (pc := 238) (t := 245) dL_isReport_238 (by decide) (fun hz9 => absurd e8 hz9) (fun _ => ?_)
  refine R_iconst (pc := 241) (x := nI 1) dL_isReport_241 rfl ?_
  refine R_goto (pc := 242) (t := 246) dL_isReport_242 (by decide) ?_
  refine R_istore (pc := 246) dL_isReport_246 (Nat.le_of_ble_eq_true rfl) rfl ?_
  refine R_iload (pc := 248) dL_isReport_248 rfl ?_
  refine R_if_eq (pc := 250) (t := 315) dL_isReport_250 (by decide) (fun hz9 => absurd hz9 (by decide)) (fun _ => ?_)
  refine R_aload_n (pc := 253) dL_isReport_253 rfl ?_
  refine R_iload (pc := 254) dL_isReport_254 rfl ?_
  refine R_iconst (pc := 256) (x := nI 3) dL_isReport_256 rfl ?_
  refine R_callV (pc := 257) dL_isReport_257 rfl w5.cls.choose_spec rfl rfl ?_
  refine o_line w5 k hi (by omega) (fun h6 z6 w6 => ?_)
  refine R_ldc (pc := 260) (x := (-1000009)) dL_isReport_260 rfl ?_
  refine R_icmp_ne (pc := 262) (t := 269) dL_isReport_262 (by decide) (fun hz9 => absurd e3 hz9) (fun _ => ?_)
  refine R_iconst (pc := 265) (x := nI 1) dL_isReport_265 rfl ?_
  refine R_goto (pc := 266) (t := 270) dL_isReport_266 (by decide) ?_
  refine R_iload (pc := 270) dL_isReport_270 rfl ?_
  refine R_iconst (pc := 272) (x := nI 1) dL_isReport_272 rfl ?_
  refine R_icmp_le (pc := 273) (t := 280) dL_isReport_273 (by decide) (fun hz9 => absurd hz9 (by decide)) (fun _ => ?_)
  refine R_iconst (pc := 276) (x := nI 1) dL_isReport_276 rfl ?_
  refine R_goto (pc := 277) (t := 281) dL_isReport_277 (by decide) ?_
  refine R_icmp_ne (pc := 281) (t := 315) dL_isReport_281 (by decide) (fun hz9 => absurd rfl hz9) (fun _ => ?_)
  refine R_aload_n (pc := 284) dL_isReport_284 rfl ?_
  refine R_iload (pc := 285) dL_isReport_285 rfl ?_
  refine R_iconst (pc := 287) (x := nI 1) dL_isReport_287 rfl ?_
  refine R_callV (pc := 288) dL_isReport_288 rfl w6.cls.choose_spec rfl rfl ?_
  refine o_line w6 k hi (by omega) (fun h7 z7 w7 => ?_)
  refine R_ldc (pc := 291) (x := (-1000009)) dL_isReport_291 rfl ?_
  refine R_icmp_ne (pc := 293) (t := 300) dL_isReport_293 (by decide) (fun _ => ?_) (fun hz9 => absurd hz9 e1)
  refine R_iconst (pc := 300) (x := nI 0) dL_isReport_300 rfl ?_
  refine R_iload (pc := 301) dL_isReport_301 rfl ?_
  refine R_iconst (pc := 303) (x := nI 3) dL_isReport_303 rfl ?_
  refine R_icmp_le (pc := 304) (t := 311) dL_isReport_304 (by decide) (fun _ => ?_) (fun hz9 => absurd (by decide) hz9)
  refine R_iconst (pc := 311) (x := nI 0) dL_isReport_311 rfl ?_
  refine R_icmp_eq (pc := 312) (t := 317) dL_isReport_312 (by decide) (fun _ => ?_) (fun hz9 => absurd rfl hz9)
  exact hX _ _ _ w7
theorem rp_k4 {i N y : Nat} {g : Nat → Int32} {G : Nat → Int32} {cc o6 o7 o8 : Option Value} (k : OKS S) (hi : i < lU S.1) (hok : okL 4 (fun j => S.1 (1305 + 9 * i + j)) G) (hg : ∀ j, j < 20 → g j = G j) (wx : Wx sA gs x Y K0 F0 s1 s2 t1 t2 (gAt y (.inl (0, 20, .inl g))) S [] (h, z)) (hX : ∀ (h' : Nat → Option am_C) (z' : Nat × Nat) (o6 : Option Value), Wx sA gs x Y K0 F0 s1 s2 t1 t2 (gAt y (.inl (0, 20, .inl g))) S [] (h', z') → Rn sA mL_isReport 317 [some (.ref x), some (.int (nI N)), some (.ref y), cc, some (.int (nI i)), some (.int (nI 4)), o6, some (.int (nI 1)), o8] [] (h', z') Q) : Rn sA mL_isReport 125 [some (.ref x), some (.int (nI N)), some (.ref y), cc, some (.int (nI i)), some (.int (nI 4)), o6, o7, o8] [] (h, z) Q := by
  obtain ⟨-, hb⟩ := hok
  obtain ⟨b4, b5, b6, b7, b8, b3, b1⟩ := hb (by omega)
  have e4 : S.1 (1305 + 9 * i + 4) = g 12 := b4.trans (hg 12 (by omega)).symm
  have e5 : S.1 (1305 + 9 * i + 5) = g 13 := b5.trans (hg 13 (by omega)).symm
  have e6 : S.1 (1305 + 9 * i + 6) = g 14 + nI 0 := by rw [hg 14 (by omega)]; exact b6
  have e7 : S.1 (1305 + 9 * i + 7) = g 15 := (b7 (by omega)).trans (hg 15 (by omega)).symm
  have e8 : S.1 (1305 + 9 * i + 8) = (-1000009) := b8
  have e3 : S.1 (1305 + 9 * i + 3) = (-1000009) := b3.mpr (by omega)
  have e1 : S.1 (1305 + 9 * i + 1) = (-1000009) := b1.mpr (by omega)
  refine R_iload (pc := 125) dL_isReport_125 rfl ?_
  refine R_iconst (pc := 127) (x := nI 1) dL_isReport_127 rfl ?_
  refine R_icmp_ne (pc := 128) (t := 142) dL_isReport_128 (by decide) (fun _ => ?_) (fun hz9 => absurd hz9 (by decide))
  refine R_iconst (pc := 142) (x := nI 0) dL_isReport_142 rfl ?_
  refine R_istore (pc := 143) dL_isReport_143 (Nat.le_of_ble_eq_true rfl) rfl ?_
  refine R_aload_n (pc := 145) dL_isReport_145 rfl ?_
  refine R_iload (pc := 146) dL_isReport_146 rfl ?_
  refine R_iconst (pc := 148) (x := nI 4) dL_isReport_148 rfl ?_
  refine R_callV (pc := 149) dL_isReport_149 rfl wx.cls.choose_spec rfl rfl ?_
  refine o_line wx k hi (by omega) (fun h1 z1 w1 => ?_)
  refine R_aload_n (pc := 152) dL_isReport_152 rfl ?_
  refine R_iconst (pc := 153) (x := nI 4) dL_isReport_153 rfl ?_
  refine R_iload (pc := 154) dL_isReport_154 rfl ?_
  refine R_imul (pc := 156) dL_isReport_156 ?_
  refine R_iconst (pc := 157) (x := nI 4) dL_isReport_157 rfl ?_
  refine R_isub (pc := 158) dL_isReport_158 ?_
  refine R_iald (pc := 159) dL_isReport_159 w1.at (Or.inl rfl) (show nI 4 * nI 4 - nI 4 = nI 12 from by decide) (by omega) (by decide) ?_
  refine R_icmp_ne (pc := 160) (t := 245) dL_isReport_160 (by decide) (fun hz9 => absurd e4 hz9) (fun _ => ?_)
  refine R_aload_n (pc := 163) dL_isReport_163 rfl ?_
  refine R_iload (pc := 164) dL_isReport_164 rfl ?_
  refine R_iconst (pc := 166) (x := nI 5) dL_isReport_166 rfl ?_
  refine R_callV (pc := 167) dL_isReport_167 rfl w1.cls.choose_spec rfl rfl ?_
  refine o_line w1 k hi (by omega) (fun h2 z2 w2 => ?_)
  refine R_aload_n (pc := 170) dL_isReport_170 rfl ?_
  refine R_iconst (pc := 171) (x := nI 4) dL_isReport_171 rfl ?_
  refine R_iload (pc := 172) dL_isReport_172 rfl ?_
  refine R_imul (pc := 174) dL_isReport_174 ?_
  refine R_iconst (pc := 175) (x := nI 3) dL_isReport_175 rfl ?_
  refine R_isub (pc := 176) dL_isReport_176 ?_
  refine R_iald (pc := 177) dL_isReport_177 w2.at (Or.inl rfl) (show nI 4 * nI 4 - nI 3 = nI 13 from by decide) (by omega) (by decide) ?_
  refine R_icmp_ne (pc := 178) (t := 245) dL_isReport_178 (by decide) (fun hz9 => absurd e5 hz9) (fun _ => ?_)
  refine R_aload_n (pc := 181) dL_isReport_181 rfl ?_
  refine R_iload (pc := 182) dL_isReport_182 rfl ?_
  refine R_bipush (pc := 184) (x := nI 6) dL_isReport_184 (by decide) ?_
  refine R_callV (pc := 186) dL_isReport_186 rfl w2.cls.choose_spec rfl rfl ?_
  refine o_line w2 k hi (by omega) (fun h3 z3 w3 => ?_)
  refine R_aload_n (pc := 189) dL_isReport_189 rfl ?_
  refine R_iconst (pc := 190) (x := nI 4) dL_isReport_190 rfl ?_
  refine R_iload (pc := 191) dL_isReport_191 rfl ?_
  refine R_imul (pc := 193) dL_isReport_193 ?_
  refine R_iconst (pc := 194) (x := nI 2) dL_isReport_194 rfl ?_
  refine R_isub (pc := 195) dL_isReport_195 ?_
  refine R_iald (pc := 196) dL_isReport_196 w3.at (Or.inl rfl) (show nI 4 * nI 4 - nI 2 = nI 14 from by decide) (by omega) (by decide) ?_
  refine R_iload (pc := 197) dL_isReport_197 rfl ?_
  refine R_iadd (pc := 199) dL_isReport_199 ?_
  refine R_icmp_ne (pc := 200) (t := 245) dL_isReport_200 (by decide) (fun hz9 => absurd e6 hz9) (fun _ => ?_)
  refine R_iload (pc := 203) dL_isReport_203 rfl ?_
  refine R_iconst (pc := 205) (x := nI 1) dL_isReport_205 rfl ?_
  refine R_icmp_eq (pc := 206) (t := 228) dL_isReport_206 (by decide) (fun hz9 => absurd hz9 (by decide)) (fun _ => ?_)
  refine R_aload_n (pc := 209) dL_isReport_209 rfl ?_
  refine R_iload (pc := 210) dL_isReport_210 rfl ?_
  refine R_bipush (pc := 212) (x := nI 7) dL_isReport_212 (by decide) ?_
  refine R_callV (pc := 214) dL_isReport_214 rfl w3.cls.choose_spec rfl rfl ?_
  refine o_line w3 k hi (by omega) (fun h4 z4 w4 => ?_)
  refine R_aload_n (pc := 217) dL_isReport_217 rfl ?_
  refine R_iconst (pc := 218) (x := nI 4) dL_isReport_218 rfl ?_
  refine R_iload (pc := 219) dL_isReport_219 rfl ?_
  refine R_imul (pc := 221) dL_isReport_221 ?_
  refine R_iconst (pc := 222) (x := nI 1) dL_isReport_222 rfl ?_
  refine R_isub (pc := 223) dL_isReport_223 ?_
  refine R_iald (pc := 224) dL_isReport_224 w4.at (Or.inl rfl) (show nI 4 * nI 4 - nI 1 = nI 15 from by decide) (by omega) (by decide) ?_
  refine R_icmp_ne (pc := 225) (t := 245) dL_isReport_225 (by decide) (fun hz9 => absurd e7 hz9) (fun _ => ?_)
  refine R_aload_n (pc := 228) dL_isReport_228 rfl ?_
  refine R_iload (pc := 229) dL_isReport_229 rfl ?_
  refine R_bipush (pc := 231) (x := nI 8) dL_isReport_231 (by decide) ?_
  refine R_callV (pc := 233) dL_isReport_233 rfl w4.cls.choose_spec rfl rfl ?_
  refine o_line w4 k hi (by omega) (fun h5 z5 w5 => ?_)
  refine R_ldc (pc := 236) (x := (-1000009)) dL_isReport_236 rfl ?_
  refine R_icmp_ne (pc := 238) (t := 245) dL_isReport_238 (by decide) (fun hz9 => absurd e8 hz9) (fun _ => ?_)
  refine R_iconst (pc := 241) (x := nI 1) dL_isReport_241 rfl ?_
  refine R_goto (pc := 242) (t := 246) dL_isReport_242 (by decide) ?_
  refine R_istore (pc := 246) dL_isReport_246 (Nat.le_of_ble_eq_true rfl) rfl ?_
  refine R_iload (pc := 248) dL_isReport_248 rfl ?_
  refine R_if_eq (pc := 250) (t := 315) dL_isReport_250 (by decide) (fun hz9 => absurd hz9 (by decide)) (fun _ => ?_)
  refine R_aload_n (pc := 253) dL_isReport_253 rfl ?_
  refine R_iload (pc := 254) dL_isReport_254 rfl ?_
  refine R_iconst (pc := 256) (x := nI 3) dL_isReport_256 rfl ?_
  refine R_callV (pc := 257) dL_isReport_257 rfl w5.cls.choose_spec rfl rfl ?_
  refine o_line w5 k hi (by omega) (fun h6 z6 w6 => ?_)
  refine R_ldc (pc := 260) (x := (-1000009)) dL_isReport_260 rfl ?_
  refine R_icmp_ne (pc := 262) (t := 269) dL_isReport_262 (by decide) (fun hz9 => absurd e3 hz9) (fun _ => ?_)
  refine R_iconst (pc := 265) (x := nI 1) dL_isReport_265 rfl ?_
  refine R_goto (pc := 266) (t := 270) dL_isReport_266 (by decide) ?_
  refine R_iload (pc := 270) dL_isReport_270 rfl ?_
  refine R_iconst (pc := 272) (x := nI 1) dL_isReport_272 rfl ?_
  refine R_icmp_le (pc := 273) (t := 280) dL_isReport_273 (by decide) (fun hz9 => absurd hz9 (by decide)) (fun _ => ?_)
  refine R_iconst (pc := 276) (x := nI 1) dL_isReport_276 rfl ?_
  refine R_goto (pc := 277) (t := 281) dL_isReport_277 (by decide) ?_
  refine R_icmp_ne (pc := 281) (t := 315) dL_isReport_281 (by decide) (fun hz9 => absurd rfl hz9) (fun _ => ?_)
  refine R_aload_n (pc := 284) dL_isReport_284 rfl ?_
  refine R_iload (pc := 285) dL_isReport_285 rfl ?_
  refine R_iconst (pc := 287) (x := nI 1) dL_isReport_287 rfl ?_
  refine R_callV (pc := 288) dL_isReport_288 rfl w6.cls.choose_spec rfl rfl ?_
  refine o_line w6 k hi (by omega) (fun h7 z7 w7 => ?_)
  refine R_ldc (pc := 291) (x := (-1000009)) dL_isReport_291 rfl ?_
  refine R_icmp_ne (pc := 293) (t := 300) dL_isReport_293 (by decide) (fun hz9 => absurd e1 hz9) (fun _ => ?_)
  refine R_iconst (pc := 296) (x := nI 1) dL_isReport_296 rfl ?_
  refine R_goto (pc := 297) (t := 301) dL_isReport_297 (by decide) ?_
  refine R_iload (pc := 301) dL_isReport_301 rfl ?_
  refine R_iconst (pc := 303) (x := nI 3) dL_isReport_303 rfl ?_
  refine R_icmp_le (pc := 304) (t := 311) dL_isReport_304 (by decide) (fun hz9 => absurd hz9 (by decide)) (fun _ => ?_)
  refine R_iconst (pc := 307) (x := nI 1) dL_isReport_307 rfl ?_
  refine R_goto (pc := 308) (t := 312) dL_isReport_308 (by decide) ?_
  refine R_icmp_eq (pc := 312) (t := 317) dL_isReport_312 (by decide) (fun _ => ?_) (fun hz9 => absurd rfl hz9)
  exact hX _ _ _ w7
theorem rp_loop {N m y : Nat} {kd c : Nat → Nat} {G : Nat → Nat → Int32} (k : OKS S) (eN : lU S.1 = N + 1) (hN : N < 161) (hk40 : kU S.1 ≤ 40) (ra : RpA S.1 N m kd c G) (hy : K0.2.1 ≤ y) (hX : ∀ (h' : Nat → Option am_C) (z' : Nat × Nat) (g' : Nat → Int32) (o5 o6 o7 o8 : Option Value), (∀ j, j < 20 → g' j = G (N + 1) j) → Wx sA gs x Y K0 F0 s1 s2 t1 t2 (gAt y (.inl (0, 20, .inl g'))) S [] (h', z') → Rn sA mL_isReport 395 [some (.ref x), some (.int (nI (N + 1))), some (.ref y), some (.int (nI (c (N + 1)))), some (.int (nI (N + 1))), o5, o6, o7, o8] [] (h', z') Q) : ∀ (n i cc : Nat) (h : Nat → Option am_C) (z : Nat × Nat) (g : Nat → Int32) (o5 o6 o7 o8 : Option Value), i + n = N + 1 → cc = c i → (∀ j, j < 20 → g j = G i j) → Wx sA gs x Y K0 F0 s1 s2 t1 t2 (gAt y (.inl (0, 20, .inl g))) S [] (h, z) → Rn sA mL_isReport 62 [some (.ref x), some (.int (nI (N + 1))), some (.ref y), some (.int (nI cc)), some (.int (nI i)), o5, o6, o7, o8] [] (h, z) Q
  | 0, i, cc, h, z, g, o5, o6, o7, o8, hn, hcc, hg, wx => by
    obtain rfl : i = N + 1 := by omega
    subst hcc
    refine R_iload (pc := 62) dL_isReport_62 rfl ?_
    refine R_iload_n (pc := 64) dL_isReport_64 rfl ?_
    refine R_icmp_ge (pc := 65) (t := 395) dL_isReport_65 (by decide) (fun _ => ?_) (fun hz9 => absurd (Int32.le_refl _) hz9)
    exact hX h z g _ _ _ _ hg wx
  | n + 1, i, cc0, h, z, g, o5, o6, o7, o8, hn, hcc, hg, wx => by
    subst hcc
    obtain ⟨a1, a2, a3, a4, a5, a6⟩ := ra.2 i (by omega)
    obtain ⟨q, hq⟩ : ∃ q, q = kd i := ⟨_, rfl⟩
    rw [← hq] at a1 a2 a3 a4 a5 a6
    have hi : i < lU S.1 := by omega
    have nxt : ∀ (cc : Nat), cc = c (i + 1) → ∀ (h' : Nat → Option am_C) (z' : Nat × Nat) (g' : Nat → Int32) (o6 o7 o8 : Option Value), (∀ j, j < 20 → g' j = lwS q (fun j => S.1 (1305 + 9 * i + j)) g j) → Wx sA gs x Y K0 F0 s1 s2 t1 t2 (gAt y (.inl (0, 20, .inl g'))) S [] (h', z') → Rn sA mL_isReport 389 [some (.ref x), some (.int (nI (N + 1))), some (.ref y), some (.int (nI cc)), some (.int (nI i)), some (.int (nI q)), o6, o7, o8] [] (h', z') Q := by
      intro cc ec h' z' g' o6 o7 o8 e w
      subst ec
      refine R_iinc (pc := 389) dL_isReport_389 rfl (by first | exact nI_inc _ | rfl) rfl ?_
      refine R_goto (pc := 392) (t := 62) dL_isReport_392 (by decide) ?_
      refine rp_loop k eN hN hk40 ra hy hX n (i + 1) _ h' z' g' _ _ _ _ (by omega) rfl (fun j hj => ?_) w
      rw [e j hj, a4 j]
      unfold lwS
      rw [hg j hj]
    refine R_iload (pc := 62) dL_isReport_62 rfl ?_
    refine R_iload_n (pc := 64) dL_isReport_64 rfl ?_
    refine R_icmp_ge (pc := 65) (t := 395) dL_isReport_65 (by decide) (fun hz9 => absurd hz9 (nI_ge (by omega) (by omega))) (fun _ => ?_)
    refine R_aload_n (pc := 68) dL_isReport_68 rfl ?_
    refine R_iload (pc := 69) dL_isReport_69 rfl ?_
    refine R_iconst (pc := 71) (x := nI 0) dL_isReport_71 rfl ?_
    refine R_callV (pc := 72) dL_isReport_72 rfl wx.cls.choose_spec rfl rfl ?_
    refine o_line wx k hi (by omega) (fun h1 z1 w1 => ?_)
    rw [show S.1 (1305 + 9 * i + 0) = nI q from a2]
    refine R_istore (pc := 75) dL_isReport_75 (Nat.le_of_ble_eq_true rfl) rfl ?_
    refine R_iload (pc := 77) dL_isReport_77 rfl ?_
    refine R_if_ne (pc := 79) (t := 125) dL_isReport_79 (by decide) (fun h79 => ?_) (fun h79 => ?_)
    · have hq0 : ¬ q = 0 := nz_of h79
      rcases (by omega : q = 1 ∨ q = 2 ∨ q = 3 ∨ q = 4) with rfl | rfl | rfl | rfl
      · exact rp_k1 k hi a3 hg w1 (fun h2 z2 o6 w2 => rp_317 k hi (by omega) (by omega) hy w2 (fun h3 z3 g3 p6 p7 p8 e3 w3 => nxt (c i) (by rw [a5]; rfl) h3 z3 g3 p6 p7 p8 e3 w3))
      · exact rp_k2 k hi a3 hg w1 (fun h2 z2 o6 w2 => rp_317 k hi (by omega) (by omega) hy w2 (fun h3 z3 g3 p6 p7 p8 e3 w3 => nxt (c i) (by rw [a5]; rfl) h3 z3 g3 p6 p7 p8 e3 w3))
      · exact rp_k3 k hi a3 hg w1 (fun h2 z2 o6 w2 => rp_317 k hi (by omega) (by omega) hy w2 (fun h3 z3 g3 p6 p7 p8 e3 w3 => nxt (c i) (by rw [a5]; rfl) h3 z3 g3 p6 p7 p8 e3 w3))
      · exact rp_k4 k hi a3 hg w1 (fun h2 z2 o6 w2 => rp_317 k hi (by omega) (by omega) hy w2 (fun h3 z3 g3 p6 p7 p8 e3 w3 => nxt (c i) (by rw [a5]; rfl) h3 z3 g3 p6 p7 p8 e3 w3))
    · have hq0 : q = 0 := z_of h79 (by omega)
      subst hq0
      obtain ⟨t, t1, t2, t3⟩ := a6 rfl
      obtain ⟨f4, f7⟩ := a3.1 rfl
      refine R_iload_n (pc := 82) dL_isReport_82 rfl ?_
      refine R_iconst (pc := 83) (x := nI 1) dL_isReport_83 rfl ?_
      refine R_iadd (pc := 84) dL_isReport_84 ?_
      rw [nI_add]
      refine R_istore_n (pc := 85) dL_isReport_85 (Nat.le_of_ble_eq_true rfl) rfl ?_
      refine R_aload_n (pc := 86) dL_isReport_86 rfl ?_
      refine R_iload (pc := 87) dL_isReport_87 rfl ?_
      refine R_iconst (pc := 89) (x := nI 4) dL_isReport_89 rfl ?_
      refine R_callV (pc := 90) dL_isReport_90 rfl w1.cls.choose_spec rfl rfl ?_
      refine o_line w1 k hi (by omega) (fun h2 z2 w2 => ?_)
      refine R_iconst (pc := 93) (x := nI 1) dL_isReport_93 rfl ?_
      refine R_icmp_ne (pc := 94) (t := 123) dL_isReport_94 (by decide) (fun hz9 => absurd f4 hz9) (fun _ => ?_)
      refine R_aload_n (pc := 97) dL_isReport_97 rfl ?_
      refine R_iload (pc := 98) dL_isReport_98 rfl ?_
      refine R_bipush (pc := 100) (x := nI 7) dL_isReport_100 (by decide) ?_
      refine R_callV (pc := 102) dL_isReport_102 rfl w2.cls.choose_spec rfl rfl ?_
      refine o_line w2 k hi (by omega) (fun h3 z3 w3 => ?_)
      refine R_if_ne (pc := 105) (t := 123) dL_isReport_105 (by decide) (fun hz9 => absurd f7 hz9) (fun _ => ?_)
      refine R_aload_n (pc := 108) dL_isReport_108 rfl ?_
      refine R_aload_n (pc := 109) dL_isReport_109 rfl ?_
      refine R_iload (pc := 110) dL_isReport_110 rfl ?_
      refine R_bipush (pc := 112) (x := nI 8) dL_isReport_112 (by decide) ?_
      refine R_callV (pc := 114) dL_isReport_114 rfl w3.cls.choose_spec rfl rfl ?_
      refine o_line w3 k hi (by omega) (fun h4 z4 w4 => ?_)
      rw [show S.1 (1305 + 9 * i + 8) = nI t from t2]
      refine R_callV (pc := 117) dL_isReport_117 rfl w4.cls.choose_spec rfl rfl ?_
      refine o_reason w4 k t1 (fun h5 z5 w5 => ?_)
      refine R_if_eq (pc := 120) (t := 345) dL_isReport_120 (by decide) (fun _ => ?_) (fun hz9 => absurd t3 hz9)
      exact rp_345 k hi hy w5 (fun h6 z6 g6 p6 p7 p8 e6 w6 => nxt (c i + 1) (by rw [a5]; rfl) h6 z6 g6 p6 p7 p8 e6 w6)
theorem fcmp_n {v : UInt32} (hv : vf_n32 v) : Op.cmpValue (FP.fcmp v v) .l = 0 := by
  have h1 := dec32 (of_n32 hv)
  have e : FP.fcmp v v = some .eq := order_self h1
  rw [e]
  rfl
theorem no_rep {U : Nat → Int32} (k : OKU U) (h0 : lU U = 0) : U 1060 = 0 ∧ mU U = 0 := by
  obtain ⟨⟨-, m0, rep⟩, -, -⟩ := k
  have em : mU U = m0 := by unfold mU; rw [rep.1, cl_nI (by have := rep.2.1; omega)]
  rcases rep.2.2.2 with ⟨-, q1, q2⟩ | ⟨-, q, q1, q2, -⟩
  · exact ⟨q1, em.trans q2⟩
  · unfold lU at h0
    rw [q2, cl_nI (by omega)] at h0
    omega
theorem a_rep {U : Nat → Int32} {N : Nat} (k : OKU U) (eN : lU U = N + 1) : ¬ U 1060 = 0 ∧ U 1103 = nI (mU U) ∧ U (1305 + 9 * N + 4) = nI (mU U) ∧ U (1305 + 9 * N + 5) = sT (fun q => U (1104 + 5 * q + 3)) (mU U) := by
  obtain ⟨⟨-, m0, rep⟩, -, -⟩ := k
  have em : mU U = m0 := by unfold mU; rw [rep.1, cl_nI (by have := rep.2.1; omega)]
  rw [em]
  rcases rep.2.2.2 with ⟨q0, -, -⟩ | ⟨q0, q, q1, q2, -, -, q5, q6⟩
  · unfold lU at eN
    rw [q0, cl_nI (by omega)] at eN
    omega
  · unfold lU at eN
    rw [q2, cl_nI (by omega)] at eN
    obtain rfl : q = N := by omega
    exact ⟨q0, rep.1, q5, q6⟩
theorem l_isReport (w : Wx sA gs x Y K0 F0 s1 s2 t1 t2 gNo S [] (h, z)) (hz : K0.2.1 ≤ z.1) (k : OKS S) (kk : ∀ (h' : Nat → Option am_C) (z' : Nat × Nat) (y : Nat) (e : am_C), Wx sA gs x Y K0 F0 s1 s2 (t1 + 1) (t2 + 20) (gAt y e) S [] (h', z') → Q (some (.int (nI 1))) (h', z')) (kk0 : ∀ (h' : Nat → Option am_C) (z' : Nat × Nat), Wx sA gs x Y K0 F0 s1 s2 t1 t2 gNo S [] (h', z') → Q (some (.int (nI 1))) (h', z')) : Rn sA mL_isReport 0 [some (.ref x), none, none, none, none, none, none, none, none] [] (h, z) Q := by
  have nw := w.nw k
  obtain ⟨sc, sw, sA2, ⟨-, -, -, -, -, -, g0, g1, -⟩⟩ := snd_all k.1
  by_cases hl : lU S.1 = 0
  · have nr := no_rep k.1 hl
    refine R_aload_n (pc := 0) dL_isReport_0 rfl ?_
    refine R_iconst (pc := 1) (x := nI 1) dL_isReport_1 rfl ?_
    refine R_callV (pc := 2) dL_isReport_2 rfl w.cls.choose_spec rfl rfl ?_
    refine o_told (j := 1) w k (by omega) (fun h1 z1 w1 => ?_)
    rw [show toA S.1 1 = nI (lU S.1) from nw.2.2.1, hl]
    refine R_istore_n (pc := 5) dL_isReport_5 (Nat.le_of_ble_eq_true rfl) rfl ?_
    refine R_iload_n (pc := 6) dL_isReport_6 rfl ?_
    refine R_if_ne (pc := 7) (t := 52) dL_isReport_7 (by decide) (fun hz9 => absurd (show nI 0 = 0 from rfl) hz9) (fun _ => ?_)
    refine R_aload_n (pc := 10) dL_isReport_10 rfl ?_
    refine R_iconst (pc := 11) (x := nI 2) dL_isReport_11 rfl ?_
    refine R_callV (pc := 12) dL_isReport_12 rfl w1.cls.choose_spec rfl rfl ?_
    refine o_told (j := 2) w1 k (by omega) (fun h2 z2 w2 => ?_)
    rw [show toA S.1 2 = (-1000009) from if_pos nr.1]
    refine R_ldc (pc := 15) (x := (-1000009)) dL_isReport_15 rfl ?_
    refine R_icmp_ne (pc := 17) (t := 50) dL_isReport_17 (by decide) (fun hz9 => absurd rfl hz9) (fun _ => ?_)
    refine R_aload_n (pc := 20) dL_isReport_20 rfl ?_
    refine R_callV (pc := 21) dL_isReport_21 rfl w2.cls.choose_spec rfl rfl ?_
    refine o_agrees w2 k (fun h3 z3 w3 => ?_)
    rw [show agA S.1 = nI 1 from if_pos hl]
    refine R_iconst (pc := 24) (x := nI 1) dL_isReport_24 rfl ?_
    refine R_icmp_ne (pc := 25) (t := 50) dL_isReport_25 (by decide) (fun hz9 => absurd rfl hz9) (fun _ => ?_)
    refine R_aload_n (pc := 28) dL_isReport_28 rfl ?_
    refine R_callV (pc := 29) dL_isReport_29 rfl w3.cls.choose_spec rfl rfl ?_
    refine o_mean w3 k (fun h4 z4 w4 => ?_)
    rw [show meA S.1 = FP.fconst0 from if_pos hl]
    refine R_fconst0 (pc := 32) dL_isReport_32 ?_
    refine R_fcmp (pc := 33) dL_isReport_33 ?_
    refine R_if_ne (pc := 34) (t := 50) dL_isReport_34 (by decide) (fun hz9 => absurd (fcmp_n fc0_n32) hz9) (fun _ => ?_)
    refine R_aload_n (pc := 37) dL_isReport_37 rfl ?_
    refine R_iconst (pc := 38) (x := (-1)) dL_isReport_38 rfl ?_
    refine R_iconst (pc := 39) (x := nI 0) dL_isReport_39 rfl ?_
    refine R_callV (pc := 40) dL_isReport_40 rfl w4.cls.choose_spec rfl rfl ?_
    refine o_again (j := 0) w4 k (by decide) (by omega) (fun h5 z5 w5 => ?_)
    rw [g0, nr.2]
    refine R_if_ne (pc := 43) (t := 50) dL_isReport_43 (by decide) (fun hz9 => absurd (show nI 0 = 0 from rfl) hz9) (fun _ => ?_)
    refine R_iconst (pc := 46) (x := nI 1) dL_isReport_46 rfl ?_
    refine R_goto (pc := 47) (t := 51) dL_isReport_47 (by decide) ?_
    refine R_zret (pc := 51) dL_isReport_51 rfl (by decide) ?_
    exact kk0 _ _ w5
  · obtain ⟨N, kd, c, G, eN, hN, e1304, e1103, hm40, ra⟩ := rep_all k.1 hl
    obtain ⟨r0, r1, r4, r5⟩ := a_rep k.1 eN
    refine R_aload_n (pc := 0) dL_isReport_0 rfl ?_
    refine R_iconst (pc := 1) (x := nI 1) dL_isReport_1 rfl ?_
    refine R_callV (pc := 2) dL_isReport_2 rfl w.cls.choose_spec rfl rfl ?_
    refine o_told (j := 1) w k (by omega) (fun h1 z1 w1 => ?_)
    rw [show toA S.1 1 = nI (N + 1) from e1304]
    refine R_istore_n (pc := 5) dL_isReport_5 (Nat.le_of_ble_eq_true rfl) rfl ?_
    refine R_iload_n (pc := 6) dL_isReport_6 rfl ?_
    refine R_if_ne (pc := 7) (t := 52) dL_isReport_7 (by decide) (fun _ => ?_) (fun hz9 => absurd hz9 (nI_ne0 (by omega) (by omega)))
    refine R_bipush (pc := 52) (x := nI 20) dL_isReport_52 (by decide) ?_
    refine R_newa (pc := 54) dL_isReport_54 rfl (by decide) ?_
    refine R_astore_n (pc := 56) dL_isReport_56 (Nat.le_of_ble_eq_true rfl) rfl ?_
    refine R_iconst (pc := 57) (x := nI 0) dL_isReport_57 rfl ?_
    refine R_istore_n (pc := 58) dL_isReport_58 (Nat.le_of_ble_eq_true rfl) rfl ?_
    refine R_iconst (pc := 59) (x := nI 0) dL_isReport_59 rfl ?_
    refine R_istore (pc := 60) dL_isReport_60 (Nat.le_of_ble_eq_true rfl) rfl ?_
    refine rp_loop (t1 := t1 + 1) (t2 := t2 + 20) k eN hN nw.2.2.2.2.2.1 ra ?_ (fun h2 z2 g2 o5 o6 o7 o8 e2 w2 => ?_) (N + 1) 0 0 _ _ (fun _ => 0) _ _ _ _ (by omega) ra.1.2.1.symm (fun j hj => (ra.1.1 j).symm) w1.mk
    · obtain ⟨_, _, _, _, lk, _⟩ := w1; exact lk.1.1
    · refine R_iload_n (pc := 395) dL_isReport_395 rfl ?_
      refine R_iconst (pc := 396) (x := nI 1) dL_isReport_396 rfl ?_
      refine R_isub (pc := 397) dL_isReport_397 ?_
      rw [pk_sub (by omega), Nat.add_sub_cancel]
      refine R_istore (pc := 398) dL_isReport_398 (Nat.le_of_ble_eq_true rfl) rfl ?_
      refine R_iload_n (pc := 400) dL_isReport_400 rfl ?_
      refine R_aload_n (pc := 401) dL_isReport_401 rfl ?_
      refine R_iconst (pc := 402) (x := nI 2) dL_isReport_402 rfl ?_
      refine R_callV (pc := 403) dL_isReport_403 rfl w2.cls.choose_spec rfl rfl ?_
      refine o_told (j := 2) w2 k (by omega) (fun h3 z3 w3 => ?_)
      rw [show toA S.1 2 = nI (mU S.1) from (if_neg r0).trans r1, ra.1.2.2.1]
      refine R_icmp_ne (pc := 406) (t := 492) dL_isReport_406 (by decide) (fun hz9 => absurd rfl hz9) (fun _ => ?_)
      refine R_aload_n (pc := 409) dL_isReport_409 rfl ?_
      refine R_iload (pc := 410) dL_isReport_410 rfl ?_
      refine R_iconst (pc := 412) (x := nI 0) dL_isReport_412 rfl ?_
      refine R_callV (pc := 413) dL_isReport_413 rfl w3.cls.choose_spec rfl rfl ?_
      refine o_line w3 k (by omega) (by omega) (fun h4 z4 w4 => ?_)
      refine R_iconst (pc := 416) (x := nI 4) dL_isReport_416 rfl ?_
      refine R_icmp_ne (pc := 417) (t := 492) dL_isReport_417 (by decide) (fun hz9 => absurd (show S.1 (1305 + 9 * N + 0) = nI 4 from ra.1.2.2.2.1) hz9) (fun _ => ?_)
      refine R_aload_n (pc := 420) dL_isReport_420 rfl ?_
      refine R_iload (pc := 421) dL_isReport_421 rfl ?_
      refine R_iconst (pc := 423) (x := nI 4) dL_isReport_423 rfl ?_
      refine R_callV (pc := 424) dL_isReport_424 rfl w4.cls.choose_spec rfl rfl ?_
      refine o_line w4 k (by omega) (by omega) (fun h5 z5 w5 => ?_)
      refine R_iload_n (pc := 427) dL_isReport_427 rfl ?_
      refine R_icmp_ne (pc := 428) (t := 492) dL_isReport_428 (by decide) (fun hz9 => absurd r4 hz9) (fun _ => ?_)
      refine R_aload_n (pc := 431) dL_isReport_431 rfl ?_
      refine R_iconst (pc := 432) (x := nI 0) dL_isReport_432 rfl ?_
      refine R_iald (pc := 433) dL_isReport_433 w5.at (Or.inl rfl) rfl (by omega) (by decide) ?_
      refine R_aload_n (pc := 434) dL_isReport_434 rfl ?_
      refine R_iconst (pc := 435) (x := nI 4) dL_isReport_435 rfl ?_
      refine R_iald (pc := 436) dL_isReport_436 w5.at (Or.inl rfl) rfl (by omega) (by decide) ?_
      refine R_iadd (pc := 437) dL_isReport_437 ?_
      refine R_aload_n (pc := 438) dL_isReport_438 rfl ?_
      refine R_bipush (pc := 439) (x := nI 8) dL_isReport_439 (by decide) ?_
      refine R_iald (pc := 441) dL_isReport_441 w5.at (Or.inl rfl) rfl (by omega) (by decide) ?_
      refine R_iadd (pc := 442) dL_isReport_442 ?_
      refine R_aload_n (pc := 443) dL_isReport_443 rfl ?_
      refine R_bipush (pc := 444) (x := nI 12) dL_isReport_444 (by decide) ?_
      refine R_iald (pc := 446) dL_isReport_446 w5.at (Or.inl rfl) rfl (by omega) (by decide) ?_
      refine R_iadd (pc := 447) dL_isReport_447 ?_
      refine R_if_ne (pc := 448) (t := 492) dL_isReport_448 (by decide) (fun hz9 => absurd (by rw [e2 0 (by omega), e2 4 (by omega), e2 8 (by omega), e2 12 (by omega), ra.1.2.2.2.2 0 (by omega), ra.1.2.2.2.2 4 (by omega), ra.1.2.2.2.2 8 (by omega), ra.1.2.2.2.2 12 (by omega)]; rfl) hz9) (fun _ => ?_)
      refine R_aload_n (pc := 451) dL_isReport_451 rfl ?_
      refine R_iconst (pc := 452) (x := (-1)) dL_isReport_452 rfl ?_
      refine R_iconst (pc := 453) (x := nI 0) dL_isReport_453 rfl ?_
      refine R_callV (pc := 454) dL_isReport_454 rfl w5.cls.choose_spec rfl rfl ?_
      refine o_again (j := 0) w5 k (by decide) (by omega) (fun h6 z6 w6 => ?_)
      refine R_iload_n (pc := 457) dL_isReport_457 rfl ?_
      refine R_icmp_ne (pc := 458) (t := 492) dL_isReport_458 (by decide) (fun hz9 => absurd g0 hz9) (fun _ => ?_)
      refine R_aload_n (pc := 461) dL_isReport_461 rfl ?_
      refine R_iconst (pc := 462) (x := (-1)) dL_isReport_462 rfl ?_
      refine R_iconst (pc := 463) (x := nI 1) dL_isReport_463 rfl ?_
      refine R_callV (pc := 464) dL_isReport_464 rfl w6.cls.choose_spec rfl rfl ?_
      refine o_again (j := 1) w6 k (by decide) (by omega) (fun h7 z7 w7 => ?_)
      refine R_aload_n (pc := 467) dL_isReport_467 rfl ?_
      refine R_iload (pc := 468) dL_isReport_468 rfl ?_
      refine R_iconst (pc := 470) (x := nI 5) dL_isReport_470 rfl ?_
      refine R_callV (pc := 471) dL_isReport_471 rfl w7.cls.choose_spec rfl rfl ?_
      refine o_line w7 k (by omega) (by omega) (fun h8 z8 w8 => ?_)
      refine R_icmp_ne (pc := 474) (t := 492) dL_isReport_474 (by decide) (fun hz9 => absurd (g1.trans r5.symm) hz9) (fun _ => ?_)
      refine R_aload_n (pc := 477) dL_isReport_477 rfl ?_
      refine R_iload_n (pc := 478) dL_isReport_478 rfl ?_
      refine R_iconst (pc := 479) (x := nI 0) dL_isReport_479 rfl ?_
      rw [show nI (N + 1) = nI (lU S.1) by rw [eN]]
      refine R_callV (pc := 480) dL_isReport_480 rfl w8.cls.choose_spec rfl rfl ?_
      refine o_line_b w8 k (fun h9 z9 w9 => ?_)
      refine R_ldc (pc := 483) (x := (-1000001)) dL_isReport_483 rfl ?_
      refine R_icmp_ne (pc := 485) (t := 492) dL_isReport_485 (by decide) (fun hz9 => absurd rfl hz9) (fun _ => ?_)
      refine R_iconst (pc := 488) (x := nI 1) dL_isReport_488 rfl ?_
      refine R_goto (pc := 489) (t := 493) dL_isReport_489 (by decide) ?_
      refine R_zret (pc := 493) dL_isReport_493 rfl (by decide) ?_
      exact kk _ _ _ _ w9
end LW1
