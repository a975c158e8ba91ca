section LW2
variable {sA : Nat} {gs : Nat → Int32} {x Y : Nat} {K0 : am_H} {F0 : Nat → Prop} {s1 s2 t1 t2 : Nat} {G : Nat → am_C → Prop} {S : St5} {h : Nat → Option am_C} {z : Nat × Nat} {Q : Option Value → am_H → Prop}
theorem nI_lm1 {j : Nat} (h : j < 100000) : ¬ nI j < (-1) := by
  rw [Int32.lt_iff_toInt_lt, nI_toInt (by omega), show (-1 : Int32).toInt = -1 from by decide]
  omega
theorem sub_sub_s (a b : Int32) : a - (a - b) = b := by
  rw [Int32.sub_eq_iff_eq_add, Int32.add_comm, Int32.sub_add_cancel]
theorem difR_0 {U : Nat → Int32} : ∀ (r k a : Nat), difR U 0 r k (nI a) = nI (a + r)
  | 0, _, _ => rfl
  | r + 1, k, a => by
    show difR U 0 r (k + 1) (nI a + nI 1) = nI (a + (r + 1))
    rw [nI_add, difR_0 r (k + 1) (a + 1)]
    congr 1
    omega
theorem difR_1 {U : Nat → Int32} : ∀ (r k : Nat), difR U 1 r k (sT (fun q => U (1104 + 5 * q + 3)) k) = sT (fun q => U (1104 + 5 * q + 3)) (k + r)
  | 0, _ => rfl
  | r + 1, k => by
    show difR U 1 r (k + 1) (sT (fun q => U (1104 + 5 * q + 3)) (k + 1)) = _
    rw [difR_1 r (k + 1)]
    congr 1
    omega
theorem difR_cg {U V : Nat → Int32} {x : Nat} (h : ∀ j, 1104 ≤ j → j < 1304 → V j = U j) : ∀ (r k : Nat) (a : Int32), k + r ≤ 40 → difR V x r k a = difR U x r k a
  | 0, _, _, _ => rfl
  | r + 1, k, a, hk => by
    unfold difR
    rw [h (1104 + 5 * k + if x = 1 then 3 else 2) (by omega) (by split <;> omega), difR_cg h r (k + 1) _ (by omega)]
theorem ag_l1 {c : Nat} {wj : Nat → Int32} {A : Nat → Nat} (k : OKS S) (sn : SnA S.1 c wj A) (hX : ∀ (h' : Nat → Option am_C) (z' : Nat × Nat) (bf : Int32) (o4 o5 o6 o7 o8 : Option Value), Wx sA gs x Y K0 F0 s1 s2 t1 t2 G S [] (h', z') → Rn sA mL_isAgain 52 [some (.ref x), some (.int (sT wj c)), some (.int bf), some (.int (nI c)), o4, o5, o6, o7, o8] [] (h', z') Q) : ∀ (n i : Nat) (h : Nat → Option am_C) (z : Nat × Nat) (bf : Int32) (o4 o5 o6 o7 o8 : Option Value), i + n = c → (∀ j, i = j + 1 → bf = wj j) → Wx sA gs x Y K0 F0 s1 s2 t1 t2 G S [] (h, z) → Rn sA mL_isAgain 6 [some (.ref x), some (.int (sT wj i)), some (.int bf), some (.int (nI i)), o4, o5, o6, o7, o8] [] (h, z) Q
  | 0, i, h, z, bf, o4, o5, o6, o7, o8, hn, hb, w => by
    obtain rfl : i = c := by omega
    have hc := sn.1.1
    refine R_aload_n (pc := 6) dL_isAgain_6 rfl ?_
    refine R_iload_n (pc := 7) dL_isAgain_7 rfl ?_
    refine R_iconst (pc := 8) (x := nI 0) dL_isAgain_8 rfl ?_
    refine R_callV (pc := 9) dL_isAgain_9 rfl w.cls.choose_spec rfl rfl ?_
    refine o_ranked (j := 0) w k (nI_pos (by omega)) (by omega) (fun h1 z1 w1 => ?_)
    refine R_ldc (pc := 12) (x := (-1000009)) dL_isAgain_12 rfl ?_
    refine R_icmp_eq (pc := 14) (t := 52) dL_isAgain_14 (by decide) (fun _ => ?_) (fun hz9 => absurd sn.2.2.1 hz9)
    exact hX _ _ _ _ _ _ _ _ w1
  | n + 1, i, h, z, bf, o4, o5, o6, o7, o8, hn, hb, w => by
    have hc := sn.1.1
    obtain ⟨q1, q2⟩ := sn.2.1 i (by omega)
    refine R_aload_n (pc := 6) dL_isAgain_6 rfl ?_
    refine R_iload_n (pc := 7) dL_isAgain_7 rfl ?_
    refine R_iconst (pc := 8) (x := nI 0) dL_isAgain_8 rfl ?_
    refine R_callV (pc := 9) dL_isAgain_9 rfl w.cls.choose_spec rfl rfl ?_
    refine o_ranked (j := 0) w k (nI_pos (by omega)) (by omega) (fun h1 z1 w1 => ?_)
    refine R_ldc (pc := 12) (x := (-1000009)) dL_isAgain_12 rfl ?_
    refine R_icmp_eq (pc := 14) (t := 52) dL_isAgain_14 (by decide) (fun hz9 => absurd hz9 q1) (fun _ => ?_)
    refine R_aload_n (pc := 17) dL_isAgain_17 rfl ?_
    refine R_iload_n (pc := 18) dL_isAgain_18 rfl ?_
    refine R_iconst (pc := 19) (x := nI 3) dL_isAgain_19 rfl ?_
    refine R_callV (pc := 20) dL_isAgain_20 rfl w1.cls.choose_spec rfl rfl ?_
    refine o_ranked (j := 3) w1 k (nI_pos (by omega)) (by omega) (fun h2 z2 w2 => ?_)
    rw [q2]
    refine R_istore (pc := 23) dL_isAgain_23 (Nat.le_of_ble_eq_true rfl) rfl ?_
    refine R_iload_n (pc := 25) dL_isAgain_25 rfl ?_
    refine R_iload (pc := 26) dL_isAgain_26 rfl ?_
    refine R_iadd (pc := 28) dL_isAgain_28 ?_
    refine R_istore_n (pc := 29) dL_isAgain_29 (Nat.le_of_ble_eq_true rfl) rfl ?_
    refine R_iload_n (pc := 30) dL_isAgain_30 rfl ?_
    refine R_if_le (pc := 31) (t := 42) dL_isAgain_31 (by decide) (fun h31 => ?_) (fun h31 => ?_)
    · refine R_iload (pc := 42) dL_isAgain_42 rfl ?_
      refine R_istore_n (pc := 44) dL_isAgain_44 (Nat.le_of_ble_eq_true rfl) rfl ?_
      refine R_iload_n (pc := 45) dL_isAgain_45 rfl ?_
      refine R_iconst (pc := 46) (x := nI 1) dL_isAgain_46 rfl ?_
      refine R_iadd (pc := 47) dL_isAgain_47 ?_
      rw [nI_add]
      refine R_istore_n (pc := 48) dL_isAgain_48 (Nat.le_of_ble_eq_true rfl) rfl ?_
      refine R_goto (pc := 49) (t := 6) dL_isAgain_49 (by decide) ?_
      exact ag_l1 k sn hX n (i + 1) _ _ _ _ _ _ _ _ (by omega) (fun j2 e => by cases e; rfl) w2
    · have hi0 : ¬ i = 0 := fun q => h31 (by rw [q]; decide)
      obtain ⟨j, hij⟩ : ∃ j, i = j + 1 := ⟨i - 1, by omega⟩
      have ej := hb j hij
      refine R_iload (pc := 34) dL_isAgain_34 rfl ?_
      refine R_iload_n (pc := 36) dL_isAgain_36 rfl ?_
      refine R_icmp_le (pc := 37) (t := 42) dL_isAgain_37 (by decide) (fun _ => ?_) (fun hz9 => absurd (by rw [ej, hij]; exact sn.2.2.2.1 j (by omega)) hz9)
      refine R_iload (pc := 42) dL_isAgain_42 rfl ?_
      refine R_istore_n (pc := 44) dL_isAgain_44 (Nat.le_of_ble_eq_true rfl) rfl ?_
      refine R_iload_n (pc := 45) dL_isAgain_45 rfl ?_
      refine R_iconst (pc := 46) (x := nI 1) dL_isAgain_46 rfl ?_
      refine R_iadd (pc := 47) dL_isAgain_47 ?_
      rw [nI_add]
      refine R_istore_n (pc := 48) dL_isAgain_48 (Nat.le_of_ble_eq_true rfl) rfl ?_
      refine R_goto (pc := 49) (t := 6) dL_isAgain_49 (by decide) ?_
      exact ag_l1 k sn hX n (i + 1) _ _ _ _ _ _ _ _ (by omega) (fun j2 e => by cases e; rfl) w2
theorem ag_l2 {c : Nat} {wj : Nat → Int32} {A : Nat → Nat} {q3 : Nat} {o1 o2 o6 o7 o8 : Option Value} (k : OKS S) (sn : SnA S.1 c wj A) (hX : ∀ (h' : Nat → Option am_C) (z' : Nat × Nat) (D : Nat), Wx sA gs x Y K0 F0 s1 s2 t1 t2 G S [] (h', z') → Rn sA mL_isAgain 95 [some (.ref x), o1, o2, some (.int (nI q3)), some (.int (nI (A D))), some (.int (nI D)), o6, o7, o8] [] (h', z') Q) : ∀ (n D a : Nat) (h : Nat → Option am_C) (z : Nat × Nat), D + n = 1000 → a = A D → Wx sA gs x Y K0 F0 s1 s2 t1 t2 G S [] (h, z) → Rn sA mL_isAgain 58 [some (.ref x), o1, o2, some (.int (nI q3)), some (.int (nI a)), some (.int (nI D)), o6, o7, o8] [] (h, z) Q
  | 0, D, a, h, z, hn, ha, w => by
    subst ha
    refine R_iload (pc := 58) dL_isAgain_58 rfl ?_
    refine R_sipush (pc := 60) (x := nI 1000) dL_isAgain_60 (by decide) ?_
    refine R_icmp_ge (pc := 63) (t := 95) dL_isAgain_63 (by decide) (fun _ => ?_) (fun hz9 => absurd (nI_le (by omega) (by omega)) hz9)
    exact hX _ _ _ w
  | n + 1, D, a, h, z, hn, ha, w => by
    subst ha
    refine R_iload (pc := 58) dL_isAgain_58 rfl ?_
    refine R_sipush (pc := 60) (x := nI 1000) dL_isAgain_60 (by decide) ?_
    refine R_icmp_ge (pc := 63) (t := 95) dL_isAgain_63 (by decide) (fun hz9 => absurd hz9 (nI_ge (by omega) (by omega))) (fun _ => ?_)
    refine R_iload (pc := 66) dL_isAgain_66 rfl ?_
    refine R_aload_n (pc := 68) dL_isAgain_68 rfl ?_
    refine R_iconst (pc := 69) (x := (-1)) dL_isAgain_69 rfl ?_
    refine R_iconst (pc := 70) (x := nI 0) dL_isAgain_70 rfl ?_
    refine R_callV (pc := 71) dL_isAgain_71 rfl w.cls.choose_spec rfl rfl ?_
    refine o_again (j := 0) w k (by decide) (by omega) (fun h1 z1 w1 => ?_)
    refine R_icmp_ge (pc := 74) (t := 95) dL_isAgain_74 (by decide) (fun h74 => ?_) (fun h74 => ?_)
    · exact hX _ _ _ w1
      
    · refine R_iload (pc := 77) dL_isAgain_77 rfl ?_
      refine R_aload_n (pc := 79) dL_isAgain_79 rfl ?_
      refine R_iload (pc := 80) dL_isAgain_80 rfl ?_
      refine R_iconst (pc := 82) (x := nI 0) dL_isAgain_82 rfl ?_
      refine R_callV (pc := 83) dL_isAgain_83 rfl w1.cls.choose_spec rfl rfl ?_
      refine o_again (j := 0) w1 k (nI_lm1 (by omega)) (by omega) (fun h2 z2 w2 => ?_)
      refine R_iadd (pc := 86) dL_isAgain_86 ?_
      rw [sn.2.2.2.2.2.2.2.2.2.2.2 D (by omega)]
      refine R_istore (pc := 87) dL_isAgain_87 (Nat.le_of_ble_eq_true rfl) rfl ?_
      refine R_iinc (pc := 89) dL_isAgain_89 rfl (by first | exact nI_inc _ | rfl) rfl ?_
      refine R_goto (pc := 92) (t := 58) dL_isAgain_92 (by decide) ?_
      exact ag_l2 k sn hX n (D + 1) _ _ _ (by omega) rfl w2
theorem ag_164 {N wh T : Nat} {o1 o2 o3 o4 o8 : Option Value} (k : OKS S) (eN : lU S.1 = N + 1) (hN : N < 161) (hw2 : wh < 2) (hT : T ≤ 400000) (eT : S.1 (1305 + 9 * N + (4 + wh)) = nI T) (hd : difR S.1 wh (mU S.1) 0 (nI 0) = S.1 (1305 + 9 * N + (4 + wh))) (hm : mU S.1 ≤ 40) (r0 : ¬ S.1 1060 = 0) (w : Wx sA gs x Y K0 F0 s1 s2 t1 t2 G S [] (h, z)) (hX : ∀ (h' : Nat → Option am_C) (z' : Nat × Nat) (o8 : Option Value), Wx sA gs x Y K0 F0 s1 s2 t1 t2 G S [] (h', z') → Rn sA mL_isAgain 243 [some (.ref x), o1, o2, o3, o4, some (.int (nI (N + 1))), some (.int (nI 1)), some (.int (nI wh)), o8] [] (h', z') Q) : Rn sA mL_isAgain 164 [some (.ref x), o1, o2, o3, o4, some (.int (nI (N + 1))), some (.int (nI 1)), some (.int (nI wh)), o8] [] (h, z) Q := by
  by_cases hn : S.1 (16 + wh) = (-1000009)
  · refine R_aload_n (pc := 164) dL_isAgain_164 rfl ?_
    refine R_iload (pc := 165) dL_isAgain_165 rfl ?_
    refine R_callV (pc := 167) dL_isAgain_167 rfl w.cls.choose_spec rfl rfl ?_
    refine o_differs w k (by omega) (fun h1 z1 w1 => ?_)
    rw [show dfA S.1 wh = (-1000009) from if_pos (Or.inl hn)]
    refine R_istore (pc := 170) dL_isAgain_170 (Nat.le_of_ble_eq_true rfl) rfl ?_
    refine R_iload (pc := 172) dL_isAgain_172 rfl ?_
    refine R_if_eq (pc := 174) (t := 240) dL_isAgain_174 (by decide) (fun hz9 => absurd hz9 (by decide)) (fun _ => ?_)
    refine R_iload (pc := 177) dL_isAgain_177 rfl ?_
    refine R_ldc (pc := 179) (x := (-1000009)) dL_isAgain_179 rfl ?_
    refine R_icmp_eq (pc := 181) (t := 236) dL_isAgain_181 (by decide) (fun _ => ?_) (fun hz9 => absurd rfl hz9)
    refine R_iconst (pc := 236) (x := nI 1) dL_isAgain_236 rfl ?_
    refine R_goto (pc := 237) (t := 241) dL_isAgain_237 (by decide) ?_
    refine R_istore (pc := 241) dL_isAgain_241 (Nat.le_of_ble_eq_true rfl) rfl ?_
    exact hX _ _ _ w1
  · obtain ⟨v, v1, v2⟩ : ∃ v, v ≤ 1000000 ∧ S.1 (16 + wh) = nI v := (k.1.2.1.2 wh (by omega)).resolve_left hn
    have ed : dfA S.1 wh = S.1 (1305 + 9 * N + (4 + wh)) - S.1 (16 + wh) := by
      unfold dfA
      rw [if_neg (fun q => q.elim hn r0), hd]
    have hnn : ¬ S.1 (1305 + 9 * N + (4 + wh)) - S.1 (16 + wh) = (-1000009) := by
      rw [eT, v2]
      intro q
      have q := congrArg Int32.toInt q
      rw [pk_sub_toInt (by omega) (by omega), show (-1000009 : Int32).toInt = -1000009 from by decide] at q
      omega
    have hp : ctlP (nI wh) (S.1 (1305 + 9 * N + (4 + wh))) := ⟨wh, by omega, rfl, Or.inr ⟨T, by omega, eT⟩⟩
    have eF : fCtl (nI wh) (S.1 (1305 + 9 * N + (4 + wh))) S = (S.1 (16 + wh), (upd S.1 (16 + wh) (S.1 (1305 + 9 * N + (4 + wh))), S.2)) := by
      unfold fCtl
      rw [icl_t hp, cI_n (by omega)]
    have eL : rcL (ctlP (nI wh) (S.1 (1305 + 9 * N + (4 + wh)))) S [] = [S.1] := icl_t hp
    have el : lU (upd S.1 (16 + wh) (S.1 (1305 + 9 * N + (4 + wh)))) = N + 1 := by
      unfold lU at eN ⊢
      rw [upd_n (by omega)]
      exact eN
    have ev : upd S.1 (16 + wh) (S.1 (1305 + 9 * N + (4 + wh))) (1305 + 9 * N + (4 + wh)) = S.1 (1305 + 9 * N + (4 + wh)) := upd_n (by omega)
    have ed2 : dfA (upd S.1 (16 + wh) (S.1 (1305 + 9 * N + (4 + wh)))) wh = nI 0 := by
      have em : mU (upd S.1 (16 + wh) (S.1 (1305 + 9 * N + (4 + wh)))) = mU S.1 := by
        unfold mU
        rw [upd_n (by omega)]
      unfold dfA
      rw [upd_s, upd_n (by omega), if_neg (fun q => q.elim (fun q => absurd (eT.symm.trans q) (nI_noN (by omega))) r0), em, difR_cg (U := S.1) (fun j j1 j2 => upd_n (by omega)) _ _ _ (by omega), hd, Int32.sub_self]
      rfl
    refine R_aload_n (pc := 164) dL_isAgain_164 rfl ?_
    refine R_iload (pc := 165) dL_isAgain_165 rfl ?_
    refine R_callV (pc := 167) dL_isAgain_167 rfl w.cls.choose_spec rfl rfl ?_
    refine o_differs w k (by omega) (fun h1 z1 w1 => ?_)
    rw [ed]
    refine R_istore (pc := 170) dL_isAgain_170 (Nat.le_of_ble_eq_true rfl) rfl ?_
    refine R_iload (pc := 172) dL_isAgain_172 rfl ?_
    refine R_if_eq (pc := 174) (t := 240) dL_isAgain_174 (by decide) (fun hz9 => absurd hz9 (by decide)) (fun _ => ?_)
    refine R_iload (pc := 177) dL_isAgain_177 rfl ?_
    refine R_ldc (pc := 179) (x := (-1000009)) dL_isAgain_179 rfl ?_
    refine R_icmp_eq (pc := 181) (t := 236) dL_isAgain_181 (by decide) (fun hz9 => absurd hz9 hnn) (fun _ => ?_)
    refine R_aload_n (pc := 184) dL_isAgain_184 rfl ?_
    refine R_iload (pc := 185) dL_isAgain_185 rfl ?_
    refine R_aload_n (pc := 187) dL_isAgain_187 rfl ?_
    refine R_iload (pc := 188) dL_isAgain_188 rfl ?_
    refine R_iconst (pc := 190) (x := nI 1) dL_isAgain_190 rfl ?_
    refine R_isub (pc := 191) dL_isAgain_191 ?_
    rw [pk_sub (by omega), Nat.add_sub_cancel]
    refine R_iconst (pc := 192) (x := nI 4) dL_isAgain_192 rfl ?_
    refine R_iload (pc := 193) dL_isAgain_193 rfl ?_
    refine R_iadd (pc := 195) dL_isAgain_195 ?_
    rw [nI_add]
    refine R_callV (pc := 196) dL_isAgain_196 rfl w1.cls.choose_spec rfl rfl ?_
    refine o_line w1 k (by omega) (by omega) (fun h2 z2 w2 => ?_)
    refine R_callV (pc := 199) dL_isAgain_199 rfl w2.cls.choose_spec rfl rfl ?_
    refine o_control w2 k (Nat.zero_le _) (fun h3 z3 k3 w3 => ?_)
    rw [eF] at k3 w3 ⊢
    rw [eL] at w3
    have k3 : OKS (upd S.1 (16 + wh) (S.1 (1305 + 9 * N + (4 + wh))), S.2) := k3
    have w3 : Wx sA gs x Y K0 F0 s1 s2 t1 t2 G (upd S.1 (16 + wh) (S.1 (1305 + 9 * N + (4 + wh))), S.2) [S.1] (h3, z3) := w3
    refine R_aload_n (pc := 202) dL_isAgain_202 rfl ?_
    refine R_iload (pc := 203) dL_isAgain_203 rfl ?_
    refine R_iconst (pc := 205) (x := nI 1) dL_isAgain_205 rfl ?_
    refine R_isub (pc := 206) dL_isAgain_206 ?_
    rw [pk_sub (by omega), Nat.add_sub_cancel]
    refine R_iconst (pc := 207) (x := nI 4) dL_isAgain_207 rfl ?_
    refine R_iload (pc := 208) dL_isAgain_208 rfl ?_
    refine R_iadd (pc := 210) dL_isAgain_210 ?_
    rw [nI_add]
    refine R_callV (pc := 211) dL_isAgain_211 rfl w3.cls.choose_spec rfl rfl ?_
    refine o_line w3 k3 (show N < lU (upd S.1 (16 + wh) (S.1 (1305 + 9 * N + (4 + wh)))) by omega) (by omega) (fun h4 z4 w4 => ?_)
    rw [show (upd S.1 (16 + wh) (S.1 (1305 + 9 * N + (4 + wh))), S.2).1 (1305 + 9 * N + (4 + wh)) = S.1 (1305 + 9 * N + (4 + wh)) from ev]
    refine R_iload (pc := 214) dL_isAgain_214 rfl ?_
    refine R_isub (pc := 216) dL_isAgain_216 ?_
    refine R_icmp_ne (pc := 217) (t := 240) dL_isAgain_217 (by decide) (fun hz9 => absurd (sub_sub_s _ _).symm hz9) (fun _ => ?_)
    refine R_aload_n (pc := 220) dL_isAgain_220 rfl ?_
    refine R_iload (pc := 221) dL_isAgain_221 rfl ?_
    refine R_callV (pc := 223) dL_isAgain_223 rfl w4.cls.choose_spec rfl rfl ?_
    refine o_differs w4 k3 (by omega) (fun h5 z5 w5 => ?_)
    rw [show dfA (upd S.1 (16 + wh) (S.1 (1305 + 9 * N + (4 + wh))), S.2).1 wh = nI 0 from ed2]
    refine R_if_ne (pc := 226) (t := 240) dL_isAgain_226 (by decide) (fun hz9 => absurd (show nI 0 = 0 from rfl) hz9) (fun _ => ?_)
    refine R_aload_n (pc := 229) dL_isAgain_229 rfl ?_
    refine R_callV (pc := 230) dL_isAgain_230 rfl w5.cls.choose_spec rfl rfl ?_
    refine o_undo w5 k3 (fun q h6 z6 hq w6 => ?_)
    refine R_if_lt (pc := 233) (t := 240) dL_isAgain_233 (by decide) (fun hz9 => absurd hz9 (nI_pos (by omega))) (fun _ => ?_)
    refine R_iconst (pc := 236) (x := nI 1) dL_isAgain_236 rfl ?_
    refine R_goto (pc := 237) (t := 241) dL_isAgain_237 (by decide) ?_
    refine R_istore (pc := 241) dL_isAgain_241 (Nat.le_of_ble_eq_true rfl) rfl ?_
    exact hX _ _ _ w6
theorem l_isAgain (w : Wx sA gs x Y K0 F0 s1 s2 t1 t2 G S [] (h, z)) (k : OKS S) (kk : ∀ (h' : Nat → Option am_C) (z' : Nat × Nat), Wx sA gs x Y K0 F0 s1 s2 t1 t2 G S [] (h', z') → Q (some (.int (nI 1))) (h', z')) : Rn sA mL_isAgain 0 [some (.ref x), none, none, none, none, none, none, none, none] [] (h, z) Q := by
  have nw := w.nw k
  obtain ⟨c, wj, A, sn⟩ := snd_all k.1
  have hc := sn.1.1
  refine R_iconst (pc := 0) (x := nI 0) dL_isAgain_0 rfl ?_
  refine R_istore_n (pc := 1) dL_isAgain_1 (Nat.le_of_ble_eq_true rfl) rfl ?_
  refine R_iconst (pc := 2) (x := nI 0) dL_isAgain_2 rfl ?_
  refine R_istore_n (pc := 3) dL_isAgain_3 (Nat.le_of_ble_eq_true rfl) rfl ?_
  refine R_iconst (pc := 4) (x := nI 0) dL_isAgain_4 rfl ?_
  refine R_istore_n (pc := 5) dL_isAgain_5 (Nat.le_of_ble_eq_true rfl) rfl ?_
  refine ag_l1 k sn (fun h1 z1 bf o4 o5 o6 o7 o8 w1 => ?_) c 0 h z (nI 0) _ _ _ _ _ (by omega) (fun j e => absurd e (by omega)) w
  refine R_iconst (pc := 52) (x := nI 0) dL_isAgain_52 rfl ?_
  refine R_istore (pc := 53) dL_isAgain_53 (Nat.le_of_ble_eq_true rfl) rfl ?_
  refine R_iconst (pc := 55) (x := nI 0) dL_isAgain_55 rfl ?_
  refine R_istore (pc := 56) dL_isAgain_56 (Nat.le_of_ble_eq_true rfl) rfl ?_
  refine ag_l2 k sn (fun h2 z2 D w2 => ?_) 1000 0 0 h1 z1 (by omega) sn.2.2.2.2.2.2.2.2.2.1.symm w1
  refine R_aload_n (pc := 95) dL_isAgain_95 rfl ?_
  refine R_iconst (pc := 96) (x := nI 1) dL_isAgain_96 rfl ?_
  refine R_callV (pc := 97) dL_isAgain_97 rfl w2.cls.choose_spec rfl rfl ?_
  refine o_told (j := 1) w2 k (by omega) (fun h3 z3 w3 => ?_)
  rw [show toA S.1 1 = nI (lU S.1) from nw.2.2.1]
  refine R_istore (pc := 100) dL_isAgain_100 (Nat.le_of_ble_eq_true rfl) rfl ?_
  refine R_iload_n (pc := 102) dL_isAgain_102 rfl ?_
  refine R_aload_n (pc := 103) dL_isAgain_103 rfl ?_
  refine R_iconst (pc := 104) (x := (-1)) dL_isAgain_104 rfl ?_
  refine R_iconst (pc := 105) (x := nI 4) dL_isAgain_105 rfl ?_
  refine R_callV (pc := 106) dL_isAgain_106 rfl w3.cls.choose_spec rfl rfl ?_
  refine o_again (j := 4) w3 k (by decide) (by omega) (fun h4 z4 w4 => ?_)
  refine R_icmp_ne (pc := 109) (t := 147) dL_isAgain_109 (by decide) (fun hz9 => absurd sn.2.2.2.2.1.symm hz9) (fun _ => ?_)
  refine R_iload_n (pc := 112) dL_isAgain_112 rfl ?_
  refine R_aload_n (pc := 113) dL_isAgain_113 rfl ?_
  refine R_iconst (pc := 114) (x := (-1)) dL_isAgain_114 rfl ?_
  refine R_iconst (pc := 115) (x := nI 2) dL_isAgain_115 rfl ?_
  refine R_callV (pc := 116) dL_isAgain_116 rfl w4.cls.choose_spec rfl rfl ?_
  refine o_again (j := 2) w4 k (by decide) (by omega) (fun h5 z5 w5 => ?_)
  refine R_icmp_ne (pc := 119) (t := 147) dL_isAgain_119 (by decide) (fun hz9 => absurd sn.2.2.2.2.2.1.symm hz9) (fun _ => ?_)
  refine R_iload (pc := 122) dL_isAgain_122 rfl ?_
  refine R_aload_n (pc := 124) dL_isAgain_124 rfl ?_
  refine R_iconst (pc := 125) (x := (-1)) dL_isAgain_125 rfl ?_
  refine R_iconst (pc := 126) (x := nI 0) dL_isAgain_126 rfl ?_
  refine R_callV (pc := 127) dL_isAgain_127 rfl w5.cls.choose_spec rfl rfl ?_
  refine o_again (j := 0) w5 k (by decide) (by omega) (fun h6 z6 w6 => ?_)
  rw [sn.2.2.2.2.2.2.1]
  refine R_icmp_gt (pc := 130) (t := 147) dL_isAgain_130 (by decide) (fun hz9 => absurd hz9 (nI_nlt (sn.2.2.2.2.2.2.2.2.2.2.1 D) (by have := sn.1.2; omega))) (fun _ => ?_)
  refine R_aload_n (pc := 133) dL_isAgain_133 rfl ?_
  refine R_iconst (pc := 134) (x := (-1)) dL_isAgain_134 rfl ?_
  refine R_iconst (pc := 135) (x := nI 3) dL_isAgain_135 rfl ?_
  refine R_callV (pc := 136) dL_isAgain_136 rfl w6.cls.choose_spec rfl rfl ?_
  refine o_again (j := 3) w6 k (by decide) (by omega) (fun h7 z7 w7 => ?_)
  refine R_iload_n (pc := 139) dL_isAgain_139 rfl ?_
  refine R_icmp_gt (pc := 140) (t := 147) dL_isAgain_140 (by decide) (fun hz9 => absurd hz9 (Int32.not_lt.mpr (by rw [← sn.2.2.2.2.2.1]; exact sn.2.2.2.2.2.2.2.2.1))) (fun _ => ?_)
  refine R_iconst (pc := 143) (x := nI 1) dL_isAgain_143 rfl ?_
  refine R_goto (pc := 144) (t := 148) dL_isAgain_144 (by decide) ?_
  refine R_istore (pc := 148) dL_isAgain_148 (Nat.le_of_ble_eq_true rfl) rfl ?_
  refine R_iconst (pc := 150) (x := nI 0) dL_isAgain_150 rfl ?_
  refine R_istore (pc := 151) dL_isAgain_151 (Nat.le_of_ble_eq_true rfl) rfl ?_
  by_cases hl : lU S.1 = 0
  · rw [hl]
    refine R_iload (pc := 153) dL_isAgain_153 rfl ?_
    refine R_iconst (pc := 155) (x := nI 2) dL_isAgain_155 rfl ?_
    refine R_icmp_ge (pc := 156) (t := 249) dL_isAgain_156 (by decide) (fun hz9 => absurd hz9 (nI_ge (by omega) (by omega))) (fun _ => ?_)
    refine R_iload (pc := 159) dL_isAgain_159 rfl ?_
    refine R_if_le (pc := 161) (t := 249) dL_isAgain_161 (by decide) (fun _ => ?_) (fun hz9 => absurd (show nI 0 ≤ 0 by decide) hz9)
    refine R_iload (pc := 249) dL_isAgain_249 rfl ?_
    refine R_zret (pc := 251) dL_isAgain_251 rfl (by decide) ?_
    exact kk _ _ w7
  · obtain ⟨N, kd, cc, G2, eN, hN, e1304, e1103, hm40, ra⟩ := rep_all k.1 hl
    obtain ⟨r0, r1, r4, r5⟩ := a_rep k.1 eN
    rw [eN]
    obtain ⟨T, hT, eT⟩ := sT_rng (g := fun q => S.1 (1104 + 5 * q + 3)) (m := mU S.1) (fun q hq => k.1.1.2.choose_spec.2.2.1 q (by have e := k.1.1.2.choose_spec.1; have e2 := nI_j (r1.symm.trans e) (by omega) (by have := k.1.1.2.choose_spec.2.1; omega); omega) 3 (by omega))
    refine R_iload (pc := 153) dL_isAgain_153 rfl ?_
    refine R_iconst (pc := 155) (x := nI 2) dL_isAgain_155 rfl ?_
    refine R_icmp_ge (pc := 156) (t := 249) dL_isAgain_156 (by decide) (fun hz9 => absurd hz9 (nI_ge (by omega) (by omega))) (fun _ => ?_)
    refine R_iload (pc := 159) dL_isAgain_159 rfl ?_
    refine R_if_le (pc := 161) (t := 249) dL_isAgain_161 (by decide) (fun hz9 => absurd hz9 (nI_nle (by omega) (by omega))) (fun _ => ?_)
    refine ag_164 (wh := 0) (T := mU S.1) k eN hN (by omega) (by omega) r4 ((difR_0 _ _ _).trans (by rw [Nat.zero_add]; exact r4.symm)) hm40 r0 w7 (fun h8 z8 o8 w8 => ?_)
    refine R_iinc (pc := 243) dL_isAgain_243 rfl (by first | exact nI_inc _ | rfl) rfl ?_
    refine R_goto (pc := 246) (t := 153) dL_isAgain_246 (by decide) ?_
    refine R_iload (pc := 153) dL_isAgain_153 rfl ?_
    refine R_iconst (pc := 155) (x := nI 2) dL_isAgain_155 rfl ?_
    refine R_icmp_ge (pc := 156) (t := 249) dL_isAgain_156 (by decide) (fun hz9 => absurd hz9 (nI_ge (by omega) (by omega))) (fun _ => ?_)
    refine R_iload (pc := 159) dL_isAgain_159 rfl ?_
    refine R_if_le (pc := 161) (t := 249) dL_isAgain_161 (by decide) (fun hz9 => absurd hz9 (nI_nle (by omega) (by omega))) (fun _ => ?_)
    refine ag_164 (wh := 1) (T := T) k eN hN (by omega) (by omega) (r5.trans eT) ((difR_1 (mU S.1) 0).trans (by rw [Nat.zero_add]; exact r5.symm)) hm40 r0 w8 (fun h9 z9 o9 w9 => ?_)
    refine R_iinc (pc := 243) dL_isAgain_243 rfl (by first | exact nI_inc _ | rfl) rfl ?_
    refine R_goto (pc := 246) (t := 153) dL_isAgain_246 (by decide) ?_
    refine R_iload (pc := 153) dL_isAgain_153 rfl ?_
    refine R_iconst (pc := 155) (x := nI 2) dL_isAgain_155 rfl ?_
    refine R_icmp_ge (pc := 156) (t := 249) dL_isAgain_156 (by decide) (fun _ => ?_) (fun hz9 => absurd (nI_le (by omega) (by omega)) hz9)
    refine R_iload (pc := 249) dL_isAgain_249 rfl ?_
    refine R_zret (pc := 251) dL_isAgain_251 rfl (by decide) ?_
    exact kk _ _ w9
end LW2
