section CD1
variable {sA : Nat} {h : Nat → Option am_C} {z : Nat × Nat} {Q : Option Value → am_H → Prop}
theorem lc7_ar1 {d n : Nat} {pe : Nat → Nat} {K : Nat → CdX} {r : Nat} {G g2 g3 : Nat → Int32} {o : Nat → Nat} {g : Nat → Option am_C} (hd : DkAt g d n pe K) (hn : n ≤ 40) (hrd : r + 5 ≤ d ∨ d + 84 ≤ r) (ho : ∀ i, i < n → o i < n) (hG : ∀ i, i < n → G i = nI (o i)) : ∀ (m k : Nat) (h : Nat → Option am_C) (f4 : Nat → Option Nat) (x : Int32) (_ : k + m = n) (_ : SoX h r n G g2 g3 f4) (_ : ∀ i, i < k → f4 i = some (d + 2 + 2 * pe (o i))) (_ : ∀ a, (a < r ∨ r + 5 ≤ a) → h a = g a) (_ : (∀ (h2 : Nat → Option am_C) (f4 : Nat → Option Nat), SoX h2 r n G g2 g3 f4 → (∀ i, i < n → f4 i = some (d + 2 + 2 * pe (o i))) → (∀ a, (a < r ∨ r + 5 ≤ a) → h2 a = g a) → Rn sA mX7_arrange 47 [some (.ref r), some (.ref d), some (.int (mvO o m k x)), some (.int (nI n))] [] (h2, z) Q)), Rn sA mX7_arrange 4 [some (.ref r), some (.ref d), some (.int x), some (.int (nI k))] [] (h, z) Q
  | 0, k, h, f4, x, hk, hx, hA, hg, hX => by
    have hx9 := hx
    obtain ⟨hs1, hs2, hs3, hs4, hs5⟩ := hx9
    obtain rfl : k = n := by omega
    refine R_iload_n (pc := 4) dX7_arrange_4 rfl ?_
    refine R_aload_n (pc := 5) dX7_arrange_5 rfl ?_
    refine R_getf (pc := 6) dX7_arrange_6 rfl (by repeat (first | assumption | exact up_s | refine up_n (by omega) ?_)) rfl ?_
    refine R_icmp_ge (pc := 9) (t := 47) dX7_arrange_9 (by decide) (fun _ => ?_) (fun hz9 => absurd (nI_le (by omega) (by omega)) hz9)
    exact hX h f4 hx hA hg
  | m + 1, k, h, f4, x, hk, hx, hA, hg, hX => by
    have hx9 := hx
    obtain ⟨hs1, hs2, hs3, hs4, hs5⟩ := hx9
    have hdx : DkAt h d n pe K := hd.fr (fun y x1 x2 => hg y (by omega))
    have hok := ho k (by omega)
    have hpk := hd.2.2.2 (o k) (by omega)
    refine R_iload_n (pc := 4) dX7_arrange_4 rfl ?_
    refine R_aload_n (pc := 5) dX7_arrange_5 rfl ?_
    refine R_getf (pc := 6) dX7_arrange_6 rfl (by repeat (first | assumption | exact up_s | refine up_n (by omega) ?_)) rfl ?_
    refine R_icmp_ge (pc := 9) (t := 47) dX7_arrange_9 (by decide) (fun hz9 => absurd hz9 (nI_ge (by omega) (by omega))) (fun _ => ?_)
    refine R_aload_n (pc := 12) dX7_arrange_12 rfl ?_
    refine R_getf (pc := 13) dX7_arrange_13 rfl (by repeat (first | assumption | exact up_s | refine up_n (by omega) ?_)) rfl ?_
    refine R_iload_n (pc := 16) dX7_arrange_16 rfl ?_
    refine R_aload_n (pc := 17) dX7_arrange_17 rfl ?_
    refine R_aload_n (pc := 18) dX7_arrange_18 rfl ?_
    refine R_getf (pc := 19) dX7_arrange_19 rfl (by repeat (first | assumption | exact up_s | refine up_n (by omega) ?_)) rfl ?_
    refine R_iload_n (pc := 22) dX7_arrange_22 rfl ?_
    refine R_iald (pc := 23) dX7_arrange_23 (by repeat (first | assumption | exact up_s | refine up_n (by omega) ?_)) (Or.inl rfl) (by first | with_reducible rfl | (simp only [nI_add, pk_mul]; exact rfl)) (by omega) (by decide) ?_
    refine R_callV (pc := 24) dX7_arrange_24 rfl hdx.1 rfl rfl ?_
    rw [hG k (by omega)]
    refine c1_at hdx (by omega) ?_
    refine R_aast (pc := 27) dX7_arrange_27 hs5 (hdx.2.2.1 _ hpk).1 (by decide) rfl (by omega) (by decide) ?_
    refine R_aload_n (pc := 28) dX7_arrange_28 rfl ?_
    refine R_getf (pc := 29) dX7_arrange_29 rfl (by repeat (first | assumption | exact up_s | refine up_n (by omega) ?_)) rfl ?_
    refine R_iload_n (pc := 32) dX7_arrange_32 rfl ?_
    refine R_iald (pc := 33) dX7_arrange_33 (up_n (by omega) hs2) (Or.inl rfl) rfl (by omega) (by decide) ?_
    rw [hG k (by omega)]
    refine R_iload_n (pc := 34) dX7_arrange_34 rfl ?_
    refine R_icmp_eq (pc := 35) (t := 41) dX7_arrange_35 (by decide) (fun h35 => ?_) (fun h35 => ?_)
    · refine R_iinc (pc := 41) dX7_arrange_41 rfl (by first | exact nI_inc _ | rfl) rfl ?_
      refine R_goto (pc := 44) (t := 4) dX7_arrange_44 (by decide) ?_
      refine lc7_ar1 hd hn hrd ho hG m (k + 1) _ (va_up f4 k (some (d + 2 + 2 * pe (o k)))) _ (by omega) ⟨up_n (by omega) hs1, up_n (by omega) hs2, up_n (by omega) hs3, up_n (by omega) hs4, up_s⟩ (fun i hi => ?_) (fun a ha => (up_n (by omega) rfl).trans (hg a ha)) (fun h2 f5 q1 q2 q3 => ?_)
      · by_cases e : i = k
        · subst e; exact up_s
        · exact up_n e (hA i (by omega))
      · have q9 := hX h2 f5 q1 q2 q3
        unfold mvO at q9
        first
          | (rw [if_pos ((nI_eq (by omega) (by omega)).mp h35), show x + nI 0 = x from Int32.add_zero x] at q9
             exact q9)
          | (rw [if_neg (fun q => h35 (congrArg nI q))] at q9
             exact q9)
    · refine R_iinc (pc := 38) dX7_arrange_38 rfl (by first | exact nI_inc _ | rfl) rfl ?_
      refine R_iinc (pc := 41) dX7_arrange_41 rfl (by first | exact nI_inc _ | rfl) rfl ?_
      refine R_goto (pc := 44) (t := 4) dX7_arrange_44 (by decide) ?_
      refine lc7_ar1 hd hn hrd ho hG m (k + 1) _ (va_up f4 k (some (d + 2 + 2 * pe (o k)))) _ (by omega) ⟨up_n (by omega) hs1, up_n (by omega) hs2, up_n (by omega) hs3, up_n (by omega) hs4, up_s⟩ (fun i hi => ?_) (fun a ha => (up_n (by omega) rfl).trans (hg a ha)) (fun h2 f5 q1 q2 q3 => ?_)
      · by_cases e : i = k
        · subst e; exact up_s
        · exact up_n e (hA i (by omega))
      · have q9 := hX h2 f5 q1 q2 q3
        unfold mvO at q9
        first
          | (rw [if_pos ((nI_eq (by omega) (by omega)).mp h35), show x + nI 0 = x from Int32.add_zero x] at q9
             exact q9)
          | (rw [if_neg (fun q => h35 (congrArg nI q))] at q9
             exact q9)
theorem lc7_ar2 {d n : Nat} {pe : Nat → Nat} {K : Nat → CdX} {r : Nat} {G g2 g3 : Nat → Int32} {o : Nat → Nat} {g : Nat → Option am_C} {f4 : Nat → Option Nat} {x : Int32} (hn : n ≤ 40) (hrd : r + 5 ≤ d ∨ d + 84 ≤ r) (ho : ∀ i, i < n → o i < n) (hG : ∀ i, i < n → G i = nI (o i)) (hpe : ∀ i, i < 40 → pe i < 41) (hA : ∀ i, i < n → f4 i = some (d + 2 + 2 * pe (o i))) (hX : (∀ h2 : Nat → Option am_C, SoX h2 r n G g2 g3 f4 → DkAt h2 d n (fun i => if i < n then pe (o i) else pe i) K → (∀ a, (a < r ∨ r + 5 ≤ a) → ¬ a = d + 1 → h2 a = g a) → Q (some (.int x)) (h2, z))) : ∀ (m k : Nat) (h : Nat → Option am_C) (_ : k + m = n) (_ : SoX h r n G g2 g3 f4) (_ : DkAt h d n (fun i => if i < k then pe (o i) else pe i) K) (_ : ∀ a, (a < r ∨ r + 5 ≤ a) → ¬ a = d + 1 → h a = g a), Rn sA mX7_arrange 49 [some (.ref r), some (.ref d), some (.int x), some (.int (nI k))] [] (h, z) Q
  | 0, k, h, hk, hx, hd, hg => by
    have hx9 := hx
    obtain ⟨hs1, hs2, hs3, hs4, hs5⟩ := hx9
    obtain rfl : k = n := by omega
    refine R_iload_n (pc := 49) dX7_arrange_49 rfl ?_
    refine R_aload_n (pc := 50) dX7_arrange_50 rfl ?_
    refine R_getf (pc := 51) dX7_arrange_51 rfl (by repeat (first | assumption | exact up_s | refine up_n (by omega) ?_)) rfl ?_
    refine R_icmp_ge (pc := 54) (t := 74) dX7_arrange_54 (by decide) (fun _ => ?_) (fun hz9 => absurd (nI_le (by omega) (by omega)) hz9)
    refine R_iload_n (pc := 74) dX7_arrange_74 rfl ?_
    refine R_iret (pc := 75) dX7_arrange_75 rfl ?_
    exact hX h hx hd hg
  | m + 1, k, h, hk, hx, hd, hg => by
    have hx9 := hx
    obtain ⟨hs1, hs2, hs3, hs4, hs5⟩ := hx9
    refine R_iload_n (pc := 49) dX7_arrange_49 rfl ?_
    refine R_aload_n (pc := 50) dX7_arrange_50 rfl ?_
    refine R_getf (pc := 51) dX7_arrange_51 rfl (by repeat (first | assumption | exact up_s | refine up_n (by omega) ?_)) rfl ?_
    refine R_icmp_ge (pc := 54) (t := 74) dX7_arrange_54 (by decide) (fun hz9 => absurd hz9 (nI_ge (by omega) (by omega))) (fun _ => ?_)
    refine R_aload_n (pc := 57) dX7_arrange_57 rfl ?_
    refine R_iload_n (pc := 58) dX7_arrange_58 rfl ?_
    refine R_aload_n (pc := 59) dX7_arrange_59 rfl ?_
    refine R_getf (pc := 60) dX7_arrange_60 rfl (by repeat (first | assumption | exact up_s | refine up_n (by omega) ?_)) rfl ?_
    refine R_iload_n (pc := 63) dX7_arrange_63 rfl ?_
    refine R_aald (pc := 64) dX7_arrange_64 hs5 (by decide) rfl (by omega) (by decide) (by rw [hA k (by omega)]) ?_
    refine R_callV (pc := 65) dX7_arrange_65 rfl hd.1 rfl rfl ?_
    refine c1_put hd (i := k) (j := pe (o k)) (by omega) (hpe (o k) (by have := ho k (by omega); omega)) (fun h3 q1 q2 => ?_)
    refine R_iinc (pc := 68) dX7_arrange_68 rfl (by first | exact nI_inc _ | rfl) rfl ?_
    refine R_goto (pc := 71) (t := 49) dX7_arrange_71 (by decide) ?_
    refine lc7_ar2 hn hrd ho hG hpe hA hX m (k + 1) h3 (by omega) (hx.fr (fun y x1 x2 => q2 y (by omega))) (q1.pe (fun i => ?_)) (fun a a1 a2 => (q2 a a2).trans (hg a a1 a2))
    unfold updN
    by_cases e : i = k
    · subst e; rw [if_pos rfl, if_pos (by omega)]
    · rw [if_neg e]
      show _ = if i < k then pe (o i) else pe i
      by_cases e2 : i < k
      · rw [if_pos e2, if_pos (by omega)]
      · rw [if_neg e2, if_neg (by omega)]
theorem c7_arrange {d n : Nat} {pe : Nat → Nat} {K : Nat → CdX} {r : Nat} {G g2 g3 : Nat → Int32} {o : Nat → Nat} {f4 : Nat → Option Nat} (hx : SoX h r n G g2 g3 f4) (hd : DkAt h d n pe K) (hn : n ≤ 40) (hrd : r + 5 ≤ d ∨ d + 84 ≤ r) (ho : ∀ i, i < n → o i < n) (hG : ∀ i, i < n → G i = nI (o i)) (hX : ∀ (h2 : Nat → Option am_C) (f5 : Nat → Option Nat), SoX h2 r n G g2 g3 f5 → DkAt h2 d n (fun i => if i < n then pe (o i) else pe i) K → (∀ a, (a < r ∨ r + 5 ≤ a) → ¬ a = d + 1 → h2 a = h a) → Q (some (.int (mvO o n 0 (nI 0)))) (h2, z)) : Rn sA mX7_arrange 0 [some (.ref r), some (.ref d), none, none] [] (h, z) Q := by
  refine R_iconst (pc := 0) (x := nI 0) dX7_arrange_0 rfl ?_
  refine R_istore_n (pc := 1) dX7_arrange_1 (Nat.le_of_ble_eq_true rfl) rfl ?_
  refine R_iconst (pc := 2) (x := nI 0) dX7_arrange_2 rfl ?_
  refine R_istore_n (pc := 3) dX7_arrange_3 (Nat.le_of_ble_eq_true rfl) rfl ?_
  refine lc7_ar1 (g := h) hd hn hrd ho hG n 0 h f4 (nI 0) (by omega) hx (fun i hi => absurd hi (Nat.not_lt_zero _)) (fun _ _ => rfl) (fun h2 f5 q1 q2 q3 => ?_)
  refine R_iconst (pc := 47) (x := nI 0) dX7_arrange_47 rfl ?_
  refine R_istore_n (pc := 48) dX7_arrange_48 (Nat.le_of_ble_eq_true rfl) rfl ?_
  refine lc7_ar2 (g := h) hn hrd ho hG hd.2.2.2 q2 (fun h3 r1 r2 r3 => hX h3 f5 r1 r2 r3) n 0 h2 (by omega) q1 ((hd.fr (fun y x1 x2 => q3 y (by omega))).pe (fun i => if_neg (Nat.not_lt_zero _))) (fun a a1 _ => q3 a a1)
theorem lc7_ord {d n : Nat} {pe : Nat → Nat} {K : Nat → CdX} {r l : Nat} {G g2 g3 : Nat → Int32} {o : Nat → Nat} {f4 : Nat → Option Nat} {P Wd : Nat → Nat} (hx : SoX h r n G g2 g3 f4) (hd : DkAt h d n pe K) (hn : n ≤ 40) (ho : ∀ i, i < n → o i < n) (hG : ∀ i, i < n → G i = nI (o i)) (hl : LyAt h l P Wd) (hPW : ∀ f, f < 6 → P f + Wd f ≤ 24) (hval : ∀ k, k < n → ∀ f, f < 3 → valF P Wd (K (pe (o k))).1 f = (-1000009) ∨ ∃ u, u < 10000 ∧ valF P Wd (K (pe (o k))).1 f = nI u) : ∀ (m k : Nat) (lt : Int64) (o6 o7 : Option Value) (_ : k + m = n) (_ : Q (some (.int (ordG P Wd (fun k => (K (pe (o k))).1) m k lt))) (h, z)), Rn sA mX7_isInKeyOrder 7 [some (.ref r), some (.ref d), some (.ref l), some (.long lt), none, some (.int (nI k)), o6, o7] [] (h, z) Q
  | 0, k, lt, o6, o7, hk, hQ => by
    have hx9 := hx
    obtain ⟨hs1, hs2, hs3, hs4, hs5⟩ := hx9
    obtain rfl : k = n := by omega
    refine R_iload (pc := 7) dX7_isInKeyOrder_7 rfl ?_
    refine R_aload_n (pc := 9) dX7_isInKeyOrder_9 rfl ?_
    refine R_getf (pc := 10) dX7_isInKeyOrder_10 rfl (by repeat (first | assumption | exact up_s | refine up_n (by omega) ?_)) rfl ?_
    refine R_icmp_ge (pc := 13) (t := 60) dX7_isInKeyOrder_13 (by decide) (fun _ => ?_) (fun hz9 => absurd (nI_le (by omega) (by omega)) hz9)
    refine R_iconst (pc := 60) (x := nI 1) dX7_isInKeyOrder_60 rfl ?_
    refine R_zret (pc := 61) dX7_isInKeyOrder_61 rfl (by decide) ?_
    exact hQ
  | m + 1, k, lt, o6, o7, hk, hQ => by
    have hx9 := hx
    obtain ⟨hs1, hs2, hs3, hs4, hs5⟩ := hx9
    have hdx := hd
    have hok := ho k (by omega)
    have hpk := hd.2.2.2 (o k) (by omega)
    have hl9 := hl
    obtain ⟨f2, f3, hl1, -⟩ := hl9
    by_cases hno : valF P Wd (K (pe (o k))).1 0 = (-1000009) ∨ valF P Wd (K (pe (o k))).1 1 = (-1000009) ∨ valF P Wd (K (pe (o k))).1 2 = (-1000009)
    · refine R_iload (pc := 7) dX7_isInKeyOrder_7 rfl ?_
      refine R_aload_n (pc := 9) dX7_isInKeyOrder_9 rfl ?_
      refine R_getf (pc := 10) dX7_isInKeyOrder_10 rfl (by repeat (first | assumption | exact up_s | refine up_n (by omega) ?_)) rfl ?_
      refine R_icmp_ge (pc := 13) (t := 60) dX7_isInKeyOrder_13 (by decide) (fun hz9 => absurd hz9 (nI_ge (by omega) (by omega))) (fun _ => ?_)
      refine R_aload_n (pc := 16) dX7_isInKeyOrder_16 rfl ?_
      refine R_aload_n (pc := 17) dX7_isInKeyOrder_17 rfl ?_
      refine R_aload_n (pc := 18) dX7_isInKeyOrder_18 rfl ?_
      refine R_getf (pc := 19) dX7_isInKeyOrder_19 rfl (by repeat (first | assumption | exact up_s | refine up_n (by omega) ?_)) rfl ?_
      refine R_iload (pc := 22) dX7_isInKeyOrder_22 rfl ?_
      refine R_iald (pc := 24) dX7_isInKeyOrder_24 (by repeat (first | assumption | exact up_s | refine up_n (by omega) ?_)) (Or.inl rfl) (by first | with_reducible rfl | (simp only [nI_add, pk_mul]; exact rfl)) (by omega) (by decide) ?_
      refine R_callV (pc := 25) dX7_isInKeyOrder_25 rfl hdx.1 rfl rfl ?_
      rw [hG k (by omega)]
      refine c1_at hdx (by omega) ?_
      refine R_callV (pc := 28) dX7_isInKeyOrder_28 rfl hl1 rfl rfl ?_
      refine c3_keyOn hl (hdx.2.2.1 _ hpk) hPW ?_
      rw [show keyC P Wd (K (pe (o k))).1 = (-1) from if_pos hno]
      refine R_lstore (pc := 31) dX7_isInKeyOrder_31 (Nat.le_of_ble_eq_true rfl) rfl ?_
      refine R_lload (pc := 33) dX7_isInKeyOrder_33 rfl ?_
      refine R_ldc2 (pc := 35) (x := (-1)) dX7_isInKeyOrder_35 rfl ?_
      refine R_lcmp (pc := 38) dX7_isInKeyOrder_38 ?_
      refine R_if_eq (pc := 39) (t := 54) dX7_isInKeyOrder_39 (by decide) (fun _ => ?_) (fun hz9 => absurd (cmp_eq.mpr rfl) hz9)
      refine R_iinc (pc := 54) dX7_isInKeyOrder_54 rfl (by first | exact nI_inc _ | rfl) rfl ?_
      refine R_goto (pc := 57) (t := 7) dX7_isInKeyOrder_57 (by decide) ?_
      refine lc7_ord hx hd hn ho hG hl hPW hval m (k + 1) lt _ _ (by omega) ?_
      unfold ordG at hQ
      rw [if_pos hno] at hQ
      exact hQ
    · have hne : ¬ keyM (valF P Wd (K (pe (o k))).1 0) (valF P Wd (K (pe (o k))).1 1) (valF P Wd (K (pe (o k))).1 2) = (-1) := by
        rcases hval k (by omega) 0 (by omega) with e0 | ⟨u0, u1, u2⟩
        · exact absurd (Or.inl e0) hno
        · rcases hval k (by omega) 1 (by omega) with e1 | ⟨v0, v1, v2⟩
          · exact absurd (Or.inr (Or.inl e1)) hno
          · rcases hval k (by omega) 2 (by omega) with e2 | ⟨w0, w1, w2⟩
            · exact absurd (Or.inr (Or.inr e2)) hno
            · rw [u2, v2, w2, keyM_nI u1 v1 w1]
              exact lN_nM (by omega)
      refine R_iload (pc := 7) dX7_isInKeyOrder_7 rfl ?_
      refine R_aload_n (pc := 9) dX7_isInKeyOrder_9 rfl ?_
      refine R_getf (pc := 10) dX7_isInKeyOrder_10 rfl (by repeat (first | assumption | exact up_s | refine up_n (by omega) ?_)) rfl ?_
      refine R_icmp_ge (pc := 13) (t := 60) dX7_isInKeyOrder_13 (by decide) (fun hz9 => absurd hz9 (nI_ge (by omega) (by omega))) (fun _ => ?_)
      refine R_aload_n (pc := 16) dX7_isInKeyOrder_16 rfl ?_
      refine R_aload_n (pc := 17) dX7_isInKeyOrder_17 rfl ?_
      refine R_aload_n (pc := 18) dX7_isInKeyOrder_18 rfl ?_
      refine R_getf (pc := 19) dX7_isInKeyOrder_19 rfl (by repeat (first | assumption | exact up_s | refine up_n (by omega) ?_)) rfl ?_
      refine R_iload (pc := 22) dX7_isInKeyOrder_22 rfl ?_
      refine R_iald (pc := 24) dX7_isInKeyOrder_24 (by repeat (first | assumption | exact up_s | refine up_n (by omega) ?_)) (Or.inl rfl) (by first | with_reducible rfl | (simp only [nI_add, pk_mul]; exact rfl)) (by omega) (by decide) ?_
      refine R_callV (pc := 25) dX7_isInKeyOrder_25 rfl hdx.1 rfl rfl ?_
      rw [hG k (by omega)]
      refine c1_at hdx (by omega) ?_
      refine R_callV (pc := 28) dX7_isInKeyOrder_28 rfl hl1 rfl rfl ?_
      refine c3_keyOn hl (hdx.2.2.1 _ hpk) hPW ?_
      rw [show keyC P Wd (K (pe (o k))).1 = _ from if_neg hno]
      refine R_lstore (pc := 31) dX7_isInKeyOrder_31 (Nat.le_of_ble_eq_true rfl) rfl ?_
      refine R_lload (pc := 33) dX7_isInKeyOrder_33 rfl ?_
      refine R_ldc2 (pc := 35) (x := (-1)) dX7_isInKeyOrder_35 rfl ?_
      refine R_lcmp (pc := 38) dX7_isInKeyOrder_38 ?_
      refine R_if_eq (pc := 39) (t := 54) dX7_isInKeyOrder_39 (by decide) (fun hz9 => absurd hz9 (fun q => hne (cmp_eq.mp q))) (fun _ => ?_)
      refine R_lload (pc := 42) dX7_isInKeyOrder_42 rfl ?_
      refine R_lload_n (pc := 44) dX7_isInKeyOrder_44 rfl ?_
      refine R_lcmp (pc := 45) dX7_isInKeyOrder_45 ?_
      refine R_if_ge (pc := 46) (t := 51) dX7_isInKeyOrder_46 (by decide) (fun h46 => ?_) (fun h46 => ?_)
      · refine R_lload (pc := 51) dX7_isInKeyOrder_51 rfl ?_
        refine R_lstore_n (pc := 53) dX7_isInKeyOrder_53 (Nat.le_of_ble_eq_true rfl) rfl ?_
        refine R_iinc (pc := 54) dX7_isInKeyOrder_54 rfl (by first | exact nI_inc _ | rfl) rfl ?_
        refine R_goto (pc := 57) (t := 7) dX7_isInKeyOrder_57 (by decide) ?_
        refine lc7_ord hx hd hn ho hG hl hPW hval m (k + 1) _ _ _ (by omega) ?_
        unfold ordG at hQ
        rw [if_neg hno, if_neg (cmp_ge.mp h46)] at hQ
        exact hQ
      · refine R_iconst (pc := 49) (x := nI 0) dX7_isInKeyOrder_49 rfl ?_
        refine R_zret (pc := 50) dX7_isInKeyOrder_50 rfl (by decide) ?_
        unfold ordG at hQ
        rw [if_neg hno, if_pos (Decidable.byContradiction (fun q => h46 (cmp_ge.mpr q)))] at hQ
        exact hQ
theorem ordG_congr {P Wd : Nat → Nat} {G G' : Nat → Nat → Int32} {N : Nat} (hPW : ∀ f, f < 6 → P f + Wd f ≤ 24) (hG : ∀ k, k < N → ∀ j, j < 24 → G k j = G' k j) : ∀ (n k : Nat) (l : Int64), k + n = N → ordG P Wd G n k l = ordG P Wd G' n k l
  | 0, _, _, _ => rfl
  | n + 1, k, l, h => by
    unfold ordG
    have c : ∀ f, f < 6 → valF P Wd (G k) f = valF P Wd (G' k) f := fun f hf => valR_congr (hG k (by omega)) (Wd f) 0 (nI 0) (by have := hPW f hf; omega)
    rw [c 0 (by omega), c 1 (by omega), c 2 (by omega), ordG_congr hPW hG n (k + 1) l (by omega), ordG_congr hPW hG n (k + 1) _ (by omega)]
theorem c7_isInKeyOrder {d n : Nat} {pe : Nat → Nat} {K : Nat → CdX} {r l : Nat} {G g2 g3 : Nat → Int32} {o : Nat → Nat} {f4 : Nat → Option Nat} {P Wd : Nat → Nat} {U : Nat → Int32} (hx : SoX h r n G g2 g3 f4) (hd : DkAt h d n pe K) (hR : DkR U n pe K) (hD : DigW U n) (hV : LayV Wd) (ho : ∀ i, i < n → o i < n) (hG : ∀ i, i < n → G i = nI (o i)) (hl : LyAt h l P Wd) (hPW : ∀ f, f < 6 → P f + Wd f ≤ 24) (hQ : Q (some (.int (ordG P Wd (fun k j => U (20 + 26 * o k + j)) n 0 (-1)))) (h, z)) : Rn sA mX7_isInKeyOrder 0 [some (.ref r), some (.ref d), some (.ref l), none, none, none, none, none] [] (h, z) Q := by
  have hc : ∀ k, k < n → ∀ j, j < 24 → (K (pe (o k))).1 j = U (20 + 26 * o k + j) := fun k hk j hj => (hR.2.2.2 (o k) (ho k hk)).1 j hj
  have hval : ∀ k, k < n → ∀ f, f < 3 → valF P Wd (K (pe (o k))).1 f = (-1000009) ∨ ∃ u, u < 10000 ∧ valF P Wd (K (pe (o k))).1 f = nI u := by
    intro k hk f hf
    refine valF_rng (fun j hj => ?_) (hPW f (by omega)) (hV f (by omega)).2
    obtain ⟨e, e1, e2⟩ := hD (o k) (ho k hk) j hj
    exact ⟨e, e1, (hc k hk j hj).trans e2⟩
  rw [← ordG_congr (G := (fun k => (K (pe (o k))).1)) hPW hc n 0 (-1) (by omega)] at hQ
  refine R_ldc2 (pc := 0) (x := (-1)) dX7_isInKeyOrder_0 rfl ?_
  refine R_lstore_n (pc := 3) dX7_isInKeyOrder_3 (Nat.le_of_ble_eq_true rfl) rfl ?_
  refine R_iconst (pc := 4) (x := nI 0) dX7_isInKeyOrder_4 rfl ?_
  refine R_istore (pc := 5) dX7_isInKeyOrder_5 (Nat.le_of_ble_eq_true rfl) rfl ?_
  exact lc7_ord hx hd hR.2.1 ho hG hl hPW hval n 0 (-1) none none (by omega) hQ
end CD1
