section CC5
variable {sA : Nat} {h : Nat → Option am_C} {z : Nat × Nat} {Q : Option Value → am_H → Prop}
/-- a state at s -/
def StAt (h : Nat → Option am_C) (s : Nat) (P Wd : Nat → Nat) (n : Nat) (pe : Nat → Nat) (K : Nat → CdX) (R : RpX) (se co : Nat → Int32) : Prop := h s = some (.inr (8, [.ref (s + 1), .ref (s + 4), .ref (s + 88), .ref (s + 91), .ref (s + 92)])) ∧ LyAt h (s + 1) P Wd ∧ DkAt h (s + 4) n pe K ∧ RpAt h (s + 88) R ∧ h (s + 91) = some (.inl (0, 4, .inl se)) ∧ h (s + 92) = some (.inl (0, 3, .inl co))
theorem StAt.fr {h h' : Nat → Option am_C} {s : Nat} {P Wd : Nat → Nat} {n : Nat} {pe : Nat → Nat} {K : Nat → CdX} {R : RpX} {se co : Nat → Int32} (a : StAt h s P Wd n pe K R se co) (e : ∀ x, s ≤ x → x < s + 93 → h' x = h x) : StAt h' s P Wd n pe K R se co := ⟨(e _ (by omega) (by omega)).trans a.1, a.2.1.fr (fun x x1 x2 => e x (by omega) (by omega)), a.2.2.1.fr (fun x x1 x2 => e x (by omega) (by omega)), a.2.2.2.1.fr (fun x x1 x2 => e x (by omega) (by omega)), (e _ (by omega) (by omega)).trans a.2.2.2.2.1, (e _ (by omega) (by omega)).trans a.2.2.2.2.2⟩
def lnN (U : Nat → Int32) (i : Nat) : Nat := cnt (fun l => if U (1305 + 9 * l) = 0 then 0 else 1) 0 i
/-- what a state holds is what the reference's numbers say -/
def DkR (U : Nat → Int32) (n : Nat) (pe : Nat → Nat) (K : Nat → CdX) : Prop := U 19 = nI n ∧ n ≤ 40 ∧ InjP pe ∧ ∀ i, i < n → (∀ k, k < 24 → (K (pe i)).1 k = U (20 + 26 * i + k)) ∧ (K (pe i)).2.1 = U (20 + 26 * i + 24) ∧ (K (pe i)).2.2 = U (20 + 26 * i + 25)
def RpR (U : Nat → Int32) (R : RpX) : Prop := U 1304 = nI R.1 ∧ R.1 ≤ 161 ∧ U 1062 = nI R.2.1 ∧ R.2.1 ≤ 40 ∧ U 1061 = R.2.2.1 ∧ (∀ i, i < R.1 → ∀ j, j < 9 → R.2.2.2.1 (i * 10 + j) = U (1305 + 9 * i + j)) ∧ (∀ i, i < R.1 → U (1305 + 9 * i) = 0 → R.2.2.2.1 (i * 10 + 9) = U (1104 + 5 * lnN U i + 4)) ∧ ∀ k, k < R.2.1 → R.2.2.2.2 k = U (1063 + k)
def StR (U : Nat → Int32) (P Wd : Nat → Nat) (n : Nat) (pe : Nat → Nat) (K : Nat → CdX) (R : RpX) (se co : Nat → Int32) : Prop := LayW U P Wd ∧ LayV Wd ∧ DkR U n pe K ∧ RpR U R ∧ (∀ f, f < 4 → se f = U (12 + f)) ∧ ∀ k, k < 3 → co k = U (16 + k)
def StW (h : Nat → Option am_C) (s : Nat) (U : Nat → Int32) : Prop := ∃ P Wd n pe K R se co, StAt h s P Wd n pe K R se co ∧ StR U P Wd n pe K R se co
def StS (h : Nat → Option am_C) (s : Nat) : Prop := ∃ P Wd n pe K R se co, StAt h s P Wd n pe K R se co ∧ InjP pe
theorem StW.fr {h h' : Nat → Option am_C} {s : Nat} {U : Nat → Int32} (a : StW h s U) (e : ∀ x, s ≤ x → x < s + 93 → h' x = h x) : StW h' s U := by
  obtain ⟨P, Wd, n, pe, K, R, se, co, a1, a2⟩ := a
  exact ⟨P, Wd, n, pe, K, R, se, co, a1.fr e, a2⟩
theorem StS.fr {h h' : Nat → Option am_C} {s : Nat} (a : StS h s) (e : ∀ x, s ≤ x → x < s + 93 → h' x = h x) : StS h' s := by
  obtain ⟨P, Wd, n, pe, K, R, se, co, a1, a2⟩ := a
  exact ⟨P, Wd, n, pe, K, R, se, co, a1.fr e, a2⟩
theorem StW.sh {h : Nat → Option am_C} {s : Nat} {U : Nat → Int32} (a : StW h s U) : StS h s := by
  obtain ⟨P, Wd, n, pe, K, R, se, co, a1, a2⟩ := a
  exact ⟨P, Wd, n, pe, K, R, se, co, a1, a2.2.2.1.2.2.1⟩
theorem c8_settingOf {s : Nat} {P Wd : Nat → Nat} {n : Nat} {pe : Nat → Nat} {K : Nat → CdX} {R : RpX} {se co : Nat → Int32} {k : Nat} {g : Nat → Int32} (hs : StAt h s P Wd n pe K R se co) (hst : h sA = some (.inl (9, 4, .inl g))) (hk : k < 4) (hQ : Q (some (.int (se k))) (h, z)) : Rn sA mX8_settingOf 0 [some (.ref s), some (.int (nI k))] [] (h, z) Q := by
  have hs9 := hs
  obtain ⟨hs1, hs2, hs3, hs4, hs5, hs6⟩ := hs9
  refine R_iload_n (pc := 0) dX8_settingOf_0 rfl ?_
  refine R_callS (pc := 1) dX8_settingOf_1 rfl (Or.inr rfl) rfl rfl ?_
  refine c_isSetting hst (fun j hj e => ?_) (fun e => absurd rfl (e k hk))
  · obtain rfl := (nI_eq (by omega) (by omega)).mp e
    refine R_if_eq (pc := 4) (t := 16) dX8_settingOf_4 (by decide) (fun hz9 => absurd hz9 (by decide)) (fun _ => ?_)
    refine R_aload_n (pc := 7) dX8_settingOf_7 rfl ?_
    refine R_getf (pc := 8) dX8_settingOf_8 rfl (by repeat (first | assumption | exact up_s | refine up_n (by omega) ?_)) rfl ?_
    refine R_iload_n (pc := 11) dX8_settingOf_11 rfl ?_
    refine R_iald (pc := 12) dX8_settingOf_12 (by repeat (first | assumption | exact up_s | refine up_n (by omega) ?_)) (Or.inl rfl) (by first | with_reducible rfl | (simp only [nI_add, pk_mul]; exact rfl)) (by omega) (by decide) ?_
    refine R_goto (pc := 13) (t := 17) dX8_settingOf_13 (by decide) ?_
    refine R_iret (pc := 17) dX8_settingOf_17 rfl ?_
    exact hQ
theorem c8_copyX {s : Nat} {P Wd : Nat → Nat} {n : Nat} {pe : Nat → Nat} {K : Nat → CdX} {R : RpX} {se co : Nat → Int32} {t : Nat} {P2 Wd2 : Nat → Nat} {m : Nat} {qe : Nat → Nat} {K2 : Nat → CdX} {R2 : RpX} {te do_ : Nat → Int32} (hs : StAt h s P Wd n pe K R se co) (ht : StAt h t P2 Wd2 m qe K2 R2 te do_) (hst : s + 93 ≤ t ∨ t + 93 ≤ s) (hm : m ≤ 40) (hi : InjP pe) (hr1 : R2.1 ≤ 161) (hr2 : R2.2.1 ≤ 40) (hQ : ∀ (h2 : Nat → Option am_C) (K3 : Nat → CdX) (R3 : RpX) (se3 co3 : Nat → Int32), StAt h2 s P2 Wd2 m pe K3 R3 se3 co3 → (∀ i, i < m → CdEq (K3 (pe i)) (K2 (qe i))) → RpEq R3 R2 → (∀ j, j < 4 → se3 j = te j) → (∀ j, j < 3 → co3 j = do_ j) → (∀ a, (a < s ∨ s + 93 ≤ a) → h2 a = h a) → Q none (h2, z)) : Rn sA mX8_copyFrom 0 [some (.ref s), some (.ref t)] [] (h, z) Q := by
  have hs9 := hs
  obtain ⟨hs1, hs2, hs3, hs4, hs5, hs6⟩ := hs9
  have ht9 := ht
  obtain ⟨ht1, ht2, ht3, ht4, ht5, ht6⟩ := ht9
  have hs2l : ∃ fs, h (s + 1) = some (.inr (3, fs)) := by obtain ⟨_, _, q, _⟩ := hs2; exact ⟨_, q⟩
  obtain ⟨fs3, hs2l⟩ := hs2l
  refine R_aload_n (pc := 0) dX8_copyFrom_0 rfl ?_
  refine R_getf (pc := 1) dX8_copyFrom_1 rfl (by repeat (first | assumption | exact up_s | refine up_n (by omega) ?_)) rfl ?_
  refine R_aload_n (pc := 4) dX8_copyFrom_4 rfl ?_
  refine R_getf (pc := 5) dX8_copyFrom_5 rfl (by repeat (first | assumption | exact up_s | refine up_n (by omega) ?_)) rfl ?_
  refine R_callV (pc := 8) dX8_copyFrom_8 rfl hs2l rfl rfl ?_
  refine c3_copyFrom hs2 ht2 (by omega) (fun h2 q1 q2 => ?_)
  have a1 : h2 s = _ := (q2 s (by omega)).trans hs1
  have b1 : h2 t = _ := (q2 t (by omega)).trans ht1
  have a3 : DkAt h2 (s + 4) n pe K := hs3.fr (fun x x1 x2 => q2 x (by omega))
  have b3 : DkAt h2 (t + 4) m qe K2 := ht3.fr (fun x x1 x2 => q2 x (by omega))
  refine R_aload_n (pc := 11) dX8_copyFrom_11 rfl ?_
  refine R_getf (pc := 12) dX8_copyFrom_12 rfl (by repeat (first | assumption | exact up_s | refine up_n (by omega) ?_)) rfl ?_
  refine R_aload_n (pc := 15) dX8_copyFrom_15 rfl ?_
  refine R_getf (pc := 16) dX8_copyFrom_16 rfl (by repeat (first | assumption | exact up_s | refine up_n (by omega) ?_)) rfl ?_
  refine R_callV (pc := 19) dX8_copyFrom_19 rfl a3.1 rfl rfl ?_
  refine c1_copyFrom a3 b3 hm (by omega) hi (fun h3 K3 q3 q4 q5 => ?_)
  have a1 : h3 s = _ := (q5 s (by omega)).trans a1
  have b1 : h3 t = _ := (q5 t (by omega)).trans b1
  have a4 : RpAt h3 (s + 88) R := hs4.fr (fun x x1 x2 => (q5 x (by omega)).trans (q2 x (by omega)))
  have b4 : RpAt h3 (t + 88) R2 := ht4.fr (fun x x1 x2 => (q5 x (by omega)).trans (q2 x (by omega)))
  refine R_aload_n (pc := 22) dX8_copyFrom_22 rfl ?_
  refine R_getf (pc := 23) dX8_copyFrom_23 rfl (by repeat (first | assumption | exact up_s | refine up_n (by omega) ?_)) rfl ?_
  refine R_aload_n (pc := 26) dX8_copyFrom_26 rfl ?_
  refine R_getf (pc := 27) dX8_copyFrom_27 rfl (by repeat (first | assumption | exact up_s | refine up_n (by omega) ?_)) rfl ?_
  refine R_callV (pc := 30) dX8_copyFrom_30 rfl a4.1 rfl rfl ?_
  refine c5_copyFrom a4 b4 (by omega) hr1 hr2 (fun h4 R3 q6 q7 q8 => ?_)
  have a1 : h4 s = _ := (q8 s (by omega)).trans a1
  have b1 : h4 t = _ := (q8 t (by omega)).trans b1
  have a5 : h4 (s + 91) = _ := (q8 (s + 91) (by omega)).trans ((q5 (s + 91) (by omega)).trans ((q2 (s + 91) (by omega)).trans hs5))
  have b5 : h4 (t + 91) = _ := (q8 (t + 91) (by omega)).trans ((q5 (t + 91) (by omega)).trans ((q2 (t + 91) (by omega)).trans ht5))
  have a6 : h4 (s + 92) = _ := (q8 (s + 92) (by omega)).trans ((q5 (s + 92) (by omega)).trans ((q2 (s + 92) (by omega)).trans hs6))
  have b6 : h4 (t + 92) = _ := (q8 (t + 92) (by omega)).trans ((q5 (t + 92) (by omega)).trans ((q2 (t + 92) (by omega)).trans ht6))
  refine R_aload_n (pc := 33) dX8_copyFrom_33 rfl ?_
  refine R_getf (pc := 34) dX8_copyFrom_34 rfl (by repeat (first | assumption | exact up_s | refine up_n (by omega) ?_)) rfl ?_
  refine R_iconst (pc := 37) (x := nI 0) dX8_copyFrom_37 rfl ?_
  refine R_aload_n (pc := 38) dX8_copyFrom_38 rfl ?_
  refine R_getf (pc := 39) dX8_copyFrom_39 rfl (by repeat (first | assumption | exact up_s | refine up_n (by omega) ?_)) rfl ?_
  refine R_iconst (pc := 42) (x := nI 0) dX8_copyFrom_42 rfl ?_
  refine R_aload_n (pc := 43) dX8_copyFrom_43 rfl ?_
  refine R_getf (pc := 44) dX8_copyFrom_44 rfl (by repeat (first | assumption | exact up_s | refine up_n (by omega) ?_)) rfl ?_
  refine R_alen (pc := 47) dX8_copyFrom_47 (by repeat (first | assumption | exact up_s | refine up_n (by omega) ?_)) (Or.inl rfl) ?_
  refine R_copy (pc := 48) dX8_copyFrom_48 rfl rfl (by repeat (first | assumption | exact up_s | refine up_n (by omega) ?_)) (by repeat (first | assumption | exact up_s | refine up_n (by omega) ?_)) rfl rfl rfl (by omega) (by omega) ⟨Nat.le_of_ble_eq_true rfl, Nat.le_of_ble_eq_true rfl⟩ ?_
  refine R_aload_n (pc := 51) dX8_copyFrom_51 rfl ?_
  refine R_getf (pc := 52) dX8_copyFrom_52 rfl (by repeat (first | assumption | exact up_s | refine up_n (by omega) ?_)) rfl ?_
  refine R_iconst (pc := 55) (x := nI 0) dX8_copyFrom_55 rfl ?_
  refine R_aload_n (pc := 56) dX8_copyFrom_56 rfl ?_
  refine R_getf (pc := 57) dX8_copyFrom_57 rfl (by repeat (first | assumption | exact up_s | refine up_n (by omega) ?_)) rfl ?_
  refine R_iconst (pc := 60) (x := nI 0) dX8_copyFrom_60 rfl ?_
  refine R_aload_n (pc := 61) dX8_copyFrom_61 rfl ?_
  refine R_getf (pc := 62) dX8_copyFrom_62 rfl (by repeat (first | assumption | exact up_s | refine up_n (by omega) ?_)) rfl ?_
  refine R_alen (pc := 65) dX8_copyFrom_65 (by repeat (first | assumption | exact up_s | refine up_n (by omega) ?_)) (Or.inl rfl) ?_
  refine R_copy (pc := 66) dX8_copyFrom_66 rfl rfl (by repeat (first | assumption | exact up_s | refine up_n (by omega) ?_)) (by repeat (first | assumption | exact up_s | refine up_n (by omega) ?_)) rfl rfl rfl (by omega) (by omega) ⟨Nat.le_of_ble_eq_true rfl, Nat.le_of_ble_eq_true rfl⟩ ?_
  refine R_vret (pc := 69) dX8_copyFrom_69 rfl ?_
  refine hQ _ K3 R3 _ _ ⟨up_n (by omega) (up_n (by omega) a1), q1.fr (fun x x1 x2 => ?_), q3.fr (fun x x1 x2 => ?_), q6.fr (fun x x1 x2 => ?_), up_n (by omega) up_s, up_s⟩ q4 q7 (fun j hj => ?_) (fun j hj => ?_) (fun a ha => ?_)
  · simp only [va_up]
    rw [if_neg (by omega), if_neg (by omega), q8 x (by omega), q5 x (by omega)]
  · simp only [va_up]
    rw [if_neg (by omega), if_neg (by omega), q8 x (by omega)]
  · simp only [va_up]
    rw [if_neg (by omega), if_neg (by omega)]
  · rw [cpy_in (by omega) (by omega), Nat.sub_zero, Nat.zero_add]
  · rw [cpy_in (by omega) (by omega), Nat.sub_zero, Nat.zero_add]
  · simp only [va_up]
    rw [if_neg (by omega), if_neg (by omega), q8 a (by omega), q5 a (by omega), q2 a (by omega)]
theorem c8_copyFrom {s t : Nat} {U : Nat → Int32} (hs : StS h s) (ht : StW h t U) (hst : s + 93 ≤ t ∨ t + 93 ≤ s) (hQ : ∀ h2 : Nat → Option am_C, StW h2 s U → (∀ a, (a < s ∨ s + 93 ≤ a) → h2 a = h a) → Q none (h2, z)) : Rn sA mX8_copyFrom 0 [some (.ref s), some (.ref t)] [] (h, z) Q := by
  obtain ⟨P, Wd, n, pe, K, R, se, co, a1, a2⟩ := hs
  obtain ⟨P2, Wd2, m, qe, K2, R2, te, do_, b1, b2, b3, b4, b5, b6, b7⟩ := ht
  refine c8_copyX a1 b1 hst b4.2.1 a2 b5.2.1 b5.2.2.2.1 (fun h2 K3 R3 se3 co3 q1 q2 q3 q4 q5 q6 => hQ h2 ⟨P2, Wd2, m, pe, K3, R3, se3, co3, q1, b2, b3, ⟨b4.1, b4.2.1, a2, fun i hi => ?_⟩, ?_, fun f hf => (q4 f hf).trans (b6 f hf), fun k hk => (q5 k hk).trans (b7 k hk)⟩ q6)
  · obtain ⟨c1, c2, c3⟩ := b4.2.2.2 i hi
    obtain ⟨d1, d2⟩ := q2 i hi
    refine ⟨fun k hk => (d2 k hk).trans (c1 k hk), ?_, ?_⟩
    · rw [d1]; exact c2
    · rw [d1]; exact c3
  · obtain ⟨r1, r2, r3, r4, r5⟩ := q3
    obtain ⟨e1, e2, e3, e4, e5, e6, e7, e8⟩ := b5
    refine ⟨by rw [r1]; exact e1, by rw [r1]; exact e2, by rw [r2]; exact e3, by rw [r2]; exact e4, by rw [r3]; exact e5, fun i hi j hj => ?_, fun i hi h0 => ?_, fun k hk => ?_⟩
    · rw [r1] at hi
      rw [r4 _ (by omega)]
      exact e6 i hi j hj
    · rw [r1] at hi
      rw [r4 _ (by omega)]
      exact e7 i hi h0
    · rw [r2] at hk
      rw [r5 k hk]
      exact e8 k hk
end CC5
