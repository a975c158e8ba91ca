section CG0
variable {sA : Nat} {h : Nat → Option am_C} {z : Nat × Nat} {Q : Option Value → am_H → Prop}
theorem Rn_h {mi : am_I} {pc : Nat} {ls : am_L} {st : List Value} {h' : Nat → Option am_C} (e : h = h') (k : Rn sA mi pc ls st (h', z) Q) : Rn sA mi pc ls st (h, z) Q := by subst e; exact k
theorem putM_keep {h h2 : Nat → Option am_C} {M : Nat} {A : Nat → Nat → Int32} {S : Nat → Int32} (hp : putM h M A S = h) (e : ∀ a, M ≤ a → a < M + 14 → h2 a = h a) : putM h2 M A S = h2 := by
  funext a
  have q := congrFun hp a
  unfold putM at q ⊢
  by_cases h1 : a = M
  · rw [if_pos h1] at q ⊢
    rw [q]; exact (e a (by omega) (by omega)).symm
  · rw [if_neg h1] at q ⊢
    by_cases h2 : M < a ∧ a < M + 14
    · rw [if_pos h2] at q ⊢
      rw [q]; exact (e a (by omega) (by omega)).symm
    · rw [if_neg h2]
theorem putM_putM {h : Nat → Option am_C} {M : Nat} {A A2 : Nat → Nat → Int32} {S S2 : Nat → Int32} : putM (putM h M A S) M A2 S2 = putM h M A2 S2 := by
  funext a
  unfold putM
  by_cases h1 : a = M
  · rw [if_pos h1, if_pos h1]
  · rw [if_neg h1, if_neg h1]
    by_cases h2 : M < a ∧ a < M + 14
    · rw [if_pos h2, if_neg h1, if_pos h2]
    · simp only [if_neg h1, if_neg h2]
theorem putM_ou {h : Nat → Option am_C} {M a : Nat} {A : Nat → Nat → Int32} {S : Nat → Int32} (e : a < M ∨ M + 14 ≤ a) : putM h M A S a = h a := by
  unfold putM
  rw [if_neg (by omega), if_neg (by omega)]
/-- between two calls: the script, the class's object at x, the reference behind it; both say the same -/
def LX (b L : Nat) (xs gs : Nat → Int32) (sA x Y : Nat) (h : Nat → Option am_C) (z : Nat × Nat) (A : Nat → Nat → Int32) (S : Nat → Int32) (pm fl l : Nat) : Prop := h b = some (.inl (9, L, .inl xs)) ∧ h sA = some (.inl (9, 4, .inl gs)) ∧ StW h (x + 1) (A 1) ∧ RstI h z x (x + 172) Y (A 2) pm (A 3) fl (A 4) l (S 7) (S 8) ∧ ScrI h x ∧ S 2 = nI pm ∧ S 4 = nI fl ∧ S 6 = nI l ∧ WOK (A 1) ∧ (∀ i, i < pm → WOK (fun j => A 2 (2754 * i + j))) ∧ ∀ i, i < 2 → ¬ fl / 2 ^ i % 2 = 0 → WOK (fun j => A 3 (2754 * i + j))
theorem LX.put {b L sA x Y pm fl l pm2 fl2 l2 : Nat} {xs gs : Nat → Int32} {h h2 : Nat → Option am_C} {z z2 : Nat × Nat} {A A2 : Nat → Nat → Int32} {S S2 : Nat → Int32} (lx : LX b L xs gs sA x Y h z A S pm fl l) (hbx : b < x) (hsA : sA < x) (e : ∀ a, a < x → h2 a = h a) (st : StW h2 (x + 1) (A2 1)) (r : RstI h2 z2 x (x + 172) Y (A2 2) pm2 (A2 3) fl2 (A2 4) l2 (S2 7) (S2 8)) (sc : ScrI h2 x) (s2 : S2 2 = nI pm2) (s4 : S2 4 = nI fl2) (s6 : S2 6 = nI l2) (w1 : WOK (A2 1)) (w2 : ∀ i, i < pm2 → WOK (fun j => A2 2 (2754 * i + j))) (w3 : ∀ i, i < 2 → ¬ fl2 / 2 ^ i % 2 = 0 → WOK (fun j => A2 3 (2754 * i + j))) : LX b L xs gs sA x Y (putM h2 (x + 158) A2 S2) z2 A2 S2 pm2 fl2 l2 :=
  ⟨(putM_ou (by omega)).trans ((e b hbx).trans lx.1), (putM_ou (by omega)).trans ((e sA hsA).trans lx.2.1), st.fr (fun y y1 y2 => putM_ou (by omega)), r.fr (fun y hy => putM_ou (by omega)), sc.fr (fun y y1 y2 => putM_ou (by omega)), s2, s4, s6, w1, w2, w3⟩
theorem WOK.rem {U PA : Nat → Int32} {pm : Nat} (w1 : WOK U) (w2 : ∀ i, i < pm → WOK (fun j => PA (2754 * i + j))) (hp : pm ≤ 8) : ∀ i, i < remN pm → WOK (fun j => remP U PA pm (2754 * i + j)) := by
  intro i hi
  unfold remN at hi
  unfold remP
  by_cases p8 : pm = 8
  · rw [if_pos p8] at hi ⊢
    by_cases e : i = 7
    · subst e
      refine w1.cg (fun j _ hj => ?_)
      show va_cpy U _ 0 (2754 * 7) 2754 (2754 * 7 + j) = U j
      rw [cpy_in (by omega) (by omega), show 0 + (2754 * 7 + j - 2754 * 7) = j by omega]
    · refine (w2 (i + 1) (by omega)).cg (fun j _ hj => ?_)
      show va_cpy U _ 0 (2754 * 7) 2754 (2754 * i + j) = PA (2754 * (i + 1) + j)
      rw [cpy_out (by omega), cpy_in (by omega) (by omega), show 2754 + (2754 * i + j - 0) = 2754 * (i + 1) + j by omega]
  · rw [if_neg p8] at hi ⊢
    by_cases e : i = pm
    · subst e
      refine w1.cg (fun j _ hj => ?_)
      show va_cpy U _ 0 (2754 * i) 2754 (2754 * i + j) = U j
      rw [cpy_in (by omega) (by omega), show 0 + (2754 * i + j - 2754 * i) = j by omega]
    · refine (w2 i (by omega)).cg (fun j _ hj => ?_)
      show va_cpy U _ 0 (2754 * pm) 2754 (2754 * i + j) = PA (2754 * i + j)
      rw [cpy_out (by omega)]
/-- a call that has recorded -/
theorem LX.rc {b L sA x Y pm fl l : Nat} {xs gs : Nat → Int32} {h h3 : Nat → Option am_C} {z z3 : Nat × Nat} {A A2 : Nat → Nat → Int32} {S S2 : Nat → Int32} (lx : LX b L xs gs sA x Y h z A S pm fl l) (hbx : b < x) (hsA : sA < x) (hpm : pm ≤ 8) (o : OutI h h3 z3 x (x + 172) Y (A2 1) (remP (A 1) (A 2) pm) (remN pm) (A 3) fl (A 4) l (S 7) (S 8)) (e2 : A2 2 = remP (A 1) (A 2) pm) (e3 : A2 3 = A 3) (e4 : A2 4 = A 4) (s2 : S2 2 = nI (remN pm)) (sq : ∀ q, q < 9 → ¬ q = 2 → S2 q = S q) (w1 : WOK (A2 1)) : LX b L xs gs sA x Y (putM h3 (x + 158) A2 S2) z3 A2 S2 (remN pm) fl l := by
  obtain ⟨o1, o2, o3, o4⟩ := o
  obtain ⟨-, -, -, -, -, hS2, hS4, hS6, wk, wp, wi⟩ := id lx
  refine lx.put hbx hsA (fun a ha => o4 a (by omega)) o1 ?_ o3 s2 ((sq 4 (by omega) (by omega)).trans hS4) ((sq 6 (by omega) (by omega)).trans hS6) w1 ?_ ?_
  · rw [e2, e3, e4, sq 7 (by omega) (by omega), sq 8 (by omega) (by omega)]; exact o2
  · rw [e2]; exact wk.rem wp hpm
  · rw [e3]; exact wi
/-- a call that has changed nothing but what is worked with -/
theorem LX.qy {b L sA x Y pm fl l : Nat} {xs gs : Nat → Int32} {h h3 : Nat → Option am_C} {z : Nat × Nat} {A A2 : Nat → Nat → Int32} {S S2 : Nat → Int32} (lx : LX b L xs gs sA x Y h z A S pm fl l) (hbx : b < x) (hsA : sA < x) (sc : ScrI h3 x) (e : ∀ a, (a < x + 101 ∨ x + 158 ≤ a) → h3 a = h a) (e1 : A2 1 = A 1) (e2 : A2 2 = A 2) (e3 : A2 3 = A 3) (e4 : A2 4 = A 4) (sq : ∀ q, q < 9 → S2 q = S q) : LX b L xs gs sA x Y (putM h3 (x + 158) A2 S2) z A2 S2 pm fl l := by
  obtain ⟨-, -, st, r, -, hS2, hS4, hS6, wk, wp, wi⟩ := id lx
  refine lx.put hbx hsA (fun a ha => e a (by omega)) ?_ ?_ sc ((sq 2 (by omega)).trans hS2) ((sq 4 (by omega)).trans hS4) ((sq 6 (by omega)).trans hS6) ?_ ?_ ?_
  · rw [e1]; exact st.fr (fun y y1 y2 => e y (by omega))
  · rw [e2, e3, e4, sq 7 (by omega), sq 8 (by omega)]; exact r.fr (fun y hy => e y (by omega))
  · rw [e1]; exact wk
  · rw [e2]; exact wp
  · rw [e3]; exact wi
theorem va_up_o {α : Type} {f : Nat → α} {k j : Nat} {x : α} (h : ¬ j = k) : va_up f k x j = f j := by unfold va_up; rw [if_neg h]
theorem law_c16 {b L k x Y pm fl l : Nat} {xs gs : Nat → Int32} {A : Nat → Nat → Int32} {S : Nat → Int32} {o4 o5 o6 o7 : Option Value} (hk : k + 4 ≤ L) (hL : L ≤ 2048) (hbx : b < x) (hsA : sA < x) (hgs : ∀ k, k < 4 → gs k = nI (if k = 0 then 2 else if k = 1 then 1 else 9999)) (hp : putM h (x + 158) A S = h) (lx : LX b L xs gs sA x Y h z A S pm fl l)  (hX : ∀ (h' : Nat → Option am_C) (z' : Nat × Nat) (A' : Nat → Nat → Int32) (S' : Nat → Int32) (pm' fl' l' : Nat) (o4 o5 o6 o7 : Option Value), putM h' (x + 158) A' S' = h' → LX b L xs gs sA x Y h' z' A' S' pm' fl' l' → Rn sA mL_law 1005 [some (.ref b), some (.ref x), some (.ref (x + 158)), some (.int (nI k)), o4, o5, o6, o7] [] (h', z') Q) : Rn sA mL_law 600 [some (.ref b), some (.ref x), some (.ref (x + 158)), some (.int (nI k)), o4, o5, o6, o7] [] (h, z) Q := by
  obtain ⟨hb, hst, st, r, sc, hS2, hS4, hS6, wk, wp, wi⟩ := id lx
  have hx := r.2.1
  have hpm : pm ≤ 8 := by obtain ⟨_, _, ⟨_, _, q, _⟩, _⟩ := r; exact q.2.2.2.1
  have hfl : fl < 4 := by obtain ⟨_, _, ⟨_, _, _, q, _⟩, _⟩ := r; exact q.2.1
  have hl := r.2.2.2.2
  have hM : h (x + 158) = some (.inr (12, mo_obj (x + 158) S)) := by rw [← hp]; exact putM_o
  obtain ⟨P, Wd, n, pe, K, R, se, co, sa, sr⟩ := id st
  obtain ⟨⟨n0, okd⟩, m, rep⟩ := id wk
  have hw := sr.2.2.1.1
  have hn := sr.2.2.1.2.1
  obtain rfl : n = n0 := (nI_eq (by omega) (by have := okd.2.1; omega)).mp (hw.symm.trans okd.1)
  have hD := okd.2.2.1
  have hT := okd.2.2.2
  refine R_aload_n (pc := 600) dL_law_600 rfl ?_
  refine R_aload_n (pc := 601) dL_law_601 rfl ?_
  refine R_iload_n (pc := 602) dL_law_602 rfl ?_
  refine R_iconst (pc := 603) (x := nI 1) dL_law_603 rfl ?_
  refine R_iadd (pc := 604) dL_law_604 ?_
  refine R_iald (pc := 605) dL_law_605 (by repeat (first | assumption | exact up_s | refine up_n (by omega) ?_)) (Or.inr rfl) (by first | with_reducible rfl | (simp only [nI_add]; exact rfl)) (by omega) (by omega) ?_
  refine R_callV (pc := 606) dL_law_606 rfl (by repeat (first | assumption | exact up_s | refine up_n (by omega) ?_)) rfl rfl ?_
  refine c11_setting r st hst (fun hbad => ?_) (fun j hj e => ?_)
  · refine R_aload_n (pc := 609) dL_law_609 rfl ?_
    refine R_aload_n (pc := 610) dL_law_610 rfl ?_
    refine R_iload_n (pc := 611) dL_law_611 rfl ?_
    refine R_iconst (pc := 612) (x := nI 1) dL_law_612 rfl ?_
    refine R_iadd (pc := 613) dL_law_613 ?_
    refine R_iald (pc := 614) dL_law_614 (by repeat (first | assumption | exact up_s | refine up_n (by omega) ?_)) (Or.inr rfl) (by first | with_reducible rfl | (simp only [nI_add]; exact rfl)) (by omega) (by omega) ?_
    refine R_callV (pc := 615) dL_law_615 rfl hM rfl rfl ?_
    refine Rn_h hp.symm ?_
    refine s12_setting (fun _ => ?_) (fun k2 hk2 e2 => absurd e2 (hbad k2 hk2))
    refine R_icmp_eq (pc := 618) (t := 1005) dL_law_618 (by decide) (fun _ => ?_) (fun hz9 => absurd rfl hz9)
    rw [hp]
    exact hX h z A S pm fl l _ _ _ _ hp lx
  · refine R_aload_n (pc := 609) dL_law_609 rfl ?_
    refine R_aload_n (pc := 610) dL_law_610 rfl ?_
    refine R_iload_n (pc := 611) dL_law_611 rfl ?_
    refine R_iconst (pc := 612) (x := nI 1) dL_law_612 rfl ?_
    refine R_iadd (pc := 613) dL_law_613 ?_
    refine R_iald (pc := 614) dL_law_614 (by repeat (first | assumption | exact up_s | refine up_n (by omega) ?_)) (Or.inr rfl) (by first | with_reducible rfl | (simp only [nI_add]; exact rfl)) (by omega) (by omega) ?_
    refine R_callV (pc := 615) dL_law_615 rfl hM rfl rfl ?_
    refine Rn_h hp.symm ?_
    refine s12_setting (fun hbad => absurd e (hbad j hj)) (fun k2 hk2 e2 => ?_)
    obtain rfl : k2 = j := (nI_eq (by omega) (by omega)).mp (e2.symm.trans e)
    refine R_icmp_eq (pc := 618) (t := 1005) dL_law_618 (by decide) (fun _ => ?_) (fun hz9 => absurd rfl hz9)
    rw [hp]
    exact hX h z A S pm fl l _ _ _ _ hp lx
theorem law_c17 {b L k x Y pm fl l : Nat} {xs gs : Nat → Int32} {A : Nat → Nat → Int32} {S : Nat → Int32} {o4 o5 o6 o7 : Option Value} (hk : k + 4 ≤ L) (hL : L ≤ 2048) (hbx : b < x) (hsA : sA < x) (hgs : ∀ k, k < 4 → gs k = nI (if k = 0 then 2 else if k = 1 then 1 else 9999)) (hp : putM h (x + 158) A S = h) (lx : LX b L xs gs sA x Y h z A S pm fl l)  (hX : ∀ (h' : Nat → Option am_C) (z' : Nat × Nat) (A' : Nat → Nat → Int32) (S' : Nat → Int32) (pm' fl' l' : Nat) (o4 o5 o6 o7 : Option Value), putM h' (x + 158) A' S' = h' → LX b L xs gs sA x Y h' z' A' S' pm' fl' l' → Rn sA mL_law 1005 [some (.ref b), some (.ref x), some (.ref (x + 158)), some (.int (nI k)), o4, o5, o6, o7] [] (h', z') Q) : Rn sA mL_law 623 [some (.ref b), some (.ref x), some (.ref (x + 158)), some (.int (nI k)), o4, o5, o6, o7] [] (h, z) Q := by
  obtain ⟨hb, hst, st, r, sc, hS2, hS4, hS6, wk, wp, wi⟩ := id lx
  have hx := r.2.1
  have hpm : pm ≤ 8 := by obtain ⟨_, _, ⟨_, _, q, _⟩, _⟩ := r; exact q.2.2.2.1
  have hfl : fl < 4 := by obtain ⟨_, _, ⟨_, _, _, q, _⟩, _⟩ := r; exact q.2.1
  have hl := r.2.2.2.2
  have hM : h (x + 158) = some (.inr (12, mo_obj (x + 158) S)) := by rw [← hp]; exact putM_o
  obtain ⟨P, Wd, n, pe, K, R, se, co, sa, sr⟩ := id st
  obtain ⟨⟨n0, okd⟩, m, rep⟩ := id wk
  have hw := sr.2.2.1.1
  have hn := sr.2.2.1.2.1
  obtain rfl : n = n0 := (nI_eq (by omega) (by have := okd.2.1; omega)).mp (hw.symm.trans okd.1)
  have hD := okd.2.2.1
  have hT := okd.2.2.2
  refine R_aload_n (pc := 623) dL_law_623 rfl ?_
  refine R_aload_n (pc := 624) dL_law_624 rfl ?_
  refine R_iload_n (pc := 625) dL_law_625 rfl ?_
  refine R_iconst (pc := 626) (x := nI 1) dL_law_626 rfl ?_
  refine R_iadd (pc := 627) dL_law_627 ?_
  refine R_iald (pc := 628) dL_law_628 (by repeat (first | assumption | exact up_s | refine up_n (by omega) ?_)) (Or.inr rfl) (by first | with_reducible rfl | (simp only [nI_add]; exact rfl)) (by omega) (by omega) ?_
  refine R_aload_n (pc := 629) dL_law_629 rfl ?_
  refine R_iload_n (pc := 630) dL_law_630 rfl ?_
  refine R_iconst (pc := 631) (x := nI 2) dL_law_631 rfl ?_
  refine R_iadd (pc := 632) dL_law_632 ?_
  refine R_iald (pc := 633) dL_law_633 (by repeat (first | assumption | exact up_s | refine up_n (by omega) ?_)) (Or.inr rfl) (by first | with_reducible rfl | (simp only [nI_add]; exact rfl)) (by omega) (by omega) ?_
  refine R_callV (pc := 634) dL_law_634 rfl (by repeat (first | assumption | exact up_s | refine up_n (by omega) ?_)) rfl rfl ?_
  refine c11_field r st (fun hbad => ?_) (fun f j hf hj e1 e2 => ?_)
  · refine R_aload_n (pc := 637) dL_law_637 rfl ?_
    refine R_aload_n (pc := 638) dL_law_638 rfl ?_
    refine R_iload_n (pc := 639) dL_law_639 rfl ?_
    refine R_iconst (pc := 640) (x := nI 1) dL_law_640 rfl ?_
    refine R_iadd (pc := 641) dL_law_641 ?_
    refine R_iald (pc := 642) dL_law_642 (by repeat (first | assumption | exact up_s | refine up_n (by omega) ?_)) (Or.inr rfl) (by first | with_reducible rfl | (simp only [nI_add]; exact rfl)) (by omega) (by omega) ?_
    refine R_aload_n (pc := 643) dL_law_643 rfl ?_
    refine R_iload_n (pc := 644) dL_law_644 rfl ?_
    refine R_iconst (pc := 645) (x := nI 2) dL_law_645 rfl ?_
    refine R_iadd (pc := 646) dL_law_646 ?_
    refine R_iald (pc := 647) dL_law_647 (by repeat (first | assumption | exact up_s | refine up_n (by omega) ?_)) (Or.inr rfl) (by first | with_reducible rfl | (simp only [nI_add]; exact rfl)) (by omega) (by omega) ?_
    refine R_callV (pc := 648) dL_law_648 rfl hM rfl rfl ?_
    refine Rn_h hp.symm ?_
    refine s12_field (fun _ => ?_) (fun f2 j2 hf2 hj2 e3 e4 => absurd ⟨hf2, hj2, e3, e4⟩ (hbad f2 j2))
    refine R_icmp_eq (pc := 651) (t := 1005) dL_law_651 (by decide) (fun _ => ?_) (fun hz9 => absurd rfl hz9)
    rw [hp]
    exact hX h z A S pm fl l _ _ _ _ hp lx
  · refine R_aload_n (pc := 637) dL_law_637 rfl ?_
    refine R_aload_n (pc := 638) dL_law_638 rfl ?_
    refine R_iload_n (pc := 639) dL_law_639 rfl ?_
    refine R_iconst (pc := 640) (x := nI 1) dL_law_640 rfl ?_
    refine R_iadd (pc := 641) dL_law_641 ?_
    refine R_iald (pc := 642) dL_law_642 (by repeat (first | assumption | exact up_s | refine up_n (by omega) ?_)) (Or.inr rfl) (by first | with_reducible rfl | (simp only [nI_add]; exact rfl)) (by omega) (by omega) ?_
    refine R_aload_n (pc := 643) dL_law_643 rfl ?_
    refine R_iload_n (pc := 644) dL_law_644 rfl ?_
    refine R_iconst (pc := 645) (x := nI 2) dL_law_645 rfl ?_
    refine R_iadd (pc := 646) dL_law_646 ?_
    refine R_iald (pc := 647) dL_law_647 (by repeat (first | assumption | exact up_s | refine up_n (by omega) ?_)) (Or.inr rfl) (by first | with_reducible rfl | (simp only [nI_add]; exact rfl)) (by omega) (by omega) ?_
    refine R_callV (pc := 648) dL_law_648 rfl hM rfl rfl ?_
    refine Rn_h hp.symm ?_
    refine s12_field (fun hbad => absurd ⟨hf, hj, e1, e2⟩ (hbad f j)) (fun f2 j2 hf2 hj2 e3 e4 => ?_)
    obtain rfl : f2 = f := (nI_eq (by omega) (by omega)).mp (e3.symm.trans e1)
    obtain rfl : j2 = j := (nI_eq (by omega) (by omega)).mp (e4.symm.trans e2)
    refine R_icmp_eq (pc := 651) (t := 1005) dL_law_651 (by decide) (fun _ => ?_) (fun hz9 => absurd rfl hz9)
    rw [hp]
    exact hX h z A S pm fl l _ _ _ _ hp lx
theorem law_c18 {b L k x Y pm fl l : Nat} {xs gs : Nat → Int32} {A : Nat → Nat → Int32} {S : Nat → Int32} {o4 o5 o6 o7 : Option Value} (hk : k + 4 ≤ L) (hL : L ≤ 2048) (hbx : b < x) (hsA : sA < x) (hgs : ∀ k, k < 4 → gs k = nI (if k = 0 then 2 else if k = 1 then 1 else 9999)) (hp : putM h (x + 158) A S = h) (lx : LX b L xs gs sA x Y h z A S pm fl l)  (hX : ∀ (h' : Nat → Option am_C) (z' : Nat × Nat) (A' : Nat → Nat → Int32) (S' : Nat → Int32) (pm' fl' l' : Nat) (o4 o5 o6 o7 : Option Value), putM h' (x + 158) A' S' = h' → LX b L xs gs sA x Y h' z' A' S' pm' fl' l' → Rn sA mL_law 1005 [some (.ref b), some (.ref x), some (.ref (x + 158)), some (.int (nI k)), o4, o5, o6, o7] [] (h', z') Q) : Rn sA mL_law 656 [some (.ref b), some (.ref x), some (.ref (x + 158)), some (.int (nI k)), o4, o5, o6, o7] [] (h, z) Q := by
  obtain ⟨hb, hst, st, r, sc, hS2, hS4, hS6, wk, wp, wi⟩ := id lx
  have hx := r.2.1
  have hpm : pm ≤ 8 := by obtain ⟨_, _, ⟨_, _, q, _⟩, _⟩ := r; exact q.2.2.2.1
  have hfl : fl < 4 := by obtain ⟨_, _, ⟨_, _, _, q, _⟩, _⟩ := r; exact q.2.1
  have hl := r.2.2.2.2
  have hM : h (x + 158) = some (.inr (12, mo_obj (x + 158) S)) := by rw [← hp]; exact putM_o
  obtain ⟨P, Wd, n, pe, K, R, se, co, sa, sr⟩ := id st
  obtain ⟨⟨n0, okd⟩, m, rep⟩ := id wk
  have hw := sr.2.2.1.1
  have hn := sr.2.2.1.2.1
  obtain rfl : n = n0 := (nI_eq (by omega) (by have := okd.2.1; omega)).mp (hw.symm.trans okd.1)
  have hD := okd.2.2.1
  have hT := okd.2.2.2
  refine R_aload_n (pc := 656) dL_law_656 rfl ?_
  refine R_aload_n (pc := 657) dL_law_657 rfl ?_
  refine R_iload_n (pc := 658) dL_law_658 rfl ?_
  refine R_iconst (pc := 659) (x := nI 1) dL_law_659 rfl ?_
  refine R_iadd (pc := 660) dL_law_660 ?_
  refine R_iald (pc := 661) dL_law_661 (by repeat (first | assumption | exact up_s | refine up_n (by omega) ?_)) (Or.inr rfl) (by first | with_reducible rfl | (simp only [nI_add]; exact rfl)) (by omega) (by omega) ?_
  refine R_aload_n (pc := 662) dL_law_662 rfl ?_
  refine R_iload_n (pc := 663) dL_law_663 rfl ?_
  refine R_iconst (pc := 664) (x := nI 2) dL_law_664 rfl ?_
  refine R_iadd (pc := 665) dL_law_665 ?_
  refine R_iald (pc := 666) dL_law_666 (by repeat (first | assumption | exact up_s | refine up_n (by omega) ?_)) (Or.inr rfl) (by first | with_reducible rfl | (simp only [nI_add]; exact rfl)) (by omega) (by omega) ?_
  refine R_callV (pc := 667) dL_law_667 rfl (by repeat (first | assumption | exact up_s | refine up_n (by omega) ?_)) rfl rfl ?_
  refine c11_column r st hn hw (fun hbad => ?_) (fun f j hf hj e1 e2 => ?_)
  · refine R_aload_n (pc := 670) dL_law_670 rfl ?_
    refine R_aload_n (pc := 671) dL_law_671 rfl ?_
    refine R_iload_n (pc := 672) dL_law_672 rfl ?_
    refine R_iconst (pc := 673) (x := nI 1) dL_law_673 rfl ?_
    refine R_iadd (pc := 674) dL_law_674 ?_
    refine R_iald (pc := 675) dL_law_675 (by repeat (first | assumption | exact up_s | refine up_n (by omega) ?_)) (Or.inr rfl) (by first | with_reducible rfl | (simp only [nI_add]; exact rfl)) (by omega) (by omega) ?_
    refine R_aload_n (pc := 676) dL_law_676 rfl ?_
    refine R_iload_n (pc := 677) dL_law_677 rfl ?_
    refine R_iconst (pc := 678) (x := nI 2) dL_law_678 rfl ?_
    refine R_iadd (pc := 679) dL_law_679 ?_
    refine R_iald (pc := 680) dL_law_680 (by repeat (first | assumption | exact up_s | refine up_n (by omega) ?_)) (Or.inr rfl) (by first | with_reducible rfl | (simp only [nI_add]; exact rfl)) (by omega) (by omega) ?_
    refine R_callV (pc := 681) dL_law_681 rfl hM rfl rfl ?_
    refine Rn_h hp.symm ?_
    refine s12_column hn hw (fun _ => ?_) (fun f2 j2 hf2 hj2 e3 e4 => absurd ⟨hf2, hj2, e3, e4⟩ (hbad f2 j2))
    refine R_icmp_eq (pc := 684) (t := 1005) dL_law_684 (by decide) (fun _ => ?_) (fun hz9 => absurd rfl hz9)
    rw [hp]
    exact hX h z A S pm fl l _ _ _ _ hp lx
  · refine R_aload_n (pc := 670) dL_law_670 rfl ?_
    refine R_aload_n (pc := 671) dL_law_671 rfl ?_
    refine R_iload_n (pc := 672) dL_law_672 rfl ?_
    refine R_iconst (pc := 673) (x := nI 1) dL_law_673 rfl ?_
    refine R_iadd (pc := 674) dL_law_674 ?_
    refine R_iald (pc := 675) dL_law_675 (by repeat (first | assumption | exact up_s | refine up_n (by omega) ?_)) (Or.inr rfl) (by first | with_reducible rfl | (simp only [nI_add]; exact rfl)) (by omega) (by omega) ?_
    refine R_aload_n (pc := 676) dL_law_676 rfl ?_
    refine R_iload_n (pc := 677) dL_law_677 rfl ?_
    refine R_iconst (pc := 678) (x := nI 2) dL_law_678 rfl ?_
    refine R_iadd (pc := 679) dL_law_679 ?_
    refine R_iald (pc := 680) dL_law_680 (by repeat (first | assumption | exact up_s | refine up_n (by omega) ?_)) (Or.inr rfl) (by first | with_reducible rfl | (simp only [nI_add]; exact rfl)) (by omega) (by omega) ?_
    refine R_callV (pc := 681) dL_law_681 rfl hM rfl rfl ?_
    refine Rn_h hp.symm ?_
    refine s12_column hn hw (fun hbad => absurd ⟨hf, hj, e1, e2⟩ (hbad f j)) (fun f2 j2 hf2 hj2 e3 e4 => ?_)
    obtain rfl : f2 = f := (nI_eq (by omega) (by omega)).mp (e3.symm.trans e1)
    obtain rfl : j2 = j := (nI_eq (by omega) (by omega)).mp (e4.symm.trans e2)
    refine R_icmp_eq (pc := 684) (t := 1005) dL_law_684 (by decide) (fun _ => ?_) (fun hz9 => absurd rfl hz9)
    rw [hp]
    exact hX h z A S pm fl l _ _ _ _ hp lx
theorem law_c20 {b L k x Y pm fl l : Nat} {xs gs : Nat → Int32} {A : Nat → Nat → Int32} {S : Nat → Int32} {o4 o5 o6 o7 : Option Value} (hk : k + 4 ≤ L) (hL : L ≤ 2048) (hbx : b < x) (hsA : sA < x) (hgs : ∀ k, k < 4 → gs k = nI (if k = 0 then 2 else if k = 1 then 1 else 9999)) (hp : putM h (x + 158) A S = h) (lx : LX b L xs gs sA x Y h z A S pm fl l)  (hX : ∀ (h' : Nat → Option am_C) (z' : Nat × Nat) (A' : Nat → Nat → Int32) (S' : Nat → Int32) (pm' fl' l' : Nat) (o4 o5 o6 o7 : Option Value), putM h' (x + 158) A' S' = h' → LX b L xs gs sA x Y h' z' A' S' pm' fl' l' → Rn sA mL_law 1005 [some (.ref b), some (.ref x), some (.ref (x + 158)), some (.int (nI k)), o4, o5, o6, o7] [] (h', z') Q) : Rn sA mL_law 722 [some (.ref b), some (.ref x), some (.ref (x + 158)), some (.int (nI k)), o4, o5, o6, o7] [] (h, z) Q := by
  obtain ⟨hb, hst, st, r, sc, hS2, hS4, hS6, wk, wp, wi⟩ := id lx
  have hx := r.2.1
  have hpm : pm ≤ 8 := by obtain ⟨_, _, ⟨_, _, q, _⟩, _⟩ := r; exact q.2.2.2.1
  have hfl : fl < 4 := by obtain ⟨_, _, ⟨_, _, _, q, _⟩, _⟩ := r; exact q.2.1
  have hl := r.2.2.2.2
  have hM : h (x + 158) = some (.inr (12, mo_obj (x + 158) S)) := by rw [← hp]; exact putM_o
  obtain ⟨P, Wd, n, pe, K, R, se, co, sa, sr⟩ := id st
  obtain ⟨⟨n0, okd⟩, m, rep⟩ := id wk
  have hw := sr.2.2.1.1
  have hn := sr.2.2.1.2.1
  obtain rfl : n = n0 := (nI_eq (by omega) (by have := okd.2.1; omega)).mp (hw.symm.trans okd.1)
  have hD := okd.2.2.1
  have hT := okd.2.2.2
  refine R_aload_n (pc := 722) dL_law_722 rfl ?_
  refine R_aload_n (pc := 723) dL_law_723 rfl ?_
  refine R_iload_n (pc := 724) dL_law_724 rfl ?_
  refine R_iconst (pc := 725) (x := nI 1) dL_law_725 rfl ?_
  refine R_iadd (pc := 726) dL_law_726 ?_
  refine R_iald (pc := 727) dL_law_727 (by repeat (first | assumption | exact up_s | refine up_n (by omega) ?_)) (Or.inr rfl) (by first | with_reducible rfl | (simp only [nI_add]; exact rfl)) (by omega) (by omega) ?_
  refine R_aload_n (pc := 728) dL_law_728 rfl ?_
  refine R_iload_n (pc := 729) dL_law_729 rfl ?_
  refine R_iconst (pc := 730) (x := nI 2) dL_law_730 rfl ?_
  refine R_iadd (pc := 731) dL_law_731 ?_
  refine R_iald (pc := 732) dL_law_732 (by repeat (first | assumption | exact up_s | refine up_n (by omega) ?_)) (Or.inr rfl) (by first | with_reducible rfl | (simp only [nI_add]; exact rfl)) (by omega) (by omega) ?_
  refine R_callV (pc := 733) dL_law_733 rfl (by repeat (first | assumption | exact up_s | refine up_n (by omega) ?_)) rfl rfl ?_
  refine c11_line r st sr.2.2.2.1.2.1 sr.2.2.2.1.1 (fun hbad => ?_) (fun f j hf hj e1 e2 => ?_)
  · refine R_aload_n (pc := 736) dL_law_736 rfl ?_
    refine R_aload_n (pc := 737) dL_law_737 rfl ?_
    refine R_iload_n (pc := 738) dL_law_738 rfl ?_
    refine R_iconst (pc := 739) (x := nI 1) dL_law_739 rfl ?_
    refine R_iadd (pc := 740) dL_law_740 ?_
    refine R_iald (pc := 741) dL_law_741 (by repeat (first | assumption | exact up_s | refine up_n (by omega) ?_)) (Or.inr rfl) (by first | with_reducible rfl | (simp only [nI_add]; exact rfl)) (by omega) (by omega) ?_
    refine R_aload_n (pc := 742) dL_law_742 rfl ?_
    refine R_iload_n (pc := 743) dL_law_743 rfl ?_
    refine R_iconst (pc := 744) (x := nI 2) dL_law_744 rfl ?_
    refine R_iadd (pc := 745) dL_law_745 ?_
    refine R_iald (pc := 746) dL_law_746 (by repeat (first | assumption | exact up_s | refine up_n (by omega) ?_)) (Or.inr rfl) (by first | with_reducible rfl | (simp only [nI_add]; exact rfl)) (by omega) (by omega) ?_
    refine R_callV (pc := 747) dL_law_747 rfl hM rfl rfl ?_
    refine Rn_h hp.symm ?_
    refine s12_line sr.2.2.2.1.2.1 sr.2.2.2.1.1 (fun _ => ?_) (fun f2 j2 hf2 hj2 e3 e4 => absurd ⟨hf2, hj2, e3, e4⟩ (hbad f2 j2))
    refine R_icmp_eq (pc := 750) (t := 1005) dL_law_750 (by decide) (fun _ => ?_) (fun hz9 => absurd rfl hz9)
    rw [hp]
    exact hX h z A S pm fl l _ _ _ _ hp lx
  · refine R_aload_n (pc := 736) dL_law_736 rfl ?_
    refine R_aload_n (pc := 737) dL_law_737 rfl ?_
    refine R_iload_n (pc := 738) dL_law_738 rfl ?_
    refine R_iconst (pc := 739) (x := nI 1) dL_law_739 rfl ?_
    refine R_iadd (pc := 740) dL_law_740 ?_
    refine R_iald (pc := 741) dL_law_741 (by repeat (first | assumption | exact up_s | refine up_n (by omega) ?_)) (Or.inr rfl) (by first | with_reducible rfl | (simp only [nI_add]; exact rfl)) (by omega) (by omega) ?_
    refine R_aload_n (pc := 742) dL_law_742 rfl ?_
    refine R_iload_n (pc := 743) dL_law_743 rfl ?_
    refine R_iconst (pc := 744) (x := nI 2) dL_law_744 rfl ?_
    refine R_iadd (pc := 745) dL_law_745 ?_
    refine R_iald (pc := 746) dL_law_746 (by repeat (first | assumption | exact up_s | refine up_n (by omega) ?_)) (Or.inr rfl) (by first | with_reducible rfl | (simp only [nI_add]; exact rfl)) (by omega) (by omega) ?_
    refine R_callV (pc := 747) dL_law_747 rfl hM rfl rfl ?_
    refine Rn_h hp.symm ?_
    have hR1 := sr.2.2.2.1.2.1
    refine s12_line sr.2.2.2.1.2.1 sr.2.2.2.1.1 (fun hbad => absurd ⟨hf, hj, e1, e2⟩ (hbad f j)) (fun f2 j2 hf2 hj2 e3 e4 => ?_)
    obtain rfl : f2 = f := (nI_eq (by omega) (by omega)).mp (e3.symm.trans e1)
    obtain rfl : j2 = j := (nI_eq (by omega) (by omega)).mp (e4.symm.trans e2)
    refine R_icmp_eq (pc := 750) (t := 1005) dL_law_750 (by decide) (fun _ => ?_) (fun hz9 => absurd rfl hz9)
    rw [hp]
    exact hX h z A S pm fl l _ _ _ _ hp lx
theorem law_c21 {b L k x Y pm fl l : Nat} {xs gs : Nat → Int32} {A : Nat → Nat → Int32} {S : Nat → Int32} {o4 o5 o6 o7 : Option Value} (hk : k + 4 ≤ L) (hL : L ≤ 2048) (hbx : b < x) (hsA : sA < x) (hgs : ∀ k, k < 4 → gs k = nI (if k = 0 then 2 else if k = 1 then 1 else 9999)) (hp : putM h (x + 158) A S = h) (lx : LX b L xs gs sA x Y h z A S pm fl l)  (hX : ∀ (h' : Nat → Option am_C) (z' : Nat × Nat) (A' : Nat → Nat → Int32) (S' : Nat → Int32) (pm' fl' l' : Nat) (o4 o5 o6 o7 : Option Value), putM h' (x + 158) A' S' = h' → LX b L xs gs sA x Y h' z' A' S' pm' fl' l' → Rn sA mL_law 1005 [some (.ref b), some (.ref x), some (.ref (x + 158)), some (.int (nI k)), o4, o5, o6, o7] [] (h', z') Q) : Rn sA mL_law 755 [some (.ref b), some (.ref x), some (.ref (x + 158)), some (.int (nI k)), o4, o5, o6, o7] [] (h, z) Q := by
  obtain ⟨hb, hst, st, r, sc, hS2, hS4, hS6, wk, wp, wi⟩ := id lx
  have hx := r.2.1
  have hpm : pm ≤ 8 := by obtain ⟨_, _, ⟨_, _, q, _⟩, _⟩ := r; exact q.2.2.2.1
  have hfl : fl < 4 := by obtain ⟨_, _, ⟨_, _, _, q, _⟩, _⟩ := r; exact q.2.1
  have hl := r.2.2.2.2
  have hM : h (x + 158) = some (.inr (12, mo_obj (x + 158) S)) := by rw [← hp]; exact putM_o
  obtain ⟨P, Wd, n, pe, K, R, se, co, sa, sr⟩ := id st
  obtain ⟨⟨n0, okd⟩, m, rep⟩ := id wk
  have hw := sr.2.2.1.1
  have hn := sr.2.2.1.2.1
  obtain rfl : n = n0 := (nI_eq (by omega) (by have := okd.2.1; omega)).mp (hw.symm.trans okd.1)
  have hD := okd.2.2.1
  have hT := okd.2.2.2
  refine R_aload_n (pc := 755) dL_law_755 rfl ?_
  refine R_aload_n (pc := 756) dL_law_756 rfl ?_
  refine R_iload_n (pc := 757) dL_law_757 rfl ?_
  refine R_iconst (pc := 758) (x := nI 1) dL_law_758 rfl ?_
  refine R_iadd (pc := 759) dL_law_759 ?_
  refine R_iald (pc := 760) dL_law_760 (by repeat (first | assumption | exact up_s | refine up_n (by omega) ?_)) (Or.inr rfl) (by first | with_reducible rfl | (simp only [nI_add]; exact rfl)) (by omega) (by omega) ?_
  refine R_callV (pc := 761) dL_law_761 rfl (by repeat (first | assumption | exact up_s | refine up_n (by omega) ?_)) rfl rfl ?_
  refine c11_reason r st sr.2.2.2.1.2.2.2.1 sr.2.2.2.1.2.2.1 (fun hbad => ?_) (fun j hj e => ?_)
  · refine R_aload_n (pc := 764) dL_law_764 rfl ?_
    refine R_aload_n (pc := 765) dL_law_765 rfl ?_
    refine R_iload_n (pc := 766) dL_law_766 rfl ?_
    refine R_iconst (pc := 767) (x := nI 1) dL_law_767 rfl ?_
    refine R_iadd (pc := 768) dL_law_768 ?_
    refine R_iald (pc := 769) dL_law_769 (by repeat (first | assumption | exact up_s | refine up_n (by omega) ?_)) (Or.inr rfl) (by first | with_reducible rfl | (simp only [nI_add]; exact rfl)) (by omega) (by omega) ?_
    refine R_callV (pc := 770) dL_law_770 rfl hM rfl rfl ?_
    refine Rn_h hp.symm ?_
    refine s12_reason sr.2.2.2.1.2.2.2.1 sr.2.2.2.1.2.2.1 (fun _ => ?_) (fun k2 hk2 e2 => absurd e2 (hbad k2 hk2))
    refine R_icmp_eq (pc := 773) (t := 1005) dL_law_773 (by decide) (fun _ => ?_) (fun hz9 => absurd rfl hz9)
    rw [hp]
    exact hX h z A S pm fl l _ _ _ _ hp lx
  · refine R_aload_n (pc := 764) dL_law_764 rfl ?_
    refine R_aload_n (pc := 765) dL_law_765 rfl ?_
    refine R_iload_n (pc := 766) dL_law_766 rfl ?_
    refine R_iconst (pc := 767) (x := nI 1) dL_law_767 rfl ?_
    refine R_iadd (pc := 768) dL_law_768 ?_
    refine R_iald (pc := 769) dL_law_769 (by repeat (first | assumption | exact up_s | refine up_n (by omega) ?_)) (Or.inr rfl) (by first | with_reducible rfl | (simp only [nI_add]; exact rfl)) (by omega) (by omega) ?_
    refine R_callV (pc := 770) dL_law_770 rfl hM rfl rfl ?_
    refine Rn_h hp.symm ?_
    have hR2 := sr.2.2.2.1.2.2.2.1
    refine s12_reason sr.2.2.2.1.2.2.2.1 sr.2.2.2.1.2.2.1 (fun hbad => absurd e (hbad j hj)) (fun k2 hk2 e2 => ?_)
    obtain rfl : k2 = j := (nI_eq (by omega) (by omega)).mp (e2.symm.trans e)
    refine R_icmp_eq (pc := 773) (t := 1005) dL_law_773 (by decide) (fun _ => ?_) (fun hz9 => absurd rfl hz9)
    rw [hp]
    exact hX h z A S pm fl l _ _ _ _ hp lx
theorem law_c22 {b L k x Y pm fl l : Nat} {xs gs : Nat → Int32} {A : Nat → Nat → Int32} {S : Nat → Int32} {o4 o5 o6 o7 : Option Value} (hk : k + 4 ≤ L) (hL : L ≤ 2048) (hbx : b < x) (hsA : sA < x) (hgs : ∀ k, k < 4 → gs k = nI (if k = 0 then 2 else if k = 1 then 1 else 9999)) (hp : putM h (x + 158) A S = h) (lx : LX b L xs gs sA x Y h z A S pm fl l)  (hX : ∀ (h' : Nat → Option am_C) (z' : Nat × Nat) (A' : Nat → Nat → Int32) (S' : Nat → Int32) (pm' fl' l' : Nat) (o4 o5 o6 o7 : Option Value), putM h' (x + 158) A' S' = h' → LX b L xs gs sA x Y h' z' A' S' pm' fl' l' → Rn sA mL_law 1005 [some (.ref b), some (.ref x), some (.ref (x + 158)), some (.int (nI k)), o4, o5, o6, o7] [] (h', z') Q) : Rn sA mL_law 778 [some (.ref b), some (.ref x), some (.ref (x + 158)), some (.int (nI k)), o4, o5, o6, o7] [] (h, z) Q := by
  obtain ⟨hb, hst, st, r, sc, hS2, hS4, hS6, wk, wp, wi⟩ := id lx
  have hx := r.2.1
  have hpm : pm ≤ 8 := by obtain ⟨_, _, ⟨_, _, q, _⟩, _⟩ := r; exact q.2.2.2.1
  have hfl : fl < 4 := by obtain ⟨_, _, ⟨_, _, _, q, _⟩, _⟩ := r; exact q.2.1
  have hl := r.2.2.2.2
  have hM : h (x + 158) = some (.inr (12, mo_obj (x + 158) S)) := by rw [← hp]; exact putM_o
  obtain ⟨P, Wd, n, pe, K, R, se, co, sa, sr⟩ := id st
  obtain ⟨⟨n0, okd⟩, m, rep⟩ := id wk
  have hw := sr.2.2.1.1
  have hn := sr.2.2.1.2.1
  obtain rfl : n = n0 := (nI_eq (by omega) (by have := okd.2.1; omega)).mp (hw.symm.trans okd.1)
  have hD := okd.2.2.1
  have hT := okd.2.2.2
  refine R_aload_n (pc := 778) dL_law_778 rfl ?_
  refine R_aload_n (pc := 779) dL_law_779 rfl ?_
  refine R_iload_n (pc := 780) dL_law_780 rfl ?_
  refine R_iconst (pc := 781) (x := nI 1) dL_law_781 rfl ?_
  refine R_iadd (pc := 782) dL_law_782 ?_
  refine R_iald (pc := 783) dL_law_783 (by repeat (first | assumption | exact up_s | refine up_n (by omega) ?_)) (Or.inr rfl) (by first | with_reducible rfl | (simp only [nI_add]; exact rfl)) (by omega) (by omega) ?_
  refine R_callV (pc := 784) dL_law_784 rfl (by repeat (first | assumption | exact up_s | refine up_n (by omega) ?_)) rfl rfl ?_
  refine c11_differs r sa sr sc rep (fun hbad => ?_) (fun j hj e => ?_)
  · refine R_aload_n (pc := 787) dL_law_787 rfl ?_
    refine R_aload_n (pc := 788) dL_law_788 rfl ?_
    refine R_iload_n (pc := 789) dL_law_789 rfl ?_
    refine R_iconst (pc := 790) (x := nI 1) dL_law_790 rfl ?_
    refine R_iadd (pc := 791) dL_law_791 ?_
    refine R_iald (pc := 792) dL_law_792 (by repeat (first | assumption | exact up_s | refine up_n (by omega) ?_)) (Or.inr rfl) (by first | with_reducible rfl | (simp only [nI_add]; exact rfl)) (by omega) (by omega) ?_
    refine R_callV (pc := 793) dL_law_793 rfl hM rfl rfl ?_
    refine Rn_h hp.symm ?_
    refine s12_differs rep.2.1 rep.1 (fun _ => ?_) (fun k2 hk2 e2 => absurd e2 (hbad k2 hk2))
    refine R_icmp_eq (pc := 796) (t := 1005) dL_law_796 (by decide) (fun _ => ?_) (fun hz9 => absurd rfl hz9)
    rw [hp]
    exact hX h z A S pm fl l _ _ _ _ hp lx
  · refine R_aload_n (pc := 787) dL_law_787 rfl ?_
    refine R_aload_n (pc := 788) dL_law_788 rfl ?_
    refine R_iload_n (pc := 789) dL_law_789 rfl ?_
    refine R_iconst (pc := 790) (x := nI 1) dL_law_790 rfl ?_
    refine R_iadd (pc := 791) dL_law_791 ?_
    refine R_iald (pc := 792) dL_law_792 (by repeat (first | assumption | exact up_s | refine up_n (by omega) ?_)) (Or.inr rfl) (by first | with_reducible rfl | (simp only [nI_add]; exact rfl)) (by omega) (by omega) ?_
    refine R_callV (pc := 793) dL_law_793 rfl hM rfl rfl ?_
    refine Rn_h hp.symm ?_
    refine s12_differs rep.2.1 rep.1 (fun hbad => absurd e (hbad j hj)) (fun k2 hk2 e2 => ?_)
    obtain rfl : k2 = j := (nI_eq (by omega) (by omega)).mp (e2.symm.trans e)
    refine R_icmp_eq (pc := 796) (t := 1005) dL_law_796 (by decide) (fun _ => ?_) (fun hz9 => absurd rfl hz9)
    rw [hp]
    exact hX h z A S pm fl l _ _ _ _ hp lx
theorem law_c14 {b L k x Y pm fl l : Nat} {xs gs : Nat → Int32} {A : Nat → Nat → Int32} {S : Nat → Int32} {o4 o5 o6 o7 : Option Value} (hk : k + 4 ≤ L) (hL : L ≤ 2048) (hbx : b < x) (hsA : sA < x) (hgs : ∀ k, k < 4 → gs k = nI (if k = 0 then 2 else if k = 1 then 1 else 9999)) (hp : putM h (x + 158) A S = h) (lx : LX b L xs gs sA x Y h z A S pm fl l)  (hX : ∀ (h' : Nat → Option am_C) (z' : Nat × Nat) (A' : Nat → Nat → Int32) (S' : Nat → Int32) (pm' fl' l' : Nat) (o4 o5 o6 o7 : Option Value), putM h' (x + 158) A' S' = h' → LX b L xs gs sA x Y h' z' A' S' pm' fl' l' → Rn sA mL_law 1005 [some (.ref b), some (.ref x), some (.ref (x + 158)), some (.int (nI k)), o4, o5, o6, o7] [] (h', z') Q) : Rn sA mL_law 554 [some (.ref b), some (.ref x), some (.ref (x + 158)), some (.int (nI k)), o4, o5, o6, o7] [] (h, z) Q := by
  obtain ⟨hb, hst, st, r, sc, hS2, hS4, hS6, wk, wp, wi⟩ := id lx
  have hx := r.2.1
  have hpm : pm ≤ 8 := by obtain ⟨_, _, ⟨_, _, q, _⟩, _⟩ := r; exact q.2.2.2.1
  have hfl : fl < 4 := by obtain ⟨_, _, ⟨_, _, _, q, _⟩, _⟩ := r; exact q.2.1
  have hl := r.2.2.2.2
  have hM : h (x + 158) = some (.inr (12, mo_obj (x + 158) S)) := by rw [← hp]; exact putM_o
  obtain ⟨P, Wd, n, pe, K, R, se, co, sa, sr⟩ := id st
  obtain ⟨⟨n0, okd⟩, m, rep⟩ := id wk
  have hw := sr.2.2.1.1
  have hn := sr.2.2.1.2.1
  obtain rfl : n = n0 := (nI_eq (by omega) (by have := okd.2.1; omega)).mp (hw.symm.trans okd.1)
  have hD := okd.2.2.1
  have hT := okd.2.2.2
  refine R_aload_n (pc := 554) dL_law_554 rfl ?_
  refine R_aload_n (pc := 555) dL_law_555 rfl ?_
  refine R_iload_n (pc := 556) dL_law_556 rfl ?_
  refine R_iconst (pc := 557) (x := nI 1) dL_law_557 rfl ?_
  refine R_iadd (pc := 558) dL_law_558 ?_
  refine R_iald (pc := 559) dL_law_559 (by repeat (first | assumption | exact up_s | refine up_n (by omega) ?_)) (Or.inr rfl) (by first | with_reducible rfl | (simp only [nI_add]; exact rfl)) (by omega) (by omega) ?_
  refine R_callV (pc := 560) dL_law_560 rfl (by repeat (first | assumption | exact up_s | refine up_n (by omega) ?_)) rfl rfl ?_
  refine c11_fault r ?_
  refine R_aload_n (pc := 563) dL_law_563 rfl ?_
  refine R_aload_n (pc := 564) dL_law_564 rfl ?_
  refine R_iload_n (pc := 565) dL_law_565 rfl ?_
  refine R_iconst (pc := 566) (x := nI 1) dL_law_566 rfl ?_
  refine R_iadd (pc := 567) dL_law_567 ?_
  refine R_iald (pc := 568) dL_law_568 (by repeat (first | assumption | exact up_s | refine up_n (by omega) ?_)) (Or.inr rfl) (by first | with_reducible rfl | (simp only [nI_add]; exact rfl)) (by omega) (by omega) ?_
  refine R_callV (pc := 569) dL_law_569 rfl hM rfl rfl ?_
  refine Rn_h hp.symm ?_
  refine s12_fault ?_
  refine R_icmp_eq (pc := 572) (t := 1005) dL_law_572 (by decide) (fun _ => ?_) (fun hz9 => absurd rfl hz9)
  rw [hp]
  exact hX h z A S pm fl l _ _ _ _ hp lx
end CG0
