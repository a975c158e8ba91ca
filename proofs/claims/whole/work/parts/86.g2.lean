section CG2
variable {sA : Nat} {h : Nat → Option am_C} {z : Nat × Nat} {Q : Option Value → am_H → Prop}
theorem law_c11 {b L k x Y pm fl l : Nat} {xs gs : Nat → Int32} {A : Nat → Nat → Int32} {S : Nat → Int32} {o4 o5 o6 o7 : Option Value} (hk : k + 4 ≤ L) (hL : L ≤ 2048) (hbx : b < x) (hsA : sA < x) (hgs : ∀ k, k < 4 → gs k = nI (if k = 0 then 2 else if k = 1 then 1 else 9999)) (hp : putM h (x + 158) A S = h) (lx : LX b L xs gs sA x Y h z A S pm fl l)  (hX : ∀ (h' : Nat → Option am_C) (z' : Nat × Nat) (A' : Nat → Nat → Int32) (S' : Nat → Int32) (pm' fl' l' : Nat) (o4 o5 o6 o7 : Option Value), putM h' (x + 158) A' S' = h' → LX b L xs gs sA x Y h' z' A' S' pm' fl' l' → Rn sA mL_law 1005 [some (.ref b), some (.ref x), some (.ref (x + 158)), some (.int (nI k)), o4, o5, o6, o7] [] (h', z') Q) : Rn sA mL_law 505 [some (.ref b), some (.ref x), some (.ref (x + 158)), some (.int (nI k)), o4, o5, o6, o7] [] (h, z) Q := by
  obtain ⟨hb, hst, st, r, sc, hS2, hS4, hS6, wk, wp, wi⟩ := id lx
  have hx := r.2.1
  have hpm : pm ≤ 8 := by obtain ⟨_, _, ⟨_, _, q, _⟩, _⟩ := r; exact q.2.2.2.1
  have hfl : fl < 4 := by obtain ⟨_, _, ⟨_, _, _, q, _⟩, _⟩ := r; exact q.2.1
  have hl := r.2.2.2.2
  have hM : h (x + 158) = some (.inr (12, mo_obj (x + 158) S)) := by rw [← hp]; exact putM_o
  obtain ⟨P, Wd, n, pe, K, R, se, co, sa, sr⟩ := id st
  obtain ⟨⟨n0, okd⟩, m, rep⟩ := id wk
  have hw := sr.2.2.1.1
  have hn := sr.2.2.1.2.1
  obtain rfl : n = n0 := (nI_eq (by omega) (by have := okd.2.1; omega)).mp (hw.symm.trans okd.1)
  have hD := okd.2.2.1
  have hT := okd.2.2.2
  refine R_aload_n (pc := 505) dL_law_505 rfl ?_
  refine R_callV (pc := 506) dL_law_506 rfl (by repeat (first | assumption | exact up_s | refine up_n (by omega) ?_)) rfl rfl ?_
  refine c11_undo r sa sr sc (fun e => ?_) (fun q e h3 o => ?_)
  · refine R_aload_n (pc := 509) dL_law_509 rfl ?_
    refine R_callV (pc := 510) dL_law_510 rfl hM rfl rfl ?_
    refine Rn_h hp.symm ?_
    refine s12_undo hpm hS2 (fun _ => ?_) (fun q e2 => absurd e (by omega))
    refine R_icmp_eq (pc := 513) (t := 1005) dL_law_513 (by decide) (fun _ => ?_) (fun hz9 => absurd rfl hz9)
    rw [hp]
    exact hX h z A S pm fl l _ _ _ _ hp lx
  · have fr3 := o.2.2.2
    have hb_h3 : h3 b = _ := (fr3 b (by omega)).trans hb
    have hp_h3 : putM h3 (x + 158) A S = h3 := putM_keep hp (fun a a1 a2 => fr3 a (by omega))
    have hM_h3 : h3 (x + 158) = some (.inr (12, mo_obj (x + 158) S)) := by rw [← hp_h3]; exact putM_o
    refine R_aload_n (pc := 509) dL_law_509 rfl ?_
    refine R_callV (pc := 510) dL_law_510 rfl hM_h3 rfl rfl ?_
    refine Rn_h hp_h3.symm ?_
    refine s12_undo hpm hS2 (fun e2 => absurd e (by omega)) (fun q2 e2 => ?_)
    obtain rfl : q2 = q := by omega
    refine R_icmp_eq (pc := 513) (t := 1005) dL_law_513 (by decide) (fun _ => ?_) (fun hz9 => absurd rfl hz9)
    obtain ⟨o1, o2, o3, o4⟩ := o
    have ev : ∀ j, j < 2754 → va_cpy (A 2) (A 1) (2754 * q2) 0 2754 j = A 2 (2754 * q2 + j) := fun j hj => by rw [cpy_in (by omega) (by omega), Nat.sub_zero]
    exact hX _ z (va_up A 1 (va_cpy (A 2) (A 1) (2754 * q2) 0 2754)) (va_up S 2 (nI q2)) q2 fl l _ _ _ _ putM_putM (lx.put hbx hsA (fun a ha => o4 a (by omega)) (o1.cg ev) o2 o3 up_s hS4 hS6 ((wp q2 (by omega)).cg (fun j _ hj => ev j hj)) (fun i hi => wp i (by omega)) wi)
theorem law_c12 {b L k x Y pm fl l : Nat} {xs gs : Nat → Int32} {A : Nat → Nat → Int32} {S : Nat → Int32} {o4 o5 o6 o7 : Option Value} (hk : k + 4 ≤ L) (hL : L ≤ 2048) (hbx : b < x) (hsA : sA < x) (hgs : ∀ k, k < 4 → gs k = nI (if k = 0 then 2 else if k = 1 then 1 else 9999)) (hp : putM h (x + 158) A S = h) (lx : LX b L xs gs sA x Y h z A S pm fl l)  (hX : ∀ (h' : Nat → Option am_C) (z' : Nat × Nat) (A' : Nat → Nat → Int32) (S' : Nat → Int32) (pm' fl' l' : Nat) (o4 o5 o6 o7 : Option Value), putM h' (x + 158) A' S' = h' → LX b L xs gs sA x Y h' z' A' S' pm' fl' l' → Rn sA mL_law 1005 [some (.ref b), some (.ref x), some (.ref (x + 158)), some (.int (nI k)), o4, o5, o6, o7] [] (h', z') Q) : Rn sA mL_law 518 [some (.ref b), some (.ref x), some (.ref (x + 158)), some (.int (nI k)), o4, o5, o6, o7] [] (h, z) Q := by
  obtain ⟨hb, hst, st, r, sc, hS2, hS4, hS6, wk, wp, wi⟩ := id lx
  have hx := r.2.1
  have hpm : pm ≤ 8 := by obtain ⟨_, _, ⟨_, _, q, _⟩, _⟩ := r; exact q.2.2.2.1
  have hfl : fl < 4 := by obtain ⟨_, _, ⟨_, _, _, q, _⟩, _⟩ := r; exact q.2.1
  have hl := r.2.2.2.2
  have hM : h (x + 158) = some (.inr (12, mo_obj (x + 158) S)) := by rw [← hp]; exact putM_o
  obtain ⟨P, Wd, n, pe, K, R, se, co, sa, sr⟩ := id st
  obtain ⟨⟨n0, okd⟩, m, rep⟩ := id wk
  have hw := sr.2.2.1.1
  have hn := sr.2.2.1.2.1
  obtain rfl : n = n0 := (nI_eq (by omega) (by have := okd.2.1; omega)).mp (hw.symm.trans okd.1)
  have hD := okd.2.2.1
  have hT := okd.2.2.2
  refine R_aload_n (pc := 518) dL_law_518 rfl ?_
  refine R_aload_n (pc := 519) dL_law_519 rfl ?_
  refine R_iload_n (pc := 520) dL_law_520 rfl ?_
  refine R_iconst (pc := 521) (x := nI 1) dL_law_521 rfl ?_
  refine R_iadd (pc := 522) dL_law_522 ?_
  refine R_iald (pc := 523) dL_law_523 (by repeat (first | assumption | exact up_s | refine up_n (by omega) ?_)) (Or.inr rfl) (by first | with_reducible rfl | (simp only [nI_add]; exact rfl)) (by omega) (by omega) ?_
  refine R_callV (pc := 524) dL_law_524 rfl (by repeat (first | assumption | exact up_s | refine up_n (by omega) ?_)) rfl rfl ?_
  refine c11_write r (fun hbad => ?_) (fun y y1 y2 e el => ?_) (fun y y1 y2 e el h3 rr fr3 => ?_)
  · refine R_aload_n (pc := 527) dL_law_527 rfl ?_
    refine R_aload_n (pc := 528) dL_law_528 rfl ?_
    refine R_iload_n (pc := 529) dL_law_529 rfl ?_
    refine R_iconst (pc := 530) (x := nI 1) dL_law_530 rfl ?_
    refine R_iadd (pc := 531) dL_law_531 ?_
    refine R_iald (pc := 532) dL_law_532 (by repeat (first | assumption | exact up_s | refine up_n (by omega) ?_)) (Or.inr rfl) (by first | with_reducible rfl | (simp only [nI_add]; exact rfl)) (by omega) (by omega) ?_
    refine R_callV (pc := 533) dL_law_533 rfl hM rfl rfl ?_
    refine Rn_h hp.symm ?_
    refine s12_write hl hS6 (fun _ => ?_) (fun y y1 y2 e => absurd e (hbad y y1 y2)) (fun y y1 y2 e => absurd e (hbad y y1 y2))
    refine R_icmp_eq (pc := 536) (t := 1005) dL_law_536 (by decide) (fun _ => ?_) (fun hz9 => absurd rfl hz9)
    rw [hp]
    exact hX h z A S pm fl l _ _ _ _ hp lx
  · refine R_aload_n (pc := 527) dL_law_527 rfl ?_
    refine R_aload_n (pc := 528) dL_law_528 rfl ?_
    refine R_iload_n (pc := 529) dL_law_529 rfl ?_
    refine R_iconst (pc := 530) (x := nI 1) dL_law_530 rfl ?_
    refine R_iadd (pc := 531) dL_law_531 ?_
    refine R_iald (pc := 532) dL_law_532 (by repeat (first | assumption | exact up_s | refine up_n (by omega) ?_)) (Or.inr rfl) (by first | with_reducible rfl | (simp only [nI_add]; exact rfl)) (by omega) (by omega) ?_
    refine R_callV (pc := 533) dL_law_533 rfl hM rfl rfl ?_
    refine Rn_h hp.symm ?_
    refine s12_write hl hS6 (fun hbad => absurd e (hbad y y1 y2)) (fun _ _ _ _ _ => ?_) (fun _ _ _ _ q => absurd q (by omega))
    refine R_icmp_eq (pc := 536) (t := 1005) dL_law_536 (by decide) (fun _ => ?_) (fun hz9 => absurd rfl hz9)
    rw [hp]
    exact hX h z A S pm fl l _ _ _ _ hp lx
  · have hb_h3 : h3 b = _ := (fr3 b (by omega)).trans hb
    have hp_h3 : putM h3 (x + 158) A S = h3 := putM_keep hp (fun a a1 a2 => fr3 a (by omega))
    have hM_h3 : h3 (x + 158) = some (.inr (12, mo_obj (x + 158) S)) := by rw [← hp_h3]; exact putM_o
    refine R_aload_n (pc := 527) dL_law_527 rfl ?_
    refine R_aload_n (pc := 528) dL_law_528 rfl ?_
    refine R_iload_n (pc := 529) dL_law_529 rfl ?_
    refine R_iconst (pc := 530) (x := nI 1) dL_law_530 rfl ?_
    refine R_iadd (pc := 531) dL_law_531 ?_
    refine R_iald (pc := 532) dL_law_532 (by repeat (first | assumption | exact up_s | refine up_n (by omega) ?_)) (Or.inr rfl) (by first | with_reducible rfl | (simp only [nI_add]; exact rfl)) (by omega) (by omega) ?_
    refine R_callV (pc := 533) dL_law_533 rfl hM_h3 rfl rfl ?_
    refine Rn_h hp_h3.symm ?_
    refine s12_write hl hS6 (fun hbad => absurd e (hbad y y1 y2)) (fun _ _ _ _ q => absurd q (by omega)) (fun _ _ _ _ _ => ?_)
    refine R_icmp_eq (pc := 536) (t := 1005) dL_law_536 (by decide) (fun _ => ?_) (fun hz9 => absurd rfl hz9)
    exact hX _ z (va_up A 4 (upd (A 4) l (xs (k + 1)))) (va_up S 6 (nI (l + 1))) pm fl (l + 1) _ _ _ _ putM_putM (lx.put hbx hsA (fun a ha => fr3 a (by omega)) (st.fr (fun y y1 y2 => fr3 y (by omega))) rr (sc.fr (fun y y1 y2 => fr3 y (by omega))) hS2 hS4 up_s wk wp wi)
theorem law_c13 {b L k x Y pm fl l : Nat} {xs gs : Nat → Int32} {A : Nat → Nat → Int32} {S : Nat → Int32} {o4 o5 o6 o7 : Option Value} (hk : k + 4 ≤ L) (hL : L ≤ 2048) (hbx : b < x) (hsA : sA < x) (hgs : ∀ k, k < 4 → gs k = nI (if k = 0 then 2 else if k = 1 then 1 else 9999)) (hp : putM h (x + 158) A S = h) (lx : LX b L xs gs sA x Y h z A S pm fl l)  (hX : ∀ (h' : Nat → Option am_C) (z' : Nat × Nat) (A' : Nat → Nat → Int32) (S' : Nat → Int32) (pm' fl' l' : Nat) (o4 o5 o6 o7 : Option Value), putM h' (x + 158) A' S' = h' → LX b L xs gs sA x Y h' z' A' S' pm' fl' l' → Rn sA mL_law 1005 [some (.ref b), some (.ref x), some (.ref (x + 158)), some (.int (nI k)), o4, o5, o6, o7] [] (h', z') Q) : Rn sA mL_law 541 [some (.ref b), some (.ref x), some (.ref (x + 158)), some (.int (nI k)), o4, o5, o6, o7] [] (h, z) Q := by
  obtain ⟨hb, hst, st, r, sc, hS2, hS4, hS6, wk, wp, wi⟩ := id lx
  have hx := r.2.1
  have hpm : pm ≤ 8 := by obtain ⟨_, _, ⟨_, _, q, _⟩, _⟩ := r; exact q.2.2.2.1
  have hfl : fl < 4 := by obtain ⟨_, _, ⟨_, _, _, q, _⟩, _⟩ := r; exact q.2.1
  have hl := r.2.2.2.2
  have hM : h (x + 158) = some (.inr (12, mo_obj (x + 158) S)) := by rw [← hp]; exact putM_o
  obtain ⟨P, Wd, n, pe, K, R, se, co, sa, sr⟩ := id st
  obtain ⟨⟨n0, okd⟩, m, rep⟩ := id wk
  have hw := sr.2.2.1.1
  have hn := sr.2.2.1.2.1
  obtain rfl : n = n0 := (nI_eq (by omega) (by have := okd.2.1; omega)).mp (hw.symm.trans okd.1)
  have hD := okd.2.2.1
  have hT := okd.2.2.2
  refine R_aload_n (pc := 541) dL_law_541 rfl ?_
  refine R_callV (pc := 542) dL_law_542 rfl (by repeat (first | assumption | exact up_s | refine up_n (by omega) ?_)) rfl rfl ?_
  refine c11_wipe r (fun h3 rr fr3 => ?_)
  have hb_h3 : h3 b = _ := (fr3 b (by omega)).trans hb
  have hp_h3 : putM h3 (x + 158) A S = h3 := putM_keep hp (fun a a1 a2 => fr3 a (by omega))
  have hM_h3 : h3 (x + 158) = some (.inr (12, mo_obj (x + 158) S)) := by rw [← hp_h3]; exact putM_o
  refine R_aload_n (pc := 545) dL_law_545 rfl ?_
  refine R_callV (pc := 546) dL_law_546 rfl hM_h3 rfl rfl ?_
  refine Rn_h hp_h3.symm ?_
  refine s12_wipe ?_
  refine R_icmp_eq (pc := 549) (t := 1005) dL_law_549 (by decide) (fun _ => ?_) (fun hz9 => absurd hS6.symm hz9)
  exact hX _ z A (va_up S 6 (nI 0)) pm fl 0 _ _ _ _ putM_putM (lx.put hbx hsA (fun a ha => fr3 a (by omega)) (st.fr (fun y y1 y2 => fr3 y (by omega))) rr (sc.fr (fun y y1 y2 => fr3 y (by omega))) hS2 hS4 up_s wk wp wi)
theorem law_c15 {b L k x Y pm fl l : Nat} {xs gs : Nat → Int32} {A : Nat → Nat → Int32} {S : Nat → Int32} {o4 o5 o6 o7 : Option Value} (hk : k + 4 ≤ L) (hL : L ≤ 2048) (hbx : b < x) (hsA : sA < x) (hgs : ∀ k, k < 4 → gs k = nI (if k = 0 then 2 else if k = 1 then 1 else 9999)) (hp : putM h (x + 158) A S = h) (lx : LX b L xs gs sA x Y h z A S pm fl l)  (hX : ∀ (h' : Nat → Option am_C) (z' : Nat × Nat) (A' : Nat → Nat → Int32) (S' : Nat → Int32) (pm' fl' l' : Nat) (o4 o5 o6 o7 : Option Value), putM h' (x + 158) A' S' = h' → LX b L xs gs sA x Y h' z' A' S' pm' fl' l' → Rn sA mL_law 1005 [some (.ref b), some (.ref x), some (.ref (x + 158)), some (.int (nI k)), o4, o5, o6, o7] [] (h', z') Q) : Rn sA mL_law 577 [some (.ref b), some (.ref x), some (.ref (x + 158)), some (.int (nI k)), o4, o5, o6, o7] [] (h, z) Q := by
  obtain ⟨hb, hst, st, r, sc, hS2, hS4, hS6, wk, wp, wi⟩ := id lx
  have hx := r.2.1
  have hpm : pm ≤ 8 := by obtain ⟨_, _, ⟨_, _, q, _⟩, _⟩ := r; exact q.2.2.2.1
  have hfl : fl < 4 := by obtain ⟨_, _, ⟨_, _, _, q, _⟩, _⟩ := r; exact q.2.1
  have hl := r.2.2.2.2
  have hM : h (x + 158) = some (.inr (12, mo_obj (x + 158) S)) := by rw [← hp]; exact putM_o
  obtain ⟨P, Wd, n, pe, K, R, se, co, sa, sr⟩ := id st
  obtain ⟨⟨n0, okd⟩, m, rep⟩ := id wk
  have hw := sr.2.2.1.1
  have hn := sr.2.2.1.2.1
  obtain rfl : n = n0 := (nI_eq (by omega) (by have := okd.2.1; omega)).mp (hw.symm.trans okd.1)
  have hD := okd.2.2.1
  have hT := okd.2.2.2
  refine R_aload_n (pc := 577) dL_law_577 rfl ?_
  refine R_aload_n (pc := 578) dL_law_578 rfl ?_
  refine R_iload_n (pc := 579) dL_law_579 rfl ?_
  refine R_iconst (pc := 580) (x := nI 1) dL_law_580 rfl ?_
  refine R_iadd (pc := 581) dL_law_581 ?_
  refine R_iald (pc := 582) dL_law_582 (by repeat (first | assumption | exact up_s | refine up_n (by omega) ?_)) (Or.inr rfl) (by first | with_reducible rfl | (simp only [nI_add]; exact rfl)) (by omega) (by omega) ?_
  refine R_callV (pc := 583) dL_law_583 rfl (by repeat (first | assumption | exact up_s | refine up_n (by omega) ?_)) rfl rfl ?_
  refine c11_told r sa sr sc rep hD (fun e => ?_) (fun e => ?_) (fun e => ?_) (fun e => ?_) (fun e h3 sc3 fr3 => ?_) (fun e => ?_) (fun e => ?_) (fun hbad => ?_)
  · refine R_aload_n (pc := 586) dL_law_586 rfl ?_
    refine R_aload_n (pc := 587) dL_law_587 rfl ?_
    refine R_iload_n (pc := 588) dL_law_588 rfl ?_
    refine R_iconst (pc := 589) (x := nI 1) dL_law_589 rfl ?_
    refine R_iadd (pc := 590) dL_law_590 ?_
    refine R_iald (pc := 591) dL_law_591 (by repeat (first | assumption | exact up_s | refine up_n (by omega) ?_)) (Or.inr rfl) (by first | with_reducible rfl | (simp only [nI_add]; exact rfl)) (by omega) (by omega) ?_
    refine R_callV (pc := 592) dL_law_592 rfl hM rfl rfl ?_
    refine Rn_h hp.symm ?_
    refine s12_told sr.1 hn hw sr.2.2.2.1.2.2.2.1 sr.2.2.2.1.2.2.1 (fun _ => ?_) (fun e2 => absurd (e.symm.trans e2) (by decide)) (fun e2 => absurd (e.symm.trans e2) (by decide)) (fun e2 => absurd (e.symm.trans e2) (by decide)) (fun e2 => absurd (e.symm.trans e2) (by decide)) (fun e2 => absurd (e.symm.trans e2) (by decide)) (fun e2 => absurd (e.symm.trans e2) (by decide)) (fun hbad => absurd e (hbad 0 (by omega)))
    refine R_icmp_eq (pc := 595) (t := 1005) dL_law_595 (by decide) (fun _ => ?_) (fun hz9 => absurd rfl hz9)
    rw [hp]
    exact hX h z A S pm fl l _ _ _ _ hp lx
  · refine R_aload_n (pc := 586) dL_law_586 rfl ?_
    refine R_aload_n (pc := 587) dL_law_587 rfl ?_
    refine R_iload_n (pc := 588) dL_law_588 rfl ?_
    refine R_iconst (pc := 589) (x := nI 1) dL_law_589 rfl ?_
    refine R_iadd (pc := 590) dL_law_590 ?_
    refine R_iald (pc := 591) dL_law_591 (by repeat (first | assumption | exact up_s | refine up_n (by omega) ?_)) (Or.inr rfl) (by first | with_reducible rfl | (simp only [nI_add]; exact rfl)) (by omega) (by omega) ?_
    refine R_callV (pc := 592) dL_law_592 rfl hM rfl rfl ?_
    refine Rn_h hp.symm ?_
    refine s12_told sr.1 hn hw sr.2.2.2.1.2.2.2.1 sr.2.2.2.1.2.2.1 (fun e2 => absurd (e.symm.trans e2) (by decide)) (fun _ => ?_) (fun e2 => absurd (e.symm.trans e2) (by decide)) (fun e2 => absurd (e.symm.trans e2) (by decide)) (fun e2 => absurd (e.symm.trans e2) (by decide)) (fun e2 => absurd (e.symm.trans e2) (by decide)) (fun e2 => absurd (e.symm.trans e2) (by decide)) (fun hbad => absurd e (hbad 1 (by omega)))
    refine R_icmp_eq (pc := 595) (t := 1005) dL_law_595 (by decide) (fun _ => ?_) (fun hz9 => absurd rfl hz9)
    rw [hp]
    exact hX h z A S pm fl l _ _ _ _ hp lx
  · refine R_aload_n (pc := 586) dL_law_586 rfl ?_
    refine R_aload_n (pc := 587) dL_law_587 rfl ?_
    refine R_iload_n (pc := 588) dL_law_588 rfl ?_
    refine R_iconst (pc := 589) (x := nI 1) dL_law_589 rfl ?_
    refine R_iadd (pc := 590) dL_law_590 ?_
    refine R_iald (pc := 591) dL_law_591 (by repeat (first | assumption | exact up_s | refine up_n (by omega) ?_)) (Or.inr rfl) (by first | with_reducible rfl | (simp only [nI_add]; exact rfl)) (by omega) (by omega) ?_
    refine R_callV (pc := 592) dL_law_592 rfl hM rfl rfl ?_
    refine Rn_h hp.symm ?_
    refine s12_told sr.1 hn hw sr.2.2.2.1.2.2.2.1 sr.2.2.2.1.2.2.1 (fun e2 => absurd (e.symm.trans e2) (by decide)) (fun e2 => absurd (e.symm.trans e2) (by decide)) (fun _ => ?_) (fun e2 => absurd (e.symm.trans e2) (by decide)) (fun e2 => absurd (e.symm.trans e2) (by decide)) (fun e2 => absurd (e.symm.trans e2) (by decide)) (fun e2 => absurd (e.symm.trans e2) (by decide)) (fun hbad => absurd e (hbad 2 (by omega)))
    refine R_icmp_eq (pc := 595) (t := 1005) dL_law_595 (by decide) (fun _ => ?_) (fun hz9 => absurd rfl hz9)
    rw [hp]
    exact hX h z A S pm fl l _ _ _ _ hp lx
  · refine R_aload_n (pc := 586) dL_law_586 rfl ?_
    refine R_aload_n (pc := 587) dL_law_587 rfl ?_
    refine R_iload_n (pc := 588) dL_law_588 rfl ?_
    refine R_iconst (pc := 589) (x := nI 1) dL_law_589 rfl ?_
    refine R_iadd (pc := 590) dL_law_590 ?_
    refine R_iald (pc := 591) dL_law_591 (by repeat (first | assumption | exact up_s | refine up_n (by omega) ?_)) (Or.inr rfl) (by first | with_reducible rfl | (simp only [nI_add]; exact rfl)) (by omega) (by omega) ?_
    refine R_callV (pc := 592) dL_law_592 rfl hM rfl rfl ?_
    refine Rn_h hp.symm ?_
    refine s12_told sr.1 hn hw sr.2.2.2.1.2.2.2.1 sr.2.2.2.1.2.2.1 (fun e2 => absurd (e.symm.trans e2) (by decide)) (fun e2 => absurd (e.symm.trans e2) (by decide)) (fun e2 => absurd (e.symm.trans e2) (by decide)) (fun _ => ?_) (fun e2 => absurd (e.symm.trans e2) (by decide)) (fun e2 => absurd (e.symm.trans e2) (by decide)) (fun e2 => absurd (e.symm.trans e2) (by decide)) (fun hbad => absurd e (hbad 3 (by omega)))
    refine R_icmp_eq (pc := 595) (t := 1005) dL_law_595 (by decide) (fun _ => ?_) (fun hz9 => absurd rfl hz9)
    rw [hp]
    exact hX h z A S pm fl l _ _ _ _ hp lx
  · have hb_h3 : h3 b = _ := (fr3 b (by omega)).trans hb
    have hp_h3 : putM h3 (x + 158) A S = h3 := putM_keep hp (fun a a1 a2 => fr3 a (by omega))
    have hM_h3 : h3 (x + 158) = some (.inr (12, mo_obj (x + 158) S)) := by rw [← hp_h3]; exact putM_o
    refine R_aload_n (pc := 586) dL_law_586 rfl ?_
    refine R_aload_n (pc := 587) dL_law_587 rfl ?_
    refine R_iload_n (pc := 588) dL_law_588 rfl ?_
    refine R_iconst (pc := 589) (x := nI 1) dL_law_589 rfl ?_
    refine R_iadd (pc := 590) dL_law_590 ?_
    refine R_iald (pc := 591) dL_law_591 (by repeat (first | assumption | exact up_s | refine up_n (by omega) ?_)) (Or.inr rfl) (by first | with_reducible rfl | (simp only [nI_add]; exact rfl)) (by omega) (by omega) ?_
    refine R_callV (pc := 592) dL_law_592 rfl hM_h3 rfl rfl ?_
    refine Rn_h hp_h3.symm ?_
    refine s12_told sr.1 hn hw sr.2.2.2.1.2.2.2.1 sr.2.2.2.1.2.2.1 (fun e2 => absurd (e.symm.trans e2) (by decide)) (fun e2 => absurd (e.symm.trans e2) (by decide)) (fun e2 => absurd (e.symm.trans e2) (by decide)) (fun e2 => absurd (e.symm.trans e2) (by decide)) (fun _ g => ?_) (fun e2 => absurd (e.symm.trans e2) (by decide)) (fun e2 => absurd (e.symm.trans e2) (by decide)) (fun hbad => absurd e (hbad 4 (by omega)))
    refine R_icmp_eq (pc := 595) (t := 1005) dL_law_595 (by decide) (fun _ => ?_) (fun hz9 => absurd rfl hz9)
    exact hX _ z (va_up A 5 g) S pm fl l _ _ _ _ putM_putM (lx.qy hbx hsA sc3 (fun a ha => fr3 a (by omega)) rfl rfl rfl rfl (fun _ _ => rfl))
  · refine R_aload_n (pc := 586) dL_law_586 rfl ?_
    refine R_aload_n (pc := 587) dL_law_587 rfl ?_
    refine R_iload_n (pc := 588) dL_law_588 rfl ?_
    refine R_iconst (pc := 589) (x := nI 1) dL_law_589 rfl ?_
    refine R_iadd (pc := 590) dL_law_590 ?_
    refine R_iald (pc := 591) dL_law_591 (by repeat (first | assumption | exact up_s | refine up_n (by omega) ?_)) (Or.inr rfl) (by first | with_reducible rfl | (simp only [nI_add]; exact rfl)) (by omega) (by omega) ?_
    refine R_callV (pc := 592) dL_law_592 rfl hM rfl rfl ?_
    refine Rn_h hp.symm ?_
    refine s12_told sr.1 hn hw sr.2.2.2.1.2.2.2.1 sr.2.2.2.1.2.2.1 (fun e2 => absurd (e.symm.trans e2) (by decide)) (fun e2 => absurd (e.symm.trans e2) (by decide)) (fun e2 => absurd (e.symm.trans e2) (by decide)) (fun e2 => absurd (e.symm.trans e2) (by decide)) (fun e2 => absurd (e.symm.trans e2) (by decide)) (fun _ => ?_) (fun e2 => absurd (e.symm.trans e2) (by decide)) (fun hbad => absurd e (hbad 5 (by omega)))
    refine R_icmp_eq (pc := 595) (t := 1005) dL_law_595 (by decide) (fun _ => ?_) (fun hz9 => absurd hS6.symm hz9)
    rw [hp]
    exact hX h z A S pm fl l _ _ _ _ hp lx
  · refine R_aload_n (pc := 586) dL_law_586 rfl ?_
    refine R_aload_n (pc := 587) dL_law_587 rfl ?_
    refine R_iload_n (pc := 588) dL_law_588 rfl ?_
    refine R_iconst (pc := 589) (x := nI 1) dL_law_589 rfl ?_
    refine R_iadd (pc := 590) dL_law_590 ?_
    refine R_iald (pc := 591) dL_law_591 (by repeat (first | assumption | exact up_s | refine up_n (by omega) ?_)) (Or.inr rfl) (by first | with_reducible rfl | (simp only [nI_add]; exact rfl)) (by omega) (by omega) ?_
    refine R_callV (pc := 592) dL_law_592 rfl hM rfl rfl ?_
    refine Rn_h hp.symm ?_
    refine s12_told sr.1 hn hw sr.2.2.2.1.2.2.2.1 sr.2.2.2.1.2.2.1 (fun e2 => absurd (e.symm.trans e2) (by decide)) (fun e2 => absurd (e.symm.trans e2) (by decide)) (fun e2 => absurd (e.symm.trans e2) (by decide)) (fun e2 => absurd (e.symm.trans e2) (by decide)) (fun e2 => absurd (e.symm.trans e2) (by decide)) (fun e2 => absurd (e.symm.trans e2) (by decide)) (fun _ => ?_) (fun hbad => absurd e (hbad 6 (by omega)))
    refine R_icmp_eq (pc := 595) (t := 1005) dL_law_595 (by decide) (fun _ => ?_) (fun hz9 => absurd hS2.symm hz9)
    rw [hp]
    exact hX h z A S pm fl l _ _ _ _ hp lx
  · refine R_aload_n (pc := 586) dL_law_586 rfl ?_
    refine R_aload_n (pc := 587) dL_law_587 rfl ?_
    refine R_iload_n (pc := 588) dL_law_588 rfl ?_
    refine R_iconst (pc := 589) (x := nI 1) dL_law_589 rfl ?_
    refine R_iadd (pc := 590) dL_law_590 ?_
    refine R_iald (pc := 591) dL_law_591 (by repeat (first | assumption | exact up_s | refine up_n (by omega) ?_)) (Or.inr rfl) (by first | with_reducible rfl | (simp only [nI_add]; exact rfl)) (by omega) (by omega) ?_
    refine R_callV (pc := 592) dL_law_592 rfl hM rfl rfl ?_
    refine Rn_h hp.symm ?_
    refine s12_told sr.1 hn hw sr.2.2.2.1.2.2.2.1 sr.2.2.2.1.2.2.1 (fun e2 => absurd e2 (hbad 0 (by omega))) (fun e2 => absurd e2 (hbad 1 (by omega))) (fun e2 => absurd e2 (hbad 2 (by omega))) (fun e2 => absurd e2 (hbad 3 (by omega))) (fun e2 => absurd e2 (hbad 4 (by omega))) (fun e2 => absurd e2 (hbad 5 (by omega))) (fun e2 => absurd e2 (hbad 6 (by omega))) (fun _ => ?_)
    refine R_icmp_eq (pc := 595) (t := 1005) dL_law_595 (by decide) (fun _ => ?_) (fun hz9 => absurd rfl hz9)
    rw [hp]
    exact hX h z A S pm fl l _ _ _ _ hp lx
theorem law_c19 {b L k x Y pm fl l : Nat} {xs gs : Nat → Int32} {A : Nat → Nat → Int32} {S : Nat → Int32} {o4 o5 o6 o7 : Option Value} (hk : k + 4 ≤ L) (hL : L ≤ 2048) (hbx : b < x) (hsA : sA < x) (hgs : ∀ k, k < 4 → gs k = nI (if k = 0 then 2 else if k = 1 then 1 else 9999)) (hp : putM h (x + 158) A S = h) (lx : LX b L xs gs sA x Y h z A S pm fl l)  (hX : ∀ (h' : Nat → Option am_C) (z' : Nat × Nat) (A' : Nat → Nat → Int32) (S' : Nat → Int32) (pm' fl' l' : Nat) (o4 o5 o6 o7 : Option Value), putM h' (x + 158) A' S' = h' → LX b L xs gs sA x Y h' z' A' S' pm' fl' l' → Rn sA mL_law 1005 [some (.ref b), some (.ref x), some (.ref (x + 158)), some (.int (nI k)), o4, o5, o6, o7] [] (h', z') Q) : Rn sA mL_law 689 [some (.ref b), some (.ref x), some (.ref (x + 158)), some (.int (nI k)), o4, o5, o6, o7] [] (h, z) Q := by
  obtain ⟨hb, hst, st, r, sc, hS2, hS4, hS6, wk, wp, wi⟩ := id lx
  have hx := r.2.1
  have hpm : pm ≤ 8 := by obtain ⟨_, _, ⟨_, _, q, _⟩, _⟩ := r; exact q.2.2.2.1
  have hfl : fl < 4 := by obtain ⟨_, _, ⟨_, _, _, q, _⟩, _⟩ := r; exact q.2.1
  have hl := r.2.2.2.2
  have hM : h (x + 158) = some (.inr (12, mo_obj (x + 158) S)) := by rw [← hp]; exact putM_o
  obtain ⟨P, Wd, n, pe, K, R, se, co, sa, sr⟩ := id st
  obtain ⟨⟨n0, okd⟩, m, rep⟩ := id wk
  have hw := sr.2.2.1.1
  have hn := sr.2.2.1.2.1
  obtain rfl : n = n0 := (nI_eq (by omega) (by have := okd.2.1; omega)).mp (hw.symm.trans okd.1)
  have hD := okd.2.2.1
  have hT := okd.2.2.2
  refine R_aload_n (pc := 689) dL_law_689 rfl ?_
  refine R_aload_n (pc := 690) dL_law_690 rfl ?_
  refine R_iload_n (pc := 691) dL_law_691 rfl ?_
  refine R_iconst (pc := 692) (x := nI 1) dL_law_692 rfl ?_
  refine R_iadd (pc := 693) dL_law_693 ?_
  refine R_iald (pc := 694) dL_law_694 (by repeat (first | assumption | exact up_s | refine up_n (by omega) ?_)) (Or.inr rfl) (by first | with_reducible rfl | (simp only [nI_add]; exact rfl)) (by omega) (by omega) ?_
  refine R_aload_n (pc := 695) dL_law_695 rfl ?_
  refine R_iload_n (pc := 696) dL_law_696 rfl ?_
  refine R_iconst (pc := 697) (x := nI 2) dL_law_697 rfl ?_
  refine R_iadd (pc := 698) dL_law_698 ?_
  refine R_iald (pc := 699) dL_law_699 (by repeat (first | assumption | exact up_s | refine up_n (by omega) ?_)) (Or.inr rfl) (by first | with_reducible rfl | (simp only [nI_add]; exact rfl)) (by omega) (by omega) ?_
  refine R_callV (pc := 700) dL_law_700 rfl (by repeat (first | assumption | exact up_s | refine up_n (by omega) ?_)) rfl rfl ?_
  refine c11_card r sa sr sc rep hT hst hsA (fun hbad => ?_) (fun c f hc hf e e2 => ?_) (fun c hc e e2 => ?_) (fun c hc e e2 => ?_) (fun c hc e e2 => ?_) (fun c hc e e2 h3 sc3 fr3 => ?_)
  · refine R_aload_n (pc := 703) dL_law_703 rfl ?_
    refine R_aload_n (pc := 704) dL_law_704 rfl ?_
    refine R_iload_n (pc := 705) dL_law_705 rfl ?_
    refine R_iconst (pc := 706) (x := nI 1) dL_law_706 rfl ?_
    refine R_iadd (pc := 707) dL_law_707 ?_
    refine R_iald (pc := 708) dL_law_708 (by repeat (first | assumption | exact up_s | refine up_n (by omega) ?_)) (Or.inr rfl) (by first | with_reducible rfl | (simp only [nI_add]; exact rfl)) (by omega) (by omega) ?_
    refine R_aload_n (pc := 709) dL_law_709 rfl ?_
    refine R_iload_n (pc := 710) dL_law_710 rfl ?_
    refine R_iconst (pc := 711) (x := nI 2) dL_law_711 rfl ?_
    refine R_iadd (pc := 712) dL_law_712 ?_
    refine R_iald (pc := 713) dL_law_713 (by repeat (first | assumption | exact up_s | refine up_n (by omega) ?_)) (Or.inr rfl) (by first | with_reducible rfl | (simp only [nI_add]; exact rfl)) (by omega) (by omega) ?_
    refine R_callV (pc := 714) dL_law_714 rfl hM rfl rfl ?_
    refine Rn_h hp.symm ?_
    refine s12_card sr.1 hn hw hT (fun _ => ?_) (fun c f hc hf e e2 => absurd ⟨hc, by omega, e, e2⟩ (hbad c f)) (fun c hc e e2 => absurd ⟨hc, by omega, e, e2⟩ (hbad c 6)) (fun c hc e e2 => absurd ⟨hc, by omega, e, e2⟩ (hbad c 7)) (fun c hc e e2 => absurd ⟨hc, by omega, e, e2⟩ (hbad c 8)) (fun c hc e e2 => absurd ⟨hc, by omega, e, e2⟩ (hbad c 9))
    refine R_icmp_eq (pc := 717) (t := 1005) dL_law_717 (by decide) (fun _ => ?_) (fun hz9 => absurd rfl hz9)
    rw [hp]
    exact hX h z A S pm fl l _ _ _ _ hp lx
  · refine R_aload_n (pc := 703) dL_law_703 rfl ?_
    refine R_aload_n (pc := 704) dL_law_704 rfl ?_
    refine R_iload_n (pc := 705) dL_law_705 rfl ?_
    refine R_iconst (pc := 706) (x := nI 1) dL_law_706 rfl ?_
    refine R_iadd (pc := 707) dL_law_707 ?_
    refine R_iald (pc := 708) dL_law_708 (by repeat (first | assumption | exact up_s | refine up_n (by omega) ?_)) (Or.inr rfl) (by first | with_reducible rfl | (simp only [nI_add]; exact rfl)) (by omega) (by omega) ?_
    refine R_aload_n (pc := 709) dL_law_709 rfl ?_
    refine R_iload_n (pc := 710) dL_law_710 rfl ?_
    refine R_iconst (pc := 711) (x := nI 2) dL_law_711 rfl ?_
    refine R_iadd (pc := 712) dL_law_712 ?_
    refine R_iald (pc := 713) dL_law_713 (by repeat (first | assumption | exact up_s | refine up_n (by omega) ?_)) (Or.inr rfl) (by first | with_reducible rfl | (simp only [nI_add]; exact rfl)) (by omega) (by omega) ?_
    refine R_callV (pc := 714) dL_law_714 rfl hM rfl rfl ?_
    refine Rn_h hp.symm ?_
    refine s12_card sr.1 hn hw hT (fun hbad => absurd ⟨hc, by omega, e, e2⟩ (hbad c f)) (fun c2 f2 hc2 hf2 e3 e4 g => ?_) (fun c2 hc2 e3 e4 => absurd ((nI_eq (by omega) (by omega)).mp (e2.symm.trans e4)) (by omega)) (fun c2 hc2 e3 e4 => absurd ((nI_eq (by omega) (by omega)).mp (e2.symm.trans e4)) (by omega)) (fun c2 hc2 e3 e4 => absurd ((nI_eq (by omega) (by omega)).mp (e2.symm.trans e4)) (by omega)) (fun c2 hc2 e3 e4 => absurd ((nI_eq (by omega) (by omega)).mp (e2.symm.trans e4)) (by omega))
    obtain rfl : c2 = c := (nI_eq (by omega) (by omega)).mp (e3.symm.trans e)
    obtain rfl : f2 = f := (nI_eq (by omega) (by omega)).mp (e4.symm.trans e2)
    refine R_icmp_eq (pc := 717) (t := 1005) dL_law_717 (by decide) (fun _ => ?_) (fun hz9 => absurd rfl hz9)
    exact hX _ z (va_up A 5 g) S pm fl l _ _ _ _ putM_putM (lx.qy hbx hsA sc (fun _ _ => rfl) rfl rfl rfl rfl (fun _ _ => rfl))
  · refine R_aload_n (pc := 703) dL_law_703 rfl ?_
    refine R_aload_n (pc := 704) dL_law_704 rfl ?_
    refine R_iload_n (pc := 705) dL_law_705 rfl ?_
    refine R_iconst (pc := 706) (x := nI 1) dL_law_706 rfl ?_
    refine R_iadd (pc := 707) dL_law_707 ?_
    refine R_iald (pc := 708) dL_law_708 (by repeat (first | assumption | exact up_s | refine up_n (by omega) ?_)) (Or.inr rfl) (by first | with_reducible rfl | (simp only [nI_add]; exact rfl)) (by omega) (by omega) ?_
    refine R_aload_n (pc := 709) dL_law_709 rfl ?_
    refine R_iload_n (pc := 710) dL_law_710 rfl ?_
    refine R_iconst (pc := 711) (x := nI 2) dL_law_711 rfl ?_
    refine R_iadd (pc := 712) dL_law_712 ?_
    refine R_iald (pc := 713) dL_law_713 (by repeat (first | assumption | exact up_s | refine up_n (by omega) ?_)) (Or.inr rfl) (by first | with_reducible rfl | (simp only [nI_add]; exact rfl)) (by omega) (by omega) ?_
    refine R_callV (pc := 714) dL_law_714 rfl hM rfl rfl ?_
    refine Rn_h hp.symm ?_
    refine s12_card sr.1 hn hw hT (fun hbad => absurd ⟨hc, by omega, e, e2⟩ (hbad c 6)) (fun c2 f2 hc2 hf2 e3 e4 => absurd ((nI_eq (by omega) (by omega)).mp (e2.symm.trans e4)) (by omega)) (fun c2 hc2 e3 e4 g => ?_) (fun c2 hc2 e3 e4 => absurd (e2.symm.trans e4) (by decide)) (fun c2 hc2 e3 e4 => absurd (e2.symm.trans e4) (by decide)) (fun c2 hc2 e3 e4 => absurd (e2.symm.trans e4) (by decide))
    obtain rfl : c2 = c := (nI_eq (by omega) (by omega)).mp (e3.symm.trans e)
    refine R_icmp_eq (pc := 717) (t := 1005) dL_law_717 (by decide) (fun _ => ?_) (fun hz9 => absurd rfl hz9)
    exact hX _ z (va_up A 5 g) S pm fl l _ _ _ _ putM_putM (lx.qy hbx hsA sc (fun _ _ => rfl) rfl rfl rfl rfl (fun _ _ => rfl))
  · refine R_aload_n (pc := 703) dL_law_703 rfl ?_
    refine R_aload_n (pc := 704) dL_law_704 rfl ?_
    refine R_iload_n (pc := 705) dL_law_705 rfl ?_
    refine R_iconst (pc := 706) (x := nI 1) dL_law_706 rfl ?_
    refine R_iadd (pc := 707) dL_law_707 ?_
    refine R_iald (pc := 708) dL_law_708 (by repeat (first | assumption | exact up_s | refine up_n (by omega) ?_)) (Or.inr rfl) (by first | with_reducible rfl | (simp only [nI_add]; exact rfl)) (by omega) (by omega) ?_
    refine R_aload_n (pc := 709) dL_law_709 rfl ?_
    refine R_iload_n (pc := 710) dL_law_710 rfl ?_
    refine R_iconst (pc := 711) (x := nI 2) dL_law_711 rfl ?_
    refine R_iadd (pc := 712) dL_law_712 ?_
    refine R_iald (pc := 713) dL_law_713 (by repeat (first | assumption | exact up_s | refine up_n (by omega) ?_)) (Or.inr rfl) (by first | with_reducible rfl | (simp only [nI_add]; exact rfl)) (by omega) (by omega) ?_
    refine R_callV (pc := 714) dL_law_714 rfl hM rfl rfl ?_
    refine Rn_h hp.symm ?_
    refine s12_card sr.1 hn hw hT (fun hbad => absurd ⟨hc, by omega, e, e2⟩ (hbad c 7)) (fun c2 f2 hc2 hf2 e3 e4 => absurd ((nI_eq (by omega) (by omega)).mp (e2.symm.trans e4)) (by omega)) (fun c2 hc2 e3 e4 => absurd (e2.symm.trans e4) (by decide)) (fun c2 hc2 e3 e4 g => ?_) (fun c2 hc2 e3 e4 => absurd (e2.symm.trans e4) (by decide)) (fun c2 hc2 e3 e4 => absurd (e2.symm.trans e4) (by decide))
    obtain rfl : c2 = c := (nI_eq (by omega) (by omega)).mp (e3.symm.trans e)
    refine R_icmp_eq (pc := 717) (t := 1005) dL_law_717 (by decide) (fun _ => ?_) (fun hz9 => absurd rfl hz9)
    exact hX _ z (va_up A 5 g) S pm fl l _ _ _ _ putM_putM (lx.qy hbx hsA sc (fun _ _ => rfl) rfl rfl rfl rfl (fun _ _ => rfl))
  · refine R_aload_n (pc := 703) dL_law_703 rfl ?_
    refine R_aload_n (pc := 704) dL_law_704 rfl ?_
    refine R_iload_n (pc := 705) dL_law_705 rfl ?_
    refine R_iconst (pc := 706) (x := nI 1) dL_law_706 rfl ?_
    refine R_iadd (pc := 707) dL_law_707 ?_
    refine R_iald (pc := 708) dL_law_708 (by repeat (first | assumption | exact up_s | refine up_n (by omega) ?_)) (Or.inr rfl) (by first | with_reducible rfl | (simp only [nI_add]; exact rfl)) (by omega) (by omega) ?_
    refine R_aload_n (pc := 709) dL_law_709 rfl ?_
    refine R_iload_n (pc := 710) dL_law_710 rfl ?_
    refine R_iconst (pc := 711) (x := nI 2) dL_law_711 rfl ?_
    refine R_iadd (pc := 712) dL_law_712 ?_
    refine R_iald (pc := 713) dL_law_713 (by repeat (first | assumption | exact up_s | refine up_n (by omega) ?_)) (Or.inr rfl) (by first | with_reducible rfl | (simp only [nI_add]; exact rfl)) (by omega) (by omega) ?_
    refine R_callV (pc := 714) dL_law_714 rfl hM rfl rfl ?_
    refine Rn_h hp.symm ?_
    refine s12_card sr.1 hn hw hT (fun hbad => absurd ⟨hc, by omega, e, e2⟩ (hbad c 8)) (fun c2 f2 hc2 hf2 e3 e4 => absurd ((nI_eq (by omega) (by omega)).mp (e2.symm.trans e4)) (by omega)) (fun c2 hc2 e3 e4 => absurd (e2.symm.trans e4) (by decide)) (fun c2 hc2 e3 e4 => absurd (e2.symm.trans e4) (by decide)) (fun c2 hc2 e3 e4 g => ?_) (fun c2 hc2 e3 e4 => absurd (e2.symm.trans e4) (by decide))
    obtain rfl : c2 = c := (nI_eq (by omega) (by omega)).mp (e3.symm.trans e)
    refine R_icmp_eq (pc := 717) (t := 1005) dL_law_717 (by decide) (fun _ => ?_) (fun hz9 => absurd rfl hz9)
    exact hX _ z (va_up A 5 g) S pm fl l _ _ _ _ putM_putM (lx.qy hbx hsA sc (fun _ _ => rfl) rfl rfl rfl rfl (fun _ _ => rfl))
  · have hb_h3 : h3 b = _ := (fr3 b (by omega)).trans hb
    have hp_h3 : putM h3 (x + 158) A S = h3 := putM_keep hp (fun a a1 a2 => fr3 a (by omega))
    have hM_h3 : h3 (x + 158) = some (.inr (12, mo_obj (x + 158) S)) := by rw [← hp_h3]; exact putM_o
    refine R_aload_n (pc := 703) dL_law_703 rfl ?_
    refine R_aload_n (pc := 704) dL_law_704 rfl ?_
    refine R_iload_n (pc := 705) dL_law_705 rfl ?_
    refine R_iconst (pc := 706) (x := nI 1) dL_law_706 rfl ?_
    refine R_iadd (pc := 707) dL_law_707 ?_
    refine R_iald (pc := 708) dL_law_708 (by repeat (first | assumption | exact up_s | refine up_n (by omega) ?_)) (Or.inr rfl) (by first | with_reducible rfl | (simp only [nI_add]; exact rfl)) (by omega) (by omega) ?_
    refine R_aload_n (pc := 709) dL_law_709 rfl ?_
    refine R_iload_n (pc := 710) dL_law_710 rfl ?_
    refine R_iconst (pc := 711) (x := nI 2) dL_law_711 rfl ?_
    refine R_iadd (pc := 712) dL_law_712 ?_
    refine R_iald (pc := 713) dL_law_713 (by repeat (first | assumption | exact up_s | refine up_n (by omega) ?_)) (Or.inr rfl) (by first | with_reducible rfl | (simp only [nI_add]; exact rfl)) (by omega) (by omega) ?_
    refine R_callV (pc := 714) dL_law_714 rfl hM_h3 rfl rfl ?_
    refine Rn_h hp_h3.symm ?_
    refine s12_card sr.1 hn hw hT (fun hbad => absurd ⟨hc, by omega, e, e2⟩ (hbad c 9)) (fun c2 f2 hc2 hf2 e3 e4 => absurd ((nI_eq (by omega) (by omega)).mp (e2.symm.trans e4)) (by omega)) (fun c2 hc2 e3 e4 => absurd (e2.symm.trans e4) (by decide)) (fun c2 hc2 e3 e4 => absurd (e2.symm.trans e4) (by decide)) (fun c2 hc2 e3 e4 => absurd (e2.symm.trans e4) (by decide)) (fun c2 hc2 e3 e4 g => ?_)
    obtain rfl : c2 = c := (nI_eq (by omega) (by omega)).mp (e3.symm.trans e)
    refine R_icmp_eq (pc := 717) (t := 1005) dL_law_717 (by decide) (fun _ => ?_) (fun hz9 => absurd rfl hz9)
    exact hX _ z (va_up A 5 g) S pm fl l _ _ _ _ putM_putM (lx.qy hbx hsA sc3 (fun a ha => fr3 a (by omega)) rfl rfl rfl rfl (fun _ _ => rfl))
theorem law_c23 {b L k x Y pm fl l : Nat} {xs gs : Nat → Int32} {A : Nat → Nat → Int32} {S : Nat → Int32} {o4 o5 o6 o7 : Option Value} (hk : k + 4 ≤ L) (hL : L ≤ 2048) (hbx : b < x) (hsA : sA < x) (hgs : ∀ k, k < 4 → gs k = nI (if k = 0 then 2 else if k = 1 then 1 else 9999)) (hp : putM h (x + 158) A S = h) (lx : LX b L xs gs sA x Y h z A S pm fl l)  (hX : ∀ (h' : Nat → Option am_C) (z' : Nat × Nat) (A' : Nat → Nat → Int32) (S' : Nat → Int32) (pm' fl' l' : Nat) (o4 o5 o6 o7 : Option Value), putM h' (x + 158) A' S' = h' → LX b L xs gs sA x Y h' z' A' S' pm' fl' l' → Rn sA mL_law 1005 [some (.ref b), some (.ref x), some (.ref (x + 158)), some (.int (nI k)), o4, o5, o6, o7] [] (h', z') Q) : Rn sA mL_law 801 [some (.ref b), some (.ref x), some (.ref (x + 158)), some (.int (nI k)), o4, o5, o6, o7] [] (h, z) Q := by
  obtain ⟨hb, hst, st, r, sc, hS2, hS4, hS6, wk, wp, wi⟩ := id lx
  have hx := r.2.1
  have hpm : pm ≤ 8 := by obtain ⟨_, _, ⟨_, _, q, _⟩, _⟩ := r; exact q.2.2.2.1
  have hfl : fl < 4 := by obtain ⟨_, _, ⟨_, _, _, q, _⟩, _⟩ := r; exact q.2.1
  have hl := r.2.2.2.2
  have hM : h (x + 158) = some (.inr (12, mo_obj (x + 158) S)) := by rw [← hp]; exact putM_o
  obtain ⟨P, Wd, n, pe, K, R, se, co, sa, sr⟩ := id st
  obtain ⟨⟨n0, okd⟩, m, rep⟩ := id wk
  have hw := sr.2.2.1.1
  have hn := sr.2.2.1.2.1
  obtain rfl : n = n0 := (nI_eq (by omega) (by have := okd.2.1; omega)).mp (hw.symm.trans okd.1)
  have hD := okd.2.2.1
  have hT := okd.2.2.2
  refine R_aload_n (pc := 801) dL_law_801 rfl ?_
  refine R_aload_n (pc := 802) dL_law_802 rfl ?_
  refine R_iload_n (pc := 803) dL_law_803 rfl ?_
  refine R_iconst (pc := 804) (x := nI 1) dL_law_804 rfl ?_
  refine R_iadd (pc := 805) dL_law_805 ?_
  refine R_iald (pc := 806) dL_law_806 (by repeat (first | assumption | exact up_s | refine up_n (by omega) ?_)) (Or.inr rfl) (by first | with_reducible rfl | (simp only [nI_add]; exact rfl)) (by omega) (by omega) ?_
  refine R_aload_n (pc := 807) dL_law_807 rfl ?_
  refine R_iload_n (pc := 808) dL_law_808 rfl ?_
  refine R_iconst (pc := 809) (x := nI 2) dL_law_809 rfl ?_
  refine R_iadd (pc := 810) dL_law_810 ?_
  refine R_iald (pc := 811) dL_law_811 (by repeat (first | assumption | exact up_s | refine up_n (by omega) ?_)) (Or.inr rfl) (by first | with_reducible rfl | (simp only [nI_add]; exact rfl)) (by omega) (by omega) ?_
  refine R_callV (pc := 812) dL_law_812 rfl (by repeat (first | assumption | exact up_s | refine up_n (by omega) ?_)) rfl rfl ?_
  refine c11_again r sa sr sc rep (fun hbad => ?_) (fun j hd hj e h3 sc3 fr3 => ?_)
  · refine R_aload_n (pc := 815) dL_law_815 rfl ?_
    refine R_aload_n (pc := 816) dL_law_816 rfl ?_
    refine R_iload_n (pc := 817) dL_law_817 rfl ?_
    refine R_iconst (pc := 818) (x := nI 1) dL_law_818 rfl ?_
    refine R_iadd (pc := 819) dL_law_819 ?_
    refine R_iald (pc := 820) dL_law_820 (by repeat (first | assumption | exact up_s | refine up_n (by omega) ?_)) (Or.inr rfl) (by first | with_reducible rfl | (simp only [nI_add]; exact rfl)) (by omega) (by omega) ?_
    refine R_aload_n (pc := 821) dL_law_821 rfl ?_
    refine R_iload_n (pc := 822) dL_law_822 rfl ?_
    refine R_iconst (pc := 823) (x := nI 2) dL_law_823 rfl ?_
    refine R_iadd (pc := 824) dL_law_824 ?_
    refine R_iald (pc := 825) dL_law_825 (by repeat (first | assumption | exact up_s | refine up_n (by omega) ?_)) (Or.inr rfl) (by first | with_reducible rfl | (simp only [nI_add]; exact rfl)) (by omega) (by omega) ?_
    refine R_callV (pc := 826) dL_law_826 rfl hM rfl rfl ?_
    refine Rn_h hp.symm ?_
    refine s12_again (acc := fun k f => A 1 (1104 + 5 * k + f)) (lim := A 1 1061) rep.2.1 rep.1 (fun _ _ _ _ => rfl) rfl (fun _ => ?_) (fun j hd hj e => absurd hbad (fun q => q.elim hd (fun q2 => q2 j hj e)))
    refine R_icmp_eq (pc := 829) (t := 1005) dL_law_829 (by decide) (fun _ => ?_) (fun hz9 => absurd rfl hz9)
    rw [hp]
    exact hX h z A S pm fl l _ _ _ _ hp lx
  · have hb_h3 : h3 b = _ := (fr3 b (by omega)).trans hb
    have hp_h3 : putM h3 (x + 158) A S = h3 := putM_keep hp (fun a a1 a2 => fr3 a (by omega))
    have hM_h3 : h3 (x + 158) = some (.inr (12, mo_obj (x + 158) S)) := by rw [← hp_h3]; exact putM_o
    refine R_aload_n (pc := 815) dL_law_815 rfl ?_
    refine R_aload_n (pc := 816) dL_law_816 rfl ?_
    refine R_iload_n (pc := 817) dL_law_817 rfl ?_
    refine R_iconst (pc := 818) (x := nI 1) dL_law_818 rfl ?_
    refine R_iadd (pc := 819) dL_law_819 ?_
    refine R_iald (pc := 820) dL_law_820 (by repeat (first | assumption | exact up_s | refine up_n (by omega) ?_)) (Or.inr rfl) (by first | with_reducible rfl | (simp only [nI_add]; exact rfl)) (by omega) (by omega) ?_
    refine R_aload_n (pc := 821) dL_law_821 rfl ?_
    refine R_iload_n (pc := 822) dL_law_822 rfl ?_
    refine R_iconst (pc := 823) (x := nI 2) dL_law_823 rfl ?_
    refine R_iadd (pc := 824) dL_law_824 ?_
    refine R_iald (pc := 825) dL_law_825 (by repeat (first | assumption | exact up_s | refine up_n (by omega) ?_)) (Or.inr rfl) (by first | with_reducible rfl | (simp only [nI_add]; exact rfl)) (by omega) (by omega) ?_
    refine R_callV (pc := 826) dL_law_826 rfl hM_h3 rfl rfl ?_
    refine Rn_h hp_h3.symm ?_
    refine s12_again (acc := fun k f => A 1 (1104 + 5 * k + f)) (lim := A 1 1061) rep.2.1 rep.1 (fun _ _ _ _ => rfl) rfl (fun q => absurd q (fun q => q.elim hd (fun q2 => q2 j hj e))) (fun j2 hd2 hj2 e2 => ?_)
    obtain rfl : j2 = j := (nI_eq (by omega) (by omega)).mp (e2.symm.trans e)
    refine R_icmp_eq (pc := 829) (t := 1005) dL_law_829 (by decide) (fun _ => ?_) (fun hz9 => absurd rfl hz9)
    exact hX _ z A S pm fl l _ _ _ _ putM_putM (lx.qy hbx hsA sc3 (fun a ha => fr3 a (by omega)) rfl rfl rfl rfl (fun _ _ => rfl))
theorem law_c25 {b L k x Y pm fl l : Nat} {xs gs : Nat → Int32} {A : Nat → Nat → Int32} {S : Nat → Int32} {o4 o5 o6 o7 : Option Value} (hk : k + 4 ≤ L) (hL : L ≤ 2048) (hbx : b < x) (hsA : sA < x) (hgs : ∀ k, k < 4 → gs k = nI (if k = 0 then 2 else if k = 1 then 1 else 9999)) (hp : putM h (x + 158) A S = h) (lx : LX b L xs gs sA x Y h z A S pm fl l)  (hX : ∀ (h' : Nat → Option am_C) (z' : Nat × Nat) (A' : Nat → Nat → Int32) (S' : Nat → Int32) (pm' fl' l' : Nat) (o4 o5 o6 o7 : Option Value), putM h' (x + 158) A' S' = h' → LX b L xs gs sA x Y h' z' A' S' pm' fl' l' → Rn sA mL_law 1005 [some (.ref b), some (.ref x), some (.ref (x + 158)), some (.int (nI k)), o4, o5, o6, o7] [] (h', z') Q) : Rn sA mL_law 847 [some (.ref b), some (.ref x), some (.ref (x + 158)), some (.int (nI k)), o4, o5, o6, o7] [] (h, z) Q := by
  obtain ⟨hb, hst, st, r, sc, hS2, hS4, hS6, wk, wp, wi⟩ := id lx
  have hx := r.2.1
  have hpm : pm ≤ 8 := by obtain ⟨_, _, ⟨_, _, q, _⟩, _⟩ := r; exact q.2.2.2.1
  have hfl : fl < 4 := by obtain ⟨_, _, ⟨_, _, _, q, _⟩, _⟩ := r; exact q.2.1
  have hl := r.2.2.2.2
  have hM : h (x + 158) = some (.inr (12, mo_obj (x + 158) S)) := by rw [← hp]; exact putM_o
  obtain ⟨P, Wd, n, pe, K, R, se, co, sa, sr⟩ := id st
  obtain ⟨⟨n0, okd⟩, m, rep⟩ := id wk
  have hw := sr.2.2.1.1
  have hn := sr.2.2.1.2.1
  obtain rfl : n = n0 := (nI_eq (by omega) (by have := okd.2.1; omega)).mp (hw.symm.trans okd.1)
  have hD := okd.2.2.1
  have hT := okd.2.2.2
  refine R_aload_n (pc := 847) dL_law_847 rfl ?_
  refine R_aload_n (pc := 848) dL_law_848 rfl ?_
  refine R_iload_n (pc := 849) dL_law_849 rfl ?_
  refine R_iconst (pc := 850) (x := nI 1) dL_law_850 rfl ?_
  refine R_iadd (pc := 851) dL_law_851 ?_
  refine R_iald (pc := 852) dL_law_852 (by repeat (first | assumption | exact up_s | refine up_n (by omega) ?_)) (Or.inr rfl) (by first | with_reducible rfl | (simp only [nI_add]; exact rfl)) (by omega) (by omega) ?_
  refine R_aload_n (pc := 853) dL_law_853 rfl ?_
  refine R_iload_n (pc := 854) dL_law_854 rfl ?_
  refine R_iconst (pc := 855) (x := nI 2) dL_law_855 rfl ?_
  refine R_iadd (pc := 856) dL_law_856 ?_
  refine R_iald (pc := 857) dL_law_857 (by repeat (first | assumption | exact up_s | refine up_n (by omega) ?_)) (Or.inr rfl) (by first | with_reducible rfl | (simp only [nI_add]; exact rfl)) (by omega) (by omega) ?_
  refine R_callV (pc := 858) dL_law_858 rfl (by repeat (first | assumption | exact up_s | refine up_n (by omega) ?_)) rfl rfl ?_
  refine c11_ranked r sa sr sc rep (fun hbad => ?_) (fun j hd hj e h3 sc3 fr3 => ?_)
  · refine R_aload_n (pc := 861) dL_law_861 rfl ?_
    refine R_aload_n (pc := 862) dL_law_862 rfl ?_
    refine R_iload_n (pc := 863) dL_law_863 rfl ?_
    refine R_iconst (pc := 864) (x := nI 1) dL_law_864 rfl ?_
    refine R_iadd (pc := 865) dL_law_865 ?_
    refine R_iald (pc := 866) dL_law_866 (by repeat (first | assumption | exact up_s | refine up_n (by omega) ?_)) (Or.inr rfl) (by first | with_reducible rfl | (simp only [nI_add]; exact rfl)) (by omega) (by omega) ?_
    refine R_aload_n (pc := 867) dL_law_867 rfl ?_
    refine R_iload_n (pc := 868) dL_law_868 rfl ?_
    refine R_iconst (pc := 869) (x := nI 2) dL_law_869 rfl ?_
    refine R_iadd (pc := 870) dL_law_870 ?_
    refine R_iald (pc := 871) dL_law_871 (by repeat (first | assumption | exact up_s | refine up_n (by omega) ?_)) (Or.inr rfl) (by first | with_reducible rfl | (simp only [nI_add]; exact rfl)) (by omega) (by omega) ?_
    refine R_callV (pc := 872) dL_law_872 rfl hM rfl rfl ?_
    refine Rn_h hp.symm ?_
    refine s12_ranked (acc := fun k f => A 1 (1104 + 5 * k + f)) (lim := A 1 1061) rep.2.1 rep.1 (fun _ _ _ _ => rfl) rfl (fun _ => ?_) (fun j hd hj e => absurd hbad (fun q => q.elim hd (fun q2 => q2 j hj e)))
    refine R_icmp_eq (pc := 875) (t := 1005) dL_law_875 (by decide) (fun _ => ?_) (fun hz9 => absurd rfl hz9)
    rw [hp]
    exact hX h z A S pm fl l _ _ _ _ hp lx
  · have hb_h3 : h3 b = _ := (fr3 b (by omega)).trans hb
    have hp_h3 : putM h3 (x + 158) A S = h3 := putM_keep hp (fun a a1 a2 => fr3 a (by omega))
    have hM_h3 : h3 (x + 158) = some (.inr (12, mo_obj (x + 158) S)) := by rw [← hp_h3]; exact putM_o
    refine R_aload_n (pc := 861) dL_law_861 rfl ?_
    refine R_aload_n (pc := 862) dL_law_862 rfl ?_
    refine R_iload_n (pc := 863) dL_law_863 rfl ?_
    refine R_iconst (pc := 864) (x := nI 1) dL_law_864 rfl ?_
    refine R_iadd (pc := 865) dL_law_865 ?_
    refine R_iald (pc := 866) dL_law_866 (by repeat (first | assumption | exact up_s | refine up_n (by omega) ?_)) (Or.inr rfl) (by first | with_reducible rfl | (simp only [nI_add]; exact rfl)) (by omega) (by omega) ?_
    refine R_aload_n (pc := 867) dL_law_867 rfl ?_
    refine R_iload_n (pc := 868) dL_law_868 rfl ?_
    refine R_iconst (pc := 869) (x := nI 2) dL_law_869 rfl ?_
    refine R_iadd (pc := 870) dL_law_870 ?_
    refine R_iald (pc := 871) dL_law_871 (by repeat (first | assumption | exact up_s | refine up_n (by omega) ?_)) (Or.inr rfl) (by first | with_reducible rfl | (simp only [nI_add]; exact rfl)) (by omega) (by omega) ?_
    refine R_callV (pc := 872) dL_law_872 rfl hM_h3 rfl rfl ?_
    refine Rn_h hp_h3.symm ?_
    refine s12_ranked (acc := fun k f => A 1 (1104 + 5 * k + f)) (lim := A 1 1061) rep.2.1 rep.1 (fun _ _ _ _ => rfl) rfl (fun q => absurd q (fun q => q.elim hd (fun q2 => q2 j hj e))) (fun j2 hd2 hj2 e2 => ?_)
    obtain rfl : j2 = j := (nI_eq (by omega) (by omega)).mp (e2.symm.trans e)
    refine R_icmp_eq (pc := 875) (t := 1005) dL_law_875 (by decide) (fun _ => ?_) (fun hz9 => absurd rfl hz9)
    exact hX _ z A S pm fl l _ _ _ _ putM_putM (lx.qy hbx hsA sc3 (fun a ha => fr3 a (by omega)) rfl rfl rfl rfl (fun _ _ => rfl))
theorem law_c24 {b L k x Y pm fl l : Nat} {xs gs : Nat → Int32} {A : Nat → Nat → Int32} {S : Nat → Int32} {o4 o5 o6 o7 : Option Value} (hk : k + 4 ≤ L) (hL : L ≤ 2048) (hbx : b < x) (hsA : sA < x) (hgs : ∀ k, k < 4 → gs k = nI (if k = 0 then 2 else if k = 1 then 1 else 9999)) (hp : putM h (x + 158) A S = h) (lx : LX b L xs gs sA x Y h z A S pm fl l)  (hX : ∀ (h' : Nat → Option am_C) (z' : Nat × Nat) (A' : Nat → Nat → Int32) (S' : Nat → Int32) (pm' fl' l' : Nat) (o4 o5 o6 o7 : Option Value), putM h' (x + 158) A' S' = h' → LX b L xs gs sA x Y h' z' A' S' pm' fl' l' → Rn sA mL_law 1005 [some (.ref b), some (.ref x), some (.ref (x + 158)), some (.int (nI k)), o4, o5, o6, o7] [] (h', z') Q) : Rn sA mL_law 834 [some (.ref b), some (.ref x), some (.ref (x + 158)), some (.int (nI k)), o4, o5, o6, o7] [] (h, z) Q := by
  obtain ⟨hb, hst, st, r, sc, hS2, hS4, hS6, wk, wp, wi⟩ := id lx
  have hx := r.2.1
  have hpm : pm ≤ 8 := by obtain ⟨_, _, ⟨_, _, q, _⟩, _⟩ := r; exact q.2.2.2.1
  have hfl : fl < 4 := by obtain ⟨_, _, ⟨_, _, _, q, _⟩, _⟩ := r; exact q.2.1
  have hl := r.2.2.2.2
  have hM : h (x + 158) = some (.inr (12, mo_obj (x + 158) S)) := by rw [← hp]; exact putM_o
  obtain ⟨P, Wd, n, pe, K, R, se, co, sa, sr⟩ := id st
  obtain ⟨⟨n0, okd⟩, m, rep⟩ := id wk
  have hw := sr.2.2.1.1
  have hn := sr.2.2.1.2.1
  obtain rfl : n = n0 := (nI_eq (by omega) (by have := okd.2.1; omega)).mp (hw.symm.trans okd.1)
  have hD := okd.2.2.1
  have hT := okd.2.2.2
  refine R_aload_n (pc := 834) dL_law_834 rfl ?_
  refine R_callV (pc := 835) dL_law_835 rfl (by repeat (first | assumption | exact up_s | refine up_n (by omega) ?_)) rfl rfl ?_
  refine c11_agrees r sa sr sc rep (fun e => ?_) (fun q e eb h3 sc3 fr3 => ?_) (fun q e eb h3 sc3 fr3 => ?_)
  · refine R_aload_n (pc := 838) dL_law_838 rfl ?_
    refine R_callV (pc := 839) dL_law_839 rfl hM rfl rfl ?_
    refine Rn_h hp.symm ?_
    refine s12_agrees0 (sr.2.2.2.1.1.trans (by rw [e])) ?_
    refine R_icmp_eq (pc := 842) (t := 1005) dL_law_842 (by decide) (fun _ => ?_) (fun hz9 => absurd rfl hz9)
    rw [hp]
    exact hX h z A S pm fl l _ _ _ _ hp lx
  · have hR1 := sr.2.2.2.1.2.1
    have hb_h3 : h3 b = _ := (fr3 b (by omega)).trans hb
    have hp_h3 : putM h3 (x + 158) A S = h3 := putM_keep hp (fun a a1 a2 => fr3 a (by omega))
    have hM_h3 : h3 (x + 158) = some (.inr (12, mo_obj (x + 158) S)) := by rw [← hp_h3]; exact putM_o
    refine R_aload_n (pc := 838) dL_law_838 rfl ?_
    refine R_callV (pc := 839) dL_law_839 rfl hM_h3 rfl rfl ?_
    refine Rn_h hp_h3.symm ?_
    refine s12_agrees (acc := fun k f => A 1 (1104 + 5 * k + f)) (c := q) (lim := A 1 1061) rep.2.1 rep.1 (fun _ _ _ _ => rfl) rfl (by omega) (sr.2.2.2.1.1.trans (by rw [e])) (fun _ => ?_) (fun eb2 => absurd (eb.symm.trans eb2) (by decide))
    refine R_icmp_eq (pc := 842) (t := 1005) dL_law_842 (by decide) (fun _ => ?_) (fun hz9 => absurd rfl hz9)
    exact hX _ z A S pm fl l _ _ _ _ putM_putM (lx.qy hbx hsA sc3 (fun a ha => fr3 a (by omega)) rfl rfl rfl rfl (fun _ _ => rfl))
  · have hR1 := sr.2.2.2.1.2.1
    have hb_h3 : h3 b = _ := (fr3 b (by omega)).trans hb
    have hp_h3 : putM h3 (x + 158) A S = h3 := putM_keep hp (fun a a1 a2 => fr3 a (by omega))
    have hM_h3 : h3 (x + 158) = some (.inr (12, mo_obj (x + 158) S)) := by rw [← hp_h3]; exact putM_o
    refine R_aload_n (pc := 838) dL_law_838 rfl ?_
    refine R_callV (pc := 839) dL_law_839 rfl hM_h3 rfl rfl ?_
    refine Rn_h hp_h3.symm ?_
    refine s12_agrees (acc := fun k f => A 1 (1104 + 5 * k + f)) (c := q) (lim := A 1 1061) rep.2.1 rep.1 (fun _ _ _ _ => rfl) rfl (by omega) (sr.2.2.2.1.1.trans (by rw [e])) (fun eb2 => absurd (eb.symm.trans eb2) (by decide)) (fun _ => ?_)
    refine R_icmp_eq (pc := 842) (t := 1005) dL_law_842 (by decide) (fun _ => ?_) (fun hz9 => absurd rfl hz9)
    exact hX _ z A S pm fl l _ _ _ _ putM_putM (lx.qy hbx hsA sc3 (fun a ha => fr3 a (by omega)) rfl rfl rfl rfl (fun _ _ => rfl))
theorem law_c27 {b L k x Y pm fl l : Nat} {xs gs : Nat → Int32} {A : Nat → Nat → Int32} {S : Nat → Int32} {o4 o5 o6 o7 : Option Value} (hk : k + 4 ≤ L) (hL : L ≤ 2048) (hbx : b < x) (hsA : sA < x) (hgs : ∀ k, k < 4 → gs k = nI (if k = 0 then 2 else if k = 1 then 1 else 9999)) (hp : putM h (x + 158) A S = h) (lx : LX b L xs gs sA x Y h z A S pm fl l)  (hX : ∀ (h' : Nat → Option am_C) (z' : Nat × Nat) (A' : Nat → Nat → Int32) (S' : Nat → Int32) (pm' fl' l' : Nat) (o4 o5 o6 o7 : Option Value), putM h' (x + 158) A' S' = h' → LX b L xs gs sA x Y h' z' A' S' pm' fl' l' → Rn sA mL_law 1005 [some (.ref b), some (.ref x), some (.ref (x + 158)), some (.int (nI k)), o4, o5, o6, o7] [] (h', z') Q) : Rn sA mL_law 923 [some (.ref b), some (.ref x), some (.ref (x + 158)), some (.int (nI k)), o4, o5, o6, o7] [] (h, z) Q := by
  obtain ⟨hb, hst, st, r, sc, hS2, hS4, hS6, wk, wp, wi⟩ := id lx
  have hx := r.2.1
  have hpm : pm ≤ 8 := by obtain ⟨_, _, ⟨_, _, q, _⟩, _⟩ := r; exact q.2.2.2.1
  have hfl : fl < 4 := by obtain ⟨_, _, ⟨_, _, _, q, _⟩, _⟩ := r; exact q.2.1
  have hl := r.2.2.2.2
  have hM : h (x + 158) = some (.inr (12, mo_obj (x + 158) S)) := by rw [← hp]; exact putM_o
  obtain ⟨P, Wd, n, pe, K, R, se, co, sa, sr⟩ := id st
  obtain ⟨⟨n0, okd⟩, m, rep⟩ := id wk
  have hw := sr.2.2.1.1
  have hn := sr.2.2.1.2.1
  obtain rfl : n = n0 := (nI_eq (by omega) (by have := okd.2.1; omega)).mp (hw.symm.trans okd.1)
  have hD := okd.2.2.1
  have hT := okd.2.2.2
  refine R_aload_n (pc := 923) dL_law_923 rfl ?_
  refine R_callV (pc := 924) dL_law_924 rfl (by repeat (first | assumption | exact up_s | refine up_n (by omega) ?_)) rfl rfl ?_
  refine c11_passes hx sa sr hD sc.1 (fun h3 G2 g2 g3 f4 so3 fr3 => ?_)
  have hb_h3 : h3 b = _ := (fr3 b (by omega)).trans hb
  have hp_h3 : putM h3 (x + 158) A S = h3 := putM_keep hp (fun a a1 a2 => fr3 a (by omega))
  have hM_h3 : h3 (x + 158) = some (.inr (12, mo_obj (x + 158) S)) := by rw [← hp_h3]; exact putM_o
  refine R_aload_n (pc := 927) dL_law_927 rfl ?_
  refine R_callV (pc := 928) dL_law_928 rfl hM_h3 rfl rfl ?_
  refine Rn_h hp_h3.symm ?_
  refine s12_passes sr.1 sr.2.1 hn hw hD (fun A2 m1 m2 m3 m4 => ?_)
  refine R_icmp_eq (pc := 931) (t := 1005) dL_law_931 (by decide) (fun _ => ?_) (fun hz9 => absurd rfl hz9)
  exact hX _ z A2 S pm fl l _ _ _ _ putM_putM (lx.qy hbx hsA (sc.so so3 (fun y y1 y2 => fr3 y (by omega))) (fun a ha => fr3 a (by omega)) m1 m2 m3 m4 (fun _ _ => rfl))
theorem law_c28 {b L k x Y pm fl l : Nat} {xs gs : Nat → Int32} {A : Nat → Nat → Int32} {S : Nat → Int32} {o4 o5 o6 o7 : Option Value} (hk : k + 4 ≤ L) (hL : L ≤ 2048) (hbx : b < x) (hsA : sA < x) (hgs : ∀ k, k < 4 → gs k = nI (if k = 0 then 2 else if k = 1 then 1 else 9999)) (hp : putM h (x + 158) A S = h) (lx : LX b L xs gs sA x Y h z A S pm fl l)  (hX : ∀ (h' : Nat → Option am_C) (z' : Nat × Nat) (A' : Nat → Nat → Int32) (S' : Nat → Int32) (pm' fl' l' : Nat) (o4 o5 o6 o7 : Option Value), putM h' (x + 158) A' S' = h' → LX b L xs gs sA x Y h' z' A' S' pm' fl' l' → Rn sA mL_law 1005 [some (.ref b), some (.ref x), some (.ref (x + 158)), some (.int (nI k)), o4, o5, o6, o7] [] (h', z') Q) : Rn sA mL_law 936 [some (.ref b), some (.ref x), some (.ref (x + 158)), some (.int (nI k)), o4, o5, o6, o7] [] (h, z) Q := by
  obtain ⟨hb, hst, st, r, sc, hS2, hS4, hS6, wk, wp, wi⟩ := id lx
  have hx := r.2.1
  have hpm : pm ≤ 8 := by obtain ⟨_, _, ⟨_, _, q, _⟩, _⟩ := r; exact q.2.2.2.1
  have hfl : fl < 4 := by obtain ⟨_, _, ⟨_, _, _, q, _⟩, _⟩ := r; exact q.2.1
  have hl := r.2.2.2.2
  have hM : h (x + 158) = some (.inr (12, mo_obj (x + 158) S)) := by rw [← hp]; exact putM_o
  obtain ⟨P, Wd, n, pe, K, R, se, co, sa, sr⟩ := id st
  obtain ⟨⟨n0, okd⟩, m, rep⟩ := id wk
  have hw := sr.2.2.1.1
  have hn := sr.2.2.1.2.1
  obtain rfl : n = n0 := (nI_eq (by omega) (by have := okd.2.1; omega)).mp (hw.symm.trans okd.1)
  have hD := okd.2.2.1
  have hT := okd.2.2.2
  refine R_aload_n (pc := 936) dL_law_936 rfl ?_
  refine R_aload_n (pc := 937) dL_law_937 rfl ?_
  refine R_iload_n (pc := 938) dL_law_938 rfl ?_
  refine R_iconst (pc := 939) (x := nI 1) dL_law_939 rfl ?_
  refine R_iadd (pc := 940) dL_law_940 ?_
  refine R_iald (pc := 941) dL_law_941 (by repeat (first | assumption | exact up_s | refine up_n (by omega) ?_)) (Or.inr rfl) (by first | with_reducible rfl | (simp only [nI_add]; exact rfl)) (by omega) (by omega) ?_
  refine R_callV (pc := 942) dL_law_942 rfl (by repeat (first | assumption | exact up_s | refine up_n (by omega) ?_)) rfl rfl ?_
  refine c11_accepts hx sa sr.1 sr.2.2.2.2.1 sr.2.2.1 hT hst hsA (hgs 0 (by omega)) sc (fun hbad => ?_) (fun v hv e h3 sc3 fr3 => ?_)
  · refine R_aload_n (pc := 945) dL_law_945 rfl ?_
    refine R_aload_n (pc := 946) dL_law_946 rfl ?_
    refine R_iload_n (pc := 947) dL_law_947 rfl ?_
    refine R_iconst (pc := 948) (x := nI 1) dL_law_948 rfl ?_
    refine R_iadd (pc := 949) dL_law_949 ?_
    refine R_iald (pc := 950) dL_law_950 (by repeat (first | assumption | exact up_s | refine up_n (by omega) ?_)) (Or.inr rfl) (by first | with_reducible rfl | (simp only [nI_add]; exact rfl)) (by omega) (by omega) ?_
    refine R_callV (pc := 951) dL_law_951 rfl hM rfl rfl ?_
    refine Rn_h hp.symm ?_
    refine s12_accepts sr.1 hn hw hT (fun _ => ?_) (fun v hv e => absurd e (hbad v hv))
    refine R_icmp_eq (pc := 954) (t := 1005) dL_law_954 (by decide) (fun _ => ?_) (fun hz9 => absurd rfl hz9)
    rw [hp]
    exact hX h z A S pm fl l _ _ _ _ hp lx
  · have hb_h3 : h3 b = _ := (fr3 b (by omega)).trans hb
    have hp_h3 : putM h3 (x + 158) A S = h3 := putM_keep hp (fun a a1 a2 => fr3 a (by omega))
    have hM_h3 : h3 (x + 158) = some (.inr (12, mo_obj (x + 158) S)) := by rw [← hp_h3]; exact putM_o
    refine R_aload_n (pc := 945) dL_law_945 rfl ?_
    refine R_aload_n (pc := 946) dL_law_946 rfl ?_
    refine R_iload_n (pc := 947) dL_law_947 rfl ?_
    refine R_iconst (pc := 948) (x := nI 1) dL_law_948 rfl ?_
    refine R_iadd (pc := 949) dL_law_949 ?_
    refine R_iald (pc := 950) dL_law_950 (by repeat (first | assumption | exact up_s | refine up_n (by omega) ?_)) (Or.inr rfl) (by first | with_reducible rfl | (simp only [nI_add]; exact rfl)) (by omega) (by omega) ?_
    refine R_callV (pc := 951) dL_law_951 rfl hM_h3 rfl rfl ?_
    refine Rn_h hp_h3.symm ?_
    refine s12_accepts sr.1 hn hw hT (fun hbad => absurd e (hbad v hv)) (fun v2 hv2 e2 A2 m1 m2 m3 m4 => ?_)
    obtain rfl : v2 = v := (nI_eq (by omega) (by omega)).mp (e2.symm.trans e)
    refine R_icmp_eq (pc := 954) (t := 1005) dL_law_954 (by decide) (fun _ => ?_) (fun hz9 => absurd rfl hz9)
    exact hX _ z A2 S pm fl l _ _ _ _ putM_putM (lx.qy hbx hsA sc3 (fun a ha => fr3 a (by omega)) m1 m2 m3 m4 (fun _ _ => rfl))
theorem law_c29 {b L k x Y pm fl l : Nat} {xs gs : Nat → Int32} {A : Nat → Nat → Int32} {S : Nat → Int32} {o4 o5 o6 o7 : Option Value} (hk : k + 4 ≤ L) (hL : L ≤ 2048) (hbx : b < x) (hsA : sA < x) (hgs : ∀ k, k < 4 → gs k = nI (if k = 0 then 2 else if k = 1 then 1 else 9999)) (hp : putM h (x + 158) A S = h) (lx : LX b L xs gs sA x Y h z A S pm fl l)  (hX : ∀ (h' : Nat → Option am_C) (z' : Nat × Nat) (A' : Nat → Nat → Int32) (S' : Nat → Int32) (pm' fl' l' : Nat) (o4 o5 o6 o7 : Option Value), putM h' (x + 158) A' S' = h' → LX b L xs gs sA x Y h' z' A' S' pm' fl' l' → Rn sA mL_law 1005 [some (.ref b), some (.ref x), some (.ref (x + 158)), some (.int (nI k)), o4, o5, o6, o7] [] (h', z') Q) : Rn sA mL_law 959 [some (.ref b), some (.ref x), some (.ref (x + 158)), some (.int (nI k)), o4, o5, o6, o7] [] (h, z) Q := by
  obtain ⟨hb, hst, st, r, sc, hS2, hS4, hS6, wk, wp, wi⟩ := id lx
  have hx := r.2.1
  have hpm : pm ≤ 8 := by obtain ⟨_, _, ⟨_, _, q, _⟩, _⟩ := r; exact q.2.2.2.1
  have hfl : fl < 4 := by obtain ⟨_, _, ⟨_, _, _, q, _⟩, _⟩ := r; exact q.2.1
  have hl := r.2.2.2.2
  have hM : h (x + 158) = some (.inr (12, mo_obj (x + 158) S)) := by rw [← hp]; exact putM_o
  obtain ⟨P, Wd, n, pe, K, R, se, co, sa, sr⟩ := id st
  obtain ⟨⟨n0, okd⟩, m, rep⟩ := id wk
  have hw := sr.2.2.1.1
  have hn := sr.2.2.1.2.1
  obtain rfl : n = n0 := (nI_eq (by omega) (by have := okd.2.1; omega)).mp (hw.symm.trans okd.1)
  have hD := okd.2.2.1
  have hT := okd.2.2.2
  refine R_aload_n (pc := 959) dL_law_959 rfl ?_
  refine R_aload_n (pc := 960) dL_law_960 rfl ?_
  refine R_iload_n (pc := 961) dL_law_961 rfl ?_
  refine R_iconst (pc := 962) (x := nI 1) dL_law_962 rfl ?_
  refine R_iadd (pc := 963) dL_law_963 ?_
  refine R_iald (pc := 964) dL_law_964 (by repeat (first | assumption | exact up_s | refine up_n (by omega) ?_)) (Or.inr rfl) (by first | with_reducible rfl | (simp only [nI_add]; exact rfl)) (by omega) (by omega) ?_
  refine R_callV (pc := 965) dL_law_965 rfl (by repeat (first | assumption | exact up_s | refine up_n (by omega) ?_)) rfl rfl ?_
  refine c11_keep r sa sr sc (fun hbad => ?_) (fun i hi e h3 z3 o => ?_)
  · refine R_aload_n (pc := 968) dL_law_968 rfl ?_
    refine R_aload_n (pc := 969) dL_law_969 rfl ?_
    refine R_iload_n (pc := 970) dL_law_970 rfl ?_
    refine R_iconst (pc := 971) (x := nI 1) dL_law_971 rfl ?_
    refine R_iadd (pc := 972) dL_law_972 ?_
    refine R_iald (pc := 973) dL_law_973 (by repeat (first | assumption | exact up_s | refine up_n (by omega) ?_)) (Or.inr rfl) (by first | with_reducible rfl | (simp only [nI_add]; exact rfl)) (by omega) (by omega) ?_
    refine R_callV (pc := 974) dL_law_974 rfl hM rfl rfl ?_
    refine Rn_h hp.symm ?_
    refine s12_keep hfl hS4 (fun _ => ?_) (fun i hi e => absurd e (hbad i hi))
    refine R_icmp_eq (pc := 977) (t := 1005) dL_law_977 (by decide) (fun _ => ?_) (fun hz9 => absurd rfl hz9)
    rw [hp]
    exact hX h z A S pm fl l _ _ _ _ hp lx
  · have fr3 := o.2.2.2
    have hb_h3 : h3 b = _ := (fr3 b (by omega)).trans hb
    have hp_h3 : putM h3 (x + 158) A S = h3 := putM_keep hp (fun a a1 a2 => fr3 a (by omega))
    have hM_h3 : h3 (x + 158) = some (.inr (12, mo_obj (x + 158) S)) := by rw [← hp_h3]; exact putM_o
    refine R_aload_n (pc := 968) dL_law_968 rfl ?_
    refine R_aload_n (pc := 969) dL_law_969 rfl ?_
    refine R_iload_n (pc := 970) dL_law_970 rfl ?_
    refine R_iconst (pc := 971) (x := nI 1) dL_law_971 rfl ?_
    refine R_iadd (pc := 972) dL_law_972 ?_
    refine R_iald (pc := 973) dL_law_973 (by repeat (first | assumption | exact up_s | refine up_n (by omega) ?_)) (Or.inr rfl) (by first | with_reducible rfl | (simp only [nI_add]; exact rfl)) (by omega) (by omega) ?_
    refine R_callV (pc := 974) dL_law_974 rfl hM_h3 rfl rfl ?_
    refine Rn_h hp_h3.symm ?_
    refine s12_keep hfl hS4 (fun hbad => absurd e (hbad i hi)) (fun i2 hi2 e2 => ?_)
    obtain rfl : i2 = i := (nI_eq (by omega) (by omega)).mp (e2.symm.trans e)
    refine R_icmp_eq (pc := 977) (t := 1005) dL_law_977 (by decide) (fun _ => ?_) (fun hz9 => absurd rfl hz9)
    obtain ⟨o1, o2, o3, o4⟩ := o
    refine hX _ z3 (va_up A 3 (va_cpy (A 1) (A 3) 0 (2754 * i2) 2754)) (va_up S 4 (nI (fl ||| 2 ^ i2))) pm (fl ||| 2 ^ i2) l _ _ _ _ putM_putM (lx.put hbx hsA (fun a ha => o4 a (by omega)) o1 o2 o3 hS2 up_s hS6 wk wp (fun j hj nz => ?_))
    rw [bit_or hfl hi2 hj] at nz
    by_cases q : j = i2
    · subst q
      refine wk.cg (fun y _ hy => ?_)
      show va_cpy (A 1) (A 3) 0 (2754 * j) 2754 (2754 * j + y) = A 1 y
      rw [cpy_in (by omega) (by omega), show 0 + (2754 * j + y - 2754 * j) = y by omega]
    · rw [if_neg q] at nz
      refine (wi j hj nz).cg (fun y _ hy => ?_)
      show va_cpy (A 1) (A 3) 0 (2754 * i2) 2754 (2754 * j + y) = A 3 (2754 * j + y)
      rw [cpy_out (by omega)]
theorem law_c30 {b L k x Y pm fl l : Nat} {xs gs : Nat → Int32} {A : Nat → Nat → Int32} {S : Nat → Int32} {o4 o5 o6 o7 : Option Value} (hk : k + 4 ≤ L) (hL : L ≤ 2048) (hbx : b < x) (hsA : sA < x) (hgs : ∀ k, k < 4 → gs k = nI (if k = 0 then 2 else if k = 1 then 1 else 9999)) (hp : putM h (x + 158) A S = h) (lx : LX b L xs gs sA x Y h z A S pm fl l)  (hX : ∀ (h' : Nat → Option am_C) (z' : Nat × Nat) (A' : Nat → Nat → Int32) (S' : Nat → Int32) (pm' fl' l' : Nat) (o4 o5 o6 o7 : Option Value), putM h' (x + 158) A' S' = h' → LX b L xs gs sA x Y h' z' A' S' pm' fl' l' → Rn sA mL_law 1005 [some (.ref b), some (.ref x), some (.ref (x + 158)), some (.int (nI k)), o4, o5, o6, o7] [] (h', z') Q) : Rn sA mL_law 982 [some (.ref b), some (.ref x), some (.ref (x + 158)), some (.int (nI k)), o4, o5, o6, o7] [] (h, z) Q := by
  obtain ⟨hb, hst, st, r, sc, hS2, hS4, hS6, wk, wp, wi⟩ := id lx
  have hx := r.2.1
  have hpm : pm ≤ 8 := by obtain ⟨_, _, ⟨_, _, q, _⟩, _⟩ := r; exact q.2.2.2.1
  have hfl : fl < 4 := by obtain ⟨_, _, ⟨_, _, _, q, _⟩, _⟩ := r; exact q.2.1
  have hl := r.2.2.2.2
  have hM : h (x + 158) = some (.inr (12, mo_obj (x + 158) S)) := by rw [← hp]; exact putM_o
  obtain ⟨P, Wd, n, pe, K, R, se, co, sa, sr⟩ := id st
  obtain ⟨⟨n0, okd⟩, m, rep⟩ := id wk
  have hw := sr.2.2.1.1
  have hn := sr.2.2.1.2.1
  obtain rfl : n = n0 := (nI_eq (by omega) (by have := okd.2.1; omega)).mp (hw.symm.trans okd.1)
  have hD := okd.2.2.1
  have hT := okd.2.2.2
  refine R_aload_n (pc := 982) dL_law_982 rfl ?_
  refine R_aload_n (pc := 983) dL_law_983 rfl ?_
  refine R_iload_n (pc := 984) dL_law_984 rfl ?_
  refine R_iconst (pc := 985) (x := nI 1) dL_law_985 rfl ?_
  refine R_iadd (pc := 986) dL_law_986 ?_
  refine R_iald (pc := 987) dL_law_987 (by repeat (first | assumption | exact up_s | refine up_n (by omega) ?_)) (Or.inr rfl) (by first | with_reducible rfl | (simp only [nI_add]; exact rfl)) (by omega) (by omega) ?_
  refine R_callV (pc := 988) dL_law_988 rfl (by repeat (first | assumption | exact up_s | refine up_n (by omega) ?_)) rfl rfl ?_
  refine c11_back r sa sr sc (fun hbad => ?_) (fun i hi e e0 => ?_) (fun i hi e e0 h3 z3 o => ?_)
  · refine R_aload_n (pc := 991) dL_law_991 rfl ?_
    refine R_aload_n (pc := 992) dL_law_992 rfl ?_
    refine R_iload_n (pc := 993) dL_law_993 rfl ?_
    refine R_iconst (pc := 994) (x := nI 1) dL_law_994 rfl ?_
    refine R_iadd (pc := 995) dL_law_995 ?_
    refine R_iald (pc := 996) dL_law_996 (by repeat (first | assumption | exact up_s | refine up_n (by omega) ?_)) (Or.inr rfl) (by first | with_reducible rfl | (simp only [nI_add]; exact rfl)) (by omega) (by omega) ?_
    refine R_callV (pc := 997) dL_law_997 rfl hM rfl rfl ?_
    refine Rn_h hp.symm ?_
    refine s12_back hfl hS4 hpm hS2 (fun _ => ?_) (fun i hi e => absurd e (hbad i hi)) (fun i hi e => absurd e (hbad i hi))
    refine R_icmp_eq (pc := 1000) (t := 1005) dL_law_1000 (by decide) (fun _ => ?_) (fun hz9 => absurd rfl hz9)
    rw [hp]
    exact hX h z A S pm fl l _ _ _ _ hp lx
  · refine R_aload_n (pc := 991) dL_law_991 rfl ?_
    refine R_aload_n (pc := 992) dL_law_992 rfl ?_
    refine R_iload_n (pc := 993) dL_law_993 rfl ?_
    refine R_iconst (pc := 994) (x := nI 1) dL_law_994 rfl ?_
    refine R_iadd (pc := 995) dL_law_995 ?_
    refine R_iald (pc := 996) dL_law_996 (by repeat (first | assumption | exact up_s | refine up_n (by omega) ?_)) (Or.inr rfl) (by first | with_reducible rfl | (simp only [nI_add]; exact rfl)) (by omega) (by omega) ?_
    refine R_callV (pc := 997) dL_law_997 rfl hM rfl rfl ?_
    refine Rn_h hp.symm ?_
    refine s12_back hfl hS4 hpm hS2 (fun hbad => absurd e (hbad i hi)) (fun i2 hi2 e2 e3 => ?_) (fun i2 hi2 e2 e3 => absurd e0 (by
      obtain rfl : i2 = i := (nI_eq (by omega) (by omega)).mp (e2.symm.trans e)
      exact e3))
    refine R_icmp_eq (pc := 1000) (t := 1005) dL_law_1000 (by decide) (fun _ => ?_) (fun hz9 => absurd rfl hz9)
    rw [hp]
    exact hX h z A S pm fl l _ _ _ _ hp lx
  · have fr3 := o.2.2.2
    have hb_h3 : h3 b = _ := (fr3 b (by omega)).trans hb
    have hp_h3 : putM h3 (x + 158) A S = h3 := putM_keep hp (fun a a1 a2 => fr3 a (by omega))
    have hM_h3 : h3 (x + 158) = some (.inr (12, mo_obj (x + 158) S)) := by rw [← hp_h3]; exact putM_o
    refine R_aload_n (pc := 991) dL_law_991 rfl ?_
    refine R_aload_n (pc := 992) dL_law_992 rfl ?_
    refine R_iload_n (pc := 993) dL_law_993 rfl ?_
    refine R_iconst (pc := 994) (x := nI 1) dL_law_994 rfl ?_
    refine R_iadd (pc := 995) dL_law_995 ?_
    refine R_iald (pc := 996) dL_law_996 (by repeat (first | assumption | exact up_s | refine up_n (by omega) ?_)) (Or.inr rfl) (by first | with_reducible rfl | (simp only [nI_add]; exact rfl)) (by omega) (by omega) ?_
    refine R_callV (pc := 997) dL_law_997 rfl hM_h3 rfl rfl ?_
    refine Rn_h hp_h3.symm ?_
    refine s12_back hfl hS4 hpm hS2 (fun hbad => absurd e (hbad i hi)) (fun i2 hi2 e2 e3 => absurd e3 (by
      obtain rfl : i2 = i := (nI_eq (by omega) (by omega)).mp (e2.symm.trans e)
      exact e0)) (fun i2 hi2 e2 e3 => ?_)
    obtain rfl : i2 = i := (nI_eq (by omega) (by omega)).mp (e2.symm.trans e)
    refine R_icmp_eq (pc := 1000) (t := 1005) dL_law_1000 (by decide) (fun _ => ?_) (fun hz9 => absurd rfl hz9)
    have ev : ∀ j, j < 2754 → va_cpy (A 3) (A 1) (2754 * i2) 0 2754 j = A 3 (2754 * i2 + j) := fun j hj => by rw [cpy_in (by omega) (by omega), Nat.sub_zero]
    exact hX _ z3 (va_up (va_up A 2 (remP (A 1) (A 2) pm)) 1 (va_cpy (A 3) (A 1) (2754 * i2) 0 2754)) (va_up S 2 (nI (remN pm))) (remN pm) fl l _ _ _ _ putM_putM (lx.rc hbx hsA hpm ⟨o.1.cg ev, o.2⟩ rfl rfl rfl up_s (fun q _ hq => va_up_o hq) ((wi i2 hi2 e3).cg (fun j _ hj => ev j hj)))
theorem sT_rng {g : Nat → Int32} : ∀ {m : Nat}, (∀ k, k < m → ∃ u, u < 10000 ∧ g k = nI u) → ∃ t, t ≤ 9999 * m ∧ sT g m = nI t
  | 0, _ => ⟨0, by omega, rfl⟩
  | m + 1, h => by
    obtain ⟨t, t1, t2⟩ := sT_rng (m := m) (fun k hk => h k (by omega))
    obtain ⟨u, u1, u2⟩ := h m (by omega)
    rw [sT_s, t2, u2, nI_add]
    exact ⟨t + u, by omega, rfl⟩
theorem law_c26 {b L k x Y pm fl l : Nat} {xs gs : Nat → Int32} {A : Nat → Nat → Int32} {S : Nat → Int32} {o4 o5 o6 o7 : Option Value} (hk : k + 4 ≤ L) (hL : L ≤ 2048) (hbx : b < x) (hsA : sA < x) (hgs : ∀ k, k < 4 → gs k = nI (if k = 0 then 2 else if k = 1 then 1 else 9999)) (hp : putM h (x + 158) A S = h) (lx : LX b L xs gs sA x Y h z A S pm fl l)  (hX : ∀ (h' : Nat → Option am_C) (z' : Nat × Nat) (A' : Nat → Nat → Int32) (S' : Nat → Int32) (pm' fl' l' : Nat) (o4 o5 o6 o7 : Option Value), putM h' (x + 158) A' S' = h' → LX b L xs gs sA x Y h' z' A' S' pm' fl' l' → Rn sA mL_law 1005 [some (.ref b), some (.ref x), some (.ref (x + 158)), some (.int (nI k)), o4, o5, o6, o7] [] (h', z') Q) : Rn sA mL_law 880 [some (.ref b), some (.ref x), some (.ref (x + 158)), some (.int (nI k)), o4, o5, o6, o7] [] (h, z) Q := by
  obtain ⟨hb, hst, st, r, sc, hS2, hS4, hS6, wk, wp, wi⟩ := id lx
  have hx := r.2.1
  have hpm : pm ≤ 8 := by obtain ⟨_, _, ⟨_, _, q, _⟩, _⟩ := r; exact q.2.2.2.1
  have hfl : fl < 4 := by obtain ⟨_, _, ⟨_, _, _, q, _⟩, _⟩ := r; exact q.2.1
  have hl := r.2.2.2.2
  have hM : h (x + 158) = some (.inr (12, mo_obj (x + 158) S)) := by rw [← hp]; exact putM_o
  obtain ⟨P, Wd, n, pe, K, R, se, co, sa, sr⟩ := id st
  obtain ⟨⟨n0, okd⟩, m, rep⟩ := id wk
  have hw := sr.2.2.1.1
  have hn := sr.2.2.1.2.1
  obtain rfl : n = n0 := (nI_eq (by omega) (by have := okd.2.1; omega)).mp (hw.symm.trans okd.1)
  have hD := okd.2.2.1
  have hT := okd.2.2.2
  have hR1 := sr.2.2.2.1.2.1
  have hh : ∀ q, R.1 = q + 1 → ∃ t, t < 2 ^ 20 ∧ A 1 (1305 + 9 * q + 4 + 1) = nI t := by
    intro q hq
    obtain ⟨-, r1, -⟩ := rep.rp sr.2.2.2.1
    obtain ⟨-, -, r5⟩ := r1 q hq
    have e5 := sr.2.2.2.1.2.2.2.2.2.1 q (by omega) 5 (by omega)
    obtain ⟨t, t1, t2⟩ := sT_rng (g := fun k => A 1 (1104 + 5 * k + 3)) (m := m) (fun k hk => rep.2.2.1 k hk 3 (by omega))
    refine ⟨t, by have := rep.2.1; omega, ?_⟩
    rw [← t2, ← r5, e5]
  have hv : ∀ q, R.1 = q + 1 → ¬ A 1 (1305 + 9 * q + 4 + 1) = 0 → vf_n32 (meanV (A 1 (1305 + 9 * q + 4 + 2)) (A 1 (1305 + 9 * q + 4 + 1))) := by
    intro q hq h0
    obtain ⟨t, t1, t2⟩ := hh q hq
    rw [t2] at h0 ⊢
    exact mean_n32 (Nat.pos_of_ne_zero (fun e => h0 (by rw [e]; rfl))) t1
  have hpos : ∀ q, R.1 = q + 1 → ¬ A 1 (1305 + 9 * q + 4 + 1) = 0 → ¬ A 1 (1305 + 9 * q + 4 + 1) ≤ 0 := by
    intro q hq h0
    obtain ⟨t, t1, t2⟩ := hh q hq
    rw [t2] at h0 ⊢
    exact nI_nle (Nat.pos_of_ne_zero (fun e => h0 (by rw [e]; rfl))) (by omega)
  have hmv : ∀ q, R.1 = q + 1 → vf_n32 (if A 1 (1305 + 9 * q + 4 + 1) = 0 then FP.fconst0 else meanV (A 1 (1305 + 9 * q + 4 + 2)) (A 1 (1305 + 9 * q + 4 + 1))) := by
    intro q hq
    by_cases h0 : A 1 (1305 + 9 * q + 4 + 1) = 0
    · rw [if_pos h0]; exact fc0_n32
    · rw [if_neg h0]; exact hv q hq h0
  refine R_aload_n (pc := 880) dL_law_880 rfl ?_
  refine R_callV (pc := 881) dL_law_881 rfl (by repeat (first | assumption | exact up_s | refine up_n (by omega) ?_)) rfl rfl ?_
  refine c11_mean r sa sr sc rep hv hpos (fun e => ?_) (fun q e => ?_)
  · refine R_f2d (pc := 884) dL_law_884 (f2d_ok (fc0_n32)).1 ?_
    refine R_dstore (pc := 885) dL_law_885 (Nat.le_of_ble_eq_true rfl) rfl ?_
    refine R_aload_n (pc := 887) dL_law_887 rfl ?_
    refine R_callV (pc := 888) dL_law_888 rfl hM rfl rfl ?_
    refine Rn_h hp.symm ?_
    refine s12_mean0 (sr.2.2.2.1.1.trans (by rw [e])) ?_
    refine R_f2d (pc := 891) dL_law_891 (f2d_ok (fc0_n32)).1 ?_
    refine R_dstore (pc := 892) dL_law_892 (Nat.le_of_ble_eq_true rfl) rfl ?_
    refine R_dload (pc := 894) dL_law_894 rfl ?_
    refine R_dload (pc := 896) dL_law_896 rfl ?_
    refine R_dcmp (pc := 898) dL_law_898 ?_
    refine R_if_eq (pc := 899) (t := 920) dL_law_899 (by decide) (fun _ => ?_) (fun hz9 => absurd (by rw [(f2d_ok (fc0_n32)).2]; rfl) hz9)
    refine R_goto (pc := 920) (t := 1005) dL_law_920 (by decide) ?_
    rw [hp]
    exact hX h z A S pm fl l _ _ _ _ hp lx
  · refine R_f2d (pc := 884) dL_law_884 (f2d_ok (hmv q e)).1 ?_
    refine R_dstore (pc := 885) dL_law_885 (Nat.le_of_ble_eq_true rfl) rfl ?_
    refine R_aload_n (pc := 887) dL_law_887 rfl ?_
    refine R_callV (pc := 888) dL_law_888 rfl hM rfl rfl ?_
    refine Rn_h hp.symm ?_
    refine s12_mean (c := q) (by omega) (sr.2.2.2.1.1.trans (by rw [e])) (hv q e) ?_
    refine R_f2d (pc := 891) dL_law_891 (f2d_ok (hmv q e)).1 ?_
    refine R_dstore (pc := 892) dL_law_892 (Nat.le_of_ble_eq_true rfl) rfl ?_
    refine R_dload (pc := 894) dL_law_894 rfl ?_
    refine R_dload (pc := 896) dL_law_896 rfl ?_
    refine R_dcmp (pc := 898) dL_law_898 ?_
    refine R_if_eq (pc := 899) (t := 920) dL_law_899 (by decide) (fun _ => ?_) (fun hz9 => absurd (by rw [(f2d_ok (hmv q e)).2]; rfl) hz9)
    refine R_goto (pc := 920) (t := 1005) dL_law_920 (by decide) ?_
    rw [hp]
    exact hX h z A S pm fl l _ _ _ _ hp lx
end CG2
