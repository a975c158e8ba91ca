section CD2
variable {sA : Nat} {h : Nat → Option am_C} {z : Nat × Nat} {Q : Option Value → am_H → Prop}
theorem cnt_congr {sk sk' : Nat → Nat} {d : Nat} : ∀ {n : Nat}, (∀ l, l < n → sk l = sk' l) → cnt sk d n = cnt sk' d n
  | 0, _ => rfl
  | n + 1, h => by
    show cnt sk d n + (if sk n = d then 1 else 0) = cnt sk' d n + (if sk' n = d then 1 else 0)
    rw [cnt_congr (fun l hl => h l (by omega)), h n (by omega)]
/-- how many of the first i lines are lines of cards -/
def cnL (L : Nat → Nat → Int32) (i : Nat) : Nat := cnt (fun l => if L l 0 = 0 then 0 else 1) 0 i
theorem cnL_s (L : Nat → Nat → Int32) (i : Nat) : cnL L (i + 1) = cnL L i + if L i 0 = 0 then 1 else 0 := by
  have e1 : cnL L (i + 1) = cnL L i + if (if L i 0 = 0 then (0 : Nat) else 1) = 0 then 1 else 0 := rfl
  rw [e1]
  by_cases e : L i 0 = 0 <;> simp [e]
theorem cnL_congr {L L' : Nat → Nat → Int32} {i : Nat} (h : ∀ l, l < i → L l 0 = L' l 0) : cnL L i = cnL L' i := cnt_congr (fun l hl => by rw [h l hl])
/-- the report and the printer's totals say what the reference's report and sums say -/
def PtI (lim : Int32) (acc : Nat → Nat → Int32) (k lv : Nat) (v : Nat → Int32) (p : PS) (R : RpX) (T : Nat → Nat → Int32) : Prop := R.1 = p.1 ∧ R.2.2.1 = lim ∧ (∀ i, i < p.1 → ∀ j, j < 9 → R.2.2.2.1 (i * 10 + j) = p.2.1 i j) ∧ (∀ i, i < p.1 → p.2.1 i 0 = 0 → R.2.2.2.1 (i * 10 + 9) = acc (cnL p.2.1 i) 4) ∧ cnL p.2.1 p.1 = k ∧ (∀ q, q < 4 → ∀ c, c < 4 → T q (4 + c) = p.2.2 (4 * q + c)) ∧ ∀ q, lv ≤ q → q < 4 → (∀ f, f < 3 → T q f = v f) ∧ T q 3 = v 4
theorem PtI.put {lim : Int32} {acc : Nat → Nat → Int32} {k lv lv2 k2 : Nat} {v v2 : Nat → Int32} {p : PS} {R : RpX} {T T2 : Nat → Nat → Int32} {L Lr sm : Nat → Int32} (a : PtI lim acc k lv v p R T) (hL : ∀ j, j < 9 → L j = Lr j) (h9 : Lr 0 = 0 → L 9 = acc k 4) (hk : k2 = k + if Lr 0 = 0 then 1 else 0) (hs : ∀ q, q < 4 → ∀ c, c < 4 → T2 q (4 + c) = sm (4 * q + c)) (hT : ∀ q, lv2 ≤ q → q < 4 → (∀ f, f < 3 → T2 q f = v2 f) ∧ T2 q 3 = v2 4) : PtI lim acc k2 lv2 v2 (putL p Lr sm) (prR R L) T2 := by
  obtain ⟨a1, a2, a3, a4, a5, -, -⟩ := a
  have ec : ∀ i, i ≤ p.1 → cnL (putL p Lr sm).2.1 i = cnL p.2.1 i := fun i hi => cnL_congr (fun l hl => if_neg (by omega))
  have en : ∀ j, (putL p Lr sm).2.1 p.1 j = Lr j := fun j => if_pos rfl
  have eo : ∀ i j, i < p.1 → (putL p Lr sm).2.1 i j = p.2.1 i j := fun i j hi => if_neg (by omega)
  have pn : ∀ j, j < 10 → (prR R L).2.2.2.1 (p.1 * 10 + j) = L j := by
    intro j hj
    show prF R.1 L R.2.2.2.1 _ = _
    unfold prF
    rw [a1, if_pos (by omega), Nat.add_sub_cancel_left]
  have po : ∀ i j, i < p.1 → j < 10 → (prR R L).2.2.2.1 (i * 10 + j) = R.2.2.2.1 (i * 10 + j) := by
    intro i j hi hj
    show prF R.1 L R.2.2.2.1 _ = _
    unfold prF
    rw [a1, if_neg (by omega)]
  refine ⟨by show R.1 + 1 = p.1 + 1; rw [a1], a2, fun i hi j hj => ?_, fun i hi h0 => ?_, ?_, hs, hT⟩
  · have hi : i < p.1 + 1 := hi
    by_cases e : i = p.1
    · subst e
      rw [pn j (by omega), en j, hL j hj]
    · rw [po i j (by omega) (by omega), eo i j (by omega)]
      exact a3 i (by omega) j hj
  · have hi : i < p.1 + 1 := hi
    by_cases e : i = p.1
    · subst e
      rw [en] at h0
      rw [pn 9 (by omega), ec p.1 (Nat.le_refl _), a5]
      exact h9 h0
    · rw [eo i 0 (by omega)] at h0
      rw [po i 9 (by omega) (by omega), ec i (by omega)]
      exact a4 i (by omega) h0
  · show cnL (putL p Lr sm).2.1 (p.1 + 1) = k2
    rw [cnL_s, ec p.1 (Nat.le_refl _), a5, en 0, hk]
theorem nI_n0 {kd : Nat} (h : kd < 5) : nI (kd + 1) = 0 ↔ False := ⟨fun e => nI_ne0 (by omega) (by omega) e, False.elim⟩
theorem lnT_brk {lv : Nat} {T v : Nat → Int32} {a b c d e : Int32} (hv : lv < 3 → ∀ f, f < 3 → T f = v f) (hl : lv < 4) (h4 : T 4 = a) (h5 : T 5 = b) (h6 : T 6 = c) (h7 : T 7 = d) (j : Nat) (hj : j < 9) : lnT (lv + 1) T e j = lineV (lv + 1) v a b c d e j := by
  unfold lnT
  rw [if_neg (by omega)]
  subst h4 h5 h6 h7
  unfold lineV
  by_cases j0 : j = 0
  · rw [if_pos j0, if_pos j0]
  · rw [if_neg j0, if_neg j0]
    by_cases j4 : j < 4
    · rw [if_pos j4, if_pos j4]
      unfold colV
      by_cases q : noneK (lv + 1) (j - 1)
      · rw [if_pos q, if_pos q]
      · rw [if_neg q, if_neg q]
        refine hv ?_ (j - 1) (by omega)
        unfold noneK at q
        omega
    · rw [if_neg j4, if_neg j4]
def ovT (x : Int32) (T : Nat → Int32) : Nat → Int32 := upd (upd T 6 (T 6 + x)) 7 (T 7 + x)
theorem ovT_n {x : Int32} {T : Nat → Int32} {f : Nat} (h : f < 6) : ovT x T f = T f := by unfold ovT; rw [upd_n (by omega), upd_n (by omega)]
theorem ovT_6 {x : Int32} {T : Nat → Int32} : ovT x T 6 = T 6 + x := by unfold ovT; rw [upd_n (by omega), upd_s]
theorem ovT_7 {x : Int32} {T : Nat → Int32} : ovT x T 7 = T 7 + x := by unfold ovT; rw [upd_s]
/-- a printer at p -/
def PrX (h : Nat → Option am_C) (p : Nat) (T : Nat → Nat → Int32) : Prop := h p = some (.inr (4, [.ref (p + 1), .ref (p + 2), .ref (p + 3), .ref (p + 4)])) ∧ ∀ q, q < 4 → TtAt h (p + 1 + q) (T q)
theorem PrX.fr {h h' : Nat → Option am_C} {p : Nat} {T : Nat → Nat → Int32} (a : PrX h p T) (e : ∀ x, p ≤ x → x < p + 5 → h' x = h x) : PrX h' p T := ⟨(e _ (by omega) (by omega)).trans a.1, fun q hq => (a.2 q hq).fr (e _ (by omega) (by omega))⟩
theorem PrX.up {h h' : Nat → Option am_C} {p q : Nat} {T : Nat → Nat → Int32} {X : Nat → Int32} (a : PrX h p T) (b : TtAt h' (p + 1 + q) X) (e : ∀ x, ¬ x = p + 1 + q → h' x = h x) : PrX h' p (fun i => if i = q then X else T i) := by
  refine ⟨(e _ (by omega)).trans a.1, fun i hi => ?_⟩
  show TtAt h' (p + 1 + i) (if i = q then X else T i)
  by_cases c : i = q
  · subst c; rw [if_pos rfl]; exact b
  · rw [if_neg c]; exact (a.2 i hi).fr (e _ (by omega))
theorem PrX.to {h : Nat → Option am_C} {p : Nat} {T T2 : Nat → Nat → Int32} (a : PrX h p T) (e : ∀ q, q < 4 → T2 q = T q) : PrX h p T2 := ⟨a.1, fun q hq => by rw [e q hq]; exact a.2 q hq⟩
theorem PtI.brk0 {lim : Int32} {acc : Nat → Nat → Int32} {k : Nat} {v : Nat → Int32} {p : PS} {R : RpX} {T : Nat → Nat → Int32} (a : PtI lim acc k 0 v p R T) : PtI lim acc k 1 v (brk lim 0 v p) (prR R (lnT 1 (ovT (ovr (T 0 5) R.2.2.1 (T 0 3)) (T 0)) (-1000009))) (fun q => if q = 0 then (fun _ => nI 0) else ovT (ovr (T 0 5) R.2.2.1 (T 0 3)) (T q)) := by
  have a9 := a
  obtain ⟨a1, a2, a3, a4, a5, a6, a7⟩ := a9
  have ex : ovr (T 0 5) R.2.2.1 (T 0 3) = ovr (p.2.2 1) lim (v 4) := by rw [a6 0 (by omega) 1 (by omega), a2, (a7 0 (by omega) (by omega)).2]
  rw [ex]
  have e4 : ∀ q, q < 4 → ovT (ovr (p.2.2 1) lim (v 4)) (T q) 4 = brkA lim 0 v p.2.2 (4 * q) := fun q hq => by
    rw [ovT_n (by omega), a6 q hq 0 (by omega)]; unfold brkA; rw [if_pos rfl, if_neg (by omega)]; rfl
  have e5 : ∀ q, q < 4 → ovT (ovr (p.2.2 1) lim (v 4)) (T q) 5 = brkA lim 0 v p.2.2 (4 * q + 1) := fun q hq => by
    rw [ovT_n (by omega), a6 q hq 1 (by omega)]; unfold brkA; rw [if_pos rfl, if_neg (by omega)]
  have e6 : ∀ q, q < 4 → ovT (ovr (p.2.2 1) lim (v 4)) (T q) 6 = brkA lim 0 v p.2.2 (4 * q + 2) := fun q hq => by
    rw [ovT_6, a6 q hq 2 (by omega)]; unfold brkA; rw [if_pos rfl, if_pos (by omega)]
  have e7 : ∀ q, q < 4 → ovT (ovr (p.2.2 1) lim (v 4)) (T q) 7 = brkA lim 0 v p.2.2 (4 * q + 3) := fun q hq => by
    rw [ovT_7, a6 q hq 3 (by omega)]; unfold brkA; rw [if_pos rfl, if_pos (by omega)]
  refine a.put (fun j hj => lnT_brk (fun _ f hf => by rw [ovT_n (by omega)]; exact (a7 0 (by omega) (by omega)).1 f hf) (by omega) (e4 0 (by omega)) (e5 0 (by omega)) (e6 0 (by omega)) (e7 0 (by omega)) j hj) (fun q => absurd q (by show ¬ nI 1 = 0; decide)) (by show k = k + if nI 1 = 0 then 1 else 0; rw [if_neg (by decide), Nat.add_zero]) (fun q hq c hc => ?_) (fun q hq1 hq2 => ?_)
  · by_cases e : q = 0
    · subst e
      rw [if_pos rfl, if_pos (by omega)]
    · rw [if_neg e, if_neg (by omega)]
      have cc : ∀ y : Nat, y < 4 → y = 0 ∨ y = 1 ∨ y = 2 ∨ y = 3 := by omega
      rcases cc c hc with rfl | rfl | rfl | rfl
      · exact e4 q hq
      · exact e5 q hq
      · exact e6 q hq
      · exact e7 q hq
  · rw [if_neg (by omega)]
    refine ⟨fun f hf => by rw [ovT_n (by omega)]; exact (a7 q (by omega) hq2).1 f hf, by rw [ovT_n (by omega)]; exact (a7 q (by omega) hq2).2⟩
theorem PtI.brkS {lim : Int32} {acc : Nat → Nat → Int32} {k lv lv2 : Nat} {v u : Nat → Int32} {p : PS} {R : RpX} {T : Nat → Nat → Int32} (a : PtI lim acc k lv2 v p R T) (h0 : 0 < lv) (h4 : lv < 4) (h3 : lv < 3 → lv2 = lv ∧ u = v) : PtI lim acc k (lv + 1) v (brk lim lv u p) (prR R (lnT (lv + 1) (T lv) (-1000009))) (fun q => if q = lv then (fun _ => nI 0) else T q) := by
  have a9 := a
  obtain ⟨a1, a2, a3, a4, a5, a6, a7⟩ := a9
  have eb : brkA lim lv u p.2.2 = p.2.2 := if_neg (by omega)
  have zz : ¬ nI (lv + 1) = 0 := nI_ne0 (by omega) (by omega)
  unfold brk
  rw [eb]
  refine a.put (fun j hj => lnT_brk (fun q f hf => ?_) (by omega) (a6 lv h4 0 (by omega)) (a6 lv h4 1 (by omega)) (a6 lv h4 2 (by omega)) (a6 lv h4 3 (by omega)) j hj) (fun q => absurd q zz) (by show k = k + if nI (lv + 1) = 0 then 1 else 0; rw [if_neg zz, Nat.add_zero]) (fun q hq c hc => ?_) (fun q hq1 hq2 => ?_)
  · obtain ⟨q1, q2⟩ := h3 q
    rw [q2]
    exact (a7 lv (by omega) h4).1 f hf
  · by_cases e : q = lv
    · rw [if_pos e, if_pos (by omega)]
    · rw [if_neg e, if_neg (by omega)]
      exact a6 q hq c hc
  · rw [if_neg (by omega)]
    by_cases h33 : lv < 3
    · exact a7 q (by have := h3 h33; omega) hq2
    · omega
theorem c4_breakWorker {p r : Nat} {T : Nat → Nat → Int32} {R : RpX} (hp : PrX h p T) (hr : RpAt h r R) (hpr : p + 5 ≤ r ∨ r + 3 ≤ p) (hn : R.1 < 161) (hQ : ∀ h2 : Nat → Option am_C, PrX h2 p (fun q => if q = 0 then (fun _ => nI 0) else ovT (ovr (T 0 5) R.2.2.1 (T 0 3)) (T q)) → RpAt h2 r (prR R (lnT 1 (ovT (ovr (T 0 5) R.2.2.1 (T 0 3)) (T 0)) (-1000009))) → (∀ a, (a < p ∨ p + 5 ≤ a) → (a < r ∨ r + 3 ≤ a) → h2 a = h a) → Q none (h2, z)) : Rn sA mX4_breakWorker 0 [some (.ref p), some (.ref r), none] [] (h, z) Q := by
  have ho := hp.1
  have hr1_ := hr.1
  refine R_aload_n (pc := 0) dX4_breakWorker_0 rfl ?_
  refine R_getf (pc := 1) dX4_breakWorker_1 rfl (by repeat (first | assumption | exact up_s | refine up_n (by omega) ?_)) rfl ?_
  refine R_aload_n (pc := 4) dX4_breakWorker_4 rfl ?_
  refine R_getf (pc := 5) dX4_breakWorker_5 rfl (by repeat (first | assumption | exact up_s | refine up_n (by omega) ?_)) rfl ?_
  refine R_callV (pc := 8) dX4_breakWorker_8 rfl (hp.2 0 (by omega)) rfl rfl ?_
  refine c10_overtime (hp.2 0 (by omega)) ?_
  generalize hex : ovr (T 0 5) R.2.2.1 (T 0 3) = ex
  refine R_istore_n (pc := 11) dX4_breakWorker_11 (Nat.le_of_ble_eq_true rfl) rfl ?_
  refine R_aload_n (pc := 12) dX4_breakWorker_12 rfl ?_
  refine R_getf (pc := 13) dX4_breakWorker_13 rfl (by repeat (first | assumption | exact up_s | refine up_n (by omega) ?_)) rfl ?_
  refine R_iload_n (pc := 16) dX4_breakWorker_16 rfl ?_
  refine R_callV (pc := 17) dX4_breakWorker_17 rfl (hp.2 0 (by omega)) rfl rfl ?_
  refine c10_addOvertime (T := T 0) (hp.2 0 (by omega)) (fun h1 a1 b1 => ?_)
  have hp1 := hp.up (q := 0) a1 b1
  have ho1 := hp1.1
  have hr1 : RpAt h1 r R := hr.fr (fun x x1 x2 => b1 x (by omega))
  refine R_aload_n (pc := 20) dX4_breakWorker_20 rfl ?_
  refine R_getf (pc := 21) dX4_breakWorker_21 rfl (by repeat (first | assumption | exact up_s | refine up_n (by omega) ?_)) rfl ?_
  refine R_iload_n (pc := 24) dX4_breakWorker_24 rfl ?_
  refine R_callV (pc := 25) dX4_breakWorker_25 rfl (hp1.2 1 (by omega)) rfl rfl ?_
  refine c10_addOvertime (T := T 1) (hp1.2 1 (by omega)) (fun h2 a2 b2 => ?_)
  have hp2 := hp1.up (q := 1) a2 b2
  have ho2 := hp2.1
  have hr2 : RpAt h2 r R := hr1.fr (fun x x1 x2 => b2 x (by omega))
  refine R_aload_n (pc := 28) dX4_breakWorker_28 rfl ?_
  refine R_getf (pc := 29) dX4_breakWorker_29 rfl (by repeat (first | assumption | exact up_s | refine up_n (by omega) ?_)) rfl ?_
  refine R_iload_n (pc := 32) dX4_breakWorker_32 rfl ?_
  refine R_callV (pc := 33) dX4_breakWorker_33 rfl (hp2.2 2 (by omega)) rfl rfl ?_
  refine c10_addOvertime (T := T 2) (hp2.2 2 (by omega)) (fun h3 a3 b3 => ?_)
  have hp3 := hp2.up (q := 2) a3 b3
  have ho3 := hp3.1
  have hr3 : RpAt h3 r R := hr2.fr (fun x x1 x2 => b3 x (by omega))
  refine R_aload_n (pc := 36) dX4_breakWorker_36 rfl ?_
  refine R_getf (pc := 37) dX4_breakWorker_37 rfl (by repeat (first | assumption | exact up_s | refine up_n (by omega) ?_)) rfl ?_
  refine R_iload_n (pc := 40) dX4_breakWorker_40 rfl ?_
  refine R_callV (pc := 41) dX4_breakWorker_41 rfl (hp3.2 3 (by omega)) rfl rfl ?_
  refine c10_addOvertime (T := T 3) (hp3.2 3 (by omega)) (fun h4 a4 b4 => ?_)
  have hp4 := hp3.up (q := 3) a4 b4
  have ho4 := hp4.1
  have hr4 : RpAt h4 r R := hr3.fr (fun x x1 x2 => b4 x (by omega))
  refine R_aload_n (pc := 44) dX4_breakWorker_44 rfl ?_
  refine R_iconst (pc := 45) (x := nI 1) dX4_breakWorker_45 rfl ?_
  refine R_aload_n (pc := 46) dX4_breakWorker_46 rfl ?_
  refine R_getf (pc := 47) dX4_breakWorker_47 rfl (by repeat (first | assumption | exact up_s | refine up_n (by omega) ?_)) rfl ?_
  refine R_ldc (pc := 50) (x := (-1000009)) dX4_breakWorker_50 rfl ?_
  refine R_callV (pc := 52) dX4_breakWorker_52 rfl hr4.1 rfl rfl ?_
  refine c5_print hr4 (t := p + 1) (T := ovT ex (T 0)) (kd := 1) (hp4.2 0 (by omega)) (by omega) hn (by omega) (fun h5 a5 b5 => ?_)
  have hp5 : PrX h5 p _ := hp4.fr (fun x x1 x2 => b5 x (by omega))
  have ho5 := hp5.1
  refine R_aload_n (pc := 55) dX4_breakWorker_55 rfl ?_
  refine R_getf (pc := 56) dX4_breakWorker_56 rfl (by repeat (first | assumption | exact up_s | refine up_n (by omega) ?_)) rfl ?_
  refine R_callV (pc := 59) dX4_breakWorker_59 rfl (hp5.2 0 (by omega)) rfl rfl ?_
  refine c10_clear (t := p + 1) (hp5.2 0 (by omega)) (fun h6 a6 b6 => ?_)
  refine R_vret (pc := 62) dX4_breakWorker_62 rfl ?_
  refine hQ h6 ((hp5.up (q := 0) a6 b6).to (fun q hq => ?_)) ?_ (fun a a1 a2 => ?_)
  · subst hex
    have cc : ∀ y : Nat, y < 4 → y = 0 ∨ y = 1 ∨ y = 2 ∨ y = 3 := by omega
    rcases cc q hq with rfl | rfl | rfl | rfl <;> rfl
  · subst hex
    exact a5.fr (fun x x1 x2 => b6 x (by omega))
  · rw [b6 a (by omega), b5 a a2, b4 a (by omega), b3 a (by omega), b2 a (by omega), b1 a (by omega)]
theorem c4_breakGroup {p r : Nat} {T : Nat → Nat → Int32} {R : RpX} (hp : PrX h p T) (hr : RpAt h r R) (hpr : p + 5 ≤ r ∨ r + 3 ≤ p) (hn : R.1 < 161) (hQ : ∀ h2 : Nat → Option am_C, PrX h2 p (fun q => if q = 1 then (fun _ => nI 0) else T q) → RpAt h2 r (prR R (lnT 2 (T 1) (-1000009))) → (∀ a, (a < p ∨ p + 5 ≤ a) → (a < r ∨ r + 3 ≤ a) → h2 a = h a) → Q none (h2, z)) : Rn sA mX4_breakGroup 0 [some (.ref p), some (.ref r)] [] (h, z) Q := by
  have ho := hp.1
  have hr1_ := hr.1
  refine R_aload_n (pc := 0) dX4_breakGroup_0 rfl ?_
  refine R_iconst (pc := 1) (x := nI 2) dX4_breakGroup_1 rfl ?_
  refine R_aload_n (pc := 2) dX4_breakGroup_2 rfl ?_
  refine R_getf (pc := 3) dX4_breakGroup_3 rfl (by repeat (first | assumption | exact up_s | refine up_n (by omega) ?_)) rfl ?_
  refine R_ldc (pc := 6) (x := (-1000009)) dX4_breakGroup_6 rfl ?_
  refine R_callV (pc := 8) dX4_breakGroup_8 rfl hr.1 rfl rfl ?_
  refine c5_print hr (t := p + 2) (T := T 1) (kd := 2) (hp.2 1 (by omega)) (by omega) hn (by omega) (fun h5 a5 b5 => ?_)
  have hp5 : PrX h5 p _ := hp.fr (fun x x1 x2 => b5 x (by omega))
  have ho5 := hp5.1
  refine R_aload_n (pc := 11) dX4_breakGroup_11 rfl ?_
  refine R_getf (pc := 12) dX4_breakGroup_12 rfl (by repeat (first | assumption | exact up_s | refine up_n (by omega) ?_)) rfl ?_
  refine R_callV (pc := 15) dX4_breakGroup_15 rfl (hp5.2 1 (by omega)) rfl rfl ?_
  refine c10_clear (t := p + 2) (hp5.2 1 (by omega)) (fun h6 a6 b6 => ?_)
  refine R_vret (pc := 18) dX4_breakGroup_18 rfl ?_
  refine hQ h6 (hp5.up (q := 1) a6 b6) (a5.fr (fun x x1 x2 => b6 x (by omega))) (fun a a1 a2 => ?_)
  rw [b6 a (by omega), b5 a a2]
theorem c4_breakDepartment {p r : Nat} {T : Nat → Nat → Int32} {R : RpX} (hp : PrX h p T) (hr : RpAt h r R) (hpr : p + 5 ≤ r ∨ r + 3 ≤ p) (hn : R.1 < 161) (hQ : ∀ h2 : Nat → Option am_C, PrX h2 p (fun q => if q = 2 then (fun _ => nI 0) else T q) → RpAt h2 r (prR R (lnT 3 (T 2) (-1000009))) → (∀ a, (a < p ∨ p + 5 ≤ a) → (a < r ∨ r + 3 ≤ a) → h2 a = h a) → Q none (h2, z)) : Rn sA mX4_breakDepartment 0 [some (.ref p), some (.ref r)] [] (h, z) Q := by
  have ho := hp.1
  have hr1_ := hr.1
  refine R_aload_n (pc := 0) dX4_breakDepartment_0 rfl ?_
  refine R_iconst (pc := 1) (x := nI 3) dX4_breakDepartment_1 rfl ?_
  refine R_aload_n (pc := 2) dX4_breakDepartment_2 rfl ?_
  refine R_getf (pc := 3) dX4_breakDepartment_3 rfl (by repeat (first | assumption | exact up_s | refine up_n (by omega) ?_)) rfl ?_
  refine R_ldc (pc := 6) (x := (-1000009)) dX4_breakDepartment_6 rfl ?_
  refine R_callV (pc := 8) dX4_breakDepartment_8 rfl hr.1 rfl rfl ?_
  refine c5_print hr (t := p + 3) (T := T 2) (kd := 3) (hp.2 2 (by omega)) (by omega) hn (by omega) (fun h5 a5 b5 => ?_)
  have hp5 : PrX h5 p _ := hp.fr (fun x x1 x2 => b5 x (by omega))
  have ho5 := hp5.1
  refine R_aload_n (pc := 11) dX4_breakDepartment_11 rfl ?_
  refine R_getf (pc := 12) dX4_breakDepartment_12 rfl (by repeat (first | assumption | exact up_s | refine up_n (by omega) ?_)) rfl ?_
  refine R_callV (pc := 15) dX4_breakDepartment_15 rfl (hp5.2 2 (by omega)) rfl rfl ?_
  refine c10_clear (t := p + 3) (hp5.2 2 (by omega)) (fun h6 a6 b6 => ?_)
  refine R_vret (pc := 18) dX4_breakDepartment_18 rfl ?_
  refine hQ h6 (hp5.up (q := 2) a6 b6) (a5.fr (fun x x1 x2 => b6 x (by omega))) (fun a a1 a2 => ?_)
  rw [b6 a (by omega), b5 a a2]
theorem c4_begin {p : Nat} {T : Nat → Nat → Int32} (hp : PrX h p T) (hQ : ∀ h2 : Nat → Option am_C, PrX h2 p (fun _ _ => nI 0) → (∀ a, (a < p ∨ p + 5 ≤ a) → h2 a = h a) → Q none (h2, z)) : Rn sA mX4_begin 0 [some (.ref p)] [] (h, z) Q := by
  have ho := hp.1
  refine R_aload_n (pc := 0) dX4_begin_0 rfl ?_
  refine R_getf (pc := 1) dX4_begin_1 rfl (by repeat (first | assumption | exact up_s | refine up_n (by omega) ?_)) rfl ?_
  refine R_callV (pc := 4) dX4_begin_4 rfl (hp.2 0 (by omega)) rfl rfl ?_
  refine c10_clear (t := p + 1) (hp.2 0 (by omega)) (fun h1 a1 b1 => ?_)
  have hp1 := hp.up (q := 0) a1 b1
  have ho1 := hp1.1
  refine R_aload_n (pc := 7) dX4_begin_7 rfl ?_
  refine R_getf (pc := 8) dX4_begin_8 rfl (by repeat (first | assumption | exact up_s | refine up_n (by omega) ?_)) rfl ?_
  refine R_callV (pc := 11) dX4_begin_11 rfl (hp1.2 1 (by omega)) rfl rfl ?_
  refine c10_clear (t := p + 2) (hp1.2 1 (by omega)) (fun h2 a2 b2 => ?_)
  have hp2 := hp1.up (q := 1) a2 b2
  have ho2 := hp2.1
  refine R_aload_n (pc := 14) dX4_begin_14 rfl ?_
  refine R_getf (pc := 15) dX4_begin_15 rfl (by repeat (first | assumption | exact up_s | refine up_n (by omega) ?_)) rfl ?_
  refine R_callV (pc := 18) dX4_begin_18 rfl (hp2.2 2 (by omega)) rfl rfl ?_
  refine c10_clear (t := p + 3) (hp2.2 2 (by omega)) (fun h3 a3 b3 => ?_)
  have hp3 := hp2.up (q := 2) a3 b3
  have ho3 := hp3.1
  refine R_aload_n (pc := 21) dX4_begin_21 rfl ?_
  refine R_getf (pc := 22) dX4_begin_22 rfl (by repeat (first | assumption | exact up_s | refine up_n (by omega) ?_)) rfl ?_
  refine R_callV (pc := 25) dX4_begin_25 rfl (hp3.2 3 (by omega)) rfl rfl ?_
  refine c10_clear (t := p + 4) (hp3.2 3 (by omega)) (fun h4 a4 b4 => ?_)
  have hp4 := hp3.up (q := 3) a4 b4
  have ho4 := hp4.1
  refine R_vret (pc := 28) dX4_begin_28 rfl ?_
  refine hQ h4 (hp4.to (fun q hq => ?_)) (fun a ha => ?_)
  · have cc : ∀ y : Nat, y < 4 → y = 0 ∨ y = 1 ∨ y = 2 ∨ y = 3 := by omega
    rcases cc q hq with rfl | rfl | rfl | rfl <;> rfl
  · rw [b4 a (by omega), b3 a (by omega), b2 a (by omega), b1 a (by omega)]
end CD2
