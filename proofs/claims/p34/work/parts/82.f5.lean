def OKD (U : Nat → Int32) (n : Nat) : Prop := U 19 = nI n ∧ n ≤ 40 ∧ DigW U n ∧ ∀ c, c < n → ∃ t, t < 24 ∧ U (20 + 26 * c + 25) = nI t
def WOK (U : Nat → Int32) : Prop := (∃ n, OKD U n) ∧ ∃ m, RepOK U m
theorem RepOK.cg {U V : Nat → Int32} {m : Nat} (a : RepOK U m) (e : ∀ j, 1060 ≤ j → j < 2754 → V j = U j) : RepOK V m := by
  obtain ⟨a1, a2, a3, a4⟩ := a
  have el : ∀ i, i ≤ 161 → lnN V i = lnN U i := fun i hi => cnt_congr (fun l hl => by rw [e _ (by omega) (by omega)])
  refine ⟨(e _ (by omega) (by omega)).trans a1, a2, fun k hk f hf => by rw [e _ (by omega) (by omega)]; exact a3 k hk f hf, ?_⟩
  rcases a4 with ⟨c1, c2, c3⟩ | ⟨c0, q, q1, q2, q3, q4, q5, q6⟩
  · exact Or.inl ⟨(e _ (by omega) (by omega)).trans c1, (e _ (by omega) (by omega)).trans c2, c3⟩
  · refine Or.inr ⟨by rw [e _ (by omega) (by omega)]; exact c0, q, q1, (e _ (by omega) (by omega)).trans q2, (el _ (by omega)).trans q3, fun i hi h0 => ?_, (e _ (by omega) (by omega)).trans q5, ?_⟩
    · rw [e _ (by omega) (by omega)] at h0
      obtain ⟨l1, l2, l3, l4, l5⟩ := q4 i hi h0
      have hl := lnN_le (U := U) i
      rw [el i (by omega)]
      refine ⟨fun f hf => by rw [e _ (by omega) (by omega), e _ (by omega) (by omega)]; exact l1 f hf, (e _ (by omega) (by omega)).trans l2, by rw [e _ (by omega) (by omega), e _ (by omega) (by omega)]; exact l3, ?_, (e _ (by omega) (by omega)).trans l5⟩
      rw [e _ (by omega) (by omega), l4]
      unfold wag
      show _ = V (1104 + 5 * lnN U i + 3) * V (1104 + 5 * lnN U i + 4) / nI 10
      rw [e _ (by omega) (by omega), e _ (by omega) (by omega)]
    · rw [e _ (by omega) (by omega), q6]
      exact sT_congr (fun k hk => (e _ (by omega) (by omega)).symm)
theorem OKD.cg {U V : Nat → Int32} {n : Nat} (a : OKD U n) (e : ∀ j, 19 ≤ j → j < 1060 → V j = U j) : OKD V n := by
  obtain ⟨a1, a2, a3, a4⟩ := a
  exact ⟨(e _ (by omega) (by omega)).trans a1, a2, fun i hi c hc => by rw [e _ (by omega) (by omega)]; exact a3 i hi c hc, fun c hc => by rw [e _ (by omega) (by omega)]; exact a4 c hc⟩
theorem WOK.cg {U V : Nat → Int32} (a : WOK U) (e : ∀ j, 19 ≤ j → j < 2754 → V j = U j) : WOK V := by
  obtain ⟨⟨n, a1⟩, m, a2⟩ := a
  exact ⟨⟨n, a1.cg (fun j j1 j2 => e j j1 (by omega))⟩, m, a2.cg (fun j j1 j2 => e j (by omega) j2)⟩
theorem WOK.dk {U V : Nat → Int32} {n : Nat} (a : WOK U) (e : ∀ j, 1060 ≤ j → j < 2754 → V j = U j) (b : OKD V n) : WOK V := by
  obtain ⟨-, m, a2⟩ := a
  exact ⟨⟨n, b⟩, m, a2.cg e⟩
theorem WOK.ze {U : Nat → Int32} (h : ∀ j, 19 ≤ j → U j = 0) : WOK U := ⟨⟨0, h 19 (by omega), by omega, fun i hi => absurd hi (Nat.not_lt_zero _), fun c hc => absurd hc (Nat.not_lt_zero _)⟩, 0, h _ (by omega), by omega, fun k hk => absurd hk (Nat.not_lt_zero _), Or.inl ⟨h _ (by omega), h _ (by omega), rfl⟩⟩
theorem OKD.ord {U V : Nat → Int32} {n m : Nat} {o : Nat → Nat} (a : OKD U n) (hm : V 19 = nI m) (hm2 : m ≤ 40) (ho : ∀ i, i < m → o i < n) (hV : ∀ i, i < m → ∀ j, j < 26 → V (20 + 26 * i + j) = U (20 + 26 * o i + j)) : OKD V m := by
  obtain ⟨a1, a2, a3, a4⟩ := a
  exact ⟨hm, hm2, fun i hi c hc => by rw [hV i hi c (by omega)]; exact a3 (o i) (ho i hi) c hc, fun c hc => by rw [hV c hc 25 (by omega)]; exact a4 (o c) (ho c hc)⟩
theorem WOK.ord {U V : Nat → Int32} {n : Nat} {o : Nat → Nat} (a : WOK U) (hw : U 19 = nI n) (hn : n ≤ 40) (ho : ∀ i, i < n → o i < n) (v : DkO U n o V) : WOK V := by
  obtain ⟨⟨n0, a1⟩, a2⟩ := a
  obtain rfl : n = n0 := (nI_eq (by omega) (by have := a1.2.1; omega)).mp (hw.symm.trans a1.1)
  exact WOK.dk ⟨⟨n, a1⟩, a2⟩ (fun j j1 j2 => v.2 j (by omega)) (a1.ord ((v.2 19 (by omega)).trans hw) hn ho v.1)
theorem nxtO_lt {U : Nat → Int32} {n c : Nat} {o : Nat → Nat} (hD : DigW U n) (hc : c < 24) (ho : ∀ i, i < n → o i < n) : ∀ i, i < n → nxtO U n c o i < n := by
  intro i hi
  obtain ⟨k, k1, k2, k3⟩ := nxtO_at (fun i hi => (skF_sp hD (ho i hi) hc).1) i hi
  rw [k3]
  exact ho k k1
theorem srtO_lt {U : Nat → Int32} {n f : Nat} (hD : DigW U n) : ∀ (q : Nat) (o : Nat → Nat), f + q ≤ 24 → (∀ i, i < n → o i < n) → ∀ i, i < n → srtO U n f q o i < n
  | 0, _, _, ho => ho
  | q + 1, o, h, ho => srtO_lt hD q _ (by omega) (nxtO_lt hD (by omega) ho)
theorem WOK.take {U V0 V : Nat → Int32} {n c : Nat} (a : WOK U) (hw : U 19 = nI n) (hn : n ≤ 40) (hc : c < n) (v : DkO U n (tkO c (n - 1)) V0) (e : V = upd V0 19 (nI (n - 1))) : WOK V := by
  obtain ⟨⟨n0, a1⟩, a2⟩ := a
  obtain rfl : n = n0 := (nI_eq (by omega) (by have := a1.2.1; omega)).mp (hw.symm.trans a1.1)
  refine WOK.dk ⟨⟨n, a1⟩, a2⟩ (fun j j1 j2 => by rw [e, upd_n (by omega)]; exact v.2 j (by omega)) (a1.ord (m := n - 1) (o := tkO c (n - 1)) (by rw [e, upd_s]) (by omega) (fun i hi => by unfold tkO; split <;> omega) (fun i hi j hj => by rw [e, upd_n (by omega)]; exact v.1 i (by omega) j hj))
theorem WOK.col {U : Nat → Int32} {n c k d : Nat} {x : Int32} (a : WOK U) (hw : U 19 = nI n) (hn : n ≤ 40) (hc : c < n) (hk : k < 24) (hd : d < 11) (hx : x = dgt d) : WOK (upd U (20 + 26 * c + k) x) := by
  obtain ⟨⟨n0, a1⟩, a2⟩ := a
  obtain rfl : n = n0 := (nI_eq (by omega) (by have := a1.2.1; omega)).mp (hw.symm.trans a1.1)
  obtain ⟨b1, b2, b3, b4⟩ := id a1
  refine WOK.dk ⟨⟨n, a1⟩, a2⟩ (fun j j1 j2 => upd_n (by omega)) ⟨(upd_n (by omega)).trans b1, b2, fun i hi y hy => ?_, fun i hi => by rw [upd_n (by omega)]; exact b4 i hi⟩
  by_cases q : 20 + 26 * i + y = 20 + 26 * c + k
  · rw [q, upd_s]; exact ⟨d, hd, hx⟩
  · rw [upd_n q]; exact b3 i hi y hy
theorem WOK.mark {U : Nat → Int32} {n c t : Nat} {b x : Int32} (a : WOK U) (hw : U 19 = nI n) (hn : n ≤ 40) (hc : c < n) (ht : t < 24) (hx : x = nI t) : WOK (upd (upd U (20 + 26 * c + 24) b) (20 + 26 * c + 25) x) := by
  obtain ⟨⟨n0, a1⟩, a2⟩ := a
  obtain rfl : n = n0 := (nI_eq (by omega) (by have := a1.2.1; omega)).mp (hw.symm.trans a1.1)
  obtain ⟨b1, b2, b3, b4⟩ := id a1
  refine WOK.dk ⟨⟨n, a1⟩, a2⟩ (fun j j1 j2 => by rw [upd_n (by omega), upd_n (by omega)]) ⟨by rw [upd_n (by omega), upd_n (by omega)]; exact b1, b2, fun i hi y hy => by rw [upd_n (by omega), upd_n (by omega)]; exact b3 i hi y hy, fun i hi => ?_⟩
  by_cases q : i = c
  · subst q; rw [upd_s]; exact ⟨t, ht, hx⟩
  · rw [upd_n (by omega), upd_n (by omega)]; exact b4 i hi
theorem digR_rng {g : Nat → Int32} {p k : Nat} (hg : ∃ d, d < 11 ∧ g (p + k) = dgt d) : ∃ s, s ≤ 27 ∧ digR g p k = nI s := by
  obtain ⟨d, h1, h2⟩ := hg
  unfold digR
  by_cases e : d = 0
  · subst e
    rw [if_pos (h2.trans dgt_0)]
    exact ⟨0, by omega, rfl⟩
  · obtain ⟨y, rfl⟩ : ∃ y, d = y + 1 := ⟨d - 1, by omega⟩
    rw [dgt_s] at h2
    rw [if_neg (by rw [h2]; exact nI_noN (by omega)), h2]
    split
    · rw [pk_mul]; exact ⟨3 * y, by omega, rfl⟩
    · exact ⟨y, by omega, rfl⟩
theorem dueF_rng {g : Nat → Int32} {p : Nat} (hg : ∀ j, j < 24 → ∃ d, d < 11 ∧ g j = dgt d) : ∀ (n k s : Nat), p + k + n ≤ 24 → ∃ s2, s2 ≤ s + 27 * n ∧ dueF g p n k (nI s) = nI s2
  | 0, k, s, _ => ⟨s, by omega, rfl⟩
  | n + 1, k, s, h => by
    unfold dueF
    obtain ⟨t, t1, t2⟩ := digR_rng (hg (p + k) (by omega))
    rw [t2, nI_add]
    obtain ⟨s2, q1, q2⟩ := dueF_rng (p := p) hg n (k + 1) (s + t) (by omega)
    exact ⟨s2, by omega, q2⟩
theorem dueO_rng {P Wd : Nat → Nat} {g : Nat → Int32} (hPW : ∀ f, f < 6 → P f + Wd f ≤ 24) (hg : ∀ j, j < 24 → ∃ d, d < 11 ∧ g j = dgt d) : ∀ (n f s : Nat), f + n ≤ 6 → ∃ s2, s2 ≤ s + 648 * n ∧ dueO P Wd g n f (nI s) = nI s2
  | 0, f, s, _ => ⟨s, by omega, rfl⟩
  | n + 1, f, s, h => by
    unfold dueO
    have := hPW f (by omega)
    obtain ⟨t, t1, t2⟩ := dueF_rng (p := P f) hg (Wd f) 0 s (by omega)
    rw [t2]
    obtain ⟨s2, q1, q2⟩ := dueO_rng hPW hg n (f + 1) t (by omega)
    exact ⟨s2, by omega, q2⟩
theorem dueR_rng {P Wd : Nat → Nat} {g : Nat → Int32} (hPW : ∀ f, f < 6 → P f + Wd f ≤ 24) (hg : ∀ j, j < 24 → ∃ d, d < 11 ∧ g j = dgt d) : ∃ d, d < 11 ∧ dueR P Wd g = dgt d := by
  obtain ⟨s, s1, s2⟩ := dueO_rng hPW hg 5 0 0 (by omega)
  unfold dueR rem10
  rw [s2, pk_rem (by omega) (by omega) (by omega)]
  exact ⟨s % 10 + 1, by omega, (dgt_s _).symm⟩
theorem psO_rng {P Wd dg vl : Nat → Nat} : ∀ (n f : Nat) (g : Nat → Int32), (∀ j, j < 24 → ∃ d, d < 11 ∧ g j = dgt d) → ∀ j, j < 24 → ∃ d, d < 11 ∧ psO P Wd dg vl n f g j = dgt d
  | 0, _, _, h => h
  | n + 1, f, g, h => by
    unfold psO
    refine psO_rng n (f + 1) _ (fun j hj => ?_)
    split
    · exact h j hj
    · unfold psK
      split
      · exact ⟨dgA Wd vl f (j - P f) + 1, by unfold dgA; omega, (dgt_s _).symm⟩
      · exact h j hj
theorem psA_rng {P Wd : Nat → Nat} {s : TS} (hPW : ∀ f, f < 6 → P f + Wd f ≤ 24) : ∀ j, j < 24 → ∃ d, d < 11 ∧ psA P Wd s j = dgt d := by
  have h := psO_rng (P := P) (Wd := Wd) (dg := s.2.1) (vl := s.2.2.1) 5 0 psN (fun j _ => ⟨0, by omega, rfl⟩)
  intro j hj
  unfold psA
  by_cases e : j = P 5
  · subst e; rw [upd_s]; exact dueR_rng hPW h
  · rw [upd_n e]; exact h j hj
theorem WOK.punch {U V : Nat → Int32} {n c : Nat} {P Wd : Nat → Nat} {s : TS} (a : WOK U) (hPW : ∀ f, f < 6 → P f + Wd f ≤ 24) (hw : U 19 = nI n) (hn : n < 40) (hc : c ≤ n) (v : PnW U n c (psA P Wd s) V) : WOK V := by
  obtain ⟨⟨n0, a1⟩, a2⟩ := a
  obtain rfl : n = n0 := (nI_eq (by omega) (by have := a1.2.1; omega)).mp (hw.symm.trans a1.1)
  obtain ⟨b1, b2, b3, b4⟩ := id a1
  obtain ⟨v1, v2, v3, v4, v5, v6⟩ := v
  refine WOK.dk ⟨⟨n, a1⟩, a2⟩ (fun j j1 j2 => v6 j (by omega)) ⟨v5, by omega, fun i hi y hy => ?_, fun i hi => ?_⟩
  · by_cases q : i = c
    · subst q; rw [v2 y hy]; exact psA_rng hPW y hy
    · rw [v1 i (by omega) q y (by omega)]
      exact b3 (shO c i) (by unfold shO; split <;> omega) y hy
  · by_cases q : i = c
    · subst q; exact ⟨0, by omega, v4⟩
    · rw [v1 i (by omega) q 25 (by omega)]
      exact b4 (shO c i) (by unfold shO; split <;> omega)
/-- the lines of cards, and the sums of all, of a report in the making -/
def PtG (acc : Nat → Nat → Int32) (k : Nat) (p : PS) : Prop := cnL p.2.1 p.1 = k ∧ ∀ i, i < p.1 → p.2.1 i 0 = 0 → (∀ f, f < 3 → p.2.1 i (1 + f) = acc (cnL p.2.1 i) f) ∧ p.2.1 i 4 = nI 1 ∧ p.2.1 i 5 = acc (cnL p.2.1 i) 3 ∧ p.2.1 i 6 = wag (acc (cnL p.2.1 i)) ∧ p.2.1 i 7 = nI 0
def PtF (acc : Nat → Nat → Int32) (k : Nat) (p : PS) : Prop := PtG acc k p ∧ p.2.2 12 = nI k ∧ p.2.2 13 = sT (fun j => acc j 3) k
theorem PtG.put {acc : Nat → Nat → Int32} {k k2 : Nat} {p : PS} {L sm : Nat → Int32} (a : PtG acc k p) (hk : k2 = k + if L 0 = 0 then 1 else 0) (hL : L 0 = 0 → (∀ f, f < 3 → L (1 + f) = acc k f) ∧ L 4 = nI 1 ∧ L 5 = acc k 3 ∧ L 6 = wag (acc k) ∧ L 7 = nI 0) : PtG acc k2 (putL p L sm) := by
  obtain ⟨a1, a2⟩ := a
  have ec : ∀ i, i ≤ p.1 → cnL (putL p L sm).2.1 i = cnL p.2.1 i := fun i hi => cnL_congr (fun l hl => if_neg (by omega))
  have en : ∀ j, (putL p L sm).2.1 p.1 j = L j := fun j => if_pos rfl
  have eo : ∀ i j, i < p.1 → (putL p L sm).2.1 i j = p.2.1 i j := fun i j hi => if_neg (by omega)
  refine ⟨?_, fun i hi h0 => ?_⟩
  · show cnL (putL p L sm).2.1 (p.1 + 1) = k2
    rw [cnL_s, ec p.1 (Nat.le_refl _), a1, en 0, hk]
  · have hi : i < p.1 + 1 := hi
    by_cases e : i = p.1
    · subst e
      rw [en] at h0
      obtain ⟨l1, l2, l3, l4, l5⟩ := hL h0
      rw [ec p.1 (Nat.le_refl _), a1]
      exact ⟨fun f hf => (en _).trans (l1 f hf), (en _).trans l2, (en _).trans l3, (en _).trans l4, (en _).trans l5⟩
    · rw [eo i 0 (by omega)] at h0
      obtain ⟨l1, l2, l3, l4, l5⟩ := a2 i (by omega) h0
      rw [ec i (by omega)]
      exact ⟨fun f hf => (eo i _ (by omega)).trans (l1 f hf), (eo i _ (by omega)).trans l2, (eo i _ (by omega)).trans l3, (eo i _ (by omega)).trans l4, (eo i _ (by omega)).trans l5⟩
theorem PtF.brk {acc : Nat → Nat → Int32} {k lv : Nat} {lim : Int32} {v : Nat → Int32} {p : PS} (a : PtF acc k p) (h : lv < 3) : PtF acc k (brk lim lv v p) := by
  have zz : ¬ nI (lv + 1) = 0 := nI_ne0 (by omega) (by omega)
  exact ⟨PtG.put a.1 (by show k = k + if nI (lv + 1) = 0 then 1 else 0; rw [if_neg zz, Nat.add_zero]) (fun q => absurd q zz), (brk_sum (lim := lim) (v := v) (p := p) (c := 0) h (by omega)).trans a.2.1, (brk_sum (lim := lim) (v := v) (p := p) (c := 1) h (by omega)).trans a.2.2⟩
theorem PtF.brks {acc : Nat → Nat → Int32} {k : Nat} {lim : Int32} {v : Nat → Int32} {p : PS} (a : PtF acc k p) : ∀ n, n ≤ 3 → PtF acc k (brks lim v n p)
  | 0, _ => a
  | n + 1, h => (a.brks n (by omega)).brk (by omega)
theorem lineV_c {kd j : Nat} {v : Nat → Int32} {a b c d e : Int32} (h1 : 0 < j) (h2 : j < 4) : lineV kd v a b c d e j = colV kd v (j - 1) := by
  unfold lineV
  rw [if_neg (by omega), if_pos h2]
theorem PtF_ptS {lim : Int32} {acc : Nat → Nat → Int32} {num : Nat → Int32} : ∀ k, PtF acc k (ptS lim acc num k)
  | 0 => ⟨⟨rfl, fun i hi => absurd hi (Nat.not_lt_zero _)⟩, rfl, rfl⟩
  | k + 1 => by
    have b : PtF acc k (ptB lim acc k (ptS lim acc num k)) := by
      unfold ptB
      split
      · exact PtF_ptS k
      · exact (PtF_ptS k).brks _ (lvN_le _ _)
    refine ⟨PtG.put (k2 := k + 1) b.1 (by show k + 1 = k + if nI 0 = 0 then 1 else 0; rw [if_pos (show nI 0 = 0 from rfl)]) (fun _ => ⟨fun f hf => ?_, rfl, rfl, rfl, rfl⟩), ?_, ?_⟩
    · rw [lineV_c (by omega) (by omega), Nat.add_sub_cancel_left]
      unfold colV
      rw [if_neg (by unfold noneK; omega)]
    · show addC (acc k) (ptB lim acc k (ptS lim acc num k)).2.2 12 = nI (k + 1)
      show (ptB lim acc k (ptS lim acc num k)).2.2 12 + nI 1 = nI (k + 1)
      rw [b.2.1, nI_add]
    · show (ptB lim acc k (ptS lim acc num k)).2.2 13 + acc k 3 = _
      rw [b.2.2, sT_s]
theorem ptE_F {lim : Int32} {acc : Nat → Nat → Int32} {num : Nat → Int32} {m : Nat} : PtG acc m (ptE lim acc num m) ∧ ∃ q, (ptE lim acc num m).1 = q + 1 ∧ (ptE lim acc num m).2.1 q 4 = nI m ∧ (ptE lim acc num m).2.1 q 5 = sT (fun j => acc j 3) m := by
  have b : PtF acc m (if m = 0 then ptS lim acc num m else brks lim (acc (m - 1)) 3 (ptS lim acc num m)) := by
    split
    · exact PtF_ptS m
    · exact (PtF_ptS m).brks 3 (Nat.le_refl 3)
  have e : ptE lim acc num m = brk lim 3 (acc 0) (if m = 0 then ptS lim acc num m else brks lim (acc (m - 1)) 3 (ptS lim acc num m)) := rfl
  rw [e]
  generalize (if m = 0 then ptS lim acc num m else brks lim (acc (m - 1)) 3 (ptS lim acc num m)) = p at b
  have ea : brkA lim 3 (acc 0) p.2.2 = p.2.2 := if_neg (by decide)
  refine ⟨PtG.put b.1 (by show m = m + if nI 4 = 0 then 1 else 0; rw [if_neg (by decide), Nat.add_zero]) (fun q => absurd q (by show ¬ nI 4 = 0; decide)), p.1, rfl, ?_, ?_⟩
  · show (if p.1 = p.1 then lineV 4 (acc 0) (brkA lim 3 (acc 0) p.2.2 (4 * 3)) _ _ _ _ 4 else _) = nI m
    rw [if_pos rfl]
    show brkA lim 3 (acc 0) p.2.2 12 = nI m
    rw [ea]
    exact b.2.1
  · show (if p.1 = p.1 then lineV 4 (acc 0) (brkA lim 3 (acc 0) p.2.2 (4 * 3)) (brkA lim 3 (acc 0) p.2.2 (4 * 3 + 1)) _ _ _ 5 else _) = _
    rw [if_pos rfl]
    show brkA lim 3 (acc 0) p.2.2 13 = _
    rw [ea]
    exact b.2.2
theorem WOK.run {U V : Nat → Int32} {n : Nat} {P Wd : Nat → Nat} (a : WOK U) (hL : LayW U P Wd) (hV : LayV Wd) (hw : U 19 = nI n) (hn : n ≤ 40) (v : RunW P Wd U n V) : WOK V := by
  obtain ⟨⟨n0, a1⟩, a2⟩ := a
  obtain rfl : n = n0 := (nI_eq (by omega) (by have := a1.2.1; omega)).mp (hw.symm.trans a1.1)
  obtain ⟨V1, G, v1, v2, v3, v4, v5, v6, v7, Z, w1, w2, w3, w4⟩ := v
  have hm := accN_le P Wd U (U 12) n
  obtain ⟨⟨e1, e2⟩, q, e3, e4, e5⟩ := ptE_F (lim := U 15) (acc := fun k f => V1 (1104 + 5 * k + f)) (num := G) (m := accN P Wd U (U 12) n)
  have h161 := ptE_le (lim := U 15) (acc := fun k f => V1 (1104 + 5 * k + f)) (num := G) (m := accN P Wd U (U 12) n) (by omega)
  generalize ptE (U 15) (fun k f => V1 (1104 + 5 * k + f)) G (accN P Wd U (U 12) n) = p at e1 e2 e3 e4 e5 w2 w3 h161
  generalize hmm : accN P Wd U (U 12) n = m at v5 e1 e4 e5 hm
  refine ⟨⟨n, a1.cg (fun j j1 j2 => (w1 j (by omega)).trans (v1 j (by omega)))⟩, m, (w1 _ (by omega)).trans v5, by omega, fun k hk f hf => ?_, Or.inr ⟨by rw [w1 _ (by omega), v2]; decide, q, by omega, by rw [w2, e3], ?_, fun i hi h0 => ?_, ?_, ?_⟩⟩
  · rw [← hmm] at hk
    obtain ⟨i, i1, i2, i3⟩ := accN_find hk
    rw [w1 _ (by omega), ← i3, (v7 i i1 i2).1 f hf]
    exact accF_rng hL hV a1.2.2.1 i1 i2 f hf
  · have : ∀ i, i ≤ p.1 → lnN V i = cnL p.2.1 i := fun i hi => cnt_congr (fun l hl => by
      have := w3 l (by omega) 0 (by omega)
      rw [Nat.add_zero] at this
      rw [this])
    rw [this _ (by omega), ← e3]
    exact e1
  · have ln : lnN V i = cnL p.2.1 i := cnt_congr (fun l hl => by
      have := w3 l (by omega) 0 (by omega)
      rw [Nat.add_zero] at this
      rw [this])
    have z0 := w3 i (by omega) 0 (by omega)
    rw [Nat.add_zero] at z0
    rw [z0] at h0
    obtain ⟨l1, l2, l3, l4, l5⟩ := e2 i (by omega) h0
    have cs := cnL_s p.2.1 i
    rw [if_pos h0] at cs
    have cm : cnL p.2.1 (i + 1) ≤ cnL p.2.1 p.1 := cnt_mono (by omega)
    rw [ln]
    refine ⟨fun f hf => ?_, (w3 i (by omega) 4 (by omega)).trans l2, ?_, ?_, (w3 i (by omega) 7 (by omega)).trans l5⟩
    · rw [show 1305 + 9 * i + 1 + f = 1305 + 9 * i + (1 + f) by omega, w3 i (by omega) (1 + f) (by omega), l1 f hf]
      exact (w1 _ (by omega)).symm
    · rw [w3 i (by omega) 5 (by omega), l3]
      exact (w1 _ (by omega)).symm
    · rw [w3 i (by omega) 6 (by omega), l4]
      unfold wag
      show V1 (1104 + 5 * cnL p.2.1 i + 3) * V1 (1104 + 5 * cnL p.2.1 i + 4) / nI 10 = V (1104 + 5 * cnL p.2.1 i + 3) * V (1104 + 5 * cnL p.2.1 i + 4) / nI 10
      rw [w1 _ (by omega), w1 _ (by omega)]
  · rw [w3 q (by omega) 4 (by omega)]; exact e4
  · rw [w3 q (by omega) 5 (by omega), e5]
    exact sT_congr (fun k hk => (w1 _ (by omega)).symm)
