/-! the report's lines add up: the law's own sums beside the printer's -/
section REP
theorem vao {α : Type} {f : Nat → α} {k j : Nat} {x : α} (h : ¬ j = k) : va_up f k x j = f j := by unfold va_up; rw [if_neg h]
theorem addA (a b c : Int32) : a + b + c = a + (b + c) := Int32.add_assoc a b c
def lwS (kd : Nat) (L g : Nat → Int32) : Nat → Int32 := fun j => if 4 * kd ≤ j ∧ j < 4 * kd + 4 then g j + L (4 + (j - 4 * kd)) else if 4 * kd ≤ j + 4 ∧ j < 4 * kd then nI 0 else g j
def okL (kd : Nat) (L g : Nat → Int32) : Prop := (kd = 0 → L 4 = nI 1 ∧ L 7 = nI 0) ∧ (0 < kd → L 4 = g (4 * kd - 4) ∧ L 5 = g (4 * kd - 3) ∧ L 6 = g (4 * kd - 2) + (if kd = 1 then L 7 else nI 0) ∧ (¬ kd = 1 → L 7 = g (4 * kd - 1)) ∧ L 8 = (-1000009) ∧ (L 3 = (-1000009) ↔ 1 < kd) ∧ (L 1 = (-1000009) ↔ 3 < kd))
theorem okL.cg {kd : Nat} {L M g : Nat → Int32} (a : okL kd L g) (e : ∀ j, j < 9 → M j = L j) : okL kd M g := by
  unfold okL at a ⊢
  rw [e 4 (by omega), e 7 (by omega), e 5 (by omega), e 6 (by omega), e 8 (by omega), e 3 (by omega), e 1 (by omega)]
  exact a
theorem lwS_cg {kd : Nat} {L M g : Nat → Int32} (e : ∀ j, j < 9 → M j = L j) (j : Nat) : lwS kd M g j = lwS kd L g j := by
  unfold lwS
  by_cases h : 4 * kd ≤ j ∧ j < 4 * kd + 4
  · rw [if_pos h, if_pos h, e _ (by omega)]
  · rw [if_neg h, if_neg h]
def ChI (num : Nat → Int32) (m : Nat) (kd c : Nat → Nat) (G : Nat → Nat → Int32) (n : Nat) (l : Nat → Nat → Int32) : Prop := (∀ j, G 0 j = nI 0) ∧ c 0 = 0 ∧ ∀ i, i < n → kd i ≤ 4 ∧ l i 0 = nI (kd i) ∧ okL (kd i) (l i) (G i) ∧ G (i + 1) = lwS (kd i) (l i) (G i) ∧ c (i + 1) = c i + (if kd i = 0 then 1 else 0) ∧ (kd i = 0 → ∃ q, q < m ∧ l i 8 = num q)
theorem ChI.put {num : Nat → Int32} {m m2 q : Nat} {kd c : Nat → Nat} {G : Nat → Nat → Int32} {p : PS} {L sm : Nat → Int32} (a : ChI num m kd c G p.1 p.2.1) (hm : m ≤ m2) (hq : q ≤ 4) (h0 : L 0 = nI q) (ho : okL q L (G p.1)) (hn : q = 0 → ∃ r, r < m2 ∧ L 8 = num r) : ChI num m2 (updN kd p.1 q) (updN c (p.1 + 1) (c p.1 + (if q = 0 then 1 else 0))) (va_up G (p.1 + 1) (lwS q L (G p.1))) (putL p L sm).1 (putL p L sm).2.1 := by
  obtain ⟨a1, a2, a3⟩ := a
  refine ⟨fun j => ?_, ?_, fun i hi => ?_⟩
  · rw [vao (by omega)]; exact a1 j
  · rw [updN_n (by omega)]; exact a2
  · have hi : i < p.1 + 1 := hi
    by_cases e : i = p.1
    · have en : (putL p L sm).2.1 i = L := by funext j; exact if_pos e
      rw [en, e, updN_s, updN_s, up_s, vao (by omega), updN_n (show ¬ p.1 = p.1 + 1 by omega)]
      exact ⟨hq, h0, ho, rfl, rfl, hn⟩
    · have en : (putL p L sm).2.1 i = p.2.1 i := by funext j; exact if_neg e
      rw [en, updN_n e, updN_n (show ¬ i + 1 = p.1 + 1 by omega), vao (show ¬ i + 1 = p.1 + 1 by omega), vao (show ¬ i = p.1 + 1 by omega), updN_n (show ¬ i = p.1 + 1 by omega)]
      obtain ⟨b1, b2, b3, b4, b5, b6⟩ := a3 i (by omega)
      refine ⟨b1, b2, b3, b4, b5, fun h => ?_⟩
      obtain ⟨r, r1, r2⟩ := b6 h
      exact ⟨r, by omega, r2⟩
def Rl (g sm : Nat → Int32) : Prop := (∀ q, q < 4 → sm q = g q ∧ sm (4 + q) = g (4 + q) + g q ∧ sm (8 + q) = g (8 + q) + g (4 + q) + g q ∧ sm (12 + q) = g (12 + q) + g (8 + q) + g (4 + q) + g q) ∧ g 3 = nI 0
def ChP (num : Nat → Int32) (p : PS) (k lv : Nat) : Prop := ∃ kd c G, ChI num k kd c G p.1 p.2.1 ∧ c p.1 = k ∧ Rl (G p.1) p.2.2 ∧ ∀ j, j < 4 * lv → G p.1 j = nI 0
theorem ChP.le {num : Nat → Int32} {p : PS} {k lv lw : Nat} (a : ChP num p k lv) (h : lw ≤ lv) : ChP num p k lw := by
  obtain ⟨kd, c, G, a1, a2, a3, a4⟩ := a
  exact ⟨kd, c, G, a1, a2, a3, fun j hj => a4 j (by omega)⟩
theorem ChP.ze {num : Nat → Int32} : ChP num (0, fun _ _ => 0, fun _ => nI 0) 0 4 :=
  ⟨fun _ => 0, fun _ => 0, fun _ _ => nI 0, ⟨fun _ => rfl, rfl, fun i hi => absurd hi (Nat.not_lt_zero _)⟩, rfl, ⟨fun q _ => ⟨rfl, rfl, rfl, rfl⟩, rfl⟩, fun _ _ => rfl⟩
theorem Rl.card {g sm v : Nat → Int32} {e : Int32} (hr : Rl g sm) : Rl (lwS 0 (lineV 0 v (nI 1) (v 3) (wag v) (nI 0) e) g) (addC v sm) := by
  have a0 : sm 0 = g 0 := (hr.1 0 (by omega)).1
  have b0 : sm 4 = g 4 + g 0 := (hr.1 0 (by omega)).2.1
  have c0 : sm 8 = g 8 + g 4 + g 0 := (hr.1 0 (by omega)).2.2.1
  have d0 : sm 12 = g 12 + g 8 + g 4 + g 0 := (hr.1 0 (by omega)).2.2.2
  have a1 : sm 1 = g 1 := (hr.1 1 (by omega)).1
  have b1 : sm 5 = g 5 + g 1 := (hr.1 1 (by omega)).2.1
  have c1 : sm 9 = g 9 + g 5 + g 1 := (hr.1 1 (by omega)).2.2.1
  have d1 : sm 13 = g 13 + g 9 + g 5 + g 1 := (hr.1 1 (by omega)).2.2.2
  have a2 : sm 2 = g 2 := (hr.1 2 (by omega)).1
  have b2 : sm 6 = g 6 + g 2 := (hr.1 2 (by omega)).2.1
  have c2 : sm 10 = g 10 + g 6 + g 2 := (hr.1 2 (by omega)).2.2.1
  have d2 : sm 14 = g 14 + g 10 + g 6 + g 2 := (hr.1 2 (by omega)).2.2.2
  have a3 : sm 3 = g 3 := (hr.1 3 (by omega)).1
  have b3 : sm 7 = g 7 + g 3 := (hr.1 3 (by omega)).2.1
  have c3 : sm 11 = g 11 + g 7 + g 3 := (hr.1 3 (by omega)).2.2.1
  have d3 : sm 15 = g 15 + g 11 + g 7 + g 3 := (hr.1 3 (by omega)).2.2.2
  refine ⟨fun q hq => ?_, ?_⟩
  · rcases (by omega : q = 0 ∨ q = 1 ∨ q = 2 ∨ q = 3) with rfl | rfl | rfl | rfl
    · show sm 0 + nI 1 = (g 0 + nI 1) ∧ sm 4 + nI 1 = g 4 + (g 0 + nI 1) ∧ sm 8 + nI 1 = g 8 + g 4 + (g 0 + nI 1) ∧ sm 12 + nI 1 = g 12 + g 8 + g 4 + (g 0 + nI 1)
      refine ⟨?_, ?_, ?_, ?_⟩
      · rw [a0]
      · rw [b0]; simp only [addA, add_0]
      · rw [c0]; simp only [addA, add_0]
      · rw [d0]; simp only [addA, add_0]
    · show sm 1 + v 3 = (g 1 + v 3) ∧ sm 5 + v 3 = g 5 + (g 1 + v 3) ∧ sm 9 + v 3 = g 9 + g 5 + (g 1 + v 3) ∧ sm 13 + v 3 = g 13 + g 9 + g 5 + (g 1 + v 3)
      refine ⟨?_, ?_, ?_, ?_⟩
      · rw [a1]
      · rw [b1]; simp only [addA, add_0]
      · rw [c1]; simp only [addA, add_0]
      · rw [d1]; simp only [addA, add_0]
    · show sm 2 + wag v = (g 2 + wag v) ∧ sm 6 + wag v = g 6 + (g 2 + wag v) ∧ sm 10 + wag v = g 10 + g 6 + (g 2 + wag v) ∧ sm 14 + wag v = g 14 + g 10 + g 6 + (g 2 + wag v)
      refine ⟨?_, ?_, ?_, ?_⟩
      · rw [a2]
      · rw [b2]; simp only [addA, add_0]
      · rw [c2]; simp only [addA, add_0]
      · rw [d2]; simp only [addA, add_0]
    · show sm 3 = (g 3 + nI 0) ∧ sm 7 = g 7 + (g 3 + nI 0) ∧ sm 11 = g 11 + g 7 + (g 3 + nI 0) ∧ sm 15 = g 15 + g 11 + g 7 + (g 3 + nI 0)
      refine ⟨?_, ?_, ?_, ?_⟩
      · rw [a3]; simp only [addA, add_0]
      · rw [b3]; simp only [addA, add_0]
      · rw [c3]; simp only [addA, add_0]
      · rw [d3]; simp only [addA, add_0]
  · show g 3 + nI 0 = nI 0
    rw [hr.2]; rfl
theorem ChP.card {num : Nat → Int32} {p : PS} {k lv : Nat} {v : Nat → Int32} (a : ChP num p k lv) : ChP num (cardL v (num k) p) (k + 1) 0 := by
  obtain ⟨kd, c, G, a1, a2, a3, -⟩ := a
  refine ⟨_, _, _, ChI.put (m2 := k + 1) (q := 0) a1 (Nat.le_succ k) (by omega) rfl ⟨fun _ => ⟨rfl, rfl⟩, fun h => absurd h (Nat.lt_irrefl 0)⟩ (fun _ => ⟨k, Nat.lt_succ_self k, rfl⟩), ?_, ?_, fun j hj => absurd hj (by omega)⟩
  · show updN c (p.1 + 1) (c p.1 + 1) (p.1 + 1) = k + 1
    rw [updN_s, a2]
  · show Rl (va_up G (p.1 + 1) _ (p.1 + 1)) _
    rw [up_s]
    exact Rl.card a3
theorem Rl.brk0 {g sm v : Nat → Int32} {lim : Int32} (hr : Rl g sm) (hz : ∀ j, j < 0 → g j = nI 0) (hv0 : ¬ v 0 = (-1000009)) (hv2 : ¬ v 2 = (-1000009)) : okL 1 (lineV 1 v (brkA lim 0 v sm 0) (brkA lim 0 v sm 1) (brkA lim 0 v sm 2) (brkA lim 0 v sm 3) (-1000009)) g ∧ Rl (lwS 1 (lineV 1 v (brkA lim 0 v sm 0) (brkA lim 0 v sm 1) (brkA lim 0 v sm 2) (brkA lim 0 v sm 3) (-1000009)) g) (fun j => if j / 4 = 0 then nI 0 else brkA lim 0 v sm j) := by
  have a0 : sm 0 = g 0 := (hr.1 0 (by omega)).1
  have b0 : sm 4 = g 4 + g 0 := (hr.1 0 (by omega)).2.1
  have c0 : sm 8 = g 8 + g 4 + g 0 := (hr.1 0 (by omega)).2.2.1
  have d0 : sm 12 = g 12 + g 8 + g 4 + g 0 := (hr.1 0 (by omega)).2.2.2
  have a1 : sm 1 = g 1 := (hr.1 1 (by omega)).1
  have b1 : sm 5 = g 5 + g 1 := (hr.1 1 (by omega)).2.1
  have c1 : sm 9 = g 9 + g 5 + g 1 := (hr.1 1 (by omega)).2.2.1
  have d1 : sm 13 = g 13 + g 9 + g 5 + g 1 := (hr.1 1 (by omega)).2.2.2
  have a2 : sm 2 = g 2 := (hr.1 2 (by omega)).1
  have b2 : sm 6 = g 6 + g 2 := (hr.1 2 (by omega)).2.1
  have c2 : sm 10 = g 10 + g 6 + g 2 := (hr.1 2 (by omega)).2.2.1
  have d2 : sm 14 = g 14 + g 10 + g 6 + g 2 := (hr.1 2 (by omega)).2.2.2
  have a3 : sm 3 = g 3 := (hr.1 3 (by omega)).1
  have b3 : sm 7 = g 7 + g 3 := (hr.1 3 (by omega)).2.1
  have c3 : sm 11 = g 11 + g 7 + g 3 := (hr.1 3 (by omega)).2.2.1
  have d3 : sm 15 = g 15 + g 11 + g 7 + g 3 := (hr.1 3 (by omega)).2.2.2
  have z3 : g 3 = nI 0 := hr.2
  refine ⟨⟨fun h => absurd h (by omega), fun _ => ⟨?_, ?_, ?_, fun hk => ?_, rfl, ?_, ?_⟩⟩, fun q hq => ?_, ?_⟩
  · show sm 0 = g 0
    rw [a0]
  · show sm 1 = g 1
    rw [a1]
  · show (sm 2 + ovr (sm 1) lim (v 4)) = g 2 + (sm 3 + ovr (sm 1) lim (v 4))
    rw [a2, a3]; simp only [z3, addA, add_0, zero_a]
  · exact absurd rfl hk
  · exact ⟨fun e => absurd e hv2, fun h => absurd h (by omega)⟩
  · exact ⟨fun e => absurd e hv0, fun h => absurd h (by omega)⟩
  · rcases (by omega : q = 0 ∨ q = 1 ∨ q = 2 ∨ q = 3) with rfl | rfl | rfl | rfl
    · show nI 0 = nI 0 ∧ sm 4 = (g 4 + sm 0) + nI 0 ∧ sm 8 = g 8 + (g 4 + sm 0) + nI 0 ∧ sm 12 = g 12 + g 8 + (g 4 + sm 0) + nI 0
      refine ⟨?_, ?_, ?_, ?_⟩
      · simp only [z3, addA, add_0, zero_a]
      · simp only [b0, a0, z3, addA, add_0, zero_a]
      · simp only [c0, a0, z3, addA, add_0, zero_a]
      · simp only [d0, a0, z3, addA, add_0, zero_a]
    · show nI 0 = nI 0 ∧ sm 5 = (g 5 + sm 1) + nI 0 ∧ sm 9 = g 9 + (g 5 + sm 1) + nI 0 ∧ sm 13 = g 13 + g 9 + (g 5 + sm 1) + nI 0
      refine ⟨?_, ?_, ?_, ?_⟩
      · simp only [z3, addA, add_0, zero_a]
      · simp only [b1, a1, z3, addA, add_0, zero_a]
      · simp only [c1, a1, z3, addA, add_0, zero_a]
      · simp only [d1, a1, z3, addA, add_0, zero_a]
    · show nI 0 = nI 0 ∧ (sm 6 + ovr (sm 1) lim (v 4)) = (g 6 + (sm 2 + ovr (sm 1) lim (v 4))) + nI 0 ∧ (sm 10 + ovr (sm 1) lim (v 4)) = g 10 + (g 6 + (sm 2 + ovr (sm 1) lim (v 4))) + nI 0 ∧ (sm 14 + ovr (sm 1) lim (v 4)) = g 14 + g 10 + (g 6 + (sm 2 + ovr (sm 1) lim (v 4))) + nI 0
      refine ⟨?_, ?_, ?_, ?_⟩
      · simp only [z3, addA, add_0, zero_a]
      · simp only [b2, a2, z3, addA, add_0, zero_a]
      · simp only [c2, a2, z3, addA, add_0, zero_a]
      · simp only [d2, a2, z3, addA, add_0, zero_a]
    · show nI 0 = nI 0 ∧ (sm 7 + ovr (sm 1) lim (v 4)) = (g 7 + (sm 3 + ovr (sm 1) lim (v 4))) + nI 0 ∧ (sm 11 + ovr (sm 1) lim (v 4)) = g 11 + (g 7 + (sm 3 + ovr (sm 1) lim (v 4))) + nI 0 ∧ (sm 15 + ovr (sm 1) lim (v 4)) = g 15 + g 11 + (g 7 + (sm 3 + ovr (sm 1) lim (v 4))) + nI 0
      refine ⟨?_, ?_, ?_, ?_⟩
      · simp only [z3, addA, add_0, zero_a]
      · simp only [b3, a3, z3, addA, add_0, zero_a]
      · simp only [c3, a3, z3, addA, add_0, zero_a]
      · simp only [d3, a3, z3, addA, add_0, zero_a]
  · rfl
theorem ChP.brk0 {num : Nat → Int32} {p : PS} {k : Nat} {v : Nat → Int32} {lim : Int32} (a : ChP num p k 0) (hv0 : ¬ v 0 = (-1000009)) (hv2 : ¬ v 2 = (-1000009)) : ChP num (brk lim 0 v p) k 1 := by
  obtain ⟨kd, c, G, a1, a2, a3, a4⟩ := a
  obtain ⟨o1, o2⟩ := Rl.brk0 (v := v) (lim := lim) a3 (fun j hj => a4 j (by omega)) hv0 hv2
  refine ⟨_, _, _, ChI.put (q := 1) a1 (Nat.le_refl k) (by omega) rfl o1 (fun h => absurd h (by omega)), ?_, ?_, fun j hj => ?_⟩
  · show updN c (p.1 + 1) (c p.1 + 0) (p.1 + 1) = k
    rw [updN_s, a2]
    rfl
  · show Rl (va_up G (p.1 + 1) _ (p.1 + 1)) _
    rw [up_s]
    exact o2
  · show va_up G (p.1 + 1) _ (p.1 + 1) j = nI 0
    rw [up_s]
    unfold lwS
    rw [if_neg (by omega)]
    by_cases e : 4 * 1 ≤ j + 4 ∧ j < 4 * 1
    · rw [if_pos e]
    · rw [if_neg e]; exact a4 j (by omega)
theorem Rl.brk1 {g sm v : Nat → Int32} {lim : Int32} (hr : Rl g sm) (hz : ∀ j, j < 4 → g j = nI 0) (hv0 : ¬ v 0 = (-1000009)) : okL 2 (lineV 2 v (brkA lim 1 v sm 4) (brkA lim 1 v sm 5) (brkA lim 1 v sm 6) (brkA lim 1 v sm 7) (-1000009)) g ∧ Rl (lwS 2 (lineV 2 v (brkA lim 1 v sm 4) (brkA lim 1 v sm 5) (brkA lim 1 v sm 6) (brkA lim 1 v sm 7) (-1000009)) g) (fun j => if j / 4 = 1 then nI 0 else brkA lim 1 v sm j) := by
  have a0 : sm 0 = g 0 := (hr.1 0 (by omega)).1
  have b0 : sm 4 = g 4 + g 0 := (hr.1 0 (by omega)).2.1
  have c0 : sm 8 = g 8 + g 4 + g 0 := (hr.1 0 (by omega)).2.2.1
  have d0 : sm 12 = g 12 + g 8 + g 4 + g 0 := (hr.1 0 (by omega)).2.2.2
  have a1 : sm 1 = g 1 := (hr.1 1 (by omega)).1
  have b1 : sm 5 = g 5 + g 1 := (hr.1 1 (by omega)).2.1
  have c1 : sm 9 = g 9 + g 5 + g 1 := (hr.1 1 (by omega)).2.2.1
  have d1 : sm 13 = g 13 + g 9 + g 5 + g 1 := (hr.1 1 (by omega)).2.2.2
  have a2 : sm 2 = g 2 := (hr.1 2 (by omega)).1
  have b2 : sm 6 = g 6 + g 2 := (hr.1 2 (by omega)).2.1
  have c2 : sm 10 = g 10 + g 6 + g 2 := (hr.1 2 (by omega)).2.2.1
  have d2 : sm 14 = g 14 + g 10 + g 6 + g 2 := (hr.1 2 (by omega)).2.2.2
  have a3 : sm 3 = g 3 := (hr.1 3 (by omega)).1
  have b3 : sm 7 = g 7 + g 3 := (hr.1 3 (by omega)).2.1
  have c3 : sm 11 = g 11 + g 7 + g 3 := (hr.1 3 (by omega)).2.2.1
  have d3 : sm 15 = g 15 + g 11 + g 7 + g 3 := (hr.1 3 (by omega)).2.2.2
  have z0 : g 0 = nI 0 := hz 0 (by omega)
  have z1 : g 1 = nI 0 := hz 1 (by omega)
  have z2 : g 2 = nI 0 := hz 2 (by omega)
  have z3 : g 3 = nI 0 := hz 3 (by omega)
  refine ⟨⟨fun h => absurd h (by omega), fun _ => ⟨?_, ?_, ?_, fun hk => ?_, rfl, ?_, ?_⟩⟩, fun q hq => ?_, ?_⟩
  · show sm 4 = g 4
    rw [b0]; simp only [z0, z1, z2, z3, addA, add_0, zero_a]
  · show sm 5 = g 5
    rw [b1]; simp only [z0, z1, z2, z3, addA, add_0, zero_a]
  · show sm 6 = g 6 + nI 0
    rw [b2]; simp only [z0, z1, z2, z3, addA, add_0, zero_a]
  · show sm 7 = g 7
    rw [b3]; simp only [z0, z1, z2, z3, addA, add_0, zero_a]
  · exact ⟨fun _ => by omega, fun _ => rfl⟩
  · exact ⟨fun e => absurd e hv0, fun h => absurd h (by omega)⟩
  · rcases (by omega : q = 0 ∨ q = 1 ∨ q = 2 ∨ q = 3) with rfl | rfl | rfl | rfl
    · show sm 0 = g 0 ∧ nI 0 = nI 0 + g 0 ∧ sm 8 = (g 8 + sm 4) + nI 0 + g 0 ∧ sm 12 = g 12 + (g 8 + sm 4) + nI 0 + g 0
      refine ⟨?_, ?_, ?_, ?_⟩
      · simp only [a0, z0, z1, z2, z3, addA, add_0, zero_a]
      · simp only [z0, z1, z2, z3, addA, add_0, zero_a]
      · simp only [c0, b0, z0, z1, z2, z3, addA, add_0, zero_a]
      · simp only [d0, b0, z0, z1, z2, z3, addA, add_0, zero_a]
    · show sm 1 = g 1 ∧ nI 0 = nI 0 + g 1 ∧ sm 9 = (g 9 + sm 5) + nI 0 + g 1 ∧ sm 13 = g 13 + (g 9 + sm 5) + nI 0 + g 1
      refine ⟨?_, ?_, ?_, ?_⟩
      · simp only [a1, z0, z1, z2, z3, addA, add_0, zero_a]
      · simp only [z0, z1, z2, z3, addA, add_0, zero_a]
      · simp only [c1, b1, z0, z1, z2, z3, addA, add_0, zero_a]
      · simp only [d1, b1, z0, z1, z2, z3, addA, add_0, zero_a]
    · show sm 2 = g 2 ∧ nI 0 = nI 0 + g 2 ∧ sm 10 = (g 10 + sm 6) + nI 0 + g 2 ∧ sm 14 = g 14 + (g 10 + sm 6) + nI 0 + g 2
      refine ⟨?_, ?_, ?_, ?_⟩
      · simp only [a2, z0, z1, z2, z3, addA, add_0, zero_a]
      · simp only [z0, z1, z2, z3, addA, add_0, zero_a]
      · simp only [c2, b2, z0, z1, z2, z3, addA, add_0, zero_a]
      · simp only [d2, b2, z0, z1, z2, z3, addA, add_0, zero_a]
    · show sm 3 = g 3 ∧ nI 0 = nI 0 + g 3 ∧ sm 11 = (g 11 + sm 7) + nI 0 + g 3 ∧ sm 15 = g 15 + (g 11 + sm 7) + nI 0 + g 3
      refine ⟨?_, ?_, ?_, ?_⟩
      · simp only [a3, z0, z1, z2, z3, addA, add_0, zero_a]
      · simp only [z0, z1, z2, z3, addA, add_0, zero_a]
      · simp only [c3, b3, z0, z1, z2, z3, addA, add_0, zero_a]
      · simp only [d3, b3, z0, z1, z2, z3, addA, add_0, zero_a]
  · exact hr.2
theorem ChP.brk1 {num : Nat → Int32} {p : PS} {k : Nat} {v : Nat → Int32} {lim : Int32} (a : ChP num p k 1) (hv0 : ¬ v 0 = (-1000009)) : ChP num (brk lim 1 v p) k 2 := by
  obtain ⟨kd, c, G, a1, a2, a3, a4⟩ := a
  obtain ⟨o1, o2⟩ := Rl.brk1 (v := v) (lim := lim) a3 (fun j hj => a4 j (by omega)) hv0
  refine ⟨_, _, _, ChI.put (q := 2) a1 (Nat.le_refl k) (by omega) rfl o1 (fun h => absurd h (by omega)), ?_, ?_, fun j hj => ?_⟩
  · show updN c (p.1 + 1) (c p.1 + 0) (p.1 + 1) = k
    rw [updN_s, a2]
    rfl
  · show Rl (va_up G (p.1 + 1) _ (p.1 + 1)) _
    rw [up_s]
    exact o2
  · show va_up G (p.1 + 1) _ (p.1 + 1) j = nI 0
    rw [up_s]
    unfold lwS
    rw [if_neg (by omega)]
    by_cases e : 4 * 2 ≤ j + 4 ∧ j < 4 * 2
    · rw [if_pos e]
    · rw [if_neg e]; exact a4 j (by omega)
theorem Rl.brk2 {g sm v : Nat → Int32} {lim : Int32} (hr : Rl g sm) (hz : ∀ j, j < 8 → g j = nI 0) (hv0 : ¬ v 0 = (-1000009)) : okL 3 (lineV 3 v (brkA lim 2 v sm 8) (brkA lim 2 v sm 9) (brkA lim 2 v sm 10) (brkA lim 2 v sm 11) (-1000009)) g ∧ Rl (lwS 3 (lineV 3 v (brkA lim 2 v sm 8) (brkA lim 2 v sm 9) (brkA lim 2 v sm 10) (brkA lim 2 v sm 11) (-1000009)) g) (fun j => if j / 4 = 2 then nI 0 else brkA lim 2 v sm j) := by
  have a0 : sm 0 = g 0 := (hr.1 0 (by omega)).1
  have b0 : sm 4 = g 4 + g 0 := (hr.1 0 (by omega)).2.1
  have c0 : sm 8 = g 8 + g 4 + g 0 := (hr.1 0 (by omega)).2.2.1
  have d0 : sm 12 = g 12 + g 8 + g 4 + g 0 := (hr.1 0 (by omega)).2.2.2
  have a1 : sm 1 = g 1 := (hr.1 1 (by omega)).1
  have b1 : sm 5 = g 5 + g 1 := (hr.1 1 (by omega)).2.1
  have c1 : sm 9 = g 9 + g 5 + g 1 := (hr.1 1 (by omega)).2.2.1
  have d1 : sm 13 = g 13 + g 9 + g 5 + g 1 := (hr.1 1 (by omega)).2.2.2
  have a2 : sm 2 = g 2 := (hr.1 2 (by omega)).1
  have b2 : sm 6 = g 6 + g 2 := (hr.1 2 (by omega)).2.1
  have c2 : sm 10 = g 10 + g 6 + g 2 := (hr.1 2 (by omega)).2.2.1
  have d2 : sm 14 = g 14 + g 10 + g 6 + g 2 := (hr.1 2 (by omega)).2.2.2
  have a3 : sm 3 = g 3 := (hr.1 3 (by omega)).1
  have b3 : sm 7 = g 7 + g 3 := (hr.1 3 (by omega)).2.1
  have c3 : sm 11 = g 11 + g 7 + g 3 := (hr.1 3 (by omega)).2.2.1
  have d3 : sm 15 = g 15 + g 11 + g 7 + g 3 := (hr.1 3 (by omega)).2.2.2
  have z0 : g 0 = nI 0 := hz 0 (by omega)
  have z1 : g 1 = nI 0 := hz 1 (by omega)
  have z2 : g 2 = nI 0 := hz 2 (by omega)
  have z3 : g 3 = nI 0 := hz 3 (by omega)
  have z4 : g 4 = nI 0 := hz 4 (by omega)
  have z5 : g 5 = nI 0 := hz 5 (by omega)
  have z6 : g 6 = nI 0 := hz 6 (by omega)
  have z7 : g 7 = nI 0 := hz 7 (by omega)
  refine ⟨⟨fun h => absurd h (by omega), fun _ => ⟨?_, ?_, ?_, fun hk => ?_, rfl, ?_, ?_⟩⟩, fun q hq => ?_, ?_⟩
  · show sm 8 = g 8
    rw [c0]; simp only [z0, z1, z2, z3, z4, z5, z6, z7, addA, add_0, zero_a]
  · show sm 9 = g 9
    rw [c1]; simp only [z0, z1, z2, z3, z4, z5, z6, z7, addA, add_0, zero_a]
  · show sm 10 = g 10 + nI 0
    rw [c2]; simp only [z0, z1, z2, z3, z4, z5, z6, z7, addA, add_0, zero_a]
  · show sm 11 = g 11
    rw [c3]; simp only [z0, z1, z2, z3, z4, z5, z6, z7, addA, add_0, zero_a]
  · exact ⟨fun _ => by omega, fun _ => rfl⟩
  · exact ⟨fun e => absurd e hv0, fun h => absurd h (by omega)⟩
  · rcases (by omega : q = 0 ∨ q = 1 ∨ q = 2 ∨ q = 3) with rfl | rfl | rfl | rfl
    · show sm 0 = g 0 ∧ sm 4 = g 4 + g 0 ∧ nI 0 = nI 0 + g 4 + g 0 ∧ sm 12 = (g 12 + sm 8) + nI 0 + g 4 + g 0
      refine ⟨?_, ?_, ?_, ?_⟩
      · simp only [a0, z0, z1, z2, z3, z4, z5, z6, z7, addA, add_0, zero_a]
      · simp only [b0, z0, z1, z2, z3, z4, z5, z6, z7, addA, add_0, zero_a]
      · simp only [z0, z1, z2, z3, z4, z5, z6, z7, addA, add_0, zero_a]
      · simp only [d0, c0, z0, z1, z2, z3, z4, z5, z6, z7, addA, add_0, zero_a]
    · show sm 1 = g 1 ∧ sm 5 = g 5 + g 1 ∧ nI 0 = nI 0 + g 5 + g 1 ∧ sm 13 = (g 13 + sm 9) + nI 0 + g 5 + g 1
      refine ⟨?_, ?_, ?_, ?_⟩
      · simp only [a1, z0, z1, z2, z3, z4, z5, z6, z7, addA, add_0, zero_a]
      · simp only [b1, z0, z1, z2, z3, z4, z5, z6, z7, addA, add_0, zero_a]
      · simp only [z0, z1, z2, z3, z4, z5, z6, z7, addA, add_0, zero_a]
      · simp only [d1, c1, z0, z1, z2, z3, z4, z5, z6, z7, addA, add_0, zero_a]
    · show sm 2 = g 2 ∧ sm 6 = g 6 + g 2 ∧ nI 0 = nI 0 + g 6 + g 2 ∧ sm 14 = (g 14 + sm 10) + nI 0 + g 6 + g 2
      refine ⟨?_, ?_, ?_, ?_⟩
      · simp only [a2, z0, z1, z2, z3, z4, z5, z6, z7, addA, add_0, zero_a]
      · simp only [b2, z0, z1, z2, z3, z4, z5, z6, z7, addA, add_0, zero_a]
      · simp only [z0, z1, z2, z3, z4, z5, z6, z7, addA, add_0, zero_a]
      · simp only [d2, c2, z0, z1, z2, z3, z4, z5, z6, z7, addA, add_0, zero_a]
    · show sm 3 = g 3 ∧ sm 7 = g 7 + g 3 ∧ nI 0 = nI 0 + g 7 + g 3 ∧ sm 15 = (g 15 + sm 11) + nI 0 + g 7 + g 3
      refine ⟨?_, ?_, ?_, ?_⟩
      · simp only [a3, z0, z1, z2, z3, z4, z5, z6, z7, addA, add_0, zero_a]
      · simp only [b3, z0, z1, z2, z3, z4, z5, z6, z7, addA, add_0, zero_a]
      · simp only [z0, z1, z2, z3, z4, z5, z6, z7, addA, add_0, zero_a]
      · simp only [d3, c3, z0, z1, z2, z3, z4, z5, z6, z7, addA, add_0, zero_a]
  · exact hr.2
theorem ChP.brk2 {num : Nat → Int32} {p : PS} {k : Nat} {v : Nat → Int32} {lim : Int32} (a : ChP num p k 2) (hv0 : ¬ v 0 = (-1000009)) : ChP num (brk lim 2 v p) k 3 := by
  obtain ⟨kd, c, G, a1, a2, a3, a4⟩ := a
  obtain ⟨o1, o2⟩ := Rl.brk2 (v := v) (lim := lim) a3 (fun j hj => a4 j (by omega)) hv0
  refine ⟨_, _, _, ChI.put (q := 3) a1 (Nat.le_refl k) (by omega) rfl o1 (fun h => absurd h (by omega)), ?_, ?_, fun j hj => ?_⟩
  · show updN c (p.1 + 1) (c p.1 + 0) (p.1 + 1) = k
    rw [updN_s, a2]
    rfl
  · show Rl (va_up G (p.1 + 1) _ (p.1 + 1)) _
    rw [up_s]
    exact o2
  · show va_up G (p.1 + 1) _ (p.1 + 1) j = nI 0
    rw [up_s]
    unfold lwS
    rw [if_neg (by omega)]
    by_cases e : 4 * 3 ≤ j + 4 ∧ j < 4 * 3
    · rw [if_pos e]
    · rw [if_neg e]; exact a4 j (by omega)
theorem Rl.brk3 {g sm v : Nat → Int32} {lim : Int32} (hr : Rl g sm) (hz : ∀ j, j < 12 → g j = nI 0) : okL 4 (lineV 4 v (brkA lim 3 v sm 12) (brkA lim 3 v sm 13) (brkA lim 3 v sm 14) (brkA lim 3 v sm 15) (-1000009)) g ∧ Rl (lwS 4 (lineV 4 v (brkA lim 3 v sm 12) (brkA lim 3 v sm 13) (brkA lim 3 v sm 14) (brkA lim 3 v sm 15) (-1000009)) g) (fun j => if j / 4 = 3 then nI 0 else brkA lim 3 v sm j) := by
  have a0 : sm 0 = g 0 := (hr.1 0 (by omega)).1
  have b0 : sm 4 = g 4 + g 0 := (hr.1 0 (by omega)).2.1
  have c0 : sm 8 = g 8 + g 4 + g 0 := (hr.1 0 (by omega)).2.2.1
  have d0 : sm 12 = g 12 + g 8 + g 4 + g 0 := (hr.1 0 (by omega)).2.2.2
  have a1 : sm 1 = g 1 := (hr.1 1 (by omega)).1
  have b1 : sm 5 = g 5 + g 1 := (hr.1 1 (by omega)).2.1
  have c1 : sm 9 = g 9 + g 5 + g 1 := (hr.1 1 (by omega)).2.2.1
  have d1 : sm 13 = g 13 + g 9 + g 5 + g 1 := (hr.1 1 (by omega)).2.2.2
  have a2 : sm 2 = g 2 := (hr.1 2 (by omega)).1
  have b2 : sm 6 = g 6 + g 2 := (hr.1 2 (by omega)).2.1
  have c2 : sm 10 = g 10 + g 6 + g 2 := (hr.1 2 (by omega)).2.2.1
  have d2 : sm 14 = g 14 + g 10 + g 6 + g 2 := (hr.1 2 (by omega)).2.2.2
  have a3 : sm 3 = g 3 := (hr.1 3 (by omega)).1
  have b3 : sm 7 = g 7 + g 3 := (hr.1 3 (by omega)).2.1
  have c3 : sm 11 = g 11 + g 7 + g 3 := (hr.1 3 (by omega)).2.2.1
  have d3 : sm 15 = g 15 + g 11 + g 7 + g 3 := (hr.1 3 (by omega)).2.2.2
  have z0 : g 0 = nI 0 := hz 0 (by omega)
  have z1 : g 1 = nI 0 := hz 1 (by omega)
  have z2 : g 2 = nI 0 := hz 2 (by omega)
  have z3 : g 3 = nI 0 := hz 3 (by omega)
  have z4 : g 4 = nI 0 := hz 4 (by omega)
  have z5 : g 5 = nI 0 := hz 5 (by omega)
  have z6 : g 6 = nI 0 := hz 6 (by omega)
  have z7 : g 7 = nI 0 := hz 7 (by omega)
  have z8 : g 8 = nI 0 := hz 8 (by omega)
  have z9 : g 9 = nI 0 := hz 9 (by omega)
  have z10 : g 10 = nI 0 := hz 10 (by omega)
  have z11 : g 11 = nI 0 := hz 11 (by omega)
  refine ⟨⟨fun h => absurd h (by omega), fun _ => ⟨?_, ?_, ?_, fun hk => ?_, rfl, ?_, ?_⟩⟩, fun q hq => ?_, ?_⟩
  · show sm 12 = g 12
    rw [d0]; simp only [z0, z1, z2, z3, z4, z5, z6, z7, z8, z9, z10, z11, addA, add_0, zero_a]
  · show sm 13 = g 13
    rw [d1]; simp only [z0, z1, z2, z3, z4, z5, z6, z7, z8, z9, z10, z11, addA, add_0, zero_a]
  · show sm 14 = g 14 + nI 0
    rw [d2]; simp only [z0, z1, z2, z3, z4, z5, z6, z7, z8, z9, z10, z11, addA, add_0, zero_a]
  · show sm 15 = g 15
    rw [d3]; simp only [z0, z1, z2, z3, z4, z5, z6, z7, z8, z9, z10, z11, addA, add_0, zero_a]
  · exact ⟨fun _ => by omega, fun _ => rfl⟩
  · exact ⟨fun _ => by omega, fun _ => rfl⟩
  · rcases (by omega : q = 0 ∨ q = 1 ∨ q = 2 ∨ q = 3) with rfl | rfl | rfl | rfl
    · show sm 0 = g 0 ∧ sm 4 = g 4 + g 0 ∧ sm 8 = g 8 + g 4 + g 0 ∧ nI 0 = nI 0 + g 8 + g 4 + g 0
      refine ⟨?_, ?_, ?_, ?_⟩
      · simp only [a0, z0, z1, z2, z3, z4, z5, z6, z7, z8, z9, z10, z11, addA, add_0, zero_a]
      · simp only [b0, z0, z1, z2, z3, z4, z5, z6, z7, z8, z9, z10, z11, addA, add_0, zero_a]
      · simp only [c0, z0, z1, z2, z3, z4, z5, z6, z7, z8, z9, z10, z11, addA, add_0, zero_a]
      · simp only [z0, z1, z2, z3, z4, z5, z6, z7, z8, z9, z10, z11, addA, add_0, zero_a]
    · show sm 1 = g 1 ∧ sm 5 = g 5 + g 1 ∧ sm 9 = g 9 + g 5 + g 1 ∧ nI 0 = nI 0 + g 9 + g 5 + g 1
      refine ⟨?_, ?_, ?_, ?_⟩
      · simp only [a1, z0, z1, z2, z3, z4, z5, z6, z7, z8, z9, z10, z11, addA, add_0, zero_a]
      · simp only [b1, z0, z1, z2, z3, z4, z5, z6, z7, z8, z9, z10, z11, addA, add_0, zero_a]
      · simp only [c1, z0, z1, z2, z3, z4, z5, z6, z7, z8, z9, z10, z11, addA, add_0, zero_a]
      · simp only [z0, z1, z2, z3, z4, z5, z6, z7, z8, z9, z10, z11, addA, add_0, zero_a]
    · show sm 2 = g 2 ∧ sm 6 = g 6 + g 2 ∧ sm 10 = g 10 + g 6 + g 2 ∧ nI 0 = nI 0 + g 10 + g 6 + g 2
      refine ⟨?_, ?_, ?_, ?_⟩
      · simp only [a2, z0, z1, z2, z3, z4, z5, z6, z7, z8, z9, z10, z11, addA, add_0, zero_a]
      · simp only [b2, z0, z1, z2, z3, z4, z5, z6, z7, z8, z9, z10, z11, addA, add_0, zero_a]
      · simp only [c2, z0, z1, z2, z3, z4, z5, z6, z7, z8, z9, z10, z11, addA, add_0, zero_a]
      · simp only [z0, z1, z2, z3, z4, z5, z6, z7, z8, z9, z10, z11, addA, add_0, zero_a]
    · show sm 3 = g 3 ∧ sm 7 = g 7 + g 3 ∧ sm 11 = g 11 + g 7 + g 3 ∧ nI 0 = nI 0 + g 11 + g 7 + g 3
      refine ⟨?_, ?_, ?_, ?_⟩
      · simp only [a3, z0, z1, z2, z3, z4, z5, z6, z7, z8, z9, z10, z11, addA, add_0, zero_a]
      · simp only [b3, z0, z1, z2, z3, z4, z5, z6, z7, z8, z9, z10, z11, addA, add_0, zero_a]
      · simp only [c3, z0, z1, z2, z3, z4, z5, z6, z7, z8, z9, z10, z11, addA, add_0, zero_a]
      · simp only [z0, z1, z2, z3, z4, z5, z6, z7, z8, z9, z10, z11, addA, add_0, zero_a]
  · exact hr.2
theorem ChP.brk3 {num : Nat → Int32} {p : PS} {k : Nat} {v : Nat → Int32} {lim : Int32} (a : ChP num p k 3) : ChP num (brk lim 3 v p) k 4 := by
  obtain ⟨kd, c, G, a1, a2, a3, a4⟩ := a
  obtain ⟨o1, o2⟩ := Rl.brk3 (v := v) (lim := lim) a3 (fun j hj => a4 j (by omega))
  refine ⟨_, _, _, ChI.put (q := 4) a1 (Nat.le_refl k) (by omega) rfl o1 (fun h => absurd h (by omega)), ?_, ?_, fun j hj => ?_⟩
  · show updN c (p.1 + 1) (c p.1 + 0) (p.1 + 1) = k
    rw [updN_s, a2]
    rfl
  · show Rl (va_up G (p.1 + 1) _ (p.1 + 1)) _
    rw [up_s]
    exact o2
  · show va_up G (p.1 + 1) _ (p.1 + 1) j = nI 0
    rw [up_s]
    unfold lwS
    rw [if_neg (by omega)]
    by_cases e : 4 * 4 ≤ j + 4 ∧ j < 4 * 4
    · rw [if_pos e]
    · rw [if_neg e]; exact a4 j (by omega)
theorem ChP.brks {num : Nat → Int32} {p : PS} {k : Nat} {v : Nat → Int32} {lim : Int32} (a : ChP num p k 0) (hv : ∀ f, f < 3 → ¬ v f = (-1000009)) : ∀ n, n ≤ 3 → ChP num (brks lim v n p) k n
  | 0, _ => a
  | 1, _ => (ChP.brks a hv 0 (by omega)).brk0 (hv 0 (by omega)) (hv 2 (by omega))
  | 2, _ => (ChP.brks a hv 1 (by omega)).brk1 (hv 0 (by omega))
  | 3, _ => (ChP.brks a hv 2 (by omega)).brk2 (hv 0 (by omega))
  | n + 4, h => absurd h (by omega)
theorem ChP_ptS {lim : Int32} {acc : Nat → Nat → Int32} {num : Nat → Int32} {m : Nat} (hv : ∀ k, k < m → ∀ f, f < 3 → ¬ acc k f = (-1000009)) : ∀ k, k ≤ m → ChP num (ptS lim acc num k) k 0
  | 0, _ => ChP.ze.le (by omega)
  | k + 1, h => by
    have ih := ChP_ptS (lim := lim) (num := num) hv k (by omega)
    show ChP num (cardL (acc k) (num k) (ptB lim acc k (ptS lim acc num k))) (k + 1) 0
    have b : ChP num (ptB lim acc k (ptS lim acc num k)) k 0 := by
      unfold ptB
      by_cases e : k = 0
      · rw [if_pos e]; exact ih
      · rw [if_neg e]; exact (ih.brks (hv (k - 1) (by omega)) _ (lvN_le _ _)).le (Nat.zero_le _)
    exact b.card
theorem ChP_ptE {lim : Int32} {acc : Nat → Nat → Int32} {num : Nat → Int32} {m : Nat} (hv : ∀ k, k < m → ∀ f, f < 3 → ¬ acc k f = (-1000009)) : ChP num (ptE lim acc num m) m 4 := by
  unfold ptE
  by_cases e : m = 0
  · subst e
    rw [if_pos rfl]
    exact (ChP.brk3 (v := acc 0) (lim := lim) (ChP.ze.le (by omega)))
  · rw [if_neg e]
    exact ((ChP_ptS hv m (Nat.le_refl m)).brks (hv (m - 1) (by omega)) 3 (Nat.le_refl 3)).brk3
theorem ptE_last {lim : Int32} {acc : Nat → Nat → Int32} {num : Nat → Int32} {m : Nat} : ∃ q, (ptE lim acc num m).1 = q + 1 ∧ (ptE lim acc num m).2.1 q 0 = nI 4 := by
  unfold ptE
  generalize (if m = 0 then ptS lim acc num m else brks lim (acc (m - 1)) 3 (ptS lim acc num m)) = p
  exact ⟨p.1, rfl, if_pos rfl⟩
/-- what the law's check of a report finds -/
def RpA (U : Nat → Int32) (N m : Nat) (kd c : Nat → Nat) (G : Nat → Nat → Int32) : Prop := ((∀ j, G 0 j = nI 0) ∧ c 0 = 0 ∧ c (N + 1) = m ∧ U (1305 + 9 * N) = nI 4 ∧ ∀ j, j < 16 → G (N + 1) j = nI 0) ∧ ∀ i, i < N + 1 → kd i ≤ 4 ∧ U (1305 + 9 * i) = nI (kd i) ∧ okL (kd i) (fun j => U (1305 + 9 * i + j)) (G i) ∧ (∀ j, G (i + 1) j = lwS (kd i) (fun j => U (1305 + 9 * i + j)) (G i) j) ∧ c (i + 1) = c i + (if kd i = 0 then 1 else 0) ∧ (kd i = 0 → ∃ t, t < kU U ∧ U (1305 + 9 * i + 8) = nI t ∧ U (1063 + t) = nI 0)
theorem rep_all {U : Nat → Int32} (k : OKU U) (h0 : ¬ lU U = 0) : ∃ N kd c G, lU U = N + 1 ∧ N < 161 ∧ U 1304 = nI (N + 1) ∧ U 1103 = nI (mU U) ∧ mU U ≤ 40 ∧ RpA U N (mU U) kd c G := by
  obtain ⟨⟨-, m0, rep⟩, -, r⟩ := k
  rcases r with r | ⟨m, n1, lim, acc, num, ⟨a1, a2, a3⟩, ⟨b1, b2, b3⟩, c1, c2, c3, c4⟩
  · exact absurd (by unfold lU; rw [r]; rfl) h0
  · have em : mU U = m := by unfold mU; rw [b3, cl_nI (by omega)]
    have em0 : m0 = m := (nI_eq (by have := rep.2.1; omega) (by omega)).mp (rep.1.symm.trans b3)
    have ek : kU U = n1 := by unfold kU; rw [b2, cl_nI (by omega)]
    have h161 := ptE_le (lim := nI lim) (acc := acc) (num := num) a1
    obtain ⟨N, q1, q2⟩ := ptE_last (lim := nI lim) (acc := acc) (num := num) (m := m)
    have hv : ∀ k, k < m → ∀ f, f < 3 → ¬ acc k f = (-1000009) := by
      intro k hk f hf
      obtain ⟨u, u1, u2⟩ := rep.2.2.1 k (by omega) f (by omega)
      rw [← c1 k hk f (by omega), u2]
      exact nI_noN (by omega)
    obtain ⟨kd, c, G, ⟨g1, g2, g3⟩, g4, g5, g6⟩ := ChP_ptE (lim := nI lim) (num := num) hv
    rw [q1] at c3 c4 g3 g4 g5 g6 h161
    have el : lU U = N + 1 := by unfold lU; rw [c3, cl_nI (by omega)]
    rw [em]
    refine ⟨N, kd, c, G, el, by omega, c3, b3, a1, ⟨g1, g2, g4, ?_, fun j hj => g6 j (by omega)⟩, fun i hi => ?_⟩
    · have := c4 N (by omega) 0 (by omega)
      rw [Nat.add_zero] at this
      rw [this, q2]
    · obtain ⟨d1, d2, d3, d4, d5, d6⟩ := g3 i hi
      have cc := c4 i hi
      refine ⟨d1, ?_, d3.cg (fun j hj => cc j hj), fun j => by rw [d4]; exact (lwS_cg (fun j hj => cc j hj) j).symm, d5, fun h => ?_⟩
      · have := cc 0 (by omega)
        rw [Nat.add_zero] at this
        rw [this, d2]
      · obtain ⟨q, e1, e2⟩ := d6 h
        obtain ⟨t, t1, t2, t3⟩ := c2 q e1
        exact ⟨t, by rw [ek]; exact t1, by rw [cc 8 (by omega), e2, t2], t3⟩
end REP
