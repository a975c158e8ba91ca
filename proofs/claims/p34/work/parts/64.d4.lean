section CD4
variable {sA : Nat} {h : Nat → Option am_C} {z : Nat × Nat} {Q : Option Value → am_H → Prop}
/-- the sum over the first n -/
def sT (g : Nat → Int32) : Nat → Int32
  | 0 => nI 0
  | n + 1 => sT g n + g n
theorem sT_s (g : Nat → Int32) (n : Nat) : sT g (n + 1) = sT g n + g n := rfl
theorem sT_congr {g g' : Nat → Int32} : ∀ {n : Nat}, (∀ k, k < n → g k = g' k) → sT g n = sT g' n
  | 0, _ => rfl
  | n + 1, h => by
    rw [sT_s, sT_s, sT_congr (fun k hk => h k (by omega)), h n (by omega)]
theorem add_0 (x : Int32) : x + nI 0 = x := Int32.add_zero x
theorem zero_a (x : Int32) : nI 0 + x = x := Int32.zero_add x
theorem sK_T (b : Nat → Bool) (g : Nat → Int32) : ∀ n, sK b g n = sT (fun k => if b k = true then g k else nI 0) n
  | 0 => rfl
  | n + 1 => by
    rw [sK_s, sT_s, sK_T b g n]
    by_cases e : b n = true
    · rw [if_pos e, if_pos e]
    · rw [if_neg e, if_neg e, add_0]
theorem sK_tail {b : Nat → Bool} {g : Nat → Int32} {m : Nat} : ∀ {n : Nat}, m ≤ n → (∀ k, m ≤ k → k < n → ¬ b k = true) → sK b g n = sK b g m
  | 0, h, _ => by
    obtain rfl : m = 0 := by omega
    rfl
  | n + 1, h, hb => by
    by_cases e : m = n + 1
    · subst e; rfl
    · rw [sK_s, if_neg (hb n (by omega) (by omega))]
      exact sK_tail (by omega) (fun k k1 k2 => hb k k1 (by omega))
theorem sK_congrB {b b' : Nat → Bool} {g : Nat → Int32} : ∀ {n : Nat}, (∀ k, k < n → (b k = true ↔ b' k = true)) → sK b g n = sK b' g n
  | 0, _ => rfl
  | n + 1, h => by
    rw [sK_s, sK_s, sK_congrB (fun k hk => h k (by omega))]
    by_cases e : b n = true
    · rw [if_pos e, if_pos ((h n (by omega)).mp e)]
    · rw [if_neg e, if_neg (fun q => e ((h n (by omega)).mpr q))]
theorem sT_one {f f' : Nat → Int32} {j : Nat} : ∀ {n : Nat}, j < n → (∀ i, i < n → ¬ i = j → f i = f' i) → f' j = nI 0 → sT f n = sT f' n + f j
  | 0, h, _, _ => absurd h (Nat.not_lt_zero _)
  | n + 1, h, hf, h0 => by
    rw [sT_s, sT_s]
    by_cases e : j = n
    · subst e
      rw [h0, add_0, sT_congr (fun k hk => hf k (by omega) (by omega))]
    · rw [sT_one (n := n) (by omega) (fun i hi => hf i (by omega)) h0, hf n (by omega) (fun q => e q.symm), Int32.add_assoc, Int32.add_comm (f j), ← Int32.add_assoc]
theorem alB_t {acc : Nat → Nat → Int32} {i j : Nat} : alB acc i j = true ↔ (acc i 0 = acc j 0 ∧ acc i 1 = acc j 1 ∧ acc i 2 = acc j 2) := decide_eq_true_iff
theorem alB_rf {acc : Nat → Nat → Int32} {i : Nat} : alB acc i i = true := alB_t.mpr ⟨rfl, rfl, rfl⟩
theorem alB_sy {acc : Nat → Nat → Int32} {i j : Nat} (h : alB acc i j = true) : alB acc j i = true := by
  obtain ⟨a, b, c⟩ := alB_t.mp h
  exact alB_t.mpr ⟨a.symm, b.symm, c.symm⟩
theorem alB_tr {acc : Nat → Nat → Int32} {i j k : Nat} (h : alB acc i j = true) (h2 : alB acc j k = true) : alB acc i k = true := by
  obtain ⟨a, b, c⟩ := alB_t.mp h
  obtain ⟨a2, b2, c2⟩ := alB_t.mp h2
  exact alB_t.mpr ⟨a.trans a2, b.trans b2, c.trans c2⟩
theorem laN_t {acc : Nat → Nat → Int32} {k : Nat} : ∀ {n i : Nat}, laN acc k n i = true ↔ ∀ j, i ≤ j → j < i + n → ¬ alB acc k j = true
  | 0, i => ⟨fun _ j h1 h2 => absurd h2 (by omega), fun _ => rfl⟩
  | n + 1, i => by
    unfold laN
    by_cases e : alB acc k i = true
    · rw [if_pos e]
      exact ⟨fun q => absurd q (by decide), fun q => absurd e (q i (Nat.le_refl i) (by omega))⟩
    · rw [if_neg e, laN_t (n := n) (i := i + 1)]
      refine ⟨fun q j h1 h2 => ?_, fun q j h1 h2 => q j (by omega) (by omega)⟩
      by_cases c : j = i
      · subst c; exact e
      · exact q j (by omega) (by omega)
theorem lastB_t {acc : Nat → Nat → Int32} {m k : Nat} : lastB acc m k = true ↔ ∀ j, k < j → j < m → ¬ alB acc k j = true := by
  unfold lastB
  rw [laN_t]
  exact ⟨fun q j h1 h2 => q j (by omega) (by omega), fun q j h1 h2 => q j (by omega) (by omega)⟩
/-- c keys of the first t accepted cards: the last card of each -/
def KeyI (acc : Nat → Nat → Int32) (t c : Nat) (la : Nat → Nat) : Prop := (∀ j, j < c → la j < t) ∧ (∀ i j, i < c → j < c → alB acc (la i) (la j) = true → i = j) ∧ (∀ k, k < t → ∃ j, j < c ∧ alB acc k (la j) = true ∧ k ≤ la j) ∧ ∀ g : Nat → Int32, sT (fun j => g (la j)) c = sT (fun k => if lastB acc t k = true then g k else nI 0) t
theorem KeyI.ze {acc : Nat → Nat → Int32} {la : Nat → Nat} : KeyI acc 0 0 la := ⟨fun j hj => absurd hj (Nat.not_lt_zero _), fun i j hi => absurd hi (Nat.not_lt_zero _), fun k hk => absurd hk (Nat.not_lt_zero _), fun _ => rfl⟩
theorem last_sum {acc : Nat → Nat → Int32} {t : Nat} (g : Nat → Int32) : sT (fun k => if lastB acc (t + 1) k = true then g k else nI 0) (t + 1) = sT (fun k => if lastB acc t k = true then (if alB acc k t = true then nI 0 else g k) else nI 0) t + g t := by
  rw [sT_s, if_pos (lastB_t.mpr (fun j h1 h2 => absurd h2 (by omega)))]
  congr 1
  refine sT_congr (fun k hk => ?_)
  by_cases e : alB acc k t = true
  · rw [if_neg (fun q => (lastB_t.mp q) t hk (by omega) e), if_pos e]
    split <;> rfl
  · rw [if_neg e]
    by_cases c : lastB acc t k = true
    · rw [if_pos c, if_pos (lastB_t.mpr (fun j h1 h2 => by
        by_cases q : j = t
        · subst q; exact e
        · exact (lastB_t.mp c) j h1 (by omega)))]
    · rw [if_neg c, if_neg (fun q => c (lastB_t.mpr (fun j h1 h2 => (lastB_t.mp q) j h1 (by omega))))]
theorem updN_s {f : Nat → Nat} {k x : Nat} : updN f k x k = x := if_pos rfl
theorem updN_n {f : Nat → Nat} {k x j : Nat} (h : ¬ j = k) : updN f k x j = f j := if_neg h
theorem KeyI.found {acc : Nat → Nat → Int32} {t c j : Nat} {la : Nat → Nat} (a : KeyI acc t c la) (hj : j < c) (ha : alB acc (la j) t = true) : KeyI acc (t + 1) c (updN la j t) := by
  obtain ⟨a1, a2, a3, a4⟩ := a
  have key : ∀ i, i < c → ¬ i = j → ¬ alB acc (la i) t = true := fun i hi e q => e (a2 i j hi hj (alB_tr q (alB_sy ha)))
  refine ⟨fun i hi => ?_, fun i i' hi hi' h => ?_, fun k hk => ?_, fun g => ?_⟩
  · by_cases e : i = j
    · subst e; rw [updN_s]; omega
    · rw [updN_n e]; have := a1 i hi; omega
  · by_cases e : i = j
    · by_cases e' : i' = j
      · omega
      · subst e
        rw [updN_s, updN_n e'] at h
        exact absurd (alB_sy h) (key i' hi' e')
    · by_cases e' : i' = j
      · subst e'
        rw [updN_s, updN_n e] at h
        exact absurd h (key i hi e)
      · rw [updN_n e, updN_n e'] at h
        exact a2 i i' hi hi' h
  · by_cases e : alB acc k t = true
    · exact ⟨j, hj, by rw [updN_s]; exact e, by rw [updN_s]; omega⟩
    · by_cases q : k = t
      · subst q; exact absurd alB_rf e
      · obtain ⟨i, i1, i2, i3⟩ := a3 k (by omega)
        have : ¬ i = j := by
          intro q2
          subst q2
          exact e (alB_tr i2 ha)
        exact ⟨i, i1, by rw [updN_n this]; exact i2, by rw [updN_n this]; exact i3⟩
  · rw [last_sum g, ← a4 (fun k => if alB acc k t = true then nI 0 else g k)]
    have e := sT_one (f := fun i => g (updN la j t i)) (f' := fun i => if alB acc (la i) t = true then nI 0 else g (la i)) hj (fun i hi e => by
      show g (updN la j t i) = if alB acc (la i) t = true then nI 0 else g (la i)
      rw [updN_n e, if_neg (key i hi e)]) (if_pos ha)
    rw [e]
    show _ + g (updN la j t j) = _
    rw [updN_s]
theorem KeyI.fresh {acc : Nat → Nat → Int32} {t c : Nat} {la : Nat → Nat} (a : KeyI acc t c la) (hn : ∀ j, j < c → ¬ alB acc (la j) t = true) : KeyI acc (t + 1) (c + 1) (updN la c t) := by
  obtain ⟨a1, a2, a3, a4⟩ := a
  refine ⟨fun i hi => ?_, fun i i' hi hi' h => ?_, fun k hk => ?_, fun g => ?_⟩
  · by_cases e : i = c
    · subst e; rw [updN_s]; omega
    · rw [updN_n e]; have := a1 i (by omega); omega
  · by_cases e : i = c
    · by_cases e' : i' = c
      · omega
      · subst e
        rw [updN_s, updN_n e'] at h
        exact absurd (alB_sy h) (hn i' (by omega))
    · by_cases e' : i' = c
      · subst e'
        rw [updN_s, updN_n e] at h
        exact absurd h (hn i (by omega))
      · rw [updN_n e, updN_n e'] at h
        exact a2 i i' (by omega) (by omega) h
  · by_cases q : k = t
    · subst q
      exact ⟨c, by omega, by rw [updN_s]; exact alB_rf, by rw [updN_s]; omega⟩
    · obtain ⟨i, i1, i2, i3⟩ := a3 k (by omega)
      exact ⟨i, by omega, by rw [updN_n (by omega)]; exact i2, by rw [updN_n (by omega)]; exact i3⟩
  · rw [last_sum g, ← a4 (fun k => if alB acc k t = true then nI 0 else g k), sT_s, updN_s]
    congr 1
    refine sT_congr (fun i hi => ?_)
    rw [updN_n (by omega), if_neg (hn i hi)]
def swI (q i : Nat) : Nat := if i = q then q + 1 else if i = q + 1 then q else i
theorem swI_l {q : Nat} : swI q q = q + 1 := if_pos rfl
theorem swI_r {q : Nat} : swI q (q + 1) = q := by unfold swI; rw [if_neg (by omega), if_pos rfl]
theorem swI_o {q i : Nat} (h : ¬ i = q) (h2 : ¬ i = q + 1) : swI q i = i := by unfold swI; rw [if_neg h, if_neg h2]
theorem swI_lt {q i n : Nat} (hq : q + 1 < n) (hi : i < n) : swI q i < n := by unfold swI; split <;> (try split) <;> omega
theorem swI_inj {q i j : Nat} (h : swI q i = swI q j) : i = j := by unfold swI at h; (repeat' split at h) <;> omega
theorem swI_sw {q i : Nat} : swI q (swI q i) = i := by unfold swI; (repeat' split) <;> omega
theorem sT_swap {f : Nat → Int32} {q : Nat} : ∀ {n : Nat}, q + 1 < n → sT (fun i => f (swI q i)) n = sT f n
  | 0, h => absurd h (Nat.not_lt_zero _)
  | n + 1, h => by
    by_cases e : n = q + 1
    · subst e
      rw [sT_s, sT_s, sT_s, sT_s, swI_l, swI_r, sT_congr (n := q) (g' := f) (fun i hi => by rw [swI_o (by omega) (by omega)]), Int32.add_assoc, Int32.add_comm (f (q + 1)), ← Int32.add_assoc]
    · rw [sT_s, sT_s, sT_swap (n := n) (by omega), swI_o (by omega) (by omega)]
theorem KeyI.swap {acc : Nat → Nat → Int32} {t c q : Nat} {la : Nat → Nat} (a : KeyI acc t c la) (hq : q + 1 < c) : KeyI acc t c (fun i => la (swI q i)) := by
  obtain ⟨a1, a2, a3, a4⟩ := a
  refine ⟨fun i hi => a1 _ (swI_lt hq hi), fun i j hi hj h => swI_inj (a2 _ _ (swI_lt hq hi) (swI_lt hq hj) h), fun k hk => ?_, fun g => ?_⟩
  · obtain ⟨i, i1, i2, i3⟩ := a3 k hk
    exact ⟨swI q i, swI_lt hq i1, by show alB acc k (la (swI q (swI q i))) = true; rw [swI_sw]; exact i2, by show k ≤ la (swI q (swI q i)); rw [swI_sw]; exact i3⟩
  · rw [← a4 g]
    exact sT_swap (f := fun j => g (la j)) hq
theorem okS_found {acc : Nat → Nat → Int32} {t c j : Nat} {la : Nat → Nat} (a : KeyI acc t c la) (hj : j < c) (ha : alB acc (la j) t = true) (g : Nat → Int32) : okS acc t (t + 1) g = okS acc (la j) (la j + 1) g + g t := by
  obtain ⟨a1, a2, a3, a4⟩ := a
  unfold okS
  rw [sK_s, if_pos alB_rf]
  congr 1
  rw [sK_tail (m := la j + 1) (a1 j hj) (fun k k1 k2 q => ?_)]
  · exact sK_congrB (fun k _ => ⟨fun q => alB_tr q (alB_sy ha), fun q => alB_tr q ha⟩)
  · obtain ⟨i, i1, i2, i3⟩ := a3 k k2
    have : i = j := a2 i j i1 hj (alB_tr (alB_sy i2) (alB_tr q (alB_sy ha)))
    subst this
    omega
theorem okS_fresh {acc : Nat → Nat → Int32} {t c : Nat} {la : Nat → Nat} (a : KeyI acc t c la) (hn : ∀ j, j < c → ¬ alB acc (la j) t = true) (g : Nat → Int32) : okS acc t (t + 1) g = nI 0 + g t := by
  obtain ⟨a1, a2, a3, a4⟩ := a
  unfold okS
  rw [sK_s, if_pos alB_rf]
  congr 1
  rw [sK_tail (m := 0) (Nat.zero_le t) (fun k k1 k2 q => ?_)]
  · rfl
  · obtain ⟨i, i1, i2, i3⟩ := a3 k k2
    exact hn i i1 (alB_tr (alB_sy i2) q)
/-- the numbers of a card's slip -/
def slA (v : Nat → Int32) : Nat → Int32 := fun k => if k = 0 then v 0 else if k = 1 then v 1 else if k = 2 then v 2 else if k = 3 then v 4 else if k = 4 then nI 1 else if k = 5 then v 3 else if k = 6 then wag v else nI 0
def KeyT (acc : Nat → Nat → Int32) (c : Nat) (la : Nat → Nat) (V : Nat → Nat → Int32) : Prop := ∀ j, j < c → (∀ f, f < 3 → V j f = acc (la j) f) ∧ V j 3 = acc (la j) 4 ∧ V j 4 = okC acc (la j) (la j + 1) ∧ V j 5 = okH acc (la j) (la j + 1) ∧ V j 6 = okW acc (la j) (la j + 1) ∧ V j 7 = nI 0
theorem slA_f {v : Nat → Int32} {f : Nat} (h : f < 3) : slA v f = v f := by
  have cc : f = 0 ∨ f = 1 ∨ f = 2 := by omega
  rcases cc with rfl | rfl | rfl <;> rfl
theorem KeyT.put {acc : Nat → Nat → Int32} {c c2 t j : Nat} {la : Nat → Nat} {V V2 : Nat → Nat → Int32} {B : Nat → Int32} (b : KeyT acc c la V) (hv : V2 j = adT B (slA (acc t))) (ho : ∀ i, ¬ i = j → V2 i = V i) (hc : ∀ i, i < c2 → ¬ i = j → i < c) (h4 : okC acc t (t + 1) = B 4 + nI 1) (h5 : okH acc t (t + 1) = B 5 + acc t 3) (h6 : okW acc t (t + 1) = B 6 + wag (acc t)) (h7 : B 7 = nI 0) : KeyT acc c2 (updN la j t) V2 := by
  intro i hi
  by_cases e : i = j
  · subst e
    rw [hv, updN_s]
    refine ⟨fun f hf => ?_, rfl, h4.symm, h5.symm, h6.symm, h7⟩
    have cc : f = 0 ∨ f = 1 ∨ f = 2 := by omega
    rcases cc with rfl | rfl | rfl <;> rfl
  · rw [ho i e, updN_n e]
    exact b i (hc i hi e)
theorem KeyT.found {acc : Nat → Nat → Int32} {t c j : Nat} {la : Nat → Nat} {V : Nat → Nat → Int32} (a : KeyI acc t c la) (b : KeyT acc c la V) (hj : j < c) (ha : alB acc (la j) t = true) : KeyT acc c (updN la j t) (fun i => if i = j then adT (V j) (slA (acc t)) else V i) := by
  obtain ⟨b1, b2, b3, b4, b5, b6⟩ := b j hj
  refine b.put (if_pos rfl) (fun i e => if_neg e) (fun i hi _ => hi) ?_ ?_ ?_ b6
  · rw [b3]; exact okS_found a hj ha _
  · rw [b4]; exact okS_found a hj ha _
  · rw [b5]; exact okS_found a hj ha _
theorem KeyT.fresh {acc : Nat → Nat → Int32} {t c : Nat} {la : Nat → Nat} {V : Nat → Nat → Int32} (a : KeyI acc t c la) (b : KeyT acc c la V) (hn : ∀ j, j < c → ¬ alB acc (la j) t = true) : KeyT acc (c + 1) (updN la c t) (fun i => if i = c then adT (fun _ => nI 0) (slA (acc t)) else V i) :=
  b.put (B := fun _ => nI 0) (if_pos rfl) (fun i e => if_neg e) (fun i hi e => by omega) (okS_fresh a hn _) (okS_fresh a hn _) (okS_fresh a hn _) rfl
def KeyO (lim : Int32) (acc : Nat → Nat → Int32) (c : Nat) (la : Nat → Nat) (V : Nat → Nat → Int32) : Prop := ∀ j, j < c → (∀ f, f < 3 → V j f = acc (la j) f) ∧ ∀ x, x < 4 → V j (4 + x) = okR lim acc (la j) (la j + 1) x
theorem KeyT.over {lim : Int32} {acc : Nat → Nat → Int32} {la : Nat → Nat} {v : Nat → Int32} {j : Nat} (b : (∀ f, f < 3 → v f = acc (la j) f) ∧ v 3 = acc (la j) 4 ∧ v 4 = okC acc (la j) (la j + 1) ∧ v 5 = okH acc (la j) (la j + 1) ∧ v 6 = okW acc (la j) (la j + 1) ∧ v 7 = nI 0) : (∀ f, f < 3 → ovT (ovr (v 5) lim (v 3)) v f = acc (la j) f) ∧ ∀ x, x < 4 → ovT (ovr (v 5) lim (v 3)) v (4 + x) = okR lim acc (la j) (la j + 1) x := by
  obtain ⟨b1, b2, b3, b4, b5, b6⟩ := b
  refine ⟨fun f hf => by rw [ovT_n (by omega)]; exact b1 f hf, fun x hx => ?_⟩
  have em : ovr (v 5) lim (v 3) = okM lim acc (la j) (la j + 1) := by rw [b4, b2]; rfl
  rw [em]
  have cc : x = 0 ∨ x = 1 ∨ x = 2 ∨ x = 3 := by omega
  rcases cc with rfl | rfl | rfl | rfl
  · rw [ovT_n (by omega)]; exact b3
  · rw [ovT_n (by omega)]; exact b4
  · rw [ovT_6, b5]; rfl
  · rw [ovT_7, b6, zero_a]; rfl
theorem inR_T {lim : Int32} {acc : Nat → Nat → Int32} {m c what : Nat} {dep : Int32} {la : Nat → Nat} (a : KeyI acc m c la) : sT (fun j => if dep = (-1) ∨ acc (la j) 0 = dep then (if what = 4 then nI 1 else okR lim acc (la j) (la j + 1) what) else nI 0) c = inR lim acc m dep what m := by
  rw [a.2.2.2 (fun k => if dep = (-1) ∨ acc k 0 = dep then (if what = 4 then nI 1 else okR lim acc k (k + 1) what) else nI 0)]
  unfold inR
  rw [sK_T]
  refine sT_congr (fun k _ => ?_)
  show (if lastB acc m k = true then (if dep = (-1) ∨ acc k 0 = dep then _ else _) else _) = if (lastB acc m k && decide (dep = (-1) ∨ acc k 0 = dep)) = true then _ else _
  by_cases c1 : lastB acc m k = true
  · by_cases c2 : dep = (-1) ∨ acc k 0 = dep
    · rw [if_pos c1, if_pos c2, if_pos (show (lastB acc m k && decide (dep = (-1) ∨ acc k 0 = dep)) = true by rw [c1, decide_eq_true c2]; rfl)]
    · rw [if_pos c1, if_neg c2, if_neg (show ¬ (lastB acc m k && decide (dep = (-1) ∨ acc k 0 = dep)) = true by rw [c1, decide_eq_false c2]; decide)]
  · rw [if_neg c1, if_neg (show ¬ (lastB acc m k && decide (dep = (-1) ∨ acc k 0 = dep)) = true by intro q; rw [Bool.and_eq_true] at q; exact c1 q.1)]
end CD4
