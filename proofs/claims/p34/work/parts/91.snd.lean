/-! the second way is made of its parts (pure) -/
section SND
variable {acc : Nat → Nat → Int32}
def sN (f : Nat → Nat) : Nat → Nat
  | 0 => 0
  | n + 1 => sN f n + f n
theorem sN_le {f : Nat → Nat} {B : Nat} : ∀ {n : Nat}, (∀ k, k < n → f k ≤ B) → sN f n ≤ B * n
  | 0, _ => Nat.le_refl 0
  | n + 1, h => by
    have h1 := sN_le (n := n) (fun k hk => h k (by omega))
    have h2 := h n (by omega)
    show sN f n + f n ≤ B * (n + 1)
    rw [Nat.mul_succ]
    omega
theorem sN_mono {f g : Nat → Nat} : ∀ {n : Nat}, (∀ k, k < n → f k ≤ g k) → sN f n ≤ sN g n
  | 0, _ => Nat.le_refl 0
  | n + 1, h => Nat.add_le_add (sN_mono (fun k hk => h k (by omega))) (h n (by omega))
theorem sN_mul {f : Nat → Nat} {B : Nat} : ∀ n, sN (fun k => B * f k) n = B * sN f n
  | 0 => rfl
  | n + 1 => by
    show sN (fun k => B * f k) n + B * f n = B * (sN f n + f n)
    rw [sN_mul n, Nat.mul_add]
theorem sT_N {g : Nat → Int32} {f : Nat → Nat} : ∀ {n : Nat}, (∀ k, k < n → g k = nI (f k)) → sT g n = nI (sN f n)
  | 0, _ => rfl
  | n + 1, h => by
    rw [sT_s, sT_N (n := n) (fun k hk => h k (by omega)), h n (by omega), nI_add]
    rfl
theorem sT_add {f g : Nat → Int32} : ∀ n, sT (fun k => f k + g k) n = sT f n + sT g n
  | 0 => rfl
  | n + 1 => by
    rw [sT_s, sT_s, sT_s, sT_add n, Int32.add_assoc, Int32.add_assoc, ← Int32.add_assoc (sT g n), Int32.add_comm (sT g n), Int32.add_assoc]
theorem sK_N {b : Nat → Bool} {g : Nat → Int32} {B : Nat} : ∀ {n : Nat}, (∀ k, k < n → ∃ u, u ≤ B ∧ g k = nI u) → ∃ s, s ≤ B * n ∧ sK b g n = nI s
  | 0, _ => ⟨0, by omega, rfl⟩
  | n + 1, h => by
    obtain ⟨s, s1, s2⟩ := sK_N (b := b) (n := n) (fun k hk => h k (by omega))
    obtain ⟨u, u1, u2⟩ := h n (by omega)
    rw [sK_s, Nat.mul_succ]
    by_cases e : b n = true
    · rw [if_pos e, s2, u2, nI_add]; exact ⟨s + u, by omega, rfl⟩
    · rw [if_neg e, s2]; exact ⟨s, by omega, rfl⟩
/-- a row of numbers out of what holds of each place -/
theorem nI_nm1 {j : Nat} (h : j < 100000) : ¬ nI j = (-1) := by
  intro e
  have e := congrArg Int32.toInt e
  rw [nI_toInt (by omega), show (-1 : Int32).toInt = -1 from by decide] at e
  omega
/-- -/
theorem pickN {P : Nat → Nat → Prop} {n : Nat} (h : ∀ k, k < n → ∃ u, P k u) : ∃ f : Nat → Nat, ∀ k, k < n → P k (f k) := by
  have h2 : ∀ k, ∃ u, k < n → P k u := fun k => by
    by_cases e : k < n
    · obtain ⟨u, hu⟩ := h k e; exact ⟨u, fun _ => hu⟩
    · exact ⟨0, fun q => absurd q e⟩
  obtain ⟨f, hf⟩ := Classical.skolem.mp h2
  exact ⟨f, hf⟩
/-- the keys in some order; by them each card is reckoned once -/
theorem key_ex : ∀ t, ∃ c la, c ≤ t ∧ KeyI acc t c la ∧ ∀ g : Nat → Int32, sT (fun j => okS acc (la j) (la j + 1) g) c = sT g t
  | 0 => ⟨0, id, Nat.le_refl 0, KeyI.ze, fun _ => rfl⟩
  | t + 1 => by
    obtain ⟨c, la, h1, h2, h3⟩ := key_ex t
    by_cases hf : ∃ j, j < c ∧ alB acc (la j) t = true
    · obtain ⟨j, hj, ha⟩ := hf
      refine ⟨c, updN la j t, by omega, h2.found hj ha, fun g => ?_⟩
      have e1 := sT_one (f := fun i => okS acc (updN la j t i) (updN la j t i + 1) g) (f' := fun i => if i = j then nI 0 else okS acc (la i) (la i + 1) g) hj (fun i hi hne => by rw [updN_n hne, if_neg hne]) (if_pos rfl)
      have e2 := sT_one (f := fun i => okS acc (la i) (la i + 1) g) (f' := fun i => if i = j then nI 0 else okS acc (la i) (la i + 1) g) hj (fun i hi hne => by rw [if_neg hne]) (if_pos rfl)
      rw [e1, sT_s, ← h3 g, e2]
      rw [updN_s, okS_found h2 hj ha g, Int32.add_assoc]
    · have hn : ∀ j, j < c → ¬ alB acc (la j) t = true := fun j hj ha => hf ⟨j, hj, ha⟩
      refine ⟨c + 1, updN la c t, by omega, h2.fresh hn, fun g => ?_⟩
      rw [sT_s, sT_s, ← h3 g]
      rw [updN_s, okS_fresh h2 hn g, zero_a]
      congr 1
      exact sT_congr (fun k hk => by rw [updN_n (by omega)])
theorem bub {lim : Int32} {m c i : Nat} (hi : i < c) (hr : ∀ k, k < m → ∀ x, x < 3 → ∃ y, y < 10000 ∧ acc k x = nI y) : ∀ (j : Nat) (la : Nat → Nat), j ≤ i → KeyI acc m c la → (∀ a b, a < b → b < i + 1 → ¬ a = j → ¬ b = j → ahB lim acc (la a) (la b) = true) → (∀ b, j < b → b < i + 1 → ahB lim acc (la j) (la b) = true) → ∃ lb, KeyI acc m c lb ∧ Srt lim acc (i + 1) lb
  | 0, la, _, hk, h1, h2 => ⟨la, hk, fun a b ab hb => by
    by_cases e : a = 0
    · subst e; exact h2 b ab hb
    · exact h1 a b ab hb e (by omega)⟩
  | j + 1, la, hj, hk, h1, h2 => by
    by_cases ha : ahB lim acc (la j) (la (j + 1)) = true
    · refine ⟨la, hk, fun a b ab hb => ?_⟩
      by_cases e : a = j + 1
      · subst e; exact h2 b ab hb
      · by_cases e2 : b = j + 1
        · subst e2
          by_cases e3 : a = j
          · subst e3; exact ha
          · exact ahB_tr (h1 a j (by omega) (by omega) e (by omega)) ha
        · exact h1 a b ab hb e e2
    · have hd : ¬ alB acc (la j) (la (j + 1)) = true := fun q => by
        have := hk.2.1 j (j + 1) (by omega) (by omega) q
        omega
      have hab : ahB lim acc (la (j + 1)) (la j) = true := ahB_tot (hr _ (hk.1 j (by omega))) (hr _ (hk.1 (j + 1) (by omega))) hd ha
      refine bub hi hr j (fun i => la (swI j i)) (by omega) (hk.swap (by omega)) (fun a b ab hb na nb => ?_) (fun b jb hb => ?_)
      · by_cases e : a = j + 1
        · rw [e, swI_r, swI_o nb (by omega)]
          exact h1 j b (by omega) hb (by omega) (by omega)
        · by_cases e2 : b = j + 1
          · rw [e2, swI_r, swI_o na e]
            exact h1 a j (by omega) (by omega) e (by omega)
          · rw [swI_o na e, swI_o nb e2]
            exact h1 a b ab hb e e2
      · rw [swI_l]
        by_cases e2 : b = j + 1
        · rw [e2, swI_r]; exact hab
        · rw [swI_o (by omega) e2]
          exact h2 b (by omega) hb
theorem srt_xx {lim : Int32} {m c : Nat} {la : Nat → Nat} (hk : KeyI acc m c la) (hr : ∀ k, k < m → ∀ x, x < 3 → ∃ y, y < 10000 ∧ acc k x = nI y) : ∀ i, i ≤ c → ∃ lb, KeyI acc m c lb ∧ Srt lim acc i lb
  | 0, _ => ⟨la, hk, fun a b _ hb => absurd hb (Nat.not_lt_zero _)⟩
  | i + 1, hi => by
    obtain ⟨lb, h1, h2⟩ := srt_xx hk hr i (by omega)
    exact bub (i := i) (by omega) hr i lb (Nat.le_refl i) h1 (fun a b ab hb na nb => h2 a b ab (by omega)) (fun b jb hb => absurd hb (by omega))
theorem ovr_N {h l r : Nat} (hh : h ≤ 400000) (hl : l ≤ 9999) (hr : r < 10000) : ∃ u, u ≤ 500 * h ∧ ovr (nI h) (nI l) (nI r) = nI u := by
  unfold ovr
  by_cases e : nI l < nI h
  · rw [if_pos e]
    have e2 := (nI_ltI (by omega) (by omega)).mp e
    have hb : (h - l) * r ≤ h * 9999 := Nat.mul_le_mul (by omega) (by omega)
    refine ⟨(h - l) * r / 20, by omega, ?_⟩
    rw [pk_sub (by omega), nI_l (by omega), nI_l (by omega), lN_mul, show (20 : Int64) = lN 20 from rfl, pk_lDiv (by omega) (by omega) (by omega), lN_i]
  · rw [if_neg e]
    exact ⟨0, by omega, rfl⟩
theorem wag_N {v : Nat → Int32} (hv : ∀ f, f < 5 → ∃ u, u < 10000 ∧ v f = nI u) : ∃ u, u ≤ 10000000 ∧ wag v = nI u := by
  obtain ⟨a, a1, a2⟩ := hv 3 (by omega)
  obtain ⟨b, b1, b2⟩ := hv 4 (by omega)
  have hb : a * b ≤ 9999 * 9999 := Nat.mul_le_mul (by omega) (by omega)
  unfold wag
  rw [a2, b2, pk_mul, pk_div (by omega) (by omega) (by omega)]
  exact ⟨a * b / 10, by omega, rfl⟩
/-- what the law's check of the second way finds -/
def SnA (U : Nat → Int32) (c : Nat) (wj : Nat → Int32) (A : Nat → Nat) : Prop := (c ≤ 40 ∧ mU U ≤ 40) ∧ (∀ i, i < c → ¬ rkL (U 1061) (accU U) (mU U) (nI i) 0 (mU U) 0 = (-1000009) ∧ rkL (U 1061) (accU U) (mU U) (nI i) 3 (mU U) 0 = wj i) ∧ rkL (U 1061) (accU U) (mU U) (nI c) 0 (mU U) 0 = (-1000009) ∧ (∀ i, i + 1 < c → wj (i + 1) ≤ wj i) ∧ agN U (-1) 4 = nI c ∧ agN U (-1) 2 = sT wj c ∧ agN U (-1) 0 = nI (mU U) ∧ agN U (-1) 1 = sT (fun k => U (1104 + 5 * k + 3)) (mU U) ∧ agN U (-1) 3 ≤ agN U (-1) 2 ∧ A 0 = 0 ∧ (∀ D, A D ≤ mU U) ∧ ∀ D, D < 1000 → nI (A D) + agN U (nI D) 0 = nI (A (D + 1))
theorem inR_all {lim : Int32} {m c what : Nat} {la : Nat → Nat} (a : KeyI acc m c la) : inR lim acc m (-1) what m = sT (fun j => if what = 4 then nI 1 else okR lim acc (la j) (la j + 1) what) c := by
  rw [← inR_T a]
  exact sT_congr (fun k _ => if_pos (Or.inl rfl))
theorem inR_w {lim : Int32} {m c what : Nat} {la : Nat → Nat} (a : KeyI acc m c la) (h : ¬ what = 4) : inR lim acc m (-1) what m = sT (fun j => okR lim acc (la j) (la j + 1) what) c := (inR_all a).trans (sT_congr (fun j _ => if_neg h))
theorem okR_0 {lim : Int32} {l n : Nat} : okR lim acc l n 0 = okS acc l n (fun _ => nI 1) := rfl
theorem okR_1 {lim : Int32} {l n : Nat} : okR lim acc l n 1 = okS acc l n (fun k => acc k 3) := rfl
theorem okR_2 {lim : Int32} {l n : Nat} : okR lim acc l n 2 = okS acc l n (fun k => wag (acc k)) + okM lim acc l n := rfl
theorem okR_3 {lim : Int32} {l n : Nat} : okR lim acc l n 3 = okM lim acc l n := rfl
theorem sT_1s : ∀ n, sT (fun _ => nI 1) n = nI n
  | 0 => rfl
  | n + 1 => by rw [sT_s, sT_1s n, nI_add]
theorem snd_all {U : Nat → Int32} (k : OKU U) : ∃ c wj A, SnA U c wj A := by
  obtain ⟨⟨-, m0, rep⟩, -, r⟩ := k
  have em : mU U = m0 := by unfold mU; rw [rep.1, cl_nI (by have := rep.2.1; omega)]
  have hm := rep.2.1
  have hr5 : ∀ q, q < m0 → ∀ f, f < 5 → ∃ y, y < 10000 ∧ accU U q f = nI y := rep.2.2.1
  have hr : ∀ q, q < m0 → ∀ f, f < 3 → ∃ y, y < 10000 ∧ accU U q f = nI y := fun q hq f hf => hr5 q hq f (by omega)
  have hlim : m0 = 0 ∨ ∃ v, v ≤ 9999 ∧ U 1061 = nI v := by
    rcases rep.2.2.2 with ⟨-, -, q⟩ | ⟨-, q, q1, q2, -⟩
    · exact Or.inl q
    · rcases r with r | ⟨m, n1, lim, acc, num, ⟨a1, a2, a3⟩, ⟨b1, -⟩, -⟩
      · exact absurd (q2.symm.trans r) (fun e => by have := (nI_eq (by omega) (by omega)).mp e; omega)
      · exact Or.inr ⟨lim, a3, b1⟩
  obtain ⟨c, la0, c1, c2, c3⟩ := key_ex (acc := accU U) m0
  obtain ⟨la, d1, d2⟩ := srt_xx (lim := U 1061) c2 hr c (Nat.le_refl c)
  have d3 : ∀ g : Nat → Int32, sT (fun j => okS (accU U) (la j) (la j + 1) g) c = sT g m0 := fun g => by
    rw [← c3 g, d1.2.2.2 (fun q => okS (accU U) q (q + 1) g), c2.2.2.2 (fun q => okS (accU U) q (q + 1) g)]
  have hla : ∀ j, j < c → la j < m0 := d1.1
  -- the numbers of cards of the keys
  obtain ⟨cn, hcn⟩ := pickN (P := fun j u => u ≤ 40 ∧ okS (accU U) (la j) (la j + 1) (fun _ => nI 1) = nI u) (n := c) (fun j hj => by
    obtain ⟨s, s1, s2⟩ := sK_N (b := fun k => alB (accU U) k (la j)) (g := fun _ => nI 1) (B := 1) (n := la j + 1) (fun _ _ => ⟨1, Nat.le_refl 1, rfl⟩)
    exact ⟨s, by have := hla j hj; omega, s2⟩)
  have tot0 : sN cn c = m0 := by
    have h1 := d3 (fun _ => nI 1)
    rw [sT_N (f := cn) (fun j hj => (hcn j hj).2), sT_1s] at h1
    have h2 := sN_le (f := cn) (B := 40) (n := c) (fun j hj => (hcn j hj).1)
    exact (nI_eq (by omega) (by omega)).mp h1
  obtain ⟨dp, hdp⟩ := pickN (P := fun j u => u < 10000 ∧ accU U (la j) 0 = nI u) (n := c) (fun j hj => hr _ (hla j hj) 0 (by omega))
  refine ⟨c, fun j => okR (U 1061) (accU U) (la j) (la j + 1) 2, fun D => sN (fun j => if dp j < D then cn j else 0) c, ?_⟩
  unfold SnA agN
  rw [em]
  refine ⟨⟨by omega, hm⟩, fun i hi => ⟨?_, ?_⟩, ?_, fun i hi => ?_, ?_, ?_, ?_, ?_, ?_, ?_, fun D => ?_, fun D hD => ?_⟩
  · rw [rkL_in d1 d2 (by omega) hi, if_pos (by omega)]
    obtain ⟨y, y1, y2⟩ := hr _ (hla i hi) 0 (by omega)
    rw [y2]
    exact nI_noN (by omega)
  · rw [rkL_in d1 d2 (by omega) hi, if_neg (by omega)]
  · exact rkL_out d1 d2 (fun j hj e => by have := (nI_eq (by omega) (by omega)).mp e; omega)
  · have h := ahB_i.mp (d2 i (i + 1) (by omega) hi)
    show okR (U 1061) (accU U) (la (i + 1)) (la (i + 1) + 1) 2 ≤ okR (U 1061) (accU U) (la i) (la i + 1) 2
    rw [Int32.le_iff_toInt_le]
    omega
  · rw [inR_all d1, sT_congr (g' := fun _ => nI 1) (fun j _ => if_pos rfl), sT_1s]
  · exact inR_w d1 (by omega)
  · exact (inR_w d1 (by omega)).trans ((d3 (fun _ => nI 1)).trans (sT_1s _))
  · exact (inR_w d1 (by omega)).trans (d3 (fun k => accU U k 3))
  · rw [inR_w d1 (what := 3) (by omega), inR_w d1 (what := 2) (by omega)]
    show sT (fun j => okM (U 1061) (accU U) (la j) (la j + 1)) c ≤ sT (fun j => okS (accU U) (la j) (la j + 1) (fun k => wag (accU U k)) + okM (U 1061) (accU U) (la j) (la j + 1)) c
    rw [sT_add, d3]
    rcases hlim with h0 | ⟨v, v1, v2⟩
    · obtain rfl : c = 0 := by omega
      rw [h0]
      show nI 0 ≤ nI 0 + nI 0
      decide
    · obtain ⟨hn, hhn⟩ := pickN (P := fun j u => u ≤ 9999 * 40 ∧ okH (accU U) (la j) (la j + 1) = nI u) (n := c) (fun j hj => by
        obtain ⟨s, s1, s2⟩ := sK_N (b := fun k => alB (accU U) k (la j)) (g := fun k => accU U k 3) (B := 9999) (n := la j + 1) (fun k hk => by
          obtain ⟨u, u1, u2⟩ := hr5 k (by have := hla j hj; omega) 3 (by omega)
          exact ⟨u, by omega, u2⟩)
        exact ⟨s, by have := hla j hj; omega, s2⟩)
      have toth : sN hn c ≤ 9999 * 40 := by
        have h1 : sT (fun j => okH (accU U) (la j) (la j + 1)) c = sT (fun k => accU U k 3) m0 := d3 (fun k => accU U k 3)
        rw [sT_N (f := hn) (fun j hj => (hhn j hj).2)] at h1
        obtain ⟨t, t1, t2⟩ := sT_rng (g := fun k => accU U k 3) (m := m0) (fun k hk => hr5 k hk 3 (by omega))
        rw [t2] at h1
        have h2 := sN_le (f := hn) (B := 9999 * 40) (n := c) (fun j hj => (hhn j hj).1)
        have := (nI_eq (by omega) (by omega)).mp h1
        omega
      obtain ⟨mn, hmn⟩ := pickN (P := fun j u => u ≤ 500 * hn j ∧ okM (U 1061) (accU U) (la j) (la j + 1) = nI u) (n := c) (fun j hj => by
        obtain ⟨u, u1, u2⟩ := hr5 _ (hla j hj) 4 (by omega)
        unfold okM
        rw [(hhn j hj).2, v2, u2]
        exact ovr_N (by have := (hhn j hj).1; omega) v1 u1)
      have totm : sN mn c ≤ 500 * (9999 * 40) := by
        have h1 := sN_mono (f := mn) (g := fun j => 500 * hn j) (n := c) (fun j hj => (hmn j hj).1)
        rw [sN_mul] at h1
        omega
      obtain ⟨wn, hwn⟩ := pickN (P := fun k u => u ≤ 10000000 ∧ wag (accU U k) = nI u) (n := m0) (fun k hk => wag_N (hr5 k hk))
      have totw := sN_le (f := wn) (B := 10000000) (n := m0) (fun k hk => (hwn k hk).1)
      rw [sT_N (f := mn) (fun j hj => (hmn j hj).2), sT_N (f := wn) (fun k hk => (hwn k hk).2), nI_add]
      exact nI_le (by omega) (by omega)
  · have : ∀ n, sN (fun j => if dp j < 0 then cn j else 0) n = 0 := by
      intro n
      induction n with
      | zero => rfl
      | succ n ih => show sN _ n + (if dp n < 0 then cn n else 0) = 0; rw [ih, if_neg (Nat.not_lt_zero _)]
    exact this c
  · have h := sN_mono (f := fun j => if dp j < D then cn j else 0) (g := cn) (n := c) (fun j _ => by split <;> omega)
    rw [← tot0]
    exact h
  · rw [← inR_T d1, sT_N (f := fun j => if dp j = D then cn j else 0) (fun j hj => ?_), nI_add]
    · congr 1
      have : ∀ n, sN (fun j => if dp j < D then cn j else 0) n + sN (fun j => if dp j = D then cn j else 0) n = sN (fun j => if dp j < D + 1 then cn j else 0) n := by
        intro n
        induction n with
        | zero => rfl
        | succ n ih =>
          show sN _ n + (if dp n < D then cn n else 0) + (sN _ n + (if dp n = D then cn n else 0)) = sN _ n + (if dp n < D + 1 then cn n else 0)
          rw [← ih]
          (repeat' split) <;> omega
      exact this c
    · obtain ⟨q1, q2⟩ := hdp j hj
      rw [q2]
      by_cases e : dp j = D
      · rw [if_pos (Or.inr (by rw [e])), if_neg (by omega), if_pos e]
        exact (hcn j hj).2
      · rw [if_neg (fun q => ?_), if_neg e]
        rcases q with q | q
        · exact absurd q (nI_nm1 (by omega))
        · exact e ((nI_eq (by omega) (by omega)).mp q)
end SND
