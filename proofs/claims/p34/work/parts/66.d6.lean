section CD6
variable {sA : Nat} {h : Nat → Option am_C} {z : Nat × Nat} {Q : Option Value → am_H → Prop}
theorem ahB_i {lim : Int32} {acc : Nat → Nat → Int32} {i k : Nat} : ahB lim acc i k = true ↔ ((okR lim acc k (k + 1) 2).toInt < (okR lim acc i (i + 1) 2).toInt ∨ ((okR lim acc i (i + 1) 2).toInt = (okR lim acc k (k + 1) 2).toInt ∧ (keyA acc i).toInt < (keyA acc k).toInt)) := by
  unfold ahB
  rw [decide_eq_true_iff, Int32.lt_iff_toInt_lt, Int64.lt_iff_toInt_lt, ← Int32.toInt_inj]
theorem ahB_tot {lim : Int32} {acc : Nat → Nat → Int32} {i k : Nat} (hi : ∀ x, x < 3 → ∃ y, y < 10000 ∧ acc i x = nI y) (hk : ∀ x, x < 3 → ∃ y, y < 10000 ∧ acc k x = nI y) (hd : ¬ alB acc i k = true) (h : ¬ ahB lim acc i k = true) : ahB lim acc k i = true := by
  rw [ahB_i] at h ⊢
  have : ¬ (keyA acc i).toInt = (keyA acc k).toInt := fun e => hd (alB_t.mpr ((keyM_ne hi hk).mp (Int64.toInt_inj.mp e)))
  omega
theorem ahB_tr {lim : Int32} {acc : Nat → Nat → Int32} {i j k : Nat} (h : ahB lim acc i j = true) (h2 : ahB lim acc j k = true) : ahB lim acc i k = true := by
  rw [ahB_i] at h h2 ⊢
  omega
theorem ahB_as {lim : Int32} {acc : Nat → Nat → Int32} {i j : Nat} (h : ahB lim acc i j = true) : ¬ ahB lim acc j i = true := by
  rw [ahB_i] at h ⊢
  omega
theorem ahB_ir {lim : Int32} {acc : Nat → Nat → Int32} {i : Nat} : ¬ ahB lim acc i i = true := by
  rw [ahB_i]
  omega
theorem sT_cnt {f : Nat → Int32} {j : Nat} : ∀ {n : Nat}, (∀ i, i < n → i < j → f i = nI 1) → (∀ i, i < n → j ≤ i → f i = nI 0) → sT f n = nI (min n j)
  | 0, _, _ => by rw [Nat.zero_min]; rfl
  | n + 1, h1, h0 => by
    rw [sT_s, sT_cnt (n := n) (j := j) (fun i hi hj => h1 i (by omega) hj) (fun i hi hj => h0 i (by omega) hj)]
    by_cases e : n < j
    · rw [h1 n (by omega) e, nI_add]
      congr 1
      omega
    · rw [h0 n (by omega) (by omega), add_0]
      congr 1
      omega
theorem KeyI.last {acc : Nat → Nat → Int32} {m c j : Nat} {la : Nat → Nat} (a : KeyI acc m c la) (hj : j < c) : lastB acc m (la j) = true := by
  obtain ⟨a1, a2, a3, a4⟩ := a
  refine lastB_t.mpr (fun x h1 h2 h3 => ?_)
  obtain ⟨i, i1, i2, i3⟩ := a3 x h2
  have := a2 j i hj i1 (alB_tr h3 i2)
  subst this
  omega
theorem KeyI.of {acc : Nat → Nat → Int32} {m c i : Nat} {la : Nat → Nat} (a : KeyI acc m c la) (hi : i < m) (hl : lastB acc m i = true) : ∃ j, j < c ∧ la j = i := by
  obtain ⟨j, j1, j2, j3⟩ := a.2.2.1 i hi
  refine ⟨j, j1, ?_⟩
  by_cases e : i < la j
  · exact absurd j2 ((lastB_t.mp hl) (la j) e (a.1 j j1))
  · omega
/-- the keys stand in the order of their ranks -/
def Srt (lim : Int32) (acc : Nat → Nat → Int32) (n : Nat) (la : Nat → Nat) : Prop := ∀ a b, a < b → b < n → ahB lim acc (la a) (la b) = true
theorem rkR_at {lim : Int32} {acc : Nat → Nat → Int32} {m c j : Nat} {la : Nat → Nat} (a : KeyI acc m c la) (s : Srt lim acc c la) (hj : j < c) : rkR lim acc m (la j) m = nI j := by
  unfold rkR
  rw [sK_T]
  have e1 : sT (fun k => if (lastB acc m k && ahB lim acc k (la j)) = true then nI 1 else nI 0) m = sT (fun k => if lastB acc m k = true then (if ahB lim acc k (la j) = true then nI 1 else nI 0) else nI 0) m := by
    refine sT_congr (fun k _ => ?_)
    cases lastB acc m k <;> cases ahB lim acc k (la j) <;> rfl
  rw [e1, ← a.2.2.2 (fun k => if ahB lim acc k (la j) = true then nI 1 else nI 0), sT_cnt (j := j) (fun i hi h => if_pos (s i j h hj)) (fun i hi h => if_neg (fun q => ?_))]
  · congr 1
    omega
  · by_cases e : i = j
    · subst e; exact ahB_ir q
    · exact ahB_as q (s j i (by omega) hi)
theorem rkL_hit {lim : Int32} {acc : Nat → Nat → Int32} {m i0 what : Nat} {a : Int32} (h1 : lastB acc m i0 = true) (h2 : rkR lim acc m i0 m = a) (hu : ∀ i, i < m → lastB acc m i = true → rkR lim acc m i m = a → i = i0) (h0 : i0 < m) : ∀ n i, i + n = m → i ≤ i0 → rkL lim acc m a what n i = if what < 3 then acc i0 what else okR lim acc i0 (i0 + 1) 2
  | 0, i, hi, hl => absurd hl (by omega)
  | n + 1, i, hi, hl => by
    unfold rkL
    by_cases e : i = i0
    · subst e
      rw [if_pos ⟨h1, h2⟩]
    · rw [if_neg (fun q => e (hu i (by omega) q.1 q.2))]
      exact rkL_hit h1 h2 hu h0 n (i + 1) (by omega) (by omega)
theorem rkL_miss {lim : Int32} {acc : Nat → Nat → Int32} {m what : Nat} {a : Int32} (hu : ∀ i, i < m → lastB acc m i = true → ¬ rkR lim acc m i m = a) : ∀ n i, i + n = m → rkL lim acc m a what n i = (-1000009)
  | 0, i, hi => rfl
  | n + 1, i, hi => by
    unfold rkL
    rw [if_neg (fun q => hu i (by omega) q.1 q.2)]
    exact rkL_miss hu n (i + 1) (by omega)
theorem rkL_in {lim : Int32} {acc : Nat → Nat → Int32} {m c k what : Nat} {la : Nat → Nat} (a : KeyI acc m c la) (s : Srt lim acc c la) (hc : c ≤ 40) (hk : k < c) : rkL lim acc m (nI k) what m 0 = if what < 3 then acc (la k) what else okR lim acc (la k) (la k + 1) 2 := by
  refine rkL_hit (a.last hk) (rkR_at a s hk) (fun i hi hl hr => ?_) (a.1 k hk) m 0 (by omega) (Nat.zero_le _)
  obtain ⟨j, j1, j2⟩ := a.of hi hl
  rw [← j2, rkR_at a s j1, nI_eq (by omega) (by omega)] at hr
  rw [← j2, hr]
theorem rkL_out {lim : Int32} {acc : Nat → Nat → Int32} {m c what : Nat} {x : Int32} {la : Nat → Nat} (a : KeyI acc m c la) (s : Srt lim acc c la) (hx : ∀ j, j < c → ¬ x = nI j) : rkL lim acc m x what m 0 = (-1000009) := by
  refine rkL_miss (fun i hi hl hr => ?_) m 0 (by omega)
  obtain ⟨j, j1, j2⟩ := a.of hi hl
  rw [← j2, rkR_at a s j1] at hr
  exact hx j j1 hr.symm
theorem c10_init {t : Nat} (ht : h t = some (.inr (10, am_bl 10))) (hQ : TtAt h t (fun _ => nI 0) → Q none (h, z)) : Rn sA mX10_init 0 [some (.ref t)] [] (h, z) Q := by
  refine R_aload_n (pc := 0) dX10_init_0 rfl ?_
  refine R_obj (pc := 1) dX10_init_1 rfl rfl ⟨Nat.le_of_ble_eq_true rfl, Nat.le_of_ble_eq_true rfl⟩ ?_
  refine R_vret (pc := 4) dX10_init_4 rfl ?_
  exact hQ ht
def SwJ (h : Nat → Option am_C) (u k : Nat) : Prop := h u = some (.inr (6, [.ref (u + 1), .ref (u + 2), .ref (u + 3), .int (nI 0)])) ∧ (∃ f : Nat → Option Nat, h (u + 1) = some (.inl (3, 40, .inr (.inr (.inr (.inr f))))) ∧ ∀ i, i < k → f i = some (u + 4 + i)) ∧ (∀ i, i < k → TtAt h (u + 4 + i) (fun _ => nI 0)) ∧ TtAt h (u + 3) (fun _ => nI 0)
theorem lc6_init {u x : Nat} {g : Nat → Option am_C}  : ∀ (n k : Nat) (h : Nat → Option am_C) (_ : k + n = 40) (_ : SwJ h u k) (_ : ∀ a, (a < u ∨ u + 44 ≤ a) → h a = g a) (_ : (∀ h2 : Nat → Option am_C, SwJ h2 u 40 → (∀ a, (a < u ∨ u + 44 ≤ a) → h2 a = g a) → Q none (h2, u + 44, x + 320))), Rn sA mX6_init 37 [some (.ref u), some (.int (nI k))] [] (h, u + 4 + k, x + 8 * k) Q
  | 0, k, h, hk, hI, hg, hX => by
    obtain rfl : k = 40 := by omega
    refine R_iload_n (pc := 37) dX6_init_37 rfl ?_
    refine R_bipush (pc := 38) (x := nI 40) dX6_init_38 (by decide) ?_
    refine R_icmp_ge (pc := 40) (t := 62) dX6_init_40 (by decide) (fun _ => ?_) (fun hz9 => absurd (nI_le (by omega) (by omega)) hz9)
    refine R_vret (pc := 62) dX6_init_62 rfl ?_
    exact hX h hI hg
  | n + 1, k, h, hk, hI, hg, hX => by
    obtain ⟨i1, ⟨f, i2, i3⟩, i4, i5⟩ := hI
    refine R_iload_n (pc := 37) dX6_init_37 rfl ?_
    refine R_bipush (pc := 38) (x := nI 40) dX6_init_38 (by decide) ?_
    refine R_icmp_ge (pc := 40) (t := 62) dX6_init_40 (by decide) (fun hz9 => absurd hz9 (nI_ge (by omega) (by omega))) (fun _ => ?_)
    refine R_aload_n (pc := 43) dX6_init_43 rfl ?_
    refine R_getf (pc := 44) dX6_init_44 rfl (by repeat (first | assumption | exact up_s | refine up_n (by omega) ?_)) rfl ?_
    refine R_iload_n (pc := 47) dX6_init_47 rfl ?_
    refine R_new (pc := 48) dX6_init_48 rfl rfl rfl ?_
    refine R_dup (pc := 51) dX6_init_51 rfl ?_
    refine R_callI (pc := 52) dX6_init_52 rfl (Or.inr rfl) rfl rfl ?_
    refine c10_init up_s (fun hz => ?_)
    refine R_aast (pc := 55) dX6_init_55 (up_n (by omega) i2) up_s (by decide) rfl (by omega) (by decide) ?_
    refine R_iinc (pc := 56) dX6_init_56 rfl (by first | exact nI_inc _ | rfl) rfl ?_
    refine R_goto (pc := 59) (t := 37) dX6_init_59 (by decide) ?_
    refine Rn_z (a' := u + 4 + (k + 1)) (b' := x + 8 * (k + 1)) rfl (by show x + 8 * k + 8 = _; omega) ?_
    refine lc6_init n (k + 1) _ (by omega) ⟨up_n (by omega) (up_n (by omega) i1), ⟨_, up_s, fun i hi => ?_⟩, fun i hi => ?_, i5.fr ((up_n (by omega) rfl).trans (up_n (by omega) rfl))⟩ (fun a ha => (up_n (by omega) rfl).trans ((up_n (by omega) rfl).trans (hg a ha))) hX
    · by_cases e : i = k
      · subst e; exact up_s
      · exact up_n e (i3 i (by omega))
    · by_cases e : i = k
      · subst e; exact hz.fr (up_n (by omega) rfl)
      · exact (i4 i (by omega)).fr ((up_n (by omega) rfl).trans (up_n (by omega) rfl))
theorem c6_init {u x : Nat} (hu : h u = some (.inr (6, am_bl 6))) (hQ : ∀ (h2 : Nat → Option am_C) (f : Nat → Option Nat), SwX h2 u 0 id f (fun _ _ => nI 0) (fun _ => nI 0) → SwF u id f → (∀ a, (a < u ∨ u + 44 ≤ a) → h2 a = h a) → Q none (h2, u + 44, x + 376)) : Rn sA mX6_init 0 [some (.ref u), none] [] (h, u + 1, x) Q := by
  refine R_aload_n (pc := 0) dX6_init_0 rfl ?_
  refine R_obj (pc := 1) dX6_init_1 rfl rfl ⟨Nat.le_of_ble_eq_true rfl, Nat.le_of_ble_eq_true rfl⟩ ?_
  refine R_aload_n (pc := 4) dX6_init_4 rfl ?_
  refine R_bipush (pc := 5) (x := nI 40) dX6_init_5 (by decide) ?_
  refine R_anew (pc := 7) dX6_init_7 rfl rfl (by decide) ?_
  refine R_putf (pc := 10) dX6_init_10 rfl (by repeat (first | assumption | exact up_s | refine up_n (by omega) ?_)) rfl (Or.inr ⟨by decide, rfl⟩) rfl ?_
  refine R_aload_n (pc := 13) dX6_init_13 rfl ?_
  refine R_new (pc := 14) dX6_init_14 rfl rfl rfl ?_
  refine R_dup (pc := 17) dX6_init_17 rfl ?_
  refine R_callI (pc := 18) dX6_init_18 rfl (Or.inr rfl) rfl rfl ?_
  refine c10_init up_s (fun _ => ?_)
  refine R_putf (pc := 21) dX6_init_21 rfl (by repeat (first | assumption | exact up_s | refine up_n (by omega) ?_)) rfl (Or.inr ⟨by decide, rfl⟩) rfl ?_
  refine R_aload_n (pc := 24) dX6_init_24 rfl ?_
  refine R_new (pc := 25) dX6_init_25 rfl rfl rfl ?_
  refine R_dup (pc := 28) dX6_init_28 rfl ?_
  refine R_callI (pc := 29) dX6_init_29 rfl (Or.inr rfl) rfl rfl ?_
  refine c10_init up_s (fun hz2 => ?_)
  refine R_putf (pc := 32) dX6_init_32 rfl (by repeat (first | assumption | exact up_s | refine up_n (by omega) ?_)) rfl (Or.inr ⟨by decide, rfl⟩) rfl ?_
  refine R_iconst (pc := 35) (x := nI 0) dX6_init_35 rfl ?_
  refine R_istore_n (pc := 36) dX6_init_36 (Nat.le_of_ble_eq_true rfl) rfl ?_
  refine Rn_z (a' := u + 4 + 0) (b' := x + 56 + 8 * 0) rfl (by show x + 40 + 8 + 8 = _; omega) ?_
  refine lc6_init (g := h) (x := x + 56) 40 0 _ (by omega) ⟨up_s, ⟨fun _ => none, by repeat (first | exact up_s | refine up_n (by omega) ?_), fun i hi => absurd hi (Nat.not_lt_zero _)⟩, fun i hi => absurd hi (Nat.not_lt_zero _), hz2.fr (up_n (by omega) rfl)⟩ (fun a ha => ?_) (fun h2 q1 q2 => ?_)
  · simp only [va_up]
    repeat rw [if_neg (by omega)]
  · obtain ⟨i1, ⟨f, i2, i3⟩, i4, i5⟩ := q1
    rw [show x + 56 + 320 = x + 376 by omega]
    exact hQ h2 f ⟨i1, i2, i4, i5, fun i hi => hi, fun i j _ _ e => e⟩ i3 q2
theorem c6_isAhead {a b : Nat} {A B : Nat → Int32} (ha : TtAt h a A) (hb : TtAt h b B) (hY : (B 6 < A 6 ∨ (A 6 = B 6 ∧ keyM (A 0) (A 1) (A 2) < keyM (B 0) (B 1) (B 2))) → Q (some (.int (nI 1))) (h, z)) (hN : ¬ (B 6 < A 6 ∨ (A 6 = B 6 ∧ keyM (A 0) (A 1) (A 2) < keyM (B 0) (B 1) (B 2))) → Q (some (.int (nI 0))) (h, z)) : Rn sA mX6_isAhead 0 [some (.ref a), some (.ref b)] [] (h, z) Q := by
  have ha1 := ha
  have hb1 := hb
  unfold TtAt at ha1 hb1
  refine R_aload_n (pc := 0) dX6_isAhead_0 rfl ?_
  refine R_getf (pc := 1) dX6_isAhead_1 rfl (by repeat (first | assumption | exact up_s | refine up_n (by omega) ?_)) rfl ?_
  refine R_aload_n (pc := 4) dX6_isAhead_4 rfl ?_
  refine R_getf (pc := 5) dX6_isAhead_5 rfl (by repeat (first | assumption | exact up_s | refine up_n (by omega) ?_)) rfl ?_
  refine R_icmp_gt (pc := 8) (t := 34) dX6_isAhead_8 (by decide) (fun h8 => ?_) (fun h8 => ?_)
  · refine R_iconst (pc := 34) (x := nI 1) dX6_isAhead_34 rfl ?_
    refine R_goto (pc := 35) (t := 39) dX6_isAhead_35 (by decide) ?_
    refine R_zret (pc := 39) dX6_isAhead_39 rfl (by decide) ?_
    first
      | exact hY (Or.inl h8)
      | exact hN (fun q => q.elim h8 (fun q2 => h19 q2.1))
      | exact hN (fun q => q.elim h8 (fun q2 => cmp_ge.mp h31 q2.2))
      | exact hY (Or.inr ⟨h19, Decidable.byContradiction (fun q => h31 (cmp_ge.mpr q))⟩)
  · refine R_aload_n (pc := 11) dX6_isAhead_11 rfl ?_
    refine R_getf (pc := 12) dX6_isAhead_12 rfl (by repeat (first | assumption | exact up_s | refine up_n (by omega) ?_)) rfl ?_
    refine R_aload_n (pc := 15) dX6_isAhead_15 rfl ?_
    refine R_getf (pc := 16) dX6_isAhead_16 rfl (by repeat (first | assumption | exact up_s | refine up_n (by omega) ?_)) rfl ?_
    refine R_icmp_ne (pc := 19) (t := 38) dX6_isAhead_19 (by decide) (fun h19 => ?_) (fun h19 => ?_)
    · refine R_iconst (pc := 38) (x := nI 0) dX6_isAhead_38 rfl ?_
      refine R_zret (pc := 39) dX6_isAhead_39 rfl (by decide) ?_
      first
        | exact hY (Or.inl h8)
        | exact hN (fun q => q.elim h8 (fun q2 => h19 q2.1))
        | exact hN (fun q => q.elim h8 (fun q2 => cmp_ge.mp h31 q2.2))
        | exact hY (Or.inr ⟨h19, Decidable.byContradiction (fun q => h31 (cmp_ge.mpr q))⟩)
    · refine R_aload_n (pc := 22) dX6_isAhead_22 rfl ?_
      refine R_callV (pc := 23) dX6_isAhead_23 rfl ha rfl rfl ?_
      refine c10_key ha ?_
      refine R_aload_n (pc := 26) dX6_isAhead_26 rfl ?_
      refine R_callV (pc := 27) dX6_isAhead_27 rfl hb rfl rfl ?_
      refine c10_key hb ?_
      refine R_lcmp (pc := 30) dX6_isAhead_30 ?_
      refine R_if_ge (pc := 31) (t := 38) dX6_isAhead_31 (by decide) (fun h31 => ?_) (fun h31 => ?_)
      · refine R_iconst (pc := 38) (x := nI 0) dX6_isAhead_38 rfl ?_
        refine R_zret (pc := 39) dX6_isAhead_39 rfl (by decide) ?_
        first
          | exact hY (Or.inl h8)
          | exact hN (fun q => q.elim h8 (fun q2 => h19 q2.1))
          | exact hN (fun q => q.elim h8 (fun q2 => cmp_ge.mp h31 q2.2))
          | exact hY (Or.inr ⟨h19, Decidable.byContradiction (fun q => h31 (cmp_ge.mpr q))⟩)
      · refine R_iconst (pc := 34) (x := nI 1) dX6_isAhead_34 rfl ?_
        refine R_goto (pc := 35) (t := 39) dX6_isAhead_35 (by decide) ?_
        refine R_zret (pc := 39) dX6_isAhead_39 rfl (by decide) ?_
        first
          | exact hY (Or.inl h8)
          | exact hN (fun q => q.elim h8 (fun q2 => h19 q2.1))
          | exact hN (fun q => q.elim h8 (fun q2 => cmp_ge.mp h31 q2.2))
          | exact hY (Or.inr ⟨h19, Decidable.byContradiction (fun q => h31 (cmp_ge.mpr q))⟩)
theorem KeyO.ah {lim : Int32} {acc : Nat → Nat → Int32} {c i j : Nat} {la : Nat → Nat} {V : Nat → Nat → Int32} (b : KeyO lim acc c la V) (hi : i < c) (hj : j < c) : (V j 6 < V i 6 ∨ (V i 6 = V j 6 ∧ keyM (V i 0) (V i 1) (V i 2) < keyM (V j 0) (V j 1) (V j 2))) ↔ ahB lim acc (la i) (la j) = true := by
  obtain ⟨p1, p2⟩ := b i hi
  obtain ⟨q1, q2⟩ := b j hj
  unfold ahB keyA
  rw [decide_eq_true_iff, p1 0 (by omega), p1 1 (by omega), p1 2 (by omega), q1 0 (by omega), q1 1 (by omega), q1 2 (by omega), show V i 6 = _ from p2 2 (by omega), show V j 6 = _ from q2 2 (by omega)]
theorem KeyO.swap {lim : Int32} {acc : Nat → Nat → Int32} {c q : Nat} {la : Nat → Nat} {V : Nat → Nat → Int32} (b : KeyO lim acc c la V) (hq : q + 1 < c) : KeyO lim acc c (fun i => la (swI q i)) (fun i => V (swI q i)) := fun j hj => b _ (swI_lt hq hj)
theorem SwX.swap {h : Nat → Option am_C} {u c q : Nat} {qe : Nat → Nat} {f : Nat → Option Nat} {V : Nat → Nat → Int32} {Z : Nat → Int32} (a : SwX h u c qe f V Z) (hq : q + 1 < 40) : SwX h u c (fun i => qe (swI q i)) f (fun i => V (swI q i)) Z := ⟨a.1, a.2.1, fun i hi => a.2.2.1 _ (swI_lt hq hi), a.2.2.2.1, fun i hi => a.2.2.2.2.1 _ (swI_lt hq hi), fun i j hi hj e => swI_inj (a.2.2.2.2.2 _ _ (swI_lt hq hi) (swI_lt hq hj) e)⟩
/-- sorted up to i, the one at q aside, that is ahead of those behind it -/
def SrtP (lim : Int32) (acc : Nat → Nat → Int32) (i q : Nat) (la : Nat → Nat) : Prop := (∀ a b, a < b → b ≤ i → ¬ a = q → ¬ b = q → ahB lim acc (la a) (la b) = true) ∧ ∀ b, q < b → b ≤ i → ahB lim acc (la q) (la b) = true
theorem SrtP.step {lim : Int32} {acc : Nat → Nat → Int32} {i q : Nat} {la : Nat → Nat} (s : SrtP lim acc i (q + 1) la) (h : ahB lim acc (la (q + 1)) (la q) = true) (hq : q + 1 ≤ i) : SrtP lim acc i q (fun x => la (swI q x)) := by
  refine ⟨fun a b h1 h2 h3 h4 => ?_, fun b h1 h2 => ?_⟩
  · show ahB lim acc (la (swI q a)) (la (swI q b)) = true
    by_cases ea : a = q + 1
    · subst ea
      rw [swI_r, swI_o h4 (by omega)]
      exact s.1 q b (by omega) h2 (by omega) (by omega)
    · rw [swI_o h3 ea]
      by_cases eb : b = q + 1
      · subst eb
        rw [swI_r]
        exact s.1 a q (by omega) (by omega) ea (by omega)
      · rw [swI_o h4 eb]
        exact s.1 a b h1 h2 ea eb
  · show ahB lim acc (la (swI q q)) (la (swI q b)) = true
    rw [swI_l]
    by_cases eb : b = q + 1
    · subst eb
      rw [swI_r]
      exact h
    · rw [swI_o (by omega) eb]
      exact s.2 b (by omega) h2
theorem SrtP.stop {lim : Int32} {acc : Nat → Nat → Int32} {i q : Nat} {la : Nat → Nat} (s : SrtP lim acc i q la) (h : ∀ y, q = y + 1 → ahB lim acc (la y) (la q) = true) : Srt lim acc (i + 1) la := by
  intro a b h1 h2
  by_cases ea : a = q
  · subst ea
    exact s.2 b h1 (by omega)
  · by_cases eb : b = q
    · subst eb
      obtain ⟨y, rfl⟩ : ∃ y, b = y + 1 := ⟨b - 1, by omega⟩
      have e := h y rfl
      by_cases ey : a = y
      · subst ey; exact e
      · exact ahB_tr (s.1 a y (by omega) (by omega) ea (by omega)) e
    · exact s.1 a b h1 (by omega) ea eb
theorem lc6_rki {u c m : Nat} {Z : Nat → Int32} {lim : Int32} {acc : Nat → Nat → Int32} {g : Nat → Option am_C} {i : Nat} (hc : c ≤ 40) (hr9 : ∀ k, k < m → ∀ x, x < 3 → ∃ y, y < 10000 ∧ acc k x = nI y) (hi : i < c) : ∀ (n : Nat) (h : Nat → Option am_C) (qe : Nat → Nat) (f : Nat → Option Nat) (V : Nat → Nat → Int32) (la : Nat → Nat) (q : Nat) (_ : q = n) (_ : SwX h u c qe f V Z) (_ : ∀ x, x < 40 → ¬ x = q → f x = some (u + 4 + qe x)) (_ : KeyI acc m c la) (_ : KeyO lim acc c la V) (_ : SrtP lim acc i q la ∧ q ≤ i) (_ : ∀ a, (a < u ∨ u + 44 ≤ a) → h a = g a) (_ : (∀ (h : Nat → Option am_C) (qe : Nat → Nat) (f : Nat → Option Nat) (V : Nat → Nat → Int32) (la : Nat → Nat) (o2 o3 : Option Value), SwX h u c qe f V Z → SwF u qe f → KeyI acc m c la → KeyO lim acc c la V → Srt lim acc (i + 1) la → (∀ a, (a < u ∨ u + 44 ≤ a) → h a = g a) → Rn sA mX6_rank 60 [some (.ref u), some (.int (nI i)), o2, o3] [] (h, z) Q)), Rn sA mX6_rank 18 [some (.ref u), some (.int (nI i)), some (.ref (u + 4 + qe q)), some (.int (nI q))] [] (h, z) Q
  | 0, h, qe, f, V, la, q, hq, hs, hf, hI, hK, hS2, hg, hX => by
    obtain ⟨hS, hqi⟩ := hS2
    have hs1 := hs.1
    subst hq
    refine R_iload_n (pc := 18) dX6_rank_18 rfl ?_
    refine R_if_le (pc := 19) (t := 54) dX6_rank_19 (by decide) (fun _ => ?_) (fun hz9 => absurd (by decide) hz9)
    refine R_aload_n (pc := 54) dX6_rank_54 rfl ?_
    refine R_iload_n (pc := 55) dX6_rank_55 rfl ?_
    refine R_aload_n (pc := 56) dX6_rank_56 rfl ?_
    refine R_callV (pc := 57) dX6_rank_57 rfl hs1 rfl rfl ?_
    refine c6_put hs (i := 0) (j := 0) (by omega) (by omega) (fun h2 q1 q2 => ?_)
    refine hX h2 qe _ V la _ _ q1 (fun x hx => ?_) hI hK (hS.stop (fun y hy2 => absurd hy2 (by omega))) (fun a ha => (q2 a (by omega)).trans (hg a ha))
    by_cases e : x = 0
    · subst e; exact up_s
    · exact up_n e (hf x hx e)
  | n + 1, h, qe, f, V, la, q, hq, hs, hf, hI, hK, hS2, hg, hX => by
    obtain ⟨hS, hqi⟩ := hS2
    have hs1 := hs.1
    obtain ⟨q, rfl⟩ : ∃ y, q = y + 1 := ⟨q - 1, by omega⟩
    refine R_iload_n (pc := 18) dX6_rank_18 rfl ?_
    refine R_if_le (pc := 19) (t := 54) dX6_rank_19 (by decide) (fun hz9 => absurd hz9 (nI_nle (by omega) (by omega))) (fun _ => ?_)
    refine R_aload_n (pc := 22) dX6_rank_22 rfl ?_
    refine R_aload_n (pc := 23) dX6_rank_23 rfl ?_
    refine R_iload_n (pc := 24) dX6_rank_24 rfl ?_
    refine R_iconst (pc := 25) (x := nI 1) dX6_rank_25 rfl ?_
    refine R_isub (pc := 26) dX6_rank_26 ?_
    refine R_callV (pc := 27) dX6_rank_27 rfl (by repeat (first | assumption | exact up_s | refine up_n (by omega) ?_)) rfl rfl ?_
    rw [pk_sub (show 1 ≤ q + 1 by omega), Nat.add_sub_cancel]
    refine c6_at hs (by omega) (hf q (by omega) (by omega)) ?_
    refine R_callS (pc := 30) dX6_rank_30 rfl (Or.inl rfl) rfl rfl ?_
    refine c6_isAhead (hs.2.2.1 (q + 1) (by omega)) (hs.2.2.1 q (by omega)) (fun hy => ?_) (fun hy => ?_)
    · refine R_if_eq (pc := 33) (t := 54) dX6_rank_33 (by decide) (fun hz9 => absurd hz9 (by decide)) (fun _ => ?_)
      refine R_aload_n (pc := 36) dX6_rank_36 rfl ?_
      refine R_iload_n (pc := 37) dX6_rank_37 rfl ?_
      refine R_aload_n (pc := 38) dX6_rank_38 rfl ?_
      refine R_iload_n (pc := 39) dX6_rank_39 rfl ?_
      refine R_iconst (pc := 40) (x := nI 1) dX6_rank_40 rfl ?_
      refine R_isub (pc := 41) dX6_rank_41 ?_
      refine R_callV (pc := 42) dX6_rank_42 rfl (by repeat (first | assumption | exact up_s | refine up_n (by omega) ?_)) rfl rfl ?_
      rw [pk_sub (show 1 ≤ q + 1 by omega), Nat.add_sub_cancel]
      refine c6_at hs (by omega) (hf q (by omega) (by omega)) ?_
      refine R_callV (pc := 45) dX6_rank_45 rfl hs1 rfl rfl ?_
      refine c6_put hs (i := q + 1) (j := q) (by omega) (by omega) (fun h2 q1 q2 => ?_)
      refine R_iinc (pc := 48) dX6_rank_48 rfl (show nI (q + 1) + Int32.ofInt (-1) = nI q from pk_m1 q) rfl ?_
      refine R_goto (pc := 51) (t := 18) dX6_rank_51 (by decide) ?_
      have ep : u + 4 + qe (q + 1) = u + 4 + (fun x => qe (swI q x)) q := by show _ = u + 4 + qe (swI q q); rw [swI_l]
      rw [ep]
      refine lc6_rki hc hr9 hi n h2 (fun x => qe (swI q x)) _ (fun x => V (swI q x)) (fun x => la (swI q x)) q (by omega) (q1.swap (q := q) (by omega)) (fun x hx hxq => ?_) (hI.swap (q := q) (by omega)) (hK.swap (q := q) (by omega)) ⟨hS.step ((hK.ah (by omega) (by omega)).mp hy) (by omega), by omega⟩ (fun a ha => (q2 a (by omega)).trans (hg a ha)) hX
      show _ = some (u + 4 + qe (swI q x))
      by_cases e : x = q + 1
      · subst e; rw [swI_r]; exact up_s
      · rw [swI_o hxq e]; exact up_n e (hf x hx e)
    · refine R_if_eq (pc := 33) (t := 54) dX6_rank_33 (by decide) (fun _ => ?_) (fun hz9 => absurd hz9 (by decide))
      have hfin : ∀ y, q + 1 = y + 1 → ahB lim acc (la y) (la (q + 1)) = true := by
        intro y hy2
        obtain rfl : y = q := by omega
        exact ahB_tot (hr9 _ (hI.1 _ (by omega))) (hr9 _ (hI.1 _ (by omega))) (fun e => by have := hI.2.1 _ _ (by omega) (by omega) e; omega) (fun e => hy ((hK.ah (by omega) (by omega)).mpr e))
      refine R_aload_n (pc := 54) dX6_rank_54 rfl ?_
      refine R_iload_n (pc := 55) dX6_rank_55 rfl ?_
      refine R_aload_n (pc := 56) dX6_rank_56 rfl ?_
      refine R_callV (pc := 57) dX6_rank_57 rfl hs1 rfl rfl ?_
      refine c6_put hs (i := q + 1) (j := q + 1) (by omega) (by omega) (fun h2 q1 q2 => ?_)
      refine hX h2 qe _ V la _ _ q1 (fun x hx => ?_) hI hK (hS.stop hfin) (fun a ha => (q2 a (by omega)).trans (hg a ha))
      by_cases e : x = q + 1
      · subst e; exact up_s
      · exact up_n e (hf x hx e)
theorem lc6_rko2 {u c m : Nat} {Z : Nat → Int32} {lim : Int32} {acc : Nat → Nat → Int32} {g : Nat → Option am_C} (hc : c ≤ 40) (hr9 : ∀ k, k < m → ∀ x, x < 3 → ∃ y, y < 10000 ∧ acc k x = nI y) : ∀ (n k : Nat) (h : Nat → Option am_C) (qe : Nat → Nat) (f : Nat → Option Nat) (V : Nat → Nat → Int32) (la : Nat → Nat) (o2 o3 : Option Value) (_ : k + n = c) (_ : SwX h u c qe f V Z) (_ : SwF u qe f) (_ : KeyI acc m c la) (_ : KeyO lim acc c la V) (_ : Srt lim acc k la) (_ : ∀ a, (a < u ∨ u + 44 ≤ a) → h a = g a) (_ : (∀ (h2 : Nat → Option am_C) (qe : Nat → Nat) (f : Nat → Option Nat) (V : Nat → Nat → Int32) (la : Nat → Nat), SwX h2 u c qe f V Z → SwF u qe f → KeyI acc m c la → KeyO lim acc c la V → Srt lim acc c la → (∀ a, (a < u ∨ u + 44 ≤ a) → h2 a = g a) → Q none (h2, z))), Rn sA mX6_rank 2 [some (.ref u), some (.int (nI k)), o2, o3] [] (h, z) Q
  | 0, k, h, qe, f, V, la, o2, o3, hk, hs, hf, hI, hK, hS, hg, hX => by
    have hs1 := hs.1
    obtain rfl : k = c := by omega
    refine R_iload_n (pc := 2) dX6_rank_2 rfl ?_
    refine R_aload_n (pc := 3) dX6_rank_3 rfl ?_
    refine R_getf (pc := 4) dX6_rank_4 rfl (by repeat (first | assumption | exact up_s | refine up_n (by omega) ?_)) rfl ?_
    refine R_icmp_ge (pc := 7) (t := 66) dX6_rank_7 (by decide) (fun _ => ?_) (fun hz9 => absurd (nI_le (by omega) (by omega)) hz9)
    refine R_vret (pc := 66) dX6_rank_66 rfl ?_
    exact hX h qe f V la hs hf hI hK hS hg
  | n + 1, k, h, qe, f, V, la, o2, o3, hk, hs, hf, hI, hK, hS, hg, hX => by
    have hs1 := hs.1
    refine R_iload_n (pc := 2) dX6_rank_2 rfl ?_
    refine R_aload_n (pc := 3) dX6_rank_3 rfl ?_
    refine R_getf (pc := 4) dX6_rank_4 rfl (by repeat (first | assumption | exact up_s | refine up_n (by omega) ?_)) rfl ?_
    refine R_icmp_ge (pc := 7) (t := 66) dX6_rank_7 (by decide) (fun hz9 => absurd hz9 (nI_ge (by omega) (by omega))) (fun _ => ?_)
    refine R_aload_n (pc := 10) dX6_rank_10 rfl ?_
    refine R_iload_n (pc := 11) dX6_rank_11 rfl ?_
    refine R_callV (pc := 12) dX6_rank_12 rfl (by repeat (first | assumption | exact up_s | refine up_n (by omega) ?_)) rfl rfl ?_
    refine c6_at hs (by omega) (hf k (by omega)) ?_
    refine R_astore_n (pc := 15) dX6_rank_15 (Nat.le_of_ble_eq_true rfl) rfl ?_
    refine R_iload_n (pc := 16) dX6_rank_16 rfl ?_
    refine R_istore_n (pc := 17) dX6_rank_17 (Nat.le_of_ble_eq_true rfl) rfl ?_
    refine lc6_rki hc hr9 (show k < c by omega) k h qe f V la k rfl hs (fun x hx _ => hf x hx) hI hK ⟨⟨fun a b h1 h2 h3 h4 => hS a b h1 (by omega), fun b h1 h2 => absurd h1 (by omega)⟩, Nat.le_refl k⟩ hg (fun h2 qe2 f2 V2 la2 o2 o3 q1 q2 q3 q4 q5 q6 => ?_)
    refine R_iinc (pc := 60) dX6_rank_60 rfl (by first | exact nI_inc _ | rfl) rfl ?_
    refine R_goto (pc := 63) (t := 2) dX6_rank_63 (by decide) ?_
    exact lc6_rko2 hc hr9 n (k + 1) h2 qe2 f2 V2 la2 _ _ (by omega) q1 q2 q3 q4 q5 q6 hX
theorem c6_rank {u c m : Nat} {Z : Nat → Int32} {lim : Int32} {acc : Nat → Nat → Int32} {qe : Nat → Nat} {f : Nat → Option Nat} {V : Nat → Nat → Int32} {la : Nat → Nat} (hs : SwX h u c qe f V Z) (hf : SwF u qe f) (hI : KeyI acc m c la) (hK : KeyO lim acc c la V) (hc : c ≤ 40) (hr9 : ∀ k, k < m → ∀ x, x < 3 → ∃ y, y < 10000 ∧ acc k x = nI y) (hX : (∀ (h2 : Nat → Option am_C) (qe : Nat → Nat) (f : Nat → Option Nat) (V : Nat → Nat → Int32) (la : Nat → Nat), SwX h2 u c qe f V Z → SwF u qe f → KeyI acc m c la → KeyO lim acc c la V → Srt lim acc c la → (∀ a, (a < u ∨ u + 44 ≤ a) → h2 a = h a) → Q none (h2, z))) : Rn sA mX6_rank 0 [some (.ref u), none, none, none] [] (h, z) Q := by
  have hs1 := hs.1
  by_cases c0 : c = 0
  · subst c0
    refine R_iconst (pc := 0) (x := nI 1) dX6_rank_0 rfl ?_
    refine R_istore_n (pc := 1) dX6_rank_1 (Nat.le_of_ble_eq_true rfl) rfl ?_
    refine R_iload_n (pc := 2) dX6_rank_2 rfl ?_
    refine R_aload_n (pc := 3) dX6_rank_3 rfl ?_
    refine R_getf (pc := 4) dX6_rank_4 rfl (by repeat (first | assumption | exact up_s | refine up_n (by omega) ?_)) rfl ?_
    refine R_icmp_ge (pc := 7) (t := 66) dX6_rank_7 (by decide) (fun _ => ?_) (fun hz9 => absurd (by decide) hz9)
    refine R_vret (pc := 66) dX6_rank_66 rfl ?_
    exact hX h qe f V la hs hf hI hK (fun a b _ hb => absurd hb (Nat.not_lt_zero _)) (fun _ _ => rfl)
  · refine R_iconst (pc := 0) (x := nI 1) dX6_rank_0 rfl ?_
    refine R_istore_n (pc := 1) dX6_rank_1 (Nat.le_of_ble_eq_true rfl) rfl ?_
    exact lc6_rko2 (g := h) hc hr9 (c - 1) 1 h qe f V la none none (by omega) hs hf hI hK (fun a b h1 h2 => by omega) (fun _ _ => rfl) hX
end CD6
