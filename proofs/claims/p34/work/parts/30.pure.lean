theorem nI_inc (k : Nat) : nI k + Int32.ofInt 1 = nI (k + 1) := (nI_succ k).symm
/-- the value of a field that begins at p: n columns to go, the next is the k-th, v so far -/
def valR (g : Nat → Int32) (p : Nat) : Nat → Nat → Int32 → Int32
  | 0, _, v => v
  | n + 1, k, v => if g (p + k) = (-1000009) then (-1000009) else valR g p n (k + 1) (nI 10 * v + g (p + k))
def digR (g : Nat → Int32) (p k : Nat) : Int32 := if g (p + k) = (-1000009) then nI 0 else if k % 2 = 0 then nI 3 * g (p + k) else g (p + k)
def dueF (g : Nat → Int32) (p : Nat) : Nat → Nat → Int32 → Int32
  | 0, _, s => s
  | n + 1, k, s => dueF g p n (k + 1) (s + digR g p k)
def dueO (P Wd : Nat → Nat) (g : Nat → Int32) : Nat → Nat → Int32 → Int32
  | 0, _, s => s
  | n + 1, f, s => dueO P Wd g n (f + 1) (dueF g (P f) (Wd f) 0 s)
def rem10 (s : Int32) : Int32 := s - s / nI 10 * nI 10
def dueR (P Wd : Nat → Nat) (g : Nat → Int32) : Int32 := rem10 (dueO P Wd g 5 0 (nI 0))
def valF (P Wd : Nat → Nat) (g : Nat → Int32) (f : Nat) : Int32 := valR g (P f) (Wd f) 0 (nI 0)
/-- where the fields lie, in numbers -/
def LayW (u : Nat → Int32) (P Wd : Nat → Nat) : Prop := ∀ f, f < 6 → u (0 + 2 * f) = nI (P f) ∧ u (0 + 2 * f + 1) = nI (Wd f) ∧ P f + Wd f ≤ 24
section MOD1
variable {sA : Nat} {h : Nat → Option am_C} {z : Nat × Nat} {Q : Option Value → am_H → Prop} {M : Nat} {A : Nat → Nat → Int32} {S : Nat → Int32}
theorem digR_none {g : Nat → Int32} {p k : Nat} (h : g (p + k) = (-1000009)) : digR g p k = nI 0 := by unfold digR; rw [if_pos h]
theorem digR_even {g : Nat → Int32} {p k : Nat} (h : ¬ g (p + k) = (-1000009)) (h2 : nI (k % 2) = 0) : digR g p k = nI 3 * g (p + k) := by
  unfold digR
  rw [if_neg h, if_pos ((nI_eq (by omega) (by omega)).mp (h2.trans nI_0.symm))]
theorem digR_odd {g : Nat → Int32} {p k : Nat} (h : ¬ g (p + k) = (-1000009)) (h2 : ¬ nI (k % 2) = 0) : digR g p k = g (p + k) := by
  unfold digR
  rw [if_neg h, if_neg (fun q => h2 (by rw [q]; exact nI_0))]
/-- what is read of a card that is fed -/
def rdF (u : Nat → Int32) (c k : Nat) : Int32 := if u (20 + 26 * c + 24) = nI 3 ∧ nI k = u (20 + 26 * c + 25) then (-1000009) else if u (20 + 26 * c + 24) = nI 2 then (if k + 1 < 24 then u (20 + 26 * c + (k + 1)) else (-1000009)) else u (20 + 26 * c + k)
end MOD1
section MOD2
variable {sA : Nat} {h : Nat → Option am_C} {z : Nat × Nat} {Q : Option Value → am_H → Prop} {M : Nat} {A : Nat → Nat → Int32} {S : Nat → Int32}
theorem valR_congr {g g' : Nat → Int32} {p : Nat} (hg : ∀ j, j < 24 → g j = g' j) : ∀ (n k : Nat) (v : Int32), p + k + n ≤ 24 → valR g p n k v = valR g' p n k v
  | 0, _, _, _ => rfl
  | n + 1, k, v, h => by
    unfold valR
    rw [hg (p + k) (by omega), valR_congr hg n (k + 1) _ (by omega)]
theorem dueF_congr {g g' : Nat → Int32} {p : Nat} (hg : ∀ j, j < 24 → g j = g' j) : ∀ (n k : Nat) (s : Int32), p + k + n ≤ 24 → dueF g p n k s = dueF g' p n k s
  | 0, _, _, _ => rfl
  | n + 1, k, s, h => by
    unfold dueF digR
    rw [hg (p + k) (by omega), dueF_congr hg n (k + 1) _ (by omega)]
theorem dueO_congr {P Wd : Nat → Nat} {u g g' : Nat → Int32} (hL : LayW u P Wd) (hg : ∀ j, j < 24 → g j = g' j) : ∀ (n f : Nat) (s : Int32), f + n ≤ 6 → dueO P Wd g n f s = dueO P Wd g' n f s
  | 0, _, _, _ => rfl
  | n + 1, f, s, h => by
    unfold dueO
    have h1 := (hL f (by omega)).2.2
    rw [dueF_congr hg (Wd f) 0 s (by omega), dueO_congr hL hg n (f + 1) _ (by omega)]
theorem valF_congr {P Wd : Nat → Nat} {u g g' : Nat → Int32} (hL : LayW u P Wd) (hg : ∀ j, j < 24 → g j = g' j) {f : Nat} (hf : f < 6) : valF P Wd g f = valF P Wd g' f := valR_congr hg (Wd f) 0 (nI 0) (by have := (hL f hf).2.2; omega)
theorem dueR_congr {P Wd : Nat → Nat} {u g g' : Nat → Int32} (hL : LayW u P Wd) (hg : ∀ j, j < 24 → g j = g' j) : dueR P Wd g = dueR P Wd g' := by
  unfold dueR
  rw [dueO_congr hL hg 5 0 (nI 0) (by omega)]
/-- one of the fields 0 to 4 has no value -/
abbrev noVal (P Wd : Nat → Nat) (g : Nat → Int32) : Prop := valF P Wd g 0 = (-1000009) ∨ valF P Wd g 1 = (-1000009) ∨ valF P Wd g 2 = (-1000009) ∨ valF P Wd g 3 = (-1000009) ∨ valF P Wd g 4 = (-1000009)
/-- the reason of a card by itself: k5 checks, k6 the most hours, mk its mark, g what is read -/
def rsnR (P Wd : Nat → Nat) (mk ck mh : Int32) (g : Nat → Int32) : Int32 := if mk = nI 1 then nI 1 else if noVal P Wd g then nI 2 else if ck = nI 1 ∧ ¬ valF P Wd g 5 = dueR P Wd g then nI 3 else if mh < valF P Wd g 3 then nI 4 else nI 0
end MOD2
section MOD3
variable {sA : Nat} {h : Nat → Option am_C} {z : Nat × Nat} {Q : Option Value → am_H → Prop} {M : Nat} {A : Nat → Nat → Int32} {S : Nat → Int32}
theorem cpy_in {f g : Nat → Int32} {sp dp n j : Nat} (h1 : dp ≤ j) (h2 : j < dp + n) : va_cpy f g sp dp n j = f (sp + (j - dp)) := by unfold va_cpy; rw [if_pos ⟨h1, h2⟩]
theorem cpy_out {f g : Nat → Int32} {sp dp n j : Nat} (h1 : j < dp ∨ dp + n ≤ j) : va_cpy f g sp dp n j = g j := by unfold va_cpy; rw [if_neg (by omega)]
def remP (W P : Nat → Int32) (pm : Nat) : Nat → Int32 := if pm = 8 then va_cpy W (va_cpy P P 2754 0 19278) 0 (2754 * 7) 2754 else va_cpy W P 0 (2754 * pm) 2754
def remN (pm : Nat) : Nat := if pm = 8 then 8 else pm + 1
end MOD3
section MOD4
variable {sA : Nat} {h : Nat → Option am_C} {z : Nat × Nat} {Q : Option Value → am_H → Prop} {M : Nat} {A : Nat → Nat → Int32} {S : Nat → Int32}
theorem ix_inG (x : Int32) {a b : Nat} (ha : a ≤ b) (hb : b < 2 ^ 30) : (nI a ≤ x ∧ x ≤ nI b) ↔ ∃ j, a ≤ j ∧ j ≤ b ∧ x = nI j := by
  constructor
  · rintro ⟨h1, h2⟩
    have h0 : nI 0 ≤ x := Int32.le_trans ((nI_leI (by omega) (by omega)).mpr (Nat.zero_le a)) h1
    rcases pk_ix x (n := b + 1) (by omega) with q | q | ⟨j, q1, q2⟩
    · exact absurd h0 (Int32.not_le.mpr q)
    · have := (nI_leI (by omega) (by omega)).mp (Int32.le_trans q h2)
      omega
    · subst q2
      exact ⟨j, (nI_leI (by omega) (by omega)).mp h1, by omega, rfl⟩
  · rintro ⟨j, h1, h2, rfl⟩
    exact ⟨(nI_leI (by omega) (by omega)).mpr h1, (nI_leI (by omega) (by omega)).mpr h2⟩
def layOK (a b c : Int32) (f p q : Nat) : Prop := f < 6 ∧ 1 ≤ q ∧ q ≤ (if f = 5 then 1 else 4) ∧ p + q ≤ 24 ∧ a = nI f ∧ b = nI p ∧ c = nI q
def setOK (a b : Int32) (k v : Nat) : Prop := k < 4 ∧ v ≤ (if k = 0 then 2 else if k = 1 then 1 else 9999) ∧ a = nI k ∧ b = nI v
def ctlOK (a b : Int32) (k : Nat) : Prop := k < 3 ∧ a = nI k ∧ (b = (-1000009) ∨ ∃ v, v ≤ 1000000 ∧ b = nI v)
def rpOK (n : Nat) (a b d : Int32) (c k : Nat) : Prop := c < n ∧ k < 24 ∧ a = nI c ∧ b = nI k ∧ (d = (-1000009) ∨ ∃ v, v ≤ 9 ∧ d = nI v)
def mkOK (n : Nat) (a b d : Int32) (c k t : Nat) : Prop := c < n ∧ k ≤ 3 ∧ t < 24 ∧ a = nI c ∧ b = nI k ∧ d = nI t
end MOD4
section MOD5
variable {sA : Nat} {h : Nat → Option am_C} {z : Nat × Nat} {Q : Option Value → am_H → Prop} {M : Nat} {A : Nat → Nat → Int32} {S : Nat → Int32}
/-! counting: a pass by a column puts card k at place pos k -/
def cnt (sk : Nat → Nat) (d : Nat) : Nat → Nat
  | 0 => 0
  | n + 1 => cnt sk d n + if sk n = d then 1 else 0
def cum (sk : Nat → Nat) (n : Nat) : Nat → Nat
  | 0 => 0
  | d + 1 => cum sk n d + cnt sk d n
def pos (sk : Nat → Nat) (n k : Nat) : Nat := cum sk n (sk k) + cnt sk (sk k) k
theorem cnt_mono {sk : Nat → Nat} {d : Nat} : ∀ {n m : Nat}, n ≤ m → cnt sk d n ≤ cnt sk d m
  | n, 0, h => by
    obtain rfl : n = 0 := by omega
    exact Nat.le_refl _
  | n, m + 1, h => by
    by_cases e : n = m + 1
    · subst e; exact Nat.le_refl _
    · exact Nat.le_trans (cnt_mono (by omega : n ≤ m)) (Nat.le_add_right _ _)
theorem cnt_lt {sk : Nat → Nat} {k n : Nat} (h : k < n) : cnt sk (sk k) k < cnt sk (sk k) n := by
  have h1 : cnt sk (sk k) (k + 1) = cnt sk (sk k) k + 1 := by show _ + _ = _; rw [if_pos rfl]
  have h2 := cnt_mono (sk := sk) (d := sk k) (show k + 1 ≤ n by omega)
  omega
theorem cum_mono {sk : Nat → Nat} {n : Nat} : ∀ {d e : Nat}, d ≤ e → cum sk n d ≤ cum sk n e
  | d, 0, h => by
    obtain rfl : d = 0 := by omega
    exact Nat.le_refl _
  | d, e + 1, h => by
    by_cases q : d = e + 1
    · subst q; exact Nat.le_refl _
    · exact Nat.le_trans (cum_mono (by omega : d ≤ e)) (Nat.le_add_right _ _)
theorem cum_step {sk : Nat → Nat} {n : Nat} : ∀ d, cum sk (n + 1) d = cum sk n d + if sk n < d then 1 else 0
  | 0 => by simp [cum]
  | d + 1 => by
    show cum sk (n + 1) d + (cnt sk d n + if sk n = d then 1 else 0) = cum sk n d + cnt sk d n + _
    rw [cum_step d]
    split <;> split <;> split <;> omega
theorem cum_all {sk : Nat → Nat} {D : Nat} : ∀ {n : Nat}, (∀ k, k < n → sk k < D) → cum sk n D = n
  | 0, _ => by
    have : ∀ d, cum sk 0 d = 0 := by
      intro d
      induction d with
      | zero => rfl
      | succ d ih => unfold cum; rw [ih]; rfl
    exact this D
  | n + 1, h => by
    rw [cum_step, cum_all (fun k hk => h k (by omega)), if_pos (h n (by omega))]
theorem pos_lt {sk : Nat → Nat} {D n k : Nat} (hs : ∀ k, k < n → sk k < D) (hk : k < n) : pos sk n k < n := by
  have h1 := cnt_lt (sk := sk) hk
  have h2 : cum sk n (sk k + 1) ≤ cum sk n D := cum_mono (by have := hs k hk; omega)
  rw [cum_all hs] at h2
  have h3 : cum sk n (sk k + 1) = cum sk n (sk k) + cnt sk (sk k) n := rfl
  unfold pos
  omega
theorem pos_inj {sk : Nat → Nat} {n k k' : Nat} (hk : k < n) (hk' : k' < n) (h : pos sk n k = pos sk n k') : k = k' := by
  have h1 := cnt_lt (sk := sk) hk
  have h2 := cnt_lt (sk := sk) hk'
  have h3 : cum sk n (sk k + 1) = cum sk n (sk k) + cnt sk (sk k) n := rfl
  have h4 : cum sk n (sk k' + 1) = cum sk n (sk k') + cnt sk (sk k') n := rfl
  unfold pos at h
  rcases Nat.lt_trichotomy (sk k) (sk k') with q | q | q
  · have := cum_mono (sk := sk) (n := n) (show sk k + 1 ≤ sk k' by omega); omega
  · rw [q] at h
    rcases Nat.lt_trichotomy k k' with r | r | r
    · have := cnt_mono (sk := sk) (d := sk k') (show k + 1 ≤ k' by omega)
      have h5 : cnt sk (sk k') (k + 1) = cnt sk (sk k') k + 1 := by show _ + _ = _; rw [if_pos q]
      omega
    · exact r
    · have := cnt_mono (sk := sk) (d := sk k') (show k' + 1 ≤ k by omega)
      have h5 : cnt sk (sk k') (k' + 1) = cnt sk (sk k') k' + 1 := by show _ + _ = _; rw [if_pos rfl]
      omega
  · have := cum_mono (sk := sk) (n := n) (show sk k' + 1 ≤ sk k by omega); omega
theorem cnt_find {sk : Nat → Nat} {d r : Nat} : ∀ {n : Nat}, r < cnt sk d n → ∃ k, k < n ∧ sk k = d ∧ cnt sk d k = r
  | 0, h => by simp [cnt] at h
  | n + 1, h => by
    by_cases q : r < cnt sk d n
    · obtain ⟨k, h1, h2, h3⟩ := cnt_find q
      exact ⟨k, by omega, h2, h3⟩
    · unfold cnt at h
      split at h
      · rename_i e
        exact ⟨n, by omega, e, by omega⟩
      · omega
theorem cum_find {sk : Nat → Nat} {n i : Nat} : ∀ {d : Nat}, i < cum sk n d → ∃ e, e < d ∧ cum sk n e ≤ i ∧ i < cum sk n (e + 1)
  | 0, h => by simp [cum] at h
  | d + 1, h => by
    by_cases q : i < cum sk n d
    · obtain ⟨e, h1, h2, h3⟩ := cum_find q
      exact ⟨e, by omega, h2, h3⟩
    · exact ⟨d, by omega, by omega, h⟩
theorem pos_surj {sk : Nat → Nat} {D n i : Nat} (hs : ∀ k, k < n → sk k < D) (hi : i < n) : ∃ k, k < n ∧ pos sk n k = i := by
  obtain ⟨e, h1, h2, h3⟩ := cum_find (sk := sk) (n := n) (i := i) (d := D) (by rw [cum_all hs]; exact hi)
  have h4 : cum sk n (e + 1) = cum sk n e + cnt sk e n := rfl
  obtain ⟨k, q1, q2, q3⟩ := cnt_find (sk := sk) (d := e) (r := i - cum sk n e) (n := n) (by omega)
  exact ⟨k, q1, by unfold pos; rw [q2, q3]; omega⟩
/-- what a column shows that goes to stack d -/
def dgt (d : Nat) : Int32 := if d = 0 then (-1000009) else nI (d - 1)
/-- the deck behind the cards that are done: U before, V now, N and G their numbers -/
def PbI (sk : Nat → Nat) (n : Nat) (U V N G : Nat → Int32) (d k : Nat) : Prop := (∀ i, i < n → (sk i < d ∨ (sk i = d ∧ i < k)) → (∀ j, j < 26 → V (20 + 26 * pos sk n i + j) = U (20 + 26 * i + j)) ∧ G (pos sk n i) = N i) ∧ ∀ j, (j < 20 ∨ 20 + 26 * n ≤ j) → V j = U j
theorem PbI.skip {sk : Nat → Nat} {n : Nat} {U V N G : Nat → Int32} {d k : Nat} (h : PbI sk n U V N G d k) (hk : ¬ sk k = d) : PbI sk n U V N G d (k + 1) :=
  ⟨fun i hi hd => h.1 i hi (hd.elim (fun q => Or.inl q) (fun ⟨q, r⟩ => Or.inr ⟨q, Nat.lt_of_le_of_ne (by omega) (fun e => hk (by rw [← e]; exact q))⟩)), h.2⟩
theorem PbI.next {sk : Nat → Nat} {n : Nat} {U V N G : Nat → Int32} {d : Nat} (h : PbI sk n U V N G d n) : PbI sk n U V N G (d + 1) 0 :=
  ⟨fun i hi hd => h.1 i hi (by
    by_cases e : sk i = d
    · exact Or.inr ⟨e, hi⟩
    · exact Or.inl (by omega)), h.2⟩
theorem PbI.put {sk : Nat → Nat} {n : Nat} {U V N G F E : Nat → Int32} {d k : Nat} (hn : n ≤ 40) (hs : ∀ i, i < n → sk i < 11) (h : PbI sk n U V N G d k) (hk : k < n) (hd : sk k = d) (hF : ∀ j, j < 1040 → F j = U (20 + j)) (hE : ∀ i, i < n → E i = N i) : PbI sk n U (va_cpy F V (26 * k) (20 + 26 * pos sk n k) 26) N (upd G (pos sk n k) (E k)) d (k + 1) := by
  have hp := pos_lt hs hk
  refine ⟨fun i hi hdn => ?_, fun j hj => ?_⟩
  · by_cases e : i = k
    · subst e
      refine ⟨fun j hj => ?_, by rw [upd_s]; exact hE i hi⟩
      rw [cpy_in (by omega) (by omega), show 20 + 26 * pos sk n i + j - (20 + 26 * pos sk n i) = j by omega, hF _ (by omega), show 20 + (26 * i + j) = 20 + 26 * i + j by omega]
    · have hne : pos sk n i ≠ pos sk n k := fun q => e (pos_inj hi hk q)
      obtain ⟨q1, q2⟩ := h.1 i hi (hdn.elim (fun q => Or.inl q) (fun ⟨q, r⟩ => Or.inr ⟨q, by omega⟩))
      refine ⟨fun j hj => ?_, by rw [upd_n hne]; exact q2⟩
      rw [cpy_out (by omega)]
      exact q1 j hj
  · rw [cpy_out (by omega)]
    exact h.2 j hj
end MOD5
section MOD6
variable {sA : Nat} {h : Nat → Option am_C} {z : Nat × Nat} {Q : Option Value → am_H → Prop} {M : Nat} {A : Nat → Nat → Int32} {S : Nat → Int32}
/-- the order that passes bring a deck into: at place i stands the card that was at o i -/
def DkO (U : Nat → Int32) (n : Nat) (o : Nat → Nat) (V : Nat → Int32) : Prop := (∀ i, i < n → ∀ j, j < 26 → V (20 + 26 * i + j) = U (20 + 26 * o i + j)) ∧ ∀ j, (j < 20 ∨ 20 + 26 * n ≤ j) → V j = U j
def skF (U : Nat → Int32) (c i : Nat) : Nat := if U (20 + 26 * i + c) = (-1000009) then 0 else (U (20 + 26 * i + c)).toNatClampNeg + 1
def invP (sk : Nat → Nat) (n i : Nat) : Nat := ((List.range n).find? (fun k => pos sk n k == i)).getD 0
def nxtO (U : Nat → Int32) (n c : Nat) (o : Nat → Nat) : Nat → Nat := fun i => o (invP (fun k => skF U c (o k)) n i)
theorem invP_pos {sk : Nat → Nat} {n k : Nat} (hk : k < n) : invP sk n (pos sk n k) = k := by
  unfold invP
  cases h : (List.range n).find? (fun x => pos sk n x == pos sk n k) with
  | none =>
    have := List.find?_eq_none.mp h k (List.mem_range.mpr hk)
    simp at this
  | some x =>
    have h1 := List.find?_some h
    have h2 := List.mem_of_find?_eq_some h
    have h3 : pos sk n x = pos sk n k := by simpa using h1
    exact pos_inj (List.mem_range.mp h2) hk h3
/-- every column of the first n cards shows a digit, or is blank -/
def DigW (U : Nat → Int32) (n : Nat) : Prop := ∀ i, i < n → ∀ c, c < 24 → ∃ d, d < 11 ∧ U (20 + 26 * i + c) = dgt d
theorem skF_sp {U : Nat → Int32} {n i c : Nat} (hD : DigW U n) (hi : i < n) (hc : c < 24) : skF U c i < 11 ∧ U (20 + 26 * i + c) = dgt (skF U c i) := by
  obtain ⟨d, h1, h2⟩ := hD i hi c hc
  have e : skF U c i = d := by
    unfold skF
    rw [h2]
    unfold dgt
    by_cases q : d = 0
    · subst q; rw [if_pos rfl, if_pos rfl]
    · rw [if_neg q]
      have : ∀ x : Fin 11, ¬ nI x.val = (-1000009) := by decide
      rw [if_neg (this ⟨d - 1, by omega⟩), nI_clamp (by omega)]
      omega
  rw [e]
  exact ⟨h1, h2⟩
/-- how many cards have another number -/
def mvO (o : Nat → Nat) : Nat → Nat → Int32 → Int32
  | 0, _, a => a
  | n + 1, k, a => mvO o n (k + 1) (a + (if o k = k then nI 0 else nI 1))
/-- passes by the columns q - 1, .., 0 of a field that begins at column f -/
def srtO (U : Nat → Int32) (n f : Nat) : Nat → (Nat → Nat) → Nat → Nat
  | 0, o => o
  | q + 1, o => srtO U n f q (nxtO U n (f + q) o)
end MOD6
section MOD7
variable {sA : Nat} {h : Nat → Option am_C} {z : Nat × Nat} {Q : Option Value → am_H → Prop} {M : Nat} {A : Nat → Nat → Int32} {S : Nat → Int32}
def tkO (c m i : Nat) : Nat := if c ≤ i ∧ i < m then i + 1 else i
def mvO2 (c t i : Nat) : Nat := if i = t then c else if c ≤ i ∧ i < t then i + 1 else if t < i ∧ i ≤ c then i - 1 else i
def mvA (c m i : Nat) : Nat := if c ≤ i ∧ i < m then i + 1 else i
def mvB (c t m i : Nat) : Nat := if m < i ∧ i ≤ c then i - 1 else mvA c t i
theorem mvA_step {c m : Nat} (i : Nat) (hc : c ≤ m) : (if i = m then m + 1 else mvA c m i) = mvA c (m + 1) i := by
  unfold mvA
  repeat' split
  all_goals omega
theorem mvB_step {c t m : Nat} (i : Nat) (hc : m + 1 ≤ c) : (if i = m + 1 then m else mvB c t (m + 1) i) = mvB c t m i := by
  unfold mvB
  repeat' split
  all_goals omega
theorem mvB_end {c t : Nat} (i : Nat) : (if i = t then c else mvB c t (min c t) i) = mvO2 c t i := by
  unfold mvB mvA mvO2
  repeat' split
  all_goals omega
theorem mvB_0 {c t : Nat} (i : Nat) : mvB c t c i = mvA c t i := by
  unfold mvB
  rw [if_neg (by omega)]
def mvN (c t : Nat) : Nat := if c = t then 0 else if c < t then t - c + 1 else c - t + 1
end MOD7
section MOD8
variable {sA : Nat} {h : Nat → Option am_C} {z : Nat × Nat} {Q : Option Value → am_H → Prop} {M : Nat} {A : Nat → Nat → Int32} {S : Nat → Int32}
def keyM (d g u : Int32) : Int64 := 100000000 * d.toInt64 + 10000 * g.toInt64 + u.toInt64
def colW (U : Nat → Int32) (k : Nat) : Nat → Int32 := fun j => U (20 + 26 * k + j)
/-- from card k on, the latest key is l: 1 if they are in order -/
def ordR (P Wd : Nat → Nat) (U : Nat → Int32) : Nat → Nat → Int64 → Int32
  | 0, _, _ => nI 1
  | n + 1, k, l => if valF P Wd (colW U k) 0 = (-1000009) ∨ valF P Wd (colW U k) 1 = (-1000009) ∨ valF P Wd (colW U k) 2 = (-1000009) then ordR P Wd U n (k + 1) l else if keyM (valF P Wd (colW U k) 0) (valF P Wd (colW U k) 1) (valF P Wd (colW U k) 2) < l then nI 0 else ordR P Wd U n (k + 1) (keyM (valF P Wd (colW U k) 0) (valF P Wd (colW U k) 1) (valF P Wd (colW U k) 2))
theorem cmp_ge {x y : Int64} : (0 : Int32) ≤ lg_cmp x y ↔ ¬ x < y := by
  unfold lg_cmp
  split
  · rename_i q
    exact ⟨fun _ => lg_lt_not q, fun _ => by decide⟩
  · rename_i q
    split
    · rename_i e
      subst e
      exact ⟨fun _ => q, fun _ => by decide⟩
    · rename_i e
      refine ⟨fun z => absurd z (by decide), fun z => ?_⟩
      rcases lg_tri x y with t | t | t
      · exact absurd t z
      · exact absurd t e
      · exact absurd t q
def refR (U : Nat → Int32) : Nat → Nat → Int32 → Int32
  | 0, _, a => a
  | n + 1, k, a => refR U n (k + 1) (a + (if nI 1 ≤ U (1063 + k) ∧ U (1063 + k) ≤ nI 5 then nI 1 else nI 0))
def difR (U : Nat → Int32) (x : Nat) : Nat → Nat → Int32 → Int32
  | 0, _, a => a
  | n + 1, k, a => difR U x n (k + 1) (a + (if x = 0 then nI 1 else U (1104 + 5 * k + (if x = 1 then 3 else 2))))
end MOD8
section MOD9
variable {sA : Nat} {h : Nat → Option am_C} {z : Nat × Nat} {Q : Option Value → am_H → Prop} {M : Nat} {A : Nat → Nat → Int32} {S : Nat → Int32}
theorem sw_case (a : Int32) {lo hi : Nat} (h1 : lo ≤ hi) (h2 : hi < 1000000) : (a.toInt < (lo : Int) ∨ (hi : Int) < a.toInt) ∨ ∃ j, lo ≤ j ∧ j ≤ hi ∧ a = nI j := by
  by_cases h : a.toInt < (lo : Int) ∨ (hi : Int) < a.toInt
  · exact Or.inl h
  · right
    have h3 : nI lo ≤ a := Int32.le_iff_toInt_le.mpr (by rw [nI_toInt (by omega)]; omega)
    have h4 : a ≤ nI hi := Int32.le_iff_toInt_le.mpr (by rw [nI_toInt (by omega)]; omega)
    exact (ix_inG a h1 (by omega)).mp ⟨h3, h4⟩
end MOD9
section MOD10
variable {sA : Nat} {h : Nat → Option am_C} {z : Nat × Nat} {Q : Option Value → am_H → Prop} {M : Nat} {A : Nat → Nat → Int32} {S : Nat → Int32}
/-- the field of a letter, 5 for none -/
def ltr (x : Int32) : Nat := if x = nI 100 then 0 else if x = nI 103 then 1 else if x = nI 119 then 2 else if x = nI 104 then 3 else if x = nI 114 then 4 else 5
/-- how a text is read: the field whose word is read (5: none), and of each field the digits, the number, the place where its digits begin -/
def updN (f : Nat → Nat) (k x : Nat) : Nat → Nat := fun j => if j = k then x else f j
abbrev TS := Nat × (Nat → Nat) × (Nat → Nat) × (Nat → Nat)
def scS (Wd : Nat → Nat) (x : Int32) (k : Nat) (s : TS) : Nat × TS :=
  if s.1 = 5 then
    if x = nI 32 then (0, s) else if ltr x = 5 then (1, s) else if 0 < s.2.1 (ltr x) then (2, s) else (0, (ltr x, s.2.1, updN s.2.2.1 (ltr x) 0, updN s.2.2.2 (ltr x) (k + 1)))
  else if nI 48 ≤ x ∧ x ≤ nI 57 then
    if s.2.1 s.1 = Wd s.1 then (3, s) else (0, (s.1, updN s.2.1 s.1 (s.2.1 s.1 + 1), updN s.2.2.1 s.1 (10 * s.2.2.1 s.1 + ((x - nI 48).toNatClampNeg)), s.2.2.2))
  else if x = nI 32 ∧ 0 < s.2.1 s.1 then (0, (5, s.2)) else (1, s)
def sum5 (g : Nat → Nat) : Nat := g 0 + g 1 + g 2 + g 3 + g 4
def scE (s : TS) : Nat := if (s.1 = 5 ∧ sum5 s.2.1 = 0) ∨ (¬ s.1 = 5 ∧ s.2.1 s.1 = 0) then 4 else 0
/-- what is found: the kind of the fault (0 for none), its place, and what was read -/
def scL (Wd : Nat → Nat) (T : Nat → Int32) : Nat → Nat → TS → Nat × Nat × TS
  | 0, k, s => (scE s, k, s)
  | n + 1, k, s => if (scS Wd (T k) k s).1 = 0 then scL Wd T n (k + 1) (scS Wd (T k) k s).2 else ((scS Wd (T k) k s).1, k, s)
def sc0 : TS := (5, fun _ => 0, fun _ => 0, fun _ => 0)
/-- a field and a number of digits that fits -/
def LayV (Wd : Nat → Nat) : Prop := ∀ f, f < 6 → 1 ≤ Wd f ∧ Wd f ≤ 4
def TsOK (Wd : Nat → Nat) (s : TS) : Prop := s.1 ≤ 5 ∧ ∀ f, f < 5 → s.2.1 f ≤ Wd f ∧ s.2.2.1 f < 10 ^ s.2.1 f
theorem ltr_le (x : Int32) : ltr x ≤ 5 := by unfold ltr; (repeat' split) <;> omega
theorem sum5_0 {g : Nat → Nat} : sum5 g = 0 ↔ ∀ f, f < 5 → g f = 0 := by
  unfold sum5
  constructor
  · intro h f hf
    have : ∀ x : Nat, x < 5 → x = 0 ∨ x = 1 ∨ x = 2 ∨ x = 3 ∨ x = 4 := by omega
    rcases this f hf with rfl | rfl | rfl | rfl | rfl <;> omega
  · intro h
    have h0 := h 0 (by omega)
    have h1 := h 1 (by omega)
    have h2 := h 2 (by omega)
    have h3 := h 3 (by omega)
    have h4 := h 4 (by omega)
    omega
theorem dig_of {x : Int32} (h : nI 48 ≤ x ∧ x ≤ nI 57) : ∃ d, d ≤ 9 ∧ x = nI (48 + d) ∧ (x - nI 48).toNatClampNeg = d := by
  obtain ⟨j, h1, h2, rfl⟩ := (ix_inG x (by omega) (by omega)).mp h
  exact ⟨j - 48, by omega, by congr 1; omega, by rw [pk_sub h1, nI_clamp (by omega)]⟩
theorem scS_ok {Wd : Nat → Nat} {x : Int32} {k : Nat} {s : TS} (h : TsOK Wd s) (h0 : (scS Wd x k s).1 = 0) : TsOK Wd (scS Wd x k s).2 := by
  revert h0
  unfold scS
  split
  · split
    · exact fun _ => h
    · split
      · intro q; exact absurd q (by show ¬ 1 = 0; omega)
      · split
        · intro q; exact absurd q (by show ¬ 2 = 0; omega)
        · rename_i h1 h2 h3 h4
          intro _
          refine ⟨ltr_le x, fun f hf => ⟨(h.2 f hf).1, ?_⟩⟩
          show updN s.2.2.1 (ltr x) 0 f < 10 ^ s.2.1 f
          unfold updN
          split
          · exact Nat.pow_pos (by decide)
          · exact (h.2 f hf).2
  · split
    · rename_i h5 hd
      split
      · intro q; exact absurd q (by show ¬ 3 = 0; omega)
      · rename_i h6
        intro _
        refine ⟨h.1, fun f hf => ?_⟩
        obtain ⟨d, h1, -, h2⟩ := dig_of hd
        show updN s.2.1 s.1 (s.2.1 s.1 + 1) f ≤ Wd f ∧ updN s.2.2.1 s.1 (10 * s.2.2.1 s.1 + ((x - nI 48).toNatClampNeg)) f < 10 ^ updN s.2.1 s.1 (s.2.1 s.1 + 1) f
        unfold updN
        have q := h.2 f hf
        split
        · rename_i e
          rw [h2, ← e, Nat.pow_succ]
          rw [← e] at h6
          constructor <;> omega
        · exact q
    · split
      · intro _
        exact ⟨Nat.le_refl 5, h.2⟩
      · intro q; exact absurd q (by show ¬ 1 = 0; omega)
theorem scL_ok {Wd : Nat → Nat} {T : Nat → Int32} : ∀ (n k : Nat) (s : TS), TsOK Wd s → TsOK Wd (scL Wd T n k s).2.2
  | 0, _, _, h => h
  | n + 1, k, s, h => by
    unfold scL
    split
    · rename_i h0
      exact scL_ok n (k + 1) _ (scS_ok h h0)
    · exact h
theorem sc0_ok {Wd : Nat → Nat} : TsOK Wd sc0 := ⟨Nat.le_refl 5, fun _ _ => ⟨Nat.zero_le _, by show 0 < 10 ^ 0; decide⟩⟩
section FLD
variable {sA : Nat} {h : Nat → Option am_C} {z : Nat × Nat} {Q : Option Value → am_H → Prop}
end FLD
theorem nI_noN {j : Nat} (h : j < 2 ^ 31) : ¬ nI j = (-1000009) := by
  intro e
  have h1 := nI_toInt h
  rw [e] at h1
  have : ((-1000009 : Int32)).toInt = -1000009 := by decide
  omega
end MOD10
section MOD11
variable {sA : Nat} {h : Nat → Option am_C} {z : Nat × Nat} {Q : Option Value → am_H → Prop} {M : Nat} {A : Nat → Nat → Int32} {S : Nat → Int32}
/-- the digit that a field's number shows in its j-th column -/
def dgA (Wd vl : Nat → Nat) (f j : Nat) : Nat := vl f / 10 ^ (Wd f - 1 - j) % 10
def psK (P Wd vl : Nat → Nat) (f : Nat) (g : Nat → Int32) : Nat → Int32 := fun j => if P f ≤ j ∧ j < P f + Wd f then nI (dgA Wd vl f (j - P f)) else g j
/-- the numbers of the fields f .. punched in their order -/
def psO (P Wd dg vl : Nat → Nat) : Nat → Nat → (Nat → Int32) → (Nat → Int32)
  | 0, _, g => g
  | n + 1, f, g => psO P Wd dg vl n (f + 1) (if dg f = 0 then g else psK P Wd vl f g)
def psN : Nat → Int32 := fun _ => (-1000009)
/-- the columns of a punched card -/
def psA (P Wd : Nat → Nat) (s : TS) : Nat → Int32 := upd (psO P Wd s.2.1 s.2.2.1 5 0 psN) (P 5) (dueR P Wd (psO P Wd s.2.1 s.2.2.1 5 0 psN))
theorem psK_part {P Wd vl : Nat → Nat} {f : Nat} {g g' : Nat → Int32} (h : ∀ j, j < 24 → g j = g' j) : ∀ j, j < 24 → psK P Wd vl f g j = psK P Wd vl f g' j := by
  intro j hj
  unfold psK
  split
  · rfl
  · exact h j hj
theorem psO_congr {P Wd dg vl : Nat → Nat} : ∀ (n f : Nat) (g g' : Nat → Int32) (_ : ∀ j, j < 24 → g j = g' j), ∀ j, j < 24 → psO P Wd dg vl n f g j = psO P Wd dg vl n f g' j
  | 0, _, _, _, h => h
  | n + 1, f, g, g', h => by
    unfold psO
    refine psO_congr n (f + 1) _ _ ?_
    by_cases e : dg f = 0
    · rw [if_pos e, if_pos e]; exact h
    · rw [if_neg e, if_neg e]; exact psK_part h
theorem scS_kd {Wd : Nat → Nat} {x : Int32} {k : Nat} {s : TS} : (scS Wd x k s).1 < 5 := by
  unfold scS
  (repeat' split) <;> (simp only []; try omega)
/-- the deck with room made behind a place -/
def shO (c i : Nat) : Nat := if c < i then i - 1 else i
def PnS (U : Nat → Int32) (n m : Nat) (V : Nat → Int32) : Prop := (∀ i, i ≤ n → ∀ j, j < 26 → V (20 + 26 * i + j) = U (20 + 26 * (shO m i) + j)) ∧ ∀ j, (j < 20 ∨ 20 + 26 * (n + 1) ≤ j) → V j = U j
theorem PnS.step {U V : Nat → Int32} {n m : Nat} (h : PnS U n (m + 1) V) (hm : m < n) : PnS U n m (va_cpy V V (20 + 26 * m) (20 + 26 * (m + 1)) 26) := by
  refine ⟨fun i hi j hj => ?_, fun j hj => ?_⟩
  · by_cases e : i = m + 1
    · subst e
      rw [cpy_in (by omega) (by omega), show 20 + 26 * m + (20 + 26 * (m + 1) + j - (20 + 26 * (m + 1))) = 20 + 26 * m + j by omega, h.1 m (by omega) j hj]
      congr 1
      unfold shO
      rw [if_neg (by omega), if_pos (by omega)]
      omega
    · rw [cpy_out (by omega), h.1 i hi j hj]
      unfold shO
      by_cases e2 : m + 1 < i
      · rw [if_pos e2, if_pos (by omega)]
      · rw [if_neg e2, if_neg (by omega)]
  · rw [cpy_out (by omega)]
    exact h.2 j hj
/-- the state behind a punch -/
def PnW (U : Nat → Int32) (n c : Nat) (g : Nat → Int32) (V : Nat → Int32) : Prop := (∀ i, i ≤ n → ¬ i = c → ∀ j, j < 26 → V (20 + 26 * i + j) = U (20 + 26 * (shO c i) + j)) ∧ (∀ j, j < 24 → V (20 + 26 * c + j) = g j) ∧ V (20 + 26 * c + 24) = nI 0 ∧ V (20 + 26 * c + 25) = nI 0 ∧ V 19 = nI (n + 1) ∧ ∀ j, (j < 19 ∨ 20 + 26 * (n + 1) ≤ j) → V j = U j
end MOD11
section MOD12
variable {sA : Nat} {h : Nat → Option am_C} {z : Nat × Nat} {Q : Option Value → am_H → Prop} {M : Nat} {A : Nat → Nat → Int32} {S : Nat → Int32}
/-! the deck that is fed: own reasons, keys; the latest key and whether it has stopped; the reasons told -/
def ownF (P Wd : Nat → Nat) (U : Nat → Int32) (i : Nat) : Int32 := rsnR P Wd (U (20 + 26 * i + 24)) (U 13) (U 14) (rdF U i)
def accF (P Wd : Nat → Nat) (U : Nat → Int32) (i f : Nat) : Int32 := valF P Wd (rdF U i) f
def keyF (P Wd : Nat → Nat) (U : Nat → Int32) (i : Nat) : Int64 := keyM (accF P Wd U i 0) (accF P Wd U i 1) (accF P Wd U i 2)
def tellR (o : Int32) (k : Int64) (ru : Int32) (st : Int64 × Bool) : Int32 := if st.2 = true then nI 6 else if o = nI 0 ∧ ¬ ru = 0 ∧ k < st.1 then (if ru = nI 2 then nI 6 else nI 5) else o
def nxtS (o : Int32) (k : Int64) (ru : Int32) (st : Int64 × Bool) : Int64 × Bool := (if tellR o k ru st = nI 0 then k else st.1, if st.2 = true then true else if o = nI 0 ∧ ¬ ru = 0 ∧ k < st.1 then decide (ru = nI 2) else false)
def fdS (P Wd : Nat → Nat) (U : Nat → Int32) (ru : Int32) : Nat → Int64 × Bool
  | 0 => (-1, false)
  | i + 1 => nxtS (ownF P Wd U i) (keyF P Wd U i) ru (fdS P Wd U ru i)
def fdR (P Wd : Nat → Nat) (U : Nat → Int32) (ru : Int32) (i : Nat) : Int32 := tellR (ownF P Wd U i) (keyF P Wd U i) ru (fdS P Wd U ru i)
def skA (P Wd : Nat → Nat) (U : Nat → Int32) (ru : Int32) (i : Nat) : Nat := if fdR P Wd U ru i = nI 0 then 0 else 1
/-- how many of the first cards are accepted -/
def accN (P Wd : Nat → Nat) (U : Nat → Int32) (ru : Int32) (i : Nat) : Nat := cnt (skA P Wd U ru) 0 i
theorem accN_s (P Wd : Nat → Nat) (U : Nat → Int32) (ru : Int32) (i : Nat) : accN P Wd U ru (i + 1) = if fdR P Wd U ru i = nI 0 then accN P Wd U ru i + 1 else accN P Wd U ru i := by
  unfold accN
  show cnt (skA P Wd U ru) 0 i + _ = _
  unfold skA
  by_cases e : fdR P Wd U ru i = nI 0
  · rw [if_pos e, if_pos e, if_pos rfl]
  · rw [if_neg e, if_neg e, if_neg (by omega), Nat.add_zero]
theorem accN_le (P Wd : Nat → Nat) (U : Nat → Int32) (ru : Int32) : ∀ i, accN P Wd U ru i ≤ i
  | 0 => Nat.le_refl 0
  | i + 1 => by
    have := accN_le P Wd U ru i
    rw [accN_s]
    split <;> omega
theorem accN_mono {P Wd : Nat → Nat} {U : Nat → Int32} {ru : Int32} {i j : Nat} (h : i ≤ j) : accN P Wd U ru i ≤ accN P Wd U ru j := cnt_mono h
theorem own0 {P Wd : Nat → Nat} {mk ck mh : Int32} {g : Nat → Int32} (h : rsnR P Wd mk ck mh g = nI 0) : ¬ mk = nI 1 := by
  intro e
  unfold rsnR at h
  rw [if_pos e] at h
  exact absurd h (by decide)
end MOD12
section MOD13
variable {sA : Nat} {h : Nat → Option am_C} {z : Nat × Nat} {Q : Option Value → am_H → Prop} {M : Nat} {A : Nat → Nat → Int32} {S : Nat → Int32}
/-! THE REPORT: lines so far, their columns, the sums of the four levels -/
abbrev PS := Nat × (Nat → Nat → Int32) × (Nat → Int32)
abbrev noneK (kd k : Nat) : Prop := kd = 4 ∨ (0 < k ∧ kd = 3) ∨ (1 < k ∧ kd = 2)
def colV (kd : Nat) (v : Nat → Int32) (k : Nat) : Int32 := if noneK kd k then (-1000009) else v k
def lineV (kd : Nat) (v : Nat → Int32) (a b c d e : Int32) (j : Nat) : Int32 := if j = 0 then nI kd else if j < 4 then colV kd v (j - 1) else if j = 4 then a else if j = 5 then b else if j = 6 then c else if j = 7 then d else e
def ovr (h l r : Int32) : Int32 := if l < h then ((h - l).toInt64 * r.toInt64 / 20).toInt32 else nI 0
def wag (v : Nat → Int32) : Int32 := v 3 * v 4 / nI 10
def brkA (lim : Int32) (lv : Nat) (v sm : Nat → Int32) : Nat → Int32 := if lv = 0 then (fun j => if j % 4 = 2 ∨ j % 4 = 3 then sm j + ovr (sm 1) lim (v 4) else sm j) else sm
def putL (p : PS) (L : Nat → Int32) (sm : Nat → Int32) : PS := (p.1 + 1, (fun i j => if i = p.1 then L j else p.2.1 i j), sm)
def brk (lim : Int32) (lv : Nat) (v : Nat → Int32) (p : PS) : PS := putL p (lineV (lv + 1) v (brkA lim lv v p.2.2 (4 * lv)) (brkA lim lv v p.2.2 (4 * lv + 1)) (brkA lim lv v p.2.2 (4 * lv + 2)) (brkA lim lv v p.2.2 (4 * lv + 3)) (-1000009)) (fun j => if j / 4 = lv then nI 0 else brkA lim lv v p.2.2 j)
def brks (lim : Int32) (v : Nat → Int32) : Nat → PS → PS
  | 0, p => p
  | n + 1, p => brk lim n v (brks lim v n p)
def lvN (u v : Nat → Int32) : Nat := if ¬ u 0 = v 0 then 3 else if ¬ u 1 = v 1 then 2 else if ¬ u 2 = v 2 then 1 else 0
def addC (v sm : Nat → Int32) : Nat → Int32 := fun j => if j % 4 = 0 then sm j + nI 1 else if j % 4 = 1 then sm j + v 3 else if j % 4 = 2 then sm j + wag v else sm j
def cardL (v : Nat → Int32) (num : Int32) (p : PS) : PS := putL p (lineV 0 v (nI 1) (v 3) (wag v) (nI 0) num) (addC v p.2.2)
def ptB (lim : Int32) (acc : Nat → Nat → Int32) (k : Nat) (p : PS) : PS := if k = 0 then p else brks lim (acc (k - 1)) (lvN (acc k) (acc (k - 1))) p
def ptS (lim : Int32) (acc : Nat → Nat → Int32) (num : Nat → Int32) : Nat → PS
  | 0 => (0, fun _ _ => 0, fun _ => nI 0)
  | k + 1 => cardL (acc k) (num k) (ptB lim acc k (ptS lim acc num k))
def ptE (lim : Int32) (acc : Nat → Nat → Int32) (num : Nat → Int32) (m : Nat) : PS := brk lim 3 (acc 0) (if m = 0 then ptS lim acc num m else brks lim (acc (m - 1)) 3 (ptS lim acc num m))
theorem brks_1 {lim : Int32} {v : Nat → Int32} : ∀ {n : Nat} {p : PS}, (brks lim v n p).1 = p.1 + n
  | 0, _ => rfl
  | n + 1, p => by
    show (brks lim v n p).1 + 1 = _
    rw [brks_1]
    omega
theorem lvN_le (u v : Nat → Int32) : lvN u v ≤ 3 := by unfold lvN; (repeat' split) <;> omega
theorem ptS_le {lim : Int32} {acc : Nat → Nat → Int32} {num : Nat → Int32} : ∀ k, (ptS lim acc num k).1 ≤ 4 * k ∧ (0 < k → (ptS lim acc num k).1 + 3 ≤ 4 * k)
  | 0 => ⟨Nat.le_refl 0, fun q => absurd q (Nat.lt_irrefl 0)⟩
  | k + 1 => by
    obtain ⟨h1, h2⟩ := ptS_le (lim := lim) (acc := acc) (num := num) k
    have e : (ptS lim acc num (k + 1)).1 = (ptB lim acc k (ptS lim acc num k)).1 + 1 := rfl
    have h3 : (ptB lim acc k (ptS lim acc num k)).1 + 3 ≤ 4 * (k + 1) - 1 := by
      unfold ptB
      split
      · rename_i q; subst q; show 0 + 3 ≤ _; omega
      · have := lvN_le (acc k) (acc (k - 1))
        rw [brks_1]
        have := h2 (by omega)
        omega
    rw [e]
    omega
/-- what stands of a report in the reference's arrays -/
def PsR (U : Nat → Int32) (p : PS) (V Z : Nat → Int32) : Prop := (∀ j, j < 1304 → V j = U j) ∧ V 1304 = nI p.1 ∧ (∀ i, i < p.1 → ∀ j, j < 9 → V (1305 + 9 * i + j) = p.2.1 i j) ∧ ∀ j, j < 16 → Z j = p.2.2 j
theorem PsR.put {U : Nat → Int32} {p : PS} {V Z V2 Z2 L sm : Nat → Int32} (h : PsR U p V Z) (h1 : ∀ j, (j < 1304 ∨ (1305 ≤ j ∧ j < 1305 + 9 * p.1)) → V2 j = V j) (h2 : V2 1304 = nI (p.1 + 1)) (h3 : ∀ j, j < 9 → V2 (1305 + 9 * p.1 + j) = L j) (h4 : ∀ j, j < 16 → Z2 j = sm j) : PsR U (putL p L sm) V2 Z2 := by
  refine ⟨fun j hj => (h1 j (Or.inl hj)).trans (h.1 j hj), h2, fun i hi j hj => ?_, h4⟩
  show _ = if i = p.1 then L j else p.2.1 i j
  have hi2 : i < p.1 + 1 := hi
  by_cases e : i = p.1
  · rw [if_pos e, e]; exact h3 j hj
  · rw [if_neg e, h1 _ (Or.inr ⟨by omega, by omega⟩)]
    exact h.2.2.1 i (by omega) j hj
end MOD13
section MOD14
variable {sA : Nat} {h : Nat → Option am_C} {z : Nat × Nat} {Q : Option Value → am_H → Prop} {M : Nat} {A : Nat → Nat → Int32} {S : Nat → Int32}
theorem PsR.sum {U V : Nat → Int32} {p : PS} {Z : Nat → Int32} (h : PsR U p V Z) {j : Nat} (hj : j < 16) : Z j = p.2.2 j := h.2.2.2 j hj
end MOD14
section MOD15
variable {sA : Nat} {h : Nat → Option am_C} {z : Nat × Nat} {Q : Option Value → am_H → Prop} {M : Nat} {A : Nat → Nat → Int32} {S : Nat → Int32}
/-- the state behind a run of the deck -/
def RunW (P Wd : Nat → Nat) (U : Nat → Int32) (n : Nat) (V : Nat → Int32) : Prop := ∃ V1 G, (∀ j, (j < 1060 ∨ 1304 ≤ j) → V1 j = U j) ∧ V1 1060 = nI 1 ∧ V1 1061 = U 15 ∧ V1 1062 = nI n ∧ V1 1103 = nI (accN P Wd U (U 12) n) ∧ (∀ i, i < n → V1 (1063 + i) = fdR P Wd U (U 12) i) ∧ (∀ i, i < n → fdR P Wd U (U 12) i = nI 0 → (∀ f, f < 5 → V1 (1104 + 5 * accN P Wd U (U 12) i + f) = accF P Wd U i f) ∧ G (accN P Wd U (U 12) i) = nI i) ∧ ∃ Z, PsR V1 (ptE (U 15) (fun k f => V1 (1104 + 5 * k + f)) G (accN P Wd U (U 12) n)) V Z
end MOD15
section MOD16
variable {sA : Nat} {h : Nat → Option am_C} {z : Nat × Nat} {Q : Option Value → am_H → Prop} {M : Nat} {A : Nat → Nat → Int32} {S : Nat → Int32}
/-! THE SECOND WAY: the accepted cards by their keys -/
def alB (acc : Nat → Nat → Int32) (i j : Nat) : Bool := decide (acc i 0 = acc j 0 ∧ acc i 1 = acc j 1 ∧ acc i 2 = acc j 2)
def laN (acc : Nat → Nat → Int32) (k : Nat) : Nat → Nat → Bool
  | 0, _ => true
  | n + 1, i => if alB acc k i = true then false else laN acc k n (i + 1)
/-- whether an accepted card of m is the last one with its key -/
def lastB (acc : Nat → Nat → Int32) (m k : Nat) : Bool := laN acc k (m - (k + 1)) (k + 1)
/-- the sum over the first n for which b holds -/
def sK (b : Nat → Bool) (g : Nat → Int32) : Nat → Int32
  | 0 => nI 0
  | n + 1 => if b n = true then sK b g n + g n else sK b g n
def okS (acc : Nat → Nat → Int32) (l n : Nat) (g : Nat → Int32) : Int32 := sK (fun k => alB acc k l) g n
def okC (acc : Nat → Nat → Int32) (l n : Nat) : Int32 := okS acc l n (fun _ => nI 1)
def okH (acc : Nat → Nat → Int32) (l n : Nat) : Int32 := okS acc l n (fun k => acc k 3)
def okW (acc : Nat → Nat → Int32) (l n : Nat) : Int32 := okS acc l n (fun k => wag (acc k))
def okM (lim : Int32) (acc : Nat → Nat → Int32) (l n : Nat) : Int32 := ovr (okH acc l n) lim (acc l 4)
/-- of the key of the l-th card, over the first n: 0 cards, 1 hours, 2 wages, else overtime -/
def okR (lim : Int32) (acc : Nat → Nat → Int32) (l n what : Nat) : Int32 := if what = 0 then okC acc l n else if what = 1 then okH acc l n else if what = 2 then okW acc l n + okM lim acc l n else okM lim acc l n
def inR (lim : Int32) (acc : Nat → Nat → Int32) (m : Nat) (dep : Int32) (what : Nat) (n : Nat) : Int32 := sK (fun k => lastB acc m k && decide (dep = (-1) ∨ acc k 0 = dep)) (fun k => if what = 4 then nI 1 else okR lim acc k (k + 1) what) n
def keyA (acc : Nat → Nat → Int32) (k : Nat) : Int64 := keyM (acc k 0) (acc k 1) (acc k 2)
def ahB (lim : Int32) (acc : Nat → Nat → Int32) (i k : Nat) : Bool := decide (okR lim acc k (k + 1) 2 < okR lim acc i (i + 1) 2 ∨ (okR lim acc i (i + 1) 2 = okR lim acc k (k + 1) 2 ∧ keyA acc i < keyA acc k))
def rkR (lim : Int32) (acc : Nat → Nat → Int32) (m k n : Nat) : Int32 := sK (fun i => lastB acc m i && ahB lim acc i k) (fun _ => nI 1) n
/-- the first card from i on that is the last with its key and has the place a -/
def rkL (lim : Int32) (acc : Nat → Nat → Int32) (m : Nat) (a : Int32) (what : Nat) : Nat → Nat → Int32
  | 0, _ => (-1000009)
  | n + 1, i => if lastB acc m i = true ∧ rkR lim acc m i m = a then (if what < 3 then acc i what else okR lim acc i (i + 1) 2) else rkL lim acc m a what n (i + 1)
theorem sK_s (b : Nat → Bool) (g : Nat → Int32) (n : Nat) : sK b g (n + 1) = if b n = true then sK b g n + g n else sK b g n := rfl
end MOD16
section MOD17
variable {sA : Nat} {h : Nat → Option am_C} {z : Nat × Nat} {Q : Option Value → am_H → Prop} {M : Nat} {A : Nat → Nat → Int32} {S : Nat → Int32}
def agB (L : Nat → Int32) (lim : Int32) (acc : Nat → Nat → Int32) (m : Nat) : Nat → Bool
  | 0 => true
  | k + 1 => agB L lim acc m k && decide (L k = inR lim acc m (-1) k m)
def bI (b : Bool) : Int32 := if b = true then nI 1 else nI 0
/-- ten times the wages by the hours, as a float -/
def meanV (wg hr : Int32) : UInt32 := FP.fdiv (FP.l2f (10 * wg.toInt64)) (FP.i2f hr)
end MOD17
section MOD18
variable {sA : Nat} {h : Nat → Option am_C} {z : Nat × Nat} {Q : Option Value → am_H → Prop} {M : Nat} {A : Nat → Nat → Int32} {S : Nat → Int32}
def mkF (U : Nat → Int32) (n p sk : Nat) : Nat → Nat → (Nat → Nat) → Nat → Nat
  | 0, _, o => o
  | q + 1, d, o => mkF U n p sk q (d + 1) (if sk ≤ d then nxtO U n (p + q) o else o)
/-- the order behind the passes of the whole sequence but the first sk -/
def mkO (U : Nat → Int32) (n : Nat) (P Wd : Nat → Nat) (sk : Nat) : Nat → Nat := mkF U n (P 0) sk (Wd 0) (0 + Wd 2 + Wd 1) (mkF U n (P 1) sk (Wd 1) (0 + Wd 2) (mkF U n (P 2) sk (Wd 2) 0 id))
def ordG (P Wd : Nat → Nat) (G : Nat → Nat → Int32) : Nat → Nat → Int64 → Int32
  | 0, _, _ => nI 1
  | n + 1, k, l => if valF P Wd (G k) 0 = (-1000009) ∨ valF P Wd (G k) 1 = (-1000009) ∨ valF P Wd (G k) 2 = (-1000009) then ordG P Wd G n (k + 1) l else if keyM (valF P Wd (G k) 0) (valF P Wd (G k) 1) (valF P Wd (G k) 2) < l then nI 0 else ordG P Wd G n (k + 1) (keyM (valF P Wd (G k) 0) (valF P Wd (G k) 1) (valF P Wd (G k) 2))
theorem ordR_G {P Wd : Nat → Nat} {U u : Nat → Int32} {G : Nat → Nat → Int32} {N : Nat} (hL : LayW u P Wd) (hG : ∀ k, k < N → ∀ j, j < 24 → U (20 + 26 * k + j) = G k j) : ∀ (n k : Nat) (l : Int64), k + n = N → ordR P Wd U n k l = ordG P Wd G n k l
  | 0, _, _, _ => rfl
  | n + 1, k, l, h => by
    unfold ordR ordG
    have c : ∀ f, f < 6 → valF P Wd (colW U k) f = valF P Wd (G k) f := fun f hf => valF_congr hL (hG k (by omega)) hf
    rw [c 0 (by omega), c 1 (by omega), c 2 (by omega), ordR_G hL hG n (k + 1) l (by omega), ordR_G hL hG n (k + 1) _ (by omega)]
/-- the least number of last passes that brings the deck into order, from d on: n + 1 to try -/
def paR (U : Nat → Int32) (n : Nat) (P Wd : Nat → Nat) : Nat → Nat → Int32
  | 0, d => if ordG P Wd (fun k j => U (20 + 26 * mkO U n P Wd 0 k + j)) n 0 (-1) = nI 1 then nI d else (-1000009)
  | r + 1, d => if ordG P Wd (fun k j => U (20 + 26 * mkO U n P Wd (r + 1) k + j)) n 0 (-1) = nI 1 then nI d else paR U n P Wd r (d + 1)
theorem ordG_01 {P Wd : Nat → Nat} {G : Nat → Nat → Int32} : ∀ (n k : Nat) (l : Int64), ordG P Wd G n k l = nI 0 ∨ ordG P Wd G n k l = nI 1
  | 0, _, _ => Or.inr rfl
  | n + 1, k, l => by
    unfold ordG
    split
    · exact ordG_01 n (k + 1) l
    · split
      · exact Or.inl rfl
      · exact ordG_01 n (k + 1) _
end MOD18
