section MOD5
variable {sA : Nat} {h : Nat → Option am_C} {z : Nat × Nat} {Q : Option Value → am_H → Prop} {M : Nat} {A : Nat → Nat → Int32} {S : Nat → Int32}
/-! counting: a pass by a column puts card k at place pos k -/
def cnt (sk : Nat → Nat) (d : Nat) : Nat → Nat
  | 0 => 0
  | n + 1 => cnt sk d n + if sk n = d then 1 else 0
def cum (sk : Nat → Nat) (n : Nat) : Nat → Nat
  | 0 => 0
  | d + 1 => cum sk n d + cnt sk d n
def pos (sk : Nat → Nat) (n k : Nat) : Nat := cum sk n (sk k) + cnt sk (sk k) k
theorem cnt_mono {sk : Nat → Nat} {d : Nat} : ∀ {n m : Nat}, n ≤ m → cnt sk d n ≤ cnt sk d m
  | n, 0, h => by
    obtain rfl : n = 0 := by omega
    exact Nat.le_refl _
  | n, m + 1, h => by
    by_cases e : n = m + 1
    · subst e; exact Nat.le_refl _
    · exact Nat.le_trans (cnt_mono (by omega : n ≤ m)) (Nat.le_add_right _ _)
theorem cnt_lt {sk : Nat → Nat} {k n : Nat} (h : k < n) : cnt sk (sk k) k < cnt sk (sk k) n := by
  have h1 : cnt sk (sk k) (k + 1) = cnt sk (sk k) k + 1 := by show _ + _ = _; rw [if_pos rfl]
  have h2 := cnt_mono (sk := sk) (d := sk k) (show k + 1 ≤ n by omega)
  omega
theorem cum_mono {sk : Nat → Nat} {n : Nat} : ∀ {d e : Nat}, d ≤ e → cum sk n d ≤ cum sk n e
  | d, 0, h => by
    obtain rfl : d = 0 := by omega
    exact Nat.le_refl _
  | d, e + 1, h => by
    by_cases q : d = e + 1
    · subst q; exact Nat.le_refl _
    · exact Nat.le_trans (cum_mono (by omega : d ≤ e)) (Nat.le_add_right _ _)
theorem cum_step {sk : Nat → Nat} {n : Nat} : ∀ d, cum sk (n + 1) d = cum sk n d + if sk n < d then 1 else 0
  | 0 => by simp [cum]
  | d + 1 => by
    show cum sk (n + 1) d + (cnt sk d n + if sk n = d then 1 else 0) = cum sk n d + cnt sk d n + _
    rw [cum_step d]
    split <;> split <;> split <;> omega
theorem cum_all {sk : Nat → Nat} {D : Nat} : ∀ {n : Nat}, (∀ k, k < n → sk k < D) → cum sk n D = n
  | 0, _ => by
    have : ∀ d, cum sk 0 d = 0 := by
      intro d
      induction d with
      | zero => rfl
      | succ d ih => unfold cum; rw [ih]; rfl
    exact this D
  | n + 1, h => by
    rw [cum_step, cum_all (fun k hk => h k (by omega)), if_pos (h n (by omega))]
theorem pos_lt {sk : Nat → Nat} {D n k : Nat} (hs : ∀ k, k < n → sk k < D) (hk : k < n) : pos sk n k < n := by
  have h1 := cnt_lt (sk := sk) hk
  have h2 : cum sk n (sk k + 1) ≤ cum sk n D := cum_mono (by have := hs k hk; omega)
  rw [cum_all hs] at h2
  have h3 : cum sk n (sk k + 1) = cum sk n (sk k) + cnt sk (sk k) n := rfl
  unfold pos
  omega
theorem pos_inj {sk : Nat → Nat} {n k k' : Nat} (hk : k < n) (hk' : k' < n) (h : pos sk n k = pos sk n k') : k = k' := by
  have h1 := cnt_lt (sk := sk) hk
  have h2 := cnt_lt (sk := sk) hk'
  have h3 : cum sk n (sk k + 1) = cum sk n (sk k) + cnt sk (sk k) n := rfl
  have h4 : cum sk n (sk k' + 1) = cum sk n (sk k') + cnt sk (sk k') n := rfl
  unfold pos at h
  rcases Nat.lt_trichotomy (sk k) (sk k') with q | q | q
  · have := cum_mono (sk := sk) (n := n) (show sk k + 1 ≤ sk k' by omega); omega
  · rw [q] at h
    rcases Nat.lt_trichotomy k k' with r | r | r
    · have := cnt_mono (sk := sk) (d := sk k') (show k + 1 ≤ k' by omega)
      have h5 : cnt sk (sk k') (k + 1) = cnt sk (sk k') k + 1 := by show _ + _ = _; rw [if_pos q]
      omega
    · exact r
    · have := cnt_mono (sk := sk) (d := sk k') (show k' + 1 ≤ k by omega)
      have h5 : cnt sk (sk k') (k' + 1) = cnt sk (sk k') k' + 1 := by show _ + _ = _; rw [if_pos rfl]
      omega
  · have := cum_mono (sk := sk) (n := n) (show sk k' + 1 ≤ sk k by omega); omega
theorem cnt_find {sk : Nat → Nat} {d r : Nat} : ∀ {n : Nat}, r < cnt sk d n → ∃ k, k < n ∧ sk k = d ∧ cnt sk d k = r
  | 0, h => by simp [cnt] at h
  | n + 1, h => by
    by_cases q : r < cnt sk d n
    · obtain ⟨k, h1, h2, h3⟩ := cnt_find q
      exact ⟨k, by omega, h2, h3⟩
    · unfold cnt at h
      split at h
      · rename_i e
        exact ⟨n, by omega, e, by omega⟩
      · omega
theorem cum_find {sk : Nat → Nat} {n i : Nat} : ∀ {d : Nat}, i < cum sk n d → ∃ e, e < d ∧ cum sk n e ≤ i ∧ i < cum sk n (e + 1)
  | 0, h => by simp [cum] at h
  | d + 1, h => by
    by_cases q : i < cum sk n d
    · obtain ⟨e, h1, h2, h3⟩ := cum_find q
      exact ⟨e, by omega, h2, h3⟩
    · exact ⟨d, by omega, by omega, h⟩
theorem pos_surj {sk : Nat → Nat} {D n i : Nat} (hs : ∀ k, k < n → sk k < D) (hi : i < n) : ∃ k, k < n ∧ pos sk n k = i := by
  obtain ⟨e, h1, h2, h3⟩ := cum_find (sk := sk) (n := n) (i := i) (d := D) (by rw [cum_all hs]; exact hi)
  have h4 : cum sk n (e + 1) = cum sk n e + cnt sk e n := rfl
  obtain ⟨k, q1, q2, q3⟩ := cnt_find (sk := sk) (d := e) (r := i - cum sk n e) (n := n) (by omega)
  exact ⟨k, q1, by unfold pos; rw [q2, q3]; omega⟩
/-- what a column shows that goes to stack d -/
def dgt (d : Nat) : Int32 := if d = 0 then (-1000009) else nI (d - 1)
def dgI (d : Nat) : Int32 := if d = 0 then (-1) else nI (d - 1)
theorem dgI_s (d : Nat) : dgI d + Int32.ofInt 1 = dgI (d + 1) := by
  unfold dgI
  rw [if_neg (by omega : ¬ d + 1 = 0)]
  by_cases e : d = 0
  · subst e; decide
  · rw [if_neg e, nI_inc, show d - 1 + 1 = d by omega]; rfl
theorem dgI_ge {d : Nat} (hd : d ≤ 11) : nI 10 ≤ dgI d ↔ 11 ≤ d := by
  unfold dgI
  by_cases e : d = 0
  · subst e; exact ⟨fun h => absurd h (by decide), fun h => absurd h (by decide)⟩
  · rw [if_neg e, nI_leI (by omega) (by omega)]; omega
theorem dgI_nn {d : Nat} (hd : d ≤ 11) : (0 : Int32) ≤ dgI d ↔ 1 ≤ d := by
  unfold dgI
  by_cases e : d = 0
  · subst e; exact ⟨fun h => absurd h (by decide), fun h => absurd h (by decide)⟩
  · rw [if_neg e, show (0 : Int32) = nI 0 from nI_0.symm, nI_leI (by omega) (by omega)]; omega
theorem dgt_inj {d e : Nat} (hd : d < 11) (he : e < 11) (h : dgt d = dgt e) : d = e := by
  unfold dgt at h
  split at h <;> split at h
  · omega
  · exfalso
    have : ∀ i : Fin 11, ¬ ((-1000009) : Int32) = nI i.val := by decide
    exact this ⟨e - 1, by omega⟩ h
  · exfalso
    have : ∀ i : Fin 11, ¬ ((-1000009) : Int32) = nI i.val := by decide
    exact this ⟨d - 1, by omega⟩ h.symm
  · have := (nI_eq (by omega) (by omega)).mp h
    omega
theorem l12_begP   : ∀ (n k : Nat) (g : Nat → Int32) (_ : k + n = 40) (_ : ∀ j, j < k → g j = nI j) (_ : ∀ g : Nat → Int32, (∀ j, j < 40 → g j = nI j) → Q none (putM h M (va_up A 9 g) S, z)), Rn sA mX12_beginPasses 2 [some (.ref M), some (.int (nI k))] [] (putM h M (va_up A 9 g) S, z) Q
  | 0, k, g, hk, hg, hQ => by
    refine R_iload_n (pc := 2) dX12_beginPasses_2 rfl ?_
    refine R_bipush (pc := 3) (x := nI 40) dX12_beginPasses_3 (by decide) ?_
    refine R_icmp_ge (pc := 5) (t := 21) dX12_beginPasses_5 (by decide) (fun _ => ?_) (fun hz9 => absurd (nI_le (by omega) (by omega)) hz9)
    refine R_vret (pc := 21) dX12_beginPasses_21 rfl ?_
    exact hQ g (fun j hj => hg j (by omega))
  | n + 1, k, g, hk, hg, hQ => by
    refine R_iload_n (pc := 2) dX12_beginPasses_2 rfl ?_
    refine R_bipush (pc := 3) (x := nI 40) dX12_beginPasses_3 (by decide) ?_
    refine R_icmp_ge (pc := 5) (t := 21) dX12_beginPasses_5 (by decide) (fun hz9 => absurd hz9 (nI_ge (by omega) (by omega))) (fun _ => ?_)
    refine R_aload_n (pc := 8) dX12_beginPasses_8 rfl ?_
    refine M_g (pc := 9) dX12_beginPasses_9 rfl rfl ?_
    refine R_iload_n (pc := 12) dX12_beginPasses_12 rfl ?_
    refine R_iload_n (pc := 13) dX12_beginPasses_13 rfl ?_
    refine M_ast (pc := 14) dX12_beginPasses_14 (by first | with_reducible rfl | (simp only [nI_add, pk_mul]; exact rfl)) (by simp only [mol1, mol2, mol3, mol4, mol5, mol6, mol7, mol8, mol9, mol10, mol11, mol12, mol13]; omega) ?_
    refine R_iinc (pc := 15) dX12_beginPasses_15 rfl (by first | exact nI_inc _ | rfl) rfl ?_
    refine R_goto (pc := 18) (t := 2) dX12_beginPasses_18 (by decide) ?_
    rw [va_up_up]
    exact l12_begP n (k + 1) _ (by omega) (ext_up hg rfl) hQ
theorem s12_begP  (hQ : ∀ g : Nat → Int32, (∀ j, j < 40 → g j = nI j) → Q none (putM h M (va_up A 9 g) S, z)) : Rn sA mX12_beginPasses 0 [some (.ref M), none] [] (putM h M A S, z) Q := by
  refine R_iconst (pc := 0) (x := nI 0) dX12_beginPasses_0 rfl ?_
  refine R_istore_n (pc := 1) dX12_beginPasses_1 (Nat.le_of_ble_eq_true rfl) rfl ?_
  refine Rn_A (A' := va_up A 9 (A 9)) va_up_id.symm ?_
  exact l12_begP 40 0 (A 9) (by omega) (fun j hj => absurd hj (by omega)) hQ
def mvR (g : Nat → Int32) : Nat → Nat → Int32 → Int32
  | 0, _, a => a
  | n + 1, k, a => mvR g n (k + 1) (a + (if g k = nI k then nI 0 else nI 1))
theorem l12_mv {n : Nat} (hn : n ≤ 40) (hw : A 1 19 = nI n) : ∀ (n1 k : Nat) (a : Int32) (_ : k + n1 = n) (_ : Q (some (.int (mvR (A 9) n1 k a))) (putM h M A S, z)), Rn sA mX12_movedCards 4 [some (.ref M), some (.int a), some (.int (nI k))] [] (putM h M A S, z) Q
  | 0, k, a, hk, hQ => by
    refine R_iload_n (pc := 4) dX12_movedCards_4 rfl ?_
    refine R_aload_n (pc := 5) dX12_movedCards_5 rfl ?_
    refine M_g (pc := 6) dX12_movedCards_6 rfl rfl ?_
    refine R_bipush (pc := 9) (x := nI 19) dX12_movedCards_9 (by decide) ?_
    refine M_ald (pc := 11) dX12_movedCards_11 (by first | with_reducible rfl | (simp only [nI_add, pk_mul]; exact rfl)) (by simp only [mol1, mol2, mol3, mol4, mol5, mol6, mol7, mol8, mol9, mol10, mol11, mol12, mol13]; omega) ?_
    refine R_icmp_ge (pc := 12) (t := 39) dX12_movedCards_12 (by decide) (fun _ => ?_) (fun hz9 => absurd (by rw [hw]; exact nI_le (by omega) (by omega)) hz9)
    refine R_iload_n (pc := 39) dX12_movedCards_39 rfl ?_
    refine R_iret (pc := 40) dX12_movedCards_40 rfl ?_
    exact hQ
  | n1 + 1, k, a, hk, hQ => by
    refine R_iload_n (pc := 4) dX12_movedCards_4 rfl ?_
    refine R_aload_n (pc := 5) dX12_movedCards_5 rfl ?_
    refine M_g (pc := 6) dX12_movedCards_6 rfl rfl ?_
    refine R_bipush (pc := 9) (x := nI 19) dX12_movedCards_9 (by decide) ?_
    refine M_ald (pc := 11) dX12_movedCards_11 (by first | with_reducible rfl | (simp only [nI_add, pk_mul]; exact rfl)) (by simp only [mol1, mol2, mol3, mol4, mol5, mol6, mol7, mol8, mol9, mol10, mol11, mol12, mol13]; omega) ?_
    refine R_icmp_ge (pc := 12) (t := 39) dX12_movedCards_12 (by decide) (fun hz9 => absurd hz9 (by rw [hw]; exact nI_ge (by omega) (by omega))) (fun _ => ?_)
    refine R_iload_n (pc := 15) dX12_movedCards_15 rfl ?_
    refine R_aload_n (pc := 16) dX12_movedCards_16 rfl ?_
    refine M_g (pc := 17) dX12_movedCards_17 rfl rfl ?_
    refine R_iload_n (pc := 20) dX12_movedCards_20 rfl ?_
    refine M_ald (pc := 21) dX12_movedCards_21 (by first | with_reducible rfl | (simp only [nI_add, pk_mul]; exact rfl)) (by simp only [mol1, mol2, mol3, mol4, mol5, mol6, mol7, mol8, mol9, mol10, mol11, mol12, mol13]; omega) ?_
    refine R_iload_n (pc := 22) dX12_movedCards_22 rfl ?_
    refine R_icmp_ne (pc := 23) (t := 30) dX12_movedCards_23 (by decide) (fun h23 => ?_) (fun h23 => ?_)
    · have hx : (if A 9 k = nI k then nI 0 else nI 1) = nI 1 := if_neg h23
      refine R_iconst (pc := 30) (x := nI 1) dX12_movedCards_30 rfl ?_
      refine R_iadd (pc := 31) dX12_movedCards_31 ?_
      refine R_istore_n (pc := 32) dX12_movedCards_32 (Nat.le_of_ble_eq_true rfl) rfl ?_
      refine R_iinc (pc := 33) dX12_movedCards_33 rfl (by first | exact nI_inc _ | rfl) rfl ?_
      refine R_goto (pc := 36) (t := 4) dX12_movedCards_36 (by decide) ?_
      exact l12_mv hn hw n1 (k + 1) _ (by omega) (by rw [mvR, hx] at hQ; exact hQ)
    · have hx : (if A 9 k = nI k then nI 0 else nI 1) = nI 0 := if_pos h23
      refine R_iconst (pc := 26) (x := nI 0) dX12_movedCards_26 rfl ?_
      refine R_goto (pc := 27) (t := 31) dX12_movedCards_27 (by decide) ?_
      refine R_iadd (pc := 31) dX12_movedCards_31 ?_
      refine R_istore_n (pc := 32) dX12_movedCards_32 (Nat.le_of_ble_eq_true rfl) rfl ?_
      refine R_iinc (pc := 33) dX12_movedCards_33 rfl (by first | exact nI_inc _ | rfl) rfl ?_
      refine R_goto (pc := 36) (t := 4) dX12_movedCards_36 (by decide) ?_
      exact l12_mv hn hw n1 (k + 1) _ (by omega) (by rw [mvR, hx] at hQ; exact hQ)
theorem s12_mv {n : Nat} (hn : n ≤ 40) (hw : A 1 19 = nI n) (hQ : Q (some (.int (mvR (A 9) n 0 (nI 0)))) (putM h M A S, z)) : Rn sA mX12_movedCards 0 [some (.ref M), none, none] [] (putM h M A S, z) Q := by
  refine R_iconst (pc := 0) (x := nI 0) dX12_movedCards_0 rfl ?_
  refine R_istore_n (pc := 1) dX12_movedCards_1 (Nat.le_of_ble_eq_true rfl) rfl ?_
  refine R_iconst (pc := 2) (x := nI 0) dX12_movedCards_2 rfl ?_
  refine R_istore_n (pc := 3) dX12_movedCards_3 (Nat.le_of_ble_eq_true rfl) rfl ?_
  exact l12_mv hn hw n 0 (nI 0) (by omega) hQ
theorem l12_pb1 {n c : Nat} (hn : n ≤ 40) (hw : A 1 19 = nI n) : ∀ (n1 k : Nat) (_ : k + n1 = n) (_ : (∀ k1 : Option Value, Rn sA mX12_passBy 35 [some (.ref M), some (.int (nI c)), k1, none, none, none] [] (putM h M (va_up A 10 (va_cpy (A 9) (A 10) 0 0 n)) S, z) Q)), Rn sA mX12_passBy 6 [some (.ref M), some (.int (nI c)), some (.int (nI k)), none, none, none] [] (putM h M (va_up A 10 (va_cpy (A 9) (A 10) 0 0 k)) S, z) Q
  | 0, k, hk, hX => by
    obtain rfl : k = n := by omega
    refine R_iload_n (pc := 6) dX12_passBy_6 rfl ?_
    refine R_aload_n (pc := 7) dX12_passBy_7 rfl ?_
    refine M_g (pc := 8) dX12_passBy_8 rfl rfl ?_
    refine R_bipush (pc := 11) (x := nI 19) dX12_passBy_11 (by decide) ?_
    refine M_ald (pc := 13) dX12_passBy_13 (by first | with_reducible rfl | (simp only [nI_add, pk_mul]; exact rfl)) (by simp only [mol1, mol2, mol3, mol4, mol5, mol6, mol7, mol8, mol9, mol10, mol11, mol12, mol13]; omega) ?_
    refine R_icmp_ge (pc := 14) (t := 35) dX12_passBy_14 (by decide) (fun _ => ?_) (fun hz9 => absurd (by show A 1 19 ≤ _; rw [hw]; exact nI_le (by omega) (by omega)) hz9)
    exact hX _
  | n1 + 1, k, hk, hX => by
    refine R_iload_n (pc := 6) dX12_passBy_6 rfl ?_
    refine R_aload_n (pc := 7) dX12_passBy_7 rfl ?_
    refine M_g (pc := 8) dX12_passBy_8 rfl rfl ?_
    refine R_bipush (pc := 11) (x := nI 19) dX12_passBy_11 (by decide) ?_
    refine M_ald (pc := 13) dX12_passBy_13 (by first | with_reducible rfl | (simp only [nI_add, pk_mul]; exact rfl)) (by simp only [mol1, mol2, mol3, mol4, mol5, mol6, mol7, mol8, mol9, mol10, mol11, mol12, mol13]; omega) ?_
    refine R_icmp_ge (pc := 14) (t := 35) dX12_passBy_14 (by decide) (fun hz9 => absurd hz9 (by show ¬ A 1 19 ≤ _; rw [hw]; exact nI_ge (by omega) (by omega))) (fun _ => ?_)
    refine R_aload_n (pc := 17) dX12_passBy_17 rfl ?_
    refine M_g (pc := 18) dX12_passBy_18 rfl rfl ?_
    refine R_iload_n (pc := 21) dX12_passBy_21 rfl ?_
    refine R_aload_n (pc := 22) dX12_passBy_22 rfl ?_
    refine M_g (pc := 23) dX12_passBy_23 rfl rfl ?_
    refine R_iload_n (pc := 26) dX12_passBy_26 rfl ?_
    refine M_ald (pc := 27) dX12_passBy_27 (by first | with_reducible rfl | (simp only [nI_add, pk_mul]; exact rfl)) (by simp only [mol1, mol2, mol3, mol4, mol5, mol6, mol7, mol8, mol9, mol10, mol11, mol12, mol13]; omega) ?_
    refine M_ast (pc := 28) dX12_passBy_28 (by first | with_reducible rfl | (simp only [nI_add, pk_mul]; exact rfl)) (by simp only [mol1, mol2, mol3, mol4, mol5, mol6, mol7, mol8, mol9, mol10, mol11, mol12, mol13]; omega) ?_
    refine R_iinc (pc := 29) dX12_passBy_29 rfl (by first | exact nI_inc _ | rfl) rfl ?_
    refine R_goto (pc := 32) (t := 6) dX12_passBy_32 (by decide) ?_
    refine Rn_A (A' := va_up A 10 (va_cpy (A 9) (A 10) 0 0 (k + 1))) (by rw [va_up_up]; exact congrArg (va_up A 10) (cpy_step (by omega) (by rw [Nat.zero_add]; rfl))) ?_
    exact l12_pb1 hn hw n1 (k + 1) (by omega) hX
/-- the deck behind the cards that are done: U before, V now, N and G their numbers -/
def PbI (sk : Nat → Nat) (n : Nat) (U V N G : Nat → Int32) (d k : Nat) : Prop := (∀ i, i < n → (sk i < d ∨ (sk i = d ∧ i < k)) → (∀ j, j < 26 → V (20 + 26 * pos sk n i + j) = U (20 + 26 * i + j)) ∧ G (pos sk n i) = N i) ∧ ∀ j, (j < 20 ∨ 20 + 26 * n ≤ j) → V j = U j
theorem PbI.skip {sk : Nat → Nat} {n : Nat} {U V N G : Nat → Int32} {d k : Nat} (h : PbI sk n U V N G d k) (hk : ¬ sk k = d) : PbI sk n U V N G d (k + 1) :=
  ⟨fun i hi hd => h.1 i hi (hd.elim (fun q => Or.inl q) (fun ⟨q, r⟩ => Or.inr ⟨q, Nat.lt_of_le_of_ne (by omega) (fun e => hk (by rw [← e]; exact q))⟩)), h.2⟩
theorem PbI.next {sk : Nat → Nat} {n : Nat} {U V N G : Nat → Int32} {d : Nat} (h : PbI sk n U V N G d n) : PbI sk n U V N G (d + 1) 0 :=
  ⟨fun i hi hd => h.1 i hi (by
    by_cases e : sk i = d
    · exact Or.inr ⟨e, hi⟩
    · exact Or.inl (by omega)), h.2⟩
theorem PbI.put {sk : Nat → Nat} {n : Nat} {U V N G F E : Nat → Int32} {d k : Nat} (hn : n ≤ 40) (hs : ∀ i, i < n → sk i < 11) (h : PbI sk n U V N G d k) (hk : k < n) (hd : sk k = d) (hF : ∀ j, j < 1040 → F j = U (20 + j)) (hE : ∀ i, i < n → E i = N i) : PbI sk n U (va_cpy F V (26 * k) (20 + 26 * pos sk n k) 26) N (upd G (pos sk n k) (E k)) d (k + 1) := by
  have hp := pos_lt hs hk
  refine ⟨fun i hi hdn => ?_, fun j hj => ?_⟩
  · by_cases e : i = k
    · subst e
      refine ⟨fun j hj => ?_, by rw [upd_s]; exact hE i hi⟩
      rw [cpy_in (by omega) (by omega), show 20 + 26 * pos sk n i + j - (20 + 26 * pos sk n i) = j by omega, hF _ (by omega), show 20 + (26 * i + j) = 20 + 26 * i + j by omega]
    · have hne : pos sk n i ≠ pos sk n k := fun q => e (pos_inj hi hk q)
      obtain ⟨q1, q2⟩ := h.1 i hi (hdn.elim (fun q => Or.inl q) (fun ⟨q, r⟩ => Or.inr ⟨q, by omega⟩))
      refine ⟨fun j hj => ?_, by rw [upd_n hne]; exact q2⟩
      rw [cpy_out (by omega)]
      exact q1 j hj
  · rw [cpy_out (by omega)]
    exact h.2 j hj
theorem l12_pb2 {sk : Nat → Nat} {n c d : Nat} {U N : Nat → Int32} (hn : n ≤ 40) (hc : c < 24) (hs : ∀ i, i < n → sk i < 11) (hcol : ∀ i, i < n → U (20 + 26 * i + c) = dgt (sk i)) (hF : ∀ j, j < 1040 → A 8 j = U (20 + j)) (hE : ∀ i, i < n → A 10 i = N i) (hw : U 19 = nI n) (hd : d < 11) (hX : (∀ (V G : Nat → Int32) (o5 : Option Value), PbI sk n U V N G d n → Rn sA mX12_passBy 118 [some (.ref M), some (.int (nI c)), some (.int (nI (cum sk n (d + 1)))), some (.int (dgI d)), some (.int (nI n)), o5] [] (putM h M (va_up (va_up A 1 V) 9 G) S, z) Q)) : ∀ (n1 k : Nat) (V G : Nat → Int32) (o5 : Option Value) (_ : k + n1 = n) (_ : PbI sk n U V N G d k) (nx : Nat) (_ : nx = cum sk n d + cnt sk d k), Rn sA mX12_passBy 48 [some (.ref M), some (.int (nI c)), some (.int (nI nx)), some (.int (dgI d)), some (.int (nI k)), o5] [] (putM h M (va_up (va_up A 1 V) 9 G) S, z) Q
  | 0, k, V, G, o5, hk, hI, nx, hnx => by
    subst hnx
    obtain rfl : k = n := by omega
    refine R_iload (pc := 48) dX12_passBy_48 rfl ?_
    refine R_aload_n (pc := 50) dX12_passBy_50 rfl ?_
    refine M_g (pc := 51) dX12_passBy_51 rfl rfl ?_
    refine R_bipush (pc := 54) (x := nI 19) dX12_passBy_54 (by decide) ?_
    refine M_ald (pc := 56) dX12_passBy_56 (by first | with_reducible rfl | (simp only [nI_add, pk_mul]; exact rfl)) (by simp only [mol1, mol2, mol3, mol4, mol5, mol6, mol7, mol8, mol9, mol10, mol11, mol12, mol13]; omega) ?_
    refine R_icmp_ge (pc := 57) (t := 118) dX12_passBy_57 (by decide) (fun _ => ?_) (fun hz9 => absurd (by show  V 19 ≤ _; rw [hI.2 19 (by omega), hw]; exact (nI_le (by omega) (by omega))) hz9)
    exact hX V G o5 hI
  | n1 + 1, k, V, G, o5, hk, hI, nx, hnx => by
    subst hnx
    have hcv : A 8 (26 * k + c) = dgt (sk k) := by rw [hF _ (by omega), show 20 + (26 * k + c) = 20 + 26 * k + c by omega]; exact hcol k (by omega)
    refine R_iload (pc := 48) dX12_passBy_48 rfl ?_
    refine R_aload_n (pc := 50) dX12_passBy_50 rfl ?_
    refine M_g (pc := 51) dX12_passBy_51 rfl rfl ?_
    refine R_bipush (pc := 54) (x := nI 19) dX12_passBy_54 (by decide) ?_
    refine M_ald (pc := 56) dX12_passBy_56 (by first | with_reducible rfl | (simp only [nI_add, pk_mul]; exact rfl)) (by simp only [mol1, mol2, mol3, mol4, mol5, mol6, mol7, mol8, mol9, mol10, mol11, mol12, mol13]; omega) ?_
    refine R_icmp_ge (pc := 57) (t := 118) dX12_passBy_57 (by decide) (fun hz9 => absurd hz9 (by show ¬ V 19 ≤ _; rw [hI.2 19 (by omega), hw]; exact (nI_ge (by omega) (by omega)))) (fun _ => ?_)
    refine R_aload_n (pc := 60) dX12_passBy_60 rfl ?_
    refine M_g (pc := 61) dX12_passBy_61 rfl rfl ?_
    refine R_bipush (pc := 64) (x := nI 26) dX12_passBy_64 (by decide) ?_
    refine R_iload (pc := 66) dX12_passBy_66 rfl ?_
    refine R_imul (pc := 68) dX12_passBy_68 ?_
    refine R_iload_n (pc := 69) dX12_passBy_69 rfl ?_
    refine R_iadd (pc := 70) dX12_passBy_70 ?_
    refine M_ald (pc := 71) dX12_passBy_71 (by first | with_reducible rfl | (simp only [nI_add, pk_mul]; exact rfl)) (by simp only [mol1, mol2, mol3, mol4, mol5, mol6, mol7, mol8, mol9, mol10, mol11, mol12, mol13]; omega) ?_
    refine R_istore (pc := 72) dX12_passBy_72 (Nat.le_of_ble_eq_true rfl) rfl ?_
    refine R_iload (pc := 74) dX12_passBy_74 rfl ?_
    refine R_iload_n (pc := 76) dX12_passBy_76 rfl ?_
    refine R_if_ge (pc := 77) (t := 85) dX12_passBy_77 (by decide) (fun h77 => ?_) (fun h77 => ?_)
    · have h77 : ¬ d = 0 := fun q => by have := (dgI_nn (by omega)).mp h77; omega
      refine R_iload_n (pc := 85) dX12_passBy_85 rfl ?_
      refine R_icmp_ne (pc := 86) (t := 112) dX12_passBy_86 (by decide) (fun h86 => ?_) (fun h86 => ?_)
      · have hne : ¬ sk k = d := fun q => h86 (by show A 8 (26 * k + c) = _; rw [hcv, q]; unfold dgt; first | rw [if_pos h77] | (unfold dgI; rw [if_neg h77, if_neg h77]))
        refine R_iinc (pc := 112) dX12_passBy_112 rfl (by first | exact nI_inc _ | rfl) rfl ?_
        refine R_goto (pc := 115) (t := 48) dX12_passBy_115 (by decide) ?_
        first
          | exact l12_pb2 hn hc hs hcol hF hE hw hd hX n1 (k + 1) V G _ (by omega) (hI.skip hne) _ (by rw [show cnt sk d (k + 1) = cnt sk d k from by show _ + _ = _; rw [if_neg hne]; rfl])
          | (refine Rn_A (A' := va_up (va_up A 1 (va_cpy (A 8) V (26 * k) (20 + 26 * pos sk n k) 26)) 9 (upd G (pos sk n k) (A 10 k))) ?_ ?_
             · rw [hpz]
               funext o
               unfold va_up
               repeat' split
               all_goals first | rfl | omega | (subst_vars; rfl)
             · exact l12_pb2 hn hc hs hcol hF hE hw hd hX n1 (k + 1) _ _ _ (by omega) hI2 _ (by rw [show cnt sk d (k + 1) = cnt sk d k + 1 from by show _ + _ = _; rw [if_pos hq]]; rfl))
      · have hq : sk k = d := dgt_inj (hs k (by omega)) (by omega) (hcv.symm.trans (by refine Eq.trans h86 ?_; unfold dgt; first | rw [if_pos h77] | (unfold dgI; rw [if_neg h77, if_neg h77])))
        have hpz : pos sk n k = cum sk n d + cnt sk d k := by unfold pos; rw [hq]
        have hpl := pos_lt hs (show k < n by omega)
        have hI2 := hI.put hn hs (show k < n by omega) hq hF hE
        refine R_aload_n (pc := 89) dX12_passBy_89 rfl ?_
        refine R_iload (pc := 90) dX12_passBy_90 rfl ?_
        refine R_iload_n (pc := 92) dX12_passBy_92 rfl ?_
        refine R_callV (pc := 93) dX12_passBy_93 rfl putM_o rfl rfl ?_
        refine s12_from (by omega) (by omega) ?_
        refine R_aload_n (pc := 96) dX12_passBy_96 rfl ?_
        refine M_g (pc := 97) dX12_passBy_97 rfl rfl ?_
        refine R_iload_n (pc := 100) dX12_passBy_100 rfl ?_
        refine R_aload_n (pc := 101) dX12_passBy_101 rfl ?_
        refine M_g (pc := 102) dX12_passBy_102 rfl rfl ?_
        refine R_iload (pc := 105) dX12_passBy_105 rfl ?_
        refine M_ald (pc := 107) dX12_passBy_107 rfl (by simp only [mol10]; omega) ?_
        refine M_ast (pc := 108) dX12_passBy_108 rfl (by simp only [mol9]; omega) ?_
        refine R_iinc (pc := 109) dX12_passBy_109 rfl (by first | exact nI_inc _ | rfl) rfl ?_
        refine R_iinc (pc := 112) dX12_passBy_112 rfl (by first | exact nI_inc _ | rfl) rfl ?_
        refine R_goto (pc := 115) (t := 48) dX12_passBy_115 (by decide) ?_
        first
          | exact l12_pb2 hn hc hs hcol hF hE hw hd hX n1 (k + 1) V G _ (by omega) (hI.skip hne) _ (by rw [show cnt sk d (k + 1) = cnt sk d k from by show _ + _ = _; rw [if_neg hne]; rfl])
          | (refine Rn_A (A' := va_up (va_up A 1 (va_cpy (A 8) V (26 * k) (20 + 26 * pos sk n k) 26)) 9 (upd G (pos sk n k) (A 10 k))) ?_ ?_
             · rw [hpz]
               funext o
               unfold va_up
               repeat' split
               all_goals first | rfl | omega | (subst_vars; rfl)
             · exact l12_pb2 hn hc hs hcol hF hE hw hd hX n1 (k + 1) _ _ _ (by omega) hI2 _ (by rw [show cnt sk d (k + 1) = cnt sk d k + 1 from by show _ + _ = _; rw [if_pos hq]]; rfl))
    · have h77 : d = 0 := Nat.eq_zero_of_not_pos (fun q => h77 ((dgI_nn (by omega)).mpr q))
      refine R_ldc (pc := 80) (x := (-1000009)) dX12_passBy_80 rfl ?_
      refine R_goto (pc := 82) (t := 86) dX12_passBy_82 (by decide) ?_
      refine R_icmp_ne (pc := 86) (t := 112) dX12_passBy_86 (by decide) (fun h86 => ?_) (fun h86 => ?_)
      · have hne : ¬ sk k = d := fun q => h86 (by show A 8 (26 * k + c) = _; rw [hcv, q]; unfold dgt; first | rw [if_pos h77] | (unfold dgI; rw [if_neg h77, if_neg h77]))
        refine R_iinc (pc := 112) dX12_passBy_112 rfl (by first | exact nI_inc _ | rfl) rfl ?_
        refine R_goto (pc := 115) (t := 48) dX12_passBy_115 (by decide) ?_
        first
          | exact l12_pb2 hn hc hs hcol hF hE hw hd hX n1 (k + 1) V G _ (by omega) (hI.skip hne) _ (by rw [show cnt sk d (k + 1) = cnt sk d k from by show _ + _ = _; rw [if_neg hne]; rfl])
          | (refine Rn_A (A' := va_up (va_up A 1 (va_cpy (A 8) V (26 * k) (20 + 26 * pos sk n k) 26)) 9 (upd G (pos sk n k) (A 10 k))) ?_ ?_
             · rw [hpz]
               funext o
               unfold va_up
               repeat' split
               all_goals first | rfl | omega | (subst_vars; rfl)
             · exact l12_pb2 hn hc hs hcol hF hE hw hd hX n1 (k + 1) _ _ _ (by omega) hI2 _ (by rw [show cnt sk d (k + 1) = cnt sk d k + 1 from by show _ + _ = _; rw [if_pos hq]]; rfl))
      · have hq : sk k = d := dgt_inj (hs k (by omega)) (by omega) (hcv.symm.trans (by refine Eq.trans h86 ?_; unfold dgt; first | rw [if_pos h77] | (unfold dgI; rw [if_neg h77, if_neg h77])))
        have hpz : pos sk n k = cum sk n d + cnt sk d k := by unfold pos; rw [hq]
        have hpl := pos_lt hs (show k < n by omega)
        have hI2 := hI.put hn hs (show k < n by omega) hq hF hE
        refine R_aload_n (pc := 89) dX12_passBy_89 rfl ?_
        refine R_iload (pc := 90) dX12_passBy_90 rfl ?_
        refine R_iload_n (pc := 92) dX12_passBy_92 rfl ?_
        refine R_callV (pc := 93) dX12_passBy_93 rfl putM_o rfl rfl ?_
        refine s12_from (by omega) (by omega) ?_
        refine R_aload_n (pc := 96) dX12_passBy_96 rfl ?_
        refine M_g (pc := 97) dX12_passBy_97 rfl rfl ?_
        refine R_iload_n (pc := 100) dX12_passBy_100 rfl ?_
        refine R_aload_n (pc := 101) dX12_passBy_101 rfl ?_
        refine M_g (pc := 102) dX12_passBy_102 rfl rfl ?_
        refine R_iload (pc := 105) dX12_passBy_105 rfl ?_
        refine M_ald (pc := 107) dX12_passBy_107 rfl (by simp only [mol10]; omega) ?_
        refine M_ast (pc := 108) dX12_passBy_108 rfl (by simp only [mol9]; omega) ?_
        refine R_iinc (pc := 109) dX12_passBy_109 rfl (by first | exact nI_inc _ | rfl) rfl ?_
        refine R_iinc (pc := 112) dX12_passBy_112 rfl (by first | exact nI_inc _ | rfl) rfl ?_
        refine R_goto (pc := 115) (t := 48) dX12_passBy_115 (by decide) ?_
        first
          | exact l12_pb2 hn hc hs hcol hF hE hw hd hX n1 (k + 1) V G _ (by omega) (hI.skip hne) _ (by rw [show cnt sk d (k + 1) = cnt sk d k from by show _ + _ = _; rw [if_neg hne]; rfl])
          | (refine Rn_A (A' := va_up (va_up A 1 (va_cpy (A 8) V (26 * k) (20 + 26 * pos sk n k) 26)) 9 (upd G (pos sk n k) (A 10 k))) ?_ ?_
             · rw [hpz]
               funext o
               unfold va_up
               repeat' split
               all_goals first | rfl | omega | (subst_vars; rfl)
             · exact l12_pb2 hn hc hs hcol hF hE hw hd hX n1 (k + 1) _ _ _ (by omega) hI2 _ (by rw [show cnt sk d (k + 1) = cnt sk d k + 1 from by show _ + _ = _; rw [if_pos hq]]; rfl))
end MOD5
