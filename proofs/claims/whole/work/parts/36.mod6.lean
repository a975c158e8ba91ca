section MOD6
variable {sA : Nat} {h : Nat → Option am_C} {z : Nat × Nat} {Q : Option Value → am_H → Prop} {M : Nat} {A : Nat → Nat → Int32} {S : Nat → Int32}
theorem l12_pb3 {sk : Nat → Nat} {n c : Nat} {U N : Nat → Int32} (hn : n ≤ 40) (hc : c < 24) (hs : ∀ i, i < n → sk i < 11) (hcol : ∀ i, i < n → U (20 + 26 * i + c) = dgt (sk i)) (hF : ∀ j, j < 1040 → A 8 j = U (20 + j)) (hE : ∀ i, i < n → A 10 i = N i) (hw : U 19 = nI n) (hX : ∀ V G : Nat → Int32, PbI sk n U V N G 11 0 → Q none (putM h M (va_up (va_up A 1 V) 9 G) S, z)) : ∀ (m1 d : Nat) (V G : Nat → Int32) (o4 o5 : Option Value) (_ : d + m1 = 11) (_ : PbI sk n U V N G d 0), Rn sA mX12_passBy 39 [some (.ref M), some (.int (nI c)), some (.int (nI (cum sk n d))), some (.int (dgI d)), o4, o5] [] (putM h M (va_up (va_up A 1 V) 9 G) S, z) Q
  | 0, d, V, G, o4, o5, hk, hI => by
    obtain rfl : d = 11 := by omega
    refine R_iload_n (pc := 39) dX12_passBy_39 rfl ?_
    refine R_bipush (pc := 40) (x := nI 10) dX12_passBy_40 (by decide) ?_
    refine R_icmp_ge (pc := 42) (t := 124) dX12_passBy_42 (by decide) (fun _ => ?_) (fun hz9 => absurd ((dgI_ge (by omega)).mpr (by omega)) hz9)
    refine R_vret (pc := 124) dX12_passBy_124 rfl ?_
    exact hX V G hI
  | m1 + 1, d, V, G, o4, o5, hk, hI => by
    refine R_iload_n (pc := 39) dX12_passBy_39 rfl ?_
    refine R_bipush (pc := 40) (x := nI 10) dX12_passBy_40 (by decide) ?_
    refine R_icmp_ge (pc := 42) (t := 124) dX12_passBy_42 (by decide) (fun hz9 => absurd hz9 (fun q => by have := (dgI_ge (by omega)).mp q; omega)) (fun _ => ?_)
    refine R_iconst (pc := 45) (x := nI 0) dX12_passBy_45 rfl ?_
    refine R_istore (pc := 46) dX12_passBy_46 (Nat.le_of_ble_eq_true rfl) rfl ?_
    refine l12_pb2 hn hc hs hcol hF hE hw (show d < 11 by omega) (fun V2 G2 o6 hI2 => ?_) n 0 V G o5 (by omega) hI _ (by show _ = _ + 0; rfl)
    refine R_iinc (pc := 118) dX12_passBy_118 rfl (dgI_s d) rfl ?_
    refine R_goto (pc := 121) (t := 39) dX12_passBy_121 (by decide) ?_
    exact l12_pb3 hn hc hs hcol hF hE hw hX m1 (d + 1) V2 G2 _ _ (by omega) hI2.next
theorem s12_passBy {sk : Nat → Nat} {n c : Nat} (hn : n ≤ 40) (hw : A 1 19 = nI n) (hc : c < 24) (hs : ∀ i, i < n → sk i < 11) (hcol : ∀ i, i < n → A 1 (20 + 26 * i + c) = dgt (sk i)) (hQ : ∀ (V G g8 g10 : Nat → Int32), PbI sk n (A 1) V (A 9) G 11 0 → Q none (putM h M (va_up (va_up (va_up (va_up A 8 g8) 10 g10) 1 V) 9 G) S, z)) : Rn sA mX12_passBy 0 [some (.ref M), some (.int (nI c)), none, none, none, none] [] (putM h M A S, z) Q := by
  refine R_aload_n (pc := 0) dX12_passBy_0 rfl ?_
  refine R_callV (pc := 1) dX12_passBy_1 rfl putM_o rfl rfl ?_
  refine s12_hold ?_
  refine R_iconst (pc := 4) (x := nI 0) dX12_passBy_4 rfl ?_
  refine R_istore_n (pc := 5) dX12_passBy_5 (Nat.le_of_ble_eq_true rfl) rfl ?_
  refine Rn_A (A' := va_up (va_up A 8 (va_cpy (A 1) (A 8) 20 0 1040)) 10 (va_cpy (A 9) (A 10) 0 0 0)) (by rw [cpy_0]; exact (va_up_id (f := va_up A 8 (va_cpy (A 1) (A 8) 20 0 1040)) (k := 10)).symm) ?_
  refine l12_pb1 (A := va_up A 8 (va_cpy (A 1) (A 8) 20 0 1040)) hn hw n 0 (by omega) (fun k1 => ?_)
  refine R_iconst (pc := 35) (x := nI 0) dX12_passBy_35 rfl ?_
  refine R_istore_n (pc := 36) dX12_passBy_36 (Nat.le_of_ble_eq_true rfl) rfl ?_
  refine R_iconst (pc := 37) (x := (-1)) dX12_passBy_37 rfl ?_
  refine R_istore_n (pc := 38) dX12_passBy_38 (Nat.le_of_ble_eq_true rfl) rfl ?_
  generalize hB : va_up (va_up A 8 (va_cpy (A 1) (A 8) 20 0 1040)) 10 (va_cpy (va_up A 8 (va_cpy (A 1) (A 8) 20 0 1040) 9) (va_up A 8 (va_cpy (A 1) (A 8) 20 0 1040) 10) 0 0 n) = B
  have hB1 : B 1 = A 1 := by rw [← hB]; rfl
  have hB9 : B 9 = A 9 := by rw [← hB]; rfl
  refine Rn_A (A' := va_up (va_up B 1 (A 1)) 9 (A 9)) (by rw [← hB1, ← hB9, va_up_id, va_up_id]) ?_
  refine l12_pb3 (A := B) (U := A 1) (N := A 9) hn hc hs hcol (fun j hj => by rw [← hB]; show va_cpy _ _ _ _ _ _ = _; rw [cpy_in (by omega) (by omega)]; rfl) (fun i hi => by rw [← hB]; show va_cpy _ _ _ _ _ _ = _; rw [cpy_in (by omega) (by omega), Nat.zero_add]; rfl) hw (fun V G hI => ?_) 11 0 (A 1) (A 9) _ _ (by omega) ⟨fun i hi hd => absurd hd (by omega), fun j _ => rfl⟩
  rw [← hB]
  exact hQ V G _ _ hI
/-- the order that passes bring a deck into: at place i stands the card that was at o i -/
def DkO (U : Nat → Int32) (n : Nat) (o : Nat → Nat) (V : Nat → Int32) : Prop := (∀ i, i < n → ∀ j, j < 26 → V (20 + 26 * i + j) = U (20 + 26 * o i + j)) ∧ ∀ j, (j < 20 ∨ 20 + 26 * n ≤ j) → V j = U j
def skF (U : Nat → Int32) (c i : Nat) : Nat := if U (20 + 26 * i + c) = (-1000009) then 0 else (U (20 + 26 * i + c)).toNatClampNeg + 1
def invP (sk : Nat → Nat) (n i : Nat) : Nat := ((List.range n).find? (fun k => pos sk n k == i)).getD 0
def nxtO (U : Nat → Int32) (n c : Nat) (o : Nat → Nat) : Nat → Nat := fun i => o (invP (fun k => skF U c (o k)) n i)
theorem invP_pos {sk : Nat → Nat} {n k : Nat} (hk : k < n) : invP sk n (pos sk n k) = k := by
  unfold invP
  cases h : (List.range n).find? (fun x => pos sk n x == pos sk n k) with
  | none =>
    have := List.find?_eq_none.mp h k (List.mem_range.mpr hk)
    simp at this
  | some x =>
    have h1 := List.find?_some h
    have h2 := List.mem_of_find?_eq_some h
    have h3 : pos sk n x = pos sk n k := by simpa using h1
    exact pos_inj (List.mem_range.mp h2) hk h3
/-- every column of the first n cards shows a digit, or is blank -/
def DigW (U : Nat → Int32) (n : Nat) : Prop := ∀ i, i < n → ∀ c, c < 24 → ∃ d, d < 11 ∧ U (20 + 26 * i + c) = dgt d
theorem skF_sp {U : Nat → Int32} {n i c : Nat} (hD : DigW U n) (hi : i < n) (hc : c < 24) : skF U c i < 11 ∧ U (20 + 26 * i + c) = dgt (skF U c i) := by
  obtain ⟨d, h1, h2⟩ := hD i hi c hc
  have e : skF U c i = d := by
    unfold skF
    rw [h2]
    unfold dgt
    by_cases q : d = 0
    · subst q; rw [if_pos rfl, if_pos rfl]
    · rw [if_neg q]
      have : ∀ x : Fin 11, ¬ nI x.val = (-1000009) := by decide
      rw [if_neg (this ⟨d - 1, by omega⟩), nI_clamp (by omega)]
      omega
  rw [e]
  exact ⟨h1, h2⟩
theorem nxtO_sp {U V G V2 G2 : Nat → Int32} {n c : Nat} {o : Nat → Nat} (hD : DigW U n) (hc : c < 24) (ho : ∀ i, i < n → o i < n) (hO : DkO U n o V) (hG : ∀ i, i < n → G i = nI (o i)) (hI : PbI (fun k => skF U c (o k)) n V V2 G G2 11 0) : DkO U n (nxtO U n c o) V2 ∧ (∀ i, i < n → G2 i = nI (nxtO U n c o i)) ∧ ∀ i, i < n → nxtO U n c o i < n := by
  have hs : ∀ i, i < n → (fun k => skF U c (o k)) i < 11 := fun i hi => (skF_sp hD (ho i hi) hc).1
  have key : ∀ i, i < n → ∃ k, k < n ∧ pos (fun k => skF U c (o k)) n k = i ∧ nxtO U n c o i = o k := by
    intro i hi
    obtain ⟨k, h1, h2⟩ := pos_surj hs hi
    exact ⟨k, h1, h2, by unfold nxtO; rw [← h2, invP_pos h1]⟩
  refine ⟨⟨fun i hi j hj => ?_, fun j hj => (hI.2 j hj).trans (hO.2 j hj)⟩, fun i hi => ?_, fun i hi => ?_⟩
  · obtain ⟨k, h1, h2, h3⟩ := key i hi
    rw [h3, ← h2, (hI.1 k h1 (Or.inl (hs k h1))).1 j hj]
    exact hO.1 k h1 j hj
  · obtain ⟨k, h1, h2, h3⟩ := key i hi
    rw [h3, ← h2, (hI.1 k h1 (Or.inl (hs k h1))).2]
    exact hG k h1
  · obtain ⟨k, h1, h2, h3⟩ := key i hi
    rw [h3]
    exact ho k h1
theorem s12_passO {U : Nat → Int32} {n c : Nat} {o : Nat → Nat} (hn : n ≤ 40) (hw : U 19 = nI n) (hc : c < 24) (hD : DigW U n) (ho : ∀ i, i < n → o i < n) (hO : DkO U n o (A 1)) (hG : ∀ i, i < n → A 9 i = nI (o i)) (hQ : ∀ A2 : Nat → Nat → Int32, DkO U n (nxtO U n c o) (A2 1) → (∀ i, i < n → A2 9 i = nI (nxtO U n c o i)) → (∀ i, i < n → nxtO U n c o i < n) → (∀ q, q ≠ 1 → q ≠ 8 → q ≠ 9 → q ≠ 10 → A2 q = A q) → Q none (putM h M A2 S, z)) : Rn sA mX12_passBy 0 [some (.ref M), some (.int (nI c)), none, none, none, none] [] (putM h M A S, z) Q := by
  refine s12_passBy (sk := fun k => skF U c (o k)) hn ((hO.2 19 (by omega)).trans hw) hc (fun i hi => (skF_sp hD (ho i hi) hc).1) (fun i hi => by rw [hO.1 i hi c (by omega)]; exact (skF_sp hD (ho i hi) hc).2) (fun V G g8 g10 hI => ?_)
  obtain ⟨h1, h2, h3⟩ := nxtO_sp hD hc ho hO hG hI
  exact hQ _ h1 h2 h3 (fun q q1 q8 q9 q10 => by unfold va_up; rw [if_neg q9, if_neg q1, if_neg q10, if_neg q8])
/-- how many cards have another number -/
def mvO (o : Nat → Nat) : Nat → Nat → Int32 → Int32
  | 0, _, a => a
  | n + 1, k, a => mvO o n (k + 1) (a + (if o k = k then nI 0 else nI 1))
theorem mvR_O {g : Nat → Int32} {o : Nat → Nat} {N : Nat} (hN : N ≤ 40) (ho : ∀ i, i < N → o i < N) (hg : ∀ i, i < N → g i = nI (o i)) : ∀ (n k : Nat) (a : Int32), k + n = N → mvR g n k a = mvO o n k a
  | 0, _, _, _ => rfl
  | n + 1, k, a, h => by
    unfold mvR mvO
    rw [mvR_O hN ho hg n (k + 1) _ (by omega), hg k (by omega)]
    have h1 := ho k (by omega)
    by_cases e : o k = k
    · rw [if_pos e, if_pos (by rw [e])]
    · rw [if_neg e, if_neg (fun q => e ((nI_eq (by omega) (by omega)).mp q))]
theorem s12_pass {a : Int32} {n pm : Nat} (hn : n ≤ 40) (hw : A 1 19 = nI n) (hD : DigW (A 1) n) (hpm : pm ≤ 8) (hS : S 2 = nI pm) (hB : (∀ c, c < 24 → ¬ a = nI c) → Q (some (.int (-1000001))) (putM h M A S, z)) (hG : ∀ c, c < 24 → a = nI c → ∀ A2 : Nat → Nat → Int32, DkO (A 1) n (nxtO (A 1) n c id) (A2 1) → A2 2 = remP (A 1) (A 2) pm → A2 3 = A 3 → A2 4 = A 4 → Q (some (.int (mvO (nxtO (A 1) n c id) n 0 (nI 0)))) (putM h M A2 (va_up S 2 (nI (remN pm))), z)) : Rn sA mX12_pass 0 [some (.ref M), some (.int a)] [] (putM h M A S, z) Q := by
  refine R_iload_n (pc := 0) dX12_pass_0 rfl ?_
  refine R_callS (pc := 1) dX12_pass_1 rfl (Or.inl rfl) rfl rfl ?_
  refine s12_isColumn (fun c hc e => ?_) (fun e => ?_)
  · subst e
    refine R_if_ne (pc := 4) (t := 10) dX12_pass_4 (by decide) (fun _ => ?_) (fun hz9 => absurd hz9 (by decide))
    refine R_aload_n (pc := 10) dX12_pass_10 rfl ?_
    refine R_callV (pc := 11) dX12_pass_11 rfl putM_o rfl rfl ?_
    refine s12_remember hpm hS ?_
    refine R_aload_n (pc := 14) dX12_pass_14 rfl ?_
    refine R_callV (pc := 15) dX12_pass_15 rfl putM_o rfl rfl ?_
    refine s12_begP (fun g hg => ?_)
    refine R_aload_n (pc := 18) dX12_pass_18 rfl ?_
    refine R_iload_n (pc := 19) dX12_pass_19 rfl ?_
    refine R_callV (pc := 20) dX12_pass_20 rfl putM_o rfl rfl ?_
    refine s12_passO (U := A 1) (o := id) hn hw hc hD (fun i hi => hi) ⟨fun i _ j _ => rfl, fun j _ => rfl⟩ (fun i hi => hg i (by omega)) (fun A2 h1 h2 h3 h4 => ?_)
    refine R_aload_n (pc := 23) dX12_pass_23 rfl ?_
    refine R_callV (pc := 24) dX12_pass_24 rfl putM_o rfl rfl ?_
    refine s12_mv hn ((h1.2 19 (by omega)).trans hw) ?_
    refine R_iret (pc := 27) dX12_pass_27 rfl ?_
    first
      | exact hB e
      | (rw [mvR_O hn h3 h2 n 0 (nI 0) (by omega)]
         exact hG c hc rfl A2 h1 (h4 2 (by omega) (by omega) (by omega) (by omega)) (h4 3 (by omega) (by omega) (by omega) (by omega)) (h4 4 (by omega) (by omega) (by omega) (by omega)))
  · refine R_if_ne (pc := 4) (t := 10) dX12_pass_4 (by decide) (fun hz9 => absurd hz9 (by decide)) (fun _ => ?_)
    refine R_ldc (pc := 7) (x := (-1000001)) dX12_pass_7 rfl ?_
    refine R_iret (pc := 9) dX12_pass_9 rfl ?_
    first
      | exact hB e
      | (rw [mvR_O hn h3 h2 n 0 (nI 0) (by omega)]
         exact hG c hc rfl A2 h1 (h4 2 (by omega) (by omega) (by omega) (by omega)) (h4 3 (by omega) (by omega) (by omega) (by omega)) (h4 4 (by omega) (by omega) (by omega) (by omega)))
/-- passes by the columns q - 1, .., 0 of a field that begins at column f -/
def srtO (U : Nat → Int32) (n f : Nat) : Nat → (Nat → Nat) → Nat → Nat
  | 0, o => o
  | q + 1, o => srtO U n f q (nxtO U n (f + q) o)
theorem l12_sort {U : Nat → Int32} {n x f : Nat} (hn : n ≤ 40) (hw : U 19 = nI n) (hD : DigW U n) (hx : x < 6) (hf : U (0 + 2 * x) = nI f) : ∀ (k : Nat) (_ : f + k ≤ 24) (o : Nat → Nat) (A : Nat → Nat → Int32) (_ : ∀ i, i < n → o i < n) (_ : DkO U n o (A 1)) (_ : ∀ i, i < n → A 9 i = nI (o i)) (_ : (∀ A2 : Nat → Nat → Int32, DkO U n (srtO U n f k o) (A2 1) → (∀ i, i < n → A2 9 i = nI (srtO U n f k o i)) → (∀ i, i < n → srtO U n f k o i < n) → (∀ q, q ≠ 1 → q ≠ 8 → q ≠ 9 → q ≠ 10 → A2 q = A q) → ∀ k2 : Option Value, Rn sA mX12_sort 47 [some (.ref M), some (.int (nI x)), k2] [] (putM h M A2 S, z) Q)), Rn sA mX12_sort 26 [some (.ref M), some (.int (nI x)), some (.int (nI k - nI 1))] [] (putM h M A S, z) Q
  | 0, hk, o, A, ho, hO, hG, hX => by
    refine R_iload_n (pc := 26) dX12_sort_26 rfl ?_
    refine R_if_lt (pc := 27) (t := 47) dX12_sort_27 (by decide) (fun _ => ?_) (fun hz9 => absurd (by decide) hz9)
    exact hX A hO hG ho (fun q _ _ _ _ => rfl) _
  | k + 1, hk, o, A, ho, hO, hG, hX => by
    have e1 : nI (k + 1) - nI 1 = nI k := by rw [pk_sub (by omega)]; rfl
    rw [e1]
    have hfs : A 1 (0 + 2 * x) = nI f := (hO.2 (0 + 2 * x) (by omega)).trans hf
    refine R_iload_n (pc := 26) dX12_sort_26 rfl ?_
    refine R_if_lt (pc := 27) (t := 47) dX12_sort_27 (by decide) (fun hz9 => absurd hz9 (fun q => by have := nI_pos (n := k) (by omega); exact this q)) (fun _ => ?_)
    refine R_aload_n (pc := 30) dX12_sort_30 rfl ?_
    refine R_aload_n (pc := 31) dX12_sort_31 rfl ?_
    refine R_iload_n (pc := 32) dX12_sort_32 rfl ?_
    refine R_callV (pc := 33) dX12_sort_33 rfl putM_o rfl rfl ?_
    refine s12_first (by omega) ?_
    refine R_iload_n (pc := 36) dX12_sort_36 rfl ?_
    refine R_iadd (pc := 37) dX12_sort_37 ?_
    refine R_callV (pc := 38) dX12_sort_38 rfl putM_o rfl rfl ?_
    rw [hfs, nI_add]
    refine s12_passO (U := U) (o := o) hn hw (by omega) hD ho hO hG (fun A3 h1 h2 h3 h4 => ?_)
    refine R_iinc (pc := 41) dX12_sort_41 rfl (show nI k + Int32.ofInt (-1) = nI k - nI 1 by rw [Int32.sub_eq_add_neg]; rfl) rfl ?_
    refine R_goto (pc := 44) (t := 26) dX12_sort_44 (by decide) ?_
    exact l12_sort hn hw hD hx hf k (by omega) (nxtO U n (f + k) o) A3 h3 h1 h2 (fun A2 q1 q2 q3 q4 k2 => hX A2 q1 q2 q3 (fun q a b c d => (q4 q a b c d).trans (h4 q a b c d)) k2)
theorem s12_sort {a : Int32} {n pm : Nat} {P Wd : Nat → Nat} (hL : LayW (A 1) P Wd) (hn : n ≤ 40) (hw : A 1 19 = nI n) (hD : DigW (A 1) n) (hpm : pm ≤ 8) (hS : S 2 = nI pm) (hB : (∀ c, c < 6 → ¬ a = nI c) → Q (some (.int (-1000001))) (putM h M A S, z)) (hG : ∀ x, x < 6 → a = nI x → ∀ A2 : Nat → Nat → Int32, DkO (A 1) n (srtO (A 1) n (P x) (Wd x) id) (A2 1) → A2 2 = remP (A 1) (A 2) pm → A2 3 = A 3 → A2 4 = A 4 → Q (some (.int (mvO (srtO (A 1) n (P x) (Wd x) id) n 0 (nI 0)))) (putM h M A2 (va_up S 2 (nI (remN pm))), z)) : Rn sA mX12_sort 0 [some (.ref M), some (.int a), none] [] (putM h M A S, z) Q := by
  refine R_iload_n (pc := 0) dX12_sort_0 rfl ?_
  refine R_callS (pc := 1) dX12_sort_1 rfl (Or.inl rfl) rfl rfl ?_
  refine s12_isField (fun x hx e => ?_) (fun e => ?_)
  · subst e
    obtain ⟨l1, l2, l3⟩ := hL x hx
    refine R_if_ne (pc := 4) (t := 10) dX12_sort_4 (by decide) (fun _ => ?_) (fun hz9 => absurd hz9 (by decide))
    refine R_aload_n (pc := 10) dX12_sort_10 rfl ?_
    refine R_callV (pc := 11) dX12_sort_11 rfl putM_o rfl rfl ?_
    refine s12_remember hpm hS ?_
    refine R_aload_n (pc := 14) dX12_sort_14 rfl ?_
    refine R_callV (pc := 15) dX12_sort_15 rfl putM_o rfl rfl ?_
    refine s12_begP (fun g hg => ?_)
    refine R_aload_n (pc := 18) dX12_sort_18 rfl ?_
    refine R_iload_n (pc := 19) dX12_sort_19 rfl ?_
    refine R_callV (pc := 20) dX12_sort_20 rfl putM_o rfl rfl ?_
    refine s12_width hx ?_
    refine R_iconst (pc := 23) (x := nI 1) dX12_sort_23 rfl ?_
    refine R_isub (pc := 24) dX12_sort_24 ?_
    refine R_istore_n (pc := 25) dX12_sort_25 (Nat.le_of_ble_eq_true rfl) rfl ?_
    rw [show va_up (va_up A 2 (remP (A 1) (A 2) pm)) 9 g 1 = A 1 from rfl, l2]
    refine l12_sort (U := A 1) hn hw hD hx l1 (Wd x) l3 id (va_up (va_up A 2 (remP (A 1) (A 2) pm)) 9 g) (fun i hi => hi) ⟨fun i _ j _ => rfl, fun j _ => rfl⟩ (fun i hi => hg i (by omega)) (fun A2 h1 h2 h3 h4 k2 => ?_)
    refine R_aload_n (pc := 47) dX12_sort_47 rfl ?_
    refine R_callV (pc := 48) dX12_sort_48 rfl putM_o rfl rfl ?_
    refine s12_mv hn ((h1.2 19 (by omega)).trans hw) ?_
    refine R_iret (pc := 51) dX12_sort_51 rfl ?_
    first
      | exact hB e
      | (rw [mvR_O hn h3 h2 n 0 (nI 0) (by omega)]
         exact hG x hx rfl A2 h1 (h4 2 (by omega) (by omega) (by omega) (by omega)) (h4 3 (by omega) (by omega) (by omega) (by omega)) (h4 4 (by omega) (by omega) (by omega) (by omega)))
  · refine R_if_ne (pc := 4) (t := 10) dX12_sort_4 (by decide) (fun hz9 => absurd hz9 (by decide)) (fun _ => ?_)
    refine R_ldc (pc := 7) (x := (-1000001)) dX12_sort_7 rfl ?_
    refine R_iret (pc := 9) dX12_sort_9 rfl ?_
    first
      | exact hB e
      | (rw [mvR_O hn h3 h2 n 0 (nI 0) (by omega)]
         exact hG x hx rfl A2 h1 (h4 2 (by omega) (by omega) (by omega) (by omega)) (h4 3 (by omega) (by omega) (by omega) (by omega)) (h4 4 (by omega) (by omega) (by omega) (by omega)))
end MOD6
