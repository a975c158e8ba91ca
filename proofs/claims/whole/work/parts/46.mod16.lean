section MOD16
variable {sA : Nat} {h : Nat → Option am_C} {z : Nat × Nat} {Q : Option Value → am_H → Prop} {M : Nat} {A : Nat → Nat → Int32} {S : Nat → Int32}
/-! THE SECOND WAY: the accepted cards by their keys -/
def alB (acc : Nat → Nat → Int32) (i j : Nat) : Bool := decide (acc i 0 = acc j 0 ∧ acc i 1 = acc j 1 ∧ acc i 2 = acc j 2)
def laN (acc : Nat → Nat → Int32) (k : Nat) : Nat → Nat → Bool
  | 0, _ => true
  | n + 1, i => if alB acc k i = true then false else laN acc k n (i + 1)
/-- whether an accepted card of m is the last one with its key -/
def lastB (acc : Nat → Nat → Int32) (m k : Nat) : Bool := laN acc k (m - (k + 1)) (k + 1)
/-- the sum over the first n for which b holds -/
def sK (b : Nat → Bool) (g : Nat → Int32) : Nat → Int32
  | 0 => nI 0
  | n + 1 => if b n = true then sK b g n + g n else sK b g n
def okS (acc : Nat → Nat → Int32) (l n : Nat) (g : Nat → Int32) : Int32 := sK (fun k => alB acc k l) g n
def okC (acc : Nat → Nat → Int32) (l n : Nat) : Int32 := okS acc l n (fun _ => nI 1)
def okH (acc : Nat → Nat → Int32) (l n : Nat) : Int32 := okS acc l n (fun k => acc k 3)
def okW (acc : Nat → Nat → Int32) (l n : Nat) : Int32 := okS acc l n (fun k => wag (acc k))
def okM (lim : Int32) (acc : Nat → Nat → Int32) (l n : Nat) : Int32 := ovr (okH acc l n) lim (acc l 4)
/-- of the key of the l-th card, over the first n: 0 cards, 1 hours, 2 wages, else overtime -/
def okR (lim : Int32) (acc : Nat → Nat → Int32) (l n what : Nat) : Int32 := if what = 0 then okC acc l n else if what = 1 then okH acc l n else if what = 2 then okW acc l n + okM lim acc l n else okM lim acc l n
def inR (lim : Int32) (acc : Nat → Nat → Int32) (m : Nat) (dep : Int32) (what : Nat) (n : Nat) : Int32 := sK (fun k => lastB acc m k && decide (dep = (-1) ∨ acc k 0 = dep)) (fun k => if what = 4 then nI 1 else okR lim acc k (k + 1) what) n
def keyA (acc : Nat → Nat → Int32) (k : Nat) : Int64 := keyM (acc k 0) (acc k 1) (acc k 2)
def ahB (lim : Int32) (acc : Nat → Nat → Int32) (i k : Nat) : Bool := decide (okR lim acc k (k + 1) 2 < okR lim acc i (i + 1) 2 ∨ (okR lim acc i (i + 1) 2 = okR lim acc k (k + 1) 2 ∧ keyA acc i < keyA acc k))
def rkR (lim : Int32) (acc : Nat → Nat → Int32) (m k n : Nat) : Int32 := sK (fun i => lastB acc m i && ahB lim acc i k) (fun _ => nI 1) n
/-- the first card from i on that is the last with its key and has the place a -/
def rkL (lim : Int32) (acc : Nat → Nat → Int32) (m : Nat) (a : Int32) (what : Nat) : Nat → Nat → Int32
  | 0, _ => (-1000009)
  | n + 1, i => if lastB acc m i = true ∧ rkR lim acc m i m = a then (if what < 3 then acc i what else okR lim acc i (i + 1) 2) else rkL lim acc m a what n (i + 1)
theorem sK_s (b : Nat → Bool) (g : Nat → Int32) (n : Nat) : sK b g (n + 1) = if b n = true then sK b g n + g n else sK b g n := rfl
theorem s12_isAlike {acc : Nat → Nat → Int32} {m : Nat} {i j : Nat} (hm : m ≤ 40) (hacc : ∀ k f, k < m → f < 5 → A 1 (1104 + 5 * k + f) = acc k f) (hi : i < m) (hj : j < m) (h1 : alB acc i j = true → Q (some (.int (nI 1))) (putM h M A S, z)) (h0 : alB acc i j = false → Q (some (.int (nI 0))) (putM h M A S, z)) : Rn sA mX12_isAlike 0 [some (.ref M), some (.int (nI i)), some (.int (nI j))] [] (putM h M A S, z) Q := by
  refine R_aload_n (pc := 0) dX12_isAlike_0 rfl ?_
  refine R_iload_n (pc := 1) dX12_isAlike_1 rfl ?_
  refine R_iconst (pc := 2) (x := nI 0) dX12_isAlike_2 rfl ?_
  refine R_callV (pc := 3) dX12_isAlike_3 rfl putM_o rfl rfl ?_
  refine s12_accepted (by omega) (by omega) ?_
  rw [hacc i 0 (by omega) (by omega)]
  refine R_aload_n (pc := 6) dX12_isAlike_6 rfl ?_
  refine R_iload_n (pc := 7) dX12_isAlike_7 rfl ?_
  refine R_iconst (pc := 8) (x := nI 0) dX12_isAlike_8 rfl ?_
  refine R_callV (pc := 9) dX12_isAlike_9 rfl putM_o rfl rfl ?_
  refine s12_accepted (by omega) (by omega) ?_
  rw [hacc j 0 (by omega) (by omega)]
  refine R_icmp_ne (pc := 12) (t := 49) dX12_isAlike_12 (by decide) (fun h12 => ?_) (fun h12 => ?_)
  · refine R_iconst (pc := 49) (x := nI 0) dX12_isAlike_49 rfl ?_
    refine R_zret (pc := 50) dX12_isAlike_50 rfl (by decide) ?_
    first
      | exact h1 (decide_eq_true ⟨h12, h27, h42⟩)
      | exact h0 (decide_eq_false (fun q => h12 q.1))
      | exact h0 (decide_eq_false (fun q => h27 q.2.1))
      | exact h0 (decide_eq_false (fun q => h42 q.2.2))
  · refine R_aload_n (pc := 15) dX12_isAlike_15 rfl ?_
    refine R_iload_n (pc := 16) dX12_isAlike_16 rfl ?_
    refine R_iconst (pc := 17) (x := nI 1) dX12_isAlike_17 rfl ?_
    refine R_callV (pc := 18) dX12_isAlike_18 rfl putM_o rfl rfl ?_
    refine s12_accepted (by omega) (by omega) ?_
    rw [hacc i 1 (by omega) (by omega)]
    refine R_aload_n (pc := 21) dX12_isAlike_21 rfl ?_
    refine R_iload_n (pc := 22) dX12_isAlike_22 rfl ?_
    refine R_iconst (pc := 23) (x := nI 1) dX12_isAlike_23 rfl ?_
    refine R_callV (pc := 24) dX12_isAlike_24 rfl putM_o rfl rfl ?_
    refine s12_accepted (by omega) (by omega) ?_
    rw [hacc j 1 (by omega) (by omega)]
    refine R_icmp_ne (pc := 27) (t := 49) dX12_isAlike_27 (by decide) (fun h27 => ?_) (fun h27 => ?_)
    · refine R_iconst (pc := 49) (x := nI 0) dX12_isAlike_49 rfl ?_
      refine R_zret (pc := 50) dX12_isAlike_50 rfl (by decide) ?_
      first
        | exact h1 (decide_eq_true ⟨h12, h27, h42⟩)
        | exact h0 (decide_eq_false (fun q => h12 q.1))
        | exact h0 (decide_eq_false (fun q => h27 q.2.1))
        | exact h0 (decide_eq_false (fun q => h42 q.2.2))
    · refine R_aload_n (pc := 30) dX12_isAlike_30 rfl ?_
      refine R_iload_n (pc := 31) dX12_isAlike_31 rfl ?_
      refine R_iconst (pc := 32) (x := nI 2) dX12_isAlike_32 rfl ?_
      refine R_callV (pc := 33) dX12_isAlike_33 rfl putM_o rfl rfl ?_
      refine s12_accepted (by omega) (by omega) ?_
      rw [hacc i 2 (by omega) (by omega)]
      refine R_aload_n (pc := 36) dX12_isAlike_36 rfl ?_
      refine R_iload_n (pc := 37) dX12_isAlike_37 rfl ?_
      refine R_iconst (pc := 38) (x := nI 2) dX12_isAlike_38 rfl ?_
      refine R_callV (pc := 39) dX12_isAlike_39 rfl putM_o rfl rfl ?_
      refine s12_accepted (by omega) (by omega) ?_
      rw [hacc j 2 (by omega) (by omega)]
      refine R_icmp_ne (pc := 42) (t := 49) dX12_isAlike_42 (by decide) (fun h42 => ?_) (fun h42 => ?_)
      · refine R_iconst (pc := 49) (x := nI 0) dX12_isAlike_49 rfl ?_
        refine R_zret (pc := 50) dX12_isAlike_50 rfl (by decide) ?_
        first
          | exact h1 (decide_eq_true ⟨h12, h27, h42⟩)
          | exact h0 (decide_eq_false (fun q => h12 q.1))
          | exact h0 (decide_eq_false (fun q => h27 q.2.1))
          | exact h0 (decide_eq_false (fun q => h42 q.2.2))
      · refine R_iconst (pc := 45) (x := nI 1) dX12_isAlike_45 rfl ?_
        refine R_goto (pc := 46) (t := 50) dX12_isAlike_46 (by decide) ?_
        refine R_zret (pc := 50) dX12_isAlike_50 rfl (by decide) ?_
        first
          | exact h1 (decide_eq_true ⟨h12, h27, h42⟩)
          | exact h0 (decide_eq_false (fun q => h12 q.1))
          | exact h0 (decide_eq_false (fun q => h27 q.2.1))
          | exact h0 (decide_eq_false (fun q => h42 q.2.2))
theorem l12_isLast {acc : Nat → Nat → Int32} {m : Nat} {k : Nat} (hm : m ≤ 40) (hm2 : A 1 1103 = nI m) (hacc : ∀ k f, k < m → f < 5 → A 1 (1104 + 5 * k + f) = acc k f) (hk : k < m) : ∀ (n i : Nat) (_ : i + n = m) (_ : laN acc k n i = true → Q (some (.int (nI 1))) (putM h M A S, z)) (_ : laN acc k n i = false → Q (some (.int (nI 0))) (putM h M A S, z)), Rn sA mX12_isLast 4 [some (.ref M), some (.int (nI k)), some (.int (nI i))] [] (putM h M A S, z) Q
  | 0, i, hi, h1, h0 => by
    refine R_iload_n (pc := 4) dX12_isLast_4 rfl ?_
    refine R_aload_n (pc := 5) dX12_isLast_5 rfl ?_
    refine M_g (pc := 6) dX12_isLast_6 rfl rfl ?_
    refine R_sipush (pc := 9) (x := nI 1103) dX12_isLast_9 (by decide) ?_
    refine M_ald (pc := 12) dX12_isLast_12 rfl (by simp only [mol1]; omega) ?_
    refine R_icmp_ge (pc := 13) (t := 33) dX12_isLast_13 (by decide) (fun _ => ?_) (fun hz9 => absurd (by rw [hm2]; exact nI_le (by omega) (by omega)) hz9)
    refine R_iconst (pc := 33) (x := nI 1) dX12_isLast_33 rfl ?_
    refine R_zret (pc := 34) dX12_isLast_34 rfl (by decide) ?_
    exact h1 rfl
  | n + 1, i, hi, h1, h0 => by
    refine R_iload_n (pc := 4) dX12_isLast_4 rfl ?_
    refine R_aload_n (pc := 5) dX12_isLast_5 rfl ?_
    refine M_g (pc := 6) dX12_isLast_6 rfl rfl ?_
    refine R_sipush (pc := 9) (x := nI 1103) dX12_isLast_9 (by decide) ?_
    refine M_ald (pc := 12) dX12_isLast_12 rfl (by simp only [mol1]; omega) ?_
    refine R_icmp_ge (pc := 13) (t := 33) dX12_isLast_13 (by decide) (fun hz9 => absurd hz9 (by rw [hm2]; exact nI_ge (by omega) (by omega))) (fun _ => ?_)
    refine R_aload_n (pc := 16) dX12_isLast_16 rfl ?_
    refine R_iload_n (pc := 17) dX12_isLast_17 rfl ?_
    refine R_iload_n (pc := 18) dX12_isLast_18 rfl ?_
    refine R_callV (pc := 19) dX12_isLast_19 rfl putM_o rfl rfl ?_
    refine s12_isAlike hm hacc (i := k) (j := i) (by omega) (by omega) (fun ea => ?_) (fun ea => ?_)
    · refine R_if_eq (pc := 22) (t := 27) dX12_isLast_22 (by decide) (fun hz9 => absurd hz9 (by decide)) (fun _ => ?_)
      refine R_iconst (pc := 25) (x := nI 0) dX12_isLast_25 rfl ?_
      refine R_zret (pc := 26) dX12_isLast_26 rfl (by decide) ?_
      exact h0 (if_pos ea)
    · refine R_if_eq (pc := 22) (t := 27) dX12_isLast_22 (by decide) (fun _ => ?_) (fun hz9 => absurd hz9 (by decide))
      refine R_iinc (pc := 27) dX12_isLast_27 rfl (by first | exact nI_inc _ | rfl) rfl ?_
      refine R_goto (pc := 30) (t := 4) dX12_isLast_30 (by decide) ?_
      exact l12_isLast hm hm2 hacc hk n (i + 1) (by omega) (fun q => h1 ((if_neg (fun t => by rw [ea] at t; exact absurd t (by decide))).trans q)) (fun q => h0 ((if_neg (fun t => by rw [ea] at t; exact absurd t (by decide))).trans q))
theorem s12_isLast {acc : Nat → Nat → Int32} {m : Nat} {k : Nat} (hm : m ≤ 40) (hm2 : A 1 1103 = nI m) (hacc : ∀ k f, k < m → f < 5 → A 1 (1104 + 5 * k + f) = acc k f) (hk : k < m) (h1 : lastB acc m k = true → Q (some (.int (nI 1))) (putM h M A S, z)) (h0 : lastB acc m k = false → Q (some (.int (nI 0))) (putM h M A S, z)) : Rn sA mX12_isLast 0 [some (.ref M), some (.int (nI k)), none] [] (putM h M A S, z) Q := by
  refine R_iload_n (pc := 0) dX12_isLast_0 rfl ?_
  refine R_iconst (pc := 1) (x := nI 1) dX12_isLast_1 rfl ?_
  refine R_iadd (pc := 2) dX12_isLast_2 ?_
  refine R_istore_n (pc := 3) dX12_isLast_3 (Nat.le_of_ble_eq_true rfl) rfl ?_
  rw [nI_add]
  exact l12_isLast hm hm2 hacc hk (m - (k + 1)) (k + 1) (by omega) h1 h0
theorem l12_ofKey {acc : Nat → Nat → Int32} {m : Nat} {l what : Nat} (hm : m ≤ 40) (hacc : ∀ k f, k < m → f < 5 → A 1 (1104 + 5 * k + f) = acc k f) (hl : l < m) : ∀ (n k : Nat) (_ : k + n = l + 1) (_ : (Rn sA mX12_ofKey 59 [some (.ref M), some (.int (nI l)), some (.int (nI what)), some (.int (okC acc l (l + 1))), some (.int (okH acc l (l + 1))), some (.int (okW acc l (l + 1))), some (.int (nI (l + 1)))] [] (putM h M A S, z) Q)), Rn sA mX12_ofKey 11 [some (.ref M), some (.int (nI l)), some (.int (nI what)), some (.int (okC acc l k)), some (.int (okH acc l k)), some (.int (okW acc l k)), some (.int (nI k))] [] (putM h M A S, z) Q
  | 0, k, hk, hX => by
    obtain rfl : k = l + 1 := by omega
    refine R_iload (pc := 11) dX12_ofKey_11 rfl ?_
    refine R_iload_n (pc := 13) dX12_ofKey_13 rfl ?_
    refine R_icmp_gt (pc := 14) (t := 59) dX12_ofKey_14 (by decide) (fun _ => ?_) (fun hz9 => absurd (nI_lt (by omega) (by omega)) hz9)
    exact hX
  | n + 1, k, hk, hX => by
    refine R_iload (pc := 11) dX12_ofKey_11 rfl ?_
    refine R_iload_n (pc := 13) dX12_ofKey_13 rfl ?_
    refine R_icmp_gt (pc := 14) (t := 59) dX12_ofKey_14 (by decide) (fun hz9 => absurd hz9 (nI_nlt (by omega) (by omega))) (fun _ => ?_)
    refine R_aload_n (pc := 17) dX12_ofKey_17 rfl ?_
    refine R_iload (pc := 18) dX12_ofKey_18 rfl ?_
    refine R_iload_n (pc := 20) dX12_ofKey_20 rfl ?_
    refine R_callV (pc := 21) dX12_ofKey_21 rfl putM_o rfl rfl ?_
    refine s12_isAlike hm hacc (i := k) (j := l) (by omega) (by omega) (fun ea => ?_) (fun ea => ?_)
    · refine R_if_eq (pc := 24) (t := 53) dX12_ofKey_24 (by decide) (fun hz9 => absurd hz9 (by decide)) (fun _ => ?_)
      refine R_iinc (pc := 27) dX12_ofKey_27 rfl rfl rfl ?_
      refine R_iload (pc := 30) dX12_ofKey_30 rfl ?_
      refine R_aload_n (pc := 32) dX12_ofKey_32 rfl ?_
      refine R_iload (pc := 33) dX12_ofKey_33 rfl ?_
      refine R_iconst (pc := 35) (x := nI 3) dX12_ofKey_35 rfl ?_
      refine R_callV (pc := 36) dX12_ofKey_36 rfl putM_o rfl rfl ?_
      refine s12_accepted (by omega) (by omega) ?_
      rw [hacc k 3 (by omega) (by omega)]
      refine R_iadd (pc := 39) dX12_ofKey_39 ?_
      refine R_istore (pc := 40) dX12_ofKey_40 (Nat.le_of_ble_eq_true rfl) rfl ?_
      refine R_iload (pc := 42) dX12_ofKey_42 rfl ?_
      refine R_aload_n (pc := 44) dX12_ofKey_44 rfl ?_
      refine R_iload (pc := 45) dX12_ofKey_45 rfl ?_
      refine R_callV (pc := 47) dX12_ofKey_47 rfl putM_o rfl rfl ?_
      refine s12_wageOf (by omega) ?_
      rw [show wag (fun f => A 1 (1104 + 5 * k + f)) = wag (acc k) by unfold wag; dsimp only; rw [hacc k 3 (by omega) (by omega), hacc k 4 (by omega) (by omega)]]
      refine R_iadd (pc := 50) dX12_ofKey_50 ?_
      refine R_istore (pc := 51) dX12_ofKey_51 (Nat.le_of_ble_eq_true rfl) rfl ?_
      refine R_iinc (pc := 53) dX12_ofKey_53 rfl (by first | exact nI_inc _ | rfl) rfl ?_
      refine R_goto (pc := 56) (t := 11) dX12_ofKey_56 (by decide) ?_
      have q := l12_ofKey hm hacc hl n (k + 1) (by omega) hX
      rw [show okC acc l (k + 1) = okC acc l k + nI 1 from if_pos ea, show okH acc l (k + 1) = okH acc l k + acc k 3 from if_pos ea, show okW acc l (k + 1) = okW acc l k + wag (acc k) from if_pos ea] at q
      exact q
    · refine R_if_eq (pc := 24) (t := 53) dX12_ofKey_24 (by decide) (fun _ => ?_) (fun hz9 => absurd hz9 (by decide))
      refine R_iinc (pc := 53) dX12_ofKey_53 rfl (by first | exact nI_inc _ | rfl) rfl ?_
      refine R_goto (pc := 56) (t := 11) dX12_ofKey_56 (by decide) ?_
      have q := l12_ofKey hm hacc hl n (k + 1) (by omega) hX
      rw [show okC acc l (k + 1) = okC acc l k from if_neg (fun t => Bool.false_ne_true (ea.symm.trans t)), show okH acc l (k + 1) = okH acc l k from if_neg (fun t => Bool.false_ne_true (ea.symm.trans t)), show okW acc l (k + 1) = okW acc l k from if_neg (fun t => Bool.false_ne_true (ea.symm.trans t))] at q
      exact q
theorem s12_ofKey {acc : Nat → Nat → Int32} {m : Nat} {l what : Nat} {lim : Int32} (hm : m ≤ 40) (hacc : ∀ k f, k < m → f < 5 → A 1 (1104 + 5 * k + f) = acc k f) (hlim : A 1 1061 = lim) (hl : l < m) (hwh : what < 5) (hQ : Q (some (.int (okR lim acc l (l + 1) what))) (putM h M A S, z)) : Rn sA mX12_ofKey 0 [some (.ref M), some (.int (nI l)), some (.int (nI what)), none, none, none, none] [] (putM h M A S, z) Q := by
  refine R_iconst (pc := 0) (x := nI 0) dX12_ofKey_0 rfl ?_
  refine R_istore_n (pc := 1) dX12_ofKey_1 (Nat.le_of_ble_eq_true rfl) rfl ?_
  refine R_iconst (pc := 2) (x := nI 0) dX12_ofKey_2 rfl ?_
  refine R_istore (pc := 3) dX12_ofKey_3 (Nat.le_of_ble_eq_true rfl) rfl ?_
  refine R_iconst (pc := 5) (x := nI 0) dX12_ofKey_5 rfl ?_
  refine R_istore (pc := 6) dX12_ofKey_6 (Nat.le_of_ble_eq_true rfl) rfl ?_
  refine R_iconst (pc := 8) (x := nI 0) dX12_ofKey_8 rfl ?_
  refine R_istore (pc := 9) dX12_ofKey_9 (Nat.le_of_ble_eq_true rfl) rfl ?_
  refine l12_ofKey hm hacc hl (l + 1) 0 (by omega) ?_
  refine R_iload (pc := 59) dX12_ofKey_59 rfl ?_
  refine R_aload_n (pc := 61) dX12_ofKey_61 rfl ?_
  refine M_g (pc := 62) dX12_ofKey_62 rfl rfl ?_
  refine R_sipush (pc := 65) (x := nI 1061) dX12_ofKey_65 (by decide) ?_
  refine M_ald (pc := 68) dX12_ofKey_68 rfl (by simp only [mol1]; omega) ?_
  refine R_aload_n (pc := 69) dX12_ofKey_69 rfl ?_
  refine R_iload_n (pc := 70) dX12_ofKey_70 rfl ?_
  refine R_iconst (pc := 71) (x := nI 4) dX12_ofKey_71 rfl ?_
  refine R_callV (pc := 72) dX12_ofKey_72 rfl putM_o rfl rfl ?_
  refine s12_accepted (by omega) (by omega) ?_
  rw [hacc l 4 (by omega) (by omega)]
  refine R_callS (pc := 75) dX12_ofKey_75 rfl (Or.inl rfl) rfl rfl ?_
  rw [hlim]
  refine s12_overtime ?_
  refine R_istore (pc := 78) dX12_ofKey_78 (Nat.le_of_ble_eq_true rfl) rfl ?_
  refine R_iload_n (pc := 80) dX12_ofKey_80 rfl ?_
  refine R_if_ne (pc := 81) (t := 88) dX12_ofKey_81 (by decide) (fun h81 => ?_) (fun h81 => ?_)
  · have c81 : ¬ what = 0 := fun q => h81 (by rw [q]; rfl)
    refine R_iload_n (pc := 88) dX12_ofKey_88 rfl ?_
    refine R_iconst (pc := 89) (x := nI 1) dX12_ofKey_89 rfl ?_
    refine R_icmp_ne (pc := 90) (t := 98) dX12_ofKey_90 (by decide) (fun h90 => ?_) (fun h90 => ?_)
    · have c90 : ¬ what = 1 := fun q => h90 (by rw [q])
      refine R_iload_n (pc := 98) dX12_ofKey_98 rfl ?_
      refine R_iconst (pc := 99) (x := nI 2) dX12_ofKey_99 rfl ?_
      refine R_icmp_ne (pc := 100) (t := 111) dX12_ofKey_100 (by decide) (fun h100 => ?_) (fun h100 => ?_)
      · have c100 : ¬ what = 2 := fun q => h100 (by rw [q])
        refine R_iload (pc := 111) dX12_ofKey_111 rfl ?_
        refine R_iret (pc := 113) dX12_ofKey_113 rfl ?_
        unfold okR at hQ
        first
          | (rw [if_pos c81] at hQ; exact hQ)
          | (rw [if_neg c81, if_pos c90] at hQ; exact hQ)
          | (rw [if_neg c81, if_neg c90, if_pos c100] at hQ; exact hQ)
          | (rw [if_neg c81, if_neg c90, if_neg c100] at hQ; exact hQ)
      · have c100 : what = 2 := (nI_eq (by omega) (by omega)).mp h100
        refine R_iload (pc := 103) dX12_ofKey_103 rfl ?_
        refine R_iload (pc := 105) dX12_ofKey_105 rfl ?_
        refine R_iadd (pc := 107) dX12_ofKey_107 ?_
        refine R_goto (pc := 108) (t := 113) dX12_ofKey_108 (by decide) ?_
        refine R_iret (pc := 113) dX12_ofKey_113 rfl ?_
        unfold okR at hQ
        first
          | (rw [if_pos c81] at hQ; exact hQ)
          | (rw [if_neg c81, if_pos c90] at hQ; exact hQ)
          | (rw [if_neg c81, if_neg c90, if_pos c100] at hQ; exact hQ)
          | (rw [if_neg c81, if_neg c90, if_neg c100] at hQ; exact hQ)
    · have c90 : what = 1 := (nI_eq (by omega) (by omega)).mp h90
      refine R_iload (pc := 93) dX12_ofKey_93 rfl ?_
      refine R_goto (pc := 95) (t := 113) dX12_ofKey_95 (by decide) ?_
      refine R_iret (pc := 113) dX12_ofKey_113 rfl ?_
      unfold okR at hQ
      first
        | (rw [if_pos c81] at hQ; exact hQ)
        | (rw [if_neg c81, if_pos c90] at hQ; exact hQ)
        | (rw [if_neg c81, if_neg c90, if_pos c100] at hQ; exact hQ)
        | (rw [if_neg c81, if_neg c90, if_neg c100] at hQ; exact hQ)
  · have c81 : what = 0 := (nI_eq (b := 0) (by omega) (by omega)).mp h81
    refine R_iload_n (pc := 84) dX12_ofKey_84 rfl ?_
    refine R_goto (pc := 85) (t := 113) dX12_ofKey_85 (by decide) ?_
    refine R_iret (pc := 113) dX12_ofKey_113 rfl ?_
    unfold okR at hQ
    first
      | (rw [if_pos c81] at hQ; exact hQ)
      | (rw [if_neg c81, if_pos c90] at hQ; exact hQ)
      | (rw [if_neg c81, if_neg c90, if_pos c100] at hQ; exact hQ)
      | (rw [if_neg c81, if_neg c90, if_neg c100] at hQ; exact hQ)
theorem l12_inS {acc : Nat → Nat → Int32} {m : Nat} {dep lim : Int32} {what : Nat} (hm : m ≤ 40) (hm2 : A 1 1103 = nI m) (hacc : ∀ k f, k < m → f < 5 → A 1 (1104 + 5 * k + f) = acc k f) (hlim : A 1 1061 = lim) (hwh : what < 5) : ∀ (n k : Nat) (_ : k + n = m) (_ : Q (some (.int (inR lim acc m dep what m))) (putM h M A S, z)), Rn sA mX12_inSecondWay 5 [some (.ref M), some (.int dep), some (.int (nI what)), some (.int (inR lim acc m dep what k)), some (.int (nI k))] [] (putM h M A S, z) Q
  | 0, k, hk, hQ => by
    obtain rfl : k = m := by omega
    refine R_iload (pc := 5) dX12_inSecondWay_5 rfl ?_
    refine R_aload_n (pc := 7) dX12_inSecondWay_7 rfl ?_
    refine M_g (pc := 8) dX12_inSecondWay_8 rfl rfl ?_
    refine R_sipush (pc := 11) (x := nI 1103) dX12_inSecondWay_11 (by decide) ?_
    refine M_ald (pc := 14) dX12_inSecondWay_14 rfl (by simp only [mol1]; omega) ?_
    refine R_icmp_ge (pc := 15) (t := 68) dX12_inSecondWay_15 (by decide) (fun _ => ?_) (fun hz9 => absurd (by rw [hm2]; exact nI_le (by omega) (by omega)) hz9)
    refine R_iload_n (pc := 68) dX12_inSecondWay_68 rfl ?_
    refine R_iret (pc := 69) dX12_inSecondWay_69 rfl ?_
    exact hQ
  | n + 1, k, hk, hQ => by
    refine R_iload (pc := 5) dX12_inSecondWay_5 rfl ?_
    refine R_aload_n (pc := 7) dX12_inSecondWay_7 rfl ?_
    refine M_g (pc := 8) dX12_inSecondWay_8 rfl rfl ?_
    refine R_sipush (pc := 11) (x := nI 1103) dX12_inSecondWay_11 (by decide) ?_
    refine M_ald (pc := 14) dX12_inSecondWay_14 rfl (by simp only [mol1]; omega) ?_
    refine R_icmp_ge (pc := 15) (t := 68) dX12_inSecondWay_15 (by decide) (fun hz9 => absurd hz9 (by rw [hm2]; exact nI_ge (by omega) (by omega))) (fun _ => ?_)
    refine R_aload_n (pc := 18) dX12_inSecondWay_18 rfl ?_
    refine R_iload (pc := 19) dX12_inSecondWay_19 rfl ?_
    refine R_callV (pc := 21) dX12_inSecondWay_21 rfl putM_o rfl rfl ?_
    refine s12_isLast hm hm2 hacc (k := k) (by omega) (fun el => ?_) (fun el => ?_)
    · refine R_if_eq (pc := 24) (t := 62) dX12_inSecondWay_24 (by decide) (fun hz9 => absurd hz9 (by decide)) (fun _ => ?_)
      refine R_iload_n (pc := 27) dX12_inSecondWay_27 rfl ?_
      refine R_iconst (pc := 28) (x := (-1)) dX12_inSecondWay_28 rfl ?_
      refine R_icmp_eq (pc := 29) (t := 43) dX12_inSecondWay_29 (by decide) (fun h29 => ?_) (fun h29 => ?_)
      · refine R_iload_n (pc := 43) dX12_inSecondWay_43 rfl ?_
        refine R_iload_n (pc := 44) dX12_inSecondWay_44 rfl ?_
        refine R_iconst (pc := 45) (x := nI 4) dX12_inSecondWay_45 rfl ?_
        refine R_icmp_ne (pc := 46) (t := 53) dX12_inSecondWay_46 (by decide) (fun h46 => ?_) (fun h46 => ?_)
        · have c46 : ¬ what = 4 := fun q => h46 (by rw [q])
          refine R_aload_n (pc := 53) dX12_inSecondWay_53 rfl ?_
          refine R_iload (pc := 54) dX12_inSecondWay_54 rfl ?_
          refine R_iload_n (pc := 56) dX12_inSecondWay_56 rfl ?_
          refine R_callV (pc := 57) dX12_inSecondWay_57 rfl putM_o rfl rfl ?_
          refine s12_ofKey hm hacc hlim (by omega) hwh ?_
          refine R_iadd (pc := 60) dX12_inSecondWay_60 ?_
          refine R_istore_n (pc := 61) dX12_inSecondWay_61 (Nat.le_of_ble_eq_true rfl) rfl ?_
          refine R_iinc (pc := 62) dX12_inSecondWay_62 rfl (by first | exact nI_inc _ | rfl) rfl ?_
          refine R_goto (pc := 65) (t := 5) dX12_inSecondWay_65 (by decide) ?_
          have q := l12_inS hm hm2 hacc hlim hwh n (k + 1) (by omega) hQ
          first
            | (rw [show inR lim acc m dep what (k + 1) = inR lim acc m dep what k from if_neg (by show ¬ (lastB acc m k && decide (dep = (-1) ∨ acc k 0 = dep)) = true; rw [el, Bool.false_and]; decide)] at q; exact q)
            | (rw [show inR lim acc m dep what (k + 1) = inR lim acc m dep what k from if_neg (by show ¬ (lastB acc m k && decide (dep = (-1) ∨ acc k 0 = dep)) = true; rw [decide_eq_false (fun t => t.elim h29 h40), Bool.and_false]; decide)] at q; exact q)
            | (rw [show inR lim acc m dep what (k + 1) = inR lim acc m dep what k + (if what = 4 then nI 1 else okR lim acc k (k + 1) what) from if_pos (by show (lastB acc m k && decide (dep = (-1) ∨ acc k 0 = dep)) = true; rw [el, decide_eq_true (Or.inl h29)]; rfl)] at q; first | (rw [if_pos c46] at q; exact q) | (rw [if_neg c46] at q; exact q))
            | (rw [show inR lim acc m dep what (k + 1) = inR lim acc m dep what k + (if what = 4 then nI 1 else okR lim acc k (k + 1) what) from if_pos (by show (lastB acc m k && decide (dep = (-1) ∨ acc k 0 = dep)) = true; rw [el, decide_eq_true (Or.inr h40)]; rfl)] at q; first | (rw [if_pos c46] at q; exact q) | (rw [if_neg c46] at q; exact q))
        · have c46 : what = 4 := (nI_eq (by omega) (by omega)).mp h46
          refine R_iconst (pc := 49) (x := nI 1) dX12_inSecondWay_49 rfl ?_
          refine R_goto (pc := 50) (t := 60) dX12_inSecondWay_50 (by decide) ?_
          refine R_iadd (pc := 60) dX12_inSecondWay_60 ?_
          refine R_istore_n (pc := 61) dX12_inSecondWay_61 (Nat.le_of_ble_eq_true rfl) rfl ?_
          refine R_iinc (pc := 62) dX12_inSecondWay_62 rfl (by first | exact nI_inc _ | rfl) rfl ?_
          refine R_goto (pc := 65) (t := 5) dX12_inSecondWay_65 (by decide) ?_
          have q := l12_inS hm hm2 hacc hlim hwh n (k + 1) (by omega) hQ
          first
            | (rw [show inR lim acc m dep what (k + 1) = inR lim acc m dep what k from if_neg (by show ¬ (lastB acc m k && decide (dep = (-1) ∨ acc k 0 = dep)) = true; rw [el, Bool.false_and]; decide)] at q; exact q)
            | (rw [show inR lim acc m dep what (k + 1) = inR lim acc m dep what k from if_neg (by show ¬ (lastB acc m k && decide (dep = (-1) ∨ acc k 0 = dep)) = true; rw [decide_eq_false (fun t => t.elim h29 h40), Bool.and_false]; decide)] at q; exact q)
            | (rw [show inR lim acc m dep what (k + 1) = inR lim acc m dep what k + (if what = 4 then nI 1 else okR lim acc k (k + 1) what) from if_pos (by show (lastB acc m k && decide (dep = (-1) ∨ acc k 0 = dep)) = true; rw [el, decide_eq_true (Or.inl h29)]; rfl)] at q; first | (rw [if_pos c46] at q; exact q) | (rw [if_neg c46] at q; exact q))
            | (rw [show inR lim acc m dep what (k + 1) = inR lim acc m dep what k + (if what = 4 then nI 1 else okR lim acc k (k + 1) what) from if_pos (by show (lastB acc m k && decide (dep = (-1) ∨ acc k 0 = dep)) = true; rw [el, decide_eq_true (Or.inr h40)]; rfl)] at q; first | (rw [if_pos c46] at q; exact q) | (rw [if_neg c46] at q; exact q))
      · refine R_aload_n (pc := 32) dX12_inSecondWay_32 rfl ?_
        refine R_iload (pc := 33) dX12_inSecondWay_33 rfl ?_
        refine R_iconst (pc := 35) (x := nI 0) dX12_inSecondWay_35 rfl ?_
        refine R_callV (pc := 36) dX12_inSecondWay_36 rfl putM_o rfl rfl ?_
        refine s12_accepted (by omega) (by omega) ?_
        rw [hacc k 0 (by omega) (by omega)]
        refine R_iload_n (pc := 39) dX12_inSecondWay_39 rfl ?_
        refine R_icmp_ne (pc := 40) (t := 62) dX12_inSecondWay_40 (by decide) (fun h40 => ?_) (fun h40 => ?_)
        · refine R_iinc (pc := 62) dX12_inSecondWay_62 rfl (by first | exact nI_inc _ | rfl) rfl ?_
          refine R_goto (pc := 65) (t := 5) dX12_inSecondWay_65 (by decide) ?_
          have q := l12_inS hm hm2 hacc hlim hwh n (k + 1) (by omega) hQ
          first
            | (rw [show inR lim acc m dep what (k + 1) = inR lim acc m dep what k from if_neg (by show ¬ (lastB acc m k && decide (dep = (-1) ∨ acc k 0 = dep)) = true; rw [el, Bool.false_and]; decide)] at q; exact q)
            | (rw [show inR lim acc m dep what (k + 1) = inR lim acc m dep what k from if_neg (by show ¬ (lastB acc m k && decide (dep = (-1) ∨ acc k 0 = dep)) = true; rw [decide_eq_false (fun t => t.elim h29 h40), Bool.and_false]; decide)] at q; exact q)
            | (rw [show inR lim acc m dep what (k + 1) = inR lim acc m dep what k + (if what = 4 then nI 1 else okR lim acc k (k + 1) what) from if_pos (by show (lastB acc m k && decide (dep = (-1) ∨ acc k 0 = dep)) = true; rw [el, decide_eq_true (Or.inl h29)]; rfl)] at q; first | (rw [if_pos c46] at q; exact q) | (rw [if_neg c46] at q; exact q))
            | (rw [show inR lim acc m dep what (k + 1) = inR lim acc m dep what k + (if what = 4 then nI 1 else okR lim acc k (k + 1) what) from if_pos (by show (lastB acc m k && decide (dep = (-1) ∨ acc k 0 = dep)) = true; rw [el, decide_eq_true (Or.inr h40)]; rfl)] at q; first | (rw [if_pos c46] at q; exact q) | (rw [if_neg c46] at q; exact q))
        · refine R_iload_n (pc := 43) dX12_inSecondWay_43 rfl ?_
          refine R_iload_n (pc := 44) dX12_inSecondWay_44 rfl ?_
          refine R_iconst (pc := 45) (x := nI 4) dX12_inSecondWay_45 rfl ?_
          refine R_icmp_ne (pc := 46) (t := 53) dX12_inSecondWay_46 (by decide) (fun h46 => ?_) (fun h46 => ?_)
          · have c46 : ¬ what = 4 := fun q => h46 (by rw [q])
            refine R_aload_n (pc := 53) dX12_inSecondWay_53 rfl ?_
            refine R_iload (pc := 54) dX12_inSecondWay_54 rfl ?_
            refine R_iload_n (pc := 56) dX12_inSecondWay_56 rfl ?_
            refine R_callV (pc := 57) dX12_inSecondWay_57 rfl putM_o rfl rfl ?_
            refine s12_ofKey hm hacc hlim (by omega) hwh ?_
            refine R_iadd (pc := 60) dX12_inSecondWay_60 ?_
            refine R_istore_n (pc := 61) dX12_inSecondWay_61 (Nat.le_of_ble_eq_true rfl) rfl ?_
            refine R_iinc (pc := 62) dX12_inSecondWay_62 rfl (by first | exact nI_inc _ | rfl) rfl ?_
            refine R_goto (pc := 65) (t := 5) dX12_inSecondWay_65 (by decide) ?_
            have q := l12_inS hm hm2 hacc hlim hwh n (k + 1) (by omega) hQ
            first
              | (rw [show inR lim acc m dep what (k + 1) = inR lim acc m dep what k from if_neg (by show ¬ (lastB acc m k && decide (dep = (-1) ∨ acc k 0 = dep)) = true; rw [el, Bool.false_and]; decide)] at q; exact q)
              | (rw [show inR lim acc m dep what (k + 1) = inR lim acc m dep what k from if_neg (by show ¬ (lastB acc m k && decide (dep = (-1) ∨ acc k 0 = dep)) = true; rw [decide_eq_false (fun t => t.elim h29 h40), Bool.and_false]; decide)] at q; exact q)
              | (rw [show inR lim acc m dep what (k + 1) = inR lim acc m dep what k + (if what = 4 then nI 1 else okR lim acc k (k + 1) what) from if_pos (by show (lastB acc m k && decide (dep = (-1) ∨ acc k 0 = dep)) = true; rw [el, decide_eq_true (Or.inl h29)]; rfl)] at q; first | (rw [if_pos c46] at q; exact q) | (rw [if_neg c46] at q; exact q))
              | (rw [show inR lim acc m dep what (k + 1) = inR lim acc m dep what k + (if what = 4 then nI 1 else okR lim acc k (k + 1) what) from if_pos (by show (lastB acc m k && decide (dep = (-1) ∨ acc k 0 = dep)) = true; rw [el, decide_eq_true (Or.inr h40)]; rfl)] at q; first | (rw [if_pos c46] at q; exact q) | (rw [if_neg c46] at q; exact q))
          · have c46 : what = 4 := (nI_eq (by omega) (by omega)).mp h46
            refine R_iconst (pc := 49) (x := nI 1) dX12_inSecondWay_49 rfl ?_
            refine R_goto (pc := 50) (t := 60) dX12_inSecondWay_50 (by decide) ?_
            refine R_iadd (pc := 60) dX12_inSecondWay_60 ?_
            refine R_istore_n (pc := 61) dX12_inSecondWay_61 (Nat.le_of_ble_eq_true rfl) rfl ?_
            refine R_iinc (pc := 62) dX12_inSecondWay_62 rfl (by first | exact nI_inc _ | rfl) rfl ?_
            refine R_goto (pc := 65) (t := 5) dX12_inSecondWay_65 (by decide) ?_
            have q := l12_inS hm hm2 hacc hlim hwh n (k + 1) (by omega) hQ
            first
              | (rw [show inR lim acc m dep what (k + 1) = inR lim acc m dep what k from if_neg (by show ¬ (lastB acc m k && decide (dep = (-1) ∨ acc k 0 = dep)) = true; rw [el, Bool.false_and]; decide)] at q; exact q)
              | (rw [show inR lim acc m dep what (k + 1) = inR lim acc m dep what k from if_neg (by show ¬ (lastB acc m k && decide (dep = (-1) ∨ acc k 0 = dep)) = true; rw [decide_eq_false (fun t => t.elim h29 h40), Bool.and_false]; decide)] at q; exact q)
              | (rw [show inR lim acc m dep what (k + 1) = inR lim acc m dep what k + (if what = 4 then nI 1 else okR lim acc k (k + 1) what) from if_pos (by show (lastB acc m k && decide (dep = (-1) ∨ acc k 0 = dep)) = true; rw [el, decide_eq_true (Or.inl h29)]; rfl)] at q; first | (rw [if_pos c46] at q; exact q) | (rw [if_neg c46] at q; exact q))
              | (rw [show inR lim acc m dep what (k + 1) = inR lim acc m dep what k + (if what = 4 then nI 1 else okR lim acc k (k + 1) what) from if_pos (by show (lastB acc m k && decide (dep = (-1) ∨ acc k 0 = dep)) = true; rw [el, decide_eq_true (Or.inr h40)]; rfl)] at q; first | (rw [if_pos c46] at q; exact q) | (rw [if_neg c46] at q; exact q))
    · refine R_if_eq (pc := 24) (t := 62) dX12_inSecondWay_24 (by decide) (fun _ => ?_) (fun hz9 => absurd hz9 (by decide))
      refine R_iinc (pc := 62) dX12_inSecondWay_62 rfl (by first | exact nI_inc _ | rfl) rfl ?_
      refine R_goto (pc := 65) (t := 5) dX12_inSecondWay_65 (by decide) ?_
      have q := l12_inS hm hm2 hacc hlim hwh n (k + 1) (by omega) hQ
      first
        | (rw [show inR lim acc m dep what (k + 1) = inR lim acc m dep what k from if_neg (by show ¬ (lastB acc m k && decide (dep = (-1) ∨ acc k 0 = dep)) = true; rw [el, Bool.false_and]; decide)] at q; exact q)
        | (rw [show inR lim acc m dep what (k + 1) = inR lim acc m dep what k from if_neg (by show ¬ (lastB acc m k && decide (dep = (-1) ∨ acc k 0 = dep)) = true; rw [decide_eq_false (fun t => t.elim h29 h40), Bool.and_false]; decide)] at q; exact q)
        | (rw [show inR lim acc m dep what (k + 1) = inR lim acc m dep what k + (if what = 4 then nI 1 else okR lim acc k (k + 1) what) from if_pos (by show (lastB acc m k && decide (dep = (-1) ∨ acc k 0 = dep)) = true; rw [el, decide_eq_true (Or.inl h29)]; rfl)] at q; first | (rw [if_pos c46] at q; exact q) | (rw [if_neg c46] at q; exact q))
        | (rw [show inR lim acc m dep what (k + 1) = inR lim acc m dep what k + (if what = 4 then nI 1 else okR lim acc k (k + 1) what) from if_pos (by show (lastB acc m k && decide (dep = (-1) ∨ acc k 0 = dep)) = true; rw [el, decide_eq_true (Or.inr h40)]; rfl)] at q; first | (rw [if_pos c46] at q; exact q) | (rw [if_neg c46] at q; exact q))
theorem s12_inS {acc : Nat → Nat → Int32} {m : Nat} {dep lim : Int32} {what : Nat} (hm : m ≤ 40) (hm2 : A 1 1103 = nI m) (hacc : ∀ k f, k < m → f < 5 → A 1 (1104 + 5 * k + f) = acc k f) (hlim : A 1 1061 = lim) (hwh : what < 5) (hQ : Q (some (.int (inR lim acc m dep what m))) (putM h M A S, z)) : Rn sA mX12_inSecondWay 0 [some (.ref M), some (.int dep), some (.int (nI what)), none, none] [] (putM h M A S, z) Q := by
  refine R_iconst (pc := 0) (x := nI 0) dX12_inSecondWay_0 rfl ?_
  refine R_istore_n (pc := 1) dX12_inSecondWay_1 (Nat.le_of_ble_eq_true rfl) rfl ?_
  refine R_iconst (pc := 2) (x := nI 0) dX12_inSecondWay_2 rfl ?_
  refine R_istore (pc := 3) dX12_inSecondWay_3 (Nat.le_of_ble_eq_true rfl) rfl ?_
  exact l12_inS hm hm2 hacc hlim hwh m 0 (by omega) hQ
theorem s12_again {acc : Nat → Nat → Int32} {m : Nat} {dep b lim : Int32} (hm : m ≤ 40) (hm2 : A 1 1103 = nI m) (hacc : ∀ k f, k < m → f < 5 → A 1 (1104 + 5 * k + f) = acc k f) (hlim : A 1 1061 = lim) (hB : (dep < (-1) ∨ ∀ k, k < 5 → ¬ b = nI k) → Q (some (.int (-1000001))) (putM h M A S, z)) (hG : ∀ k, ¬ dep < (-1) → k < 5 → b = nI k → Q (some (.int (inR lim acc m dep k m))) (putM h M A S, z)) : Rn sA mX12_again 0 [some (.ref M), some (.int dep), some (.int b)] [] (putM h M A S, z) Q := by
  refine R_iload_n (pc := 0) dX12_again_0 rfl ?_
  refine R_iconst (pc := 1) (x := (-1)) dX12_again_1 rfl ?_
  refine R_icmp_lt (pc := 2) (t := 14) dX12_again_2 (by decide) (fun h2 => ?_) (fun h2 => ?_)
  · refine R_ldc (pc := 14) (x := (-1000001)) dX12_again_14 rfl ?_
    refine R_goto (pc := 16) (t := 25) dX12_again_16 (by decide) ?_
    refine R_iret (pc := 25) dX12_again_25 rfl ?_
    first
      | exact hB (Or.inl h2)
      | exact hB (Or.inr (fun k hk => e k (Nat.zero_le _) (by omega)))
      | exact hG k h2 (by omega) rfl
  · refine R_iload_n (pc := 5) dX12_again_5 rfl ?_
    refine R_iconst (pc := 6) (x := nI 0) dX12_again_6 rfl ?_
    refine R_iconst (pc := 7) (x := nI 4) dX12_again_7 rfl ?_
    refine R_callS (pc := 8) dX12_again_8 rfl (Or.inl rfl) rfl rfl ?_
    refine s12_inG (a := 0) (b := 4) rfl (by decide) (by omega) (by omega) (fun k k0 hk e => ?_) (fun e => ?_)
    · subst e
      refine R_if_ne (pc := 11) (t := 19) dX12_again_11 (by decide) (fun _ => ?_) (fun hz9 => absurd hz9 (by decide))
      refine R_aload_n (pc := 19) dX12_again_19 rfl ?_
      refine R_iload_n (pc := 20) dX12_again_20 rfl ?_
      refine R_iload_n (pc := 21) dX12_again_21 rfl ?_
      refine R_callV (pc := 22) dX12_again_22 rfl putM_o rfl rfl ?_
      refine s12_inS hm hm2 hacc hlim (by omega) ?_
      refine R_iret (pc := 25) dX12_again_25 rfl ?_
      first
        | exact hB (Or.inl h2)
        | exact hB (Or.inr (fun k hk => e k (Nat.zero_le _) (by omega)))
        | exact hG k h2 (by omega) rfl
    · refine R_if_ne (pc := 11) (t := 19) dX12_again_11 (by decide) (fun hz9 => absurd hz9 (by decide)) (fun _ => ?_)
      refine R_ldc (pc := 14) (x := (-1000001)) dX12_again_14 rfl ?_
      refine R_goto (pc := 16) (t := 25) dX12_again_16 (by decide) ?_
      refine R_iret (pc := 25) dX12_again_25 rfl ?_
      first
        | exact hB (Or.inl h2)
        | exact hB (Or.inr (fun k hk => e k (Nat.zero_le _) (by omega)))
        | exact hG k h2 (by omega) rfl
end MOD16
