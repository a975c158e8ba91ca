section CD5
variable {sA : Nat} {h : Nat → Option am_C} {z : Nat × Nat} {Q : Option Value → am_H → Prop}
/-- the second way at u: c keys; the i-th totals lie in the cell qe i -/
def SwX (h : Nat → Option am_C) (u c : Nat) (qe : Nat → Nat) (f : Nat → Option Nat) (V : Nat → Nat → Int32) (Z : Nat → Int32) : Prop := h u = some (.inr (6, [.ref (u + 1), .ref (u + 2), .ref (u + 3), .int (nI c)])) ∧ h (u + 1) = some (.inl (3, 40, .inr (.inr (.inr (.inr f))))) ∧ (∀ i, i < 40 → TtAt h (u + 4 + qe i) (V i)) ∧ TtAt h (u + 3) Z ∧ (∀ i, i < 40 → qe i < 40) ∧ ∀ i j, i < 40 → j < 40 → qe i = qe j → i = j
def SwF (u : Nat) (qe : Nat → Nat) (f : Nat → Option Nat) : Prop := ∀ i, i < 40 → f i = some (u + 4 + qe i)
theorem SwX.fr {h h' : Nat → Option am_C} {u c : Nat} {qe : Nat → Nat} {f : Nat → Option Nat} {V : Nat → Nat → Int32} {Z : Nat → Int32} (a : SwX h u c qe f V Z) (e : ∀ x, u ≤ x → x < u + 44 → h' x = h x) : SwX h' u c qe f V Z := ⟨(e _ (by omega) (by omega)).trans a.1, (e _ (by omega) (by omega)).trans a.2.1, fun i hi => (a.2.2.1 i hi).fr (e _ (by omega) (by have := a.2.2.2.2.1 i hi; omega)), a.2.2.2.1.fr (e _ (by omega) (by omega)), a.2.2.2.2⟩
theorem SwX.up {h h' : Nat → Option am_C} {u c j : Nat} {qe : Nat → Nat} {f : Nat → Option Nat} {V : Nat → Nat → Int32} {Z X : Nat → Int32} (a : SwX h u c qe f V Z) (hj : j < 40) (b : TtAt h' (u + 4 + qe j) X) (e : ∀ x, ¬ x = u + 4 + qe j → h' x = h x) : SwX h' u c qe f (fun i => if i = j then X else V i) Z := by
  refine ⟨(e _ (by omega)).trans a.1, (e _ (by omega)).trans a.2.1, fun i hi => ?_, a.2.2.2.1.fr (e _ (by omega)), a.2.2.2.2⟩
  show TtAt h' (u + 4 + qe i) (if i = j then X else V i)
  by_cases q : i = j
  · subst q; rw [if_pos rfl]; exact b
  · rw [if_neg q]
    exact (a.2.2.1 i hi).fr (e _ (fun r => q (a.2.2.2.2.2 i j hi hj (by omega))))
theorem SwX.slip {h h' : Nat → Option am_C} {u c : Nat} {qe : Nat → Nat} {f : Nat → Option Nat} {V : Nat → Nat → Int32} {Z X : Nat → Int32} (a : SwX h u c qe f V Z) (b : TtAt h' (u + 3) X) (e : ∀ x, ¬ x = u + 3 → h' x = h x) : SwX h' u c qe f V X := ⟨(e _ (by omega)).trans a.1, (e _ (by omega)).trans a.2.1, fun i hi => (a.2.2.1 i hi).fr (e _ (by omega)), b, a.2.2.2.2⟩
theorem SwX.cnt {h : Nat → Option am_C} {u c c2 : Nat} {qe : Nat → Nat} {f : Nat → Option Nat} {V : Nat → Nat → Int32} {Z : Nat → Int32} (a : SwX h u c qe f V Z) : SwX (va_up h u (some (.inr (6, [.ref (u + 1), .ref (u + 2), .ref (u + 3), .int (nI c2)])))) u c2 qe f V Z := ⟨up_s, up_n (by omega) a.2.1, fun i hi => (a.2.2.1 i hi).fr (up_n (by omega) rfl), a.2.2.2.1.fr (up_n (by omega) rfl), a.2.2.2.2⟩
theorem c6_at {u c : Nat} {qe : Nat → Nat} {f : Nat → Option Nat} {V : Nat → Nat → Int32} {Z : Nat → Int32} {i b : Nat} (hs : SwX h u c qe f V Z) (hi : i < 40) (hb : f i = some b) (hQ : Q (some (.ref b)) (h, z)) : Rn sA mX6_at 0 [some (.ref u), some (.int (nI i)), none] [] (h, z) Q := by
  have hs1 := hs.1
  have hs2 := hs.2.1
  refine R_iload_n (pc := 0) dX6_at_0 rfl ?_
  refine R_if_lt (pc := 1) (t := 19) dX6_at_1 (by decide) (fun hz9 => absurd hz9 (nI_pos (by omega))) (fun _ => ?_)
  refine R_iload_n (pc := 4) dX6_at_4 rfl ?_
  refine R_bipush (pc := 5) (x := nI 40) dX6_at_5 (by decide) ?_
  refine R_icmp_ge (pc := 7) (t := 19) dX6_at_7 (by decide) (fun hz9 => absurd hz9 (nI_ge (by omega) (by omega))) (fun _ => ?_)
  refine R_aload_n (pc := 10) dX6_at_10 rfl ?_
  refine R_getf (pc := 11) dX6_at_11 rfl (by repeat (first | assumption | exact up_s | refine up_n (by omega) ?_)) rfl ?_
  refine R_iload_n (pc := 14) dX6_at_14 rfl ?_
  refine R_aald (pc := 15) dX6_at_15 hs.2.1 (by decide) rfl hi (by decide) (by rw [hb]) ?_
  refine R_goto (pc := 16) (t := 20) dX6_at_16 (by decide) ?_
  refine R_astore_n (pc := 20) dX6_at_20 (Nat.le_of_ble_eq_true rfl) rfl ?_
  refine R_aload_n (pc := 21) dX6_at_21 rfl ?_
  refine R_ifnn (pc := 22) (t := 32) dX6_at_22 (by decide) ?_
  refine R_aload_n (pc := 32) dX6_at_32 rfl ?_
  refine R_aret (pc := 33) dX6_at_33 rfl ?_
  exact hQ
theorem c6_put {u c : Nat} {qe : Nat → Nat} {f : Nat → Option Nat} {V : Nat → Nat → Int32} {Z : Nat → Int32} {i j : Nat} (hs : SwX h u c qe f V Z) (hi : i < 40) (hj : j < 40) (hQ : ∀ h2 : Nat → Option am_C, SwX h2 u c qe (va_up f i (some (u + 4 + qe j))) V Z → (∀ a, ¬ a = u + 1 → h2 a = h a) → Q none (h2, z)) : Rn sA mX6_put 0 [some (.ref u), some (.int (nI i)), some (.ref (u + 4 + qe j))] [] (h, z) Q := by
  have hs1 := hs.1
  have hs2 := hs.2.1
  refine R_iload_n (pc := 0) dX6_put_0 rfl ?_
  refine R_if_lt (pc := 1) (t := 17) dX6_put_1 (by decide) (fun hz9 => absurd hz9 (nI_pos (by omega))) (fun _ => ?_)
  refine R_iload_n (pc := 4) dX6_put_4 rfl ?_
  refine R_bipush (pc := 5) (x := nI 40) dX6_put_5 (by decide) ?_
  refine R_icmp_ge (pc := 7) (t := 17) dX6_put_7 (by decide) (fun hz9 => absurd hz9 (nI_ge (by omega) (by omega))) (fun _ => ?_)
  refine R_aload_n (pc := 10) dX6_put_10 rfl ?_
  refine R_getf (pc := 11) dX6_put_11 rfl (by repeat (first | assumption | exact up_s | refine up_n (by omega) ?_)) rfl ?_
  refine R_iload_n (pc := 14) dX6_put_14 rfl ?_
  refine R_aload_n (pc := 15) dX6_put_15 rfl ?_
  refine R_aast (pc := 16) dX6_put_16 hs.2.1 (hs.2.2.1 j hj) (by decide) rfl hi (by decide) ?_
  refine R_vret (pc := 17) dX6_put_17 rfl ?_
  exact hQ _ ⟨up_n (by omega) hs.1, up_s, fun x hx => (hs.2.2.1 x hx).fr (up_n (by omega) rfl), hs.2.2.2.1.fr (up_n (by omega) rfl), hs.2.2.2.2⟩ (fun a ha => up_n ha rfl)
theorem c6_size {u c : Nat} {qe : Nat → Nat} {f : Nat → Option Nat} {V : Nat → Nat → Int32} {Z : Nat → Int32} (hs : SwX h u c qe f V Z) (hQ : Q (some (.int (nI c))) (h, z)) : Rn sA mX6_size 0 [some (.ref u)] [] (h, z) Q := by
  have hs1 := hs.1
  refine R_aload_n (pc := 0) dX6_size_0 rfl ?_
  refine R_getf (pc := 1) dX6_size_1 rfl (by repeat (first | assumption | exact up_s | refine up_n (by omega) ?_)) rfl ?_
  refine R_iret (pc := 4) dX6_size_4 rfl ?_
  exact hQ
theorem lc6_ofKey {u c : Nat} {qe : Nat → Nat} {f : Nat → Option Nat} {V : Nat → Nat → Int32} {Z : Nat → Int32} {K : Int64} (hs : SwX h u c qe f V Z) (hf : SwF u qe f) (hc : c < 40) : ∀ (n k : Nat) (_ : k + n = c) (_ : ∀ j, j < k → ¬ keyM (V j 0) (V j 1) (V j 2) = K) (_ : ∀ j, j < c → keyM (V j 0) (V j 1) (V j 2) = K → Q (some (.ref (u + 4 + qe j))) (h, z)) (_ : (∀ j, j < c → ¬ keyM (V j 0) (V j 1) (V j 2) = K) → ∀ h2 : Nat → Option am_C, SwX h2 u (c + 1) qe f (fun i => if i = c then (fun _ => nI 0) else V i) Z → (∀ a, (a < u ∨ u + 44 ≤ a) → h2 a = h a) → Q (some (.ref (u + 4 + qe c))) (h2, z)), Rn sA mX6_ofKey 2 [some (.ref u), some (.long K), none, some (.int (nI k))] [] (h, z) Q
  | 0, k, hk, hj, hF, hN => by
    have hs1 := hs.1
    obtain rfl : k = c := by omega
    refine R_iload_n (pc := 2) dX6_ofKey_2 rfl ?_
    refine R_aload_n (pc := 3) dX6_ofKey_3 rfl ?_
    refine R_getf (pc := 4) dX6_ofKey_4 rfl (by repeat (first | assumption | exact up_s | refine up_n (by omega) ?_)) rfl ?_
    refine R_icmp_ge (pc := 7) (t := 35) dX6_ofKey_7 (by decide) (fun _ => ?_) (fun hz9 => absurd (nI_le (by omega) (by omega)) hz9)
    refine R_aload_n (pc := 35) dX6_ofKey_35 rfl ?_
    refine R_aload_n (pc := 36) dX6_ofKey_36 rfl ?_
    refine R_getf (pc := 37) dX6_ofKey_37 rfl (by repeat (first | assumption | exact up_s | refine up_n (by omega) ?_)) rfl ?_
    refine R_callV (pc := 40) dX6_ofKey_40 rfl (by repeat (first | assumption | exact up_s | refine up_n (by omega) ?_)) rfl rfl ?_
    refine c6_at hs (by omega) (hf k (by omega)) ?_
    refine R_astore_n (pc := 43) dX6_ofKey_43 (Nat.le_of_ble_eq_true rfl) rfl ?_
    refine R_aload_n (pc := 44) dX6_ofKey_44 rfl ?_
    refine R_callV (pc := 45) dX6_ofKey_45 rfl (hs.2.2.1 k (by omega)) rfl rfl ?_
    refine c10_clear (hs.2.2.1 k (by omega)) (fun h2 q1 q2 => ?_)
    have e1 := hs.up (by omega) q1 q2
    have e2 := e1.1
    refine R_aload_n (pc := 48) dX6_ofKey_48 rfl ?_
    refine R_getf (pc := 49) dX6_ofKey_49 rfl (by repeat (first | assumption | exact up_s | refine up_n (by omega) ?_)) rfl ?_
    refine R_bipush (pc := 52) (x := nI 40) dX6_ofKey_52 (by decide) ?_
    refine R_icmp_ge (pc := 54) (t := 67) dX6_ofKey_54 (by decide) (fun hz9 => absurd hz9 (nI_ge (by omega) (by omega))) (fun _ => ?_)
    refine R_aload_n (pc := 57) dX6_ofKey_57 rfl ?_
    refine R_dup (pc := 58) dX6_ofKey_58 rfl ?_
    refine R_getf (pc := 59) dX6_ofKey_59 rfl (by repeat (first | assumption | exact up_s | refine up_n (by omega) ?_)) rfl ?_
    refine R_iconst (pc := 62) (x := nI 1) dX6_ofKey_62 rfl ?_
    refine R_iadd (pc := 63) dX6_ofKey_63 ?_
    refine R_putf (pc := 64) dX6_ofKey_64 rfl (by repeat (first | assumption | exact up_s | refine up_n (by omega) ?_)) rfl (Or.inl rfl) rfl ?_
    refine R_aload_n (pc := 67) dX6_ofKey_67 rfl ?_
    refine R_aret (pc := 68) dX6_ofKey_68 rfl ?_
    rw [nI_add]
    exact hN hj _ e1.cnt (fun a ha => (up_n (by omega) rfl).trans (q2 a (by have := hs.2.2.2.2.1 k (by omega); omega)))
  | n + 1, k, hk, hj, hF, hN => by
    have hs1 := hs.1
    refine R_iload_n (pc := 2) dX6_ofKey_2 rfl ?_
    refine R_aload_n (pc := 3) dX6_ofKey_3 rfl ?_
    refine R_getf (pc := 4) dX6_ofKey_4 rfl (by repeat (first | assumption | exact up_s | refine up_n (by omega) ?_)) rfl ?_
    refine R_icmp_ge (pc := 7) (t := 35) dX6_ofKey_7 (by decide) (fun hz9 => absurd hz9 (nI_ge (by omega) (by omega))) (fun _ => ?_)
    refine R_aload_n (pc := 10) dX6_ofKey_10 rfl ?_
    refine R_iload_n (pc := 11) dX6_ofKey_11 rfl ?_
    refine R_callV (pc := 12) dX6_ofKey_12 rfl (by repeat (first | assumption | exact up_s | refine up_n (by omega) ?_)) rfl rfl ?_
    refine c6_at hs (by omega) (hf k (by omega)) ?_
    refine R_callV (pc := 15) dX6_ofKey_15 rfl (hs.2.2.1 k (by omega)) rfl rfl ?_
    refine c10_key (hs.2.2.1 k (by omega)) ?_
    refine R_lload_n (pc := 18) dX6_ofKey_18 rfl ?_
    refine R_lcmp (pc := 19) dX6_ofKey_19 ?_
    refine R_if_ne (pc := 20) (t := 29) dX6_ofKey_20 (by decide) (fun h20 => ?_) (fun h20 => ?_)
    · refine R_iinc (pc := 29) dX6_ofKey_29 rfl (by first | exact nI_inc _ | rfl) rfl ?_
      refine R_goto (pc := 32) (t := 2) dX6_ofKey_32 (by decide) ?_
      refine lc6_ofKey hs hf hc n (k + 1) (by omega) (fun j hj2 => ?_) hF hN
      by_cases e : j = k
      · subst e; exact fun q => h20 (cmp_eq.mpr q)
      · exact hj j (by omega)
    · refine R_aload_n (pc := 23) dX6_ofKey_23 rfl ?_
      refine R_iload_n (pc := 24) dX6_ofKey_24 rfl ?_
      refine R_callV (pc := 25) dX6_ofKey_25 rfl (by repeat (first | assumption | exact up_s | refine up_n (by omega) ?_)) rfl rfl ?_
      refine c6_at hs (by omega) (hf k (by omega)) ?_
      refine R_aret (pc := 28) dX6_ofKey_28 rfl ?_
      exact hF k (by omega) (cmp_eq.mp h20)
theorem c6_ofKey {u c : Nat} {qe : Nat → Nat} {f : Nat → Option Nat} {V : Nat → Nat → Int32} {Z : Nat → Int32} {K : Int64} (hs : SwX h u c qe f V Z) (hf : SwF u qe f) (hc : c < 40) (hF : ∀ j, j < c → keyM (V j 0) (V j 1) (V j 2) = K → Q (some (.ref (u + 4 + qe j))) (h, z)) (hN : (∀ j, j < c → ¬ keyM (V j 0) (V j 1) (V j 2) = K) → ∀ h2 : Nat → Option am_C, SwX h2 u (c + 1) qe f (fun i => if i = c then (fun _ => nI 0) else V i) Z → (∀ a, (a < u ∨ u + 44 ≤ a) → h2 a = h a) → Q (some (.ref (u + 4 + qe c))) (h2, z)) : Rn sA mX6_ofKey 0 [some (.ref u), some (.long K), none, none] [] (h, z) Q := by
  refine R_iconst (pc := 0) (x := nI 0) dX6_ofKey_0 rfl ?_
  refine R_istore_n (pc := 1) dX6_ofKey_1 (Nat.le_of_ble_eq_true rfl) rfl ?_
  exact lc6_ofKey hs hf hc c 0 (by omega) (fun j hj => absurd hj (Nat.not_lt_zero _)) hF hN
def cnR (R : RpX) (i : Nat) : Nat := cnt (fun l => if R.2.2.2.1 (l * 10) = 0 then 0 else 1) 0 i
theorem cnR_s (R : RpX) (i : Nat) : cnR R (i + 1) = cnR R i + if R.2.2.2.1 (i * 10) = 0 then 1 else 0 := by
  have e1 : cnR R (i + 1) = cnR R i + if (if R.2.2.2.1 (i * 10) = 0 then (0 : Nat) else 1) = 0 then 1 else 0 := rfl
  rw [e1]
  by_cases e : R.2.2.2.1 (i * 10) = 0 <;> simp [e]
theorem cnR_mono {R : RpX} {i j : Nat} (h : i ≤ j) : cnR R i ≤ cnR R j := cnt_mono h
theorem SwX.cg {h : Nat → Option am_C} {u c : Nat} {qe : Nat → Nat} {f : Nat → Option Nat} {V V2 : Nat → Nat → Int32} {Z : Nat → Int32} (a : SwX h u c qe f V Z) (e : ∀ i, i < 40 → V2 i = V i) : SwX h u c qe f V2 Z := ⟨a.1, a.2.1, fun i hi => by rw [e i hi]; exact a.2.2.1 i hi, a.2.2.2⟩
theorem lc6_rk {u r : Nat} {R : RpX} {acc : Nat → Nat → Int32} {qe : Nat → Nat} {f : Nat → Option Nat} {g : Nat → Option am_C} (hr : RpAt g r R) (hf : SwF u qe f) (hn : R.1 ≤ 161) (hur : u + 44 ≤ r ∨ r + 3 ≤ u) (hL : ∀ i, i < R.1 → R.2.2.2.1 (i * 10) = 0 → ∀ x, x < 8 → rcT R i x = slA (acc (cnR R i)) x) (hm : cnR R R.1 ≤ 40) (hr9 : ∀ k, k < cnR R R.1 → ∀ x, x < 3 → ∃ y, y < 10000 ∧ acc k x = nI y) : ∀ (n k : Nat) (h : Nat → Option am_C) (c : Nat) (la : Nat → Nat) (V : Nat → Nat → Int32) (Z : Nat → Int32) (_ : k + n = R.1) (_ : SwX h u c qe f V Z) (_ : KeyI acc (cnR R k) c la) (_ : KeyT acc c la V) (_ : c ≤ cnR R k) (_ : ∀ a, (a < u ∨ u + 44 ≤ a) → h a = g a) (_ : (∀ (h2 : Nat → Option am_C) (c : Nat) (la : Nat → Nat) (V : Nat → Nat → Int32) (Z : Nat → Int32), SwX h2 u c qe f V Z → KeyI acc (cnR R R.1) c la → KeyT acc c la V → c ≤ cnR R R.1 → (∀ a, (a < u ∨ u + 44 ≤ a) → h2 a = g a) → Rn sA mX6_reckon 56 [some (.ref u), some (.ref r), some (.int (nI R.1))] [] (h2, z) Q)), Rn sA mX6_reckon 7 [some (.ref u), some (.ref r), some (.int (nI k))] [] (h, z) Q
  | 0, k, h, c, la, V, Z, hk, hs, hI, hT, hc, hg, hX => by
    have hrx : RpAt h r R := hr.fr (fun x x1 x2 => hg x (by omega))
    have hs1 := hs.1
    have hrx1 := hrx.1
    obtain rfl : k = R.1 := by omega
    refine R_iload_n (pc := 7) dX6_reckon_7 rfl ?_
    refine R_aload_n (pc := 8) dX6_reckon_8 rfl ?_
    refine R_getf (pc := 9) dX6_reckon_9 rfl (by repeat (first | assumption | exact up_s | refine up_n (by omega) ?_)) rfl ?_
    refine R_icmp_ge (pc := 12) (t := 56) dX6_reckon_12 (by decide) (fun _ => ?_) (fun hz9 => absurd (nI_le (by omega) (by omega)) hz9)
    exact hX h c la V Z hs hI hT hc hg
  | n + 1, k, h, c, la, V, Z, hk, hs, hI, hT, hc, hg, hX => by
    have hrx : RpAt h r R := hr.fr (fun x x1 x2 => hg x (by omega))
    have hs1 := hs.1
    have hrx1 := hrx.1
    have hmo : cnR R (k + 1) ≤ cnR R R.1 := cnR_mono (by omega)
    by_cases e0 : R.2.2.2.1 (k * 10) = 0
    · have e1 : cnR R (k + 1) = cnR R k + 1 := by rw [cnR_s, if_pos e0]
      refine R_iload_n (pc := 7) dX6_reckon_7 rfl ?_
      refine R_aload_n (pc := 8) dX6_reckon_8 rfl ?_
      refine R_getf (pc := 9) dX6_reckon_9 rfl (by repeat (first | assumption | exact up_s | refine up_n (by omega) ?_)) rfl ?_
      refine R_icmp_ge (pc := 12) (t := 56) dX6_reckon_12 (by decide) (fun hz9 => absurd hz9 (nI_ge (by omega) (by omega))) (fun _ => ?_)
      refine R_aload_n (pc := 15) dX6_reckon_15 rfl ?_
      refine R_iload_n (pc := 16) dX6_reckon_16 rfl ?_
      refine R_callV (pc := 17) dX6_reckon_17 rfl hrx.1 rfl rfl ?_
      refine c5_isCard hrx hn (by omega) (fun _ => ?_) (fun q => absurd e0 q)
      · refine R_if_eq (pc := 20) (t := 50) dX6_reckon_20 (by decide) (fun hz9 => absurd hz9 (by decide)) (fun _ => ?_)
        refine R_aload_n (pc := 23) dX6_reckon_23 rfl ?_
        refine R_iload_n (pc := 24) dX6_reckon_24 rfl ?_
        refine R_aload_n (pc := 25) dX6_reckon_25 rfl ?_
        refine R_getf (pc := 26) dX6_reckon_26 rfl (by repeat (first | assumption | exact up_s | refine up_n (by omega) ?_)) rfl ?_
        refine R_callV (pc := 29) dX6_reckon_29 rfl hrx.1 rfl rfl ?_
        refine c5_readCard hrx (t := u + 3) hs.2.2.2.1 (by omega) hn (by omega) (fun h2 q1 q2 => ?_)
        have q1 : TtAt h2 (u + 3) (slA (acc (cnR R k))) := q1.cg (hL k (by omega) e0)
        have hs2 := hs.slip q1 q2
        have hs21 := hs2.1
        refine R_aload_n (pc := 32) dX6_reckon_32 rfl ?_
        refine R_aload_n (pc := 33) dX6_reckon_33 rfl ?_
        refine R_getf (pc := 34) dX6_reckon_34 rfl (by repeat (first | assumption | exact up_s | refine up_n (by omega) ?_)) rfl ?_
        refine R_callV (pc := 37) dX6_reckon_37 rfl hs2.2.2.2.1 rfl rfl ?_
        refine c10_key (t := u + 3) hs2.2.2.2.1 ?_
        rw [slA_f (f := 0) (by omega), slA_f (f := 1) (by omega), slA_f (f := 2) (by omega)]
        refine R_callV (pc := 40) dX6_reckon_40 rfl hs21 rfl rfl ?_
        refine c6_ofKey hs2 hf (by omega) (fun j hj hk => ?_) (fun hno h3 r1 r2 => ?_)
        · have hj40 : j < 40 := by omega
          have hjt := hI.1 j hj
          have ej : alB acc (la j) (cnR R k) = true := by
            have hv := (hT j hj).1
            rw [hv 0 (by omega), hv 1 (by omega), hv 2 (by omega)] at hk
            exact alB_t.mpr ((keyM_ne (hr9 (la j) (by omega)) (hr9 (cnR R k) (by omega))).mp hk)
          refine R_aload_n (pc := 43) dX6_reckon_43 rfl ?_
          refine R_getf (pc := 44) dX6_reckon_44 rfl (by repeat (first | assumption | exact up_s | refine up_n (by omega) ?_)) rfl ?_
          refine R_callV (pc := 47) dX6_reckon_47 rfl (hs2.2.2.1 j hj40) rfl rfl ?_
          refine c10_addCard (t := u + 4 + qe j) (s := u + 3) (hs2.2.2.1 j hj40) hs2.2.2.2.1 (by omega) (fun h3 r1 r2 => ?_)
          refine R_iinc (pc := 50) dX6_reckon_50 rfl (by first | exact nI_inc _ | rfl) rfl ?_
          refine R_goto (pc := 53) (t := 7) dX6_reckon_53 (by decide) ?_
          have eW := KeyT.found hI hT hj ej
          have eI := hI.found hj ej
          rw [← e1] at eI
          refine lc6_rk hr hf hn hur hL hm hr9 n (k + 1) h3 c _ _ _ (by omega) (hs2.up hj40 r1 r2) eI eW (by omega) (fun a ha => ?_) hX
          rw [r2 a (by have := hs.2.2.2.2.1 j hj40; omega), q2 a (by omega)]; exact hg a ha
        · have hno2 : ∀ j, j < c → ¬ alB acc (la j) (cnR R k) = true := by
            intro j hj q
            have hjt := hI.1 j hj
            refine hno j hj ?_
            have hv := (hT j hj).1
            rw [hv 0 (by omega), hv 1 (by omega), hv 2 (by omega)]
            exact (keyM_ne (hr9 (la j) (by omega)) (hr9 (cnR R k) (by omega))).mpr (alB_t.mp q)
          have hc40 : c < 40 := by omega
          have r1c : TtAt h3 (u + 4 + qe c) (fun _ => nI 0) := (r1.2.2.1 c hc40).cg (fun x _ => by show (if c = c then (fun _ => nI 0) else V c) x = _; rw [if_pos rfl])
          have r1u := r1.1
          refine R_aload_n (pc := 43) dX6_reckon_43 rfl ?_
          refine R_getf (pc := 44) dX6_reckon_44 rfl (by repeat (first | assumption | exact up_s | refine up_n (by omega) ?_)) rfl ?_
          refine R_callV (pc := 47) dX6_reckon_47 rfl r1c rfl rfl ?_
          refine c10_addCard (t := u + 4 + qe c) (s := u + 3) r1c r1.2.2.2.1 (by omega) (fun h4 t1 t2 => ?_)
          refine R_iinc (pc := 50) dX6_reckon_50 rfl (by first | exact nI_inc _ | rfl) rfl ?_
          refine R_goto (pc := 53) (t := 7) dX6_reckon_53 (by decide) ?_
          have eW := KeyT.fresh hI hT hno2
          have eI := hI.fresh hno2
          rw [← e1] at eI
          refine lc6_rk hr hf hn hur hL hm hr9 n (k + 1) h4 (c + 1) _ _ _ (by omega) ((r1.up hc40 t1 t2).cg (fun i hi => ?_)) eI eW (by omega) (fun a ha => ?_) hX
          · by_cases e : i = c
            · rw [if_pos e, if_pos e]
            · rw [if_neg e, if_neg e, if_neg e]
          · rw [t2 a (by have := hs.2.2.2.2.1 c hc40; omega), r2 a ha, q2 a (by omega)]; exact hg a ha
    · refine R_iload_n (pc := 7) dX6_reckon_7 rfl ?_
      refine R_aload_n (pc := 8) dX6_reckon_8 rfl ?_
      refine R_getf (pc := 9) dX6_reckon_9 rfl (by repeat (first | assumption | exact up_s | refine up_n (by omega) ?_)) rfl ?_
      refine R_icmp_ge (pc := 12) (t := 56) dX6_reckon_12 (by decide) (fun hz9 => absurd hz9 (nI_ge (by omega) (by omega))) (fun _ => ?_)
      refine R_aload_n (pc := 15) dX6_reckon_15 rfl ?_
      refine R_iload_n (pc := 16) dX6_reckon_16 rfl ?_
      refine R_callV (pc := 17) dX6_reckon_17 rfl hrx.1 rfl rfl ?_
      refine c5_isCard hrx hn (by omega) (fun q => absurd q e0) (fun _ => ?_)
      · refine R_if_eq (pc := 20) (t := 50) dX6_reckon_20 (by decide) (fun _ => ?_) (fun hz9 => absurd hz9 (by decide))
        refine R_iinc (pc := 50) dX6_reckon_50 rfl (by first | exact nI_inc _ | rfl) rfl ?_
        refine R_goto (pc := 53) (t := 7) dX6_reckon_53 (by decide) ?_
        rw [show cnR R k = cnR R (k + 1) by rw [cnR_s, if_neg e0, Nat.add_zero]] at hI hc
        exact lc6_rk hr hf hn hur hL hm hr9 n (k + 1) h c la V Z (by omega) hs hI hT hc hg hX
theorem lc6_rko {u r c : Nat} {R : RpX} {acc : Nat → Nat → Int32} {qe : Nat → Nat} {f : Nat → Option Nat} {g : Nat → Option am_C} {la : Nat → Nat} {lim : Int32} {Z : Nat → Int32} (hr : RpAt g r R) (hf : SwF u qe f) (hur : u + 44 ≤ r ∨ r + 3 ≤ u) (hl : R.2.2.1 = lim) (hc : c ≤ 40) : ∀ (n k : Nat) (h : Nat → Option am_C) (V : Nat → Nat → Int32) (_ : k + n = c) (_ : SwX h u c qe f V Z) (_ : (∀ i, i < k → (∀ x, x < 3 → V i x = acc (la i) x) ∧ ∀ x, x < 4 → V i (4 + x) = okR lim acc (la i) (la i + 1) x) ∧ ∀ i, k ≤ i → i < c → (∀ x, x < 3 → V i x = acc (la i) x) ∧ V i 3 = acc (la i) 4 ∧ V i 4 = okC acc (la i) (la i + 1) ∧ V i 5 = okH acc (la i) (la i + 1) ∧ V i 6 = okW acc (la i) (la i + 1) ∧ V i 7 = nI 0) (_ : ∀ a, (a < u ∨ u + 44 ≤ a) → h a = g a) (_ : (∀ (h2 : Nat → Option am_C) (V : Nat → Nat → Int32), SwX h2 u c qe f V Z → KeyO lim acc c la V → (∀ a, (a < u ∨ u + 44 ≤ a) → h2 a = g a) → Q none (h2, z))), Rn sA mX6_reckon 58 [some (.ref u), some (.ref r), some (.int (nI k))] [] (h, z) Q
  | 0, k, h, V, hk, hs, hP, hg, hX => by
    have hrx : RpAt h r R := hr.fr (fun x x1 x2 => hg x (by omega))
    have hs1 := hs.1
    have hrx1 := hrx.1
    obtain rfl : k = c := by omega
    refine R_iload_n (pc := 58) dX6_reckon_58 rfl ?_
    refine R_aload_n (pc := 59) dX6_reckon_59 rfl ?_
    refine R_getf (pc := 60) dX6_reckon_60 rfl (by repeat (first | assumption | exact up_s | refine up_n (by omega) ?_)) rfl ?_
    refine R_icmp_ge (pc := 63) (t := 92) dX6_reckon_63 (by decide) (fun _ => ?_) (fun hz9 => absurd (nI_le (by omega) (by omega)) hz9)
    refine R_vret (pc := 92) dX6_reckon_92 rfl ?_
    exact hX h V hs hP.1 hg
  | n + 1, k, h, V, hk, hs, hP, hg, hX => by
    have hrx : RpAt h r R := hr.fr (fun x x1 x2 => hg x (by omega))
    have hs1 := hs.1
    have hrx1 := hrx.1
    refine R_iload_n (pc := 58) dX6_reckon_58 rfl ?_
    refine R_aload_n (pc := 59) dX6_reckon_59 rfl ?_
    refine R_getf (pc := 60) dX6_reckon_60 rfl (by repeat (first | assumption | exact up_s | refine up_n (by omega) ?_)) rfl ?_
    refine R_icmp_ge (pc := 63) (t := 92) dX6_reckon_63 (by decide) (fun hz9 => absurd hz9 (nI_ge (by omega) (by omega))) (fun _ => ?_)
    refine R_aload_n (pc := 66) dX6_reckon_66 rfl ?_
    refine R_iload_n (pc := 67) dX6_reckon_67 rfl ?_
    refine R_callV (pc := 68) dX6_reckon_68 rfl (by repeat (first | assumption | exact up_s | refine up_n (by omega) ?_)) rfl rfl ?_
    refine c6_at hs (by omega) (hf k (by omega)) ?_
    refine R_aload_n (pc := 71) dX6_reckon_71 rfl ?_
    refine R_iload_n (pc := 72) dX6_reckon_72 rfl ?_
    refine R_callV (pc := 73) dX6_reckon_73 rfl (by repeat (first | assumption | exact up_s | refine up_n (by omega) ?_)) rfl rfl ?_
    refine c6_at hs (by omega) (hf k (by omega)) ?_
    refine R_aload_n (pc := 76) dX6_reckon_76 rfl ?_
    refine R_getf (pc := 77) dX6_reckon_77 rfl (by repeat (first | assumption | exact up_s | refine up_n (by omega) ?_)) rfl ?_
    refine R_callV (pc := 80) dX6_reckon_80 rfl (hs.2.2.1 k (by omega)) rfl rfl ?_
    refine c10_overtime (hs.2.2.1 k (by omega)) ?_
    rw [hl]
    refine R_callV (pc := 83) dX6_reckon_83 rfl (hs.2.2.1 k (by omega)) rfl rfl ?_
    refine c10_addOvertime (hs.2.2.1 k (by omega)) (fun h3 r1 r2 => ?_)
    refine R_iinc (pc := 86) dX6_reckon_86 rfl (by first | exact nI_inc _ | rfl) rfl ?_
    refine R_goto (pc := 89) (t := 58) dX6_reckon_89 (by decide) ?_
    refine lc6_rko hr hf hur hl hc n (k + 1) h3 _ (by omega) (hs.up (by omega) r1 r2) ⟨fun i hi => ?_, fun i i1 i2 => ?_⟩ (fun a ha => ?_) hX
    · by_cases e : i = k
      · subst e
        have q := KeyT.over (lim := lim) (hP.2 i (Nat.le_refl i) (by omega))
        show (∀ x, x < 3 → (if i = i then _ else V i) x = _) ∧ ∀ x, x < 4 → (if i = i then _ else V i) (4 + x) = _
        rw [if_pos rfl]
        exact q
      · have q := hP.1 i (by omega)
        show (∀ x, x < 3 → (if i = k then _ else V i) x = _) ∧ ∀ x, x < 4 → (if i = k then _ else V i) (4 + x) = _
        rw [if_neg e]
        exact q
    · have q := hP.2 i (by omega) i2
      show (∀ x, x < 3 → (if i = k then _ else V i) x = _) ∧ (if i = k then _ else V i) 3 = _ ∧ (if i = k then _ else V i) 4 = _ ∧ (if i = k then _ else V i) 5 = _ ∧ (if i = k then _ else V i) 6 = _ ∧ (if i = k then _ else V i) 7 = _
      rw [if_neg (by omega)]
      exact q
    · rw [r2 a (by have := hs.2.2.2.2.1 k (by omega); omega)]; exact hg a ha
theorem c6_reckon {u c : Nat} {qe : Nat → Nat} {f : Nat → Option Nat} {V : Nat → Nat → Int32} {Z : Nat → Int32} {r : Nat} {R : RpX} {acc : Nat → Nat → Int32} {lim : Int32} (hs : SwX h u c qe f V Z) (hf : SwF u qe f) (hr : RpAt h r R) (hl : R.2.2.1 = lim) (hn : R.1 ≤ 161) (hur : u + 44 ≤ r ∨ r + 3 ≤ u) (hL : ∀ i, i < R.1 → R.2.2.2.1 (i * 10) = 0 → ∀ x, x < 8 → rcT R i x = slA (acc (cnR R i)) x) (hm : cnR R R.1 ≤ 40) (hr9 : ∀ k, k < cnR R R.1 → ∀ x, x < 3 → ∃ y, y < 10000 ∧ acc k x = nI y) (hQ : ∀ (h2 : Nat → Option am_C) (c2 : Nat) (la : Nat → Nat) (V2 : Nat → Nat → Int32) (Z2 : Nat → Int32), SwX h2 u c2 qe f V2 Z2 → KeyI acc (cnR R R.1) c2 la → KeyO lim acc c2 la V2 → c2 ≤ 40 → (∀ a, (a < u ∨ u + 44 ≤ a) → h2 a = h a) → Q none (h2, z)) : Rn sA mX6_reckon 0 [some (.ref u), some (.ref r), none] [] (h, z) Q := by
  have hs1 := hs.1
  refine R_aload_n (pc := 0) dX6_reckon_0 rfl ?_
  refine R_iconst (pc := 1) (x := nI 0) dX6_reckon_1 rfl ?_
  refine R_putf (pc := 2) dX6_reckon_2 rfl (by repeat (first | assumption | exact up_s | refine up_n (by omega) ?_)) rfl (Or.inl rfl) rfl ?_
  refine R_iconst (pc := 5) (x := nI 0) dX6_reckon_5 rfl ?_
  refine R_istore_n (pc := 6) dX6_reckon_6 (Nat.le_of_ble_eq_true rfl) rfl ?_
  refine lc6_rk (g := h) (acc := acc) hr hf hn hur hL hm hr9 R.1 0 _ 0 id V Z (by omega) hs.cnt KeyI.ze (fun j hj => absurd hj (Nat.not_lt_zero _)) (Nat.le_refl 0) (fun a ha => up_n (by omega) rfl) (fun h2 c2 la V2 Z2 q1 q2 q3 q4 q5 => ?_)
  refine R_iconst (pc := 56) (x := nI 0) dX6_reckon_56 rfl ?_
  refine R_istore_n (pc := 57) dX6_reckon_57 (Nat.le_of_ble_eq_true rfl) rfl ?_
  exact lc6_rko (g := h) (acc := acc) hr hf hur hl (by omega) c2 0 h2 V2 (by omega) q1 ⟨fun i hi => absurd hi (Nat.not_lt_zero _), fun i _ hi => q3 i hi⟩ q5 (fun h3 V3 s1 s2 s3 => hQ h3 c2 la V3 Z2 s1 q2 s2 (by omega) s3)
theorem c6_numberOf {t y : Nat} {T : Nat → Int32} (ht : TtAt h t T) (hy : y < 5) (hQ : Q (some (.int (if y = 4 then nI 1 else T (4 + y)))) (h, z)) : Rn sA mX6_numberOf 0 [some (.ref t), some (.int (nI y))] [] (h, z) Q := by
  have ht1 := ht
  unfold TtAt at ht1
  refine R_iload_n (pc := 0) dX6_numberOf_0 rfl ?_
  rcases (by omega : y = 0 ∨ y = 1 ∨ y = 2 ∨ y = 3 ∨ y = 4) with rfl | rfl | rfl | rfl | rfl
  · refine R_tswI (pc := 1) (off := 31) (t := 32) dX6_numberOf_1 (by decide) (by decide) (by decide) ?_
    refine R_aload_n (pc := 32) dX6_numberOf_32 rfl ?_
    refine R_getf (pc := 33) dX6_numberOf_33 rfl (by repeat (first | assumption | exact up_s | refine up_n (by omega) ?_)) rfl ?_
    refine R_iret (pc := 36) dX6_numberOf_36 rfl ?_
    exact hQ
  · refine R_tswI (pc := 1) (off := 36) (t := 37) dX6_numberOf_1 (by decide) (by decide) (by decide) ?_
    refine R_aload_n (pc := 37) dX6_numberOf_37 rfl ?_
    refine R_getf (pc := 38) dX6_numberOf_38 rfl (by repeat (first | assumption | exact up_s | refine up_n (by omega) ?_)) rfl ?_
    refine R_iret (pc := 41) dX6_numberOf_41 rfl ?_
    exact hQ
  · refine R_tswI (pc := 1) (off := 41) (t := 42) dX6_numberOf_1 (by decide) (by decide) (by decide) ?_
    refine R_aload_n (pc := 42) dX6_numberOf_42 rfl ?_
    refine R_getf (pc := 43) dX6_numberOf_43 rfl (by repeat (first | assumption | exact up_s | refine up_n (by omega) ?_)) rfl ?_
    refine R_iret (pc := 46) dX6_numberOf_46 rfl ?_
    exact hQ
  · refine R_tswI (pc := 1) (off := 46) (t := 47) dX6_numberOf_1 (by decide) (by decide) (by decide) ?_
    refine R_aload_n (pc := 47) dX6_numberOf_47 rfl ?_
    refine R_getf (pc := 48) dX6_numberOf_48 rfl (by repeat (first | assumption | exact up_s | refine up_n (by omega) ?_)) rfl ?_
    refine R_iret (pc := 51) dX6_numberOf_51 rfl ?_
    exact hQ
  · refine R_tswO (pc := 1) (t := 52) dX6_numberOf_1 (by decide) (by decide) ?_
    refine R_iconst (pc := 52) (x := nI 1) dX6_numberOf_52 rfl ?_
    refine R_iret (pc := 53) dX6_numberOf_53 rfl ?_
    exact hQ
theorem lc6_sum {u c : Nat} {qe : Nat → Nat} {f : Nat → Option Nat} {V : Nat → Nat → Int32} {Z : Nat → Int32} {acc : Nat → Nat → Int32} {la : Nat → Nat} {lim dep : Int32} {y : Nat} (hs : SwX h u c qe f V Z) (hf : SwF u qe f) (hc : c ≤ 40) (hK : KeyO lim acc c la V) (hy : y < 5) (hQ : Q (some (.int (sT (fun j => if dep = (-1) ∨ acc (la j) 0 = dep then (if y = 4 then nI 1 else okR lim acc (la j) (la j + 1) y) else nI 0) c))) (h, z)) : ∀ (n k : Nat) (_ : k + n = c), Rn sA mX6_sum 5 [some (.ref u), some (.int dep), some (.int (nI y)), some (.int (sT (fun j => if dep = (-1) ∨ acc (la j) 0 = dep then (if y = 4 then nI 1 else okR lim acc (la j) (la j + 1) y) else nI 0) k)), some (.int (nI k))] [] (h, z) Q
  | 0, k, hk => by
    have hs1 := hs.1
    obtain rfl : k = c := by omega
    refine R_iload (pc := 5) dX6_sum_5 rfl ?_
    refine R_aload_n (pc := 7) dX6_sum_7 rfl ?_
    refine R_getf (pc := 8) dX6_sum_8 rfl (by repeat (first | assumption | exact up_s | refine up_n (by omega) ?_)) rfl ?_
    refine R_icmp_ge (pc := 11) (t := 51) dX6_sum_11 (by decide) (fun _ => ?_) (fun hz9 => absurd (nI_le (by omega) (by omega)) hz9)
    refine R_iload_n (pc := 51) dX6_sum_51 rfl ?_
    refine R_iret (pc := 52) dX6_sum_52 rfl ?_
    exact hQ
  | n + 1, k, hk => by
    have hs1 := hs.1
    have hv := hK k (by omega)
    have eS : sT (fun j => if dep = (-1) ∨ acc (la j) 0 = dep then (if y = 4 then nI 1 else okR lim acc (la j) (la j + 1) y) else nI 0) (k + 1) = sT (fun j => if dep = (-1) ∨ acc (la j) 0 = dep then (if y = 4 then nI 1 else okR lim acc (la j) (la j + 1) y) else nI 0) k + (if dep = (-1) ∨ acc (la k) 0 = dep then (if y = 4 then nI 1 else okR lim acc (la k) (la k + 1) y) else nI 0) := rfl
    have nb : (if y = 4 then nI 1 else V k (4 + y)) = if y = 4 then nI 1 else okR lim acc (la k) (la k + 1) y := by
      by_cases e : y = 4
      · rw [if_pos e, if_pos e]
      · rw [if_neg e, if_neg e]; exact hv.2 y (by omega)
    refine R_iload (pc := 5) dX6_sum_5 rfl ?_
    refine R_aload_n (pc := 7) dX6_sum_7 rfl ?_
    refine R_getf (pc := 8) dX6_sum_8 rfl (by repeat (first | assumption | exact up_s | refine up_n (by omega) ?_)) rfl ?_
    refine R_icmp_ge (pc := 11) (t := 51) dX6_sum_11 (by decide) (fun hz9 => absurd hz9 (nI_ge (by omega) (by omega))) (fun _ => ?_)
    refine R_iload_n (pc := 14) dX6_sum_14 rfl ?_
    refine R_iconst (pc := 15) (x := (-1)) dX6_sum_15 rfl ?_
    refine R_icmp_eq (pc := 16) (t := 32) dX6_sum_16 (by decide) (fun h16 => ?_) (fun h16 => ?_)
    · refine R_iload_n (pc := 32) dX6_sum_32 rfl ?_
      refine R_aload_n (pc := 33) dX6_sum_33 rfl ?_
      refine R_iload (pc := 34) dX6_sum_34 rfl ?_
      refine R_callV (pc := 36) dX6_sum_36 rfl (by repeat (first | assumption | exact up_s | refine up_n (by omega) ?_)) rfl rfl ?_
      refine c6_at hs (by omega) (hf k (by omega)) ?_
      refine R_iload_n (pc := 39) dX6_sum_39 rfl ?_
      refine R_callS (pc := 40) dX6_sum_40 rfl (Or.inl rfl) rfl rfl ?_
      refine c6_numberOf (hs.2.2.1 k (by omega)) hy ?_
      refine R_iadd (pc := 43) dX6_sum_43 ?_
      refine R_istore_n (pc := 44) dX6_sum_44 (Nat.le_of_ble_eq_true rfl) rfl ?_
      refine R_iinc (pc := 45) dX6_sum_45 rfl (by first | exact nI_inc _ | rfl) rfl ?_
      refine R_goto (pc := 48) (t := 5) dX6_sum_48 (by decide) ?_
      have ey : sT (fun j => if dep = (-1) ∨ acc (la j) 0 = dep then (if y = 4 then nI 1 else okR lim acc (la j) (la j + 1) y) else nI 0) k + (if y = 4 then nI 1 else V k (4 + y)) = sT (fun j => if dep = (-1) ∨ acc (la j) 0 = dep then (if y = 4 then nI 1 else okR lim acc (la j) (la j + 1) y) else nI 0) (k + 1) := by rw [eS, if_pos (Or.inl h16), nb]
      rw [ey]
      exact lc6_sum hs hf hc hK hy hQ n (k + 1) (by omega)
    · refine R_aload_n (pc := 19) dX6_sum_19 rfl ?_
      refine R_iload (pc := 20) dX6_sum_20 rfl ?_
      refine R_callV (pc := 22) dX6_sum_22 rfl (by repeat (first | assumption | exact up_s | refine up_n (by omega) ?_)) rfl rfl ?_
      refine c6_at hs (by omega) (hf k (by omega)) ?_
      refine R_getf (pc := 25) dX6_sum_25 rfl (hs.2.2.1 k (by omega)) rfl ?_
      refine R_iload_n (pc := 28) dX6_sum_28 rfl ?_
      refine R_icmp_ne (pc := 29) (t := 45) dX6_sum_29 (by decide) (fun h29 => ?_) (fun h29 => ?_)
      · refine R_iinc (pc := 45) dX6_sum_45 rfl (by first | exact nI_inc _ | rfl) rfl ?_
        refine R_goto (pc := 48) (t := 5) dX6_sum_48 (by decide) ?_
        have ey : sT (fun j => if dep = (-1) ∨ acc (la j) 0 = dep then (if y = 4 then nI 1 else okR lim acc (la j) (la j + 1) y) else nI 0) k = sT (fun j => if dep = (-1) ∨ acc (la j) 0 = dep then (if y = 4 then nI 1 else okR lim acc (la j) (la j + 1) y) else nI 0) (k + 1) := by rw [eS, if_neg (fun q => q.elim h16 (fun q2 => h29 ((hv.1 0 (by omega)).trans q2))), add_0]
        rw [ey]
        exact lc6_sum hs hf hc hK hy hQ n (k + 1) (by omega)
      · refine R_iload_n (pc := 32) dX6_sum_32 rfl ?_
        refine R_aload_n (pc := 33) dX6_sum_33 rfl ?_
        refine R_iload (pc := 34) dX6_sum_34 rfl ?_
        refine R_callV (pc := 36) dX6_sum_36 rfl (by repeat (first | assumption | exact up_s | refine up_n (by omega) ?_)) rfl rfl ?_
        refine c6_at hs (by omega) (hf k (by omega)) ?_
        refine R_iload_n (pc := 39) dX6_sum_39 rfl ?_
        refine R_callS (pc := 40) dX6_sum_40 rfl (Or.inl rfl) rfl rfl ?_
        refine c6_numberOf (hs.2.2.1 k (by omega)) hy ?_
        refine R_iadd (pc := 43) dX6_sum_43 ?_
        refine R_istore_n (pc := 44) dX6_sum_44 (Nat.le_of_ble_eq_true rfl) rfl ?_
        refine R_iinc (pc := 45) dX6_sum_45 rfl (by first | exact nI_inc _ | rfl) rfl ?_
        refine R_goto (pc := 48) (t := 5) dX6_sum_48 (by decide) ?_
        have ey : sT (fun j => if dep = (-1) ∨ acc (la j) 0 = dep then (if y = 4 then nI 1 else okR lim acc (la j) (la j + 1) y) else nI 0) k + (if y = 4 then nI 1 else V k (4 + y)) = sT (fun j => if dep = (-1) ∨ acc (la j) 0 = dep then (if y = 4 then nI 1 else okR lim acc (la j) (la j + 1) y) else nI 0) (k + 1) := by rw [eS, if_pos (Or.inr ((hv.1 0 (by omega)).symm.trans h29)), nb]
        rw [ey]
        exact lc6_sum hs hf hc hK hy hQ n (k + 1) (by omega)
theorem c6_sum {u c : Nat} {qe : Nat → Nat} {f : Nat → Option Nat} {V : Nat → Nat → Int32} {Z : Nat → Int32} {acc : Nat → Nat → Int32} {la : Nat → Nat} {lim dep : Int32} {y m : Nat} (hs : SwX h u c qe f V Z) (hf : SwF u qe f) (hc : c ≤ 40) (hI : KeyI acc m c la) (hK : KeyO lim acc c la V) (hy : y < 5) (hQ : Q (some (.int (inR lim acc m dep y m))) (h, z)) : Rn sA mX6_sum 0 [some (.ref u), some (.int dep), some (.int (nI y)), none, none] [] (h, z) Q := by
  refine R_iconst (pc := 0) (x := nI 0) dX6_sum_0 rfl ?_
  refine R_istore_n (pc := 1) dX6_sum_1 (Nat.le_of_ble_eq_true rfl) rfl ?_
  refine R_iconst (pc := 2) (x := nI 0) dX6_sum_2 rfl ?_
  refine R_istore (pc := 3) dX6_sum_3 (Nat.le_of_ble_eq_true rfl) rfl ?_
  exact lc6_sum hs hf hc hK hy (by rw [inR_T hI]; exact hQ) c 0 (by omega)
end CD5
