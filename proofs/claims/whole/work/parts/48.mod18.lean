section MOD18
variable {sA : Nat} {h : Nat → Option am_C} {z : Nat × Nat} {Q : Option Value → am_H → Prop} {M : Nat} {A : Nat → Nat → Int32} {S : Nat → Int32}
theorem nxtO_spN {U V G V2 G2 N : Nat → Int32} {n c : Nat} {o : Nat → Nat} (hD : DigW U n) (hc : c < 24) (ho : ∀ i, i < n → o i < n) (hO : DkO U n o V) (hI : PbI (fun k => skF U c (o k)) n V V2 N G2 11 0) : DkO U n (nxtO U n c o) V2 ∧ ∀ i, i < n → nxtO U n c o i < n := by
  have hs : ∀ i, i < n → (fun k => skF U c (o k)) i < 11 := fun i hi => (skF_sp hD (ho i hi) hc).1
  have key : ∀ i, i < n → ∃ k, k < n ∧ pos (fun k => skF U c (o k)) n k = i ∧ nxtO U n c o i = o k := by
    intro i hi
    obtain ⟨k, h1, h2⟩ := pos_surj hs hi
    exact ⟨k, h1, h2, by unfold nxtO; rw [← h2, invP_pos h1]⟩
  refine ⟨⟨fun i hi j hj => ?_, fun j hj => (hI.2 j hj).trans (hO.2 j hj)⟩, fun i hi => ?_⟩
  · obtain ⟨k, h1, h2, h3⟩ := key i hi
    rw [h3, ← h2, (hI.1 k h1 (Or.inl (hs k h1))).1 j hj]
    exact hO.1 k h1 j hj
  · obtain ⟨k, h1, h2, h3⟩ := key i hi
    rw [h3]
    exact ho k h1
def mkF (U : Nat → Int32) (n p sk : Nat) : Nat → Nat → (Nat → Nat) → Nat → Nat
  | 0, _, o => o
  | q + 1, d, o => mkF U n p sk q (d + 1) (if sk ≤ d then nxtO U n (p + q) o else o)
/-- the order behind the passes of the whole sequence but the first sk -/
def mkO (U : Nat → Int32) (n : Nat) (P Wd : Nat → Nat) (sk : Nat) : Nat → Nat := mkF U n (P 0) sk (Wd 0) (0 + Wd 2 + Wd 1) (mkF U n (P 1) sk (Wd 1) (0 + Wd 2) (mkF U n (P 2) sk (Wd 2) 0 id))
def ordG (P Wd : Nat → Nat) (G : Nat → Nat → Int32) : Nat → Nat → Int64 → Int32
  | 0, _, _ => nI 1
  | n + 1, k, l => if valF P Wd (G k) 0 = (-1000009) ∨ valF P Wd (G k) 1 = (-1000009) ∨ valF P Wd (G k) 2 = (-1000009) then ordG P Wd G n (k + 1) l else if keyM (valF P Wd (G k) 0) (valF P Wd (G k) 1) (valF P Wd (G k) 2) < l then nI 0 else ordG P Wd G n (k + 1) (keyM (valF P Wd (G k) 0) (valF P Wd (G k) 1) (valF P Wd (G k) 2))
theorem ordR_G {P Wd : Nat → Nat} {U u : Nat → Int32} {G : Nat → Nat → Int32} {N : Nat} (hL : LayW u P Wd) (hG : ∀ k, k < N → ∀ j, j < 24 → U (20 + 26 * k + j) = G k j) : ∀ (n k : Nat) (l : Int64), k + n = N → ordR P Wd U n k l = ordG P Wd G n k l
  | 0, _, _, _ => rfl
  | n + 1, k, l, h => by
    unfold ordR ordG
    have c : ∀ f, f < 6 → valF P Wd (colW U k) f = valF P Wd (G k) f := fun f hf => valF_congr hL (hG k (by omega)) hf
    rw [c 0 (by omega), c 1 (by omega), c 2 (by omega), ordR_G hL hG n (k + 1) l (by omega), ordR_G hL hG n (k + 1) _ (by omega)]
/-- the least number of last passes that brings the deck into order, from d on: n + 1 to try -/
def paR (U : Nat → Int32) (n : Nat) (P Wd : Nat → Nat) : Nat → Nat → Int32
  | 0, d => if ordG P Wd (fun k j => U (20 + 26 * mkO U n P Wd 0 k + j)) n 0 (-1) = nI 1 then nI d else (-1000009)
  | r + 1, d => if ordG P Wd (fun k j => U (20 + 26 * mkO U n P Wd (r + 1) k + j)) n 0 (-1) = nI 1 then nI d else paR U n P Wd r (d + 1)
theorem s12_passN {U : Nat → Int32} {n c : Nat} {o : Nat → Nat} (hn : n ≤ 40) (hw : U 19 = nI n) (hc : c < 24) (hD : DigW U n) (ho : ∀ i, i < n → o i < n) (hO : DkO U n o (A 1)) (hQ : ∀ A2 : Nat → Nat → Int32, DkO U n (nxtO U n c o) (A2 1) → (∀ i, i < n → nxtO U n c o i < n) → (∀ q, q ≠ 1 → q ≠ 8 → q ≠ 9 → q ≠ 10 → A2 q = A q) → Q none (putM h M A2 S, z)) : Rn sA mX12_passBy 0 [some (.ref M), some (.int (nI c)), none, none, none, none] [] (putM h M A S, z) Q := by
  refine s12_passBy (sk := fun k => skF U c (o k)) hn ((hO.2 19 (by omega)).trans hw) hc (fun i hi => (skF_sp hD (ho i hi) hc).1) (fun i hi => by rw [hO.1 i hi c (by omega)]; exact (skF_sp hD (ho i hi) hc).2) (fun V G g8 g10 hI => ?_)
  obtain ⟨h1, h2⟩ := nxtO_spN (G := G) hD hc ho hO hI
  exact hQ _ h1 h2 (fun q q1 q8 q9 q10 => by unfold va_up; rw [if_neg q9, if_neg q1, if_neg q10, if_neg q8])
theorem l12_mkf {U : Nat → Int32} {n x f la al sk : Nat} (hn : n ≤ 40) (hw : U 19 = nI n) (hD : DigW U n) (hx : x < 3) (hf : U (0 + 2 * x) = nI f) (hsk : sk + la = al ∧ al ≤ 12) : ∀ (k : Nat) (_ : f + k ≤ 24) (d : Nat) (_ : d + k ≤ 24) (o : Nat → Nat) (A : Nat → Nat → Int32) (_ : ∀ i, i < n → o i < n) (_ : DkO U n o (A 1)) (_ : (∀ A2 : Nat → Nat → Int32, DkO U n (mkF U n f sk k d o) (A2 1) → (∀ i, i < n → mkF U n f sk k d o i < n) → (∀ q, q ≠ 1 → q ≠ 8 → q ≠ 9 → q ≠ 10 → A2 q = A q) → Rn sA mX12_makePasses 72 [some (.ref M), some (.int (nI la)), some (.int (nI al)), some (.int (nI (d + k))), some (.int (nI x)), some (.int (nI 0 - nI 1))] [] (putM h M A2 S, z) Q)), Rn sA mX12_makePasses 38 [some (.ref M), some (.int (nI la)), some (.int (nI al)), some (.int (nI d)), some (.int (nI x)), some (.int (nI k - nI 1))] [] (putM h M A S, z) Q
  | 0, hk, d, hd, o, A, ho, hO, hX => by
    refine R_iload (pc := 38) dX12_makePasses_38 rfl ?_
    refine R_if_lt (pc := 40) (t := 72) dX12_makePasses_40 (by decide) (fun _ => ?_) (fun hz9 => absurd (by decide) hz9)
    exact hX A hO ho (fun q _ _ _ _ => rfl)
  | k + 1, hk, d, hd, o, A, ho, hO, hX => by
    have e1 : nI (k + 1) - nI 1 = nI k := by rw [pk_sub (by omega)]; rfl
    rw [e1]
    have hfs : A 1 (0 + 2 * x) = nI f := (hO.2 (0 + 2 * x) (by omega)).trans hf
    have esk : nI al - nI la = nI sk := by rw [pk_sub (by omega)]; congr 1; omega
    by_cases hlt : d < sk
    · refine R_iload (pc := 38) dX12_makePasses_38 rfl ?_
      refine R_if_lt (pc := 40) (t := 72) dX12_makePasses_40 (by decide) (fun hz9 => absurd hz9 (fun q => by have := nI_pos (n := k) (by omega); exact this q)) (fun _ => ?_)
      refine R_iload_n (pc := 43) dX12_makePasses_43 rfl ?_
      refine R_iload_n (pc := 44) dX12_makePasses_44 rfl ?_
      refine R_iload_n (pc := 45) dX12_makePasses_45 rfl ?_
      refine R_isub (pc := 46) dX12_makePasses_46 ?_
      refine R_icmp_lt (pc := 47) (t := 63) dX12_makePasses_47 (by decide) (fun _ => ?_) (fun hz9 => absurd (by rw [esk]; exact nI_lt hlt (by omega)) hz9)
      refine R_iinc (pc := 63) dX12_makePasses_63 rfl (by first | exact nI_inc _ | rfl) rfl ?_
      refine R_iinc (pc := 66) dX12_makePasses_66 rfl (show nI k + Int32.ofInt (-1) = nI k - nI 1 by rw [Int32.sub_eq_add_neg]; rfl) rfl ?_
      refine R_goto (pc := 69) (t := 38) dX12_makePasses_69 (by decide) ?_
      have e2 : mkF U n f sk (k + 1) d o = mkF U n f sk k (d + 1) (o) := by show mkF U n f sk k (d + 1) (if sk ≤ d then nxtO U n (f + k) o else o) = _; rw [if_neg (by omega)]
      exact l12_mkf hn hw hD hx hf hsk k (by omega) (d + 1) (by omega) (o) A ho hO (fun A2 q1 q2 q3 => by have t := hX A2 (by rw [e2]; exact q1) (by rw [e2]; exact q2) q3; rw [show d + (k + 1) = d + 1 + k by omega] at t; exact t)
    · refine R_iload (pc := 38) dX12_makePasses_38 rfl ?_
      refine R_if_lt (pc := 40) (t := 72) dX12_makePasses_40 (by decide) (fun hz9 => absurd hz9 (fun q => by have := nI_pos (n := k) (by omega); exact this q)) (fun _ => ?_)
      refine R_iload_n (pc := 43) dX12_makePasses_43 rfl ?_
      refine R_iload_n (pc := 44) dX12_makePasses_44 rfl ?_
      refine R_iload_n (pc := 45) dX12_makePasses_45 rfl ?_
      refine R_isub (pc := 46) dX12_makePasses_46 ?_
      refine R_icmp_lt (pc := 47) (t := 63) dX12_makePasses_47 (by decide) (fun hz9 => absurd hz9 (by rw [esk]; exact nI_nlt (by omega) (by omega))) (fun _ => ?_)
      refine R_aload_n (pc := 50) dX12_makePasses_50 rfl ?_
      refine R_aload_n (pc := 51) dX12_makePasses_51 rfl ?_
      refine R_iload (pc := 52) dX12_makePasses_52 rfl ?_
      refine R_callV (pc := 54) dX12_makePasses_54 rfl putM_o rfl rfl ?_
      refine s12_first (by omega) ?_
      refine R_iload (pc := 57) dX12_makePasses_57 rfl ?_
      refine R_iadd (pc := 59) dX12_makePasses_59 ?_
      refine R_callV (pc := 60) dX12_makePasses_60 rfl putM_o rfl rfl ?_
      rw [hfs, nI_add]
      refine s12_passN (U := U) (o := o) hn hw (by omega) hD ho hO (fun A3 h1 h3 h4 => ?_)
      refine R_iinc (pc := 63) dX12_makePasses_63 rfl (by first | exact nI_inc _ | rfl) rfl ?_
      refine R_iinc (pc := 66) dX12_makePasses_66 rfl (show nI k + Int32.ofInt (-1) = nI k - nI 1 by rw [Int32.sub_eq_add_neg]; rfl) rfl ?_
      refine R_goto (pc := 69) (t := 38) dX12_makePasses_69 (by decide) ?_
      have e2 : mkF U n f sk (k + 1) d o = mkF U n f sk k (d + 1) (nxtO U n (f + k) o) := by show mkF U n f sk k (d + 1) (if sk ≤ d then nxtO U n (f + k) o else o) = _; rw [if_pos (by omega)]
      exact l12_mkf hn hw hD hx hf hsk k (by omega) (d + 1) (by omega) (nxtO U n (f + k) o) A3 h3 h1 (fun A2 q1 q2 q3 => by have t := hX A2 (by rw [e2]; exact q1) (by rw [e2]; exact q2) (fun q a b c e => (q3 q a b c e).trans (h4 q a b c e)); rw [show d + (k + 1) = d + 1 + k by omega] at t; exact t)
theorem s12_makePasses {U : Nat → Int32} {n la al sk : Nat} {P Wd : Nat → Nat} (hL : LayW U P Wd) (hV : LayV Wd) (hn : n ≤ 40) (hw : U 19 = nI n) (hD : DigW U n) (hal : Wd 0 + Wd 1 + Wd 2 = al) (hsk : sk + la = al) (hO : DkO U n id (A 1)) (hQ : ∀ A2 : Nat → Nat → Int32, DkO U n (mkO U n P Wd sk) (A2 1) → (∀ i, i < n → mkO U n P Wd sk i < n) → (∀ q, q ≠ 1 → q ≠ 8 → q ≠ 9 → q ≠ 10 → A2 q = A q) → Q none (putM h M A2 S, z)) : Rn sA mX12_makePasses 0 [some (.ref M), some (.int (nI la)), none, none, none, none] [] (putM h M A S, z) Q := by
  obtain ⟨p0, w0, l0⟩ := hL 0 (by omega)
  obtain ⟨p1, w1, l1⟩ := hL 1 (by omega)
  obtain ⟨p2, w2, l2⟩ := hL 2 (by omega)
  have v0 := hV 0 (by omega)
  have v1 := hV 1 (by omega)
  have v2 := hV 2 (by omega)
  refine R_aload_n (pc := 0) dX12_makePasses_0 rfl ?_
  refine R_iconst (pc := 1) (x := nI 0) dX12_makePasses_1 rfl ?_
  refine R_callV (pc := 2) dX12_makePasses_2 rfl putM_o rfl rfl ?_
  refine s12_width (f := 0) (by omega) ?_
  refine R_aload_n (pc := 5) dX12_makePasses_5 rfl ?_
  refine R_iconst (pc := 6) (x := nI 1) dX12_makePasses_6 rfl ?_
  refine R_callV (pc := 7) dX12_makePasses_7 rfl putM_o rfl rfl ?_
  refine s12_width (f := 1) (by omega) ?_
  refine R_iadd (pc := 10) dX12_makePasses_10 ?_
  refine R_aload_n (pc := 11) dX12_makePasses_11 rfl ?_
  refine R_iconst (pc := 12) (x := nI 2) dX12_makePasses_12 rfl ?_
  refine R_callV (pc := 13) dX12_makePasses_13 rfl putM_o rfl rfl ?_
  refine s12_width (f := 2) (by omega) ?_
  refine R_iadd (pc := 16) dX12_makePasses_16 ?_
  rw [(hO.2 (0 + 2 * 0 + 1) (by omega)).trans w0, (hO.2 (0 + 2 * 1 + 1) (by omega)).trans w1, (hO.2 (0 + 2 * 2 + 1) (by omega)).trans w2, nI_add, nI_add, hal]
  refine R_istore_n (pc := 17) dX12_makePasses_17 (Nat.le_of_ble_eq_true rfl) rfl ?_
  refine R_iconst (pc := 18) (x := nI 0) dX12_makePasses_18 rfl ?_
  refine R_istore_n (pc := 19) dX12_makePasses_19 (Nat.le_of_ble_eq_true rfl) rfl ?_
  refine R_iconst (pc := 20) (x := nI 2) dX12_makePasses_20 rfl ?_
  refine R_istore (pc := 21) dX12_makePasses_21 (Nat.le_of_ble_eq_true rfl) rfl ?_
  refine R_iload (pc := 23) dX12_makePasses_23 rfl ?_
  refine R_if_lt (pc := 25) (t := 78) dX12_makePasses_25 (by decide) (fun hz9 => absurd hz9 (by decide)) (fun _ => ?_)
  refine R_aload_n (pc := 28) dX12_makePasses_28 rfl ?_
  refine R_iload (pc := 29) dX12_makePasses_29 rfl ?_
  refine R_callV (pc := 31) dX12_makePasses_31 rfl putM_o rfl rfl ?_
  refine s12_width (by omega) ?_
  rw [show A 1 (0 + 2 * 2 + 1) = nI (Wd 2) from (hO.2 _ (by omega)).trans w2]
  refine R_iconst (pc := 34) (x := nI 1) dX12_makePasses_34 rfl ?_
  refine R_isub (pc := 35) dX12_makePasses_35 ?_
  refine R_istore (pc := 36) dX12_makePasses_36 (Nat.le_of_ble_eq_true rfl) rfl ?_
  refine l12_mkf (U := U) (x := 2) (f := P 2) (la := la) (al := al) (sk := sk) hn hw hD (by omega) p2 ⟨hsk, by omega⟩ (Wd 2) l2 0 (by omega) id A (by exact fun i hi => hi) (by exact hO) (fun A1 a2 b2 c2 => ?_)
  refine R_iinc (pc := 72) dX12_makePasses_72 rfl (show nI 2 + Int32.ofInt (-1) = nI 1 by decide) rfl ?_
  refine R_goto (pc := 75) (t := 23) dX12_makePasses_75 (by decide) ?_
  refine R_iload (pc := 23) dX12_makePasses_23 rfl ?_
  refine R_if_lt (pc := 25) (t := 78) dX12_makePasses_25 (by decide) (fun hz9 => absurd hz9 (by decide)) (fun _ => ?_)
  refine R_aload_n (pc := 28) dX12_makePasses_28 rfl ?_
  refine R_iload (pc := 29) dX12_makePasses_29 rfl ?_
  refine R_callV (pc := 31) dX12_makePasses_31 rfl putM_o rfl rfl ?_
  refine s12_width (by omega) ?_
  rw [show A1 1 (0 + 2 * 1 + 1) = nI (Wd 1) from (a2.2 _ (by omega)).trans w1]
  refine R_iconst (pc := 34) (x := nI 1) dX12_makePasses_34 rfl ?_
  refine R_isub (pc := 35) dX12_makePasses_35 ?_
  refine R_istore (pc := 36) dX12_makePasses_36 (Nat.le_of_ble_eq_true rfl) rfl ?_
  refine l12_mkf (U := U) (x := 1) (f := P 1) (la := la) (al := al) (sk := sk) hn hw hD (by omega) p1 ⟨hsk, by omega⟩ (Wd 1) l1 (0 + Wd 2) (by omega) (mkF U n (P 2) sk (Wd 2) 0 id) A1 (by exact b2) (by exact a2) (fun A2 a1 b1 c1 => ?_)
  refine R_iinc (pc := 72) dX12_makePasses_72 rfl (show nI 1 + Int32.ofInt (-1) = nI 0 by decide) rfl ?_
  refine R_goto (pc := 75) (t := 23) dX12_makePasses_75 (by decide) ?_
  refine R_iload (pc := 23) dX12_makePasses_23 rfl ?_
  refine R_if_lt (pc := 25) (t := 78) dX12_makePasses_25 (by decide) (fun hz9 => absurd hz9 (by decide)) (fun _ => ?_)
  refine R_aload_n (pc := 28) dX12_makePasses_28 rfl ?_
  refine R_iload (pc := 29) dX12_makePasses_29 rfl ?_
  refine R_callV (pc := 31) dX12_makePasses_31 rfl putM_o rfl rfl ?_
  refine s12_width (by omega) ?_
  rw [show A2 1 (0 + 2 * 0 + 1) = nI (Wd 0) from (a1.2 _ (by omega)).trans w0]
  refine R_iconst (pc := 34) (x := nI 1) dX12_makePasses_34 rfl ?_
  refine R_isub (pc := 35) dX12_makePasses_35 ?_
  refine R_istore (pc := 36) dX12_makePasses_36 (Nat.le_of_ble_eq_true rfl) rfl ?_
  refine l12_mkf (U := U) (x := 0) (f := P 0) (la := la) (al := al) (sk := sk) hn hw hD (by omega) p0 ⟨hsk, by omega⟩ (Wd 0) l0 (0 + Wd 2 + Wd 1) (by omega) (mkF U n (P 1) sk (Wd 1) (0 + Wd 2) (mkF U n (P 2) sk (Wd 2) 0 id)) A2 (by exact b1) (by exact a1) (fun A3 a0 b0 c0 => ?_)
  refine R_iinc (pc := 72) dX12_makePasses_72 rfl rfl rfl ?_
  refine R_goto (pc := 75) (t := 23) dX12_makePasses_75 (by decide) ?_
  refine R_iload (pc := 23) dX12_makePasses_23 rfl ?_
  refine R_if_lt (pc := 25) (t := 78) dX12_makePasses_25 (by decide) (fun _ => ?_) (fun hz9 => absurd (by decide) hz9)
  refine R_vret (pc := 78) dX12_makePasses_78 rfl ?_
  exact hQ A3 a0 b0 (fun q x1 x8 x9 x10 => (c0 q x1 x8 x9 x10).trans ((c1 q x1 x8 x9 x10).trans (c2 q x1 x8 x9 x10)))
theorem ordG_01 {P Wd : Nat → Nat} {G : Nat → Nat → Int32} : ∀ (n k : Nat) (l : Int64), ordG P Wd G n k l = nI 0 ∨ ordG P Wd G n k l = nI 1
  | 0, _, _ => Or.inr rfl
  | n + 1, k, l => by
    unfold ordG
    split
    · exact ordG_01 n (k + 1) l
    · split
      · exact Or.inl rfl
      · exact ordG_01 n (k + 1) _
theorem l12_passes {U : Nat → Int32} {n al : Nat} {P Wd : Nat → Nat} {B : Nat → Nat → Int32} (hL : LayW U P Wd) (hV : LayV Wd) (hn : n ≤ 40) (hw : U 19 = nI n) (hD : DigW U n) (hal : Wd 0 + Wd 1 + Wd 2 = al) : ∀ (r d : Nat) (A : Nat → Nat → Int32) (o3 : Option Value) (_ : d + r = al) (_ : A 1 = U) (_ : A 2 = B 2) (_ : A 3 = B 3) (_ : A 4 = B 4) (_ : (∀ A2 : Nat → Nat → Int32, A2 1 = U → A2 2 = B 2 → A2 3 = B 3 → A2 4 = B 4 → Q (some (.int (paR U n P Wd r d))) (putM h M A2 S, z))), Rn sA mX12_passes 20 [some (.ref M), some (.int (nI al)), some (.int (nI d)), o3] [] (putM h M A S, z) Q
  | 0, d, A, o3, hd, hA, h2, h3, h4, hX => by
    obtain rfl : d = al := by omega
    have v0 := hV 0 (by omega)
    have v1 := hV 1 (by omega)
    have v2 := hV 2 (by omega)
    refine R_iload_n (pc := 20) dX12_passes_20 rfl ?_
    refine R_iload_n (pc := 21) dX12_passes_21 rfl ?_
    refine R_icmp_gt (pc := 22) (t := 55) dX12_passes_22 (by decide) (fun hz9 => absurd hz9 (nI_nlt (by omega) (by omega))) (fun _ => ?_)
    refine R_aload_n (pc := 25) dX12_passes_25 rfl ?_
    refine R_callV (pc := 26) dX12_passes_26 rfl putM_o rfl rfl ?_
    refine s12_aside ?_
    refine R_aload_n (pc := 29) dX12_passes_29 rfl ?_
    refine R_iload_n (pc := 30) dX12_passes_30 rfl ?_
    refine R_callV (pc := 31) dX12_passes_31 rfl putM_o rfl rfl ?_
    refine s12_makePasses (U := U) (sk := 0) hL hV hn hw hD hal (by omega) (by show DkO U n id (A 1); rw [hA]; exact ⟨fun _ _ _ _ => rfl, fun _ _ => rfl⟩) (fun A2 q1 q2 q3 => ?_)
    refine R_aload_n (pc := 34) dX12_passes_34 rfl ?_
    refine R_callV (pc := 35) dX12_passes_35 rfl putM_o rfl rfl ?_
    have hL2 : LayW (A2 1) P Wd := fun f hf => by rw [q1.2 _ (by omega), q1.2 _ (by omega)]; exact hL f hf
    refine s12_ordered hL2 hn ((q1.2 19 (by omega)).trans hw) (fun g => ?_)
    rw [ordR_G (N := n) (G := fun k j => U (20 + 26 * mkO U n P Wd (0) k + j)) hL2 (fun k hk j hj => q1.1 k hk j (by omega)) n 0 (-1) (by omega)]
    refine R_istore_n (pc := 38) dX12_passes_38 (Nat.le_of_ble_eq_true rfl) rfl ?_
    refine R_aload_n (pc := 39) dX12_passes_39 rfl ?_
    refine R_callV (pc := 40) dX12_passes_40 rfl putM_o rfl rfl ?_
    refine s12_putBack ?_
    have eb : va_cpy (A2 13) (A2 1) 0 0 2754 = U := by
      funext j
      by_cases hj : j < 2754
      · rw [cpy_in (by omega) (by omega), q3 13 (by omega) (by omega) (by omega) (by omega)]
        show va_cpy (A 1) (A 13) 0 0 2754 _ = _
        rw [cpy_in (by omega) (by omega), hA]
        congr 1
        omega
      · rw [cpy_out (by omega), q1.2 j (by omega)]
    rw [show va_cpy (va_up A2 5 g 13) (va_up A2 5 g 1) 0 0 2754 = U from eb]
    refine R_iload_n (pc := 43) dX12_passes_43 rfl ?_
    refine R_if_eq (pc := 44) (t := 49) dX12_passes_44 (by decide) (fun h44 => ?_) (fun h44 => ?_)
    · refine R_iinc (pc := 49) dX12_passes_49 rfl (by first | exact nI_inc _ | rfl) rfl ?_
      refine R_goto (pc := 52) (t := 20) dX12_passes_52 (by decide) ?_
      refine R_iload_n (pc := 20) dX12_passes_20 rfl ?_
      refine R_iload_n (pc := 21) dX12_passes_21 rfl ?_
      refine R_icmp_gt (pc := 22) (t := 55) dX12_passes_22 (by decide) (fun _ => ?_) (fun hz9 => absurd (nI_lt (by omega) (by omega)) hz9)
      refine R_ldc (pc := 55) (x := (-1000009)) dX12_passes_55 rfl ?_
      refine R_iret (pc := 57) dX12_passes_57 rfl ?_
      have t := hX (va_up (va_up A2 5 g) 1 U) rfl (by show A2 2 = _; rw [q3 2 (by omega) (by omega) (by omega) (by omega)]; exact h2) (by show A2 3 = _; rw [q3 3 (by omega) (by omega) (by omega) (by omega)]; exact h3) (by show A2 4 = _; rw [q3 4 (by omega) (by omega) (by omega) (by omega)]; exact h4)
      rw [show paR U n P Wd 0 d = (-1000009) from if_neg (fun t => by rw [t] at h44; exact absurd h44 (by decide))] at t
      exact t
    · refine R_iload_n (pc := 47) dX12_passes_47 rfl ?_
      refine R_iret (pc := 48) dX12_passes_48 rfl ?_
      have t := hX (va_up (va_up A2 5 g) 1 U) rfl (by show A2 2 = _; rw [q3 2 (by omega) (by omega) (by omega) (by omega)]; exact h2) (by show A2 3 = _; rw [q3 3 (by omega) (by omega) (by omega) (by omega)]; exact h3) (by show A2 4 = _; rw [q3 4 (by omega) (by omega) (by omega) (by omega)]; exact h4)
      rw [show paR U n P Wd 0 d = nI d from if_pos ((ordG_01 n 0 (-1)).resolve_left (fun t => h44 (t.trans nI_0)))] at t
      exact t
  | r + 1, d, A, o3, hd, hA, h2, h3, h4, hX => by
    have v0 := hV 0 (by omega)
    have v1 := hV 1 (by omega)
    have v2 := hV 2 (by omega)
    refine R_iload_n (pc := 20) dX12_passes_20 rfl ?_
    refine R_iload_n (pc := 21) dX12_passes_21 rfl ?_
    refine R_icmp_gt (pc := 22) (t := 55) dX12_passes_22 (by decide) (fun hz9 => absurd hz9 (nI_nlt (by omega) (by omega))) (fun _ => ?_)
    refine R_aload_n (pc := 25) dX12_passes_25 rfl ?_
    refine R_callV (pc := 26) dX12_passes_26 rfl putM_o rfl rfl ?_
    refine s12_aside ?_
    refine R_aload_n (pc := 29) dX12_passes_29 rfl ?_
    refine R_iload_n (pc := 30) dX12_passes_30 rfl ?_
    refine R_callV (pc := 31) dX12_passes_31 rfl putM_o rfl rfl ?_
    refine s12_makePasses (U := U) (sk := r + 1) hL hV hn hw hD hal (by omega) (by show DkO U n id (A 1); rw [hA]; exact ⟨fun _ _ _ _ => rfl, fun _ _ => rfl⟩) (fun A2 q1 q2 q3 => ?_)
    refine R_aload_n (pc := 34) dX12_passes_34 rfl ?_
    refine R_callV (pc := 35) dX12_passes_35 rfl putM_o rfl rfl ?_
    have hL2 : LayW (A2 1) P Wd := fun f hf => by rw [q1.2 _ (by omega), q1.2 _ (by omega)]; exact hL f hf
    refine s12_ordered hL2 hn ((q1.2 19 (by omega)).trans hw) (fun g => ?_)
    rw [ordR_G (N := n) (G := fun k j => U (20 + 26 * mkO U n P Wd (r + 1) k + j)) hL2 (fun k hk j hj => q1.1 k hk j (by omega)) n 0 (-1) (by omega)]
    refine R_istore_n (pc := 38) dX12_passes_38 (Nat.le_of_ble_eq_true rfl) rfl ?_
    refine R_aload_n (pc := 39) dX12_passes_39 rfl ?_
    refine R_callV (pc := 40) dX12_passes_40 rfl putM_o rfl rfl ?_
    refine s12_putBack ?_
    have eb : va_cpy (A2 13) (A2 1) 0 0 2754 = U := by
      funext j
      by_cases hj : j < 2754
      · rw [cpy_in (by omega) (by omega), q3 13 (by omega) (by omega) (by omega) (by omega)]
        show va_cpy (A 1) (A 13) 0 0 2754 _ = _
        rw [cpy_in (by omega) (by omega), hA]
        congr 1
        omega
      · rw [cpy_out (by omega), q1.2 j (by omega)]
    rw [show va_cpy (va_up A2 5 g 13) (va_up A2 5 g 1) 0 0 2754 = U from eb]
    refine R_iload_n (pc := 43) dX12_passes_43 rfl ?_
    refine R_if_eq (pc := 44) (t := 49) dX12_passes_44 (by decide) (fun h44 => ?_) (fun h44 => ?_)
    · refine R_iinc (pc := 49) dX12_passes_49 rfl (by first | exact nI_inc _ | rfl) rfl ?_
      refine R_goto (pc := 52) (t := 20) dX12_passes_52 (by decide) ?_
      refine l12_passes (B := B) hL hV hn hw hD hal r (d + 1) _ _ (by omega) rfl (by show A2 2 = _; rw [q3 2 (by omega) (by omega) (by omega) (by omega)]; exact h2) (by show A2 3 = _; rw [q3 3 (by omega) (by omega) (by omega) (by omega)]; exact h3) (by show A2 4 = _; rw [q3 4 (by omega) (by omega) (by omega) (by omega)]; exact h4) (fun A3 a b c e => ?_)
      have t := hX A3 a b c e
      rw [show paR U n P Wd (r + 1) d = paR U n P Wd r (d + 1) from if_neg (fun t => by rw [t] at h44; exact absurd h44 (by decide))] at t
      exact t
    · refine R_iload_n (pc := 47) dX12_passes_47 rfl ?_
      refine R_iret (pc := 48) dX12_passes_48 rfl ?_
      have t := hX (va_up (va_up A2 5 g) 1 U) rfl (by show A2 2 = _; rw [q3 2 (by omega) (by omega) (by omega) (by omega)]; exact h2) (by show A2 3 = _; rw [q3 3 (by omega) (by omega) (by omega) (by omega)]; exact h3) (by show A2 4 = _; rw [q3 4 (by omega) (by omega) (by omega) (by omega)]; exact h4)
      rw [show paR U n P Wd (r + 1) d = nI d from if_pos ((ordG_01 n 0 (-1)).resolve_left (fun t => h44 (t.trans nI_0)))] at t
      exact t
theorem s12_passes {n : Nat} {P Wd : Nat → Nat} (hL : LayW (A 1) P Wd) (hV : LayV Wd) (hn : n ≤ 40) (hw : A 1 19 = nI n) (hD : DigW (A 1) n) (hQ : ∀ A2 : Nat → Nat → Int32, A2 1 = A 1 → A2 2 = A 2 → A2 3 = A 3 → A2 4 = A 4 → Q (some (.int (paR (A 1) n P Wd (Wd 0 + Wd 1 + Wd 2) 0))) (putM h M A2 S, z)) : Rn sA mX12_passes 0 [some (.ref M), none, none, none] [] (putM h M A S, z) Q := by
  refine R_aload_n (pc := 0) dX12_passes_0 rfl ?_
  refine R_iconst (pc := 1) (x := nI 0) dX12_passes_1 rfl ?_
  refine R_callV (pc := 2) dX12_passes_2 rfl putM_o rfl rfl ?_
  refine s12_width (f := 0) (by omega) ?_
  refine R_aload_n (pc := 5) dX12_passes_5 rfl ?_
  refine R_iconst (pc := 6) (x := nI 1) dX12_passes_6 rfl ?_
  refine R_callV (pc := 7) dX12_passes_7 rfl putM_o rfl rfl ?_
  refine s12_width (f := 1) (by omega) ?_
  refine R_iadd (pc := 10) dX12_passes_10 ?_
  refine R_aload_n (pc := 11) dX12_passes_11 rfl ?_
  refine R_iconst (pc := 12) (x := nI 2) dX12_passes_12 rfl ?_
  refine R_callV (pc := 13) dX12_passes_13 rfl putM_o rfl rfl ?_
  refine s12_width (f := 2) (by omega) ?_
  refine R_iadd (pc := 16) dX12_passes_16 ?_
  rw [(hL 0 (by omega)).2.1, (hL 1 (by omega)).2.1, (hL 2 (by omega)).2.1, nI_add, nI_add]
  refine R_istore_n (pc := 17) dX12_passes_17 (Nat.le_of_ble_eq_true rfl) rfl ?_
  refine R_iconst (pc := 18) (x := nI 0) dX12_passes_18 rfl ?_
  refine R_istore_n (pc := 19) dX12_passes_19 (Nat.le_of_ble_eq_true rfl) rfl ?_
  have v0 := hV 0 (by omega)
  have v1 := hV 1 (by omega)
  have v2 := hV 2 (by omega)
  exact l12_passes hL hV hn hw hD rfl (Wd 0 + Wd 1 + Wd 2) 0 A none (by omega) rfl rfl rfl rfl hQ
end MOD18
