section CE6
variable {sA : Nat} {h : Nat → Option am_C} {z : Nat × Nat} {Q : Option Value → am_H → Prop}
theorem c11_inOrder {x : Nat} {U : Nat → Int32} {P Wd : Nat → Nat} {n m0 : Nat} {pe : Nat → Nat} {K : Nat → CdX} {R : RpX} {se co : Nat → Int32} {G0 g20 g30 : Nat → Int32} {f40 : Nat → Option Nat} (hx : h x = some (.inr (11, [.ref (x + 1), .ref (x + 94), .ref (x + 96), .ref (x + 97), .ref (x + 101), .ref (x + 106), .ref (x + 111), .ref (x + 155), .ref (x + 157)]))) (sa : StAt h (x + 1) P Wd n pe K R se co) (sr : StR U P Wd n pe K R se co) (hD : DigW U n) (so : SoX h (x + 101) m0 G0 g20 g30 f40) (hQ : ∀ (h2 : Nat → Option am_C) (G2 g2 g3 : Nat → Int32) (f4 : Nat → Option Nat), SoX h2 (x + 101) n G2 g2 g3 f4 → (∀ a, (a < x + 101 ∨ x + 106 ≤ a) → h2 a = h a) → Q (some (.int (ordG P Wd (fun k j => U (20 + 26 * k + j)) n 0 (-1)))) (h2, z)) : Rn sA mX11_isDeckInOrder 0 [some (.ref x)] [] (h, z) Q := by
  have sa1 := sa.1
  have hn := sr.2.2.1.2.1
  refine R_aload_n (pc := 0) dX11_isDeckInOrder_0 rfl ?_
  refine R_getf (pc := 1) dX11_isDeckInOrder_1 rfl (by repeat (first | assumption | exact up_s | refine up_n (by omega) ?_)) rfl ?_
  refine R_aload_n (pc := 4) dX11_isDeckInOrder_4 rfl ?_
  refine R_getf (pc := 5) dX11_isDeckInOrder_5 rfl (by repeat (first | assumption | exact up_s | refine up_n (by omega) ?_)) rfl ?_
  refine R_getf (pc := 8) dX11_isDeckInOrder_8 rfl (by repeat (first | assumption | exact up_s | refine up_n (by omega) ?_)) rfl ?_
  refine R_callV (pc := 11) dX11_isDeckInOrder_11 rfl so.1 rfl rfl ?_
  refine c7_begin so sa.2.2.1 hn (by omega) (fun h3 G3 b1 b2 b3 => ?_)
  have hx3 := (b3 x (by omega)).trans hx
  have sa31 := (b3 (x + 1) (by omega)).trans sa1
  have dk3 := sa.2.2.1.fr (h' := h3) (fun y y1 y2 => b3 y (by omega))
  have ly3 := sa.2.1.fr (h' := h3) (fun y y1 y2 => b3 y (by omega))
  have b11 := b1.1
  refine R_aload_n (pc := 14) dX11_isDeckInOrder_14 rfl ?_
  refine R_getf (pc := 15) dX11_isDeckInOrder_15 rfl (by repeat (first | assumption | exact up_s | refine up_n (by omega) ?_)) rfl ?_
  refine R_aload_n (pc := 18) dX11_isDeckInOrder_18 rfl ?_
  refine R_getf (pc := 19) dX11_isDeckInOrder_19 rfl (by repeat (first | assumption | exact up_s | refine up_n (by omega) ?_)) rfl ?_
  refine R_getf (pc := 22) dX11_isDeckInOrder_22 rfl (by repeat (first | assumption | exact up_s | refine up_n (by omega) ?_)) rfl ?_
  refine R_aload_n (pc := 25) dX11_isDeckInOrder_25 rfl ?_
  refine R_getf (pc := 26) dX11_isDeckInOrder_26 rfl (by repeat (first | assumption | exact up_s | refine up_n (by omega) ?_)) rfl ?_
  refine R_getf (pc := 29) dX11_isDeckInOrder_29 rfl (by repeat (first | assumption | exact up_s | refine up_n (by omega) ?_)) rfl ?_
  refine R_callV (pc := 32) dX11_isDeckInOrder_32 rfl b11 rfl rfl ?_
  refine c7_isInKeyOrder b1 dk3 sr.2.2.1 hD sr.2.1 (o := id) (fun i hi => hi) b2 ly3 (fun f hf => (sr.1 f hf).2.2) ?_
  refine R_zret (pc := 35) dX11_isDeckInOrder_35 rfl (ordG_01 _ _ _) ?_
  exact hQ h3 G3 _ _ _ b1 b3
theorem lc11_mkf {x : Nat} {U : Nat → Int32} {P Wd : Nat → Nat} {n : Nat} {pe : Nat → Nat} {K : Nat → CdX} {R : RpX} {se co : Nat → Int32} {f4 : Nat → Option Nat} {g : Nat → Option am_C} {fx : List Value} {f sk : Nat} (hx : g x = some (.inr (11, fx))) (hfx : fx = [.ref (x + 1), .ref (x + 94), .ref (x + 96), .ref (x + 97), .ref (x + 101), .ref (x + 106), .ref (x + 111), .ref (x + 155), .ref (x + 157)]) (sa : StAt g (x + 1) P Wd n pe K R se co) (sr : StR U P Wd n pe K R se co) (hD : DigW U n) (hf : f < 3) (hs : sk ≤ 100) : ∀ (k : Nat) (h : Nat → Option am_C) (G g2 g3 : Nat → Int32) (d : Nat) (o : Nat → Nat) (_ : P f + k ≤ 24) (_ : d + k ≤ 100) (_ : SoX h (x + 101) n G g2 g3 f4) (_ : ∀ i, i < n → G i = nI (o i)) (_ : ∀ i, i < n → o i < n) (_ : ∀ i j, i < n → j < n → o i = o j → i = j) (_ : (∀ a, (a < x + 101 ∨ x + 106 ≤ a) → h a = g a)) (_ : (∀ (h2 : Nat → Option am_C) (G2 g2 g3 : Nat → Int32), SoX h2 (x + 101) n G2 g2 g3 f4 → (∀ i, i < n → G2 i = nI (mkF U n (P f) sk k d o i)) → (∀ i, i < n → mkF U n (P f) sk k d o i < n) → (∀ i j, i < n → j < n → mkF U n (P f) sk k d o i = mkF U n (P f) sk k d o j → i = j) → (∀ a, (a < x + 101 ∨ x + 106 ≤ a) → h2 a = g a) → Rn sA mX11_passByKeyColumns 70 [some (.ref x), some (.int (nI sk)), some (.int (nI (d + k))), some (.int (nI f)), some (.int (nI 0 - nI 1))] [] (h2, z) Q)), Rn sA mX11_passByKeyColumns 23 [some (.ref x), some (.int (nI sk)), some (.int (nI d)), some (.int (nI f)), some (.int (nI k - nI 1))] [] (h, z) Q
  | 0, h, G, g2, g3, d, o, hk, hd, so, hG, ho, hi, hg, hX => by
    refine R_iload (pc := 23) dX11_passByKeyColumns_23 rfl ?_
    refine R_if_lt (pc := 25) (t := 70) dX11_passByKeyColumns_25 (by decide) (fun _ => ?_) (fun hz9 => absurd (by decide) hz9)
    exact hX h G g2 g3 so hG ho hi hg
  | k + 1, h, G, g2, g3, d, o, hk, hd, so, hG, ho, hi, hg, hX => by
    have hn := sr.2.2.1.2.1
    have hxh := (hg x (by omega)).trans hx
    rw [hfx] at hxh
    have sa1h := (hg (x + 1) (by omega)).trans sa.1
    have dkh := sa.2.2.1.fr (h' := h) (fun y y1 y2 => hg y (by omega))
    have lyh := sa.2.1.fr (h' := h) (fun y y1 y2 => hg y (by omega))
    have ly9 := lyh
    obtain ⟨v2, v3, lyh1, -⟩ := ly9
    have so1 := so.1
    rw [pk_sub (show 1 ≤ k + 1 by omega), Nat.add_sub_cancel]
    by_cases hsd : sk ≤ d
    · refine R_iload (pc := 23) dX11_passByKeyColumns_23 rfl ?_
      refine R_if_lt (pc := 25) (t := 70) dX11_passByKeyColumns_25 (by decide) (fun hz9 => absurd hz9 (nI_pos (by omega))) (fun _ => ?_)
      refine R_iload_n (pc := 28) dX11_passByKeyColumns_28 rfl ?_
      refine R_iload_n (pc := 29) dX11_passByKeyColumns_29 rfl ?_
      refine R_icmp_lt (pc := 30) (t := 61) dX11_passByKeyColumns_30 (by decide) (fun hz9 => absurd hz9 (nI_nlt (by omega) (by omega))) (fun _ => ?_)
      refine R_aload_n (pc := 33) dX11_passByKeyColumns_33 rfl ?_
      refine R_getf (pc := 34) dX11_passByKeyColumns_34 rfl (by repeat (first | assumption | exact up_s | refine up_n (by omega) ?_)) rfl ?_
      refine R_aload_n (pc := 37) dX11_passByKeyColumns_37 rfl ?_
      refine R_getf (pc := 38) dX11_passByKeyColumns_38 rfl (by repeat (first | assumption | exact up_s | refine up_n (by omega) ?_)) rfl ?_
      refine R_getf (pc := 41) dX11_passByKeyColumns_41 rfl (by repeat (first | assumption | exact up_s | refine up_n (by omega) ?_)) rfl ?_
      refine R_aload_n (pc := 44) dX11_passByKeyColumns_44 rfl ?_
      refine R_getf (pc := 45) dX11_passByKeyColumns_45 rfl (by repeat (first | assumption | exact up_s | refine up_n (by omega) ?_)) rfl ?_
      refine R_getf (pc := 48) dX11_passByKeyColumns_48 rfl (by repeat (first | assumption | exact up_s | refine up_n (by omega) ?_)) rfl ?_
      refine R_iload_n (pc := 51) dX11_passByKeyColumns_51 rfl ?_
      refine R_callV (pc := 52) dX11_passByKeyColumns_52 rfl lyh1 rfl rfl ?_
      refine c3_firstOf lyh (by omega) ?_
      refine R_iload (pc := 55) dX11_passByKeyColumns_55 rfl ?_
      refine R_iadd (pc := 57) dX11_passByKeyColumns_57 ?_
      rw [nI_add]
      refine R_callV (pc := 58) dX11_passByKeyColumns_58 rfl so1 rfl rfl ?_
      refine c7_passO dkh sr.2.2.1 hD (by omega) (c := P f + k) (by omega) (o := o) ho hG so (fun h4 G4 t2 t3 d1 d2 d3 d4 => ?_)
      refine R_iinc (pc := 61) dX11_passByKeyColumns_61 rfl (by first | exact nI_inc _ | rfl) rfl ?_
      refine R_iinc (pc := 64) dX11_passByKeyColumns_64 rfl (show nI k + Int32.ofInt (-1) = nI k - nI 1 by rw [Int32.sub_eq_add_neg]; rfl) rfl ?_
      refine R_goto (pc := 67) (t := 23) dX11_passByKeyColumns_67 (by decide) ?_
      refine lc11_mkf hx hfx sa sr hD hf hs k h4 G4 t2 t3 (d + 1) (nxtO U n (P f + k) o) (by omega) (by omega) d1 d2 d3 (nxtO_inj (fun i hi => (skF_sp hD (ho i hi) (by omega)).1) hi) (fun y hy => (d4 y (by omega)).trans (hg y hy)) (fun h2 G2 g2 g3 e1 e2 e3 e4 e5 => ?_)
      have em : mkF U n (P f) sk (k + 1) d o = mkF U n (P f) sk k (d + 1) (nxtO U n (P f + k) o) := by show mkF U n (P f) sk k (d + 1) (if sk ≤ d then _ else _) = _; rw [if_pos hsd]
      rw [show d + 1 + k = d + (k + 1) by omega]
      exact hX h2 G2 g2 g3 e1 (by rw [em]; exact e2) (by rw [em]; exact e3) (by rw [em]; exact e4) e5
    · refine R_iload (pc := 23) dX11_passByKeyColumns_23 rfl ?_
      refine R_if_lt (pc := 25) (t := 70) dX11_passByKeyColumns_25 (by decide) (fun hz9 => absurd hz9 (nI_pos (by omega))) (fun _ => ?_)
      refine R_iload_n (pc := 28) dX11_passByKeyColumns_28 rfl ?_
      refine R_iload_n (pc := 29) dX11_passByKeyColumns_29 rfl ?_
      refine R_icmp_lt (pc := 30) (t := 61) dX11_passByKeyColumns_30 (by decide) (fun _ => ?_) (fun hz9 => absurd (nI_lt (by omega) (by omega)) hz9)
      refine R_iinc (pc := 61) dX11_passByKeyColumns_61 rfl (by first | exact nI_inc _ | rfl) rfl ?_
      refine R_iinc (pc := 64) dX11_passByKeyColumns_64 rfl (show nI k + Int32.ofInt (-1) = nI k - nI 1 by rw [Int32.sub_eq_add_neg]; rfl) rfl ?_
      refine R_goto (pc := 67) (t := 23) dX11_passByKeyColumns_67 (by decide) ?_
      refine lc11_mkf hx hfx sa sr hD hf hs k h G g2 g3 (d + 1) o (by omega) (by omega) so hG ho hi hg (fun h2 G2 g2 g3 e1 e2 e3 e4 e5 => ?_)
      have em : mkF U n (P f) sk (k + 1) d o = mkF U n (P f) sk k (d + 1) o := by show mkF U n (P f) sk k (d + 1) (if sk ≤ d then _ else _) = _; rw [if_neg hsd]
      rw [show d + 1 + k = d + (k + 1) by omega]
      exact hX h2 G2 g2 g3 e1 (by rw [em]; exact e2) (by rw [em]; exact e3) (by rw [em]; exact e4) e5
theorem c11_byKey {x : Nat} {U : Nat → Int32} {P Wd : Nat → Nat} {n sk : Nat} {pe : Nat → Nat} {K : Nat → CdX} {R : RpX} {se co : Nat → Int32} {G g2 g3 : Nat → Int32} {f4 : Nat → Option Nat} (hx : h x = some (.inr (11, [.ref (x + 1), .ref (x + 94), .ref (x + 96), .ref (x + 97), .ref (x + 101), .ref (x + 106), .ref (x + 111), .ref (x + 155), .ref (x + 157)]))) (sa : StAt h (x + 1) P Wd n pe K R se co) (sr : StR U P Wd n pe K R se co) (hD : DigW U n) (so : SoX h (x + 101) n G g2 g3 f4) (hG : ∀ i, i < n → G i = nI (id i)) (hs : sk ≤ 100) (hQ : ∀ (h2 : Nat → Option am_C) (G2 g2 g3 : Nat → Int32), SoX h2 (x + 101) n G2 g2 g3 f4 → (∀ i, i < n → G2 i = nI (mkO U n P Wd sk i)) → (∀ i, i < n → mkO U n P Wd sk i < n) → (∀ i j, i < n → j < n → mkO U n P Wd sk i = mkO U n P Wd sk j → i = j) → (∀ a, (a < x + 101 ∨ x + 106 ≤ a) → h2 a = h a) → Q none (h2, z)) : Rn sA mX11_passByKeyColumns 0 [some (.ref x), some (.int (nI sk)), none, none, none] [] (h, z) Q := by
  have sa1 := sa.1
  have lyh := sa.2.1
  have ly9 := lyh
  obtain ⟨v2, v3, lyh1, -⟩ := ly9
  refine R_iconst (pc := 0) (x := nI 0) dX11_passByKeyColumns_0 rfl ?_
  refine R_istore_n (pc := 1) dX11_passByKeyColumns_1 (Nat.le_of_ble_eq_true rfl) rfl ?_
  refine R_iconst (pc := 2) (x := nI 2) dX11_passByKeyColumns_2 rfl ?_
  refine R_istore_n (pc := 3) dX11_passByKeyColumns_3 (Nat.le_of_ble_eq_true rfl) rfl ?_
  refine R_iload_n (pc := 4) dX11_passByKeyColumns_4 rfl ?_
  refine R_if_lt (pc := 5) (t := 76) dX11_passByKeyColumns_5 (by decide) (fun hz9 => absurd hz9 (by decide)) (fun _ => ?_)
  refine R_aload_n (pc := 8) dX11_passByKeyColumns_8 rfl ?_
  refine R_getf (pc := 9) dX11_passByKeyColumns_9 rfl (by repeat (first | assumption | exact up_s | refine up_n (by omega) ?_)) rfl ?_
  refine R_getf (pc := 12) dX11_passByKeyColumns_12 rfl (by repeat (first | assumption | exact up_s | refine up_n (by omega) ?_)) rfl ?_
  refine R_iload_n (pc := 15) dX11_passByKeyColumns_15 rfl ?_
  refine R_callV (pc := 16) dX11_passByKeyColumns_16 rfl lyh1 rfl rfl ?_
  refine c3_widthOf lyh (by omega) ?_
  refine R_iconst (pc := 19) (x := nI 1) dX11_passByKeyColumns_19 rfl ?_
  refine R_isub (pc := 20) dX11_passByKeyColumns_20 ?_
  refine R_istore (pc := 21) dX11_passByKeyColumns_21 (Nat.le_of_ble_eq_true rfl) rfl ?_
  refine lc11_mkf (g := h) hx rfl sa sr hD (f := 2) (by omega) hs (Wd 2) _ _ _ _ 0 id (sr.1 2 (by omega)).2.2 (by have := (sr.2.1 0 (by omega)).2; have := (sr.2.1 1 (by omega)).2; have := (sr.2.1 2 (by omega)).2; omega) so hG (fun i hi => hi) (fun i j _ _ q => q) (fun _ _ => rfl) (fun h1 G1 t2 t3 d1 d2 d3 d5 d4 => ?_)
  have hx1 := (d4 x (by omega)).trans hx
  have sa11 := (d4 (x + 1) (by omega)).trans sa1
  have ly1 := sa.2.1.fr (h' := h1) (fun y y1 y2 => d4 y (by omega))
  have ly19 := ly1
  obtain ⟨v2, v3, ly11, -⟩ := ly19
  refine R_iinc (pc := 70) dX11_passByKeyColumns_70 rfl (show nI 2 + Int32.ofInt (-1) = nI 1 from rfl) rfl ?_
  refine R_goto (pc := 73) (t := 4) dX11_passByKeyColumns_73 (by decide) ?_
  refine R_iload_n (pc := 4) dX11_passByKeyColumns_4 rfl ?_
  refine R_if_lt (pc := 5) (t := 76) dX11_passByKeyColumns_5 (by decide) (fun hz9 => absurd hz9 (by decide)) (fun _ => ?_)
  refine R_aload_n (pc := 8) dX11_passByKeyColumns_8 rfl ?_
  refine R_getf (pc := 9) dX11_passByKeyColumns_9 rfl (by repeat (first | assumption | exact up_s | refine up_n (by omega) ?_)) rfl ?_
  refine R_getf (pc := 12) dX11_passByKeyColumns_12 rfl (by repeat (first | assumption | exact up_s | refine up_n (by omega) ?_)) rfl ?_
  refine R_iload_n (pc := 15) dX11_passByKeyColumns_15 rfl ?_
  refine R_callV (pc := 16) dX11_passByKeyColumns_16 rfl ly11 rfl rfl ?_
  refine c3_widthOf ly1 (by omega) ?_
  refine R_iconst (pc := 19) (x := nI 1) dX11_passByKeyColumns_19 rfl ?_
  refine R_isub (pc := 20) dX11_passByKeyColumns_20 ?_
  refine R_istore (pc := 21) dX11_passByKeyColumns_21 (Nat.le_of_ble_eq_true rfl) rfl ?_
  refine lc11_mkf (g := h) hx rfl sa sr hD (f := 1) (by omega) hs (Wd 1) _ _ _ _ (0 + Wd 2) _ (sr.1 1 (by omega)).2.2 (by have := (sr.2.1 0 (by omega)).2; have := (sr.2.1 1 (by omega)).2; have := (sr.2.1 2 (by omega)).2; omega) d1 d2 d3 d5 d4 (fun h1 G1 t2 t3 d1 d2 d3 d5 d4 => ?_)
  have hx1 := (d4 x (by omega)).trans hx
  have sa11 := (d4 (x + 1) (by omega)).trans sa1
  have ly1 := sa.2.1.fr (h' := h1) (fun y y1 y2 => d4 y (by omega))
  have ly19 := ly1
  obtain ⟨v2, v3, ly11, -⟩ := ly19
  refine R_iinc (pc := 70) dX11_passByKeyColumns_70 rfl (show nI 1 + Int32.ofInt (-1) = nI 0 from rfl) rfl ?_
  refine R_goto (pc := 73) (t := 4) dX11_passByKeyColumns_73 (by decide) ?_
  refine R_iload_n (pc := 4) dX11_passByKeyColumns_4 rfl ?_
  refine R_if_lt (pc := 5) (t := 76) dX11_passByKeyColumns_5 (by decide) (fun hz9 => absurd hz9 (by decide)) (fun _ => ?_)
  refine R_aload_n (pc := 8) dX11_passByKeyColumns_8 rfl ?_
  refine R_getf (pc := 9) dX11_passByKeyColumns_9 rfl (by repeat (first | assumption | exact up_s | refine up_n (by omega) ?_)) rfl ?_
  refine R_getf (pc := 12) dX11_passByKeyColumns_12 rfl (by repeat (first | assumption | exact up_s | refine up_n (by omega) ?_)) rfl ?_
  refine R_iload_n (pc := 15) dX11_passByKeyColumns_15 rfl ?_
  refine R_callV (pc := 16) dX11_passByKeyColumns_16 rfl ly11 rfl rfl ?_
  refine c3_widthOf ly1 (by omega) ?_
  refine R_iconst (pc := 19) (x := nI 1) dX11_passByKeyColumns_19 rfl ?_
  refine R_isub (pc := 20) dX11_passByKeyColumns_20 ?_
  refine R_istore (pc := 21) dX11_passByKeyColumns_21 (Nat.le_of_ble_eq_true rfl) rfl ?_
  refine lc11_mkf (g := h) hx rfl sa sr hD (f := 0) (by omega) hs (Wd 0) _ _ _ _ (0 + Wd 2 + Wd 1) _ (sr.1 0 (by omega)).2.2 (by have := (sr.2.1 0 (by omega)).2; have := (sr.2.1 1 (by omega)).2; have := (sr.2.1 2 (by omega)).2; omega) d1 d2 d3 d5 d4 (fun h1 G1 t2 t3 d1 d2 d3 d5 d4 => ?_)
  have hx1 := (d4 x (by omega)).trans hx
  have sa11 := (d4 (x + 1) (by omega)).trans sa1
  have ly1 := sa.2.1.fr (h' := h1) (fun y y1 y2 => d4 y (by omega))
  have ly19 := ly1
  obtain ⟨v2, v3, ly11, -⟩ := ly19
  refine R_iinc (pc := 70) dX11_passByKeyColumns_70 rfl (show nI 0 + Int32.ofInt (-1) = (-1) from rfl) rfl ?_
  refine R_goto (pc := 73) (t := 4) dX11_passByKeyColumns_73 (by decide) ?_
  refine R_iload_n (pc := 4) dX11_passByKeyColumns_4 rfl ?_
  refine R_if_lt (pc := 5) (t := 76) dX11_passByKeyColumns_5 (by decide) (fun _ => ?_) (fun hz9 => absurd (by decide) hz9)
  refine R_vret (pc := 76) dX11_passByKeyColumns_76 rfl ?_
  exact hQ h1 _ _ _ d1 d2 d3 d5 d4
def wS (Wd : Nat → Nat) : Nat → Nat
  | 0 => 0
  | k + 1 => wS Wd k + Wd k
theorem lc11_w {x : Nat} {U : Nat → Int32} {P Wd : Nat → Nat} {n : Nat} {pe : Nat → Nat} {K : Nat → CdX} {R : RpX} {se co : Nat → Int32} {f4 : Nat → Option Nat} {g : Nat → Option am_C} {fx : List Value} (hx : g x = some (.inr (11, fx))) (hfx : fx = [.ref (x + 1), .ref (x + 94), .ref (x + 96), .ref (x + 97), .ref (x + 101), .ref (x + 106), .ref (x + 111), .ref (x + 155), .ref (x + 157)]) (sa : StAt g (x + 1) P Wd n pe K R se co) (sr : StR U P Wd n pe K R se co) (hD : DigW U n) : ∀ (m k : Nat) (h : Nat → Option am_C) (_ : k + m = 3) (_ : (∀ a, (a < x + 101 ∨ x + 106 ≤ a) → h a = g a)) (_ : Rn sA mX11_passes 29 [some (.ref x), some (.int (nI (wS Wd 3))), some (.int (nI 3))] [] (h, z) Q), Rn sA mX11_passes 4 [some (.ref x), some (.int (nI (wS Wd k))), some (.int (nI k))] [] (h, z) Q
  | 0, k, h, hk, hg, hX => by
    obtain rfl : k = 3 := by omega
    refine R_iload_n (pc := 4) dX11_passes_4 rfl ?_
    refine R_iconst (pc := 5) (x := nI 2) dX11_passes_5 rfl ?_
    refine R_icmp_gt (pc := 6) (t := 29) dX11_passes_6 (by decide) (fun _ => ?_) (fun hz9 => absurd (nI_lt (by omega) (by omega)) hz9)
    exact hX
  | m + 1, k, h, hk, hg, hX => by
    have hn := sr.2.2.1.2.1
    have hxh := (hg x (by omega)).trans hx
    rw [hfx] at hxh
    have sa1h := (hg (x + 1) (by omega)).trans sa.1
    have dkh := sa.2.2.1.fr (h' := h) (fun y y1 y2 => hg y (by omega))
    have lyh := sa.2.1.fr (h' := h) (fun y y1 y2 => hg y (by omega))
    have ly9 := lyh
    obtain ⟨v2, v3, lyh1, -⟩ := ly9
    refine R_iload_n (pc := 4) dX11_passes_4 rfl ?_
    refine R_iconst (pc := 5) (x := nI 2) dX11_passes_5 rfl ?_
    refine R_icmp_gt (pc := 6) (t := 29) dX11_passes_6 (by decide) (fun hz9 => absurd hz9 (nI_nlt (by omega) (by omega))) (fun _ => ?_)
    refine R_iload_n (pc := 9) dX11_passes_9 rfl ?_
    refine R_aload_n (pc := 10) dX11_passes_10 rfl ?_
    refine R_getf (pc := 11) dX11_passes_11 rfl (by repeat (first | assumption | exact up_s | refine up_n (by omega) ?_)) rfl ?_
    refine R_getf (pc := 14) dX11_passes_14 rfl (by repeat (first | assumption | exact up_s | refine up_n (by omega) ?_)) rfl ?_
    refine R_iload_n (pc := 17) dX11_passes_17 rfl ?_
    refine R_callV (pc := 18) dX11_passes_18 rfl lyh1 rfl rfl ?_
    refine c3_widthOf lyh (by omega) ?_
    refine R_iadd (pc := 21) dX11_passes_21 ?_
    rw [nI_add]
    refine R_istore_n (pc := 22) dX11_passes_22 (Nat.le_of_ble_eq_true rfl) rfl ?_
    refine R_iinc (pc := 23) dX11_passes_23 rfl (by first | exact nI_inc _ | rfl) rfl ?_
    refine R_goto (pc := 26) (t := 4) dX11_passes_26 (by decide) ?_
    exact lc11_w (f4 := f4) hx hfx sa sr hD m (k + 1) h (by omega) hg hX
theorem lc11_ps {x : Nat} {U : Nat → Int32} {P Wd : Nat → Nat} {n : Nat} {pe : Nat → Nat} {K : Nat → CdX} {R : RpX} {se co : Nat → Int32} {g : Nat → Option am_C} {fx : List Value} {al : Nat} (hx : g x = some (.inr (11, fx))) (hfx : fx = [.ref (x + 1), .ref (x + 94), .ref (x + 96), .ref (x + 97), .ref (x + 101), .ref (x + 106), .ref (x + 111), .ref (x + 155), .ref (x + 157)]) (sa : StAt g (x + 1) P Wd n pe K R se co) (sr : StR U P Wd n pe K R se co) (hD : DigW U n) (h8 : al ≤ 12) : ∀ (m d : Nat) (h : Nat → Option am_C) (_ : d + m = al) (_ : ∃ m0 G0 g20 g30 f40, SoX h (x + 101) m0 G0 g20 g30 f40) (_ : (∀ a, (a < x + 101 ∨ x + 106 ≤ a) → h a = g a)) (_ : ∀ (h2 : Nat → Option am_C) (G2 g2 g3 : Nat → Int32) (f4 : Nat → Option Nat), SoX h2 (x + 101) n G2 g2 g3 f4 → (∀ a, (a < x + 101 ∨ x + 106 ≤ a) → h2 a = g a) → Q (some (.int (paR U n P Wd m d))) (h2, z)), Rn sA mX11_passes 31 [some (.ref x), some (.int (nI al)), some (.int (nI d))] [] (h, z) Q
  | 0, d, h, hk, so, hg, hQ => by
    have hn := sr.2.2.1.2.1
    have hxh := (hg x (by omega)).trans hx
    rw [hfx] at hxh
    have sa1h := (hg (x + 1) (by omega)).trans sa.1
    have dkh := sa.2.2.1.fr (h' := h) (fun y y1 y2 => hg y (by omega))
    have lyh := sa.2.1.fr (h' := h) (fun y y1 y2 => hg y (by omega))
    have ly9 := lyh
    obtain ⟨v2, v3, lyh1, -⟩ := ly9
    have hal : al ≤ 100 := by omega
    obtain ⟨m0, G0, g20, g30, f40, so⟩ := so
    have so1 := so.1
    refine R_iload_n (pc := 31) dX11_passes_31 rfl ?_
    refine R_iload_n (pc := 32) dX11_passes_32 rfl ?_
    refine R_icmp_gt (pc := 33) (t := 89) dX11_passes_33 (by decide) (fun hz9 => absurd hz9 (nI_nlt (by omega) (by omega))) (fun _ => ?_)
    refine R_aload_n (pc := 36) dX11_passes_36 rfl ?_
    refine R_getf (pc := 37) dX11_passes_37 rfl (by repeat (first | assumption | exact up_s | refine up_n (by omega) ?_)) rfl ?_
    refine R_aload_n (pc := 40) dX11_passes_40 rfl ?_
    refine R_getf (pc := 41) dX11_passes_41 rfl (by repeat (first | assumption | exact up_s | refine up_n (by omega) ?_)) rfl ?_
    refine R_getf (pc := 44) dX11_passes_44 rfl (by repeat (first | assumption | exact up_s | refine up_n (by omega) ?_)) rfl ?_
    refine R_callV (pc := 47) dX11_passes_47 rfl so1 rfl rfl ?_
    refine c7_begin so dkh hn (by omega) (fun h3 G3 b1 b2 b3 => ?_)
    have hgb : (∀ a, (a < x + 101 ∨ x + 106 ≤ a) → h3 a = g a) := fun y hy => (b3 y hy).trans (hg y hy)
    have hx3 := (hgb x (by omega)).trans hx
    rw [hfx] at hx3
    have sa3 := sa.fr (h' := h3) (fun y y1 y2 => hgb y (by omega))
    refine R_aload_n (pc := 50) dX11_passes_50 rfl ?_
    refine R_iload_n (pc := 51) dX11_passes_51 rfl ?_
    refine R_iload_n (pc := 52) dX11_passes_52 rfl ?_
    refine R_isub (pc := 53) dX11_passes_53 ?_
    rw [pk_sub (show d ≤ al by omega), show al - d = 0 by omega]
    refine R_callV (pc := 54) dX11_passes_54 rfl hx3 rfl rfl ?_
    refine c11_byKey hx3 sa3 sr hD b1 b2 (sk := 0) (by omega) (fun h4 G4 t2 t3 e1 e2 e3 e4 e5 => ?_)
    have hgc : (∀ a, (a < x + 101 ∨ x + 106 ≤ a) → h4 a = g a) := fun y hy => (e5 y hy).trans (hgb y hy)
    have hx4 := (hgc x (by omega)).trans hx
    rw [hfx] at hx4
    have sa4 := sa.fr (h' := h4) (fun y y1 y2 => hgc y (by omega))
    have sa41 := sa4.1
    have e11 := e1.1
    refine R_aload_n (pc := 57) dX11_passes_57 rfl ?_
    refine R_getf (pc := 58) dX11_passes_58 rfl (by repeat (first | assumption | exact up_s | refine up_n (by omega) ?_)) rfl ?_
    refine R_aload_n (pc := 61) dX11_passes_61 rfl ?_
    refine R_getf (pc := 62) dX11_passes_62 rfl (by repeat (first | assumption | exact up_s | refine up_n (by omega) ?_)) rfl ?_
    refine R_getf (pc := 65) dX11_passes_65 rfl (by repeat (first | assumption | exact up_s | refine up_n (by omega) ?_)) rfl ?_
    refine R_aload_n (pc := 68) dX11_passes_68 rfl ?_
    refine R_getf (pc := 69) dX11_passes_69 rfl (by repeat (first | assumption | exact up_s | refine up_n (by omega) ?_)) rfl ?_
    refine R_getf (pc := 72) dX11_passes_72 rfl (by repeat (first | assumption | exact up_s | refine up_n (by omega) ?_)) rfl ?_
    refine R_callV (pc := 75) dX11_passes_75 rfl e11 rfl rfl ?_
    refine c7_isInKeyOrder e1 sa4.2.2.1 sr.2.2.1 hD sr.2.1 e3 e2 sa4.2.1 (fun f hf => (sr.1 f hf).2.2) ?_
    refine R_if_eq (pc := 78) (t := 83) dX11_passes_78 (by decide) (fun h78 => ?_) (fun h78 => ?_)
    · refine R_iinc (pc := 83) dX11_passes_83 rfl (by first | exact nI_inc _ | rfl) rfl ?_
      refine R_goto (pc := 86) (t := 31) dX11_passes_86 (by decide) ?_
      have q9 := hQ h4 G4 _ _ _ e1 hgc
      unfold paR at q9
      rw [if_neg (show ¬ ordG P Wd (fun k j => U (20 + 26 * mkO U n P Wd 0 k + j)) n 0 (-1) = nI 1 by rw [h78]; decide)] at q9
      refine R_iload_n (pc := 31) dX11_passes_31 rfl ?_
      refine R_iload_n (pc := 32) dX11_passes_32 rfl ?_
      refine R_icmp_gt (pc := 33) (t := 89) dX11_passes_33 (by decide) (fun _ => ?_) (fun hz9 => absurd (nI_lt (by omega) (by omega)) hz9)
      refine R_ldc (pc := 89) (x := (-1000009)) dX11_passes_89 rfl ?_
      refine R_iret (pc := 91) dX11_passes_91 rfl ?_
      exact q9
    · refine R_iload_n (pc := 81) dX11_passes_81 rfl ?_
      refine R_iret (pc := 82) dX11_passes_82 rfl ?_
      have o1 : ordG P Wd (fun k j => U (20 + 26 * mkO U n P Wd 0 k + j)) n 0 (-1) = nI 1 := (ordG_01 _ _ _).elim (fun q => absurd q h78) id
      have q9 := hQ h4 G4 _ _ _ e1 hgc
      unfold paR at q9
      rw [if_pos o1] at q9
      exact q9
  | m + 1, d, h, hk, so, hg, hQ => by
    have hn := sr.2.2.1.2.1
    have hxh := (hg x (by omega)).trans hx
    rw [hfx] at hxh
    have sa1h := (hg (x + 1) (by omega)).trans sa.1
    have dkh := sa.2.2.1.fr (h' := h) (fun y y1 y2 => hg y (by omega))
    have lyh := sa.2.1.fr (h' := h) (fun y y1 y2 => hg y (by omega))
    have ly9 := lyh
    obtain ⟨v2, v3, lyh1, -⟩ := ly9
    have hal : al ≤ 100 := by omega
    obtain ⟨m0, G0, g20, g30, f40, so⟩ := so
    have so1 := so.1
    refine R_iload_n (pc := 31) dX11_passes_31 rfl ?_
    refine R_iload_n (pc := 32) dX11_passes_32 rfl ?_
    refine R_icmp_gt (pc := 33) (t := 89) dX11_passes_33 (by decide) (fun hz9 => absurd hz9 (nI_nlt (by omega) (by omega))) (fun _ => ?_)
    refine R_aload_n (pc := 36) dX11_passes_36 rfl ?_
    refine R_getf (pc := 37) dX11_passes_37 rfl (by repeat (first | assumption | exact up_s | refine up_n (by omega) ?_)) rfl ?_
    refine R_aload_n (pc := 40) dX11_passes_40 rfl ?_
    refine R_getf (pc := 41) dX11_passes_41 rfl (by repeat (first | assumption | exact up_s | refine up_n (by omega) ?_)) rfl ?_
    refine R_getf (pc := 44) dX11_passes_44 rfl (by repeat (first | assumption | exact up_s | refine up_n (by omega) ?_)) rfl ?_
    refine R_callV (pc := 47) dX11_passes_47 rfl so1 rfl rfl ?_
    refine c7_begin so dkh hn (by omega) (fun h3 G3 b1 b2 b3 => ?_)
    have hgb : (∀ a, (a < x + 101 ∨ x + 106 ≤ a) → h3 a = g a) := fun y hy => (b3 y hy).trans (hg y hy)
    have hx3 := (hgb x (by omega)).trans hx
    rw [hfx] at hx3
    have sa3 := sa.fr (h' := h3) (fun y y1 y2 => hgb y (by omega))
    refine R_aload_n (pc := 50) dX11_passes_50 rfl ?_
    refine R_iload_n (pc := 51) dX11_passes_51 rfl ?_
    refine R_iload_n (pc := 52) dX11_passes_52 rfl ?_
    refine R_isub (pc := 53) dX11_passes_53 ?_
    rw [pk_sub (show d ≤ al by omega), show al - d = (m + 1) by omega]
    refine R_callV (pc := 54) dX11_passes_54 rfl hx3 rfl rfl ?_
    refine c11_byKey hx3 sa3 sr hD b1 b2 (sk := (m + 1)) (by omega) (fun h4 G4 t2 t3 e1 e2 e3 e4 e5 => ?_)
    have hgc : (∀ a, (a < x + 101 ∨ x + 106 ≤ a) → h4 a = g a) := fun y hy => (e5 y hy).trans (hgb y hy)
    have hx4 := (hgc x (by omega)).trans hx
    rw [hfx] at hx4
    have sa4 := sa.fr (h' := h4) (fun y y1 y2 => hgc y (by omega))
    have sa41 := sa4.1
    have e11 := e1.1
    refine R_aload_n (pc := 57) dX11_passes_57 rfl ?_
    refine R_getf (pc := 58) dX11_passes_58 rfl (by repeat (first | assumption | exact up_s | refine up_n (by omega) ?_)) rfl ?_
    refine R_aload_n (pc := 61) dX11_passes_61 rfl ?_
    refine R_getf (pc := 62) dX11_passes_62 rfl (by repeat (first | assumption | exact up_s | refine up_n (by omega) ?_)) rfl ?_
    refine R_getf (pc := 65) dX11_passes_65 rfl (by repeat (first | assumption | exact up_s | refine up_n (by omega) ?_)) rfl ?_
    refine R_aload_n (pc := 68) dX11_passes_68 rfl ?_
    refine R_getf (pc := 69) dX11_passes_69 rfl (by repeat (first | assumption | exact up_s | refine up_n (by omega) ?_)) rfl ?_
    refine R_getf (pc := 72) dX11_passes_72 rfl (by repeat (first | assumption | exact up_s | refine up_n (by omega) ?_)) rfl ?_
    refine R_callV (pc := 75) dX11_passes_75 rfl e11 rfl rfl ?_
    refine c7_isInKeyOrder e1 sa4.2.2.1 sr.2.2.1 hD sr.2.1 e3 e2 sa4.2.1 (fun f hf => (sr.1 f hf).2.2) ?_
    refine R_if_eq (pc := 78) (t := 83) dX11_passes_78 (by decide) (fun h78 => ?_) (fun h78 => ?_)
    · refine R_iinc (pc := 83) dX11_passes_83 rfl (by first | exact nI_inc _ | rfl) rfl ?_
      refine R_goto (pc := 86) (t := 31) dX11_passes_86 (by decide) ?_
      refine lc11_ps hx hfx sa sr hD h8 m (d + 1) h4 (by omega) ⟨_, _, _, _, _, e1⟩ hgc (fun h2 G2 g2 g3 f4 u1 u2 => ?_)
      have q9 := hQ h2 G2 g2 g3 f4 u1 u2
      unfold paR at q9
      rw [if_neg (show ¬ ordG P Wd (fun k j => U (20 + 26 * mkO U n P Wd (m + 1) k + j)) n 0 (-1) = nI 1 by rw [h78]; decide)] at q9
      exact q9
    · refine R_iload_n (pc := 81) dX11_passes_81 rfl ?_
      refine R_iret (pc := 82) dX11_passes_82 rfl ?_
      have o1 : ordG P Wd (fun k j => U (20 + 26 * mkO U n P Wd (m + 1) k + j)) n 0 (-1) = nI 1 := (ordG_01 _ _ _).elim (fun q => absurd q h78) id
      have q9 := hQ h4 G4 _ _ _ e1 hgc
      unfold paR at q9
      rw [if_pos o1] at q9
      exact q9
theorem c11_passes {x : Nat} {U : Nat → Int32} {P Wd : Nat → Nat} {n : Nat} {pe : Nat → Nat} {K : Nat → CdX} {R : RpX} {se co : Nat → Int32} (hx : h x = some (.inr (11, [.ref (x + 1), .ref (x + 94), .ref (x + 96), .ref (x + 97), .ref (x + 101), .ref (x + 106), .ref (x + 111), .ref (x + 155), .ref (x + 157)]))) (sa : StAt h (x + 1) P Wd n pe K R se co) (sr : StR U P Wd n pe K R se co) (hD : DigW U n) (so : ∃ m0 G0 g20 g30 f40, SoX h (x + 101) m0 G0 g20 g30 f40) (hQ : ∀ (h2 : Nat → Option am_C) (G2 g2 g3 : Nat → Int32) (f4 : Nat → Option Nat), SoX h2 (x + 101) n G2 g2 g3 f4 → (∀ a, (a < x + 101 ∨ x + 106 ≤ a) → h2 a = h a) → Q (some (.int (paR U n P Wd (Wd 0 + Wd 1 + Wd 2) 0))) (h2, z)) : Rn sA mX11_passes 0 [some (.ref x), none, none] [] (h, z) Q := by
  refine R_iconst (pc := 0) (x := nI 0) dX11_passes_0 rfl ?_
  refine R_istore_n (pc := 1) dX11_passes_1 (Nat.le_of_ble_eq_true rfl) rfl ?_
  refine R_iconst (pc := 2) (x := nI 0) dX11_passes_2 rfl ?_
  refine R_istore_n (pc := 3) dX11_passes_3 (Nat.le_of_ble_eq_true rfl) rfl ?_
  refine lc11_w (f4 := fun _ => none) (g := h) hx rfl sa sr hD 3 0 h (by omega) (fun _ _ => rfl) ?_
  have ew : wS Wd 3 = Wd 0 + Wd 1 + Wd 2 := by show 0 + Wd 0 + Wd 1 + Wd 2 = _; omega
  rw [ew]
  refine R_iconst (pc := 29) (x := nI 0) dX11_passes_29 rfl ?_
  refine R_istore_n (pc := 30) dX11_passes_30 (Nat.le_of_ble_eq_true rfl) rfl ?_
  exact lc11_ps (g := h) hx rfl sa sr hD (by have := (sr.2.1 0 (by omega)).2; have := (sr.2.1 1 (by omega)).2; have := (sr.2.1 2 (by omega)).2; omega) (Wd 0 + Wd 1 + Wd 2) 0 h (by omega) so (fun _ _ => rfl) hQ
end CE6
