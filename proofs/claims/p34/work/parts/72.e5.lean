section CE5
variable {sA : Nat} {h : Nat → Option am_C} {z : Nat × Nat} {Q : Option Value → am_H → Prop}
theorem ScrI.so {h h' : Nat → Option am_C} {x n : Nat} {G g2 g3 : Nat → Int32} {f4 : Nat → Option Nat} (a : ScrI h x) (s : SoX h' (x + 101) n G g2 g3 f4) (e : ∀ y, x + 106 ≤ y → y < x + 158 → h' y = h y) : ScrI h' x := by
  obtain ⟨-, ⟨T, a2⟩, ⟨c, qe, f, V, Z, a3, a4⟩, ⟨C, a5⟩, ⟨T2, a6⟩⟩ := a
  exact ⟨⟨n, G, g2, g3, f4, s⟩, ⟨T, a2.fr (fun y y1 y2 => e y (by omega) (by omega))⟩, ⟨c, qe, f, V, Z, a3.fr (fun y y1 y2 => e y (by omega) (by omega)), a4⟩, ⟨C, a5.fr (fun y y1 y2 => e y (by omega) (by omega))⟩, ⟨T2, a6.fr (e _ (by omega) (by omega))⟩⟩
theorem InjP.ord {pe o : Nat → Nat} {n : Nat} (a : InjP pe) (hn : n ≤ 40) (ho : ∀ i, i < n → o i < n) (hi : ∀ i j, i < n → j < n → o i = o j → i = j) : InjP (fun i => if i < n then pe (o i) else pe i) := by
  intro i j h1 h2 e
  dsimp only at e
  by_cases q1 : i < n
  · rw [if_pos q1] at e
    have := ho i q1
    by_cases q2 : j < n
    · rw [if_pos q2] at e
      have := ho j q2
      exact hi i j q1 q2 (a _ _ (by omega) (by omega) e)
    · rw [if_neg q2] at e
      have := a _ _ (by omega) h2 e
      omega
  · rw [if_neg q1] at e
    by_cases q2 : j < n
    · rw [if_pos q2] at e
      have := ho j q2
      have := a _ _ h1 (by omega) e
      omega
    · rw [if_neg q2] at e
      exact a _ _ h1 h2 e
theorem OutI.ord {h h2 h3 : Nat → Option am_C} {z3 : Nat × Nat} {x B Y : Nat} {V PA : Nat → Int32} {pm : Nat} {IM : Nat → Int32} {fl : Nat} {T : Nat → Int32} {l : Nat} {fk fp : Int32} {U : Nat → Int32} {P Wd : Nat → Nat} {n : Nat} {pe o : Nat → Nat} {K : Nat → CdX} {R : RpX} {se co : Nat → Int32} {G g2 g3 : Nat → Int32} {f4 : Nat → Option Nat} (r : RstI h2 z3 x B Y PA pm IM fl T l fk fp) (sc : ScrI h2 x) (f2 : ∀ a, ¬ a = x + 94 → ¬ a = x + 95 → a < B → h2 a = h a) (sa : StAt h2 (x + 1) P Wd n pe K R se co) (sr : StR U P Wd n pe K R se co) (k1 : SoX h3 (x + 101) n G g2 g3 f4) (k2 : DkAt h3 (x + 1 + 4) n (fun i => if i < n then pe (o i) else pe i) K) (e : ∀ a, (a < x + 101 ∨ x + 106 ≤ a) → ¬ a = x + 1 + 4 + 1 → h3 a = h2 a) (ho : ∀ i, i < n → o i < n) (hi : ∀ i j, i < n → j < n → o i = o j → i = j) (v : DkO U n o V) : OutI h h3 z3 x B Y V PA pm IM fl T l fk fp :=
  have hB := r.1
  have hn := sr.2.2.1.2.1
  ⟨⟨P, Wd, n, _, K, R, se, co, ⟨(e _ (by omega) (by omega)).trans sa.1, sa.2.1.fr (fun y y1 y2 => e y (by omega) (by omega)), k2, sa.2.2.2.1.fr (fun y y1 y2 => e y (by omega) (by omega)), (e _ (by omega) (by omega)).trans sa.2.2.2.2.1, (e _ (by omega) (by omega)).trans sa.2.2.2.2.2⟩, sr.dk (fun j hj => v.2 j (by omega)) (sr.2.2.1.mv (o := o) ((v.2 19 (by omega)).trans sr.2.2.1.1) (Nat.le_refl n) ho (fun i hi2 => if_pos hi2) (sr.2.2.1.2.2.1.ord hn ho hi) v.1)⟩, r.fr (fun y hy => e y (by omega) (by omega)), sc.so k1 (fun y y1 y2 => e y (by omega) (by omega)), fun y hy => (e y (by omega) (by omega)).trans (f2 y (by omega) (by omega) (by omega))⟩
theorem c11_pass {x B Y pm fl l : Nat} {PA IM T U : Nat → Int32} {fk fp : Int32} {P Wd : Nat → Nat} {n : Nat} {pe : Nat → Nat} {K : Nat → CdX} {R : RpX} {se co : Nat → Int32} {a : Int32} (r : RstI h z x B Y PA pm IM fl T l fk fp) (sa : StAt h (x + 1) P Wd n pe K R se co) (sr : StR U P Wd n pe K R se co) (sc : ScrI h x) (hD : DigW U n) (hB : (∀ c, c < 24 → ¬ a = nI c) → Q (some (.int (-1000001))) (h, z)) (hG : ∀ c, c < 24 → a = nI c → ∀ (h3 : Nat → Option am_C) (z3 : Nat × Nat), (∀ a, (a < x ∨ (x + 158 ≤ a ∧ a < B)) → h3 a = h a) → (∀ V : Nat → Int32, DkO U n (nxtO U n c id) V → OutI h h3 z3 x B Y V (remP U PA pm) (remN pm) IM fl T l fk fp) → Q (some (.int (mvO (nxtO U n c id) n 0 (nI 0)))) (h3, z3)) : Rn sA mX11_pass 0 [some (.ref x), some (.int a)] [] (h, z) Q := by
  have hx := r.2.1
  have st : StW h (x + 1) U := ⟨P, Wd, n, pe, K, R, se, co, sa, sr⟩
  have sa1 := sa.1
  have hn := sr.2.2.1.2.1
  have h94 : ∃ fs, h (x + 94) = some (.inr (2, fs)) := by obtain ⟨_, _, ⟨_, _, q, _⟩, _⟩ := r; exact ⟨_, q.1⟩
  obtain ⟨fs94, h94⟩ := h94
  refine R_iload_n (pc := 0) dX11_pass_0 rfl ?_
  refine R_callS (pc := 1) dX11_pass_1 rfl (Or.inl rfl) rfl rfl ?_
  refine c_isColumn (fun c hc e => ?_) (fun e => ?_)
  · subst e
    refine R_if_ne (pc := 4) (t := 10) dX11_pass_4 (by decide) (fun _ => ?_) (fun hz9 => absurd hz9 (by decide))
    refine R_aload_n (pc := 10) dX11_pass_10 rfl ?_
    refine R_getf (pc := 11) dX11_pass_11 rfl (by repeat (first | assumption | exact up_s | refine up_n (by omega) ?_)) rfl ?_
    refine R_aload_n (pc := 14) dX11_pass_14 rfl ?_
    refine R_getf (pc := 15) dX11_pass_15 rfl (by repeat (first | assumption | exact up_s | refine up_n (by omega) ?_)) rfl ?_
    refine R_callV (pc := 18) dX11_pass_18 rfl h94 rfl rfl ?_
    refine c2_record r st (fun h2 z2 r2 fr2 => ?_)
    have hB := r.1
    have hx2 := r2.2.1
    have sa2 : StAt h2 (x + 1) P Wd n pe K R se co := sa.fr (fun y y1 y2 => fr2 y (by omega) (by omega) (by omega))
    have sc2 : ScrI h2 x := sc.fr (fun y y1 y2 => fr2 y (by omega) (by omega) (by omega))
    have sa21 := sa2.1
    obtain ⟨m0, G0, g20, g30, f40, so2⟩ := sc2.1
    refine R_aload_n (pc := 21) dX11_pass_21 rfl ?_
    refine R_getf (pc := 22) dX11_pass_22 rfl (by repeat (first | assumption | exact up_s | refine up_n (by omega) ?_)) rfl ?_
    refine R_aload_n (pc := 25) dX11_pass_25 rfl ?_
    refine R_getf (pc := 26) dX11_pass_26 rfl (by repeat (first | assumption | exact up_s | refine up_n (by omega) ?_)) rfl ?_
    refine R_getf (pc := 29) dX11_pass_29 rfl (by repeat (first | assumption | exact up_s | refine up_n (by omega) ?_)) rfl ?_
    refine R_callV (pc := 32) dX11_pass_32 rfl so2.1 rfl rfl ?_
    refine c7_begin so2 sa2.2.2.1 hn (by omega) (fun h3 G3 b1 b2 b3 => ?_)
    have hx3 := (b3 x (by omega)).trans hx2
    have sa31 := (b3 (x + 1) (by omega)).trans sa21
    have dk3 := sa2.2.2.1.fr (h' := h3) (fun y y1 y2 => b3 y (by omega))
    have dk31 := dk3.1
    have b11 := b1.1
    refine R_aload_n (pc := 35) dX11_pass_35 rfl ?_
    refine R_getf (pc := 36) dX11_pass_36 rfl (by repeat (first | assumption | exact up_s | refine up_n (by omega) ?_)) rfl ?_
    refine R_aload_n (pc := 39) dX11_pass_39 rfl ?_
    refine R_getf (pc := 40) dX11_pass_40 rfl (by repeat (first | assumption | exact up_s | refine up_n (by omega) ?_)) rfl ?_
    refine R_getf (pc := 43) dX11_pass_43 rfl (by repeat (first | assumption | exact up_s | refine up_n (by omega) ?_)) rfl ?_
    refine R_iload_n (pc := 46) dX11_pass_46 rfl ?_
    refine R_callV (pc := 47) dX11_pass_47 rfl b11 rfl rfl ?_
    refine c7_passO dk3 sr.2.2.1 hD (by omega) hc (o := id) (fun i hi => hi) b2 b1 (fun h4 G4 t2 t3 d1 d2 d3 d4 => ?_)
    have hx4 := (d4 x (by omega)).trans hx3
    have sa41 := (d4 (x + 1) (by omega)).trans sa31
    have dk4 := dk3.fr (h' := h4) (fun y y1 y2 => d4 y (by omega))
    have dk41 := dk4.1
    have d11 := d1.1
    refine R_aload_n (pc := 50) dX11_pass_50 rfl ?_
    refine R_getf (pc := 51) dX11_pass_51 rfl (by repeat (first | assumption | exact up_s | refine up_n (by omega) ?_)) rfl ?_
    refine R_aload_n (pc := 54) dX11_pass_54 rfl ?_
    refine R_getf (pc := 55) dX11_pass_55 rfl (by repeat (first | assumption | exact up_s | refine up_n (by omega) ?_)) rfl ?_
    refine R_getf (pc := 58) dX11_pass_58 rfl (by repeat (first | assumption | exact up_s | refine up_n (by omega) ?_)) rfl ?_
    refine R_callV (pc := 61) dX11_pass_61 rfl d11 rfl rfl ?_
    refine c7_arrange d1 dk4 hn (by omega) d3 d2 (fun h5 f5 k1 k2 k3 => ?_)
    refine R_iret (pc := 64) dX11_pass_64 rfl ?_
    first
      | exact hB e
      | exact hG c hc rfl h5 z2 (OutI.frm r2 fr2 (fun y hy => by rw [k3 y (by omega) (by omega), d4 y (by omega), b3 y (by omega)])) (fun V v => OutI.ord r2 sc2 fr2 sa2 sr k1 k2 (fun y y1 y2 => by rw [k3 y (by omega) y2, d4 y (by omega), b3 y (by omega)]) d3 (nxtO_inj (fun i hi => (skF_sp hD hi hc).1) (fun i j _ _ q => q)) v)
  · refine R_if_ne (pc := 4) (t := 10) dX11_pass_4 (by decide) (fun hz9 => absurd hz9 (by decide)) (fun _ => ?_)
    refine R_ldc (pc := 7) (x := (-1000001)) dX11_pass_7 rfl ?_
    refine R_iret (pc := 9) dX11_pass_9 rfl ?_
    first
      | exact hB e
      | exact hG c hc rfl h5 z2 (OutI.frm r2 fr2 (fun y hy => by rw [k3 y (by omega) (by omega), d4 y (by omega), b3 y (by omega)])) (fun V v => OutI.ord r2 sc2 fr2 sa2 sr k1 k2 (fun y y1 y2 => by rw [k3 y (by omega) y2, d4 y (by omega), b3 y (by omega)]) d3 (nxtO_inj (fun i hi => (skF_sp hD hi hc).1) (fun i j _ _ q => q)) v)
theorem lc11_sort {x : Nat} {U : Nat → Int32} {P Wd : Nat → Nat} {n : Nat} {pe : Nat → Nat} {K : Nat → CdX} {R : RpX} {se co : Nat → Int32} {f4 : Nat → Option Nat} {g : Nat → Option am_C} {fx : List Value} {f : Nat} (hx : g x = some (.inr (11, fx))) (hfx : fx = [.ref (x + 1), .ref (x + 94), .ref (x + 96), .ref (x + 97), .ref (x + 101), .ref (x + 106), .ref (x + 111), .ref (x + 155), .ref (x + 157)]) (sa : StAt g (x + 1) P Wd n pe K R se co) (sr : StR U P Wd n pe K R se co) (hD : DigW U n) (hf : f < 6) : ∀ (k : Nat) (h : Nat → Option am_C) (G g2 g3 : Nat → Int32) (o : Nat → Nat) (_ : P f + k ≤ 24) (_ : SoX h (x + 101) n G g2 g3 f4) (_ : ∀ i, i < n → G i = nI (o i)) (_ : ∀ i, i < n → o i < n) (_ : ∀ i j, i < n → j < n → o i = o j → i = j) (_ : (∀ a, (a < x + 101 ∨ x + 106 ≤ a) → h a = g a)) (_ : (∀ (h2 : Nat → Option am_C) (G2 g2 g3 : Nat → Int32) (o2 : Option Value), SoX h2 (x + 101) n G2 g2 g3 f4 → (∀ i, i < n → G2 i = nI (srtO U n (P f) k o i)) → (∀ i, i < n → srtO U n (P f) k o i < n) → (∀ i j, i < n → j < n → srtO U n (P f) k o i = srtO U n (P f) k o j → i = j) → (∀ a, (a < x + 101 ∨ x + 106 ≤ a) → h2 a = g a) → Rn sA mX11_sort 86 [some (.ref x), some (.int (nI f)), o2] [] (h2, z) Q)), Rn sA mX11_sort 49 [some (.ref x), some (.int (nI f)), some (.int (nI k - nI 1))] [] (h, z) Q
  | 0, h, G, g2, g3, o, hk, so, hG, ho, hi, hg, hX => by
    refine R_iload_n (pc := 49) dX11_sort_49 rfl ?_
    refine R_if_lt (pc := 50) (t := 86) dX11_sort_50 (by decide) (fun _ => ?_) (fun hz9 => absurd (by decide) hz9)
    exact hX h G g2 g3 _ so hG ho hi hg
  | k + 1, h, G, g2, g3, o, hk, so, hG, ho, hi, hg, hX => by
    have hn := sr.2.2.1.2.1
    have hxh := (hg x (by omega)).trans hx
    rw [hfx] at hxh
    have sa1h := (hg (x + 1) (by omega)).trans sa.1
    have dkh := sa.2.2.1.fr (h' := h) (fun y y1 y2 => hg y (by omega))
    have lyh := sa.2.1.fr (h' := h) (fun y y1 y2 => hg y (by omega))
    have ly9 := lyh
    obtain ⟨v2, v3, lyh1, -⟩ := ly9
    have so1 := so.1
    rw [pk_sub (show 1 ≤ k + 1 by omega), Nat.add_sub_cancel]
    refine R_iload_n (pc := 49) dX11_sort_49 rfl ?_
    refine R_if_lt (pc := 50) (t := 86) dX11_sort_50 (by decide) (fun hz9 => absurd hz9 (nI_pos (by omega))) (fun _ => ?_)
    refine R_aload_n (pc := 53) dX11_sort_53 rfl ?_
    refine R_getf (pc := 54) dX11_sort_54 rfl (by repeat (first | assumption | exact up_s | refine up_n (by omega) ?_)) rfl ?_
    refine R_aload_n (pc := 57) dX11_sort_57 rfl ?_
    refine R_getf (pc := 58) dX11_sort_58 rfl (by repeat (first | assumption | exact up_s | refine up_n (by omega) ?_)) rfl ?_
    refine R_getf (pc := 61) dX11_sort_61 rfl (by repeat (first | assumption | exact up_s | refine up_n (by omega) ?_)) rfl ?_
    refine R_aload_n (pc := 64) dX11_sort_64 rfl ?_
    refine R_getf (pc := 65) dX11_sort_65 rfl (by repeat (first | assumption | exact up_s | refine up_n (by omega) ?_)) rfl ?_
    refine R_getf (pc := 68) dX11_sort_68 rfl (by repeat (first | assumption | exact up_s | refine up_n (by omega) ?_)) rfl ?_
    refine R_iload_n (pc := 71) dX11_sort_71 rfl ?_
    refine R_callV (pc := 72) dX11_sort_72 rfl lyh1 rfl rfl ?_
    refine c3_firstOf lyh hf ?_
    refine R_iload_n (pc := 75) dX11_sort_75 rfl ?_
    refine R_iadd (pc := 76) dX11_sort_76 ?_
    rw [nI_add]
    refine R_callV (pc := 77) dX11_sort_77 rfl so1 rfl rfl ?_
    refine c7_passO dkh sr.2.2.1 hD (by omega) (c := P f + k) (by omega) (o := o) ho hG so (fun h4 G4 t2 t3 d1 d2 d3 d4 => ?_)
    refine R_iinc (pc := 80) dX11_sort_80 rfl (show nI k + Int32.ofInt (-1) = nI k - nI 1 by rw [Int32.sub_eq_add_neg]; rfl) rfl ?_
    refine R_goto (pc := 83) (t := 49) dX11_sort_83 (by decide) ?_
    exact lc11_sort hx hfx sa sr hD hf k h4 G4 t2 t3 (nxtO U n (P f + k) o) (by omega) d1 d2 d3 (nxtO_inj (fun i hi => (skF_sp hD (ho i hi) (by omega)).1) hi) (fun y hy => (d4 y (by omega)).trans (hg y hy)) hX
theorem c11_sort {x B Y pm fl l : Nat} {PA IM T U : Nat → Int32} {fk fp : Int32} {P Wd : Nat → Nat} {n : Nat} {pe : Nat → Nat} {K : Nat → CdX} {R : RpX} {se co : Nat → Int32} {a : Int32} (r : RstI h z x B Y PA pm IM fl T l fk fp) (sa : StAt h (x + 1) P Wd n pe K R se co) (sr : StR U P Wd n pe K R se co) (sc : ScrI h x) (hD : DigW U n) (hB : (∀ c, c < 6 → ¬ a = nI c) → Q (some (.int (-1000001))) (h, z)) (hG : ∀ f, f < 6 → a = nI f → ∀ (h3 : Nat → Option am_C) (z3 : Nat × Nat), (∀ a, (a < x ∨ (x + 158 ≤ a ∧ a < B)) → h3 a = h a) → (∀ V : Nat → Int32, DkO U n (srtO U n (P f) (Wd f) id) V → OutI h h3 z3 x B Y V (remP U PA pm) (remN pm) IM fl T l fk fp) → Q (some (.int (mvO (srtO U n (P f) (Wd f) id) n 0 (nI 0)))) (h3, z3)) : Rn sA mX11_sort 0 [some (.ref x), some (.int a), none] [] (h, z) Q := by
  have hx := r.2.1
  have st : StW h (x + 1) U := ⟨P, Wd, n, pe, K, R, se, co, sa, sr⟩
  have sa1 := sa.1
  have hn := sr.2.2.1.2.1
  have h94 : ∃ fs, h (x + 94) = some (.inr (2, fs)) := by obtain ⟨_, _, ⟨_, _, q, _⟩, _⟩ := r; exact ⟨_, q.1⟩
  obtain ⟨fs94, h94⟩ := h94
  refine R_iload_n (pc := 0) dX11_sort_0 rfl ?_
  refine R_callS (pc := 1) dX11_sort_1 rfl (Or.inl rfl) rfl rfl ?_
  refine c_isField (fun f hf e => ?_) (fun e => ?_)
  · subst e
    refine R_if_ne (pc := 4) (t := 10) dX11_sort_4 (by decide) (fun _ => ?_) (fun hz9 => absurd hz9 (by decide))
    refine R_aload_n (pc := 10) dX11_sort_10 rfl ?_
    refine R_getf (pc := 11) dX11_sort_11 rfl (by repeat (first | assumption | exact up_s | refine up_n (by omega) ?_)) rfl ?_
    refine R_aload_n (pc := 14) dX11_sort_14 rfl ?_
    refine R_getf (pc := 15) dX11_sort_15 rfl (by repeat (first | assumption | exact up_s | refine up_n (by omega) ?_)) rfl ?_
    refine R_callV (pc := 18) dX11_sort_18 rfl h94 rfl rfl ?_
    refine c2_record r st (fun h2 z2 r2 fr2 => ?_)
    have hB := r.1
    have hx2 := r2.2.1
    have sa2 : StAt h2 (x + 1) P Wd n pe K R se co := sa.fr (fun y y1 y2 => fr2 y (by omega) (by omega) (by omega))
    have sc2 : ScrI h2 x := sc.fr (fun y y1 y2 => fr2 y (by omega) (by omega) (by omega))
    have sa21 := sa2.1
    obtain ⟨m0, G0, g20, g30, f40, so2⟩ := sc2.1
    refine R_aload_n (pc := 21) dX11_sort_21 rfl ?_
    refine R_getf (pc := 22) dX11_sort_22 rfl (by repeat (first | assumption | exact up_s | refine up_n (by omega) ?_)) rfl ?_
    refine R_aload_n (pc := 25) dX11_sort_25 rfl ?_
    refine R_getf (pc := 26) dX11_sort_26 rfl (by repeat (first | assumption | exact up_s | refine up_n (by omega) ?_)) rfl ?_
    refine R_getf (pc := 29) dX11_sort_29 rfl (by repeat (first | assumption | exact up_s | refine up_n (by omega) ?_)) rfl ?_
    refine R_callV (pc := 32) dX11_sort_32 rfl so2.1 rfl rfl ?_
    refine c7_begin so2 sa2.2.2.1 hn (by omega) (fun h3 G3 b1 b2 b3 => ?_)
    have hx3 := (b3 x (by omega)).trans hx2
    have sa31 := (b3 (x + 1) (by omega)).trans sa21
    have dk3 := sa2.2.2.1.fr (h' := h3) (fun y y1 y2 => b3 y (by omega))
    have dk31 := dk3.1
    have b11 := b1.1
    refine R_aload_n (pc := 35) dX11_sort_35 rfl ?_
    refine R_getf (pc := 36) dX11_sort_36 rfl (by repeat (first | assumption | exact up_s | refine up_n (by omega) ?_)) rfl ?_
    refine R_getf (pc := 39) dX11_sort_39 rfl (by repeat (first | assumption | exact up_s | refine up_n (by omega) ?_)) rfl ?_
    refine R_iload_n (pc := 42) dX11_sort_42 rfl ?_
    refine R_callV (pc := 43) dX11_sort_43 rfl ((b3 _ (by omega)).trans sa2.2.1.choose_spec.choose_spec.1) rfl rfl ?_
    have ly3 := sa2.2.1.fr (h' := h3) (fun y y1 y2 => b3 y (by omega))
    refine c3_widthOf ly3 hf ?_
    refine R_iconst (pc := 46) (x := nI 1) dX11_sort_46 rfl ?_
    refine R_isub (pc := 47) dX11_sort_47 ?_
    refine R_istore_n (pc := 48) dX11_sort_48 (Nat.le_of_ble_eq_true rfl) rfl ?_
    refine lc11_sort (g := h3) (pe := pe) (K := K) (R := R) (se := se) (co := co) hx3 rfl (sa2.fr (fun y y1 y2 => b3 y (by omega))) sr hD hf (Wd f) h3 G3 _ _ id (sr.1 f hf).2.2 b1 b2 (fun i hi => hi) (fun i j _ _ q => q) (fun _ _ => rfl) (fun h4 G4 t2 t3 o2 d1 d2 d3 d5 d4 => ?_)
    have hx4 := (d4 x (by omega)).trans hx3
    have sa41 := (d4 (x + 1) (by omega)).trans sa31
    have dk4 := dk3.fr (h' := h4) (fun y y1 y2 => d4 y (by omega))
    have dk41 := dk4.1
    have d11 := d1.1
    refine R_aload_n (pc := 86) dX11_sort_86 rfl ?_
    refine R_getf (pc := 87) dX11_sort_87 rfl (by repeat (first | assumption | exact up_s | refine up_n (by omega) ?_)) rfl ?_
    refine R_aload_n (pc := 90) dX11_sort_90 rfl ?_
    refine R_getf (pc := 91) dX11_sort_91 rfl (by repeat (first | assumption | exact up_s | refine up_n (by omega) ?_)) rfl ?_
    refine R_getf (pc := 94) dX11_sort_94 rfl (by repeat (first | assumption | exact up_s | refine up_n (by omega) ?_)) rfl ?_
    refine R_callV (pc := 97) dX11_sort_97 rfl d11 rfl rfl ?_
    refine c7_arrange d1 dk4 hn (by omega) d3 d2 (fun h5 f5 k1 k2 k3 => ?_)
    refine R_iret (pc := 100) dX11_sort_100 rfl ?_
    exact hG f hf rfl h5 z2 (OutI.frm r2 fr2 (fun y hy => by rw [k3 y (by omega) (by omega), d4 y (by omega), b3 y (by omega)])) (fun V v => OutI.ord r2 sc2 fr2 sa2 sr k1 k2 (fun y y1 y2 => by rw [k3 y (by omega) y2, d4 y (by omega), b3 y (by omega)]) d3 d5 v)
  · refine R_if_ne (pc := 4) (t := 10) dX11_sort_4 (by decide) (fun hz9 => absurd hz9 (by decide)) (fun _ => ?_)
    refine R_ldc (pc := 7) (x := (-1000001)) dX11_sort_7 rfl ?_
    refine R_iret (pc := 9) dX11_sort_9 rfl ?_
    exact hB e
end CE5
