section CE0
variable {sA : Nat} {h : Nat → Option am_C} {z : Nat × Nat} {Q : Option Value → am_H → Prop}
theorem lnN_congr {U U' : Nat → Int32} {i : Nat} (hi : i ≤ 161) (h : ∀ j, j < 2754 → U' j = U j) : lnN U' i = lnN U i := cnt_congr (fun l hl => by rw [h _ (by omega)])
theorem lnN_le {U : Nat → Int32} : ∀ i, lnN U i ≤ i
  | 0 => Nat.le_refl 0
  | i + 1 => by
    have e : lnN U (i + 1) = lnN U i + if (if U (1305 + 9 * i) = 0 then (0 : Nat) else 1) = 0 then 1 else 0 := rfl
    have := lnN_le (U := U) i
    rw [e]
    by_cases e0 : U (1305 + 9 * i) = 0 <;> simp [e0] <;> omega
theorem StW.cg {h : Nat → Option am_C} {s : Nat} {U U' : Nat → Int32} (a : StW h s U) (e : ∀ j, j < 2754 → U' j = U j) : StW h s U' := by
  obtain ⟨P, Wd, n, pe, K, R, se, co, a1, b1, b2, ⟨c1, c2, c3, c4⟩, ⟨d1, d2, d3, d4, d5, d6, d7, d8⟩, b5, b6⟩ := a
  refine ⟨P, Wd, n, pe, K, R, se, co, a1, fun f hf => ?_, b2, ⟨(e 19 (by omega)).trans c1, c2, c3, fun i hi => ?_⟩, ⟨(e 1304 (by omega)).trans d1, d2, (e 1062 (by omega)).trans d3, d4, (e 1061 (by omega)).trans d5, fun i hi j hj => ?_, fun i hi h0 => ?_, fun k hk => ?_⟩, fun f hf => ?_, fun k hk => ?_⟩
  · rw [e _ (by omega), e _ (by omega)]; exact b1 f hf
  · obtain ⟨q1, q2, q3⟩ := c4 i hi
    exact ⟨fun k hk => by rw [e _ (by omega)]; exact q1 k hk, by rw [e _ (by omega)]; exact q2, by rw [e _ (by omega)]; exact q3⟩
  · rw [e _ (by omega)]; exact d6 i hi j hj
  · rw [e _ (by omega)] at h0
    have := lnN_le (U := U) i
    rw [lnN_congr (by omega) e, e _ (by omega)]
    exact d7 i hi h0
  · rw [e _ (by omega)]; exact d8 k hk
  · rw [e _ (by omega)]; exact b5 f hf
  · rw [e _ (by omega)]; exact b6 k hk
def cF (F : Nat → Option Nat) : Nat → Nat
  | 0 => 0
  | n + 1 => cF F n + if F n = none then 0 else 1
theorem cF_eq {F F2 : Nat → Option Nat} : ∀ n, (∀ j, j < n → F2 j = F j) → cF F2 n = cF F n
  | 0, _ => rfl
  | n + 1, h => by
    unfold cF
    rw [cF_eq n (fun j hj => h j (by omega)), h n (by omega)]
theorem cF_up {F F2 : Nat → Option Nat} {i s : Nat} (h0 : F i = none) (h1 : F2 i = some s) (ho : ∀ j, ¬ j = i → F2 j = F j) : ∀ n, i < n → cF F2 n = cF F n + 1
  | 0, h => absurd h (Nat.not_lt_zero _)
  | n + 1, h => by
    unfold cF
    by_cases e : i = n
    · subst e
      rw [cF_eq i (fun j hj => ho j (by omega)), h0, h1, if_pos rfl, if_neg (by intro q; cases q)]
    · rw [cF_up h0 h1 ho n (by omega), ho n (fun q => e q.symm)]
      omega
theorem cF_le {F : Nat → Option Nat} : ∀ n, cF F n ≤ n
  | 0 => Nat.le_refl 0
  | n + 1 => by
    unfold cF
    have := cF_le (F := F) n
    split <;> omega
/-- the states that are made when they are first wanted: 0 to 7 the history's, 8 and 9 the images' -/
def LzI (h : Nat → Option am_C) (B : Nat) (z : Nat × Nat) (Y : Nat) (F : Nat → Option Nat) : Prop := (∀ i, i < 10 → ∀ s, F i = some s → B ≤ s ∧ s + 93 ≤ z.1 ∧ StS h s) ∧ (∀ i j, i < 10 → j < 10 → ¬ i = j → ∀ s t, F i = some s → F j = some t → s + 93 ≤ t ∨ t + 93 ≤ s) ∧ z.1 = B + 93 * cF F 10 ∧ z.2 = Y + 2831 * cF F 10
theorem LzI.fr {h h' : Nat → Option am_C} {B Y : Nat} {z : Nat × Nat} {F : Nat → Option Nat} (a : LzI h B z Y F) (e : ∀ x, B ≤ x → h' x = h x) : LzI h' B z Y F := ⟨fun i hi s hs => by
  obtain ⟨b1, b2, b3⟩ := a.1 i hi s hs
  exact ⟨b1, b2, b3.fr (fun x x1 x2 => e x (by omega))⟩, a.2⟩
theorem LzI.put {h h' : Nat → Option am_C} {B Y i s : Nat} {z : Nat × Nat} {F : Nat → Option Nat} (a : LzI h B z Y F) (hi : i < 10) (hs : F i = some s) (hS : StS h' s) (e : ∀ x, (x < s ∨ s + 93 ≤ x) → h' x = h x) : LzI h' B z Y F := ⟨fun j hj t ht => by
  obtain ⟨b1, b2, b3⟩ := a.1 j hj t ht
  refine ⟨b1, b2, ?_⟩
  by_cases q : j = i
  · subst q
    rw [hs] at ht
    cases ht
    exact hS
  · exact b3.fr (fun x x1 x2 => e x (by have := a.2.1 j i hj hi q t s ht hs; omega)), a.2⟩
/-- a new state for a place that had none -/
theorem LzI.new {h h' : Nat → Option am_C} {B Y i : Nat} {z : Nat × Nat} {F F2 : Nat → Option Nat} (a : LzI h B z Y F) (hi : i < 10) (h0 : F i = none) (h1 : F2 i = some z.1) (ho : ∀ j, ¬ j = i → F2 j = F j) (hS : StS h' z.1) (e : ∀ x, B ≤ x → x < z.1 → h' x = h x) : LzI h' B (z.1 + 93, z.2 + 2831) Y F2 := by
  obtain ⟨a1, a2, a3, a4⟩ := a
  have ec := cF_up h0 h1 ho 10 hi
  refine ⟨fun j hj t ht => ?_, fun j k hj hk hjk t u ht hu => ?_, by show z.1 + 93 = _; rw [ec]; omega, by show z.2 + 2831 = _; rw [ec]; omega⟩
  · by_cases q : j = i
    · subst q
      rw [h1] at ht
      cases ht
      exact ⟨by omega, Nat.le_refl _, hS⟩
    · rw [ho j q] at ht
      obtain ⟨b1, b2, b3⟩ := a1 j hj t ht
      exact ⟨b1, by show _ ≤ z.1 + 93; omega, b3.fr (fun x x1 x2 => e x (by omega) (by omega))⟩
  · by_cases q : j = i
    · have q2 : ¬ k = i := fun r => hjk (q.trans r.symm)
      subst q
      rw [h1] at ht
      cases ht
      rw [ho k q2] at hu
      have := (a1 k hk u hu).2.1
      omega
    · rw [ho j q] at ht
      by_cases q2 : k = i
      · subst q2
        rw [h1] at hu
        cases hu
        have := (a1 j hj t ht).2.1
        omega
      · rw [ho k q2] at hu
        exact a2 j k hj hk hjk t u ht hu
def HsI (h : Nat → Option am_C) (x old pm : Nat) (F : Nat → Option Nat) (PA : Nat → Int32) : Prop := h (x + 94) = some (.inr (2, [.ref (x + 95), .int (nI old), .int (nI pm)])) ∧ (∃ f : Nat → Option Nat, h (x + 95) = some (.inl (2, 8, .inr (.inr (.inr (.inr f))))) ∧ ∀ i, i < 8 → f i = F i) ∧ old < 8 ∧ pm ≤ 8 ∧ ∀ i, i < pm → ∃ s, F ((old + i) % 8) = some s ∧ StW h s (fun j => PA (2754 * i + j))
def ImI (h : Nat → Option am_C) (x : Nat) (F : Nat → Option Nat) (IM : Nat → Int32) (fl : Nat) : Prop := (∃ f : Nat → Option Nat, h (x + 96) = some (.inl (2, 2, .inr (.inr (.inr (.inr f))))) ∧ ∀ i, i < 2 → f i = F (8 + i)) ∧ fl < 4 ∧ ∀ i, i < 2 → (fl / 2 ^ i % 2 = 0 ∧ F (8 + i) = none) ∨ (¬ fl / 2 ^ i % 2 = 0 ∧ ∃ s, F (8 + i) = some s ∧ StW h s (fun j => IM (2754 * i + j)))
/-- all but the state and what is only worked with -/
def RstI (h : Nat → Option am_C) (z : Nat × Nat) (x B Y : Nat) (PA : Nat → Int32) (pm : Nat) (IM : Nat → Int32) (fl : Nat) (T : Nat → Int32) (l : Nat) (fk fp : Int32) : Prop := x + 158 ≤ B ∧ h x = some (.inr (11, [.ref (x + 1), .ref (x + 94), .ref (x + 96), .ref (x + 97), .ref (x + 101), .ref (x + 106), .ref (x + 111), .ref (x + 155), .ref (x + 157)])) ∧ (∃ old F, HsI h x old pm F PA ∧ ImI h x F IM fl ∧ LzI h B z Y F) ∧ TxW h (x + 97) T l fk fp ∧ l ≤ 50
def ScrI (h : Nat → Option am_C) (x : Nat) : Prop := (∃ n G g2 g3 f4, SoX h (x + 101) n G g2 g3 f4) ∧ (∃ T, PrX h (x + 106) T) ∧ (∃ c qe f V Z, SwX h (x + 111) c qe f V Z ∧ SwF (x + 111) qe f) ∧ (∃ C, CdAt h (x + 155) C) ∧ ∃ T, TtAt h (x + 157) T
theorem ScrI.fr {h h' : Nat → Option am_C} {x : Nat} (a : ScrI h x) (e : ∀ y, x + 101 ≤ y → y < x + 158 → h' y = h y) : ScrI h' x := by
  obtain ⟨⟨n, G, g2, g3, f4, a1⟩, ⟨T, a2⟩, ⟨c, qe, f, V, Z, a3, a4⟩, ⟨C, a5⟩, ⟨T2, a6⟩⟩ := a
  exact ⟨⟨n, G, g2, g3, f4, a1.fr (fun y y1 y2 => e y (by omega) (by omega))⟩, ⟨T, a2.fr (fun y y1 y2 => e y (by omega) (by omega))⟩, ⟨c, qe, f, V, Z, a3.fr (fun y y1 y2 => e y (by omega) (by omega)), a4⟩, ⟨C, a5.fr (fun y y1 y2 => e y (by omega) (by omega))⟩, ⟨T2, a6.fr (e _ (by omega) (by omega))⟩⟩
theorem HsI.fr {h h' : Nat → Option am_C} {x old pm B Y : Nat} {z : Nat × Nat} {F : Nat → Option Nat} {PA : Nat → Int32} (a : HsI h x old pm F PA) (lz : LzI h B z Y F) (e1 : h' (x + 94) = h (x + 94)) (e2 : h' (x + 95) = h (x + 95)) (e : ∀ y, B ≤ y → h' y = h y) : HsI h' x old pm F PA := by
  obtain ⟨a1, ⟨f, a2, a3⟩, a4, a5, a6⟩ := a
  refine ⟨e1.trans a1, ⟨f, e2.trans a2, a3⟩, a4, a5, fun i hi => ?_⟩
  obtain ⟨s, s1, s2⟩ := a6 i hi
  exact ⟨s, s1, s2.fr (fun y y1 y2 => e y (by have := (lz.1 _ (by omega) s s1).1; omega))⟩
theorem ImI.fr {h h' : Nat → Option am_C} {x B Y fl : Nat} {z : Nat × Nat} {F : Nat → Option Nat} {IM : Nat → Int32} (a : ImI h x F IM fl) (lz : LzI h B z Y F) (e1 : h' (x + 96) = h (x + 96)) (e : ∀ y, B ≤ y → h' y = h y) : ImI h' x F IM fl := by
  obtain ⟨⟨f, a2, a3⟩, a4, a5⟩ := a
  refine ⟨⟨f, e1.trans a2, a3⟩, a4, fun i hi => ?_⟩
  rcases a5 i hi with q | ⟨q1, s, s1, s2⟩
  · exact Or.inl q
  · exact Or.inr ⟨q1, s, s1, s2.fr (fun y y1 y2 => e y (by have := (lz.1 _ (by omega) s s1).1; omega))⟩
theorem RstI.fr {h h' : Nat → Option am_C} {z : Nat × Nat} {x B Y : Nat} {PA : Nat → Int32} {pm : Nat} {IM : Nat → Int32} {fl : Nat} {T : Nat → Int32} {l : Nat} {fk fp : Int32} (a : RstI h z x B Y PA pm IM fl T l fk fp) (e : ∀ y, (y = x ∨ (x + 94 ≤ y ∧ y < x + 101) ∨ B ≤ y) → h' y = h y) : RstI h' z x B Y PA pm IM fl T l fk fp := by
  obtain ⟨a1, a2, ⟨old, F, a3, a4, a5⟩, a6, a7⟩ := a
  exact ⟨a1, (e x (Or.inl rfl)).trans a2, ⟨old, F, a3.fr a5 (e _ (by omega)) (e _ (by omega)) (fun y hy => e y (by omega)), a4.fr a5 (e _ (by omega)) (fun y hy => e y (by omega)), a5.fr (fun y hy => e y (by omega))⟩, a6.fr (fun y y1 y2 => e y (by omega)), a7⟩
theorem cJ9 {k : Nat} (hk : k < 16) (hQ : Q (some (.int (nI (k % 8)))) (h, z)) : Rn sA mJ9_floorMod_7cf53 0 [some (.int (nI k)), some (.int (nI 8)), none] [] (h, z) Q := by
  have hx : ∀ k, k < 16 → 0 ≤ nI k ^^^ nI 8 := by decide
  refine R_iload_n (pc := 0) dJ9_floorMod_7cf53_0 rfl ?_
  refine R_iload_n (pc := 1) dJ9_floorMod_7cf53_1 rfl ?_
  refine R_irem (pc := 2) dJ9_floorMod_7cf53_2 (by decide) ?_
  rw [pk_rem (show k < 2 ^ 31 by omega) (by omega) (by omega)]
  refine R_istore_n (pc := 3) dJ9_floorMod_7cf53_3 (Nat.le_of_ble_eq_true rfl) rfl ?_
  refine R_iload_n (pc := 4) dJ9_floorMod_7cf53_4 rfl ?_
  refine R_iload_n (pc := 5) dJ9_floorMod_7cf53_5 rfl ?_
  refine R_ixor (pc := 6) dJ9_floorMod_7cf53_6 ?_
  refine R_if_ge (pc := 7) (t := 18) dJ9_floorMod_7cf53_7 (by decide) (fun _ => ?_) (fun hz9 => absurd (hx k hk) hz9)
  refine R_iload_n (pc := 18) dJ9_floorMod_7cf53_18 rfl ?_
  refine R_iret (pc := 19) dJ9_floorMod_7cf53_19 rfl ?_
  exact hQ
theorem c2_at {x B Y i old : Nat} {pmv : Int32} {F f : Nat → Option Nat} (h1 : h (x + 94) = some (.inr (2, [.ref (x + 95), .int (nI old), .int pmv]))) (h2a : h (x + 95) = some (.inl (2, 8, .inr (.inr (.inr (.inr f)))))) (h2b : ∀ i, i < 8 → f i = F i) (lz : LzI h B z Y F) (hB : x + 158 ≤ B) (ho8 : old < 8) (hi : i ≤ 8) (hQ : ∀ (h2 : Nat → Option am_C) (z2 : Nat × Nat) (F2 : Nat → Option Nat) (s : Nat), F2 ((old + i) % 8) = some s → (∀ j, ¬ j = (old + i) % 8 → F2 j = F j) → (∃ f : Nat → Option Nat, h2 (x + 95) = some (.inl (2, 8, .inr (.inr (.inr (.inr f))))) ∧ ∀ i, i < 8 → f i = F2 i) → LzI h2 B z2 Y F2 → (∀ a, a < z.1 → ¬ a = x + 95 → h2 a = h a) → Q (some (.ref s)) (h2, z2)) : Rn sA mX2_at 0 [some (.ref (x + 94)), some (.int (nI i)), none, none] [] (h, z) Q := by
  obtain ⟨U0, hU0⟩ : ∃ U0 : Nat → Int32, U00 U0 := ⟨fun j => if j = 1 then nI 2 else if j = 2 then nI 2 else if j = 3 then nI 2 else if j = 4 then nI 4 else if j = 5 then nI 3 else if j = 6 then nI 7 else if j = 7 then nI 3 else if j = 8 then nI 10 else if j = 9 then nI 4 else if j = 10 then nI 14 else if j = 11 then nI 1 else if j = 12 then nI 1 else if j = 13 then nI 1 else if j = 14 then nI 999 else if j = 15 then nI 400 else if j = 16 then (-1000009) else if j = 17 then (-1000009) else if j = 18 then (-1000009) else 0, rfl, rfl, rfl, rfl, rfl, rfl, rfl, rfl, rfl, rfl, rfl, rfl, rfl, rfl, rfl, rfl, rfl, rfl, rfl, fun j hj => by show (if j = 1 then _ else _) = _; (repeat rw [if_neg (by omega)])⟩
  cases es : F ((old + i) % 8) with
  | some s =>
    refine R_aload_n (pc := 0) dX2_at_0 rfl ?_
    refine R_getf (pc := 1) dX2_at_1 rfl (by repeat (first | assumption | exact up_s | refine up_n (by omega) ?_)) rfl ?_
    refine R_iload_n (pc := 4) dX2_at_4 rfl ?_
    refine R_iadd (pc := 5) dX2_at_5 ?_
    rw [nI_add]
    refine R_bipush (pc := 6) (x := nI 8) dX2_at_6 (by decide) ?_
    refine R_callS (pc := 8) dX2_at_8 rfl (Or.inl rfl) rfl rfl ?_
    refine cJ9 (by omega) ?_
    refine R_istore_n (pc := 11) dX2_at_11 (Nat.le_of_ble_eq_true rfl) rfl ?_
    refine R_aload_n (pc := 12) dX2_at_12 rfl ?_
    refine R_getf (pc := 13) dX2_at_13 rfl (by repeat (first | assumption | exact up_s | refine up_n (by omega) ?_)) rfl ?_
    refine R_iload_n (pc := 16) dX2_at_16 rfl ?_
    refine R_aald (pc := 17) dX2_at_17 h2a (by decide) rfl (by omega) (by decide) (by rw [h2b _ (by omega), es]) ?_
    refine R_astore_n (pc := 18) dX2_at_18 (Nat.le_of_ble_eq_true rfl) rfl ?_
    refine R_aload_n (pc := 19) dX2_at_19 rfl ?_
    refine R_ifnn (pc := 20) (t := 38) dX2_at_20 (by decide) ?_
    refine R_aload_n (pc := 38) dX2_at_38 rfl ?_
    refine R_aret (pc := 39) dX2_at_39 rfl ?_
    exact hQ h z F s es (fun _ _ => rfl) ⟨f, h2a, h2b⟩ lz (fun _ _ _ => rfl)
  | none =>
    refine R_aload_n (pc := 0) dX2_at_0 rfl ?_
    refine R_getf (pc := 1) dX2_at_1 rfl (by repeat (first | assumption | exact up_s | refine up_n (by omega) ?_)) rfl ?_
    refine R_iload_n (pc := 4) dX2_at_4 rfl ?_
    refine R_iadd (pc := 5) dX2_at_5 ?_
    rw [nI_add]
    refine R_bipush (pc := 6) (x := nI 8) dX2_at_6 (by decide) ?_
    refine R_callS (pc := 8) dX2_at_8 rfl (Or.inl rfl) rfl rfl ?_
    refine cJ9 (by omega) ?_
    refine R_istore_n (pc := 11) dX2_at_11 (Nat.le_of_ble_eq_true rfl) rfl ?_
    refine R_aload_n (pc := 12) dX2_at_12 rfl ?_
    refine R_getf (pc := 13) dX2_at_13 rfl (by repeat (first | assumption | exact up_s | refine up_n (by omega) ?_)) rfl ?_
    refine R_iload_n (pc := 16) dX2_at_16 rfl ?_
    refine R_aald (pc := 17) dX2_at_17 h2a (by decide) rfl (by omega) (by decide) (by rw [h2b _ (by omega), es]) ?_
    refine R_astore_nN (pc := 18) dX2_at_18 (Nat.le_of_ble_eq_true rfl) rfl ?_
    refine R_aload_nN (pc := 19) dX2_at_19 rfl ?_
    refine R_ifnnN (pc := 20) dX2_at_20 ?_
    refine R_new (pc := 23) dX2_at_23 rfl rfl rfl ?_
    refine R_dup (pc := 26) dX2_at_26 rfl ?_
    refine R_callI (pc := 27) dX2_at_27 rfl (Or.inr rfl) rfl rfl ?_
    refine c8_init (s := z.1) up_s (fun h3 q1 q2 => ?_)
    have hz := lz.2.2.1
    have e94 : h3 (x + 94) = _ := (q2 (x + 94) (by omega)).trans ((up_n (by omega) rfl).trans h1)
    have e95 : h3 (x + 95) = _ := (q2 (x + 95) (by omega)).trans ((up_n (by omega) rfl).trans h2a)
    have hst : StW h3 z.1 U0 := q1 U0 hU0
    have e8 : ∃ fs, h3 z.1 = some (.inr (8, fs)) := by obtain ⟨_, _, _, _, _, _, _, _, q, _⟩ := hst; exact ⟨_, q.1⟩
    obtain ⟨fs, e8⟩ := e8
    refine R_astore_n (pc := 30) dX2_at_30 (Nat.le_of_ble_eq_true rfl) rfl ?_
    refine R_aload_n (pc := 31) dX2_at_31 rfl ?_
    refine R_getf (pc := 32) dX2_at_32 rfl (by repeat (first | assumption | exact up_s | refine up_n (by omega) ?_)) rfl ?_
    refine R_iload_n (pc := 35) dX2_at_35 rfl ?_
    refine R_aload_n (pc := 36) dX2_at_36 rfl ?_
    refine R_aast (pc := 37) dX2_at_37 e95 e8 (by decide) rfl (by omega) (by decide) ?_
    refine R_aload_n (pc := 38) dX2_at_38 rfl ?_
    refine R_aret (pc := 39) dX2_at_39 rfl ?_
    refine Q_z (a' := z.1 + 93) (b' := z.2 + 2831) rfl (by show z.2 + 2831 = z.2 + 5 + 2826; omega) ?_
    have ho : ∀ j, ¬ j = (old + i) % 8 → (fun j => if j = (old + i) % 8 then some z.1 else F j) j = F j := fun j hj => if_neg hj
    refine hQ _ (z.1 + 93, z.2 + 2831) (fun j => if j = (old + i) % 8 then some z.1 else F j) z.1 (if_pos rfl) ho ⟨_, up_s, fun j hj => ?_⟩ (lz.new (by omega) es (if_pos rfl) ho (hst.sh.fr (fun y y1 y2 => up_n (by omega) rfl)) (fun y y1 y2 => ?_)) (fun a a1 a2 => ?_)
    · show va_up f ((old + i) % 8) (some z.1) j = if j = (old + i) % 8 then some z.1 else F j
      by_cases e : j = (old + i) % 8
      · rw [if_pos e, e]; exact up_s
      · rw [if_neg e]; exact up_n e (h2b j hj)
    · rw [up_n (by omega) rfl, q2 y (by omega), up_n (by omega) rfl]
    · rw [up_n a2 rfl, q2 a (by omega), up_n (by omega) rfl]
end CE0
