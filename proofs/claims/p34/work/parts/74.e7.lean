section CE7
variable {sA : Nat} {h : Nat → Option am_C} {z : Nat × Nat} {Q : Option Value → am_H → Prop}
theorem c11_undo {x B Y pm fl l : Nat} {PA IM T U : Nat → Int32} {fk fp : Int32} {P Wd : Nat → Nat} {n : Nat} {pe : Nat → Nat} {K : Nat → CdX} {R : RpX} {se co : Nat → Int32} (r : RstI h z x B Y PA pm IM fl T l fk fp) (sa : StAt h (x + 1) P Wd n pe K R se co) (sr : StR U P Wd n pe K R se co) (sc : ScrI h x) (hB : pm = 0 → Q (some (.int (-1000002))) (h, z)) (hG : ∀ q, pm = q + 1 → ∀ (h3 : Nat → Option am_C), OutI h h3 z x B Y (fun j => PA (2754 * q + j)) PA q IM fl T l fk fp → Q (some (.int (nI q))) (h3, z)) : Rn sA mX11_undo 0 [some (.ref x)] [] (h, z) Q := by
  have hx := r.2.1
  have st : StW h (x + 1) U := ⟨P, Wd, n, pe, K, R, se, co, sa, sr⟩
  have sa1 := sa.1
  have hn := sr.2.2.1.2.1
  have h94 : ∃ fs, h (x + 94) = some (.inr (2, fs)) := by obtain ⟨_, _, ⟨_, _, q, _⟩, _⟩ := r; exact ⟨_, q.1⟩
  obtain ⟨fs94, h94⟩ := h94
  refine R_aload_n (pc := 0) dX11_undo_0 rfl ?_
  refine R_getf (pc := 1) dX11_undo_1 rfl (by repeat (first | assumption | exact up_s | refine up_n (by omega) ?_)) rfl ?_
  refine R_callV (pc := 4) dX11_undo_4 rfl h94 rfl rfl ?_
  refine c2_isEmpty (U := U) r (fun e => ?_) (fun e => ?_)
  · refine R_if_eq (pc := 7) (t := 13) dX11_undo_7 (by decide) (fun hz9 => absurd hz9 (by decide)) (fun _ => ?_)
    refine R_ldc (pc := 10) (x := (-1000002)) dX11_undo_10 rfl ?_
    refine R_iret (pc := 12) dX11_undo_12 rfl ?_
    first
      | exact hB e
      | exact hG q rfl h3 ⟨q1, q2, sc.fr (fun y y1 y2 => q3 y (by omega)), fun y hy => q3 y (by omega)⟩
  · obtain ⟨q, rfl⟩ : ∃ q, pm = q + 1 := ⟨pm - 1, by omega⟩
    refine R_if_eq (pc := 7) (t := 13) dX11_undo_7 (by decide) (fun _ => ?_) (fun hz9 => absurd hz9 (by decide))
    refine R_aload_n (pc := 13) dX11_undo_13 rfl ?_
    refine R_getf (pc := 14) dX11_undo_14 rfl (by repeat (first | assumption | exact up_s | refine up_n (by omega) ?_)) rfl ?_
    refine R_aload_n (pc := 17) dX11_undo_17 rfl ?_
    refine R_getf (pc := 18) dX11_undo_18 rfl (by repeat (first | assumption | exact up_s | refine up_n (by omega) ?_)) rfl ?_
    refine R_callV (pc := 21) dX11_undo_21 rfl h94 rfl rfl ?_
    refine c2_restoreInto (U := U) r st.sh rfl (fun h3 q1 q2 q3 => ?_)
    have hB := r.1
    have hx3 := (q3 x (by omega)).trans hx
    have h943 : ∃ fs, h3 (x + 94) = some (.inr (2, fs)) := by obtain ⟨_, _, ⟨_, _, q, _⟩, _⟩ := q2; exact ⟨_, q.1⟩
    obtain ⟨fs943, h943⟩ := h943
    refine R_aload_n (pc := 24) dX11_undo_24 rfl ?_
    refine R_getf (pc := 25) dX11_undo_25 rfl (by repeat (first | assumption | exact up_s | refine up_n (by omega) ?_)) rfl ?_
    refine R_callV (pc := 28) dX11_undo_28 rfl h943 rfl rfl ?_
    refine c2_size (U := U) q2 ?_
    refine R_iret (pc := 31) dX11_undo_31 rfl ?_
    first
      | exact hB e
      | exact hG q rfl h3 ⟨q1, q2, sc.fr (fun y y1 y2 => q3 y (by omega)), fun y hy => q3 y (by omega)⟩
theorem bit_or {fl i j : Nat} (hf : fl < 4) (hi : i < 2) (hj : j < 2) : (fl ||| 2 ^ i) / 2 ^ j % 2 = if j = i then 1 else fl / 2 ^ j % 2 := by
  have h1 : i = 0 ∨ i = 1 := by omega
  have h2 : j = 0 ∨ j = 1 := by omega
  have h3 : fl = 0 ∨ fl = 1 ∨ fl = 2 ∨ fl = 3 := by omega
  rcases h1 with rfl | rfl <;> rcases h2 with rfl | rfl <;> rcases h3 with rfl | rfl | rfl | rfl <;> decide
theorem or_lt {fl i : Nat} (hf : fl < 4) (hi : i < 2) : fl ||| 2 ^ i < 4 := by
  have h1 : i = 0 ∨ i = 1 := by omega
  have h3 : fl = 0 ∨ fl = 1 ∨ fl = 2 ∨ fl = 3 := by omega
  rcases h1 with rfl | rfl <;> rcases h3 with rfl | rfl | rfl | rfl <;> decide
/-- an image that has been written -/
theorem RstI.img {h h2 h3 : Nat → Option am_C} {z z2 : Nat × Nat} {x B Y : Nat} {PA : Nat → Int32} {pm : Nat} {IM : Nat → Int32} {fl : Nat} {T : Nat → Int32} {l : Nat} {fk fp : Int32} {U : Nat → Int32} {i s old : Nat} {F F2 f2 : Nat → Option Nat} (hB : x + 158 ≤ B) (hx : h x = some (.inr (11, [.ref (x + 1), .ref (x + 94), .ref (x + 96), .ref (x + 97), .ref (x + 101), .ref (x + 106), .ref (x + 111), .ref (x + 155), .ref (x + 157)]))) (hs : HsI h x old pm F PA) (im : ImI h x F IM fl) (lz : LzI h B z Y F) (tx : TxW h (x + 97) T l fk fp) (hl : l ≤ 50) (hi : i < 2) (q1 : F2 (8 + i) = some s) (q2 : ∀ j, ¬ j = 8 + i → F2 j = F j) (q3 : h2 (x + 96) = some (.inl (2, 2, .inr (.inr (.inr (.inr f2)))))) (q3b : ∀ j, j < 2 → f2 j = F2 (8 + j)) (lz2 : LzI h2 B z2 Y F2) (q5 : ∀ a, a < z.1 → ¬ a = x + 96 → h2 a = h a) (r1 : StW h3 s U) (r2 : ∀ a, (a < s ∨ s + 93 ≤ a) → h3 a = h2 a) : RstI h3 z2 x B Y PA pm (va_cpy U IM 0 (2754 * i) 2754) (fl ||| 2 ^ i) T l fk fp := by
  have hz := lz.2.2.1
  have gs := (lz2.1 (8 + i) (by omega) s q1).1
  have hv : ∀ y, y < B → ¬ y = x + 96 → h3 y = h y := fun y y1 y2 => by rw [r2 y (by omega), q5 y (by omega) y2]
  have hpq : ∀ j t W, j < 10 → ¬ j = 8 + i → F j = some t → StW h t W → F2 j = some t ∧ StW h3 t W := by
    intro j t W hj hne e1 e2
    have e3 := (q2 j hne).trans e1
    obtain ⟨g1, g2, -⟩ := lz.1 j hj t e1
    refine ⟨e3, e2.fr (fun y y1 y2 => ?_)⟩
    rw [r2 y (by have := lz2.2.1 j (8 + i) hj (by omega) hne t s e3 q1; omega), q5 y (by omega) (by omega)]
  obtain ⟨a1, ⟨f, a2, a3⟩, a4, a5, a6⟩ := hs
  refine ⟨hB, (hv x (by omega) (by omega)).trans hx, ⟨old, F2, ⟨(hv _ (by omega) (by omega)).trans a1, ⟨f, (hv _ (by omega) (by omega)).trans a2, fun j hj => (a3 j hj).trans (q2 j (by omega)).symm⟩, a4, a5, fun j hj => ?_⟩, ⟨⟨f2, (r2 _ (by omega)).trans q3, q3b⟩, or_lt im.2.1 hi, fun j hj => ?_⟩, lz2.put (by omega) q1 r1.sh r2⟩, tx.fr (fun y y1 y2 => hv y (by omega) (by omega)), hl⟩
  · obtain ⟨t, t1, t2⟩ := a6 j hj
    obtain ⟨u1, u2⟩ := hpq _ t _ (by omega) (by omega) t1 t2
    exact ⟨t, u1, u2⟩
  · rw [bit_or im.2.1 hi hj]
    by_cases e : j = i
    · subst e
      rw [if_pos rfl]
      refine Or.inr ⟨by decide, s, q1, r1.cg (fun k hk => ?_)⟩
      show va_cpy U IM 0 (2754 * j) 2754 (2754 * j + k) = U k
      rw [cpy_in (by omega) (by omega), show 0 + (2754 * j + k - 2754 * j) = k by omega]
    · rw [if_neg e]
      rcases im.2.2 j hj with q | ⟨qa, t, t1, t2⟩
      · exact Or.inl ⟨q.1, (q2 _ (by omega)).trans q.2⟩
      · obtain ⟨u1, u2⟩ := hpq (8 + j) t _ (by omega) (by omega) t1 t2
        refine Or.inr ⟨qa, t, u1, u2.cg (fun k hk => ?_)⟩
        show va_cpy U IM 0 (2754 * i) 2754 (2754 * j + k) = IM (2754 * j + k)
        rw [cpy_out (by omega)]
theorem c11_keep {x B Y pm fl l : Nat} {PA IM T U : Nat → Int32} {fk fp : Int32} {P Wd : Nat → Nat} {n : Nat} {pe : Nat → Nat} {K : Nat → CdX} {R : RpX} {se co : Nat → Int32} {a : Int32} (r : RstI h z x B Y PA pm IM fl T l fk fp) (sa : StAt h (x + 1) P Wd n pe K R se co) (sr : StR U P Wd n pe K R se co) (sc : ScrI h x) (hB : (∀ i, i < 2 → ¬ a = nI i) → Q (some (.int (-1000001))) (h, z)) (hG : ∀ i, i < 2 → a = nI i → ∀ (h3 : Nat → Option am_C) (z3 : Nat × Nat), OutI h h3 z3 x B Y U PA pm (va_cpy U IM 0 (2754 * i) 2754) (fl ||| 2 ^ i) T l fk fp → Q (some (.int (U 19))) (h3, z3)) : Rn sA mX11_keep 0 [some (.ref x), some (.int a), none] [] (h, z) Q := by
  have hx := r.2.1
  have st : StW h (x + 1) U := ⟨P, Wd, n, pe, K, R, se, co, sa, sr⟩
  have sa1 := sa.1
  have hn := sr.2.2.1.2.1
  have h94_ : ∃ fs, h (x + 94) = some (.inr (2, fs)) := by obtain ⟨_, _, ⟨_, _, q, _⟩, _⟩ := r; exact ⟨_, q.1⟩
  obtain ⟨fs94, h94⟩ := h94_
  obtain ⟨hBx, -, ⟨old, F, hs, im, lz⟩, tx, hl⟩ := r
  have im9 := im
  obtain ⟨⟨f, h96, h96b⟩, hfl, hf⟩ := im9
  have hz := lz.2.2.1
  by_cases hin : ∃ i, i < 2 ∧ a = nI i
  · obtain ⟨i, hi, rfl⟩ := hin
    obtain ⟨U0, hU0⟩ : ∃ U0 : Nat → Int32, U00 U0 := ⟨fun j => if j = 1 then nI 2 else if j = 2 then nI 2 else if j = 3 then nI 2 else if j = 4 then nI 4 else if j = 5 then nI 3 else if j = 6 then nI 7 else if j = 7 then nI 3 else if j = 8 then nI 10 else if j = 9 then nI 4 else if j = 10 then nI 14 else if j = 11 then nI 1 else if j = 12 then nI 1 else if j = 13 then nI 1 else if j = 14 then nI 999 else if j = 15 then nI 400 else if j = 16 then (-1000009) else if j = 17 then (-1000009) else if j = 18 then (-1000009) else 0, rfl, rfl, rfl, rfl, rfl, rfl, rfl, rfl, rfl, rfl, rfl, rfl, rfl, rfl, rfl, rfl, rfl, rfl, rfl, fun j hj => by show (if j = 1 then _ else _) = _; (repeat rw [if_neg (by omega)])⟩
    cases es : F (8 + i) with
    | some s =>
      have e8 : ∃ fs, h s = some (.inr (8, fs)) := by obtain ⟨_, _, _, _, _, _, _, _, q, _⟩ := (lz.1 (8 + i) (by omega) s es).2.2; exact ⟨_, q.1⟩
      obtain ⟨fs, e8⟩ := e8
      refine R_iload_n (pc := 0) dX11_keep_0 rfl ?_
      refine R_iconst (pc := 1) (x := nI 0) dX11_keep_1 rfl ?_
      refine R_iconst (pc := 2) (x := nI 1) dX11_keep_2 rfl ?_
      refine R_callS (pc := 3) dX11_keep_3 rfl (Or.inl rfl) rfl rfl ?_
      refine c_inG (a := 0) (b := 1) rfl rfl (by omega) (by omega) (fun j _ _ e9 => ?_) (fun e => absurd rfl (e i (by omega) (by omega)))
      · obtain rfl : i = j := (nI_eq (by omega) (by omega)).mp e9
        refine R_if_ne (pc := 6) (t := 12) dX11_keep_6 (by decide) (fun _ => ?_) (fun hz9 => absurd hz9 (by decide))
        refine R_aload_n (pc := 12) dX11_keep_12 rfl ?_
        refine R_getf (pc := 13) dX11_keep_13 rfl (by repeat (first | assumption | exact up_s | refine up_n (by omega) ?_)) rfl ?_
        refine R_iload_n (pc := 16) dX11_keep_16 rfl ?_
        refine R_aald (pc := 17) dX11_keep_17 h96 (by decide) rfl (by omega) (by decide) (by rw [h96b _ (by omega), es]) ?_
        refine R_astore_n (pc := 18) dX11_keep_18 (Nat.le_of_ble_eq_true rfl) rfl ?_
        refine R_aload_n (pc := 19) dX11_keep_19 rfl ?_
        refine R_ifnn (pc := 20) (t := 38) dX11_keep_20 (by decide) ?_
        refine R_aload_n (pc := 38) dX11_keep_38 rfl ?_
        refine R_aload_n (pc := 39) dX11_keep_39 rfl ?_
        refine R_getf (pc := 40) dX11_keep_40 rfl (by repeat (first | assumption | exact up_s | refine up_n (by omega) ?_)) rfl ?_
        refine R_callV (pc := 43) dX11_keep_43 rfl e8 rfl rfl ?_
        obtain ⟨gs1, gs2, gs3⟩ := lz.1 (8 + i) (by omega) s es
        refine c8_copyFrom gs3 st (by omega) (fun h3 r1 r2 => ?_)
        have hx3 := (r2 x (by omega)).trans hx
        have sa31 := (r2 (x + 1) (by omega)).trans sa1
        have dk3 := sa.2.2.1.fr (h' := h3) (fun y y1 y2 => r2 y (by omega))
        have dk31 := dk3.1
        refine R_aload_n (pc := 46) dX11_keep_46 rfl ?_
        refine R_getf (pc := 47) dX11_keep_47 rfl (by repeat (first | assumption | exact up_s | refine up_n (by omega) ?_)) rfl ?_
        refine R_getf (pc := 50) dX11_keep_50 rfl (by repeat (first | assumption | exact up_s | refine up_n (by omega) ?_)) rfl ?_
        refine R_callV (pc := 53) dX11_keep_53 rfl dk31 rfl rfl ?_
        refine c1_size dk3 ?_
        refine R_iret (pc := 56) dX11_keep_56 rfl ?_
        rw [← sr.2.2.1.1]
        refine hG i hi rfl h3 z ⟨st.fr (fun y y1 y2 => r2 y (by omega)), RstI.img hBx hx hs im lz tx hl hi es (fun _ _ => rfl) h96 h96b lz (fun _ _ _ => rfl) r1 r2, sc.fr (fun y y1 y2 => r2 y (by omega)), fun y hy => r2 y (by omega)⟩
    | none =>
      refine R_iload_n (pc := 0) dX11_keep_0 rfl ?_
      refine R_iconst (pc := 1) (x := nI 0) dX11_keep_1 rfl ?_
      refine R_iconst (pc := 2) (x := nI 1) dX11_keep_2 rfl ?_
      refine R_callS (pc := 3) dX11_keep_3 rfl (Or.inl rfl) rfl rfl ?_
      refine c_inG (a := 0) (b := 1) rfl rfl (by omega) (by omega) (fun j _ _ e9 => ?_) (fun e => absurd rfl (e i (by omega) (by omega)))
      · obtain rfl : i = j := (nI_eq (by omega) (by omega)).mp e9
        refine R_if_ne (pc := 6) (t := 12) dX11_keep_6 (by decide) (fun _ => ?_) (fun hz9 => absurd hz9 (by decide))
        refine R_aload_n (pc := 12) dX11_keep_12 rfl ?_
        refine R_getf (pc := 13) dX11_keep_13 rfl (by repeat (first | assumption | exact up_s | refine up_n (by omega) ?_)) rfl ?_
        refine R_iload_n (pc := 16) dX11_keep_16 rfl ?_
        refine R_aald (pc := 17) dX11_keep_17 h96 (by decide) rfl (by omega) (by decide) (by rw [h96b _ (by omega), es]) ?_
        refine R_astore_nN (pc := 18) dX11_keep_18 (Nat.le_of_ble_eq_true rfl) rfl ?_
        refine R_aload_nN (pc := 19) dX11_keep_19 rfl ?_
        refine R_ifnnN (pc := 20) dX11_keep_20 ?_
        refine R_new (pc := 23) dX11_keep_23 rfl rfl rfl ?_
        refine R_dup (pc := 26) dX11_keep_26 rfl ?_
        refine R_callI (pc := 27) dX11_keep_27 rfl (Or.inr rfl) rfl rfl ?_
        refine c8_init (s := z.1) up_s (fun h2 q1 q2 => ?_)
        have e96 : h2 (x + 96) = _ := (q2 (x + 96) (by omega)).trans ((up_n (by omega) rfl).trans h96)
        have hx2 : h2 x = _ := (q2 x (by omega)).trans ((up_n (by omega) rfl).trans hx)
        have e1 : h2 (x + 1) = _ := (q2 (x + 1) (by omega)).trans ((up_n (by omega) rfl).trans sa1)
        have hst : StW h2 z.1 U0 := q1 U0 hU0
        have e8 : ∃ fs, h2 z.1 = some (.inr (8, fs)) := by obtain ⟨_, _, _, _, _, _, _, _, q, _⟩ := hst; exact ⟨_, q.1⟩
        obtain ⟨fs, e8⟩ := e8
        refine Rn_z (a' := (z.1 + 93, z.2 + 2831).1) (b' := (z.1 + 93, z.2 + 2831).2) rfl (by show z.2 + 5 + 2826 = z.2 + 2831; omega) ?_
        generalize hz2 : ((z.1 + 93, z.2 + 2831) : Nat × Nat) = z2
        have hzz : (z2.1, z2.2) = z2 := rfl
        refine R_astore_n (pc := 30) dX11_keep_30 (Nat.le_of_ble_eq_true rfl) rfl ?_
        refine R_aload_n (pc := 31) dX11_keep_31 rfl ?_
        refine R_getf (pc := 32) dX11_keep_32 rfl (by repeat (first | assumption | exact up_s | refine up_n (by omega) ?_)) rfl ?_
        refine R_iload_n (pc := 35) dX11_keep_35 rfl ?_
        refine R_aload_n (pc := 36) dX11_keep_36 rfl ?_
        refine R_aast (pc := 37) dX11_keep_37 e96 e8 (by decide) rfl (by omega) (by decide) ?_
        refine R_aload_n (pc := 38) dX11_keep_38 rfl ?_
        refine R_aload_n (pc := 39) dX11_keep_39 rfl ?_
        refine R_getf (pc := 40) dX11_keep_40 rfl (by repeat (first | assumption | exact up_s | refine up_n (by omega) ?_)) rfl ?_
        refine R_callV (pc := 43) dX11_keep_43 rfl (up_n (by omega) e8) rfl rfl ?_
        have ho : ∀ j, ¬ j = 8 + i → (fun j => if j = 8 + i then some z.1 else F j) j = F j := fun j hj => if_neg hj
        have hs2 : StS (va_up h2 (x + 96) (some (.inl (2, 2, .inr (.inr (.inr (.inr (va_up f i (some z.1))))))))) z.1 := hst.sh.fr (fun y y1 y2 => up_n (by omega) rfl)
        have st2 : StW (va_up h2 (x + 96) (some (.inl (2, 2, .inr (.inr (.inr (.inr (va_up f i (some z.1))))))))) (x + 1) U := st.fr (fun y y1 y2 => by rw [up_n (by omega) rfl, q2 y (by omega), up_n (by omega) rfl])
        have lz2 : LzI (va_up h2 (x + 96) (some (.inl (2, 2, .inr (.inr (.inr (.inr (va_up f i (some z.1))))))))) B z2 Y (fun j => if j = 8 + i then some z.1 else F j) := by
          rw [← hz2]
          exact lz.new (by omega) es (if_pos rfl) ho hs2 (fun y y1 y2 => by rw [up_n (by omega) rfl, q2 y (by omega), up_n (by omega) rfl])
        refine c8_copyFrom hs2 st2 (by omega) (fun h3 r1 r2 => ?_)
        have hx3 := (r2 x (by omega)).trans ((up_n (by omega) rfl).trans hx2)
        have sa31 := (r2 (x + 1) (by omega)).trans ((up_n (by omega) rfl).trans e1)
        have dk3 := sa.2.2.1.fr (h' := h3) (fun y y1 y2 => by rw [r2 y (by omega), up_n (by omega) rfl, q2 y (by omega), up_n (by omega) rfl])
        have dk31 := dk3.1
        refine R_aload_n (pc := 46) dX11_keep_46 rfl ?_
        refine R_getf (pc := 47) dX11_keep_47 rfl (by repeat (first | assumption | exact up_s | refine up_n (by omega) ?_)) rfl ?_
        refine R_getf (pc := 50) dX11_keep_50 rfl (by repeat (first | assumption | exact up_s | refine up_n (by omega) ?_)) rfl ?_
        refine R_callV (pc := 53) dX11_keep_53 rfl dk31 rfl rfl ?_
        refine c1_size dk3 ?_
        refine R_iret (pc := 56) dX11_keep_56 rfl ?_
        rw [← sr.2.2.1.1]
        refine hG i hi rfl h3 z2 ⟨st2.fr (fun y y1 y2 => r2 y (by omega)), RstI.img (f2 := va_up f i (some z.1)) hBx hx hs im lz tx hl hi (if_pos rfl) ho up_s (fun j hj => ?_) lz2 (fun a a1 a2 => by rw [up_n a2 rfl, q2 a (by omega), up_n (by omega) rfl]) r1 r2, sc.fr (fun y y1 y2 => ?_), fun y hy => ?_⟩
        · show va_up f i (some z.1) j = if 8 + j = 8 + i then some z.1 else F (8 + j)
          by_cases e : j = i
          · rw [if_pos (by omega), e]; exact up_s
          · rw [if_neg (by omega)]; exact up_n e (h96b j hj)
        · rw [r2 y (by omega), up_n (by omega) rfl, q2 y (by omega), up_n (by omega) rfl]
        · rw [r2 y (by omega), up_n (by omega) rfl, q2 y (by omega), up_n (by omega) rfl]
  · have hbad : ∀ i, i < 2 → ¬ a = nI i := fun i hi e => hin ⟨i, hi, e⟩
    refine R_iload_n (pc := 0) dX11_keep_0 rfl ?_
    refine R_iconst (pc := 1) (x := nI 0) dX11_keep_1 rfl ?_
    refine R_iconst (pc := 2) (x := nI 1) dX11_keep_2 rfl ?_
    refine R_callS (pc := 3) dX11_keep_3 rfl (Or.inl rfl) rfl rfl ?_
    refine c_inG (a := 0) (b := 1) rfl rfl (by omega) (by omega) (fun j _ hj e9 => absurd e9 (hbad j (by omega))) (fun e => ?_)
    · refine R_if_ne (pc := 6) (t := 12) dX11_keep_6 (by decide) (fun hz9 => absurd hz9 (by decide)) (fun _ => ?_)
      refine R_ldc (pc := 9) (x := (-1000001)) dX11_keep_9 rfl ?_
      refine R_iret (pc := 11) dX11_keep_11 rfl ?_
      exact hB hbad
end CE7
