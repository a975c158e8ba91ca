section CE4
variable {sA : Nat} {h : Nat → Option am_C} {z : Nat × Nat} {Q : Option Value → am_H → Prop}
theorem DkR.card {U V : Nat → Int32} {n c : Nat} {pe : Nat → Nat} {K : Nat → CdX} {C : CdX} (a : DkR U n pe K) (hc : c < n) (e : ∀ j, 19 ≤ j → j < 1060 → (j < 20 + 26 * c ∨ 20 + 26 * c + 26 ≤ j) → V j = U j) (h1 : ∀ k, k < 24 → C.1 k = V (20 + 26 * c + k)) (h2 : C.2.1 = V (20 + 26 * c + 24)) (h3 : C.2.2 = V (20 + 26 * c + 25)) : DkR V n pe (updK K (pe c) C) := by
  obtain ⟨c1, c2, c3, c4⟩ := a
  refine ⟨(e 19 (by omega) (by omega) (by omega)).trans c1, c2, c3, fun i hi => ?_⟩
  by_cases q : i = c
  · subst q
    rw [updK_s]
    exact ⟨h1, h2, h3⟩
  · rw [updK_n (fun q2 => q (c3 i c (by omega) (by omega) q2))]
    obtain ⟨q1, q2, q3⟩ := c4 i hi
    exact ⟨fun k hk => by rw [e _ (by omega) (by omega) (by omega)]; exact q1 k hk, by rw [e _ (by omega) (by omega) (by omega)]; exact q2, by rw [e _ (by omega) (by omega) (by omega)]; exact q3⟩
theorem c11_repunch {x B Y pm fl l : Nat} {PA IM T U : Nat → Int32} {fk fp : Int32} {P Wd : Nat → Nat} {n : Nat} {pe : Nat → Nat} {K : Nat → CdX} {R : RpX} {se co : Nat → Int32} {a b d : Int32} (r : RstI h z x B Y PA pm IM fl T l fk fp) (sa : StAt h (x + 1) P Wd n pe K R se co) (sr : StR U P Wd n pe K R se co) (sc : ScrI h x) (hB : (∀ c k, ¬ rpOK n a b d c k) → Q (some (.int (-1000001))) (h, z)) (hG : ∀ c k, rpOK n a b d c k → ∀ (h3 : Nat → Option am_C) (z3 : Nat × Nat), OutI h h3 z3 x B Y (upd U (20 + 26 * c + k) d) (remP U PA pm) (remN pm) IM fl T l fk fp → Q (some (.int (U (20 + 26 * c + k)))) (h3, z3)) : Rn sA mX11_repunch 0 [some (.ref x), some (.int a), some (.int b), some (.int d), none, none] [] (h, z) Q := by
  have hx := r.2.1
  have st : StW h (x + 1) U := ⟨P, Wd, n, pe, K, R, se, co, sa, sr⟩
  have sa1 := sa.1
  have hn := sr.2.2.1.2.1
  have h94 : ∃ fs, h (x + 94) = some (.inr (2, fs)) := by obtain ⟨_, _, ⟨_, _, q, _⟩, _⟩ := r; exact ⟨_, q.1⟩
  obtain ⟨fs94, h94⟩ := h94
  refine R_aload_n (pc := 0) dX11_repunch_0 rfl ?_
  refine R_getf (pc := 1) dX11_repunch_1 rfl (by repeat (first | assumption | exact up_s | refine up_n (by omega) ?_)) rfl ?_
  refine R_getf (pc := 4) dX11_repunch_4 rfl (by repeat (first | assumption | exact up_s | refine up_n (by omega) ?_)) rfl ?_
  refine R_iload_n (pc := 7) dX11_repunch_7 rfl ?_
  refine R_callV (pc := 8) dX11_repunch_8 rfl sa.2.2.1.1 rfl rfl ?_
  refine c1_has sa.2.2.1 (by omega) (fun c hc e => ?_) (fun e => ?_)
  · subst e
    refine R_if_eq (pc := 11) (t := 37) dX11_repunch_11 (by decide) (fun hz9 => absurd hz9 (by decide)) (fun _ => ?_)
    refine R_iload_n (pc := 14) dX11_repunch_14 rfl ?_
    refine R_callS (pc := 15) dX11_repunch_15 rfl (Or.inl rfl) rfl rfl ?_
    refine c_isColumn (fun k hk e2 => ?_) (fun e2 => ?_)
    · subst e2
      refine R_if_eq (pc := 18) (t := 37) dX11_repunch_18 (by decide) (fun hz9 => absurd hz9 (by decide)) (fun _ => ?_)
      refine R_iload_n (pc := 21) dX11_repunch_21 rfl ?_
      refine R_ldc (pc := 22) (x := (-1000009)) dX11_repunch_22 rfl ?_
      refine R_icmp_eq (pc := 24) (t := 40) dX11_repunch_24 (by decide) (fun h24 => ?_) (fun h24 => ?_)
      · refine R_aload_n (pc := 40) dX11_repunch_40 rfl ?_
        refine R_getf (pc := 41) dX11_repunch_41 rfl (by repeat (first | assumption | exact up_s | refine up_n (by omega) ?_)) rfl ?_
        refine R_aload_n (pc := 44) dX11_repunch_44 rfl ?_
        refine R_getf (pc := 45) dX11_repunch_45 rfl (by repeat (first | assumption | exact up_s | refine up_n (by omega) ?_)) rfl ?_
        refine R_callV (pc := 48) dX11_repunch_48 rfl h94 rfl rfl ?_
        refine c2_record r st (fun h2 z2 r2 fr2 => ?_)
        have hB := r.1
        have hx2 := r2.2.1
        have sa2 : StAt h2 (x + 1) P Wd n pe K R se co := sa.fr (fun y y1 y2 => fr2 y (by omega) (by omega) (by omega))
        have sc2 : ScrI h2 x := sc.fr (fun y y1 y2 => fr2 y (by omega) (by omega) (by omega))
        have sa21 := sa2.1
        refine R_aload_n (pc := 51) dX11_repunch_51 rfl ?_
        refine R_getf (pc := 52) dX11_repunch_52 rfl (by repeat (first | assumption | exact up_s | refine up_n (by omega) ?_)) rfl ?_
        refine R_getf (pc := 55) dX11_repunch_55 rfl (by repeat (first | assumption | exact up_s | refine up_n (by omega) ?_)) rfl ?_
        refine R_iload_n (pc := 58) dX11_repunch_58 rfl ?_
        refine R_callV (pc := 59) dX11_repunch_59 rfl sa2.2.2.1.1 rfl rfl ?_
        refine c1_at sa2.2.2.1 (by omega) ?_
        have hpc := sa2.2.2.1.2.2.2 c (by omega)
        have cd := sa2.2.2.1.2.2.1 (pe c) hpc
        have cd1 := cd.1
        have hK := sr.2.2.1.2.2.2 c hc
        refine R_astore (pc := 62) dX11_repunch_62 (Nat.le_of_ble_eq_true rfl) rfl ?_
        refine R_aload (pc := 64) dX11_repunch_64 rfl ?_
        refine R_iload_n (pc := 66) dX11_repunch_66 rfl ?_
        refine R_callV (pc := 67) dX11_repunch_67 rfl cd1 rfl rfl ?_
        refine c0_shows cd hk ?_
        rw [hK.1 k hk]
        refine R_istore (pc := 70) dX11_repunch_70 (Nat.le_of_ble_eq_true rfl) rfl ?_
        refine R_aload (pc := 72) dX11_repunch_72 rfl ?_
        refine R_iload_n (pc := 74) dX11_repunch_74 rfl ?_
        refine R_iload_n (pc := 75) dX11_repunch_75 rfl ?_
        refine R_callV (pc := 76) dX11_repunch_76 rfl cd1 rfl rfl ?_
        refine c0_show cd hk (fun h3 k1 k2 => ?_)
        refine R_iload (pc := 79) dX11_repunch_79 rfl ?_
        refine R_iret (pc := 81) dX11_repunch_81 rfl ?_
        first
          | exact hB (fun c k q => e c q.1 q.2.2.1)
          | exact hB (fun c k q => e2 k q.2.1 q.2.2.2.1)
          | exact hB (fun c k q => q.2.2.2.2.elim h24 (fun ⟨v, v1, v2⟩ => e3 v (Nat.zero_le _) v1 v2))
          | (have ok : rpOK n (nI c) (nI k) d c k := ⟨hc, hk, rfl, rfl, by first | exact Or.inl h24 | exact Or.inr ⟨v, v2, e3⟩⟩
             refine hG c k ok h3 z2 (OutI.mk r2 sc2 fr2 (fun y hy => k2 y (by omega)) ⟨P, Wd, n, pe, _, R, se, co, ⟨(k2 (x + 1) (by omega)).trans sa21, sa2.2.1.fr (fun y y1 y2 => (k2 y (by omega))), sa2.2.2.1.card hpc k1 (fun y y1 y2 => (k2 y (by omega))), sa2.2.2.2.1.fr (fun y y1 y2 => (k2 y (by omega))), (k2 _ (by omega)).trans sa2.2.2.2.2.1, (k2 _ (by omega)).trans sa2.2.2.2.2.2⟩, sr.dk (fun j hj => ?_) (sr.2.2.1.card hc (fun j j1 j2 j3 => ?_) (fun k2 hk2 => ?_) ?_ ?_)⟩)
             · rw [upd_n (by omega)]
             · rw [upd_n (by omega)]
             · show upd (K (pe c)).1 k d k2 = upd U (20 + 26 * c + k) d (20 + 26 * c + k2)
               by_cases q : k2 = k
               · subst q; rw [upd_s, upd_s]
               · rw [upd_n q, upd_n (by omega)]; exact hK.1 k2 hk2
             · rw [upd_n (by omega)]; exact hK.2.1
             · rw [upd_n (by omega)]; exact hK.2.2)
      · refine R_iload_n (pc := 27) dX11_repunch_27 rfl ?_
        refine R_iconst (pc := 28) (x := nI 0) dX11_repunch_28 rfl ?_
        refine R_bipush (pc := 29) (x := nI 9) dX11_repunch_29 (by decide) ?_
        refine R_callS (pc := 31) dX11_repunch_31 rfl (Or.inl rfl) rfl rfl ?_
        refine c_inG (a := 0) (b := 9) rfl rfl (by omega) (by omega) (fun v _ v2 e3 => ?_) (fun e3 => ?_)
        · refine R_if_ne (pc := 34) (t := 40) dX11_repunch_34 (by decide) (fun _ => ?_) (fun hz9 => absurd hz9 (by decide))
          refine R_aload_n (pc := 40) dX11_repunch_40 rfl ?_
          refine R_getf (pc := 41) dX11_repunch_41 rfl (by repeat (first | assumption | exact up_s | refine up_n (by omega) ?_)) rfl ?_
          refine R_aload_n (pc := 44) dX11_repunch_44 rfl ?_
          refine R_getf (pc := 45) dX11_repunch_45 rfl (by repeat (first | assumption | exact up_s | refine up_n (by omega) ?_)) rfl ?_
          refine R_callV (pc := 48) dX11_repunch_48 rfl h94 rfl rfl ?_
          refine c2_record r st (fun h2 z2 r2 fr2 => ?_)
          have hB := r.1
          have hx2 := r2.2.1
          have sa2 : StAt h2 (x + 1) P Wd n pe K R se co := sa.fr (fun y y1 y2 => fr2 y (by omega) (by omega) (by omega))
          have sc2 : ScrI h2 x := sc.fr (fun y y1 y2 => fr2 y (by omega) (by omega) (by omega))
          have sa21 := sa2.1
          refine R_aload_n (pc := 51) dX11_repunch_51 rfl ?_
          refine R_getf (pc := 52) dX11_repunch_52 rfl (by repeat (first | assumption | exact up_s | refine up_n (by omega) ?_)) rfl ?_
          refine R_getf (pc := 55) dX11_repunch_55 rfl (by repeat (first | assumption | exact up_s | refine up_n (by omega) ?_)) rfl ?_
          refine R_iload_n (pc := 58) dX11_repunch_58 rfl ?_
          refine R_callV (pc := 59) dX11_repunch_59 rfl sa2.2.2.1.1 rfl rfl ?_
          refine c1_at sa2.2.2.1 (by omega) ?_
          have hpc := sa2.2.2.1.2.2.2 c (by omega)
          have cd := sa2.2.2.1.2.2.1 (pe c) hpc
          have cd1 := cd.1
          have hK := sr.2.2.1.2.2.2 c hc
          refine R_astore (pc := 62) dX11_repunch_62 (Nat.le_of_ble_eq_true rfl) rfl ?_
          refine R_aload (pc := 64) dX11_repunch_64 rfl ?_
          refine R_iload_n (pc := 66) dX11_repunch_66 rfl ?_
          refine R_callV (pc := 67) dX11_repunch_67 rfl cd1 rfl rfl ?_
          refine c0_shows cd hk ?_
          rw [hK.1 k hk]
          refine R_istore (pc := 70) dX11_repunch_70 (Nat.le_of_ble_eq_true rfl) rfl ?_
          refine R_aload (pc := 72) dX11_repunch_72 rfl ?_
          refine R_iload_n (pc := 74) dX11_repunch_74 rfl ?_
          refine R_iload_n (pc := 75) dX11_repunch_75 rfl ?_
          refine R_callV (pc := 76) dX11_repunch_76 rfl cd1 rfl rfl ?_
          refine c0_show cd hk (fun h3 k1 k2 => ?_)
          refine R_iload (pc := 79) dX11_repunch_79 rfl ?_
          refine R_iret (pc := 81) dX11_repunch_81 rfl ?_
          first
            | exact hB (fun c k q => e c q.1 q.2.2.1)
            | exact hB (fun c k q => e2 k q.2.1 q.2.2.2.1)
            | exact hB (fun c k q => q.2.2.2.2.elim h24 (fun ⟨v, v1, v2⟩ => e3 v (Nat.zero_le _) v1 v2))
            | (have ok : rpOK n (nI c) (nI k) d c k := ⟨hc, hk, rfl, rfl, by first | exact Or.inl h24 | exact Or.inr ⟨v, v2, e3⟩⟩
               refine hG c k ok h3 z2 (OutI.mk r2 sc2 fr2 (fun y hy => k2 y (by omega)) ⟨P, Wd, n, pe, _, R, se, co, ⟨(k2 (x + 1) (by omega)).trans sa21, sa2.2.1.fr (fun y y1 y2 => (k2 y (by omega))), sa2.2.2.1.card hpc k1 (fun y y1 y2 => (k2 y (by omega))), sa2.2.2.2.1.fr (fun y y1 y2 => (k2 y (by omega))), (k2 _ (by omega)).trans sa2.2.2.2.2.1, (k2 _ (by omega)).trans sa2.2.2.2.2.2⟩, sr.dk (fun j hj => ?_) (sr.2.2.1.card hc (fun j j1 j2 j3 => ?_) (fun k2 hk2 => ?_) ?_ ?_)⟩)
               · rw [upd_n (by omega)]
               · rw [upd_n (by omega)]
               · show upd (K (pe c)).1 k d k2 = upd U (20 + 26 * c + k) d (20 + 26 * c + k2)
                 by_cases q : k2 = k
                 · subst q; rw [upd_s, upd_s]
                 · rw [upd_n q, upd_n (by omega)]; exact hK.1 k2 hk2
               · rw [upd_n (by omega)]; exact hK.2.1
               · rw [upd_n (by omega)]; exact hK.2.2)
        · refine R_if_ne (pc := 34) (t := 40) dX11_repunch_34 (by decide) (fun hz9 => absurd hz9 (by decide)) (fun _ => ?_)
          refine R_ldc (pc := 37) (x := (-1000001)) dX11_repunch_37 rfl ?_
          refine R_iret (pc := 39) dX11_repunch_39 rfl ?_
          first
            | exact hB (fun c k q => e c q.1 q.2.2.1)
            | exact hB (fun c k q => e2 k q.2.1 q.2.2.2.1)
            | exact hB (fun c k q => q.2.2.2.2.elim h24 (fun ⟨v, v1, v2⟩ => e3 v (Nat.zero_le _) v1 v2))
            | (have ok : rpOK n (nI c) (nI k) d c k := ⟨hc, hk, rfl, rfl, by first | exact Or.inl h24 | exact Or.inr ⟨v, v2, e3⟩⟩
               refine hG c k ok h3 z2 (OutI.mk r2 sc2 fr2 (fun y hy => k2 y (by omega)) ⟨P, Wd, n, pe, _, R, se, co, ⟨(k2 (x + 1) (by omega)).trans sa21, sa2.2.1.fr (fun y y1 y2 => (k2 y (by omega))), sa2.2.2.1.card hpc k1 (fun y y1 y2 => (k2 y (by omega))), sa2.2.2.2.1.fr (fun y y1 y2 => (k2 y (by omega))), (k2 _ (by omega)).trans sa2.2.2.2.2.1, (k2 _ (by omega)).trans sa2.2.2.2.2.2⟩, sr.dk (fun j hj => ?_) (sr.2.2.1.card hc (fun j j1 j2 j3 => ?_) (fun k2 hk2 => ?_) ?_ ?_)⟩)
               · rw [upd_n (by omega)]
               · rw [upd_n (by omega)]
               · show upd (K (pe c)).1 k d k2 = upd U (20 + 26 * c + k) d (20 + 26 * c + k2)
                 by_cases q : k2 = k
                 · subst q; rw [upd_s, upd_s]
                 · rw [upd_n q, upd_n (by omega)]; exact hK.1 k2 hk2
               · rw [upd_n (by omega)]; exact hK.2.1
               · rw [upd_n (by omega)]; exact hK.2.2)
    · refine R_if_eq (pc := 18) (t := 37) dX11_repunch_18 (by decide) (fun _ => ?_) (fun hz9 => absurd hz9 (by decide))
      refine R_ldc (pc := 37) (x := (-1000001)) dX11_repunch_37 rfl ?_
      refine R_iret (pc := 39) dX11_repunch_39 rfl ?_
      first
        | exact hB (fun c k q => e c q.1 q.2.2.1)
        | exact hB (fun c k q => e2 k q.2.1 q.2.2.2.1)
        | exact hB (fun c k q => q.2.2.2.2.elim h24 (fun ⟨v, v1, v2⟩ => e3 v (Nat.zero_le _) v1 v2))
        | (have ok : rpOK n (nI c) (nI k) d c k := ⟨hc, hk, rfl, rfl, by first | exact Or.inl h24 | exact Or.inr ⟨v, v2, e3⟩⟩
           refine hG c k ok h3 z2 (OutI.mk r2 sc2 fr2 (fun y hy => k2 y (by omega)) ⟨P, Wd, n, pe, _, R, se, co, ⟨(k2 (x + 1) (by omega)).trans sa21, sa2.2.1.fr (fun y y1 y2 => (k2 y (by omega))), sa2.2.2.1.card hpc k1 (fun y y1 y2 => (k2 y (by omega))), sa2.2.2.2.1.fr (fun y y1 y2 => (k2 y (by omega))), (k2 _ (by omega)).trans sa2.2.2.2.2.1, (k2 _ (by omega)).trans sa2.2.2.2.2.2⟩, sr.dk (fun j hj => ?_) (sr.2.2.1.card hc (fun j j1 j2 j3 => ?_) (fun k2 hk2 => ?_) ?_ ?_)⟩)
           · rw [upd_n (by omega)]
           · rw [upd_n (by omega)]
           · show upd (K (pe c)).1 k d k2 = upd U (20 + 26 * c + k) d (20 + 26 * c + k2)
             by_cases q : k2 = k
             · subst q; rw [upd_s, upd_s]
             · rw [upd_n q, upd_n (by omega)]; exact hK.1 k2 hk2
           · rw [upd_n (by omega)]; exact hK.2.1
           · rw [upd_n (by omega)]; exact hK.2.2)
  · refine R_if_eq (pc := 11) (t := 37) dX11_repunch_11 (by decide) (fun _ => ?_) (fun hz9 => absurd hz9 (by decide))
    refine R_ldc (pc := 37) (x := (-1000001)) dX11_repunch_37 rfl ?_
    refine R_iret (pc := 39) dX11_repunch_39 rfl ?_
    first
      | exact hB (fun c k q => e c q.1 q.2.2.1)
      | exact hB (fun c k q => e2 k q.2.1 q.2.2.2.1)
      | exact hB (fun c k q => q.2.2.2.2.elim h24 (fun ⟨v, v1, v2⟩ => e3 v (Nat.zero_le _) v1 v2))
      | (have ok : rpOK n (nI c) (nI k) d c k := ⟨hc, hk, rfl, rfl, by first | exact Or.inl h24 | exact Or.inr ⟨v, v2, e3⟩⟩
         refine hG c k ok h3 z2 (OutI.mk r2 sc2 fr2 (fun y hy => k2 y (by omega)) ⟨P, Wd, n, pe, _, R, se, co, ⟨(k2 (x + 1) (by omega)).trans sa21, sa2.2.1.fr (fun y y1 y2 => (k2 y (by omega))), sa2.2.2.1.card hpc k1 (fun y y1 y2 => (k2 y (by omega))), sa2.2.2.2.1.fr (fun y y1 y2 => (k2 y (by omega))), (k2 _ (by omega)).trans sa2.2.2.2.2.1, (k2 _ (by omega)).trans sa2.2.2.2.2.2⟩, sr.dk (fun j hj => ?_) (sr.2.2.1.card hc (fun j j1 j2 j3 => ?_) (fun k2 hk2 => ?_) ?_ ?_)⟩)
         · rw [upd_n (by omega)]
         · rw [upd_n (by omega)]
         · show upd (K (pe c)).1 k d k2 = upd U (20 + 26 * c + k) d (20 + 26 * c + k2)
           by_cases q : k2 = k
           · subst q; rw [upd_s, upd_s]
           · rw [upd_n q, upd_n (by omega)]; exact hK.1 k2 hk2
         · rw [upd_n (by omega)]; exact hK.2.1
         · rw [upd_n (by omega)]; exact hK.2.2)
theorem c11_mark {x B Y pm fl l : Nat} {PA IM T U : Nat → Int32} {fk fp : Int32} {P Wd : Nat → Nat} {n : Nat} {pe : Nat → Nat} {K : Nat → CdX} {R : RpX} {se co : Nat → Int32} {a b d : Int32} (r : RstI h z x B Y PA pm IM fl T l fk fp) (sa : StAt h (x + 1) P Wd n pe K R se co) (sr : StR U P Wd n pe K R se co) (sc : ScrI h x) (hB : (∀ c k t, ¬ mkOK n a b d c k t) → Q (some (.int (-1000001))) (h, z)) (hG : ∀ c k t, mkOK n a b d c k t → ∀ (h3 : Nat → Option am_C) (z3 : Nat × Nat), OutI h h3 z3 x B Y (upd (upd U (20 + 26 * c + 24) b) (20 + 26 * c + 25) d) (remP U PA pm) (remN pm) IM fl T l fk fp → Q (some (.int (U (20 + 26 * c + 24)))) (h3, z3)) : Rn sA mX11_mark 0 [some (.ref x), some (.int a), some (.int b), some (.int d), none, none] [] (h, z) Q := by
  have hx := r.2.1
  have st : StW h (x + 1) U := ⟨P, Wd, n, pe, K, R, se, co, sa, sr⟩
  have sa1 := sa.1
  have hn := sr.2.2.1.2.1
  have h94 : ∃ fs, h (x + 94) = some (.inr (2, fs)) := by obtain ⟨_, _, ⟨_, _, q, _⟩, _⟩ := r; exact ⟨_, q.1⟩
  obtain ⟨fs94, h94⟩ := h94
  refine R_aload_n (pc := 0) dX11_mark_0 rfl ?_
  refine R_getf (pc := 1) dX11_mark_1 rfl (by repeat (first | assumption | exact up_s | refine up_n (by omega) ?_)) rfl ?_
  refine R_getf (pc := 4) dX11_mark_4 rfl (by repeat (first | assumption | exact up_s | refine up_n (by omega) ?_)) rfl ?_
  refine R_iload_n (pc := 7) dX11_mark_7 rfl ?_
  refine R_callV (pc := 8) dX11_mark_8 rfl sa.2.2.1.1 rfl rfl ?_
  refine c1_has sa.2.2.1 (by omega) (fun c hc e => ?_) (fun e => ?_)
  · subst e
    refine R_if_eq (pc := 11) (t := 30) dX11_mark_11 (by decide) (fun hz9 => absurd hz9 (by decide)) (fun _ => ?_)
    refine R_iload_n (pc := 14) dX11_mark_14 rfl ?_
    refine R_iconst (pc := 15) (x := nI 0) dX11_mark_15 rfl ?_
    refine R_iconst (pc := 16) (x := nI 3) dX11_mark_16 rfl ?_
    refine R_callS (pc := 17) dX11_mark_17 rfl (Or.inl rfl) rfl rfl ?_
    refine c_inG (a := 0) (b := 3) rfl rfl (by omega) (by omega) (fun k _ k3 e2 => ?_) (fun e2 => ?_)
    · subst e2
      refine R_if_eq (pc := 20) (t := 30) dX11_mark_20 (by decide) (fun hz9 => absurd hz9 (by decide)) (fun _ => ?_)
      refine R_iload_n (pc := 23) dX11_mark_23 rfl ?_
      refine R_callS (pc := 24) dX11_mark_24 rfl (Or.inl rfl) rfl rfl ?_
      refine c_isColumn (fun t ht e3 => ?_) (fun e3 => ?_)
      · subst e3
        refine R_if_ne (pc := 27) (t := 33) dX11_mark_27 (by decide) (fun _ => ?_) (fun hz9 => absurd hz9 (by decide))
        refine R_aload_n (pc := 33) dX11_mark_33 rfl ?_
        refine R_getf (pc := 34) dX11_mark_34 rfl (by repeat (first | assumption | exact up_s | refine up_n (by omega) ?_)) rfl ?_
        refine R_aload_n (pc := 37) dX11_mark_37 rfl ?_
        refine R_getf (pc := 38) dX11_mark_38 rfl (by repeat (first | assumption | exact up_s | refine up_n (by omega) ?_)) rfl ?_
        refine R_callV (pc := 41) dX11_mark_41 rfl h94 rfl rfl ?_
        refine c2_record r st (fun h2 z2 r2 fr2 => ?_)
        have hB := r.1
        have hx2 := r2.2.1
        have sa2 : StAt h2 (x + 1) P Wd n pe K R se co := sa.fr (fun y y1 y2 => fr2 y (by omega) (by omega) (by omega))
        have sc2 : ScrI h2 x := sc.fr (fun y y1 y2 => fr2 y (by omega) (by omega) (by omega))
        have sa21 := sa2.1
        refine R_aload_n (pc := 44) dX11_mark_44 rfl ?_
        refine R_getf (pc := 45) dX11_mark_45 rfl (by repeat (first | assumption | exact up_s | refine up_n (by omega) ?_)) rfl ?_
        refine R_getf (pc := 48) dX11_mark_48 rfl (by repeat (first | assumption | exact up_s | refine up_n (by omega) ?_)) rfl ?_
        refine R_iload_n (pc := 51) dX11_mark_51 rfl ?_
        refine R_callV (pc := 52) dX11_mark_52 rfl sa2.2.2.1.1 rfl rfl ?_
        refine c1_at sa2.2.2.1 (by omega) ?_
        have hpc := sa2.2.2.1.2.2.2 c (by omega)
        have cd := sa2.2.2.1.2.2.1 (pe c) hpc
        have cd1 := cd.1
        have hK := sr.2.2.1.2.2.2 c hc
        refine R_astore (pc := 55) dX11_mark_55 (Nat.le_of_ble_eq_true rfl) rfl ?_
        refine R_aload (pc := 57) dX11_mark_57 rfl ?_
        refine R_getf (pc := 59) dX11_mark_59 rfl (by repeat (first | assumption | exact up_s | refine up_n (by omega) ?_)) rfl ?_
        refine R_istore (pc := 62) dX11_mark_62 (Nat.le_of_ble_eq_true rfl) rfl ?_
        refine R_aload (pc := 64) dX11_mark_64 rfl ?_
        refine R_iload_n (pc := 66) dX11_mark_66 rfl ?_
        refine R_putf (pc := 67) dX11_mark_67 rfl (by repeat (first | assumption | exact up_s | refine up_n (by omega) ?_)) rfl (Or.inl rfl) rfl ?_
        refine R_aload (pc := 70) dX11_mark_70 rfl ?_
        refine R_iload_n (pc := 72) dX11_mark_72 rfl ?_
        refine R_putf (pc := 73) dX11_mark_73 rfl (by repeat (first | assumption | exact up_s | refine up_n (by omega) ?_)) rfl (Or.inl rfl) rfl ?_
        refine R_iload (pc := 76) dX11_mark_76 rfl ?_
        refine R_iret (pc := 78) dX11_mark_78 rfl ?_
        first
          | exact hB (fun c k t q => e c q.1 q.2.2.2.1)
          | exact hB (fun c k t q => e2 k (Nat.zero_le _) q.2.1 q.2.2.2.2.1)
          | exact hB (fun c k t q => e3 t q.2.2.1 q.2.2.2.2.2)
          | (rw [hK.2.1]
             refine hG c k t ⟨hc, by omega, ht, rfl, rfl, rfl⟩ _ z2 (OutI.mk r2 sc2 fr2 (fun y hy => by rw [up_n (by omega) rfl, up_n (by omega) rfl]) ⟨P, Wd, n, pe, _, R, se, co, ⟨(up_n (by omega) (up_n (by omega) rfl)).trans sa21, sa2.2.1.fr (fun y y1 y2 => up_n (by omega) (up_n (by omega) rfl)), sa2.2.2.1.card hpc (C := ((K (pe c)).1, nI k, nI t)) ⟨up_s, up_n (by omega) (up_n (by omega) cd.2)⟩ (fun y y1 y2 => up_n (by omega) (up_n (by omega) rfl)), sa2.2.2.2.1.fr (fun y y1 y2 => up_n (by omega) (up_n (by omega) rfl)), (up_n (by omega) (up_n (by omega) rfl)).trans sa2.2.2.2.2.1, (up_n (by omega) (up_n (by omega) rfl)).trans sa2.2.2.2.2.2⟩, sr.dk (fun j hj => ?_) (sr.2.2.1.card hc (fun j j1 j2 j3 => ?_) (fun k2 hk2 => ?_) ?_ ?_)⟩)
             · rw [upd_n (by omega), upd_n (by omega)]
             · rw [upd_n (by omega), upd_n (by omega)]
             · rw [upd_n (by omega), upd_n (by omega)]; exact hK.1 k2 hk2
             · rw [upd_n (by omega), upd_s]
             · rw [upd_s])
      · refine R_if_ne (pc := 27) (t := 33) dX11_mark_27 (by decide) (fun hz9 => absurd hz9 (by decide)) (fun _ => ?_)
        refine R_ldc (pc := 30) (x := (-1000001)) dX11_mark_30 rfl ?_
        refine R_iret (pc := 32) dX11_mark_32 rfl ?_
        first
          | exact hB (fun c k t q => e c q.1 q.2.2.2.1)
          | exact hB (fun c k t q => e2 k (Nat.zero_le _) q.2.1 q.2.2.2.2.1)
          | exact hB (fun c k t q => e3 t q.2.2.1 q.2.2.2.2.2)
          | (rw [hK.2.1]
             refine hG c k t ⟨hc, by omega, ht, rfl, rfl, rfl⟩ _ z2 (OutI.mk r2 sc2 fr2 (fun y hy => by rw [up_n (by omega) rfl, up_n (by omega) rfl]) ⟨P, Wd, n, pe, _, R, se, co, ⟨(up_n (by omega) (up_n (by omega) rfl)).trans sa21, sa2.2.1.fr (fun y y1 y2 => up_n (by omega) (up_n (by omega) rfl)), sa2.2.2.1.card hpc (C := ((K (pe c)).1, nI k, nI t)) ⟨up_s, up_n (by omega) (up_n (by omega) cd.2)⟩ (fun y y1 y2 => up_n (by omega) (up_n (by omega) rfl)), sa2.2.2.2.1.fr (fun y y1 y2 => up_n (by omega) (up_n (by omega) rfl)), (up_n (by omega) (up_n (by omega) rfl)).trans sa2.2.2.2.2.1, (up_n (by omega) (up_n (by omega) rfl)).trans sa2.2.2.2.2.2⟩, sr.dk (fun j hj => ?_) (sr.2.2.1.card hc (fun j j1 j2 j3 => ?_) (fun k2 hk2 => ?_) ?_ ?_)⟩)
             · rw [upd_n (by omega), upd_n (by omega)]
             · rw [upd_n (by omega), upd_n (by omega)]
             · rw [upd_n (by omega), upd_n (by omega)]; exact hK.1 k2 hk2
             · rw [upd_n (by omega), upd_s]
             · rw [upd_s])
    · refine R_if_eq (pc := 20) (t := 30) dX11_mark_20 (by decide) (fun _ => ?_) (fun hz9 => absurd hz9 (by decide))
      refine R_ldc (pc := 30) (x := (-1000001)) dX11_mark_30 rfl ?_
      refine R_iret (pc := 32) dX11_mark_32 rfl ?_
      first
        | exact hB (fun c k t q => e c q.1 q.2.2.2.1)
        | exact hB (fun c k t q => e2 k (Nat.zero_le _) q.2.1 q.2.2.2.2.1)
        | exact hB (fun c k t q => e3 t q.2.2.1 q.2.2.2.2.2)
        | (rw [hK.2.1]
           refine hG c k t ⟨hc, by omega, ht, rfl, rfl, rfl⟩ _ z2 (OutI.mk r2 sc2 fr2 (fun y hy => by rw [up_n (by omega) rfl, up_n (by omega) rfl]) ⟨P, Wd, n, pe, _, R, se, co, ⟨(up_n (by omega) (up_n (by omega) rfl)).trans sa21, sa2.2.1.fr (fun y y1 y2 => up_n (by omega) (up_n (by omega) rfl)), sa2.2.2.1.card hpc (C := ((K (pe c)).1, nI k, nI t)) ⟨up_s, up_n (by omega) (up_n (by omega) cd.2)⟩ (fun y y1 y2 => up_n (by omega) (up_n (by omega) rfl)), sa2.2.2.2.1.fr (fun y y1 y2 => up_n (by omega) (up_n (by omega) rfl)), (up_n (by omega) (up_n (by omega) rfl)).trans sa2.2.2.2.2.1, (up_n (by omega) (up_n (by omega) rfl)).trans sa2.2.2.2.2.2⟩, sr.dk (fun j hj => ?_) (sr.2.2.1.card hc (fun j j1 j2 j3 => ?_) (fun k2 hk2 => ?_) ?_ ?_)⟩)
           · rw [upd_n (by omega), upd_n (by omega)]
           · rw [upd_n (by omega), upd_n (by omega)]
           · rw [upd_n (by omega), upd_n (by omega)]; exact hK.1 k2 hk2
           · rw [upd_n (by omega), upd_s]
           · rw [upd_s])
  · refine R_if_eq (pc := 11) (t := 30) dX11_mark_11 (by decide) (fun _ => ?_) (fun hz9 => absurd hz9 (by decide))
    refine R_ldc (pc := 30) (x := (-1000001)) dX11_mark_30 rfl ?_
    refine R_iret (pc := 32) dX11_mark_32 rfl ?_
    first
      | exact hB (fun c k t q => e c q.1 q.2.2.2.1)
      | exact hB (fun c k t q => e2 k (Nat.zero_le _) q.2.1 q.2.2.2.2.1)
      | exact hB (fun c k t q => e3 t q.2.2.1 q.2.2.2.2.2)
      | (rw [hK.2.1]
         refine hG c k t ⟨hc, by omega, ht, rfl, rfl, rfl⟩ _ z2 (OutI.mk r2 sc2 fr2 (fun y hy => by rw [up_n (by omega) rfl, up_n (by omega) rfl]) ⟨P, Wd, n, pe, _, R, se, co, ⟨(up_n (by omega) (up_n (by omega) rfl)).trans sa21, sa2.2.1.fr (fun y y1 y2 => up_n (by omega) (up_n (by omega) rfl)), sa2.2.2.1.card hpc (C := ((K (pe c)).1, nI k, nI t)) ⟨up_s, up_n (by omega) (up_n (by omega) cd.2)⟩ (fun y y1 y2 => up_n (by omega) (up_n (by omega) rfl)), sa2.2.2.2.1.fr (fun y y1 y2 => up_n (by omega) (up_n (by omega) rfl)), (up_n (by omega) (up_n (by omega) rfl)).trans sa2.2.2.2.2.1, (up_n (by omega) (up_n (by omega) rfl)).trans sa2.2.2.2.2.2⟩, sr.dk (fun j hj => ?_) (sr.2.2.1.card hc (fun j j1 j2 j3 => ?_) (fun k2 hk2 => ?_) ?_ ?_)⟩)
         · rw [upd_n (by omega), upd_n (by omega)]
         · rw [upd_n (by omega), upd_n (by omega)]
         · rw [upd_n (by omega), upd_n (by omega)]; exact hK.1 k2 hk2
         · rw [upd_n (by omega), upd_s]
         · rw [upd_s])
theorem c11_punch {x B Y pm fl l : Nat} {PA IM T U : Nat → Int32} {fk fp : Int32} {P Wd : Nat → Nat} {n : Nat} {pe : Nat → Nat} {K : Nat → CdX} {R : RpX} {se co : Nat → Int32} {a : Int32} (r : RstI h z x B Y PA pm IM fl T l fk fp) (sa : StAt h (x + 1) P Wd n pe K R se co) (sr : StR U P Wd n pe K R se co) (sc : ScrI h x) (hB : (∀ c, c ≤ n → ¬ a = nI c) → Q (some (.int (-1000001))) (h, z)) (hE : ∀ c, c ≤ n → a = nI c → ¬ (scL Wd T l 0 sc0).1 = 0 → ∀ h3 : Nat → Option am_C, RstI h3 z x B Y PA pm IM fl T l (nI (scL Wd T l 0 sc0).1) (nI (scL Wd T l 0 sc0).2.1) → (∀ a, (a < x + 97 ∨ x + 101 ≤ a) → h3 a = h a) → Q (some (.int (-1000002))) (h3, z)) (hF : ∀ c, c ≤ n → a = nI c → (scL Wd T l 0 sc0).1 = 0 → n = 40 → ∀ h3 : Nat → Option am_C, RstI h3 z x B Y PA pm IM fl T l fk fp → (∀ a, (a < x + 97 ∨ x + 101 ≤ a) → h3 a = h a) → Q (some (.int (-1000003))) (h3, z)) (hG : ∀ c, c ≤ n → a = nI c → (scL Wd T l 0 sc0).1 = 0 → n < 40 → ∀ (h3 : Nat → Option am_C) (z3 : Nat × Nat), (∀ a, (a < x ∨ (x + 158 ≤ a ∧ a < B)) → h3 a = h a) → (∀ V : Nat → Int32, PnW U n c (psA P Wd (scL Wd T l 0 sc0).2.2) V → OutI h h3 z3 x B Y V (remP U PA pm) (remN pm) IM fl T l fk fp) → Q (some (.int (nI (n + 1)))) (h3, z3)) : Rn sA mX11_punch 0 [some (.ref x), some (.int a), none] [] (h, z) Q := by
  have hx := r.2.1
  have st : StW h (x + 1) U := ⟨P, Wd, n, pe, K, R, se, co, sa, sr⟩
  have sa1 := sa.1
  have hn := sr.2.2.1.2.1
  have h94 : ∃ fs, h (x + 94) = some (.inr (2, fs)) := by obtain ⟨_, _, ⟨_, _, q, _⟩, _⟩ := r; exact ⟨_, q.1⟩
  obtain ⟨fs94, h94⟩ := h94
  have hl := r.2.2.2.2
  have tx := r.2.2.2.1
  have tx9 := tx
  obtain ⟨t2, t3, wv, tx1, -⟩ := tx9
  have hTs : (scL Wd T l 0 sc0).1 = 0 → TsT T l (scL Wd T l 0 sc0).2.2 := fun q => by have := scL_T l 0 sc0 (sc0_T (T := T)) q; rw [Nat.zero_add] at this; exact this
  have hOK : TsOK Wd (scL Wd T l 0 sc0).2.2 := scL_ok l 0 sc0 sc0_ok
  refine R_iload_n (pc := 0) dX11_punch_0 rfl ?_
  refine R_iconst (pc := 1) (x := nI 0) dX11_punch_1 rfl ?_
  refine R_aload_n (pc := 2) dX11_punch_2 rfl ?_
  refine R_getf (pc := 3) dX11_punch_3 rfl (by repeat (first | assumption | exact up_s | refine up_n (by omega) ?_)) rfl ?_
  refine R_getf (pc := 6) dX11_punch_6 rfl (by repeat (first | assumption | exact up_s | refine up_n (by omega) ?_)) rfl ?_
  refine R_callV (pc := 9) dX11_punch_9 rfl sa.2.2.1.1 rfl rfl ?_
  refine c1_size sa.2.2.1 ?_
  refine R_callS (pc := 12) dX11_punch_12 rfl (Or.inl rfl) rfl rfl ?_
  refine c_inG (a := 0) (b := n) rfl rfl (Nat.zero_le _) (by omega) (fun c _ hc e => ?_) (fun e => ?_)
  · subst e
    refine R_if_ne (pc := 15) (t := 21) dX11_punch_15 (by decide) (fun _ => ?_) (fun hz9 => absurd hz9 (by decide))
    refine R_aload_n (pc := 21) dX11_punch_21 rfl ?_
    refine R_getf (pc := 22) dX11_punch_22 rfl (by repeat (first | assumption | exact up_s | refine up_n (by omega) ?_)) rfl ?_
    refine R_aload_n (pc := 25) dX11_punch_25 rfl ?_
    refine R_getf (pc := 26) dX11_punch_26 rfl (by repeat (first | assumption | exact up_s | refine up_n (by omega) ?_)) rfl ?_
    refine R_getf (pc := 29) dX11_punch_29 rfl (by repeat (first | assumption | exact up_s | refine up_n (by omega) ?_)) rfl ?_
    refine R_callV (pc := 32) dX11_punch_32 rfl tx1 rfl rfl ?_
    refine c9_readsAsCard tx sa.2.1 sr.2.1 hl (by omega) (fun h1 q0 q1 q2 => ?_) (fun h1 q0 q1 q2 => ?_)
    · refine R_if_ne (pc := 35) (t := 41) dX11_punch_35 (by decide) (fun hz9 => absurd hz9 (by decide)) (fun _ => ?_)
      refine R_ldc (pc := 38) (x := (-1000002)) dX11_punch_38 rfl ?_
      refine R_iret (pc := 40) dX11_punch_40 rfl ?_
      first
        | exact hB (fun c hc q => e c (Nat.zero_le _) hc q)
        | exact hE c hc rfl q0 h1 (r.txt q1 hl q2) (fun y hy => q2 y (by omega))
        | exact hF c hc rfl q0 h48 h1 r1 (fun y hy => q2 y (by omega))
        | (refine hG c hc rfl q0 h48 h5 z2 (fun y hy => by rw [fA y (by omega), fr2 y (by omega) (by omega) (by omega), q2 y (by omega)]) (fun V v => ⟨⟨P, Wd, n + 1, _, _, R, se, co, ⟨sa51, sa2.2.1.fr (fun y y1 y2 => fA y (by omega)), dk5, sa2.2.2.2.1.fr (fun y y1 y2 => fA y (by omega)), (fA _ (by omega)).trans sa2.2.2.2.2.1, (fA _ (by omega)).trans sa2.2.2.2.2.2⟩, sr.dk (fun j hj => v.2.2.2.2.2 j (by omega)) ⟨v.2.2.2.2.1, by omega, sr.2.2.1.2.2.1.mv (by omega) (by omega), fun i hi => ?_⟩⟩, r2.fr (fun y hy => fA y (by omega)), sc2.fr (fun y y1 y2 => fA y (by omega)), fun y hy => ?_⟩)
           · by_cases ei : i = c
             · subst ei
               dsimp only
               rw [show mvO2 n i i = n from if_pos rfl, updK_s]
               refine ⟨fun k hk => ?_, ?_, ?_⟩
               · rw [v.2.1 k hk]
                 show upd C3.1 (P 5) (dueR P Wd C3.1) k = psA P Wd (scL Wd T l 0 sc0).2.2 k
                 have hps : ∀ j, j < 24 → C3.1 j = psO P Wd (scL Wd T l 0 sc0).2.2.2.1 (scL Wd T l 0 sc0).2.2.2.2.1 5 0 psN j := fun j hj => (j3 j hj).trans (psO_congr 5 0 _ _ (fun y hy => i3 y hy) j hj)
                 unfold psA
                 rw [dueR_congr sr.1 hps]
                 by_cases ek : k = P 5
                 · subst ek; rw [upd_s, upd_s]
                 · rw [upd_n ek, upd_n ek]; exact hps k hk
               · rw [v.2.2.1]; show C3.2.1 = nI 0; rw [j2, i2]
               · rw [v.2.2.2.1]; show C3.2.2 = nI 0; rw [j2, i2]
             · have em : mvO2 n c i = shO c i := by unfold mvO2 shO; (repeat' split) <;> omega
               have el : shO c i < n := by unfold shO; split <;> omega
               obtain ⟨k1, k2, k3⟩ := sr.2.2.1.2.2.2 (shO c i) el
               have en : ¬ pe (shO c i) = pe n := fun q => by have := sr.2.2.1.2.2.1 _ _ (by omega) (by omega) q; omega
               have ev := v.1 i (by omega) ei
               dsimp only
               rw [em, updK_n en, updK_n en]
               exact ⟨fun k hk => by rw [ev k (by omega)]; exact k1 k hk, by rw [ev 24 (by omega)]; exact k2, by rw [ev 25 (by omega)]; exact k3⟩
           · rw [fA y (by omega), fr2 y (by omega) (by omega) (by omega), q2 y (by omega)])
    · have r1 : RstI h1 z x B Y PA pm IM fl T l fk fp := r.txt q1.w hl q2
      have hx1 := r1.2.1
      have sc1 : ScrI h1 x := sc.fr (fun y y1 y2 => q2 y (by omega))
      have sA1 : StAt h1 (x + 1) P Wd n pe K R se co := sa.fr (fun y y1 y2 => q2 y (by omega))
      have st1 : StW h1 (x + 1) U := ⟨P, Wd, n, pe, K, R, se, co, sA1, sr⟩
      have sA11 := sA1.1
      have h941 := (q2 (x + 94) (by omega)).trans h94
      refine R_if_ne (pc := 35) (t := 41) dX11_punch_35 (by decide) (fun _ => ?_) (fun hz9 => absurd hz9 (by decide))
      refine R_aload_n (pc := 41) dX11_punch_41 rfl ?_
      refine R_getf (pc := 42) dX11_punch_42 rfl (by repeat (first | assumption | exact up_s | refine up_n (by omega) ?_)) rfl ?_
      refine R_getf (pc := 45) dX11_punch_45 rfl (by repeat (first | assumption | exact up_s | refine up_n (by omega) ?_)) rfl ?_
      refine R_callV (pc := 48) dX11_punch_48 rfl sA1.2.2.1.1 rfl rfl ?_
      refine c1_size sA1.2.2.1 ?_
      refine R_bipush (pc := 51) (x := nI 40) dX11_punch_51 (by decide) ?_
      refine R_icmp_lt (pc := 53) (t := 59) dX11_punch_53 (by decide) (fun h53 => ?_) (fun h53 => ?_)
      · have h48 : n < 40 := by
          refine Decidable.byContradiction (fun q => ?_)
          exact nI_nlt (a := n) (b := 40) (by omega) (by omega) h53
        refine R_aload_n (pc := 59) dX11_punch_59 rfl ?_
        refine R_getf (pc := 60) dX11_punch_60 rfl (by repeat (first | assumption | exact up_s | refine up_n (by omega) ?_)) rfl ?_
        refine R_aload_n (pc := 63) dX11_punch_63 rfl ?_
        refine R_getf (pc := 64) dX11_punch_64 rfl (by repeat (first | assumption | exact up_s | refine up_n (by omega) ?_)) rfl ?_
        refine R_callV (pc := 67) dX11_punch_67 rfl h941 rfl rfl ?_
        refine c2_record r1 st1 (fun h2 z2 r2 fr2 => ?_)
        have hB := r.1
        have hx2 := r2.2.1
        have sa2 : StAt h2 (x + 1) P Wd n pe K R se co := sA1.fr (fun y y1 y2 => fr2 y (by omega) (by omega) (by omega))
        have sc2 : ScrI h2 x := sc1.fr (fun y y1 y2 => fr2 y (by omega) (by omega) (by omega))
        have sa21 := sa2.1
        have tx2 := q1.fr (h' := h2) (fun y y1 y2 => fr2 y (by omega) (by omega) (by omega))
        have hpn := sa2.2.2.1.2.2.2 n h48
        refine R_aload_n (pc := 70) dX11_punch_70 rfl ?_
        refine R_getf (pc := 71) dX11_punch_71 rfl (by repeat (first | assumption | exact up_s | refine up_n (by omega) ?_)) rfl ?_
        refine R_getf (pc := 74) dX11_punch_74 rfl (by repeat (first | assumption | exact up_s | refine up_n (by omega) ?_)) rfl ?_
        refine R_iload_n (pc := 77) dX11_punch_77 rfl ?_
        refine R_callV (pc := 78) dX11_punch_78 rfl sa2.2.2.1.1 rfl rfl ?_
        refine c1_insertBlank sa2.2.2.1 h48 hc (fun h3 C i1 i2 i3 i4 => ?_)
        have hx3 := (i4 x (by omega)).trans hx2
        have sa31 := (i4 (x + 1) (by omega)).trans sa21
        have tx3 := tx2.fr (h' := h3) (fun y y1 y2 => i4 y (by omega))
        have tx39 := tx3
        obtain ⟨u2, u3, tx31, -⟩ := tx39
        have ly3 := sa2.2.1.fr (h' := h3) (fun y y1 y2 => i4 y (by omega))
        have cd3 : CdAt h3 (x + 1 + 4 + 2 + 2 * pe n) C := by have := i1.2.2.1 (pe n) hpn; rw [updK_s] at this; exact this
        refine R_astore_n (pc := 81) dX11_punch_81 (Nat.le_of_ble_eq_true rfl) rfl ?_
        refine R_aload_n (pc := 82) dX11_punch_82 rfl ?_
        refine R_getf (pc := 83) dX11_punch_83 rfl (by repeat (first | assumption | exact up_s | refine up_n (by omega) ?_)) rfl ?_
        refine R_aload_n (pc := 86) dX11_punch_86 rfl ?_
        refine R_aload_n (pc := 87) dX11_punch_87 rfl ?_
        refine R_getf (pc := 88) dX11_punch_88 rfl (by repeat (first | assumption | exact up_s | refine up_n (by omega) ?_)) rfl ?_
        refine R_getf (pc := 91) dX11_punch_91 rfl (by repeat (first | assumption | exact up_s | refine up_n (by omega) ?_)) rfl ?_
        refine R_callV (pc := 94) dX11_punch_94 rfl tx31 rfl rfl ?_
        refine c9_punchOn tx3 (hTs q0) hl ly3 (by omega) (by omega) (fun f hf => (sr.1 f hf).2.2) hOK (fun f hf => (sr.2.1 f hf).2) cd3 (fun h4 C3 j1 j2 j3 j4 => ?_)
        have hx4 := (j4 x (by omega)).trans hx3
        have sa41 := (j4 (x + 1) (by omega)).trans sa31
        have ly4 := ly3.fr (h' := h4) (fun y y1 y2 => j4 y (by omega))
        have ly49 := ly4
        obtain ⟨v2, v3, ly41, -⟩ := ly49
        have j11 := j1.1
        refine R_aload_n (pc := 97) dX11_punch_97 rfl ?_
        refine R_aload_n (pc := 98) dX11_punch_98 rfl ?_
        refine R_getf (pc := 99) dX11_punch_99 rfl (by repeat (first | assumption | exact up_s | refine up_n (by omega) ?_)) rfl ?_
        refine R_getf (pc := 102) dX11_punch_102 rfl (by repeat (first | assumption | exact up_s | refine up_n (by omega) ?_)) rfl ?_
        refine R_iconst (pc := 105) (x := nI 5) dX11_punch_105 rfl ?_
        refine R_callV (pc := 106) dX11_punch_106 rfl ly41 rfl rfl ?_
        refine c3_firstOf ly4 (by omega) ?_
        refine R_aload_n (pc := 109) dX11_punch_109 rfl ?_
        refine R_getf (pc := 110) dX11_punch_110 rfl (by repeat (first | assumption | exact up_s | refine up_n (by omega) ?_)) rfl ?_
        refine R_getf (pc := 113) dX11_punch_113 rfl (by repeat (first | assumption | exact up_s | refine up_n (by omega) ?_)) rfl ?_
        refine R_aload_n (pc := 116) dX11_punch_116 rfl ?_
        refine R_callV (pc := 117) dX11_punch_117 rfl ly41 rfl rfl ?_
        refine c3_dueOn ly4 j1 (fun f hf => (sr.1 f hf).2.2) ?_
        refine R_callV (pc := 120) dX11_punch_120 rfl j11 rfl rfl ?_
        refine c0_show j1 (k := P 5) (by have := (sr.1 5 (by omega)).2.2; have := (sr.2.1 5 (by omega)).1; omega) (fun h5 m1 m2 => ?_)
        have hx5 := (m2 x (by omega)).trans hx4
        have sa51 := (m2 (x + 1) (by omega)).trans sa41
        have fA : ∀ y, (y < x + 1 + 4 ∨ x + 1 + 4 + 84 ≤ y) → h5 y = h2 y := fun y hy => by rw [m2 y (by omega), j4 y (by omega), i4 y (by omega)]
        have dk5 : DkAt h5 (x + 1 + 4) (n + 1) (fun i => pe (mvO2 n c i)) (updK (updK K (pe n) C) (pe n) (upd C3.1 (P 5) (dueR P Wd C3.1), C3.2)) := i1.card hpn m1 (fun y y1 y2 => by rw [m2 y (by omega), j4 y (by omega)])
        have dk51 := dk5.1
        refine R_aload_n (pc := 123) dX11_punch_123 rfl ?_
        refine R_getf (pc := 124) dX11_punch_124 rfl (by repeat (first | assumption | exact up_s | refine up_n (by omega) ?_)) rfl ?_
        refine R_getf (pc := 127) dX11_punch_127 rfl (by repeat (first | assumption | exact up_s | refine up_n (by omega) ?_)) rfl ?_
        refine R_callV (pc := 130) dX11_punch_130 rfl dk51 rfl rfl ?_
        refine c1_size dk5 ?_
        refine R_iret (pc := 133) dX11_punch_133 rfl ?_
        first
          | exact hB (fun c hc q => e c (Nat.zero_le _) hc q)
          | exact hE c hc rfl q0 h1 (r.txt q1 hl q2) (fun y hy => q2 y (by omega))
          | exact hF c hc rfl q0 h48 h1 r1 (fun y hy => q2 y (by omega))
          | (refine hG c hc rfl q0 h48 h5 z2 (fun y hy => by rw [fA y (by omega), fr2 y (by omega) (by omega) (by omega), q2 y (by omega)]) (fun V v => ⟨⟨P, Wd, n + 1, _, _, R, se, co, ⟨sa51, sa2.2.1.fr (fun y y1 y2 => fA y (by omega)), dk5, sa2.2.2.2.1.fr (fun y y1 y2 => fA y (by omega)), (fA _ (by omega)).trans sa2.2.2.2.2.1, (fA _ (by omega)).trans sa2.2.2.2.2.2⟩, sr.dk (fun j hj => v.2.2.2.2.2 j (by omega)) ⟨v.2.2.2.2.1, by omega, sr.2.2.1.2.2.1.mv (by omega) (by omega), fun i hi => ?_⟩⟩, r2.fr (fun y hy => fA y (by omega)), sc2.fr (fun y y1 y2 => fA y (by omega)), fun y hy => ?_⟩)
             · by_cases ei : i = c
               · subst ei
                 dsimp only
                 rw [show mvO2 n i i = n from if_pos rfl, updK_s]
                 refine ⟨fun k hk => ?_, ?_, ?_⟩
                 · rw [v.2.1 k hk]
                   show upd C3.1 (P 5) (dueR P Wd C3.1) k = psA P Wd (scL Wd T l 0 sc0).2.2 k
                   have hps : ∀ j, j < 24 → C3.1 j = psO P Wd (scL Wd T l 0 sc0).2.2.2.1 (scL Wd T l 0 sc0).2.2.2.2.1 5 0 psN j := fun j hj => (j3 j hj).trans (psO_congr 5 0 _ _ (fun y hy => i3 y hy) j hj)
                   unfold psA
                   rw [dueR_congr sr.1 hps]
                   by_cases ek : k = P 5
                   · subst ek; rw [upd_s, upd_s]
                   · rw [upd_n ek, upd_n ek]; exact hps k hk
                 · rw [v.2.2.1]; show C3.2.1 = nI 0; rw [j2, i2]
                 · rw [v.2.2.2.1]; show C3.2.2 = nI 0; rw [j2, i2]
               · have em : mvO2 n c i = shO c i := by unfold mvO2 shO; (repeat' split) <;> omega
                 have el : shO c i < n := by unfold shO; split <;> omega
                 obtain ⟨k1, k2, k3⟩ := sr.2.2.1.2.2.2 (shO c i) el
                 have en : ¬ pe (shO c i) = pe n := fun q => by have := sr.2.2.1.2.2.1 _ _ (by omega) (by omega) q; omega
                 have ev := v.1 i (by omega) ei
                 dsimp only
                 rw [em, updK_n en, updK_n en]
                 exact ⟨fun k hk => by rw [ev k (by omega)]; exact k1 k hk, by rw [ev 24 (by omega)]; exact k2, by rw [ev 25 (by omega)]; exact k3⟩
             · rw [fA y (by omega), fr2 y (by omega) (by omega) (by omega), q2 y (by omega)])
      · have h48 : n = 40 := by
          refine Decidable.byContradiction (fun q => h53 (nI_lt (by omega) (by omega)))
        refine R_ldc (pc := 56) (x := (-1000003)) dX11_punch_56 rfl ?_
        refine R_iret (pc := 58) dX11_punch_58 rfl ?_
        first
          | exact hB (fun c hc q => e c (Nat.zero_le _) hc q)
          | exact hE c hc rfl q0 h1 (r.txt q1 hl q2) (fun y hy => q2 y (by omega))
          | exact hF c hc rfl q0 h48 h1 r1 (fun y hy => q2 y (by omega))
          | (refine hG c hc rfl q0 h48 h5 z2 (fun y hy => by rw [fA y (by omega), fr2 y (by omega) (by omega) (by omega), q2 y (by omega)]) (fun V v => ⟨⟨P, Wd, n + 1, _, _, R, se, co, ⟨sa51, sa2.2.1.fr (fun y y1 y2 => fA y (by omega)), dk5, sa2.2.2.2.1.fr (fun y y1 y2 => fA y (by omega)), (fA _ (by omega)).trans sa2.2.2.2.2.1, (fA _ (by omega)).trans sa2.2.2.2.2.2⟩, sr.dk (fun j hj => v.2.2.2.2.2 j (by omega)) ⟨v.2.2.2.2.1, by omega, sr.2.2.1.2.2.1.mv (by omega) (by omega), fun i hi => ?_⟩⟩, r2.fr (fun y hy => fA y (by omega)), sc2.fr (fun y y1 y2 => fA y (by omega)), fun y hy => ?_⟩)
             · by_cases ei : i = c
               · subst ei
                 dsimp only
                 rw [show mvO2 n i i = n from if_pos rfl, updK_s]
                 refine ⟨fun k hk => ?_, ?_, ?_⟩
                 · rw [v.2.1 k hk]
                   show upd C3.1 (P 5) (dueR P Wd C3.1) k = psA P Wd (scL Wd T l 0 sc0).2.2 k
                   have hps : ∀ j, j < 24 → C3.1 j = psO P Wd (scL Wd T l 0 sc0).2.2.2.1 (scL Wd T l 0 sc0).2.2.2.2.1 5 0 psN j := fun j hj => (j3 j hj).trans (psO_congr 5 0 _ _ (fun y hy => i3 y hy) j hj)
                   unfold psA
                   rw [dueR_congr sr.1 hps]
                   by_cases ek : k = P 5
                   · subst ek; rw [upd_s, upd_s]
                   · rw [upd_n ek, upd_n ek]; exact hps k hk
                 · rw [v.2.2.1]; show C3.2.1 = nI 0; rw [j2, i2]
                 · rw [v.2.2.2.1]; show C3.2.2 = nI 0; rw [j2, i2]
               · have em : mvO2 n c i = shO c i := by unfold mvO2 shO; (repeat' split) <;> omega
                 have el : shO c i < n := by unfold shO; split <;> omega
                 obtain ⟨k1, k2, k3⟩ := sr.2.2.1.2.2.2 (shO c i) el
                 have en : ¬ pe (shO c i) = pe n := fun q => by have := sr.2.2.1.2.2.1 _ _ (by omega) (by omega) q; omega
                 have ev := v.1 i (by omega) ei
                 dsimp only
                 rw [em, updK_n en, updK_n en]
                 exact ⟨fun k hk => by rw [ev k (by omega)]; exact k1 k hk, by rw [ev 24 (by omega)]; exact k2, by rw [ev 25 (by omega)]; exact k3⟩
             · rw [fA y (by omega), fr2 y (by omega) (by omega) (by omega), q2 y (by omega)])
  · refine R_if_ne (pc := 15) (t := 21) dX11_punch_15 (by decide) (fun hz9 => absurd hz9 (by decide)) (fun _ => ?_)
    refine R_ldc (pc := 18) (x := (-1000001)) dX11_punch_18 rfl ?_
    refine R_iret (pc := 20) dX11_punch_20 rfl ?_
    first
      | exact hB (fun c hc q => e c (Nat.zero_le _) hc q)
      | exact hE c hc rfl q0 h1 (r.txt q1 hl q2) (fun y hy => q2 y (by omega))
      | exact hF c hc rfl q0 h48 h1 r1 (fun y hy => q2 y (by omega))
      | (refine hG c hc rfl q0 h48 h5 z2 (fun y hy => by rw [fA y (by omega), fr2 y (by omega) (by omega) (by omega), q2 y (by omega)]) (fun V v => ⟨⟨P, Wd, n + 1, _, _, R, se, co, ⟨sa51, sa2.2.1.fr (fun y y1 y2 => fA y (by omega)), dk5, sa2.2.2.2.1.fr (fun y y1 y2 => fA y (by omega)), (fA _ (by omega)).trans sa2.2.2.2.2.1, (fA _ (by omega)).trans sa2.2.2.2.2.2⟩, sr.dk (fun j hj => v.2.2.2.2.2 j (by omega)) ⟨v.2.2.2.2.1, by omega, sr.2.2.1.2.2.1.mv (by omega) (by omega), fun i hi => ?_⟩⟩, r2.fr (fun y hy => fA y (by omega)), sc2.fr (fun y y1 y2 => fA y (by omega)), fun y hy => ?_⟩)
         · by_cases ei : i = c
           · subst ei
             dsimp only
             rw [show mvO2 n i i = n from if_pos rfl, updK_s]
             refine ⟨fun k hk => ?_, ?_, ?_⟩
             · rw [v.2.1 k hk]
               show upd C3.1 (P 5) (dueR P Wd C3.1) k = psA P Wd (scL Wd T l 0 sc0).2.2 k
               have hps : ∀ j, j < 24 → C3.1 j = psO P Wd (scL Wd T l 0 sc0).2.2.2.1 (scL Wd T l 0 sc0).2.2.2.2.1 5 0 psN j := fun j hj => (j3 j hj).trans (psO_congr 5 0 _ _ (fun y hy => i3 y hy) j hj)
               unfold psA
               rw [dueR_congr sr.1 hps]
               by_cases ek : k = P 5
               · subst ek; rw [upd_s, upd_s]
               · rw [upd_n ek, upd_n ek]; exact hps k hk
             · rw [v.2.2.1]; show C3.2.1 = nI 0; rw [j2, i2]
             · rw [v.2.2.2.1]; show C3.2.2 = nI 0; rw [j2, i2]
           · have em : mvO2 n c i = shO c i := by unfold mvO2 shO; (repeat' split) <;> omega
             have el : shO c i < n := by unfold shO; split <;> omega
             obtain ⟨k1, k2, k3⟩ := sr.2.2.1.2.2.2 (shO c i) el
             have en : ¬ pe (shO c i) = pe n := fun q => by have := sr.2.2.1.2.2.1 _ _ (by omega) (by omega) q; omega
             have ev := v.1 i (by omega) ei
             dsimp only
             rw [em, updK_n en, updK_n en]
             exact ⟨fun k hk => by rw [ev k (by omega)]; exact k1 k hk, by rw [ev 24 (by omega)]; exact k2, by rw [ev 25 (by omega)]; exact k3⟩
         · rw [fA y (by omega), fr2 y (by omega) (by omega) (by omega), q2 y (by omega)])
end CE4
