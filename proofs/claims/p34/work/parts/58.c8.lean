section CC8
variable {sA : Nat} {h : Nat → Option am_C} {z : Nat × Nat} {Q : Option Value → am_H → Prop}
/-- the digits that were read stand in the text -/
def TsT (T : Nat → Int32) (k : Nat) (s : TS) : Prop := ∀ f, f < 5 → (∀ j, j < s.2.1 f → s.2.2.2 f + j < k ∧ T (s.2.2.2 f + j) = nI (48 + s.2.2.1 f / 10 ^ (s.2.1 f - 1 - j) % 10)) ∧ (s.1 = f → s.2.2.2 f + s.2.1 f = k)
theorem scS_T {Wd : Nat → Nat} {T : Nat → Int32} {k : Nat} {s : TS} (hT : TsT T k s) (h0 : (scS Wd (T k) k s).1 = 0) : TsT T (k + 1) (scS Wd (T k) k s).2 := by
  have up : ∀ s2 : TS, s2.2 = s.2 → (s2.1 = 5) → TsT T (k + 1) s2 := by
    intro s2 e1 e2 f hf
    rw [e1]
    exact ⟨fun j hj => ⟨Nat.lt_succ_of_lt ((hT f hf).1 j hj).1, ((hT f hf).1 j hj).2⟩, fun q => by omega⟩
  revert h0
  unfold scS
  split
  · rename_i h5
    split
    · exact fun _ => up s rfl h5
    · split
      · intro q; exact absurd q (by show ¬ 1 = 0; omega)
      · split
        · intro q; exact absurd q (by show ¬ 2 = 0; omega)
        · rename_i h1 h2 h3
          intro _ f hf
          show (∀ j, j < s.2.1 f → updN s.2.2.2 (ltr (T k)) (k + 1) f + j < k + 1 ∧ T (updN s.2.2.2 (ltr (T k)) (k + 1) f + j) = nI (48 + updN s.2.2.1 (ltr (T k)) 0 f / 10 ^ (s.2.1 f - 1 - j) % 10)) ∧ (ltr (T k) = f → updN s.2.2.2 (ltr (T k)) (k + 1) f + s.2.1 f = k + 1)
          unfold updN
          by_cases e : f = ltr (T k)
          · rw [if_pos e, if_pos e]
            rw [← e] at h3
            exact ⟨fun j hj => by omega, fun _ => by omega⟩
          · rw [if_neg e, if_neg e]
            exact ⟨fun j hj => ⟨Nat.lt_succ_of_lt ((hT f hf).1 j hj).1, ((hT f hf).1 j hj).2⟩, fun q => absurd q.symm e⟩
  · rename_i h5
    split
    · rename_i hd
      split
      · intro q; exact absurd q (by show ¬ 3 = 0; omega)
      · intro _ f hf
        obtain ⟨d, h1, h2, h3⟩ := dig_of hd
        show (∀ j, j < updN s.2.1 s.1 (s.2.1 s.1 + 1) f → s.2.2.2 f + j < k + 1 ∧ T (s.2.2.2 f + j) = nI (48 + updN s.2.2.1 s.1 (10 * s.2.2.1 s.1 + ((T k - nI 48).toNatClampNeg)) f / 10 ^ (updN s.2.1 s.1 (s.2.1 s.1 + 1) f - 1 - j) % 10)) ∧ (s.1 = f → s.2.2.2 f + updN s.2.1 s.1 (s.2.1 s.1 + 1) f = k + 1)
        rw [h3]
        unfold updN
        by_cases e : f = s.1
        · rw [if_pos e, if_pos e, ← e]
          have c := (hT f hf).2 e.symm
          refine ⟨fun j hj => ?_, fun _ => by omega⟩
          by_cases ej : j = s.2.1 f
          · subst ej
            rw [show s.2.1 f + 1 - 1 - s.2.1 f = 0 by omega, Nat.pow_zero, Nat.div_one, c]
            refine ⟨by omega, h2.trans ?_⟩
            congr 1
            omega
          · obtain ⟨c1, c2⟩ := (hT f hf).1 j (by omega)
            refine ⟨by omega, c2.trans ?_⟩
            rw [show s.2.1 f + 1 - 1 - j = (s.2.1 f - 1 - j) + 1 by omega, Nat.pow_succ', ← Nat.div_div_eq_div_mul, show (10 * s.2.2.1 f + d) / 10 = s.2.2.1 f by omega]
        · rw [if_neg e, if_neg e]
          exact ⟨fun j hj => ⟨Nat.lt_succ_of_lt ((hT f hf).1 j hj).1, ((hT f hf).1 j hj).2⟩, fun q => absurd q.symm e⟩
    · split
      · exact fun _ => up _ rfl rfl
      · intro q; exact absurd q (by show ¬ 1 = 0; omega)
theorem scL_T {Wd : Nat → Nat} {T : Nat → Int32} : ∀ (n k : Nat) (s : TS), TsT T k s → (scL Wd T n k s).1 = 0 → TsT T (k + n) (scL Wd T n k s).2.2
  | 0, _, _, h, _ => h
  | n + 1, k, s, h, h0 => by
    unfold scL at h0 ⊢
    by_cases e : (scS Wd (T k) k s).1 = 0
    · rw [if_pos e] at h0 ⊢
      have := scL_T n (k + 1) _ (scS_T h e) h0
      rw [show k + (n + 1) = k + 1 + n by omega]
      exact this
    · rw [if_neg e] at h0
      exact absurd h0 e
theorem sc0_T {T : Nat → Int32} : TsT T 0 sc0 := fun f hf => ⟨fun j hj => absurd hj (Nat.not_lt_zero _), fun q => by have : 5 = f := q; omega⟩
theorem lc9_hasWord {t l : Nat} {T : Nat → Int32} {fk fp : Int32} {s : TS} (ht : TxI h t T l fk fp s) (hd : ∀ f, f < 5 → s.2.1 f ≤ 4) : ∀ (n f : Nat) (_ : f + n = 5) (_ : ∀ j, j < f → s.2.1 j = 0) (_ : ¬ sum5 s.2.1 = 0 → Q (some (.int (nI 1))) (h, z)) (_ : sum5 s.2.1 = 0 → Q (some (.int (nI 0))) (h, z)), Rn sA mX9_hasWord 2 [some (.ref t), some (.int (nI f))] [] (h, z) Q
  | 0, f, hk, hz, hY, hN => by
    obtain rfl : f = 5 := by omega
    refine R_iload_n (pc := 2) dX9_hasWord_2 rfl ?_
    refine R_iconst (pc := 3) (x := nI 5) dX9_hasWord_3 rfl ?_
    refine R_icmp_ge (pc := 4) (t := 24) dX9_hasWord_4 (by decide) (fun _ => ?_) (fun hz9 => absurd (nI_le (by omega) (by omega)) hz9)
    refine R_iconst (pc := 24) (x := nI 0) dX9_hasWord_24 rfl ?_
    refine R_zret (pc := 25) dX9_hasWord_25 rfl (by decide) ?_
    exact hN (sum5_0.mpr hz)
  | n + 1, f, hk, hz, hY, hN => by
    have ht9 := ht
    obtain ⟨g2, g3, ht1, ht2, ht3, ht4, ht5, ht6⟩ := ht9
    have d4 := hd f (by omega)
    refine R_iload_n (pc := 2) dX9_hasWord_2 rfl ?_
    refine R_iconst (pc := 3) (x := nI 5) dX9_hasWord_3 rfl ?_
    refine R_icmp_ge (pc := 4) (t := 24) dX9_hasWord_4 (by decide) (fun hz9 => absurd hz9 (nI_ge (by omega) (by omega))) (fun _ => ?_)
    refine R_aload_n (pc := 7) dX9_hasWord_7 rfl ?_
    refine R_getf (pc := 8) dX9_hasWord_8 rfl (by repeat (first | assumption | exact up_s | refine up_n (by omega) ?_)) rfl ?_
    refine R_iload_n (pc := 11) dX9_hasWord_11 rfl ?_
    refine R_iald (pc := 12) dX9_hasWord_12 (by repeat (first | assumption | exact up_s | refine up_n (by omega) ?_)) (Or.inl rfl) (by first | with_reducible rfl | (simp only [nI_add, pk_mul]; exact rfl)) (by omega) (by decide) ?_
    refine R_if_le (pc := 13) (t := 18) dX9_hasWord_13 (by decide) (fun h13 => ?_) (fun h13 => ?_)
    · refine R_iinc (pc := 18) dX9_hasWord_18 rfl (by first | exact nI_inc _ | rfl) rfl ?_
      refine R_goto (pc := 21) (t := 2) dX9_hasWord_21 (by decide) ?_
      refine lc9_hasWord ht hd n (f + 1) (by omega) (fun j hj => ?_) hY hN
      rcases Nat.lt_or_ge j f with q | q
      · exact hz j q
      · obtain rfl : j = f := by omega
        rw [ht5 j (by omega)] at h13
        have := (nI_leI (a := s.2.1 j) (b := 0) (by omega) (by omega)).mp h13
        omega
    · refine R_iconst (pc := 16) (x := nI 1) dX9_hasWord_16 rfl ?_
      refine R_zret (pc := 17) dX9_hasWord_17 rfl (by decide) ?_
      exact hY (fun q => by have := sum5_0.mp q f (by omega); rw [ht5 f (by omega), this] at h13; exact absurd h13 (by decide))
theorem c9_hasWord {t l : Nat} {T : Nat → Int32} {fk fp : Int32} {s : TS} (ht : TxI h t T l fk fp s) (hd : ∀ f, f < 5 → s.2.1 f ≤ 4) (hY : ¬ sum5 s.2.1 = 0 → Q (some (.int (nI 1))) (h, z)) (hN : sum5 s.2.1 = 0 → Q (some (.int (nI 0))) (h, z)) : Rn sA mX9_hasWord 0 [some (.ref t), none] [] (h, z) Q := by
  refine R_iconst (pc := 0) (x := nI 0) dX9_hasWord_0 rfl ?_
  refine R_istore_n (pc := 1) dX9_hasWord_1 (Nat.le_of_ble_eq_true rfl) rfl ?_
  exact lc9_hasWord ht hd 5 0 (by omega) (fun j hj => absurd hj (Nat.not_lt_zero _)) hY hN
theorem c9_ends {t l : Nat} {T : Nat → Int32} {fk fp : Int32} {s : TS} (ht : TxI h t T l fk fp s) (hd : ∀ f, f < 5 → s.2.1 f ≤ 4) (h5 : s.1 ≤ 5) (hY : (¬ s.1 = 5 ∧ s.2.1 s.1 = 0) → Q (some (.int (nI 1))) (h, z)) (hN : ¬ (¬ s.1 = 5 ∧ s.2.1 s.1 = 0) → Q (some (.int (nI 0))) (h, z)) : Rn sA mX9_endsBehindLetter 0 [some (.ref t)] [] (h, z) Q := by
  have ht9 := ht
  obtain ⟨g2, g3, ht1, ht2, ht3, ht4, ht5, ht6⟩ := ht9
  by_cases e5 : s.1 = 5
  · rw [e5, show wdI 5 = (-1) from rfl] at ht1
    refine R_aload_n (pc := 0) dX9_endsBehindLetter_0 rfl ?_
    refine R_getf (pc := 1) dX9_endsBehindLetter_1 rfl (by repeat (first | assumption | exact up_s | refine up_n (by omega) ?_)) rfl ?_
    refine R_iconst (pc := 4) (x := (-1)) dX9_endsBehindLetter_4 rfl ?_
    refine R_icmp_eq (pc := 5) (t := 23) dX9_endsBehindLetter_5 (by decide) (fun _ => ?_) (fun hz9 => absurd rfl hz9)
    refine R_iconst (pc := 23) (x := nI 0) dX9_endsBehindLetter_23 rfl ?_
    refine R_zret (pc := 24) dX9_endsBehindLetter_24 rfl (by decide) ?_
    exact hN (fun q => q.1 e5)
  · obtain ⟨f, hf, ef⟩ : ∃ f, f < 5 ∧ s.1 = f := ⟨s.1, by omega, rfl⟩
    have d4 := hd f hf
    rw [ef, show wdI f = nI f from if_neg (by omega)] at ht1
    refine R_aload_n (pc := 0) dX9_endsBehindLetter_0 rfl ?_
    refine R_getf (pc := 1) dX9_endsBehindLetter_1 rfl (by repeat (first | assumption | exact up_s | refine up_n (by omega) ?_)) rfl ?_
    refine R_iconst (pc := 4) (x := (-1)) dX9_endsBehindLetter_4 rfl ?_
    refine R_icmp_eq (pc := 5) (t := 23) dX9_endsBehindLetter_5 (by decide) (fun hz9 => absurd hz9 ((by decide : ∀ j, j < 5 → ¬ nI j = (-1)) f hf)) (fun _ => ?_)
    refine R_aload_n (pc := 8) dX9_endsBehindLetter_8 rfl ?_
    refine R_aload_n (pc := 9) dX9_endsBehindLetter_9 rfl ?_
    refine R_getf (pc := 10) dX9_endsBehindLetter_10 rfl (by repeat (first | assumption | exact up_s | refine up_n (by omega) ?_)) rfl ?_
    refine R_callV (pc := 13) dX9_endsBehindLetter_13 rfl (by repeat (first | assumption | exact up_s | refine up_n (by omega) ?_)) rfl rfl ?_
    refine c9_digitsOf ht hf ?_
    refine R_if_ne (pc := 16) (t := 23) dX9_endsBehindLetter_16 (by decide) (fun h16 => ?_) (fun h16 => ?_)
    · refine R_iconst (pc := 23) (x := nI 0) dX9_endsBehindLetter_23 rfl ?_
      refine R_zret (pc := 24) dX9_endsBehindLetter_24 rfl (by decide) ?_
      first
        | exact hN (fun q => h16 (by have := q.2; rw [ef] at this; rw [this]; rfl))
        | exact hY ⟨e5, by rw [ef]; exact (nI_eq (b := 0) (by omega) (by omega)).mp h16⟩
    · refine R_iconst (pc := 19) (x := nI 1) dX9_endsBehindLetter_19 rfl ?_
      refine R_goto (pc := 20) (t := 24) dX9_endsBehindLetter_20 (by decide) ?_
      refine R_zret (pc := 24) dX9_endsBehindLetter_24 rfl (by decide) ?_
      first
        | exact hN (fun q => h16 (by have := q.2; rw [ef] at this; rw [this]; rfl))
        | exact hY ⟨e5, by rw [ef]; exact (nI_eq (b := 0) (by omega) (by omega)).mp h16⟩
theorem c9_noteFault {t l : Nat} {T : Nat → Int32} {fk fp kd pl : Int32} (ht : TxW h t T l fk fp) (hQ : ∀ h2 : Nat → Option am_C, TxW h2 t T l kd pl → (∀ a, (a < t ∨ t + 4 ≤ a) → h2 a = h a) → Q (some (.int (nI 0))) (h2, z)) : Rn sA mX9_noteFault 0 [some (.ref t), some (.int kd), some (.int pl)] [] (h, z) Q := by
  obtain ⟨g2, g3, wv, ht1, ht2, ht3, ht4⟩ := ht
  refine R_aload_n (pc := 0) dX9_noteFault_0 rfl ?_
  refine R_iload_n (pc := 1) dX9_noteFault_1 rfl ?_
  refine R_putf (pc := 2) dX9_noteFault_2 rfl (by repeat (first | assumption | exact up_s | refine up_n (by omega) ?_)) rfl (Or.inl rfl) rfl ?_
  refine R_aload_n (pc := 5) dX9_noteFault_5 rfl ?_
  refine R_iload_n (pc := 6) dX9_noteFault_6 rfl ?_
  refine R_putf (pc := 7) dX9_noteFault_7 rfl (by repeat (first | assumption | exact up_s | refine up_n (by omega) ?_)) rfl (Or.inl rfl) rfl ?_
  refine R_iconst (pc := 10) (x := nI 0) dX9_noteFault_10 rfl ?_
  refine R_zret (pc := 11) dX9_noteFault_11 rfl (by decide) ?_
  exact hQ _ ⟨g2, g3, wv, up_s, up_n (by omega) (up_n (by omega) ht2), up_n (by omega) (up_n (by omega) ht3), up_n (by omega) (up_n (by omega) ht4)⟩ (fun a ha => by rw [up_n (by omega) rfl, up_n (by omega) rfl])
theorem lc9_reads {t l y : Nat} {T : Nat → Int32} {fk fp : Int32} {P Wd : Nat → Nat} {g : Nat → Option am_C} (hV : LayV Wd) (hl : l ≤ 50) (hty : t + 4 ≤ y ∨ y + 3 ≤ t) : ∀ (n k : Nat) (s : TS) (h : Nat → Option am_C) (o3 : Option Value) (_ : k + n = l) (_ : TsOK Wd s) (_ : TxI h t T l fk fp s) (_ : LyAt h y P Wd) (_ : ∀ a, (a < t ∨ t + 4 ≤ a) → h a = g a) (_ : (∀ h2 : Nat → Option am_C, ¬ (scL Wd T n k s).1 = 0 → TxW h2 t T l (nI (scL Wd T n k s).1) (nI (scL Wd T n k s).2.1) → (∀ a, (a < t ∨ t + 4 ≤ a) → h2 a = g a) → Q (some (.int (nI 0))) (h2, z))) (_ : (∀ h2 : Nat → Option am_C, (scL Wd T n k s).1 = 0 → TxI h2 t T l fk fp (scL Wd T n k s).2.2 → (∀ a, (a < t ∨ t + 4 ≤ a) → h2 a = g a) → Q (some (.int (nI 1))) (h2, z))), Rn sA mX9_readsAsCard 27 [some (.ref t), some (.ref y), some (.int (nI k)), o3] [] (h, z) Q
  | 0, k, s, h, o3, hk, hT, ht, hy, hg, hE, hG => by
    have ht9 := ht
    obtain ⟨g2, g3, ht1, ht2, ht3, ht4, ht5, ht6⟩ := ht9
    have hy9 := hy
    obtain ⟨y2, y3, hy1, -, -, -⟩ := hy9
    obtain rfl : k = l := by omega
    have d4 : ∀ f, f < 5 → s.2.1 f ≤ 4 := fun f hf => by have := (hT.2 f hf).1; have := (hV f (by omega)).2; omega
    have bad : scE s = 4 → Rn sA mX9_readsAsCard 89 [some (.ref t), some (.ref y), some (.int (nI k)), o3] [] (h, z) Q := by
      intro e
      refine R_aload_n (pc := 89) dX9_readsAsCard_89 rfl ?_
      refine R_iconst (pc := 90) (x := nI 4) dX9_readsAsCard_90 rfl ?_
      refine R_aload_n (pc := 91) dX9_readsAsCard_91 rfl ?_
      refine R_getf (pc := 92) dX9_readsAsCard_92 rfl (by repeat (first | assumption | exact up_s | refine up_n (by omega) ?_)) rfl ?_
      refine R_callV (pc := 95) dX9_readsAsCard_95 rfl (by repeat (first | assumption | exact up_s | refine up_n (by omega) ?_)) rfl rfl ?_
      refine c9_noteFault ht.w (fun h2 q1 q2 => ?_)
      refine R_zret (pc := 98) dX9_readsAsCard_98 rfl (by decide) ?_
      refine hE h2 (by show ¬ scE s = 0; omega) ?_ (fun a ha => (q2 a ha).trans (hg a ha))
      show TxW h2 t T k (nI (scE s)) (nI k)
      rw [e]
      exact q1
    refine R_iload_n (pc := 27) dX9_readsAsCard_27 rfl ?_
    refine R_aload_n (pc := 28) dX9_readsAsCard_28 rfl ?_
    refine R_getf (pc := 29) dX9_readsAsCard_29 rfl (by repeat (first | assumption | exact up_s | refine up_n (by omega) ?_)) rfl ?_
    refine R_icmp_ge (pc := 32) (t := 75) dX9_readsAsCard_32 (by decide) (fun _ => ?_) (fun hz9 => absurd (nI_le (by omega) (by omega)) hz9)
    refine R_aload_n (pc := 75) dX9_readsAsCard_75 rfl ?_
    refine R_callV (pc := 76) dX9_readsAsCard_76 rfl (by repeat (first | assumption | exact up_s | refine up_n (by omega) ?_)) rfl rfl ?_
    refine c9_hasWord ht d4 (fun qw => ?_) (fun qw => ?_)
    · refine R_if_eq (pc := 79) (t := 89) dX9_readsAsCard_79 (by decide) (fun hz9 => absurd hz9 (by decide)) (fun _ => ?_)
      refine R_aload_n (pc := 82) dX9_readsAsCard_82 rfl ?_
      refine R_callV (pc := 83) dX9_readsAsCard_83 rfl (by repeat (first | assumption | exact up_s | refine up_n (by omega) ?_)) rfl rfl ?_
      refine c9_ends ht d4 hT.1 (fun qe => ?_) (fun qe => ?_)
      · refine R_if_eq (pc := 86) (t := 99) dX9_readsAsCard_86 (by decide) (fun hz9 => absurd hz9 (by decide)) (fun _ => ?_)
        first
          | exact bad (by unfold scE; rw [if_pos (Or.inr qe)])
          | (refine bad ?_
             unfold scE
             refine if_pos ?_
             by_cases e5 : s.1 = 5
             · exact Or.inl ⟨e5, qw⟩
             · exact Or.inr ⟨e5, sum5_0.mp qw s.1 (by have := hT.1; omega)⟩)
      · refine R_if_eq (pc := 86) (t := 99) dX9_readsAsCard_86 (by decide) (fun _ => ?_) (fun hz9 => absurd hz9 (by decide))
        refine R_iconst (pc := 99) (x := nI 1) dX9_readsAsCard_99 rfl ?_
        refine R_zret (pc := 100) dX9_readsAsCard_100 rfl (by decide) ?_
        refine hG h (show scE s = 0 from if_neg (fun q => q.elim (fun q => qw q.2) qe)) ht hg
    · refine R_if_eq (pc := 79) (t := 89) dX9_readsAsCard_79 (by decide) (fun _ => ?_) (fun hz9 => absurd hz9 (by decide))
      first
        | exact bad (by unfold scE; rw [if_pos (Or.inr qe)])
        | (refine bad ?_
           unfold scE
           refine if_pos ?_
           by_cases e5 : s.1 = 5
           · exact Or.inl ⟨e5, qw⟩
           · exact Or.inr ⟨e5, sum5_0.mp qw s.1 (by have := hT.1; omega)⟩)
  | n + 1, k, s, h, o3, hk, hT, ht, hy, hg, hE, hG => by
    have ht9 := ht
    obtain ⟨g2, g3, ht1, ht2, ht3, ht4, ht5, ht6⟩ := ht9
    have hy9 := hy
    obtain ⟨y2, y3, hy1, -, -, -⟩ := hy9
    have hx : TxI h t T l fk fp s := ht
    have stop : ∀ (h3 : Nat → Option am_C) (kd : Nat), ¬ kd = 0 → (scS Wd (T k) k s).1 = kd → TxW h3 t T l fk fp → (∀ a, (a < t ∨ t + 4 ≤ a) → h3 a = g a) → Rn sA mX9_readsAsCard 57 [some (.ref t), some (.ref y), some (.int (nI k)), o3] [.int (nI kd)] (h3, z) Q := by
      intro h3 kd q0 q1 q2 q3
      have kk : kd < 5 := by rw [← q1]; exact scS_kd
      have q9 := q2
      obtain ⟨u2, u3, wv, q9, -⟩ := q9
      have eL : scL Wd T (n + 1) k s = (kd, k, s) := by
        show (if (scS Wd (T k) k s).1 = 0 then _ else _) = _
        rw [if_neg (by omega), q1]
      refine R_istore_n (pc := 57) dX9_readsAsCard_57 (Nat.le_of_ble_eq_true rfl) rfl ?_
      refine R_iload_n (pc := 58) dX9_readsAsCard_58 rfl ?_
      refine R_if_eq (pc := 59) (t := 69) dX9_readsAsCard_59 (by decide) (fun hz9 => absurd hz9 (nI_ne0 (by omega) (by omega))) (fun _ => ?_)
      refine R_aload_n (pc := 62) dX9_readsAsCard_62 rfl ?_
      refine R_iload_n (pc := 63) dX9_readsAsCard_63 rfl ?_
      refine R_iload_n (pc := 64) dX9_readsAsCard_64 rfl ?_
      refine R_callV (pc := 65) dX9_readsAsCard_65 rfl (by repeat (first | assumption | exact up_s | refine up_n (by omega) ?_)) rfl rfl ?_
      refine c9_noteFault q2 (fun h2 r1 r2 => ?_)
      refine R_zret (pc := 68) dX9_readsAsCard_68 rfl (by decide) ?_
      refine hE h2 (by rw [eL]; exact q0) (by rw [eL]; exact r1) (fun a ha => (r2 a ha).trans (q3 a ha))
    have next : ∀ (h3 : Nat → Option am_C), (scS Wd (T k) k s).1 = 0 → TxI h3 t T l fk fp (scS Wd (T k) k s).2 → (∀ a, (a < t ∨ t + 4 ≤ a) → h3 a = g a) → Rn sA mX9_readsAsCard 57 [some (.ref t), some (.ref y), some (.int (nI k)), o3] [.int (nI 0)] (h3, z) Q := by
      intro h3 q1 q2 q3
      have eL : scL Wd T (n + 1) k s = scL Wd T n (k + 1) (scS Wd (T k) k s).2 := if_pos q1
      refine R_istore_n (pc := 57) dX9_readsAsCard_57 (Nat.le_of_ble_eq_true rfl) rfl ?_
      refine R_iload_n (pc := 58) dX9_readsAsCard_58 rfl ?_
      refine R_if_eq (pc := 59) (t := 69) dX9_readsAsCard_59 (by decide) (fun _ => ?_) (fun hz9 => absurd rfl hz9)
      refine R_iinc (pc := 69) dX9_readsAsCard_69 rfl (by first | exact nI_inc _ | rfl) rfl ?_
      refine R_goto (pc := 72) (t := 27) dX9_readsAsCard_72 (by decide) ?_
      refine lc9_reads hV hl hty n (k + 1) _ h3 _ (by omega) (scS_ok hT q1) q2 (hy.fr (fun x x1 x2 => (q3 x (by omega)).trans (hg x (by omega)).symm)) q3 (fun h2 c1 c2 c3 => ?_) (fun h2 c1 c2 c3 => ?_)
      · rw [← eL] at c1 c2
        exact hE h2 c1 c2 c3
      · rw [← eL] at c1 c2
        exact hG h2 c1 c2 c3
    by_cases h5 : s.1 = 5
    · rw [h5, show wdI 5 = (-1) from rfl] at ht1
      refine R_iload_n (pc := 27) dX9_readsAsCard_27 rfl ?_
      refine R_aload_n (pc := 28) dX9_readsAsCard_28 rfl ?_
      refine R_getf (pc := 29) dX9_readsAsCard_29 rfl (by repeat (first | assumption | exact up_s | refine up_n (by omega) ?_)) rfl ?_
      refine R_icmp_ge (pc := 32) (t := 75) dX9_readsAsCard_32 (by decide) (fun hz9 => absurd hz9 (nI_ge (by omega) (by omega))) (fun _ => ?_)
      refine R_aload_n (pc := 35) dX9_readsAsCard_35 rfl ?_
      refine R_getf (pc := 36) dX9_readsAsCard_36 rfl (by repeat (first | assumption | exact up_s | refine up_n (by omega) ?_)) rfl ?_
      refine R_iconst (pc := 39) (x := (-1)) dX9_readsAsCard_39 rfl ?_
      refine R_icmp_ne (pc := 40) (t := 51) dX9_readsAsCard_40 (by decide) (fun hz9 => absurd rfl hz9) (fun _ => ?_)
      refine R_aload_n (pc := 43) dX9_readsAsCard_43 rfl ?_
      refine R_iload_n (pc := 44) dX9_readsAsCard_44 rfl ?_
      refine R_callV (pc := 45) dX9_readsAsCard_45 rfl (by repeat (first | assumption | exact up_s | refine up_n (by omega) ?_)) rfl rfl ?_
      refine c9_between ht hT hV h5 (by omega) hl (fun q => ?_) (fun q h3 q1 q2 => ?_)
      · refine R_goto (pc := 48) (t := 57) dX9_readsAsCard_48 (by decide) ?_
        exact stop h _ q rfl ht.w hg
      · refine R_goto (pc := 48) (t := 57) dX9_readsAsCard_48 (by decide) ?_
        exact next h3 q q1 (fun a ha => (q2 a ha).trans (hg a ha))
    · obtain ⟨f, hf, ef⟩ : ∃ f, f < 5 ∧ s.1 = f := ⟨s.1, by have := hT.1; omega, rfl⟩
      rw [ef, show wdI f = nI f from if_neg (by omega)] at ht1
      refine R_iload_n (pc := 27) dX9_readsAsCard_27 rfl ?_
      refine R_aload_n (pc := 28) dX9_readsAsCard_28 rfl ?_
      refine R_getf (pc := 29) dX9_readsAsCard_29 rfl (by repeat (first | assumption | exact up_s | refine up_n (by omega) ?_)) rfl ?_
      refine R_icmp_ge (pc := 32) (t := 75) dX9_readsAsCard_32 (by decide) (fun hz9 => absurd hz9 (nI_ge (by omega) (by omega))) (fun _ => ?_)
      refine R_aload_n (pc := 35) dX9_readsAsCard_35 rfl ?_
      refine R_getf (pc := 36) dX9_readsAsCard_36 rfl (by repeat (first | assumption | exact up_s | refine up_n (by omega) ?_)) rfl ?_
      refine R_iconst (pc := 39) (x := (-1)) dX9_readsAsCard_39 rfl ?_
      refine R_icmp_ne (pc := 40) (t := 51) dX9_readsAsCard_40 (by decide) (fun _ => ?_) (fun hz9 => absurd hz9 ((by decide : ∀ j, j < 5 → ¬ nI j = (-1)) f hf))
      refine R_aload_n (pc := 51) dX9_readsAsCard_51 rfl ?_
      refine R_iload_n (pc := 52) dX9_readsAsCard_52 rfl ?_
      refine R_aload_n (pc := 53) dX9_readsAsCard_53 rfl ?_
      refine R_callV (pc := 54) dX9_readsAsCard_54 rfl (by repeat (first | assumption | exact up_s | refine up_n (by omega) ?_)) rfl rfl ?_
      refine c9_inWord ht hy hT hV h5 (by omega) hl (fun q => ?_) (fun q h3 q1 q2 => ?_)
      · exact stop h _ q rfl ht.w hg
      · exact next h3 q q1 (fun a ha => (q2 a ha).trans (hg a ha))
theorem lc9_clr {t l : Nat} {T : Nat → Int32} {fk fp : Int32} {g : Nat → Option am_C} {y : Nat}  : ∀ (n k : Nat) (h : Nat → Option am_C) (g2 g3 : Nat → Int32) (_ : k + n = 5) (_ : h t = some (.inr (9, [.ref (t + 1), .ref (t + 2), .ref (t + 3), .int (nI l), .int (-1), .int fk, .int fp]))) (_ : h (t + 1) = some (.inl (0, 50, .inl T))) (_ : h (t + 2) = some (.inl (0, 5, .inl g2))) (_ : h (t + 3) = some (.inl (0, 5, .inl g3))) (_ : ∀ j, j < k → g2 j = nI 0) (_ : ∀ a, (a < t ∨ t + 4 ≤ a) → h a = g a) (_ : ∀ h2 : Nat → Option am_C, TxI h2 t T l fk fp sc0 → (∀ a, (a < t ∨ t + 4 ≤ a) → h2 a = g a) → Rn sA mX9_readsAsCard 25 [some (.ref t), some (.ref y), some (.int (nI 5)), none] [] (h2, z) Q), Rn sA mX9_readsAsCard 7 [some (.ref t), some (.ref y), some (.int (nI k)), none] [] (h, z) Q
  | 0, k, h, g2, g3, hk, ht1, ht2, ht3, ht4, hj, hg, hX => by
    obtain rfl : k = 5 := by omega
    refine R_iload_n (pc := 7) dX9_readsAsCard_7 rfl ?_
    refine R_iconst (pc := 8) (x := nI 5) dX9_readsAsCard_8 rfl ?_
    refine R_icmp_ge (pc := 9) (t := 25) dX9_readsAsCard_9 (by decide) (fun _ => ?_) (fun hz9 => absurd (nI_le (by omega) (by omega)) hz9)
    exact hX h ⟨g2, g3, ht1, ht2, ht3, ht4, hj, fun f hf q => absurd q (by show ¬ (0 < 0 ∨ 5 = f); omega)⟩ hg
  | n + 1, k, h, g2, g3, hk, ht1, ht2, ht3, ht4, hj, hg, hX => by
    refine R_iload_n (pc := 7) dX9_readsAsCard_7 rfl ?_
    refine R_iconst (pc := 8) (x := nI 5) dX9_readsAsCard_8 rfl ?_
    refine R_icmp_ge (pc := 9) (t := 25) dX9_readsAsCard_9 (by decide) (fun hz9 => absurd hz9 (nI_ge (by omega) (by omega))) (fun _ => ?_)
    refine R_aload_n (pc := 12) dX9_readsAsCard_12 rfl ?_
    refine R_getf (pc := 13) dX9_readsAsCard_13 rfl (by repeat (first | assumption | exact up_s | refine up_n (by omega) ?_)) rfl ?_
    refine R_iload_n (pc := 16) dX9_readsAsCard_16 rfl ?_
    refine R_iconst (pc := 17) (x := nI 0) dX9_readsAsCard_17 rfl ?_
    refine R_iast (pc := 18) dX9_readsAsCard_18 (by repeat (first | assumption | exact up_s | refine up_n (by omega) ?_)) (by first | with_reducible rfl | (simp only [nI_add, pk_mul]; exact rfl)) (by omega) (by decide) ?_
    refine R_iinc (pc := 19) dX9_readsAsCard_19 rfl (by first | exact nI_inc _ | rfl) rfl ?_
    refine R_goto (pc := 22) (t := 7) dX9_readsAsCard_22 (by decide) ?_
    refine lc9_clr n (k + 1) _ (upd g2 k (nI 0)) g3 (by omega) (up_n (by omega) ht1) (up_n (by omega) ht2) up_s (up_n (by omega) ht4) (fun j hj2 => ?_) (fun a ha => (up_n (by omega) rfl).trans (hg a ha)) hX
    by_cases e : j = k
    · subst e; exact upd_s
    · rw [upd_n e]; exact hj j (by omega)
theorem c9_readsAsCard {t l y : Nat} {T : Nat → Int32} {fk fp : Int32} {P Wd : Nat → Nat} (ht : TxW h t T l fk fp) (hy : LyAt h y P Wd) (hV : LayV Wd) (hl : l ≤ 50) (hty : t + 4 ≤ y ∨ y + 3 ≤ t) (hE : ∀ h2 : Nat → Option am_C, ¬ (scL Wd T l 0 sc0).1 = 0 → TxW h2 t T l (nI (scL Wd T l 0 sc0).1) (nI (scL Wd T l 0 sc0).2.1) → (∀ a, (a < t ∨ t + 4 ≤ a) → h2 a = h a) → Q (some (.int (nI 0))) (h2, z)) (hG : ∀ h2 : Nat → Option am_C, (scL Wd T l 0 sc0).1 = 0 → TxI h2 t T l fk fp (scL Wd T l 0 sc0).2.2 → (∀ a, (a < t ∨ t + 4 ≤ a) → h2 a = h a) → Q (some (.int (nI 1))) (h2, z)) : Rn sA mX9_readsAsCard 0 [some (.ref t), some (.ref y), none, none] [] (h, z) Q := by
  obtain ⟨g2, g3, wv, ht1, ht2, ht3, ht4⟩ := ht
  refine R_aload_n (pc := 0) dX9_readsAsCard_0 rfl ?_
  refine R_iconst (pc := 1) (x := (-1)) dX9_readsAsCard_1 rfl ?_
  refine R_putf (pc := 2) dX9_readsAsCard_2 rfl (by repeat (first | assumption | exact up_s | refine up_n (by omega) ?_)) rfl (Or.inl rfl) rfl ?_
  refine R_iconst (pc := 5) (x := nI 0) dX9_readsAsCard_5 rfl ?_
  refine R_istore_n (pc := 6) dX9_readsAsCard_6 (Nat.le_of_ble_eq_true rfl) rfl ?_
  refine lc9_clr (g := h) 5 0 _ g2 g3 (by omega) up_s (up_n (by omega) ht2) (up_n (by omega) ht3) (up_n (by omega) ht4) (fun j hj => absurd hj (Nat.not_lt_zero _)) (fun a ha => up_n (by omega) rfl) (fun h3 r1 r2 => ?_)
  refine R_iconst (pc := 25) (x := nI 0) dX9_readsAsCard_25 rfl ?_
  refine R_istore_n (pc := 26) dX9_readsAsCard_26 (Nat.le_of_ble_eq_true rfl) rfl ?_
  exact lc9_reads (g := h) hV hl hty l 0 sc0 h3 none (by omega) sc0_ok r1 (hy.fr (fun x x1 x2 => r2 x (by omega))) r2 hE hG
end CC8
