section MOD2
variable {sA : Nat} {h : Nat → Option am_C} {z : Nat × Nat} {Q : Option Value → am_H → Prop} {M : Nat} {A : Nat → Nat → Int32} {S : Nat → Int32}
theorem rd_torn {u g1 : Nat → Int32} {c t : Nat} (hg1 : ∀ j, j < 24 → g1 j = u (20 + 26 * c + j)) (ht4 : t < 24) (ht : u (20 + 26 * c + 25) = nI t) (h13 : ¬ u (20 + 26 * c + 24) = nI 2) (h65 : u (20 + 26 * c + 24) = nI 3) (j : Nat) (hj : j < 24) : upd g1 t (-1000009) j = rdF u c j := by
  unfold rdF
  by_cases e : j = t
  · subst e
    rw [upd_s, if_pos ⟨h65, ht.symm⟩]
  · rw [upd_n e, if_neg (fun q => e ((nI_eq (by omega) (by omega)).mp (q.2.trans ht))), if_neg h13]
    exact hg1 j hj
theorem s12_read {c t : Nat} (hc : c < 41) (ht4 : t < 24) (ht : A 1 (20 + 26 * c + 25) = nI t) (hQ : ∀ g : Nat → Int32, (∀ j, j < 24 → g j = rdF (A 1) c j) → Q none (putM h M (va_up A 5 g) S, z)) : Rn sA mX12_read 0 [some (.ref M), some (.int (nI c)), none] [] (putM h M A S, z) Q := by
  refine R_aload_n (pc := 0) dX12_read_0 rfl ?_
  refine R_iload_n (pc := 1) dX12_read_1 rfl ?_
  refine R_callV (pc := 2) dX12_read_2 rfl putM_o rfl rfl ?_
  refine s12_look hc (fun g1 hg1 => ?_)
  refine R_aload_n (pc := 5) dX12_read_5 rfl ?_
  refine R_iload_n (pc := 6) dX12_read_6 rfl ?_
  refine R_bipush (pc := 7) (x := nI 24) dX12_read_7 (by decide) ?_
  refine R_callV (pc := 9) dX12_read_9 rfl putM_o rfl rfl ?_
  refine s12_of hc (by omega) ?_
  refine R_iconst (pc := 12) (x := nI 2) dX12_read_12 rfl ?_
  refine R_icmp_ne (pc := 13) (t := 57) dX12_read_13 (by decide) (fun h13 => ?_) (fun h13 => ?_)
  · have h13 : ¬ A 1 (20 + 26 * c + 24) = nI 2 := h13
    refine R_aload_n (pc := 57) dX12_read_57 rfl ?_
    refine R_iload_n (pc := 58) dX12_read_58 rfl ?_
    refine R_bipush (pc := 59) (x := nI 24) dX12_read_59 (by decide) ?_
    refine R_callV (pc := 61) dX12_read_61 rfl putM_o rfl rfl ?_
    refine s12_of hc (by omega) ?_
    refine R_iconst (pc := 64) (x := nI 3) dX12_read_64 rfl ?_
    refine R_icmp_ne (pc := 65) (t := 82) dX12_read_65 (by decide) (fun h65 => ?_) (fun h65 => ?_)
    · have h65 : ¬ A 1 (20 + 26 * c + 24) = nI 3 := h65
      refine R_vret (pc := 82) dX12_read_82 rfl ?_
      first
        | exact hQ g1 (fun j hj => by unfold rdF; rw [if_neg (fun q => h65 q.1), if_neg h13]; exact hg1 j hj)
        | exact absurd (h13.symm.trans h65) (by decide)
        | exact hQ g2 (fun j hj => by unfold rdF; rw [if_neg (fun q => h65 q.1), if_pos h13]; exact hg2 j hj)
        | (rw [va_up_up]; exact hQ _ (fun j hj => rd_torn hg1 ht4 ht h13 h65 j hj))
    · have h65 : A 1 (20 + 26 * c + 24) = nI 3 := h65
      refine R_aload_n (pc := 68) dX12_read_68 rfl ?_
      refine M_g (pc := 69) dX12_read_69 rfl rfl ?_
      refine R_aload_n (pc := 72) dX12_read_72 rfl ?_
      refine R_iload_n (pc := 73) dX12_read_73 rfl ?_
      refine R_bipush (pc := 74) (x := nI 25) dX12_read_74 (by decide) ?_
      refine R_callV (pc := 76) dX12_read_76 rfl putM_o rfl rfl ?_
      refine s12_of hc (by omega) ?_
      refine R_ldc (pc := 79) (x := (-1000009)) dX12_read_79 rfl ?_
      refine M_ast (pc := 81) dX12_read_81 ht (by simp only [mol5]; omega) ?_
      refine R_vret (pc := 82) dX12_read_82 rfl ?_
      first
        | exact hQ g1 (fun j hj => by unfold rdF; rw [if_neg (fun q => h65 q.1), if_neg h13]; exact hg1 j hj)
        | exact absurd (h13.symm.trans h65) (by decide)
        | exact hQ g2 (fun j hj => by unfold rdF; rw [if_neg (fun q => h65 q.1), if_pos h13]; exact hg2 j hj)
        | (rw [va_up_up]; exact hQ _ (fun j hj => rd_torn hg1 ht4 ht h13 h65 j hj))
  · have h13 : A 1 (20 + 26 * c + 24) = nI 2 := h13
    refine R_iconst (pc := 16) (x := nI 0) dX12_read_16 rfl ?_
    refine R_istore_n (pc := 17) dX12_read_17 (Nat.le_of_ble_eq_true rfl) rfl ?_
    refine l12_read hc 24 0 g1 (by omega) (fun j hj => absurd hj (by omega)) (fun g2 hg2 k => ?_)
    refine R_aload_n (pc := 57) dX12_read_57 rfl ?_
    refine R_iload_n (pc := 58) dX12_read_58 rfl ?_
    refine R_bipush (pc := 59) (x := nI 24) dX12_read_59 (by decide) ?_
    refine R_callV (pc := 61) dX12_read_61 rfl putM_o rfl rfl ?_
    refine s12_of hc (by omega) ?_
    refine R_iconst (pc := 64) (x := nI 3) dX12_read_64 rfl ?_
    refine R_icmp_ne (pc := 65) (t := 82) dX12_read_65 (by decide) (fun h65 => ?_) (fun h65 => ?_)
    · have h65 : ¬ A 1 (20 + 26 * c + 24) = nI 3 := h65
      refine R_vret (pc := 82) dX12_read_82 rfl ?_
      first
        | exact hQ g1 (fun j hj => by unfold rdF; rw [if_neg (fun q => h65 q.1), if_neg h13]; exact hg1 j hj)
        | exact absurd (h13.symm.trans h65) (by decide)
        | exact hQ g2 (fun j hj => by unfold rdF; rw [if_neg (fun q => h65 q.1), if_pos h13]; exact hg2 j hj)
        | (rw [va_up_up]; exact hQ _ (fun j hj => rd_torn hg1 ht4 ht h13 h65 j hj))
    · have h65 : A 1 (20 + 26 * c + 24) = nI 3 := h65
      refine R_aload_n (pc := 68) dX12_read_68 rfl ?_
      refine M_g (pc := 69) dX12_read_69 rfl rfl ?_
      refine R_aload_n (pc := 72) dX12_read_72 rfl ?_
      refine R_iload_n (pc := 73) dX12_read_73 rfl ?_
      refine R_bipush (pc := 74) (x := nI 25) dX12_read_74 (by decide) ?_
      refine R_callV (pc := 76) dX12_read_76 rfl putM_o rfl rfl ?_
      refine s12_of hc (by omega) ?_
      refine R_ldc (pc := 79) (x := (-1000009)) dX12_read_79 rfl ?_
      refine M_ast (pc := 81) dX12_read_81 ht (by simp only [mol5]; omega) ?_
      refine R_vret (pc := 82) dX12_read_82 rfl ?_
      first
        | exact hQ g1 (fun j hj => by unfold rdF; rw [if_neg (fun q => h65 q.1), if_neg h13]; exact hg1 j hj)
        | exact absurd (h13.symm.trans h65) (by decide)
        | exact hQ g2 (fun j hj => by unfold rdF; rw [if_neg (fun q => h65 q.1), if_pos h13]; exact hg2 j hj)
        | (rw [va_up_up]; exact hQ _ (fun j hj => rd_torn hg1 ht4 ht h13 h65 j hj))
theorem valR_congr {g g' : Nat → Int32} {p : Nat} (hg : ∀ j, j < 24 → g j = g' j) : ∀ (n k : Nat) (v : Int32), p + k + n ≤ 24 → valR g p n k v = valR g' p n k v
  | 0, _, _, _ => rfl
  | n + 1, k, v, h => by
    unfold valR
    rw [hg (p + k) (by omega), valR_congr hg n (k + 1) _ (by omega)]
theorem dueF_congr {g g' : Nat → Int32} {p : Nat} (hg : ∀ j, j < 24 → g j = g' j) : ∀ (n k : Nat) (s : Int32), p + k + n ≤ 24 → dueF g p n k s = dueF g' p n k s
  | 0, _, _, _ => rfl
  | n + 1, k, s, h => by
    unfold dueF digR
    rw [hg (p + k) (by omega), dueF_congr hg n (k + 1) _ (by omega)]
theorem dueO_congr {P Wd : Nat → Nat} {u g g' : Nat → Int32} (hL : LayW u P Wd) (hg : ∀ j, j < 24 → g j = g' j) : ∀ (n f : Nat) (s : Int32), f + n ≤ 6 → dueO P Wd g n f s = dueO P Wd g' n f s
  | 0, _, _, _ => rfl
  | n + 1, f, s, h => by
    unfold dueO
    have h1 := (hL f (by omega)).2.2
    rw [dueF_congr hg (Wd f) 0 s (by omega), dueO_congr hL hg n (f + 1) _ (by omega)]
theorem valF_congr {P Wd : Nat → Nat} {u g g' : Nat → Int32} (hL : LayW u P Wd) (hg : ∀ j, j < 24 → g j = g' j) {f : Nat} (hf : f < 6) : valF P Wd g f = valF P Wd g' f := valR_congr hg (Wd f) 0 (nI 0) (by have := (hL f hf).2.2; omega)
theorem dueR_congr {P Wd : Nat → Nat} {u g g' : Nat → Int32} (hL : LayW u P Wd) (hg : ∀ j, j < 24 → g j = g' j) : dueR P Wd g = dueR P Wd g' := by
  unfold dueR
  rw [dueO_congr hL hg 5 0 (nI 0) (by omega)]
/-- one of the fields 0 to 4 has no value -/
abbrev noVal (P Wd : Nat → Nat) (g : Nat → Int32) : Prop := valF P Wd g 0 = (-1000009) ∨ valF P Wd g 1 = (-1000009) ∨ valF P Wd g 2 = (-1000009) ∨ valF P Wd g 3 = (-1000009) ∨ valF P Wd g 4 = (-1000009)
theorem noVal_of {P Wd : Nat → Nat} {g : Nat → Int32} {f : Nat} (hf : f < 5) (h : valF P Wd g f = (-1000009)) : noVal P Wd g := by
  unfold noVal
  match f, hf with
  | 0, _ => exact Or.inl h
  | 1, _ => exact Or.inr (Or.inl h)
  | 2, _ => exact Or.inr (Or.inr (Or.inl h))
  | 3, _ => exact Or.inr (Or.inr (Or.inr (Or.inl h)))
  | 4, _ => exact Or.inr (Or.inr (Or.inr (Or.inr h)))
theorem noVal_not {P Wd : Nat → Nat} {g : Nat → Int32} (h : ∀ f, f < 5 → ¬ valF P Wd g f = (-1000009)) : ¬ noVal P Wd g := by
  unfold noVal
  rintro (q | q | q | q | q)
  · exact h 0 (by omega) q
  · exact h 1 (by omega) q
  · exact h 2 (by omega) q
  · exact h 3 (by omega) q
  · exact h 4 (by omega) q
theorem noVal_congr {P Wd : Nat → Nat} {u g g' : Nat → Int32} (hL : LayW u P Wd) (hg : ∀ j, j < 24 → g j = g' j) : noVal P Wd g ↔ noVal P Wd g' := by
  unfold noVal
  rw [valF_congr hL hg (f := 0) (by omega), valF_congr hL hg (f := 1) (by omega), valF_congr hL hg (f := 2) (by omega), valF_congr hL hg (f := 3) (by omega), valF_congr hL hg (f := 4) (by omega)]
/-- the reason of a card by itself: k5 checks, k6 the most hours, mk its mark, g what is read -/
def rsnR (P Wd : Nat → Nat) (mk ck mh : Int32) (g : Nat → Int32) : Int32 := if mk = nI 1 then nI 1 else if noVal P Wd g then nI 2 else if ck = nI 1 ∧ ¬ valF P Wd g 5 = dueR P Wd g then nI 3 else if mh < valF P Wd g 3 then nI 4 else nI 0
theorem l12_own {c : Nat} {P Wd : Nat → Nat} (hL : LayW (A 1) P Wd) : ∀ (n f : Nat) (_ : f + n = 5) (_ : ∀ j, j < f → ¬ valF P Wd (A 5) j = (-1000009)) (_ : ∀ j, j < 5 → valF P Wd (A 5) j = (-1000009) → Q (some (.int (nI 2))) (putM h M A S, z)) (_ : (∀ j, j < 5 → ¬ valF P Wd (A 5) j = (-1000009)) → Rn sA mX12_ownReason 43 [some (.ref M), some (.int (nI c)), some (.int (nI 5))] [] (putM h M A S, z) Q), Rn sA mX12_ownReason 20 [some (.ref M), some (.int (nI c)), some (.int (nI f))] [] (putM h M A S, z) Q
  | 0, f, hk, hn, hE, hX => by
    obtain rfl : f = 5 := by omega
    refine R_iload_n (pc := 20) dX12_ownReason_20 rfl ?_
    refine R_iconst (pc := 21) (x := nI 5) dX12_ownReason_21 rfl ?_
    refine R_icmp_ge (pc := 22) (t := 43) dX12_ownReason_22 (by decide) (fun _ => ?_) (fun hz9 => absurd (nI_le (by omega) (by omega)) hz9)
    exact hX hn
  | n + 1, f, hk, hn, hE, hX => by
    refine R_iload_n (pc := 20) dX12_ownReason_20 rfl ?_
    refine R_iconst (pc := 21) (x := nI 5) dX12_ownReason_21 rfl ?_
    refine R_icmp_ge (pc := 22) (t := 43) dX12_ownReason_22 (by decide) (fun hz9 => absurd hz9 (nI_ge (by omega) (by omega))) (fun _ => ?_)
    refine R_aload_n (pc := 25) dX12_ownReason_25 rfl ?_
    refine R_iload_n (pc := 26) dX12_ownReason_26 rfl ?_
    refine R_callV (pc := 27) dX12_ownReason_27 rfl putM_o rfl rfl ?_
    refine s12_valueOf hL (by omega) ?_
    refine R_ldc (pc := 30) (x := (-1000009)) dX12_ownReason_30 rfl ?_
    refine R_icmp_ne (pc := 32) (t := 37) dX12_ownReason_32 (by decide) (fun h32 => ?_) (fun h32 => ?_)
    · refine R_iinc (pc := 37) dX12_ownReason_37 rfl (by first | exact nI_inc _ | rfl) rfl ?_
      refine R_goto (pc := 40) (t := 20) dX12_ownReason_40 (by decide) ?_
      exact l12_own hL n (f + 1) (by omega) (fun j hj => by
        by_cases e : j = f
        · subst e; exact h32
        · exact hn j (by omega)) hE hX
    · refine R_iconst (pc := 35) (x := nI 2) dX12_ownReason_35 rfl ?_
      refine R_iret (pc := 36) dX12_ownReason_36 rfl ?_
      exact hE f (by omega) h32
theorem s12_own {c t : Nat} {P Wd : Nat → Nat} (hL : LayW (A 1) P Wd) (hc : c < 41) (ht4 : t < 24) (ht : A 1 (20 + 26 * c + 25) = nI t) (hQ : ∀ g : Nat → Int32, (¬ A 1 (20 + 26 * c + 24) = nI 1 → ∀ j, j < 24 → g j = rdF (A 1) c j) → Q (some (.int (rsnR P Wd (A 1 (20 + 26 * c + 24)) (A 1 13) (A 1 14) (rdF (A 1) c)))) (putM h M (va_up A 5 g) S, z)) : Rn sA mX12_ownReason 0 [some (.ref M), some (.int (nI c)), none] [] (putM h M A S, z) Q := by
  refine R_aload_n (pc := 0) dX12_ownReason_0 rfl ?_
  refine R_iload_n (pc := 1) dX12_ownReason_1 rfl ?_
  refine R_bipush (pc := 2) (x := nI 24) dX12_ownReason_2 (by decide) ?_
  refine R_callV (pc := 4) dX12_ownReason_4 rfl putM_o rfl rfl ?_
  refine s12_of hc (by omega) ?_
  refine R_iconst (pc := 7) (x := nI 1) dX12_ownReason_7 rfl ?_
  refine R_icmp_ne (pc := 8) (t := 13) dX12_ownReason_8 (by decide) (fun h8 => ?_) (fun h8 => ?_)
  · refine R_aload_n (pc := 13) dX12_ownReason_13 rfl ?_
    refine R_iload_n (pc := 14) dX12_ownReason_14 rfl ?_
    refine R_callV (pc := 15) dX12_ownReason_15 rfl putM_o rfl rfl ?_
    refine s12_read hc ht4 ht (fun g hg => ?_)
    have hV : ∀ f, f < 6 → valF P Wd g f = valF P Wd (rdF (A 1) c) f := fun f hf => valF_congr hL hg hf
    have hQ := hQ g (fun _ => hg)
    unfold rsnR at hQ
    rw [if_neg h8] at hQ
    refine R_iconst (pc := 18) (x := nI 0) dX12_ownReason_18 rfl ?_
    refine R_istore_n (pc := 19) dX12_ownReason_19 (Nat.le_of_ble_eq_true rfl) rfl ?_
    refine l12_own (A := va_up A 5 g) hL 5 0 (by omega) (fun j hj => absurd hj (by omega)) (fun j hj e => ?_) (fun hn => ?_)
    · rw [if_pos (noVal_of hj ((hV j (by omega)).symm.trans e))] at hQ
      exact hQ
    rw [if_neg (noVal_not (fun j hj e => hn j hj ((hV j (by omega)).trans e)))] at hQ
    refine R_aload_n (pc := 43) dX12_ownReason_43 rfl ?_
    refine M_g (pc := 44) dX12_ownReason_44 rfl rfl ?_
    refine R_bipush (pc := 47) (x := nI 13) dX12_ownReason_47 (by decide) ?_
    refine M_ald (pc := 49) dX12_ownReason_49 rfl (by simp only [mol1]; omega) ?_
    refine R_iconst (pc := 50) (x := nI 1) dX12_ownReason_50 rfl ?_
    refine R_icmp_ne (pc := 51) (t := 68) dX12_ownReason_51 (by decide) (fun h51 => ?_) (fun h51 => ?_)
    · refine R_aload_n (pc := 68) dX12_ownReason_68 rfl ?_
      refine R_iconst (pc := 69) (x := nI 3) dX12_ownReason_69 rfl ?_
      refine R_callV (pc := 70) dX12_ownReason_70 rfl putM_o rfl rfl ?_
      refine s12_valueOf (A := va_up A 5 g) hL (by omega) ?_
      refine R_aload_n (pc := 73) dX12_ownReason_73 rfl ?_
      refine M_g (pc := 74) dX12_ownReason_74 rfl rfl ?_
      refine R_bipush (pc := 77) (x := nI 14) dX12_ownReason_77 (by decide) ?_
      refine M_ald (pc := 79) dX12_ownReason_79 rfl (by simp only [mol1]; omega) ?_
      refine R_icmp_le (pc := 80) (t := 87) dX12_ownReason_80 (by decide) (fun h80 => ?_) (fun h80 => ?_)
      · refine R_iconst (pc := 87) (x := nI 0) dX12_ownReason_87 rfl ?_
        refine R_iret (pc := 88) dX12_ownReason_88 rfl ?_
        have hQ := hQ
        first
          | rw [if_neg (fun q => h51 q.1)] at hQ
          | rw [if_neg (fun q => q.2 ((hV 5 (by omega)).symm.trans (h63.trans (dueR_congr hL hg))))] at hQ
        first
          | (rw [if_neg (fun q => absurd h80 (Int32.not_le.mpr (by rw [show va_up A 5 g 5 = g from rfl, hV 3 (by omega)]; exact q)))] at hQ; exact hQ)
          | (rw [if_pos (by rw [← hV 3 (by omega)]; exact Int32.not_le.mp h80)] at hQ; exact hQ)
      · refine R_iconst (pc := 83) (x := nI 4) dX12_ownReason_83 rfl ?_
        refine R_goto (pc := 84) (t := 88) dX12_ownReason_84 (by decide) ?_
        refine R_iret (pc := 88) dX12_ownReason_88 rfl ?_
        have hQ := hQ
        first
          | rw [if_neg (fun q => h51 q.1)] at hQ
          | rw [if_neg (fun q => q.2 ((hV 5 (by omega)).symm.trans (h63.trans (dueR_congr hL hg))))] at hQ
        first
          | (rw [if_neg (fun q => absurd h80 (Int32.not_le.mpr (by rw [show va_up A 5 g 5 = g from rfl, hV 3 (by omega)]; exact q)))] at hQ; exact hQ)
          | (rw [if_pos (by rw [← hV 3 (by omega)]; exact Int32.not_le.mp h80)] at hQ; exact hQ)
    · refine R_aload_n (pc := 54) dX12_ownReason_54 rfl ?_
      refine R_iconst (pc := 55) (x := nI 5) dX12_ownReason_55 rfl ?_
      refine R_callV (pc := 56) dX12_ownReason_56 rfl putM_o rfl rfl ?_
      refine s12_valueOf (A := va_up A 5 g) hL (by omega) ?_
      refine R_aload_n (pc := 59) dX12_ownReason_59 rfl ?_
      refine R_callV (pc := 60) dX12_ownReason_60 rfl putM_o rfl rfl ?_
      refine s12_due (A := va_up A 5 g) hL ?_
      refine R_icmp_eq (pc := 63) (t := 68) dX12_ownReason_63 (by decide) (fun h63 => ?_) (fun h63 => ?_)
      · refine R_aload_n (pc := 68) dX12_ownReason_68 rfl ?_
        refine R_iconst (pc := 69) (x := nI 3) dX12_ownReason_69 rfl ?_
        refine R_callV (pc := 70) dX12_ownReason_70 rfl putM_o rfl rfl ?_
        refine s12_valueOf (A := va_up A 5 g) hL (by omega) ?_
        refine R_aload_n (pc := 73) dX12_ownReason_73 rfl ?_
        refine M_g (pc := 74) dX12_ownReason_74 rfl rfl ?_
        refine R_bipush (pc := 77) (x := nI 14) dX12_ownReason_77 (by decide) ?_
        refine M_ald (pc := 79) dX12_ownReason_79 rfl (by simp only [mol1]; omega) ?_
        refine R_icmp_le (pc := 80) (t := 87) dX12_ownReason_80 (by decide) (fun h80 => ?_) (fun h80 => ?_)
        · refine R_iconst (pc := 87) (x := nI 0) dX12_ownReason_87 rfl ?_
          refine R_iret (pc := 88) dX12_ownReason_88 rfl ?_
          have hQ := hQ
          first
            | rw [if_neg (fun q => h51 q.1)] at hQ
            | rw [if_neg (fun q => q.2 ((hV 5 (by omega)).symm.trans (h63.trans (dueR_congr hL hg))))] at hQ
          first
            | (rw [if_neg (fun q => absurd h80 (Int32.not_le.mpr (by rw [show va_up A 5 g 5 = g from rfl, hV 3 (by omega)]; exact q)))] at hQ; exact hQ)
            | (rw [if_pos (by rw [← hV 3 (by omega)]; exact Int32.not_le.mp h80)] at hQ; exact hQ)
        · refine R_iconst (pc := 83) (x := nI 4) dX12_ownReason_83 rfl ?_
          refine R_goto (pc := 84) (t := 88) dX12_ownReason_84 (by decide) ?_
          refine R_iret (pc := 88) dX12_ownReason_88 rfl ?_
          have hQ := hQ
          first
            | rw [if_neg (fun q => h51 q.1)] at hQ
            | rw [if_neg (fun q => q.2 ((hV 5 (by omega)).symm.trans (h63.trans (dueR_congr hL hg))))] at hQ
          first
            | (rw [if_neg (fun q => absurd h80 (Int32.not_le.mpr (by rw [show va_up A 5 g 5 = g from rfl, hV 3 (by omega)]; exact q)))] at hQ; exact hQ)
            | (rw [if_pos (by rw [← hV 3 (by omega)]; exact Int32.not_le.mp h80)] at hQ; exact hQ)
      · refine R_iconst (pc := 66) (x := nI 3) dX12_ownReason_66 rfl ?_
        refine R_iret (pc := 67) dX12_ownReason_67 rfl ?_
        rw [if_pos ⟨h51, fun q => h63 ((hV 5 (by omega)).trans (q.trans (dueR_congr hL hg).symm))⟩] at hQ
        exact hQ
  · refine R_iconst (pc := 11) (x := nI 1) dX12_ownReason_11 rfl ?_
    refine R_iret (pc := 12) dX12_ownReason_12 rfl ?_
    have hQ := hQ (A 5) (fun q => absurd h8 q)
    unfold rsnR at hQ
    rw [if_pos h8, va_up_id] at hQ
    exact hQ
end MOD2
