section MOD13
variable {sA : Nat} {h : Nat → Option am_C} {z : Nat × Nat} {Q : Option Value → am_H → Prop} {M : Nat} {A : Nat → Nat → Int32} {S : Nat → Int32}
/-! THE REPORT: lines so far, their columns, the sums of the four levels -/
abbrev PS := Nat × (Nat → Nat → Int32) × (Nat → Int32)
abbrev noneK (kd k : Nat) : Prop := kd = 4 ∨ (0 < k ∧ kd = 3) ∨ (1 < k ∧ kd = 2)
def colV (kd : Nat) (v : Nat → Int32) (k : Nat) : Int32 := if noneK kd k then (-1000009) else v k
def lineV (kd : Nat) (v : Nat → Int32) (a b c d e : Int32) (j : Nat) : Int32 := if j = 0 then nI kd else if j < 4 then colV kd v (j - 1) else if j = 4 then a else if j = 5 then b else if j = 6 then c else if j = 7 then d else e
def ovr (h l r : Int32) : Int32 := if l < h then ((h - l).toInt64 * r.toInt64 / 20).toInt32 else nI 0
def wag (v : Nat → Int32) : Int32 := v 3 * v 4 / nI 10
def brkA (lim : Int32) (lv : Nat) (v sm : Nat → Int32) : Nat → Int32 := if lv = 0 then (fun j => if j % 4 = 2 ∨ j % 4 = 3 then sm j + ovr (sm 1) lim (v 4) else sm j) else sm
def putL (p : PS) (L : Nat → Int32) (sm : Nat → Int32) : PS := (p.1 + 1, (fun i j => if i = p.1 then L j else p.2.1 i j), sm)
def brk (lim : Int32) (lv : Nat) (v : Nat → Int32) (p : PS) : PS := putL p (lineV (lv + 1) v (brkA lim lv v p.2.2 (4 * lv)) (brkA lim lv v p.2.2 (4 * lv + 1)) (brkA lim lv v p.2.2 (4 * lv + 2)) (brkA lim lv v p.2.2 (4 * lv + 3)) (-1000009)) (fun j => if j / 4 = lv then nI 0 else brkA lim lv v p.2.2 j)
def brks (lim : Int32) (v : Nat → Int32) : Nat → PS → PS
  | 0, p => p
  | n + 1, p => brk lim n v (brks lim v n p)
def lvN (u v : Nat → Int32) : Nat := if ¬ u 0 = v 0 then 3 else if ¬ u 1 = v 1 then 2 else if ¬ u 2 = v 2 then 1 else 0
def addC (v sm : Nat → Int32) : Nat → Int32 := fun j => if j % 4 = 0 then sm j + nI 1 else if j % 4 = 1 then sm j + v 3 else if j % 4 = 2 then sm j + wag v else sm j
def cardL (v : Nat → Int32) (num : Int32) (p : PS) : PS := putL p (lineV 0 v (nI 1) (v 3) (wag v) (nI 0) num) (addC v p.2.2)
def ptB (lim : Int32) (acc : Nat → Nat → Int32) (k : Nat) (p : PS) : PS := if k = 0 then p else brks lim (acc (k - 1)) (lvN (acc k) (acc (k - 1))) p
def ptS (lim : Int32) (acc : Nat → Nat → Int32) (num : Nat → Int32) : Nat → PS
  | 0 => (0, fun _ _ => 0, fun _ => nI 0)
  | k + 1 => cardL (acc k) (num k) (ptB lim acc k (ptS lim acc num k))
def ptE (lim : Int32) (acc : Nat → Nat → Int32) (num : Nat → Int32) (m : Nat) : PS := brk lim 3 (acc 0) (if m = 0 then ptS lim acc num m else brks lim (acc (m - 1)) 3 (ptS lim acc num m))
theorem brks_1 {lim : Int32} {v : Nat → Int32} : ∀ {n : Nat} {p : PS}, (brks lim v n p).1 = p.1 + n
  | 0, _ => rfl
  | n + 1, p => by
    show (brks lim v n p).1 + 1 = _
    rw [brks_1]
    omega
theorem lvN_le (u v : Nat → Int32) : lvN u v ≤ 3 := by unfold lvN; (repeat' split) <;> omega
theorem ptS_le {lim : Int32} {acc : Nat → Nat → Int32} {num : Nat → Int32} : ∀ k, (ptS lim acc num k).1 ≤ 4 * k ∧ (0 < k → (ptS lim acc num k).1 + 3 ≤ 4 * k)
  | 0 => ⟨Nat.le_refl 0, fun q => absurd q (Nat.lt_irrefl 0)⟩
  | k + 1 => by
    obtain ⟨h1, h2⟩ := ptS_le (lim := lim) (acc := acc) (num := num) k
    have e : (ptS lim acc num (k + 1)).1 = (ptB lim acc k (ptS lim acc num k)).1 + 1 := rfl
    have h3 : (ptB lim acc k (ptS lim acc num k)).1 + 3 ≤ 4 * (k + 1) - 1 := by
      unfold ptB
      split
      · rename_i q; subst q; show 0 + 3 ≤ _; omega
      · have := lvN_le (acc k) (acc (k - 1))
        rw [brks_1]
        have := h2 (by omega)
        omega
    rw [e]
    omega
/-- what stands of a report in the reference's arrays -/
def PsR (U : Nat → Int32) (p : PS) (V Z : Nat → Int32) : Prop := (∀ j, j < 1304 → V j = U j) ∧ V 1304 = nI p.1 ∧ (∀ i, i < p.1 → ∀ j, j < 9 → V (1305 + 9 * i + j) = p.2.1 i j) ∧ ∀ j, j < 16 → Z j = p.2.2 j
theorem PsR.put {U : Nat → Int32} {p : PS} {V Z V2 Z2 L sm : Nat → Int32} (h : PsR U p V Z) (h1 : ∀ j, (j < 1304 ∨ (1305 ≤ j ∧ j < 1305 + 9 * p.1)) → V2 j = V j) (h2 : V2 1304 = nI (p.1 + 1)) (h3 : ∀ j, j < 9 → V2 (1305 + 9 * p.1 + j) = L j) (h4 : ∀ j, j < 16 → Z2 j = sm j) : PsR U (putL p L sm) V2 Z2 := by
  refine ⟨fun j hj => (h1 j (Or.inl hj)).trans (h.1 j hj), h2, fun i hi j hj => ?_, h4⟩
  show _ = if i = p.1 then L j else p.2.1 i j
  have hi2 : i < p.1 + 1 := hi
  by_cases e : i = p.1
  · rw [if_pos e, e]; exact h3 j hj
  · rw [if_neg e, h1 _ (Or.inr ⟨by omega, by omega⟩)]
    exact h.2.2.1 i (by omega) j hj
theorem l12_pl {kd cd at_ : Nat} {v : Nat → Int32} (hat : 1305 ≤ at_) (hat2 : at_ + 9 ≤ 2754) (hcd : cd < 40) (hkd : kd ≤ 4) : ∀ (n k : Nat) (V : Nat → Int32) (_ : k + n = 3) (_ : ∀ f, f < 3 → V (1104 + 5 * cd + f) = v f) (_ : (∀ V2 : Nat → Int32, (∀ j, (j < at_ + 1 + k ∨ at_ + 4 ≤ j) → V2 j = V j) → (∀ i, k ≤ i → i < 3 → V2 (at_ + 1 + i) = colV kd v i) → Rn sA mX12_printLine 87 [some (.ref M), some (.int (nI kd)), some (.int (nI cd)), some (.int (nI at_)), some (.int (nI 3))] [] (putM h M (va_up A 1 V2) S, z) Q)), Rn sA mX12_printLine 26 [some (.ref M), some (.int (nI kd)), some (.int (nI cd)), some (.int (nI at_)), some (.int (nI k))] [] (putM h M (va_up A 1 V) S, z) Q
  | 0, k, V, hk, hv, hX => by
    obtain rfl : k = 3 := by omega
    refine R_iload (pc := 26) dX12_printLine_26 rfl ?_
    refine R_iconst (pc := 28) (x := nI 3) dX12_printLine_28 rfl ?_
    refine R_icmp_ge (pc := 29) (t := 87) dX12_printLine_29 (by decide) (fun _ => ?_) (fun hz9 => absurd (nI_le (by omega) (by omega)) hz9)
    exact hX V (fun _ _ => rfl) (fun i a b => absurd b (by omega))
  | n + 1, k, V, hk, hv, hX => by
    refine R_iload (pc := 26) dX12_printLine_26 rfl ?_
    refine R_iconst (pc := 28) (x := nI 3) dX12_printLine_28 rfl ?_
    refine R_icmp_ge (pc := 29) (t := 87) dX12_printLine_29 (by decide) (fun hz9 => absurd hz9 (nI_ge (by omega) (by omega))) (fun _ => ?_)
    refine R_aload_n (pc := 32) dX12_printLine_32 rfl ?_
    refine M_g (pc := 33) dX12_printLine_33 rfl rfl ?_
    refine R_iload_n (pc := 36) dX12_printLine_36 rfl ?_
    refine R_iconst (pc := 37) (x := nI 1) dX12_printLine_37 rfl ?_
    refine R_iadd (pc := 38) dX12_printLine_38 ?_
    refine R_iload (pc := 39) dX12_printLine_39 rfl ?_
    refine R_iadd (pc := 41) dX12_printLine_41 ?_
    refine R_iload_n (pc := 42) dX12_printLine_42 rfl ?_
    refine R_iconst (pc := 43) (x := nI 4) dX12_printLine_43 rfl ?_
    refine R_icmp_eq (pc := 44) (t := 68) dX12_printLine_44 (by decide) (fun h44 => ?_) (fun h44 => ?_)
    · have c44 : kd = 4 := (nI_eq (by omega) (by omega)).mp h44
      refine R_ldc (pc := 68) (x := (-1000009)) dX12_printLine_68 rfl ?_
      refine R_goto (pc := 70) (t := 80) dX12_printLine_70 (by decide) ?_
      refine M_ast (pc := 80) dX12_printLine_80 (by simp only [nI_add]; exact rfl) (by simp only [mol1]; omega) ?_
      refine R_iinc (pc := 81) dX12_printLine_81 rfl (by first | exact nI_inc _ | rfl) rfl ?_
      refine R_goto (pc := 84) (t := 26) dX12_printLine_84 (by decide) ?_
      rw [va_up_up]
      first
        | (have ex : ((-1000009) : Int32) = colV kd v k := by unfold colV noneK; rw [if_pos (by omega)]
           refine l12_pl (v := v) hat hat2 hcd hkd n (k + 1) (upd V (at_ + 1 + k) (-1000009)) (by omega) (fun f hf => by rw [upd_n (by omega)]; exact hv f hf) (fun V2 a b => hX V2 (fun j hj => (a j (by omega)).trans (upd_n (by omega))) (fun i i1 i2 => ?_))
           by_cases e : i = k
           · subst e; rw [a _ (by omega), upd_s]; exact ex
           · exact b i (by omega) i2)
        | (have ex : V (1104 + 5 * cd + k) = colV kd v k := by unfold colV noneK; rw [if_neg (by omega)]; exact hv k (by omega)
           refine l12_pl (v := v) hat hat2 hcd hkd n (k + 1) (upd V (at_ + 1 + k) (V (1104 + 5 * cd + k))) (by omega) (fun f hf => by rw [upd_n (by omega)]; exact hv f hf) (fun V2 a b => hX V2 (fun j hj => (a j (by omega)).trans (upd_n (by omega))) (fun i i1 i2 => ?_))
           by_cases e : i = k
           · subst e; rw [a _ (by omega), upd_s]; exact ex
           · exact b i (by omega) i2)
    · have c44 : ¬ kd = 4 := fun q => h44 (by rw [q])
      refine R_iload (pc := 47) dX12_printLine_47 rfl ?_
      refine R_if_le (pc := 49) (t := 57) dX12_printLine_49 (by decide) (fun h49 => ?_) (fun h49 => ?_)
      · have c49 : k = 0 := by have := (nI_leI (a := k) (b := 0) (by omega) (by omega)).mp h49; omega
        refine R_iload (pc := 57) dX12_printLine_57 rfl ?_
        refine R_iconst (pc := 59) (x := nI 1) dX12_printLine_59 rfl ?_
        refine R_icmp_le (pc := 60) (t := 73) dX12_printLine_60 (by decide) (fun h60 => ?_) (fun h60 => ?_)
        · have c60 : k ≤ 1 := (nI_leI (by omega) (by omega)).mp h60
          refine R_aload_n (pc := 73) dX12_printLine_73 rfl ?_
          refine R_iload_n (pc := 74) dX12_printLine_74 rfl ?_
          refine R_iload (pc := 75) dX12_printLine_75 rfl ?_
          refine R_callV (pc := 77) dX12_printLine_77 rfl putM_o rfl rfl ?_
          refine s12_accepted (by omega) (by omega) ?_
          refine M_ast (pc := 80) dX12_printLine_80 (by simp only [nI_add]; exact rfl) (by simp only [mol1]; omega) ?_
          refine R_iinc (pc := 81) dX12_printLine_81 rfl (by first | exact nI_inc _ | rfl) rfl ?_
          refine R_goto (pc := 84) (t := 26) dX12_printLine_84 (by decide) ?_
          rw [va_up_up]
          first
            | (have ex : ((-1000009) : Int32) = colV kd v k := by unfold colV noneK; rw [if_pos (by omega)]
               refine l12_pl (v := v) hat hat2 hcd hkd n (k + 1) (upd V (at_ + 1 + k) (-1000009)) (by omega) (fun f hf => by rw [upd_n (by omega)]; exact hv f hf) (fun V2 a b => hX V2 (fun j hj => (a j (by omega)).trans (upd_n (by omega))) (fun i i1 i2 => ?_))
               by_cases e : i = k
               · subst e; rw [a _ (by omega), upd_s]; exact ex
               · exact b i (by omega) i2)
            | (have ex : V (1104 + 5 * cd + k) = colV kd v k := by unfold colV noneK; rw [if_neg (by omega)]; exact hv k (by omega)
               refine l12_pl (v := v) hat hat2 hcd hkd n (k + 1) (upd V (at_ + 1 + k) (V (1104 + 5 * cd + k))) (by omega) (fun f hf => by rw [upd_n (by omega)]; exact hv f hf) (fun V2 a b => hX V2 (fun j hj => (a j (by omega)).trans (upd_n (by omega))) (fun i i1 i2 => ?_))
               by_cases e : i = k
               · subst e; rw [a _ (by omega), upd_s]; exact ex
               · exact b i (by omega) i2)
        · have c60 : ¬ k ≤ 1 := fun q => h60 (nI_le q (by omega))
          refine R_iload_n (pc := 63) dX12_printLine_63 rfl ?_
          refine R_iconst (pc := 64) (x := nI 2) dX12_printLine_64 rfl ?_
          refine R_icmp_ne (pc := 65) (t := 73) dX12_printLine_65 (by decide) (fun h65 => ?_) (fun h65 => ?_)
          · have c65 : ¬ kd = 2 := fun q => h65 (by rw [q])
            refine R_aload_n (pc := 73) dX12_printLine_73 rfl ?_
            refine R_iload_n (pc := 74) dX12_printLine_74 rfl ?_
            refine R_iload (pc := 75) dX12_printLine_75 rfl ?_
            refine R_callV (pc := 77) dX12_printLine_77 rfl putM_o rfl rfl ?_
            refine s12_accepted (by omega) (by omega) ?_
            refine M_ast (pc := 80) dX12_printLine_80 (by simp only [nI_add]; exact rfl) (by simp only [mol1]; omega) ?_
            refine R_iinc (pc := 81) dX12_printLine_81 rfl (by first | exact nI_inc _ | rfl) rfl ?_
            refine R_goto (pc := 84) (t := 26) dX12_printLine_84 (by decide) ?_
            rw [va_up_up]
            first
              | (have ex : ((-1000009) : Int32) = colV kd v k := by unfold colV noneK; rw [if_pos (by omega)]
                 refine l12_pl (v := v) hat hat2 hcd hkd n (k + 1) (upd V (at_ + 1 + k) (-1000009)) (by omega) (fun f hf => by rw [upd_n (by omega)]; exact hv f hf) (fun V2 a b => hX V2 (fun j hj => (a j (by omega)).trans (upd_n (by omega))) (fun i i1 i2 => ?_))
                 by_cases e : i = k
                 · subst e; rw [a _ (by omega), upd_s]; exact ex
                 · exact b i (by omega) i2)
              | (have ex : V (1104 + 5 * cd + k) = colV kd v k := by unfold colV noneK; rw [if_neg (by omega)]; exact hv k (by omega)
                 refine l12_pl (v := v) hat hat2 hcd hkd n (k + 1) (upd V (at_ + 1 + k) (V (1104 + 5 * cd + k))) (by omega) (fun f hf => by rw [upd_n (by omega)]; exact hv f hf) (fun V2 a b => hX V2 (fun j hj => (a j (by omega)).trans (upd_n (by omega))) (fun i i1 i2 => ?_))
                 by_cases e : i = k
                 · subst e; rw [a _ (by omega), upd_s]; exact ex
                 · exact b i (by omega) i2)
          · have c65 : kd = 2 := (nI_eq (by omega) (by omega)).mp h65
            refine R_ldc (pc := 68) (x := (-1000009)) dX12_printLine_68 rfl ?_
            refine R_goto (pc := 70) (t := 80) dX12_printLine_70 (by decide) ?_
            refine M_ast (pc := 80) dX12_printLine_80 (by simp only [nI_add]; exact rfl) (by simp only [mol1]; omega) ?_
            refine R_iinc (pc := 81) dX12_printLine_81 rfl (by first | exact nI_inc _ | rfl) rfl ?_
            refine R_goto (pc := 84) (t := 26) dX12_printLine_84 (by decide) ?_
            rw [va_up_up]
            first
              | (have ex : ((-1000009) : Int32) = colV kd v k := by unfold colV noneK; rw [if_pos (by omega)]
                 refine l12_pl (v := v) hat hat2 hcd hkd n (k + 1) (upd V (at_ + 1 + k) (-1000009)) (by omega) (fun f hf => by rw [upd_n (by omega)]; exact hv f hf) (fun V2 a b => hX V2 (fun j hj => (a j (by omega)).trans (upd_n (by omega))) (fun i i1 i2 => ?_))
                 by_cases e : i = k
                 · subst e; rw [a _ (by omega), upd_s]; exact ex
                 · exact b i (by omega) i2)
              | (have ex : V (1104 + 5 * cd + k) = colV kd v k := by unfold colV noneK; rw [if_neg (by omega)]; exact hv k (by omega)
                 refine l12_pl (v := v) hat hat2 hcd hkd n (k + 1) (upd V (at_ + 1 + k) (V (1104 + 5 * cd + k))) (by omega) (fun f hf => by rw [upd_n (by omega)]; exact hv f hf) (fun V2 a b => hX V2 (fun j hj => (a j (by omega)).trans (upd_n (by omega))) (fun i i1 i2 => ?_))
                 by_cases e : i = k
                 · subst e; rw [a _ (by omega), upd_s]; exact ex
                 · exact b i (by omega) i2)
      · have c49 : ¬ k = 0 := fun q => h49 (by rw [q]; decide)
        refine R_iload_n (pc := 52) dX12_printLine_52 rfl ?_
        refine R_iconst (pc := 53) (x := nI 3) dX12_printLine_53 rfl ?_
        refine R_icmp_eq (pc := 54) (t := 68) dX12_printLine_54 (by decide) (fun h54 => ?_) (fun h54 => ?_)
        · have c54 : kd = 3 := (nI_eq (by omega) (by omega)).mp h54
          refine R_ldc (pc := 68) (x := (-1000009)) dX12_printLine_68 rfl ?_
          refine R_goto (pc := 70) (t := 80) dX12_printLine_70 (by decide) ?_
          refine M_ast (pc := 80) dX12_printLine_80 (by simp only [nI_add]; exact rfl) (by simp only [mol1]; omega) ?_
          refine R_iinc (pc := 81) dX12_printLine_81 rfl (by first | exact nI_inc _ | rfl) rfl ?_
          refine R_goto (pc := 84) (t := 26) dX12_printLine_84 (by decide) ?_
          rw [va_up_up]
          first
            | (have ex : ((-1000009) : Int32) = colV kd v k := by unfold colV noneK; rw [if_pos (by omega)]
               refine l12_pl (v := v) hat hat2 hcd hkd n (k + 1) (upd V (at_ + 1 + k) (-1000009)) (by omega) (fun f hf => by rw [upd_n (by omega)]; exact hv f hf) (fun V2 a b => hX V2 (fun j hj => (a j (by omega)).trans (upd_n (by omega))) (fun i i1 i2 => ?_))
               by_cases e : i = k
               · subst e; rw [a _ (by omega), upd_s]; exact ex
               · exact b i (by omega) i2)
            | (have ex : V (1104 + 5 * cd + k) = colV kd v k := by unfold colV noneK; rw [if_neg (by omega)]; exact hv k (by omega)
               refine l12_pl (v := v) hat hat2 hcd hkd n (k + 1) (upd V (at_ + 1 + k) (V (1104 + 5 * cd + k))) (by omega) (fun f hf => by rw [upd_n (by omega)]; exact hv f hf) (fun V2 a b => hX V2 (fun j hj => (a j (by omega)).trans (upd_n (by omega))) (fun i i1 i2 => ?_))
               by_cases e : i = k
               · subst e; rw [a _ (by omega), upd_s]; exact ex
               · exact b i (by omega) i2)
        · have c54 : ¬ kd = 3 := fun q => h54 (by rw [q])
          refine R_iload (pc := 57) dX12_printLine_57 rfl ?_
          refine R_iconst (pc := 59) (x := nI 1) dX12_printLine_59 rfl ?_
          refine R_icmp_le (pc := 60) (t := 73) dX12_printLine_60 (by decide) (fun h60 => ?_) (fun h60 => ?_)
          · have c60 : k ≤ 1 := (nI_leI (by omega) (by omega)).mp h60
            refine R_aload_n (pc := 73) dX12_printLine_73 rfl ?_
            refine R_iload_n (pc := 74) dX12_printLine_74 rfl ?_
            refine R_iload (pc := 75) dX12_printLine_75 rfl ?_
            refine R_callV (pc := 77) dX12_printLine_77 rfl putM_o rfl rfl ?_
            refine s12_accepted (by omega) (by omega) ?_
            refine M_ast (pc := 80) dX12_printLine_80 (by simp only [nI_add]; exact rfl) (by simp only [mol1]; omega) ?_
            refine R_iinc (pc := 81) dX12_printLine_81 rfl (by first | exact nI_inc _ | rfl) rfl ?_
            refine R_goto (pc := 84) (t := 26) dX12_printLine_84 (by decide) ?_
            rw [va_up_up]
            first
              | (have ex : ((-1000009) : Int32) = colV kd v k := by unfold colV noneK; rw [if_pos (by omega)]
                 refine l12_pl (v := v) hat hat2 hcd hkd n (k + 1) (upd V (at_ + 1 + k) (-1000009)) (by omega) (fun f hf => by rw [upd_n (by omega)]; exact hv f hf) (fun V2 a b => hX V2 (fun j hj => (a j (by omega)).trans (upd_n (by omega))) (fun i i1 i2 => ?_))
                 by_cases e : i = k
                 · subst e; rw [a _ (by omega), upd_s]; exact ex
                 · exact b i (by omega) i2)
              | (have ex : V (1104 + 5 * cd + k) = colV kd v k := by unfold colV noneK; rw [if_neg (by omega)]; exact hv k (by omega)
                 refine l12_pl (v := v) hat hat2 hcd hkd n (k + 1) (upd V (at_ + 1 + k) (V (1104 + 5 * cd + k))) (by omega) (fun f hf => by rw [upd_n (by omega)]; exact hv f hf) (fun V2 a b => hX V2 (fun j hj => (a j (by omega)).trans (upd_n (by omega))) (fun i i1 i2 => ?_))
                 by_cases e : i = k
                 · subst e; rw [a _ (by omega), upd_s]; exact ex
                 · exact b i (by omega) i2)
          · have c60 : ¬ k ≤ 1 := fun q => h60 (nI_le q (by omega))
            refine R_iload_n (pc := 63) dX12_printLine_63 rfl ?_
            refine R_iconst (pc := 64) (x := nI 2) dX12_printLine_64 rfl ?_
            refine R_icmp_ne (pc := 65) (t := 73) dX12_printLine_65 (by decide) (fun h65 => ?_) (fun h65 => ?_)
            · have c65 : ¬ kd = 2 := fun q => h65 (by rw [q])
              refine R_aload_n (pc := 73) dX12_printLine_73 rfl ?_
              refine R_iload_n (pc := 74) dX12_printLine_74 rfl ?_
              refine R_iload (pc := 75) dX12_printLine_75 rfl ?_
              refine R_callV (pc := 77) dX12_printLine_77 rfl putM_o rfl rfl ?_
              refine s12_accepted (by omega) (by omega) ?_
              refine M_ast (pc := 80) dX12_printLine_80 (by simp only [nI_add]; exact rfl) (by simp only [mol1]; omega) ?_
              refine R_iinc (pc := 81) dX12_printLine_81 rfl (by first | exact nI_inc _ | rfl) rfl ?_
              refine R_goto (pc := 84) (t := 26) dX12_printLine_84 (by decide) ?_
              rw [va_up_up]
              first
                | (have ex : ((-1000009) : Int32) = colV kd v k := by unfold colV noneK; rw [if_pos (by omega)]
                   refine l12_pl (v := v) hat hat2 hcd hkd n (k + 1) (upd V (at_ + 1 + k) (-1000009)) (by omega) (fun f hf => by rw [upd_n (by omega)]; exact hv f hf) (fun V2 a b => hX V2 (fun j hj => (a j (by omega)).trans (upd_n (by omega))) (fun i i1 i2 => ?_))
                   by_cases e : i = k
                   · subst e; rw [a _ (by omega), upd_s]; exact ex
                   · exact b i (by omega) i2)
                | (have ex : V (1104 + 5 * cd + k) = colV kd v k := by unfold colV noneK; rw [if_neg (by omega)]; exact hv k (by omega)
                   refine l12_pl (v := v) hat hat2 hcd hkd n (k + 1) (upd V (at_ + 1 + k) (V (1104 + 5 * cd + k))) (by omega) (fun f hf => by rw [upd_n (by omega)]; exact hv f hf) (fun V2 a b => hX V2 (fun j hj => (a j (by omega)).trans (upd_n (by omega))) (fun i i1 i2 => ?_))
                   by_cases e : i = k
                   · subst e; rw [a _ (by omega), upd_s]; exact ex
                   · exact b i (by omega) i2)
            · have c65 : kd = 2 := (nI_eq (by omega) (by omega)).mp h65
              refine R_ldc (pc := 68) (x := (-1000009)) dX12_printLine_68 rfl ?_
              refine R_goto (pc := 70) (t := 80) dX12_printLine_70 (by decide) ?_
              refine M_ast (pc := 80) dX12_printLine_80 (by simp only [nI_add]; exact rfl) (by simp only [mol1]; omega) ?_
              refine R_iinc (pc := 81) dX12_printLine_81 rfl (by first | exact nI_inc _ | rfl) rfl ?_
              refine R_goto (pc := 84) (t := 26) dX12_printLine_84 (by decide) ?_
              rw [va_up_up]
              first
                | (have ex : ((-1000009) : Int32) = colV kd v k := by unfold colV noneK; rw [if_pos (by omega)]
                   refine l12_pl (v := v) hat hat2 hcd hkd n (k + 1) (upd V (at_ + 1 + k) (-1000009)) (by omega) (fun f hf => by rw [upd_n (by omega)]; exact hv f hf) (fun V2 a b => hX V2 (fun j hj => (a j (by omega)).trans (upd_n (by omega))) (fun i i1 i2 => ?_))
                   by_cases e : i = k
                   · subst e; rw [a _ (by omega), upd_s]; exact ex
                   · exact b i (by omega) i2)
                | (have ex : V (1104 + 5 * cd + k) = colV kd v k := by unfold colV noneK; rw [if_neg (by omega)]; exact hv k (by omega)
                   refine l12_pl (v := v) hat hat2 hcd hkd n (k + 1) (upd V (at_ + 1 + k) (V (1104 + 5 * cd + k))) (by omega) (fun f hf => by rw [upd_n (by omega)]; exact hv f hf) (fun V2 a b => hX V2 (fun j hj => (a j (by omega)).trans (upd_n (by omega))) (fun i i1 i2 => ?_))
                   by_cases e : i = k
                   · subst e; rw [a _ (by omega), upd_s]; exact ex
                   · exact b i (by omega) i2)
theorem s12_printLine {kd cd c : Nat} {v : Nat → Int32} (hc : c < 161) (hcd : cd < 40) (hkd : kd ≤ 4) (h0 : A 1 1304 = nI c) (hv : ∀ f, f < 3 → A 1 (1104 + 5 * cd + f) = v f) (hQ : ∀ A2 : Nat → Nat → Int32, (∀ q, q ≠ 1 → A2 q = A q) → A2 1 1304 = nI (c + 1) → (∀ j, j ≠ 1304 → (j < 1305 + 9 * c ∨ 1305 + 9 * c + 4 ≤ j) → A2 1 j = A 1 j) → A2 1 (1305 + 9 * c) = nI kd → (∀ k, k < 3 → A2 1 (1305 + 9 * c + 1 + k) = colV kd v k) → Q none (putM h M A2 S, z)) : Rn sA mX12_printLine 0 [some (.ref M), some (.int (nI kd)), some (.int (nI cd)), none, none] [] (putM h M A S, z) Q := by
  refine R_sipush (pc := 0) (x := nI 1305) dX12_printLine_0 (by decide) ?_
  refine R_bipush (pc := 3) (x := nI 9) dX12_printLine_3 (by decide) ?_
  refine R_aload_n (pc := 5) dX12_printLine_5 rfl ?_
  refine M_g (pc := 6) dX12_printLine_6 rfl rfl ?_
  refine R_sipush (pc := 9) (x := nI 1304) dX12_printLine_9 (by decide) ?_
  refine M_ald (pc := 12) dX12_printLine_12 rfl (by simp only [mol1]; omega) ?_
  refine R_imul (pc := 13) dX12_printLine_13 ?_
  refine R_iadd (pc := 14) dX12_printLine_14 ?_
  rw [h0, pk_mul, nI_add]
  refine R_istore_n (pc := 15) dX12_printLine_15 (Nat.le_of_ble_eq_true rfl) rfl ?_
  refine R_aload_n (pc := 16) dX12_printLine_16 rfl ?_
  refine M_g (pc := 17) dX12_printLine_17 rfl rfl ?_
  refine R_iload_n (pc := 20) dX12_printLine_20 rfl ?_
  refine R_iload_n (pc := 21) dX12_printLine_21 rfl ?_
  refine M_ast (pc := 22) dX12_printLine_22 rfl (by simp only [mol1]; omega) ?_
  refine R_iconst (pc := 23) (x := nI 0) dX12_printLine_23 rfl ?_
  refine R_istore (pc := 24) dX12_printLine_24 (Nat.le_of_ble_eq_true rfl) rfl ?_
  refine l12_pl (v := v) (by omega) (by omega) hcd hkd 3 0 (upd (A 1) (1305 + 9 * c) (nI kd)) (by omega) (fun f hf => by rw [upd_n (by omega)]; exact hv f hf) (fun V2 a b => ?_)
  have e : V2 1304 = nI c := by rw [a 1304 (by omega), upd_n (by omega)]; exact h0
  refine R_aload_n (pc := 87) dX12_printLine_87 rfl ?_
  refine M_g (pc := 88) dX12_printLine_88 rfl rfl ?_
  refine R_sipush (pc := 91) (x := nI 1304) dX12_printLine_91 (by decide) ?_
  refine R_dup2 (pc := 94) dX12_printLine_94 rfl rfl ?_
  refine M_ald (pc := 95) dX12_printLine_95 rfl (by simp only [mol1]; omega) ?_
  refine R_iconst (pc := 96) (x := nI 1) dX12_printLine_96 rfl ?_
  refine R_iadd (pc := 97) dX12_printLine_97 ?_
  refine M_ast (pc := 98) dX12_printLine_98 rfl (by simp only [mol1]; omega) ?_
  refine R_vret (pc := 99) dX12_printLine_99 rfl ?_
  refine hQ _ (fun q hq => by unfold va_up; rw [if_neg hq, if_neg hq]) ?_ (fun j j1 j2 => ?_) ?_ (fun k hk => ?_)
  · show upd V2 1304 (V2 1304 + nI 1) 1304 = _
    rw [upd_s, e, nI_add]
  · show upd V2 1304 _ j = _
    rw [upd_n j1]
    by_cases q : j < 1305 + 9 * c + 1
    · rw [a j (by omega), upd_n (by omega)]
    · rw [a j (by omega), upd_n (by omega)]
  · show upd V2 1304 _ _ = _
    rw [upd_n (by omega), a _ (by omega), upd_s]
  · show upd V2 1304 _ _ = _
    rw [upd_n (by omega)]
    exact b k (by omega) hk
theorem s12_fill {a b d e f : Int32} {c : Nat} (hc : c < 161) (h0 : A 1 1304 = nI (c + 1)) (hQ : ∀ A2 : Nat → Nat → Int32, (∀ q, q ≠ 1 → A2 q = A q) → (∀ j, (j < 1305 + 9 * c + 4 ∨ 1305 + 9 * c + 9 ≤ j) → A2 1 j = A 1 j) → A2 1 (1305 + 9 * c + 4) = a → A2 1 (1305 + 9 * c + 5) = b → A2 1 (1305 + 9 * c + 6) = d → A2 1 (1305 + 9 * c + 7) = e → A2 1 (1305 + 9 * c + 8) = f → Q none (putM h M A2 S, z)) : Rn sA mX12_fill 0 [some (.ref M), some (.int a), some (.int b), some (.int d), some (.int e), some (.int f), none] [] (putM h M A S, z) Q := by
  refine R_sipush (pc := 0) (x := nI 1305) dX12_fill_0 (by decide) ?_
  refine R_bipush (pc := 3) (x := nI 9) dX12_fill_3 (by decide) ?_
  refine R_aload_n (pc := 5) dX12_fill_5 rfl ?_
  refine M_g (pc := 6) dX12_fill_6 rfl rfl ?_
  refine R_sipush (pc := 9) (x := nI 1304) dX12_fill_9 (by decide) ?_
  refine M_ald (pc := 12) dX12_fill_12 rfl (by simp only [mol1]; omega) ?_
  refine R_iconst (pc := 13) (x := nI 1) dX12_fill_13 rfl ?_
  refine R_isub (pc := 14) dX12_fill_14 ?_
  refine R_imul (pc := 15) dX12_fill_15 ?_
  refine R_iadd (pc := 16) dX12_fill_16 ?_
  rw [h0, pk_sub (show 1 ≤ c + 1 by omega), Nat.add_sub_cancel, pk_mul, nI_add]
  refine R_istore (pc := 17) dX12_fill_17 (Nat.le_of_ble_eq_true rfl) rfl ?_
  refine R_aload_n (pc := 19) dX12_fill_19 rfl ?_
  refine M_g (pc := 20) dX12_fill_20 rfl rfl ?_
  refine R_iload (pc := 23) dX12_fill_23 rfl ?_
  refine R_iconst (pc := 25) (x := nI 4) dX12_fill_25 rfl ?_
  refine R_iadd (pc := 26) dX12_fill_26 ?_
  refine R_iload_n (pc := 27) dX12_fill_27 rfl ?_
  refine M_ast (pc := 28) dX12_fill_28 (by first | with_reducible rfl | (simp only [nI_add, pk_mul]; exact rfl)) (by simp only [mol1, mol2, mol3, mol4, mol5, mol6, mol7, mol8, mol9, mol10, mol11, mol12, mol13]; omega) ?_
  refine R_aload_n (pc := 29) dX12_fill_29 rfl ?_
  refine M_g (pc := 30) dX12_fill_30 rfl rfl ?_
  refine R_iload (pc := 33) dX12_fill_33 rfl ?_
  refine R_iconst (pc := 35) (x := nI 5) dX12_fill_35 rfl ?_
  refine R_iadd (pc := 36) dX12_fill_36 ?_
  refine R_iload_n (pc := 37) dX12_fill_37 rfl ?_
  refine M_ast (pc := 38) dX12_fill_38 (by first | with_reducible rfl | (simp only [nI_add, pk_mul]; exact rfl)) (by simp only [mol1, mol2, mol3, mol4, mol5, mol6, mol7, mol8, mol9, mol10, mol11, mol12, mol13]; omega) ?_
  refine R_aload_n (pc := 39) dX12_fill_39 rfl ?_
  refine M_g (pc := 40) dX12_fill_40 rfl rfl ?_
  refine R_iload (pc := 43) dX12_fill_43 rfl ?_
  refine R_bipush (pc := 45) (x := nI 6) dX12_fill_45 (by decide) ?_
  refine R_iadd (pc := 47) dX12_fill_47 ?_
  refine R_iload_n (pc := 48) dX12_fill_48 rfl ?_
  refine M_ast (pc := 49) dX12_fill_49 (by first | with_reducible rfl | (simp only [nI_add, pk_mul]; exact rfl)) (by simp only [mol1, mol2, mol3, mol4, mol5, mol6, mol7, mol8, mol9, mol10, mol11, mol12, mol13]; omega) ?_
  refine R_aload_n (pc := 50) dX12_fill_50 rfl ?_
  refine M_g (pc := 51) dX12_fill_51 rfl rfl ?_
  refine R_iload (pc := 54) dX12_fill_54 rfl ?_
  refine R_bipush (pc := 56) (x := nI 7) dX12_fill_56 (by decide) ?_
  refine R_iadd (pc := 58) dX12_fill_58 ?_
  refine R_iload (pc := 59) dX12_fill_59 rfl ?_
  refine M_ast (pc := 61) dX12_fill_61 (by first | with_reducible rfl | (simp only [nI_add, pk_mul]; exact rfl)) (by simp only [mol1, mol2, mol3, mol4, mol5, mol6, mol7, mol8, mol9, mol10, mol11, mol12, mol13]; omega) ?_
  refine R_aload_n (pc := 62) dX12_fill_62 rfl ?_
  refine M_g (pc := 63) dX12_fill_63 rfl rfl ?_
  refine R_iload (pc := 66) dX12_fill_66 rfl ?_
  refine R_bipush (pc := 68) (x := nI 8) dX12_fill_68 (by decide) ?_
  refine R_iadd (pc := 70) dX12_fill_70 ?_
  refine R_iload (pc := 71) dX12_fill_71 rfl ?_
  refine M_ast (pc := 73) dX12_fill_73 (by first | with_reducible rfl | (simp only [nI_add, pk_mul]; exact rfl)) (by simp only [mol1, mol2, mol3, mol4, mol5, mol6, mol7, mol8, mol9, mol10, mol11, mol12, mol13]; omega) ?_
  refine R_vret (pc := 74) dX12_fill_74 rfl ?_
  refine hQ _ (fun q hq => by unfold va_up; rw [if_neg hq, if_neg hq, if_neg hq, if_neg hq, if_neg hq]) (fun j hj => ?_) ?_ ?_ ?_ ?_ ?_
  · show upd (upd (upd (upd (upd (A 1) _ _) _ _) _ _) _ _) _ _ _ = _
    rw [upd_n (by omega), upd_n (by omega), upd_n (by omega), upd_n (by omega), upd_n (by omega)]
  · show upd (upd (upd (upd (upd (A 1) _ _) _ _) _ _) _ _) _ _ _ = _
    rw [upd_n (by omega), upd_n (by omega), upd_n (by omega), upd_n (by omega), upd_s]
  · show upd (upd (upd (upd (upd (A 1) _ _) _ _) _ _) _ _) _ _ _ = _
    rw [upd_n (by omega), upd_n (by omega), upd_n (by omega), upd_s]
  · show upd (upd (upd (upd (upd (A 1) _ _) _ _) _ _) _ _) _ _ _ = _
    rw [upd_n (by omega), upd_n (by omega), upd_s]
  · show upd (upd (upd (upd (upd (A 1) _ _) _ _) _ _) _ _) _ _ _ = _
    rw [upd_n (by omega), upd_s]
  · show upd (upd (upd (upd (upd (A 1) _ _) _ _) _ _) _ _) _ _ _ = _
    rw [upd_s]
theorem s12_overtime {a b d : Int32} (hQ : Q (some (.int (ovr a b d))) (h, z)) : Rn sA mX12_overtime 0 [some (.int a), some (.int b), some (.int d)] [] (h, z) Q := by
  unfold ovr at hQ
  refine R_iload_n (pc := 0) dX12_overtime_0 rfl ?_
  refine R_iload_n (pc := 1) dX12_overtime_1 rfl ?_
  refine R_icmp_le (pc := 2) (t := 20) dX12_overtime_2 (by decide) (fun h2 => ?_) (fun h2 => ?_)
  · refine R_iconst (pc := 20) (x := nI 0) dX12_overtime_20 rfl ?_
    refine R_iret (pc := 21) dX12_overtime_21 rfl ?_
    first
      | (rw [if_pos (Int32.not_le.mp h2)] at hQ; exact hQ)
      | (rw [if_neg (Int32.not_lt.mpr h2)] at hQ; exact hQ)
  · refine R_iload_n (pc := 5) dX12_overtime_5 rfl ?_
    refine R_iload_n (pc := 6) dX12_overtime_6 rfl ?_
    refine R_isub (pc := 7) dX12_overtime_7 ?_
    refine R_i2l (pc := 8) dX12_overtime_8 ?_
    refine R_iload_n (pc := 9) dX12_overtime_9 rfl ?_
    refine R_i2l (pc := 10) dX12_overtime_10 ?_
    refine R_lmul (pc := 11) dX12_overtime_11 ?_
    refine R_ldc2 (pc := 12) (x := (20)) dX12_overtime_12 rfl ?_
    refine R_ldiv (pc := 15) dX12_overtime_15 (by decide) ?_
    refine R_l2i (pc := 16) dX12_overtime_16 ?_
    refine R_goto (pc := 17) (t := 21) dX12_overtime_17 (by decide) ?_
    refine R_iret (pc := 21) dX12_overtime_21 rfl ?_
    first
      | (rw [if_pos (Int32.not_le.mp h2)] at hQ; exact hQ)
      | (rw [if_neg (Int32.not_lt.mpr h2)] at hQ; exact hQ)
theorem s12_wageOf {k : Nat} (hk : k < 40) (hQ : Q (some (.int (wag (fun f => A 1 (1104 + 5 * k + f))))) (putM h M A S, z)) : Rn sA mX12_wageOf 0 [some (.ref M), some (.int (nI k))] [] (putM h M A S, z) Q := by
  refine R_aload_n (pc := 0) dX12_wageOf_0 rfl ?_
  refine R_iload_n (pc := 1) dX12_wageOf_1 rfl ?_
  refine R_iconst (pc := 2) (x := nI 3) dX12_wageOf_2 rfl ?_
  refine R_callV (pc := 3) dX12_wageOf_3 rfl putM_o rfl rfl ?_
  refine s12_accepted hk (by omega) ?_
  refine R_aload_n (pc := 6) dX12_wageOf_6 rfl ?_
  refine R_iload_n (pc := 7) dX12_wageOf_7 rfl ?_
  refine R_iconst (pc := 8) (x := nI 4) dX12_wageOf_8 rfl ?_
  refine R_callV (pc := 9) dX12_wageOf_9 rfl putM_o rfl rfl ?_
  refine s12_accepted hk (by omega) ?_
  refine R_imul (pc := 12) dX12_wageOf_12 ?_
  refine R_bipush (pc := 13) (x := nI 10) dX12_wageOf_13 (by decide) ?_
  refine R_idiv (pc := 15) dX12_wageOf_15 (by decide) ?_
  refine R_iret (pc := 16) dX12_wageOf_16 rfl ?_
  exact hQ
end MOD13
