theorem nI_inc (k : Nat) : nI k + Int32.ofInt 1 = nI (k + 1) := (nI_succ k).symm
/-- the value of a field that begins at p: n columns to go, the next is the k-th, v so far -/
def valR (g : Nat → Int32) (p : Nat) : Nat → Nat → Int32 → Int32
  | 0, _, v => v
  | n + 1, k, v => if g (p + k) = (-1000009) then (-1000009) else valR g p n (k + 1) (nI 10 * v + g (p + k))
def digR (g : Nat → Int32) (p k : Nat) : Int32 := if g (p + k) = (-1000009) then nI 0 else if k % 2 = 0 then nI 3 * g (p + k) else g (p + k)
def dueF (g : Nat → Int32) (p : Nat) : Nat → Nat → Int32 → Int32
  | 0, _, s => s
  | n + 1, k, s => dueF g p n (k + 1) (s + digR g p k)
def dueO (P Wd : Nat → Nat) (g : Nat → Int32) : Nat → Nat → Int32 → Int32
  | 0, _, s => s
  | n + 1, f, s => dueO P Wd g n (f + 1) (dueF g (P f) (Wd f) 0 s)
def rem10 (s : Int32) : Int32 := s - s / nI 10 * nI 10
def dueR (P Wd : Nat → Nat) (g : Nat → Int32) : Int32 := rem10 (dueO P Wd g 5 0 (nI 0))
def valF (P Wd : Nat → Nat) (g : Nat → Int32) (f : Nat) : Int32 := valR g (P f) (Wd f) 0 (nI 0)
/-- where the fields lie, in numbers -/
def LayW (u : Nat → Int32) (P Wd : Nat → Nat) : Prop := ∀ f, f < 6 → u (0 + 2 * f) = nI (P f) ∧ u (0 + 2 * f + 1) = nI (Wd f) ∧ P f + Wd f ≤ 24
section MOD1
variable {sA : Nat} {h : Nat → Option am_C} {z : Nat × Nat} {Q : Option Value → am_H → Prop} {M : Nat} {A : Nat → Nat → Int32} {S : Nat → Int32}
theorem l12_valueOf {f p q : Nat} (hf : f < 6) (hp : A 1 (0 + 2 * f) = nI p) (hq : A 1 (0 + 2 * f + 1) = nI q) (hpq : p + q ≤ 24) : ∀ (n k : Nat) (v : Int32) (o4 : Option Value) (_ : k + n = q) (_ : Q (some (.int (valR (A 5) p n k v))) (putM h M A S, z)), Rn sA mX12_valueOf 4 [some (.ref M), some (.int (nI f)), some (.int v), some (.int (nI k)), o4] [] (putM h M A S, z) Q
  | 0, k, v, o4, hk, hQ => by
    refine R_iload_n (pc := 4) dX12_valueOf_4 rfl ?_
    refine R_aload_n (pc := 5) dX12_valueOf_5 rfl ?_
    refine R_iload_n (pc := 6) dX12_valueOf_6 rfl ?_
    refine R_callV (pc := 7) dX12_valueOf_7 rfl putM_o rfl rfl ?_
    refine s12_width hf ?_
    refine R_icmp_ge (pc := 10) (t := 51) dX12_valueOf_10 (by decide) (fun _ => ?_) (fun hz9 => absurd (by rw [hq]; exact nI_le (by omega) (by omega)) hz9)
    refine R_iload_n (pc := 51) dX12_valueOf_51 rfl ?_
    refine R_iret (pc := 52) dX12_valueOf_52 rfl ?_
    exact hQ
  | n + 1, k, v, o4, hk, hQ => by
    refine R_iload_n (pc := 4) dX12_valueOf_4 rfl ?_
    refine R_aload_n (pc := 5) dX12_valueOf_5 rfl ?_
    refine R_iload_n (pc := 6) dX12_valueOf_6 rfl ?_
    refine R_callV (pc := 7) dX12_valueOf_7 rfl putM_o rfl rfl ?_
    refine s12_width hf ?_
    refine R_icmp_ge (pc := 10) (t := 51) dX12_valueOf_10 (by decide) (fun hz9 => absurd hz9 (by rw [hq]; exact nI_ge (by omega) (by omega))) (fun _ => ?_)
    refine R_aload_n (pc := 13) dX12_valueOf_13 rfl ?_
    refine M_g (pc := 14) dX12_valueOf_14 rfl rfl ?_
    refine R_aload_n (pc := 17) dX12_valueOf_17 rfl ?_
    refine R_iload_n (pc := 18) dX12_valueOf_18 rfl ?_
    refine R_callV (pc := 19) dX12_valueOf_19 rfl putM_o rfl rfl ?_
    refine s12_first hf ?_
    refine R_iload_n (pc := 22) dX12_valueOf_22 rfl ?_
    refine R_iadd (pc := 23) dX12_valueOf_23 ?_
    refine M_ald (pc := 24) dX12_valueOf_24 (by rw [hp, nI_add]) (by simp only [mol1, mol2, mol3, mol4, mol5, mol6, mol7, mol8, mol9, mol10, mol11, mol12, mol13]; omega) ?_
    refine R_istore (pc := 25) dX12_valueOf_25 (Nat.le_of_ble_eq_true rfl) rfl ?_
    refine R_iload (pc := 27) dX12_valueOf_27 rfl ?_
    refine R_ldc (pc := 29) (x := (-1000009)) dX12_valueOf_29 rfl ?_
    refine R_icmp_ne (pc := 31) (t := 37) dX12_valueOf_31 (by decide) (fun h31 => ?_) (fun h31 => ?_)
    · rw [valR, if_neg h31] at hQ
      refine R_bipush (pc := 37) (x := nI 10) dX12_valueOf_37 (by decide) ?_
      refine R_iload_n (pc := 39) dX12_valueOf_39 rfl ?_
      refine R_imul (pc := 40) dX12_valueOf_40 ?_
      refine R_iload (pc := 41) dX12_valueOf_41 rfl ?_
      refine R_iadd (pc := 43) dX12_valueOf_43 ?_
      refine R_istore_n (pc := 44) dX12_valueOf_44 (Nat.le_of_ble_eq_true rfl) rfl ?_
      refine R_iinc (pc := 45) dX12_valueOf_45 rfl (by first | exact nI_inc _ | rfl) rfl ?_
      refine R_goto (pc := 48) (t := 4) dX12_valueOf_48 (by decide) ?_
      exact l12_valueOf hf hp hq hpq n (k + 1) _ _ (by omega) hQ
    · rw [valR, if_pos h31] at hQ
      refine R_ldc (pc := 34) (x := (-1000009)) dX12_valueOf_34 rfl ?_
      refine R_iret (pc := 36) dX12_valueOf_36 rfl ?_
      exact hQ
theorem s12_valueOf {f : Nat} {P Wd : Nat → Nat} (hL : LayW (A 1) P Wd) (hf : f < 6) (hQ : Q (some (.int (valF P Wd (A 5) f))) (putM h M A S, z)) : Rn sA mX12_valueOf 0 [some (.ref M), some (.int (nI f)), none, none, none] [] (putM h M A S, z) Q := by
  refine R_iconst (pc := 0) (x := nI 0) dX12_valueOf_0 rfl ?_
  refine R_istore_n (pc := 1) dX12_valueOf_1 (Nat.le_of_ble_eq_true rfl) rfl ?_
  refine R_iconst (pc := 2) (x := nI 0) dX12_valueOf_2 rfl ?_
  refine R_istore_n (pc := 3) dX12_valueOf_3 (Nat.le_of_ble_eq_true rfl) rfl ?_
  exact l12_valueOf hf (hL f hf).1 (hL f hf).2.1 (hL f hf).2.2 (Wd f) 0 (nI 0) none (by omega) hQ
theorem digR_none {g : Nat → Int32} {p k : Nat} (h : g (p + k) = (-1000009)) : digR g p k = nI 0 := by unfold digR; rw [if_pos h]
theorem digR_even {g : Nat → Int32} {p k : Nat} (h : ¬ g (p + k) = (-1000009)) (h2 : nI (k % 2) = 0) : digR g p k = nI 3 * g (p + k) := by
  unfold digR
  rw [if_neg h, if_pos ((nI_eq (by omega) (by omega)).mp (h2.trans nI_0.symm))]
theorem digR_odd {g : Nat → Int32} {p k : Nat} (h : ¬ g (p + k) = (-1000009)) (h2 : ¬ nI (k % 2) = 0) : digR g p k = g (p + k) := by
  unfold digR
  rw [if_neg h, if_neg (fun q => h2 (by rw [q]; exact nI_0))]
theorem l12_due1 {f : Nat} {P Wd : Nat → Nat} (hL : LayW (A 1) P Wd) (hf : f < 6) : ∀ (n k : Nat) (s : Int32) (o4 : Option Value) (_ : k + n = Wd f) (_ : ∀ o : Option Value, Rn sA mX12_due 69 [some (.ref M), some (.int (dueF (A 5) (P f) n k s)), some (.int (nI f)), some (.int (nI (Wd f))), o] [] (putM h M A S, z) Q), Rn sA mX12_due 11 [some (.ref M), some (.int s), some (.int (nI f)), some (.int (nI k)), o4] [] (putM h M A S, z) Q
  | 0, k, s, o4, hk, hQ => by
    have hw := (hL f hf).2.2
    obtain rfl : k = Wd f := by omega
    refine R_iload_n (pc := 11) dX12_due_11 rfl ?_
    refine R_aload_n (pc := 12) dX12_due_12 rfl ?_
    refine R_iload_n (pc := 13) dX12_due_13 rfl ?_
    refine R_callV (pc := 14) dX12_due_14 rfl putM_o rfl rfl ?_
    refine s12_width hf ?_
    refine R_icmp_ge (pc := 17) (t := 69) dX12_due_17 (by decide) (fun _ => ?_) (fun hz9 => absurd (by rw [(hL f hf).2.1]; exact nI_le (by omega) (by omega)) hz9)
    exact hQ o4
  | n + 1, k, s, o4, hk, hQ => by
    have hw := (hL f hf).2.2
    refine R_iload_n (pc := 11) dX12_due_11 rfl ?_
    refine R_aload_n (pc := 12) dX12_due_12 rfl ?_
    refine R_iload_n (pc := 13) dX12_due_13 rfl ?_
    refine R_callV (pc := 14) dX12_due_14 rfl putM_o rfl rfl ?_
    refine s12_width hf ?_
    refine R_icmp_ge (pc := 17) (t := 69) dX12_due_17 (by decide) (fun hz9 => absurd hz9 (by rw [(hL f hf).2.1]; exact nI_ge (by omega) (by omega))) (fun _ => ?_)
    refine R_aload_n (pc := 20) dX12_due_20 rfl ?_
    refine M_g (pc := 21) dX12_due_21 rfl rfl ?_
    refine R_aload_n (pc := 24) dX12_due_24 rfl ?_
    refine R_iload_n (pc := 25) dX12_due_25 rfl ?_
    refine R_callV (pc := 26) dX12_due_26 rfl putM_o rfl rfl ?_
    refine s12_first hf ?_
    refine R_iload_n (pc := 29) dX12_due_29 rfl ?_
    refine R_iadd (pc := 30) dX12_due_30 ?_
    refine M_ald (pc := 31) dX12_due_31 (by rw [(hL f hf).1, nI_add]) (by simp only [mol1, mol2, mol3, mol4, mol5, mol6, mol7, mol8, mol9, mol10, mol11, mol12, mol13]; omega) ?_
    refine R_istore (pc := 32) dX12_due_32 (Nat.le_of_ble_eq_true rfl) rfl ?_
    refine R_iload_n (pc := 34) dX12_due_34 rfl ?_
    refine R_iload (pc := 35) dX12_due_35 rfl ?_
    refine R_ldc (pc := 37) (x := (-1000009)) dX12_due_37 rfl ?_
    refine R_icmp_ne (pc := 39) (t := 46) dX12_due_39 (by decide) (fun h39 => ?_) (fun h39 => ?_)
    · refine R_iload_n (pc := 46) dX12_due_46 rfl ?_
      refine R_iconst (pc := 47) (x := nI 2) dX12_due_47 rfl ?_
      refine R_irem (pc := 48) dX12_due_48 (by decide) ?_
      refine R_if_ne (pc := 49) (t := 59) dX12_due_49 (by decide) (fun h49 => ?_) (fun h49 => ?_)
      · rw [pk_rem (by omega) (by decide) (by decide)] at h49
        refine R_iload (pc := 59) dX12_due_59 rfl ?_
        refine R_iadd (pc := 61) dX12_due_61 ?_
        refine R_istore_n (pc := 62) dX12_due_62 (Nat.le_of_ble_eq_true rfl) rfl ?_
        refine R_iinc (pc := 63) dX12_due_63 rfl (by first | exact nI_inc _ | rfl) rfl ?_
        refine R_goto (pc := 66) (t := 11) dX12_due_66 (by decide) ?_
        first | (exact l12_due1 hL hf n (k + 1) _ _ (by omega) (fun o => by have q := hQ o; rw [dueF, digR_none h39] at q; exact q)) | (exact l12_due1 hL hf n (k + 1) _ _ (by omega) (fun o => by have q := hQ o; rw [dueF, digR_even h39 h49] at q; exact q)) | (exact l12_due1 hL hf n (k + 1) _ _ (by omega) (fun o => by have q := hQ o; rw [dueF, digR_odd h39 h49] at q; exact q))
      · rw [pk_rem (by omega) (by decide) (by decide)] at h49
        refine R_iconst (pc := 52) (x := nI 3) dX12_due_52 rfl ?_
        refine R_iload (pc := 53) dX12_due_53 rfl ?_
        refine R_imul (pc := 55) dX12_due_55 ?_
        refine R_goto (pc := 56) (t := 61) dX12_due_56 (by decide) ?_
        refine R_iadd (pc := 61) dX12_due_61 ?_
        refine R_istore_n (pc := 62) dX12_due_62 (Nat.le_of_ble_eq_true rfl) rfl ?_
        refine R_iinc (pc := 63) dX12_due_63 rfl (by first | exact nI_inc _ | rfl) rfl ?_
        refine R_goto (pc := 66) (t := 11) dX12_due_66 (by decide) ?_
        first | (exact l12_due1 hL hf n (k + 1) _ _ (by omega) (fun o => by have q := hQ o; rw [dueF, digR_none h39] at q; exact q)) | (exact l12_due1 hL hf n (k + 1) _ _ (by omega) (fun o => by have q := hQ o; rw [dueF, digR_even h39 h49] at q; exact q)) | (exact l12_due1 hL hf n (k + 1) _ _ (by omega) (fun o => by have q := hQ o; rw [dueF, digR_odd h39 h49] at q; exact q))
    · refine R_iconst (pc := 42) (x := nI 0) dX12_due_42 rfl ?_
      refine R_goto (pc := 43) (t := 61) dX12_due_43 (by decide) ?_
      refine R_iadd (pc := 61) dX12_due_61 ?_
      refine R_istore_n (pc := 62) dX12_due_62 (Nat.le_of_ble_eq_true rfl) rfl ?_
      refine R_iinc (pc := 63) dX12_due_63 rfl (by first | exact nI_inc _ | rfl) rfl ?_
      refine R_goto (pc := 66) (t := 11) dX12_due_66 (by decide) ?_
      first | (exact l12_due1 hL hf n (k + 1) _ _ (by omega) (fun o => by have q := hQ o; rw [dueF, digR_none h39] at q; exact q)) | (exact l12_due1 hL hf n (k + 1) _ _ (by omega) (fun o => by have q := hQ o; rw [dueF, digR_even h39 h49] at q; exact q)) | (exact l12_due1 hL hf n (k + 1) _ _ (by omega) (fun o => by have q := hQ o; rw [dueF, digR_odd h39 h49] at q; exact q))
theorem l12_due0 {P Wd : Nat → Nat} (hL : LayW (A 1) P Wd) : ∀ (n f : Nat) (s : Int32) (o3 o4 : Option Value) (_ : f + n = 5) (_ : Q (some (.int (rem10 (dueO P Wd (A 5) n f s)))) (putM h M A S, z)), Rn sA mX12_due 4 [some (.ref M), some (.int s), some (.int (nI f)), o3, o4] [] (putM h M A S, z) Q
  | 0, f, s, o3, o4, hk, hQ => by
    refine R_iload_n (pc := 4) dX12_due_4 rfl ?_
    refine R_iconst (pc := 5) (x := nI 5) dX12_due_5 rfl ?_
    refine R_icmp_ge (pc := 6) (t := 75) dX12_due_6 (by decide) (fun _ => ?_) (fun hz9 => absurd (nI_le (by omega) (by omega)) hz9)
    refine R_iload_n (pc := 75) dX12_due_75 rfl ?_
    refine R_bipush (pc := 76) (x := nI 10) dX12_due_76 (by decide) ?_
    refine R_irem (pc := 78) dX12_due_78 (by decide) ?_
    refine R_iret (pc := 79) dX12_due_79 rfl ?_
    exact hQ
  | n + 1, f, s, o3, o4, hk, hQ => by
    refine R_iload_n (pc := 4) dX12_due_4 rfl ?_
    refine R_iconst (pc := 5) (x := nI 5) dX12_due_5 rfl ?_
    refine R_icmp_ge (pc := 6) (t := 75) dX12_due_6 (by decide) (fun hz9 => absurd hz9 (nI_ge (by omega) (by omega))) (fun _ => ?_)
    refine R_iconst (pc := 9) (x := nI 0) dX12_due_9 rfl ?_
    refine R_istore_n (pc := 10) dX12_due_10 (Nat.le_of_ble_eq_true rfl) rfl ?_
    refine l12_due1 hL (by omega) (Wd f) 0 s o4 (by omega) (fun o => ?_)
    refine R_iinc (pc := 69) dX12_due_69 rfl (by first | exact nI_inc _ | rfl) rfl ?_
    refine R_goto (pc := 72) (t := 4) dX12_due_72 (by decide) ?_
    exact l12_due0 hL n (f + 1) _ _ _ (by omega) hQ
theorem s12_due {P Wd : Nat → Nat} (hL : LayW (A 1) P Wd) (hQ : Q (some (.int (dueR P Wd (A 5)))) (putM h M A S, z)) : Rn sA mX12_due 0 [some (.ref M), none, none, none, none] [] (putM h M A S, z) Q := by
  refine R_iconst (pc := 0) (x := nI 0) dX12_due_0 rfl ?_
  refine R_istore_n (pc := 1) dX12_due_1 (Nat.le_of_ble_eq_true rfl) rfl ?_
  refine R_iconst (pc := 2) (x := nI 0) dX12_due_2 rfl ?_
  refine R_istore_n (pc := 3) dX12_due_3 (Nat.le_of_ble_eq_true rfl) rfl ?_
  exact l12_due0 hL 5 0 (nI 0) none none (by omega) hQ
theorem ext_up {g P : Nat → Int32} {k : Nat} {x : Int32} (hg : ∀ j, j < k → g j = P j) (hx : x = P k) : ∀ j, j < k + 1 → upd g k x j = P j := by
  intro j hj
  by_cases e : j = k
  · subst e; rw [upd_s]; exact hx
  · rw [upd_n e]; exact hg j (by omega)
theorem va_up_id {α : Type} {f : Nat → α} {k : Nat} : va_up f k (f k) = f := by
  funext j
  unfold va_up
  split
  · rename_i e; rw [e]
  · rfl
theorem l12_look {c : Nat} (hc : c < 41) : ∀ (n k : Nat) (g : Nat → Int32) (_ : k + n = 24) (_ : ∀ j, j < k → g j = A 1 (20 + 26 * c + j)) (_ : ∀ g : Nat → Int32, (∀ j, j < 24 → g j = A 1 (20 + 26 * c + j)) → Q none (putM h M (va_up A 5 g) S, z)), Rn sA mX12_look 2 [some (.ref M), some (.int (nI c)), some (.int (nI k))] [] (putM h M (va_up A 5 g) S, z) Q
  | 0, k, g, hk, hg, hQ => by
    refine R_iload_n (pc := 2) dX12_look_2 rfl ?_
    refine R_bipush (pc := 3) (x := nI 24) dX12_look_3 (by decide) ?_
    refine R_icmp_ge (pc := 5) (t := 26) dX12_look_5 (by decide) (fun _ => ?_) (fun hz9 => absurd (nI_le (by omega) (by omega)) hz9)
    refine R_vret (pc := 26) dX12_look_26 rfl ?_
    exact hQ g (fun j hj => hg j (by omega))
  | n + 1, k, g, hk, hg, hQ => by
    refine R_iload_n (pc := 2) dX12_look_2 rfl ?_
    refine R_bipush (pc := 3) (x := nI 24) dX12_look_3 (by decide) ?_
    refine R_icmp_ge (pc := 5) (t := 26) dX12_look_5 (by decide) (fun hz9 => absurd hz9 (nI_ge (by omega) (by omega))) (fun _ => ?_)
    refine R_aload_n (pc := 8) dX12_look_8 rfl ?_
    refine M_g (pc := 9) dX12_look_9 rfl rfl ?_
    refine R_iload_n (pc := 12) dX12_look_12 rfl ?_
    refine R_aload_n (pc := 13) dX12_look_13 rfl ?_
    refine R_iload_n (pc := 14) dX12_look_14 rfl ?_
    refine R_iload_n (pc := 15) dX12_look_15 rfl ?_
    refine R_callV (pc := 16) dX12_look_16 rfl putM_o rfl rfl ?_
    refine s12_of hc (by omega) ?_
    refine M_ast (pc := 19) dX12_look_19 (by first | with_reducible rfl | (simp only [nI_add, pk_mul]; exact rfl)) (by simp only [mol1, mol2, mol3, mol4, mol5, mol6, mol7, mol8, mol9, mol10, mol11, mol12, mol13]; omega) ?_
    refine R_iinc (pc := 20) dX12_look_20 rfl (by first | exact nI_inc _ | rfl) rfl ?_
    refine R_goto (pc := 23) (t := 2) dX12_look_23 (by decide) ?_
    rw [va_up_up]
    exact l12_look hc n (k + 1) _ (by omega) (ext_up hg rfl) hQ
theorem s12_look {c : Nat} (hc : c < 41) (hQ : ∀ g : Nat → Int32, (∀ j, j < 24 → g j = A 1 (20 + 26 * c + j)) → Q none (putM h M (va_up A 5 g) S, z)) : Rn sA mX12_look 0 [some (.ref M), some (.int (nI c)), none] [] (putM h M A S, z) Q := by
  refine R_iconst (pc := 0) (x := nI 0) dX12_look_0 rfl ?_
  refine R_istore_n (pc := 1) dX12_look_1 (Nat.le_of_ble_eq_true rfl) rfl ?_
  have e : A = va_up A 5 (A 5) := va_up_id.symm
  rw [e]
  exact l12_look (A := A) hc 24 0 (A 5) (by omega) (fun j hj => absurd hj (by omega)) hQ
/-- what is read of a card that is fed -/
def rdF (u : Nat → Int32) (c k : Nat) : Int32 := if u (20 + 26 * c + 24) = nI 3 ∧ nI k = u (20 + 26 * c + 25) then (-1000009) else if u (20 + 26 * c + 24) = nI 2 then (if k + 1 < 24 then u (20 + 26 * c + (k + 1)) else (-1000009)) else u (20 + 26 * c + k)
theorem l12_read {c : Nat} (hc : c < 41) : ∀ (n k : Nat) (g : Nat → Int32) (_ : k + n = 24) (_ : ∀ j, j < k → g j = if j + 1 < 24 then A 1 (20 + 26 * c + (j + 1)) else (-1000009)) (_ : ∀ g : Nat → Int32, (∀ j, j < 24 → g j = if j + 1 < 24 then A 1 (20 + 26 * c + (j + 1)) else (-1000009)) → ∀ k : Nat, Rn sA mX12_read 57 [some (.ref M), some (.int (nI c)), some (.int (nI k))] [] (putM h M (va_up A 5 g) S, z) Q), Rn sA mX12_read 18 [some (.ref M), some (.int (nI c)), some (.int (nI k))] [] (putM h M (va_up A 5 g) S, z) Q
  | 0, k, g, hk, hg, hQ => by
    refine R_iload_n (pc := 18) dX12_read_18 rfl ?_
    refine R_bipush (pc := 19) (x := nI 24) dX12_read_19 (by decide) ?_
    refine R_icmp_ge (pc := 21) (t := 57) dX12_read_21 (by decide) (fun _ => ?_) (fun hz9 => absurd (nI_le (by omega) (by omega)) hz9)
    exact hQ g (fun j hj => hg j (by omega)) k
  | n + 1, k, g, hk, hg, hQ => by
    refine R_iload_n (pc := 18) dX12_read_18 rfl ?_
    refine R_bipush (pc := 19) (x := nI 24) dX12_read_19 (by decide) ?_
    refine R_icmp_ge (pc := 21) (t := 57) dX12_read_21 (by decide) (fun hz9 => absurd hz9 (nI_ge (by omega) (by omega))) (fun _ => ?_)
    refine R_aload_n (pc := 24) dX12_read_24 rfl ?_
    refine M_g (pc := 25) dX12_read_25 rfl rfl ?_
    refine R_iload_n (pc := 28) dX12_read_28 rfl ?_
    refine R_iload_n (pc := 29) dX12_read_29 rfl ?_
    refine R_iconst (pc := 30) (x := nI 1) dX12_read_30 rfl ?_
    refine R_iadd (pc := 31) dX12_read_31 ?_
    refine R_bipush (pc := 32) (x := nI 24) dX12_read_32 (by decide) ?_
    refine R_icmp_ge (pc := 34) (t := 48) dX12_read_34 (by decide) (fun h34 => ?_) (fun h34 => ?_)
    · rw [nI_add] at h34
      have h34 : ¬ k + 1 < 24 := fun q => absurd ((nI_leI (by omega) (by omega)).mp h34) (by omega)
      refine R_ldc (pc := 48) (x := (-1000009)) dX12_read_48 rfl ?_
      refine M_ast (pc := 50) dX12_read_50 (by first | with_reducible rfl | (simp only [nI_add, pk_mul]; exact rfl)) (by simp only [mol1, mol2, mol3, mol4, mol5, mol6, mol7, mol8, mol9, mol10, mol11, mol12, mol13]; omega) ?_
      refine R_iinc (pc := 51) dX12_read_51 rfl (by first | exact nI_inc _ | rfl) rfl ?_
      refine R_goto (pc := 54) (t := 18) dX12_read_54 (by decide) ?_
      rw [va_up_up]
      exact l12_read hc n (k + 1) _ (by omega) (ext_up hg (by first | exact (if_pos h34).symm | exact (if_neg h34).symm)) hQ
    · rw [nI_add] at h34
      have h34 : k + 1 < 24 := Nat.lt_of_not_le (fun q => h34 ((nI_leI (by omega) (by omega)).mpr q))
      refine R_aload_n (pc := 37) dX12_read_37 rfl ?_
      refine R_iload_n (pc := 38) dX12_read_38 rfl ?_
      refine R_iload_n (pc := 39) dX12_read_39 rfl ?_
      refine R_iconst (pc := 40) (x := nI 1) dX12_read_40 rfl ?_
      refine R_iadd (pc := 41) dX12_read_41 ?_
      refine R_callV (pc := 42) dX12_read_42 rfl putM_o rfl rfl ?_
      rw [nI_add]
      refine s12_of hc (by omega) ?_
      refine R_goto (pc := 45) (t := 50) dX12_read_45 (by decide) ?_
      refine M_ast (pc := 50) dX12_read_50 (by first | with_reducible rfl | (simp only [nI_add, pk_mul]; exact rfl)) (by simp only [mol1, mol2, mol3, mol4, mol5, mol6, mol7, mol8, mol9, mol10, mol11, mol12, mol13]; omega) ?_
      refine R_iinc (pc := 51) dX12_read_51 rfl (by first | exact nI_inc _ | rfl) rfl ?_
      refine R_goto (pc := 54) (t := 18) dX12_read_54 (by decide) ?_
      rw [va_up_up]
      exact l12_read hc n (k + 1) _ (by omega) (ext_up hg (by first | exact (if_pos h34).symm | exact (if_neg h34).symm)) hQ
end MOD1
