section MOD10
variable {sA : Nat} {h : Nat → Option am_C} {z : Nat × Nat} {Q : Option Value → am_H → Prop} {M : Nat} {A : Nat → Nat → Int32} {S : Nat → Int32}
/-- the field of a letter, 5 for none -/
def ltr (x : Int32) : Nat := if x = nI 100 then 0 else if x = nI 103 then 1 else if x = nI 119 then 2 else if x = nI 104 then 3 else if x = nI 114 then 4 else 5
def fdI (f : Nat) : Int32 := if f = 5 then (-1000009) else nI f
/-- how a text is read: the field whose word is read (5: none), and of each field the digits, the number, the place where its digits begin -/
def updN (f : Nat → Nat) (k x : Nat) : Nat → Nat := fun j => if j = k then x else f j
abbrev TS := Nat × (Nat → Nat) × (Nat → Nat) × (Nat → Nat)
def scS (Wd : Nat → Nat) (x : Int32) (k : Nat) (s : TS) : Nat × TS :=
  if s.1 = 5 then
    if x = nI 32 then (0, s) else if ltr x = 5 then (1, s) else if 0 < s.2.1 (ltr x) then (2, s) else (0, (ltr x, s.2.1, updN s.2.2.1 (ltr x) 0, updN s.2.2.2 (ltr x) (k + 1)))
  else if nI 48 ≤ x ∧ x ≤ nI 57 then
    if s.2.1 s.1 = Wd s.1 then (3, s) else (0, (s.1, updN s.2.1 s.1 (s.2.1 s.1 + 1), updN s.2.2.1 s.1 (10 * s.2.2.1 s.1 + ((x - nI 48).toNatClampNeg)), s.2.2.2))
  else if x = nI 32 ∧ 0 < s.2.1 s.1 then (0, (5, s.2)) else (1, s)
def sum5 (g : Nat → Nat) : Nat := g 0 + g 1 + g 2 + g 3 + g 4
def scE (s : TS) : Nat := if (s.1 = 5 ∧ sum5 s.2.1 = 0) ∨ (¬ s.1 = 5 ∧ s.2.1 s.1 = 0) then 4 else 0
/-- what is found: the kind of the fault (0 for none), its place, and what was read -/
def scL (Wd : Nat → Nat) (T : Nat → Int32) : Nat → Nat → TS → Nat × Nat × TS
  | 0, k, s => (scE s, k, s)
  | n + 1, k, s => if (scS Wd (T k) k s).1 = 0 then scL Wd T n (k + 1) (scS Wd (T k) k s).2 else ((scS Wd (T k) k s).1, k, s)
def sc0 : TS := (5, fun _ => 0, fun _ => 0, fun _ => 0)
/-- a field and a number of digits that fits -/
def LayV (Wd : Nat → Nat) : Prop := ∀ f, f < 6 → 1 ≤ Wd f ∧ Wd f ≤ 4
def TsOK (Wd : Nat → Nat) (s : TS) : Prop := s.1 ≤ 5 ∧ ∀ f, f < 5 → s.2.1 f ≤ Wd f ∧ s.2.2.1 f < 10 ^ s.2.1 f
theorem ltr_le (x : Int32) : ltr x ≤ 5 := by unfold ltr; (repeat' split) <;> omega
theorem sum5_0 {g : Nat → Nat} : sum5 g = 0 ↔ ∀ f, f < 5 → g f = 0 := by
  unfold sum5
  constructor
  · intro h f hf
    have : ∀ x : Nat, x < 5 → x = 0 ∨ x = 1 ∨ x = 2 ∨ x = 3 ∨ x = 4 := by omega
    rcases this f hf with rfl | rfl | rfl | rfl | rfl <;> omega
  · intro h
    have h0 := h 0 (by omega)
    have h1 := h 1 (by omega)
    have h2 := h 2 (by omega)
    have h3 := h 3 (by omega)
    have h4 := h 4 (by omega)
    omega
theorem dig_of {x : Int32} (h : nI 48 ≤ x ∧ x ≤ nI 57) : ∃ d, d ≤ 9 ∧ x = nI (48 + d) ∧ (x - nI 48).toNatClampNeg = d := by
  obtain ⟨j, h1, h2, rfl⟩ := (ix_inG x (by omega) (by omega)).mp h
  exact ⟨j - 48, by omega, by congr 1; omega, by rw [pk_sub h1, nI_clamp (by omega)]⟩
theorem p10_le {d : Nat} (h : d ≤ 4) : 10 ^ d ≤ 10000 := Nat.pow_le_pow_right (by decide) h
theorem scS_ok {Wd : Nat → Nat} {x : Int32} {k : Nat} {s : TS} (h : TsOK Wd s) (h0 : (scS Wd x k s).1 = 0) : TsOK Wd (scS Wd x k s).2 := by
  revert h0
  unfold scS
  split
  · split
    · exact fun _ => h
    · split
      · intro q; exact absurd q (by show ¬ 1 = 0; omega)
      · split
        · intro q; exact absurd q (by show ¬ 2 = 0; omega)
        · rename_i h1 h2 h3 h4
          intro _
          refine ⟨ltr_le x, fun f hf => ⟨(h.2 f hf).1, ?_⟩⟩
          show updN s.2.2.1 (ltr x) 0 f < 10 ^ s.2.1 f
          unfold updN
          split
          · exact Nat.pow_pos (by decide)
          · exact (h.2 f hf).2
  · split
    · rename_i h5 hd
      split
      · intro q; exact absurd q (by show ¬ 3 = 0; omega)
      · rename_i h6
        intro _
        refine ⟨h.1, fun f hf => ?_⟩
        obtain ⟨d, h1, -, h2⟩ := dig_of hd
        show updN s.2.1 s.1 (s.2.1 s.1 + 1) f ≤ Wd f ∧ updN s.2.2.1 s.1 (10 * s.2.2.1 s.1 + ((x - nI 48).toNatClampNeg)) f < 10 ^ updN s.2.1 s.1 (s.2.1 s.1 + 1) f
        unfold updN
        have q := h.2 f hf
        split
        · rename_i e
          rw [h2, ← e, Nat.pow_succ]
          rw [← e] at h6
          constructor <;> omega
        · exact q
    · split
      · intro _
        exact ⟨Nat.le_refl 5, h.2⟩
      · intro q; exact absurd q (by show ¬ 1 = 0; omega)
theorem scL_ok {Wd : Nat → Nat} {T : Nat → Int32} : ∀ (n k : Nat) (s : TS), TsOK Wd s → TsOK Wd (scL Wd T n k s).2.2
  | 0, _, _, h => h
  | n + 1, k, s, h => by
    unfold scL
    split
    · rename_i h0
      exact scL_ok n (k + 1) _ (scS_ok h h0)
    · exact h
theorem sc0_ok {Wd : Nat → Nat} : TsOK Wd sc0 := ⟨Nat.le_refl 5, fun _ _ => ⟨Nat.zero_le _, by show 0 < 10 ^ 0; decide⟩⟩
/-- what the reference keeps while it reads -/
def RtI (s : TS) (g6 g7 : Nat → Int32) (wd k : Nat) : Prop := (∀ f, f < 5 → g6 f = if s.2.1 f = 0 ∧ ¬ s.1 = f then (-1000009) else nI (s.2.2.1 f)) ∧ (∀ f, f < 5 → (¬ s.2.1 f = 0 ∨ s.1 = f) → g7 f = nI (s.2.1 f)) ∧ wd ≤ k ∧ (wd = 0 ↔ s.1 = 5 ∧ sum5 s.2.1 = 0)
section FLD
variable {sA : Nat} {h : Nat → Option am_C} {z : Nat × Nat} {Q : Option Value → am_H → Prop}
theorem s12_fieldOf {x : Int32} (hQ : Q (some (.int (fdI (ltr x)))) (h, z)) : Rn sA mX12_fieldOf 0 [some (.int x)] [] (h, z) Q := by
  unfold ltr at hQ
  refine R_iload_n (pc := 0) dX12_fieldOf_0 rfl ?_
  refine R_bipush (pc := 1) (x := nI 100) dX12_fieldOf_1 (by decide) ?_
  refine R_icmp_ne (pc := 3) (t := 10) dX12_fieldOf_3 (by decide) (fun h3 => ?_) (fun h3 => ?_)
  · refine R_iload_n (pc := 10) dX12_fieldOf_10 rfl ?_
    refine R_bipush (pc := 11) (x := nI 103) dX12_fieldOf_11 (by decide) ?_
    refine R_icmp_ne (pc := 13) (t := 20) dX12_fieldOf_13 (by decide) (fun h13 => ?_) (fun h13 => ?_)
    · refine R_iload_n (pc := 20) dX12_fieldOf_20 rfl ?_
      refine R_bipush (pc := 21) (x := nI 119) dX12_fieldOf_21 (by decide) ?_
      refine R_icmp_ne (pc := 23) (t := 30) dX12_fieldOf_23 (by decide) (fun h23 => ?_) (fun h23 => ?_)
      · refine R_iload_n (pc := 30) dX12_fieldOf_30 rfl ?_
        refine R_bipush (pc := 31) (x := nI 104) dX12_fieldOf_31 (by decide) ?_
        refine R_icmp_ne (pc := 33) (t := 40) dX12_fieldOf_33 (by decide) (fun h33 => ?_) (fun h33 => ?_)
        · refine R_iload_n (pc := 40) dX12_fieldOf_40 rfl ?_
          refine R_bipush (pc := 41) (x := nI 114) dX12_fieldOf_41 (by decide) ?_
          refine R_icmp_ne (pc := 43) (t := 50) dX12_fieldOf_43 (by decide) (fun h43 => ?_) (fun h43 => ?_)
          · refine R_ldc (pc := 50) (x := (-1000009)) dX12_fieldOf_50 rfl ?_
            refine R_iret (pc := 52) dX12_fieldOf_52 rfl ?_
            first
              | (rw [if_pos h3] at hQ; exact hQ)
              | (rw [if_neg h3, if_pos h13] at hQ; exact hQ)
              | (rw [if_neg h3, if_neg h13, if_pos h23] at hQ; exact hQ)
              | (rw [if_neg h3, if_neg h13, if_neg h23, if_pos h33] at hQ; exact hQ)
              | (rw [if_neg h3, if_neg h13, if_neg h23, if_neg h33, if_pos h43] at hQ; exact hQ)
              | (rw [if_neg h3, if_neg h13, if_neg h23, if_neg h33, if_neg h43] at hQ; exact hQ)
          · refine R_iconst (pc := 46) (x := nI 4) dX12_fieldOf_46 rfl ?_
            refine R_goto (pc := 47) (t := 52) dX12_fieldOf_47 (by decide) ?_
            refine R_iret (pc := 52) dX12_fieldOf_52 rfl ?_
            first
              | (rw [if_pos h3] at hQ; exact hQ)
              | (rw [if_neg h3, if_pos h13] at hQ; exact hQ)
              | (rw [if_neg h3, if_neg h13, if_pos h23] at hQ; exact hQ)
              | (rw [if_neg h3, if_neg h13, if_neg h23, if_pos h33] at hQ; exact hQ)
              | (rw [if_neg h3, if_neg h13, if_neg h23, if_neg h33, if_pos h43] at hQ; exact hQ)
              | (rw [if_neg h3, if_neg h13, if_neg h23, if_neg h33, if_neg h43] at hQ; exact hQ)
        · refine R_iconst (pc := 36) (x := nI 3) dX12_fieldOf_36 rfl ?_
          refine R_goto (pc := 37) (t := 52) dX12_fieldOf_37 (by decide) ?_
          refine R_iret (pc := 52) dX12_fieldOf_52 rfl ?_
          first
            | (rw [if_pos h3] at hQ; exact hQ)
            | (rw [if_neg h3, if_pos h13] at hQ; exact hQ)
            | (rw [if_neg h3, if_neg h13, if_pos h23] at hQ; exact hQ)
            | (rw [if_neg h3, if_neg h13, if_neg h23, if_pos h33] at hQ; exact hQ)
            | (rw [if_neg h3, if_neg h13, if_neg h23, if_neg h33, if_pos h43] at hQ; exact hQ)
            | (rw [if_neg h3, if_neg h13, if_neg h23, if_neg h33, if_neg h43] at hQ; exact hQ)
      · refine R_iconst (pc := 26) (x := nI 2) dX12_fieldOf_26 rfl ?_
        refine R_goto (pc := 27) (t := 52) dX12_fieldOf_27 (by decide) ?_
        refine R_iret (pc := 52) dX12_fieldOf_52 rfl ?_
        first
          | (rw [if_pos h3] at hQ; exact hQ)
          | (rw [if_neg h3, if_pos h13] at hQ; exact hQ)
          | (rw [if_neg h3, if_neg h13, if_pos h23] at hQ; exact hQ)
          | (rw [if_neg h3, if_neg h13, if_neg h23, if_pos h33] at hQ; exact hQ)
          | (rw [if_neg h3, if_neg h13, if_neg h23, if_neg h33, if_pos h43] at hQ; exact hQ)
          | (rw [if_neg h3, if_neg h13, if_neg h23, if_neg h33, if_neg h43] at hQ; exact hQ)
    · refine R_iconst (pc := 16) (x := nI 1) dX12_fieldOf_16 rfl ?_
      refine R_goto (pc := 17) (t := 52) dX12_fieldOf_17 (by decide) ?_
      refine R_iret (pc := 52) dX12_fieldOf_52 rfl ?_
      first
        | (rw [if_pos h3] at hQ; exact hQ)
        | (rw [if_neg h3, if_pos h13] at hQ; exact hQ)
        | (rw [if_neg h3, if_neg h13, if_pos h23] at hQ; exact hQ)
        | (rw [if_neg h3, if_neg h13, if_neg h23, if_pos h33] at hQ; exact hQ)
        | (rw [if_neg h3, if_neg h13, if_neg h23, if_neg h33, if_pos h43] at hQ; exact hQ)
        | (rw [if_neg h3, if_neg h13, if_neg h23, if_neg h33, if_neg h43] at hQ; exact hQ)
  · refine R_iconst (pc := 6) (x := nI 0) dX12_fieldOf_6 rfl ?_
    refine R_goto (pc := 7) (t := 52) dX12_fieldOf_7 (by decide) ?_
    refine R_iret (pc := 52) dX12_fieldOf_52 rfl ?_
    first
      | (rw [if_pos h3] at hQ; exact hQ)
      | (rw [if_neg h3, if_pos h13] at hQ; exact hQ)
      | (rw [if_neg h3, if_neg h13, if_pos h23] at hQ; exact hQ)
      | (rw [if_neg h3, if_neg h13, if_neg h23, if_pos h33] at hQ; exact hQ)
      | (rw [if_neg h3, if_neg h13, if_neg h23, if_neg h33, if_pos h43] at hQ; exact hQ)
      | (rw [if_neg h3, if_neg h13, if_neg h23, if_neg h33, if_neg h43] at hQ; exact hQ)
end FLD
theorem l12_rtE {kd k l : Nat} {o1 o2 o4 : Option Value} (h1 : 0 < kd) (h2 : kd < 5) (hS : S 12 = nI kd) (hl : S 6 = nI l) (hQ : Q none (putM h M A S, z)) : Rn sA mX12_readText 253 [some (.ref M), o1, o2, some (.int (nI k)), o4] [] (putM h M A S, z) Q := by
  have e : ∀ x, x < 5 → ¬ nI x = (-1000009) := by decide
  refine R_iinc (pc := 253) dX12_readText_253 rfl (by first | exact nI_inc _ | rfl) rfl ?_
  refine R_goto (pc := 256) (t := 36) dX12_readText_256 (by decide) ?_
  refine R_iload_n (pc := 36) dX12_readText_36 rfl ?_
  refine R_aload_n (pc := 37) dX12_readText_37 rfl ?_
  refine M_g (pc := 38) dX12_readText_38 rfl rfl ?_
  refine R_icmp_ge (pc := 41) (t := 259) dX12_readText_41 (by decide) (fun h41 => ?_) (fun h41 => ?_)
  · refine R_aload_n (pc := 259) dX12_readText_259 rfl ?_
    refine M_g (pc := 260) dX12_readText_260 rfl rfl ?_
    refine R_ldc (pc := 263) (x := (-1000009)) dX12_readText_263 rfl ?_
    refine R_icmp_ne (pc := 265) (t := 296) dX12_readText_265 (by decide) (fun _ => ?_) (fun hz9 => absurd hz9 (by show ¬ S 12 = _; rw [hS]; exact e kd h2))
    refine R_vret (pc := 296) dX12_readText_296 rfl ?_
    exact hQ
  · refine R_aload_n (pc := 44) dX12_readText_44 rfl ?_
    refine M_g (pc := 45) dX12_readText_45 rfl rfl ?_
    refine R_ldc (pc := 48) (x := (-1000009)) dX12_readText_48 rfl ?_
    refine R_icmp_ne (pc := 50) (t := 259) dX12_readText_50 (by decide) (fun _ => ?_) (fun hz9 => absurd hz9 (by show ¬ S 12 = _; rw [hS]; exact e kd h2))
    refine R_aload_n (pc := 259) dX12_readText_259 rfl ?_
    refine M_g (pc := 260) dX12_readText_260 rfl rfl ?_
    refine R_ldc (pc := 263) (x := (-1000009)) dX12_readText_263 rfl ?_
    refine R_icmp_ne (pc := 265) (t := 296) dX12_readText_265 (by decide) (fun _ => ?_) (fun hz9 => absurd hz9 (by show ¬ S 12 = _; rw [hS]; exact e kd h2))
    refine R_vret (pc := 296) dX12_readText_296 rfl ?_
    exact hQ
theorem nI_noN {j : Nat} (h : j < 2 ^ 31) : ¬ nI j = (-1000009) := by
  intro e
  have h1 := nI_toInt h
  rw [e] at h1
  have : ((-1000009 : Int32)).toInt = -1000009 := by decide
  omega
theorem l12_rt {P Wd : Nat → Nat} {T : Nat → Int32} {l : Nat} (hV : LayV Wd) (hS : S 12 = (-1000009)) (hl : S 6 = nI l) (hl5 : l ≤ 50) : ∀ (n k : Nat) (s : TS) (A : Nat → Nat → Int32) (wd : Nat) (o4 : Option Value) (_ : k + n = l) (_ : TsOK Wd s) (_ : RtI s (A 6) (A 7) wd k) (_ : LayW (A 1) P Wd) (_ : A 4 = T) (_ : (∀ (A2 : Nat → Nat → Int32) (kd : Nat), (∀ q, q ≠ 6 → q ≠ 7 → A2 q = A q) → (scL Wd T n k s).1 = kd → ¬ kd = 0 → Q none (putM h M A2 (va_up (va_up S 12 (nI kd)) 13 (nI (scL Wd T n k s).2.1)), z))) (_ : (∀ (A2 : Nat → Nat → Int32), (∀ q, q ≠ 6 → q ≠ 7 → A2 q = A q) → (scL Wd T n k s).1 = 0 → (∀ f, f < 5 → A2 6 f = if (scL Wd T n k s).2.2.2.1 f = 0 then (-1000009) else nI ((scL Wd T n k s).2.2.2.2.1 f)) → Q none (putM h M A2 S, z))), Rn sA mX12_readText 36 [some (.ref M), some (.int (fdI s.1)), some (.int (nI wd)), some (.int (nI k)), o4] [] (putM h M A S, z) Q
  | 0, k, s, A, wd, o4, hk, hT, hI, hLW, hA4, hE, hG => by
    obtain ⟨i1, i2, i3, i4⟩ := hI
    have n5 : ∀ f, f < 5 → ¬ nI f = (-1000009) := by decide
    obtain rfl : k = l := by omega
    have hsum : ∀ A2 : Nat → Nat → Int32, True := fun _ => trivial
    have good : scE s = 0 → Q none (putM h M A S, z) := by
      intro e
      refine hG A (fun q _ _ => rfl) e (fun f hf => ?_)
      show A 6 f = if s.2.1 f = 0 then _ else nI (s.2.2.1 f)
      rw [i1 f hf]
      by_cases q : s.2.1 f = 0
      · by_cases q2 : s.1 = f
        · exfalso
          unfold scE at e
          rw [if_pos (Or.inr ⟨by omega, by rw [q2]; exact q⟩)] at e
          omega
        · rw [if_pos ⟨q, q2⟩, if_pos q]
      · rw [if_neg (fun t => q t.1), if_neg q]
    have bad : scE s = 4 → Q none (putM h M A (va_up (va_up S 12 (nI 4)) 13 (nI k)), z) := fun e => hE A 4 (fun q _ _ => rfl) e (by omega)
    clear hE hG
    by_cases h5 : s.1 = 5
    · have e5 : fdI s.1 = (-1000009) := by unfold fdI; rw [if_pos h5]
      rw [e5]
      by_cases hw0 : wd = 0
      · have e : scE s = 4 := by unfold scE; rw [if_pos (Or.inl (i4.mp hw0))]
        subst hw0
        refine R_iload_n (pc := 36) dX12_readText_36 rfl ?_
        refine R_aload_n (pc := 37) dX12_readText_37 rfl ?_
        refine M_g (pc := 38) dX12_readText_38 rfl rfl ?_
        refine R_icmp_ge (pc := 41) (t := 259) dX12_readText_41 (by decide) (fun _ => ?_) (fun hz9 => absurd (by rw [hl]; exact nI_le (by omega) (by omega)) hz9)
        refine R_aload_n (pc := 259) dX12_readText_259 rfl ?_
        refine M_g (pc := 260) dX12_readText_260 rfl rfl ?_
        refine R_ldc (pc := 263) (x := (-1000009)) dX12_readText_263 rfl ?_
        refine R_icmp_ne (pc := 265) (t := 296) dX12_readText_265 (by decide) (fun hz9 => absurd (show S 12 = _ from hS) hz9) (fun _ => ?_)
        refine R_iload_n (pc := 268) dX12_readText_268 rfl ?_
        refine R_if_eq (pc := 269) (t := 287) dX12_readText_269 (by decide) (fun _ => ?_) (fun hz9 => absurd rfl hz9)
        refine R_aload_n (pc := 287) dX12_readText_287 rfl ?_
        refine R_iconst (pc := 288) (x := nI 4) dX12_readText_288 rfl ?_
        refine R_aload_n (pc := 289) dX12_readText_289 rfl ?_
        refine M_g (pc := 290) dX12_readText_290 rfl rfl ?_
        refine R_callV (pc := 293) dX12_readText_293 rfl putM_o rfl rfl ?_
        refine s12_fails ?_
        refine R_vret (pc := 296) dX12_readText_296 rfl ?_
        have q := bad e
        rw [← hl] at q
        exact q
      · have e : scE s = 0 := by unfold scE; rw [if_neg (fun q => q.elim (fun t => hw0 (i4.mpr t)) (fun t => t.1 h5))]
        refine R_iload_n (pc := 36) dX12_readText_36 rfl ?_
        refine R_aload_n (pc := 37) dX12_readText_37 rfl ?_
        refine M_g (pc := 38) dX12_readText_38 rfl rfl ?_
        refine R_icmp_ge (pc := 41) (t := 259) dX12_readText_41 (by decide) (fun _ => ?_) (fun hz9 => absurd (by rw [hl]; exact nI_le (by omega) (by omega)) hz9)
        refine R_aload_n (pc := 259) dX12_readText_259 rfl ?_
        refine M_g (pc := 260) dX12_readText_260 rfl rfl ?_
        refine R_ldc (pc := 263) (x := (-1000009)) dX12_readText_263 rfl ?_
        refine R_icmp_ne (pc := 265) (t := 296) dX12_readText_265 (by decide) (fun hz9 => absurd (show S 12 = _ from hS) hz9) (fun _ => ?_)
        refine R_iload_n (pc := 268) dX12_readText_268 rfl ?_
        refine R_if_eq (pc := 269) (t := 287) dX12_readText_269 (by decide) (fun hz9 => absurd hz9 (nI_ne0 (by omega) (by omega))) (fun _ => ?_)
        refine R_iload_n (pc := 272) dX12_readText_272 rfl ?_
        refine R_ldc (pc := 273) (x := (-1000009)) dX12_readText_273 rfl ?_
        refine R_icmp_eq (pc := 275) (t := 296) dX12_readText_275 (by decide) (fun _ => ?_) (fun hz9 => absurd rfl hz9)
        refine R_vret (pc := 296) dX12_readText_296 rfl ?_
        exact good e
    · obtain ⟨f, hf, ef⟩ : ∃ f, f < 5 ∧ s.1 = f := ⟨s.1, by have := hT.1; omega, rfl⟩
      have e5 : fdI s.1 = nI f := by unfold fdI; rw [if_neg h5, ef]
      have e7 : A 7 f = nI (s.2.1 f) := i2 f hf (Or.inr ef)
      have d4 : s.2.1 f < 100 := by have := (hT.2 f hf).1; have := (hV f (by omega)).2; omega
      have hw1 : ¬ wd = 0 := fun q => h5 (i4.mp q).1
      rw [e5]
      by_cases hd : s.2.1 f = 0
      · have e : scE s = 4 := by unfold scE; rw [if_pos (Or.inr ⟨h5, by rw [ef]; exact hd⟩)]
        refine R_iload_n (pc := 36) dX12_readText_36 rfl ?_
        refine R_aload_n (pc := 37) dX12_readText_37 rfl ?_
        refine M_g (pc := 38) dX12_readText_38 rfl rfl ?_
        refine R_icmp_ge (pc := 41) (t := 259) dX12_readText_41 (by decide) (fun _ => ?_) (fun hz9 => absurd (by rw [hl]; exact nI_le (by omega) (by omega)) hz9)
        refine R_aload_n (pc := 259) dX12_readText_259 rfl ?_
        refine M_g (pc := 260) dX12_readText_260 rfl rfl ?_
        refine R_ldc (pc := 263) (x := (-1000009)) dX12_readText_263 rfl ?_
        refine R_icmp_ne (pc := 265) (t := 296) dX12_readText_265 (by decide) (fun hz9 => absurd (show S 12 = _ from hS) hz9) (fun _ => ?_)
        refine R_iload_n (pc := 268) dX12_readText_268 rfl ?_
        refine R_if_eq (pc := 269) (t := 287) dX12_readText_269 (by decide) (fun hz9 => absurd hz9 (nI_ne0 (by omega) (by omega))) (fun _ => ?_)
        refine R_iload_n (pc := 272) dX12_readText_272 rfl ?_
        refine R_ldc (pc := 273) (x := (-1000009)) dX12_readText_273 rfl ?_
        refine R_icmp_eq (pc := 275) (t := 296) dX12_readText_275 (by decide) (fun hz9 => absurd hz9 (n5 f hf)) (fun _ => ?_)
        refine R_aload_n (pc := 278) dX12_readText_278 rfl ?_
        refine M_g (pc := 279) dX12_readText_279 rfl rfl ?_
        refine R_iload_n (pc := 282) dX12_readText_282 rfl ?_
        refine M_ald (pc := 283) dX12_readText_283 rfl (by simp only [mol7]; omega) ?_
        refine R_if_ne (pc := 284) (t := 296) dX12_readText_284 (by decide) (fun hz9 => absurd (by rw [e7, hd]; rfl) hz9) (fun _ => ?_)
        refine R_aload_n (pc := 287) dX12_readText_287 rfl ?_
        refine R_iconst (pc := 288) (x := nI 4) dX12_readText_288 rfl ?_
        refine R_aload_n (pc := 289) dX12_readText_289 rfl ?_
        refine M_g (pc := 290) dX12_readText_290 rfl rfl ?_
        refine R_callV (pc := 293) dX12_readText_293 rfl putM_o rfl rfl ?_
        refine s12_fails ?_
        refine R_vret (pc := 296) dX12_readText_296 rfl ?_
        have q := bad e
        rw [← hl] at q
        exact q
      · have e : scE s = 0 := by unfold scE; rw [if_neg (fun q => q.elim (fun t => h5 t.1) (fun t => hd (by rw [← ef]; exact t.2)))]
        refine R_iload_n (pc := 36) dX12_readText_36 rfl ?_
        refine R_aload_n (pc := 37) dX12_readText_37 rfl ?_
        refine M_g (pc := 38) dX12_readText_38 rfl rfl ?_
        refine R_icmp_ge (pc := 41) (t := 259) dX12_readText_41 (by decide) (fun _ => ?_) (fun hz9 => absurd (by rw [hl]; exact nI_le (by omega) (by omega)) hz9)
        refine R_aload_n (pc := 259) dX12_readText_259 rfl ?_
        refine M_g (pc := 260) dX12_readText_260 rfl rfl ?_
        refine R_ldc (pc := 263) (x := (-1000009)) dX12_readText_263 rfl ?_
        refine R_icmp_ne (pc := 265) (t := 296) dX12_readText_265 (by decide) (fun hz9 => absurd (show S 12 = _ from hS) hz9) (fun _ => ?_)
        refine R_iload_n (pc := 268) dX12_readText_268 rfl ?_
        refine R_if_eq (pc := 269) (t := 287) dX12_readText_269 (by decide) (fun hz9 => absurd hz9 (nI_ne0 (by omega) (by omega))) (fun _ => ?_)
        refine R_iload_n (pc := 272) dX12_readText_272 rfl ?_
        refine R_ldc (pc := 273) (x := (-1000009)) dX12_readText_273 rfl ?_
        refine R_icmp_eq (pc := 275) (t := 296) dX12_readText_275 (by decide) (fun hz9 => absurd hz9 (n5 f hf)) (fun _ => ?_)
        refine R_aload_n (pc := 278) dX12_readText_278 rfl ?_
        refine M_g (pc := 279) dX12_readText_279 rfl rfl ?_
        refine R_iload_n (pc := 282) dX12_readText_282 rfl ?_
        refine M_ald (pc := 283) dX12_readText_283 rfl (by simp only [mol7]; omega) ?_
        refine R_if_ne (pc := 284) (t := 296) dX12_readText_284 (by decide) (fun _ => ?_) (fun hz9 => absurd hz9 (by rw [e7]; exact nI_ne0 (by omega) (by omega)))
        refine R_vret (pc := 296) dX12_readText_296 rfl ?_
        exact good e
  | n + 1, k, s, A, wd, o4, hk, hT, hI, hLW, hA4, hE, hG => by
    obtain ⟨i1, i2, i3, i4⟩ := hI
    have n5 : ∀ f, f < 5 → ¬ nI f = (-1000009) := by decide
    subst hA4
    have err : ∀ kd, 0 < kd → kd < 5 → (scS Wd (A 4 k) k s).1 = kd → ∀ (A2 : Nat → Nat → Int32) (o1 o2 o4 : Option Value), (∀ q, q ≠ 6 → q ≠ 7 → A2 q = A q) → Rn sA mX12_readText 253 [some (.ref M), o1, o2, some (.int (nI k)), o4] [] (putM h M A2 (va_up (va_up S 12 (nI kd)) 13 (nI k)), z) Q := by
      intro kd q1 q2 q3 A2 o1 o2 o4 q4
      have e : scL Wd (A 4) (n + 1) k s = (kd, k, s) := by
        show (if (scS Wd (A 4 k) k s).1 = 0 then _ else _) = _
        rw [if_neg (by omega), q3]
      refine l12_rtE (kd := kd) (l := l) q1 q2 rfl hl ?_
      have q := hE A2 kd q4 (by rw [e]) (by omega)
      rw [e] at q
      exact q
    have okS : ∀ s2, scS Wd (A 4 k) k s = (0, s2) → TsOK Wd s2 ∧ scL Wd (A 4) (n + 1) k s = scL Wd (A 4) n (k + 1) s2 := by
      intro s2 q
      constructor
      · have := scS_ok (Wd := Wd) (x := A 4 k) (k := k) hT (by rw [q])
        rw [q] at this
        exact this
      · show (if (scS Wd (A 4 k) k s).1 = 0 then _ else _) = _
        rw [q]
        rfl
    have ind : ∀ s2 (A2 : Nat → Nat → Int32) (wd2 : Nat) (o4 : Option Value), scS Wd (A 4 k) k s = (0, s2) → (∀ q, q ≠ 6 → q ≠ 7 → A2 q = A q) → RtI s2 (A2 6) (A2 7) wd2 (k + 1) → Rn sA mX12_readText 36 [some (.ref M), some (.int (fdI s2.1)), some (.int (nI wd2)), some (.int (nI (k + 1))), o4] [] (putM h M A2 S, z) Q := by
      intro s2 A2 wd2 o4 q1 q2 q3
      obtain ⟨r1, r2⟩ := okS s2 q1
      refine l12_rt hV hS hl hl5 n (k + 1) s2 A2 wd2 o4 (by omega) r1 q3 (by rw [q2 1 (by omega) (by omega)]; exact hLW) (q2 4 (by omega) (by omega)) (fun A3 kd a b c => ?_) (fun A3 a b c => ?_)
      · have q := hE A3 kd (fun x x1 x2 => (a x x1 x2).trans (q2 x x1 x2)) (by rw [r2]; exact b) c
        rw [r2] at q
        exact q
      · exact hG A3 (fun x x1 x2 => (a x x1 x2).trans (q2 x x1 x2)) (by rw [r2]; exact b) (by rw [r2]; exact c)
    clear hE hG okS
    generalize hx : A 4 k = x at err ind ⊢
    by_cases h5 : s.1 = 5
    · have e5 : fdI s.1 = (-1000009) := by unfold fdI; rw [if_pos h5]
      rw [e5]
      by_cases x32 : x = nI 32
      · have eS : scS Wd x k s = (0, s) := by unfold scS; rw [if_pos h5, if_pos x32]
        refine R_iload_n (pc := 36) dX12_readText_36 rfl ?_
        refine R_aload_n (pc := 37) dX12_readText_37 rfl ?_
        refine M_g (pc := 38) dX12_readText_38 rfl rfl ?_
        refine R_icmp_ge (pc := 41) (t := 259) dX12_readText_41 (by decide) (fun hz9 => absurd hz9 (by rw [hl]; exact nI_ge (by omega) (by omega))) (fun _ => ?_)
        refine R_aload_n (pc := 44) dX12_readText_44 rfl ?_
        refine M_g (pc := 45) dX12_readText_45 rfl rfl ?_
        refine R_ldc (pc := 48) (x := (-1000009)) dX12_readText_48 rfl ?_
        refine R_icmp_ne (pc := 50) (t := 259) dX12_readText_50 (by decide) (fun hz9 => absurd (show S 12 = _ from hS) hz9) (fun _ => ?_)
        refine R_aload_n (pc := 53) dX12_readText_53 rfl ?_
        refine M_g (pc := 54) dX12_readText_54 rfl rfl ?_
        refine R_iload_n (pc := 57) dX12_readText_57 rfl ?_
        refine M_ald (pc := 58) dX12_readText_58 rfl (by simp only [mol4]; omega) ?_
        rw [hx]
        refine R_istore (pc := 59) dX12_readText_59 (Nat.le_of_ble_eq_true rfl) rfl ?_
        refine R_iload_n (pc := 61) dX12_readText_61 rfl ?_
        refine R_ldc (pc := 62) (x := (-1000009)) dX12_readText_62 rfl ?_
        refine R_icmp_ne (pc := 64) (t := 159) dX12_readText_64 (by decide) (fun hz9 => absurd rfl hz9) (fun _ => ?_)
        refine R_iload (pc := 67) dX12_readText_67 rfl ?_
        refine R_bipush (pc := 69) (x := nI 32) dX12_readText_69 (by decide) ?_
        refine R_icmp_ne (pc := 71) (t := 79) dX12_readText_71 (by decide) (fun hz9 => absurd x32 hz9) (fun _ => ?_)
        refine R_ldc (pc := 74) (x := (-1000009)) dX12_readText_74 rfl ?_
        refine R_goto (pc := 76) (t := 84) dX12_readText_76 (by decide) ?_
        refine R_istore_n (pc := 84) dX12_readText_84 (Nat.le_of_ble_eq_true rfl) rfl ?_
        refine R_iload (pc := 85) dX12_readText_85 rfl ?_
        refine R_bipush (pc := 87) (x := nI 32) dX12_readText_87 (by decide) ?_
        refine R_icmp_eq (pc := 89) (t := 107) dX12_readText_89 (by decide) (fun _ => ?_) (fun hz9 => absurd x32 hz9)
        refine R_iload_n (pc := 107) dX12_readText_107 rfl ?_
        refine R_ldc (pc := 108) (x := (-1000009)) dX12_readText_108 rfl ?_
        refine R_icmp_eq (pc := 110) (t := 133) dX12_readText_110 (by decide) (fun _ => ?_) (fun hz9 => absurd rfl hz9)
        refine R_iload_n (pc := 133) dX12_readText_133 rfl ?_
        refine R_ldc (pc := 134) (x := (-1000009)) dX12_readText_134 rfl ?_
        refine R_icmp_eq (pc := 136) (t := 253) dX12_readText_136 (by decide) (fun _ => ?_) (fun hz9 => absurd rfl hz9)
        refine R_iinc (pc := 253) dX12_readText_253 rfl (by first | exact nI_inc _ | rfl) rfl ?_
        refine R_goto (pc := 256) (t := 36) dX12_readText_256 (by decide) ?_
        have q := ind s A wd (some (.int x)) eS (fun _ _ _ => rfl) ⟨i1, i2, by omega, i4⟩
        rw [e5] at q
        exact q
      · by_cases hlt : ltr x = 5
        · have eS : scS Wd x k s = (1, s) := by unfold scS; rw [if_pos h5, if_neg x32, if_pos hlt]
          have ef : fdI (ltr x) = (-1000009) := by unfold fdI; rw [if_pos hlt]
          refine R_iload_n (pc := 36) dX12_readText_36 rfl ?_
          refine R_aload_n (pc := 37) dX12_readText_37 rfl ?_
          refine M_g (pc := 38) dX12_readText_38 rfl rfl ?_
          refine R_icmp_ge (pc := 41) (t := 259) dX12_readText_41 (by decide) (fun hz9 => absurd hz9 (by rw [hl]; exact nI_ge (by omega) (by omega))) (fun _ => ?_)
          refine R_aload_n (pc := 44) dX12_readText_44 rfl ?_
          refine M_g (pc := 45) dX12_readText_45 rfl rfl ?_
          refine R_ldc (pc := 48) (x := (-1000009)) dX12_readText_48 rfl ?_
          refine R_icmp_ne (pc := 50) (t := 259) dX12_readText_50 (by decide) (fun hz9 => absurd (show S 12 = _ from hS) hz9) (fun _ => ?_)
          refine R_aload_n (pc := 53) dX12_readText_53 rfl ?_
          refine M_g (pc := 54) dX12_readText_54 rfl rfl ?_
          refine R_iload_n (pc := 57) dX12_readText_57 rfl ?_
          refine M_ald (pc := 58) dX12_readText_58 rfl (by simp only [mol4]; omega) ?_
          rw [hx]
          refine R_istore (pc := 59) dX12_readText_59 (Nat.le_of_ble_eq_true rfl) rfl ?_
          refine R_iload_n (pc := 61) dX12_readText_61 rfl ?_
          refine R_ldc (pc := 62) (x := (-1000009)) dX12_readText_62 rfl ?_
          refine R_icmp_ne (pc := 64) (t := 159) dX12_readText_64 (by decide) (fun hz9 => absurd rfl hz9) (fun _ => ?_)
          refine R_iload (pc := 67) dX12_readText_67 rfl ?_
          refine R_bipush (pc := 69) (x := nI 32) dX12_readText_69 (by decide) ?_
          refine R_icmp_ne (pc := 71) (t := 79) dX12_readText_71 (by decide) (fun _ => ?_) (fun hz9 => absurd hz9 x32)
          refine R_iload (pc := 79) dX12_readText_79 rfl ?_
          refine R_callS (pc := 81) dX12_readText_81 rfl (Or.inl rfl) rfl rfl ?_
          refine s12_fieldOf ?_
          rw [ef]
          refine R_istore_n (pc := 84) dX12_readText_84 (Nat.le_of_ble_eq_true rfl) rfl ?_
          refine R_iload (pc := 85) dX12_readText_85 rfl ?_
          refine R_bipush (pc := 87) (x := nI 32) dX12_readText_87 (by decide) ?_
          refine R_icmp_eq (pc := 89) (t := 107) dX12_readText_89 (by decide) (fun hz9 => absurd hz9 x32) (fun _ => ?_)
          refine R_iload_n (pc := 92) dX12_readText_92 rfl ?_
          refine R_ldc (pc := 93) (x := (-1000009)) dX12_readText_93 rfl ?_
          refine R_icmp_ne (pc := 95) (t := 107) dX12_readText_95 (by decide) (fun hz9 => absurd rfl hz9) (fun _ => ?_)
          refine R_aload_n (pc := 98) dX12_readText_98 rfl ?_
          refine R_iconst (pc := 99) (x := nI 1) dX12_readText_99 rfl ?_
          refine R_iload_n (pc := 100) dX12_readText_100 rfl ?_
          refine R_callV (pc := 101) dX12_readText_101 rfl putM_o rfl rfl ?_
          refine s12_fails ?_
          refine R_goto (pc := 104) (t := 253) dX12_readText_104 (by decide) ?_
          exact err 1 (by omega) (by omega) (by rw [eS]) A _ _ _ (fun _ _ _ => rfl)
        · obtain ⟨f, hf, ef⟩ : ∃ f, f < 5 ∧ ltr x = f := ⟨ltr x, by have := ltr_le x; omega, rfl⟩
          have eF : fdI (ltr x) = nI f := by unfold fdI; rw [if_neg hlt, ef]
          by_cases hd : 0 < s.2.1 f
          · have eS : scS Wd x k s = (2, s) := by unfold scS; rw [if_pos h5, if_neg x32, if_neg hlt, ef, if_pos hd]
            have d4 : s.2.2.1 f < 10000 := by have h1 := (hT.2 f hf); have h2 := (hV f (by omega)).2; exact Nat.lt_of_lt_of_le h1.2 (p10_le (by omega))
            have e6 : ¬ A 6 f = (-1000009) := by rw [i1 f hf, if_neg (by omega)]; exact nI_noN (by omega)
            refine R_iload_n (pc := 36) dX12_readText_36 rfl ?_
            refine R_aload_n (pc := 37) dX12_readText_37 rfl ?_
            refine M_g (pc := 38) dX12_readText_38 rfl rfl ?_
            refine R_icmp_ge (pc := 41) (t := 259) dX12_readText_41 (by decide) (fun hz9 => absurd hz9 (by rw [hl]; exact nI_ge (by omega) (by omega))) (fun _ => ?_)
            refine R_aload_n (pc := 44) dX12_readText_44 rfl ?_
            refine M_g (pc := 45) dX12_readText_45 rfl rfl ?_
            refine R_ldc (pc := 48) (x := (-1000009)) dX12_readText_48 rfl ?_
            refine R_icmp_ne (pc := 50) (t := 259) dX12_readText_50 (by decide) (fun hz9 => absurd (show S 12 = _ from hS) hz9) (fun _ => ?_)
            refine R_aload_n (pc := 53) dX12_readText_53 rfl ?_
            refine M_g (pc := 54) dX12_readText_54 rfl rfl ?_
            refine R_iload_n (pc := 57) dX12_readText_57 rfl ?_
            refine M_ald (pc := 58) dX12_readText_58 rfl (by simp only [mol4]; omega) ?_
            rw [hx]
            refine R_istore (pc := 59) dX12_readText_59 (Nat.le_of_ble_eq_true rfl) rfl ?_
            refine R_iload_n (pc := 61) dX12_readText_61 rfl ?_
            refine R_ldc (pc := 62) (x := (-1000009)) dX12_readText_62 rfl ?_
            refine R_icmp_ne (pc := 64) (t := 159) dX12_readText_64 (by decide) (fun hz9 => absurd rfl hz9) (fun _ => ?_)
            refine R_iload (pc := 67) dX12_readText_67 rfl ?_
            refine R_bipush (pc := 69) (x := nI 32) dX12_readText_69 (by decide) ?_
            refine R_icmp_ne (pc := 71) (t := 79) dX12_readText_71 (by decide) (fun _ => ?_) (fun hz9 => absurd hz9 x32)
            refine R_iload (pc := 79) dX12_readText_79 rfl ?_
            refine R_callS (pc := 81) dX12_readText_81 rfl (Or.inl rfl) rfl rfl ?_
            refine s12_fieldOf ?_
            rw [eF]
            refine R_istore_n (pc := 84) dX12_readText_84 (Nat.le_of_ble_eq_true rfl) rfl ?_
            refine R_iload (pc := 85) dX12_readText_85 rfl ?_
            refine R_bipush (pc := 87) (x := nI 32) dX12_readText_87 (by decide) ?_
            refine R_icmp_eq (pc := 89) (t := 107) dX12_readText_89 (by decide) (fun hz9 => absurd hz9 x32) (fun _ => ?_)
            refine R_iload_n (pc := 92) dX12_readText_92 rfl ?_
            refine R_ldc (pc := 93) (x := (-1000009)) dX12_readText_93 rfl ?_
            refine R_icmp_ne (pc := 95) (t := 107) dX12_readText_95 (by decide) (fun _ => ?_) (fun hz9 => absurd hz9 (n5 f hf))
            refine R_iload_n (pc := 107) dX12_readText_107 rfl ?_
            refine R_ldc (pc := 108) (x := (-1000009)) dX12_readText_108 rfl ?_
            refine R_icmp_eq (pc := 110) (t := 133) dX12_readText_110 (by decide) (fun hz9 => absurd hz9 (n5 f hf)) (fun _ => ?_)
            refine R_aload_n (pc := 113) dX12_readText_113 rfl ?_
            refine M_g (pc := 114) dX12_readText_114 rfl rfl ?_
            refine R_iload_n (pc := 117) dX12_readText_117 rfl ?_
            refine M_ald (pc := 118) dX12_readText_118 rfl (by simp only [mol6]; omega) ?_
            refine R_ldc (pc := 119) (x := (-1000009)) dX12_readText_119 rfl ?_
            refine R_icmp_eq (pc := 121) (t := 133) dX12_readText_121 (by decide) (fun hz9 => absurd hz9 e6) (fun _ => ?_)
            refine R_aload_n (pc := 124) dX12_readText_124 rfl ?_
            refine R_iconst (pc := 125) (x := nI 2) dX12_readText_125 rfl ?_
            refine R_iload_n (pc := 126) dX12_readText_126 rfl ?_
            refine R_callV (pc := 127) dX12_readText_127 rfl putM_o rfl rfl ?_
            refine s12_fails ?_
            refine R_goto (pc := 130) (t := 253) dX12_readText_130 (by decide) ?_
            exact err 2 (by omega) (by omega) (by rw [eS]) A _ _ _ (fun _ _ _ => rfl)
          · have eS : scS Wd x k s = (0, (f, s.2.1, updN s.2.2.1 f 0, updN s.2.2.2 f (k + 1))) := by unfold scS; rw [if_pos h5, if_neg x32, if_neg hlt, ef, if_neg hd]
            have e6 : A 6 f = (-1000009) := by rw [i1 f hf, if_pos ⟨by omega, by omega⟩]
            refine R_iload_n (pc := 36) dX12_readText_36 rfl ?_
            refine R_aload_n (pc := 37) dX12_readText_37 rfl ?_
            refine M_g (pc := 38) dX12_readText_38 rfl rfl ?_
            refine R_icmp_ge (pc := 41) (t := 259) dX12_readText_41 (by decide) (fun hz9 => absurd hz9 (by rw [hl]; exact nI_ge (by omega) (by omega))) (fun _ => ?_)
            refine R_aload_n (pc := 44) dX12_readText_44 rfl ?_
            refine M_g (pc := 45) dX12_readText_45 rfl rfl ?_
            refine R_ldc (pc := 48) (x := (-1000009)) dX12_readText_48 rfl ?_
            refine R_icmp_ne (pc := 50) (t := 259) dX12_readText_50 (by decide) (fun hz9 => absurd (show S 12 = _ from hS) hz9) (fun _ => ?_)
            refine R_aload_n (pc := 53) dX12_readText_53 rfl ?_
            refine M_g (pc := 54) dX12_readText_54 rfl rfl ?_
            refine R_iload_n (pc := 57) dX12_readText_57 rfl ?_
            refine M_ald (pc := 58) dX12_readText_58 rfl (by simp only [mol4]; omega) ?_
            rw [hx]
            refine R_istore (pc := 59) dX12_readText_59 (Nat.le_of_ble_eq_true rfl) rfl ?_
            refine R_iload_n (pc := 61) dX12_readText_61 rfl ?_
            refine R_ldc (pc := 62) (x := (-1000009)) dX12_readText_62 rfl ?_
            refine R_icmp_ne (pc := 64) (t := 159) dX12_readText_64 (by decide) (fun hz9 => absurd rfl hz9) (fun _ => ?_)
            refine R_iload (pc := 67) dX12_readText_67 rfl ?_
            refine R_bipush (pc := 69) (x := nI 32) dX12_readText_69 (by decide) ?_
            refine R_icmp_ne (pc := 71) (t := 79) dX12_readText_71 (by decide) (fun _ => ?_) (fun hz9 => absurd hz9 x32)
            refine R_iload (pc := 79) dX12_readText_79 rfl ?_
            refine R_callS (pc := 81) dX12_readText_81 rfl (Or.inl rfl) rfl rfl ?_
            refine s12_fieldOf ?_
            rw [eF]
            refine R_istore_n (pc := 84) dX12_readText_84 (Nat.le_of_ble_eq_true rfl) rfl ?_
            refine R_iload (pc := 85) dX12_readText_85 rfl ?_
            refine R_bipush (pc := 87) (x := nI 32) dX12_readText_87 (by decide) ?_
            refine R_icmp_eq (pc := 89) (t := 107) dX12_readText_89 (by decide) (fun hz9 => absurd hz9 x32) (fun _ => ?_)
            refine R_iload_n (pc := 92) dX12_readText_92 rfl ?_
            refine R_ldc (pc := 93) (x := (-1000009)) dX12_readText_93 rfl ?_
            refine R_icmp_ne (pc := 95) (t := 107) dX12_readText_95 (by decide) (fun _ => ?_) (fun hz9 => absurd hz9 (n5 f hf))
            refine R_iload_n (pc := 107) dX12_readText_107 rfl ?_
            refine R_ldc (pc := 108) (x := (-1000009)) dX12_readText_108 rfl ?_
            refine R_icmp_eq (pc := 110) (t := 133) dX12_readText_110 (by decide) (fun hz9 => absurd hz9 (n5 f hf)) (fun _ => ?_)
            refine R_aload_n (pc := 113) dX12_readText_113 rfl ?_
            refine M_g (pc := 114) dX12_readText_114 rfl rfl ?_
            refine R_iload_n (pc := 117) dX12_readText_117 rfl ?_
            refine M_ald (pc := 118) dX12_readText_118 rfl (by simp only [mol6]; omega) ?_
            refine R_ldc (pc := 119) (x := (-1000009)) dX12_readText_119 rfl ?_
            refine R_icmp_eq (pc := 121) (t := 133) dX12_readText_121 (by decide) (fun _ => ?_) (fun hz9 => absurd e6 hz9)
            refine R_iload_n (pc := 133) dX12_readText_133 rfl ?_
            refine R_ldc (pc := 134) (x := (-1000009)) dX12_readText_134 rfl ?_
            refine R_icmp_eq (pc := 136) (t := 253) dX12_readText_136 (by decide) (fun hz9 => absurd hz9 (n5 f hf)) (fun _ => ?_)
            refine R_aload_n (pc := 139) dX12_readText_139 rfl ?_
            refine M_g (pc := 140) dX12_readText_140 rfl rfl ?_
            refine R_iload_n (pc := 143) dX12_readText_143 rfl ?_
            refine R_iconst (pc := 144) (x := nI 0) dX12_readText_144 rfl ?_
            refine M_ast (pc := 145) dX12_readText_145 rfl (by simp only [mol6]; omega) ?_
            refine R_aload_n (pc := 146) dX12_readText_146 rfl ?_
            refine M_g (pc := 147) dX12_readText_147 rfl rfl ?_
            refine R_iload_n (pc := 150) dX12_readText_150 rfl ?_
            refine R_iconst (pc := 151) (x := nI 0) dX12_readText_151 rfl ?_
            refine M_ast (pc := 152) dX12_readText_152 rfl (by simp only [mol7]; omega) ?_
            refine R_iinc (pc := 153) dX12_readText_153 rfl (by first | exact nI_inc _ | rfl) rfl ?_
            refine R_goto (pc := 156) (t := 253) dX12_readText_156 (by decide) ?_
            refine R_iinc (pc := 253) dX12_readText_253 rfl (by first | exact nI_inc _ | rfl) rfl ?_
            refine R_goto (pc := 256) (t := 36) dX12_readText_256 (by decide) ?_
            have q := ind (f, s.2.1, updN s.2.2.1 f 0, updN s.2.2.2 f (k + 1)) (va_up (va_up A 6 (upd (A 6) f (nI 0))) 7 (upd (A 7) f (nI 0))) (wd + 1) (some (.int x)) eS (fun q h6 h7 => by unfold va_up; rw [if_neg h7, if_neg h6]) ⟨fun j hj => ?_, fun j hj hj2 => ?_, by omega, by show wd + 1 = 0 ↔ f = 5 ∧ _; omega⟩
            · rw [show fdI (f, s.2.1, updN s.2.2.1 f 0, updN s.2.2.2 f (k + 1)).1 = nI f by show fdI f = _; unfold fdI; rw [if_neg (by omega)]] at q
              exact q
            · show upd (A 6) f (nI 0) j = if s.2.1 j = 0 ∧ ¬ f = j then _ else nI (updN s.2.2.1 f 0 j)
              unfold updN
              by_cases e : j = f
              · subst e
                rw [upd_s, if_neg (by omega), if_pos rfl]
              · rw [upd_n e, i1 j hj, if_neg e]
                by_cases q : s.2.1 j = 0
                · rw [if_pos ⟨q, by omega⟩, if_pos ⟨q, by omega⟩]
                · rw [if_neg (fun t => q t.1), if_neg (fun t => q t.1)]
            · show upd (A 7) f (nI 0) j = nI (s.2.1 j)
              by_cases e : j = f
              · subst e
                rw [upd_s]
                congr 1
                omega
              · rw [upd_n e]
                refine i2 j hj (Or.inl ?_)
                rcases hj2 with q | q
                · exact q
                · exact absurd q (by show ¬ f = j; omega)
    · obtain ⟨f, hf, ef⟩ : ∃ f, f < 5 ∧ s.1 = f := ⟨s.1, by have := hT.1; omega, rfl⟩
      have e5 : fdI s.1 = nI f := by unfold fdI; rw [if_neg h5, ef]
      have e7 : A 7 f = nI (s.2.1 f) := i2 f hf (Or.inr ef)
      have e6 : A 6 f = nI (s.2.2.1 f) := by rw [i1 f hf, if_neg (by omega)]
      have dw := (hT.2 f hf).1
      have dv := (hV f (by omega)).2
      have v4 : s.2.2.1 f < 10000 := Nat.lt_of_lt_of_le (hT.2 f hf).2 (p10_le (by omega))
      obtain ⟨l1, l2, l3⟩ := hLW f (by omega)
      rw [e5]
      by_cases hdg : nI 48 ≤ x ∧ x ≤ nI 57
      · obtain ⟨d, hd1, hd2, hd3⟩ := dig_of hdg
        by_cases hfull : s.2.1 f = Wd f
        · have eS : scS Wd x k s = (3, s) := by unfold scS; rw [if_neg h5, if_pos hdg, ef, if_pos hfull]
          refine R_iload_n (pc := 36) dX12_readText_36 rfl ?_
          refine R_aload_n (pc := 37) dX12_readText_37 rfl ?_
          refine M_g (pc := 38) dX12_readText_38 rfl rfl ?_
          refine R_icmp_ge (pc := 41) (t := 259) dX12_readText_41 (by decide) (fun hz9 => absurd hz9 (by rw [hl]; exact nI_ge (by omega) (by omega))) (fun _ => ?_)
          refine R_aload_n (pc := 44) dX12_readText_44 rfl ?_
          refine M_g (pc := 45) dX12_readText_45 rfl rfl ?_
          refine R_ldc (pc := 48) (x := (-1000009)) dX12_readText_48 rfl ?_
          refine R_icmp_ne (pc := 50) (t := 259) dX12_readText_50 (by decide) (fun hz9 => absurd (show S 12 = _ from hS) hz9) (fun _ => ?_)
          refine R_aload_n (pc := 53) dX12_readText_53 rfl ?_
          refine M_g (pc := 54) dX12_readText_54 rfl rfl ?_
          refine R_iload_n (pc := 57) dX12_readText_57 rfl ?_
          refine M_ald (pc := 58) dX12_readText_58 rfl (by simp only [mol4]; omega) ?_
          rw [hx]
          refine R_istore (pc := 59) dX12_readText_59 (Nat.le_of_ble_eq_true rfl) rfl ?_
          refine R_iload_n (pc := 61) dX12_readText_61 rfl ?_
          refine R_ldc (pc := 62) (x := (-1000009)) dX12_readText_62 rfl ?_
          refine R_icmp_ne (pc := 64) (t := 159) dX12_readText_64 (by decide) (fun _ => ?_) (fun hz9 => absurd hz9 (n5 f hf))
          refine R_iload (pc := 159) dX12_readText_159 rfl ?_
          refine R_bipush (pc := 161) (x := nI 48) dX12_readText_161 (by decide) ?_
          refine R_bipush (pc := 163) (x := nI 57) dX12_readText_163 (by decide) ?_
          refine R_callS (pc := 165) dX12_readText_165 rfl (Or.inl rfl) rfl rfl ?_
          refine s12_isIn (fun q1 q2 => ?_) (fun q => absurd hdg q)
          · refine R_if_eq (pc := 168) (t := 225) dX12_readText_168 (by decide) (fun hz9 => absurd hz9 (by decide)) (fun _ => ?_)
            refine R_aload_n (pc := 171) dX12_readText_171 rfl ?_
            refine M_g (pc := 172) dX12_readText_172 rfl rfl ?_
            refine R_iload_n (pc := 175) dX12_readText_175 rfl ?_
            refine M_ald (pc := 176) dX12_readText_176 rfl (by simp only [mol7]; omega) ?_
            refine R_aload_n (pc := 177) dX12_readText_177 rfl ?_
            refine R_iload_n (pc := 178) dX12_readText_178 rfl ?_
            refine R_callV (pc := 179) dX12_readText_179 rfl putM_o rfl rfl ?_
            refine s12_width (by omega) ?_
            refine R_icmp_ne (pc := 182) (t := 191) dX12_readText_182 (by decide) (fun hz9 => absurd (by rw [e7, l2, hfull]) hz9) (fun _ => ?_)
            refine R_aload_n (pc := 185) dX12_readText_185 rfl ?_
            refine R_iconst (pc := 186) (x := nI 3) dX12_readText_186 rfl ?_
            refine R_iload_n (pc := 187) dX12_readText_187 rfl ?_
            refine R_callV (pc := 188) dX12_readText_188 rfl putM_o rfl rfl ?_
            refine s12_fails ?_
            refine R_aload_n (pc := 191) dX12_readText_191 rfl ?_
            refine M_g (pc := 192) dX12_readText_192 rfl rfl ?_
            refine R_iload_n (pc := 195) dX12_readText_195 rfl ?_
            refine R_bipush (pc := 196) (x := nI 10) dX12_readText_196 (by decide) ?_
            refine R_aload_n (pc := 198) dX12_readText_198 rfl ?_
            refine M_g (pc := 199) dX12_readText_199 rfl rfl ?_
            refine R_iload_n (pc := 202) dX12_readText_202 rfl ?_
            refine M_ald (pc := 203) dX12_readText_203 rfl (by simp only [mol6]; omega) ?_
            refine R_imul (pc := 204) dX12_readText_204 ?_
            refine R_iload (pc := 205) dX12_readText_205 rfl ?_
            refine R_iadd (pc := 207) dX12_readText_207 ?_
            refine R_bipush (pc := 208) (x := nI 48) dX12_readText_208 (by decide) ?_
            refine R_isub (pc := 210) dX12_readText_210 ?_
            refine M_ast (pc := 211) dX12_readText_211 rfl (by simp only [mol6]; omega) ?_
            refine R_aload_n (pc := 212) dX12_readText_212 rfl ?_
            refine M_g (pc := 213) dX12_readText_213 rfl rfl ?_
            refine R_iload_n (pc := 216) dX12_readText_216 rfl ?_
            refine R_dup2 (pc := 217) dX12_readText_217 rfl rfl ?_
            refine M_ald (pc := 218) dX12_readText_218 rfl (by simp only [mol7]; omega) ?_
            refine R_iconst (pc := 219) (x := nI 1) dX12_readText_219 rfl ?_
            refine R_iadd (pc := 220) dX12_readText_220 ?_
            refine M_ast (pc := 221) dX12_readText_221 rfl (by simp only [mol7]; omega) ?_
            refine R_goto (pc := 222) (t := 253) dX12_readText_222 (by decide) ?_
            exact err 3 (by omega) (by omega) (by rw [eS]) _ _ _ _ (fun q h6 h7 => by unfold va_up; rw [if_neg h7, if_neg h6])
        · have eS : scS Wd x k s = (0, (f, updN s.2.1 f (s.2.1 f + 1), updN s.2.2.1 f (10 * s.2.2.1 f + d), s.2.2.2)) := by unfold scS; rw [if_neg h5, if_pos hdg, ef, if_neg hfull, hd3]
          have hne : ¬ A 7 f = A 1 (0 + 2 * f + 1) := by rw [e7, l2]; exact fun q => hfull ((nI_eq (by omega) (by omega)).mp q)
          refine R_iload_n (pc := 36) dX12_readText_36 rfl ?_
          refine R_aload_n (pc := 37) dX12_readText_37 rfl ?_
          refine M_g (pc := 38) dX12_readText_38 rfl rfl ?_
          refine R_icmp_ge (pc := 41) (t := 259) dX12_readText_41 (by decide) (fun hz9 => absurd hz9 (by rw [hl]; exact nI_ge (by omega) (by omega))) (fun _ => ?_)
          refine R_aload_n (pc := 44) dX12_readText_44 rfl ?_
          refine M_g (pc := 45) dX12_readText_45 rfl rfl ?_
          refine R_ldc (pc := 48) (x := (-1000009)) dX12_readText_48 rfl ?_
          refine R_icmp_ne (pc := 50) (t := 259) dX12_readText_50 (by decide) (fun hz9 => absurd (show S 12 = _ from hS) hz9) (fun _ => ?_)
          refine R_aload_n (pc := 53) dX12_readText_53 rfl ?_
          refine M_g (pc := 54) dX12_readText_54 rfl rfl ?_
          refine R_iload_n (pc := 57) dX12_readText_57 rfl ?_
          refine M_ald (pc := 58) dX12_readText_58 rfl (by simp only [mol4]; omega) ?_
          rw [hx]
          refine R_istore (pc := 59) dX12_readText_59 (Nat.le_of_ble_eq_true rfl) rfl ?_
          refine R_iload_n (pc := 61) dX12_readText_61 rfl ?_
          refine R_ldc (pc := 62) (x := (-1000009)) dX12_readText_62 rfl ?_
          refine R_icmp_ne (pc := 64) (t := 159) dX12_readText_64 (by decide) (fun _ => ?_) (fun hz9 => absurd hz9 (n5 f hf))
          refine R_iload (pc := 159) dX12_readText_159 rfl ?_
          refine R_bipush (pc := 161) (x := nI 48) dX12_readText_161 (by decide) ?_
          refine R_bipush (pc := 163) (x := nI 57) dX12_readText_163 (by decide) ?_
          refine R_callS (pc := 165) dX12_readText_165 rfl (Or.inl rfl) rfl rfl ?_
          refine s12_isIn (fun q1 q2 => ?_) (fun q => absurd hdg q)
          · refine R_if_eq (pc := 168) (t := 225) dX12_readText_168 (by decide) (fun hz9 => absurd hz9 (by decide)) (fun _ => ?_)
            refine R_aload_n (pc := 171) dX12_readText_171 rfl ?_
            refine M_g (pc := 172) dX12_readText_172 rfl rfl ?_
            refine R_iload_n (pc := 175) dX12_readText_175 rfl ?_
            refine M_ald (pc := 176) dX12_readText_176 rfl (by simp only [mol7]; omega) ?_
            refine R_aload_n (pc := 177) dX12_readText_177 rfl ?_
            refine R_iload_n (pc := 178) dX12_readText_178 rfl ?_
            refine R_callV (pc := 179) dX12_readText_179 rfl putM_o rfl rfl ?_
            refine s12_width (by omega) ?_
            refine R_icmp_ne (pc := 182) (t := 191) dX12_readText_182 (by decide) (fun _ => ?_) (fun hz9 => absurd hz9 hne)
            refine R_aload_n (pc := 191) dX12_readText_191 rfl ?_
            refine M_g (pc := 192) dX12_readText_192 rfl rfl ?_
            refine R_iload_n (pc := 195) dX12_readText_195 rfl ?_
            refine R_bipush (pc := 196) (x := nI 10) dX12_readText_196 (by decide) ?_
            refine R_aload_n (pc := 198) dX12_readText_198 rfl ?_
            refine M_g (pc := 199) dX12_readText_199 rfl rfl ?_
            refine R_iload_n (pc := 202) dX12_readText_202 rfl ?_
            refine M_ald (pc := 203) dX12_readText_203 rfl (by simp only [mol6]; omega) ?_
            refine R_imul (pc := 204) dX12_readText_204 ?_
            refine R_iload (pc := 205) dX12_readText_205 rfl ?_
            refine R_iadd (pc := 207) dX12_readText_207 ?_
            refine R_bipush (pc := 208) (x := nI 48) dX12_readText_208 (by decide) ?_
            refine R_isub (pc := 210) dX12_readText_210 ?_
            refine M_ast (pc := 211) dX12_readText_211 rfl (by simp only [mol6]; omega) ?_
            refine R_aload_n (pc := 212) dX12_readText_212 rfl ?_
            refine M_g (pc := 213) dX12_readText_213 rfl rfl ?_
            refine R_iload_n (pc := 216) dX12_readText_216 rfl ?_
            refine R_dup2 (pc := 217) dX12_readText_217 rfl rfl ?_
            refine M_ald (pc := 218) dX12_readText_218 rfl (by simp only [mol7]; omega) ?_
            refine R_iconst (pc := 219) (x := nI 1) dX12_readText_219 rfl ?_
            refine R_iadd (pc := 220) dX12_readText_220 ?_
            refine M_ast (pc := 221) dX12_readText_221 rfl (by simp only [mol7]; omega) ?_
            refine R_goto (pc := 222) (t := 253) dX12_readText_222 (by decide) ?_
            refine R_iinc (pc := 253) dX12_readText_253 rfl (by first | exact nI_inc _ | rfl) rfl ?_
            refine R_goto (pc := 256) (t := 36) dX12_readText_256 (by decide) ?_
            have q := ind (f, updN s.2.1 f (s.2.1 f + 1), updN s.2.2.1 f (10 * s.2.2.1 f + d), s.2.2.2) (va_up (va_up A 6 (upd (A 6) f (nI 10 * A 6 f + x - nI 48))) 7 (upd (A 7) f (A 7 f + nI 1))) wd (some (.int x)) eS (fun q h6 h7 => by unfold va_up; rw [if_neg h7, if_neg h6]) ⟨fun j hj => ?_, fun j hj hj2 => ?_, by omega, ?_⟩
            · rw [show fdI (f, updN s.2.1 f (s.2.1 f + 1), updN s.2.2.1 f (10 * s.2.2.1 f + d), s.2.2.2).1 = nI f by show fdI f = _; unfold fdI; rw [if_neg (by omega)]] at q
              exact q
            · show upd (A 6) f (nI 10 * A 6 f + x - nI 48) j = if updN s.2.1 f (s.2.1 f + 1) j = 0 ∧ ¬ f = j then _ else nI (updN s.2.2.1 f (10 * s.2.2.1 f + d) j)
              unfold updN
              by_cases e : j = f
              · subst e
                rw [upd_s, if_neg (by omega), if_pos rfl, e6, hd2, pk_mul, nI_add, pk_sub (by omega)]
                congr 1
                omega
              · rw [upd_n e, i1 j hj, if_neg e, if_neg e]
                by_cases q : s.2.1 j = 0
                · rw [if_pos ⟨q, by omega⟩, if_pos ⟨q, by omega⟩]
                · rw [if_neg (fun t => q t.1), if_neg (fun t => q t.1)]
            · show upd (A 7) f (A 7 f + nI 1) j = nI (updN s.2.1 f (s.2.1 f + 1) j)
              unfold updN
              by_cases e : j = f
              · subst e
                rw [upd_s, e7, nI_add, if_pos rfl]
              · rw [upd_n e, if_neg e]
                refine i2 j hj (Or.inl ?_)
                rcases hj2 with q | q
                · intro t; exact q (by show updN s.2.1 f (s.2.1 f + 1) j = 0; unfold updN; rw [if_neg e]; exact t)
                · exact absurd q (by show ¬ f = j; omega)
            · constructor
              · intro q; exact absurd (i4.mp q).1 h5
              · intro q; exact absurd q.1 (by show ¬ f = 5; omega)
      · by_cases hsp : x = nI 32 ∧ 0 < s.2.1 f
        · have eS : scS Wd x k s = (0, (5, s.2)) := by unfold scS; rw [if_neg h5, if_neg hdg, ef, if_pos hsp]
          refine R_iload_n (pc := 36) dX12_readText_36 rfl ?_
          refine R_aload_n (pc := 37) dX12_readText_37 rfl ?_
          refine M_g (pc := 38) dX12_readText_38 rfl rfl ?_
          refine R_icmp_ge (pc := 41) (t := 259) dX12_readText_41 (by decide) (fun hz9 => absurd hz9 (by rw [hl]; exact nI_ge (by omega) (by omega))) (fun _ => ?_)
          refine R_aload_n (pc := 44) dX12_readText_44 rfl ?_
          refine M_g (pc := 45) dX12_readText_45 rfl rfl ?_
          refine R_ldc (pc := 48) (x := (-1000009)) dX12_readText_48 rfl ?_
          refine R_icmp_ne (pc := 50) (t := 259) dX12_readText_50 (by decide) (fun hz9 => absurd (show S 12 = _ from hS) hz9) (fun _ => ?_)
          refine R_aload_n (pc := 53) dX12_readText_53 rfl ?_
          refine M_g (pc := 54) dX12_readText_54 rfl rfl ?_
          refine R_iload_n (pc := 57) dX12_readText_57 rfl ?_
          refine M_ald (pc := 58) dX12_readText_58 rfl (by simp only [mol4]; omega) ?_
          rw [hx]
          refine R_istore (pc := 59) dX12_readText_59 (Nat.le_of_ble_eq_true rfl) rfl ?_
          refine R_iload_n (pc := 61) dX12_readText_61 rfl ?_
          refine R_ldc (pc := 62) (x := (-1000009)) dX12_readText_62 rfl ?_
          refine R_icmp_ne (pc := 64) (t := 159) dX12_readText_64 (by decide) (fun _ => ?_) (fun hz9 => absurd hz9 (n5 f hf))
          refine R_iload (pc := 159) dX12_readText_159 rfl ?_
          refine R_bipush (pc := 161) (x := nI 48) dX12_readText_161 (by decide) ?_
          refine R_bipush (pc := 163) (x := nI 57) dX12_readText_163 (by decide) ?_
          refine R_callS (pc := 165) dX12_readText_165 rfl (Or.inl rfl) rfl rfl ?_
          refine s12_isIn (fun q1 q2 => absurd ⟨q1, q2⟩ hdg) (fun q => ?_)
          · refine R_if_eq (pc := 168) (t := 225) dX12_readText_168 (by decide) (fun _ => ?_) (fun hz9 => absurd hz9 (by decide))
            refine R_iload (pc := 225) dX12_readText_225 rfl ?_
            refine R_bipush (pc := 227) (x := nI 32) dX12_readText_227 (by decide) ?_
            refine R_icmp_ne (pc := 229) (t := 247) dX12_readText_229 (by decide) (fun hz9 => absurd hsp.1 hz9) (fun _ => ?_)
            refine R_aload_n (pc := 232) dX12_readText_232 rfl ?_
            refine M_g (pc := 233) dX12_readText_233 rfl rfl ?_
            refine R_iload_n (pc := 236) dX12_readText_236 rfl ?_
            refine M_ald (pc := 237) dX12_readText_237 rfl (by simp only [mol7]; omega) ?_
            refine R_if_le (pc := 238) (t := 247) dX12_readText_238 (by decide) (fun hz9 => absurd hz9 (by rw [e7]; exact nI_nle hsp.2 (by omega))) (fun _ => ?_)
            refine R_ldc (pc := 241) (x := (-1000009)) dX12_readText_241 rfl ?_
            refine R_istore_n (pc := 243) dX12_readText_243 (Nat.le_of_ble_eq_true rfl) rfl ?_
            refine R_goto (pc := 244) (t := 253) dX12_readText_244 (by decide) ?_
            refine R_iinc (pc := 253) dX12_readText_253 rfl (by first | exact nI_inc _ | rfl) rfl ?_
            refine R_goto (pc := 256) (t := 36) dX12_readText_256 (by decide) ?_
            refine ind (5, s.2) A wd (some (.int x)) eS (fun _ _ _ => rfl) ⟨fun j hj => ?_, fun j hj hj2 => ?_, by omega, ?_⟩
            · show A 6 j = if s.2.1 j = 0 ∧ ¬ 5 = j then _ else nI (s.2.2.1 j)
              rw [i1 j hj]
              by_cases q : s.2.1 j = 0
              · rw [if_pos ⟨q, fun t => by have h2 := hsp.2; rw [show j = f from t.symm.trans ef] at q; omega⟩, if_pos ⟨q, by omega⟩]
              · rw [if_neg (fun t => q t.1), if_neg (fun t => q t.1)]
            · rcases hj2 with q | q
              · exact i2 j hj (Or.inl q)
              · exact absurd q (by show ¬ 5 = j; omega)
            · constructor
              · intro q; exact absurd (i4.mp q).1 h5
              · intro q; exfalso; have h3 : s.2.1 f = 0 := sum5_0.mp q.2 f hf; have h2 := hsp.2; omega
        · have eS : scS Wd x k s = (1, s) := by unfold scS; rw [if_neg h5, if_neg hdg, ef, if_neg hsp]
          by_cases x32 : x = nI 32
          · have hz : s.2.1 f = 0 := by
              by_cases q : s.2.1 f = 0
              · exact q
              · exact absurd ⟨x32, by omega⟩ hsp
            refine R_iload_n (pc := 36) dX12_readText_36 rfl ?_
            refine R_aload_n (pc := 37) dX12_readText_37 rfl ?_
            refine M_g (pc := 38) dX12_readText_38 rfl rfl ?_
            refine R_icmp_ge (pc := 41) (t := 259) dX12_readText_41 (by decide) (fun hz9 => absurd hz9 (by rw [hl]; exact nI_ge (by omega) (by omega))) (fun _ => ?_)
            refine R_aload_n (pc := 44) dX12_readText_44 rfl ?_
            refine M_g (pc := 45) dX12_readText_45 rfl rfl ?_
            refine R_ldc (pc := 48) (x := (-1000009)) dX12_readText_48 rfl ?_
            refine R_icmp_ne (pc := 50) (t := 259) dX12_readText_50 (by decide) (fun hz9 => absurd (show S 12 = _ from hS) hz9) (fun _ => ?_)
            refine R_aload_n (pc := 53) dX12_readText_53 rfl ?_
            refine M_g (pc := 54) dX12_readText_54 rfl rfl ?_
            refine R_iload_n (pc := 57) dX12_readText_57 rfl ?_
            refine M_ald (pc := 58) dX12_readText_58 rfl (by simp only [mol4]; omega) ?_
            rw [hx]
            refine R_istore (pc := 59) dX12_readText_59 (Nat.le_of_ble_eq_true rfl) rfl ?_
            refine R_iload_n (pc := 61) dX12_readText_61 rfl ?_
            refine R_ldc (pc := 62) (x := (-1000009)) dX12_readText_62 rfl ?_
            refine R_icmp_ne (pc := 64) (t := 159) dX12_readText_64 (by decide) (fun _ => ?_) (fun hz9 => absurd hz9 (n5 f hf))
            refine R_iload (pc := 159) dX12_readText_159 rfl ?_
            refine R_bipush (pc := 161) (x := nI 48) dX12_readText_161 (by decide) ?_
            refine R_bipush (pc := 163) (x := nI 57) dX12_readText_163 (by decide) ?_
            refine R_callS (pc := 165) dX12_readText_165 rfl (Or.inl rfl) rfl rfl ?_
            refine s12_isIn (fun q1 q2 => absurd ⟨q1, q2⟩ hdg) (fun q => ?_)
            · refine R_if_eq (pc := 168) (t := 225) dX12_readText_168 (by decide) (fun _ => ?_) (fun hz9 => absurd hz9 (by decide))
              refine R_iload (pc := 225) dX12_readText_225 rfl ?_
              refine R_bipush (pc := 227) (x := nI 32) dX12_readText_227 (by decide) ?_
              refine R_icmp_ne (pc := 229) (t := 247) dX12_readText_229 (by decide) (fun hz9 => absurd x32 hz9) (fun _ => ?_)
              refine R_aload_n (pc := 232) dX12_readText_232 rfl ?_
              refine M_g (pc := 233) dX12_readText_233 rfl rfl ?_
              refine R_iload_n (pc := 236) dX12_readText_236 rfl ?_
              refine M_ald (pc := 237) dX12_readText_237 rfl (by simp only [mol7]; omega) ?_
              refine R_if_le (pc := 238) (t := 247) dX12_readText_238 (by decide) (fun _ => ?_) (fun hz9 => absurd (by rw [e7, hz]; decide) hz9)
              refine R_aload_n (pc := 247) dX12_readText_247 rfl ?_
              refine R_iconst (pc := 248) (x := nI 1) dX12_readText_248 rfl ?_
              refine R_iload_n (pc := 249) dX12_readText_249 rfl ?_
              refine R_callV (pc := 250) dX12_readText_250 rfl putM_o rfl rfl ?_
              refine s12_fails ?_
              exact err 1 (by omega) (by omega) (by rw [eS]) _ _ _ _ (fun _ _ _ => rfl)
          · skip
            refine R_iload_n (pc := 36) dX12_readText_36 rfl ?_
            refine R_aload_n (pc := 37) dX12_readText_37 rfl ?_
            refine M_g (pc := 38) dX12_readText_38 rfl rfl ?_
            refine R_icmp_ge (pc := 41) (t := 259) dX12_readText_41 (by decide) (fun hz9 => absurd hz9 (by rw [hl]; exact nI_ge (by omega) (by omega))) (fun _ => ?_)
            refine R_aload_n (pc := 44) dX12_readText_44 rfl ?_
            refine M_g (pc := 45) dX12_readText_45 rfl rfl ?_
            refine R_ldc (pc := 48) (x := (-1000009)) dX12_readText_48 rfl ?_
            refine R_icmp_ne (pc := 50) (t := 259) dX12_readText_50 (by decide) (fun hz9 => absurd (show S 12 = _ from hS) hz9) (fun _ => ?_)
            refine R_aload_n (pc := 53) dX12_readText_53 rfl ?_
            refine M_g (pc := 54) dX12_readText_54 rfl rfl ?_
            refine R_iload_n (pc := 57) dX12_readText_57 rfl ?_
            refine M_ald (pc := 58) dX12_readText_58 rfl (by simp only [mol4]; omega) ?_
            rw [hx]
            refine R_istore (pc := 59) dX12_readText_59 (Nat.le_of_ble_eq_true rfl) rfl ?_
            refine R_iload_n (pc := 61) dX12_readText_61 rfl ?_
            refine R_ldc (pc := 62) (x := (-1000009)) dX12_readText_62 rfl ?_
            refine R_icmp_ne (pc := 64) (t := 159) dX12_readText_64 (by decide) (fun _ => ?_) (fun hz9 => absurd hz9 (n5 f hf))
            refine R_iload (pc := 159) dX12_readText_159 rfl ?_
            refine R_bipush (pc := 161) (x := nI 48) dX12_readText_161 (by decide) ?_
            refine R_bipush (pc := 163) (x := nI 57) dX12_readText_163 (by decide) ?_
            refine R_callS (pc := 165) dX12_readText_165 rfl (Or.inl rfl) rfl rfl ?_
            refine s12_isIn (fun q1 q2 => absurd ⟨q1, q2⟩ hdg) (fun q => ?_)
            · refine R_if_eq (pc := 168) (t := 225) dX12_readText_168 (by decide) (fun _ => ?_) (fun hz9 => absurd hz9 (by decide))
              refine R_iload (pc := 225) dX12_readText_225 rfl ?_
              refine R_bipush (pc := 227) (x := nI 32) dX12_readText_227 (by decide) ?_
              refine R_icmp_ne (pc := 229) (t := 247) dX12_readText_229 (by decide) (fun _ => ?_) (fun hz9 => absurd hz9 x32)
              refine R_aload_n (pc := 247) dX12_readText_247 rfl ?_
              refine R_iconst (pc := 248) (x := nI 1) dX12_readText_248 rfl ?_
              refine R_iload_n (pc := 249) dX12_readText_249 rfl ?_
              refine R_callV (pc := 250) dX12_readText_250 rfl putM_o rfl rfl ?_
              refine s12_fails ?_
              exact err 1 (by omega) (by omega) (by rw [eS]) _ _ _ _ (fun _ _ _ => rfl)
theorem l12_rt0   : ∀ (n k : Nat) (A : Nat → Nat → Int32) (_ : k + n = 5) (_ : ∀ j, j < k → A 6 j = (-1000009)) (_ : ∀ A2 : Nat → Nat → Int32, (∀ q, q ≠ 6 → A2 q = A q) → (∀ j, j < 5 → A2 6 j = (-1000009)) → Rn sA mX12_readText 29 [some (.ref M), some (.int (nI 5)), none, none, none] [] (putM h M A2 S, z) Q), Rn sA mX12_readText 10 [some (.ref M), some (.int (nI k)), none, none, none] [] (putM h M A S, z) Q
  | 0, k, A, hk, hj, hX => by
    obtain rfl : k = 5 := by omega
    refine R_iload_n (pc := 10) dX12_readText_10 rfl ?_
    refine R_iconst (pc := 11) (x := nI 5) dX12_readText_11 rfl ?_
    refine R_icmp_ge (pc := 12) (t := 29) dX12_readText_12 (by decide) (fun _ => ?_) (fun hz9 => absurd (nI_le (by omega) (by omega)) hz9)
    exact hX A (fun _ _ => rfl) hj
  | n + 1, k, A, hk, hj, hX => by
    refine R_iload_n (pc := 10) dX12_readText_10 rfl ?_
    refine R_iconst (pc := 11) (x := nI 5) dX12_readText_11 rfl ?_
    refine R_icmp_ge (pc := 12) (t := 29) dX12_readText_12 (by decide) (fun hz9 => absurd hz9 (nI_ge (by omega) (by omega))) (fun _ => ?_)
    refine R_aload_n (pc := 15) dX12_readText_15 rfl ?_
    refine M_g (pc := 16) dX12_readText_16 rfl rfl ?_
    refine R_iload_n (pc := 19) dX12_readText_19 rfl ?_
    refine R_ldc (pc := 20) (x := (-1000009)) dX12_readText_20 rfl ?_
    refine M_ast (pc := 22) dX12_readText_22 rfl (by simp only [mol6]; omega) ?_
    refine R_iinc (pc := 23) dX12_readText_23 rfl (by first | exact nI_inc _ | rfl) rfl ?_
    refine R_goto (pc := 26) (t := 10) dX12_readText_26 (by decide) ?_
    exact l12_rt0 n (k + 1) _ (by omega) (fun j hj2 => by show upd (A 6) k (-1000009) j = _; by_cases e : j = k; exact (by subst e; exact upd_s); exact (by rw [upd_n e]; exact hj j (by omega))) (fun A2 a b => hX A2 (fun q hq => (a q hq).trans (by unfold va_up; rw [if_neg hq])) b)
theorem s12_readText {P Wd : Nat → Nat} {l : Nat} (hL : LayW (A 1) P Wd) (hV : LayV Wd) (hl : S 6 = nI l) (hl5 : l ≤ 50) (hE : ∀ (A2 : Nat → Nat → Int32) (kd : Nat), (∀ q, q ≠ 6 → q ≠ 7 → A2 q = A q) → (scL Wd (A 4) l 0 sc0).1 = kd → ¬ kd = 0 → Q none (putM h M A2 (va_up (va_up S 12 (nI kd)) 13 (nI (scL Wd (A 4) l 0 sc0).2.1)), z)) (hG : ∀ A2 : Nat → Nat → Int32, (∀ q, q ≠ 6 → q ≠ 7 → A2 q = A q) → (scL Wd (A 4) l 0 sc0).1 = 0 → (∀ f, f < 5 → A2 6 f = if (scL Wd (A 4) l 0 sc0).2.2.2.1 f = 0 then (-1000009) else nI ((scL Wd (A 4) l 0 sc0).2.2.2.2.1 f)) → Q none (putM h M A2 (va_up (va_up S 12 (-1000009)) 13 (-1000009)), z)) : Rn sA mX12_readText 0 [some (.ref M), none, none, none, none] [] (putM h M A S, z) Q := by
  refine R_aload_n (pc := 0) dX12_readText_0 rfl ?_
  refine R_ldc (pc := 1) (x := (-1000009)) dX12_readText_1 rfl ?_
  refine R_ldc (pc := 3) (x := (-1000009)) dX12_readText_3 rfl ?_
  refine R_callV (pc := 5) dX12_readText_5 rfl putM_o rfl rfl ?_
  refine s12_fails ?_
  refine R_iconst (pc := 8) (x := nI 0) dX12_readText_8 rfl ?_
  refine R_istore_n (pc := 9) dX12_readText_9 (Nat.le_of_ble_eq_true rfl) rfl ?_
  refine l12_rt0 5 0 A (by omega) (fun j hj => absurd hj (Nat.not_lt_zero _)) (fun A3 r1 r2 => ?_)
  refine R_ldc (pc := 29) (x := (-1000009)) dX12_readText_29 rfl ?_
  refine R_istore_n (pc := 31) dX12_readText_31 (Nat.le_of_ble_eq_true rfl) rfl ?_
  refine R_iconst (pc := 32) (x := nI 0) dX12_readText_32 rfl ?_
  refine R_istore_n (pc := 33) dX12_readText_33 (Nat.le_of_ble_eq_true rfl) rfl ?_
  refine R_iconst (pc := 34) (x := nI 0) dX12_readText_34 rfl ?_
  refine R_istore_n (pc := 35) dX12_readText_35 (Nat.le_of_ble_eq_true rfl) rfl ?_
  refine l12_rt (S := va_up (va_up S 12 (-1000009)) 13 (-1000009)) hV rfl hl hl5 l 0 sc0 A3 0 none (by omega) sc0_ok ⟨fun f hf => (r2 f hf).trans (by rw [if_pos ⟨rfl, by show ¬ 5 = f; omega⟩]), fun f hf q => absurd q (by show ¬ (¬ 0 = 0 ∨ 5 = f); omega), Nat.le_refl 0, ⟨fun _ => ⟨rfl, rfl⟩, fun _ => rfl⟩⟩ (by rw [r1 1 (by omega)]; exact hL) (r1 4 (by omega)) (fun A2 kd q1 q2 q3 => ?_) (fun A2 q1 q2 q3 => hG A2 (fun q a b => (q1 q a b).trans (r1 q a)) q2 q3)
  have e := hE A2 kd (fun q a b => (q1 q a b).trans (r1 q a)) q2 q3
  have eS : va_up (va_up (va_up (va_up S 12 (-1000009)) 13 (-1000009)) 12 (nI kd)) 13 (nI (scL Wd (A 4) l 0 sc0).2.1) = va_up (va_up S 12 (nI kd)) 13 (nI (scL Wd (A 4) l 0 sc0).2.1) := by
    funext x
    unfold va_up
    by_cases x1 : x = 13
    · rw [if_pos x1, if_pos x1]
    · rw [if_neg x1, if_neg x1]
      by_cases x2 : x = 12
      · rw [if_pos x2, if_neg x1, if_pos x2]
      · rw [if_neg x2, if_neg x2, if_neg x1, if_neg x2]
  rw [eS]
  exact e
end MOD10
