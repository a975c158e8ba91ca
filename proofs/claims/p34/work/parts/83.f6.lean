/-- a datum of a format that is no NaN -/
def OkF (f : Jvm.FP.Core.Fmt) (d : Jvm.FP.Core.Datum) : Prop := (∃ s, d = .inf s) ∨ ∃ s c q, d = .fin s c q ∧ c < 2 ^ f.p ∧ q ≤ f.qmax
theorem ok_bound {f : Jvm.FP.Core.Fmt} {s : Bool} {c : Nat} {q : Int} (h : c < 2 ^ f.p) : OkF f (Jvm.FP.Core.bound f s c q) := by
  unfold Jvm.FP.Core.bound
  split
  · rename_i hq; exact Or.inr ⟨s, c, q, rfl, h, hq⟩
  · exact Or.inl ⟨s, rfl⟩
theorem ok_settle {f : Jvm.FP.Core.Fmt} {s : Bool} {c : Nat} {q : Int} (hf : f.tails < 2 ^ f.p) : OkF f (Jvm.FP.Core.settle f s c q) := by
  unfold Jvm.FP.Core.settle
  split
  · rename_i h; exact ok_bound h
  · exact ok_bound hf
theorem ok_ratio {f : Jvm.FP.Core.Fmt} {s : Bool} {n d : Nat} {e : Int} (hf : f.tails < 2 ^ f.p) (hq : f.qmin ≤ f.qmax) (hp : 0 < 2 ^ f.p) : OkF f (Jvm.FP.Core.roundRatio f s n d e) := by
  unfold Jvm.FP.Core.roundRatio
  split
  · exact Or.inr ⟨s, 0, _, rfl, hp, hq⟩
  · exact ok_settle hf
theorem enc32 {d : Jvm.FP.Core.Datum} (h : OkF Jvm.FP.Core.b32 d) : Jvm.FP.Core.encode Jvm.FP.Core.b32 d < 2 ^ 32 ∧ Jvm.FP.Core.encode Jvm.FP.Core.b32 d % 2 ^ 31 ≤ 0x7f800000 := by
  rcases h with ⟨s, rfl⟩ | ⟨s, c, q, rfl, hc, hq⟩
  · cases s <;> decide
  · have t : Jvm.FP.Core.b32.tails = 8388608 := by decide
    have e : Jvm.FP.Core.b32.exps = 256 := by decide
    have m : Jvm.FP.Core.b32.qmin = -149 := by decide
    have x : Jvm.FP.Core.b32.qmax = 104 := by decide
    have p2 : 2 ^ Jvm.FP.Core.b32.p = 16777216 := by decide
    rw [p2] at hc
    rw [x] at hq
    unfold Jvm.FP.Core.encode Jvm.FP.Core.assemble
    dsimp only
    rw [t, e, m]
    cases s
    · show _ ∧ _
      simp only [Bool.toNat_false]
      split <;> omega
    · show _ ∧ _
      simp only [Bool.toNat_true]
      split <;> omega
theorem enc64 {d : Jvm.FP.Core.Datum} (h : OkF Jvm.FP.Core.b64 d) : Jvm.FP.Core.encode Jvm.FP.Core.b64 d < 2 ^ 64 ∧ Jvm.FP.Core.encode Jvm.FP.Core.b64 d % 2 ^ 63 ≤ 0x7ff0000000000000 := by
  rcases h with ⟨s, rfl⟩ | ⟨s, c, q, rfl, hc, hq⟩
  · cases s <;> decide
  · have t : Jvm.FP.Core.b64.tails = 4503599627370496 := by decide
    have e : Jvm.FP.Core.b64.exps = 2048 := by decide
    have m : Jvm.FP.Core.b64.qmin = -1074 := by decide
    have x : Jvm.FP.Core.b64.qmax = 971 := by decide
    have p2 : 2 ^ Jvm.FP.Core.b64.p = 9007199254740992 := by decide
    rw [p2] at hc
    rw [x] at hq
    unfold Jvm.FP.Core.encode Jvm.FP.Core.assemble
    dsimp only
    rw [t, e, m]
    cases s
    · show _ ∧ _
      simp only [Bool.toNat_false]
      split <;> omega
    · show _ ∧ _
      simp only [Bool.toNat_true]
      split <;> omega
theorem n32_of {n : Nat} (h : n < 2 ^ 32) (h2 : n % 2 ^ 31 ≤ 0x7f800000) : vf_n32 (UInt32.ofNat n) := by
  unfold vf_n32
  rw [UInt32.le_iff_toNat_le, UInt32.toNat_and, UInt32.toNat_ofNat_of_lt' h]
  show n &&& 0x7fffffff ≤ 0x7f800000
  rw [show (0x7fffffff : Nat) = 2 ^ 31 - 1 from rfl, Nat.and_two_pow_sub_one_eq_mod]
  exact h2
theorem of_n32 {v : UInt32} (h : vf_n32 v) : v.toNat % 2 ^ 31 ≤ 0x7f800000 := by
  unfold vf_n32 at h
  rw [UInt32.le_iff_toNat_le, UInt32.toNat_and] at h
  have h2 : v.toNat &&& 0x7fffffff ≤ 0x7f800000 := h
  rw [show (0x7fffffff : Nat) = 2 ^ 31 - 1 from rfl, Nat.and_two_pow_sub_one_eq_mod] at h2
  exact h2
theorem n64_of {n : Nat} (h : n < 2 ^ 64) (h2 : n % 2 ^ 63 ≤ 0x7ff0000000000000) : vf_n64 (UInt64.ofNat n) := by
  unfold vf_n64
  rw [UInt64.le_iff_toNat_le, UInt64.toNat_and, UInt64.toNat_ofNat_of_lt' h]
  show n &&& 0x7fffffffffffffff ≤ 0x7ff0000000000000
  rw [show (0x7fffffffffffffff : Nat) = 2 ^ 63 - 1 from rfl, Nat.and_two_pow_sub_one_eq_mod]
  exact h2
theorem dec32 {n : Nat} (h : n % 2 ^ 31 ≤ 0x7f800000) : ¬ Jvm.FP.Core.decode Jvm.FP.Core.b32 n = .nan := by
  have t : Jvm.FP.Core.b32.tails = 8388608 := by decide
  have e : Jvm.FP.Core.b32.exps = 256 := by decide
  unfold Jvm.FP.Core.decode Jvm.FP.Core.fieldE Jvm.FP.Core.fieldT
  rw [t, e]
  split
  · split
    · intro q; cases q
    · omega
  · split
    · intro q; cases q
    · intro q; cases q
theorem dec64 {n : Nat} (h : n % 2 ^ 63 ≤ 0x7ff0000000000000) : ¬ Jvm.FP.Core.decode Jvm.FP.Core.b64 n = .nan := by
  have t : Jvm.FP.Core.b64.tails = 4503599627370496 := by decide
  have e : Jvm.FP.Core.b64.exps = 2048 := by decide
  unfold Jvm.FP.Core.decode Jvm.FP.Core.fieldE Jvm.FP.Core.fieldT
  rw [t, e]
  split
  · split
    · intro q; cases q
    · omega
  · split
    · intro q; cases q
    · intro q; cases q
theorem order_self {d : Jvm.FP.Core.Datum} (h : ¬ d = .nan) : Jvm.FP.Core.order d d = some .eq := by
  cases d with
  | nan => exact absurd rfl h
  | inf s =>
    show some (compare (Jvm.FP.Core.signed s 1) (Jvm.FP.Core.signed s 1)) = _
    cases s <;> decide
  | fin s c q =>
    show some (compare (Jvm.FP.Core.signed s (Jvm.FP.Core.inUnits c q (min q q))) (Jvm.FP.Core.signed s (Jvm.FP.Core.inUnits c q (min q q)))) = _
    generalize Jvm.FP.Core.signed s (Jvm.FP.Core.inUnits c q (min q q)) = v
    show some (compareOfLessAndEq v v) = _
    unfold compareOfLessAndEq
    rw [if_neg (by omega), if_pos rfl]
theorem ok_round {f : Jvm.FP.Core.Fmt} {d : Jvm.FP.Core.Datum} (hf : f.tails < 2 ^ f.p) (hq : f.qmin ≤ f.qmax) (hp : 0 < 2 ^ f.p) (h : ¬ d = .nan) : OkF f (Jvm.FP.Core.round f d) := by
  cases d with
  | nan => exact absurd rfl h
  | inf s => exact Or.inl ⟨s, rfl⟩
  | fin s c q => exact ok_ratio hf hq hp
theorem b32a : Jvm.FP.Core.b32.tails < 2 ^ Jvm.FP.Core.b32.p := by decide
theorem b32b : Jvm.FP.Core.b32.qmin ≤ Jvm.FP.Core.b32.qmax := by decide
theorem b32c : 0 < 2 ^ Jvm.FP.Core.b32.p := by decide
theorem b64a : Jvm.FP.Core.b64.tails < 2 ^ Jvm.FP.Core.b64.p := by decide
theorem b64b : Jvm.FP.Core.b64.qmin ≤ Jvm.FP.Core.b64.qmax := by decide
theorem b64c : 0 < 2 ^ Jvm.FP.Core.b64.p := by decide
theorem f2d_ok {v : UInt32} (h : vf_n32 v) : vf_n64 (FP.f2d v) ∧ FP.dcmp (FP.f2d v) (FP.f2d v) = some .eq := by
  have h1 := dec32 (of_n32 h)
  have h2 : Jvm.FP.Core.fIsNaN v = false := decide_eq_false h1
  have e : FP.f2d v = Jvm.FP.Core.f2d v := by unfold FP.f2d; rw [h2]; rfl
  rw [e]
  obtain ⟨k1, k2⟩ := enc64 (ok_round b64a b64b b64c h1)
  refine ⟨n64_of k1 k2, ?_⟩
  show Jvm.FP.Core.order (Jvm.FP.Core.decode Jvm.FP.Core.b64 (UInt64.ofNat (Jvm.FP.Core.encode Jvm.FP.Core.b64 (Jvm.FP.Core.round Jvm.FP.Core.b64 (Jvm.FP.Core.decode Jvm.FP.Core.b32 v.toNat)))).toNat) (Jvm.FP.Core.decode Jvm.FP.Core.b64 (UInt64.ofNat (Jvm.FP.Core.encode Jvm.FP.Core.b64 (Jvm.FP.Core.round Jvm.FP.Core.b64 (Jvm.FP.Core.decode Jvm.FP.Core.b32 v.toNat)))).toNat) = _
  rw [UInt64.toNat_ofNat_of_lt' k1]
  exact order_self (dec64 k2)
theorem l2f_nn (x : Int64) : ¬ Jvm.FP.Core.decode Jvm.FP.Core.b32 (FP.l2f x).toNat = .nan := by
  obtain ⟨k1, k2⟩ := enc32 (ok_round (d := Jvm.FP.Core.ofInt x.toInt) b32a b32b b32c (by intro q; cases q))
  show ¬ Jvm.FP.Core.decode Jvm.FP.Core.b32 (UInt32.ofNat (Jvm.FP.Core.encode Jvm.FP.Core.b32 (Jvm.FP.Core.round Jvm.FP.Core.b32 (Jvm.FP.Core.ofInt x.toInt)))).toNat = .nan
  rw [UInt32.toNat_ofNat_of_lt' k1]
  exact dec32 k2
theorem i2f_pos {t : Nat} (h1 : 0 < t) (h2 : t < 2 ^ 20) : ∃ s c q, Jvm.FP.Core.decode Jvm.FP.Core.b32 (FP.i2f (nI t)).toNat = .fin s c q ∧ ¬ c = 0 := by
  have hl1 : 2 ^ t.log2 ≤ t := Nat.log2_self_le (by omega)
  have hl2 : t < 2 ^ (t.log2 + 1) := Nat.lt_log2_self
  have hl3 : t.log2 < 20 := (Nat.log2_lt (by omega)).mpr h2
  generalize hL : t.log2 = L at hl1 hl2 hl3
  have lead : Jvm.FP.Core.leading t 1 = (L : Int) := by
    unfold Jvm.FP.Core.leading
    rw [hL, show Nat.log2 1 = 0 by decide]
    dsimp only
    rw [if_pos (by
      rw [show ((L : Int) - (0 : Nat)).toNat = L by omega, show (-((L : Int) - (0 : Nat))).toNat = 0 by omega]
      omega)]
    omega
  have p24 : (Jvm.FP.Core.b32.p : Int) = 24 := rfl
  have qm : Jvm.FP.Core.b32.qmin = -149 := by decide
  have qx : Jvm.FP.Core.b32.qmax = 104 := by decide
  have quan : Jvm.FP.Core.quantum Jvm.FP.Core.b32 t 1 0 = (L : Int) - 23 := by
    unfold Jvm.FP.Core.quantum
    rw [lead, p24, qm]
    omega
  have hmul : t * 2 ^ (23 - L) < 16777216 ∧ 8388608 ≤ t * 2 ^ (23 - L) := by
    have e1 : 2 ^ (L + 1) * 2 ^ (23 - L) = 2 ^ 24 := by rw [← Nat.pow_add]; congr 1; omega
    have e2 : 2 ^ L * 2 ^ (23 - L) = 2 ^ 23 := by rw [← Nat.pow_add]; congr 1; omega
    have p0 : 0 < 2 ^ (23 - L) := Nat.two_pow_pos _
    have a1 := Nat.mul_lt_mul_of_pos_right hl2 p0
    have a2 := Nat.mul_le_mul_right (2 ^ (23 - L)) hl1
    rw [e1] at a1
    rw [e2] at a2
    exact ⟨a1, a2⟩
  have rr : Jvm.FP.Core.round Jvm.FP.Core.b32 (Jvm.FP.Core.ofInt (t : Int)) = .fin false (t * 2 ^ (23 - L)) ((L : Int) - 23) := by
    have eo : Jvm.FP.Core.ofInt (t : Int) = .fin false t 0 := by
      unfold Jvm.FP.Core.ofInt
      rw [decide_eq_false (by omega), Int.natAbs_natCast]
    rw [eo]
    show Jvm.FP.Core.roundRatio Jvm.FP.Core.b32 false t 1 0 = _
    unfold Jvm.FP.Core.roundRatio
    rw [if_neg (by omega), quan]
    unfold Jvm.FP.Core.roundAt Jvm.FP.Core.unitsNum Jvm.FP.Core.unitsDen
    rw [show ((0 : Int) - ((L : Int) - 23)).toNat = 23 - L by omega, show ((L : Int) - 23 - 0).toNat = 0 by omega]
    have nr : Jvm.FP.Core.nearest (t * 2 ^ (23 - L)) (1 * 2 ^ 0) = t * 2 ^ (23 - L) := by
      unfold Jvm.FP.Core.nearest
      rw [Nat.pow_zero, Nat.mul_one, Nat.mod_one, if_pos (by omega), Nat.div_one]
    rw [nr]
    unfold Jvm.FP.Core.settle
    rw [show 2 ^ Jvm.FP.Core.b32.p = 16777216 by decide, if_pos hmul.1]
    unfold Jvm.FP.Core.bound
    rw [qx, if_pos (by omega)]
  have en : Jvm.FP.Core.encode Jvm.FP.Core.b32 (.fin false (t * 2 ^ (23 - L)) ((L : Int) - 23)) = (L + 127) * 8388608 + (t * 2 ^ (23 - L) - 8388608) := by
    unfold Jvm.FP.Core.encode Jvm.FP.Core.assemble
    dsimp only
    rw [show Jvm.FP.Core.b32.tails = 8388608 by decide, show Jvm.FP.Core.b32.exps = 256 by decide, qm, if_neg (by omega), show ((L : Int) - 23 - -149).toNat + 1 = L + 127 by omega]
    simp only [Bool.toNat_false]
    omega
  have dd : FP.i2f (nI t) = UInt32.ofNat ((L + 127) * 8388608 + (t * 2 ^ (23 - L) - 8388608)) := by
    show UInt32.ofNat (Jvm.FP.Core.encode Jvm.FP.Core.b32 (Jvm.FP.Core.round Jvm.FP.Core.b32 (Jvm.FP.Core.ofInt (nI t).toInt))) = _
    rw [nI_toInt (by omega), rr, en]
  rw [dd, UInt32.toNat_ofNat_of_lt' (by show _ < 4294967296; omega)]
  unfold Jvm.FP.Core.decode Jvm.FP.Core.fieldE
  rw [show Jvm.FP.Core.b32.tails = 8388608 by decide, show Jvm.FP.Core.b32.exps = 256 by decide]
  have fe : ((L + 127) * 8388608 + (t * 2 ^ (23 - L) - 8388608)) / 8388608 % 256 = L + 127 := by omega
  rw [fe, if_neg (by omega), if_neg (by omega)]
  exact ⟨_, _, _, rfl, by omega⟩
theorem mean_n32 {w : Int32} {t : Nat} (h1 : 0 < t) (h2 : t < 2 ^ 20) : vf_n32 (meanV w (nI t)) := by
  have a := l2f_nn (10 * w.toInt64)
  obtain ⟨s, c, q, b, bc⟩ := i2f_pos h1 h2
  show vf_n32 (UInt32.ofNat (Jvm.FP.Core.encode Jvm.FP.Core.b32 (Jvm.FP.Core.quotient Jvm.FP.Core.b32 (Jvm.FP.Core.decode Jvm.FP.Core.b32 (FP.l2f (10 * w.toInt64)).toNat) (Jvm.FP.Core.decode Jvm.FP.Core.b32 (FP.i2f (nI t)).toNat))))
  rw [b]
  have ok : OkF Jvm.FP.Core.b32 (Jvm.FP.Core.quotient Jvm.FP.Core.b32 (Jvm.FP.Core.decode Jvm.FP.Core.b32 (FP.l2f (10 * w.toInt64)).toNat) (.fin s c q)) := by
    cases hd : Jvm.FP.Core.decode Jvm.FP.Core.b32 (FP.l2f (10 * w.toInt64)).toNat with
    | nan => exact absurd hd a
    | inf u => exact Or.inl ⟨_, rfl⟩
    | fin u d e =>
      show OkF Jvm.FP.Core.b32 (if c = 0 then _ else _)
      rw [if_neg bc]
      exact ok_ratio b32a b32b b32c
  obtain ⟨k1, k2⟩ := enc32 ok
  exact n32_of k1 k2
theorem fc0_n32 : vf_n32 FP.fconst0 := by
  unfold vf_n32 FP.fconst0
  decide
