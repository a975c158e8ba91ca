section MOD12
variable {sA : Nat} {h : Nat → Option am_C} {z : Nat × Nat} {Q : Option Value → am_H → Prop} {M : Nat} {A : Nat → Nat → Int32} {S : Nat → Int32}
/-! the deck that is fed: own reasons, keys; the latest key and whether it has stopped; the reasons told -/
def ownF (P Wd : Nat → Nat) (U : Nat → Int32) (i : Nat) : Int32 := rsnR P Wd (U (20 + 26 * i + 24)) (U 13) (U 14) (rdF U i)
def accF (P Wd : Nat → Nat) (U : Nat → Int32) (i f : Nat) : Int32 := valF P Wd (rdF U i) f
def keyF (P Wd : Nat → Nat) (U : Nat → Int32) (i : Nat) : Int64 := keyM (accF P Wd U i 0) (accF P Wd U i 1) (accF P Wd U i 2)
def tellR (o : Int32) (k : Int64) (ru : Int32) (st : Int64 × Bool) : Int32 := if st.2 = true then nI 6 else if o = nI 0 ∧ ¬ ru = 0 ∧ k < st.1 then (if ru = nI 2 then nI 6 else nI 5) else o
def nxtS (o : Int32) (k : Int64) (ru : Int32) (st : Int64 × Bool) : Int64 × Bool := (if tellR o k ru st = nI 0 then k else st.1, if st.2 = true then true else if o = nI 0 ∧ ¬ ru = 0 ∧ k < st.1 then decide (ru = nI 2) else false)
def fdS (P Wd : Nat → Nat) (U : Nat → Int32) (ru : Int32) : Nat → Int64 × Bool
  | 0 => (-1, false)
  | i + 1 => nxtS (ownF P Wd U i) (keyF P Wd U i) ru (fdS P Wd U ru i)
def fdR (P Wd : Nat → Nat) (U : Nat → Int32) (ru : Int32) (i : Nat) : Int32 := tellR (ownF P Wd U i) (keyF P Wd U i) ru (fdS P Wd U ru i)
def skA (P Wd : Nat → Nat) (U : Nat → Int32) (ru : Int32) (i : Nat) : Nat := if fdR P Wd U ru i = nI 0 then 0 else 1
/-- how many of the first cards are accepted -/
def accN (P Wd : Nat → Nat) (U : Nat → Int32) (ru : Int32) (i : Nat) : Nat := cnt (skA P Wd U ru) 0 i
theorem accN_s (P Wd : Nat → Nat) (U : Nat → Int32) (ru : Int32) (i : Nat) : accN P Wd U ru (i + 1) = if fdR P Wd U ru i = nI 0 then accN P Wd U ru i + 1 else accN P Wd U ru i := by
  unfold accN
  show cnt (skA P Wd U ru) 0 i + _ = _
  unfold skA
  by_cases e : fdR P Wd U ru i = nI 0
  · rw [if_pos e, if_pos e, if_pos rfl]
  · rw [if_neg e, if_neg e, if_neg (by omega), Nat.add_zero]
theorem accN_le (P Wd : Nat → Nat) (U : Nat → Int32) (ru : Int32) : ∀ i, accN P Wd U ru i ≤ i
  | 0 => Nat.le_refl 0
  | i + 1 => by
    have := accN_le P Wd U ru i
    rw [accN_s]
    split <;> omega
theorem accN_mono {P Wd : Nat → Nat} {U : Nat → Int32} {ru : Int32} {i j : Nat} (h : i ≤ j) : accN P Wd U ru i ≤ accN P Wd U ru j := cnt_mono h
theorem rsnR_congr {P Wd : Nat → Nat} {u g g' : Nat → Int32} {mk ck mh : Int32} (hL : LayW u P Wd) (hg : ∀ j, j < 24 → g j = g' j) : rsnR P Wd mk ck mh g = rsnR P Wd mk ck mh g' := by
  unfold rsnR
  simp only [noVal_congr hL hg, valF_congr hL hg (show 5 < 6 by omega), dueR_congr hL hg, valF_congr hL hg (show 3 < 6 by omega)]
theorem rdF_congr {u u' : Nat → Int32} {c : Nat} (h : ∀ j, j < 26 → u (20 + 26 * c + j) = u' (20 + 26 * c + j)) : ∀ j, j < 24 → rdF u c j = rdF u' c j := by
  intro j hj
  unfold rdF
  rw [h 24 (by omega), h 25 (by omega), h j (by omega)]
  by_cases e : j + 1 < 24
  · rw [if_pos e, if_pos e, h (j + 1) (by omega)]
  · rw [if_neg e, if_neg e]
/-- what runCards has written behind k cards -/
def RcV (P Wd : Nat → Nat) (U : Nat → Int32) (ru : Int32) (n k : Nat) (V G : Nat → Int32) : Prop := (∀ j, (j < 1062 ∨ 1304 ≤ j) → V j = U j) ∧ V 1062 = nI n ∧ V 1103 = nI (accN P Wd U ru k) ∧ (∀ i, i < k → V (1063 + i) = fdR P Wd U ru i) ∧ (∀ i, i < k → fdR P Wd U ru i = nI 0 → (∀ f, f < 5 → V (1104 + 5 * accN P Wd U ru i + f) = accF P Wd U i f) ∧ G (accN P Wd U ru i) = nI i)
theorem own0 {P Wd : Nat → Nat} {mk ck mh : Int32} {g : Nat → Int32} (h : rsnR P Wd mk ck mh g = nI 0) : ¬ mk = nI 1 := by
  intro e
  unfold rsnR at h
  rw [if_pos e] at h
  exact absurd h (by decide)
theorem l12_rcF {P Wd : Nat → Nat} {c m : Nat} {l : Int64} {s3 : Option Value} (hm : m < 40) : ∀ (n f : Nat) (V : Nat → Int32) (_ : f + n = 5) (_ : LayW V P Wd) (_ : ∀ V2 : Nat → Int32, (∀ j, (j < 1104 + 5 * m + f ∨ 1104 + 5 * m + 5 ≤ j) → V2 j = V j) → (∀ i, f ≤ i → i < 5 → V2 (1104 + 5 * m + i) = valF P Wd (A 5) i) → Rn sA mX12_runCards 206 [some (.ref M), some (.long l), none, s3, some (.int (nI c)), some (.int (nI 0)), some (.long l), none, some (.int (nI (1104 + 5 * m))), some (.int (nI 5))] [] (putM h M (va_up A 1 V2) S, z) Q), Rn sA mX12_runCards 178 [some (.ref M), some (.long l), none, s3, some (.int (nI c)), some (.int (nI 0)), some (.long l), none, some (.int (nI (1104 + 5 * m))), some (.int (nI f))] [] (putM h M (va_up A 1 V) S, z) Q
  | 0, f, V, hk, hL, hX => by
    obtain rfl : f = 5 := by omega
    refine R_iload (pc := 178) dX12_runCards_178 rfl ?_
    refine R_iconst (pc := 180) (x := nI 5) dX12_runCards_180 rfl ?_
    refine R_icmp_ge (pc := 181) (t := 206) dX12_runCards_181 (by decide) (fun _ => ?_) (fun hz9 => absurd (nI_le (by omega) (by omega)) hz9)
    exact hX V (fun _ _ => rfl) (fun i a b => absurd b (by omega))
  | n + 1, f, V, hk, hL, hX => by
    refine R_iload (pc := 178) dX12_runCards_178 rfl ?_
    refine R_iconst (pc := 180) (x := nI 5) dX12_runCards_180 rfl ?_
    refine R_icmp_ge (pc := 181) (t := 206) dX12_runCards_181 (by decide) (fun hz9 => absurd hz9 (nI_ge (by omega) (by omega))) (fun _ => ?_)
    refine R_aload_n (pc := 184) dX12_runCards_184 rfl ?_
    refine M_g (pc := 185) dX12_runCards_185 rfl rfl ?_
    refine R_iload (pc := 188) dX12_runCards_188 rfl ?_
    refine R_iload (pc := 190) dX12_runCards_190 rfl ?_
    refine R_iadd (pc := 192) dX12_runCards_192 ?_
    refine R_aload_n (pc := 193) dX12_runCards_193 rfl ?_
    refine R_iload (pc := 194) dX12_runCards_194 rfl ?_
    refine R_callV (pc := 196) dX12_runCards_196 rfl putM_o rfl rfl ?_
    refine s12_valueOf hL (by omega) ?_
    refine M_ast (pc := 199) dX12_runCards_199 (nI_add _ _) (by simp only [mol1]; omega) ?_
    refine R_iinc (pc := 200) dX12_runCards_200 rfl (by first | exact nI_inc _ | rfl) rfl ?_
    refine R_goto (pc := 203) (t := 178) dX12_runCards_203 (by decide) ?_
    rw [va_up_up, show va_up A 1 V 5 = A 5 from rfl]
    refine l12_rcF hm n (f + 1) _ (by omega) (fun x hx => by rw [upd_n (by omega), upd_n (by omega)]; exact hL x hx) (fun V2 a b => hX V2 (fun j hj => (a j (by omega)).trans (upd_n (by omega))) (fun i i1 i2 => ?_))
    by_cases e : i = f
    · subst e
      rw [a _ (by omega)]
      exact upd_s
    · exact b i (by omega) i2
theorem l12_rcA {P Wd : Nat → Nat} {c m : Nat} {l l0 : Int64} {s3 o8 o9 : Option Value} {A : Nat → Nat → Int32} (hL : LayW (A 1) P Wd) (hm : m < 40) (h1103 : A 1 1103 = nI m) (hX : ∀ (A2 : Nat → Nat → Int32) (o8 o9 : Option Value), (∀ q, q ≠ 1 → q ≠ 11 → A2 q = A q) → (∀ j, j ≠ 1103 → (j < 1104 + 5 * m ∨ 1104 + 5 * m + 5 ≤ j) → A2 1 j = A 1 j) → A2 1 1103 = nI (m + 1) → (∀ f, f < 5 → A2 1 (1104 + 5 * m + f) = valF P Wd (A 5) f) → A2 11 = upd (A 11) m (nI c) → Rn sA mX12_runCards 233 [some (.ref M), some (.long l), none, s3, some (.int (nI c)), some (.int (nI 0)), some (.long l), none, o8, o9] [] (putM h M A2 S, z) Q) : Rn sA mX12_runCards 156 [some (.ref M), some (.long l0), none, s3, some (.int (nI c)), some (.int (nI 0)), some (.long l), none, o8, o9] [] (putM h M A S, z) Q := by
  refine R_lload (pc := 156) dX12_runCards_156 rfl ?_
  refine R_lstore_n (pc := 158) dX12_runCards_158 (Nat.le_of_ble_eq_true rfl) rfl ?_
  refine R_sipush (pc := 159) (x := nI 1104) dX12_runCards_159 (by decide) ?_
  refine R_iconst (pc := 162) (x := nI 5) dX12_runCards_162 rfl ?_
  refine R_aload_n (pc := 163) dX12_runCards_163 rfl ?_
  refine M_g (pc := 164) dX12_runCards_164 rfl rfl ?_
  refine R_sipush (pc := 167) (x := nI 1103) dX12_runCards_167 (by decide) ?_
  refine M_ald (pc := 170) dX12_runCards_170 rfl (by simp only [mol1]; omega) ?_
  refine R_imul (pc := 171) dX12_runCards_171 ?_
  refine R_iadd (pc := 172) dX12_runCards_172 ?_
  rw [h1103, pk_mul, nI_add]
  refine R_istore (pc := 173) dX12_runCards_173 (Nat.le_of_ble_eq_true rfl) rfl ?_
  refine R_iconst (pc := 175) (x := nI 0) dX12_runCards_175 rfl ?_
  refine R_istore (pc := 176) dX12_runCards_176 (Nat.le_of_ble_eq_true rfl) rfl ?_
  refine Rn_A (A' := va_up A 1 (A 1)) va_up_id.symm ?_
  refine l12_rcF hm 5 0 (A 1) (by omega) hL (fun V2 a b => ?_)
  have e1103 : V2 1103 = nI m := (a 1103 (by omega)).trans h1103
  refine R_aload_n (pc := 206) dX12_runCards_206 rfl ?_
  refine M_g (pc := 207) dX12_runCards_207 rfl rfl ?_
  refine R_aload_n (pc := 210) dX12_runCards_210 rfl ?_
  refine M_g (pc := 211) dX12_runCards_211 rfl rfl ?_
  refine R_sipush (pc := 214) (x := nI 1103) dX12_runCards_214 (by decide) ?_
  refine M_ald (pc := 217) dX12_runCards_217 rfl (by simp only [mol1]; omega) ?_
  refine R_iload (pc := 218) dX12_runCards_218 rfl ?_
  refine M_ast (pc := 220) dX12_runCards_220 e1103 (by simp only [mol11]; omega) ?_
  refine R_aload_n (pc := 221) dX12_runCards_221 rfl ?_
  refine M_g (pc := 222) dX12_runCards_222 rfl rfl ?_
  refine R_sipush (pc := 225) (x := nI 1103) dX12_runCards_225 (by decide) ?_
  refine R_dup2 (pc := 228) dX12_runCards_228 rfl rfl ?_
  refine M_ald (pc := 229) dX12_runCards_229 rfl (by simp only [mol1]; omega) ?_
  refine R_iconst (pc := 230) (x := nI 1) dX12_runCards_230 rfl ?_
  refine R_iadd (pc := 231) dX12_runCards_231 ?_
  refine M_ast (pc := 232) dX12_runCards_232 rfl (by simp only [mol1]; omega) ?_
  refine hX _ _ _ (fun q q1 q11 => by unfold va_up; rw [if_neg q1, if_neg q11, if_neg q1]) (fun j j1 j2 => ?_) ?_ (fun f hf => ?_) rfl
  · show upd V2 1103 _ j = _
    rw [upd_n j1]
    exact a j (by omega)
  · show upd V2 1103 (V2 1103 + nI 1) 1103 = _
    rw [upd_s, e1103, nI_add]
  · show upd V2 1103 _ _ = _
    rw [upd_n (by omega)]
    exact b f (by omega) hf
theorem l12_rc {P Wd : Nat → Nat} {U : Nat → Int32} {ru : Int32} {n : Nat} {B : Nat → Nat → Int32} (hn : n ≤ 40) (hw : U 19 = nI n) (hru : U 12 = ru) (hL : LayW U P Wd) (hT : ∀ c, c < n → ∃ t, t < 24 ∧ U (20 + 26 * c + 25) = nI t) : ∀ (r k : Nat) (A : Nat → Nat → Int32) (o5 o6 o7 o8 o9 : Option Value) (_ : k + r = n) (_ : ∀ q, q ≠ 1 → q ≠ 5 → q ≠ 11 → A q = B q) (_ : RcV P Wd U ru n k (A 1) (A 11)) (_ : (∀ (A2 : Nat → Nat → Int32), (∀ q, q ≠ 1 → q ≠ 5 → q ≠ 11 → A2 q = B q) → RcV P Wd U ru n n (A2 1) (A2 11) → Q none (putM h M A2 S, z))), Rn sA mX12_runCards 33 [some (.ref M), some (.long (fdS P Wd U ru k).1), none, some (.int (if (fdS P Wd U ru k).2 = true then nI 1 else nI 0)), some (.int (nI k)), o5, o6, o7, o8, o9] [] (putM h M A S, z) Q
  | 0, k, A, o5, o6, o7, o8, o9, hk, hA, hR, hX => by
    obtain rfl : k = n := by omega
    refine R_iload (pc := 33) dX12_runCards_33 rfl ?_
    refine R_aload_n (pc := 35) dX12_runCards_35 rfl ?_
    refine M_g (pc := 36) dX12_runCards_36 rfl rfl ?_
    refine R_bipush (pc := 39) (x := nI 19) dX12_runCards_39 (by decide) ?_
    refine M_ald (pc := 41) dX12_runCards_41 rfl (by simp only [mol1]; omega) ?_
    refine R_icmp_ge (pc := 42) (t := 252) dX12_runCards_42 (by decide) (fun _ => ?_) (fun hz9 => absurd (by rw [(hR.1 19 (by omega)).trans hw]; exact nI_le (by omega) (by omega)) hz9)
    refine R_vret (pc := 252) dX12_runCards_252 rfl ?_
    exact hX A hA hR
  | r + 1, k, A, o5, o6, o7, o8, o9, hk, hA, hR, hX => by
    obtain ⟨r1, r2, r3, r4, r5⟩ := hR
    have hkn : k < n := by omega
    have hm := accN_le P Wd U ru k
    have e19 : A 1 19 = nI n := (r1 19 (by omega)).trans hw
    have hL1 : LayW (A 1) P Wd := fun f hf => by rw [r1 _ (by omega), r1 _ (by omega)]; exact hL f hf
    obtain ⟨t, ht1, ht2⟩ := hT k hkn
    have eS : fdS P Wd U ru (k + 1) = nxtS (ownF P Wd U k) (keyF P Wd U k) ru (fdS P Wd U ru k) := rfl
    have eR : fdR P Wd U ru k = tellR (ownF P Wd U k) (keyF P Wd U k) ru (fdS P Wd U ru k) := rfl
    have eN := accN_s P Wd U ru k
    have cont : ∀ (A2 : Nat → Nat → Int32) (l : Int64) (s : Bool) (x : Int32) (o6 o7 o8 o9 : Option Value), (∀ q, q ≠ 1 → q ≠ 5 → q ≠ 11 → A2 q = B q) → x = fdR P Wd U ru k → fdS P Wd U ru (k + 1) = (l, s) → (∀ j, (j < 1062 ∨ 1304 ≤ j) → A2 1 j = U j) → A2 1 1062 = nI n → A2 1 1103 = nI (accN P Wd U ru (k + 1)) → (∀ i, i < k → A2 1 (1063 + i) = fdR P Wd U ru i) → (∀ i, i < k + 1 → fdR P Wd U ru i = nI 0 → (∀ f, f < 5 → A2 1 (1104 + 5 * accN P Wd U ru i + f) = accF P Wd U i f) ∧ A2 11 (accN P Wd U ru i) = nI i) → Rn sA mX12_runCards 233 [some (.ref M), some (.long l), none, some (.int (if s = true then nI 1 else nI 0)), some (.int (nI k)), some (.int x), o6, o7, o8, o9] [] (putM h M A2 S, z) Q := by
      intro A2 l s x o6 o7 o8 o9 q1 q2 q3 q4 q5 q6 q7 q8
      refine R_aload_n (pc := 233) dX12_runCards_233 rfl ?_
      refine M_g (pc := 234) dX12_runCards_234 rfl rfl ?_
      refine R_sipush (pc := 237) (x := nI 1063) dX12_runCards_237 (by decide) ?_
      refine R_iload (pc := 240) dX12_runCards_240 rfl ?_
      refine R_iadd (pc := 242) dX12_runCards_242 ?_
      refine R_iload (pc := 243) dX12_runCards_243 rfl ?_
      refine M_ast (pc := 245) dX12_runCards_245 (nI_add _ _) (by simp only [mol1]; omega) ?_
      refine R_iinc (pc := 246) dX12_runCards_246 rfl (by first | exact nI_inc _ | rfl) rfl ?_
      refine R_goto (pc := 249) (t := 33) dX12_runCards_249 (by decide) ?_
      have el : l = (fdS P Wd U ru (k + 1)).1 := by rw [q3]
      have es : s = (fdS P Wd U ru (k + 1)).2 := by rw [q3]
      subst el
      subst es
      subst q2
      refine l12_rc hn hw hru hL hT r (k + 1) _ _ _ _ _ _ (by omega) (fun q a b c => by unfold va_up; rw [if_neg a]; exact q1 q a b c) ⟨fun j hj => ?_, ?_, ?_, fun i hi => ?_, fun i hi h0 => ⟨fun f hf => ?_, ?_⟩⟩ hX
      · show upd (A2 1) (1063 + k) _ j = _
        rw [upd_n (by omega)]; exact q4 j hj
      · show upd (A2 1) (1063 + k) _ 1062 = _
        rw [upd_n (by omega)]; exact q5
      · show upd (A2 1) (1063 + k) _ 1103 = _
        rw [upd_n (by omega)]; exact q6
      · show upd (A2 1) (1063 + k) _ (1063 + i) = _
        by_cases e : i = k
        · subst e; exact upd_s
        · rw [upd_n (by omega)]; exact q7 i (by omega)
      · have := accN_le P Wd U ru i
        show upd (A2 1) (1063 + k) _ _ = _
        rw [upd_n (by omega)]; exact (q8 i hi h0).1 f hf
      · exact (q8 i hi h0).2
    -- a card that is not accepted, nothing read of it told
    have rej : ∀ (A2 : Nat → Nat → Int32) (l : Int64) (s : Bool) (x : Int32) (o6 o7 o8 o9 : Option Value), A2 1 = A 1 → A2 11 = A 11 → (∀ q, q ≠ 1 → q ≠ 5 → q ≠ 11 → A2 q = B q) → x = fdR P Wd U ru k → ¬ fdR P Wd U ru k = nI 0 → fdS P Wd U ru (k + 1) = (l, s) → Rn sA mX12_runCards 233 [some (.ref M), some (.long l), none, some (.int (if s = true then nI 1 else nI 0)), some (.int (nI k)), some (.int x), o6, o7, o8, o9] [] (putM h M A2 S, z) Q := by
      intro A2 l s x o6 o7 o8 o9 q1 q11 q2 q3 q4 q5
      rw [if_neg q4] at eN
      refine cont A2 l s x o6 o7 o8 o9 q2 q3 q5 (by rw [q1]; exact r1) (by rw [q1]; exact r2) (by rw [q1, eN]; exact r3) (by rw [q1]; exact r4) (fun i hi h0 => ?_)
      rw [q1, q11]
      exact r5 i (by rcases Nat.lt_or_ge i k with e | e; exact e; exact absurd (by rw [← (show i = k by omega)]; exact h0) q4) h0
    generalize hst : fdS P Wd U ru k = st at *
    obtain ⟨l0, s0⟩ := st
    cases s0 with
    | true =>
      have eT : fdR P Wd U ru k = nI 6 := by rw [eR]; unfold tellR; rw [if_pos rfl]
      have eS2 : fdS P Wd U ru (k + 1) = (l0, true) := by rw [eS]; unfold nxtS; rw [← eR, eT, if_neg (by decide), if_pos rfl]
      refine R_iload (pc := 33) dX12_runCards_33 rfl ?_
      refine R_aload_n (pc := 35) dX12_runCards_35 rfl ?_
      refine M_g (pc := 36) dX12_runCards_36 rfl rfl ?_
      refine R_bipush (pc := 39) (x := nI 19) dX12_runCards_39 (by decide) ?_
      refine M_ald (pc := 41) dX12_runCards_41 rfl (by simp only [mol1]; omega) ?_
      refine R_icmp_ge (pc := 42) (t := 252) dX12_runCards_42 (by decide) (fun hz9 => absurd hz9 (by rw [e19]; exact nI_ge (by omega) (by omega))) (fun _ => ?_)
      refine R_iload_n (pc := 45) dX12_runCards_45 rfl ?_
      refine R_if_eq (pc := 46) (t := 54) dX12_runCards_46 (by decide) (fun hz9 => absurd hz9 (show ¬ nI 1 = 0 by decide)) (fun _ => ?_)
      refine R_bipush (pc := 49) (x := nI 6) dX12_runCards_49 (by decide) ?_
      refine R_goto (pc := 51) (t := 60) dX12_runCards_51 (by decide) ?_
      refine R_istore (pc := 60) dX12_runCards_60 (Nat.le_of_ble_eq_true rfl) rfl ?_
      refine R_iload (pc := 62) dX12_runCards_62 rfl ?_
      refine R_if_ne (pc := 64) (t := 88) dX12_runCards_64 (by decide) (fun _ => ?_) (fun hz9 => absurd hz9 (by decide))
      refine R_ldc2 (pc := 88) (x := (-1)) dX12_runCards_88 rfl ?_
      refine R_lstore (pc := 91) dX12_runCards_91 (Nat.le_of_ble_eq_true rfl) rfl ?_
      refine R_iload (pc := 93) dX12_runCards_93 rfl ?_
      refine R_if_ne (pc := 95) (t := 151) dX12_runCards_95 (by decide) (fun _ => ?_) (fun hz9 => absurd hz9 (by decide))
      refine R_iload (pc := 151) dX12_runCards_151 rfl ?_
      refine R_if_ne (pc := 153) (t := 233) dX12_runCards_153 (by decide) (fun _ => ?_) (fun hz9 => absurd hz9 (by decide))
      exact rej A l0 true _ _ _ _ _ rfl rfl hA eT.symm (by rw [eT]; decide) eS2
    | false =>
      by_cases h0 : ownF P Wd U k = nI 0
      · by_cases hru0 : ru = 0
        · have eT : fdR P Wd U ru k = nI 0 := by rw [eR]; unfold tellR; rw [if_neg (show ¬ false = true by decide), if_neg (fun q => q.2.1 hru0)]; exact h0
          have eS2 : fdS P Wd U ru (k + 1) = (keyF P Wd U k, false) := by rw [eS]; unfold nxtS; rw [← eR, if_pos eT, if_neg (show ¬ false = true by decide), if_neg (fun q => q.2.1 hru0)]
          refine R_iload (pc := 33) dX12_runCards_33 rfl ?_
          refine R_aload_n (pc := 35) dX12_runCards_35 rfl ?_
          refine M_g (pc := 36) dX12_runCards_36 rfl rfl ?_
          refine R_bipush (pc := 39) (x := nI 19) dX12_runCards_39 (by decide) ?_
          refine M_ald (pc := 41) dX12_runCards_41 rfl (by simp only [mol1]; omega) ?_
          refine R_icmp_ge (pc := 42) (t := 252) dX12_runCards_42 (by decide) (fun hz9 => absurd hz9 (by rw [e19]; exact nI_ge (by omega) (by omega))) (fun _ => ?_)
          refine R_iload_n (pc := 45) dX12_runCards_45 rfl ?_
          refine R_if_eq (pc := 46) (t := 54) dX12_runCards_46 (by decide) (fun _ => ?_) (fun hz9 => absurd (show nI 0 = 0 from rfl) hz9)
          refine R_aload_n (pc := 54) dX12_runCards_54 rfl ?_
          refine R_iload (pc := 55) dX12_runCards_55 rfl ?_
          refine R_callV (pc := 57) dX12_runCards_57 rfl putM_o rfl rfl ?_
          refine s12_own (t := t) hL1 (by omega) ht1 ((r1 _ (by omega)).trans ht2) (fun g hg => ?_)
          have eo : rsnR P Wd (A 1 (20 + 26 * k + 24)) (A 1 13) (A 1 14) (rdF (A 1) k) = ownF P Wd U k := by
            rw [r1 _ (by omega), r1 _ (by omega), r1 _ (by omega)]
            exact rsnR_congr hL (rdF_congr (fun j hj => r1 _ (by omega)))
          rw [eo]
          have hmk : ¬ A 1 (20 + 26 * k + 24) = nI 1 := by rw [r1 _ (by omega)]; exact own0 h0
          have ev : ∀ f, f < 6 → valF P Wd g f = accF P Wd U k f := fun f hf => valF_congr hL (fun j hj => (hg hmk j hj).trans (rdF_congr (fun j hj => r1 _ (by omega)) j hj)) hf
          rw [h0]
          refine R_istore (pc := 60) dX12_runCards_60 (Nat.le_of_ble_eq_true rfl) rfl ?_
          refine R_iload (pc := 62) dX12_runCards_62 rfl ?_
          refine R_if_ne (pc := 64) (t := 88) dX12_runCards_64 (by decide) (fun hz9 => absurd (show nI 0 = 0 from rfl) hz9) (fun _ => ?_)
          refine R_aload_n (pc := 67) dX12_runCards_67 rfl ?_
          refine R_iconst (pc := 68) (x := nI 0) dX12_runCards_68 rfl ?_
          refine R_callV (pc := 69) dX12_runCards_69 rfl putM_o rfl rfl ?_
          refine s12_valueOf (A := va_up A 5 g) hL1 (by omega) ?_
          refine R_aload_n (pc := 72) dX12_runCards_72 rfl ?_
          refine R_iconst (pc := 73) (x := nI 1) dX12_runCards_73 rfl ?_
          refine R_callV (pc := 74) dX12_runCards_74 rfl putM_o rfl rfl ?_
          refine s12_valueOf (A := va_up A 5 g) hL1 (by omega) ?_
          refine R_aload_n (pc := 77) dX12_runCards_77 rfl ?_
          refine R_iconst (pc := 78) (x := nI 2) dX12_runCards_78 rfl ?_
          refine R_callV (pc := 79) dX12_runCards_79 rfl putM_o rfl rfl ?_
          refine s12_valueOf (A := va_up A 5 g) hL1 (by omega) ?_
          refine R_callS (pc := 82) dX12_runCards_82 rfl (Or.inl rfl) rfl rfl ?_
          refine s12_key ?_
          rw [show va_up A 5 g 5 = g from rfl, ev 0 (by omega), ev 1 (by omega), ev 2 (by omega), show keyM (accF P Wd U k 0) (accF P Wd U k 1) (accF P Wd U k 2) = keyF P Wd U k from rfl]
          refine R_goto (pc := 85) (t := 91) dX12_runCards_85 (by decide) ?_
          refine R_lstore (pc := 91) dX12_runCards_91 (Nat.le_of_ble_eq_true rfl) rfl ?_
          refine R_iload (pc := 93) dX12_runCards_93 rfl ?_
          refine R_if_ne (pc := 95) (t := 151) dX12_runCards_95 (by decide) (fun hz9 => absurd (show nI 0 = 0 from rfl) hz9) (fun _ => ?_)
          refine R_aload_n (pc := 98) dX12_runCards_98 rfl ?_
          refine M_g (pc := 99) dX12_runCards_99 rfl rfl ?_
          refine R_bipush (pc := 102) (x := nI 12) dX12_runCards_102 (by decide) ?_
          refine M_ald (pc := 104) dX12_runCards_104 rfl (by simp only [mol1]; omega) ?_
          refine R_if_eq (pc := 105) (t := 151) dX12_runCards_105 (by decide) (fun _ => ?_) (fun hz9 => absurd (by show A 1 12 = 0; rw [r1 12 (by omega), hru]; exact hru0) hz9)
          refine R_iload (pc := 151) dX12_runCards_151 rfl ?_
          refine R_if_ne (pc := 153) (t := 233) dX12_runCards_153 (by decide) (fun hz9 => absurd (show nI 0 = 0 from rfl) hz9) (fun _ => ?_)
          refine l12_rcA (A := va_up A 5 g) (m := accN P Wd U ru k) hL1 (by omega) r3 (fun A2 o8 o9 q1 q2 q3 q4 q5 => ?_)
          rw [if_pos eT] at eN
          refine cont A2 (keyF P Wd U k) false (nI 0) _ _ _ _ (fun q a b c => (q1 q a c).trans (by unfold va_up; rw [if_neg b]; exact hA q a b c)) eT.symm eS2 (fun j hj => ?_) ?_ ?_ (fun i hi => ?_) (fun i hi hi0 => ?_)
          · rw [q2 j (by omega) (by omega)]; exact r1 j hj
          · rw [q2 1062 (by omega) (by omega)]; exact r2
          · rw [q3, eN]
          · rw [q2 _ (by omega) (by omega)]; exact r4 i hi
          · rw [q5]
            by_cases e : i = k
            · subst e
              refine ⟨fun f hf => ?_, upd_s⟩
              rw [q4 f hf]
              exact ev f (by omega)
            · have c1 := accN_mono (P := P) (Wd := Wd) (U := U) (ru := ru) (show i + 1 ≤ k by omega)
              rw [accN_s, if_pos hi0] at c1
              obtain ⟨d1, d2⟩ := r5 i (by omega) hi0
              refine ⟨fun f hf => ?_, ?_⟩
              · rw [q2 _ (by omega) (by omega)]; exact d1 f hf
              · show upd (A 11) _ _ _ = _
                rw [upd_n (by omega)]; exact d2
        · by_cases hlt : keyF P Wd U k < l0
          · by_cases hr2 : ru = nI 2
            · have eT : fdR P Wd U ru k = nI 6 := by rw [eR]; unfold tellR; rw [if_neg (show ¬ false = true by decide), if_pos ⟨h0, hru0, hlt⟩, if_pos hr2]
              have eS2 : fdS P Wd U ru (k + 1) = (l0, true) := by rw [eS]; unfold nxtS; rw [← eR, if_neg (by rw [eT]; decide), if_neg (show ¬ false = true by decide), if_pos ⟨h0, hru0, hlt⟩, decide_eq_true hr2]
              refine R_iload (pc := 33) dX12_runCards_33 rfl ?_
              refine R_aload_n (pc := 35) dX12_runCards_35 rfl ?_
              refine M_g (pc := 36) dX12_runCards_36 rfl rfl ?_
              refine R_bipush (pc := 39) (x := nI 19) dX12_runCards_39 (by decide) ?_
              refine M_ald (pc := 41) dX12_runCards_41 rfl (by simp only [mol1]; omega) ?_
              refine R_icmp_ge (pc := 42) (t := 252) dX12_runCards_42 (by decide) (fun hz9 => absurd hz9 (by rw [e19]; exact nI_ge (by omega) (by omega))) (fun _ => ?_)
              refine R_iload_n (pc := 45) dX12_runCards_45 rfl ?_
              refine R_if_eq (pc := 46) (t := 54) dX12_runCards_46 (by decide) (fun _ => ?_) (fun hz9 => absurd (show nI 0 = 0 from rfl) hz9)
              refine R_aload_n (pc := 54) dX12_runCards_54 rfl ?_
              refine R_iload (pc := 55) dX12_runCards_55 rfl ?_
              refine R_callV (pc := 57) dX12_runCards_57 rfl putM_o rfl rfl ?_
              refine s12_own (t := t) hL1 (by omega) ht1 ((r1 _ (by omega)).trans ht2) (fun g hg => ?_)
              have eo : rsnR P Wd (A 1 (20 + 26 * k + 24)) (A 1 13) (A 1 14) (rdF (A 1) k) = ownF P Wd U k := by
                rw [r1 _ (by omega), r1 _ (by omega), r1 _ (by omega)]
                exact rsnR_congr hL (rdF_congr (fun j hj => r1 _ (by omega)))
              rw [eo]
              have hmk : ¬ A 1 (20 + 26 * k + 24) = nI 1 := by rw [r1 _ (by omega)]; exact own0 h0
              have ev : ∀ f, f < 6 → valF P Wd g f = accF P Wd U k f := fun f hf => valF_congr hL (fun j hj => (hg hmk j hj).trans (rdF_congr (fun j hj => r1 _ (by omega)) j hj)) hf
              rw [h0]
              refine R_istore (pc := 60) dX12_runCards_60 (Nat.le_of_ble_eq_true rfl) rfl ?_
              refine R_iload (pc := 62) dX12_runCards_62 rfl ?_
              refine R_if_ne (pc := 64) (t := 88) dX12_runCards_64 (by decide) (fun hz9 => absurd (show nI 0 = 0 from rfl) hz9) (fun _ => ?_)
              refine R_aload_n (pc := 67) dX12_runCards_67 rfl ?_
              refine R_iconst (pc := 68) (x := nI 0) dX12_runCards_68 rfl ?_
              refine R_callV (pc := 69) dX12_runCards_69 rfl putM_o rfl rfl ?_
              refine s12_valueOf (A := va_up A 5 g) hL1 (by omega) ?_
              refine R_aload_n (pc := 72) dX12_runCards_72 rfl ?_
              refine R_iconst (pc := 73) (x := nI 1) dX12_runCards_73 rfl ?_
              refine R_callV (pc := 74) dX12_runCards_74 rfl putM_o rfl rfl ?_
              refine s12_valueOf (A := va_up A 5 g) hL1 (by omega) ?_
              refine R_aload_n (pc := 77) dX12_runCards_77 rfl ?_
              refine R_iconst (pc := 78) (x := nI 2) dX12_runCards_78 rfl ?_
              refine R_callV (pc := 79) dX12_runCards_79 rfl putM_o rfl rfl ?_
              refine s12_valueOf (A := va_up A 5 g) hL1 (by omega) ?_
              refine R_callS (pc := 82) dX12_runCards_82 rfl (Or.inl rfl) rfl rfl ?_
              refine s12_key ?_
              rw [show va_up A 5 g 5 = g from rfl, ev 0 (by omega), ev 1 (by omega), ev 2 (by omega), show keyM (accF P Wd U k 0) (accF P Wd U k 1) (accF P Wd U k 2) = keyF P Wd U k from rfl]
              refine R_goto (pc := 85) (t := 91) dX12_runCards_85 (by decide) ?_
              refine R_lstore (pc := 91) dX12_runCards_91 (Nat.le_of_ble_eq_true rfl) rfl ?_
              refine R_iload (pc := 93) dX12_runCards_93 rfl ?_
              refine R_if_ne (pc := 95) (t := 151) dX12_runCards_95 (by decide) (fun hz9 => absurd (show nI 0 = 0 from rfl) hz9) (fun _ => ?_)
              refine R_aload_n (pc := 98) dX12_runCards_98 rfl ?_
              refine M_g (pc := 99) dX12_runCards_99 rfl rfl ?_
              refine R_bipush (pc := 102) (x := nI 12) dX12_runCards_102 (by decide) ?_
              refine M_ald (pc := 104) dX12_runCards_104 rfl (by simp only [mol1]; omega) ?_
              refine R_if_eq (pc := 105) (t := 151) dX12_runCards_105 (by decide) (fun hz9 => absurd hz9 (by show ¬ A 1 12 = 0; rw [r1 12 (by omega), hru]; exact hru0)) (fun _ => ?_)
              refine R_lload (pc := 108) dX12_runCards_108 rfl ?_
              refine R_lload_n (pc := 110) dX12_runCards_110 rfl ?_
              refine R_lcmp (pc := 111) dX12_runCards_111 ?_
              refine R_if_ge (pc := 112) (t := 151) dX12_runCards_112 (by decide) (fun hz9 => absurd hz9 (fun q => cmp_ge.mp q hlt)) (fun _ => ?_)
              refine R_aload_n (pc := 115) dX12_runCards_115 rfl ?_
              refine M_g (pc := 116) dX12_runCards_116 rfl rfl ?_
              refine R_bipush (pc := 119) (x := nI 12) dX12_runCards_119 (by decide) ?_
              refine M_ald (pc := 121) dX12_runCards_121 rfl (by simp only [mol1]; omega) ?_
              refine R_iconst (pc := 122) (x := nI 2) dX12_runCards_122 rfl ?_
              refine R_icmp_ne (pc := 123) (t := 131) dX12_runCards_123 (by decide) (fun hz9 => absurd (by show A 1 12 = nI 2; rw [r1 12 (by omega), hru]; exact hr2) hz9) (fun _ => ?_)
              refine R_bipush (pc := 126) (x := nI 6) dX12_runCards_126 (by decide) ?_
              refine R_goto (pc := 128) (t := 132) dX12_runCards_128 (by decide) ?_
              refine R_istore (pc := 132) dX12_runCards_132 (Nat.le_of_ble_eq_true rfl) rfl ?_
              refine R_aload_n (pc := 134) dX12_runCards_134 rfl ?_
              refine M_g (pc := 135) dX12_runCards_135 rfl rfl ?_
              refine R_bipush (pc := 138) (x := nI 12) dX12_runCards_138 (by decide) ?_
              refine M_ald (pc := 140) dX12_runCards_140 rfl (by simp only [mol1]; omega) ?_
              refine R_iconst (pc := 141) (x := nI 2) dX12_runCards_141 rfl ?_
              refine R_icmp_ne (pc := 142) (t := 149) dX12_runCards_142 (by decide) (fun hz9 => absurd (by show A 1 12 = nI 2; rw [r1 12 (by omega), hru]; exact hr2) hz9) (fun _ => ?_)
              refine R_iconst (pc := 145) (x := nI 1) dX12_runCards_145 rfl ?_
              refine R_goto (pc := 146) (t := 150) dX12_runCards_146 (by decide) ?_
              refine R_istore_n (pc := 150) dX12_runCards_150 (Nat.le_of_ble_eq_true rfl) rfl ?_
              refine R_iload (pc := 151) dX12_runCards_151 rfl ?_
              refine R_if_ne (pc := 153) (t := 233) dX12_runCards_153 (by decide) (fun _ => ?_) (fun hz9 => absurd hz9 (by decide))
              exact rej (va_up A 5 g) l0 true _ _ _ _ _ rfl rfl (fun q a b c => by unfold va_up; rw [if_neg b]; exact hA q a b c) eT.symm (by rw [eT]; decide) eS2
            · have eT : fdR P Wd U ru k = nI 5 := by rw [eR]; unfold tellR; rw [if_neg (show ¬ false = true by decide), if_pos ⟨h0, hru0, hlt⟩, if_neg hr2]
              have eS2 : fdS P Wd U ru (k + 1) = (l0, false) := by rw [eS]; unfold nxtS; rw [← eR, if_neg (by rw [eT]; decide), if_neg (show ¬ false = true by decide), if_pos ⟨h0, hru0, hlt⟩, decide_eq_false hr2]
              refine R_iload (pc := 33) dX12_runCards_33 rfl ?_
              refine R_aload_n (pc := 35) dX12_runCards_35 rfl ?_
              refine M_g (pc := 36) dX12_runCards_36 rfl rfl ?_
              refine R_bipush (pc := 39) (x := nI 19) dX12_runCards_39 (by decide) ?_
              refine M_ald (pc := 41) dX12_runCards_41 rfl (by simp only [mol1]; omega) ?_
              refine R_icmp_ge (pc := 42) (t := 252) dX12_runCards_42 (by decide) (fun hz9 => absurd hz9 (by rw [e19]; exact nI_ge (by omega) (by omega))) (fun _ => ?_)
              refine R_iload_n (pc := 45) dX12_runCards_45 rfl ?_
              refine R_if_eq (pc := 46) (t := 54) dX12_runCards_46 (by decide) (fun _ => ?_) (fun hz9 => absurd (show nI 0 = 0 from rfl) hz9)
              refine R_aload_n (pc := 54) dX12_runCards_54 rfl ?_
              refine R_iload (pc := 55) dX12_runCards_55 rfl ?_
              refine R_callV (pc := 57) dX12_runCards_57 rfl putM_o rfl rfl ?_
              refine s12_own (t := t) hL1 (by omega) ht1 ((r1 _ (by omega)).trans ht2) (fun g hg => ?_)
              have eo : rsnR P Wd (A 1 (20 + 26 * k + 24)) (A 1 13) (A 1 14) (rdF (A 1) k) = ownF P Wd U k := by
                rw [r1 _ (by omega), r1 _ (by omega), r1 _ (by omega)]
                exact rsnR_congr hL (rdF_congr (fun j hj => r1 _ (by omega)))
              rw [eo]
              have hmk : ¬ A 1 (20 + 26 * k + 24) = nI 1 := by rw [r1 _ (by omega)]; exact own0 h0
              have ev : ∀ f, f < 6 → valF P Wd g f = accF P Wd U k f := fun f hf => valF_congr hL (fun j hj => (hg hmk j hj).trans (rdF_congr (fun j hj => r1 _ (by omega)) j hj)) hf
              rw [h0]
              refine R_istore (pc := 60) dX12_runCards_60 (Nat.le_of_ble_eq_true rfl) rfl ?_
              refine R_iload (pc := 62) dX12_runCards_62 rfl ?_
              refine R_if_ne (pc := 64) (t := 88) dX12_runCards_64 (by decide) (fun hz9 => absurd (show nI 0 = 0 from rfl) hz9) (fun _ => ?_)
              refine R_aload_n (pc := 67) dX12_runCards_67 rfl ?_
              refine R_iconst (pc := 68) (x := nI 0) dX12_runCards_68 rfl ?_
              refine R_callV (pc := 69) dX12_runCards_69 rfl putM_o rfl rfl ?_
              refine s12_valueOf (A := va_up A 5 g) hL1 (by omega) ?_
              refine R_aload_n (pc := 72) dX12_runCards_72 rfl ?_
              refine R_iconst (pc := 73) (x := nI 1) dX12_runCards_73 rfl ?_
              refine R_callV (pc := 74) dX12_runCards_74 rfl putM_o rfl rfl ?_
              refine s12_valueOf (A := va_up A 5 g) hL1 (by omega) ?_
              refine R_aload_n (pc := 77) dX12_runCards_77 rfl ?_
              refine R_iconst (pc := 78) (x := nI 2) dX12_runCards_78 rfl ?_
              refine R_callV (pc := 79) dX12_runCards_79 rfl putM_o rfl rfl ?_
              refine s12_valueOf (A := va_up A 5 g) hL1 (by omega) ?_
              refine R_callS (pc := 82) dX12_runCards_82 rfl (Or.inl rfl) rfl rfl ?_
              refine s12_key ?_
              rw [show va_up A 5 g 5 = g from rfl, ev 0 (by omega), ev 1 (by omega), ev 2 (by omega), show keyM (accF P Wd U k 0) (accF P Wd U k 1) (accF P Wd U k 2) = keyF P Wd U k from rfl]
              refine R_goto (pc := 85) (t := 91) dX12_runCards_85 (by decide) ?_
              refine R_lstore (pc := 91) dX12_runCards_91 (Nat.le_of_ble_eq_true rfl) rfl ?_
              refine R_iload (pc := 93) dX12_runCards_93 rfl ?_
              refine R_if_ne (pc := 95) (t := 151) dX12_runCards_95 (by decide) (fun hz9 => absurd (show nI 0 = 0 from rfl) hz9) (fun _ => ?_)
              refine R_aload_n (pc := 98) dX12_runCards_98 rfl ?_
              refine M_g (pc := 99) dX12_runCards_99 rfl rfl ?_
              refine R_bipush (pc := 102) (x := nI 12) dX12_runCards_102 (by decide) ?_
              refine M_ald (pc := 104) dX12_runCards_104 rfl (by simp only [mol1]; omega) ?_
              refine R_if_eq (pc := 105) (t := 151) dX12_runCards_105 (by decide) (fun hz9 => absurd hz9 (by show ¬ A 1 12 = 0; rw [r1 12 (by omega), hru]; exact hru0)) (fun _ => ?_)
              refine R_lload (pc := 108) dX12_runCards_108 rfl ?_
              refine R_lload_n (pc := 110) dX12_runCards_110 rfl ?_
              refine R_lcmp (pc := 111) dX12_runCards_111 ?_
              refine R_if_ge (pc := 112) (t := 151) dX12_runCards_112 (by decide) (fun hz9 => absurd hz9 (fun q => cmp_ge.mp q hlt)) (fun _ => ?_)
              refine R_aload_n (pc := 115) dX12_runCards_115 rfl ?_
              refine M_g (pc := 116) dX12_runCards_116 rfl rfl ?_
              refine R_bipush (pc := 119) (x := nI 12) dX12_runCards_119 (by decide) ?_
              refine M_ald (pc := 121) dX12_runCards_121 rfl (by simp only [mol1]; omega) ?_
              refine R_iconst (pc := 122) (x := nI 2) dX12_runCards_122 rfl ?_
              refine R_icmp_ne (pc := 123) (t := 131) dX12_runCards_123 (by decide) (fun _ => ?_) (fun hz9 => absurd hz9 (by show ¬ A 1 12 = nI 2; rw [r1 12 (by omega), hru]; exact hr2))
              refine R_iconst (pc := 131) (x := nI 5) dX12_runCards_131 rfl ?_
              refine R_istore (pc := 132) dX12_runCards_132 (Nat.le_of_ble_eq_true rfl) rfl ?_
              refine R_aload_n (pc := 134) dX12_runCards_134 rfl ?_
              refine M_g (pc := 135) dX12_runCards_135 rfl rfl ?_
              refine R_bipush (pc := 138) (x := nI 12) dX12_runCards_138 (by decide) ?_
              refine M_ald (pc := 140) dX12_runCards_140 rfl (by simp only [mol1]; omega) ?_
              refine R_iconst (pc := 141) (x := nI 2) dX12_runCards_141 rfl ?_
              refine R_icmp_ne (pc := 142) (t := 149) dX12_runCards_142 (by decide) (fun _ => ?_) (fun hz9 => absurd hz9 (by show ¬ A 1 12 = nI 2; rw [r1 12 (by omega), hru]; exact hr2))
              refine R_iconst (pc := 149) (x := nI 0) dX12_runCards_149 rfl ?_
              refine R_istore_n (pc := 150) dX12_runCards_150 (Nat.le_of_ble_eq_true rfl) rfl ?_
              refine R_iload (pc := 151) dX12_runCards_151 rfl ?_
              refine R_if_ne (pc := 153) (t := 233) dX12_runCards_153 (by decide) (fun _ => ?_) (fun hz9 => absurd hz9 (by decide))
              exact rej (va_up A 5 g) l0 false _ _ _ _ _ rfl rfl (fun q a b c => by unfold va_up; rw [if_neg b]; exact hA q a b c) eT.symm (by rw [eT]; decide) eS2
          · have eT : fdR P Wd U ru k = nI 0 := by rw [eR]; unfold tellR; rw [if_neg (show ¬ false = true by decide), if_neg (fun q => hlt q.2.2)]; exact h0
            have eS2 : fdS P Wd U ru (k + 1) = (keyF P Wd U k, false) := by rw [eS]; unfold nxtS; rw [← eR, if_pos eT, if_neg (show ¬ false = true by decide), if_neg (fun q => hlt q.2.2)]
            refine R_iload (pc := 33) dX12_runCards_33 rfl ?_
            refine R_aload_n (pc := 35) dX12_runCards_35 rfl ?_
            refine M_g (pc := 36) dX12_runCards_36 rfl rfl ?_
            refine R_bipush (pc := 39) (x := nI 19) dX12_runCards_39 (by decide) ?_
            refine M_ald (pc := 41) dX12_runCards_41 rfl (by simp only [mol1]; omega) ?_
            refine R_icmp_ge (pc := 42) (t := 252) dX12_runCards_42 (by decide) (fun hz9 => absurd hz9 (by rw [e19]; exact nI_ge (by omega) (by omega))) (fun _ => ?_)
            refine R_iload_n (pc := 45) dX12_runCards_45 rfl ?_
            refine R_if_eq (pc := 46) (t := 54) dX12_runCards_46 (by decide) (fun _ => ?_) (fun hz9 => absurd (show nI 0 = 0 from rfl) hz9)
            refine R_aload_n (pc := 54) dX12_runCards_54 rfl ?_
            refine R_iload (pc := 55) dX12_runCards_55 rfl ?_
            refine R_callV (pc := 57) dX12_runCards_57 rfl putM_o rfl rfl ?_
            refine s12_own (t := t) hL1 (by omega) ht1 ((r1 _ (by omega)).trans ht2) (fun g hg => ?_)
            have eo : rsnR P Wd (A 1 (20 + 26 * k + 24)) (A 1 13) (A 1 14) (rdF (A 1) k) = ownF P Wd U k := by
              rw [r1 _ (by omega), r1 _ (by omega), r1 _ (by omega)]
              exact rsnR_congr hL (rdF_congr (fun j hj => r1 _ (by omega)))
            rw [eo]
            have hmk : ¬ A 1 (20 + 26 * k + 24) = nI 1 := by rw [r1 _ (by omega)]; exact own0 h0
            have ev : ∀ f, f < 6 → valF P Wd g f = accF P Wd U k f := fun f hf => valF_congr hL (fun j hj => (hg hmk j hj).trans (rdF_congr (fun j hj => r1 _ (by omega)) j hj)) hf
            rw [h0]
            refine R_istore (pc := 60) dX12_runCards_60 (Nat.le_of_ble_eq_true rfl) rfl ?_
            refine R_iload (pc := 62) dX12_runCards_62 rfl ?_
            refine R_if_ne (pc := 64) (t := 88) dX12_runCards_64 (by decide) (fun hz9 => absurd (show nI 0 = 0 from rfl) hz9) (fun _ => ?_)
            refine R_aload_n (pc := 67) dX12_runCards_67 rfl ?_
            refine R_iconst (pc := 68) (x := nI 0) dX12_runCards_68 rfl ?_
            refine R_callV (pc := 69) dX12_runCards_69 rfl putM_o rfl rfl ?_
            refine s12_valueOf (A := va_up A 5 g) hL1 (by omega) ?_
            refine R_aload_n (pc := 72) dX12_runCards_72 rfl ?_
            refine R_iconst (pc := 73) (x := nI 1) dX12_runCards_73 rfl ?_
            refine R_callV (pc := 74) dX12_runCards_74 rfl putM_o rfl rfl ?_
            refine s12_valueOf (A := va_up A 5 g) hL1 (by omega) ?_
            refine R_aload_n (pc := 77) dX12_runCards_77 rfl ?_
            refine R_iconst (pc := 78) (x := nI 2) dX12_runCards_78 rfl ?_
            refine R_callV (pc := 79) dX12_runCards_79 rfl putM_o rfl rfl ?_
            refine s12_valueOf (A := va_up A 5 g) hL1 (by omega) ?_
            refine R_callS (pc := 82) dX12_runCards_82 rfl (Or.inl rfl) rfl rfl ?_
            refine s12_key ?_
            rw [show va_up A 5 g 5 = g from rfl, ev 0 (by omega), ev 1 (by omega), ev 2 (by omega), show keyM (accF P Wd U k 0) (accF P Wd U k 1) (accF P Wd U k 2) = keyF P Wd U k from rfl]
            refine R_goto (pc := 85) (t := 91) dX12_runCards_85 (by decide) ?_
            refine R_lstore (pc := 91) dX12_runCards_91 (Nat.le_of_ble_eq_true rfl) rfl ?_
            refine R_iload (pc := 93) dX12_runCards_93 rfl ?_
            refine R_if_ne (pc := 95) (t := 151) dX12_runCards_95 (by decide) (fun hz9 => absurd (show nI 0 = 0 from rfl) hz9) (fun _ => ?_)
            refine R_aload_n (pc := 98) dX12_runCards_98 rfl ?_
            refine M_g (pc := 99) dX12_runCards_99 rfl rfl ?_
            refine R_bipush (pc := 102) (x := nI 12) dX12_runCards_102 (by decide) ?_
            refine M_ald (pc := 104) dX12_runCards_104 rfl (by simp only [mol1]; omega) ?_
            refine R_if_eq (pc := 105) (t := 151) dX12_runCards_105 (by decide) (fun hz9 => absurd hz9 (by show ¬ A 1 12 = 0; rw [r1 12 (by omega), hru]; exact hru0)) (fun _ => ?_)
            refine R_lload (pc := 108) dX12_runCards_108 rfl ?_
            refine R_lload_n (pc := 110) dX12_runCards_110 rfl ?_
            refine R_lcmp (pc := 111) dX12_runCards_111 ?_
            refine R_if_ge (pc := 112) (t := 151) dX12_runCards_112 (by decide) (fun _ => ?_) (fun hz9 => absurd (cmp_ge.mpr hlt) hz9)
            refine R_iload (pc := 151) dX12_runCards_151 rfl ?_
            refine R_if_ne (pc := 153) (t := 233) dX12_runCards_153 (by decide) (fun hz9 => absurd (show nI 0 = 0 from rfl) hz9) (fun _ => ?_)
            refine l12_rcA (A := va_up A 5 g) (m := accN P Wd U ru k) hL1 (by omega) r3 (fun A2 o8 o9 q1 q2 q3 q4 q5 => ?_)
            rw [if_pos eT] at eN
            refine cont A2 (keyF P Wd U k) false (nI 0) _ _ _ _ (fun q a b c => (q1 q a c).trans (by unfold va_up; rw [if_neg b]; exact hA q a b c)) eT.symm eS2 (fun j hj => ?_) ?_ ?_ (fun i hi => ?_) (fun i hi hi0 => ?_)
            · rw [q2 j (by omega) (by omega)]; exact r1 j hj
            · rw [q2 1062 (by omega) (by omega)]; exact r2
            · rw [q3, eN]
            · rw [q2 _ (by omega) (by omega)]; exact r4 i hi
            · rw [q5]
              by_cases e : i = k
              · subst e
                refine ⟨fun f hf => ?_, upd_s⟩
                rw [q4 f hf]
                exact ev f (by omega)
              · have c1 := accN_mono (P := P) (Wd := Wd) (U := U) (ru := ru) (show i + 1 ≤ k by omega)
                rw [accN_s, if_pos hi0] at c1
                obtain ⟨d1, d2⟩ := r5 i (by omega) hi0
                refine ⟨fun f hf => ?_, ?_⟩
                · rw [q2 _ (by omega) (by omega)]; exact d1 f hf
                · show upd (A 11) _ _ _ = _
                  rw [upd_n (by omega)]; exact d2
      · have eT : fdR P Wd U ru k = ownF P Wd U k := by rw [eR]; unfold tellR; rw [if_neg (show ¬ false = true by decide), if_neg (fun q => h0 q.1)]
        have eS2 : fdS P Wd U ru (k + 1) = (l0, false) := by rw [eS]; unfold nxtS; rw [← eR, if_neg (by rw [eT]; exact h0), if_neg (show ¬ false = true by decide), if_neg (fun q => h0 q.1)]
        refine R_iload (pc := 33) dX12_runCards_33 rfl ?_
        refine R_aload_n (pc := 35) dX12_runCards_35 rfl ?_
        refine M_g (pc := 36) dX12_runCards_36 rfl rfl ?_
        refine R_bipush (pc := 39) (x := nI 19) dX12_runCards_39 (by decide) ?_
        refine M_ald (pc := 41) dX12_runCards_41 rfl (by simp only [mol1]; omega) ?_
        refine R_icmp_ge (pc := 42) (t := 252) dX12_runCards_42 (by decide) (fun hz9 => absurd hz9 (by rw [e19]; exact nI_ge (by omega) (by omega))) (fun _ => ?_)
        refine R_iload_n (pc := 45) dX12_runCards_45 rfl ?_
        refine R_if_eq (pc := 46) (t := 54) dX12_runCards_46 (by decide) (fun _ => ?_) (fun hz9 => absurd (show nI 0 = 0 from rfl) hz9)
        refine R_aload_n (pc := 54) dX12_runCards_54 rfl ?_
        refine R_iload (pc := 55) dX12_runCards_55 rfl ?_
        refine R_callV (pc := 57) dX12_runCards_57 rfl putM_o rfl rfl ?_
        refine s12_own (t := t) hL1 (by omega) ht1 ((r1 _ (by omega)).trans ht2) (fun g hg => ?_)
        have eo : rsnR P Wd (A 1 (20 + 26 * k + 24)) (A 1 13) (A 1 14) (rdF (A 1) k) = ownF P Wd U k := by
          rw [r1 _ (by omega), r1 _ (by omega), r1 _ (by omega)]
          exact rsnR_congr hL (rdF_congr (fun j hj => r1 _ (by omega)))
        rw [eo]
        refine R_istore (pc := 60) dX12_runCards_60 (Nat.le_of_ble_eq_true rfl) rfl ?_
        refine R_iload (pc := 62) dX12_runCards_62 rfl ?_
        refine R_if_ne (pc := 64) (t := 88) dX12_runCards_64 (by decide) (fun _ => ?_) (fun hz9 => absurd hz9 h0)
        refine R_ldc2 (pc := 88) (x := (-1)) dX12_runCards_88 rfl ?_
        refine R_lstore (pc := 91) dX12_runCards_91 (Nat.le_of_ble_eq_true rfl) rfl ?_
        refine R_iload (pc := 93) dX12_runCards_93 rfl ?_
        refine R_if_ne (pc := 95) (t := 151) dX12_runCards_95 (by decide) (fun _ => ?_) (fun hz9 => absurd hz9 h0)
        refine R_iload (pc := 151) dX12_runCards_151 rfl ?_
        refine R_if_ne (pc := 153) (t := 233) dX12_runCards_153 (by decide) (fun _ => ?_) (fun hz9 => absurd hz9 h0)
        exact rej (va_up A 5 g) l0 false _ _ _ _ _ rfl rfl (fun q a b c => by unfold va_up; rw [if_neg b]; exact hA q a b c) eT.symm (by rw [eT]; exact h0) eS2
theorem s12_runCards {P Wd : Nat → Nat} {n : Nat} (hL : LayW (A 1) P Wd) (hn : n ≤ 40) (hw : A 1 19 = nI n) (hT : ∀ c, c < n → ∃ t, t < 24 ∧ A 1 (20 + 26 * c + 25) = nI t) (hQ : ∀ (A2 : Nat → Nat → Int32), (∀ q, q ≠ 1 → q ≠ 5 → q ≠ 11 → A2 q = A q) → RcV P Wd (A 1) (A 1 12) n n (A2 1) (A2 11) → Q none (putM h M A2 S, z)) : Rn sA mX12_runCards 0 [some (.ref M), none, none, none, none, none, none, none, none, none] [] (putM h M A S, z) Q := by
  refine R_ldc2 (pc := 0) (x := (-1)) dX12_runCards_0 rfl ?_
  refine R_lstore_n (pc := 3) dX12_runCards_3 (Nat.le_of_ble_eq_true rfl) rfl ?_
  refine R_iconst (pc := 4) (x := nI 0) dX12_runCards_4 rfl ?_
  refine R_istore_n (pc := 5) dX12_runCards_5 (Nat.le_of_ble_eq_true rfl) rfl ?_
  refine R_aload_n (pc := 6) dX12_runCards_6 rfl ?_
  refine M_g (pc := 7) dX12_runCards_7 rfl rfl ?_
  refine R_sipush (pc := 10) (x := nI 1062) dX12_runCards_10 (by decide) ?_
  refine R_aload_n (pc := 13) dX12_runCards_13 rfl ?_
  refine M_g (pc := 14) dX12_runCards_14 rfl rfl ?_
  refine R_bipush (pc := 17) (x := nI 19) dX12_runCards_17 (by decide) ?_
  refine M_ald (pc := 19) dX12_runCards_19 rfl (by simp only [mol1]; omega) ?_
  refine M_ast (pc := 20) dX12_runCards_20 rfl (by simp only [mol1]; omega) ?_
  refine R_aload_n (pc := 21) dX12_runCards_21 rfl ?_
  refine M_g (pc := 22) dX12_runCards_22 rfl rfl ?_
  refine R_sipush (pc := 25) (x := nI 1103) dX12_runCards_25 (by decide) ?_
  refine R_iconst (pc := 28) (x := nI 0) dX12_runCards_28 rfl ?_
  refine M_ast (pc := 29) dX12_runCards_29 rfl (by simp only [mol1]; omega) ?_
  refine R_iconst (pc := 30) (x := nI 0) dX12_runCards_30 rfl ?_
  refine R_istore (pc := 31) dX12_runCards_31 (Nat.le_of_ble_eq_true rfl) rfl ?_
  refine l12_rc (U := A 1) (ru := A 1 12) (B := A) (P := P) (Wd := Wd) hn hw rfl hL hT n 0 _ none none none none none (by omega) (fun q a _ _ => by unfold va_up; rw [if_neg a, if_neg a]) ⟨fun j hj => ?_, ?_, ?_, fun i hi => absurd hi (Nat.not_lt_zero _), fun i hi => absurd hi (Nat.not_lt_zero _)⟩ hQ
  · show upd (upd (A 1) 1062 _) 1103 _ j = _
    rw [upd_n (by omega), upd_n (by omega)]
  · show upd (upd (A 1) 1062 (A 1 19)) 1103 (nI 0) 1062 = _
    rw [upd_n (by omega), upd_s, hw]
  · show upd (upd (A 1) 1062 (A 1 19)) 1103 (nI 0) 1103 = _
    rw [upd_s]; rfl
theorem rdF_12 {u : Nat → Int32} {c : Nat} {x : Int32} : rdF (upd u 12 x) c = rdF u c := by
  funext k
  unfold rdF
  rw [upd_n (by omega), upd_n (by omega), upd_n (by omega), upd_n (by omega)]
theorem accN_12 {P Wd : Nat → Nat} {u : Nat → Int32} {x ru : Int32} : accN P Wd (upd u 12 x) ru = accN P Wd u ru := by
  have h1 : ownF P Wd (upd u 12 x) = ownF P Wd u := by
    funext i
    unfold ownF
    rw [rdF_12, upd_n (by omega), upd_n (by omega), upd_n (by omega)]
  have h2 : keyF P Wd (upd u 12 x) = keyF P Wd u := by
    funext i
    unfold keyF accF
    rw [rdF_12]
  have h3 : fdS P Wd (upd u 12 x) ru = fdS P Wd u ru := by
    funext i
    induction i with
    | zero => rfl
    | succ i ih =>
      show nxtS _ _ _ _ = nxtS _ _ _ _
      rw [h1, h2, ih]
  have h4 : skA P Wd (upd u 12 x) ru = skA P Wd u ru := by
    funext i
    unfold skA fdR
    rw [h1, h2, h3]
  funext i
  unfold accN
  rw [h4]
theorem s12_accepts {a : Int32} {P Wd : Nat → Nat} {n : Nat} (hL : LayW (A 1) P Wd) (hn : n ≤ 40) (hw : A 1 19 = nI n) (hT : ∀ c, c < n → ∃ t, t < 24 ∧ A 1 (20 + 26 * c + 25) = nI t) (hB : (∀ v, v ≤ 2 → ¬ a = nI v) → Q (some (.int (-1000001))) (putM h M A S, z)) (hG : ∀ v, v ≤ 2 → a = nI v → ∀ A2 : Nat → Nat → Int32, A2 1 = A 1 → A2 2 = A 2 → A2 3 = A 3 → A2 4 = A 4 → Q (some (.int (nI (accN P Wd (A 1) (nI v) n)))) (putM h M A2 S, z)) : Rn sA mX12_accepts 0 [some (.ref M), some (.int a), none] [] (putM h M A S, z) Q := by
  refine R_iload_n (pc := 0) dX12_accepts_0 rfl ?_
  refine R_iconst (pc := 1) (x := nI 0) dX12_accepts_1 rfl ?_
  refine R_iconst (pc := 2) (x := nI 2) dX12_accepts_2 rfl ?_
  refine R_callS (pc := 3) dX12_accepts_3 rfl (Or.inl rfl) rfl rfl ?_
  refine s12_inG (a := 0) (b := 2) rfl (by decide) (by omega) (by omega) (fun v hv0 hv e => ?_) (fun e => ?_)
  · subst e
    refine R_if_ne (pc := 6) (t := 12) dX12_accepts_6 (by decide) (fun _ => ?_) (fun hz9 => absurd hz9 (by decide))
    refine R_aload_n (pc := 12) dX12_accepts_12 rfl ?_
    refine R_callV (pc := 13) dX12_accepts_13 rfl putM_o rfl rfl ?_
    refine s12_aside ?_
    refine R_aload_n (pc := 16) dX12_accepts_16 rfl ?_
    refine M_g (pc := 17) dX12_accepts_17 rfl rfl ?_
    refine R_bipush (pc := 20) (x := nI 12) dX12_accepts_20 (by decide) ?_
    refine R_iload_n (pc := 22) dX12_accepts_22 rfl ?_
    refine M_ast (pc := 23) dX12_accepts_23 rfl (by simp only [mol1]; omega) ?_
    refine R_aload_n (pc := 24) dX12_accepts_24 rfl ?_
    refine R_callV (pc := 25) dX12_accepts_25 rfl putM_o rfl rfl ?_
    refine s12_runCards (P := P) (Wd := Wd) (n := n) (fun f hf => ?_) hn (show upd (A 1) 12 (nI v) 19 = _ by rw [upd_n (by omega)]; exact hw) (fun c hc => ?_) (fun A2 q1 q2 => ?_)
    · show upd (A 1) 12 (nI v) (0 + 2 * f) = _ ∧ upd (A 1) 12 (nI v) (0 + 2 * f + 1) = _ ∧ _
      rw [upd_n (by omega), upd_n (by omega)]
      exact hL f hf
    · show ∃ t, t < 24 ∧ upd (A 1) 12 (nI v) (20 + 26 * c + 25) = nI t
      rw [upd_n (by omega)]
      exact hT c hc
    refine R_aload_n (pc := 28) dX12_accepts_28 rfl ?_
    refine M_g (pc := 29) dX12_accepts_29 rfl rfl ?_
    refine R_sipush (pc := 32) (x := nI 1103) dX12_accepts_32 (by decide) ?_
    refine M_ald (pc := 35) dX12_accepts_35 rfl (by simp only [mol1]; omega) ?_
    refine R_istore_n (pc := 36) dX12_accepts_36 (Nat.le_of_ble_eq_true rfl) rfl ?_
    refine R_aload_n (pc := 37) dX12_accepts_37 rfl ?_
    refine R_callV (pc := 38) dX12_accepts_38 rfl putM_o rfl rfl ?_
    refine s12_putBack ?_
    refine R_iload_n (pc := 41) dX12_accepts_41 rfl ?_
    refine R_iret (pc := 42) dX12_accepts_42 rfl ?_
    first
      | exact hB (fun j hj => e j (Nat.zero_le _) hj)
      | (obtain ⟨c1, c2, c3, c4, c5⟩ := q2
         have e3 : A2 1 1103 = nI (accN P Wd (A 1) (nI v) n) := by
           rw [c3]
           show nI (accN P Wd (upd (A 1) 12 (nI v)) (upd (A 1) 12 (nI v) 12) n) = _
           rw [upd_s, accN_12]
         have e1 : va_cpy (A2 13) (A2 1) 0 0 2754 = A 1 := by
           funext j
           by_cases hj : j < 2754
           · rw [cpy_in (by omega) (by omega), q1 13 (by omega) (by omega) (by omega)]
             show va_cpy (A 1) (A 13) 0 0 2754 _ = _
             rw [cpy_in (by omega) (by omega)]
             congr 1
             omega
           · rw [cpy_out (by omega), c1 j (by omega)]
             show upd (A 1) 12 (nI v) j = _
             rw [upd_n (by omega)]
         rw [e3]
         exact hG v hv rfl _ e1 (q1 2 (by omega) (by omega) (by omega)) (q1 3 (by omega) (by omega) (by omega)) (q1 4 (by omega) (by omega) (by omega)))
  · refine R_if_ne (pc := 6) (t := 12) dX12_accepts_6 (by decide) (fun hz9 => absurd hz9 (by decide)) (fun _ => ?_)
    refine R_ldc (pc := 9) (x := (-1000001)) dX12_accepts_9 rfl ?_
    refine R_iret (pc := 11) dX12_accepts_11 rfl ?_
    first
      | exact hB (fun j hj => e j (Nat.zero_le _) hj)
      | (obtain ⟨c1, c2, c3, c4, c5⟩ := q2
         have e3 : A2 1 1103 = nI (accN P Wd (A 1) (nI v) n) := by
           rw [c3]
           show nI (accN P Wd (upd (A 1) 12 (nI v)) (upd (A 1) 12 (nI v) 12) n) = _
           rw [upd_s, accN_12]
         have e1 : va_cpy (A2 13) (A2 1) 0 0 2754 = A 1 := by
           funext j
           by_cases hj : j < 2754
           · rw [cpy_in (by omega) (by omega), q1 13 (by omega) (by omega) (by omega)]
             show va_cpy (A 1) (A 13) 0 0 2754 _ = _
             rw [cpy_in (by omega) (by omega)]
             congr 1
             omega
           · rw [cpy_out (by omega), c1 j (by omega)]
             show upd (A 1) 12 (nI v) j = _
             rw [upd_n (by omega)]
         rw [e3]
         exact hG v hv rfl _ e1 (q1 2 (by omega) (by omega) (by omega)) (q1 3 (by omega) (by omega) (by omega)) (q1 4 (by omega) (by omega) (by omega)))
end MOD12
