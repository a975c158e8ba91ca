section CF0
variable {sA : Nat} {h : Nat → Option am_C} {z : Nat × Nat} {Q : Option Value → am_H → Prop}
theorem lineV_cg {kd : Nat} {v v' : Nat → Int32} {a b c d e : Int32} (h : ∀ f, f < 3 → v f = v' f) : lineV kd v a b c d e = lineV kd v' a b c d e := by
  funext j
  unfold lineV
  by_cases j0 : j = 0
  · rw [if_pos j0, if_pos j0]
  · rw [if_neg j0, if_neg j0]
    by_cases j4 : j < 4
    · rw [if_pos j4, if_pos j4]
      unfold colV
      rw [h (j - 1) (by omega)]
    · rw [if_neg j4, if_neg j4]
theorem lineV_4 {v v' : Nat → Int32} {a b c d e : Int32} : lineV 4 v a b c d e = lineV 4 v' a b c d e := by
  funext j
  unfold lineV
  by_cases j0 : j = 0
  · rw [if_pos j0, if_pos j0]
  · rw [if_neg j0, if_neg j0]
    by_cases j4 : j < 4
    · rw [if_pos j4, if_pos j4]
      unfold colV
      rw [if_pos (Or.inl rfl), if_pos (Or.inl rfl)]
    · rw [if_neg j4, if_neg j4]
theorem brkA_cg {lim : Int32} {lv : Nat} {v v' sm : Nat → Int32} (h : v 4 = v' 4) : brkA lim lv v sm = brkA lim lv v' sm := by unfold brkA; rw [h]
theorem brk_cg {lim : Int32} {lv : Nat} {v v' : Nat → Int32} {p : PS} (h : ∀ f, f < 5 → v f = v' f) : brk lim lv v p = brk lim lv v' p := by
  unfold brk
  rw [brkA_cg (h 4 (by omega)), lineV_cg (fun f hf => h f (by omega))]
theorem brk3_cg {lim : Int32} {v v' : Nat → Int32} {p : PS} : brk lim 3 v p = brk lim 3 v' p := by
  unfold brk
  have e : brkA lim 3 v p.2.2 = brkA lim 3 v' p.2.2 := by unfold brkA; rw [if_neg (by decide), if_neg (by decide)]
  rw [e, lineV_4]
theorem brks_cg {lim : Int32} {v v' : Nat → Int32} (h : ∀ f, f < 5 → v f = v' f) : ∀ (n : Nat) (p : PS), brks lim v n p = brks lim v' n p
  | 0, _ => rfl
  | n + 1, p => by
    unfold brks
    rw [brks_cg h n p, brk_cg h]
theorem lvN_cg {u v u' v' : Nat → Int32} (h : ∀ f, f < 5 → u f = u' f) (h2 : ∀ f, f < 5 → v f = v' f) : lvN u v = lvN u' v' := by
  unfold lvN
  rw [h 0 (by omega), h 1 (by omega), h 2 (by omega), h2 0 (by omega), h2 1 (by omega), h2 2 (by omega)]
theorem cardL_cg {v v' : Nat → Int32} {e : Int32} {p : PS} (h : ∀ f, f < 5 → v f = v' f) : cardL v e p = cardL v' e p := by
  have ew : wag v = wag v' := by unfold wag; rw [h 3 (by omega), h 4 (by omega)]
  have ea : addC v p.2.2 = addC v' p.2.2 := by unfold addC; rw [ew, h 3 (by omega)]
  unfold cardL
  rw [ea, ew, h 3 (by omega), lineV_cg (fun f hf => h f (by omega))]
theorem ptS_cg {lim : Int32} {acc acc' : Nat → Nat → Int32} {num num' : Nat → Int32} {m : Nat} (h : ∀ k, k < m → ∀ f, f < 5 → acc k f = acc' k f) (hn : ∀ k, k < m → num k = num' k) : ∀ k, k ≤ m → ptS lim acc num k = ptS lim acc' num' k
  | 0, _ => rfl
  | k + 1, hk => by
    unfold ptS
    rw [ptS_cg h hn k (by omega), cardL_cg (h k (by omega)), hn k (by omega)]
    congr 1
    unfold ptB
    split
    · rfl
    · rw [lvN_cg (h k (by omega)) (h (k - 1) (by omega)), brks_cg (h (k - 1) (by omega))]
theorem ptE_cg {lim : Int32} {acc acc' : Nat → Nat → Int32} {num num' : Nat → Int32} {m : Nat} (h : ∀ k, k < m → ∀ f, f < 5 → acc k f = acc' k f) (hn : ∀ k, k < m → num k = num' k) : ptE lim acc num m = ptE lim acc' num' m := by
  unfold ptE
  rw [ptS_cg h hn m (Nat.le_refl m), brk3_cg (v' := acc' 0)]
  by_cases e : m = 0
  · rw [if_pos e, if_pos e]
  · rw [if_neg e, if_neg e, brks_cg (h (m - 1) (by omega))]
def invA (P Wd : Nat → Nat) (U : Nat → Int32) (ru : Int32) (n k : Nat) : Nat := ((List.range n).find? (fun i => decide (fdR P Wd U ru i = nI 0) && (accN P Wd U ru i == k))).getD 0
theorem accN_inj {P Wd : Nat → Nat} {U : Nat → Int32} {ru : Int32} {i j : Nat} (hi : fdR P Wd U ru i = nI 0) (hj : fdR P Wd U ru j = nI 0) (e : accN P Wd U ru i = accN P Wd U ru j) : i = j := by
  have a1 := accN_s P Wd U ru i
  have a2 := accN_s P Wd U ru j
  rw [if_pos hi] at a1
  rw [if_pos hj] at a2
  rcases Nat.lt_trichotomy i j with q | q | q
  · have := accN_mono (P := P) (Wd := Wd) (U := U) (ru := ru) (show i + 1 ≤ j by omega)
    omega
  · exact q
  · have := accN_mono (P := P) (Wd := Wd) (U := U) (ru := ru) (show j + 1 ≤ i by omega)
    omega
theorem invA_at {P Wd : Nat → Nat} {U : Nat → Int32} {ru : Int32} {n i : Nat} (hi : i < n) (h0 : fdR P Wd U ru i = nI 0) : invA P Wd U ru n (accN P Wd U ru i) = i := by
  unfold invA
  cases h : (List.range n).find? (fun x => decide (fdR P Wd U ru x = nI 0) && (accN P Wd U ru x == accN P Wd U ru i)) with
  | none =>
    have := List.find?_eq_none.mp h i (List.mem_range.mpr hi)
    simp [h0] at this
  | some x =>
    have h1 := List.find?_some h
    have h3 : fdR P Wd U ru x = nI 0 ∧ accN P Wd U ru x = accN P Wd U ru i := by simpa using h1
    exact accN_inj h3.1 h0 h3.2
theorem accN_find {P Wd : Nat → Nat} {U : Nat → Int32} {ru : Int32} {n k : Nat} (h : k < accN P Wd U ru n) : ∃ i, i < n ∧ fdR P Wd U ru i = nI 0 ∧ accN P Wd U ru i = k := by
  obtain ⟨i, i1, i2, i3⟩ := cnt_find (sk := skA P Wd U ru) h
  refine ⟨i, i1, ?_, i3⟩
  unfold skA at i2
  by_cases e : fdR P Wd U ru i = nI 0
  · exact e
  · rw [if_neg e] at i2
    exact absurd i2 (by decide)
theorem rdF_dig {U : Nat → Int32} {n i : Nat} (hD : DigW U n) (hi : i < n) : ∀ j, j < 24 → ∃ d, d < 11 ∧ rdF U i j = dgt d := by
  intro j hj
  unfold rdF
  split
  · exact ⟨0, by omega, rfl⟩
  · split
    · by_cases e : j + 1 < 24
      · rw [if_pos e]; exact hD i hi (j + 1) e
      · rw [if_neg e]; exact ⟨0, by omega, rfl⟩
    · exact hD i hi j hj
theorem tell_0 {o ru : Int32} {k : Int64} {st : Int64 × Bool} (h : tellR o k ru st = nI 0) : o = nI 0 := by
  unfold tellR at h
  split at h
  · exact absurd h (by decide)
  · split at h
    · split at h
      · exact absurd h (by decide)
      · exact absurd h (by decide)
    · exact h
theorem accF_rng {P Wd : Nat → Nat} {U : Nat → Int32} {ru : Int32} {n i : Nat} (hL : LayW U P Wd) (hV : LayV Wd) (hD : DigW U n) (hi : i < n) (h0 : fdR P Wd U ru i = nI 0) : ∀ f, f < 5 → ∃ u, u < 10000 ∧ accF P Wd U i f = nI u := by
  intro f hf
  have ho : ownF P Wd U i = nI 0 := tell_0 h0
  have hv : ¬ noVal P Wd (rdF U i) := by
    intro q
    have mk0 : ¬ U (20 + 26 * i + 24) = nI 1 := own0 (h := ho)
    unfold ownF rsnR at ho
    rw [if_neg mk0, if_pos q] at ho
    exact absurd ho (by decide)
  rcases valF_rng (rdF_dig hD hi) (hL f (by omega)).2.2 (hV f (by omega)).2 with q | q
  · refine absurd ?_ hv
    unfold noVal
    have cc : f = 0 ∨ f = 1 ∨ f = 2 ∨ f = 3 ∨ f = 4 := by omega
    rcases cc with rfl | rfl | rfl | rfl | rfl
    · exact Or.inl q
    · exact Or.inr (Or.inl q)
    · exact Or.inr (Or.inr (Or.inl q))
    · exact Or.inr (Or.inr (Or.inr (Or.inl q)))
    · exact Or.inr (Or.inr (Or.inr (Or.inr q)))
  · exact q
theorem c11_pj {x i k : Nat} {P Wd : Nat → Nat} {n : Nat} {pe : Nat → Nat} {K : Nat → CdX} {R : RpX} {se co : Nat → Int32} {T : Nat → Nat → Int32} {S : Nat → Int32} {lim rv : Int32} {acc : Nat → Nat → Int32} {num : Nat → Int32} (hx : h x = some (.inr (11, [.ref (x + 1), .ref (x + 94), .ref (x + 96), .ref (x + 97), .ref (x + 101), .ref (x + 106), .ref (x + 111), .ref (x + 155), .ref (x + 157)]))) (sa : StAt h (x + 1) P Wd n pe K R se co) (pr : PrX h (x + 106) T) (sl : TtAt h (x + 157) S) (kk : PtK lim acc num k R T) (hRn : R.2.1 ≤ 40) (hi : i < R.2.1) (hS : rv = nI 0 → (∀ f, f < 3 → S f = acc k f) ∧ S 3 = acc k 4 ∧ S 4 = nI 1 ∧ S 5 = acc k 3 ∧ S 6 = wag (acc k) ∧ S 7 = nI 0 ∧ k < 40 ∧ num k = nI i ∧ ∀ i, i ≤ k → ∀ f, f < 3 → ∃ u, u < 10000 ∧ acc i f = nI u) (hQ : ∀ (h2 : Nat → Option am_C) (R2 : RpX) (T2 : Nat → Nat → Int32), StAt h2 (x + 1) P Wd n pe K R2 se co → PrX h2 (x + 106) T2 → PtK lim acc num (if rv = nI 0 then k + 1 else k) R2 T2 → R2.2.1 = R.2.1 → R2.2.2.2.2 = upd R.2.2.2.2 i rv → (∀ a, (a < x + 89 ∨ x + 92 ≤ a) → (a < x + 106 ∨ x + 111 ≤ a) → h2 a = h a) → Q none (h2, z)) : Rn sA mX11_printJudged 0 [some (.ref x), some (.int (nI i)), some (.int rv)] [] (h, z) Q := by
  have sa1 := sa.1
  refine R_aload_n (pc := 0) dX11_printJudged_0 rfl ?_
  refine R_getf (pc := 1) dX11_printJudged_1 rfl (by repeat (first | assumption | exact up_s | refine up_n (by omega) ?_)) rfl ?_
  refine R_getf (pc := 4) dX11_printJudged_4 rfl (by repeat (first | assumption | exact up_s | refine up_n (by omega) ?_)) rfl ?_
  refine R_iload_n (pc := 7) dX11_printJudged_7 rfl ?_
  refine R_iload_n (pc := 8) dX11_printJudged_8 rfl ?_
  refine R_callV (pc := 9) dX11_printJudged_9 rfl sa.2.2.2.1.1 rfl rfl ?_
  refine c5_judge sa.2.2.2.1 hRn hi (fun h1 j1 j2 => ?_)
  have hx1 := (j2 x (by omega)).trans hx
  have sa11 := (j2 (x + 1) (by omega)).trans sa1
  have sA1 : StAt h1 (x + 1) P Wd n pe K (R.1, R.2.1, R.2.2.1, R.2.2.2.1, upd R.2.2.2.2 i rv) se co := ⟨sa11, sa.2.1.fr (fun y y1 y2 => j2 y (by omega)), sa.2.2.1.fr (fun y y1 y2 => j2 y (by omega)), j1, (j2 _ (by omega)).trans sa.2.2.2.2.1, (j2 _ (by omega)).trans sa.2.2.2.2.2⟩
  have pr1 : PrX h1 (x + 106) T := pr.fr (fun y y1 y2 => j2 y (by omega))
  have pr11 := pr1.1
  have sl1 : TtAt h1 (x + 157) S := sl.fr (j2 _ (by omega))
  have kk1 : PtK lim acc num k (R.1, R.2.1, R.2.2.1, R.2.2.2.1, upd R.2.2.2.2 i rv) T := kk
  refine R_iload_n (pc := 12) dX11_printJudged_12 rfl ?_
  refine R_if_ne (pc := 13) (t := 35) dX11_printJudged_13 (by decide) (fun h13 => ?_) (fun h13 => ?_)
  · refine R_vret (pc := 35) dX11_printJudged_35 rfl ?_
    first
      | (refine hQ h1 _ T sA1 pr1 ?_ rfl rfl (fun a a1 a2 => j2 a (by omega))
         rw [if_neg (show ¬ rv = nI 0 from h13)]
         exact kk1)
      | (refine hQ h2 R2 T2 ⟨(m6 _ (by omega) (by omega)).trans sa11, sA1.2.1.fr (fun y y1 y2 => m6 y (by omega) (by omega)), sA1.2.2.1.fr (fun y y1 y2 => m6 y (by omega) (by omega)), m2, (m6 _ (by omega) (by omega)).trans sA1.2.2.2.2.1, (m6 _ (by omega) (by omega)).trans sA1.2.2.2.2.2⟩ m1 ?_ m4 m5 (fun a a1 a2 => by rw [m6 a (by omega) (by omega), j2 a (by omega)])
         rw [if_pos (show rv = nI 0 from h13)]
         exact m3)
  · refine R_aload_n (pc := 16) dX11_printJudged_16 rfl ?_
    refine R_getf (pc := 17) dX11_printJudged_17 rfl (by repeat (first | assumption | exact up_s | refine up_n (by omega) ?_)) rfl ?_
    refine R_aload_n (pc := 20) dX11_printJudged_20 rfl ?_
    refine R_getf (pc := 21) dX11_printJudged_21 rfl (by repeat (first | assumption | exact up_s | refine up_n (by omega) ?_)) rfl ?_
    refine R_getf (pc := 24) dX11_printJudged_24 rfl (by repeat (first | assumption | exact up_s | refine up_n (by omega) ?_)) rfl ?_
    refine R_aload_n (pc := 27) dX11_printJudged_27 rfl ?_
    refine R_getf (pc := 28) dX11_printJudged_28 rfl (by repeat (first | assumption | exact up_s | refine up_n (by omega) ?_)) rfl ?_
    refine R_iload_n (pc := 31) dX11_printJudged_31 rfl ?_
    refine R_callV (pc := 32) dX11_printJudged_32 rfl pr11 rfl rfl ?_
    obtain ⟨s0, s3, s4, s5, s6, s7, k40, nk, r9⟩ := hS h13
    rw [← nk]
    refine c4_accept pr1 sA1.2.2.2.1 sl1 (by omega) (by omega) (by omega) kk1 k40 s0 s3 s4 s5 s6 s7 r9 (fun h2 R2 T2 m1 m2 m3 m4 m5 m6 => ?_)
    refine R_vret (pc := 35) dX11_printJudged_35 rfl ?_
    first
      | (refine hQ h1 _ T sA1 pr1 ?_ rfl rfl (fun a a1 a2 => j2 a (by omega))
         rw [if_neg (show ¬ rv = nI 0 from h13)]
         exact kk1)
      | (refine hQ h2 R2 T2 ⟨(m6 _ (by omega) (by omega)).trans sa11, sA1.2.1.fr (fun y y1 y2 => m6 y (by omega) (by omega)), sA1.2.2.1.fr (fun y y1 y2 => m6 y (by omega) (by omega)), m2, (m6 _ (by omega) (by omega)).trans sA1.2.2.2.2.1, (m6 _ (by omega) (by omega)).trans sA1.2.2.2.2.2⟩ m1 ?_ m4 m5 (fun a a1 a2 => by rw [m6 a (by omega) (by omega), j2 a (by omega)])
         rw [if_pos (show rv = nI 0 from h13)]
         exact m3)
end CF0
