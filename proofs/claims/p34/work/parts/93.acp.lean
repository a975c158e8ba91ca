/-! what would be accepted is accepted (pure) -/
section ACP
variable {U V : Nat → Int32} {P Wd P2 W2 : Nat → Nat}
theorem valF_P (hP : ∀ f, f < 6 → P2 f = P f ∧ W2 f = Wd f) {g : Nat → Int32} {f : Nat} (hf : f < 6) : valF P2 W2 g f = valF P Wd g f := by
  unfold valF
  rw [(hP f hf).1, (hP f hf).2]
theorem dueO_P (hP : ∀ f, f < 6 → P2 f = P f ∧ W2 f = Wd f) {g : Nat → Int32} : ∀ (n f : Nat) (s : Int32), f + n ≤ 6 → dueO P2 W2 g n f s = dueO P Wd g n f s
  | 0, _, _, _ => rfl
  | n + 1, f, s, h => by
    unfold dueO
    rw [(hP f (by omega)).1, (hP f (by omega)).2, dueO_P hP n (f + 1) _ (by omega)]
theorem rsnR_P (hP : ∀ f, f < 6 → P2 f = P f ∧ W2 f = Wd f) {g : Nat → Int32} {mk ck mh : Int32} : rsnR P2 W2 mk ck mh g = rsnR P Wd mk ck mh g := by
  have d : dueR P2 W2 g = dueR P Wd g := by unfold dueR; rw [dueO_P hP 5 0 (nI 0) (by omega)]
  unfold rsnR noVal
  rw [valF_P hP (show 0 < 6 by omega), valF_P hP (show 1 < 6 by omega), valF_P hP (show 2 < 6 by omega), valF_P hP (show 3 < 6 by omega), valF_P hP (show 4 < 6 by omega), valF_P hP (show 5 < 6 by omega), d]
theorem rsnR_g (hL : LayW U P Wd) {g g2 : Nat → Int32} (hg : ∀ j, j < 24 → g j = g2 j) {mk ck mh : Int32} : rsnR P Wd mk ck mh g = rsnR P Wd mk ck mh g2 := by
  unfold rsnR noVal
  rw [valF_congr hL hg (show 0 < 6 by omega), valF_congr hL hg (show 1 < 6 by omega), valF_congr hL hg (show 2 < 6 by omega), valF_congr hL hg (show 3 < 6 by omega), valF_congr hL hg (show 4 < 6 by omega), valF_congr hL hg (show 5 < 6 by omega), dueR_congr hL hg]
theorem rdF_cg {i k : Nat} (h : ∀ j, 20 ≤ j → j < 1060 → V j = U j) (hi : i < 40) (hk : k < 24) : rdF V i k = rdF U i k := by
  unfold rdF
  rw [h _ (by omega) (by omega), h _ (by omega) (by omega), h (20 + 26 * i + (k + 1)) (by omega) (by omega), h (20 + 26 * i + k) (by omega) (by omega)]
theorem own_cg (hL : LayW U P Wd) (hP : ∀ f, f < 6 → P2 f = P f ∧ W2 f = Wd f) (h : ∀ j, 13 ≤ j → j < 1060 → V j = U j) {i : Nat} (hi : i < 40) : ownF P2 W2 V i = ownF P Wd U i ∧ ∀ f, f < 6 → accF P2 W2 V i f = accF P Wd U i f := by
  have e : ∀ j, j < 24 → rdF V i j = rdF U i j := fun j hj => rdF_cg (fun y y1 y2 => h y (by omega) y2) hi hj
  refine ⟨?_, fun f hf => ?_⟩
  · unfold ownF
    rw [h _ (by omega) (by omega), h 13 (by omega) (by omega), h 14 (by omega) (by omega), rsnR_P hP]
    exact rsnR_g hL e
  · unfold accF
    rw [valF_P hP hf]
    exact valF_congr hL e hf
theorem fdS_cg (hL : LayW U P Wd) (hP : ∀ f, f < 6 → P2 f = P f ∧ W2 f = Wd f) (h : ∀ j, 13 ≤ j → j < 1060 → V j = U j) {ru : Int32} : ∀ i, i ≤ 40 → fdS P2 W2 V ru i = fdS P Wd U ru i
  | 0, _ => rfl
  | i + 1, hi => by
    obtain ⟨o1, o2⟩ := own_cg hL hP h (show i < 40 by omega)
    show nxtS (ownF P2 W2 V i) (keyF P2 W2 V i) ru (fdS P2 W2 V ru i) = nxtS (ownF P Wd U i) (keyF P Wd U i) ru (fdS P Wd U ru i)
    rw [fdS_cg hL hP h i (by omega), o1]
    unfold keyF
    rw [o2 0 (by omega), o2 1 (by omega), o2 2 (by omega)]
theorem fdR_cg (hL : LayW U P Wd) (hP : ∀ f, f < 6 → P2 f = P f ∧ W2 f = Wd f) (h : ∀ j, 13 ≤ j → j < 1060 → V j = U j) {ru : Int32} {i : Nat} (hi : i < 40) : fdR P2 W2 V ru i = fdR P Wd U ru i := by
  obtain ⟨o1, o2⟩ := own_cg hL hP h hi
  unfold fdR keyF
  rw [fdS_cg hL hP h i (by omega), o1, o2 0 (by omega), o2 1 (by omega), o2 2 (by omega)]
theorem accN_cg (hL : LayW U P Wd) (hP : ∀ f, f < 6 → P2 f = P f ∧ W2 f = Wd f) (h : ∀ j, 13 ≤ j → j < 1060 → V j = U j) {ru : Int32} : ∀ n, n ≤ 40 → accN P2 W2 V ru n = accN P Wd U ru n := by
  intro n
  induction n with
  | zero => intro _; exact (show accN P2 W2 V ru 0 = 0 from rfl).trans (show accN P Wd U ru 0 = 0 from rfl).symm
  | succ n ih =>
    intro hn
    rw [accN_s, accN_s, fdR_cg hL hP h (show n < 40 by omega), ih (by omega)]
theorem own_rng (i : Nat) : ∃ t, t ≤ 4 ∧ ownF P Wd U i = nI t := by
  unfold ownF rsnR
  split
  · exact ⟨1, by omega, rfl⟩
  · split
    · exact ⟨2, by omega, rfl⟩
    · split
      · exact ⟨3, by omega, rfl⟩
      · split
        · exact ⟨4, by omega, rfl⟩
        · exact ⟨0, by omega, rfl⟩
theorem fdS_2 {ru : Int32} : ∀ i, (fdS P Wd U ru i).2 = true → ru = nI 2
  | 0, h => absurd (show false = true from h) (by decide)
  | i + 1, h => by
    have h : (nxtS (ownF P Wd U i) (keyF P Wd U i) ru (fdS P Wd U ru i)).2 = true := h
    unfold nxtS at h
    dsimp only at h
    split at h
    · rename_i q; exact fdS_2 i q
    · split at h
      · exact of_decide_eq_true h
      · exact absurd h (by decide)
/-- the reason of each card in a run -/
theorem fdR_sp {v i : Nat} (hv : v ≤ 2) : ∃ t, fdR P Wd U (nI v) i = nI t ∧ ((t ≤ 4 ∧ ownF P Wd U i = nI t) ∨ (t = 5 ∧ ownF P Wd U i = nI 0 ∧ v = 1) ∨ (t = 6 ∧ v = 2)) := by
  unfold fdR tellR
  split
  · rename_i q
    exact ⟨6, rfl, Or.inr (Or.inr ⟨rfl, (nI_eq (by omega) (by omega)).mp (fdS_2 i q)⟩)⟩
  · split
    · rename_i q
      split
      · rename_i q2
        exact ⟨6, rfl, Or.inr (Or.inr ⟨rfl, (nI_eq (by omega) (by omega)).mp q2⟩)⟩
      · rename_i q2
        refine ⟨5, rfl, Or.inr (Or.inl ⟨rfl, q.1, ?_⟩)⟩
        have h0 : ¬ v = 0 := fun e => q.2.1 (by rw [e]; rfl)
        have h2 : ¬ v = 2 := fun e => q2 (by rw [e])
        omega
    · obtain ⟨t, t1, t2⟩ := own_rng (P := P) (Wd := Wd) (U := U) i
      exact ⟨t, t2, Or.inl ⟨t1, t2⟩⟩
theorem fdR_0 {i : Nat} : fdR P Wd U (nI 0) i = ownF P Wd U i := by
  unfold fdR tellR
  rw [if_neg (fun q => absurd (fdS_2 i q) (by decide)), if_neg (fun q => q.2.1 rfl)]
theorem accN_0 {v : Nat} (hv : v ≤ 2) : ∀ n, accN P Wd U (nI v) n ≤ accN P Wd U (nI 0) n
  | 0 => Nat.le_refl 0
  | n + 1 => by
    have ih := accN_0 hv n
    rw [accN_s, accN_s, fdR_0]
    by_cases e : fdR P Wd U (nI v) n = nI 0
    · rw [if_pos e]
      obtain ⟨t, t1, t2⟩ := fdR_sp (P := P) (Wd := Wd) (U := U) (i := n) hv
      rw [t1] at e
      have e := (nI_eq (by omega) (by omega)).mp e
      rcases t2 with ⟨q1, q2⟩ | ⟨q1, -⟩ | ⟨q1, -⟩
      · rw [if_pos (by rw [q2, e])]; omega
      · omega
      · omega
    · rw [if_neg e]
      split <;> omega
/-- how many of the first reasons are 1 to 5 -/
def rfN (t : Nat → Nat) : Nat → Nat
  | 0 => 0
  | i + 1 => rfN t i + if 1 ≤ t i ∧ t i ≤ 5 then 1 else 0
theorem rfN_le {t : Nat → Nat} : ∀ n, rfN t n ≤ n
  | 0 => Nat.le_refl 0
  | n + 1 => by
    have := rfN_le (t := t) n
    show rfN t n + _ ≤ n + 1
    split <;> omega
theorem refR_N {t : Nat → Nat} {n : Nat} (ht : ∀ k, k < n → U (1063 + k) = nI (t k) ∧ t k ≤ 6) : ∀ (r k : Nat), k + r = n → refR U r k (nI (rfN t k)) = nI (rfN t n)
  | 0, k, h => by
    obtain rfl : k = n := by omega
    rfl
  | r + 1, k, h => by
    obtain ⟨h1, h2⟩ := ht k (by omega)
    unfold refR
    have e : nI (rfN t k) + (if nI 1 ≤ U (1063 + k) ∧ U (1063 + k) ≤ nI 5 then nI 1 else nI 0) = nI (rfN t (k + 1)) := by
      show _ = nI (rfN t k + if 1 ≤ t k ∧ t k ≤ 5 then 1 else 0)
      rw [h1]
      by_cases q : 1 ≤ t k ∧ t k ≤ 5
      · rw [if_pos q, if_pos ⟨nI_le q.1 (by omega), nI_le q.2 (by omega)⟩, nI_add]
      · rw [if_neg q, if_neg (fun z => q ⟨(nI_leI (by omega) (by omega)).mp z.1, (nI_leI (by omega) (by omega)).mp z.2⟩), nI_add]
    rw [e]
    exact refR_N ht r (k + 1) (by omega)
/-- what the law's check of a run finds; c counts the accepted ones -/
def AcA (U V : Nat → Int32) (v : Nat) (t : Nat → Nat) (c : Nat → Nat) : Prop := (nU V = nU U ∧ V 19 = nI (nU U) ∧ kU V = nU U ∧ nU U ≤ 40) ∧ (∀ i, i < nU U → t i ≤ 6 ∧ V (1063 + i) = nI (t i) ∧ (t i < 5 → caA V i 9 = nI (t i)) ∧ (t i = 5 → caA V i 9 = nI 0 ∧ v = 1) ∧ (t i = 6 → v = 2) ∧ c (i + 1) = c i + (if t i = 0 then 1 else 0)) ∧ c 0 = 0 ∧ c (nU U) = acA U v ∧ c (nU U) ≤ nU U ∧ acA U v ≤ acA U 0 ∧ toA V 3 = nI (rfN t (nU U)) ∧ (v = 1 → rfN t (nU U) + c (nU U) = nU U)
theorem acp_all {v : Nat} (hL : LayW U (PfU U) (WfU U)) (hw : U 19 = nI (nU U)) (hn : nU U ≤ 40) (hv : v ≤ 2) : let U1 := upd U 12 (nI v); let V := runV (PfU U1) (WfU U1) U1 (nU U1); accN (PfU U1) (WfU U1) U1 (U1 12) (nU U1) = acA U v ∧ ∃ t c, AcA U V v t c := by
  intro U1 V
  have h1 : ∀ j, ¬ j = 12 → U1 j = U j := fun j hj => upd_n hj
  have h12 : U1 12 = nI v := upd_s
  have n1 : nU U1 = nU U := by unfold nU; rw [h1 19 (by omega)]
  have P1 : ∀ f, f < 6 → PfU U1 f = PfU U f ∧ WfU U1 f = WfU U f := fun f hf => by
    unfold PfU WfU
    rw [h1 _ (by omega), h1 _ (by omega)]
    exact ⟨rfl, rfl⟩
  have ea : accN (PfU U1) (WfU U1) U1 (U1 12) (nU U1) = acA U v := by
    rw [h12, n1]
    exact accN_cg hL P1 (fun j j1 j2 => h1 j (by omega)) (nU U) hn
  refine ⟨ea, ?_⟩
  have ok := runV_ok (P := PfU U1) (Wd := WfU U1) (U := U1) (n := nU U1) (by omega)
  have hV : ∀ j, j < 1060 → V j = U1 j := fun j hj => by
    obtain ⟨V1, G, v1, v2, v3, v4, v5, v6, v7, Z, w1, -⟩ := ok
    exact (w1 j (by omega)).trans (v1 j (by omega))
  have hV2 : ∀ i, i < nU U → V (1063 + i) = fdR (PfU U) (WfU U) U (nI v) i := fun i hi => by
    obtain ⟨V1, G, v1, v2, v3, v4, v5, v6, v7, Z, w1, -⟩ := ok
    refine (w1 _ (by omega)).trans ((v6 i (by omega)).trans ?_)
    rw [h12]
    exact fdR_cg hL P1 (fun j j1 j2 => h1 j (by omega)) (by omega)
  have hk : kU V = nU U := by
    obtain ⟨V1, G, v1, v2, v3, v4, v5, v6, v7, Z, w1, -⟩ := ok
    unfold kU
    rw [show V 1062 = nI (nU U1) from (w1 _ (by omega)).trans v4, cl_nI (by omega), n1]
  have hVU : ∀ j, 13 ≤ j → j < 1060 → V j = U j := fun j j1 j2 => (hV j j2).trans (h1 j (by omega))
  have PV : ∀ f, f < 6 → PfU V f = PfU U f ∧ WfU V f = WfU U f := fun f hf => by
    unfold PfU WfU
    rw [hV _ (by omega), hV _ (by omega), h1 _ (by omega), h1 _ (by omega)]
    exact ⟨rfl, rfl⟩
  have hc9 : ∀ i, i < nU U → caA V i 9 = ownF (PfU U) (WfU U) U i := fun i hi => (own_cg (P2 := PfU V) (W2 := WfU V) hL PV hVU (show i < 40 by omega)).1
  obtain ⟨t, ht⟩ := pickN (P := fun i u => fdR (PfU U) (WfU U) U (nI v) i = nI u ∧ ((u ≤ 4 ∧ ownF (PfU U) (WfU U) U i = nI u) ∨ (u = 5 ∧ ownF (PfU U) (WfU U) U i = nI 0 ∧ v = 1) ∨ (u = 6 ∧ v = 2))) (n := nU U) (fun i _ => fdR_sp hv)
  have ht6 : ∀ i, i < nU U → t i ≤ 6 := fun i hi => by
    rcases (ht i hi).2 with ⟨q, -⟩ | ⟨q, -⟩ | ⟨q, -⟩ <;> omega
  have hcs : ∀ i, i < nU U → accN (PfU U) (WfU U) U (nI v) (i + 1) = accN (PfU U) (WfU U) U (nI v) i + (if t i = 0 then 1 else 0) := fun i hi => by
    rw [accN_s, (ht i hi).1]
    by_cases e : t i = 0
    · rw [if_pos (by rw [e]), if_pos e]
    · rw [if_neg (fun q => e ((nI_eq (by have := ht6 i hi; omega) (by omega)).mp q)), if_neg e]; rfl
  refine ⟨t, fun i => accN (PfU U) (WfU U) U (nI v) i, ⟨?_, (hVU 19 (by omega) (by omega)).trans hw, hk, hn⟩, fun i hi => ⟨ht6 i hi, (hV2 i hi).trans (ht i hi).1, fun h5 => ?_, fun h5 => ?_, fun h6 => ?_, hcs i hi⟩, rfl, rfl, accN_le _ _ _ _ _, accN_0 hv _, ?_, fun h => ?_⟩
  · unfold nU
    rw [hVU 19 (by omega) (by omega)]
  · rw [hc9 i hi]
    rcases (ht i hi).2 with ⟨q, q2⟩ | ⟨q, -⟩ | ⟨q, -⟩
    · exact q2
    · omega
    · omega
  · rw [hc9 i hi]
    rcases (ht i hi).2 with ⟨q, q2⟩ | ⟨q, q2, q3⟩ | ⟨q, -⟩
    · omega
    · exact ⟨q2, q3⟩
    · omega
  · rcases (ht i hi).2 with ⟨q, q2⟩ | ⟨q, q2, q3⟩ | ⟨q, q2⟩
    · omega
    · omega
    · exact q2
  · show refR V (kU V) 0 (nI 0) = _
    rw [hk]
    exact refR_N (t := t) (fun k hk => ⟨(hV2 k hk).trans (ht k hk).1, ht6 k hk⟩) (nU U) 0 (by omega)
  · have key : ∀ n, n ≤ nU U → rfN t n + accN (PfU U) (WfU U) U (nI v) n = n := by
      intro n
      induction n with
      | zero => intro _; rfl
      | succ n ih =>
        intro hn
        have h1 := ih (by omega)
        have h2 := hcs n (by omega)
        have h3 : t n ≤ 5 := by
          rcases (ht n (by omega)).2 with ⟨q, -⟩ | ⟨q, -⟩ | ⟨q, q2⟩ <;> omega
        show rfN t n + (if 1 ≤ t n ∧ t n ≤ 5 then 1 else 0) + _ = n + 1
        rw [h2]
        by_cases e : t n = 0
        · rw [if_pos e, if_neg (by omega)]; omega
        · rw [if_neg e, if_pos ⟨by omega, h3⟩]; omega
    exact key (nU U) (Nat.le_refl _)
end ACP
