/-! what the object answers, as functions of its numbers -/
section VQS
variable {sA x Y : Nat} {gs : Nat → Int32} {H : am_H} {S : St5} {L : List (Nat → Int32)}
theorem sT_rng {g : Nat → Int32} : ∀ {m : Nat}, (∀ k, k < m → ∃ u, u < 10000 ∧ g k = nI u) → ∃ t, t ≤ 9999 * m ∧ sT g m = nI t
  | 0, _ => ⟨0, by omega, rfl⟩
  | m + 1, h => by
    obtain ⟨t, t1, t2⟩ := sT_rng (m := m) (fun k hk => h k (by omega))
    obtain ⟨u, u1, u2⟩ := h m (by omega)
    rw [sT_s, t2, u2, nI_add]
    exact ⟨t + u, by omega, rfl⟩
def kU (U : Nat → Int32) : Nat := (U 1062).toNatClampNeg
def lU (U : Nat → Int32) : Nat := (U 1304).toNatClampNeg
def accU (U : Nat → Int32) : Nat → Nat → Int32 := fun k f => U (1104 + 5 * k + f)
theorem Vo.un {h : Nat → Option am_C} {z : Nat × Nat} (V : Vo sA gs x Y (h, z) S L) (w : WOK S.1) : ∃ PA pm fk fp pe K R se co, RstI h z x (x + 158) Y PA pm S.2.1 S.2.2.1 S.2.2.2.1 S.2.2.2.2 fk fp ∧ StAt h (x + 1) (PfU S.1) (WfU S.1) (nU S.1) pe K R se co ∧ StR S.1 (PfU S.1) (WfU S.1) (nU S.1) pe K R se co ∧ ScrI h x ∧ Hs PA pm L ∧ pm ≤ 8 ∧ RepOK S.1 (mU S.1) ∧ DigW S.1 (nU S.1) ∧ (∀ c, c < nU S.1 → ∃ t, t < 24 ∧ S.1 (20 + 26 * c + 25) = nI t) ∧ R.1 = lU S.1 ∧ R.2.1 = kU S.1 := by
  obtain ⟨hsA, hst, PA, pm, fk, fp, r, st, sc, hh⟩ := V
  obtain ⟨pe, K, R, se, co, sa, sr⟩ := st.can
  obtain ⟨⟨n0, okd⟩, m, rep⟩ := w
  have hpm : pm ≤ 8 := by obtain ⟨_, _, ⟨_, _, q, _⟩, _⟩ := r; exact q.2.2.2.1
  have en : nU S.1 = n0 := by
    unfold nU
    rw [okd.1, cl_nI (by have := okd.2.1; omega)]
  have em : mU S.1 = m := by
    unfold mU
    rw [rep.1, cl_nI (by have := rep.2.1; omega)]
  have e1 : R.1 = lU S.1 := by
    unfold lU
    rw [sr.2.2.2.1.1, cl_nI (by have := sr.2.2.2.1.2.1; omega)]
  have e2 : R.2.1 = kU S.1 := by
    unfold kU
    rw [sr.2.2.2.1.2.2.1, cl_nI (by have := sr.2.2.2.1.2.2.2.1; omega)]
  exact ⟨PA, pm, fk, fp, pe, K, R, se, co, r, sa, sr, sc, hh, hpm, by rw [em]; exact rep, by rw [en]; exact okd.2.2.1, by rw [en]; exact okd.2.2.2, e1, e2⟩
/-- only what is worked with has changed -/
theorem Vo.q2 {h h2 : Nat → Option am_C} {z : Nat × Nat} (V : Vo sA gs x Y (h, z) S L) (sc : ScrI h2 x) (e : ∀ a, (a < x + 101 ∨ x + 158 ≤ a) → h2 a = h a) : Vo sA gs x Y (h2, z) S L := by
  obtain ⟨hsA, hst, PA, pm, fk, fp, r, st, -, hh⟩ := V
  exact ⟨hsA, (e sA (by omega)).trans hst, PA, pm, fk, fp, r.fr (fun y hy => e y (by omega)), st.fr (fun y y1 y2 => e y (by omega)), sc, hh⟩
theorem Vo.nw {h : Nat → Option am_C} {z : Nat × Nat} (V : Vo sA gs x Y (h, z) S L) (w : WOK S.1) : S.1 19 = nI (nU S.1) ∧ nU S.1 ≤ 40 ∧ S.1 1304 = nI (lU S.1) ∧ lU S.1 ≤ 161 ∧ S.1 1062 = nI (kU S.1) ∧ kU S.1 ≤ 40 ∧ LayW S.1 (PfU S.1) (WfU S.1) ∧ LayV (WfU S.1) := by
  obtain ⟨PA, pm, fk, fp, pe, K, R, se, co, r, sa, sr, sc, hh, hpm, rep, hD, hT, e1, e2⟩ := V.un w
  rw [← e1, ← e2]
  exact ⟨sr.2.2.1.1, sr.2.2.1.2.1, sr.2.2.2.1.1, sr.2.2.2.1.2.1, sr.2.2.2.1.2.2.1, sr.2.2.2.1.2.2.2.1, sr.1, sr.2.1⟩
theorem nI_j {a b : Nat} (h : nI a = nI b) (ha : a < 100000) (hb : b < 100000) : a = b := (nI_eq (by omega) (by omega)).mp h
def toA (U : Nat → Int32) (j : Nat) : Int32 := if j = 0 then U 19 else if j = 1 then U 1304 else if j = 2 then (if U 1060 = 0 then (-1000009) else U 1103) else if j = 3 then refR U (kU U) 0 (nI 0) else ordR (PfU U) (WfU U) U (nU U) 0 (-1)
theorem v_told (V : Vo sA gs x Y H S L) (w : WOK S.1) {j : Nat} (hj : j < 5) : Rn sA mX11_told 0 [some (.ref x), some (.int (nI j))] [] H (fun r H' => r = some (.int (toA S.1 j)) ∧ Vo sA gs x Y H' S L) := by
  obtain ⟨h, z⟩ := H
  obtain ⟨PA, pm, fk, fp, pe, K, R, se, co, r, sa, sr, sc, hh, hpm, rep, hD, hT, e1, e2⟩ := V.un w
  refine c11_told r sa sr sc rep hD (fun e => ?_) (fun e => ?_) (fun e => ?_) (fun e => ?_) (fun e h2 sc2 fr => ?_) (fun e => ?_) (fun e => ?_) (fun e => absurd rfl (e j (by omega)))
  · obtain rfl := nI_j e (by omega) (by omega); exact ⟨rfl, V⟩
  · obtain rfl := nI_j e (by omega) (by omega); exact ⟨rfl, V⟩
  · obtain rfl := nI_j e (by omega) (by omega); exact ⟨rfl, V⟩
  · obtain rfl := nI_j e (by omega) (by omega)
    rw [e2]
    exact ⟨rfl, V⟩
  · obtain rfl := nI_j e (by omega) (by omega)
    exact ⟨rfl, V.q2 sc2 (fun a ha => fr a (by omega))⟩
  · have := nI_j e (by omega) (by omega); omega
  · have := nI_j e (by omega) (by omega); omega
theorem v_line (V : Vo sA gs x Y H S L) (w : WOK S.1) {k j : Nat} (hk : k < lU S.1) (hj : j < 9) : Rn sA mX11_line 0 [some (.ref x), some (.int (nI k)), some (.int (nI j))] [] H (fun r H' => r = some (.int (S.1 (1305 + 9 * k + j))) ∧ Vo sA gs x Y H' S L) := by
  obtain ⟨h, z⟩ := H
  have q := V.nw w
  obtain ⟨hsA, hst, PA, pm, fk, fp, r, st, sc, hh⟩ := id V
  refine c11_line r st q.2.2.2.1 q.2.2.1 (fun e => absurd ⟨hk, hj, rfl, rfl⟩ (e k j)) (fun k2 j2 h1 h2 e3 e4 => ?_)
  obtain rfl := nI_j e3 (by omega) (by omega)
  obtain rfl := nI_j e4 (by omega) (by omega)
  exact ⟨rfl, V⟩
theorem v_lineB (V : Vo sA gs x Y H S L) (w : WOK S.1) {b : Int32} : Rn sA mX11_line 0 [some (.ref x), some (.int (nI (lU S.1))), some (.int b)] [] H (fun r H' => r = some (.int (-1000001)) ∧ Vo sA gs x Y H' S L) := by
  obtain ⟨h, z⟩ := H
  have q := V.nw w
  obtain ⟨hsA, hst, PA, pm, fk, fp, r, st, sc, hh⟩ := id V
  refine c11_line r st q.2.2.2.1 q.2.2.1 (fun e => ⟨rfl, V⟩) (fun k2 j2 h1 h2 e3 e4 => ?_)
  have := nI_j e3 (by omega) (by omega)
  omega
theorem v_reason (V : Vo sA gs x Y H S L) (w : WOK S.1) {k : Nat} (hk : k < kU S.1) : Rn sA mX11_reason 0 [some (.ref x), some (.int (nI k))] [] H (fun r H' => r = some (.int (S.1 (1063 + k))) ∧ Vo sA gs x Y H' S L) := by
  obtain ⟨h, z⟩ := H
  have q := V.nw w
  obtain ⟨hsA, hst, PA, pm, fk, fp, r, st, sc, hh⟩ := id V
  refine c11_reason r st q.2.2.2.2.2.1 q.2.2.2.2.1 (fun e => absurd rfl (e k hk)) (fun k2 h1 e3 => ?_)
  obtain rfl := nI_j e3 (by omega) (by omega)
  exact ⟨rfl, V⟩
theorem v_setting (V : Vo sA gs x Y H S L) {k : Nat} (hk : k < 4) : Rn sA mX11_setting 0 [some (.ref x), some (.int (nI k))] [] H (fun r H' => r = some (.int (S.1 (12 + k))) ∧ Vo sA gs x Y H' S L) := by
  obtain ⟨h, z⟩ := H
  obtain ⟨hsA, hst, PA, pm, fk, fp, r, st, sc, hh⟩ := id V
  refine c11_setting r st hst (fun e => absurd rfl (e k hk)) (fun k2 h1 e3 => ?_)
  obtain rfl := nI_j e3 (by omega) (by omega)
  exact ⟨rfl, V⟩
def agN (U : Nat → Int32) (d : Int32) (j : Nat) : Int32 := inR (U 1061) (accU U) (mU U) d j (mU U)
theorem v_again (V : Vo sA gs x Y H S L) (w : WOK S.1) {d : Int32} {j : Nat} (hd : ¬ d < (-1)) (hj : j < 5) : Rn sA mX11_again 0 [some (.ref x), some (.int d), some (.int (nI j))] [] H (fun r H' => r = some (.int (agN S.1 d j)) ∧ Vo sA gs x Y H' S L) := by
  obtain ⟨h, z⟩ := H
  obtain ⟨PA, pm, fk, fp, pe, K, R, se, co, r, sa, sr, sc, hh, hpm, rep, hD, hT, e1, e2⟩ := V.un w
  refine c11_again r sa sr sc rep (fun e => ?_) (fun j2 h1 h2 e3 h2 sc2 fr => ?_)
  · rcases e with e | e
    · exact absurd e hd
    · exact absurd rfl (e j hj)
  · obtain rfl := nI_j e3 (by omega) (by omega)
    exact ⟨rfl, V.q2 sc2 (fun a ha => fr a (by omega))⟩
def agA (U : Nat → Int32) : Int32 := if lU U = 0 then nI 1 else bI (agB (fun j => U (1305 + 9 * (lU U - 1) + 4 + j)) (U 1061) (accU U) (mU U) 4)
theorem v_agrees (V : Vo sA gs x Y H S L) (w : WOK S.1) : Rn sA mX11_agrees 0 [some (.ref x), none] [] H (fun r H' => r = some (.int (agA S.1)) ∧ Vo sA gs x Y H' S L) := by
  obtain ⟨h, z⟩ := H
  obtain ⟨PA, pm, fk, fp, pe, K, R, se, co, r, sa, sr, sc, hh, hpm, rep, hD, hT, e1, e2⟩ := V.un w
  refine c11_agrees r sa sr sc rep (fun e => ?_) (fun k e hb h2 sc2 fr => ?_) (fun k e hb h2 sc2 fr => ?_)
  · unfold agA
    rw [← e1, if_pos e]
    exact ⟨rfl, V⟩
  · refine ⟨?_, V.q2 sc2 (fun a ha => fr a (by omega))⟩
    unfold agA
    rw [← e1, if_neg (by omega), e, show k + 1 - 1 = k by omega, show agB (fun j => S.1 (1305 + 9 * k + 4 + j)) (S.1 1061) (accU S.1) (mU S.1) 4 = true from hb]
    rfl
  · refine ⟨?_, V.q2 sc2 (fun a ha => fr a (by omega))⟩
    unfold agA
    rw [← e1, if_neg (by omega), e, show k + 1 - 1 = k by omega, show agB (fun j => S.1 (1305 + 9 * k + 4 + j)) (S.1 1061) (accU S.1) (mU S.1) 4 = false from hb]
    rfl
def meA (U : Nat → Int32) : UInt32 := if lU U = 0 then FP.fconst0 else if U (1305 + 9 * (lU U - 1) + 4 + 1) = 0 then FP.fconst0 else meanV (U (1305 + 9 * (lU U - 1) + 4 + 2)) (U (1305 + 9 * (lU U - 1) + 4 + 1))
theorem v_mean (V : Vo sA gs x Y H S L) (w : WOK S.1) : vf_n32 (meA S.1) ∧ Rn sA mX11_mean 0 [some (.ref x), none] [] H (fun r H' => r = some (.float (meA S.1)) ∧ Vo sA gs x Y H' S L) := by
  obtain ⟨h, z⟩ := H
  obtain ⟨PA, pm, fk, fp, pe, K, R, se, co, r, sa, sr, sc, hh, hpm, rep, hD, hT, e1, e2⟩ := V.un w
  have hR1 := sr.2.2.2.1.2.1
  have hh : ∀ q, R.1 = q + 1 → ∃ t, t < 2 ^ 20 ∧ S.1 (1305 + 9 * q + 4 + 1) = nI t := by
    intro q hq
    obtain ⟨-, r1, -⟩ := rep.rp sr.2.2.2.1
    obtain ⟨-, -, r5⟩ := r1 q hq
    have e5 := sr.2.2.2.1.2.2.2.2.2.1 q (by omega) 5 (by omega)
    obtain ⟨t, t1, t2⟩ := sT_rng (g := fun k => S.1 (1104 + 5 * k + 3)) (m := mU S.1) (fun k hk => rep.2.2.1 k hk 3 (by omega))
    refine ⟨t, by have := rep.2.1; omega, ?_⟩
    rw [← t2, ← r5, e5]
  have hv : ∀ q, R.1 = q + 1 → ¬ S.1 (1305 + 9 * q + 4 + 1) = 0 → vf_n32 (meanV (S.1 (1305 + 9 * q + 4 + 2)) (S.1 (1305 + 9 * q + 4 + 1))) := by
    intro q hq h0
    obtain ⟨t, t1, t2⟩ := hh q hq
    rw [t2] at h0 ⊢
    exact mean_n32 (Nat.pos_of_ne_zero (fun e => h0 (by rw [e]; rfl))) t1
  have hpos : ∀ q, R.1 = q + 1 → ¬ S.1 (1305 + 9 * q + 4 + 1) = 0 → ¬ S.1 (1305 + 9 * q + 4 + 1) ≤ 0 := by
    intro q hq h0
    obtain ⟨t, t1, t2⟩ := hh q hq
    rw [t2] at h0 ⊢
    exact nI_nle (Nat.pos_of_ne_zero (fun e => h0 (by rw [e]; rfl))) (by omega)
  refine ⟨?_, c11_mean r sa sr sc rep hv hpos (fun e => ?_) (fun k e => ?_)⟩
  · unfold meA
    by_cases h0 : lU S.1 = 0
    · rw [if_pos h0]; exact fc0_n32
    · rw [if_neg h0]
      by_cases h1 : S.1 (1305 + 9 * (lU S.1 - 1) + 4 + 1) = 0
      · rw [if_pos h1]; exact fc0_n32
      · rw [if_neg h1]; exact hv (lU S.1 - 1) (by omega) h1
  · unfold meA
    rw [← e1, if_pos e]
    exact ⟨rfl, V⟩
  · unfold meA
    rw [← e1, e, show k + 1 - 1 = k by omega, if_neg (show ¬ k + 1 = 0 by omega)]
    exact ⟨rfl, V⟩
theorem v_ranked (V : Vo sA gs x Y H S L) (w : WOK S.1) {a : Int32} {j : Nat} (ha : ¬ a < 0) (hj : j < 4) : Rn sA mX11_ranked 0 [some (.ref x), some (.int a), some (.int (nI j)), none] [] H (fun r H' => r = some (.int (rkL (S.1 1061) (accU S.1) (mU S.1) a j (mU S.1) 0)) ∧ Vo sA gs x Y H' S L) := by
  obtain ⟨h, z⟩ := H
  obtain ⟨PA, pm, fk, fp, pe, K, R, se, co, r, sa, sr, sc, hh, hpm, rep, hD, hT, e1, e2⟩ := V.un w
  refine c11_ranked r sa sr sc rep (fun e => ?_) (fun j2 h1 h2 e3 h2 sc2 fr => ?_)
  · rcases e with e | e
    · exact absurd e ha
    · exact absurd rfl (e j hj)
  · obtain rfl := nI_j e3 (by omega) (by omega)
    exact ⟨rfl, V.q2 sc2 (fun a ha => fr a (by omega))⟩
def dfA (U : Nat → Int32) (v : Nat) : Int32 := if U (16 + v) = (-1000009) ∨ U 1060 = 0 then (-1000009) else difR U v (mU U) 0 (nI 0) - U (16 + v)
theorem v_differs (V : Vo sA gs x Y H S L) (w : WOK S.1) {v : Nat} (hv : v < 3) : Rn sA mX11_differs 0 [some (.ref x), some (.int (nI v))] [] H (fun r H' => r = some (.int (dfA S.1 v)) ∧ Vo sA gs x Y H' S L) := by
  obtain ⟨h, z⟩ := H
  obtain ⟨PA, pm, fk, fp, pe, K, R, se, co, r, sa, sr, sc, hh, hpm, rep, hD, hT, e1, e2⟩ := V.un w
  refine c11_differs r sa sr sc rep (fun e => absurd rfl (e v hv)) (fun v2 h1 e3 => ?_)
  obtain rfl := nI_j e3 (by omega) (by omega)
  exact ⟨rfl, V⟩
def psU (U : Nat → Int32) : Int32 := paR U (nU U) (PfU U) (WfU U) (WfU U 0 + WfU U 1 + WfU U 2) 0
theorem v_passes (V : Vo sA gs x Y H S L) (w : WOK S.1) : Rn sA mX11_passes 0 [some (.ref x), none, none] [] H (fun r H' => r = some (.int (psU S.1)) ∧ Vo sA gs x Y H' S L) := by
  obtain ⟨h, z⟩ := H
  obtain ⟨PA, pm, fk, fp, pe, K, R, se, co, r, sa, sr, sc, hh, hpm, rep, hD, hT, e1, e2⟩ := V.un w
  exact c11_passes r.2.1 sa sr hD sc.1 (fun h2 G2 g2 g3 f4 so fr => ⟨rfl, V.q2 (sc.so so (fun y y1 y2 => fr y (by omega))) (fun a ha => fr a (by omega))⟩)
def acA (U : Nat → Int32) (v : Nat) : Nat := accN (PfU U) (WfU U) U (nI v) (nU U)
theorem v_accepts (V : Vo sA gs x Y H S L) (w : WOK S.1) (hg : GsOK gs) {v : Nat} (hv : v ≤ 2) : Rn sA mX11_accepts 0 [some (.ref x), some (.int (nI v))] [] H (fun r H' => r = some (.int (nI (acA S.1 v))) ∧ Vo sA gs x Y H' S L) := by
  obtain ⟨h, z⟩ := H
  obtain ⟨PA, pm, fk, fp, pe, K, R, se, co, r, sa, sr, sc, hh, hpm, rep, hD, hT, e1, e2⟩ := V.un w
  refine c11_accepts r.2.1 sa sr.1 sr.2.2.2.2.1 sr.2.2.1 hT V.2.1 V.1 (hg 0 (by omega)) sc (fun e => absurd rfl (e v hv)) (fun v2 h1 e3 h2 sc2 fr => ?_)
  obtain rfl := nI_j e3 (by omega) (by omega)
  exact ⟨rfl, V.q2 sc2 (fun a ha => fr a (by omega))⟩
def caA (U : Nat → Int32) (c j : Nat) : Int32 := if j < 6 then valF (PfU U) (WfU U) (colW U c) j else if j = 6 then dueR (PfU U) (WfU U) (colW U c) else if j = 7 then U (20 + 26 * c + 24) else if j = 8 then U (20 + 26 * c + 25) else rsnR (PfU U) (WfU U) (U (20 + 26 * c + 24)) (U 13) (U 14) (rdF U c)
theorem v_card (V : Vo sA gs x Y H S L) (w : WOK S.1) {c j : Nat} (hc : c < nU S.1) (hj : j < 10) : Rn sA mX11_card 0 [some (.ref x), some (.int (nI c)), some (.int (nI j)), none] [] H (fun r H' => r = some (.int (caA S.1 c j)) ∧ Vo sA gs x Y H' S L) := by
  obtain ⟨h, z⟩ := H
  obtain ⟨PA, pm, fk, fp, pe, K, R, se, co, r, sa, sr, sc, hh, hpm, rep, hD, hT, e1, e2⟩ := V.un w
  have hn := (V.nw w).2.1
  refine c11_card r sa sr sc rep hT V.2.1 V.1 (fun e => absurd ⟨hc, hj, rfl, rfl⟩ (e c j)) (fun c2 f h1 h2 e3 e4 => ?_) (fun c2 h1 e3 e4 => ?_) (fun c2 h1 e3 e4 => ?_) (fun c2 h1 e3 e4 => ?_) (fun c2 h1 e3 e4 h2 sc2 fr => ?_)
  · obtain rfl := nI_j e3 (by omega) (by omega)
    obtain rfl := nI_j e4 (by omega) (by omega)
    refine ⟨?_, V⟩
    unfold caA
    rw [if_pos h2]
  · obtain rfl := nI_j e3 (by omega) (by omega)
    obtain rfl := nI_j e4 (by omega) (by omega)
    exact ⟨rfl, V⟩
  · obtain rfl := nI_j e3 (by omega) (by omega)
    obtain rfl := nI_j e4 (by omega) (by omega)
    exact ⟨rfl, V⟩
  · obtain rfl := nI_j e3 (by omega) (by omega)
    obtain rfl := nI_j e4 (by omega) (by omega)
    exact ⟨rfl, V⟩
  · obtain rfl := nI_j e3 (by omega) (by omega)
    obtain rfl := nI_j e4 (by omega) (by omega)
    exact ⟨rfl, V.q2 sc2 (fun a ha => fr a (by omega))⟩
end VQS
