/-! what the object becomes, as functions of its numbers -/
section VCS
variable {sA x Y : Nat} {gs : Nat → Int32} {H : am_H} {S : St5} {L : List (Nat → Int32)} {a b c d : Int32}
theorem Vo.out {h h3 : Nat → Option am_C} {z z3 : Nat × Nat} {V PA IM T : Nat → Int32} {pm fl l : Nat} {fk fp : Int32} {L2 : List (Nat → Int32)} (v : Vo sA gs x Y (h, z) S L) (o : OutI h h3 z3 x (x + 158) Y V PA pm IM fl T l fk fp) (hs : Hs PA pm L2) : Vo sA gs x Y (h3, z3) (V, IM, fl, T, l) L2 := ⟨v.1, (o.2.2.2 sA (Or.inl v.1)).trans v.2.1, PA, pm, fk, fp, o.2.1, o.1, o.2.2.1, hs⟩
abbrev cI (a : Int32) : Nat := a.toNatClampNeg
theorem cI_n {k : Nat} (h : k < 100000) : cI (nI k) = k := cl_nI (by omega)
theorem OKS.st {S : St5} {V : Nat → Int32} (k : OKS S) (h : OKU V) : OKS (V, S.2) := ⟨h, k.2⟩
/-- what a change records -/
noncomputable def rcL (p : Prop) (S : St5) (L : List (Nat → Int32)) : List (Nat → Int32) := icl p (S.1 :: L) L
def layP (a b c : Int32) : Prop := ∃ f p q, layOK a b c f p q
noncomputable def fLay (a b c : Int32) (S : St5) : Int32 × St5 := icl (layP a b c) (S.1 (0 + 2 * cI a), (upd (upd S.1 (0 + 2 * cI a) b) (0 + 2 * cI a + 1) c, S.2)) ((-1000001), S)
theorem v_lay (V : Vo sA gs x Y H S L) (k : OKS S) (hl : L.length ≤ 7) : OKS (fLay a b c S).2 ∧ Rn sA mX11_lay 0 [some (.ref x), some (.int a), some (.int b), some (.int c), none] [] H (fun r H' => r = some (.int (fLay a b c S).1) ∧ Vo sA gs x Y H' (fLay a b c S).2 (rcL (layP a b c) S L)) := by
  obtain ⟨h, z⟩ := H
  obtain ⟨PA, pm, fk, fp, pe, K, R, se, co, r, sa, sr, sc, hh, hpm, rep, hD, hT, e1, e2⟩ := V.un k.1.1
  refine ⟨?_, c11_lay r V.2.2.choose_spec.choose_spec.choose_spec.choose_spec.2.1 sc (fun bad => ?_) (fun f p q ok h3 z3 o => ?_)⟩
  · unfold fLay
    by_cases hp : layP a b c
    · rw [icl_t hp]
      obtain ⟨f, p, q, h1, h2, h3, h4, h5, h6, h7⟩ := hp
      refine k.st (k.1.lo (fun j h _ => by rw [h5, cI_n (by omega), upd_n (by omega), upd_n (by omega)]) ⟨fun q hq => by rw [h5, cI_n (by omega), upd_n (by omega), upd_n (by omega)]; exact k.1.2.1.1 q hq, fun q hq => by rw [h5, cI_n (by omega), upd_n (by omega), upd_n (by omega)]; exact k.1.2.1.2 q hq⟩)
    · rw [icl_f hp]; exact k
  · have hp : ¬ layP a b c := fun ⟨f, p, q, h⟩ => bad f p q h
    unfold fLay rcL
    rw [icl_f hp, icl_f hp]
    exact ⟨rfl, V⟩
  · have hp : layP a b c := ⟨f, p, q, ok⟩
    unfold fLay rcL
    rw [icl_t hp, icl_t hp, ok.2.2.2.2.1, cI_n (by have := ok.1; omega)]
    exact ⟨rfl, V.out o (hh.rc hl hpm)⟩
def setP (a b : Int32) : Prop := ∃ k v, setOK a b k v
noncomputable def fSet (a b : Int32) (S : St5) : Int32 × St5 := icl (setP a b) (S.1 (12 + cI a), (upd S.1 (12 + cI a) b, S.2)) ((-1000001), S)
theorem v_set (V : Vo sA gs x Y H S L) (k : OKS S) (hl : L.length ≤ 7) (hg : GsOK gs) : OKS (fSet a b S).2 ∧ Rn sA mX11_set 0 [some (.ref x), some (.int a), some (.int b), none] [] H (fun r H' => r = some (.int (fSet a b S).1) ∧ Vo sA gs x Y H' (fSet a b S).2 (rcL (setP a b) S L)) := by
  obtain ⟨h, z⟩ := H
  obtain ⟨PA, pm, fk, fp, pe, K, R, se, co, r, sa, sr, sc, hh, hpm, rep, hD, hT, e1, e2⟩ := V.un k.1.1
  refine ⟨?_, c11_set r ⟨_, _, _, _, _, _, _, _, sa, sr⟩ sc V.2.1 V.1 hg (fun bad => ?_) (fun q v ok h3 z3 o => ?_)⟩
  · unfold fSet
    by_cases hp : setP a b
    · rw [icl_t hp]
      obtain ⟨q, v, h1, h2, h3, h4⟩ := hp
      rw [h3, cI_n (by omega)]
      refine k.st (k.1.lo (fun j h _ => upd_n (by omega)) ⟨fun y hy => ?_, fun y hy => by rw [upd_n (by omega)]; exact k.1.2.1.2 y hy⟩)
      by_cases e : y = q
      · subst e
        rw [upd_s]
        refine ⟨v, ?_, h4⟩
        revert h2
        split
        · omega
        · split <;> omega
      · rw [upd_n (by omega)]; exact k.1.2.1.1 y hy
    · rw [icl_f hp]; exact k
  · have hp : ¬ setP a b := fun ⟨f, p, h⟩ => bad f p h
    unfold fSet rcL
    rw [icl_f hp, icl_f hp]
    exact ⟨rfl, V⟩
  · have hp : setP a b := ⟨q, v, ok⟩
    unfold fSet rcL
    rw [icl_t hp, icl_t hp, ok.2.2.1, cI_n (by have := ok.1; omega)]
    exact ⟨rfl, V.out o (hh.rc hl hpm)⟩
def ctlP (a b : Int32) : Prop := ∃ k, ctlOK a b k
noncomputable def fCtl (a b : Int32) (S : St5) : Int32 × St5 := icl (ctlP a b) (S.1 (16 + cI a), (upd S.1 (16 + cI a) b, S.2)) ((-1000001), S)
theorem v_control (V : Vo sA gs x Y H S L) (k : OKS S) (hl : L.length ≤ 7) : OKS (fCtl a b S).2 ∧ Rn sA mX11_control 0 [some (.ref x), some (.int a), some (.int b), none] [] H (fun r H' => r = some (.int (fCtl a b S).1) ∧ Vo sA gs x Y H' (fCtl a b S).2 (rcL (ctlP a b) S L)) := by
  obtain ⟨h, z⟩ := H
  obtain ⟨PA, pm, fk, fp, pe, K, R, se, co, r, sa, sr, sc, hh, hpm, rep, hD, hT, e1, e2⟩ := V.un k.1.1
  refine ⟨?_, c11_control r ⟨_, _, _, _, _, _, _, _, sa, sr⟩ sc (fun bad => ?_) (fun q ok h3 z3 o => ?_)⟩
  · unfold fCtl
    by_cases hp : ctlP a b
    · rw [icl_t hp]
      obtain ⟨q, h1, h2, h3⟩ := hp
      rw [h2, cI_n (by omega)]
      refine k.st (k.1.lo (fun j h _ => upd_n (by omega)) ⟨fun y hy => by rw [upd_n (by omega)]; exact k.1.2.1.1 y hy, fun y hy => ?_⟩)
      by_cases e : y = q
      · subst e
        rw [upd_s]
        exact h3
      · rw [upd_n (by omega)]; exact k.1.2.1.2 y hy
    · rw [icl_f hp]; exact k
  · have hp : ¬ ctlP a b := fun ⟨f, h⟩ => bad f h
    unfold fCtl rcL
    rw [icl_f hp, icl_f hp]
    exact ⟨rfl, V⟩
  · have hp : ctlP a b := ⟨q, ok⟩
    unfold fCtl rcL
    rw [icl_t hp, icl_t hp, ok.2.1, cI_n (by have := ok.1; omega)]
    exact ⟨rfl, V.out o (hh.rc hl hpm)⟩
def inP (a : Int32) (n : Nat) : Prop := ∃ c, c < n ∧ a = nI c
noncomputable def fTake (a : Int32) (S : St5) : Int32 × St5 := icl (inP a (nU S.1)) (nI (nU S.1 - 1), (upd (dkV S.1 (nU S.1) (tkO (cI a) (nU S.1 - 1))) 19 (nI (nU S.1 - 1)), S.2)) ((-1000001), S)
theorem v_take (V : Vo sA gs x Y H S L) (k : OKS S) (hl : L.length ≤ 7) : OKS (fTake a S).2 ∧ Rn sA mX11_take 0 [some (.ref x), some (.int a)] [] H (fun r H' => r = some (.int (fTake a S).1) ∧ Vo sA gs x Y H' (fTake a S).2 (rcL (inP a (nU S.1)) S L)) := by
  obtain ⟨h, z⟩ := H
  obtain ⟨PA, pm, fk, fp, pe, K, R, se, co, r, sa, sr, sc, hh, hpm, rep, hD, hT, e1, e2⟩ := V.un k.1.1
  obtain ⟨w1, w2, -⟩ := V.nw k.1.1
  refine ⟨?_, c11_take r ⟨_, _, _, _, _, _, _, _, sa, sr⟩ sc w2 w1 (fun bad => ?_) (fun q hq ok h3 z3 fr o => ?_)⟩
  · unfold fTake
    by_cases hp : inP a (nU S.1)
    · rw [icl_t hp]
      obtain ⟨q, h1, h2⟩ := hp
      rw [h2, cI_n (by omega)]
      have dk := dkV_ok (U := S.1) (n := nU S.1) (o := tkO q (nU S.1 - 1))
      exact k.st (k.1.hi (k.1.1.take w1 w2 h1 dk rfl) (fun j hj => by rw [upd_n (by omega)]; exact dk.2 j (by omega)) (fun j j1 j2 => by rw [upd_n (by omega)]; exact dk.2 j (by omega)))
    · rw [icl_f hp]; exact k
  · have hp : ¬ inP a (nU S.1) := fun ⟨f, h1, h2⟩ => bad f h1 h2
    unfold fTake rcL
    rw [icl_f hp, icl_f hp]
    exact ⟨rfl, V⟩
  · have hp : inP a (nU S.1) := ⟨q, hq, ok⟩
    unfold fTake rcL
    rw [icl_t hp, icl_t hp, ok, cI_n (by omega)]
    exact ⟨rfl, V.out (o _ _ dkV_ok rfl) (hh.rc hl hpm)⟩
def in2P (a b : Int32) (n : Nat) : Prop := ∃ c t, c < n ∧ t < n ∧ a = nI c ∧ b = nI t
noncomputable def fMove (a b : Int32) (S : St5) : Int32 × St5 := icl (in2P a b (nU S.1)) (nI (mvN (cI a) (cI b)), (dkV S.1 (nU S.1) (mvO2 (cI a) (cI b)), S.2)) ((-1000001), S)
theorem v_move (V : Vo sA gs x Y H S L) (k : OKS S) (hl : L.length ≤ 7) : OKS (fMove a b S).2 ∧ Rn sA mX11_move 0 [some (.ref x), some (.int a), some (.int b)] [] H (fun r H' => r = some (.int (fMove a b S).1) ∧ Vo sA gs x Y H' (fMove a b S).2 (rcL (in2P a b (nU S.1)) S L)) := by
  obtain ⟨h, z⟩ := H
  obtain ⟨PA, pm, fk, fp, pe, K, R, se, co, r, sa, sr, sc, hh, hpm, rep, hD, hT, e1, e2⟩ := V.un k.1.1
  obtain ⟨w1, w2, -⟩ := V.nw k.1.1
  refine ⟨?_, c11_move r ⟨_, _, _, _, _, _, _, _, sa, sr⟩ sc w2 w1 (fun bad => ?_) (fun q t hq ht ok ok2 h3 z3 fr o => ?_)⟩
  · unfold fMove
    by_cases hp : in2P a b (nU S.1)
    · rw [icl_t hp]
      obtain ⟨q, t, h1, h2, h3, h4⟩ := hp
      rw [h3, h4, cI_n (by omega), cI_n (by omega)]
      have dk := dkV_ok (U := S.1) (n := nU S.1) (o := mvO2 q t)
      exact k.st (k.1.hi (k.1.1.ord w1 w2 (fun i hi => by unfold mvO2; (repeat' split) <;> omega) dk) (fun j hj => dk.2 j (by omega)) (fun j j1 j2 => dk.2 j (by omega)))
    · rw [icl_f hp]; exact k
  · have hp : ¬ in2P a b (nU S.1) := fun ⟨f, t, h⟩ => bad f t h
    unfold fMove rcL
    rw [icl_f hp, icl_f hp]
    exact ⟨rfl, V⟩
  · have hp : in2P a b (nU S.1) := ⟨q, t, hq, ht, ok, ok2⟩
    unfold fMove rcL
    rw [icl_t hp, icl_t hp, ok, ok2, cI_n (by omega), cI_n (by omega)]
    exact ⟨rfl, V.out (o _ dkV_ok) (hh.rc hl hpm)⟩
def rpP (n : Nat) (a b d : Int32) : Prop := ∃ c k, rpOK n a b d c k
noncomputable def fRep (a b d : Int32) (S : St5) : Int32 × St5 := icl (rpP (nU S.1) a b d) (S.1 (20 + 26 * cI a + cI b), (upd S.1 (20 + 26 * cI a + cI b) d, S.2)) ((-1000001), S)
theorem v_repunch (V : Vo sA gs x Y H S L) (k : OKS S) (hl : L.length ≤ 7) : OKS (fRep a b d S).2 ∧ Rn sA mX11_repunch 0 [some (.ref x), some (.int a), some (.int b), some (.int d), none, none] [] H (fun r H' => r = some (.int (fRep a b d S).1) ∧ Vo sA gs x Y H' (fRep a b d S).2 (rcL (rpP (nU S.1) a b d) S L)) := by
  obtain ⟨h, z⟩ := H
  obtain ⟨PA, pm, fk, fp, pe, K, R, se, co, r, sa, sr, sc, hh, hpm, rep, hD, hT, e1, e2⟩ := V.un k.1.1
  obtain ⟨w1, w2, -⟩ := V.nw k.1.1
  refine ⟨?_, c11_repunch r sa sr sc (fun bad => ?_) (fun q t ok h3 z3 o => ?_)⟩
  · unfold fRep
    by_cases hp : rpP (nU S.1) a b d
    · rw [icl_t hp]
      obtain ⟨q, t, h1, h2, h3, h4, h5⟩ := hp
      rw [h3, h4, cI_n (by omega), cI_n (by omega)]
      have hd : ∃ y, y < 11 ∧ d = dgt y := by
        rcases h5 with h5 | ⟨v, v1, v2⟩
        · exact ⟨0, by omega, h5⟩
        · exact ⟨v + 1, by omega, by rw [v2]; exact (dgt_s v).symm⟩
      obtain ⟨y, y1, y2⟩ := hd
      exact k.st (k.1.hi (k.1.1.col w1 w2 h1 h2 y1 y2) (fun j hj => upd_n (by omega)) (fun j j1 j2 => upd_n (by omega)))
    · rw [icl_f hp]; exact k
  · have hp : ¬ rpP (nU S.1) a b d := fun ⟨f, t, h⟩ => bad f t h
    unfold fRep rcL
    rw [icl_f hp, icl_f hp]
    exact ⟨rfl, V⟩
  · have hp : rpP (nU S.1) a b d := ⟨q, t, ok⟩
    unfold fRep rcL
    rw [icl_t hp, icl_t hp, ok.2.2.1, ok.2.2.2.1, cI_n (by have := ok.1; omega), cI_n (by have := ok.2.1; omega)]
    exact ⟨rfl, V.out o (hh.rc hl hpm)⟩
def mkP (n : Nat) (a b d : Int32) : Prop := ∃ c k t, mkOK n a b d c k t
noncomputable def fMark (a b d : Int32) (S : St5) : Int32 × St5 := icl (mkP (nU S.1) a b d) (S.1 (20 + 26 * cI a + 24), (upd (upd S.1 (20 + 26 * cI a + 24) b) (20 + 26 * cI a + 25) d, S.2)) ((-1000001), S)
theorem v_mark (V : Vo sA gs x Y H S L) (k : OKS S) (hl : L.length ≤ 7) : OKS (fMark a b d S).2 ∧ Rn sA mX11_mark 0 [some (.ref x), some (.int a), some (.int b), some (.int d), none, none] [] H (fun r H' => r = some (.int (fMark a b d S).1) ∧ Vo sA gs x Y H' (fMark a b d S).2 (rcL (mkP (nU S.1) a b d) S L)) := by
  obtain ⟨h, z⟩ := H
  obtain ⟨PA, pm, fk, fp, pe, K, R, se, co, r, sa, sr, sc, hh, hpm, rep, hD, hT, e1, e2⟩ := V.un k.1.1
  obtain ⟨w1, w2, -⟩ := V.nw k.1.1
  refine ⟨?_, c11_mark r sa sr sc (fun bad => ?_) (fun q k0 t ok h3 z3 o => ?_)⟩
  · unfold fMark
    by_cases hp : mkP (nU S.1) a b d
    · rw [icl_t hp]
      obtain ⟨q, k0, t, h1, h2, h3, h4, h5, h6⟩ := hp
      rw [h4, cI_n (by omega)]
      exact k.st (k.1.hi (k.1.1.mark w1 w2 h1 h3 h6) (fun j hj => by rw [upd_n (by omega), upd_n (by omega)]) (fun j j1 j2 => by rw [upd_n (by omega), upd_n (by omega)]))
    · rw [icl_f hp]; exact k
  · have hp : ¬ mkP (nU S.1) a b d := fun ⟨f, k0, t, h⟩ => bad f k0 t h
    unfold fMark rcL
    rw [icl_f hp, icl_f hp]
    exact ⟨rfl, V⟩
  · have hp : mkP (nU S.1) a b d := ⟨q, k0, t, ok⟩
    unfold fMark rcL
    rw [icl_t hp, icl_t hp, ok.2.2.2.1, cI_n (by have := ok.1; omega)]
    exact ⟨rfl, V.out o (hh.rc hl hpm)⟩
noncomputable def fPass (a : Int32) (S : St5) : Int32 × St5 := icl (inP a 24) (mvO (nxtO S.1 (nU S.1) (cI a) id) (nU S.1) 0 (nI 0), (dkV S.1 (nU S.1) (nxtO S.1 (nU S.1) (cI a) id), S.2)) ((-1000001), S)
theorem v_pass (V : Vo sA gs x Y H S L) (k : OKS S) (hl : L.length ≤ 7) : OKS (fPass a S).2 ∧ Rn sA mX11_pass 0 [some (.ref x), some (.int a)] [] H (fun r H' => r = some (.int (fPass a S).1) ∧ Vo sA gs x Y H' (fPass a S).2 (rcL (inP a 24) S L)) := by
  obtain ⟨h, z⟩ := H
  obtain ⟨PA, pm, fk, fp, pe, K, R, se, co, r, sa, sr, sc, hh, hpm, rep, hD, hT, e1, e2⟩ := V.un k.1.1
  obtain ⟨w1, w2, -⟩ := V.nw k.1.1
  refine ⟨?_, c11_pass r sa sr sc hD (fun bad => ?_) (fun q hq ok h3 z3 fr o => ?_)⟩
  · unfold fPass
    by_cases hp : inP a 24
    · rw [icl_t hp]
      obtain ⟨q, h1, h2⟩ := hp
      rw [h2, cI_n (by omega)]
      have dk := dkV_ok (U := S.1) (n := nU S.1) (o := nxtO S.1 (nU S.1) q id)
      exact k.st (k.1.hi (k.1.1.ord w1 w2 (nxtO_lt hD h1 (fun i hi => hi)) dk) (fun j hj => dk.2 j (by omega)) (fun j j1 j2 => dk.2 j (by omega)))
    · rw [icl_f hp]; exact k
  · have hp : ¬ inP a 24 := fun ⟨f, h1, h2⟩ => bad f h1 h2
    unfold fPass rcL
    rw [icl_f hp, icl_f hp]
    exact ⟨rfl, V⟩
  · have hp : inP a 24 := ⟨q, hq, ok⟩
    unfold fPass rcL
    rw [icl_t hp, icl_t hp, ok, cI_n (by omega)]
    exact ⟨rfl, V.out (o _ dkV_ok) (hh.rc hl hpm)⟩
def soO (U : Nat → Int32) (f : Nat) : Nat → Nat := srtO U (nU U) (PfU U f) (WfU U f) id
noncomputable def fSort (a : Int32) (S : St5) : Int32 × St5 := icl (inP a 6) (mvO (soO S.1 (cI a)) (nU S.1) 0 (nI 0), (dkV S.1 (nU S.1) (soO S.1 (cI a)), S.2)) ((-1000001), S)
theorem v_sort (V : Vo sA gs x Y H S L) (k : OKS S) (hl : L.length ≤ 7) : OKS (fSort a S).2 ∧ Rn sA mX11_sort 0 [some (.ref x), some (.int a), none] [] H (fun r H' => r = some (.int (fSort a S).1) ∧ Vo sA gs x Y H' (fSort a S).2 (rcL (inP a 6) S L)) := by
  obtain ⟨h, z⟩ := H
  obtain ⟨PA, pm, fk, fp, pe, K, R, se, co, r, sa, sr, sc, hh, hpm, rep, hD, hT, e1, e2⟩ := V.un k.1.1
  obtain ⟨w1, w2, -⟩ := V.nw k.1.1
  refine ⟨?_, c11_sort r sa sr sc hD (fun bad => ?_) (fun q hq ok h3 z3 fr o => ?_)⟩
  · unfold fSort
    by_cases hp : inP a 6
    · rw [icl_t hp]
      obtain ⟨q, h1, h2⟩ := hp
      rw [h2, cI_n (by omega)]
      have dk := dkV_ok (U := S.1) (n := nU S.1) (o := soO S.1 q)
      exact k.st (k.1.hi (k.1.1.ord w1 w2 (srtO_lt hD _ _ (sr.1 q h1).2.2 (fun i hi => hi)) dk) (fun j hj => dk.2 j (by omega)) (fun j j1 j2 => dk.2 j (by omega)))
    · rw [icl_f hp]; exact k
  · have hp : ¬ inP a 6 := fun ⟨f, h1, h2⟩ => bad f h1 h2
    unfold fSort rcL
    rw [icl_f hp, icl_f hp]
    exact ⟨rfl, V⟩
  · have hp : inP a 6 := ⟨q, hq, ok⟩
    unfold fSort rcL
    rw [icl_t hp, icl_t hp, ok, cI_n (by omega)]
    exact ⟨rfl, V.out (o _ dkV_ok) (hh.rc hl hpm)⟩
noncomputable def fRun (S : St5) : Int32 × St5 := (nI (accN (PfU S.1) (WfU S.1) S.1 (S.1 12) (nU S.1)), (runV (PfU S.1) (WfU S.1) S.1 (nU S.1), S.2))
theorem v_run (V : Vo sA gs x Y H S L) (k : OKS S) (hl : L.length ≤ 7) : OKS (fRun S).2 ∧ Rn sA mX11_run 0 [some (.ref x), none] [] H (fun r H' => r = some (.int (fRun S).1) ∧ Vo sA gs x Y H' (fRun S).2 (S.1 :: L)) := by
  obtain ⟨h, z⟩ := H
  obtain ⟨PA, pm, fk, fp, pe, K, R, se, co, r, sa, sr, sc, hh, hpm, rep, hD, hT, e1, e2⟩ := V.un k.1.1
  obtain ⟨w1, w2, w3, w4, w5, w6, w7, w8⟩ := V.nw k.1.1
  exact ⟨k.st (k.1.run w7 w8 w1 w2 (runV_ok w2)), c11_run r sa sr sc hD hT V.2.1 V.1 (fun h3 z3 fr o => ⟨rfl, V.out (o _ (runV_ok w2)) (hh.rc hl hpm)⟩)⟩
theorem v_undo {U' : Nat → Int32} (V : Vo sA gs x Y H S (U' :: L)) (w : WOK S.1) : ∃ q, q ≤ 7 ∧ Rn sA mX11_undo 0 [some (.ref x)] [] H (fun r H' => r = some (.int (nI q)) ∧ Vo sA gs x Y H' (U', S.2) L) := by
  obtain ⟨h, z⟩ := H
  obtain ⟨PA, pm, fk, fp, pe, K, R, se, co, r, sa, sr, sc, hh, hpm, rep, hD, hT, e1, e2⟩ := V.un w
  obtain ⟨q, rfl, h2, h3⟩ := hh.pop
  refine ⟨q, by omega, c11_undo r sa sr sc (fun e => absurd e (by omega)) (fun q2 e h4 o => ?_)⟩
  obtain rfl : q2 = q := by omega
  exact ⟨rfl, (V.out o h3).cg (fun j hj => (h2 j hj).symm)⟩
def chP (a : Int32) : Prop := ∃ y, 32 ≤ y ∧ y ≤ 126 ∧ a = nI y
noncomputable def fWrite (a : Int32) (S : St5) : Int32 × St5 := icl (chP a) (if S.2.2.2.2 = 50 then ((-1000003), S) else (nI (S.2.2.2.2 + 1), (S.1, S.2.1, S.2.2.1, upd S.2.2.2.1 S.2.2.2.2 a, S.2.2.2.2 + 1))) ((-1000001), S)
theorem v_write (V : Vo sA gs x Y H S L) (k : OKS S) : OKS (fWrite a S).2 ∧ Rn sA mX11_write 0 [some (.ref x), some (.int a)] [] H (fun r H' => r = some (.int (fWrite a S).1) ∧ Vo sA gs x Y H' (fWrite a S).2 L) := by
  obtain ⟨h, z⟩ := H
  obtain ⟨U, IM, fl, T, l⟩ := S
  obtain ⟨hsA, hst, PA, pm, fk, fp, r, st, sc, hh⟩ := id V
  refine ⟨?_, c11_write r (fun bad => ?_) (fun y y1 y2 ok h50 => ?_) (fun y y1 y2 ok h50 h2 r2 fr => ?_)⟩
  · unfold fWrite
    by_cases hp : chP a
    · rw [icl_t hp]
      split <;> exact k
    · rw [icl_f hp]; exact k
  · have hp : ¬ chP a := fun ⟨f, h1, h2, h3⟩ => bad f h1 h2 h3
    unfold fWrite
    rw [icl_f hp]
    exact ⟨rfl, V⟩
  · have hp : chP a := ⟨y, y1, y2, ok⟩
    have h50 : l = 50 := h50
    subst h50
    unfold fWrite
    rw [icl_t hp]
    exact ⟨rfl, V⟩
  · have hp : chP a := ⟨y, y1, y2, ok⟩
    have h50 : l < 50 := h50
    unfold fWrite
    rw [icl_t hp, if_neg (show ¬ l = 50 by omega)]
    exact ⟨rfl, hsA, (fr sA (by omega)).trans hst, PA, pm, fk, fp, r2, st.fr (fun y y1 y2 => fr y (by omega)), sc.fr (fun y y1 y2 => fr y (by omega)), hh⟩
def fWipe (S : St5) : Int32 × St5 := (nI S.2.2.2.2, (S.1, S.2.1, S.2.2.1, S.2.2.2.1, 0))
theorem v_wipe (V : Vo sA gs x Y H S L) (k : OKS S) : OKS (fWipe S).2 ∧ Rn sA mX11_wipe 0 [some (.ref x), none] [] H (fun r H' => r = some (.int (fWipe S).1) ∧ Vo sA gs x Y H' (fWipe S).2 L) := by
  obtain ⟨h, z⟩ := H
  obtain ⟨U, IM, fl, T, l⟩ := S
  obtain ⟨hsA, hst, PA, pm, fk, fp, r, st, sc, hh⟩ := id V
  exact ⟨k, c11_wipe r (fun h2 r2 fr => ⟨rfl, hsA, (fr sA (by omega)).trans hst, PA, pm, fk, fp, r2, st.fr (fun y y1 y2 => fr y (by omega)), sc.fr (fun y y1 y2 => fr y (by omega)), hh⟩)⟩
def scU (S : St5) : Nat × Nat × TS := scL (WfU S.1) S.2.2.2.1 S.2.2.2.2 0 sc0
def pnP (a : Int32) (S : St5) : Prop := inP a (nU S.1 + 1) ∧ (scU S).1 = 0 ∧ nU S.1 < 40
noncomputable def fPunch (a : Int32) (S : St5) : Int32 × St5 := icl (inP a (nU S.1 + 1)) (if (scU S).1 = 0 then (if nU S.1 = 40 then ((-1000003), S) else (nI (nU S.1 + 1), (pnV S.1 (nU S.1) (cI a) (psA (PfU S.1) (WfU S.1) (scU S).2.2), S.2))) else ((-1000002), S)) ((-1000001), S)
theorem v_punch (V : Vo sA gs x Y H S L) (k : OKS S) (hl : L.length ≤ 7) : OKS (fPunch a S).2 ∧ Rn sA mX11_punch 0 [some (.ref x), some (.int a), none] [] H (fun r H' => r = some (.int (fPunch a S).1) ∧ Vo sA gs x Y H' (fPunch a S).2 (rcL (pnP a S) S L)) := by
  obtain ⟨h, z⟩ := H
  obtain ⟨PA, pm, fk, fp, pe, K, R, se, co, r, sa, sr, sc, hh, hpm, rep, hD, hT, e1, e2⟩ := V.un k.1.1
  obtain ⟨w1, w2, -⟩ := V.nw k.1.1
  refine ⟨?_, c11_punch r sa sr sc (fun bad => ?_) (fun q hq ok h0 h3 r3 fr => ?_) (fun q hq ok h0 h40 h3 r3 fr => ?_) (fun q hq ok h0 h40 h3 z3 fr o => ?_)⟩
  · unfold fPunch
    by_cases hp : inP a (nU S.1 + 1)
    · rw [icl_t hp]
      split
      · split
        · exact k
        · obtain ⟨q, h1, h2⟩ := hp
          rw [h2, cI_n (by omega)]
          have dk := pnV_ok (U := S.1) (n := nU S.1) (c := q) (g := psA (PfU S.1) (WfU S.1) (scU S).2.2) (by omega)
          exact k.st (k.1.hi (k.1.1.punch (fun f hf => (sr.1 f hf).2.2) w1 (by omega) (by omega) dk) (fun j hj => dk.2.2.2.2.2 j (by omega)) (fun j j1 j2 => dk.2.2.2.2.2 j (by omega)))
      · exact k
    · rw [icl_f hp]; exact k
  · have hp : ¬ inP a (nU S.1 + 1) := fun ⟨f, h1, h2⟩ => bad f (by omega) h2
    unfold fPunch rcL
    rw [icl_f hp, icl_f (fun q => hp q.1)]
    exact ⟨rfl, V⟩
  · have hp : inP a (nU S.1 + 1) := ⟨q, by omega, ok⟩
    unfold fPunch rcL
    rw [icl_t hp, icl_f (fun q => h0 q.2.1), if_neg (show ¬ (scU S).1 = 0 from h0)]
    exact ⟨rfl, V.1, (fr sA (by have := V.1; omega)).trans V.2.1, PA, pm, _, _, r3, StW.fr ⟨_, _, _, _, _, _, _, _, sa, sr⟩ (fun y y1 y2 => fr y (by omega)), sc.fr (fun y y1 y2 => fr y (by omega)), hh⟩
  · have hp : inP a (nU S.1 + 1) := ⟨q, by omega, ok⟩
    unfold fPunch rcL
    rw [icl_t hp, icl_f (fun q => absurd q.2.2 (by omega)), if_pos (show (scU S).1 = 0 from h0), if_pos h40]
    exact ⟨rfl, V.1, (fr sA (by have := V.1; omega)).trans V.2.1, PA, pm, _, _, r3, StW.fr ⟨_, _, _, _, _, _, _, _, sa, sr⟩ (fun y y1 y2 => fr y (by omega)), sc.fr (fun y y1 y2 => fr y (by omega)), hh⟩
  · have hp : inP a (nU S.1 + 1) := ⟨q, by omega, ok⟩
    unfold fPunch rcL
    rw [icl_t hp, icl_t ⟨hp, h0, h40⟩, if_pos (show (scU S).1 = 0 from h0), if_neg (show ¬ nU S.1 = 40 by omega), ok, cI_n (by omega)]
    exact ⟨rfl, V.out (o _ (pnV_ok hq)) (hh.rc hl hpm)⟩
noncomputable def fKeep (a : Int32) (S : St5) : Int32 × St5 := icl (inP a 2) (S.1 19, (S.1, va_cpy S.1 S.2.1 0 (2754 * cI a) 2754, S.2.2.1 ||| 2 ^ cI a, S.2.2.2)) ((-1000001), S)
theorem bitor {fl i j : Nat} (hf : fl < 4) (hi : i < 2) (hj : j < 2) : (fl ||| 2 ^ i) / 2 ^ j % 2 = if j = i then 1 else fl / 2 ^ j % 2 := by
  rcases (by omega : fl = 0 ∨ fl = 1 ∨ fl = 2 ∨ fl = 3) with rfl | rfl | rfl | rfl <;> rcases (by omega : i = 0 ∨ i = 1) with rfl | rfl <;> rcases (by omega : j = 0 ∨ j = 1) with rfl | rfl <;> rfl
theorem v_keep (V : Vo sA gs x Y H S L) (k : OKS S) : OKS (fKeep a S).2 ∧ Rn sA mX11_keep 0 [some (.ref x), some (.int a), none] [] H (fun r H' => r = some (.int (fKeep a S).1) ∧ Vo sA gs x Y H' (fKeep a S).2 L) := by
  obtain ⟨h, z⟩ := H
  obtain ⟨PA, pm, fk, fp, pe, K, R, se, co, r, sa, sr, sc, hh, hpm, rep, hD, hT, e1, e2⟩ := V.un k.1.1
  have hfl : S.2.2.1 < 4 := by obtain ⟨_, _, ⟨_, _, _, q, _⟩, _⟩ := r; exact q.2.1
  refine ⟨?_, c11_keep r sa sr sc (fun bad => ?_) (fun i hi ok h3 z3 o => ?_)⟩
  · unfold fKeep
    by_cases hp : inP a 2
    · rw [icl_t hp]
      obtain ⟨i, i1, i2⟩ := hp
      rw [i2, cI_n (by omega)]
      refine ⟨k.1, fun j hj nz => ?_⟩
      have nz : ¬ (S.2.2.1 ||| 2 ^ i) / 2 ^ j % 2 = 0 := nz
      show OKU (fun y => va_cpy S.1 S.2.1 0 (2754 * i) 2754 (2754 * j + y))
      rw [bitor hfl i1 hj] at nz
      by_cases q : j = i
      · subst q
        refine k.1.cg (fun y hy => ?_)
        rw [cpy_in (by omega) (by omega), show 0 + (2754 * j + y - 2754 * j) = y by omega]
      · rw [if_neg q] at nz
        refine (k.2 j hj nz).cg (fun y hy => ?_)
        rw [cpy_out (by omega)]
    · rw [icl_f hp]; exact k
  · have hp : ¬ inP a 2 := fun ⟨f, h1, h2⟩ => bad f h1 h2
    unfold fKeep
    rw [icl_f hp]
    exact ⟨rfl, V⟩
  · have hp : inP a 2 := ⟨i, hi, ok⟩
    unfold fKeep
    rw [icl_t hp, ok, cI_n (by omega)]
    exact ⟨rfl, V.out o hh⟩
def bkP (a : Int32) (S : St5) : Prop := inP a 2 ∧ ¬ S.2.2.1 / 2 ^ cI a % 2 = 0
noncomputable def fBack (a : Int32) (S : St5) : Int32 × St5 := icl (inP a 2) (if S.2.2.1 / 2 ^ cI a % 2 = 0 then ((-1000002), S) else (S.2.1 (2754 * cI a + 19), (fun j => S.2.1 (2754 * cI a + j), S.2))) ((-1000001), S)
theorem v_back (V : Vo sA gs x Y H S L) (k : OKS S) (hl : L.length ≤ 7) : OKS (fBack a S).2 ∧ Rn sA mX11_back 0 [some (.ref x), some (.int a), none] [] H (fun r H' => r = some (.int (fBack a S).1) ∧ Vo sA gs x Y H' (fBack a S).2 (rcL (bkP a S) S L)) := by
  obtain ⟨h, z⟩ := H
  obtain ⟨PA, pm, fk, fp, pe, K, R, se, co, r, sa, sr, sc, hh, hpm, rep, hD, hT, e1, e2⟩ := V.un k.1.1
  refine ⟨?_, c11_back r sa sr sc (fun bad => ?_) (fun i hi ok h0 => ?_) (fun i hi ok h0 h3 z3 o => ?_)⟩
  · unfold fBack
    by_cases hp : inP a 2
    · rw [icl_t hp]
      obtain ⟨i, i1, i2⟩ := hp
      rw [i2, cI_n (by omega)]
      split
      · exact k
      · exact k.st (k.2 i i1 (by assumption))
    · rw [icl_f hp]; exact k
  · have hp : ¬ inP a 2 := fun ⟨f, h1, h2⟩ => bad f h1 h2
    unfold fBack rcL
    rw [icl_f hp, icl_f (fun q => hp q.1)]
    exact ⟨rfl, V⟩
  · have hp : inP a 2 := ⟨i, hi, ok⟩
    have ec : cI a = i := by rw [ok]; exact cI_n (by omega)
    unfold fBack rcL
    rw [icl_t hp, icl_f (fun q => q.2 (by rw [ec]; exact h0)), ec, if_pos h0]
    exact ⟨rfl, V⟩
  · have hp : inP a 2 := ⟨i, hi, ok⟩
    have ec : cI a = i := by rw [ok]; exact cI_n (by omega)
    unfold fBack rcL
    rw [icl_t hp, icl_t ⟨hp, by rw [ec]; exact h0⟩, ec, if_neg h0]
    exact ⟨rfl, V.out o (hh.rc hl hpm)⟩
end VCS
