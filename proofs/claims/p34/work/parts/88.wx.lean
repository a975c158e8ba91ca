/-! calls of an object in the great heap, beside cells of the law's own -/
section WXS
def LsOk (x : Nat) : am_L → Prop
  | [] => True
  | none :: l => LsOk x l
  | some v :: l => (v = .ref x ∨ ∃ w, v = .int w) ∧ LsOk x l
theorem LsOk.get {x : Nat} : ∀ {ls : am_L}, LsOk x ls → ∀ (i : Nat) (v : Value), ls[i]? = some (some v) → v = .ref x ∨ ∃ w, v = .int w
  | [], _, i, v, e => by simp at e
  | none :: l, h, 0, v, e => by simp at e
  | none :: l, h, i + 1, v, e => LsOk.get (ls := l) h i v (by simpa using e)
  | some u :: l, h, 0, v, e => by
    have e2 : u = v := by simpa using e
    rw [← e2]; exact h.1
  | some u :: l, h, i + 1, v, e => LsOk.get (ls := l) h.2 i v (by simpa using e)
/-- from K0 on: the object has S and L; the cells G are as they were told -/
def Wx (sA : Nat) (gs : Nat → Int32) (x Y : Nat) (K0 : am_H) (F0 : Nat → Prop) (s1 s2 t1 t2 : Nat) (G : Nat → am_C → Prop) (S : St5) (L : List (Nat → Int32)) (K : am_H) : Prop := ∃ F u1 u2, Obx sA gs x Y K F u1 u2 S L ∧ Lk t1 t2 K0 F0 s1 s2 K F u1 u2 ∧ ∀ a c, G a c → K.1 a = some c ∧ a < K.2.1 ∧ ¬ F a
def gNo : Nat → am_C → Prop := fun _ _ => False
def gAt (a : Nat) (c : am_C) : Nat → am_C → Prop := fun b d => b = a ∧ d = c
variable {sA : Nat} {gs : Nat → Int32} {x Y : Nat} {K0 : am_H} {F0 : Nat → Prop} {s1 s2 t1 t2 : Nat} {G : Nat → am_C → Prop} {S : St5} {L : List (Nat → Int32)} {K : am_H} {Q : Option Value → am_H → Prop} {a b c d : Int32}
theorem Wx.be {F : Nat → Prop} {r1 r2 : Nat} (o : Obx sA gs x Y K F r1 r2 S L) : Wx sA gs x Y K F r1 r2 0 0 gNo S L K := ⟨F, r1, r2, o, Lk.rf, fun _ _ h => h.elim⟩
theorem Wx.cls (w : Wx sA gs x Y K0 F0 s1 s2 t1 t2 G S L K) : ∃ fs, K.1 x = some (.inr (11, fs)) := by
  obtain ⟨F, u1, u2, o, -⟩ := w
  exact o.cls
theorem Wx.vo (w : Wx sA gs x Y K0 F0 s1 s2 t1 t2 G S L K) : ∃ h z, Vo sA gs x Y (h, z) S L := by
  obtain ⟨F, u1, u2, ⟨φ, H, _, _, _, v, _⟩, -⟩ := w
  exact ⟨H.1, H.2, v⟩
theorem Wx.nw (w : Wx sA gs x Y K0 F0 s1 s2 t1 t2 G S L K) (k : OKS S) : S.1 19 = nI (nU S.1) ∧ nU S.1 ≤ 40 ∧ S.1 1304 = nI (lU S.1) ∧ lU S.1 ≤ 161 ∧ S.1 1062 = nI (kU S.1) ∧ kU S.1 ≤ 40 ∧ LayW S.1 (PfU S.1) (WfU S.1) ∧ LayV (WfU S.1) := by
  obtain ⟨h, z, v⟩ := w.vo
  exact v.nw k.1.1
theorem Wx.ni (w : Wx sA gs x Y K0 F0 s1 s2 t1 t2 G S L K) : Wx sA gs x Y K0 F0 s1 s2 t1 t2 G S [] K := by
  obtain ⟨F, u1, u2, o, h⟩ := w
  exact ⟨F, u1, u2, o.ni, h⟩
theorem Wx.at {y : Nat} {e : am_C} (w : Wx sA gs x Y K0 F0 s1 s2 t1 t2 (gAt y e) S L K) : K.1 y = some e := by
  obtain ⟨F, u1, u2, o, lk, h⟩ := w
  exact (h y e ⟨rfl, rfl⟩).1
/-- a call -/
theorem Wx.call {mi : am_I} {ls : am_L} (r0 : Option Value) (hr0 : ∀ ψ, r0.map (sm_v ψ) = r0) {S' : St5} {L' : List (Nat → Int32)} (w : Wx sA gs x Y K0 F0 s1 s2 t1 t2 G S L K) (hls : LsOk x ls) (k : ∀ H : am_H, Vo sA gs x Y H S L → Rn sA mi 0 ls [] H (fun r H' => r = r0 ∧ Vo sA gs x Y H' S' L')) (kk : ∀ (h' : Nat → Option am_C) (z' : Nat × Nat), Wx sA gs x Y K0 F0 s1 s2 t1 t2 G S' L' (h', z') → Q r0 (h', z')) : Rn sA mi 0 ls [] K Q := by
  obtain ⟨F, u1, u2, o, lk, g⟩ := w
  refine o.chg hls.get r0 hr0 S' L' k (fun K' F' v1 v2 o' lk' => ?_)
  obtain ⟨h', z'⟩ := K'
  refine kk h' z' ⟨F', v1, v2, o', lk.tr lk', fun a c ha => ?_⟩
  obtain ⟨g1, g2, g3⟩ := g a c ha
  refine ⟨(lk'.2.2.1 a g2 g3).trans g1, Nat.lt_of_lt_of_le g2 lk'.1.1, fun q => ?_⟩
  rcases lk'.2.2.2 a q with q | q
  · exact g3 q
  · omega
/-- the law makes a row of its own -/
theorem Wx.mk {h : Nat → Option am_C} {z : Nat × Nat} {n : Nat} {e : am_C} (w : Wx sA gs x Y K0 F0 s1 s2 t1 t2 gNo S L (h, z)) : Wx sA gs x Y K0 F0 s1 s2 (t1 + 1) (t2 + n) (gAt z.1 e) S L (va_up h z.1 (some e), z.1 + 1, z.2 + n) := by
  obtain ⟨F, u1, u2, o, ⟨⟨a1, a2⟩, ⟨a3, a4⟩, a5, a6⟩, -⟩ := w
  have a1 : K0.2.1 ≤ z.1 := a1
  have a2 : K0.2.2 ≤ z.2 := a2
  have a3 : z.1 + u1 ≤ K0.2.1 + s1 + t1 := a3
  have a4 : z.2 + u2 ≤ K0.2.2 + s2 + t2 := a4
  refine ⟨F, u1, u2, o.fr (Nat.le_succ _) (fun b hb _ => up_n (Nat.ne_of_lt hb) rfl), ⟨⟨Nat.le_succ_of_le a1, Nat.le_trans a2 (Nat.le_add_right _ _)⟩, ⟨by show z.1 + 1 + u1 ≤ _; omega, by show z.2 + n + u2 ≤ _; omega⟩, fun b hb hn => (up_n (show b ≠ z.1 by omega) rfl).trans (a5 b hb hn), a6⟩, fun b d q => ?_⟩
  obtain ⟨rfl, rfl⟩ := q
  exact ⟨up_s, Nat.lt_succ_self _, fun q => Nat.lt_irrefl _ (o.no _ q)⟩
/-- the law writes into its row -/
theorem Wx.wr {h : Nat → Option am_C} {z : Nat × Nat} {y : Nat} {e e2 : am_C} (w : Wx sA gs x Y K0 F0 s1 s2 t1 t2 (gAt y e) S L (h, z)) (hw : wr_C e) (hy : K0.2.1 ≤ y) : Wx sA gs x Y K0 F0 s1 s2 t1 t2 (gAt y e2) S L (va_up h y (some e2), z) := by
  obtain ⟨F, u1, u2, o, ⟨a1, a3, a5, a6⟩, g⟩ := w
  obtain ⟨g1, g2, g3⟩ := g y e ⟨rfl, rfl⟩
  have g1 : h y = some e := g1
  refine ⟨F, u1, u2, o.fr (Nat.le_refl _) (fun b hb q => up_n (fun r => ?_) rfl), ⟨a1, a3, fun b hb hn => (up_n (show b ≠ y by omega) rfl).trans (a5 b hb hn), a6⟩, fun b d q => ?_⟩
  · subst r
    rcases q with q | ⟨c2, q1, q2⟩
    · exact g3 q
    · have q1 : h b = some c2 := q1
      rw [g1] at q1
      cases q1
      exact q2 hw
  · obtain ⟨rfl, rfl⟩ := q
    exact ⟨up_s, g2, g3⟩
theorem o_told (w : Wx sA gs x Y K0 F0 s1 s2 t1 t2 G S L K) (k : OKS S) {j : Nat} (hj : j < 5) (kk : ∀ (h' : Nat → Option am_C) (z' : Nat × Nat), Wx sA gs x Y K0 F0 s1 s2 t1 t2 G S L (h', z') → Q (some (.int (toA S.1 j))) (h', z')) : Rn sA mX11_told 0 [some (.ref x), some (.int (nI j))] [] K Q := w.call _ (fun _ => rfl) ⟨Or.inl rfl, Or.inr ⟨_, rfl⟩, trivial⟩ (fun H V => v_told V k.1.1 hj) kk
theorem o_line (w : Wx sA gs x Y K0 F0 s1 s2 t1 t2 G S L K) (k : OKS S) {i j : Nat} (hi : i < lU S.1) (hj : j < 9) (kk : ∀ (h' : Nat → Option am_C) (z' : Nat × Nat), Wx sA gs x Y K0 F0 s1 s2 t1 t2 G S L (h', z') → Q (some (.int (S.1 (1305 + 9 * i + j)))) (h', z')) : Rn sA mX11_line 0 [some (.ref x), some (.int (nI i)), some (.int (nI j))] [] K Q := w.call _ (fun _ => rfl) ⟨Or.inl rfl, Or.inr ⟨_, rfl⟩, Or.inr ⟨_, rfl⟩, trivial⟩ (fun H V => v_line V k.1.1 hi hj) kk
theorem o_line_b (w : Wx sA gs x Y K0 F0 s1 s2 t1 t2 G S L K) (k : OKS S)  (kk : ∀ (h' : Nat → Option am_C) (z' : Nat × Nat), Wx sA gs x Y K0 F0 s1 s2 t1 t2 G S L (h', z') → Q (some (.int (-1000001))) (h', z')) : Rn sA mX11_line 0 [some (.ref x), some (.int (nI (lU S.1))), some (.int b)] [] K Q := w.call _ (fun _ => rfl) ⟨Or.inl rfl, Or.inr ⟨_, rfl⟩, Or.inr ⟨_, rfl⟩, trivial⟩ (fun H V => v_lineB V k.1.1) kk
theorem o_reason (w : Wx sA gs x Y K0 F0 s1 s2 t1 t2 G S L K) (k : OKS S) {i : Nat} (hi : i < kU S.1) (kk : ∀ (h' : Nat → Option am_C) (z' : Nat × Nat), Wx sA gs x Y K0 F0 s1 s2 t1 t2 G S L (h', z') → Q (some (.int (S.1 (1063 + i)))) (h', z')) : Rn sA mX11_reason 0 [some (.ref x), some (.int (nI i))] [] K Q := w.call _ (fun _ => rfl) ⟨Or.inl rfl, Or.inr ⟨_, rfl⟩, trivial⟩ (fun H V => v_reason V k.1.1 hi) kk
theorem o_setting (w : Wx sA gs x Y K0 F0 s1 s2 t1 t2 G S L K) (k : OKS S) {i : Nat} (hi : i < 4) (kk : ∀ (h' : Nat → Option am_C) (z' : Nat × Nat), Wx sA gs x Y K0 F0 s1 s2 t1 t2 G S L (h', z') → Q (some (.int (S.1 (12 + i)))) (h', z')) : Rn sA mX11_setting 0 [some (.ref x), some (.int (nI i))] [] K Q := w.call _ (fun _ => rfl) ⟨Or.inl rfl, Or.inr ⟨_, rfl⟩, trivial⟩ (fun H V => v_setting V hi) kk
theorem o_again (w : Wx sA gs x Y K0 F0 s1 s2 t1 t2 G S L K) (k : OKS S) {j : Nat} (hd : ¬ d < (-1)) (hj : j < 5) (kk : ∀ (h' : Nat → Option am_C) (z' : Nat × Nat), Wx sA gs x Y K0 F0 s1 s2 t1 t2 G S L (h', z') → Q (some (.int (agN S.1 d j))) (h', z')) : Rn sA mX11_again 0 [some (.ref x), some (.int d), some (.int (nI j))] [] K Q := w.call _ (fun _ => rfl) ⟨Or.inl rfl, Or.inr ⟨_, rfl⟩, Or.inr ⟨_, rfl⟩, trivial⟩ (fun H V => v_again V k.1.1 hd hj) kk
theorem o_agrees (w : Wx sA gs x Y K0 F0 s1 s2 t1 t2 G S L K) (k : OKS S)  (kk : ∀ (h' : Nat → Option am_C) (z' : Nat × Nat), Wx sA gs x Y K0 F0 s1 s2 t1 t2 G S L (h', z') → Q (some (.int (agA S.1))) (h', z')) : Rn sA mX11_agrees 0 [some (.ref x), none] [] K Q := w.call _ (fun _ => rfl) ⟨Or.inl rfl, trivial⟩ (fun H V => v_agrees V k.1.1) kk
theorem o_mean (w : Wx sA gs x Y K0 F0 s1 s2 t1 t2 G S L K) (k : OKS S)  (kk : ∀ (h' : Nat → Option am_C) (z' : Nat × Nat), Wx sA gs x Y K0 F0 s1 s2 t1 t2 G S L (h', z') → Q (some (.float (meA S.1))) (h', z')) : Rn sA mX11_mean 0 [some (.ref x), none] [] K Q := w.call _ (fun _ => rfl) ⟨Or.inl rfl, trivial⟩ (fun H V => (v_mean V k.1.1).2) kk
theorem o_ranked (w : Wx sA gs x Y K0 F0 s1 s2 t1 t2 G S L K) (k : OKS S) {j : Nat} (ha : ¬ a < 0) (hj : j < 4) (kk : ∀ (h' : Nat → Option am_C) (z' : Nat × Nat), Wx sA gs x Y K0 F0 s1 s2 t1 t2 G S L (h', z') → Q (some (.int (rkL (S.1 1061) (accU S.1) (mU S.1) a j (mU S.1) 0))) (h', z')) : Rn sA mX11_ranked 0 [some (.ref x), some (.int a), some (.int (nI j)), none] [] K Q := w.call _ (fun _ => rfl) ⟨Or.inl rfl, Or.inr ⟨_, rfl⟩, Or.inr ⟨_, rfl⟩, trivial⟩ (fun H V => v_ranked V k.1.1 ha hj) kk
theorem o_differs (w : Wx sA gs x Y K0 F0 s1 s2 t1 t2 G S L K) (k : OKS S) {j : Nat} (hj : j < 3) (kk : ∀ (h' : Nat → Option am_C) (z' : Nat × Nat), Wx sA gs x Y K0 F0 s1 s2 t1 t2 G S L (h', z') → Q (some (.int (dfA S.1 j))) (h', z')) : Rn sA mX11_differs 0 [some (.ref x), some (.int (nI j))] [] K Q := w.call _ (fun _ => rfl) ⟨Or.inl rfl, Or.inr ⟨_, rfl⟩, trivial⟩ (fun H V => v_differs V k.1.1 hj) kk
theorem o_passes (w : Wx sA gs x Y K0 F0 s1 s2 t1 t2 G S L K) (k : OKS S)  (kk : ∀ (h' : Nat → Option am_C) (z' : Nat × Nat), Wx sA gs x Y K0 F0 s1 s2 t1 t2 G S L (h', z') → Q (some (.int (psU S.1))) (h', z')) : Rn sA mX11_passes 0 [some (.ref x), none, none] [] K Q := w.call _ (fun _ => rfl) ⟨Or.inl rfl, trivial⟩ (fun H V => v_passes V k.1.1) kk
theorem o_accepts (w : Wx sA gs x Y K0 F0 s1 s2 t1 t2 G S L K) (k : OKS S) (hg : GsOK gs) {j : Nat} (hj : j ≤ 2) (kk : ∀ (h' : Nat → Option am_C) (z' : Nat × Nat), Wx sA gs x Y K0 F0 s1 s2 t1 t2 G S L (h', z') → Q (some (.int (nI (acA S.1 j)))) (h', z')) : Rn sA mX11_accepts 0 [some (.ref x), some (.int (nI j))] [] K Q := w.call _ (fun _ => rfl) ⟨Or.inl rfl, Or.inr ⟨_, rfl⟩, trivial⟩ (fun H V => v_accepts V k.1.1 hg hj) kk
theorem o_card (w : Wx sA gs x Y K0 F0 s1 s2 t1 t2 G S L K) (k : OKS S) {i j : Nat} (hi : i < nU S.1) (hj : j < 10) (kk : ∀ (h' : Nat → Option am_C) (z' : Nat × Nat), Wx sA gs x Y K0 F0 s1 s2 t1 t2 G S L (h', z') → Q (some (.int (caA S.1 i j))) (h', z')) : Rn sA mX11_card 0 [some (.ref x), some (.int (nI i)), some (.int (nI j)), none] [] K Q := w.call _ (fun _ => rfl) ⟨Or.inl rfl, Or.inr ⟨_, rfl⟩, Or.inr ⟨_, rfl⟩, trivial⟩ (fun H V => v_card V k.1.1 hi hj) kk
theorem o_lay (w : Wx sA gs x Y K0 F0 s1 s2 t1 t2 G S L K) (k : OKS S) (hl : L.length ≤ 7) (kk : ∀ (h' : Nat → Option am_C) (z' : Nat × Nat), OKS (fLay a b c S).2 → Wx sA gs x Y K0 F0 s1 s2 t1 t2 G (fLay a b c S).2 (rcL (layP a b c) S L) (h', z') → Q (some (.int (fLay a b c S).1)) (h', z')) : Rn sA mX11_lay 0 [some (.ref x), some (.int a), some (.int b), some (.int c), none] [] K Q := by
  obtain ⟨h0, z0, v0⟩ := w.vo
  exact w.call _ (fun _ => rfl) ⟨Or.inl rfl, Or.inr ⟨_, rfl⟩, Or.inr ⟨_, rfl⟩, Or.inr ⟨_, rfl⟩, trivial⟩ (fun H V => (v_lay V k hl).2) (fun h z q => kk h z (v_lay v0 k hl).1 q)
theorem o_set (w : Wx sA gs x Y K0 F0 s1 s2 t1 t2 G S L K) (k : OKS S) (hl : L.length ≤ 7) (hg : GsOK gs) (kk : ∀ (h' : Nat → Option am_C) (z' : Nat × Nat), OKS (fSet a b S).2 → Wx sA gs x Y K0 F0 s1 s2 t1 t2 G (fSet a b S).2 (rcL (setP a b) S L) (h', z') → Q (some (.int (fSet a b S).1)) (h', z')) : Rn sA mX11_set 0 [some (.ref x), some (.int a), some (.int b), none] [] K Q := by
  obtain ⟨h0, z0, v0⟩ := w.vo
  exact w.call _ (fun _ => rfl) ⟨Or.inl rfl, Or.inr ⟨_, rfl⟩, Or.inr ⟨_, rfl⟩, trivial⟩ (fun H V => (v_set V k hl hg).2) (fun h z q => kk h z (v_set v0 k hl hg).1 q)
theorem o_control (w : Wx sA gs x Y K0 F0 s1 s2 t1 t2 G S L K) (k : OKS S) (hl : L.length ≤ 7) (kk : ∀ (h' : Nat → Option am_C) (z' : Nat × Nat), OKS (fCtl a b S).2 → Wx sA gs x Y K0 F0 s1 s2 t1 t2 G (fCtl a b S).2 (rcL (ctlP a b) S L) (h', z') → Q (some (.int (fCtl a b S).1)) (h', z')) : Rn sA mX11_control 0 [some (.ref x), some (.int a), some (.int b), none] [] K Q := by
  obtain ⟨h0, z0, v0⟩ := w.vo
  exact w.call _ (fun _ => rfl) ⟨Or.inl rfl, Or.inr ⟨_, rfl⟩, Or.inr ⟨_, rfl⟩, trivial⟩ (fun H V => (v_control V k hl).2) (fun h z q => kk h z (v_control v0 k hl).1 q)
theorem o_take (w : Wx sA gs x Y K0 F0 s1 s2 t1 t2 G S L K) (k : OKS S) (hl : L.length ≤ 7) (kk : ∀ (h' : Nat → Option am_C) (z' : Nat × Nat), OKS (fTake a S).2 → Wx sA gs x Y K0 F0 s1 s2 t1 t2 G (fTake a S).2 (rcL (inP a (nU S.1)) S L) (h', z') → Q (some (.int (fTake a S).1)) (h', z')) : Rn sA mX11_take 0 [some (.ref x), some (.int a)] [] K Q := by
  obtain ⟨h0, z0, v0⟩ := w.vo
  exact w.call _ (fun _ => rfl) ⟨Or.inl rfl, Or.inr ⟨_, rfl⟩, trivial⟩ (fun H V => (v_take V k hl).2) (fun h z q => kk h z (v_take v0 k hl).1 q)
theorem o_move (w : Wx sA gs x Y K0 F0 s1 s2 t1 t2 G S L K) (k : OKS S) (hl : L.length ≤ 7) (kk : ∀ (h' : Nat → Option am_C) (z' : Nat × Nat), OKS (fMove a b S).2 → Wx sA gs x Y K0 F0 s1 s2 t1 t2 G (fMove a b S).2 (rcL (in2P a b (nU S.1)) S L) (h', z') → Q (some (.int (fMove a b S).1)) (h', z')) : Rn sA mX11_move 0 [some (.ref x), some (.int a), some (.int b)] [] K Q := by
  obtain ⟨h0, z0, v0⟩ := w.vo
  exact w.call _ (fun _ => rfl) ⟨Or.inl rfl, Or.inr ⟨_, rfl⟩, Or.inr ⟨_, rfl⟩, trivial⟩ (fun H V => (v_move V k hl).2) (fun h z q => kk h z (v_move v0 k hl).1 q)
theorem o_repunch (w : Wx sA gs x Y K0 F0 s1 s2 t1 t2 G S L K) (k : OKS S) (hl : L.length ≤ 7) (kk : ∀ (h' : Nat → Option am_C) (z' : Nat × Nat), OKS (fRep a b d S).2 → Wx sA gs x Y K0 F0 s1 s2 t1 t2 G (fRep a b d S).2 (rcL (rpP (nU S.1) a b d) S L) (h', z') → Q (some (.int (fRep a b d S).1)) (h', z')) : Rn sA mX11_repunch 0 [some (.ref x), some (.int a), some (.int b), some (.int d), none, none] [] K Q := by
  obtain ⟨h0, z0, v0⟩ := w.vo
  exact w.call _ (fun _ => rfl) ⟨Or.inl rfl, Or.inr ⟨_, rfl⟩, Or.inr ⟨_, rfl⟩, Or.inr ⟨_, rfl⟩, trivial⟩ (fun H V => (v_repunch V k hl).2) (fun h z q => kk h z (v_repunch v0 k hl).1 q)
theorem o_mark (w : Wx sA gs x Y K0 F0 s1 s2 t1 t2 G S L K) (k : OKS S) (hl : L.length ≤ 7) (kk : ∀ (h' : Nat → Option am_C) (z' : Nat × Nat), OKS (fMark a b d S).2 → Wx sA gs x Y K0 F0 s1 s2 t1 t2 G (fMark a b d S).2 (rcL (mkP (nU S.1) a b d) S L) (h', z') → Q (some (.int (fMark a b d S).1)) (h', z')) : Rn sA mX11_mark 0 [some (.ref x), some (.int a), some (.int b), some (.int d), none, none] [] K Q := by
  obtain ⟨h0, z0, v0⟩ := w.vo
  exact w.call _ (fun _ => rfl) ⟨Or.inl rfl, Or.inr ⟨_, rfl⟩, Or.inr ⟨_, rfl⟩, Or.inr ⟨_, rfl⟩, trivial⟩ (fun H V => (v_mark V k hl).2) (fun h z q => kk h z (v_mark v0 k hl).1 q)
theorem o_pass (w : Wx sA gs x Y K0 F0 s1 s2 t1 t2 G S L K) (k : OKS S) (hl : L.length ≤ 7) (kk : ∀ (h' : Nat → Option am_C) (z' : Nat × Nat), OKS (fPass a S).2 → Wx sA gs x Y K0 F0 s1 s2 t1 t2 G (fPass a S).2 (rcL (inP a 24) S L) (h', z') → Q (some (.int (fPass a S).1)) (h', z')) : Rn sA mX11_pass 0 [some (.ref x), some (.int a)] [] K Q := by
  obtain ⟨h0, z0, v0⟩ := w.vo
  exact w.call _ (fun _ => rfl) ⟨Or.inl rfl, Or.inr ⟨_, rfl⟩, trivial⟩ (fun H V => (v_pass V k hl).2) (fun h z q => kk h z (v_pass v0 k hl).1 q)
theorem o_sort (w : Wx sA gs x Y K0 F0 s1 s2 t1 t2 G S L K) (k : OKS S) (hl : L.length ≤ 7) (kk : ∀ (h' : Nat → Option am_C) (z' : Nat × Nat), OKS (fSort a S).2 → Wx sA gs x Y K0 F0 s1 s2 t1 t2 G (fSort a S).2 (rcL (inP a 6) S L) (h', z') → Q (some (.int (fSort a S).1)) (h', z')) : Rn sA mX11_sort 0 [some (.ref x), some (.int a), none] [] K Q := by
  obtain ⟨h0, z0, v0⟩ := w.vo
  exact w.call _ (fun _ => rfl) ⟨Or.inl rfl, Or.inr ⟨_, rfl⟩, trivial⟩ (fun H V => (v_sort V k hl).2) (fun h z q => kk h z (v_sort v0 k hl).1 q)
theorem o_run (w : Wx sA gs x Y K0 F0 s1 s2 t1 t2 G S L K) (k : OKS S) (hl : L.length ≤ 7) (kk : ∀ (h' : Nat → Option am_C) (z' : Nat × Nat), OKS (fRun S).2 → Wx sA gs x Y K0 F0 s1 s2 t1 t2 G (fRun S).2 (S.1 :: L) (h', z') → Q (some (.int (fRun S).1)) (h', z')) : Rn sA mX11_run 0 [some (.ref x), none] [] K Q := by
  obtain ⟨h0, z0, v0⟩ := w.vo
  exact w.call _ (fun _ => rfl) ⟨Or.inl rfl, trivial⟩ (fun H V => (v_run V k hl).2) (fun h z q => kk h z (v_run v0 k hl).1 q)
theorem o_write (w : Wx sA gs x Y K0 F0 s1 s2 t1 t2 G S L K) (k : OKS S)  (kk : ∀ (h' : Nat → Option am_C) (z' : Nat × Nat), OKS (fWrite a S).2 → Wx sA gs x Y K0 F0 s1 s2 t1 t2 G (fWrite a S).2 L (h', z') → Q (some (.int (fWrite a S).1)) (h', z')) : Rn sA mX11_write 0 [some (.ref x), some (.int a)] [] K Q := by
  obtain ⟨h0, z0, v0⟩ := w.vo
  exact w.call _ (fun _ => rfl) ⟨Or.inl rfl, Or.inr ⟨_, rfl⟩, trivial⟩ (fun H V => (v_write V k).2) (fun h z q => kk h z (v_write v0 k).1 q)
theorem o_wipe (w : Wx sA gs x Y K0 F0 s1 s2 t1 t2 G S L K) (k : OKS S)  (kk : ∀ (h' : Nat → Option am_C) (z' : Nat × Nat), OKS (fWipe S).2 → Wx sA gs x Y K0 F0 s1 s2 t1 t2 G (fWipe S).2 L (h', z') → Q (some (.int (fWipe S).1)) (h', z')) : Rn sA mX11_wipe 0 [some (.ref x), none] [] K Q := by
  obtain ⟨h0, z0, v0⟩ := w.vo
  exact w.call _ (fun _ => rfl) ⟨Or.inl rfl, trivial⟩ (fun H V => (v_wipe V k).2) (fun h z q => kk h z (v_wipe v0 k).1 q)
theorem o_punch (w : Wx sA gs x Y K0 F0 s1 s2 t1 t2 G S L K) (k : OKS S) (hl : L.length ≤ 7) (kk : ∀ (h' : Nat → Option am_C) (z' : Nat × Nat), OKS (fPunch a S).2 → Wx sA gs x Y K0 F0 s1 s2 t1 t2 G (fPunch a S).2 (rcL (pnP a S) S L) (h', z') → Q (some (.int (fPunch a S).1)) (h', z')) : Rn sA mX11_punch 0 [some (.ref x), some (.int a), none] [] K Q := by
  obtain ⟨h0, z0, v0⟩ := w.vo
  exact w.call _ (fun _ => rfl) ⟨Or.inl rfl, Or.inr ⟨_, rfl⟩, trivial⟩ (fun H V => (v_punch V k hl).2) (fun h z q => kk h z (v_punch v0 k hl).1 q)
theorem o_keep (w : Wx sA gs x Y K0 F0 s1 s2 t1 t2 G S L K) (k : OKS S)  (kk : ∀ (h' : Nat → Option am_C) (z' : Nat × Nat), OKS (fKeep a S).2 → Wx sA gs x Y K0 F0 s1 s2 t1 t2 G (fKeep a S).2 L (h', z') → Q (some (.int (fKeep a S).1)) (h', z')) : Rn sA mX11_keep 0 [some (.ref x), some (.int a), none] [] K Q := by
  obtain ⟨h0, z0, v0⟩ := w.vo
  exact w.call _ (fun _ => rfl) ⟨Or.inl rfl, Or.inr ⟨_, rfl⟩, trivial⟩ (fun H V => (v_keep V k).2) (fun h z q => kk h z (v_keep v0 k).1 q)
theorem o_back (w : Wx sA gs x Y K0 F0 s1 s2 t1 t2 G S L K) (k : OKS S) (hl : L.length ≤ 7) (kk : ∀ (h' : Nat → Option am_C) (z' : Nat × Nat), OKS (fBack a S).2 → Wx sA gs x Y K0 F0 s1 s2 t1 t2 G (fBack a S).2 (rcL (bkP a S) S L) (h', z') → Q (some (.int (fBack a S).1)) (h', z')) : Rn sA mX11_back 0 [some (.ref x), some (.int a), none] [] K Q := by
  obtain ⟨h0, z0, v0⟩ := w.vo
  exact w.call _ (fun _ => rfl) ⟨Or.inl rfl, Or.inr ⟨_, rfl⟩, trivial⟩ (fun H V => (v_back V k hl).2) (fun h z q => kk h z (v_back v0 k hl).1 q)
theorem o_undo {U : Nat → Int32} (w : Wx sA gs x Y K0 F0 s1 s2 t1 t2 G S (U :: L) K) (k : OKS S) (kk : ∀ (q : Nat) (h' : Nat → Option am_C) (z' : Nat × Nat), q ≤ 8 → Wx sA gs x Y K0 F0 s1 s2 t1 t2 G (U, S.2) L (h', z') → Q (some (.int (nI q))) (h', z')) : Rn sA mX11_undo 0 [some (.ref x)] [] K Q := by
  obtain ⟨F, u1, u2, ⟨φ, H, E, rfl, ⟨e1, e2⟩, v, sz1, sz2⟩, lk, g⟩ := w
  obtain ⟨q, hq, hr⟩ := v_undo v k.1.1
  obtain ⟨-, -, -, -, hxz⟩ := v.sz
  have hz : sA < H.2.1 := Nat.lt_trans v.1 hxz
  refine Rn.emb E e2 hz (fun i y hy => ?_) ?_ hr (fun r H' K' ψ hp ag E' hm lk' => ?_)
  · rcases LsOk.get (x := x) (ls := [some (.ref x)]) ⟨Or.inl rfl, trivial⟩ i y hy with p | ⟨p, rfl⟩
    · subst p; exact fun a ha => by cases ha; exact hxz
    · exact cl_int
  · show [some (Value.ref (φ x))] = [some (Value.ref x)]
    rw [e1]
  · obtain ⟨rfl, v'⟩ := hp
    obtain ⟨w1, w2, w3, w4, -⟩ := v'.sz
    obtain ⟨h', z'⟩ := K'
    have lk2 := lk' u1 u2 w1 w2 (by omega) (by omega)
    refine kk q h' z' (by omega) ⟨Fp ψ H', w1, w2, ⟨ψ, H', E', rfl, ⟨(ag x hxz).trans e1, (ag sA hz).trans e2⟩, v', w3, w4⟩, lk.tr lk2, fun a c ha => ?_⟩
    obtain ⟨g1, g2, g3⟩ := g a c ha
    refine ⟨(lk2.2.2.1 a g2 g3).trans g1, Nat.lt_of_lt_of_le g2 lk2.1.1, fun p => ?_⟩
    rcases lk2.2.2.2 a p with p | p
    · exact g3 p
    · omega
end WXS
