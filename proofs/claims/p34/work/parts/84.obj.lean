/-! one object of the class in the great heap, by its numbers -/
section OBX
variable {sA : Nat}
/-- state, images, which of them are kept, text, its length -/
abbrev St5 : Type := (Nat → Int32) × (Nat → Int32) × Nat × (Nat → Int32) × Nat
/-- the latest states of the history are these -/
def Hs (PA : Nat → Int32) : Nat → List (Nat → Int32) → Prop
  | _, [] => True
  | 0, _ :: _ => False
  | pm + 1, U :: L => (∀ j, j < 2754 → PA (2754 * pm + j) = U j) ∧ Hs PA pm L
theorem Hs.ni {PA : Nat → Int32} {pm : Nat} : Hs PA pm [] := by cases pm <;> trivial
theorem Hs.cg {PA PB : Nat → Int32} : ∀ {pm : Nat} {L : List (Nat → Int32)}, (∀ i, i < pm → ∀ j, j < 2754 → PB (2754 * i + j) = PA (2754 * i + j)) → Hs PA pm L → Hs PB pm L
  | _, [], _, _ => Hs.ni
  | 0, _ :: _, _, h => h.elim
  | pm + 1, U :: L, e, h => ⟨fun j hj => (e pm (by omega) j hj).trans (h.1 j hj), Hs.cg (fun i hi => e i (by omega)) h.2⟩
theorem Hs.sh {PA PB : Nat → Int32} : ∀ {pm : Nat} {L : List (Nat → Int32)}, L.length ≤ pm → (∀ i, i < pm → ∀ j, j < 2754 → PB (2754 * i + j) = PA (2754 * (i + 1) + j)) → Hs PA (pm + 1) L → Hs PB pm L
  | _, [], _, _, _ => Hs.ni
  | 0, _ :: _, hl, _, _ => absurd hl (Nat.not_succ_le_zero _)
  | pm + 1, U :: L, hl, e, h => ⟨fun j hj => (e pm (by omega) j hj).trans (h.1 j hj), Hs.sh (Nat.le_of_succ_le_succ hl) (fun i hi => e i (by omega)) h.2⟩
theorem Hs.rc {PA U : Nat → Int32} {pm : Nat} {L : List (Nat → Int32)} (h : Hs PA pm L) (hl : L.length ≤ 7) (hp : pm ≤ 8) : Hs (remP U PA pm) (remN pm) (U :: L) := by
  unfold remN remP
  by_cases p8 : pm = 8
  · subst p8
    rw [if_pos rfl, if_pos rfl]
    refine ⟨fun j hj => ?_, Hs.sh (pm := 7) hl (fun i hi j hj => ?_) h⟩
    · show va_cpy U _ 0 (2754 * 7) 2754 (2754 * 7 + j) = U j
      rw [cpy_in (by omega) (by omega), show 0 + (2754 * 7 + j - 2754 * 7) = j by omega]
    · rw [cpy_out (by omega), cpy_in (by omega) (by omega), show 2754 + (2754 * i + j - 0) = 2754 * (i + 1) + j by omega]
  · rw [if_neg p8, if_neg p8]
    refine ⟨fun j hj => ?_, h.cg (fun i hi j hj => ?_)⟩
    · rw [cpy_in (by omega) (by omega), show 0 + (2754 * pm + j - 2754 * pm) = j by omega]
    · rw [cpy_out (by omega)]
theorem Hs.pop {PA U : Nat → Int32} {pm : Nat} {L : List (Nat → Int32)} (h : Hs PA pm (U :: L)) : ∃ q, pm = q + 1 ∧ (∀ j, j < 2754 → PA (2754 * q + j) = U j) ∧ Hs PA q L := by
  cases pm with
  | zero => exact h.elim
  | succ q => exact ⟨q, rfl, h.1, h.2⟩
def GsOK (gs : Nat → Int32) : Prop := ∀ k, k < 4 → gs k = nI (if k = 0 then 2 else if k = 1 then 1 else 9999)
/-- the object in its own heap -/
def Vo (sA : Nat) (gs : Nat → Int32) (x Y : Nat) (H : am_H) (S : St5) (L : List (Nat → Int32)) : Prop := sA < x ∧ H.1 sA = some (.inl (9, 4, .inl gs)) ∧ ∃ PA pm fk fp, RstI H.1 H.2 x (x + 158) Y PA pm S.2.1 S.2.2.1 S.2.2.2.1 S.2.2.2.2 fk fp ∧ StW H.1 (x + 1) S.1 ∧ ScrI H.1 x ∧ Hs PA pm L
theorem Vo.sz {gs : Nat → Int32} {x Y : Nat} {H : am_H} {S : St5} {L : List (Nat → Int32)} (v : Vo sA gs x Y H S L) : ∃ u1 u2, H.2.1 + u1 = x + 1088 ∧ H.2.2 + u2 = Y + 28310 ∧ x < H.2.1 := by
  obtain ⟨-, -, PA, pm, fk, fp, r, -⟩ := v
  obtain ⟨-, -, ⟨_, F, -, -, lz⟩, -⟩ := r
  have := cF_le (F := F) 10
  exact ⟨93 * (10 - cF F 10), 2831 * (10 - cF F 10), by rw [lz.2.2.1]; omega, by rw [lz.2.2.2]; omega, by rw [lz.2.2.1]; omega⟩
theorem Vo.cg {gs : Nat → Int32} {x Y : Nat} {H : am_H} {U V IM : Nat → Int32} {fl l : Nat} {T : Nat → Int32} {L : List (Nat → Int32)} (v : Vo sA gs x Y H (V, IM, fl, T, l) L) (e : ∀ j, j < 2754 → U j = V j) : Vo sA gs x Y H (U, IM, fl, T, l) L := by
  obtain ⟨a, b, PA, pm, fk, fp, r, st, c⟩ := v
  exact ⟨a, b, PA, pm, fk, fp, r, st.cg e, c⟩
theorem Hs.le {PA : Nat → Int32} : ∀ {pm : Nat} {L M : List (Nat → Int32)}, Hs PA pm (L ++ M) → Hs PA pm L
  | _, [], _, _ => Hs.ni
  | 0, _ :: _, _, h => h.elim
  | _ + 1, _ :: _, _, h => ⟨h.1, Hs.le h.2⟩
/-- the object in the great heap: its part of it, and what it may still make -/
def Obx (sA : Nat) (gs : Nat → Int32) (x Y : Nat) (K : am_H) (F : Nat → Prop) (r1 r2 : Nat) (S : St5) (L : List (Nat → Int32)) : Prop := ∃ φ H, Em0 φ H K ∧ F = Fp φ H ∧ (φ x = x ∧ φ sA = sA) ∧ Vo sA gs x Y H S L ∧ H.2.1 + r1 = x + 1088 ∧ H.2.2 + r2 = Y + 28310
theorem Obx.no {gs : Nat → Int32} {x Y r1 r2 : Nat} {K : am_H} {F : Nat → Prop} {S : St5} {L : List (Nat → Int32)} (o : Obx sA gs x Y K F r1 r2 S L) : ∀ b, F b → b < K.2.1 := by
  obtain ⟨φ, H, E, rfl, -⟩ := o
  exact fun b hb => Fp_lt E hb
theorem Obx.cst {gs : Nat → Int32} {x Y r1 r2 b : Nat} {c : am_C} {K : am_H} {F : Nat → Prop} {S : St5} {L : List (Nat → Int32)} (o : Obx sA gs x Y K F r1 r2 S L) (hb : K.1 b = some c) (hw : ¬ wr_C c) : ¬ F b := by
  obtain ⟨φ, H, E, rfl, -⟩ := o
  exact Fp_no E hb hw
theorem Obx.stat {gs : Nat → Int32} {x Y r1 r2 : Nat} {K : am_H} {F : Nat → Prop} {S : St5} {L : List (Nat → Int32)} (o : Obx sA gs x Y K F r1 r2 S L) : K.1 sA = some (.inl (9, 4, .inl gs)) := by
  obtain ⟨φ, H, E, rfl, ⟨-, e⟩, v, -⟩ := o
  have h := (E.2.2 sA _ v.2.1).2.2
  rw [e] at h
  exact h
theorem Obx.cls {gs : Nat → Int32} {x Y r1 r2 : Nat} {K : am_H} {F : Nat → Prop} {S : St5} {L : List (Nat → Int32)} (o : Obx sA gs x Y K F r1 r2 S L) : ∃ fs, K.1 x = some (.inr (11, fs)) := by
  obtain ⟨φ, H, E, rfl, ⟨e, -⟩, v, -⟩ := o
  obtain ⟨-, -, PA, pm, fk, fp, r, -⟩ := v
  have h := (E.2.2 x _ r.2.1).2.2
  rw [e] at h
  exact ⟨_, h⟩
/-- what somebody else does leaves it as it is -/
theorem Obx.fr {gs : Nat → Int32} {x Y r1 r2 : Nat} {K K' : am_H} {F : Nat → Prop} {S : St5} {L : List (Nat → Int32)} (o : Obx sA gs x Y K F r1 r2 S L) (hz : K.2.1 ≤ K'.2.1) (h : ∀ b, b < K.2.1 → (F b ∨ ∃ c, K.1 b = some c ∧ ¬ wr_C c) → K'.1 b = K.1 b) : Obx sA gs x Y K' F r1 r2 S L := by
  obtain ⟨φ, H, E, rfl, e, v, s⟩ := o
  refine ⟨φ, H, E.mv hz (fun a c hc => ?_), rfl, e, v, s⟩
  obtain ⟨q1, q2, q3⟩ := E.2.2 a c hc
  refine h _ (E.2.1 a q1) ?_
  by_cases w : wr_C c
  · exact Or.inl ⟨a, c, hc, w, rfl⟩
  · exact Or.inr ⟨_, q3, fun q => w (sm_Cwr.mp q)⟩
theorem Obx.le {gs : Nat → Int32} {x Y r1 r2 : Nat} {K : am_H} {F : Nat → Prop} {S : St5} {L M : List (Nat → Int32)} (o : Obx sA gs x Y K F r1 r2 S (L ++ M)) : Obx sA gs x Y K F r1 r2 S L := by
  obtain ⟨φ, H, E, f, e, ⟨a, b, PA, pm, fk, fp, r, st, sc, h⟩, s⟩ := o
  exact ⟨φ, H, E, f, e, ⟨a, b, PA, pm, fk, fp, r, st, sc, h.le⟩, s⟩
theorem Obx.ni {gs : Nat → Int32} {x Y r1 r2 : Nat} {K : am_H} {F : Nat → Prop} {S : St5} {L : List (Nat → Int32)} (o : Obx sA gs x Y K F r1 r2 S L) : Obx sA gs x Y K F r1 r2 S [] := Obx.le (L := []) (M := L) o
theorem Obx.cg {gs : Nat → Int32} {x Y r1 r2 : Nat} {K : am_H} {F : Nat → Prop} {U V IM : Nat → Int32} {fl l : Nat} {T : Nat → Int32} {L : List (Nat → Int32)} (o : Obx sA gs x Y K F r1 r2 (V, IM, fl, T, l) L) (h : ∀ j, j < 2754 → U j = V j) : Obx sA gs x Y K F r1 r2 (U, IM, fl, T, l) L := by
  obtain ⟨φ, H, E, f, e, v, s⟩ := o
  exact ⟨φ, H, E, f, e, v.cg h, s⟩
/-- two objects: what the one does leaves the other -/
theorem Obx.by {gs : Nat → Int32} {x Y r1 r2 t1 t2 : Nat} {K K' : am_H} {F : Nat → Prop} {S : St5} {L : List (Nat → Int32)} {G G' : Nat → Prop} {u1 u2 v1 v2 : Nat} (o : Obx sA gs x Y K F r1 r2 S L) (lk : Lk t1 t2 K G u1 u2 K' G' v1 v2) (hG : ∀ b c, K.1 b = some c → ¬ wr_C c → ¬ G b) (hd : ∀ b, F b → ¬ G b) : Obx sA gs x Y K' F r1 r2 S L := by
  refine o.fr lk.1.1 (fun b hb h => lk.2.2.1 b hb ?_)
  rcases h with h | ⟨c, h1, h2⟩
  · exact hd b h
  · exact hG b c h1 h2
/-- a call that changes -/
theorem Obx.chg {gs : Nat → Int32} {x Y r1 r2 : Nat} {K : am_H} {F : Nat → Prop} {S : St5} {L : List (Nat → Int32)} {mi : am_I} {ls : am_L} {Q : Option Value → am_H → Prop} (o : Obx sA gs x Y K F r1 r2 S L) (hls : ∀ (i : Nat) (v : Value), ls[i]? = some (some v) → v = .ref x ∨ ∃ w, v = .int w) (r0 : Option Value) (hr0 : ∀ ψ, r0.map (sm_v ψ) = r0) (S' : St5) (L' : List (Nat → Int32)) (k : ∀ H : am_H, Vo sA gs x Y H S L → Rn sA mi 0 ls [] H (fun r H' => r = r0 ∧ Vo sA gs x Y H' S' L')) (kk : ∀ (K' : am_H) (F' : Nat → Prop) (u1 u2 : Nat), Obx sA gs x Y K' F' u1 u2 S' L' → Lk 0 0 K F r1 r2 K' F' u1 u2 → Q r0 K') : Rn sA mi 0 ls [] K Q := by
  obtain ⟨φ, H, E, rfl, ⟨e1, e2⟩, v, s1, s2⟩ := o
  obtain ⟨-, -, -, -, hxz⟩ := v.sz
  have hz : sA < H.2.1 := Nat.lt_trans v.1 hxz
  have hcl : cl_L H.2.1 ls := fun i w hw => by
    rcases hls i w hw with q | ⟨y, q⟩
    · subst q; exact fun a ha => by cases ha; exact hxz
    · subst q; exact cl_int
  have hsm : sm_L φ ls = ls := by
    unfold sm_L
    refine (List.map_congr_left (g := id) (fun w hw => ?_)).trans (List.map_id _)
    cases w with
    | none => rfl
    | some w =>
      obtain ⟨i, hi⟩ := List.getElem?_of_mem hw
      rcases hls i w hi with q | ⟨y, q⟩
      · subst q; show some (Value.ref (φ x)) = some (Value.ref x); rw [e1]
      · subst q; rfl
  refine Rn.emb E e2 hz hcl hsm (k H v) (fun r H' K' ψ hq ag E' hm lk => ?_)
  obtain ⟨rfl, v'⟩ := hq
  obtain ⟨w1, w2, w3, w4, -⟩ := v'.sz
  rw [hr0]
  exact kk K' (Fp ψ H') w1 w2 ⟨ψ, H', E', rfl, ⟨(ag x hxz).trans e1, (ag sA hz).trans e2⟩, v', w3, w4⟩ (lk r1 r2 w1 w2 (by omega) (by omega))
/-- the layout of a state, out of its numbers -/
def PfU (U : Nat → Int32) (f : Nat) : Nat := (U (0 + 2 * f)).toNatClampNeg
def WfU (U : Nat → Int32) (f : Nat) : Nat := (U (0 + 2 * f + 1)).toNatClampNeg
def nU (U : Nat → Int32) : Nat := (U 19).toNatClampNeg
def mU (U : Nat → Int32) : Nat := (U 1103).toNatClampNeg
theorem cl_nI {n : Nat} (h : n < 2 ^ 31) : (nI n).toNatClampNeg = n := nI_clamp h
theorem StW.can {h : Nat → Option am_C} {s : Nat} {U : Nat → Int32} (a : StW h s U) : ∃ pe K R se co, StAt h s (PfU U) (WfU U) (nU U) pe K R se co ∧ StR U (PfU U) (WfU U) (nU U) pe K R se co := by
  obtain ⟨P, Wd, n, pe, K, R, se, co, a1, b1, b2, b3, b4⟩ := a
  have eP : ∀ f, f < 6 → PfU U f = P f ∧ WfU U f = Wd f := fun f hf => by
    obtain ⟨c1, c2, c3⟩ := b1 f hf
    unfold PfU WfU
    rw [c1, c2, cl_nI (by omega), cl_nI (by omega)]
    exact ⟨rfl, rfl⟩
  have en : nU U = n := by
    unfold nU
    rw [b3.1, cl_nI (by have := b3.2.1; omega)]
  rw [en]
  refine ⟨pe, K, R, se, co, ⟨a1.1, ?_, a1.2.2⟩, ⟨fun f hf => ?_, fun f hf => ?_, b3, b4⟩⟩
  · obtain ⟨f2, f3, h1, h2, h3, h4⟩ := a1.2.1
    exact ⟨f2, f3, h1, h2, h3, fun f hf => by rw [(eP f hf).1, (eP f hf).2]; exact h4 f hf⟩
  · rw [(eP f hf).1, (eP f hf).2]; exact b1 f hf
  · rw [(eP f hf).2]; exact b2 f hf
end OBX
