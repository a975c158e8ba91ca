/-! an object in a heap of its own, and that heap in the great one -/
section LFT
variable {sA : Nat}
def Em0 (φ : Nat → Nat) (H K : am_H) : Prop := (∀ a b, a < H.2.1 → b < H.2.1 → φ a = φ b → a = b) ∧ (∀ a, a < H.2.1 → φ a < K.2.1) ∧ ∀ a c, H.1 a = some c → a < H.2.1 ∧ cl_C H.2.1 c ∧ K.1 (φ a) = some (sm_C φ c)
def tlF (φ : Nat → Nat) (H K : am_H) : Nat → Nat := fun a => if a < H.2.1 then φ a else K.2.1 + (a - H.2.1)
theorem tlF_l {φ : Nat → Nat} {H K : am_H} {a : Nat} (h : a < H.2.1) : tlF φ H K a = φ a := if_pos h
theorem sm_vcg {φ ψ : Nat → Nat} {z : Nat} {v : Value} (e : ∀ a, a < z → ψ a = φ a) (h : cl_v z v) : sm_v ψ v = sm_v φ v := by
  cases v
  case ref a => show Value.ref (ψ a) = Value.ref (φ a); rw [e a (h a rfl)]
  all_goals rfl
theorem sm_Scg {φ ψ : Nat → Nat} {z : Nat} {st : List Value} (e : ∀ a, a < z → ψ a = φ a) (h : cl_S z st) : sm_S ψ st = sm_S φ st := by
  unfold sm_S
  exact List.map_congr_left (fun v hv => sm_vcg e (h v hv))
theorem sm_Acg {φ ψ : Nat → Nat} {z : Nat} {x} (e : ∀ a, a < z → ψ a = φ a) (h : cl_A z x) : sm_A ψ x = sm_A φ x := by
  rcases x with f | f | f | f | f
  · rfl
  · rfl
  · rfl
  · rfl
  · have h : ∀ j a, f j = some a → a < z := h
    have e2 : (fun j => (f j).map ψ) = (fun j => (f j).map φ) := by
      funext j
      cases hf : f j with
      | none => rfl
      | some a => show some (ψ a) = some (φ a); rw [e a (h j a hf)]
    show Sum.inr (Sum.inr (Sum.inr (Sum.inr (fun j => (f j).map ψ)))) = Sum.inr (Sum.inr (Sum.inr (Sum.inr (fun j => (f j).map φ))))
    rw [e2]
theorem sm_Ccg {φ ψ : Nat → Nat} {z : Nat} {c : am_C} (e : ∀ a, a < z → ψ a = φ a) (h : cl_C z c) : sm_C ψ c = sm_C φ c := by
  rcases c with ⟨t, n, x⟩ | ⟨ci, fs⟩
  · show Sum.inl (t, n, sm_A ψ x) = Sum.inl (t, n, sm_A φ x)
    rw [sm_Acg e (show cl_A z x from h)]
  · show Sum.inr (ci, sm_S ψ fs) = Sum.inr (ci, sm_S φ fs)
    rw [sm_Scg e (show cl_S z fs from h)]
theorem sm_Lcg {φ ψ : Nat → Nat} {z : Nat} {ls : am_L} (e : ∀ a, a < z → ψ a = φ a) (h : cl_L z ls) : sm_L ψ ls = sm_L φ ls := by
  unfold sm_L
  refine List.map_congr_left (fun o ho => ?_)
  cases o with
  | none => rfl
  | some v =>
    obtain ⟨i, hi⟩ := List.getElem?_of_mem ho
    show some (sm_v ψ v) = some (sm_v φ v)
    rw [sm_vcg e (h i v hi)]
theorem Em0.tl {φ : Nat → Nat} {H K : am_H} (E : Em0 φ H K) : Emb (tlF φ H K) H K := by
  obtain ⟨e1, e2, e3⟩ := E
  refine ⟨fun a b h => ?_, fun a ha => if_neg (by omega), fun a ha => by rw [tlF_l ha]; exact e2 a ha, fun a c hc => ?_⟩
  · unfold tlF at h
    by_cases ha : a < H.2.1
    · by_cases hb : b < H.2.1
      · rw [if_pos ha, if_pos hb] at h; exact e1 a b ha hb h
      · rw [if_pos ha, if_neg hb] at h; have := e2 a ha; omega
    · by_cases hb : b < H.2.1
      · rw [if_neg ha, if_pos hb] at h; have := e2 b hb; omega
      · rw [if_neg ha, if_neg hb] at h; omega
  · obtain ⟨q1, q2, q3⟩ := e3 a c hc
    refine ⟨q1, q2, ?_⟩
    rw [tlF_l q1, q3, sm_Ccg (fun x hx => tlF_l hx) q2]
theorem Emb.em0 {φ : Nat → Nat} {H K : am_H} (E : Emb φ H K) : Em0 φ H K := ⟨fun a b _ _ h => E.1 a b h, E.2.2.1, E.2.2.2⟩
theorem Fp_cg {φ ψ : Nat → Nat} {H K : am_H} (E : Em0 φ H K) (e : ∀ a, a < H.2.1 → ψ a = φ a) (b : Nat) : Fp ψ H b ↔ Fp φ H b := by
  constructor
  · rintro ⟨a, c, h1, h2, h3⟩
    exact ⟨a, c, h1, h2, (e a (E.2.2 a c h1).1).symm.trans h3⟩
  · rintro ⟨a, c, h1, h2, h3⟩
    exact ⟨a, c, h1, h2, (e a (E.2.2 a c h1).1).trans h3⟩
theorem Em0.mv {φ : Nat → Nat} {H K K' : am_H} (E : Em0 φ H K) (hz : K.2.1 ≤ K'.2.1) (h : ∀ a c, H.1 a = some c → K'.1 (φ a) = K.1 (φ a)) : Em0 φ H K' := by
  obtain ⟨e1, e2, e3⟩ := E
  refine ⟨e1, fun a ha => Nat.lt_of_lt_of_le (e2 a ha) hz, fun a c hc => ?_⟩
  obtain ⟨q1, q2, q3⟩ := e3 a c hc
  exact ⟨q1, q2, (h a c hc).trans q3⟩
theorem Fp_lt {φ : Nat → Nat} {H K : am_H} {b : Nat} (E : Em0 φ H K) (h : Fp φ H b) : b < K.2.1 := by
  obtain ⟨a, c, h1, -, rfl⟩ := h
  exact E.2.1 a (E.2.2 a c h1).1
theorem sm_Cwr {φ : Nat → Nat} {c : am_C} : wr_C (sm_C φ c) ↔ wr_C c := by
  rcases c with ⟨t, n, x⟩ | ⟨ci, fs⟩
  · exact Iff.rfl
  · exact Iff.rfl
/-- a cell that is never written is in nobody's part -/
theorem Fp_no {φ : Nat → Nat} {H K : am_H} {b : Nat} {c : am_C} (E : Em0 φ H K) (hb : K.1 b = some c) (hw : ¬ wr_C c) : ¬ Fp φ H b := by
  rintro ⟨a, c0, h1, h2, rfl⟩
  have h3 := (E.2.2 a c0 h1).2.2
  rw [h3] at hb
  cases hb
  exact hw (sm_Cwr.mpr h2)
/-- what a call of an object does to the great heap -/
def Lk (t1 t2 : Nat) (K : am_H) (F : Nat → Prop) (r1 r2 : Nat) (K' : am_H) (F' : Nat → Prop) (r1' r2' : Nat) : Prop := (K.2.1 ≤ K'.2.1 ∧ K.2.2 ≤ K'.2.2) ∧ (K'.2.1 + r1' ≤ K.2.1 + r1 + t1 ∧ K'.2.2 + r2' ≤ K.2.2 + r2 + t2) ∧ (∀ b, b < K.2.1 → ¬ F b → K'.1 b = K.1 b) ∧ ∀ b, F' b → F b ∨ K.2.1 ≤ b
theorem Lk.rf {K : am_H} {F : Nat → Prop} {r1 r2 : Nat} : Lk 0 0 K F r1 r2 K F r1 r2 := ⟨⟨Nat.le_refl _, Nat.le_refl _⟩, ⟨Nat.le_refl _, Nat.le_refl _⟩, fun _ _ _ => rfl, fun _ h => Or.inl h⟩
theorem Lk.tr {t1 t2 s1 s2 : Nat} {K K1 K2 : am_H} {F F1 F2 : Nat → Prop} {r1 r2 u1 u2 v1 v2 : Nat} (a : Lk t1 t2 K F r1 r2 K1 F1 u1 u2) (b : Lk s1 s2 K1 F1 u1 u2 K2 F2 v1 v2) : Lk (t1 + s1) (t2 + s2) K F r1 r2 K2 F2 v1 v2 := by
  obtain ⟨⟨a1, a2⟩, ⟨a3, a4⟩, a5, a6⟩ := a
  obtain ⟨⟨b1, b2⟩, ⟨b3, b4⟩, b5, b6⟩ := b
  refine ⟨⟨by omega, by omega⟩, ⟨by omega, by omega⟩, fun x hx hn => ?_, fun x hx => ?_⟩
  · rw [b5 x (by omega) (fun q => (a6 x q).elim hn (fun q => by omega)), a5 x hx hn]
  · rcases b6 x hx with q | q
    · exact a6 x q
    · exact Or.inr (by omega)
theorem Lk.up {t1 t2 s1 s2 : Nat} {K K1 : am_H} {F F1 : Nat → Prop} {r1 r2 u1 u2 : Nat} (a : Lk t1 t2 K F r1 r2 K1 F1 u1 u2) (h1 : t1 ≤ s1) (h2 : t2 ≤ s2) : Lk s1 s2 K F r1 r2 K1 F1 u1 u2 := by
  obtain ⟨a1, ⟨a3, a4⟩, a5⟩ := a
  exact ⟨a1, ⟨by omega, by omega⟩, a5⟩
/-- a run in the object's own heap is a run in the great one -/
theorem Rn.emb {mi : am_I} {ls : am_L} {φ : Nat → Nat} {H K : am_H} {Q0 Q : Option Value → am_H → Prop} (E : Em0 φ H K) (hA : φ sA = sA) (hz : sA < H.2.1) (hcl : cl_L H.2.1 ls) (hls : sm_L φ ls = ls) (k : Rn sA mi 0 ls [] H Q0) (kk : ∀ (r : Option Value) (H' K' : am_H) (ψ : Nat → Nat), Q0 r H' → (∀ a, a < H.2.1 → ψ a = φ a) → Em0 ψ H' K' → H.2.1 ≤ H'.2.1 → (∀ r1 r2 u1 u2 : Nat, H.2.1 + r1 = H'.2.1 + u1 → H.2.2 + r2 = H'.2.2 + u2 → Lk 0 0 K (Fp φ H) r1 r2 K' (Fp ψ H') u1 u2) → Q (r.map (sm_v ψ)) K') : Rn sA mi 0 ls [] K Q := by
  obtain ⟨n, r, H', e, q⟩ := k
  have ag : ∀ a, a < H.2.1 → tlF φ H K a = φ a := fun a ha => tlF_l ha
  obtain ⟨K', k1, ⟨s1, ⟨s2, s3⟩, ⟨s4, s5⟩, s6, s7⟩, -⟩ := sim_exec (φ := tlF φ H K) n mi 0 ls [] H r H' e K E.tl ((ag sA hz).trans hA) hz hcl (fun v hv => by cases hv)
  rw [sm_Lcg ag hcl, hls] at k1
  refine ⟨n, _, K', k1, kk r H' K' _ q ag s1.em0 s2 (fun r1 r2 u1 u2 h1 h2 => ⟨⟨by omega, by omega⟩, ⟨by omega, by omega⟩, fun b hb hn => s6 b hb (fun x => hn ((Fp_cg E ag b).mp x)), fun b hb => ?_⟩)⟩
  rcases s7 b hb with x | x
  · exact Or.inl ((Fp_cg E ag b).mp x)
  · exact Or.inr x
end LFT
