/-! what always holds of a state's numbers; the states behind the calls, as functions -/
section OKK
noncomputable def icl {α : Type} (p : Prop) (a b : α) : α := @ite α p (Classical.propDecidable p) a b
theorem icl_t {α : Type} {p : Prop} {a b : α} (h : p) : icl p a b = a := by unfold icl; exact if_pos h
theorem icl_f {α : Type} {p : Prop} {a b : α} (h : ¬ p) : icl p a b = b := by unfold icl; exact if_neg h
def dkV (U : Nat → Int32) (n : Nat) (o : Nat → Nat) : Nat → Int32 := fun j => if 20 ≤ j ∧ j < 20 + 26 * n then U (20 + 26 * o ((j - 20) / 26) + (j - 20) % 26) else U j
theorem dkV_ok {U : Nat → Int32} {n : Nat} {o : Nat → Nat} : DkO U n o (dkV U n o) := by
  refine ⟨fun i hi j hj => ?_, fun j hj => if_neg (by omega)⟩
  unfold dkV
  rw [if_pos ⟨by omega, by omega⟩, show (20 + 26 * i + j - 20) / 26 = i by omega, show (20 + 26 * i + j - 20) % 26 = j by omega]
def pnV (U : Nat → Int32) (n c : Nat) (g : Nat → Int32) : Nat → Int32 := fun j => if j = 19 then nI (n + 1) else if 20 ≤ j ∧ j < 20 + 26 * (n + 1) then (if (j - 20) / 26 = c then (if (j - 20) % 26 < 24 then g ((j - 20) % 26) else nI 0) else U (20 + 26 * shO c ((j - 20) / 26) + (j - 20) % 26)) else U j
theorem pnV_ok {U g : Nat → Int32} {n c : Nat} (hc : c ≤ n) : PnW U n c g (pnV U n c g) := by
  have e1 : ∀ i j, j < 26 → (20 + 26 * i + j - 20) / 26 = i := fun i j h => by omega
  have e2 : ∀ i j, j < 26 → (20 + 26 * i + j - 20) % 26 = j := fun i j h => by omega
  refine ⟨fun i hi hne j hj => ?_, fun j hj => ?_, ?_, ?_, if_pos rfl, fun j hj => ?_⟩
  · unfold pnV
    rw [if_neg (by omega), if_pos ⟨by omega, by omega⟩, e1 i j hj, e2 i j hj, if_neg hne]
  · unfold pnV
    rw [if_neg (by omega), if_pos ⟨by omega, by omega⟩, e1 c j (by omega), e2 c j (by omega), if_pos rfl, if_pos hj]
  · unfold pnV
    rw [if_neg (by omega), if_pos ⟨by omega, by omega⟩, e1 c 24 (by omega), e2 c 24 (by omega), if_pos rfl, if_neg (by omega)]
  · unfold pnV
    rw [if_neg (by omega), if_pos ⟨by omega, by omega⟩, e1 c 25 (by omega), e2 c 25 (by omega), if_pos rfl, if_neg (by omega)]
  · unfold pnV
    rw [if_neg (by omega), if_neg (by omega)]
theorem accN_lt {P Wd : Nat → Nat} {U : Nat → Int32} {ru : Int32} {i j : Nat} (h : i < j) (h0 : fdR P Wd U ru i = nI 0) : accN P Wd U ru i < accN P Wd U ru j := by
  have h1 := accN_s P Wd U ru i
  rw [if_pos h0] at h1
  have h2 := accN_mono (P := P) (Wd := Wd) (U := U) (ru := ru) (show i + 1 ≤ j by omega)
  omega
noncomputable def acI (P Wd : Nat → Nat) (U : Nat → Int32) (ru : Int32) (n k : Nat) : Nat := Classical.epsilon (fun i => i < n ∧ fdR P Wd U ru i = nI 0 ∧ accN P Wd U ru i = k)
theorem acI_ok {P Wd : Nat → Nat} {U : Nat → Int32} {ru : Int32} {n i : Nat} (hi : i < n) (h0 : fdR P Wd U ru i = nI 0) : acI P Wd U ru n (accN P Wd U ru i) = i := by
  have h := Classical.epsilon_spec (p := fun j => j < n ∧ fdR P Wd U ru j = nI 0 ∧ accN P Wd U ru j = accN P Wd U ru i) ⟨i, hi, h0, rfl⟩
  obtain ⟨h1, h2, h3⟩ := h
  show Classical.epsilon (fun j => j < n ∧ fdR P Wd U ru j = nI 0 ∧ accN P Wd U ru j = accN P Wd U ru i) = i
  generalize Classical.epsilon (fun j => j < n ∧ fdR P Wd U ru j = nI 0 ∧ accN P Wd U ru j = accN P Wd U ru i) = k at h1 h2 h3
  rcases Nat.lt_trichotomy k i with q | q | q
  · have := accN_lt q h2; omega
  · exact q
  · have := accN_lt q h0; omega
noncomputable def runX (P Wd : Nat → Nat) (U : Nat → Int32) (n : Nat) : Nat → Int32 := fun j => if j = 1060 then nI 1 else if j = 1061 then U 15 else if j = 1062 then nI n else if j = 1103 then nI (accN P Wd U (U 12) n) else if 1063 ≤ j ∧ j < 1103 then fdR P Wd U (U 12) (j - 1063) else if 1104 ≤ j ∧ j < 1304 then accF P Wd U (acI P Wd U (U 12) n ((j - 1104) / 5)) ((j - 1104) % 5) else U j
noncomputable def runP (P Wd : Nat → Nat) (U : Nat → Int32) (n : Nat) : PS := ptE (U 15) (fun k f => runX P Wd U n (1104 + 5 * k + f)) (fun k => nI (acI P Wd U (U 12) n k)) (accN P Wd U (U 12) n)
noncomputable def runV (P Wd : Nat → Nat) (U : Nat → Int32) (n : Nat) : Nat → Int32 := fun j => if j < 1304 then runX P Wd U n j else if j = 1304 then nI (runP P Wd U n).1 else if j < 1305 + 9 * (runP P Wd U n).1 then (runP P Wd U n).2.1 ((j - 1305) / 9) ((j - 1305) % 9) else 0
theorem runV_ok {P Wd : Nat → Nat} {U : Nat → Int32} {n : Nat} (hn : n ≤ 40) : RunW P Wd U n (runV P Wd U n) := by
  refine ⟨runX P Wd U n, fun k => nI (acI P Wd U (U 12) n k), fun j hj => ?_, ?_, ?_, ?_, ?_, fun i hi => ?_, fun i hi h0 => ⟨fun f hf => ?_, ?_⟩, fun j => (runP P Wd U n).2.2 j, fun j hj => if_pos hj, ?_, fun i hi j hj => ?_, fun j _ => rfl⟩
  · unfold runX
    rw [if_neg (by omega), if_neg (by omega), if_neg (by omega), if_neg (by omega), if_neg (by omega), if_neg (by omega)]
  · exact if_pos rfl
  · unfold runX
    rw [if_neg (by omega), if_pos rfl]
  · unfold runX
    rw [if_neg (by omega), if_neg (by omega), if_pos rfl]
  · unfold runX
    rw [if_neg (by omega), if_neg (by omega), if_neg (by omega), if_pos rfl]
  · unfold runX
    rw [if_neg (by omega), if_neg (by omega), if_neg (by omega), if_neg (by omega), if_pos ⟨by omega, by omega⟩, show 1063 + i - 1063 = i by omega]
  · have h1 := accN_lt hi h0
    have h2 := accN_le P Wd U (U 12) n
    unfold runX
    rw [if_neg (by omega), if_neg (by omega), if_neg (by omega), if_neg (by omega), if_neg (by omega), if_pos ⟨by omega, by omega⟩, show (1104 + 5 * accN P Wd U (U 12) i + f - 1104) / 5 = accN P Wd U (U 12) i by omega, show (1104 + 5 * accN P Wd U (U 12) i + f - 1104) % 5 = f by omega, acI_ok hi h0]
  · show nI (acI P Wd U (U 12) n (accN P Wd U (U 12) i)) = nI i
    rw [acI_ok hi h0]
  · unfold runV
    rw [if_neg (by omega), if_pos rfl]
    rfl
  · have hi : i < (runP P Wd U n).1 := hi
    unfold runV
    rw [if_neg (by omega), if_neg (by omega), if_pos (by omega), show (1305 + 9 * i + j - 1305) / 9 = i by omega, show (1305 + 9 * i + j - 1305) % 9 = j by omega]
    rfl
def STO (U : Nat → Int32) : Prop := (∀ k, k < 4 → ∃ v, v ≤ 9999 ∧ U (12 + k) = nI v) ∧ ∀ k, k < 3 → U (16 + k) = (-1000009) ∨ ∃ v, v ≤ 1000000 ∧ U (16 + k) = nI v
def RpQ (U : Nat → Int32) : Prop := U 1304 = nI 0 ∨ ∃ (m n1 lim : Nat) (acc : Nat → Nat → Int32) (num : Nat → Int32), (m ≤ 40 ∧ n1 ≤ 40 ∧ lim ≤ 9999) ∧ (U 1061 = nI lim ∧ U 1062 = nI n1 ∧ U 1103 = nI m) ∧ (∀ k, k < m → ∀ f, f < 5 → U (1104 + 5 * k + f) = acc k f) ∧ (∀ k, k < m → ∃ i, i < n1 ∧ num k = nI i ∧ U (1063 + i) = nI 0) ∧ U 1304 = nI (ptE (nI lim) acc num m).1 ∧ ∀ i, i < (ptE (nI lim) acc num m).1 → ∀ j, j < 9 → U (1305 + 9 * i + j) = (ptE (nI lim) acc num m).2.1 i j
theorem STO.cg {U V : Nat → Int32} (a : STO U) (e : ∀ j, j < 19 → V j = U j) : STO V := ⟨fun k hk => by rw [e _ (by omega)]; exact a.1 k hk, fun k hk => by rw [e _ (by omega)]; exact a.2 k hk⟩
theorem RpQ.cg {U V : Nat → Int32} (a : RpQ U) (e : ∀ j, 1060 ≤ j → j < 2754 → V j = U j) : RpQ V := by
  rcases a with a | ⟨m, n1, lim, acc, num, ⟨a1, a2, a3⟩, ⟨b1, b2, b3⟩, c1, c2, c3, c4⟩
  · exact Or.inl ((e _ (by omega) (by omega)).trans a)
  · have h161 := ptE_le (lim := nI lim) (acc := acc) (num := num) a1
    refine Or.inr ⟨m, n1, lim, acc, num, ⟨a1, a2, a3⟩, ⟨(e _ (by omega) (by omega)).trans b1, (e _ (by omega) (by omega)).trans b2, (e _ (by omega) (by omega)).trans b3⟩, fun k hk f hf => (e _ (by omega) (by omega)).trans (c1 k hk f hf), fun k hk => ?_, (e _ (by omega) (by omega)).trans c3, fun i hi j hj => (e _ (by omega) (by omega)).trans (c4 i hi j hj)⟩
    obtain ⟨i, i1, i2, i3⟩ := c2 k hk
    exact ⟨i, i1, i2, (e _ (by omega) (by omega)).trans i3⟩
def OKU (U : Nat → Int32) : Prop := WOK U ∧ STO U ∧ RpQ U
theorem OKU.hi {U V : Nat → Int32} (a : OKU U) (w : WOK V) (e1 : ∀ j, j < 19 → V j = U j) (e2 : ∀ j, 1060 ≤ j → j < 2754 → V j = U j) : OKU V := ⟨w, a.2.1.cg e1, a.2.2.cg e2⟩
theorem OKU.lo {U V : Nat → Int32} (a : OKU U) (e : ∀ j, 19 ≤ j → j < 2754 → V j = U j) (s : STO V) : OKU V := ⟨a.1.cg e, s, a.2.2.cg (fun j h1 h2 => e j (by omega) h2)⟩
theorem OKU.cg {U V : Nat → Int32} (a : OKU U) (e : ∀ j, j < 2754 → V j = U j) : OKU V := a.lo (fun j _ h => e j h) (a.2.1.cg (fun j h => e j (by omega)))
theorem OKU.ze {U : Nat → Int32} (h : U00 U) : OKU U := by
  obtain ⟨-, -, -, -, -, -, -, -, -, -, -, -, h12, h13, h14, h15, h16, h17, h18, hz⟩ := h
  refine ⟨WOK.ze hz, ⟨fun k hk => ?_, fun k hk => ?_⟩, Or.inl (hz 1304 (by omega))⟩
  · rcases (by omega : k = 0 ∨ k = 1 ∨ k = 2 ∨ k = 3) with rfl | rfl | rfl | rfl
    · exact ⟨1, by omega, h12⟩
    · exact ⟨1, by omega, h13⟩
    · exact ⟨999, by omega, h14⟩
    · exact ⟨400, by omega, h15⟩
  · rcases (by omega : k = 0 ∨ k = 1 ∨ k = 2) with rfl | rfl | rfl
    · exact Or.inl h16
    · exact Or.inl h17
    · exact Or.inl h18
theorem OKU.run {U V : Nat → Int32} {n : Nat} {P Wd : Nat → Nat} (a : OKU U) (hL : LayW U P Wd) (hV : LayV Wd) (hw : U 19 = nI n) (hn : n ≤ 40) (v : RunW P Wd U n V) : OKU V := by
  obtain ⟨w, s, -⟩ := a
  refine ⟨w.run hL hV hw hn v, ?_, ?_⟩
  · obtain ⟨V1, G, v1, -, -, -, -, -, -, Z, w1, -⟩ := v
    exact s.cg (fun j hj => (w1 j (by omega)).trans (v1 j (by omega)))
  · obtain ⟨V1, G, v1, v2, v3, v4, v5, v6, v7, Z, w1, w2, w3, -⟩ := v
    obtain ⟨lim, l1, l2⟩ := s.1 3 (by omega)
    have l2 : U 15 = nI lim := l2
    have hm := accN_le P Wd U (U 12) n
    rw [l2] at w2 w3 v3
    refine Or.inr ⟨accN P Wd U (U 12) n, n, lim, fun k f => V1 (1104 + 5 * k + f), G, ⟨by omega, hn, l1⟩, ⟨(w1 _ (by omega)).trans v3, (w1 _ (by omega)).trans v4, (w1 _ (by omega)).trans v5⟩, fun k hk f hf => w1 _ (by omega), fun k hk => ?_, w2, w3⟩
    obtain ⟨i, i1, i2, i3⟩ := accN_find hk
    exact ⟨i, i1, by rw [← i3]; exact (v7 i i1 i2).2, by rw [w1 _ (by omega), v6 i i1]; exact i2⟩
def OKS (S : St5) : Prop := OKU S.1 ∧ ∀ i, i < 2 → ¬ S.2.2.1 / 2 ^ i % 2 = 0 → OKU (fun j => S.2.1 (2754 * i + j))
end OKK
