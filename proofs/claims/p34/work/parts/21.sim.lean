/-! a method that runs in a heap of its own runs in any heap that holds that one, its cells moved, and touches nothing else -/
section SIM
variable {φ : Nat → Nat} {H K H' K' H2 K2 : am_H} {sA : Nat}
def sm_v (φ : Nat → Nat) (v : Value) : Value := match v with
  | .ref a => .ref (φ a)
  | .int x => .int x
  | .long x => .long x
  | .float x => .float x
  | .double x => .double x
  | .null => .null
  | .retAddr x => .retAddr x
def sm_L (φ : Nat → Nat) (ls : am_L) : am_L := ls.map (Option.map (sm_v φ))
def sm_S (φ : Nat → Nat) (st : List Value) : List Value := st.map (sm_v φ)
def sm_A (φ : Nat → Nat) (x : (Nat → Int32) ⊕ (Nat → Int64) ⊕ (Nat → UInt32) ⊕ (Nat → UInt64) ⊕ (Nat → Option Nat)) : (Nat → Int32) ⊕ (Nat → Int64) ⊕ (Nat → UInt32) ⊕ (Nat → UInt64) ⊕ (Nat → Option Nat) := match x with
  | .inl f => .inl f
  | .inr (.inl f) => .inr (.inl f)
  | .inr (.inr (.inl f)) => .inr (.inr (.inl f))
  | .inr (.inr (.inr (.inl f))) => .inr (.inr (.inr (.inl f)))
  | .inr (.inr (.inr (.inr f))) => .inr (.inr (.inr (.inr (fun j => (f j).map φ))))
def sm_C (φ : Nat → Nat) (c : am_C) : am_C := match c with
  | .inl (t, n, x) => .inl (t, n, sm_A φ x)
  | .inr (ci, fs) => .inr (ci, sm_S φ fs)
def cl_v (z : Nat) (v : Value) : Prop := ∀ a, v = .ref a → a < z
def cl_S (z : Nat) (st : List Value) : Prop := ∀ v, v ∈ st → cl_v z v
def cl_L (z : Nat) (ls : am_L) : Prop := ∀ (i : Nat) (v : Value), ls[i]? = some (some v) → cl_v z v
def cl_A (z : Nat) (x : (Nat → Int32) ⊕ (Nat → Int64) ⊕ (Nat → UInt32) ⊕ (Nat → UInt64) ⊕ (Nat → Option Nat)) : Prop := match x with
  | .inl _ => True
  | .inr (.inl _) => True
  | .inr (.inr (.inl _)) => True
  | .inr (.inr (.inr (.inl _))) => True
  | .inr (.inr (.inr (.inr f))) => ∀ j a, f j = some a → a < z
def cl_C (z : Nat) (c : am_C) : Prop := match c with
  | .inl (_, _, x) => cl_A z x
  | .inr (_, fs) => cl_S z fs
/-- a cell that may be written -/
def wr_C (c : am_C) : Prop := match c with
  | .inl (t, _, _) => ¬ t = 9
  | .inr _ => True
def Emb (φ : Nat → Nat) (H K : am_H) : Prop := (∀ a b, φ a = φ b → a = b) ∧ (∀ a, H.2.1 ≤ a → φ a = K.2.1 + (a - H.2.1)) ∧ (∀ a, a < H.2.1 → φ a < K.2.1) ∧ ∀ a c, H.1 a = some c → a < H.2.1 ∧ cl_C H.2.1 c ∧ K.1 (φ a) = some (sm_C φ c)
def Fp (φ : Nat → Nat) (H : am_H) (b : Nat) : Prop := ∃ a c, H.1 a = some c ∧ wr_C c ∧ φ a = b
def SR (φ : Nat → Nat) (H K H' K' : am_H) : Prop := Emb φ H' K' ∧ (H.2.1 ≤ H'.2.1 ∧ H.2.2 ≤ H'.2.2) ∧ (K'.2.1 + H.2.1 = K.2.1 + H'.2.1 ∧ K'.2.2 + H.2.2 = K.2.2 + H'.2.2) ∧ (∀ b, b < K.2.1 → ¬ Fp φ H b → K'.1 b = K.1 b) ∧ ∀ b, Fp φ H' b → Fp φ H b ∨ K.2.1 ≤ b
theorem sm_cat (v : Value) : (sm_v φ v).category = v.category := by cases v <;> rfl
theorem sm_len (st : List Value) : (sm_S φ st).length = st.length := List.length_map _
theorem sm_lenL (ls : am_L) : (sm_L φ ls).length = ls.length := List.length_map _
theorem sm_cats (st : List Value) : am_cat (sm_S φ st) = am_cat st := by
  unfold am_cat sm_S
  rw [List.map_map]
  congr 1
  exact List.map_congr_left (fun v _ => sm_cat v)
theorem sm_get {ls : am_L} {i : Nat} {v : Value} (h : ls[i]? = some (some v)) : (sm_L φ ls)[i]? = some (some (sm_v φ v)) := by
  unfold sm_L
  rw [List.getElem?_map, h]
  rfl
theorem cl_v.up {z z' : Nat} {v : Value} (h : cl_v z v) (hz : z ≤ z') : cl_v z' v := fun a e => Nat.lt_of_lt_of_le (h a e) hz
theorem cl_S.up {z z' : Nat} {st : List Value} (h : cl_S z st) (hz : z ≤ z') : cl_S z' st := fun v hv => (h v hv).up hz
theorem cl_L.up {z z' : Nat} {ls : am_L} (h : cl_L z ls) (hz : z ≤ z') : cl_L z' ls := fun i v hv => (h i v hv).up hz
theorem cl_A.up {z z' : Nat} {x} (h : cl_A z x) (hz : z ≤ z') : cl_A z' x := by
  rcases x with f | f | f | f | f
  · trivial
  · trivial
  · trivial
  · trivial
  · exact fun j a e => Nat.lt_of_lt_of_le (h j a e) hz
theorem cl_C.up {z z' : Nat} {c : am_C} (h : cl_C z c) (hz : z ≤ z') : cl_C z' c := by
  rcases c with ⟨t, n, x⟩ | ⟨ci, fs⟩
  · exact cl_A.up (x := x) h hz
  · exact cl_S.up (st := fs) h hz
theorem cl_S.cons {z : Nat} {v : Value} {st : List Value} (h : cl_v z v) (h2 : cl_S z st) : cl_S z (v :: st) := fun w hw => by
  rcases List.mem_cons.mp hw with e | e
  · rw [e]; exact h
  · exact h2 w e
theorem cl_S.hd {z : Nat} {v : Value} {st : List Value} (h : cl_S z (v :: st)) : cl_v z v := h v List.mem_cons_self
theorem cl_S.tl {z : Nat} {v : Value} {st : List Value} (h : cl_S z (v :: st)) : cl_S z st := fun w hw => h w (List.mem_cons_of_mem _ hw)
theorem cl_int {z : Nat} {x : Int32} : cl_v z (.int x) := fun a e => by cases e
theorem cl_long {z : Nat} {x : Int64} : cl_v z (.long x) := fun a e => by cases e
theorem cl_float {z : Nat} {x : UInt32} : cl_v z (.float x) := fun a e => by cases e
theorem cl_double {z : Nat} {x : UInt64} : cl_v z (.double x) := fun a e => by cases e
theorem cl_null {z : Nat} : cl_v z .null := fun a e => by cases e
theorem sm_kill (o : Option Value) : (am_kill o).map (sm_v φ) = am_kill (o.map (sm_v φ)) := by
  cases o with
  | none => rfl
  | some w => cases w <;> rfl
theorem sm_tail (v : Value) (l : am_L) : sm_L φ (am_tail v l) = am_tail (sm_v φ v) (sm_L φ l) := by
  unfold am_tail
  rw [sm_cat]
  split
  · cases l <;> rfl
  · rfl
theorem sm_set (v : Value) : ∀ (i : Nat) (l : am_L), sm_L φ (am_set v i l) = am_set (sm_v φ v) i (sm_L φ l)
  | i, [] => by
    show sm_L φ (am_set v i []) = am_set (sm_v φ v) i []
    rw [am_set_nil, am_set_nil]
    rfl
  | 0, _ :: l => by
    show some (sm_v φ v) :: sm_L φ (am_tail v l) = some (sm_v φ v) :: am_tail (sm_v φ v) (sm_L φ l)
    rw [sm_tail]
  | 1, o :: l => by
    show (am_kill o).map (sm_v φ) :: sm_L φ (am_set v 0 l) = am_kill (o.map (sm_v φ)) :: am_set (sm_v φ v) 0 (sm_L φ l)
    rw [sm_kill, sm_set v 0 l]
  | i + 2, o :: l => by
    show o.map (sm_v φ) :: sm_L φ (am_set v (i + 1) l) = o.map (sm_v φ) :: am_set (sm_v φ v) (i + 1) (sm_L φ l)
    rw [sm_set v (i + 1) l]
theorem cl_set {z : Nat} {v : Value} {i : Nat} {l : am_L} (hv : cl_v z v) (hl : cl_L z l) : cl_L z (am_set v i l) := fun k w hw => by
  rcases am_set_sp v i l k w hw with ⟨-, e⟩ | ⟨e, -⟩
  · rw [e]; exact hv
  · exact hl k w e
theorem SR.rf (E : Emb φ H K) : SR φ H K H K := ⟨E, ⟨Nat.le_refl _, Nat.le_refl _⟩, ⟨rfl, rfl⟩, fun _ _ _ => rfl, fun _ h => Or.inl h⟩
theorem SR.tr (a : SR φ H K H' K') (b : SR φ H' K' H2 K2) : SR φ H K H2 K2 := by
  obtain ⟨a1, ⟨a2, a3⟩, ⟨a4, a5⟩, a6, a7⟩ := a
  obtain ⟨b1, ⟨b2, b3⟩, ⟨b4, b5⟩, b6, b7⟩ := b
  refine ⟨b1, ⟨by omega, by omega⟩, ⟨by omega, by omega⟩, fun x hx hn => ?_, fun x hx => ?_⟩
  · rw [b6 x (by omega) (fun q => (a7 x q).elim hn (fun q => by omega)), a6 x hx hn]
  · rcases b7 x hx with q | q
    · exact a7 x q
    · exact Or.inr (by omega)
/-- a cell written -/
theorem SR.wr {a : Nat} {c0 c1 : am_C} (E : Emb φ H K) (h0 : H.1 a = some c0) (w0 : wr_C c0) (hc : cl_C H.2.1 c1) : SR φ H K (va_up H.1 a (some c1), H.2.1, H.2.2) (va_up K.1 (φ a) (some (sm_C φ c1)), K.2.1, K.2.2) := by
  obtain ⟨e1, e2, e3, e4⟩ := E
  obtain ⟨ha, -, -⟩ := e4 a c0 h0
  refine ⟨⟨e1, e2, e3, fun b c hb => ?_⟩, ⟨Nat.le_refl _, Nat.le_refl _⟩, ⟨rfl, rfl⟩, fun b hb hn => ?_, fun b hb => ?_⟩
  · have hb : va_up H.1 a (some c1) b = some c := hb
    unfold va_up at hb
    by_cases e : b = a
    · rw [if_pos e] at hb
      cases hb
      subst e
      exact ⟨ha, hc, up_s⟩
    · rw [if_neg e] at hb
      obtain ⟨q1, q2, q3⟩ := e4 b c hb
      exact ⟨q1, q2, up_n (fun q => e (e1 _ _ q)) q3⟩
  · exact up_n (fun q => hn ⟨a, c0, h0, w0, q.symm⟩) rfl
  · obtain ⟨x, c, hx, hw, rfl⟩ := hb
    have hx : va_up H.1 a (some c1) x = some c := hx
    unfold va_up at hx
    by_cases e : x = a
    · subst e; exact Or.inl ⟨x, c0, h0, w0, rfl⟩
    · rw [if_neg e] at hx; exact Or.inl ⟨x, c, hx, hw, rfl⟩
/-- a cell made -/
theorem SR.nw {n : Nat} {c1 : am_C} (E : Emb φ H K) (hc : cl_C H.2.1 c1) : SR φ H K (va_up H.1 H.2.1 (some c1), H.2.1 + 1, H.2.2 + n) (va_up K.1 K.2.1 (some (sm_C φ c1)), K.2.1 + 1, K.2.2 + n) := by
  obtain ⟨e1, e2, e3, e4⟩ := E
  have hz : φ H.2.1 = K.2.1 := by rw [e2 _ (Nat.le_refl _)]; omega
  refine ⟨⟨e1, fun a ha => ?_, fun a ha => ?_, fun b c hb => ?_⟩, ⟨Nat.le_succ _, Nat.le_add_right _ _⟩, ⟨by show K.2.1 + 1 + H.2.1 = K.2.1 + (H.2.1 + 1); omega, by show K.2.2 + n + H.2.2 = K.2.2 + (H.2.2 + n); omega⟩, fun b hb _ => ?_, fun b hb => ?_⟩
  · have ha : H.2.1 + 1 ≤ a := ha
    show φ a = K.2.1 + 1 + (a - (H.2.1 + 1))
    rw [e2 a (by omega)]
    omega
  · have ha : a < H.2.1 + 1 := ha
    show φ a < K.2.1 + 1
    by_cases e : a = H.2.1
    · rw [e, hz]; omega
    · have := e3 a (by omega); omega
  · have hb : va_up H.1 H.2.1 (some c1) b = some c := hb
    unfold va_up at hb
    by_cases e : b = H.2.1
    · rw [if_pos e] at hb
      cases hb
      subst e
      exact ⟨Nat.lt_succ_self _, hc.up (Nat.le_succ _), by rw [hz]; exact up_s⟩
    · rw [if_neg e] at hb
      obtain ⟨q1, q2, q3⟩ := e4 b c hb
      exact ⟨Nat.lt_succ_of_lt q1, q2.up (Nat.le_succ _), up_n (fun q => e (e1 _ _ (q.trans hz.symm))) q3⟩
  · exact up_n (by omega) rfl
  · obtain ⟨x, c, hx, hw, rfl⟩ := hb
    have hx : va_up H.1 H.2.1 (some c1) x = some c := hx
    unfold va_up at hx
    by_cases e : x = H.2.1
    · subst e; right; rw [hz]; exact Nat.le_refl _
    · rw [if_neg e] at hx; exact Or.inl ⟨x, c, hx, hw, rfl⟩
/-- what one does in its own heap the other does in the great one -/
def SmT (φ : Nat → Nat) (H K : am_H) (X Y : am_R) : Prop := ∀ pc ls st H', X = some (pc, ls, st, H') → ∃ K', Y = some (pc, sm_L φ ls, sm_S φ st, K') ∧ SR φ H K H' K' ∧ cl_L H'.2.1 ls ∧ cl_S H'.2.1 st
section PLAIN
variable {pc : Nat} {ls : am_L} {st : List Value}
theorem sim_push (E : Emb φ H K) (hl : cl_L H.2.1 ls) (hs : cl_S H.2.1 st) {v : Value} (hv : sm_v φ v = v) (hc : cl_v H.2.1 v) : SmT φ H K (am_push pc ls st H v) (am_push pc (sm_L φ ls) (sm_S φ st) K v) := by
  intro pc' ls' st' H' h
  cases h
  exact ⟨K, by show some (_, _, v :: sm_S φ st, K) = some (_, _, sm_v φ v :: sm_S φ st, K); rw [hv], SR.rf E, hl, hs.cons hc⟩
theorem sim_pushO (E : Emb φ H K) (hl : cl_L H.2.1 ls) (hs : cl_S H.2.1 st) {o : Option Value} (hv : ∀ v, o = some v → sm_v φ v = v ∧ cl_v H.2.1 v) : SmT φ H K (am_pushO pc ls st H o) (am_pushO pc (sm_L φ ls) (sm_S φ st) K o) := by
  cases o with
  | none => intro pc' ls' st' H' h; cases h
  | some v => exact sim_push E hl hs (hv v rfl).1 (hv v rfl).2
theorem sim_load (E : Emb φ H K) (hl : cl_L H.2.1 ls) (hs : cl_S H.2.1 st) {ok : Value → Bool} {i : Nat} (hok : ∀ v, ok (sm_v φ v) = ok v) : SmT φ H K (am_load ok i pc ls st H) (am_load ok i pc (sm_L φ ls) (sm_S φ st) K) := by
  intro pc' ls' st' H' h
  obtain ⟨v, hv, ho, e⟩ := am_load_inv h
  cases e
  refine ⟨K, ?_, SR.rf E, hl, hs.cons (hl _ _ hv)⟩
  unfold am_load
  rw [sm_get hv]
  dsimp only
  rw [hok, if_pos ho]
  rfl
theorem sim_store (E : Emb φ H K) (hl : cl_L H.2.1 ls) (hs : cl_S H.2.1 st) {ok : Value → Bool} {i : Nat} (hok : ∀ v, ok (sm_v φ v) = ok v) : SmT φ H K (am_store ok i pc ls st H) (am_store ok i pc (sm_L φ ls) (sm_S φ st) K) := by
  intro pc' ls' st' H' h
  obtain ⟨v, st0, e1, ho, hi, e⟩ := am_store_inv h
  cases e
  subst e1
  refine ⟨K, ?_, SR.rf E, cl_set hs.hd hl, hs.tl⟩
  show (if ok (sm_v φ v) = true ∧ i + (sm_v φ v).category ≤ (sm_L φ ls).length then some (pc, am_set (sm_v φ v) i (sm_L φ ls), sm_S φ st', K) else none) = _
  rw [hok, sm_cat, sm_lenL, if_pos ⟨ho, hi⟩, sm_set]
theorem sim_iinc (E : Emb φ H K) (hl : cl_L H.2.1 ls) (hs : cl_S H.2.1 st) {i : Nat} {k : Int} : SmT φ H K (am_iinc i k pc ls st H) (am_iinc i k pc (sm_L φ ls) (sm_S φ st) K) := by
  intro pc' ls' st' H' h
  obtain ⟨x, hx, e⟩ := am_iinc_inv h
  cases e
  refine ⟨K, ?_, SR.rf E, cl_set cl_int hl, hs⟩
  unfold am_iinc
  rw [sm_get hx]
  show some (_, am_set (.int (x + Int32.ofInt k)) i (sm_L φ ls), _, _) = _
  rw [sm_set]
  rfl
theorem sim_i2 (E : Emb φ H K) (hl : cl_L H.2.1 ls) (hs : cl_S H.2.1 st) {f : Int32 → Int32 → Option Int32} : SmT φ H K (am_i2 f pc ls st H) (am_i2 f pc (sm_L φ ls) (sm_S φ st) K) := by
  intro pc' ls' st' H' h
  obtain ⟨x, y, w, st0, e1, hz, e⟩ := am_i2_inv h
  cases e
  subst e1
  refine ⟨K, ?_, SR.rf E, hl, hs.tl.tl.cons cl_int⟩
  show (match f x y with | some z => some (pc, sm_L φ ls, Value.int z :: sm_S φ st0, K) | none => none) = _
  rw [hz]
  rfl
theorem sim_l2 (E : Emb φ H K) (hl : cl_L H.2.1 ls) (hs : cl_S H.2.1 st) {f : Int64 → Int64 → Option Value} (hf : ∀ x y v, f x y = some v → sm_v φ v = v ∧ cl_v H.2.1 v) : SmT φ H K (am_l2 f pc ls st H) (am_l2 f pc (sm_L φ ls) (sm_S φ st) K) := by
  intro pc' ls' st' H' h
  obtain ⟨x, y, w, st0, e1, hz, e⟩ := am_l2_inv h
  cases e
  subst e1
  refine ⟨K, ?_, SR.rf E, hl, hs.tl.tl.cons (hf _ _ _ hz).2⟩
  show (match f x y with | some z => some (pc, sm_L φ ls, z :: sm_S φ st0, K) | none => none) = some (pc, sm_L φ ls, sm_v φ w :: sm_S φ st0, K)
  rw [hz, (hf _ _ _ hz).1]
theorem sim_u1 (E : Emb φ H K) (hl : cl_L H.2.1 ls) (hs : cl_S H.2.1 st) {f : Value → Option Value} (hf : ∀ x v, f x = some v → f (sm_v φ x) = some v ∧ sm_v φ v = v ∧ cl_v H.2.1 v) : SmT φ H K (am_u1 f pc ls st H) (am_u1 f pc (sm_L φ ls) (sm_S φ st) K) := by
  intro pc' ls' st' H' h
  obtain ⟨x, w, st0, e1, hz, e⟩ := am_u1_inv h
  cases e
  subst e1
  obtain ⟨f1, f2, f3⟩ := hf _ _ hz
  refine ⟨K, ?_, SR.rf E, hl, hs.tl.cons f3⟩
  show (match f (sm_v φ x) with | some z => some (pc, sm_L φ ls, z :: sm_S φ st0, K) | none => none) = some (pc, sm_L φ ls, sm_v φ w :: sm_S φ st0, K)
  rw [f1, f2]
theorem sim_f2 (E : Emb φ H K) (hl : cl_L H.2.1 ls) (hs : cl_S H.2.1 st) {f : UInt32 → UInt32 → Option Value} (hf : ∀ x y v, f x y = some v → sm_v φ v = v ∧ cl_v H.2.1 v) : SmT φ H K (am_f2 f pc ls st H) (am_f2 f pc (sm_L φ ls) (sm_S φ st) K) := by
  intro pc' ls' st' H' h
  obtain ⟨x, y, w, st0, e1, hz, e⟩ := am_f2_inv h
  cases e
  subst e1
  refine ⟨K, ?_, SR.rf E, hl, hs.tl.tl.cons (hf _ _ _ hz).2⟩
  show am_pushO pc (sm_L φ ls) (sm_S φ st0) K (f x y) = some (pc, sm_L φ ls, sm_v φ w :: sm_S φ st0, K)
  rw [hz, (hf _ _ _ hz).1]
  rfl
theorem sim_d2 (E : Emb φ H K) (hl : cl_L H.2.1 ls) (hs : cl_S H.2.1 st) {f : UInt64 → UInt64 → Option Value} (hf : ∀ x y v, f x y = some v → sm_v φ v = v ∧ cl_v H.2.1 v) : SmT φ H K (am_d2 f pc ls st H) (am_d2 f pc (sm_L φ ls) (sm_S φ st) K) := by
  intro pc' ls' st' H' h
  obtain ⟨x, y, w, st0, e1, hz, e⟩ := am_d2_inv h
  cases e
  subst e1
  refine ⟨K, ?_, SR.rf E, hl, hs.tl.tl.cons (hf _ _ _ hz).2⟩
  show am_pushO pc (sm_L φ ls) (sm_S φ st0) K (f x y) = some (pc, sm_L φ ls, sm_v φ w :: sm_S φ st0, K)
  rw [hz, (hf _ _ _ hz).1]
  rfl
theorem sim_tgt (E : Emb φ H K) (hl : cl_L H.2.1 ls) (hs : cl_S H.2.1 st) {off : Int} : SmT φ H K (am_tgt pc off ls st H) (am_tgt pc off (sm_L φ ls) (sm_S φ st) K) := by
  intro pc' ls' st' H' h
  obtain ⟨ho, e⟩ := am_tgt_inv h
  cases e
  refine ⟨K, ?_, SR.rf E, hl, hs⟩
  unfold am_tgt
  rw [if_pos ho]
theorem sim_if1 (E : Emb φ H K) (hl : cl_L H.2.1 ls) (hs : cl_S H.2.1 st) {k : ClassFile.Cond} {off : Int} : SmT φ H K (am_if1 k off pc ls st H) (am_if1 k off pc (sm_L φ ls) (sm_S φ st) K) := by
  intro pc' ls' st' H' h
  obtain ⟨x, st0, e1, ho, e⟩ := am_if1_inv h
  cases e
  subst e1
  refine ⟨K, ?_, SR.rf E, hl, hs.tl⟩
  show (if 0 ≤ (pc : Int) + off then some (if am_c1 k x = true then ((pc : Int) + off).toNat else pc + 3, sm_L φ ls, sm_S φ st', K) else none) = _
  rw [if_pos ho]
theorem sim_if2 (E : Emb φ H K) (hl : cl_L H.2.1 ls) (hs : cl_S H.2.1 st) {k : ClassFile.Cond} {off : Int} : SmT φ H K (am_if2 k off pc ls st H) (am_if2 k off pc (sm_L φ ls) (sm_S φ st) K) := by
  intro pc' ls' st' H' h
  obtain ⟨x, y, st0, e1, ho, e⟩ := am_if2_inv h
  cases e
  subst e1
  refine ⟨K, ?_, SR.rf E, hl, hs.tl.tl⟩
  show (if 0 ≤ (pc : Int) + off then some (if am_c2 k x y = true then ((pc : Int) + off).toNat else pc + 3, sm_L φ ls, sm_S φ st', K) else none) = _
  rw [if_pos ho]
theorem sim_nn (E : Emb φ H K) (hl : cl_L H.2.1 ls) (hs : cl_S H.2.1 st) {off : Int} : SmT φ H K (am_nn off pc ls st H) (am_nn off pc (sm_L φ ls) (sm_S φ st) K) := by
  rcases st with _ | ⟨v, st0⟩
  · intro pc' ls' st' H' h; cases h
  · cases v
    case ref a => exact sim_tgt E hl hs.tl
    case null => intro pc' ls' st' H' h; cases h; exact ⟨K, rfl, SR.rf E, hl, hs.tl⟩
    all_goals (intro pc' ls' st' H' h; cases h)
theorem sim_tsw (E : Emb φ H K) (hl : cl_L H.2.1 ls) (hs : cl_S H.2.1 st) {d lo hi : Int} {offs : Array Int} : SmT φ H K (am_tsw d lo hi offs pc ls st H) (am_tsw d lo hi offs pc (sm_L φ ls) (sm_S φ st) K) := by
  rcases st with _ | ⟨v, st0⟩
  · intro pc' ls' st' H' h; cases h
  · cases v
    case int x =>
      show SmT φ H K (if x.toInt < lo ∨ hi < x.toInt then am_tgt pc d ls st0 H else (match offs[(x.toInt - lo).toNat]? with | some off => am_tgt pc off ls st0 H | none => none)) (if x.toInt < lo ∨ hi < x.toInt then am_tgt pc d (sm_L φ ls) (sm_S φ st0) K else (match offs[(x.toInt - lo).toNat]? with | some off => am_tgt pc off (sm_L φ ls) (sm_S φ st0) K | none => none))
      by_cases hx : x.toInt < lo ∨ hi < x.toInt
      · rw [if_pos hx, if_pos hx]; exact sim_tgt E hl hs.tl
      · rw [if_neg hx, if_neg hx]
        cases offs[(x.toInt - lo).toNat]? with
        | none => intro pc' ls' st' H' h; cases h
        | some off => exact sim_tgt E hl hs.tl
    all_goals (intro pc' ls' st' H' h; cases h)
theorem sim_lsw (E : Emb φ H K) (hl : cl_L H.2.1 ls) (hs : cl_S H.2.1 st) {d : Int} {ps : Array (Int × Int)} : SmT φ H K (am_lsw d ps pc ls st H) (am_lsw d ps pc (sm_L φ ls) (sm_S φ st) K) := by
  rcases st with _ | ⟨v, st0⟩
  · intro pc' ls' st' H' h; cases h
  · cases v
    case int x =>
      show SmT φ H K (if (ps.toList.zip (ps.toList.drop 1)).all (fun (a, next) => a.1 < next.1) = true then am_tgt pc (Op.lookupswitch.offset ps.toList d x.toInt) ls st0 H else none) (if (ps.toList.zip (ps.toList.drop 1)).all (fun (a, next) => a.1 < next.1) = true then am_tgt pc (Op.lookupswitch.offset ps.toList d x.toInt) (sm_L φ ls) (sm_S φ st0) K else none)
      split
      · exact sim_tgt E hl hs.tl
      · intro pc' ls' st' H' h; cases h
    all_goals (intro pc' ls' st' H' h; cases h)
theorem sim_dup (E : Emb φ H K) (hl : cl_L H.2.1 ls) (hs : cl_S H.2.1 st) : SmT φ H K (am_dup pc ls st H) (am_dup pc (sm_L φ ls) (sm_S φ st) K) := by
  rcases st with _ | ⟨v, st0⟩
  · intro pc' ls' st' H' h; cases h
  · intro pc' ls' st' H' h
    have h : (if v.category = 1 then some (pc, ls, v :: v :: st0, H) else none) = some (pc', ls', st', H') := h
    split at h
    · rename_i hv
      cases h
      refine ⟨K, ?_, SR.rf E, hl, hs.cons hs.hd⟩
      show (if (sm_v φ v).category = 1 then some (pc, sm_L φ ls, sm_v φ v :: sm_v φ v :: sm_S φ st0, K) else none) = _
      rw [sm_cat, if_pos hv]
      rfl
    · cases h
theorem sim_dup2 (E : Emb φ H K) (hl : cl_L H.2.1 ls) (hs : cl_S H.2.1 st) : SmT φ H K (am_dup2 pc ls st H) (am_dup2 pc (sm_L φ ls) (sm_S φ st) K) := by
  rcases st with _ | ⟨v, _ | ⟨w, st0⟩⟩
  · intro pc' ls' st' H' h; cases h
  · intro pc' ls' st' H' h; cases h
  · intro pc' ls' st' H' h
    have h : (if v.category = 1 ∧ w.category = 1 then some (pc, ls, v :: w :: v :: w :: st0, H) else none) = some (pc', ls', st', H') := h
    split at h
    · rename_i hv
      cases h
      refine ⟨K, ?_, SR.rf E, hl, (hs.cons hs.tl.hd).cons hs.hd⟩
      show (if (sm_v φ v).category = 1 ∧ (sm_v φ w).category = 1 then some (pc, sm_L φ ls, sm_v φ v :: sm_v φ w :: sm_v φ v :: sm_v φ w :: sm_S φ st0, K) else none) = _
      rw [sm_cat, sm_cat, if_pos hv]
      rfl
    · cases h
end PLAIN
section HEAPS
variable {pc : Nat} {ls : am_L} {st : List Value}
theorem Emb.at {a : Nat} {c : am_C} (E : Emb φ H K) (h : H.1 a = some c) : K.1 (φ a) = some (sm_C φ c) := (E.2.2.2 a c h).2.2
theorem sim_getf (E : Emb φ H K) (hl : cl_L H.2.1 ls) (hs : cl_S H.2.1 st) {c cp : Nat} : SmT φ H K (am_getf c cp pc ls st H) (am_getf c cp pc (sm_L φ ls) (sm_S φ st) K) := by
  intro pc' ls' st' H' h
  unfold am_getf at h
  split at h
  · rename_i a st0 ci k hlk
    split at h
    · rename_i cj fs ha
      split at h
      · rename_i hci
        split at h
        · rename_i v hv
          cases h
          obtain ⟨q1, q2, q3⟩ := E.2.2.2 _ _ ha
          refine ⟨K, ?_, SR.rf E, hl, hs.tl.cons (q2 v (List.mem_of_getElem? hv))⟩
          show am_getf c cp pc (sm_L φ ls) (.ref (φ a) :: sm_S φ st0) K = _
          unfold am_getf
          rw [hlk]
          dsimp only
          rw [q3]
          show (if cj = ci then (match (fs.map (sm_v φ))[k]? with | some v => some (pc, sm_L φ ls, v :: sm_S φ st0, K) | none => none) else none) = _
          rw [if_pos hci, List.getElem?_map, hv]
          rfl
        · cases h
      · cases h
    · cases h
  · cases h
theorem sm_okv (ty : FieldType) (v : Value) : am_okv ty (sm_v φ v) = am_okv ty v := by cases ty <;> cases v <;> rfl
theorem sim_putf (E : Emb φ H K) (hl : cl_L H.2.1 ls) (hs : cl_S H.2.1 st) {ini : Bool} {c cp : Nat} : SmT φ H K (am_putf ini c cp pc ls st H) (am_putf ini c cp pc (sm_L φ ls) (sm_S φ st) K) := by
  intro pc' ls' st' H' h
  unfold am_putf at h
  split at h
  · rename_i v a st0 ci k hlk
    split at h
    · rename_i cj fs ha
      split at h
      · rename_i hci
        cases h
        obtain ⟨q1, q2, q3⟩ := E.2.2.2 _ _ ha
        refine ⟨_, ?_, SR.wr (c1 := .inr (ci, fs.set k v)) E ha trivial (fun w hw => ?_), hl, hs.tl.tl⟩
        · show am_putf ini c cp pc (sm_L φ ls) (sm_v φ v :: .ref (φ a) :: sm_S φ st') K = _
          unfold am_putf
          rw [hlk]
          dsimp only
          rw [q3]
          show (if cj = ci ∧ am_okv (am_tys ci k) (sm_v φ v) = true ∧ (am_fin ci k = false ∨ (ini = true ∧ ci = c)) then some (pc, sm_L φ ls, sm_S φ st', va_up K.1 (φ a) (some (.inr (ci, (fs.map (sm_v φ)).set k (sm_v φ v)))), K.2.1, K.2.2) else none) = some (pc, sm_L φ ls, sm_S φ st', va_up K.1 (φ a) (some (.inr (ci, (fs.set k v).map (sm_v φ)))), K.2.1, K.2.2)
          rw [sm_okv, if_pos hci, List.map_set]
        · rcases List.mem_or_eq_of_mem_set hw with e | e
          · exact q2 w e
          · rw [e]; exact hs.hd
      · cases h
    · cases h
  · cases h
theorem sim_gets (E : Emb φ H K) (hl : cl_L H.2.1 ls) (hs : cl_S H.2.1 st) {c cp : Nat} (h1 : φ sA = sA) (h2 : sA < H.2.1) : SmT φ H K (am_gets sA c cp pc ls st H) (am_gets sA c cp pc (sm_L φ ls) (sm_S φ st) K) := by
  intro pc' ls' st' H' h
  unfold am_gets at h
  split at h
  · rename_i hc
    cases h
    refine ⟨K, ?_, SR.rf E, hl, hs.cons (fun a e => by cases e; exact h2)⟩
    unfold am_gets
    rw [if_pos hc]
    show some (_, _, .ref sA :: _, _) = some (_, _, .ref (φ sA) :: sm_S φ st, _)
    rw [h1]
  · cases h
theorem sm_def (ty : FieldType) : sm_v φ (defaultValue ty) = defaultValue ty := by cases ty <;> rfl
theorem sm_bl (ci : Nat) : sm_S φ (am_bl ci) = am_bl ci := by
  unfold am_bl sm_S
  split
  · rw [List.map_map]
    exact List.map_congr_left (fun k _ => sm_def _)
  · rfl
theorem cl_bl {z : Nat} (ci : Nat) : cl_S z (am_bl ci) := by
  unfold am_bl
  split
  · intro v hv a e
    obtain ⟨k, -, hk⟩ := List.mem_map.mp hv
    rw [e] at hk
    generalize am_tys ci k = ty at hk
    cases ty <;> cases hk
  · intro v hv
    cases hv
theorem sim_new (E : Emb φ H K) (hl : cl_L H.2.1 ls) (hs : cl_S H.2.1 st) {c cp : Nat} : SmT φ H K (am_new c cp pc ls st H) (am_new c cp pc (sm_L φ ls) (sm_S φ st) K) := by
  intro pc' ls' st' H' h
  unfold am_new at h
  split at h
  · rename_i ci hlk
    cases h
    refine ⟨_, ?_, SR.nw (n := am_nf ci) (c1 := .inr (ci, am_bl ci)) E (cl_bl ci), hl.up (Nat.le_succ _), (hs.up (Nat.le_succ _)).cons (fun a e => by cases e; exact Nat.lt_succ_self _)⟩
    have hz : φ H.2.1 = K.2.1 := by rw [E.2.1 _ (Nat.le_refl _)]; omega
    unfold am_new
    rw [hlk]
    show some (pc, sm_L φ ls, .ref K.2.1 :: sm_S φ st, va_up K.1 K.2.1 (some (.inr (ci, am_bl ci))), K.2.1 + 1, K.2.2 + am_nf ci) = some (pc, sm_L φ ls, .ref (φ H.2.1) :: sm_S φ st, va_up K.1 K.2.1 (some (.inr (ci, sm_S φ (am_bl ci)))), K.2.1 + 1, K.2.2 + am_nf ci)
    rw [hz, sm_bl]
  · cases h
theorem sim_newa (E : Emb φ H K) (hl : cl_L H.2.1 ls) (hs : cl_S H.2.1 st) : SmT φ H K (am_newa pc ls st H) (am_newa pc (sm_L φ ls) (sm_S φ st) K) := by
  rcases st with _ | ⟨v, st0⟩
  · intro pc' ls' st' H' h; cases h
  · cases v
    case int n =>
      intro pc' ls' st' H' h
      have h : (if 0 ≤ n ∧ n.toNatClampNeg ≤ 100000 then some (pc, ls, Value.ref H.2.1 :: st0, va_up H.1 H.2.1 (some (.inl (0, n.toNatClampNeg, .inl (fun _ => 0)))), H.2.1 + 1, H.2.2 + n.toNatClampNeg) else none) = some (pc', ls', st', H') := h
      split at h
      · rename_i hc
        cases h
        refine ⟨_, ?_, SR.nw (n := n.toNatClampNeg) (c1 := .inl (0, n.toNatClampNeg, .inl (fun _ => 0))) E trivial, hl.up (Nat.le_succ _), (hs.tl.up (Nat.le_succ _)).cons (fun a e => by cases e; exact Nat.lt_succ_self _)⟩
        have hz : φ H.2.1 = K.2.1 := by rw [E.2.1 _ (Nat.le_refl _)]; omega
        show (if 0 ≤ n ∧ n.toNatClampNeg ≤ 100000 then some (pc, sm_L φ ls, Value.ref K.2.1 :: sm_S φ st0, va_up K.1 K.2.1 (some (.inl (0, n.toNatClampNeg, .inl (fun _ => 0)))), K.2.1 + 1, K.2.2 + n.toNatClampNeg) else none) = some (pc, sm_L φ ls, Value.ref (φ H.2.1) :: sm_S φ st0, va_up K.1 K.2.1 (some (.inl (0, n.toNatClampNeg, .inl (fun _ => 0)))), K.2.1 + 1, K.2.2 + n.toNatClampNeg)
        rw [if_pos hc, hz]
      · cases h
    all_goals (intro pc' ls' st' H' h; cases h)
theorem sim_anew (E : Emb φ H K) (hl : cl_L H.2.1 ls) (hs : cl_S H.2.1 st) {c cp : Nat} : SmT φ H K (am_anew c cp pc ls st H) (am_anew c cp pc (sm_L φ ls) (sm_S φ st) K) := by
  intro pc' ls' st' H' h
  unfold am_anew at h
  split at h
  · rename_i n st0 t hlk
    split at h
    · rename_i hc
      cases h
      refine ⟨_, ?_, SR.nw (n := n.toNatClampNeg) (c1 := .inl (t, n.toNatClampNeg, .inr (.inr (.inr (.inr (fun _ => none)))))) E (fun j a e => by cases e), hl.up (Nat.le_succ _), (hs.tl.up (Nat.le_succ _)).cons (fun a e => by cases e; exact Nat.lt_succ_self _)⟩
      have hz : φ H.2.1 = K.2.1 := by rw [E.2.1 _ (Nat.le_refl _)]; omega
      show am_anew c cp pc (sm_L φ ls) (.int n :: sm_S φ st0) K = some (pc, sm_L φ ls, Value.ref (φ H.2.1) :: sm_S φ st0, va_up K.1 K.2.1 (some (.inl (t, n.toNatClampNeg, .inr (.inr (.inr (.inr (fun _ => none))))))), K.2.1 + 1, K.2.2 + n.toNatClampNeg)
      unfold am_anew
      rw [hlk]
      dsimp only
      rw [if_pos hc, hz]
    · cases h
  · cases h
theorem sim_iald (E : Emb φ H K) (hl : cl_L H.2.1 ls) (hs : cl_S H.2.1 st) : SmT φ H K (am_iald pc ls st H) (am_iald pc (sm_L φ ls) (sm_S φ st) K) := by
  intro pc' ls' st' H' h
  unfold am_iald at h
  split at h
  · rename_i i a st0
    split at h
    · rename_i t n f ha
      split at h
      · rename_i hc
        cases h
        refine ⟨K, ?_, SR.rf E, hl, hs.tl.tl.cons cl_int⟩
        show am_iald pc (sm_L φ ls) (.int i :: .ref (φ a) :: sm_S φ st0) K = _
        unfold am_iald
        dsimp only
        rw [E.at ha]
        show (if (t = 0 ∨ t = 9) ∧ 0 ≤ i ∧ i.toNatClampNeg < n then some (pc, sm_L φ ls, .int (f i.toNatClampNeg) :: sm_S φ st0, K) else none) = _
        rw [if_pos hc]
        rfl
      · cases h
    · cases h
  · cases h
theorem sim_iast (E : Emb φ H K) (hl : cl_L H.2.1 ls) (hs : cl_S H.2.1 st) : SmT φ H K (am_iast pc ls st H) (am_iast pc (sm_L φ ls) (sm_S φ st) K) := by
  intro pc' ls' st' H' h
  unfold am_iast at h
  split at h
  · rename_i x i a st0
    split at h
    · rename_i t n f ha
      split at h
      · rename_i hc
        cases h
        refine ⟨_, ?_, SR.wr (c1 := .inl (0, n, .inl (upd f i.toNatClampNeg x))) E ha (show ¬ t = 9 by omega) trivial, hl, hs.tl.tl.tl⟩
        show am_iast pc (sm_L φ ls) (.int x :: .int i :: .ref (φ a) :: sm_S φ st') K = _
        unfold am_iast
        dsimp only
        rw [E.at ha]
        show (if t = 0 ∧ 0 ≤ i ∧ i.toNatClampNeg < n then some (pc, sm_L φ ls, sm_S φ st', va_up K.1 (φ a) (some (.inl (0, n, .inl (upd f i.toNatClampNeg x)))), K.2.1, K.2.2) else none) = _
        rw [if_pos hc]
        rfl
      · cases h
    · cases h
  · cases h
theorem sim_aald (E : Emb φ H K) (hl : cl_L H.2.1 ls) (hs : cl_S H.2.1 st) : SmT φ H K (am_aald pc ls st H) (am_aald pc (sm_L φ ls) (sm_S φ st) K) := by
  intro pc' ls' st' H' h
  unfold am_aald at h
  split at h
  · rename_i i a st0
    split at h
    · rename_i t n f ha
      split at h
      · rename_i hc
        cases h
        obtain ⟨q1, q2, q3⟩ := E.2.2.2 _ _ ha
        have q2 : ∀ j a, f j = some a → a < H.2.1 := q2
        refine ⟨K, ?_, SR.rf E, hl, hs.tl.tl.cons (fun b e => ?_)⟩
        · show am_aald pc (sm_L φ ls) (.int i :: .ref (φ a) :: sm_S φ st0) K = _
          unfold am_aald
          dsimp only
          rw [q3]
          show (if (0 < t ∧ t < 4) ∧ 0 ≤ i ∧ i.toNatClampNeg < n then some (pc, sm_L φ ls, va_rf ((f i.toNatClampNeg).map φ) :: sm_S φ st0, K) else none) = some (pc, sm_L φ ls, sm_v φ (va_rf (f i.toNatClampNeg)) :: sm_S φ st0, K)
          rw [if_pos hc]
          cases f i.toNatClampNeg <;> rfl
        · cases hf : f i.toNatClampNeg with
          | none => rw [hf] at e; cases e
          | some y => rw [hf] at e; cases e; exact q2 _ _ hf
      · cases h
    · cases h
  · cases h
theorem sim_aast (E : Emb φ H K) (hl : cl_L H.2.1 ls) (hs : cl_S H.2.1 st) : SmT φ H K (am_aast pc ls st H) (am_aast pc (sm_L φ ls) (sm_S φ st) K) := by
  intro pc' ls' st' H' h
  unfold am_aast at h
  split at h
  · rename_i b i a st0
    split at h
    · rename_i t n f ci fs ha hb
      split at h
      · rename_i hc
        cases h
        obtain ⟨q1, q2, q3⟩ := E.2.2.2 _ _ ha
        have q2 : ∀ j a, f j = some a → a < H.2.1 := q2
        refine ⟨_, ?_, SR.wr (c1 := .inl (t, n, .inr (.inr (.inr (.inr (va_up f i.toNatClampNeg (some b))))))) E ha (show ¬ t = 9 by omega) (fun j y e => ?_), hl, hs.tl.tl.tl⟩
        · show am_aast pc (sm_L φ ls) (.ref (φ b) :: .int i :: .ref (φ a) :: sm_S φ st') K = _
          unfold am_aast
          dsimp only
          rw [q3, E.at hb]
          show (if ((0 < t ∧ t < 4) ∧ ci = am_comp t) ∧ 0 ≤ i ∧ i.toNatClampNeg < n then some (pc, sm_L φ ls, sm_S φ st', va_up K.1 (φ a) (some (.inl (t, n, .inr (.inr (.inr (.inr (va_up (fun j => (f j).map φ) i.toNatClampNeg (some (φ b))))))))), K.2.1, K.2.2) else none) = some (pc, sm_L φ ls, sm_S φ st', va_up K.1 (φ a) (some (.inl (t, n, .inr (.inr (.inr (.inr (fun j => (va_up f i.toNatClampNeg (some b) j).map φ))))))), K.2.1, K.2.2)
          rw [if_pos hc]
          have e : va_up (fun j => (f j).map φ) i.toNatClampNeg (some (φ b)) = fun j => (va_up f i.toNatClampNeg (some b) j).map φ := by
            funext j
            unfold va_up
            split <;> rfl
          rw [e]
        · unfold va_up at e
          split at e
          · cases e; exact hs.hd _ rfl
          · exact q2 _ _ e
      · cases h
    · cases h
  · cases h
theorem sim_alen (E : Emb φ H K) (hl : cl_L H.2.1 ls) (hs : cl_S H.2.1 st) : SmT φ H K (am_alen pc ls st H) (am_alen pc (sm_L φ ls) (sm_S φ st) K) := by
  intro pc' ls' st' H' h
  unfold am_alen at h
  split at h
  · rename_i a st0
    split at h
    · rename_i t n f ha
      split at h
      · rename_i hc
        cases h
        refine ⟨K, ?_, SR.rf E, hl, hs.tl.cons cl_int⟩
        show am_alen pc (sm_L φ ls) (.ref (φ a) :: sm_S φ st0) K = _
        unfold am_alen
        dsimp only
        rw [E.at ha]
        show (if t = 0 ∨ t = 9 then some (pc, sm_L φ ls, .int (Int32.ofNat n) :: sm_S φ st0, K) else none) = _
        rw [if_pos hc]
        rfl
      · cases h
    · cases h
  · cases h
theorem sim_obj (E : Emb φ H K) (hl : cl_L H.2.1 ls) (hs : cl_S H.2.1 st) {mi : am_I} : SmT φ H K (am_obj mi pc ls st H) (am_obj mi pc (sm_L φ ls) (sm_S φ st) K) := by
  rcases st with _ | ⟨v, st0⟩
  · intro pc' ls' st' H' h; cases h
  · cases v
    case ref a =>
      intro pc' ls' st' H' h
      have h : (if 1 ≤ mi.2.2.2.2.2.1 ∧ am_cat st0 + 12 ≤ mi.2.2.2.2.2.2 then some (pc + 3, ls, st0, H) else none) = some (pc', ls', st', H') := h
      split at h
      · rename_i hc
        cases h
        refine ⟨K, ?_, SR.rf E, hl, hs.tl⟩
        show (if 1 ≤ mi.2.2.2.2.2.1 ∧ am_cat (sm_S φ st0) + 12 ≤ mi.2.2.2.2.2.2 then some (pc + 3, sm_L φ ls, sm_S φ st0, K) else none) = _
        rw [sm_cats, if_pos hc]
      · cases h
    all_goals (intro pc' ls' st' H' h; cases h)
theorem sim_copy (E : Emb φ H K) (hl : cl_L H.2.1 ls) (hs : cl_S H.2.1 st) {mi : am_I} : SmT φ H K (am_copy mi pc ls st H) (am_copy mi pc (sm_L φ ls) (sm_S φ st) K) := by
  intro pc' ls' st' H' h
  unfold am_copy at h
  split at h
  · rename_i n dp a sp a0 st0
    split at h
    · rename_i t0 n0 f t1 n1 g ha0 ha
      split at h
      · rename_i hc
        cases h
        refine ⟨_, ?_, SR.wr E ha (show ¬ t1 = 9 by omega) (c1 := .inl (0, n1, .inl (va_cpy f g sp.toNatClampNeg dp.toNatClampNeg n.toNatClampNeg))) trivial, hl, hs.tl.tl.tl.tl.tl⟩
        show am_copy mi pc (sm_L φ ls) (.int n :: .int dp :: .ref (φ a) :: .int sp :: .ref (φ a0) :: sm_S φ st') K = _
        unfold am_copy
        dsimp only
        rw [E.at ha0, E.at ha]
        dsimp only [sm_C, sm_A]
        rw [sm_cats, if_pos hc]
      · cases h
    · cases h
  · cases h
theorem sim_min (E : Emb φ H K) (hl : cl_L H.2.1 ls) (hs : cl_S H.2.1 st) {mi : am_I} : SmT φ H K (am_min mi pc ls st H) (am_min mi pc (sm_L φ ls) (sm_S φ st) K) := by
  intro pc' ls' st' H' h
  unfold am_min at h
  split at h
  · rename_i y x st0
    split at h
    · rename_i hc
      cases h
      refine ⟨K, ?_, SR.rf E, hl, hs.tl.tl.cons cl_int⟩
      show am_min mi pc (sm_L φ ls) (.int y :: .int x :: sm_S φ st0) K = _
      unfold am_min
      dsimp only
      rw [sm_cats, if_pos hc]
      rfl
    · cases h
  · cases h
theorem sim_abs (E : Emb φ H K) (hl : cl_L H.2.1 ls) (hs : cl_S H.2.1 st) {mi : am_I} : SmT φ H K (am_abs mi pc ls st H) (am_abs mi pc (sm_L φ ls) (sm_S φ st) K) := by
  intro pc' ls' st' H' h
  unfold am_abs at h
  split at h
  · rename_i x st0
    split at h
    · rename_i hc
      cases h
      refine ⟨K, ?_, SR.rf E, hl, hs.tl.cons cl_int⟩
      show am_abs mi pc (sm_L φ ls) (.int x :: sm_S φ st0) K = _
      unfold am_abs
      dsimp only
      rw [sm_cats, if_pos hc]
      rfl
    · cases h
  · cases h
theorem sim_special (E : Emb φ H K) (hl : cl_L H.2.1 ls) (hs : cl_S H.2.1 st) {mi : am_I} {cp : Nat} : SmT φ H K (am_special mi cp pc ls st H) (am_special mi cp pc (sm_L φ ls) (sm_S φ st) K) := by
  unfold am_special
  split
  · exact sim_copy E hl hs
  · exact sim_min E hl hs
  · exact sim_abs E hl hs
  · intro pc' ls' st' H' h; cases h
theorem sim_objI (E : Emb φ H K) (hl : cl_L H.2.1 ls) (hs : cl_S H.2.1 st) {mi : am_I} {cp : Nat} : SmT φ H K (am_objI mi cp pc ls st H) (am_objI mi cp pc (sm_L φ ls) (sm_S φ st) K) := by
  unfold am_objI
  split
  · exact sim_obj E hl hs
  · intro pc' ls' st' H' h; cases h
end HEAPS
theorem ok_I (v : Value) : am_isI (sm_v φ v) = am_isI v := by cases v <;> rfl
theorem ok_L (v : Value) : am_isL (sm_v φ v) = am_isL v := by cases v <;> rfl
theorem ok_D (v : Value) : am_isD (sm_v φ v) = am_isD v := by cases v <;> rfl
theorem ok_A (v : Value) : am_isA (sm_v φ v) = am_isA v := by cases v <;> rfl
theorem SmT.no {X Y : am_R} (h : X = none) : SmT φ H K X Y := fun pc ls st H' e => by rw [h] at e; cases e
theorem n32_sp {r : UInt32} {v : Value} {z : Nat} (h : am_n32 r = some v) : sm_v φ v = v ∧ cl_v z v := by
  unfold am_n32 at h
  split at h
  · cases h; exact ⟨rfl, cl_float⟩
  · cases h
theorem n64_sp {r : UInt64} {v : Value} {z : Nat} (h : am_n64 r = some v) : sm_v φ v = v ∧ cl_v z v := by
  unfold am_n64 at h
  split at h
  · cases h; exact ⟨rfl, cl_double⟩
  · cases h
set_option maxHeartbeats 2000000 in
theorem sim_step {mi : am_I} {i : Instr} {pc : Nat} {ls : am_L} {st : List Value} (E : Emb φ H K) (hl : cl_L H.2.1 ls) (hs : cl_S H.2.1 st) (h1 : φ sA = sA) (h2 : sA < H.2.1) : SmT φ H K (am_step sA mi i pc ls st H) (am_step sA mi i pc (sm_L φ ls) (sm_S φ st) K) := by
  cases i with
  | iconst v => exact sim_push E hl hs rfl cl_int
  | bipush v => exact sim_push E hl hs rfl cl_int
  | sipush v => exact sim_push E hl hs rfl cl_int
  | aconst_null => exact sim_push E hl hs rfl cl_null
  | ldc cp => exact sim_pushO E hl hs (fun v hv => by
      cases hq : (am_conL mi.1).lookup cp with
      | none => rw [hq] at hv; cases hv
      | some x => rw [hq] at hv; cases hv; exact ⟨rfl, cl_int⟩)
  | ldc2_w cp => exact sim_pushO E hl hs (fun v hv => by
      cases hq : (am_lngL mi.1).lookup cp with
      | none => rw [hq] at hv; cases hv
      | some x => rw [hq] at hv; cases hv; exact ⟨rfl, cl_long⟩)
  | fconst f =>
    show SmT φ H K (if f = 0 then am_push (pc + 1) ls st H (.float FP.fconst0) else none) (if f = 0 then am_push (pc + 1) (sm_L φ ls) (sm_S φ st) K (.float FP.fconst0) else none)
    split
    · exact sim_push E hl hs rfl cl_float
    · exact SmT.no rfl
  | iload_n k => exact sim_load E hl hs ok_I
  | lload_n k => exact sim_load E hl hs ok_L
  | iload k => exact sim_load E hl hs ok_I
  | lload k => exact sim_load E hl hs ok_L
  | dload k => exact sim_load E hl hs ok_D
  | aload_n k => exact sim_load E hl hs ok_A
  | aload k => exact sim_load E hl hs ok_A
  | istore_n k => exact sim_store E hl hs ok_I
  | lstore_n k => exact sim_store E hl hs ok_L
  | istore k => exact sim_store E hl hs ok_I
  | lstore k => exact sim_store E hl hs ok_L
  | dstore k => exact sim_store E hl hs ok_D
  | astore_n k => exact sim_store E hl hs ok_A
  | astore k => exact sim_store E hl hs ok_A
  | iinc k n => exact sim_iinc E hl hs
  | iadd => simp only [am_step]; exact sim_i2 E hl hs
  | isub => simp only [am_step]; exact sim_i2 E hl hs
  | imul => simp only [am_step]; exact sim_i2 E hl hs
  | iand => simp only [am_step]; exact sim_i2 E hl hs
  | ior => simp only [am_step]; exact sim_i2 E hl hs
  | ixor => simp only [am_step]; exact sim_i2 E hl hs
  | idiv => simp only [am_step]; exact sim_i2 E hl hs
  | irem => simp only [am_step]; exact sim_i2 E hl hs
  | ishl => simp only [am_step]; exact sim_i2 E hl hs
  | ishr => simp only [am_step]; exact sim_i2 E hl hs
  | ineg => exact sim_u1 E hl hs (fun x v hv => by cases x <;> cases hv; exact ⟨rfl, rfl, cl_int⟩)
  | ladd => simp only [am_step]; exact sim_l2 E hl hs (fun x y v hv => by cases hv; exact ⟨rfl, cl_long⟩)
  | lmul => simp only [am_step]; exact sim_l2 E hl hs (fun x y v hv => by cases hv; exact ⟨rfl, cl_long⟩)
  | ldiv =>
    simp only [am_step]
    exact sim_l2 E hl hs (fun x y v hv => by
      split at hv
      · cases hv
      · cases hv; exact ⟨rfl, cl_long⟩)
  | lcmp => simp only [am_step]; exact sim_l2 E hl hs (fun x y v hv => by cases hv; exact ⟨rfl, cl_int⟩)
  | i2l => exact sim_u1 E hl hs (fun x v hv => by cases x <;> cases hv; exact ⟨rfl, rfl, cl_long⟩)
  | l2i => exact sim_u1 E hl hs (fun x v hv => by cases x <;> cases hv; exact ⟨rfl, rfl, cl_int⟩)
  | l2f => exact sim_u1 E hl hs (fun x v hv => by cases x <;> cases hv; exact ⟨rfl, rfl, cl_float⟩)
  | i2f => exact sim_u1 E hl hs (fun x v hv => by cases x <;> cases hv; exact ⟨rfl, rfl, cl_float⟩)
  | f2d => exact sim_u1 E hl hs (fun x v hv => by
      cases x with
      | float y => exact ⟨hv, n64_sp hv⟩
      | _ => cases hv)
  | fdiv => exact sim_f2 E hl hs (fun x y v hv => n32_sp hv)
  | dcmp op => exact sim_d2 E hl hs (fun x y v hv => by cases hv; exact ⟨rfl, cl_int⟩)
  | fcmp op => exact sim_f2 E hl hs (fun x y v hv => by cases hv; exact ⟨rfl, cl_int⟩)
  | dup => exact sim_dup E hl hs
  | dup2 => exact sim_dup2 E hl hs
  | ifCond k off => exact sim_if1 E hl hs
  | if_icmp k off => exact sim_if2 E hl hs
  | ifnonnull off => exact sim_nn E hl hs
  | goto off => exact sim_tgt E hl hs
  | tableswitch d lo hi offs => exact sim_tsw E hl hs
  | lookupswitch d ps => exact sim_lsw E hl hs
  | getfield cp => exact sim_getf E hl hs
  | putfield cp => exact sim_putf E hl hs
  | getstatic cp => exact sim_gets E hl hs h1 h2
  | new cp => exact sim_new E hl hs
  | newarray t =>
    show SmT φ H K (if t = .int then am_newa (pc + 2) ls st H else none) (if t = .int then am_newa (pc + 2) (sm_L φ ls) (sm_S φ st) K else none)
    split
    · exact sim_newa E hl hs
    · exact SmT.no rfl
  | anewarray cp => exact sim_anew E hl hs
  | iaload => exact sim_iald E hl hs
  | iastore => exact sim_iast E hl hs
  | aaload => exact sim_aald E hl hs
  | aastore => exact sim_aast E hl hs
  | arraylength => exact sim_alen E hl hs
  | invokestatic cp => exact sim_special E hl hs
  | invokespecial cp => exact sim_objI E hl hs
  | _ => exact SmT.no rfl
theorem sim_ret {mi : am_I} {i : Instr} {st : List Value} : am_ret mi i (sm_S φ st) = (am_ret mi i st).map (Option.map (sm_v φ)) := by
  have key : ∀ ty : Option FieldType, ∀ v : Int32, (match ty with | some .int => some (some (Value.int v)) | some .boolean => if v = 0 ∨ v = 1 then some (some (Value.int v)) else none | _ => none) = Option.map (Option.map (sm_v φ)) (match ty with | some .int => some (some (Value.int v)) | some .boolean => if v = 0 ∨ v = 1 then some (some (Value.int v)) else none | _ => none) := by
    intro ty v
    rcases ty with _ | ty
    · rfl
    · cases ty <;> first | rfl | (dsimp only; split <;> rfl)
  cases i <;> first | rfl | (rcases st with _ | ⟨v, _ | ⟨w, t⟩⟩ <;> first | rfl | (cases v <;> first | rfl | exact key mi.2.2.2.2.1 _ | (unfold am_ret sm_S; simp only [List.map_cons, List.map_nil, sm_v]; generalize mi.2.2.2.2.1 = ty; rcases ty with _ | ty <;> first | rfl | (cases ty <;> rfl)) | (unfold am_ret sm_S; simp only [List.map_cons, List.map_nil, sm_v]; rfl)) | (unfold am_ret sm_S; simp only [List.map_nil]; generalize mi.2.2.2.2.1 = ty; rcases ty with _ | ty <;> rfl))
theorem cl_ret {mi : am_I} {i : Instr} {st : List Value} {r : Option Value} {z : Nat} (h : am_ret mi i st = some r) (hs : cl_S z st) : ∀ v, r = some v → cl_v z v := by
  intro v hv
  subst hv
  unfold am_ret at h
  split at h
  · split at h
    · cases h; exact cl_int
    · split at h
      · cases h; exact cl_int
      · cases h
    · cases h
  · split at h
    · cases h; exact cl_long
    · cases h
  · split at h
    · cases h; exact cl_float
    · cases h
  · split at h
    · cases h; exact hs.hd
    · cases h
  · split at h <;> cases h
  · cases h
theorem sm_take {n : Nat} {st : List Value} : ((sm_S φ st).take n).reverse = sm_S φ ((st.take n).reverse) := by
  unfold sm_S
  rw [List.map_reverse, List.map_take]
theorem sm_drop {n : Nat} {st : List Value} : (sm_S φ st).drop n = sm_S φ (st.drop n) := by
  unfold sm_S
  rw [List.map_drop]
theorem sim_callS {mi mj : am_I} {k n : Nat} {st : List Value} (hk : ¬ k = 0) : am_callS mi k n mj (sm_S φ st) K = (am_callS mi k n mj st H).map (fun q => (q.1, sm_S φ q.2.1, sm_S φ q.2.2)) := by
  unfold am_callS
  dsimp only
  rw [sm_take, sm_drop, sm_len]
  split
  · by_cases h14 : k = 1 ∨ k = 4
    · rw [if_pos h14, if_pos h14, sm_cats]
      split <;> rfl
    · rw [if_neg h14, if_neg h14]
      generalize st.drop n = D
      rcases D with _ | ⟨v, D⟩
      · rfl
      · cases v
        case ref b =>
          show (if am_cat (sm_S φ D) ≤ 8 then some (mj, Value.ref (φ b) :: sm_S φ (st.take n).reverse, sm_S φ D) else none) = Option.map (fun q => (q.1, sm_S φ q.2.1, sm_S φ q.2.2)) (if am_cat D ≤ 8 then some (mj, Value.ref b :: (st.take n).reverse, D) else none)
          rw [sm_cats]
          split <;> rfl
        all_goals rfl
  · rfl
theorem sim_callV {mi mj mq : am_I} {n : Nat} {st As rest : List Value} (E : Emb φ H K) (h : am_callS mi 0 n mj st H = some (mq, As, rest)) : am_callS mi 0 n mj (sm_S φ st) K = some (mq, sm_S φ As, sm_S φ rest) := by
  unfold am_callS at h ⊢
  dsimp only at h ⊢
  rw [sm_take, sm_drop, sm_len]
  split at h
  · rename_i hc
    rw [if_pos hc, if_neg (by decide)]
    rw [if_neg (by decide)] at h
    generalize st.drop n = D at h ⊢
    rcases D with _ | ⟨v, D⟩
    · cases h
    · cases v
      case ref b =>
        have h : (if am_cat D ≤ 8 then (if 0 = 0 then (match H.1 b with | some (.inr (ci, _)) => if ci = mj.1 then some (mj, Value.ref b :: (st.take n).reverse, D) else none | _ => none) else some (mj, .ref b :: (st.take n).reverse, D)) else none) = some (mq, As, rest) := h
        show (if am_cat (sm_S φ D) ≤ 8 then (if 0 = 0 then (match K.1 (φ b) with | some (.inr (ci, _)) => if ci = mj.1 then some (mj, Value.ref (φ b) :: sm_S φ (st.take n).reverse, sm_S φ D) else none | _ => none) else some (mj, .ref (φ b) :: sm_S φ (st.take n).reverse, sm_S φ D)) else none) = _
        rw [sm_cats]
        split at h
        · rename_i hcat
          rw [if_pos hcat, if_pos rfl]
          rw [if_pos rfl] at h
          split at h
          · rename_i ci fs hb
            rw [E.at hb]
            show (if ci = mj.1 then some (mj, Value.ref (φ b) :: sm_S φ (st.take n).reverse, sm_S φ D) else none) = _
            split at h
            · rename_i e
              rw [if_pos e]
              cases h
              rfl
            · cases h
          · cases h
        · cases h
      all_goals cases h
  · cases h
theorem sim_call {mi mj : am_I} {i : Instr} {st As rest : List Value} (E : Emb φ H K) (h : am_call mi i st H = some (mj, As, rest)) : am_call mi i (sm_S φ st) K = some (mj, sm_S φ As, sm_S φ rest) := by
  unfold am_call at h
  split at h
  · rename_i cp
    split at h
    · rename_i k n mk hlk
      split at h
      · rename_i hk
        subst hk
        show (match (am_callL mi.1).lookup cp with | some (k, n, mj) => if k = 0 then am_callS mi k n mj (sm_S φ st) K else none | none => none) = _
        rw [hlk]
        dsimp only
        rw [if_pos rfl]
        exact sim_callV E h
      · cases h
    · cases h
  · rename_i cp
    split at h
    · rename_i k n mk hlk
      split at h
      · rename_i hk
        show (match (am_callL mi.1).lookup cp with | some (k, n, mj) => if k = 1 ∨ k = 4 then am_callS mi k n mj (sm_S φ st) K else none | none => none) = _
        rw [hlk]
        dsimp only
        rw [if_pos hk, sim_callS (H := H) (by omega), h]
        rfl
      · cases h
    · cases h
  · rename_i cp
    split at h
    · rename_i k n mk hlk
      split at h
      · rename_i hk
        show (match (am_callL mi.1).lookup cp with | some (k, n, mj) => if k = 2 ∨ k = 5 then am_callS mi k n mj (sm_S φ st) K else none | none => none) = _
        rw [hlk]
        dsimp only
        rw [if_pos hk, sim_callS (H := H) (by omega), h]
        rfl
      · cases h
    · cases h
  · cases h
theorem sim_callN {mi : am_I} {i : Instr} {st : List Value} (hv : ∀ cp, ¬ i = .invokevirtual cp) (h : am_call mi i st H = none) : am_call mi i (sm_S φ st) K = none := by
  cases i
  case invokevirtual cp => exact absurd rfl (hv cp)
  case invokestatic cp =>
    have h : (match (am_callL mi.1).lookup cp with | some (k, n, mj) => if k = 1 ∨ k = 4 then am_callS mi k n mj st H else none | none => none) = none := h
    show (match (am_callL mi.1).lookup cp with | some (k, n, mj) => if k = 1 ∨ k = 4 then am_callS mi k n mj (sm_S φ st) K else none | none => none) = none
    generalize (am_callL mi.1).lookup cp = o at h ⊢
    rcases o with _ | ⟨k, n, mj⟩
    · rfl
    · dsimp only at h ⊢
      split
      · rename_i hk
        rw [if_pos hk] at h
        rw [sim_callS (H := H) (by omega), h]
        rfl
      · rfl
  case invokespecial cp =>
    have h : (match (am_callL mi.1).lookup cp with | some (k, n, mj) => if k = 2 ∨ k = 5 then am_callS mi k n mj st H else none | none => none) = none := h
    show (match (am_callL mi.1).lookup cp with | some (k, n, mj) => if k = 2 ∨ k = 5 then am_callS mi k n mj (sm_S φ st) K else none | none => none) = none
    generalize (am_callL mi.1).lookup cp = o at h ⊢
    rcases o with _ | ⟨k, n, mj⟩
    · rfl
    · dsimp only at h ⊢
      split
      · rename_i hk
        rw [if_pos hk] at h
        rw [sim_callS (H := H) (by omega), h]
        rfl
      · rfl
  all_goals rfl
theorem cl_call {mi mj : am_I} {i : Instr} {st As rest : List Value} {z : Nat} (h : am_call mi i st H = some (mj, As, rest)) (hs : cl_S z st) : cl_S z As ∧ cl_S z rest := by
  have key : ∀ (k n : Nat) (mk : am_I), am_callS mi k n mk st H = some (mj, As, rest) → cl_S z As ∧ cl_S z rest := by
    intro k n mk q
    obtain ⟨-, -, -, q⟩ := am_callS_inv q
    rcases q with ⟨-, -, e⟩ | ⟨-, b, Bs, e1, -, e, -⟩
    · subst e
      exact ⟨fun v hv => hs v (List.mem_append_left _ (List.mem_reverse.mpr hv)), fun v hv => hs v (List.mem_append_right _ hv)⟩
    · subst e
      subst e1
      refine ⟨fun v hv => ?_, fun v hv => hs v (List.mem_append_right _ (List.mem_cons_of_mem _ hv))⟩
      rcases List.mem_cons.mp hv with e | e
      · subst e; exact hs _ (List.mem_append_right _ List.mem_cons_self)
      · exact hs v (List.mem_append_left _ (List.mem_reverse.mpr e))
  unfold am_call at h
  split at h
  · split at h
    · split at h
      · exact key _ _ _ h
      · cases h
    · cases h
  · split at h
    · split at h
      · exact key _ _ _ h
      · cases h
    · cases h
  · split at h
    · split at h
      · exact key _ _ _ h
      · cases h
    · cases h
  · cases h
theorem sm_flat : ∀ vs : List Value, am_flat (sm_S φ vs) = sm_L φ (am_flat vs)
  | [] => rfl
  | v :: vs => by
    have ih := sm_flat vs
    unfold am_flat sm_S sm_L at ih ⊢
    rw [List.map_cons, List.flatMap_cons, List.flatMap_cons, List.map_append, ih, sm_cat]
    congr 1
    split <;> rfl
theorem sm_entry (vs : List Value) (n : Nat) : am_entry (sm_S φ vs) n = sm_L φ (am_entry vs n) := by
  unfold am_entry
  rw [sm_flat, sm_lenL]
  unfold sm_L
  rw [List.map_append, List.map_replicate]
  rfl
theorem cl_entry {vs : List Value} {n z : Nat} (h : cl_S z vs) : cl_L z (am_entry vs n) := by
  intro i v hv
  have hm : some v ∈ am_entry vs n := List.mem_of_getElem? hv
  unfold am_entry at hm
  rcases List.mem_append.mp hm with q | q
  · unfold am_flat at q
    obtain ⟨w, hw, q⟩ := List.mem_flatMap.mp q
    split at q
    · rcases List.mem_cons.mp q with e | e
      · cases e; exact h v hw
      · rcases List.mem_cons.mp e with e | e
        · cases e
        · cases e
    · rcases List.mem_cons.mp q with e | e
      · cases e; exact h v hw
      · cases e
  · have := (List.mem_replicate.mp q).2
    cases this
theorem sim_exec : ∀ (n : Nat) (mi : am_I) (pc : Nat) (ls : am_L) (st : List Value) (H : am_H) (r : Option Value) (H' : am_H), am_exec sA n mi pc ls st H = some (r, H') → ∀ K, Emb φ H K → φ sA = sA → sA < H.2.1 → cl_L H.2.1 ls → cl_S H.2.1 st → ∃ K', am_exec sA n mi pc (sm_L φ ls) (sm_S φ st) K = some (r.map (sm_v φ), K') ∧ SR φ H K H' K' ∧ ∀ v, r = some v → cl_v H'.2.1 v
  | 0, _, _, _, _, _, _, _, h => by simp [am_exec] at h
  | n + 1, mi, pc, ls, st, H, r, H', h => by
    intro K E h1 h2 hl hs
    unfold am_exec at h
    unfold am_exec
    split at h
    · cases h
    · split at h
      · rename_i i n0 hd hlen
        rw [if_pos hlen, sim_ret]
        split at h
        · rename_i r0 hr
          cases h
          rw [hr]
          exact ⟨K, rfl, SR.rf E, cl_ret hr hs⟩
        · rename_i hr
          rw [hr]
          dsimp only [Option.map]
          split at h
          · rename_i mj As rest hc
            rw [sim_call E hc]
            dsimp only
            obtain ⟨c1, c2⟩ := cl_call hc hs
            split at h
            · rename_i hf
              rw [sm_flat, sm_lenL, if_pos hf, sm_entry]
              split at h
              · rename_i r1 H1 e1
                obtain ⟨K1, k1, s1, v1⟩ := sim_exec n _ _ _ _ _ _ _ e1 K E h1 h2 (cl_entry c1) (fun v hv => by cases hv)
                have k1 : am_exec sA n mj 0 (sm_L φ (am_entry As mj.2.2.2.1)) [] K = some (r1.map (sm_v φ), K1) := k1
                rw [k1]
                dsimp only
                have hz := s1.2.1.1
                obtain ⟨K2, k2, s2, v2⟩ := sim_exec n _ _ _ _ _ _ _ h K1 s1.1 h1 (by omega) (hl.up hz) (fun v hv => by
                  rcases List.mem_append.mp hv with q | q
                  · exact v1 v (by simpa using q)
                  · exact (c2 v q).up hz)
                have e : sm_S φ (r1.toList ++ rest) = (r1.map (sm_v φ)).toList ++ sm_S φ rest := by
                  unfold sm_S
                  rw [List.map_append]
                  cases r1 <;> rfl
                rw [e] at k2
                exact ⟨K2, k2, s1.tr s2, v2⟩
              · cases h
            · cases h
          · rename_i hc
            split at h
            · rename_i pc' ls' st' H1 hst
              split at h
              · rename_i hm
                rw [sim_callN (H := H) (fun cp e => by subst e; cases hst) hc]
                dsimp only
                obtain ⟨K1, k1, s1, c1, c2⟩ := sim_step (mi := mi) (i := i) (pc := pc) E hl hs h1 h2 _ _ _ _ hst
                rw [k1]
                dsimp only
                obtain ⟨a2, a3⟩ := s1.2.2.1
                rw [if_pos ⟨by omega, by omega⟩]
                obtain ⟨K2, k2, s2, v2⟩ := sim_exec n _ _ _ _ _ _ _ h K1 s1.1 h1 (by omega) c1 c2
                exact ⟨K2, k2, s1.tr s2, v2⟩
              · cases h
            · cases h
      · cases h
end SIM
