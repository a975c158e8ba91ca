/-! what a small heap says of the machine's -/
theorem am_tail_len (v : Value) (l : am_L) : (am_tail v l).length = l.length := by
  unfold am_tail
  split
  · cases l <;> rfl
  · rfl
theorem am_set_nil (v : Value) (i : Nat) : am_set v i [] = [] := by
  match i with
  | 0 => rfl
  | 1 => rfl
  | _ + 2 => rfl
theorem am_set_len (v : Value) : ∀ (i : Nat) (l : am_L), (am_set v i l).length = l.length
  | i, [] => by rw [am_set_nil]
  | 0, _ :: l => by show (am_tail v l).length + 1 = _; rw [am_tail_len]; rfl
  | 1, o :: l => by show (am_set v 0 l).length + 1 = _; rw [am_set_len v 0 l]; rfl
  | i + 2, o :: l => by show (am_set v (i + 1) l).length + 1 = _; rw [am_set_len v (i + 1) l]; rfl
theorem am_kill_sp {o : Option Value} {w : Value} (h : am_kill o = some w) : o = some w ∧ ¬ w.category = 2 := by
  cases o with
  | none => cases h
  | some x =>
    unfold am_kill at h
    dsimp only at h
    split at h
    · cases h
    · cases h; exact ⟨rfl, by assumption⟩
theorem am_tail_sp {v : Value} {l : am_L} {k : Nat} {w : Value} (h : (am_tail v l)[k]? = some (some w)) : l[k]? = some (some w) ∧ (v.category = 2 → k ≠ 0) := by
  unfold am_tail at h
  split at h
  · cases l with
    | nil => simp at h
    | cons x l =>
      dsimp only at h
      cases k with
      | zero => simp at h
      | succ k => exact ⟨by simpa using h, fun _ => by omega⟩
  · exact ⟨h, fun q => absurd q (by assumption)⟩
theorem am_set_sp (v : Value) : ∀ (i : Nat) (l : am_L) (k : Nat) (w : Value), (am_set v i l)[k]? = some (some w) → (k = i ∧ w = v) ∨ (l[k]? = some (some w) ∧ k ≠ i ∧ ¬ (k + 1 = i ∧ w.category = 2) ∧ (v.category = 2 → k ≠ i + 1))
  | i, [], k, w, h => by rw [am_set_nil] at h; simp at h
  | 0, _ :: l, k, w, h => by
    have h : (some v :: am_tail v l)[k]? = some (some w) := h
    cases k with
    | zero => left; simp at h; exact ⟨rfl, h.symm⟩
    | succ k =>
      right
      rw [List.getElem?_cons_succ] at h
      obtain ⟨h1, h2⟩ := am_tail_sp h
      exact ⟨by rw [List.getElem?_cons_succ]; exact h1, by omega, by omega, fun q => by have := h2 q; omega⟩
  | 1, o :: l, k, w, h => by
    have h : (am_kill o :: am_set v 0 l)[k]? = some (some w) := h
    cases k with
    | zero =>
      right
      have h : am_kill o = some w := by simpa using h
      obtain ⟨h1, h2⟩ := am_kill_sp h
      exact ⟨by rw [h1]; rfl, by omega, fun q => h2 q.2, fun _ => by omega⟩
    | succ k =>
      rw [List.getElem?_cons_succ] at h
      rcases am_set_sp v 0 l k w h with ⟨a, b⟩ | ⟨a, b, c, d⟩
      · left; exact ⟨by omega, b⟩
      · right
        exact ⟨by rw [List.getElem?_cons_succ]; exact a, by omega, by omega, fun q => by have := d q; omega⟩
  | i + 2, o :: l, k, w, h => by
    have h : (o :: am_set v (i + 1) l)[k]? = some (some w) := h
    cases k with
    | zero => right; exact ⟨by simpa using h, by omega, by omega, fun _ => by omega⟩
    | succ k =>
      rw [List.getElem?_cons_succ] at h
      rcases am_set_sp v (i + 1) l k w h with ⟨a, b⟩ | ⟨a, b, c, d⟩
      · left; exact ⟨by omega, b⟩
      · right
        exact ⟨by rw [List.getElem?_cons_succ]; exact a, by omega, fun q => c ⟨by omega, q.2⟩, fun q => by have := d q; omega⟩
def am_al (ls : am_L) : List (Nat × Value) := ls.zipIdx.filterMap (fun q => q.1.map (fun v => (q.2, v)))
theorem am_al_mem {ls : am_L} {q : Nat × Value} : q ∈ am_al ls ↔ ls[q.1]? = some (some q.2) := by
  unfold am_al
  rw [List.mem_filterMap]
  constructor
  · rintro ⟨⟨o, i⟩, h1, h2⟩
    have h1 := List.mem_zipIdx_iff_getElem?.mp h1
    dsimp only at h1 h2
    cases o with
    | none => cases h2
    | some v => cases h2; exact h1
  · intro h
    exact ⟨(some q.2, q.1), List.mem_zipIdx_iff_getElem?.mpr h, rfl⟩
def am_Has (lsC : Array Slot) (ls : am_L) : Prop := lv_has lsC ls.length (am_al ls)
theorem am_Has.at {lsC : Array Slot} {ls : am_L} (h : am_Has lsC ls) {i : Nat} {v : Value} (hi : ls[i]? = some (some v)) : lsC[i]? = some (.val v) := h.2.2 (i, v) (am_al_mem.mpr hi)
theorem am_Has.set1 {lsC : Array Slot} {ls : am_L} {v : Value} {i : Nat} (h : lv_has lsC ls.length ((i, v) :: (am_al ls).filter (fun q => !(q.1 == i) && !(q.1 + 1 == i && q.2.category == 2)))) : am_Has lsC (am_set v i ls) := by
  refine ⟨by rw [am_set_len]; exact h.1, h.2.1, fun q hq => h.2.2 q ?_⟩
  rcases am_set_sp v i ls q.1 q.2 (am_al_mem.mp hq) with ⟨a, b⟩ | ⟨a, b, c, d⟩
  · obtain ⟨x, y⟩ := q
    dsimp only at a b
    rw [a, b]
    exact List.mem_cons_self
  · refine List.mem_cons_of_mem _ (List.mem_filter.mpr ⟨am_al_mem.mpr a, ?_⟩)
    simp only [Bool.and_eq_true, Bool.not_eq_true', beq_eq_false_iff_ne, ne_eq, Bool.and_eq_false_iff]
    refine ⟨b, ?_⟩
    by_cases e : q.1 + 1 = i
    · right; exact fun z => c ⟨e, z⟩
    · left; exact e
theorem am_Has.set2 {lsC : Array Slot} {ls : am_L} {v : Value} {i : Nat} (hv : v.category = 2) (h : lv_has lsC ls.length ((i, v) :: (am_al ls).filter (fun q => !(q.1 == i) && (!(q.1 == i + 1) && !(q.1 + 1 == i && q.2.category == 2))))) : am_Has lsC (am_set v i ls) := by
  refine ⟨by rw [am_set_len]; exact h.1, h.2.1, fun q hq => h.2.2 q ?_⟩
  rcases am_set_sp v i ls q.1 q.2 (am_al_mem.mp hq) with ⟨a, b⟩ | ⟨a, b, c, d⟩
  · obtain ⟨x, y⟩ := q
    dsimp only at a b
    rw [a, b]
    exact List.mem_cons_self
  · refine List.mem_cons_of_mem _ (List.mem_filter.mpr ⟨am_al_mem.mpr a, ?_⟩)
    simp only [Bool.and_eq_true, Bool.not_eq_true', beq_eq_false_iff_ne, ne_eq, Bool.and_eq_false_iff]
    refine ⟨b, d hv, ?_⟩
    by_cases e : q.1 + 1 = i
    · right; exact fun z => c ⟨e, z⟩
    · left; exact e
abbrev am_g : Type := va_G × (Nat → ClassId) × Nat × Nat
def am_tyA : Nat → FieldType := fun t => match t with
  | 0 => .int
  | 1 => .object "CardTabulator$Card"
  | 2 => .object "CardTabulator$State"
  | _ => .object "CardTabulator$Totals"
def am_at (g : am_g) (U : State) (a : Nat) (c : am_C) (Hc : Heap) : Prop := match c with
  | .inl (t, x) => (t = 9 ∧ a < g.2.2.1 ∧ ∃ (n : Nat) (f : Nat → Int32), x = (n, .inl f) ∧ va_T .int a n (fun j => .int (f j)) (fun q => g.2.2.1 ≤ q) U Hc) ∨ (t < 4 ∧ g.2.2.1 ≤ a ∧ Hc[a]? = some (vp_cell (g.2.1 t) x))
  | .inr (ci, fs) => g.2.2.1 ≤ a ∧ ∃ r : vw_C, vwCl[ci]? = some r ∧ fs.length = r.2.2 ∧ t_OB a (g.1.1 ci) r.2.2 (g.1.2 ci) Hc (vp_V fs)
def am_Kn (g : am_g) (U : State) : Prop := va_K g.1 vwCl [] U ∧ (∀ t, t < 4 → ArrOfT U (g.2.1 t) (am_tyA t) ∧ va_RA U (g.2.1 t) (am_tyA t)) ∧ (∀ t, 0 < t → t < 4 → va_AO (am_cn (am_comp t)) U) ∧ ∀ q ∈ am_nests, va_Nw (.methodLinkNest q.1 q.2.1 q.2.2.1 q.2.2.2) U
def am_Inv (g : am_g) (U : State) (H : am_H) (Hc : Heap) : Prop := Hc.size = H.2.1 ∧ g.2.2.1 ≤ H.2.1 ∧ va_Z "CardTabulator" "MOST_OF_SETTING" "[I" (.ref g.2.2.2) (fun q => g.2.2.1 ≤ q) U Hc ∧ ∀ a c, H.1 a = some c → a < H.2.1 ∧ am_at g U a c Hc
theorem am_Kn.moved {g : am_g} {u U : State} (hW : u.WarmedH U.vm) (h : am_Kn g u) : am_Kn g U :=
  ⟨va_K.moved hW.alike h.1, fun t ht => ⟨arrOfT_moved hW.alike (h.2.1 t ht).1, (h.2.1 t ht).2.moved hW.alike⟩, fun t h0 ht => va_AO.moved hW.alike (h.2.2.1 t h0 ht), fun q hq => va_Nw.warmM hW (h.2.2.2 q hq)⟩
theorem am_Kn.same {g : am_g} {u U : State} (hW : u.vm = U.vm) (h : am_Kn g u) : am_Kn g U :=
  ⟨va_K.moved (hW ▸ Vm.Alike.refl u.vm) h.1, fun t ht => ⟨arrOfT_moved (hW ▸ Vm.Alike.refl u.vm) (h.2.1 t ht).1, (h.2.1 t ht).2.moved (hW ▸ Vm.Alike.refl u.vm)⟩, fun t h0 ht => va_AO.moved (hW ▸ Vm.Alike.refl u.vm) (h.2.2.1 t h0 ht), fun q hq => va_Nw.same rfl hW (h.2.2.2 q hq)⟩
theorem am_at.moved {g : am_g} {u U : State} {a : Nat} {c : am_C} {Hc : Heap} (hvm : u.vm.Alike U.vm) (h : am_at g u a c Hc) : am_at g U a c Hc := by
  rcases c with ⟨t, x⟩ | ⟨ci, fs⟩
  · rcases h with ⟨h1, h2, n, f, h3, h4⟩ | h
    · exact Or.inl ⟨h1, h2, n, f, h3, h4.moved hvm⟩
    · exact Or.inr h
  · exact h
theorem am_at.kept {g : am_g} {U : State} {a : Nat} {c : am_C} {Hc Hc' : Heap} (hq : Hc'[a]? = Hc[a]?) (h : am_at g U a c Hc) : am_at g U a c Hc' := by
  rcases c with ⟨t, x⟩ | ⟨ci, fs⟩
  · rcases h with ⟨h1, h2, n, f, h3, cell, h4, h5⟩ | ⟨h1, h2, h3⟩
    · exact Or.inl ⟨h1, h2, n, f, h3, cell, hq.trans h4, h5⟩
    · exact Or.inr ⟨h1, h2, hq.trans h3⟩
  · obtain ⟨h0, r, h1, h2, h3⟩ := h
    exact ⟨h0, r, h1, h2, h3.kept hq⟩
theorem am_Inv.moved {g : am_g} {u U : State} {H : am_H} {Hc : Heap} (hvm : u.vm.Alike U.vm) (h : am_Inv g u H Hc) : am_Inv g U H Hc :=
  ⟨h.1, h.2.1, va_Z.moved hvm h.2.2.1, fun a c hc => ⟨(h.2.2.2 a c hc).1, (h.2.2.2 a c hc).2.moved hvm⟩⟩
theorem am_Inv.put {g : am_g} {U : State} {H : am_H} {Hc Hc' : Heap} {a : Nat} {c' : am_C} (h : am_Inv g U H Hc) (hz : Hc'.size = Hc.size) (ho : ∀ q, q ≠ a → Hc'[q]? = Hc[q]?) (ha : g.2.2.1 ≤ a) (hl : a < H.2.1) (hc : am_at g U a c' Hc') : am_Inv g U (va_up H.1 a (some c'), H.2.1, H.2.2) Hc' := by
  refine ⟨hz.trans h.1, h.2.1, va_Z.kept h.2.2.1 (fun q _ hq => ho q (fun e => hq (by rw [e]; exact ha))), fun b cb hb => ?_⟩
  have hb : va_up H.1 a (some c') b = some cb := hb
  unfold va_up at hb
  by_cases e : b = a
  · rw [if_pos e] at hb
    cases hb
    subst e
    exact ⟨hl, hc⟩
  · rw [if_neg e] at hb
    exact ⟨(h.2.2.2 b cb hb).1, (h.2.2.2 b cb hb).2.kept (ho b e)⟩
theorem am_Inv.push {g : am_g} {U : State} {H : am_H} {Hc Hc' : Heap} {n : Nat} {c' : am_C} (h : am_Inv g U H Hc) (hz : Hc'.size = Hc.size + 1) (ho : ∀ q, q < Hc.size → Hc'[q]? = Hc[q]?) (hc : am_at g U H.2.1 c' Hc') : am_Inv g U (va_up H.1 H.2.1 (some c'), H.2.1 + 1, n) Hc' := by
  have h1 := h.1
  have h2 := h.2.1
  refine ⟨by rw [hz, h.1], by show g.2.2.1 ≤ H.2.1 + 1; omega, va_Z.kept h.2.2.1 (fun q hq _ => ho q hq), fun b cb hb => ?_⟩
  have hb : va_up H.1 H.2.1 (some c') b = some cb := hb
  unfold va_up at hb
  by_cases e : b = H.2.1
  · rw [if_pos e] at hb
    cases hb
    subst e
    exact ⟨Nat.lt_succ_self _, hc⟩
  · rw [if_neg e] at hb
    have h3 := (h.2.2.2 b cb hb).1
    exact ⟨Nat.lt_succ_of_lt h3, (h.2.2.2 b cb hb).2.kept (ho b (by omega))⟩
theorem am_in {i : Int32} {n : Nat} (h0 : 0 ≤ i) (h1 : i.toNatClampNeg < n) : ¬ (i < 0 ∨ n ≤ i.toNatClampNeg) := by
  rintro (h | h)
  · exact absurd h0 (Int32.not_le.mpr h)
  · omega
theorem am_nlt {i : Int32} (h0 : 0 ≤ i) : ¬ i < 0 := fun h => absurd h0 (Int32.not_le.mpr h)
