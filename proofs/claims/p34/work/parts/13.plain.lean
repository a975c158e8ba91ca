section AMS
variable {p : Program} {l : Launch} {e : Env} {R : Room} {s : State} {m : MethodId} {args : Array Value} {below : List Frame} {meth : Method} {c : Code} {Q : State → Prop} {g : am_g} {mi : am_I} {sz0 sl0 : Nat}
def am_Cx (p : Program) (R : Room) (s : State) (m : MethodId) (args : Array Value) (meth : Method) (c : Code) (g : am_g) (mi : am_I) (sz0 : Nat) : Prop :=
  p.tables.exec = Jvm.exec ∧ c.code = mi.2.1 ∧ c.maxLocals = mi.2.2.2.1 ∧ s.vm.findClass (am_cn mi.1) = some m.cls ∧ (∀ w ∈ wsL_law, w.before args s = true) ∧ (am_ini mi = true → meth.name = "<init>") ∧ (R.frames = mi.2.2.2.2.2.1 ∧ R.locals = mi.2.2.2.2.2.2) ∧ am_Kn g s ∧ g.2.2.1 ≤ s.heap.size
/-- from every machine's state that the small one tells, Q is reached -/
def am_K (p : Program) (l : Launch) (e : Env) (R : Room) (s : State) (m : MethodId) (args : Array Value) (below : List Frame) (meth : Method) (c : Code) (Q : State → Prop) (g : am_g) (mi : am_I) (sz0 sl0 : Nat) (pc : Nat) (ls : am_L) (st : List Value) (H : am_H) : Prop :=
  ∀ (lsC : Array Slot) (Hc : Heap) (locs : List Loc), am_Has lsC ls → ls.length = mi.2.2.2.1 → am_Inv g s H Hc → va_S (fun q => g.2.2.1 ≤ q) s.heap Hc locs → sz0 ≤ H.2.1 → sl0 ≤ H.2.2 → W p l e R s m args below meth c Hc locs (H.2.1 - sz0) (H.2.2 - sl0) Q (F0 m pc lsC st)
theorem am_isI_v {v : Value} (h : am_isI v = true) : ∃ x, v = .int x := by cases v <;> first | exact ⟨_, rfl⟩ | cases h
theorem am_isL_v {v : Value} (h : am_isL v = true) : ∃ x, v = .long x := by cases v <;> first | exact ⟨_, rfl⟩ | cases h
theorem am_isD_v {v : Value} (h : am_isD v = true) : ∃ x, v = .double x := by cases v <;> first | exact ⟨_, rfl⟩ | cases h
theorem am_isA_v {v : Value} (h : am_isA v = true) : (∃ x, v = .ref x) ∨ v = .null := by cases v <;> first | exact Or.inl ⟨_, rfl⟩ | exact Or.inr rfl | cases h
theorem am_load_inv {ok : Value → Bool} {i pc : Nat} {ls : am_L} {st : List Value} {H : am_H} {r : Nat × am_L × List Value × am_H} (h : am_load ok i pc ls st H = some r) : ∃ v, ls[i]? = some (some v) ∧ ok v = true ∧ r = (pc, ls, v :: st, H) := by
  unfold am_load at h
  split at h
  · rename_i v hv
    split at h
    · cases h; exact ⟨v, hv, by assumption, rfl⟩
    · cases h
  · cases h
theorem am_store_inv {ok : Value → Bool} {i pc : Nat} {ls : am_L} {st : List Value} {H : am_H} {r : Nat × am_L × List Value × am_H} (h : am_store ok i pc ls st H = some r) : ∃ v st0, st = v :: st0 ∧ ok v = true ∧ i + v.category ≤ ls.length ∧ r = (pc, am_set v i ls, st0, H) := by
  unfold am_store at h
  split at h
  · rename_i v st0
    split at h
    · rename_i q; cases h; exact ⟨v, st0, rfl, q.1, q.2, rfl⟩
    · cases h
  · cases h
theorem am_iinc_inv {i pc : Nat} {k : Int} {ls : am_L} {st : List Value} {H : am_H} {r : Nat × am_L × List Value × am_H} (h : am_iinc i k pc ls st H = some r) : ∃ x, ls[i]? = some (some (.int x)) ∧ r = (pc, am_set (.int (x + Int32.ofInt k)) i ls, st, H) := by
  unfold am_iinc at h
  split at h
  · rename_i x hx; cases h; exact ⟨x, hx, rfl⟩
  · cases h
theorem am_i2_inv {f : Int32 → Int32 → Option Int32} {pc : Nat} {ls : am_L} {st : List Value} {H : am_H} {r : Nat × am_L × List Value × am_H} (h : am_i2 f pc ls st H = some r) : ∃ x y z st0, st = .int y :: .int x :: st0 ∧ f x y = some z ∧ r = (pc, ls, .int z :: st0, H) := by
  unfold am_i2 at h
  split at h
  · rename_i y x st0
    split at h
    · rename_i z hz; cases h; exact ⟨x, y, z, st0, rfl, hz, rfl⟩
    · cases h
  · cases h
theorem am_l2_inv {f : Int64 → Int64 → Option Value} {pc : Nat} {ls : am_L} {st : List Value} {H : am_H} {r : Nat × am_L × List Value × am_H} (h : am_l2 f pc ls st H = some r) : ∃ x y z st0, st = .long y :: .long x :: st0 ∧ f x y = some z ∧ r = (pc, ls, z :: st0, H) := by
  unfold am_l2 at h
  split at h
  · rename_i y x st0
    split at h
    · rename_i z hz; cases h; exact ⟨x, y, z, st0, rfl, hz, rfl⟩
    · cases h
  · cases h
theorem am_u1_inv {f : Value → Option Value} {pc : Nat} {ls : am_L} {st : List Value} {H : am_H} {r : Nat × am_L × List Value × am_H} (h : am_u1 f pc ls st H = some r) : ∃ v z st0, st = v :: st0 ∧ f v = some z ∧ r = (pc, ls, z :: st0, H) := by
  unfold am_u1 at h
  split at h
  · rename_i v st0
    split at h
    · rename_i z hz; cases h; exact ⟨v, z, st0, rfl, hz, rfl⟩
    · cases h
  · cases h
theorem am_pushO_inv {v : Option Value} {pc : Nat} {ls : am_L} {st : List Value} {H : am_H} {r : Nat × am_L × List Value × am_H} (h : am_pushO pc ls st H v = some r) : ∃ z, v = some z ∧ r = (pc, ls, z :: st, H) := by
  unfold am_pushO at h
  split at h
  · rename_i z; cases h; exact ⟨z, rfl, rfl⟩
  · cases h
theorem am_f2_inv {f : UInt32 → UInt32 → Option Value} {pc : Nat} {ls : am_L} {st : List Value} {H : am_H} {r : Nat × am_L × List Value × am_H} (h : am_f2 f pc ls st H = some r) : ∃ x y z st0, st = .float y :: .float x :: st0 ∧ f x y = some z ∧ r = (pc, ls, z :: st0, H) := by
  unfold am_f2 at h
  split at h
  · rename_i y x st0; obtain ⟨z, hz, hr⟩ := am_pushO_inv h; exact ⟨x, y, z, st0, rfl, hz, hr⟩
  · cases h
theorem am_d2_inv {f : UInt64 → UInt64 → Option Value} {pc : Nat} {ls : am_L} {st : List Value} {H : am_H} {r : Nat × am_L × List Value × am_H} (h : am_d2 f pc ls st H = some r) : ∃ x y z st0, st = .double y :: .double x :: st0 ∧ f x y = some z ∧ r = (pc, ls, z :: st0, H) := by
  unfold am_d2 at h
  split at h
  · rename_i y x st0; obtain ⟨z, hz, hr⟩ := am_pushO_inv h; exact ⟨x, y, z, st0, rfl, hz, hr⟩
  · cases h
theorem am_tgt_inv {pc : Nat} {off : Int} {ls : am_L} {st : List Value} {H : am_H} {r : Nat × am_L × List Value × am_H} (h : am_tgt pc off ls st H = some r) : 0 ≤ (pc : Int) + off ∧ r = (((pc : Int) + off).toNat, ls, st, H) := by
  unfold am_tgt at h
  split at h
  · cases h; exact ⟨by assumption, rfl⟩
  · cases h
theorem am_if1_inv {k : ClassFile.Cond} {off : Int} {pc : Nat} {ls : am_L} {st : List Value} {H : am_H} {r : Nat × am_L × List Value × am_H} (h : am_if1 k off pc ls st H = some r) : ∃ x st0, st = .int x :: st0 ∧ 0 ≤ (pc : Int) + off ∧ r = (if am_c1 k x = true then ((pc : Int) + off).toNat else pc + 3, ls, st0, H) := by
  unfold am_if1 at h
  split at h
  · rename_i x st0
    split at h
    · cases h; exact ⟨x, st0, rfl, by assumption, rfl⟩
    · cases h
  · cases h
theorem am_if2_inv {k : ClassFile.Cond} {off : Int} {pc : Nat} {ls : am_L} {st : List Value} {H : am_H} {r : Nat × am_L × List Value × am_H} (h : am_if2 k off pc ls st H = some r) : ∃ x y st0, st = .int y :: .int x :: st0 ∧ 0 ≤ (pc : Int) + off ∧ r = (if am_c2 k x y = true then ((pc : Int) + off).toNat else pc + 3, ls, st0, H) := by
  unfold am_if2 at h
  split at h
  · rename_i y x st0
    split at h
    · cases h; exact ⟨x, y, st0, rfl, by assumption, rfl⟩
    · cases h
  · cases h
theorem am_w_iconst (C : am_Cx p R s m args meth c g mi sz0) {pc : Nat} {ls : am_L} {st : List Value} {H : am_H} {r : Nat × am_L × List Value × am_H} {v : Int} (hd : decode mi.2.1 pc = .ok (.iconst v, 1)) (h : am_step g.2.2.2 mi (.iconst v) pc ls st H = some r) (k : am_K p l e R s m args below meth c Q g mi sz0 sl0 r.1 r.2.1 r.2.2.1 r.2.2.2) : am_K p l e R s m args below meth c Q g mi sz0 sl0 pc ls st H := by
  intro lsC Hc locs hl hL hI hS z1 z2
  obtain ⟨hx, hb, hml, hown, hts, hini, hR, hKn, hB⟩ := C
  cases h
  exact lv_iconst hx hb hd rfl (k _ _ _ hl hL hI hS z1 z2)
theorem am_w_bipush (C : am_Cx p R s m args meth c g mi sz0) {pc : Nat} {ls : am_L} {st : List Value} {H : am_H} {r : Nat × am_L × List Value × am_H} {v : Int} (hd : decode mi.2.1 pc = .ok (.bipush v, 2)) (h : am_step g.2.2.2 mi (.bipush v) pc ls st H = some r) (k : am_K p l e R s m args below meth c Q g mi sz0 sl0 r.1 r.2.1 r.2.2.1 r.2.2.2) : am_K p l e R s m args below meth c Q g mi sz0 sl0 pc ls st H := by
  intro lsC Hc locs hl hL hI hS z1 z2
  obtain ⟨hx, hb, hml, hown, hts, hini, hR, hKn, hB⟩ := C
  cases h
  exact lv_bipush hx hb hd rfl (k _ _ _ hl hL hI hS z1 z2)
theorem am_w_sipush (C : am_Cx p R s m args meth c g mi sz0) {pc : Nat} {ls : am_L} {st : List Value} {H : am_H} {r : Nat × am_L × List Value × am_H} {v : Int} (hd : decode mi.2.1 pc = .ok (.sipush v, 3)) (h : am_step g.2.2.2 mi (.sipush v) pc ls st H = some r) (k : am_K p l e R s m args below meth c Q g mi sz0 sl0 r.1 r.2.1 r.2.2.1 r.2.2.2) : am_K p l e R s m args below meth c Q g mi sz0 sl0 pc ls st H := by
  intro lsC Hc locs hl hL hI hS z1 z2
  obtain ⟨hx, hb, hml, hown, hts, hini, hR, hKn, hB⟩ := C
  cases h
  exact lv_sipush hx hb hd rfl (k _ _ _ hl hL hI hS z1 z2)
theorem am_w_null (C : am_Cx p R s m args meth c g mi sz0) {pc : Nat} {ls : am_L} {st : List Value} {H : am_H} {r : Nat × am_L × List Value × am_H}  (hd : decode mi.2.1 pc = .ok (.aconst_null, 1)) (h : am_step g.2.2.2 mi (.aconst_null) pc ls st H = some r) (k : am_K p l e R s m args below meth c Q g mi sz0 sl0 r.1 r.2.1 r.2.2.1 r.2.2.2) : am_K p l e R s m args below meth c Q g mi sz0 sl0 pc ls st H := by
  intro lsC Hc locs hl hL hI hS z1 z2
  obtain ⟨hx, hb, hml, hown, hts, hini, hR, hKn, hB⟩ := C
  cases h
  exact lv_null hx hb hd (k _ _ _ hl hL hI hS z1 z2)
theorem am_w_ldc (C : am_Cx p R s m args meth c g mi sz0) {pc : Nat} {ls : am_L} {st : List Value} {H : am_H} {r : Nat × am_L × List Value × am_H} {cp : Nat} (hd : decode mi.2.1 pc = .ok (.ldc cp, 2)) (h : am_step g.2.2.2 mi (.ldc cp) pc ls st H = some r) (k : am_K p l e R s m args below meth c Q g mi sz0 sl0 r.1 r.2.1 r.2.2.1 r.2.2.2) : am_K p l e R s m args below meth c Q g mi sz0 sl0 pc ls st H := by
  intro lsC Hc locs hl hL hI hS z1 z2
  obtain ⟨hx, hb, hml, hown, hts, hini, hR, hKn, hB⟩ := C
  obtain ⟨z, hz, rfl⟩ := am_pushO_inv h
  cases hq : (am_conL mi.1).lookup cp with
  | none => rw [hq] at hz; cases hz
  | some v =>
    rw [hq] at hz; cases hz
    exact lv_ldc hx hb hown (hts _ (am_conP _ _ (am_lk _ _ _ hq))) hd (k _ _ _ hl hL hI hS z1 z2)
theorem am_w_ldc2 (C : am_Cx p R s m args meth c g mi sz0) {pc : Nat} {ls : am_L} {st : List Value} {H : am_H} {r : Nat × am_L × List Value × am_H} {cp : Nat} (hd : decode mi.2.1 pc = .ok (.ldc2_w cp, 3)) (h : am_step g.2.2.2 mi (.ldc2_w cp) pc ls st H = some r) (k : am_K p l e R s m args below meth c Q g mi sz0 sl0 r.1 r.2.1 r.2.2.1 r.2.2.2) : am_K p l e R s m args below meth c Q g mi sz0 sl0 pc ls st H := by
  intro lsC Hc locs hl hL hI hS z1 z2
  obtain ⟨hx, hb, hml, hown, hts, hini, hR, hKn, hB⟩ := C
  obtain ⟨z, hz, rfl⟩ := am_pushO_inv h
  cases hq : (am_lngL mi.1).lookup cp with
  | none => rw [hq] at hz; cases hz
  | some v =>
    rw [hq] at hz; cases hz
    exact lv_ldc2 hx hb hown (hts _ (am_lngP _ _ (am_lk _ _ _ hq))) hd (k _ _ _ hl hL hI hS z1 z2)
theorem am_w_fconst (C : am_Cx p R s m args meth c g mi sz0) {pc : Nat} {ls : am_L} {st : List Value} {H : am_H} {r : Nat × am_L × List Value × am_H} {f : Fin 3} (hd : decode mi.2.1 pc = .ok (.fconst f, 1)) (h : am_step g.2.2.2 mi (.fconst f) pc ls st H = some r) (k : am_K p l e R s m args below meth c Q g mi sz0 sl0 r.1 r.2.1 r.2.2.1 r.2.2.2) : am_K p l e R s m args below meth c Q g mi sz0 sl0 pc ls st H := by
  intro lsC Hc locs hl hL hI hS z1 z2
  obtain ⟨hx, hb, hml, hown, hts, hini, hR, hKn, hB⟩ := C
  have h : (if f = 0 then am_push (pc + 1) ls st H (.float FP.fconst0) else none) = some r := h
  split at h
  · rename_i q
    subst q
    cases h
    exact lv_fconst0 hx hb hd (k _ _ _ hl hL hI hS z1 z2)
  · cases h
theorem am_w_iload_n (C : am_Cx p R s m args meth c g mi sz0) {pc : Nat} {ls : am_L} {st : List Value} {H : am_H} {r : Nat × am_L × List Value × am_H} {i : Fin 4} (hd : decode mi.2.1 pc = .ok (.iload_n i, 1)) (h : am_step g.2.2.2 mi (.iload_n i) pc ls st H = some r) (k : am_K p l e R s m args below meth c Q g mi sz0 sl0 r.1 r.2.1 r.2.2.1 r.2.2.2) : am_K p l e R s m args below meth c Q g mi sz0 sl0 pc ls st H := by
  intro lsC Hc locs hl hL hI hS z1 z2
  obtain ⟨hx, hb, hml, hown, hts, hini, hR, hKn, hB⟩ := C
  obtain ⟨v, hv, ho, rfl⟩ := am_load_inv h
  obtain ⟨x, rfl⟩ := am_isI_v ho
  exact lv_iload_n hx hb hd rfl (hl.at hv) (k _ _ _ hl hL hI hS z1 z2)
theorem am_w_lload_n (C : am_Cx p R s m args meth c g mi sz0) {pc : Nat} {ls : am_L} {st : List Value} {H : am_H} {r : Nat × am_L × List Value × am_H} {i : Fin 4} (hd : decode mi.2.1 pc = .ok (.lload_n i, 1)) (h : am_step g.2.2.2 mi (.lload_n i) pc ls st H = some r) (k : am_K p l e R s m args below meth c Q g mi sz0 sl0 r.1 r.2.1 r.2.2.1 r.2.2.2) : am_K p l e R s m args below meth c Q g mi sz0 sl0 pc ls st H := by
  intro lsC Hc locs hl hL hI hS z1 z2
  obtain ⟨hx, hb, hml, hown, hts, hini, hR, hKn, hB⟩ := C
  obtain ⟨v, hv, ho, rfl⟩ := am_load_inv h
  obtain ⟨x, rfl⟩ := am_isL_v ho
  exact lv_lload_n hx hb hd rfl (hl.at hv) (k _ _ _ hl hL hI hS z1 z2)
theorem am_w_iload (C : am_Cx p R s m args meth c g mi sz0) {pc : Nat} {ls : am_L} {st : List Value} {H : am_H} {r : Nat × am_L × List Value × am_H} {i : Nat} (hd : decode mi.2.1 pc = .ok (.iload i, 2)) (h : am_step g.2.2.2 mi (.iload i) pc ls st H = some r) (k : am_K p l e R s m args below meth c Q g mi sz0 sl0 r.1 r.2.1 r.2.2.1 r.2.2.2) : am_K p l e R s m args below meth c Q g mi sz0 sl0 pc ls st H := by
  intro lsC Hc locs hl hL hI hS z1 z2
  obtain ⟨hx, hb, hml, hown, hts, hini, hR, hKn, hB⟩ := C
  obtain ⟨v, hv, ho, rfl⟩ := am_load_inv h
  obtain ⟨x, rfl⟩ := am_isI_v ho
  exact lv_iload hx hb hd (hl.at hv) (k _ _ _ hl hL hI hS z1 z2)
theorem am_w_lload (C : am_Cx p R s m args meth c g mi sz0) {pc : Nat} {ls : am_L} {st : List Value} {H : am_H} {r : Nat × am_L × List Value × am_H} {i : Nat} (hd : decode mi.2.1 pc = .ok (.lload i, 2)) (h : am_step g.2.2.2 mi (.lload i) pc ls st H = some r) (k : am_K p l e R s m args below meth c Q g mi sz0 sl0 r.1 r.2.1 r.2.2.1 r.2.2.2) : am_K p l e R s m args below meth c Q g mi sz0 sl0 pc ls st H := by
  intro lsC Hc locs hl hL hI hS z1 z2
  obtain ⟨hx, hb, hml, hown, hts, hini, hR, hKn, hB⟩ := C
  obtain ⟨v, hv, ho, rfl⟩ := am_load_inv h
  obtain ⟨x, rfl⟩ := am_isL_v ho
  exact lv_lload hx hb hd (hl.at hv) (k _ _ _ hl hL hI hS z1 z2)
theorem am_w_dload (C : am_Cx p R s m args meth c g mi sz0) {pc : Nat} {ls : am_L} {st : List Value} {H : am_H} {r : Nat × am_L × List Value × am_H} {i : Nat} (hd : decode mi.2.1 pc = .ok (.dload i, 2)) (h : am_step g.2.2.2 mi (.dload i) pc ls st H = some r) (k : am_K p l e R s m args below meth c Q g mi sz0 sl0 r.1 r.2.1 r.2.2.1 r.2.2.2) : am_K p l e R s m args below meth c Q g mi sz0 sl0 pc ls st H := by
  intro lsC Hc locs hl hL hI hS z1 z2
  obtain ⟨hx, hb, hml, hown, hts, hini, hR, hKn, hB⟩ := C
  obtain ⟨v, hv, ho, rfl⟩ := am_load_inv h
  obtain ⟨x, rfl⟩ := am_isD_v ho
  exact lv_dload hx hb hd (hl.at hv) (k _ _ _ hl hL hI hS z1 z2)
theorem am_w_aload_n (C : am_Cx p R s m args meth c g mi sz0) {pc : Nat} {ls : am_L} {st : List Value} {H : am_H} {r : Nat × am_L × List Value × am_H} {i : Fin 4} (hd : decode mi.2.1 pc = .ok (.aload_n i, 1)) (h : am_step g.2.2.2 mi (.aload_n i) pc ls st H = some r) (k : am_K p l e R s m args below meth c Q g mi sz0 sl0 r.1 r.2.1 r.2.2.1 r.2.2.2) : am_K p l e R s m args below meth c Q g mi sz0 sl0 pc ls st H := by
  intro lsC Hc locs hl hL hI hS z1 z2
  obtain ⟨hx, hb, hml, hown, hts, hini, hR, hKn, hB⟩ := C
  obtain ⟨v, hv, ho, rfl⟩ := am_load_inv h
  rcases am_isA_v ho with ⟨x, rfl⟩ | rfl
  · exact lv_aload_n hx hb hd rfl (hl.at hv) (k _ _ _ hl hL hI hS z1 z2)
  · exact lv_aload_nN hx hb hd rfl (hl.at hv) (k _ _ _ hl hL hI hS z1 z2)
theorem am_w_aload (C : am_Cx p R s m args meth c g mi sz0) {pc : Nat} {ls : am_L} {st : List Value} {H : am_H} {r : Nat × am_L × List Value × am_H} {i : Nat} (hd : decode mi.2.1 pc = .ok (.aload i, 2)) (h : am_step g.2.2.2 mi (.aload i) pc ls st H = some r) (k : am_K p l e R s m args below meth c Q g mi sz0 sl0 r.1 r.2.1 r.2.2.1 r.2.2.2) : am_K p l e R s m args below meth c Q g mi sz0 sl0 pc ls st H := by
  intro lsC Hc locs hl hL hI hS z1 z2
  obtain ⟨hx, hb, hml, hown, hts, hini, hR, hKn, hB⟩ := C
  obtain ⟨v, hv, ho, rfl⟩ := am_load_inv h
  rcases am_isA_v ho with ⟨x, rfl⟩ | rfl
  · exact lv_aload hx hb hd (hl.at hv) (k _ _ _ hl hL hI hS z1 z2)
  · exact lv_aloadN hx hb hd (hl.at hv) (k _ _ _ hl hL hI hS z1 z2)
theorem am_w_istore_n (C : am_Cx p R s m args meth c g mi sz0) {pc : Nat} {ls : am_L} {st : List Value} {H : am_H} {r : Nat × am_L × List Value × am_H} {i : Fin 4} (hd : decode mi.2.1 pc = .ok (.istore_n i, 1)) (h : am_step g.2.2.2 mi (.istore_n i) pc ls st H = some r) (k : am_K p l e R s m args below meth c Q g mi sz0 sl0 r.1 r.2.1 r.2.2.1 r.2.2.2) : am_K p l e R s m args below meth c Q g mi sz0 sl0 pc ls st H := by
  intro lsC Hc locs hl hL hI hS z1 z2
  obtain ⟨hx, hb, hml, hown, hts, hini, hR, hKn, hB⟩ := C
  obtain ⟨v, st0, rfl, ho, hi, rfl⟩ := am_store_inv h
  obtain ⟨x, rfl⟩ := am_isI_v ho
  exact lv_istore_n hx hb hd rfl hl hi rfl (fun ls2 h2 => k _ _ _ (am_Has.set1 h2) (by show (am_set _ _ _).length = _; rw [am_set_len]; exact hL) hI hS z1 z2)
theorem am_w_istore (C : am_Cx p R s m args meth c g mi sz0) {pc : Nat} {ls : am_L} {st : List Value} {H : am_H} {r : Nat × am_L × List Value × am_H} {i : Nat} (hd : decode mi.2.1 pc = .ok (.istore i, 2)) (h : am_step g.2.2.2 mi (.istore i) pc ls st H = some r) (k : am_K p l e R s m args below meth c Q g mi sz0 sl0 r.1 r.2.1 r.2.2.1 r.2.2.2) : am_K p l e R s m args below meth c Q g mi sz0 sl0 pc ls st H := by
  intro lsC Hc locs hl hL hI hS z1 z2
  obtain ⟨hx, hb, hml, hown, hts, hini, hR, hKn, hB⟩ := C
  obtain ⟨v, st0, rfl, ho, hi, rfl⟩ := am_store_inv h
  obtain ⟨x, rfl⟩ := am_isI_v ho
  exact lv_istore hx hb hd hl hi rfl (fun ls2 h2 => k _ _ _ (am_Has.set1 h2) (by show (am_set _ _ _).length = _; rw [am_set_len]; exact hL) hI hS z1 z2)
theorem am_w_lstore_n (C : am_Cx p R s m args meth c g mi sz0) {pc : Nat} {ls : am_L} {st : List Value} {H : am_H} {r : Nat × am_L × List Value × am_H} {i : Fin 4} (hd : decode mi.2.1 pc = .ok (.lstore_n i, 1)) (h : am_step g.2.2.2 mi (.lstore_n i) pc ls st H = some r) (k : am_K p l e R s m args below meth c Q g mi sz0 sl0 r.1 r.2.1 r.2.2.1 r.2.2.2) : am_K p l e R s m args below meth c Q g mi sz0 sl0 pc ls st H := by
  intro lsC Hc locs hl hL hI hS z1 z2
  obtain ⟨hx, hb, hml, hown, hts, hini, hR, hKn, hB⟩ := C
  obtain ⟨v, st0, rfl, ho, hi, rfl⟩ := am_store_inv h
  obtain ⟨x, rfl⟩ := am_isL_v ho
  exact lv_lstore_n hx hb hd rfl hl hi rfl (fun ls2 h2 => k _ _ _ (am_Has.set2 rfl h2) (by show (am_set _ _ _).length = _; rw [am_set_len]; exact hL) hI hS z1 z2)
theorem am_w_lstore (C : am_Cx p R s m args meth c g mi sz0) {pc : Nat} {ls : am_L} {st : List Value} {H : am_H} {r : Nat × am_L × List Value × am_H} {i : Nat} (hd : decode mi.2.1 pc = .ok (.lstore i, 2)) (h : am_step g.2.2.2 mi (.lstore i) pc ls st H = some r) (k : am_K p l e R s m args below meth c Q g mi sz0 sl0 r.1 r.2.1 r.2.2.1 r.2.2.2) : am_K p l e R s m args below meth c Q g mi sz0 sl0 pc ls st H := by
  intro lsC Hc locs hl hL hI hS z1 z2
  obtain ⟨hx, hb, hml, hown, hts, hini, hR, hKn, hB⟩ := C
  obtain ⟨v, st0, rfl, ho, hi, rfl⟩ := am_store_inv h
  obtain ⟨x, rfl⟩ := am_isL_v ho
  exact lv_lstore hx hb hd hl hi rfl (fun ls2 h2 => k _ _ _ (am_Has.set2 rfl h2) (by show (am_set _ _ _).length = _; rw [am_set_len]; exact hL) hI hS z1 z2)
theorem am_w_dstore (C : am_Cx p R s m args meth c g mi sz0) {pc : Nat} {ls : am_L} {st : List Value} {H : am_H} {r : Nat × am_L × List Value × am_H} {i : Nat} (hd : decode mi.2.1 pc = .ok (.dstore i, 2)) (h : am_step g.2.2.2 mi (.dstore i) pc ls st H = some r) (k : am_K p l e R s m args below meth c Q g mi sz0 sl0 r.1 r.2.1 r.2.2.1 r.2.2.2) : am_K p l e R s m args below meth c Q g mi sz0 sl0 pc ls st H := by
  intro lsC Hc locs hl hL hI hS z1 z2
  obtain ⟨hx, hb, hml, hown, hts, hini, hR, hKn, hB⟩ := C
  obtain ⟨v, st0, rfl, ho, hi, rfl⟩ := am_store_inv h
  obtain ⟨x, rfl⟩ := am_isD_v ho
  exact lv_dstore hx hb hd hl hi rfl (fun ls2 h2 => k _ _ _ (am_Has.set2 rfl h2) (by show (am_set _ _ _).length = _; rw [am_set_len]; exact hL) hI hS z1 z2)
theorem am_w_astore_n (C : am_Cx p R s m args meth c g mi sz0) {pc : Nat} {ls : am_L} {st : List Value} {H : am_H} {r : Nat × am_L × List Value × am_H} {i : Fin 4} (hd : decode mi.2.1 pc = .ok (.astore_n i, 1)) (h : am_step g.2.2.2 mi (.astore_n i) pc ls st H = some r) (k : am_K p l e R s m args below meth c Q g mi sz0 sl0 r.1 r.2.1 r.2.2.1 r.2.2.2) : am_K p l e R s m args below meth c Q g mi sz0 sl0 pc ls st H := by
  intro lsC Hc locs hl hL hI hS z1 z2
  obtain ⟨hx, hb, hml, hown, hts, hini, hR, hKn, hB⟩ := C
  obtain ⟨v, st0, rfl, ho, hi, rfl⟩ := am_store_inv h
  rcases am_isA_v ho with ⟨x, rfl⟩ | rfl
  · exact lv_astore_n hx hb hd rfl hl hi rfl (fun ls2 h2 => k _ _ _ (am_Has.set1 h2) (by show (am_set _ _ _).length = _; rw [am_set_len]; exact hL) hI hS z1 z2)
  · exact lv_astore_nN hx hb hd rfl hl hi rfl (fun ls2 h2 => k _ _ _ (am_Has.set1 h2) (by show (am_set _ _ _).length = _; rw [am_set_len]; exact hL) hI hS z1 z2)
theorem am_w_astore (C : am_Cx p R s m args meth c g mi sz0) {pc : Nat} {ls : am_L} {st : List Value} {H : am_H} {r : Nat × am_L × List Value × am_H} {i : Nat} (hd : decode mi.2.1 pc = .ok (.astore i, 2)) (h : am_step g.2.2.2 mi (.astore i) pc ls st H = some r) (k : am_K p l e R s m args below meth c Q g mi sz0 sl0 r.1 r.2.1 r.2.2.1 r.2.2.2) : am_K p l e R s m args below meth c Q g mi sz0 sl0 pc ls st H := by
  intro lsC Hc locs hl hL hI hS z1 z2
  obtain ⟨hx, hb, hml, hown, hts, hini, hR, hKn, hB⟩ := C
  obtain ⟨v, st0, rfl, ho, hi, rfl⟩ := am_store_inv h
  rcases am_isA_v ho with ⟨x, rfl⟩ | rfl
  · exact lv_astore hx hb hd hl hi rfl (fun ls2 h2 => k _ _ _ (am_Has.set1 h2) (by show (am_set _ _ _).length = _; rw [am_set_len]; exact hL) hI hS z1 z2)
  · exact lv_astoreN hx hb hd hl hi rfl (fun ls2 h2 => k _ _ _ (am_Has.set1 h2) (by show (am_set _ _ _).length = _; rw [am_set_len]; exact hL) hI hS z1 z2)
theorem am_w_iinc (C : am_Cx p R s m args meth c g mi sz0) {pc : Nat} {ls : am_L} {st : List Value} {H : am_H} {r : Nat × am_L × List Value × am_H} {i : Nat} {v : Int} (hd : decode mi.2.1 pc = .ok (.iinc i v, 3)) (h : am_step g.2.2.2 mi (.iinc i v) pc ls st H = some r) (k : am_K p l e R s m args below meth c Q g mi sz0 sl0 r.1 r.2.1 r.2.2.1 r.2.2.2) : am_K p l e R s m args below meth c Q g mi sz0 sl0 pc ls st H := by
  intro lsC Hc locs hl hL hI hS z1 z2
  obtain ⟨hx, hb, hml, hown, hts, hini, hR, hKn, hB⟩ := C
  obtain ⟨x, hv, rfl⟩ := am_iinc_inv h
  obtain ⟨q, hq⟩ := List.getElem?_of_mem (am_al_mem (q := (i, .int x)) |>.mpr hv)
  exact lv_iinc hx hb hd hl hq rfl (List.getElem?_eq_some_iff.mp hv).1 rfl (fun ls2 h2 => k _ _ _ (am_Has.set1 h2) (by show (am_set _ _ _).length = _; rw [am_set_len]; exact hL) hI hS z1 z2)
theorem am_w_iadd (C : am_Cx p R s m args meth c g mi sz0) {pc : Nat} {ls : am_L} {st : List Value} {H : am_H} {r : Nat × am_L × List Value × am_H}  (hd : decode mi.2.1 pc = .ok (.iadd, 1)) (h : am_step g.2.2.2 mi (.iadd) pc ls st H = some r) (k : am_K p l e R s m args below meth c Q g mi sz0 sl0 r.1 r.2.1 r.2.2.1 r.2.2.2) : am_K p l e R s m args below meth c Q g mi sz0 sl0 pc ls st H := by
  intro lsC Hc locs hl hL hI hS z1 z2
  obtain ⟨hx, hb, hml, hown, hts, hini, hR, hKn, hB⟩ := C
  simp only [am_step] at h
  obtain ⟨x, y, z, st0, rfl, hz, rfl⟩ := am_i2_inv h
  cases hz
  exact lv_iadd hx hb hd (k _ _ _ hl hL hI hS z1 z2)
theorem am_w_isub (C : am_Cx p R s m args meth c g mi sz0) {pc : Nat} {ls : am_L} {st : List Value} {H : am_H} {r : Nat × am_L × List Value × am_H}  (hd : decode mi.2.1 pc = .ok (.isub, 1)) (h : am_step g.2.2.2 mi (.isub) pc ls st H = some r) (k : am_K p l e R s m args below meth c Q g mi sz0 sl0 r.1 r.2.1 r.2.2.1 r.2.2.2) : am_K p l e R s m args below meth c Q g mi sz0 sl0 pc ls st H := by
  intro lsC Hc locs hl hL hI hS z1 z2
  obtain ⟨hx, hb, hml, hown, hts, hini, hR, hKn, hB⟩ := C
  simp only [am_step] at h
  obtain ⟨x, y, z, st0, rfl, hz, rfl⟩ := am_i2_inv h
  cases hz
  exact lv_isub hx hb hd (k _ _ _ hl hL hI hS z1 z2)
theorem am_w_imul (C : am_Cx p R s m args meth c g mi sz0) {pc : Nat} {ls : am_L} {st : List Value} {H : am_H} {r : Nat × am_L × List Value × am_H}  (hd : decode mi.2.1 pc = .ok (.imul, 1)) (h : am_step g.2.2.2 mi (.imul) pc ls st H = some r) (k : am_K p l e R s m args below meth c Q g mi sz0 sl0 r.1 r.2.1 r.2.2.1 r.2.2.2) : am_K p l e R s m args below meth c Q g mi sz0 sl0 pc ls st H := by
  intro lsC Hc locs hl hL hI hS z1 z2
  obtain ⟨hx, hb, hml, hown, hts, hini, hR, hKn, hB⟩ := C
  simp only [am_step] at h
  obtain ⟨x, y, z, st0, rfl, hz, rfl⟩ := am_i2_inv h
  cases hz
  exact lv_imul hx hb hd (k _ _ _ hl hL hI hS z1 z2)
theorem am_w_iand (C : am_Cx p R s m args meth c g mi sz0) {pc : Nat} {ls : am_L} {st : List Value} {H : am_H} {r : Nat × am_L × List Value × am_H}  (hd : decode mi.2.1 pc = .ok (.iand, 1)) (h : am_step g.2.2.2 mi (.iand) pc ls st H = some r) (k : am_K p l e R s m args below meth c Q g mi sz0 sl0 r.1 r.2.1 r.2.2.1 r.2.2.2) : am_K p l e R s m args below meth c Q g mi sz0 sl0 pc ls st H := by
  intro lsC Hc locs hl hL hI hS z1 z2
  obtain ⟨hx, hb, hml, hown, hts, hini, hR, hKn, hB⟩ := C
  simp only [am_step] at h
  obtain ⟨x, y, z, st0, rfl, hz, rfl⟩ := am_i2_inv h
  cases hz
  exact lv_iand hx hb hd (k _ _ _ hl hL hI hS z1 z2)
theorem am_w_ior (C : am_Cx p R s m args meth c g mi sz0) {pc : Nat} {ls : am_L} {st : List Value} {H : am_H} {r : Nat × am_L × List Value × am_H}  (hd : decode mi.2.1 pc = .ok (.ior, 1)) (h : am_step g.2.2.2 mi (.ior) pc ls st H = some r) (k : am_K p l e R s m args below meth c Q g mi sz0 sl0 r.1 r.2.1 r.2.2.1 r.2.2.2) : am_K p l e R s m args below meth c Q g mi sz0 sl0 pc ls st H := by
  intro lsC Hc locs hl hL hI hS z1 z2
  obtain ⟨hx, hb, hml, hown, hts, hini, hR, hKn, hB⟩ := C
  simp only [am_step] at h
  obtain ⟨x, y, z, st0, rfl, hz, rfl⟩ := am_i2_inv h
  cases hz
  exact lv_ior hx hb hd (k _ _ _ hl hL hI hS z1 z2)
theorem am_w_ixor (C : am_Cx p R s m args meth c g mi sz0) {pc : Nat} {ls : am_L} {st : List Value} {H : am_H} {r : Nat × am_L × List Value × am_H}  (hd : decode mi.2.1 pc = .ok (.ixor, 1)) (h : am_step g.2.2.2 mi (.ixor) pc ls st H = some r) (k : am_K p l e R s m args below meth c Q g mi sz0 sl0 r.1 r.2.1 r.2.2.1 r.2.2.2) : am_K p l e R s m args below meth c Q g mi sz0 sl0 pc ls st H := by
  intro lsC Hc locs hl hL hI hS z1 z2
  obtain ⟨hx, hb, hml, hown, hts, hini, hR, hKn, hB⟩ := C
  simp only [am_step] at h
  obtain ⟨x, y, z, st0, rfl, hz, rfl⟩ := am_i2_inv h
  cases hz
  exact lv_ixor hx hb hd (k _ _ _ hl hL hI hS z1 z2)
theorem am_w_ishl (C : am_Cx p R s m args meth c g mi sz0) {pc : Nat} {ls : am_L} {st : List Value} {H : am_H} {r : Nat × am_L × List Value × am_H}  (hd : decode mi.2.1 pc = .ok (.ishl, 1)) (h : am_step g.2.2.2 mi (.ishl) pc ls st H = some r) (k : am_K p l e R s m args below meth c Q g mi sz0 sl0 r.1 r.2.1 r.2.2.1 r.2.2.2) : am_K p l e R s m args below meth c Q g mi sz0 sl0 pc ls st H := by
  intro lsC Hc locs hl hL hI hS z1 z2
  obtain ⟨hx, hb, hml, hown, hts, hini, hR, hKn, hB⟩ := C
  simp only [am_step] at h
  obtain ⟨x, y, z, st0, rfl, hz, rfl⟩ := am_i2_inv h
  cases hz
  exact lv_ishl hx hb hd (k _ _ _ hl hL hI hS z1 z2)
theorem am_w_ishr (C : am_Cx p R s m args meth c g mi sz0) {pc : Nat} {ls : am_L} {st : List Value} {H : am_H} {r : Nat × am_L × List Value × am_H}  (hd : decode mi.2.1 pc = .ok (.ishr, 1)) (h : am_step g.2.2.2 mi (.ishr) pc ls st H = some r) (k : am_K p l e R s m args below meth c Q g mi sz0 sl0 r.1 r.2.1 r.2.2.1 r.2.2.2) : am_K p l e R s m args below meth c Q g mi sz0 sl0 pc ls st H := by
  intro lsC Hc locs hl hL hI hS z1 z2
  obtain ⟨hx, hb, hml, hown, hts, hini, hR, hKn, hB⟩ := C
  simp only [am_step] at h
  obtain ⟨x, y, z, st0, rfl, hz, rfl⟩ := am_i2_inv h
  cases hz
  exact lv_ishr hx hb hd (k _ _ _ hl hL hI hS z1 z2)
theorem am_w_idiv (C : am_Cx p R s m args meth c g mi sz0) {pc : Nat} {ls : am_L} {st : List Value} {H : am_H} {r : Nat × am_L × List Value × am_H}  (hd : decode mi.2.1 pc = .ok (.idiv, 1)) (h : am_step g.2.2.2 mi (.idiv) pc ls st H = some r) (k : am_K p l e R s m args below meth c Q g mi sz0 sl0 r.1 r.2.1 r.2.2.1 r.2.2.2) : am_K p l e R s m args below meth c Q g mi sz0 sl0 pc ls st H := by
  intro lsC Hc locs hl hL hI hS z1 z2
  obtain ⟨hx, hb, hml, hown, hts, hini, hR, hKn, hB⟩ := C
  simp only [am_step] at h
  obtain ⟨x, y, z, st0, rfl, hz, rfl⟩ := am_i2_inv h
  split at hz
  · cases hz
  · cases hz
    exact lv_idiv hx hb hd (by assumption) (k _ _ _ hl hL hI hS z1 z2)
theorem am_w_irem (C : am_Cx p R s m args meth c g mi sz0) {pc : Nat} {ls : am_L} {st : List Value} {H : am_H} {r : Nat × am_L × List Value × am_H}  (hd : decode mi.2.1 pc = .ok (.irem, 1)) (h : am_step g.2.2.2 mi (.irem) pc ls st H = some r) (k : am_K p l e R s m args below meth c Q g mi sz0 sl0 r.1 r.2.1 r.2.2.1 r.2.2.2) : am_K p l e R s m args below meth c Q g mi sz0 sl0 pc ls st H := by
  intro lsC Hc locs hl hL hI hS z1 z2
  obtain ⟨hx, hb, hml, hown, hts, hini, hR, hKn, hB⟩ := C
  simp only [am_step] at h
  obtain ⟨x, y, z, st0, rfl, hz, rfl⟩ := am_i2_inv h
  split at hz
  · cases hz
  · cases hz
    exact lv_irem hx hb hd (by assumption) (k _ _ _ hl hL hI hS z1 z2)
theorem am_w_ladd (C : am_Cx p R s m args meth c g mi sz0) {pc : Nat} {ls : am_L} {st : List Value} {H : am_H} {r : Nat × am_L × List Value × am_H}  (hd : decode mi.2.1 pc = .ok (.ladd, 1)) (h : am_step g.2.2.2 mi (.ladd) pc ls st H = some r) (k : am_K p l e R s m args below meth c Q g mi sz0 sl0 r.1 r.2.1 r.2.2.1 r.2.2.2) : am_K p l e R s m args below meth c Q g mi sz0 sl0 pc ls st H := by
  intro lsC Hc locs hl hL hI hS z1 z2
  obtain ⟨hx, hb, hml, hown, hts, hini, hR, hKn, hB⟩ := C
  simp only [am_step] at h
  obtain ⟨x, y, z, st0, rfl, hz, rfl⟩ := am_l2_inv h
  cases hz
  exact lv_ladd hx hb hd (k _ _ _ hl hL hI hS z1 z2)
theorem am_w_lmul (C : am_Cx p R s m args meth c g mi sz0) {pc : Nat} {ls : am_L} {st : List Value} {H : am_H} {r : Nat × am_L × List Value × am_H}  (hd : decode mi.2.1 pc = .ok (.lmul, 1)) (h : am_step g.2.2.2 mi (.lmul) pc ls st H = some r) (k : am_K p l e R s m args below meth c Q g mi sz0 sl0 r.1 r.2.1 r.2.2.1 r.2.2.2) : am_K p l e R s m args below meth c Q g mi sz0 sl0 pc ls st H := by
  intro lsC Hc locs hl hL hI hS z1 z2
  obtain ⟨hx, hb, hml, hown, hts, hini, hR, hKn, hB⟩ := C
  simp only [am_step] at h
  obtain ⟨x, y, z, st0, rfl, hz, rfl⟩ := am_l2_inv h
  cases hz
  exact lv_lmul hx hb hd (k _ _ _ hl hL hI hS z1 z2)
theorem am_w_lcmp (C : am_Cx p R s m args meth c g mi sz0) {pc : Nat} {ls : am_L} {st : List Value} {H : am_H} {r : Nat × am_L × List Value × am_H}  (hd : decode mi.2.1 pc = .ok (.lcmp, 1)) (h : am_step g.2.2.2 mi (.lcmp) pc ls st H = some r) (k : am_K p l e R s m args below meth c Q g mi sz0 sl0 r.1 r.2.1 r.2.2.1 r.2.2.2) : am_K p l e R s m args below meth c Q g mi sz0 sl0 pc ls st H := by
  intro lsC Hc locs hl hL hI hS z1 z2
  obtain ⟨hx, hb, hml, hown, hts, hini, hR, hKn, hB⟩ := C
  simp only [am_step] at h
  obtain ⟨x, y, z, st0, rfl, hz, rfl⟩ := am_l2_inv h
  cases hz
  exact W.lcmp hx hb hd (k _ _ _ hl hL hI hS z1 z2)
theorem am_w_ldiv (C : am_Cx p R s m args meth c g mi sz0) {pc : Nat} {ls : am_L} {st : List Value} {H : am_H} {r : Nat × am_L × List Value × am_H}  (hd : decode mi.2.1 pc = .ok (.ldiv, 1)) (h : am_step g.2.2.2 mi (.ldiv) pc ls st H = some r) (k : am_K p l e R s m args below meth c Q g mi sz0 sl0 r.1 r.2.1 r.2.2.1 r.2.2.2) : am_K p l e R s m args below meth c Q g mi sz0 sl0 pc ls st H := by
  intro lsC Hc locs hl hL hI hS z1 z2
  obtain ⟨hx, hb, hml, hown, hts, hini, hR, hKn, hB⟩ := C
  simp only [am_step] at h
  obtain ⟨x, y, z, st0, rfl, hz, rfl⟩ := am_l2_inv h
  split at hz
  · cases hz
  · cases hz
    exact lv_ldiv hx hb hd (by assumption) (k _ _ _ hl hL hI hS z1 z2)
theorem am_w_ineg (C : am_Cx p R s m args meth c g mi sz0) {pc : Nat} {ls : am_L} {st : List Value} {H : am_H} {r : Nat × am_L × List Value × am_H}  (hd : decode mi.2.1 pc = .ok (.ineg, 1)) (h : am_step g.2.2.2 mi (.ineg) pc ls st H = some r) (k : am_K p l e R s m args below meth c Q g mi sz0 sl0 r.1 r.2.1 r.2.2.1 r.2.2.2) : am_K p l e R s m args below meth c Q g mi sz0 sl0 pc ls st H := by
  intro lsC Hc locs hl hL hI hS z1 z2
  obtain ⟨hx, hb, hml, hown, hts, hini, hR, hKn, hB⟩ := C
  simp only [am_step] at h
  obtain ⟨v, z, st0, rfl, hz, rfl⟩ := am_u1_inv h
  cases v with
  | int x => cases hz; exact lv_ineg hx hb hd (k _ _ _ hl hL hI hS z1 z2)
  | _ => cases hz
theorem am_w_i2l (C : am_Cx p R s m args meth c g mi sz0) {pc : Nat} {ls : am_L} {st : List Value} {H : am_H} {r : Nat × am_L × List Value × am_H}  (hd : decode mi.2.1 pc = .ok (.i2l, 1)) (h : am_step g.2.2.2 mi (.i2l) pc ls st H = some r) (k : am_K p l e R s m args below meth c Q g mi sz0 sl0 r.1 r.2.1 r.2.2.1 r.2.2.2) : am_K p l e R s m args below meth c Q g mi sz0 sl0 pc ls st H := by
  intro lsC Hc locs hl hL hI hS z1 z2
  obtain ⟨hx, hb, hml, hown, hts, hini, hR, hKn, hB⟩ := C
  simp only [am_step] at h
  obtain ⟨v, z, st0, rfl, hz, rfl⟩ := am_u1_inv h
  cases v with
  | int x => cases hz; exact lv_i2l hx hb hd rfl (k _ _ _ hl hL hI hS z1 z2)
  | _ => cases hz
theorem am_w_l2i (C : am_Cx p R s m args meth c g mi sz0) {pc : Nat} {ls : am_L} {st : List Value} {H : am_H} {r : Nat × am_L × List Value × am_H}  (hd : decode mi.2.1 pc = .ok (.l2i, 1)) (h : am_step g.2.2.2 mi (.l2i) pc ls st H = some r) (k : am_K p l e R s m args below meth c Q g mi sz0 sl0 r.1 r.2.1 r.2.2.1 r.2.2.2) : am_K p l e R s m args below meth c Q g mi sz0 sl0 pc ls st H := by
  intro lsC Hc locs hl hL hI hS z1 z2
  obtain ⟨hx, hb, hml, hown, hts, hini, hR, hKn, hB⟩ := C
  simp only [am_step] at h
  obtain ⟨v, z, st0, rfl, hz, rfl⟩ := am_u1_inv h
  cases v with
  | long x => cases hz; exact lv_l2i hx hb hd rfl (k _ _ _ hl hL hI hS z1 z2)
  | _ => cases hz
theorem am_w_l2f (C : am_Cx p R s m args meth c g mi sz0) {pc : Nat} {ls : am_L} {st : List Value} {H : am_H} {r : Nat × am_L × List Value × am_H}  (hd : decode mi.2.1 pc = .ok (.l2f, 1)) (h : am_step g.2.2.2 mi (.l2f) pc ls st H = some r) (k : am_K p l e R s m args below meth c Q g mi sz0 sl0 r.1 r.2.1 r.2.2.1 r.2.2.2) : am_K p l e R s m args below meth c Q g mi sz0 sl0 pc ls st H := by
  intro lsC Hc locs hl hL hI hS z1 z2
  obtain ⟨hx, hb, hml, hown, hts, hini, hR, hKn, hB⟩ := C
  simp only [am_step] at h
  obtain ⟨v, z, st0, rfl, hz, rfl⟩ := am_u1_inv h
  cases v with
  | long x => cases hz; exact lv_l2f hx hb hd (k _ _ _ hl hL hI hS z1 z2)
  | _ => cases hz
theorem am_w_i2f (C : am_Cx p R s m args meth c g mi sz0) {pc : Nat} {ls : am_L} {st : List Value} {H : am_H} {r : Nat × am_L × List Value × am_H}  (hd : decode mi.2.1 pc = .ok (.i2f, 1)) (h : am_step g.2.2.2 mi (.i2f) pc ls st H = some r) (k : am_K p l e R s m args below meth c Q g mi sz0 sl0 r.1 r.2.1 r.2.2.1 r.2.2.2) : am_K p l e R s m args below meth c Q g mi sz0 sl0 pc ls st H := by
  intro lsC Hc locs hl hL hI hS z1 z2
  obtain ⟨hx, hb, hml, hown, hts, hini, hR, hKn, hB⟩ := C
  simp only [am_step] at h
  obtain ⟨v, z, st0, rfl, hz, rfl⟩ := am_u1_inv h
  cases v with
  | int x => cases hz; exact lv_i2f hx hb hd (k _ _ _ hl hL hI hS z1 z2)
  | _ => cases hz
theorem am_w_f2d (C : am_Cx p R s m args meth c g mi sz0) {pc : Nat} {ls : am_L} {st : List Value} {H : am_H} {r : Nat × am_L × List Value × am_H}  (hd : decode mi.2.1 pc = .ok (.f2d, 1)) (h : am_step g.2.2.2 mi (.f2d) pc ls st H = some r) (k : am_K p l e R s m args below meth c Q g mi sz0 sl0 r.1 r.2.1 r.2.2.1 r.2.2.2) : am_K p l e R s m args below meth c Q g mi sz0 sl0 pc ls st H := by
  intro lsC Hc locs hl hL hI hS z1 z2
  obtain ⟨hx, hb, hml, hown, hts, hini, hR, hKn, hB⟩ := C
  simp only [am_step] at h
  obtain ⟨v, z, st0, rfl, hz, rfl⟩ := am_u1_inv h
  cases v with
  | float x =>
    have hz : am_n64 (FP.f2d x) = some z := hz
    unfold am_n64 at hz
    split at hz
    · cases hz; exact lv_f2d hx hb hd (by assumption) (k _ _ _ hl hL hI hS z1 z2)
    · cases hz
  | _ => cases hz
theorem am_w_fdiv (C : am_Cx p R s m args meth c g mi sz0) {pc : Nat} {ls : am_L} {st : List Value} {H : am_H} {r : Nat × am_L × List Value × am_H}  (hd : decode mi.2.1 pc = .ok (.fdiv, 1)) (h : am_step g.2.2.2 mi (.fdiv) pc ls st H = some r) (k : am_K p l e R s m args below meth c Q g mi sz0 sl0 r.1 r.2.1 r.2.2.1 r.2.2.2) : am_K p l e R s m args below meth c Q g mi sz0 sl0 pc ls st H := by
  intro lsC Hc locs hl hL hI hS z1 z2
  obtain ⟨hx, hb, hml, hown, hts, hini, hR, hKn, hB⟩ := C
  simp only [am_step] at h
  obtain ⟨x, y, z, st0, rfl, hz, rfl⟩ := am_f2_inv h
  have hz : am_n32 (FP.fdiv x y) = some z := hz
  unfold am_n32 at hz
  split at hz
  · cases hz; exact lv_fdiv hx hb hd (by assumption) (k _ _ _ hl hL hI hS z1 z2)
  · cases hz
theorem am_w_dcmp (C : am_Cx p R s m args meth c g mi sz0) {pc : Nat} {ls : am_L} {st : List Value} {H : am_H} {r : Nat × am_L × List Value × am_H} {op : CmpOp} (hd : decode mi.2.1 pc = .ok (.dcmp op, 1)) (h : am_step g.2.2.2 mi (.dcmp op) pc ls st H = some r) (k : am_K p l e R s m args below meth c Q g mi sz0 sl0 r.1 r.2.1 r.2.2.1 r.2.2.2) : am_K p l e R s m args below meth c Q g mi sz0 sl0 pc ls st H := by
  intro lsC Hc locs hl hL hI hS z1 z2
  obtain ⟨hx, hb, hml, hown, hts, hini, hR, hKn, hB⟩ := C
  simp only [am_step] at h
  obtain ⟨x, y, z, st0, rfl, hz, rfl⟩ := am_d2_inv h
  cases hz
  exact lv_dcmp hx hb hd (k _ _ _ hl hL hI hS z1 z2)
theorem am_w_fcmp (C : am_Cx p R s m args meth c g mi sz0) {pc : Nat} {ls : am_L} {st : List Value} {H : am_H} {r : Nat × am_L × List Value × am_H} {op : CmpOp} (hd : decode mi.2.1 pc = .ok (.fcmp op, 1)) (h : am_step g.2.2.2 mi (.fcmp op) pc ls st H = some r) (k : am_K p l e R s m args below meth c Q g mi sz0 sl0 r.1 r.2.1 r.2.2.1 r.2.2.2) : am_K p l e R s m args below meth c Q g mi sz0 sl0 pc ls st H := by
  intro lsC Hc locs hl hL hI hS z1 z2
  obtain ⟨hx, hb, hml, hown, hts, hini, hR, hKn, hB⟩ := C
  simp only [am_step] at h
  obtain ⟨x, y, z, st0, rfl, hz, rfl⟩ := am_f2_inv h
  cases hz
  exact lv_fcmp hx hb hd (k _ _ _ hl hL hI hS z1 z2)
theorem am_w_dup (C : am_Cx p R s m args meth c g mi sz0) {pc : Nat} {ls : am_L} {st : List Value} {H : am_H} {r : Nat × am_L × List Value × am_H}  (hd : decode mi.2.1 pc = .ok (.dup, 1)) (h : am_step g.2.2.2 mi (.dup) pc ls st H = some r) (k : am_K p l e R s m args below meth c Q g mi sz0 sl0 r.1 r.2.1 r.2.2.1 r.2.2.2) : am_K p l e R s m args below meth c Q g mi sz0 sl0 pc ls st H := by
  intro lsC Hc locs hl hL hI hS z1 z2
  obtain ⟨hx, hb, hml, hown, hts, hini, hR, hKn, hB⟩ := C
  have h : am_dup (pc + 1) ls st H = some r := h
  unfold am_dup at h
  split at h
  · split at h
    · cases h; exact lv_dup hx hb hd (by assumption) (k _ _ _ hl hL hI hS z1 z2)
    · cases h
  · cases h
theorem am_w_dup2 (C : am_Cx p R s m args meth c g mi sz0) {pc : Nat} {ls : am_L} {st : List Value} {H : am_H} {r : Nat × am_L × List Value × am_H}  (hd : decode mi.2.1 pc = .ok (.dup2, 1)) (h : am_step g.2.2.2 mi (.dup2) pc ls st H = some r) (k : am_K p l e R s m args below meth c Q g mi sz0 sl0 r.1 r.2.1 r.2.2.1 r.2.2.2) : am_K p l e R s m args below meth c Q g mi sz0 sl0 pc ls st H := by
  intro lsC Hc locs hl hL hI hS z1 z2
  obtain ⟨hx, hb, hml, hown, hts, hini, hR, hKn, hB⟩ := C
  have h : am_dup2 (pc + 1) ls st H = some r := h
  unfold am_dup2 at h
  split at h
  · split at h
    · rename_i q; cases h; exact lv_dup2_11 hx hb hd q.1 q.2 (k _ _ _ hl hL hI hS z1 z2)
    · cases h
  · cases h
theorem am_w_ifCond (C : am_Cx p R s m args meth c g mi sz0) {pc : Nat} {ls : am_L} {st : List Value} {H : am_H} {r : Nat × am_L × List Value × am_H} {q : ClassFile.Cond} {off : Int} (hd : decode mi.2.1 pc = .ok (.ifCond q off, 3)) (h : am_step g.2.2.2 mi (.ifCond q off) pc ls st H = some r) (k : am_K p l e R s m args below meth c Q g mi sz0 sl0 r.1 r.2.1 r.2.2.1 r.2.2.2) : am_K p l e R s m args below meth c Q g mi sz0 sl0 pc ls st H := by
  intro lsC Hc locs hl hL hI hS z1 z2
  obtain ⟨hx, hb, hml, hown, hts, hini, hR, hKn, hB⟩ := C
  obtain ⟨x, st0, rfl, ho, rfl⟩ := am_if1_inv h
  cases q with
  | eq =>
    by_cases a : am_c1 .eq x = true
    · have k := k lsC Hc locs hl hL hI hS z1 z2
      dsimp only at k; rw [if_pos a] at k
      exact lv_if_eq (tgt := ((pc : Int) + off).toNat) hx hb hd (by omega) (fun _ => k) (fun c1 => absurd (of_decide_eq_true a) c1)
    · have k := k lsC Hc locs hl hL hI hS z1 z2
      dsimp only at k; rw [if_neg a] at k
      exact lv_if_eq (tgt := ((pc : Int) + off).toNat) hx hb hd (by omega) (fun c1 => absurd (decide_eq_true c1) a) (fun _ => k)
  | ne =>
    by_cases a : am_c1 .ne x = true
    · have k := k lsC Hc locs hl hL hI hS z1 z2
      dsimp only at k; rw [if_pos a] at k
      exact lv_if_ne (tgt := ((pc : Int) + off).toNat) hx hb hd (by omega) (fun _ => k) (fun c1 => absurd c1 (of_decide_eq_true a))
    · have k := k lsC Hc locs hl hL hI hS z1 z2
      dsimp only at k; rw [if_neg a] at k
      exact lv_if_ne (tgt := ((pc : Int) + off).toNat) hx hb hd (by omega) (fun c1 => absurd (decide_eq_true c1) a) (fun _ => k)
  | lt =>
    by_cases a : am_c1 .lt x = true
    · have k := k lsC Hc locs hl hL hI hS z1 z2
      dsimp only at k; rw [if_pos a] at k
      exact lv_if_lt (tgt := ((pc : Int) + off).toNat) hx hb hd (by omega) (fun _ => k) (fun c1 => absurd (of_decide_eq_true a) c1)
    · have k := k lsC Hc locs hl hL hI hS z1 z2
      dsimp only at k; rw [if_neg a] at k
      exact lv_if_lt (tgt := ((pc : Int) + off).toNat) hx hb hd (by omega) (fun c1 => absurd (decide_eq_true c1) a) (fun _ => k)
  | ge =>
    by_cases a : am_c1 .ge x = true
    · have k := k lsC Hc locs hl hL hI hS z1 z2
      dsimp only at k; rw [if_pos a] at k
      exact lv_if_ge (tgt := ((pc : Int) + off).toNat) hx hb hd (by omega) (fun _ => k) (fun c1 => absurd (of_decide_eq_true a) c1)
    · have k := k lsC Hc locs hl hL hI hS z1 z2
      dsimp only at k; rw [if_neg a] at k
      exact lv_if_ge (tgt := ((pc : Int) + off).toNat) hx hb hd (by omega) (fun c1 => absurd (decide_eq_true c1) a) (fun _ => k)
  | gt =>
    by_cases a : am_c1 .gt x = true
    · have k := k lsC Hc locs hl hL hI hS z1 z2
      dsimp only at k; rw [if_pos a] at k
      exact lv_if_gt (tgt := ((pc : Int) + off).toNat) hx hb hd (by omega) (fun _ => k) (fun c1 => absurd (of_decide_eq_true a) c1)
    · have k := k lsC Hc locs hl hL hI hS z1 z2
      dsimp only at k; rw [if_neg a] at k
      exact lv_if_gt (tgt := ((pc : Int) + off).toNat) hx hb hd (by omega) (fun c1 => absurd (decide_eq_true c1) a) (fun _ => k)
  | le =>
    by_cases a : am_c1 .le x = true
    · have k := k lsC Hc locs hl hL hI hS z1 z2
      dsimp only at k; rw [if_pos a] at k
      exact lv_if_le (tgt := ((pc : Int) + off).toNat) hx hb hd (by omega) (fun _ => k) (fun c1 => absurd (of_decide_eq_true a) c1)
    · have k := k lsC Hc locs hl hL hI hS z1 z2
      dsimp only at k; rw [if_neg a] at k
      exact lv_if_le (tgt := ((pc : Int) + off).toNat) hx hb hd (by omega) (fun c1 => absurd (decide_eq_true c1) a) (fun _ => k)
theorem am_w_icmp (C : am_Cx p R s m args meth c g mi sz0) {pc : Nat} {ls : am_L} {st : List Value} {H : am_H} {r : Nat × am_L × List Value × am_H} {q : ClassFile.Cond} {off : Int} (hd : decode mi.2.1 pc = .ok (.if_icmp q off, 3)) (h : am_step g.2.2.2 mi (.if_icmp q off) pc ls st H = some r) (k : am_K p l e R s m args below meth c Q g mi sz0 sl0 r.1 r.2.1 r.2.2.1 r.2.2.2) : am_K p l e R s m args below meth c Q g mi sz0 sl0 pc ls st H := by
  intro lsC Hc locs hl hL hI hS z1 z2
  obtain ⟨hx, hb, hml, hown, hts, hini, hR, hKn, hB⟩ := C
  obtain ⟨x, y, st0, rfl, ho, rfl⟩ := am_if2_inv h
  cases q with
  | eq =>
    by_cases a : am_c2 .eq x y = true
    · have k := k lsC Hc locs hl hL hI hS z1 z2
      dsimp only at k; rw [if_pos a] at k
      exact lv_icmp_eq (tgt := ((pc : Int) + off).toNat) hx hb hd (by omega) (fun _ => k) (fun c1 => absurd (of_decide_eq_true a) c1)
    · have k := k lsC Hc locs hl hL hI hS z1 z2
      dsimp only at k; rw [if_neg a] at k
      exact lv_icmp_eq (tgt := ((pc : Int) + off).toNat) hx hb hd (by omega) (fun c1 => absurd (decide_eq_true c1) a) (fun _ => k)
  | ne =>
    by_cases a : am_c2 .ne x y = true
    · have k := k lsC Hc locs hl hL hI hS z1 z2
      dsimp only at k; rw [if_pos a] at k
      exact lv_icmp_ne (tgt := ((pc : Int) + off).toNat) hx hb hd (by omega) (fun _ => k) (fun c1 => absurd c1 (of_decide_eq_true a))
    · have k := k lsC Hc locs hl hL hI hS z1 z2
      dsimp only at k; rw [if_neg a] at k
      exact lv_icmp_ne (tgt := ((pc : Int) + off).toNat) hx hb hd (by omega) (fun c1 => absurd (decide_eq_true c1) a) (fun _ => k)
  | lt =>
    by_cases a : am_c2 .lt x y = true
    · have k := k lsC Hc locs hl hL hI hS z1 z2
      dsimp only at k; rw [if_pos a] at k
      exact lv_icmp_lt (tgt := ((pc : Int) + off).toNat) hx hb hd (by omega) (fun _ => k) (fun c1 => absurd (of_decide_eq_true a) c1)
    · have k := k lsC Hc locs hl hL hI hS z1 z2
      dsimp only at k; rw [if_neg a] at k
      exact lv_icmp_lt (tgt := ((pc : Int) + off).toNat) hx hb hd (by omega) (fun c1 => absurd (decide_eq_true c1) a) (fun _ => k)
  | ge =>
    by_cases a : am_c2 .ge x y = true
    · have k := k lsC Hc locs hl hL hI hS z1 z2
      dsimp only at k; rw [if_pos a] at k
      exact lv_icmp_ge (tgt := ((pc : Int) + off).toNat) hx hb hd (by omega) (fun _ => k) (fun c1 => absurd (of_decide_eq_true a) c1)
    · have k := k lsC Hc locs hl hL hI hS z1 z2
      dsimp only at k; rw [if_neg a] at k
      exact lv_icmp_ge (tgt := ((pc : Int) + off).toNat) hx hb hd (by omega) (fun c1 => absurd (decide_eq_true c1) a) (fun _ => k)
  | gt =>
    by_cases a : am_c2 .gt x y = true
    · have k := k lsC Hc locs hl hL hI hS z1 z2
      dsimp only at k; rw [if_pos a] at k
      exact lv_icmp_gt (tgt := ((pc : Int) + off).toNat) hx hb hd (by omega) (fun _ => k) (fun c1 => absurd (of_decide_eq_true a) c1)
    · have k := k lsC Hc locs hl hL hI hS z1 z2
      dsimp only at k; rw [if_neg a] at k
      exact lv_icmp_gt (tgt := ((pc : Int) + off).toNat) hx hb hd (by omega) (fun c1 => absurd (decide_eq_true c1) a) (fun _ => k)
  | le =>
    by_cases a : am_c2 .le x y = true
    · have k := k lsC Hc locs hl hL hI hS z1 z2
      dsimp only at k; rw [if_pos a] at k
      exact lv_icmp_le (tgt := ((pc : Int) + off).toNat) hx hb hd (by omega) (fun _ => k) (fun c1 => absurd (of_decide_eq_true a) c1)
    · have k := k lsC Hc locs hl hL hI hS z1 z2
      dsimp only at k; rw [if_neg a] at k
      exact lv_icmp_le (tgt := ((pc : Int) + off).toNat) hx hb hd (by omega) (fun c1 => absurd (decide_eq_true c1) a) (fun _ => k)
theorem am_w_ifnn (C : am_Cx p R s m args meth c g mi sz0) {pc : Nat} {ls : am_L} {st : List Value} {H : am_H} {r : Nat × am_L × List Value × am_H} {off : Int} (hd : decode mi.2.1 pc = .ok (.ifnonnull off, 3)) (h : am_step g.2.2.2 mi (.ifnonnull off) pc ls st H = some r) (k : am_K p l e R s m args below meth c Q g mi sz0 sl0 r.1 r.2.1 r.2.2.1 r.2.2.2) : am_K p l e R s m args below meth c Q g mi sz0 sl0 pc ls st H := by
  intro lsC Hc locs hl hL hI hS z1 z2
  obtain ⟨hx, hb, hml, hown, hts, hini, hR, hKn, hB⟩ := C
  have h : am_nn off pc ls st H = some r := h
  unfold am_nn at h
  split at h
  · obtain ⟨ho, rfl⟩ := am_tgt_inv h
    exact lv_ifnonnull (tgt := ((pc : Int) + off).toNat) hx hb hd (by omega) (k _ _ _ hl hL hI hS z1 z2)
  · cases h; exact lv_ifnonnullN hx hb hd (k _ _ _ hl hL hI hS z1 z2)
  · cases h
theorem am_w_goto (C : am_Cx p R s m args meth c g mi sz0) {pc : Nat} {ls : am_L} {st : List Value} {H : am_H} {r : Nat × am_L × List Value × am_H} {off : Int} (hd : decode mi.2.1 pc = .ok (.goto off, 3)) (h : am_step g.2.2.2 mi (.goto off) pc ls st H = some r) (k : am_K p l e R s m args below meth c Q g mi sz0 sl0 r.1 r.2.1 r.2.2.1 r.2.2.2) : am_K p l e R s m args below meth c Q g mi sz0 sl0 pc ls st H := by
  intro lsC Hc locs hl hL hI hS z1 z2
  obtain ⟨hx, hb, hml, hown, hts, hini, hR, hKn, hB⟩ := C
  obtain ⟨ho, rfl⟩ := am_tgt_inv h
  exact lv_goto (tgt := ((pc : Int) + off).toNat) hx hb hd (by omega) (k _ _ _ hl hL hI hS z1 z2)
theorem am_w_tsw (C : am_Cx p R s m args meth c g mi sz0) {pc : Nat} {ls : am_L} {st : List Value} {H : am_H} {r : Nat × am_L × List Value × am_H} {n0 : Nat} {d lo hi : Int} {offs : Array Int} (hd : decode mi.2.1 pc = .ok (.tableswitch d lo hi offs, n0)) (h : am_step g.2.2.2 mi (.tableswitch d lo hi offs) pc ls st H = some r) (k : am_K p l e R s m args below meth c Q g mi sz0 sl0 r.1 r.2.1 r.2.2.1 r.2.2.2) : am_K p l e R s m args below meth c Q g mi sz0 sl0 pc ls st H := by
  intro lsC Hc locs hl hL hI hS z1 z2
  obtain ⟨hx, hb, hml, hown, hts, hini, hR, hKn, hB⟩ := C
  have h : am_tsw d lo hi offs pc ls st H = some r := h
  unfold am_tsw at h
  split at h
  · split at h
    · obtain ⟨ho, rfl⟩ := am_tgt_inv h
      exact lv_tableOut (tgt := ((pc : Int) + d).toNat) hx hb hd (by assumption) (by omega) (k _ _ _ hl hL hI hS z1 z2)
    · rename_i q
      split at h
      · rename_i off hoff
        obtain ⟨ho, rfl⟩ := am_tgt_inv h
        exact lv_tableIn (tgt := ((pc : Int) + off).toNat) hx hb hd (fun z => q (Or.inl z)) (fun z => q (Or.inr z)) hoff (by omega) (k _ _ _ hl hL hI hS z1 z2)
      · cases h
  · cases h
theorem am_w_lsw (C : am_Cx p R s m args meth c g mi sz0) {pc : Nat} {ls : am_L} {st : List Value} {H : am_H} {r : Nat × am_L × List Value × am_H} {n0 : Nat} {d : Int} {ps : Array (Int × Int)} (hd : decode mi.2.1 pc = .ok (.lookupswitch d ps, n0)) (h : am_step g.2.2.2 mi (.lookupswitch d ps) pc ls st H = some r) (k : am_K p l e R s m args below meth c Q g mi sz0 sl0 r.1 r.2.1 r.2.2.1 r.2.2.2) : am_K p l e R s m args below meth c Q g mi sz0 sl0 pc ls st H := by
  intro lsC Hc locs hl hL hI hS z1 z2
  obtain ⟨hx, hb, hml, hown, hts, hini, hR, hKn, hB⟩ := C
  have h : am_lsw d ps pc ls st H = some r := h
  unfold am_lsw at h
  split at h
  · split at h
    · obtain ⟨ho, rfl⟩ := am_tgt_inv h
      exact lv_lookup (tgt := ((pc : Int) + Op.lookupswitch.offset ps.toList d _).toNat) hx hb hd (by assumption) rfl (by omega) (k _ _ _ hl hL hI hS z1 z2)
    · cases h
  · cases h
end AMS
