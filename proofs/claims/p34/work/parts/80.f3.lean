section CF3
variable {sA : Nat} {h : Nat → Option am_C} {z : Nat × Nat} {Q : Option Value → am_H → Prop}
theorem srt_ins {lim : Int32} {acc : Nat → Nat → Int32} {m c i : Nat} (hr9 : ∀ k, k < m → ∀ x, x < 3 → ∃ y, y < 10000 ∧ acc k x = nI y) (hi : i < c) : ∀ (q : Nat) (la : Nat → Nat), KeyI acc m c la → SrtP lim acc i q la → q ≤ i → ∃ la2, KeyI acc m c la2 ∧ Srt lim acc (i + 1) la2
  | 0, la, a, s, _ => ⟨la, a, s.stop (fun y hy => absurd hy (by omega))⟩
  | q + 1, la, a, s, hq => by
    by_cases e : ahB lim acc (la (q + 1)) (la q) = true
    · exact srt_ins hr9 hi q _ (a.swap (by omega)) (s.step e hq) (by omega)
    · refine ⟨la, a, s.stop (fun y hy => ?_)⟩
      obtain rfl : y = q := by omega
      exact ahB_tot (hr9 _ (a.1 _ (by omega))) (hr9 _ (a.1 _ (by omega))) (fun d => by have := a.2.1 _ _ (by omega) (by omega) d; omega) e
theorem srt_to {lim : Int32} {acc : Nat → Nat → Int32} {m c : Nat} (hr9 : ∀ k, k < m → ∀ x, x < 3 → ∃ y, y < 10000 ∧ acc k x = nI y) {la : Nat → Nat} (a : KeyI acc m c la) : ∀ i, i ≤ c → ∃ la2, KeyI acc m c la2 ∧ Srt lim acc i la2
  | 0, _ => ⟨la, a, fun _ _ _ hb => absurd hb (Nat.not_lt_zero _)⟩
  | i + 1, h => by
    obtain ⟨l2, b1, b2⟩ := srt_to hr9 a i (by omega)
    exact srt_ins hr9 (by omega) i l2 b1 ⟨fun x y h1 h2 h3 h4 => b2 x y h1 (by omega), fun b h1 h2 => by omega⟩ (Nat.le_refl i)
theorem srt_ex {lim : Int32} {acc : Nat → Nat → Int32} {m c : Nat} {la : Nat → Nat} (a : KeyI acc m c la) (hr9 : ∀ k, k < m → ∀ x, x < 3 → ∃ y, y < 10000 ∧ acc k x = nI y) : ∃ la2, KeyI acc m c la2 ∧ Srt lim acc c la2 := srt_to hr9 a c (Nat.le_refl c)
theorem ScrI.sw {h h' : Nat → Option am_C} {x c : Nat} {qe : Nat → Nat} {f : Nat → Option Nat} {V : Nat → Nat → Int32} {Z : Nat → Int32} (a : ScrI h x) (s : SwX h' (x + 111) c qe f V Z) (sf : SwF (x + 111) qe f) (e : ∀ y, (y < x + 111 ∨ x + 155 ≤ y) → h' y = h y) : ScrI h' x := by
  obtain ⟨⟨n, G, g2, g3, f4, a1⟩, ⟨T, a2⟩, -, ⟨C, a5⟩, ⟨T2, a6⟩⟩ := a
  exact ⟨⟨n, G, g2, g3, f4, a1.fr (fun y y1 y2 => e y (by omega))⟩, ⟨T, a2.fr (fun y y1 y2 => e y (by omega))⟩, ⟨c, qe, f, V, Z, s, sf⟩, ⟨C, a5.fr (fun y y1 y2 => e y (by omega))⟩, ⟨T2, a6.fr (e _ (by omega))⟩⟩
theorem agB_t {L : Nat → Int32} {lim : Int32} {acc : Nat → Nat → Int32} {m : Nat} : ∀ {n : Nat}, agB L lim acc m n = true ↔ ∀ k, k < n → L k = inR lim acc m (-1) k m
  | 0 => ⟨fun _ k hk => absurd hk (Nat.not_lt_zero _), fun _ => rfl⟩
  | n + 1 => by
    show (agB L lim acc m n && decide (L n = inR lim acc m (-1) n m)) = true ↔ _
    rw [Bool.and_eq_true, agB_t (n := n), decide_eq_true_iff]
    refine ⟨fun q k hk => ?_, fun q => ⟨fun k hk => q k (by omega), q n (by omega)⟩⟩
    by_cases e : k = n
    · subst e; exact q.2
    · exact q.1 k (by omega)
theorem c11_again {x B Y pm fl l : Nat} {PA IM T U : Nat → Int32} {fk fp : Int32} {P Wd : Nat → Nat} {n m : Nat} {pe : Nat → Nat} {K : Nat → CdX} {R : RpX} {se co : Nat → Int32} {dep b : Int32} (r : RstI h z x B Y PA pm IM fl T l fk fp) (sa : StAt h (x + 1) P Wd n pe K R se co) (sr : StR U P Wd n pe K R se co) (sc : ScrI h x) (rep : RepOK U m) (hB : (dep < (-1) ∨ ∀ k, k < 5 → ¬ b = nI k) → Q (some (.int (-1000001))) (h, z)) (hG : ∀ k, ¬ dep < (-1) → k < 5 → b = nI k → ∀ h2 : Nat → Option am_C, ScrI h2 x → (∀ a, (a < x + 111 ∨ x + 155 ≤ a) → h2 a = h a) → Q (some (.int (inR (U 1061) (fun k f => U (1104 + 5 * k + f)) m dep k m))) (h2, z)) : Rn sA mX11_again 0 [some (.ref x), some (.int dep), some (.int b)] [] (h, z) Q := by
  have hx := r.2.1
  have sa1 := sa.1
  have hR1 := sr.2.2.2.1.2.1
  obtain ⟨re0, re1, re2, re3, re4⟩ := rep.rp sr.2.2.2.1
  have rp1 := sa.2.2.2.1.1
  obtain ⟨c0, qe, f0, V0, Z0, sw, sf⟩ := sc.2.2.1
  have sw1 := sw.1
  have hlim : R.2.2.1 = U 1061 := sr.2.2.2.1.2.2.2.2.1.symm
  refine R_iload_n (pc := 0) dX11_again_0 rfl ?_
  refine R_iconst (pc := 1) (x := (-1)) dX11_again_1 rfl ?_
  refine R_icmp_lt (pc := 2) (t := 14) dX11_again_2 (by decide) (fun h2d => ?_) (fun h2d => ?_)
  · refine R_ldc (pc := 14) (x := (-1000001)) dX11_again_14 rfl ?_
    refine R_iret (pc := 16) dX11_again_16 rfl ?_
    first
      | exact hB (Or.inl h2d)
      | exact hB (Or.inr (fun k k9 => e k (Nat.zero_le _) (by omega)))
      | exact hG k h2d (by omega) rfl h2 (sc.sw k1 sf k5) k5
  · refine R_iload_n (pc := 5) dX11_again_5 rfl ?_
    refine R_iconst (pc := 6) (x := nI 0) dX11_again_6 rfl ?_
    refine R_iconst (pc := 7) (x := nI 4) dX11_again_7 rfl ?_
    refine R_callS (pc := 8) dX11_again_8 rfl (Or.inl rfl) rfl rfl ?_
    refine c_inG (a := 0) (b := 4) rfl rfl (by omega) (by omega) (fun k _ k9 e => ?_) (fun e => ?_)
    · subst e
      refine R_if_ne (pc := 11) (t := 17) dX11_again_11 (by decide) (fun _ => ?_) (fun hz9 => absurd hz9 (by decide))
      refine R_aload_n (pc := 17) dX11_again_17 rfl ?_
      refine R_getf (pc := 18) dX11_again_18 rfl (by repeat (first | assumption | exact up_s | refine up_n (by omega) ?_)) rfl ?_
      refine R_aload_n (pc := 21) dX11_again_21 rfl ?_
      refine R_getf (pc := 22) dX11_again_22 rfl (by repeat (first | assumption | exact up_s | refine up_n (by omega) ?_)) rfl ?_
      refine R_getf (pc := 25) dX11_again_25 rfl (by repeat (first | assumption | exact up_s | refine up_n (by omega) ?_)) rfl ?_
      refine R_callV (pc := 28) dX11_again_28 rfl sw1 rfl rfl ?_
      refine c6_reckon (acc := (fun k f => U (1104 + 5 * k + f))) (lim := U 1061) sw sf sa.2.2.2.1 hlim hR1 (by omega) re3 (by rw [re2]; exact rep.2.1) (by rw [re2]; exact fun k hk y hy => rep.2.2.1 k hk y (by omega)) (fun h2 c2 la V2 Z2 k1 k2 k3 k4 k5 => ?_)
      rw [re2] at k2
      have hx2 := (k5 x (by omega)).trans hx
      have k11 := k1.1
      have sa2 : StAt h2 (x + 1) P Wd n pe K R se co := sa.fr (fun y y1 y2 => k5 y (by omega))
      have sa21 := sa2.1
      have rp2 := sa2.2.2.2.1.1
      refine R_aload_n (pc := 31) dX11_again_31 rfl ?_
      refine R_getf (pc := 32) dX11_again_32 rfl (by repeat (first | assumption | exact up_s | refine up_n (by omega) ?_)) rfl ?_
      refine R_iload_n (pc := 35) dX11_again_35 rfl ?_
      refine R_iload_n (pc := 36) dX11_again_36 rfl ?_
      refine R_callV (pc := 37) dX11_again_37 rfl k11 rfl rfl ?_
      refine c6_sum k1 sf k4 k2 k3 (by omega) ?_
      refine R_iret (pc := 40) dX11_again_40 rfl ?_
      first
        | exact hB (Or.inl h2d)
        | exact hB (Or.inr (fun k k9 => e k (Nat.zero_le _) (by omega)))
        | exact hG k h2d (by omega) rfl h2 (sc.sw k1 sf k5) k5
    · refine R_if_ne (pc := 11) (t := 17) dX11_again_11 (by decide) (fun hz9 => absurd hz9 (by decide)) (fun _ => ?_)
      refine R_ldc (pc := 14) (x := (-1000001)) dX11_again_14 rfl ?_
      refine R_iret (pc := 16) dX11_again_16 rfl ?_
      first
        | exact hB (Or.inl h2d)
        | exact hB (Or.inr (fun k k9 => e k (Nat.zero_le _) (by omega)))
        | exact hG k h2d (by omega) rfl h2 (sc.sw k1 sf k5) k5
theorem c11_agrees {x B Y pm fl l : Nat} {PA IM T U : Nat → Int32} {fk fp : Int32} {P Wd : Nat → Nat} {n m : Nat} {pe : Nat → Nat} {K : Nat → CdX} {R : RpX} {se co : Nat → Int32} (r : RstI h z x B Y PA pm IM fl T l fk fp) (sa : StAt h (x + 1) P Wd n pe K R se co) (sr : StR U P Wd n pe K R se co) (sc : ScrI h x) (rep : RepOK U m) (h0 : R.1 = 0 → Q (some (.int (nI 1))) (h, z)) (h1 : ∀ k, R.1 = k + 1 → (agB (fun j => U (1305 + 9 * k + 4 + j)) (U 1061) (fun k f => U (1104 + 5 * k + f)) m 4) = true → ∀ h2 : Nat → Option am_C, ScrI h2 x → (∀ a, (a < x + 111 ∨ x + 155 ≤ a) → h2 a = h a) → Q (some (.int (nI 1))) (h2, z)) (h9 : ∀ k, R.1 = k + 1 → (agB (fun j => U (1305 + 9 * k + 4 + j)) (U 1061) (fun k f => U (1104 + 5 * k + f)) m 4) = false → ∀ h2 : Nat → Option am_C, ScrI h2 x → (∀ a, (a < x + 111 ∨ x + 155 ≤ a) → h2 a = h a) → Q (some (.int (nI 0))) (h2, z)) : Rn sA mX11_agrees 0 [some (.ref x), none] [] (h, z) Q := by
  have hx := r.2.1
  have sa1 := sa.1
  have hR1 := sr.2.2.2.1.2.1
  obtain ⟨re0, re1, re2, re3, re4⟩ := rep.rp sr.2.2.2.1
  have rp1 := sa.2.2.2.1.1
  obtain ⟨c0, qe, f0, V0, Z0, sw, sf⟩ := sc.2.2.1
  have sw1 := sw.1
  have hlim : R.2.2.1 = U 1061 := sr.2.2.2.1.2.2.2.2.1.symm
  refine R_aload_n (pc := 0) dX11_agrees_0 rfl ?_
  refine R_getf (pc := 1) dX11_agrees_1 rfl (by repeat (first | assumption | exact up_s | refine up_n (by omega) ?_)) rfl ?_
  refine R_getf (pc := 4) dX11_agrees_4 rfl (by repeat (first | assumption | exact up_s | refine up_n (by omega) ?_)) rfl ?_
  refine R_callV (pc := 7) dX11_agrees_7 rfl rp1 rfl rfl ?_
  refine c5_isEmpty sa.2.2.2.1 hR1 (fun e => ?_) (fun e => ?_)
  · refine R_if_eq (pc := 10) (t := 15) dX11_agrees_10 (by decide) (fun hz9 => absurd hz9 (by decide)) (fun _ => ?_)
    refine R_iconst (pc := 13) (x := nI 1) dX11_agrees_13 rfl ?_
    refine R_iret (pc := 14) dX11_agrees_14 rfl ?_
    first
      | exact h0 e
      | exact h9 k hk (no 0 (by omega) h49) h2 (sc.sw k1 sf k5) k5
      | exact h9 k hk (no 1 (by omega) h72) h2 (sc.sw k1 sf k5) k5
      | exact h9 k hk (no 2 (by omega) h96) h2 (sc.sw k1 sf k5) k5
      | exact h9 k hk (no 3 (by omega) h120) h2 (sc.sw k1 sf k5) k5
      | (refine h1 k hk (agB_t.mpr (fun j hj => ?_)) h2 (sc.sw k1 sf k5) k5
         have cc : j = 0 ∨ j = 1 ∨ j = 2 ∨ j = 3 := by omega
         rcases cc with rfl | rfl | rfl | rfl
         · exact ((el 0 (by omega)).symm.trans h49.symm)
         · exact ((el 1 (by omega)).symm.trans h72.symm)
         · exact ((el 2 (by omega)).symm.trans h96.symm)
         · exact ((el 3 (by omega)).symm.trans h120.symm))
  · obtain ⟨k, hk⟩ : ∃ k, R.1 = k + 1 := ⟨R.1 - 1, by omega⟩
    refine R_if_eq (pc := 10) (t := 15) dX11_agrees_10 (by decide) (fun _ => ?_) (fun hz9 => absurd hz9 (by decide))
    refine R_aload_n (pc := 15) dX11_agrees_15 rfl ?_
    refine R_getf (pc := 16) dX11_agrees_16 rfl (by repeat (first | assumption | exact up_s | refine up_n (by omega) ?_)) rfl ?_
    refine R_aload_n (pc := 19) dX11_agrees_19 rfl ?_
    refine R_getf (pc := 20) dX11_agrees_20 rfl (by repeat (first | assumption | exact up_s | refine up_n (by omega) ?_)) rfl ?_
    refine R_getf (pc := 23) dX11_agrees_23 rfl (by repeat (first | assumption | exact up_s | refine up_n (by omega) ?_)) rfl ?_
    refine R_callV (pc := 26) dX11_agrees_26 rfl sw1 rfl rfl ?_
    refine c6_reckon (acc := (fun k f => U (1104 + 5 * k + f))) (lim := U 1061) sw sf sa.2.2.2.1 hlim hR1 (by omega) re3 (by rw [re2]; exact rep.2.1) (by rw [re2]; exact fun k hk y hy => rep.2.2.1 k hk y (by omega)) (fun h2 c2 la V2 Z2 k1 k2 k3 k4 k5 => ?_)
    rw [re2] at k2
    have hx2 := (k5 x (by omega)).trans hx
    have k11 := k1.1
    have sa2 : StAt h2 (x + 1) P Wd n pe K R se co := sa.fr (fun y y1 y2 => k5 y (by omega))
    have sa21 := sa2.1
    have rp2 := sa2.2.2.2.1.1
    have el : ∀ j, j < 4 → R.2.2.2.1 (k * 10 + (4 + j)) = U (1305 + 9 * k + 4 + j) := fun j hj => (sr.2.2.2.1.2.2.2.2.2.1 k (by omega) (4 + j) (by omega)).trans (by rw [show 1305 + 9 * k + (4 + j) = 1305 + 9 * k + 4 + j by omega])
    have no : ∀ j, j < 4 → ¬ inR (U 1061) (fun k f => U (1104 + 5 * k + f)) m (-1) j m = R.2.2.2.1 (k * 10 + (4 + j)) → (agB (fun j => U (1305 + 9 * k + 4 + j)) (U 1061) (fun k f => U (1104 + 5 * k + f)) m 4) = false := fun j hj q => by
      cases hq : (agB (fun j => U (1305 + 9 * k + 4 + j)) (U 1061) (fun k f => U (1104 + 5 * k + f)) m 4) with
      | false => rfl
      | true => exact absurd ((agB_t.mp hq j hj).symm.trans (el j hj).symm) q
    refine R_aload_n (pc := 29) dX11_agrees_29 rfl ?_
    refine R_getf (pc := 30) dX11_agrees_30 rfl (by repeat (first | assumption | exact up_s | refine up_n (by omega) ?_)) rfl ?_
    refine R_iconst (pc := 33) (x := (-1)) dX11_agrees_33 rfl ?_
    refine R_iconst (pc := 34) (x := nI 0) dX11_agrees_34 rfl ?_
    refine R_callV (pc := 35) dX11_agrees_35 rfl k11 rfl rfl ?_
    refine c6_sum k1 sf k4 k2 k3 (by omega) ?_
    refine R_aload_n (pc := 38) dX11_agrees_38 rfl ?_
    refine R_getf (pc := 39) dX11_agrees_39 rfl (by repeat (first | assumption | exact up_s | refine up_n (by omega) ?_)) rfl ?_
    refine R_getf (pc := 42) dX11_agrees_42 rfl (by repeat (first | assumption | exact up_s | refine up_n (by omega) ?_)) rfl ?_
    refine R_iconst (pc := 45) (x := nI 4) dX11_agrees_45 rfl ?_
    refine R_callV (pc := 46) dX11_agrees_46 rfl rp2 rfl rfl ?_
    refine c5_lastLine sa2.2.2.2.1 hR1 hk (by omega) ?_
    refine R_icmp_ne (pc := 49) (t := 127) dX11_agrees_49 (by decide) (fun h49 => ?_) (fun h49 => ?_)
    · refine R_iconst (pc := 127) (x := nI 0) dX11_agrees_127 rfl ?_
      refine R_istore_n (pc := 128) dX11_agrees_128 (Nat.le_of_ble_eq_true rfl) rfl ?_
      refine R_iload_n (pc := 129) dX11_agrees_129 rfl ?_
      refine R_if_eq (pc := 130) (t := 137) dX11_agrees_130 (by decide) (fun _ => ?_) (fun hz9 => absurd (by decide) hz9)
      refine R_iconst (pc := 137) (x := nI 0) dX11_agrees_137 rfl ?_
      refine R_iret (pc := 138) dX11_agrees_138 rfl ?_
      first
        | exact h0 e
        | exact h9 k hk (no 0 (by omega) h49) h2 (sc.sw k1 sf k5) k5
        | exact h9 k hk (no 1 (by omega) h72) h2 (sc.sw k1 sf k5) k5
        | exact h9 k hk (no 2 (by omega) h96) h2 (sc.sw k1 sf k5) k5
        | exact h9 k hk (no 3 (by omega) h120) h2 (sc.sw k1 sf k5) k5
        | (refine h1 k hk (agB_t.mpr (fun j hj => ?_)) h2 (sc.sw k1 sf k5) k5
           have cc : j = 0 ∨ j = 1 ∨ j = 2 ∨ j = 3 := by omega
           rcases cc with rfl | rfl | rfl | rfl
           · exact ((el 0 (by omega)).symm.trans h49.symm)
           · exact ((el 1 (by omega)).symm.trans h72.symm)
           · exact ((el 2 (by omega)).symm.trans h96.symm)
           · exact ((el 3 (by omega)).symm.trans h120.symm))
    · refine R_aload_n (pc := 52) dX11_agrees_52 rfl ?_
      refine R_getf (pc := 53) dX11_agrees_53 rfl (by repeat (first | assumption | exact up_s | refine up_n (by omega) ?_)) rfl ?_
      refine R_iconst (pc := 56) (x := (-1)) dX11_agrees_56 rfl ?_
      refine R_iconst (pc := 57) (x := nI 1) dX11_agrees_57 rfl ?_
      refine R_callV (pc := 58) dX11_agrees_58 rfl k11 rfl rfl ?_
      refine c6_sum k1 sf k4 k2 k3 (by omega) ?_
      refine R_aload_n (pc := 61) dX11_agrees_61 rfl ?_
      refine R_getf (pc := 62) dX11_agrees_62 rfl (by repeat (first | assumption | exact up_s | refine up_n (by omega) ?_)) rfl ?_
      refine R_getf (pc := 65) dX11_agrees_65 rfl (by repeat (first | assumption | exact up_s | refine up_n (by omega) ?_)) rfl ?_
      refine R_iconst (pc := 68) (x := nI 5) dX11_agrees_68 rfl ?_
      refine R_callV (pc := 69) dX11_agrees_69 rfl rp2 rfl rfl ?_
      refine c5_lastLine sa2.2.2.2.1 hR1 hk (by omega) ?_
      refine R_icmp_ne (pc := 72) (t := 127) dX11_agrees_72 (by decide) (fun h72 => ?_) (fun h72 => ?_)
      · refine R_iconst (pc := 127) (x := nI 0) dX11_agrees_127 rfl ?_
        refine R_istore_n (pc := 128) dX11_agrees_128 (Nat.le_of_ble_eq_true rfl) rfl ?_
        refine R_iload_n (pc := 129) dX11_agrees_129 rfl ?_
        refine R_if_eq (pc := 130) (t := 137) dX11_agrees_130 (by decide) (fun _ => ?_) (fun hz9 => absurd (by decide) hz9)
        refine R_iconst (pc := 137) (x := nI 0) dX11_agrees_137 rfl ?_
        refine R_iret (pc := 138) dX11_agrees_138 rfl ?_
        first
          | exact h0 e
          | exact h9 k hk (no 0 (by omega) h49) h2 (sc.sw k1 sf k5) k5
          | exact h9 k hk (no 1 (by omega) h72) h2 (sc.sw k1 sf k5) k5
          | exact h9 k hk (no 2 (by omega) h96) h2 (sc.sw k1 sf k5) k5
          | exact h9 k hk (no 3 (by omega) h120) h2 (sc.sw k1 sf k5) k5
          | (refine h1 k hk (agB_t.mpr (fun j hj => ?_)) h2 (sc.sw k1 sf k5) k5
             have cc : j = 0 ∨ j = 1 ∨ j = 2 ∨ j = 3 := by omega
             rcases cc with rfl | rfl | rfl | rfl
             · exact ((el 0 (by omega)).symm.trans h49.symm)
             · exact ((el 1 (by omega)).symm.trans h72.symm)
             · exact ((el 2 (by omega)).symm.trans h96.symm)
             · exact ((el 3 (by omega)).symm.trans h120.symm))
      · refine R_aload_n (pc := 75) dX11_agrees_75 rfl ?_
        refine R_getf (pc := 76) dX11_agrees_76 rfl (by repeat (first | assumption | exact up_s | refine up_n (by omega) ?_)) rfl ?_
        refine R_iconst (pc := 79) (x := (-1)) dX11_agrees_79 rfl ?_
        refine R_iconst (pc := 80) (x := nI 2) dX11_agrees_80 rfl ?_
        refine R_callV (pc := 81) dX11_agrees_81 rfl k11 rfl rfl ?_
        refine c6_sum k1 sf k4 k2 k3 (by omega) ?_
        refine R_aload_n (pc := 84) dX11_agrees_84 rfl ?_
        refine R_getf (pc := 85) dX11_agrees_85 rfl (by repeat (first | assumption | exact up_s | refine up_n (by omega) ?_)) rfl ?_
        refine R_getf (pc := 88) dX11_agrees_88 rfl (by repeat (first | assumption | exact up_s | refine up_n (by omega) ?_)) rfl ?_
        refine R_bipush (pc := 91) (x := nI 6) dX11_agrees_91 (by decide) ?_
        refine R_callV (pc := 93) dX11_agrees_93 rfl rp2 rfl rfl ?_
        refine c5_lastLine sa2.2.2.2.1 hR1 hk (by omega) ?_
        refine R_icmp_ne (pc := 96) (t := 127) dX11_agrees_96 (by decide) (fun h96 => ?_) (fun h96 => ?_)
        · refine R_iconst (pc := 127) (x := nI 0) dX11_agrees_127 rfl ?_
          refine R_istore_n (pc := 128) dX11_agrees_128 (Nat.le_of_ble_eq_true rfl) rfl ?_
          refine R_iload_n (pc := 129) dX11_agrees_129 rfl ?_
          refine R_if_eq (pc := 130) (t := 137) dX11_agrees_130 (by decide) (fun _ => ?_) (fun hz9 => absurd (by decide) hz9)
          refine R_iconst (pc := 137) (x := nI 0) dX11_agrees_137 rfl ?_
          refine R_iret (pc := 138) dX11_agrees_138 rfl ?_
          first
            | exact h0 e
            | exact h9 k hk (no 0 (by omega) h49) h2 (sc.sw k1 sf k5) k5
            | exact h9 k hk (no 1 (by omega) h72) h2 (sc.sw k1 sf k5) k5
            | exact h9 k hk (no 2 (by omega) h96) h2 (sc.sw k1 sf k5) k5
            | exact h9 k hk (no 3 (by omega) h120) h2 (sc.sw k1 sf k5) k5
            | (refine h1 k hk (agB_t.mpr (fun j hj => ?_)) h2 (sc.sw k1 sf k5) k5
               have cc : j = 0 ∨ j = 1 ∨ j = 2 ∨ j = 3 := by omega
               rcases cc with rfl | rfl | rfl | rfl
               · exact ((el 0 (by omega)).symm.trans h49.symm)
               · exact ((el 1 (by omega)).symm.trans h72.symm)
               · exact ((el 2 (by omega)).symm.trans h96.symm)
               · exact ((el 3 (by omega)).symm.trans h120.symm))
        · refine R_aload_n (pc := 99) dX11_agrees_99 rfl ?_
          refine R_getf (pc := 100) dX11_agrees_100 rfl (by repeat (first | assumption | exact up_s | refine up_n (by omega) ?_)) rfl ?_
          refine R_iconst (pc := 103) (x := (-1)) dX11_agrees_103 rfl ?_
          refine R_iconst (pc := 104) (x := nI 3) dX11_agrees_104 rfl ?_
          refine R_callV (pc := 105) dX11_agrees_105 rfl k11 rfl rfl ?_
          refine c6_sum k1 sf k4 k2 k3 (by omega) ?_
          refine R_aload_n (pc := 108) dX11_agrees_108 rfl ?_
          refine R_getf (pc := 109) dX11_agrees_109 rfl (by repeat (first | assumption | exact up_s | refine up_n (by omega) ?_)) rfl ?_
          refine R_getf (pc := 112) dX11_agrees_112 rfl (by repeat (first | assumption | exact up_s | refine up_n (by omega) ?_)) rfl ?_
          refine R_bipush (pc := 115) (x := nI 7) dX11_agrees_115 (by decide) ?_
          refine R_callV (pc := 117) dX11_agrees_117 rfl rp2 rfl rfl ?_
          refine c5_lastLine sa2.2.2.2.1 hR1 hk (by omega) ?_
          refine R_icmp_ne (pc := 120) (t := 127) dX11_agrees_120 (by decide) (fun h120 => ?_) (fun h120 => ?_)
          · refine R_iconst (pc := 127) (x := nI 0) dX11_agrees_127 rfl ?_
            refine R_istore_n (pc := 128) dX11_agrees_128 (Nat.le_of_ble_eq_true rfl) rfl ?_
            refine R_iload_n (pc := 129) dX11_agrees_129 rfl ?_
            refine R_if_eq (pc := 130) (t := 137) dX11_agrees_130 (by decide) (fun _ => ?_) (fun hz9 => absurd (by decide) hz9)
            refine R_iconst (pc := 137) (x := nI 0) dX11_agrees_137 rfl ?_
            refine R_iret (pc := 138) dX11_agrees_138 rfl ?_
            first
              | exact h0 e
              | exact h9 k hk (no 0 (by omega) h49) h2 (sc.sw k1 sf k5) k5
              | exact h9 k hk (no 1 (by omega) h72) h2 (sc.sw k1 sf k5) k5
              | exact h9 k hk (no 2 (by omega) h96) h2 (sc.sw k1 sf k5) k5
              | exact h9 k hk (no 3 (by omega) h120) h2 (sc.sw k1 sf k5) k5
              | (refine h1 k hk (agB_t.mpr (fun j hj => ?_)) h2 (sc.sw k1 sf k5) k5
                 have cc : j = 0 ∨ j = 1 ∨ j = 2 ∨ j = 3 := by omega
                 rcases cc with rfl | rfl | rfl | rfl
                 · exact ((el 0 (by omega)).symm.trans h49.symm)
                 · exact ((el 1 (by omega)).symm.trans h72.symm)
                 · exact ((el 2 (by omega)).symm.trans h96.symm)
                 · exact ((el 3 (by omega)).symm.trans h120.symm))
          · refine R_iconst (pc := 123) (x := nI 1) dX11_agrees_123 rfl ?_
            refine R_goto (pc := 124) (t := 128) dX11_agrees_124 (by decide) ?_
            refine R_istore_n (pc := 128) dX11_agrees_128 (Nat.le_of_ble_eq_true rfl) rfl ?_
            refine R_iload_n (pc := 129) dX11_agrees_129 rfl ?_
            refine R_if_eq (pc := 130) (t := 137) dX11_agrees_130 (by decide) (fun hz9 => absurd hz9 (by decide)) (fun _ => ?_)
            refine R_iconst (pc := 133) (x := nI 1) dX11_agrees_133 rfl ?_
            refine R_goto (pc := 134) (t := 138) dX11_agrees_134 (by decide) ?_
            refine R_iret (pc := 138) dX11_agrees_138 rfl ?_
            first
              | exact h0 e
              | exact h9 k hk (no 0 (by omega) h49) h2 (sc.sw k1 sf k5) k5
              | exact h9 k hk (no 1 (by omega) h72) h2 (sc.sw k1 sf k5) k5
              | exact h9 k hk (no 2 (by omega) h96) h2 (sc.sw k1 sf k5) k5
              | exact h9 k hk (no 3 (by omega) h120) h2 (sc.sw k1 sf k5) k5
              | (refine h1 k hk (agB_t.mpr (fun j hj => ?_)) h2 (sc.sw k1 sf k5) k5
                 have cc : j = 0 ∨ j = 1 ∨ j = 2 ∨ j = 3 := by omega
                 rcases cc with rfl | rfl | rfl | rfl
                 · exact ((el 0 (by omega)).symm.trans h49.symm)
                 · exact ((el 1 (by omega)).symm.trans h72.symm)
                 · exact ((el 2 (by omega)).symm.trans h96.symm)
                 · exact ((el 3 (by omega)).symm.trans h120.symm))
theorem c11_ranked {x B Y pm fl l : Nat} {PA IM T U : Nat → Int32} {fk fp : Int32} {P Wd : Nat → Nat} {n m : Nat} {pe : Nat → Nat} {K : Nat → CdX} {R : RpX} {se co : Nat → Int32} {a b : Int32} (r : RstI h z x B Y PA pm IM fl T l fk fp) (sa : StAt h (x + 1) P Wd n pe K R se co) (sr : StR U P Wd n pe K R se co) (sc : ScrI h x) (rep : RepOK U m) (hB : (a < 0 ∨ ∀ k, k < 4 → ¬ b = nI k) → Q (some (.int (-1000001))) (h, z)) (hG : ∀ k, ¬ a < 0 → k < 4 → b = nI k → ∀ h2 : Nat → Option am_C, ScrI h2 x → (∀ a, (a < x + 111 ∨ x + 155 ≤ a) → h2 a = h a) → Q (some (.int (rkL (U 1061) (fun k f => U (1104 + 5 * k + f)) m a k m 0))) (h2, z)) : Rn sA mX11_ranked 0 [some (.ref x), some (.int a), some (.int b), none] [] (h, z) Q := by
  have hx := r.2.1
  have sa1 := sa.1
  have hR1 := sr.2.2.2.1.2.1
  obtain ⟨re0, re1, re2, re3, re4⟩ := rep.rp sr.2.2.2.1
  have rp1 := sa.2.2.2.1.1
  obtain ⟨c0, qe, f0, V0, Z0, sw, sf⟩ := sc.2.2.1
  have sw1 := sw.1
  have hlim : R.2.2.1 = U 1061 := sr.2.2.2.1.2.2.2.2.1.symm
  refine R_iload_n (pc := 0) dX11_ranked_0 rfl ?_
  refine R_if_lt (pc := 1) (t := 13) dX11_ranked_1 (by decide) (fun h1 => ?_) (fun h1 => ?_)
  · refine R_ldc (pc := 13) (x := (-1000001)) dX11_ranked_13 rfl ?_
    refine R_iret (pc := 15) dX11_ranked_15 rfl ?_
    first
      | exact hB (Or.inl h1)
      | exact hB (Or.inr (fun k k9 => e k (Nat.zero_le _) (by omega)))
      | (have q := hG y h1 (by omega) rfl h2 (sc.sw k1 sf k5) k5
         obtain ⟨la4, o1, o2⟩ := srt_ex (lim := U 1061) k2 (fun k hk y hy => rep.2.2.1 k hk y (by omega))
         rw [rkL_out o1 o2 (fun j hj e => h38 (by rw [e]; exact nI_lt hj (by omega)))] at q
         exact q)
      | (have q := hG _ h1 (by omega) rfl h3 (sc.sw l1 l2 fr3) fr3
         rw [ri] at q
         first
           | (rw [v1 0 (by omega)]; exact q)
           | (rw [v1 1 (by omega)]; exact q)
           | (rw [v1 2 (by omega)]; exact q)
           | (rw [show V3 j 6 = _ from v2 2 (by omega)]; exact q))
  · refine R_iload_n (pc := 4) dX11_ranked_4 rfl ?_
    refine R_iconst (pc := 5) (x := nI 0) dX11_ranked_5 rfl ?_
    refine R_iconst (pc := 6) (x := nI 3) dX11_ranked_6 rfl ?_
    refine R_callS (pc := 7) dX11_ranked_7 rfl (Or.inl rfl) rfl rfl ?_
    refine c_inG (a := 0) (b := 3) rfl rfl (by omega) (by omega) (fun y _ y9 e => ?_) (fun e => ?_)
    · subst e
      refine R_if_ne (pc := 10) (t := 16) dX11_ranked_10 (by decide) (fun _ => ?_) (fun hz9 => absurd hz9 (by decide))
      refine R_aload_n (pc := 16) dX11_ranked_16 rfl ?_
      refine R_getf (pc := 17) dX11_ranked_17 rfl (by repeat (first | assumption | exact up_s | refine up_n (by omega) ?_)) rfl ?_
      refine R_aload_n (pc := 20) dX11_ranked_20 rfl ?_
      refine R_getf (pc := 21) dX11_ranked_21 rfl (by repeat (first | assumption | exact up_s | refine up_n (by omega) ?_)) rfl ?_
      refine R_getf (pc := 24) dX11_ranked_24 rfl (by repeat (first | assumption | exact up_s | refine up_n (by omega) ?_)) rfl ?_
      refine R_callV (pc := 27) dX11_ranked_27 rfl sw1 rfl rfl ?_
      refine c6_reckon (acc := (fun k f => U (1104 + 5 * k + f))) (lim := U 1061) sw sf sa.2.2.2.1 hlim hR1 (by omega) re3 (by rw [re2]; exact rep.2.1) (by rw [re2]; exact fun k hk y hy => rep.2.2.1 k hk y (by omega)) (fun h2 c2 la V2 Z2 k1 k2 k3 k4 k5 => ?_)
      rw [re2] at k2
      have hx2 := (k5 x (by omega)).trans hx
      have k11 := k1.1
      have sa2 : StAt h2 (x + 1) P Wd n pe K R se co := sa.fr (fun y y1 y2 => k5 y (by omega))
      have sa21 := sa2.1
      have rp2 := sa2.2.2.2.1.1
      refine R_iload_n (pc := 30) dX11_ranked_30 rfl ?_
      refine R_aload_n (pc := 31) dX11_ranked_31 rfl ?_
      refine R_getf (pc := 32) dX11_ranked_32 rfl (by repeat (first | assumption | exact up_s | refine up_n (by omega) ?_)) rfl ?_
      refine R_callV (pc := 35) dX11_ranked_35 rfl k11 rfl rfl ?_
      refine c6_size k1 ?_
      refine R_icmp_lt (pc := 38) (t := 44) dX11_ranked_38 (by decide) (fun h38 => ?_) (fun h38 => ?_)
      · obtain ⟨j, hj, ej⟩ : ∃ j, j < c2 ∧ a = nI j := by
          rcases pk_ix a (n := c2) (by omega) with q | q | q
          · exact absurd q h1
          · exact absurd h38 (Int32.not_lt.mpr q)
          · exact q
        subst ej
        refine R_aload_n (pc := 44) dX11_ranked_44 rfl ?_
        refine R_getf (pc := 45) dX11_ranked_45 rfl (by repeat (first | assumption | exact up_s | refine up_n (by omega) ?_)) rfl ?_
        refine R_callV (pc := 48) dX11_ranked_48 rfl k11 rfl rfl ?_
        refine c6_rank k1 sf k2 k3 k4 (fun k hk y hy => rep.2.2.1 k hk y (by omega)) (fun h3 qe3 f3 V3 la3 l1 l2 l3 l4 l5 l6 => ?_)
        have hx3 := (l6 x (by omega)).trans hx2
        have l11 := l1.1
        have fr3 : (∀ a, (a < x + 111 ∨ x + 155 ≤ a) → h3 a = h a) := fun y hy => (l6 y hy).trans (k5 y hy)
        refine R_aload_n (pc := 51) dX11_ranked_51 rfl ?_
        refine R_getf (pc := 52) dX11_ranked_52 rfl (by repeat (first | assumption | exact up_s | refine up_n (by omega) ?_)) rfl ?_
        refine R_iload_n (pc := 55) dX11_ranked_55 rfl ?_
        refine R_callV (pc := 56) dX11_ranked_56 rfl l11 rfl rfl ?_
        refine c6_at l1 (by omega) (l2 j (by omega)) ?_
        obtain ⟨v1, v2⟩ := l4 j hj
        have ri := rkL_in (what := y) l3 l5 k4 hj
        have tt := l1.2.2.1 j (by omega)
        unfold TtAt at tt
        refine R_astore_n (pc := 59) dX11_ranked_59 (Nat.le_of_ble_eq_true rfl) rfl ?_
        refine R_iload_n (pc := 60) dX11_ranked_60 rfl ?_
        rcases (by omega : y = 0 ∨ y = 1 ∨ y = 2 ∨ y = 3) with rfl | rfl | rfl | rfl
        · refine R_tswI (pc := 61) (off := 27) (t := 88) dX11_ranked_61 (by decide) (by decide) (by decide) ?_
          refine R_aload_n (pc := 88) dX11_ranked_88 rfl ?_
          refine R_getf (pc := 89) dX11_ranked_89 rfl (by repeat (first | assumption | exact up_s | refine up_n (by omega) ?_)) rfl ?_
          refine R_iret (pc := 92) dX11_ranked_92 rfl ?_
          first
            | exact hB (Or.inl h1)
            | exact hB (Or.inr (fun k k9 => e k (Nat.zero_le _) (by omega)))
            | (have q := hG y h1 (by omega) rfl h2 (sc.sw k1 sf k5) k5
               obtain ⟨la4, o1, o2⟩ := srt_ex (lim := U 1061) k2 (fun k hk y hy => rep.2.2.1 k hk y (by omega))
               rw [rkL_out o1 o2 (fun j hj e => h38 (by rw [e]; exact nI_lt hj (by omega)))] at q
               exact q)
            | (have q := hG _ h1 (by omega) rfl h3 (sc.sw l1 l2 fr3) fr3
               rw [ri] at q
               first
                 | (rw [v1 0 (by omega)]; exact q)
                 | (rw [v1 1 (by omega)]; exact q)
                 | (rw [v1 2 (by omega)]; exact q)
                 | (rw [show V3 j 6 = _ from v2 2 (by omega)]; exact q))
        · refine R_tswI (pc := 61) (off := 32) (t := 93) dX11_ranked_61 (by decide) (by decide) (by decide) ?_
          refine R_aload_n (pc := 93) dX11_ranked_93 rfl ?_
          refine R_getf (pc := 94) dX11_ranked_94 rfl (by repeat (first | assumption | exact up_s | refine up_n (by omega) ?_)) rfl ?_
          refine R_iret (pc := 97) dX11_ranked_97 rfl ?_
          first
            | exact hB (Or.inl h1)
            | exact hB (Or.inr (fun k k9 => e k (Nat.zero_le _) (by omega)))
            | (have q := hG y h1 (by omega) rfl h2 (sc.sw k1 sf k5) k5
               obtain ⟨la4, o1, o2⟩ := srt_ex (lim := U 1061) k2 (fun k hk y hy => rep.2.2.1 k hk y (by omega))
               rw [rkL_out o1 o2 (fun j hj e => h38 (by rw [e]; exact nI_lt hj (by omega)))] at q
               exact q)
            | (have q := hG _ h1 (by omega) rfl h3 (sc.sw l1 l2 fr3) fr3
               rw [ri] at q
               first
                 | (rw [v1 0 (by omega)]; exact q)
                 | (rw [v1 1 (by omega)]; exact q)
                 | (rw [v1 2 (by omega)]; exact q)
                 | (rw [show V3 j 6 = _ from v2 2 (by omega)]; exact q))
        · refine R_tswI (pc := 61) (off := 37) (t := 98) dX11_ranked_61 (by decide) (by decide) (by decide) ?_
          refine R_aload_n (pc := 98) dX11_ranked_98 rfl ?_
          refine R_getf (pc := 99) dX11_ranked_99 rfl (by repeat (first | assumption | exact up_s | refine up_n (by omega) ?_)) rfl ?_
          refine R_iret (pc := 102) dX11_ranked_102 rfl ?_
          first
            | exact hB (Or.inl h1)
            | exact hB (Or.inr (fun k k9 => e k (Nat.zero_le _) (by omega)))
            | (have q := hG y h1 (by omega) rfl h2 (sc.sw k1 sf k5) k5
               obtain ⟨la4, o1, o2⟩ := srt_ex (lim := U 1061) k2 (fun k hk y hy => rep.2.2.1 k hk y (by omega))
               rw [rkL_out o1 o2 (fun j hj e => h38 (by rw [e]; exact nI_lt hj (by omega)))] at q
               exact q)
            | (have q := hG _ h1 (by omega) rfl h3 (sc.sw l1 l2 fr3) fr3
               rw [ri] at q
               first
                 | (rw [v1 0 (by omega)]; exact q)
                 | (rw [v1 1 (by omega)]; exact q)
                 | (rw [v1 2 (by omega)]; exact q)
                 | (rw [show V3 j 6 = _ from v2 2 (by omega)]; exact q))
        · refine R_tswO (pc := 61) (t := 103) dX11_ranked_61 (by decide) (by decide) ?_
          refine R_aload_n (pc := 103) dX11_ranked_103 rfl ?_
          refine R_getf (pc := 104) dX11_ranked_104 rfl (by repeat (first | assumption | exact up_s | refine up_n (by omega) ?_)) rfl ?_
          refine R_iret (pc := 107) dX11_ranked_107 rfl ?_
          first
            | exact hB (Or.inl h1)
            | exact hB (Or.inr (fun k k9 => e k (Nat.zero_le _) (by omega)))
            | (have q := hG y h1 (by omega) rfl h2 (sc.sw k1 sf k5) k5
               obtain ⟨la4, o1, o2⟩ := srt_ex (lim := U 1061) k2 (fun k hk y hy => rep.2.2.1 k hk y (by omega))
               rw [rkL_out o1 o2 (fun j hj e => h38 (by rw [e]; exact nI_lt hj (by omega)))] at q
               exact q)
            | (have q := hG _ h1 (by omega) rfl h3 (sc.sw l1 l2 fr3) fr3
               rw [ri] at q
               first
                 | (rw [v1 0 (by omega)]; exact q)
                 | (rw [v1 1 (by omega)]; exact q)
                 | (rw [v1 2 (by omega)]; exact q)
                 | (rw [show V3 j 6 = _ from v2 2 (by omega)]; exact q))
      · refine R_ldc (pc := 41) (x := (-1000009)) dX11_ranked_41 rfl ?_
        refine R_iret (pc := 43) dX11_ranked_43 rfl ?_
        first
          | exact hB (Or.inl h1)
          | exact hB (Or.inr (fun k k9 => e k (Nat.zero_le _) (by omega)))
          | (have q := hG y h1 (by omega) rfl h2 (sc.sw k1 sf k5) k5
             obtain ⟨la4, o1, o2⟩ := srt_ex (lim := U 1061) k2 (fun k hk y hy => rep.2.2.1 k hk y (by omega))
             rw [rkL_out o1 o2 (fun j hj e => h38 (by rw [e]; exact nI_lt hj (by omega)))] at q
             exact q)
          | (have q := hG _ h1 (by omega) rfl h3 (sc.sw l1 l2 fr3) fr3
             rw [ri] at q
             first
               | (rw [v1 0 (by omega)]; exact q)
               | (rw [v1 1 (by omega)]; exact q)
               | (rw [v1 2 (by omega)]; exact q)
               | (rw [show V3 j 6 = _ from v2 2 (by omega)]; exact q))
    · refine R_if_ne (pc := 10) (t := 16) dX11_ranked_10 (by decide) (fun hz9 => absurd hz9 (by decide)) (fun _ => ?_)
      refine R_ldc (pc := 13) (x := (-1000001)) dX11_ranked_13 rfl ?_
      refine R_iret (pc := 15) dX11_ranked_15 rfl ?_
      first
        | exact hB (Or.inl h1)
        | exact hB (Or.inr (fun k k9 => e k (Nat.zero_le _) (by omega)))
        | (have q := hG y h1 (by omega) rfl h2 (sc.sw k1 sf k5) k5
           obtain ⟨la4, o1, o2⟩ := srt_ex (lim := U 1061) k2 (fun k hk y hy => rep.2.2.1 k hk y (by omega))
           rw [rkL_out o1 o2 (fun j hj e => h38 (by rw [e]; exact nI_lt hj (by omega)))] at q
           exact q)
        | (have q := hG _ h1 (by omega) rfl h3 (sc.sw l1 l2 fr3) fr3
           rw [ri] at q
           first
             | (rw [v1 0 (by omega)]; exact q)
             | (rw [v1 1 (by omega)]; exact q)
             | (rw [v1 2 (by omega)]; exact q)
             | (rw [show V3 j 6 = _ from v2 2 (by omega)]; exact q))
theorem c11_mean {x B Y pm fl l : Nat} {PA IM T U : Nat → Int32} {fk fp : Int32} {P Wd : Nat → Nat} {n m : Nat} {pe : Nat → Nat} {K : Nat → CdX} {R : RpX} {se co : Nat → Int32} (r : RstI h z x B Y PA pm IM fl T l fk fp) (sa : StAt h (x + 1) P Wd n pe K R se co) (sr : StR U P Wd n pe K R se co) (sc : ScrI h x) (rep : RepOK U m) (hv : ∀ k, R.1 = k + 1 → ¬ U (1305 + 9 * k + 4 + 1) = 0 → vf_n32 (meanV (U (1305 + 9 * k + 4 + 2)) (U (1305 + 9 * k + 4 + 1)))) (hpos : ∀ k, R.1 = k + 1 → ¬ U (1305 + 9 * k + 4 + 1) = 0 → ¬ U (1305 + 9 * k + 4 + 1) ≤ 0) (h0 : R.1 = 0 → Q (some (.float FP.fconst0)) (h, z)) (h1 : ∀ k, R.1 = k + 1 → Q (some (.float (if U (1305 + 9 * k + 4 + 1) = 0 then FP.fconst0 else meanV (U (1305 + 9 * k + 4 + 2)) (U (1305 + 9 * k + 4 + 1))))) (h, z)) : Rn sA mX11_mean 0 [some (.ref x), none] [] (h, z) Q := by
  have hx := r.2.1
  have sa1 := sa.1
  have hR1 := sr.2.2.2.1.2.1
  obtain ⟨re0, re1, re2, re3, re4⟩ := rep.rp sr.2.2.2.1
  have rp1 := sa.2.2.2.1.1
  obtain ⟨c0, qe, f0, V0, Z0, sw, sf⟩ := sc.2.2.1
  have sw1 := sw.1
  have hlim : R.2.2.1 = U 1061 := sr.2.2.2.1.2.2.2.2.1.symm
  by_cases e : R.1 = 0
  · refine R_aload_n (pc := 0) dX11_mean_0 rfl ?_
    refine R_getf (pc := 1) dX11_mean_1 rfl (by repeat (first | assumption | exact up_s | refine up_n (by omega) ?_)) rfl ?_
    refine R_getf (pc := 4) dX11_mean_4 rfl (by repeat (first | assumption | exact up_s | refine up_n (by omega) ?_)) rfl ?_
    refine R_iconst (pc := 7) (x := nI 5) dX11_mean_7 rfl ?_
    refine R_callV (pc := 8) dX11_mean_8 rfl rp1 rfl rfl ?_
    refine c5_lastLine0 sa.2.2.2.1 e ?_
    refine R_istore_n (pc := 11) dX11_mean_11 (Nat.le_of_ble_eq_true rfl) rfl ?_
    refine R_iload_n (pc := 12) dX11_mean_12 rfl ?_
    refine R_if_gt (pc := 13) (t := 18) dX11_mean_13 (by decide) (fun hz9 => absurd hz9 (by decide)) (fun _ => ?_)
    refine R_fconst0 (pc := 16) dX11_mean_16 ?_
    refine R_fret (pc := 17) dX11_mean_17 rfl ?_
    exact h0 e
  · obtain ⟨k, hk⟩ : ∃ k, R.1 = k + 1 := ⟨R.1 - 1, by omega⟩
    have e5 : R.2.2.2.1 (k * 10 + 5) = U (1305 + 9 * k + 4 + 1) := sr.2.2.2.1.2.2.2.2.2.1 k (by omega) 5 (by omega)
    have e6 : R.2.2.2.1 (k * 10 + 6) = U (1305 + 9 * k + 4 + 2) := sr.2.2.2.1.2.2.2.2.2.1 k (by omega) 6 (by omega)
    have h1 := h1 k hk
    by_cases z0 : U (1305 + 9 * k + 4 + 1) = 0
    · rw [if_pos z0] at h1
      refine R_aload_n (pc := 0) dX11_mean_0 rfl ?_
      refine R_getf (pc := 1) dX11_mean_1 rfl (by repeat (first | assumption | exact up_s | refine up_n (by omega) ?_)) rfl ?_
      refine R_getf (pc := 4) dX11_mean_4 rfl (by repeat (first | assumption | exact up_s | refine up_n (by omega) ?_)) rfl ?_
      refine R_iconst (pc := 7) (x := nI 5) dX11_mean_7 rfl ?_
      refine R_callV (pc := 8) dX11_mean_8 rfl rp1 rfl rfl ?_
      refine c5_lastLine sa.2.2.2.1 hR1 hk (by omega) ?_
      rw [e5, z0]
      refine R_istore_n (pc := 11) dX11_mean_11 (Nat.le_of_ble_eq_true rfl) rfl ?_
      refine R_iload_n (pc := 12) dX11_mean_12 rfl ?_
      refine R_if_gt (pc := 13) (t := 18) dX11_mean_13 (by decide) (fun hz9 => absurd hz9 (by decide)) (fun _ => ?_)
      refine R_fconst0 (pc := 16) dX11_mean_16 ?_
      refine R_fret (pc := 17) dX11_mean_17 rfl ?_
      exact h1
    · rw [if_neg z0] at h1
      refine R_aload_n (pc := 0) dX11_mean_0 rfl ?_
      refine R_getf (pc := 1) dX11_mean_1 rfl (by repeat (first | assumption | exact up_s | refine up_n (by omega) ?_)) rfl ?_
      refine R_getf (pc := 4) dX11_mean_4 rfl (by repeat (first | assumption | exact up_s | refine up_n (by omega) ?_)) rfl ?_
      refine R_iconst (pc := 7) (x := nI 5) dX11_mean_7 rfl ?_
      refine R_callV (pc := 8) dX11_mean_8 rfl rp1 rfl rfl ?_
      refine c5_lastLine sa.2.2.2.1 hR1 hk (by omega) ?_
      rw [e5]
      refine R_istore_n (pc := 11) dX11_mean_11 (Nat.le_of_ble_eq_true rfl) rfl ?_
      refine R_iload_n (pc := 12) dX11_mean_12 rfl ?_
      refine R_if_gt (pc := 13) (t := 18) dX11_mean_13 (by decide) (fun _ => ?_) (fun hz9 => absurd (Decidable.byContradiction (fun q => hpos k hk z0 (Int32.not_lt.mp q))) hz9)
      refine R_ldc2 (pc := 18) (x := (10)) dX11_mean_18 rfl ?_
      refine R_aload_n (pc := 21) dX11_mean_21 rfl ?_
      refine R_getf (pc := 22) dX11_mean_22 rfl (by repeat (first | assumption | exact up_s | refine up_n (by omega) ?_)) rfl ?_
      refine R_getf (pc := 25) dX11_mean_25 rfl (by repeat (first | assumption | exact up_s | refine up_n (by omega) ?_)) rfl ?_
      refine R_bipush (pc := 28) (x := nI 6) dX11_mean_28 (by decide) ?_
      refine R_callV (pc := 30) dX11_mean_30 rfl rp1 rfl rfl ?_
      refine c5_lastLine sa.2.2.2.1 hR1 hk (by omega) ?_
      rw [e6]
      refine R_i2l (pc := 33) dX11_mean_33 ?_
      refine R_lmul (pc := 34) dX11_mean_34 ?_
      refine R_l2f (pc := 35) dX11_mean_35 ?_
      refine R_iload_n (pc := 36) dX11_mean_36 rfl ?_
      refine R_i2f (pc := 37) dX11_mean_37 ?_
      refine R_fdiv (pc := 38) dX11_mean_38 (hv k hk z0) ?_
      refine R_fret (pc := 39) dX11_mean_39 rfl ?_
      exact h1
end CF3
