/-! onion: an item, the class -/
abbrev oi_S : Type := (Nat × Nat) ⊕ (Nat × Nat × Nat)
def oi_2 (b : Nat → Nat) (n p L v p1 : Nat) : oi_S := if v = 0 then .inl (3, p) else if p1 < n ∧ b p1 = 120 then (match tp_d b n (p1 + 1) with | none => .inl (1, p1 + 1) | some t => if t < 2 then .inl (1, p1 + 1) else if 12 < L + t then .inl (6, p) else .inr (v, t, p1 + 2)) else if 12 < L + 1 then .inl (6, p) else .inr (v, 1, p1)
def oi_1 (b : Nat → Nat) (n p L : Nat) : oi_S := match tp_d b n p with | none => .inl (1, p) | some a => (match tp_d b n (p + 1) with | none => oi_2 b n p L a (p + 1) | some c => oi_2 b n p L (10 * a + c) (p + 2))
/-- what an item leaves alone -/
def oi_fr (I W : Nat → Nat → Int32) : Prop := (∀ a, a ≠ 1 → a ≠ 154 → a ≠ 155 → W a = I a) ∧ (∀ j, j ≠ 3 → j ≠ 4 → W 1 j = I 1 j) ∧ ∀ j, j ≠ 1 → W 154 j = I 154 j
theorem oi_frr (I : Nat → Nat → Int32) : oi_fr I I := ⟨fun _ _ _ _ => rfl, fun _ _ _ => rfl, fun _ _ => rfl⟩
theorem oi_frt {I W V : Nat → Nat → Int32} (h1 : oi_fr I W) (h2 : oi_fr W V) : oi_fr I V := ⟨fun a q1 q2 q3 => (h2.1 a q1 q2 q3).trans (h1.1 a q1 q2 q3), fun j q1 q2 => (h2.2.1 j q1 q2).trans (h1.2.1 j q1 q2), fun j q => (h2.2.2 j q).trans (h1.2.2 j q)⟩
theorem oi_fr3 (I : Nat → Nat → Int32) (x : Int32) : oi_fr I (xv_u2 I 1 3 x) := ⟨fun a q1 _ _ => xu_ne q1, fun j q _ => xu_ne2 (fun g => q g.2), fun _ _ => by rw [xu_ne (by omega)]⟩
theorem oi_fr4 (I : Nat → Nat → Int32) (x : Int32) : oi_fr I (xv_u2 I 1 4 x) := ⟨fun a q1 _ _ => xu_ne q1, fun j _ q => xu_ne2 (fun g => q g.2), fun _ _ => by rw [xu_ne (by omega)]⟩
theorem xq_times_x (ro : xv_Ro) (d : Nat) (z : Nat × Nat) (I : Nat → Nat → Int32) (J : Nat → Nat → Int64) (h : (I 1 4 = 0) = False) : xv_evm ro (d + 2) 273 [.ref 1] (z, xv_mk I J) = some (some (.int 1), (z, xv_mk I J)) := by
  have ht := xq_take_x ro d z I J (c := 120) h (by omega)
  rw [show nI 120 = (120 : Int32) from rfl] at ht
  rw [xe_Witness_times]
  simp only [xr_all, xf_all, if_true, if_false, true_or, or_true, eq_self, ite_not, Bool.false_eq_true, ite_self, and_self, true_and, and_true, false_and, and_false, not_true_eq_false, not_false_eq_true, xj_Witness_times, xb_Witness_times_0, xb_Witness_times_11, xb_Witness_times_32, ht]
theorem xq_times_1 (ro : xv_Ro) (d : Nat) (z : Nat × Nat) (I : Nat → Nat → Int32) (J : Nat → Nat → Int64) {b : Nat → Nat} {n p : Nat} (h : tp_C b n p I) (hx : ¬ (p < n ∧ b p = 120)) : xv_evm ro (d + 2) 273 [.ref 1] (z, xv_mk I J) = some (some (.int 1), (z, xv_mk I J)) := by
  have ht := xq_take ro d z I J (c := 120) h (by omega)
  rw [if_neg hx, show nI 120 = (120 : Int32) from rfl] at ht
  rw [xe_Witness_times]
  simp only [xr_all, xf_all, if_true, if_false, true_or, or_true, eq_self, ite_not, Bool.false_eq_true, ite_self, and_self, true_and, and_true, false_and, and_false, not_true_eq_false, not_false_eq_true, xj_Witness_times, xb_Witness_times_0, xb_Witness_times_11, xb_Witness_times_32, ht]
theorem xq_times_n (ro : xv_Ro) (d : Nat) (z : Nat × Nat) (I : Nat → Nat → Int32) (J : Nat → Nat → Int64) {b : Nat → Nat} {n p : Nat} (h : tp_C b n p I) (hx : p < n ∧ b p = 120) (hd : tp_d b n (p + 1) = none) : xv_evm ro (d + 2) 273 [.ref 1] (z, xv_mk I J) = some (some (.int (-1)), (z, xv_mk (xv_u2 (xv_u2 I 1 3 (nI (p + 1))) 1 4 (-1000 * 1 - nI (p + 1))) J)) := by
  have ht := xq_take ro d z I J (c := 120) h (by omega)
  rw [if_pos hx, show nI 120 = (120 : Int32) from rfl] at ht
  have h1 := tp_Cs h hx.1
  have hdg := xq_digit ro d z _ J h1
  rw [hd] at hdg
  dsimp only at hdg
  have hpl := xq_Tape_place ro (d + 1) z (xv_u2 I 1 3 (nI (p + 1))) J
  rw [xu_eq] at hpl
  have hre := xq_refuse ro (d + 1) z (xv_u2 I 1 3 (nI (p + 1))) J 1 (nI (p + 1)) h1.2.2.2.2.1
  have z1 : ((1 : Int32) = 0) = False := eq_false (by decide)
  have z2 : (2 ≤ (-1 : Int32)) = False := eq_false (by decide)
  have z3 : ((-1 : Int32) < 2) = True := eq_true (by decide)
  rw [xe_Witness_times]
  simp only [xr_all, xf_all, if_true, if_false, true_or, or_true, eq_self, ite_not, Bool.false_eq_true, ite_self, and_self, true_and, and_true, false_and, and_false, not_true_eq_false, not_false_eq_true, xj_Witness_times, xb_Witness_times_0, xb_Witness_times_11, xb_Witness_times_32, ht, z1, hpl, hdg, z2, z3, hre]
theorem xq_times_s (ro : xv_Ro) (d : Nat) (z : Nat × Nat) (I : Nat → Nat → Int32) (J : Nat → Nat → Int64) {b : Nat → Nat} {n p t : Nat} (h : tp_C b n p I) (hx : p < n ∧ b p = 120) (hd : tp_d b n (p + 1) = some t) : xv_evm ro (d + 2) 273 [.ref 1] (z, xv_mk I J) = some (some (.int (nI t)), (z, xv_mk (if t < 2 then xv_u2 (xv_u2 (xv_u2 I 1 3 (nI (p + 1))) 1 3 (nI (p + 1 + 1))) 1 4 (-1000 * 1 - nI (p + 1)) else xv_u2 (xv_u2 I 1 3 (nI (p + 1))) 1 3 (nI (p + 1 + 1))) J)) := by
  have ht := xq_take ro d z I J (c := 120) h (by omega)
  rw [if_pos hx, show nI 120 = (120 : Int32) from rfl] at ht
  have h1 := tp_Cs h hx.1
  have hdg := xq_digit ro d z _ J h1
  rw [hd] at hdg
  dsimp only at hdg
  obtain ⟨d1, d2, d3⟩ := tp_d_s hd
  have h2 := tp_Cs h1 d1
  have hpl := xq_Tape_place ro (d + 1) z (xv_u2 I 1 3 (nI (p + 1))) J
  rw [xu_eq] at hpl
  have hre := xq_refuse ro (d + 1) z (xv_u2 (xv_u2 I 1 3 (nI (p + 1))) 1 3 (nI (p + 1 + 1))) J 1 (nI (p + 1)) h2.2.2.2.2.1
  have z1 : ((1 : Int32) = 0) = False := eq_false (by decide)
  rw [xe_Witness_times]
  by_cases c : t < 2
  · rw [if_pos c]
    have z2 : (2 ≤ nI t) = False := by (simp (disch := omega) only [vz_all, if_true, if_false, true_or, or_true, eq_self, ite_not, Bool.false_eq_true, ite_self, and_self, true_and, and_true, false_and, and_false, not_true_eq_false, not_false_eq_true, false_or, or_false])
    have z3 : (nI t < 2) = True := by (simp (disch := omega) only [vz_all, if_true, if_false, true_or, or_true, eq_self, ite_not, Bool.false_eq_true, ite_self, and_self, true_and, and_true, false_and, and_false, not_true_eq_false, not_false_eq_true, false_or, or_false])
    simp only [xr_all, xf_all, if_true, if_false, true_or, or_true, eq_self, ite_not, Bool.false_eq_true, ite_self, and_self, true_and, and_true, false_and, and_false, not_true_eq_false, not_false_eq_true, xj_Witness_times, xb_Witness_times_0, xb_Witness_times_11, xb_Witness_times_32, ht, z1, hpl, hdg, z2, z3, hre]
  · rw [if_neg c]
    have z2 : (2 ≤ nI t) = True := by (simp (disch := omega) only [vz_all, if_true, if_false, true_or, or_true, eq_self, ite_not, Bool.false_eq_true, ite_self, and_self, true_and, and_true, false_and, and_false, not_true_eq_false, not_false_eq_true, false_or, or_false])
    have z3 : (nI t < 2) = False := by (simp (disch := omega) only [vz_all, if_true, if_false, true_or, or_true, eq_self, ite_not, Bool.false_eq_true, ite_self, and_self, true_and, and_true, false_and, and_false, not_true_eq_false, not_false_eq_true, false_or, or_false])
    simp only [xr_all, xf_all, if_true, if_false, true_or, or_true, eq_self, ite_not, Bool.false_eq_true, ite_self, and_self, true_and, and_true, false_and, and_false, not_true_eq_false, not_false_eq_true, xj_Witness_times, xb_Witness_times_0, xb_Witness_times_11, xb_Witness_times_32, ht, z1, hpl, hdg, z2, z3]
/-- the layers' row is filled, as far as there is room -/
theorem xl_item77 (ro : xv_Ro) (d : Nat) (z : Nat × Nat) (J : Nat → Nat → Int64) (x2 x3 x4 : Int32) {t : Nat} (ht : t ≤ 9) : ∀ (k i L : Nat) (I : Nat → Nat → Int32), i + k = t → L ≤ 12 → I 154 1 = nI L → ∃ W : Nat → Nat → Int32, xv_ev ro d xm_Witness_item xb_Witness_item_77 [some (.ref 154), some (.ref 1), some (.int x2), some (.int x3), some (.int x4), some (.int (nI t)), some (.int (nI i))] [] (z, xv_mk I J) = some (none, (z, xv_mk W J)) ∧ (∀ a, a ≠ 154 → a ≠ 155 → W a = I a) ∧ (∀ j, j ≠ 1 → W 154 j = I 154 j) ∧ (∃ L' : Nat, L' ≤ 12 ∧ W 154 1 = nI L') ∧ (L + k ≤ 12 → W 154 1 = nI (L + k) ∧ (∀ j, j < L → W 155 j = I 155 j) ∧ ∀ j, L ≤ j → j < L + k → W 155 j = x3) := by
  have hw : vW 154 := ⟨rfl, rfl⟩
  intro k
  induction k with
  | zero =>
    intro i L I hi hL h1
    have g1 : (nI t ≤ nI i) = True := by (simp (disch := omega) only [vz_all, if_true, if_false, true_or, or_true, eq_self, ite_not, Bool.false_eq_true, ite_self, and_self, true_and, and_true, false_and, and_false, not_true_eq_false, not_false_eq_true, false_or, or_false])
    refine ⟨I, ?_, fun _ _ _ => rfl, fun _ _ => rfl, ⟨L, hL, h1⟩, fun _ => ⟨h1, fun _ _ => rfl, fun j q1 q2 => by omega⟩⟩
    conv => lhs; unfold xb_Witness_item_77
    simp only [xr_all, xf_all, if_true, if_false, true_or, or_true, eq_self, ite_not, Bool.false_eq_true, ite_self, and_self, true_and, and_true, false_and, and_false, not_true_eq_false, not_false_eq_true, xj_Witness_item, xb_Witness_item_0, xb_Witness_item_20, xb_Witness_item_39, xb_Witness_item_49, xb_Witness_item_74, xb_Witness_item_126, g1]
  | succ k ih =>
    intro i L I hi hL h1
    have g1 : (nI t ≤ nI i) = False := by (simp (disch := omega) only [vz_all, if_true, if_false, true_or, or_true, eq_self, ite_not, Bool.false_eq_true, ite_self, and_self, true_and, and_true, false_and, and_false, not_true_eq_false, not_false_eq_true, false_or, or_false])
    have g0 : (nI L < 0) = False := by (simp (disch := omega) only [vz_all, if_true, if_false, true_or, or_true, eq_self, ite_not, Bool.false_eq_true, ite_self, and_self, true_and, and_true, false_and, and_false, not_true_eq_false, not_false_eq_true, false_or, or_false])
    by_cases c : L < 12
    · have g2 : (12 ≤ nI L) = False := by (simp (disch := omega) only [vz_all, if_true, if_false, true_or, or_true, eq_self, ite_not, Bool.false_eq_true, ite_self, and_self, true_and, and_true, false_and, and_false, not_true_eq_false, not_false_eq_true, false_or, or_false])
      have g3 : xv_inB (nI L) 12 = true := by (simp (disch := omega) only [vz_all, if_true, if_false, true_or, or_true, eq_self, ite_not, Bool.false_eq_true, ite_self, and_self, true_and, and_true, false_and, and_false, not_true_eq_false, not_false_eq_true, false_or, or_false])
      have cc := nI_clamp (show L < 2 ^ 31 by omega)
      have h1' : xv_u2 I 155 L x3 154 1 = nI L := by rw [xu_ne (by omega)]; exact h1
      obtain ⟨W, a1, a2, a3, a4, a5⟩ := ih (i + 1) (L + 1) (xv_u2 (xv_u2 I 155 L x3) 154 1 (nI (L + 1))) (by omega) (by omega) xu_eq
      refine ⟨W, ?_, fun a q1 q2 => by rw [a2 a q1 q2, xu_ne q1, xu_ne q2], fun j hj => by rw [a3 j hj, xu_ne2 (by omega), xu_ne (by omega)], a4, fun hk => ?_⟩
      · rw [← a1]
        conv => lhs; unfold xb_Witness_item_77
        simp only [xr_all, xf_all, if_true, if_false, true_or, or_true, eq_self, ite_not, Bool.false_eq_true, ite_self, and_self, true_and, and_true, false_and, and_false, not_true_eq_false, not_false_eq_true, xj_Witness_item, xb_Witness_item_0, xb_Witness_item_20, xb_Witness_item_39, xb_Witness_item_49, xb_Witness_item_74, xb_Witness_item_126, vW_f hw, g1, h1, g0, g2, g3, cc, h1', nI_1]
      · obtain ⟨b1, b2, b3⟩ := a5 (by omega)
        refine ⟨by rw [b1]; congr 1; omega, fun j hj => by rw [b2 j (by omega), xu_ne (by omega), xu_ne2 (by omega)], fun j q1 q2 => ?_⟩
        by_cases e : j = L
        · rw [b2 j (by omega), xu_ne (by omega), e, xu_eq]
        · exact b3 j (by omega) (by omega)
    · have g2 : (12 ≤ nI L) = True := by (simp (disch := omega) only [vz_all, if_true, if_false, true_or, or_true, eq_self, ite_not, Bool.false_eq_true, ite_self, and_self, true_and, and_true, false_and, and_false, not_true_eq_false, not_false_eq_true, false_or, or_false])
      refine ⟨I, ?_, fun _ _ _ => rfl, fun _ _ => rfl, ⟨L, hL, h1⟩, fun hk => by omega⟩
      conv => lhs; unfold xb_Witness_item_77
      simp only [xr_all, xf_all, if_true, if_false, true_or, or_true, eq_self, ite_not, Bool.false_eq_true, ite_self, and_self, true_and, and_true, false_and, and_false, not_true_eq_false, not_false_eq_true, xj_Witness_item, xb_Witness_item_0, xb_Witness_item_20, xb_Witness_item_39, xb_Witness_item_49, xb_Witness_item_74, xb_Witness_item_126, vW_f hw, g1, h1, g0, g2]
