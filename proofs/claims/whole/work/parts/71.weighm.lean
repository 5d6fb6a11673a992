/-! the model weighs -/
theorem vl_fn_h {I : Nat → Nat → Int32} {fn : Nat → (Nat → Int32) → Nat} (hf : vl_fn I fn) (ro : xv_Ro) (d : Nat) (z : Nat × Nat) (M : Nat → Nat → Int32) (g : Nat → Int32) (J : Nat → Nat → Int64) (k : Nat) (hk : vl_ok k) (h16 : M 167 16 = I 167 16) (h5 : ∀ a, 180 ≤ a → a < 185 → M a = I a) : ∃ M1 : Nat → Nat → Int32, (∀ a, a ≠ 185 → M1 a = vh_K M g a) ∧ xv_evm ro (d + 3) 80 [.ref 167, .int (nI k), .int (nI (vl_hi k))] (z, xv_mk (vh_K M g) J) = some (some (.int (nI (fn k g))), (z, xv_mk M1 J)) := by
  obtain ⟨M1, a1, a2⟩ := hf.2.2.2 ro d z (vh_K M g) J k hk (by rw [vh_Ko M g (by omega)]; exact h16) (fun a q1 q2 => by rw [vh_Ko M g (by omega)]; exact h5 a q1 q2)
  rw [vh_Ki] at a2
  exact ⟨M1, a1, a2⟩
theorem xq_weighsBy (ro : xv_Ro) (d : Nat) (z : Nat × Nat) (I M : Nat → Nat → Int32) (J : Nat → Nat → Int64) {fn : Nat → (Nat → Int32) → Nat} (hf : vl_fn I fn) {n i v : Nat} (hn2 : n ≤ 20) (h4 : vh_4 I n) (hi : i < n) (hv : v < 32) (hM : ∀ a, a ≠ 21 → a ≠ 185 → a ≠ 186 → M a = I a) (hq : ∀ k, k < 8 → J 172 k = vq_L (I 4 k)) : ∃ M1 : Nat → Nat → Int32, (∀ a, a ≠ 185 → a ≠ 186 → M1 a = M a) ∧ xv_evm ro (d + 4) 108 [.ref 167, .int (nI i), .int (nI v)] (z, xv_mk M J) = some (some (.long (lN (vg_W fn I (25 + 23 + i) (vg_b I i v)))), (z, xv_mk M1 J)) := by
  obtain ⟨e0, -, ⟨k, k1, k2⟩, y2, y3⟩ := h4 i hi
  have m168 : M 168 = I 168 := hM 168 (by omega) (by omega) (by omega)
  have hb : vg_b I i v = if (vq_N (I 4 k)).testBit v = true then 1 else 0 := by
    unfold vg_b; rw [e0 1 (by omega), show 140 + 20 * 1 + i = 160 + i by omega, k2, nI_clamp (by omega)]
  have f0 : I (25 + 23 + i) 0 = I 168 (140 + i) := e0 0 (by omega)
  have f1 : I (25 + 23 + i) 1 = nI k := (e0 1 (by omega)).trans k2
  have f2 : I (25 + 23 + i) 2 = I 168 (180 + i) := e0 2 (by omega)
  have f3 : I (25 + 23 + i) 3 = I 168 (200 + i) := e0 3 (by omega)
  have f4 : I (25 + 23 + i) 4 = I 168 (220 + i) := e0 4 (by omega)
  have f5 : I (25 + 23 + i) 5 = I 168 (240 + i) := e0 5 (by omega)
  have f6 : I (25 + 23 + i) 6 = I 168 (260 + i) := e0 6 (by omega)
  have f7 : I (25 + 23 + i) 7 = I 168 (280 + i) := e0 7 (by omega)
  have m4 : M 4 = I 4 := hM 4 (by omega) (by omega) (by omega)
  have hlt := vq_N_lt (I 4 k)
  have hhas := xq_Mo_has ro (d + 3) (z, xv_mk M J) (m := vq_N (I 4 k)) (s := v) (by omega) (by omega)
  have hJ : J 172 k = lN (vq_N (I 4 k)) := hq k k1
  have n1 : 140 + nI i = nI (140 + i) := by (simp (disch := omega) only [vz_all, if_true, if_false, true_or, or_true, eq_self, ite_not, Bool.false_eq_true, ite_self, and_self, true_and, and_true, false_and, and_false, not_true_eq_false, not_false_eq_true, false_or, or_false])
  have n2 : 160 + nI i = nI (160 + i) := by (simp (disch := omega) only [vz_all, if_true, if_false, true_or, or_true, eq_self, ite_not, Bool.false_eq_true, ite_self, and_self, true_and, and_true, false_and, and_false, not_true_eq_false, not_false_eq_true, false_or, or_false])
  have n3 : 180 + nI i = nI (180 + i) := by (simp (disch := omega) only [vz_all, if_true, if_false, true_or, or_true, eq_self, ite_not, Bool.false_eq_true, ite_self, and_self, true_and, and_true, false_and, and_false, not_true_eq_false, not_false_eq_true, false_or, or_false])
  have n4 : 200 + nI i = nI (200 + i) := by (simp (disch := omega) only [vz_all, if_true, if_false, true_or, or_true, eq_self, ite_not, Bool.false_eq_true, ite_self, and_self, true_and, and_true, false_and, and_false, not_true_eq_false, not_false_eq_true, false_or, or_false])
  have n5 : 220 + nI i = nI (220 + i) := by (simp (disch := omega) only [vz_all, if_true, if_false, true_or, or_true, eq_self, ite_not, Bool.false_eq_true, ite_self, and_self, true_and, and_true, false_and, and_false, not_true_eq_false, not_false_eq_true, false_or, or_false])
  have n6 : 240 + nI i = nI (240 + i) := by (simp (disch := omega) only [vz_all, if_true, if_false, true_or, or_true, eq_self, ite_not, Bool.false_eq_true, ite_self, and_self, true_and, and_true, false_and, and_false, not_true_eq_false, not_false_eq_true, false_or, or_false])
  have n7 : 260 + nI i = nI (260 + i) := by (simp (disch := omega) only [vz_all, if_true, if_false, true_or, or_true, eq_self, ite_not, Bool.false_eq_true, ite_self, and_self, true_and, and_true, false_and, and_false, not_true_eq_false, not_false_eq_true, false_or, or_false])
  have n8 : 280 + nI i = nI (280 + i) := by (simp (disch := omega) only [vz_all, if_true, if_false, true_or, or_true, eq_self, ite_not, Bool.false_eq_true, ite_self, and_self, true_and, and_true, false_and, and_false, not_true_eq_false, not_false_eq_true, false_or, or_false])
  have b1 : xv_inB (nI (140 + i)) 304 = true := by (simp (disch := omega) only [vz_all, if_true, if_false, true_or, or_true, eq_self, ite_not, Bool.false_eq_true, ite_self, and_self, true_and, and_true, false_and, and_false, not_true_eq_false, not_false_eq_true, false_or, or_false])
  have b2 : xv_inB (nI (160 + i)) 304 = true := by (simp (disch := omega) only [vz_all, if_true, if_false, true_or, or_true, eq_self, ite_not, Bool.false_eq_true, ite_self, and_self, true_and, and_true, false_and, and_false, not_true_eq_false, not_false_eq_true, false_or, or_false])
  have b3 : xv_inB (nI (180 + i)) 304 = true := by (simp (disch := omega) only [vz_all, if_true, if_false, true_or, or_true, eq_self, ite_not, Bool.false_eq_true, ite_self, and_self, true_and, and_true, false_and, and_false, not_true_eq_false, not_false_eq_true, false_or, or_false])
  have b4 : xv_inB (nI (200 + i)) 304 = true := by (simp (disch := omega) only [vz_all, if_true, if_false, true_or, or_true, eq_self, ite_not, Bool.false_eq_true, ite_self, and_self, true_and, and_true, false_and, and_false, not_true_eq_false, not_false_eq_true, false_or, or_false])
  have b5 : xv_inB (nI (220 + i)) 304 = true := by (simp (disch := omega) only [vz_all, if_true, if_false, true_or, or_true, eq_self, ite_not, Bool.false_eq_true, ite_self, and_self, true_and, and_true, false_and, and_false, not_true_eq_false, not_false_eq_true, false_or, or_false])
  have b6 : xv_inB (nI (240 + i)) 304 = true := by (simp (disch := omega) only [vz_all, if_true, if_false, true_or, or_true, eq_self, ite_not, Bool.false_eq_true, ite_self, and_self, true_and, and_true, false_and, and_false, not_true_eq_false, not_false_eq_true, false_or, or_false])
  have b7 : xv_inB (nI (260 + i)) 304 = true := by (simp (disch := omega) only [vz_all, if_true, if_false, true_or, or_true, eq_self, ite_not, Bool.false_eq_true, ite_self, and_self, true_and, and_true, false_and, and_false, not_true_eq_false, not_false_eq_true, false_or, or_false])
  have b8 : xv_inB (nI (280 + i)) 304 = true := by (simp (disch := omega) only [vz_all, if_true, if_false, true_or, or_true, eq_self, ite_not, Bool.false_eq_true, ite_self, and_self, true_and, and_true, false_and, and_false, not_true_eq_false, not_false_eq_true, false_or, or_false])
  have b9 : xv_inB (nI k) 8 = true := by (simp (disch := omega) only [vz_all, if_true, if_false, true_or, or_true, eq_self, ite_not, Bool.false_eq_true, ite_self, and_self, true_and, and_true, false_and, and_false, not_true_eq_false, not_false_eq_true, false_or, or_false])
  have i4 : xv_inB 4 8 = true := by decide
  have i5 : xv_inB 5 8 = true := by decide
  have i6 : xv_inB 6 8 = true := by decide
  have z1 : ((1 : Int32) = 0) = False := eq_false (by decide)
  have z2 : ((0 : Int32) = 1) = False := eq_false (by decide)
  have hB : vg_b I i v = 0 ∨ vg_b I i v = 1 := by rw [hb]; split <;> simp
  have hhas' : xv_evm ro (d + 3) 44 [.long (lN (vq_N (I 4 k))), .int (nI v)] (z, xv_mk M J) = some (some (.int (vg_b I i v)), (z, xv_mk M J)) := by
    rw [hhas, hb]; rfl
  clear hhas
  generalize vg_b I i v = h at *
  have key : ∀ lies : Int32, ∃ M1 M2 : Nat → Nat → Int32, (∀ a, a ≠ 185 → a ≠ 186 → M2 a = M a) ∧ M1 168 = I 168 ∧
      xv_evm ro (d + 3) 80 [.ref 167, .int 108, .int 10] (z, xv_mk (vh_K M (vg_u (vg_u (vg_u (vg_u (vg_u (vg_u (vg_u (vh_z (M 186) 8) 0 (I 168 (140 + i))) 1 (I 168 (280 + i))) 2 (I 168 (220 + i))) 3 (I 168 (240 + i))) 7 (I 168 (260 + i))) 4 (nI k)) 5 h)) J) = some (some (.int (nI (fn 108 (vg_F I (25 + 23 + i) h 0)))), (z, xv_mk M1 J)) ∧
      xv_evm ro (d + 3) 80 [.ref 167, .int 99, .int 10] (z, xv_mk (xv_u2 M1 186 6 lies) J) = some (some (.int (nI (fn 99 (vg_F I (25 + 23 + i) h lies)))), (z, xv_mk M2 J)) ∧ M2 168 = I 168 := by
    intro lies
    obtain ⟨M1, c1, c2⟩ := vl_fn_h hf ro d z M (vg_u (vg_u (vg_u (vg_u (vg_u (vg_u (vg_u (vh_z (M 186) 8) 0 (I 168 (140 + i))) 1 (I 168 (280 + i))) 2 (I 168 (220 + i))) 3 (I 168 (240 + i))) 7 (I 168 (260 + i))) 4 (nI k)) 5 h) J 108 (Or.inl rfl) (by rw [hM 167 (by omega) (by omega) (by omega)]) (fun a q1 q2 => hM a (by omega) (by omega) (by omega))
    have g1 : M1 186 = vg_u (vg_u (vg_u (vg_u (vg_u (vg_u (vg_u (vh_z (M 186) 8) 0 (I 168 (140 + i))) 1 (I 168 (280 + i))) 2 (I 168 (220 + i))) 3 (I 168 (240 + i))) 7 (I 168 (260 + i))) 4 (nI k)) 5 h := by rw [c1 186 (by omega), vh_Ki]
    have g2 : ∀ a, a ≠ 185 → a ≠ 186 → M1 a = M a := fun a q1 q2 => by rw [c1 a q1, vh_Ko M _ q2]
    have g3 : ∀ a, a ≠ 21 → a ≠ 185 → a ≠ 186 → M1 a = I a := fun a q1 q2 q3 => by rw [g2 a q2 q3]; exact hM a q1 q2 q3
    obtain ⟨M2, c3, c4⟩ := vl_fn_h hf ro d z M1 (vg_u (M1 186) 6 lies) J 99 (Or.inr (Or.inl rfl)) (by rw [g3 167 (by omega) (by omega) (by omega)]) (fun a q1 q2 => g3 a (by omega) (by omega) (by omega))
    rw [← vh_Ku, vh_Ks] at c4
    have e1 : fn 108 (vg_u (vg_u (vg_u (vg_u (vg_u (vg_u (vg_u (vh_z (M 186) 8) 0 (I 168 (140 + i))) 1 (I 168 (280 + i))) 2 (I 168 (220 + i))) 3 (I 168 (240 + i))) 7 (I 168 (260 + i))) 4 (nI k)) 5 h) = fn 108 (vg_F I (25 + 23 + i) h 0) := hf.2.1 108 _ _ (fun f hf8 => by
      rcases lt8 hf8 with rfl | rfl | rfl | rfl | rfl | rfl | rfl | rfl <;> simp [vg_u, vg_F, vh_z, f0, f1, f4, f5, f6, f7])
    have e2 : fn 99 (vg_u (M1 186) 6 lies) = fn 99 (vg_F I (25 + 23 + i) h lies) := hf.2.1 99 _ _ (fun f hf8 => by
      rw [g1]
      rcases lt8 hf8 with rfl | rfl | rfl | rfl | rfl | rfl | rfl | rfl <;> simp [vg_u, vg_F, vh_z, f0, f1, f4, f5, f6, f7])
    rw [e1] at c2
    rw [e2] at c4
    have t2 : ∀ a, a ≠ 185 → a ≠ 186 → M2 a = M a := fun a q1 q2 => by rw [c3 a q1, vh_Ko M1 _ q2, g2 a q1 q2]
    exact ⟨M1, M2, t2, g3 168 (by omega) (by omega) (by omega), c2, c4, by rw [t2 168 (by omega) (by omega)]; exact m168⟩
  have hb1 := hf.1 108 (vg_F I (25 + 23 + i) h 0)
  have hb2 := hf.1 99 (vg_F I (25 + 23 + i) h (if I (25 + 23 + i) 2 = h then 0 else 1))
  rw [show vl_hi 108 = 10 from rfl] at hb1
  rw [show vl_hi 99 = 10 from rfl] at hb2
  have rk : ∀ (g : Nat → Int32), vh_K M g 168 = I 168 := fun g => by rw [vh_Ko M g (by omega)]; exact m168
  have rk2 : ∀ (M1 : Nat → Nat → Int32) (x : Int32) j, xv_u2 M1 186 6 x 168 j = M1 168 j := fun M1 x j => xu_ne2 (by omega)
  by_cases c : I 168 (180 + i) = h
  · obtain ⟨M1, M2, t0, t1, t2, t3, t4⟩ := key 0
    refine ⟨M2, t0, ?_⟩
    have hw : vg_W fn I (25 + 23 + i) h = (10 - fn 108 (vg_F I (25 + 23 + i) h 0)) * (if I 168 (200 + i) = 1 then fn 99 (vg_F I (25 + 23 + i) h 0) else 10 - fn 99 (vg_F I (25 + 23 + i) h 0)) := by unfold vg_W; rw [f2, f3, if_pos c, if_pos c]
    rw [f2, if_pos c] at hb2
    rw [hw]
    generalize fn 108 (vg_F I (25 + 23 + i) h 0) = r1 at *
    generalize fn 99 (vg_F I (25 + 23 + i) h 0) = r2 at *
    have s1 : 10 - nI r1 = nI (10 - r1) := by (simp (disch := omega) only [vz_all, if_true, if_false, true_or, or_true, eq_self, ite_not, Bool.false_eq_true, ite_self, and_self, true_and, and_true, false_and, and_false, not_true_eq_false, not_false_eq_true, false_or, or_false])
    have s2 : 10 - nI r2 = nI (10 - r2) := by (simp (disch := omega) only [vz_all, if_true, if_false, true_or, or_true, eq_self, ite_not, Bool.false_eq_true, ite_self, and_self, true_and, and_true, false_and, and_false, not_true_eq_false, not_false_eq_true, false_or, or_false])
    have l1 := nI_l (show 10 - r1 < 2 ^ 31 by omega)
    have l2 := nI_l (show r2 < 2 ^ 31 by omega)
    have l3 := nI_l (show 10 - r2 < 2 ^ 31 by omega)
    rw [xe_Mo_weighsBy]
    rcases hB with hB | hB <;> rcases y3 with y3 | y3 <;> subst hB <;>
    simp only [xr_all, xf_all, if_true, if_false, true_or, or_true, eq_self, ite_not, Bool.false_eq_true, ite_self, and_self, true_and, and_true, false_and, and_false, not_true_eq_false, not_false_eq_true, xj_Mo_weighsBy, xb_Mo_weighsBy_0, xb_Mo_weighsBy_26, xb_Mo_weighsBy_27, xb_Mo_weighsBy_46, xb_Mo_weighsBy_47, xb_Mo_weighsBy_166, xb_Mo_weighsBy_171, xb_Mo_weighsBy_191, xb_Mo_weighsBy_196, n1, n2, n3, n4, n5, n6, n7, n8, b1, b2, b3, b4, b5, b6, b7, b8, b9, i4, i5, i6, nI_clamp (show 140 + i < 2 ^ 31 by omega), nI_clamp (show 160 + i < 2 ^ 31 by omega), nI_clamp (show 180 + i < 2 ^ 31 by omega), nI_clamp (show 200 + i < 2 ^ 31 by omega), nI_clamp (show 220 + i < 2 ^ 31 by omega), nI_clamp (show 240 + i < 2 ^ 31 by omega), nI_clamp (show 260 + i < 2 ^ 31 by omega), nI_clamp (show 280 + i < 2 ^ 31 by omega), nI_clamp (show k < 2 ^ 31 by omega), m168, k2, hJ, hhas', c, y3, z1, z2, xq_feels, rk, vh_Ku, t2, t1, rk2, t3, t4, s1, s2, l1, l2, l3, lN_mul]
  · obtain ⟨M1, M2, t0, t1, t2, t3, t4⟩ := key 1
    refine ⟨M2, t0, ?_⟩
    have hw : vg_W fn I (25 + 23 + i) h = (fn 108 (vg_F I (25 + 23 + i) h 0)) * (if I 168 (200 + i) = 1 then fn 99 (vg_F I (25 + 23 + i) h 1) else 10 - fn 99 (vg_F I (25 + 23 + i) h 1)) := by unfold vg_W; rw [f2, f3, if_neg c, if_neg c]
    rw [f2, if_neg c] at hb2
    rw [hw]
    generalize fn 108 (vg_F I (25 + 23 + i) h 0) = r1 at *
    generalize fn 99 (vg_F I (25 + 23 + i) h 1) = r2 at *
    have s2 : 10 - nI r2 = nI (10 - r2) := by (simp (disch := omega) only [vz_all, if_true, if_false, true_or, or_true, eq_self, ite_not, Bool.false_eq_true, ite_self, and_self, true_and, and_true, false_and, and_false, not_true_eq_false, not_false_eq_true, false_or, or_false])
    have l1 := nI_l (show r1 < 2 ^ 31 by omega)
    have l2 := nI_l (show r2 < 2 ^ 31 by omega)
    have l3 := nI_l (show 10 - r2 < 2 ^ 31 by omega)
    rw [xe_Mo_weighsBy]
    rcases hB with hB | hB <;> rcases y3 with y3 | y3 <;> subst hB <;>
    simp only [xr_all, xf_all, if_true, if_false, true_or, or_true, eq_self, ite_not, Bool.false_eq_true, ite_self, and_self, true_and, and_true, false_and, and_false, not_true_eq_false, not_false_eq_true, xj_Mo_weighsBy, xb_Mo_weighsBy_0, xb_Mo_weighsBy_26, xb_Mo_weighsBy_27, xb_Mo_weighsBy_46, xb_Mo_weighsBy_47, xb_Mo_weighsBy_166, xb_Mo_weighsBy_171, xb_Mo_weighsBy_191, xb_Mo_weighsBy_196, n1, n2, n3, n4, n5, n6, n7, n8, b1, b2, b3, b4, b5, b6, b7, b8, b9, i4, i5, i6, nI_clamp (show 140 + i < 2 ^ 31 by omega), nI_clamp (show 160 + i < 2 ^ 31 by omega), nI_clamp (show 180 + i < 2 ^ 31 by omega), nI_clamp (show 200 + i < 2 ^ 31 by omega), nI_clamp (show 220 + i < 2 ^ 31 by omega), nI_clamp (show 240 + i < 2 ^ 31 by omega), nI_clamp (show 260 + i < 2 ^ 31 by omega), nI_clamp (show 280 + i < 2 ^ 31 by omega), nI_clamp (show k < 2 ^ 31 by omega), m168, k2, hJ, hhas', c, y3, z1, z2, xq_feels, rk, vh_Ku, t2, t1, rk2, t3, t4, s2, l1, l2, l3, lN_mul]
