/-! the model's sums; how many may be weighed; the greatest common divisor -/
theorem xq_weighs (ro : xv_Ro) (d : Nat) (z : Nat × Nat) (I M : Nat → Nat → Int32) (J : Nat → Nat → Int64) {fn : Nat → (Nat → Int32) → Nat} (hf : vl_fn I fn) {n s : Nat} (hn2 : n ≤ 20) (h4 : vh_4 I n) (hs : s < 2 ^ n) {p : Nat → Nat} (hp : ∀ f, f < 5 → p f ≤ 10 ∧ I 171 f = nI (p f)) (hM : ∀ a, a ≠ 21 → a ≠ 185 → a ≠ 186 → M a = I a) (hq : ∀ k, k < 8 → J 172 k = vq_L (I 4 k)) : ∃ M1 : Nat → Nat → Int32, (∀ a, a ≠ 185 → a ≠ 186 → M1 a = M a) ∧ xv_evm ro (d + 5) 109 [.ref 167, .int (nI s)] (z, xv_mk M J) = some (some (.long (lN (vg_S (fun v => vg_w fn I p s v 20) (fun _ => true) 32))), (z, xv_mk M1 (vg_J J 194 (fun v => vg_w fn I p s v 20) 32))) := by
  have hp20 : 2 ^ n ≤ 2 ^ 20 := Nat.pow_le_pow_right (by omega) hn2
  have hs31 : s < 2 ^ 31 := by omega
  have inner1 : ∀ (M1 : Nat → Nat → Int32) (J1 : Nat → Nat → Int64) (S : Int64) (v : Nat) (u0 : Option Value), v < 32 → M1 171 = I 171 → xv_ev ro (d + 5) xm_Mo_weighs xb_Mo_weighs_18 [some (.ref 167), some (.int (nI s)), some (.long S), none, some (.int (nI v)), some (.long 1), none, some (.int 0)] [] (z, xv_mk M1 J1) = xv_ev ro (d + 5) xm_Mo_weighs xb_Mo_weighs_70 [some (.ref 167), some (.int (nI s)), some (.long S), none, some (.int (nI v)), some (.long (lN (vg_Pk p v 5))), none, some (.int 0)] [] (z, xv_mk M1 J1) := by
    intro M1 J1 S v u0 hv h171
    have hl := vz_iter (fun f => xv_ev ro (d + 5) xm_Mo_weighs xb_Mo_weighs_18 [some (.ref 167), some (.int (nI s)), some (.long S), none, some (.int (nI v)), some (.long (lN (vg_Pk p v f))), none, some (.int (nI f))] [] (z, xv_mk M1 J1)) 5 (fun f hf => by
      obtain ⟨p1, p2⟩ := hp f hf
      rw [← h171] at p2
      have hs : vg_Pk p v (f + 1) = vg_Pk p v f * (if v.testBit f = true then p f else 10 - p f) := rfl
      have g1 : (5 ≤ nI f) = False := by (simp (disch := omega) only [vz_all, if_true, if_false, true_or, or_true, eq_self, ite_not, Bool.false_eq_true, ite_self, and_self, true_and, and_true, false_and, and_false, not_true_eq_false, not_false_eq_true, false_or, or_false])
      have g2 : xv_inB (nI f) 5 = true := by (simp (disch := omega) only [vz_all, if_true, if_false, true_or, or_true, eq_self, ite_not, Bool.false_eq_true, ite_self, and_self, true_and, and_true, false_and, and_false, not_true_eq_false, not_false_eq_true, false_or, or_false])
      have g4 := xq_Mo_has ro (d + 4) (z, xv_mk M1 J1) (m := v) (s := f) (by omega) (by omega)
      have g5 : 10 - nI (p f) = nI (10 - p f) := by (simp (disch := omega) only [vz_all, if_true, if_false, true_or, or_true, eq_self, ite_not, Bool.false_eq_true, ite_self, and_self, true_and, and_true, false_and, and_false, not_true_eq_false, not_false_eq_true, false_or, or_false])
      have c1 := nI_clamp (show f < 2 ^ 31 by omega)
      have l0 := nI_l (show v < 2 ^ 31 by omega)
      have l1 := nI_l (show p f < 2 ^ 31 by omega)
      have l2 := nI_l (show 10 - p f < 2 ^ 31 by omega)
      conv => lhs; unfold xb_Mo_weighs_18
      by_cases c : v.testBit f = true
      · rw [if_pos c] at hs
        rw [vz_b1 c] at g4
        have z1 : ((1 : Int32) = 0) = False := eq_false (by decide)
        simp only [xr_all, xf_all, if_true, if_false, true_or, or_true, eq_self, ite_not, Bool.false_eq_true, ite_self, and_self, true_and, and_true, false_and, and_false, not_true_eq_false, not_false_eq_true, xj_Mo_weighs, xb_Mo_weighs_0, xb_Mo_weighs_47, xb_Mo_weighs_57, xb_Mo_weighs_67, xb_Mo_weighs_90, xb_Mo_weighs_103, xb_Mo_weighs_109, xb_Mo_weighs_129, g1, g2, c1, l0, g4, z1, p2, l1, lN_mul, nI_1, hs]
      · rw [if_neg c] at hs
        rw [vz_b0 c] at g4
        simp only [xr_all, xf_all, if_true, if_false, true_or, or_true, eq_self, ite_not, Bool.false_eq_true, ite_self, and_self, true_and, and_true, false_and, and_false, not_true_eq_false, not_false_eq_true, xj_Mo_weighs, xb_Mo_weighs_0, xb_Mo_weighs_47, xb_Mo_weighs_57, xb_Mo_weighs_67, xb_Mo_weighs_90, xb_Mo_weighs_103, xb_Mo_weighs_109, xb_Mo_weighs_129, g1, g2, c1, l0, g4, p2, g5, l2, lN_mul, nI_1, hs])
    have x0 : vg_Pk p v 0 = 1 := rfl
    rw [x0, show nI 0 = (0 : Int32) from rfl, show lN 1 = (1 : Int64) from rfl] at hl
    rw [hl]
    conv => lhs; unfold xb_Mo_weighs_18
    have g1 : (5 ≤ nI 5) = True := eq_true (by decide)
    simp only [xr_all, xf_all, if_true, if_false, true_or, or_true, eq_self, ite_not, Bool.false_eq_true, ite_self, and_self, true_and, and_true, false_and, and_false, not_true_eq_false, not_false_eq_true, xj_Mo_weighs, xb_Mo_weighs_0, xb_Mo_weighs_47, xb_Mo_weighs_57, xb_Mo_weighs_67, xb_Mo_weighs_90, xb_Mo_weighs_103, xb_Mo_weighs_109, xb_Mo_weighs_129, g1]
  have inner2 : ∀ (J1 : Nat → Nat → Int64) (S : Int64) (v : Nat) (u0 : Option Value), v < 32 → (∀ k, k < 8 → J1 172 k = vq_L (I 4 k)) → ∀ i, i ≤ 20 → ∀ M1 : Nat → Nat → Int32, (∀ a, a ≠ 185 → a ≠ 186 → M1 a = M a) → ∃ M2 : Nat → Nat → Int32, (∀ a, a ≠ 185 → a ≠ 186 → M2 a = M a) ∧ xv_ev ro (d + 5) xm_Mo_weighs xb_Mo_weighs_70 [some (.ref 167), some (.int (nI s)), some (.long S), none, some (.int (nI v)), some (.long (lN (vg_Pk p v 5))), none, some (.int 0)] [] (z, xv_mk M1 J1) = xv_ev ro (d + 5) xm_Mo_weighs xb_Mo_weighs_70 [some (.ref 167), some (.int (nI s)), some (.long S), none, some (.int (nI v)), some (.long (lN (vg_w fn I p s v i))), none, some (.int (nI i))] [] (z, xv_mk M2 J1) := by
    intro J1 S v u0 hv hq1 i
    induction i with
    | zero => intro _ M1 h1; exact ⟨M1, h1, rfl⟩
    | succ i ih =>
      intro hi M1 h1
      obtain ⟨M2, h2, h3⟩ := ih (by omega) M1 h1
      rw [h3]
      have hw : vg_w fn I p s v (i + 1) = if s.testBit i = true then vg_w fn I p s v i * vg_W fn I (25 + 23 + i) (vg_b I i v) else vg_w fn I p s v i := rfl
      have g1 : (20 ≤ nI i) = False := by (simp (disch := omega) only [vz_all, if_true, if_false, true_or, or_true, eq_self, ite_not, Bool.false_eq_true, ite_self, and_self, true_and, and_true, false_and, and_false, not_true_eq_false, not_false_eq_true, false_or, or_false])
      have g4 := xq_Mo_has ro (d + 4) (z, xv_mk M2 J1) (m := s) (s := i) (by omega) (by omega)
      have l0 := nI_l hs31
      by_cases c : s.testBit i = true
      · have hin : i < n := by
          rcases Nat.lt_or_ge i n with q | q
          · exact q
          · rw [Nat.testBit_lt_two_pow (Nat.lt_of_lt_of_le hs (Nat.pow_le_pow_right (by omega) q))] at c; cases c
        obtain ⟨M3, h5, h6⟩ := xq_weighsBy ro d z I M2 J1 hf hn2 h4 hin hv (fun a q1 q2 q3 => by rw [h2 a q2 q3]; exact hM a q1 q2 q3) hq1
        refine ⟨M3, fun a q1 q2 => by rw [h5 a q1 q2, h2 a q1 q2], ?_⟩
        rw [if_pos c] at hw
        rw [vz_b1 c] at g4
        have z1 : ((1 : Int32) = 0) = False := eq_false (by decide)
        conv => lhs; unfold xb_Mo_weighs_70
        simp only [xr_all, xf_all, if_true, if_false, true_or, or_true, eq_self, ite_not, Bool.false_eq_true, ite_self, and_self, true_and, and_true, false_and, and_false, not_true_eq_false, not_false_eq_true, xj_Mo_weighs, xb_Mo_weighs_0, xb_Mo_weighs_47, xb_Mo_weighs_57, xb_Mo_weighs_67, xb_Mo_weighs_90, xb_Mo_weighs_103, xb_Mo_weighs_109, xb_Mo_weighs_129, g1, l0, g4, z1, h6, lN_mul, nI_1, hw]
      · refine ⟨M2, h2, ?_⟩
        rw [if_neg c] at hw
        rw [vz_b0 c] at g4
        conv => lhs; unfold xb_Mo_weighs_70
        simp only [xr_all, xf_all, if_true, if_false, true_or, or_true, eq_self, ite_not, Bool.false_eq_true, ite_self, and_self, true_and, and_true, false_and, and_false, not_true_eq_false, not_false_eq_true, xj_Mo_weighs, xb_Mo_weighs_0, xb_Mo_weighs_47, xb_Mo_weighs_57, xb_Mo_weighs_67, xb_Mo_weighs_90, xb_Mo_weighs_103, xb_Mo_weighs_109, xb_Mo_weighs_129, g1, l0, g4, nI_1, hw]
  have outer : ∀ v, v ≤ 32 → ∃ (M1 : Nat → Nat → Int32) (u u2 : Option Value), (∀ a, a ≠ 185 → a ≠ 186 → M1 a = M a) ∧ xv_evm ro (d + 5) 109 [.ref 167, .int (nI s)] (z, xv_mk M J) = xv_ev ro (d + 5) xm_Mo_weighs xb_Mo_weighs_5 [some (.ref 167), some (.int (nI s)), some (.long (lN (vg_S (fun v => vg_w fn I p s v 20) (fun _ => true) v))), none, some (.int (nI v)), u, none, u2] [] (z, xv_mk M1 (vg_J J 194 (fun v => vg_w fn I p s v 20) v)) := by
    intro v
    induction v with
    | zero =>
      intro _
      refine ⟨M, none, none, fun _ _ _ => rfl, ?_⟩
      rw [xe_Mo_weighs, vg_J0]
      simp only [xr_all, xf_all, if_true, if_false, true_or, or_true, eq_self, ite_not, Bool.false_eq_true, ite_self, and_self, true_and, and_true, false_and, and_false, not_true_eq_false, not_false_eq_true, xj_Mo_weighs, xb_Mo_weighs_0, xb_Mo_weighs_47, xb_Mo_weighs_57, xb_Mo_weighs_67, xb_Mo_weighs_90, xb_Mo_weighs_103, xb_Mo_weighs_109, xb_Mo_weighs_129]
      rfl
    | succ v ih =>
      intro hv
      obtain ⟨M1, u, u2, h1, h2⟩ := ih (by omega)
      rw [h2]
      have h171 : M1 171 = I 171 := by rw [h1 171 (by omega) (by omega)]; exact hM 171 (by omega) (by omega) (by omega)
      have hq1 : ∀ k, k < 8 → vg_J J 194 (fun v => vg_w fn I p s v 20) v 172 k = vq_L (I 4 k) := fun k hk => by rw [vg_Jo _ _ _ (by omega)]; exact hq k hk
      obtain ⟨M2, h3, h4⟩ := inner2 (vg_J J 194 (fun v => vg_w fn I p s v 20) v) (lN (vg_S (fun v => vg_w fn I p s v 20) (fun _ => true) v)) v none (by omega) hq1 20 (Nat.le_refl 20) M1 h1
      have h5 := inner1 M1 (vg_J J 194 (fun v => vg_w fn I p s v 20) v) (lN (vg_S (fun v => vg_w fn I p s v 20) (fun _ => true) v)) v none (by omega) h171
      have hS : vg_S (fun v => vg_w fn I p s v 20) (fun _ => true) (v + 1) = vg_S (fun v => vg_w fn I p s v 20) (fun _ => true) v + vg_w fn I p s v 20 := rfl
      have hJ := vg_Js J 194 (fun v => vg_w fn I p s v 20) v
      have g1 : (32 ≤ nI v) = False := by (simp (disch := omega) only [vz_all, if_true, if_false, true_or, or_true, eq_self, ite_not, Bool.false_eq_true, ite_self, and_self, true_and, and_true, false_and, and_false, not_true_eq_false, not_false_eq_true, false_or, or_false])
      have g3 : xv_inB (nI v) 32 = true := by (simp (disch := omega) only [vz_all, if_true, if_false, true_or, or_true, eq_self, ite_not, Bool.false_eq_true, ite_self, and_self, true_and, and_true, false_and, and_false, not_true_eq_false, not_false_eq_true, false_or, or_false])
      have c2 := nI_clamp (show v < 2 ^ 31 by omega)
      have g20 : (20 ≤ nI 20) = True := eq_true (by decide)
      refine ⟨M2, some (.long (lN (vg_w fn I p s v 20))), some (.int (nI 20)), h3, ?_⟩
      have h6 : xv_ev ro (d + 5) xm_Mo_weighs xb_Mo_weighs_70 [some (.ref 167), some (.int (nI s)), some (.long (lN (vg_S (fun v => vg_w fn I p s v 20) (fun _ => true) v))), none, some (.int (nI v)), some (.long (lN (vg_w fn I p s v 20))), none, some (.int (nI 20))] [] (z, xv_mk M2 (vg_J J 194 (fun v => vg_w fn I p s v 20) v)) = xv_ev ro (d + 5) xm_Mo_weighs xb_Mo_weighs_5 [some (.ref 167), some (.int (nI s)), some (.long (lN (vg_S (fun v => vg_w fn I p s v 20) (fun _ => true) (v + 1)))), none, some (.int (nI (v + 1))), some (.long (lN (vg_w fn I p s v 20))), none, some (.int (nI 20))] [] (z, xv_mk M2 (vg_J J 194 (fun v => vg_w fn I p s v 20) (v + 1))) := by
        rw [hS, ← hJ]
        conv => lhs; unfold xb_Mo_weighs_70
        simp only [xr_all, xf_all, if_true, if_false, true_or, or_true, eq_self, ite_not, Bool.false_eq_true, ite_self, and_self, true_and, and_true, false_and, and_false, not_true_eq_false, not_false_eq_true, xj_Mo_weighs, xb_Mo_weighs_0, xb_Mo_weighs_47, xb_Mo_weighs_57, xb_Mo_weighs_67, xb_Mo_weighs_90, xb_Mo_weighs_103, xb_Mo_weighs_109, xb_Mo_weighs_129, g20, g3, c2, lN_add, nI_1]
      rw [← h6, ← h4, ← h5]
      conv => lhs; unfold xb_Mo_weighs_5
      simp only [xr_all, xf_all, if_true, if_false, true_or, or_true, eq_self, ite_not, Bool.false_eq_true, ite_self, and_self, true_and, and_true, false_and, and_false, not_true_eq_false, not_false_eq_true, xj_Mo_weighs, xb_Mo_weighs_0, xb_Mo_weighs_47, xb_Mo_weighs_57, xb_Mo_weighs_67, xb_Mo_weighs_90, xb_Mo_weighs_103, xb_Mo_weighs_109, xb_Mo_weighs_129, g1]
  obtain ⟨M1, u, u2, h1, h2⟩ := outer 32 (Nat.le_refl 32)
  refine ⟨M1, h1, ?_⟩
  rw [h2]
  generalize vg_S (fun v => vg_w fn I p s v 20) (fun _ => true) 32 = S
  conv => lhs; unfold xb_Mo_weighs_5
  have g1 : (32 ≤ nI 32) = True := eq_true (by decide)
  simp only [xr_all, xf_all, if_true, if_false, true_or, or_true, eq_self, ite_not, Bool.false_eq_true, ite_self, and_self, true_and, and_true, false_and, and_false, not_true_eq_false, not_false_eq_true, xj_Mo_weighs, xb_Mo_weighs_0, xb_Mo_weighs_47, xb_Mo_weighs_57, xb_Mo_weighs_67, xb_Mo_weighs_90, xb_Mo_weighs_103, xb_Mo_weighs_109, xb_Mo_weighs_129, g1]
theorem xq_weightIn (ro : xv_Ro) (d : Nat) (z : Nat × Nat) (M : Nat → Nat → Int32) (J : Nat → Nat → Int64) (x : Int32) {X : Nat → Nat} (hX : ∀ v, v < 32 → J 194 v = lN (X v)) : xv_evm ro (d + 1) 110 [.ref 167, .long (vq_L x)] (z, xv_mk M J) = some (some (.long (lN (vg_S X (fun v => (vq_N x).testBit v) 32))), (z, xv_mk M J)) := by
  rw [xe_Mo_weightIn]
  simp only [xr_all, xf_all, if_true, if_false, true_or, or_true, eq_self, ite_not, Bool.false_eq_true, ite_self, and_self, true_and, and_true, false_and, and_false, not_true_eq_false, not_false_eq_true, xj_Mo_weightIn, xb_Mo_weightIn_0, xb_Mo_weightIn_24, xb_Mo_weightIn_34, xb_Mo_weightIn_40]
  have hlt := vq_N_lt x
  have hl := vz_iter (fun v => xv_ev ro (d + 1) xm_Mo_weightIn xb_Mo_weightIn_5 [some (.ref 167), some (.long (vq_L x)), none, some (.long (lN (vg_S X (fun v => (vq_N x).testBit v) v))), none, some (.int (nI v))] [] (z, xv_mk M J)) 32 (fun v hv => by
    have hs : vg_S X (fun v => (vq_N x).testBit v) (v + 1) = vg_S X (fun v => (vq_N x).testBit v) v + (if (vq_N x).testBit v = true then X v else 0) := rfl
    have g1 : (32 ≤ nI v) = False := by (simp (disch := omega) only [vz_all, if_true, if_false, true_or, or_true, eq_self, ite_not, Bool.false_eq_true, ite_self, and_self, true_and, and_true, false_and, and_false, not_true_eq_false, not_false_eq_true, false_or, or_false])
    have g3 : xv_inB (nI v) 32 = true := by (simp (disch := omega) only [vz_all, if_true, if_false, true_or, or_true, eq_self, ite_not, Bool.false_eq_true, ite_self, and_self, true_and, and_true, false_and, and_false, not_true_eq_false, not_false_eq_true, false_or, or_false])
    have c2 := nI_clamp (show v < 2 ^ 31 by omega)
    have g4 := xq_Mo_has ro d (z, xv_mk M J) (m := vq_N x) (s := v) (by omega) (by omega)
    have e := hX v hv
    rw [hs]
    rw [show lN (vq_N x) = vq_L x from rfl] at g4
    generalize vg_S X (fun v => (vq_N x).testBit v) v = S
    conv => lhs; unfold xb_Mo_weightIn_5
    by_cases c : (vq_N x).testBit v = true
    · rw [vz_b1 c] at g4
      have z1 : ((1 : Int32) = 0) = False := eq_false (by decide)
      simp only [xr_all, xf_all, if_true, if_false, true_or, or_true, eq_self, ite_not, Bool.false_eq_true, ite_self, and_self, true_and, and_true, false_and, and_false, not_true_eq_false, not_false_eq_true, xj_Mo_weightIn, xb_Mo_weightIn_0, xb_Mo_weightIn_24, xb_Mo_weightIn_34, xb_Mo_weightIn_40, g1, g3, c2, g4, z1, c, e, lN_add, nI_1]
    · rw [vz_b0 c] at g4
      simp only [xr_all, xf_all, if_true, if_false, true_or, or_true, eq_self, ite_not, Bool.false_eq_true, ite_self, and_self, true_and, and_true, false_and, and_false, not_true_eq_false, not_false_eq_true, xj_Mo_weightIn, xb_Mo_weightIn_0, xb_Mo_weightIn_24, xb_Mo_weightIn_34, xb_Mo_weightIn_40, g1, g4, c, nI_1, Nat.add_zero])
  have e0 : vg_S X (fun v => (vq_N x).testBit v) 0 = 0 := rfl
  rw [e0, show nI 0 = (0 : Int32) from rfl, show lN 0 = (0 : Int64) from rfl] at hl
  rw [hl]
  generalize vg_S X (fun v => (vq_N x).testBit v) 32 = S
  conv => lhs; unfold xb_Mo_weightIn_5
  have g1 : (32 ≤ nI 32) = True := eq_true (by decide)
  simp only [xr_all, xf_all, if_true, if_false, true_or, or_true, eq_self, ite_not, Bool.false_eq_true, ite_self, and_self, true_and, and_true, false_and, and_false, not_true_eq_false, not_false_eq_true, xj_Mo_weightIn, xb_Mo_weightIn_0, xb_Mo_weightIn_24, xb_Mo_weightIn_34, xb_Mo_weightIn_40, g1]
/-- are these answers: both say the same, wherever they are asked -/
theorem vh_has (n : Nat) (hn2 : n ≤ 20) (x : Int32) : (∃ s : Nat, s < 2 ^ n ∧ s < 2 ^ 20 ∧ x = nI s ∧ (∀ (ro : xv_Ro) (d : Nat) (z : Nat × Nat) (I : Nat → Nat → Int32) (J : Nat → Nat → Int64), I 25 2 = nI n → xv_evm ro d 162 [.ref 25, .int x] (z, xv_mk I J) = some (some (.int 1), (z, xv_mk I J))) ∧ ∀ (ro : xv_Ro) (d : Nat) (z : Nat × Nat) (I : Nat → Nat → Int32) (J : Nat → Nat → Int64), I 168 301 = nI n → xv_evm ro d 49 [.ref 167, .int x] (z, xv_mk I J) = some (some (.int 1), (z, xv_mk I J))) ∨ ((∀ (ro : xv_Ro) (d : Nat) (z : Nat × Nat) (I : Nat → Nat → Int32) (J : Nat → Nat → Int64), I 25 2 = nI n → xv_evm ro d 162 [.ref 25, .int x] (z, xv_mk I J) = some (some (.int 0), (z, xv_mk I J))) ∧ ∀ (ro : xv_Ro) (d : Nat) (z : Nat × Nat) (I : Nat → Nat → Int32) (J : Nat → Nat → Int64), I 168 301 = nI n → xv_evm ro d 49 [.ref 167, .int x] (z, xv_mk I J) = some (some (.int 0), (z, xv_mk I J))) := by
  have hp : 2 ^ n ≤ 2 ^ 20 := Nat.pow_le_pow_right (by omega) hn2
  have g4 : xv_inB 301 304 = true := by decide
  have g5 : (301 : Int32).toNatClampNeg = 301 := by decide
  rcases vn_cases x (2 ^ n) (by omega) with q | q | ⟨s, hs, rfl⟩
  · right
    constructor
    · intro ro d z I J hn
      rw [xe_Archive_has]
      simp only [xr_all, xf_all, if_true, if_false, true_or, or_true, eq_self, ite_not, Bool.false_eq_true, ite_self, and_self, true_and, and_true, false_and, and_false, not_true_eq_false, not_false_eq_true, xj_Archive_has, xb_Archive_has_0, xb_Archive_has_18, xb_Archive_has_19, q]
    · intro ro d z I J hm
      rw [xe_Mo_areAnswers]
      simp only [xr_all, xf_all, if_true, if_false, true_or, or_true, eq_self, ite_not, Bool.false_eq_true, ite_self, and_self, true_and, and_true, false_and, and_false, not_true_eq_false, not_false_eq_true, xj_Mo_areAnswers, xb_Mo_areAnswers_0, xb_Mo_areAnswers_22, xb_Mo_areAnswers_23, q]
  · right
    have q2 : ¬ x < 0 := by
      intro g
      have := nI_pos' (n := 2 ^ n) (by omega)
      (simp only [Int32.lt_iff_toInt_lt, Int32.le_iff_toInt_le, ← Int32.toInt_inj, vt_all] at *; omega)
    constructor
    · intro ro d z I J hn
      rw [xe_Archive_has]
      simp only [xr_all, xf_all, if_true, if_false, true_or, or_true, eq_self, ite_not, Bool.false_eq_true, ite_self, and_self, true_and, and_true, false_and, and_false, not_true_eq_false, not_false_eq_true, xj_Archive_has, xb_Archive_has_0, xb_Archive_has_18, xb_Archive_has_19, q2, hn, vh_sh n hn2, q]
    · intro ro d z I J hm
      rw [xe_Mo_areAnswers]
      simp only [xr_all, xf_all, if_true, if_false, true_or, or_true, eq_self, ite_not, Bool.false_eq_true, ite_self, and_self, true_and, and_true, false_and, and_false, not_true_eq_false, not_false_eq_true, xj_Mo_areAnswers, xb_Mo_areAnswers_0, xb_Mo_areAnswers_22, xb_Mo_areAnswers_23, q2, g4, g5, hm, vh_sh n hn2, q]
  · left
    refine ⟨s, hs, by omega, rfl, ?_, ?_⟩
    · intro ro d z I J hn
      rw [xe_Archive_has]
      simp only [xr_all, xf_all, if_true, if_false, true_or, or_true, eq_self, ite_not, Bool.false_eq_true, ite_self, and_self, true_and, and_true, false_and, and_false, not_true_eq_false, not_false_eq_true, xj_Archive_has, xb_Archive_has_0, xb_Archive_has_18, xb_Archive_has_19, hn, vh_sh n hn2]
      (simp (disch := omega) only [vz_all, if_true, if_false, true_or, or_true, eq_self, ite_not, Bool.false_eq_true, ite_self, and_self, true_and, and_true, false_and, and_false, not_true_eq_false, not_false_eq_true, false_or, or_false])
    · intro ro d z I J hm
      rw [xe_Mo_areAnswers]
      simp only [xr_all, xf_all, if_true, if_false, true_or, or_true, eq_self, ite_not, Bool.false_eq_true, ite_self, and_self, true_and, and_true, false_and, and_false, not_true_eq_false, not_false_eq_true, xj_Mo_areAnswers, xb_Mo_areAnswers_0, xb_Mo_areAnswers_22, xb_Mo_areAnswers_23, g4, g5, hm, vh_sh n hn2]
      (simp (disch := omega) only [vz_all, if_true, if_false, true_or, or_true, eq_self, ite_not, Bool.false_eq_true, ite_self, and_self, true_and, and_true, false_and, and_false, not_true_eq_false, not_false_eq_true, false_or, or_false])
/-- may these be weighed: both say the same -/
theorem vh_can (n : Nat) (hn2 : n ≤ 20) (x : Int32) : (∃ s : Nat, s < 2 ^ n ∧ s < 2 ^ 20 ∧ vb_ct s 20 ≤ 6 ∧ x = nI s ∧ (∀ (ro : xv_Ro) (d : Nat) (z : Nat × Nat) (I : Nat → Nat → Int32) (J : Nat → Nat → Int64), I 25 2 = nI n → xv_evm ro (d + 2) 33 [.ref 0, .int x] (z, xv_mk I J) = some (some (.int 1), (z, xv_mk I J))) ∧ ∀ (ro : xv_Ro) (d : Nat) (z : Nat × Nat) (I : Nat → Nat → Int32) (J : Nat → Nat → Int64), I 168 301 = nI n → xv_evm ro (d + 3) 112 [.ref 167, .int x] (z, xv_mk I J) = some (some (.int 1), (z, xv_mk I J))) ∨ ((∀ (ro : xv_Ro) (d : Nat) (z : Nat × Nat) (I : Nat → Nat → Int32) (J : Nat → Nat → Int64), I 25 2 = nI n → xv_evm ro (d + 2) 33 [.ref 0, .int x] (z, xv_mk I J) = some (some (.int 0), (z, xv_mk I J))) ∧ ∀ (ro : xv_Ro) (d : Nat) (z : Nat × Nat) (I : Nat → Nat → Int32) (J : Nat → Nat → Int64), I 168 301 = nI n → xv_evm ro (d + 3) 112 [.ref 167, .int x] (z, xv_mk I J) = some (some (.int 0), (z, xv_mk I J))) := by
  rcases vh_has n hn2 x with ⟨s, hs, hs2, rfl, c1, c2⟩ | ⟨c1, c2⟩
  · have hb := vb_ct_le s 32
    have e1 := vq_NnI (show s < 2 ^ 32 by omega)
    have l1 := nI_l (show s < 2 ^ 31 by omega)
    have e20 : vb_ct s 32 = vb_ct s 20 := by
      have : ∀ k, vb_ct s (20 + k) = vb_ct s 20 := by
        intro k
        induction k with
        | zero => rfl
        | succ k ih =>
          show vb_ct s (20 + k) + (if s.testBit (20 + k) = true then 1 else 0) = _
          rw [Nat.testBit_lt_two_pow (Nat.lt_of_lt_of_le hs2 (Nat.pow_le_pow_right (by omega) (by omega))), ih]
          rfl
      exact this 12
    have z1 : ((1 : Int32) = 0) = False := eq_false (by decide)
    by_cases h6 : vb_ct s 32 ≤ 6
    · left
      have g : (6 < nI (vb_ct s 32)) = False := by (simp (disch := omega) only [vz_all, if_true, if_false, true_or, or_true, eq_self, ite_not, Bool.false_eq_true, ite_self, and_self, true_and, and_true, false_and, and_false, not_true_eq_false, not_false_eq_true, false_or, or_false])
      refine ⟨s, hs, hs2, by rw [← e20]; exact h6, rfl, ?_, ?_⟩
      · intro ro d z I J hn
        have c3 := c1 ro (d + 1) z I J hn
        rw [xe_Ct_canWeigh]
        simp only [xr_all, xf_all, if_true, if_false, true_or, or_true, eq_self, ite_not, Bool.false_eq_true, ite_self, and_self, true_and, and_true, false_and, and_false, not_true_eq_false, not_false_eq_true, xj_Ct_canWeigh, xb_Ct_canWeigh_0, xb_Ct_canWeigh_24, xb_Ct_canWeigh_25, c3, z1, xq_bitCount, e1, g]
      · intro ro d z I J hn
        have c3 := c2 ro (d + 2) z I J hn
        have hbm := vl_bits ro (d + 1) (z, xv_mk I J) (m := s) (by omega)
        rw [xe_Mo_areWeighed]
        simp only [xr_all, xf_all, if_true, if_false, true_or, or_true, eq_self, ite_not, Bool.false_eq_true, ite_self, and_self, true_and, and_true, false_and, and_false, not_true_eq_false, not_false_eq_true, xj_Mo_areWeighed, xb_Mo_areWeighed_0, xb_Mo_areWeighed_22, xb_Mo_areWeighed_23, c3, z1, l1, hbm, g]
    · right
      have g : (6 < nI (vb_ct s 32)) = True := by (simp (disch := omega) only [vz_all, if_true, if_false, true_or, or_true, eq_self, ite_not, Bool.false_eq_true, ite_self, and_self, true_and, and_true, false_and, and_false, not_true_eq_false, not_false_eq_true, false_or, or_false])
      constructor
      · intro ro d z I J hn
        have c3 := c1 ro (d + 1) z I J hn
        rw [xe_Ct_canWeigh]
        simp only [xr_all, xf_all, if_true, if_false, true_or, or_true, eq_self, ite_not, Bool.false_eq_true, ite_self, and_self, true_and, and_true, false_and, and_false, not_true_eq_false, not_false_eq_true, xj_Ct_canWeigh, xb_Ct_canWeigh_0, xb_Ct_canWeigh_24, xb_Ct_canWeigh_25, c3, z1, xq_bitCount, e1, g]
      · intro ro d z I J hn
        have c3 := c2 ro (d + 2) z I J hn
        have hbm := vl_bits ro (d + 1) (z, xv_mk I J) (m := s) (by omega)
        rw [xe_Mo_areWeighed]
        simp only [xr_all, xf_all, if_true, if_false, true_or, or_true, eq_self, ite_not, Bool.false_eq_true, ite_self, and_self, true_and, and_true, false_and, and_false, not_true_eq_false, not_false_eq_true, xj_Mo_areWeighed, xb_Mo_areWeighed_0, xb_Mo_areWeighed_22, xb_Mo_areWeighed_23, c3, z1, l1, hbm, g]
  · right
    constructor
    · intro ro d z I J hn
      have c3 := c1 ro (d + 1) z I J hn
      rw [xe_Ct_canWeigh]
      simp only [xr_all, xf_all, if_true, if_false, true_or, or_true, eq_self, ite_not, Bool.false_eq_true, ite_self, and_self, true_and, and_true, false_and, and_false, not_true_eq_false, not_false_eq_true, xj_Ct_canWeigh, xb_Ct_canWeigh_0, xb_Ct_canWeigh_24, xb_Ct_canWeigh_25, c3]
    · intro ro d z I J hn
      have c3 := c2 ro (d + 2) z I J hn
      rw [xe_Mo_areWeighed]
      simp only [xr_all, xf_all, if_true, if_false, true_or, or_true, eq_self, ite_not, Bool.false_eq_true, ite_self, and_self, true_and, and_true, false_and, and_false, not_true_eq_false, not_false_eq_true, xj_Mo_areWeighed, xb_Mo_areWeighed_0, xb_Mo_areWeighed_22, xb_Mo_areWeighed_23, c3]
