/-! law: the class's reader, small steps; behind a fault -/
def l_cf (I W : Nat → Nat → Int32) : Prop := (∀ a, a ≠ 1 → a ≠ 13 → a ≠ 14 → a ≠ 15 → W a = I a) ∧ (∀ j, j ≠ 3 → j ≠ 4 → W 1 j = I 1 j) ∧ ∀ j, j ≠ 7 → W 13 j = I 13 j
theorem l_cfr (I : Nat → Nat → Int32) : l_cf I I := ⟨fun _ _ _ _ _ => rfl, fun _ _ _ => rfl, fun _ _ => rfl⟩
theorem l_cft {I V W : Nat → Nat → Int32} (h1 : l_cf I V) (h2 : l_cf V W) : l_cf I W := ⟨fun a q1 q2 q3 q4 => (h2.1 a q1 q2 q3 q4).trans (h1.1 a q1 q2 q3 q4), fun j q1 q2 => (h2.2.1 j q1 q2).trans (h1.2.1 j q1 q2), fun j q => (h2.2.2 j q).trans (h1.2.2 j q)⟩
theorem l_cf_t {I W : Nat → Nat → Int32} (h : tl_fr I W) : l_cf I W := ⟨fun a q1 _ _ _ => h.1 a q1, fun j q1 q2 => h.2 j q1 q2, fun j _ => by rw [h.1 13 (by omega)]⟩
theorem l_cf3 (I : Nat → Nat → Int32) (x : Int32) : l_cf I (xv_u2 I 1 3 x) := l_cf_t (tl_fr3 I x)
theorem l_cf4 (I : Nat → Nat → Int32) (x : Int32) : l_cf I (xv_u2 I 1 4 x) := l_cf_t (tl_fr4 I x)
theorem l_inB {x : Int32} {n : Nat} (h1 : ¬ x < 0) (h2 : ¬ nI n ≤ x) (hn : n < 2 ^ 31) : xv_inB x n = true := by
  have g1 : (0 : Int32).toInt ≤ x.toInt := by
    have := Int32.not_lt.mp h1
    exact Int32.le_iff_toInt_le.mp this
  have g2 : x.toInt < (nI n).toInt := by
    have := Int32.not_le.mp h2
    exact Int32.lt_iff_toInt_lt.mp this
  rw [nI_toInt hn] at g2
  rw [show (0 : Int32).toInt = 0 from by decide] at g1
  unfold xv_inB
  rw [decide_eq_true g1, decide_eq_true g2]
  rfl
theorem xq_ladd_any (ro : xv_Ro) (d : Nat) (z : Nat × Nat) (I : Nat → Nat → Int32) (J : Nat → Nat → Int64) (a b : Int32) : ∃ W, xv_evm ro d 207 [.ref 13, .int a, .int b] (z, xv_mk I J) = some (none, (z, xv_mk W J)) ∧ l_cf I W ∧ W 1 = I 1 := by
  rw [xe_Law_add]
  by_cases c1 : I 13 7 < 0
  · exact ⟨I, by simp only [xr_all, xf_all, if_true, if_false, true_or, or_true, eq_self, ite_not, Bool.false_eq_true, ite_self, and_self, true_and, and_true, false_and, and_false, not_true_eq_false, not_false_eq_true, xj_Law_add, xb_Law_add_0, xb_Law_add_47, c1], l_cfr I, rfl⟩
  · by_cases c2 : 240 ≤ I 13 7
    · exact ⟨I, by simp only [xr_all, xf_all, if_true, if_false, true_or, or_true, eq_self, ite_not, Bool.false_eq_true, ite_self, and_self, true_and, and_true, false_and, and_false, not_true_eq_false, not_false_eq_true, xj_Law_add, xb_Law_add_0, xb_Law_add_47, c1, c2], l_cfr I, rfl⟩
    · have g := l_inB (n := 240) c1 c2 (by omega)
      have r1 : ∀ k y, xv_u2 I 14 k y 13 7 = I 13 7 := fun k y => by rw [xu_ne (by omega)]
      have r2 : ∀ k y k2 y2, xv_u2 (xv_u2 I 14 k y) 15 k2 y2 13 7 = I 13 7 := fun k y k2 y2 => by rw [xu_ne (by omega), xu_ne (by omega)]
      refine ⟨xv_u2 (xv_u2 (xv_u2 I 14 (I 13 7).toNatClampNeg a) 15 (I 13 7).toNatClampNeg b) 13 7 (I 13 7 + 1), by simp only [xr_all, xf_all, if_true, if_false, true_or, or_true, eq_self, ite_not, Bool.false_eq_true, ite_self, and_self, true_and, and_true, false_and, and_false, not_true_eq_false, not_false_eq_true, xj_Law_add, xb_Law_add_0, xb_Law_add_47, c1, c2, g, r1, r2], ⟨fun a q1 q2 q3 q4 => by (repeat (first | rw [xu_ne2 (by omega)] | rw [xu_ne (by omega)] | rw [xu_eq])), fun j q1 q2 => by (repeat (first | rw [xu_ne2 (by omega)] | rw [xu_ne (by omega)] | rw [xu_eq])), fun j q => by (repeat (first | rw [xu_ne2 (by omega)] | rw [xu_ne (by omega)] | rw [xu_eq]))⟩, by (repeat (first | rw [xu_ne2 (by omega)] | rw [xu_ne (by omega)] | rw [xu_eq]))⟩
theorem xq_ladd (ro : xv_Ro) (d : Nat) (z : Nat × Nat) (I : Nat → Nat → Int32) (J : Nat → Nat → Int64) {s : Nat} (hs : I 13 7 = nI s) (h : s < 240) (a b : Int32) : xv_evm ro d 207 [.ref 13, .int a, .int b] (z, xv_mk I J) = some (none, (z, xv_mk (xv_u2 (xv_u2 (xv_u2 I 14 s a) 15 s b) 13 7 (nI (s + 1))) J)) := by
  have g1 : (nI s < 0) = False := by (simp (disch := omega) only [vz_all, if_true, if_false, true_or, or_true, eq_self, ite_not, Bool.false_eq_true, ite_self, and_self, true_and, and_true, false_and, and_false, not_true_eq_false, not_false_eq_true, false_or, or_false])
  have g2 : (240 ≤ nI s) = False := by (simp (disch := omega) only [vz_all, if_true, if_false, true_or, or_true, eq_self, ite_not, Bool.false_eq_true, ite_self, and_self, true_and, and_true, false_and, and_false, not_true_eq_false, not_false_eq_true, false_or, or_false])
  have g3 : xv_inB (nI s) 240 = true := by (simp (disch := omega) only [vz_all, if_true, if_false, true_or, or_true, eq_self, ite_not, Bool.false_eq_true, ite_self, and_self, true_and, and_true, false_and, and_false, not_true_eq_false, not_false_eq_true, false_or, or_false])
  have r1 : ∀ k y, xv_u2 I 14 k y 13 7 = nI s := fun k y => by rw [xu_ne (by omega)]; exact hs
  have r2 : ∀ k y k2 y2, xv_u2 (xv_u2 I 14 k y) 15 k2 y2 13 7 = nI s := fun k y k2 y2 => by rw [xu_ne (by omega), xu_ne (by omega)]; exact hs
  rw [xe_Law_add]
  simp only [xr_all, xf_all, if_true, if_false, true_or, or_true, eq_self, ite_not, Bool.false_eq_true, ite_self, and_self, true_and, and_true, false_and, and_false, not_true_eq_false, not_false_eq_true, xj_Law_add, xb_Law_add_0, xb_Law_add_47, hs, g1, g2, g3, r1, r2, nI_clamp (show s < 2 ^ 31 by omega), nI_1]
/-- behind a fault -/
theorem l_x_number (ro : xv_Ro) (e : Nat) (z : Nat × Nat) (I : Nat → Nat → Int32) (J : Nat → Nat → Int64) (h : (I 1 4 = 0) = False) : xv_evm ro (e + 2) 220 [.ref 1] (z, xv_mk I J) = some (some (.int 0), (z, xv_mk I J)) := by
  have hd := xq_digit_x ro e z I J h
  have hp := xq_Tape_place ro (e + 1) z I J
  have hr := xq_refuse_x ro (e + 1) z I J 1 (I 1 3) h
  have m1 : ((0 : Int32) ≤ -1) = False := eq_false (by decide)
  have m2 : ((-1 : Int32) < 0) = True := eq_true (by decide)
  have m3 : ((5 : Int32) ≤ 0) = False := eq_false (by decide)
  rw [xe_LawReader_number]
  simp only [xr_all, xf_all, if_true, if_false, true_or, or_true, eq_self, ite_not, Bool.false_eq_true, ite_self, and_self, true_and, and_true, false_and, and_false, not_true_eq_false, not_false_eq_true, xj_LawReader_number, xb_LawReader_number_0, xb_LawReader_number_18, xb_LawReader_number_49, xb_LawReader_number_64, hd, hp, hr, m1]
  conv => lhs; unfold xb_LawReader_number_22
  simp only [xr_all, xf_all, if_true, if_false, true_or, or_true, eq_self, ite_not, Bool.false_eq_true, ite_self, and_self, true_and, and_true, false_and, and_false, not_true_eq_false, not_false_eq_true, xj_LawReader_number, xb_LawReader_number_0, xb_LawReader_number_18, xb_LawReader_number_49, xb_LawReader_number_64, m2, m3]
theorem l_x_factor (ro : xv_Ro) (e : Nat) (z : Nat × Nat) (I : Nat → Nat → Int32) (J : Nat → Nat → Int64) (x2 : Int32) (h : (I 1 4 = 0) = False) : ∃ W, xv_evm ro (e + 3) 219 [.ref 1, .ref 13, .int x2] (z, xv_mk I J) = some (none, (z, xv_mk W J)) ∧ l_cf I W ∧ W 1 4 = I 1 4 := by
  have hs := xq_sign_x ro (e + 2) z I J h
  have hn := l_x_number ro e z I J h
  have hl := xq_isLetter_x ro (e + 2) (z, xv_mk I J)
  obtain ⟨W, w1, w2, w3⟩ := xq_ladd_any ro (e + 2) z I J 48 0
  have m1 : ((-1 : Int32) = 91) = False := eq_false (by decide)
  refine ⟨W, ?_, w2, by rw [w3]⟩
  rw [xe_LawReader_factor]
  simp only [xr_all, xf_all, if_true, if_false, true_or, or_true, eq_self, ite_not, Bool.false_eq_true, ite_self, and_self, true_and, and_true, false_and, and_false, not_true_eq_false, not_false_eq_true, xj_LawReader_factor, xb_LawReader_factor_0, xb_LawReader_factor_40, xb_LawReader_factor_60, xb_LawReader_factor_70, hs, m1, hl, hn, w1]
theorem l_d_factors (ro : xv_Ro) (e : Nat) (z : Nat × Nat) (I : Nat → Nat → Int32) (J : Nat → Nat → Int64) (x2 : Int32) (i : Int32) : xv_ev ro (e + 4) xm_LawReader_factors xb_LawReader_factors_14 [some (.ref 1), some (.ref 13), some (.int x2), some (.int (-1)), some (.int i)] [] (z, xv_mk I J) = some (none, (z, xv_mk I J)) := by
  have m1 : ((-1 : Int32) = 42) = False := eq_false (by decide)
  have m2 : ((-1 : Int32) = 47) = False := eq_false (by decide)
  have m3 : ((-1 : Int32) = 37) = False := eq_false (by decide)
  conv => lhs; unfold xb_LawReader_factors_14
  by_cases c : 240 ≤ i
  · simp only [xr_all, xf_all, if_true, if_false, true_or, or_true, eq_self, ite_not, Bool.false_eq_true, ite_self, and_self, true_and, and_true, false_and, and_false, not_true_eq_false, not_false_eq_true, xj_LawReader_factors, xb_LawReader_factors_0, xb_LawReader_factors_40, xb_LawReader_factors_67, c]
  · simp only [xr_all, xf_all, if_true, if_false, true_or, or_true, eq_self, ite_not, Bool.false_eq_true, ite_self, and_self, true_and, and_true, false_and, and_false, not_true_eq_false, not_false_eq_true, xj_LawReader_factors, xb_LawReader_factors_0, xb_LawReader_factors_40, xb_LawReader_factors_67, c, m1, m2, m3]
theorem l_x_factors (ro : xv_Ro) (e : Nat) (z : Nat × Nat) (I : Nat → Nat → Int32) (J : Nat → Nat → Int64) (x2 : Int32) (h : (I 1 4 = 0) = False) : ∃ W, xv_evm ro (e + 4) 218 [.ref 1, .ref 13, .int x2] (z, xv_mk I J) = some (none, (z, xv_mk W J)) ∧ l_cf I W ∧ W 1 4 = I 1 4 := by
  obtain ⟨W, w1, w2, w3⟩ := l_x_factor ro e z I J x2 h
  have hs := xq_sign_x ro (e + 3) z W J (by rw [w3]; exact h)
  have hd := l_d_factors ro e z W J x2 0
  refine ⟨W, ?_, w2, w3⟩
  rw [xe_LawReader_factors]
  simp only [xr_all, xf_all, if_true, if_false, true_or, or_true, eq_self, ite_not, Bool.false_eq_true, ite_self, and_self, true_and, and_true, false_and, and_false, not_true_eq_false, not_false_eq_true, xj_LawReader_factors, xb_LawReader_factors_0, xb_LawReader_factors_40, xb_LawReader_factors_67, w1, hs, hd]
theorem l_d_terms (ro : xv_Ro) (e : Nat) (z : Nat × Nat) (I : Nat → Nat → Int32) (J : Nat → Nat → Int64) (x2 : Int32) (i : Int32) : xv_ev ro (e + 5) xm_LawReader_terms xb_LawReader_terms_14 [some (.ref 1), some (.ref 13), some (.int x2), some (.int (-1)), some (.int i)] [] (z, xv_mk I J) = some (none, (z, xv_mk I J)) := by
  have m1 : ((-1 : Int32) = 43) = False := eq_false (by decide)
  have m2 : ((-1 : Int32) = 45) = False := eq_false (by decide)
  conv => lhs; unfold xb_LawReader_terms_14
  by_cases c : 240 ≤ i
  · simp only [xr_all, xf_all, if_true, if_false, true_or, or_true, eq_self, ite_not, Bool.false_eq_true, ite_self, and_self, true_and, and_true, false_and, and_false, not_true_eq_false, not_false_eq_true, xj_LawReader_terms, xb_LawReader_terms_0, xb_LawReader_terms_34, xb_LawReader_terms_61, c]
  · simp only [xr_all, xf_all, if_true, if_false, true_or, or_true, eq_self, ite_not, Bool.false_eq_true, ite_self, and_self, true_and, and_true, false_and, and_false, not_true_eq_false, not_false_eq_true, xj_LawReader_terms, xb_LawReader_terms_0, xb_LawReader_terms_34, xb_LawReader_terms_61, c, m1, m2]
theorem l_x_terms (ro : xv_Ro) (e : Nat) (z : Nat × Nat) (I : Nat → Nat → Int32) (J : Nat → Nat → Int64) (x2 : Int32) (h : (I 1 4 = 0) = False) : ∃ W, xv_evm ro (e + 5) 217 [.ref 1, .ref 13, .int x2] (z, xv_mk I J) = some (none, (z, xv_mk W J)) ∧ l_cf I W ∧ W 1 4 = I 1 4 := by
  obtain ⟨W, w1, w2, w3⟩ := l_x_factors ro e z I J x2 h
  have hs := xq_sign_x ro (e + 4) z W J (by rw [w3]; exact h)
  have hd := l_d_terms ro e z W J x2 0
  refine ⟨W, ?_, w2, w3⟩
  rw [xe_LawReader_terms]
  simp only [xr_all, xf_all, if_true, if_false, true_or, or_true, eq_self, ite_not, Bool.false_eq_true, ite_self, and_self, true_and, and_true, false_and, and_false, not_true_eq_false, not_false_eq_true, xj_LawReader_terms, xb_LawReader_terms_0, xb_LawReader_terms_34, xb_LawReader_terms_61, w1, hs, hd]
/-- from behind the first side of a comparison, behind a fault -/
theorem l_x_test59 (ro : xv_Ro) (e : Nat) (z : Nat × Nat) (I : Nat → Nat → Int32) (J : Nat → Nat → Int64) (x2 x3 x4 : Int32) (h : (I 1 4 = 0) = False) : ∃ W, xv_ev ro (e + 6) xm_LawReader_test xb_LawReader_test_59 [some (.ref 1), some (.ref 13), some (.int x2), some (.int x3), some (.int x4)] [] (z, xv_mk I J) = some (none, (z, xv_mk W J)) ∧ l_cf I W ∧ W 1 4 = I 1 4 := by
  obtain ⟨x, hst⟩ := xq_step_any ro (e + 5) z I J
  have h1 : xv_u2 I 1 3 x 1 4 = I 1 4 := xu_ne2 (by omega)
  obtain ⟨W, w1, w2, w3⟩ := l_x_terms ro e z (xv_u2 I 1 3 x) J x2 (by rw [h1]; exact h)
  obtain ⟨V, v1, v2, v3⟩ := xq_ladd_any ro (e + 5) z W J x4 0
  refine ⟨V, ?_, l_cft (l_cf3 I x) (l_cft w2 v2), by rw [v3, w3, h1]⟩
  conv => lhs; unfold xb_LawReader_test_59
  simp only [xr_all, xf_all, if_true, if_false, true_or, or_true, eq_self, ite_not, Bool.false_eq_true, ite_self, and_self, true_and, and_true, false_and, and_false, not_true_eq_false, not_false_eq_true, xj_LawReader_test, xb_LawReader_test_0, xb_LawReader_test_59, xb_LawReader_test_79, xb_LawReader_test_115, xb_LawReader_test_129, hst, w1, v1]
theorem l_x_test (ro : xv_Ro) (e : Nat) (z : Nat × Nat) (I : Nat → Nat → Int32) (J : Nat → Nat → Int64) (x2 : Int32) (h : (I 1 4 = 0) = False) : ∃ W, xv_evm ro (e + 6) 216 [.ref 1, .ref 13, .int x2] (z, xv_mk I J) = some (none, (z, xv_mk W J)) ∧ l_cf I W ∧ W 1 4 = I 1 4 := by
  have hs := xq_sign_x ro (e + 5) z I J h
  obtain ⟨W, w1, w2, w3⟩ := l_x_terms ro e z I J x2 h
  have hW : (W 1 4 = 0) = False := by rw [w3]; exact h
  have hs2 := xq_sign_x ro (e + 5) z W J hW
  have hp := xq_Tape_place ro (e + 5) z W J
  have hr := xq_refuse_x ro (e + 5) z W J 1 (W 1 3) hW
  obtain ⟨V, v1, v2, v3⟩ := l_x_test59 ro e z W J x2 (-1) (-1) hW
  have m1 : ((-1 : Int32) = 33) = False := eq_false (by decide)
  have m2 : ((-1 : Int32) = 40) = False := eq_false (by decide)
  have m3 : ((-1 : Int32) = 60) = False := eq_false (by decide)
  have m4 : ((-1 : Int32) = 62) = False := eq_false (by decide)
  have m5 : ((-1 : Int32) = 61) = False := eq_false (by decide)
  refine ⟨V, ?_, l_cft w2 v2, by rw [v3, w3]⟩
  rw [xe_LawReader_test]
  simp only [xr_all, xf_all, if_true, if_false, true_or, or_true, eq_self, ite_not, Bool.false_eq_true, ite_self, and_self, true_and, and_true, false_and, and_false, not_true_eq_false, not_false_eq_true, xj_LawReader_test, xb_LawReader_test_0, xb_LawReader_test_79, xb_LawReader_test_115, xb_LawReader_test_129, hs, m1, m2, w1, hs2, m3, m4, m5, hp, hr, v1]
theorem l_d_tests (ro : xv_Ro) (e : Nat) (z : Nat × Nat) (I : Nat → Nat → Int32) (J : Nat → Nat → Int64) (x2 : Int32) (i : Int32) (h : (I 1 4 = 0) = False) : xv_ev ro (e + 7) xm_LawReader_tests xb_LawReader_tests_8 [some (.ref 1), some (.ref 13), some (.int x2), some (.int i)] [] (z, xv_mk I J) = some (none, (z, xv_mk I J)) := by
  have ht := xq_take_x ro (e + 5) z I J (c := 38) h (by omega)
  rw [show nI 38 = (38 : Int32) from rfl] at ht
  conv => lhs; unfold xb_LawReader_tests_8
  by_cases c : 240 ≤ i
  · simp only [xr_all, xf_all, if_true, if_false, true_or, or_true, eq_self, ite_not, Bool.false_eq_true, ite_self, and_self, true_and, and_true, false_and, and_false, not_true_eq_false, not_false_eq_true, xj_LawReader_tests, xb_LawReader_tests_0, xb_LawReader_tests_43, c]
  · simp only [xr_all, xf_all, if_true, if_false, true_or, or_true, eq_self, ite_not, Bool.false_eq_true, ite_self, and_self, true_and, and_true, false_and, and_false, not_true_eq_false, not_false_eq_true, xj_LawReader_tests, xb_LawReader_tests_0, xb_LawReader_tests_43, c, ht]
theorem l_x_tests (ro : xv_Ro) (e : Nat) (z : Nat × Nat) (I : Nat → Nat → Int32) (J : Nat → Nat → Int64) (x2 : Int32) (h : (I 1 4 = 0) = False) : ∃ W, xv_evm ro (e + 7) 215 [.ref 1, .ref 13, .int x2] (z, xv_mk I J) = some (none, (z, xv_mk W J)) ∧ l_cf I W ∧ W 1 4 = I 1 4 := by
  obtain ⟨W, w1, w2, w3⟩ := l_x_test ro e z I J x2 h
  have hd := l_d_tests ro e z W J x2 0 (by rw [w3]; exact h)
  refine ⟨W, ?_, w2, w3⟩
  rw [xe_LawReader_tests]
  simp only [xr_all, xf_all, if_true, if_false, true_or, or_true, eq_self, ite_not, Bool.false_eq_true, ite_self, and_self, true_and, and_true, false_and, and_false, not_true_eq_false, not_false_eq_true, xj_LawReader_tests, xb_LawReader_tests_0, xb_LawReader_tests_43, w1, hd]
theorem l_d_parts (ro : xv_Ro) (e : Nat) (z : Nat × Nat) (I : Nat → Nat → Int32) (J : Nat → Nat → Int64) (x2 : Int32) (i : Int32) (h : (I 1 4 = 0) = False) : xv_ev ro (e + 8) xm_LawReader_parts xb_LawReader_parts_8 [some (.ref 1), some (.ref 13), some (.int x2), some (.int i)] [] (z, xv_mk I J) = some (none, (z, xv_mk I J)) := by
  have ht := xq_take_x ro (e + 6) z I J (c := 124) h (by omega)
  rw [show nI 124 = (124 : Int32) from rfl] at ht
  conv => lhs; unfold xb_LawReader_parts_8
  by_cases c : 240 ≤ i
  · simp only [xr_all, xf_all, if_true, if_false, true_or, or_true, eq_self, ite_not, Bool.false_eq_true, ite_self, and_self, true_and, and_true, false_and, and_false, not_true_eq_false, not_false_eq_true, xj_LawReader_parts, xb_LawReader_parts_0, xb_LawReader_parts_43, c]
  · simp only [xr_all, xf_all, if_true, if_false, true_or, or_true, eq_self, ite_not, Bool.false_eq_true, ite_self, and_self, true_and, and_true, false_and, and_false, not_true_eq_false, not_false_eq_true, xj_LawReader_parts, xb_LawReader_parts_0, xb_LawReader_parts_43, c, ht]
theorem l_x_parts (ro : xv_Ro) (e : Nat) (z : Nat × Nat) (I : Nat → Nat → Int32) (J : Nat → Nat → Int64) (x2 : Int32) (h : (I 1 4 = 0) = False) : ∃ W, xv_evm ro (e + 8) 214 [.ref 1, .ref 13, .int x2] (z, xv_mk I J) = some (none, (z, xv_mk W J)) ∧ l_cf I W ∧ W 1 4 = I 1 4 := by
  obtain ⟨W, w1, w2, w3⟩ := l_x_tests ro e z I J x2 h
  have hd := l_d_parts ro e z W J x2 0 (by rw [w3]; exact h)
  refine ⟨W, ?_, w2, w3⟩
  rw [xe_LawReader_parts]
  simp only [xr_all, xf_all, if_true, if_false, true_or, or_true, eq_self, ite_not, Bool.false_eq_true, ite_self, and_self, true_and, and_true, false_and, and_false, not_true_eq_false, not_false_eq_true, xj_LawReader_parts, xb_LawReader_parts_0, xb_LawReader_parts_43, w1, hd]
/-! a number, in both -/
abbrev l_P : Type := (Nat × Nat) ⊕ (Nat × Nat)
def l_nu (b : Nat → Nat) (n : Nat) : Nat → Nat → Nat → l_P
  | 0, p, acc => if (tp_d b n p).isSome = true then .inl (2, p) else .inr (acc, p)
  | m + 1, p, acc => match tp_d b n p with
    | none => .inr (acc, p)
    | some v => l_nu b n m (p + 1) (10 * acc + v)
theorem l_nu_b {b : Nat → Nat} {n : Nat} : ∀ (m p acc a p' : Nat), l_nu b n m p acc = .inr (a, p') → a + 1 ≤ (acc + 1) * 10 ^ m ∧ p ≤ p' := by
  intro m
  induction m with
  | zero =>
    intro p acc a p' h
    unfold l_nu at h
    by_cases c : (tp_d b n p).isSome = true
    · rw [if_pos c] at h; cases h
    · rw [if_neg c] at h; cases h; simp
  | succ m ih =>
    intro p acc a p' h
    unfold l_nu at h
    cases hd : tp_d b n p with
    | none =>
      rw [hd] at h
      cases h
      have : 1 ≤ 10 ^ (m + 1) := Nat.one_le_pow _ _ (by omega)
      exact ⟨Nat.le_mul_of_pos_right _ this, Nat.le_refl _⟩
    | some v =>
      rw [hd] at h
      have h := ih (p + 1) (10 * acc + v) a p' h
      have hv := (tp_d_s hd).2.1
      refine ⟨Nat.le_trans h.1 ?_, by omega⟩
      rw [Nat.pow_succ, Nat.mul_comm (10 ^ m) 10, ← Nat.mul_assoc]
      exact Nat.mul_le_mul_right _ (by omega)
theorem l_nu_q {b : Nat → Nat} {n : Nat} : ∀ (m p acc f q : Nat), l_nu b n m p acc = .inl (f, q) → f = 2 ∧ q < n := by
  intro m
  induction m with
  | zero =>
    intro p acc f q h
    unfold l_nu at h
    by_cases c : (tp_d b n p).isSome = true
    · rw [if_pos c] at h; cases h
      cases hd : tp_d b n p with
      | none => rw [hd] at c; exact absurd c (by decide)
      | some v => exact ⟨rfl, (tp_d_s hd).1⟩
    · rw [if_neg c] at h; cases h
  | succ m ih =>
    intro p acc f q h
    unfold l_nu at h
    cases hd : tp_d b n p with
    | none => rw [hd] at h; cases h
    | some v => rw [hd] at h; exact ih _ _ f q h
theorem l_nu_c (ro : xv_Ro) (e : Nat) (z : Nat × Nat) (J : Nat → Nat → Int64) {b : Nat → Nat} {n : Nat} : ∀ (m p acc : Nat) (I : Nat → Nat → Int32), m ≤ 5 → (tp_d b n p = none → tp_C b n p I) → (∀ v, tp_d b n p = some v → tp_C b n (p + 1) I) → ∃ (W : Nat → Nat → Int32) (v : Int32), xv_ev ro (e + 2) xm_LawReader_number xb_LawReader_number_22 [some (.ref 1), some (.int (match tp_d b n p with | none => -1 | some v => nI v)), some (.int (nI acc)), some (.int (nI (5 - m)))] [] (z, xv_mk I J) = some (some (.int v), (z, xv_mk W J)) ∧ tl_fr I W ∧ (∀ f q, l_nu b n m p acc = .inl (f, q) → W 1 4 = -1000 * nI f - nI q) ∧ (∀ a p', l_nu b n m p acc = .inr (a, p') → v = nI a ∧ tp_C b n p' W) := by
  intro m
  induction m with
  | zero =>
    intro p acc I hm hN hS
    have g5 : (5 ≤ nI (5 - 0)) = True := eq_true (by decide)
    cases hd : tp_d b n p with
    | none =>
      dsimp only
      have hC := hN hd
      refine ⟨I, nI acc, ?_, tl_frr I, fun f q h => ?_, fun a p' h => ?_⟩
      · have m2 : ((-1 : Int32) < 0) = True := eq_true (by decide)
        conv => lhs; unfold xb_LawReader_number_22
        simp only [xr_all, xf_all, if_true, if_false, true_or, or_true, eq_self, ite_not, Bool.false_eq_true, ite_self, and_self, true_and, and_true, false_and, and_false, not_true_eq_false, not_false_eq_true, xj_LawReader_number, xb_LawReader_number_0, xb_LawReader_number_18, xb_LawReader_number_49, xb_LawReader_number_64, g5, m2]
      · unfold l_nu at h
        rw [hd, if_neg (by decide)] at h; cases h
      · unfold l_nu at h
        rw [hd, if_neg (by decide)] at h; cases h
        exact ⟨rfl, hC⟩
    | some v =>
      dsimp only
      have hC := hS v hd
      obtain ⟨q1, q2, q3⟩ := tp_d_s hd
      have hn := hC.1
      have hp := xq_Tape_place ro (e + 1) z I J
      rw [hC.2.2.2.1] at hp
      have hr := xq_refuse ro (e + 1) z I J 2 (nI p) hC.2.2.2.2.1
      have m2 : (nI v < 0) = False := by (simp (disch := omega) only [vz_all, if_true, if_false, true_or, or_true, eq_self, ite_not, Bool.false_eq_true, ite_self, and_self, true_and, and_true, false_and, and_false, not_true_eq_false, not_false_eq_true, false_or, or_false])
      refine ⟨_, nI acc, ?_, tl_fr4 I (-1000 * 2 - nI p), fun f q h => ?_, fun a p' h => ?_⟩
      · conv => lhs; unfold xb_LawReader_number_22
        simp only [xr_all, xf_all, if_true, if_false, true_or, or_true, eq_self, ite_not, Bool.false_eq_true, ite_self, and_self, true_and, and_true, false_and, and_false, not_true_eq_false, not_false_eq_true, xj_LawReader_number, xb_LawReader_number_0, xb_LawReader_number_18, xb_LawReader_number_49, xb_LawReader_number_64, g5, m2, hp, nI_pred, hr]
      · unfold l_nu at h
        rw [hd, if_pos (show (some v).isSome = true from rfl)] at h; cases h
        exact xu_eq
      · unfold l_nu at h
        rw [hd, if_pos (show (some v).isSome = true from rfl)] at h; cases h
  | succ m ih =>
    intro p acc I hm hN hS
    have g5 : (5 ≤ nI (5 - (m + 1))) = False := by (simp (disch := omega) only [vz_all, if_true, if_false, true_or, or_true, eq_self, ite_not, Bool.false_eq_true, ite_self, and_self, true_and, and_true, false_and, and_false, not_true_eq_false, not_false_eq_true, false_or, or_false])
    cases hd : tp_d b n p with
    | none =>
      dsimp only
      have hC := hN hd
      refine ⟨I, nI acc, ?_, tl_frr I, fun f q h => ?_, fun a p' h => ?_⟩
      · have m2 : ((-1 : Int32) < 0) = True := eq_true (by decide)
        conv => lhs; unfold xb_LawReader_number_22
        simp only [xr_all, xf_all, if_true, if_false, true_or, or_true, eq_self, ite_not, Bool.false_eq_true, ite_self, and_self, true_and, and_true, false_and, and_false, not_true_eq_false, not_false_eq_true, xj_LawReader_number, xb_LawReader_number_0, xb_LawReader_number_18, xb_LawReader_number_49, xb_LawReader_number_64, g5, m2]
      · unfold l_nu at h
        rw [hd] at h; cases h
      · unfold l_nu at h
        rw [hd] at h; cases h
        exact ⟨rfl, hC⟩
    | some v =>
      dsimp only
      have hC := hS v hd
      obtain ⟨q1, q2, q3⟩ := tp_d_s hd
      have m2 : (nI v < 0) = False := by (simp (disch := omega) only [vz_all, if_true, if_false, true_or, or_true, eq_self, ite_not, Bool.false_eq_true, ite_self, and_self, true_and, and_true, false_and, and_false, not_true_eq_false, not_false_eq_true, false_or, or_false])
      have hdg := xq_digit ro e z I J hC
      have e1 : 10 * nI acc + nI v = nI (10 * acc + v) := by rw [show (10 : Int32) = nI 10 from rfl, pk_mul, nI_add]
      have e2 : nI (5 - (m + 1) + 1) = nI (5 - m) := congrArg nI (by omega)
      have en : l_nu b n (m + 1) p acc = l_nu b n m (p + 1) (10 * acc + v) := by
        conv => lhs; unfold l_nu
        rw [hd]
      rw [en]
      have hCp := hC.2.1
      cases hd2 : tp_d b n (p + 1) with
      | none =>
        rw [hd2] at hdg
        dsimp only at hdg
        obtain ⟨W, v2, k1, k2, k3, k4⟩ := ih (p + 1) (10 * acc + v) I (by omega) (fun _ => hC) (fun v q => by rw [hd2] at q; cases q)
        rw [hd2] at k1
        dsimp only at k1
        refine ⟨W, v2, ?_, k2, k3, k4⟩
        rw [← k1]
        conv => lhs; unfold xb_LawReader_number_22
        simp only [xr_all, xf_all, if_true, if_false, true_or, or_true, eq_self, ite_not, Bool.false_eq_true, ite_self, and_self, true_and, and_true, false_and, and_false, not_true_eq_false, not_false_eq_true, xj_LawReader_number, xb_LawReader_number_0, xb_LawReader_number_18, xb_LawReader_number_49, xb_LawReader_number_64, g5, m2, e1, hdg, nI_1, e2]
      | some v3 =>
        rw [hd2] at hdg
        dsimp only at hdg
        obtain ⟨r1, r2, r3⟩ := tp_d_s hd2
        obtain ⟨W, v2, k1, k2, k3, k4⟩ := ih (p + 1) (10 * acc + v) (xv_u2 I 1 3 (nI (p + 1 + 1))) (by omega) (fun q => by rw [hd2] at q; cases q) (fun v q => tp_Cs hC r1)
        rw [hd2] at k1
        dsimp only at k1
        refine ⟨W, v2, ?_, tl_frt (tl_fr3 I _) k2, k3, k4⟩
        rw [← k1]
        conv => lhs; unfold xb_LawReader_number_22
        simp only [xr_all, xf_all, if_true, if_false, true_or, or_true, eq_self, ite_not, Bool.false_eq_true, ite_self, and_self, true_and, and_true, false_and, and_false, not_true_eq_false, not_false_eq_true, xj_LawReader_number, xb_LawReader_number_0, xb_LawReader_number_18, xb_LawReader_number_49, xb_LawReader_number_64, g5, m2, e1, hdg, nI_1, e2]
/-- the class's number -/
theorem l_cnum (ro : xv_Ro) (e : Nat) (z : Nat × Nat) (J : Nat → Nat → Int64) {b : Nat → Nat} {n p : Nat} (I : Nat → Nat → Int32) (hC : tp_C b n p I) : ∃ (W : Nat → Nat → Int32) (v : Int32), xv_evm ro (e + 2) 220 [.ref 1] (z, xv_mk I J) = some (some (.int v), (z, xv_mk W J)) ∧ tl_fr I W ∧ (tp_d b n p = none → W 1 4 = -1000 * nI 1 - nI p) ∧ ((tp_d b n p).isSome = true → (∀ f q, l_nu b n 5 p 0 = .inl (f, q) → W 1 4 = -1000 * nI f - nI q) ∧ (∀ a p', l_nu b n 5 p 0 = .inr (a, p') → v = nI a ∧ tp_C b n p' W)) := by
  have hdg := xq_digit ro e z I J hC
  cases hd : tp_d b n p with
  | none =>
    rw [hd] at hdg
    dsimp only at hdg
    have hp := xq_Tape_place ro (e + 1) z I J
    rw [hC.2.2.2.1] at hp
    have hr := xq_refuse ro (e + 1) z I J 1 (nI p) hC.2.2.2.2.1
    have m1 : ((0 : Int32) ≤ -1) = False := eq_false (by decide)
    have m2 : ((-1 : Int32) < 0) = True := eq_true (by decide)
    have m3 : ((5 : Int32) ≤ 0) = False := eq_false (by decide)
    refine ⟨_, 0, ?_, tl_fr4 I (-1000 * 1 - nI p), fun _ => xu_eq, (fun q => by cases q)⟩
    rw [xe_LawReader_number]
    simp only [xr_all, xf_all, if_true, if_false, true_or, or_true, eq_self, ite_not, Bool.false_eq_true, ite_self, and_self, true_and, and_true, false_and, and_false, not_true_eq_false, not_false_eq_true, xj_LawReader_number, xb_LawReader_number_0, xb_LawReader_number_18, xb_LawReader_number_49, xb_LawReader_number_64, hdg, hp, hr, m1]
    conv => lhs; unfold xb_LawReader_number_22
    simp only [xr_all, xf_all, if_true, if_false, true_or, or_true, eq_self, ite_not, Bool.false_eq_true, ite_self, and_self, true_and, and_true, false_and, and_false, not_true_eq_false, not_false_eq_true, xj_LawReader_number, xb_LawReader_number_0, xb_LawReader_number_18, xb_LawReader_number_49, xb_LawReader_number_64, m2, m3]
  | some v =>
    rw [hd] at hdg
    dsimp only at hdg
    obtain ⟨q1, q2, q3⟩ := tp_d_s hd
    obtain ⟨W, v2, k1, k2, k3, k4⟩ := l_nu_c ro e z J 5 p 0 (xv_u2 I 1 3 (nI (p + 1))) (Nat.le_refl _) (fun q => by rw [hd] at q; cases q) (fun v q => tp_Cs hC q1)
    rw [hd] at k1
    dsimp only at k1
    refine ⟨W, v2, ?_, tl_frt (tl_fr3 I _) k2, (fun q => by cases q), fun _ => ⟨k3, k4⟩⟩
    rw [← k1]
    have m1 : ((0 : Int32) ≤ nI v) = True := by (simp (disch := omega) only [vz_all, if_true, if_false, true_or, or_true, eq_self, ite_not, Bool.false_eq_true, ite_self, and_self, true_and, and_true, false_and, and_false, not_true_eq_false, not_false_eq_true, false_or, or_false])
    rw [xe_LawReader_number]
    simp only [xr_all, xf_all, if_true, if_false, true_or, or_true, eq_self, ite_not, Bool.false_eq_true, ite_self, and_self, true_and, and_true, false_and, and_false, not_true_eq_false, not_false_eq_true, xj_LawReader_number, xb_LawReader_number_0, xb_LawReader_number_18, xb_LawReader_number_49, xb_LawReader_number_64, hdg, m1]
    rfl
/-- the model's number -/
theorem l_nu_m (ro : xv_Ro) (e : Nat) (z : Nat × Nat) (J : Nat → Nat → Int64) {b : Nat → Nat} {n from0 : Nat} : ∀ (m p acc : Nat) (M : Nat → Nat → Int32), m ≤ 5 → n ≤ 240 → tp_M b n p M → M 167 11 = nI acc → from0 + 5 = p + m → ∃ (V : Nat → Nat → Int32), (∀ a, a ≠ 167 → V a = M a) ∧ (∀ j, j ≠ 8 → j ≠ 10 → j ≠ 11 → V 167 j = M 167 j) ∧ (∀ f q, l_nu b n m p acc = .inl (f, q) → xv_ev ro (e + 2) xm_Mo_readsNumber xb_Mo_readsNumber_10 [some (.ref 167), some (.int (nI from0))] [] (z, xv_mk M J) = some (some (.int 0), (z, xv_mk V J)) ∧ V 167 10 = -1000 * nI f - nI q) ∧ (∀ a p', l_nu b n m p acc = .inr (a, p') → xv_ev ro (e + 2) xm_Mo_readsNumber xb_Mo_readsNumber_10 [some (.ref 167), some (.int (nI from0))] [] (z, xv_mk M J) = some (some (.int 1), (z, xv_mk V J)) ∧ V 167 11 = nI a ∧ tp_M b n p' V) := by
  intro m
  induction m with
  | zero =>
    intro p acc M hm hn hM h11 hf
    have hpn := hM.2.1
    have hid := xq_isDigit ro e z M J hM
    cases hd : tp_d b n p with
    | none =>
      rw [hd, if_neg (by decide)] at hid
      refine ⟨M, fun _ _ => rfl, fun _ _ _ _ => rfl, fun f q h => ?_, fun a p' h => ?_⟩
      · unfold l_nu at h
        rw [hd, if_neg (by decide)] at h; cases h
      · unfold l_nu at h
        rw [hd, if_neg (by decide)] at h; cases h
        refine ⟨?_, h11, hM⟩
        conv => lhs; unfold xb_Mo_readsNumber_10
        simp only [xr_all, xf_all, if_true, if_false, true_or, or_true, eq_self, ite_not, Bool.false_eq_true, ite_self, and_self, true_and, and_true, false_and, and_false, not_true_eq_false, not_false_eq_true, xj_Mo_readsNumber, xb_Mo_readsNumber_0, xb_Mo_readsNumber_37, xb_Mo_readsNumber_69, hid]
    | some v =>
      rw [hd, if_pos (show (some v).isSome = true from rfl)] at hid
      have hw := xq_wrongAt ro (e + 1) z M J 2 (nI p)
      have e5 : nI from0 + 5 = nI p := by rw [show (5 : Int32) = nI 5 from rfl, nI_add]; exact congrArg nI (by omega)
      have z1 : ((1 : Int32) = 0) = False := eq_false (by decide)
      refine ⟨xv_u2 M 167 10 (-1000 * 2 - nI p), fun a q => xu_ne q, fun j q1 q2 q3 => xu_ne2 (fun g => q2 g.2), fun f q h => ?_, fun a p' h => ?_⟩
      · unfold l_nu at h
        rw [hd, if_pos (show (some v).isSome = true from rfl)] at h; cases h
        refine ⟨?_, xu_eq⟩
        conv => lhs; unfold xb_Mo_readsNumber_10
        simp only [xr_all, xf_all, if_true, if_false, true_or, or_true, eq_self, ite_not, Bool.false_eq_true, ite_self, and_self, true_and, and_true, false_and, and_false, not_true_eq_false, not_false_eq_true, xj_Mo_readsNumber, xb_Mo_readsNumber_0, xb_Mo_readsNumber_37, xb_Mo_readsNumber_69, hid, z1, hM.2.2.2.1, e5, hw]
      · unfold l_nu at h
        rw [hd, if_pos (show (some v).isSome = true from rfl)] at h; cases h
  | succ m ih =>
    intro p acc M hm hn hM h11 hf
    have hpn := hM.2.1
    have hid := xq_isDigit ro e z M J hM
    cases hd : tp_d b n p with
    | none =>
      rw [hd, if_neg (by decide)] at hid
      refine ⟨M, fun _ _ => rfl, fun _ _ _ _ => rfl, fun f q h => ?_, fun a p' h => ?_⟩
      · unfold l_nu at h
        rw [hd] at h; cases h
      · unfold l_nu at h
        rw [hd] at h; cases h
        refine ⟨?_, h11, hM⟩
        conv => lhs; unfold xb_Mo_readsNumber_10
        simp only [xr_all, xf_all, if_true, if_false, true_or, or_true, eq_self, ite_not, Bool.false_eq_true, ite_self, and_self, true_and, and_true, false_and, and_false, not_true_eq_false, not_false_eq_true, xj_Mo_readsNumber, xb_Mo_readsNumber_0, xb_Mo_readsNumber_37, xb_Mo_readsNumber_69, hid]
    | some v =>
      rw [hd, if_pos (show (some v).isSome = true from rfl)] at hid
      obtain ⟨q1, q2, q3⟩ := tp_d_s hd
      have hh := xq_here ro (e + 1) z M J hM
      rw [show tp_c b n p = nI (v + 48) by unfold tp_c; rw [if_pos q1, q3]] at hh
      have e5 : nI from0 + 5 = nI (from0 + 5) := by rw [show (5 : Int32) = nI 5 from rfl, nI_add]
      have g5 : (nI p = nI (from0 + 5)) = False := by (simp (disch := omega) only [vz_all, if_true, if_false, true_or, or_true, eq_self, ite_not, Bool.false_eq_true, ite_self, and_self, true_and, and_true, false_and, and_false, not_true_eq_false, not_false_eq_true, false_or, or_false])
      have z1 : ((1 : Int32) = 0) = False := eq_false (by decide)
      have e1 : 10 * nI acc + nI (v + 48) - 48 = nI (10 * acc + v) := by
        rw [show (10 : Int32) = nI 10 from rfl, pk_mul, nI_add, show (48 : Int32) = nI 48 from rfl, pk_sub (by omega)]
        exact congrArg nI (by omega)
      have en : l_nu b n (m + 1) p acc = l_nu b n m (p + 1) (10 * acc + v) := by
        conv => lhs; unfold l_nu
        rw [hd]
      rw [en]
      have hM8 : ∀ y, xv_u2 M 167 11 y 167 8 = nI p := fun y => by rw [xu_ne2 (by omega)]; exact hM.2.2.2.1
      obtain ⟨V, k1, k2, k3, k4⟩ := ih (p + 1) (10 * acc + v) (xv_u2 (xv_u2 M 167 11 (nI (10 * acc + v))) 167 8 (nI (p + 1))) (by omega) hn (tp_Ms (tp_Mc hM (by (repeat (first | rw [xu_ne2 (by omega)] | rw [xu_ne (by omega)] | rw [xu_eq]))) (by (repeat (first | rw [xu_ne2 (by omega)] | rw [xu_ne (by omega)] | rw [xu_eq]))) (by (repeat (first | rw [xu_ne2 (by omega)] | rw [xu_ne (by omega)] | rw [xu_eq])))) q1) (by (repeat (first | rw [xu_ne2 (by omega)] | rw [xu_ne (by omega)] | rw [xu_eq]))) (by omega)
      have st : xv_ev ro (e + 2) xm_Mo_readsNumber xb_Mo_readsNumber_10 [some (.ref 167), some (.int (nI from0))] [] (z, xv_mk M J) = xv_ev ro (e + 2) xm_Mo_readsNumber xb_Mo_readsNumber_10 [some (.ref 167), some (.int (nI from0))] [] (z, xv_mk (xv_u2 (xv_u2 M 167 11 (nI (10 * acc + v))) 167 8 (nI (p + 1))) J) := by
        conv => lhs; unfold xb_Mo_readsNumber_10
        simp only [xr_all, xf_all, if_true, if_false, true_or, or_true, eq_self, ite_not, Bool.false_eq_true, ite_self, and_self, true_and, and_true, false_and, and_false, not_true_eq_false, not_false_eq_true, xj_Mo_readsNumber, xb_Mo_readsNumber_0, xb_Mo_readsNumber_37, xb_Mo_readsNumber_69, hid, z1, hM.2.2.2.1, e5, g5, h11, hh, e1, hM8, nI_1]
      rw [st]
      exact ⟨V, fun a q => by rw [k1 a q]; (repeat (first | rw [xu_ne2 (by omega)] | rw [xu_ne (by omega)] | rw [xu_eq])), fun j r1 r2 r3 => by rw [k2 j r1 r2 r3]; (repeat (first | rw [xu_ne2 (by omega)] | rw [xu_ne (by omega)] | rw [xu_eq])), k3, k4⟩
theorem xq_readsNumber (ro : xv_Ro) (e : Nat) (z : Nat × Nat) (M : Nat → Nat → Int32) (J : Nat → Nat → Int64) {b : Nat → Nat} {n p : Nat} (hn : n ≤ 240) (hM : tp_M b n p M) : ∃ (V : Nat → Nat → Int32), (∀ a, a ≠ 167 → V a = M a) ∧ (∀ j, j ≠ 8 → j ≠ 10 → j ≠ 11 → V 167 j = M 167 j) ∧ (∀ f q, l_nu b n 5 p 0 = .inl (f, q) → xv_evm ro (e + 2) 60 [.ref 167] (z, xv_mk M J) = some (some (.int 0), (z, xv_mk V J)) ∧ V 167 10 = -1000 * nI f - nI q) ∧ (∀ a p', l_nu b n 5 p 0 = .inr (a, p') → xv_evm ro (e + 2) 60 [.ref 167] (z, xv_mk M J) = some (some (.int 1), (z, xv_mk V J)) ∧ V 167 11 = nI a ∧ tp_M b n p' V) := by
  obtain ⟨V, k1, k2, k3, k4⟩ := l_nu_m ro e z J 5 p 0 (xv_u2 M 167 11 0) (from0 := p) (Nat.le_refl _) hn (tp_Mc hM (by (repeat (first | rw [xu_ne2 (by omega)] | rw [xu_ne (by omega)] | rw [xu_eq]))) (by (repeat (first | rw [xu_ne2 (by omega)] | rw [xu_ne (by omega)] | rw [xu_eq]))) (by (repeat (first | rw [xu_ne2 (by omega)] | rw [xu_ne (by omega)] | rw [xu_eq])))) (by (repeat (first | rw [xu_ne2 (by omega)] | rw [xu_ne (by omega)] | rw [xu_eq])); rfl) rfl
  have st : xv_evm ro (e + 2) 60 [.ref 167] (z, xv_mk M J) = xv_ev ro (e + 2) xm_Mo_readsNumber xb_Mo_readsNumber_10 [some (.ref 167), some (.int (nI p))] [] (z, xv_mk (xv_u2 M 167 11 0) J) := by
    rw [xe_Mo_readsNumber]
    simp only [xr_all, xf_all, if_true, if_false, true_or, or_true, eq_self, ite_not, Bool.false_eq_true, ite_self, and_self, true_and, and_true, false_and, and_false, not_true_eq_false, not_false_eq_true, xj_Mo_readsNumber, xb_Mo_readsNumber_0, xb_Mo_readsNumber_37, xb_Mo_readsNumber_69, hM.2.2.2.1]
  rw [st]
  exact ⟨V, fun a q => by rw [k1 a q]; (repeat (first | rw [xu_ne2 (by omega)] | rw [xu_ne (by omega)] | rw [xu_eq])), fun j r1 r2 r3 => by rw [k2 j r1 r2 r3]; (repeat (first | rw [xu_ne2 (by omega)] | rw [xu_ne (by omega)] | rw [xu_eq])), k3, k4⟩
