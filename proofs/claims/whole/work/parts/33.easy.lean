/-! PAIRS: prior, witness, seed, strike -/
theorem xq_Ct_prior (ro : xv_Ro) (d : Nat) (z : Nat × Nat) (I : Nat → Nat → Int32) (J : Nat → Nat → Int64) (i n : Nat) (hi : i < 5) (hn : n ≤ 10) : xv_evm ro (d + 1) 1 [.ref 0, .int (nI i), .int (nI n)] (z, xv_mk I J) = some (some (.int 1), (z, xv_mk (xv_u2 I 23 i (nI n)) J)) := by
  rw [xe_Ct_prior]
  have h1 : (nI i < 0) = False := vn_lt0 (by omega)
  have h2 : (5 ≤ nI i) = False := by rw [show (5 : Int32) = nI 5 from rfl, vn_le (by omega) (by omega)]; simp; omega
  have h3 : (nI n < 0) = False := vn_lt0 (by omega)
  have h4 : (nI n ≤ 10) = True := by rw [show (10 : Int32) = nI 10 from rfl, vn_le (by omega) (by omega)]; simp; omega
  simp only [xr_all, xf_all, if_true, if_false, true_or, or_true, eq_self, ite_not, Bool.false_eq_true, ite_self, and_self, true_and, and_true, false_and, and_false, not_true_eq_false, not_false_eq_true, xj_Ct_prior, xb_Ct_prior_0, xb_Ct_prior_19, xb_Ct_prior_21, h1, h2, h3, h4, xq_Scales_believe ro d z I J i (nI n) hi]
theorem xq_Ct_prior_no (ro : xv_Ro) (d : Nat) (σ : xv_S) (x y : Int32) (h : ¬ (0 ≤ x ∧ x < 5 ∧ 0 ≤ y ∧ y ≤ 10)) : xv_evm ro (d + 1) 1 [.ref 0, .int x, .int y] σ = some (some (.int 0), σ) := by
  rw [xe_Ct_prior]
  by_cases h1 : x < 0
  · simp only [xr_all, xf_all, if_true, if_false, true_or, or_true, eq_self, ite_not, Bool.false_eq_true, ite_self, and_self, true_and, and_true, false_and, and_false, not_true_eq_false, not_false_eq_true, xj_Ct_prior, xb_Ct_prior_0, xb_Ct_prior_19, xb_Ct_prior_21, h1]
  · by_cases h2 : 5 ≤ x
    · simp only [xr_all, xf_all, if_true, if_false, true_or, or_true, eq_self, ite_not, Bool.false_eq_true, ite_self, and_self, true_and, and_true, false_and, and_false, not_true_eq_false, not_false_eq_true, xj_Ct_prior, xb_Ct_prior_0, xb_Ct_prior_19, xb_Ct_prior_21, h1, h2]
    · by_cases h3 : y < 0
      · simp only [xr_all, xf_all, if_true, if_false, true_or, or_true, eq_self, ite_not, Bool.false_eq_true, ite_self, and_self, true_and, and_true, false_and, and_false, not_true_eq_false, not_false_eq_true, xj_Ct_prior, xb_Ct_prior_0, xb_Ct_prior_19, xb_Ct_prior_21, h1, h2, h3]
      · by_cases h4 : ¬ y ≤ 10
        · simp only [xr_all, xf_all, if_true, if_false, true_or, or_true, eq_self, ite_not, Bool.false_eq_true, ite_self, and_self, true_and, and_true, false_and, and_false, not_true_eq_false, not_false_eq_true, xj_Ct_prior, xb_Ct_prior_0, xb_Ct_prior_19, xb_Ct_prior_21, h1, h2, h3, h4]
        · exfalso; (simp only [Int32.lt_iff_toInt_lt, Int32.le_iff_toInt_le, ← Int32.toInt_inj, vt_all] at *; omega)
theorem xq_Mo_prior (ro : xv_Ro) (d : Nat) (z : Nat × Nat) (I : Nat → Nat → Int32) (J : Nat → Nat → Int64) (i n : Nat) (hi : i < 5) (hn : n ≤ 10) : xv_evm ro (d + 1) 52 [.ref 167, .int (nI i), .int (nI n)] (z, xv_mk I J) = some (some (.int 1), (z, xv_mk (xv_u2 I 171 i (nI n)) J)) := by
  rw [xe_Mo_prior]
  have h1 : (0 ≤ nI i ∧ nI i ≤ 4) = True := by rw [show (0 : Int32) = nI 0 from rfl, show (4 : Int32) = nI 4 from rfl, vn_le (by omega) (by omega), vn_le (by omega) (by omega)]; simp; omega
  have h2 : (0 ≤ nI n ∧ nI n ≤ 10) = True := by rw [show (0 : Int32) = nI 0 from rfl, show (10 : Int32) = nI 10 from rfl, vn_le (by omega) (by omega), vn_le (by omega) (by omega)]; simp; omega
  have h3 : xv_inB (nI i) 5 = true := vn_inB hi (by omega)
  simp only [xr_all, xf_all, if_true, if_false, true_or, or_true, eq_self, ite_not, Bool.false_eq_true, ite_self, and_self, true_and, and_true, false_and, and_false, not_true_eq_false, not_false_eq_true, xj_Mo_prior, xb_Mo_prior_0, xb_Mo_prior_19, xb_Mo_prior_21, xq_Mo_in, h1, h2, h3, nI_clamp (show i < 2 ^ 31 by omega)]
theorem xq_Mo_prior_no (ro : xv_Ro) (d : Nat) (z : Nat × Nat) (I : Nat → Nat → Int32) (J : Nat → Nat → Int64) (x y : Int32) (h : ¬ (0 ≤ x ∧ x < 5 ∧ 0 ≤ y ∧ y ≤ 10)) : xv_evm ro (d + 1) 52 [.ref 167, .int x, .int y] (z, xv_mk I J) = some (some (.int 0), (z, xv_mk I J)) := by
  rw [xe_Mo_prior]
  by_cases h1 : 0 ≤ x ∧ x ≤ 4
  · by_cases h2 : 0 ≤ y ∧ y ≤ 10
    · exfalso; (simp only [Int32.lt_iff_toInt_lt, Int32.le_iff_toInt_le, ← Int32.toInt_inj, vt_all] at *; omega)
    · simp only [xr_all, xf_all, if_true, if_false, true_or, or_true, eq_self, ite_not, Bool.false_eq_true, ite_self, and_self, true_and, and_true, false_and, and_false, not_true_eq_false, not_false_eq_true, xj_Mo_prior, xb_Mo_prior_0, xb_Mo_prior_19, xb_Mo_prior_21, xq_Mo_in, h1, h2]
  · simp only [xr_all, xf_all, if_true, if_false, true_or, or_true, eq_self, ite_not, Bool.false_eq_true, ite_self, and_self, true_and, and_true, false_and, and_false, not_true_eq_false, not_false_eq_true, xj_Mo_prior, xb_Mo_prior_0, xb_Mo_prior_19, xb_Mo_prior_21, xq_Mo_in, h1]
theorem vi_all_u {VL : xv_LP} (hV : vi_Lc VL) {I : Nat → Nat → Int32} {J : Nat → Nat → Int64} (h : vi_all VL I J) (i : Nat) (x : Int32) (n : Nat) (hn : n ≤ 10) (hx : x = nI n) : vi_all VL (xv_u2 (xv_u2 I 23 i x) 171 i x) J := by
  obtain ⟨h1, h2, h3, h4, h5, h6⟩ := h
  refine ⟨vi_T_c h1 rfl rfl rfl rfl, fun j hj => ?_, vi_Q_c h3 rfl rfl rfl rfl, vi_A_c h4 (fun f hf => rfl) (fun a ha hb => ?_) rfl, vi_K_c h5 rfl rfl (fun f hf => rfl) (fun a ha hb => ?_) rfl, hV I _ (fun a ha hb => ?_) rfl (fun a ha hb => ?_) h6.1, vi_B_n (vi_B_n h6.2 (by decide) (by decide)) (by decide) (by decide)⟩
  · by_cases hji : j = i
    · subst hji
      refine ⟨n, hn, ?_, ?_⟩
      · rw [xu_ne2 (by omega), xu_eq]; exact hx
      · rw [xu_eq]; exact hx
    · obtain ⟨m, g1, g2, g3⟩ := h2 j hj
      refine ⟨m, g1, ?_, ?_⟩
      · rw [xu_ne2 (by omega), xu_ne2 (by omega)]; exact g2
      · rw [xu_ne2 (by omega), xu_ne2 (by omega)]; exact g3
  all_goals (rw [xu_ne (by omega), xu_ne (by omega)])
theorem xp_0 (VL : xv_LP) (hV : vi_Lc VL) : xl_P0 (vi_all VL) := by
  intro x0 x1 ro I J hro hI
  by_cases h : 0 ≤ x0 ∧ x0 < 5 ∧ 0 ≤ x1 ∧ x1 ≤ 10
  · obtain ⟨i, hi, rfl⟩ : ∃ i : Nat, i < 5 ∧ x0 = nI i := by
      rcases vn_cases x0 5 (by omega) with q | q | q
      · exfalso; (simp only [Int32.lt_iff_toInt_lt, Int32.le_iff_toInt_le, ← Int32.toInt_inj, vt_all] at *; omega)
      · exfalso; rw [show nI 5 = (5 : Int32) from rfl] at q; (simp only [Int32.lt_iff_toInt_lt, Int32.le_iff_toInt_le, ← Int32.toInt_inj, vt_all] at *; omega)
      · exact q
    obtain ⟨n, hn, rfl⟩ : ∃ n : Nat, n < 11 ∧ x1 = nI n := by
      rcases vn_cases x1 11 (by omega) with q | q | q
      · exfalso; (simp only [Int32.lt_iff_toInt_lt, Int32.le_iff_toInt_le, ← Int32.toInt_inj, vt_all] at *; omega)
      · exfalso; rw [show nI 11 = (11 : Int32) from rfl] at q; (simp only [Int32.lt_iff_toInt_lt, Int32.le_iff_toInt_le, ← Int32.toInt_inj, vt_all] at *; omega)
      · exact q
    exact ⟨1, _, _, _, _, xq_Ct_prior ro _ _ I J i n hi (by omega), xq_Mo_prior ro _ _ _ J i n hi (by omega), vi_all_u hV hI i _ n (by omega) rfl⟩
  · exact ⟨0, _, _, _, _, xq_Ct_prior_no ro _ _ x0 x1 h, xq_Mo_prior_no ro _ _ _ _ x0 x1 h, hI⟩
