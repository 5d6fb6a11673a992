/-! PAIR: count -/
theorem xq_Law_rules (ro : xv_Ro) (d : Nat) (z : Nat × Nat) (I : Nat → Nat → Int32) (J : Nat → Nat → Int64) : xv_evm ro d 204 [.ref 5] (z, xv_mk I J) = some (some (.int (I 5 8)), (z, xv_mk I J)) := by
  rw [xe_Law_rules]
  simp only [xr_all, xf_all, if_true, if_false, true_or, or_true, eq_self, ite_not, Bool.false_eq_true, ite_self, and_self, true_and, and_true, false_and, and_false, not_true_eq_false, not_false_eq_true, xj_Law_rules, xb_Law_rules_0]
theorem xq_Questions_toldOnes (ro : xv_Ro) (d : Nat) (z : Nat × Nat) (I : Nat → Nat → Int32) (J : Nat → Nat → Int64) : xv_evm ro d 224 [.ref 3] (z, xv_mk I J) = some (some (.int (I 3 1)), (z, xv_mk I J)) := by
  rw [xe_Questions_toldOnes]
  simp only [xr_all, xf_all, if_true, if_false, true_or, or_true, eq_self, ite_not, Bool.false_eq_true, ite_self, and_self, true_and, and_true, false_and, and_false, not_true_eq_false, not_false_eq_true, xj_Questions_toldOnes, xb_Questions_toldOnes_0]
theorem xq_Scales_belief (ro : xv_Ro) (d : Nat) (z : Nat × Nat) (I : Nat → Nat → Int32) (J : Nat → Nat → Int64) {i : Nat} (hi : i < 5) : xv_evm ro d 235 [.ref 22, .int (nI i)] (z, xv_mk I J) = some (some (.int (I 23 i)), (z, xv_mk I J)) := by
  rw [xe_Scales_belief]
  simp only [xr_all, xf_all, if_true, if_false, true_or, or_true, eq_self, ite_not, Bool.false_eq_true, ite_self, and_self, true_and, and_true, false_and, and_false, not_true_eq_false, not_false_eq_true, xj_Scales_belief, xb_Scales_belief_0, xb_Scales_belief_18, xb_Scales_belief_19]
  (simp (disch := omega) only [vz_all, if_true, if_false, true_or, or_true, eq_self, ite_not, Bool.false_eq_true, ite_self, and_self, true_and, and_true, false_and, and_false, not_true_eq_false, not_false_eq_true, false_or, or_false])
theorem xq_Questions_holds (ro : xv_Ro) (d : Nat) (z : Nat × Nat) (I : Nat → Nat → Int32) (J : Nat → Nat → Int64) {k : Nat} (hk : k < 8) : xv_evm ro d 225 [.ref 3, .int (nI k)] (z, xv_mk I J) = some (some (.int (I 4 k)), (z, xv_mk I J)) := by
  rw [xe_Questions_holds]
  have h1 : (Int32.ofNat 8 ≤ nI k) = False := by rw [show Int32.ofNat 8 = nI 8 from rfl]; (simp (disch := omega) only [vz_all, if_true, if_false, true_or, or_true, eq_self, ite_not, Bool.false_eq_true, ite_self, and_self, true_and, and_true, false_and, and_false, not_true_eq_false, not_false_eq_true, false_or, or_false])
  simp only [xr_all, xf_all, if_true, if_false, true_or, or_true, eq_self, ite_not, Bool.false_eq_true, ite_self, and_self, true_and, and_true, false_and, and_false, not_true_eq_false, not_false_eq_true, xj_Questions_holds, xb_Questions_holds_0, xb_Questions_holds_22, xb_Questions_holds_23, h1]
  (simp (disch := omega) only [vz_all, if_true, if_false, true_or, or_true, eq_self, ite_not, Bool.false_eq_true, ite_self, and_self, true_and, and_true, false_and, and_false, not_true_eq_false, not_false_eq_true, false_or, or_false])
theorem xp_31 (VL : xv_LP) (hV : vi_Lc VL) (hR : ∀ I, VL I → I 5 8 = I 167 16) : xl_P31 (vi_all VL) := by
  intro x ro I J hro hI
  obtain ⟨⟨t, t1, t2, t3, -⟩, a2, ⟨⟨q, q1, q2, q3⟩, q4⟩, ⟨⟨n, n1, n2, n3, -⟩, ⟨⟨wk, k1, k2, k3⟩, lt, l1, l2, l3⟩, ⟨m, m1, m2, m3⟩, -⟩, a5, a6, a7⟩ := id hI
  by_cases hf : ∃ f : Nat, f ≤ 6 ∧ x = nI f
  · obtain ⟨f, hf, hx⟩ := hf
    have h06 : f = 0 ∨ f = 1 ∨ f = 2 ∨ f = 3 ∨ f = 4 ∨ f = 5 ∨ f = 6 := by omega
    rcases h06 with rfl | rfl | rfl | rfl | rfl | rfl | rfl
    · refine ⟨nI wk, I, J, I, J, ?_, ?_, hI⟩
      · rw [xe_Ct_count]; unfold xb_Ct_count_0
        rw [xr_iload1, hx, xr_sw ro 199 xm_Ct_count _ _ _ _ _ _ _ _ 99 6 _ 0 44 43 (by omega) (by omega) rfl rfl]
        simp only [xr_all, xf_all, if_true, if_false, true_or, or_true, eq_self, ite_not, Bool.false_eq_true, ite_self, and_self, true_and, and_true, false_and, and_false, not_true_eq_false, not_false_eq_true, xj_Ct_count, xb_Ct_count_44, xb_Ct_count_52, xb_Ct_count_60, xb_Ct_count_68, xb_Ct_count_76, xb_Ct_count_84, xb_Ct_count_92, xb_Ct_count_100, xb_Ct_count_124, xb_Ct_count_165, xq_Archive_week ro 198 xv_SZ I J (A := 25) (Or.inl rfl), k2]
      · rw [xe_Mo_count]; unfold xb_Mo_count_0
        rw [xr_iload1, hx, xr_sw ro 199 xm_Mo_count _ _ _ _ _ _ _ _ 94 6 _ 0 44 43 (by omega) (by omega) rfl rfl]
        simp only [xr_all, xf_all, if_true, if_false, true_or, or_true, eq_self, ite_not, Bool.false_eq_true, ite_self, and_self, true_and, and_true, false_and, and_false, not_true_eq_false, not_false_eq_true, xj_Mo_count, xb_Mo_count_44, xb_Mo_count_53, xb_Mo_count_62, xb_Mo_count_71, xb_Mo_count_76, xb_Mo_count_81, xb_Mo_count_86, xb_Mo_count_95, xb_Mo_count_116, xb_Mo_count_142, xb_Mo_count_143]
        (simp (disch := omega) only [vz_all, if_true, if_false, true_or, or_true, eq_self, ite_not, Bool.false_eq_true, ite_self, and_self, true_and, and_true, false_and, and_false, not_true_eq_false, not_false_eq_true, false_or, or_false, k3])
    · refine ⟨nI n, I, J, I, J, ?_, ?_, hI⟩
      · rw [xe_Ct_count]; unfold xb_Ct_count_0
        rw [xr_iload1, hx, xr_sw ro 199 xm_Ct_count _ _ _ _ _ _ _ _ 99 6 _ 1 52 51 (by omega) (by omega) rfl rfl]
        simp only [xr_all, xf_all, if_true, if_false, true_or, or_true, eq_self, ite_not, Bool.false_eq_true, ite_self, and_self, true_and, and_true, false_and, and_false, not_true_eq_false, not_false_eq_true, xj_Ct_count, xb_Ct_count_44, xb_Ct_count_52, xb_Ct_count_60, xb_Ct_count_68, xb_Ct_count_76, xb_Ct_count_84, xb_Ct_count_92, xb_Ct_count_100, xb_Ct_count_124, xb_Ct_count_165, xq_Archive_said ro 198 xv_SZ I J, n2]
      · rw [xe_Mo_count]; unfold xb_Mo_count_0
        rw [xr_iload1, hx, xr_sw ro 199 xm_Mo_count _ _ _ _ _ _ _ _ 94 6 _ 1 53 52 (by omega) (by omega) rfl rfl]
        simp only [xr_all, xf_all, if_true, if_false, true_or, or_true, eq_self, ite_not, Bool.false_eq_true, ite_self, and_self, true_and, and_true, false_and, and_false, not_true_eq_false, not_false_eq_true, xj_Mo_count, xb_Mo_count_44, xb_Mo_count_53, xb_Mo_count_62, xb_Mo_count_71, xb_Mo_count_76, xb_Mo_count_81, xb_Mo_count_86, xb_Mo_count_95, xb_Mo_count_116, xb_Mo_count_142, xb_Mo_count_143]
        (simp (disch := omega) only [vz_all, if_true, if_false, true_or, or_true, eq_self, ite_not, Bool.false_eq_true, ite_self, and_self, true_and, and_true, false_and, and_false, not_true_eq_false, not_false_eq_true, false_or, or_false, n3])
    · refine ⟨nI m, I, J, I, J, ?_, ?_, hI⟩
      · rw [xe_Ct_count]; unfold xb_Ct_count_0
        rw [xr_iload1, hx, xr_sw ro 199 xm_Ct_count _ _ _ _ _ _ _ _ 99 6 _ 2 60 59 (by omega) (by omega) rfl rfl]
        simp only [xr_all, xf_all, if_true, if_false, true_or, or_true, eq_self, ite_not, Bool.false_eq_true, ite_self, and_self, true_and, and_true, false_and, and_false, not_true_eq_false, not_false_eq_true, xj_Ct_count, xb_Ct_count_44, xb_Ct_count_52, xb_Ct_count_60, xb_Ct_count_68, xb_Ct_count_76, xb_Ct_count_84, xb_Ct_count_92, xb_Ct_count_100, xb_Ct_count_124, xb_Ct_count_165, xq_toldOnes ro 196 xv_SZ I J (A := 25) (Or.inl rfl) m1 m3]
      · rw [xe_Mo_count]; unfold xb_Mo_count_0
        rw [xr_iload1, hx, xr_sw ro 199 xm_Mo_count _ _ _ _ _ _ _ _ 94 6 _ 2 62 61 (by omega) (by omega) rfl rfl]
        simp only [xr_all, xf_all, if_true, if_false, true_or, or_true, eq_self, ite_not, Bool.false_eq_true, ite_self, and_self, true_and, and_true, false_and, and_false, not_true_eq_false, not_false_eq_true, xj_Mo_count, xb_Mo_count_44, xb_Mo_count_53, xb_Mo_count_62, xb_Mo_count_71, xb_Mo_count_76, xb_Mo_count_81, xb_Mo_count_86, xb_Mo_count_95, xb_Mo_count_116, xb_Mo_count_142, xb_Mo_count_143]
        (simp (disch := omega) only [vz_all, if_true, if_false, true_or, or_true, eq_self, ite_not, Bool.false_eq_true, ite_self, and_self, true_and, and_true, false_and, and_false, not_true_eq_false, not_false_eq_true, false_or, or_false, m2])
    · refine ⟨nI q, I, J, I, J, ?_, ?_, hI⟩
      · rw [xe_Ct_count]; unfold xb_Ct_count_0
        rw [xr_iload1, hx, xr_sw ro 199 xm_Ct_count _ _ _ _ _ _ _ _ 99 6 _ 3 68 67 (by omega) (by omega) rfl rfl]
        simp only [xr_all, xf_all, if_true, if_false, true_or, or_true, eq_self, ite_not, Bool.false_eq_true, ite_self, and_self, true_and, and_true, false_and, and_false, not_true_eq_false, not_false_eq_true, xj_Ct_count, xb_Ct_count_44, xb_Ct_count_52, xb_Ct_count_60, xb_Ct_count_68, xb_Ct_count_76, xb_Ct_count_84, xb_Ct_count_92, xb_Ct_count_100, xb_Ct_count_124, xb_Ct_count_165, xq_Questions_toldOnes ro 198 xv_SZ I J, q2]
      · rw [xe_Mo_count]; unfold xb_Mo_count_0
        rw [xr_iload1, hx, xr_sw ro 199 xm_Mo_count _ _ _ _ _ _ _ _ 94 6 _ 3 71 70 (by omega) (by omega) rfl rfl]
        simp only [xr_all, xf_all, if_true, if_false, true_or, or_true, eq_self, ite_not, Bool.false_eq_true, ite_self, and_self, true_and, and_true, false_and, and_false, not_true_eq_false, not_false_eq_true, xj_Mo_count, xb_Mo_count_44, xb_Mo_count_53, xb_Mo_count_62, xb_Mo_count_71, xb_Mo_count_76, xb_Mo_count_81, xb_Mo_count_86, xb_Mo_count_95, xb_Mo_count_116, xb_Mo_count_142, xb_Mo_count_143, q3]
    · refine ⟨I 5 8, I, J, I, J, ?_, ?_, hI⟩
      · rw [xe_Ct_count]; unfold xb_Ct_count_0
        rw [xr_iload1, hx, xr_sw ro 199 xm_Ct_count _ _ _ _ _ _ _ _ 99 6 _ 4 76 75 (by omega) (by omega) rfl rfl]
        simp only [xr_all, xf_all, if_true, if_false, true_or, or_true, eq_self, ite_not, Bool.false_eq_true, ite_self, and_self, true_and, and_true, false_and, and_false, not_true_eq_false, not_false_eq_true, xj_Ct_count, xb_Ct_count_44, xb_Ct_count_52, xb_Ct_count_60, xb_Ct_count_68, xb_Ct_count_76, xb_Ct_count_84, xb_Ct_count_92, xb_Ct_count_100, xb_Ct_count_124, xb_Ct_count_165, xq_Law_rules ro 198 xv_SZ I J]
      · rw [xe_Mo_count]; unfold xb_Mo_count_0
        rw [xr_iload1, hx, xr_sw ro 199 xm_Mo_count _ _ _ _ _ _ _ _ 94 6 _ 4 76 75 (by omega) (by omega) rfl rfl]
        simp only [xr_all, xf_all, if_true, if_false, true_or, or_true, eq_self, ite_not, Bool.false_eq_true, ite_self, and_self, true_and, and_true, false_and, and_false, not_true_eq_false, not_false_eq_true, xj_Mo_count, xb_Mo_count_44, xb_Mo_count_53, xb_Mo_count_62, xb_Mo_count_71, xb_Mo_count_76, xb_Mo_count_81, xb_Mo_count_86, xb_Mo_count_95, xb_Mo_count_116, xb_Mo_count_142, xb_Mo_count_143, hR I a6]
    · refine ⟨nI t, I, J, I, J, ?_, ?_, hI⟩
      · rw [xe_Ct_count]; unfold xb_Ct_count_0
        rw [xr_iload1, hx, xr_sw ro 199 xm_Ct_count _ _ _ _ _ _ _ _ 99 6 _ 5 84 83 (by omega) (by omega) rfl rfl]
        simp only [xr_all, xf_all, if_true, if_false, true_or, or_true, eq_self, ite_not, Bool.false_eq_true, ite_self, and_self, true_and, and_true, false_and, and_false, not_true_eq_false, not_false_eq_true, xj_Ct_count, xb_Ct_count_44, xb_Ct_count_52, xb_Ct_count_60, xb_Ct_count_68, xb_Ct_count_76, xb_Ct_count_84, xb_Ct_count_92, xb_Ct_count_100, xb_Ct_count_124, xb_Ct_count_165, xq_Tape_size ro 198 xv_SZ I J, t2]
      · rw [xe_Mo_count]; unfold xb_Mo_count_0
        rw [xr_iload1, hx, xr_sw ro 199 xm_Mo_count _ _ _ _ _ _ _ _ 94 6 _ 5 81 80 (by omega) (by omega) rfl rfl]
        simp only [xr_all, xf_all, if_true, if_false, true_or, or_true, eq_self, ite_not, Bool.false_eq_true, ite_self, and_self, true_and, and_true, false_and, and_false, not_true_eq_false, not_false_eq_true, xj_Mo_count, xb_Mo_count_44, xb_Mo_count_53, xb_Mo_count_62, xb_Mo_count_71, xb_Mo_count_76, xb_Mo_count_81, xb_Mo_count_86, xb_Mo_count_95, xb_Mo_count_116, xb_Mo_count_142, xb_Mo_count_143, t3]
    · refine ⟨nI lt, I, J, I, J, ?_, ?_, hI⟩
      · rw [xe_Ct_count]; unfold xb_Ct_count_0
        rw [xr_iload1, hx, xr_sw ro 199 xm_Ct_count _ _ _ _ _ _ _ _ 99 6 _ 6 92 91 (by omega) (by omega) rfl rfl]
        simp only [xr_all, xf_all, if_true, if_false, true_or, or_true, eq_self, ite_not, Bool.false_eq_true, ite_self, and_self, true_and, and_true, false_and, and_false, not_true_eq_false, not_false_eq_true, xj_Ct_count, xb_Ct_count_44, xb_Ct_count_52, xb_Ct_count_60, xb_Ct_count_68, xb_Ct_count_76, xb_Ct_count_84, xb_Ct_count_92, xb_Ct_count_100, xb_Ct_count_124, xb_Ct_count_165, xq_Archive_drawn ro 198 xv_SZ I J (A := 25) (Or.inl rfl), l2]
      · rw [xe_Mo_count]; unfold xb_Mo_count_0
        rw [xr_iload1, hx, xr_sw ro 199 xm_Mo_count _ _ _ _ _ _ _ _ 94 6 _ 6 86 85 (by omega) (by omega) rfl rfl]
        simp only [xr_all, xf_all, if_true, if_false, true_or, or_true, eq_self, ite_not, Bool.false_eq_true, ite_self, and_self, true_and, and_true, false_and, and_false, not_true_eq_false, not_false_eq_true, xj_Mo_count, xb_Mo_count_44, xb_Mo_count_53, xb_Mo_count_62, xb_Mo_count_71, xb_Mo_count_76, xb_Mo_count_81, xb_Mo_count_86, xb_Mo_count_95, xb_Mo_count_116, xb_Mo_count_142, xb_Mo_count_143]
        (simp (disch := omega) only [vz_all, if_true, if_false, true_or, or_true, eq_self, ite_not, Bool.false_eq_true, ite_self, and_self, true_and, and_true, false_and, and_false, not_true_eq_false, not_false_eq_true, false_or, or_false, l3])
  · have hsw : x.toInt < 0 ∨ 6 < x.toInt := by
      rcases vn_cases x 7 (by omega) with p | p | ⟨j, hj, p⟩
      · left; rw [Int32.lt_iff_toInt_lt] at p; exact p
      · right; rw [Int32.le_iff_toInt_le, nI_toInt (by omega)] at p; omega
      · exact absurd ⟨j, by omega, p⟩ hf
    have hC : ∀ r, xv_ev ro 199 xm_Ct_count xb_Ct_count_100 [some (.ref 0), some (.int x)] [] (xv_SZ, xv_mk I J) = r → xv_evm ro 199 32 [.ref 0, .int x] (xv_SZ, xv_mk I J) = r := by
      intro r hr
      rw [xe_Ct_count]; unfold xb_Ct_count_0
      rw [xr_iload1, xr_swo ro 199 xm_Ct_count _ _ _ _ _ _ _ _ 99 0 6 _ x 100 hsw rfl]
      simp only [xj_Ct_count]
      exact hr
    have hM : ∀ r, xv_ev ro 199 xm_Mo_count xb_Mo_count_95 [some (.ref 167), some (.int x)] [] (xv_SZ, xv_mk I J) = r → xv_evm ro 199 143 [.ref 167, .int x] (xv_SZ, xv_mk I J) = r := by
      intro r hr
      rw [xe_Mo_count]; unfold xb_Mo_count_0
      rw [xr_iload1, xr_swo ro 199 xm_Mo_count _ _ _ _ _ _ _ _ 94 0 6 _ x 95 hsw rfl]
      simp only [xj_Mo_count]
      exact hr
    by_cases h1 : ∃ i : Nat, i < 5 ∧ x = nI (10 + i)
    · obtain ⟨i, hi, hx⟩ := h1
      obtain ⟨p, p1, p2, p3⟩ := a2 i hi
      have hs : nI (10 + i) - 10 = nI i := by rw [show (10 : Int32) = nI 10 from rfl, pk_sub (by omega), Nat.add_sub_cancel_left]
      refine ⟨nI p, I, J, I, J, hC _ ?_, hM _ ?_, hI⟩
      · rw [hx]
        simp only [xr_all, xf_all, if_true, if_false, true_or, or_true, eq_self, ite_not, Bool.false_eq_true, ite_self, and_self, true_and, and_true, false_and, and_false, not_true_eq_false, not_false_eq_true, xj_Ct_count, xb_Ct_count_44, xb_Ct_count_52, xb_Ct_count_60, xb_Ct_count_68, xb_Ct_count_76, xb_Ct_count_84, xb_Ct_count_92, xb_Ct_count_100, xb_Ct_count_124, xb_Ct_count_165, hs, xq_Scales_belief ro 198 xv_SZ I J hi]
        (simp (disch := omega) only [vz_all, if_true, if_false, true_or, or_true, eq_self, ite_not, Bool.false_eq_true, ite_self, and_self, true_and, and_true, false_and, and_false, not_true_eq_false, not_false_eq_true, false_or, or_false, p2])
      · rw [hx]
        have hin : (10 ≤ nI (10 + i) ∧ nI (10 + i) ≤ 14) = True := by (simp (disch := omega) only [vz_all, if_true, if_false, true_or, or_true, eq_self, ite_not, Bool.false_eq_true, ite_self, and_self, true_and, and_true, false_and, and_false, not_true_eq_false, not_false_eq_true, false_or, or_false])
        simp only [xr_all, xf_all, if_true, if_false, true_or, or_true, eq_self, ite_not, Bool.false_eq_true, ite_self, and_self, true_and, and_true, false_and, and_false, not_true_eq_false, not_false_eq_true, xj_Mo_count, xb_Mo_count_44, xb_Mo_count_53, xb_Mo_count_62, xb_Mo_count_71, xb_Mo_count_76, xb_Mo_count_81, xb_Mo_count_86, xb_Mo_count_95, xb_Mo_count_116, xb_Mo_count_142, xb_Mo_count_143, hs, xq_Mo_in, hin]
        (simp (disch := omega) only [vz_all, if_true, if_false, true_or, or_true, eq_self, ite_not, Bool.false_eq_true, ite_self, and_self, true_and, and_true, false_and, and_false, not_true_eq_false, not_false_eq_true, false_or, or_false, p3])
    · have hin : (10 ≤ x ∧ x ≤ 14) = False := by
        apply eq_false
        rintro ⟨g1, g2⟩
        obtain ⟨j, hj, rfl⟩ := (vn_in (N := 14) (by omega)).mp ⟨by (simp only [Int32.lt_iff_toInt_lt, Int32.le_iff_toInt_le, ← Int32.toInt_inj, vt_all] at *; omega), g2⟩
        rw [show (10 : Int32) = nI 10 from rfl, nI_leI (by omega) (by omega)] at g1
        exact h1 ⟨j - 10, by omega, by rw [show 10 + (j - 10) = j by omega]⟩
      by_cases h2 : ∃ k : Nat, k < 8 ∧ x = nI (20 + k)
      · obtain ⟨k, hk, hx⟩ := h2
        have hs : nI (20 + k) - 20 = nI k := by rw [show (20 : Int32) = nI 20 from rfl, pk_sub (by omega), Nat.add_sub_cancel_left]
        have c1 := xq_Questions_isTold ro 198 xv_SZ I J q2 q1 hk
        have c2 := xq_Mo_isQuestion ro 197 xv_SZ I J q3 q1 hk
        have b1 : (10 ≤ nI (20 + k) ∧ nI (20 + k) ≤ 14) = False := by (simp (disch := omega) only [vz_all, if_true, if_false, true_or, or_true, eq_self, ite_not, Bool.false_eq_true, ite_self, and_self, true_and, and_true, false_and, and_false, not_true_eq_false, not_false_eq_true, false_or, or_false])
        have b2 : (nI (20 + k) < 10) = False := by (simp (disch := omega) only [vz_all, if_true, if_false, true_or, or_true, eq_self, ite_not, Bool.false_eq_true, ite_self, and_self, true_and, and_true, false_and, and_false, not_true_eq_false, not_false_eq_true, false_or, or_false])
        have b3 : (15 ≤ nI (20 + k)) = True := by (simp (disch := omega) only [vz_all, if_true, if_false, true_or, or_true, eq_self, ite_not, Bool.false_eq_true, ite_self, and_self, true_and, and_true, false_and, and_false, not_true_eq_false, not_false_eq_true, false_or, or_false])
        have b4 : (nI (20 + k) < 20) = False := by (simp (disch := omega) only [vz_all, if_true, if_false, true_or, or_true, eq_self, ite_not, Bool.false_eq_true, ite_self, and_self, true_and, and_true, false_and, and_false, not_true_eq_false, not_false_eq_true, false_or, or_false])
        have b5 : (28 ≤ nI (20 + k)) = False := by (simp (disch := omega) only [vz_all, if_true, if_false, true_or, or_true, eq_self, ite_not, Bool.false_eq_true, ite_self, and_self, true_and, and_true, false_and, and_false, not_true_eq_false, not_false_eq_true, false_or, or_false])
        have b6 : xv_inB (nI k) 8 = true := vn_inB hk (by omega)
        by_cases hq : q.testBit k = true
        · rw [vz_b1 hq] at c1 c2
          refine ⟨nI (vb_ct (vq_N (I 4 k)) 32), I, J, I, J, hC _ ?_, hM _ ?_, hI⟩
          · rw [hx]
            simp only [xr_all, xf_all, if_true, if_false, true_or, or_true, eq_self, ite_not, Bool.false_eq_true, ite_self, and_self, true_and, and_true, false_and, and_false, not_true_eq_false, not_false_eq_true, xj_Ct_count, xb_Ct_count_44, xb_Ct_count_52, xb_Ct_count_60, xb_Ct_count_68, xb_Ct_count_76, xb_Ct_count_84, xb_Ct_count_92, xb_Ct_count_100, xb_Ct_count_124, xb_Ct_count_165, b2, b3, b4, b5, hs, c1, xq_Questions_holds ro 198 xv_SZ I J hk, xq_bitCount]
          · rw [hx]
            have hb := vl_bits ro 197 (xv_SZ, xv_mk I J) (m := vq_N (I 4 k)) (by have := vq_N_lt (I 4 k); omega)
            have e : J 172 k = lN (vq_N (I 4 k)) := q4 k hk
            simp only [xr_all, xf_all, if_true, if_false, true_or, or_true, eq_self, ite_not, Bool.false_eq_true, ite_self, and_self, true_and, and_true, false_and, and_false, not_true_eq_false, not_false_eq_true, xj_Mo_count, xb_Mo_count_44, xb_Mo_count_53, xb_Mo_count_62, xb_Mo_count_71, xb_Mo_count_76, xb_Mo_count_81, xb_Mo_count_86, xb_Mo_count_95, xb_Mo_count_116, xb_Mo_count_142, xb_Mo_count_143, hs, xq_Mo_in, b1, c2, b6, nI_clamp (show k < 2 ^ 31 by omega), e, hb]
        · rw [vz_b0 hq] at c1 c2
          refine ⟨-1, I, J, I, J, hC _ ?_, hM _ ?_, hI⟩
          · rw [hx]
            simp only [xr_all, xf_all, if_true, if_false, true_or, or_true, eq_self, ite_not, Bool.false_eq_true, ite_self, and_self, true_and, and_true, false_and, and_false, not_true_eq_false, not_false_eq_true, xj_Ct_count, xb_Ct_count_44, xb_Ct_count_52, xb_Ct_count_60, xb_Ct_count_68, xb_Ct_count_76, xb_Ct_count_84, xb_Ct_count_92, xb_Ct_count_100, xb_Ct_count_124, xb_Ct_count_165, b2, b3, b4, b5, hs, c1]
          · rw [hx]
            simp only [xr_all, xf_all, if_true, if_false, true_or, or_true, eq_self, ite_not, Bool.false_eq_true, ite_self, and_self, true_and, and_true, false_and, and_false, not_true_eq_false, not_false_eq_true, xj_Mo_count, xb_Mo_count_44, xb_Mo_count_53, xb_Mo_count_62, xb_Mo_count_71, xb_Mo_count_76, xb_Mo_count_81, xb_Mo_count_86, xb_Mo_count_95, xb_Mo_count_116, xb_Mo_count_142, xb_Mo_count_143, hs, xq_Mo_in, b1, c2]
      · refine ⟨-1, I, J, I, J, hC _ ?_, hM _ ?_, hI⟩
        · by_cases c1 : x < 10
          · have c2 : x < 20 := by (simp only [Int32.lt_iff_toInt_lt, Int32.le_iff_toInt_le, ← Int32.toInt_inj, vt_all] at *; omega)
            simp only [xr_all, xf_all, if_true, if_false, true_or, or_true, eq_self, ite_not, Bool.false_eq_true, ite_self, and_self, true_and, and_true, false_and, and_false, not_true_eq_false, not_false_eq_true, xj_Ct_count, xb_Ct_count_44, xb_Ct_count_52, xb_Ct_count_60, xb_Ct_count_68, xb_Ct_count_76, xb_Ct_count_84, xb_Ct_count_92, xb_Ct_count_100, xb_Ct_count_124, xb_Ct_count_165, c1, c2]
          · have c3 : 15 ≤ x := by
              by_cases c4 : 15 ≤ x
              · exact c4
              · exfalso
                have : (10 ≤ x ∧ x ≤ 14) = True := eq_true (by constructor <;> (simp only [Int32.lt_iff_toInt_lt, Int32.le_iff_toInt_le, ← Int32.toInt_inj, vt_all] at *; omega))
                rw [hin] at this
                exact this.mpr trivial
            by_cases c4 : x < 20
            · simp only [xr_all, xf_all, if_true, if_false, true_or, or_true, eq_self, ite_not, Bool.false_eq_true, ite_self, and_self, true_and, and_true, false_and, and_false, not_true_eq_false, not_false_eq_true, xj_Ct_count, xb_Ct_count_44, xb_Ct_count_52, xb_Ct_count_60, xb_Ct_count_68, xb_Ct_count_76, xb_Ct_count_84, xb_Ct_count_92, xb_Ct_count_100, xb_Ct_count_124, xb_Ct_count_165, c1, c3, c4]
            · have c5 : 28 ≤ x := by
                by_cases c6 : 28 ≤ x
                · exact c6
                · exfalso
                  obtain ⟨j, hj, hx⟩ := (vn_in (x := x) (N := 27) (by omega)).mp ⟨by (simp only [Int32.lt_iff_toInt_lt, Int32.le_iff_toInt_le, ← Int32.toInt_inj, vt_all] at *; omega), by rw [show nI 27 = (27 : Int32) from rfl]; (simp only [Int32.lt_iff_toInt_lt, Int32.le_iff_toInt_le, ← Int32.toInt_inj, vt_all] at *; omega)⟩
                  have : 20 ≤ j := by
                    rcases Nat.lt_or_ge j 20 with g | g
                    · exfalso; apply c4; rw [hx]; exact nI_lt (b := 20) g (by omega)
                    · exact g
                  exact h2 ⟨j - 20, by omega, by rw [show 20 + (j - 20) = j by omega]; exact hx⟩
              simp only [xr_all, xf_all, if_true, if_false, true_or, or_true, eq_self, ite_not, Bool.false_eq_true, ite_self, and_self, true_and, and_true, false_and, and_false, not_true_eq_false, not_false_eq_true, xj_Ct_count, xb_Ct_count_44, xb_Ct_count_52, xb_Ct_count_60, xb_Ct_count_68, xb_Ct_count_76, xb_Ct_count_84, xb_Ct_count_92, xb_Ct_count_100, xb_Ct_count_124, xb_Ct_count_165, c1, c3, c4, c5]
        · have hno : ¬ ∃ j : Nat, j ≤ 7 ∧ x - 20 = nI j := by
            rintro ⟨j, hj, e⟩
            apply h2
            refine ⟨j, by omega, ?_⟩
            rw [Nat.add_comm, ← nI_add, ← e, show nI 20 = (20 : Int32) from rfl, Int32.sub_add_cancel]
          simp only [xr_all, xf_all, if_true, if_false, true_or, or_true, eq_self, ite_not, Bool.false_eq_true, ite_self, and_self, true_and, and_true, false_and, and_false, not_true_eq_false, not_false_eq_true, xj_Mo_count, xb_Mo_count_44, xb_Mo_count_53, xb_Mo_count_62, xb_Mo_count_71, xb_Mo_count_76, xb_Mo_count_81, xb_Mo_count_86, xb_Mo_count_95, xb_Mo_count_116, xb_Mo_count_142, xb_Mo_count_143, xq_Mo_in, hin, xq_Mo_isQuestion_no ro 197 (xv_SZ, xv_mk I J) hno]
