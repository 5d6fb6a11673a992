/-! PAIRS: seed, strike -/
theorem xq_Archive_sow (ro : xv_Ro) (d : Nat) (z : Nat × Nat) (I : Nat → Nat → Int32) (J : Nat → Nat → Int64) (x : Int32) : xv_evm ro d 168 [.ref 25, .int x] (z, xv_mk I J) = some (none, (z, xv_mk (xv_u2 I 25 4 x) J)) := by
  rw [xe_Archive_sow]
  simp only [xr_all, xf_all, if_true, if_false, true_or, or_true, eq_self, ite_not, Bool.false_eq_true, ite_self, and_self, true_and, and_true, false_and, and_false, not_true_eq_false, not_false_eq_true, xj_Archive_sow, xb_Archive_sow_0]
theorem xp_27 (VL : xv_LP) (hV : vi_Lc VL) : xl_P27 (vi_all VL) := by
  intro x ro I J hro hI
  by_cases h : 0 ≤ x ∧ x ≤ nI 65535
  · obtain ⟨n, hn, rfl⟩ := (vn_in (by omega)).mp h
    have h1 : (nI n < 0) = False := vn_lt0 (by omega)
    have h2 : (nI n ≤ 65535) = True := eq_true h.2
    have h3 : (0 ≤ nI n ∧ nI n ≤ 65535) = True := eq_true h
    refine ⟨1, xv_u2 I 25 4 (nI n), J, xv_u2 (xv_u2 I 25 4 (nI n)) 168 303 (nI n), J, ?_, ?_, ?_⟩
    · rw [xe_Ct_seed]
      simp only [xr_all, xf_all, if_true, if_false, true_or, or_true, eq_self, ite_not, Bool.false_eq_true, ite_self, and_self, true_and, and_true, false_and, and_false, not_true_eq_false, not_false_eq_true, xj_Ct_seed, xb_Ct_seed_0, xb_Ct_seed_11, xb_Ct_seed_13, h1, h2, xq_Archive_sow]
    · rw [xe_Mo_seed]
      have h4 : xv_inB 303 304 = true := by decide
      have h5 : (303 : Int32).toNatClampNeg = 303 := by decide
      simp only [xr_all, xf_all, if_true, if_false, true_or, or_true, eq_self, ite_not, Bool.false_eq_true, ite_self, and_self, true_and, and_true, false_and, and_false, not_true_eq_false, not_false_eq_true, xj_Mo_seed, xb_Mo_seed_0, xb_Mo_seed_13, xq_Mo_in, h3, h4, h5]
    · obtain ⟨a1, a2, a3, ⟨g1, g2, g3, g4⟩, a5, a6⟩ := hI
      obtain ⟨q1, q5, q6, q7, q8⟩ := g2
      refine ⟨vi_T_c a1 ?_ ?_ ?_ ?_, vi_P_c a2 ?_ ?_, vi_Q_c a3 ?_ ?_ ?_ rfl, ⟨vi_A1_c g1 ?_ (fun a ha hb => ?_) (fun j ja jb jc => ?_), ⟨?_, n, by omega, ?_, ?_⟩, vi_A3_c g3 ?_ (fun w hw => ?_), vi_A4_c g4 (fun a ha hb => ?_) (fun j hj => ?_)⟩, vi_K_c a5 ?_ ?_ (fun f hf => ?_) (fun a ha hb => ?_) ?_, hV I _ (fun a ha hb => ?_) ?_ (fun a ha hb => ?_) a6.1, vi_B_n (vi_B_n a6.2 (by decide) (by decide)) (by decide) (by decide)⟩
      · (repeat (first | rw [xu_ne2 (by omega)] | rw [xu_ne (by omega)] | rw [xu_eq]))
      · (repeat (first | rw [xu_ne2 (by omega)] | rw [xu_ne (by omega)] | rw [xu_eq]))
      · (repeat (first | rw [xu_ne2 (by omega)] | rw [xu_ne (by omega)] | rw [xu_eq]))
      · (repeat (first | rw [xu_ne2 (by omega)] | rw [xu_ne (by omega)] | rw [xu_eq]))
      · (repeat (first | rw [xu_ne2 (by omega)] | rw [xu_ne (by omega)] | rw [xu_eq]))
      · (repeat (first | rw [xu_ne2 (by omega)] | rw [xu_ne (by omega)] | rw [xu_eq]))
      · (repeat (first | rw [xu_ne2 (by omega)] | rw [xu_ne (by omega)] | rw [xu_eq]))
      · (repeat (first | rw [xu_ne2 (by omega)] | rw [xu_ne (by omega)] | rw [xu_eq]))
      · (repeat (first | rw [xu_ne2 (by omega)] | rw [xu_ne (by omega)] | rw [xu_eq]))
      · (repeat (first | rw [xu_ne2 (by omega)] | rw [xu_ne (by omega)] | rw [xu_eq]))
      · (repeat (first | rw [xu_ne2 (by omega)] | rw [xu_ne (by omega)] | rw [xu_eq]))
      · (repeat (first | rw [xu_ne2 (by omega)] | rw [xu_ne (by omega)] | rw [xu_eq]))
      · obtain ⟨r1, r2, r3, r4⟩ := q1
        refine ⟨r1, r2, ?_, ?_⟩
        · (repeat (first | rw [xu_ne2 (by omega)] | rw [xu_ne (by omega)] | rw [xu_eq])); exact r3
        · (repeat (first | rw [xu_ne2 (by omega)] | rw [xu_ne (by omega)] | rw [xu_eq])); exact r4
      all_goals (repeat (first | rw [xu_ne2 (by omega)] | rw [xu_ne (by omega)] | rw [xu_eq]))
  · have h1 : ¬ (0 ≤ x ∧ x ≤ 65535) := h
    refine ⟨0, I, J, I, J, ?_, ?_, hI⟩
    · rw [xe_Ct_seed]
      by_cases h2 : x < 0
      · simp only [xr_all, xf_all, if_true, if_false, true_or, or_true, eq_self, ite_not, Bool.false_eq_true, ite_self, and_self, true_and, and_true, false_and, and_false, not_true_eq_false, not_false_eq_true, xj_Ct_seed, xb_Ct_seed_0, xb_Ct_seed_11, xb_Ct_seed_13, h2]
      · by_cases h3 : x ≤ 65535
        · exfalso; (simp only [Int32.lt_iff_toInt_lt, Int32.le_iff_toInt_le, ← Int32.toInt_inj, vt_all] at *; omega)
        · simp only [xr_all, xf_all, if_true, if_false, true_or, or_true, eq_self, ite_not, Bool.false_eq_true, ite_self, and_self, true_and, and_true, false_and, and_false, not_true_eq_false, not_false_eq_true, xj_Ct_seed, xb_Ct_seed_0, xb_Ct_seed_11, xb_Ct_seed_13, h2, h3]
    · rw [xe_Mo_seed]
      simp only [xr_all, xf_all, if_true, if_false, true_or, or_true, eq_self, ite_not, Bool.false_eq_true, ite_self, and_self, true_and, and_true, false_and, and_false, not_true_eq_false, not_false_eq_true, xj_Mo_seed, xb_Mo_seed_0, xb_Mo_seed_13, xq_Mo_in, h1]
theorem xp_8 (VL : xv_LP) (hV : vi_Lc VL) : xl_P8 (vi_all VL) := by
  intro ro I J hro hI
  obtain ⟨a1, a2, a3, ⟨⟨n, n1, n2, n3, n4⟩, g2, g3, g4⟩, a5, a6⟩ := id hI
  have h4 : xv_inB 301 304 = true := by decide
  have h5 : (301 : Int32).toNatClampNeg = 301 := by decide
  cases n with
  | zero =>
    refine ⟨-2, I, J, I, J, ?_, ?_, hI⟩
    · rw [xe_Ct_strike]
      have h : xv_evm ro 198 170 [.ref 25] (xv_SZ, xv_mk I J) = some (some (.int 0), (xv_SZ, xv_mk I J)) := by
        rw [xe_Archive_forget]
        have h0 : (0 < nI 0) = False := by simp [nI_0]
        simp only [xr_all, xf_all, if_true, if_false, true_or, or_true, eq_self, ite_not, Bool.false_eq_true, ite_self, and_self, true_and, and_true, false_and, and_false, not_true_eq_false, not_false_eq_true, xj_Archive_forget, xb_Archive_forget_0, xb_Archive_forget_9, n2, h0]
      simp only [xr_all, xf_all, if_true, if_false, true_or, or_true, eq_self, ite_not, Bool.false_eq_true, ite_self, and_self, true_and, and_true, false_and, and_false, not_true_eq_false, not_false_eq_true, xj_Ct_strike, xb_Ct_strike_0, xb_Ct_strike_20, xb_Ct_strike_22, h]
    · rw [xe_Mo_strike]
      have h0 : (nI 0 = 0) = True := by simp [nI_0]
      simp only [xr_all, xf_all, if_true, if_false, true_or, or_true, eq_self, ite_not, Bool.false_eq_true, ite_self, and_self, true_and, and_true, false_and, and_false, not_true_eq_false, not_false_eq_true, xj_Mo_strike, xb_Mo_strike_0, xb_Mo_strike_14, h4, h5, n3, h0]
  | succ n =>
    have e1 : nI (n + 1) - 1 = nI n := nI_pred n
    refine ⟨nI n, xv_u2 I 25 2 (nI n), J, xv_u2 (xv_u2 I 25 2 (nI n)) 168 301 (nI n), J, ?_, ?_, ?_⟩
    · rw [xe_Ct_strike]
      have h : xv_evm ro 198 170 [.ref 25] (xv_SZ, xv_mk I J) = some (some (.int 1), (xv_SZ, xv_mk (xv_u2 I 25 2 (nI n)) J)) := by
        rw [xe_Archive_forget]
        have h0 : (0 < nI (n + 1)) = True := eq_true (nI_lt (a := 0) (by omega) (by omega))
        simp only [xr_all, xf_all, if_true, if_false, true_or, or_true, eq_self, ite_not, Bool.false_eq_true, ite_self, and_self, true_and, and_true, false_and, and_false, not_true_eq_false, not_false_eq_true, xj_Archive_forget, xb_Archive_forget_0, xb_Archive_forget_9, n2, h0, e1]
      have h2 : xv_evm ro 198 163 [.ref 25] (xv_SZ, xv_mk (xv_u2 I 25 2 (nI n)) J) = some (some (.int (nI n)), (xv_SZ, xv_mk (xv_u2 I 25 2 (nI n)) J)) := by
        rw [xe_Archive_said]
        simp only [xr_all, xf_all, if_true, if_false, true_or, or_true, eq_self, ite_not, Bool.false_eq_true, ite_self, and_self, true_and, and_true, false_and, and_false, not_true_eq_false, not_false_eq_true, xj_Archive_said, xb_Archive_said_0, xu_eq]
      simp only [xr_all, xf_all, if_true, if_false, true_or, or_true, eq_self, ite_not, Bool.false_eq_true, ite_self, and_self, true_and, and_true, false_and, and_false, not_true_eq_false, not_false_eq_true, xj_Ct_strike, xb_Ct_strike_0, xb_Ct_strike_20, xb_Ct_strike_22, h, h2]
    · rw [xe_Mo_strike]
      have n3' : xv_u2 I 25 2 (nI n) 168 301 = nI (n + 1) := by (repeat (first | rw [xu_ne2 (by omega)] | rw [xu_ne (by omega)] | rw [xu_eq])); exact n3
      have h0 : (nI (n + 1) = 0) = False := eq_false (nI_ne0 (by omega) (by omega))
      simp only [xr_all, xf_all, if_true, if_false, true_or, or_true, eq_self, ite_not, Bool.false_eq_true, ite_self, and_self, true_and, and_true, false_and, and_false, not_true_eq_false, not_false_eq_true, xj_Mo_strike, xb_Mo_strike_0, xb_Mo_strike_14, h4, h5, n3', h0, e1, xu_eq]
    · refine ⟨vi_T_c a1 ?_ ?_ ?_ ?_, vi_P_c a2 ?_ ?_, vi_Q_c a3 ?_ ?_ ?_ rfl, ⟨⟨n, by omega, ?_, ?_, fun i hi => ?_⟩, vi_A2_c g2 ?_ ?_ ?_ ?_, vi_A3_c g3 ?_ (fun w hw => ?_), vi_A4_c g4 (fun a ha hb => ?_) (fun j hj => ?_)⟩, vi_K_c a5 ?_ ?_ (fun f hf => ?_) (fun a ha hb => ?_) ?_, hV I _ (fun a ha hb => ?_) ?_ (fun a ha hb => ?_) a6.1, vi_B_n (vi_B_n a6.2 (by decide) (by decide)) (by decide) (by decide)⟩
      · (repeat (first | rw [xu_ne2 (by omega)] | rw [xu_ne (by omega)] | rw [xu_eq]))
      · (repeat (first | rw [xu_ne2 (by omega)] | rw [xu_ne (by omega)] | rw [xu_eq]))
      · (repeat (first | rw [xu_ne2 (by omega)] | rw [xu_ne (by omega)] | rw [xu_eq]))
      · (repeat (first | rw [xu_ne2 (by omega)] | rw [xu_ne (by omega)] | rw [xu_eq]))
      · (repeat (first | rw [xu_ne2 (by omega)] | rw [xu_ne (by omega)] | rw [xu_eq]))
      · (repeat (first | rw [xu_ne2 (by omega)] | rw [xu_ne (by omega)] | rw [xu_eq]))
      · (repeat (first | rw [xu_ne2 (by omega)] | rw [xu_ne (by omega)] | rw [xu_eq]))
      · (repeat (first | rw [xu_ne2 (by omega)] | rw [xu_ne (by omega)] | rw [xu_eq]))
      · (repeat (first | rw [xu_ne2 (by omega)] | rw [xu_ne (by omega)] | rw [xu_eq]))
      · (repeat (first | rw [xu_ne2 (by omega)] | rw [xu_ne (by omega)] | rw [xu_eq]))
      · (repeat (first | rw [xu_ne2 (by omega)] | rw [xu_ne (by omega)] | rw [xu_eq]))
      · obtain ⟨b1, b2, b3, b4, b5⟩ := n4 i (by omega)
        refine ⟨fun f hf => ?_, ?_, ?_, ?_, ?_⟩
        · (repeat (first | rw [xu_ne2 (by omega)] | rw [xu_ne (by omega)] | rw [xu_eq])); exact b1 f hf
        · (repeat (first | rw [xu_ne2 (by omega)] | rw [xu_ne (by omega)] | rw [xu_eq])); exact b2
        · (repeat (first | rw [xu_ne2 (by omega)] | rw [xu_ne (by omega)] | rw [xu_eq])); exact b3
        · (repeat (first | rw [xu_ne2 (by omega)] | rw [xu_ne (by omega)] | rw [xu_eq])); exact b4
        · (repeat (first | rw [xu_ne2 (by omega)] | rw [xu_ne (by omega)] | rw [xu_eq])); exact b5
      all_goals (repeat (first | rw [xu_ne2 (by omega)] | rw [xu_ne (by omega)] | rw [xu_eq]))
