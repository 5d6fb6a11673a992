/-! PAIR: agree -/
theorem xp_21 (VL : xv_LP) (hV : vi_Lc VL) : xl_P21 (vi_all VL) := by
  intro x1 x2 x3 ro I J hro hI
  obtain ⟨a1, a2, a3, ⟨⟨n, n1, n2, n3, n4⟩, -, g3, -⟩, a5, a6, a7⟩ := id hI
  by_cases he : x1 = x2
  · refine ⟨-1, I, J, I, J, ?_, ?_, hI⟩
    · rw [xe_Ct_agree]
      simp only [xr_all, xf_all, if_true, if_false, true_or, or_true, eq_self, ite_not, Bool.false_eq_true, ite_self, and_self, true_and, and_true, false_and, and_false, not_true_eq_false, not_false_eq_true, xj_Ct_agree, xb_Ct_agree_0, xb_Ct_agree_36, xb_Ct_agree_38, xb_Ct_agree_100, xb_Ct_agree_101, xb_Ct_agree_107, xb_Ct_agree_113, eq_true he]
    · rw [xe_Mo_agree]
      rcases vt_or ro 197 xv_SZ I J g3 x1 with ⟨w, hw, hx, k1, k2⟩ | ⟨k1, k2⟩
      · have k3 := k2
        rw [he] at k3
        simp only [xr_all, xf_all, if_true, if_false, true_or, or_true, eq_self, ite_not, Bool.false_eq_true, ite_self, and_self, true_and, and_true, false_and, and_false, not_true_eq_false, not_false_eq_true, xj_Mo_agree, xb_Mo_agree_0, xb_Mo_agree_30, xb_Mo_agree_32, xb_Mo_agree_81, xb_Mo_agree_115, xb_Mo_agree_121, xb_Mo_agree_127, xb_Mo_agree_136, xb_Mo_agree_138, k2, k3, eq_true he]
      · simp only [xr_all, xf_all, if_true, if_false, true_or, or_true, eq_self, ite_not, Bool.false_eq_true, ite_self, and_self, true_and, and_true, false_and, and_false, not_true_eq_false, not_false_eq_true, xj_Mo_agree, xb_Mo_agree_0, xb_Mo_agree_30, xb_Mo_agree_32, xb_Mo_agree_81, xb_Mo_agree_115, xb_Mo_agree_121, xb_Mo_agree_127, xb_Mo_agree_136, xb_Mo_agree_138, k2]
  · have he0 := eq_false he
    rcases vt_or ro 197 xv_SZ I J g3 x1 with ⟨w, hw, hx, k1, k2⟩ | ⟨k1, k2⟩
    · rcases vt_or ro 197 xv_SZ I J g3 x2 with ⟨v, hv, hy, k3, k4⟩ | ⟨k3, k4⟩
      · by_cases h0 : x3 = 0 ∨ x3 = 1
        · have hin : (0 ≤ x3 ∧ x3 ≤ 1) = True := by rcases h0 with rfl | rfl <;> exact eq_true (by decide)
          have hsum : vs_sum (vg_t I n x1 x2 x3) 8 = vs_sum (vg_m I n x1 x2 x3) 8 := vs_sum_c (fun i _ => vg_same (fun i hi f hf => (n4 i hi).1 f hf) x1 x2 x3 i)
          refine ⟨vs_sum (vg_m I n x1 x2 x3) 8, I, J, I, J, ?_, ?_, hI⟩
          · rw [xe_Ct_agree, ← hsum]
            have q := fun u v => vl_agC ro xv_SZ I J n2 n1 x1 x2 x3 h0 8 0 u v (by omega)
            rcases h0 with h0 | h0
            · simp only [xr_all, xf_all, if_true, if_false, true_or, or_true, eq_self, ite_not, Bool.false_eq_true, ite_self, and_self, true_and, and_true, false_and, and_false, not_true_eq_false, not_false_eq_true, xj_Ct_agree, xb_Ct_agree_0, xb_Ct_agree_36, xb_Ct_agree_38, xb_Ct_agree_100, xb_Ct_agree_101, xb_Ct_agree_107, xb_Ct_agree_113, k1, k3, he0, h0]
              rw [h0] at q
              exact q _ _
            · simp only [xr_all, xf_all, if_true, if_false, true_or, or_true, eq_self, ite_not, Bool.false_eq_true, ite_self, and_self, true_and, and_true, false_and, and_false, not_true_eq_false, not_false_eq_true, xj_Ct_agree, xb_Ct_agree_0, xb_Ct_agree_36, xb_Ct_agree_38, xb_Ct_agree_100, xb_Ct_agree_101, xb_Ct_agree_107, xb_Ct_agree_113, k1, k3, he0, h0]
              rw [h0] at q
              exact q _ _
          · rw [xe_Mo_agree]
            simp only [xr_all, xf_all, if_true, if_false, true_or, or_true, eq_self, ite_not, Bool.false_eq_true, ite_self, and_self, true_and, and_true, false_and, and_false, not_true_eq_false, not_false_eq_true, xj_Mo_agree, xb_Mo_agree_0, xb_Mo_agree_30, xb_Mo_agree_32, xb_Mo_agree_81, xb_Mo_agree_115, xb_Mo_agree_121, xb_Mo_agree_127, xb_Mo_agree_136, xb_Mo_agree_138, k2, k4, he0, xq_Mo_in, hin]
            exact vl_agM ro xv_SZ I J n3 n1 x1 x2 x3 h0 8 0 _ _ (by omega)
        · have hin : (0 ≤ x3 ∧ x3 ≤ 1) = False := by
            apply eq_false
            intro q
            obtain ⟨j, hj, rfl⟩ := (vn_in (N := 1) (by omega)).mp q
            have : j = 0 ∨ j = 1 := by omega
            rcases this with rfl | rfl
            · exact h0 (Or.inl rfl)
            · exact h0 (Or.inr rfl)
          have z0 : (x3 = 0) = False := eq_false (fun q => h0 (Or.inl q))
          have z1 : (x3 = 1) = False := eq_false (fun q => h0 (Or.inr q))
          refine ⟨-1, I, J, I, J, ?_, ?_, hI⟩
          · rw [xe_Ct_agree]
            simp only [xr_all, xf_all, if_true, if_false, true_or, or_true, eq_self, ite_not, Bool.false_eq_true, ite_self, and_self, true_and, and_true, false_and, and_false, not_true_eq_false, not_false_eq_true, xj_Ct_agree, xb_Ct_agree_0, xb_Ct_agree_36, xb_Ct_agree_38, xb_Ct_agree_100, xb_Ct_agree_101, xb_Ct_agree_107, xb_Ct_agree_113, k1, k3, he0, z0, z1]
          · rw [xe_Mo_agree]
            simp only [xr_all, xf_all, if_true, if_false, true_or, or_true, eq_self, ite_not, Bool.false_eq_true, ite_self, and_self, true_and, and_true, false_and, and_false, not_true_eq_false, not_false_eq_true, xj_Mo_agree, xb_Mo_agree_0, xb_Mo_agree_30, xb_Mo_agree_32, xb_Mo_agree_81, xb_Mo_agree_115, xb_Mo_agree_121, xb_Mo_agree_127, xb_Mo_agree_136, xb_Mo_agree_138, k2, k4, he0, xq_Mo_in, hin]
      · refine ⟨-1, I, J, I, J, ?_, ?_, hI⟩
        · rw [xe_Ct_agree]
          simp only [xr_all, xf_all, if_true, if_false, true_or, or_true, eq_self, ite_not, Bool.false_eq_true, ite_self, and_self, true_and, and_true, false_and, and_false, not_true_eq_false, not_false_eq_true, xj_Ct_agree, xb_Ct_agree_0, xb_Ct_agree_36, xb_Ct_agree_38, xb_Ct_agree_100, xb_Ct_agree_101, xb_Ct_agree_107, xb_Ct_agree_113, k1, k3, he0]
        · rw [xe_Mo_agree]
          simp only [xr_all, xf_all, if_true, if_false, true_or, or_true, eq_self, ite_not, Bool.false_eq_true, ite_self, and_self, true_and, and_true, false_and, and_false, not_true_eq_false, not_false_eq_true, xj_Mo_agree, xb_Mo_agree_0, xb_Mo_agree_30, xb_Mo_agree_32, xb_Mo_agree_81, xb_Mo_agree_115, xb_Mo_agree_121, xb_Mo_agree_127, xb_Mo_agree_136, xb_Mo_agree_138, k2, k4]
    · refine ⟨-1, I, J, I, J, ?_, ?_, hI⟩
      · rw [xe_Ct_agree]
        simp only [xr_all, xf_all, if_true, if_false, true_or, or_true, eq_self, ite_not, Bool.false_eq_true, ite_self, and_self, true_and, and_true, false_and, and_false, not_true_eq_false, not_false_eq_true, xj_Ct_agree, xb_Ct_agree_0, xb_Ct_agree_36, xb_Ct_agree_38, xb_Ct_agree_100, xb_Ct_agree_101, xb_Ct_agree_107, xb_Ct_agree_113, k1, he0]
      · rw [xe_Mo_agree]
        simp only [xr_all, xf_all, if_true, if_false, true_or, or_true, eq_self, ite_not, Bool.false_eq_true, ite_self, and_self, true_and, and_true, false_and, and_false, not_true_eq_false, not_false_eq_true, xj_Mo_agree, xb_Mo_agree_0, xb_Mo_agree_30, xb_Mo_agree_32, xb_Mo_agree_81, xb_Mo_agree_115, xb_Mo_agree_121, xb_Mo_agree_127, xb_Mo_agree_136, xb_Mo_agree_138, k2]
