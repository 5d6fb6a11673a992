/-! PAIR: witnessIs (the pair itself) -/
theorem vn_half : ∀ m, m < 12 → nI m / 2 = nI (m / 2) := by decide +kernel
def vm_wsw : List xv_Op := [(.iload_n 2, 0, 0, 0, .null), (.tableswitch (93) (0) (5) #[39, 50, 52, 58, 78, 87], 21, 0, 0, .null)]
theorem vm_w10 : xb_Mo_witnessIs_10 = (.aload_n 0, 0, 0, 0, .null) :: (.getfield 7, 0, 0, 1093, .null) :: (.bipush (120), 0, 0, 0, .int (120)) :: (.iload_n 1, 0, 0, 0, .null) :: (.iadd, 0, 0, 0, .null) :: (.iaload, 0, 0, 0, .null) :: (.istore_n 3, 0, 0, 0, .null) :: vm_wsw := rfl
theorem xp_11 (VL : xv_LP) (hV : vi_Lc VL) : xl_P11 (vi_all VL) := by
  intro x0 x1 ro I J hro hI
  obtain ⟨a1, a2, a3, ⟨⟨na, p1, p2, p3, p4⟩, -, ⟨mk, m1, m2, m3⟩, g4⟩, a5, a6, a7⟩ := id hI
  by_cases hw : ∃ w : Nat, w ≤ 9 ∧ x0 = nI w
  · obtain ⟨w, hw, rfl⟩ := hw
    obtain ⟨⟨h, h1, h2, h3⟩, n, n1, n2, n3, n4⟩ := g4 w (by omega)
    have hmw := xq_Mo_isWitness ro 197 xv_SZ I J (m := mk) (w := w) m2 m1 (by omega)
    have h5 : 120 + nI w = nI (120 + w) := by rw [show (120 : Int32) = nI 120 from rfl, nI_add]
    have h6 : xv_inB (nI (120 + w)) 304 = true := vn_inB (by omega) (by omega)
    have h7 : 130 + nI w = nI (130 + w) := by rw [show (130 : Int32) = nI 130 from rfl, nI_add]
    have h8 : xv_inB (nI (130 + w)) 304 = true := vn_inB (by omega) (by omega)
    by_cases ht : mk.testBit w = true
    · have hI3 : I (25 + 3 + 2 * w) 3 = 1 := by rw [m3 w (by omega), if_pos ht]
      have htold := xq_told ro 197 xv_SZ I J (A := 25) (w := w) (Or.inl rfl) (by omega) hI3
      have hW := vAr_W (A := 25) (Or.inl rfl) (show w < 10 by omega)
      have hl : ∀ i, i < n → xv_evm ro 198 266 [.ref (25 + 3 + 2 * w), .int (nI i)] (xv_SZ, xv_mk I J) = some (some (.int (I 168 (12 * w + i))), (xv_SZ, xv_mk I J)) := by
        intro i hi
        rw [xq_Witness_layer ro 198 xv_SZ I J hW n2 n1 (show i < 2 ^ 31 by omega), if_pos hi]
        obtain ⟨s, _, _, s3, s4⟩ := n4 i hi
        rw [s4, show 25 + 3 + 2 * w + 1 = 25 + 4 + 2 * w by omega, s3]
      have hC : ∀ r, xv_ev ro 199 xm_Ct_witnessIs xb_Ct_witnessIs_15 [some (.ref 0), some (.int (nI w)), some (.int x1), some (.ref (25 + 3 + 2 * w))] [] (xv_SZ, xv_mk I J) = r → xv_evm ro 199 12 [.ref 0, .int (nI w), .int x1] (xv_SZ, xv_mk I J) = r := by
        intro r hr
        rw [xe_Ct_witnessIs]
        simp only [xr_all, xf_all, if_true, if_false, true_or, or_true, eq_self, ite_not, Bool.false_eq_true, ite_self, and_self, true_and, and_true, false_and, and_false, not_true_eq_false, not_false_eq_true, xj_Ct_witnessIs, xb_Ct_witnessIs_0, xb_Ct_witnessIs_56, xb_Ct_witnessIs_61, xb_Ct_witnessIs_66, xb_Ct_witnessIs_73, xb_Ct_witnessIs_85, xb_Ct_witnessIs_97, xb_Ct_witnessIs_98, xb_Ct_witnessIs_108, xb_Ct_witnessIs_118, xb_Ct_witnessIs_130, xb_Ct_witnessIs_132, xb_Ct_witnessIs_154, xb_Ct_witnessIs_156, htold]
        exact hr
      have hM : ∀ r, xv_ev ro 199 xm_Mo_witnessIs vm_wsw [some (.ref 167), some (.int (nI w)), some (.int x1), some (.int (nI n))] [] (xv_SZ, xv_mk I J) = r → xv_evm ro 199 106 [.ref 167, .int (nI w), .int x1] (xv_SZ, xv_mk I J) = r := by
        intro r hr
        rw [xe_Mo_witnessIs]
        simp only [xr_all, xf_all, if_true, if_false, true_or, or_true, eq_self, ite_not, Bool.false_eq_true, ite_self, and_self, true_and, and_true, false_and, and_false, not_true_eq_false, not_false_eq_true, xj_Mo_witnessIs, xb_Mo_witnessIs_0, xb_Mo_witnessIs_60, xb_Mo_witnessIs_71, xb_Mo_witnessIs_73, xb_Mo_witnessIs_79, xb_Mo_witnessIs_88, xb_Mo_witnessIs_98, xb_Mo_witnessIs_99, xb_Mo_witnessIs_108, xb_Mo_witnessIs_114, xb_Mo_witnessIs_127, xb_Mo_witnessIs_147, xb_Mo_witnessIs_149, vm_w10, hmw, ht, h5, h6, nI_clamp (show 120 + w < 2 ^ 31 by omega), n3]
        exact hr
      by_cases hf : ∃ f : Nat, f ≤ 5 ∧ x1 = nI f
      · obtain ⟨f, hf, hx⟩ := hf
        have h06 : f = 0 ∨ f = 1 ∨ f = 2 ∨ f = 3 ∨ f = 4 ∨ f = 5 := by omega
        rcases h06 with rfl | rfl | rfl | rfl | rfl | rfl
        · refine ⟨nI h, I, J, I, J, hC _ ?_, hM _ ?_, hI⟩
          · unfold xb_Ct_witnessIs_15
            rw [xr_iload2, hx, xr_sw ro 199 xm_Ct_witnessIs _ _ _ _ _ _ _ _ 102 5 _ 0 56 40 (by omega) (by omega) rfl rfl]
            simp only [xr_all, xf_all, if_true, if_false, true_or, or_true, eq_self, ite_not, Bool.false_eq_true, ite_self, and_self, true_and, and_true, false_and, and_false, not_true_eq_false, not_false_eq_true, xj_Ct_witnessIs, xb_Ct_witnessIs_0, xb_Ct_witnessIs_56, xb_Ct_witnessIs_61, xb_Ct_witnessIs_66, xb_Ct_witnessIs_73, xb_Ct_witnessIs_85, xb_Ct_witnessIs_97, xb_Ct_witnessIs_98, xb_Ct_witnessIs_108, xb_Ct_witnessIs_118, xb_Ct_witnessIs_130, xb_Ct_witnessIs_132, xb_Ct_witnessIs_154, xb_Ct_witnessIs_156, vW_f hW, xq_Witness_honesty ro 198 xv_SZ I J hW, h2]
          · unfold vm_wsw
            rw [xr_iload2, hx, xr_sw ro 199 xm_Mo_witnessIs _ _ _ _ _ _ _ _ 93 5 _ 0 60 39 (by omega) (by omega) rfl rfl]
            simp only [xr_all, xf_all, if_true, if_false, true_or, or_true, eq_self, ite_not, Bool.false_eq_true, ite_self, and_self, true_and, and_true, false_and, and_false, not_true_eq_false, not_false_eq_true, xj_Mo_witnessIs, xb_Mo_witnessIs_0, xb_Mo_witnessIs_60, xb_Mo_witnessIs_71, xb_Mo_witnessIs_73, xb_Mo_witnessIs_79, xb_Mo_witnessIs_88, xb_Mo_witnessIs_98, xb_Mo_witnessIs_99, xb_Mo_witnessIs_108, xb_Mo_witnessIs_114, xb_Mo_witnessIs_127, xb_Mo_witnessIs_147, xb_Mo_witnessIs_149, h7, h8, nI_clamp (show 130 + w < 2 ^ 31 by omega), h3]
        · refine ⟨nI n, I, J, I, J, hC _ ?_, hM _ ?_, hI⟩
          · unfold xb_Ct_witnessIs_15
            rw [xr_iload2, hx, xr_sw ro 199 xm_Ct_witnessIs _ _ _ _ _ _ _ _ 102 5 _ 1 61 45 (by omega) (by omega) rfl rfl]
            simp only [xr_all, xf_all, if_true, if_false, true_or, or_true, eq_self, ite_not, Bool.false_eq_true, ite_self, and_self, true_and, and_true, false_and, and_false, not_true_eq_false, not_false_eq_true, xj_Ct_witnessIs, xb_Ct_witnessIs_0, xb_Ct_witnessIs_56, xb_Ct_witnessIs_61, xb_Ct_witnessIs_66, xb_Ct_witnessIs_73, xb_Ct_witnessIs_85, xb_Ct_witnessIs_97, xb_Ct_witnessIs_98, xb_Ct_witnessIs_108, xb_Ct_witnessIs_118, xb_Ct_witnessIs_130, xb_Ct_witnessIs_132, xb_Ct_witnessIs_154, xb_Ct_witnessIs_156, vW_f hW, xq_Witness_layers ro 198 xv_SZ I J hW, n2]
          · unfold vm_wsw
            rw [xr_iload2, hx, xr_sw ro 199 xm_Mo_witnessIs _ _ _ _ _ _ _ _ 93 5 _ 1 71 50 (by omega) (by omega) rfl rfl]
            simp only [xr_all, xf_all, if_true, if_false, true_or, or_true, eq_self, ite_not, Bool.false_eq_true, ite_self, and_self, true_and, and_true, false_and, and_false, not_true_eq_false, not_false_eq_true, xj_Mo_witnessIs, xb_Mo_witnessIs_0, xb_Mo_witnessIs_60, xb_Mo_witnessIs_71, xb_Mo_witnessIs_73, xb_Mo_witnessIs_79, xb_Mo_witnessIs_88, xb_Mo_witnessIs_98, xb_Mo_witnessIs_99, xb_Mo_witnessIs_108, xb_Mo_witnessIs_114, xb_Mo_witnessIs_127, xb_Mo_witnessIs_147, xb_Mo_witnessIs_149]
        · refine ⟨vs_sum (fun i => I 168 (12 * w + i)) n, I, J, I, J, hC _ ?_, hM _ ?_, hI⟩
          · have hcut : vs_sum (fun i => if i < n then I (25 + 3 + 2 * w + 1) i else 0) 12 = vs_sum (fun i => I 168 (12 * w + i)) n := by
              have q := vs_sum_cut (f := fun i => I (25 + 3 + 2 * w + 1) i) (n := n) (12 - n)
              rw [show n + (12 - n) = 12 by omega] at q
              rw [q]
              exact vs_sum_c (fun i hi => by obtain ⟨s, _, _, s3, s4⟩ := n4 i hi; rw [s4, show 25 + 3 + 2 * w + 1 = 25 + 4 + 2 * w by omega, s3])
            have hfi : xv_evm ro 198 267 [.ref (25 + 3 + 2 * w), .int 12] (xv_SZ, xv_mk I J) = some (some (.int (vs_sum (fun i => I 168 (12 * w + i)) n)), (xv_SZ, xv_mk I J)) := by
              have q := xq_Witness_first ro 197 xv_SZ I J hW n2 n1 (m := 12) (by omega)
              rw [hcut] at q
              exact q
            unfold xb_Ct_witnessIs_15
            rw [xr_iload2, hx, xr_sw ro 199 xm_Ct_witnessIs _ _ _ _ _ _ _ _ 102 5 _ 2 66 50 (by omega) (by omega) rfl rfl]
            simp only [xr_all, xf_all, if_true, if_false, true_or, or_true, eq_self, ite_not, Bool.false_eq_true, ite_self, and_self, true_and, and_true, false_and, and_false, not_true_eq_false, not_false_eq_true, xj_Ct_witnessIs, xb_Ct_witnessIs_0, xb_Ct_witnessIs_56, xb_Ct_witnessIs_61, xb_Ct_witnessIs_66, xb_Ct_witnessIs_73, xb_Ct_witnessIs_85, xb_Ct_witnessIs_97, xb_Ct_witnessIs_98, xb_Ct_witnessIs_108, xb_Ct_witnessIs_118, xb_Ct_witnessIs_130, xb_Ct_witnessIs_132, xb_Ct_witnessIs_154, xb_Ct_witnessIs_156, vW_f hW, hfi]
          · have hto : xv_evm ro 198 51 [.ref 167, .int (nI w)] (xv_SZ, xv_mk I J) = some (some (.int (vs_sum (fun i => I 168 (12 * w + i)) n)), (xv_SZ, xv_mk I J)) := by
              rw [xe_Mo_together]
              simp only [xr_all, xf_all, if_true, if_false, true_or, or_true, eq_self, ite_not, Bool.false_eq_true, ite_self, and_self, true_and, and_true, false_and, and_false, not_true_eq_false, not_false_eq_true, xj_Mo_together, xb_Mo_together_0, xb_Mo_together_32]
              exact vl_tog ro 197 xv_SZ I J (by omega) n3 n1 n 0 (by omega)
            unfold vm_wsw
            rw [xr_iload2, hx, xr_sw ro 199 xm_Mo_witnessIs _ _ _ _ _ _ _ _ 93 5 _ 2 73 52 (by omega) (by omega) rfl rfl]
            simp only [xr_all, xf_all, if_true, if_false, true_or, or_true, eq_self, ite_not, Bool.false_eq_true, ite_self, and_self, true_and, and_true, false_and, and_false, not_true_eq_false, not_false_eq_true, xj_Mo_witnessIs, xb_Mo_witnessIs_0, xb_Mo_witnessIs_60, xb_Mo_witnessIs_71, xb_Mo_witnessIs_73, xb_Mo_witnessIs_79, xb_Mo_witnessIs_88, xb_Mo_witnessIs_98, xb_Mo_witnessIs_99, xb_Mo_witnessIs_108, xb_Mo_witnessIs_114, xb_Mo_witnessIs_127, xb_Mo_witnessIs_147, xb_Mo_witnessIs_149, hto]
        · have z2 : ((2 : Int32) = 0) = False := eq_false (by decide)
          by_cases hn0 : n = 0
          · have e0 : nI n = 0 := by rw [hn0]; rfl
            refine ⟨-2, I, J, I, J, hC _ ?_, hM _ ?_, hI⟩
            · unfold xb_Ct_witnessIs_15
              rw [xr_iload2, hx, xr_sw ro 199 xm_Ct_witnessIs _ _ _ _ _ _ _ _ 102 5 _ 3 73 57 (by omega) (by omega) rfl rfl]
              simp only [xr_all, xf_all, if_true, if_false, true_or, or_true, eq_self, ite_not, Bool.false_eq_true, ite_self, and_self, true_and, and_true, false_and, and_false, not_true_eq_false, not_false_eq_true, xj_Ct_witnessIs, xb_Ct_witnessIs_0, xb_Ct_witnessIs_56, xb_Ct_witnessIs_61, xb_Ct_witnessIs_66, xb_Ct_witnessIs_73, xb_Ct_witnessIs_85, xb_Ct_witnessIs_97, xb_Ct_witnessIs_98, xb_Ct_witnessIs_108, xb_Ct_witnessIs_118, xb_Ct_witnessIs_130, xb_Ct_witnessIs_132, xb_Ct_witnessIs_154, xb_Ct_witnessIs_156, vW_f hW, xq_Witness_layers ro 198 xv_SZ I J hW, n2, e0]
            · unfold vm_wsw
              rw [xr_iload2, hx, xr_sw ro 199 xm_Mo_witnessIs _ _ _ _ _ _ _ _ 93 5 _ 3 79 58 (by omega) (by omega) rfl rfl]
              simp only [xr_all, xf_all, if_true, if_false, true_or, or_true, eq_self, ite_not, Bool.false_eq_true, ite_self, and_self, true_and, and_true, false_and, and_false, not_true_eq_false, not_false_eq_true, xj_Mo_witnessIs, xb_Mo_witnessIs_0, xb_Mo_witnessIs_60, xb_Mo_witnessIs_71, xb_Mo_witnessIs_73, xb_Mo_witnessIs_79, xb_Mo_witnessIs_88, xb_Mo_witnessIs_98, xb_Mo_witnessIs_99, xb_Mo_witnessIs_108, xb_Mo_witnessIs_114, xb_Mo_witnessIs_127, xb_Mo_witnessIs_147, xb_Mo_witnessIs_149, e0]
          · have e0 : (nI n = 0) = False := by rw [show (0 : Int32) = nI 0 from rfl, vn_eq (by omega) (by omega)]; simp; omega
            have e1 : nI n - 1 = nI (n - 1) := by rw [show (1 : Int32) = nI 1 from rfl, pk_sub (by omega)]
            have e2 := vn_half (n - 1) (by omega)
            have e3 := hl ((n - 1) / 2) (by omega)
            refine ⟨I 168 (12 * w + (n - 1) / 2), I, J, I, J, hC _ ?_, hM _ ?_, hI⟩
            · unfold xb_Ct_witnessIs_15
              rw [xr_iload2, hx, xr_sw ro 199 xm_Ct_witnessIs _ _ _ _ _ _ _ _ 102 5 _ 3 73 57 (by omega) (by omega) rfl rfl]
              simp only [xr_all, xf_all, if_true, if_false, true_or, or_true, eq_self, ite_not, Bool.false_eq_true, ite_self, and_self, true_and, and_true, false_and, and_false, not_true_eq_false, not_false_eq_true, xj_Ct_witnessIs, xb_Ct_witnessIs_0, xb_Ct_witnessIs_56, xb_Ct_witnessIs_61, xb_Ct_witnessIs_66, xb_Ct_witnessIs_73, xb_Ct_witnessIs_85, xb_Ct_witnessIs_97, xb_Ct_witnessIs_98, xb_Ct_witnessIs_108, xb_Ct_witnessIs_118, xb_Ct_witnessIs_130, xb_Ct_witnessIs_132, xb_Ct_witnessIs_154, xb_Ct_witnessIs_156, vW_f hW, xq_Witness_layers ro 198 xv_SZ I J hW, n2, e0, e1, e2, e3, z2]
            · unfold vm_wsw
              rw [xr_iload2, hx, xr_sw ro 199 xm_Mo_witnessIs _ _ _ _ _ _ _ _ 93 5 _ 3 79 58 (by omega) (by omega) rfl rfl]
              simp only [xr_all, xf_all, if_true, if_false, true_or, or_true, eq_self, ite_not, Bool.false_eq_true, ite_self, and_self, true_and, and_true, false_and, and_false, not_true_eq_false, not_false_eq_true, xj_Mo_witnessIs, xb_Mo_witnessIs_0, xb_Mo_witnessIs_60, xb_Mo_witnessIs_71, xb_Mo_witnessIs_73, xb_Mo_witnessIs_79, xb_Mo_witnessIs_88, xb_Mo_witnessIs_98, xb_Mo_witnessIs_99, xb_Mo_witnessIs_108, xb_Mo_witnessIs_114, xb_Mo_witnessIs_127, xb_Mo_witnessIs_147, xb_Mo_witnessIs_149, e0, e1, e2, z2, xq_Mo_layerOf ro 198 xv_SZ I J (show 12 * w + (n - 1) / 2 < 304 by omega)]
        · have hsum : vs_sum (fun i => if I (25 + 23 + i) 0 = nI w then I (25 + 23 + i) 3 else 0) na = vs_sum (fun i => if I 168 (140 + i) = nI w then I 168 (200 + i) else 0) na := vs_sum_c (fun i hi => by
            obtain ⟨b1, -⟩ := p4 i hi
            rw [b1 0 (by omega), b1 3 (by omega)])
          refine ⟨vs_sum (fun i => if I 168 (140 + i) = nI w then I 168 (200 + i) else 0) na, I, J, I, J, hC _ ?_, hM _ ?_, hI⟩
          · have hsd : xv_evm ro 198 177 [.ref 25, .int (nI w), .int 1] (xv_SZ, xv_mk I J) = some (some (.int (vs_sum (fun i => if I 168 (140 + i) = nI w then I 168 (200 + i) else 0) na)), (xv_SZ, xv_mk I J)) := by
              rw [xe_Archive_saidBy, ← hsum]
              simp only [xr_all, xf_all, if_true, if_false, true_or, or_true, eq_self, ite_not, Bool.false_eq_true, ite_self, and_self, true_and, and_true, false_and, and_false, not_true_eq_false, not_false_eq_true, xj_Archive_saidBy, xb_Archive_saidBy_0, xb_Archive_saidBy_52, xb_Archive_saidBy_55, xb_Archive_saidBy_61]
              exact vl_said1 ro 197 xv_SZ I J (A := 25) (Or.inl rfl) p2 p1 a7 (nI w) na 0 (by omega)
            unfold xb_Ct_witnessIs_15
            rw [xr_iload2, hx, xr_sw ro 199 xm_Ct_witnessIs _ _ _ _ _ _ _ _ 102 5 _ 4 98 82 (by omega) (by omega) rfl rfl]
            simp only [xr_all, xf_all, if_true, if_false, true_or, or_true, eq_self, ite_not, Bool.false_eq_true, ite_self, and_self, true_and, and_true, false_and, and_false, not_true_eq_false, not_false_eq_true, xj_Ct_witnessIs, xb_Ct_witnessIs_0, xb_Ct_witnessIs_56, xb_Ct_witnessIs_61, xb_Ct_witnessIs_66, xb_Ct_witnessIs_73, xb_Ct_witnessIs_85, xb_Ct_witnessIs_97, xb_Ct_witnessIs_98, xb_Ct_witnessIs_108, xb_Ct_witnessIs_118, xb_Ct_witnessIs_130, xb_Ct_witnessIs_132, xb_Ct_witnessIs_154, xb_Ct_witnessIs_156, hsd]
          · have hte : xv_evm ro 198 104 [.ref 167, .int 140, .int (nI w)] (xv_SZ, xv_mk I J) = some (some (.int (vs_sum (fun i => if I 168 (140 + i) = nI w then I 168 (200 + i) else 0) na)), (xv_SZ, xv_mk I J)) := by
              rw [xe_Mo_tearsOf]
              simp only [xr_all, xf_all, if_true, if_false, true_or, or_true, eq_self, ite_not, Bool.false_eq_true, ite_self, and_self, true_and, and_true, false_and, and_false, not_true_eq_false, not_false_eq_true, xj_Mo_tearsOf, xb_Mo_tearsOf_0, xb_Mo_tearsOf_46, xb_Mo_tearsOf_47, xb_Mo_tearsOf_55]
              exact vl_tears ro 198 xv_SZ I J (f := 140) p3 p1 (by omega) (nI w) na 0 (by omega)
            unfold vm_wsw
            rw [xr_iload2, hx, xr_sw ro 199 xm_Mo_witnessIs _ _ _ _ _ _ _ _ 93 5 _ 4 99 78 (by omega) (by omega) rfl rfl]
            simp only [xr_all, xf_all, if_true, if_false, true_or, or_true, eq_self, ite_not, Bool.false_eq_true, ite_self, and_self, true_and, and_true, false_and, and_false, not_true_eq_false, not_false_eq_true, xj_Mo_witnessIs, xb_Mo_witnessIs_0, xb_Mo_witnessIs_60, xb_Mo_witnessIs_71, xb_Mo_witnessIs_73, xb_Mo_witnessIs_79, xb_Mo_witnessIs_88, xb_Mo_witnessIs_98, xb_Mo_witnessIs_99, xb_Mo_witnessIs_108, xb_Mo_witnessIs_114, xb_Mo_witnessIs_127, xb_Mo_witnessIs_147, xb_Mo_witnessIs_149, hte]
        · have hsum : vs_sum (fun i => if I (25 + 23 + i) 0 = nI w then 1 else 0) na = vs_sum (fun i => if I 168 (140 + i) = nI w then 1 else 0) na := vs_sum_c (fun i hi => by
            obtain ⟨b1, -⟩ := p4 i hi
            rw [b1 0 (by omega)])
          refine ⟨vs_sum (fun i => if I 168 (140 + i) = nI w then 1 else 0) na, I, J, I, J, hC _ ?_, hM _ ?_, hI⟩
          · have hsd : xv_evm ro 198 177 [.ref 25, .int (nI w), .int 0] (xv_SZ, xv_mk I J) = some (some (.int (vs_sum (fun i => if I 168 (140 + i) = nI w then 1 else 0) na)), (xv_SZ, xv_mk I J)) := by
              rw [xe_Archive_saidBy, ← hsum]
              simp only [xr_all, xf_all, if_true, if_false, true_or, or_true, eq_self, ite_not, Bool.false_eq_true, ite_self, and_self, true_and, and_true, false_and, and_false, not_true_eq_false, not_false_eq_true, xj_Archive_saidBy, xb_Archive_saidBy_0, xb_Archive_saidBy_52, xb_Archive_saidBy_55, xb_Archive_saidBy_61]
              exact vl_said0 ro 197 xv_SZ I J (A := 25) (Or.inl rfl) p2 p1 a7 (nI w) na 0 (by omega)
            unfold xb_Ct_witnessIs_15
            rw [xr_iload2, hx, xr_sw ro 199 xm_Ct_witnessIs _ _ _ _ _ _ _ _ 102 5 _ 5 108 92 (by omega) (by omega) rfl rfl]
            simp only [xr_all, xf_all, if_true, if_false, true_or, or_true, eq_self, ite_not, Bool.false_eq_true, ite_self, and_self, true_and, and_true, false_and, and_false, not_true_eq_false, not_false_eq_true, xj_Ct_witnessIs, xb_Ct_witnessIs_0, xb_Ct_witnessIs_56, xb_Ct_witnessIs_61, xb_Ct_witnessIs_66, xb_Ct_witnessIs_73, xb_Ct_witnessIs_85, xb_Ct_witnessIs_97, xb_Ct_witnessIs_98, xb_Ct_witnessIs_108, xb_Ct_witnessIs_118, xb_Ct_witnessIs_130, xb_Ct_witnessIs_132, xb_Ct_witnessIs_154, xb_Ct_witnessIs_156, hsd]
          · have hte : xv_evm ro 198 105 [.ref 167, .int (nI w)] (xv_SZ, xv_mk I J) = some (some (.int (vs_sum (fun i => if I 168 (140 + i) = nI w then 1 else 0) na)), (xv_SZ, xv_mk I J)) := by
              rw [xe_Mo_answersOf]
              simp only [xr_all, xf_all, if_true, if_false, true_or, or_true, eq_self, ite_not, Bool.false_eq_true, ite_self, and_self, true_and, and_true, false_and, and_false, not_true_eq_false, not_false_eq_true, xj_Mo_answersOf, xb_Mo_answersOf_0, xb_Mo_answersOf_35, xb_Mo_answersOf_36, xb_Mo_answersOf_44]
              exact vl_aof ro 198 xv_SZ I J p3 p1 (nI w) na 0 (by omega)
            unfold vm_wsw
            rw [xr_iload2, hx, xr_sw ro 199 xm_Mo_witnessIs _ _ _ _ _ _ _ _ 93 5 _ 5 108 87 (by omega) (by omega) rfl rfl]
            simp only [xr_all, xf_all, if_true, if_false, true_or, or_true, eq_self, ite_not, Bool.false_eq_true, ite_self, and_self, true_and, and_true, false_and, and_false, not_true_eq_false, not_false_eq_true, xj_Mo_witnessIs, xb_Mo_witnessIs_0, xb_Mo_witnessIs_60, xb_Mo_witnessIs_71, xb_Mo_witnessIs_73, xb_Mo_witnessIs_79, xb_Mo_witnessIs_88, xb_Mo_witnessIs_98, xb_Mo_witnessIs_99, xb_Mo_witnessIs_108, xb_Mo_witnessIs_114, xb_Mo_witnessIs_127, xb_Mo_witnessIs_147, xb_Mo_witnessIs_149, hte]
      · have hsw : x1.toInt < 0 ∨ 5 < x1.toInt := by
          rcases vn_cases x1 6 (by omega) with q | q | ⟨j, hj, q⟩
          · left; rw [Int32.lt_iff_toInt_lt] at q; exact q
          · right
            rw [Int32.le_iff_toInt_le, nI_toInt (by omega)] at q
            omega
          · exact absurd ⟨j, by omega, q⟩ hf
        have sC : ∀ r, xv_ev ro 199 xm_Ct_witnessIs xb_Ct_witnessIs_118 [some (.ref 0), some (.int (nI w)), some (.int x1), some (.ref (25 + 3 + 2 * w))] [] (xv_SZ, xv_mk I J) = r → xv_ev ro 199 xm_Ct_witnessIs xb_Ct_witnessIs_15 [some (.ref 0), some (.int (nI w)), some (.int x1), some (.ref (25 + 3 + 2 * w))] [] (xv_SZ, xv_mk I J) = r := by
          intro r hr
          unfold xb_Ct_witnessIs_15
          rw [xr_iload2, xr_swo ro 199 xm_Ct_witnessIs _ _ _ _ _ _ _ _ 102 0 5 _ x1 118 hsw rfl]
          exact hr
        have sM : ∀ r, xv_ev ro 199 xm_Mo_witnessIs xb_Mo_witnessIs_114 [some (.ref 167), some (.int (nI w)), some (.int x1), some (.int (nI n))] [] (xv_SZ, xv_mk I J) = r → xv_ev ro 199 xm_Mo_witnessIs vm_wsw [some (.ref 167), some (.int (nI w)), some (.int x1), some (.int (nI n))] [] (xv_SZ, xv_mk I J) = r := by
          intro r hr
          unfold vm_wsw
          rw [xr_iload2, xr_swo ro 199 xm_Mo_witnessIs _ _ _ _ _ _ _ _ 93 0 5 _ x1 114 hsw rfl]
          exact hr
        by_cases hg : ∃ i : Nat, i ≤ 11 ∧ x1 = nI (10 + i)
        · obtain ⟨i, hi, rfl⟩ := hg
          have c1 : (nI (10 + i) < 10) = False := by rw [show (10 : Int32) = nI 10 from rfl, vn_lt (by omega) (by omega)]; simp
          have c2 : (nI (10 + i) < 22) = True := by rw [show (22 : Int32) = nI 22 from rfl, vn_lt (by omega) (by omega)]; simp; omega
          have c3 : (10 ≤ nI (10 + i) ∧ nI (10 + i) ≤ 21) = True := by
            rw [show (10 : Int32) = nI 10 from rfl, show (21 : Int32) = nI 21 from rfl, vn_le (by omega) (by omega), vn_le (by omega) (by omega)]; simp; omega
          have c4 : nI (10 + i) - 10 = nI i := by rw [show (10 : Int32) = nI 10 from rfl, pk_sub (by omega), show 10 + i - 10 = i by omega]
          have c5 : (nI n ≤ nI i) = (n ≤ i) := vn_le (by omega) (by omega)
          by_cases hin : i < n
          · have c6 : (n ≤ i) = False := eq_false (by omega)
            refine ⟨I 168 (12 * w + i), I, J, I, J, hC _ (sC _ ?_), hM _ (sM _ ?_), hI⟩
            · simp only [xr_all, xf_all, if_true, if_false, true_or, or_true, eq_self, ite_not, Bool.false_eq_true, ite_self, and_self, true_and, and_true, false_and, and_false, not_true_eq_false, not_false_eq_true, xj_Ct_witnessIs, xb_Ct_witnessIs_0, xb_Ct_witnessIs_56, xb_Ct_witnessIs_61, xb_Ct_witnessIs_66, xb_Ct_witnessIs_73, xb_Ct_witnessIs_85, xb_Ct_witnessIs_97, xb_Ct_witnessIs_98, xb_Ct_witnessIs_108, xb_Ct_witnessIs_118, xb_Ct_witnessIs_130, xb_Ct_witnessIs_132, xb_Ct_witnessIs_154, xb_Ct_witnessIs_156, c1, c2, c4, c5, c6, vW_f hW, xq_Witness_layers ro 198 xv_SZ I J hW, n2, hl i hin]
            · simp only [xr_all, xf_all, if_true, if_false, true_or, or_true, eq_self, ite_not, Bool.false_eq_true, ite_self, and_self, true_and, and_true, false_and, and_false, not_true_eq_false, not_false_eq_true, xj_Mo_witnessIs, xb_Mo_witnessIs_0, xb_Mo_witnessIs_60, xb_Mo_witnessIs_71, xb_Mo_witnessIs_73, xb_Mo_witnessIs_79, xb_Mo_witnessIs_88, xb_Mo_witnessIs_98, xb_Mo_witnessIs_99, xb_Mo_witnessIs_108, xb_Mo_witnessIs_114, xb_Mo_witnessIs_127, xb_Mo_witnessIs_147, xb_Mo_witnessIs_149, xq_Mo_in, c3, c4, c5, c6, xq_Mo_layerOf ro 198 xv_SZ I J (show 12 * w + i < 304 by omega)]
          · have c6 : (n ≤ i) = True := eq_true (by omega)
            refine ⟨-2, I, J, I, J, hC _ (sC _ ?_), hM _ (sM _ ?_), hI⟩
            · simp only [xr_all, xf_all, if_true, if_false, true_or, or_true, eq_self, ite_not, Bool.false_eq_true, ite_self, and_self, true_and, and_true, false_and, and_false, not_true_eq_false, not_false_eq_true, xj_Ct_witnessIs, xb_Ct_witnessIs_0, xb_Ct_witnessIs_56, xb_Ct_witnessIs_61, xb_Ct_witnessIs_66, xb_Ct_witnessIs_73, xb_Ct_witnessIs_85, xb_Ct_witnessIs_97, xb_Ct_witnessIs_98, xb_Ct_witnessIs_108, xb_Ct_witnessIs_118, xb_Ct_witnessIs_130, xb_Ct_witnessIs_132, xb_Ct_witnessIs_154, xb_Ct_witnessIs_156, c1, c2, c4, c5, c6, vW_f hW, xq_Witness_layers ro 198 xv_SZ I J hW, n2]
            · simp only [xr_all, xf_all, if_true, if_false, true_or, or_true, eq_self, ite_not, Bool.false_eq_true, ite_self, and_self, true_and, and_true, false_and, and_false, not_true_eq_false, not_false_eq_true, xj_Mo_witnessIs, xb_Mo_witnessIs_0, xb_Mo_witnessIs_60, xb_Mo_witnessIs_71, xb_Mo_witnessIs_73, xb_Mo_witnessIs_79, xb_Mo_witnessIs_88, xb_Mo_witnessIs_98, xb_Mo_witnessIs_99, xb_Mo_witnessIs_108, xb_Mo_witnessIs_114, xb_Mo_witnessIs_127, xb_Mo_witnessIs_147, xb_Mo_witnessIs_149, xq_Mo_in, c3, c4, c5, c6]
        · have c3 : (10 ≤ x1 ∧ x1 ≤ 21) = False := by
            apply eq_false
            rintro ⟨q1, q2⟩
            obtain ⟨j, hj, rfl⟩ := (vn_in (N := 21) (by omega)).mp ⟨by (simp only [Int32.lt_iff_toInt_lt, Int32.le_iff_toInt_le, ← Int32.toInt_inj, vt_all] at *; omega), q2⟩
            rw [show (10 : Int32) = nI 10 from rfl, nI_leI (by omega) (by omega)] at q1
            exact hg ⟨j - 10, by omega, by rw [show 10 + (j - 10) = j by omega]⟩
          refine ⟨-1, I, J, I, J, hC _ (sC _ ?_), hM _ (sM _ ?_), hI⟩
          · by_cases c1 : x1 < 10
            · simp only [xr_all, xf_all, if_true, if_false, true_or, or_true, eq_self, ite_not, Bool.false_eq_true, ite_self, and_self, true_and, and_true, false_and, and_false, not_true_eq_false, not_false_eq_true, xj_Ct_witnessIs, xb_Ct_witnessIs_0, xb_Ct_witnessIs_56, xb_Ct_witnessIs_61, xb_Ct_witnessIs_66, xb_Ct_witnessIs_73, xb_Ct_witnessIs_85, xb_Ct_witnessIs_97, xb_Ct_witnessIs_98, xb_Ct_witnessIs_108, xb_Ct_witnessIs_118, xb_Ct_witnessIs_130, xb_Ct_witnessIs_132, xb_Ct_witnessIs_154, xb_Ct_witnessIs_156, c1]
            · have c2 : (x1 < 22) = False := by
                apply eq_false
                intro q
                have q3 : 10 ≤ x1 := Int32.not_lt.mp c1
                have q4 : x1 ≤ 21 := by (simp only [Int32.lt_iff_toInt_lt, Int32.le_iff_toInt_le, ← Int32.toInt_inj, vt_all] at *; omega)
                rw [eq_true q3, eq_true q4] at c3
                simp at c3
              simp only [xr_all, xf_all, if_true, if_false, true_or, or_true, eq_self, ite_not, Bool.false_eq_true, ite_self, and_self, true_and, and_true, false_and, and_false, not_true_eq_false, not_false_eq_true, xj_Ct_witnessIs, xb_Ct_witnessIs_0, xb_Ct_witnessIs_56, xb_Ct_witnessIs_61, xb_Ct_witnessIs_66, xb_Ct_witnessIs_73, xb_Ct_witnessIs_85, xb_Ct_witnessIs_97, xb_Ct_witnessIs_98, xb_Ct_witnessIs_108, xb_Ct_witnessIs_118, xb_Ct_witnessIs_130, xb_Ct_witnessIs_132, xb_Ct_witnessIs_154, xb_Ct_witnessIs_156, c1, c2]
          · simp only [xr_all, xf_all, if_true, if_false, true_or, or_true, eq_self, ite_not, Bool.false_eq_true, ite_self, and_self, true_and, and_true, false_and, and_false, not_true_eq_false, not_false_eq_true, xj_Mo_witnessIs, xb_Mo_witnessIs_0, xb_Mo_witnessIs_60, xb_Mo_witnessIs_71, xb_Mo_witnessIs_73, xb_Mo_witnessIs_79, xb_Mo_witnessIs_88, xb_Mo_witnessIs_98, xb_Mo_witnessIs_99, xb_Mo_witnessIs_108, xb_Mo_witnessIs_114, xb_Mo_witnessIs_127, xb_Mo_witnessIs_147, xb_Mo_witnessIs_149, xq_Mo_in, c3]
    · refine ⟨-1, I, J, I, J, ?_, ?_, hI⟩
      · rw [xe_Ct_witnessIs]
        have htold := xq_told_no ro 197 xv_SZ I J (A := 25) (Or.inl rfl) (nI w) (fun v hv q => by
          have : v = w := ((nI_eq (by omega) (by omega)).mp q).symm
          rw [this, m3 w (by omega), if_neg ht])
        simp only [xr_all, xf_all, if_true, if_false, true_or, or_true, eq_self, ite_not, Bool.false_eq_true, ite_self, and_self, true_and, and_true, false_and, and_false, not_true_eq_false, not_false_eq_true, xj_Ct_witnessIs, xb_Ct_witnessIs_0, xb_Ct_witnessIs_56, xb_Ct_witnessIs_61, xb_Ct_witnessIs_66, xb_Ct_witnessIs_73, xb_Ct_witnessIs_85, xb_Ct_witnessIs_97, xb_Ct_witnessIs_98, xb_Ct_witnessIs_108, xb_Ct_witnessIs_118, xb_Ct_witnessIs_130, xb_Ct_witnessIs_132, xb_Ct_witnessIs_154, xb_Ct_witnessIs_156, htold]
      · rw [xe_Mo_witnessIs]
        simp only [xr_all, xf_all, if_true, if_false, true_or, or_true, eq_self, ite_not, Bool.false_eq_true, ite_self, and_self, true_and, and_true, false_and, and_false, not_true_eq_false, not_false_eq_true, xj_Mo_witnessIs, xb_Mo_witnessIs_0, xb_Mo_witnessIs_60, xb_Mo_witnessIs_71, xb_Mo_witnessIs_73, xb_Mo_witnessIs_79, xb_Mo_witnessIs_88, xb_Mo_witnessIs_98, xb_Mo_witnessIs_99, xb_Mo_witnessIs_108, xb_Mo_witnessIs_114, xb_Mo_witnessIs_127, xb_Mo_witnessIs_147, xb_Mo_witnessIs_149, hmw, ht]
  · refine ⟨-1, I, J, I, J, ?_, ?_, hI⟩
    · rw [xe_Ct_witnessIs]
      have htold := xq_told_no ro 197 xv_SZ I J (A := 25) (Or.inl rfl) x0 (fun v hv q => absurd ⟨v, by omega, q⟩ hw)
      simp only [xr_all, xf_all, if_true, if_false, true_or, or_true, eq_self, ite_not, Bool.false_eq_true, ite_self, and_self, true_and, and_true, false_and, and_false, not_true_eq_false, not_false_eq_true, xj_Ct_witnessIs, xb_Ct_witnessIs_0, xb_Ct_witnessIs_56, xb_Ct_witnessIs_61, xb_Ct_witnessIs_66, xb_Ct_witnessIs_73, xb_Ct_witnessIs_85, xb_Ct_witnessIs_97, xb_Ct_witnessIs_98, xb_Ct_witnessIs_108, xb_Ct_witnessIs_118, xb_Ct_witnessIs_130, xb_Ct_witnessIs_132, xb_Ct_witnessIs_154, xb_Ct_witnessIs_156, htold]
    · rw [xe_Mo_witnessIs]
      simp only [xr_all, xf_all, if_true, if_false, true_or, or_true, eq_self, ite_not, Bool.false_eq_true, ite_self, and_self, true_and, and_true, false_and, and_false, not_true_eq_false, not_false_eq_true, xj_Mo_witnessIs, xb_Mo_witnessIs_0, xb_Mo_witnessIs_60, xb_Mo_witnessIs_71, xb_Mo_witnessIs_73, xb_Mo_witnessIs_79, xb_Mo_witnessIs_88, xb_Mo_witnessIs_98, xb_Mo_witnessIs_99, xb_Mo_witnessIs_108, xb_Mo_witnessIs_114, xb_Mo_witnessIs_127, xb_Mo_witnessIs_147, xb_Mo_witnessIs_149, xq_Mo_isWitness_no ro 197 (xv_SZ, xv_mk I J) hw]
