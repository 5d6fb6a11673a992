/-! PAIR: onion (all but the case that all guards pass, which is H) -/
theorem xp_5g (VL : xv_LP) (H : ∀ (ro : xv_Ro) (I : Nat → Nat → Int32) (J : Nat → Nat → Int64) (w n : Nat), vi_all VL I J → w < 10 → (∃ t : Nat, n ≤ t ∧ t ≤ 260 ∧ I 1 1 = nI t ∧ I 167 7 = nI t ∧ ∃ b : Nat → Nat, ∀ j, j < t → b j < 256 ∧ I 2 j = nI (b j) ∧ I 173 j &&& 255 = nI (b j)) → I (25 + 3 + 2 * w) 3 = 1 → 1 ≤ n → n ≤ 60 → (∀ (V : Nat → Nat → Int32), V 168 = I 168 → xv_evm ro 198 47 [.ref 167, .int (nI w)] (xv_SZ, xv_mk V J) = some (some (.int 1), (xv_SZ, xv_mk V J))) → ∃ r I1 J1 I2 J2, xv_evm ro 199 6 [.ref 0, .int (nI w), .int (nI n)] (xv_SZ, xv_mk I J) = some (some (.int r), (xv_SZ, xv_mk I1 J1)) ∧ xv_evm ro 199 92 [.ref 167, .int (nI w), .int (nI n)] (xv_SZ, xv_mk I1 J1) = some (some (.int r), (xv_SZ, xv_mk I2 J2)) ∧ vi_all VL I2 J2) : xl_P5 (vi_all VL) := by
  intro x1 x2 ro I J hro hI
  obtain ⟨t, t1, t2, t3, b, tb⟩ := vi_Tb hI.1
  have hA := hI.2.2.2.1
  obtain ⟨-, -, ⟨m, m1, m2, m3⟩, g4⟩ := hI.2.2.2.1
  have z1 : ((1 : Int32) = 0) = False := eq_false (by decide)
  by_cases hwit : ∃ w, w < 10 ∧ x1 = nI w ∧ m.testBit w = true
  rotate_left
  · have htold := xq_told_no ro 197 xv_SZ I J (A := 25) (Or.inl rfl) x1 (fun w hw q => by
      rw [m3 w hw, if_neg (fun g => hwit ⟨w, hw, q, g⟩)])
    have hisw : xv_evm ro 198 47 [.ref 167, .int x1] (xv_SZ, xv_mk I J) = some (some (.int 0), (xv_SZ, xv_mk I J)) := by
      by_cases c : ∃ j : Nat, j ≤ 9 ∧ x1 = nI j
      · obtain ⟨j, hj, rfl⟩ := c
        have h := xq_Mo_isWitness ro 197 xv_SZ I J (m := m) (w := j) m2 m1 (by omega)
        rw [vz_b0 (fun g => hwit ⟨j, by omega, rfl, g⟩)] at h
        exact h
      · exact xq_Mo_isWitness_no ro 197 _ c
    refine ⟨-1, I, J, I, J, ?_, ?_, hI⟩
    · rw [xe_Ct_onion]
      simp only [xr_all, xf_all, if_true, if_false, true_or, or_true, eq_self, ite_not, Bool.false_eq_true, ite_self, and_self, true_and, and_true, false_and, and_false, not_true_eq_false, not_false_eq_true, xj_Ct_onion, xb_Ct_onion_0, xb_Ct_onion_27, xb_Ct_onion_29, xb_Ct_onion_66, htold]
    · rw [xe_Mo_onion]
      simp only [xr_all, xf_all, if_true, if_false, true_or, or_true, eq_self, ite_not, Bool.false_eq_true, ite_self, and_self, true_and, and_true, false_and, and_false, not_true_eq_false, not_false_eq_true, xj_Mo_onion, xb_Mo_onion_0, xb_Mo_onion_26, xb_Mo_onion_28, xb_Mo_onion_78, xb_Mo_onion_79, xb_Mo_onion_97, xb_Mo_onion_149, hisw]
  · obtain ⟨w, hw, rfl, hb⟩ := hwit
    have htold := xq_told ro 197 xv_SZ I J (A := 25) (Or.inl rfl) hw (by rw [m3 w hw, if_pos hb])
    have hisw : ∀ (V : Nat → Nat → Int32), V 168 = I 168 → xv_evm ro 198 47 [.ref 167, .int (nI w)] (xv_SZ, xv_mk V J) = some (some (.int 1), (xv_SZ, xv_mk V J)) := by
      intro V hV
      have h := xq_Mo_isWitness ro 197 xv_SZ V J (m := m) (w := w) (by rw [hV]; exact m2) m1 hw
      rw [vz_b1 hb] at h
      exact h
    by_cases hgood : ∃ n : Nat, 1 ≤ n ∧ n ≤ 60 ∧ x2 = nI n ∧ n ≤ t
    rotate_left
    · refine ⟨-1, I, J, I, J, ?_, ?_, hI⟩
      · have hcut : xv_evm ro 198 248 [.ref 1, .int x2, .int 1, .int 60] (xv_SZ, xv_mk I J) = some (some (.int 0), (xv_SZ, xv_mk I J)) := by
          rcases vn_1N 60 (by omega) x2 with ⟨n, n1, n2, rfl, e1, e2, e3⟩ | ⟨e1, e2⟩
          · have q2 : (60 < nI n) = False := by (simp (disch := omega) only [vz_all, if_true, if_false, true_or, or_true, eq_self, ite_not, Bool.false_eq_true, ite_self, and_self, true_and, and_true, false_and, and_false, not_true_eq_false, not_false_eq_true, false_or, or_false])
            have q3 : (nI n ≤ I 1 1) = False := by
              have hnt : ¬ n ≤ t := fun q => hgood ⟨n, n1, n2, rfl, q⟩
              rw [t2]; (simp (disch := omega) only [vz_all, if_true, if_false, true_or, or_true, eq_self, ite_not, Bool.false_eq_true, ite_self, and_self, true_and, and_true, false_and, and_false, not_true_eq_false, not_false_eq_true, false_or, or_false])
            exact xq_cut_no ro 198 xv_SZ I J (nI n) 1 60 (Or.inr (Or.inr ⟨e1, q2, q3⟩))
          · rw [show nI 60 = (60 : Int32) from rfl] at e1
            rcases e1 with e1 | ⟨e1, e3⟩
            · exact xq_cut_no ro 198 xv_SZ I J x2 1 60 (Or.inl e1)
            · exact xq_cut_no ro 198 xv_SZ I J x2 1 60 (Or.inr (Or.inl ⟨e1, eq_true (Int32.not_le.mp (fun q => by rw [e3] at q; exact q))⟩))
        rw [xe_Ct_onion]
        simp only [xr_all, xf_all, if_true, if_false, true_or, or_true, eq_self, ite_not, Bool.false_eq_true, ite_self, and_self, true_and, and_true, false_and, and_false, not_true_eq_false, not_false_eq_true, xj_Ct_onion, xb_Ct_onion_0, xb_Ct_onion_27, xb_Ct_onion_29, xb_Ct_onion_66, htold, hcut]
      · have his := hisw I rfl
        rw [xe_Mo_onion]
        rcases vn_1N 60 (by omega) x2 with ⟨n, n1, n2, rfl, e1, e2, e3⟩ | ⟨e1, e2⟩
        · rw [show nI 60 = (60 : Int32) from rfl] at e3
          have q3 : (nI n ≤ nI t) = False := by
            have hnt : ¬ n ≤ t := fun q => hgood ⟨n, n1, n2, rfl, q⟩
            (simp (disch := omega) only [vz_all, if_true, if_false, true_or, or_true, eq_self, ite_not, Bool.false_eq_true, ite_self, and_self, true_and, and_true, false_and, and_false, not_true_eq_false, not_false_eq_true, false_or, or_false])
          simp only [xr_all, xf_all, if_true, if_false, true_or, or_true, eq_self, ite_not, Bool.false_eq_true, ite_self, and_self, true_and, and_true, false_and, and_false, not_true_eq_false, not_false_eq_true, xj_Mo_onion, xb_Mo_onion_0, xb_Mo_onion_26, xb_Mo_onion_28, xb_Mo_onion_78, xb_Mo_onion_79, xb_Mo_onion_97, xb_Mo_onion_149, his, z1, xq_Mo_in, e3, t3, q3]
        · rw [show nI 60 = (60 : Int32) from rfl] at e2
          simp only [xr_all, xf_all, if_true, if_false, true_or, or_true, eq_self, ite_not, Bool.false_eq_true, ite_self, and_self, true_and, and_true, false_and, and_false, not_true_eq_false, not_false_eq_true, xj_Mo_onion, xb_Mo_onion_0, xb_Mo_onion_26, xb_Mo_onion_28, xb_Mo_onion_78, xb_Mo_onion_79, xb_Mo_onion_97, xb_Mo_onion_149, his, z1, xq_Mo_in, e2]
    · obtain ⟨n, n1, n2, rfl, hnt⟩ := hgood
      exact H ro I J w n hI hw ⟨t, hnt, t1, t2, t3, b, tb⟩ (by rw [m3 w hw, if_pos hb]) n1 n2 hisw
