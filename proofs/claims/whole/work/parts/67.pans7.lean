/-! PAIR: answers -/
theorem vW_row {o : Nat} (h : vW o) : xv_oc (o + 1) = none := by
  unfold vW at h
  simp [xv_oc, h.2]
theorem vi_B_say {I I1 : Nat → Nat → Int32} {A n w l : Nat} {k y c : Int32} (hA : vAr A) (hn : n < 20) (hw : w < 10) (hy : y = 0 ∨ y = 1) (hc : c = 0 ∨ c = 1) (h : vi_B I) (hC : vy_C I I1 A n w l k y c) : vi_B I1 := by
  obtain ⟨c0, c1, c2, c3, c4, c5, c6, c7, c8, c9, c10, c11, c12, c13⟩ := hC
  have o1 : xv_oc (A + 23 + n) = some 9 := (vN_f (vAr_N hA hn)).2.2.2.2.2.2.2.2
  have o2 : xv_oc (A + 3 + 2 * w) = some 8 := (vW_f (vAr_W hA hw)).2.2.2.2.1
  have o3 : xv_oc (A + 4 + 2 * w) = none := by rw [show A + 4 + 2 * w = A + 3 + 2 * w + 1 by omega]; exact vW_row (vAr_W hA hw)
  have o4 : xv_oc A = some 7 := (vAr_f hA).2.2.2.2.2.2.2.1
  intro a
  refine ⟨fun ha => ?_, fun ha => ?_⟩
  · by_cases a2 : a = A + 3 + 2 * w
    · rw [a2, c11 3 (by omega), ← a2]; exact (h a).1 ha
    · have e : I1 a = I a := c13 a (fun q => by rw [q, o1] at ha; cases ha) a2 (fun q => by rw [q, o3] at ha; cases ha) (fun q => by rw [q, o4] at ha; cases ha)
      rw [e]; exact (h a).1 ha
  · by_cases a1 : a = A + 23 + n
    · rw [a1, c2, c3]; exact ⟨hy, hc⟩
    · have e : I1 a = I a := c13 a a1 (fun q => by rw [q, o2] at ha; cases ha) (fun q => by rw [q, o3] at ha; cases ha) (fun q => by rw [q, o4] at ha; cases ha)
      rw [e]; exact (h a).2 ha
theorem xp_7 (VL : xv_LP) (hV : vi_Lc VL) : xl_P7 (vi_all VL) := by
  intro x0 x1 x2 x3 hx2 hx3 ro I J hro hI
  obtain ⟨a1, a2, ⟨⟨q, q1, q2, q3⟩, q4⟩, aA, a5, a6, a7⟩ := id hI
  obtain ⟨⟨n, n1, n2, n3, n4⟩, -, g3, g4⟩ := id aA
  have i301 : xv_inB 301 304 = true := by decide
  have c301 : (301 : Int32).toNatClampNeg = 301 := by decide
  rcases vt_or ro 197 xv_SZ I J g3 x0 with ⟨w, hw, rfl, k1, k2⟩ | ⟨k1, k2⟩
  rotate_left
  · refine ⟨-1, I, J, I, J, ?_, ?_, hI⟩
    · rw [xe_Ct_answers]
      simp only [xr_all, xf_all, if_true, if_false, true_or, or_true, eq_self, ite_not, Bool.false_eq_true, ite_self, and_self, true_and, and_true, false_and, and_false, not_true_eq_false, not_false_eq_true, xj_Ct_answers, xb_Ct_answers_0, xb_Ct_answers_22, xb_Ct_answers_24, xb_Ct_answers_39, k1]
    · rw [xe_Mo_answers]
      simp only [xr_all, xf_all, if_true, if_false, true_or, or_true, eq_self, ite_not, Bool.false_eq_true, ite_self, and_self, true_and, and_true, false_and, and_false, not_true_eq_false, not_false_eq_true, xj_Mo_answers, xb_Mo_answers_0, xb_Mo_answers_16, xb_Mo_answers_18, xb_Mo_answers_34, xb_Mo_answers_49, xb_Mo_answers_60, xb_Mo_answers_61, xb_Mo_answers_70, xb_Mo_answers_71, k2]
  · by_cases hq : ∃ k : Nat, k ≤ 7 ∧ x1 = nI k
    rotate_left
    · refine ⟨-1, I, J, I, J, ?_, ?_, hI⟩
      · rw [xe_Ct_answers]
        simp only [xr_all, xf_all, if_true, if_false, true_or, or_true, eq_self, ite_not, Bool.false_eq_true, ite_self, and_self, true_and, and_true, false_and, and_false, not_true_eq_false, not_false_eq_true, xj_Ct_answers, xb_Ct_answers_0, xb_Ct_answers_22, xb_Ct_answers_24, xb_Ct_answers_39, k1, xq_Questions_isTold_no ro 198 (xv_SZ, xv_mk I J) hq]
      · rw [xe_Mo_answers]
        simp only [xr_all, xf_all, if_true, if_false, true_or, or_true, eq_self, ite_not, Bool.false_eq_true, ite_self, and_self, true_and, and_true, false_and, and_false, not_true_eq_false, not_false_eq_true, xj_Mo_answers, xb_Mo_answers_0, xb_Mo_answers_16, xb_Mo_answers_18, xb_Mo_answers_34, xb_Mo_answers_49, xb_Mo_answers_60, xb_Mo_answers_61, xb_Mo_answers_70, xb_Mo_answers_71, k2, xq_Mo_isQuestion_no ro 197 (xv_SZ, xv_mk I J) hq]
    · obtain ⟨k, hk, rfl⟩ := hq
      have t1 := xq_Questions_isTold ro 198 xv_SZ I J q2 q1 (k := k) (by omega)
      have t2 := xq_Mo_isQuestion ro 197 xv_SZ I J q3 q1 (w := k) (by omega)
      by_cases hb : q.testBit k = true
      rotate_left
      · rw [vz_b0 hb] at t1 t2
        refine ⟨-1, I, J, I, J, ?_, ?_, hI⟩
        · rw [xe_Ct_answers]
          simp only [xr_all, xf_all, if_true, if_false, true_or, or_true, eq_self, ite_not, Bool.false_eq_true, ite_self, and_self, true_and, and_true, false_and, and_false, not_true_eq_false, not_false_eq_true, xj_Ct_answers, xb_Ct_answers_0, xb_Ct_answers_22, xb_Ct_answers_24, xb_Ct_answers_39, k1, t1]
        · rw [xe_Mo_answers]
          simp only [xr_all, xf_all, if_true, if_false, true_or, or_true, eq_self, ite_not, Bool.false_eq_true, ite_self, and_self, true_and, and_true, false_and, and_false, not_true_eq_false, not_false_eq_true, xj_Mo_answers, xb_Mo_answers_0, xb_Mo_answers_16, xb_Mo_answers_18, xb_Mo_answers_34, xb_Mo_answers_49, xb_Mo_answers_60, xb_Mo_answers_61, xb_Mo_answers_70, xb_Mo_answers_71, k2, t2]
      · rw [vz_b1 hb] at t1 t2
        have z1 : ((1 : Int32) = 0) = False := eq_false (by decide)
        have s1 := xq_Archive_said ro 198 xv_SZ I J
        by_cases h20 : n = 20
        · refine ⟨-2, I, J, I, J, ?_, ?_, hI⟩
          · rw [xe_Ct_answers]
            have g : (nI n < 20) = False := by (simp (disch := omega) only [vz_all, if_true, if_false, true_or, or_true, eq_self, ite_not, Bool.false_eq_true, ite_self, and_self, true_and, and_true, false_and, and_false, not_true_eq_false, not_false_eq_true, false_or, or_false])
            simp only [xr_all, xf_all, if_true, if_false, true_or, or_true, eq_self, ite_not, Bool.false_eq_true, ite_self, and_self, true_and, and_true, false_and, and_false, not_true_eq_false, not_false_eq_true, xj_Ct_answers, xb_Ct_answers_0, xb_Ct_answers_22, xb_Ct_answers_24, xb_Ct_answers_39, k1, t1, z1, s1, n2, g]
          · rw [xe_Mo_answers]
            have g : (nI n = 20) = True := by (simp (disch := omega) only [vz_all, if_true, if_false, true_or, or_true, eq_self, ite_not, Bool.false_eq_true, ite_self, and_self, true_and, and_true, false_and, and_false, not_true_eq_false, not_false_eq_true, false_or, or_false])
            simp only [xr_all, xf_all, if_true, if_false, true_or, or_true, eq_self, ite_not, Bool.false_eq_true, ite_self, and_self, true_and, and_true, false_and, and_false, not_true_eq_false, not_false_eq_true, xj_Mo_answers, xb_Mo_answers_0, xb_Mo_answers_16, xb_Mo_answers_18, xb_Mo_answers_34, xb_Mo_answers_49, xb_Mo_answers_60, xb_Mo_answers_61, xb_Mo_answers_70, xb_Mo_answers_71, k2, t2, z1, i301, c301, n3, g]
        · have gl : (nI n < 20) = True := by (simp (disch := omega) only [vz_all, if_true, if_false, true_or, or_true, eq_self, ite_not, Bool.false_eq_true, ite_self, and_self, true_and, and_true, false_and, and_false, not_true_eq_false, not_false_eq_true, false_or, or_false])
          have gm : (nI n = 20) = False := by (simp (disch := omega) only [vz_all, if_true, if_false, true_or, or_true, eq_self, ite_not, Bool.false_eq_true, ite_self, and_self, true_and, and_true, false_and, and_false, not_true_eq_false, not_false_eq_true, false_or, or_false])
          obtain ⟨⟨hh, e1, e2, e3⟩, l, l1, l2, l3, l4⟩ := g4 w hw
          have e120 : 120 + nI w = nI (120 + w) := by (simp (disch := omega) only [vz_all, if_true, if_false, true_or, or_true, eq_self, ite_not, Bool.false_eq_true, ite_self, and_self, true_and, and_true, false_and, and_false, not_true_eq_false, not_false_eq_true, false_or, or_false])
          have i120 : xv_inB (nI (120 + w)) 304 = true := by (simp (disch := omega) only [vz_all, if_true, if_false, true_or, or_true, eq_self, ite_not, Bool.false_eq_true, ite_self, and_self, true_and, and_true, false_and, and_false, not_true_eq_false, not_false_eq_true, false_or, or_false])
          have c120 := nI_clamp (show 120 + w < 2 ^ 31 by omega)
          have hW := vAr_W (A := 25) (Or.inl rfl) hw
          by_cases hl0 : l = 0
          · refine ⟨-3, I, J, I, J, ?_, ?_, hI⟩
            · have hs : xv_evm ro 198 169 [.ref 25, .int (nI w), .int (nI k), .int x2, .int x3] (xv_SZ, xv_mk I J) = some (some (.int (-3)), (xv_SZ, xv_mk I J)) := by
                rw [xe_Archive_say]
                have k3 : xv_evm ro 197 159 [.ref 25, .int (nI w)] (xv_SZ, xv_mk I J) = some (some (.ref (25 + 3 + 2 * w)), (xv_SZ, xv_mk I J)) := by
                  rcases vt_or ro 196 xv_SZ I J g3 (nI w) with ⟨w', hw', hww, kk, -⟩ | ⟨kk, -⟩
                  · have : w = w' := (nI_eq (by omega) (by omega)).mp hww
                    rw [this]; rw [this] at kk; exact kk
                  · exfalso
                    obtain ⟨m, m1, m2, m3⟩ := g3
                    by_cases hm : m.testBit w = true
                    · have := xq_told ro 196 xv_SZ I J (A := 25) (Or.inl rfl) hw (by rw [m3 w hw, if_pos hm])
                      rw [this] at kk; cases kk
                    · have := xq_told_no ro 197 xv_SZ I J (A := 25) (Or.inl rfl) (nI w) (fun v hv q => by
                        have : v = w := ((nI_eq (by omega) (by omega)).mp q).symm
                        rw [this, m3 w hw, if_neg hm])
                      rw [this] at k1; cases k1
                have g : (nI l = 0) = True := by (simp (disch := omega) only [vz_all, if_true, if_false, true_or, or_true, eq_self, ite_not, Bool.false_eq_true, ite_self, and_self, true_and, and_true, false_and, and_false, not_true_eq_false, not_false_eq_true, false_or, or_false])
                have ly := xq_Witness_layers ro 197 xv_SZ I J hW
                simp only [xr_all, xf_all, if_true, if_false, true_or, or_true, eq_self, ite_not, Bool.false_eq_true, ite_self, and_self, true_and, and_true, false_and, and_false, not_true_eq_false, not_false_eq_true, xj_Archive_say, xb_Archive_say_0, xb_Archive_say_36, xb_Archive_say_39, k3, vW_f hW, ly, l2, g]
              rw [xe_Ct_answers]
              simp only [xr_all, xf_all, if_true, if_false, true_or, or_true, eq_self, ite_not, Bool.false_eq_true, ite_self, and_self, true_and, and_true, false_and, and_false, not_true_eq_false, not_false_eq_true, xj_Ct_answers, xb_Ct_answers_0, xb_Ct_answers_22, xb_Ct_answers_24, xb_Ct_answers_39, k1, t1, z1, s1, n2, gl, hs]
            · rw [xe_Mo_answers]
              have g : (nI l = 0) = True := by (simp (disch := omega) only [vz_all, if_true, if_false, true_or, or_true, eq_self, ite_not, Bool.false_eq_true, ite_self, and_self, true_and, and_true, false_and, and_false, not_true_eq_false, not_false_eq_true, false_or, or_false])
              simp only [xr_all, xf_all, if_true, if_false, true_or, or_true, eq_self, ite_not, Bool.false_eq_true, ite_self, and_self, true_and, and_true, false_and, and_false, not_true_eq_false, not_false_eq_true, xj_Mo_answers, xb_Mo_answers_0, xb_Mo_answers_16, xb_Mo_answers_18, xb_Mo_answers_34, xb_Mo_answers_49, xb_Mo_answers_60, xb_Mo_answers_61, xb_Mo_answers_70, xb_Mo_answers_71, k2, t2, z1, i301, c301, n3, gm, e120, i120, c120, l3, g]
          · have ht : I (25 + 3 + 2 * w) 3 = 1 := by
              obtain ⟨m, m1, m2, m3⟩ := g3
              by_cases hm : m.testBit w = true
              · rw [m3 w hw, if_pos hm]
              · have := xq_told_no ro 197 xv_SZ I J (A := 25) (Or.inl rfl) (nI w) (fun v hv q => by
                  have : v = w := ((nI_eq (by omega) (by omega)).mp q).symm
                  rw [this, m3 w hw, if_neg hm])
                rw [this] at k1; cases k1
            obtain ⟨I1, r1, f1⟩ := xq_say ro 195 xv_SZ I J (nI k) x2 x3 (A := 25) (Or.inl rfl) n2 (by omega) hw ht l2 (by omega) l1 hx2 hx3
            have hM : ∀ a, 167 ≤ a → I1 a = I a := fun a ha => f1.2.2.2.2.2.2.2.2.2.2.2.2.2 a (by omega) (by omega) (by omega) (by omega)
            have m168 := hM 168 (by omega)
            obtain ⟨I2, r2, f2⟩ := xq_answersNow ro 197 xv_SZ I1 J (n := n) (w := w) (l := l) (nI k) x2 x3 (by rw [m168]; exact n3) (by omega) hw (by rw [m168]; exact l3) (by omega) l1
            obtain ⟨s, -, -, s3, s4⟩ := l4 0 (by omega)
            have hres : I1 168 (12 * w) = I (25 + 4 + 2 * w) 0 := by rw [m168, s3]; exact s4
            have hA2 : vi_A (vz_mg I1 I2) 25 168 := vi_say (C := I) (M := I1) (Or.inl rfl) (by rw [vz_mgs (I := I) (fun _ _ => rfl) hM]; exact aA) n2 (by omega) hw l2 (by omega) l1 rfl (by omega) hx2 hx3 f1 f2
            have h12 : ∀ a, a ≠ 168 → I2 a = I1 a := f2.2.2.2.2.2.2.2.2.2.2.2.2
            have hmg : vz_mg I1 I2 = I2 := vz_mgs (fun a ha => (h12 a (by omega)).symm) (fun _ _ => rfl)
            rw [hmg] at hA2
            have hI1 : ∀ a, a ≠ 25 + 23 + n → a ≠ 25 + 3 + 2 * w → a ≠ 25 + 4 + 2 * w → a ≠ 25 → I1 a = I a := f1.2.2.2.2.2.2.2.2.2.2.2.2.2
            have hS : ∀ a, a ≠ 168 → a < 25 ∨ 68 ≤ a → I2 a = I a := fun a b1 b2 => by rw [h12 a b1, hI1 a (by omega) (by omega) (by omega) (by omega)]
            refine ⟨I (25 + 4 + 2 * w) 0, I1, J, I2, J, ?_, ?_, ?_⟩
            · rw [xe_Ct_answers]
              simp only [xr_all, xf_all, if_true, if_false, true_or, or_true, eq_self, ite_not, Bool.false_eq_true, ite_self, and_self, true_and, and_true, false_and, and_false, not_true_eq_false, not_false_eq_true, xj_Ct_answers, xb_Ct_answers_0, xb_Ct_answers_22, xb_Ct_answers_24, xb_Ct_answers_39, k1, t1, z1, s1, n2, gl, r1]
            · rw [xe_Mo_answers]
              have g : (nI l = 0) = False := by (simp (disch := omega) only [vz_all, if_true, if_false, true_or, or_true, eq_self, ite_not, Bool.false_eq_true, ite_self, and_self, true_and, and_true, false_and, and_false, not_true_eq_false, not_false_eq_true, false_or, or_false])
              have k2' : xv_evm ro 198 47 [.ref 167, .int (nI w)] (xv_SZ, xv_mk I1 J) = some (some (.int 1), (xv_SZ, xv_mk I1 J)) := by
                obtain ⟨m, m1, m2, m3⟩ := g3
                have hm : m.testBit w = true := by
                  by_cases hm : m.testBit w = true
                  · exact hm
                  · rw [m3 w hw, if_neg hm] at ht
                    exact absurd ht (by decide)
                have := xq_Mo_isWitness ro 197 xv_SZ I1 J (m := m) (w := w) (by rw [m168]; exact m2) m1 hw
                rw [vz_b1 hm] at this
                exact this
              have t2' := xq_Mo_isQuestion ro 197 xv_SZ I1 J (m := q) (w := k) (by rw [hM 167 (by omega)]; exact q3) q1 (by omega)
              rw [vz_b1 hb] at t2'
              have n3' : I1 168 301 = nI n := by rw [m168]; exact n3
              have l3' : I1 168 (120 + w) = nI l := by rw [m168]; exact l3
              rw [hres] at r2
              rcases hx2 with hx2 | hx2 <;> rcases hx3 with hx3 | hx3 <;>
                (rw [hx2, hx3] at r2; simp only [xr_all, xf_all, if_true, if_false, true_or, or_true, eq_self, ite_not, Bool.false_eq_true, ite_self, and_self, true_and, and_true, false_and, and_false, not_true_eq_false, not_false_eq_true, xj_Mo_answers, xb_Mo_answers_0, xb_Mo_answers_16, xb_Mo_answers_18, xb_Mo_answers_34, xb_Mo_answers_49, xb_Mo_answers_60, xb_Mo_answers_61, xb_Mo_answers_70, xb_Mo_answers_71, k2', t2', z1, i301, c301, n3', gm, e120, i120, c120, l3', g, hx2, hx3, r2])
            · refine ⟨vi_T_c a1 (by rw [hS 1 (by omega) (by omega)]) (hS 2 (by omega) (by omega)) (by rw [hS 167 (by omega) (by omega)]) (hS 173 (by omega) (by omega)), vi_P_c a2 (hS 23 (by omega) (by omega)) (hS 171 (by omega) (by omega)), vi_Q_c ⟨⟨q, q1, q2, q3⟩, q4⟩ (by rw [hS 3 (by omega) (by omega)]) (hS 4 (by omega) (by omega)) (by rw [hS 167 (by omega) (by omega)]) rfl, hA2, vi_K_c a5 (by rw [hS 0 (by omega) (by omega)]) (by rw [hS 167 (by omega) (by omega)]) (fun f hf => by rw [hS 68 (by omega) (by omega)]) (fun a b1 b2 => hS a (by omega) (by omega)) (hS 170 (by omega) (by omega)), hV I I2 (fun a b1 b2 => hS a (by omega) (by omega)) (by rw [hS 167 (by omega) (by omega)]) (fun a b1 b2 => hS a (by omega) (by omega)) a6, ?_⟩
              exact vi_B_c (vi_B_say (Or.inl rfl) (by omega) hw hx2 hx3 a7 f1) (fun a ha => h12 a (fun q => by rw [q] at ha; revert ha; decide))
