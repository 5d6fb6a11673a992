/-! PAIR: check (the pair itself) -/
theorem xp_30 (VL : xv_LP) (hV : vi_Lc VL) : xl_P30 (vi_all VL) := by
  intro x0 x1 ro I J hro hI
  obtain ⟨⟨t, t1, t2, t3, t4⟩, a2, a3, a4, a5, a6⟩ := id hI
  obtain ⟨-, -, ⟨mk, m1, m2, m3⟩, g4⟩ := id a4
  by_cases hw : ∃ w : Nat, w ≤ 9 ∧ x0 = nI w
  · obtain ⟨w, hw, rfl⟩ := hw
    obtain ⟨-, l, l1, l2, l3, l4⟩ := g4 w (by omega)
    by_cases ht : mk.testBit w = true
    · have hI3 : I (25 + 3 + 2 * w) 3 = 1 := by rw [m3 w (by omega), if_pos ht]
      have htold := xq_told ro 197 xv_SZ I J (A := 25) (w := w) (Or.inl rfl) (by omega) hI3
      have hW := vAr_W (A := 25) (Or.inl rfl) (show w < 10 by omega)
      by_cases hn : ∃ n : Nat, n ≤ 12 ∧ n ≤ t ∧ x1 = nI n
      · obtain ⟨n, hn, hnt, rfl⟩ := hn
        have hcut := xq_Tape_cut12 ro 198 xv_SZ I J t2 t1 hn hnt
        obtain ⟨I1, e1⟩ : ∃ I1, I1 = xv_u2 (xv_u2 (xv_u2 (xv_u2 I 1 1 0) 1 2 (nI n)) 1 3 0) 1 4 0 := ⟨_, rfl⟩
        obtain ⟨I2, e2⟩ : ∃ I2, I2 = xv_u2 I1 167 7 0 := ⟨_, rfl⟩
        rw [← e1] at hcut
        have r1 : ∀ a, ¬ a = 1 → I1 a = I a := fun a ha => by rw [e1, xu_ne ha, xu_ne ha, xu_ne ha, xu_ne ha]
        have r2 : ∀ a, ¬ a = 167 → I2 a = I1 a := fun a ha => by rw [e2, xu_ne ha]
        have hrow : ∀ a, ¬ a = 2 → ¬ a = 173 → ¬ a = 1 → ¬ a = 167 → I2 a = I a := fun a _ _ v y => by rw [r2 a y, r1 a v]
        have hb : ∀ a j, ¬ a = 2 → ¬ a = 173 → ¬ a = 1 → ¬ (a = 167 ∧ j = 7) → I2 a j = I a j := fun a j _ _ v y => by rw [e2, xu_ne2 y, r1 a v]
        have k12 : I1 1 2 = nI n := by rw [e1]; (repeat (first | rw [xu_ne2 (by omega)] | rw [xu_ne (by omega)] | rw [xu_eq]))
        have k11 : I2 1 1 = nI 0 := by rw [r2 1 (by omega), e1]; (repeat (first | rw [xu_ne2 (by omega)] | rw [xu_ne (by omega)] | rw [xu_eq])); try rfl
        have k167 : I2 167 7 = nI 0 := by rw [e2, xu_eq]; rfl
        have kl : I1 (25 + 3 + 2 * w) 1 = nI l := by rw [r1 _ (by omega)]; exact l2
        have kl3 : I2 168 (120 + w) = nI l := by rw [r2 _ (by omega), r1 _ (by omega)]; exact l3
        have hx1 : (0 ≤ nI n ∧ nI n ≤ 12) = True := eq_true ((vn_in (N := 12) (by omega)).mpr ⟨n, hn, rfl⟩)
        have hx2 : (nI n ≤ nI t) = True := by rw [vn_le (by omega) (by omega)]; simp; omega
        have ht7 : I1 167 7 = nI t := by rw [r1 _ (by omega)]; exact t3
        refine ⟨vk_s (I1 2) (fun i => if i < l then I1 (25 + 3 + 2 * w + 1) i else 0) n 0, I1, J, I2, J, ?_, ?_, ?_⟩
        · rw [xe_Ct_check]
          simp only [xr_all, xf_all, if_true, if_false, true_or, or_true, eq_self, ite_not, Bool.false_eq_true, ite_self, and_self, true_and, and_true, false_and, and_false, not_true_eq_false, not_false_eq_true, xj_Ct_check, xb_Ct_check_0, xb_Ct_check_27, xb_Ct_check_30, xb_Ct_check_60, xb_Ct_check_66, htold, hcut]
          exact vl_chkC ro xv_SZ I1 J (nI w) hW kl l1 k12 hn n 0 (by omega)
        · have hmw := xq_Mo_isWitness ro 197 xv_SZ I1 J (m := mk) (w := w) (by rw [r1 _ (by omega)]; exact m2) m1 (by omega)
          have hv : vk_s (I1 2) (fun i => if i < l then I1 (25 + 3 + 2 * w + 1) i else 0) n 0 = vk_s (fun i => I2 173 i &&& 255) (fun i => if i < l then I2 168 (12 * w + i) else 0) n 0 := vk_c n 0 (fun j _ hj => by
            refine ⟨?_, ?_⟩
            · show I1 2 j = I2 173 j &&& 255
              rw [r2 173 (by omega), r1 2 (by omega), r1 173 (by omega)]
              exact t4 j (by omega)
            · show (if j < l then I1 (25 + 3 + 2 * w + 1) j else 0) = (if j < l then I2 168 (12 * w + j) else 0)
              by_cases c : j < l
              · obtain ⟨s, _, _, s3, s4⟩ := l4 j c
                rw [if_pos c, if_pos c, r2 168 (by omega), r1 168 (by omega), r1 _ (by omega), s4, show 25 + 3 + 2 * w + 1 = 25 + 4 + 2 * w by omega, s3]
              · rw [if_neg c, if_neg c])
          rw [hv, xe_Mo_check]
          simp only [xr_all, xf_all, if_true, if_false, true_or, or_true, eq_self, ite_not, Bool.false_eq_true, ite_self, and_self, true_and, and_true, false_and, and_false, not_true_eq_false, not_false_eq_true, xj_Mo_check, xb_Mo_check_0, xb_Mo_check_26, xb_Mo_check_29, xb_Mo_check_73, xb_Mo_check_74, xb_Mo_check_79, xb_Mo_check_85, hmw, ht, xq_Mo_in, hx1, ht7, hx2]
          have q := vl_chkM ro xv_SZ I2 J (w := w) (by omega) kl3 l1 hn n 0 (by omega)
          rw [e2] at q ⊢
          exact q
        · refine ⟨⟨0, by omega, k11, k167, fun j hj => absurd hj (by omega)⟩, vi_P_c a2 (hrow _ (by omega) (by omega) (by omega) (by omega)) (hrow _ (by omega) (by omega) (by omega) (by omega)), vi_Q_c a3 (hb _ _ (by omega) (by omega) (by omega) (by omega)) (hrow _ (by omega) (by omega) (by omega) (by omega)) (hb _ _ (by omega) (by omega) (by omega) (by omega)) rfl,
            vi_A_c a4 (fun f hf => hb _ _ (by omega) (by omega) (by omega) (by omega)) (fun a ha hb2 => hrow _ (by omega) (by omega) (by omega) (by omega)) (hrow _ (by omega) (by omega) (by omega) (by omega)), vi_K_c a5 (hb _ _ (by omega) (by omega) (by omega) (by omega)) (hb _ _ (by omega) (by omega) (by omega) (by omega)) (fun f hf => hb _ _ (by omega) (by omega) (by omega) (by omega)) (fun a ha hb2 => hrow _ (by omega) (by omega) (by omega) (by omega)) (hrow _ (by omega) (by omega) (by omega) (by omega)),
            hV I I2 (fun a ha hb2 => hrow _ (by omega) (by omega) (by omega) (by omega)) (hb _ _ (by omega) (by omega) (by omega) (by omega)) (fun a ha hb2 => hrow _ (by omega) (by omega) (by omega) (by omega)) a6.1, vi_B_c a6.2 (fun a ha => hrow a (by rintro rfl; revert ha; decide) (by rintro rfl; revert ha; decide) (by rintro rfl; revert ha; decide) (by rintro rfl; revert ha; decide))⟩
      · have hcutno : xv_evm ro 198 248 [.ref 1, .int x1, .int 0, .int 12] (xv_SZ, xv_mk I J) = some (some (.int 0), (xv_SZ, xv_mk I J)) := by
          rw [xe_Tape_cut]
          by_cases c1 : x1 < 0
          · simp only [xr_all, xf_all, if_true, if_false, true_or, or_true, eq_self, ite_not, Bool.false_eq_true, ite_self, and_self, true_and, and_true, false_and, and_false, not_true_eq_false, not_false_eq_true, xj_Tape_cut, xb_Tape_cut_0, xb_Tape_cut_18, xb_Tape_cut_20, c1]
          · by_cases c2 : x1 ≤ 12
            · obtain ⟨n, hn2, rfl⟩ := (vn_in (N := 12) (x := x1) (by omega)).mp ⟨Int32.not_lt.mp c1, c2⟩
              have c3 : (nI n ≤ nI t) = False := by rw [vn_le (by omega) (by omega)]; apply eq_false; intro q; exact hn ⟨n, hn2, q, rfl⟩
              simp only [xr_all, xf_all, if_true, if_false, true_or, or_true, eq_self, ite_not, Bool.false_eq_true, ite_self, and_self, true_and, and_true, false_and, and_false, not_true_eq_false, not_false_eq_true, xj_Tape_cut, xb_Tape_cut_0, xb_Tape_cut_18, xb_Tape_cut_20, c1, c2, t2, c3]
            · have c4 : (12 < x1) = True := eq_true (Int32.not_le.mp c2)
              simp only [xr_all, xf_all, if_true, if_false, true_or, or_true, eq_self, ite_not, Bool.false_eq_true, ite_self, and_self, true_and, and_true, false_and, and_false, not_true_eq_false, not_false_eq_true, xj_Tape_cut, xb_Tape_cut_0, xb_Tape_cut_18, xb_Tape_cut_20, c1, c2, c4]
        have hmw := xq_Mo_isWitness ro 197 xv_SZ I J (m := mk) (w := w) m2 m1 (by omega)
        refine ⟨-2, I, J, I, J, ?_, ?_, hI⟩
        · rw [xe_Ct_check]
          simp only [xr_all, xf_all, if_true, if_false, true_or, or_true, eq_self, ite_not, Bool.false_eq_true, ite_self, and_self, true_and, and_true, false_and, and_false, not_true_eq_false, not_false_eq_true, xj_Ct_check, xb_Ct_check_0, xb_Ct_check_27, xb_Ct_check_30, xb_Ct_check_60, xb_Ct_check_66, htold, hcutno]
        · rw [xe_Mo_check]
          by_cases c2 : 0 ≤ x1 ∧ x1 ≤ 12
          · obtain ⟨n, hn2, rfl⟩ := (vn_in (N := 12) (x := x1) (by omega)).mp c2
            have c3 : (nI n ≤ nI t) = False := by rw [vn_le (by omega) (by omega)]; apply eq_false; intro q; exact hn ⟨n, hn2, q, rfl⟩
            have c4 := eq_true c2
            simp only [xr_all, xf_all, if_true, if_false, true_or, or_true, eq_self, ite_not, Bool.false_eq_true, ite_self, and_self, true_and, and_true, false_and, and_false, not_true_eq_false, not_false_eq_true, xj_Mo_check, xb_Mo_check_0, xb_Mo_check_26, xb_Mo_check_29, xb_Mo_check_73, xb_Mo_check_74, xb_Mo_check_79, xb_Mo_check_85, hmw, ht, xq_Mo_in, c4, t3, c3]
          · simp only [xr_all, xf_all, if_true, if_false, true_or, or_true, eq_self, ite_not, Bool.false_eq_true, ite_self, and_self, true_and, and_true, false_and, and_false, not_true_eq_false, not_false_eq_true, xj_Mo_check, xb_Mo_check_0, xb_Mo_check_26, xb_Mo_check_29, xb_Mo_check_73, xb_Mo_check_74, xb_Mo_check_79, xb_Mo_check_85, hmw, ht, xq_Mo_in, eq_false c2]
    · have hmw := xq_Mo_isWitness ro 197 xv_SZ I J (m := mk) (w := w) m2 m1 (by omega)
      refine ⟨-2, I, J, I, J, ?_, ?_, hI⟩
      · rw [xe_Ct_check]
        have htold := xq_told_no ro 197 xv_SZ I J (A := 25) (Or.inl rfl) (nI w) (fun v hv q => by
          have : v = w := ((nI_eq (by omega) (by omega)).mp q).symm
          rw [this, m3 w (by omega), if_neg ht])
        simp only [xr_all, xf_all, if_true, if_false, true_or, or_true, eq_self, ite_not, Bool.false_eq_true, ite_self, and_self, true_and, and_true, false_and, and_false, not_true_eq_false, not_false_eq_true, xj_Ct_check, xb_Ct_check_0, xb_Ct_check_27, xb_Ct_check_30, xb_Ct_check_60, xb_Ct_check_66, htold]
      · rw [xe_Mo_check]
        simp only [xr_all, xf_all, if_true, if_false, true_or, or_true, eq_self, ite_not, Bool.false_eq_true, ite_self, and_self, true_and, and_true, false_and, and_false, not_true_eq_false, not_false_eq_true, xj_Mo_check, xb_Mo_check_0, xb_Mo_check_26, xb_Mo_check_29, xb_Mo_check_73, xb_Mo_check_74, xb_Mo_check_79, xb_Mo_check_85, hmw, ht]
  · refine ⟨-2, I, J, I, J, ?_, ?_, hI⟩
    · rw [xe_Ct_check]
      have htold := xq_told_no ro 197 xv_SZ I J (A := 25) (Or.inl rfl) x0 (fun v hv q => absurd ⟨v, by omega, q⟩ hw)
      simp only [xr_all, xf_all, if_true, if_false, true_or, or_true, eq_self, ite_not, Bool.false_eq_true, ite_self, and_self, true_and, and_true, false_and, and_false, not_true_eq_false, not_false_eq_true, xj_Ct_check, xb_Ct_check_0, xb_Ct_check_27, xb_Ct_check_30, xb_Ct_check_60, xb_Ct_check_66, htold]
    · rw [xe_Mo_check]
      simp only [xr_all, xf_all, if_true, if_false, true_or, or_true, eq_self, ite_not, Bool.false_eq_true, ite_self, and_self, true_and, and_true, false_and, and_false, not_true_eq_false, not_false_eq_true, xj_Mo_check, xb_Mo_check_0, xb_Mo_check_26, xb_Mo_check_29, xb_Mo_check_73, xb_Mo_check_74, xb_Mo_check_79, xb_Mo_check_85, xq_Mo_isWitness_no ro 197 (xv_SZ, xv_mk I J) hw]
