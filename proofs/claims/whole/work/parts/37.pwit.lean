/-! PAIRS: witness, seed, strike -/
theorem vb_or : ∀ w, w < 10 → ∀ m, m < 1024 → nI m ||| ((1 : Int32) <<< (nI w &&& 31)) = nI (m ||| 2 ^ w) := by
  have h : ∀ w, w < 10 → (1 : Int32) <<< (nI w &&& 31) = nI (2 ^ w) := by decide +kernel
  intro w hw m hm
  rw [h w hw]
  apply Int32.toBitVec_inj.mp
  apply BitVec.eq_of_toNat_eq
  have h2 : 2 ^ w < 2 ^ 10 := Nat.pow_lt_pow_right (by omega) hw
  have h3 : m ||| 2 ^ w < 2 ^ 10 := Nat.or_lt_two_pow (by omega) h2
  rw [Int32.toBitVec_or, BitVec.toNat_or, pk_tn (by omega), pk_tn (by omega), pk_tn (by omega)]
theorem xq_Ct_witness (ro : xv_Ro) (d : Nat) (z : Nat × Nat) (I : Nat → Nat → Int32) (J : Nat → Nat → Int64) (w n : Nat) (hw : w < 10) (hn : n ≤ 9) : xv_evm ro (d + 2) 2 [.ref 0, .int (nI w), .int (nI n)] (z, xv_mk I J) = some (some (.int 1), (z, xv_mk (xv_u2 (xv_u2 (xv_u2 I (28 + 2 * w) 3 1) (28 + 2 * w) 2 (nI n)) (28 + 2 * w) 1 0) J)) := by
  rw [xe_Ct_witness]
  have h1 : (nI w < 0) = False := vn_lt0 (by omega)
  have h2 : (10 ≤ nI w) = False := by rw [show (10 : Int32) = nI 10 from rfl, vn_le (by omega) (by omega)]; simp; omega
  have h3 : (nI n < 0) = False := vn_lt0 (by omega)
  have h4 : (nI n ≤ 9) = True := by rw [show (9 : Int32) = nI 9 from rfl, vn_le (by omega) (by omega)]; simp; omega
  simp only [xr_all, xf_all, if_true, if_false, true_or, or_true, eq_self, ite_not, Bool.false_eq_true, ite_self, and_self, true_and, and_true, false_and, and_false, not_true_eq_false, not_false_eq_true, xj_Ct_witness, xb_Ct_witness_0, xb_Ct_witness_20, xb_Ct_witness_22, h1, h2, h3, h4, xq_Archive_call ro d z I J (A := 25) (nI n) (Or.inl rfl) hw]
theorem xq_Ct_witness_no (ro : xv_Ro) (d : Nat) (σ : xv_S) (x y : Int32) (h : ¬ (0 ≤ x ∧ x < 10 ∧ 0 ≤ y ∧ y ≤ 9)) : xv_evm ro (d + 2) 2 [.ref 0, .int x, .int y] σ = some (some (.int 0), σ) := by
  rw [xe_Ct_witness]
  by_cases h1 : x < 0
  · simp only [xr_all, xf_all, if_true, if_false, true_or, or_true, eq_self, ite_not, Bool.false_eq_true, ite_self, and_self, true_and, and_true, false_and, and_false, not_true_eq_false, not_false_eq_true, xj_Ct_witness, xb_Ct_witness_0, xb_Ct_witness_20, xb_Ct_witness_22, h1]
  · by_cases h2 : 10 ≤ x
    · simp only [xr_all, xf_all, if_true, if_false, true_or, or_true, eq_self, ite_not, Bool.false_eq_true, ite_self, and_self, true_and, and_true, false_and, and_false, not_true_eq_false, not_false_eq_true, xj_Ct_witness, xb_Ct_witness_0, xb_Ct_witness_20, xb_Ct_witness_22, h1, h2]
    · by_cases h3 : y < 0
      · simp only [xr_all, xf_all, if_true, if_false, true_or, or_true, eq_self, ite_not, Bool.false_eq_true, ite_self, and_self, true_and, and_true, false_and, and_false, not_true_eq_false, not_false_eq_true, xj_Ct_witness, xb_Ct_witness_0, xb_Ct_witness_20, xb_Ct_witness_22, h1, h2, h3]
      · by_cases h4 : ¬ y ≤ 9
        · simp only [xr_all, xf_all, if_true, if_false, true_or, or_true, eq_self, ite_not, Bool.false_eq_true, ite_self, and_self, true_and, and_true, false_and, and_false, not_true_eq_false, not_false_eq_true, xj_Ct_witness, xb_Ct_witness_0, xb_Ct_witness_20, xb_Ct_witness_22, h1, h2, h3, h4]
        · exfalso; (simp only [Int32.lt_iff_toInt_lt, Int32.le_iff_toInt_le, ← Int32.toInt_inj, vt_all] at *; omega)
theorem xq_Mo_witness (ro : xv_Ro) (d : Nat) (z : Nat × Nat) (I : Nat → Nat → Int32) (J : Nat → Nat → Int64) (w n m : Nat) (hw : w < 10) (hn : n ≤ 9) (hm : I 168 300 = nI m) (hm2 : m < 1024) : xv_evm ro (d + 2) 53 [.ref 167, .int (nI w), .int (nI n)] (z, xv_mk I J) = some (some (.int 1), (z, xv_mk (xv_u2 (xv_u2 (xv_u2 I 168 300 (nI (m ||| 2 ^ w))) 168 (130 + w) (nI n)) 168 (120 + w) 0) J)) := by
  rw [xe_Mo_witness]
  have h1 : (0 ≤ nI w ∧ nI w ≤ 9) = True := eq_true ((vn_in (N := 9) (by omega)).mpr ⟨w, by omega, rfl⟩)
  have h2 : (0 ≤ nI n ∧ nI n ≤ 9) = True := eq_true ((vn_in (N := 9) (by omega)).mpr ⟨n, hn, rfl⟩)
  have h3 : xv_inB 300 304 = true := by decide
  have h4 : (300 : Int32).toNatClampNeg = 300 := by decide
  have h5 : 130 + nI w = nI (130 + w) := by rw [show (130 : Int32) = nI 130 from rfl, nI_add]
  have h6 : 120 + nI w = nI (120 + w) := by rw [show (120 : Int32) = nI 120 from rfl, nI_add]
  have h7 : xv_inB (nI (130 + w)) 304 = true := vn_inB (by omega) (by omega)
  have h8 : xv_inB (nI (120 + w)) 304 = true := vn_inB (by omega) (by omega)
  simp only [xr_all, xf_all, if_true, if_false, true_or, or_true, eq_self, ite_not, Bool.false_eq_true, ite_self, and_self, true_and, and_true, false_and, and_false, not_true_eq_false, not_false_eq_true, xj_Mo_witness, xb_Mo_witness_0, xb_Mo_witness_20, xb_Mo_witness_22, xq_Mo_in, h1, h2, h3, h4, h5, h6, h7, h8, hm, vb_or w hw m hm2, nI_clamp (show 130 + w < 2 ^ 31 by omega), nI_clamp (show 120 + w < 2 ^ 31 by omega)]
theorem xq_Mo_witness_no (ro : xv_Ro) (d : Nat) (σ : xv_S) (x y : Int32) (h : ¬ (0 ≤ x ∧ x < 10 ∧ 0 ≤ y ∧ y ≤ 9)) : xv_evm ro (d + 2) 53 [.ref 167, .int x, .int y] σ = some (some (.int 0), σ) := by
  rw [xe_Mo_witness]
  by_cases h1 : 0 ≤ x ∧ x ≤ 9
  · by_cases h2 : 0 ≤ y ∧ y ≤ 9
    · exfalso; (simp only [Int32.lt_iff_toInt_lt, Int32.le_iff_toInt_le, ← Int32.toInt_inj, vt_all] at *; omega)
    · simp only [xr_all, xf_all, if_true, if_false, true_or, or_true, eq_self, ite_not, Bool.false_eq_true, ite_self, and_self, true_and, and_true, false_and, and_false, not_true_eq_false, not_false_eq_true, xj_Mo_witness, xb_Mo_witness_0, xb_Mo_witness_20, xb_Mo_witness_22, xq_Mo_in, h1, h2]
  · simp only [xr_all, xf_all, if_true, if_false, true_or, or_true, eq_self, ite_not, Bool.false_eq_true, ite_self, and_self, true_and, and_true, false_and, and_false, not_true_eq_false, not_false_eq_true, xj_Mo_witness, xb_Mo_witness_0, xb_Mo_witness_20, xb_Mo_witness_22, xq_Mo_in, h1]
theorem vi_A1_c {I I' : Nat → Nat → Int32} {A B : Nat} (h : vi_A1 I A B) (h0 : I' A 2 = I A 2) (h1 : ∀ a, A + 23 ≤ a → a < A + 43 → I' a = I a) (h2 : ∀ j, 140 ≤ j → j < 302 → j ≠ 300 → I' B j = I B j) : vi_A1 I' A B := by
  obtain ⟨n, a1, a2, a3, a4⟩ := h
  refine ⟨n, a1, by rw [h0]; exact a2, by rw [h2 301 (by omega) (by omega) (by omega)]; exact a3, fun i hi => ?_⟩
  obtain ⟨b1, b2, b3, b4, b5⟩ := a4 i hi
  refine ⟨fun f hf => ?_, ?_, ?_, ?_, ?_⟩
  · rw [h1 (A + 23 + i) (by omega) (by omega), h2 (140 + 20 * f + i) (by omega) (by omega) (by omega)]; exact b1 f hf
  · rw [h2 (140 + i) (by omega) (by omega) (by omega)]; exact b2
  · rw [h2 (160 + i) (by omega) (by omega) (by omega)]; exact b3
  · rw [h2 (180 + i) (by omega) (by omega) (by omega)]; exact b4
  · rw [h2 (200 + i) (by omega) (by omega) (by omega)]; exact b5
theorem vi_A2_c {I I' : Nat → Nat → Int32} {A B : Nat} (h : vi_A2 I A B) (h1 : I' A 3 = I A 3) (h2 : I' A 4 = I A 4) (h3 : I' B 302 = I B 302) (h4 : I' B 303 = I B 303) : vi_A2 I' A B := by
  unfold vi_A2 at h ⊢; rw [h1, h2, h3, h4]; exact h
theorem vi_A3_c {I I' : Nat → Nat → Int32} {A B : Nat} (h : vi_A3 I A B) (h1 : I' B 300 = I B 300) (h2 : ∀ w, w < 10 → I' (A + 3 + 2 * w) 3 = I (A + 3 + 2 * w) 3) : vi_A3 I' A B := by
  obtain ⟨m, m1, m2, m3⟩ := h
  exact ⟨m, m1, by rw [h1]; exact m2, fun w hw => by rw [h2 w hw]; exact m3 w hw⟩
theorem vi_A4_c {I I' : Nat → Nat → Int32} {A B : Nat} (h : vi_A4 I A B) (h1 : ∀ a, A + 2 < a → a < A + 23 → I' a = I a) (h2 : ∀ j, j < 140 → I' B j = I B j) : vi_A4 I' A B := by
  intro w hw
  obtain ⟨⟨q1, q2, q3, q4⟩, q5, q6, q7, q8, q9⟩ := h w hw
  refine ⟨⟨q1, q2, ?_, ?_⟩, q5, q6, ?_, ?_, fun i hi => ?_⟩
  · rw [h1 _ (by omega) (by omega)]; exact q3
  · rw [h2 _ (by omega)]; exact q4
  · rw [h1 _ (by omega) (by omega)]; exact q7
  · rw [h2 _ (by omega)]; exact q8
  · obtain ⟨s, s1, s2, s3, s4⟩ := q9 i hi
    exact ⟨s, s1, s2, by rw [h1 _ (by omega) (by omega)]; exact s3, by rw [h2 _ (by omega)]; exact s4⟩
theorem xp_1 (VL : xv_LP) (hV : vi_Lc VL) : xl_P1 (vi_all VL) := by
  intro x0 x1 ro I J hro hI
  by_cases h : 0 ≤ x0 ∧ x0 < 10 ∧ 0 ≤ x1 ∧ x1 ≤ 9
  · obtain ⟨w, hw, rfl⟩ : ∃ i : Nat, i < 10 ∧ x0 = nI i := by
      rcases vn_cases x0 10 (by omega) with q | q | q
      · exfalso; (simp only [Int32.lt_iff_toInt_lt, Int32.le_iff_toInt_le, ← Int32.toInt_inj, vt_all] at *; omega)
      · exfalso; rw [show nI 10 = (10 : Int32) from rfl] at q; (simp only [Int32.lt_iff_toInt_lt, Int32.le_iff_toInt_le, ← Int32.toInt_inj, vt_all] at *; omega)
      · exact q
    obtain ⟨n, hn, rfl⟩ : ∃ n : Nat, n < 10 ∧ x1 = nI n := by
      rcases vn_cases x1 10 (by omega) with q | q | q
      · exfalso; (simp only [Int32.lt_iff_toInt_lt, Int32.le_iff_toInt_le, ← Int32.toInt_inj, vt_all] at *; omega)
      · exfalso; rw [show nI 10 = (10 : Int32) from rfl] at q; (simp only [Int32.lt_iff_toInt_lt, Int32.le_iff_toInt_le, ← Int32.toInt_inj, vt_all] at *; omega)
      · exact q
    obtain ⟨h1, h2, h3, ⟨g1, g2, ⟨m, hm1, hm2, hm3⟩, g4⟩, h5, h6⟩ := hI
    refine ⟨1, _, _, _, _, xq_Ct_witness ro _ _ I J w n hw (by omega), xq_Mo_witness ro _ _ _ J w n m hw (by omega) ?_ hm1, ?_⟩
    · rw [xu_ne (by omega), xu_ne (by omega), xu_ne (by omega)]; exact hm2
    · refine ⟨vi_T_c h1 ?_ ?_ ?_ ?_, vi_P_c h2 ?_ ?_, vi_Q_c h3 ?_ ?_ ?_ rfl, ⟨vi_A1_c g1 ?_ (fun a ha hb => ?_) (fun j ja jb jc => ?_), ?_, ⟨m ||| 2 ^ w, ?_, ?_, fun v hv => ?_⟩, fun v hv => ?_⟩, vi_K_c h5 ?_ ?_ (fun f hf => ?_) (fun a ha hb => ?_) ?_, hV I _ (fun a ha hb => ?_) ?_ (fun a ha hb => ?_) h6.1, vi_B_n (vi_B_n (vi_B_n (vi_B_u (vi_B_u (vi_B_u h6.2 ⟨fun _ _ => Or.inr rfl, fun _ _ => Or.inr rfl⟩) ⟨fun _ q => absurd q (by omega), fun q => absurd q (by rw [(vW_f (vW_now w hw)).2.2.2.2.1]; decide)⟩) ⟨fun _ _ => Or.inl rfl, fun _ _ => Or.inl rfl⟩) (by decide) (by decide)) (by decide) (by decide)) (by decide) (by decide)⟩
      · (repeat (first | rw [xu_ne2 (by omega)] | rw [xu_ne (by omega)] | rw [xu_eq]))
      · (repeat (first | rw [xu_ne2 (by omega)] | rw [xu_ne (by omega)] | rw [xu_eq]))
      · (repeat (first | rw [xu_ne2 (by omega)] | rw [xu_ne (by omega)] | rw [xu_eq]))
      · (repeat (first | rw [xu_ne2 (by omega)] | rw [xu_ne (by omega)] | rw [xu_eq]))
      · (repeat (first | rw [xu_ne2 (by omega)] | rw [xu_ne (by omega)] | rw [xu_eq]))
      · (repeat (first | rw [xu_ne2 (by omega)] | rw [xu_ne (by omega)] | rw [xu_eq]))
      · (repeat (first | rw [xu_ne2 (by omega)] | rw [xu_ne (by omega)] | rw [xu_eq]))
      · (repeat (first | rw [xu_ne2 (by omega)] | rw [xu_ne (by omega)] | rw [xu_eq]))
      · (repeat (first | rw [xu_ne2 (by omega)] | rw [xu_ne (by omega)] | rw [xu_eq]))
      · (repeat (first | rw [xu_ne2 (by omega)] | rw [xu_ne (by omega)] | rw [xu_eq]))
      · (repeat (first | rw [xu_ne2 (by omega)] | rw [xu_ne (by omega)] | rw [xu_eq]))
      · (repeat (first | rw [xu_ne2 (by omega)] | rw [xu_ne (by omega)] | rw [xu_eq]))
      · unfold vi_A2 at g2 ⊢
        obtain ⟨⟨q1, q2, q3, q4⟩, q5, q6, q7, q8⟩ := g2
        refine ⟨⟨q1, q2, ?_, ?_⟩, q5, q6, ?_, ?_⟩
        · (repeat (first | rw [xu_ne2 (by omega)] | rw [xu_ne (by omega)] | rw [xu_eq])); exact q3
        · (repeat (first | rw [xu_ne2 (by omega)] | rw [xu_ne (by omega)] | rw [xu_eq])); exact q4
        · (repeat (first | rw [xu_ne2 (by omega)] | rw [xu_ne (by omega)] | rw [xu_eq])); exact q7
        · (repeat (first | rw [xu_ne2 (by omega)] | rw [xu_ne (by omega)] | rw [xu_eq])); exact q8
      · exact Nat.or_lt_two_pow (n := 10) hm1 (Nat.pow_lt_pow_right (by omega) hw)
      · (repeat (first | rw [xu_ne2 (by omega)] | rw [xu_ne (by omega)] | rw [xu_eq]))
      · rw [Nat.testBit_or, Nat.testBit_two_pow]
        by_cases hvw : v = w
        · subst hvw
          (repeat (first | rw [xu_ne2 (by omega)] | rw [xu_ne (by omega)] | rw [xu_eq]))
          simp
        · have hvw2 : ¬ w = v := fun q => hvw q.symm
          (repeat (first | rw [xu_ne2 (by omega)] | rw [xu_ne (by omega)] | rw [xu_eq]))
          rw [hm3 v hv]
          simp [hvw2]
      · obtain ⟨⟨q1, q2, q3, q4⟩, q5, q6, q7, q8, q9⟩ := g4 v hv
        by_cases hvw : v = w
        · subst hvw
          refine ⟨⟨n, by omega, ?_, ?_⟩, 0, by omega, ?_, ?_, fun i hi => absurd hi (by omega)⟩
          · (repeat (first | rw [xu_ne2 (by omega)] | rw [xu_ne (by omega)] | rw [xu_eq]))
          · (repeat (first | rw [xu_ne2 (by omega)] | rw [xu_ne (by omega)] | rw [xu_eq]))
          · (repeat (first | rw [xu_ne2 (by omega)] | rw [xu_ne (by omega)] | rw [xu_eq])); rfl
          · (repeat (first | rw [xu_ne2 (by omega)] | rw [xu_ne (by omega)] | rw [xu_eq])); rfl
        · refine ⟨⟨q1, q2, ?_, ?_⟩, q5, q6, ?_, ?_, fun i hi => ?_⟩
          · (repeat (first | rw [xu_ne2 (by omega)] | rw [xu_ne (by omega)] | rw [xu_eq])); exact q3
          · (repeat (first | rw [xu_ne2 (by omega)] | rw [xu_ne (by omega)] | rw [xu_eq])); exact q4
          · (repeat (first | rw [xu_ne2 (by omega)] | rw [xu_ne (by omega)] | rw [xu_eq])); exact q7
          · (repeat (first | rw [xu_ne2 (by omega)] | rw [xu_ne (by omega)] | rw [xu_eq])); exact q8
          · obtain ⟨s, s1, s2, s3, s4⟩ := q9 i hi
            refine ⟨s, s1, s2, ?_, ?_⟩
            · (repeat (first | rw [xu_ne2 (by omega)] | rw [xu_ne (by omega)] | rw [xu_eq])); exact s3
            · (repeat (first | rw [xu_ne2 (by omega)] | rw [xu_ne (by omega)] | rw [xu_eq])); exact s4
      all_goals (repeat (first | rw [xu_ne2 (by omega)] | rw [xu_ne (by omega)] | rw [xu_eq]))
  · exact ⟨0, _, _, _, _, xq_Ct_witness_no ro _ _ x0 x1 h, xq_Mo_witness_no ro _ _ x0 x1 h, hI⟩
