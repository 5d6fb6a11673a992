/-! PAIR: feed -/
theorem vb_byte (y : Int32) : y.toInt8.toInt32 &&& 255 = y &&& 255 := by
  apply Int32.toBitVec_inj.mp
  rw [Int32.toBitVec_and, Int32.toBitVec_and]
  apply BitVec.eq_of_getLsbD_eq
  intro i hi
  rw [BitVec.getLsbD_and, BitVec.getLsbD_and]
  have h255 : (255 : Int32).toBitVec.getLsbD i = decide (i < 8) := by
    have : ∀ i, i < 32 → (255 : Int32).toBitVec.getLsbD i = decide (i < 8) := by decide +kernel
    exact this i hi
  rw [h255]
  by_cases h : i < 8
  · have e : y.toInt8.toInt32.toBitVec.getLsbD i = y.toBitVec.getLsbD i := by
      show ((y.toBitVec.signExtend 8).signExtend 32).getLsbD i = _
      rw [BitVec.getLsbD_signExtend, if_pos h, BitVec.getLsbD_signExtend, if_pos hi]
      simp [hi, h]
    rw [e]
  · simp [h]
/-- byte k of a word -/
def vf_b (x : Int32) (k : Nat) : Int32 := (x >>> (nI (24 - 8 * k) &&& 31)) &&& 255
theorem vf_step (ro : xv_Ro) (d : Nat) (z : Nat × Nat) (I : Nat → Nat → Int32) (J : Nat → Nat → Int64) (x s : Int32) (t : Nat) (ht : I 1 1 = nI t) (h260 : t < 260) (hs : ¬ s < 0) : xv_ev ro d xm_Tape_append xb_Tape_append_3 [some (.ref 1), some (.int x), some (.int s)] [] (z, xv_mk I J) = xv_ev ro d xm_Tape_append xb_Tape_append_3 [some (.ref 1), some (.int x), some (.int (s + -8))] [] (z, xv_mk (xv_u2 (xv_u2 I 2 t (x >>> (s &&& 31) &&& 255)) 1 1 (nI (t + 1))) J) := by
  conv => lhs; unfold xb_Tape_append_3
  have h1 : (nI t < 0) = False := vn_lt0 (by omega)
  have h2 : (Int32.ofNat 260 ≤ nI t) = False := by rw [show Int32.ofNat 260 = nI 260 from rfl, vn_le (by omega) (by omega)]; simp; omega
  have h3 : xv_inB (nI t) 260 = true := vn_inB h260 (by omega)
  have h4 : xv_u2 I 2 t (x >>> (s &&& 31) &&& 255) 1 1 = nI t := by (repeat (first | rw [xu_ne2 (by omega)] | rw [xu_ne (by omega)] | rw [xu_eq])); exact ht
  simp only [xr_all, xf_all, if_true, if_false, true_or, or_true, eq_self, ite_not, Bool.false_eq_true, ite_self, and_self, true_and, and_true, false_and, and_false, not_true_eq_false, not_false_eq_true, xj_Tape_append, xb_Tape_append_0, xb_Tape_append_52, xb_Tape_append_58, hs, ht, h1, h2, h3, nI_clamp (show t < 2 ^ 31 by omega), h4, nI_1]
theorem vf_app (ro : xv_Ro) (d : Nat) (z : Nat × Nat) (I : Nat → Nat → Int32) (J : Nat → Nat → Int64) (x : Int32) (t : Nat) (ht : I 1 1 = nI t) (h260 : t + 4 ≤ 260) : ∃ I1, xv_evm ro d 246 [.ref 1, .int x] (z, xv_mk I J) = some (none, (z, xv_mk I1 J)) ∧ I1 1 1 = nI (t + 4) ∧ (∀ j, j < t → I1 2 j = I 2 j) ∧ (∀ k, k < 4 → I1 2 (t + k) = vf_b x k) ∧ ∀ a j, ¬ a = 2 → ¬ (a = 1 ∧ j = 1) → I1 a j = I a j := by
  rw [xe_Tape_append]
  simp only [xr_all, xf_all, if_true, if_false, true_or, or_true, eq_self, ite_not, Bool.false_eq_true, ite_self, and_self, true_and, and_true, false_and, and_false, not_true_eq_false, not_false_eq_true, xj_Tape_append, xb_Tape_append_0, xb_Tape_append_52, xb_Tape_append_58]
  rw [vf_step ro d z I J x 24 t ht (by omega) (by decide)]
  rw [vf_step ro d z _ J x (24 + -8) (t + 1) xu_eq (by omega) (by decide)]
  rw [vf_step ro d z _ J x (24 + -8 + -8) (t + 1 + 1) xu_eq (by omega) (by decide)]
  rw [vf_step ro d z _ J x (24 + -8 + -8 + -8) (t + 1 + 1 + 1) xu_eq (by omega) (by decide)]
  have he : ((24 : Int32) + -8 + -8 + -8 + -8 < 0) = True := by decide
  unfold xb_Tape_append_3
  simp only [xr_all, xf_all, if_true, if_false, true_or, or_true, eq_self, ite_not, Bool.false_eq_true, ite_self, and_self, true_and, and_true, false_and, and_false, not_true_eq_false, not_false_eq_true, xj_Tape_append, xb_Tape_append_0, xb_Tape_append_52, xb_Tape_append_58, he]
  refine ⟨_, rfl, xu_eq, fun j hj => ?_, fun k hk => ?_, fun a j h1 h2 => ?_⟩
  · (repeat (first | rw [xu_ne2 (by omega)] | rw [xu_ne (by omega)] | rw [xu_eq]))
  · match k, hk with
    | 0, _ => rw [show t + 0 = t from rfl]; (repeat (first | rw [xu_ne2 (by omega)] | rw [xu_ne (by omega)] | rw [xu_eq])); rfl
    | 1, _ => (repeat (first | rw [xu_ne2 (by omega)] | rw [xu_ne (by omega)] | rw [xu_eq])); rfl
    | 2, _ => (repeat (first | rw [xu_ne2 (by omega)] | rw [xu_ne (by omega)] | rw [xu_eq])); rfl
    | 3, _ => (repeat (first | rw [xu_ne2 (by omega)] | rw [xu_ne (by omega)] | rw [xu_eq])); rfl
    | k + 4, h => exact absurd h (by omega)
  · (repeat (first | rw [xu_ne2 (by omega)] | rw [xu_ne (by omega)] | rw [xu_eq]))
theorem vt_step (ro : xv_Ro) (d : Nat) (z : Nat × Nat) (I : Nat → Nat → Int32) (J : Nat → Nat → Int64) (x s : Int32) (t : Nat) (ht : I 167 7 = nI t) (h260 : t < 260) (hs : ¬ s < 0) : xv_ev ro d xm_Mo_types xb_Mo_types_2 [some (.ref 167), some (.int x), some (.int s)] [] (z, xv_mk I J) = xv_ev ro d xm_Mo_types xb_Mo_types_2 [some (.ref 167), some (.int x), some (.int (s + -1))] [] (z, xv_mk (xv_u2 (xv_u2 I 173 t ((x >>> ((8 * s) &&& 31)).toInt8.toInt32)) 167 7 (nI (t + 1))) J) := by
  conv => lhs; unfold xb_Mo_types_2
  have h3 : xv_inB (nI t) 260 = true := vn_inB h260 (by omega)
  have h4 : xv_u2 I 173 t ((x >>> ((8 * s) &&& 31)).toInt8.toInt32) 167 7 = nI t := by (repeat (first | rw [xu_ne2 (by omega)] | rw [xu_ne (by omega)] | rw [xu_eq])); exact ht
  simp only [xr_all, xf_all, if_true, if_false, true_or, or_true, eq_self, ite_not, Bool.false_eq_true, ite_self, and_self, true_and, and_true, false_and, and_false, not_true_eq_false, not_false_eq_true, xj_Mo_types, xb_Mo_types_0, xb_Mo_types_38, hs, ht, h3, nI_clamp (show t < 2 ^ 31 by omega), pk_vb, h4, nI_1]
theorem vt_app (ro : xv_Ro) (d : Nat) (z : Nat × Nat) (I : Nat → Nat → Int32) (J : Nat → Nat → Int64) (x : Int32) (t : Nat) (ht : I 167 7 = nI t) (h260 : t + 4 ≤ 260) : ∃ I1, xv_evm ro d 54 [.ref 167, .int x] (z, xv_mk I J) = some (none, (z, xv_mk I1 J)) ∧ I1 167 7 = nI (t + 4) ∧ (∀ j, j < t → I1 173 j = I 173 j) ∧ (∀ k, k < 4 → I1 173 (t + k) &&& 255 = vf_b x k) ∧ ∀ a j, ¬ a = 173 → ¬ (a = 167 ∧ j = 7) → I1 a j = I a j := by
  rw [xe_Mo_types]
  simp only [xr_all, xf_all, if_true, if_false, true_or, or_true, eq_self, ite_not, Bool.false_eq_true, ite_self, and_self, true_and, and_true, false_and, and_false, not_true_eq_false, not_false_eq_true, xj_Mo_types, xb_Mo_types_0, xb_Mo_types_38]
  rw [vt_step ro d z I J x 3 t ht (by omega) (by decide)]
  rw [vt_step ro d z _ J x (3 + -1) (t + 1) xu_eq (by omega) (by decide)]
  rw [vt_step ro d z _ J x (3 + -1 + -1) (t + 1 + 1) xu_eq (by omega) (by decide)]
  rw [vt_step ro d z _ J x (3 + -1 + -1 + -1) (t + 1 + 1 + 1) xu_eq (by omega) (by decide)]
  have he : ((3 : Int32) + -1 + -1 + -1 + -1 < 0) = True := by decide
  unfold xb_Mo_types_2
  simp only [xr_all, xf_all, if_true, if_false, true_or, or_true, eq_self, ite_not, Bool.false_eq_true, ite_self, and_self, true_and, and_true, false_and, and_false, not_true_eq_false, not_false_eq_true, xj_Mo_types, xb_Mo_types_0, xb_Mo_types_38, he]
  refine ⟨_, rfl, xu_eq, fun j hj => ?_, fun k hk => ?_, fun a j h1 h2 => ?_⟩
  · (repeat (first | rw [xu_ne2 (by omega)] | rw [xu_ne (by omega)] | rw [xu_eq]))
  · match k, hk with
    | 0, _ => rw [show t + 0 = t from rfl]; (repeat (first | rw [xu_ne2 (by omega)] | rw [xu_ne (by omega)] | rw [xu_eq])); rw [vb_byte]; rfl
    | 1, _ => (repeat (first | rw [xu_ne2 (by omega)] | rw [xu_ne (by omega)] | rw [xu_eq])); rw [vb_byte]; rfl
    | 2, _ => (repeat (first | rw [xu_ne2 (by omega)] | rw [xu_ne (by omega)] | rw [xu_eq])); rw [vb_byte]; rfl
    | 3, _ => (repeat (first | rw [xu_ne2 (by omega)] | rw [xu_ne (by omega)] | rw [xu_eq])); rw [vb_byte]; rfl
    | k + 4, h => exact absurd h (by omega)
  · (repeat (first | rw [xu_ne2 (by omega)] | rw [xu_ne (by omega)] | rw [xu_eq]))
theorem xq_Tape_size (ro : xv_Ro) (d : Nat) (z : Nat × Nat) (I : Nat → Nat → Int32) (J : Nat → Nat → Int64) : xv_evm ro d 247 [.ref 1] (z, xv_mk I J) = some (some (.int (I 1 1)), (z, xv_mk I J)) := by
  rw [xe_Tape_size]
  simp only [xr_all, xf_all, if_true, if_false, true_or, or_true, eq_self, ite_not, Bool.false_eq_true, ite_self, and_self, true_and, and_true, false_and, and_false, not_true_eq_false, not_false_eq_true, xj_Tape_size, xb_Tape_size_0]
theorem xq_Tape_hasRoomFor (ro : xv_Ro) (d : Nat) (z : Nat × Nat) (I : Nat → Nat → Int32) (J : Nat → Nat → Int64) (t : Nat) (ht : I 1 1 = nI t) (h : t ≤ 260) : xv_evm ro d 245 [.ref 1, .int 20] (z, xv_mk I J) = some (some (.int (xv_b (t + 20 ≤ 260) inferInstance)), (z, xv_mk I J)) := by
  rw [xe_Tape_hasRoomFor]
  have h1 : (260 < nI t + 20) = (260 < t + 20) := by rw [show (20 : Int32) = nI 20 from rfl, show (260 : Int32) = nI 260 from rfl, nI_add, vn_lt (by omega) (by omega)]
  simp only [xr_all, xf_all, if_true, if_false, true_or, or_true, eq_self, ite_not, Bool.false_eq_true, ite_self, and_self, true_and, and_true, false_and, and_false, not_true_eq_false, not_false_eq_true, xj_Tape_hasRoomFor, xb_Tape_hasRoomFor_0, xb_Tape_hasRoomFor_16, xb_Tape_hasRoomFor_17, ht, h1]
  unfold xv_b
  by_cases hc : t + 20 ≤ 260
  · have h2 : ¬ 260 < t + 20 := by omega
    simp only [hc, h2, if_true, if_false]
  · have h2 : 260 < t + 20 := by omega
    simp only [hc, h2, if_true, if_false]
theorem xp_2 (VL : xv_LP) (hV : vi_Lc VL) : xl_P2 (vi_all VL) := by
  intro x0 x1 x2 x3 x4 ro I J hro hI
  obtain ⟨⟨t, t1, t2, t3, t4⟩, a2, a3, a4, a5, a6⟩ := id hI
  have h1 : (260 < nI t + 20) = (260 < t + 20) := by rw [show (20 : Int32) = nI 20 from rfl, show (260 : Int32) = nI 260 from rfl, nI_add, vn_lt (by omega) (by omega)]
  by_cases hr : t + 20 ≤ 260
  · obtain ⟨I1, e1, p1, q1, r1, s1⟩ := vf_app ro 198 xv_SZ I J x0 t t2 (by omega)
    obtain ⟨I2, e2, p2, q2, r2, s2⟩ := vf_app ro 198 xv_SZ I1 J x1 (t + 4) p1 (by omega)
    obtain ⟨I3, e3, p3, q3, r3, s3⟩ := vf_app ro 198 xv_SZ I2 J x2 (t + 4 + 4) p2 (by omega)
    obtain ⟨I4, e4, p4, q4, r4, s4⟩ := vf_app ro 198 xv_SZ I3 J x3 (t + 4 + 4 + 4) p3 (by omega)
    obtain ⟨I5, e5, p5, q5, r5, s5⟩ := vf_app ro 198 xv_SZ I4 J x4 (t + 4 + 4 + 4 + 4) p4 (by omega)
    have hs : ∀ a j, ¬ a = 2 → ¬ (a = 1 ∧ j = 1) → I5 a j = I a j := fun a j u v => by rw [s5 a j u v, s4 a j u v, s3 a j u v, s2 a j u v, s1 a j u v]
    have m0 : I5 167 7 = nI t := by rw [hs 167 7 (by omega) (by omega)]; exact t3
    obtain ⟨K1, f1, P1, Q1, R1, S1⟩ := vt_app ro 198 xv_SZ I5 J x0 t m0 (by omega)
    obtain ⟨K2, f2, P2, Q2, R2, S2⟩ := vt_app ro 198 xv_SZ K1 J x1 (t + 4) P1 (by omega)
    obtain ⟨K3, f3, P3, Q3, R3, S3⟩ := vt_app ro 198 xv_SZ K2 J x2 (t + 4 + 4) P2 (by omega)
    obtain ⟨K4, f4, P4, Q4, R4, S4⟩ := vt_app ro 198 xv_SZ K3 J x3 (t + 4 + 4 + 4) P3 (by omega)
    obtain ⟨K5, f5, P5, Q5, R5, S5⟩ := vt_app ro 198 xv_SZ K4 J x4 (t + 4 + 4 + 4 + 4) P4 (by omega)
    have hS : ∀ a j, ¬ a = 173 → ¬ (a = 167 ∧ j = 7) → K5 a j = I5 a j := fun a j u v => by rw [S5 a j u v, S4 a j u v, S3 a j u v, S2 a j u v, S1 a j u v]
    refine ⟨nI (t + 4 + 4 + 4 + 4 + 4), I5, J, K5, J, ?_, ?_, ?_⟩
    · rw [xe_Ct_feed]
      have hr1 : (t + 20 ≤ 260) = True := eq_true hr
      simp only [xr_all, xf_all, if_true, if_false, true_or, or_true, eq_self, ite_not, Bool.false_eq_true, ite_self, and_self, true_and, and_true, false_and, and_false, not_true_eq_false, not_false_eq_true, xj_Ct_feed, xb_Ct_feed_0, xb_Ct_feed_14, xq_Tape_hasRoomFor ro 198 xv_SZ I J t t2 t1, hr1, e1, e2, e3, e4, e5, xq_Tape_size, p5]
    · rw [xe_Mo_feed]
      have hr1 : (260 < nI t + 20) = False := by rw [h1]; simp; omega
      have hr2 : (nI t + 20 ≤ 260) = True := by rw [show (20 : Int32) = nI 20 from rfl, show (260 : Int32) = nI 260 from rfl, nI_add, vn_le (by omega) (by omega)]; simp; omega
      simp only [xr_all, xf_all, if_true, if_false, true_or, or_true, eq_self, ite_not, Bool.false_eq_true, ite_self, and_self, true_and, and_true, false_and, and_false, not_true_eq_false, not_false_eq_true, xj_Mo_feed, xb_Mo_feed_0, xb_Mo_feed_15, m0, hr1, hr2, f1, f2, f3, f4, f5, P5]
    · have hb : ∀ a j, ¬ a = 2 → ¬ a = 173 → ¬ (a = 1 ∧ j = 1) → ¬ (a = 167 ∧ j = 7) → K5 a j = I a j := fun a j u v w y => by rw [hS a j v y, hs a j u w]
      have hrow : ∀ a, ¬ a = 2 → ¬ a = 173 → ¬ a = 1 → ¬ a = 167 → K5 a = I a := fun a u v w y => funext fun j => hb a j u v (fun q => w q.1) (fun q => y q.1)
      refine ⟨⟨t + 4 + 4 + 4 + 4 + 4, by omega, ?_, P5, fun j hj => ?_⟩, vi_P_c a2 (hrow _ (by omega) (by omega) (by omega) (by omega)) (hrow _ (by omega) (by omega) (by omega) (by omega)), vi_Q_c a3 (hb _ _ (by omega) (by omega) (by omega) (by omega)) (hrow _ (by omega) (by omega) (by omega) (by omega)) (hb _ _ (by omega) (by omega) (by omega) (by omega)) rfl,
        vi_A_c a4 (fun f hf => hb _ _ (by omega) (by omega) (by omega) (by omega)) (fun a ha hb2 => hrow _ (by omega) (by omega) (by omega) (by omega)) (hrow _ (by omega) (by omega) (by omega) (by omega)), vi_K_c a5 (hb _ _ (by omega) (by omega) (by omega) (by omega)) (hb _ _ (by omega) (by omega) (by omega) (by omega)) (fun f hf => hb _ _ (by omega) (by omega) (by omega) (by omega)) (fun a ha hb2 => hrow _ (by omega) (by omega) (by omega) (by omega)) (hrow _ (by omega) (by omega) (by omega) (by omega)),
        hV I K5 (fun a ha hb2 => hrow _ (by omega) (by omega) (by omega) (by omega)) (hb _ _ (by omega) (by omega) (by omega) (by omega)) (fun a ha hb2 => hrow _ (by omega) (by omega) (by omega) (by omega)) a6.1, vi_B_c a6.2 (fun a ha => hrow a (by rintro rfl; revert ha; decide) (by rintro rfl; revert ha; decide) (by rintro rfl; revert ha; decide) (by rintro rfl; revert ha; decide))⟩
      · rw [hS 1 1 (by omega) (by omega)]; exact p5
      · rw [hS 2 j (by omega) (by omega)]
        by_cases c0 : j < t
        · rw [q5 j (by omega), q4 j (by omega), q3 j (by omega), q2 j (by omega), q1 j (by omega), Q5 j (by omega), Q4 j (by omega), Q3 j (by omega), Q2 j (by omega), Q1 j (by omega), hs 173 j (by omega) (by omega)]
          exact t4 j c0
        · by_cases c1 : j < t + 4
          · obtain ⟨k, rfl⟩ : ∃ k, j = t + k := ⟨j - t, by omega⟩
            rw [q5 _ (by omega), q4 _ (by omega), q3 _ (by omega), q2 _ (by omega), r1 k (by omega), Q5 _ (by omega), Q4 _ (by omega), Q3 _ (by omega), Q2 _ (by omega), R1 k (by omega)]
          · by_cases c2 : j < t + 4 + 4
            · obtain ⟨k, rfl⟩ : ∃ k, j = t + 4 + k := ⟨j - (t + 4), by omega⟩
              rw [q5 _ (by omega), q4 _ (by omega), q3 _ (by omega), r2 k (by omega), Q5 _ (by omega), Q4 _ (by omega), Q3 _ (by omega), R2 k (by omega)]
            · by_cases c3 : j < t + 4 + 4 + 4
              · obtain ⟨k, rfl⟩ : ∃ k, j = t + 4 + 4 + k := ⟨j - (t + 4 + 4), by omega⟩
                rw [q5 _ (by omega), q4 _ (by omega), r3 k (by omega), Q5 _ (by omega), Q4 _ (by omega), R3 k (by omega)]
              · by_cases c4 : j < t + 4 + 4 + 4 + 4
                · obtain ⟨k, rfl⟩ : ∃ k, j = t + 4 + 4 + 4 + k := ⟨j - (t + 4 + 4 + 4), by omega⟩
                  rw [q5 _ (by omega), r4 k (by omega), Q5 _ (by omega), R4 k (by omega)]
                · obtain ⟨k, rfl⟩ : ∃ k, j = t + 4 + 4 + 4 + 4 + k := ⟨j - (t + 4 + 4 + 4 + 4), by omega⟩
                  rw [r5 k (by omega), R5 k (by omega)]
  · refine ⟨-1, I, J, I, J, ?_, ?_, hI⟩
    · rw [xe_Ct_feed]
      simp only [xr_all, xf_all, if_true, if_false, true_or, or_true, eq_self, ite_not, Bool.false_eq_true, ite_self, and_self, true_and, and_true, false_and, and_false, not_true_eq_false, not_false_eq_true, xj_Ct_feed, xb_Ct_feed_0, xb_Ct_feed_14, xq_Tape_hasRoomFor ro 198 xv_SZ I J t t2 t1, hr]
    · rw [xe_Mo_feed]
      have hr1 : (260 < nI t + 20) = True := by rw [h1]; simp; omega
      have hr2 : (nI t + 20 ≤ 260) = False := by rw [show (20 : Int32) = nI 20 from rfl, show (260 : Int32) = nI 260 from rfl, nI_add, vn_le (by omega) (by omega)]; simp; omega
      simp only [xr_all, xf_all, if_true, if_false, true_or, or_true, eq_self, ite_not, Bool.false_eq_true, ite_self, and_self, true_and, and_true, false_and, and_false, not_true_eq_false, not_false_eq_true, xj_Mo_feed, xb_Mo_feed_0, xb_Mo_feed_15, t3, hr1, hr2]
