/-! PAIRS: answerIs, tears -/
theorem xr_sw (ro : xv_Ro) (d : Nat) (M : xv_M) (a b w : Nat) (v : Value) (ops : List xv_Op) (ls : xv_L) (st : List Value) (σ : xv_S) (df hi : Int) (os : Array Int) (k t : Nat) (o : Int) (hk : k < 2 ^ 31) (hh : (k : Int) ≤ hi) (ho : os[k]? = some o) (ht : ((a : Int) + o).toNat = t) : xv_ev ro d M ((.tableswitch df 0 hi os, a, b, w, v) :: ops) ls (.int (nI k) :: st) σ = xv_ev ro d M (xv_at M.2.2.2.2.2.2 t) ls st σ := by
  rw [xr_tsw, nI_toInt hk, if_neg (by omega), Int.sub_zero, Int.toNat_natCast, ho, xr_tk, ht]
theorem xr_swo (ro : xv_Ro) (d : Nat) (M : xv_M) (a b w : Nat) (v : Value) (ops : List xv_Op) (ls : xv_L) (st : List Value) (σ : xv_S) (df lo hi : Int) (os : Array Int) (x : Int32) (t : Nat) (hh : x.toInt < lo ∨ hi < x.toInt) (ht : ((a : Int) + df).toNat = t) : xv_ev ro d M ((.tableswitch df lo hi os, a, b, w, v) :: ops) ls (.int x :: st) σ = xv_ev ro d M (xv_at M.2.2.2.2.2.2 t) ls st σ := by
  rw [xr_tsw, if_pos hh, ht]
theorem xq_Answer_is (ro : xv_Ro) (d : Nat) (z : Nat × Nat) (I : Nat → Nat → Int32) (J : Nat → Nat → Int64) {o f : Nat} (ho : vN o) (hf : f < 7) (h2 : I o 2 = 0 ∨ I o 2 = 1) (h3 : I o 3 = 0 ∨ I o 3 = 1) : xv_evm ro d 154 [.ref o, .int (nI f)] (z, xv_mk I J) = some (some (.int (I o f)), (z, xv_mk I J)) := by
  rw [xe_Answer_is]
  unfold xb_Answer_is_0
  rw [xr_iload1]
  match f, hf with
  | 0, _ =>
    rw [xr_sw ro d xm_Answer_is _ _ _ _ _ _ _ _ 94 6 _ 0 44 43 (by omega) (by omega) rfl rfl]
    simp only [xr_all, xf_all, if_true, if_false, true_or, or_true, eq_self, ite_not, Bool.false_eq_true, ite_self, and_self, true_and, and_true, false_and, and_false, not_true_eq_false, not_false_eq_true, xj_Answer_is, xb_Answer_is_44, xb_Answer_is_49, xb_Answer_is_54, xb_Answer_is_65, xb_Answer_is_66, xb_Answer_is_67, xb_Answer_is_78, xb_Answer_is_79, xb_Answer_is_80, xb_Answer_is_85, xb_Answer_is_90, xb_Answer_is_95, vN_f ho]
  | 1, _ =>
    rw [xr_sw ro d xm_Answer_is _ _ _ _ _ _ _ _ 94 6 _ 1 49 48 (by omega) (by omega) rfl rfl]
    simp only [xr_all, xf_all, if_true, if_false, true_or, or_true, eq_self, ite_not, Bool.false_eq_true, ite_self, and_self, true_and, and_true, false_and, and_false, not_true_eq_false, not_false_eq_true, xj_Answer_is, xb_Answer_is_44, xb_Answer_is_49, xb_Answer_is_54, xb_Answer_is_65, xb_Answer_is_66, xb_Answer_is_67, xb_Answer_is_78, xb_Answer_is_79, xb_Answer_is_80, xb_Answer_is_85, xb_Answer_is_90, xb_Answer_is_95, vN_f ho]
  | 2, _ =>
    rw [xr_sw ro d xm_Answer_is _ _ _ _ _ _ _ _ 94 6 _ 2 54 53 (by omega) (by omega) rfl rfl]
    rcases h2 with h | h <;> simp only [xr_all, xf_all, if_true, if_false, true_or, or_true, eq_self, ite_not, Bool.false_eq_true, ite_self, and_self, true_and, and_true, false_and, and_false, not_true_eq_false, not_false_eq_true, xj_Answer_is, xb_Answer_is_44, xb_Answer_is_49, xb_Answer_is_54, xb_Answer_is_65, xb_Answer_is_66, xb_Answer_is_67, xb_Answer_is_78, xb_Answer_is_79, xb_Answer_is_80, xb_Answer_is_85, xb_Answer_is_90, xb_Answer_is_95, vN_f ho, h]
  | 3, _ =>
    rw [xr_sw ro d xm_Answer_is _ _ _ _ _ _ _ _ 94 6 _ 3 67 66 (by omega) (by omega) rfl rfl]
    rcases h3 with h | h <;> simp only [xr_all, xf_all, if_true, if_false, true_or, or_true, eq_self, ite_not, Bool.false_eq_true, ite_self, and_self, true_and, and_true, false_and, and_false, not_true_eq_false, not_false_eq_true, xj_Answer_is, xb_Answer_is_44, xb_Answer_is_49, xb_Answer_is_54, xb_Answer_is_65, xb_Answer_is_66, xb_Answer_is_67, xb_Answer_is_78, xb_Answer_is_79, xb_Answer_is_80, xb_Answer_is_85, xb_Answer_is_90, xb_Answer_is_95, vN_f ho, h]
  | 4, _ =>
    rw [xr_sw ro d xm_Answer_is _ _ _ _ _ _ _ _ 94 6 _ 4 80 79 (by omega) (by omega) rfl rfl]
    simp only [xr_all, xf_all, if_true, if_false, true_or, or_true, eq_self, ite_not, Bool.false_eq_true, ite_self, and_self, true_and, and_true, false_and, and_false, not_true_eq_false, not_false_eq_true, xj_Answer_is, xb_Answer_is_44, xb_Answer_is_49, xb_Answer_is_54, xb_Answer_is_65, xb_Answer_is_66, xb_Answer_is_67, xb_Answer_is_78, xb_Answer_is_79, xb_Answer_is_80, xb_Answer_is_85, xb_Answer_is_90, xb_Answer_is_95, vN_f ho]
  | 5, _ =>
    rw [xr_sw ro d xm_Answer_is _ _ _ _ _ _ _ _ 94 6 _ 5 85 84 (by omega) (by omega) rfl rfl]
    simp only [xr_all, xf_all, if_true, if_false, true_or, or_true, eq_self, ite_not, Bool.false_eq_true, ite_self, and_self, true_and, and_true, false_and, and_false, not_true_eq_false, not_false_eq_true, xj_Answer_is, xb_Answer_is_44, xb_Answer_is_49, xb_Answer_is_54, xb_Answer_is_65, xb_Answer_is_66, xb_Answer_is_67, xb_Answer_is_78, xb_Answer_is_79, xb_Answer_is_80, xb_Answer_is_85, xb_Answer_is_90, xb_Answer_is_95, vN_f ho]
  | 6, _ =>
    rw [xr_sw ro d xm_Answer_is _ _ _ _ _ _ _ _ 94 6 _ 6 90 89 (by omega) (by omega) rfl rfl]
    simp only [xr_all, xf_all, if_true, if_false, true_or, or_true, eq_self, ite_not, Bool.false_eq_true, ite_self, and_self, true_and, and_true, false_and, and_false, not_true_eq_false, not_false_eq_true, xj_Answer_is, xb_Answer_is_44, xb_Answer_is_49, xb_Answer_is_54, xb_Answer_is_65, xb_Answer_is_66, xb_Answer_is_67, xb_Answer_is_78, xb_Answer_is_79, xb_Answer_is_80, xb_Answer_is_85, xb_Answer_is_90, xb_Answer_is_95, vN_f ho]
  | f + 7, h => exact absurd h (by omega)
theorem xq_Answer_is_no (ro : xv_Ro) (d : Nat) (σ : xv_S) {o : Nat} {x : Int32} (h : ¬ ∃ f : Nat, f ≤ 6 ∧ x = nI f) : xv_evm ro d 154 [.ref o, .int x] σ = some (some (.int (-1)), σ) := by
  rw [xe_Answer_is]
  unfold xb_Answer_is_0
  rw [xr_iload1, xr_swo ro d xm_Answer_is _ _ _ _ _ _ _ _ 94 0 6 _ x 95 ?_ rfl]
  · simp only [xr_all, xf_all, if_true, if_false, true_or, or_true, eq_self, ite_not, Bool.false_eq_true, ite_self, and_self, true_and, and_true, false_and, and_false, not_true_eq_false, not_false_eq_true, xj_Answer_is, xb_Answer_is_44, xb_Answer_is_49, xb_Answer_is_54, xb_Answer_is_65, xb_Answer_is_66, xb_Answer_is_67, xb_Answer_is_78, xb_Answer_is_79, xb_Answer_is_80, xb_Answer_is_85, xb_Answer_is_90, xb_Answer_is_95]
  · rcases vn_cases x 7 (by omega) with q | q | ⟨j, hj, q⟩
    · left; rw [Int32.lt_iff_toInt_lt] at q; exact q
    · right
      rw [Int32.le_iff_toInt_le, nI_toInt (by omega)] at q
      omega
    · exact absurd ⟨j, by omega, q⟩ h
theorem xq_Archive_answer (ro : xv_Ro) (d : Nat) (z : Nat × Nat) (I : Nat → Nat → Int32) (J : Nat → Nat → Int64) {A n i : Nat} (hA : vAr A) (hn : I A 2 = nI n) (hn2 : n ≤ 20) (hi : i < n) : xv_evm ro d 161 [.ref A, .int (nI i)] (z, xv_mk I J) = some (some (.ref (A + 23 + i)), (z, xv_mk I J)) := by
  rw [xe_Archive_answer]
  have h1 : (nI i < 0) = False := vn_lt0 (by omega)
  have h2 : (nI n ≤ nI i) = False := by rw [vn_le (by omega) (by omega)]; simp; omega
  have h3 : (20 ≤ nI i) = False := by rw [show (20 : Int32) = nI 20 from rfl, vn_le (by omega) (by omega)]; simp; omega
  have h4 : xv_inB (nI i) 20 = true := vn_inB (by omega) (by omega)
  have m1 : A + 23 + 1 * i = A + 23 + i := by omega
  simp only [xr_all, xf_all, if_true, if_false, true_or, or_true, eq_self, ite_not, Bool.false_eq_true, ite_self, and_self, true_and, and_true, false_and, and_false, not_true_eq_false, not_false_eq_true, xj_Archive_answer, xb_Archive_answer_0, xb_Archive_answer_27, xb_Archive_answer_28, h1, hn, h2, h3, h4, vAr_f hA, nI_clamp (show i < 2 ^ 31 by omega), m1]
theorem xq_Archive_answer_no (ro : xv_Ro) (d : Nat) (z : Nat × Nat) (I : Nat → Nat → Int32) (J : Nat → Nat → Int64) {A n : Nat} (hA : vAr A) (hn : I A 2 = nI n) (hn2 : n ≤ 20) {x : Int32} (h : ¬ ∃ i : Nat, i < n ∧ x = nI i) : xv_evm ro d 161 [.ref A, .int x] (z, xv_mk I J) = some (some .null, (z, xv_mk I J)) := by
  rw [xe_Archive_answer]
  rcases vn_cases x n (by omega) with q | q | q
  · simp only [xr_all, xf_all, if_true, if_false, true_or, or_true, eq_self, ite_not, Bool.false_eq_true, ite_self, and_self, true_and, and_true, false_and, and_false, not_true_eq_false, not_false_eq_true, xj_Archive_answer, xb_Archive_answer_0, xb_Archive_answer_27, xb_Archive_answer_28, q]
  · by_cases h1 : x < 0
    · simp only [xr_all, xf_all, if_true, if_false, true_or, or_true, eq_self, ite_not, Bool.false_eq_true, ite_self, and_self, true_and, and_true, false_and, and_false, not_true_eq_false, not_false_eq_true, xj_Archive_answer, xb_Archive_answer_0, xb_Archive_answer_27, xb_Archive_answer_28, h1]
    · simp only [xr_all, xf_all, if_true, if_false, true_or, or_true, eq_self, ite_not, Bool.false_eq_true, ite_self, and_self, true_and, and_true, false_and, and_false, not_true_eq_false, not_false_eq_true, xj_Archive_answer, xb_Archive_answer_0, xb_Archive_answer_27, xb_Archive_answer_28, h1, vAr_f hA, hn, q]
  · exact absurd q h
theorem xp_12 (VL : xv_LP) (hV : vi_Lc VL) : xl_P12 (vi_all VL) := by
  intro x0 x1 ro I J hro hI
  obtain ⟨a1, a2, a3, ⟨⟨n, n1, n2, n3, n4⟩, -⟩, a5, a6, a7⟩ := id hI
  have h4 : xv_inB 301 304 = true := by decide
  have h5 : (301 : Int32).toNatClampNeg = 301 := by decide
  have hin : (0 ≤ x0 ∧ x0 ≤ nI n - 1) ↔ ∃ i : Nat, i < n ∧ x0 = nI i := by
    cases n with
    | zero =>
      constructor
      · rintro ⟨q1, q2⟩
        exfalso
        rw [nI_0, Int32.le_iff_toInt_le] at q2
        rw [Int32.le_iff_toInt_le] at q1
        have e : ((0 : Int32) - 1).toInt = -1 := by decide
        rw [e] at q2
        have e0 : (0 : Int32).toInt = 0 := by decide
        omega
      · rintro ⟨i, hi, -⟩; omega
    | succ n =>
      rw [nI_pred, vn_in (by omega)]
      constructor
      · rintro ⟨j, hj, q⟩; exact ⟨j, by omega, q⟩
      · rintro ⟨j, hj, q⟩; exact ⟨j, by omega, q⟩
  by_cases hi : ∃ i : Nat, i < n ∧ x0 = nI i
  · have hin1 : (0 ≤ x0 ∧ x0 ≤ nI n - 1) = True := eq_true (hin.mpr hi)
    obtain ⟨i, hi, rfl⟩ := hi
    obtain ⟨b1, b2, b3, b4, b5⟩ := n4 i hi
    have hN := vAr_N (A := 25) (Or.inl rfl) (show i < 20 by omega)
    have ha := xq_Archive_answer ro 198 xv_SZ I J (A := 25) (Or.inl rfl) n2 n1 hi
    by_cases hf : ∃ f : Nat, f ≤ 6 ∧ x1 = nI f
    · have hf1 : (0 ≤ x1 ∧ x1 ≤ 6) = True := eq_true ((vn_in (N := 6) (by omega)).mpr hf)
      obtain ⟨f, hf, rfl⟩ := hf
      refine ⟨I 168 (140 + 20 * f + i), I, J, I, J, ?_, ?_, hI⟩
      · rw [xe_Ct_answerIs]
        have hb := (a7 (25 + 23 + i)).2 (vN_f hN).2.2.2.2.2.2.2.2
        have his := xq_Answer_is ro 198 xv_SZ I J hN (show f < 7 by omega) hb.1 hb.2
        rw [b1 f (by omega)] at his
        simp only [xr_all, xf_all, if_true, if_false, true_or, or_true, eq_self, ite_not, Bool.false_eq_true, ite_self, and_self, true_and, and_true, false_and, and_false, not_true_eq_false, not_false_eq_true, xj_Ct_answerIs, xb_Ct_answerIs_0, xb_Ct_answerIs_17, xb_Ct_answerIs_22, ha, vN_f hN, his]
      · rw [xe_Mo_answerIs]
        have e1 : 140 + 20 * nI f + nI i = nI (140 + 20 * f + i) := by rw [show (140 : Int32) = nI 140 from rfl, show (20 : Int32) = nI 20 from rfl, pk_mul, nI_add, nI_add]
        have e2 : xv_inB (nI (140 + 20 * f + i)) 304 = true := vn_inB (by omega) (by omega)
        simp only [xr_all, xf_all, if_true, if_false, true_or, or_true, eq_self, ite_not, Bool.false_eq_true, ite_self, and_self, true_and, and_true, false_and, and_false, not_true_eq_false, not_false_eq_true, xj_Mo_answerIs, xb_Mo_answerIs_0, xb_Mo_answerIs_28, xb_Mo_answerIs_30, xq_Mo_in, h4, h5, n3, hin1, hf1, e1, e2, nI_clamp (show 140 + 20 * f + i < 2 ^ 31 by omega)]
    · have hf1 : (0 ≤ x1 ∧ x1 ≤ 6) = False := eq_false (fun q => hf ((vn_in (N := 6) (by omega)).mp q))
      refine ⟨-1, I, J, I, J, ?_, ?_, hI⟩
      · rw [xe_Ct_answerIs]
        simp only [xr_all, xf_all, if_true, if_false, true_or, or_true, eq_self, ite_not, Bool.false_eq_true, ite_self, and_self, true_and, and_true, false_and, and_false, not_true_eq_false, not_false_eq_true, xj_Ct_answerIs, xb_Ct_answerIs_0, xb_Ct_answerIs_17, xb_Ct_answerIs_22, ha, vN_f hN, xq_Answer_is_no ro 198 (xv_SZ, xv_mk I J) hf]
      · rw [xe_Mo_answerIs]
        simp only [xr_all, xf_all, if_true, if_false, true_or, or_true, eq_self, ite_not, Bool.false_eq_true, ite_self, and_self, true_and, and_true, false_and, and_false, not_true_eq_false, not_false_eq_true, xj_Mo_answerIs, xb_Mo_answerIs_0, xb_Mo_answerIs_28, xb_Mo_answerIs_30, xq_Mo_in, h4, h5, n3, hin1, hf1]
  · have hin1 : (0 ≤ x0 ∧ x0 ≤ nI n - 1) = False := eq_false (fun q => hi (hin.mp q))
    refine ⟨-1, I, J, I, J, ?_, ?_, hI⟩
    · rw [xe_Ct_answerIs]
      simp only [xr_all, xf_all, if_true, if_false, true_or, or_true, eq_self, ite_not, Bool.false_eq_true, ite_self, and_self, true_and, and_true, false_and, and_false, not_true_eq_false, not_false_eq_true, xj_Ct_answerIs, xb_Ct_answerIs_0, xb_Ct_answerIs_17, xb_Ct_answerIs_22, xq_Archive_answer_no ro 198 xv_SZ I J (A := 25) (Or.inl rfl) n2 n1 hi]
    · rw [xe_Mo_answerIs]
      simp only [xr_all, xf_all, if_true, if_false, true_or, or_true, eq_self, ite_not, Bool.false_eq_true, ite_self, and_self, true_and, and_true, false_and, and_false, not_true_eq_false, not_false_eq_true, xj_Mo_answerIs, xb_Mo_answerIs_0, xb_Mo_answerIs_28, xb_Mo_answerIs_30, xq_Mo_in, h4, h5, n3, hin1]
