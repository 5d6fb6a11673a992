/-! small methods of the model -/
theorem xq_Mo_in (ro : xv_Ro) (d : Nat) (σ : xv_S) (v lo hi : Int32) : xv_evm ro d 40 [.int v, .int lo, .int hi] σ = some (some (.int (xv_b (lo ≤ v ∧ v ≤ hi) inferInstance)), σ) := by
  rw [xe_Mo_in]
  simp only [xr_all, xf_all, if_true, if_false, true_or, or_true, eq_self, ite_not, Bool.false_eq_true, ite_self, and_self, true_and, and_true, false_and, and_false, not_true_eq_false, not_false_eq_true, xj_Mo_in, xb_Mo_in_0, xb_Mo_in_14, xb_Mo_in_15]
  unfold xv_b
  by_cases h1 : v < lo
  · have h2 : ¬ lo ≤ v := Int32.not_le.mpr h1
    simp only [h1, h2, if_true, false_and, if_false]
  · have h2 : lo ≤ v := Int32.not_lt.mp h1
    by_cases h3 : hi < v
    · have h4 : ¬ v ≤ hi := Int32.not_le.mpr h3
      simp only [h1, h2, h3, h4, if_true, if_false, and_false]
    · have h4 : v ≤ hi := Int32.not_lt.mp h3
      simp only [h1, h2, h3, h4, if_true, if_false, and_self]
theorem xq_Mo_min (ro : xv_Ro) (d : Nat) (σ : xv_S) (a b : Int32) : xv_evm ro d 41 [.int a, .int b] σ = some (some (.int (if a < b then a else b)), σ) := by
  rw [xe_Mo_min]
  simp only [xr_all, xf_all, if_true, if_false, true_or, or_true, eq_self, ite_not, Bool.false_eq_true, ite_self, and_self, true_and, and_true, false_and, and_false, not_true_eq_false, not_false_eq_true, xj_Mo_min, xb_Mo_min_0, xb_Mo_min_9, xb_Mo_min_10]
  by_cases h : a < b
  · have : ¬ b ≤ a := Int32.not_le.mpr h
    simp only [h, this, if_true, if_false]
  · have : b ≤ a := Int32.not_lt.mp h
    simp only [h, this, if_true, if_false]
theorem xq_Mo_max (ro : xv_Ro) (d : Nat) (σ : xv_S) (a b : Int32) : xv_evm ro d 42 [.int a, .int b] σ = some (some (.int (if b < a then a else b)), σ) := by
  rw [xe_Mo_max]
  simp only [xr_all, xf_all, if_true, if_false, true_or, or_true, eq_self, ite_not, Bool.false_eq_true, ite_self, and_self, true_and, and_true, false_and, and_false, not_true_eq_false, not_false_eq_true, xj_Mo_max, xb_Mo_max_0, xb_Mo_max_9, xb_Mo_max_10]
  by_cases h : b < a
  · have : ¬ a ≤ b := Int32.not_le.mpr h
    simp only [h, this, if_true, if_false]
  · have : a ≤ b := Int32.not_lt.mp h
    simp only [h, this, if_true, if_false]
theorem xq_Mo_size (ro : xv_Ro) (d : Nat) (σ : xv_S) (a : Int32) : xv_evm ro d 43 [.int a] σ = some (some (.int (if a < 0 then -a else a)), σ) := by
  rw [xe_Mo_size]
  simp only [xr_all, xf_all, if_true, if_false, true_or, or_true, eq_self, ite_not, Bool.false_eq_true, ite_self, and_self, true_and, and_true, false_and, and_false, not_true_eq_false, not_false_eq_true, xj_Mo_size, xb_Mo_size_0, xb_Mo_size_9, xb_Mo_size_10]
  by_cases h : a < 0
  · have : ¬ 0 ≤ a := Int32.not_le.mpr h
    simp only [h, this, if_true, if_false]
  · have : 0 ≤ a := Int32.not_lt.mp h
    simp only [h, this, if_true, if_false]
theorem xq_Scales_believe (ro : xv_Ro) (d : Nat) (z : Nat × Nat) (I : Nat → Nat → Int32) (J : Nat → Nat → Int64) (i : Nat) (x : Int32) (hi : i < 5) : xv_evm ro d 234 [.ref 22, .int (nI i), .int x] (z, xv_mk I J) = some (none, (z, xv_mk (xv_u2 I 23 i x) J)) := by
  rw [xe_Scales_believe]
  have h1 : (nI i < 0) = False := vn_lt0 (by omega)
  have h2 : (5 ≤ nI i) = False := by rw [show (5 : Int32) = nI 5 from rfl, vn_le (by omega) (by omega)]; simp; omega
  have h3 : xv_inB (nI i) 5 = true := vn_inB hi (by omega)
  simp only [xr_all, xf_all, if_true, if_false, true_or, or_true, eq_self, ite_not, Bool.false_eq_true, ite_self, and_self, true_and, and_true, false_and, and_false, not_true_eq_false, not_false_eq_true, xj_Scales_believe, xb_Scales_believe_0, xb_Scales_believe_16, h1, h2, h3, nI_clamp (show i < 2 ^ 31 by omega)]
