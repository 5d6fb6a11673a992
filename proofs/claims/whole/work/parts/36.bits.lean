/-! bits of sets; the model's has, isWitness, isQuestion -/
theorem vb_63 : ∀ s, s < 64 → lN s &&& 63 = lN s := by decide +kernel
theorem vb_sm : ∀ s, s < 64 → ((lN s).toBitVec.smod 64).toNat = s := by decide +kernel
theorem vb_sm32 : ∀ s, s < 32 → (((nI s) &&& 31).toBitVec.smod 32).toNat = s := by decide +kernel
theorem vb_shr {m s : Nat} (hm : m < 2 ^ 63) (hs : s < 64) : lN m >>> lN s = lN (m / 2 ^ s) := by
  apply Int64.toInt_inj.mp
  have h2 : m / 2 ^ s ≤ m := Nat.div_le_self _ _
  show ((lN m).toBitVec.sshiftRight ((lN s).toBitVec.smod 64).toNat).toInt = _
  rw [vb_sm s hs, BitVec.toInt_sshiftRight]
  show (lN m).toInt >>> s = _
  rw [pk_lT hm, pk_lT (by omega), Int.shiftRight_eq_div_pow]
  rfl
theorem vb_nat {a : Nat} (ha : a < 2 ^ 63) : (lN a).toBitVec.toNat = a := by
  show (BitVec.ofNat 64 a).toNat = a
  rw [BitVec.toNat_ofNat]
  exact Nat.mod_eq_of_lt (by omega)
theorem vb_and1 {a : Nat} (ha : a < 2 ^ 63) : lN a &&& 1 = lN (a % 2) := by
  apply Int64.toBitVec_inj.mp
  apply BitVec.eq_of_toNat_eq
  rw [Int64.toBitVec_and, BitVec.toNat_and, vb_nat ha, vb_nat (by omega)]
  show a &&& 1 = _
  exact Nat.and_one_is_mod a
theorem vb_has {m s : Nat} (hm : m < 2 ^ 63) (hs : s < 64) : (lN m >>> ((nI s).toInt64 &&& 63)) &&& 1 = lN (m / 2 ^ s % 2) := by
  have h2 : m / 2 ^ s ≤ m := Nat.div_le_self _ _
  rw [nI_l (by omega), vb_63 s hs, vb_shr hm hs, vb_and1 (by omega)]
theorem vb_tb (m s : Nat) : (m.testBit s = true) = (m / 2 ^ s % 2 = 1) := by
  rw [Nat.testBit_eq_decide_div_mod_eq]; simp
theorem xq_Mo_has (ro : xv_Ro) (d : Nat) (σ : xv_S) {m s : Nat} (hm : m < 2 ^ 63) (hs : s < 64) : xv_evm ro d 44 [.long (lN m), .int (nI s)] σ = some (some (.int (xv_b (m.testBit s = true) inferInstance)), σ) := by
  rw [xe_Mo_has]
  have h := Nat.mod_two_eq_zero_or_one (m / 2 ^ s)
  simp only [xr_all, xf_all, if_true, if_false, true_or, or_true, eq_self, ite_not, Bool.false_eq_true, ite_self, and_self, true_and, and_true, false_and, and_false, not_true_eq_false, not_false_eq_true, xj_Mo_has, xb_Mo_has_0, xb_Mo_has_14, xb_Mo_has_15, vb_has hm hs]
  unfold xv_b
  rcases h with h | h
  · have h2 : lg_cmp (lN (m / 2 ^ s % 2)) 1 = -1 := by rw [h]; decide
    have h3 : ¬ m.testBit s = true := by rw [vb_tb]; omega
    have h4 : ¬ (-1 : Int32) = 0 := by decide
    simp only [h2, h3, h4, if_false, Bool.false_eq_true]
  · have h2 : lg_cmp (lN (m / 2 ^ s % 2)) 1 = 0 := by rw [h]; decide
    have h3 : m.testBit s = true := by rw [vb_tb]; omega
    simp only [h2, h3, if_true]
/-- 0 ≤ x ≤ N as a number -/
theorem vn_in {x : Int32} {N : Nat} (hN : N + 1 < 2 ^ 31) : (0 ≤ x ∧ x ≤ nI N) ↔ ∃ j : Nat, j ≤ N ∧ x = nI j := by
  constructor
  · rintro ⟨h1, h2⟩
    rcases vn_cases x (N + 1) (by omega) with q | q | ⟨j, hj, q⟩
    · exact absurd q (Int32.not_lt.mpr h1)
    · rw [← vn_gt hN] at q; exact absurd q (Int32.not_lt.mpr h2)
    · exact ⟨j, by omega, q⟩
  · rintro ⟨j, hj, rfl⟩
    exact ⟨nI_pos' (by omega), nI_le hj (by omega)⟩
theorem xq_Mo_isWitness (ro : xv_Ro) (d : Nat) (z : Nat × Nat) (I : Nat → Nat → Int32) (J : Nat → Nat → Int64) {m w : Nat} (hm : I 168 300 = nI m) (hm2 : m < 1024) (hw : w < 10) : xv_evm ro (d + 1) 47 [.ref 167, .int (nI w)] (z, xv_mk I J) = some (some (.int (xv_b (m.testBit w = true) inferInstance)), (z, xv_mk I J)) := by
  rw [xe_Mo_isWitness]
  have h1 : (0 ≤ nI w ∧ nI w ≤ 9) = True := eq_true ((vn_in (N := 9) (by omega)).mpr ⟨w, by omega, rfl⟩)
  have h2 : xv_inB 300 304 = true := by decide
  have h3 : (300 : Int32).toNatClampNeg = 300 := by decide
  simp only [xr_all, xf_all, if_true, if_false, true_or, or_true, eq_self, ite_not, Bool.false_eq_true, ite_self, and_self, true_and, and_true, false_and, and_false, not_true_eq_false, not_false_eq_true, xj_Mo_isWitness, xb_Mo_isWitness_0, xb_Mo_isWitness_30, xb_Mo_isWitness_31, xq_Mo_in, h1, h2, h3, hm, nI_l (show m < 2 ^ 31 by omega), xq_Mo_has ro d (z, xv_mk I J) (show m < 2 ^ 63 by omega) (show w < 64 by omega)]
  unfold xv_b
  by_cases h : m.testBit w = true <;> simp only [h, if_true, if_false, Bool.false_eq_true]
theorem xq_Mo_isWitness_no (ro : xv_Ro) (d : Nat) (σ : xv_S) {x : Int32} (h : ¬ ∃ j : Nat, j ≤ 9 ∧ x = nI j) : xv_evm ro (d + 1) 47 [.ref 167, .int x] σ = some (some (.int 0), σ) := by
  rw [xe_Mo_isWitness]
  have h1 : (0 ≤ x ∧ x ≤ 9) = False := eq_false (fun q => h ((vn_in (N := 9) (by omega)).mp q))
  simp only [xr_all, xf_all, if_true, if_false, true_or, or_true, eq_self, ite_not, Bool.false_eq_true, ite_self, and_self, true_and, and_true, false_and, and_false, not_true_eq_false, not_false_eq_true, xj_Mo_isWitness, xb_Mo_isWitness_0, xb_Mo_isWitness_30, xb_Mo_isWitness_31, xq_Mo_in, h1]
theorem xq_Mo_isQuestion (ro : xv_Ro) (d : Nat) (z : Nat × Nat) (I : Nat → Nat → Int32) (J : Nat → Nat → Int64) {m w : Nat} (hm : I 167 5 = nI m) (hm2 : m < 256) (hw : w < 8) : xv_evm ro (d + 1) 48 [.ref 167, .int (nI w)] (z, xv_mk I J) = some (some (.int (xv_b (m.testBit w = true) inferInstance)), (z, xv_mk I J)) := by
  rw [xe_Mo_isQuestion]
  have h1 : (0 ≤ nI w ∧ nI w ≤ 7) = True := eq_true ((vn_in (N := 7) (by omega)).mpr ⟨w, by omega, rfl⟩)
  simp only [xr_all, xf_all, if_true, if_false, true_or, or_true, eq_self, ite_not, Bool.false_eq_true, ite_self, and_self, true_and, and_true, false_and, and_false, not_true_eq_false, not_false_eq_true, xj_Mo_isQuestion, xb_Mo_isQuestion_0, xb_Mo_isQuestion_26, xb_Mo_isQuestion_27, xq_Mo_in, h1, hm, nI_l (show m < 2 ^ 31 by omega), xq_Mo_has ro d (z, xv_mk I J) (show m < 2 ^ 63 by omega) (show w < 64 by omega)]
  unfold xv_b
  by_cases h : m.testBit w = true <;> simp only [h, if_true, if_false, Bool.false_eq_true]
theorem xq_Mo_isQuestion_no (ro : xv_Ro) (d : Nat) (σ : xv_S) {x : Int32} (h : ¬ ∃ j : Nat, j ≤ 7 ∧ x = nI j) : xv_evm ro (d + 1) 48 [.ref 167, .int x] σ = some (some (.int 0), σ) := by
  rw [xe_Mo_isQuestion]
  have h1 : (0 ≤ x ∧ x ≤ 7) = False := eq_false (fun q => h ((vn_in (N := 7) (by omega)).mp q))
  simp only [xr_all, xf_all, if_true, if_false, true_or, or_true, eq_self, ite_not, Bool.false_eq_true, ite_self, and_self, true_and, and_true, false_and, and_false, not_true_eq_false, not_false_eq_true, xj_Mo_isQuestion, xb_Mo_isQuestion_0, xb_Mo_isQuestion_26, xb_Mo_isQuestion_27, xq_Mo_in, h1]
theorem xq_Mo_layerOf (ro : xv_Ro) (d : Nat) (z : Nat × Nat) (I : Nat → Nat → Int32) (J : Nat → Nat → Int64) {w i : Nat} (h : 12 * w + i < 304) : xv_evm ro d 50 [.ref 167, .int (nI w), .int (nI i)] (z, xv_mk I J) = some (some (.int (I 168 (12 * w + i))), (z, xv_mk I J)) := by
  rw [xe_Mo_layerOf]
  have h1 : 0 + 12 * nI w + nI i = nI (12 * w + i) := by rw [show (0 : Int32) = nI 0 from rfl, show (12 : Int32) = nI 12 from rfl, pk_mul, nI_add, nI_add, Nat.zero_add]
  have h2 : xv_inB (nI (12 * w + i)) 304 = true := vn_inB h (by omega)
  simp only [xr_all, xf_all, if_true, if_false, true_or, or_true, eq_self, ite_not, Bool.false_eq_true, ite_self, and_self, true_and, and_true, false_and, and_false, not_true_eq_false, not_false_eq_true, xj_Mo_layerOf, xb_Mo_layerOf_0, h1, h2, nI_clamp (show 12 * w + i < 2 ^ 31 by omega)]
