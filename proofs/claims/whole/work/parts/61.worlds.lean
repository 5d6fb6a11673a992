/-! worlds: the class's ints and the model's longs -/
theorem vq_tb (x : Int32) {i : Nat} (hi : i < 64) : (vq_L x).toBitVec.getLsbD i = x.toBitVec.getLsbD i := by
  show (BitVec.ofNat 64 x.toBitVec.toNat).getLsbD i = _
  rw [BitVec.getLsbD_ofNat]
  simp [hi, BitVec.getLsbD]
theorem vq_hi (x : Int32) {i : Nat} (hi : 32 ≤ i) : x.toBitVec.getLsbD i = false := BitVec.getLsbD_of_ge _ _ hi
theorem vq_m1 : ∀ i, i < 64 → (-1 : Int32).toBitVec.getLsbD i = decide (i < 32) := by decide +kernel
theorem vq_m1L : ∀ i, i < 64 → (-1 : Int64).toBitVec.getLsbD i = true := by decide +kernel
theorem vq_ev : ∀ i, i < 64 → (4294967295 : Int64).toBitVec.getLsbD i = decide (i < 32) := by decide +kernel
theorem vq_ext {x y : Int64} (h : ∀ i, i < 64 → x.toBitVec.getLsbD i = y.toBitVec.getLsbD i) : x = y := Int64.toBitVec_inj.mp (BitVec.eq_of_getLsbD_eq (fun i hi => h i hi))
theorem vq_and (x y : Int32) : vq_L x &&& vq_L y = vq_L (x &&& y) := by
  apply vq_ext
  intro i hi
  rw [Int64.toBitVec_and, BitVec.getLsbD_and, vq_tb x hi, vq_tb y hi, vq_tb _ hi, Int32.toBitVec_and, BitVec.getLsbD_and]
theorem vq_or (x y : Int32) : vq_L x ||| vq_L y = vq_L (x ||| y) := by
  apply vq_ext
  intro i hi
  rw [Int64.toBitVec_or, BitVec.getLsbD_or, vq_tb x hi, vq_tb y hi, vq_tb _ hi, Int32.toBitVec_or, BitVec.getLsbD_or]
theorem vq_xor (x y : Int32) : vq_L x ^^^ vq_L y = vq_L (x ^^^ y) := by
  apply vq_ext
  intro i hi
  rw [Int64.toBitVec_xor, BitVec.getLsbD_xor, vq_tb x hi, vq_tb y hi, vq_tb _ hi, Int32.toBitVec_xor, BitVec.getLsbD_xor]
theorem vq_andn (x y : Int32) : vq_L x &&& (vq_L y ^^^ -1) = vq_L (x &&& (y ^^^ -1)) := by
  apply vq_ext
  intro i hi
  rw [Int64.toBitVec_and, BitVec.getLsbD_and, Int64.toBitVec_xor, BitVec.getLsbD_xor, vq_tb x hi, vq_tb y hi, vq_tb _ hi, vq_m1L i hi, Int32.toBitVec_and, BitVec.getLsbD_and, Int32.toBitVec_xor, BitVec.getLsbD_xor, vq_m1 i hi]
  by_cases h : i < 32
  · simp [h]
  · rw [vq_hi x (by omega)]; simp
theorem vq_E : (4294967295 : Int64) = vq_L (-1) := by decide
theorem vq_not (x : Int32) : (4294967295 : Int64) &&& (vq_L x ^^^ -1) = vq_L (x ^^^ -1) := by
  rw [vq_E, vq_andn]
  congr 1
  apply Int32.toBitVec_inj.mp
  apply BitVec.eq_of_getLsbD_eq
  intro i hi
  rw [Int32.toBitVec_and, BitVec.getLsbD_and, vq_m1 i (by omega)]
  simp [hi]
theorem vq_l (x : Int32) : (4294967295 : Int64) &&& x.toInt64 = vq_L x := by
  apply vq_ext
  intro i hi
  rw [Int64.toBitVec_and, BitVec.getLsbD_and, vq_ev i hi, vq_tb x hi]
  show (decide (i < 32) && (x.toBitVec.signExtend 64).getLsbD i) = _
  rw [BitVec.getLsbD_signExtend]
  by_cases h : i < 32
  · simp [h, hi]
  · rw [vq_hi x (by omega)]; simp [h]
theorem vq_nn (x : Int32) : (x ^^^ -1) ^^^ -1 = x := by
  rw [Int32.xor_assoc, Int32.xor_self, Int32.xor_zero]
theorem vq_0 {x : Int32} : vq_L x = 0 ↔ x = 0 := by
  constructor
  · intro h
    apply Int32.toBitVec_inj.mp
    apply BitVec.eq_of_getLsbD_eq
    intro i hi
    rw [← vq_tb x (by omega), h]
    simp
  · intro h
    rw [h]; rfl
theorem vq_cmp (x : Int32) : (lg_cmp (vq_L x) 0 = 0) = (x = 0) := by
  apply propext
  rw [← vq_0 (x := x)]
  unfold lg_cmp
  constructor
  · intro h
    by_cases c : vq_L x = 0
    · exact c
    · rw [if_neg c] at h
      split at h
      · exact absurd h (by decide)
      · exact absurd h (by decide)
  · intro h
    rw [h]; rfl
/-! the worlds in which answers fit -/
def vf_f (I : Nat → Nat → Int32) (i : Nat) : Int32 := if I 168 (180 + i) = 1 then I 4 (I 168 (160 + i)).toNatClampNeg else I 4 (I 168 (160 + i)).toNatClampNeg ^^^ -1
def vf_w (I : Nat → Nat → Int32) (p : Nat → Bool) : Nat → Int32
  | 0 => -1
  | n + 1 => if p n = true then vf_w I p n &&& vf_f I n else vf_w I p n
theorem vf_w_c (I : Nat → Nat → Int32) {p q : Nat → Bool} {n : Nat} (h : ∀ i, i < n → p i = q i) : vf_w I p n = vf_w I q n := by
  induction n with
  | zero => rfl
  | succ n ih =>
    show (if p n = true then vf_w I p n &&& vf_f I n else vf_w I p n) = (if q n = true then vf_w I q n &&& vf_f I n else vf_w I q n)
    rw [ih (fun i hi => h i (by omega)), h n (by omega)]
theorem xq_Answer_fits (ro : xv_Ro) (d : Nat) (z : Nat × Nat) (I : Nat → Nat → Int32) (J : Nat → Nat → Int64) {n i : Nat} (h : ∀ i, i < n → (∀ f, f < 8 → I (25 + 23 + i) f = I 168 (140 + 20 * f + i)) ∧ (∃ w : Nat, w < 10 ∧ I 168 (140 + i) = nI w) ∧ (∃ k : Nat, k < 8 ∧ I 168 (160 + i) = nI k) ∧ (I 168 (180 + i) = 0 ∨ I 168 (180 + i) = 1) ∧ (I 168 (200 + i) = 0 ∨ I 168 (200 + i) = 1)) (hn : n ≤ 20) (hi : i < n) : xv_evm ro (d + 1) 153 [.ref (25 + 23 + i), .ref 3] (z, xv_mk I J) = some (some (.int (vf_f I i)), (z, xv_mk I J)) := by
  rw [xe_Answer_fits]
  obtain ⟨h1, -, ⟨k, k1, k2⟩, h3, -⟩ := h i hi
  have e1 : I (25 + 23 + i) 1 = nI k := (h1 1 (by omega)).trans k2
  have e2 : I (25 + 23 + i) 2 = I 168 (180 + i) := h1 2 (by omega)
  have hN := vAr_N (A := 25) (Or.inl rfl) (show i < 20 by omega)
  have e3 : vf_f I i = if I 168 (180 + i) = 1 then I 4 k else I 4 k ^^^ -1 := by unfold vf_f; rw [k2, nI_clamp (by omega)]
  have hh := xq_Questions_holds ro d z I J k1
  rcases h3 with h3 | h3
  · rw [h3] at e2 e3
    have z1 : ((0 : Int32) = 1) = False := eq_false (by decide)
    rw [e3]
    simp only [xr_all, xf_all, if_true, if_false, true_or, or_true, eq_self, ite_not, Bool.false_eq_true, ite_self, and_self, true_and, and_true, false_and, and_false, not_true_eq_false, not_false_eq_true, xj_Answer_fits, xb_Answer_fits_0, xb_Answer_fits_18, xb_Answer_fits_28, vN_f hN, e1, e2, hh, z1]
  · rw [h3] at e2 e3
    have z1 : ((1 : Int32) = 0) = False := eq_false (by decide)
    rw [e3]
    simp only [xr_all, xf_all, if_true, if_false, true_or, or_true, eq_self, ite_not, Bool.false_eq_true, ite_self, and_self, true_and, and_true, false_and, and_false, not_true_eq_false, not_false_eq_true, xj_Answer_fits, xb_Answer_fits_0, xb_Answer_fits_18, xb_Answer_fits_28, vN_f hN, e1, e2, hh, z1]
theorem xq_Mo_fitsOf (ro : xv_Ro) (d : Nat) (z : Nat × Nat) (I : Nat → Nat → Int32) (J : Nat → Nat → Int64) {i : Nat} (h : (∃ k : Nat, k < 8 ∧ I 168 (160 + i) = nI k) ∧ (I 168 (180 + i) = 0 ∨ I 168 (180 + i) = 1)) (hq : ∀ k, k < 8 → J 172 k = vq_L (I 4 k)) (hi : i < 20) : xv_evm ro d 118 [.ref 167, .int (nI i)] (z, xv_mk I J) = some (some (.long (vq_L (vf_f I i))), (z, xv_mk I J)) := by
  rw [xe_Mo_fitsOf]
  obtain ⟨⟨k, k1, k2⟩, h3⟩ := h
  have e3 : vf_f I i = if I 168 (180 + i) = 1 then I 4 k else I 4 k ^^^ -1 := by unfold vf_f; rw [k2, nI_clamp (by omega)]
  have g1 : 160 + nI i = nI (160 + i) := by (simp (disch := omega) only [vz_all, if_true, if_false, true_or, or_true, eq_self, ite_not, Bool.false_eq_true, ite_self, and_self, true_and, and_true, false_and, and_false, not_true_eq_false, not_false_eq_true, false_or, or_false])
  have g2 : 180 + nI i = nI (180 + i) := by (simp (disch := omega) only [vz_all, if_true, if_false, true_or, or_true, eq_self, ite_not, Bool.false_eq_true, ite_self, and_self, true_and, and_true, false_and, and_false, not_true_eq_false, not_false_eq_true, false_or, or_false])
  have g3 : xv_inB (nI (160 + i)) 304 = true := by (simp (disch := omega) only [vz_all, if_true, if_false, true_or, or_true, eq_self, ite_not, Bool.false_eq_true, ite_self, and_self, true_and, and_true, false_and, and_false, not_true_eq_false, not_false_eq_true, false_or, or_false])
  have g4 : xv_inB (nI (180 + i)) 304 = true := by (simp (disch := omega) only [vz_all, if_true, if_false, true_or, or_true, eq_self, ite_not, Bool.false_eq_true, ite_self, and_self, true_and, and_true, false_and, and_false, not_true_eq_false, not_false_eq_true, false_or, or_false])
  have g5 : xv_inB (nI k) 8 = true := by (simp (disch := omega) only [vz_all, if_true, if_false, true_or, or_true, eq_self, ite_not, Bool.false_eq_true, ite_self, and_self, true_and, and_true, false_and, and_false, not_true_eq_false, not_false_eq_true, false_or, or_false])
  rcases h3 with h3 | h3
  · have z1 : ((0 : Int32) = 1) = False := eq_false (by decide)
    rw [h3] at e3
    rw [e3]
    simp only [xr_all, xf_all, if_true, if_false, true_or, or_true, eq_self, ite_not, Bool.false_eq_true, ite_self, and_self, true_and, and_true, false_and, and_false, not_true_eq_false, not_false_eq_true, xj_Mo_fitsOf, xb_Mo_fitsOf_0, xb_Mo_fitsOf_34, xb_Mo_fitsOf_43, g1, g2, g3, g4, g5, nI_clamp (show 160 + i < 2 ^ 31 by omega), nI_clamp (show 180 + i < 2 ^ 31 by omega), nI_clamp (show k < 2 ^ 31 by omega), k2, h3, z1, hq k k1, vq_not]
  · rw [h3] at e3
    rw [e3]
    simp only [xr_all, xf_all, if_true, if_false, true_or, or_true, eq_self, ite_not, Bool.false_eq_true, ite_self, and_self, true_and, and_true, false_and, and_false, not_true_eq_false, not_false_eq_true, xj_Mo_fitsOf, xb_Mo_fitsOf_0, xb_Mo_fitsOf_34, xb_Mo_fitsOf_43, g1, g2, g3, g4, g5, nI_clamp (show 160 + i < 2 ^ 31 by omega), nI_clamp (show 180 + i < 2 ^ 31 by omega), nI_clamp (show k < 2 ^ 31 by omega), k2, h3, hq k k1]
theorem xq_fitting (ro : xv_Ro) (d : Nat) (z : Nat × Nat) (I : Nat → Nat → Int32) (J : Nat → Nat → Int64) {n s : Nat} (hn : I 25 2 = nI n) (hn2 : n ≤ 20) (h : ∀ i, i < n → (∀ f, f < 8 → I (25 + 23 + i) f = I 168 (140 + 20 * f + i)) ∧ (∃ w : Nat, w < 10 ∧ I 168 (140 + i) = nI w) ∧ (∃ k : Nat, k < 8 ∧ I 168 (160 + i) = nI k) ∧ (I 168 (180 + i) = 0 ∨ I 168 (180 + i) = 1) ∧ (I 168 (200 + i) = 0 ∨ I 168 (200 + i) = 1)) (hs : s < 2 ^ 31) : xv_evm ro (d + 1 + 1) 180 [.ref 25, .int (nI s), .ref 3] (z, xv_mk I J) = some (some (.int (vf_w I (fun i => s.testBit i) n)), (z, xv_mk I J)) := by
  rw [xe_Archive_fitting]
  have hf := @vAr_f 25 (Or.inl rfl)
  simp only [xr_all, xf_all, if_true, if_false, true_or, or_true, eq_self, ite_not, Bool.false_eq_true, ite_self, and_self, true_and, and_true, false_and, and_false, not_true_eq_false, not_false_eq_true, xj_Archive_fitting, xb_Archive_fitting_0, xb_Archive_fitting_45, xb_Archive_fitting_51]
  have hl := vz_iter (fun i => xv_ev ro (d + 1 + 1) xm_Archive_fitting xb_Archive_fitting_5 [some (.ref 25), some (.int (nI s)), some (.ref 3), some (.int (vf_w I (fun i => s.testBit i) i)), some (.int (nI i))] [] (z, xv_mk I J)) n (fun i hi => by
    have hw : vf_w I (fun i => s.testBit i) (i + 1) = if s.testBit i = true then vf_w I (fun i => s.testBit i) i &&& vf_f I i else vf_w I (fun i => s.testBit i) i := rfl
    have h1 : (nI n ≤ nI i) = False := by (simp (disch := omega) only [vz_all, if_true, if_false, true_or, or_true, eq_self, ite_not, Bool.false_eq_true, ite_self, and_self, true_and, and_true, false_and, and_false, not_true_eq_false, not_false_eq_true, false_or, or_false])
    have h2 : (20 ≤ nI i) = False := by (simp (disch := omega) only [vz_all, if_true, if_false, true_or, or_true, eq_self, ite_not, Bool.false_eq_true, ite_self, and_self, true_and, and_true, false_and, and_false, not_true_eq_false, not_false_eq_true, false_or, or_false])
    have h3 := vb_bit1 hs (show i < 32 by omega)
    have h4 : xv_inB (nI i) 20 = true := by (simp (disch := omega) only [vz_all, if_true, if_false, true_or, or_true, eq_self, ite_not, Bool.false_eq_true, ite_self, and_self, true_and, and_true, false_and, and_false, not_true_eq_false, not_false_eq_true, false_or, or_false])
    have m1 : 48 + 1 * i = 25 + 23 + i := by omega
    have hN := vAr_N (A := 25) (Or.inl rfl) (show i < 20 by omega)
    have hq := xq_Answer_fits ro d z I J h hn2 hi
    conv => lhs; unfold xb_Archive_fitting_5
    by_cases c : s.testBit i = true
    · rw [if_pos c] at hw
      have c2 := h3.trans (eq_true c)
      simp only [xr_all, xf_all, if_true, if_false, true_or, or_true, eq_self, ite_not, Bool.false_eq_true, ite_self, and_self, true_and, and_true, false_and, and_false, not_true_eq_false, not_false_eq_true, xj_Archive_fitting, xb_Archive_fitting_0, xb_Archive_fitting_45, xb_Archive_fitting_51, hn, h1, h2, c2, h4, nI_clamp (show i < 2 ^ 31 by omega), m1, vN_f hN, hq, nI_1, hw]
    · rw [if_neg c] at hw
      have c2 := h3.trans (eq_false c)
      simp only [xr_all, xf_all, if_true, if_false, true_or, or_true, eq_self, ite_not, Bool.false_eq_true, ite_self, and_self, true_and, and_true, false_and, and_false, not_true_eq_false, not_false_eq_true, xj_Archive_fitting, xb_Archive_fitting_0, xb_Archive_fitting_45, xb_Archive_fitting_51, hn, h1, h2, c2, nI_1, hw])
  have e0 : vf_w I (fun i => s.testBit i) 0 = -1 := rfl
  rw [e0, show nI 0 = (0 : Int32) from rfl] at hl
  rw [hl]
  generalize vf_w I (fun i => s.testBit i) n = W
  conv => lhs; unfold xb_Archive_fitting_5
  have h1 : (nI n ≤ nI n) = True := by (simp (disch := omega) only [vz_all, if_true, if_false, true_or, or_true, eq_self, ite_not, Bool.false_eq_true, ite_self, and_self, true_and, and_true, false_and, and_false, not_true_eq_false, not_false_eq_true, false_or, or_false])
  simp only [xr_all, xf_all, if_true, if_false, true_or, or_true, eq_self, ite_not, Bool.false_eq_true, ite_self, and_self, true_and, and_true, false_and, and_false, not_true_eq_false, not_false_eq_true, xj_Archive_fitting, xb_Archive_fitting_0, xb_Archive_fitting_45, xb_Archive_fitting_51, hn, h1]
theorem xq_Mo_fitsAll (ro : xv_Ro) (d : Nat) (z : Nat × Nat) (I : Nat → Nat → Int32) (J : Nat → Nat → Int64) {n s : Nat} (hn : I 168 301 = nI n) (hn2 : n ≤ 20) (h : ∀ i, i < n → (∃ k : Nat, k < 8 ∧ I 168 (160 + i) = nI k) ∧ (I 168 (180 + i) = 0 ∨ I 168 (180 + i) = 1)) (hq : ∀ k, k < 8 → J 172 k = vq_L (I 4 k)) (hs : s < 2 ^ 31) : xv_evm ro (d + 1) 119 [.ref 167, .int (nI s)] (z, xv_mk I J) = some (some (.long (vq_L (vf_w I (fun i => s.testBit i) n))), (z, xv_mk I J)) := by
  rw [xe_Mo_fitsAll]
  have g4 : xv_inB 301 304 = true := by decide
  have g5 : (301 : Int32).toNatClampNeg = 301 := by decide
  simp only [xr_all, xf_all, if_true, if_false, true_or, or_true, eq_self, ite_not, Bool.false_eq_true, ite_self, and_self, true_and, and_true, false_and, and_false, not_true_eq_false, not_false_eq_true, xj_Mo_fitsAll, xb_Mo_fitsAll_0, xb_Mo_fitsAll_33, xb_Mo_fitsAll_42, xb_Mo_fitsAll_48]
  have hl := vz_iter (fun i => xv_ev ro (d + 1) xm_Mo_fitsAll xb_Mo_fitsAll_7 [some (.ref 167), some (.int (nI s)), some (.long (vq_L (vf_w I (fun i => s.testBit i) i))), none, some (.int (nI i))] [] (z, xv_mk I J)) n (fun i hi => by
    have hw : vf_w I (fun i => s.testBit i) (i + 1) = if s.testBit i = true then vf_w I (fun i => s.testBit i) i &&& vf_f I i else vf_w I (fun i => s.testBit i) i := rfl
    have h1 : (nI n ≤ nI i) = False := by (simp (disch := omega) only [vz_all, if_true, if_false, true_or, or_true, eq_self, ite_not, Bool.false_eq_true, ite_self, and_self, true_and, and_true, false_and, and_false, not_true_eq_false, not_false_eq_true, false_or, or_false])
    have h3 := xq_Mo_has ro d (z, xv_mk I J) (m := s) (s := i) (by omega) (by omega)
    have h4 := xq_Mo_fitsOf ro d z I J (h i hi) hq (show i < 20 by omega)
    have z1 : ((1 : Int32) = 0) = False := eq_false (by decide)
    conv => lhs; unfold xb_Mo_fitsAll_7
    by_cases c : s.testBit i = true
    · rw [if_pos c] at hw
      rw [vz_b1 c] at h3
      simp only [xr_all, xf_all, if_true, if_false, true_or, or_true, eq_self, ite_not, Bool.false_eq_true, ite_self, and_self, true_and, and_true, false_and, and_false, not_true_eq_false, not_false_eq_true, xj_Mo_fitsAll, xb_Mo_fitsAll_0, xb_Mo_fitsAll_33, xb_Mo_fitsAll_42, xb_Mo_fitsAll_48, g4, g5, hn, h1, nI_l hs, h3, z1, h4, vq_and, nI_1, hw]
    · rw [if_neg c] at hw
      rw [vz_b0 c] at h3
      simp only [xr_all, xf_all, if_true, if_false, true_or, or_true, eq_self, ite_not, Bool.false_eq_true, ite_self, and_self, true_and, and_true, false_and, and_false, not_true_eq_false, not_false_eq_true, xj_Mo_fitsAll, xb_Mo_fitsAll_0, xb_Mo_fitsAll_33, xb_Mo_fitsAll_42, xb_Mo_fitsAll_48, g4, g5, hn, h1, nI_l hs, h3, nI_1, hw])
  have e0 : vf_w I (fun i => s.testBit i) 0 = -1 := rfl
  rw [e0, show nI 0 = (0 : Int32) from rfl] at hl
  rw [vq_E, hl]
  generalize vf_w I (fun i => s.testBit i) n = W
  conv => lhs; unfold xb_Mo_fitsAll_7
  have h1 : (nI n ≤ nI n) = True := by (simp (disch := omega) only [vz_all, if_true, if_false, true_or, or_true, eq_self, ite_not, Bool.false_eq_true, ite_self, and_self, true_and, and_true, false_and, and_false, not_true_eq_false, not_false_eq_true, false_or, or_false])
  simp only [xr_all, xf_all, if_true, if_false, true_or, or_true, eq_self, ite_not, Bool.false_eq_true, ite_self, and_self, true_and, and_true, false_and, and_false, not_true_eq_false, not_false_eq_true, xj_Mo_fitsAll, xb_Mo_fitsAll_0, xb_Mo_fitsAll_33, xb_Mo_fitsAll_42, xb_Mo_fitsAll_48, g4, g5, hn, h1]
theorem vh_sh : ∀ n, n ≤ 20 → (1 : Int32) <<< (nI n &&& 31) = nI (2 ^ n) := by decide +kernel
theorem vh_or (ro : xv_Ro) (d : Nat) (z : Nat × Nat) (I : Nat → Nat → Int32) (J : Nat → Nat → Int64) {n : Nat} (hn : I 25 2 = nI n) (hm : I 168 301 = nI n) (hn2 : n ≤ 20) (x : Int32) : (∃ s : Nat, s < 2 ^ n ∧ s < 2 ^ 20 ∧ x = nI s ∧ xv_evm ro d 162 [.ref 25, .int x] (z, xv_mk I J) = some (some (.int 1), (z, xv_mk I J)) ∧ xv_evm ro d 49 [.ref 167, .int x] (z, xv_mk I J) = some (some (.int 1), (z, xv_mk I J))) ∨ (xv_evm ro d 162 [.ref 25, .int x] (z, xv_mk I J) = some (some (.int 0), (z, xv_mk I J)) ∧ xv_evm ro d 49 [.ref 167, .int x] (z, xv_mk I J) = some (some (.int 0), (z, xv_mk I J))) := by
  have hp : 2 ^ n ≤ 2 ^ 20 := Nat.pow_le_pow_right (by omega) hn2
  have g4 : xv_inB 301 304 = true := by decide
  have g5 : (301 : Int32).toNatClampNeg = 301 := by decide
  rcases vn_cases x (2 ^ n) (by omega) with q | q | ⟨s, hs, rfl⟩
  · right
    constructor
    · rw [xe_Archive_has]
      simp only [xr_all, xf_all, if_true, if_false, true_or, or_true, eq_self, ite_not, Bool.false_eq_true, ite_self, and_self, true_and, and_true, false_and, and_false, not_true_eq_false, not_false_eq_true, xj_Archive_has, xb_Archive_has_0, xb_Archive_has_18, xb_Archive_has_19, q]
    · rw [xe_Mo_areAnswers]
      simp only [xr_all, xf_all, if_true, if_false, true_or, or_true, eq_self, ite_not, Bool.false_eq_true, ite_self, and_self, true_and, and_true, false_and, and_false, not_true_eq_false, not_false_eq_true, xj_Mo_areAnswers, xb_Mo_areAnswers_0, xb_Mo_areAnswers_22, xb_Mo_areAnswers_23, q]
  · right
    have q2 : ¬ x < 0 := by
      intro g
      have := nI_pos' (n := 2 ^ n) (by omega)
      (simp only [Int32.lt_iff_toInt_lt, Int32.le_iff_toInt_le, ← Int32.toInt_inj, vt_all] at *; omega)
    constructor
    · rw [xe_Archive_has]
      simp only [xr_all, xf_all, if_true, if_false, true_or, or_true, eq_self, ite_not, Bool.false_eq_true, ite_self, and_self, true_and, and_true, false_and, and_false, not_true_eq_false, not_false_eq_true, xj_Archive_has, xb_Archive_has_0, xb_Archive_has_18, xb_Archive_has_19, q2, hn, vh_sh n hn2, q]
    · rw [xe_Mo_areAnswers]
      simp only [xr_all, xf_all, if_true, if_false, true_or, or_true, eq_self, ite_not, Bool.false_eq_true, ite_self, and_self, true_and, and_true, false_and, and_false, not_true_eq_false, not_false_eq_true, xj_Mo_areAnswers, xb_Mo_areAnswers_0, xb_Mo_areAnswers_22, xb_Mo_areAnswers_23, q2, g4, g5, hm, vh_sh n hn2, q]
  · left
    refine ⟨s, hs, by omega, rfl, ?_, ?_⟩
    · rw [xe_Archive_has]
      simp only [xr_all, xf_all, if_true, if_false, true_or, or_true, eq_self, ite_not, Bool.false_eq_true, ite_self, and_self, true_and, and_true, false_and, and_false, not_true_eq_false, not_false_eq_true, xj_Archive_has, xb_Archive_has_0, xb_Archive_has_18, xb_Archive_has_19, hn, vh_sh n hn2]
      (simp (disch := omega) only [vz_all, if_true, if_false, true_or, or_true, eq_self, ite_not, Bool.false_eq_true, ite_self, and_self, true_and, and_true, false_and, and_false, not_true_eq_false, not_false_eq_true, false_or, or_false])
    · rw [xe_Mo_areAnswers]
      simp only [xr_all, xf_all, if_true, if_false, true_or, or_true, eq_self, ite_not, Bool.false_eq_true, ite_self, and_self, true_and, and_true, false_and, and_false, not_true_eq_false, not_false_eq_true, xj_Mo_areAnswers, xb_Mo_areAnswers_0, xb_Mo_areAnswers_22, xb_Mo_areAnswers_23, g4, g5, hm, vh_sh n hn2]
      (simp (disch := omega) only [vz_all, if_true, if_false, true_or, or_true, eq_self, ite_not, Bool.false_eq_true, ite_self, and_self, true_and, and_true, false_and, and_false, not_true_eq_false, not_false_eq_true, false_or, or_false])
