/-! PAIR: count (its helpers) -/
theorem vo_step : ∀ i, i < 10 → ∀ m, m < 1024 → nI (m % 2 ^ i) ||| (if m.testBit i = true then (1 : Int32) <<< (nI i &&& 31) else 0) = nI (m % 2 ^ (i + 1)) := by decide +kernel
theorem vl_ones (ro : xv_Ro) (d : Nat) (z : Nat × Nat) (I : Nat → Nat → Int32) (J : Nat → Nat → Int64) {A m : Nat} (hA : vAr A) (hm : m < 1024) (hb : ∀ w, w < 10 → I (A + 3 + 2 * w) 3 = if m.testBit w then 1 else 0) : ∀ (k i : Nat), i + k = 10 → xv_ev ro (d + 1 + 1) xm_Archive_toldOnes xb_Archive_toldOnes_4 [some (.ref A), some (.int (nI (m % 2 ^ i))), some (.int (nI i))] [] (z, xv_mk I J) = some (some (.int (nI m)), (z, xv_mk I J)) := by
  intro k
  induction k with
  | zero =>
    intro i hi
    obtain rfl : i = 10 := by omega
    have h0 : m % 2 ^ 10 = m := Nat.mod_eq_of_lt (by omega)
    rw [h0]
    conv => lhs; unfold xb_Archive_toldOnes_4
    have h1 : (10 ≤ nI 10) = True := eq_true (by decide)
    simp only [xr_all, xf_all, if_true, if_false, true_or, or_true, eq_self, ite_not, Bool.false_eq_true, ite_self, and_self, true_and, and_true, false_and, and_false, not_true_eq_false, not_false_eq_true, xj_Archive_toldOnes, xb_Archive_toldOnes_0, xb_Archive_toldOnes_23, xb_Archive_toldOnes_26, xb_Archive_toldOnes_34, h1]
  | succ k ih =>
    intro i hi
    rw [← ih (i + 1) (by omega)]
    have hs := vo_step i (by omega) m hm
    conv => lhs; unfold xb_Archive_toldOnes_4
    have h1 : (10 ≤ nI i) = False := by rw [show (10 : Int32) = nI 10 from rfl, vn_le (by omega) (by omega)]; simp; omega
    by_cases c : m.testBit i = true
    · have ht := xq_told ro d z I J hA (show i < 10 by omega) (by rw [hb i (by omega), if_pos c])
      rw [if_pos c] at hs
      simp only [xr_all, xf_all, if_true, if_false, true_or, or_true, eq_self, ite_not, Bool.false_eq_true, ite_self, and_self, true_and, and_true, false_and, and_false, not_true_eq_false, not_false_eq_true, xj_Archive_toldOnes, xb_Archive_toldOnes_0, xb_Archive_toldOnes_23, xb_Archive_toldOnes_26, xb_Archive_toldOnes_34, vAr_f hA, h1, ht, hs, nI_1]
    · have ht := xq_told_no ro d z I J hA (nI i) (fun v hv q => by
        have : v = i := ((nI_eq (by omega) (by omega)).mp q).symm
        rw [this, hb i (by omega), if_neg c])
      rw [if_neg c] at hs
      simp only [xr_all, xf_all, if_true, if_false, true_or, or_true, eq_self, ite_not, Bool.false_eq_true, ite_self, and_self, true_and, and_true, false_and, and_false, not_true_eq_false, not_false_eq_true, xj_Archive_toldOnes, xb_Archive_toldOnes_0, xb_Archive_toldOnes_23, xb_Archive_toldOnes_26, xb_Archive_toldOnes_34, vAr_f hA, h1, ht, hs, nI_1]
theorem xq_toldOnes (ro : xv_Ro) (d : Nat) (z : Nat × Nat) (I : Nat → Nat → Int32) (J : Nat → Nat → Int64) {A m : Nat} (hA : vAr A) (hm : m < 1024) (hb : ∀ w, w < 10 → I (A + 3 + 2 * w) 3 = if m.testBit w then 1 else 0) : xv_evm ro (d + 1 + 1) 160 [.ref A] (z, xv_mk I J) = some (some (.int (nI m)), (z, xv_mk I J)) := by
  rw [xe_Archive_toldOnes]
  simp only [xr_all, xf_all, if_true, if_false, true_or, or_true, eq_self, ite_not, Bool.false_eq_true, ite_self, and_self, true_and, and_true, false_and, and_false, not_true_eq_false, not_false_eq_true, xj_Archive_toldOnes, xb_Archive_toldOnes_0, xb_Archive_toldOnes_23, xb_Archive_toldOnes_26, xb_Archive_toldOnes_34]
  have q := vl_ones ro d z I J hA hm hb 10 0 (by omega)
  rw [Nat.pow_zero, Nat.mod_one] at q
  exact q
theorem xq_Archive_week (ro : xv_Ro) (d : Nat) (z : Nat × Nat) (I : Nat → Nat → Int32) (J : Nat → Nat → Int64) {A : Nat} (hA : vAr A) : xv_evm ro d 164 [.ref A] (z, xv_mk I J) = some (some (.int (I A 3)), (z, xv_mk I J)) := by
  rw [xe_Archive_week]
  simp only [xr_all, xf_all, if_true, if_false, true_or, or_true, eq_self, ite_not, Bool.false_eq_true, ite_self, and_self, true_and, and_true, false_and, and_false, not_true_eq_false, not_false_eq_true, xj_Archive_week, xb_Archive_week_0, vAr_f hA]
theorem xq_Archive_drawn (ro : xv_Ro) (d : Nat) (z : Nat × Nat) (I : Nat → Nat → Int32) (J : Nat → Nat → Int64) {A : Nat} (hA : vAr A) : xv_evm ro d 165 [.ref A] (z, xv_mk I J) = some (some (.int (I A 4)), (z, xv_mk I J)) := by
  rw [xe_Archive_drawn]
  simp only [xr_all, xf_all, if_true, if_false, true_or, or_true, eq_self, ite_not, Bool.false_eq_true, ite_self, and_self, true_and, and_true, false_and, and_false, not_true_eq_false, not_false_eq_true, xj_Archive_drawn, xb_Archive_drawn_0, vAr_f hA]
