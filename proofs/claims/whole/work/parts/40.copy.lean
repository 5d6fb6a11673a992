/-! copies: of witnesses, answers, archives; of the model's rows -/
def vc_r (I : Nat → Nat → Int32) (A B n : Nat) : Nat → Nat → Int32 := fun a j => if a = A ∧ j < n then I B j else I a j
theorem vc_r0 (I : Nat → Nat → Int32) (A B : Nat) : vc_r I A B 0 = I := by
  funext a j; simp [vc_r]
theorem vc_rs (I : Nat → Nat → Int32) {A B : Nat} (h : A ≠ B) (n : Nat) : xv_u2 (vc_r I A B n) A n (vc_r I A B n B n) = vc_r I A B (n + 1) := by
  funext a j
  have hB : ¬ B = A := fun q => h q.symm
  simp only [xv_u2, vc_r, hB, false_and, if_false]
  by_cases h1 : a = A
  · by_cases h2 : j = n
    · subst h1; subst h2
      have : j < j + 1 := by omega
      simp [this]
    · by_cases h3 : j < n
      · have : j < n + 1 := by omega
        simp [h1, h2, h3, this]
      · have : ¬ j < n + 1 := by omega
        simp [h1, h2, h3, this]
  · simp [h1]
theorem vc_loop (ro : xv_Ro) (d : Nat) (z : Nat × Nat) (J : Nat → Nat → Int64) {A B : Nat} (hA : xv_ar A = some (0, 304)) (hB : xv_ar B = some (0, 304)) (h : A ≠ B) (I : Nat → Nat → Int32) : ∀ (n i : Nat), i + n = 304 → xv_ev ro d xm_Mo_copies xb_Mo_copies_2 [some (.ref B), some (.ref A), some (.int (nI i))] [] (z, xv_mk (vc_r I A B i) J) = some (none, (z, xv_mk (vc_r I A B 304) J)) := by
  intro n
  induction n with
  | zero =>
    intro i hi
    obtain rfl : i = 304 := by omega
    unfold xb_Mo_copies_2
    have h1 : (304 ≤ nI 304) = True := by decide
    simp only [xr_all, xf_all, if_true, if_false, true_or, or_true, eq_self, ite_not, Bool.false_eq_true, ite_self, and_self, true_and, and_true, false_and, and_false, not_true_eq_false, not_false_eq_true, xj_Mo_copies, xb_Mo_copies_0, xb_Mo_copies_21, h1]
  | succ n ih =>
    intro i hi
    rw [← ih (i + 1) (by omega)]
    conv => lhs; unfold xb_Mo_copies_2
    have h1 : (304 ≤ nI i) = False := by rw [show (304 : Int32) = nI 304 from rfl, vn_le (by omega) (by omega)]; simp; omega
    have h2 : xv_inB (nI i) 304 = true := vn_inB (by omega) (by omega)
    simp only [xr_all, xf_all, if_true, if_false, true_or, or_true, eq_self, ite_not, Bool.false_eq_true, ite_self, and_self, true_and, and_true, false_and, and_false, not_true_eq_false, not_false_eq_true, xj_Mo_copies, xb_Mo_copies_0, xb_Mo_copies_21, h1, h2, hA, hB, nI_clamp (show i < 2 ^ 31 by omega), vc_rs I h, nI_1]
theorem xq_Mo_copies (ro : xv_Ro) (d : Nat) (z : Nat × Nat) (J : Nat → Nat → Int64) {A B : Nat} (hA : xv_ar A = some (0, 304)) (hB : xv_ar B = some (0, 304)) (h : A ≠ B) (I : Nat → Nat → Int32) : xv_evm ro d 46 [.ref B, .ref A] (z, xv_mk I J) = some (none, (z, xv_mk (vc_r I A B 304) J)) := by
  rw [xe_Mo_copies]
  simp only [xr_all, xf_all, if_true, if_false, true_or, or_true, eq_self, ite_not, Bool.false_eq_true, ite_self, and_self, true_and, and_true, false_and, and_false, not_true_eq_false, not_false_eq_true, xj_Mo_copies, xb_Mo_copies_0, xb_Mo_copies_21]
  have := vc_loop ro d z J hA hB h I 304 0 (by omega)
  rw [vc_r0] at this
  exact this
/-- a witness copied -/
def vc_w (I : Nat → Nat → Int32) (o p : Nat) : Nat → Nat → Int32 := fun a j => if a = o ∧ 1 ≤ j ∧ j ≤ 3 then I p j else if a = o + 1 ∧ j < 12 then I (p + 1) j else I a j
theorem vc_wloop (ro : xv_Ro) (d : Nat) (z : Nat × Nat) (J : Nat → Nat → Int64) {o p : Nat} (ho : vW o) (hp : vW p) (h : o + 1 ≠ p + 1) (I : Nat → Nat → Int32) : ∀ (n i : Nat), i + n = 12 → xv_ev ro d xm_Witness_copy xb_Witness_copy_26 [some (.ref o), some (.ref p), some (.int (nI i))] [] (z, xv_mk (vc_r I (o + 1) (p + 1) i) J) = some (none, (z, xv_mk (vc_r I (o + 1) (p + 1) 12) J)) := by
  intro n
  induction n with
  | zero =>
    intro i hi
    obtain rfl : i = 12 := by omega
    unfold xb_Witness_copy_26
    have h1 : (12 ≤ nI 12) = True := by decide
    simp only [xr_all, xf_all, if_true, if_false, true_or, or_true, eq_self, ite_not, Bool.false_eq_true, ite_self, and_self, true_and, and_true, false_and, and_false, not_true_eq_false, not_false_eq_true, xj_Witness_copy, xb_Witness_copy_0, xb_Witness_copy_50, h1]
  | succ n ih =>
    intro i hi
    rw [← ih (i + 1) (by omega)]
    conv => lhs; unfold xb_Witness_copy_26
    have h1 : (12 ≤ nI i) = False := by rw [show (12 : Int32) = nI 12 from rfl, vn_le (by omega) (by omega)]; simp; omega
    have h2 : xv_inB (nI i) 12 = true := vn_inB (by omega) (by omega)
    simp only [xr_all, xf_all, if_true, if_false, true_or, or_true, eq_self, ite_not, Bool.false_eq_true, ite_self, and_self, true_and, and_true, false_and, and_false, not_true_eq_false, not_false_eq_true, xj_Witness_copy, xb_Witness_copy_0, xb_Witness_copy_50, h1, h2, vW_f ho, vW_f hp, nI_clamp (show i < 2 ^ 31 by omega), vc_rs I h, nI_1]
theorem xq_Witness_copy (ro : xv_Ro) (d : Nat) (z : Nat × Nat) (J : Nat → Nat → Int64) {o p : Nat} (ho : vW o) (hp : vW p) (h : o ≠ p) (h1 : o ≠ p + 1) (h2 : o + 1 ≠ p) (I : Nat → Nat → Int32) (hb : I p 3 = 0 ∨ I p 3 = 1) : xv_evm ro d 262 [.ref o, .ref p] (z, xv_mk I J) = some (none, (z, xv_mk (vc_w I o p) J)) := by
  rw [xe_Witness_copy]
  have hpo : ¬ p = o := fun q => h q.symm
  simp only [xr_all, xf_all, if_true, if_false, true_or, or_true, eq_self, ite_not, Bool.false_eq_true, ite_self, and_self, true_and, and_true, false_and, and_false, not_true_eq_false, not_false_eq_true, xj_Witness_copy, xb_Witness_copy_0, xb_Witness_copy_50, vW_f ho, vW_f hp, hb, xv_u2, hpo]
  have hl := vc_wloop ro d z J ho hp (by omega) (xv_u2 (xv_u2 (xv_u2 I o 3 (I p 3)) o 2 (I p 2)) o 1 (I p 1)) 12 0 (by omega)
  rw [vc_r0] at hl
  refine hl.trans ?_
  congr 3
  congr 1
  funext a j
  simp only [vc_r, vc_w, xv_u2]
  by_cases c1 : a = o
  · subst c1
    have e1 : ¬ a = a + 1 := by omega
    by_cases c2 : j = 1
    · subst c2; simp
    · by_cases c3 : j = 2
      · subst c3; simp
      · by_cases c4 : j = 3
        · subst c4; simp
        · have e2 : ¬ (1 ≤ j ∧ j ≤ 3) := by omega
          simp [c2, c3, c4, e2]
  · by_cases c5 : a = o + 1
    · have e3 : ¬ p + 1 = o := by omega
      simp [c1, c5, e3]
    · simp [c1, c5]
