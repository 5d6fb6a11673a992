/-! onion: the model's end -/
theorem xl_on113 (ro : xv_Ro) (z : Nat × Nat) (J : Nat → Nat → Int64) (x2 x3 : Int32) {w L : Nat} {X : Nat → Int32} (hw : w < 10) (hL : L ≤ 12) : ∀ (k i : Nat) (M : Nat → Nat → Int32), i + k = L → M 167 37 = nI L → (∀ j, j < L → M 189 j = X j) → (∀ j, j < i → M 168 (12 * w + j) = X j) → ∃ V : Nat → Nat → Int32, xv_ev ro 199 xm_Mo_onion xb_Mo_onion_113 [some (.ref 167), some (.int (nI w)), some (.int x2), some (.int x3), some (.int (nI i))] [] (z, xv_mk M J) = some (some (.int (nI L)), (z, xv_mk V J)) ∧ (∀ a, a ≠ 168 → V a = M a) ∧ (∀ j, (j < 12 * w ∨ 12 * w + 12 ≤ j) → V 168 j = M 168 j) ∧ ∀ j, j < L → V 168 (12 * w + j) = X j := by
  intro k
  induction k with
  | zero =>
    intro i M hi h37 h189 h168
    obtain rfl : i = L := by omega
    have g1 : (nI i ≤ nI i) = True := by (simp (disch := omega) only [vz_all, if_true, if_false, true_or, or_true, eq_self, ite_not, Bool.false_eq_true, ite_self, and_self, true_and, and_true, false_and, and_false, not_true_eq_false, not_false_eq_true, false_or, or_false])
    refine ⟨M, ?_, fun _ _ => rfl, fun _ _ => rfl, h168⟩
    conv => lhs; unfold xb_Mo_onion_113
    simp only [xr_all, xf_all, if_true, if_false, true_or, or_true, eq_self, ite_not, Bool.false_eq_true, ite_self, and_self, true_and, and_true, false_and, and_false, not_true_eq_false, not_false_eq_true, xj_Mo_onion, xb_Mo_onion_0, xb_Mo_onion_26, xb_Mo_onion_28, xb_Mo_onion_78, xb_Mo_onion_79, xb_Mo_onion_97, xb_Mo_onion_149, h37, g1]
  | succ k ih =>
    intro i M hi h37 h189 h168
    have g1 : (nI L ≤ nI i) = False := by (simp (disch := omega) only [vz_all, if_true, if_false, true_or, or_true, eq_self, ite_not, Bool.false_eq_true, ite_self, and_self, true_and, and_true, false_and, and_false, not_true_eq_false, not_false_eq_true, false_or, or_false])
    have g2 : xv_inB (nI i) 12 = true := by (simp (disch := omega) only [vz_all, if_true, if_false, true_or, or_true, eq_self, ite_not, Bool.false_eq_true, ite_self, and_self, true_and, and_true, false_and, and_false, not_true_eq_false, not_false_eq_true, false_or, or_false])
    have g3 : xv_inB (nI (12 * w + i)) 304 = true := by (simp (disch := omega) only [vz_all, if_true, if_false, true_or, or_true, eq_self, ite_not, Bool.false_eq_true, ite_self, and_self, true_and, and_true, false_and, and_false, not_true_eq_false, not_false_eq_true, false_or, or_false])
    have e1 : 0 + 12 * nI w + nI i = nI (12 * w + i) := by
      rw [Int32.zero_add]; (simp (disch := omega) only [vz_all, if_true, if_false, true_or, or_true, eq_self, ite_not, Bool.false_eq_true, ite_self, and_self, true_and, and_true, false_and, and_false, not_true_eq_false, not_false_eq_true, false_or, or_false])
    have e2 : 12 * nI w + nI i = nI (12 * w + i) := by (simp (disch := omega) only [vz_all, if_true, if_false, true_or, or_true, eq_self, ite_not, Bool.false_eq_true, ite_self, and_self, true_and, and_true, false_and, and_false, not_true_eq_false, not_false_eq_true, false_or, or_false])
    have e3 : (0 : Int32) + 12 * nI w = 12 * nI w := Int32.zero_add _
    obtain ⟨V, a1, a2, a3, a4⟩ := ih (i + 1) (xv_u2 M 168 (12 * w + i) (X i)) (by omega) (by rw [xu_ne (by omega)]; exact h37) (fun j hj => by rw [xu_ne (by omega)]; exact h189 j hj) (fun j hj => by
      by_cases e : j = i
      · rw [e, xu_eq]
      · rw [xu_ne2 (by omega)]; exact h168 j (by omega))
    refine ⟨V, ?_, fun a ha => by rw [a2 a ha, xu_ne ha], fun j hj => by rw [a3 j hj, xu_ne2 (by omega)], a4⟩
    rw [← a1]
    conv => lhs; unfold xb_Mo_onion_113
    simp only [xr_all, xf_all, if_true, if_false, true_or, or_true, eq_self, ite_not, Bool.false_eq_true, ite_self, and_self, true_and, and_true, false_and, and_false, not_true_eq_false, not_false_eq_true, xj_Mo_onion, xb_Mo_onion_0, xb_Mo_onion_26, xb_Mo_onion_28, xb_Mo_onion_78, xb_Mo_onion_79, xb_Mo_onion_97, xb_Mo_onion_149, h37, g1, g2, g3, e3, e2, e1, nI_clamp (show i < 2 ^ 31 by omega), nI_clamp (show 12 * w + i < 2 ^ 31 by omega), h189 i (by omega), nI_1]
