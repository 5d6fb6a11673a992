/-! PAIR: agree (the model's loop, the pair) -/
def vg_m (I : Nat → Nat → Int32) (n : Nat) (x1 x2 x3 : Int32) (i : Nat) : Int32 := vg_f (fun j => I 168 (180 + j)) x3 (vk_l (vk_q I x1 (nI i)) n) (vk_l (vk_q I x2 (nI i)) n)
theorem vl_agM (ro : xv_Ro) (z : Nat × Nat) (I : Nat → Nat → Int32) (J : Nat → Nat → Int64) {n : Nat} (hn : I 168 301 = nI n) (hn2 : n ≤ 20) (x1 x2 x3 : Int32) (hx3 : x3 = 0 ∨ x3 = 1) : ∀ (k i : Nat) (u v : Option Value), i + k = 8 → xv_ev ro 199 xm_Mo_agree xb_Mo_agree_41 [some (.ref 167), some (.int x1), some (.int x2), some (.int x3), some (.int (vs_sum (vg_m I n x1 x2 0) i)), some (.int (vs_sum (vg_m I n x1 x2 1) i)), some (.int (nI i)), u, v] [] (z, xv_mk I J) = some (some (.int (vs_sum (vg_m I n x1 x2 x3) 8)), (z, xv_mk I J)) := by
  intro k
  induction k with
  | zero =>
    intro i u v hi
    obtain rfl : i = 8 := by omega
    conv => lhs; unfold xb_Mo_agree_41
    have h1 : (8 ≤ nI 8) = True := eq_true (by decide)
    rcases hx3 with h0 | h0 <;> simp only [xr_all, xf_all, if_true, if_false, true_or, or_true, eq_self, ite_not, Bool.false_eq_true, ite_self, and_self, true_and, and_true, false_and, and_false, not_true_eq_false, not_false_eq_true, xj_Mo_agree, xb_Mo_agree_0, xb_Mo_agree_30, xb_Mo_agree_32, xb_Mo_agree_81, xb_Mo_agree_115, xb_Mo_agree_121, xb_Mo_agree_127, xb_Mo_agree_136, xb_Mo_agree_138, h1, h0]
  | succ k ih =>
    intro i u v hi
    have h1 : (8 ≤ nI i) = False := by rw [show (8 : Int32) = nI 8 from rfl, vn_le (by omega) (by omega)]; simp; omega
    have l1 := xq_Mo_lastOf ro 198 z I J hn hn2 x1 (nI i)
    have l2 := xq_Mo_lastOf ro 198 z I J hn hn2 x2 (nI i)
    have hs0 : vs_sum (vg_m I n x1 x2 0) (i + 1) = vs_sum (vg_m I n x1 x2 0) i + vg_f (fun j => I 168 (180 + j)) 0 (vk_l (vk_q I x1 (nI i)) n) (vk_l (vk_q I x2 (nI i)) n) := rfl
    have hs1 : vs_sum (vg_m I n x1 x2 1) (i + 1) = vs_sum (vg_m I n x1 x2 1) i + vg_f (fun j => I 168 (180 + j)) 1 (vk_l (vk_q I x1 (nI i)) n) (vk_l (vk_q I x2 (nI i)) n) := rfl
    have ih1 := fun u v => ih (i + 1) u v (by omega)
    rw [hs0, hs1] at ih1
    generalize vs_sum (vg_m I n x1 x2 0) i = S at ih1 ⊢
    generalize vs_sum (vg_m I n x1 x2 1) i = T at ih1 ⊢
    have z1 : ((1 : Int32) = 0) = False := eq_false (by decide)
    have zz : ((-1 : Int32) = -1) = True := eq_true rfl
    conv => lhs; unfold xb_Mo_agree_41
    cases q1 : vk_l (vk_q I x1 (nI i)) n with
    | none =>
      rw [q1] at l1 ih1
      cases q2 : vk_l (vk_q I x2 (nI i)) n with
      | none =>
        rw [q2] at l2 ih1
        simp only [vg_f, Int32.add_zero] at ih1
        simp only [xr_all, xf_all, if_true, if_false, true_or, or_true, eq_self, ite_not, Bool.false_eq_true, ite_self, and_self, true_and, and_true, false_and, and_false, not_true_eq_false, not_false_eq_true, xj_Mo_agree, xb_Mo_agree_0, xb_Mo_agree_30, xb_Mo_agree_32, xb_Mo_agree_81, xb_Mo_agree_115, xb_Mo_agree_121, xb_Mo_agree_127, xb_Mo_agree_136, xb_Mo_agree_138, h1, l1, l2, vk_i, nI_1, ih1]
      | some b =>
        rw [q2] at l2 ih1
        simp only [vg_f, Int32.add_zero] at ih1
        simp only [xr_all, xf_all, if_true, if_false, true_or, or_true, eq_self, ite_not, Bool.false_eq_true, ite_self, and_self, true_and, and_true, false_and, and_false, not_true_eq_false, not_false_eq_true, xj_Mo_agree, xb_Mo_agree_0, xb_Mo_agree_30, xb_Mo_agree_32, xb_Mo_agree_81, xb_Mo_agree_115, xb_Mo_agree_121, xb_Mo_agree_127, xb_Mo_agree_136, xb_Mo_agree_138, h1, l1, l2, vk_i, nI_1, ih1]
    | some a =>
      rw [q1] at l1 ih1
      have la := vk_l_lt q1
      have na : (nI a = -1) = False := eq_false (fun q => by have := vn_lt0 (n := a) (by omega); rw [q] at this; revert this; decide)
      cases q2 : vk_l (vk_q I x2 (nI i)) n with
      | none =>
        rw [q2] at l2 ih1
        simp only [vg_f, Int32.add_zero] at ih1
        simp only [xr_all, xf_all, if_true, if_false, true_or, or_true, eq_self, ite_not, Bool.false_eq_true, ite_self, and_self, true_and, and_true, false_and, and_false, not_true_eq_false, not_false_eq_true, xj_Mo_agree, xb_Mo_agree_0, xb_Mo_agree_30, xb_Mo_agree_32, xb_Mo_agree_81, xb_Mo_agree_115, xb_Mo_agree_121, xb_Mo_agree_127, xb_Mo_agree_136, xb_Mo_agree_138, h1, l1, l2, vk_i, na, nI_1, ih1]
      | some b =>
        rw [q2] at l2 ih1
        have lb := vk_l_lt q2
        have nb : (nI b = -1) = False := eq_false (fun q => by have := vn_lt0 (n := b) (by omega); rw [q] at this; revert this; decide)
        have e1 : 180 + nI a = nI (180 + a) := by rw [show (180 : Int32) = nI 180 from rfl, nI_add]
        have e2 : 180 + nI b = nI (180 + b) := by rw [show (180 : Int32) = nI 180 from rfl, nI_add]
        have h2 : xv_inB (nI (180 + a)) 304 = true := vn_inB (by omega) (by omega)
        have h3 : xv_inB (nI (180 + b)) 304 = true := vn_inB (by omega) (by omega)
        by_cases c : I 168 (180 + a) = I 168 (180 + b)
        · have c0 := eq_true c
          simp only [vg_f, c0, z1, if_true, if_false, Int32.add_zero] at ih1
          simp only [xr_all, xf_all, if_true, if_false, true_or, or_true, eq_self, ite_not, Bool.false_eq_true, ite_self, and_self, true_and, and_true, false_and, and_false, not_true_eq_false, not_false_eq_true, xj_Mo_agree, xb_Mo_agree_0, xb_Mo_agree_30, xb_Mo_agree_32, xb_Mo_agree_81, xb_Mo_agree_115, xb_Mo_agree_121, xb_Mo_agree_127, xb_Mo_agree_136, xb_Mo_agree_138, h1, l1, l2, vk_i, na, nb, e1, e2, h2, h3, nI_clamp (show 180 + a < 2 ^ 31 by omega), nI_clamp (show 180 + b < 2 ^ 31 by omega), c, nI_1, ih1]
        · have c0 := eq_false c
          simp only [vg_f, c0, z1, if_true, if_false, Int32.add_zero] at ih1
          simp only [xr_all, xf_all, if_true, if_false, true_or, or_true, eq_self, ite_not, Bool.false_eq_true, ite_self, and_self, true_and, and_true, false_and, and_false, not_true_eq_false, not_false_eq_true, xj_Mo_agree, xb_Mo_agree_0, xb_Mo_agree_30, xb_Mo_agree_32, xb_Mo_agree_81, xb_Mo_agree_115, xb_Mo_agree_121, xb_Mo_agree_127, xb_Mo_agree_136, xb_Mo_agree_138, h1, l1, l2, vk_i, na, nb, e1, e2, h2, h3, nI_clamp (show 180 + a < 2 ^ 31 by omega), nI_clamp (show 180 + b < 2 ^ 31 by omega), c0, nI_1, ih1]
