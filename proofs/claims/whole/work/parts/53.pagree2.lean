/-! PAIR: agree (the class's loop) -/
def vg_f (s : Nat → Int32) (x3 : Int32) : Option Nat → Option Nat → Int32
  | some a, some b => if x3 = 0 then (if s a = s b then 1 else 0) else (if s a = s b then 0 else 1)
  | some _, none => 0
  | none, _ => 0
def vg_t (I : Nat → Nat → Int32) (n : Nat) (x1 x2 x3 : Int32) (i : Nat) : Int32 := vg_f (fun j => I (25 + 23 + j) 2) x3 (vk_l (vk_p I 25 x1 (nI i)) n) (vk_l (vk_p I 25 x2 (nI i)) n)
theorem vl_agC (ro : xv_Ro) (z : Nat × Nat) (I : Nat → Nat → Int32) (J : Nat → Nat → Int64) {n : Nat} (hn : I 25 2 = nI n) (hn2 : n ≤ 20) (x1 x2 x3 : Int32) (hx3 : x3 = 0 ∨ x3 = 1) : ∀ (k i : Nat) (u v : Option Value), i + k = 8 → xv_ev ro 199 xm_Ct_agree xb_Ct_agree_44 [some (.ref 0), some (.int x1), some (.int x2), some (.int x3), some (.int (vs_sum (vg_t I n x1 x2 x3) i)), some (.int (nI i)), u, v] [] (z, xv_mk I J) = some (some (.int (vs_sum (vg_t I n x1 x2 x3) 8)), (z, xv_mk I J)) := by
  intro k
  induction k with
  | zero =>
    intro i u v hi
    obtain rfl : i = 8 := by omega
    conv => lhs; unfold xb_Ct_agree_44
    have h1 : (8 ≤ nI 8) = True := eq_true (by decide)
    simp only [xr_all, xf_all, if_true, if_false, true_or, or_true, eq_self, ite_not, Bool.false_eq_true, ite_self, and_self, true_and, and_true, false_and, and_false, not_true_eq_false, not_false_eq_true, xj_Ct_agree, xb_Ct_agree_0, xb_Ct_agree_36, xb_Ct_agree_38, xb_Ct_agree_100, xb_Ct_agree_101, xb_Ct_agree_107, xb_Ct_agree_113, h1]
  | succ k ih =>
    intro i u v hi
    have h1 : (8 ≤ nI i) = False := by rw [show (8 : Int32) = nI 8 from rfl, vn_le (by omega) (by omega)]; simp; omega
    have l1 := xq_lastOf ro 197 z I J (A := 25) (Or.inl rfl) hn hn2 x1 (nI i)
    have l2 := xq_lastOf ro 197 z I J (A := 25) (Or.inl rfl) hn hn2 x2 (nI i)
    have hs : vs_sum (vg_t I n x1 x2 x3) (i + 1) = vs_sum (vg_t I n x1 x2 x3) i + vg_t I n x1 x2 x3 i := rfl
    have ih1 := fun u v => ih (i + 1) u v (by omega)
    rw [hs] at ih1
    unfold vg_t at ih1
    rw [show (fun i => vg_f (fun j => I (25 + 23 + j) 2) x3 (vk_l (vk_p I 25 x1 (nI i)) n) (vk_l (vk_p I 25 x2 (nI i)) n)) = vg_t I n x1 x2 x3 from rfl] at ih1
    generalize vs_sum (vg_t I n x1 x2 x3) i = S at ih1 ⊢
    conv => lhs; unfold xb_Ct_agree_44
    cases q1 : vk_l (vk_p I 25 x1 (nI i)) n with
    | none =>
      rw [q1] at l1 ih1
      cases q2 : vk_l (vk_p I 25 x2 (nI i)) n with
      | none =>
        rw [q2] at l2 ih1
        simp only [vg_f, Int32.add_zero] at ih1
        simp only [xr_all, xf_all, if_true, if_false, true_or, or_true, eq_self, ite_not, Bool.false_eq_true, ite_self, and_self, true_and, and_true, false_and, and_false, not_true_eq_false, not_false_eq_true, xj_Ct_agree, xb_Ct_agree_0, xb_Ct_agree_36, xb_Ct_agree_38, xb_Ct_agree_100, xb_Ct_agree_101, xb_Ct_agree_107, xb_Ct_agree_113, h1, l1, l2, vk_v, nI_1, ih1]
      | some b =>
        rw [q2] at l2 ih1
        simp only [vg_f, Int32.add_zero] at ih1
        simp only [xr_all, xf_all, if_true, if_false, true_or, or_true, eq_self, ite_not, Bool.false_eq_true, ite_self, and_self, true_and, and_true, false_and, and_false, not_true_eq_false, not_false_eq_true, xj_Ct_agree, xb_Ct_agree_0, xb_Ct_agree_36, xb_Ct_agree_38, xb_Ct_agree_100, xb_Ct_agree_101, xb_Ct_agree_107, xb_Ct_agree_113, h1, l1, l2, vk_v, nI_1, ih1]
    | some a =>
      rw [q1] at l1 ih1
      cases q2 : vk_l (vk_p I 25 x2 (nI i)) n with
      | none =>
        rw [q2] at l2 ih1
        simp only [vg_f, Int32.add_zero] at ih1
        simp only [xr_all, xf_all, if_true, if_false, true_or, or_true, eq_self, ite_not, Bool.false_eq_true, ite_self, and_self, true_and, and_true, false_and, and_false, not_true_eq_false, not_false_eq_true, xj_Ct_agree, xb_Ct_agree_0, xb_Ct_agree_36, xb_Ct_agree_38, xb_Ct_agree_100, xb_Ct_agree_101, xb_Ct_agree_107, xb_Ct_agree_113, h1, l1, l2, vk_v, nI_1, ih1]
      | some b =>
        rw [q2] at l2 ih1
        have la := vk_l_lt q1
        have lb := vk_l_lt q2
        have Na := vAr_N (A := 25) (Or.inl rfl) (show a < 20 by omega)
        have Nb := vAr_N (A := 25) (Or.inl rfl) (show b < 20 by omega)
        have hk := xq_isLike ro 198 z I J Na Nb
        by_cases c : I (25 + 23 + a) 2 = I (25 + 23 + b) 2
        · have hb : xv_b (I (25 + 23 + a) 2 = I (25 + 23 + b) 2) inferInstance = 1 := by unfold xv_b; rw [if_pos c]
          rw [hb] at hk
          rcases hx3 with h0 | h0
          · simp only [vg_f, c, h0, if_true] at ih1
            simp only [xr_all, xf_all, if_true, if_false, true_or, or_true, eq_self, ite_not, Bool.false_eq_true, ite_self, and_self, true_and, and_true, false_and, and_false, not_true_eq_false, not_false_eq_true, xj_Ct_agree, xb_Ct_agree_0, xb_Ct_agree_36, xb_Ct_agree_38, xb_Ct_agree_100, xb_Ct_agree_101, xb_Ct_agree_107, xb_Ct_agree_113, h1, l1, l2, vk_v, vN_f Na, vN_f Nb, hk, h0, nI_1, ih1]
          · have z1 : ((1 : Int32) = 0) = False := eq_false (by decide)
            simp only [vg_f, c, h0, z1, if_true, if_false, Int32.add_zero] at ih1
            simp only [xr_all, xf_all, if_true, if_false, true_or, or_true, eq_self, ite_not, Bool.false_eq_true, ite_self, and_self, true_and, and_true, false_and, and_false, not_true_eq_false, not_false_eq_true, xj_Ct_agree, xb_Ct_agree_0, xb_Ct_agree_36, xb_Ct_agree_38, xb_Ct_agree_100, xb_Ct_agree_101, xb_Ct_agree_107, xb_Ct_agree_113, h1, l1, l2, vk_v, vN_f Na, vN_f Nb, hk, h0, nI_1, ih1]
        · have hb : xv_b (I (25 + 23 + a) 2 = I (25 + 23 + b) 2) inferInstance = 0 := by unfold xv_b; rw [if_neg c]
          rw [hb] at hk
          rcases hx3 with h0 | h0
          · simp only [vg_f, c, h0, if_true, if_false, Int32.add_zero] at ih1
            simp only [xr_all, xf_all, if_true, if_false, true_or, or_true, eq_self, ite_not, Bool.false_eq_true, ite_self, and_self, true_and, and_true, false_and, and_false, not_true_eq_false, not_false_eq_true, xj_Ct_agree, xb_Ct_agree_0, xb_Ct_agree_36, xb_Ct_agree_38, xb_Ct_agree_100, xb_Ct_agree_101, xb_Ct_agree_107, xb_Ct_agree_113, h1, l1, l2, vk_v, vN_f Na, vN_f Nb, hk, h0, nI_1, ih1]
          · have z1 : ((1 : Int32) = 0) = False := eq_false (by decide)
            simp only [vg_f, c, h0, z1, if_true, if_false] at ih1
            simp only [xr_all, xf_all, if_true, if_false, true_or, or_true, eq_self, ite_not, Bool.false_eq_true, ite_self, and_self, true_and, and_true, false_and, and_false, not_true_eq_false, not_false_eq_true, xj_Ct_agree, xb_Ct_agree_0, xb_Ct_agree_36, xb_Ct_agree_38, xb_Ct_agree_100, xb_Ct_agree_101, xb_Ct_agree_107, xb_Ct_agree_113, h1, l1, l2, vk_v, vN_f Na, vN_f Nb, hk, h0, nI_1, ih1]
