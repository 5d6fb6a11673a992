/-! PAIR: agree (lastOf, isLike) -/
theorem xq_lastOf (ro : xv_Ro) (d : Nat) (z : Nat × Nat) (I : Nat → Nat → Int32) (J : Nat → Nat → Int64) {A n : Nat} (hA : vAr A) (hn : I A 2 = nI n) (hn2 : n ≤ 20) (x y : Int32) : xv_evm ro (d + 1) 179 [.ref A, .int x, .int y] (z, xv_mk I J) = some (some (vk_v A (vk_l (vk_p I A x y) n)), (z, xv_mk I J)) := by
  rw [xe_Archive_lastOf]
  simp only [xr_all, xf_all, if_true, if_false, true_or, or_true, eq_self, ite_not, Bool.false_eq_true, ite_self, and_self, true_and, and_true, false_and, and_false, not_true_eq_false, not_false_eq_true, xj_Archive_lastOf, xb_Archive_lastOf_0, xb_Archive_lastOf_57, xb_Archive_lastOf_63]
  exact vl_lastC ro d z I J hA hn hn2 x y n 0 (by omega)
theorem xq_Mo_lastOf (ro : xv_Ro) (d : Nat) (z : Nat × Nat) (I : Nat → Nat → Int32) (J : Nat → Nat → Int64) {n : Nat} (hn : I 168 301 = nI n) (hn2 : n ≤ 20) (x y : Int32) : xv_evm ro d 125 [.ref 167, .int x, .int y] (z, xv_mk I J) = some (some (.int (vk_i (vk_l (vk_q I x y) n))), (z, xv_mk I J)) := by
  have g4 : xv_inB 301 304 = true := by decide
  have g5 : (301 : Int32).toNatClampNeg = 301 := by decide
  rw [xe_Mo_lastOf]
  simp only [xr_all, xf_all, if_true, if_false, true_or, or_true, eq_self, ite_not, Bool.false_eq_true, ite_self, and_self, true_and, and_true, false_and, and_false, not_true_eq_false, not_false_eq_true, xj_Mo_lastOf, xb_Mo_lastOf_0, xb_Mo_lastOf_45, xb_Mo_lastOf_51, g4, g5, hn]
  exact vl_lastM ro d z I J x y n hn2
theorem xq_isLike (ro : xv_Ro) (d : Nat) (z : Nat × Nat) (I : Nat → Nat → Int32) (J : Nat → Nat → Int64) {o p : Nat} (ho : vN o) (hp : vN p) : xv_evm ro d 152 [.ref o, .ref p] (z, xv_mk I J) = some (some (.int (xv_b (I o 2 = I p 2) inferInstance)), (z, xv_mk I J)) := by
  rw [xe_Answer_isLike]
  by_cases c : I o 2 = I p 2
  · have c0 : (I o 2 = I p 2) = True := eq_true c
    have hb : xv_b (I o 2 = I p 2) inferInstance = 1 := by unfold xv_b; rw [if_pos c]
    rw [hb]
    simp only [xr_all, xf_all, if_true, if_false, true_or, or_true, eq_self, ite_not, Bool.false_eq_true, ite_self, and_self, true_and, and_true, false_and, and_false, not_true_eq_false, not_false_eq_true, xj_Answer_isLike, xb_Answer_isLike_0, xb_Answer_isLike_15, xb_Answer_isLike_16, vN_f ho, vN_f hp, c0]
  · have c0 : (I o 2 = I p 2) = False := eq_false c
    have hb : xv_b (I o 2 = I p 2) inferInstance = 0 := by unfold xv_b; rw [if_neg c]
    rw [hb]
    simp only [xr_all, xf_all, if_true, if_false, true_or, or_true, eq_self, ite_not, Bool.false_eq_true, ite_self, and_self, true_and, and_true, false_and, and_false, not_true_eq_false, not_false_eq_true, xj_Answer_isLike, xb_Answer_isLike_0, xb_Answer_isLike_15, xb_Answer_isLike_16, vN_f ho, vN_f hp, c0]
