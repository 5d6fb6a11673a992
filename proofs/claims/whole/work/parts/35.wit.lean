/-! WITNESS: small methods of a witness and of an archive, for any of them -/
theorem xq_Witness_tell (ro : xv_Ro) (d : Nat) (z : Nat × Nat) (I : Nat → Nat → Int32) (J : Nat → Nat → Int64) {o : Nat} (h : Int32) (hw : vW o) : xv_evm ro d 261 [.ref o, .int h] (z, xv_mk I J) = some (none, (z, xv_mk (xv_u2 (xv_u2 (xv_u2 I o 3 1) o 2 h) o 1 0) J)) := by
  rw [xe_Witness_tell]
  simp only [xr_all, xf_all, if_true, if_false, true_or, or_true, eq_self, ite_not, Bool.false_eq_true, ite_self, and_self, true_and, and_true, false_and, and_false, not_true_eq_false, not_false_eq_true, xj_Witness_tell, xb_Witness_tell_0, vW_f hw]
theorem xq_Archive_call (ro : xv_Ro) (d : Nat) (z : Nat × Nat) (I : Nat → Nat → Int32) (J : Nat → Nat → Int64) {A w : Nat} (h : Int32) (hA : vAr A) (hw : w < 10) : xv_evm ro (d + 1) 158 [.ref A, .int (nI w), .int h] (z, xv_mk I J) = some (none, (z, xv_mk (xv_u2 (xv_u2 (xv_u2 I (A + 3 + 2 * w) 3 1) (A + 3 + 2 * w) 2 h) (A + 3 + 2 * w) 1 0) J)) := by
  rw [xe_Archive_call]
  have h1 : (nI w < 0) = False := vn_lt0 (by omega)
  have h2 : (10 ≤ nI w) = False := by rw [show (10 : Int32) = nI 10 from rfl, vn_le (by omega) (by omega)]; simp; omega
  have h3 : xv_inB (nI w) 10 = true := vn_inB hw (by omega)
  have hW := vAr_W hA hw
  simp only [xr_all, xf_all, if_true, if_false, true_or, or_true, eq_self, ite_not, Bool.false_eq_true, ite_self, and_self, true_and, and_true, false_and, and_false, not_true_eq_false, not_false_eq_true, xj_Archive_call, xb_Archive_call_0, xb_Archive_call_20, h1, h2, h3, vAr_f hA, nI_clamp (show w < 2 ^ 31 by omega), vW_f hW, xq_Witness_tell ro d z I J h hW]
