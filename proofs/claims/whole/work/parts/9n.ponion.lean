/-! PAIR: onion (the class's copy, the model's start) -/
theorem xl_onB (ro : xv_Ro) (d : Nat) (z : Nat × Nat) (M : Nat → Nat → Int32) (J : Nat → Nat → Int64) (x : Int32) : xv_evm ro d 76 [.ref 167, .int x] (z, xv_mk M J) = some (none, (z, xv_mk (xv_u2 (xv_u2 (xv_u2 (xv_u2 M 167 8 0) 167 9 x) 167 13 0) 167 15 0) J)) := by
  rw [xe_Mo_beginsText]
  simp only [xr_all, xf_all, if_true, if_false, true_or, or_true, eq_self, ite_not, Bool.false_eq_true, ite_self, and_self, true_and, and_true, false_and, and_false, not_true_eq_false, not_false_eq_true, xj_Mo_beginsText, xb_Mo_beginsText_0]
theorem xl_onF (ro : xv_Ro) (d : Nat) (z : Nat × Nat) (I : Nat → Nat → Int32) (J : Nat → Nat → Int64) : xv_evm ro d 259 [.ref 1] (z, xv_mk I J) = some (some (.int (I 1 4)), (z, xv_mk I J)) := by
  rw [xe_Tape_fault]
  simp only [xr_all, xf_all, if_true, if_false, true_or, or_true, eq_self, ite_not, Bool.false_eq_true, ite_self, and_self, true_and, and_true, false_and, and_false, not_true_eq_false, not_false_eq_true, xj_Tape_fault, xb_Tape_fault_0]
theorem xl_onI (ro : xv_Ro) (d : Nat) (z : Nat × Nat) (I : Nat → Nat → Int32) (J : Nat → Nat → Int64) {v : Int32} (h : (I 1 4 = 0 ∧ v = 0) ∨ ((I 1 4 = 0) = False ∧ v = 1)) : xv_evm ro d 258 [.ref 1] (z, xv_mk I J) = some (some (.int v), (z, xv_mk I J)) := by
  rw [xe_Tape_isFaulty]
  rcases h with ⟨h, rfl⟩ | ⟨h, rfl⟩
  · simp only [xr_all, xf_all, if_true, if_false, true_or, or_true, eq_self, ite_not, Bool.false_eq_true, ite_self, and_self, true_and, and_true, false_and, and_false, not_true_eq_false, not_false_eq_true, xj_Tape_isFaulty, xb_Tape_isFaulty_0, xb_Tape_isFaulty_11, xb_Tape_isFaulty_12, h]
  · simp only [xr_all, xf_all, if_true, if_false, true_or, or_true, eq_self, ite_not, Bool.false_eq_true, ite_self, and_self, true_and, and_true, false_and, and_false, not_true_eq_false, not_false_eq_true, xj_Tape_isFaulty, xb_Tape_isFaulty_0, xb_Tape_isFaulty_11, xb_Tape_isFaulty_12, h]
