/-! PAIR: onion (the class, all guards passed) -/
theorem xl_onG (ro : xv_Ro) (I : Nat → Nat → Int32) (J : Nat → Nat → Int64) {w n t : Nat} {b : Nat → Nat} (hw : w < 10) (hnt : n ≤ t) (t2 : I 1 1 = nI t) (tt : t ≤ 260) (tb : ∀ j, j < t → b j < 256 ∧ I 2 j = nI (b j)) (h3 : I (25 + 3 + 2 * w) 3 = 1) (n1 : 1 ≤ n) (n2 : n ≤ 60) : xv_evm ro 198 248 [.ref 1, .int (nI n), .int 1, .int 60] (xv_SZ, xv_mk I J) = some (some (.int 1), (xv_SZ, xv_mk (xv_u2 (xv_u2 (xv_u2 (xv_u2 I 1 1 0) 1 2 (nI n)) 1 3 0) 1 4 0) J)) ∧ xv_evm ro 198 262 [.ref 154, .ref (25 + 3 + 2 * w)] (xv_SZ, xv_mk (xv_u2 (xv_u2 (xv_u2 (xv_u2 I 1 1 0) 1 2 (nI n)) 1 3 0) 1 4 0) J) = some (none, (xv_SZ, xv_mk (vc_w (xv_u2 (xv_u2 (xv_u2 (xv_u2 I 1 1 0) 1 2 (nI n)) 1 3 0) 1 4 0) 154 (25 + 3 + 2 * w)) J)) ∧ tp_C b n 0 (vc_w (xv_u2 (xv_u2 (xv_u2 (xv_u2 I 1 1 0) 1 2 (nI n)) 1 3 0) 1 4 0) 154 (25 + 3 + 2 * w)) := by
  have e1 : (nI n < 1) = False := by (simp (disch := omega) only [vz_all, if_true, if_false, true_or, or_true, eq_self, ite_not, Bool.false_eq_true, ite_self, and_self, true_and, and_true, false_and, and_false, not_true_eq_false, not_false_eq_true, false_or, or_false])
  have e2 : (60 < nI n) = False := by (simp (disch := omega) only [vz_all, if_true, if_false, true_or, or_true, eq_self, ite_not, Bool.false_eq_true, ite_self, and_self, true_and, and_true, false_and, and_false, not_true_eq_false, not_false_eq_true, false_or, or_false])
  have e4 : (nI n ≤ I 1 1) = True := by rw [t2]; (simp (disch := omega) only [vz_all, if_true, if_false, true_or, or_true, eq_self, ite_not, Bool.false_eq_true, ite_self, and_self, true_and, and_true, false_and, and_false, not_true_eq_false, not_false_eq_true, false_or, or_false])
  have hcut := xq_cut ro 198 xv_SZ I J (nI n) 1 60 e1 e2 e4
  have hC : tp_C b n 0 (xv_u2 (xv_u2 (xv_u2 (xv_u2 I 1 1 0) 1 2 (nI n)) 1 3 0) 1 4 0) := ⟨by omega, Nat.zero_le _, by (repeat (first | rw [xu_ne2 (by omega)] | rw [xu_ne (by omega)] | rw [xu_eq])), by (repeat (first | rw [xu_ne2 (by omega)] | rw [xu_ne (by omega)] | rw [xu_eq])); rfl, xu_eq, fun j hj => by (repeat (first | rw [xu_ne2 (by omega)] | rw [xu_ne (by omega)] | rw [xu_eq])); exact tb j (by omega)⟩
  refine ⟨hcut, ?_, tp_Cc hC (fun j _ => ?_) ?_⟩
  · exact xq_Witness_copy ro 198 xv_SZ J (o := 154) (p := 25 + 3 + 2 * w) ⟨rfl, rfl⟩ (vAr_W (A := 25) (Or.inl rfl) hw) (by omega) (by omega) (by omega) _ (Or.inr (by rw [xu_ne (by omega), xu_ne (by omega), xu_ne (by omega), xu_ne (by omega)]; exact h3))
  · unfold vc_w
    rw [if_neg (by omega), if_neg (by omega)]
  · funext j
    unfold vc_w
    rw [if_neg (by omega), if_neg (by omega)]
