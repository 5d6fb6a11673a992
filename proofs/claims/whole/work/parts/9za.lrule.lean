/-! law: a rule, in both -/
def l_rf (I W : Nat → Nat → Int32) : Prop := (∀ a, a ≠ 1 → ¬ (13 ≤ a ∧ a ≤ 19) → W a = I a) ∧ ∀ j, j ≠ 3 → j ≠ 4 → W 1 j = I 1 j
theorem l_rfr (I : Nat → Nat → Int32) : l_rf I I := ⟨fun _ _ _ => rfl, fun _ _ _ => rfl⟩
theorem l_rft {I V W : Nat → Nat → Int32} (h1 : l_rf I V) (h2 : l_rf V W) : l_rf I W := ⟨fun a q1 q2 => (h2.1 a q1 q2).trans (h1.1 a q1 q2), fun j q1 q2 => (h2.2 j q1 q2).trans (h1.2 j q1 q2)⟩
theorem l_rfc {I W : Nat → Nat → Int32} (h : l_cf I W) : l_rf I W := ⟨fun a q1 q2 => h.1 a q1 (by omega) (by omega) (by omega), fun j q1 q2 => h.2.1 j q1 q2⟩
theorem xq_Law_size (ro : xv_Ro) (d : Nat) (z : Nat × Nat) (I : Nat → Nat → Int32) (J : Nat → Nat → Int64) : xv_evm ro d 206 [.ref 13] (z, xv_mk I J) = some (some (.int (I 13 7)), (z, xv_mk I J)) := by
  rw [xe_Law_size]
  simp only [xr_all, xf_all, if_true, if_false, true_or, or_true, eq_self, ite_not, Bool.false_eq_true, ite_self, and_self, true_and, and_true, false_and, and_false, not_true_eq_false, not_false_eq_true, xj_Law_size, xb_Law_size_0]
theorem xq_isFull (ro : xv_Ro) (d : Nat) (z : Nat × Nat) (I : Nat → Nat → Int32) (J : Nat → Nat → Int64) {r : Nat} (h : I 13 8 = nI r) (hr : r ≤ 16) : xv_evm ro d 205 [.ref 13] (z, xv_mk I J) = some (some (.int (if r = 16 then 1 else 0)), (z, xv_mk I J)) := by
  rw [xe_Law_isFull]
  by_cases c : r = 16
  · have g : (nI r < 16) = False := by (simp (disch := omega) only [vz_all, if_true, if_false, true_or, or_true, eq_self, ite_not, Bool.false_eq_true, ite_self, and_self, true_and, and_true, false_and, and_false, not_true_eq_false, not_false_eq_true, false_or, or_false])
    have g2 : (16 ≤ nI r) = True := by (simp (disch := omega) only [vz_all, if_true, if_false, true_or, or_true, eq_self, ite_not, Bool.false_eq_true, ite_self, and_self, true_and, and_true, false_and, and_false, not_true_eq_false, not_false_eq_true, false_or, or_false])
    rw [if_pos c]
    simp only [xr_all, xf_all, if_true, if_false, true_or, or_true, eq_self, ite_not, Bool.false_eq_true, ite_self, and_self, true_and, and_true, false_and, and_false, not_true_eq_false, not_false_eq_true, xj_Law_isFull, xb_Law_isFull_0, xb_Law_isFull_13, xb_Law_isFull_14, h, g, g2]
  · have g : (nI r < 16) = True := by (simp (disch := omega) only [vz_all, if_true, if_false, true_or, or_true, eq_self, ite_not, Bool.false_eq_true, ite_self, and_self, true_and, and_true, false_and, and_false, not_true_eq_false, not_false_eq_true, false_or, or_false])
    have g2 : (16 ≤ nI r) = False := by (simp (disch := omega) only [vz_all, if_true, if_false, true_or, or_true, eq_self, ite_not, Bool.false_eq_true, ite_self, and_self, true_and, and_true, false_and, and_false, not_true_eq_false, not_false_eq_true, false_or, or_false])
    rw [if_neg c]
    simp only [xr_all, xf_all, if_true, if_false, true_or, or_true, eq_self, ite_not, Bool.false_eq_true, ite_self, and_self, true_and, and_true, false_and, and_false, not_true_eq_false, not_false_eq_true, xj_Law_isFull, xb_Law_isFull_0, xb_Law_isFull_13, xb_Law_isFull_14, h, g, g2]
theorem xq_isKind (ro : xv_Ro) (d : Nat) (σ : xv_S) {k : Nat} (h : vl_ok k) : xv_evm ro d 209 [.int (nI k)] σ = some (some (.int 1), σ) := by
  rw [xe_Law_isKind]
  rcases h with rfl | rfl | rfl | rfl | rfl
  · have a1 : (nI 108 = 108) = True := eq_true rfl
    simp only [xr_all, xf_all, if_true, if_false, true_or, or_true, eq_self, ite_not, Bool.false_eq_true, ite_self, and_self, true_and, and_true, false_and, and_false, not_true_eq_false, not_false_eq_true, xj_Law_isKind, xb_Law_isKind_0, xb_Law_isKind_30, xb_Law_isKind_34, xb_Law_isKind_35, a1]
  · have a1 : (nI 99 = 108) = False := eq_false (by decide)
    have a2 : (nI 99 = 99) = True := eq_true rfl
    simp only [xr_all, xf_all, if_true, if_false, true_or, or_true, eq_self, ite_not, Bool.false_eq_true, ite_self, and_self, true_and, and_true, false_and, and_false, not_true_eq_false, not_false_eq_true, xj_Law_isKind, xb_Law_isKind_0, xb_Law_isKind_30, xb_Law_isKind_34, xb_Law_isKind_35, a1, a2]
  · have a1 : (nI 103 = 108) = False := eq_false (by decide)
    have a2 : (nI 103 = 99) = False := eq_false (by decide)
    have a3 : (nI 103 = 103) = True := eq_true rfl
    simp only [xr_all, xf_all, if_true, if_false, true_or, or_true, eq_self, ite_not, Bool.false_eq_true, ite_self, and_self, true_and, and_true, false_and, and_false, not_true_eq_false, not_false_eq_true, xj_Law_isKind, xb_Law_isKind_0, xb_Law_isKind_30, xb_Law_isKind_34, xb_Law_isKind_35, a1, a2, a3]
  · have a1 : (nI 121 = 108) = False := eq_false (by decide)
    have a2 : (nI 121 = 99) = False := eq_false (by decide)
    have a3 : (nI 121 = 103) = False := eq_false (by decide)
    have a4 : (nI 121 = 121) = True := eq_true rfl
    simp only [xr_all, xf_all, if_true, if_false, true_or, or_true, eq_self, ite_not, Bool.false_eq_true, ite_self, and_self, true_and, and_true, false_and, and_false, not_true_eq_false, not_false_eq_true, xj_Law_isKind, xb_Law_isKind_0, xb_Law_isKind_30, xb_Law_isKind_34, xb_Law_isKind_35, a1, a2, a3, a4]
  · have a1 : (nI 98 = 108) = False := eq_false (by decide)
    have a2 : (nI 98 = 99) = False := eq_false (by decide)
    have a3 : (nI 98 = 103) = False := eq_false (by decide)
    have a4 : (nI 98 = 121) = False := eq_false (by decide)
    have a5 : (nI 98 = 98) = True := eq_true rfl
    simp only [xr_all, xf_all, if_true, if_false, true_or, or_true, eq_self, ite_not, Bool.false_eq_true, ite_self, and_self, true_and, and_true, false_and, and_false, not_true_eq_false, not_false_eq_true, xj_Law_isKind, xb_Law_isKind_0, xb_Law_isKind_30, xb_Law_isKind_34, xb_Law_isKind_35, a1, a2, a3, a4, a5]
/-- no rule's letter stands there -/
def l_nk (b : Nat → Nat) (n p : Nat) : Prop := p < n → ¬ vl_ok (b p)
theorem l_nk5 {b : Nat → Nat} {n p : Nat} (hb : p < n → b p < 256) (h : l_nk b n p) : (tp_c b n p = 108) = False ∧ (tp_c b n p = 99) = False ∧ (tp_c b n p = 103) = False ∧ (tp_c b n p = 121) = False ∧ (tp_c b n p = 98) = False := by
  have hno : ∀ c, c < 256 → vl_ok c → (tp_c b n p = nI c) = False := fun c hc hk => l_ne_c hb hc (fun q1 q2 => h q1 (by rw [q2]; exact hk))
  exact ⟨hno 108 (by omega) (Or.inl rfl), hno 99 (by omega) (Or.inr (Or.inl rfl)), hno 103 (by omega) (Or.inr (Or.inr (Or.inl rfl))), hno 121 (by omega) (Or.inr (Or.inr (Or.inr (Or.inl rfl)))), hno 98 (by omega) (Or.inr (Or.inr (Or.inr (Or.inr rfl))))⟩
theorem xq_isKind_no (ro : xv_Ro) (d : Nat) (σ : xv_S) {b : Nat → Nat} {n p : Nat} (hb : p < n → b p < 256) (h : l_nk b n p) : xv_evm ro d 209 [.int (tp_c b n p)] σ = some (some (.int 0), σ) := by
  obtain ⟨a1, a2, a3, a4, a5⟩ := l_nk5 hb h
  rw [xe_Law_isKind]
  simp only [xr_all, xf_all, if_true, if_false, true_or, or_true, eq_self, ite_not, Bool.false_eq_true, ite_self, and_self, true_and, and_true, false_and, and_false, not_true_eq_false, not_false_eq_true, xj_Law_isKind, xb_Law_isKind_0, xb_Law_isKind_30, xb_Law_isKind_34, xb_Law_isKind_35, a1, a2, a3, a4, a5]
theorem xq_addRule_any (ro : xv_Ro) (d : Nat) (z : Nat × Nat) (I : Nat → Nat → Int32) (J : Nat → Nat → Int64) (k s t : Int32) : ∃ W, xv_evm ro d 208 [.ref 13, .int k, .int s, .int t] (z, xv_mk I J) = some (none, (z, xv_mk W J)) ∧ l_rf I W ∧ W 1 = I 1 := by
  rw [xe_Law_addRule]
  by_cases c1 : I 13 8 < 0
  · exact ⟨I, by simp only [xr_all, xf_all, if_true, if_false, true_or, or_true, eq_self, ite_not, Bool.false_eq_true, ite_self, and_self, true_and, and_true, false_and, and_false, not_true_eq_false, not_false_eq_true, xj_Law_addRule, xb_Law_addRule_0, xb_Law_addRule_69, c1], l_rfr I, rfl⟩
  · by_cases c2 : 16 ≤ I 13 8
    · exact ⟨I, by simp only [xr_all, xf_all, if_true, if_false, true_or, or_true, eq_self, ite_not, Bool.false_eq_true, ite_self, and_self, true_and, and_true, false_and, and_false, not_true_eq_false, not_false_eq_true, xj_Law_addRule, xb_Law_addRule_0, xb_Law_addRule_69, c1, c2], l_rfr I, rfl⟩
    · have g := l_inB (n := 16) c1 c2 (by omega)
      have r1 : ∀ a k y j, a ≠ 13 → xv_u2 I a k y 13 j = I 13 j := fun a k y j h => by rw [xu_ne (fun q => h q.symm)]
      refine ⟨xv_u2 (xv_u2 (xv_u2 (xv_u2 (xv_u2 I 16 (I 13 8).toNatClampNeg k) 17 (I 13 8).toNatClampNeg s) 18 (I 13 8).toNatClampNeg t) 19 (I 13 8).toNatClampNeg (I 13 7)) 13 8 (I 13 8 + 1), ?_, ⟨fun a q1 q2 => by (repeat (first | rw [xu_ne2 (by omega)] | rw [xu_ne (by omega)] | rw [xu_eq])), fun j q1 q2 => by (repeat (first | rw [xu_ne2 (by omega)] | rw [xu_ne (by omega)] | rw [xu_eq]))⟩, by (repeat (first | rw [xu_ne2 (by omega)] | rw [xu_ne (by omega)] | rw [xu_eq]))⟩
      have e1 : ∀ x, xv_u2 I 16 (I 13 8).toNatClampNeg x 13 8 = I 13 8 := fun x => by (repeat (first | rw [xu_ne2 (by omega)] | rw [xu_ne (by omega)] | rw [xu_eq]))
      have e2 : ∀ x y, xv_u2 (xv_u2 I 16 (I 13 8).toNatClampNeg x) 17 (I 13 8).toNatClampNeg y 13 8 = I 13 8 := fun x y => by (repeat (first | rw [xu_ne2 (by omega)] | rw [xu_ne (by omega)] | rw [xu_eq]))
      have e3 : ∀ x y w, xv_u2 (xv_u2 (xv_u2 I 16 (I 13 8).toNatClampNeg x) 17 (I 13 8).toNatClampNeg y) 18 (I 13 8).toNatClampNeg w 13 8 = I 13 8 := fun x y w => by (repeat (first | rw [xu_ne2 (by omega)] | rw [xu_ne (by omega)] | rw [xu_eq]))
      have e4 : ∀ x y w, xv_u2 (xv_u2 (xv_u2 I 16 (I 13 8).toNatClampNeg x) 17 (I 13 8).toNatClampNeg y) 18 (I 13 8).toNatClampNeg w 13 7 = I 13 7 := fun x y w => by (repeat (first | rw [xu_ne2 (by omega)] | rw [xu_ne (by omega)] | rw [xu_eq]))
      have e5 : ∀ x y w v, xv_u2 (xv_u2 (xv_u2 (xv_u2 I 16 (I 13 8).toNatClampNeg x) 17 (I 13 8).toNatClampNeg y) 18 (I 13 8).toNatClampNeg w) 19 (I 13 8).toNatClampNeg v 13 8 = I 13 8 := fun x y w v => by (repeat (first | rw [xu_ne2 (by omega)] | rw [xu_ne (by omega)] | rw [xu_eq]))
      simp only [xr_all, xf_all, if_true, if_false, true_or, or_true, eq_self, ite_not, Bool.false_eq_true, ite_self, and_self, true_and, and_true, false_and, and_false, not_true_eq_false, not_false_eq_true, xj_Law_addRule, xb_Law_addRule_0, xb_Law_addRule_69, c1, c2, g, e1, e2, e3, e4, e5]
theorem xq_addRule (ro : xv_Ro) (d : Nat) (z : Nat × Nat) (I : Nat → Nat → Int32) (J : Nat → Nat → Int64) {r : Nat} (hr : I 13 8 = nI r) (h : r < 16) (k s t : Int32) : xv_evm ro d 208 [.ref 13, .int k, .int s, .int t] (z, xv_mk I J) = some (none, (z, xv_mk (xv_u2 (xv_u2 (xv_u2 (xv_u2 (xv_u2 I 16 r k) 17 r s) 18 r t) 19 r (I 13 7)) 13 8 (nI (r + 1))) J)) := by
  have g1 : (nI r < 0) = False := by (simp (disch := omega) only [vz_all, if_true, if_false, true_or, or_true, eq_self, ite_not, Bool.false_eq_true, ite_self, and_self, true_and, and_true, false_and, and_false, not_true_eq_false, not_false_eq_true, false_or, or_false])
  have g2 : (16 ≤ nI r) = False := by (simp (disch := omega) only [vz_all, if_true, if_false, true_or, or_true, eq_self, ite_not, Bool.false_eq_true, ite_self, and_self, true_and, and_true, false_and, and_false, not_true_eq_false, not_false_eq_true, false_or, or_false])
  have g3 : xv_inB (nI r) 16 = true := by (simp (disch := omega) only [vz_all, if_true, if_false, true_or, or_true, eq_self, ite_not, Bool.false_eq_true, ite_self, and_self, true_and, and_true, false_and, and_false, not_true_eq_false, not_false_eq_true, false_or, or_false])
  have e1 : ∀ x, xv_u2 I 16 r x 13 8 = nI r := fun x => by rw [← hr]; (repeat (first | rw [xu_ne2 (by omega)] | rw [xu_ne (by omega)] | rw [xu_eq]))
  have e2 : ∀ x y, xv_u2 (xv_u2 I 16 r x) 17 r y 13 8 = nI r := fun x y => by rw [← hr]; (repeat (first | rw [xu_ne2 (by omega)] | rw [xu_ne (by omega)] | rw [xu_eq]))
  have e3 : ∀ x y w, xv_u2 (xv_u2 (xv_u2 I 16 r x) 17 r y) 18 r w 13 8 = nI r := fun x y w => by rw [← hr]; (repeat (first | rw [xu_ne2 (by omega)] | rw [xu_ne (by omega)] | rw [xu_eq]))
  have e4 : ∀ x y w, xv_u2 (xv_u2 (xv_u2 I 16 r x) 17 r y) 18 r w 13 7 = I 13 7 := fun x y w => by (repeat (first | rw [xu_ne2 (by omega)] | rw [xu_ne (by omega)] | rw [xu_eq]))
  have e5 : ∀ x y w v, xv_u2 (xv_u2 (xv_u2 (xv_u2 I 16 r x) 17 r y) 18 r w) 19 r v 13 8 = nI r := fun x y w v => by rw [← hr]; (repeat (first | rw [xu_ne2 (by omega)] | rw [xu_ne (by omega)] | rw [xu_eq]))
  rw [xe_Law_addRule]
  simp only [xr_all, xf_all, if_true, if_false, true_or, or_true, eq_self, ite_not, Bool.false_eq_true, ite_self, and_self, true_and, and_true, false_and, and_false, not_true_eq_false, not_false_eq_true, xj_Law_addRule, xb_Law_addRule_0, xb_Law_addRule_69, hr, g1, g2, g3, nI_clamp (show r < 2 ^ 31 by omega), e1, e2, e3, e4, e5, nI_1]
noncomputable def l_RH (ro : xv_Ro) (e : Nat) (z : Nat × Nat) (J : Nat → Nat → Int64) (i : Nat) (more : Int32) (x4 x5 x6 : Option Value) (I : Nat → Nat → Int32) : Option (Option Value × xv_S) := xv_ev ro (e + 9) xm_LawReader_read xb_LawReader_read_8 [some (.ref 1), some (.ref 13), some (.int more), some (.int (nI i)), x4, x5, x6] [] (z, xv_mk I J)
noncomputable def l_RK (ro : xv_Ro) (e : Nat) (z : Nat × Nat) (J : Nat → Nat → Int64) (i : Nat) (kd : Int32) (x5 x6 : Option Value) (I : Nat → Nat → Int32) : Option (Option Value × xv_S) := xv_ev ro (e + 9) xm_LawReader_read xb_LawReader_read_60 [some (.ref 1), some (.ref 13), some (.int 1), some (.int (nI i)), some (.int kd), x5, x6] [] (z, xv_mk I J)
theorem l_RHd (ro : xv_Ro) (e : Nat) (z : Nat × Nat) (J : Nat → Nat → Int64) (i : Nat) (x4 x5 x6 : Option Value) (I : Nat → Nat → Int32) (h : (I 1 4 = 0) = False) : l_RH ro e z J i 0 x4 x5 x6 I = some (none, (z, xv_mk I J)) := by
  have he := xq_expectEnd_x ro (e + 7) z I J h
  unfold l_RH
  conv => lhs; unfold xb_LawReader_read_8
  by_cases c : 16 < nI i
  · simp only [xr_all, xf_all, if_true, if_false, true_or, or_true, eq_self, ite_not, Bool.false_eq_true, ite_self, and_self, true_and, and_true, false_and, and_false, not_true_eq_false, not_false_eq_true, xj_LawReader_read, xb_LawReader_read_0, xb_LawReader_read_44, xb_LawReader_read_123, c, he]
  · have c2 : (nI i ≤ 16) = True := eq_true (Int32.not_lt.mp c)
    simp only [xr_all, xf_all, if_true, if_false, true_or, or_true, eq_self, ite_not, Bool.false_eq_true, ite_self, and_self, true_and, and_true, false_and, and_false, not_true_eq_false, not_false_eq_true, xj_LawReader_read, xb_LawReader_read_0, xb_LawReader_read_44, xb_LawReader_read_123, c, c2, he]
/-- the sign is a rule's letter, the law not full -/
theorem l_RKs {ro : xv_Ro} {e : Nat} {z : Nat × Nat} {J : Nat → Nat → Int64} {i : Nat} {x4 x5 x6 : Option Value} {I : Nat → Nat → Int32} {b : Nat → Nat} {n p : Nat} (hi : i ≤ 16) (hC : tp_C b n p I) (h8 : I 13 8 = nI i) : (i < 16 → p < n → vl_ok (b p) → l_RH ro e z J i 1 x4 x5 x6 I = l_RK ro e z J i (nI (b p)) x5 x6 I) ∧ (l_nk b n p → l_RH ro e z J i 1 x4 x5 x6 I = l_RK ro e z J i (tp_c b n p) x5 x6 (xv_u2 I 1 4 (-1000 * 1 - nI p))) ∧ (i = 16 → p < n → vl_ok (b p) → l_RH ro e z J i 1 x4 x5 x6 I = l_RK ro e z J i (nI (b p)) x5 x6 (xv_u2 I 1 4 (-1000 * 4 - nI p))) := by
  have hbb := fun hp : p < n => (hC.2.2.2.2.2 p hp).1
  have hs := xq_sign ro (e + 8) z I J hC
  have hf := xq_isFull ro (e + 8) z I J h8 hi
  have hpl := xq_Tape_place ro (e + 8) z I J
  rw [hC.2.2.2.1] at hpl
  have gi : (16 < nI i) = False := by (simp (disch := omega) only [vz_all, if_true, if_false, true_or, or_true, eq_self, ite_not, Bool.false_eq_true, ite_self, and_self, true_and, and_true, false_and, and_false, not_true_eq_false, not_false_eq_true, false_or, or_false])
  have gi2 : (nI i ≤ 16) = True := by (simp (disch := omega) only [vz_all, if_true, if_false, true_or, or_true, eq_self, ite_not, Bool.false_eq_true, ite_self, and_self, true_and, and_true, false_and, and_false, not_true_eq_false, not_false_eq_true, false_or, or_false])
  have z1 : ((1 : Int32) = 0) = False := eq_false (by decide)
  refine ⟨fun hi2 hp hk => ?_, fun hnk => ?_, fun hi2 hp hk => ?_⟩
  · have hkd := xq_isKind ro (e + 8) (z, xv_mk I J) hk
    rw [show tp_c b n p = nI (b p) from if_pos hp] at hs
    rw [if_neg (by omega)] at hf
    unfold l_RH l_RK
    conv => lhs; unfold xb_LawReader_read_8
    simp only [xr_all, xf_all, if_true, if_false, true_or, or_true, eq_self, ite_not, Bool.false_eq_true, ite_self, and_self, true_and, and_true, false_and, and_false, not_true_eq_false, not_false_eq_true, xj_LawReader_read, xb_LawReader_read_0, xb_LawReader_read_44, xb_LawReader_read_123, gi, gi2, z1, hs, hkd, hf]
  · have hkd := xq_isKind_no ro (e + 8) (z, xv_mk I J) hbb hnk
    have hr := xq_refuse ro (e + 8) z I J 1 (nI p) hC.2.2.2.2.1
    unfold l_RH l_RK
    conv => lhs; unfold xb_LawReader_read_8
    simp only [xr_all, xf_all, if_true, if_false, true_or, or_true, eq_self, ite_not, Bool.false_eq_true, ite_self, and_self, true_and, and_true, false_and, and_false, not_true_eq_false, not_false_eq_true, xj_LawReader_read, xb_LawReader_read_0, xb_LawReader_read_44, xb_LawReader_read_123, gi, gi2, z1, hs, hkd, hpl, hr]
  · have hkd := xq_isKind ro (e + 8) (z, xv_mk I J) hk
    rw [show tp_c b n p = nI (b p) from if_pos hp] at hs
    rw [if_pos hi2] at hf
    have hr := xq_refuse ro (e + 8) z I J 4 (nI p) hC.2.2.2.2.1
    unfold l_RH l_RK
    conv => lhs; unfold xb_LawReader_read_8
    simp only [xr_all, xf_all, if_true, if_false, true_or, or_true, eq_self, ite_not, Bool.false_eq_true, ite_self, and_self, true_and, and_true, false_and, and_false, not_true_eq_false, not_false_eq_true, xj_LawReader_read, xb_LawReader_read_0, xb_LawReader_read_44, xb_LawReader_read_123, gi, gi2, z1, hs, hkd, hf, hpl, hr]
/-- behind a fault: from behind the rule's E -/
theorem l_x_cond (ro : xv_Ro) (e : Nat) (z : Nat × Nat) (J : Nat → Nat → Int64) (W1 : Nat → Nat → Int32) (h : (W1 1 4 = 0) = False) (k s t : Int32) : ∃ W2 W3, xv_evm ro (e + 8) 255 [.ref 1, .int 40] (z, xv_mk W1 J) = some (none, (z, xv_mk W1 J)) ∧ xv_evm ro (e + 8) 214 [.ref 1, .ref 13, .int 1] (z, xv_mk W1 J) = some (none, (z, xv_mk W2 J)) ∧ xv_evm ro (e + 8) 255 [.ref 1, .int 41] (z, xv_mk W2 J) = some (none, (z, xv_mk W2 J)) ∧ xv_evm ro (e + 8) 208 [.ref 13, .int k, .int s, .int t] (z, xv_mk W2 J) = some (none, (z, xv_mk W3 J)) ∧ xv_evm ro (e + 8) 254 [.ref 1, .int 59] (z, xv_mk W3 J) = some (some (.int 0), (z, xv_mk W3 J)) ∧ l_rf W1 W3 ∧ W3 1 4 = W1 1 4 := by
  obtain ⟨W2, w1, w2, w3⟩ := l_x_parts ro e z W1 J 1 h
  have h2 : (W2 1 4 = 0) = False := by rw [w3]; exact h
  obtain ⟨W3, v1, v2, v3⟩ := xq_addRule_any ro (e + 8) z W2 J k s t
  have h3 : (W3 1 4 = 0) = False := by rw [v3]; exact h2
  exact ⟨W2, W3, xq_expect_x ro (e + 6) z W1 J (c := 40) h (by omega), w1, xq_expect_x ro (e + 6) z W2 J (c := 41) h2 (by omega), v1, xq_take_x ro (e + 7) z W3 J (c := 59) h3 (by omega), l_rft (l_rfc w2) v2, by rw [v3, w3]⟩
theorem l_RKd (ro : xv_Ro) (e : Nat) (z : Nat × Nat) (J : Nat → Nat → Int64) (i : Nat) (kd : Int32) (x5 x6 : Option Value) (I : Nat → Nat → Int32) (h : (I 1 4 = 0) = False) : ∃ W, l_RK ro e z J i kd x5 x6 I = some (none, (z, xv_mk W J)) ∧ l_rf I W ∧ W 1 4 = I 1 4 := by
  obtain ⟨x, hst⟩ := xq_step_any ro (e + 8) z I J
  have hI1 : (xv_u2 I 1 3 x 1 4 = 0) = False := by rw [xu_ne2 (by omega)]; exact h
  have hz := xq_Law_size ro (e + 8) z (xv_u2 I 1 3 x) J
  obtain ⟨W1, w1, w2, w3⟩ := l_x_terms ro (e + 3) z (xv_u2 I 1 3 x) J 0 hI1
  have h1 : (W1 1 4 = 0) = False := by rw [w3]; exact hI1
  have hz1 := xq_Law_size ro (e + 8) z W1 J
  obtain ⟨W2, W3, u1, u2, u3, u4, u5, u6, u7⟩ := l_x_cond ro e z J W1 h1 kd (xv_u2 I 1 3 x 13 7) (W1 13 7)
  have hd := l_RHd ro e z J (i + 1) (some (.int kd)) (some (.int (xv_u2 I 1 3 x 13 7))) (some (.int (W1 13 7))) W3 (by rw [u7]; exact h1)
  refine ⟨W3, ?_, l_rft (l_rfc (l_cft (l_cf3 I x) w2)) u6, by rw [u7, w3, xu_ne2 (by omega)]⟩
  rw [← hd]
  unfold l_RK l_RH
  conv => lhs; unfold xb_LawReader_read_60
  simp only [xr_all, xf_all, if_true, if_false, true_or, or_true, eq_self, ite_not, Bool.false_eq_true, ite_self, and_self, true_and, and_true, false_and, and_false, not_true_eq_false, not_false_eq_true, xj_LawReader_read, xb_LawReader_read_0, xb_LawReader_read_44, xb_LawReader_read_123, hst, hz, w1, hz1, u1, u2, u3, u4, u5, nI_1]
abbrev l_Q : Type := (Nat × Nat) ⊕ (Nat × l_D × l_D × Nat)
def l_ms (M : Nat → Nat → Int32) (b : Nat → Nat) (n p r c : Nat) : Prop := n ≤ 240 ∧ tp_M b n p M ∧ M 167 13 = nI c ∧ M 167 15 = nI r ∧ c + b 1000 ≤ p
def l_mg (M V : Nat → Nat → Int32) : Prop := (∀ a, a ≠ 167 → ¬ (174 ≤ a ∧ a ≤ 179) → V a = M a) ∧ ∀ j, ¬ (8 ≤ j ∧ j ≤ 15) → V 167 j = M 167 j
theorem l_mgt {M V W : Nat → Nat → Int32} (h1 : l_mg M V) (h2 : l_mg V W) : l_mg M W := ⟨fun a q1 q2 => (h2.1 a q1 q2).trans (h1.1 a q1 q2), fun j q1 => (h2.2 j q1).trans (h1.2 j q1)⟩
theorem l_mgg {M V : Nat → Nat → Int32} (h : l_g M V) : l_mg M V := ⟨fun a q1 q2 => h.1 a q1 (by omega) (by omega), fun j q => h.2 j (by omega) (by omega) (by omega) (by omega) (by omega) (by omega)⟩
def l_RM (ro : xv_Ro) (b : Nat → Nat) (n p r : Nat) : l_Q → Prop
  | .inl (f, q) => ∀ (d : Nat) (z : Nat × Nat) (J : Nat → Nat → Int64) (M : Nat → Nat → Int32) (c : Nat), l_ms M b n p r c → ∃ V, xv_evm ro (d + 7) 75 [.ref 167] (z, xv_mk M J) = some (some (.int 0), (z, xv_mk V J)) ∧ V 167 10 = -1000 * nI f - nI q ∧ l_mg M V
  | .inr (k, E, D, p') => ∀ (d : Nat) (z : Nat × Nat) (J : Nat → Nat → Int64) (M : Nat → Nat → Int32) (c : Nat), l_ms M b n p r c → ∃ V c1 c2, xv_evm ro (d + 7) 75 [.ref 167] (z, xv_mk M J) = some (some (.int 1), (z, xv_mk V J)) ∧ l_ms V b n p' (r + 1) c2 ∧ l_mS (V 174) c c1 E ∧ l_mS (V 174) c1 c2 D ∧ V 176 r = nI k ∧ V 177 r = nI c ∧ V 178 r = nI c1 ∧ V 179 r = nI c2 ∧ (∀ j, j < c → V 174 j = M 174 j) ∧ (∀ a j, 176 ≤ a → a ≤ 179 → j < r → V a j = M a j) ∧ l_mg M V
/-- the model's rule up to its E -/
theorem l_rm1 {ro : xv_Ro} {b : Nat → Nat} {n p r c : Nat} {d : Nat} {z : Nat × Nat} {J : Nat → Nat → Int64} {M : Nat → Nat → Int32} (h : l_ms M b n p r c) (hp : p < n) (hk : vl_ok (b p)) (hr : r < 16) : ∃ U, l_s U b n (p + 1) [] c ∧ U 167 15 = nI r ∧ U 176 r = nI (b p) ∧ U 177 r = nI c ∧ U 174 = M 174 ∧ (∀ a j, 176 ≤ a → a ≤ 179 → j < r → U a j = M a j) ∧ l_mg M U ∧ (∀ V, xv_evm ro (d + 6) 69 [.ref 167] (z, xv_mk U J) = some (some (.int 0), (z, xv_mk V J)) → xv_evm ro (d + 7) 75 [.ref 167] (z, xv_mk M J) = some (some (.int 0), (z, xv_mk V J))) ∧ (∀ V, xv_evm ro (d + 6) 69 [.ref 167] (z, xv_mk U J) = some (some (.int 1), (z, xv_mk V J)) → xv_evm ro (d + 7) 75 [.ref 167] (z, xv_mk M J) = xv_ev ro (d + 7) xm_Mo_readsRule xb_Mo_readsRule_116 [some (.ref 167), some (.int (nI (b p)))] [] (z, xv_mk V J)) := by
  obtain ⟨h0, h1, h2, h3, h4⟩ := h
  have hh := xq_here ro (d + 6) z M J h1
  rw [show tp_c b n p = nI (b p) from if_pos hp] at hh
  have hp8 := h1.2.2.2.1
  have g16 : (nI r = 16) = False := by (simp (disch := omega) only [vz_all, if_true, if_false, true_or, or_true, eq_self, ite_not, Bool.false_eq_true, ite_self, and_self, true_and, and_true, false_and, and_false, not_true_eq_false, not_false_eq_true, false_or, or_false])
  have ir : xv_inB (nI r) 16 = true := by (simp (disch := omega) only [vz_all, if_true, if_false, true_or, or_true, eq_self, ite_not, Bool.false_eq_true, ite_self, and_self, true_and, and_true, false_and, and_false, not_true_eq_false, not_false_eq_true, false_or, or_false])
  have z1 : ((1 : Int32) = 0) = False := eq_false (by decide)
  have e1 : ∀ y, xv_u2 M 176 r y 167 8 = nI p := fun y => by rw [← hp8]; (repeat (first | rw [xu_ne2 (by omega)] | rw [xu_ne (by omega)] | rw [xu_eq]))
  have e2 : ∀ y y2, xv_u2 (xv_u2 M 176 r y) 167 8 y2 167 15 = nI r := fun y y2 => by rw [← h3]; (repeat (first | rw [xu_ne2 (by omega)] | rw [xu_ne (by omega)] | rw [xu_eq]))
  have e3 : ∀ y y2, xv_u2 (xv_u2 M 176 r y) 167 8 y2 167 13 = nI c := fun y y2 => by rw [← h2]; (repeat (first | rw [xu_ne2 (by omega)] | rw [xu_ne (by omega)] | rw [xu_eq]))
  refine ⟨xv_u2 (xv_u2 (xv_u2 (xv_u2 (xv_u2 M 176 r (nI (b p))) 167 8 (nI (p + 1))) 177 r (nI c)) 167 12 0) 167 14 0, ⟨h0, ?_, by (repeat (first | rw [xu_ne2 (by omega)] | rw [xu_ne (by omega)] | rw [xu_eq])); rfl, by (repeat (first | rw [xu_ne2 (by omega)] | rw [xu_ne (by omega)] | rw [xu_eq])); exact h2, by (repeat (first | rw [xu_ne2 (by omega)] | rw [xu_ne (by omega)] | rw [xu_eq])); rfl, trivial, by show c + 0 + b 1000 ≤ p + 1; omega, Nat.zero_le _⟩, by (repeat (first | rw [xu_ne2 (by omega)] | rw [xu_ne (by omega)] | rw [xu_eq])); exact h3, by (repeat (first | rw [xu_ne2 (by omega)] | rw [xu_ne (by omega)] | rw [xu_eq])), by (repeat (first | rw [xu_ne2 (by omega)] | rw [xu_ne (by omega)] | rw [xu_eq])), by (repeat (first | rw [xu_ne2 (by omega)] | rw [xu_ne (by omega)] | rw [xu_eq])), fun a j q1 q2 q3 => by (repeat (first | rw [xu_ne2 (by omega)] | rw [xu_ne (by omega)] | rw [xu_eq])), ⟨fun a q1 q2 => by (repeat (first | rw [xu_ne2 (by omega)] | rw [xu_ne (by omega)] | rw [xu_eq])), fun j q => by (repeat (first | rw [xu_ne2 (by omega)] | rw [xu_ne (by omega)] | rw [xu_eq]))⟩, fun V hV => ?_, fun V hV => ?_⟩
  · obtain ⟨t1, t2, t3, t4, t5⟩ := h1
    exact ⟨t1, hp, by (repeat (first | rw [xu_ne2 (by omega)] | rw [xu_ne (by omega)] | rw [xu_eq])); exact t3, by (repeat (first | rw [xu_ne2 (by omega)] | rw [xu_ne (by omega)] | rw [xu_eq])), fun j hj => by (repeat (first | rw [xu_ne2 (by omega)] | rw [xu_ne (by omega)] | rw [xu_eq])); exact t5 j hj⟩
  · rw [xe_Mo_readsRule]
    rcases hk with hk | hk | hk | hk | hk
    · rw [hk] at hh hV
      have a1 : (nI 108 = 108) = True := eq_true rfl
      simp only [xr_all, xf_all, if_true, if_false, true_or, or_true, eq_self, ite_not, Bool.false_eq_true, ite_self, and_self, true_and, and_true, false_and, and_false, not_true_eq_false, not_false_eq_true, xj_Mo_readsRule, xb_Mo_readsRule_0, xb_Mo_readsRule_45, xb_Mo_readsRule_64, xb_Mo_readsRule_138, hh, a1, h3, g16, ir, nI_clamp (show r < 2 ^ 31 by omega), e1, e2, e3, nI_1, hV]
    · rw [hk] at hh hV
      have a1 : (nI 99 = 108) = False := eq_false (by decide)
      have a2 : (nI 99 = 99) = True := eq_true rfl
      simp only [xr_all, xf_all, if_true, if_false, true_or, or_true, eq_self, ite_not, Bool.false_eq_true, ite_self, and_self, true_and, and_true, false_and, and_false, not_true_eq_false, not_false_eq_true, xj_Mo_readsRule, xb_Mo_readsRule_0, xb_Mo_readsRule_45, xb_Mo_readsRule_64, xb_Mo_readsRule_138, hh, a1, a2, h3, g16, ir, nI_clamp (show r < 2 ^ 31 by omega), e1, e2, e3, nI_1, hV]
    · rw [hk] at hh hV
      have a1 : (nI 103 = 108) = False := eq_false (by decide)
      have a2 : (nI 103 = 99) = False := eq_false (by decide)
      have a3 : (nI 103 = 103) = True := eq_true rfl
      simp only [xr_all, xf_all, if_true, if_false, true_or, or_true, eq_self, ite_not, Bool.false_eq_true, ite_self, and_self, true_and, and_true, false_and, and_false, not_true_eq_false, not_false_eq_true, xj_Mo_readsRule, xb_Mo_readsRule_0, xb_Mo_readsRule_45, xb_Mo_readsRule_64, xb_Mo_readsRule_138, hh, a1, a2, a3, h3, g16, ir, nI_clamp (show r < 2 ^ 31 by omega), e1, e2, e3, nI_1, hV]
    · rw [hk] at hh hV
      have a1 : (nI 121 = 108) = False := eq_false (by decide)
      have a2 : (nI 121 = 99) = False := eq_false (by decide)
      have a3 : (nI 121 = 103) = False := eq_false (by decide)
      have a4 : (nI 121 = 121) = True := eq_true rfl
      simp only [xr_all, xf_all, if_true, if_false, true_or, or_true, eq_self, ite_not, Bool.false_eq_true, ite_self, and_self, true_and, and_true, false_and, and_false, not_true_eq_false, not_false_eq_true, xj_Mo_readsRule, xb_Mo_readsRule_0, xb_Mo_readsRule_45, xb_Mo_readsRule_64, xb_Mo_readsRule_138, hh, a1, a2, a3, a4, h3, g16, ir, nI_clamp (show r < 2 ^ 31 by omega), e1, e2, e3, nI_1, hV]
    · rw [hk] at hh hV
      have a1 : (nI 98 = 108) = False := eq_false (by decide)
      have a2 : (nI 98 = 99) = False := eq_false (by decide)
      have a3 : (nI 98 = 103) = False := eq_false (by decide)
      have a4 : (nI 98 = 121) = False := eq_false (by decide)
      have a5 : (nI 98 = 98) = True := eq_true rfl
      simp only [xr_all, xf_all, if_true, if_false, true_or, or_true, eq_self, ite_not, Bool.false_eq_true, ite_self, and_self, true_and, and_true, false_and, and_false, not_true_eq_false, not_false_eq_true, xj_Mo_readsRule, xb_Mo_readsRule_0, xb_Mo_readsRule_45, xb_Mo_readsRule_64, xb_Mo_readsRule_138, hh, a1, a2, a3, a4, a5, h3, g16, ir, nI_clamp (show r < 2 ^ 31 by omega), e1, e2, e3, nI_1, hV]
  · rw [xe_Mo_readsRule]
    rcases hk with hk | hk | hk | hk | hk
    · rw [hk] at hh hV ⊢
      have a1 : (nI 108 = 108) = True := eq_true rfl
      simp only [xr_all, xf_all, if_true, if_false, true_or, or_true, eq_self, ite_not, Bool.false_eq_true, ite_self, and_self, true_and, and_true, false_and, and_false, not_true_eq_false, not_false_eq_true, xj_Mo_readsRule, xb_Mo_readsRule_0, xb_Mo_readsRule_45, xb_Mo_readsRule_64, xb_Mo_readsRule_138, hh, a1, h3, g16, ir, nI_clamp (show r < 2 ^ 31 by omega), e1, e2, e3, nI_1, hV, z1]
    · rw [hk] at hh hV ⊢
      have a1 : (nI 99 = 108) = False := eq_false (by decide)
      have a2 : (nI 99 = 99) = True := eq_true rfl
      simp only [xr_all, xf_all, if_true, if_false, true_or, or_true, eq_self, ite_not, Bool.false_eq_true, ite_self, and_self, true_and, and_true, false_and, and_false, not_true_eq_false, not_false_eq_true, xj_Mo_readsRule, xb_Mo_readsRule_0, xb_Mo_readsRule_45, xb_Mo_readsRule_64, xb_Mo_readsRule_138, hh, a1, a2, h3, g16, ir, nI_clamp (show r < 2 ^ 31 by omega), e1, e2, e3, nI_1, hV, z1]
    · rw [hk] at hh hV ⊢
      have a1 : (nI 103 = 108) = False := eq_false (by decide)
      have a2 : (nI 103 = 99) = False := eq_false (by decide)
      have a3 : (nI 103 = 103) = True := eq_true rfl
      simp only [xr_all, xf_all, if_true, if_false, true_or, or_true, eq_self, ite_not, Bool.false_eq_true, ite_self, and_self, true_and, and_true, false_and, and_false, not_true_eq_false, not_false_eq_true, xj_Mo_readsRule, xb_Mo_readsRule_0, xb_Mo_readsRule_45, xb_Mo_readsRule_64, xb_Mo_readsRule_138, hh, a1, a2, a3, h3, g16, ir, nI_clamp (show r < 2 ^ 31 by omega), e1, e2, e3, nI_1, hV, z1]
    · rw [hk] at hh hV ⊢
      have a1 : (nI 121 = 108) = False := eq_false (by decide)
      have a2 : (nI 121 = 99) = False := eq_false (by decide)
      have a3 : (nI 121 = 103) = False := eq_false (by decide)
      have a4 : (nI 121 = 121) = True := eq_true rfl
      simp only [xr_all, xf_all, if_true, if_false, true_or, or_true, eq_self, ite_not, Bool.false_eq_true, ite_self, and_self, true_and, and_true, false_and, and_false, not_true_eq_false, not_false_eq_true, xj_Mo_readsRule, xb_Mo_readsRule_0, xb_Mo_readsRule_45, xb_Mo_readsRule_64, xb_Mo_readsRule_138, hh, a1, a2, a3, a4, h3, g16, ir, nI_clamp (show r < 2 ^ 31 by omega), e1, e2, e3, nI_1, hV, z1]
    · rw [hk] at hh hV ⊢
      have a1 : (nI 98 = 108) = False := eq_false (by decide)
      have a2 : (nI 98 = 99) = False := eq_false (by decide)
      have a3 : (nI 98 = 103) = False := eq_false (by decide)
      have a4 : (nI 98 = 121) = False := eq_false (by decide)
      have a5 : (nI 98 = 98) = True := eq_true rfl
      simp only [xr_all, xf_all, if_true, if_false, true_or, or_true, eq_self, ite_not, Bool.false_eq_true, ite_self, and_self, true_and, and_true, false_and, and_false, not_true_eq_false, not_false_eq_true, xj_Mo_readsRule, xb_Mo_readsRule_0, xb_Mo_readsRule_45, xb_Mo_readsRule_64, xb_Mo_readsRule_138, hh, a1, a2, a3, a4, a5, h3, g16, ir, nI_clamp (show r < 2 ^ 31 by omega), e1, e2, e3, nI_1, hV, z1]
theorem l_rmK {ro : xv_Ro} {b : Nat → Nat} {n p r : Nat} (hr : r ≤ 16) : (l_nk b n p → l_RM ro b n p r (.inl (1, p))) ∧ (r = 16 → p < n → vl_ok (b p) → l_RM ro b n p r (.inl (4, p))) := by
  refine ⟨fun hnk d z J M c h => ?_, fun hr2 hp hk d z J M c h => ?_⟩
  · obtain ⟨h0, h1, h2, h3, h4⟩ := h
    have hbb := fun hp : p < n => (h1.2.2.2.2 p hp).1
    have hh := xq_here ro (d + 6) z M J h1
    obtain ⟨a1, a2, a3, a4, a5⟩ := l_nk5 hbb hnk
    have hw := xq_wrongAt ro (d + 6) z M J 1 (nI p)
    refine ⟨xv_u2 M 167 10 (-1000 * 1 - nI p), ?_, xu_eq, l_mgg (l_g10 M _)⟩
    rw [xe_Mo_readsRule]
    simp only [xr_all, xf_all, if_true, if_false, true_or, or_true, eq_self, ite_not, Bool.false_eq_true, ite_self, and_self, true_and, and_true, false_and, and_false, not_true_eq_false, not_false_eq_true, xj_Mo_readsRule, xb_Mo_readsRule_0, xb_Mo_readsRule_45, xb_Mo_readsRule_64, xb_Mo_readsRule_138, hh, a1, a2, a3, a4, a5, h1.2.2.2.1, hw]
  · obtain ⟨h0, h1, h2, h3, h4⟩ := h
    have hh := xq_here ro (d + 6) z M J h1
    rw [show tp_c b n p = nI (b p) from if_pos hp] at hh
    have g16 : (nI r = 16) = True := by (simp (disch := omega) only [vz_all, if_true, if_false, true_or, or_true, eq_self, ite_not, Bool.false_eq_true, ite_self, and_self, true_and, and_true, false_and, and_false, not_true_eq_false, not_false_eq_true, false_or, or_false])
    have hw := xq_wrongAt ro (d + 6) z M J 4 (nI p)
    refine ⟨xv_u2 M 167 10 (-1000 * 4 - nI p), ?_, xu_eq, l_mgg (l_g10 M _)⟩
    rw [xe_Mo_readsRule]
    rcases hk with hk | hk | hk | hk | hk
    · rw [hk] at hh
      have a1 : (nI 108 = 108) = True := eq_true rfl
      simp only [xr_all, xf_all, if_true, if_false, true_or, or_true, eq_self, ite_not, Bool.false_eq_true, ite_self, and_self, true_and, and_true, false_and, and_false, not_true_eq_false, not_false_eq_true, xj_Mo_readsRule, xb_Mo_readsRule_0, xb_Mo_readsRule_45, xb_Mo_readsRule_64, xb_Mo_readsRule_138, hh, a1, h3, g16, h1.2.2.2.1, hw]
    · rw [hk] at hh
      have a1 : (nI 99 = 108) = False := eq_false (by decide)
      have a2 : (nI 99 = 99) = True := eq_true rfl
      simp only [xr_all, xf_all, if_true, if_false, true_or, or_true, eq_self, ite_not, Bool.false_eq_true, ite_self, and_self, true_and, and_true, false_and, and_false, not_true_eq_false, not_false_eq_true, xj_Mo_readsRule, xb_Mo_readsRule_0, xb_Mo_readsRule_45, xb_Mo_readsRule_64, xb_Mo_readsRule_138, hh, a1, a2, h3, g16, h1.2.2.2.1, hw]
    · rw [hk] at hh
      have a1 : (nI 103 = 108) = False := eq_false (by decide)
      have a2 : (nI 103 = 99) = False := eq_false (by decide)
      have a3 : (nI 103 = 103) = True := eq_true rfl
      simp only [xr_all, xf_all, if_true, if_false, true_or, or_true, eq_self, ite_not, Bool.false_eq_true, ite_self, and_self, true_and, and_true, false_and, and_false, not_true_eq_false, not_false_eq_true, xj_Mo_readsRule, xb_Mo_readsRule_0, xb_Mo_readsRule_45, xb_Mo_readsRule_64, xb_Mo_readsRule_138, hh, a1, a2, a3, h3, g16, h1.2.2.2.1, hw]
    · rw [hk] at hh
      have a1 : (nI 121 = 108) = False := eq_false (by decide)
      have a2 : (nI 121 = 99) = False := eq_false (by decide)
      have a3 : (nI 121 = 103) = False := eq_false (by decide)
      have a4 : (nI 121 = 121) = True := eq_true rfl
      simp only [xr_all, xf_all, if_true, if_false, true_or, or_true, eq_self, ite_not, Bool.false_eq_true, ite_self, and_self, true_and, and_true, false_and, and_false, not_true_eq_false, not_false_eq_true, xj_Mo_readsRule, xb_Mo_readsRule_0, xb_Mo_readsRule_45, xb_Mo_readsRule_64, xb_Mo_readsRule_138, hh, a1, a2, a3, a4, h3, g16, h1.2.2.2.1, hw]
    · rw [hk] at hh
      have a1 : (nI 98 = 108) = False := eq_false (by decide)
      have a2 : (nI 98 = 99) = False := eq_false (by decide)
      have a3 : (nI 98 = 103) = False := eq_false (by decide)
      have a4 : (nI 98 = 121) = False := eq_false (by decide)
      have a5 : (nI 98 = 98) = True := eq_true rfl
      simp only [xr_all, xf_all, if_true, if_false, true_or, or_true, eq_self, ite_not, Bool.false_eq_true, ite_self, and_self, true_and, and_true, false_and, and_false, not_true_eq_false, not_false_eq_true, xj_Mo_readsRule, xb_Mo_readsRule_0, xb_Mo_readsRule_45, xb_Mo_readsRule_64, xb_Mo_readsRule_138, hh, a1, a2, a3, a4, a5, h3, g16, h1.2.2.2.1, hw]
/-- a condition entered -/
theorem l_cE {ro : xv_Ro} {b : Nat → Nat} {n p c : Nat} {d : Nat} {z : Nat × Nat} {J : Nat → Nat → Int64} {V : Nat → Nat → Int32} (h : l_s V b n p [] c) : ((p < n → b p ≠ 40) → xv_evm ro (d + 6) 74 [.ref 167] (z, xv_mk V J) = some (some (.int 0), (z, xv_mk (xv_u2 V 167 10 (-1000 * 1 - nI p)) J))) ∧ (p < n → b p = 40 → ∃ V2, xv_evm ro (d + 6) 74 [.ref 167] (z, xv_mk V J) = l_C1 ro d z J V2 ∧ l_s V2 b n (p + 1) [(13, 0)] c ∧ V2 174 = V 174 ∧ l_g V V2) := by
  obtain ⟨h0, h1, h2, h3, h4, h5, h6, h7⟩ := id h
  have hbb := fun hp : p < n => (h1.2.2.2.2 p hp).1
  have hh := xq_here ro (d + 5) z V J h1
  refine ⟨fun hno => ?_, fun hp hb => ?_⟩
  · have g1 := l_ne_c (c := 40) hbb (by omega) hno
    rw [show nI 40 = (40 : Int32) from rfl] at g1
    have hw := xq_wrongAt ro (d + 5) z V J 1 (nI p)
    rw [xe_Mo_readsCondition]
    simp only [xr_all, xf_all, if_true, if_false, true_or, or_true, eq_self, ite_not, Bool.false_eq_true, ite_self, and_self, true_and, and_true, false_and, and_false, not_true_eq_false, not_false_eq_true, xj_Mo_readsCondition, xb_Mo_readsCondition_0, xb_Mo_readsCondition_19, xb_Mo_readsCondition_58, xb_Mo_readsCondition_73, xb_Mo_readsCondition_75, xb_Mo_readsCondition_83, xb_Mo_readsCondition_145, xb_Mo_readsCondition_152, xb_Mo_readsCondition_180, xb_Mo_readsCondition_194, xb_Mo_readsCondition_195, xb_Mo_readsCondition_213, xb_Mo_readsCondition_215, hh, g1, h1.2.2.2.1, hw]
  · rw [show tp_c b n p = nI (b p) from if_pos hp, hb] at hh
    have g1 : (nI 40 = 40) = True := eq_true rfl
    have hq : l_s (xv_u2 (xv_u2 V 167 12 0) 167 14 0) b n p [] c := ⟨h0, tp_Mc h1 (by (repeat (first | rw [xu_ne2 (by omega)] | rw [xu_ne (by omega)] | rw [xu_eq]))) (by (repeat (first | rw [xu_ne2 (by omega)] | rw [xu_ne (by omega)] | rw [xu_eq]))) (by (repeat (first | rw [xu_ne2 (by omega)] | rw [xu_ne (by omega)] | rw [xu_eq]))), by (repeat (first | rw [xu_ne2 (by omega)] | rw [xu_ne (by omega)] | rw [xu_eq])); rfl, by (repeat (first | rw [xu_ne2 (by omega)] | rw [xu_ne (by omega)] | rw [xu_eq])); exact h3, by (repeat (first | rw [xu_ne2 (by omega)] | rw [xu_ne (by omega)] | rw [xu_eq])); rfl, trivial, h6, h7⟩
    obtain ⟨V2, v1, v2, v3, v4⟩ := xq_opens ro (d + 4) z _ J (o := 13) hq hp (by omega) (by show 0 < 6; omega)
    rw [show nI 13 = (13 : Int32) from rfl] at v1
    have z1 : ((1 : Int32) = 0) = False := eq_false (by decide)
    refine ⟨V2, ?_, v2, by rw [v3]; (repeat (first | rw [xu_ne2 (by omega)] | rw [xu_ne (by omega)] | rw [xu_eq])), l_gt ⟨fun a q1 q2 q3 => by (repeat (first | rw [xu_ne2 (by omega)] | rw [xu_ne (by omega)] | rw [xu_eq])), fun j q1 q2 q3 q4 q5 q6 => by (repeat (first | rw [xu_ne2 (by omega)] | rw [xu_ne (by omega)] | rw [xu_eq]))⟩ v4⟩
    rw [xe_Mo_readsCondition]
    unfold l_C1
    simp only [xr_all, xf_all, if_true, if_false, true_or, or_true, eq_self, ite_not, Bool.false_eq_true, ite_self, and_self, true_and, and_true, false_and, and_false, not_true_eq_false, not_false_eq_true, xj_Mo_readsCondition, xb_Mo_readsCondition_0, xb_Mo_readsCondition_19, xb_Mo_readsCondition_58, xb_Mo_readsCondition_73, xb_Mo_readsCondition_75, xb_Mo_readsCondition_83, xb_Mo_readsCondition_145, xb_Mo_readsCondition_152, xb_Mo_readsCondition_180, xb_Mo_readsCondition_194, xb_Mo_readsCondition_195, xb_Mo_readsCondition_213, xb_Mo_readsCondition_215, hh, g1, v1, z1]
