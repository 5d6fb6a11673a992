/-! PAIR: law -/
/-- rows copied side by side -/
def l_cp (I : Nat → Nat → Int32) (A m : Nat) (s : Nat → Nat) (n : Nat) : Nat → Nat → Int32 := fun a j => if A ≤ a ∧ a < A + m ∧ j < n then I (s a) j else I a j
theorem l_cp0 (I : Nat → Nat → Int32) (A m : Nat) (s : Nat → Nat) : l_cp I A m s 0 = I := by
  funext a j
  unfold l_cp
  rw [if_neg (by omega)]
theorem l_cpo (I : Nat → Nat → Int32) {A m : Nat} (s : Nat → Nat) (n : Nat) {a : Nat} (h : ¬ (A ≤ a ∧ a < A + m)) : l_cp I A m s n a = I a := by
  funext j
  unfold l_cp
  rw [if_neg (by omega)]
theorem l_cpi (I : Nat → Nat → Int32) {A m : Nat} (s : Nat → Nat) {n a j : Nat} (h1 : A ≤ a) (h2 : a < A + m) (h3 : j < n) : l_cp I A m s n a j = I (s a) j := if_pos ⟨h1, h2, h3⟩
theorem l_cps {I : Nat → Nat → Int32} {A m : Nat} {s : Nat → Nat} {n : Nat} {U : Nat → Nat → Int32} (h1 : ∀ a, A ≤ a → a < A + m → U a n = I (s a) n) (h2 : ∀ a j, ¬ (A ≤ a ∧ a < A + m ∧ j = n) → U a j = l_cp I A m s n a j) : U = l_cp I A m s (n + 1) := by
  funext a j
  by_cases c : A ≤ a ∧ a < A + m ∧ j = n
  · obtain ⟨c1, c2, rfl⟩ := c
    rw [h1 a c1 c2]
    unfold l_cp
    rw [if_pos ⟨c1, c2, by omega⟩]
  · rw [h2 a j c]
    unfold l_cp
    by_cases c2 : A ≤ a ∧ a < A + m ∧ j < n
    · rw [if_pos c2, if_pos ⟨c2.1, c2.2.1, by omega⟩]
    · rw [if_neg c2, if_neg (by omega)]
theorem l_ss {a j : Nat} {n : Nat} : ¬ (a ≠ a) := fun h => h rfl
/-- the draft comes in force -/
theorem xq_Law_copy (ro : xv_Ro) (d : Nat) (z : Nat × Nat) (I : Nat → Nat → Int32) (J : Nat → Nat → Int64) : ∃ W, xv_evm ro d 203 [.ref 5, .ref 13] (z, xv_mk I J) = some (none, (z, xv_mk W J)) ∧ W 5 7 = I 13 7 ∧ W 5 8 = I 13 8 ∧ (∀ a, 6 ≤ a → a ≤ 7 → ∀ j, j < 240 → W a j = I (a + 8) j) ∧ (∀ a, 8 ≤ a → a ≤ 11 → ∀ j, j < 16 → W a j = I (a + 8) j) ∧ ∀ a, ¬ (5 ≤ a ∧ a ≤ 11) → W a = I a := by
  have l1 := vz_iter (fun i => xv_ev ro d xm_Law_copy xb_Law_copy_2 [some (.ref 5), some (.ref 13), some (.int (nI i))] [] (z, xv_mk (l_cp I 6 2 (fun a => a + 8) i) J)) 240 (fun i hi => by
    have g1 : (240 ≤ nI i) = False := by (simp (disch := omega) only [vz_all, if_true, if_false, true_or, or_true, eq_self, ite_not, Bool.false_eq_true, ite_self, and_self, true_and, and_true, false_and, and_false, not_true_eq_false, not_false_eq_true, false_or, or_false])
    have g2 : xv_inB (nI i) 240 = true := by (simp (disch := omega) only [vz_all, if_true, if_false, true_or, or_true, eq_self, ite_not, Bool.false_eq_true, ite_self, and_self, true_and, and_true, false_and, and_false, not_true_eq_false, not_false_eq_true, false_or, or_false])
    have r1 : l_cp I 6 2 (fun a => a + 8) i 14 i = I 14 i := by rw [l_cpo I _ _ (by omega)]
    have r2 : ∀ x, xv_u2 (l_cp I 6 2 (fun a => a + 8) i) 6 i x 15 i = I 15 i := fun x => by rw [xu_ne (by omega), l_cpo I _ _ (by omega)]
    have e : xv_u2 (xv_u2 (l_cp I 6 2 (fun a => a + 8) i) 6 i (I 14 i)) 7 i (I 15 i) = l_cp I 6 2 (fun a => a + 8) (i + 1) := by
      refine l_cps (fun a q1 q2 => ?_) (fun a j q => ?_)
      · have : a = 6 ∨ a = 7 := by omega
        rcases this with rfl | rfl
        · (repeat (first | rw [xu_ne2 (by omega)] | rw [xu_ne (by omega)] | rw [xu_eq]))
        · (repeat (first | rw [xu_ne2 (by omega)] | rw [xu_ne (by omega)] | rw [xu_eq]))
      · rw [xu_ne2 (by omega), xu_ne2 (by omega)]
    conv => lhs; unfold xb_Law_copy_2
    simp only [xr_all, xf_all, if_true, if_false, true_or, or_true, eq_self, ite_not, Bool.false_eq_true, ite_self, and_self, true_and, and_true, false_and, and_false, not_true_eq_false, not_false_eq_true, xj_Law_copy, xb_Law_copy_0, xb_Law_copy_39, xb_Law_copy_101, g1, g2, nI_clamp (show i < 2 ^ 31 by omega), r1, r2, e, nI_1])
  rw [l_cp0] at l1
  generalize hB : l_cp I 6 2 (fun a => a + 8) 240 = B at l1
  have l2 := vz_iter (fun i => xv_ev ro d xm_Law_copy xb_Law_copy_41 [some (.ref 5), some (.ref 13), some (.int (nI i))] [] (z, xv_mk (l_cp B 8 4 (fun a => a + 8) i) J)) 16 (fun i hi => by
    have g1 : (16 ≤ nI i) = False := by (simp (disch := omega) only [vz_all, if_true, if_false, true_or, or_true, eq_self, ite_not, Bool.false_eq_true, ite_self, and_self, true_and, and_true, false_and, and_false, not_true_eq_false, not_false_eq_true, false_or, or_false])
    have g2 : xv_inB (nI i) 16 = true := by (simp (disch := omega) only [vz_all, if_true, if_false, true_or, or_true, eq_self, ite_not, Bool.false_eq_true, ite_self, and_self, true_and, and_true, false_and, and_false, not_true_eq_false, not_false_eq_true, false_or, or_false])
    have r1 : l_cp B 8 4 (fun a => a + 8) i 16 i = B 16 i := by rw [l_cpo B _ _ (by omega)]
    have r2 : ∀ x, xv_u2 (l_cp B 8 4 (fun a => a + 8) i) 8 i x 17 i = B 17 i := fun x => by rw [xu_ne (by omega), l_cpo B _ _ (by omega)]
    have r3 : ∀ x y, xv_u2 (xv_u2 (l_cp B 8 4 (fun a => a + 8) i) 8 i x) 9 i y 18 i = B 18 i := fun x y => by rw [xu_ne (by omega), xu_ne (by omega), l_cpo B _ _ (by omega)]
    have r4 : ∀ x y w, xv_u2 (xv_u2 (xv_u2 (l_cp B 8 4 (fun a => a + 8) i) 8 i x) 9 i y) 10 i w 19 i = B 19 i := fun x y w => by rw [xu_ne (by omega), xu_ne (by omega), xu_ne (by omega), l_cpo B _ _ (by omega)]
    have e : xv_u2 (xv_u2 (xv_u2 (xv_u2 (l_cp B 8 4 (fun a => a + 8) i) 8 i (B 16 i)) 9 i (B 17 i)) 10 i (B 18 i)) 11 i (B 19 i) = l_cp B 8 4 (fun a => a + 8) (i + 1) := by
      refine l_cps (fun a q1 q2 => ?_) (fun a j q => ?_)
      · have : a = 8 ∨ a = 9 ∨ a = 10 ∨ a = 11 := by omega
        rcases this with rfl | rfl | rfl | rfl
        · (repeat (first | rw [xu_ne2 (by omega)] | rw [xu_ne (by omega)] | rw [xu_eq]))
        · (repeat (first | rw [xu_ne2 (by omega)] | rw [xu_ne (by omega)] | rw [xu_eq]))
        · (repeat (first | rw [xu_ne2 (by omega)] | rw [xu_ne (by omega)] | rw [xu_eq]))
        · (repeat (first | rw [xu_ne2 (by omega)] | rw [xu_ne (by omega)] | rw [xu_eq]))
      · rw [xu_ne2 (by omega), xu_ne2 (by omega), xu_ne2 (by omega), xu_ne2 (by omega)]
    conv => lhs; unfold xb_Law_copy_41
    simp only [xr_all, xf_all, if_true, if_false, true_or, or_true, eq_self, ite_not, Bool.false_eq_true, ite_self, and_self, true_and, and_true, false_and, and_false, not_true_eq_false, not_false_eq_true, xj_Law_copy, xb_Law_copy_0, xb_Law_copy_39, xb_Law_copy_101, g1, g2, nI_clamp (show i < 2 ^ 31 by omega), r1, r2, r3, r4, e, nI_1])
  rw [l_cp0] at l2
  generalize hD : l_cp B 8 4 (fun a => a + 8) 16 = D at l2
  have hDo : ∀ a, ¬ (6 ≤ a ∧ a ≤ 11) → D a = I a := fun a h => by rw [← hD, l_cpo B _ _ (by omega), ← hB, l_cpo I _ _ (by omega)]
  rw [show nI 0 = (0 : Int32) from rfl] at l1 l2
  refine ⟨xv_u2 (xv_u2 D 5 7 (I 13 7)) 5 8 (I 13 8), ?_, by (repeat (first | rw [xu_ne2 (by omega)] | rw [xu_ne (by omega)] | rw [xu_eq])), xu_eq, fun a q1 q2 j hj => ?_, fun a q1 q2 j hj => ?_, fun a h => ?_⟩
  · have e1 : D 13 7 = I 13 7 := by rw [hDo 13 (by omega)]
    have e2 : ∀ x, xv_u2 D 5 7 x 13 8 = I 13 8 := fun x => by rw [xu_ne (by omega), hDo 13 (by omega)]
    have g1 : (240 ≤ nI 240) = True := eq_true (by decide)
    have g2 : (16 ≤ nI 16) = True := eq_true (by decide)
    rw [xe_Law_copy]
    simp only [xr_all, xf_all, if_true, if_false, true_or, or_true, eq_self, ite_not, Bool.false_eq_true, ite_self, and_self, true_and, and_true, false_and, and_false, not_true_eq_false, not_false_eq_true, xj_Law_copy, xb_Law_copy_0, xb_Law_copy_39, xb_Law_copy_101]
    rw [l1]
    conv => lhs; unfold xb_Law_copy_2
    simp only [xr_all, xf_all, if_true, if_false, true_or, or_true, eq_self, ite_not, Bool.false_eq_true, ite_self, and_self, true_and, and_true, false_and, and_false, not_true_eq_false, not_false_eq_true, xj_Law_copy, xb_Law_copy_0, xb_Law_copy_39, xb_Law_copy_101, g1]
    rw [l2]
    conv => lhs; unfold xb_Law_copy_41
    simp only [xr_all, xf_all, if_true, if_false, true_or, or_true, eq_self, ite_not, Bool.false_eq_true, ite_self, and_self, true_and, and_true, false_and, and_false, not_true_eq_false, not_false_eq_true, xj_Law_copy, xb_Law_copy_0, xb_Law_copy_39, xb_Law_copy_101, g2, e1, e2]
  · rw [xu_ne (by omega), xu_ne (by omega), ← hD, l_cpo B _ _ (by omega), ← hB, l_cpi I _ (by omega) (by omega) hj]
  · rw [xu_ne (by omega), xu_ne (by omega), ← hD, l_cpi B _ (by omega) (by omega) hj, ← hB, l_cpo I _ _ (by omega)]
  · rw [xu_ne (by omega), xu_ne (by omega), hDo a (by omega)]
/-- the model's end -/
theorem l_LH0 (ro : xv_Ro) (z : Nat × Nat) (J : Nat → Nat → Int64) (x1 : Int32) (V : Nat → Nat → Int32) : l_LH ro z J x1 0 V = some (some (.int (V 167 10)), (z, xv_mk (xv_u2 V 167 7 0) J)) := by
  have e : xv_u2 V 167 7 0 167 10 = V 167 10 := by (repeat (first | rw [xu_ne2 (by omega)] | rw [xu_ne (by omega)] | rw [xu_eq]))
  unfold l_LH
  conv => lhs; unfold xb_Mo_law_31
  simp only [xr_all, xf_all, if_true, if_false, true_or, or_true, eq_self, ite_not, Bool.false_eq_true, ite_self, and_self, true_and, and_true, false_and, and_false, not_true_eq_false, not_false_eq_true, xj_Mo_law, xb_Mo_law_0, xb_Mo_law_19, xb_Mo_law_21, xb_Mo_law_66, xb_Mo_law_67, xb_Mo_law_71, xb_Mo_law_85, xb_Mo_law_121, xb_Mo_law_185, e]
theorem l_LH1 {ro : xv_Ro} {z : Nat × Nat} {J : Nat → Nat → Int64} {x1 : Int32} {b : Nat → Nat} {n m c : Nat} {V : Nat → Nat → Int32} (h : l_ms V b n n m c) (hm : m ≤ 16) : ∃ Y, l_LH ro z J x1 1 V = some (some (.int (nI m)), (z, xv_mk Y J)) ∧ Y 167 7 = 0 ∧ Y 167 16 = nI m ∧ (∀ j, j < c → Y 180 j = V 174 j) ∧ (∀ a, 181 ≤ a → a ≤ 184 → ∀ j, j < m → Y a j = V (a - 5) j) ∧ (∀ a, a ≠ 167 → ¬ (180 ≤ a ∧ a ≤ 184) → Y a = V a) ∧ ∀ j, j ≠ 7 → j ≠ 16 → Y 167 j = V 167 j := by
  obtain ⟨h0, h1, h2, h3, h4⟩ := h
  have hc : c ≤ 240 := by omega
  generalize hU : xv_u2 (xv_u2 V 167 7 0) 167 16 (nI m) = U
  have u13 : U 167 13 = nI c := by rw [← hU]; (repeat (first | rw [xu_ne2 (by omega)] | rw [xu_ne (by omega)] | rw [xu_eq])); exact h2
  have u15 : U 167 15 = nI m := by rw [← hU]; (repeat (first | rw [xu_ne2 (by omega)] | rw [xu_ne (by omega)] | rw [xu_eq])); exact h3
  have l1 := vz_iter (fun i => xv_ev ro 199 xm_Mo_law xb_Mo_law_95 [some (.ref 167), some (.int x1), some (.int 1), some (.int (nI i))] [] (z, xv_mk (l_cp U 180 1 (fun _ => 174) i) J)) c (fun i hi => by
    have g1 : (nI c ≤ nI i) = False := by (simp (disch := omega) only [vz_all, if_true, if_false, true_or, or_true, eq_self, ite_not, Bool.false_eq_true, ite_self, and_self, true_and, and_true, false_and, and_false, not_true_eq_false, not_false_eq_true, false_or, or_false])
    have g2 : xv_inB (nI i) 260 = true := by (simp (disch := omega) only [vz_all, if_true, if_false, true_or, or_true, eq_self, ite_not, Bool.false_eq_true, ite_self, and_self, true_and, and_true, false_and, and_false, not_true_eq_false, not_false_eq_true, false_or, or_false])
    have r0 : l_cp U 180 1 (fun _ => 174) i 167 13 = nI c := by rw [l_cpo U _ _ (by omega)]; exact u13
    have r1 : l_cp U 180 1 (fun _ => 174) i 174 i = U 174 i := by rw [l_cpo U _ _ (by omega)]
    have e : xv_u2 (l_cp U 180 1 (fun _ => 174) i) 180 i (U 174 i) = l_cp U 180 1 (fun _ => 174) (i + 1) := by
      refine l_cps (fun a q1 q2 => ?_) (fun a j q => ?_)
      · obtain rfl : a = 180 := by omega
        (repeat (first | rw [xu_ne2 (by omega)] | rw [xu_ne (by omega)] | rw [xu_eq]))
      · rw [xu_ne2 (by omega)]
    conv => lhs; unfold xb_Mo_law_95
    simp only [xr_all, xf_all, if_true, if_false, true_or, or_true, eq_self, ite_not, Bool.false_eq_true, ite_self, and_self, true_and, and_true, false_and, and_false, not_true_eq_false, not_false_eq_true, xj_Mo_law, xb_Mo_law_0, xb_Mo_law_19, xb_Mo_law_21, xb_Mo_law_66, xb_Mo_law_67, xb_Mo_law_71, xb_Mo_law_85, xb_Mo_law_121, xb_Mo_law_185, r0, g1, g2, nI_clamp (show i < 2 ^ 31 by omega), r1, e, nI_1])
  rw [l_cp0] at l1
  generalize hB : l_cp U 180 1 (fun _ => 174) c = B at l1
  have b15 : B 167 15 = nI m := by rw [← hB, l_cpo U _ _ (by omega)]; exact u15
  have b13 : B 167 13 = nI c := by rw [← hB, l_cpo U _ _ (by omega)]; exact u13
  have l2 := vz_iter (fun i => xv_ev ro 199 xm_Mo_law xb_Mo_law_123 [some (.ref 167), some (.int x1), some (.int 1), some (.int (nI i))] [] (z, xv_mk (l_cp B 181 4 (fun a => a - 5) i) J)) m (fun i hi => by
    have g1 : (nI m ≤ nI i) = False := by (simp (disch := omega) only [vz_all, if_true, if_false, true_or, or_true, eq_self, ite_not, Bool.false_eq_true, ite_self, and_self, true_and, and_true, false_and, and_false, not_true_eq_false, not_false_eq_true, false_or, or_false])
    have g2 : xv_inB (nI i) 16 = true := by (simp (disch := omega) only [vz_all, if_true, if_false, true_or, or_true, eq_self, ite_not, Bool.false_eq_true, ite_self, and_self, true_and, and_true, false_and, and_false, not_true_eq_false, not_false_eq_true, false_or, or_false])
    have r0 : l_cp B 181 4 (fun a => a - 5) i 167 15 = nI m := by rw [l_cpo B _ _ (by omega)]; exact b15
    have r1 : l_cp B 181 4 (fun a => a - 5) i 176 i = B 176 i := by rw [l_cpo B _ _ (by omega)]
    have r2 : ∀ x, xv_u2 (l_cp B 181 4 (fun a => a - 5) i) 181 i x 177 i = B 177 i := fun x => by rw [xu_ne (by omega), l_cpo B _ _ (by omega)]
    have r3 : ∀ x y, xv_u2 (xv_u2 (l_cp B 181 4 (fun a => a - 5) i) 181 i x) 182 i y 178 i = B 178 i := fun x y => by rw [xu_ne (by omega), xu_ne (by omega), l_cpo B _ _ (by omega)]
    have r4 : ∀ x y w, xv_u2 (xv_u2 (xv_u2 (l_cp B 181 4 (fun a => a - 5) i) 181 i x) 182 i y) 183 i w 179 i = B 179 i := fun x y w => by rw [xu_ne (by omega), xu_ne (by omega), xu_ne (by omega), l_cpo B _ _ (by omega)]
    have e : xv_u2 (xv_u2 (xv_u2 (xv_u2 (l_cp B 181 4 (fun a => a - 5) i) 181 i (B 176 i)) 182 i (B 177 i)) 183 i (B 178 i)) 184 i (B 179 i) = l_cp B 181 4 (fun a => a - 5) (i + 1) := by
      refine l_cps (fun a q1 q2 => ?_) (fun a j q => ?_)
      · have : a = 181 ∨ a = 182 ∨ a = 183 ∨ a = 184 := by omega
        rcases this with rfl | rfl | rfl | rfl
        · (repeat (first | rw [xu_ne2 (by omega)] | rw [xu_ne (by omega)] | rw [xu_eq]))
        · (repeat (first | rw [xu_ne2 (by omega)] | rw [xu_ne (by omega)] | rw [xu_eq]))
        · (repeat (first | rw [xu_ne2 (by omega)] | rw [xu_ne (by omega)] | rw [xu_eq]))
        · (repeat (first | rw [xu_ne2 (by omega)] | rw [xu_ne (by omega)] | rw [xu_eq]))
      · rw [xu_ne2 (by omega), xu_ne2 (by omega), xu_ne2 (by omega), xu_ne2 (by omega)]
    conv => lhs; unfold xb_Mo_law_123
    simp only [xr_all, xf_all, if_true, if_false, true_or, or_true, eq_self, ite_not, Bool.false_eq_true, ite_self, and_self, true_and, and_true, false_and, and_false, not_true_eq_false, not_false_eq_true, xj_Mo_law, xb_Mo_law_0, xb_Mo_law_19, xb_Mo_law_21, xb_Mo_law_66, xb_Mo_law_67, xb_Mo_law_71, xb_Mo_law_85, xb_Mo_law_121, xb_Mo_law_185, r0, g1, g2, nI_clamp (show i < 2 ^ 31 by omega), r1, r2, r3, r4, e, nI_1])
  rw [l_cp0] at l2
  generalize hD : l_cp B 181 4 (fun a => a - 5) m = D at l2
  have d15 : D 167 15 = nI m := by rw [← hD, l_cpo B _ _ (by omega)]; exact b15
  rw [show nI 0 = (0 : Int32) from rfl] at l1 l2
  have hD7 : D 167 = U 167 := by rw [← hD, l_cpo B _ _ (by omega), ← hB, l_cpo U _ _ (by omega)]
  refine ⟨D, ?_, by rw [hD7, ← hU]; (repeat (first | rw [xu_ne2 (by omega)] | rw [xu_ne (by omega)] | rw [xu_eq])), by rw [hD7, ← hU]; (repeat (first | rw [xu_ne2 (by omega)] | rw [xu_ne (by omega)] | rw [xu_eq])), fun j hj => ?_, fun a q1 q2 j hj => ?_, fun a q1 q2 => ?_, fun j q1 q2 => by rw [hD7, ← hU]; (repeat (first | rw [xu_ne2 (by omega)] | rw [xu_ne (by omega)] | rw [xu_eq]))⟩
  · have z1 : ((1 : Int32) = 0) = False := eq_false (by decide)
    have g0 : (nI n ≤ nI n) = True := eq_true (Int32.le_refl _)
    have g1 : (nI c ≤ nI c) = True := eq_true (Int32.le_refl _)
    have g2 : (nI m ≤ nI m) = True := eq_true (Int32.le_refl _)
    have e15 : xv_u2 V 167 7 0 167 15 = nI m := by (repeat (first | rw [xu_ne2 (by omega)] | rw [xu_ne (by omega)] | rw [xu_eq])); exact h3
    unfold l_LH
    conv => lhs; unfold xb_Mo_law_31
    simp only [xr_all, xf_all, if_true, if_false, true_or, or_true, eq_self, ite_not, Bool.false_eq_true, ite_self, and_self, true_and, and_true, false_and, and_false, not_true_eq_false, not_false_eq_true, xj_Mo_law, xb_Mo_law_0, xb_Mo_law_19, xb_Mo_law_21, xb_Mo_law_66, xb_Mo_law_67, xb_Mo_law_71, xb_Mo_law_85, xb_Mo_law_121, xb_Mo_law_185, z1, h1.2.2.1, h1.2.2.2.1, g0, e15, hU]
    rw [l1]
    conv => lhs; unfold xb_Mo_law_95
    simp only [xr_all, xf_all, if_true, if_false, true_or, or_true, eq_self, ite_not, Bool.false_eq_true, ite_self, and_self, true_and, and_true, false_and, and_false, not_true_eq_false, not_false_eq_true, xj_Mo_law, xb_Mo_law_0, xb_Mo_law_19, xb_Mo_law_21, xb_Mo_law_66, xb_Mo_law_67, xb_Mo_law_71, xb_Mo_law_85, xb_Mo_law_121, xb_Mo_law_185, b13, g1]
    rw [l2]
    conv => lhs; unfold xb_Mo_law_123
    simp only [xr_all, xf_all, if_true, if_false, true_or, or_true, eq_self, ite_not, Bool.false_eq_true, ite_self, and_self, true_and, and_true, false_and, and_false, not_true_eq_false, not_false_eq_true, xj_Mo_law, xb_Mo_law_0, xb_Mo_law_19, xb_Mo_law_21, xb_Mo_law_66, xb_Mo_law_67, xb_Mo_law_71, xb_Mo_law_85, xb_Mo_law_121, xb_Mo_law_185, d15, g2]
  · rw [← hD, l_cpo B _ _ (by omega), ← hB, l_cpi U _ (by omega) (by omega) hj, ← hU]
    (repeat (first | rw [xu_ne2 (by omega)] | rw [xu_ne (by omega)] | rw [xu_eq]))
  · rw [← hD, l_cpi B _ (by omega) (by omega) hj, ← hB, l_cpo U _ _ (by omega), ← hU]
    (repeat (first | rw [xu_ne2 (by omega)] | rw [xu_ne (by omega)] | rw [xu_eq]))
  · rw [← hD, l_cpo B _ _ (by omega), ← hB, l_cpo U _ _ (by omega), ← hU]
    (repeat (first | rw [xu_ne2 (by omega)] | rw [xu_ne (by omega)] | rw [xu_eq]))
