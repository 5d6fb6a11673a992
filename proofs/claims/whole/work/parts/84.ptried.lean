/-! PAIR: tried -/
theorem vx_oc111 : ∀ a, a < 134 → 111 ≤ a → (xv_oc a = some 8 → ∃ w : Nat, w < 10 ∧ a = 111 + 3 + 2 * w) ∧ xv_oc a ≠ some 9 := by
  intro a h1 h2
  have h := (by decide : ∀ a, a < 134 → 111 ≤ a → (xv_oc a = some 8 → a % 2 = 0 ∧ 114 ≤ a) ∧ xv_oc a ≠ some 9) a h1 h2
  refine ⟨fun g => ?_, h.2⟩
  have := h.1 g
  exact ⟨(a - 114) / 2, by omega, by omega⟩
/-- what tried's second argument may be -/
theorem vy_what (x : Int32) : (x = 0 ∨ x = 1) ∨ (∃ w : Nat, w < 10 ∧ x = nI (10 + w)) ∨ (∃ w : Nat, w < 10 ∧ x = nI (20 + w)) ∨ ((x = 0) = False ∧ (x = 1) = False ∧ ((x < 10) = True ∨ ((x < 10) = False ∧ (30 ≤ x) = True)) ∧ (0 ≤ x ∧ x ≤ 1) = False ∧ (10 ≤ x ∧ x ≤ 19) = False ∧ (20 ≤ x ∧ x ≤ 29) = False) := by
  by_cases h0 : x = 0
  · exact Or.inl (Or.inl h0)
  · by_cases h1 : x = 1
    · exact Or.inl (Or.inr h1)
    · right
      rcases vn_cases x 30 (by omega) with q | q | ⟨j, hj, rfl⟩
      · right; right
        refine ⟨eq_false h0, eq_false h1, Or.inl (eq_true (by (simp only [Int32.lt_iff_toInt_lt, Int32.le_iff_toInt_le, ← Int32.toInt_inj, vt_all] at *; omega))), eq_false (fun g => ?_), eq_false (fun g => ?_), eq_false (fun g => ?_)⟩ <;> (simp only [Int32.lt_iff_toInt_lt, Int32.le_iff_toInt_le, ← Int32.toInt_inj, vt_all] at *; omega)
      · right; right
        rw [show nI 30 = (30 : Int32) from rfl] at q
        refine ⟨eq_false h0, eq_false h1, Or.inr ⟨eq_false (fun g => ?_), eq_true q⟩, eq_false (fun g => ?_), eq_false (fun g => ?_), eq_false (fun g => ?_)⟩ <;> (simp only [Int32.lt_iff_toInt_lt, Int32.le_iff_toInt_le, ← Int32.toInt_inj, vt_all] at *; omega)
      · by_cases c1 : j < 10
        · right; right
          have hj1 : j ≠ 0 := fun q => h0 (by rw [q]; rfl)
          have hj2 : j ≠ 1 := fun q => h1 (by rw [q]; rfl)
          have e1 : (nI j < 10) = True := by (simp (disch := omega) only [vz_all, if_true, if_false, true_or, or_true, eq_self, ite_not, Bool.false_eq_true, ite_self, and_self, true_and, and_true, false_and, and_false, not_true_eq_false, not_false_eq_true, false_or, or_false])
          have e2 : (nI j ≤ 1) = False := by (simp (disch := omega) only [vz_all, if_true, if_false, true_or, or_true, eq_self, ite_not, Bool.false_eq_true, ite_self, and_self, true_and, and_true, false_and, and_false, not_true_eq_false, not_false_eq_true, false_or, or_false])
          have e3 : (10 ≤ nI j) = False := by (simp (disch := omega) only [vz_all, if_true, if_false, true_or, or_true, eq_self, ite_not, Bool.false_eq_true, ite_self, and_self, true_and, and_true, false_and, and_false, not_true_eq_false, not_false_eq_true, false_or, or_false])
          have e4 : (20 ≤ nI j) = False := by (simp (disch := omega) only [vz_all, if_true, if_false, true_or, or_true, eq_self, ite_not, Bool.false_eq_true, ite_self, and_self, true_and, and_true, false_and, and_false, not_true_eq_false, not_false_eq_true, false_or, or_false])
          refine ⟨eq_false h0, eq_false h1, Or.inl e1, ?_, ?_, ?_⟩
          · rw [e2, and_false]
          · rw [e3, false_and]
          · rw [e4, false_and]
        · by_cases c2 : j < 20
          · left; exact ⟨j - 10, by omega, by rw [show 10 + (j - 10) = j by omega]⟩
          · right; left; exact ⟨j - 20, by omega, by rw [show 20 + (j - 20) = j by omega]⟩
/-- what tried answers -/
def vy_ans (T : vx_T) (x : Int32) : Int32 := if x = 0 then nI T.2.1 else if x = 1 then nI T.2.2.1 else if x < 20 then nI (T.2.2.2.1 (x - 10).toNatClampNeg) else vs_sum (fun i => nI (T.2.2.2.2 (x - 20).toNatClampNeg i)) (T.2.2.2.1 (x - 20).toNatClampNeg)
theorem xq_together (ro : xv_Ro) (d : Nat) (z : Nat × Nat) (I : Nat → Nat → Int32) (J : Nat → Nat → Int64) {w n : Nat} (hw : w < 10) (hn : I 168 (120 + w) = nI n) (hn2 : n ≤ 12) : xv_evm ro (d + 1) 51 [.ref 167, .int (nI w)] (z, xv_mk I J) = some (some (.int (vs_sum (fun i => I 168 (12 * w + i)) n)), (z, xv_mk I J)) := by
  rw [xe_Mo_together]
  simp only [xr_all, xf_all, if_true, if_false, true_or, or_true, eq_self, ite_not, Bool.false_eq_true, ite_self, and_self, true_and, and_true, false_and, and_false, not_true_eq_false, not_false_eq_true, xj_Mo_together, xb_Mo_together_0, xb_Mo_together_32]
  exact vl_tog ro d z I J hw hn hn2 n 0 (by omega)
theorem xp_10 (VL : xv_LP) (hV : vi_Lc VL) (hAs : vl_hA VL) : xl_P10 (vi_all VL) := by
  intro x0 x1 ro I J hro hI
  obtain ⟨a1, a2, a3, aA, a5, a6, a7⟩ := id hI
  obtain ⟨fn, hf⟩ := hAs I a6
  obtain ⟨-, -, g3, -⟩ := id aA
  have z1 : ((1 : Int32) = 0) = False := eq_false (by decide)
  have z10 : ((10 : Int32) = 0) = False := eq_false (by decide)
  rcases vn_1N 60 (by omega) x0 with ⟨n, n1, n2, rfl, e1, e2, e3⟩ | ⟨e1, e2⟩
  rotate_left
  · rw [show nI 60 = (60 : Int32) from rfl] at e1 e2
    refine ⟨-1, I, J, I, J, ?_, ?_, hI⟩
    · rw [xe_Ct_tried]
      have e1' : (x0 < 1) = True ∨ ((x0 < 1) = False ∧ (60 < x0) = True) := by
        rcases e1 with e1 | ⟨e1, e3⟩
        · exact Or.inl e1
        · refine Or.inr ⟨e1, eq_true (Int32.not_le.mp (fun q => by rw [e3] at q; exact q))⟩
      by_cases q1 : x1 < 10
      · rcases e1' with e1 | ⟨e1, e3⟩
        · simp only [xr_all, xf_all, if_true, if_false, true_or, or_true, eq_self, ite_not, Bool.false_eq_true, ite_self, and_self, true_and, and_true, false_and, and_false, not_true_eq_false, not_false_eq_true, xj_Ct_tried, xb_Ct_tried_0, xb_Ct_tried_16, xb_Ct_tried_17, xb_Ct_tried_47, xb_Ct_tried_60, xb_Ct_tried_62, xb_Ct_tried_107, xb_Ct_tried_114, xb_Ct_tried_115, xb_Ct_tried_135, xb_Ct_tried_149, xb_Ct_tried_156, q1, e1]
        · simp only [xr_all, xf_all, if_true, if_false, true_or, or_true, eq_self, ite_not, Bool.false_eq_true, ite_self, and_self, true_and, and_true, false_and, and_false, not_true_eq_false, not_false_eq_true, xj_Ct_tried, xb_Ct_tried_0, xb_Ct_tried_16, xb_Ct_tried_17, xb_Ct_tried_47, xb_Ct_tried_60, xb_Ct_tried_62, xb_Ct_tried_107, xb_Ct_tried_114, xb_Ct_tried_115, xb_Ct_tried_135, xb_Ct_tried_149, xb_Ct_tried_156, q1, e1, e3]
      · by_cases q2 : 30 ≤ x1
        · rcases e1' with e1 | ⟨e1, e3⟩
          · simp only [xr_all, xf_all, if_true, if_false, true_or, or_true, eq_self, ite_not, Bool.false_eq_true, ite_self, and_self, true_and, and_true, false_and, and_false, not_true_eq_false, not_false_eq_true, xj_Ct_tried, xb_Ct_tried_0, xb_Ct_tried_16, xb_Ct_tried_17, xb_Ct_tried_47, xb_Ct_tried_60, xb_Ct_tried_62, xb_Ct_tried_107, xb_Ct_tried_114, xb_Ct_tried_115, xb_Ct_tried_135, xb_Ct_tried_149, xb_Ct_tried_156, q1, q2, e1]
          · simp only [xr_all, xf_all, if_true, if_false, true_or, or_true, eq_self, ite_not, Bool.false_eq_true, ite_self, and_self, true_and, and_true, false_and, and_false, not_true_eq_false, not_false_eq_true, xj_Ct_tried, xb_Ct_tried_0, xb_Ct_tried_16, xb_Ct_tried_17, xb_Ct_tried_47, xb_Ct_tried_60, xb_Ct_tried_62, xb_Ct_tried_107, xb_Ct_tried_114, xb_Ct_tried_115, xb_Ct_tried_135, xb_Ct_tried_149, xb_Ct_tried_156, q1, q2, e1, e3]
        · rcases e1' with e1 | ⟨e1, e3⟩
          · simp only [xr_all, xf_all, if_true, if_false, true_or, or_true, eq_self, ite_not, Bool.false_eq_true, ite_self, and_self, true_and, and_true, false_and, and_false, not_true_eq_false, not_false_eq_true, xj_Ct_tried, xb_Ct_tried_0, xb_Ct_tried_16, xb_Ct_tried_17, xb_Ct_tried_47, xb_Ct_tried_60, xb_Ct_tried_62, xb_Ct_tried_107, xb_Ct_tried_114, xb_Ct_tried_115, xb_Ct_tried_135, xb_Ct_tried_149, xb_Ct_tried_156, q1, q2, e1]
          · simp only [xr_all, xf_all, if_true, if_false, true_or, or_true, eq_self, ite_not, Bool.false_eq_true, ite_self, and_self, true_and, and_true, false_and, and_false, not_true_eq_false, not_false_eq_true, xj_Ct_tried, xb_Ct_tried_0, xb_Ct_tried_16, xb_Ct_tried_17, xb_Ct_tried_47, xb_Ct_tried_60, xb_Ct_tried_62, xb_Ct_tried_107, xb_Ct_tried_114, xb_Ct_tried_115, xb_Ct_tried_135, xb_Ct_tried_149, xb_Ct_tried_156, q1, q2, e1, e3]
    · rw [xe_Mo_tried]
      simp only [xr_all, xf_all, if_true, if_false, true_or, or_true, eq_self, ite_not, Bool.false_eq_true, ite_self, and_self, true_and, and_true, false_and, and_false, not_true_eq_false, not_false_eq_true, xj_Mo_tried, xb_Mo_tried_0, xb_Mo_tried_41, xb_Mo_tried_63, xb_Mo_tried_65, xb_Mo_tried_92, xb_Mo_tried_104, xb_Mo_tried_125, xb_Mo_tried_133, xq_Mo_in, e2]
  · rw [show nI 60 = (60 : Int32) from rfl] at e2 e3
    have e2' : (60 < nI n) = False := by (simp (disch := omega) only [vz_all, if_true, if_false, true_or, or_true, eq_self, ite_not, Bool.false_eq_true, ite_self, and_self, true_and, and_true, false_and, and_false, not_true_eq_false, not_false_eq_true, false_or, or_false])
    have hcp := xq_Archive_copy ro 196 xv_SZ J (A := 111) (B := 25) (Or.inr (Or.inr rfl)) (Or.inl rfl) (by omega) I a7
    have hout : ∀ a, a < 111 ∨ 154 ≤ a → vc_all I 111 25 a = I a := fun a ha => vc_all_out I (by omega)
    have hAT : vi_A (vc_all I 111 25) 111 168 := vi_A_cp aA (fun f h1 h2 => vc_all_m I h1 h2) (fun w hw f h1 h2 => vc_all_w I hw h1 h2) (fun w hw f h2 => vc_all_s I hw h2) (fun i hi f h2 => vc_all_n I hi h2) (fun j hj => by rw [hout 168 (by omega)])
    obtain ⟨m, hh, t, lot, L, S, hm, ht, hW, hC, hM⟩ := vx_ex hAT
    obtain ⟨C1, J1, c1, c2, c3, c4⟩ := xq_pass ro 192 xv_SZ hf (A := 111) (Or.inr (Or.inr rfl)) n2 (vc_all I 111 25) J ht (fun a q1 q2 => hout a (by omega)) hC hW
    have hC1 : ∀ a, a ≠ 21 → a < 111 ∨ 154 ≤ a → C1 a = I a := fun a q1 q2 => by rw [c4.1 a q1 (by omega)]; exact hout a q2
    have hcm := xq_Mo_copies ro 198 xv_SZ J1 (A := 169) (B := 168) rfl rfl (by omega) C1
    have m168 : ∀ j, vc_r C1 169 168 304 168 j = I 168 j := fun j => by rw [vc_r_out _ (by omega), hC1 168 (by omega) (by omega)]
    have mO : ∀ a, a ≠ 169 → vc_r C1 169 168 304 a = C1 a := fun a q => vc_r_out _ q
    obtain ⟨M1, d1, d2, d3⟩ := xq_weeksGo ro 192 xv_SZ hf hm n2 (vc_r C1 169 168 304) J1 ht (by rw [mO 167 (by omega), hC1 167 (by omega) (by omega)]) (fun a q1 q2 => by rw [mO a (by omega)]; exact hC1 a (by omega) (by omega)) (hM (vc_r C1 169 168 304) (fun j hj => by rw [m168, hout 168 (by omega)])) hW
    obtain ⟨w1, w2⟩ := vx_Wwk fn m n t _ ht hW
    have hcb := xq_Mo_copies ro 198 xv_SZ J1 (A := 168) (B := 169) rfl rfl (by omega) M1
    have hI2 : ∀ a, a ≠ 21 → a < 111 ∨ 154 ≤ a → a ≠ 167 → a ≠ 168 → a ≠ 169 → a ≠ 185 → a ≠ 186 → vc_r M1 168 169 304 a = I a := fun a q1 q2 q3 q4 q5 q6 q7 => by rw [vc_r_out _ q4, d3.2.2 a q3 q4 q6 q7, mO a q5]; exact hC1 a q1 q2
    have hI27 : ∀ k, k ≠ 43 → k ≠ 44 → vc_r M1 168 169 304 167 k = I 167 k := fun k q1 q2 => by rw [vc_r_out _ (by omega), d3.2.1 k q1 q2, mO 167 (by omega), hC1 167 (by omega) (by omega)]
    have hI28 : ∀ j, j < 304 → vc_r M1 168 169 304 168 j = I 168 j := fun j hj => by rw [vc_r_in _ hj, d3.2.2 169 (by omega) (by omega) (by omega) (by omega), vc_r_in _ hj, hC1 168 (by omega) (by omega)]
    have hfin : vi_all VL (vc_r M1 168 169 304) J1 := by
      have hs := fun a (q1 : a ≠ 21) (q2 : a < 111 ∨ 154 ≤ a) (q3 : a ≠ 167) (q4 : a ≠ 168) (q5 : a ≠ 169) (q6 : a ≠ 185) (q7 : a ≠ 186) => hI2 a q1 q2 q3 q4 q5 q6 q7
      refine ⟨vi_T_c a1 (by rw [hs 1 (by omega) (by omega) (by omega) (by omega) (by omega) (by omega) (by omega)]) (hs 2 (by omega) (by omega) (by omega) (by omega) (by omega) (by omega) (by omega)) (hI27 7 (by omega) (by omega)) (hs 173 (by omega) (by omega) (by omega) (by omega) (by omega) (by omega) (by omega)), vi_P_c a2 (hs 23 (by omega) (by omega) (by omega) (by omega) (by omega) (by omega) (by omega)) (hs 171 (by omega) (by omega) (by omega) (by omega) (by omega) (by omega) (by omega)), vi_Q_c a3 (by rw [hs 3 (by omega) (by omega) (by omega) (by omega) (by omega) (by omega) (by omega)]) (hs 4 (by omega) (by omega) (by omega) (by omega) (by omega) (by omega) (by omega)) (hI27 5 (by omega) (by omega)) (c1 172 (by omega)), vi_A_cp aA (fun f _ _ => by rw [hs 25 (by omega) (by omega) (by omega) (by omega) (by omega) (by omega) (by omega)]) (fun w hw f _ _ => by rw [hs _ (by omega) (by omega) (by omega) (by omega) (by omega) (by omega) (by omega)]) (fun w hw f _ => by rw [hs _ (by omega) (by omega) (by omega) (by omega) (by omega) (by omega) (by omega)]) (fun i hi f _ => by rw [hs _ (by omega) (by omega) (by omega) (by omega) (by omega) (by omega) (by omega)]) hI28, vi_K_c a5 (by rw [hs 0 (by omega) (by omega) (by omega) (by omega) (by omega) (by omega) (by omega)]) (hI27 51 (by omega) (by omega)) (fun f hf => by rw [hs 68 (by omega) (by omega) (by omega) (by omega) (by omega) (by omega) (by omega)]) (fun a b1 b2 => hs a (by omega) (by omega) (by omega) (by omega) (by omega) (by omega) (by omega)) (hs 170 (by omega) (by omega) (by omega) (by omega) (by omega) (by omega) (by omega)), hV I _ (fun a b1 b2 => hs a (by omega) (by omega) (by omega) (by omega) (by omega) (by omega) (by omega)) (hI27 16 (by omega) (by omega)) (fun a b1 b2 => hs a (by omega) (by omega) (by omega) (by omega) (by omega) (by omega) (by omega)) a6, ?_⟩
      have hB0 : vi_B (vc_all I 111 25) := vc_all_B (Or.inr (Or.inr rfl)) (Or.inl rfl) a7
      have h21 : xv_oc 21 ≠ some 8 ∧ xv_oc 21 ≠ some 9 := by decide
      have h167 : xv_oc 167 ≠ some 8 ∧ xv_oc 167 ≠ some 9 := by decide
      have h168 : xv_oc 168 ≠ some 8 ∧ xv_oc 168 ≠ some 9 := by decide
      have h169 : xv_oc 169 ≠ some 8 ∧ xv_oc 169 ≠ some 9 := by decide
      have h185 : xv_oc 185 ≠ some 8 ∧ xv_oc 185 ≠ some 9 := by decide
      have h186 : xv_oc 186 ≠ some 8 ∧ xv_oc 186 ≠ some 9 := by decide
      intro a
      have hb : xv_oc a = some 8 ∨ xv_oc a = some 9 → a ≠ 21 ∧ a ≠ 167 ∧ a ≠ 168 ∧ a ≠ 169 ∧ a ≠ 185 ∧ a ≠ 186 := by
        intro g
        refine ⟨fun q => ?_, fun q => ?_, fun q => ?_, fun q => ?_, fun q => ?_, fun q => ?_⟩
        · rw [q] at g; rcases g with g | g; exact h21.1 g; exact h21.2 g
        · rw [q] at g; rcases g with g | g; exact h167.1 g; exact h167.2 g
        · rw [q] at g; rcases g with g | g; exact h168.1 g; exact h168.2 g
        · rw [q] at g; rcases g with g | g; exact h169.1 g; exact h169.2 g
        · rw [q] at g; rcases g with g | g; exact h185.1 g; exact h185.2 g
        · rw [q] at g; rcases g with g | g; exact h186.1 g; exact h186.2 g
      have hMC : xv_oc a = some 8 ∨ xv_oc a = some 9 → vc_r M1 168 169 304 a = C1 a := fun g => by
        obtain ⟨k1, k2, k3, k4, k5, k6⟩ := hb g
        rw [vc_r_out _ k3, d3.2.2 a k2 k3 k5 k6, mO a k4]
      by_cases ha : 111 ≤ a ∧ a < 134
      · obtain ⟨o1, o2⟩ := vx_oc111 a ha.2 ha.1
        refine ⟨fun g => ?_, fun g => absurd g o2⟩
        rw [hMC (Or.inl g)]
        obtain ⟨w, hw, rfl⟩ := o1 g
        rw [(c3.2.2.2.2 w hw).1]
        split
        · exact Or.inr rfl
        · exact Or.inl rfl
      · have same : xv_oc a = some 8 ∨ xv_oc a = some 9 → vc_r M1 168 169 304 a = vc_all I 111 25 a := fun g => by
          rw [hMC g]; exact c4.1 a (hb g).1 (by omega)
        exact ⟨fun g => by rw [same (Or.inl g)]; exact (hB0 a).1 g, fun g => by rw [same (Or.inr g)]; exact (hB0 a).2 g⟩
    have hC5 : C1 111 5 = nI (vx_wk fn m hh n t (lot, 0, 0, L, S)).2.2.1 := c3.2.2.1
    have hC6 : C1 111 6 = nI (vx_wk fn m hh n t (lot, 0, 0, L, S)).2.2.2.1 := c3.2.2.2.1
    have hM5 : M1 167 43 = nI (vx_wk fn m hh n t (lot, 0, 0, L, S)).2.2.1 := d2.2.2.1
    have hM6 : M1 167 44 = nI (vx_wk fn m hh n t (lot, 0, 0, L, S)).2.2.2.1 := d2.2.2.2.1
    have hCw := c3.2.2.2.2
    have hMw := d2.2.2.2.2.2
    generalize (vx_wk fn m hh n t (lot, 0, 0, L, S)).2 = T at *
    have hsp : xv_evm ro 198 166 [.ref 111] (xv_SZ, xv_mk C1 J1) = some (some (.int (C1 111 5)), (xv_SZ, xv_mk C1 J1)) := by
      rw [xe_Archive_sprouted]
      simp only [xr_all, xf_all, if_true, if_false, true_or, or_true, eq_self, ite_not, Bool.false_eq_true, ite_self, and_self, true_and, and_true, false_and, and_false, not_true_eq_false, not_false_eq_true, xj_Archive_sprouted, xb_Archive_sprouted_0]
    have hgo : xv_evm ro 198 167 [.ref 111] (xv_SZ, xv_mk C1 J1) = some (some (.int (C1 111 6)), (xv_SZ, xv_mk C1 J1)) := by
      rw [xe_Archive_gone]
      simp only [xr_all, xf_all, if_true, if_false, true_or, or_true, eq_self, ite_not, Bool.false_eq_true, ite_self, and_self, true_and, and_true, false_and, and_false, not_true_eq_false, not_false_eq_true, xj_Archive_gone, xb_Archive_gone_0]
    have hbit : ∀ w, w < 10 → xv_evm ro 198 159 [.ref 25, .int (nI w)] (xv_SZ, xv_mk I J) = some (some (.ref (25 + 3 + 2 * w)), (xv_SZ, xv_mk I J)) → m.testBit w = true := by
      intro w hw hk
      obtain ⟨m', m1, m2, m3⟩ := g3
      have e300 := hM I (fun j hj => by rw [hout 168 (by omega)])
      have e5 := e300.2.2.2.2.1
      rw [xu_ne (by omega), xu_ne (by omega), m2] at e5
      obtain rfl : m' = m := (nI_eq (by omega) (by omega)).mp e5
      by_cases hb : m'.testBit w = true
      · exact hb
      · have := xq_told_no ro 197 xv_SZ I J (A := 25) (Or.inl rfl) (nI w) (fun v hv q => by
          have : v = w := ((nI_eq (by omega) (by omega)).mp q).symm
          rw [this, m3 w hw, if_neg hb])
        rw [this] at hk; cases hk
    have i120 : ∀ w, w < 10 → xv_inB (nI (120 + w)) 304 = true := fun w hw => by (simp (disch := omega) only [vz_all, if_true, if_false, true_or, or_true, eq_self, ite_not, Bool.false_eq_true, ite_self, and_self, true_and, and_true, false_and, and_false, not_true_eq_false, not_false_eq_true, false_or, or_false])
    rcases vy_what x1 with h01 | ⟨w, hw, rfl⟩ | ⟨w, hw, rfl⟩ | ⟨y1, y2, y3, y4, y5, y6⟩
    · rcases h01 with rfl | rfl
      · have q1 : ((0 : Int32) < 10) = True := eq_true (by decide)
        have q2 : (0 ≤ (0 : Int32) ∧ (0 : Int32) ≤ 1) = True := eq_true (by decide)
        refine ⟨nI T.2.1, C1, J1, vc_r M1 168 169 304, J1, ?_, ?_, hfin⟩
        · rw [xe_Ct_tried]
          simp only [xr_all, xf_all, if_true, if_false, true_or, or_true, eq_self, ite_not, Bool.false_eq_true, ite_self, and_self, true_and, and_true, false_and, and_false, not_true_eq_false, not_false_eq_true, xj_Ct_tried, xb_Ct_tried_0, xb_Ct_tried_16, xb_Ct_tried_17, xb_Ct_tried_47, xb_Ct_tried_60, xb_Ct_tried_62, xb_Ct_tried_107, xb_Ct_tried_114, xb_Ct_tried_115, xb_Ct_tried_135, xb_Ct_tried_149, xb_Ct_tried_156, q1, e1, e2', hcp, c2, hsp, hC5]
        · rw [xe_Mo_tried]
          simp only [xr_all, xf_all, if_true, if_false, true_or, or_true, eq_self, ite_not, Bool.false_eq_true, ite_self, and_self, true_and, and_true, false_and, and_false, not_true_eq_false, not_false_eq_true, xj_Mo_tried, xb_Mo_tried_0, xb_Mo_tried_41, xb_Mo_tried_63, xb_Mo_tried_65, xb_Mo_tried_92, xb_Mo_tried_104, xb_Mo_tried_125, xb_Mo_tried_133, xq_Mo_in, e3, z1, q2, hcm, d1, hM5, hcb]
      · have q1 : ((1 : Int32) < 10) = True := eq_true (by decide)
        have q2 : (0 ≤ (1 : Int32) ∧ (1 : Int32) ≤ 1) = True := eq_true (by decide)
        refine ⟨nI T.2.2.1, C1, J1, vc_r M1 168 169 304, J1, ?_, ?_, hfin⟩
        · rw [xe_Ct_tried]
          simp only [xr_all, xf_all, if_true, if_false, true_or, or_true, eq_self, ite_not, Bool.false_eq_true, ite_self, and_self, true_and, and_true, false_and, and_false, not_true_eq_false, not_false_eq_true, xj_Ct_tried, xb_Ct_tried_0, xb_Ct_tried_16, xb_Ct_tried_17, xb_Ct_tried_47, xb_Ct_tried_60, xb_Ct_tried_62, xb_Ct_tried_107, xb_Ct_tried_114, xb_Ct_tried_115, xb_Ct_tried_135, xb_Ct_tried_149, xb_Ct_tried_156, q1, z1, e1, e2', hcp, c2, hgo, hC6]
        · rw [xe_Mo_tried]
          simp only [xr_all, xf_all, if_true, if_false, true_or, or_true, eq_self, ite_not, Bool.false_eq_true, ite_self, and_self, true_and, and_true, false_and, and_false, not_true_eq_false, not_false_eq_true, xj_Mo_tried, xb_Mo_tried_0, xb_Mo_tried_41, xb_Mo_tried_63, xb_Mo_tried_65, xb_Mo_tried_92, xb_Mo_tried_104, xb_Mo_tried_125, xb_Mo_tried_133, xq_Mo_in, e3, z1, q2, hcm, d1, hM6, hcb]
    · have q1 : (nI (10 + w) < 10) = False := by (simp (disch := omega) only [vz_all, if_true, if_false, true_or, or_true, eq_self, ite_not, Bool.false_eq_true, ite_self, and_self, true_and, and_true, false_and, and_false, not_true_eq_false, not_false_eq_true, false_or, or_false])
      have q2 : (30 ≤ nI (10 + w)) = False := by (simp (disch := omega) only [vz_all, if_true, if_false, true_or, or_true, eq_self, ite_not, Bool.false_eq_true, ite_self, and_self, true_and, and_true, false_and, and_false, not_true_eq_false, not_false_eq_true, false_or, or_false])
      have q3 : nI (10 + w) - nI (10 + w) / 10 * 10 = nI w := by
        have := pk_rem (a := 10 + w) (d := 10) (by omega) (by omega) (by omega)
        rw [show (10 + w) % 10 = w by omega] at this
        exact this
      have q4 : (0 ≤ nI (10 + w) ∧ nI (10 + w) ≤ 1) = False := by (simp (disch := omega) only [vz_all, if_true, if_false, true_or, or_true, eq_self, ite_not, Bool.false_eq_true, ite_self, and_self, true_and, and_true, false_and, and_false, not_true_eq_false, not_false_eq_true, false_or, or_false])
      have q5 : (10 ≤ nI (10 + w) ∧ nI (10 + w) ≤ 19) = True := by (simp (disch := omega) only [vz_all, if_true, if_false, true_or, or_true, eq_self, ite_not, Bool.false_eq_true, ite_self, and_self, true_and, and_true, false_and, and_false, not_true_eq_false, not_false_eq_true, false_or, or_false])
      have q6 : (20 ≤ nI (10 + w) ∧ nI (10 + w) ≤ 29) = False := by (simp (disch := omega) only [vz_all, if_true, if_false, true_or, or_true, eq_self, ite_not, Bool.false_eq_true, ite_self, and_self, true_and, and_true, false_and, and_false, not_true_eq_false, not_false_eq_true, false_or, or_false])
      have q7 : nI (10 + w) - 10 = nI w := by rw [show (10 : Int32) = nI 10 from rfl, pk_sub (by omega), Nat.add_sub_cancel_left]
      have q8 : (nI (10 + w) < 20) = True := by (simp (disch := omega) only [vz_all, if_true, if_false, true_or, or_true, eq_self, ite_not, Bool.false_eq_true, ite_self, and_self, true_and, and_true, false_and, and_false, not_true_eq_false, not_false_eq_true, false_or, or_false])
      have q9 : (nI (10 + w) = 0) = False := by (simp (disch := omega) only [vz_all, if_true, if_false, true_or, or_true, eq_self, ite_not, Bool.false_eq_true, ite_self, and_self, true_and, and_true, false_and, and_false, not_true_eq_false, not_false_eq_true, false_or, or_false])
      have q10 : (nI (10 + w) = 1) = False := by (simp (disch := omega) only [vz_all, if_true, if_false, true_or, or_true, eq_self, ite_not, Bool.false_eq_true, ite_self, and_self, true_and, and_true, false_and, and_false, not_true_eq_false, not_false_eq_true, false_or, or_false])
      have q11 : (20 ≤ nI (10 + w)) = False := by (simp (disch := omega) only [vz_all, if_true, if_false, true_or, or_true, eq_self, ite_not, Bool.false_eq_true, ite_self, and_self, true_and, and_true, false_and, and_false, not_true_eq_false, not_false_eq_true, false_or, or_false])
      have q12 : 120 + nI (10 + w) - 10 = nI (120 + w) := by
        rw [show (120 : Int32) = nI 120 from rfl, nI_add, show (10 : Int32) = nI 10 from rfl, pk_sub (by omega), show 120 + (10 + w) - 10 = 120 + w by omega]
      rcases vt_or ro 197 xv_SZ I J g3 (nI w) with ⟨w', hw', hww, k1, -⟩ | ⟨k1, k2⟩
      · obtain rfl : w = w' := (nI_eq (by omega) (by omega)).mp hww
        have hb := hbit w hw k1
        have htr := xq_told ro 197 xv_SZ C1 J1 (A := 111) (Or.inr (Or.inr rfl)) hw (by rw [(hCw w hw).1, if_pos hb])
        have hN := vAr_W (A := 111) (Or.inr (Or.inr rfl)) hw
        have hly := xq_Witness_layers ro 198 xv_SZ C1 J1 hN
        rw [(hCw w hw).2.2.1] at hly
        have k2' : xv_evm ro 198 47 [.ref 167, .int (nI w)] (xv_SZ, xv_mk C1 J1) = some (some (.int 1), (xv_SZ, xv_mk C1 J1)) := by
          have e300 := hM I (fun j hj => by rw [hout 168 (by omega)])
          have e5 := e300.2.2.2.2.1
          rw [xu_ne (by omega), xu_ne (by omega)] at e5
          have := xq_Mo_isWitness ro 197 xv_SZ C1 J1 (m := m) (w := w) (by rw [hC1 168 (by omega) (by omega)]; exact e5) hm hw
          rw [vz_b1 hb] at this
          exact this
        refine ⟨nI (T.2.2.2.1 w), C1, J1, vc_r M1 168 169 304, J1, ?_, ?_, hfin⟩
        · rw [xe_Ct_tried]
          simp only [xr_all, xf_all, if_true, if_false, true_or, or_true, eq_self, ite_not, Bool.false_eq_true, ite_self, and_self, true_and, and_true, false_and, and_false, not_true_eq_false, not_false_eq_true, xj_Ct_tried, xb_Ct_tried_0, xb_Ct_tried_16, xb_Ct_tried_17, xb_Ct_tried_47, xb_Ct_tried_60, xb_Ct_tried_62, xb_Ct_tried_107, xb_Ct_tried_114, xb_Ct_tried_115, xb_Ct_tried_135, xb_Ct_tried_149, xb_Ct_tried_156, q1, q2, q3, z1, z10, e1, e2', k1, hcp, c2, htr, vW_f hN, q11, hly]
        · rw [xe_Mo_tried]
          simp only [xr_all, xf_all, if_true, if_false, true_or, or_true, eq_self, ite_not, Bool.false_eq_true, ite_self, and_self, true_and, and_true, false_and, and_false, not_true_eq_false, not_false_eq_true, xj_Mo_tried, xb_Mo_tried_0, xb_Mo_tried_41, xb_Mo_tried_63, xb_Mo_tried_65, xb_Mo_tried_92, xb_Mo_tried_104, xb_Mo_tried_125, xb_Mo_tried_133, xq_Mo_in, e3, z1, q4, q5, q7, k2', hcm, d1, q9, q10, q11, q12, i120 w hw, nI_clamp (show 120 + w < 2 ^ 31 by omega), (hMw w hw).2.1, hcb]
      · refine ⟨-1, I, J, I, J, ?_, ?_, hI⟩
        · rw [xe_Ct_tried]
          simp only [xr_all, xf_all, if_true, if_false, true_or, or_true, eq_self, ite_not, Bool.false_eq_true, ite_self, and_self, true_and, and_true, false_and, and_false, not_true_eq_false, not_false_eq_true, xj_Ct_tried, xb_Ct_tried_0, xb_Ct_tried_16, xb_Ct_tried_17, xb_Ct_tried_47, xb_Ct_tried_60, xb_Ct_tried_62, xb_Ct_tried_107, xb_Ct_tried_114, xb_Ct_tried_115, xb_Ct_tried_135, xb_Ct_tried_149, xb_Ct_tried_156, q1, q2, q3, z1, z10, e1, e2', k1]
        · rw [xe_Mo_tried]
          simp only [xr_all, xf_all, if_true, if_false, true_or, or_true, eq_self, ite_not, Bool.false_eq_true, ite_self, and_self, true_and, and_true, false_and, and_false, not_true_eq_false, not_false_eq_true, xj_Mo_tried, xb_Mo_tried_0, xb_Mo_tried_41, xb_Mo_tried_63, xb_Mo_tried_65, xb_Mo_tried_92, xb_Mo_tried_104, xb_Mo_tried_125, xb_Mo_tried_133, xq_Mo_in, e3, z1, q4, q5, q6, q7, k2]
    · have q1 : (nI (20 + w) < 10) = False := by (simp (disch := omega) only [vz_all, if_true, if_false, true_or, or_true, eq_self, ite_not, Bool.false_eq_true, ite_self, and_self, true_and, and_true, false_and, and_false, not_true_eq_false, not_false_eq_true, false_or, or_false])
      have q2 : (30 ≤ nI (20 + w)) = False := by (simp (disch := omega) only [vz_all, if_true, if_false, true_or, or_true, eq_self, ite_not, Bool.false_eq_true, ite_self, and_self, true_and, and_true, false_and, and_false, not_true_eq_false, not_false_eq_true, false_or, or_false])
      have q3 : nI (20 + w) - nI (20 + w) / 10 * 10 = nI w := by
        have := pk_rem (a := 20 + w) (d := 10) (by omega) (by omega) (by omega)
        rw [show (20 + w) % 10 = w by omega] at this
        exact this
      have q4 : (0 ≤ nI (20 + w) ∧ nI (20 + w) ≤ 1) = False := by (simp (disch := omega) only [vz_all, if_true, if_false, true_or, or_true, eq_self, ite_not, Bool.false_eq_true, ite_self, and_self, true_and, and_true, false_and, and_false, not_true_eq_false, not_false_eq_true, false_or, or_false])
      have q5 : (10 ≤ nI (20 + w) ∧ nI (20 + w) ≤ 19) = False := by (simp (disch := omega) only [vz_all, if_true, if_false, true_or, or_true, eq_self, ite_not, Bool.false_eq_true, ite_self, and_self, true_and, and_true, false_and, and_false, not_true_eq_false, not_false_eq_true, false_or, or_false])
      have q6 : (20 ≤ nI (20 + w) ∧ nI (20 + w) ≤ 29) = True := by (simp (disch := omega) only [vz_all, if_true, if_false, true_or, or_true, eq_self, ite_not, Bool.false_eq_true, ite_self, and_self, true_and, and_true, false_and, and_false, not_true_eq_false, not_false_eq_true, false_or, or_false])
      have q7 : nI (20 + w) - 20 = nI w := by rw [show (20 : Int32) = nI 20 from rfl, pk_sub (by omega), Nat.add_sub_cancel_left]
      have q9 : (nI (20 + w) = 0) = False := by (simp (disch := omega) only [vz_all, if_true, if_false, true_or, or_true, eq_self, ite_not, Bool.false_eq_true, ite_self, and_self, true_and, and_true, false_and, and_false, not_true_eq_false, not_false_eq_true, false_or, or_false])
      have q10 : (nI (20 + w) = 1) = False := by (simp (disch := omega) only [vz_all, if_true, if_false, true_or, or_true, eq_self, ite_not, Bool.false_eq_true, ite_self, and_self, true_and, and_true, false_and, and_false, not_true_eq_false, not_false_eq_true, false_or, or_false])
      have q11 : (20 ≤ nI (20 + w)) = True := by (simp (disch := omega) only [vz_all, if_true, if_false, true_or, or_true, eq_self, ite_not, Bool.false_eq_true, ite_self, and_self, true_and, and_true, false_and, and_false, not_true_eq_false, not_false_eq_true, false_or, or_false])
      have q29 : (nI (20 + w) ≤ 29) = True := by (simp (disch := omega) only [vz_all, if_true, if_false, true_or, or_true, eq_self, ite_not, Bool.false_eq_true, ite_self, and_self, true_and, and_true, false_and, and_false, not_true_eq_false, not_false_eq_true, false_or, or_false])
      rcases vt_or ro 197 xv_SZ I J g3 (nI w) with ⟨w', hw', hww, k1, -⟩ | ⟨k1, k2⟩
      · obtain rfl : w = w' := (nI_eq (by omega) (by omega)).mp hww
        have hb := hbit w hw k1
        have htr := xq_told ro 197 xv_SZ C1 J1 (A := 111) (Or.inr (Or.inr rfl)) hw (by rw [(hCw w hw).1, if_pos hb])
        have hN := vAr_W (A := 111) (Or.inr (Or.inr rfl)) hw
        have hL12 := (w2.2 w hw).2.1
        have hfi := xq_Witness_first ro 197 xv_SZ C1 J1 hN (hCw w hw).2.2.1 hL12 (m := 12) (by omega)
        have hcut := vs_sum_cut (f := fun i => C1 (111 + 3 + 2 * w + 1) i) (n := T.2.2.2.1 w) (12 - T.2.2.2.1 w)
        rw [show T.2.2.2.1 w + (12 - T.2.2.2.1 w) = 12 by omega] at hcut
        rw [hcut, vs_sum_c (g := fun i => nI (T.2.2.2.2 w i)) (fun i hi => by rw [show 111 + 3 + 2 * w + 1 = 111 + 4 + 2 * w by omega]; exact (hCw w hw).2.2.2 i hi), show nI 12 = (12 : Int32) from rfl] at hfi
        have hto := xq_together ro 197 xv_SZ M1 J1 hw (hMw w hw).2.1 hL12
        rw [vs_sum_c (g := fun i => nI (T.2.2.2.2 w i)) (fun i hi => (hMw w hw).2.2 i hi)] at hto
        have k2' : xv_evm ro 198 47 [.ref 167, .int (nI w)] (xv_SZ, xv_mk C1 J1) = some (some (.int 1), (xv_SZ, xv_mk C1 J1)) := by
          have e300 := hM I (fun j hj => by rw [hout 168 (by omega)])
          have e5 := e300.2.2.2.2.1
          rw [xu_ne (by omega), xu_ne (by omega)] at e5
          have := xq_Mo_isWitness ro 197 xv_SZ C1 J1 (m := m) (w := w) (by rw [hC1 168 (by omega) (by omega)]; exact e5) hm hw
          rw [vz_b1 hb] at this
          exact this
        refine ⟨vs_sum (fun i => nI (T.2.2.2.2 w i)) (T.2.2.2.1 w), C1, J1, vc_r M1 168 169 304, J1, ?_, ?_, hfin⟩
        · rw [xe_Ct_tried]
          simp only [xr_all, xf_all, if_true, if_false, true_or, or_true, eq_self, ite_not, Bool.false_eq_true, ite_self, and_self, true_and, and_true, false_and, and_false, not_true_eq_false, not_false_eq_true, xj_Ct_tried, xb_Ct_tried_0, xb_Ct_tried_16, xb_Ct_tried_17, xb_Ct_tried_47, xb_Ct_tried_60, xb_Ct_tried_62, xb_Ct_tried_107, xb_Ct_tried_114, xb_Ct_tried_115, xb_Ct_tried_135, xb_Ct_tried_149, xb_Ct_tried_156, q1, q2, q3, z1, z10, e1, e2', k1, hcp, c2, htr, vW_f hN, q11, hfi]
        · rw [xe_Mo_tried]
          simp only [xr_all, xf_all, if_true, if_false, true_or, or_true, eq_self, ite_not, Bool.false_eq_true, ite_self, and_self, true_and, and_true, false_and, and_false, not_true_eq_false, not_false_eq_true, xj_Mo_tried, xb_Mo_tried_0, xb_Mo_tried_41, xb_Mo_tried_63, xb_Mo_tried_65, xb_Mo_tried_92, xb_Mo_tried_104, xb_Mo_tried_125, xb_Mo_tried_133, xq_Mo_in, e3, z1, q4, q5, q6, q7, q29, k2', hcm, d1, q9, q10, q11, hto, hcb]
      · refine ⟨-1, I, J, I, J, ?_, ?_, hI⟩
        · rw [xe_Ct_tried]
          simp only [xr_all, xf_all, if_true, if_false, true_or, or_true, eq_self, ite_not, Bool.false_eq_true, ite_self, and_self, true_and, and_true, false_and, and_false, not_true_eq_false, not_false_eq_true, xj_Ct_tried, xb_Ct_tried_0, xb_Ct_tried_16, xb_Ct_tried_17, xb_Ct_tried_47, xb_Ct_tried_60, xb_Ct_tried_62, xb_Ct_tried_107, xb_Ct_tried_114, xb_Ct_tried_115, xb_Ct_tried_135, xb_Ct_tried_149, xb_Ct_tried_156, q1, q2, q3, z1, z10, e1, e2', k1]
        · rw [xe_Mo_tried]
          simp only [xr_all, xf_all, if_true, if_false, true_or, or_true, eq_self, ite_not, Bool.false_eq_true, ite_self, and_self, true_and, and_true, false_and, and_false, not_true_eq_false, not_false_eq_true, xj_Mo_tried, xb_Mo_tried_0, xb_Mo_tried_41, xb_Mo_tried_63, xb_Mo_tried_65, xb_Mo_tried_92, xb_Mo_tried_104, xb_Mo_tried_125, xb_Mo_tried_133, xq_Mo_in, e3, z1, q4, q5, q6, q7, k2]
    · refine ⟨-1, I, J, I, J, ?_, ?_, hI⟩
      · rw [xe_Ct_tried]
        rcases y3 with y3 | ⟨y3, y7⟩
        · simp only [xr_all, xf_all, if_true, if_false, true_or, or_true, eq_self, ite_not, Bool.false_eq_true, ite_self, and_self, true_and, and_true, false_and, and_false, not_true_eq_false, not_false_eq_true, xj_Ct_tried, xb_Ct_tried_0, xb_Ct_tried_16, xb_Ct_tried_17, xb_Ct_tried_47, xb_Ct_tried_60, xb_Ct_tried_62, xb_Ct_tried_107, xb_Ct_tried_114, xb_Ct_tried_115, xb_Ct_tried_135, xb_Ct_tried_149, xb_Ct_tried_156, y1, y2, y3, e1, e2']
        · simp only [xr_all, xf_all, if_true, if_false, true_or, or_true, eq_self, ite_not, Bool.false_eq_true, ite_self, and_self, true_and, and_true, false_and, and_false, not_true_eq_false, not_false_eq_true, xj_Ct_tried, xb_Ct_tried_0, xb_Ct_tried_16, xb_Ct_tried_17, xb_Ct_tried_47, xb_Ct_tried_60, xb_Ct_tried_62, xb_Ct_tried_107, xb_Ct_tried_114, xb_Ct_tried_115, xb_Ct_tried_135, xb_Ct_tried_149, xb_Ct_tried_156, y1, y2, y3, y7, e1, e2']
      · rw [xe_Mo_tried]
        simp only [xr_all, xf_all, if_true, if_false, true_or, or_true, eq_self, ite_not, Bool.false_eq_true, ite_self, and_self, true_and, and_true, false_and, and_false, not_true_eq_false, not_false_eq_true, xj_Mo_tried, xb_Mo_tried_0, xb_Mo_tried_41, xb_Mo_tried_63, xb_Mo_tried_65, xb_Mo_tried_92, xb_Mo_tried_104, xb_Mo_tried_125, xb_Mo_tried_133, xq_Mo_in, e3, z1, y4, y5, y6]
