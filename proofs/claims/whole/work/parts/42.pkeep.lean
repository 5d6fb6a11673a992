/-! PAIRS: keep, undo -/
theorem vi_A_cp {I I' : Nat → Nat → Int32} {A A' B B' : Nat} (h : vi_A I A B) (h0 : ∀ f, 2 ≤ f → f < 5 → I' A' f = I A f) (h1 : ∀ w, w < 10 → ∀ f, 1 ≤ f → f ≤ 3 → I' (A' + 3 + 2 * w) f = I (A + 3 + 2 * w) f) (h2 : ∀ w, w < 10 → ∀ i, i < 12 → I' (A' + 4 + 2 * w) i = I (A + 4 + 2 * w) i)
    (h3 : ∀ i, i < 20 → ∀ f, f < 8 → I' (A' + 23 + i) f = I (A + 23 + i) f) (h4 : ∀ j, j < 304 → I' B' j = I B j) : vi_A I' A' B' := by
  obtain ⟨⟨n, a1, a2, a3, a4⟩, ⟨⟨q1, q2, q3, q4⟩, q5, q6, q7, q8⟩, ⟨m, m1, m2, m3⟩, g4⟩ := h
  refine ⟨⟨n, a1, by rw [h0 2 (by omega) (by omega)]; exact a2, by rw [h4 301 (by omega)]; exact a3, fun i hi => ?_⟩, ⟨⟨q1, q2, by rw [h0 3 (by omega) (by omega)]; exact q3, by rw [h4 302 (by omega)]; exact q4⟩, q5, q6, by rw [h0 4 (by omega) (by omega)]; exact q7, by rw [h4 303 (by omega)]; exact q8⟩,
    ⟨m, m1, by rw [h4 300 (by omega)]; exact m2, fun w hw => by rw [h1 w hw 3 (by omega) (by omega)]; exact m3 w hw⟩, fun w hw => ?_⟩
  · obtain ⟨b1, b2, b3, b4, b5⟩ := a4 i hi
    refine ⟨fun f hf => ?_, ?_, ?_, ?_, ?_⟩
    · rw [h3 i (by omega) f hf, h4 _ (by omega)]; exact b1 f hf
    · rw [h4 _ (by omega)]; exact b2
    · rw [h4 _ (by omega)]; exact b3
    · rw [h4 _ (by omega)]; exact b4
    · rw [h4 _ (by omega)]; exact b5
  · obtain ⟨⟨r1, r2, r3, r4⟩, r5, r6, r7, r8, r9⟩ := g4 w hw
    refine ⟨⟨r1, r2, ?_, ?_⟩, r5, r6, ?_, ?_, fun i hi => ?_⟩
    · rw [h1 w hw 2 (by omega) (by omega)]; exact r3
    · rw [h4 _ (by omega)]; exact r4
    · rw [h1 w hw 1 (by omega) (by omega)]; exact r7
    · rw [h4 _ (by omega)]; exact r8
    · obtain ⟨s, s1, s2, s3, s4⟩ := r9 i hi
      exact ⟨s, s1, s2, by rw [h2 w hw i (by omega)]; exact s3, by rw [h4 _ (by omega)]; exact s4⟩
theorem vc_all_out (I : Nat → Nat → Int32) {A B a : Nat} (h : a < A ∨ A + 43 ≤ a) : vc_all I A B a = I a := by
  funext j
  have h1 : ¬ (A + 3 ≤ a ∧ a < A + 3 + 2 * 10 ∧ (if (a - A) % 2 = 1 then 1 ≤ j ∧ j ≤ 3 else j < 12)) := by omega
  have h2 : ¬ (A + 23 ≤ a ∧ a < A + 23 + 20 ∧ j < 8) := by omega
  unfold vc_all
  (repeat (first | rw [xu_ne2 (by omega)] | rw [xu_ne (by omega)] | rw [xu_eq]))
  simp only [vc_a, h1, h2, if_false]
theorem vc_all_w (I : Nat → Nat → Int32) {A B w f : Nat} (hw : w < 10) (h1 : 1 ≤ f) (h2 : f ≤ 3) : vc_all I A B (A + 3 + 2 * w) f = I (B + 3 + 2 * w) f := by
  unfold vc_all
  (repeat (first | rw [xu_ne2 (by omega)] | rw [xu_ne (by omega)] | rw [xu_eq]))
  have e1 : (A + 3 + 2 * w - A) % 2 = 1 := by omega
  have g1 : A + 3 ≤ A + 3 + 2 * w ∧ A + 3 + 2 * w < A + 3 + 2 * 10 ∧ (if (A + 3 + 2 * w - A) % 2 = 1 then 1 ≤ f ∧ f ≤ 3 else f < 12) := by rw [if_pos e1]; omega
  simp only [vc_a]
  rw [if_pos g1, show B + (A + 3 + 2 * w - A) = B + 3 + 2 * w by omega]
theorem vc_all_s (I : Nat → Nat → Int32) {A B w f : Nat} (hw : w < 10) (h2 : f < 12) : vc_all I A B (A + 4 + 2 * w) f = I (B + 4 + 2 * w) f := by
  unfold vc_all
  (repeat (first | rw [xu_ne2 (by omega)] | rw [xu_ne (by omega)] | rw [xu_eq]))
  have e1 : ¬ (A + 4 + 2 * w - A) % 2 = 1 := by omega
  have g1 : A + 3 ≤ A + 4 + 2 * w ∧ A + 4 + 2 * w < A + 3 + 2 * 10 ∧ (if (A + 4 + 2 * w - A) % 2 = 1 then 1 ≤ f ∧ f ≤ 3 else f < 12) := by rw [if_neg e1]; omega
  simp only [vc_a]
  rw [if_pos g1, show B + (A + 4 + 2 * w - A) = B + 4 + 2 * w by omega]
theorem vc_all_n (I : Nat → Nat → Int32) {A B i f : Nat} (hi : i < 20) (h2 : f < 8) : vc_all I A B (A + 23 + i) f = I (B + 23 + i) f := by
  unfold vc_all
  (repeat (first | rw [xu_ne2 (by omega)] | rw [xu_ne (by omega)] | rw [xu_eq]))
  have g1 : ¬ (A + 3 ≤ A + 23 + i ∧ A + 23 + i < A + 3 + 2 * 10 ∧ (if (A + 23 + i - A) % 2 = 1 then 1 ≤ f ∧ f ≤ 3 else f < 12)) := by omega
  have g2 : A + 23 ≤ A + 23 + i ∧ A + 23 + i < A + 23 + 20 ∧ f < 8 := by omega
  simp only [vc_a]
  rw [if_neg g1, if_pos g2, show B + (A + 23 + i - A) = B + 23 + i by omega]
theorem vc_all_m (I : Nat → Nat → Int32) {A B f : Nat} (h1 : 2 ≤ f) (h2 : f < 5) : vc_all I A B A f = I B f := by
  unfold vc_all
  match f, h1, h2 with
  | 2, _, _ => (repeat (first | rw [xu_ne2 (by omega)] | rw [xu_ne (by omega)] | rw [xu_eq]))
  | 3, _, _ => (repeat (first | rw [xu_ne2 (by omega)] | rw [xu_ne (by omega)] | rw [xu_eq]))
  | 4, _, _ => (repeat (first | rw [xu_ne2 (by omega)] | rw [xu_ne (by omega)] | rw [xu_eq]))
theorem vc_all_B {I : Nat → Nat → Int32} {A B : Nat} (hA : vAr A) (hB : vAr B) (h : vi_B I) : vi_B (vc_all I A B) := by
  intro a
  by_cases ha : a < A ∨ A + 43 ≤ a
  · rw [vc_all_out I ha]; exact h a
  · have hcase : a = A ∨ a = A + 1 ∨ a = A + 2 ∨ (∃ w, w < 10 ∧ a = A + 3 + 2 * w) ∨ (∃ w, w < 10 ∧ a = A + 3 + 2 * w + 1) ∨ ∃ i, i < 20 ∧ a = A + 23 + i := by
      by_cases c1 : a < A + 3
      · omega
      · by_cases c2 : a < A + 23
        · by_cases c3 : (a - A) % 2 = 1
          · exact Or.inr (Or.inr (Or.inr (Or.inl ⟨(a - A - 3) / 2, by omega, by omega⟩)))
          · exact Or.inr (Or.inr (Or.inr (Or.inr (Or.inl ⟨(a - A - 4) / 2, by omega, by omega⟩))))
        · exact Or.inr (Or.inr (Or.inr (Or.inr (Or.inr ⟨a - A - 23, by omega, by omega⟩))))
    rcases hcase with rfl | rfl | rfl | ⟨w, hw, rfl⟩ | ⟨w, hw, rfl⟩ | ⟨i, hi, rfl⟩
    · have e := (vAr_f hA).2.2.2.2.2.2.2.1
      exact ⟨fun q => (by rw [e] at q; cases q), fun q => (by rw [e] at q; cases q)⟩
    · have e := (vAr_f hA).2.2.2.2.2.2.2.2.1
      have e2 : xv_oc (A + 1) = none := by rcases hA with rfl | rfl | rfl <;> rfl
      exact ⟨fun q => (by rw [e2] at q; cases q), fun q => (by rw [e2] at q; cases q)⟩
    · have e2 : xv_oc (A + 2) = none := by rcases hA with rfl | rfl | rfl <;> rfl
      exact ⟨fun q => (by rw [e2] at q; cases q), fun q => (by rw [e2] at q; cases q)⟩
    · have e := (vW_f (vAr_W hA hw)).2.2.2.2.1
      refine ⟨fun _ => ?_, fun q => (by rw [e] at q; cases q)⟩
      rw [vc_all_w I hw (by omega) (by omega)]
      exact (h _).1 (vW_f (vAr_W hB hw)).2.2.2.2.1
    · have e2 : xv_oc (A + 3 + 2 * w + 1) = none := by
        have := (vAr_W hA hw).2
        simp [xv_oc, this]
      exact ⟨fun q => (by rw [e2] at q; cases q), fun q => (by rw [e2] at q; cases q)⟩
    · have e := (vN_f (vAr_N hA hi)).2.2.2.2.2.2.2.2
      refine ⟨fun q => (by rw [e] at q; cases q), fun _ => ?_⟩
      rw [vc_all_n I hi (by omega), vc_all_n I hi (by omega)]
      exact (h _).2 (vN_f (vAr_N hB hi)).2.2.2.2.2.2.2.2
theorem vc_r_out (I : Nat → Nat → Int32) {A B n a : Nat} (h : a ≠ A) : vc_r I A B n a = I a := by
  funext j; simp [vc_r, h]
theorem vc_r_in (I : Nat → Nat → Int32) {A B n j : Nat} (h : j < n) : vc_r I A B n A j = I B j := by
  simp [vc_r, h]
theorem xq_Archive_said (ro : xv_Ro) (d : Nat) (z : Nat × Nat) (I : Nat → Nat → Int32) (J : Nat → Nat → Int64) : xv_evm ro d 163 [.ref 25] (z, xv_mk I J) = some (some (.int (I 25 2)), (z, xv_mk I J)) := by
  rw [xe_Archive_said]
  simp only [xr_all, xf_all, if_true, if_false, true_or, or_true, eq_self, ite_not, Bool.false_eq_true, ite_self, and_self, true_and, and_true, false_and, and_false, not_true_eq_false, not_false_eq_true, xj_Archive_said, xb_Archive_said_0]
theorem xp_28 (VL : xv_LP) (hV : vi_Lc VL) : xl_P28 (vi_all VL) := by
  intro ro I J hro hI
  obtain ⟨a1, a2, a3, a4, a5, a6, a7⟩ := id hI
  obtain ⟨⟨n, n1, n2, n3, n4⟩, -⟩ := id a4
  refine ⟨nI n, xv_u2 (vc_all I 68 25) 0 9 1, J, vc_r (xv_u2 (xv_u2 (vc_all I 68 25) 0 9 1) 167 51 1) 170 168 304, J, ?_, ?_, ?_⟩
  · rw [xe_Ct_keep]
    have e1 : xv_u2 (vc_all I 68 25) 0 9 1 25 2 = nI n := by (repeat (first | rw [xu_ne2 (by omega)] | rw [xu_ne (by omega)] | rw [xu_eq])); rw [vc_all_out I (by omega)]; exact n2
    simp only [xr_all, xf_all, if_true, if_false, true_or, or_true, eq_self, ite_not, Bool.false_eq_true, ite_self, and_self, true_and, and_true, false_and, and_false, not_true_eq_false, not_false_eq_true, xj_Ct_keep, xb_Ct_keep_0, xq_Archive_copy ro 196 xv_SZ J (A := 68) (B := 25) (Or.inr (Or.inl rfl)) (Or.inl rfl) (by omega) I a7, xq_Archive_said, e1]
  · rw [xe_Mo_keep]
    have e1 : vc_r (xv_u2 (xv_u2 (vc_all I 68 25) 0 9 1) 167 51 1) 170 168 304 168 301 = nI n := by
      rw [vc_r_out _ (by omega)]; (repeat (first | rw [xu_ne2 (by omega)] | rw [xu_ne (by omega)] | rw [xu_eq])); rw [vc_all_out I (by omega)]; exact n3
    have h2 : xv_inB 301 304 = true := by decide
    have h3 : (301 : Int32).toNatClampNeg = 301 := by decide
    simp only [xr_all, xf_all, if_true, if_false, true_or, or_true, eq_self, ite_not, Bool.false_eq_true, ite_self, and_self, true_and, and_true, false_and, and_false, not_true_eq_false, not_false_eq_true, xj_Mo_keep, xb_Mo_keep_0, xq_Mo_copies ro 198 xv_SZ J (A := 170) (B := 168) rfl rfl (by omega), e1, h2, h3]
  · have hr : ∀ a, a ≠ 170 → a ≠ 0 → a ≠ 167 → (a < 68 ∨ 111 ≤ a) → vc_r (xv_u2 (xv_u2 (vc_all I 68 25) 0 9 1) 167 51 1) 170 168 304 a = I a := by
      intro a h1 h2 h3 h4
      rw [vc_r_out _ h1, xu_ne h3, xu_ne h2, vc_all_out I (by omega)]
    have hc : ∀ j, j ≠ 51 → vc_r (xv_u2 (xv_u2 (vc_all I 68 25) 0 9 1) 167 51 1) 170 168 304 167 j = I 167 j := by
      intro j h1
      rw [vc_r_out _ (by omega), xu_ne2 (by omega), xu_ne (by omega), vc_all_out I (by omega)]
    have hb : ∀ a, 68 ≤ a → a < 111 → vc_r (xv_u2 (xv_u2 (vc_all I 68 25) 0 9 1) 167 51 1) 170 168 304 a = vc_all I 68 25 a := by
      intro a h1 h2
      rw [vc_r_out _ (by omega), xu_ne (by omega), xu_ne (by omega)]
    refine ⟨vi_T_c a1 (by rw [hr 1 (by omega) (by omega) (by omega) (by omega)]) (hr _ (by omega) (by omega) (by omega) (by omega)) (hc 7 (by omega)) (hr _ (by omega) (by omega) (by omega) (by omega)), vi_P_c a2 (hr _ (by omega) (by omega) (by omega) (by omega)) (hr _ (by omega) (by omega) (by omega) (by omega)),
      vi_Q_c a3 (by rw [hr 3 (by omega) (by omega) (by omega) (by omega)]) (hr _ (by omega) (by omega) (by omega) (by omega)) (hc 5 (by omega)) rfl, vi_A_c a4 (fun f hf => by rw [hr 25 (by omega) (by omega) (by omega) (by omega)]) (fun a ha hb => hr _ (by omega) (by omega) (by omega) (by omega)) (hr _ (by omega) (by omega) (by omega) (by omega)),
      Or.inr ⟨?_, ?_, vi_A_cp a4 (fun f h1 h2 => ?_) (fun w hw f h1 h2 => ?_) (fun w hw f h2 => ?_) (fun i hi f h2 => ?_) (fun j hj => ?_)⟩, hV I _ (fun a ha hb => hr _ (by omega) (by omega) (by omega) (by omega)) (hc 16 (by omega)) (fun a ha hb => hr _ (by omega) (by omega) (by omega) (by omega)) a6, ?_⟩
    · rw [vc_r_out _ (by omega)]; (repeat (first | rw [xu_ne2 (by omega)] | rw [xu_ne (by omega)] | rw [xu_eq]))
    · rw [vc_r_out _ (by omega)]; (repeat (first | rw [xu_ne2 (by omega)] | rw [xu_ne (by omega)] | rw [xu_eq]))
    · rw [hb 68 (by omega) (by omega)]; exact vc_all_m I h1 h2
    · rw [hb _ (by omega) (by omega)]; exact vc_all_w I hw h1 h2
    · rw [hb _ (by omega) (by omega)]; exact vc_all_s I hw h2
    · rw [hb _ (by omega) (by omega)]; exact vc_all_n I hi h2
    · rw [vc_r_in _ hj]; (repeat (first | rw [xu_ne2 (by omega)] | rw [xu_ne (by omega)] | rw [xu_eq])); rw [vc_all_out I (by omega)]
    · exact vi_B_c (vi_B_n (vi_B_n (vc_all_B (Or.inr (Or.inl rfl)) (Or.inl rfl) a7) (by decide) (by decide)) (by decide) (by decide)) (fun a ha => vc_r_out _ (by rintro rfl; revert ha; decide))
theorem xp_29 (VL : xv_LP) (hV : vi_Lc VL) : xl_P29 (vi_all VL) := by
  intro ro I J hro hI
  obtain ⟨a1, a2, a3, a4, a5, a6, a7⟩ := id hI
  rcases a5 with ⟨k1, k2⟩ | ⟨k1, k2, k3⟩
  · refine ⟨0, I, J, I, J, ?_, ?_, hI⟩
    · rw [xe_Ct_undo]
      simp only [xr_all, xf_all, if_true, if_false, true_or, or_true, eq_self, ite_not, Bool.false_eq_true, ite_self, and_self, true_and, and_true, false_and, and_false, not_true_eq_false, not_false_eq_true, xj_Ct_undo, xb_Ct_undo_0, xb_Ct_undo_18, k1]
    · rw [xe_Mo_undo]
      simp only [xr_all, xf_all, if_true, if_false, true_or, or_true, eq_self, ite_not, Bool.false_eq_true, ite_self, and_self, true_and, and_true, false_and, and_false, not_true_eq_false, not_false_eq_true, xj_Mo_undo, xb_Mo_undo_0, xb_Mo_undo_9, k2]
  · refine ⟨1, vc_all I 25 68, J, vc_r (vc_all I 25 68) 168 170 304, J, ?_, ?_, ?_⟩
    · rw [xe_Ct_undo]
      have e1 : vc_all I 25 68 0 9 = 1 := by rw [vc_all_out I (by omega)]; exact k1
      simp only [xr_all, xf_all, if_true, if_false, true_or, or_true, eq_self, ite_not, Bool.false_eq_true, ite_self, and_self, true_and, and_true, false_and, and_false, not_true_eq_false, not_false_eq_true, xj_Ct_undo, xb_Ct_undo_0, xb_Ct_undo_18, k1, xq_Archive_copy ro 196 xv_SZ J (A := 25) (B := 68) (Or.inl rfl) (Or.inr (Or.inl rfl)) (by omega) I a7, e1]
    · rw [xe_Mo_undo]
      have e1 : vc_all I 25 68 167 51 = 1 := by rw [vc_all_out I (by omega)]; exact k2
      simp only [xr_all, xf_all, if_true, if_false, true_or, or_true, eq_self, ite_not, Bool.false_eq_true, ite_self, and_self, true_and, and_true, false_and, and_false, not_true_eq_false, not_false_eq_true, xj_Mo_undo, xb_Mo_undo_0, xb_Mo_undo_9, xq_Mo_copies ro 198 xv_SZ J (A := 168) (B := 170) rfl rfl (by omega), e1]
    · have hr : ∀ a, a ≠ 168 → (a < 25 ∨ 68 ≤ a) → vc_r (vc_all I 25 68) 168 170 304 a = I a := by
        intro a h1 h4
        rw [vc_r_out _ h1, vc_all_out I (by omega)]
      have hb : ∀ a, a < 168 → vc_r (vc_all I 25 68) 168 170 304 a = vc_all I 25 68 a := fun a h1 => vc_r_out _ (by omega)
      refine ⟨vi_T_c a1 (by rw [hr 1 (by omega) (by omega)]) (hr _ (by omega) (by omega)) (by rw [hr 167 (by omega) (by omega)]) (hr _ (by omega) (by omega)), vi_P_c a2 (hr _ (by omega) (by omega)) (hr _ (by omega) (by omega)), vi_Q_c a3 (by rw [hr 3 (by omega) (by omega)]) (hr _ (by omega) (by omega)) (by rw [hr 167 (by omega) (by omega)]) rfl,
        vi_A_cp k3 (fun f h1 h2 => ?_) (fun w hw f h1 h2 => ?_) (fun w hw f h2 => ?_) (fun i hi f h2 => ?_) (fun j hj => ?_), vi_K_c (Or.inr ⟨k1, k2, k3⟩) (by rw [hr 0 (by omega) (by omega)]) (by rw [hr 167 (by omega) (by omega)]) (fun f hf => by rw [hr 68 (by omega) (by omega)]) (fun a ha hb => hr _ (by omega) (by omega)) (hr _ (by omega) (by omega)),
        hV I _ (fun a ha hb => hr _ (by omega) (by omega)) (by rw [hr 167 (by omega) (by omega)]) (fun a ha hb => hr _ (by omega) (by omega)) a6, ?_⟩
      · rw [hb 25 (by omega)]; exact vc_all_m I h1 h2
      · rw [hb _ (by omega)]; exact vc_all_w I hw h1 h2
      · rw [hb _ (by omega)]; exact vc_all_s I hw h2
      · rw [hb _ (by omega)]; exact vc_all_n I hi h2
      · rw [vc_r_in _ hj, vc_all_out I (by omega)]
      · exact vi_B_c (vc_all_B (Or.inl rfl) (Or.inr (Or.inl rfl)) a7) (fun a ha => vc_r_out _ (by rintro rfl; revert ha; decide))
