/-! PAIR: law (the pair) -/
theorem l_fin {VL : xv_LP} {I Y : Nat → Nat → Int32} {J : Nat → Nat → Int64} (hI : vi_all VL I J) (hs : ∀ a, a ≠ 1 → ¬ (5 ≤ a ∧ a ≤ 19) → a ≠ 167 → ¬ (174 ≤ a ∧ a ≤ 184) → Y a = I a) (h7 : ∀ j, ¬ (7 ≤ j ∧ j ≤ 16) → Y 167 j = I 167 j) (h71 : Y 167 7 = 0) (h11 : Y 1 1 = 0) (hVL : VL Y) : vi_all VL Y J := by
  obtain ⟨a1, a2, a3, a4, a5, a6, a7⟩ := hI
  have o : ∀ a, a < 200 → (a = 1 ∨ (5 ≤ a ∧ a ≤ 19) ∨ a = 167 ∨ (174 ≤ a ∧ a ≤ 184)) → xv_oc a ≠ some 8 ∧ xv_oc a ≠ some 9 := by decide +kernel
  refine ⟨⟨0, Nat.zero_le _, h11, h71, fun j hj => by omega⟩, vi_P_c a2 (hs 23 (by omega) (by omega) (by omega) (by omega)) (hs 171 (by omega) (by omega) (by omega) (by omega)), vi_Q_c a3 (by rw [hs 3 (by omega) (by omega) (by omega) (by omega)]) (hs 4 (by omega) (by omega) (by omega) (by omega)) (h7 5 (by omega)) rfl, vi_A_c a4 (fun f hf => by rw [hs 25 (by omega) (by omega) (by omega) (by omega)]) (fun a q1 q2 => hs a (by omega) (by omega) (by omega) (by omega)) (hs 168 (by omega) (by omega) (by omega) (by omega)), vi_K_c a5 (by rw [hs 0 (by omega) (by omega) (by omega) (by omega)]) (h7 51 (by omega)) (fun f hf => by rw [hs 68 (by omega) (by omega) (by omega) (by omega)]) (fun a q1 q2 => hs a (by omega) (by omega) (by omega) (by omega)) (hs 170 (by omega) (by omega) (by omega) (by omega)), hVL, vi_B_c a7 (fun a ha => ?_)⟩
  have key : ¬ (a = 1 ∨ (5 ≤ a ∧ a ≤ 19) ∨ a = 167 ∨ (174 ≤ a ∧ a ≤ 184)) := by
    intro q
    obtain ⟨q1, q2⟩ := o a (by omega) q
    rcases ha with ha | ha
    · exact q1 ha
    · exact q2 ha
  exact hs a (by omega) (by omega) (by omega) (by omega)
theorem xq_Law_clear (ro : xv_Ro) (d : Nat) (z : Nat × Nat) (I : Nat → Nat → Int32) (J : Nat → Nat → Int64) : xv_evm ro d 202 [.ref 13] (z, xv_mk I J) = some (none, (z, xv_mk (xv_u2 (xv_u2 I 13 7 0) 13 8 0) J)) := by
  rw [xe_Law_clear]
  simp only [xr_all, xf_all, if_true, if_false, true_or, or_true, eq_self, ite_not, Bool.false_eq_true, ite_self, and_self, true_and, and_true, false_and, and_false, not_true_eq_false, not_false_eq_true, xj_Law_clear, xb_Law_clear_0]
theorem l_M0 (ro : xv_Ro) (X : Nat → Nat → Int32) (J : Nat → Nat → Int64) {n t : Nat} {b : Nat → Nat} (hnt : n ≤ t) (t3 : X 167 7 = nI t) (tt : t ≤ 260) (tb : ∀ j, j < n → b j < 256 ∧ X 173 j &&& 255 = nI (b j)) (b0 : b 1000 = 0) (n1 : 1 ≤ n) (n2 : n ≤ 240) : ∃ M, l_LR ro xv_SZ J (nI n) (xv_evm ro 199 77 [.ref 167, .int (nI n)] (xv_SZ, xv_mk X J)) M ∧ l_ms M b n 0 0 0 ∧ (∀ a, a ≠ 167 → M a = X a) ∧ ∀ j, ¬ (8 ≤ j ∧ j ≤ 15) → M 167 j = X 167 j := by
  have z1 : ((1 : Int32) = 0) = False := eq_false (by decide)
  have g2 : (1 ≤ nI n ∧ nI n ≤ 240) = True := by (simp (disch := omega) only [vz_all, if_true, if_false, true_or, or_true, eq_self, ite_not, Bool.false_eq_true, ite_self, and_self, true_and, and_true, false_and, and_false, not_true_eq_false, not_false_eq_true, false_or, or_false])
  have g3 : (nI n ≤ nI t) = True := by (simp (disch := omega) only [vz_all, if_true, if_false, true_or, or_true, eq_self, ite_not, Bool.false_eq_true, ite_self, and_self, true_and, and_true, false_and, and_false, not_true_eq_false, not_false_eq_true, false_or, or_false])
  have hb := xl_onB ro 198 xv_SZ X J (nI n)
  refine ⟨xv_u2 (xv_u2 (xv_u2 (xv_u2 X 167 8 0) 167 9 (nI n)) 167 13 0) 167 15 0, fun V => ⟨fun hr => ?_, fun hr => ?_⟩, ⟨n2, ⟨by omega, Nat.zero_le _, by (repeat (first | rw [xu_ne2 (by omega)] | rw [xu_ne (by omega)] | rw [xu_eq])), by (repeat (first | rw [xu_ne2 (by omega)] | rw [xu_ne (by omega)] | rw [xu_eq])); rfl, fun j hj => by (repeat (first | rw [xu_ne2 (by omega)] | rw [xu_ne (by omega)] | rw [xu_eq])); exact tb j hj⟩, by (repeat (first | rw [xu_ne2 (by omega)] | rw [xu_ne (by omega)] | rw [xu_eq])); rfl, by (repeat (first | rw [xu_ne2 (by omega)] | rw [xu_ne (by omega)] | rw [xu_eq])); rfl, by rw [b0]; exact Nat.le_refl _⟩, fun a ha => by (repeat (first | rw [xu_ne2 (by omega)] | rw [xu_ne (by omega)] | rw [xu_eq])), fun j q => by (repeat (first | rw [xu_ne2 (by omega)] | rw [xu_ne (by omega)] | rw [xu_eq]))⟩
  · rw [xe_Mo_law]
    unfold l_LH
    simp only [xr_all, xf_all, if_true, if_false, true_or, or_true, eq_self, ite_not, Bool.false_eq_true, ite_self, and_self, true_and, and_true, false_and, and_false, not_true_eq_false, not_false_eq_true, xj_Mo_law, xb_Mo_law_0, xb_Mo_law_19, xb_Mo_law_21, xb_Mo_law_66, xb_Mo_law_67, xb_Mo_law_71, xb_Mo_law_85, xb_Mo_law_121, xb_Mo_law_185, xq_Mo_in, g2, z1, t3, g3, hb, hr]
  · rw [xe_Mo_law]
    unfold l_LH
    simp only [xr_all, xf_all, if_true, if_false, true_or, or_true, eq_self, ite_not, Bool.false_eq_true, ite_self, and_self, true_and, and_true, false_and, and_false, not_true_eq_false, not_false_eq_true, xj_Mo_law, xb_Mo_law_0, xb_Mo_law_19, xb_Mo_law_21, xb_Mo_law_66, xb_Mo_law_67, xb_Mo_law_71, xb_Mo_law_85, xb_Mo_law_121, xb_Mo_law_185, xq_Mo_in, g2, z1, t3, g3, hb, hr]
theorem xl_lawH (ro : xv_Ro) (I : Nat → Nat → Int32) (J : Nat → Nat → Int64) {n t : Nat} {b0 : Nat → Nat} (hI : vi_all l_VL I J) (hnt : n ≤ t) (tt : t ≤ 260) (t2 : I 1 1 = nI t) (t3 : I 167 7 = nI t) (tb0 : ∀ j, j < t → b0 j < 256 ∧ I 2 j = nI (b0 j) ∧ I 173 j &&& 255 = nI (b0 j)) (n1 : 1 ≤ n) (n2 : n ≤ 240) : ∃ r I1 J1 I2 J2, xv_evm ro 199 4 [.ref 0, .int (nI n)] (xv_SZ, xv_mk I J) = some (some (.int r), (xv_SZ, xv_mk I1 J1)) ∧ xv_evm ro 199 77 [.ref 167, .int (nI n)] (xv_SZ, xv_mk I1 J1) = some (some (.int r), (xv_SZ, xv_mk I2 J2)) ∧ vi_all l_VL I2 J2 := by
  have z1 : ((1 : Int32) = 0) = False := eq_false (by decide)
  have e1 : (nI n < 1) = False := by (simp (disch := omega) only [vz_all, if_true, if_false, true_or, or_true, eq_self, ite_not, Bool.false_eq_true, ite_self, and_self, true_and, and_true, false_and, and_false, not_true_eq_false, not_false_eq_true, false_or, or_false])
  have e2 : (240 < nI n) = False := by (simp (disch := omega) only [vz_all, if_true, if_false, true_or, or_true, eq_self, ite_not, Bool.false_eq_true, ite_self, and_self, true_and, and_true, false_and, and_false, not_true_eq_false, not_false_eq_true, false_or, or_false])
  have e4 : (nI n ≤ I 1 1) = True := by rw [t2]; (simp (disch := omega) only [vz_all, if_true, if_false, true_or, or_true, eq_self, ite_not, Bool.false_eq_true, ite_self, and_self, true_and, and_true, false_and, and_false, not_true_eq_false, not_false_eq_true, false_or, or_false])
  have hcut := xq_cut ro 198 xv_SZ I J (nI n) 1 240 e1 e2 e4
  obtain ⟨b, hb, hb0⟩ : ∃ b : Nat → Nat, (∀ j, j < n → b j = b0 j) ∧ b 1000 = 0 := ⟨fun j => if j < n then b0 j else 0, fun j hj => if_pos hj, if_neg (by omega)⟩
  have tb : ∀ j, j < n → b j < 256 ∧ I 2 j = nI (b j) ∧ I 173 j &&& 255 = nI (b j) := fun j hj => by rw [hb j hj]; exact tb0 j (by omega)
  have hcl := xq_Law_clear ro 197 xv_SZ (xv_u2 (xv_u2 (xv_u2 (xv_u2 I 1 1 0) 1 2 (nI n)) 1 3 0) 1 4 0) J
  have hC1 : tp_C b n 0 (xv_u2 (xv_u2 (xv_u2 (xv_u2 (xv_u2 (xv_u2 I 1 1 0) 1 2 (nI n)) 1 3 0) 1 4 0) 13 7 0) 13 8 0) := ⟨by omega, Nat.zero_le _, by (repeat (first | rw [xu_ne2 (by omega)] | rw [xu_ne (by omega)] | rw [xu_eq])), by (repeat (first | rw [xu_ne2 (by omega)] | rw [xu_ne (by omega)] | rw [xu_eq])); rfl, by (repeat (first | rw [xu_ne2 (by omega)] | rw [xu_ne (by omega)] | rw [xu_eq])), fun j hj => by (repeat (first | rw [xu_ne2 (by omega)] | rw [xu_ne (by omega)] | rw [xu_eq])); exact ⟨(tb j hj).1, (tb j hj).2.1⟩⟩
  have h137 : xv_u2 (xv_u2 (xv_u2 (xv_u2 (xv_u2 (xv_u2 I 1 1 0) 1 2 (nI n)) 1 3 0) 1 4 0) 13 7 0) 13 8 0 13 7 = nI 0 := by (repeat (first | rw [xu_ne2 (by omega)] | rw [xu_ne (by omega)] | rw [xu_eq])); rfl
  have h138 : xv_u2 (xv_u2 (xv_u2 (xv_u2 (xv_u2 (xv_u2 I 1 1 0) 1 2 (nI n)) 1 3 0) 1 4 0) 13 7 0) 13 8 0 13 8 = nI 0 := xu_eq
  have hout : ∀ a, a ≠ 1 → a ≠ 13 → xv_u2 (xv_u2 (xv_u2 (xv_u2 (xv_u2 (xv_u2 I 1 1 0) 1 2 (nI n)) 1 3 0) 1 4 0) 13 7 0) 13 8 0 a = I a := fun a h h2 => by (repeat (first | rw [xu_ne2 (by omega)] | rw [xu_ne (by omega)] | rw [xu_eq]))
  have hout1 : xv_u2 (xv_u2 (xv_u2 (xv_u2 (xv_u2 (xv_u2 I 1 1 0) 1 2 (nI n)) 1 3 0) 1 4 0) 13 7 0) 13 8 0 1 1 = 0 := by (repeat (first | rw [xu_ne2 (by omega)] | rw [xu_ne (by omega)] | rw [xu_eq]))
  obtain ⟨r, W, w1, w2, w3, w4⟩ := l_rules (ro := ro) n2 189 (by omega) xv_SZ J (n + 1) 0 0 0 none none none _ (by omega) (by omega) hC1 h137 h138 (Nat.le_refl _)
  have hrd : xv_evm ro 198 213 [.ref 1, .ref 13] (xv_SZ, xv_mk (xv_u2 (xv_u2 (xv_u2 (xv_u2 I 1 1 0) 1 2 (nI n)) 1 3 0) 1 4 0) J) = some (none, (xv_SZ, xv_mk W J)) := by
    rw [← w1, xe_LawReader_read]
    unfold l_RH
    rw [show nI 0 = (0 : Int32) from rfl]
    simp only [xr_all, xf_all, if_true, if_false, true_or, or_true, eq_self, ite_not, Bool.false_eq_true, ite_self, and_self, true_and, and_true, false_and, and_false, not_true_eq_false, not_false_eq_true, xj_LawReader_read, xb_LawReader_read_0, xb_LawReader_read_44, xb_LawReader_read_123, hcl]
  have hWo : ∀ a, a ≠ 1 → ¬ (13 ≤ a ∧ a ≤ 19) → W a = I a := fun a h h2 => (w2.1 a h h2).trans (hout a h (by omega))
  have hW11 : W 1 1 = 0 := (w2.2 1 (by omega) (by omega)).trans hout1
  match r, w3, w4 with
  | .inl (f, q), w3, w4 =>
    obtain ⟨a1, a2, a3, a4⟩ := w3
    have hd : (W 1 4 = 0) = False := by rw [a4]; exact tp_f f a1 a2 a3
    have hisf := xl_onI ro 198 xv_SZ W J (v := 1) (Or.inr ⟨hd, rfl⟩)
    have hfa := xl_onF ro 198 xv_SZ W J
    obtain ⟨M, m1, m2, m3, m4⟩ := l_M0 ro W J (n := n) (t := t) (b := b) hnt (by rw [hWo 167 (by omega) (by omega)]; exact t3) tt (fun j hj => by rw [hWo 173 (by omega) (by omega)]; exact ⟨(tb j hj).1, (tb j hj).2.2⟩) hb0 n1 n2
    obtain ⟨V, v1, v2, v3⟩ := w4 xv_SZ J (nI n) _ M 0 m1 m2
    have hV : ∀ a, a ≠ 1 → ¬ (13 ≤ a ∧ a ≤ 19) → a ≠ 167 → ¬ (174 ≤ a ∧ a ≤ 179) → V a = I a := fun a h1 h2 h3 h4 => by rw [v3.1 a h3 h4, m3 a h3, hWo a h1 h2]
    have hV7 : ∀ j, ¬ (8 ≤ j ∧ j ≤ 15) → V 167 j = I 167 j := fun j h => by rw [v3.2 j h, m4 j h, hWo 167 (by omega) (by omega)]
    refine ⟨W 1 4, W, J, xv_u2 V 167 7 0, J, ?_, by rw [v1, l_LH0, v2, a4], ?_⟩
    · rw [xe_Ct_law]
      simp only [xr_all, xf_all, if_true, if_false, true_or, or_true, eq_self, ite_not, Bool.false_eq_true, ite_self, and_self, true_and, and_true, false_and, and_false, not_true_eq_false, not_false_eq_true, xj_Ct_law, xb_Ct_law_0, xb_Ct_law_17, xb_Ct_law_46, hcut, z1, hrd, hisf, hfa]
    · refine l_fin hI (fun a h1 h2 h3 h4 => by rw [xu_ne h3]; exact hV a h1 (by omega) h3 (by omega)) (fun j h => by rw [xu_ne2 (by omega)]; exact hV7 j (by omega)) xu_eq (by rw [xu_ne (by omega), v3.1 1 (by omega) (by omega), m3 1 (by omega)]; exact hW11) ?_
      exact l_VLc I _ (fun a q1 q2 => by rw [xu_ne (by omega)]; exact hV a (by omega) (by omega) (by omega) (by omega)) (by rw [xu_ne2 (by omega)]; exact hV7 16 (by omega)) (fun a q1 q2 => by rw [xu_ne (by omega)]; exact hV a (by omega) (by omega) (by omega) (by omega)) hI.2.2.2.2.2.1
  | .inr (m, G), w3, w4 =>
    obtain ⟨a1, a2, a3, a4, a5, a6, a7⟩ := w3
    have hisf := xl_onI ro 198 xv_SZ W J (v := 0) (Or.inl ⟨a1, rfl⟩)
    obtain ⟨W2, c1, c2, c3, c4, c5, c6⟩ := xq_Law_copy ro 198 xv_SZ W J
    have hru := xq_Law_rules ro 198 xv_SZ W2 J
    rw [c3, a4] at hru
    have hWo2 : ∀ a, a ≠ 1 → ¬ (5 ≤ a ∧ a ≤ 19) → W2 a = I a := fun a h1 h2 => by rw [c6 a (by omega), hWo a h1 (by omega)]
    obtain ⟨M, m1, m2, m3, m4⟩ := l_M0 ro W2 J (n := n) (t := t) (b := b) hnt (by rw [hWo2 167 (by omega) (by omega)]; exact t3) tt (fun j hj => by rw [hWo2 173 (by omega) (by omega)]; exact ⟨(tb j hj).1, (tb j hj).2.2⟩) hb0 n1 n2
    obtain ⟨V, cc, v1, v2, vle, v3, v4, v5, v6⟩ := w4 xv_SZ J (nI n) _ M 0 m1 m2
    have hcc : cc ≤ 240 := by
      have := v2.2.2.2.2
      omega
    obtain ⟨Y, y1, y2, y3, y4, y5, y6, y7⟩ := l_LH1 (ro := ro) (z := xv_SZ) (J := J) (x1 := nI n) v2 a3
    have hY2 : ∀ a, a ≠ 167 → ¬ (174 ≤ a ∧ a ≤ 184) → Y a = W2 a := fun a h1 h2 => by rw [y6 a h1 (by omega), v6.1 a h1 (by omega), m3 a h1]
    refine ⟨nI m, W2, J, Y, J, ?_, by rw [v1, y1], ?_⟩
    · rw [xe_Ct_law]
      simp only [xr_all, xf_all, if_true, if_false, true_or, or_true, eq_self, ite_not, Bool.false_eq_true, ite_self, and_self, true_and, and_true, false_and, and_false, not_true_eq_false, not_false_eq_true, xj_Ct_law, xb_Ct_law_0, xb_Ct_law_17, xb_Ct_law_46, hcut, z1, hrd, hisf, c1, hru]
    · refine l_fin hI (fun a h1 h2 h3 h4 => by rw [hY2 a h3 h4, hWo2 a h1 h2]) (fun j h => by rw [y7 j (by omega) (by omega), v6.2 j (by omega), m4 j (by omega), hWo2 167 (by omega) (by omega)]) y2 (by rw [hY2 1 (by omega) (by omega), c6 1 (by omega)]; exact hW11) ?_
      refine ⟨m, G, a3, by rw [hY2 5 (by omega) (by omega), c3]; exact a4, y3, fun j hj => ?_⟩
      obtain ⟨b1, s0, s1, s2, b2, b3, b4, b5, b6, b7, b8⟩ := a5 j (Nat.zero_le _) hj
      have s01 := b7.1
      have s12 := b8.1
      refine ⟨b1, ⟨s0, s1, s2, b2, ?_, ?_, ?_, ?_, ?_, ?_⟩, ?_⟩
      · rw [hY2 8 (by omega) (by omega), c5 8 (by omega) (by omega) j (by omega)]; exact b3
      · rw [hY2 9 (by omega) (by omega), c5 9 (by omega) (by omega) j (by omega)]; exact b4
      · rw [hY2 10 (by omega) (by omega), c5 10 (by omega) (by omega) j (by omega)]; exact b5
      · rw [hY2 11 (by omega) (by omega), c5 11 (by omega) (by omega) j (by omega)]; exact b6
      · rw [hY2 6 (by omega) (by omega), hY2 7 (by omega) (by omega)]
        exact l_cS_c b7 (fun x _ q => ⟨c4 6 (by omega) (by omega) x (by omega), c4 7 (by omega) (by omega) x (by omega)⟩) (Nat.le_refl _)
      · rw [hY2 6 (by omega) (by omega), hY2 7 (by omega) (by omega)]
        exact l_cS_c b8 (fun x _ q => ⟨c4 6 (by omega) (by omega) x (by omega), c4 7 (by omega) (by omega) x (by omega)⟩) (Nat.le_refl _)
      · obtain ⟨k0, k1, k2, d1, d2, d3, d4, d5, d6, d7⟩ := v3 j (Nat.zero_le _) hj
        have k01 := d6.1
        have k12 := d7.1
        exact ⟨k0, k1, k2, by omega, (y5 181 (by omega) (by omega) j hj).trans d2, (y5 182 (by omega) (by omega) j hj).trans d3, (y5 183 (by omega) (by omega) j hj).trans d4, (y5 184 (by omega) (by omega) j hj).trans d5, l_mS_c d6 (fun x _ q => y4 x (by omega)), l_mS_c d7 (fun x _ q => y4 x (by omega))⟩
theorem xp_3 : xl_P3 (vi_all l_VL) := by
  intro x0 ro I J hro hI
  obtain ⟨t, t1, t2, t3, b, tb⟩ := vi_Tb hI.1
  have z1 : ((1 : Int32) = 0) = False := eq_false (by decide)
  by_cases hgood : ∃ n : Nat, 1 ≤ n ∧ n ≤ 240 ∧ x0 = nI n ∧ n ≤ t
  · obtain ⟨n, n1, n2, rfl, hnt⟩ := hgood
    exact xl_lawH ro I J hI hnt t1 t2 t3 tb n1 n2
  · refine ⟨-1, I, J, I, J, ?_, ?_, hI⟩
    · have hcut : xv_evm ro 198 248 [.ref 1, .int x0, .int 1, .int 240] (xv_SZ, xv_mk I J) = some (some (.int 0), (xv_SZ, xv_mk I J)) := by
        rcases vn_1N 240 (by omega) x0 with ⟨n, n1, n2, rfl, e1, e2, e3⟩ | ⟨e1, e2⟩
        · have q2 : (240 < nI n) = False := by (simp (disch := omega) only [vz_all, if_true, if_false, true_or, or_true, eq_self, ite_not, Bool.false_eq_true, ite_self, and_self, true_and, and_true, false_and, and_false, not_true_eq_false, not_false_eq_true, false_or, or_false])
          have q3 : (nI n ≤ I 1 1) = False := by
            have hnt : ¬ n ≤ t := fun q => hgood ⟨n, n1, n2, rfl, q⟩
            rw [t2]; (simp (disch := omega) only [vz_all, if_true, if_false, true_or, or_true, eq_self, ite_not, Bool.false_eq_true, ite_self, and_self, true_and, and_true, false_and, and_false, not_true_eq_false, not_false_eq_true, false_or, or_false])
          exact xq_cut_no ro 198 xv_SZ I J (nI n) 1 240 (Or.inr (Or.inr ⟨e1, q2, q3⟩))
        · rw [show nI 240 = (240 : Int32) from rfl] at e1
          rcases e1 with e1 | ⟨e1, e3⟩
          · exact xq_cut_no ro 198 xv_SZ I J x0 1 240 (Or.inl e1)
          · exact xq_cut_no ro 198 xv_SZ I J x0 1 240 (Or.inr (Or.inl ⟨e1, eq_true (Int32.not_le.mp (fun q => by rw [e3] at q; exact q))⟩))
      rw [xe_Ct_law]
      simp only [xr_all, xf_all, if_true, if_false, true_or, or_true, eq_self, ite_not, Bool.false_eq_true, ite_self, and_self, true_and, and_true, false_and, and_false, not_true_eq_false, not_false_eq_true, xj_Ct_law, xb_Ct_law_0, xb_Ct_law_17, xb_Ct_law_46, hcut]
    · rw [xe_Mo_law]
      rcases vn_1N 240 (by omega) x0 with ⟨n, n1, n2, rfl, e1, e2, e3⟩ | ⟨e1, e2⟩
      · rw [show nI 240 = (240 : Int32) from rfl] at e3
        have q3 : (nI n ≤ nI t) = False := by
          have hnt : ¬ n ≤ t := fun q => hgood ⟨n, n1, n2, rfl, q⟩
          (simp (disch := omega) only [vz_all, if_true, if_false, true_or, or_true, eq_self, ite_not, Bool.false_eq_true, ite_self, and_self, true_and, and_true, false_and, and_false, not_true_eq_false, not_false_eq_true, false_or, or_false])
        simp only [xr_all, xf_all, if_true, if_false, true_or, or_true, eq_self, ite_not, Bool.false_eq_true, ite_self, and_self, true_and, and_true, false_and, and_false, not_true_eq_false, not_false_eq_true, xj_Mo_law, xb_Mo_law_0, xb_Mo_law_19, xb_Mo_law_21, xb_Mo_law_66, xb_Mo_law_67, xb_Mo_law_71, xb_Mo_law_85, xb_Mo_law_121, xb_Mo_law_185, z1, xq_Mo_in, e3, t3, q3]
      · rw [show nI 240 = (240 : Int32) from rfl] at e2
        simp only [xr_all, xf_all, if_true, if_false, true_or, or_true, eq_self, ite_not, Bool.false_eq_true, ite_self, and_self, true_and, and_true, false_and, and_false, not_true_eq_false, not_false_eq_true, xj_Mo_law, xb_Mo_law_0, xb_Mo_law_19, xb_Mo_law_21, xb_Mo_law_66, xb_Mo_law_67, xb_Mo_law_71, xb_Mo_law_85, xb_Mo_law_121, xb_Mo_law_185, xq_Mo_in, z1, e2]
