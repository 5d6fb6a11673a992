/-! PAIR: onion (all guards passed) -/
theorem oi_v154 {VL : xv_LP} (hV : vi_Lc VL) {I : Nat → Nat → Int32} {J : Nat → Nat → Int64} (h : vi_all VL I J) : vi_all VL (xv_u2 I 154 3 1) J := by
  obtain ⟨a1, a2, a3, a4, a5, a6, a7⟩ := h
  exact ⟨vi_T_c a1 (by rw [xu_ne (by omega)]) (xu_ne (by omega)) (by rw [xu_ne (by omega)]) (xu_ne (by omega)), vi_P_c a2 (xu_ne (by omega)) (xu_ne (by omega)), vi_Q_c a3 (by rw [xu_ne (by omega)]) (xu_ne (by omega)) (by rw [xu_ne (by omega)]) rfl, vi_A_c a4 (fun f hf => by rw [xu_ne (by omega)]) (fun a ha hb => xu_ne (by omega)) (xu_ne (by omega)), vi_K_c a5 (by rw [xu_ne (by omega)]) (by rw [xu_ne (by omega)]) (fun f hf => by rw [xu_ne (by omega)]) (fun a ha hb => xu_ne (by omega)) (xu_ne (by omega)), hV I _ (fun a ha hb => xu_ne (by omega)) (by rw [xu_ne (by omega)]) (fun a ha hb => xu_ne (by omega)) a6, vi_B_u a7 ⟨fun _ _ => Or.inr rfl, fun _ _ => Or.inr rfl⟩⟩
theorem oi_vs : (∀ j, vs_r 1 j = true → j = 1) ∧ (∀ j, vs_r 154 j = true → j = 3) ∧ (∀ j, vs_r 155 j = true → False) ∧ (∀ j, vs_r 167 j = true → j = 5 ∨ j = 7 ∨ j = 16 ∨ j = 51) ∧ ∀ j, vs_r 189 j = true → False := by
  have o1 : xv_oc 1 = some 2 := rfl
  have o2 : xv_oc 154 = some 8 := rfl
  have o3 : xv_oc 155 = none := rfl
  have o4 : xv_oc 167 = some 0 := rfl
  have o5 : xv_oc 189 = none := rfl
  refine ⟨fun j h => ?_, fun j h => ?_, fun j h => ?_, fun j h => ?_, fun j h => ?_⟩
  · simp [vs_r, o1] at h; exact h
  · simp [vs_r, o2] at h; exact h
  · simp [vs_r, o3] at h
  · simp [vs_r, o4] at h; omega
  · simp [vs_r, o5] at h
theorem xl_onCl (ro : xv_Ro) (I I1 W : Nat → Nat → Int32) (J : Nat → Nat → Int64) {w n : Nat} {v : Int32} {R : Option (Option Value × xv_S)} (hw : w < 10) (h3 : I (25 + 3 + 2 * w) 3 = 1) (hcut : xv_evm ro 198 248 [.ref 1, .int (nI n), .int 1, .int 60] (xv_SZ, xv_mk I J) = some (some (.int 1), (xv_SZ, xv_mk I1 J))) {I2 : Nat → Nat → Int32} (hcopy : xv_evm ro 198 262 [.ref 154, .ref (25 + 3 + 2 * w)] (xv_SZ, xv_mk I1 J) = some (none, (xv_SZ, xv_mk I2 J))) (hread : xv_evm ro 198 271 [.ref 154, .ref 1] (xv_SZ, xv_mk I2 J) = some (none, (xv_SZ, xv_mk W J))) (hv : (W 1 4 = 0 ∧ v = 0) ∨ ((W 1 4 = 0) = False ∧ v = 1)) (hW3 : W 154 3 = 1) (hR : R = if v = 0 then some (some (.int (W 154 1)), (xv_SZ, xv_mk (vc_w W (25 + 3 + 2 * w) 154) J)) else some (some (.int (W 1 4)), (xv_SZ, xv_mk W J))) : xv_evm ro 199 6 [.ref 0, .int (nI w), .int (nI n)] (xv_SZ, xv_mk I J) = R := by
  have htold := xq_told ro 197 xv_SZ I J (A := 25) (Or.inl rfl) hw h3
  have z1 : ((1 : Int32) = 0) = False := eq_false (by decide)
  have hisf := xl_onI ro 198 xv_SZ W J hv
  have hW : vW (25 + 3 + 2 * w) := vAr_W (A := 25) (Or.inl rfl) hw
  rw [hR, xe_Ct_onion]
  rcases hv with ⟨q1, rfl⟩ | ⟨q1, rfl⟩
  · have hback := xq_Witness_copy ro 198 xv_SZ J (o := 25 + 3 + 2 * w) (p := 154) hW ⟨rfl, rfl⟩ (by omega) (by omega) (by omega) W (Or.inr hW3)
    have hlay := xq_Witness_layers ro 198 xv_SZ (vc_w W (25 + 3 + 2 * w) 154) J hW
    have e : vc_w W (25 + 3 + 2 * w) 154 (25 + 3 + 2 * w) 1 = W 154 1 := by
      unfold vc_w; rw [if_pos (by omega)]
    simp only [xr_all, xf_all, if_true, if_false, true_or, or_true, eq_self, ite_not, Bool.false_eq_true, ite_self, and_self, true_and, and_true, false_and, and_false, not_true_eq_false, not_false_eq_true, xj_Ct_onion, xb_Ct_onion_0, xb_Ct_onion_27, xb_Ct_onion_29, xb_Ct_onion_66, htold, hcut, hcopy, hread, hisf, hback, hlay, e, z1, vW_f hW]
  · have hfa := xl_onF ro 198 xv_SZ W J
    simp only [xr_all, xf_all, if_true, if_false, true_or, or_true, eq_self, ite_not, Bool.false_eq_true, ite_self, and_self, true_and, and_true, false_and, and_false, not_true_eq_false, not_false_eq_true, xj_Ct_onion, xb_Ct_onion_0, xb_Ct_onion_27, xb_Ct_onion_29, xb_Ct_onion_66, htold, hcut, hcopy, hread, hisf, hfa, z1, vW_f hW]
theorem xl_onH (VL : xv_LP) (hV : vi_Lc VL) : ∀ (ro : xv_Ro) (I : Nat → Nat → Int32) (J : Nat → Nat → Int64) (w n : Nat), vi_all VL I J → w < 10 → (∃ t : Nat, n ≤ t ∧ t ≤ 260 ∧ I 1 1 = nI t ∧ I 167 7 = nI t ∧ ∃ b : Nat → Nat, ∀ j, j < t → b j < 256 ∧ I 2 j = nI (b j) ∧ I 173 j &&& 255 = nI (b j)) → I (25 + 3 + 2 * w) 3 = 1 → 1 ≤ n → n ≤ 60 → (∀ (V : Nat → Nat → Int32), V 168 = I 168 → xv_evm ro 198 47 [.ref 167, .int (nI w)] (xv_SZ, xv_mk V J) = some (some (.int 1), (xv_SZ, xv_mk V J))) → ∃ r I1 J1 I2 J2, xv_evm ro 199 6 [.ref 0, .int (nI w), .int (nI n)] (xv_SZ, xv_mk I J) = some (some (.int r), (xv_SZ, xv_mk I1 J1)) ∧ xv_evm ro 199 92 [.ref 167, .int (nI w), .int (nI n)] (xv_SZ, xv_mk I1 J1) = some (some (.int r), (xv_SZ, xv_mk I2 J2)) ∧ vi_all VL I2 J2 := by
  intro ro I J w n hI hw ⟨t, hnt, tt, t2, t3, b, tb⟩ h3 n1 n2 his
  obtain ⟨hcut, hcopy, hC⟩ := xl_onG ro I J hw hnt t2 tt (fun j hj => ⟨(tb j hj).1, (tb j hj).2.1⟩) h3 n1 n2
  have hX : ∀ a, a ≠ 1 → a ≠ 154 → a ≠ 155 → vc_w (xv_u2 (xv_u2 (xv_u2 (xv_u2 I 1 1 0) 1 2 (nI n)) 1 3 0) 1 4 0) 154 (25 + 3 + 2 * w) a = I a := by
    intro a q1 q2 q3
    funext j
    unfold vc_w
    rw [if_neg (by omega), if_neg (by omega), xu_ne q1, xu_ne q1, xu_ne q1, xu_ne q1]
  have hX1 : vc_w (xv_u2 (xv_u2 (xv_u2 (xv_u2 I 1 1 0) 1 2 (nI n)) 1 3 0) 1 4 0) 154 (25 + 3 + 2 * w) 1 1 = 0 := by
    unfold vc_w
    rw [if_neg (by omega), if_neg (by omega)]; (repeat (first | rw [xu_ne2 (by omega)] | rw [xu_ne (by omega)] | rw [xu_eq]))
  have hX3 : ∀ f, 1 ≤ f → f ≤ 3 → vc_w (xv_u2 (xv_u2 (xv_u2 (xv_u2 I 1 1 0) 1 2 (nI n)) 1 3 0) 1 4 0) 154 (25 + 3 + 2 * w) 154 f = I (25 + 3 + 2 * w) f := by
    intro f q1 q2
    unfold vc_w
    rw [if_pos (by omega), xu_ne (by omega), xu_ne (by omega), xu_ne (by omega), xu_ne (by omega)]
  generalize vc_w (xv_u2 (xv_u2 (xv_u2 (xv_u2 I 1 1 0) 1 2 (nI n)) 1 3 0) 1 4 0) 154 (25 + 3 + 2 * w) = I1 at *
  obtain ⟨W, hread, hfr, hmod⟩ := xl_reads2 ro xv_SZ J n2 I1 hC
  have hWa : ∀ a, a ≠ 1 → a ≠ 154 → a ≠ 155 → W a = I a := fun a q1 q2 q3 => (hfr.1 a q1 q2 q3).trans (hX a q1 q2 q3)
  have hW2 : W 154 2 = I (25 + 3 + 2 * w) 2 := (hfr.2.2 2 (by omega)).trans (hX3 2 (by omega) (by omega))
  have hW3 : W 154 3 = 1 := ((hfr.2.2 3 (by omega)).trans (hX3 3 (by omega) (by omega))).trans h3
  have hW1 : W 1 1 = 0 := (hfr.2.1 1 (by omega) (by omega)).trans hX1
  have hIX := oi_v154 hV hI
  obtain ⟨o1, o2, o3, o4, o5⟩ := oi_vs
  have hWv : ∀ a j, vs_r a j = true → ¬ (a = 1 ∧ j = 1) → W a j = xv_u2 I 154 3 1 a j := by
    intro a j hv q
    by_cases c1 : a = 1
    · subst c1; exact absurd ⟨rfl, o1 j hv⟩ q
    · by_cases c2 : a = 154
      · subst c2; rw [o2 j hv, hW3, xu_eq]
      · by_cases c3 : a = 155
        · subst c3; exact (o3 j hv).elim
        · rw [hWa a c1 c2 c3, xu_ne c2]
  by_cases hf : W 1 4 = 0
  · have hcls := xl_onCl ro I _ W J (n := n) (v := 0) hw h3 hcut hcopy hread (Or.inl ⟨hf, rfl⟩) hW3 rfl
    rw [if_pos rfl] at hcls
    have hca : ∀ a, a ≠ 28 + 2 * w → a ≠ 29 + 2 * w → vc_w W (25 + 3 + 2 * w) 154 a = W a := by
      intro a q1 q2
      funext j
      unfold vc_w
      rw [if_neg (by omega), if_neg (by omega)]
    have hcf : ∀ f, 1 ≤ f → f ≤ 3 → vc_w W (25 + 3 + 2 * w) 154 (28 + 2 * w) f = W 154 f := by
      intro f q1 q2
      unfold vc_w
      rw [if_pos (by omega)]
    have hcf0 : ∀ f, (f < 1 ∨ 3 < f) → vc_w W (25 + 3 + 2 * w) 154 (28 + 2 * w) f = W (28 + 2 * w) f := by
      intro f q1
      unfold vc_w
      rw [if_neg (by omega), if_neg (by omega)]
    have hcs : ∀ f, f < 12 → vc_w W (25 + 3 + 2 * w) 154 (29 + 2 * w) f = W 155 f := by
      intro f q1
      unfold vc_w
      rw [if_neg (by omega), if_pos (by omega)]
    generalize vc_w W (25 + 3 + 2 * w) 154 = C at *
    have hC168 : C 168 = I 168 := (hca 168 (by omega) (by omega)).trans (hWa 168 (by omega) (by omega) (by omega))
    have hC167 : C 167 = I 167 := (hca 167 (by omega) (by omega)).trans (hWa 167 (by omega) (by omega) (by omega))
    have hC173 : C 173 = I 173 := (hca 173 (by omega) (by omega)).trans (hWa 173 (by omega) (by omega) (by omega))
    obtain ⟨M, m1, m2, m3, m4, m5⟩ := xl_onM2 ro C J (w := w) (n := n) (t := t) (b := b) hnt (by rw [hC167]; exact t3) tt (fun j hj => ⟨(tb j hj).1, by rw [hC173]; exact (tb j hj).2.2⟩) n1 n2 (his C hC168)
    obtain ⟨V0, V, r0, r, k1, k2, k3, k4⟩ := hmod M J (nI w) (nI n) m1 m2
    rcases k4 with ⟨-, k5, -⟩ | ⟨rfl, -, L, l1, l2, l3, l4⟩
    · exact absurd hf (fun q => by rw [k5] at q; exact q)
    · obtain ⟨V1, v1, v2, v3, v4, v5⟩ := xl_on83s ro V J (nI n) (w := w) (L := L) (X := fun j => W 155 j) hw l1 l3 (fun j hj => by
        obtain ⟨s, s1, s2, s3, s4⟩ := l4 j hj
        exact s4.trans s3.symm)
      have hV1a : ∀ a, a ≠ 167 → a ≠ 168 → a ≠ 189 → V1 a = C a := fun a q1 q2 q3 => by rw [v2 a q2, xu_ne q1, k3.1 a q1 q3, m3 a q1]
      refine ⟨nI L, C, J, V1, J, by rw [hcls, l2], (m5 r0 V0 k1).trans (k2.trans v1), ?_⟩
      have hV168 : ∀ j, V 168 j = I 168 j := fun j => by rw [k3.1 168 (by omega) (by omega), m3 168 (by omega), hC168]
      refine oi_vall hV hIX hw (oi_vA (I := xv_u2 I 154 3 1) (w := w) (L := L) hIX.2.2.2.1 hw l1 (fun f hf => ?_) (fun a q1 q2 q3 q4 => ?_) (fun j hj => ?_) ?_ (fun j q1 q2 => ?_) v4 (fun i hi => ?_)) (fun a j hv q1 q2 q3 q4 q5 => ?_) (fun j hj => ?_) ?_ ?_ rfl
      · rw [hV1a 25 (by omega) (by omega) (by omega), hca 25 (by omega) (by omega), hWa 25 (by omega) (by omega) (by omega), xu_ne (by omega)]
      · rw [hV1a a (by omega) (by omega) (by omega), hca a q3 q4, hWa a (by omega) (by omega) (by omega), xu_ne (by omega)]
      · rw [hV1a (28 + 2 * w) (by omega) (by omega) (by omega), xu_ne (by omega)]
        by_cases c2 : j = 2
        · rw [c2, hcf 2 (by omega) (by omega), hW2, show 25 + 3 + 2 * w = 28 + 2 * w by omega]
        · by_cases c3 : j = 3
          · rw [c3, hcf 3 (by omega) (by omega), hW3, ← h3, show 25 + 3 + 2 * w = 28 + 2 * w by omega]
          · rw [hcf0 j (by omega), hWa (28 + 2 * w) (by omega) (by omega) (by omega)]
      · rw [hV1a (28 + 2 * w) (by omega) (by omega) (by omega), hcf 1 (by omega) (by omega), l2]
      · rw [v3 j q1 q2, hV168, xu_ne (by omega)]
      · obtain ⟨s, s1, s2, s3, s4⟩ := l4 i hi
        refine ⟨s, s1, s2, ?_, (v5 i hi).trans s3⟩
        rw [hV1a (29 + 2 * w) (by omega) (by omega) (by omega), hcs i (by omega)]; exact s3
      · by_cases c7 : a = 167
        · subst c7
          have hj := o4 j hv
          rw [v2 167 (by omega), xu_ne2 (by omega), k3.2 j (by omega) (by omega) (by omega), m4 j (by omega) (by omega) (by omega) (by omega) (by omega), hC167, xu_ne (by omega)]
        · by_cases c9 : a = 189
          · subst c9; exact (o5 j hv).elim
          · rw [hV1a a c7 q3 c9, hca a q4 q5]; exact hWv a j hv q1
      · rw [hV1a (28 + 2 * w) (by omega) (by omega) (by omega), xu_ne (by omega)]
        by_cases c2 : j = 2
        · rw [c2, hcf 2 (by omega) (by omega), hW2, show 25 + 3 + 2 * w = 28 + 2 * w by omega]
        · by_cases c3 : j = 3
          · rw [c3, hcf 3 (by omega) (by omega), hW3, ← h3, show 25 + 3 + 2 * w = 28 + 2 * w by omega]
          · rw [hcf0 j (by omega), hWa (28 + 2 * w) (by omega) (by omega) (by omega)]
      · rw [hV1a 1 (by omega) (by omega) (by omega), hca 1 (by omega) (by omega)]; exact hW1
      · rw [v2 167 (by omega), xu_eq]
  · have hf' : (W 1 4 = 0) = False := eq_false hf
    have z1 : ¬ ((1 : Int32) = 0) := by decide
    have hcls := xl_onCl ro I _ W J (n := n) (v := 1) hw h3 hcut hcopy hread (Or.inr ⟨hf', rfl⟩) hW3 rfl
    rw [if_neg z1] at hcls
    have hC168 : W 168 = I 168 := hWa 168 (by omega) (by omega) (by omega)
    have hC167 : W 167 = I 167 := hWa 167 (by omega) (by omega) (by omega)
    have hC173 : W 173 = I 173 := hWa 173 (by omega) (by omega) (by omega)
    obtain ⟨M, m1, m2, m3, m4, m5⟩ := xl_onM2 ro W J (w := w) (n := n) (t := t) (b := b) hnt (by rw [hC167]; exact t3) tt (fun j hj => ⟨(tb j hj).1, by rw [hC173]; exact (tb j hj).2.2⟩) n1 n2 (his W hC168)
    obtain ⟨V0, V, r0, r, k1, k2, k3, k4⟩ := hmod M J (nI w) (nI n) m1 m2
    rcases k4 with ⟨rfl, k5, k6⟩ | ⟨-, k5, -⟩
    · refine ⟨W 1 4, W, J, xv_u2 V 167 7 0, J, hcls, ?_, ?_⟩
      · rw [m5 r0 V0 k1, k2, xl_on83f, k6]
      · refine vi_all_cut hV hIX (fun a j hv q1 q2 => ?_) ?_ xu_eq rfl
        · by_cases c7 : a = 167
          · subst c7
            have hj := o4 j hv
            rw [xu_ne2 (by omega), k3.2 j (by omega) (by omega) (by omega), m4 j (by omega) (by omega) (by omega) (by omega) (by omega), hC167, xu_ne (by omega)]
          · by_cases c9 : a = 189
            · subst c9; exact (o5 j hv).elim
            · rw [xu_ne c7, k3.1 a c7 c9, m3 a c7]; exact hWv a j hv q1
        · rw [xu_ne (by omega), k3.1 1 (by omega) (by omega), m3 1 (by omega)]; exact hW1
    · exact absurd k5 hf
theorem xp_5 (VL : xv_LP) (hV : vi_Lc VL) : xl_P5 (vi_all VL) := xp_5g VL (xl_onH VL hV)
