/-! PAIR: transcript -/
theorem tr_fin {VL : xv_LP} (hV : vi_Lc VL) {I Y : Nat → Nat → Int32} {J : Nat → Nat → Int64} (hI : vi_all VL I J) (hs : ∀ a, a ≠ 1 → a ≠ 167 → a ≠ 168 → (a < 190 ∨ 194 ≤ a) → (a < 25 ∨ 68 ≤ a) → (a < 111 ∨ 154 ≤ a) → Y a = I a) (h7 : ∀ j, j ≠ 7 → j ≠ 8 → j ≠ 9 → j ≠ 10 → j ≠ 13 → j ≠ 15 → j ≠ 42 → Y 167 j = I 167 j) (h71 : Y 167 7 = 0) (h11 : Y 1 1 = 0) (hA : vi_A Y 25 168) (hB : vi_B Y) : vi_all VL Y J := by
  obtain ⟨a1, a2, a3, a4, a5, a6, a7⟩ := hI
  refine ⟨⟨0, Nat.zero_le _, h11, h71, fun j hj => by omega⟩, vi_P_c a2 (hs 23 (by omega) (by omega) (by omega) (by omega) (by omega) (by omega)) (hs 171 (by omega) (by omega) (by omega) (by omega) (by omega) (by omega)), vi_Q_c a3 (by rw [hs 3 (by omega) (by omega) (by omega) (by omega) (by omega) (by omega)]) (hs 4 (by omega) (by omega) (by omega) (by omega) (by omega) (by omega)) (h7 5 (by omega) (by omega) (by omega) (by omega) (by omega) (by omega) (by omega)) rfl, hA, vi_K_c a5 (by rw [hs 0 (by omega) (by omega) (by omega) (by omega) (by omega) (by omega)]) (h7 51 (by omega) (by omega) (by omega) (by omega) (by omega) (by omega) (by omega)) (fun f hf => by rw [hs 68 (by omega) (by omega) (by omega) (by omega) (by omega) (by omega)]) (fun a q1 q2 => hs a (by omega) (by omega) (by omega) (by omega) (by omega) (by omega)) (hs 170 (by omega) (by omega) (by omega) (by omega) (by omega) (by omega)), hV I Y (fun a q1 q2 => hs a (by omega) (by omega) (by omega) (by omega) (by omega) (by omega)) (h7 16 (by omega) (by omega) (by omega) (by omega) (by omega) (by omega) (by omega)) (fun a q1 q2 => hs a (by omega) (by omega) (by omega) (by omega) (by omega) (by omega)) a6, hB⟩
def tr_z (I : Nat → Nat → Int32) (i : Nat) : Nat → Nat → Int32 := fun a j => if a = 193 ∧ j < i then 0 else I a j
theorem tr_z0 (I : Nat → Nat → Int32) : tr_z I 0 = I := by
  funext a j
  unfold tr_z
  rw [if_neg (by omega)]
theorem tr_zs (I : Nat → Nat → Int32) (i : Nat) : xv_u2 (tr_z I i) 193 i 0 = tr_z I (i + 1) := by
  funext a j
  unfold xv_u2 tr_z
  by_cases c : a = 193
  · by_cases c2 : j = i
    · rw [if_pos ⟨c, c2⟩, if_pos ⟨c, by omega⟩]
    · rw [if_neg (by omega)]
      by_cases c3 : j < i
      · rw [if_pos ⟨c, c3⟩, if_pos ⟨c, by omega⟩]
      · rw [if_neg (by omega), if_neg (by omega)]
  · rw [if_neg (by omega), if_neg (by omega), if_neg (by omega)]
theorem tr_zo (I : Nat → Nat → Int32) {i a : Nat} (h : a ≠ 193) : tr_z I i a = I a := by
  funext j
  unfold tr_z
  rw [if_neg (by omega)]
theorem xl_tr32 (ro : xv_Ro) (d : Nat) (z : Nat × Nat) (I : Nat → Nat → Int32) (J : Nat → Nat → Int64) (x1 : Int32) : xv_ev ro d xm_Mo_transcript xb_Mo_transcript_32 [some (.ref 167), some (.int x1), some (.int 0), none] [] (z, xv_mk I J) = xv_ev ro d xm_Mo_transcript xb_Mo_transcript_51 [some (.ref 167), some (.int x1), some (.int 10), none] [] (z, xv_mk (tr_z I 10) J) := by
  have h := vz_iter (fun i => xv_ev ro d xm_Mo_transcript xb_Mo_transcript_32 [some (.ref 167), some (.int x1), some (.int (nI i)), none] [] (z, xv_mk (tr_z I i) J)) 10 (fun i hi => by
    have g1 : (10 ≤ nI i) = False := by (simp (disch := omega) only [vz_all, if_true, if_false, true_or, or_true, eq_self, ite_not, Bool.false_eq_true, ite_self, and_self, true_and, and_true, false_and, and_false, not_true_eq_false, not_false_eq_true, false_or, or_false])
    have g2 : xv_inB (nI i) 10 = true := by (simp (disch := omega) only [vz_all, if_true, if_false, true_or, or_true, eq_self, ite_not, Bool.false_eq_true, ite_self, and_self, true_and, and_true, false_and, and_false, not_true_eq_false, not_false_eq_true, false_or, or_false])
    conv => lhs; unfold xb_Mo_transcript_32
    simp only [xr_all, xf_all, if_true, if_false, true_or, or_true, eq_self, ite_not, Bool.false_eq_true, ite_self, and_self, true_and, and_true, false_and, and_false, not_true_eq_false, not_false_eq_true, xj_Mo_transcript, xb_Mo_transcript_0, xb_Mo_transcript_18, xb_Mo_transcript_20, xb_Mo_transcript_91, xb_Mo_transcript_92, xb_Mo_transcript_110, xb_Mo_transcript_159, g1, g2, nI_clamp (show i < 2 ^ 31 by omega), tr_zs, nI_1])
  rw [tr_z0, show nI 0 = (0 : Int32) from rfl, show nI 10 = (10 : Int32) from rfl] at h
  rw [h]
  have g1 : ((10 : Int32) ≤ 10) = True := eq_true (by decide)
  conv => lhs; unfold xb_Mo_transcript_32
  simp only [xr_all, xf_all, if_true, if_false, true_or, or_true, eq_self, ite_not, Bool.false_eq_true, ite_self, and_self, true_and, and_true, false_and, and_false, not_true_eq_false, not_false_eq_true, xj_Mo_transcript, xb_Mo_transcript_0, xb_Mo_transcript_18, xb_Mo_transcript_20, xb_Mo_transcript_91, xb_Mo_transcript_92, xb_Mo_transcript_110, xb_Mo_transcript_159, g1]
theorem xl_trM (ro : xv_Ro) (V : Nat → Nat → Int32) (J : Nat → Nat → Int64) {n t : Nat} {b : Nat → Nat} (hnt : n ≤ t) (t3 : V 167 7 = nI t) (tt : t ≤ 260) (tb : ∀ j, j < t → b j < 256 ∧ V 173 j &&& 255 = nI (b j)) (n1 : 1 ≤ n) (n2 : n ≤ 100) : ∃ M : Nat → Nat → Int32, tp_M b n 0 M ∧ M 167 42 = 0 ∧ (∀ w, w < 10 → M 193 w = 0) ∧ (∀ a, a ≠ 167 → a ≠ 193 → M a = V a) ∧ (∀ j, j ≠ 8 → j ≠ 9 → j ≠ 13 → j ≠ 15 → j ≠ 42 → M 167 j = V 167 j) ∧ ∀ (r0 : Int32) (V0 : Nat → Nat → Int32), xv_evm ro 198 93 [.ref 167] (xv_SZ, xv_mk M J) = some (some (.int r0), (xv_SZ, xv_mk V0 J)) → xv_evm ro 199 94 [.ref 167, .int (nI n)] (xv_SZ, xv_mk V J) = xv_ev ro 199 xm_Mo_transcript xb_Mo_transcript_56 [some (.ref 167), some (.int (nI n)), some (.int r0), none] [] (xv_SZ, xv_mk V0 J) := by
  have z1 : ((1 : Int32) = 0) = False := eq_false (by decide)
  have e3 : (1 ≤ nI n ∧ nI n ≤ 100) = True := by (simp (disch := omega) only [vz_all, if_true, if_false, true_or, or_true, eq_self, ite_not, Bool.false_eq_true, ite_self, and_self, true_and, and_true, false_and, and_false, not_true_eq_false, not_false_eq_true, false_or, or_false])
  have e5 : (nI n ≤ nI t) = True := by (simp (disch := omega) only [vz_all, if_true, if_false, true_or, or_true, eq_self, ite_not, Bool.false_eq_true, ite_self, and_self, true_and, and_true, false_and, and_false, not_true_eq_false, not_false_eq_true, false_or, or_false])
  have hbg := xl_onB ro 198 xv_SZ V J (nI n)
  have h32 := xl_tr32 ro 199 xv_SZ (xv_u2 (xv_u2 (xv_u2 (xv_u2 (xv_u2 V 167 8 0) 167 9 (nI n)) 167 13 0) 167 15 0) 167 42 0) J (nI n)
  refine ⟨tr_z (xv_u2 (xv_u2 (xv_u2 (xv_u2 (xv_u2 V 167 8 0) 167 9 (nI n)) 167 13 0) 167 15 0) 167 42 0) 10, ⟨by omega, Nat.zero_le _, ?_, ?_, fun j hj => ?_⟩, ?_, fun w hw => ?_, fun a ha ha2 => ?_, fun j q1 q2 q3 q4 q5 => ?_, fun r0 V0 h => ?_⟩
  · rw [tr_zo _ (by omega)]; (repeat (first | rw [xu_ne2 (by omega)] | rw [xu_ne (by omega)] | rw [xu_eq]))
  · rw [tr_zo _ (by omega)]; (repeat (first | rw [xu_ne2 (by omega)] | rw [xu_ne (by omega)] | rw [xu_eq])); rfl
  · rw [tr_zo _ (by omega)]; (repeat (first | rw [xu_ne2 (by omega)] | rw [xu_ne (by omega)] | rw [xu_eq])); exact tb j (by omega)
  · rw [tr_zo _ (by omega)]; exact xu_eq
  · unfold tr_z; rw [if_pos ⟨rfl, hw⟩]
  · rw [tr_zo _ ha2]; (repeat (first | rw [xu_ne2 (by omega)] | rw [xu_ne (by omega)] | rw [xu_eq]))
  · rw [tr_zo _ (by omega)]; (repeat (first | rw [xu_ne2 (by omega)] | rw [xu_ne (by omega)] | rw [xu_eq]))
  · rw [xe_Mo_transcript]
    simp only [xr_all, xf_all, if_true, if_false, true_or, or_true, eq_self, ite_not, Bool.false_eq_true, ite_self, and_self, true_and, and_true, false_and, and_false, not_true_eq_false, not_false_eq_true, xj_Mo_transcript, xb_Mo_transcript_0, xb_Mo_transcript_18, xb_Mo_transcript_20, xb_Mo_transcript_91, xb_Mo_transcript_92, xb_Mo_transcript_110, xb_Mo_transcript_159, z1, xq_Mo_in, e3, t3, e5, hbg]
    rw [h32]
    simp only [xr_all, xf_all, if_true, if_false, true_or, or_true, eq_self, ite_not, Bool.false_eq_true, ite_self, and_self, true_and, and_true, false_and, and_false, not_true_eq_false, not_false_eq_true, xj_Mo_transcript, xb_Mo_transcript_0, xb_Mo_transcript_18, xb_Mo_transcript_20, xb_Mo_transcript_51, xb_Mo_transcript_91, xb_Mo_transcript_92, xb_Mo_transcript_110, xb_Mo_transcript_159, h]
theorem xl_trE0 (ro : xv_Ro) (V : Nat → Nat → Int32) (J : Nat → Nat → Int64) (x1 : Int32) : xv_ev ro 199 xm_Mo_transcript xb_Mo_transcript_96 [some (.ref 167), some (.int x1), some (.int 0), none] [] (xv_SZ, xv_mk V J) = some (some (.int (V 167 10)), (xv_SZ, xv_mk (xv_u2 V 167 7 0) J)) := by
  have e : xv_u2 V 167 7 0 167 10 = V 167 10 := xu_ne2 (by omega)
  conv => lhs; unfold xb_Mo_transcript_96
  simp only [xr_all, xf_all, if_true, if_false, true_or, or_true, eq_self, ite_not, Bool.false_eq_true, ite_self, and_self, true_and, and_true, false_and, and_false, not_true_eq_false, not_false_eq_true, xj_Mo_transcript, xb_Mo_transcript_0, xb_Mo_transcript_18, xb_Mo_transcript_20, xb_Mo_transcript_51, xb_Mo_transcript_91, xb_Mo_transcript_92, xb_Mo_transcript_110, xb_Mo_transcript_159, e]
theorem xl_trE1 (ro : xv_Ro) (V : Nat → Nat → Int32) (J : Nat → Nat → Int64) (x1 : Int32) {R0 : Nat → Int32} {W : Nat → Nat → Int32} {j' : Nat} {b1 b2 b3 : Nat → Int32} (hA : tr_A ro R0 W j' b1 b2 b3) (h168 : V 168 = R0) (h42 : V 167 42 = nI j') (hj : j' ≤ 20) (hr : ∀ i, i < j' → V 190 i = b1 i ∧ V 191 i = b2 i ∧ V 192 i = b3 i) : ∃ Y : Nat → Nat → Int32, xv_ev ro 199 xm_Mo_transcript xb_Mo_transcript_96 [some (.ref 167), some (.int x1), some (.int 1), none] [] (xv_SZ, xv_mk V J) = some (some (.int (W 111 2)), (xv_SZ, xv_mk Y J)) ∧ (∀ a, a ≠ 168 → Y a = xv_u2 V 167 7 0 a) ∧ vi_A (vz_mg W Y) 111 168 := by
  obtain ⟨Y, y1, y2, y3⟩ := hA (xv_u2 V 167 7 0) J x1 1 (by rw [xu_ne (by omega)]; exact h168) (fun i hi => by rw [xu_ne (by omega), xu_ne (by omega), xu_ne (by omega)]; exact hr i hi) j' (by rw [xu_ne2 (by omega)]; exact h42) (Nat.le_refl _) hj
  refine ⟨Y, ?_, y2, y3⟩
  obtain ⟨⟨n', p1, p2, p3, p4⟩, -⟩ := y3
  rw [vz_mgC _ _ (by omega)] at p2
  rw [vz_mgM _ _ (by omega)] at p3
  have z1 : ((1 : Int32) = 0) = False := eq_false (by decide)
  have i301 : xv_inB 301 304 = true := by decide
  have c301 : (301 : Int32).toNatClampNeg = 301 := by decide
  have g : (nI j' ≤ nI j') = True := by (simp (disch := omega) only [vz_all, if_true, if_false, true_or, or_true, eq_self, ite_not, Bool.false_eq_true, ite_self, and_self, true_and, and_true, false_and, and_false, not_true_eq_false, not_false_eq_true, false_or, or_false])
  have e42 : Y 167 42 = nI j' := by rw [y2 167 (by omega), xu_ne2 (by omega)]; exact h42
  rw [show nI 0 = (0 : Int32) from rfl] at y1
  conv => lhs; unfold xb_Mo_transcript_96
  simp only [xr_all, xf_all, if_true, if_false, true_or, or_true, eq_self, ite_not, Bool.false_eq_true, ite_self, and_self, true_and, and_true, false_and, and_false, not_true_eq_false, not_false_eq_true, xj_Mo_transcript, xb_Mo_transcript_0, xb_Mo_transcript_18, xb_Mo_transcript_20, xb_Mo_transcript_51, xb_Mo_transcript_91, xb_Mo_transcript_92, xb_Mo_transcript_110, xb_Mo_transcript_159, z1]
  rw [y1]
  conv => lhs; unfold xb_Mo_transcript_112
  simp only [xr_all, xf_all, if_true, if_false, true_or, or_true, eq_self, ite_not, Bool.false_eq_true, ite_self, and_self, true_and, and_true, false_and, and_false, not_true_eq_false, not_false_eq_true, xj_Mo_transcript, xb_Mo_transcript_0, xb_Mo_transcript_18, xb_Mo_transcript_20, xb_Mo_transcript_51, xb_Mo_transcript_91, xb_Mo_transcript_92, xb_Mo_transcript_110, xb_Mo_transcript_159, e42, g, i301, c301, p3, p2]
theorem xl_trH (VL : xv_LP) (hV : vi_Lc VL) (ro : xv_Ro) (I : Nat → Nat → Int32) (J : Nat → Nat → Int64) {n t : Nat} {b : Nat → Nat} (hI : vi_all VL I J) (hnt : n ≤ t) (tt : t ≤ 260) (t2 : I 1 1 = nI t) (t3 : I 167 7 = nI t) (tb : ∀ j, j < t → b j < 256 ∧ I 2 j = nI (b j) ∧ I 173 j &&& 255 = nI (b j)) (n1 : 1 ≤ n) (n2 : n ≤ 100) : ∃ r I1 J1 I2 J2, xv_evm ro 199 7 [.ref 0, .int (nI n)] (xv_SZ, xv_mk I J) = some (some (.int r), (xv_SZ, xv_mk I1 J1)) ∧ xv_evm ro 199 94 [.ref 167, .int (nI n)] (xv_SZ, xv_mk I1 J1) = some (some (.int r), (xv_SZ, xv_mk I2 J2)) ∧ vi_all VL I2 J2 := by
  obtain ⟨a1, a2, ⟨⟨qm, q1, q2, q3⟩, q4⟩, aA, a5, a6, a7⟩ := id hI
  obtain ⟨⟨sd, s1, s2, s3, s4⟩, -, ⟨tm, m1, m2, m3⟩, g4⟩ := id aA
  have e1 : (nI n < 1) = False := by (simp (disch := omega) only [vz_all, if_true, if_false, true_or, or_true, eq_self, ite_not, Bool.false_eq_true, ite_self, and_self, true_and, and_true, false_and, and_false, not_true_eq_false, not_false_eq_true, false_or, or_false])
  have e2 : (100 < nI n) = False := by (simp (disch := omega) only [vz_all, if_true, if_false, true_or, or_true, eq_self, ite_not, Bool.false_eq_true, ite_self, and_self, true_and, and_true, false_and, and_false, not_true_eq_false, not_false_eq_true, false_or, or_false])
  have e4 : (nI n ≤ I 1 1) = True := by rw [t2]; (simp (disch := omega) only [vz_all, if_true, if_false, true_or, or_true, eq_self, ite_not, Bool.false_eq_true, ite_self, and_self, true_and, and_true, false_and, and_false, not_true_eq_false, not_false_eq_true, false_or, or_false])
  have hcut := xq_cut ro 198 xv_SZ I J (nI n) 1 100 e1 e2 e4
  have hB0 : vi_B (xv_u2 (xv_u2 (xv_u2 (xv_u2 I 1 1 0) 1 2 (nI n)) 1 3 0) 1 4 0) := vi_B_n (vi_B_n (vi_B_n (vi_B_n a7 (by decide) (by decide)) (by decide) (by decide)) (by decide) (by decide)) (by decide) (by decide)
  have hcp := xq_Archive_copy ro 196 xv_SZ J (A := 111) (B := 25) (Or.inr (Or.inr rfl)) (Or.inl rfl) (by omega) _ hB0
  have hBC := vc_all_B (A := 111) (B := 25) (Or.inr (Or.inr rfl)) (Or.inl rfl) hB0
  have hout : ∀ a, a ≠ 1 → (a < 111 ∨ 154 ≤ a) → vc_all (xv_u2 (xv_u2 (xv_u2 (xv_u2 I 1 1 0) 1 2 (nI n)) 1 3 0) 1 4 0) 111 25 a = I a := fun a h1 ha => by
    rw [vc_all_out _ (by omega), xu_ne h1, xu_ne h1, xu_ne h1, xu_ne h1]
  have hout1 : ∀ j, vc_all (xv_u2 (xv_u2 (xv_u2 (xv_u2 I 1 1 0) 1 2 (nI n)) 1 3 0) 1 4 0) 111 25 1 j = xv_u2 (xv_u2 (xv_u2 (xv_u2 I 1 1 0) 1 2 (nI n)) 1 3 0) 1 4 0 1 j := fun j => by
    rw [vc_all_out _ (by omega)]
  have ham : ∀ f, 2 ≤ f → f < 5 → vc_all (xv_u2 (xv_u2 (xv_u2 (xv_u2 I 1 1 0) 1 2 (nI n)) 1 3 0) 1 4 0) 111 25 111 f = I 25 f := fun f h1 h2 => by
    rw [vc_all_m _ h1 h2]; (repeat (first | rw [xu_ne2 (by omega)] | rw [xu_ne (by omega)] | rw [xu_eq]))
  have haw : ∀ w, w < 10 → ∀ f, 1 ≤ f → f ≤ 3 → vc_all (xv_u2 (xv_u2 (xv_u2 (xv_u2 I 1 1 0) 1 2 (nI n)) 1 3 0) 1 4 0) 111 25 (111 + 3 + 2 * w) f = I (25 + 3 + 2 * w) f := fun w hw f h1 h2 => by
    rw [vc_all_w _ hw h1 h2]; (repeat (first | rw [xu_ne2 (by omega)] | rw [xu_ne (by omega)] | rw [xu_eq]))
  have has : ∀ w, w < 10 → ∀ f, f < 12 → vc_all (xv_u2 (xv_u2 (xv_u2 (xv_u2 I 1 1 0) 1 2 (nI n)) 1 3 0) 1 4 0) 111 25 (111 + 4 + 2 * w) f = I (25 + 4 + 2 * w) f := fun w hw f h2 => by
    rw [vc_all_s _ hw h2]; (repeat (first | rw [xu_ne2 (by omega)] | rw [xu_ne (by omega)] | rw [xu_eq]))
  have han : ∀ i, i < 20 → ∀ f, f < 8 → vc_all (xv_u2 (xv_u2 (xv_u2 (xv_u2 I 1 1 0) 1 2 (nI n)) 1 3 0) 1 4 0) 111 25 (111 + 23 + i) f = I (25 + 23 + i) f := fun i hi f h2 => by
    rw [vc_all_n _ hi h2]; (repeat (first | rw [xu_ne2 (by omega)] | rw [xu_ne (by omega)] | rw [xu_eq]))
  have hC1 : tp_C b n 0 (vc_all (xv_u2 (xv_u2 (xv_u2 (xv_u2 I 1 1 0) 1 2 (nI n)) 1 3 0) 1 4 0) 111 25) := ⟨by omega, Nat.zero_le _, by rw [hout1]; (repeat (first | rw [xu_ne2 (by omega)] | rw [xu_ne (by omega)] | rw [xu_eq])), by rw [hout1]; (repeat (first | rw [xu_ne2 (by omega)] | rw [xu_ne (by omega)] | rw [xu_eq])); rfl, by rw [hout1]; (repeat (first | rw [xu_ne2 (by omega)] | rw [xu_ne (by omega)] | rw [xu_eq])), fun j hj => by rw [hout 2 (by omega) (by omega)]; exact ⟨(tb j (by omega)).1, (tb j (by omega)).2.1⟩⟩
  have hC11 : vc_all (xv_u2 (xv_u2 (xv_u2 (xv_u2 I 1 1 0) 1 2 (nI n)) 1 3 0) 1 4 0) 111 25 1 1 = 0 := by rw [hout1]; (repeat (first | rw [xu_ne2 (by omega)] | rw [xu_ne (by omega)] | rw [xu_eq]))
  generalize vc_all (xv_u2 (xv_u2 (xv_u2 (xv_u2 I 1 1 0) 1 2 (nI n)) 1 3 0) 1 4 0) 111 25 = C at *
  have hly : ∀ w, w < 10 → I (25 + 3 + 2 * w) 1 = nI (I (25 + 3 + 2 * w) 1).toNatClampNeg ∧ (I (25 + 3 + 2 * w) 1).toNatClampNeg ≤ 12 ∧ I 168 (120 + w) = nI (I (25 + 3 + 2 * w) 1).toNatClampNeg := by
    intro w hw
    obtain ⟨-, l, l1, l2, l3, -⟩ := g4 w hw
    rw [l2, nI_clamp (by omega)]
    exact ⟨rfl, l1, l3⟩
  have hF : tr_F C sd tm qm (fun w => (I (25 + 3 + 2 * w) 1).toNatClampNeg) := ⟨by rw [ham 2 (by omega) (by omega)]; exact s2, s1, fun w hw => by rw [haw w hw 3 (by omega) (by omega)]; exact m3 w hw, fun w hw => by rw [haw w hw 1 (by omega) (by omega)]; exact ⟨(hly w hw).1, (hly w hw).2.1⟩, by rw [hout 3 (by omega) (by omega)]; exact q2⟩
  have hA : tr_A ro (I 168) C 0 (fun _ => 0) (fun _ => 0) (fun _ => 0) := by
    intro X JM x1 x2 hX _ m _ _ _
    refine ⟨X, rfl, fun _ _ => rfl, vi_A_cp aA (fun f h1 h2 => ?_) (fun w hw f h1 h2 => ?_) (fun w hw f h2 => ?_) (fun i hi f h2 => ?_) (fun j hj => ?_)⟩
    · rw [vz_mgC _ _ (by omega)]; exact ham f h1 h2
    · rw [vz_mgC _ _ (by omega)]; exact haw w hw f h1 h2
    · rw [vz_mgC _ _ (by omega)]; exact has w hw f h2
    · rw [vz_mgC _ _ (by omega)]; exact han i hi f h2
    · rw [vz_mgM _ _ (by omega), hX]
  obtain ⟨W1, W, j', b1, b2, b3, w1, w2, w3, w4⟩ := xl_hearL ro n2 m1 q1 (xl_hears ro n2 m1 q1 n) 0 0 sd 0 _ _ _ _ C J (by omega) (by omega) hC1 hF hA (by omega)
  have hhear : xv_evm ro 198 171 [.ref 111, .ref 1, .ref 3] (xv_SZ, xv_mk C J) = some (none, (xv_SZ, xv_mk W J)) := by
    rw [← w2, xe_Archive_hear, show nI 0 = (0 : Int32) from rfl]
    simp only [xr_all, xf_all, if_true, if_false, true_or, or_true, eq_self, ite_not, Bool.false_eq_true, ite_self, and_self, true_and, and_true, false_and, and_false, not_true_eq_false, not_false_eq_true, xj_Archive_hear, xb_Archive_hear_0, xb_Archive_hear_35, w1]
  have hWo : ∀ a, a ≠ 1 → (a < 111 ∨ 154 ≤ a) → W a = I a := fun a h1 h2 => (w3.1 a h1 h2).trans (hout a h1 h2)
  have hW11 : W 1 1 = 0 := (w3.2.1 1 (by omega) (by omega)).trans hC11
  have hBW : vi_B W := w3.2.2 hBC
  have z1 : ((1 : Int32) = 0) = False := eq_false (by decide)
  have mm : ∀ U : Nat → Nat → Int32, (∀ a, 154 ≤ a → U a = I a) → ∃ (V : Nat → Nat → Int32) (r : Int32), xv_evm ro 199 94 [.ref 167, .int (nI n)] (xv_SZ, xv_mk U J) = xv_ev ro 199 xm_Mo_transcript xb_Mo_transcript_96 [some (.ref 167), some (.int (nI n)), some (.int r), none] [] (xv_SZ, xv_mk V J) ∧ (∀ a, a ≠ 167 → (a < 190 ∨ 194 ≤ a) → V a = U a) ∧ (∀ j, j ≠ 8 → j ≠ 9 → j ≠ 10 → j ≠ 13 → j ≠ 15 → j ≠ 42 → V 167 j = I 167 j) ∧ tr_E ro (I 168) W V r j' b1 b2 b3 := by
    intro U hU
    obtain ⟨M, k1, k2, k3, k4, k5, k6⟩ := xl_trM ro U J (n := n) (t := t) (b := b) hnt (by rw [hU 167 (by omega)]; exact t3) tt (fun j hj => ⟨(tb j hj).1, by rw [hU 173 (by omega)]; exact (tb j hj).2.2⟩) n1 n2
    have kM : ∀ a, 154 ≤ a → a ≠ 167 → a ≠ 193 → M a = I a := fun a h0 h1 h2 => (k4 a h1 h2).trans (hU a h0)
    obtain ⟨V1, V, r1, r, v1, v2, v3, v4, v5⟩ := w4 M J (nI n) sd k1 ⟨by rw [kM 168 (by omega) (by omega) (by omega)]; exact s3, k2, rfl, by rw [kM 168 (by omega) (by omega) (by omega)]; exact m2, by rw [k5 5 (by omega) (by omega) (by omega) (by omega) (by omega), hU 167 (by omega)]; exact q3, fun w hw => ⟨0, _, k3 w hw, by rw [kM 168 (by omega) (by omega) (by omega)]; exact (hly w hw).2.2, (hly w hw).2.1, by dsimp only; omega⟩⟩ (fun i hi => by omega)
    refine ⟨V, r, (k6 r1 V1 v1).trans v3, fun a h1 h2 => by rw [v4.1 a h1 (by omega) (by omega) (by omega) (by omega), k4 a h1 (by omega)], fun j h1 h2 h3 h4 h5 h6 => by rw [v4.2 j h1 h3 h6, k5 j h1 h2 h4 h5 h6, hU 167 (by omega)], v5⟩
  have hoc : ∀ a, xv_oc a = some 8 ∨ xv_oc a = some 9 → a ≠ 167 ∧ a ≠ 168 ∧ (a < 190 ∨ 194 ≤ a) := by
    intro a ha
    have o167 : xv_oc 167 = some 0 := rfl
    have o168 : xv_oc 168 = none := rfl
    have o190 : xv_oc 190 = none ∧ xv_oc 191 = none ∧ xv_oc 192 = none ∧ xv_oc 193 = none := ⟨rfl, rfl, rfl, rfl⟩
    refine ⟨fun q => ?_, fun q => ?_, ?_⟩
    · rw [q, o167] at ha; rcases ha with ha | ha <;> cases ha
    · rw [q, o168] at ha; rcases ha with ha | ha <;> cases ha
    · by_cases c : a < 190 ∨ 194 ≤ a
      · exact c
      · have : a = 190 ∨ a = 191 ∨ a = 192 ∨ a = 193 := by omega
        obtain ⟨p1, p2, p3, p4⟩ := o190
        rcases this with rfl | rfl | rfl | rfl
        · rw [p1] at ha; rcases ha with ha | ha <;> cases ha
        · rw [p2] at ha; rcases ha with ha | ha <;> cases ha
        · rw [p3] at ha; rcases ha with ha | ha <;> cases ha
        · rw [p4] at ha; rcases ha with ha | ha <;> cases ha
  by_cases hf : W 1 4 = 0
  · have hisf := xl_onI ro 198 xv_SZ W J (v := 0) (Or.inl ⟨hf, rfl⟩)
    have hback := xq_Archive_copy ro 196 xv_SZ J (A := 25) (B := 111) (Or.inl rfl) (Or.inr (Or.inr rfl)) (by omega) W hBW
    have hsaid := xq_Archive_said ro 198 xv_SZ (vc_all W 25 111) J
    rw [vc_all_m W (by omega) (by omega)] at hsaid
    have hUo : ∀ a, a < 25 ∨ 68 ≤ a → vc_all W 25 111 a = W a := fun a ha => vc_all_out W (by omega)
    obtain ⟨V, r, v1, v2, v3, v4⟩ := mm (vc_all W 25 111) (fun a ha => by rw [hUo a (by omega)]; exact hWo a (by omega) (by omega))
    rcases v4 with ⟨-, u1, -⟩ | ⟨rfl, -, u2, u3, u4, u5⟩
    · exact absurd hf (fun q => by rw [u1] at q; exact q)
    · have hV168 : V 168 = I 168 := by rw [v2 168 (by omega) (by omega), hUo 168 (by omega)]; exact hWo 168 (by omega) (by omega)
      obtain ⟨Y, y1, y2, y3⟩ := xl_trE1 ro V J (nI n) u4 hV168 u2 u3 u5
      have hYU : ∀ a, a ≠ 167 → a ≠ 168 → (a < 190 ∨ 194 ≤ a) → Y a = vc_all W 25 111 a := fun a h1 h2 h3 => by rw [y2 a h2, xu_ne h1]; exact v2 a h1 h3
      refine ⟨W 111 2, vc_all W 25 111, J, Y, J, ?_, v1.trans y1, ?_⟩
      · rw [xe_Ct_transcript]
        simp only [xr_all, xf_all, if_true, if_false, true_or, or_true, eq_self, ite_not, Bool.false_eq_true, ite_self, and_self, true_and, and_true, false_and, and_false, not_true_eq_false, not_false_eq_true, xj_Ct_transcript, xb_Ct_transcript_0, xb_Ct_transcript_16, xb_Ct_transcript_60, hcut, z1, hcp, hhear, hisf, hback, hsaid]
      · refine tr_fin hV hI (fun a h1 h2 h3 h4 h5 h6 => by rw [hYU a h2 h3 h4, hUo a h5]; exact hWo a h1 h6) (fun j h1 h2 h3 h4 h5 h6 h7 => by rw [y2 167 (by omega), xu_ne2 (by omega)]; exact v3 j h2 h3 h4 h5 h6 h7) (by rw [y2 167 (by omega), xu_eq]) (by rw [hYU 1 (by omega) (by omega) (by omega), hUo 1 (by omega)]; exact hW11) ?_ ?_
        · refine vi_A_cp y3 (fun f h1 h2 => ?_) (fun w hw f h1 h2 => ?_) (fun w hw f h2 => ?_) (fun i hi f h2 => ?_) (fun j hj => ?_)
          · rw [hYU 25 (by omega) (by omega) (by omega), vc_all_m W h1 h2, vz_mgC _ _ (by omega)]
          · rw [hYU _ (by omega) (by omega) (by omega), vc_all_w W hw h1 h2, vz_mgC _ _ (by omega)]
          · rw [hYU _ (by omega) (by omega) (by omega), vc_all_s W hw h2, vz_mgC _ _ (by omega)]
          · rw [hYU _ (by omega) (by omega) (by omega), vc_all_n W hi h2, vz_mgC _ _ (by omega)]
          · rw [vz_mgM _ _ (by omega)]
        · exact vi_B_c (vc_all_B (A := 25) (B := 111) (Or.inl rfl) (Or.inr (Or.inr rfl)) hBW) (fun a ha => hYU a (hoc a ha).1 (hoc a ha).2.1 (hoc a ha).2.2)
  · have hf' : (W 1 4 = 0) = False := eq_false hf
    have hisf := xl_onI ro 198 xv_SZ W J (v := 1) (Or.inr ⟨hf', rfl⟩)
    have hfa := xl_onF ro 198 xv_SZ W J
    obtain ⟨V, r, v1, v2, v3, v4⟩ := mm W (fun a ha => hWo a (by omega) (by omega))
    rcases v4 with ⟨rfl, -, u2⟩ | ⟨-, u1, -⟩
    · have hYW : ∀ a, a ≠ 167 → (a < 190 ∨ 194 ≤ a) → xv_u2 V 167 7 0 a = W a := fun a h1 h3 => by rw [xu_ne h1]; exact v2 a h1 h3
      refine ⟨W 1 4, W, J, xv_u2 V 167 7 0, J, ?_, ?_, ?_⟩
      · rw [xe_Ct_transcript]
        simp only [xr_all, xf_all, if_true, if_false, true_or, or_true, eq_self, ite_not, Bool.false_eq_true, ite_self, and_self, true_and, and_true, false_and, and_false, not_true_eq_false, not_false_eq_true, xj_Ct_transcript, xb_Ct_transcript_0, xb_Ct_transcript_16, xb_Ct_transcript_60, hcut, z1, hcp, hhear, hisf, hfa]
      · rw [v1, xl_trE0, u2]
      · refine tr_fin hV hI (fun a h1 h2 h3 h4 h5 h6 => by rw [hYW a h2 h4]; exact hWo a h1 h6) (fun j h1 h2 h3 h4 h5 h6 h7 => by rw [xu_ne2 (by omega)]; exact v3 j h2 h3 h4 h5 h6 h7) xu_eq (by rw [hYW 1 (by omega) (by omega)]; exact hW11) ?_ ?_
        · exact vi_A_c aA (fun f hf => by rw [hYW 25 (by omega) (by omega), hWo 25 (by omega) (by omega)]) (fun a h1 h2 => by rw [hYW a (by omega) (by omega), hWo a (by omega) (by omega)]) (by rw [hYW 168 (by omega) (by omega), hWo 168 (by omega) (by omega)])
        · exact vi_B_c hBW (fun a ha => hYW a (hoc a ha).1 (hoc a ha).2.2)
    · exact absurd u1 hf
theorem xp_6 (VL : xv_LP) (hV : vi_Lc VL) : xl_P6 (vi_all VL) := by
  intro x0 ro I J hro hI
  obtain ⟨t, t1, t2, t3, b, tb⟩ := vi_Tb hI.1
  have z1 : ((1 : Int32) = 0) = False := eq_false (by decide)
  by_cases hgood : ∃ n : Nat, 1 ≤ n ∧ n ≤ 100 ∧ x0 = nI n ∧ n ≤ t
  · obtain ⟨n, n1, n2, rfl, hnt⟩ := hgood
    exact xl_trH VL hV ro I J hI hnt t1 t2 t3 tb n1 n2
  · refine ⟨-1, I, J, I, J, ?_, ?_, hI⟩
    · have hcut : xv_evm ro 198 248 [.ref 1, .int x0, .int 1, .int 100] (xv_SZ, xv_mk I J) = some (some (.int 0), (xv_SZ, xv_mk I J)) := by
        rcases vn_1N 100 (by omega) x0 with ⟨n, n1, n2, rfl, e1, e2, e3⟩ | ⟨e1, e2⟩
        · have q2 : (100 < nI n) = False := by (simp (disch := omega) only [vz_all, if_true, if_false, true_or, or_true, eq_self, ite_not, Bool.false_eq_true, ite_self, and_self, true_and, and_true, false_and, and_false, not_true_eq_false, not_false_eq_true, false_or, or_false])
          have q3 : (nI n ≤ I 1 1) = False := by
            have hnt : ¬ n ≤ t := fun q => hgood ⟨n, n1, n2, rfl, q⟩
            rw [t2]; (simp (disch := omega) only [vz_all, if_true, if_false, true_or, or_true, eq_self, ite_not, Bool.false_eq_true, ite_self, and_self, true_and, and_true, false_and, and_false, not_true_eq_false, not_false_eq_true, false_or, or_false])
          exact xq_cut_no ro 198 xv_SZ I J (nI n) 1 100 (Or.inr (Or.inr ⟨e1, q2, q3⟩))
        · rw [show nI 100 = (100 : Int32) from rfl] at e1
          rcases e1 with e1 | ⟨e1, e3⟩
          · exact xq_cut_no ro 198 xv_SZ I J x0 1 100 (Or.inl e1)
          · exact xq_cut_no ro 198 xv_SZ I J x0 1 100 (Or.inr (Or.inl ⟨e1, eq_true (Int32.not_le.mp (fun q => by rw [e3] at q; exact q))⟩))
      rw [xe_Ct_transcript]
      simp only [xr_all, xf_all, if_true, if_false, true_or, or_true, eq_self, ite_not, Bool.false_eq_true, ite_self, and_self, true_and, and_true, false_and, and_false, not_true_eq_false, not_false_eq_true, xj_Ct_transcript, xb_Ct_transcript_0, xb_Ct_transcript_16, xb_Ct_transcript_60, hcut]
    · rw [xe_Mo_transcript]
      rcases vn_1N 100 (by omega) x0 with ⟨n, n1, n2, rfl, e1, e2, e3⟩ | ⟨e1, e2⟩
      · rw [show nI 100 = (100 : Int32) from rfl] at e3
        have q3 : (nI n ≤ nI t) = False := by
          have hnt : ¬ n ≤ t := fun q => hgood ⟨n, n1, n2, rfl, q⟩
          (simp (disch := omega) only [vz_all, if_true, if_false, true_or, or_true, eq_self, ite_not, Bool.false_eq_true, ite_self, and_self, true_and, and_true, false_and, and_false, not_true_eq_false, not_false_eq_true, false_or, or_false])
        simp only [xr_all, xf_all, if_true, if_false, true_or, or_true, eq_self, ite_not, Bool.false_eq_true, ite_self, and_self, true_and, and_true, false_and, and_false, not_true_eq_false, not_false_eq_true, xj_Mo_transcript, xb_Mo_transcript_0, xb_Mo_transcript_18, xb_Mo_transcript_20, xb_Mo_transcript_91, xb_Mo_transcript_92, xb_Mo_transcript_110, xb_Mo_transcript_159, z1, xq_Mo_in, e3, t3, q3]
      · rw [show nI 100 = (100 : Int32) from rfl] at e2
        simp only [xr_all, xf_all, if_true, if_false, true_or, or_true, eq_self, ite_not, Bool.false_eq_true, ite_self, and_self, true_and, and_true, false_and, and_false, not_true_eq_false, not_false_eq_true, xj_Mo_transcript, xb_Mo_transcript_0, xb_Mo_transcript_18, xb_Mo_transcript_20, xb_Mo_transcript_91, xb_Mo_transcript_92, xb_Mo_transcript_110, xb_Mo_transcript_159, xq_Mo_in, e2]
