/-! PAIR: question -/
theorem q_fin {VL : xv_LP} (hV : vi_Lc VL) {I Y : Nat → Nat → Int32} {J K : Nat → Nat → Int64} (hI : vi_all VL I J) (hs : ∀ a, a ≠ 1 → a ≠ 3 → a ≠ 4 → a ≠ 167 → a ≠ 187 → Y a = I a) (h7 : ∀ j, j ≠ 5 → j ≠ 7 → j ≠ 8 → j ≠ 9 → j ≠ 10 → j ≠ 32 → j ≠ 33 → j ≠ 34 → j ≠ 35 → Y 167 j = I 167 j) (h71 : Y 167 7 = 0) (h11 : Y 1 1 = 0) (hQ : vi_Q Y K) : vi_all VL Y K := by
  obtain ⟨a1, a2, a3, a4, a5, a6, a7⟩ := hI
  have o : (xv_oc 1 ≠ some 8 ∧ xv_oc 1 ≠ some 9) ∧ (xv_oc 3 ≠ some 8 ∧ xv_oc 3 ≠ some 9) ∧ (xv_oc 4 ≠ some 8 ∧ xv_oc 4 ≠ some 9) ∧ (xv_oc 167 ≠ some 8 ∧ xv_oc 167 ≠ some 9) ∧ (xv_oc 187 ≠ some 8 ∧ xv_oc 187 ≠ some 9) := by decide
  obtain ⟨o1, o3, o4, o167, o187⟩ := o
  refine ⟨⟨0, Nat.zero_le _, h11, h71, fun j hj => by omega⟩, vi_P_c a2 (hs 23 (by omega) (by omega) (by omega) (by omega) (by omega)) (hs 171 (by omega) (by omega) (by omega) (by omega) (by omega)), hQ, vi_A_c a4 (fun f hf => by rw [hs 25 (by omega) (by omega) (by omega) (by omega) (by omega)]) (fun a q1 q2 => hs a (by omega) (by omega) (by omega) (by omega) (by omega)) (hs 168 (by omega) (by omega) (by omega) (by omega) (by omega)), vi_K_c a5 (by rw [hs 0 (by omega) (by omega) (by omega) (by omega) (by omega)]) (h7 51 (by omega) (by omega) (by omega) (by omega) (by omega) (by omega) (by omega) (by omega) (by omega)) (fun f hf => by rw [hs 68 (by omega) (by omega) (by omega) (by omega) (by omega)]) (fun a q1 q2 => hs a (by omega) (by omega) (by omega) (by omega) (by omega)) (hs 170 (by omega) (by omega) (by omega) (by omega) (by omega)), hV I Y (fun a q1 q2 => hs a (by omega) (by omega) (by omega) (by omega) (by omega)) (h7 16 (by omega) (by omega) (by omega) (by omega) (by omega) (by omega) (by omega) (by omega) (by omega)) (fun a q1 q2 => hs a (by omega) (by omega) (by omega) (by omega) (by omega)) a6, vi_B_c a7 (fun a ha => hs a (fun q => ?_) (fun q => ?_) (fun q => ?_) (fun q => ?_) (fun q => ?_))⟩
  · rw [q] at ha; rcases ha with ha | ha; exact o1.1 ha; exact o1.2 ha
  · rw [q] at ha; rcases ha with ha | ha; exact o3.1 ha; exact o3.2 ha
  · rw [q] at ha; rcases ha with ha | ha; exact o4.1 ha; exact o4.2 ha
  · rw [q] at ha; rcases ha with ha | ha; exact o167.1 ha; exact o167.2 ha
  · rw [q] at ha; rcases ha with ha | ha; exact o187.1 ha; exact o187.2 ha
/-- the model from its entry -/
theorem q_M0 (ro : xv_Ro) (U : Nat → Nat → Int32) (J : Nat → Nat → Int64) {k n t : Nat} {b : Nat → Nat} (hk : k < 8) (hnt : n ≤ t) (t3 : U 167 7 = nI t) (tt : t ≤ 260) (tb : ∀ j, j < t → b j < 256 ∧ U 173 j &&& 255 = nI (b j)) (n1 : 1 ≤ n) (n2 : n ≤ 60) : ∃ M, xv_evm ro 199 90 [.ref 167, .int (nI k), .int (nI n)] (xv_SZ, xv_mk U J) = q_H ro (nI k) (nI n) M J ∧ q_m M J b n 0 [] [] 1 ∧ (∀ a, a ≠ 167 → M a = U a) ∧ (∀ j, j ≠ 7 → j ≠ 8 → j ≠ 9 → j ≠ 32 → j ≠ 33 → j ≠ 34 → j ≠ 35 → M 167 j = U 167 j) ∧ M 167 7 = 0 := by
  have z1 : ((1 : Int32) = 0) = False := eq_false (by decide)
  have g1 : (0 ≤ nI k ∧ nI k ≤ 7) = True := by (simp (disch := omega) only [vz_all, if_true, if_false, true_or, or_true, eq_self, ite_not, Bool.false_eq_true, ite_self, and_self, true_and, and_true, false_and, and_false, not_true_eq_false, not_false_eq_true, false_or, or_false])
  have g2 : (1 ≤ nI n ∧ nI n ≤ 60) = True := by (simp (disch := omega) only [vz_all, if_true, if_false, true_or, or_true, eq_self, ite_not, Bool.false_eq_true, ite_self, and_self, true_and, and_true, false_and, and_false, not_true_eq_false, not_false_eq_true, false_or, or_false])
  have g3 : (nI n ≤ nI t) = True := by (simp (disch := omega) only [vz_all, if_true, if_false, true_or, or_true, eq_self, ite_not, Bool.false_eq_true, ite_self, and_self, true_and, and_true, false_and, and_false, not_true_eq_false, not_false_eq_true, false_or, or_false])
  refine ⟨xv_u2 (xv_u2 (xv_u2 (xv_u2 (xv_u2 (xv_u2 (xv_u2 U 167 8 0) 167 9 (nI n)) 167 7 0) 167 32 0) 167 33 0) 167 34 0) 167 35 1, ?_, ⟨⟨by omega, Nat.zero_le _, by (repeat (first | rw [xu_ne2 (by omega)] | rw [xu_ne (by omega)] | rw [xu_eq])), by (repeat (first | rw [xu_ne2 (by omega)] | rw [xu_ne (by omega)] | rw [xu_eq])); rfl, fun j hj => by (repeat (first | rw [xu_ne2 (by omega)] | rw [xu_ne (by omega)] | rw [xu_eq])); exact tb j (by omega)⟩, ⟨by (repeat (first | rw [xu_ne2 (by omega)] | rw [xu_ne (by omega)] | rw [xu_eq])); rfl, trivial, by (repeat (first | rw [xu_ne2 (by omega)] | rw [xu_ne (by omega)] | rw [xu_eq])); rfl, trivial, by show 0 ≤ 60; omega, by show 0 ≤ 60; omega, fun s hs => by cases hs⟩, by (repeat (first | rw [xu_ne2 (by omega)] | rw [xu_ne (by omega)] | rw [xu_eq])); rfl, xu_eq, Nat.le_refl _, Nat.le_refl _⟩, fun a ha => by (repeat (first | rw [xu_ne2 (by omega)] | rw [xu_ne (by omega)] | rw [xu_eq])), fun j q1 q2 q3 q4 q5 q6 q7 => by (repeat (first | rw [xu_ne2 (by omega)] | rw [xu_ne (by omega)] | rw [xu_eq])), by (repeat (first | rw [xu_ne2 (by omega)] | rw [xu_ne (by omega)] | rw [xu_eq]))⟩
  unfold q_H
  rw [xe_Mo_question]
  simp only [xr_all, xf_all, if_true, if_false, true_or, or_true, eq_self, ite_not, Bool.false_eq_true, ite_self, and_self, true_and, and_true, false_and, and_false, not_true_eq_false, not_false_eq_true, xj_Mo_question, xb_Mo_question_0, xb_Mo_question_28, xb_Mo_question_30, xb_Mo_question_96, xb_Mo_question_100, xb_Mo_question_104, xb_Mo_question_113, xb_Mo_question_126, xb_Mo_question_140, xb_Mo_question_155, xq_Mo_in, g1, z1, g2, t3, g3]
theorem q_rd {ro : xv_Ro} (hro : ro 1000000 = some (5, xv_wof)) (I : Nat → Nat → Int32) (J : Nat → Nat → Int64) {b : Nat → Nat} {n : Nat} (n2 : n ≤ 60) (hC : tp_C b n 0 I) : ∃ (v : Int32) (W : Nat → Nat → Int32), xv_evm ro 198 227 [.ref 3, .ref 1] (xv_SZ, xv_mk I J) = some (some (.int v), (xv_SZ, xv_mk W J)) ∧ tl_fr I W ∧ ((∃ f q : Nat, (W 1 4 = 0) = False ∧ W 1 4 = -1000 * nI f - nI q ∧ ∀ (x1 x2 : Int32) (M : Nat → Nat → Int32) (JM : Nat → Nat → Int64), q_m M JM b n 0 [] [] 1 → q_B ro x1 x2 M JM f q) ∨ (W 1 4 = 0 ∧ ∀ (x1 x2 : Int32) (M : Nat → Nat → Int32) (JM : Nat → Nat → Int64), q_m M JM b n 0 [] [] 1 → ∃ V L S1 T1, q_H ro x1 x2 M JM = q_H ro x1 x2 V L ∧ q_m V L b n n S1 T1 0 ∧ q_J 32 S1 T1 = some ([], [v]) ∧ q_g M JM V L)) := by
  obtain ⟨r, v, W, k1, k2, k3⟩ := (q_sides hro n2 (n + 1)).2 0 0 I J 197 (by omega) (by omega) hC (by omega)
  have hhd : q_hd 32 [] := fun s S' q => by cases q
  match r, k2, k3 with
  | .inl (f, q), k2, k3 =>
    obtain ⟨a1, a2, a3, a4, a5⟩ := k2
    have hd : (W 1 4 = 0) = False := by rw [a5]; exact tp_f f a1 a2 a3
    have he := xq_expectEnd_x ro 196 xv_SZ W J hd
    refine ⟨v, W, ?_, a4, Or.inl ⟨f, q, hd, a5, fun x1 x2 M JM hm => k3 x1 x2 M JM [] [] hm rfl hhd⟩⟩
    rw [show nI 0 = (0 : Int32) from rfl] at k1
    rw [xe_Questions_read]
    simp only [xr_all, xf_all, if_true, if_false, true_or, or_true, eq_self, ite_not, Bool.false_eq_true, ite_self, and_self, true_and, and_true, false_and, and_false, not_true_eq_false, not_false_eq_true, xj_Questions_read, xb_Questions_read_0, k1, he]
  | .inr (x, p), k2, k3 =>
    obtain ⟨a1, a2, a3, a4⟩ := k2
    subst a1
    have hpn := a3.2.1
    have hn := a3.1
    have he := xq_expectEnd ro 196 xv_SZ W J a3
    rw [show nI 0 = (0 : Int32) from rfl] at k1
    have hrd : xv_evm ro 198 227 [.ref 3, .ref 1] (xv_SZ, xv_mk I J) = some (some (.int v), (xv_SZ, xv_mk (if p < n then xv_u2 W 1 4 (-1000 * 1 - nI p) else W) J)) := by
      rw [xe_Questions_read]
      simp only [xr_all, xf_all, if_true, if_false, true_or, or_true, eq_self, ite_not, Bool.false_eq_true, ite_self, and_self, true_and, and_true, false_and, and_false, not_true_eq_false, not_false_eq_true, xj_Questions_read, xb_Questions_read_0, k1, he]
    by_cases c : p < n
    · rw [if_pos c] at hrd
      refine ⟨v, _, hrd, tl_frt a4 (tl_fr4 W _), Or.inl ⟨1, p, by rw [xu_eq]; exact tp_f 1 (by omega) (by omega) (by omega), xu_eq, fun x1 x2 M JM hm => ?_⟩⟩
      obtain ⟨V, L, S1, T1, t1, t2, t3, t4⟩ := k3.1 x1 x2 M JM [] [] hm rfl hhd
      have hfa : q_B ro x1 x2 V L 1 p := by
        by_cases c41 : b p = 41
        · exact q_sY t2 c (Or.inr ⟨c41, _, t3⟩)
        · obtain ⟨e1, e2, e3⟩ := k3.2 c
          exact q_sY t2 c (Or.inl ⟨c41, e1 (by omega), e2 (by omega), e3 (by omega)⟩)
      obtain ⟨V3, L3, u1, u2⟩ := hfa
      exact ⟨V3, L3, t1.trans u1, q_gt t4 u2⟩
    · rw [if_neg c] at hrd
      obtain rfl : p = n := by omega
      exact ⟨v, W, hrd, a4, Or.inr ⟨a3.2.2.2.2.1, fun x1 x2 M JM hm => k3.1 x1 x2 M JM [] [] hm rfl hhd⟩⟩
theorem xl_quH (VL : xv_LP) (hV : vi_Lc VL) (ro : xv_Ro) (hro : ro 1000000 = some (5, xv_wof)) (I : Nat → Nat → Int32) (J : Nat → Nat → Int64) {k n t : Nat} {b : Nat → Nat} (hI : vi_all VL I J) (hk : k < 8) (hnt : n ≤ t) (tt : t ≤ 260) (t2 : I 1 1 = nI t) (t3 : I 167 7 = nI t) (tb : ∀ j, j < t → b j < 256 ∧ I 2 j = nI (b j) ∧ I 173 j &&& 255 = nI (b j)) (n1 : 1 ≤ n) (n2 : n ≤ 60) : ∃ r I1 J1 I2 J2, xv_evm ro 199 5 [.ref 0, .int (nI k), .int (nI n)] (xv_SZ, xv_mk I J) = some (some (.int r), (xv_SZ, xv_mk I1 J1)) ∧ xv_evm ro 199 90 [.ref 167, .int (nI k), .int (nI n)] (xv_SZ, xv_mk I1 J1) = some (some (.int r), (xv_SZ, xv_mk I2 J2)) ∧ vi_all VL I2 J2 := by
  obtain ⟨a1, a2, ⟨⟨qm, q1, q2, q3⟩, q4⟩, aA, a5, a6, a7⟩ := id hI
  have z1 : ((1 : Int32) = 0) = False := eq_false (by decide)
  have e1 : (nI n < 1) = False := by (simp (disch := omega) only [vz_all, if_true, if_false, true_or, or_true, eq_self, ite_not, Bool.false_eq_true, ite_self, and_self, true_and, and_true, false_and, and_false, not_true_eq_false, not_false_eq_true, false_or, or_false])
  have e2 : (60 < nI n) = False := by (simp (disch := omega) only [vz_all, if_true, if_false, true_or, or_true, eq_self, ite_not, Bool.false_eq_true, ite_self, and_self, true_and, and_true, false_and, and_false, not_true_eq_false, not_false_eq_true, false_or, or_false])
  have e4 : (nI n ≤ I 1 1) = True := by rw [t2]; (simp (disch := omega) only [vz_all, if_true, if_false, true_or, or_true, eq_self, ite_not, Bool.false_eq_true, ite_self, and_self, true_and, and_true, false_and, and_false, not_true_eq_false, not_false_eq_true, false_or, or_false])
  have hcut := xq_cut ro 198 xv_SZ I J (nI n) 1 60 e1 e2 e4
  have gk0 : (nI k < 0) = False := by (simp (disch := omega) only [vz_all, if_true, if_false, true_or, or_true, eq_self, ite_not, Bool.false_eq_true, ite_self, and_self, true_and, and_true, false_and, and_false, not_true_eq_false, not_false_eq_true, false_or, or_false])
  have gk8 : (8 ≤ nI k) = False := by (simp (disch := omega) only [vz_all, if_true, if_false, true_or, or_true, eq_self, ite_not, Bool.false_eq_true, ite_self, and_self, true_and, and_true, false_and, and_false, not_true_eq_false, not_false_eq_true, false_or, or_false])
  have hC1 : tp_C b n 0 (xv_u2 (xv_u2 (xv_u2 (xv_u2 I 1 1 0) 1 2 (nI n)) 1 3 0) 1 4 0) := ⟨by omega, Nat.zero_le _, by (repeat (first | rw [xu_ne2 (by omega)] | rw [xu_ne (by omega)] | rw [xu_eq])), by (repeat (first | rw [xu_ne2 (by omega)] | rw [xu_ne (by omega)] | rw [xu_eq])); rfl, xu_eq, fun j hj => by (repeat (first | rw [xu_ne2 (by omega)] | rw [xu_ne (by omega)] | rw [xu_eq])); exact ⟨(tb j (by omega)).1, (tb j (by omega)).2.1⟩⟩
  have hout : ∀ a, a ≠ 1 → xv_u2 (xv_u2 (xv_u2 (xv_u2 I 1 1 0) 1 2 (nI n)) 1 3 0) 1 4 0 a = I a := fun a h => by rw [xu_ne h, xu_ne h, xu_ne h, xu_ne h]
  have hout1 : xv_u2 (xv_u2 (xv_u2 (xv_u2 I 1 1 0) 1 2 (nI n)) 1 3 0) 1 4 0 1 1 = 0 := by (repeat (first | rw [xu_ne2 (by omega)] | rw [xu_ne (by omega)] | rw [xu_eq]))
  generalize xv_u2 (xv_u2 (xv_u2 (xv_u2 I 1 1 0) 1 2 (nI n)) 1 3 0) 1 4 0 = C at *
  obtain ⟨v, W, w1, w2, w3⟩ := q_rd hro C J n2 hC1
  have hWo : ∀ a, a ≠ 1 → W a = I a := fun a h => (w2.1 a h).trans (hout a h)
  have hW11 : W 1 1 = 0 := (w2.2 1 (by omega) (by omega)).trans hout1
  rcases w3 with ⟨f, q, hd, hf, hm⟩ | ⟨hal, hm⟩
  · have hisf := xl_onI ro 198 xv_SZ W J (v := 1) (Or.inr ⟨hd, rfl⟩)
    have hfa := xl_onF ro 198 xv_SZ W J
    obtain ⟨M, m1, m2, m3, m4, m5⟩ := q_M0 ro W J (k := k) (n := n) (t := t) (b := b) hk hnt (by rw [hWo 167 (by omega)]; exact t3) tt (fun j hj => by rw [hWo 173 (by omega)]; exact ⟨(tb j hj).1, (tb j hj).2.2⟩) n1 n2
    obtain ⟨V, K, v1, v2⟩ := hm (nI k) (nI n) M J m2
    refine ⟨W 1 4, W, J, V, K, ?_, by rw [m1, v1, hf], ?_⟩
    · rw [xe_Ct_question]
      simp only [xr_all, xf_all, if_true, if_false, true_or, or_true, eq_self, ite_not, Bool.false_eq_true, ite_self, and_self, true_and, and_true, false_and, and_false, not_true_eq_false, not_false_eq_true, xj_Ct_question, xb_Ct_question_0, xb_Ct_question_24, xb_Ct_question_26, xb_Ct_question_56, gk0, gk8, hcut, z1, w1, hisf, hfa]
    · have hVo : ∀ a, a ≠ 1 → a ≠ 167 → a ≠ 187 → V a = I a := fun a h1 h2 h3 => by rw [v2.1 a h2 h3, m3 a h2, hWo a h1]
      have hV7 : ∀ j, j ≠ 7 → j ≠ 8 → j ≠ 9 → j ≠ 10 → j ≠ 32 → j ≠ 33 → j ≠ 34 → j ≠ 35 → V 167 j = I 167 j := fun j h1 h2 h3 h4 h5 h6 h7 h8 => by rw [v2.2.1 j h2 h4 h5 h6 h7 h8, m4 j h1 h2 h3 h5 h6 h7 h8, hWo 167 (by omega)]
      refine q_fin hV hI (fun a h1 h2 h3 h4 h5 => hVo a h1 h4 h5) (fun j h1 h2 h3 h4 h5 h6 h7 h8 h9 => hV7 j h2 h3 h4 h5 h6 h7 h8 h9) (by rw [v2.2.1 7 (by omega) (by omega) (by omega) (by omega) (by omega) (by omega)]; exact m5) (by rw [v2.1 1 (by omega) (by omega), m3 1 (by omega)]; exact hW11) ?_
      exact vi_Q_c ⟨⟨qm, q1, q2, q3⟩, q4⟩ (by rw [hVo 3 (by omega) (by omega) (by omega)]) (hVo 4 (by omega) (by omega) (by omega)) (hV7 5 (by omega) (by omega) (by omega) (by omega) (by omega) (by omega) (by omega) (by omega)) (v2.2.2 172 (by omega))
  · have hisf := xl_onI ro 198 xv_SZ W J (v := 0) (Or.inl ⟨hal, rfl⟩)
    have eor : nI qm ||| ((1 : Int32) <<< (nI k &&& 31)) = nI (qm ||| 2 ^ k) := by rw [vh_sh k (by omega), vb_nor]
    have ik : xv_inB (nI k) 8 = true := by (simp (disch := omega) only [vz_all, if_true, if_false, true_or, or_true, eq_self, ite_not, Bool.false_eq_true, ite_self, and_self, true_and, and_true, false_and, and_false, not_true_eq_false, not_false_eq_true, false_or, or_false])
    have e31 : ∀ y, xv_u2 W 4 k y 3 1 = nI qm := fun y => by rw [xu_ne (by omega), hWo 3 (by omega)]; exact q2
    have htell : xv_evm ro 198 226 [.ref 3, .int (nI k), .int v] (xv_SZ, xv_mk W J) = some (none, (xv_SZ, xv_mk (xv_u2 (xv_u2 W 4 k v) 3 1 (nI (qm ||| 2 ^ k))) J)) := by
      rw [xe_Questions_tell]
      have gk8' : (Int32.ofNat 8 ≤ nI k) = False := gk8
      simp only [xr_all, xf_all, if_true, if_false, true_or, or_true, eq_self, ite_not, Bool.false_eq_true, ite_self, and_self, true_and, and_true, false_and, and_false, not_true_eq_false, not_false_eq_true, xj_Questions_tell, xb_Questions_tell_0, xb_Questions_tell_32, gk0, gk8, gk8', ik, nI_clamp (show k < 2 ^ 31 by omega), e31, eor]
    have hbc := xq_bitCount ro 198 (xv_SZ, xv_mk (xv_u2 (xv_u2 W 4 k v) 3 1 (nI (qm ||| 2 ^ k))) J) v
    obtain ⟨M, m1, m2, m3, m4, m5⟩ := q_M0 ro (xv_u2 (xv_u2 W 4 k v) 3 1 (nI (qm ||| 2 ^ k))) J (k := k) (n := n) (t := t) (b := b) hk hnt (by rw [xu_ne (by omega), xu_ne (by omega), hWo 167 (by omega)]; exact t3) tt (fun j hj => by rw [xu_ne (by omega), xu_ne (by omega), hWo 173 (by omega)]; exact ⟨(tb j hj).1, (tb j hj).2.2⟩) n1 n2
    have mI : ∀ a, a ≠ 1 → a ≠ 3 → a ≠ 4 → a ≠ 167 → M a = I a := fun a h1 h2 h3 h4 => by rw [m3 a h4, xu_ne h2, xu_ne h3, hWo a h1]
    have mI7 : ∀ j, j ≠ 7 → j ≠ 8 → j ≠ 9 → j ≠ 32 → j ≠ 33 → j ≠ 34 → j ≠ 35 → M 167 j = I 167 j := fun j h1 h2 h3 h4 h5 h6 h7 => by rw [m4 j h1 h2 h3 h4 h5 h6 h7, xu_ne (by omega), xu_ne (by omega), hWo 167 (by omega)]
    obtain ⟨V, L, S1, T1, t1', t2', t3', t4'⟩ := hm (nI k) (nI n) M J m2
    obtain ⟨V2, L2, u1, u2⟩ := q_sG (ro := ro) (x2 := nI n) (qm := qm) t2' t3' hk (by rw [t4'.2.1 5 (by omega) (by omega) (by omega) (by omega) (by omega) (by omega), mI7 5 (by omega) (by omega) (by omega) (by omega) (by omega) (by omega) (by omega)]; exact q3)
    have hg := q_gt t4' u2
    have hlt : qm ||| 2 ^ k < 256 := Nat.or_lt_two_pow (n := 8) q1 (Nat.pow_lt_pow_right (by omega) (by omega))
    refine ⟨nI (vb_ct (vq_N v) 32), _, J, _, _, ?_, by rw [m1, t1', u1], ?_⟩
    · rw [xe_Ct_question]
      simp only [xr_all, xf_all, if_true, if_false, true_or, or_true, eq_self, ite_not, Bool.false_eq_true, ite_self, and_self, true_and, and_true, false_and, and_false, not_true_eq_false, not_false_eq_true, xj_Ct_question, xb_Ct_question_0, xb_Ct_question_24, xb_Ct_question_26, xb_Ct_question_56, gk0, gk8, hcut, z1, w1, hisf, htell, hbc]
    · refine q_fin hV hI (fun a h1 h2 h3 h4 h5 => by rw [xu_ne h4, hg.1 a h4 h5, mI a h1 h2 h3 h4]) (fun j h1 h2 h3 h4 h5 h6 h7 h8 h9 => by rw [xu_ne2 (by omega), hg.2.1 j h3 h5 h6 h7 h8 h9, mI7 j h2 h3 h4 h6 h7 h8 h9]) (by rw [xu_ne2 (by omega), hg.2.1 7 (by omega) (by omega) (by omega) (by omega) (by omega) (by omega)]; exact m5) (by rw [xu_ne (by omega), hg.1 1 (by omega) (by omega), m3 1 (by omega), xu_ne (by omega), xu_ne (by omega)]; exact hW11) ⟨⟨qm ||| 2 ^ k, hlt, ?_, xu_eq⟩, fun j hj => ?_⟩
      · rw [xu_ne (by omega), hg.1 3 (by omega) (by omega), m3 3 (by omega), xu_eq]
      · rw [xu_ne (show (4 : Nat) ≠ 167 by omega), hg.1 4 (by omega) (by omega), m3 4 (by omega), xu_ne (show (4 : Nat) ≠ 3 by omega)]
        by_cases c : j = k
        · rw [c, xu_eq, xu_eq]
        · rw [xu_ne2 (by omega), xu_ne2 (by omega), hg.2.2 172 (by omega), hWo 4 (by omega)]
          exact q4 j hj
theorem xp_4 (VL : xv_LP) (hV : vi_Lc VL) : xl_P4 (vi_all VL) := by
  intro x0 x1 ro I J hro hI
  have hr : ro 1000000 = some (5, xv_wof) := by have := hro 1000000; rw [if_pos rfl] at this; exact this
  obtain ⟨t, t1, t2, t3, b, tb⟩ := vi_Tb hI.1
  have z1 : ((1 : Int32) = 0) = False := eq_false (by decide)
  rcases vn_0N 7 (by omega) x0 with ⟨k, k1, rfl, g1, g2, g3⟩ | ⟨g1, g2⟩
  rotate_left
  · rw [show nI 7 = (7 : Int32) from rfl] at g1 g2
    have g8 : (x0 < 0) = True ∨ ((x0 < 0) = False ∧ (8 ≤ x0) = True) := by
      rcases g1 with g1 | ⟨g1, g3⟩
      · exact Or.inl g1
      · refine Or.inr ⟨g1, ?_⟩
        have := vn_gt (N := 7) (by omega) x0
        rw [show nI 7 = (7 : Int32) from rfl, show nI (7 + 1) = (8 : Int32) from rfl] at this
        rw [← this]; exact g3
    refine ⟨-1, I, J, I, J, ?_, ?_, hI⟩
    · rw [xe_Ct_question]
      rcases g8 with g8 | ⟨g8, g9⟩
      · simp only [xr_all, xf_all, if_true, if_false, true_or, or_true, eq_self, ite_not, Bool.false_eq_true, ite_self, and_self, true_and, and_true, false_and, and_false, not_true_eq_false, not_false_eq_true, xj_Ct_question, xb_Ct_question_0, xb_Ct_question_24, xb_Ct_question_26, xb_Ct_question_56, g8]
      · simp only [xr_all, xf_all, if_true, if_false, true_or, or_true, eq_self, ite_not, Bool.false_eq_true, ite_self, and_self, true_and, and_true, false_and, and_false, not_true_eq_false, not_false_eq_true, xj_Ct_question, xb_Ct_question_0, xb_Ct_question_24, xb_Ct_question_26, xb_Ct_question_56, g8, g9]
    · rw [xe_Mo_question]
      simp only [xr_all, xf_all, if_true, if_false, true_or, or_true, eq_self, ite_not, Bool.false_eq_true, ite_self, and_self, true_and, and_true, false_and, and_false, not_true_eq_false, not_false_eq_true, xj_Mo_question, xb_Mo_question_0, xb_Mo_question_28, xb_Mo_question_30, xb_Mo_question_96, xb_Mo_question_100, xb_Mo_question_104, xb_Mo_question_113, xb_Mo_question_126, xb_Mo_question_140, xb_Mo_question_155, xq_Mo_in, g2]
  · have gk0 : (nI k < 0) = False := by (simp (disch := omega) only [vz_all, if_true, if_false, true_or, or_true, eq_self, ite_not, Bool.false_eq_true, ite_self, and_self, true_and, and_true, false_and, and_false, not_true_eq_false, not_false_eq_true, false_or, or_false])
    have gk8 : (8 ≤ nI k) = False := by (simp (disch := omega) only [vz_all, if_true, if_false, true_or, or_true, eq_self, ite_not, Bool.false_eq_true, ite_self, and_self, true_and, and_true, false_and, and_false, not_true_eq_false, not_false_eq_true, false_or, or_false])
    have gin : (0 ≤ nI k ∧ nI k ≤ 7) = True := by (simp (disch := omega) only [vz_all, if_true, if_false, true_or, or_true, eq_self, ite_not, Bool.false_eq_true, ite_self, and_self, true_and, and_true, false_and, and_false, not_true_eq_false, not_false_eq_true, false_or, or_false])
    by_cases hgood : ∃ n : Nat, 1 ≤ n ∧ n ≤ 60 ∧ x1 = nI n ∧ n ≤ t
    · obtain ⟨n, n1, n2, rfl, hnt⟩ := hgood
      exact xl_quH VL hV ro hr I J hI (by omega) hnt t1 t2 t3 tb n1 n2
    · refine ⟨-1, I, J, I, J, ?_, ?_, hI⟩
      · have hcut : xv_evm ro 198 248 [.ref 1, .int x1, .int 1, .int 60] (xv_SZ, xv_mk I J) = some (some (.int 0), (xv_SZ, xv_mk I J)) := by
          rcases vn_1N 60 (by omega) x1 with ⟨n, n1, n2, rfl, e1, e2, e3⟩ | ⟨e1, e2⟩
          · have q2 : (60 < nI n) = False := by (simp (disch := omega) only [vz_all, if_true, if_false, true_or, or_true, eq_self, ite_not, Bool.false_eq_true, ite_self, and_self, true_and, and_true, false_and, and_false, not_true_eq_false, not_false_eq_true, false_or, or_false])
            have q3 : (nI n ≤ I 1 1) = False := by
              have hnt : ¬ n ≤ t := fun q => hgood ⟨n, n1, n2, rfl, q⟩
              rw [t2]; (simp (disch := omega) only [vz_all, if_true, if_false, true_or, or_true, eq_self, ite_not, Bool.false_eq_true, ite_self, and_self, true_and, and_true, false_and, and_false, not_true_eq_false, not_false_eq_true, false_or, or_false])
            exact xq_cut_no ro 198 xv_SZ I J (nI n) 1 60 (Or.inr (Or.inr ⟨e1, q2, q3⟩))
          · rw [show nI 60 = (60 : Int32) from rfl] at e1
            rcases e1 with e1 | ⟨e1, e3⟩
            · exact xq_cut_no ro 198 xv_SZ I J x1 1 60 (Or.inl e1)
            · exact xq_cut_no ro 198 xv_SZ I J x1 1 60 (Or.inr (Or.inl ⟨e1, eq_true (Int32.not_le.mp (fun q => by rw [e3] at q; exact q))⟩))
        rw [xe_Ct_question]
        simp only [xr_all, xf_all, if_true, if_false, true_or, or_true, eq_self, ite_not, Bool.false_eq_true, ite_self, and_self, true_and, and_true, false_and, and_false, not_true_eq_false, not_false_eq_true, xj_Ct_question, xb_Ct_question_0, xb_Ct_question_24, xb_Ct_question_26, xb_Ct_question_56, gk0, gk8, hcut]
      · rw [xe_Mo_question]
        rcases vn_1N 60 (by omega) x1 with ⟨n, n1, n2, rfl, e1, e2, e3⟩ | ⟨e1, e2⟩
        · rw [show nI 60 = (60 : Int32) from rfl] at e3
          have q3 : (nI n ≤ nI t) = False := by
            have hnt : ¬ n ≤ t := fun q => hgood ⟨n, n1, n2, rfl, q⟩
            (simp (disch := omega) only [vz_all, if_true, if_false, true_or, or_true, eq_self, ite_not, Bool.false_eq_true, ite_self, and_self, true_and, and_true, false_and, and_false, not_true_eq_false, not_false_eq_true, false_or, or_false])
          simp only [xr_all, xf_all, if_true, if_false, true_or, or_true, eq_self, ite_not, Bool.false_eq_true, ite_self, and_self, true_and, and_true, false_and, and_false, not_true_eq_false, not_false_eq_true, xj_Mo_question, xb_Mo_question_0, xb_Mo_question_28, xb_Mo_question_30, xb_Mo_question_96, xb_Mo_question_100, xb_Mo_question_104, xb_Mo_question_113, xb_Mo_question_126, xb_Mo_question_140, xb_Mo_question_155, z1, xq_Mo_in, gin, e3, t3, q3]
        · rw [show nI 60 = (60 : Int32) from rfl] at e2
          simp only [xr_all, xf_all, if_true, if_false, true_or, or_true, eq_self, ite_not, Bool.false_eq_true, ite_self, and_self, true_and, and_true, false_and, and_false, not_true_eq_false, not_false_eq_true, xj_Mo_question, xb_Mo_question_0, xb_Mo_question_28, xb_Mo_question_30, xb_Mo_question_96, xb_Mo_question_100, xb_Mo_question_104, xb_Mo_question_113, xb_Mo_question_126, xb_Mo_question_140, xb_Mo_question_155, xq_Mo_in, gin, z1, e2]
