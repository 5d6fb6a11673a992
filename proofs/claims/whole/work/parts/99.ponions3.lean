/-! PAIR: onionsFor (end) -/
theorem xl_onC (ro : xv_Ro) (z : Nat × Nat) (I : Nat → Nat → Int32) (J : Nat → Nat → Int64) {m s : Nat} {hh oo : Nat → Nat} (hA : ox_A I m hh oo) (hs : s < 1024) (hsub : ∀ i, s.testBit i = true → m.testBit i = true) (h2 : 2 ≤ vb_ct s 32) (h5 : vb_ct s 32 ≤ 5) (e32 : vb_ct s 32 = vb_ct s 10) (st : ox_S) (hst : st = ox_G (fun j => hh (ox_mem s 10 j)) (fun j => oo (ox_mem s 10 j)) (vb_ct s 10) (vb_ct s 10) 0 0 0 (fun _ => 0) (0, fun _ => 0)) : ∃ W W1 : Nat → Nat → Int32, xv_evm ro 198 195 [.ref 160, .int (nI s), .ref 25] (z, xv_mk I J) = some (some (.int 1), (z, xv_mk W J)) ∧ xv_evm ro 198 196 [.ref 160] (z, xv_mk W J) = some (none, (z, xv_mk W1 J)) ∧ (∀ a, a < 160 ∨ 163 < a → W a = I a) ∧ (∀ a, a < 160 ∨ 165 < a → W1 a = I a) ∧ W1 160 6 = nI st.1 - 1 ∧ ∀ q, q < 10 → s.testBit q = true → xv_evm ro 198 200 [.ref 160, .int (nI q)] (z, xv_mk W1 J) = some (some (.int (nI (ox_mem s 10 (st.2 (vb_ct s q))))), (z, xv_mk W1 J)) := by
  obtain ⟨W, a1, a2, a3, a4⟩ := xq_gather ro 195 z I J hA hs hsub h2 h5
  have hmem := (ox_mem_p s 10).1
  have hct := (ox_mem_p s 10).2
  rw [e32] at h2 h5
  generalize vb_ct s 10 = n at *
  obtain ⟨m1, m2, mw⟩ := hA
  obtain ⟨W1, b1, b2, b3, b4⟩ := xq_settle ro (196 - n) z W J (h := fun j => hh (ox_mem s 10 j)) (o := fun j => oo (ox_mem s 10 j)) (n := n) h5 a2 (fun j hj => by
    have hm := (hmem j hj).1
    obtain ⟨y1, y2, y3⟩ := a3 j hj
    obtain ⟨k1, k2, -⟩ := mw (ox_mem s 10 j) hm
    exact ⟨k1, k2, y2, y3⟩)
  rw [show 196 - n + n + 2 = 198 by omega] at b1
  rw [← hst] at b2
  obtain ⟨c1, c2, c3⟩ := b2
  have hok : ox_ok n st := by
    rw [hst]
    exact ox_Gr _ _ n n 0 0 0 _ _ (fun _ => by omega) (fun q => absurd q (by decide))
  have hone : 1 ≤ st.1 := by
    rw [hst]
    exact ox_G1 _ _ n n 0 0 _ _ (by omega)
  refine ⟨W, W1, a1, b1, a4, fun a ha => by rw [b3 a (by omega) (by omega) (by omega)]; exact a4 a (by omega), c1, fun q q1 q2 => ?_⟩
  obtain ⟨d1, d2⟩ := hct q q1 q2
  refine xq_whoseFor ro 198 z W1 J (n := n) (c := vb_ct s q) (q := q) (mem := ox_mem s 10) (r := st.2) h5 d1 (by rw [b4 5 (by omega)]; exact a2) (fun j hj => ⟨(hmem j hj).1, by rw [b3 161 (by omega) (by omega) (by omega)]; exact (a3 j hj).1⟩) (fun j hj => ⟨hok hone j, c3 hone j hj⟩) d2 (fun j hj g => ?_)
  have := (hmem j (by omega)).2.2
  rw [g] at this
  omega
theorem ox_e32 {s : Nat} (hs : s < 1024) : vb_ct s 32 = vb_ct s 10 := by
  have : ∀ k, vb_ct s (10 + k) = vb_ct s 10 := by
    intro k
    induction k with
    | zero => rfl
    | succ k ih =>
      show vb_ct s (10 + k) + (if s.testBit (10 + k) = true then 1 else 0) = _
      rw [Nat.testBit_lt_two_pow (Nat.lt_of_lt_of_le (show s < 2 ^ 10 by omega) (Nat.pow_le_pow_right (by omega) (by omega))), ih]
      rfl
  exact this 22
theorem xp_25 (VL : xv_LP) (hV : vi_Lc VL) : xl_P25 (vi_all VL) := by
  intro x1 x2 ro I J hro hI
  obtain ⟨m, hh, oo, hA⟩ := ox_Aex hI.2.2.2.1
  have hA' := hA
  obtain ⟨m1, m2, mw⟩ := hA'
  have z1 : ((1 : Int32) = 0) = False := eq_false (by decide)
  have hcls : ∃ v : Int32, ((v = 0) = ¬ (¬ x2 < 0 ∧ x2 < 10 ∧ (x1 >>> (x2 &&& 31)) &&& 1 = 1)) ∧ xv_evm ro 199 26 [.ref 0, .int x1, .int x2] (xv_SZ, xv_mk I J) = xv_ev ro 199 xm_Ct_onionsFor xb_Ct_onionsFor_24 [some (.ref 0), some (.int x1), some (.int x2), none] [.int v] (xv_SZ, xv_mk I J) := by
    rw [xe_Ct_onionsFor]
    by_cases c1 : x2 < 0
    · refine ⟨0, by simp [c1], ?_⟩
      simp only [xr_all, xf_all, if_true, if_false, true_or, or_true, eq_self, ite_not, Bool.false_eq_true, ite_self, and_self, true_and, and_true, false_and, and_false, not_true_eq_false, not_false_eq_true, xj_Ct_onionsFor, xb_Ct_onionsFor_0, xb_Ct_onionsFor_23, xb_Ct_onionsFor_50, xb_Ct_onionsFor_52, xb_Ct_onionsFor_75, xb_Ct_onionsFor_83, c1]
    · by_cases c2 : x2 < 10
      · have c2' : (10 ≤ x2) = False := eq_false (Int32.not_le.mpr c2)
        by_cases c3 : (x1 >>> (x2 &&& 31)) &&& 1 = 1
        · refine ⟨1, by simp [c1, c2, c3], ?_⟩
          simp only [xr_all, xf_all, if_true, if_false, true_or, or_true, eq_self, ite_not, Bool.false_eq_true, ite_self, and_self, true_and, and_true, false_and, and_false, not_true_eq_false, not_false_eq_true, xj_Ct_onionsFor, xb_Ct_onionsFor_0, xb_Ct_onionsFor_23, xb_Ct_onionsFor_50, xb_Ct_onionsFor_52, xb_Ct_onionsFor_75, xb_Ct_onionsFor_83, c1, c2, c2', c3]
        · refine ⟨0, by simp [c1, c2, c3], ?_⟩
          simp only [xr_all, xf_all, if_true, if_false, true_or, or_true, eq_self, ite_not, Bool.false_eq_true, ite_self, and_self, true_and, and_true, false_and, and_false, not_true_eq_false, not_false_eq_true, xj_Ct_onionsFor, xb_Ct_onionsFor_0, xb_Ct_onionsFor_23, xb_Ct_onionsFor_50, xb_Ct_onionsFor_52, xb_Ct_onionsFor_75, xb_Ct_onionsFor_83, c1, c2, c2', c3]
      · have c2' : (10 ≤ x2) = True := eq_true (Int32.not_lt.mp c2)
        refine ⟨0, by simp [c1, c2], ?_⟩
        simp only [xr_all, xf_all, if_true, if_false, true_or, or_true, eq_self, ite_not, Bool.false_eq_true, ite_self, and_self, true_and, and_true, false_and, and_false, not_true_eq_false, not_false_eq_true, xj_Ct_onionsFor, xb_Ct_onionsFor_0, xb_Ct_onionsFor_23, xb_Ct_onionsFor_50, xb_Ct_onionsFor_52, xb_Ct_onionsFor_75, xb_Ct_onionsFor_83, c1, c2, c2']
  obtain ⟨v, hv, hcls⟩ := hcls
  have g300 : xv_inB (300 : Int32) 304 = true := by decide
  have c300 : (300 : Int32).toNatClampNeg = 300 := by decide
  by_cases h : (x1 &&& (nI m ^^^ -1) = 0) ∧ 2 ≤ vb_ct (vq_N x1) 32 ∧ vb_ct (vq_N x1) 32 ≤ 5
  rotate_left
  · have hga := xq_gather_no ro 195 xv_SZ I J hA x1 h
    refine ⟨-1, xv_u2 I 160 5 0, J, xv_u2 I 160 5 0, J, ?_, ?_, vi_all_s hV (vs_u (vs_rfl I) rfl) rfl hI⟩
    · rw [hcls]
      simp only [xr_all, xf_all, if_true, if_false, true_or, or_true, eq_self, ite_not, Bool.false_eq_true, ite_self, and_self, true_and, and_true, false_and, and_false, not_true_eq_false, not_false_eq_true, xj_Ct_onionsFor, xb_Ct_onionsFor_0, xb_Ct_onionsFor_23, xb_Ct_onionsFor_24, xb_Ct_onionsFor_50, xb_Ct_onionsFor_52, xb_Ct_onionsFor_75, xb_Ct_onionsFor_83, hga]
    · have e168 : xv_u2 I 160 5 0 168 300 = nI m := by rw [xu_ne (by omega)]; exact m2
      rw [xe_Mo_onionsFor]
      rcases vn_1N 1023 (by omega) x1 with ⟨s, s1, s2, rfl, -, -, e3⟩ | ⟨-, e3⟩
      · rw [show nI 1023 = (1023 : Int32) from rfl] at e3
        rw [vq_NnI (show s < 2 ^ 32 by omega)] at h
        by_cases c1 : nI s &&& (nI m ^^^ -1) = 0
        · have hb := vl_bits ro 197 (xv_SZ, xv_mk (xv_u2 I 160 5 0) J) (m := s) (by omega)
          have lS := nI_l (show s < 2 ^ 31 by omega)
          have hle := vb_ct_le s 32
          have hin : (2 ≤ nI (vb_ct s 32) ∧ nI (vb_ct s 32) ≤ 5) = False := by
            apply eq_false
            rintro ⟨q1, q2⟩
            apply h
            rw [show (2 : Int32) = nI 2 from rfl, nI_leI (by omega) (by omega)] at q1
            rw [show (5 : Int32) = nI 5 from rfl, nI_leI (by omega) (by omega)] at q2
            exact ⟨c1, q1, q2⟩
          simp only [xr_all, xf_all, if_true, if_false, true_or, or_true, eq_self, ite_not, Bool.false_eq_true, ite_self, and_self, true_and, and_true, false_and, and_false, not_true_eq_false, not_false_eq_true, xj_Mo_onionsFor, xb_Mo_onionsFor_0, xb_Mo_onionsFor_39, xb_Mo_onionsFor_41, xb_Mo_onionsFor_66, xb_Mo_onionsFor_68, xb_Mo_onionsFor_99, xb_Mo_onionsFor_108, xb_Mo_onionsFor_120, xb_Mo_onionsFor_126, xb_Mo_onionsFor_147, xb_Mo_onionsFor_183, xb_Mo_onionsFor_224, xb_Mo_onionsFor_230, xb_Mo_onionsFor_241, xb_Mo_onionsFor_248, xq_Mo_in, e3, z1, g300, c300, e168, c1, lS, hb, hin]
        · simp only [xr_all, xf_all, if_true, if_false, true_or, or_true, eq_self, ite_not, Bool.false_eq_true, ite_self, and_self, true_and, and_true, false_and, and_false, not_true_eq_false, not_false_eq_true, xj_Mo_onionsFor, xb_Mo_onionsFor_0, xb_Mo_onionsFor_39, xb_Mo_onionsFor_41, xb_Mo_onionsFor_66, xb_Mo_onionsFor_68, xb_Mo_onionsFor_99, xb_Mo_onionsFor_108, xb_Mo_onionsFor_120, xb_Mo_onionsFor_126, xb_Mo_onionsFor_147, xb_Mo_onionsFor_183, xb_Mo_onionsFor_224, xb_Mo_onionsFor_230, xb_Mo_onionsFor_241, xb_Mo_onionsFor_248, xq_Mo_in, e3, z1, g300, c300, e168, c1]
      · rw [show nI 1023 = (1023 : Int32) from rfl] at e3
        simp only [xr_all, xf_all, if_true, if_false, true_or, or_true, eq_self, ite_not, Bool.false_eq_true, ite_self, and_self, true_and, and_true, false_and, and_false, not_true_eq_false, not_false_eq_true, xj_Mo_onionsFor, xb_Mo_onionsFor_0, xb_Mo_onionsFor_39, xb_Mo_onionsFor_41, xb_Mo_onionsFor_66, xb_Mo_onionsFor_68, xb_Mo_onionsFor_99, xb_Mo_onionsFor_108, xb_Mo_onionsFor_120, xb_Mo_onionsFor_126, xb_Mo_onionsFor_147, xb_Mo_onionsFor_183, xb_Mo_onionsFor_224, xb_Mo_onionsFor_230, xb_Mo_onionsFor_241, xb_Mo_onionsFor_248, xq_Mo_in, e3]
  · obtain ⟨s, hs32, rfl⟩ : ∃ s, s < 2 ^ 32 ∧ x1 = nI s := ⟨vq_N x1, vq_N_lt x1, vq_nI x1⟩
    rw [vq_NnI hs32] at h
    obtain ⟨h1, h2, h5⟩ := h
    have hsub := (vy_sub hs32 (show m < 2 ^ 32 by omega)).mp h1
    have hs : s < 1024 := by
      apply Nat.lt_pow_two_of_testBit (n := 10)
      intro i hi
      cases hb : s.testBit i with
      | false => rfl
      | true =>
        have := hsub i hb
        rw [Nat.testBit_lt_two_pow (Nat.lt_of_lt_of_le (show m < 2 ^ 10 by omega) (Nat.pow_le_pow_right (by omega) hi))] at this
        cases this
    have e32 := ox_e32 hs
    have hs1 : 1 ≤ s := by
      rcases Nat.eq_zero_or_pos s with e | e
      · rw [e] at h2; exact absurd h2 (by decide)
      · exact e
    have hin1 : (1 ≤ nI s ∧ nI s ≤ 1023) = True := by (simp (disch := omega) only [vz_all, if_true, if_false, true_or, or_true, eq_self, ite_not, Bool.false_eq_true, ite_self, and_self, true_and, and_true, false_and, and_false, not_true_eq_false, not_false_eq_true, false_or, or_false])
    have hin2 : (2 ≤ nI (vb_ct s 32) ∧ nI (vb_ct s 32) ≤ 5) = True := by (simp (disch := omega) only [vz_all, if_true, if_false, true_or, or_true, eq_self, ite_not, Bool.false_eq_true, ite_self, and_self, true_and, and_true, false_and, and_false, not_true_eq_false, not_false_eq_true, false_or, or_false])
    have lS := nI_l (show s < 2 ^ 31 by omega)
    obtain ⟨W, W1, a1, a2, a0, a3, a4, a5⟩ := xl_onC ro xv_SZ I J hA hs hsub h2 h5 e32 _ rfl
    have hx : x2 = 20 ∨ ((x2 = 20) = False ∧ ∃ q, q < 10 ∧ s.testBit q = true ∧ x2 = nI q) ∨ ((x2 = 20) = False ∧ ¬ ∃ q, q < 10 ∧ s.testBit q = true ∧ x2 = nI q) := by
      by_cases c : x2 = 20
      · exact Or.inl c
      · by_cases c2 : ∃ q, q < 10 ∧ s.testBit q = true ∧ x2 = nI q
        · exact Or.inr (Or.inl ⟨eq_false c, c2⟩)
        · exact Or.inr (Or.inr ⟨eq_false c, c2⟩)
    have hwI : ∀ V : Nat → Nat → Int32, V 168 = I 168 → ∀ w, w < 10 → hh w ≤ 9 ∧ oo w ≤ 1188 ∧ V 168 (130 + w) = nI (hh w) ∧ ∃ l : Nat, l ≤ 12 ∧ V 168 (120 + w) = nI l ∧ vs_sum (fun i => V 168 (12 * w + i)) l = nI (oo w) := by
      intro V hV w hw
      obtain ⟨k1, k2, -, -, k5, l, l1, -, l3, l4, -⟩ := mw w hw
      rw [hV]
      exact ⟨k1, k2, k5, l, l1, l3, l4⟩
    have hmo : ∀ V : Nat → Nat → Int32, V 168 = I 168 → ∀ R, (x2 = 20 ∨ ((x2 = 20) = False ∧ ∃ q, q < 10 ∧ s.testBit q = true ∧ x2 = nI q)) → xv_ev ro 199 xm_Mo_onionsFor xb_Mo_onionsFor_79 [some (.ref 167), some (.int (nI s)), some (.int x2), some (.int 0), some (.int 0), some (.int 1), some (.int 0), none, none] [] (xv_SZ, xv_mk V J) = R → xv_evm ro 199 137 [.ref 167, .int (nI s), .int x2] (xv_SZ, xv_mk V J) = R := by
      intro V hV R hx hR
      have e168 : V 168 300 = nI m := by rw [hV]; exact m2
      have hb := vl_bits ro 197 (xv_SZ, xv_mk V J) (m := s) (by omega)
      rw [xe_Mo_onionsFor]
      rcases hx with hx | ⟨hx, q, q1, q2, q3⟩
      · simp only [xr_all, xf_all, if_true, if_false, true_or, or_true, eq_self, ite_not, Bool.false_eq_true, ite_self, and_self, true_and, and_true, false_and, and_false, not_true_eq_false, not_false_eq_true, xj_Mo_onionsFor, xb_Mo_onionsFor_0, xb_Mo_onionsFor_39, xb_Mo_onionsFor_41, xb_Mo_onionsFor_66, xb_Mo_onionsFor_68, xb_Mo_onionsFor_99, xb_Mo_onionsFor_108, xb_Mo_onionsFor_120, xb_Mo_onionsFor_126, xb_Mo_onionsFor_147, xb_Mo_onionsFor_183, xb_Mo_onionsFor_224, xb_Mo_onionsFor_230, xb_Mo_onionsFor_241, xb_Mo_onionsFor_248, xq_Mo_in, hin1, z1, g300, c300, e168, h1, lS, hb, hin2, hx]
        rw [hx] at hR
        exact hR
      · have hin9 : (0 ≤ nI q ∧ nI q ≤ 9) = True := by (simp (disch := omega) only [vz_all, if_true, if_false, true_or, or_true, eq_self, ite_not, Bool.false_eq_true, ite_self, and_self, true_and, and_true, false_and, and_false, not_true_eq_false, not_false_eq_true, false_or, or_false])
        have hhas := xq_Mo_has ro 198 (xv_SZ, xv_mk V J) (m := s) (s := q) (by omega) (by omega)
        rw [vz_b1 q2] at hhas
        rw [q3] at hx hR ⊢
        simp only [xr_all, xf_all, if_true, if_false, true_or, or_true, eq_self, ite_not, Bool.false_eq_true, ite_self, and_self, true_and, and_true, false_and, and_false, not_true_eq_false, not_false_eq_true, xj_Mo_onionsFor, xb_Mo_onionsFor_0, xb_Mo_onionsFor_39, xb_Mo_onionsFor_41, xb_Mo_onionsFor_66, xb_Mo_onionsFor_68, xb_Mo_onionsFor_99, xb_Mo_onionsFor_108, xb_Mo_onionsFor_120, xb_Mo_onionsFor_126, xb_Mo_onionsFor_147, xb_Mo_onionsFor_183, xb_Mo_onionsFor_224, xb_Mo_onionsFor_230, xb_Mo_onionsFor_241, xb_Mo_onionsFor_248, xq_Mo_in, hin1, z1, g300, c300, e168, h1, lS, hb, hin2, hx, hin9, hhas]
        exact hR
    have hfin : ∀ M1 : Nat → Nat → Int32, (∀ a, a < 160 ∨ (165 < a ∧ a ≠ 197 ∧ a ≠ 198 ∧ a ≠ 199) → M1 a = I a) → vi_all VL M1 J := by
      intro M1 h
      refine vi_all_s hV (fun a j haj => ?_) rfl hI
      have o : ∀ a, (a = 160 ∨ a = 161 ∨ a = 162 ∨ a = 163 ∨ a = 164 ∨ a = 165 ∨ a = 197 ∨ a = 198 ∨ a = 199) → vs_r a j = false := by
        intro a ha
        rcases ha with rfl | rfl | rfl | rfl | rfl | rfl | rfl | rfl | rfl <;> rfl
      have no : ¬ (a = 160 ∨ a = 161 ∨ a = 162 ∨ a = 163 ∨ a = 164 ∨ a = 165 ∨ a = 197 ∨ a = 198 ∨ a = 199) := fun e => by rw [o a e] at haj; cases haj
      rw [h a (by omega)]
    rcases hx with hx | ⟨hx, q, q1, q2, q3⟩ | ⟨hx, hno⟩
    · obtain ⟨M1, b1, b2⟩ := xl_onM ro xv_SZ W1 J (s := s) (hh := hh) (oo := oo) x2 hs (by omega) (by omega) (hwI W1 (a3 168 (by omega))) _ rfl 0 _ (Or.inl ⟨hx, rfl⟩)
      refine ⟨_, W1, J, M1, J, ?_, hmo W1 (a3 168 (by omega)) _ (Or.inl hx) b1, hfin M1 (fun a ha => by rw [b2 a (by omega) (by omega) (by omega)]; exact a3 a (by omega))⟩
      have hmost : xv_evm ro 198 199 [.ref 160] (xv_SZ, xv_mk W1 J) = some (some (.int (W1 160 6)), (xv_SZ, xv_mk W1 J)) := by
        rw [xe_Exchange_most]
        simp only [xr_all, xf_all, if_true, if_false, true_or, or_true, eq_self, ite_not, Bool.false_eq_true, ite_self, and_self, true_and, and_true, false_and, and_false, not_true_eq_false, not_false_eq_true, xj_Exchange_most, xb_Exchange_most_0]
      rw [a4] at hmost
      rw [hcls]
      simp only [xr_all, xf_all, if_true, if_false, true_or, or_true, eq_self, ite_not, Bool.false_eq_true, ite_self, and_self, true_and, and_true, false_and, and_false, not_true_eq_false, not_false_eq_true, xj_Ct_onionsFor, xb_Ct_onionsFor_0, xb_Ct_onionsFor_23, xb_Ct_onionsFor_24, xb_Ct_onionsFor_50, xb_Ct_onionsFor_52, xb_Ct_onionsFor_75, xb_Ct_onionsFor_83, a1, z1, hx, a2, hmost]
    · obtain ⟨M1, b1, b2⟩ := xl_onM ro xv_SZ W1 J (s := s) (hh := hh) (oo := oo) x2 hs (by omega) (by omega) (hwI W1 (a3 168 (by omega))) _ rfl 0 _ (Or.inr ⟨hx, q, q1, q2, q3, rfl⟩)
      refine ⟨_, W1, J, M1, J, ?_, hmo W1 (a3 168 (by omega)) _ (Or.inr ⟨hx, q, q1, q2, q3⟩) b1, hfin M1 (fun a ha => by rw [b2 a (by omega) (by omega) (by omega)]; exact a3 a (by omega))⟩
      have hv0 : (v = 0) = False := by
        rw [hv]
        apply eq_false
        intro g
        apply g
        rw [q3]
        refine ⟨?_, ?_, ?_⟩
        · have : (nI q < 0) = False := by (simp (disch := omega) only [vz_all, if_true, if_false, true_or, or_true, eq_self, ite_not, Bool.false_eq_true, ite_self, and_self, true_and, and_true, false_and, and_false, not_true_eq_false, not_false_eq_true, false_or, or_false])
          rw [this]; exact fun g => g
        · have : (nI q < 10) = True := by (simp (disch := omega) only [vz_all, if_true, if_false, true_or, or_true, eq_self, ite_not, Bool.false_eq_true, ite_self, and_self, true_and, and_true, false_and, and_false, not_true_eq_false, not_false_eq_true, false_or, or_false])
          rw [this]; trivial
        · rw [vb_bit1 (by omega) (by omega)]; exact q2
      have hwf := a5 q q1 q2
      rw [hcls]
      rw [← q3] at hwf
      simp only [xr_all, xf_all, if_true, if_false, true_or, or_true, eq_self, ite_not, Bool.false_eq_true, ite_self, and_self, true_and, and_true, false_and, and_false, not_true_eq_false, not_false_eq_true, xj_Ct_onionsFor, xb_Ct_onionsFor_0, xb_Ct_onionsFor_23, xb_Ct_onionsFor_24, xb_Ct_onionsFor_50, xb_Ct_onionsFor_52, xb_Ct_onionsFor_75, xb_Ct_onionsFor_83, a1, z1, hx, hv0, a2, hwf]
    · have hv0 : v = 0 := by
        rw [hv]
        rintro ⟨p1, p2, p3⟩
        rcases vn_cases x2 10 (by omega) with q | q | ⟨j, hj, rfl⟩
        · exact p1 q
        · exact absurd p2 (Int32.not_lt.mpr q)
        · rw [vb_bit1 (by omega) (by omega)] at p3
          exact hno ⟨j, hj, p3, rfl⟩
      subst hv0
      refine ⟨-1, W, J, W, J, ?_, ?_, hfin W (fun a ha => a0 a (by omega))⟩
      · rw [hcls]
        simp only [xr_all, xf_all, if_true, if_false, true_or, or_true, eq_self, ite_not, Bool.false_eq_true, ite_self, and_self, true_and, and_true, false_and, and_false, not_true_eq_false, not_false_eq_true, xj_Ct_onionsFor, xb_Ct_onionsFor_0, xb_Ct_onionsFor_23, xb_Ct_onionsFor_24, xb_Ct_onionsFor_50, xb_Ct_onionsFor_52, xb_Ct_onionsFor_75, xb_Ct_onionsFor_83, a1, z1, hx]
      · have e168 : W 168 300 = nI m := by rw [a0 168 (by omega)]; exact m2
        have hb := vl_bits ro 197 (xv_SZ, xv_mk W J) (m := s) (by omega)
        rw [xe_Mo_onionsFor]
        by_cases c : ∃ q : Nat, q < 10 ∧ x2 = nI q
        · obtain ⟨q, q1, rfl⟩ := c
          have hin9 : (0 ≤ nI q ∧ nI q ≤ 9) = True := by (simp (disch := omega) only [vz_all, if_true, if_false, true_or, or_true, eq_self, ite_not, Bool.false_eq_true, ite_self, and_self, true_and, and_true, false_and, and_false, not_true_eq_false, not_false_eq_true, false_or, or_false])
          have hhas := xq_Mo_has ro 198 (xv_SZ, xv_mk W J) (m := s) (s := q) (by omega) (by omega)
          rw [vz_b0 (fun g => hno ⟨q, q1, g, rfl⟩)] at hhas
          simp only [xr_all, xf_all, if_true, if_false, true_or, or_true, eq_self, ite_not, Bool.false_eq_true, ite_self, and_self, true_and, and_true, false_and, and_false, not_true_eq_false, not_false_eq_true, xj_Mo_onionsFor, xb_Mo_onionsFor_0, xb_Mo_onionsFor_39, xb_Mo_onionsFor_41, xb_Mo_onionsFor_66, xb_Mo_onionsFor_68, xb_Mo_onionsFor_99, xb_Mo_onionsFor_108, xb_Mo_onionsFor_120, xb_Mo_onionsFor_126, xb_Mo_onionsFor_147, xb_Mo_onionsFor_183, xb_Mo_onionsFor_224, xb_Mo_onionsFor_230, xb_Mo_onionsFor_241, xb_Mo_onionsFor_248, xq_Mo_in, hin1, z1, g300, c300, e168, h1, lS, hb, hin2, hx, hin9, hhas]
        · have hin9 : (0 ≤ x2 ∧ x2 ≤ 9) = False := eq_false (fun g => c ((vn_inN 10 (by omega) x2).mp g))
          simp only [xr_all, xf_all, if_true, if_false, true_or, or_true, eq_self, ite_not, Bool.false_eq_true, ite_self, and_self, true_and, and_true, false_and, and_false, not_true_eq_false, not_false_eq_true, xj_Mo_onionsFor, xb_Mo_onionsFor_0, xb_Mo_onionsFor_39, xb_Mo_onionsFor_41, xb_Mo_onionsFor_66, xb_Mo_onionsFor_68, xb_Mo_onionsFor_99, xb_Mo_onionsFor_108, xb_Mo_onionsFor_120, xb_Mo_onionsFor_126, xb_Mo_onionsFor_147, xb_Mo_onionsFor_183, xb_Mo_onionsFor_224, xb_Mo_onionsFor_230, xb_Mo_onionsFor_241, xb_Mo_onionsFor_248, xq_Mo_in, hin1, z1, g300, c300, e168, h1, lS, hb, hin2, hx, hin9]
