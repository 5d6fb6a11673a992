/-! the law asked, in the class and in the model -/
theorem l_ask_lp {ro : xv_Ro} {d : Nat} {z : Nat × Nat} {C : Nat → Nat → Int32} {G : Nat → Nat × l_D × l_D} {r k : Nat} (hr : r ≤ 16) (h8 : C 5 8 = nI r) (hk : vl_ok k) (hG : ∀ j, j < r → vl_ok (G j).1 ∧ ∃ s0 s1 s2 : Nat, s2 ≤ 240 ∧ C 8 j = nI (G j).1 ∧ C 9 j = nI s0 ∧ C 10 j = nI s1 ∧ C 11 j = nI s2 ∧ l_cS (C 6) (C 7) s0 s1 32 (G j).2.1 ∧ l_cS (C 6) (C 7) s1 s2 32 (G j).2.2) : ∀ (m i : Nat) (J : Nat → Nat → Int64) (x5 x6 : Option Value), i + m = r → ∃ J1 : Nat → Nat → Int64, xv_ev ro (d + 3) xm_Law_ask xb_Law_ask_23 [some (.ref 5), some (.int (nI k)), some (.ref 21), some (.int (nI (vl_hi k))), some (.int (nI i)), x5, x6] [] (z, xv_mk C J) = some (some (.int (nI (l_fr G k (C 21) m i))), (z, xv_mk C J1)) ∧ ∀ a, a ≠ 12 → J1 a = J a := by
  have hk200 : k < 200 := by unfold vl_ok at hk; omega
  have hhi : vl_hi k < 2 ^ 31 := by unfold vl_hi; split <;> omega
  intro m
  induction m with
  | zero =>
    intro i J x5 x6 hi
    have g : (nI r ≤ nI i) = True := by (simp (disch := omega) only [vz_all, if_true, if_false, true_or, or_true, eq_self, ite_not, Bool.false_eq_true, ite_self, and_self, true_and, and_true, false_and, and_false, not_true_eq_false, not_false_eq_true, false_or, or_false])
    refine ⟨J, ?_, fun _ _ => rfl⟩
    conv => lhs; unfold xb_Law_ask_23
    simp only [xr_all, xf_all, if_true, if_false, true_or, or_true, eq_self, ite_not, Bool.false_eq_true, ite_self, and_self, true_and, and_true, false_and, and_false, not_true_eq_false, not_false_eq_true, xj_Law_ask, xb_Law_ask_0, xb_Law_ask_12, xb_Law_ask_17, xb_Law_ask_19, xb_Law_ask_108, xb_Law_ask_120, xb_Law_ask_121, xb_Law_ask_127, h8, g]
    rfl
  | succ m ih =>
    intro i J x5 x6 hi
    obtain ⟨gk, s0, s1, s2, q1, q2, q3, q4, q5, q6, q7⟩ := hG i (by omega)
    have gk200 : (G i).1 < 200 := by unfold vl_ok at gk; omega
    have s12 := q7.1
    have g : (nI r ≤ nI i) = False := by (simp (disch := omega) only [vz_all, if_true, if_false, true_or, or_true, eq_self, ite_not, Bool.false_eq_true, ite_self, and_self, true_and, and_true, false_and, and_false, not_true_eq_false, not_false_eq_true, false_or, or_false])
    have g2 : (16 ≤ nI i) = False := by (simp (disch := omega) only [vz_all, if_true, if_false, true_or, or_true, eq_self, ite_not, Bool.false_eq_true, ite_self, and_self, true_and, and_true, false_and, and_false, not_true_eq_false, not_false_eq_true, false_or, or_false])
    have g3 : xv_inB (nI i) 16 = true := by (simp (disch := omega) only [vz_all, if_true, if_false, true_or, or_true, eq_self, ite_not, Bool.false_eq_true, ite_self, and_self, true_and, and_true, false_and, and_false, not_true_eq_false, not_false_eq_true, false_or, or_false])
    have ci := nI_clamp (show i < 2 ^ 31 by omega)
    obtain ⟨J1, u1, u2⟩ := xq_run ro d z C J q7 q1
    obtain ⟨J2, v1, v2⟩ := xq_run ro d z C J1 q6 (by omega)
    by_cases ck : (G i).1 = k
    · have gkk : (nI (G i).1 = nI k) = True := by (simp (disch := omega) only [vz_all, if_true, if_false, true_or, or_true, eq_self, ite_not, Bool.false_eq_true, ite_self, and_self, true_and, and_true, false_and, and_false, not_true_eq_false, not_false_eq_true, false_or, or_false])
      have eN : ∀ x : Int32, (lg_cmp x.toInt64 1 = 0) = (x = 1) := fun x => by
        have := e64_c x 1
        rw [show (1 : Int32).toInt64 = 1 from rfl] at this
        exact this
      have eR : (lg_cmp (1099511627776 : Int64) 1 = 0) = False := eq_false (by decide)
      by_cases cD : (G i).2.2 (C 21) = some 1
      · have fr : l_fr G k (C 21) (m + 1) i = l_cl (vl_hi k) ((G i).2.1 (C 21)) := by
          conv => lhs; unfold l_fr
          rw [if_pos ⟨ck, cD⟩]
        rw [fr]
        rw [cD] at u1
        have u1 : xv_evm ro (d + 2) 211 [.ref 5, .int (nI s1), .int (nI s2), .ref 21] (z, xv_mk C J) = some (some (.long (1 : Int32).toInt64), (z, xv_mk C J1)) := u1
        have e11 : (lg_cmp (1 : Int32).toInt64 1 = 0) = True := eq_true (by decide)
        refine ⟨J2, ?_, fun a q => (v2 a q).trans (u2 a q)⟩
        cases cE : (G i).2.1 (C 21) with
        | none =>
          rw [cE] at v1
          have v1 : xv_evm ro (d + 2) 211 [.ref 5, .int (nI s0), .int (nI s1), .ref 21] (z, xv_mk C J1) = some (some (.long 1099511627776), (z, xv_mk C J2)) := v1
          conv => lhs; unfold xb_Law_ask_23
          simp only [xr_all, xf_all, if_true, if_false, true_or, or_true, eq_self, ite_not, Bool.false_eq_true, ite_self, and_self, true_and, and_true, false_and, and_false, not_true_eq_false, not_false_eq_true, xj_Law_ask, xb_Law_ask_0, xb_Law_ask_12, xb_Law_ask_17, xb_Law_ask_19, xb_Law_ask_108, xb_Law_ask_120, xb_Law_ask_121, xb_Law_ask_127, h8, g, g2, g3, ci, q2, q3, q4, q5, gkk, u1, e11, v1, e64_nn]
          rfl
        | some x =>
          rw [cE] at v1
          have v1 : xv_evm ro (d + 2) 211 [.ref 5, .int (nI s0), .int (nI s1), .ref 21] (z, xv_mk C J1) = some (some (.long x.toInt64), (z, xv_mk C J2)) := v1
          have n1 := e64_n x
          have hcl := l_clC x hhi
          conv => lhs; unfold xb_Law_ask_23
          simp only [xr_all, xf_all, if_true, if_false, true_or, or_true, eq_self, ite_not, Bool.false_eq_true, ite_self, and_self, true_and, and_true, false_and, and_false, not_true_eq_false, not_false_eq_true, xj_Law_ask, xb_Law_ask_0, xb_Law_ask_12, xb_Law_ask_17, xb_Law_ask_19, xb_Law_ask_108, xb_Law_ask_120, xb_Law_ask_121, xb_Law_ask_127, h8, g, g2, g3, ci, q2, q3, q4, q5, gkk, u1, e11, v1, n1, hcl]
      · have fr : l_fr G k (C 21) (m + 1) i = l_fr G k (C 21) m (i + 1) := by
          conv => lhs; unfold l_fr
          rw [if_neg (fun q => cD q.2)]
        rw [fr]
        obtain ⟨J3, w1, w2⟩ := ih (i + 1) J1 x5 x6 (by omega)
        refine ⟨J3, ?_, fun a q => (w2 a q).trans (u2 a q)⟩
        rw [← w1]
        conv => lhs; unfold xb_Law_ask_23
        cases cE : (G i).2.2 (C 21) with
        | none =>
          rw [cE] at u1
          have u1 : xv_evm ro (d + 2) 211 [.ref 5, .int (nI s1), .int (nI s2), .ref 21] (z, xv_mk C J) = some (some (.long 1099511627776), (z, xv_mk C J1)) := u1
          simp only [xr_all, xf_all, if_true, if_false, true_or, or_true, eq_self, ite_not, Bool.false_eq_true, ite_self, and_self, true_and, and_true, false_and, and_false, not_true_eq_false, not_false_eq_true, xj_Law_ask, xb_Law_ask_0, xb_Law_ask_12, xb_Law_ask_17, xb_Law_ask_19, xb_Law_ask_108, xb_Law_ask_120, xb_Law_ask_121, xb_Law_ask_127, h8, g, g2, g3, ci, q2, q3, q4, q5, gkk, u1, eR, nI_1]
        | some x =>
          rw [cE] at u1 cD
          have u1 : xv_evm ro (d + 2) 211 [.ref 5, .int (nI s1), .int (nI s2), .ref 21] (z, xv_mk C J) = some (some (.long x.toInt64), (z, xv_mk C J1)) := u1
          have nx : (lg_cmp x.toInt64 1 = 0) = False := by rw [eN]; exact eq_false (fun q => cD (by rw [q]))
          simp only [xr_all, xf_all, if_true, if_false, true_or, or_true, eq_self, ite_not, Bool.false_eq_true, ite_self, and_self, true_and, and_true, false_and, and_false, not_true_eq_false, not_false_eq_true, xj_Law_ask, xb_Law_ask_0, xb_Law_ask_12, xb_Law_ask_17, xb_Law_ask_19, xb_Law_ask_108, xb_Law_ask_120, xb_Law_ask_121, xb_Law_ask_127, h8, g, g2, g3, ci, q2, q3, q4, q5, gkk, u1, nx, nI_1]
    · have gkk : (nI (G i).1 = nI k) = False := by (simp (disch := omega) only [vz_all, if_true, if_false, true_or, or_true, eq_self, ite_not, Bool.false_eq_true, ite_self, and_self, true_and, and_true, false_and, and_false, not_true_eq_false, not_false_eq_true, false_or, or_false])
      have fr : l_fr G k (C 21) (m + 1) i = l_fr G k (C 21) m (i + 1) := by
        conv => lhs; unfold l_fr
        rw [if_neg (fun q => ck q.1)]
      rw [fr]
      obtain ⟨J3, w1, w2⟩ := ih (i + 1) J x5 x6 (by omega)
      refine ⟨J3, ?_, w2⟩
      rw [← w1]
      conv => lhs; unfold xb_Law_ask_23
      simp only [xr_all, xf_all, if_true, if_false, true_or, or_true, eq_self, ite_not, Bool.false_eq_true, ite_self, and_self, true_and, and_true, false_and, and_false, not_true_eq_false, not_false_eq_true, xj_Law_ask, xb_Law_ask_0, xb_Law_ask_12, xb_Law_ask_17, xb_Law_ask_19, xb_Law_ask_108, xb_Law_ask_120, xb_Law_ask_121, xb_Law_ask_127, h8, g, g2, g3, ci, q2, gkk, nI_1]
theorem xq_ask {ro : xv_Ro} {d : Nat} {z : Nat × Nat} {C : Nat → Nat → Int32} {J : Nat → Nat → Int64} {G : Nat → Nat × l_D × l_D} {r k : Nat} (hr : r ≤ 16) (h8 : C 5 8 = nI r) (hk : vl_ok k) (hG : ∀ j, j < r → vl_ok (G j).1 ∧ ∃ s0 s1 s2 : Nat, s2 ≤ 240 ∧ C 8 j = nI (G j).1 ∧ C 9 j = nI s0 ∧ C 10 j = nI s1 ∧ C 11 j = nI s2 ∧ l_cS (C 6) (C 7) s0 s1 32 (G j).2.1 ∧ l_cS (C 6) (C 7) s1 s2 32 (G j).2.2) : ∃ J1 : Nat → Nat → Int64, (∀ a, a ≠ 12 → J1 a = J a) ∧ xv_evm ro (d + 3) 210 [.ref 5, .int (nI k), .ref 21] (z, xv_mk C J) = some (some (.int (nI (l_fr G k (C 21) r 0))), (z, xv_mk C J1)) := by
  obtain ⟨J1, w1, w2⟩ := l_ask_lp (ro := ro) (d := d) (z := z) hr h8 hk hG r 0 J none none (Nat.zero_add _)
  refine ⟨J1, w2, ?_⟩
  rw [← w1, xe_Law_ask, show nI 0 = (0 : Int32) from rfl]
  rcases hk with rfl | rfl | rfl | rfl | rfl
  · have a1 : (nI 108 = 103) = False := eq_false (by decide)
    have a2 : (nI 108 = 121) = False := eq_false (by decide)
    simp only [xr_all, xf_all, if_true, if_false, true_or, or_true, eq_self, ite_not, Bool.false_eq_true, ite_self, and_self, true_and, and_true, false_and, and_false, not_true_eq_false, not_false_eq_true, xj_Law_ask, xb_Law_ask_0, xb_Law_ask_12, xb_Law_ask_17, xb_Law_ask_19, xb_Law_ask_108, xb_Law_ask_120, xb_Law_ask_121, xb_Law_ask_127, a1, a2]
    rfl
  · have a1 : (nI 99 = 103) = False := eq_false (by decide)
    have a2 : (nI 99 = 121) = False := eq_false (by decide)
    simp only [xr_all, xf_all, if_true, if_false, true_or, or_true, eq_self, ite_not, Bool.false_eq_true, ite_self, and_self, true_and, and_true, false_and, and_false, not_true_eq_false, not_false_eq_true, xj_Law_ask, xb_Law_ask_0, xb_Law_ask_12, xb_Law_ask_17, xb_Law_ask_19, xb_Law_ask_108, xb_Law_ask_120, xb_Law_ask_121, xb_Law_ask_127, a1, a2]
    rfl
  · have a1 : (nI 103 = 103) = True := eq_true rfl
    simp only [xr_all, xf_all, if_true, if_false, true_or, or_true, eq_self, ite_not, Bool.false_eq_true, ite_self, and_self, true_and, and_true, false_and, and_false, not_true_eq_false, not_false_eq_true, xj_Law_ask, xb_Law_ask_0, xb_Law_ask_12, xb_Law_ask_17, xb_Law_ask_19, xb_Law_ask_108, xb_Law_ask_120, xb_Law_ask_121, xb_Law_ask_127, a1]
    rfl
  · have a1 : (nI 121 = 103) = False := eq_false (by decide)
    have a2 : (nI 121 = 121) = True := eq_true rfl
    simp only [xr_all, xf_all, if_true, if_false, true_or, or_true, eq_self, ite_not, Bool.false_eq_true, ite_self, and_self, true_and, and_true, false_and, and_false, not_true_eq_false, not_false_eq_true, xj_Law_ask, xb_Law_ask_0, xb_Law_ask_12, xb_Law_ask_17, xb_Law_ask_19, xb_Law_ask_108, xb_Law_ask_120, xb_Law_ask_121, xb_Law_ask_127, a1, a2]
    rfl
  · have a1 : (nI 98 = 103) = False := eq_false (by decide)
    have a2 : (nI 98 = 121) = False := eq_false (by decide)
    simp only [xr_all, xf_all, if_true, if_false, true_or, or_true, eq_self, ite_not, Bool.false_eq_true, ite_self, and_self, true_and, and_true, false_and, and_false, not_true_eq_false, not_false_eq_true, xj_Law_ask, xb_Law_ask_0, xb_Law_ask_12, xb_Law_ask_17, xb_Law_ask_19, xb_Law_ask_108, xb_Law_ask_120, xb_Law_ask_121, xb_Law_ask_127, a1, a2]
    rfl
theorem l_clM (x : Int32) {h : Nat} (hh : h < 2 ^ 31) (h0 : 0 < h) : (x < 0 → nI (l_cl h (some x)) = 0) ∧ (0 ≤ x → nI h < x → nI (l_cl h (some x)) = nI h) ∧ (0 ≤ x → x ≤ nI h → nI (l_cl h (some x)) = x) := by
  have e0 : (0 : Int32).toInt = 0 := by decide
  unfold l_cl
  dsimp only
  refine ⟨fun q => ?_, fun q1 q2 => ?_, fun q1 q2 => ?_⟩
  · rw [Int32.lt_iff_toInt_lt, e0] at q
    rw [if_pos (by omega)]
    rfl
  · rw [Int32.le_iff_toInt_le, e0] at q1
    rw [Int32.lt_iff_toInt_lt, nI_toInt hh] at q2
    rw [if_neg (by omega), if_pos (by omega)]
  · rw [Int32.le_iff_toInt_le, e0] at q1
    rw [Int32.le_iff_toInt_le, nI_toInt hh] at q2
    by_cases c : x.toInt ≤ 0
    · rw [if_pos c, l_nIn (x := x) (by omega), show x.toInt.toNat = 0 by omega]
    · rw [if_neg c]
      by_cases c2 : (h : Int) ≤ x.toInt
      · rw [if_pos c2, l_nIn (x := x) (by omega)]
        exact congrArg nI (by omega)
      · rw [if_neg c2]
        exact (l_nIn (by omega)).symm
theorem l_byLaw_lp {ro : xv_Ro} {d : Nat} {z : Nat × Nat} {J : Nat → Nat → Int64} {I : Nat → Nat → Int32} {F : Nat → Int32} {G : Nat → Nat × l_D × l_D} {r k : Nat} (hr : r ≤ 16) (hk : vl_ok k) (hG : ∀ j, j < r → vl_ok (G j).1 ∧ ∃ c0 c1 c2 : Nat, c2 ≤ 240 ∧ I 181 j = nI (G j).1 ∧ I 182 j = nI c0 ∧ I 183 j = nI c1 ∧ I 184 j = nI c2 ∧ l_mS (I 180) c0 c1 (G j).2.1 ∧ l_mS (I 180) c1 c2 (G j).2.2) : ∀ (m i : Nat) (M : Nat → Nat → Int32) (x4 : Option Value), i + m = r → M 167 16 = nI r → (∀ a, 180 ≤ a → a < 185 → M a = I a) → M 186 = F → ∃ M1 : Nat → Nat → Int32, xv_ev ro (d + 3) xm_Mo_byLaw xb_Mo_byLaw_2 [some (.ref 167), some (.int (nI k)), some (.int (nI (vl_hi k))), some (.int (nI i)), x4] [] (z, xv_mk M J) = some (some (.int (nI (l_fr G k F m i))), (z, xv_mk M1 J)) ∧ ∀ a, a ≠ 185 → M1 a = M a := by
  have hk200 : k < 200 := by unfold vl_ok at hk; omega
  have hhi : vl_hi k < 2 ^ 31 := by unfold vl_hi; split <;> omega
  have hhi0 : 0 < vl_hi k := by unfold vl_hi; split <;> omega
  intro m
  induction m with
  | zero =>
    intro i M x4 hi h16 hM hF
    have g : (nI r ≤ nI i) = True := by (simp (disch := omega) only [vz_all, if_true, if_false, true_or, or_true, eq_self, ite_not, Bool.false_eq_true, ite_self, and_self, true_and, and_true, false_and, and_false, not_true_eq_false, not_false_eq_true, false_or, or_false])
    refine ⟨M, ?_, fun _ _ => rfl⟩
    conv => lhs; unfold xb_Mo_byLaw_2
    simp only [xr_all, xf_all, if_true, if_false, true_or, or_true, eq_self, ite_not, Bool.false_eq_true, ite_self, and_self, true_and, and_true, false_and, and_false, not_true_eq_false, not_false_eq_true, xj_Mo_byLaw, xb_Mo_byLaw_0, xb_Mo_byLaw_43, xb_Mo_byLaw_70, xb_Mo_byLaw_80, xb_Mo_byLaw_82, xb_Mo_byLaw_83, xb_Mo_byLaw_89, h16, g]
    rfl
  | succ m ih =>
    intro i M x4 hi h16 hM hF
    obtain ⟨gk, c0, c1, c2, q1, q2, q3, q4, q5, q6, q7⟩ := hG i (by omega)
    rw [← hM 181 (by omega) (by omega)] at q2
    rw [← hM 182 (by omega) (by omega)] at q3
    rw [← hM 183 (by omega) (by omega)] at q4
    rw [← hM 184 (by omega) (by omega)] at q5
    have gk200 : (G i).1 < 200 := by unfold vl_ok at gk; omega
    have c12 := q7.1
    have g : (nI r ≤ nI i) = False := by (simp (disch := omega) only [vz_all, if_true, if_false, true_or, or_true, eq_self, ite_not, Bool.false_eq_true, ite_self, and_self, true_and, and_true, false_and, and_false, not_true_eq_false, not_false_eq_true, false_or, or_false])
    have g3 : xv_inB (nI i) 16 = true := by (simp (disch := omega) only [vz_all, if_true, if_false, true_or, or_true, eq_self, ite_not, Bool.false_eq_true, ite_self, and_self, true_and, and_true, false_and, and_false, not_true_eq_false, not_false_eq_true, false_or, or_false])
    have ci := nI_clamp (show i < 2 ^ 31 by omega)
    obtain ⟨M1, u1, u2⟩ := xq_comesTo ro d z M J (by rw [hM 180 (by omega) (by omega)]; exact q7) q1
    obtain ⟨M2, v1, v2⟩ := xq_comesTo ro d z M1 J (by rw [u2 180 (by omega), hM 180 (by omega) (by omega)]; exact q6) (by omega)
    rw [hF] at u1
    rw [u2 186 (by omega), hF] at v1
    have w2 := u2 182 (by omega)
    have w3 := u2 183 (by omega)
    have p3 : M1 182 i = nI c0 := by rw [w2]; exact q3
    have p4 : M1 183 i = nI c1 := by rw [w3]; exact q4
    by_cases ck : (G i).1 = k
    · have gkk : (nI (G i).1 = nI k) = True := by (simp (disch := omega) only [vz_all, if_true, if_false, true_or, or_true, eq_self, ite_not, Bool.false_eq_true, ite_self, and_self, true_and, and_true, false_and, and_false, not_true_eq_false, not_false_eq_true, false_or, or_false])
      by_cases cD : (G i).2.2 F = some 1
      · have fr : l_fr G k F (m + 1) i = l_cl (vl_hi k) ((G i).2.1 F) := by
          conv => lhs; unfold l_fr
          rw [if_pos ⟨ck, cD⟩]
        rw [fr]
        rw [cD] at u1
        have u1 : xv_evm ro (d + 2) 79 [.ref 167, .int (nI c1), .int (nI c2)] (z, xv_mk M J) = some (some (.int 1), (z, xv_mk M1 J)) := u1
        refine ⟨M2, ?_, fun a q => (v2 a q).trans (u2 a q)⟩
        conv => lhs; unfold xb_Mo_byLaw_2
        cases cE : (G i).2.1 F with
        | none =>
          rw [cE] at v1
          have v1 : xv_evm ro (d + 2) 79 [.ref 167, .int (nI c0), .int (nI c1)] (z, xv_mk M1 J) = some (some (.int 0), (z, xv_mk M2 J)) := v1
          have y1 : (0 ≤ nI (vl_hi k)) = True := by (simp (disch := omega) only [vz_all, if_true, if_false, true_or, or_true, eq_self, ite_not, Bool.false_eq_true, ite_self, and_self, true_and, and_true, false_and, and_false, not_true_eq_false, not_false_eq_true, false_or, or_false])
          simp only [xr_all, xf_all, if_true, if_false, true_or, or_true, eq_self, ite_not, Bool.false_eq_true, ite_self, and_self, true_and, and_true, false_and, and_false, not_true_eq_false, not_false_eq_true, xj_Mo_byLaw, xb_Mo_byLaw_0, xb_Mo_byLaw_43, xb_Mo_byLaw_70, xb_Mo_byLaw_80, xb_Mo_byLaw_82, xb_Mo_byLaw_83, xb_Mo_byLaw_89, h16, g, g3, ci, q2, q4, q5, gkk, u1, p3, p4, v1, y1]
          rfl
        | some x =>
          rw [cE] at v1
          have v1 : xv_evm ro (d + 2) 79 [.ref 167, .int (nI c0), .int (nI c1)] (z, xv_mk M1 J) = some (some (.int x), (z, xv_mk M2 J)) := v1
          obtain ⟨t1, t2, t3⟩ := l_clM x hhi hhi0
          by_cases y1 : x < 0
          · have y2 : (0 ≤ x) = False := eq_false (Int32.not_le.mpr y1)
            rw [t1 y1]
            simp only [xr_all, xf_all, if_true, if_false, true_or, or_true, eq_self, ite_not, Bool.false_eq_true, ite_self, and_self, true_and, and_true, false_and, and_false, not_true_eq_false, not_false_eq_true, xj_Mo_byLaw, xb_Mo_byLaw_0, xb_Mo_byLaw_43, xb_Mo_byLaw_70, xb_Mo_byLaw_80, xb_Mo_byLaw_82, xb_Mo_byLaw_83, xb_Mo_byLaw_89, h16, g, g3, ci, q2, q4, q5, gkk, u1, p3, p4, v1, y2]
          · have y2 : (0 ≤ x) = True := eq_true (Int32.not_lt.mp y1)
            by_cases y3 : x ≤ nI (vl_hi k)
            · have y4 := eq_true y3
              rw [t3 (Int32.not_lt.mp y1) y3]
              simp only [xr_all, xf_all, if_true, if_false, true_or, or_true, eq_self, ite_not, Bool.false_eq_true, ite_self, and_self, true_and, and_true, false_and, and_false, not_true_eq_false, not_false_eq_true, xj_Mo_byLaw, xb_Mo_byLaw_0, xb_Mo_byLaw_43, xb_Mo_byLaw_70, xb_Mo_byLaw_80, xb_Mo_byLaw_82, xb_Mo_byLaw_83, xb_Mo_byLaw_89, h16, g, g3, ci, q2, q4, q5, gkk, u1, p3, p4, v1, y2, y4]
            · have y4 := eq_false y3
              rw [t2 (Int32.not_lt.mp y1) (Int32.not_le.mp y3)]
              simp only [xr_all, xf_all, if_true, if_false, true_or, or_true, eq_self, ite_not, Bool.false_eq_true, ite_self, and_self, true_and, and_true, false_and, and_false, not_true_eq_false, not_false_eq_true, xj_Mo_byLaw, xb_Mo_byLaw_0, xb_Mo_byLaw_43, xb_Mo_byLaw_70, xb_Mo_byLaw_80, xb_Mo_byLaw_82, xb_Mo_byLaw_83, xb_Mo_byLaw_89, h16, g, g3, ci, q2, q4, q5, gkk, u1, p3, p4, v1, y2, y4]
      · have fr : l_fr G k F (m + 1) i = l_fr G k F m (i + 1) := by
          conv => lhs; unfold l_fr
          rw [if_neg (fun q => cD q.2)]
        rw [fr]
        obtain ⟨M3, t1, t2⟩ := ih (i + 1) M1 x4 (by omega) (by rw [u2 167 (by omega)]; exact h16) (fun a a1 a2 => by rw [u2 a (by omega)]; exact hM a a1 a2) (by rw [u2 186 (by omega)]; exact hF)
        refine ⟨M3, ?_, fun a q => (t2 a q).trans (u2 a q)⟩
        rw [← t1]
        have nx : (l_or0 ((G i).2.2 F) = 1) = False := by
          apply eq_false
          intro q
          cases cE : (G i).2.2 F with
          | none => rw [cE] at q; exact absurd q (by decide)
          | some x =>
            rw [cE] at q cD
            have q : x = 1 := q
            exact cD (by rw [q])
        conv => lhs; unfold xb_Mo_byLaw_2
        simp only [xr_all, xf_all, if_true, if_false, true_or, or_true, eq_self, ite_not, Bool.false_eq_true, ite_self, and_self, true_and, and_true, false_and, and_false, not_true_eq_false, not_false_eq_true, xj_Mo_byLaw, xb_Mo_byLaw_0, xb_Mo_byLaw_43, xb_Mo_byLaw_70, xb_Mo_byLaw_80, xb_Mo_byLaw_82, xb_Mo_byLaw_83, xb_Mo_byLaw_89, h16, g, g3, ci, q2, q4, q5, gkk, u1, nx, nI_1]
    · have gkk : (nI (G i).1 = nI k) = False := by (simp (disch := omega) only [vz_all, if_true, if_false, true_or, or_true, eq_self, ite_not, Bool.false_eq_true, ite_self, and_self, true_and, and_true, false_and, and_false, not_true_eq_false, not_false_eq_true, false_or, or_false])
      have fr : l_fr G k F (m + 1) i = l_fr G k F m (i + 1) := by
        conv => lhs; unfold l_fr
        rw [if_neg (fun q => ck q.1)]
      rw [fr]
      obtain ⟨M3, t1, t2⟩ := ih (i + 1) M x4 (by omega) h16 hM hF
      refine ⟨M3, ?_, t2⟩
      rw [← t1]
      conv => lhs; unfold xb_Mo_byLaw_2
      simp only [xr_all, xf_all, if_true, if_false, true_or, or_true, eq_self, ite_not, Bool.false_eq_true, ite_self, and_self, true_and, and_true, false_and, and_false, not_true_eq_false, not_false_eq_true, xj_Mo_byLaw, xb_Mo_byLaw_0, xb_Mo_byLaw_43, xb_Mo_byLaw_70, xb_Mo_byLaw_80, xb_Mo_byLaw_82, xb_Mo_byLaw_83, xb_Mo_byLaw_89, h16, g, g3, ci, q2, gkk, nI_1]
theorem l_VLA : vl_hA l_VL := by
  rintro I ⟨r, G, a1, a2, a3, a4⟩
  refine ⟨fun k F => l_fr G k F r 0, fun k F => l_fr_le G k F r 0, fun k F F' h => l_fr_8 (r := r) (fun j hj => ?_) k h r 0 (Nat.zero_add _), fun ro d z C J k hk hC => ?_, fun ro d z M J k hk h16 hM => ?_⟩
  · obtain ⟨-, ⟨s0, s1, s2, -, -, -, -, -, b1, b2⟩, -⟩ := a4 j hj
    exact ⟨b1.2.1.2, b2.2.1.2⟩
  · refine xq_ask a1 (by rw [hC 5 (by omega) (by omega)]; exact a2) hk (fun j hj => ?_)
    obtain ⟨b1, b2, -⟩ := a4 j hj
    rw [hC 6 (by omega) (by omega), hC 7 (by omega) (by omega), hC 8 (by omega) (by omega), hC 9 (by omega) (by omega), hC 10 (by omega) (by omega), hC 11 (by omega) (by omega)]
    exact ⟨b1, b2⟩
  · obtain ⟨M1, t1, t2⟩ := l_byLaw_lp (ro := ro) (d := d) (z := z) (J := J) (I := I) (F := M 186) (G := G) (r := r) (k := k) a1 hk (fun j hj => ⟨(a4 j hj).1, (a4 j hj).2.2⟩) r 0 M none (Nat.zero_add _) (h16.trans a3) hM rfl
    refine ⟨M1, t2, ?_⟩
    rw [← t1, xe_Mo_byLaw, show nI 0 = (0 : Int32) from rfl]
    simp only [xr_all, xf_all, if_true, if_false, true_or, or_true, eq_self, ite_not, Bool.false_eq_true, ite_self, and_self, true_and, and_true, false_and, and_false, not_true_eq_false, not_false_eq_true, xj_Mo_byLaw, xb_Mo_byLaw_0, xb_Mo_byLaw_43, xb_Mo_byLaw_70, xb_Mo_byLaw_80, xb_Mo_byLaw_82, xb_Mo_byLaw_83, xb_Mo_byLaw_89]
