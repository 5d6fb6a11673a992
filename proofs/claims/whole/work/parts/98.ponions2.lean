/-! PAIR: onionsFor (the pair) -/
theorem xl_onM (ro : xv_Ro) (z : Nat × Nat) (M : Nat → Nat → Int32) (J : Nat → Nat → Int64) {s : Nat} {hh oo : Nat → Nat} (x2 : Int32) (hs : s < 1024) (h1 : 1 ≤ vb_ct s 10) (h5 : vb_ct s 10 ≤ 5) (hw : ∀ w, w < 10 → hh w ≤ 9 ∧ oo w ≤ 1188 ∧ M 168 (130 + w) = nI (hh w) ∧ ∃ l : Nat, l ≤ 12 ∧ M 168 (120 + w) = nI l ∧ vs_sum (fun i => M 168 (12 * w + i)) l = nI (oo w)) (st : ox_S) (hst : st = ox_G (fun j => hh (ox_mem s 10 j)) (fun j => oo (ox_mem s 10 j)) (vb_ct s 10) (vb_ct s 10) 0 0 0 (fun _ => 0) (0, fun _ => 0)) (x r : Int32) (hx : (x2 = 20 ∧ r = nI st.1 - 1) ∨ ((x2 = 20) = False ∧ ∃ q, q < 10 ∧ s.testBit q = true ∧ x2 = nI q ∧ r = nI (ox_mem s 10 (st.2 (vb_ct s q))))) : ∃ M1 : Nat → Nat → Int32, xv_ev ro 199 xm_Mo_onionsFor xb_Mo_onionsFor_79 [some (.ref 167), some (.int (nI s)), some (.int x2), some (.int 0), some (.int 0), some (.int 1), some (.int 0), none, none] [] (z, xv_mk M J) = some (some (.int r), (z, xv_mk M1 J)) ∧ ∀ a, a ≠ 197 → a ≠ 198 → a ≠ 199 → M1 a = M a := by
  have hmem : ∀ j, j < vb_ct s 10 → ox_mem s 10 j < 10 := fun j hj => ((ox_mem_p s 10).1 j hj).1
  obtain ⟨p, M1, a1, a2, a3, a4⟩ := xl_fill ro z M J x2 hs h5 10 (Nat.le_refl 10)
  have hct : ∀ q, q < 10 → s.testBit q = true → vb_ct s q < vb_ct s 10 := fun q q1 q2 => ((ox_mem_p s 10).2 q q1 q2).1
  generalize vb_ct s 10 = n at *
  have hl := vz_iter (fun i => xv_ev ro 199 xm_Mo_onionsFor xb_Mo_onionsFor_129 [some (.ref 167), some (.int (nI s)), some (.int x2), some (.int (nI n)), some (.int (nI p)), some (.int (nI (n ^ i))), some (.int (nI i)), none, none] [] (z, xv_mk M1 J)) n (fun i hi => by
    have g1 : (nI n ≤ nI i) = False := by (simp (disch := omega) only [vz_all, if_true, if_false, true_or, or_true, eq_self, ite_not, Bool.false_eq_true, ite_self, and_self, true_and, and_true, false_and, and_false, not_true_eq_false, not_false_eq_true, false_or, or_false])
    have e : nI (n ^ i) * nI n = nI (n ^ (i + 1)) := by rw [pk_mul, ← Nat.pow_succ]
    conv => lhs; unfold xb_Mo_onionsFor_129
    simp only [xr_all, xf_all, if_true, if_false, true_or, or_true, eq_self, ite_not, Bool.false_eq_true, ite_self, and_self, true_and, and_true, false_and, and_false, not_true_eq_false, not_false_eq_true, xj_Mo_onionsFor, xb_Mo_onionsFor_0, xb_Mo_onionsFor_39, xb_Mo_onionsFor_41, xb_Mo_onionsFor_66, xb_Mo_onionsFor_68, xb_Mo_onionsFor_99, xb_Mo_onionsFor_108, xb_Mo_onionsFor_120, xb_Mo_onionsFor_126, xb_Mo_onionsFor_147, xb_Mo_onionsFor_183, xb_Mo_onionsFor_224, xb_Mo_onionsFor_230, xb_Mo_onionsFor_241, xb_Mo_onionsFor_248, g1, e, nI_1])
  rw [Nat.pow_zero, show nI 0 = (0 : Int32) from rfl, show nI 1 = (1 : Int32) from rfl] at hl
  have hn0 : st.1 = st.1 := rfl
  obtain ⟨M2, v, b1, b2, b3⟩ := xl_codes ro 196 z J (n := n) (mem := ox_mem s 10) (hh := hh) (oo := oo) (nI s) x2 (nI p) h1 h5 hmem (n ^ n) 0 (0, fun _ => 0) M1 none (by omega) a3 (by rw [a2 168 (by omega)]; exact hw) (Nat.zero_le _) (fun q => absurd q (by decide))
  rw [ox_eq, ← hst] at b1 b3
  have hok : ox_ok n st := by
    rw [hst]
    exact ox_Gr _ _ n n 0 0 0 _ _ (fun _ => by omega) (fun q => absurd q (by decide))
  have hone : 1 ≤ st.1 := by
    rw [hst]
    exact ox_G1 _ _ n n 0 0 _ _ (by omega)
  refine ⟨M2, ?_, fun a q1 q2 q3 => by rw [b2 a q2 q3, a2 a q1]⟩
  have g10 : (10 ≤ nI 10) = True := eq_true (by decide)
  have hnn : n ^ n ≤ 3125 := by
    have : n = 1 ∨ n = 2 ∨ n = 3 ∨ n = 4 ∨ n = 5 := by omega
    rcases this with rfl | rfl | rfl | rfl | rfl <;> decide
  have gn : (nI n ≤ nI n) = True := by (simp (disch := omega) only [vz_all, if_true, if_false, true_or, or_true, eq_self, ite_not, Bool.false_eq_true, ite_self, and_self, true_and, and_true, false_and, and_false, not_true_eq_false, not_false_eq_true, false_or, or_false])
  have gk : (nI (n ^ n) ≤ nI (n ^ n)) = True := by (simp (disch := omega) only [vz_all, if_true, if_false, true_or, or_true, eq_self, ite_not, Bool.false_eq_true, ite_self, and_self, true_and, and_true, false_and, and_false, not_true_eq_false, not_false_eq_true, false_or, or_false])
  have ed : xv_ev ro 199 xm_Mo_onionsFor xb_Mo_onionsFor_79 [some (.ref 167), some (.int (nI s)), some (.int x2), some (.int (nI n)), some (.int (nI p)), some (.int 1), some (.int (nI 10)), none, none] [] (z, xv_mk M1 J) = xv_ev ro 199 xm_Mo_onionsFor xb_Mo_onionsFor_129 [some (.ref 167), some (.int (nI s)), some (.int x2), some (.int (nI n)), some (.int (nI p)), some (.int 1), some (.int 0), none, none] [] (z, xv_mk M1 J) := by
    conv => lhs; unfold xb_Mo_onionsFor_79
    simp only [xr_all, xf_all, if_true, if_false, true_or, or_true, eq_self, ite_not, Bool.false_eq_true, ite_self, and_self, true_and, and_true, false_and, and_false, not_true_eq_false, not_false_eq_true, xj_Mo_onionsFor, xb_Mo_onionsFor_0, xb_Mo_onionsFor_39, xb_Mo_onionsFor_41, xb_Mo_onionsFor_66, xb_Mo_onionsFor_68, xb_Mo_onionsFor_99, xb_Mo_onionsFor_108, xb_Mo_onionsFor_120, xb_Mo_onionsFor_126, xb_Mo_onionsFor_147, xb_Mo_onionsFor_183, xb_Mo_onionsFor_224, xb_Mo_onionsFor_230, xb_Mo_onionsFor_241, xb_Mo_onionsFor_248, g10]
  have em : (-1 : Int32) = nI 0 - 1 := by decide
  have ee : xv_ev ro 199 xm_Mo_onionsFor xb_Mo_onionsFor_129 [some (.ref 167), some (.int (nI s)), some (.int x2), some (.int (nI n)), some (.int (nI p)), some (.int (nI (n ^ n))), some (.int (nI n)), none, none] [] (z, xv_mk M1 J) = xv_ev ro 199 xm_Mo_onionsFor xb_Mo_onionsFor_153 [some (.ref 167), some (.int (nI s)), some (.int x2), some (.int (nI n)), some (.int (nI p)), some (.int (nI (n ^ n))), some (.int (nI 0 - 1)), some (.int (nI 0)), none] [] (z, xv_mk M1 J) := by
    rw [← em, show nI 0 = (0 : Int32) from rfl]
    conv => lhs; unfold xb_Mo_onionsFor_129
    simp only [xr_all, xf_all, if_true, if_false, true_or, or_true, eq_self, ite_not, Bool.false_eq_true, ite_self, and_self, true_and, and_true, false_and, and_false, not_true_eq_false, not_false_eq_true, xj_Mo_onionsFor, xb_Mo_onionsFor_0, xb_Mo_onionsFor_39, xb_Mo_onionsFor_41, xb_Mo_onionsFor_66, xb_Mo_onionsFor_68, xb_Mo_onionsFor_99, xb_Mo_onionsFor_108, xb_Mo_onionsFor_120, xb_Mo_onionsFor_126, xb_Mo_onionsFor_147, xb_Mo_onionsFor_183, xb_Mo_onionsFor_224, xb_Mo_onionsFor_230, xb_Mo_onionsFor_241, xb_Mo_onionsFor_248, gn]
  rw [a1, ed, hl, ee]
  refine b1.trans ?_
  conv => lhs; unfold xb_Mo_onionsFor_153
  rcases hx with ⟨hx, hr⟩ | ⟨hx, q, q1, q2, q3, hr⟩
  · simp only [xr_all, xf_all, if_true, if_false, true_or, or_true, eq_self, ite_not, Bool.false_eq_true, ite_self, and_self, true_and, and_true, false_and, and_false, not_true_eq_false, not_false_eq_true, xj_Mo_onionsFor, xb_Mo_onionsFor_0, xb_Mo_onionsFor_39, xb_Mo_onionsFor_41, xb_Mo_onionsFor_66, xb_Mo_onionsFor_68, xb_Mo_onionsFor_99, xb_Mo_onionsFor_108, xb_Mo_onionsFor_120, xb_Mo_onionsFor_126, xb_Mo_onionsFor_147, xb_Mo_onionsFor_183, xb_Mo_onionsFor_224, xb_Mo_onionsFor_230, xb_Mo_onionsFor_241, xb_Mo_onionsFor_248, gk, hx, hr]
  · have hp := a4 q q1 q2 q3
    have hpn := hct q q1 q2
    have g5 : xv_inB (nI p) 5 = true := by rw [hp]; (simp (disch := omega) only [vz_all, if_true, if_false, true_or, or_true, eq_self, ite_not, Bool.false_eq_true, ite_self, and_self, true_and, and_true, false_and, and_false, not_true_eq_false, not_false_eq_true, false_or, or_false])
    have cp := nI_clamp (show p < 2 ^ 31 by omega)
    have hb := b3 hone p (by omega)
    rw [hp] at hb g5 cp
    simp only [xr_all, xf_all, if_true, if_false, true_or, or_true, eq_self, ite_not, Bool.false_eq_true, ite_self, and_self, true_and, and_true, false_and, and_false, not_true_eq_false, not_false_eq_true, xj_Mo_onionsFor, xb_Mo_onionsFor_0, xb_Mo_onionsFor_39, xb_Mo_onionsFor_41, xb_Mo_onionsFor_66, xb_Mo_onionsFor_68, xb_Mo_onionsFor_99, xb_Mo_onionsFor_108, xb_Mo_onionsFor_120, xb_Mo_onionsFor_126, xb_Mo_onionsFor_147, xb_Mo_onionsFor_183, xb_Mo_onionsFor_224, xb_Mo_onionsFor_230, xb_Mo_onionsFor_241, xb_Mo_onionsFor_248, gk, hx, hp, g5, cp, hb, hr]
