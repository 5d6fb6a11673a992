/-! the model's answersNow; the invariant behind an answer -/
def vp_s (I : Nat → Nat → Int32) (w i : Nat) : Nat → Nat → Int32 := fun a j => if a = 168 ∧ 12 * w ≤ j ∧ j < 12 * w + i then I 168 (j + 1) else I a j
theorem vp_s0 (I : Nat → Nat → Int32) (w : Nat) : vp_s I w 0 = I := by
  funext a j
  unfold vp_s
  rw [if_neg (by omega)]
theorem vp_ss (I : Nat → Nat → Int32) (w i : Nat) : xv_u2 (vp_s I w i) 168 (12 * w + i) (vp_s I w i 168 (12 * w + (i + 1))) = vp_s I w (i + 1) := by
  funext a j
  have e : vp_s I w i 168 (12 * w + (i + 1)) = I 168 (12 * w + (i + 1)) := by unfold vp_s; rw [if_neg (by omega)]
  rw [e]
  unfold xv_u2 vp_s
  by_cases c : a = 168
  · by_cases c2 : j = 12 * w + i
    · rw [if_pos ⟨c, c2⟩, if_pos ⟨c, by omega⟩, c2]; rfl
    · rw [if_neg (by omega)]
      by_cases c3 : 12 * w ≤ j ∧ j < 12 * w + i
      · rw [if_pos ⟨c, c3⟩, if_pos ⟨c, by omega⟩]
      · rw [if_neg (by omega), if_neg (by omega)]
  · rw [if_neg (by omega), if_neg (by omega), if_neg (by omega)]
theorem vp_so (I : Nat → Nat → Int32) {w i a j : Nat} (h : ¬ (a = 168 ∧ 12 * w ≤ j ∧ j < 12 * w + i)) : vp_s I w i a j = I a j := if_neg h
theorem vp_si (I : Nat → Nat → Int32) {w i j : Nat} (h : j < i) : vp_s I w i 168 (12 * w + j) = I 168 (12 * w + j + 1) := if_pos ⟨rfl, by omega, by omega⟩
theorem vl_sh (ro : xv_Ro) (d : Nat) (z : Nat × Nat) (I : Nat → Nat → Int32) (J : Nat → Nat → Int64) {w l : Nat} (hw : w < 10) (hl : I 168 (120 + w) = nI l) (hl2 : l ≤ 11) (x2 x3 x4 x5 s : Int32) : xv_ev ro (d + 1) xm_Mo_answersNow xb_Mo_answersNow_175 [some (.ref 167), some (.int (nI w)), some (.int x2), some (.int x3), some (.int x4), some (.int x5), some (.int s), some (.int 0)] [] (z, xv_mk I J) = some (some (.int s), (z, xv_mk (vp_s I w l) J)) := by
  have e1 : 120 + nI w = nI (120 + w) := by (simp (disch := omega) only [vz_all, if_true, if_false, true_or, or_true, eq_self, ite_not, Bool.false_eq_true, ite_self, and_self, true_and, and_true, false_and, and_false, not_true_eq_false, not_false_eq_true, false_or, or_false])
  have e2 : xv_inB (nI (120 + w)) 304 = true := by (simp (disch := omega) only [vz_all, if_true, if_false, true_or, or_true, eq_self, ite_not, Bool.false_eq_true, ite_self, and_self, true_and, and_true, false_and, and_false, not_true_eq_false, not_false_eq_true, false_or, or_false])
  have hlp := vz_iter (fun i => xv_ev ro (d + 1) xm_Mo_answersNow xb_Mo_answersNow_175 [some (.ref 167), some (.int (nI w)), some (.int x2), some (.int x3), some (.int x4), some (.int x5), some (.int s), some (.int (nI i))] [] (z, xv_mk (vp_s I w i) J)) l (fun i hi => by
    have g1 : (nI l ≤ nI i) = False := by (simp (disch := omega) only [vz_all, if_true, if_false, true_or, or_true, eq_self, ite_not, Bool.false_eq_true, ite_self, and_self, true_and, and_true, false_and, and_false, not_true_eq_false, not_false_eq_true, false_or, or_false])
    have g2 : 0 + 12 * nI w + nI i = nI (12 * w + i) := by rw [show (0 : Int32) = nI 0 from rfl, show (12 : Int32) = nI 12 from rfl, pk_mul, nI_add, nI_add, Nat.zero_add]
    have g3 : xv_inB (nI (12 * w + i)) 304 = true := by (simp (disch := omega) only [vz_all, if_true, if_false, true_or, or_true, eq_self, ite_not, Bool.false_eq_true, ite_self, and_self, true_and, and_true, false_and, and_false, not_true_eq_false, not_false_eq_true, false_or, or_false])
    have g4 : vp_s I w i 168 (120 + w) = nI l := by rw [vp_so I (by omega)]; exact hl
    have g5 := xq_Mo_layerOf ro d z (vp_s I w i) J (w := w) (i := i + 1) (by omega)
    conv => lhs; unfold xb_Mo_answersNow_175
    simp only [xr_all, xf_all, if_true, if_false, true_or, or_true, eq_self, ite_not, Bool.false_eq_true, ite_self, and_self, true_and, and_true, false_and, and_false, not_true_eq_false, not_false_eq_true, xj_Mo_answersNow, xb_Mo_answersNow_0, xb_Mo_answersNow_218, e1, e2, nI_clamp (show 120 + w < 2 ^ 31 by omega), g4, g1, g2, g3, nI_clamp (show 12 * w + i < 2 ^ 31 by omega), nI_1, g5, vp_ss])
  rw [vp_s0, show nI 0 = (0 : Int32) from rfl] at hlp
  rw [hlp]
  have g1 : (nI l ≤ nI l) = True := by (simp (disch := omega) only [vz_all, if_true, if_false, true_or, or_true, eq_self, ite_not, Bool.false_eq_true, ite_self, and_self, true_and, and_true, false_and, and_false, not_true_eq_false, not_false_eq_true, false_or, or_false])
  have g4 : vp_s I w l 168 (120 + w) = nI l := by rw [vp_so I (by omega)]; exact hl
  conv => lhs; unfold xb_Mo_answersNow_175
  simp only [xr_all, xf_all, if_true, if_false, true_or, or_true, eq_self, ite_not, Bool.false_eq_true, ite_self, and_self, true_and, and_true, false_and, and_false, not_true_eq_false, not_false_eq_true, xj_Mo_answersNow, xb_Mo_answersNow_0, xb_Mo_answersNow_218, e1, e2, nI_clamp (show 120 + w < 2 ^ 31 by omega), g4, g1]
def vy_M (M M1 : Nat → Nat → Int32) (n w l : Nat) (k y c : Int32) : Prop :=
  M1 168 (140 + n) = nI w ∧ M1 168 (160 + n) = k ∧ M1 168 (180 + n) = y ∧ M1 168 (200 + n) = c ∧ M1 168 (220 + n) = M 168 (12 * w) ∧ M1 168 (240 + n) = nI l ∧ M1 168 (260 + n) = M 168 302 ∧ M1 168 (280 + n) = M 168 (130 + w) ∧ M1 168 301 = nI (n + 1) ∧ M1 168 (120 + w) = nI (l - 1) ∧ (∀ j, j + 1 < l → M1 168 (12 * w + j) = M 168 (12 * w + j + 1)) ∧ (∀ j, j ≠ 301 → j ≠ 120 + w → (∀ f, f < 8 → j ≠ 140 + 20 * f + n) → ¬ (12 * w ≤ j ∧ j < 12 * w + 12) → M1 168 j = M 168 j) ∧ ∀ a, a ≠ 168 → M1 a = M a
theorem xq_answersNow (ro : xv_Ro) (d : Nat) (z : Nat × Nat) (I : Nat → Nat → Int32) (J : Nat → Nat → Int64) {n w l : Nat} (k y c : Int32) (hn : I 168 301 = nI n) (hn2 : n < 20) (hw : w < 10) (hl : I 168 (120 + w) = nI l) (h1 : 1 ≤ l) (h2 : l ≤ 12) : ∃ I1, xv_evm ro (d + 1) 95 [.ref 167, .int (nI w), .int k, .int y, .int c] (z, xv_mk I J) = some (some (.int (I 168 (12 * w))), (z, xv_mk I1 J)) ∧ vy_M I I1 n w l k y c := by
  have q1 : xv_u2 (xv_u2 (xv_u2 (xv_u2 (xv_u2 I 168 (140 + n) (nI w)) 168 (160 + n) k) 168 (180 + n) y) 168 (200 + n) c) 168 (220 + n) (I 168 (12 * w)) 168 (120 + w) = nI l := by
    rw [xu_ne2 (by omega), xu_ne2 (by omega), xu_ne2 (by omega), xu_ne2 (by omega), xu_ne2 (by omega)]; exact hl
  have q2 : xv_u2 (xv_u2 (xv_u2 (xv_u2 (xv_u2 (xv_u2 I 168 (140 + n) (nI w)) 168 (160 + n) k) 168 (180 + n) y) 168 (200 + n) c) 168 (220 + n) (I 168 (12 * w))) 168 (240 + n) (nI l) 168 302 = I 168 302 := by
    rw [xu_ne2 (by omega), xu_ne2 (by omega), xu_ne2 (by omega), xu_ne2 (by omega), xu_ne2 (by omega), xu_ne2 (by omega)]
  have q3 : xv_u2 (xv_u2 (xv_u2 (xv_u2 (xv_u2 (xv_u2 (xv_u2 I 168 (140 + n) (nI w)) 168 (160 + n) k) 168 (180 + n) y) 168 (200 + n) c) 168 (220 + n) (I 168 (12 * w))) 168 (240 + n) (nI l)) 168 (260 + n) (I 168 302) 168 (130 + w) = I 168 (130 + w) := by
    rw [xu_ne2 (by omega), xu_ne2 (by omega), xu_ne2 (by omega), xu_ne2 (by omega), xu_ne2 (by omega), xu_ne2 (by omega), xu_ne2 (by omega)]
  have q4 : xv_u2 (xv_u2 (xv_u2 (xv_u2 (xv_u2 (xv_u2 (xv_u2 (xv_u2 (xv_u2 I 168 (140 + n) (nI w)) 168 (160 + n) k) 168 (180 + n) y) 168 (200 + n) c) 168 (220 + n) (I 168 (12 * w))) 168 (240 + n) (nI l)) 168 (260 + n) (I 168 302)) 168 (280 + n) (I 168 (130 + w))) 168 301 (nI (n + 1)) 168 (120 + w) = nI l := by
    rw [xu_ne2 (by omega), xu_ne2 (by omega), xu_ne2 (by omega), xu_ne2 (by omega), xu_ne2 (by omega), xu_ne2 (by omega), xu_ne2 (by omega), xu_ne2 (by omega), xu_ne2 (by omega)]; exact hl
  refine ⟨vp_s (xv_u2 (xv_u2 (xv_u2 (xv_u2 (xv_u2 (xv_u2 (xv_u2 (xv_u2 (xv_u2 (xv_u2 I 168 (140 + n) (nI w)) 168 (160 + n) k) 168 (180 + n) y) 168 (200 + n) c) 168 (220 + n) (I 168 (12 * w))) 168 (240 + n) (nI l)) 168 (260 + n) (I 168 302)) 168 (280 + n) (I 168 (130 + w))) 168 301 (nI (n + 1))) 168 (120 + w) (nI (l - 1))) w (l - 1), ?_, ?_⟩
  · have hy := xq_Mo_layerOf ro d z I J (w := w) (i := 0) (by omega)
    rw [show nI 0 = (0 : Int32) from rfl, Nat.add_zero] at hy
    have g4 : xv_inB 301 304 = true := by decide
    have g5 : (301 : Int32).toNatClampNeg = 301 := by decide
    have g6 : xv_inB 302 304 = true := by decide
    have g7 : (302 : Int32).toNatClampNeg = 302 := by decide
    have e1 : 120 + nI w = nI (120 + w) := by (simp (disch := omega) only [vz_all, if_true, if_false, true_or, or_true, eq_self, ite_not, Bool.false_eq_true, ite_self, and_self, true_and, and_true, false_and, and_false, not_true_eq_false, not_false_eq_true, false_or, or_false])
    have e2 : 130 + nI w = nI (130 + w) := by (simp (disch := omega) only [vz_all, if_true, if_false, true_or, or_true, eq_self, ite_not, Bool.false_eq_true, ite_self, and_self, true_and, and_true, false_and, and_false, not_true_eq_false, not_false_eq_true, false_or, or_false])
    have e3 : 140 + nI n = nI (140 + n) := by (simp (disch := omega) only [vz_all, if_true, if_false, true_or, or_true, eq_self, ite_not, Bool.false_eq_true, ite_self, and_self, true_and, and_true, false_and, and_false, not_true_eq_false, not_false_eq_true, false_or, or_false])
    have e4 : 160 + nI n = nI (160 + n) := by (simp (disch := omega) only [vz_all, if_true, if_false, true_or, or_true, eq_self, ite_not, Bool.false_eq_true, ite_self, and_self, true_and, and_true, false_and, and_false, not_true_eq_false, not_false_eq_true, false_or, or_false])
    have e5 : 180 + nI n = nI (180 + n) := by (simp (disch := omega) only [vz_all, if_true, if_false, true_or, or_true, eq_self, ite_not, Bool.false_eq_true, ite_self, and_self, true_and, and_true, false_and, and_false, not_true_eq_false, not_false_eq_true, false_or, or_false])
    have e6 : 200 + nI n = nI (200 + n) := by (simp (disch := omega) only [vz_all, if_true, if_false, true_or, or_true, eq_self, ite_not, Bool.false_eq_true, ite_self, and_self, true_and, and_true, false_and, and_false, not_true_eq_false, not_false_eq_true, false_or, or_false])
    have e7 : 220 + nI n = nI (220 + n) := by (simp (disch := omega) only [vz_all, if_true, if_false, true_or, or_true, eq_self, ite_not, Bool.false_eq_true, ite_self, and_self, true_and, and_true, false_and, and_false, not_true_eq_false, not_false_eq_true, false_or, or_false])
    have e8 : 240 + nI n = nI (240 + n) := by (simp (disch := omega) only [vz_all, if_true, if_false, true_or, or_true, eq_self, ite_not, Bool.false_eq_true, ite_self, and_self, true_and, and_true, false_and, and_false, not_true_eq_false, not_false_eq_true, false_or, or_false])
    have e9 : 260 + nI n = nI (260 + n) := by (simp (disch := omega) only [vz_all, if_true, if_false, true_or, or_true, eq_self, ite_not, Bool.false_eq_true, ite_self, and_self, true_and, and_true, false_and, and_false, not_true_eq_false, not_false_eq_true, false_or, or_false])
    have e10 : 280 + nI n = nI (280 + n) := by (simp (disch := omega) only [vz_all, if_true, if_false, true_or, or_true, eq_self, ite_not, Bool.false_eq_true, ite_self, and_self, true_and, and_true, false_and, and_false, not_true_eq_false, not_false_eq_true, false_or, or_false])
    have e11 : nI l - 1 = nI (l - 1) := by (simp (disch := omega) only [vz_all, if_true, if_false, true_or, or_true, eq_self, ite_not, Bool.false_eq_true, ite_self, and_self, true_and, and_true, false_and, and_false, not_true_eq_false, not_false_eq_true, false_or, or_false])
    have f1 : xv_inB (nI (120 + w)) 304 = true := by (simp (disch := omega) only [vz_all, if_true, if_false, true_or, or_true, eq_self, ite_not, Bool.false_eq_true, ite_self, and_self, true_and, and_true, false_and, and_false, not_true_eq_false, not_false_eq_true, false_or, or_false])
    have f2 : xv_inB (nI (130 + w)) 304 = true := by (simp (disch := omega) only [vz_all, if_true, if_false, true_or, or_true, eq_self, ite_not, Bool.false_eq_true, ite_self, and_self, true_and, and_true, false_and, and_false, not_true_eq_false, not_false_eq_true, false_or, or_false])
    have f3 : xv_inB (nI (140 + n)) 304 = true := by (simp (disch := omega) only [vz_all, if_true, if_false, true_or, or_true, eq_self, ite_not, Bool.false_eq_true, ite_self, and_self, true_and, and_true, false_and, and_false, not_true_eq_false, not_false_eq_true, false_or, or_false])
    have f4 : xv_inB (nI (160 + n)) 304 = true := by (simp (disch := omega) only [vz_all, if_true, if_false, true_or, or_true, eq_self, ite_not, Bool.false_eq_true, ite_self, and_self, true_and, and_true, false_and, and_false, not_true_eq_false, not_false_eq_true, false_or, or_false])
    have f5 : xv_inB (nI (180 + n)) 304 = true := by (simp (disch := omega) only [vz_all, if_true, if_false, true_or, or_true, eq_self, ite_not, Bool.false_eq_true, ite_self, and_self, true_and, and_true, false_and, and_false, not_true_eq_false, not_false_eq_true, false_or, or_false])
    have f6 : xv_inB (nI (200 + n)) 304 = true := by (simp (disch := omega) only [vz_all, if_true, if_false, true_or, or_true, eq_self, ite_not, Bool.false_eq_true, ite_self, and_self, true_and, and_true, false_and, and_false, not_true_eq_false, not_false_eq_true, false_or, or_false])
    have f7 : xv_inB (nI (220 + n)) 304 = true := by (simp (disch := omega) only [vz_all, if_true, if_false, true_or, or_true, eq_self, ite_not, Bool.false_eq_true, ite_self, and_self, true_and, and_true, false_and, and_false, not_true_eq_false, not_false_eq_true, false_or, or_false])
    have f8 : xv_inB (nI (240 + n)) 304 = true := by (simp (disch := omega) only [vz_all, if_true, if_false, true_or, or_true, eq_self, ite_not, Bool.false_eq_true, ite_self, and_self, true_and, and_true, false_and, and_false, not_true_eq_false, not_false_eq_true, false_or, or_false])
    have f9 : xv_inB (nI (260 + n)) 304 = true := by (simp (disch := omega) only [vz_all, if_true, if_false, true_or, or_true, eq_self, ite_not, Bool.false_eq_true, ite_self, and_self, true_and, and_true, false_and, and_false, not_true_eq_false, not_false_eq_true, false_or, or_false])
    have f10 : xv_inB (nI (280 + n)) 304 = true := by (simp (disch := omega) only [vz_all, if_true, if_false, true_or, or_true, eq_self, ite_not, Bool.false_eq_true, ite_self, and_self, true_and, and_true, false_and, and_false, not_true_eq_false, not_false_eq_true, false_or, or_false])
    rw [xe_Mo_answersNow]
    simp only [xr_all, xf_all, if_true, if_false, true_or, or_true, eq_self, ite_not, Bool.false_eq_true, ite_self, and_self, true_and, and_true, false_and, and_false, not_true_eq_false, not_false_eq_true, xj_Mo_answersNow, xb_Mo_answersNow_0, xb_Mo_answersNow_218, g4, g5, g6, g7, hn, hy, e1, e2, e3, e4, e5, e6, e7, e8, e9, e10, e11, f1, f2, f3, f4, f5, f6, f7, f8, f9, f10, nI_1, nI_clamp (show 120 + w < 2 ^ 31 by omega), nI_clamp (show 130 + w < 2 ^ 31 by omega), nI_clamp (show 140 + n < 2 ^ 31 by omega), nI_clamp (show 160 + n < 2 ^ 31 by omega), nI_clamp (show 180 + n < 2 ^ 31 by omega), nI_clamp (show 200 + n < 2 ^ 31 by omega), nI_clamp (show 220 + n < 2 ^ 31 by omega), nI_clamp (show 240 + n < 2 ^ 31 by omega), nI_clamp (show 260 + n < 2 ^ 31 by omega), nI_clamp (show 280 + n < 2 ^ 31 by omega), q1, q2, q3, q4]
    exact vl_sh ro d z _ J hw (by rw [xu_eq]) (by omega) _ _ _ _ _
  · refine ⟨?_, ?_, ?_, ?_, ?_, ?_, ?_, ?_, ?_, ?_, ?_, ?_, ?_⟩
    · rw [vp_so _ (by omega)]; (repeat (first | rw [xu_ne2 (by omega)] | rw [xu_ne (by omega)] | rw [xu_eq]))
    · rw [vp_so _ (by omega)]; (repeat (first | rw [xu_ne2 (by omega)] | rw [xu_ne (by omega)] | rw [xu_eq]))
    · rw [vp_so _ (by omega)]; (repeat (first | rw [xu_ne2 (by omega)] | rw [xu_ne (by omega)] | rw [xu_eq]))
    · rw [vp_so _ (by omega)]; (repeat (first | rw [xu_ne2 (by omega)] | rw [xu_ne (by omega)] | rw [xu_eq]))
    · rw [vp_so _ (by omega)]; (repeat (first | rw [xu_ne2 (by omega)] | rw [xu_ne (by omega)] | rw [xu_eq]))
    · rw [vp_so _ (by omega)]; (repeat (first | rw [xu_ne2 (by omega)] | rw [xu_ne (by omega)] | rw [xu_eq]))
    · rw [vp_so _ (by omega)]; (repeat (first | rw [xu_ne2 (by omega)] | rw [xu_ne (by omega)] | rw [xu_eq]))
    · rw [vp_so _ (by omega)]; (repeat (first | rw [xu_ne2 (by omega)] | rw [xu_ne (by omega)] | rw [xu_eq]))
    · rw [vp_so _ (by omega)]; (repeat (first | rw [xu_ne2 (by omega)] | rw [xu_ne (by omega)] | rw [xu_eq]))
    · rw [vp_so _ (by omega)]; (repeat (first | rw [xu_ne2 (by omega)] | rw [xu_ne (by omega)] | rw [xu_eq]))
    · intro j hj
      rw [vp_si _ (by omega)]; (repeat (first | rw [xu_ne2 (by omega)] | rw [xu_ne (by omega)] | rw [xu_eq]))
    · intro j j1 j2 j3 j4
      have a0 := j3 0 (by omega)
      have a1 := j3 1 (by omega)
      have a2 := j3 2 (by omega)
      have a3 := j3 3 (by omega)
      have a4 := j3 4 (by omega)
      have a5 := j3 5 (by omega)
      have a6 := j3 6 (by omega)
      have a7 := j3 7 (by omega)
      rw [vp_so _ (by omega)]; (repeat (first | rw [xu_ne2 (by omega)] | rw [xu_ne (by omega)] | rw [xu_eq]))
    · intro a ha
      funext j
      rw [vp_so _ (by omega)]; (repeat (first | rw [xu_ne2 (by omega)] | rw [xu_ne (by omega)] | rw [xu_eq]))
theorem vAr_le {A : Nat} (h : vAr A) : A ≤ 111 := by
  rcases h with rfl | rfl | rfl <;> omega
theorem vi_say {C C1 M M1 : Nat → Nat → Int32} {A n w l kk : Nat} {k y c : Int32} (hA : vAr A) (h : vi_A (vz_mg C M) A 168) (hn : C A 2 = nI n) (hn2 : n < 20) (hw : w < 10) (hl : C (A + 3 + 2 * w) 1 = nI l) (h1 : 1 ≤ l) (h2 : l ≤ 12) (hk : k = nI kk) (hk2 : kk < 8) (hy : y = 0 ∨ y = 1) (hc : c = 0 ∨ c = 1) (hC : vy_C C C1 A n w l k y c) (hM : vy_M M M1 n w l k y c) : vi_A (vz_mg C1 M1) A 168 := by
  have hAl := vAr_le hA
  obtain ⟨⟨n', p1, p2, p3, p4⟩, ⟨⟨wk, u1, u2, u3⟩, lt, v1, v2, v3⟩, ⟨m, m1, m2, m3⟩, g4⟩ := h
  rw [vz_mgC _ _ (by omega)] at p2 u2 v2
  rw [vz_mgM _ _ (by omega)] at p3 u3 v3 m2
  obtain rfl : n' = n := (nI_eq (by omega) (by omega)).mp (p2.symm.trans hn)
  obtain ⟨c0, c1, c2, c3, c4, c5, c6, c7, c8, c9, c10, c11, c12, c13⟩ := hC
  obtain ⟨d0, d1, d2, d3, d4, d5, d6, d7, d8, d9, d10, d11, d12⟩ := hM
  obtain ⟨⟨hh, x1, x2, x3⟩, l', y1, y2, y3, y4⟩ := g4 w hw
  rw [vz_mgC _ _ (by omega)] at x2 y2
  rw [vz_mgM _ _ (by omega)] at x3 y3
  obtain rfl : l' = l := (nI_eq (by omega) (by omega)).mp (y2.symm.trans hl)
  refine ⟨⟨n' + 1, by omega, ?_, ?_, fun i hi => ?_⟩, ⟨⟨wk, u1, ?_, ?_⟩, lt, v1, ?_, ?_⟩, ⟨m, m1, ?_, fun v hv => ?_⟩, fun v hv => ?_⟩
  · rw [vz_mgC _ _ (by omega)]; exact c10
  · rw [vz_mgM _ _ (by omega)]; exact d8
  · rw [vz_mgC _ _ (by omega), vz_mgM _ _ (by omega)]
    by_cases hin : i = n'
    · rw [hin]
      refine ⟨fun f hf => ?_, ⟨w, hw, d0⟩, ⟨kk, hk2, d1.trans hk⟩, by rw [d2]; exact hy, by rw [d3]; exact hc⟩
      have hs := y4 0 (by omega)
      obtain ⟨s, s1, s2, s3, s4⟩ := hs
      rw [vz_mgC _ _ (by omega)] at s3
      rw [vz_mgM _ _ (by omega), Nat.add_zero] at s4
      have hf8 : f = 0 ∨ f = 1 ∨ f = 2 ∨ f = 3 ∨ f = 4 ∨ f = 5 ∨ f = 6 ∨ f = 7 := by omega
      rcases hf8 with rfl | rfl | rfl | rfl | rfl | rfl | rfl | rfl
      · exact c0.trans d0.symm
      · exact c1.trans d1.symm
      · exact c2.trans d2.symm
      · exact c3.trans d3.symm
      · rw [c4, s3, ← s4]; exact d4.symm
      · exact c5.trans d5.symm
      · rw [c6, u2, ← u3]; exact d6.symm
      · rw [c7, x2, ← x3]; exact d7.symm
    · obtain ⟨z0, z1, z2, z3, z4⟩ := p4 i (by omega)
      rw [vz_mgC _ _ (by omega), vz_mgM _ _ (by omega)] at z0
      rw [vz_mgM _ _ (by omega)] at z1 z2 z3 z4
      have e1 : C1 (A + 23 + i) = C (A + 23 + i) := c13 _ (by omega) (by omega) (by omega) (by omega)
      have e2 : ∀ f, f < 8 → M1 168 (140 + 20 * f + i) = M 168 (140 + 20 * f + i) := fun f hf => d11 _ (by omega) (by omega) (fun g hg => by omega) (by omega)
      rw [e1]
      refine ⟨fun f hf => by rw [e2 f hf]; exact z0 f hf, ?_, ?_, ?_, ?_⟩
      · rw [e2 0 (by omega)]; exact z1
      · rw [e2 1 (by omega)]; exact z2
      · rw [e2 2 (by omega)]; exact z3
      · rw [e2 3 (by omega)]; exact z4
  · rw [vz_mgC _ _ (by omega), c12 3 (by omega)]; exact u2
  · rw [vz_mgM _ _ (by omega), d11 302 (by omega) (by omega) (fun g hg => by omega) (by omega)]; exact u3
  · rw [vz_mgC _ _ (by omega), c12 4 (by omega)]; exact v2
  · rw [vz_mgM _ _ (by omega), d11 303 (by omega) (by omega) (fun g hg => by omega) (by omega)]; exact v3
  · rw [vz_mgM _ _ (by omega), d11 300 (by omega) (by omega) (fun g hg => by omega) (by omega)]; exact m2
  · have q := m3 v hv
    rw [vz_mgC _ _ (by omega)] at q ⊢
    by_cases hvw : v = w
    · rw [hvw, c11 3 (by omega), ← hvw]; exact q
    · rw [c13 _ (by omega) (by omega) (by omega) (by omega)]; exact q
  · by_cases hvw : v = w
    · rw [hvw]
      refine ⟨⟨hh, x1, ?_, ?_⟩, l' - 1, by omega, ?_, ?_, fun i hi => ?_⟩
      · rw [vz_mgC _ _ (by omega), c11 2 (by omega)]; exact x2
      · rw [vz_mgM _ _ (by omega), d11 (130 + w) (by omega) (by omega) (fun g hg => by omega) (by omega)]; exact x3
      · rw [vz_mgC _ _ (by omega)]; exact c8
      · rw [vz_mgM _ _ (by omega)]; exact d9
      · obtain ⟨s, s1, s2, s3, s4⟩ := y4 (i + 1) (by omega)
        rw [vz_mgC _ _ (by omega)] at s3
        rw [vz_mgM _ _ (by omega)] at s4
        refine ⟨s, s1, s2, ?_, ?_⟩
        · rw [vz_mgC _ _ (by omega), c9 i (by omega)]; exact s3
        · rw [vz_mgM _ _ (by omega), d10 i (by omega)]; exact s4
    · obtain ⟨⟨h', b1, b2, b3⟩, l2, b4, b5, b6, b7⟩ := g4 v hv
      rw [vz_mgC _ _ (by omega)] at b2 b5
      rw [vz_mgM _ _ (by omega)] at b3 b6
      have e1 : C1 (A + 3 + 2 * v) = C (A + 3 + 2 * v) := c13 _ (by omega) (by omega) (by omega) (by omega)
      have e2 : C1 (A + 4 + 2 * v) = C (A + 4 + 2 * v) := c13 _ (by omega) (by omega) (by omega) (by omega)
      refine ⟨⟨h', b1, ?_, ?_⟩, l2, b4, ?_, ?_, fun i hi => ?_⟩
      · rw [vz_mgC _ _ (by omega), e1]; exact b2
      · rw [vz_mgM _ _ (by omega), d11 (130 + v) (by omega) (by omega) (fun g hg => by omega) (by omega)]; exact b3
      · rw [vz_mgC _ _ (by omega), e1]; exact b5
      · rw [vz_mgM _ _ (by omega), d11 (120 + v) (by omega) (by omega) (fun g hg => by omega) (by omega)]; exact b6
      · obtain ⟨s, s1, s2, s3, s4⟩ := b7 i hi
        rw [vz_mgC _ _ (by omega)] at s3
        rw [vz_mgM _ _ (by omega)] at s4
        refine ⟨s, s1, s2, ?_, ?_⟩
        · rw [vz_mgC _ _ (by omega), e2]; exact s3
        · rw [vz_mgM _ _ (by omega), d11 (12 * v + i) (by omega) (by omega) (fun g hg => by omega) (by omega)]; exact s4
