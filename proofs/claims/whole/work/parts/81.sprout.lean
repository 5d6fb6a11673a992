/-! the model's maySprout and week -/
def vx_ud (I : Nat → Nat → Int32) (w l i : Nat) : Nat → Nat → Int32 := fun a j => if a = 168 ∧ 12 * w + i < j ∧ j ≤ 12 * w + l then I 168 (j - 1) else I a j
theorem vx_udl (I : Nat → Nat → Int32) (w l : Nat) : vx_ud I w l l = I := by
  funext a j
  unfold vx_ud
  rw [if_neg (by omega)]
theorem vx_uds (I : Nat → Nat → Int32) (w : Nat) {l i : Nat} (h1 : 1 ≤ i) (h2 : i ≤ l) : xv_u2 (vx_ud I w l i) 168 (12 * w + i) (vx_ud I w l i 168 (12 * w + (i - 1))) = vx_ud I w l (i - 1) := by
  funext a j
  have e : vx_ud I w l i 168 (12 * w + (i - 1)) = I 168 (12 * w + (i - 1)) := by unfold vx_ud; rw [if_neg (by omega)]
  rw [e]
  unfold xv_u2 vx_ud
  by_cases c : a = 168
  · by_cases c2 : j = 12 * w + i
    · rw [if_pos ⟨c, c2⟩, if_pos ⟨c, by omega, by omega⟩, show 12 * w + (i - 1) = j - 1 by omega]
    · rw [if_neg (by omega)]
      by_cases c3 : 12 * w + i < j ∧ j ≤ 12 * w + l
      · rw [if_pos ⟨c, c3⟩, if_pos ⟨c, by omega, by omega⟩]
      · rw [if_neg (by omega), if_neg (by omega)]
  · rw [if_neg (by omega), if_neg (by omega), if_neg (by omega)]
theorem xq_maySprout (ro : xv_Ro) (d : Nat) (z : Nat × Nat) (M : Nat → Nat → Int32) (J : Nat → Nat → Int64) {I : Nat → Nat → Int32} {fn : Nat → (Nat → Int32) → Nat} (hf : vl_fn I fn) (h16 : M 167 16 = I 167 16) (h180 : ∀ a, 180 ≤ a → a < 185 → M a = I a) {w l h t lot sp : Nat} {s : Nat → Nat} (hw : w < 10) (hl : M 168 (120 + w) = nI l) (hl1 : 1 ≤ l) (hl2 : l ≤ 12) (hsM : ∀ j, j < l → M 168 (12 * w + j) = nI (s j)) (hh : M 168 (130 + w) = nI h) (ht : M 168 302 = nI t) (hlot : M 168 303 = nI lot) (hlot2 : lot < 65536) (hsp : M 167 43 = nI sp) : ∃ M1 : Nat → Nat → Int32, xv_evm ro (d + 4) 99 [.ref 167, .int (nI w)] (z, xv_mk M J) = some (none, (z, xv_mk M1 J)) ∧ M1 168 303 = nI (vx_n lot) ∧ (if vx_n lot % 10 < fn 98 (vx_F w h t (s 0) l) ∧ l < 12 then M1 168 (120 + w) = nI (l + 1) ∧ M1 167 43 = nI (sp + 1) ∧ ∀ j, j < l + 1 → M1 168 (12 * w + j) = nI (if j = 0 then 50 else s (j - 1)) else M1 168 (120 + w) = nI l ∧ M1 167 43 = nI sp ∧ ∀ j, j < l → M1 168 (12 * w + j) = nI (s j)) ∧ (∀ j, j ≠ 303 → j ≠ 120 + w → ¬ (12 * w ≤ j ∧ j < 12 * w + 12) → M1 168 j = M 168 j) ∧ (∀ k, k ≠ 43 → M1 167 k = M 167 k) ∧ ∀ a, a ≠ 167 → a ≠ 168 → a ≠ 185 → a ≠ 186 → M1 a = M a := by
  have i302 : xv_inB 302 304 = true := by decide
  have c302 : (302 : Int32).toNatClampNeg = 302 := by decide
  have i303 : xv_inB 303 304 = true := by decide
  have c303 : (303 : Int32).toNatClampNeg = 303 := by decide
  have n1 : 120 + nI w = nI (120 + w) := by (simp (disch := omega) only [vz_all, if_true, if_false, true_or, or_true, eq_self, ite_not, Bool.false_eq_true, ite_self, and_self, true_and, and_true, false_and, and_false, not_true_eq_false, not_false_eq_true, false_or, or_false])
  have n2 : 130 + nI w = nI (130 + w) := by (simp (disch := omega) only [vz_all, if_true, if_false, true_or, or_true, eq_self, ite_not, Bool.false_eq_true, ite_self, and_self, true_and, and_true, false_and, and_false, not_true_eq_false, not_false_eq_true, false_or, or_false])
  have b1 : xv_inB (nI (120 + w)) 304 = true := by (simp (disch := omega) only [vz_all, if_true, if_false, true_or, or_true, eq_self, ite_not, Bool.false_eq_true, ite_self, and_self, true_and, and_true, false_and, and_false, not_true_eq_false, not_false_eq_true, false_or, or_false])
  have b2 : xv_inB (nI (130 + w)) 304 = true := by (simp (disch := omega) only [vz_all, if_true, if_false, true_or, or_true, eq_self, ite_not, Bool.false_eq_true, ite_self, and_self, true_and, and_true, false_and, and_false, not_true_eq_false, not_false_eq_true, false_or, or_false])
  have cc1 := nI_clamp (show 120 + w < 2 ^ 31 by omega)
  have cc2 := nI_clamp (show 130 + w < 2 ^ 31 by omega)
  have hy := xq_Mo_layerOf ro (d + 3) z M J (w := w) (i := 0) (by omega)
  rw [hsM 0 (by omega), show nI 0 = (0 : Int32) from rfl] at hy
  have hfe := xq_feels ro (d + 3) z M J (nI w) (nI h) (nI (s 0)) (nI l) (nI t)
  rw [show vg_u (vg_u (vg_u (vg_u (vg_u (vh_z (M 186) 8) 0 (nI w)) 1 (nI h)) 2 (nI (s 0))) 3 (nI l)) 7 (nI t) = vx_G M w h (s 0) l t from rfl] at hfe
  have hdr : 25173 * nI lot + 13849 - (25173 * nI lot + 13849) / 65536 * 65536 = nI (vx_n lot) := by
    rw [show (25173 : Int32) = nI 25173 from rfl, pk_mul, show (13849 : Int32) = nI 13849 from rfl, nI_add]
    exact pk_rem (d := 65536) (by omega) (by omega) (by omega)
  have z10 : ((10 : Int32) = 0) = False := eq_false (by decide)
  have z65 : ((65536 : Int32) = 0) = False := eq_false (by decide)
  have hnb : vx_n lot < 65536 := Nat.mod_lt _ (by decide)
  have hrem : nI (vx_n lot) - nI (vx_n lot) / 10 * 10 = nI (vx_n lot % 10) := pk_rem (d := 10) (by omega) (by omega) (by omega)
  obtain ⟨M2, c1, c2⟩ := hf.2.2.2 ro d z (xv_u2 (vh_K M (vx_G M w h (s 0) l t)) 168 303 (nI (vx_n lot))) J 98 (Or.inr (Or.inr (Or.inr (Or.inr rfl)))) (by rw [xu_ne (by omega), vh_Ko M _ (by omega)]; exact h16) (fun a q1 q2 => by rw [xu_ne (by omega), vh_Ko M _ (by omega)]; exact h180 a q1 q2)
  rw [xu_ne (by omega), vh_Ki, hf.2.1 98 _ _ (vx_GF M w h (s 0) l t), show nI 98 = (98 : Int32) from rfl, show nI (vl_hi 98) = (10 : Int32) from rfl] at c2
  have gM2 : ∀ a, a ≠ 168 → a ≠ 185 → a ≠ 186 → M2 a = M a := fun a q1 q2 q3 => by rw [c1 a q2, xu_ne q1, vh_Ko M _ q3]
  have g168 : ∀ j, j ≠ 303 → M2 168 j = M 168 j := fun j hj => by rw [c1 168 (by omega), xu_ne2 (by omega), vh_Ko M _ (by omega)]
  have g303 : M2 168 303 = nI (vx_n lot) := by rw [c1 168 (by omega), xu_eq]
  have k1 : vh_K M (vx_G M w h (s 0) l t) 168 303 = nI lot := by rw [vh_Ko M _ (by omega)]; exact hlot
  have k2 : xv_u2 (vh_K M (vx_G M w h (s 0) l t)) 168 303 (nI (vx_n lot)) 168 303 = nI (vx_n lot) := xu_eq
  have f1 := hf.1 98 (vx_F w h t (s 0) l)
  rw [show vl_hi 98 = 10 from rfl] at f1
  generalize fn 98 (vx_F w h t (s 0) l) = bb at *
  by_cases d1 : vx_n lot % 10 < bb
  · have q1 : (nI bb ≤ nI (vx_n lot % 10)) = False := by (simp (disch := omega) only [vz_all, if_true, if_false, true_or, or_true, eq_self, ite_not, Bool.false_eq_true, ite_self, and_self, true_and, and_true, false_and, and_false, not_true_eq_false, not_false_eq_true, false_or, or_false])
    by_cases d2 : l < 12
    · have hc : (vx_n lot % 10 < bb ∧ l < 12) = True := eq_true ⟨d1, d2⟩
      simp only [hc, if_true]
      have q2 : (nI l = 12) = False := by (simp (disch := omega) only [vz_all, if_true, if_false, true_or, or_true, eq_self, ite_not, Bool.false_eq_true, ite_self, and_self, true_and, and_true, false_and, and_false, not_true_eq_false, not_false_eq_true, false_or, or_false])
      have e12 : 0 + 12 * nI w = nI (12 * w) := by rw [show (0 : Int32) = nI 0 from rfl, show (12 : Int32) = nI 12 from rfl, pk_mul, nI_add, Nat.zero_add]
      have b12 : xv_inB (nI (12 * w)) 304 = true := by (simp (disch := omega) only [vz_all, if_true, if_false, true_or, or_true, eq_self, ite_not, Bool.false_eq_true, ite_self, and_self, true_and, and_true, false_and, and_false, not_true_eq_false, not_false_eq_true, false_or, or_false])
      have c12 := nI_clamp (show 12 * w < 2 ^ 31 by omega)
      have hlp := vz_iter (fun k => xv_ev ro (d + 4) xm_Mo_maySprout xb_Mo_maySprout_99 [some (.ref 167), some (.int (nI w)), some (.int (nI l)), some (.int (nI (l - k)))] [] (z, xv_mk (vx_ud M2 w l (l - k)) J)) l (fun k hk => by
        have e1 : (nI (l - k) ≤ 0) = False := by rw [show (0 : Int32) = nI 0 from rfl]; (simp (disch := omega) only [vz_all, if_true, if_false, true_or, or_true, eq_self, ite_not, Bool.false_eq_true, ite_self, and_self, true_and, and_true, false_and, and_false, not_true_eq_false, not_false_eq_true, false_or, or_false])
        have e2 : nI (12 * w) + nI (l - k) = nI (12 * w + (l - k)) := nI_add _ _
        have e3 : nI (l - k) - 1 = nI (l - k - 1) := by (simp (disch := omega) only [vz_all, if_true, if_false, true_or, or_true, eq_self, ite_not, Bool.false_eq_true, ite_self, and_self, true_and, and_true, false_and, and_false, not_true_eq_false, not_false_eq_true, false_or, or_false])
        have e4 : xv_inB (nI (12 * w + (l - k))) 304 = true := by (simp (disch := omega) only [vz_all, if_true, if_false, true_or, or_true, eq_self, ite_not, Bool.false_eq_true, ite_self, and_self, true_and, and_true, false_and, and_false, not_true_eq_false, not_false_eq_true, false_or, or_false])
        have e5 : nI (l - k) + -1 = nI (l - k - 1) := vz_dec (by omega)
        have e6 := vx_uds M2 w (l := l) (i := l - k) (by omega) (by omega)
        have e7 := xq_Mo_layerOf ro (d + 3) z (vx_ud M2 w l (l - k)) J (w := w) (i := l - k - 1) (by omega)
        rw [show l - (k + 1) = l - k - 1 by omega]
        conv => lhs; unfold xb_Mo_maySprout_99
        simp only [xr_all, xf_all, if_true, if_false, true_or, or_true, eq_self, ite_not, Bool.false_eq_true, ite_self, and_self, true_and, and_true, false_and, and_false, not_true_eq_false, not_false_eq_true, xj_Mo_maySprout, xb_Mo_maySprout_0, xb_Mo_maySprout_96, xb_Mo_maySprout_97, xb_Mo_maySprout_130, e1, e12, e2, e3, e4, nI_clamp (show 12 * w + (l - k) < 2 ^ 31 by omega), e7, e6, e5])
      rw [Nat.sub_zero, Nat.sub_self, vx_udl] at hlp
      have r0 : ∀ j, ¬ (12 * w < j ∧ j ≤ 12 * w + l) → vx_ud M2 w l 0 168 j = M2 168 j := fun j hj => by unfold vx_ud; rw [if_neg (by omega)]
      have r1 : ∀ a, a ≠ 168 → vx_ud M2 w l 0 a = M2 a := fun a ha => by funext j; unfold vx_ud; rw [if_neg (by omega)]
      have r3 : xv_u2 (xv_u2 (vx_ud M2 w l 0) 168 (12 * w) 50) 168 (120 + w) (nI (l + 1)) 167 43 = nI sp := by rw [xu_ne (by omega), xu_ne (by omega), r1 167 (by omega), gM2 167 (by omega) (by omega) (by omega)]; exact hsp
      refine ⟨xv_u2 (xv_u2 (xv_u2 (vx_ud M2 w l 0) 168 (12 * w) 50) 168 (120 + w) (nI (l + 1))) 167 43 (nI (sp + 1)), ?_, ?_, ⟨?_, ?_, ?_⟩, ?_, ?_, ?_⟩
      · rw [xe_Mo_maySprout]
        simp only [xr_all, xf_all, if_true, if_false, true_or, or_true, eq_self, ite_not, Bool.false_eq_true, ite_self, and_self, true_and, and_true, false_and, and_false, not_true_eq_false, not_false_eq_true, xj_Mo_maySprout, xb_Mo_maySprout_0, xb_Mo_maySprout_96, xb_Mo_maySprout_97, xb_Mo_maySprout_130, n1, b1, cc1, hl, n2, b2, cc2, hh, hy, i302, c302, ht, hfe, i303, c303, k1, hdr, z65, k2, z10, hrem, c2, q1, q2]
        rw [hlp]
        conv => lhs; unfold xb_Mo_maySprout_99
        have e1 : (nI 0 ≤ 0) = True := eq_true (by decide)
        simp only [xr_all, xf_all, if_true, if_false, true_or, or_true, eq_self, ite_not, Bool.false_eq_true, ite_self, and_self, true_and, and_true, false_and, and_false, not_true_eq_false, not_false_eq_true, xj_Mo_maySprout, xb_Mo_maySprout_0, xb_Mo_maySprout_96, xb_Mo_maySprout_97, xb_Mo_maySprout_130, e1, e12, b12, c12, n1, b1, cc1, nI_1, r3]
      · rw [xu_ne (by omega), xu_ne2 (by omega), xu_ne2 (by omega), r0 303 (by omega)]; exact g303
      · rw [xu_ne (by omega), xu_eq]
      · rw [xu_eq]
      · intro j hj
        rw [xu_ne (by omega), xu_ne2 (by omega)]
        by_cases c : j = 0
        · rw [if_pos c, c, Nat.add_zero, xu_eq]; rfl
        · rw [if_neg c, xu_ne2 (by omega)]
          unfold vx_ud
          rw [if_pos ⟨rfl, by omega, by omega⟩, show 12 * w + j - 1 = 12 * w + (j - 1) by omega, g168 _ (by omega)]
          exact hsM (j - 1) (by omega)
      · intro j j1 j2 j3
        rw [xu_ne (by omega), xu_ne2 (by omega), xu_ne2 (by omega), r0 j (by omega)]; exact g168 j j1
      · intro k hk
        rw [xu_ne2 (by omega), xu_ne (by omega), xu_ne (by omega), r1 167 (by omega), gM2 167 (by omega) (by omega) (by omega)]
      · intro a y1 y2 y3 y4
        rw [xu_ne y1, xu_ne y2, xu_ne y2, r1 a y2, gM2 a y2 y3 y4]
    · have hc : (vx_n lot % 10 < bb ∧ l < 12) = False := eq_false (fun q => d2 q.2)
      simp only [hc, if_false]
      have q2 : (nI l = 12) = True := by (simp (disch := omega) only [vz_all, if_true, if_false, true_or, or_true, eq_self, ite_not, Bool.false_eq_true, ite_self, and_self, true_and, and_true, false_and, and_false, not_true_eq_false, not_false_eq_true, false_or, or_false])
      refine ⟨M2, ?_, g303, ⟨?_, ?_, ?_⟩, fun j j1 j2 j3 => g168 j j1, fun k hk => by rw [gM2 167 (by omega) (by omega) (by omega)], fun a y1 y2 y3 y4 => gM2 a y2 y3 y4⟩
      · rw [xe_Mo_maySprout]
        simp only [xr_all, xf_all, if_true, if_false, true_or, or_true, eq_self, ite_not, Bool.false_eq_true, ite_self, and_self, true_and, and_true, false_and, and_false, not_true_eq_false, not_false_eq_true, xj_Mo_maySprout, xb_Mo_maySprout_0, xb_Mo_maySprout_96, xb_Mo_maySprout_97, xb_Mo_maySprout_130, n1, b1, cc1, hl, n2, b2, cc2, hh, hy, i302, c302, ht, hfe, i303, c303, k1, hdr, z65, k2, z10, hrem, c2, q1, q2]
      · rw [g168 _ (by omega)]; exact hl
      · rw [gM2 167 (by omega) (by omega) (by omega)]; exact hsp
      · intro j hj
        rw [g168 _ (by omega)]; exact hsM j hj
  · have hc : (vx_n lot % 10 < bb ∧ l < 12) = False := eq_false (fun q => d1 q.1)
    simp only [hc, if_false]
    have q1 : (nI bb ≤ nI (vx_n lot % 10)) = True := by (simp (disch := omega) only [vz_all, if_true, if_false, true_or, or_true, eq_self, ite_not, Bool.false_eq_true, ite_self, and_self, true_and, and_true, false_and, and_false, not_true_eq_false, not_false_eq_true, false_or, or_false])
    refine ⟨M2, ?_, g303, ⟨?_, ?_, ?_⟩, fun j j1 j2 j3 => g168 j j1, fun k hk => by rw [gM2 167 (by omega) (by omega) (by omega)], fun a y1 y2 y3 y4 => gM2 a y2 y3 y4⟩
    · rw [xe_Mo_maySprout]
      simp only [xr_all, xf_all, if_true, if_false, true_or, or_true, eq_self, ite_not, Bool.false_eq_true, ite_self, and_self, true_and, and_true, false_and, and_false, not_true_eq_false, not_false_eq_true, xj_Mo_maySprout, xb_Mo_maySprout_0, xb_Mo_maySprout_96, xb_Mo_maySprout_97, xb_Mo_maySprout_130, n1, b1, cc1, hl, n2, b2, cc2, hh, hy, i302, c302, ht, hfe, i303, c303, k1, hdr, z65, k2, z10, hrem, c2, q1]
    · rw [g168 _ (by omega)]; exact hl
    · rw [gM2 167 (by omega) (by omega) (by omega)]; exact hsp
    · intro j hj
      rw [g168 _ (by omega)]; exact hsM j hj
def vx_fr (M M1 : Nat → Nat → Int32) : Prop := (∀ j, 140 ≤ j → j < 302 → M1 168 j = M 168 j) ∧ (∀ k, k ≠ 43 → k ≠ 44 → M1 167 k = M 167 k) ∧ ∀ a, a ≠ 167 → a ≠ 168 → a ≠ 185 → a ≠ 186 → M1 a = M a
theorem vx_frt {M M1 M2 : Nat → Nat → Int32} (h1 : vx_fr M M1) (h2 : vx_fr M1 M2) : vx_fr M M2 :=
  ⟨fun j q1 q2 => (h2.1 j q1 q2).trans (h1.1 j q1 q2), fun k q1 q2 => (h2.2.1 k q1 q2).trans (h1.2.1 k q1 q2), fun a q1 q2 q3 q4 => (h2.2.2 a q1 q2 q3 q4).trans (h1.2.2 a q1 q2 q3 q4)⟩
theorem xq_weekw (ro : xv_Ro) (d : Nat) (z : Nat × Nat) (M : Nat → Nat → Int32) (J : Nat → Nat → Int64) {I : Nat → Nat → Int32} {fn : Nat → (Nat → Int32) → Nat} (hf : vl_fn I fn) (h16 : M 167 16 = I 167 16) (h180 : ∀ a, 180 ≤ a → a < 185 → M a = I a) {m t w : Nat} {hh : Nat → Nat} {T : vx_T} (hm : m < 1024) (hw : w < 10) (hR : vx_M M m hh t T) (hW : vx_W hh T) : ∃ M1 : Nat → Nat → Int32, xv_ev ro (d + 5) xm_Mo_weekGoes xb_Mo_weekGoes_2 [some (.ref 167), some (.int (nI w))] [] (z, xv_mk M J) = xv_ev ro (d + 5) xm_Mo_weekGoes xb_Mo_weekGoes_2 [some (.ref 167), some (.int (nI (w + 1)))] [] (z, xv_mk M1 J) ∧ vx_M M1 m hh t (vx_1 fn m hh t w T) ∧ vx_fr M M1 := by
  obtain ⟨r1, r2, r3, r4, r0, r5⟩ := hR
  obtain ⟨b1, b3, b4⟩ := r5 w hw
  obtain ⟨hn, hW2⟩ := hW
  obtain ⟨v1, v2, v3⟩ := hW2 w hw
  have n1 : 120 + nI w = nI (120 + w) := by (simp (disch := omega) only [vz_all, if_true, if_false, true_or, or_true, eq_self, ite_not, Bool.false_eq_true, ite_self, and_self, true_and, and_true, false_and, and_false, not_true_eq_false, not_false_eq_true, false_or, or_false])
  have i1 : xv_inB (nI (120 + w)) 304 = true := by (simp (disch := omega) only [vz_all, if_true, if_false, true_or, or_true, eq_self, ite_not, Bool.false_eq_true, ite_self, and_self, true_and, and_true, false_and, and_false, not_true_eq_false, not_false_eq_true, false_or, or_false])
  have cc1 := nI_clamp (show 120 + w < 2 ^ 31 by omega)
  have g10 : (10 ≤ nI w) = False := by (simp (disch := omega) only [vz_all, if_true, if_false, true_or, or_true, eq_self, ite_not, Bool.false_eq_true, ite_self, and_self, true_and, and_true, false_and, and_false, not_true_eq_false, not_false_eq_true, false_or, or_false])
  have hw' := xq_Mo_isWitness ro (d + 3) z M J r0 hm hw
  by_cases ht : m.testBit w = true
  rotate_left
  · rw [vz_b0 ht] at hw'
    refine ⟨M, ?_, ?_, fun _ _ _ => rfl, fun _ _ _ => rfl, fun _ _ _ _ _ => rfl⟩
    · conv => lhs; unfold xb_Mo_weekGoes_2
      simp only [xr_all, xf_all, if_true, if_false, true_or, or_true, eq_self, ite_not, Bool.false_eq_true, ite_self, and_self, true_and, and_true, false_and, and_false, not_true_eq_false, not_false_eq_true, xj_Mo_weekGoes, xb_Mo_weekGoes_0, xb_Mo_weekGoes_31, xb_Mo_weekGoes_53, xb_Mo_weekGoes_59, g10, hw', nI_1]
    · unfold vx_1
      rw [if_neg ht]
      exact ⟨r1, r2, r3, r4, r0, r5⟩
  · rw [vz_b1 ht] at hw'
    have z1 : ((1 : Int32) = 0) = False := eq_false (by decide)
    have hrl : vx_a fn w (hh w) t (T.2.2.2.1 w) (T.2.2.2.2 w) (T.2.2.2.1 w) = vx_p fn hh t w T := rfl
    have hwf := vx_wf fn w (hh w) t (T.2.2.2.1 w) v3 (T.2.2.2.1 w)
    rw [hrl] at hwf
    have e1 : vx_1 fn m hh t w T = (if (vx_p fn hh t w T).1 = 0 then (T.1, T.2.1, T.2.2.1 + T.2.2.2.1 w, vx_q T.2.2.2.1 w 0, vx_q T.2.2.2.2 w (vx_p fn hh t w T).2)
      else if vx_n T.1 % 10 < fn 98 (vx_F w (hh w) t ((vx_p fn hh t w T).2 0) (vx_p fn hh t w T).1) ∧ (vx_p fn hh t w T).1 < 12 then
        (vx_n T.1, T.2.1 + 1, T.2.2.1 + (T.2.2.2.1 w - (vx_p fn hh t w T).1), vx_q T.2.2.2.1 w ((vx_p fn hh t w T).1 + 1), vx_q T.2.2.2.2 w (fun j => if j = 0 then 50 else (vx_p fn hh t w T).2 (j - 1)))
      else (vx_n T.1, T.2.1, T.2.2.1 + (T.2.2.2.1 w - (vx_p fn hh t w T).1), vx_q T.2.2.2.1 w (vx_p fn hh t w T).1, vx_q T.2.2.2.2 w (vx_p fn hh t w T).2)) := by unfold vx_1; rw [if_pos ht]
    rw [e1]
    clear e1
    have fin : ∀ (D : Nat → Nat → Int32) (lot sp gn l2 : Nat) (s2 : Nat → Nat), (∀ j, j ≠ 303 → j ≠ 120 + w → ¬ (12 * w ≤ j ∧ j < 12 * w + 12) → D 168 j = M 168 j) → D 168 303 = nI lot → D 167 43 = nI sp → D 167 44 = nI gn → D 168 (120 + w) = nI l2 → (∀ j, j < l2 → D 168 (12 * w + j) = nI (s2 j)) → vx_M D m hh t (lot, sp, gn, vx_q T.2.2.2.1 w l2, vx_q T.2.2.2.2 w s2) := by
      intro D lot sp gn l2 s2 d1 d2 d3 d4 d5 d6
      refine ⟨by rw [d1 302 (by omega) (by omega) (by omega)]; exact r1, d2, d3, d4, by rw [d1 300 (by omega) (by omega) (by omega)]; exact r0, fun v hv => ?_⟩
      dsimp only
      unfold vx_q
      by_cases c : v = w
      · rw [c, if_pos rfl, if_pos rfl, d1 (130 + w) (by omega) (by omega) (by omega)]
        exact ⟨b1, d5, d6⟩
      · obtain ⟨y1, y2, y3⟩ := r5 v hv
        obtain ⟨-, y4, -⟩ := hW2 v hv
        rw [if_neg c, if_neg c, d1 (130 + v) (by omega) (by omega) (by omega), d1 (120 + v) (by omega) (by omega) (by omega)]
        exact ⟨y1, y2, fun j hj => by rw [d1 (12 * v + j) (by omega) (by omega) (by omega)]; exact y3 j hj⟩
    by_cases hl0 : T.2.2.2.1 w = 0
    · have q0 : (nI (T.2.2.2.1 w) = 0) = True := eq_true (by rw [hl0]; rfl)
      have hp0 : (vx_p fn hh t w T).1 = 0 := by have := hwf.1; omega
      rw [if_pos hp0]
      refine ⟨M, ?_, fin M T.1 T.2.1 (T.2.2.1 + T.2.2.2.1 w) 0 _ (fun _ _ _ _ => rfl) r2 r3 (by rw [hl0, Nat.add_zero]; exact r4) (by rw [b3, hl0]) (fun j hj => by omega), fun _ _ _ => rfl, fun _ _ _ => rfl, fun _ _ _ _ _ => rfl⟩
      conv => lhs; unfold xb_Mo_weekGoes_2
      simp only [xr_all, xf_all, if_true, if_false, true_or, or_true, eq_self, ite_not, Bool.false_eq_true, ite_self, and_self, true_and, and_true, false_and, and_false, not_true_eq_false, not_false_eq_true, xj_Mo_weekGoes, xb_Mo_weekGoes_0, xb_Mo_weekGoes_31, xb_Mo_weekGoes_53, xb_Mo_weekGoes_59, g10, hw', z1, n1, i1, cc1, b3, q0, nI_1]
    · have q0 : (nI (T.2.2.2.1 w) = 0) = False := eq_false (fun q => hl0 ((nI_eq (b := 0) (by omega) (by omega)).mp q))
      obtain ⟨M1, c1, c2, c3, c4, c5, c6, c7⟩ := xq_grows ro d z M J hf h16 h180 hw b3 v2 v3 b4 b1 r1 r4
      rw [hrl] at c2 c3 c4
      by_cases hp0 : (vx_p fn hh t w T).1 = 0
      · rw [if_pos hp0]
        have q1 : (nI (vx_p fn hh t w T).1 ≤ 0) = True := eq_true (by rw [hp0]; decide)
        refine ⟨M1, ?_, fin M1 T.1 T.2.1 (T.2.2.1 + T.2.2.2.1 w) 0 _ (fun j j1 j2 j3 => c5 j j2 j3) (by rw [c5 303 (by omega) (by omega)]; exact r2) (by rw [c6 43 (by omega)]; exact r3) (by rw [c4, hp0, Nat.sub_zero]) (by rw [c2, hp0]) (fun j hj => by omega), fun j j1 j2 => c5 j (by omega) (by omega), fun k k1 k2 => c6 k k2, c7⟩
        conv => lhs; unfold xb_Mo_weekGoes_2
        simp only [xr_all, xf_all, if_true, if_false, true_or, or_true, eq_self, ite_not, Bool.false_eq_true, ite_self, and_self, true_and, and_true, false_and, and_false, not_true_eq_false, not_false_eq_true, xj_Mo_weekGoes, xb_Mo_weekGoes_0, xb_Mo_weekGoes_31, xb_Mo_weekGoes_53, xb_Mo_weekGoes_59, g10, hw', z1, n1, i1, cc1, b3, q0, c1, c2, q1, nI_1]
      · rw [if_neg hp0]
        have hle := hwf.1
        have q1 : (nI (vx_p fn hh t w T).1 ≤ 0) = False := by
          rw [show (0 : Int32) = nI 0 from rfl]
          (simp (disch := omega) only [vz_all, if_true, if_false, true_or, or_true, eq_self, ite_not, Bool.false_eq_true, ite_self, and_self, true_and, and_true, false_and, and_false, not_true_eq_false, not_false_eq_true, false_or, or_false])
        obtain ⟨M2, d1, d2, d3, d4, d5, d6⟩ := xq_maySprout ro d z M1 J hf (by rw [c6 16 (by omega)]; exact h16) (fun a q1 q2 => by rw [c7 a (by omega) (by omega) (by omega) (by omega)]; exact h180 a q1 q2) (w := w) (l := (vx_p fn hh t w T).1) (h := hh w) (t := t) (lot := T.1) (sp := T.2.1) (s := (vx_p fn hh t w T).2) hw c2 (by omega) (by omega) (fun j hj => c3 j (by omega)) (by rw [c5 _ (by omega) (by omega)]; exact b1) (by rw [c5 _ (by omega) (by omega)]; exact r1) (by rw [c5 _ (by omega) (by omega)]; exact r2) hn (by rw [c6 43 (by omega)]; exact r3)
        have ev : xv_ev ro (d + 5) xm_Mo_weekGoes xb_Mo_weekGoes_2 [some (.ref 167), some (.int (nI w))] [] (z, xv_mk M J) = xv_ev ro (d + 5) xm_Mo_weekGoes xb_Mo_weekGoes_2 [some (.ref 167), some (.int (nI (w + 1)))] [] (z, xv_mk M2 J) := by
          conv => lhs; unfold xb_Mo_weekGoes_2
          simp only [xr_all, xf_all, if_true, if_false, true_or, or_true, eq_self, ite_not, Bool.false_eq_true, ite_self, and_self, true_and, and_true, false_and, and_false, not_true_eq_false, not_false_eq_true, xj_Mo_weekGoes, xb_Mo_weekGoes_0, xb_Mo_weekGoes_31, xb_Mo_weekGoes_53, xb_Mo_weekGoes_59, g10, hw', z1, n1, i1, cc1, b3, q0, c1, c2, q1, d1, nI_1]
        have fr : vx_fr M M2 := ⟨fun j j1 j2 => by rw [d4 j (by omega) (by omega) (by omega)]; exact c5 j (by omega) (by omega), fun k k1 k2 => by rw [d5 k k1]; exact c6 k k2, fun a y1 y2 y3 y4 => by rw [d6 a y1 y2 y3 y4]; exact c7 a y1 y2 y3 y4⟩
        have d168 : ∀ j, j ≠ 303 → j ≠ 120 + w → ¬ (12 * w ≤ j ∧ j < 12 * w + 12) → M2 168 j = M 168 j := fun j j1 j2 j3 => by rw [d4 j j1 j2 j3]; exact c5 j j2 j3
        have g44 : M2 167 44 = nI (T.2.2.1 + (T.2.2.2.1 w - (vx_p fn hh t w T).1)) := by rw [d5 44 (by omega)]; exact c4
        by_cases k1 : vx_n T.1 % 10 < fn 98 (vx_F w (hh w) t ((vx_p fn hh t w T).2 0) (vx_p fn hh t w T).1) ∧ (vx_p fn hh t w T).1 < 12
        · rw [if_pos k1] at d3 ⊢
          obtain ⟨x1, x2, x3⟩ := d3
          exact ⟨M2, ev, fin M2 _ _ _ _ _ d168 d2 x2 g44 x1 x3, fr⟩
        · rw [if_neg k1] at d3 ⊢
          obtain ⟨x1, x2, x3⟩ := d3
          exact ⟨M2, ev, fin M2 _ _ _ _ _ d168 d2 x2 g44 x1 x3, fr⟩
