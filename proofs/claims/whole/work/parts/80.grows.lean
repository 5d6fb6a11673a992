/-! weeks in the model -/
def vx_M (M : Nat → Nat → Int32) (m : Nat) (hh : Nat → Nat) (t : Nat) (T : vx_T) : Prop := M 168 302 = nI t ∧ M 168 303 = nI T.1 ∧ M 167 43 = nI T.2.1 ∧ M 167 44 = nI T.2.2.1 ∧ M 168 300 = nI m ∧ ∀ w, w < 10 → M 168 (130 + w) = nI (hh w) ∧ M 168 (120 + w) = nI (T.2.2.2.1 w) ∧ ∀ j, j < T.2.2.2.1 w → M 168 (12 * w + j) = nI (T.2.2.2.2 w j)
def vx_G (M : Nat → Nat → Int32) (w h x l t : Nat) : Nat → Int32 := vg_u (vg_u (vg_u (vg_u (vg_u (vh_z (M 186) 8) 0 (nI w)) 1 (nI h)) 2 (nI x)) 3 (nI l)) 7 (nI t)
theorem vx_GF (M : Nat → Nat → Int32) (w h x l t : Nat) : ∀ f, f < 8 → vx_G M w h x l t f = vx_F w h t x l f := by
  intro f hf
  rcases lt8 hf with rfl | rfl | rfl | rfl | rfl | rfl | rfl | rfl <;> simp [vx_G, vg_u, vh_z, vx_F]
theorem xq_grows (ro : xv_Ro) (d : Nat) (z : Nat × Nat) (M : Nat → Nat → Int32) (J : Nat → Nat → Int64) {I : Nat → Nat → Int32} {fn : Nat → (Nat → Int32) → Nat} (hf : vl_fn I fn) (h16 : M 167 16 = I 167 16) (h180 : ∀ a, 180 ≤ a → a < 185 → M a = I a) {w l h t gn : Nat} {s : Nat → Nat} (hw : w < 10) (hl : M 168 (120 + w) = nI l) (hl2 : l ≤ 12) (hs : ∀ j, j < l → 1 ≤ s j ∧ s j ≤ 99) (hsM : ∀ j, j < l → M 168 (12 * w + j) = nI (s j)) (hh : M 168 (130 + w) = nI h) (ht : M 168 302 = nI t) (hg : M 167 44 = nI gn) : ∃ M1 : Nat → Nat → Int32, xv_evm ro (d + 4) 98 [.ref 167, .int (nI w)] (z, xv_mk M J) = some (none, (z, xv_mk M1 J)) ∧ M1 168 (120 + w) = nI (vx_a fn w h t l s l).1 ∧ (∀ j, j < l → M1 168 (12 * w + j) = nI ((vx_a fn w h t l s l).2 j)) ∧ M1 167 44 = nI (gn + (l - (vx_a fn w h t l s l).1)) ∧ (∀ j, j ≠ 120 + w → ¬ (12 * w ≤ j ∧ j < 12 * w + 12) → M1 168 j = M 168 j) ∧ (∀ k, k ≠ 44 → M1 167 k = M 167 k) ∧ ∀ a, a ≠ 167 → a ≠ 168 → a ≠ 185 → a ≠ 186 → M1 a = M a := by
  have i302 : xv_inB 302 304 = true := by decide
  have c302 : (302 : Int32).toNatClampNeg = 302 := by decide
  have n1 : 120 + nI w = nI (120 + w) := by (simp (disch := omega) only [vz_all, if_true, if_false, true_or, or_true, eq_self, ite_not, Bool.false_eq_true, ite_self, and_self, true_and, and_true, false_and, and_false, not_true_eq_false, not_false_eq_true, false_or, or_false])
  have n2 : 130 + nI w = nI (130 + w) := by (simp (disch := omega) only [vz_all, if_true, if_false, true_or, or_true, eq_self, ite_not, Bool.false_eq_true, ite_self, and_self, true_and, and_true, false_and, and_false, not_true_eq_false, not_false_eq_true, false_or, or_false])
  have b1 : xv_inB (nI (120 + w)) 304 = true := by (simp (disch := omega) only [vz_all, if_true, if_false, true_or, or_true, eq_self, ite_not, Bool.false_eq_true, ite_self, and_self, true_and, and_true, false_and, and_false, not_true_eq_false, not_false_eq_true, false_or, or_false])
  have b2 : xv_inB (nI (130 + w)) 304 = true := by (simp (disch := omega) only [vz_all, if_true, if_false, true_or, or_true, eq_self, ite_not, Bool.false_eq_true, ite_self, and_self, true_and, and_true, false_and, and_false, not_true_eq_false, not_false_eq_true, false_or, or_false])
  have cc1 := nI_clamp (show 120 + w < 2 ^ 31 by omega)
  have cc2 := nI_clamp (show 130 + w < 2 ^ 31 by omega)
  have step : ∀ i, i ≤ l → ∃ (M1 : Nat → Nat → Int32) (u v x : Option Value), xv_evm ro (d + 4) 98 [.ref 167, .int (nI w)] (z, xv_mk M J) = xv_ev ro (d + 4) xm_Mo_grows xb_Mo_grows_15 [some (.ref 167), some (.int (nI w)), some (.int (nI l)), some (.int (nI (vx_a fn w h t l s i).1)), some (.int (nI i)), u, v, x] [] (z, xv_mk M1 J) ∧ (∀ j, j < l → M1 168 (12 * w + j) = nI ((vx_a fn w h t l s i).2 j)) ∧ M1 167 44 = nI (gn + (i - (vx_a fn w h t l s i).1)) ∧ (∀ j, ¬ (12 * w ≤ j ∧ j < 12 * w + 12) → M1 168 j = M 168 j) ∧ (∀ k, k ≠ 44 → M1 167 k = M 167 k) ∧ ∀ a, a ≠ 167 → a ≠ 168 → a ≠ 185 → a ≠ 186 → M1 a = M a := by
    intro i
    induction i with
    | zero =>
      intro _
      refine ⟨M, none, none, none, ?_, hsM, hg, fun _ _ => rfl, fun _ _ => rfl, fun _ _ _ _ _ => rfl⟩
      rw [xe_Mo_grows]
      simp only [xr_all, xf_all, if_true, if_false, true_or, or_true, eq_self, ite_not, Bool.false_eq_true, ite_self, and_self, true_and, and_true, false_and, and_false, not_true_eq_false, not_false_eq_true, xj_Mo_grows, xb_Mo_grows_0, xb_Mo_grows_114, xb_Mo_grows_133, xb_Mo_grows_139, n1, b1, cc1, hl]
      rfl
    | succ i ih =>
      intro hi
      obtain ⟨M1, u, v0, x0, a2, a3, a4, a5, a6, a7⟩ := ih (by omega)
      obtain ⟨w1, w2⟩ := vx_wf fn w h t l hs i
      have hv : vx_t fn w h t l ((vx_a fn w h t l s i).2 i) = min 99 ((vx_a fn w h t l s i).2 i + fn 103 (vx_F w h t ((vx_a fn w h t l s i).2 i) l) - fn 121 (vx_F w h t ((vx_a fn w h t l s i).2 i) l)) := rfl
      have hsuc := vx_as fn w h t l s i
      have f1 := hf.1 103 (vx_F w h t ((vx_a fn w h t l s i).2 i) l)
      have f2 := hf.1 121 (vx_F w h t ((vx_a fn w h t l s i).2 i) l)
      rw [show vl_hi 103 = 20 from rfl] at f1
      rw [show vl_hi 121 = 20 from rfl] at f2
      have hx := w2 i (by omega)
      have hMi := a3 i (by omega)
      have hfe := xq_feels ro (d + 3) z M1 J (nI w) (nI h) (nI ((vx_a fn w h t l s i).2 i)) (nI l) (nI t)
      rw [show vg_u (vg_u (vg_u (vg_u (vg_u (vh_z (M1 186) 8) 0 (nI w)) 1 (nI h)) 2 (nI ((vx_a fn w h t l s i).2 i))) 3 (nI l)) 7 (nI t) = vx_G M1 w h ((vx_a fn w h t l s i).2 i) l t from rfl] at hfe
      obtain ⟨M2, c1, c2⟩ := vl_fn_h hf ro d z M1 (vx_G M1 w h ((vx_a fn w h t l s i).2 i) l t) J 103 (Or.inr (Or.inr (Or.inl rfl))) (by rw [a6 16 (by omega)]; exact h16) (fun a q1 q2 => by rw [a7 a (by omega) (by omega) (by omega) (by omega)]; exact h180 a q1 q2)
      have g186 : M2 186 = vx_G M1 w h ((vx_a fn w h t l s i).2 i) l t := by rw [c1 186 (by omega), vh_Ki]
      have gM2 : ∀ a, a ≠ 185 → a ≠ 186 → M2 a = M1 a := fun a q1 q2 => by rw [c1 a q1, vh_Ko M1 _ q2]
      obtain ⟨M3, c3, c4⟩ := hf.2.2.2 ro d z M2 J 121 (Or.inr (Or.inr (Or.inr (Or.inl rfl)))) (by rw [gM2 167 (by omega) (by omega), a6 16 (by omega)]; exact h16) (fun a q1 q2 => by rw [gM2 a (by omega) (by omega), a7 a (by omega) (by omega) (by omega) (by omega)]; exact h180 a q1 q2)
      have gM3 : ∀ a, a ≠ 185 → a ≠ 186 → M3 a = M1 a := fun a q1 q2 => by rw [c3 a q1, gM2 a q1 q2]
      rw [hf.2.1 103 _ _ (vx_GF M1 w h ((vx_a fn w h t l s i).2 i) l t)] at c2
      rw [g186, hf.2.1 121 _ _ (vx_GF M1 w h ((vx_a fn w h t l s i).2 i) l t)] at c4
      rw [show nI 103 = (103 : Int32) from rfl, show nI (vl_hi 103) = (20 : Int32) from rfl] at c2
      rw [show nI 121 = (121 : Int32) from rfl, show nI (vl_hi 121) = (20 : Int32) from rfl] at c4
      rw [a2]
      have rM := vx_rM (x := (vx_a fn w h t l s i).2 i) (by omega) f1 f2
      rw [← hv] at rM
      generalize vx_t fn w h t l ((vx_a fn w h t l s i).2 i) = v at *
      generalize fn 103 (vx_F w h t ((vx_a fn w h t l s i).2 i) l) = gg at *
      generalize fn 121 (vx_F w h t ((vx_a fn w h t l s i).2 i) l) = yy at *
      generalize vx_a fn w h t l s i = pp at *
      have h1 : (nI l ≤ nI i) = False := by (simp (disch := omega) only [vz_all, if_true, if_false, true_or, or_true, eq_self, ite_not, Bool.false_eq_true, ite_self, and_self, true_and, and_true, false_and, and_false, not_true_eq_false, not_false_eq_true, false_or, or_false])
      have m130 : M1 168 (130 + w) = nI h := by rw [a5 _ (by omega)]; exact hh
      have m302 : M1 168 302 = nI t := by rw [a5 _ (by omega)]; exact ht
      have hy1 := xq_Mo_layerOf ro (d + 3) z M1 J (w := w) (i := i) (by omega)
      rw [hMi] at hy1
      have hy3 := xq_Mo_layerOf ro (d + 3) z M3 J (w := w) (i := i) (by omega)
      rw [gM3 168 (by omega) (by omega), hMi] at hy3
      have hv99 : v ≤ 99 := by rw [hv]; exact Nat.min_le_left _ _
      have e12 : 0 + 12 * nI w + nI pp.1 = nI (12 * w + pp.1) := by rw [show (0 : Int32) = nI 0 from rfl, show (12 : Int32) = nI 12 from rfl, pk_mul, nI_add, nI_add, Nat.zero_add]
      have b12 : xv_inB (nI (12 * w + pp.1)) 304 = true := by (simp (disch := omega) only [vz_all, if_true, if_false, true_or, or_true, eq_self, ite_not, Bool.false_eq_true, ite_self, and_self, true_and, and_true, false_and, and_false, not_true_eq_false, not_false_eq_true, false_or, or_false])
      have c12 := nI_clamp (show 12 * w + pp.1 < 2 ^ 31 by omega)
      have g44 : M3 167 44 = nI (gn + (i - pp.1)) := by rw [gM3 167 (by omega) (by omega)]; exact a4
      by_cases c : v = 0
      · rw [if_pos c] at hsuc
        have q0 : (nI v = 0) = True := eq_true (by rw [c]; rfl)
        refine ⟨xv_u2 M3 167 44 (nI (gn + (i + 1 - pp.1))), some (.int (nI gg)), some (.int (nI yy)), some (.int (nI v)), ?_, ?_, ?_, ?_, ?_, ?_⟩
        · rw [hsuc]
          have e44 : nI (gn + (i - pp.1)) + 1 = nI (gn + (i + 1 - pp.1)) := by rw [nI_1, show gn + (i - pp.1) + 1 = gn + (i + 1 - pp.1) by omega]
          conv => lhs; unfold xb_Mo_grows_15
          simp only [xr_all, xf_all, if_true, if_false, true_or, or_true, eq_self, ite_not, Bool.false_eq_true, ite_self, and_self, true_and, and_true, false_and, and_false, not_true_eq_false, not_false_eq_true, xj_Mo_grows, xb_Mo_grows_0, xb_Mo_grows_114, xb_Mo_grows_133, xb_Mo_grows_139, h1, n2, b2, cc2, m130, hy1, i302, c302, m302, hfe, c2, c4, hy3, xq_Mo_min, xq_Mo_max, rM, q0, g44, e44, nI_1]
        · intro j hj
          rw [hsuc, xu_ne (by omega), gM3 168 (by omega) (by omega)]; exact a3 j hj
        · rw [xu_eq, hsuc]
        · intro j hj
          rw [xu_ne (by omega), gM3 168 (by omega) (by omega)]; exact a5 j hj
        · intro k hk
          rw [xu_ne2 (by omega), gM3 167 (by omega) (by omega)]; exact a6 k hk
        · intro a q1 q2 q3 q4
          rw [xu_ne q1, gM3 a q3 q4]; exact a7 a q1 q2 q3 q4
      · rw [if_neg c] at hsuc
        have q0 : (nI v = 0) = False := eq_false (fun q => c ((nI_eq (b := 0) (by omega) (by omega)).mp q))
        refine ⟨xv_u2 M3 168 (12 * w + pp.1) (nI v), some (.int (nI gg)), some (.int (nI yy)), some (.int (nI v)), ?_, ?_, ?_, ?_, ?_, ?_⟩
        · rw [hsuc]
          conv => lhs; unfold xb_Mo_grows_15
          simp only [xr_all, xf_all, if_true, if_false, true_or, or_true, eq_self, ite_not, Bool.false_eq_true, ite_self, and_self, true_and, and_true, false_and, and_false, not_true_eq_false, not_false_eq_true, xj_Mo_grows, xb_Mo_grows_0, xb_Mo_grows_114, xb_Mo_grows_133, xb_Mo_grows_139, h1, n2, b2, cc2, m130, hy1, i302, c302, m302, hfe, c2, c4, hy3, xq_Mo_min, xq_Mo_max, rM, q0, e12, b12, c12, nI_1]
        · intro j hj
          rw [hsuc]
          dsimp only
          by_cases c5 : j = pp.1
          · rw [if_pos c5, c5, xu_eq]
          · rw [if_neg c5, xu_ne2 (by omega), gM3 168 (by omega) (by omega)]; exact a3 j hj
        · rw [xu_ne (by omega), g44, hsuc]
          dsimp only
          rw [show i - pp.1 = i + 1 - (pp.1 + 1) by omega]
        · intro j hj
          rw [xu_ne2 (by omega), gM3 168 (by omega) (by omega)]; exact a5 j hj
        · intro k hk
          rw [xu_ne (by omega), gM3 167 (by omega) (by omega)]; exact a6 k hk
        · intro a q1 q2 q3 q4
          rw [xu_ne q2, gM3 a q3 q4]; exact a7 a q1 q2 q3 q4
  obtain ⟨M1, u, v, x, a2, a3, a4, a5, a6, a7⟩ := step l (Nat.le_refl l)
  obtain ⟨w1, w2⟩ := vx_wf fn w h t l hs l
  refine ⟨xv_u2 M1 168 (120 + w) (nI (vx_a fn w h t l s l).1), ?_, ?_, ?_, ?_, ?_, ?_, ?_⟩
  · rw [a2]
    generalize vx_a fn w h t l s l = pp at *
    have h1 : (nI l ≤ nI l) = True := by (simp (disch := omega) only [vz_all, if_true, if_false, true_or, or_true, eq_self, ite_not, Bool.false_eq_true, ite_self, and_self, true_and, and_true, false_and, and_false, not_true_eq_false, not_false_eq_true, false_or, or_false])
    conv => lhs; unfold xb_Mo_grows_15
    simp only [xr_all, xf_all, if_true, if_false, true_or, or_true, eq_self, ite_not, Bool.false_eq_true, ite_self, and_self, true_and, and_true, false_and, and_false, not_true_eq_false, not_false_eq_true, xj_Mo_grows, xb_Mo_grows_0, xb_Mo_grows_114, xb_Mo_grows_133, xb_Mo_grows_139, h1, n1, b1, cc1]
  · rw [xu_eq]
  · intro j hj
    rw [xu_ne2 (by omega)]; exact a3 j hj
  · rw [xu_ne (by omega)]; exact a4
  · intro j q1 q2
    rw [xu_ne2 (by omega)]; exact a5 j q2
  · intro k hk
    rw [xu_ne (by omega)]; exact a6 k hk
  · intro a q1 q2 q3 q4
    rw [xu_ne q2]; exact a7 a q1 q2 q3 q4
