/-! PAIR: skins (the pair) -/
theorem xq_laysBoxes (ro : xv_Ro) (d : Nat) (z : Nat × Nat) (M : Nat → Nat → Int32) (J : Nat → Nat → Int64) {w : Nat → Nat} {R B n : Nat} (hn : n ≤ 10) (hB1 : 1 ≤ B) (hB : B ≤ 10) (hR : R ≤ 255) (hw : ∀ i, i < n → w i ≤ 99) (h5 : ∀ j, j < n → M 173 j &&& 255 = nI (w j)) : ∃ M1 : Nat → Nat → Int32, (∀ a, a ≠ 195 → a ≠ 196 → M1 a = M a) ∧ ((∃ r, bz_p w R B n 0 0 (fun _ => 0) (fun _ => 0) = some r ∧ xv_evm ro (d + 2) 133 [.ref 167, .int (nI n), .int (nI B), .int (nI R)] (z, xv_mk M J) = some (some (.int 1), (z, xv_mk M1 J)) ∧ ∀ j, j < n → M1 195 j = nI (r j)) ∨ (bz_p w R B n 0 0 (fun _ => 0) (fun _ => 0) = none ∧ xv_evm ro (d + 2) 133 [.ref 167, .int (nI n), .int (nI B), .int (nI R)] (z, xv_mk M J) = some (some (.int 0), (z, xv_mk M1 J)))) := by
  have hl := vz_iter (fun i => xv_ev ro (d + 2) xm_Mo_laysBoxes xb_Mo_laysBoxes_3 [some (.ref 167), some (.int (nI n)), some (.int (nI B)), some (.int (nI R)), some (.int (nI i)), none, none, none] [] (z, xv_mk (vz_w M 196 (fun _ => 0) i) J)) (B + 1) (fun i hi => by
    have q1 : (nI B < nI i) = False := by (simp (disch := omega) only [vz_all, if_true, if_false, true_or, or_true, eq_self, ite_not, Bool.false_eq_true, ite_self, and_self, true_and, and_true, false_and, and_false, not_true_eq_false, not_false_eq_true, false_or, or_false])
    have q2 : xv_inB (nI i) 11 = true := by (simp (disch := omega) only [vz_all, if_true, if_false, true_or, or_true, eq_self, ite_not, Bool.false_eq_true, ite_self, and_self, true_and, and_true, false_and, and_false, not_true_eq_false, not_false_eq_true, false_or, or_false])
    have e := vz_ws M 196 (fun _ => 0) i
    conv => lhs; unfold xb_Mo_laysBoxes_3
    simp only [xr_all, xf_all, if_true, if_false, true_or, or_true, eq_self, ite_not, Bool.false_eq_true, ite_self, and_self, true_and, and_true, false_and, and_false, not_true_eq_false, not_false_eq_true, xj_Mo_laysBoxes, xb_Mo_laysBoxes_0, xb_Mo_laysBoxes_23, xb_Mo_laysBoxes_87, xb_Mo_laysBoxes_143, xb_Mo_laysBoxes_194, q1, q2, nI_clamp (show i < 2 ^ 31 by omega), e, nI_1])
  rw [vz_w0, show nI 0 = (0 : Int32) from rfl] at hl
  obtain ⟨M1, w1, -, w3⟩ := xl_lays ro d z J (w := w) (B := B) (n := n) hn hB1 hB hR hw n 0 (fun _ => 0) (fun _ => 0) (vz_w M 196 (fun _ => 0) (B + 1)) none none (by omega) (fun _ => Nat.zero_le _) (fun j hj => by omega) (Nat.le_refl 0) (fun j hj => by rw [vz_wo M _ _ (by omega)]; exact h5 j hj) (fun b hb => vz_wi M 196 (fun _ => 0) (by omega)) (fun j hj => by omega)
  have q1 : (nI B < nI (B + 1)) = True := by (simp (disch := omega) only [vz_all, if_true, if_false, true_or, or_true, eq_self, ite_not, Bool.false_eq_true, ite_self, and_self, true_and, and_true, false_and, and_false, not_true_eq_false, not_false_eq_true, false_or, or_false])
  have ev : xv_evm ro (d + 2) 133 [.ref 167, .int (nI n), .int (nI B), .int (nI R)] (z, xv_mk M J) = xv_ev ro (d + 2) xm_Mo_laysBoxes xb_Mo_laysBoxes_29 [some (.ref 167), some (.int (nI n)), some (.int (nI B)), some (.int (nI R)), some (.int (nI 0)), some (.int 0), none, none] [] (z, xv_mk (vz_w M 196 (fun _ => 0) (B + 1)) J) := by
    rw [xe_Mo_laysBoxes, show nI 0 = (0 : Int32) from rfl]
    simp only [xr_all, xf_all, if_true, if_false, true_or, or_true, eq_self, ite_not, Bool.false_eq_true, ite_self, and_self, true_and, and_true, false_and, and_false, not_true_eq_false, not_false_eq_true, xj_Mo_laysBoxes, xb_Mo_laysBoxes_0, xb_Mo_laysBoxes_23, xb_Mo_laysBoxes_87, xb_Mo_laysBoxes_143, xb_Mo_laysBoxes_194]
    rw [hl]
    conv => lhs; unfold xb_Mo_laysBoxes_3
    simp only [xr_all, xf_all, if_true, if_false, true_or, or_true, eq_self, ite_not, Bool.false_eq_true, ite_self, and_self, true_and, and_true, false_and, and_false, not_true_eq_false, not_false_eq_true, xj_Mo_laysBoxes, xb_Mo_laysBoxes_0, xb_Mo_laysBoxes_23, xb_Mo_laysBoxes_87, xb_Mo_laysBoxes_143, xb_Mo_laysBoxes_194, q1]
  refine ⟨M1, fun a q1 q2 => by rw [w1 a q1 q2, vz_wo M _ _ q2], ?_⟩
  rw [ev]
  rcases w3 with ⟨r, r1, r2, r3⟩ | ⟨r1, ⟨u, v, y, r2⟩, -⟩
  · exact Or.inl ⟨r, r1, r2, r3⟩
  · right
    refine ⟨r1, ?_⟩
    rw [r2, show nI 0 = (0 : Int32) from rfl]
    conv => lhs; unfold xb_Mo_laysBoxes_136
    simp only [xr_all, xf_all, if_true, if_false, true_or, or_true, eq_self, ite_not, Bool.false_eq_true, ite_self, and_self, true_and, and_true, false_and, and_false, not_true_eq_false, not_false_eq_true, xj_Mo_laysBoxes, xb_Mo_laysBoxes_0, xb_Mo_laysBoxes_23, xb_Mo_laysBoxes_87, xb_Mo_laysBoxes_143, xb_Mo_laysBoxes_194]
theorem xl_skinsB (ro : xv_Ro) (z : Nat × Nat) (J : Nat → Nat → Int64) {w : Nat → Nat} {R n q : Nat} (x3 : Int32) (hx : x3 = 20 ∨ ((x3 = 20) = False ∧ x3 = nI q ∧ q < n)) (hn1 : 1 ≤ n) (hn : n ≤ 10) (hR : R ≤ 255) (hw : ∀ i, i < n → w i ≤ min 99 R) : ∀ (m B : Nat) (M : Nat → Nat → Int32), B + m = n → 1 ≤ B → (2 ≤ B → bz_p w R (B - 1) n 0 0 (fun _ => 0) (fun _ => 0) = none) → (∀ j, j < n → M 173 j &&& 255 = nI (w j)) → ∃ M1 : Nat → Nat → Int32, (∀ a, a ≠ 195 → a ≠ 196 → M1 a = M a) ∧ xv_ev ro 199 xm_Mo_skins xb_Mo_skins_96 [some (.ref 167), some (.int (nI n)), some (.int (nI R)), some (.int x3), some (.int (nI B))] [] (z, xv_mk M J) = some (some (.int (if x3 = 20 then nI (bz_k w R n m B).1 else nI ((bz_k w R n m B).2 q))), (z, xv_mk M1 J)) := by
  have hw99 : ∀ i, i < n → w i ≤ 99 := fun i hi => by have := hw i hi; omega
  have fin : ∀ (B : Nat) (r : Nat → Nat) (M M1 : Nat → Nat → Int32), xv_evm ro 198 133 [.ref 167, .int (nI n), .int (nI B), .int (nI R)] (z, xv_mk M J) = some (some (.int 1), (z, xv_mk M1 J)) → (∀ j, j < n → M1 195 j = nI (r j)) → xv_ev ro 199 xm_Mo_skins xb_Mo_skins_96 [some (.ref 167), some (.int (nI n)), some (.int (nI R)), some (.int x3), some (.int (nI B))] [] (z, xv_mk M J) = some (some (.int (if x3 = 20 then nI B else nI (r q))), (z, xv_mk M1 J)) := by
    intro B r M M1 h1 h2
    have z1 : ((1 : Int32) = 0) = False := eq_false (by decide)
    conv => lhs; unfold xb_Mo_skins_96
    rcases hx with hx | ⟨hx, hq, hqn⟩
    · rw [if_pos hx]
      simp only [xr_all, xf_all, if_true, if_false, true_or, or_true, eq_self, ite_not, Bool.false_eq_true, ite_self, and_self, true_and, and_true, false_and, and_false, not_true_eq_false, not_false_eq_true, xj_Mo_skins, xb_Mo_skins_0, xb_Mo_skins_29, xb_Mo_skins_31, xb_Mo_skins_67, xb_Mo_skins_73, xb_Mo_skins_93, xb_Mo_skins_116, xb_Mo_skins_127, xb_Mo_skins_133, h1, z1, hx]
    · rw [if_neg (fun g => by rw [hx] at g; exact g)]
      rw [hq] at hx
      have g2 : xv_inB (nI q) 10 = true := by (simp (disch := omega) only [vz_all, if_true, if_false, true_or, or_true, eq_self, ite_not, Bool.false_eq_true, ite_self, and_self, true_and, and_true, false_and, and_false, not_true_eq_false, not_false_eq_true, false_or, or_false])
      rw [hq]
      simp only [xr_all, xf_all, if_true, if_false, true_or, or_true, eq_self, ite_not, Bool.false_eq_true, ite_self, and_self, true_and, and_true, false_and, and_false, not_true_eq_false, not_false_eq_true, xj_Mo_skins, xb_Mo_skins_0, xb_Mo_skins_29, xb_Mo_skins_31, xb_Mo_skins_67, xb_Mo_skins_73, xb_Mo_skins_93, xb_Mo_skins_116, xb_Mo_skins_127, xb_Mo_skins_133, h1, z1, hx, g2, nI_clamp (show q < 2 ^ 31 by omega), h2 q hqn]
  intro m
  induction m with
  | zero =>
    intro B M hB hB1 hno h5
    obtain rfl : B = n := by omega
    obtain ⟨r, hr, hid⟩ := bz_last (w := w) (R := R) hn1 (fun i hi => by have := hw i hi; omega) (fun _ => 0) hno
    obtain ⟨M1, w1, w2⟩ := xq_laysBoxes ro 196 z M J (w := w) (R := R) (B := B) (n := B) hn hB1 hn hR hw99 h5
    rcases w2 with ⟨r', r1, r2, r3⟩ | ⟨r1, -⟩
    · rw [hr] at r1
      have e := Option.some.inj r1
      subst e
      refine ⟨M1, w1, ?_⟩
      rw [fin B (fun j => j) M M1 r2 (fun j hj => by rw [r3 j hj, hid j hj])]
      rfl
    · rw [hr] at r1; cases r1
  | succ m ih =>
    intro B M hB hB1 hno h5
    obtain ⟨M1, w1, w2⟩ := xq_laysBoxes ro 196 z M J (w := w) (R := R) (B := B) (n := n) hn hB1 (by omega) hR hw99 h5
    rw [bz_ks]
    rcases w2 with ⟨r, r1, r2, r3⟩ | ⟨r1, r2⟩
    · rw [r1]
      exact ⟨M1, w1, fin B r M M1 r2 r3⟩
    · rw [r1]
      obtain ⟨M2, v1, v2⟩ := ih (B + 1) M1 (by omega) (by omega) (fun _ => by rw [Nat.add_sub_cancel]; exact r1) (fun j hj => by rw [w1 173 (by omega) (by omega)]; exact h5 j hj)
      refine ⟨M2, fun a q1 q2 => by rw [v1 a q1 q2, w1 a q1 q2], ?_⟩
      rw [← v2]
      conv => lhs; unfold xb_Mo_skins_96
      simp only [xr_all, xf_all, if_true, if_false, true_or, or_true, eq_self, ite_not, Bool.false_eq_true, ite_self, and_self, true_and, and_true, false_and, and_false, not_true_eq_false, not_false_eq_true, xj_Mo_skins, xb_Mo_skins_0, xb_Mo_skins_29, xb_Mo_skins_31, xb_Mo_skins_67, xb_Mo_skins_73, xb_Mo_skins_93, xb_Mo_skins_116, xb_Mo_skins_127, xb_Mo_skins_133, r2, nI_1]
theorem xl_skins39 (ro : xv_Ro) (z : Nat × Nat) (M : Nat → Nat → Int32) (J : Nat → Nat → Int64) {w : Nat → Nat} {R n : Nat} (x3 : Int32) (hn : n ≤ 10) (hR : R ≤ 255) (h5 : ∀ j, j < n → w j < 256 ∧ M 173 j &&& 255 = nI (w j)) : ∀ k i, i + k = n → xv_ev ro 199 xm_Mo_skins xb_Mo_skins_39 [some (.ref 167), some (.int (nI n)), some (.int (nI R)), some (.int x3), some (.int (nI i))] [] (z, xv_mk M J) = if vs_fr (bz_o w R) k i = true then xv_ev ro 199 xm_Mo_skins xb_Mo_skins_39 [some (.ref 167), some (.int (nI n)), some (.int (nI R)), some (.int x3), some (.int (nI n))] [] (z, xv_mk M J) else some (some (.int (-2)), (z, xv_mk M J)) := by
  intro k
  induction k with
  | zero =>
    intro i hi
    obtain rfl : i = n := by omega
    rw [if_pos (show vs_fr (bz_o w R) 0 i = true from rfl)]
  | succ k ih =>
    intro i hi
    obtain ⟨b1, b2⟩ := h5 i (by omega)
    have g1 : (nI n ≤ nI i) = False := by (simp (disch := omega) only [vz_all, if_true, if_false, true_or, or_true, eq_self, ite_not, Bool.false_eq_true, ite_self, and_self, true_and, and_true, false_and, and_false, not_true_eq_false, not_false_eq_true, false_or, or_false])
    have hsk := xq_skinOf ro 198 z M J (i := i) (by omega)
    rw [b2] at hsk
    have gmm : (if 99 < nI R then 99 else nI R) = nI (min 99 R) := by
      by_cases c : 99 < R
      · have q : (99 < nI R) = True := by (simp (disch := omega) only [vz_all, if_true, if_false, true_or, or_true, eq_self, ite_not, Bool.false_eq_true, ite_self, and_self, true_and, and_true, false_and, and_false, not_true_eq_false, not_false_eq_true, false_or, or_false])
        rw [if_pos (q.mpr trivial), show min 99 R = 99 by omega]; rfl
      · have q : (99 < nI R) = False := by (simp (disch := omega) only [vz_all, if_true, if_false, true_or, or_true, eq_self, ite_not, Bool.false_eq_true, ite_self, and_self, true_and, and_true, false_and, and_false, not_true_eq_false, not_false_eq_true, false_or, or_false])
        rw [if_neg (fun g => by rw [q] at g; exact g), show min 99 R = R by omega]
    have hs : vs_fr (bz_o w R) (k + 1) i = (bz_o w R i && vs_fr (bz_o w R) k (i + 1)) := rfl
    have h1 := ih (i + 1) (by omega)
    have z1 : ((1 : Int32) = 0) = False := eq_false (by decide)
    have gmm2 : (if 99 < nI R then (99 : Int32) else nI R) = nI (min 99 R) := gmm
    have hmin := xq_Mo_min ro 198 (z, xv_mk M J) 99 (nI R)
    have gm3 : (if (99 : Int32) < nI R then 99 else nI R) = nI (min 99 R) := gmm
    rw [gm3] at hmin
    rw [hs]
    by_cases c : 1 ≤ w i ∧ w i ≤ min 99 R
    · have ho : bz_o w R i = true := decide_eq_true c
      have hin : (1 ≤ nI (w i) ∧ nI (w i) ≤ nI (min 99 R)) = True := by
        obtain ⟨c1, c2⟩ := c
        (simp (disch := omega) only [vz_all, if_true, if_false, true_or, or_true, eq_self, ite_not, Bool.false_eq_true, ite_self, and_self, true_and, and_true, false_and, and_false, not_true_eq_false, not_false_eq_true, false_or, or_false])
      rw [ho, Bool.true_and, ← h1]
      conv => lhs; unfold xb_Mo_skins_39
      simp only [xr_all, xf_all, if_true, if_false, true_or, or_true, eq_self, ite_not, Bool.false_eq_true, ite_self, and_self, true_and, and_true, false_and, and_false, not_true_eq_false, not_false_eq_true, xj_Mo_skins, xb_Mo_skins_0, xb_Mo_skins_29, xb_Mo_skins_31, xb_Mo_skins_67, xb_Mo_skins_73, xb_Mo_skins_93, xb_Mo_skins_116, xb_Mo_skins_127, xb_Mo_skins_133, g1, hsk, hmin, xq_Mo_in, hin, z1, nI_1]
    · have ho : bz_o w R i = false := decide_eq_false c
      have hin : (1 ≤ nI (w i) ∧ nI (w i) ≤ nI (min 99 R)) = False := by
        apply eq_false
        rintro ⟨c1, c2⟩
        apply c
        rw [show (1 : Int32) = nI 1 from rfl, nI_leI (by omega) (by omega)] at c1
        rw [nI_leI (by omega) (by omega)] at c2
        exact ⟨c1, c2⟩
      rw [ho, Bool.false_and, if_neg (by decide)]
      conv => lhs; unfold xb_Mo_skins_39
      simp only [xr_all, xf_all, if_true, if_false, true_or, or_true, eq_self, ite_not, Bool.false_eq_true, ite_self, and_self, true_and, and_true, false_and, and_false, not_true_eq_false, not_false_eq_true, xj_Mo_skins, xb_Mo_skins_0, xb_Mo_skins_29, xb_Mo_skins_31, xb_Mo_skins_67, xb_Mo_skins_73, xb_Mo_skins_93, xb_Mo_skins_116, xb_Mo_skins_127, xb_Mo_skins_133, g1, hsk, hmin, xq_Mo_in, hin]
theorem xp_24 (VL : xv_LP) (hV : vi_Lc VL) : xl_P24 (vi_all VL) := by
  intro x1 x2 x3 ro I J hro hI
  obtain ⟨t, t1, t2, t3, b, tb⟩ := vi_Tb hI.1
  have z1 : ((1 : Int32) = 0) = False := eq_false (by decide)
  rcases vn_1N 255 (by omega) x2 with ⟨R, R1, R2, rfl, f1, f2, f3⟩ | ⟨f1, f2⟩
  rotate_left
  · rw [show nI 255 = (255 : Int32) from rfl] at f1 f2
    refine ⟨-1, I, J, I, J, ?_, ?_, hI⟩
    · rw [xe_Ct_skins]
      rcases f1 with f1 | ⟨f1, f3⟩
      · simp only [xr_all, xf_all, if_true, if_false, true_or, or_true, eq_self, ite_not, Bool.false_eq_true, ite_self, and_self, true_and, and_true, false_and, and_false, not_true_eq_false, not_false_eq_true, xj_Ct_skins, xb_Ct_skins_0, xb_Ct_skins_26, xb_Ct_skins_28, xb_Ct_skins_47, xb_Ct_skins_62, xb_Ct_skins_65, xb_Ct_skins_85, xb_Ct_skins_93, f1]
      · have e4 : (255 < x2) = True := eq_true (Int32.not_le.mp (fun q => by rw [f3] at q; exact q))
        simp only [xr_all, xf_all, if_true, if_false, true_or, or_true, eq_self, ite_not, Bool.false_eq_true, ite_self, and_self, true_and, and_true, false_and, and_false, not_true_eq_false, not_false_eq_true, xj_Ct_skins, xb_Ct_skins_0, xb_Ct_skins_26, xb_Ct_skins_28, xb_Ct_skins_47, xb_Ct_skins_62, xb_Ct_skins_65, xb_Ct_skins_85, xb_Ct_skins_93, f1, e4]
    · rw [xe_Mo_skins]
      by_cases c : (1 ≤ x1 ∧ x1 ≤ 10)
      · simp only [xr_all, xf_all, if_true, if_false, true_or, or_true, eq_self, ite_not, Bool.false_eq_true, ite_self, and_self, true_and, and_true, false_and, and_false, not_true_eq_false, not_false_eq_true, xj_Mo_skins, xb_Mo_skins_0, xb_Mo_skins_29, xb_Mo_skins_31, xb_Mo_skins_67, xb_Mo_skins_73, xb_Mo_skins_93, xb_Mo_skins_116, xb_Mo_skins_127, xb_Mo_skins_133, xq_Mo_in, eq_true c, z1, f2]
      · simp only [xr_all, xf_all, if_true, if_false, true_or, or_true, eq_self, ite_not, Bool.false_eq_true, ite_self, and_self, true_and, and_true, false_and, and_false, not_true_eq_false, not_false_eq_true, xj_Mo_skins, xb_Mo_skins_0, xb_Mo_skins_29, xb_Mo_skins_31, xb_Mo_skins_67, xb_Mo_skins_73, xb_Mo_skins_93, xb_Mo_skins_116, xb_Mo_skins_127, xb_Mo_skins_133, xq_Mo_in, eq_false c]
  · rw [show nI 255 = (255 : Int32) from rfl] at f2 f3
    have f4 : (255 < nI R) = False := by (simp (disch := omega) only [vz_all, if_true, if_false, true_or, or_true, eq_self, ite_not, Bool.false_eq_true, ite_self, and_self, true_and, and_true, false_and, and_false, not_true_eq_false, not_false_eq_true, false_or, or_false])
    by_cases hgood : ∃ n : Nat, 1 ≤ n ∧ n ≤ 10 ∧ x1 = nI n ∧ n ≤ t
    rotate_left
    · refine ⟨-1, I, J, I, J, ?_, ?_, hI⟩
      · have hcut : xv_evm ro 198 248 [.ref 1, .int x1, .int 1, .int 10] (xv_SZ, xv_mk I J) = some (some (.int 0), (xv_SZ, xv_mk I J)) := by
          rcases vn_1N 10 (by omega) x1 with ⟨n, n1, n2, rfl, e1, e2, e3⟩ | ⟨e1, e2⟩
          · have q2 : (10 < nI n) = False := by (simp (disch := omega) only [vz_all, if_true, if_false, true_or, or_true, eq_self, ite_not, Bool.false_eq_true, ite_self, and_self, true_and, and_true, false_and, and_false, not_true_eq_false, not_false_eq_true, false_or, or_false])
            have q3 : (nI n ≤ I 1 1) = False := by
              have hnt : ¬ n ≤ t := fun q => hgood ⟨n, n1, n2, rfl, q⟩
              rw [t2]; (simp (disch := omega) only [vz_all, if_true, if_false, true_or, or_true, eq_self, ite_not, Bool.false_eq_true, ite_self, and_self, true_and, and_true, false_and, and_false, not_true_eq_false, not_false_eq_true, false_or, or_false])
            exact xq_cut_no ro 198 xv_SZ I J (nI n) 1 10 (Or.inr (Or.inr ⟨e1, q2, q3⟩))
          · rw [show nI 10 = (10 : Int32) from rfl] at e1
            rcases e1 with e1 | ⟨e1, e3⟩
            · exact xq_cut_no ro 198 xv_SZ I J x1 1 10 (Or.inl e1)
            · exact xq_cut_no ro 198 xv_SZ I J x1 1 10 (Or.inr (Or.inl ⟨e1, eq_true (Int32.not_le.mp (fun q => by rw [e3] at q; exact q))⟩))
        rw [xe_Ct_skins]
        simp only [xr_all, xf_all, if_true, if_false, true_or, or_true, eq_self, ite_not, Bool.false_eq_true, ite_self, and_self, true_and, and_true, false_and, and_false, not_true_eq_false, not_false_eq_true, xj_Ct_skins, xb_Ct_skins_0, xb_Ct_skins_26, xb_Ct_skins_28, xb_Ct_skins_47, xb_Ct_skins_62, xb_Ct_skins_65, xb_Ct_skins_85, xb_Ct_skins_93, f1, f4, hcut]
      · rw [xe_Mo_skins]
        rcases vn_1N 10 (by omega) x1 with ⟨n, n1, n2, rfl, e1, e2, e3⟩ | ⟨e1, e2⟩
        · rw [show nI 10 = (10 : Int32) from rfl] at e3
          have q3 : (nI n ≤ nI t) = False := by
            have hnt : ¬ n ≤ t := fun q => hgood ⟨n, n1, n2, rfl, q⟩
            (simp (disch := omega) only [vz_all, if_true, if_false, true_or, or_true, eq_self, ite_not, Bool.false_eq_true, ite_self, and_self, true_and, and_true, false_and, and_false, not_true_eq_false, not_false_eq_true, false_or, or_false])
          simp only [xr_all, xf_all, if_true, if_false, true_or, or_true, eq_self, ite_not, Bool.false_eq_true, ite_self, and_self, true_and, and_true, false_and, and_false, not_true_eq_false, not_false_eq_true, xj_Mo_skins, xb_Mo_skins_0, xb_Mo_skins_29, xb_Mo_skins_31, xb_Mo_skins_67, xb_Mo_skins_73, xb_Mo_skins_93, xb_Mo_skins_116, xb_Mo_skins_127, xb_Mo_skins_133, xq_Mo_in, e3, z1, f3, t3, q3]
        · rw [show nI 10 = (10 : Int32) from rfl] at e2
          simp only [xr_all, xf_all, if_true, if_false, true_or, or_true, eq_self, ite_not, Bool.false_eq_true, ite_self, and_self, true_and, and_true, false_and, and_false, not_true_eq_false, not_false_eq_true, xj_Mo_skins, xb_Mo_skins_0, xb_Mo_skins_29, xb_Mo_skins_31, xb_Mo_skins_67, xb_Mo_skins_73, xb_Mo_skins_93, xb_Mo_skins_116, xb_Mo_skins_127, xb_Mo_skins_133, xq_Mo_in, e2]
    · obtain ⟨n, n1, n2, rfl, hnt⟩ := hgood
      have e1 : (nI n < 1) = False := by (simp (disch := omega) only [vz_all, if_true, if_false, true_or, or_true, eq_self, ite_not, Bool.false_eq_true, ite_self, and_self, true_and, and_true, false_and, and_false, not_true_eq_false, not_false_eq_true, false_or, or_false])
      have e2 : (10 < nI n) = False := by (simp (disch := omega) only [vz_all, if_true, if_false, true_or, or_true, eq_self, ite_not, Bool.false_eq_true, ite_self, and_self, true_and, and_true, false_and, and_false, not_true_eq_false, not_false_eq_true, false_or, or_false])
      have e3 : (1 ≤ nI n ∧ nI n ≤ 10) = True := by (simp (disch := omega) only [vz_all, if_true, if_false, true_or, or_true, eq_self, ite_not, Bool.false_eq_true, ite_self, and_self, true_and, and_true, false_and, and_false, not_true_eq_false, not_false_eq_true, false_or, or_false])
      have e4 : (nI n ≤ I 1 1) = True := by rw [t2]; (simp (disch := omega) only [vz_all, if_true, if_false, true_or, or_true, eq_self, ite_not, Bool.false_eq_true, ite_self, and_self, true_and, and_true, false_and, and_false, not_true_eq_false, not_false_eq_true, false_or, or_false])
      have e5 : (nI n ≤ nI t) = True := by (simp (disch := omega) only [vz_all, if_true, if_false, true_or, or_true, eq_self, ite_not, Bool.false_eq_true, ite_self, and_self, true_and, and_true, false_and, and_false, not_true_eq_false, not_false_eq_true, false_or, or_false])
      have hcut := xq_cut ro 198 xv_SZ I J (nI n) 1 10 e1 e2 e4
      obtain ⟨W, l1, l2, l3, l4, l5⟩ := xq_lay ro 197 xv_SZ (xv_u2 (xv_u2 (xv_u2 (xv_u2 I 1 1 0) 1 2 (nI n)) 1 3 0) 1 4 0) J (w := b) (n := n) (R := R) (by (repeat (first | rw [xu_ne2 (by omega)] | rw [xu_ne (by omega)] | rw [xu_eq]))) n2 R2 (fun j hj => ⟨(tb j (by omega)).1, by (repeat (first | rw [xu_ne2 (by omega)] | rw [xu_ne (by omega)] | rw [xu_eq])); exact (tb j (by omega)).2.1⟩)
      have hWI : ∀ a, a ≠ 1 → a ≠ 156 → a ≠ 157 → W a = I a := fun a q1 q2 q3 => by rw [l5 a q2 q3]; (repeat (first | rw [xu_ne2 (by omega)] | rw [xu_ne (by omega)] | rw [xu_eq]))
      have hW1 : W 1 1 = 0 := by rw [l5 1 (by omega) (by omega)]; (repeat (first | rw [xu_ne2 (by omega)] | rw [xu_ne (by omega)] | rw [xu_eq]))
      have hWc : ∀ j, j ≠ 1 → j ≠ 2 → j ≠ 3 → j ≠ 4 → W 1 j = I 1 j := fun j b1 b2 b3 b4 => by rw [l5 1 (by omega) (by omega)]; (repeat (first | rw [xu_ne2 (by omega)] | rw [xu_ne (by omega)] | rw [xu_eq]))
      have hfin : ∀ (W2 M1 : Nat → Nat → Int32), (∀ a, a ≠ 158 → a ≠ 159 → W2 a = W a) → (∀ a, a ≠ 195 → a ≠ 196 → M1 a = xv_u2 W2 167 7 0 a) → vi_all VL M1 J := by
        intro W2 M1 h1 h2
        refine vi_all_cut hV hI (fun a j haj c1 c2 => ?_) (by rw [h2 1 (by omega) (by omega), xu_ne (by omega), h1 1 (by omega) (by omega)]; exact hW1) (by rw [h2 167 (by omega) (by omega), xu_eq]) rfl
        have o : ∀ a, (a = 156 ∨ a = 157 ∨ a = 158 ∨ a = 159 ∨ a = 195 ∨ a = 196) → vs_r a j = false := by
          intro a ha
          rcases ha with rfl | rfl | rfl | rfl | rfl | rfl <;> rfl
        have no : ∀ b, (b = 156 ∨ b = 157 ∨ b = 158 ∨ b = 159 ∨ b = 195 ∨ b = 196) → a ≠ b := fun b hb e => by rw [e, o b hb] at haj; cases haj
        rw [h2 a (no 195 (by omega)) (no 196 (by omega)), xu_ne2 c2, h1 a (no 158 (by omega)) (no 159 (by omega))]
        by_cases ha1 : a = 1
        · rw [ha1, vs_r1] at haj
          exact absurd ⟨ha1, by simpa using haj⟩ c1
        · rw [hWI a ha1 (no 156 (by omega)) (no 157 (by omega))]
      have t3' : ∀ W2 : Nat → Nat → Int32, (∀ a, a ≠ 158 → a ≠ 159 → W2 a = W a) → W2 167 7 = nI t := fun W2 h => by rw [h 167 (by omega) (by omega), hWI 167 (by omega) (by omega) (by omega)]; exact t3
      have hb173 : ∀ W2 : Nat → Nat → Int32, (∀ a, a ≠ 158 → a ≠ 159 → W2 a = W a) → ∀ j, j < n → b j < 256 ∧ xv_u2 W2 167 7 0 173 j &&& 255 = nI (b j) := fun W2 h j hj => ⟨(tb j (by omega)).1, by rw [xu_ne (by omega), h 173 (by omega) (by omega), hWI 173 (by omega) (by omega) (by omega)]; exact (tb j (by omega)).2.2⟩
      have hM : ∀ (W2 : Nat → Nat → Int32) (X : Option (Option Value × xv_S)), (∀ a, a ≠ 158 → a ≠ 159 → W2 a = W a) → (if vs_fr (bz_o b R) n 0 = true then xv_ev ro 199 xm_Mo_skins xb_Mo_skins_39 [some (.ref 167), some (.int (nI n)), some (.int (nI R)), some (.int x3), some (.int (nI n))] [] (xv_SZ, xv_mk (xv_u2 W2 167 7 0) J) else some (some (.int (-2)), (xv_SZ, xv_mk (xv_u2 W2 167 7 0) J))) = X → xv_evm ro 199 134 [.ref 167, .int (nI n), .int (nI R), .int x3] (xv_SZ, xv_mk W2 J) = X := by
        intro W2 X h hX
        rw [xe_Mo_skins, ← hX, ← xl_skins39 ro xv_SZ (xv_u2 W2 167 7 0) J x3 n2 R2 (hb173 W2 h) n 0 (by omega)]
        have t4 := t3' W2 h
        simp only [xr_all, xf_all, if_true, if_false, true_or, or_true, eq_self, ite_not, Bool.false_eq_true, ite_self, and_self, true_and, and_true, false_and, and_false, not_true_eq_false, not_false_eq_true, xj_Mo_skins, xb_Mo_skins_0, xb_Mo_skins_29, xb_Mo_skins_31, xb_Mo_skins_67, xb_Mo_skins_73, xb_Mo_skins_93, xb_Mo_skins_116, xb_Mo_skins_127, xb_Mo_skins_133, xq_Mo_in, e3, z1, f3, t4, e5]
        rfl
      cases hfits : vs_fr (bz_o b R) n 0 with
      | false =>
        rw [hfits, if_neg (by decide)] at l1
        refine ⟨-2, W, J, xv_u2 W 167 7 0, J, ?_, hM W _ (fun _ _ _ => rfl) ?_, hfin W _ (fun _ _ _ => rfl) (fun _ _ _ => rfl)⟩
        · rw [xe_Ct_skins]
          simp only [xr_all, xf_all, if_true, if_false, true_or, or_true, eq_self, ite_not, Bool.false_eq_true, ite_self, and_self, true_and, and_true, false_and, and_false, not_true_eq_false, not_false_eq_true, xj_Ct_skins, xb_Ct_skins_0, xb_Ct_skins_26, xb_Ct_skins_28, xb_Ct_skins_47, xb_Ct_skins_62, xb_Ct_skins_65, xb_Ct_skins_85, xb_Ct_skins_93, f1, f4, hcut, z1, l1]
        · rw [hfits, if_neg (by decide)]
      | true =>
        rw [hfits, if_pos rfl] at l1
        have hw := vs_fri.mp hfits
        have hwR : ∀ i, i < n → b i ≤ min 99 R := fun i hi => (of_decide_eq_true (hw i (Nat.zero_le i) (by omega))).2
        have gnn : (nI n ≤ nI n) = True := by (simp (disch := omega) only [vz_all, if_true, if_false, true_or, or_true, eq_self, ite_not, Bool.false_eq_true, ite_self, and_self, true_and, and_true, false_and, and_false, not_true_eq_false, not_false_eq_true, false_or, or_false])
        by_cases hx : x3 = 20 ∨ ((x3 = 20) = False ∧ ∃ q : Nat, q < n ∧ x3 = nI q)
        rotate_left
        · have hx20 : (x3 = 20) = False := eq_false (fun g => hx (Or.inl g))
          have hno : ¬ ∃ q : Nat, q < n ∧ x3 = nI q := fun g => hx (Or.inr ⟨hx20, g⟩)
          have hin : (0 ≤ x3 ∧ x3 ≤ nI n - 1) = False := eq_false (fun g => hno ((vn_inN n (by omega) x3).mp g))
          refine ⟨-4, W, J, xv_u2 W 167 7 0, J, ?_, hM W _ (fun _ _ _ => rfl) ?_, hfin W _ (fun _ _ _ => rfl) (fun _ _ _ => rfl)⟩
          · rw [xe_Ct_skins]
            by_cases c : x3 < 0
            · simp only [xr_all, xf_all, if_true, if_false, true_or, or_true, eq_self, ite_not, Bool.false_eq_true, ite_self, and_self, true_and, and_true, false_and, and_false, not_true_eq_false, not_false_eq_true, xj_Ct_skins, xb_Ct_skins_0, xb_Ct_skins_26, xb_Ct_skins_28, xb_Ct_skins_47, xb_Ct_skins_62, xb_Ct_skins_65, xb_Ct_skins_85, xb_Ct_skins_93, f1, f4, hcut, z1, l1, hx20, c]
            · have c2 : (x3 < nI n) = False := by
                apply eq_false
                intro g
                rcases vn_cases x3 n (by omega) with q | q | ⟨j, hj, q⟩
                · exact c q
                · exact absurd g (Int32.not_lt.mpr q)
                · exact hno ⟨j, hj, q⟩
              simp only [xr_all, xf_all, if_true, if_false, true_or, or_true, eq_self, ite_not, Bool.false_eq_true, ite_self, and_self, true_and, and_true, false_and, and_false, not_true_eq_false, not_false_eq_true, xj_Ct_skins, xb_Ct_skins_0, xb_Ct_skins_26, xb_Ct_skins_28, xb_Ct_skins_47, xb_Ct_skins_62, xb_Ct_skins_65, xb_Ct_skins_85, xb_Ct_skins_93, f1, f4, hcut, z1, l1, hx20, c, c2]
          · rw [hfits, if_pos rfl]
            conv => lhs; unfold xb_Mo_skins_39
            simp only [xr_all, xf_all, if_true, if_false, true_or, or_true, eq_self, ite_not, Bool.false_eq_true, ite_self, and_self, true_and, and_true, false_and, and_false, not_true_eq_false, not_false_eq_true, xj_Mo_skins, xb_Mo_skins_0, xb_Mo_skins_29, xb_Mo_skins_31, xb_Mo_skins_67, xb_Mo_skins_73, xb_Mo_skins_93, xb_Mo_skins_116, xb_Mo_skins_127, xb_Mo_skins_133, gnn, hx20, xq_Mo_in, hin]
        · obtain ⟨W1, p1, p2, p3⟩ := xq_packW ro xv_SZ J (w := b) (R := R) n1 n2 R2 (fun i hi => by have := hwR i hi; omega) (n - 1) 1 W none (by omega) (Nat.le_refl 1) l2 l3 l4
          have hpk : xv_evm ro 198 184 [.ref 156] (xv_SZ, xv_mk W J) = some (some (.int (nI (bz_k b R n (n - 1) 1).1)), (xv_SZ, xv_mk W1 J)) := by
            rw [xe_Boxes_pack]
            simp only [xr_all, xf_all, if_true, if_false, true_or, or_true, eq_self, ite_not, Bool.false_eq_true, ite_self, and_self, true_and, and_true, false_and, and_false, not_true_eq_false, not_false_eq_true, xj_Boxes_pack, xb_Boxes_pack_0, xb_Boxes_pack_31, xb_Boxes_pack_43, xb_Boxes_pack_49, xb_Boxes_pack_70]
            exact p1
          have main : ∀ q : Nat, (x3 = 20 ∨ ((x3 = 20) = False ∧ x3 = nI q ∧ q < n)) → ∃ r I1 J1 I2 J2, xv_evm ro 199 25 [.ref 0, .int (nI n), .int (nI R), .int x3] (xv_SZ, xv_mk I J) = some (some (.int r), (xv_SZ, xv_mk I1 J1)) ∧ xv_evm ro 199 134 [.ref 167, .int (nI n), .int (nI R), .int x3] (xv_SZ, xv_mk I1 J1) = some (some (.int r), (xv_SZ, xv_mk I2 J2)) ∧ vi_all VL I2 J2 := by
            intro q hq
            obtain ⟨M1, m1, m2⟩ := xl_skinsB ro xv_SZ J (w := b) (R := R) (n := n) (q := q) x3 hq n1 n2 R2 hwR (n - 1) 1 (xv_u2 W1 167 7 0) (by omega) (Nat.le_refl 1) (fun h => by omega) (fun j hj => (hb173 W1 p3 j hj).2)
            refine ⟨if x3 = 20 then nI (bz_k b R n (n - 1) 1).1 else nI ((bz_k b R n (n - 1) 1).2 q), W1, J, M1, J, ?_, hM W1 _ p3 ?_, hfin W1 M1 p3 m1⟩
            · rw [xe_Ct_skins]
              rcases hq with hq | ⟨hq, hqe, hqn⟩
              · rw [if_pos hq]
                simp only [xr_all, xf_all, if_true, if_false, true_or, or_true, eq_self, ite_not, Bool.false_eq_true, ite_self, and_self, true_and, and_true, false_and, and_false, not_true_eq_false, not_false_eq_true, xj_Ct_skins, xb_Ct_skins_0, xb_Ct_skins_26, xb_Ct_skins_28, xb_Ct_skins_47, xb_Ct_skins_62, xb_Ct_skins_65, xb_Ct_skins_85, xb_Ct_skins_93, f1, f4, hcut, z1, l1, hq, hpk]
              · rw [if_neg (fun g => by rw [hq] at g; exact g)]
                rw [hqe] at hq ⊢
                have g1 : (nI q < 0) = False := by (simp (disch := omega) only [vz_all, if_true, if_false, true_or, or_true, eq_self, ite_not, Bool.false_eq_true, ite_self, and_self, true_and, and_true, false_and, and_false, not_true_eq_false, not_false_eq_true, false_or, or_false])
                have g2 : (nI q < nI n) = True := by (simp (disch := omega) only [vz_all, if_true, if_false, true_or, or_true, eq_self, ite_not, Bool.false_eq_true, ite_self, and_self, true_and, and_true, false_and, and_false, not_true_eq_false, not_false_eq_true, false_or, or_false])
                have g3 : (10 ≤ nI q) = False := by (simp (disch := omega) only [vz_all, if_true, if_false, true_or, or_true, eq_self, ite_not, Bool.false_eq_true, ite_self, and_self, true_and, and_true, false_and, and_false, not_true_eq_false, not_false_eq_true, false_or, or_false])
                have g4 : xv_inB (nI q) 10 = true := by (simp (disch := omega) only [vz_all, if_true, if_false, true_or, or_true, eq_self, ite_not, Bool.false_eq_true, ite_self, and_self, true_and, and_true, false_and, and_false, not_true_eq_false, not_false_eq_true, false_or, or_false])
                have hbo : xv_evm ro 198 186 [.ref 156, .int (nI q)] (xv_SZ, xv_mk W1 J) = some (some (.int (W1 158 q)), (xv_SZ, xv_mk W1 J)) := by
                  rw [xe_Boxes_boxOf]
                  simp only [xr_all, xf_all, if_true, if_false, true_or, or_true, eq_self, ite_not, Bool.false_eq_true, ite_self, and_self, true_and, and_true, false_and, and_false, not_true_eq_false, not_false_eq_true, xj_Boxes_boxOf, xb_Boxes_boxOf_0, xb_Boxes_boxOf_19, xb_Boxes_boxOf_20, g1, g3, g4, nI_clamp (show q < 2 ^ 31 by omega)]
                rw [p2 q hqn] at hbo
                simp only [xr_all, xf_all, if_true, if_false, true_or, or_true, eq_self, ite_not, Bool.false_eq_true, ite_self, and_self, true_and, and_true, false_and, and_false, not_true_eq_false, not_false_eq_true, xj_Ct_skins, xb_Ct_skins_0, xb_Ct_skins_26, xb_Ct_skins_28, xb_Ct_skins_47, xb_Ct_skins_62, xb_Ct_skins_65, xb_Ct_skins_85, xb_Ct_skins_93, f1, f4, hcut, z1, l1, hq, g1, g2, hpk, hbo]
            · rw [hfits, if_pos rfl, ← m2]
              rw [show nI 1 = (1 : Int32) from rfl]
              conv => lhs; unfold xb_Mo_skins_39
              rcases hq with hq | ⟨hq, hqe, hqn⟩
              · simp only [xr_all, xf_all, if_true, if_false, true_or, or_true, eq_self, ite_not, Bool.false_eq_true, ite_self, and_self, true_and, and_true, false_and, and_false, not_true_eq_false, not_false_eq_true, xj_Mo_skins, xb_Mo_skins_0, xb_Mo_skins_29, xb_Mo_skins_31, xb_Mo_skins_67, xb_Mo_skins_73, xb_Mo_skins_93, xb_Mo_skins_116, xb_Mo_skins_127, xb_Mo_skins_133, gnn, hq]
              · have hin : (0 ≤ x3 ∧ x3 ≤ nI n - 1) = True := eq_true ((vn_inN n (by omega) x3).mpr ⟨q, hqn, hqe⟩)
                simp only [xr_all, xf_all, if_true, if_false, true_or, or_true, eq_self, ite_not, Bool.false_eq_true, ite_self, and_self, true_and, and_true, false_and, and_false, not_true_eq_false, not_false_eq_true, xj_Mo_skins, xb_Mo_skins_0, xb_Mo_skins_29, xb_Mo_skins_31, xb_Mo_skins_67, xb_Mo_skins_73, xb_Mo_skins_93, xb_Mo_skins_116, xb_Mo_skins_127, xb_Mo_skins_133, gnn, hq, xq_Mo_in, hin, z1]
          rcases hx with hx | ⟨hx, q, hq1, hq2⟩
          · exact main 0 (Or.inl hx)
          · exact main q (Or.inr ⟨hx, hq2, hq1⟩)
