/-! PAIR: seen -/
/-- the tape is cut: nothing is left on it -/
theorem vi_all_cut {VL : xv_LP} (hV : vi_Lc VL) {I I' : Nat → Nat → Int32} {J J' : Nat → Nat → Int64} (hI : vi_all VL I J) (hs : ∀ a j, vs_r a j = true → ¬ (a = 1 ∧ j = 1) → ¬ (a = 167 ∧ j = 7) → I' a j = I a j) (h1 : I' 1 1 = 0) (h2 : I' 167 7 = 0) (hJ : J' 172 = J 172) : vi_all VL I' J' := by
  have he : vs_e I (xv_u2 (xv_u2 I' 1 1 (I 1 1)) 167 7 (I 167 7)) := by
    intro a j haj
    by_cases c1 : a = 167 ∧ j = 7
    · rw [c1.1, c1.2, xu_eq]
    · rw [xu_ne2 c1]
      by_cases c2 : a = 1 ∧ j = 1
      · rw [c2.1, c2.2, xu_eq]
      · rw [xu_ne2 c2]; exact hs a j haj c2 c1
  obtain ⟨g1, g2, g3, g4, g5, g6, g7⟩ := vi_all_s hV he hJ hI
  refine ⟨⟨0, Nat.zero_le _, h1, h2, fun j hj => by omega⟩, vi_P_c g2 (by rw [xu_ne (by omega), xu_ne (by omega)]) (by rw [xu_ne (by omega), xu_ne (by omega)]), vi_Q_c g3 (by rw [xu_ne (by omega), xu_ne (by omega)]) (by rw [xu_ne (by omega), xu_ne (by omega)]) (by rw [xu_ne2 (by omega), xu_ne (by omega)]) rfl, vi_A_c g4 (fun f hf => by rw [xu_ne (by omega), xu_ne (by omega)]) (fun a q1 q2 => by rw [xu_ne (by omega), xu_ne (by omega)]) (by rw [xu_ne (by omega), xu_ne (by omega)]), vi_K_c g5 (by rw [xu_ne (by omega), xu_ne (by omega)]) (by rw [xu_ne2 (by omega), xu_ne (by omega)]) (fun f hf => by rw [xu_ne (by omega), xu_ne (by omega)]) (fun a q1 q2 => by rw [xu_ne (by omega), xu_ne (by omega)]) (by rw [xu_ne (by omega), xu_ne (by omega)]), hV _ I' (fun a q1 q2 => by rw [xu_ne (by omega), xu_ne (by omega)]) (by rw [xu_ne2 (by omega), xu_ne (by omega)]) (fun a q1 q2 => by rw [xu_ne (by omega), xu_ne (by omega)]) g6, ?_⟩
  refine vi_B_c g7 (fun a ha => ?_)
  have o1 : xv_oc 1 ≠ some 8 ∧ xv_oc 1 ≠ some 9 := by decide
  have o2 : xv_oc 167 ≠ some 8 ∧ xv_oc 167 ≠ some 9 := by decide
  have n1 : a ≠ 1 := fun q => by rw [q] at ha; rcases ha with ha | ha; exact o1.1 ha; exact o1.2 ha
  have n2 : a ≠ 167 := fun q => by rw [q] at ha; rcases ha with ha | ha; exact o2.1 ha; exact o2.2 ha
  rw [xu_ne n2, xu_ne n1]
theorem vn_0N (N : Nat) (hN : N + 1 < 2 ^ 31) (x : Int32) : (∃ n : Nat, n ≤ N ∧ x = nI n ∧ (x < 0) = False ∧ (nI N < x) = False ∧ (0 ≤ x ∧ x ≤ nI N) = True) ∨ (((x < 0) = True ∨ ((x < 0) = False ∧ (nI N < x) = True)) ∧ (0 ≤ x ∧ x ≤ nI N) = False) := by
  rcases vn_cases x (N + 1) (by omega) with q | q | ⟨j, hj, rfl⟩
  · right
    exact ⟨Or.inl (eq_true q), eq_false (fun g => absurd q (Int32.not_lt.mpr g.1))⟩
  · right
    rw [← vn_gt hN] at q
    have h1 : ¬ x < 0 := by
      have h3 : (0 : Int32) ≤ nI N := nI_pos' (by omega)
      intro g
      (simp only [Int32.lt_iff_toInt_lt, Int32.le_iff_toInt_le, ← Int32.toInt_inj, vt_all] at *; omega)
    exact ⟨Or.inr ⟨eq_false h1, eq_true q⟩, eq_false (fun g => absurd q (Int32.not_lt.mpr g.2))⟩
  · left
    exact ⟨j, by omega, rfl, vn_lt0 (by omega), by (simp (disch := omega) only [vz_all, if_true, if_false, true_or, or_true, eq_self, ite_not, Bool.false_eq_true, ite_self, and_self, true_and, and_true, false_and, and_false, not_true_eq_false, not_false_eq_true, false_or, or_false]), eq_true ((vn_in hN).mpr ⟨j, by omega, rfl⟩)⟩
def vy_r (I : Nat → Nat → Int32) (X : Nat → Nat) (i : Nat) : Nat → Nat → Int32 := fun a j => if a = 166 ∧ j < i then nI (X j) else I a j
theorem vy_r0 (I : Nat → Nat → Int32) (X : Nat → Nat) : vy_r I X 0 = I := by
  funext a j
  unfold vy_r
  rw [if_neg (by omega)]
theorem vy_rs (I : Nat → Nat → Int32) (X : Nat → Nat) (i : Nat) : xv_u2 (vy_r I X i) 166 i (nI (X i)) = vy_r I X (i + 1) := by
  funext a j
  unfold xv_u2 vy_r
  by_cases h : a = 166
  · by_cases h2 : j = i
    · rw [if_pos ⟨h, h2⟩, if_pos ⟨h, by omega⟩, h2]
    · rw [if_neg (by omega)]
      by_cases h3 : j < i
      · rw [if_pos ⟨h, h3⟩, if_pos ⟨h, by omega⟩]
      · rw [if_neg (by omega), if_neg (by omega)]
  · rw [if_neg (by omega), if_neg (by omega), if_neg (by omega)]
theorem vy_ro (I : Nat → Nat → Int32) (X : Nat → Nat) (i : Nat) {a : Nat} (h : a ≠ 166) : vy_r I X i a = I a := by
  funext j
  unfold vy_r
  rw [if_neg (by omega)]
theorem vy_ri (I : Nat → Nat → Int32) (X : Nat → Nat) {i j : Nat} (h : j < i) : vy_r I X i 166 j = nI (X j) := if_pos ⟨rfl, h⟩
def vy_X (b : Nat → Nat) (sp n : Nat) (i : Nat) : Nat := vy_m (fun j => vy_ok b sp i j) n
def vy_p (X : Nat → Nat) (s i : Nat) : Bool := !(s.testBit i) || decide (nI s &&& (nI (X i) ^^^ -1) = 0)
theorem xq_isTogether (ro : xv_Ro) (d : Nat) (z : Nat × Nat) (I : Nat → Nat → Int32) (J : Nat → Nat → Int64) {X : Nat → Nat} {n s : Nat} (hn2 : n ≤ 12) (hs : s < 4096) : xv_evm ro d 38 [.ref 0, .int (nI s), .int (nI n)] (z, xv_mk (vy_r I X n) J) = some (some (.int (if vs_fr (vy_p X s) n 0 = true then 1 else 0)), (z, xv_mk (vy_r I X n) J)) := by
  have hl : ∀ k i, i + k = n → xv_ev ro d xm_Ct_isTogether xb_Ct_isTogether_2 [some (.ref 0), some (.int (nI s)), some (.int (nI n)), some (.int (nI i))] [] (z, xv_mk (vy_r I X n) J) = some (some (.int (if vs_fr (vy_p X s) k i = true then 1 else 0)), (z, xv_mk (vy_r I X n) J)) := by
    intro k
    induction k with
    | zero =>
      intro i hi
      obtain rfl : i = n := by omega
      have g1 : (nI i ≤ nI i) = True := by (simp (disch := omega) only [vz_all, if_true, if_false, true_or, or_true, eq_self, ite_not, Bool.false_eq_true, ite_self, and_self, true_and, and_true, false_and, and_false, not_true_eq_false, not_false_eq_true, false_or, or_false])
      rw [if_pos (show vs_fr (vy_p X s) 0 i = true from rfl)]
      conv => lhs; unfold xb_Ct_isTogether_2
      simp only [xr_all, xf_all, if_true, if_false, true_or, or_true, eq_self, ite_not, Bool.false_eq_true, ite_self, and_self, true_and, and_true, false_and, and_false, not_true_eq_false, not_false_eq_true, xj_Ct_isTogether, xb_Ct_isTogether_0, xb_Ct_isTogether_40, xb_Ct_isTogether_46, g1]
    | succ k ih =>
      intro i hi
      have h1 := ih (i + 1) (by omega)
      have g1 : (nI n ≤ nI i) = False := by (simp (disch := omega) only [vz_all, if_true, if_false, true_or, or_true, eq_self, ite_not, Bool.false_eq_true, ite_self, and_self, true_and, and_true, false_and, and_false, not_true_eq_false, not_false_eq_true, false_or, or_false])
      have g2 : (Int32.ofNat 12 ≤ nI i) = False := by rw [show Int32.ofNat 12 = nI 12 from rfl]; (simp (disch := omega) only [vz_all, if_true, if_false, true_or, or_true, eq_self, ite_not, Bool.false_eq_true, ite_self, and_self, true_and, and_true, false_and, and_false, not_true_eq_false, not_false_eq_true, false_or, or_false])
      have g3 := vb_bit1 (m := s) (k := i) (by omega) (by omega)
      have g4 : xv_inB (nI i) 12 = true := by (simp (disch := omega) only [vz_all, if_true, if_false, true_or, or_true, eq_self, ite_not, Bool.false_eq_true, ite_self, and_self, true_and, and_true, false_and, and_false, not_true_eq_false, not_false_eq_true, false_or, or_false])
      have g5 : vy_r I X n 166 i = nI (X i) := vy_ri I X (by omega)
      have hs : vs_fr (vy_p X s) (k + 1) i = (vy_p X s i && vs_fr (vy_p X s) k (i + 1)) := rfl
      rw [hs]
      conv => lhs; unfold xb_Ct_isTogether_2
      by_cases c : s.testBit i = true
      · have g6 := g3.trans (eq_true c)
        by_cases c2 : nI s &&& (nI (X i) ^^^ -1) = 0
        · have hp : vy_p X s i = true := by unfold vy_p; rw [decide_eq_true c2, Bool.or_true]
          rw [hp, Bool.true_and]
          simp only [xr_all, xf_all, if_true, if_false, true_or, or_true, eq_self, ite_not, Bool.false_eq_true, ite_self, and_self, true_and, and_true, false_and, and_false, not_true_eq_false, not_false_eq_true, xj_Ct_isTogether, xb_Ct_isTogether_0, xb_Ct_isTogether_40, xb_Ct_isTogether_46, g1, g2, g6, g4, nI_clamp (show i < 2 ^ 31 by omega), g5, c2, nI_1, h1]
        · have hp : vy_p X s i = false := by unfold vy_p; rw [decide_eq_false c2, c]; rfl
          rw [hp, Bool.false_and, if_neg (by decide)]
          simp only [xr_all, xf_all, if_true, if_false, true_or, or_true, eq_self, ite_not, Bool.false_eq_true, ite_self, and_self, true_and, and_true, false_and, and_false, not_true_eq_false, not_false_eq_true, xj_Ct_isTogether, xb_Ct_isTogether_0, xb_Ct_isTogether_40, xb_Ct_isTogether_46, g1, g2, g6, g4, nI_clamp (show i < 2 ^ 31 by omega), g5, c2]
      · have g6 := g3.trans (eq_false c)
        have hp : vy_p X s i = true := by
          unfold vy_p
          cases hb : s.testBit i with
          | true => exact absurd hb c
          | false => rfl
        rw [hp, Bool.true_and]
        simp only [xr_all, xf_all, if_true, if_false, true_or, or_true, eq_self, ite_not, Bool.false_eq_true, ite_self, and_self, true_and, and_true, false_and, and_false, not_true_eq_false, not_false_eq_true, xj_Ct_isTogether, xb_Ct_isTogether_0, xb_Ct_isTogether_40, xb_Ct_isTogether_46, g1, g2, g6, nI_1, h1]
  rw [xe_Ct_isTogether]
  simp only [xr_all, xf_all, if_true, if_false, true_or, or_true, eq_self, ite_not, Bool.false_eq_true, ite_self, and_self, true_and, and_true, false_and, and_false, not_true_eq_false, not_false_eq_true, xj_Ct_isTogether, xb_Ct_isTogether_0, xb_Ct_isTogether_40, xb_Ct_isTogether_46]
  exact hl n 0 (by omega)
def vy_q (b : Nat → Nat) (sp s i j : Nat) : Bool := !(s.testBit i && s.testBit j && !(vy_ok b sp i j))
theorem xq_areAll (ro : xv_Ro) (d : Nat) (z : Nat × Nat) (I : Nat → Nat → Int32) (J : Nat → Nat → Int64) {b : Nat → Nat} {n sp s : Nat} (hn2 : n ≤ 12) (hb : ∀ j, j < 2 * n → b j < 256 ∧ I 173 j &&& 255 = nI (b j)) (hsp : sp ≤ 99) (hs : s < 4096) : xv_evm ro (d + 2) 129 [.ref 167, .int (nI s), .int (nI n), .int (nI sp)] (z, xv_mk I J) = some (some (.int (if vs_fr (fun i => vs_fr (vy_q b sp s i) i 0) n 0 = true then 1 else 0)), (z, xv_mk I J)) := by
  have lS := nI_l (show s < 2 ^ 31 by omega)
  have z1 : ((1 : Int32) = 0) = False := eq_false (by decide)
  have inner : ∀ i, i < n → ∀ k j, j + k = i → xv_ev ro (d + 2) xm_Mo_areAllTrue xb_Mo_areAllTrue_12 [some (.ref 167), some (.int (nI s)), some (.int (nI n)), some (.int (nI sp)), some (.int (nI i)), some (.int (nI j))] [] (z, xv_mk I J) = if vs_fr (vy_q b sp s i) k j = true then xv_ev ro (d + 2) xm_Mo_areAllTrue xb_Mo_areAllTrue_3 [some (.ref 167), some (.int (nI s)), some (.int (nI n)), some (.int (nI sp)), some (.int (nI (i + 1))), some (.int (nI i))] [] (z, xv_mk I J) else some (some (.int 0), (z, xv_mk I J)) := by
    intro i hi k
    induction k with
    | zero =>
      intro j hj
      obtain rfl : j = i := by omega
      have g1 : (nI j ≤ nI j) = True := by (simp (disch := omega) only [vz_all, if_true, if_false, true_or, or_true, eq_self, ite_not, Bool.false_eq_true, ite_self, and_self, true_and, and_true, false_and, and_false, not_true_eq_false, not_false_eq_true, false_or, or_false])
      rw [if_pos (show vs_fr (vy_q b sp s j) 0 j = true from rfl)]
      conv => lhs; unfold xb_Mo_areAllTrue_12
      simp only [xr_all, xf_all, if_true, if_false, true_or, or_true, eq_self, ite_not, Bool.false_eq_true, ite_self, and_self, true_and, and_true, false_and, and_false, not_true_eq_false, not_false_eq_true, xj_Mo_areAllTrue, xb_Mo_areAllTrue_0, xb_Mo_areAllTrue_53, xb_Mo_areAllTrue_59, xb_Mo_areAllTrue_65, g1, nI_1]
    | succ k ih =>
      intro j hj
      have h1 := ih (j + 1) (by omega)
      have g1 : (nI i ≤ nI j) = False := by (simp (disch := omega) only [vz_all, if_true, if_false, true_or, or_true, eq_self, ite_not, Bool.false_eq_true, ite_self, and_self, true_and, and_true, false_and, and_false, not_true_eq_false, not_false_eq_true, false_or, or_false])
      have g2 := xq_Mo_has ro (d + 1) (z, xv_mk I J) (m := s) (s := i) (by omega) (by omega)
      have g3 := xq_Mo_has ro (d + 1) (z, xv_mk I J) (m := s) (s := j) (by omega) (by omega)
      have g4 := xq_areTrue ro d z I J hn2 hb hi (show j < n by omega) hsp
      have hs : vs_fr (vy_q b sp s i) (k + 1) j = (vy_q b sp s i j && vs_fr (vy_q b sp s i) k (j + 1)) := rfl
      rw [hs]
      conv => lhs; unfold xb_Mo_areAllTrue_12
      by_cases c1 : s.testBit i = true
      · rw [vz_b1 c1] at g2
        by_cases c2 : s.testBit j = true
        · rw [vz_b1 c2] at g3
          by_cases c3 : vy_ok b sp i j = true
          · rw [vz_b1 c3] at g4
            have hq : vy_q b sp s i j = true := by unfold vy_q; rw [c1, c2, c3]; rfl
            rw [hq, Bool.true_and]
            simp only [xr_all, xf_all, if_true, if_false, true_or, or_true, eq_self, ite_not, Bool.false_eq_true, ite_self, and_self, true_and, and_true, false_and, and_false, not_true_eq_false, not_false_eq_true, xj_Mo_areAllTrue, xb_Mo_areAllTrue_0, xb_Mo_areAllTrue_53, xb_Mo_areAllTrue_59, xb_Mo_areAllTrue_65, g1, lS, g2, g3, g4, z1, nI_1, h1]
          · rw [vz_b0 c3] at g4
            have hq : vy_q b sp s i j = false := by
              unfold vy_q
              cases ho : vy_ok b sp i j with
              | true => exact absurd ho c3
              | false => rw [c1, c2]; rfl
            rw [hq, Bool.false_and, if_neg (by decide)]
            simp only [xr_all, xf_all, if_true, if_false, true_or, or_true, eq_self, ite_not, Bool.false_eq_true, ite_self, and_self, true_and, and_true, false_and, and_false, not_true_eq_false, not_false_eq_true, xj_Mo_areAllTrue, xb_Mo_areAllTrue_0, xb_Mo_areAllTrue_53, xb_Mo_areAllTrue_59, xb_Mo_areAllTrue_65, g1, lS, g2, g3, g4, z1]
        · rw [vz_b0 c2] at g3
          have hq : vy_q b sp s i j = true := by
            unfold vy_q
            cases ho : s.testBit j with
            | true => exact absurd ho c2
            | false => rw [Bool.and_false]; rfl
          rw [hq, Bool.true_and]
          simp only [xr_all, xf_all, if_true, if_false, true_or, or_true, eq_self, ite_not, Bool.false_eq_true, ite_self, and_self, true_and, and_true, false_and, and_false, not_true_eq_false, not_false_eq_true, xj_Mo_areAllTrue, xb_Mo_areAllTrue_0, xb_Mo_areAllTrue_53, xb_Mo_areAllTrue_59, xb_Mo_areAllTrue_65, g1, lS, g2, g3, z1, nI_1, h1]
      · rw [vz_b0 c1] at g2
        have hq : vy_q b sp s i j = true := by
          unfold vy_q
          cases ho : s.testBit i with
          | true => exact absurd ho c1
          | false => rfl
        rw [hq, Bool.true_and]
        simp only [xr_all, xf_all, if_true, if_false, true_or, or_true, eq_self, ite_not, Bool.false_eq_true, ite_self, and_self, true_and, and_true, false_and, and_false, not_true_eq_false, not_false_eq_true, xj_Mo_areAllTrue, xb_Mo_areAllTrue_0, xb_Mo_areAllTrue_53, xb_Mo_areAllTrue_59, xb_Mo_areAllTrue_65, g1, lS, g2, nI_1, h1]
  have outer : ∀ k i u, i + k = n → xv_ev ro (d + 2) xm_Mo_areAllTrue xb_Mo_areAllTrue_3 [some (.ref 167), some (.int (nI s)), some (.int (nI n)), some (.int (nI sp)), some (.int (nI i)), u] [] (z, xv_mk I J) = some (some (.int (if vs_fr (fun i => vs_fr (vy_q b sp s i) i 0) k i = true then 1 else 0)), (z, xv_mk I J)) := by
    intro k
    induction k with
    | zero =>
      intro i u hi
      obtain rfl : i = n := by omega
      have g1 : (nI i ≤ nI i) = True := by (simp (disch := omega) only [vz_all, if_true, if_false, true_or, or_true, eq_self, ite_not, Bool.false_eq_true, ite_self, and_self, true_and, and_true, false_and, and_false, not_true_eq_false, not_false_eq_true, false_or, or_false])
      rw [if_pos (show vs_fr (fun i => vs_fr (vy_q b sp s i) i 0) 0 i = true from rfl)]
      conv => lhs; unfold xb_Mo_areAllTrue_3
      simp only [xr_all, xf_all, if_true, if_false, true_or, or_true, eq_self, ite_not, Bool.false_eq_true, ite_self, and_self, true_and, and_true, false_and, and_false, not_true_eq_false, not_false_eq_true, xj_Mo_areAllTrue, xb_Mo_areAllTrue_0, xb_Mo_areAllTrue_53, xb_Mo_areAllTrue_59, xb_Mo_areAllTrue_65, g1]
    | succ k ih =>
      intro i u hi
      have g1 : (nI n ≤ nI i) = False := by (simp (disch := omega) only [vz_all, if_true, if_false, true_or, or_true, eq_self, ite_not, Bool.false_eq_true, ite_self, and_self, true_and, and_true, false_and, and_false, not_true_eq_false, not_false_eq_true, false_or, or_false])
      have h2 := inner i (by omega) i 0 (by omega)
      have h1 := ih (i + 1) (some (.int (nI i))) (by omega)
      have hs : vs_fr (fun i => vs_fr (vy_q b sp s i) i 0) (k + 1) i = (vs_fr (vy_q b sp s i) i 0 && vs_fr (fun i => vs_fr (vy_q b sp s i) i 0) k (i + 1)) := rfl
      rw [hs]
      rw [show nI 0 = (0 : Int32) from rfl] at h2
      conv => lhs; unfold xb_Mo_areAllTrue_3
      simp only [xr_all, xf_all, if_true, if_false, true_or, or_true, eq_self, ite_not, Bool.false_eq_true, ite_self, and_self, true_and, and_true, false_and, and_false, not_true_eq_false, not_false_eq_true, xj_Mo_areAllTrue, xb_Mo_areAllTrue_0, xb_Mo_areAllTrue_53, xb_Mo_areAllTrue_59, xb_Mo_areAllTrue_65, g1, h2, h1]
      cases vs_fr (vy_q b sp s i) i 0 <;> simp
  rw [xe_Mo_areAllTrue]
  simp only [xr_all, xf_all, if_true, if_false, true_or, or_true, eq_self, ite_not, Bool.false_eq_true, ite_self, and_self, true_and, and_true, false_and, and_false, not_true_eq_false, not_false_eq_true, xj_Mo_areAllTrue, xb_Mo_areAllTrue_0, xb_Mo_areAllTrue_53, xb_Mo_areAllTrue_59, xb_Mo_areAllTrue_65]
  exact outer n 0 none (by omega)
theorem vy_same (b : Nat → Nat) (sp : Nat) {n s : Nat} (hn2 : n ≤ 12) (hs : s < 2 ^ n) : vs_fr (vy_p (vy_X b sp n) s) n 0 = vs_fr (fun i => vs_fr (vy_q b sp s i) i 0) n 0 := by
  have hp12 : 2 ^ n ≤ 2 ^ 12 := Nat.pow_le_pow_right (by omega) hn2
  have hbit : ∀ i, s.testBit i = true → i < n := fun i hi => by
    rcases Nat.lt_or_ge i n with q | q
    · exact q
    · rw [Nat.testBit_lt_two_pow (Nat.lt_of_lt_of_le hs (Nat.pow_le_pow_right (by omega) q))] at hi; cases hi
  have e1 : vs_fr (vy_p (vy_X b sp n) s) n 0 = true ↔ ∀ i j, s.testBit i = true → s.testBit j = true → vy_ok b sp i j = true := by
    rw [vs_fri]
    constructor
    · intro h i j hi hj
      have h1 := h i (Nat.zero_le i) (by have := hbit i hi; omega)
      unfold vy_p at h1
      rw [hi, Bool.not_true, Bool.false_or] at h1
      have h2 := (vy_sub (a := s) (b := vy_X b sp n i) (by omega) (by have := vy_m_lt (fun j => vy_ok b sp i j) n; unfold vy_X; omega)).mp (of_decide_eq_true h1) j hj
      unfold vy_X at h2
      rw [vy_m_tb _ n j (hbit j hj)] at h2
      exact h2
    · intro h i _ hi2
      unfold vy_p
      cases hi : s.testBit i with
      | false => rfl
      | true =>
        rw [Bool.not_true, Bool.false_or]
        apply decide_eq_true
        refine (vy_sub (a := s) (b := vy_X b sp n i) (by omega) (by have := vy_m_lt (fun j => vy_ok b sp i j) n; unfold vy_X; omega)).mpr (fun j hj => ?_)
        unfold vy_X
        rw [vy_m_tb _ n j (hbit j hj)]
        exact h i j hi hj
  have e2 : vs_fr (fun i => vs_fr (vy_q b sp s i) i 0) n 0 = true ↔ ∀ i j, s.testBit i = true → s.testBit j = true → vy_ok b sp i j = true := by
    rw [vs_fri]
    constructor
    · intro h
      have key : ∀ i j, j < i → s.testBit i = true → s.testBit j = true → vy_ok b sp i j = true := by
        intro i j hji hi hj
        have h1 := h i (Nat.zero_le i) (by have := hbit i hi; omega)
        rw [vs_fri] at h1
        have h2 := h1 j (Nat.zero_le j) (by omega)
        unfold vy_q at h2
        rw [hi, hj] at h2
        cases ho : vy_ok b sp i j with
        | true => rfl
        | false => rw [ho] at h2; cases h2
      intro i j hi hj
      rcases Nat.lt_trichotomy i j with q | q | q
      · rw [vy_oks]; exact key j i q hj hi
      · rw [q]; exact vy_okr b sp j
      · exact key i j q hi hj
    · intro h i _ hi2
      rw [vs_fri]
      intro j _ hj2
      unfold vy_q
      cases hi : s.testBit i with
      | false => rfl
      | true =>
        cases hj : s.testBit j with
        | false => rfl
        | true => rw [h i j hi hj]; rfl
  cases h1 : vs_fr (vy_p (vy_X b sp n) s) n 0 with
  | true => exact (e2.mpr (e1.mp h1)).symm
  | false =>
    cases h2 : vs_fr (fun i => vs_fr (vy_q b sp s i) i 0) n 0 with
    | false => rfl
    | true => rw [e1.mpr (e2.mp h2)] at h1; cases h1
def vy_G (ok : Nat → Bool) : Nat → Nat
  | 0 => 0
  | s + 1 => if vb_ct (s + 1) 32 ≤ vb_ct (vy_G ok s) 32 then vy_G ok s else if ok (s + 1) = true then s + 1 else vy_G ok s
theorem vy_Gs (ok : Nat → Bool) (s : Nat) : vy_G ok (s + 1) = if vb_ct (s + 1) 32 ≤ vb_ct (vy_G ok s) 32 then vy_G ok s else if ok (s + 1) = true then s + 1 else vy_G ok s := rfl
theorem vy_G_le (ok : Nat → Bool) (s : Nat) : vy_G ok s ≤ s := by
  induction s with
  | zero => exact Nat.le_refl 0
  | succ s ih =>
    rw [vy_Gs]
    split
    · omega
    · split <;> omega
theorem vy_G_c {ok ok' : Nat → Bool} : ∀ (s : Nat), (∀ q, q ≤ s → ok q = ok' q) → vy_G ok s = vy_G ok' s := by
  intro s
  induction s with
  | zero => intro _; rfl
  | succ s ih =>
    intro h
    rw [vy_Gs, vy_Gs, ih (fun q hq => h q (by omega)), h (s + 1) (Nat.le_refl _)]
