/-! PAIR: world -/
theorem vl_wldM1 (ro : xv_Ro) (d : Nat) (z : Nat × Nat) (M : Nat → Nat → Int32) (J : Nat → Nat → Int64) (x1 x2 : Int32) (S : Int64) {X : Nat → Nat} (hX : ∀ v, v < 32 → J 194 v = lN (X v)) (hb : ∀ v, X v ≤ 100000000000000000) : xv_ev ro d xm_Mo_world xb_Mo_world_43 [some (.ref 167), some (.int x1), some (.int x2), some (.long S), none, some (.int 0), some (.int 0), some (.int 1)] [] (z, xv_mk M J) = xv_ev ro d xm_Mo_world xb_Mo_world_81 [some (.ref 167), some (.int x1), some (.int x2), some (.long S), none, some (.int (nI (vw_b X 31))), some (.int 0), some (.int 0)] [] (z, xv_mk M J) := by
  have hl := vz_iter (fun i => xv_ev ro d xm_Mo_world xb_Mo_world_43 [some (.ref 167), some (.int x1), some (.int x2), some (.long S), none, some (.int (nI (vw_b X i))), some (.int 0), some (.int (nI (i + 1)))] [] (z, xv_mk M J)) 31 (fun i hi => by
    have hs : vw_b X (i + 1) = if X (i + 1) ≤ X (vw_b X i) then vw_b X i else i + 1 := rfl
    have hle := vw_b_le X i
    have h1 : (32 ≤ nI (i + 1)) = False := by (simp (disch := omega) only [vz_all, if_true, if_false, true_or, or_true, eq_self, ite_not, Bool.false_eq_true, ite_self, and_self, true_and, and_true, false_and, and_false, not_true_eq_false, not_false_eq_true, false_or, or_false])
    have h2 : xv_inB (nI (i + 1)) 32 = true := by (simp (disch := omega) only [vz_all, if_true, if_false, true_or, or_true, eq_self, ite_not, Bool.false_eq_true, ite_self, and_self, true_and, and_true, false_and, and_false, not_true_eq_false, not_false_eq_true, false_or, or_false])
    have h3 : xv_inB (nI (vw_b X i)) 32 = true := by (simp (disch := omega) only [vz_all, if_true, if_false, true_or, or_true, eq_self, ite_not, Bool.false_eq_true, ite_self, and_self, true_and, and_true, false_and, and_false, not_true_eq_false, not_false_eq_true, false_or, or_false])
    have e1 := hX (i + 1) (by omega)
    have e2 := hX (vw_b X i) (by omega)
    have b1 := hb (i + 1)
    have b2 := hb (vw_b X i)
    have g := vl_cLe (a := X (i + 1)) (b := X (vw_b X i)) (by omega) (by omega)
    rw [hs]
    generalize vw_b X i = B at *
    conv => lhs; unfold xb_Mo_world_43
    by_cases c : X (i + 1) ≤ X B
    · simp only [xr_all, xf_all, if_true, if_false, true_or, or_true, eq_self, ite_not, Bool.false_eq_true, ite_self, and_self, true_and, and_true, false_and, and_false, not_true_eq_false, not_false_eq_true, xj_Mo_world, xb_Mo_world_0, xb_Mo_world_17, xb_Mo_world_19, xb_Mo_world_34, xb_Mo_world_72, xb_Mo_world_78, xb_Mo_world_117, xb_Mo_world_123, xb_Mo_world_132, xb_Mo_world_134, h1, h2, h3, nI_clamp (show i + 1 < 2 ^ 31 by omega), nI_clamp (show B < 2 ^ 31 by omega), e1, e2, g, c, nI_1]
    · simp only [xr_all, xf_all, if_true, if_false, true_or, or_true, eq_self, ite_not, Bool.false_eq_true, ite_self, and_self, true_and, and_true, false_and, and_false, not_true_eq_false, not_false_eq_true, xj_Mo_world, xb_Mo_world_0, xb_Mo_world_17, xb_Mo_world_19, xb_Mo_world_34, xb_Mo_world_72, xb_Mo_world_78, xb_Mo_world_117, xb_Mo_world_123, xb_Mo_world_132, xb_Mo_world_134, h1, h2, h3, nI_clamp (show i + 1 < 2 ^ 31 by omega), nI_clamp (show B < 2 ^ 31 by omega), e1, e2, g, c, nI_1])
  have e0 : vw_b X 0 = 0 := rfl
  rw [e0, show nI (0 + 1) = (1 : Int32) from rfl, show nI 0 = (0 : Int32) from rfl] at hl
  rw [hl]
  generalize vw_b X 31 = B
  conv => lhs; unfold xb_Mo_world_43
  have h1 : (32 ≤ nI (31 + 1)) = True := eq_true (by decide)
  simp only [xr_all, xf_all, if_true, if_false, true_or, or_true, eq_self, ite_not, Bool.false_eq_true, ite_self, and_self, true_and, and_true, false_and, and_false, not_true_eq_false, not_false_eq_true, xj_Mo_world, xb_Mo_world_0, xb_Mo_world_17, xb_Mo_world_19, xb_Mo_world_34, xb_Mo_world_72, xb_Mo_world_78, xb_Mo_world_117, xb_Mo_world_123, xb_Mo_world_132, xb_Mo_world_134, h1]
theorem vl_wldM2 (ro : xv_Ro) (d : Nat) (z : Nat × Nat) (M : Nat → Nat → Int32) (J : Nat → Nat → Int64) (x1 x2 B0 : Int32) {X : Nat → Nat} (hX : ∀ v, v < 32 → J 194 v = lN (X v)) (hb : ∀ v, X v ≤ 100000000000000000) : xv_ev ro (d + 2) xm_Mo_world xb_Mo_world_81 [some (.ref 167), some (.int x1), some (.int x2), some (.long (lN (vg_S X (fun _ => true) 32))), none, some (.int B0), some (.int 0), some (.int 0)] [] (z, xv_mk M J) = some (some (.int (if x2 = 0 then B0 else nI (vw_f X 5))), (z, xv_mk M J)) := by
  have hl := vz_iter (fun i => xv_ev ro (d + 2) xm_Mo_world xb_Mo_world_81 [some (.ref 167), some (.int x1), some (.int x2), some (.long (lN (vg_S X (fun _ => true) 32))), none, some (.int B0), some (.int (nI (vw_f X i))), some (.int (nI i))] [] (z, xv_mk M J)) 5 (fun i hi => by
    have hs : vw_f X (i + 1) = if 2 * vg_S X (fun v => (vq_N (xv_wof i)).testBit v) 32 ≤ vg_S X (fun _ => true) 32 then vw_f X i else vw_f X i + 2 ^ i := rfl
    have h1 : (5 ≤ nI i) = False := by (simp (disch := omega) only [vz_all, if_true, if_false, true_or, or_true, eq_self, ite_not, Bool.false_eq_true, ite_self, and_self, true_and, and_true, false_and, and_false, not_true_eq_false, not_false_eq_true, false_or, or_false])
    have h2 : 97 + nI i = nI (97 + i) := by (simp (disch := omega) only [vz_all, if_true, if_false, true_or, or_true, eq_self, ite_not, Bool.false_eq_true, ite_self, and_self, true_and, and_true, false_and, and_false, not_true_eq_false, not_false_eq_true, false_or, or_false])
    have hwo := xq_worldsOf ro d (z, xv_mk M J) hi
    have hw := xq_weightIn ro d z M J (xv_wof i) hX
    have b1 := vg_S_lt hb (fun v => (vq_N (xv_wof i)).testBit v)
    have b2 := vg_S_lt hb (fun _ => true)
    have hset := vb_setI (vw_f_lt X i) (show i ≤ 20 by omega)
    have m2 : (2 : Int64) * lN (vg_S X (fun v => (vq_N (xv_wof i)).testBit v) 32) = lN (2 * vg_S X (fun v => (vq_N (xv_wof i)).testBit v) 32) := lN_mul 2 _
    rw [hs]
    generalize vg_S X (fun v => (vq_N (xv_wof i)).testBit v) 32 = A at *
    generalize vg_S X (fun _ => true) 32 = B at *
    have g := vl_cLe (a := 2 * A) (b := B) (by omega) (by omega)
    conv => lhs; unfold xb_Mo_world_81
    by_cases c : 2 * A ≤ B
    · simp only [xr_all, xf_all, if_true, if_false, true_or, or_true, eq_self, ite_not, Bool.false_eq_true, ite_self, and_self, true_and, and_true, false_and, and_false, not_true_eq_false, not_false_eq_true, xj_Mo_world, xb_Mo_world_0, xb_Mo_world_17, xb_Mo_world_19, xb_Mo_world_34, xb_Mo_world_72, xb_Mo_world_78, xb_Mo_world_117, xb_Mo_world_123, xb_Mo_world_132, xb_Mo_world_134, h1, h2, hwo, hw, m2, g, c, nI_1]
    · simp only [xr_all, xf_all, if_true, if_false, true_or, or_true, eq_self, ite_not, Bool.false_eq_true, ite_self, and_self, true_and, and_true, false_and, and_false, not_true_eq_false, not_false_eq_true, xj_Mo_world, xb_Mo_world_0, xb_Mo_world_17, xb_Mo_world_19, xb_Mo_world_34, xb_Mo_world_72, xb_Mo_world_78, xb_Mo_world_117, xb_Mo_world_123, xb_Mo_world_132, xb_Mo_world_134, h1, h2, hwo, hw, m2, g, c, hset, nI_1])
  have e0 : vw_f X 0 = 0 := rfl
  rw [e0, show nI 0 = (0 : Int32) from rfl] at hl
  rw [hl]
  generalize vw_f X 5 = B
  conv => lhs; unfold xb_Mo_world_81
  have h1 : (5 ≤ nI 5) = True := eq_true (by decide)
  by_cases c : x2 = 0
  · simp only [xr_all, xf_all, if_true, if_false, true_or, or_true, eq_self, ite_not, Bool.false_eq_true, ite_self, and_self, true_and, and_true, false_and, and_false, not_true_eq_false, not_false_eq_true, xj_Mo_world, xb_Mo_world_0, xb_Mo_world_17, xb_Mo_world_19, xb_Mo_world_34, xb_Mo_world_72, xb_Mo_world_78, xb_Mo_world_117, xb_Mo_world_123, xb_Mo_world_132, xb_Mo_world_134, h1, c]
  · simp only [xr_all, xf_all, if_true, if_false, true_or, or_true, eq_self, ite_not, Bool.false_eq_true, ite_self, and_self, true_and, and_true, false_and, and_false, not_true_eq_false, not_false_eq_true, xj_Mo_world, xb_Mo_world_0, xb_Mo_world_17, xb_Mo_world_19, xb_Mo_world_34, xb_Mo_world_72, xb_Mo_world_78, xb_Mo_world_117, xb_Mo_world_123, xb_Mo_world_132, xb_Mo_world_134, h1, c]
theorem xp_15 (VL : xv_LP) (hV : vi_Lc VL) (hA : vl_hA VL) : xl_P15 (vi_all VL) := by
  intro x1 x2 ro I J hro hI
  obtain ⟨n, n1, n2, n3, n4, n5, q4, q, q1, q2, q3⟩ := vh_A hI
  have z1 : ((1 : Int32) = 0) = False := eq_false (by decide)
  have hr : ro 1000000 = some (5, xv_wof) := by have := hro 1000000; rw [if_pos rfl] at this; exact this
  rcases vh_can n n1 x1 with ⟨s, hs, hs2, h6, rfl, c1, c2⟩ | ⟨c1, c2⟩
  rotate_left
  · have c1 := c1 ro 196 xv_SZ I J n2
    have c2 := c2 ro 195 xv_SZ I J n3
    refine ⟨-1, I, J, I, J, ?_, ?_, hI⟩
    · rw [xe_Ct_world]
      simp only [xr_all, xf_all, if_true, if_false, true_or, or_true, eq_self, ite_not, Bool.false_eq_true, ite_self, and_self, true_and, and_true, false_and, and_false, not_true_eq_false, not_false_eq_true, xj_Ct_world, xb_Ct_world_0, xb_Ct_world_17, xb_Ct_world_19, xb_Ct_world_39, xb_Ct_world_53, xb_Ct_world_60, c1]
    · rw [xe_Mo_world]
      simp only [xr_all, xf_all, if_true, if_false, true_or, or_true, eq_self, ite_not, Bool.false_eq_true, ite_self, and_self, true_and, and_true, false_and, and_false, not_true_eq_false, not_false_eq_true, xj_Mo_world, xb_Mo_world_0, xb_Mo_world_17, xb_Mo_world_19, xb_Mo_world_34, xb_Mo_world_72, xb_Mo_world_78, xb_Mo_world_117, xb_Mo_world_123, xb_Mo_world_132, xb_Mo_world_134, c2]
  · have c1 := c1 ro 196 xv_SZ I J n2
    have c2 := fun (M : Nat → Nat → Int32) (J : Nat → Nat → Int64) (h : M 168 301 = nI n) => c2 ro 195 xv_SZ M J h
    have hin3 := vn_01 x2
    by_cases h01 : x2 = 0 ∨ x2 = 1
    rotate_left
    · have z2 : (x2 = 0) = False := eq_false (fun q => h01 (Or.inl q))
      have z3 : (x2 = 1) = False := eq_false (fun q => h01 (Or.inr q))
      have hin : (0 ≤ x2 ∧ x2 ≤ 1) = False := by
        rcases hin3 with ⟨h, -⟩ | ⟨h, -⟩ | ⟨-, -, h⟩
        · exact absurd (Or.inl h) h01
        · exact absurd (Or.inr h) h01
        · exact h
      refine ⟨-1, I, J, I, J, ?_, ?_, hI⟩
      · rw [xe_Ct_world]
        simp only [xr_all, xf_all, if_true, if_false, true_or, or_true, eq_self, ite_not, Bool.false_eq_true, ite_self, and_self, true_and, and_true, false_and, and_false, not_true_eq_false, not_false_eq_true, xj_Ct_world, xb_Ct_world_0, xb_Ct_world_17, xb_Ct_world_19, xb_Ct_world_39, xb_Ct_world_53, xb_Ct_world_60, z1, c1, z2, z3]
      · rw [xe_Mo_world]
        simp only [xr_all, xf_all, if_true, if_false, true_or, or_true, eq_self, ite_not, Bool.false_eq_true, ite_self, and_self, true_and, and_true, false_and, and_false, not_true_eq_false, not_false_eq_true, xj_Mo_world, xb_Mo_world_0, xb_Mo_world_17, xb_Mo_world_19, xb_Mo_world_34, xb_Mo_world_72, xb_Mo_world_78, xb_Mo_world_117, xb_Mo_world_123, xb_Mo_world_132, xb_Mo_world_134, z1, c2 I J n3, xq_Mo_in, hin]
    · have hin : (0 ≤ x2 ∧ x2 ≤ 1) = True := by
        rcases hin3 with ⟨-, h⟩ | ⟨-, h⟩ | ⟨g1, g2, -⟩
        · exact h
        · exact h
        · rcases h01 with h | h
          · exact absurd h g1.mp
          · exact absurd h g2.mp
      obtain ⟨X, hX, hpk⟩ := vh_wpack hA hI n2 n1 n4 hs h6
      obtain ⟨C1, J1, b1, b2, b3, b4, b5⟩ := hpk ro xv_SZ
      obtain ⟨M1, b6, b7⟩ := b5 193
      have hbd := vg_S_lt hX (fun _ => true)
      have c3 := c2 C1 J1 (by rw [b1 168 (by omega)]; exact n3)
      have hal := xq_all ro 197 xv_SZ C1 J1 b3
      have hhe := xq_heaviest ro 198 xv_SZ C1 J1 b3 hX
      have hlf := xq_likelyFacts ro hr 196 xv_SZ C1 J1 b3 hX
      have hm1 := vl_wldM1 ro 199 xv_SZ M1 (vg_J J1 194 X 32) (nI s) x2 (lN (vg_S X (fun _ => true) 32)) (X := X) (fun v hv => vg_Ji _ _ _ hv) hX
      have hm2 := vl_wldM2 ro 197 xv_SZ M1 (vg_J J1 194 X 32) (nI s) x2 (nI (vw_b X 31)) (X := X) (fun v hv => vg_Ji _ _ _ hv) hX
      rw [hm2] at hm1
      clear hm2
      generalize vg_S X (fun _ => true) 32 = B at *
      have g := vl_c0 (show B < 2 ^ 63 by omega)
      have z0 : (lg_cmp (lN 0) 0 = 0) = True := eq_true (by decide)
      by_cases cB : B = 0
      · subst cB
        refine ⟨-2, C1, J1, M1, vg_J J1 194 X 32, ?_, ?_, vh_back hV hI b1 b2 b6⟩
        · rw [xe_Ct_world]
          rcases h01 with h | h
          · simp only [xr_all, xf_all, if_true, if_false, true_or, or_true, eq_self, ite_not, Bool.false_eq_true, ite_self, and_self, true_and, and_true, false_and, and_false, not_true_eq_false, not_false_eq_true, xj_Ct_world, xb_Ct_world_0, xb_Ct_world_17, xb_Ct_world_19, xb_Ct_world_39, xb_Ct_world_53, xb_Ct_world_60, z1, c1, h, b4, hal, z0]
          · simp only [xr_all, xf_all, if_true, if_false, true_or, or_true, eq_self, ite_not, Bool.false_eq_true, ite_self, and_self, true_and, and_true, false_and, and_false, not_true_eq_false, not_false_eq_true, xj_Ct_world, xb_Ct_world_0, xb_Ct_world_17, xb_Ct_world_19, xb_Ct_world_39, xb_Ct_world_53, xb_Ct_world_60, z1, c1, h, b4, hal, z0]
        · rw [xe_Mo_world]
          simp only [xr_all, xf_all, if_true, if_false, true_or, or_true, eq_self, ite_not, Bool.false_eq_true, ite_self, and_self, true_and, and_true, false_and, and_false, not_true_eq_false, not_false_eq_true, xj_Mo_world, xb_Mo_world_0, xb_Mo_world_17, xb_Mo_world_19, xb_Mo_world_34, xb_Mo_world_72, xb_Mo_world_78, xb_Mo_world_117, xb_Mo_world_123, xb_Mo_world_132, xb_Mo_world_134, z1, c3, xq_Mo_in, hin, b7, z0]
      · refine ⟨if x2 = 0 then nI (vw_b X 31) else nI (vw_f X 5), C1, J1, M1, vg_J J1 194 X 32, ?_, ?_, vh_back hV hI b1 b2 b6⟩
        · rw [xe_Ct_world]
          rcases h01 with h | h
          · simp only [xr_all, xf_all, if_true, if_false, true_or, or_true, eq_self, ite_not, Bool.false_eq_true, ite_self, and_self, true_and, and_true, false_and, and_false, not_true_eq_false, not_false_eq_true, xj_Ct_world, xb_Ct_world_0, xb_Ct_world_17, xb_Ct_world_19, xb_Ct_world_39, xb_Ct_world_53, xb_Ct_world_60, z1, c1, h, b4, hal, g, cB, hhe]
          · simp only [xr_all, xf_all, if_true, if_false, true_or, or_true, eq_self, ite_not, Bool.false_eq_true, ite_self, and_self, true_and, and_true, false_and, and_false, not_true_eq_false, not_false_eq_true, xj_Ct_world, xb_Ct_world_0, xb_Ct_world_17, xb_Ct_world_19, xb_Ct_world_39, xb_Ct_world_53, xb_Ct_world_60, z1, c1, h, b4, hal, g, cB, hlf]
        · rw [xe_Mo_world]
          simp only [xr_all, xf_all, if_true, if_false, true_or, or_true, eq_self, ite_not, Bool.false_eq_true, ite_self, and_self, true_and, and_true, false_and, and_false, not_true_eq_false, not_false_eq_true, xj_Mo_world, xb_Mo_world_0, xb_Mo_world_17, xb_Mo_world_19, xb_Mo_world_34, xb_Mo_world_72, xb_Mo_world_78, xb_Mo_world_117, xb_Mo_world_123, xb_Mo_world_132, xb_Mo_world_134, z1, c3, xq_Mo_in, hin, b7, g, cB]
          exact hm1
/-! PAIR: askNext -/
def vw_d (a b : Nat) : Nat := if b ≤ a then a - b else b - a
theorem vw_neg {a b : Nat} (ha : a < 2 ^ 63) (hb : b < 2 ^ 63) (h : a < b) : lN a - lN b = -lN (b - a) ∧ lN a - lN b < 0 := by
  have e : lN a - lN b = -lN (b - a) := by
    rw [← lN_sub (show a ≤ b by omega), Int64.neg_sub]
  refine ⟨e, ?_⟩
  rw [e, Int64.lt_iff_toInt_lt, Int64.toInt_neg, pk_lT (by omega)]
  have e0 : (0 : Int64).toInt = 0 := by decide
  rw [e0, Int.bmod_eq_of_le (by omega) (by omega)]
  omega
theorem vw_absC {a b : Nat} (ha : a < 2 ^ 63) (hb : b < 2 ^ 63) : (if 0 < lN a - lN b then lN a - lN b else -(lN a - lN b)) = lN (vw_d a b) := by
  unfold vw_d
  by_cases h : b ≤ a
  · rw [if_pos h, lN_sub h]
    by_cases h2 : a - b = 0
    · rw [h2]; decide
    · have : (0 : Int64) < lN (a - b) := (pk_lLT (a := 0) (by omega) (by omega)).mpr (by omega)
      rw [if_pos this]
  · obtain ⟨e1, e2⟩ := vw_neg ha hb (by omega)
    rw [if_neg h, if_neg (by rw [Int64.not_lt]; exact Int64.le_of_lt e2), Int64.neg_sub, lN_sub (by omega)]
theorem vw_absM {a b : Nat} (ha : a < 2 ^ 63) (hb : b < 2 ^ 63) : (b ≤ a ∧ (0 ≤ lg_cmp (lN a - lN b) 0) = True ∧ lN a - lN b = lN (vw_d a b)) ∨ ((0 ≤ lg_cmp (lN a - lN b) 0) = False ∧ -(lN a - lN b) = lN (vw_d a b)) := by
  unfold vw_d
  by_cases h : b ≤ a
  · left
    rw [if_pos h, lN_sub h]
    refine ⟨h, eq_true ?_, rfl⟩
    have := vl_cGe (a := a - b) (b := 0) (by omega) (by omega)
    rw [show lN 0 = (0 : Int64) from rfl] at this
    rw [this]; omega
  · right
    obtain ⟨e1, e2⟩ := vw_neg ha hb (by omega)
    rw [if_neg h, Int64.neg_sub, lN_sub (show a ≤ b by omega)]
    refine ⟨eq_false ?_, rfl⟩
    unfold lg_cmp
    have h1 : ¬ lN a - lN b > 0 := by show ¬ 0 < lN a - lN b; rw [Int64.not_lt]; exact Int64.le_of_lt e2
    have h2 : ¬ lN a - lN b = 0 := by intro q; rw [q] at e2; revert e2; decide
    rw [if_neg h1, if_neg h2]
    decide
def vw_o (q : Nat) (D : Nat → Nat) : Nat → Option (Nat × Nat)
  | 0 => none
  | k + 1 => if q.testBit k = true then (match vw_o q D k with
    | none => some (k, D k)
    | some (b, l) => if l ≤ D k then some (b, l) else some (k, D k)) else vw_o q D k
def vw_o1 : Option (Nat × Nat) → Int32
  | none => -2
  | some (b, _) => nI b
def vw_o2 : Option (Nat × Nat) → Int64
  | none => 0
  | some (_, l) => lN l
theorem vw_o_lt (q : Nat) (D : Nat → Nat) (hD : ∀ k, D k < 2 ^ 63) : ∀ k b l, vw_o q D k = some (b, l) → b < k ∧ l < 2 ^ 63 := by
  intro k
  induction k with
  | zero => intro b l h; cases h
  | succ k ih =>
    intro b l h
    have hs : vw_o q D (k + 1) = if q.testBit k = true then (match vw_o q D k with
      | none => some (k, D k)
      | some (b, l) => if l ≤ D k then some (b, l) else some (k, D k)) else vw_o q D k := rfl
    rw [hs] at h
    by_cases c : q.testBit k = true
    · rw [if_pos c] at h
      cases e : vw_o q D k with
      | none =>
        rw [e] at h
        have h := Option.some.inj h
        rw [Prod.mk.injEq] at h
        exact ⟨by omega, by rw [← h.2]; exact hD k⟩
      | some bl =>
        obtain ⟨b', l'⟩ := bl
        rw [e] at h
        dsimp only at h
        have := ih b' l' e
        by_cases c2 : l' ≤ D k
        · rw [if_pos c2] at h
          have h := Option.some.inj h
          rw [Prod.mk.injEq] at h
          exact ⟨by omega, by omega⟩
        · rw [if_neg c2] at h
          have h := Option.some.inj h
          rw [Prod.mk.injEq] at h
          exact ⟨by omega, by rw [← h.2]; exact hD k⟩
    · rw [if_neg c] at h
      have := ih b l h
      exact ⟨by omega, this.2⟩
