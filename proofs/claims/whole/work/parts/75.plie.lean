/-! PAIR: lie; worlds of a fact; the heaviest, the likely facts -/
theorem vh_4c {I C1 : Nat → Nat → Int32} {n : Nat} (hn : n ≤ 20) (b1 : ∀ a, a ≠ 21 → C1 a = I a) (h : vh_4 I n) : vh_4 C1 n := by
  intro i hi
  rw [b1 (25 + 23 + i) (by omega), b1 168 (by omega)]
  exact h i hi
theorem vf_fc {I C1 : Nat → Nat → Int32} (b1 : ∀ a, a ≠ 21 → C1 a = I a) (i : Nat) : vf_f C1 i = vf_f I i := by
  unfold vf_f
  rw [b1 168 (by omega), b1 4 (by omega)]
theorem vn_inN (n : Nat) (hn : n ≤ 20) (x : Int32) : (0 ≤ x ∧ x ≤ nI n - 1) ↔ ∃ i : Nat, i < n ∧ x = nI i := by
  cases n with
  | zero =>
    constructor
    · rintro ⟨q1, q2⟩
      exfalso
      rw [nI_0, Int32.le_iff_toInt_le] at q2
      rw [Int32.le_iff_toInt_le] at q1
      have e : ((0 : Int32) - 1).toInt = -1 := by decide
      rw [e] at q2
      have e0 : (0 : Int32).toInt = 0 := by decide
      omega
    · rintro ⟨i, hi, -⟩; omega
  | succ n =>
    rw [nI_pred, vn_in (by omega)]
    constructor
    · rintro ⟨j, hj, q⟩; exact ⟨j, by omega, q⟩
    · rintro ⟨j, hj, q⟩; exact ⟨j, by omega, q⟩
theorem xp_14 (VL : xv_LP) (hV : vi_Lc VL) (hA : vl_hA VL) : xl_P14 (vi_all VL) := by
  intro x0 x1 x2 ro I J hro hI
  obtain ⟨n, n1, n2, n3, n4, n5, q4, q, q1, q2, q3⟩ := vh_A hI
  have z1 : ((1 : Int32) = 0) = False := eq_false (by decide)
  have i301 : xv_inB 301 304 = true := by decide
  have c301 : (301 : Int32).toNatClampNeg = 301 := by decide
  have hin0 := vn_inN n n1 x0
  by_cases hk : ∃ i : Nat, i < n ∧ x0 = nI i
  rotate_left
  · have h0 : (0 ≤ x0 ∧ x0 ≤ nI n - 1) = False := eq_false (fun q => hk (hin0.mp q))
    refine ⟨-1, I, J, I, J, ?_, ?_, hI⟩
    · rw [xe_Ct_lie]
      simp only [xr_all, xf_all, if_true, if_false, true_or, or_true, eq_self, ite_not, Bool.false_eq_true, ite_self, and_self, true_and, and_true, false_and, and_false, not_true_eq_false, not_false_eq_true, xj_Ct_lie, xb_Ct_lie_0, xb_Ct_lie_32, xb_Ct_lie_36, xb_Ct_lie_64, xb_Ct_lie_65, xq_Archive_answer_no ro 198 xv_SZ I J (A := 25) (Or.inl rfl) n2 n1 hk]
    · rw [xe_Mo_lie]
      simp only [xr_all, xf_all, if_true, if_false, true_or, or_true, eq_self, ite_not, Bool.false_eq_true, ite_self, and_self, true_and, and_true, false_and, and_false, not_true_eq_false, not_false_eq_true, xj_Mo_lie, xb_Mo_lie_0, xb_Mo_lie_35, xb_Mo_lie_39, xq_Mo_in, i301, c301, n3, h0]
  · have h0 : (0 ≤ x0 ∧ x0 ≤ nI n - 1) = True := eq_true (hin0.mpr hk)
    obtain ⟨i, hi, rfl⟩ := hk
    have t1 := xq_Archive_answer ro 198 xv_SZ I J (A := 25) (Or.inl rfl) n2 n1 hi
    have hN := vAr_N (A := 25) (Or.inl rfl) (show i < 20 by omega)
    rcases vh_can n n1 x1 with ⟨s, hs, hs2, h6, rfl, c1, c2⟩ | ⟨c1, c2⟩
    rotate_left
    · have c1 := c1 ro 196 xv_SZ I J n2
      have c2 := c2 ro 195 xv_SZ I J n3
      refine ⟨-1, I, J, I, J, ?_, ?_, hI⟩
      · rw [xe_Ct_lie]
        simp only [xr_all, xf_all, if_true, if_false, true_or, or_true, eq_self, ite_not, Bool.false_eq_true, ite_self, and_self, true_and, and_true, false_and, and_false, not_true_eq_false, not_false_eq_true, xj_Ct_lie, xb_Ct_lie_0, xb_Ct_lie_32, xb_Ct_lie_36, xb_Ct_lie_64, xb_Ct_lie_65, t1, c1]
      · rw [xe_Mo_lie]
        simp only [xr_all, xf_all, if_true, if_false, true_or, or_true, eq_self, ite_not, Bool.false_eq_true, ite_self, and_self, true_and, and_true, false_and, and_false, not_true_eq_false, not_false_eq_true, xj_Mo_lie, xb_Mo_lie_0, xb_Mo_lie_35, xb_Mo_lie_39, xq_Mo_in, i301, c301, n3, h0, z1, c2]
    · have c1 := c1 ro 196 xv_SZ I J n2
      have c2 := fun (M : Nat → Nat → Int32) (J : Nat → Nat → Int64) (h : M 168 301 = nI n) => c2 ro 195 xv_SZ M J h
      have hin3 := vn_01 x2
      by_cases h01 : x2 = 0 ∨ x2 = 1
      rotate_left
      · have z2 : (x2 = 0) = False := eq_false (fun q => h01 (Or.inl q))
        have z3 : (x2 = 1) = False := eq_false (fun q => h01 (Or.inr q))
        have hin : (0 ≤ x2 ∧ x2 ≤ 1) = False := by
          rcases hin3 with ⟨h, -⟩ | ⟨h, -⟩ | ⟨-, -, h⟩
          · exact absurd (Or.inl h) h01
          · exact absurd (Or.inr h) h01
          · exact h
        refine ⟨-1, I, J, I, J, ?_, ?_, hI⟩
        · rw [xe_Ct_lie]
          simp only [xr_all, xf_all, if_true, if_false, true_or, or_true, eq_self, ite_not, Bool.false_eq_true, ite_self, and_self, true_and, and_true, false_and, and_false, not_true_eq_false, not_false_eq_true, xj_Ct_lie, xb_Ct_lie_0, xb_Ct_lie_32, xb_Ct_lie_36, xb_Ct_lie_64, xb_Ct_lie_65, t1, z1, c1, z2, z3]
        · rw [xe_Mo_lie]
          simp only [xr_all, xf_all, if_true, if_false, true_or, or_true, eq_self, ite_not, Bool.false_eq_true, ite_self, and_self, true_and, and_true, false_and, and_false, not_true_eq_false, not_false_eq_true, xj_Mo_lie, xb_Mo_lie_0, xb_Mo_lie_35, xb_Mo_lie_39, xq_Mo_in, i301, c301, n3, h0, z1, c2 I J n3, hin]
      · have hin : (0 ≤ x2 ∧ x2 ≤ 1) = True := by
          rcases hin3 with ⟨-, h⟩ | ⟨-, h⟩ | ⟨g1, g2, -⟩
          · exact h
          · exact h
          · rcases h01 with h | h
            · exact absurd h g1.mp
            · exact absurd h g2.mp
        obtain ⟨X, hX, hpk⟩ := vh_wpack hA hI n2 n1 n4 hs h6
        obtain ⟨C1, J1, b1, b2, b3, b4, b5⟩ := hpk ro xv_SZ
        obtain ⟨M1, b6, b7⟩ := b5 192
        have hfi := xq_Answer_fits ro 197 xv_SZ C1 J1 (vh_4c n1 b1 n4) n1 hi
        rw [vf_fc b1] at hfi
        have hbd := vg_S_lt hX (fun _ => true)
        have hod := xq_oddsOf ro 192 xv_SZ C1 M1 J1 (vf_f I i ^^^ -1) x2 hX b7
        have c3 := c2 C1 J1 (by rw [b1 168 (by omega)]; exact n3)
        have n3' : C1 168 301 = nI n := by rw [b1 168 (by omega)]; exact n3
        have hfm := xq_Mo_fitsOf ro 198 xv_SZ C1 J1 (i := i) (by rw [b1 168 (by omega)]; exact n5 i hi) (fun k hk => by rw [b2 172 (by omega) (by omega), b1 4 (by omega)]; exact q4 k hk) (by omega)
        rw [vf_fc b1] at hfm
        refine ⟨vg_od X (vf_f I i ^^^ -1) x2, C1, J1, M1, vg_J J1 194 X 32, ?_, ?_, vh_back hV hI b1 b2 b6⟩
        rotate_left
        · rw [xe_Mo_lie]
          simp only [xr_all, xf_all, if_true, if_false, true_or, or_true, eq_self, ite_not, Bool.false_eq_true, ite_self, and_self, true_and, and_true, false_and, and_false, not_true_eq_false, not_false_eq_true, xj_Mo_lie, xb_Mo_lie_0, xb_Mo_lie_35, xb_Mo_lie_39, xq_Mo_in, i301, c301, n3', h0, z1, c3, hin, hfm, vq_not, hod]
        · rw [xe_Ct_lie]
          rcases h01 with h | h
          · have hpa := xq_part0 ro 196 xv_SZ C1 J1 (vf_f I i ^^^ -1) b3 (by omega)
            simp only [xr_all, xf_all, if_true, if_false, true_or, or_true, eq_self, ite_not, Bool.false_eq_true, ite_self, and_self, true_and, and_true, false_and, and_false, not_true_eq_false, not_false_eq_true, xj_Ct_lie, xb_Ct_lie_0, xb_Ct_lie_32, xb_Ct_lie_36, xb_Ct_lie_64, xb_Ct_lie_65, t1, z1, c1, h, b4, vN_f hN, hfi, hpa]
          · have hpa := xq_part1 ro 196 xv_SZ C1 J1 (vf_f I i ^^^ -1) b3 (by omega)
            simp only [xr_all, xf_all, if_true, if_false, true_or, or_true, eq_self, ite_not, Bool.false_eq_true, ite_self, and_self, true_and, and_true, false_and, and_false, not_true_eq_false, not_false_eq_true, xj_Ct_lie, xb_Ct_lie_0, xb_Ct_lie_32, xb_Ct_lie_36, xb_Ct_lie_64, xb_Ct_lie_65, t1, z1, c1, h, b4, vN_f hN, hfi, hpa]
/-! the worlds of a fact in the model -/
def vw_m (f : Nat) : Nat → Nat
  | 0 => 0
  | i + 1 => if i.testBit f = true then vw_m f i + 2 ^ i else vw_m f i
theorem vw_m_lt (f i : Nat) : vw_m f i < 2 ^ i := by
  induction i with
  | zero => exact Nat.one_pos
  | succ i ih =>
    show (if i.testBit f = true then vw_m f i + 2 ^ i else vw_m f i) < 2 ^ (i + 1)
    rw [Nat.pow_succ]
    split <;> omega
theorem vw_mw : ∀ f, f < 5 → vw_m f 32 = vq_N (xv_wof f) := by decide +kernel
theorem vl_sh1 : ∀ i, i < 32 → (1 : Int64) <<< ((nI i).toInt64 &&& 63) = lN (2 ^ i) := by decide +kernel
theorem vl_or (a b : Nat) : lN a ||| lN b = lN (a ||| b) := by
  apply Int64.toBitVec_inj.1
  show BitVec.ofNat 64 a ||| BitVec.ofNat 64 b = BitVec.ofNat 64 (a ||| b)
  apply BitVec.eq_of_getLsbD_eq
  intro i hi
  simp [hi]
theorem xq_worldsOf (ro : xv_Ro) (d : Nat) (σ : xv_S) {f : Nat} (hf : f < 5) : xv_evm ro (d + 1) 87 [.int (nI (97 + f))] σ = some (some (.long (vq_L (xv_wof f))), σ) := by
  rw [xe_Mo_worldsOf]
  have g1 : (nI (97 + f) = 48) = False := by (simp (disch := omega) only [vz_all, if_true, if_false, true_or, or_true, eq_self, ite_not, Bool.false_eq_true, ite_self, and_self, true_and, and_true, false_and, and_false, not_true_eq_false, not_false_eq_true, false_or, or_false])
  have g2 : (nI (97 + f) = 49) = False := by (simp (disch := omega) only [vz_all, if_true, if_false, true_or, or_true, eq_self, ite_not, Bool.false_eq_true, ite_self, and_self, true_and, and_true, false_and, and_false, not_true_eq_false, not_false_eq_true, false_or, or_false])
  have g3 : nI (97 + f) - 97 = nI f := by rw [show (97 : Int32) = nI 97 from rfl, pk_sub (by omega), Nat.add_sub_cancel_left]
  simp only [xr_all, xf_all, if_true, if_false, true_or, or_true, eq_self, ite_not, Bool.false_eq_true, ite_self, and_self, true_and, and_true, false_and, and_false, not_true_eq_false, not_false_eq_true, xj_Mo_worldsOf, xb_Mo_worldsOf_0, xb_Mo_worldsOf_8, xb_Mo_worldsOf_18, xb_Mo_worldsOf_46, xb_Mo_worldsOf_52, g1, g2]
  have hl := vz_iter (fun i => xv_ev ro (d + 1) xm_Mo_worldsOf xb_Mo_worldsOf_22 [some (.int (nI (97 + f))), some (.long (lN (vw_m f i))), none, some (.int (nI i))] [] σ) 32 (fun i hi => by
    have hs : vw_m f (i + 1) = if i.testBit f = true then vw_m f i + 2 ^ i else vw_m f i := rfl
    have h1 : (32 ≤ nI i) = False := by (simp (disch := omega) only [vz_all, if_true, if_false, true_or, or_true, eq_self, ite_not, Bool.false_eq_true, ite_self, and_self, true_and, and_true, false_and, and_false, not_true_eq_false, not_false_eq_true, false_or, or_false])
    have h2 := xq_Mo_has ro d σ (m := i) (s := f) (by omega) (by omega)
    have l1 := nI_l (show i < 2 ^ 31 by omega)
    have ho : lN (vw_m f i) ||| lN (2 ^ i) = lN (vw_m f i + 2 ^ i) := by rw [vl_or, vb_set (vw_m_lt f i)]
    conv => lhs; unfold xb_Mo_worldsOf_22
    by_cases c : i.testBit f = true
    · rw [if_pos c] at hs
      rw [vz_b1 c] at h2
      have z1 : ((1 : Int32) = 0) = False := eq_false (by decide)
      have hsh := vl_sh1 i hi
      rw [l1] at hsh
      simp only [xr_all, xf_all, if_true, if_false, true_or, or_true, eq_self, ite_not, Bool.false_eq_true, ite_self, and_self, true_and, and_true, false_and, and_false, not_true_eq_false, not_false_eq_true, xj_Mo_worldsOf, xb_Mo_worldsOf_0, xb_Mo_worldsOf_8, xb_Mo_worldsOf_18, xb_Mo_worldsOf_46, xb_Mo_worldsOf_52, h1, l1, g3, h2, z1, hsh, ho, nI_1, hs]
    · rw [if_neg c] at hs
      rw [vz_b0 c] at h2
      simp only [xr_all, xf_all, if_true, if_false, true_or, or_true, eq_self, ite_not, Bool.false_eq_true, ite_self, and_self, true_and, and_true, false_and, and_false, not_true_eq_false, not_false_eq_true, xj_Mo_worldsOf, xb_Mo_worldsOf_0, xb_Mo_worldsOf_8, xb_Mo_worldsOf_18, xb_Mo_worldsOf_46, xb_Mo_worldsOf_52, h1, l1, g3, h2, nI_1, hs])
  have e0 : vw_m f 0 = 0 := rfl
  rw [e0, show nI 0 = (0 : Int32) from rfl, show lN 0 = (0 : Int64) from rfl, vw_mw f hf] at hl
  rw [hl]
  conv => lhs; unfold xb_Mo_worldsOf_22
  have h1 : (32 ≤ nI 32) = True := eq_true (by decide)
  simp only [xr_all, xf_all, if_true, if_false, true_or, or_true, eq_self, ite_not, Bool.false_eq_true, ite_self, and_self, true_and, and_true, false_and, and_false, not_true_eq_false, not_false_eq_true, xj_Mo_worldsOf, xb_Mo_worldsOf_0, xb_Mo_worldsOf_8, xb_Mo_worldsOf_18, xb_Mo_worldsOf_46, xb_Mo_worldsOf_52, h1]
  rfl
def vw_b (X : Nat → Nat) : Nat → Nat
  | 0 => 0
  | v + 1 => if X (v + 1) ≤ X (vw_b X v) then vw_b X v else v + 1
theorem vw_b_le (X : Nat → Nat) (v : Nat) : vw_b X v ≤ v := by
  induction v with
  | zero => exact Nat.le_refl _
  | succ v ih =>
    show (if X (v + 1) ≤ X (vw_b X v) then vw_b X v else v + 1) ≤ v + 1
    split <;> omega
theorem xq_heaviest (ro : xv_Ro) (d : Nat) (z : Nat × Nat) (C : Nat → Nat → Int32) (J : Nat → Nat → Int64) {X : Nat → Nat} (hX : ∀ v, v < 32 → J 24 v = lN (X v)) (hb : ∀ v, X v ≤ 100000000000000000) : xv_evm ro d 242 [.ref 22] (z, xv_mk C J) = some (some (.int (nI (vw_b X 31))), (z, xv_mk C J)) := by
  rw [xe_Scales_heaviest]
  simp only [xr_all, xf_all, if_true, if_false, true_or, or_true, eq_self, ite_not, Bool.false_eq_true, ite_self, and_self, true_and, and_true, false_and, and_false, not_true_eq_false, not_false_eq_true, xj_Scales_heaviest, xb_Scales_heaviest_0, xb_Scales_heaviest_28, xb_Scales_heaviest_34]
  have hl := vz_iter (fun i => xv_ev ro d xm_Scales_heaviest xb_Scales_heaviest_4 [some (.ref 22), some (.int (nI (vw_b X i))), some (.int (nI (i + 1)))] [] (z, xv_mk C J)) 31 (fun i hi => by
    have hs : vw_b X (i + 1) = if X (i + 1) ≤ X (vw_b X i) then vw_b X i else i + 1 := rfl
    have hle := vw_b_le X i
    have h1 : (32 ≤ nI (i + 1)) = False := by (simp (disch := omega) only [vz_all, if_true, if_false, true_or, or_true, eq_self, ite_not, Bool.false_eq_true, ite_self, and_self, true_and, and_true, false_and, and_false, not_true_eq_false, not_false_eq_true, false_or, or_false])
    have h2 : xv_inB (nI (i + 1)) 32 = true := by (simp (disch := omega) only [vz_all, if_true, if_false, true_or, or_true, eq_self, ite_not, Bool.false_eq_true, ite_self, and_self, true_and, and_true, false_and, and_false, not_true_eq_false, not_false_eq_true, false_or, or_false])
    have h3 : xv_inB (nI (vw_b X i)) 32 = true := by (simp (disch := omega) only [vz_all, if_true, if_false, true_or, or_true, eq_self, ite_not, Bool.false_eq_true, ite_self, and_self, true_and, and_true, false_and, and_false, not_true_eq_false, not_false_eq_true, false_or, or_false])
    have e1 := hX (i + 1) (by omega)
    have e2 := hX (vw_b X i) (by omega)
    have b1 := hb (i + 1)
    have b2 := hb (vw_b X i)
    have g := vl_cLe (a := X (i + 1)) (b := X (vw_b X i)) (by omega) (by omega)
    rw [hs]
    generalize vw_b X i = B at *
    conv => lhs; unfold xb_Scales_heaviest_4
    by_cases c : X (i + 1) ≤ X B
    · simp only [xr_all, xf_all, if_true, if_false, true_or, or_true, eq_self, ite_not, Bool.false_eq_true, ite_self, and_self, true_and, and_true, false_and, and_false, not_true_eq_false, not_false_eq_true, xj_Scales_heaviest, xb_Scales_heaviest_0, xb_Scales_heaviest_28, xb_Scales_heaviest_34, h1, h2, h3, nI_clamp (show i + 1 < 2 ^ 31 by omega), nI_clamp (show B < 2 ^ 31 by omega), e1, e2, g, c, nI_1]
    · simp only [xr_all, xf_all, if_true, if_false, true_or, or_true, eq_self, ite_not, Bool.false_eq_true, ite_self, and_self, true_and, and_true, false_and, and_false, not_true_eq_false, not_false_eq_true, xj_Scales_heaviest, xb_Scales_heaviest_0, xb_Scales_heaviest_28, xb_Scales_heaviest_34, h1, h2, h3, nI_clamp (show i + 1 < 2 ^ 31 by omega), nI_clamp (show B < 2 ^ 31 by omega), e1, e2, g, c, nI_1])
  have e0 : vw_b X 0 = 0 := rfl
  rw [e0, show nI (0 + 1) = (1 : Int32) from rfl, show nI 0 = (0 : Int32) from rfl] at hl
  rw [hl]
  generalize vw_b X 31 = B
  conv => lhs; unfold xb_Scales_heaviest_4
  have h1 : (32 ≤ nI (31 + 1)) = True := eq_true (by decide)
  simp only [xr_all, xf_all, if_true, if_false, true_or, or_true, eq_self, ite_not, Bool.false_eq_true, ite_self, and_self, true_and, and_true, false_and, and_false, not_true_eq_false, not_false_eq_true, xj_Scales_heaviest, xb_Scales_heaviest_0, xb_Scales_heaviest_28, xb_Scales_heaviest_34, h1]
def vw_f (X : Nat → Nat) : Nat → Nat
  | 0 => 0
  | i + 1 => if 2 * vg_S X (fun v => (vq_N (xv_wof i)).testBit v) 32 ≤ vg_S X (fun _ => true) 32 then vw_f X i else vw_f X i + 2 ^ i
theorem vw_f_lt (X : Nat → Nat) (i : Nat) : vw_f X i < 2 ^ i := by
  induction i with
  | zero => exact Nat.one_pos
  | succ i ih =>
    show (if 2 * vg_S X (fun v => (vq_N (xv_wof i)).testBit v) 32 ≤ vg_S X (fun _ => true) 32 then vw_f X i else vw_f X i + 2 ^ i) < 2 ^ (i + 1)
    rw [Nat.pow_succ]
    split <;> omega
theorem xq_likelyFacts (ro : xv_Ro) (hro : ro 1000000 = some (5, xv_wof)) (d : Nat) (z : Nat × Nat) (C : Nat → Nat → Int32) (J : Nat → Nat → Int64) {X : Nat → Nat} (hX : ∀ v, v < 32 → J 24 v = lN (X v)) (hb : ∀ v, X v ≤ 100000000000000000) : xv_evm ro (d + 2) 243 [.ref 22] (z, xv_mk C J) = some (some (.int (nI (vw_f X 5))), (z, xv_mk C J)) := by
  rw [xe_Scales_likelyFacts]
  simp only [xr_all, xf_all, if_true, if_false, true_or, or_true, eq_self, ite_not, Bool.false_eq_true, ite_self, and_self, true_and, and_true, false_and, and_false, not_true_eq_false, not_false_eq_true, xj_Scales_likelyFacts, xb_Scales_likelyFacts_0, xb_Scales_likelyFacts_37, xb_Scales_likelyFacts_38, xb_Scales_likelyFacts_46]
  have hl := vz_iter (fun i => xv_ev ro (d + 2) xm_Scales_likelyFacts xb_Scales_likelyFacts_4 [some (.ref 22), some (.int (nI (vw_f X i))), some (.int (nI i))] [] (z, xv_mk C J)) 5 (fun i hi => by
    have hs : vw_f X (i + 1) = if 2 * vg_S X (fun v => (vq_N (xv_wof i)).testBit v) 32 ≤ vg_S X (fun _ => true) 32 then vw_f X i else vw_f X i + 2 ^ i := rfl
    have h1 : (5 ≤ nI i) = False := by (simp (disch := omega) only [vz_all, if_true, if_false, true_or, or_true, eq_self, ite_not, Bool.false_eq_true, ite_self, and_self, true_and, and_true, false_and, and_false, not_true_eq_false, not_false_eq_true, false_or, or_false])
    have h2 : xv_inB (nI i) 5 = true := by (simp (disch := omega) only [vz_all, if_true, if_false, true_or, or_true, eq_self, ite_not, Bool.false_eq_true, ite_self, and_self, true_and, and_true, false_and, and_false, not_true_eq_false, not_false_eq_true, false_or, or_false])
    have hw := xq_within ro (d + 1) z C J (xv_wof i) hX
    have ha := xq_all ro d z C J hX
    have b1 := vg_S_lt hb (fun v => (vq_N (xv_wof i)).testBit v)
    have b2 := vg_S_lt hb (fun _ => true)
    have hset := vb_setI (vw_f_lt X i) (show i ≤ 20 by omega)
    have m2 : (2 : Int64) * lN (vg_S X (fun v => (vq_N (xv_wof i)).testBit v) 32) = lN (2 * vg_S X (fun v => (vq_N (xv_wof i)).testBit v) 32) := lN_mul 2 _
    rw [hs]
    generalize vg_S X (fun v => (vq_N (xv_wof i)).testBit v) 32 = A at *
    generalize vg_S X (fun _ => true) 32 = B at *
    have g := vl_cLe (a := 2 * A) (b := B) (by omega) (by omega)
    conv => lhs; unfold xb_Scales_likelyFacts_4
    by_cases c : 2 * A ≤ B
    · simp only [xr_all, xf_all, if_true, if_false, true_or, or_true, eq_self, ite_not, Bool.false_eq_true, ite_self, and_self, true_and, and_true, false_and, and_false, not_true_eq_false, not_false_eq_true, xj_Scales_likelyFacts, xb_Scales_likelyFacts_0, xb_Scales_likelyFacts_37, xb_Scales_likelyFacts_38, xb_Scales_likelyFacts_46, h1, hro, h2, nI_clamp (show i < 2 ^ 31 by omega), hw, ha, m2, g, c, Int32.or_zero, nI_1]
    · simp only [xr_all, xf_all, if_true, if_false, true_or, or_true, eq_self, ite_not, Bool.false_eq_true, ite_self, and_self, true_and, and_true, false_and, and_false, not_true_eq_false, not_false_eq_true, xj_Scales_likelyFacts, xb_Scales_likelyFacts_0, xb_Scales_likelyFacts_37, xb_Scales_likelyFacts_38, xb_Scales_likelyFacts_46, h1, hro, h2, nI_clamp (show i < 2 ^ 31 by omega), hw, ha, m2, g, c, hset, nI_1])
  have e0 : vw_f X 0 = 0 := rfl
  rw [e0, show nI 0 = (0 : Int32) from rfl] at hl
  rw [hl]
  generalize vw_f X 5 = B
  conv => lhs; unfold xb_Scales_likelyFacts_4
  have h1 : (5 ≤ nI 5) = True := eq_true (by decide)
  simp only [xr_all, xf_all, if_true, if_false, true_or, or_true, eq_self, ite_not, Bool.false_eq_true, ite_self, and_self, true_and, and_true, false_and, and_false, not_true_eq_false, not_false_eq_true, xj_Scales_likelyFacts, xb_Scales_likelyFacts_0, xb_Scales_likelyFacts_37, xb_Scales_likelyFacts_38, xb_Scales_likelyFacts_46, h1]
