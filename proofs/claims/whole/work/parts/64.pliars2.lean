/-! PAIR: liars -/
theorem vb_nor (a b : Nat) : nI a ||| nI b = nI (a ||| b) := by
  apply Int32.toBitVec_inj.1
  show BitVec.ofNat 32 a ||| BitVec.ofNat 32 b = BitVec.ofNat 32 (a ||| b)
  apply BitVec.eq_of_getLsbD_eq
  intro i hi
  simp [hi]
theorem vb_set {a i : Nat} (ha : a < 2 ^ i) : a ||| 2 ^ i = a + 2 ^ i := by
  have h := Nat.two_pow_add_eq_or_of_lt ha 1
  rw [Nat.mul_one] at h
  rw [Nat.or_comm, ← h, Nat.add_comm]
theorem vb_set_tb {a i : Nat} (ha : a < 2 ^ i) (k : Nat) : (a + 2 ^ i).testBit k = if k < i then a.testBit k else decide (k = i) := by
  have h := Nat.testBit_two_pow_mul_add 1 ha k
  rw [Nat.mul_one, Nat.add_comm] at h
  rw [h]
  by_cases c : k < i
  · rw [if_pos c, if_pos c]
  · rw [if_neg c, if_neg c]
    by_cases c2 : k = i
    · rw [c2, Nat.sub_self]; simp
    · rw [decide_eq_false c2]
      exact Nat.testBit_lt_two_pow (Nat.one_lt_two_pow (by omega))
theorem vb_setI {a i : Nat} (ha : a < 2 ^ i) (hi : i ≤ 20) : nI a ||| ((1 : Int32) <<< (nI i &&& 31)) = nI (a + 2 ^ i) := by
  rw [vh_sh i hi, vb_nor, vb_set ha]
theorem vq_NnI {s : Nat} (h : s < 2 ^ 32) : vq_N (nI s) = s := by
  show (BitVec.ofNat 32 s).toNat = s
  rw [BitVec.toNat_ofNat]
  exact Nat.mod_eq_of_lt h
def vf_h (I : Nat → Nat → Int32) (s : Nat) : Nat → Nat
  | 0 => 0
  | i + 1 => if s.testBit (I 168 (140 + i)).toNatClampNeg = true then vf_h I s i else vf_h I s i + 2 ^ i
theorem vf_h_lt (I : Nat → Nat → Int32) (s i : Nat) : vf_h I s i < 2 ^ i := by
  induction i with
  | zero => exact Nat.one_pos
  | succ i ih =>
    show (if s.testBit (I 168 (140 + i)).toNatClampNeg = true then vf_h I s i else vf_h I s i + 2 ^ i) < 2 ^ (i + 1)
    rw [Nat.pow_succ]
    split <;> omega
theorem xq_fitWithout (ro : xv_Ro) (d : Nat) (z : Nat × Nat) (I : Nat → Nat → Int32) (J : Nat → Nat → Int64) {n s : Nat} (hn : I 25 2 = nI n) (hn2 : n ≤ 20) (h : ∀ i, i < n → (∀ f, f < 8 → I (25 + 23 + i) f = I 168 (140 + 20 * f + i)) ∧ (∃ w : Nat, w < 10 ∧ I 168 (140 + i) = nI w) ∧ (∃ k : Nat, k < 8 ∧ I 168 (160 + i) = nI k) ∧ (I 168 (180 + i) = 0 ∨ I 168 (180 + i) = 1) ∧ (I 168 (200 + i) = 0 ∨ I 168 (200 + i) = 1)) (hs : s < 2 ^ 31) : xv_evm ro (d + 1 + 1 + 1) 181 [.ref 25, .int (nI s), .ref 3] (z, xv_mk I J) = some (some (.int (vf_w I (fun i => (vf_h I s n).testBit i) n)), (z, xv_mk I J)) := by
  rw [xe_Archive_fittingWithout]
  have hf := @vAr_f 25 (Or.inl rfl)
  simp only [xr_all, xf_all, if_true, if_false, true_or, or_true, eq_self, ite_not, Bool.false_eq_true, ite_self, and_self, true_and, and_true, false_and, and_false, not_true_eq_false, not_false_eq_true, xj_Archive_fittingWithout, xb_Archive_fittingWithout_0, xb_Archive_fittingWithout_44, xb_Archive_fittingWithout_48, xb_Archive_fittingWithout_56]
  have hl := vz_iter (fun i => xv_ev ro (d + 1 + 1 + 1) xm_Archive_fittingWithout xb_Archive_fittingWithout_5 [some (.ref 25), some (.int (nI s)), some (.ref 3), some (.int (nI (vf_h I s i))), some (.int (nI i))] [] (z, xv_mk I J)) n (fun i hi => by
    have hw : vf_h I s (i + 1) = if s.testBit (I 168 (140 + i)).toNatClampNeg = true then vf_h I s i else vf_h I s i + 2 ^ i := rfl
    obtain ⟨g1, ⟨w, w1, w2⟩, -⟩ := h i hi
    have e1 : I (25 + 23 + i) 0 = nI w := (g1 0 (by omega)).trans w2
    rw [w2, nI_clamp (show w < 2 ^ 31 by omega)] at hw
    have h1 : (nI n ≤ nI i) = False := by (simp (disch := omega) only [vz_all, if_true, if_false, true_or, or_true, eq_self, ite_not, Bool.false_eq_true, ite_self, and_self, true_and, and_true, false_and, and_false, not_true_eq_false, not_false_eq_true, false_or, or_false])
    have h2 : (20 ≤ nI i) = False := by (simp (disch := omega) only [vz_all, if_true, if_false, true_or, or_true, eq_self, ite_not, Bool.false_eq_true, ite_self, and_self, true_and, and_true, false_and, and_false, not_true_eq_false, not_false_eq_true, false_or, or_false])
    have h3 := vb_bit1 hs (show w < 32 by omega)
    have h4 : xv_inB (nI i) 20 = true := by (simp (disch := omega) only [vz_all, if_true, if_false, true_or, or_true, eq_self, ite_not, Bool.false_eq_true, ite_self, and_self, true_and, and_true, false_and, and_false, not_true_eq_false, not_false_eq_true, false_or, or_false])
    have m1 : 48 + 1 * i = 25 + 23 + i := by omega
    have hN := vAr_N (A := 25) (Or.inl rfl) (show i < 20 by omega)
    have hq := xq_Answer_who ro (d + 1 + 1) z I J hN
    have hset := vb_setI (vf_h_lt I s i) (show i ≤ 20 by omega)
    rw [e1] at hq
    conv => lhs; unfold xb_Archive_fittingWithout_5
    by_cases c : s.testBit w = true
    · rw [if_pos c] at hw
      have c2 := h3.trans (eq_true c)
      simp only [xr_all, xf_all, if_true, if_false, true_or, or_true, eq_self, ite_not, Bool.false_eq_true, ite_self, and_self, true_and, and_true, false_and, and_false, not_true_eq_false, not_false_eq_true, xj_Archive_fittingWithout, xb_Archive_fittingWithout_0, xb_Archive_fittingWithout_44, xb_Archive_fittingWithout_48, xb_Archive_fittingWithout_56, hn, h1, h2, c2, h4, nI_clamp (show i < 2 ^ 31 by omega), m1, vN_f hN, hq, nI_1, hw, Int32.or_zero]
    · rw [if_neg c] at hw
      have c2 := h3.trans (eq_false c)
      simp only [xr_all, xf_all, if_true, if_false, true_or, or_true, eq_self, ite_not, Bool.false_eq_true, ite_self, and_self, true_and, and_true, false_and, and_false, not_true_eq_false, not_false_eq_true, xj_Archive_fittingWithout, xb_Archive_fittingWithout_0, xb_Archive_fittingWithout_44, xb_Archive_fittingWithout_48, xb_Archive_fittingWithout_56, hn, h1, h2, c2, h4, nI_clamp (show i < 2 ^ 31 by omega), m1, vN_f hN, hq, nI_1, hset, hw])
  have e0 : vf_h I s 0 = 0 := rfl
  rw [e0, show nI 0 = (0 : Int32) from rfl] at hl
  rw [hl]
  have hp : 2 ^ n ≤ 2 ^ 20 := Nat.pow_le_pow_right (by omega) hn2
  have hlt := vf_h_lt I s n
  have hq := xq_fitting ro d z I J hn hn2 h (s := vf_h I s n) (by omega)
  conv => lhs; unfold xb_Archive_fittingWithout_5
  have h1 : (nI n ≤ nI n) = True := by (simp (disch := omega) only [vz_all, if_true, if_false, true_or, or_true, eq_self, ite_not, Bool.false_eq_true, ite_self, and_self, true_and, and_true, false_and, and_false, not_true_eq_false, not_false_eq_true, false_or, or_false])
  simp only [xr_all, xf_all, if_true, if_false, true_or, or_true, eq_self, ite_not, Bool.false_eq_true, ite_self, and_self, true_and, and_true, false_and, and_false, not_true_eq_false, not_false_eq_true, xj_Archive_fittingWithout, xb_Archive_fittingWithout_0, xb_Archive_fittingWithout_44, xb_Archive_fittingWithout_48, xb_Archive_fittingWithout_56, hn, h1, hq]
theorem xq_Mo_ansWithout (ro : xv_Ro) (d : Nat) (z : Nat × Nat) (I : Nat → Nat → Int32) (J : Nat → Nat → Int64) {n s : Nat} (hn : I 168 301 = nI n) (hn2 : n ≤ 20) (h : ∀ i, i < n → ∃ w : Nat, w < 10 ∧ I 168 (140 + i) = nI w) (hs : s < 2 ^ 31) : xv_evm ro (d + 1) 121 [.ref 167, .int (nI s)] (z, xv_mk I J) = some (some (.int (nI (vf_h I s n))), (z, xv_mk I J)) := by
  rw [xe_Mo_answersWithout]
  have g4 : xv_inB 301 304 = true := by decide
  have g5 : (301 : Int32).toNatClampNeg = 301 := by decide
  simp only [xr_all, xf_all, if_true, if_false, true_or, or_true, eq_self, ite_not, Bool.false_eq_true, ite_self, and_self, true_and, and_true, false_and, and_false, not_true_eq_false, not_false_eq_true, xj_Mo_answersWithout, xb_Mo_answersWithout_0, xb_Mo_answersWithout_37, xb_Mo_answersWithout_43, xb_Mo_answersWithout_49]
  have hl := vz_iter (fun i => xv_ev ro (d + 1) xm_Mo_answersWithout xb_Mo_answersWithout_4 [some (.ref 167), some (.int (nI s)), some (.int (nI (vf_h I s i))), some (.int (nI i))] [] (z, xv_mk I J)) n (fun i hi => by
    have hw : vf_h I s (i + 1) = if s.testBit (I 168 (140 + i)).toNatClampNeg = true then vf_h I s i else vf_h I s i + 2 ^ i := rfl
    obtain ⟨w, w1, w2⟩ := h i hi
    rw [w2, nI_clamp (show w < 2 ^ 31 by omega)] at hw
    have h1 : (nI n ≤ nI i) = False := by (simp (disch := omega) only [vz_all, if_true, if_false, true_or, or_true, eq_self, ite_not, Bool.false_eq_true, ite_self, and_self, true_and, and_true, false_and, and_false, not_true_eq_false, not_false_eq_true, false_or, or_false])
    have e1 : 140 + nI i = nI (140 + i) := by (simp (disch := omega) only [vz_all, if_true, if_false, true_or, or_true, eq_self, ite_not, Bool.false_eq_true, ite_self, and_self, true_and, and_true, false_and, and_false, not_true_eq_false, not_false_eq_true, false_or, or_false])
    have h4 : xv_inB (nI (140 + i)) 304 = true := by (simp (disch := omega) only [vz_all, if_true, if_false, true_or, or_true, eq_self, ite_not, Bool.false_eq_true, ite_self, and_self, true_and, and_true, false_and, and_false, not_true_eq_false, not_false_eq_true, false_or, or_false])
    have hset := vb_setI (vf_h_lt I s i) (show i ≤ 20 by omega)
    have hq := xq_Mo_has ro d (z, xv_mk I J) (m := s) (s := w) (by omega) (by omega)
    conv => lhs; unfold xb_Mo_answersWithout_4
    by_cases c : s.testBit w = true
    · rw [if_pos c] at hw
      rw [vz_b1 c] at hq
      simp only [xr_all, xf_all, if_true, if_false, true_or, or_true, eq_self, ite_not, Bool.false_eq_true, ite_self, and_self, true_and, and_true, false_and, and_false, not_true_eq_false, not_false_eq_true, xj_Mo_answersWithout, xb_Mo_answersWithout_0, xb_Mo_answersWithout_37, xb_Mo_answersWithout_43, xb_Mo_answersWithout_49, g4, g5, hn, h1, nI_l hs, e1, h4, nI_clamp (show 140 + i < 2 ^ 31 by omega), w2, hq, nI_1, hw]
    · rw [if_neg c] at hw
      rw [vz_b0 c] at hq
      simp only [xr_all, xf_all, if_true, if_false, true_or, or_true, eq_self, ite_not, Bool.false_eq_true, ite_self, and_self, true_and, and_true, false_and, and_false, not_true_eq_false, not_false_eq_true, xj_Mo_answersWithout, xb_Mo_answersWithout_0, xb_Mo_answersWithout_37, xb_Mo_answersWithout_43, xb_Mo_answersWithout_49, g4, g5, hn, h1, nI_l hs, e1, h4, nI_clamp (show 140 + i < 2 ^ 31 by omega), w2, hq, nI_1, hset, hw])
  have e0 : vf_h I s 0 = 0 := rfl
  rw [e0, show nI 0 = (0 : Int32) from rfl] at hl
  rw [hl]
  conv => lhs; unfold xb_Mo_answersWithout_4
  have h1 : (nI n ≤ nI n) = True := by (simp (disch := omega) only [vz_all, if_true, if_false, true_or, or_true, eq_self, ite_not, Bool.false_eq_true, ite_self, and_self, true_and, and_true, false_and, and_false, not_true_eq_false, not_false_eq_true, false_or, or_false])
  simp only [xr_all, xf_all, if_true, if_false, true_or, or_true, eq_self, ite_not, Bool.false_eq_true, ite_self, and_self, true_and, and_true, false_and, and_false, not_true_eq_false, not_false_eq_true, xj_Mo_answersWithout, xb_Mo_answersWithout_0, xb_Mo_answersWithout_37, xb_Mo_answersWithout_43, xb_Mo_answersWithout_49, g4, g5, hn, h1]
def vl_F (ok : Nat → Int32) : Nat → Nat
  | 0 => 1023
  | s + 1 => if vb_ct (vl_F ok s) 32 ≤ vb_ct s 32 then vl_F ok s else if ok s = 0 then vl_F ok s else s
def vl_M (ok : Nat → Int32) : Nat → Option Nat
  | 0 => none
  | s + 1 => match vl_M ok s with
    | none => if ok s = 0 then none else some s
    | some b => if vb_ct b 32 ≤ vb_ct s 32 then some b else if ok s = 0 then some b else some s
def vl_b : Option Nat → Int32
  | none => -2
  | some s => nI s
theorem vl_Fs (ok : Nat → Int32) (s : Nat) : vl_F ok (s + 1) = if vb_ct (vl_F ok s) 32 ≤ vb_ct s 32 then vl_F ok s else if ok s = 0 then vl_F ok s else s := rfl
theorem vl_Ms (ok : Nat → Int32) (s : Nat) : vl_M ok (s + 1) = match vl_M ok s with
    | none => if ok s = 0 then none else some s
    | some b => if vb_ct b 32 ≤ vb_ct s 32 then some b else if ok s = 0 then some b else some s := rfl
theorem vl_cnt : vb_ct 1023 32 = 10 ∧ ∀ s, s < 1023 → vb_ct s 32 < 10 := by decide +kernel
theorem vl_F_lt (ok : Nat → Int32) : ∀ s, s ≤ 1024 → vl_F ok s < 1024 := by
  intro s
  induction s with
  | zero => intro _; show 1023 < 1024; omega
  | succ s ih =>
    intro h
    show (if vb_ct (vl_F ok s) 32 ≤ vb_ct s 32 then vl_F ok s else if ok s = 0 then vl_F ok s else s) < 1024
    have := ih (by omega)
    split
    · exact this
    · split
      · exact this
      · omega
theorem vl_FM (ok : Nat → Int32) : ∀ s, s ≤ 1023 → (vl_M ok s = none ∧ vl_F ok s = 1023) ∨ vl_M ok s = some (vl_F ok s) := by
  intro s
  induction s with
  | zero => intro _; exact Or.inl ⟨rfl, rfl⟩
  | succ s ih =>
    intro h
    have hF : vl_F ok (s + 1) = if vb_ct (vl_F ok s) 32 ≤ vb_ct s 32 then vl_F ok s else if ok s = 0 then vl_F ok s else s := rfl
    have hM : vl_M ok (s + 1) = match vl_M ok s with
      | none => if ok s = 0 then none else some s
      | some b => if vb_ct b 32 ≤ vb_ct s 32 then some b else if ok s = 0 then some b else some s := rfl
    rcases ih (by omega) with ⟨h1, h2⟩ | h1
    · rw [h1] at hM
      have hc := vl_cnt.2 s (by omega)
      rw [h2, vl_cnt.1, if_neg (by omega)] at hF
      by_cases c : ok s = 0
      · rw [if_pos c] at hF
        simp only [c, if_true] at hM
        exact Or.inl ⟨hM, hF⟩
      · rw [if_neg c] at hF
        simp only [c, if_false] at hM
        exact Or.inr (by rw [hM, hF])
    · rw [h1] at hM
      right
      rw [hM, hF]
      dsimp only
      split
      · rfl
      · split <;> rfl
theorem vl_end (ok : Nat → Int32) (h : ok 1023 ≠ 0) : vl_M ok 1024 = some (vl_F ok 1024) := by
  have hF := vl_Fs ok 1023
  have hM := vl_Ms ok 1023
  rw [show 1023 + 1 = 1024 from rfl] at hF hM
  rcases vl_FM ok 1023 (by omega) with ⟨h1, h2⟩ | h1
  · rw [h1] at hM
    rw [h2, if_pos (Nat.le_refl _)] at hF
    rw [hM, hF]
    dsimp only
    rw [if_neg h]
  · rw [h1] at hM
    rw [hM, hF]
    dsimp only
    split
    · rfl
    · first | rfl | (split <;> rfl)
theorem xp_18 (VL : xv_LP) (hV : vi_Lc VL) : xl_P18 (vi_all VL) := by
  intro x ro I J hro hI
  obtain ⟨n, n1, n2, n3, n4, n5, q4, -⟩ := vh_A hI
  have z1 : ((1 : Int32) = 0) = False := eq_false (by decide)
  rcases vn_01 x with ⟨h, hin⟩ | ⟨h, hin⟩ | ⟨h0, h1, hin⟩
  rotate_left 2
  · refine ⟨-1, I, J, I, J, ?_, ?_, hI⟩
    · rw [xe_Ct_liars]
      simp only [xr_all, xf_all, if_true, if_false, true_or, or_true, eq_self, ite_not, Bool.false_eq_true, ite_self, and_self, true_and, and_true, false_and, and_false, not_true_eq_false, not_false_eq_true, xj_Ct_liars, xb_Ct_liars_0, xb_Ct_liars_11, xb_Ct_liars_52, xb_Ct_liars_58, xb_Ct_liars_69, xb_Ct_liars_70, h0, h1]
    · rw [xe_Mo_liars]
      simp only [xr_all, xf_all, if_true, if_false, true_or, or_true, eq_self, ite_not, Bool.false_eq_true, ite_self, and_self, true_and, and_true, false_and, and_false, not_true_eq_false, not_false_eq_true, xj_Mo_liars, xb_Mo_liars_0, xb_Mo_liars_11, xb_Mo_liars_45, xb_Mo_liars_61, xb_Mo_liars_67, xb_Mo_liars_76, xb_Mo_liars_81, xq_Mo_in, hin]
  all_goals
    have hok : vf_w I (fun i => (vf_h I 1023 n).testBit i) n ≠ 0 := by
      have : ∀ i, i ≤ n → vf_h I 1023 i = 0 := by
        intro i
        induction i with
        | zero => intro _; rfl
        | succ i ih =>
          intro hi
          obtain ⟨-, ⟨w, w1, w2⟩, -⟩ := n4 i (by omega)
          show (if Nat.testBit 1023 (I 168 (140 + i)).toNatClampNeg = true then vf_h I 1023 i else vf_h I 1023 i + 2 ^ i) = 0
          rw [w2, nI_clamp (show w < 2 ^ 31 by omega), if_pos ((by decide : ∀ w, w < 10 → Nat.testBit 1023 w = true) w w1), ih (by omega)]
      rw [this n (Nat.le_refl n)]
      have h2 : ∀ i, vf_w I (fun i => Nat.testBit 0 i) i = -1 := by
        intro i
        induction i with
        | zero => rfl
        | succ i ih =>
          show (if Nat.testBit 0 i = true then vf_w I (fun i => Nat.testBit 0 i) i &&& vf_f I i else vf_w I (fun i => Nat.testBit 0 i) i) = -1
          rw [Nat.zero_testBit, if_neg (by decide), ih]
      rw [h2 n]
      decide
    have hend := vl_end (fun s => vf_w I (fun i => (vf_h I s n).testBit i) n) hok
    have hlt := vl_F_lt (fun s => vf_w I (fun i => (vf_h I s n).testBit i) n)
    have hC := vz_iter (fun s => xv_ev ro 199 xm_Ct_liars xb_Ct_liars_17 [some (.ref 0), some (.int x), some (.int (nI (vl_F (fun s => vf_w I (fun i => (vf_h I s n).testBit i) n) s))), some (.int (nI s))] [] (xv_SZ, xv_mk I J)) 1024 (fun s hs => by
      have hF : vl_F (fun s => vf_w I (fun i => (vf_h I s n).testBit i) n) (s + 1) = if vb_ct (vl_F (fun s => vf_w I (fun i => (vf_h I s n).testBit i) n) s) 32 ≤ vb_ct s 32 then vl_F (fun s => vf_w I (fun i => (vf_h I s n).testBit i) n) s else if vf_w I (fun i => (vf_h I s n).testBit i) n = 0 then vl_F (fun s => vf_w I (fun i => (vf_h I s n).testBit i) n) s else s := rfl
      have hfw := xq_fitWithout ro 195 xv_SZ I J n2 n1 n4 (show s < 2 ^ 31 by omega)
      have hl := hlt s (by omega)
      rw [hF]
      generalize vl_F (fun s => vf_w I (fun i => (vf_h I s n).testBit i) n) s = F at *
      generalize vf_w I (fun i => (vf_h I s n).testBit i) n = K at *
      have e1 := vq_NnI (show F < 2 ^ 32 by omega)
      have e2 := vq_NnI (show s < 2 ^ 32 by omega)
      have b1 := vb_ct_le F 32
      have b2 := vb_ct_le s 32
      have h1 : (1024 ≤ nI s) = False := by (simp (disch := omega) only [vz_all, if_true, if_false, true_or, or_true, eq_self, ite_not, Bool.false_eq_true, ite_self, and_self, true_and, and_true, false_and, and_false, not_true_eq_false, not_false_eq_true, false_or, or_false])
      conv => lhs; unfold xb_Ct_liars_17
      by_cases c : vb_ct F 32 ≤ vb_ct s 32
      · have c1 : (nI (vb_ct F 32) ≤ nI (vb_ct s 32)) = True := by (simp (disch := omega) only [vz_all, if_true, if_false, true_or, or_true, eq_self, ite_not, Bool.false_eq_true, ite_self, and_self, true_and, and_true, false_and, and_false, not_true_eq_false, not_false_eq_true, false_or, or_false])
        simp only [xr_all, xf_all, if_true, if_false, true_or, or_true, eq_self, ite_not, Bool.false_eq_true, ite_self, and_self, true_and, and_true, false_and, and_false, not_true_eq_false, not_false_eq_true, xj_Ct_liars, xb_Ct_liars_0, xb_Ct_liars_11, xb_Ct_liars_52, xb_Ct_liars_58, xb_Ct_liars_69, xb_Ct_liars_70, h1, xq_bitCount, e1, e2, c1, c, nI_1]
      · have c1 : (nI (vb_ct F 32) ≤ nI (vb_ct s 32)) = False := by (simp (disch := omega) only [vz_all, if_true, if_false, true_or, or_true, eq_self, ite_not, Bool.false_eq_true, ite_self, and_self, true_and, and_true, false_and, and_false, not_true_eq_false, not_false_eq_true, false_or, or_false])
        by_cases k : K = 0
        · simp only [xr_all, xf_all, if_true, if_false, true_or, or_true, eq_self, ite_not, Bool.false_eq_true, ite_self, and_self, true_and, and_true, false_and, and_false, not_true_eq_false, not_false_eq_true, xj_Ct_liars, xb_Ct_liars_0, xb_Ct_liars_11, xb_Ct_liars_52, xb_Ct_liars_58, xb_Ct_liars_69, xb_Ct_liars_70, h1, xq_bitCount, e1, e2, c1, c, hfw, k, nI_1]
        · simp only [xr_all, xf_all, if_true, if_false, true_or, or_true, eq_self, ite_not, Bool.false_eq_true, ite_self, and_self, true_and, and_true, false_and, and_false, not_true_eq_false, not_false_eq_true, xj_Ct_liars, xb_Ct_liars_0, xb_Ct_liars_11, xb_Ct_liars_52, xb_Ct_liars_58, xb_Ct_liars_69, xb_Ct_liars_70, h1, xq_bitCount, e1, e2, c1, c, hfw, k, nI_1])
    have hM := vz_iter (fun s => xv_ev ro 199 xm_Mo_liars xb_Mo_liars_16 [some (.ref 167), some (.int x), some (.int (vl_b (vl_M (fun s => vf_w I (fun i => (vf_h I s n).testBit i) n) s))), some (.int (nI s))] [] (xv_SZ, xv_mk I J)) 1024 (fun s hs => by
      have hM : vl_M (fun s => vf_w I (fun i => (vf_h I s n).testBit i) n) (s + 1) = match vl_M (fun s => vf_w I (fun i => (vf_h I s n).testBit i) n) s with
        | none => if vf_w I (fun i => (vf_h I s n).testBit i) n = 0 then none else some s
        | some b => if vb_ct b 32 ≤ vb_ct s 32 then some b else if vf_w I (fun i => (vf_h I s n).testBit i) n = 0 then some b else some s := rfl
      have hp : 2 ^ n ≤ 2 ^ 20 := Nat.pow_le_pow_right (by omega) n1
      have hlt2 := vf_h_lt I s n
      have hfw := xq_Mo_ansWithout ro 197 xv_SZ I J n3 n1 (fun i hi => (n4 i hi).2.1) (show s < 2 ^ 31 by omega)
      have hfa := xq_Mo_fitsAll ro 197 xv_SZ I J n3 n1 n5 q4 (s := vf_h I s n) (by omega)
      have hfm := vl_FM (fun s => vf_w I (fun i => (vf_h I s n).testBit i) n) s (by omega)
      have hl := hlt s (by omega)
      rw [hM]
      generalize vl_M (fun s => vf_w I (fun i => (vf_h I s n).testBit i) n) s = M at *
      generalize vl_F (fun s => vf_w I (fun i => (vf_h I s n).testBit i) n) s = F at *
      generalize vf_w I (fun i => (vf_h I s n).testBit i) n = K at *
      have kc := vq_cmp K
      have h1 : (1024 ≤ nI s) = False := by (simp (disch := omega) only [vz_all, if_true, if_false, true_or, or_true, eq_self, ite_not, Bool.false_eq_true, ite_self, and_self, true_and, and_true, false_and, and_false, not_true_eq_false, not_false_eq_true, false_or, or_false])
      have b2 := vb_ct_le s 32
      conv => lhs; unfold xb_Mo_liars_16
      cases M with
      | none =>
        by_cases k : K = 0
        · simp only [xr_all, xf_all, if_true, if_false, true_or, or_true, eq_self, ite_not, Bool.false_eq_true, ite_self, and_self, true_and, and_true, false_and, and_false, not_true_eq_false, not_false_eq_true, xj_Mo_liars, xb_Mo_liars_0, xb_Mo_liars_11, xb_Mo_liars_45, xb_Mo_liars_61, xb_Mo_liars_67, xb_Mo_liars_76, xb_Mo_liars_81, h1, vl_b, hfw, hfa, kc, vq_z0, k, nI_1]
        · simp only [xr_all, xf_all, if_true, if_false, true_or, or_true, eq_self, ite_not, Bool.false_eq_true, ite_self, and_self, true_and, and_true, false_and, and_false, not_true_eq_false, not_false_eq_true, xj_Mo_liars, xb_Mo_liars_0, xb_Mo_liars_11, xb_Mo_liars_45, xb_Mo_liars_61, xb_Mo_liars_67, xb_Mo_liars_76, xb_Mo_liars_81, h1, vl_b, hfw, hfa, kc, vq_z0, k, nI_1]
      | some b =>
        rcases hfm with hfm | hfm
        · cases hfm.1
        · have hfm := Option.some.inj hfm
          have hb : b < 1024 := by omega
          have b1 := vb_ct_le b 32
          have m2 : (nI b = -2) = False := vz_m2 (by omega)
          have e1 := vl_bits ro 197 (xv_SZ, xv_mk I J) (m := b) (by omega)
          have e2 := vl_bits ro 197 (xv_SZ, xv_mk I J) (m := s) (by omega)
          have l1 := nI_l (show b < 2 ^ 31 by omega)
          have l2 := nI_l (show s < 2 ^ 31 by omega)
          by_cases c : vb_ct b 32 ≤ vb_ct s 32
          · have c1 : (nI (vb_ct s 32) < nI (vb_ct b 32)) = False := by (simp (disch := omega) only [vz_all, if_true, if_false, true_or, or_true, eq_self, ite_not, Bool.false_eq_true, ite_self, and_self, true_and, and_true, false_and, and_false, not_true_eq_false, not_false_eq_true, false_or, or_false])
            simp only [xr_all, xf_all, if_true, if_false, true_or, or_true, eq_self, ite_not, Bool.false_eq_true, ite_self, and_self, true_and, and_true, false_and, and_false, not_true_eq_false, not_false_eq_true, xj_Mo_liars, xb_Mo_liars_0, xb_Mo_liars_11, xb_Mo_liars_45, xb_Mo_liars_61, xb_Mo_liars_67, xb_Mo_liars_76, xb_Mo_liars_81, h1, vl_b, m2, l1, l2, e1, e2, c1, c, nI_1]
          · have c1 : (nI (vb_ct s 32) < nI (vb_ct b 32)) = True := by (simp (disch := omega) only [vz_all, if_true, if_false, true_or, or_true, eq_self, ite_not, Bool.false_eq_true, ite_self, and_self, true_and, and_true, false_and, and_false, not_true_eq_false, not_false_eq_true, false_or, or_false])
            by_cases k : K = 0
            · simp only [xr_all, xf_all, if_true, if_false, true_or, or_true, eq_self, ite_not, Bool.false_eq_true, ite_self, and_self, true_and, and_true, false_and, and_false, not_true_eq_false, not_false_eq_true, xj_Mo_liars, xb_Mo_liars_0, xb_Mo_liars_11, xb_Mo_liars_45, xb_Mo_liars_61, xb_Mo_liars_67, xb_Mo_liars_76, xb_Mo_liars_81, h1, vl_b, m2, l1, l2, e1, e2, c1, c, hfw, hfa, kc, vq_z0, k, nI_1]
            · simp only [xr_all, xf_all, if_true, if_false, true_or, or_true, eq_self, ite_not, Bool.false_eq_true, ite_self, and_self, true_and, and_true, false_and, and_false, not_true_eq_false, not_false_eq_true, xj_Mo_liars, xb_Mo_liars_0, xb_Mo_liars_11, xb_Mo_liars_45, xb_Mo_liars_61, xb_Mo_liars_67, xb_Mo_liars_76, xb_Mo_liars_81, h1, vl_b, m2, l1, l2, e1, e2, c1, c, hfw, hfa, kc, vq_z0, k, nI_1])
    have hl := hlt 1024 (by omega)
    have e0 : vl_M (fun s => vf_w I (fun i => (vf_h I s n).testBit i) n) 0 = none := rfl
    have e1 : vl_F (fun s => vf_w I (fun i => (vf_h I s n).testBit i) n) 0 = 1023 := rfl
    rw [hend, e0, show nI 0 = (0 : Int32) from rfl] at hM
    rw [e1, show nI 0 = (0 : Int32) from rfl, show nI 1023 = (1023 : Int32) from rfl] at hC
    generalize vl_F (fun s => vf_w I (fun i => (vf_h I s n).testBit i) n) 1024 = F at *
    have e2 := vq_NnI (show F < 2 ^ 32 by omega)
    have h1 : (1024 ≤ nI 1024) = True := eq_true (by decide)
  · refine ⟨nI (vb_ct F 32), I, J, I, J, ?_, ?_, hI⟩
    · rw [xe_Ct_liars]
      simp only [xr_all, xf_all, if_true, if_false, true_or, or_true, eq_self, ite_not, Bool.false_eq_true, ite_self, and_self, true_and, and_true, false_and, and_false, not_true_eq_false, not_false_eq_true, xj_Ct_liars, xb_Ct_liars_0, xb_Ct_liars_11, xb_Ct_liars_52, xb_Ct_liars_58, xb_Ct_liars_69, xb_Ct_liars_70, h]
      rw [h] at hC
      rw [hC]
      conv => lhs; unfold xb_Ct_liars_17
      simp only [xr_all, xf_all, if_true, if_false, true_or, or_true, eq_self, ite_not, Bool.false_eq_true, ite_self, and_self, true_and, and_true, false_and, and_false, not_true_eq_false, not_false_eq_true, xj_Ct_liars, xb_Ct_liars_0, xb_Ct_liars_11, xb_Ct_liars_52, xb_Ct_liars_58, xb_Ct_liars_69, xb_Ct_liars_70, h1, xq_bitCount, e2]
    · rw [xe_Mo_liars]
      simp only [xr_all, xf_all, if_true, if_false, true_or, or_true, eq_self, ite_not, Bool.false_eq_true, ite_self, and_self, true_and, and_true, false_and, and_false, not_true_eq_false, not_false_eq_true, xj_Mo_liars, xb_Mo_liars_0, xb_Mo_liars_11, xb_Mo_liars_45, xb_Mo_liars_61, xb_Mo_liars_67, xb_Mo_liars_76, xb_Mo_liars_81, xq_Mo_in, hin]
      have z2 : ((0 : Int32) = 1) = False := eq_false (by decide)
      have e3 := vl_bits ro 197 (xv_SZ, xv_mk I J) (m := F) (by omega)
      simp only [vl_b] at hM
      rw [hM]
      conv => lhs; unfold xb_Mo_liars_16
      simp only [xr_all, xf_all, if_true, if_false, true_or, or_true, eq_self, ite_not, Bool.false_eq_true, ite_self, and_self, true_and, and_true, false_and, and_false, not_true_eq_false, not_false_eq_true, xj_Mo_liars, xb_Mo_liars_0, xb_Mo_liars_11, xb_Mo_liars_45, xb_Mo_liars_61, xb_Mo_liars_67, xb_Mo_liars_76, xb_Mo_liars_81, h1, h, z2, nI_l (show F < 2 ^ 31 by omega), e3]
  · refine ⟨nI F, I, J, I, J, ?_, ?_, hI⟩
    · rw [xe_Ct_liars]
      simp only [xr_all, xf_all, if_true, if_false, true_or, or_true, eq_self, ite_not, Bool.false_eq_true, ite_self, and_self, true_and, and_true, false_and, and_false, not_true_eq_false, not_false_eq_true, xj_Ct_liars, xb_Ct_liars_0, xb_Ct_liars_11, xb_Ct_liars_52, xb_Ct_liars_58, xb_Ct_liars_69, xb_Ct_liars_70, h, z1]
      rw [h] at hC
      rw [hC]
      conv => lhs; unfold xb_Ct_liars_17
      simp only [xr_all, xf_all, if_true, if_false, true_or, or_true, eq_self, ite_not, Bool.false_eq_true, ite_self, and_self, true_and, and_true, false_and, and_false, not_true_eq_false, not_false_eq_true, xj_Ct_liars, xb_Ct_liars_0, xb_Ct_liars_11, xb_Ct_liars_52, xb_Ct_liars_58, xb_Ct_liars_69, xb_Ct_liars_70, h1, z1]
    · rw [xe_Mo_liars]
      simp only [xr_all, xf_all, if_true, if_false, true_or, or_true, eq_self, ite_not, Bool.false_eq_true, ite_self, and_self, true_and, and_true, false_and, and_false, not_true_eq_false, not_false_eq_true, xj_Mo_liars, xb_Mo_liars_0, xb_Mo_liars_11, xb_Mo_liars_45, xb_Mo_liars_61, xb_Mo_liars_67, xb_Mo_liars_76, xb_Mo_liars_81, xq_Mo_in, hin]
      simp only [vl_b] at hM
      rw [hM]
      conv => lhs; unfold xb_Mo_liars_16
      simp only [xr_all, xf_all, if_true, if_false, true_or, or_true, eq_self, ite_not, Bool.false_eq_true, ite_self, and_self, true_and, and_true, false_and, and_false, not_true_eq_false, not_false_eq_true, xj_Mo_liars, xb_Mo_liars_0, xb_Mo_liars_11, xb_Mo_liars_45, xb_Mo_liars_61, xb_Mo_liars_67, xb_Mo_liars_76, xb_Mo_liars_81, h1, h]
