/-! PAIR: seen (its helpers) -/
theorem xq_cut (ro : xv_Ro) (d : Nat) (z : Nat × Nat) (I : Nat → Nat → Int32) (J : Nat → Nat → Int64) (x lo hi : Int32) (h1 : (x < lo) = False) (h2 : (hi < x) = False) (h3 : (x ≤ I 1 1) = True) : xv_evm ro d 248 [.ref 1, .int x, .int lo, .int hi] (z, xv_mk I J) = some (some (.int 1), (z, xv_mk (xv_u2 (xv_u2 (xv_u2 (xv_u2 I 1 1 0) 1 2 x) 1 3 0) 1 4 0) J)) := by
  rw [xe_Tape_cut]
  simp only [xr_all, xf_all, if_true, if_false, true_or, or_true, eq_self, ite_not, Bool.false_eq_true, ite_self, and_self, true_and, and_true, false_and, and_false, not_true_eq_false, not_false_eq_true, xj_Tape_cut, xb_Tape_cut_0, xb_Tape_cut_18, xb_Tape_cut_20, h1, h2, h3]
theorem xq_cut_no (ro : xv_Ro) (d : Nat) (z : Nat × Nat) (I : Nat → Nat → Int32) (J : Nat → Nat → Int64) (x lo hi : Int32) (h : (x < lo) = True ∨ ((x < lo) = False ∧ (hi < x) = True) ∨ ((x < lo) = False ∧ (hi < x) = False ∧ (x ≤ I 1 1) = False)) : xv_evm ro d 248 [.ref 1, .int x, .int lo, .int hi] (z, xv_mk I J) = some (some (.int 0), (z, xv_mk I J)) := by
  rw [xe_Tape_cut]
  rcases h with h | ⟨h1, h2⟩ | ⟨h1, h2, h3⟩
  · simp only [xr_all, xf_all, if_true, if_false, true_or, or_true, eq_self, ite_not, Bool.false_eq_true, ite_self, and_self, true_and, and_true, false_and, and_false, not_true_eq_false, not_false_eq_true, xj_Tape_cut, xb_Tape_cut_0, xb_Tape_cut_18, xb_Tape_cut_20, h]
  · simp only [xr_all, xf_all, if_true, if_false, true_or, or_true, eq_self, ite_not, Bool.false_eq_true, ite_self, and_self, true_and, and_true, false_and, and_false, not_true_eq_false, not_false_eq_true, xj_Tape_cut, xb_Tape_cut_0, xb_Tape_cut_18, xb_Tape_cut_20, h1, h2]
  · simp only [xr_all, xf_all, if_true, if_false, true_or, or_true, eq_self, ite_not, Bool.false_eq_true, ite_self, and_self, true_and, and_true, false_and, and_false, not_true_eq_false, not_false_eq_true, xj_Tape_cut, xb_Tape_cut_0, xb_Tape_cut_18, xb_Tape_cut_20, h1, h2, h3]
theorem vi_Tb {I : Nat → Nat → Int32} (h : vi_T I) : ∃ t : Nat, t ≤ 260 ∧ I 1 1 = nI t ∧ I 167 7 = nI t ∧ ∃ b : Nat → Nat, ∀ j, j < t → b j < 256 ∧ I 2 j = nI (b j) ∧ I 173 j &&& 255 = nI (b j) := by
  obtain ⟨t, t1, t2, t3, t4⟩ := h
  refine ⟨t, t1, t2, t3, fun j => (I 173 j).toBitVec.toNat % 256, fun j hj => ?_⟩
  have e : I 173 j &&& 255 = nI ((I 173 j).toBitVec.toNat % 2 ^ 8) := pk_and _ 8 (by decide)
  exact ⟨Nat.mod_lt _ (by decide), by rw [t4 j hj]; exact e, e⟩
theorem vy_absC {a b : Nat} (ha : a < 256) (hb : b < 256) : (if 0 ≤ nI a - nI b then nI a - nI b else 0 - (nI a - nI b)) = nI (vw_d a b) := by
  unfold vw_d
  by_cases h : b ≤ a
  · rw [if_pos h, pk_sub h, if_pos (nI_pos' (by omega))]
  · have e : (nI a - nI b).toInt = (a : Int) - b := pk_sub_toInt (by omega) (by omega)
    have hn : ¬ 0 ≤ nI a - nI b := by rw [Int32.le_iff_toInt_le, e, vt_0]; omega
    rw [if_neg h, if_neg hn, Int32.zero_sub, Int32.neg_sub, pk_sub (by omega)]
theorem vy_absM {a b : Nat} (ha : a < 256) (hb : b < 256) : (if nI a - nI b < 0 then -(nI a - nI b) else nI a - nI b) = nI (vw_d a b) := by
  unfold vw_d
  by_cases h : b ≤ a
  · rw [if_pos h, pk_sub h, if_neg (nI_pos (by omega))]
  · have e : (nI a - nI b).toInt = (a : Int) - b := pk_sub_toInt (by omega) (by omega)
    have hn : nI a - nI b < 0 := by rw [Int32.lt_iff_toInt_lt, e, vt_0]; omega
    rw [if_neg h, if_pos hn, Int32.neg_sub, pk_sub (by omega)]
theorem vw_d_le {a b : Nat} (ha : a < 256) (hb : b < 256) : vw_d a b < 256 := by
  unfold vw_d
  split <;> omega
theorem vw_d_s (a b : Nat) : vw_d a b = vw_d b a := by
  unfold vw_d
  by_cases h : b ≤ a
  · by_cases h2 : a ≤ b
    · rw [if_pos h, if_pos h2]; omega
    · rw [if_pos h, if_neg h2]
  · rw [if_neg h, if_pos (by omega)]
def vy_ok (b : Nat → Nat) (sp i j : Nat) : Bool := decide (vw_d (b (2 * i + 1)) (b (2 * j + 1)) ≤ sp * vw_d (b (2 * i)) (b (2 * j)))
theorem vy_oks (b : Nat → Nat) (sp i j : Nat) : vy_ok b sp i j = vy_ok b sp j i := by
  unfold vy_ok
  rw [vw_d_s (b (2 * i + 1)), vw_d_s (b (2 * i))]
theorem vy_okr (b : Nat → Nat) (sp i : Nat) : vy_ok b sp i i = true := by
  unfold vy_ok vw_d
  rw [if_pos (Nat.le_refl _), Nat.sub_self]
  exact decide_eq_true (Nat.zero_le _)
theorem xq_canBoth (ro : xv_Ro) (d : Nat) (z : Nat × Nat) (I : Nat → Nat → Int32) (J : Nat → Nat → Int64) {b : Nat → Nat} {n sp i j : Nat} (hn : I 1 2 = nI (2 * n)) (hn2 : n ≤ 12) (hb : ∀ j, j < 2 * n → b j < 256 ∧ I 2 j = nI (b j)) (hi : i < n) (hj : j < n) (hsp : sp ≤ 99) : xv_evm ro (d + 1) 37 [.ref 0, .int (nI i), .int (nI j), .int (nI sp)] (z, xv_mk I J) = some (some (.int (xv_b (vy_ok b sp i j = true) inferInstance)), (z, xv_mk I J)) := by
  have t1 := xq_Tape_byteAt ro d z I J (n := 2 * n) (i := 2 * i) hn (by omega) (by omega)
  have t2 := xq_Tape_byteAt ro d z I J (n := 2 * n) (i := 2 * j) hn (by omega) (by omega)
  have t3 := xq_Tape_byteAt ro d z I J (n := 2 * n) (i := 2 * i + 1) hn (by omega) (by omega)
  have t4 := xq_Tape_byteAt ro d z I J (n := 2 * n) (i := 2 * j + 1) hn (by omega) (by omega)
  obtain ⟨x1, y1⟩ := hb (2 * i) (by omega)
  obtain ⟨x2, y2⟩ := hb (2 * j) (by omega)
  obtain ⟨x3, y3⟩ := hb (2 * i + 1) (by omega)
  obtain ⟨x4, y4⟩ := hb (2 * j + 1) (by omega)
  rw [y1] at t1
  rw [y2] at t2
  rw [y3] at t3
  rw [y4] at t4
  have e1 : 2 * nI i = nI (2 * i) := by (simp (disch := omega) only [vz_all, if_true, if_false, true_or, or_true, eq_self, ite_not, Bool.false_eq_true, ite_self, and_self, true_and, and_true, false_and, and_false, not_true_eq_false, not_false_eq_true, false_or, or_false])
  have e2 : 2 * nI j = nI (2 * j) := by (simp (disch := omega) only [vz_all, if_true, if_false, true_or, or_true, eq_self, ite_not, Bool.false_eq_true, ite_self, and_self, true_and, and_true, false_and, and_false, not_true_eq_false, not_false_eq_true, false_or, or_false])
  have a1 := vy_absC x1 x2
  have a2 := vy_absC x3 x4
  have l1 := vw_d_le x1 x2
  have l2 := vw_d_le x3 x4
  have hok : vy_ok b sp i j = decide (vw_d (b (2 * i + 1)) (b (2 * j + 1)) ≤ sp * vw_d (b (2 * i)) (b (2 * j))) := rfl
  rw [hok]
  have lm : sp * vw_d (b (2 * i)) (b (2 * j)) ≤ 99 * 256 := Nat.mul_le_mul hsp (by omega)
  rw [xe_Ct_canBoth]
  generalize vw_d (b (2 * i)) (b (2 * j)) = D1 at *
  generalize vw_d (b (2 * i + 1)) (b (2 * j + 1)) = D2 at *
  by_cases c : D2 ≤ sp * D1
  · rw [vz_b1 (decide_eq_true c)]
    have g : (nI (sp * D1) < nI D2) = False := by (simp (disch := omega) only [vz_all, if_true, if_false, true_or, or_true, eq_self, ite_not, Bool.false_eq_true, ite_self, and_self, true_and, and_true, false_and, and_false, not_true_eq_false, not_false_eq_true, false_or, or_false])
    simp only [xr_all, xf_all, if_true, if_false, true_or, or_true, eq_self, ite_not, Bool.false_eq_true, ite_self, and_self, true_and, and_true, false_and, and_false, not_true_eq_false, not_false_eq_true, xj_Ct_canBoth, xb_Ct_canBoth_0, xb_Ct_canBoth_69, xb_Ct_canBoth_70, e1, e2, t1, t2, nI_1, t3, t4, a1, a2, pk_mul, g]
  · rw [vz_b0 (fun q => c (of_decide_eq_true q))]
    have g : (nI (sp * D1) < nI D2) = True := by (simp (disch := omega) only [vz_all, if_true, if_false, true_or, or_true, eq_self, ite_not, Bool.false_eq_true, ite_self, and_self, true_and, and_true, false_and, and_false, not_true_eq_false, not_false_eq_true, false_or, or_false])
    simp only [xr_all, xf_all, if_true, if_false, true_or, or_true, eq_self, ite_not, Bool.false_eq_true, ite_self, and_self, true_and, and_true, false_and, and_false, not_true_eq_false, not_false_eq_true, xj_Ct_canBoth, xb_Ct_canBoth_0, xb_Ct_canBoth_69, xb_Ct_canBoth_70, e1, e2, t1, t2, nI_1, t3, t4, a1, a2, pk_mul, g]
theorem xq_areTrue (ro : xv_Ro) (d : Nat) (z : Nat × Nat) (I : Nat → Nat → Int32) (J : Nat → Nat → Int64) {b : Nat → Nat} {n sp i j : Nat} (hn2 : n ≤ 12) (hb : ∀ j, j < 2 * n → b j < 256 ∧ I 173 j &&& 255 = nI (b j)) (hi : i < n) (hj : j < n) (hsp : sp ≤ 99) : xv_evm ro (d + 1) 128 [.ref 167, .int (nI i), .int (nI j), .int (nI sp)] (z, xv_mk I J) = some (some (.int (xv_b (vy_ok b sp i j = true) inferInstance)), (z, xv_mk I J)) := by
  obtain ⟨x1, y1⟩ := hb (2 * i) (by omega)
  obtain ⟨x2, y2⟩ := hb (2 * j) (by omega)
  obtain ⟨x3, y3⟩ := hb (2 * i + 1) (by omega)
  obtain ⟨x4, y4⟩ := hb (2 * j + 1) (by omega)
  have e1 : 2 * nI i = nI (2 * i) := by (simp (disch := omega) only [vz_all, if_true, if_false, true_or, or_true, eq_self, ite_not, Bool.false_eq_true, ite_self, and_self, true_and, and_true, false_and, and_false, not_true_eq_false, not_false_eq_true, false_or, or_false])
  have e2 : 2 * nI j = nI (2 * j) := by (simp (disch := omega) only [vz_all, if_true, if_false, true_or, or_true, eq_self, ite_not, Bool.false_eq_true, ite_self, and_self, true_and, and_true, false_and, and_false, not_true_eq_false, not_false_eq_true, false_or, or_false])
  have b1 : xv_inB (nI (2 * i)) 260 = true := by (simp (disch := omega) only [vz_all, if_true, if_false, true_or, or_true, eq_self, ite_not, Bool.false_eq_true, ite_self, and_self, true_and, and_true, false_and, and_false, not_true_eq_false, not_false_eq_true, false_or, or_false])
  have b2 : xv_inB (nI (2 * j)) 260 = true := by (simp (disch := omega) only [vz_all, if_true, if_false, true_or, or_true, eq_self, ite_not, Bool.false_eq_true, ite_self, and_self, true_and, and_true, false_and, and_false, not_true_eq_false, not_false_eq_true, false_or, or_false])
  have b3 : xv_inB (nI (2 * i + 1)) 260 = true := by (simp (disch := omega) only [vz_all, if_true, if_false, true_or, or_true, eq_self, ite_not, Bool.false_eq_true, ite_self, and_self, true_and, and_true, false_and, and_false, not_true_eq_false, not_false_eq_true, false_or, or_false])
  have b4 : xv_inB (nI (2 * j + 1)) 260 = true := by (simp (disch := omega) only [vz_all, if_true, if_false, true_or, or_true, eq_self, ite_not, Bool.false_eq_true, ite_self, and_self, true_and, and_true, false_and, and_false, not_true_eq_false, not_false_eq_true, false_or, or_false])
  have a1 := vy_absM x1 x2
  have a2 := vy_absM x3 x4
  have l1 := vw_d_le x1 x2
  have l2 := vw_d_le x3 x4
  have hok : vy_ok b sp i j = decide (vw_d (b (2 * i + 1)) (b (2 * j + 1)) ≤ sp * vw_d (b (2 * i)) (b (2 * j))) := rfl
  rw [hok]
  have lm : vw_d (b (2 * i)) (b (2 * j)) * sp ≤ 256 * 99 := Nat.mul_le_mul (by omega) hsp
  rw [Nat.mul_comm sp]
  rw [xe_Mo_areTrue]
  generalize vw_d (b (2 * i)) (b (2 * j)) = D1 at *
  generalize vw_d (b (2 * i + 1)) (b (2 * j + 1)) = D2 at *
  by_cases c : D2 ≤ D1 * sp
  · rw [vz_b1 (decide_eq_true c)]
    have g : (nI (D1 * sp) < nI D2) = False := by (simp (disch := omega) only [vz_all, if_true, if_false, true_or, or_true, eq_self, ite_not, Bool.false_eq_true, ite_self, and_self, true_and, and_true, false_and, and_false, not_true_eq_false, not_false_eq_true, false_or, or_false])
    simp only [xr_all, xf_all, if_true, if_false, true_or, or_true, eq_self, ite_not, Bool.false_eq_true, ite_self, and_self, true_and, and_true, false_and, and_false, not_true_eq_false, not_false_eq_true, xj_Mo_areTrue, xb_Mo_areTrue_0, xb_Mo_areTrue_73, xb_Mo_areTrue_74, e1, e2, b1, b2, b3, b4, nI_1, nI_clamp (show 2 * i < 2 ^ 31 by omega), nI_clamp (show 2 * j < 2 ^ 31 by omega), nI_clamp (show 2 * i + 1 < 2 ^ 31 by omega), nI_clamp (show 2 * j + 1 < 2 ^ 31 by omega), y1, y2, y3, y4, xq_Mo_size, a1, a2, pk_mul, g]
  · rw [vz_b0 (fun q => c (of_decide_eq_true q))]
    have g : (nI (D1 * sp) < nI D2) = True := by (simp (disch := omega) only [vz_all, if_true, if_false, true_or, or_true, eq_self, ite_not, Bool.false_eq_true, ite_self, and_self, true_and, and_true, false_and, and_false, not_true_eq_false, not_false_eq_true, false_or, or_false])
    simp only [xr_all, xf_all, if_true, if_false, true_or, or_true, eq_self, ite_not, Bool.false_eq_true, ite_self, and_self, true_and, and_true, false_and, and_false, not_true_eq_false, not_false_eq_true, xj_Mo_areTrue, xb_Mo_areTrue_0, xb_Mo_areTrue_73, xb_Mo_areTrue_74, e1, e2, b1, b2, b3, b4, nI_1, nI_clamp (show 2 * i < 2 ^ 31 by omega), nI_clamp (show 2 * j < 2 ^ 31 by omega), nI_clamp (show 2 * i + 1 < 2 ^ 31 by omega), nI_clamp (show 2 * j + 1 < 2 ^ 31 by omega), y1, y2, y3, y4, xq_Mo_size, a1, a2, pk_mul, g]
/-- all of the k from i on -/
def vs_fr (p : Nat → Bool) : Nat → Nat → Bool
  | 0, _ => true
  | k + 1, i => p i && vs_fr p k (i + 1)
theorem vs_fri {p : Nat → Bool} : ∀ {k i : Nat}, vs_fr p k i = true ↔ ∀ j, i ≤ j → j < i + k → p j = true := by
  intro k
  induction k with
  | zero => intro i; exact ⟨fun _ j h1 h2 => by omega, fun _ => rfl⟩
  | succ k ih =>
    intro i
    show (p i && vs_fr p k (i + 1)) = true ↔ _
    rw [Bool.and_eq_true, ih]
    constructor
    · rintro ⟨h1, h2⟩ j h3 h4
      by_cases c : j = i
      · rw [c]; exact h1
      · exact h2 j (by omega) (by omega)
    · intro h
      exact ⟨h i (Nat.le_refl i) (by omega), fun j h1 h2 => h j (by omega) (by omega)⟩
/-- the bits of the first n that p names -/
def vy_m (p : Nat → Bool) : Nat → Nat
  | 0 => 0
  | j + 1 => if p j = true then vy_m p j + 2 ^ j else vy_m p j
theorem vy_m_lt (p : Nat → Bool) (n : Nat) : vy_m p n < 2 ^ n := by
  induction n with
  | zero => exact Nat.one_pos
  | succ n ih =>
    show (if p n = true then vy_m p n + 2 ^ n else vy_m p n) < 2 ^ (n + 1)
    rw [Nat.pow_succ]
    split <;> omega
theorem vy_m_tb (p : Nat → Bool) : ∀ (n j : Nat), j < n → (vy_m p n).testBit j = p j := by
  intro n
  induction n with
  | zero => intro j hj; omega
  | succ n ih =>
    intro j hj
    show (if p n = true then vy_m p n + 2 ^ n else vy_m p n).testBit j = p j
    by_cases c : p n = true
    · rw [if_pos c, vb_set_tb (vy_m_lt p n)]
      by_cases c2 : j < n
      · rw [if_pos c2]; exact ih j c2
      · rw [if_neg c2, show j = n by omega, c]; simp
    · rw [if_neg c]
      by_cases c2 : j < n
      · exact ih j c2
      · rw [show j = n by omega, Nat.testBit_lt_two_pow (vy_m_lt p n)]
        cases hp : p n with
        | false => rfl
        | true => exact absurd hp c
theorem vy_sub {a b : Nat} (ha : a < 2 ^ 32) (hb : b < 2 ^ 32) : (nI a &&& (nI b ^^^ -1) = 0) ↔ ∀ i, a.testBit i = true → b.testBit i = true := by
  have ea : ∀ i, i < 32 → (nI a).toBitVec.getLsbD i = a.testBit i := fun i hi => by
    show (BitVec.ofNat 32 a).getLsbD i = _
    rw [BitVec.getLsbD_ofNat]; simp [hi]
  have eb : ∀ i, i < 32 → (nI b).toBitVec.getLsbD i = b.testBit i := fun i hi => by
    show (BitVec.ofNat 32 b).getLsbD i = _
    rw [BitVec.getLsbD_ofNat]; simp [hi]
  constructor
  · intro h i hi
    by_cases c : i < 32
    · have h2 := congrArg (fun x : Int32 => x.toBitVec.getLsbD i) h
      simp only [Int32.toBitVec_and, BitVec.getLsbD_and, Int32.toBitVec_xor, BitVec.getLsbD_xor, ea i c, eb i c, vq_m1 i (show i < 64 by omega)] at h2
      rw [hi] at h2
      cases hb2 : b.testBit i with
      | true => rfl
      | false =>
        rw [hb2] at h2
        simp [c] at h2
    · rw [Nat.testBit_lt_two_pow (Nat.lt_of_lt_of_le ha (Nat.pow_le_pow_right (by omega) (by omega)))] at hi
      cases hi
  · intro h
    apply Int32.toBitVec_inj.mp
    apply BitVec.eq_of_getLsbD_eq
    intro i hi
    rw [Int32.toBitVec_and, BitVec.getLsbD_and, Int32.toBitVec_xor, BitVec.getLsbD_xor, ea i hi, eb i hi, vq_m1 i (by omega)]
    have := h i
    cases h1 : a.testBit i with
    | false => simp
    | true => rw [this h1]; simp [hi]
