/-! the greatest common divisor; parts of the whole -/
theorem vl_cEq {a b : Nat} (ha : a < 2 ^ 63) (hb : b < 2 ^ 63) : (lg_cmp (lN a) (lN b) = 0) = (a = b) := by
  apply propext
  unfold lg_cmp
  have h1 := pk_lLT hb ha
  have h2 := pk_lEQ ha hb
  by_cases c : lN a > lN b
  · rw [if_pos c]
    have := h1.mp c
    constructor
    · intro h; exact absurd h (by decide)
    · intro h; omega
  · rw [if_neg c]
    by_cases c2 : lN a = lN b
    · rw [if_pos c2]
      constructor
      · intro _; exact h2.mp c2
      · intro _; rfl
    · rw [if_neg c2]
      constructor
      · intro h; exact absurd h (by decide)
      · intro h; exact absurd (h2.mpr h) c2
theorem vl_cLe {a b : Nat} (ha : a < 2 ^ 63) (hb : b < 2 ^ 63) : (lg_cmp (lN a) (lN b) ≤ 0) = (a ≤ b) := by
  apply propext
  unfold lg_cmp
  have h1 := pk_lLT hb ha
  have h2 := pk_lEQ ha hb
  by_cases c : lN a > lN b
  · rw [if_pos c]
    have := h1.mp c
    constructor
    · intro h; exact absurd h (by decide)
    · intro h; omega
  · rw [if_neg c]
    have : ¬ b < a := fun q => c (h1.mpr q)
    constructor
    · intro _; omega
    · intro _; split <;> decide
theorem vl_cGe {a b : Nat} (ha : a < 2 ^ 63) (hb : b < 2 ^ 63) : (0 ≤ lg_cmp (lN a) (lN b)) = (b ≤ a) := by
  apply propext
  unfold lg_cmp
  have h1 := pk_lLT hb ha
  have h2 := pk_lEQ ha hb
  by_cases c : lN a > lN b
  · rw [if_pos c]
    have := h1.mp c
    constructor
    · intro _; omega
    · intro _; decide
  · rw [if_neg c]
    have : ¬ b < a := fun q => c (h1.mpr q)
    by_cases c2 : lN a = lN b
    · rw [if_pos c2]
      have := h2.mp c2
      constructor
      · intro _; omega
      · intro _; decide
    · rw [if_neg c2]
      have : ¬ a = b := fun q => c2 (h2.mpr q)
      constructor
      · intro h; exact absurd h (by decide)
      · intro _; omega
theorem vl_c0 {a : Nat} (ha : a < 2 ^ 63) : (lg_cmp (lN a) 0 = 0) = (a = 0) := vl_cEq (b := 0) ha (by omega)
theorem vl_n0 {a : Nat} (ha : a < 2 ^ 63) : (lN a = 0) = (a = 0) := propext (pk_lEQ (b := 0) ha (by omega))
theorem ve_gcd (a b : Nat) : Nat.gcd a b = Nat.gcd b (a % b) := by
  rw [Nat.gcd_comm a b, Nat.gcd_rec b a, Nat.gcd_comm]
def ve_d : Nat → Nat → Nat → Prop
  | 0, _, b => b = 0
  | k + 1, a, b => b = 0 ∨ ve_d k b (a % b)
def ve_f : Nat → Nat
  | 0 => 1
  | 1 => 1
  | n + 2 => ve_f (n + 1) + ve_f n
theorem ve_f2 (n : Nat) : ve_f (n + 2) = ve_f (n + 1) + ve_f n := rfl
theorem ve_fm (n : Nat) : ve_f n ≤ ve_f (n + 1) := by
  cases n with
  | zero => exact Nat.le_refl 1
  | succ n => rw [ve_f2]; omega
theorem ve_not : ∀ (k a b : Nat), b ≤ a → ¬ ve_d k a b → ve_f k ≤ b ∧ ve_f (k + 1) ≤ a := by
  intro k
  induction k with
  | zero =>
    intro a b hab h
    have : ¬ b = 0 := h
    exact ⟨show 1 ≤ b by omega, show 1 ≤ a by omega⟩
  | succ k ih =>
    intro a b hab h
    have h0 : ¬ (b = 0 ∨ ve_d k b (a % b)) := h
    have hb : b ≠ 0 := fun q => h0 (Or.inl q)
    have h1 := Nat.mod_lt a (show b > 0 by omega)
    obtain ⟨g1, g2⟩ := ih b (a % b) (by omega) (fun q => h0 (Or.inr q))
    refine ⟨g2, ?_⟩
    rw [ve_f2]
    have h3 := Nat.div_add_mod a b
    have h4 : 1 ≤ a / b := (Nat.le_div_iff_mul_le (by omega)).mpr (by omega)
    have h5 : b * 1 ≤ b * (a / b) := Nat.mul_le_mul_left b h4
    omega
theorem ve_89 (k : Nat) : 89 * ve_f k ≤ ve_f (k + 10) := by
  have a0 := ve_fm k
  have a2 := ve_f2 k
  have a3 := ve_f2 (k + 1)
  have a4 := ve_f2 (k + 2)
  have a5 := ve_f2 (k + 3)
  have a6 := ve_f2 (k + 4)
  have a7 := ve_f2 (k + 5)
  have a8 := ve_f2 (k + 6)
  have a9 := ve_f2 (k + 7)
  have a10 := ve_f2 (k + 8)
  simp only [Nat.add_assoc, Nat.reduceAdd] at *
  omega
theorem ve_100 : 2 ^ 63 ≤ ve_f 100 := by
  have h : ∀ m, 89 ^ m ≤ ve_f (10 * m) := by
    intro m
    induction m with
    | zero => exact Nat.le_refl 1
    | succ m ih =>
      have h1 := ve_89 (10 * m)
      rw [show 10 * (m + 1) = 10 * m + 10 by omega, Nat.pow_succ]
      omega
  exact Nat.le_trans (by decide) (h 10)
theorem ve_done {a b : Nat} (ha : a < 2 ^ 63) (hab : b ≤ a) : ve_d 100 a b := by
  by_cases h : ve_d 100 a b
  · exact h
  · have := (ve_not 100 a b hab h).1
    have := ve_100
    omega
theorem xq_divisor (ro : xv_Ro) (d : Nat) (σ : xv_S) {a b : Nat} (ha : a < 2 ^ 63) (hab : b ≤ a) : xv_evm ro d 241 [.long (lN b), .long (lN a)] σ = some (some (.long (lN (Nat.gcd a b))), σ) := by
  have hl : ∀ (k i a b : Nat) (u : Option Value) (e1 e2 e3 e4 : Option Value) (x y : Int64), i + k = 100 → a < 2 ^ 63 → b < 2 ^ 63 → ve_d k a b → xv_ev ro d xm_Scales_commonDivisor xb_Scales_commonDivisor_9 [some (.long x), none, some (.long y), none, some (.long (lN a)), none, some (.long (lN b)), none, some (.int (nI i)), u, none] [] σ = some (some (.long (lN (Nat.gcd a b))), σ) := by
    intro k
    induction k with
    | zero =>
      intro i a b u e1 e2 e3 e4 x y hi ha hb hd
      obtain rfl : i = 100 := by omega
      have hb0 : b = 0 := hd
      subst hb0
      rw [Nat.gcd_zero_right]
      conv => lhs; unfold xb_Scales_commonDivisor_9
      have g1 : (100 ≤ nI 100) = True := eq_true (by decide)
      simp only [xr_all, xf_all, if_true, if_false, true_or, or_true, eq_self, ite_not, Bool.false_eq_true, ite_self, and_self, true_and, and_true, false_and, and_false, not_true_eq_false, not_false_eq_true, xj_Scales_commonDivisor, xb_Scales_commonDivisor_0, xb_Scales_commonDivisor_44, g1]
    | succ k ih =>
      intro i a b u e1 e2 e3 e4 x y hi ha hb hd
      have g1 : (100 ≤ nI i) = False := by (simp (disch := omega) only [vz_all, if_true, if_false, true_or, or_true, eq_self, ite_not, Bool.false_eq_true, ite_self, and_self, true_and, and_true, false_and, and_false, not_true_eq_false, not_false_eq_true, false_or, or_false])
      have g2 := vl_c0 hb
      have g3 := vl_n0 hb
      conv => lhs; unfold xb_Scales_commonDivisor_9
      by_cases c : b = 0
      · subst c
        rw [Nat.gcd_zero_right]
        simp only [xr_all, xf_all, if_true, if_false, true_or, or_true, eq_self, ite_not, Bool.false_eq_true, ite_self, and_self, true_and, and_true, false_and, and_false, not_true_eq_false, not_false_eq_true, xj_Scales_commonDivisor, xb_Scales_commonDivisor_0, xb_Scales_commonDivisor_44, g1, g2]
      · have hd2 : ve_d k b (a % b) := by
          rcases hd with q | q
          · exact absurd q c
          · exact q
        have h1 := Nat.mod_lt a (show b > 0 by omega)
        have h2 := ih (i + 1) b (a % b) (some (.long (lN (a % b)))) none none none none x y (by omega) hb (by omega) hd2
        rw [ve_gcd a b]
        simp only [xr_all, xf_all, if_true, if_false, true_or, or_true, eq_self, ite_not, Bool.false_eq_true, ite_self, and_self, true_and, and_true, false_and, and_false, not_true_eq_false, not_false_eq_true, xj_Scales_commonDivisor, xb_Scales_commonDivisor_0, xb_Scales_commonDivisor_44, g1, g2, g3, c, pk_lRem ha (show 0 < b by omega) hb, nI_1, h2]
  rw [xe_Scales_commonDivisor]
  have h := hl 100 0 a b none none none none none (lN b) (lN a) (by omega) ha (by omega) (ve_done ha hab)
  rw [show nI 0 = (0 : Int32) from rfl] at h
  simp only [xr_all, xf_all, if_true, if_false, true_or, or_true, eq_self, ite_not, Bool.false_eq_true, ite_self, and_self, true_and, and_true, false_and, and_false, not_true_eq_false, not_false_eq_true, xj_Scales_commonDivisor, xb_Scales_commonDivisor_0, xb_Scales_commonDivisor_44]
  exact h
theorem xq_Mo_gcd (ro : xv_Ro) (d : Nat) (σ : xv_S) {a b : Nat} (ha : a < 2 ^ 63) (hb : b < 2 ^ 63) : xv_evm ro d 111 [.long (lN a), .long (lN b)] σ = some (some (.long (lN (Nat.gcd a b))), σ) := by
  have hl : ∀ (m a b : Nat) (u : Option Value) (x y : Int64), b ≤ m → a < 2 ^ 63 → b < 2 ^ 63 → xv_ev ro d xm_Mo_gcd xb_Mo_gcd_6 [some (.long x), none, some (.long y), none, some (.long (lN a)), none, some (.long (lN b)), none, u, none] [] σ = some (some (.long (lN (Nat.gcd a b))), σ) := by
    intro m
    induction m with
    | zero =>
      intro a b u x y hm ha hb
      obtain rfl : b = 0 := by omega
      rw [Nat.gcd_zero_right]
      have g2 := vl_c0 hb
      conv => lhs; unfold xb_Mo_gcd_6
      simp only [xr_all, xf_all, if_true, if_false, true_or, or_true, eq_self, ite_not, Bool.false_eq_true, ite_self, and_self, true_and, and_true, false_and, and_false, not_true_eq_false, not_false_eq_true, xj_Mo_gcd, xb_Mo_gcd_0, xb_Mo_gcd_31, g2]
    | succ m ih =>
      intro a b u x y hm ha hb
      have g2 := vl_c0 hb
      have g3 := vl_n0 hb
      conv => lhs; unfold xb_Mo_gcd_6
      by_cases c : b = 0
      · subst c
        rw [Nat.gcd_zero_right]
        simp only [xr_all, xf_all, if_true, if_false, true_or, or_true, eq_self, ite_not, Bool.false_eq_true, ite_self, and_self, true_and, and_true, false_and, and_false, not_true_eq_false, not_false_eq_true, xj_Mo_gcd, xb_Mo_gcd_0, xb_Mo_gcd_31, g2]
      · have h1 := Nat.mod_lt a (show b > 0 by omega)
        have h2 := ih b (a % b) (some (.long (lN (a % b)))) x y (by omega) hb (by omega)
        rw [ve_gcd a b]
        simp only [xr_all, xf_all, if_true, if_false, true_or, or_true, eq_self, ite_not, Bool.false_eq_true, ite_self, and_self, true_and, and_true, false_and, and_false, not_true_eq_false, not_false_eq_true, xj_Mo_gcd, xb_Mo_gcd_0, xb_Mo_gcd_31, g2, g3, c, pk_lRem ha (show 0 < b by omega) hb, h2]
  rw [xe_Mo_gcd]
  simp only [xr_all, xf_all, if_true, if_false, true_or, or_true, eq_self, ite_not, Bool.false_eq_true, ite_self, and_self, true_and, and_true, false_and, and_false, not_true_eq_false, not_false_eq_true, xj_Mo_gcd, xb_Mo_gcd_0, xb_Mo_gcd_31]
  exact hl b a b none (lN a) (lN b) (Nat.le_refl b) ha hb
theorem xq_part (ro : xv_Ro) (d : Nat) (z : Nat × Nat) (C : Nat → Nat → Int32) (J : Nat → Nat → Int64) (x : Int32) (t : Int32) {X : Nat → Nat} (hX : ∀ v, v < 32 → J 24 v = lN (X v)) (hb : vg_S X (fun _ => true) 32 < 2 ^ 63) : xv_evm ro (d + 2) 240 [.ref 22, .int x, .int t] (z, xv_mk C J) = some (some (.long (if vg_S X (fun _ => true) 32 = 0 then -2 else lN ((if t = 0 then vg_S X (fun _ => true) 32 else vg_S X (fun v => (vq_N x).testBit v) 32) / Nat.gcd (vg_S X (fun _ => true) 32) (vg_S X (fun v => (vq_N x).testBit v) 32)))), (z, xv_mk C J)) := by
  rw [xe_Scales_part]
  have h1 := xq_within ro (d + 1) z C J x hX
  have h2 := xq_all ro d z C J hX
  have hle := vg_S_mono (X := X) (b := fun v => (vq_N x).testBit v) 32
  generalize vg_S X (fun _ => true) 32 = B at *
  generalize vg_S X (fun v => (vq_N x).testBit v) 32 = A at *
  have g1 := vl_c0 hb
  by_cases c : B = 0
  · rw [if_pos c]
    simp only [xr_all, xf_all, if_true, if_false, true_or, or_true, eq_self, ite_not, Bool.false_eq_true, ite_self, and_self, true_and, and_true, false_and, and_false, not_true_eq_false, not_false_eq_true, xj_Scales_part, xb_Scales_part_0, xb_Scales_part_23, xb_Scales_part_42, xb_Scales_part_50, xb_Scales_part_52, h1, h2, g1, c]
    first | done | (have z0 : (lg_cmp (lN 0) 0 = 0) = True := eq_true (by decide); simp only [z0, if_true])
  · rw [if_neg c]
    have h3 := xq_divisor ro (d + 1) (z, xv_mk C J) hb hle
    have hg0 : 0 < Nat.gcd B A := Nat.gcd_pos_of_pos_left A (by omega)
    have hg1 : Nat.gcd B A ≤ B := Nat.gcd_le_left A (by omega)
    generalize Nat.gcd B A = G at *
    have g3 := vl_c0 (show G < 2 ^ 63 by omega)
    have g4 := vl_n0 (show G < 2 ^ 63 by omega)
    have c2 : ¬ G = 0 := by omega
    have d1 := pk_lDiv (a := A) (b := G) (by omega) hg0 (by omega)
    have d2 := pk_lDiv (a := B) (b := G) (by omega) hg0 (by omega)
    by_cases ct : t = 0
    · simp only [xr_all, xf_all, if_true, if_false, true_or, or_true, eq_self, ite_not, Bool.false_eq_true, ite_self, and_self, true_and, and_true, false_and, and_false, not_true_eq_false, not_false_eq_true, xj_Scales_part, xb_Scales_part_0, xb_Scales_part_23, xb_Scales_part_42, xb_Scales_part_50, xb_Scales_part_52, h1, h2, g1, c, h3, g3, g4, c2, ct, d2]
    · simp only [xr_all, xf_all, if_true, if_false, true_or, or_true, eq_self, ite_not, Bool.false_eq_true, ite_self, and_self, true_and, and_true, false_and, and_false, not_true_eq_false, not_false_eq_true, xj_Scales_part, xb_Scales_part_0, xb_Scales_part_23, xb_Scales_part_42, xb_Scales_part_50, xb_Scales_part_52, h1, h2, g1, c, h3, g3, g4, c2, ct, d1]
