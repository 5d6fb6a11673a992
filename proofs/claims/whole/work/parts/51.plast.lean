/-! PAIR: agree -/
/-- the last of the first n that p names -/
def vk_l (p : Nat → Bool) : Nat → Option Nat
  | 0 => none
  | n + 1 => if p n = true then some n else vk_l p n
def vk_v (A : Nat) : Option Nat → Value
  | none => .null
  | some j => .ref (A + 23 + j)
def vk_i : Option Nat → Int32
  | none => -1
  | some j => nI j
theorem vk_l_c {p q : Nat → Bool} {n : Nat} (h : ∀ i, i < n → p i = q i) : vk_l p n = vk_l q n := by
  induction n with
  | zero => rfl
  | succ n ih =>
    show (if p n = true then some n else vk_l p n) = (if q n = true then some n else vk_l q n)
    rw [h n (by omega), ih (fun i hi => h i (by omega))]
theorem vk_l_lt {p : Nat → Bool} {n j : Nat} (h : vk_l p n = some j) : j < n := by
  induction n with
  | zero => exact absurd h (by simp [vk_l])
  | succ n ih =>
    have h1 : (if p n = true then some n else vk_l p n) = some j := h
    by_cases c : p n = true
    · rw [if_pos c] at h1; injection h1 with h1; omega
    · rw [if_neg c] at h1; have := ih h1; omega
def vk_p (I : Nat → Nat → Int32) (A : Nat) (x y : Int32) (i : Nat) : Bool := decide (I (A + 23 + i) 0 = x ∧ I (A + 23 + i) 1 = y)
def vk_q (I : Nat → Nat → Int32) (x y : Int32) (i : Nat) : Bool := decide (I 168 (140 + i) = x ∧ I 168 (160 + i) = y)
theorem vl_lastC (ro : xv_Ro) (d : Nat) (z : Nat × Nat) (I : Nat → Nat → Int32) (J : Nat → Nat → Int64) {A n : Nat} (hA : vAr A) (hn : I A 2 = nI n) (hn2 : n ≤ 20) (x y : Int32) : ∀ (k i : Nat), i + k = n → xv_ev ro (d + 1) xm_Archive_lastOf xb_Archive_lastOf_5 [some (.ref A), some (.int x), some (.int y), some (vk_v A (vk_l (vk_p I A x y) i)), some (.int (nI i))] [] (z, xv_mk I J) = some (some (vk_v A (vk_l (vk_p I A x y) n)), (z, xv_mk I J)) := by
  intro k
  induction k with
  | zero =>
    intro i hi
    obtain rfl : i = n := by omega
    have h1 : (nI i ≤ nI i) = True := by rw [vn_le (by omega) (by omega)]; simp
    generalize vk_l (vk_p I A x y) i = o
    conv => lhs; unfold xb_Archive_lastOf_5
    cases o <;> simp only [xr_all, xf_all, if_true, if_false, true_or, or_true, eq_self, ite_not, Bool.false_eq_true, ite_self, and_self, true_and, and_true, false_and, and_false, not_true_eq_false, not_false_eq_true, xj_Archive_lastOf, xb_Archive_lastOf_0, xb_Archive_lastOf_57, xb_Archive_lastOf_63, vAr_f hA, hn, h1, vk_v]
  | succ k ih =>
    intro i hi
    have ih1 := ih (i + 1) (by omega)
    have h1 : (nI n ≤ nI i) = False := by rw [vn_le (by omega) (by omega)]; simp; omega
    have h2 : (20 ≤ nI i) = False := by rw [show (20 : Int32) = nI 20 from rfl, vn_le (by omega) (by omega)]; simp; omega
    have h4 : xv_inB (nI i) 20 = true := vn_inB (by omega) (by omega)
    have m1 : A + 23 + 1 * i = A + 23 + i := by omega
    have hN := vAr_N hA (show i < 20 by omega)
    have hs : vk_l (vk_p I A x y) (i + 1) = if vk_p I A x y i = true then some i else vk_l (vk_p I A x y) i := rfl
    by_cases c1 : I (A + 23 + i) 0 = x
    · by_cases c2 : I (A + 23 + i) 1 = y
      · have hp : vk_p I A x y i = true := by unfold vk_p; exact decide_eq_true ⟨c1, c2⟩
        rw [hs, if_pos hp] at ih1
        rw [← ih1]
        conv => lhs; unfold xb_Archive_lastOf_5
        generalize vk_l (vk_p I A x y) i = o
        cases o <;> simp only [xr_all, xf_all, if_true, if_false, true_or, or_true, eq_self, ite_not, Bool.false_eq_true, ite_self, and_self, true_and, and_true, false_and, and_false, not_true_eq_false, not_false_eq_true, xj_Archive_lastOf, xb_Archive_lastOf_0, xb_Archive_lastOf_57, xb_Archive_lastOf_63, vAr_f hA, hn, h1, h2, h4, nI_clamp (show i < 2 ^ 31 by omega), m1, vN_f hN, xq_Answer_who ro d z I J hN, xq_Answer_asked ro d z I J hN, c1, c2, nI_1, vk_v]
      · have hp : ¬ vk_p I A x y i = true := by unfold vk_p; intro q; exact c2 (of_decide_eq_true q).2
        rw [hs, if_neg hp] at ih1
        rw [← ih1]
        conv => lhs; unfold xb_Archive_lastOf_5
        simp only [xr_all, xf_all, if_true, if_false, true_or, or_true, eq_self, ite_not, Bool.false_eq_true, ite_self, and_self, true_and, and_true, false_and, and_false, not_true_eq_false, not_false_eq_true, xj_Archive_lastOf, xb_Archive_lastOf_0, xb_Archive_lastOf_57, xb_Archive_lastOf_63, vAr_f hA, hn, h1, h2, h4, nI_clamp (show i < 2 ^ 31 by omega), m1, vN_f hN, xq_Answer_who ro d z I J hN, xq_Answer_asked ro d z I J hN, c1, c2, nI_1]
    · have hp : ¬ vk_p I A x y i = true := by unfold vk_p; intro q; exact c1 (of_decide_eq_true q).1
      rw [hs, if_neg hp] at ih1
      rw [← ih1]
      conv => lhs; unfold xb_Archive_lastOf_5
      simp only [xr_all, xf_all, if_true, if_false, true_or, or_true, eq_self, ite_not, Bool.false_eq_true, ite_self, and_self, true_and, and_true, false_and, and_false, not_true_eq_false, not_false_eq_true, xj_Archive_lastOf, xb_Archive_lastOf_0, xb_Archive_lastOf_57, xb_Archive_lastOf_63, vAr_f hA, hn, h1, h2, h4, nI_clamp (show i < 2 ^ 31 by omega), m1, vN_f hN, xq_Answer_who ro d z I J hN, c1, nI_1]
theorem vl_lastM (ro : xv_Ro) (d : Nat) (z : Nat × Nat) (I : Nat → Nat → Int32) (J : Nat → Nat → Int64) (x y : Int32) : ∀ (i : Nat), i ≤ 20 → xv_ev ro d xm_Mo_lastOf xb_Mo_lastOf_11 [some (.ref 167), some (.int x), some (.int y), some (.int (nI i - 1))] [] (z, xv_mk I J) = some (some (.int (vk_i (vk_l (vk_q I x y) i))), (z, xv_mk I J)) := by
  intro i
  induction i with
  | zero =>
    intro hi
    conv => lhs; unfold xb_Mo_lastOf_11
    have h1 : (nI 0 - 1 < 0) = True := eq_true (by decide)
    simp only [xr_all, xf_all, if_true, if_false, true_or, or_true, eq_self, ite_not, Bool.false_eq_true, ite_self, and_self, true_and, and_true, false_and, and_false, not_true_eq_false, not_false_eq_true, xj_Mo_lastOf, xb_Mo_lastOf_0, xb_Mo_lastOf_45, xb_Mo_lastOf_51, h1]
    rfl
  | succ i ih =>
    intro hi
    rw [nI_pred]
    have h1 : (nI i < 0) = False := vn_lt0 (by omega)
    have e1 : 140 + nI i = nI (140 + i) := by rw [show (140 : Int32) = nI 140 from rfl, nI_add]
    have h2 : xv_inB (nI (140 + i)) 304 = true := vn_inB (by omega) (by omega)
    have e2 : 160 + nI i = nI (160 + i) := by rw [show (160 : Int32) = nI 160 from rfl, nI_add]
    have h3 : xv_inB (nI (160 + i)) 304 = true := vn_inB (by omega) (by omega)
    have e3 : nI i + -1 = nI i - 1 := (Int32.sub_eq_add_neg _ _).symm
    have hs : vk_l (vk_q I x y) (i + 1) = if vk_q I x y i = true then some i else vk_l (vk_q I x y) i := rfl
    by_cases c1 : I 168 (140 + i) = x
    · by_cases c2 : I 168 (160 + i) = y
      · have hp : vk_q I x y i = true := by unfold vk_q; exact decide_eq_true ⟨c1, c2⟩
        rw [hs, if_pos hp]
        conv => lhs; unfold xb_Mo_lastOf_11
        simp only [xr_all, xf_all, if_true, if_false, true_or, or_true, eq_self, ite_not, Bool.false_eq_true, ite_self, and_self, true_and, and_true, false_and, and_false, not_true_eq_false, not_false_eq_true, xj_Mo_lastOf, xb_Mo_lastOf_0, xb_Mo_lastOf_45, xb_Mo_lastOf_51, h1, e1, e2, h2, h3, nI_clamp (show 140 + i < 2 ^ 31 by omega), nI_clamp (show 160 + i < 2 ^ 31 by omega), c1, c2, vk_i]
      · have hp : ¬ vk_q I x y i = true := by unfold vk_q; intro q; exact c2 (of_decide_eq_true q).2
        rw [hs, if_neg hp, ← ih (by omega)]
        conv => lhs; unfold xb_Mo_lastOf_11
        simp only [xr_all, xf_all, if_true, if_false, true_or, or_true, eq_self, ite_not, Bool.false_eq_true, ite_self, and_self, true_and, and_true, false_and, and_false, not_true_eq_false, not_false_eq_true, xj_Mo_lastOf, xb_Mo_lastOf_0, xb_Mo_lastOf_45, xb_Mo_lastOf_51, h1, e1, e2, h2, h3, nI_clamp (show 140 + i < 2 ^ 31 by omega), nI_clamp (show 160 + i < 2 ^ 31 by omega), c1, c2, e3]
    · have hp : ¬ vk_q I x y i = true := by unfold vk_q; intro q; exact c1 (of_decide_eq_true q).1
      rw [hs, if_neg hp, ← ih (by omega)]
      conv => lhs; unfold xb_Mo_lastOf_11
      simp only [xr_all, xf_all, if_true, if_false, true_or, or_true, eq_self, ite_not, Bool.false_eq_true, ite_self, and_self, true_and, and_true, false_and, and_false, not_true_eq_false, not_false_eq_true, xj_Mo_lastOf, xb_Mo_lastOf_0, xb_Mo_lastOf_45, xb_Mo_lastOf_51, h1, e1, h2, nI_clamp (show 140 + i < 2 ^ 31 by omega), c1, e3]
