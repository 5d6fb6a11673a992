/-! numbers in conditions, decided by omega -/
section VZ
variable {k i a b : Nat}
theorem vz_le1T (h : (OfNat.ofNat k : Nat) ≤ i) (hi : i < 2 ^ 31) : ((no_index (OfNat.ofNat k) : Int32) ≤ nI i) = True := eq_true (nI_le (a := k) h hi)
theorem vz_le1F (h : i < (OfNat.ofNat k : Nat)) (hk : (OfNat.ofNat k : Nat) < 2 ^ 31) : ((no_index (OfNat.ofNat k) : Int32) ≤ nI i) = False := eq_false (nI_ge (b := k) h hk)
theorem vz_le2T (h : i ≤ (OfNat.ofNat k : Nat)) (hk : (OfNat.ofNat k : Nat) < 2 ^ 31) : (nI i ≤ (no_index (OfNat.ofNat k) : Int32)) = True := eq_true (nI_le (b := k) h hk)
theorem vz_le2F (h : (OfNat.ofNat k : Nat) < i) (hi : i < 2 ^ 31) : (nI i ≤ (no_index (OfNat.ofNat k) : Int32)) = False := eq_false (nI_ge (a := k) h hi)
theorem vz_lt1T (h : (OfNat.ofNat k : Nat) < i) (hi : i < 2 ^ 31) : ((no_index (OfNat.ofNat k) : Int32) < nI i) = True := eq_true (nI_lt (a := k) h hi)
theorem vz_lt1F (h : i ≤ (OfNat.ofNat k : Nat)) (hk : (OfNat.ofNat k : Nat) < 2 ^ 31) : ((no_index (OfNat.ofNat k) : Int32) < nI i) = False := eq_false (nI_nlt (a := k) h hk)
theorem vz_lt2T (h : i < (OfNat.ofNat k : Nat)) (hk : (OfNat.ofNat k : Nat) < 2 ^ 31) : (nI i < (no_index (OfNat.ofNat k) : Int32)) = True := eq_true (nI_lt (b := k) h hk)
theorem vz_lt2F (h : (OfNat.ofNat k : Nat) ≤ i) (hi : i < 2 ^ 31) : (nI i < (no_index (OfNat.ofNat k) : Int32)) = False := eq_false (nI_nlt (b := k) h hi)
theorem vz_leT (h : a ≤ b) (hb : b < 2 ^ 31) : (nI a ≤ nI b) = True := eq_true (nI_le h hb)
theorem vz_leF (h : b < a) (ha : a < 2 ^ 31) : (nI a ≤ nI b) = False := eq_false (nI_ge h ha)
theorem vz_ltT (h : a < b) (hb : b < 2 ^ 31) : (nI a < nI b) = True := eq_true (nI_lt h hb)
theorem vz_ltF (h : b ≤ a) (ha : a < 2 ^ 31) : (nI a < nI b) = False := eq_false (nI_nlt h ha)
theorem vz_eqF (h : a ≠ b) (ha : a < 2 ^ 31) (hb : b < 2 ^ 31) : (nI a = nI b) = False := eq_false (fun q => h ((nI_eq ha hb).mp q))
theorem vz_eqT (h : a = b) : (nI a = nI b) = True := eq_true (by rw [h])
theorem vz_eq2T (h : i = (OfNat.ofNat k : Nat)) : (nI i = (no_index (OfNat.ofNat k) : Int32)) = True := eq_true (by rw [h]; rfl)
theorem vz_eq2F (h : i ≠ (OfNat.ofNat k : Nat)) (hi : i < 2 ^ 31) (hk : (OfNat.ofNat k : Nat) < 2 ^ 31) : (nI i = (no_index (OfNat.ofNat k) : Int32)) = False := eq_false (fun q => h ((nI_eq (b := k) hi hk).mp q))
theorem vz_eq1T (h : i = (OfNat.ofNat k : Nat)) : ((no_index (OfNat.ofNat k) : Int32) = nI i) = True := eq_true (by rw [h]; rfl)
theorem vz_eq1F (h : i ≠ (OfNat.ofNat k : Nat)) (hi : i < 2 ^ 31) (hk : (OfNat.ofNat k : Nat) < 2 ^ 31) : ((no_index (OfNat.ofNat k) : Int32) = nI i) = False := eq_false (fun q => h ((nI_eq (a := k) hk hi).mp q).symm)
theorem vz_nn {n : Nat} (hi : i < 2 ^ 31) (hn : (OfNat.ofNat n : Nat) < 2 ^ 31) : ¬ nI i = -nI n ∨ n = 0 := by
  by_cases h : n = 0
  · exact Or.inr h
  · left
    intro q
    have h1 := congrArg Int32.toInt q
    have hn2 : n < 2 ^ 31 := hn
    rw [nI_toInt hi, Int32.toInt_neg, nI_toInt hn2, Int.bmod_eq_of_le (by omega) (by omega)] at h1
    omega
theorem vz_m1 (hi : i < 2 ^ 31) : (nI i = -1) = False := eq_false (fun q => (vz_nn (n := 1) hi (by decide)).elim (fun h => h q) (fun h => by cases h))
theorem vz_m2 (hi : i < 2 ^ 31) : (nI i = -2) = False := eq_false (fun q => (vz_nn (n := 2) hi (by decide)).elim (fun h => h q) (fun h => by cases h))
theorem vz_inB {N : Nat} (h : i < N) (hN : N < 2 ^ 31) : xv_inB (nI i) N = true := vn_inB h hN
theorem vz_inBL {N : Nat} (h : (OfNat.ofNat k : Nat) < N) (hN : N < 2 ^ 31) : xv_inB (no_index (OfNat.ofNat k) : Int32) N = true := vn_inB (n := k) h hN
theorem vz_cl (h : i < 2 ^ 31) : (nI i).toNatClampNeg = i := nI_clamp h
theorem vz_clL (h : (OfNat.ofNat k : Nat) < 2 ^ 31) : (no_index (OfNat.ofNat k) : Int32).toNatClampNeg = (OfNat.ofNat k : Nat) := nI_clamp (n := k) h
theorem vz_add1 : (no_index (OfNat.ofNat k) : Int32) + nI i = nI ((OfNat.ofNat k : Nat) + i) := nI_add k i
theorem vz_add2 : nI i + (no_index (OfNat.ofNat k) : Int32) = nI (i + (OfNat.ofNat k : Nat)) := nI_add i k
theorem vz_mul1 : (no_index (OfNat.ofNat k) : Int32) * nI i = nI ((OfNat.ofNat k : Nat) * i) := pk_mul k i
theorem vz_mul2 : nI i * (no_index (OfNat.ofNat k) : Int32) = nI (i * (OfNat.ofNat k : Nat)) := pk_mul i k
theorem vz_sub1 (h : i ≤ (OfNat.ofNat k : Nat)) : (no_index (OfNat.ofNat k) : Int32) - nI i = nI ((OfNat.ofNat k : Nat) - i) := pk_sub (a := k) h
theorem vz_sub2 (h : (OfNat.ofNat k : Nat) ≤ i) : nI i - (no_index (OfNat.ofNat k) : Int32) = nI (i - (OfNat.ofNat k : Nat)) := pk_sub (b := k) h
theorem vz_sub (h : b ≤ a) : nI a - nI b = nI (a - b) := pk_sub h
theorem vz_dec (h : 1 ≤ i) : nI i + (-1) = nI (i - 1) := by
  have := pk_m1 (i - 1)
  rwa [show i - 1 + 1 = i by omega] at this
end VZ
def vz_all := And.intro (And.intro (And.intro (And.intro (@vz_le1T) (@vz_le1F)) (And.intro (@vz_le2T) (@vz_le2F))) (And.intro (And.intro (@vz_lt1T) (@vz_lt1F)) (And.intro (@vz_lt2T) (@vz_lt2F)))) (And.intro (And.intro (And.intro (And.intro (@vz_leT) (@vz_leF)) (And.intro (@vz_ltT) (@vz_ltF))) (And.intro (And.intro (@vz_eqT) (@vz_eqF)) (And.intro (And.intro (@vz_eq1T) (@vz_eq1F)) (And.intro (@vz_eq2T) (@vz_eq2F))))) (And.intro (And.intro (And.intro (@vz_m1) (@vz_m2)) (And.intro (And.intro (@vz_inB) (@vz_inBL)) (And.intro (@vz_cl) (@vz_clL)))) (And.intro (And.intro (And.intro (@vz_add1) (@vz_add2)) (And.intro (@vz_mul1) (@vz_mul2))) (And.intro (And.intro (@vz_sub1) (@vz_sub2)) (And.intro (@vz_sub) (And.intro (@vz_dec) (@nI_add)))))))
/-- a chain of equal values -/
theorem vz_iter {α : Type} (F : Nat → α) (n : Nat) (h : ∀ i, i < n → F i = F (i + 1)) : F 0 = F n := by
  induction n with
  | zero => rfl
  | succ n ih => rw [ih (fun i hi => h i (by omega)), h n (by omega)]
theorem vz_iter2 {α : Type} (F : Nat → α) (m n : Nat) (hmn : m ≤ n) (h : ∀ i, m ≤ i → i < n → F i = F (i + 1)) : F m = F n := by
  have := vz_iter (fun i => F (m + i)) (n - m) (fun i hi => h (m + i) (by omega) (by omega))
  simp only [Nat.add_zero] at this
  rw [this, show m + (n - m) = n by omega]
theorem vz_down (P : Nat → Prop) (n : Nat) (h : ∀ i, i < n → P (i + 1) → P i) (hn : P n) : P 0 := by
  induction n with
  | zero => exact hn
  | succ n ih => exact ih (fun i hi => h i (by omega)) (h n (by omega) hn)
theorem vz_b1 {c : Prop} {h : Decidable c} (hc : c) : xv_b c h = 1 := if_pos hc
theorem vz_b0 {c : Prop} {h : Decidable c} (hc : ¬ c) : xv_b c h = 0 := if_neg hc
/-- a try -/
theorem vz_try (i n : Nat) (hi : i < 10) (hn : n ≤ 7) (x y : Nat) : (if (10 : Int32) ≤ nI i then x else if xv_inB (140 + nI n) 304 = true then (140 + nI n).toNatClampNeg else y) = 140 + n := by
  simp (disch := omega) only [vz_all, if_true, if_false]
