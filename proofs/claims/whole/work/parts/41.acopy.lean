/-- an answer copied -/
def vc_n (I : Nat → Nat → Int32) (o p : Nat) : Nat → Nat → Int32 := fun a j => if a = o ∧ j < 8 then I p j else I a j
theorem xq_Answer_tell (ro : xv_Ro) (d : Nat) (z : Nat × Nat) (I : Nat → Nat → Int32) (J : Nat → Nat → Int64) {o : Nat} (ho : vN o) (w k y c : Int32) (hy : y = 0 ∨ y = 1) (hc : c = 0 ∨ c = 1) : xv_evm ro d 145 [.ref o, .int w, .int k, .int y, .int c] (z, xv_mk I J) = some (none, (z, xv_mk (xv_u2 (xv_u2 (xv_u2 (xv_u2 I o 0 w) o 1 k) o 2 y) o 3 c) J)) := by
  rw [xe_Answer_tell]
  simp only [xr_all, xf_all, if_true, if_false, true_or, or_true, eq_self, ite_not, Bool.false_eq_true, ite_self, and_self, true_and, and_true, false_and, and_false, not_true_eq_false, not_false_eq_true, xj_Answer_tell, xb_Answer_tell_0, vN_f ho, hy, hc]
theorem xq_Answer_copy (ro : xv_Ro) (d : Nat) (z : Nat × Nat) (J : Nat → Nat → Int64) {o p : Nat} (ho : vN o) (hp : vN p) (h : o ≠ p) (I : Nat → Nat → Int32) (hy : I p 2 = 0 ∨ I p 2 = 1) (hc : I p 3 = 0 ∨ I p 3 = 1) : xv_evm ro (d + 1) 147 [.ref o, .ref p] (z, xv_mk I J) = some (none, (z, xv_mk (vc_n I o p) J)) := by
  rw [xe_Answer_copy]
  have hpo : ¬ p = o := fun q => h q.symm
  simp only [xr_all, xf_all, if_true, if_false, true_or, or_true, eq_self, ite_not, Bool.false_eq_true, ite_self, and_self, true_and, and_true, false_and, and_false, not_true_eq_false, not_false_eq_true, xj_Answer_copy, xb_Answer_copy_0, vN_f ho, vN_f hp, xq_Answer_tell ro d z I J ho (I p 0) (I p 1) (I p 2) (I p 3) hy hc, xv_u2, hpo]
  congr 3
  congr 1
  funext a j
  simp only [vc_n]
  by_cases c1 : a = o
  · subst c1
    by_cases c2 : j < 8
    · match j, c2 with
      | 0, _ => simp [xv_u2]
      | 1, _ => simp [xv_u2]
      | 2, _ => simp [xv_u2]
      | 3, _ => simp [xv_u2]
      | 4, _ => simp [xv_u2]
      | 5, _ => simp [xv_u2]
      | 6, _ => simp [xv_u2]
      | 7, _ => simp [xv_u2]
      | j + 8, h => exact absurd h (by omega)
    · have e0 : ¬ j = 0 := by omega
      have e1 : ¬ j = 1 := by omega
      have e2 : ¬ j = 2 := by omega
      have e3 : ¬ j = 3 := by omega
      have e4 : ¬ j = 4 := by omega
      have e5 : ¬ j = 5 := by omega
      have e6 : ¬ j = 6 := by omega
      have e7 : ¬ j = 7 := by omega
      simp [xv_u2, e0, e1, e2, e3, e4, e5, e6, e7, c2]
  · simp [xv_u2, c1]
/-- an archive copied: the first w witnesses, the first n answers -/
def vc_a (I : Nat → Nat → Int32) (A B w n : Nat) : Nat → Nat → Int32 := fun a j =>
  if A + 3 ≤ a ∧ a < A + 3 + 2 * w ∧ (if (a - A) % 2 = 1 then 1 ≤ j ∧ j ≤ 3 else j < 12) then I (B + (a - A)) j else if A + 23 ≤ a ∧ a < A + 23 + n ∧ j < 8 then I (B + (a - A)) j else I a j
theorem vc_a0 (I : Nat → Nat → Int32) (A B : Nat) : vc_a I A B 0 0 = I := by
  funext a j
  have h1 : ¬ (A + 3 ≤ a ∧ a < A + 3 + 2 * 0 ∧ (if (a - A) % 2 = 1 then 1 ≤ j ∧ j ≤ 3 else j < 12)) := by omega
  have h2 : ¬ (A + 23 ≤ a ∧ a < A + 23 + 0 ∧ j < 8) := by omega
  simp only [vc_a, h1, h2, if_false]
theorem vc_aw (I : Nat → Nat → Int32) {A B : Nat} (h : A + 43 ≤ B ∨ B + 43 ≤ A) {w : Nat} (hw : w < 10) : vc_w (vc_a I A B w 0) (A + 3 + 2 * w) (B + 3 + 2 * w) = vc_a I A B (w + 1) 0 := by
  funext a j
  have hB : ∀ q k, q < 43 → vc_a I A B w 0 (B + q) k = I (B + q) k := by
    intro q k hq
    have h1 : ¬ (A + 3 ≤ B + q ∧ B + q < A + 3 + 2 * w ∧ (if (B + q - A) % 2 = 1 then 1 ≤ k ∧ k ≤ 3 else k < 12)) := by omega
    have h2 : ¬ (A + 23 ≤ B + q ∧ B + q < A + 23 + 0 ∧ k < 8) := by omega
    simp only [vc_a, h1, h2, if_false]
  simp only [vc_w]
  rw [show B + 3 + 2 * w = B + (3 + 2 * w) by omega, hB _ _ (by omega), show B + (3 + 2 * w) + 1 = B + (4 + 2 * w) by omega, hB _ _ (by omega)]
  by_cases c1 : a = A + 3 + 2 * w
  · subst c1
    have e1 : (A + 3 + 2 * w - A) % 2 = 1 := by omega
    have e2 : A + 3 + 2 * w - A = 3 + 2 * w := by omega
    have e3 : ¬ (A + 3 + 2 * w = A + 3 + 2 * w + 1 ∧ j < 12) := by omega
    by_cases c2 : 1 ≤ j ∧ j ≤ 3
    · have g1 : A + 3 ≤ A + 3 + 2 * w ∧ A + 3 + 2 * w < A + 3 + 2 * (w + 1) ∧ (if (A + 3 + 2 * w - A) % 2 = 1 then 1 ≤ j ∧ j ≤ 3 else j < 12) := by rw [if_pos e1]; omega
      rw [if_pos ⟨rfl, c2⟩]
      simp only [vc_a]
      rw [if_pos g1, e2]
    · have g1 : ¬ (A + 3 ≤ A + 3 + 2 * w ∧ A + 3 + 2 * w < A + 3 + 2 * (w + 1) ∧ (if (A + 3 + 2 * w - A) % 2 = 1 then 1 ≤ j ∧ j ≤ 3 else j < 12)) := by rw [if_pos e1]; omega
      have g2 : ¬ (A + 3 ≤ A + 3 + 2 * w ∧ A + 3 + 2 * w < A + 3 + 2 * w ∧ (if (A + 3 + 2 * w - A) % 2 = 1 then 1 ≤ j ∧ j ≤ 3 else j < 12)) := by omega
      have g3 : ¬ (A + 23 ≤ A + 3 + 2 * w ∧ A + 3 + 2 * w < A + 23 + 0 ∧ j < 8) := by omega
      rw [if_neg (fun q => c2 q.2), if_neg e3]
      simp only [vc_a]
      rw [if_neg g1, if_neg g2, if_neg g3]
  · by_cases c3 : a = A + 3 + 2 * w + 1
    · subst c3
      have e1 : ¬ (A + 3 + 2 * w + 1 - A) % 2 = 1 := by omega
      have e2 : A + 3 + 2 * w + 1 - A = 4 + 2 * w := by omega
      rw [if_neg (fun q => c1 q.1)]
      by_cases c2 : j < 12
      · have g1 : A + 3 ≤ A + 3 + 2 * w + 1 ∧ A + 3 + 2 * w + 1 < A + 3 + 2 * (w + 1) ∧ (if (A + 3 + 2 * w + 1 - A) % 2 = 1 then 1 ≤ j ∧ j ≤ 3 else j < 12) := by rw [if_neg e1]; omega
        rw [if_pos ⟨rfl, c2⟩]
        simp only [vc_a]
        rw [if_pos g1, e2]
      · have g1 : ¬ (A + 3 ≤ A + 3 + 2 * w + 1 ∧ A + 3 + 2 * w + 1 < A + 3 + 2 * (w + 1) ∧ (if (A + 3 + 2 * w + 1 - A) % 2 = 1 then 1 ≤ j ∧ j ≤ 3 else j < 12)) := by rw [if_neg e1]; omega
        have g2 : ¬ (A + 3 ≤ A + 3 + 2 * w + 1 ∧ A + 3 + 2 * w + 1 < A + 3 + 2 * w ∧ (if (A + 3 + 2 * w + 1 - A) % 2 = 1 then 1 ≤ j ∧ j ≤ 3 else j < 12)) := by omega
        have g3 : ¬ (A + 23 ≤ A + 3 + 2 * w + 1 ∧ A + 3 + 2 * w + 1 < A + 23 + 0 ∧ j < 8) := by omega
        rw [if_neg (fun q => c2 q.2)]
        simp only [vc_a]
        rw [if_neg g1, if_neg g2, if_neg g3]
    · rw [if_neg (fun q => c1 q.1), if_neg (fun q => c3 q.1)]
      simp only [vc_a]
      have g : (A + 3 ≤ a ∧ a < A + 3 + 2 * w ∧ (if (a - A) % 2 = 1 then 1 ≤ j ∧ j ≤ 3 else j < 12)) ↔ (A + 3 ≤ a ∧ a < A + 3 + 2 * (w + 1) ∧ (if (a - A) % 2 = 1 then 1 ≤ j ∧ j ≤ 3 else j < 12)) := by
        constructor
        · rintro ⟨q1, q2, q3⟩; exact ⟨q1, by omega, q3⟩
        · rintro ⟨q1, q2, q3⟩; exact ⟨q1, by omega, q3⟩
      by_cases g1 : A + 3 ≤ a ∧ a < A + 3 + 2 * w ∧ (if (a - A) % 2 = 1 then 1 ≤ j ∧ j ≤ 3 else j < 12)
      · rw [if_pos g1, if_pos (g.mp g1)]
      · rw [if_neg g1, if_neg (fun q => g1 (g.mpr q))]
theorem vc_an (I : Nat → Nat → Int32) {A B : Nat} (h : A + 43 ≤ B ∨ B + 43 ≤ A) {n : Nat} (hn : n < 20) : vc_n (vc_a I A B 10 n) (A + 23 + n) (B + 23 + n) = vc_a I A B 10 (n + 1) := by
  funext a j
  have hB : ∀ q k, q < 43 → vc_a I A B 10 n (B + q) k = I (B + q) k := by
    intro q k hq
    have h1 : ¬ (A + 3 ≤ B + q ∧ B + q < A + 3 + 2 * 10 ∧ (if (B + q - A) % 2 = 1 then 1 ≤ k ∧ k ≤ 3 else k < 12)) := by omega
    have h2 : ¬ (A + 23 ≤ B + q ∧ B + q < A + 23 + n ∧ k < 8) := by omega
    simp only [vc_a, h1, h2, if_false]
  simp only [vc_n]
  rw [show B + 23 + n = B + (23 + n) by omega, hB _ _ (by omega)]
  have g0 : a = A + 23 + n → ¬ (A + 3 ≤ a ∧ a < A + 3 + 2 * 10 ∧ (if (a - A) % 2 = 1 then 1 ≤ j ∧ j ≤ 3 else j < 12)) := fun q => by omega
  by_cases c1 : a = A + 23 + n
  · have e2 : a - A = 23 + n := by omega
    by_cases c2 : j < 8
    · rw [if_pos ⟨c1, c2⟩]
      simp only [vc_a]
      rw [if_neg (g0 c1), if_pos ⟨by omega, by omega, c2⟩, e2]
    · rw [if_neg (fun q => c2 q.2)]
      simp only [vc_a]
      have k1 : ¬ (A + 23 ≤ a ∧ a < A + 23 + n ∧ j < 8) := fun q => c2 q.2.2
      have k2 : ¬ (A + 23 ≤ a ∧ a < A + 23 + (n + 1) ∧ j < 8) := fun q => c2 q.2.2
      rw [if_neg (g0 c1), if_neg k1, if_neg (g0 c1), if_neg k2]
  · rw [if_neg (fun q => c1 q.1)]
    simp only [vc_a]
    have g : (A + 23 ≤ a ∧ a < A + 23 + n ∧ j < 8) ↔ (A + 23 ≤ a ∧ a < A + 23 + (n + 1) ∧ j < 8) := by
      constructor
      · rintro ⟨q1, q2, q3⟩; exact ⟨q1, by omega, q3⟩
      · rintro ⟨q1, q2, q3⟩; exact ⟨q1, by omega, q3⟩
    by_cases g1 : A + 23 ≤ a ∧ a < A + 23 + n ∧ j < 8
    · rw [if_pos g1, if_pos (g.mp g1)]
    · rw [if_neg g1, if_neg (fun q => g1 (g.mpr q))]
theorem vc_aB (I : Nat → Nat → Int32) {A B w n : Nat} (h : A + 43 ≤ B ∨ B + 43 ≤ A) (hw : w ≤ 10) (hn : n ≤ 20) {q : Nat} (k : Nat) (hq : q < 43) : vc_a I A B w n (B + q) k = I (B + q) k := by
  have h1 : ¬ (A + 3 ≤ B + q ∧ B + q < A + 3 + 2 * w ∧ (if (B + q - A) % 2 = 1 then 1 ≤ k ∧ k ≤ 3 else k < 12)) := by omega
  have h2 : ¬ (A + 23 ≤ B + q ∧ B + q < A + 23 + n ∧ k < 8) := by omega
  simp only [vc_a, h1, h2, if_false]
/-- all of it: with the numbers of the archive itself -/
def vc_all (I : Nat → Nat → Int32) (A B : Nat) : Nat → Nat → Int32 := xv_u2 (xv_u2 (xv_u2 (vc_a I A B 10 20) A 2 (I B 2)) A 3 (I B 3)) A 4 (I B 4)
theorem vc_wl (ro : xv_Ro) (d : Nat) (z : Nat × Nat) (J : Nat → Nat → Int64) {A B : Nat} (hA : vAr A) (hB : vAr B) (h : A + 43 ≤ B ∨ B + 43 ≤ A) (I : Nat → Nat → Int32) (hb : vi_B I) : ∀ (n w : Nat), w + n = 10 → xv_ev ro (d + 1) xm_Archive_copy xb_Archive_copy_2 [some (.ref A), some (.ref B), some (.int (nI w))] [] (z, xv_mk (vc_a I A B w 0) J) = xv_ev ro (d + 1) xm_Archive_copy xb_Archive_copy_29 [some (.ref A), some (.ref B), some (.int (nI 10))] [] (z, xv_mk (vc_a I A B 10 0) J) := by
  intro n
  induction n with
  | zero =>
    intro w hi
    obtain rfl : w = 10 := by omega
    conv => lhs; unfold xb_Archive_copy_2
    have h1 : (10 ≤ nI 10) = True := by decide
    simp only [xr_all, xf_all, if_true, if_false, true_or, or_true, eq_self, ite_not, Bool.false_eq_true, ite_self, and_self, true_and, and_true, false_and, and_false, not_true_eq_false, not_false_eq_true, xj_Archive_copy, xb_Archive_copy_0, xb_Archive_copy_31, xb_Archive_copy_58, h1]
  | succ n ih =>
    intro w hi
    rw [← ih (w + 1) (by omega)]
    conv => lhs; unfold xb_Archive_copy_2
    have h1 : (10 ≤ nI w) = False := by rw [show (10 : Int32) = nI 10 from rfl, vn_le (by omega) (by omega)]; simp; omega
    have h2 : xv_inB (nI w) 10 = true := vn_inB (by omega) (by omega)
    have hWa := vAr_W hA (show w < 10 by omega)
    have hWb := vAr_W hB (show w < 10 by omega)
    have hbb : vc_a I A B w 0 (B + 3 + 2 * w) 3 = 0 ∨ vc_a I A B w 0 (B + 3 + 2 * w) 3 = 1 := by
      rw [show B + 3 + 2 * w = B + (3 + 2 * w) by omega, vc_aB I h (by omega) (by omega) 3 (by omega)]
      have := (hb (B + (3 + 2 * w))).1 (by rw [show B + (3 + 2 * w) = B + 3 + 2 * w by omega]; exact (vW_f hWb).2.2.2.2.1)
      exact this
    have hcp := xq_Witness_copy ro d z J hWa hWb (by omega) (by omega) (by omega) (vc_a I A B w 0) hbb
    simp only [xr_all, xf_all, if_true, if_false, true_or, or_true, eq_self, ite_not, Bool.false_eq_true, ite_self, and_self, true_and, and_true, false_and, and_false, not_true_eq_false, not_false_eq_true, xj_Archive_copy, xb_Archive_copy_0, xb_Archive_copy_31, xb_Archive_copy_58, h1, h2, vAr_f hA, vAr_f hB, nI_clamp (show w < 2 ^ 31 by omega), vW_f hWa, hcp, vc_aw I h (show w < 10 by omega), nI_1]
theorem vc_nl (ro : xv_Ro) (d : Nat) (z : Nat × Nat) (J : Nat → Nat → Int64) {A B : Nat} (hA : vAr A) (hB : vAr B) (h : A + 43 ≤ B ∨ B + 43 ≤ A) (I : Nat → Nat → Int32) (hb : vi_B I) : ∀ (n w : Nat), w + n = 20 → xv_ev ro (d + 1 + 1) xm_Archive_copy xb_Archive_copy_31 [some (.ref A), some (.ref B), some (.int (nI w))] [] (z, xv_mk (vc_a I A B 10 w) J) = some (none, (z, xv_mk (vc_all I A B) J)) := by
  intro n
  induction n with
  | zero =>
    intro w hi
    obtain rfl : w = 20 := by omega
    conv => lhs; unfold xb_Archive_copy_31
    have h1 : (20 ≤ nI 20) = True := by decide
    have hBA : ¬ B = A := by omega
    have e2 := vc_aB I h (w := 10) (n := 20) (by omega) (by omega) (q := 0) 2 (by omega)
    have e3 := vc_aB I h (w := 10) (n := 20) (by omega) (by omega) (q := 0) 3 (by omega)
    have e4 := vc_aB I h (w := 10) (n := 20) (by omega) (by omega) (q := 0) 4 (by omega)
    rw [Nat.add_zero] at e2 e3 e4
    have f3 : ∀ x, xv_u2 (vc_a I A B 10 20) A 2 x B 3 = I B 3 := fun x => by (repeat (first | rw [xu_ne2 (by omega)] | rw [xu_ne (by omega)] | rw [xu_eq])); exact e3
    have f4 : ∀ x y, xv_u2 (xv_u2 (vc_a I A B 10 20) A 2 x) A 3 y B 4 = I B 4 := fun x y => by (repeat (first | rw [xu_ne2 (by omega)] | rw [xu_ne (by omega)] | rw [xu_eq])); exact e4
    simp only [xr_all, xf_all, if_true, if_false, true_or, or_true, eq_self, ite_not, Bool.false_eq_true, ite_self, and_self, true_and, and_true, false_and, and_false, not_true_eq_false, not_false_eq_true, xj_Archive_copy, xb_Archive_copy_0, xb_Archive_copy_29, xb_Archive_copy_58, h1, vAr_f hA, vAr_f hB, e2, f3, f4]
    rfl
  | succ n ih =>
    intro w hi
    rw [← ih (w + 1) (by omega)]
    conv => lhs; unfold xb_Archive_copy_31
    have h1 : (20 ≤ nI w) = False := by rw [show (20 : Int32) = nI 20 from rfl, vn_le (by omega) (by omega)]; simp; omega
    have h2 : xv_inB (nI w) 20 = true := vn_inB (by omega) (by omega)
    have hNa := vAr_N hA (show w < 20 by omega)
    have hNb := vAr_N hB (show w < 20 by omega)
    have hbb := (hb (B + 23 + w)).2 (vN_f hNb).2.2.2.2.2.2.2.2
    have g2 : vc_a I A B 10 w (B + 23 + w) 2 = I (B + 23 + w) 2 := by rw [show B + 23 + w = B + (23 + w) by omega]; exact vc_aB I h (by omega) (by omega) 2 (by omega)
    have g3 : vc_a I A B 10 w (B + 23 + w) 3 = I (B + 23 + w) 3 := by rw [show B + 23 + w = B + (23 + w) by omega]; exact vc_aB I h (by omega) (by omega) 3 (by omega)
    have hcp := xq_Answer_copy ro d z J hNa hNb (by omega) (vc_a I A B 10 w) (by rw [g2]; exact hbb.1) (by rw [g3]; exact hbb.2)
    have m1 : A + 23 + 1 * w = A + 23 + w := by omega
    have m2 : B + 23 + 1 * w = B + 23 + w := by omega
    simp only [xr_all, xf_all, if_true, if_false, true_or, or_true, eq_self, ite_not, Bool.false_eq_true, ite_self, and_self, true_and, and_true, false_and, and_false, not_true_eq_false, not_false_eq_true, xj_Archive_copy, xb_Archive_copy_0, xb_Archive_copy_29, xb_Archive_copy_58, h1, h2, vAr_f hA, vAr_f hB, nI_clamp (show w < 2 ^ 31 by omega), m1, m2, vN_f hNa, hcp, vc_an I h (show w < 20 by omega), nI_1]
theorem xq_Archive_copy (ro : xv_Ro) (d : Nat) (z : Nat × Nat) (J : Nat → Nat → Int64) {A B : Nat} (hA : vAr A) (hB : vAr B) (h : A + 43 ≤ B ∨ B + 43 ≤ A) (I : Nat → Nat → Int32) (hb : vi_B I) : xv_evm ro (d + 2) 157 [.ref A, .ref B] (z, xv_mk I J) = some (none, (z, xv_mk (vc_all I A B) J)) := by
  rw [xe_Archive_copy]
  simp only [xr_all, xf_all, if_true, if_false, true_or, or_true, eq_self, ite_not, Bool.false_eq_true, ite_self, and_self, true_and, and_true, false_and, and_false, not_true_eq_false, not_false_eq_true, xj_Archive_copy, xb_Archive_copy_0, xb_Archive_copy_29, xb_Archive_copy_31, xb_Archive_copy_58]
  have h1 := vc_wl ro (d + 1) z J hA hB h I hb 10 0 (by omega)
  rw [vc_a0] at h1
  refine Eq.trans h1 ?_
  unfold xb_Archive_copy_29
  simp only [xr_all, xf_all, if_true, if_false, true_or, or_true, eq_self, ite_not, Bool.false_eq_true, ite_self, and_self, true_and, and_true, false_and, and_false, not_true_eq_false, not_false_eq_true, xj_Archive_copy, xb_Archive_copy_0, xb_Archive_copy_58]
  exact vc_nl ro d z J hA hB h I hb 20 0 (by omega)
