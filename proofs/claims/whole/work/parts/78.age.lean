/-! weeks: layers grow and dry -/
def vx_F (w h t : Nat) (x l : Nat) : Nat → Int32
  | 0 => nI w
  | 1 => nI h
  | 2 => nI x
  | 3 => nI l
  | 7 => nI t
  | _ => 0
def vx_t (fn : Nat → (Nat → Int32) → Nat) (w h t l x : Nat) : Nat := min 99 (x + fn 103 (vx_F w h t x l) - fn 121 (vx_F w h t x l))
def vx_a (fn : Nat → (Nat → Int32) → Nat) (w h t l : Nat) (s : Nat → Nat) : Nat → Nat × (Nat → Nat)
  | 0 => (0, s)
  | i + 1 => if vx_t fn w h t l ((vx_a fn w h t l s i).2 i) = 0 then vx_a fn w h t l s i else ((vx_a fn w h t l s i).1 + 1, fun j => if j = (vx_a fn w h t l s i).1 then vx_t fn w h t l ((vx_a fn w h t l s i).2 i) else (vx_a fn w h t l s i).2 j)
theorem vx_as (fn : Nat → (Nat → Int32) → Nat) (w h t l : Nat) (s : Nat → Nat) (i : Nat) : vx_a fn w h t l s (i + 1) = if vx_t fn w h t l ((vx_a fn w h t l s i).2 i) = 0 then vx_a fn w h t l s i else ((vx_a fn w h t l s i).1 + 1, fun j => if j = (vx_a fn w h t l s i).1 then vx_t fn w h t l ((vx_a fn w h t l s i).2 i) else (vx_a fn w h t l s i).2 j) := rfl
theorem vx_wf (fn : Nat → (Nat → Int32) → Nat) (w h t l : Nat) {s : Nat → Nat} (hs : ∀ j, j < l → 1 ≤ s j ∧ s j ≤ 99) : ∀ i, (vx_a fn w h t l s i).1 ≤ i ∧ ∀ j, j < l → 1 ≤ (vx_a fn w h t l s i).2 j ∧ (vx_a fn w h t l s i).2 j ≤ 99 := by
  intro i
  induction i with
  | zero => exact ⟨Nat.le_refl 0, hs⟩
  | succ i ih =>
    rw [vx_as]
    have hv : vx_t fn w h t l ((vx_a fn w h t l s i).2 i) ≤ 99 := Nat.min_le_left _ _
    generalize vx_t fn w h t l ((vx_a fn w h t l s i).2 i) = v at *
    generalize vx_a fn w h t l s i = p at *
    by_cases c : v = 0
    · rw [if_pos c]
      exact ⟨by omega, ih.2⟩
    · rw [if_neg c]
      refine ⟨by dsimp only; omega, fun j hj => ?_⟩
      dsimp only
      by_cases c2 : j = p.1
      · rw [if_pos c2]; omega
      · rw [if_neg c2]; exact ih.2 j hj
theorem vx_r {x g y : Nat} (hx : x ≤ 99) (hg : g ≤ 20) (hy : y ≤ 20) : (nI x + nI g - nI y).toInt = (x : Int) + g - y := by
  rw [nI_add, pk_sub_toInt (by omega) (by omega)]
  omega
theorem vx_rle {x g y : Nat} (hx : x ≤ 99) (hg : g ≤ 20) (hy : y ≤ 20) : (nI x + nI g - nI y ≤ 0) = (min 99 (x + g - y) = 0) := by
  apply propext
  rw [Int32.le_iff_toInt_le, vx_r hx hg hy, vt_0]
  omega
theorem vx_rC {x g y : Nat} (hx : x ≤ 99) (hg : g ≤ 20) (hy : y ≤ 20) (h : ¬ min 99 (x + g - y) = 0) : (if nI x + nI g - nI y < 99 then nI x + nI g - nI y else 99) = nI (min 99 (x + g - y)) := by
  apply Int32.toInt_inj.mp
  rw [nI_toInt (by omega)]
  by_cases c : nI x + nI g - nI y < 99
  · rw [if_pos c, vx_r hx hg hy]
    rw [Int32.lt_iff_toInt_lt, vx_r hx hg hy, vt_99] at c
    omega
  · rw [if_neg c, vt_99]
    rw [Int32.lt_iff_toInt_lt, vx_r hx hg hy, vt_99] at c
    omega
theorem vx_rM {x g y : Nat} (hx : x ≤ 99) (hg : g ≤ 20) (hy : y ≤ 20) : (if (if 99 < nI x + nI g - nI y then 99 else nI x + nI g - nI y) < 0 then 0 else (if 99 < nI x + nI g - nI y then 99 else nI x + nI g - nI y)) = nI (min 99 (x + g - y)) := by
  apply Int32.toInt_inj.mp
  rw [nI_toInt (by omega)]
  by_cases c : 99 < nI x + nI g - nI y
  · rw [if_pos c, if_neg (by decide), vt_99]
    rw [Int32.lt_iff_toInt_lt, vx_r hx hg hy, vt_99] at c
    omega
  · rw [if_neg c]
    rw [Int32.lt_iff_toInt_lt, vx_r hx hg hy, vt_99] at c
    by_cases c2 : nI x + nI g - nI y < 0
    · rw [if_pos c2, vt_0]
      rw [Int32.lt_iff_toInt_lt, vx_r hx hg hy, vt_0] at c2
      omega
    · rw [if_neg c2, vx_r hx hg hy]
      rw [Int32.lt_iff_toInt_lt, vx_r hx hg hy, vt_0] at c2
      omega
theorem vx_Fc {g : Nat → Int32} {w h t x l : Nat} (g0 : g 0 = nI w) (g1 : g 1 = nI h) (g2 : g 2 = nI x) (g3 : g 3 = nI l) (g4 : g 4 = 0) (g5 : g 5 = 0) (g6 : g 6 = 0) (g7 : g 7 = nI t) : ∀ f, f < 8 → g f = vx_F w h t x l f := by
  intro f hf
  rcases lt8 hf with rfl | rfl | rfl | rfl | rfl | rfl | rfl | rfl <;> simp only [vx_F, g0, g1, g2, g3, g4, g5, g6, g7]
theorem xq_age (ro : xv_Ro) (d : Nat) (z : Nat × Nat) (C : Nat → Nat → Int32) (J : Nat → Nat → Int64) {I : Nat → Nat → Int32} {fn : Nat → (Nat → Int32) → Nat} (hf : vl_fn I fn) (hC : ∀ a, 5 ≤ a → a < 12 → C a = I a) {p l w h t : Nat} {s : Nat → Nat} (hp : vW p) (hp21 : 21 < p) (hl : C p 1 = nI l) (hl2 : l ≤ 12) (hs : ∀ j, j < l → 1 ≤ s j ∧ s j ≤ 99) (hsC : ∀ j, j < l → C (p + 1) j = nI (s j)) (g0 : C 21 0 = nI w) (g1 : C 21 1 = nI h) (g4 : C 21 4 = 0) (g5 : C 21 5 = 0) (g6 : C 21 6 = 0) (g7 : C 21 7 = nI t) : ∃ (C1 : Nat → Nat → Int32) (J1 : Nat → Nat → Int64), (∀ a, a ≠ 12 → J1 a = J a) ∧ xv_evm ro (d + 4) 270 [.ref p, .ref 5, .ref 21] (z, xv_mk C J) = some (some (.int (nI (l - (vx_a fn w h t l s l).1))), (z, xv_mk C1 J1)) ∧ C1 p 1 = nI (vx_a fn w h t l s l).1 ∧ (∀ j, j < l → C1 (p + 1) j = nI ((vx_a fn w h t l s l).2 j)) ∧ (∀ j, j ≠ 1 → C1 p j = C p j) ∧ (∀ a, a ≠ 21 → a ≠ p → a ≠ p + 1 → C1 a = C a) ∧ ∀ k, k ≠ 2 → k ≠ 3 → C1 21 k = C 21 k := by
  have step : ∀ i, i ≤ l → ∃ (C1 : Nat → Nat → Int32) (J1 : Nat → Nat → Int64) (u : Option Value), (∀ a, a ≠ 12 → J1 a = J a) ∧ xv_evm ro (d + 4) 270 [.ref p, .ref 5, .ref 21] (z, xv_mk C J) = xv_ev ro (d + 4) xm_Witness_age xb_Witness_age_5 [some (.ref p), some (.ref 5), some (.ref 21), some (.int (nI (vx_a fn w h t l s i).1)), some (.int (nI i)), u] [] (z, xv_mk C1 J1) ∧ (∀ j, j < l → C1 (p + 1) j = nI ((vx_a fn w h t l s i).2 j)) ∧ (∀ a, a ≠ 21 → a ≠ p + 1 → C1 a = C a) ∧ ∀ k, k ≠ 2 → k ≠ 3 → C1 21 k = C 21 k := by
    intro i
    induction i with
    | zero =>
      intro _
      refine ⟨C, J, none, fun _ _ => rfl, ?_, hsC, fun _ _ _ => rfl, fun _ _ _ => rfl⟩
      rw [xe_Witness_age]
      simp only [xr_all, xf_all, if_true, if_false, true_or, or_true, eq_self, ite_not, Bool.false_eq_true, ite_self, and_self, true_and, and_true, false_and, and_false, not_true_eq_false, not_false_eq_true, xj_Witness_age, xb_Witness_age_0, xb_Witness_age_82, xb_Witness_age_88]
      rfl
    | succ i ih =>
      intro hi
      obtain ⟨C1, J1, u, a1, a2, a3, a4, a5⟩ := ih (by omega)
      obtain ⟨w1, w2⟩ := vx_wf fn w h t l hs i
      have hv : vx_t fn w h t l ((vx_a fn w h t l s i).2 i) = min 99 ((vx_a fn w h t l s i).2 i + fn 103 (vx_F w h t ((vx_a fn w h t l s i).2 i) l) - fn 121 (vx_F w h t ((vx_a fn w h t l s i).2 i) l)) := rfl
      have hsuc := vx_as fn w h t l s i
      have f1 := hf.1 103 (vx_F w h t ((vx_a fn w h t l s i).2 i) l)
      have f2 := hf.1 121 (vx_F w h t ((vx_a fn w h t l s i).2 i) l)
      rw [show vl_hi 103 = 20 from rfl] at f1
      rw [show vl_hi 121 = 20 from rfl] at f2
      have hx := w2 i (by omega)
      have hCi := a3 i (by omega)
      have hlp : C1 p 1 = nI l := by rw [a4 p (by omega) (by omega)]; exact hl
      have hlaw : ∀ a, 5 ≤ a → a < 12 → vg_K C1 (vg_u (vg_u (C1 21) 2 (nI ((vx_a fn w h t l s i).2 i))) 3 (nI l)) a = I a := fun a q1 q2 => by rw [vg_Ko C1 _ (by omega), a4 a (by omega) (by omega)]; exact hC a q1 q2
      obtain ⟨J2, b1, b2⟩ := hf.2.2.1 ro d z (vg_K C1 (vg_u (vg_u (C1 21) 2 (nI ((vx_a fn w h t l s i).2 i))) 3 (nI l))) J1 103 (Or.inr (Or.inr (Or.inl rfl))) hlaw
      obtain ⟨J3, b3, b4⟩ := hf.2.2.1 ro d z (vg_K C1 (vg_u (vg_u (C1 21) 2 (nI ((vx_a fn w h t l s i).2 i))) 3 (nI l))) J2 121 (Or.inr (Or.inr (Or.inr (Or.inl rfl)))) hlaw
      have hF := vx_Fc (g := vg_u (vg_u (C1 21) 2 (nI ((vx_a fn w h t l s i).2 i))) 3 (nI l)) (w := w) (h := h) (t := t) (x := (vx_a fn w h t l s i).2 i) (l := l)
        (by simp [vg_u]; rw [a5 0 (by omega) (by omega)]; exact g0) (by simp [vg_u]; rw [a5 1 (by omega) (by omega)]; exact g1) (by simp [vg_u]) (by simp [vg_u]) (by simp [vg_u]; rw [a5 4 (by omega) (by omega)]; exact g4) (by simp [vg_u]; rw [a5 5 (by omega) (by omega)]; exact g5) (by simp [vg_u]; rw [a5 6 (by omega) (by omega)]; exact g6) (by simp [vg_u]; rw [a5 7 (by omega) (by omega)]; exact g7)
      rw [vg_Ki, hf.2.1 103 _ _ hF, show nI 103 = (103 : Int32) from rfl] at b2
      rw [vg_Ki, hf.2.1 121 _ _ hF, show nI 121 = (121 : Int32) from rfl] at b4
      have hsh := xq_Case_show ro (d + 3) z C1 (C1 21) J1 (nI ((vx_a fn w h t l s i).2 i)) (nI l)
      rw [vg_Ks] at hsh
      rw [a2]
      have r1 := vx_rle (x := (vx_a fn w h t l s i).2 i) (by omega) f1 f2
      have r2 := vx_rC (x := (vx_a fn w h t l s i).2 i) (by omega) f1 f2
      rw [← hv] at r1 r2
      clear hF hlaw
      generalize vx_t fn w h t l ((vx_a fn w h t l s i).2 i) = v at *
      generalize fn 103 (vx_F w h t ((vx_a fn w h t l s i).2 i) l) = gg at *
      generalize fn 121 (vx_F w h t ((vx_a fn w h t l s i).2 i) l) = yy at *
      generalize vx_a fn w h t l s i = pp at *
      have h1 : (nI l ≤ nI i) = False := by (simp (disch := omega) only [vz_all, if_true, if_false, true_or, or_true, eq_self, ite_not, Bool.false_eq_true, ite_self, and_self, true_and, and_true, false_and, and_false, not_true_eq_false, not_false_eq_true, false_or, or_false])
      have h2 : (12 ≤ nI i) = False := by (simp (disch := omega) only [vz_all, if_true, if_false, true_or, or_true, eq_self, ite_not, Bool.false_eq_true, ite_self, and_self, true_and, and_true, false_and, and_false, not_true_eq_false, not_false_eq_true, false_or, or_false])
      have h3 : xv_inB (nI i) 12 = true := by (simp (disch := omega) only [vz_all, if_true, if_false, true_or, or_true, eq_self, ite_not, Bool.false_eq_true, ite_self, and_self, true_and, and_true, false_and, and_false, not_true_eq_false, not_false_eq_true, false_or, or_false])
      have h4 : xv_inB (nI pp.1) 12 = true := by (simp (disch := omega) only [vz_all, if_true, if_false, true_or, or_true, eq_self, ite_not, Bool.false_eq_true, ite_self, and_self, true_and, and_true, false_and, and_false, not_true_eq_false, not_false_eq_true, false_or, or_false])
      have hgi : vg_K C1 (vg_u (vg_u (C1 21) 2 (nI (pp.2 i))) 3 (nI l)) (p + 1) i = nI (pp.2 i) := by rw [vg_Ko C1 _ (by omega)]; exact hCi
      by_cases c : v = 0
      · rw [if_pos c] at hsuc
        refine ⟨vg_K C1 (vg_u (vg_u (C1 21) 2 (nI (pp.2 i))) 3 (nI l)), J3, some (.int (nI (pp.2 i) + nI gg - nI yy)), fun a q => by rw [b3 a q, b1 a q, a1 a q], ?_, ?_, ?_, ?_⟩
        · rw [hsuc]
          have r3 := r1.trans (eq_true c)
          conv => lhs; unfold xb_Witness_age_5
          simp only [xr_all, xf_all, if_true, if_false, true_or, or_true, eq_self, ite_not, Bool.false_eq_true, ite_self, and_self, true_and, and_true, false_and, and_false, not_true_eq_false, not_false_eq_true, xj_Witness_age, xb_Witness_age_0, xb_Witness_age_82, xb_Witness_age_88, vW_f hp, hlp, h1, h2, h3, nI_clamp (show i < 2 ^ 31 by omega), hCi, hsh, hgi, b2, b4, r3, nI_1]
        · intro j hj
          rw [hsuc, vg_Ko C1 _ (by omega)]; exact a3 j hj
        · intro a q1 q2
          rw [vg_Ko C1 _ q1]; exact a4 a q1 q2
        · intro k q1 q2
          rw [vg_Ki]
          show (if k = 3 then _ else if k = 2 then _ else C1 21 k) = _
          rw [if_neg q2, if_neg q1]; exact a5 k q1 q2
      · rw [if_neg c] at hsuc
        refine ⟨xv_u2 (vg_K C1 (vg_u (vg_u (C1 21) 2 (nI (pp.2 i))) 3 (nI l))) (p + 1) pp.1 (nI v), J3, some (.int (nI (pp.2 i) + nI gg - nI yy)), fun a q => by rw [b3 a q, b1 a q, a1 a q], ?_, ?_, ?_, ?_⟩
        · rw [hsuc]
          have r3 := r1.trans (eq_false c)
          have r4 := r2 c
          conv => lhs; unfold xb_Witness_age_5
          simp only [xr_all, xf_all, if_true, if_false, true_or, or_true, eq_self, ite_not, Bool.false_eq_true, ite_self, and_self, true_and, and_true, false_and, and_false, not_true_eq_false, not_false_eq_true, xj_Witness_age, xb_Witness_age_0, xb_Witness_age_82, xb_Witness_age_88, vW_f hp, hlp, h1, h2, h3, nI_clamp (show i < 2 ^ 31 by omega), hCi, hsh, hgi, b2, b4, r3, h4, nI_clamp (show pp.1 < 2 ^ 31 by omega), r4, nI_1]
        · intro j hj
          rw [hsuc]
          dsimp only
          by_cases c2 : j = pp.1
          · rw [if_pos c2, c2, xu_eq]
          · rw [if_neg c2, xu_ne2 (by omega), vg_Ko C1 _ (by omega)]; exact a3 j hj
        · intro a q1 q2
          rw [xu_ne (by omega), vg_Ko C1 _ q1]; exact a4 a q1 q2
        · intro k q1 q2
          rw [xu_ne2 (by omega), vg_Ki]
          show (if k = 3 then _ else if k = 2 then _ else C1 21 k) = _
          rw [if_neg q2, if_neg q1]; exact a5 k q1 q2
  obtain ⟨C1, J1, u, a1, a2, a3, a4, a5⟩ := step l (Nat.le_refl l)
  obtain ⟨w1, w2⟩ := vx_wf fn w h t l hs l
  have hlp : C1 p 1 = nI l := by rw [a4 p (by omega) (by omega)]; exact hl
  refine ⟨xv_u2 C1 p 1 (nI (vx_a fn w h t l s l).1), J1, a1, ?_, ?_, ?_, ?_, ?_, ?_⟩
  · rw [a2]
    generalize vx_a fn w h t l s l = pp at *
    have h1 : (nI l ≤ nI l) = True := by (simp (disch := omega) only [vz_all, if_true, if_false, true_or, or_true, eq_self, ite_not, Bool.false_eq_true, ite_self, and_self, true_and, and_true, false_and, and_false, not_true_eq_false, not_false_eq_true, false_or, or_false])
    have h2 : nI l - nI pp.1 = nI (l - pp.1) := by (simp (disch := omega) only [vz_all, if_true, if_false, true_or, or_true, eq_self, ite_not, Bool.false_eq_true, ite_self, and_self, true_and, and_true, false_and, and_false, not_true_eq_false, not_false_eq_true, false_or, or_false])
    conv => lhs; unfold xb_Witness_age_5
    simp only [xr_all, xf_all, if_true, if_false, true_or, or_true, eq_self, ite_not, Bool.false_eq_true, ite_self, and_self, true_and, and_true, false_and, and_false, not_true_eq_false, not_false_eq_true, xj_Witness_age, xb_Witness_age_0, xb_Witness_age_82, xb_Witness_age_88, vW_f hp, hlp, h1, h2]
  · rw [xu_eq]
  · intro j hj
    rw [xu_ne (by omega)]; exact a3 j hj
  · intro j hj
    rw [xu_ne2 (by omega), a4 p (by omega) (by omega)]
  · intro a q1 q2 q3
    rw [xu_ne q2]; exact a4 a q1 q3
  · intro k q1 q2
    rw [xu_ne (by omega)]; exact a5 k q1 q2
