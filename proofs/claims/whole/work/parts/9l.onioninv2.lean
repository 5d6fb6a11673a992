/-! onion: new layers keep the invariant -/
theorem oi_vall {VL : xv_LP} (hV : vi_Lc VL) {I I' : Nat → Nat → Int32} {J J' : Nat → Nat → Int64} {w : Nat} (hI : vi_all VL I J) (hw : w < 10) (hA : vi_A I' 25 168) (hs : ∀ a j, vs_r a j = true → ¬ (a = 1 ∧ j = 1) → ¬ (a = 167 ∧ j = 7) → a ≠ 168 → a ≠ 28 + 2 * w → a ≠ 29 + 2 * w → I' a j = I a j) (h3 : ∀ j, j ≠ 1 → I' (28 + 2 * w) j = I (28 + 2 * w) j) (h1 : I' 1 1 = 0) (h2 : I' 167 7 = 0) (hJ : J' 172 = J 172) : vi_all VL I' J' := by
  have hX : vi_all VL (fun a => if a = 168 ∨ a = 28 + 2 * w ∨ a = 29 + 2 * w then I a else I' a) J' := by
    refine vi_all_cut hV hI (fun a j q1 q2 q3 => ?_) ?_ ?_ hJ
    · show (if a = 168 ∨ a = 28 + 2 * w ∨ a = 29 + 2 * w then I a else I' a) j = I a j
      by_cases c : a = 168 ∨ a = 28 + 2 * w ∨ a = 29 + 2 * w
      · rw [if_pos c]
      · rw [if_neg c]; exact hs a j q1 q2 q3 (by omega) (by omega) (by omega)
    · show (if 1 = 168 ∨ 1 = 28 + 2 * w ∨ 1 = 29 + 2 * w then I 1 else I' 1) 1 = 0
      rw [if_neg (by omega)]; exact h1
    · show (if 167 = 168 ∨ 167 = 28 + 2 * w ∨ 167 = 29 + 2 * w then I 167 else I' 167) 7 = 0
      rw [if_neg (by omega)]; exact h2
  have e : ∀ a, ¬ (a = 168 ∨ a = 28 + 2 * w ∨ a = 29 + 2 * w) → I' a = (fun a => if a = 168 ∨ a = 28 + 2 * w ∨ a = 29 + 2 * w then I a else I' a) a := fun a c => (if_neg c).symm
  have e3 : ∀ a j, j ≠ 1 → a ≠ 168 → a ≠ 29 + 2 * w → I' a j = (fun a => if a = 168 ∨ a = 28 + 2 * w ∨ a = 29 + 2 * w then I a else I' a) a j := by
    intro a j q1 q2 q3
    by_cases c : a = 28 + 2 * w
    · show I' a j = (if a = 168 ∨ a = 28 + 2 * w ∨ a = 29 + 2 * w then I a else I' a) j
      rw [if_pos (Or.inr (Or.inl c)), c]; exact h3 j q1
    · rw [e a (by omega)]
  generalize (fun a => if a = 168 ∨ a = 28 + 2 * w ∨ a = 29 + 2 * w then I a else I' a) = X at *
  obtain ⟨g1, g2, g3, g4, g5, g6, g7⟩ := hX
  refine ⟨⟨0, Nat.zero_le _, h1, h2, fun j hj => by omega⟩, vi_P_c g2 (e _ (by omega)) (e _ (by omega)), vi_Q_c g3 (by rw [e 3 (by omega)]) (e _ (by omega)) (by rw [e 167 (by omega)]) rfl, hA, vi_K_c g5 (by rw [e 0 (by omega)]) (by rw [e 167 (by omega)]) (fun f hf => by rw [e 68 (by omega)]) (fun a q1 q2 => e a (by omega)) (e _ (by omega)), hV X I' (fun a q1 q2 => e a (by omega)) (by rw [e 167 (by omega)]) (fun a q1 q2 => e a (by omega)) g6, fun a => ?_⟩
  have o1 : xv_oc 168 ≠ some 8 ∧ xv_oc 168 ≠ some 9 := by decide
  have o2 : ∀ v, v < 10 → xv_oc (29 + 2 * v) ≠ some 8 ∧ xv_oc (29 + 2 * v) ≠ some 9 := by decide
  refine ⟨fun ha => ?_, fun ha => ?_⟩
  · rw [e3 a 3 (by omega) (fun q => o1.1 (q ▸ ha)) (fun q => (o2 w hw).1 (q ▸ ha))]; exact (g7 a).1 ha
  · rw [e3 a 2 (by omega) (fun q => o1.2 (q ▸ ha)) (fun q => (o2 w hw).2 (q ▸ ha)), e3 a 3 (by omega) (fun q => o1.2 (q ▸ ha)) (fun q => (o2 w hw).2 (q ▸ ha))]; exact (g7 a).2 ha
