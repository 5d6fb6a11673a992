/-! onion: new layers keep the archive -/
theorem oi_vA {I I' : Nat → Nat → Int32} {w L : Nat} (h : vi_A I 25 168) (hw : w < 10) (hL : L ≤ 12) (k1 : ∀ f, f < 5 → I' 25 f = I 25 f) (k2 : ∀ a, 25 < a → a < 68 → a ≠ 28 + 2 * w → a ≠ 29 + 2 * w → I' a = I a) (k3 : ∀ j, j ≠ 1 → I' (28 + 2 * w) j = I (28 + 2 * w) j) (k4 : I' (28 + 2 * w) 1 = nI L) (k5 : ∀ j, j ≠ 120 + w → (j < 12 * w ∨ 12 * w + 12 ≤ j) → I' 168 j = I 168 j) (k6 : I' 168 (120 + w) = nI L) (k7 : ∀ i, i < L → ∃ s : Nat, 1 ≤ s ∧ s ≤ 99 ∧ I' (29 + 2 * w) i = nI s ∧ I' 168 (12 * w + i) = nI s) : vi_A I' 25 168 := by
  obtain ⟨⟨n, n1, n2, n3, n4⟩, ⟨⟨a, a1, a2, a3⟩, c, c1, c2, c3⟩, ⟨m, m1, m2, m3⟩, g4⟩ := h
  have k25 : ∀ j, 120 ≤ j → j ≠ 120 + w → I' 168 j = I 168 j := fun j q1 q2 => k5 j q2 (by omega)
  refine ⟨⟨n, n1, by rw [k1 2 (by omega)]; exact n2, by rw [k25 301 (by omega) (by omega)]; exact n3, fun i hi => ?_⟩, ⟨⟨a, a1, by rw [k1 3 (by omega)]; exact a2, by rw [k25 302 (by omega) (by omega)]; exact a3⟩, c, c1, by rw [k1 4 (by omega)]; exact c2, by rw [k25 303 (by omega) (by omega)]; exact c3⟩, ⟨m, m1, by rw [k25 300 (by omega) (by omega)]; exact m2, fun v hv => ?_⟩, fun v hv => ?_⟩
  · obtain ⟨b1, b2, b3, b4, b5⟩ := n4 i hi
    refine ⟨fun f hf => ?_, ?_, ?_, ?_, ?_⟩
    · rw [k2 (25 + 23 + i) (by omega) (by omega) (by omega) (by omega), k25 _ (by omega) (by omega)]; exact b1 f hf
    · rw [k25 _ (by omega) (by omega)]; exact b2
    · rw [k25 _ (by omega) (by omega)]; exact b3
    · rw [k25 _ (by omega) (by omega)]; exact b4
    · rw [k25 _ (by omega) (by omega)]; exact b5
  · rw [← m3 v hv]
    by_cases e : v = w
    · rw [e, show 25 + 3 + 2 * w = 28 + 2 * w by omega]; exact k3 3 (by omega)
    · rw [k2 (25 + 3 + 2 * v) (by omega) (by omega) (by omega) (by omega)]
  · obtain ⟨⟨x, x1, x2, x3⟩, l, l1, l2, l3, l4⟩ := g4 v hv
    by_cases e : v = w
    · subst e
      refine ⟨⟨x, x1, ?_, by rw [k25 _ (by omega) (by omega)]; exact x3⟩, L, hL, ?_, k6, fun i hi => ?_⟩
      · rw [show 25 + 3 + 2 * v = 28 + 2 * v by omega] at x2 ⊢
        rw [k3 2 (by omega)]; exact x2
      · rw [show 25 + 3 + 2 * v = 28 + 2 * v by omega]; exact k4
      · obtain ⟨s, s1, s2, s3, s4⟩ := k7 i hi
        exact ⟨s, s1, s2, by rw [show 25 + 4 + 2 * v = 29 + 2 * v by omega]; exact s3, s4⟩
    · refine ⟨⟨x, x1, ?_, by rw [k25 _ (by omega) (by omega)]; exact x3⟩, l, l1, ?_, by rw [k25 _ (by omega) (by omega)]; exact l3, fun i hi => ?_⟩
      · rw [k2 (25 + 3 + 2 * v) (by omega) (by omega) (by omega) (by omega)]; exact x2
      · rw [k2 (25 + 3 + 2 * v) (by omega) (by omega) (by omega) (by omega)]; exact l2
      · obtain ⟨s, s1, s2, s3, s4⟩ := l4 i hi
        exact ⟨s, s1, s2, by rw [k2 (25 + 4 + 2 * v) (by omega) (by omega) (by omega) (by omega)]; exact s3, by rw [k5 (12 * v + i) (by omega) (by omega)]; exact s4⟩
