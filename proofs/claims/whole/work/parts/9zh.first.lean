/-! the start keeps the invariant -/
theorem l_i0a : (xv_I0 1 1 = 0 ∧ xv_I0 167 7 = 0 ∧ xv_I0 3 1 = 0 ∧ xv_I0 167 5 = 0 ∧ xv_I0 0 9 = 0 ∧ xv_I0 167 51 = 0 ∧ xv_I0 5 8 = 0 ∧ xv_I0 167 16 = 0) ∧ (xv_I0 25 2 = 0 ∧ xv_I0 168 301 = 0 ∧ xv_I0 25 3 = 0 ∧ xv_I0 168 302 = 0 ∧ xv_I0 25 4 = 1 ∧ xv_I0 168 303 = 1 ∧ xv_I0 168 300 = 0) := by decide +kernel
theorem l_i0b : ∀ i, i < 5 → xv_I0 23 i = 5 ∧ xv_I0 171 i = 5 := by decide +kernel
theorem l_i0c : ∀ k, k < 8 → xv_J0 172 k = 0 ∧ xv_I0 4 k = 0 := by decide +kernel
theorem l_i0d : ∀ w, w < 10 → xv_I0 (25 + 3 + 2 * w) 3 = 0 ∧ xv_I0 (25 + 3 + 2 * w) 2 = 0 ∧ xv_I0 168 (130 + w) = 0 ∧ xv_I0 (25 + 3 + 2 * w) 1 = 0 ∧ xv_I0 168 (120 + w) = 0 := by decide +kernel
theorem l_i0e : ∀ a, a < 200 → (xv_oc a = some 8 → xv_I0 a 3 = 0) ∧ (xv_oc a = some 9 → xv_I0 a 2 = 0 ∧ xv_I0 a 3 = 0) := by decide +kernel
theorem l_i0f : xv_shl.length ≤ 200 := by decide +kernel
theorem l_i0g {a : Nat} (h : 200 ≤ a) : xv_oc a = none := by
  have : xv_shl[a]? = none := List.getElem?_eq_none (Nat.le_trans l_i0f h)
  unfold xv_oc
  rw [this]
theorem l_first : vi_all l_VL xv_I0 xv_J0 := by
  obtain ⟨⟨a1, a2, a3, a4, a5, a6, a7, a8⟩, b1, b2, b3, b4, b5, b6, b7⟩ := l_i0a
  refine ⟨⟨0, Nat.zero_le _, a1, a2, fun j hj => by omega⟩, fun i hi => ⟨5, by omega, (l_i0b i hi).1, (l_i0b i hi).2⟩, ⟨⟨0, by omega, a3, a4⟩, fun k hk => ?_⟩, ⟨⟨0, by omega, b1, b2, fun i hi => by omega⟩, ⟨⟨0, by omega, b3, b4⟩, ⟨1, by omega, b5, b6⟩⟩, ⟨0, by omega, b7, fun w hw => ?_⟩, fun w hw => ?_⟩, Or.inl ⟨a5, a6⟩, ⟨0, fun _ => (0, fun _ => none, fun _ => none), by omega, a7, a8, fun j hj => by omega⟩, fun a => ?_⟩
  · rw [(l_i0c k hk).1, (l_i0c k hk).2]
    rfl
  · rw [(l_i0d w hw).1, if_neg (by rw [Nat.zero_testBit]; decide)]
  · obtain ⟨c1, c2, c3, c4, c5⟩ := l_i0d w hw
    exact ⟨⟨0, by omega, c2, c3⟩, 0, by omega, c4, c5, fun i hi => by omega⟩
  · by_cases h : a < 200
    · obtain ⟨c1, c2⟩ := l_i0e a h
      exact ⟨fun q => Or.inl (c1 q), fun q => ⟨Or.inl (c2 q).1, Or.inl (c2 q).2⟩⟩
    · have := l_i0g (a := a) (by omega)
      rw [this]
      exact ⟨(fun q => by cases q), (fun q => by cases q)⟩
