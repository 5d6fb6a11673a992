/-! PAIR: agree (guards and the pair) -/
theorem vt_or (ro : xv_Ro) (d : Nat) (z : Nat × Nat) (I : Nat → Nat → Int32) (J : Nat → Nat → Int64) (h : vi_A3 I 25 168) (x : Int32) : (∃ w : Nat, w < 10 ∧ x = nI w ∧ xv_evm ro (d + 1) 159 [.ref 25, .int x] (z, xv_mk I J) = some (some (.ref (25 + 3 + 2 * w)), (z, xv_mk I J)) ∧ xv_evm ro (d + 1) 47 [.ref 167, .int x] (z, xv_mk I J) = some (some (.int 1), (z, xv_mk I J))) ∨ (xv_evm ro (d + 1) 159 [.ref 25, .int x] (z, xv_mk I J) = some (some .null, (z, xv_mk I J)) ∧ xv_evm ro (d + 1) 47 [.ref 167, .int x] (z, xv_mk I J) = some (some (.int 0), (z, xv_mk I J))) := by
  obtain ⟨mk, m1, m2, m3⟩ := h
  by_cases hw : ∃ w : Nat, w ≤ 9 ∧ x = nI w
  · obtain ⟨w, hw, rfl⟩ := hw
    have hmw := xq_Mo_isWitness ro d z I J (m := mk) (w := w) m2 m1 (by omega)
    by_cases ht : mk.testBit w = true
    · left
      have hb : xv_b (mk.testBit w = true) inferInstance = 1 := by unfold xv_b; rw [if_pos ht]
      rw [hb] at hmw
      exact ⟨w, by omega, rfl, xq_told ro d z I J (A := 25) (Or.inl rfl) (by omega) (by rw [m3 w (by omega), if_pos ht]), hmw⟩
    · right
      have hb : xv_b (mk.testBit w = true) inferInstance = 0 := by unfold xv_b; rw [if_neg ht]
      rw [hb] at hmw
      exact ⟨xq_told_no ro d z I J (A := 25) (Or.inl rfl) (nI w) (fun v hv q => by
        have : v = w := ((nI_eq (by omega) (by omega)).mp q).symm
        rw [this, m3 w (by omega), if_neg ht]), hmw⟩
  · right
    exact ⟨xq_told_no ro d z I J (A := 25) (Or.inl rfl) x (fun v hv q => absurd ⟨v, by omega, q⟩ hw), xq_Mo_isWitness_no ro d (z, xv_mk I J) hw⟩
