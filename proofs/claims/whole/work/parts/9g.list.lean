/-! onion: the items, both -/
theorem oi_1p {b : Nat → Nat} {n p L v t p' : Nat} (h : oi_1 b n p L = .inr (v, t, p')) : p < p' ∧ 1 ≤ v ∧ v ≤ 99 := by
  have k2 : ∀ v0 p1, v0 ≤ 99 → p < p1 → oi_2 b n p L v0 p1 = .inr (v, t, p') → p < p' ∧ 1 ≤ v ∧ v ≤ 99 := by
    intro v0 p1 hv hp h
    unfold oi_2 at h
    by_cases c : v0 = 0
    · rw [if_pos c] at h; cases h
    · rw [if_neg c] at h
      by_cases c1 : p1 < n ∧ b p1 = 120
      · rw [if_pos c1] at h
        cases hd : tp_d b n (p1 + 1) with
        | none => rw [hd] at h; cases h
        | some s =>
          rw [hd] at h
          dsimp only at h
          by_cases c2 : s < 2
          · rw [if_pos c2] at h; cases h
          · rw [if_neg c2] at h
            by_cases c3 : 12 < L + s
            · rw [if_pos c3] at h; cases h
            · rw [if_neg c3] at h
              cases h
              exact ⟨by omega, by omega, hv⟩
      · rw [if_neg c1] at h
        by_cases c3 : 12 < L + 1
        · rw [if_pos c3] at h; cases h
        · rw [if_neg c3] at h
          cases h
          exact ⟨hp, by omega, hv⟩
  unfold oi_1 at h
  cases hd : tp_d b n p with
  | none => rw [hd] at h; cases h
  | some a =>
    rw [hd] at h
    dsimp only at h
    obtain ⟨-, a2, -⟩ := tp_d_s hd
    cases he : tp_d b n (p + 1) with
    | none => rw [he] at h; exact k2 a (p + 1) (by omega) (by omega) h
    | some c =>
      rw [he] at h
      obtain ⟨-, c2, -⟩ := tp_d_s he
      exact k2 (10 * a + c) (p + 2) (by omega) (by omega) h
theorem xq_expectEnd (ro : xv_Ro) (d : Nat) (z : Nat × Nat) (I : Nat → Nat → Int32) (J : Nat → Nat → Int64) {b : Nat → Nat} {n p : Nat} (h : tp_C b n p I) : xv_evm ro (d + 1) 256 [.ref 1] (z, xv_mk I J) = some (none, (z, xv_mk (if p < n then xv_u2 I 1 4 (-1000 * 1 - nI p) else I) J)) := by
  have hs := xq_sign ro d z I J h
  have h4 := h.2.2.2.1
  have hr := xq_refuse ro d z I J 1 (nI p) h.2.2.2.2.1
  rw [xe_Tape_expectEnd]
  unfold tp_c at hs
  by_cases c : p < n
  · have hb := (h.2.2.2.2.2 p c).1
    rw [if_pos c] at hs ⊢
    have g : (nI (b p) = -1) = False := by
      have := tp_ceq (b := fun _ => 0) (n := 0) (p := 0) (c := b p) (fun q => by omega) hb
      unfold tp_c at this
      rw [if_neg (by omega)] at this
      apply eq_false
      intro q
      have := this.mp q.symm
      omega
    simp only [xr_all, xf_all, if_true, if_false, true_or, or_true, eq_self, ite_not, Bool.false_eq_true, ite_self, and_self, true_and, and_true, false_and, and_false, not_true_eq_false, not_false_eq_true, xj_Tape_expectEnd, xb_Tape_expectEnd_0, xb_Tape_expectEnd_17, hs, g, h4, hr]
  · rw [if_neg c] at hs ⊢
    simp only [xr_all, xf_all, if_true, if_false, true_or, or_true, eq_self, ite_not, Bool.false_eq_true, ite_self, and_self, true_and, and_true, false_and, and_false, not_true_eq_false, not_false_eq_true, xj_Tape_expectEnd, xb_Tape_expectEnd_0, xb_Tape_expectEnd_17, hs]
theorem xq_expectEnd_x (ro : xv_Ro) (d : Nat) (z : Nat × Nat) (I : Nat → Nat → Int32) (J : Nat → Nat → Int64) (h : (I 1 4 = 0) = False) : xv_evm ro (d + 1) 256 [.ref 1] (z, xv_mk I J) = some (none, (z, xv_mk I J)) := by
  have hs := xq_sign_x ro d z I J h
  rw [xe_Tape_expectEnd]
  simp only [xr_all, xf_all, if_true, if_false, true_or, or_true, eq_self, ite_not, Bool.false_eq_true, ite_self, and_self, true_and, and_true, false_and, and_false, not_true_eq_false, not_false_eq_true, xj_Tape_expectEnd, xb_Tape_expectEnd_0, xb_Tape_expectEnd_17, hs]
