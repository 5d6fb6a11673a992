/-! the parsers: the tape's reader, the model's reader -/
def tp_c (b : Nat → Nat) (n p : Nat) : Int32 := if p < n then nI (b p) else -1
def tp_d (b : Nat → Nat) (n p : Nat) : Option Nat := if p < n ∧ 48 ≤ b p ∧ b p ≤ 57 then some (b p - 48) else none
def tp_C (b : Nat → Nat) (n p : Nat) (I : Nat → Nat → Int32) : Prop := n ≤ 260 ∧ p ≤ n ∧ I 1 2 = nI n ∧ I 1 3 = nI p ∧ I 1 4 = 0 ∧ ∀ j, j < n → b j < 256 ∧ I 2 j = nI (b j)
def tp_M (b : Nat → Nat) (n p : Nat) (I : Nat → Nat → Int32) : Prop := n ≤ 260 ∧ p ≤ n ∧ I 167 9 = nI n ∧ I 167 8 = nI p ∧ ∀ j, j < n → b j < 256 ∧ I 173 j &&& 255 = nI (b j)
theorem tp_Cs {b : Nat → Nat} {n p : Nat} {I : Nat → Nat → Int32} (h : tp_C b n p I) (hp : p < n) : tp_C b n (p + 1) (xv_u2 I 1 3 (nI (p + 1))) := by
  obtain ⟨h1, h2, h3, h4, h5, h6⟩ := h
  exact ⟨h1, hp, by (repeat (first | rw [xu_ne2 (by omega)] | rw [xu_ne (by omega)] | rw [xu_eq])); exact h3, xu_eq, by (repeat (first | rw [xu_ne2 (by omega)] | rw [xu_ne (by omega)] | rw [xu_eq])); exact h5, fun j hj => by (repeat (first | rw [xu_ne2 (by omega)] | rw [xu_ne (by omega)] | rw [xu_eq])); exact h6 j hj⟩
theorem tp_Ms {b : Nat → Nat} {n p : Nat} {I : Nat → Nat → Int32} (h : tp_M b n p I) (hp : p < n) : tp_M b n (p + 1) (xv_u2 I 167 8 (nI (p + 1))) := by
  obtain ⟨h1, h2, h3, h4, h5⟩ := h
  exact ⟨h1, hp, by (repeat (first | rw [xu_ne2 (by omega)] | rw [xu_ne (by omega)] | rw [xu_eq])); exact h3, xu_eq, fun j hj => by (repeat (first | rw [xu_ne2 (by omega)] | rw [xu_ne (by omega)] | rw [xu_eq])); exact h5 j hj⟩
theorem tp_Cc {b : Nat → Nat} {n p : Nat} {I I' : Nat → Nat → Int32} (h : tp_C b n p I) (h1 : ∀ j, j < 5 → I' 1 j = I 1 j) (h2 : I' 2 = I 2) : tp_C b n p I' := by
  obtain ⟨g1, g2, g3, g4, g5, g6⟩ := h
  exact ⟨g1, g2, by rw [h1 2 (by omega)]; exact g3, by rw [h1 3 (by omega)]; exact g4, by rw [h1 4 (by omega)]; exact g5, by rw [h2]; exact g6⟩
theorem tp_Mc {b : Nat → Nat} {n p : Nat} {I I' : Nat → Nat → Int32} (h : tp_M b n p I) (h1 : I' 167 9 = I 167 9) (h3 : I' 167 8 = I 167 8) (h2 : I' 173 = I 173) : tp_M b n p I' := by
  obtain ⟨g1, g2, g3, g4, g5⟩ := h
  exact ⟨g1, g2, by rw [h1]; exact g3, by rw [h3]; exact g4, by rw [h2]; exact g5⟩
theorem xq_sign (ro : xv_Ro) (d : Nat) (z : Nat × Nat) (I : Nat → Nat → Int32) (J : Nat → Nat → Int64) {b : Nat → Nat} {n p : Nat} (h : tp_C b n p I) : xv_evm ro d 251 [.ref 1] (z, xv_mk I J) = some (some (.int (tp_c b n p)), (z, xv_mk I J)) := by
  obtain ⟨h1, h2, h3, h4, h5, h6⟩ := h
  rw [xe_Tape_sign]
  unfold tp_c
  by_cases c : p < n
  · obtain ⟨b1, b2⟩ := h6 p c
    have g0 : (nI p < 0) = False := by (simp (disch := omega) only [vz_all, if_true, if_false, true_or, or_true, eq_self, ite_not, Bool.false_eq_true, ite_self, and_self, true_and, and_true, false_and, and_false, not_true_eq_false, not_false_eq_true, false_or, or_false])
    have g1 : (nI n ≤ nI p) = False := by (simp (disch := omega) only [vz_all, if_true, if_false, true_or, or_true, eq_self, ite_not, Bool.false_eq_true, ite_self, and_self, true_and, and_true, false_and, and_false, not_true_eq_false, not_false_eq_true, false_or, or_false])
    have g2 : (260 ≤ nI p) = False := by (simp (disch := omega) only [vz_all, if_true, if_false, true_or, or_true, eq_self, ite_not, Bool.false_eq_true, ite_self, and_self, true_and, and_true, false_and, and_false, not_true_eq_false, not_false_eq_true, false_or, or_false])
    have g2' : (Int32.ofNat 260 ≤ nI p) = False := g2
    have g3 : xv_inB (nI p) 260 = true := by (simp (disch := omega) only [vz_all, if_true, if_false, true_or, or_true, eq_self, ite_not, Bool.false_eq_true, ite_self, and_self, true_and, and_true, false_and, and_false, not_true_eq_false, not_false_eq_true, false_or, or_false])
    have z1 : ((1 : Int32) = 0) = False := eq_false (by decide)
    rw [if_pos c]
    simp only [xr_all, xf_all, if_true, if_false, true_or, or_true, eq_self, ite_not, Bool.false_eq_true, ite_self, and_self, true_and, and_true, false_and, and_false, not_true_eq_false, not_false_eq_true, xj_Tape_sign, xb_Tape_sign_0, xb_Tape_sign_34, xb_Tape_sign_35, xb_Tape_sign_59, xb_Tape_sign_60, h3, h4, h5, g0, g1, g2, g2', g3, z1, nI_clamp (show p < 2 ^ 31 by omega), b2]
  · have g0 : (nI p < 0) = False := by (simp (disch := omega) only [vz_all, if_true, if_false, true_or, or_true, eq_self, ite_not, Bool.false_eq_true, ite_self, and_self, true_and, and_true, false_and, and_false, not_true_eq_false, not_false_eq_true, false_or, or_false])
    have g1 : (nI n ≤ nI p) = True := by (simp (disch := omega) only [vz_all, if_true, if_false, true_or, or_true, eq_self, ite_not, Bool.false_eq_true, ite_self, and_self, true_and, and_true, false_and, and_false, not_true_eq_false, not_false_eq_true, false_or, or_false])
    rw [if_neg c]
    simp only [xr_all, xf_all, if_true, if_false, true_or, or_true, eq_self, ite_not, Bool.false_eq_true, ite_self, and_self, true_and, and_true, false_and, and_false, not_true_eq_false, not_false_eq_true, xj_Tape_sign, xb_Tape_sign_0, xb_Tape_sign_34, xb_Tape_sign_35, xb_Tape_sign_59, xb_Tape_sign_60, h3, h4, h5, g0, g1]
theorem xq_sign_x (ro : xv_Ro) (d : Nat) (z : Nat × Nat) (I : Nat → Nat → Int32) (J : Nat → Nat → Int64) (h : (I 1 4 = 0) = False) : xv_evm ro d 251 [.ref 1] (z, xv_mk I J) = some (some (.int (-1)), (z, xv_mk I J)) := by
  rw [xe_Tape_sign]
  by_cases c0 : I 1 3 < 0
  · simp only [xr_all, xf_all, if_true, if_false, true_or, or_true, eq_self, ite_not, Bool.false_eq_true, ite_self, and_self, true_and, and_true, false_and, and_false, not_true_eq_false, not_false_eq_true, xj_Tape_sign, xb_Tape_sign_0, xb_Tape_sign_34, xb_Tape_sign_35, xb_Tape_sign_59, xb_Tape_sign_60, h, eq_true c0]
  · by_cases c1 : I 1 2 ≤ I 1 3
    · simp only [xr_all, xf_all, if_true, if_false, true_or, or_true, eq_self, ite_not, Bool.false_eq_true, ite_self, and_self, true_and, and_true, false_and, and_false, not_true_eq_false, not_false_eq_true, xj_Tape_sign, xb_Tape_sign_0, xb_Tape_sign_34, xb_Tape_sign_35, xb_Tape_sign_59, xb_Tape_sign_60, h, eq_false c0, eq_true c1]
    · by_cases c2 : (260 : Int32) ≤ I 1 3
      · have c2' : (Int32.ofNat 260 ≤ I 1 3) = True := eq_true c2
        simp only [xr_all, xf_all, if_true, if_false, true_or, or_true, eq_self, ite_not, Bool.false_eq_true, ite_self, and_self, true_and, and_true, false_and, and_false, not_true_eq_false, not_false_eq_true, xj_Tape_sign, xb_Tape_sign_0, xb_Tape_sign_34, xb_Tape_sign_35, xb_Tape_sign_59, xb_Tape_sign_60, h, eq_false c0, eq_false c1, c2', eq_true c2]
      · have c2' : (Int32.ofNat 260 ≤ I 1 3) = False := eq_false c2
        simp only [xr_all, xf_all, if_true, if_false, true_or, or_true, eq_self, ite_not, Bool.false_eq_true, ite_self, and_self, true_and, and_true, false_and, and_false, not_true_eq_false, not_false_eq_true, xj_Tape_sign, xb_Tape_sign_0, xb_Tape_sign_34, xb_Tape_sign_35, xb_Tape_sign_59, xb_Tape_sign_60, h, eq_false c0, eq_false c1, c2', eq_false c2]
theorem xq_here (ro : xv_Ro) (d : Nat) (z : Nat × Nat) (I : Nat → Nat → Int32) (J : Nat → Nat → Int64) {b : Nat → Nat} {n p : Nat} (h : tp_M b n p I) : xv_evm ro d 56 [.ref 167] (z, xv_mk I J) = some (some (.int (tp_c b n p)), (z, xv_mk I J)) := by
  obtain ⟨h1, h2, h3, h4, h5⟩ := h
  rw [xe_Mo_here]
  unfold tp_c
  by_cases c : p < n
  · obtain ⟨b1, b2⟩ := h5 p c
    have g1 : (nI n ≤ nI p) = False := by (simp (disch := omega) only [vz_all, if_true, if_false, true_or, or_true, eq_self, ite_not, Bool.false_eq_true, ite_self, and_self, true_and, and_true, false_and, and_false, not_true_eq_false, not_false_eq_true, false_or, or_false])
    have g3 : xv_inB (nI p) 260 = true := by (simp (disch := omega) only [vz_all, if_true, if_false, true_or, or_true, eq_self, ite_not, Bool.false_eq_true, ite_self, and_self, true_and, and_true, false_and, and_false, not_true_eq_false, not_false_eq_true, false_or, or_false])
    rw [if_pos c]
    simp only [xr_all, xf_all, if_true, if_false, true_or, or_true, eq_self, ite_not, Bool.false_eq_true, ite_self, and_self, true_and, and_true, false_and, and_false, not_true_eq_false, not_false_eq_true, xj_Mo_here, xb_Mo_here_0, xb_Mo_here_27, xb_Mo_here_28, h3, h4, g1, g3, nI_clamp (show p < 2 ^ 31 by omega), b2]
  · have g1 : (nI n ≤ nI p) = True := by (simp (disch := omega) only [vz_all, if_true, if_false, true_or, or_true, eq_self, ite_not, Bool.false_eq_true, ite_self, and_self, true_and, and_true, false_and, and_false, not_true_eq_false, not_false_eq_true, false_or, or_false])
    rw [if_neg c]
    simp only [xr_all, xf_all, if_true, if_false, true_or, or_true, eq_self, ite_not, Bool.false_eq_true, ite_self, and_self, true_and, and_true, false_and, and_false, not_true_eq_false, not_false_eq_true, xj_Mo_here, xb_Mo_here_0, xb_Mo_here_27, xb_Mo_here_28, h3, h4, g1]
theorem tp_d_s {b : Nat → Nat} {n p v : Nat} (h : tp_d b n p = some v) : p < n ∧ v ≤ 9 ∧ b p = v + 48 := by
  unfold tp_d at h
  by_cases c : p < n ∧ 48 ≤ b p ∧ b p ≤ 57
  · rw [if_pos c] at h
    have := Option.some.inj h
    omega
  · rw [if_neg c] at h; cases h
theorem tp_d_n {b : Nat → Nat} {n p : Nat} (hb : p < n → b p < 256) (h : tp_d b n p = none) : (tp_c b n p < 48) = True ∨ ((tp_c b n p < 48) = False ∧ (57 < tp_c b n p) = True) := by
  unfold tp_d at h
  unfold tp_c
  by_cases c : p < n
  · have hb := hb c
    rw [if_pos c]
    by_cases c1 : b p < 48
    · left; (simp (disch := omega) only [vz_all, if_true, if_false, true_or, or_true, eq_self, ite_not, Bool.false_eq_true, ite_self, and_self, true_and, and_true, false_and, and_false, not_true_eq_false, not_false_eq_true, false_or, or_false])
    · right
      have c2 : 57 < b p := by
        rw [Nat.lt_iff_add_one_le]
        by_cases c3 : b p ≤ 57
        · rw [if_pos ⟨c, by omega, c3⟩] at h; cases h
        · omega
      exact ⟨by (simp (disch := omega) only [vz_all, if_true, if_false, true_or, or_true, eq_self, ite_not, Bool.false_eq_true, ite_self, and_self, true_and, and_true, false_and, and_false, not_true_eq_false, not_false_eq_true, false_or, or_false]), by (simp (disch := omega) only [vz_all, if_true, if_false, true_or, or_true, eq_self, ite_not, Bool.false_eq_true, ite_self, and_self, true_and, and_true, false_and, and_false, not_true_eq_false, not_false_eq_true, false_or, or_false])⟩
  · rw [if_neg c]; left; exact eq_true (by decide)
theorem xq_isDigit (ro : xv_Ro) (d : Nat) (z : Nat × Nat) (I : Nat → Nat → Int32) (J : Nat → Nat → Int64) {b : Nat → Nat} {n p : Nat} (h : tp_M b n p I) : xv_evm ro (d + 1) 57 [.ref 167] (z, xv_mk I J) = some (some (.int (if (tp_d b n p).isSome = true then 1 else 0)), (z, xv_mk I J)) := by
  have hh := xq_here ro d z I J h
  rw [xe_Mo_isDigit]
  cases hd : tp_d b n p with
  | none =>
    rw [if_neg (by decide)]
    rcases tp_d_n (fun c => (h.2.2.2.2 p c).1) hd with g | ⟨g1, g2⟩
    · simp only [xr_all, xf_all, if_true, if_false, true_or, or_true, eq_self, ite_not, Bool.false_eq_true, ite_self, and_self, true_and, and_true, false_and, and_false, not_true_eq_false, not_false_eq_true, xj_Mo_isDigit, xb_Mo_isDigit_0, xb_Mo_isDigit_22, xb_Mo_isDigit_23, hh, g]
    · have g2' := eq_false (Int32.not_le.mpr (g2.mpr trivial))
      simp only [xr_all, xf_all, if_true, if_false, true_or, or_true, eq_self, ite_not, Bool.false_eq_true, ite_self, and_self, true_and, and_true, false_and, and_false, not_true_eq_false, not_false_eq_true, xj_Mo_isDigit, xb_Mo_isDigit_0, xb_Mo_isDigit_22, xb_Mo_isDigit_23, hh, g1, g2, g2']
  | some v =>
    rw [if_pos (show (some v).isSome = true from rfl)]
    obtain ⟨c, c1, c2⟩ := tp_d_s hd
    have e : tp_c b n p = nI (v + 48) := by unfold tp_c; rw [if_pos c, c2]
    rw [e] at hh
    have g1 : (nI (v + 48) < 48) = False := by (simp (disch := omega) only [vz_all, if_true, if_false, true_or, or_true, eq_self, ite_not, Bool.false_eq_true, ite_self, and_self, true_and, and_true, false_and, and_false, not_true_eq_false, not_false_eq_true, false_or, or_false])
    have g2 : (57 < nI (v + 48)) = False := by (simp (disch := omega) only [vz_all, if_true, if_false, true_or, or_true, eq_self, ite_not, Bool.false_eq_true, ite_self, and_self, true_and, and_true, false_and, and_false, not_true_eq_false, not_false_eq_true, false_or, or_false])
    have g3 : (nI (v + 48) ≤ 57) = True := by (simp (disch := omega) only [vz_all, if_true, if_false, true_or, or_true, eq_self, ite_not, Bool.false_eq_true, ite_self, and_self, true_and, and_true, false_and, and_false, not_true_eq_false, not_false_eq_true, false_or, or_false])
    simp only [xr_all, xf_all, if_true, if_false, true_or, or_true, eq_self, ite_not, Bool.false_eq_true, ite_self, and_self, true_and, and_true, false_and, and_false, not_true_eq_false, not_false_eq_true, xj_Mo_isDigit, xb_Mo_isDigit_0, xb_Mo_isDigit_22, xb_Mo_isDigit_23, hh, g1, g2, g3]
theorem xq_digit (ro : xv_Ro) (d : Nat) (z : Nat × Nat) (I : Nat → Nat → Int32) (J : Nat → Nat → Int64) {b : Nat → Nat} {n p : Nat} (h : tp_C b n p I) : xv_evm ro (d + 1) 252 [.ref 1] (z, xv_mk I J) = match tp_d b n p with | none => some (some (.int (-1)), (z, xv_mk I J)) | some v => some (some (.int (nI v)), (z, xv_mk (xv_u2 I 1 3 (nI (p + 1))) J)) := by
  have hs := xq_sign ro d z I J h
  have h4 := h.2.2.2.1
  rw [xe_Tape_digit]
  cases hd : tp_d b n p with
  | none =>
    dsimp only
    unfold tp_c at hs
    unfold tp_d at hd
    by_cases c : p < n
    · have hb := (h.2.2.2.2.2 p c).1
      rw [if_pos c] at hs
      by_cases c1 : b p < 48
      · have e : (nI (b p) - 48 < 0) = True := by
          apply eq_true
          rw [show (48 : Int32) = nI 48 from rfl, Int32.lt_iff_toInt_lt, pk_sub_toInt (a := b p) (b := 48) (by omega) (by omega)]
          show (b p : Int) - (48 : Nat) < 0
          omega
        simp only [xr_all, xf_all, if_true, if_false, true_or, or_true, eq_self, ite_not, Bool.false_eq_true, ite_self, and_self, true_and, and_true, false_and, and_false, not_true_eq_false, not_false_eq_true, xj_Tape_digit, xb_Tape_digit_0, xb_Tape_digit_18, xb_Tape_digit_20, hs, e]
      · have c2 : 57 < b p := by
          by_cases c3 : b p ≤ 57
          · rw [if_pos ⟨c, by omega, c3⟩] at hd; cases hd
          · omega
        have es : nI (b p) - 48 = nI (b p - 48) := by (simp (disch := omega) only [vz_all, if_true, if_false, true_or, or_true, eq_self, ite_not, Bool.false_eq_true, ite_self, and_self, true_and, and_true, false_and, and_false, not_true_eq_false, not_false_eq_true, false_or, or_false])
        have g1 : (nI (b p - 48) < 0) = False := by (simp (disch := omega) only [vz_all, if_true, if_false, true_or, or_true, eq_self, ite_not, Bool.false_eq_true, ite_self, and_self, true_and, and_true, false_and, and_false, not_true_eq_false, not_false_eq_true, false_or, or_false])
        have g2 : (nI (b p - 48) ≤ 9) = False := by (simp (disch := omega) only [vz_all, if_true, if_false, true_or, or_true, eq_self, ite_not, Bool.false_eq_true, ite_self, and_self, true_and, and_true, false_and, and_false, not_true_eq_false, not_false_eq_true, false_or, or_false])
        simp only [xr_all, xf_all, if_true, if_false, true_or, or_true, eq_self, ite_not, Bool.false_eq_true, ite_self, and_self, true_and, and_true, false_and, and_false, not_true_eq_false, not_false_eq_true, xj_Tape_digit, xb_Tape_digit_0, xb_Tape_digit_18, xb_Tape_digit_20, hs, es, g1, g2]
    · rw [if_neg c] at hs
      have e : ((-1 : Int32) - 48 < 0) = True := eq_true (by decide)
      simp only [xr_all, xf_all, if_true, if_false, true_or, or_true, eq_self, ite_not, Bool.false_eq_true, ite_self, and_self, true_and, and_true, false_and, and_false, not_true_eq_false, not_false_eq_true, xj_Tape_digit, xb_Tape_digit_0, xb_Tape_digit_18, xb_Tape_digit_20, hs, e]
  | some v =>
    dsimp only
    obtain ⟨c, c1, c2⟩ := tp_d_s hd
    have e : tp_c b n p = nI (v + 48) := by unfold tp_c; rw [if_pos c, c2]
    rw [e] at hs
    have es : nI (v + 48) - 48 = nI v := by (simp (disch := omega) only [vz_all, if_true, if_false, true_or, or_true, eq_self, ite_not, Bool.false_eq_true, ite_self, and_self, true_and, and_true, false_and, and_false, not_true_eq_false, not_false_eq_true, false_or, or_false])
    have g1 : (nI v < 0) = False := by (simp (disch := omega) only [vz_all, if_true, if_false, true_or, or_true, eq_self, ite_not, Bool.false_eq_true, ite_self, and_self, true_and, and_true, false_and, and_false, not_true_eq_false, not_false_eq_true, false_or, or_false])
    have g2 : (nI v ≤ 9) = True := by (simp (disch := omega) only [vz_all, if_true, if_false, true_or, or_true, eq_self, ite_not, Bool.false_eq_true, ite_self, and_self, true_and, and_true, false_and, and_false, not_true_eq_false, not_false_eq_true, false_or, or_false])
    simp only [xr_all, xf_all, if_true, if_false, true_or, or_true, eq_self, ite_not, Bool.false_eq_true, ite_self, and_self, true_and, and_true, false_and, and_false, not_true_eq_false, not_false_eq_true, xj_Tape_digit, xb_Tape_digit_0, xb_Tape_digit_18, xb_Tape_digit_20, hs, es, g1, g2, h4, nI_1]
theorem xq_digit_x (ro : xv_Ro) (d : Nat) (z : Nat × Nat) (I : Nat → Nat → Int32) (J : Nat → Nat → Int64) (h : (I 1 4 = 0) = False) : xv_evm ro (d + 1) 252 [.ref 1] (z, xv_mk I J) = some (some (.int (-1)), (z, xv_mk I J)) := by
  have hs := xq_sign_x ro d z I J h
  have e : ((-1 : Int32) - 48 < 0) = True := eq_true (by decide)
  rw [xe_Tape_digit]
  simp only [xr_all, xf_all, if_true, if_false, true_or, or_true, eq_self, ite_not, Bool.false_eq_true, ite_self, and_self, true_and, and_true, false_and, and_false, not_true_eq_false, not_false_eq_true, xj_Tape_digit, xb_Tape_digit_0, xb_Tape_digit_18, xb_Tape_digit_20, hs, e]
theorem tp_ceq {b : Nat → Nat} {n p c : Nat} (hb : p < n → b p < 256) (hc : c < 256) : (tp_c b n p = nI c) = (p < n ∧ b p = c) := by
  unfold tp_c
  apply propext
  by_cases q : p < n
  · have := hb q
    rw [if_pos q, nI_eq (by omega) (by omega)]
    exact ⟨fun g => ⟨q, g⟩, fun g => g.2⟩
  · rw [if_neg q]
    constructor
    · intro g
      have e : (-1 : Int32).toInt = (nI c).toInt := congrArg Int32.toInt g
      rw [nI_toInt (by omega)] at e
      have e2 : (-1 : Int32).toInt = -1 := by decide
      omega
    · intro g; exact absurd g.1 q
theorem xq_take (ro : xv_Ro) (d : Nat) (z : Nat × Nat) (I : Nat → Nat → Int32) (J : Nat → Nat → Int64) {b : Nat → Nat} {n p c : Nat} (h : tp_C b n p I) (hc : c < 256) : xv_evm ro (d + 1) 254 [.ref 1, .int (nI c)] (z, xv_mk I J) = if p < n ∧ b p = c then some (some (.int 1), (z, xv_mk (xv_u2 I 1 3 (nI (p + 1))) J)) else some (some (.int 0), (z, xv_mk I J)) := by
  have hs := xq_sign ro d z I J h
  have he := tp_ceq (b := b) (n := n) (p := p) (c := c) (fun q => (h.2.2.2.2.2 p q).1) hc
  have h3 := h.2.2.1
  have h4 := h.2.2.2.1
  have z1 : ((1 : Int32) = 0) = False := eq_false (by decide)
  have hn := h.1
  rw [xe_Tape_take]
  by_cases q : p < n ∧ b p = c
  · rw [if_pos q]
    have g := he.trans (eq_true q)
    have q1 := q.1
    have g1 : (nI n ≤ nI p) = False := by (simp (disch := omega) only [vz_all, if_true, if_false, true_or, or_true, eq_self, ite_not, Bool.false_eq_true, ite_self, and_self, true_and, and_true, false_and, and_false, not_true_eq_false, not_false_eq_true, false_or, or_false])
    have hst : xv_evm ro d 253 [.ref 1] (z, xv_mk I J) = some (none, (z, xv_mk (xv_u2 I 1 3 (nI (p + 1))) J)) := by
      rw [xe_Tape_step]
      simp only [xr_all, xf_all, if_true, if_false, true_or, or_true, eq_self, ite_not, Bool.false_eq_true, ite_self, and_self, true_and, and_true, false_and, and_false, not_true_eq_false, not_false_eq_true, xj_Tape_step, xb_Tape_step_0, xb_Tape_step_21, h3, h4, g1, nI_1]
    simp only [xr_all, xf_all, if_true, if_false, true_or, or_true, eq_self, ite_not, Bool.false_eq_true, ite_self, and_self, true_and, and_true, false_and, and_false, not_true_eq_false, not_false_eq_true, xj_Tape_take, xb_Tape_take_0, xb_Tape_take_12, xb_Tape_take_13, xb_Tape_take_22, hs, g, z1, hst]
  · rw [if_neg q]
    have g := he.trans (eq_false q)
    simp only [xr_all, xf_all, if_true, if_false, true_or, or_true, eq_self, ite_not, Bool.false_eq_true, ite_self, and_self, true_and, and_true, false_and, and_false, not_true_eq_false, not_false_eq_true, xj_Tape_take, xb_Tape_take_0, xb_Tape_take_12, xb_Tape_take_13, xb_Tape_take_22, hs, g]
theorem xq_take_x (ro : xv_Ro) (d : Nat) (z : Nat × Nat) (I : Nat → Nat → Int32) (J : Nat → Nat → Int64) {c : Nat} (h : (I 1 4 = 0) = False) (hc : c < 256) : xv_evm ro (d + 1) 254 [.ref 1, .int (nI c)] (z, xv_mk I J) = some (some (.int 0), (z, xv_mk I J)) := by
  have hs := xq_sign_x ro d z I J h
  have g : ((-1 : Int32) = nI c) = False := by
    have := tp_ceq (b := fun _ => 0) (n := 0) (p := 0) (c := c) (fun q => by omega) hc
    unfold tp_c at this
    rw [if_neg (by omega)] at this
    rw [this]
    exact eq_false (fun q => absurd q.1 (by omega))
  rw [xe_Tape_take]
  simp only [xr_all, xf_all, if_true, if_false, true_or, or_true, eq_self, ite_not, Bool.false_eq_true, ite_self, and_self, true_and, and_true, false_and, and_false, not_true_eq_false, not_false_eq_true, xj_Tape_take, xb_Tape_take_0, xb_Tape_take_12, xb_Tape_take_13, xb_Tape_take_22, hs, g]
theorem xq_refuse (ro : xv_Ro) (d : Nat) (z : Nat × Nat) (I : Nat → Nat → Int32) (J : Nat → Nat → Int64) (w q : Int32) (h : I 1 4 = 0) : xv_evm ro d 257 [.ref 1, .int w, .int q] (z, xv_mk I J) = some (none, (z, xv_mk (xv_u2 I 1 4 (-1000 * w - q)) J)) := by
  rw [xe_Tape_refuse]
  simp only [xr_all, xf_all, if_true, if_false, true_or, or_true, eq_self, ite_not, Bool.false_eq_true, ite_self, and_self, true_and, and_true, false_and, and_false, not_true_eq_false, not_false_eq_true, xj_Tape_refuse, xb_Tape_refuse_0, xb_Tape_refuse_18, h]
theorem xq_refuse_x (ro : xv_Ro) (d : Nat) (z : Nat × Nat) (I : Nat → Nat → Int32) (J : Nat → Nat → Int64) (w q : Int32) (h : (I 1 4 = 0) = False) : xv_evm ro d 257 [.ref 1, .int w, .int q] (z, xv_mk I J) = some (none, (z, xv_mk I J)) := by
  rw [xe_Tape_refuse]
  simp only [xr_all, xf_all, if_true, if_false, true_or, or_true, eq_self, ite_not, Bool.false_eq_true, ite_self, and_self, true_and, and_true, false_and, and_false, not_true_eq_false, not_false_eq_true, xj_Tape_refuse, xb_Tape_refuse_0, xb_Tape_refuse_18, h]
theorem xq_Tape_place (ro : xv_Ro) (d : Nat) (z : Nat × Nat) (I : Nat → Nat → Int32) (J : Nat → Nat → Int64) : xv_evm ro d 250 [.ref 1] (z, xv_mk I J) = some (some (.int (I 1 3)), (z, xv_mk I J)) := by
  rw [xe_Tape_place]
  simp only [xr_all, xf_all, if_true, if_false, true_or, or_true, eq_self, ite_not, Bool.false_eq_true, ite_self, and_self, true_and, and_true, false_and, and_false, not_true_eq_false, not_false_eq_true, xj_Tape_place, xb_Tape_place_0]
theorem xq_wrongAt (ro : xv_Ro) (d : Nat) (z : Nat × Nat) (I : Nat → Nat → Int32) (J : Nat → Nat → Int64) (w q : Int32) : xv_evm ro d 58 [.ref 167, .int w, .int q] (z, xv_mk I J) = some (some (.int 0), (z, xv_mk (xv_u2 I 167 10 (-1000 * w - q)) J)) := by
  rw [xe_Mo_wrongAt]
  simp only [xr_all, xf_all, if_true, if_false, true_or, or_true, eq_self, ite_not, Bool.false_eq_true, ite_self, and_self, true_and, and_true, false_and, and_false, not_true_eq_false, not_false_eq_true, xj_Mo_wrongAt, xb_Mo_wrongAt_0]
theorem xq_takes (ro : xv_Ro) (d : Nat) (z : Nat × Nat) (I : Nat → Nat → Int32) (J : Nat → Nat → Int64) {b : Nat → Nat} {n p c : Nat} (h : tp_M b n p I) (hc : c < 256) : xv_evm ro (d + 1) 59 [.ref 167, .int (nI c)] (z, xv_mk I J) = if p < n ∧ b p = c then some (some (.int 1), (z, xv_mk (xv_u2 I 167 8 (nI (p + 1))) J)) else some (some (.int 0), (z, xv_mk (xv_u2 I 167 10 (-1000 * 1 - nI p)) J)) := by
  have hs := xq_here ro d z I J h
  have he := tp_ceq (b := b) (n := n) (p := p) (c := c) (fun q => (h.2.2.2.2 p q).1) hc
  have h4 := h.2.2.2.1
  have hw := xq_wrongAt ro d z I J 1 (nI p)
  rw [xe_Mo_takes]
  by_cases q : p < n ∧ b p = c
  · rw [if_pos q]
    have g := he.trans (eq_true q)
    simp only [xr_all, xf_all, if_true, if_false, true_or, or_true, eq_self, ite_not, Bool.false_eq_true, ite_self, and_self, true_and, and_true, false_and, and_false, not_true_eq_false, not_false_eq_true, xj_Mo_takes, xb_Mo_takes_0, xb_Mo_takes_18, hs, g, h4, nI_1]
  · rw [if_neg q]
    have g := he.trans (eq_false q)
    simp only [xr_all, xf_all, if_true, if_false, true_or, or_true, eq_self, ite_not, Bool.false_eq_true, ite_self, and_self, true_and, and_true, false_and, and_false, not_true_eq_false, not_false_eq_true, xj_Mo_takes, xb_Mo_takes_0, xb_Mo_takes_18, hs, g, h4, hw]
theorem tp_f {p : Nat} (w : Nat) (hw1 : 1 ≤ w) (hw : w ≤ 9) (hp : p ≤ 260) : (-1000 * nI w - nI p = 0) = False := by
  apply eq_false
  intro g
  have hm : -1000 * nI w = -(nI (1000 * w)) := by
    have : w = 1 ∨ w = 2 ∨ w = 3 ∨ w = 4 ∨ w = 5 ∨ w = 6 ∨ w = 7 ∨ w = 8 ∨ w = 9 := by omega
    rcases this with rfl | rfl | rfl | rfl | rfl | rfl | rfl | rfl | rfl <;> decide
  rw [hm] at g
  have h2 : nI (1000 * w) + nI p = 0 := by
    have : -(nI (1000 * w)) = nI p := by
      have := congrArg (fun x => x + nI p) g
      simpa using this
    rw [← this]
    exact Int32.add_right_neg _
  rw [nI_add] at h2
  have h3 := congrArg Int32.toInt h2
  rw [nI_toInt (by omega)] at h3
  have h4 : (0 : Int32).toInt = 0 := by decide
  omega
