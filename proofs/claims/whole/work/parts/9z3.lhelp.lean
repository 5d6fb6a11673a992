/-! law: the model's smaller steps -/
theorem xq_sumSign (ro : xv_Ro) (d : Nat) (σ : xv_S) {w : Nat} (hw : 2 ≤ w ∧ w ≤ 6) : xv_evm ro d 65 [.int (nI (l_ch w))] σ = some (some (.int (nI w)), σ) := by
  have hw2 : w = 2 ∨ w = 3 ∨ w = 4 ∨ w = 5 ∨ w = 6 := by omega
  rw [xe_Mo_sumSign]
  rcases hw2 with rfl | rfl | rfl | rfl | rfl
  · have a1 : (nI (l_ch 2) = 43) = True := eq_true (by decide)
    simp only [xr_all, xf_all, if_true, if_false, true_or, or_true, eq_self, ite_not, Bool.false_eq_true, ite_self, and_self, true_and, and_true, false_and, and_false, not_true_eq_false, not_false_eq_true, xj_Mo_sumSign, xb_Mo_sumSign_0, xb_Mo_sumSign_10, xb_Mo_sumSign_20, xb_Mo_sumSign_30, xb_Mo_sumSign_40, xb_Mo_sumSign_51, xb_Mo_sumSign_52, a1]
    rfl
  · have a1 : (nI (l_ch 3) = 43) = False := eq_false (by decide)
    have a2 : (nI (l_ch 3) = 45) = True := eq_true (by decide)
    simp only [xr_all, xf_all, if_true, if_false, true_or, or_true, eq_self, ite_not, Bool.false_eq_true, ite_self, and_self, true_and, and_true, false_and, and_false, not_true_eq_false, not_false_eq_true, xj_Mo_sumSign, xb_Mo_sumSign_0, xb_Mo_sumSign_10, xb_Mo_sumSign_20, xb_Mo_sumSign_30, xb_Mo_sumSign_40, xb_Mo_sumSign_51, xb_Mo_sumSign_52, a1, a2]
    rfl
  · have a1 : (nI (l_ch 4) = 43) = False := eq_false (by decide)
    have a2 : (nI (l_ch 4) = 45) = False := eq_false (by decide)
    have a3 : (nI (l_ch 4) = 42) = True := eq_true (by decide)
    simp only [xr_all, xf_all, if_true, if_false, true_or, or_true, eq_self, ite_not, Bool.false_eq_true, ite_self, and_self, true_and, and_true, false_and, and_false, not_true_eq_false, not_false_eq_true, xj_Mo_sumSign, xb_Mo_sumSign_0, xb_Mo_sumSign_10, xb_Mo_sumSign_20, xb_Mo_sumSign_30, xb_Mo_sumSign_40, xb_Mo_sumSign_51, xb_Mo_sumSign_52, a1, a2, a3]
    rfl
  · have a1 : (nI (l_ch 5) = 43) = False := eq_false (by decide)
    have a2 : (nI (l_ch 5) = 45) = False := eq_false (by decide)
    have a3 : (nI (l_ch 5) = 42) = False := eq_false (by decide)
    have a4 : (nI (l_ch 5) = 47) = True := eq_true (by decide)
    simp only [xr_all, xf_all, if_true, if_false, true_or, or_true, eq_self, ite_not, Bool.false_eq_true, ite_self, and_self, true_and, and_true, false_and, and_false, not_true_eq_false, not_false_eq_true, xj_Mo_sumSign, xb_Mo_sumSign_0, xb_Mo_sumSign_10, xb_Mo_sumSign_20, xb_Mo_sumSign_30, xb_Mo_sumSign_40, xb_Mo_sumSign_51, xb_Mo_sumSign_52, a1, a2, a3, a4]
    rfl
  · have a1 : (nI (l_ch 6) = 43) = False := eq_false (by decide)
    have a2 : (nI (l_ch 6) = 45) = False := eq_false (by decide)
    have a3 : (nI (l_ch 6) = 42) = False := eq_false (by decide)
    have a4 : (nI (l_ch 6) = 47) = False := eq_false (by decide)
    have a5 : (nI (l_ch 6) = 37) = True := eq_true (by decide)
    simp only [xr_all, xf_all, if_true, if_false, true_or, or_true, eq_self, ite_not, Bool.false_eq_true, ite_self, and_self, true_and, and_true, false_and, and_false, not_true_eq_false, not_false_eq_true, xj_Mo_sumSign, xb_Mo_sumSign_0, xb_Mo_sumSign_10, xb_Mo_sumSign_20, xb_Mo_sumSign_30, xb_Mo_sumSign_40, xb_Mo_sumSign_51, xb_Mo_sumSign_52, a1, a2, a3, a4, a5]
    rfl
/-- no sign of a sum stands at a place -/
def l_ns (b : Nat → Nat) (n p : Nat) : Prop := p < n → b p ≠ 43 ∧ b p ≠ 45 ∧ b p ≠ 42 ∧ b p ≠ 47 ∧ b p ≠ 37
theorem xq_sumSign_no (ro : xv_Ro) (d : Nat) (σ : xv_S) {b : Nat → Nat} {n p : Nat} (hb : p < n → b p < 256) (h : l_ns b n p) : xv_evm ro d 65 [.int (tp_c b n p)] σ = some (some (.int (-1)), σ) := by
  have hno : ∀ c, (c = 43 ∨ c = 45 ∨ c = 42 ∨ c = 47 ∨ c = 37) → (tp_c b n p = nI c) = False := by
    intro c hc
    rw [tp_ceq hb (by omega)]
    apply eq_false
    rintro ⟨q1, q2⟩
    have := h q1
    omega
  have a1 := hno 43 (by omega)
  have a2 := hno 45 (by omega)
  have a3 := hno 42 (by omega)
  have a4 := hno 47 (by omega)
  have a5 := hno 37 (by omega)
  rw [show nI 43 = (43 : Int32) from rfl] at a1
  rw [show nI 45 = (45 : Int32) from rfl] at a2
  rw [show nI 42 = (42 : Int32) from rfl] at a3
  rw [show nI 47 = (47 : Int32) from rfl] at a4
  rw [show nI 37 = (37 : Int32) from rfl] at a5
  rw [xe_Mo_sumSign]
  simp only [xr_all, xf_all, if_true, if_false, true_or, or_true, eq_self, ite_not, Bool.false_eq_true, ite_self, and_self, true_and, and_true, false_and, and_false, not_true_eq_false, not_false_eq_true, xj_Mo_sumSign, xb_Mo_sumSign_0, xb_Mo_sumSign_10, xb_Mo_sumSign_20, xb_Mo_sumSign_30, xb_Mo_sumSign_40, xb_Mo_sumSign_51, xb_Mo_sumSign_52, a1, a2, a3, a4, a5]
def l_at : List (Nat × Nat) → Nat → Nat
  | [], _ => 0
  | (o, _) :: W, k => if k = W.length then o else l_at W k
theorem l_W_at {K R : Nat → Int32} : ∀ (W : List (Nat × Nat)) (c : Nat), l_W K R W c → c ≤ 260 → ∀ k, k < W.length → ∃ v, R k = nI (1048576 * l_at W k + v) ∧ v < 1048576 ∧ l_at W k ≤ 14 := by
  intro W
  induction W with
  | nil => intro c _ _ k hk; exact absurd hk (Nat.not_lt_zero k)
  | cons a W ih =>
    obtain ⟨o, v⟩ := a
    intro c h hc k hk
    by_cases q : k = W.length
    · subst q
      obtain ⟨q1, q2, q3⟩ := l_wt h hc
      have e : l_at ((o, v) :: W) W.length = o := by unfold l_at; rw [if_pos rfl]
      rw [e]
      exact ⟨v, q3, q2, q1⟩
    · have e : l_at ((o, v) :: W) k = l_at W k := by
        conv => lhs; unfold l_at
        rw [if_neg q]
      rw [e]
      have hk' : k < W.length := by
        have : k < W.length + 1 := hk
        omega
      obtain ⟨-, -, h3⟩ := h
      rcases h3 with ⟨-, a2, -, a4⟩ | ⟨-, -, a3⟩
      · exact ih v a4 (by omega) k hk'
      · exact ih c a3 hc k hk'
theorem l_ho_lp (ro : xv_Ro) (d : Nat) (z : Nat × Nat) (M : Nat → Nat → Int32) (J : Nat → Nat → Int64) {b : Nat → Nat} {n p c : Nat} {W : List (Nat × Nat)} (x1 : Int32) (h : l_s M b n p W c) : ∀ (m k : Nat), k + m = W.length → ((∃ k0, k ≤ k0 ∧ k0 < W.length ∧ l_at W k0 = 14) → xv_ev ro d xm_Mo_hasOpenSum xb_Mo_hasOpenSum_2 [some (.ref 167), some (.int x1), some (.int (nI k))] [] (z, xv_mk M J) = some (some (.int 1), (z, xv_mk M J))) ∧ ((∀ k0, k ≤ k0 → k0 < W.length → l_at W k0 ≠ 14) → xv_ev ro d xm_Mo_hasOpenSum xb_Mo_hasOpenSum_2 [some (.ref 167), some (.int x1), some (.int (nI k))] [] (z, xv_mk M J) = some (some (.int 0), (z, xv_mk M J))) := by
  obtain ⟨h0, h1, h2, h3, h4, h5, h6, h7⟩ := h
  have hpn := h1.2.1
  intro m
  induction m with
  | zero =>
    intro k hk
    refine ⟨fun q => by obtain ⟨k0, q1, q2, -⟩ := q; omega, fun _ => ?_⟩
    have g : (nI W.length ≤ nI k) = True := by (simp (disch := omega) only [vz_all, if_true, if_false, true_or, or_true, eq_self, ite_not, Bool.false_eq_true, ite_self, and_self, true_and, and_true, false_and, and_false, not_true_eq_false, not_false_eq_true, false_or, or_false])
    conv => lhs; unfold xb_Mo_hasOpenSum_2
    simp only [xr_all, xf_all, if_true, if_false, true_or, or_true, eq_self, ite_not, Bool.false_eq_true, ite_self, and_self, true_and, and_true, false_and, and_false, not_true_eq_false, not_false_eq_true, xj_Mo_hasOpenSum, xb_Mo_hasOpenSum_0, xb_Mo_hasOpenSum_26, xb_Mo_hasOpenSum_32, h4, g]
  | succ m ih =>
    intro k hk
    obtain ⟨v, q1, q2, q3⟩ := l_W_at W c h5 (by omega) k (by omega)
    obtain ⟨u1, u2⟩ := l_U (w := l_at W k) (v := v) q3 q2
    have g : (nI W.length ≤ nI k) = False := by (simp (disch := omega) only [vz_all, if_true, if_false, true_or, or_true, eq_self, ite_not, Bool.false_eq_true, ite_self, and_self, true_and, and_true, false_and, and_false, not_true_eq_false, not_false_eq_true, false_or, or_false])
    have g1 : xv_inB (nI k) 260 = true := by (simp (disch := omega) only [vz_all, if_true, if_false, true_or, or_true, eq_self, ite_not, Bool.false_eq_true, ite_self, and_self, true_and, and_true, false_and, and_false, not_true_eq_false, not_false_eq_true, false_or, or_false])
    have z1 : ((1048576 : Int32) = 0) = False := eq_false (by decide)
    obtain ⟨i1, i2⟩ := ih (k + 1) (by omega)
    have step : xv_ev ro d xm_Mo_hasOpenSum xb_Mo_hasOpenSum_2 [some (.ref 167), some (.int x1), some (.int (nI k))] [] (z, xv_mk M J) = if l_at W k = 14 then some (some (.int 1), (z, xv_mk M J)) else xv_ev ro d xm_Mo_hasOpenSum xb_Mo_hasOpenSum_2 [some (.ref 167), some (.int x1), some (.int (nI (k + 1)))] [] (z, xv_mk M J) := by
      conv => lhs; unfold xb_Mo_hasOpenSum_2
      by_cases c14 : l_at W k = 14
      · have g14 : (nI (l_at W k) = 14) = True := by (simp (disch := omega) only [vz_all, if_true, if_false, true_or, or_true, eq_self, ite_not, Bool.false_eq_true, ite_self, and_self, true_and, and_true, false_and, and_false, not_true_eq_false, not_false_eq_true, false_or, or_false])
        rw [if_pos c14]
        simp only [xr_all, xf_all, if_true, if_false, true_or, or_true, eq_self, ite_not, Bool.false_eq_true, ite_self, and_self, true_and, and_true, false_and, and_false, not_true_eq_false, not_false_eq_true, xj_Mo_hasOpenSum, xb_Mo_hasOpenSum_0, xb_Mo_hasOpenSum_26, xb_Mo_hasOpenSum_32, h4, g, g1, nI_clamp (show k < 2 ^ 31 by omega), q1, u1, z1, g14]
      · have g14 : (nI (l_at W k) = 14) = False := by (simp (disch := omega) only [vz_all, if_true, if_false, true_or, or_true, eq_self, ite_not, Bool.false_eq_true, ite_self, and_self, true_and, and_true, false_and, and_false, not_true_eq_false, not_false_eq_true, false_or, or_false])
        rw [if_neg c14]
        simp only [xr_all, xf_all, if_true, if_false, true_or, or_true, eq_self, ite_not, Bool.false_eq_true, ite_self, and_self, true_and, and_true, false_and, and_false, not_true_eq_false, not_false_eq_true, xj_Mo_hasOpenSum, xb_Mo_hasOpenSum_0, xb_Mo_hasOpenSum_26, xb_Mo_hasOpenSum_32, h4, g, g1, nI_clamp (show k < 2 ^ 31 by omega), q1, u1, z1, g14, nI_1]
    refine ⟨fun ⟨k0, r1, r2, r3⟩ => ?_, fun r => ?_⟩
    · rw [step]
      by_cases c14 : l_at W k = 14
      · rw [if_pos c14]
      · rw [if_neg c14]
        refine i1 ⟨k0, ?_, r2, r3⟩
        rcases Nat.lt_or_eq_of_le r1 with q | q
        · exact q
        · rw [q] at c14; exact absurd r3 c14
    · rw [step, if_neg (r k (Nat.le_refl _) (by omega))]
      exact i2 (fun k0 r1 r2 => r k0 (by omega) r2)
theorem xq_hasOpen (ro : xv_Ro) (d : Nat) (z : Nat × Nat) (M : Nat → Nat → Int32) (J : Nat → Nat → Int64) {b : Nat → Nat} {n p c bs : Nat} {W : List (Nat × Nat)} (h : l_s M b n p W c) (hbs : bs ≤ W.length) : ((∃ k0, bs ≤ k0 ∧ k0 < W.length ∧ l_at W k0 = 14) → xv_evm ro d 68 [.ref 167, .int (nI bs)] (z, xv_mk M J) = some (some (.int 1), (z, xv_mk M J))) ∧ ((∀ k0, bs ≤ k0 → k0 < W.length → l_at W k0 ≠ 14) → xv_evm ro d 68 [.ref 167, .int (nI bs)] (z, xv_mk M J) = some (some (.int 0), (z, xv_mk M J))) := by
  obtain ⟨i1, i2⟩ := l_ho_lp ro d z M J (nI bs) h (W.length - bs) bs (by omega)
  refine ⟨fun q => ?_, fun q => ?_⟩
  · rw [← i1 q, xe_Mo_hasOpenSum]
    simp only [xr_all, xf_all, if_true, if_false, true_or, or_true, eq_self, ite_not, Bool.false_eq_true, ite_self, and_self, true_and, and_true, false_and, and_false, not_true_eq_false, not_false_eq_true, xj_Mo_hasOpenSum, xb_Mo_hasOpenSum_0, xb_Mo_hasOpenSum_26, xb_Mo_hasOpenSum_32]
  · rw [← i2 q, xe_Mo_hasOpenSum]
    simp only [xr_all, xf_all, if_true, if_false, true_or, or_true, eq_self, ite_not, Bool.false_eq_true, ite_self, and_self, true_and, and_true, false_and, and_false, not_true_eq_false, not_false_eq_true, xj_Mo_hasOpenSum, xb_Mo_hasOpenSum_0, xb_Mo_hasOpenSum_26, xb_Mo_hasOpenSum_32]
theorem xq_ends (ro : xv_Ro) (d : Nat) (z : Nat × Nat) (J : Nat → Nat → Int64) {b : Nat → Nat} {n p c0 : Nat} : ∀ (W : List (Nat × Nat)) (D : l_D) (c : Nat) (M : Nat → Nat → Int32), l_s M b n p W c → l_mS (M 174) c0 c D → ∃ (V : Nat → Nat → Int32) (c' : Nat), xv_evm ro (d + 1) 70 [.ref 167] (z, xv_mk M J) = some (none, (z, xv_mk V J)) ∧ l_s V b n p (l_E W D).1 c' ∧ l_mS (V 174) c0 c' (l_E W D).2 ∧ c ≤ c' ∧ (∀ j, j < c → V 174 j = M 174 j) ∧ l_g M V := by
  intro W
  induction W with
  | nil =>
    intro D c M h hD
    have hs := xq_waitTop ro d z M J h
    dsimp only at hs
    have g1 : ((-1 : Int32) = 10) = False := eq_false (by decide)
    refine ⟨M, c, ?_, h, hD, Nat.le_refl _, fun _ _ => rfl, l_gr M⟩
    rw [xe_Mo_endsPiece]
    simp only [xr_all, xf_all, if_true, if_false, true_or, or_true, eq_self, ite_not, Bool.false_eq_true, ite_self, and_self, true_and, and_true, false_and, and_false, not_true_eq_false, not_false_eq_true, xj_Mo_endsPiece, xb_Mo_endsPiece_0, xb_Mo_endsPiece_39, hs, g1]
  | cons a W ih =>
    obtain ⟨o, v⟩ := a
    intro D c M h hD
    have hs := xq_waitTop ro d z M J h
    dsimp only at hs
    obtain ⟨h0, h1, h2, h3, h4, h5, h6, h7⟩ := id h
    have o14 : o ≤ 14 := h5.2.1
    by_cases ho : o = 10
    · subst ho
      have eE : l_E ((10, v) :: W) D = l_E W (l_not D) := by
        conv => lhs; unfold l_E
        rw [if_pos rfl]
      rw [eE]
      have h6' : c + (1 + l_pc W) + b 1000 ≤ p := by
        have : c + ((if 10 = 11 ∨ 10 = 12 then 0 else 1) + l_pc W) + b 1000 ≤ p := h6
        rw [if_neg (by omega)] at this; exact this
      have h7' : W.length + 1 ≤ p := h7
      have hpn := h1.2.1
      have h4' : M 167 14 = nI (W.length + 1) := h4
      have h2' : M 167 12 = nI (l_oc W + 1) := by
        have : M 167 12 = nI ((if 10 = 10 ∨ 10 = 13 ∨ 10 = 14 then 1 else 0) + l_oc W) := h2
        rw [if_pos (by omega), Nat.add_comm] at this; exact this
      obtain ⟨w1, w2, w3⟩ := h5
      have w3' : v = 0 ∧ l_W (M 174) (M 175) W c := by
        rcases w3 with ⟨q, -⟩ | ⟨-, q1, q2⟩
        · omega
        · exact ⟨q1, q2⟩
      have hnt := xq_notes ro d z M J (o := 10) (v := 0) h3 (by omega)
      rw [show nI 0 = (0 : Int32) from rfl, show nI 10 = (10 : Int32) from rfl] at hnt
      have r1 : ∀ y y2, xv_u2 (xv_u2 M 174 c y) 167 13 y2 167 14 = nI (W.length + 1) := fun y y2 => by rw [xu_ne2 (by omega), xu_ne (by omega)]; exact h4'
      have r2 : ∀ y y2 y3, xv_u2 (xv_u2 (xv_u2 M 174 c y) 167 13 y2) 167 14 y3 167 12 = nI (l_oc W + 1) := fun y y2 y3 => by rw [xu_ne2 (by omega), xu_ne2 (by omega), xu_ne (by omega)]; exact h2'
      have hq : l_s (xv_u2 (xv_u2 (xv_u2 (xv_u2 M 174 c (nI (1048576 * 10 + 0))) 167 13 (nI (c + 1))) 167 14 (nI W.length)) 167 12 (nI (l_oc W))) b n p W (c + 1) := ⟨h0, tp_Mc h1 (by (repeat (first | rw [xu_ne2 (by omega)] | rw [xu_ne (by omega)] | rw [xu_eq]))) (by (repeat (first | rw [xu_ne2 (by omega)] | rw [xu_ne (by omega)] | rw [xu_eq]))) (by (repeat (first | rw [xu_ne2 (by omega)] | rw [xu_ne (by omega)] | rw [xu_eq]))), xu_eq, by (repeat (first | rw [xu_ne2 (by omega)] | rw [xu_ne (by omega)] | rw [xu_eq])), by (repeat (first | rw [xu_ne2 (by omega)] | rw [xu_ne (by omega)] | rw [xu_eq])), l_W_c W c (c + 1) w3'.2 (Nat.le_succ _) (fun i hi => by (repeat (first | rw [xu_ne2 (by omega)] | rw [xu_ne (by omega)] | rw [xu_eq]))) (fun i hi => by (repeat (first | rw [xu_ne2 (by omega)] | rw [xu_ne (by omega)] | rw [xu_eq]))), by omega, by omega⟩
      have hK : ∀ j, j < c → xv_u2 (xv_u2 (xv_u2 (xv_u2 M 174 c (nI (1048576 * 10 + 0))) 167 13 (nI (c + 1))) 167 14 (nI W.length)) 167 12 (nI (l_oc W)) 174 j = M 174 j := fun j hj => by (repeat (first | rw [xu_ne2 (by omega)] | rw [xu_ne (by omega)] | rw [xu_eq]))
      have hKc : xv_u2 (xv_u2 (xv_u2 (xv_u2 M 174 c (nI (1048576 * 10 + 0))) 167 13 (nI (c + 1))) 167 14 (nI W.length)) 167 12 (nI (l_oc W)) 174 c = nI (1048576 * 10 + 0) := by (repeat (first | rw [xu_ne2 (by omega)] | rw [xu_ne (by omega)] | rw [xu_eq]))
      obtain ⟨V, c', k1, k2, k3, k4, k5, k6⟩ := ih (l_not D) (c + 1) _ hq (l_m_not (l_mS_c hD (fun i _ q => hK i q)) hKc)
      refine ⟨V, c', ?_, k2, k3, by omega, fun j q => by rw [k5 j (by omega), hK j q], l_gt ⟨fun a q1 q2 q3 => by (repeat (first | rw [xu_ne2 (by omega)] | rw [xu_ne (by omega)] | rw [xu_eq])), fun j q1 q2 q3 q4 q5 q6 => by (repeat (first | rw [xu_ne2 (by omega)] | rw [xu_ne (by omega)] | rw [xu_eq]))⟩ k6⟩
      rw [← k1]
      have g1 : (nI 10 = 10) = True := eq_true rfl
      conv => lhs; rw [xe_Mo_endsPiece]
      rw [xe_Mo_endsPiece]
      conv => lhs; unfold xb_Mo_endsPiece_0
      simp only [xr_all, xf_all, if_true, if_false, true_or, or_true, eq_self, ite_not, Bool.false_eq_true, ite_self, and_self, true_and, and_true, false_and, and_false, not_true_eq_false, not_false_eq_true, xj_Mo_endsPiece, xb_Mo_endsPiece_39, hs, g1, hnt, r1, r2, nI_pred]
    · have eE : l_E ((o, v) :: W) D = ((o, v) :: W, D) := by
        conv => lhs; unfold l_E
        rw [if_neg ho]
      rw [eE]
      have g1 : (nI o = 10) = False := by (simp (disch := omega) only [vz_all, if_true, if_false, true_or, or_true, eq_self, ite_not, Bool.false_eq_true, ite_self, and_self, true_and, and_true, false_and, and_false, not_true_eq_false, not_false_eq_true, false_or, or_false])
      refine ⟨M, c, ?_, h, hD, Nat.le_refl _, fun _ _ => rfl, l_gr M⟩
      rw [xe_Mo_endsPiece]
      simp only [xr_all, xf_all, if_true, if_false, true_or, or_true, eq_self, ite_not, Bool.false_eq_true, ite_self, and_self, true_and, and_true, false_and, and_false, not_true_eq_false, not_false_eq_true, xj_Mo_endsPiece, xb_Mo_endsPiece_0, xb_Mo_endsPiece_39, hs, g1]
/-- what waits in a condition -/
def l_CT (K : Nat → Int32) : List (Nat × Nat) → List (l_D × Nat) → Nat → Prop
  | [], _, _ => True
  | (o, v) :: W, T, c => if o = 11 ∨ o = 12 then (match T with
    | (A, s) :: T' => v + 1 = c ∧ l_mS K s v A ∧ l_CT K W T' s
    | [] => False) else l_CT K W T c
def l_Ln (al : Bool) : List (Nat × Nat) → List (l_D × Nat) → l_D → Nat → Option (List (Nat × Nat) × List (l_D × Nat) × l_D × Nat)
  | [], T, D, s => some ([], T, D, s)
  | (o, v) :: W, T, D, s => if l_ld al o = true then (match T with
    | (A, s') :: T' => l_Ln al W T' (if o = 11 then l_and A D else l_or A D) s'
    | [] => none) else some ((o, v) :: W, T, D, s)
theorem l_CT_c {K K' : Nat → Int32} : ∀ (W : List (Nat × Nat)) (T : List (l_D × Nat)) (c : Nat), l_CT K W T c → (∀ i, i < c → K' i = K i) → l_CT K' W T c := by
  intro W
  induction W with
  | nil => intro T c _ _; exact trivial
  | cons a W ih =>
    obtain ⟨o, v⟩ := a
    intro T c h hK
    unfold l_CT at h ⊢
    by_cases q : o = 11 ∨ o = 12
    · rw [if_pos q] at h ⊢
      match T, h with
      | [], h => exact h
      | (A, s) :: T', h =>
        obtain ⟨h1, h2, h3⟩ := h
        have := h2.1
        exact ⟨h1, l_mS_c h2 (fun i _ q => hK i (by omega)), ih T' s h3 (fun i hi => hK i (by omega))⟩
    · rw [if_neg q] at h ⊢
      exact ih T c h hK
theorem l_ld_t {al : Bool} {o : Nat} (h : l_ld al o = true) : o = 11 ∨ (al = true ∧ o = 12) := by
  unfold l_ld at h
  simp at h
  exact h
theorem l_ld_f {al : Bool} {o : Nat} (h : l_ld al o = false) : o ≠ 11 ∧ (al = false ∨ o ≠ 12) := by
  unfold l_ld at h
  cases al with
  | false => simp at h; exact ⟨h, Or.inl rfl⟩
  | true => simp at h; exact ⟨h.1, Or.inr h.2⟩
theorem l_lands (ro : xv_Ro) (d : Nat) (z : Nat × Nat) (J : Nat → Nat → Int64) {b : Nat → Nat} {n p c : Nat} (al : Bool) {ai : Int32} (hai : ai = if al = true then 1 else 0) : ∀ (W : List (Nat × Nat)) (T : List (l_D × Nat)) (D : l_D) (s : Nat) (W' : List (Nat × Nat)) (T' : List (l_D × Nat)) (D' : l_D) (s' : Nat) (M : Nat → Nat → Int32) (x2 : Option Value), l_s M b n p W c → l_CT (M 174) W T s → l_mS (M 174) s c D → l_Ln al W T D s = some (W', T', D', s') → ∃ V : Nat → Nat → Int32, xv_ev ro (d + 1) xm_Mo_lands xb_Mo_lands_0 [some (.ref 167), some (.int ai), x2] [] (z, xv_mk M J) = some (none, (z, xv_mk V J)) ∧ l_s V b n p W' c ∧ l_CT (V 174) W' T' s' ∧ l_mS (V 174) s' c D' ∧ s' ≤ s ∧ (∀ j, j < s' → V 174 j = M 174 j) ∧ l_g M V := by
  intro W
  induction W with
  | nil =>
    intro T D s W' T' D' s' M x2 h hT hD hj
    cases hj
    have hs := xq_waitTop ro d z M J h
    dsimp only at hs
    have g1 : ((-1 : Int32) = 11) = False := eq_false (by decide)
    have g2 : ((-1 : Int32) = 12) = False := eq_false (by decide)
    have z1 : ((1 : Int32) = 0) = False := eq_false (by decide)
    refine ⟨M, ?_, h, hT, hD, Nat.le_refl _, fun _ _ => rfl, l_gr M⟩
    conv => lhs; unfold xb_Mo_lands_0
    cases al with
    | true =>
      rw [if_pos rfl] at hai; subst hai
      simp only [xr_all, xf_all, if_true, if_false, true_or, or_true, eq_self, ite_not, Bool.false_eq_true, ite_self, and_self, true_and, and_true, false_and, and_false, not_true_eq_false, not_false_eq_true, xj_Mo_lands, xb_Mo_lands_22, xb_Mo_lands_73, hs, g1, g2, z1]
    | false =>
      rw [if_neg (by decide)] at hai; subst hai
      simp only [xr_all, xf_all, if_true, if_false, true_or, or_true, eq_self, ite_not, Bool.false_eq_true, ite_self, and_self, true_and, and_true, false_and, and_false, not_true_eq_false, not_false_eq_true, xj_Mo_lands, xb_Mo_lands_22, xb_Mo_lands_73, hs, g1]
  | cons a W ih =>
    obtain ⟨o, v⟩ := a
    intro T D s W' T' D' s' M x2 h hT hD hj
    have hs := xq_waitTop ro d z M J h
    dsimp only at hs
    have z1 : ((1 : Int32) = 0) = False := eq_false (by decide)
    obtain ⟨h0, h1, h2, h3, h4, h5, h6, h7⟩ := id h
    have o14 : o ≤ 14 := h5.2.1
    unfold l_Ln at hj
    cases hpp : l_ld al o with
    | true =>
      have o3 := l_ld_t hpp
      have oj : o = 11 ∨ o = 12 := by omega
      rw [if_pos hpp] at hj
      unfold l_CT at hT
      rw [if_pos oj] at hT
      match T, hT, hj with
      | [], hT, _ => exact absurd hT (fun q => q)
      | (A, s1) :: T, hT, hj =>
        dsimp only at hj hT
        obtain ⟨t1, t2, t3⟩ := hT
        have h6' : c + l_pc W + b 1000 ≤ p := by
          have : c + ((if o = 11 ∨ o = 12 then 0 else 1) + l_pc W) + b 1000 ≤ p := h6
          rw [if_pos oj] at this; omega
        have h7' : W.length + 1 ≤ p := h7
        have hpn := h1.2.1
        have h4' : M 167 14 = nI (W.length + 1) := h4
        obtain ⟨w1, w2, w3⟩ := h5
        have w3' : v < c ∧ M 174 v = nI (1048576 * o + 0) ∧ l_W (M 174) (M 175) W v := by
          rcases w3 with ⟨-, q1, q2, q3⟩ | ⟨q, -⟩
          · exact ⟨q1, q2, q3⟩
          · exact absurd oj q
        obtain ⟨v1, v2, v3⟩ := w3'
        have hoc : l_oc ((o, v) :: W) = l_oc W := by
          show (if o = 10 ∨ o = 13 ∨ o = 14 then 1 else 0) + l_oc W = _
          rw [if_neg (by omega), Nat.zero_add]
        obtain ⟨u1, u2⟩ := l_U (w := o) (v := v) o14 (by omega)
        obtain ⟨u3, u4⟩ := l_U (w := o) (v := 0) o14 (by omega)
        have g1 : xv_inB (nI W.length) 260 = true := by (simp (disch := omega) only [vz_all, if_true, if_false, true_or, or_true, eq_self, ite_not, Bool.false_eq_true, ite_self, and_self, true_and, and_true, false_and, and_false, not_true_eq_false, not_false_eq_true, false_or, or_false])
        have g2 : xv_inB (nI v) 260 = true := by (simp (disch := omega) only [vz_all, if_true, if_false, true_or, or_true, eq_self, ite_not, Bool.false_eq_true, ite_self, and_self, true_and, and_true, false_and, and_false, not_true_eq_false, not_false_eq_true, false_or, or_false])
        have zU : ((1048576 : Int32) = 0) = False := eq_false (by decide)
        have e1 : 1048576 * nI o + nI c = nI (1048576 * o + c) := by rw [show (1048576 : Int32) = nI 1048576 from rfl, pk_mul, nI_add]
        have hq : l_s (xv_u2 (xv_u2 M 174 v (nI (1048576 * o + c))) 167 14 (nI W.length)) b n p W c := ⟨h0, tp_Mc h1 (by (repeat (first | rw [xu_ne2 (by omega)] | rw [xu_ne (by omega)] | rw [xu_eq]))) (by (repeat (first | rw [xu_ne2 (by omega)] | rw [xu_ne (by omega)] | rw [xu_eq]))) (by (repeat (first | rw [xu_ne2 (by omega)] | rw [xu_ne (by omega)] | rw [xu_eq]))), by rw [← hoc]; (repeat (first | rw [xu_ne2 (by omega)] | rw [xu_ne (by omega)] | rw [xu_eq])); exact h2, by (repeat (first | rw [xu_ne2 (by omega)] | rw [xu_ne (by omega)] | rw [xu_eq])); exact h3, xu_eq, l_W_c W v c v3 (by omega) (fun i hi => by (repeat (first | rw [xu_ne2 (by omega)] | rw [xu_ne (by omega)] | rw [xu_eq]))) (fun i hi => by (repeat (first | rw [xu_ne2 (by omega)] | rw [xu_ne (by omega)] | rw [xu_eq]))), h6', by omega⟩
        have hK : ∀ j, j ≠ v → xv_u2 (xv_u2 M 174 v (nI (1048576 * o + c))) 167 14 (nI W.length) 174 j = M 174 j := fun j hj => by (repeat (first | rw [xu_ne2 (by omega)] | rw [xu_ne (by omega)] | rw [xu_eq]))
        have hKc : xv_u2 (xv_u2 M 174 v (nI (1048576 * o + c))) 167 14 (nI W.length) 174 v = nI (1048576 * o + c) := by (repeat (first | rw [xu_ne2 (by omega)] | rw [xu_ne (by omega)] | rw [xu_eq]))
        have s11 := t2.1
        subst t1
        have hj2 := l_m_jump (w := o) (l_mS_c t2 (fun i _ q => hK i (by omega))) (l_mS_c hD (fun i q _ => hK i (by omega))) oj (by omega) hKc
        obtain ⟨V, k1, k2, k3, k4, k5, k6, k7⟩ := ih T _ s1 W' T' D' s' _ (some (.int (nI v))) hq (l_CT_c W T s1 t3 (fun i hi => hK i (by omega))) hj2 hj
        refine ⟨V, ?_, k2, k3, k4, by omega, fun j q => by rw [k6 j q, hK j (by omega)], l_gt ⟨fun a q1 q2 q3 => by (repeat (first | rw [xu_ne2 (by omega)] | rw [xu_ne (by omega)] | rw [xu_eq])), fun j q1 q2 q3 q4 q5 q6 => by (repeat (first | rw [xu_ne2 (by omega)] | rw [xu_ne (by omega)] | rw [xu_eq]))⟩ k7⟩
        rw [← k1]
        have r1 : ∀ y, xv_u2 M 174 v y 167 14 = nI (W.length + 1) := fun y => by rw [xu_ne (by omega)]; exact h4'
        conv => lhs; unfold xb_Mo_lands_0
        rcases o3 with o3 | ⟨rfl, o3⟩
        · have g3 : (nI o = 11) = True := by (simp (disch := omega) only [vz_all, if_true, if_false, true_or, or_true, eq_self, ite_not, Bool.false_eq_true, ite_self, and_self, true_and, and_true, false_and, and_false, not_true_eq_false, not_false_eq_true, false_or, or_false])
          simp only [xr_all, xf_all, if_true, if_false, true_or, or_true, eq_self, ite_not, Bool.false_eq_true, ite_self, and_self, true_and, and_true, false_and, and_false, not_true_eq_false, not_false_eq_true, xj_Mo_lands, xb_Mo_lands_22, xb_Mo_lands_73, hs, g3, h4', nI_pred, g1, nI_clamp (show W.length < 2 ^ 31 by omega), w1, u2, u1, zU, g2, nI_clamp (show v < 2 ^ 31 by omega), v2, u3, h3, e1, r1]
        · rw [if_pos rfl] at hai; subst hai
          have g3 : (nI o = 11) = False := by (simp (disch := omega) only [vz_all, if_true, if_false, true_or, or_true, eq_self, ite_not, Bool.false_eq_true, ite_self, and_self, true_and, and_true, false_and, and_false, not_true_eq_false, not_false_eq_true, false_or, or_false])
          have g4 : (nI o = 12) = True := by (simp (disch := omega) only [vz_all, if_true, if_false, true_or, or_true, eq_self, ite_not, Bool.false_eq_true, ite_self, and_self, true_and, and_true, false_and, and_false, not_true_eq_false, not_false_eq_true, false_or, or_false])
          simp only [xr_all, xf_all, if_true, if_false, true_or, or_true, eq_self, ite_not, Bool.false_eq_true, ite_self, and_self, true_and, and_true, false_and, and_false, not_true_eq_false, not_false_eq_true, xj_Mo_lands, xb_Mo_lands_22, xb_Mo_lands_73, hs, g3, g4, z1, h4', nI_pred, g1, nI_clamp (show W.length < 2 ^ 31 by omega), w1, u2, u1, zU, g2, nI_clamp (show v < 2 ^ 31 by omega), v2, u3, h3, e1, r1]
    | false =>
      rw [if_neg (by rw [hpp]; decide)] at hj
      cases hj
      obtain ⟨o1, o2⟩ := l_ld_f hpp
      refine ⟨M, ?_, h, hT, hD, Nat.le_refl _, fun _ _ => rfl, l_gr M⟩
      have g3 : (nI o = 11) = False := by (simp (disch := omega) only [vz_all, if_true, if_false, true_or, or_true, eq_self, ite_not, Bool.false_eq_true, ite_self, and_self, true_and, and_true, false_and, and_false, not_true_eq_false, not_false_eq_true, false_or, or_false])
      conv => lhs; unfold xb_Mo_lands_0
      cases al with
      | false =>
        rw [if_neg (by decide)] at hai; subst hai
        simp only [xr_all, xf_all, if_true, if_false, true_or, or_true, eq_self, ite_not, Bool.false_eq_true, ite_self, and_self, true_and, and_true, false_and, and_false, not_true_eq_false, not_false_eq_true, xj_Mo_lands, xb_Mo_lands_22, xb_Mo_lands_73, hs, g3]
      | true =>
        rw [if_pos rfl] at hai; subst hai
        have o2' : o ≠ 12 := by
          rcases o2 with q | q
          · cases q
          · exact q
        have g4 : (nI o = 12) = False := by (simp (disch := omega) only [vz_all, if_true, if_false, true_or, or_true, eq_self, ite_not, Bool.false_eq_true, ite_self, and_self, true_and, and_true, false_and, and_false, not_true_eq_false, not_false_eq_true, false_or, or_false])
        simp only [xr_all, xf_all, if_true, if_false, true_or, or_true, eq_self, ite_not, Bool.false_eq_true, ite_self, and_self, true_and, and_true, false_and, and_false, not_true_eq_false, not_false_eq_true, xj_Mo_lands, xb_Mo_lands_22, xb_Mo_lands_73, hs, g3, g4, z1]
theorem xq_lands (ro : xv_Ro) (d : Nat) (z : Nat × Nat) (J : Nat → Nat → Int64) {b : Nat → Nat} {n p c : Nat} (al : Bool) {ai : Int32} (hai : ai = if al = true then 1 else 0) (W : List (Nat × Nat)) (T : List (l_D × Nat)) (D : l_D) (s : Nat) (W' : List (Nat × Nat)) (T' : List (l_D × Nat)) (D' : l_D) (s' : Nat) (M : Nat → Nat → Int32) (h : l_s M b n p W c) (hT : l_CT (M 174) W T s) (hD : l_mS (M 174) s c D) (hj : l_Ln al W T D s = some (W', T', D', s')) : ∃ V : Nat → Nat → Int32, xv_evm ro (d + 1) 71 [.ref 167, .int ai] (z, xv_mk M J) = some (none, (z, xv_mk V J)) ∧ l_s V b n p W' c ∧ l_CT (V 174) W' T' s' ∧ l_mS (V 174) s' c D' ∧ s' ≤ s ∧ (∀ j, j < s' → V 174 j = M 174 j) ∧ l_g M V := by
  rw [xe_Mo_lands]
  exact l_lands ro d z J al hai W T D s W' T' D' s' M none h hT hD hj
theorem xq_jumps (ro : xv_Ro) (d : Nat) (z : Nat × Nat) (M : Nat → Nat → Int32) (J : Nat → Nat → Int64) {b : Nat → Nat} {n p c o s : Nat} {W : List (Nat × Nat)} {T : List (l_D × Nat)} {D : l_D} (h : l_s M b n p W c) (hp : p < n) (ho : o = 11 ∨ o = 12) (hT : l_CT (M 174) W T s) (hD : l_mS (M 174) s c D) : ∃ V, xv_evm ro (d + 1) 72 [.ref 167, .int (nI o)] (z, xv_mk M J) = some (none, (z, xv_mk V J)) ∧ l_s V b n (p + 1) ((o, c) :: W) (c + 1) ∧ l_CT (V 174) ((o, c) :: W) ((D, s) :: T) (c + 1) ∧ (∀ j, j < c → V 174 j = M 174 j) ∧ l_g M V := by
  obtain ⟨h0, h1, h2, h3, h4, h5, h6, h7⟩ := h
  have hpn := h1.2.1
  have g1 : xv_inB (nI W.length) 260 = true := by (simp (disch := omega) only [vz_all, if_true, if_false, true_or, or_true, eq_self, ite_not, Bool.false_eq_true, ite_self, and_self, true_and, and_true, false_and, and_false, not_true_eq_false, not_false_eq_true, false_or, or_false])
  have e1 : 1048576 * nI o + nI c = nI (1048576 * o + c) := by rw [show (1048576 : Int32) = nI 1048576 from rfl, pk_mul, nI_add]
  have hp8 := h1.2.2.2.1
  have r1 : ∀ y, xv_u2 M 175 W.length y 167 14 = nI W.length := fun y => by rw [xu_ne (by omega)]; exact h4
  have r3 : xv_u2 (xv_u2 M 175 W.length (nI (1048576 * o + c))) 167 14 (nI (W.length + 1)) 167 13 = nI c := by rw [xu_ne2 (by omega), xu_ne (by omega)]; exact h3
  have hnt := xq_notes ro d z _ J (o := o) (v := 0) r3 (by omega)
  rw [show nI 0 = (0 : Int32) from rfl] at hnt
  have r4 : ∀ y y2, xv_u2 (xv_u2 (xv_u2 (xv_u2 M 175 W.length (nI (1048576 * o + c))) 167 14 (nI (W.length + 1))) 174 c y) 167 13 y2 167 8 = nI p := fun y y2 => by rw [xu_ne2 (by omega), xu_ne (by omega), xu_ne2 (by omega), xu_ne (by omega)]; exact hp8
  have hK : ∀ j, j < c → xv_u2 (xv_u2 (xv_u2 (xv_u2 (xv_u2 M 175 W.length (nI (1048576 * o + c))) 167 14 (nI (W.length + 1))) 174 c (nI (1048576 * o + 0))) 167 13 (nI (c + 1))) 167 8 (nI (p + 1)) 174 j = M 174 j := fun j hj => by (repeat (first | rw [xu_ne2 (by omega)] | rw [xu_ne (by omega)] | rw [xu_eq]))
  have hKc : xv_u2 (xv_u2 (xv_u2 (xv_u2 (xv_u2 M 175 W.length (nI (1048576 * o + c))) 167 14 (nI (W.length + 1))) 174 c (nI (1048576 * o + 0))) 167 13 (nI (c + 1))) 167 8 (nI (p + 1)) 174 c = nI (1048576 * o + 0) := by (repeat (first | rw [xu_ne2 (by omega)] | rw [xu_ne (by omega)] | rw [xu_eq]))
  have hR : ∀ j, j < W.length → xv_u2 (xv_u2 (xv_u2 (xv_u2 (xv_u2 M 175 W.length (nI (1048576 * o + c))) 167 14 (nI (W.length + 1))) 174 c (nI (1048576 * o + 0))) 167 13 (nI (c + 1))) 167 8 (nI (p + 1)) 175 j = M 175 j := fun j hj => by (repeat (first | rw [xu_ne2 (by omega)] | rw [xu_ne (by omega)] | rw [xu_eq]))
  have d1 := hD.1
  refine ⟨xv_u2 (xv_u2 (xv_u2 (xv_u2 (xv_u2 M 175 W.length (nI (1048576 * o + c))) 167 14 (nI (W.length + 1))) 174 c (nI (1048576 * o + 0))) 167 13 (nI (c + 1))) 167 8 (nI (p + 1)), ?_, ⟨h0, tp_Ms (tp_Mc h1 (by (repeat (first | rw [xu_ne2 (by omega)] | rw [xu_ne (by omega)] | rw [xu_eq]))) (by (repeat (first | rw [xu_ne2 (by omega)] | rw [xu_ne (by omega)] | rw [xu_eq]))) (by (repeat (first | rw [xu_ne2 (by omega)] | rw [xu_ne (by omega)] | rw [xu_eq])))) hp, ?_, by (repeat (first | rw [xu_ne2 (by omega)] | rw [xu_ne (by omega)] | rw [xu_eq])), by (repeat (first | rw [xu_ne2 (by omega)] | rw [xu_ne (by omega)] | rw [xu_eq])); rfl, ⟨by (repeat (first | rw [xu_ne2 (by omega)] | rw [xu_ne (by omega)] | rw [xu_eq])), by omega, Or.inl ⟨ho, by omega, hKc, l_W_c W c c h5 (Nat.le_refl _) hK hR⟩⟩, ?_, by show W.length + 1 ≤ p + 1; omega⟩, ?_, hK, fun a q1 q2 q3 => by (repeat (first | rw [xu_ne2 (by omega)] | rw [xu_ne (by omega)] | rw [xu_eq])), fun j q1 q2 q3 q4 q5 q6 => by (repeat (first | rw [xu_ne2 (by omega)] | rw [xu_ne (by omega)] | rw [xu_eq]))⟩
  · rw [xe_Mo_jumps]
    simp only [xr_all, xf_all, if_true, if_false, true_or, or_true, eq_self, ite_not, Bool.false_eq_true, ite_self, and_self, true_and, and_true, false_and, and_false, not_true_eq_false, not_false_eq_true, xj_Mo_jumps, xb_Mo_jumps_0, h4, g1, nI_clamp (show W.length < 2 ^ 31 by omega), h3, e1, r1, nI_1, hnt, r4]
  · rw [xu_ne2 (by omega), xu_ne2 (by omega), xu_ne (by omega), xu_ne2 (by omega), xu_ne (by omega)]
    show M 167 12 = nI ((if o = 10 ∨ o = 13 ∨ o = 14 then 1 else 0) + l_oc W)
    rw [if_neg (by omega), Nat.zero_add]
    exact h2
  · show c + 1 + ((if o = 11 ∨ o = 12 then 0 else 1) + l_pc W) + b 1000 ≤ p + 1
    rw [if_pos ho]; omega
  · unfold l_CT
    rw [if_pos ho]
    exact ⟨rfl, l_mS_c hD (fun i _ q => hK i q), l_CT_c W T s hT (fun i hi => hK i (by omega))⟩
