/-! transcript: a line, both -/
abbrev tl_S : Type := (Nat × Nat) ⊕ (Nat × Nat × Nat × Nat × Nat)
theorem tp_Mq {b : Nat → Nat} {n p q : Nat} {I : Nat → Nat → Int32} (h : tp_M b n p I) (hq : q ≤ n) : tp_M b n q (xv_u2 I 167 8 (nI q)) := by
  obtain ⟨h1, h2, h3, h4, h5⟩ := h
  exact ⟨h1, hq, by (repeat (first | rw [xu_ne2 (by omega)] | rw [xu_ne (by omega)] | rw [xu_eq])); exact h3, xu_eq, fun j hj => by (repeat (first | rw [xu_ne2 (by omega)] | rw [xu_ne (by omega)] | rw [xu_eq])); exact h5 j hj⟩
theorem tp_Cq {b : Nat → Nat} {n p q : Nat} {I : Nat → Nat → Int32} (h : tp_C b n p I) (hq : q ≤ n) : tp_C b n q (xv_u2 I 1 3 (nI q)) := by
  obtain ⟨h1, h2, h3, h4, h5, h6⟩ := h
  exact ⟨h1, hq, by (repeat (first | rw [xu_ne2 (by omega)] | rw [xu_ne (by omega)] | rw [xu_eq])); exact h3, xu_eq, by (repeat (first | rw [xu_ne2 (by omega)] | rw [xu_ne (by omega)] | rw [xu_eq])); exact h5, fun j hj => by (repeat (first | rw [xu_ne2 (by omega)] | rw [xu_ne (by omega)] | rw [xu_eq])); exact h6 j hj⟩
theorem tl_sub {b : Nat → Nat} {n p : Nat} (lo m : Nat) (hm : 1 ≤ m) (hlo : lo + m ≤ 200) (hb : p < n → b p < 256) (h : ¬ (p < n ∧ lo ≤ b p ∧ b p < lo + m)) : (¬ ∃ j : Nat, j ≤ m - 1 ∧ tp_c b n p - nI lo = nI j) ∧ ((tp_c b n p - nI lo < 0) = True ∨ ((tp_c b n p - nI lo < 0) = False ∧ (tp_c b n p - nI lo < nI m) = False)) ∧ (0 ≤ tp_c b n p - nI lo ∧ tp_c b n p - nI lo ≤ nI (m - 1)) = False := by
  have hx : (tp_c b n p - nI lo).toInt = (if p < n then (b p : Int) else -1) - lo := by
    have e1 : (-1 : Int32).toInt = -1 := by decide
    have e2 : (tp_c b n p).toInt = if p < n then (b p : Int) else -1 := by
      unfold tp_c
      by_cases c : p < n
      · have := hb c
        rw [if_pos c, if_pos c, nI_toInt (by omega)]
      · rw [if_neg c, if_neg c, e1]
    rw [Int32.toInt_sub, e2, nI_toInt (by omega)]
    by_cases c : p < n
    · have := hb c
      rw [if_pos c]
      exact Int.bmod_eq_of_le (by omega) (by omega)
    · rw [if_neg c]
      exact Int.bmod_eq_of_le (by omega) (by omega)
  have hout : (tp_c b n p - nI lo).toInt < 0 ∨ (m : Int) ≤ (tp_c b n p - nI lo).toInt := by
    rw [hx]
    by_cases c : p < n
    · rw [if_pos c]
      have : ¬ (lo ≤ b p ∧ b p < lo + m) := fun q => h ⟨c, q⟩
      omega
    · rw [if_neg c]; omega
  generalize tp_c b n p - nI lo = x at *
  have h0 : (0 : Int32).toInt = 0 := by decide
  refine ⟨?_, ?_, ?_⟩
  · rintro ⟨j, hj, rfl⟩
    rw [nI_toInt (by omega)] at hout
    omega
  · rw [Int32.lt_iff_toInt_lt, Int32.lt_iff_toInt_lt, h0, nI_toInt (by omega)]
    rcases hout with g | g
    · exact Or.inl (eq_true g)
    · exact Or.inr ⟨eq_false (by omega), eq_false (by omega)⟩
  · apply eq_false
    rw [Int32.le_iff_toInt_le, Int32.le_iff_toInt_le, h0, nI_toInt (by omega)]
    omega
def tl_g (M V : Nat → Nat → Int32) : Prop := (∀ a, a ≠ 167 → a ≠ 190 → a ≠ 191 → a ≠ 192 → a ≠ 193 → V a = M a) ∧ ∀ j, j ≠ 8 → j ≠ 10 → j ≠ 42 → V 167 j = M 167 j
theorem tl_gr (M : Nat → Nat → Int32) : tl_g M M := ⟨fun _ _ _ _ _ _ => rfl, fun _ _ _ _ => rfl⟩
theorem tl_gt {M V W : Nat → Nat → Int32} (h1 : tl_g M V) (h2 : tl_g V W) : tl_g M W := ⟨fun a q1 q2 q3 q4 q5 => (h2.1 a q1 q2 q3 q4 q5).trans (h1.1 a q1 q2 q3 q4 q5), fun j q1 q2 q3 => (h2.2 j q1 q2 q3).trans (h1.2 j q1 q2 q3)⟩
theorem tl_g8 (M : Nat → Nat → Int32) (x : Int32) : tl_g M (xv_u2 M 167 8 x) := ⟨fun a q1 _ _ _ _ => xu_ne q1, fun j q _ _ => xu_ne2 (fun g => q g.2)⟩
theorem tl_g10 (M : Nat → Nat → Int32) (x : Int32) : tl_g M (xv_u2 M 167 10 x) := ⟨fun a q1 _ _ _ _ => xu_ne q1, fun j _ q _ => xu_ne2 (fun g => q g.2)⟩
def tl_m (M : Nat → Nat → Int32) (n0 j sd tm qm : Nat) (ly : Nat → Nat) : Prop := M 168 301 = nI n0 ∧ M 167 42 = nI j ∧ n0 + j = sd ∧ M 168 300 = nI tm ∧ M 167 5 = nI qm ∧ ∀ w, w < 10 → ∃ pc l0 : Nat, M 193 w = nI pc ∧ M 168 (120 + w) = nI l0 ∧ l0 ≤ 12 ∧ pc + ly w = l0
def tl_O (b : Nat → Nat) (n p : Nat) (I W : Nat → Nat → Int32) (sd : Nat) (ly : Nat → Nat) : tl_S → Prop
  | .inl (f, q) => 1 ≤ f ∧ f ≤ 9 ∧ q ≤ 260 ∧ tl_fr I W ∧ W 1 4 = -1000 * nI f - nI q
  | .inr (w, k, y, c, p') => p < p' ∧ w < 10 ∧ k < 8 ∧ y ≤ 1 ∧ c ≤ 1 ∧ sd < 20 ∧ 1 ≤ ly w ∧ tp_C b n p' W ∧ vy_C (xv_u2 I 1 3 (nI p')) W 111 sd w (ly w) (nI k) (nI y) (nI c)
def tl_N (b : Nat → Nat) (n j : Nat) (M V : Nat → Nat → Int32) (r : Int32) : tl_S → Prop
  | .inl (f, q) => r = 0 ∧ V 167 10 = -1000 * nI f - nI q ∧ tl_g M V
  | .inr (w, k, y, c, p') => r = 1 ∧ tp_M b n p' V ∧ tl_g M V ∧ V 167 42 = nI (j + 1) ∧ (∀ v, V 193 v = if v = w then M 193 w + 1 else M 193 v) ∧ (∀ i, V 190 i = if i = j then nI w else M 190 i) ∧ (∀ i, V 191 i = if i = j then nI k else M 191 i) ∧ ∀ i, V 192 i = if i = j then nI (y + 2 * c) else M 192 i
/-- the model's line, as far as the witness -/
theorem xl_rlw (ro : xv_Ro) (d : Nat) (z : Nat × Nat) (M : Nat → Nat → Int32) (J : Nat → Nat → Int64) {b : Nat → Nat} {n p n0 j sd tm qm w : Nat} {ly : Nat → Nat} (h : tp_M b n p M) (hm : tl_m M n0 j sd tm qm ly) (hs2 : sd ≤ 20) (htm : tm < 1024) (hd : tp_d b n p = some w) : (tl_f sd (tm.testBit w) (ly w) ≠ 0 → xv_evm ro (d + 4) 93 [.ref 167] (z, xv_mk M J) = some (some (.int 0), (z, xv_mk (xv_u2 M 167 10 (-1000 * nI (tl_f sd (tm.testBit w) (ly w)) - nI p)) J))) ∧ (tl_f sd (tm.testBit w) (ly w) = 0 → xv_evm ro (d + 4) 93 [.ref 167] (z, xv_mk M J) = xv_ev ro (d + 4) xm_Mo_readsLine xb_Mo_readsLine_101 [some (.ref 167), some (.int (nI w)), none, none, none] [] (z, xv_mk M J)) := by
  obtain ⟨m1, m2, m3, m4, m5, m6⟩ := hm
  obtain ⟨c1, c2, c3⟩ := tp_d_s hd
  obtain ⟨pc, l0, k1, k2, k3, k4⟩ := m6 w (by omega)
  have hh := xq_here ro (d + 3) z M J h
  have his := xq_isDigit ro (d + 2) z M J h
  rw [hd, if_pos (show (some w).isSome = true from rfl)] at his
  have ev : tp_c b n p = nI (w + 48) := by unfold tp_c; rw [if_pos c1, c3]
  rw [ev] at hh
  have es : nI (w + 48) - 48 = nI w := by (simp (disch := omega) only [vz_all, if_true, if_false, true_or, or_true, eq_self, ite_not, Bool.false_eq_true, ite_self, and_self, true_and, and_true, false_and, and_false, not_true_eq_false, not_false_eq_true, false_or, or_false])
  have z1 : ((1 : Int32) = 0) = False := eq_false (by decide)
  have h4 := h.2.2.2.1
  have i301 : xv_inB 301 304 = true := by decide
  have c301 : (301 : Int32).toNatClampNeg = 301 := by decide
  have hwit := xq_Mo_isWitness ro (d + 2) z M J (m := tm) (w := w) m4 htm (by omega)
  have e120 : 120 + nI w = nI (120 + w) := by (simp (disch := omega) only [vz_all, if_true, if_false, true_or, or_true, eq_self, ite_not, Bool.false_eq_true, ite_self, and_self, true_and, and_true, false_and, and_false, not_true_eq_false, not_false_eq_true, false_or, or_false])
  have i120 : xv_inB (nI (120 + w)) 304 = true := by (simp (disch := omega) only [vz_all, if_true, if_false, true_or, or_true, eq_self, ite_not, Bool.false_eq_true, ite_self, and_self, true_and, and_true, false_and, and_false, not_true_eq_false, not_false_eq_true, false_or, or_false])
  have i10 : xv_inB (nI w) 10 = true := by (simp (disch := omega) only [vz_all, if_true, if_false, true_or, or_true, eq_self, ite_not, Bool.false_eq_true, ite_self, and_self, true_and, and_true, false_and, and_false, not_true_eq_false, not_false_eq_true, false_or, or_false])
  have cw := nI_clamp (show w < 2 ^ 31 by omega)
  have c120 := nI_clamp (show 120 + w < 2 ^ 31 by omega)
  unfold tl_f
  by_cases q1 : sd = 20
  · have g : (nI (n0 + j) = 20) = True := by (simp (disch := omega) only [vz_all, if_true, if_false, true_or, or_true, eq_self, ite_not, Bool.false_eq_true, ite_self, and_self, true_and, and_true, false_and, and_false, not_true_eq_false, not_false_eq_true, false_or, or_false])
    have hw := xq_wrongAt ro (d + 3) z M J 4 (nI p)
    rw [if_pos q1]
    refine ⟨fun _ => ?_, fun q => by omega⟩
    rw [xe_Mo_readsLine]
    simp only [xr_all, xf_all, if_true, if_false, true_or, or_true, eq_self, ite_not, Bool.false_eq_true, ite_self, and_self, true_and, and_true, false_and, and_false, not_true_eq_false, not_false_eq_true, xj_Mo_readsLine, xb_Mo_readsLine_0, xb_Mo_readsLine_17, xb_Mo_readsLine_45, xb_Mo_readsLine_72, xb_Mo_readsLine_139, xb_Mo_readsLine_158, xb_Mo_readsLine_181, xb_Mo_readsLine_194, xb_Mo_readsLine_195, xb_Mo_readsLine_211, xb_Mo_readsLine_234, xb_Mo_readsLine_235, xb_Mo_readsLine_252, his, z1, i301, c301, m1, m2, nI_add, g, h4, hw]
    rfl
  · have g : (nI (n0 + j) = 20) = False := by (simp (disch := omega) only [vz_all, if_true, if_false, true_or, or_true, eq_self, ite_not, Bool.false_eq_true, ite_self, and_self, true_and, and_true, false_and, and_false, not_true_eq_false, not_false_eq_true, false_or, or_false])
    rw [if_neg q1]
    cases hb : tm.testBit w with
    | false =>
      rw [hb, vz_b0 (by decide)] at hwit
      have hw := xq_wrongAt ro (d + 3) z M J 7 (nI p)
      rw [if_pos rfl]
      refine ⟨fun _ => ?_, fun q => by omega⟩
      rw [xe_Mo_readsLine]
      simp only [xr_all, xf_all, if_true, if_false, true_or, or_true, eq_self, ite_not, Bool.false_eq_true, ite_self, and_self, true_and, and_true, false_and, and_false, not_true_eq_false, not_false_eq_true, xj_Mo_readsLine, xb_Mo_readsLine_0, xb_Mo_readsLine_17, xb_Mo_readsLine_45, xb_Mo_readsLine_72, xb_Mo_readsLine_139, xb_Mo_readsLine_158, xb_Mo_readsLine_181, xb_Mo_readsLine_194, xb_Mo_readsLine_195, xb_Mo_readsLine_211, xb_Mo_readsLine_234, xb_Mo_readsLine_235, xb_Mo_readsLine_252, his, z1, i301, c301, m1, m2, nI_add, g, h4, hh, es, hwit, hw]
      rfl
    | true =>
      rw [hb, vz_b1 rfl] at hwit
      rw [if_neg (by decide)]
      by_cases q3 : ly w = 0
      · have g3 : (nI pc = nI l0) = True := by (simp (disch := omega) only [vz_all, if_true, if_false, true_or, or_true, eq_self, ite_not, Bool.false_eq_true, ite_self, and_self, true_and, and_true, false_and, and_false, not_true_eq_false, not_false_eq_true, false_or, or_false])
        have hw := xq_wrongAt ro (d + 3) z M J 8 (nI p)
        rw [if_pos q3]
        refine ⟨fun _ => ?_, fun q => by omega⟩
        rw [xe_Mo_readsLine]
        simp only [xr_all, xf_all, if_true, if_false, true_or, or_true, eq_self, ite_not, Bool.false_eq_true, ite_self, and_self, true_and, and_true, false_and, and_false, not_true_eq_false, not_false_eq_true, xj_Mo_readsLine, xb_Mo_readsLine_0, xb_Mo_readsLine_17, xb_Mo_readsLine_45, xb_Mo_readsLine_72, xb_Mo_readsLine_139, xb_Mo_readsLine_158, xb_Mo_readsLine_181, xb_Mo_readsLine_194, xb_Mo_readsLine_195, xb_Mo_readsLine_211, xb_Mo_readsLine_234, xb_Mo_readsLine_235, xb_Mo_readsLine_252, his, z1, i301, c301, m1, m2, nI_add, g, h4, hh, es, hwit, i10, cw, k1, e120, i120, c120, k2, g3, hw]
        rfl
      · have g3 : (nI pc = nI l0) = False := by (simp (disch := omega) only [vz_all, if_true, if_false, true_or, or_true, eq_self, ite_not, Bool.false_eq_true, ite_self, and_self, true_and, and_true, false_and, and_false, not_true_eq_false, not_false_eq_true, false_or, or_false])
        rw [if_neg q3]
        refine ⟨fun q => absurd rfl q, fun _ => ?_⟩
        rw [xe_Mo_readsLine]
        simp only [xr_all, xf_all, if_true, if_false, true_or, or_true, eq_self, ite_not, Bool.false_eq_true, ite_self, and_self, true_and, and_true, false_and, and_false, not_true_eq_false, not_false_eq_true, xj_Mo_readsLine, xb_Mo_readsLine_0, xb_Mo_readsLine_17, xb_Mo_readsLine_45, xb_Mo_readsLine_72, xb_Mo_readsLine_139, xb_Mo_readsLine_158, xb_Mo_readsLine_181, xb_Mo_readsLine_194, xb_Mo_readsLine_195, xb_Mo_readsLine_211, xb_Mo_readsLine_234, xb_Mo_readsLine_235, xb_Mo_readsLine_252, his, z1, i301, c301, m1, m2, nI_add, g, h4, hh, es, hwit, i10, cw, k1, e120, i120, c120, k2, g3]
/-- from the question on: a fault there -/
theorem xl_rlk (ro : xv_Ro) (d : Nat) (z : Nat × Nat) (M : Nat → Nat → Int32) (J : Nat → Nat → Int64) {b : Nat → Nat} {n p qm f : Nat} (x1 : Int32) (h : tp_M b n p M) (hp : p < n) (hk : (f = 1 ∧ (0 ≤ tp_c b n (p + 1) - 65 ∧ tp_c b n (p + 1) - 65 ≤ 7) = False) ∨ (f = 7 ∧ (0 ≤ tp_c b n (p + 1) - 65 ∧ tp_c b n (p + 1) - 65 ≤ 7) = True ∧ ∀ V, V 167 5 = nI qm → xv_evm ro (d + 3) 48 [.ref 167, .int (tp_c b n (p + 1) - 65)] (z, xv_mk V J) = some (some (.int 0), (z, xv_mk V J)))) (h5 : M 167 5 = nI qm) : xv_ev ro (d + 4) xm_Mo_readsLine xb_Mo_readsLine_101 [some (.ref 167), some (.int x1), none, none, none] [] (z, xv_mk M J) = some (some (.int 0), (z, xv_mk (xv_u2 (xv_u2 M 167 8 (nI (p + 1))) 167 10 (-1000 * nI f - nI (p + 1))) J)) := by
  have h4 := h.2.2.2.1
  have h1 := tp_Ms h hp
  have hh := xq_here ro (d + 3) z _ J h1
  have z1 : ((1 : Int32) = 0) = False := eq_false (by decide)
  have h8 : xv_u2 M 167 8 (nI (p + 1)) 167 8 = nI (p + 1) := xu_eq
  have h55 : xv_u2 M 167 8 (nI (p + 1)) 167 5 = nI qm := by rw [xu_ne2 (by omega)]; exact h5
  rcases hk with ⟨rfl, g⟩ | ⟨rfl, g, hq⟩
  · have hw := xq_wrongAt ro (d + 3) z (xv_u2 M 167 8 (nI (p + 1))) J 1 (nI (p + 1))
    simp only [xr_all, xf_all, if_true, if_false, true_or, or_true, eq_self, ite_not, Bool.false_eq_true, ite_self, and_self, true_and, and_true, false_and, and_false, not_true_eq_false, not_false_eq_true, xj_Mo_readsLine, xb_Mo_readsLine_0, xb_Mo_readsLine_17, xb_Mo_readsLine_45, xb_Mo_readsLine_72, xb_Mo_readsLine_101, xb_Mo_readsLine_139, xb_Mo_readsLine_158, xb_Mo_readsLine_181, xb_Mo_readsLine_194, xb_Mo_readsLine_195, xb_Mo_readsLine_211, xb_Mo_readsLine_234, xb_Mo_readsLine_235, xb_Mo_readsLine_252, h4, nI_1, hh, xq_Mo_in, g, h8, hw]
    rfl
  · have hw := xq_wrongAt ro (d + 3) z (xv_u2 M 167 8 (nI (p + 1))) J 7 (nI (p + 1))
    have hqq := hq _ h55
    simp only [xr_all, xf_all, if_true, if_false, true_or, or_true, eq_self, ite_not, Bool.false_eq_true, ite_self, and_self, true_and, and_true, false_and, and_false, not_true_eq_false, not_false_eq_true, xj_Mo_readsLine, xb_Mo_readsLine_0, xb_Mo_readsLine_17, xb_Mo_readsLine_45, xb_Mo_readsLine_72, xb_Mo_readsLine_101, xb_Mo_readsLine_139, xb_Mo_readsLine_158, xb_Mo_readsLine_181, xb_Mo_readsLine_194, xb_Mo_readsLine_195, xb_Mo_readsLine_211, xb_Mo_readsLine_234, xb_Mo_readsLine_235, xb_Mo_readsLine_252, h4, nI_1, hh, xq_Mo_in, g, z1, hqq, h8, hw]
    rfl
/-- from the question on: neither + nor - -/
theorem xl_rly (ro : xv_Ro) (d : Nat) (z : Nat × Nat) (M : Nat → Nat → Int32) (J : Nat → Nat → Int64) {b : Nat → Nat} {n p qm k : Nat} (x1 : Int32) (h : tp_M b n p M) (hp : p + 1 < n) (hk : k < 8) (hbk : b (p + 1) = k + 65) (h5 : M 167 5 = nI qm) (hqm : qm < 256) (hqb : qm.testBit k = true) (h43 : ¬ (p + 2 < n ∧ b (p + 2) = 43)) (h45 : ¬ (p + 2 < n ∧ b (p + 2) = 45)) : xv_ev ro (d + 4) xm_Mo_readsLine xb_Mo_readsLine_101 [some (.ref 167), some (.int x1), none, none, none] [] (z, xv_mk M J) = some (some (.int 0), (z, xv_mk (xv_u2 (xv_u2 M 167 8 (nI (p + 2))) 167 10 (-1000 * 1 - nI (p + 2))) J)) := by
  have hn := h.1
  have h4 := h.2.2.2.1
  have hh1 := xq_here ro (d + 3) z _ J (tp_Mq h (show p + 1 ≤ n by omega))
  have ev : tp_c b n (p + 1) = nI (k + 65) := by unfold tp_c; rw [if_pos hp, hbk]
  rw [ev] at hh1
  have es : nI (k + 65) - 65 = nI k := by (simp (disch := omega) only [vz_all, if_true, if_false, true_or, or_true, eq_self, ite_not, Bool.false_eq_true, ite_self, and_self, true_and, and_true, false_and, and_false, not_true_eq_false, not_false_eq_true, false_or, or_false])
  have gin : (0 ≤ nI k ∧ nI k ≤ 7) = True := by (simp (disch := omega) only [vz_all, if_true, if_false, true_or, or_true, eq_self, ite_not, Bool.false_eq_true, ite_self, and_self, true_and, and_true, false_and, and_false, not_true_eq_false, not_false_eq_true, false_or, or_false])
  have z1 : ((1 : Int32) = 0) = False := eq_false (by decide)
  have hq := xq_Mo_isQuestion ro (d + 2) z (xv_u2 M 167 8 (nI (p + 1))) J (m := qm) (w := k) (by rw [xu_ne2 (by omega)]; exact h5) hqm hk
  rw [vz_b1 hqb] at hq
  have hM2 := tp_Mq h (show p + 2 ≤ n by omega)
  have hh2 := xq_here ro (d + 3) z _ J hM2
  have e43 := (tp_ceq (b := b) (n := n) (p := p + 2) (c := 43) (fun q => (h.2.2.2.2 _ q).1) (by omega)).trans (eq_false h43)
  have e45 := (tp_ceq (b := b) (n := n) (p := p + 2) (c := 45) (fun q => (h.2.2.2.2 _ q).1) (by omega)).trans (eq_false h45)
  rw [show nI 43 = (43 : Int32) from rfl] at e43
  rw [show nI 45 = (45 : Int32) from rfl] at e45
  have hw := xq_wrongAt ro (d + 3) z (xv_u2 M 167 8 (nI (p + 2))) J 1 (nI (p + 2))
  have n2 : nI (p + 1) + 1 = nI (p + 2) := nI_1 (p + 1)
  have n1 : nI p + 1 = nI (p + 1) := nI_1 p
  simp only [xr_all, xf_all, if_true, if_false, true_or, or_true, eq_self, ite_not, Bool.false_eq_true, ite_self, and_self, true_and, and_true, false_and, and_false, not_true_eq_false, not_false_eq_true, xj_Mo_readsLine, xb_Mo_readsLine_0, xb_Mo_readsLine_17, xb_Mo_readsLine_45, xb_Mo_readsLine_72, xb_Mo_readsLine_101, xb_Mo_readsLine_139, xb_Mo_readsLine_158, xb_Mo_readsLine_181, xb_Mo_readsLine_194, xb_Mo_readsLine_195, xb_Mo_readsLine_211, xb_Mo_readsLine_234, xb_Mo_readsLine_235, xb_Mo_readsLine_252, h4, n1, n2, hh1, xq_Mo_in, es, gin, z1, hq, xu_eq, xu_uu, hh2, e43, e45, hw]
/-- from the question on: a line that is good -/
theorem xl_rls (ro : xv_Ro) (d : Nat) (z : Nat × Nat) (M : Nat → Nat → Int32) (J : Nat → Nat → Int64) {b : Nat → Nat} {n p p' qm k w pc j y c : Nat} (h : tp_M b n p M) (hp : p + 2 < n) (hk : k < 8) (hbk : b (p + 1) = k + 65) (h5 : M 167 5 = nI qm) (hqm : qm < 256) (hqb : qm.testBit k = true) (hw : w < 10) (hpc : M 193 w = nI pc) (hj : M 167 42 = nI j) (hj2 : j < 20) (hy : (y = 1 ∧ b (p + 2) = 43) ∨ (y = 0 ∧ b (p + 2) = 45)) (hc : (c = 1 ∧ (p + 3 < n ∧ b (p + 3) = 42) ∧ p' = p + 4) ∨ (c = 0 ∧ ¬ (p + 3 < n ∧ b (p + 3) = 42) ∧ p' = p + 3)) : xv_ev ro (d + 4) xm_Mo_readsLine xb_Mo_readsLine_101 [some (.ref 167), some (.int (nI w)), none, none, none] [] (z, xv_mk M J) = some (some (.int 1), (z, xv_mk (xv_u2 (xv_u2 (xv_u2 (xv_u2 (xv_u2 (xv_u2 M 167 8 (nI p')) 193 w (nI (pc + 1))) 190 j (nI w)) 191 j (nI k)) 192 j (nI (y + 2 * c))) 167 42 (nI (j + 1))) J)) := by
  have hn := h.1
  have h4 := h.2.2.2.1
  have hh1 := xq_here ro (d + 3) z _ J (tp_Mq h (show p + 1 ≤ n by omega))
  have ev : tp_c b n (p + 1) = nI (k + 65) := by unfold tp_c; rw [if_pos (by omega), hbk]
  rw [ev] at hh1
  have es : nI (k + 65) - 65 = nI k := by (simp (disch := omega) only [vz_all, if_true, if_false, true_or, or_true, eq_self, ite_not, Bool.false_eq_true, ite_self, and_self, true_and, and_true, false_and, and_false, not_true_eq_false, not_false_eq_true, false_or, or_false])
  have gin : (0 ≤ nI k ∧ nI k ≤ 7) = True := by (simp (disch := omega) only [vz_all, if_true, if_false, true_or, or_true, eq_self, ite_not, Bool.false_eq_true, ite_self, and_self, true_and, and_true, false_and, and_false, not_true_eq_false, not_false_eq_true, false_or, or_false])
  have z1 : ((1 : Int32) = 0) = False := eq_false (by decide)
  have hq := xq_Mo_isQuestion ro (d + 2) z (xv_u2 M 167 8 (nI (p + 1))) J (m := qm) (w := k) (by rw [xu_ne2 (by omega)]; exact h5) hqm hk
  rw [vz_b1 hqb] at hq
  have hh2 := xq_here ro (d + 3) z _ J (tp_Mq h (show p + 2 ≤ n by omega))
  have hh3 := xq_here ro (d + 3) z _ J (tp_Mq h (show p + 3 ≤ n by omega))
  have e43 := tp_ceq (b := b) (n := n) (p := p + 2) (c := 43) (fun q => (h.2.2.2.2 _ q).1) (by omega)
  have e45 := tp_ceq (b := b) (n := n) (p := p + 2) (c := 45) (fun q => (h.2.2.2.2 _ q).1) (by omega)
  have e42 := tp_ceq (b := b) (n := n) (p := p + 3) (c := 42) (fun q => (h.2.2.2.2 _ q).1) (by omega)
  rw [show nI 43 = (43 : Int32) from rfl] at e43
  rw [show nI 45 = (45 : Int32) from rfl] at e45
  rw [show nI 42 = (42 : Int32) from rfl] at e42
  have n1 : nI p + 1 = nI (p + 1) := nI_1 p
  have n2 : nI (p + 1) + 1 = nI (p + 2) := nI_1 (p + 1)
  have n3 : nI (p + 2) + 1 = nI (p + 3) := nI_1 (p + 2)
  have n4 : nI (p + 3) + 1 = nI (p + 4) := nI_1 (p + 3)
  have n5 : nI pc + 1 = nI (pc + 1) := nI_1 pc
  have n6 : nI j + 1 = nI (j + 1) := nI_1 j
  have i10 : xv_inB (nI w) 10 = true := by (simp (disch := omega) only [vz_all, if_true, if_false, true_or, or_true, eq_self, ite_not, Bool.false_eq_true, ite_self, and_self, true_and, and_true, false_and, and_false, not_true_eq_false, not_false_eq_true, false_or, or_false])
  have cw := nI_clamp (show w < 2 ^ 31 by omega)
  have i20 : xv_inB (nI j) 20 = true := by (simp (disch := omega) only [vz_all, if_true, if_false, true_or, or_true, eq_self, ite_not, Bool.false_eq_true, ite_self, and_self, true_and, and_true, false_and, and_false, not_true_eq_false, not_false_eq_true, false_or, or_false])
  have cj := nI_clamp (show j < 2 ^ 31 by omega)
  have zm1 : ((1 : Int32) = -1) = False := eq_false (by decide)
  have zm0 : ((0 : Int32) = -1) = False := eq_false (by decide)
  have z2 : ((2 : Int32) ≤ 0) = False := eq_false (by decide)
  have z0 : ((0 : Int32) ≤ 0) = True := eq_true (by decide)
  have a12 : (1 : Int32) + 2 = 3 := by decide
  have a02 : (0 : Int32) + 2 = 2 := by decide
  have a10 : (1 : Int32) + 0 = 1 := by decide
  have a00 : (0 : Int32) + 0 = 0 := by decide
  have r1 : ∀ x, xv_u2 M 167 8 x 193 w = nI pc := fun x => by rw [xu_ne (by omega)]; exact hpc
  have r2 : ∀ x x2, xv_u2 (xv_u2 M 167 8 x) 193 w x2 167 42 = nI j := fun x x2 => by rw [xu_ne (by omega), xu_ne2 (by omega)]; exact hj
  have r3 : ∀ x x2 x3, xv_u2 (xv_u2 (xv_u2 M 167 8 x) 193 w x2) 190 j x3 167 42 = nI j := fun x x2 x3 => by rw [xu_ne (by omega)]; exact r2 x x2
  have r4 : ∀ x x2 x3 x4, xv_u2 (xv_u2 (xv_u2 (xv_u2 M 167 8 x) 193 w x2) 190 j x3) 191 j x4 167 42 = nI j := fun x x2 x3 x4 => by rw [xu_ne (by omega)]; exact r3 x x2 x3
  have r5 : ∀ x x2 x3 x4 x5, xv_u2 (xv_u2 (xv_u2 (xv_u2 (xv_u2 M 167 8 x) 193 w x2) 190 j x3) 191 j x4) 192 j x5 167 42 = nI j := fun x x2 x3 x4 x5 => by rw [xu_ne (by omega)]; exact r4 x x2 x3 x4
  rcases hy with ⟨rfl, hy⟩ | ⟨rfl, hy⟩
  · have g43 := e43.trans (eq_true ⟨hp, hy⟩)
    rcases hc with ⟨rfl, hc, rfl⟩ | ⟨rfl, hc, rfl⟩
    · have g42 := e42.trans (eq_true hc)
      simp only [xr_all, xf_all, if_true, if_false, true_or, or_true, eq_self, ite_not, Bool.false_eq_true, ite_self, and_self, true_and, and_true, false_and, and_false, not_true_eq_false, not_false_eq_true, xj_Mo_readsLine, xb_Mo_readsLine_0, xb_Mo_readsLine_17, xb_Mo_readsLine_45, xb_Mo_readsLine_72, xb_Mo_readsLine_101, xb_Mo_readsLine_139, xb_Mo_readsLine_158, xb_Mo_readsLine_181, xb_Mo_readsLine_194, xb_Mo_readsLine_195, xb_Mo_readsLine_211, xb_Mo_readsLine_234, xb_Mo_readsLine_235, xb_Mo_readsLine_252, h4, n1, n2, n3, n4, hh1, xq_Mo_in, es, gin, z1, hq, xu_eq, xu_uu, hh2, g43, zm1, hh3, g42, z2, i10, cw, r1, n5, r2, r3, r4, r5, i20, cj, n6, a12]
      rfl
    · have g42 := e42.trans (eq_false hc)
      simp only [xr_all, xf_all, if_true, if_false, true_or, or_true, eq_self, ite_not, Bool.false_eq_true, ite_self, and_self, true_and, and_true, false_and, and_false, not_true_eq_false, not_false_eq_true, xj_Mo_readsLine, xb_Mo_readsLine_0, xb_Mo_readsLine_17, xb_Mo_readsLine_45, xb_Mo_readsLine_72, xb_Mo_readsLine_101, xb_Mo_readsLine_139, xb_Mo_readsLine_158, xb_Mo_readsLine_181, xb_Mo_readsLine_194, xb_Mo_readsLine_195, xb_Mo_readsLine_211, xb_Mo_readsLine_234, xb_Mo_readsLine_235, xb_Mo_readsLine_252, h4, n1, n2, n3, n4, hh1, xq_Mo_in, es, gin, z1, hq, xu_eq, xu_uu, hh2, g43, zm1, hh3, g42, z0, i10, cw, r1, n5, r2, r3, r4, r5, i20, cj, n6, a10]
      rfl
  · have g43 := e43.trans (eq_false (fun q => by omega))
    have g45 := e45.trans (eq_true ⟨hp, hy⟩)
    rcases hc with ⟨rfl, hc, rfl⟩ | ⟨rfl, hc, rfl⟩
    · have g42 := e42.trans (eq_true hc)
      simp only [xr_all, xf_all, if_true, if_false, true_or, or_true, eq_self, ite_not, Bool.false_eq_true, ite_self, and_self, true_and, and_true, false_and, and_false, not_true_eq_false, not_false_eq_true, xj_Mo_readsLine, xb_Mo_readsLine_0, xb_Mo_readsLine_17, xb_Mo_readsLine_45, xb_Mo_readsLine_72, xb_Mo_readsLine_101, xb_Mo_readsLine_139, xb_Mo_readsLine_158, xb_Mo_readsLine_181, xb_Mo_readsLine_194, xb_Mo_readsLine_195, xb_Mo_readsLine_211, xb_Mo_readsLine_234, xb_Mo_readsLine_235, xb_Mo_readsLine_252, h4, n1, n2, n3, n4, hh1, xq_Mo_in, es, gin, z1, hq, xu_eq, xu_uu, hh2, g43, g45, zm0, hh3, g42, z2, i10, cw, r1, n5, r2, r3, r4, r5, i20, cj, n6, a02]
      rfl
    · have g42 := e42.trans (eq_false hc)
      simp only [xr_all, xf_all, if_true, if_false, true_or, or_true, eq_self, ite_not, Bool.false_eq_true, ite_self, and_self, true_and, and_true, false_and, and_false, not_true_eq_false, not_false_eq_true, xj_Mo_readsLine, xb_Mo_readsLine_0, xb_Mo_readsLine_17, xb_Mo_readsLine_45, xb_Mo_readsLine_72, xb_Mo_readsLine_101, xb_Mo_readsLine_139, xb_Mo_readsLine_158, xb_Mo_readsLine_181, xb_Mo_readsLine_194, xb_Mo_readsLine_195, xb_Mo_readsLine_211, xb_Mo_readsLine_234, xb_Mo_readsLine_235, xb_Mo_readsLine_252, h4, n1, n2, n3, n4, hh1, xq_Mo_in, es, gin, z1, hq, xu_eq, xu_uu, hh2, g43, g45, zm0, hh3, g42, z0, i10, cw, r1, n5, r2, r3, r4, r5, i20, cj, n6, a00]
      rfl
