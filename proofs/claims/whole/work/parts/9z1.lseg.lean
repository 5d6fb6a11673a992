/-! law: what a stretch of steps comes to, in the class and in the model -/
abbrev l_D : Type := (Nat → Int32) → Option Int32
/-- the first eight facts alone count -/
def l_d8 (D : l_D) : Prop := ∀ F F' : Nat → Int32, (∀ f, f < 8 → F f = F' f) → D F = D F'
def l_cS (S N : Nat → Int32) (s0 s1 h : Nat) (D : l_D) : Prop := s0 < s1 ∧ (1 ≤ h ∧ l_d8 D) ∧ ∀ (ro : xv_Ro) (d : Nat) (z : Nat × Nat) (C : Nat → Nat → Int32) (J : Nat → Nat → Int64) (to top : Nat) (x1 : Int32) (x6 : Option Value), (∀ s, s0 ≤ s → s < s1 → C 6 s = S s ∧ C 7 s = N s) → s1 ≤ to → to ≤ 240 → top + h ≤ 32 → ∃ (J1 : Nat → Nat → Int64) (x6' : Option Value), xv_ev ro (d + 1) xm_Law_run xb_Law_run_10 [some (.ref 5), some (.int x1), some (.int (nI to)), some (.ref 21), some (.int (nI top)), some (.int (nI s0)), x6] [] (z, xv_mk C J) = xv_ev ro (d + 1) xm_Law_run xb_Law_run_10 [some (.ref 5), some (.int x1), some (.int (nI to)), some (.ref 21), some (.int (nI (top + 1))), some (.int (nI s1)), x6'] [] (z, xv_mk C J1) ∧ (∀ a, a ≠ 12 → J1 a = J a) ∧ (∀ j, j < top → J1 12 j = J 12 j) ∧ J1 12 top = e64 (D (C 21))
def l_mS (K : Nat → Int32) (c0 c1 : Nat) (D : l_D) : Prop := c0 < c1 ∧ ∀ (ro : xv_Ro) (d : Nat) (z : Nat × Nat) (M : Nat → Nat → Int32) (J : Nat → Nat → Int64) (to n : Nat) (x1 : Int32) (x6 x7 : Option Value), (∀ c, c0 ≤ c → c < c1 → M 180 c = K c) → c1 ≤ to → to ≤ 260 → n ≤ c0 → (D (M 186) = none → ∃ M1 : Nat → Nat → Int32, xv_ev ro (d + 1) xm_Mo_comesTo xb_Mo_comesTo_16 [some (.ref 167), some (.int x1), some (.int (nI to)), some (.int (nI n)), some (.int 0), some (.int (nI c0)), x6, x7] [] (z, xv_mk M J) = some (some (.int 0), (z, xv_mk M1 J)) ∧ ∀ a, a ≠ 185 → M1 a = M a) ∧ (∀ v, D (M 186) = some v → ∃ (M1 : Nat → Nat → Int32) (x6' x7' : Option Value), xv_ev ro (d + 1) xm_Mo_comesTo xb_Mo_comesTo_16 [some (.ref 167), some (.int x1), some (.int (nI to)), some (.int (nI n)), some (.int 0), some (.int (nI c0)), x6, x7] [] (z, xv_mk M J) = xv_ev ro (d + 1) xm_Mo_comesTo xb_Mo_comesTo_16 [some (.ref 167), some (.int x1), some (.int (nI to)), some (.int (nI (n + 1))), some (.int 0), some (.int (nI c1)), x6', x7'] [] (z, xv_mk M1 J) ∧ (∀ a, a ≠ 185 → M1 a = M a) ∧ (∀ j, j < n → M1 185 j = M 185 j) ∧ M1 185 n = v)
theorem l_cS_c {S N S' N' : Nat → Int32} {s0 s1 h h' : Nat} {D : l_D} (hs : l_cS S N s0 s1 h D) (hc : ∀ s, s0 ≤ s → s < s1 → S' s = S s ∧ N' s = N s) (hh : h ≤ h') : l_cS S' N' s0 s1 h' D := by
  refine ⟨hs.1, ⟨Nat.le_trans hs.2.1.1 hh, hs.2.1.2⟩, fun ro d z C J to top x1 x6 k1 k2 k3 k4 => hs.2.2 ro d z C J to top x1 x6 (fun s q1 q2 => ?_) k2 k3 (by omega)⟩
  rw [← (hc s q1 q2).1, ← (hc s q1 q2).2]
  exact k1 s q1 q2
theorem l_mS_c {K K' : Nat → Int32} {c0 c1 : Nat} {D : l_D} (hs : l_mS K c0 c1 D) (hc : ∀ c, c0 ≤ c → c < c1 → K' c = K c) : l_mS K' c0 c1 D := by
  refine ⟨hs.1, fun ro d z M J to n x1 x6 x7 k1 k2 k3 k4 => hs.2 ro d z M J to n x1 x6 x7 (fun s q1 q2 => ?_) k2 k3 k4⟩
  rw [← hc s q1 q2]
  exact k1 s q1 q2
/-- a number -/
theorem l_c_num {S N : Nat → Int32} {s : Nat} {v : Int32} (h1 : S s = 48) (h2 : N s = v) : l_cS S N s (s + 1) 1 (fun _ => some v) := by
  refine ⟨Nat.lt_succ_self _, ⟨Nat.le_refl _, fun _ _ _ => rfl⟩, fun ro d z C J to top x1 x6 k1 k2 k3 k4 => ?_⟩
  obtain ⟨e1, e2⟩ := k1 s (Nat.le_refl _) (Nat.lt_succ_self _)
  rw [h1] at e1
  rw [h2] at e2
  have g1 : (nI to ≤ nI s) = False := by (simp (disch := omega) only [vz_all, if_true, if_false, true_or, or_true, eq_self, ite_not, Bool.false_eq_true, ite_self, and_self, true_and, and_true, false_and, and_false, not_true_eq_false, not_false_eq_true, false_or, or_false])
  have g2 : (240 ≤ nI s) = False := by (simp (disch := omega) only [vz_all, if_true, if_false, true_or, or_true, eq_self, ite_not, Bool.false_eq_true, ite_self, and_self, true_and, and_true, false_and, and_false, not_true_eq_false, not_false_eq_true, false_or, or_false])
  have g3 : xv_inB (nI s) 240 = true := by (simp (disch := omega) only [vz_all, if_true, if_false, true_or, or_true, eq_self, ite_not, Bool.false_eq_true, ite_self, and_self, true_and, and_true, false_and, and_false, not_true_eq_false, not_false_eq_true, false_or, or_false])
  have g4 : (32 ≤ nI top) = False := by (simp (disch := omega) only [vz_all, if_true, if_false, true_or, or_true, eq_self, ite_not, Bool.false_eq_true, ite_self, and_self, true_and, and_true, false_and, and_false, not_true_eq_false, not_false_eq_true, false_or, or_false])
  have g5 : xv_inB (nI top) 32 = true := by (simp (disch := omega) only [vz_all, if_true, if_false, true_or, or_true, eq_self, ite_not, Bool.false_eq_true, ite_self, and_self, true_and, and_true, false_and, and_false, not_true_eq_false, not_false_eq_true, false_or, or_false])
  refine ⟨xv_u2 J 12 top v.toInt64, some (.int 48), ?_, fun a ha => xu_ne ha, fun j hj => xu_ne2 (by omega), xu_eq⟩
  conv => lhs; unfold xb_Law_run_10
  simp only [xr_all, xf_all, if_true, if_false, true_or, or_true, eq_self, ite_not, Bool.false_eq_true, ite_self, and_self, true_and, and_true, false_and, and_false, not_true_eq_false, not_false_eq_true, xj_Law_run, xb_Law_run_0, xb_Law_run_48, xb_Law_run_79, xb_Law_run_86, xb_Law_run_93, xb_Law_run_136, xb_Law_run_147, xb_Law_run_151, xb_Law_run_192, xb_Law_run_198, xb_Law_run_215, xb_Law_run_218, g1, g2, g3, nI_clamp (show s < 2 ^ 31 by omega), e1, g4, g5, nI_clamp (show top < 2 ^ 31 by omega), e2, nI_1]
/-- a letter -/
theorem l_c_let {S N : Nat → Int32} {s c f : Nat} (h1 : S s = nI c) (hl : l_let c = some f) : l_cS S N s (s + 1) 1 (fun F => some (F f)) := by
  refine ⟨Nat.lt_succ_self _, ⟨Nat.le_refl _, fun F F' q => congrArg some (q f (l_let_lt hl).1)⟩, fun ro d z C J to top x1 x6 k1 k2 k3 k4 => ?_⟩
  obtain ⟨e1, -⟩ := k1 s (Nat.le_refl _) (Nat.lt_succ_self _)
  rw [h1] at e1
  obtain ⟨hf, hc⟩ := l_let_lt hl
  have g1 : (nI to ≤ nI s) = False := by (simp (disch := omega) only [vz_all, if_true, if_false, true_or, or_true, eq_self, ite_not, Bool.false_eq_true, ite_self, and_self, true_and, and_true, false_and, and_false, not_true_eq_false, not_false_eq_true, false_or, or_false])
  have g2 : (240 ≤ nI s) = False := by (simp (disch := omega) only [vz_all, if_true, if_false, true_or, or_true, eq_self, ite_not, Bool.false_eq_true, ite_self, and_self, true_and, and_true, false_and, and_false, not_true_eq_false, not_false_eq_true, false_or, or_false])
  have g3 : xv_inB (nI s) 240 = true := by (simp (disch := omega) only [vz_all, if_true, if_false, true_or, or_true, eq_self, ite_not, Bool.false_eq_true, ite_self, and_self, true_and, and_true, false_and, and_false, not_true_eq_false, not_false_eq_true, false_or, or_false])
  have g4 : (32 ≤ nI top) = False := by (simp (disch := omega) only [vz_all, if_true, if_false, true_or, or_true, eq_self, ite_not, Bool.false_eq_true, ite_self, and_self, true_and, and_true, false_and, and_false, not_true_eq_false, not_false_eq_true, false_or, or_false])
  have g5 : xv_inB (nI top) 32 = true := by (simp (disch := omega) only [vz_all, if_true, if_false, true_or, or_true, eq_self, ite_not, Bool.false_eq_true, ite_self, and_self, true_and, and_true, false_and, and_false, not_true_eq_false, not_false_eq_true, false_or, or_false])
  have g6 : (nI c = 48) = False := by (simp (disch := omega) only [vz_all, if_true, if_false, true_or, or_true, eq_self, ite_not, Bool.false_eq_true, ite_self, and_self, true_and, and_true, false_and, and_false, not_true_eq_false, not_false_eq_true, false_or, or_false])
  have hil := xq_isLetter ro d (z, xv_mk C J) (c := c) (by omega)
  rw [hl, if_pos (show (some f).isSome = true from rfl)] at hil
  have hof := xq_Case_of ro d z C J hl
  have z1 : ((1 : Int32) = 0) = False := eq_false (by decide)
  refine ⟨xv_u2 J 12 top (C 21 f).toInt64, some (.int (nI c)), ?_, fun a ha => xu_ne ha, fun j hj => xu_ne2 (by omega), xu_eq⟩
  conv => lhs; unfold xb_Law_run_10
  simp only [xr_all, xf_all, if_true, if_false, true_or, or_true, eq_self, ite_not, Bool.false_eq_true, ite_self, and_self, true_and, and_true, false_and, and_false, not_true_eq_false, not_false_eq_true, xj_Law_run, xb_Law_run_0, xb_Law_run_48, xb_Law_run_79, xb_Law_run_86, xb_Law_run_93, xb_Law_run_136, xb_Law_run_147, xb_Law_run_151, xb_Law_run_192, xb_Law_run_198, xb_Law_run_215, xb_Law_run_218, g1, g2, g3, nI_clamp (show s < 2 ^ 31 by omega), e1, g4, g5, g6, hil, hof, z1, nI_clamp (show top < 2 ^ 31 by omega), nI_1]
/-- what is joined -/
theorem l_c_bin {S N : Nat → Int32} {s0 s1 s2 hA hB h ch : Nat} {A B D : l_D} (ha : l_cS S N s0 s1 hA A) (hb : l_cS S N s1 s2 hB B) (h1 : S s2 = nI ch) (hch : ch < 256) (hn : ch ≠ 48 ∧ ch ≠ 33 ∧ l_let ch = none) (hhA : hA ≤ h) (hhB : hB + 1 ≤ h) (hd8 : l_d8 D) (hj : ∀ (ro : xv_Ro) (d : Nat) (σ : xv_S) (F : Nat → Int32), xv_evm ro d 212 [.int (nI ch), .long (e64 (A F)), .long (e64 (B F))] σ = some (some (.long (e64 (D F))), σ)) : l_cS S N s0 (s2 + 1) h D := by
  have ha1 := ha.1
  have hb1 := hb.1
  have hb2 := hb.2.1.1
  refine ⟨by omega, ⟨by omega, hd8⟩, fun ro d z C J to top x1 x6 k1 k2 k3 k4 => ?_⟩
  obtain ⟨J1, y1, a1, a2, a3, a4⟩ := ha.2.2 ro d z C J to top x1 x6 (fun s q1 q2 => k1 s q1 (by omega)) (by omega) k3 (by omega)
  obtain ⟨J2, y2, b1, b2, b3, b4⟩ := hb.2.2 ro d z C J1 to (top + 1) x1 y1 (fun s q1 q2 => k1 s (by omega) (by omega)) (by omega) k3 (by omega)
  obtain ⟨e1, -⟩ := k1 s2 (by omega) (by omega)
  rw [h1] at e1
  have g1 : (nI to ≤ nI s2) = False := by (simp (disch := omega) only [vz_all, if_true, if_false, true_or, or_true, eq_self, ite_not, Bool.false_eq_true, ite_self, and_self, true_and, and_true, false_and, and_false, not_true_eq_false, not_false_eq_true, false_or, or_false])
  have g2 : (240 ≤ nI s2) = False := by (simp (disch := omega) only [vz_all, if_true, if_false, true_or, or_true, eq_self, ite_not, Bool.false_eq_true, ite_self, and_self, true_and, and_true, false_and, and_false, not_true_eq_false, not_false_eq_true, false_or, or_false])
  have g3 : xv_inB (nI s2) 240 = true := by (simp (disch := omega) only [vz_all, if_true, if_false, true_or, or_true, eq_self, ite_not, Bool.false_eq_true, ite_self, and_self, true_and, and_true, false_and, and_false, not_true_eq_false, not_false_eq_true, false_or, or_false])
  have g6 : (nI ch = 48) = False := by (simp (disch := omega) only [vz_all, if_true, if_false, true_or, or_true, eq_self, ite_not, Bool.false_eq_true, ite_self, and_self, true_and, and_true, false_and, and_false, not_true_eq_false, not_false_eq_true, false_or, or_false])
  have g7 : (nI ch = 33) = False := by (simp (disch := omega) only [vz_all, if_true, if_false, true_or, or_true, eq_self, ite_not, Bool.false_eq_true, ite_self, and_self, true_and, and_true, false_and, and_false, not_true_eq_false, not_false_eq_true, false_or, or_false])
  have hil := xq_isLetter ro d (z, xv_mk C J2) (c := ch) hch
  rw [hn.2.2, if_neg (by decide)] at hil
  have g8 : (nI (top + 1 + 1) < 2) = False := by (simp (disch := omega) only [vz_all, if_true, if_false, true_or, or_true, eq_self, ite_not, Bool.false_eq_true, ite_self, and_self, true_and, and_true, false_and, and_false, not_true_eq_false, not_false_eq_true, false_or, or_false])
  have e2 : nI (top + 1 + 1) - 2 = nI top := by
    rw [show (2 : Int32) = nI 2 from rfl, pk_sub (by omega), show top + 1 + 1 - 2 = top by omega]
  have e3 : nI (top + 1 + 1) - 1 = nI (top + 1) := nI_pred (top + 1)
  have e4 : nI (top + 1 + 1) + -1 = nI (top + 1) := pk_m1 (top + 1)
  have i1 : xv_inB (nI top) 32 = true := by (simp (disch := omega) only [vz_all, if_true, if_false, true_or, or_true, eq_self, ite_not, Bool.false_eq_true, ite_self, and_self, true_and, and_true, false_and, and_false, not_true_eq_false, not_false_eq_true, false_or, or_false])
  have i2 : xv_inB (nI (top + 1)) 32 = true := by (simp (disch := omega) only [vz_all, if_true, if_false, true_or, or_true, eq_self, ite_not, Bool.false_eq_true, ite_self, and_self, true_and, and_true, false_and, and_false, not_true_eq_false, not_false_eq_true, false_or, or_false])
  have v1 : J2 12 top = e64 (A (C 21)) := by rw [b3 top (by omega)]; exact a4
  have hjj := hj ro d (z, xv_mk C J2) (C 21)
  refine ⟨xv_u2 J2 12 top (e64 (D (C 21))), some (.int (nI ch)), ?_, fun a q => by rw [xu_ne q, b2 a q, a2 a q], fun j q => by rw [xu_ne2 (by omega), b3 j (by omega), a3 j q], xu_eq⟩
  rw [a1, b1]
  conv => lhs; unfold xb_Law_run_10
  simp only [xr_all, xf_all, if_true, if_false, true_or, or_true, eq_self, ite_not, Bool.false_eq_true, ite_self, and_self, true_and, and_true, false_and, and_false, not_true_eq_false, not_false_eq_true, xj_Law_run, xb_Law_run_0, xb_Law_run_48, xb_Law_run_79, xb_Law_run_86, xb_Law_run_93, xb_Law_run_136, xb_Law_run_147, xb_Law_run_151, xb_Law_run_192, xb_Law_run_198, xb_Law_run_215, xb_Law_run_218, g1, g2, g3, nI_clamp (show s2 < 2 ^ 31 by omega), e1, g6, g7, g8, hil, e2, e3, e4, i1, i2, nI_clamp (show top < 2 ^ 31 by omega), nI_clamp (show top + 1 < 2 ^ 31 by omega), v1, b4, hjj, nI_1]
def l_bo (A : l_D) : Prop := ∀ F, A F = none ∨ A F = some 0 ∨ A F = some 1
def l_not (A : l_D) : l_D := fun F => match A F with
  | none => none
  | some x => some (1 - x)
theorem l_c_not {S N : Nat → Int32} {s0 s1 h : Nat} {A : l_D} (ha : l_cS S N s0 s1 h A) (hbo : l_bo A) (h1 : S s1 = 33) (hh : 1 ≤ h) : l_cS S N s0 (s1 + 1) h (l_not A) := by
  have ha1 := ha.1
  refine ⟨by omega, ⟨hh, fun F F' q => by unfold l_not; rw [ha.2.1.2 F F' q]⟩, fun ro d z C J to top x1 x6 k1 k2 k3 k4 => ?_⟩
  obtain ⟨J1, y1, a1, a2, a3, a4⟩ := ha.2.2 ro d z C J to top x1 x6 (fun s q1 q2 => k1 s q1 (by omega)) (by omega) k3 (by omega)
  obtain ⟨e1, -⟩ := k1 s1 (by omega) (by omega)
  rw [h1] at e1
  have g1 : (nI to ≤ nI s1) = False := by (simp (disch := omega) only [vz_all, if_true, if_false, true_or, or_true, eq_self, ite_not, Bool.false_eq_true, ite_self, and_self, true_and, and_true, false_and, and_false, not_true_eq_false, not_false_eq_true, false_or, or_false])
  have g2 : (240 ≤ nI s1) = False := by (simp (disch := omega) only [vz_all, if_true, if_false, true_or, or_true, eq_self, ite_not, Bool.false_eq_true, ite_self, and_self, true_and, and_true, false_and, and_false, not_true_eq_false, not_false_eq_true, false_or, or_false])
  have g3 : xv_inB (nI s1) 240 = true := by (simp (disch := omega) only [vz_all, if_true, if_false, true_or, or_true, eq_self, ite_not, Bool.false_eq_true, ite_self, and_self, true_and, and_true, false_and, and_false, not_true_eq_false, not_false_eq_true, false_or, or_false])
  have g6 : ((33 : Int32) = 48) = False := eq_false (by decide)
  have hil := xq_isLetter ro d (z, xv_mk C J1) (c := 33) (by omega)
  rw [show l_let 33 = none from rfl, if_neg (by decide), show nI 33 = (33 : Int32) from rfl] at hil
  have g8 : (nI (top + 1) < 1) = False := by (simp (disch := omega) only [vz_all, if_true, if_false, true_or, or_true, eq_self, ite_not, Bool.false_eq_true, ite_self, and_self, true_and, and_true, false_and, and_false, not_true_eq_false, not_false_eq_true, false_or, or_false])
  have e3 : nI (top + 1) - 1 = nI top := nI_pred top
  have i1 : xv_inB (nI top) 32 = true := by (simp (disch := omega) only [vz_all, if_true, if_false, true_or, or_true, eq_self, ite_not, Bool.false_eq_true, ite_self, and_self, true_and, and_true, false_and, and_false, not_true_eq_false, not_false_eq_true, false_or, or_false])
  have ct := nI_clamp (show top < 2 ^ 31 by omega)
  refine ⟨xv_u2 J1 12 top (e64 (l_not A (C 21))), some (.int 33), ?_, fun a q => by rw [xu_ne q, a2 a q], fun j q => by rw [xu_ne2 (by omega), a3 j q], xu_eq⟩
  rw [a1]
  conv => lhs; unfold xb_Law_run_10
  unfold l_not
  rcases hbo (C 21) with c | c | c
  · rw [c] at a4 ⊢
    have a4 : J1 12 top = 1099511627776 := a4
    simp only [xr_all, xf_all, if_true, if_false, true_or, or_true, eq_self, ite_not, Bool.false_eq_true, ite_self, and_self, true_and, and_true, false_and, and_false, not_true_eq_false, not_false_eq_true, xj_Law_run, xb_Law_run_0, xb_Law_run_48, xb_Law_run_79, xb_Law_run_86, xb_Law_run_93, xb_Law_run_136, xb_Law_run_147, xb_Law_run_151, xb_Law_run_192, xb_Law_run_198, xb_Law_run_215, xb_Law_run_218, g1, g2, g3, nI_clamp (show s1 < 2 ^ 31 by omega), e1, g6, g8, hil, e3, i1, ct, a4, e64_nn, nI_1]
    rfl
  · rw [c] at a4 ⊢
    have a4 : J1 12 top = (0 : Int32).toInt64 := a4
    have n1 := e64_n 0
    have s1' : (1 : Int64) - (0 : Int32).toInt64 = e64 (some (1 - 0)) := by decide
    simp only [xr_all, xf_all, if_true, if_false, true_or, or_true, eq_self, ite_not, Bool.false_eq_true, ite_self, and_self, true_and, and_true, false_and, and_false, not_true_eq_false, not_false_eq_true, xj_Law_run, xb_Law_run_0, xb_Law_run_48, xb_Law_run_79, xb_Law_run_86, xb_Law_run_93, xb_Law_run_136, xb_Law_run_147, xb_Law_run_151, xb_Law_run_192, xb_Law_run_198, xb_Law_run_215, xb_Law_run_218, g1, g2, g3, nI_clamp (show s1 < 2 ^ 31 by omega), e1, g6, g8, hil, e3, i1, ct, a4, n1, s1', nI_1]
  · rw [c] at a4 ⊢
    have a4 : J1 12 top = (1 : Int32).toInt64 := a4
    have n1 := e64_n 1
    have s1' : (1 : Int64) - (1 : Int32).toInt64 = e64 (some (1 - 1)) := by decide
    simp only [xr_all, xf_all, if_true, if_false, true_or, or_true, eq_self, ite_not, Bool.false_eq_true, ite_self, and_self, true_and, and_true, false_and, and_false, not_true_eq_false, not_false_eq_true, xj_Law_run, xb_Law_run_0, xb_Law_run_48, xb_Law_run_79, xb_Law_run_86, xb_Law_run_93, xb_Law_run_136, xb_Law_run_147, xb_Law_run_151, xb_Law_run_192, xb_Law_run_198, xb_Law_run_215, xb_Law_run_218, g1, g2, g3, nI_clamp (show s1 < 2 ^ 31 by omega), e1, g6, g8, hil, e3, i1, ct, a4, n1, s1', nI_1]
def l_bin (w : Nat) (A B : l_D) : l_D := fun F => match A F with
  | none => none
  | some x => match B F with
    | none => none
    | some y => l_op w x y
def l_and (A B : l_D) : l_D := fun F => match A F with
  | none => none
  | some x => if x = 0 then some 0 else B F
def l_or (A B : l_D) : l_D := fun F => match A F with
  | none => none
  | some x => if x = 1 then some 1 else B F
theorem l_ch_n {w : Nat} (hw : 2 ≤ w ∧ w ≤ 9) : l_ch w < 256 ∧ l_ch w ≠ 48 ∧ l_ch w ≠ 33 ∧ l_let (l_ch w) = none := by
  have hw2 : w = 2 ∨ w = 3 ∨ w = 4 ∨ w = 5 ∨ w = 6 ∨ w = 7 ∨ w = 8 ∨ w = 9 := by omega
  rcases hw2 with rfl | rfl | rfl | rfl | rfl | rfl | rfl | rfl <;> exact ⟨by decide, by decide, by decide, by decide⟩
theorem l_c_op {S N : Nat → Int32} {s0 s1 s2 hA hB h w : Nat} {A B : l_D} (ha : l_cS S N s0 s1 hA A) (hb : l_cS S N s1 s2 hB B) (hw : 2 ≤ w ∧ w ≤ 9) (h1 : S s2 = nI (l_ch w)) (hhA : hA ≤ h) (hhB : hB + 1 ≤ h) : l_cS S N s0 (s2 + 1) h (l_bin w A B) := by
  obtain ⟨c1, c2⟩ := l_ch_n hw
  refine l_c_bin ha hb h1 c1 c2 hhA hhB (fun F F' q => by unfold l_bin; rw [ha.2.1.2 F F' q, hb.2.1.2 F F' q]) (fun ro d σ F => ?_)
  unfold l_bin
  cases A F with
  | none => exact xq_join_l ro d σ _ _
  | some x =>
    cases B F with
    | none => exact xq_join_r ro d σ hw x
    | some y => exact xq_join ro d σ hw x y
theorem l_c_and {S N : Nat → Int32} {s0 s1 s2 hA hB h : Nat} {A B : l_D} (ha : l_cS S N s0 s1 hA A) (hb : l_cS S N s1 s2 hB B) (h1 : S s2 = 38) (hhA : hA ≤ h) (hhB : hB + 1 ≤ h) : l_cS S N s0 (s2 + 1) h (l_and A B) := by
  refine l_c_bin (ch := 38) ha hb h1 (by omega) ⟨by omega, by omega, rfl⟩ hhA hhB (fun F F' q => by unfold l_and; rw [ha.2.1.2 F F' q, hb.2.1.2 F F' q]) (fun ro d σ F => ?_)
  unfold l_and
  cases A F with
  | none => exact xq_join_l ro d σ _ _
  | some x =>
    have := xq_join_and ro d σ x (e64 (B F))
    dsimp only
    by_cases c : x = 0
    · rw [if_pos c] at this ⊢; exact this
    · rw [if_neg c] at this ⊢; exact this
theorem l_c_or {S N : Nat → Int32} {s0 s1 s2 hA hB h : Nat} {A B : l_D} (ha : l_cS S N s0 s1 hA A) (hb : l_cS S N s1 s2 hB B) (h1 : S s2 = 124) (hhA : hA ≤ h) (hhB : hB + 1 ≤ h) : l_cS S N s0 (s2 + 1) h (l_or A B) := by
  refine l_c_bin (ch := 124) ha hb h1 (by omega) ⟨by omega, by omega, rfl⟩ hhA hhB (fun F F' q => by unfold l_or; rw [ha.2.1.2 F F' q, hb.2.1.2 F F' q]) (fun ro d σ F => ?_)
  unfold l_or
  cases A F with
  | none => exact xq_join_l ro d σ _ _
  | some x =>
    have := xq_join_or ro d σ x (e64 (B F))
    dsimp only
    by_cases c : x = 1
    · rw [if_pos c] at this ⊢; exact this
    · rw [if_neg c] at this ⊢; exact this
/-! the model's stretches -/
theorem l_U {w v : Nat} (hw : w ≤ 14) (hv : v < 1048576) : nI (1048576 * w + v) / 1048576 = nI w ∧ nI (1048576 * w + v) - nI w * 1048576 = nI v := by
  have h1 := pk_div (a := 1048576 * w + v) (d := 1048576) (by omega) (by omega) (by omega)
  have h2 := pk_rem (a := 1048576 * w + v) (d := 1048576) (by omega) (by omega) (by omega)
  rw [show (1048576 * w + v) / 1048576 = w by omega] at h1
  rw [h1, show (1048576 * w + v) % 1048576 = v by omega] at h2
  exact ⟨h1, h2⟩
theorem l_m_num {K : Nat → Int32} {c v : Nat} (hv : v < 1048576) (h1 : K c = nI (1048576 * 0 + v)) : l_mS K c (c + 1) (fun _ => some (nI v)) := by
  refine ⟨Nat.lt_succ_self _, fun ro d z M J to n x1 x6 x7 k1 k2 k3 k4 => ⟨fun h => (by cases h), fun u hu => ?_⟩⟩
  cases hu
  have e1 := (k1 c (Nat.le_refl _) (Nat.lt_succ_self _)).trans h1
  obtain ⟨u1, u2⟩ := l_U (w := 0) (v := v) (by omega) hv
  have g1 : (nI to ≤ nI c) = False := by (simp (disch := omega) only [vz_all, if_true, if_false, true_or, or_true, eq_self, ite_not, Bool.false_eq_true, ite_self, and_self, true_and, and_true, false_and, and_false, not_true_eq_false, not_false_eq_true, false_or, or_false])
  have g3 : xv_inB (nI c) 260 = true := by (simp (disch := omega) only [vz_all, if_true, if_false, true_or, or_true, eq_self, ite_not, Bool.false_eq_true, ite_self, and_self, true_and, and_true, false_and, and_false, not_true_eq_false, not_false_eq_true, false_or, or_false])
  have g5 : xv_inB (nI n) 260 = true := by (simp (disch := omega) only [vz_all, if_true, if_false, true_or, or_true, eq_self, ite_not, Bool.false_eq_true, ite_self, and_self, true_and, and_true, false_and, and_false, not_true_eq_false, not_false_eq_true, false_or, or_false])
  have z1 : ((1048576 : Int32) = 0) = False := eq_false (by decide)
  rw [show nI 0 = (0 : Int32) from rfl] at u1 u2
  refine ⟨xv_u2 M 185 n (nI v), some (.int 0), some (.int (nI v)), ?_, fun a q => xu_ne q, fun j q => xu_ne2 (by omega), xu_eq⟩
  conv => lhs; unfold xb_Mo_comesTo_16
  simp only [xr_all, xf_all, if_true, if_false, true_or, or_true, eq_self, ite_not, Bool.false_eq_true, ite_self, and_self, true_and, and_true, false_and, and_false, not_true_eq_false, not_false_eq_true, xj_Mo_comesTo, xb_Mo_comesTo_0, xb_Mo_comesTo_63, xb_Mo_comesTo_78, xb_Mo_comesTo_85, xb_Mo_comesTo_93, xb_Mo_comesTo_121, xb_Mo_comesTo_135, xb_Mo_comesTo_154, xb_Mo_comesTo_155, xb_Mo_comesTo_168, xb_Mo_comesTo_175, xb_Mo_comesTo_192, xb_Mo_comesTo_203, xb_Mo_comesTo_230, xb_Mo_comesTo_233, g1, g3, nI_clamp (show c < 2 ^ 31 by omega), e1, u1, u2, z1, g5, nI_clamp (show n < 2 ^ 31 by omega), nI_1]
theorem l_m_let {K : Nat → Int32} {c f : Nat} (hf : f < 8) (h1 : K c = nI (1048576 * 1 + f)) : l_mS K c (c + 1) (fun F => some (F f)) := by
  refine ⟨Nat.lt_succ_self _, fun ro d z M J to n x1 x6 x7 k1 k2 k3 k4 => ⟨fun h => (by cases h), fun u hu => ?_⟩⟩
  cases hu
  have e1 := (k1 c (Nat.le_refl _) (Nat.lt_succ_self _)).trans h1
  obtain ⟨u1, u2⟩ := l_U (w := 1) (v := f) (by omega) (by omega)
  have g1 : (nI to ≤ nI c) = False := by (simp (disch := omega) only [vz_all, if_true, if_false, true_or, or_true, eq_self, ite_not, Bool.false_eq_true, ite_self, and_self, true_and, and_true, false_and, and_false, not_true_eq_false, not_false_eq_true, false_or, or_false])
  have g3 : xv_inB (nI c) 260 = true := by (simp (disch := omega) only [vz_all, if_true, if_false, true_or, or_true, eq_self, ite_not, Bool.false_eq_true, ite_self, and_self, true_and, and_true, false_and, and_false, not_true_eq_false, not_false_eq_true, false_or, or_false])
  have g5 : xv_inB (nI n) 260 = true := by (simp (disch := omega) only [vz_all, if_true, if_false, true_or, or_true, eq_self, ite_not, Bool.false_eq_true, ite_self, and_self, true_and, and_true, false_and, and_false, not_true_eq_false, not_false_eq_true, false_or, or_false])
  have g6 : xv_inB (nI f) 8 = true := by (simp (disch := omega) only [vz_all, if_true, if_false, true_or, or_true, eq_self, ite_not, Bool.false_eq_true, ite_self, and_self, true_and, and_true, false_and, and_false, not_true_eq_false, not_false_eq_true, false_or, or_false])
  have z1 : ((1048576 : Int32) = 0) = False := eq_false (by decide)
  have z2 : ((1 : Int32) = 0) = False := eq_false (by decide)
  rw [show nI 1 = (1 : Int32) from rfl] at u1 u2
  refine ⟨xv_u2 M 185 n (M 186 f), some (.int 1), some (.int (nI f)), ?_, fun a q => xu_ne q, fun j q => xu_ne2 (by omega), xu_eq⟩
  conv => lhs; unfold xb_Mo_comesTo_16
  simp only [xr_all, xf_all, if_true, if_false, true_or, or_true, eq_self, ite_not, Bool.false_eq_true, ite_self, and_self, true_and, and_true, false_and, and_false, not_true_eq_false, not_false_eq_true, xj_Mo_comesTo, xb_Mo_comesTo_0, xb_Mo_comesTo_63, xb_Mo_comesTo_78, xb_Mo_comesTo_85, xb_Mo_comesTo_93, xb_Mo_comesTo_121, xb_Mo_comesTo_135, xb_Mo_comesTo_154, xb_Mo_comesTo_155, xb_Mo_comesTo_168, xb_Mo_comesTo_175, xb_Mo_comesTo_192, xb_Mo_comesTo_203, xb_Mo_comesTo_230, xb_Mo_comesTo_233, g1, g3, nI_clamp (show c < 2 ^ 31 by omega), e1, u1, u2, z1, z2, g5, g6, nI_clamp (show n < 2 ^ 31 by omega), nI_clamp (show f < 2 ^ 31 by omega), nI_1]
theorem l_m_not {K : Nat → Int32} {c0 c1 : Nat} {A : l_D} (ha : l_mS K c0 c1 A) (h1 : K c1 = nI (1048576 * 10 + 0)) : l_mS K c0 (c1 + 1) (l_not A) := by
  have ha1 := ha.1
  refine ⟨by omega, fun ro d z M J to n x1 x6 x7 k1 k2 k3 k4 => ?_⟩
  obtain ⟨p1, p2⟩ := ha.2 ro d z M J to n x1 x6 x7 (fun c q1 q2 => k1 c q1 (by omega)) (by omega) k3 k4
  have e1 := (k1 c1 (by omega) (by omega)).trans h1
  refine ⟨fun h => ?_, fun u hu => ?_⟩
  · unfold l_not at h
    cases hA : A (M 186) with
    | none => exact p1 hA
    | some x => rw [hA] at h; cases h
  · unfold l_not at hu
    cases hA : A (M 186) with
    | none => rw [hA] at hu; cases hu
    | some x =>
      rw [hA] at hu
      cases hu
      obtain ⟨M1, y6, y7, a1, a2, a3, a4⟩ := p2 x hA
      obtain ⟨u1, u2⟩ := l_U (w := 10) (v := 0) (by omega) (by omega)
      have e1' : M1 180 c1 = nI (1048576 * 10 + 0) := by rw [a2 180 (by omega)]; exact e1
      have g1 : (nI to ≤ nI c1) = False := by (simp (disch := omega) only [vz_all, if_true, if_false, true_or, or_true, eq_self, ite_not, Bool.false_eq_true, ite_self, and_self, true_and, and_true, false_and, and_false, not_true_eq_false, not_false_eq_true, false_or, or_false])
      have g3 : xv_inB (nI c1) 260 = true := by (simp (disch := omega) only [vz_all, if_true, if_false, true_or, or_true, eq_self, ite_not, Bool.false_eq_true, ite_self, and_self, true_and, and_true, false_and, and_false, not_true_eq_false, not_false_eq_true, false_or, or_false])
      have g5 : xv_inB (nI n) 260 = true := by (simp (disch := omega) only [vz_all, if_true, if_false, true_or, or_true, eq_self, ite_not, Bool.false_eq_true, ite_self, and_self, true_and, and_true, false_and, and_false, not_true_eq_false, not_false_eq_true, false_or, or_false])
      have z1 : ((1048576 : Int32) = 0) = False := eq_false (by decide)
      have z2 : ((10 : Int32) = 0) = False := eq_false (by decide)
      have z3 : ((10 : Int32) = 1) = False := eq_false (by decide)
      rw [show nI 10 = (10 : Int32) from rfl] at u1 u2
      refine ⟨xv_u2 M1 185 n (1 - x), some (.int 10), some (.int (nI 0)), ?_, fun a q => by rw [xu_ne q]; exact a2 a q, fun j q => by rw [xu_ne2 (by omega)]; exact a3 j q, xu_eq⟩
      rw [a1]
      conv => lhs; unfold xb_Mo_comesTo_16
      simp only [xr_all, xf_all, if_true, if_false, true_or, or_true, eq_self, ite_not, Bool.false_eq_true, ite_self, and_self, true_and, and_true, false_and, and_false, not_true_eq_false, not_false_eq_true, xj_Mo_comesTo, xb_Mo_comesTo_0, xb_Mo_comesTo_63, xb_Mo_comesTo_78, xb_Mo_comesTo_85, xb_Mo_comesTo_93, xb_Mo_comesTo_121, xb_Mo_comesTo_135, xb_Mo_comesTo_154, xb_Mo_comesTo_155, xb_Mo_comesTo_168, xb_Mo_comesTo_175, xb_Mo_comesTo_192, xb_Mo_comesTo_203, xb_Mo_comesTo_230, xb_Mo_comesTo_233, g1, g3, nI_clamp (show c1 < 2 ^ 31 by omega), e1', u1, u2, z1, z2, z3, nI_pred, g5, nI_clamp (show n < 2 ^ 31 by omega), a4, nI_1]
theorem l_m_op {K : Nat → Int32} {c0 c1 c2 w : Nat} {A B : l_D} (ha : l_mS K c0 c1 A) (hb : l_mS K c1 c2 B) (hw : 2 ≤ w ∧ w ≤ 9) (h1 : K c2 = nI (1048576 * w + 0)) : l_mS K c0 (c2 + 1) (l_bin w A B) := by
  have ha1 := ha.1
  have hb1 := hb.1
  refine ⟨by omega, fun ro d z M J to n x1 x6 x7 k1 k2 k3 k4 => ?_⟩
  obtain ⟨p1, p2⟩ := ha.2 ro d z M J to n x1 x6 x7 (fun c q1 q2 => k1 c q1 (by omega)) (by omega) k3 k4
  have e1 := (k1 c2 (by omega) (by omega)).trans h1
  cases hA : A (M 186) with
  | none =>
    refine ⟨fun _ => p1 hA, fun u hu => ?_⟩
    unfold l_bin at hu
    rw [hA] at hu; cases hu
  | some x =>
    obtain ⟨M1, y6, y7, a1, a2, a3, a4⟩ := p2 x hA
    have m186 : M1 186 = M 186 := a2 186 (by omega)
    obtain ⟨r1, r2⟩ := hb.2 ro d z M1 J to (n + 1) x1 y6 y7 (fun c q1 q2 => by rw [a2 180 (by omega)]; exact k1 c (by omega) (by omega)) (by omega) k3 (by omega)
    rw [m186] at r1 r2
    cases hB : B (M 186) with
    | none =>
      obtain ⟨M2, b1, b2⟩ := r1 hB
      refine ⟨fun _ => ⟨M2, a1.trans b1, fun a q => (b2 a q).trans (a2 a q)⟩, fun u hu => ?_⟩
      unfold l_bin at hu
      rw [hA, hB] at hu; cases hu
    | some y =>
      obtain ⟨M2, w6, w7, b1, b2, b3, b4⟩ := r2 y hB
      have eD : l_bin w A B (M 186) = l_op w x y := by unfold l_bin; rw [hA, hB]
      rw [eD]
      obtain ⟨u1, u2⟩ := l_U (w := w) (v := 0) (by omega) (by omega)
      have e1' : M2 180 c2 = nI (1048576 * w + 0) := by rw [b2 180 (by omega), a2 180 (by omega)]; exact e1
      have v1 : M2 185 n = x := by rw [b3 n (by omega)]; exact a4
      have g1 : (nI to ≤ nI c2) = False := by (simp (disch := omega) only [vz_all, if_true, if_false, true_or, or_true, eq_self, ite_not, Bool.false_eq_true, ite_self, and_self, true_and, and_true, false_and, and_false, not_true_eq_false, not_false_eq_true, false_or, or_false])
      have g3 : xv_inB (nI c2) 260 = true := by (simp (disch := omega) only [vz_all, if_true, if_false, true_or, or_true, eq_self, ite_not, Bool.false_eq_true, ite_self, and_self, true_and, and_true, false_and, and_false, not_true_eq_false, not_false_eq_true, false_or, or_false])
      have g5 : xv_inB (nI n) 260 = true := by (simp (disch := omega) only [vz_all, if_true, if_false, true_or, or_true, eq_self, ite_not, Bool.false_eq_true, ite_self, and_self, true_and, and_true, false_and, and_false, not_true_eq_false, not_false_eq_true, false_or, or_false])
      have g6 : xv_inB (nI (n + 1)) 260 = true := by (simp (disch := omega) only [vz_all, if_true, if_false, true_or, or_true, eq_self, ite_not, Bool.false_eq_true, ite_self, and_self, true_and, and_true, false_and, and_false, not_true_eq_false, not_false_eq_true, false_or, or_false])
      have z1 : ((1048576 : Int32) = 0) = False := eq_false (by decide)
      have w0 : (nI w = 0) = False := by (simp (disch := omega) only [vz_all, if_true, if_false, true_or, or_true, eq_self, ite_not, Bool.false_eq_true, ite_self, and_self, true_and, and_true, false_and, and_false, not_true_eq_false, not_false_eq_true, false_or, or_false])
      have w1 : (nI w = 1) = False := by (simp (disch := omega) only [vz_all, if_true, if_false, true_or, or_true, eq_self, ite_not, Bool.false_eq_true, ite_self, and_self, true_and, and_true, false_and, and_false, not_true_eq_false, not_false_eq_true, false_or, or_false])
      have w10 : (nI w = 10) = False := by (simp (disch := omega) only [vz_all, if_true, if_false, true_or, or_true, eq_self, ite_not, Bool.false_eq_true, ite_self, and_self, true_and, and_true, false_and, and_false, not_true_eq_false, not_false_eq_true, false_or, or_false])
      have w11 : (nI w = 11) = False := by (simp (disch := omega) only [vz_all, if_true, if_false, true_or, or_true, eq_self, ite_not, Bool.false_eq_true, ite_self, and_self, true_and, and_true, false_and, and_false, not_true_eq_false, not_false_eq_true, false_or, or_false])
      have w12 : (nI w = 12) = False := by (simp (disch := omega) only [vz_all, if_true, if_false, true_or, or_true, eq_self, ite_not, Bool.false_eq_true, ite_self, and_self, true_and, and_true, false_and, and_false, not_true_eq_false, not_false_eq_true, false_or, or_false])
      have e3 : nI (n + 1 + 1) - 1 = nI (n + 1) := nI_pred (n + 1)
      have e4 : nI (n + 1) - 1 = nI n := nI_pred n
      have good : ∀ v, l_op w x y = some v → (w = 5 ∨ w = 6 → ¬ y = 0) → ∃ (M1 : Nat → Nat → Int32) (x6' x7' : Option Value), xv_ev ro (d + 1) xm_Mo_comesTo xb_Mo_comesTo_16 [some (.ref 167), some (.int x1), some (.int (nI to)), some (.int (nI n)), some (.int 0), some (.int (nI c0)), x6, x7] [] (z, xv_mk M J) = xv_ev ro (d + 1) xm_Mo_comesTo xb_Mo_comesTo_16 [some (.ref 167), some (.int x1), some (.int (nI to)), some (.int (nI (n + 1))), some (.int 0), some (.int (nI (c2 + 1))), x6', x7'] [] (z, xv_mk M1 J) ∧ (∀ a, a ≠ 185 → M1 a = M a) ∧ (∀ j, j < n → M1 185 j = M 185 j) ∧ M1 185 n = v := by
        intro v hv hy0
        have hre := xq_reckon ro d (z, xv_mk M2 J) hw x y v hv
        refine ⟨xv_u2 M2 185 n v, some (.int (nI w)), some (.int (nI 0)), ?_, fun a q => by rw [xu_ne q, b2 a q, a2 a q], fun j q => by rw [xu_ne2 (by omega), b3 j (by omega), a3 j q], xu_eq⟩
        rw [a1, b1]
        conv => lhs; unfold xb_Mo_comesTo_16
        by_cases c5 : w = 5
        · have q5 : (nI w = 5) = True := by (simp (disch := omega) only [vz_all, if_true, if_false, true_or, or_true, eq_self, ite_not, Bool.false_eq_true, ite_self, and_self, true_and, and_true, false_and, and_false, not_true_eq_false, not_false_eq_true, false_or, or_false])
          have hy := hy0 (Or.inl c5)
          simp only [xr_all, xf_all, if_true, if_false, true_or, or_true, eq_self, ite_not, Bool.false_eq_true, ite_self, and_self, true_and, and_true, false_and, and_false, not_true_eq_false, not_false_eq_true, xj_Mo_comesTo, xb_Mo_comesTo_0, xb_Mo_comesTo_63, xb_Mo_comesTo_78, xb_Mo_comesTo_85, xb_Mo_comesTo_93, xb_Mo_comesTo_121, xb_Mo_comesTo_135, xb_Mo_comesTo_154, xb_Mo_comesTo_155, xb_Mo_comesTo_168, xb_Mo_comesTo_175, xb_Mo_comesTo_192, xb_Mo_comesTo_203, xb_Mo_comesTo_230, xb_Mo_comesTo_233, g1, g3, nI_clamp (show c2 < 2 ^ 31 by omega), e1', u1, u2, z1, w0, w1, w10, w11, w12, q5, e3, e4, g5, g6, nI_clamp (show n < 2 ^ 31 by omega), nI_clamp (show n + 1 < 2 ^ 31 by omega), b4, v1, hy, hre, nI_1]
        · have q5 : (nI w = 5) = False := by (simp (disch := omega) only [vz_all, if_true, if_false, true_or, or_true, eq_self, ite_not, Bool.false_eq_true, ite_self, and_self, true_and, and_true, false_and, and_false, not_true_eq_false, not_false_eq_true, false_or, or_false])
          by_cases c6 : w = 6
          · have q6 : (nI w = 6) = True := by (simp (disch := omega) only [vz_all, if_true, if_false, true_or, or_true, eq_self, ite_not, Bool.false_eq_true, ite_self, and_self, true_and, and_true, false_and, and_false, not_true_eq_false, not_false_eq_true, false_or, or_false])
            have hy := hy0 (Or.inr c6)
            simp only [xr_all, xf_all, if_true, if_false, true_or, or_true, eq_self, ite_not, Bool.false_eq_true, ite_self, and_self, true_and, and_true, false_and, and_false, not_true_eq_false, not_false_eq_true, xj_Mo_comesTo, xb_Mo_comesTo_0, xb_Mo_comesTo_63, xb_Mo_comesTo_78, xb_Mo_comesTo_85, xb_Mo_comesTo_93, xb_Mo_comesTo_121, xb_Mo_comesTo_135, xb_Mo_comesTo_154, xb_Mo_comesTo_155, xb_Mo_comesTo_168, xb_Mo_comesTo_175, xb_Mo_comesTo_192, xb_Mo_comesTo_203, xb_Mo_comesTo_230, xb_Mo_comesTo_233, g1, g3, nI_clamp (show c2 < 2 ^ 31 by omega), e1', u1, u2, z1, w0, w1, w10, w11, w12, q5, q6, e3, e4, g5, g6, nI_clamp (show n < 2 ^ 31 by omega), nI_clamp (show n + 1 < 2 ^ 31 by omega), b4, v1, hy, hre, nI_1]
          · have q6 : (nI w = 6) = False := by (simp (disch := omega) only [vz_all, if_true, if_false, true_or, or_true, eq_self, ite_not, Bool.false_eq_true, ite_self, and_self, true_and, and_true, false_and, and_false, not_true_eq_false, not_false_eq_true, false_or, or_false])
            simp only [xr_all, xf_all, if_true, if_false, true_or, or_true, eq_self, ite_not, Bool.false_eq_true, ite_self, and_self, true_and, and_true, false_and, and_false, not_true_eq_false, not_false_eq_true, xj_Mo_comesTo, xb_Mo_comesTo_0, xb_Mo_comesTo_63, xb_Mo_comesTo_78, xb_Mo_comesTo_85, xb_Mo_comesTo_93, xb_Mo_comesTo_121, xb_Mo_comesTo_135, xb_Mo_comesTo_154, xb_Mo_comesTo_155, xb_Mo_comesTo_168, xb_Mo_comesTo_175, xb_Mo_comesTo_192, xb_Mo_comesTo_203, xb_Mo_comesTo_230, xb_Mo_comesTo_233, g1, g3, nI_clamp (show c2 < 2 ^ 31 by omega), e1', u1, u2, z1, w0, w1, w10, w11, w12, q5, q6, e3, e4, g5, g6, nI_clamp (show n < 2 ^ 31 by omega), nI_clamp (show n + 1 < 2 ^ 31 by omega), b4, v1, hre, nI_1]
      have opn : (w = 5 ∨ w = 6) → y = 0 → l_op w x y = none := by
        rintro (rfl | rfl) h0
        · show (if y = 0 then none else _) = none
          rw [if_pos h0]
        · show (if y = 0 then none else _) = none
          rw [if_pos h0]
      have ops : ¬ ((w = 5 ∨ w = 6) ∧ y = 0) → ∃ v, l_op w x y = some v := by
        intro hno
        have hw2 : w = 2 ∨ w = 3 ∨ w = 4 ∨ w = 5 ∨ w = 6 ∨ w = 7 ∨ w = 8 ∨ w = 9 := by omega
        rcases hw2 with rfl | rfl | rfl | rfl | rfl | rfl | rfl | rfl
        · exact ⟨_, rfl⟩
        · exact ⟨_, rfl⟩
        · exact ⟨_, rfl⟩
        · have h0 : ¬ y = 0 := fun q => hno ⟨Or.inl rfl, q⟩
          exact ⟨_, if_neg h0⟩
        · have h0 : ¬ y = 0 := fun q => hno ⟨Or.inr rfl, q⟩
          exact ⟨_, if_neg h0⟩
        · exact ⟨_, rfl⟩
        · exact ⟨_, rfl⟩
        · exact ⟨_, rfl⟩
      by_cases hbad : (w = 5 ∨ w = 6) ∧ y = 0
      · rw [opn hbad.1 hbad.2]
        refine ⟨fun _ => ⟨M2, ?_, fun a q => (b2 a q).trans (a2 a q)⟩, fun v hv => by cases hv⟩
        have hy := hbad.2
        rw [hy] at b4
        rw [a1, b1]
        conv => lhs; unfold xb_Mo_comesTo_16
        by_cases c5 : w = 5
        · have q5 : (nI w = 5) = True := by (simp (disch := omega) only [vz_all, if_true, if_false, true_or, or_true, eq_self, ite_not, Bool.false_eq_true, ite_self, and_self, true_and, and_true, false_and, and_false, not_true_eq_false, not_false_eq_true, false_or, or_false])
          simp only [xr_all, xf_all, if_true, if_false, true_or, or_true, eq_self, ite_not, Bool.false_eq_true, ite_self, and_self, true_and, and_true, false_and, and_false, not_true_eq_false, not_false_eq_true, xj_Mo_comesTo, xb_Mo_comesTo_0, xb_Mo_comesTo_63, xb_Mo_comesTo_78, xb_Mo_comesTo_85, xb_Mo_comesTo_93, xb_Mo_comesTo_121, xb_Mo_comesTo_135, xb_Mo_comesTo_154, xb_Mo_comesTo_155, xb_Mo_comesTo_168, xb_Mo_comesTo_175, xb_Mo_comesTo_192, xb_Mo_comesTo_203, xb_Mo_comesTo_230, xb_Mo_comesTo_233, g1, g3, nI_clamp (show c2 < 2 ^ 31 by omega), e1', u1, u2, z1, w0, w1, w10, w11, w12, q5, e3, e4, g5, g6, nI_clamp (show n < 2 ^ 31 by omega), nI_clamp (show n + 1 < 2 ^ 31 by omega), b4, v1]
        · have q5 : (nI w = 5) = False := by (simp (disch := omega) only [vz_all, if_true, if_false, true_or, or_true, eq_self, ite_not, Bool.false_eq_true, ite_self, and_self, true_and, and_true, false_and, and_false, not_true_eq_false, not_false_eq_true, false_or, or_false])
          have q6 : (nI w = 6) = True := by (simp (disch := omega) only [vz_all, if_true, if_false, true_or, or_true, eq_self, ite_not, Bool.false_eq_true, ite_self, and_self, true_and, and_true, false_and, and_false, not_true_eq_false, not_false_eq_true, false_or, or_false])
          simp only [xr_all, xf_all, if_true, if_false, true_or, or_true, eq_self, ite_not, Bool.false_eq_true, ite_self, and_self, true_and, and_true, false_and, and_false, not_true_eq_false, not_false_eq_true, xj_Mo_comesTo, xb_Mo_comesTo_0, xb_Mo_comesTo_63, xb_Mo_comesTo_78, xb_Mo_comesTo_85, xb_Mo_comesTo_93, xb_Mo_comesTo_121, xb_Mo_comesTo_135, xb_Mo_comesTo_154, xb_Mo_comesTo_155, xb_Mo_comesTo_168, xb_Mo_comesTo_175, xb_Mo_comesTo_192, xb_Mo_comesTo_203, xb_Mo_comesTo_230, xb_Mo_comesTo_233, g1, g3, nI_clamp (show c2 < 2 ^ 31 by omega), e1', u1, u2, z1, w0, w1, w10, w11, w12, q5, q6, e3, e4, g5, g6, nI_clamp (show n < 2 ^ 31 by omega), nI_clamp (show n + 1 < 2 ^ 31 by omega), b4, v1]
      · obtain ⟨v, hv⟩ := ops hbad
        refine ⟨fun h => (by rw [hv] at h; cases h), fun u hu => good u hu (fun q0 q1 => hbad ⟨q0, q1⟩)⟩
theorem l_m_jump {K : Nat → Int32} {c0 c1 c2 w : Nat} {A B : l_D} (ha : l_mS K c0 c1 A) (hb : l_mS K (c1 + 1) c2 B) (hw : w = 11 ∨ w = 12) (hc2 : c2 ≤ 260) (h1 : K c1 = nI (1048576 * w + c2)) : l_mS K c0 c2 (if w = 11 then l_and A B else l_or A B) := by
  have ha1 := ha.1
  have hb1 := hb.1
  refine ⟨by omega, fun ro d z M J to n x1 x6 x7 k1 k2 k3 k4 => ?_⟩
  obtain ⟨p1, p2⟩ := ha.2 ro d z M J to n x1 x6 x7 (fun c q1 q2 => k1 c q1 (by omega)) (by omega) k3 k4
  have e1 := (k1 c1 (by omega) (by omega)).trans h1
  cases hA : A (M 186) with
  | none =>
    refine ⟨fun _ => p1 hA, fun u hu => ?_⟩
    exfalso
    rcases hw with rfl | rfl
    · rw [if_pos rfl] at hu; unfold l_and at hu; rw [hA] at hu; cases hu
    · rw [if_neg (by omega)] at hu; unfold l_or at hu; rw [hA] at hu; cases hu
  | some x =>
    obtain ⟨M1, y6, y7, a1, a2, a3, a4⟩ := p2 x hA
    have m186 : M1 186 = M 186 := a2 186 (by omega)
    obtain ⟨u1, u2⟩ := l_U (w := w) (v := c2) (by omega) (by omega)
    have e1' : M1 180 c1 = nI (1048576 * w + c2) := by rw [a2 180 (by omega)]; exact e1
    have g1 : (nI to ≤ nI c1) = False := by (simp (disch := omega) only [vz_all, if_true, if_false, true_or, or_true, eq_self, ite_not, Bool.false_eq_true, ite_self, and_self, true_and, and_true, false_and, and_false, not_true_eq_false, not_false_eq_true, false_or, or_false])
    have g3 : xv_inB (nI c1) 260 = true := by (simp (disch := omega) only [vz_all, if_true, if_false, true_or, or_true, eq_self, ite_not, Bool.false_eq_true, ite_self, and_self, true_and, and_true, false_and, and_false, not_true_eq_false, not_false_eq_true, false_or, or_false])
    have g5 : xv_inB (nI n) 260 = true := by (simp (disch := omega) only [vz_all, if_true, if_false, true_or, or_true, eq_self, ite_not, Bool.false_eq_true, ite_self, and_self, true_and, and_true, false_and, and_false, not_true_eq_false, not_false_eq_true, false_or, or_false])
    have z1 : ((1048576 : Int32) = 0) = False := eq_false (by decide)
    have w0 : (nI w = 0) = False := by (simp (disch := omega) only [vz_all, if_true, if_false, true_or, or_true, eq_self, ite_not, Bool.false_eq_true, ite_self, and_self, true_and, and_true, false_and, and_false, not_true_eq_false, not_false_eq_true, false_or, or_false])
    have w1 : (nI w = 1) = False := by (simp (disch := omega) only [vz_all, if_true, if_false, true_or, or_true, eq_self, ite_not, Bool.false_eq_true, ite_self, and_self, true_and, and_true, false_and, and_false, not_true_eq_false, not_false_eq_true, false_or, or_false])
    have w10 : (nI w = 10) = False := by (simp (disch := omega) only [vz_all, if_true, if_false, true_or, or_true, eq_self, ite_not, Bool.false_eq_true, ite_self, and_self, true_and, and_true, false_and, and_false, not_true_eq_false, not_false_eq_true, false_or, or_false])
    have e4 : nI (n + 1) - 1 = nI n := nI_pred n
    have e0 : (0 : Int32) + nI c2 = nI c2 := Int32.zero_add _
    have jump : ∀ x0 : Int32, x0 = (if w = 11 then 0 else 1) → x = x0 → xv_ev ro (d + 1) xm_Mo_comesTo xb_Mo_comesTo_16 [some (.ref 167), some (.int x1), some (.int (nI to)), some (.int (nI n)), some (.int 0), some (.int (nI c0)), x6, x7] [] (z, xv_mk M J) = xv_ev ro (d + 1) xm_Mo_comesTo xb_Mo_comesTo_16 [some (.ref 167), some (.int x1), some (.int (nI to)), some (.int (nI (n + 1))), some (.int 0), some (.int (nI c2)), some (.int (nI w)), some (.int (nI c2))] [] (z, xv_mk M1 J) := by
      intro x0 h0 hx
      rw [a1]
      conv => lhs; unfold xb_Mo_comesTo_16
      rcases hw with rfl | rfl
      · rw [if_pos rfl] at h0
        rw [hx, h0] at a4
        have w11 : (nI 11 = 11) = True := eq_true rfl
        have w12 : (nI 11 = 12) = False := eq_false (by decide)
        simp only [xr_all, xf_all, if_true, if_false, true_or, or_true, eq_self, ite_not, Bool.false_eq_true, ite_self, and_self, true_and, and_true, false_and, and_false, not_true_eq_false, not_false_eq_true, xj_Mo_comesTo, xb_Mo_comesTo_0, xb_Mo_comesTo_63, xb_Mo_comesTo_78, xb_Mo_comesTo_85, xb_Mo_comesTo_93, xb_Mo_comesTo_121, xb_Mo_comesTo_135, xb_Mo_comesTo_154, xb_Mo_comesTo_155, xb_Mo_comesTo_168, xb_Mo_comesTo_175, xb_Mo_comesTo_192, xb_Mo_comesTo_203, xb_Mo_comesTo_230, xb_Mo_comesTo_233, g1, g3, nI_clamp (show c1 < 2 ^ 31 by omega), e1', u1, u2, z1, w0, w1, w10, w11, w12, e4, e0, g5, nI_clamp (show n < 2 ^ 31 by omega), a4]
      · rw [if_neg (by omega)] at h0
        rw [hx, h0] at a4
        have w11 : (nI 12 = 11) = False := eq_false (by decide)
        have w12 : (nI 12 = 12) = True := eq_true rfl
        simp only [xr_all, xf_all, if_true, if_false, true_or, or_true, eq_self, ite_not, Bool.false_eq_true, ite_self, and_self, true_and, and_true, false_and, and_false, not_true_eq_false, not_false_eq_true, xj_Mo_comesTo, xb_Mo_comesTo_0, xb_Mo_comesTo_63, xb_Mo_comesTo_78, xb_Mo_comesTo_85, xb_Mo_comesTo_93, xb_Mo_comesTo_121, xb_Mo_comesTo_135, xb_Mo_comesTo_154, xb_Mo_comesTo_155, xb_Mo_comesTo_168, xb_Mo_comesTo_175, xb_Mo_comesTo_192, xb_Mo_comesTo_203, xb_Mo_comesTo_230, xb_Mo_comesTo_233, g1, g3, nI_clamp (show c1 < 2 ^ 31 by omega), e1', u1, u2, z1, w0, w1, w10, w11, w12, e4, e0, g5, nI_clamp (show n < 2 ^ 31 by omega), a4]
    have fall : ∀ x0 : Int32, x0 = (if w = 11 then 0 else 1) → ¬ x = x0 → xv_ev ro (d + 1) xm_Mo_comesTo xb_Mo_comesTo_16 [some (.ref 167), some (.int x1), some (.int (nI to)), some (.int (nI n)), some (.int 0), some (.int (nI c0)), x6, x7] [] (z, xv_mk M J) = xv_ev ro (d + 1) xm_Mo_comesTo xb_Mo_comesTo_16 [some (.ref 167), some (.int x1), some (.int (nI to)), some (.int (nI n)), some (.int 0), some (.int (nI (c1 + 1))), some (.int (nI w)), some (.int (nI c2))] [] (z, xv_mk M1 J) := by
      intro x0 h0 hx
      rw [a1]
      conv => lhs; unfold xb_Mo_comesTo_16
      rcases hw with rfl | rfl
      · rw [if_pos rfl] at h0
        rw [h0] at hx
        have w11 : (nI 11 = 11) = True := eq_true rfl
        have w12 : (nI 11 = 12) = False := eq_false (by decide)
        simp only [xr_all, xf_all, if_true, if_false, true_or, or_true, eq_self, ite_not, Bool.false_eq_true, ite_self, and_self, true_and, and_true, false_and, and_false, not_true_eq_false, not_false_eq_true, xj_Mo_comesTo, xb_Mo_comesTo_0, xb_Mo_comesTo_63, xb_Mo_comesTo_78, xb_Mo_comesTo_85, xb_Mo_comesTo_93, xb_Mo_comesTo_121, xb_Mo_comesTo_135, xb_Mo_comesTo_154, xb_Mo_comesTo_155, xb_Mo_comesTo_168, xb_Mo_comesTo_175, xb_Mo_comesTo_192, xb_Mo_comesTo_203, xb_Mo_comesTo_230, xb_Mo_comesTo_233, g1, g3, nI_clamp (show c1 < 2 ^ 31 by omega), e1', u1, u2, z1, w0, w1, w10, w11, w12, e4, e0, g5, nI_clamp (show n < 2 ^ 31 by omega), a4, hx, nI_1]
      · rw [if_neg (by omega)] at h0
        rw [h0] at hx
        have w11 : (nI 12 = 11) = False := eq_false (by decide)
        have w12 : (nI 12 = 12) = True := eq_true rfl
        simp only [xr_all, xf_all, if_true, if_false, true_or, or_true, eq_self, ite_not, Bool.false_eq_true, ite_self, and_self, true_and, and_true, false_and, and_false, not_true_eq_false, not_false_eq_true, xj_Mo_comesTo, xb_Mo_comesTo_0, xb_Mo_comesTo_63, xb_Mo_comesTo_78, xb_Mo_comesTo_85, xb_Mo_comesTo_93, xb_Mo_comesTo_121, xb_Mo_comesTo_135, xb_Mo_comesTo_154, xb_Mo_comesTo_155, xb_Mo_comesTo_168, xb_Mo_comesTo_175, xb_Mo_comesTo_192, xb_Mo_comesTo_203, xb_Mo_comesTo_230, xb_Mo_comesTo_233, g1, g3, nI_clamp (show c1 < 2 ^ 31 by omega), e1', u1, u2, z1, w0, w1, w10, w11, w12, e4, e0, g5, nI_clamp (show n < 2 ^ 31 by omega), a4, hx, nI_1]
    by_cases hx : x = (if w = 11 then 0 else 1)
    · have eD : (if w = 11 then l_and A B else l_or A B) (M 186) = some x := by
        rcases hw with rfl | rfl
        · rw [if_pos rfl] at hx ⊢
          unfold l_and
          rw [hA]
          show (if x = 0 then some 0 else _) = _
          rw [if_pos hx, hx]
        · rw [if_neg (by omega)] at hx ⊢
          unfold l_or
          rw [hA]
          show (if x = 1 then some 1 else _) = _
          rw [if_pos hx, hx]
      rw [eD]
      refine ⟨fun h => (by cases h), fun u hu => ?_⟩
      cases hu
      exact ⟨M1, _, _, jump _ rfl hx, a2, a3, a4⟩
    · have eD : (if w = 11 then l_and A B else l_or A B) (M 186) = B (M 186) := by
        rcases hw with rfl | rfl
        · rw [if_pos rfl] at hx ⊢
          unfold l_and
          rw [hA]
          show (if x = 0 then some 0 else _) = _
          rw [if_neg hx]
        · rw [if_neg (by omega)] at hx ⊢
          unfold l_or
          rw [hA]
          show (if x = 1 then some 1 else _) = _
          rw [if_neg hx]
      rw [eD]
      obtain ⟨r1, r2⟩ := hb.2 ro d z M1 J to n x1 (some (.int (nI w))) (some (.int (nI c2))) (fun c q1 q2 => by rw [a2 180 (by omega)]; exact k1 c (by omega) (by omega)) (by omega) k3 (by omega)
      rw [m186] at r1 r2
      refine ⟨fun h => ?_, fun u hu => ?_⟩
      · obtain ⟨M2, b1, b2⟩ := r1 h
        exact ⟨M2, (fall _ rfl hx).trans b1, fun a q => (b2 a q).trans (a2 a q)⟩
      · obtain ⟨M2, w6, w7, b1, b2, b3, b4⟩ := r2 u hu
        exact ⟨M2, w6, w7, (fall _ rfl hx).trans b1, fun a q => (b2 a q).trans (a2 a q), fun j q => (b3 j q).trans (a3 j q), b4⟩
