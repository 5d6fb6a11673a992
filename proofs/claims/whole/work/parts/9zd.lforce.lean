/-! the law in force: VL; what it is asked -/
def l_ki (I : Nat → Nat → Int32) (j : Nat) (g : Nat × l_D × l_D) : Prop := (∃ s0 s1 s2 : Nat, s2 ≤ 240 ∧ I 8 j = nI g.1 ∧ I 9 j = nI s0 ∧ I 10 j = nI s1 ∧ I 11 j = nI s2 ∧ l_cS (I 6) (I 7) s0 s1 32 g.2.1 ∧ l_cS (I 6) (I 7) s1 s2 32 g.2.2) ∧ ∃ c0 c1 c2 : Nat, c2 ≤ 240 ∧ I 181 j = nI g.1 ∧ I 182 j = nI c0 ∧ I 183 j = nI c1 ∧ I 184 j = nI c2 ∧ l_mS (I 180) c0 c1 g.2.1 ∧ l_mS (I 180) c1 c2 g.2.2
def l_VL : xv_LP := fun I => ∃ (r : Nat) (G : Nat → Nat × l_D × l_D), r ≤ 16 ∧ I 5 8 = nI r ∧ I 167 16 = nI r ∧ ∀ j, j < r → vl_ok (G j).1 ∧ l_ki I j (G j)
theorem l_VLc : vi_Lc l_VL := by
  intro I I' h1 h2 h3 h
  obtain ⟨r, G, a1, a2, a3, a4⟩ := h
  refine ⟨r, G, a1, by rw [h1 5 (by omega) (by omega)]; exact a2, by rw [h2]; exact a3, fun j hj => ?_⟩
  obtain ⟨b1, b2, b3⟩ := a4 j hj
  refine ⟨b1, ?_, ?_⟩
  · rw [h1 6 (by omega) (by omega), h1 7 (by omega) (by omega), h1 8 (by omega) (by omega), h1 9 (by omega) (by omega), h1 10 (by omega) (by omega), h1 11 (by omega) (by omega)]
    exact b2
  · rw [h3 180 (by omega) (by omega), h3 181 (by omega) (by omega), h3 182 (by omega) (by omega), h3 183 (by omega) (by omega), h3 184 (by omega) (by omega)]
    exact b3
theorem l_VLR : ∀ I, l_VL I → I 5 8 = I 167 16 := by
  rintro I ⟨r, G, a1, a2, a3, a4⟩
  rw [a2, a3]
def l_cl (h : Nat) : Option Int32 → Nat
  | none => 0
  | some x => if x.toInt ≤ 0 then 0 else if (h : Int) ≤ x.toInt then h else x.toInt.toNat
theorem l_cl_le (h : Nat) (x : Option Int32) : l_cl h x ≤ h := by
  unfold l_cl
  cases x with
  | none => exact Nat.zero_le _
  | some x =>
    dsimp only
    split
    · exact Nat.zero_le _
    · split
      · exact Nat.le_refl _
      · omega
theorem l_nIn {x : Int32} (h : 0 ≤ x.toInt) : x = nI x.toInt.toNat := by
  apply Int32.toInt_inj.mp
  have h2 := Int32.toInt_lt x
  rw [nI_toInt (by omega)]
  omega
theorem l_clC (x : Int32) {h : Nat} (hh : h < 2 ^ 31) : (if (if x.toInt64 < (nI h).toInt64 then x.toInt64 else (nI h).toInt64) < 0 then (0 : Int64) else (if x.toInt64 < (nI h).toInt64 then x.toInt64 else (nI h).toInt64)).toInt32 = nI (l_cl h (some x)) := by
  have e1 : (x.toInt64 < (nI h).toInt64) = (x.toInt < (h : Int)) := by
    apply propext
    rw [Int64.lt_iff_toInt_lt, Int32.toInt_toInt64, Int32.toInt_toInt64, nI_toInt hh]
  have e2 : (x.toInt64 < 0) = (x.toInt < 0) := by
    apply propext
    rw [Int64.lt_iff_toInt_lt, Int32.toInt_toInt64]
    exact Iff.rfl
  have e3 : ((nI h).toInt64 < 0) = False := by
    apply eq_false
    rw [Int64.lt_iff_toInt_lt, Int32.toInt_toInt64, nI_toInt hh]
    show ¬ (h : Int) < 0
    omega
  unfold l_cl
  dsimp only
  by_cases c : x.toInt < (h : Int)
  · rw [if_pos (e1.mpr c)]
    by_cases c2 : x.toInt < 0
    · rw [if_pos (e2.mpr c2), if_pos (by omega)]
      rfl
    · rw [if_neg (fun q => c2 (e2.mp q)), e64_i]
      by_cases c3 : x.toInt ≤ 0
      · rw [if_pos c3]
        have := l_nIn (x := x) (by omega)
        rw [this, show x.toInt.toNat = 0 by omega]
      · rw [if_neg c3, if_neg (by omega)]
        exact l_nIn (by omega)
  · rw [if_neg (fun q => c (e1.mp q)), if_neg (fun q => e3.mp q), e64_i]
    by_cases c3 : x.toInt ≤ 0
    · rw [if_pos c3]
      exact congrArg nI (by omega)
    · rw [if_neg c3, if_pos (by omega)]
def l_fr (G : Nat → Nat × l_D × l_D) (k : Nat) (F : Nat → Int32) : Nat → Nat → Nat
  | 0, _ => 0
  | m + 1, i => if (G i).1 = k ∧ (G i).2.2 F = some 1 then l_cl (vl_hi k) ((G i).2.1 F) else l_fr G k F m (i + 1)
theorem l_fr_le (G : Nat → Nat × l_D × l_D) (k : Nat) (F : Nat → Int32) : ∀ m i, l_fr G k F m i ≤ vl_hi k := by
  intro m
  induction m with
  | zero => intro i; exact Nat.zero_le _
  | succ m ih =>
    intro i
    unfold l_fr
    split
    · exact l_cl_le _ _
    · exact ih (i + 1)
theorem l_fr_8 {G : Nat → Nat × l_D × l_D} {r : Nat} (h : ∀ j, j < r → l_d8 (G j).2.1 ∧ l_d8 (G j).2.2) (k : Nat) {F F' : Nat → Int32} (hF : ∀ f, f < 8 → F f = F' f) : ∀ m i, i + m = r → l_fr G k F m i = l_fr G k F' m i := by
  intro m
  induction m with
  | zero => intro i _; rfl
  | succ m ih =>
    intro i hi
    obtain ⟨h1, h2⟩ := h i (by omega)
    unfold l_fr
    rw [h1 F F' hF, h2 F F' hF, ih (i + 1) (by omega)]
theorem xq_run (ro : xv_Ro) (d : Nat) (z : Nat × Nat) (C : Nat → Nat → Int32) (J : Nat → Nat → Int64) {s0 s1 : Nat} {D : l_D} (hS : l_cS (C 6) (C 7) s0 s1 32 D) (hs : s1 ≤ 240) : ∃ J1 : Nat → Nat → Int64, xv_evm ro (d + 2) 211 [.ref 5, .int (nI s0), .int (nI s1), .ref 21] (z, xv_mk C J) = some (some (.long (e64 (D (C 21)))), (z, xv_mk C J1)) ∧ ∀ a, a ≠ 12 → J1 a = J a := by
  obtain ⟨J1, x6, k1, k2, k3, k4⟩ := hS.2.2 ro (d + 1) z C J s1 0 (nI s0) none (fun s _ _ => ⟨rfl, rfl⟩) (Nat.le_refl _) hs (by omega)
  have s01 := hS.1
  have gm : (if (0 : Int32) < nI s0 then nI s0 else 0) = nI s0 := by
    by_cases c : s0 = 0
    · rw [c]; rfl
    · rw [if_pos (by
        have : (0 < nI s0) = True := by (simp (disch := omega) only [vz_all, if_true, if_false, true_or, or_true, eq_self, ite_not, Bool.false_eq_true, ite_self, and_self, true_and, and_true, false_and, and_false, not_true_eq_false, not_false_eq_true, false_or, or_false])
        rw [this]; trivial)]
  refine ⟨J1, ?_, k2⟩
  have st : xv_evm ro (d + 2) 211 [.ref 5, .int (nI s0), .int (nI s1), .ref 21] (z, xv_mk C J) = xv_ev ro (d + 1 + 1) xm_Law_run xb_Law_run_10 [some (.ref 5), some (.int (nI s0)), some (.int (nI s1)), some (.ref 21), some (.int (nI 0)), some (.int (nI s0)), none] [] (z, xv_mk C J) := by
    rw [xe_Law_run, show nI 0 = (0 : Int32) from rfl]
    simp only [xr_all, xf_all, if_true, if_false, true_or, or_true, eq_self, ite_not, Bool.false_eq_true, ite_self, and_self, true_and, and_true, false_and, and_false, not_true_eq_false, not_false_eq_true, xj_Law_run, xb_Law_run_0, xb_Law_run_48, xb_Law_run_79, xb_Law_run_86, xb_Law_run_93, xb_Law_run_136, xb_Law_run_147, xb_Law_run_151, xb_Law_run_192, xb_Law_run_198, xb_Law_run_215, xb_Law_run_218, gm]
  rw [st, k1]
  have g : (nI s1 ≤ nI s1) = True := eq_true (Int32.le_refl _)
  have t1 : ((1 : Int32) ≤ 0) = False := eq_false (by decide)
  conv => lhs; unfold xb_Law_run_10
  rw [show nI (0 + 1) = (1 : Int32) from rfl]
  simp only [xr_all, xf_all, if_true, if_false, true_or, or_true, eq_self, ite_not, Bool.false_eq_true, ite_self, and_self, true_and, and_true, false_and, and_false, not_true_eq_false, not_false_eq_true, xj_Law_run, xb_Law_run_0, xb_Law_run_48, xb_Law_run_79, xb_Law_run_86, xb_Law_run_93, xb_Law_run_136, xb_Law_run_147, xb_Law_run_151, xb_Law_run_192, xb_Law_run_198, xb_Law_run_215, xb_Law_run_218, g, t1]
  rw [← k4]
  rfl
def l_or0 : Option Int32 → Int32
  | none => 0
  | some x => x
theorem xq_comesTo (ro : xv_Ro) (d : Nat) (z : Nat × Nat) (M : Nat → Nat → Int32) (J : Nat → Nat → Int64) {c0 c1 : Nat} {D : l_D} (hS : l_mS (M 180) c0 c1 D) (hc : c1 ≤ 240) : ∃ M1 : Nat → Nat → Int32, xv_evm ro (d + 2) 79 [.ref 167, .int (nI c0), .int (nI c1)] (z, xv_mk M J) = some (some (.int (l_or0 (D (M 186)))), (z, xv_mk M1 J)) ∧ ∀ a, a ≠ 185 → M1 a = M a := by
  obtain ⟨k1, k2⟩ := hS.2 ro (d + 1) z M J c1 0 (nI c0) none none (fun s _ _ => rfl) (Nat.le_refl _) (by omega) (by omega)
  have h01 := hS.1
  have e1 : nI c0 / 260 = 0 := by
    have := pk_div (a := c0) (d := 260) (by omega) (by omega) (by omega)
    rw [show nI 260 = (260 : Int32) from rfl, show c0 / 260 = 0 by omega] at this
    exact this
  have e2 : (260 : Int32) * 0 = 0 := rfl
  have z1 : ((260 : Int32) = 0) = False := eq_false (by decide)
  have st : xv_evm ro (d + 2) 79 [.ref 167, .int (nI c0), .int (nI c1)] (z, xv_mk M J) = xv_ev ro (d + 1 + 1) xm_Mo_comesTo xb_Mo_comesTo_16 [some (.ref 167), some (.int (nI c0)), some (.int (nI c1)), some (.int (nI 0)), some (.int 0), some (.int (nI c0)), none, none] [] (z, xv_mk M J) := by
    rw [xe_Mo_comesTo, show nI 0 = (0 : Int32) from rfl]
    simp only [xr_all, xf_all, if_true, if_false, true_or, or_true, eq_self, ite_not, Bool.false_eq_true, ite_self, and_self, true_and, and_true, false_and, and_false, not_true_eq_false, not_false_eq_true, xj_Mo_comesTo, xb_Mo_comesTo_0, xb_Mo_comesTo_63, xb_Mo_comesTo_78, xb_Mo_comesTo_85, xb_Mo_comesTo_93, xb_Mo_comesTo_121, xb_Mo_comesTo_135, xb_Mo_comesTo_154, xb_Mo_comesTo_155, xb_Mo_comesTo_168, xb_Mo_comesTo_175, xb_Mo_comesTo_192, xb_Mo_comesTo_203, xb_Mo_comesTo_230, xb_Mo_comesTo_233, e1, e2, z1]
  rw [st]
  cases hD : D (M 186) with
  | none =>
    obtain ⟨M1, q1, q2⟩ := k1 hD
    exact ⟨M1, q1, q2⟩
  | some v =>
    obtain ⟨M1, x6, x7, q1, q2, q3, q4⟩ := k2 v hD
    refine ⟨M1, ?_, q2⟩
    rw [q1]
    have g : (nI c1 ≤ nI c1) = True := eq_true (Int32.le_refl _)
    conv => lhs; unfold xb_Mo_comesTo_16
    simp only [xr_all, xf_all, if_true, if_false, true_or, or_true, eq_self, ite_not, Bool.false_eq_true, ite_self, and_self, true_and, and_true, false_and, and_false, not_true_eq_false, not_false_eq_true, xj_Mo_comesTo, xb_Mo_comesTo_0, xb_Mo_comesTo_63, xb_Mo_comesTo_78, xb_Mo_comesTo_85, xb_Mo_comesTo_93, xb_Mo_comesTo_121, xb_Mo_comesTo_135, xb_Mo_comesTo_154, xb_Mo_comesTo_155, xb_Mo_comesTo_168, xb_Mo_comesTo_175, xb_Mo_comesTo_192, xb_Mo_comesTo_203, xb_Mo_comesTo_230, xb_Mo_comesTo_233, g]
    rw [← q4]
    rfl
