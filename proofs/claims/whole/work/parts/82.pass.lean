/-! weeks go by: the class's pass, the model's weeksGo -/
def vx_10 (fn : Nat → (Nat → Int32) → Nat) (m : Nat) (hh : Nat → Nat) (t : Nat) (T : vx_T) : Nat → vx_T
  | 0 => T
  | w + 1 => vx_1 fn m hh t w (vx_10 fn m hh t T w)
def vx_wk (fn : Nat → (Nat → Int32) → Nat) (m : Nat) (hh : Nat → Nat) : Nat → Nat → vx_T → Nat × vx_T
  | 0, t, T => (t, T)
  | k + 1, t, T => if t < 999 then vx_wk fn m hh k (t + 1) (vx_10 fn m hh t T 10) else (t, T)
theorem vx_W10 (fn : Nat → (Nat → Int32) → Nat) (m : Nat) {hh : Nat → Nat} (t : Nat) {T : vx_T} (h : vx_W hh T) : ∀ w, w ≤ 10 → vx_W hh (vx_10 fn m hh t T w) := by
  intro w
  induction w with
  | zero => intro _; exact h
  | succ w ih => intro hw; exact vx_W1 fn m t (by omega) (ih (by omega))
theorem vx_Wwk (fn : Nat → (Nat → Int32) → Nat) (m : Nat) {hh : Nat → Nat} : ∀ (k t : Nat) (T : vx_T), t ≤ 999 → vx_W hh T → (vx_wk fn m hh k t T).1 ≤ 999 ∧ vx_W hh (vx_wk fn m hh k t T).2 := by
  intro k
  induction k with
  | zero => intro t T ht h; exact ⟨ht, h⟩
  | succ k ih =>
    intro t T ht h
    show (if t < 999 then vx_wk fn m hh k (t + 1) (vx_10 fn m hh t T 10) else (t, T)).1 ≤ 999 ∧ vx_W hh (if t < 999 then vx_wk fn m hh k (t + 1) (vx_10 fn m hh t T 10) else (t, T)).2
    by_cases c : t < 999
    · rw [if_pos c]; exact ih _ _ (by omega) (vx_W10 fn m t h 10 (Nat.le_refl 10))
    · rw [if_neg c]; exact ⟨ht, h⟩
def vx_fC (C C1 : Nat → Nat → Int32) (A : Nat) : Prop := (∀ a, a ≠ 21 → a < A ∨ A + 23 ≤ a → C1 a = C a) ∧ ∀ k, k < 3 → C1 A k = C A k
theorem vx_fCt {C C1 C2 : Nat → Nat → Int32} {A : Nat} (h1 : vx_fC C C1 A) (h2 : vx_fC C1 C2 A) : vx_fC C C2 A :=
  ⟨fun a q1 q2 => (h2.1 a q1 q2).trans (h1.1 a q1 q2), fun k q => (h2.2 k q).trans (h1.2 k q)⟩
theorem xq_passW (ro : xv_Ro) (d : Nat) (z : Nat × Nat) {I : Nat → Nat → Int32} {fn : Nat → (Nat → Int32) → Nat} (hf : vl_fn I fn) {A m n : Nat} {hh : Nat → Nat} (hA : vAr A) (hn : n ≤ 60) : ∀ (k i t : Nat) (T : vx_T) (C : Nat → Nat → Int32) (J : Nat → Nat → Int64) (u : Option Value), i + k = n → t ≤ 999 → (∀ a, 5 ≤ a → a < 12 → C a = I a) → vx_C C A m hh t T → vx_W hh T → ∃ (C1 : Nat → Nat → Int32) (J1 : Nat → Nat → Int64), (∀ a, a ≠ 12 → J1 a = J a) ∧ xv_ev ro (d + 6) xm_Archive_pass xb_Archive_pass_13 [some (.ref A), some (.int (nI n)), some (.ref 5), some (.ref 21), some (.int (nI i)), u] [] (z, xv_mk C J) = some (none, (z, xv_mk C1 J1)) ∧ vx_C C1 A m hh (vx_wk fn m hh k t T).1 (vx_wk fn m hh k t T).2 ∧ vx_fC C C1 A := by
  have hA25 : 25 ≤ A := by rcases hA with rfl | rfl | rfl <;> omega
  intro k
  induction k with
  | zero =>
    intro i t T C J u hi ht hC hR hW
    obtain rfl : i = n := by omega
    refine ⟨C, J, fun _ _ => rfl, ?_, hR, fun _ _ _ => rfl, fun _ _ => rfl⟩
    have g1 : (nI i ≤ nI i) = True := by (simp (disch := omega) only [vz_all, if_true, if_false, true_or, or_true, eq_self, ite_not, Bool.false_eq_true, ite_self, and_self, true_and, and_true, false_and, and_false, not_true_eq_false, not_false_eq_true, false_or, or_false])
    conv => lhs; unfold xb_Archive_pass_13
    simp only [xr_all, xf_all, if_true, if_false, true_or, or_true, eq_self, ite_not, Bool.false_eq_true, ite_self, and_self, true_and, and_true, false_and, and_false, not_true_eq_false, not_false_eq_true, xj_Archive_pass, xb_Archive_pass_0, xb_Archive_pass_53, xb_Archive_pass_69, g1]
  | succ k ih =>
    intro i t T C J u hi ht hC hR hW
    have g1 : (nI n ≤ nI i) = False := by (simp (disch := omega) only [vz_all, if_true, if_false, true_or, or_true, eq_self, ite_not, Bool.false_eq_true, ite_self, and_self, true_and, and_true, false_and, and_false, not_true_eq_false, not_false_eq_true, false_or, or_false])
    have r1 := hR.1
    by_cases c : t < 999
    rotate_left
    · have e : vx_wk fn m hh (k + 1) t T = (t, T) := by
        show (if t < 999 then vx_wk fn m hh k (t + 1) (vx_10 fn m hh t T 10) else (t, T)) = _
        rw [if_neg c]
      rw [e]
      refine ⟨C, J, fun _ _ => rfl, ?_, hR, fun _ _ _ => rfl, fun _ _ => rfl⟩
      have g2 : (999 ≤ nI t) = True := by (simp (disch := omega) only [vz_all, if_true, if_false, true_or, or_true, eq_self, ite_not, Bool.false_eq_true, ite_self, and_self, true_and, and_true, false_and, and_false, not_true_eq_false, not_false_eq_true, false_or, or_false])
      conv => lhs; unfold xb_Archive_pass_13
      simp only [xr_all, xf_all, if_true, if_false, true_or, or_true, eq_self, ite_not, Bool.false_eq_true, ite_self, and_self, true_and, and_true, false_and, and_false, not_true_eq_false, not_false_eq_true, xj_Archive_pass, xb_Archive_pass_0, xb_Archive_pass_53, xb_Archive_pass_69, g1, vAr_f hA, r1, g2]
    · have e : vx_wk fn m hh (k + 1) t T = vx_wk fn m hh k (t + 1) (vx_10 fn m hh t T 10) := by
        show (if t < 999 then vx_wk fn m hh k (t + 1) (vx_10 fn m hh t T 10) else (t, T)) = _
        rw [if_pos c]
      rw [e]
      have g2 : (999 ≤ nI t) = False := by (simp (disch := omega) only [vz_all, if_true, if_false, true_or, or_true, eq_self, ite_not, Bool.false_eq_true, ite_self, and_self, true_and, and_true, false_and, and_false, not_true_eq_false, not_false_eq_true, false_or, or_false])
      have inner : ∀ w, w ≤ 10 → ∃ (C1 : Nat → Nat → Int32) (J1 : Nat → Nat → Int64), (∀ a, a ≠ 12 → J1 a = J a) ∧ xv_ev ro (d + 6) xm_Archive_pass xb_Archive_pass_32 [some (.ref A), some (.int (nI n)), some (.ref 5), some (.ref 21), some (.int (nI i)), some (.int 0)] [] (z, xv_mk C J) = xv_ev ro (d + 6) xm_Archive_pass xb_Archive_pass_32 [some (.ref A), some (.int (nI n)), some (.ref 5), some (.ref 21), some (.int (nI i)), some (.int (nI w))] [] (z, xv_mk C1 J1) ∧ vx_C C1 A m hh t (vx_10 fn m hh t T w) ∧ vx_fC C C1 A := by
        intro w
        induction w with
        | zero => intro _; exact ⟨C, J, fun _ _ => rfl, rfl, hR, fun _ _ _ => rfl, fun _ _ => rfl⟩
        | succ w ihw =>
          intro hw
          obtain ⟨C1, J1, a1, a2, a3, a4⟩ := ihw (by omega)
          obtain ⟨C2, J2, b1, b2, b3, b4, b5⟩ := xq_live ro d z C1 J1 hf (fun a q1 q2 => by rw [a4.1 a (by omega) (by omega)]; exact hC a q1 q2) hA (show w < 10 by omega) a3 (vx_W10 fn m t hW w (by omega))
          refine ⟨C2, J2, fun a q => by rw [b1 a q, a1 a q], ?_, b3, vx_fCt a4 ⟨b4, b5⟩⟩
          rw [a2]
          have g3 : (10 ≤ nI w) = False := by (simp (disch := omega) only [vz_all, if_true, if_false, true_or, or_true, eq_self, ite_not, Bool.false_eq_true, ite_self, and_self, true_and, and_true, false_and, and_false, not_true_eq_false, not_false_eq_true, false_or, or_false])
          conv => lhs; unfold xb_Archive_pass_32
          simp only [xr_all, xf_all, if_true, if_false, true_or, or_true, eq_self, ite_not, Bool.false_eq_true, ite_self, and_self, true_and, and_true, false_and, and_false, not_true_eq_false, not_false_eq_true, xj_Archive_pass, xb_Archive_pass_0, xb_Archive_pass_53, xb_Archive_pass_69, g3, vAr_f hA, b2, nI_1]
      obtain ⟨C1, J1, a1, a2, a3, a4⟩ := inner 10 (Nat.le_refl 10)
      have hR2 : vx_C (xv_u2 C1 A 3 (nI (t + 1))) A m hh (t + 1) (vx_10 fn m hh t T 10) := by
        obtain ⟨s1, s2, s3, s4, s5⟩ := a3
        refine ⟨xu_eq, by rw [xu_ne2 (by omega)]; exact s2, by rw [xu_ne2 (by omega)]; exact s3, by rw [xu_ne2 (by omega)]; exact s4, fun w hw => ?_⟩
        rw [xu_ne (by omega), xu_ne (by omega)]; exact s5 w hw
      obtain ⟨C2, J2, b1, b2, b3, b4⟩ := ih (i + 1) (t + 1) (vx_10 fn m hh t T 10) (xv_u2 C1 A 3 (nI (t + 1))) J1 (some (.int (nI 10))) (by omega) (by omega) (fun a q1 q2 => by rw [xu_ne (by omega), a4.1 a (by omega) (by omega)]; exact hC a q1 q2) hR2 (vx_W10 fn m t hW 10 (Nat.le_refl 10))
      refine ⟨C2, J2, fun a q => by rw [b1 a q, a1 a q], ?_, b3, vx_fCt a4 (vx_fCt ⟨fun a q1 q2 => xu_ne (by omega), fun k hk => xu_ne2 (by omega)⟩ b4)⟩
      have r3 := a3.1
      have g10 : (10 ≤ nI 10) = True := eq_true (by decide)
      have h32 : xv_ev ro (d + 6) xm_Archive_pass xb_Archive_pass_32 [some (.ref A), some (.int (nI n)), some (.ref 5), some (.ref 21), some (.int (nI i)), some (.int (nI 10))] [] (z, xv_mk C1 J1) = some (none, (z, xv_mk C2 J2)) := by
        conv => lhs; unfold xb_Archive_pass_32
        simp only [xr_all, xf_all, if_true, if_false, true_or, or_true, eq_self, ite_not, Bool.false_eq_true, ite_self, and_self, true_and, and_true, false_and, and_false, not_true_eq_false, not_false_eq_true, xj_Archive_pass, xb_Archive_pass_0, xb_Archive_pass_53, xb_Archive_pass_69, g10, vAr_f hA, r3, nI_1, b2]
      rw [← a2] at h32
      conv => lhs; unfold xb_Archive_pass_13
      simp only [xr_all, xf_all, if_true, if_false, true_or, or_true, eq_self, ite_not, Bool.false_eq_true, ite_self, and_self, true_and, and_true, false_and, and_false, not_true_eq_false, not_false_eq_true, xj_Archive_pass, xb_Archive_pass_0, xb_Archive_pass_53, xb_Archive_pass_69, g1, vAr_f hA, r1, g2, h32]
theorem xq_weekGoes (ro : xv_Ro) (d : Nat) (z : Nat × Nat) (M : Nat → Nat → Int32) (J : Nat → Nat → Int64) {I : Nat → Nat → Int32} {fn : Nat → (Nat → Int32) → Nat} (hf : vl_fn I fn) (h16 : M 167 16 = I 167 16) (h180 : ∀ a, 180 ≤ a → a < 185 → M a = I a) {m t : Nat} {hh : Nat → Nat} {T : vx_T} (hm : m < 1024) (hR : vx_M M m hh t T) (hW : vx_W hh T) : ∃ M1 : Nat → Nat → Int32, xv_evm ro (d + 5) 100 [.ref 167] (z, xv_mk M J) = some (none, (z, xv_mk M1 J)) ∧ vx_M M1 m hh (t + 1) (vx_10 fn m hh t T 10) ∧ vx_fr M M1 := by
  have inner : ∀ w, w ≤ 10 → ∃ M1 : Nat → Nat → Int32, xv_ev ro (d + 5) xm_Mo_weekGoes xb_Mo_weekGoes_2 [some (.ref 167), some (.int 0)] [] (z, xv_mk M J) = xv_ev ro (d + 5) xm_Mo_weekGoes xb_Mo_weekGoes_2 [some (.ref 167), some (.int (nI w))] [] (z, xv_mk M1 J) ∧ vx_M M1 m hh t (vx_10 fn m hh t T w) ∧ vx_fr M M1 := by
    intro w
    induction w with
    | zero => intro _; exact ⟨M, rfl, hR, fun _ _ _ => rfl, fun _ _ _ => rfl, fun _ _ _ _ _ => rfl⟩
    | succ w ihw =>
      intro hw
      obtain ⟨M1, a1, a2, a3⟩ := ihw (by omega)
      obtain ⟨M2, b1, b2, b3⟩ := xq_weekw ro d z M1 J hf (by rw [a3.2.1 16 (by omega) (by omega)]; exact h16) (fun a q1 q2 => by rw [a3.2.2 a (by omega) (by omega) (by omega) (by omega)]; exact h180 a q1 q2) hm (show w < 10 by omega) a2 (vx_W10 fn m t hW w (by omega))
      exact ⟨M2, a1.trans b1, b2, vx_frt a3 b3⟩
  obtain ⟨M1, a1, a2, a3⟩ := inner 10 (Nat.le_refl 10)
  have i302 : xv_inB 302 304 = true := by decide
  have c302 : (302 : Int32).toNatClampNeg = 302 := by decide
  obtain ⟨s1, s2, s3, s4, s5, s6⟩ := a2
  refine ⟨xv_u2 M1 168 302 (nI (t + 1)), ?_, ⟨xu_eq, by rw [xu_ne2 (by omega)]; exact s2, by rw [xu_ne (by omega)]; exact s3, by rw [xu_ne (by omega)]; exact s4, by rw [xu_ne2 (by omega)]; exact s5, fun w hw => ?_⟩, ⟨fun j q1 q2 => by rw [xu_ne2 (by omega)]; exact a3.1 j q1 q2, fun k q1 q2 => by rw [xu_ne (by omega)]; exact a3.2.1 k q1 q2, fun a q1 q2 q3 q4 => by rw [xu_ne q2]; exact a3.2.2 a q1 q2 q3 q4⟩⟩
  · rw [xe_Mo_weekGoes]
    simp only [xr_all, xf_all, if_true, if_false, true_or, or_true, eq_self, ite_not, Bool.false_eq_true, ite_self, and_self, true_and, and_true, false_and, and_false, not_true_eq_false, not_false_eq_true, xj_Mo_weekGoes, xb_Mo_weekGoes_0, xb_Mo_weekGoes_31, xb_Mo_weekGoes_53, xb_Mo_weekGoes_59]
    rw [a1]
    have g1 : (10 ≤ nI 10) = True := eq_true (by decide)
    conv => lhs; unfold xb_Mo_weekGoes_2
    simp only [xr_all, xf_all, if_true, if_false, true_or, or_true, eq_self, ite_not, Bool.false_eq_true, ite_self, and_self, true_and, and_true, false_and, and_false, not_true_eq_false, not_false_eq_true, xj_Mo_weekGoes, xb_Mo_weekGoes_0, xb_Mo_weekGoes_31, xb_Mo_weekGoes_53, xb_Mo_weekGoes_59, g1, i302, c302, s1, nI_1]
  · obtain ⟨y1, y2, y3⟩ := s6 w hw
    have hL := (vx_W10 fn m t hW 10 (Nat.le_refl 10)).2 w hw
    exact ⟨by rw [xu_ne2 (by omega)]; exact y1, by rw [xu_ne2 (by omega)]; exact y2, fun j hj => by rw [xu_ne2 (by omega)]; exact y3 j hj⟩
theorem xq_weeksGoW (ro : xv_Ro) (d : Nat) (z : Nat × Nat) (J : Nat → Nat → Int64) {I : Nat → Nat → Int32} {fn : Nat → (Nat → Int32) → Nat} (hf : vl_fn I fn) {m n : Nat} {hh : Nat → Nat} (hm : m < 1024) (hn : n ≤ 60) : ∀ (k i t : Nat) (T : vx_T) (M : Nat → Nat → Int32), i + k = n → t ≤ 999 → M 167 16 = I 167 16 → (∀ a, 180 ≤ a → a < 185 → M a = I a) → vx_M M m hh t T → vx_W hh T → ∃ M1 : Nat → Nat → Int32, xv_ev ro (d + 6) xm_Mo_weeksGo xb_Mo_weeksGo_12 [some (.ref 167), some (.int (nI n)), some (.int (nI i))] [] (z, xv_mk M J) = some (none, (z, xv_mk M1 J)) ∧ vx_M M1 m hh (vx_wk fn m hh k t T).1 (vx_wk fn m hh k t T).2 ∧ vx_fr M M1 := by
  have i302 : xv_inB 302 304 = true := by decide
  have c302 : (302 : Int32).toNatClampNeg = 302 := by decide
  intro k
  induction k with
  | zero =>
    intro i t T M hi ht h16 h180 hR hW
    obtain rfl : i = n := by omega
    refine ⟨M, ?_, hR, fun _ _ _ => rfl, fun _ _ _ => rfl, fun _ _ _ _ _ => rfl⟩
    have g1 : (nI i ≤ nI i) = True := by (simp (disch := omega) only [vz_all, if_true, if_false, true_or, or_true, eq_self, ite_not, Bool.false_eq_true, ite_self, and_self, true_and, and_true, false_and, and_false, not_true_eq_false, not_false_eq_true, false_or, or_false])
    conv => lhs; unfold xb_Mo_weeksGo_12
    simp only [xr_all, xf_all, if_true, if_false, true_or, or_true, eq_self, ite_not, Bool.false_eq_true, ite_self, and_self, true_and, and_true, false_and, and_false, not_true_eq_false, not_false_eq_true, xj_Mo_weeksGo, xb_Mo_weeksGo_0, xb_Mo_weeksGo_41, g1]
  | succ k ih =>
    intro i t T M hi ht h16 h180 hR hW
    have g1 : (nI n ≤ nI i) = False := by (simp (disch := omega) only [vz_all, if_true, if_false, true_or, or_true, eq_self, ite_not, Bool.false_eq_true, ite_self, and_self, true_and, and_true, false_and, and_false, not_true_eq_false, not_false_eq_true, false_or, or_false])
    have r1 := hR.1
    by_cases c : t < 999
    rotate_left
    · have e : vx_wk fn m hh (k + 1) t T = (t, T) := by
        show (if t < 999 then vx_wk fn m hh k (t + 1) (vx_10 fn m hh t T 10) else (t, T)) = _
        rw [if_neg c]
      rw [e]
      refine ⟨M, ?_, hR, fun _ _ _ => rfl, fun _ _ _ => rfl, fun _ _ _ _ _ => rfl⟩
      have g2 : (999 ≤ nI t) = True := by (simp (disch := omega) only [vz_all, if_true, if_false, true_or, or_true, eq_self, ite_not, Bool.false_eq_true, ite_self, and_self, true_and, and_true, false_and, and_false, not_true_eq_false, not_false_eq_true, false_or, or_false])
      conv => lhs; unfold xb_Mo_weeksGo_12
      simp only [xr_all, xf_all, if_true, if_false, true_or, or_true, eq_self, ite_not, Bool.false_eq_true, ite_self, and_self, true_and, and_true, false_and, and_false, not_true_eq_false, not_false_eq_true, xj_Mo_weeksGo, xb_Mo_weeksGo_0, xb_Mo_weeksGo_41, g1, i302, c302, r1, g2]
    · have e : vx_wk fn m hh (k + 1) t T = vx_wk fn m hh k (t + 1) (vx_10 fn m hh t T 10) := by
        show (if t < 999 then vx_wk fn m hh k (t + 1) (vx_10 fn m hh t T 10) else (t, T)) = _
        rw [if_pos c]
      rw [e]
      have g2 : (999 ≤ nI t) = False := by (simp (disch := omega) only [vz_all, if_true, if_false, true_or, or_true, eq_self, ite_not, Bool.false_eq_true, ite_self, and_self, true_and, and_true, false_and, and_false, not_true_eq_false, not_false_eq_true, false_or, or_false])
      obtain ⟨M1, a1, a2, a3⟩ := xq_weekGoes ro d z M J hf h16 h180 hm hR hW
      obtain ⟨M2, b1, b2, b3⟩ := ih (i + 1) (t + 1) (vx_10 fn m hh t T 10) M1 (by omega) (by omega) (by rw [a3.2.1 16 (by omega) (by omega)]; exact h16) (fun a q1 q2 => by rw [a3.2.2 a (by omega) (by omega) (by omega) (by omega)]; exact h180 a q1 q2) a2 (vx_W10 fn m t hW 10 (Nat.le_refl 10))
      refine ⟨M2, ?_, b2, vx_frt a3 b3⟩
      conv => lhs; unfold xb_Mo_weeksGo_12
      simp only [xr_all, xf_all, if_true, if_false, true_or, or_true, eq_self, ite_not, Bool.false_eq_true, ite_self, and_self, true_and, and_true, false_and, and_false, not_true_eq_false, not_false_eq_true, xj_Mo_weeksGo, xb_Mo_weeksGo_0, xb_Mo_weeksGo_41, g1, i302, c302, r1, g2, a1, nI_1, b1]
/-- what is in an archive: told ones, honesties, the week, x, layers, strengths -/
theorem vx_ex {I : Nat → Nat → Int32} {A : Nat} (h : vi_A I A 168) : ∃ (m : Nat) (hh : Nat → Nat) (t lot : Nat) (L : Nat → Nat) (S : Nat → Nat → Nat), m < 1024 ∧ t ≤ 999 ∧ vx_W hh (lot, 0, 0, L, S) ∧ vx_C (xv_u2 (xv_u2 I A 5 0) A 6 0) A m hh t (lot, 0, 0, L, S) ∧ ∀ M : Nat → Nat → Int32, (∀ j, j < 304 → M 168 j = I 168 j) → vx_M (xv_u2 (xv_u2 M 167 43 0) 167 44 0) m hh t (lot, 0, 0, L, S) := by
  obtain ⟨-, ⟨⟨t, t1, t2, t3⟩, lot, l1, l2, l3⟩, ⟨m, m1, m2, m3⟩, g4⟩ := h
  have key : ∀ w, w < 10 → (I 168 (130 + w)).toNatClampNeg ≤ 9 ∧ I (A + 3 + 2 * w) 2 = nI (I 168 (130 + w)).toNatClampNeg ∧ I 168 (130 + w) = nI (I 168 (130 + w)).toNatClampNeg ∧ (I 168 (120 + w)).toNatClampNeg ≤ 12 ∧ I (A + 3 + 2 * w) 1 = nI (I 168 (120 + w)).toNatClampNeg ∧ I 168 (120 + w) = nI (I 168 (120 + w)).toNatClampNeg ∧ ∀ j, j < (I 168 (120 + w)).toNatClampNeg → 1 ≤ (I 168 (12 * w + j)).toNatClampNeg ∧ (I 168 (12 * w + j)).toNatClampNeg ≤ 99 ∧ I (A + 4 + 2 * w) j = nI (I 168 (12 * w + j)).toNatClampNeg ∧ I 168 (12 * w + j) = nI (I 168 (12 * w + j)).toNatClampNeg := by
    intro w hw
    obtain ⟨⟨a, a1, a2, a3⟩, b, b1, b2, b3, b4⟩ := g4 w hw
    rw [a3, b3, nI_clamp (show a < 2 ^ 31 by omega), nI_clamp (show b < 2 ^ 31 by omega)]
    refine ⟨a1, a2, rfl, b1, b2, rfl, fun j hj => ?_⟩
    obtain ⟨s, s1, s2, s3, s4⟩ := b4 j hj
    rw [s4, nI_clamp (show s < 2 ^ 31 by omega)]
    exact ⟨s1, s2, s3, rfl⟩
  refine ⟨m, fun w => (I 168 (130 + w)).toNatClampNeg, t, lot, fun w => (I 168 (120 + w)).toNatClampNeg, fun w j => (I 168 (12 * w + j)).toNatClampNeg, m1, t1, ⟨l1, fun w hw => ?_⟩, ⟨by (repeat (first | rw [xu_ne2 (by omega)] | rw [xu_ne (by omega)] | rw [xu_eq])); exact t2, by (repeat (first | rw [xu_ne2 (by omega)] | rw [xu_ne (by omega)] | rw [xu_eq])); exact l2, by rw [xu_ne2 (by omega), xu_eq]; rfl, by rw [xu_eq]; rfl, fun w hw => ?_⟩, fun M hM => ⟨by rw [xu_ne (by omega), xu_ne (by omega), hM 302 (by omega)]; exact t3, by rw [xu_ne (by omega), xu_ne (by omega), hM 303 (by omega)]; exact l3, by rw [xu_ne2 (by omega), xu_eq]; rfl, by rw [xu_eq]; rfl, by rw [xu_ne (by omega), xu_ne (by omega), hM 300 (by omega)]; exact m2, fun w hw => ?_⟩⟩
  · obtain ⟨k1, k2, k3, k4, k5, k6, k7⟩ := key w hw
    exact ⟨k1, k4, fun j hj => ⟨(k7 j hj).1, (k7 j hj).2.1⟩⟩
  · obtain ⟨k1, k2, k3, k4, k5, k6, k7⟩ := key w hw
    rw [xu_ne (by omega), xu_ne (by omega), xu_ne (by omega), xu_ne (by omega)]
    exact ⟨m3 w hw, k2, k5, fun j hj => (k7 j hj).2.2.1⟩
  · obtain ⟨k1, k2, k3, k4, k5, k6, k7⟩ := key w hw
    rw [xu_ne (by omega), xu_ne (by omega)]
    refine ⟨by rw [hM _ (by omega)]; exact k3, by rw [hM _ (by omega)]; exact k6, fun j hj => ?_⟩
    have hj2 : j < (I 168 (120 + w)).toNatClampNeg := hj
    rw [hM _ (by omega)]; exact (k7 j hj).2.2.2
theorem vx_back {I : Nat → Nat → Int32} {A m t : Nat} {hh : Nat → Nat} {T : vx_T} (hm : m < 1024) (ht : t ≤ 999) (hW : vx_W hh T) (hC : vx_C I A m hh t T) (hM : vx_M I m hh t T) (h1 : vi_A1 I A 168) : vi_A I A 168 := by
  obtain ⟨c1, c2, c3, c4, c5⟩ := hC
  obtain ⟨d1, d2, d3, d4, d5, d6⟩ := hM
  refine ⟨h1, ⟨⟨t, ht, c1, d1⟩, T.1, hW.1, c2, d2⟩, ⟨m, hm, d5, fun w hw => (c5 w hw).1⟩, fun w hw => ?_⟩
  obtain ⟨w1, w2, w3⟩ := hW.2 w hw
  obtain ⟨a1, a2, a3, a4⟩ := c5 w hw
  obtain ⟨b1, b2, b3⟩ := d6 w hw
  exact ⟨⟨hh w, w1, a2, b1⟩, T.2.2.2.1 w, w2, a3, b2, fun i hi => ⟨T.2.2.2.2 w i, (w3 i hi).1, (w3 i hi).2, a4 i hi, b3 i hi⟩⟩
