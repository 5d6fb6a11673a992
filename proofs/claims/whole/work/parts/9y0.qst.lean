/-! question: the model's two stacks -/
def st_S (R : Nat → Int32) : List Nat → Prop
  | [] => True
  | s :: S => R S.length = nI s ∧ st_S R S
def st_T (R : Nat → Int64) : List Int32 → Prop
  | [] => True
  | v :: T => R T.length = vq_L v ∧ st_T R T
theorem st_S_c {R R' : Nat → Int32} : ∀ (S : List Nat), st_S R S → (∀ i, i < S.length → R' i = R i) → st_S R' S := by
  intro S
  induction S with
  | nil => intro _ _; exact trivial
  | cons s S ih =>
    intro h hc
    exact ⟨by rw [hc S.length (by simp)]; exact h.1, ih h.2 (fun i hi => hc i (by simp; omega))⟩
theorem st_T_c {R R' : Nat → Int64} : ∀ (T : List Int32), st_T R T → (∀ i, i < T.length → R' i = R i) → st_T R' T := by
  intro T
  induction T with
  | nil => intro _ _; exact trivial
  | cons s T ih =>
    intro h hc
    exact ⟨by rw [hc T.length (by simp)]; exact h.1, ih h.2 (fun i hi => hc i (by simp; omega))⟩
def op_c : List Nat → Nat
  | [] => 0
  | s :: S => (if s = 33 ∨ s = 90 then 1 else 0) + op_c S
def q_op (s : Nat) (a b : Int32) : Int32 := if s = 30 then a &&& b else if s = 31 then a ^^^ b else a ||| b
def q_J (w : Nat) : List Nat → List Int32 → Option (List Nat × List Int32)
  | [], T => some ([], T)
  | s :: S, T => if 30 ≤ s ∧ s ≤ w then (match T with
    | b :: a :: T' => q_J w S (q_op s a b :: T')
    | _ => none) else some (s :: S, T)
def q_E : List Nat → Int32 → List Nat × Int32
  | [], v => ([], v)
  | s :: S, v => if s = 33 then q_E S (v ^^^ -1) else (s :: S, v)
/-- what the stacks hold -/
def q_s (M : Nat → Nat → Int32) (J : Nat → Nat → Int64) (S : List Nat) (T : List Int32) : Prop := M 167 32 = nI S.length ∧ st_S (M 187) S ∧ M 167 33 = nI T.length ∧ st_T (J 188) T ∧ S.length ≤ 60 ∧ T.length ≤ 60 ∧ ∀ s, s ∈ S → s < 100
/-- what stays -/
def q_f (M : Nat → Nat → Int32) (J : Nat → Nat → Int64) (V : Nat → Nat → Int32) (K : Nat → Nat → Int64) : Prop := (∀ a, a ≠ 167 → V a = M a) ∧ (∀ j, j ≠ 32 → j ≠ 33 → V 167 j = M 167 j) ∧ ∀ a, a ≠ 188 → K a = J a
theorem q_fr (M : Nat → Nat → Int32) (J : Nat → Nat → Int64) : q_f M J M J := ⟨fun _ _ => rfl, fun _ _ _ => rfl, fun _ _ => rfl⟩
theorem q_ft {M V W : Nat → Nat → Int32} {J K L : Nat → Nat → Int64} (h1 : q_f M J V K) (h2 : q_f V K W L) : q_f M J W L := ⟨fun a q => (h2.1 a q).trans (h1.1 a q), fun j q1 q2 => (h2.2.1 j q1 q2).trans (h1.2.1 j q1 q2), fun a q => (h2.2.2 a q).trans (h1.2.2 a q)⟩
theorem xq_lastSign (ro : xv_Ro) (d : Nat) (z : Nat × Nat) (M : Nat → Nat → Int32) (J : Nat → Nat → Int64) {S : List Nat} {T : List Int32} (h : q_s M J S T) : xv_evm ro d 82 [.ref 167] (z, xv_mk M J) = some (some (.int (match S with | [] => -1 | s :: _ => nI s)), (z, xv_mk M J)) := by
  obtain ⟨h1, h2, h3, h4, h5, h6, h7⟩ := h
  rw [xe_Mo_lastSign]
  cases S with
  | nil =>
    have e : M 167 32 = 0 := h1
    simp only [xr_all, xf_all, if_true, if_false, true_or, or_true, eq_self, ite_not, Bool.false_eq_true, ite_self, and_self, true_and, and_true, false_and, and_false, not_true_eq_false, not_false_eq_true, xj_Mo_lastSign, xb_Mo_lastSign_0, xb_Mo_lastSign_11, xb_Mo_lastSign_22, e]
  | cons s S =>
    have hl : S.length + 1 ≤ 60 := h5
    have e : M 167 32 = nI (S.length + 1) := h1
    have g0 : (nI (S.length + 1) = 0) = False := by (simp (disch := omega) only [vz_all, if_true, if_false, true_or, or_true, eq_self, ite_not, Bool.false_eq_true, ite_self, and_self, true_and, and_true, false_and, and_false, not_true_eq_false, not_false_eq_true, false_or, or_false])
    have g1 : xv_inB (nI S.length) 60 = true := by (simp (disch := omega) only [vz_all, if_true, if_false, true_or, or_true, eq_self, ite_not, Bool.false_eq_true, ite_self, and_self, true_and, and_true, false_and, and_false, not_true_eq_false, not_false_eq_true, false_or, or_false])
    simp only [xr_all, xf_all, if_true, if_false, true_or, or_true, eq_self, ite_not, Bool.false_eq_true, ite_self, and_self, true_and, and_true, false_and, and_false, not_true_eq_false, not_false_eq_true, xj_Mo_lastSign, xb_Mo_lastSign_0, xb_Mo_lastSign_11, xb_Mo_lastSign_22, e, g0, nI_pred, g1, nI_clamp (show S.length < 2 ^ 31 by omega), h2.1]
theorem xq_waitsFor (ro : xv_Ro) (d : Nat) (z : Nat × Nat) (M : Nat → Nat → Int32) (J : Nat → Nat → Int64) {S : List Nat} {T : List Int32} {w : Nat} (h : q_s M J S T) (hl : S.length < 60) (hw : w < 100) : ∃ V, xv_evm ro d 83 [.ref 167, .int (nI w)] (z, xv_mk M J) = some (none, (z, xv_mk V J)) ∧ q_s V J (w :: S) T ∧ (∀ a, a ≠ 167 → a ≠ 187 → V a = M a) ∧ ∀ j, j ≠ 32 → V 167 j = M 167 j := by
  obtain ⟨h1, h2, h3, h4, h5, h6, h7⟩ := h
  have g1 : xv_inB (nI S.length) 60 = true := by (simp (disch := omega) only [vz_all, if_true, if_false, true_or, or_true, eq_self, ite_not, Bool.false_eq_true, ite_self, and_self, true_and, and_true, false_and, and_false, not_true_eq_false, not_false_eq_true, false_or, or_false])
  have e2 : xv_u2 M 187 S.length (nI w) 167 32 = nI S.length := by rw [xu_ne (by omega)]; exact h1
  refine ⟨xv_u2 (xv_u2 M 187 S.length (nI w)) 167 32 (nI (S.length + 1)), ?_, ⟨xu_eq, ⟨by (repeat (first | rw [xu_ne2 (by omega)] | rw [xu_ne (by omega)] | rw [xu_eq])), st_S_c S h2 (fun i hi => by (repeat (first | rw [xu_ne2 (by omega)] | rw [xu_ne (by omega)] | rw [xu_eq])))⟩, by (repeat (first | rw [xu_ne2 (by omega)] | rw [xu_ne (by omega)] | rw [xu_eq])); exact h3, h4, hl, h6, fun s hs => ?_⟩, fun a q1 q2 => by (repeat (first | rw [xu_ne2 (by omega)] | rw [xu_ne (by omega)] | rw [xu_eq])), fun j q => by (repeat (first | rw [xu_ne2 (by omega)] | rw [xu_ne (by omega)] | rw [xu_eq]))⟩
  · rw [xe_Mo_waitsFor]
    simp only [xr_all, xf_all, if_true, if_false, true_or, or_true, eq_self, ite_not, Bool.false_eq_true, ite_self, and_self, true_and, and_true, false_and, and_false, not_true_eq_false, not_false_eq_true, xj_Mo_waitsFor, xb_Mo_waitsFor_0, h1, g1, nI_clamp (show S.length < 2 ^ 31 by omega), e2, nI_1]
  · rcases List.mem_cons.mp hs with q | q
    · omega
    · exact h7 s q
theorem xq_joinsLast_no (ro : xv_Ro) (d : Nat) (z : Nat × Nat) (M : Nat → Nat → Int32) (J : Nat → Nat → Int64) {S : List Nat} {T : List Int32} {x : Int32} (h : q_s M J (33 :: S) (x :: T)) : ∃ V K, xv_evm ro d 84 [.ref 167] (z, xv_mk M J) = some (none, (z, xv_mk V K)) ∧ q_s V K S ((x ^^^ -1) :: T) ∧ q_f M J V K := by
  obtain ⟨h1, h2, h3, h4, h5, h6, h7⟩ := h
  have hl : S.length + 1 ≤ 60 := h5
  have hm : T.length + 1 ≤ 60 := h6
  have e1 : M 167 32 = nI (S.length + 1) := h1
  have e3 : M 167 33 = nI (T.length + 1) := h3
  have g1 : xv_inB (nI S.length) 60 = true := by (simp (disch := omega) only [vz_all, if_true, if_false, true_or, or_true, eq_self, ite_not, Bool.false_eq_true, ite_self, and_self, true_and, and_true, false_and, and_false, not_true_eq_false, not_false_eq_true, false_or, or_false])
  have g3 : xv_inB (nI T.length) 60 = true := by (simp (disch := omega) only [vz_all, if_true, if_false, true_or, or_true, eq_self, ite_not, Bool.false_eq_true, ite_self, and_self, true_and, and_true, false_and, and_false, not_true_eq_false, not_false_eq_true, false_or, or_false])
  have r1 : ∀ y, xv_u2 M 167 32 y 187 S.length = nI 33 := fun y => by rw [xu_ne (by omega)]; exact h2.1
  have r2 : ∀ y, xv_u2 M 167 32 y 167 32 = y := fun y => xu_eq
  have r3 : ∀ y, xv_u2 M 167 32 y 167 33 = nI (T.length + 1) := fun y => by rw [xu_ne2 (by omega)]; exact e3
  have g : (nI 33 = 33) = True := eq_true rfl
  refine ⟨xv_u2 M 167 32 (nI S.length), xv_u2 J 188 T.length (vq_L (x ^^^ -1)), ?_, ⟨xu_eq, st_S_c S h2.2 (fun i hi => by (repeat (first | rw [xu_ne2 (by omega)] | rw [xu_ne (by omega)] | rw [xu_eq]))), by (repeat (first | rw [xu_ne2 (by omega)] | rw [xu_ne (by omega)] | rw [xu_eq])); exact h3, ⟨xu_eq, st_T_c T h4.2 (fun i hi => xu_ne2 (by omega))⟩, by omega, hm, fun s hs => h7 s (List.mem_cons_of_mem _ hs)⟩, fun a q => xu_ne q, fun j q1 q2 => xu_ne2 (by omega), fun a q => xu_ne q⟩
  rw [xe_Mo_joinsLast]
  simp only [xr_all, xf_all, if_true, if_false, true_or, or_true, eq_self, ite_not, Bool.false_eq_true, ite_self, and_self, true_and, and_true, false_and, and_false, not_true_eq_false, not_false_eq_true, xj_Mo_joinsLast, xb_Mo_joinsLast_0, xb_Mo_joinsLast_57, xb_Mo_joinsLast_113, xb_Mo_joinsLast_126, xb_Mo_joinsLast_130, e1, nI_pred, g1, nI_clamp (show S.length < 2 ^ 31 by omega), r1, r2, r3, g, g3, nI_clamp (show T.length < 2 ^ 31 by omega), h4.1, vq_not]
theorem xq_joinsLast_op (ro : xv_Ro) (d : Nat) (z : Nat × Nat) (M : Nat → Nat → Int32) (J : Nat → Nat → Int64) {S : List Nat} {T : List Int32} {w : Nat} {x y : Int32} (hw : 30 ≤ w ∧ w ≤ 32) (h : q_s M J (w :: S) (y :: x :: T)) : ∃ V K, xv_evm ro d 84 [.ref 167] (z, xv_mk M J) = some (none, (z, xv_mk V K)) ∧ q_s V K S (q_op w x y :: T) ∧ q_f M J V K := by
  obtain ⟨h1, h2, h3, h4, h5, h6, h7⟩ := h
  have hl : S.length + 1 ≤ 60 := h5
  have hm : T.length + 1 + 1 ≤ 60 := h6
  have e1 : M 167 32 = nI (S.length + 1) := h1
  have e3 : M 167 33 = nI (T.length + 1 + 1) := h3
  have ty : J 188 (T.length + 1) = vq_L y := h4.1
  have tx : J 188 T.length = vq_L x := h4.2.1
  have g1 : xv_inB (nI S.length) 60 = true := by (simp (disch := omega) only [vz_all, if_true, if_false, true_or, or_true, eq_self, ite_not, Bool.false_eq_true, ite_self, and_self, true_and, and_true, false_and, and_false, not_true_eq_false, not_false_eq_true, false_or, or_false])
  have g3 : xv_inB (nI T.length) 60 = true := by (simp (disch := omega) only [vz_all, if_true, if_false, true_or, or_true, eq_self, ite_not, Bool.false_eq_true, ite_self, and_self, true_and, and_true, false_and, and_false, not_true_eq_false, not_false_eq_true, false_or, or_false])
  have g4 : xv_inB (nI (T.length + 1)) 60 = true := by (simp (disch := omega) only [vz_all, if_true, if_false, true_or, or_true, eq_self, ite_not, Bool.false_eq_true, ite_self, and_self, true_and, and_true, false_and, and_false, not_true_eq_false, not_false_eq_true, false_or, or_false])
  have r1 : ∀ y, xv_u2 M 167 32 y 187 S.length = nI w := fun y => by rw [xu_ne (by omega)]; exact h2.1
  have r2 : ∀ y, xv_u2 M 167 32 y 167 32 = y := fun y => xu_eq
  have r3 : ∀ y, xv_u2 M 167 32 y 167 33 = nI (T.length + 1 + 1) := fun y => by rw [xu_ne2 (by omega)]; exact e3
  have r4 : ∀ y y2, xv_u2 (xv_u2 M 167 32 y) 167 33 y2 167 33 = y2 := fun y y2 => xu_eq
  have cm := nI_clamp (show T.length < 2 ^ 31 by omega)
  have cm1 := nI_clamp (show T.length + 1 < 2 ^ 31 by omega)
  refine ⟨xv_u2 (xv_u2 M 167 32 (nI S.length)) 167 33 (nI (T.length + 1)), xv_u2 J 188 T.length (vq_L (q_op w x y)), ?_, ⟨by (repeat (first | rw [xu_ne2 (by omega)] | rw [xu_ne (by omega)] | rw [xu_eq])), st_S_c S h2.2 (fun i hi => by (repeat (first | rw [xu_ne2 (by omega)] | rw [xu_ne (by omega)] | rw [xu_eq]))), xu_eq, ⟨xu_eq, st_T_c T h4.2.2 (fun i hi => xu_ne2 (by omega))⟩, by omega, by show T.length + 1 ≤ 60; omega, fun s hs => h7 s (List.mem_cons_of_mem _ hs)⟩, fun a q => by (repeat (first | rw [xu_ne2 (by omega)] | rw [xu_ne (by omega)] | rw [xu_eq])), fun j q1 q2 => by (repeat (first | rw [xu_ne2 (by omega)] | rw [xu_ne (by omega)] | rw [xu_eq])), fun a q => xu_ne q⟩
  rw [xe_Mo_joinsLast]
  have hw3 : w = 30 ∨ w = 31 ∨ w = 32 := by omega
  unfold q_op
  rcases hw3 with rfl | rfl | rfl
  · have g : (nI 30 = 33) = False := eq_false (by decide)
    have k : (nI 30 = 30) = True := eq_true rfl
    rw [if_pos rfl]
    simp only [xr_all, xf_all, if_true, if_false, true_or, or_true, eq_self, ite_not, Bool.false_eq_true, ite_self, and_self, true_and, and_true, false_and, and_false, not_true_eq_false, not_false_eq_true, xj_Mo_joinsLast, xb_Mo_joinsLast_0, xb_Mo_joinsLast_57, xb_Mo_joinsLast_113, xb_Mo_joinsLast_126, xb_Mo_joinsLast_130, e1, nI_pred, g1, nI_clamp (show S.length < 2 ^ 31 by omega), r1, r2, r3, r4, g, g3, g4, cm, cm1, tx, ty, k, vq_and]
  · have g : (nI 31 = 33) = False := eq_false (by decide)
    have k : (nI 31 = 30) = False := eq_false (by decide)
    have k2 : (nI 31 = 31) = True := eq_true rfl
    rw [if_neg (by omega), if_pos rfl]
    simp only [xr_all, xf_all, if_true, if_false, true_or, or_true, eq_self, ite_not, Bool.false_eq_true, ite_self, and_self, true_and, and_true, false_and, and_false, not_true_eq_false, not_false_eq_true, xj_Mo_joinsLast, xb_Mo_joinsLast_0, xb_Mo_joinsLast_57, xb_Mo_joinsLast_113, xb_Mo_joinsLast_126, xb_Mo_joinsLast_130, e1, nI_pred, g1, nI_clamp (show S.length < 2 ^ 31 by omega), r1, r2, r3, r4, g, g3, g4, cm, cm1, tx, ty, k, k2, vq_xor]
  · have g : (nI 32 = 33) = False := eq_false (by decide)
    have k : (nI 32 = 30) = False := eq_false (by decide)
    have k2 : (nI 32 = 31) = False := eq_false (by decide)
    rw [if_neg (by omega), if_neg (by omega)]
    simp only [xr_all, xf_all, if_true, if_false, true_or, or_true, eq_self, ite_not, Bool.false_eq_true, ite_self, and_self, true_and, and_true, false_and, and_false, not_true_eq_false, not_false_eq_true, xj_Mo_joinsLast, xb_Mo_joinsLast_0, xb_Mo_joinsLast_57, xb_Mo_joinsLast_113, xb_Mo_joinsLast_126, xb_Mo_joinsLast_130, e1, nI_pred, g1, nI_clamp (show S.length < 2 ^ 31 by omega), r1, r2, r3, r4, g, g3, g4, cm, cm1, tx, ty, k, k2, vq_or]
theorem xq_joinsTo (ro : xv_Ro) (d : Nat) (z : Nat × Nat) {w : Nat} (hw : 30 ≤ w ∧ w ≤ 32) : ∀ (S : List Nat) (T : List Int32) (S' : List Nat) (T' : List Int32) (M : Nat → Nat → Int32) (J : Nat → Nat → Int64), q_s M J S T → q_J w S T = some (S', T') → ∃ V K, xv_ev ro (d + 1) xm_Mo_joinsTo xb_Mo_joinsTo_0 [some (.ref 167), some (.int (nI w))] [] (z, xv_mk M J) = some (none, (z, xv_mk V K)) ∧ q_s V K S' T' ∧ q_f M J V K := by
  intro S
  induction S with
  | nil =>
    intro T S' T' M J h hj
    cases hj
    have hs := xq_lastSign ro d z M J h
    dsimp only at hs
    have g : (30 ≤ (-1 : Int32) ∧ (-1 : Int32) ≤ nI w) = False := eq_false (fun q => absurd q.1 (by decide))
    refine ⟨M, J, ?_, h, q_fr M J⟩
    conv => lhs; unfold xb_Mo_joinsTo_0
    simp only [xr_all, xf_all, if_true, if_false, true_or, or_true, eq_self, ite_not, Bool.false_eq_true, ite_self, and_self, true_and, and_true, false_and, and_false, not_true_eq_false, not_false_eq_true, xj_Mo_joinsTo, xb_Mo_joinsTo_20, hs, xq_Mo_in, g]
  | cons s S ih =>
    intro T S' T' M J h hj
    have hs := xq_lastSign ro d z M J h
    dsimp only at hs
    have hs100 := h.2.2.2.2.2.2 s (List.mem_cons_self)
    unfold q_J at hj
    by_cases c : 30 ≤ s ∧ s ≤ w
    · rw [if_pos c] at hj
      match T, h, hj with
      | [], h, hj => cases hj
      | [a], h, hj => cases hj
      | b :: a :: T, h, hj =>
        dsimp only at hj
        obtain ⟨V, K, k1, k2, k3⟩ := xq_joinsLast_op ro d z M J (by omega) h
        obtain ⟨V2, K2, l1, l2, l3⟩ := ih _ S' T' V K k2 hj
        refine ⟨V2, K2, ?_, l2, q_ft k3 l3⟩
        rw [← l1]
        have g : (30 ≤ nI s ∧ nI s ≤ nI w) = True := by
          have g1 : (30 ≤ nI s) = True := by (simp (disch := omega) only [vz_all, if_true, if_false, true_or, or_true, eq_self, ite_not, Bool.false_eq_true, ite_self, and_self, true_and, and_true, false_and, and_false, not_true_eq_false, not_false_eq_true, false_or, or_false])
          have g2 : (nI s ≤ nI w) = True := by (simp (disch := omega) only [vz_all, if_true, if_false, true_or, or_true, eq_self, ite_not, Bool.false_eq_true, ite_self, and_self, true_and, and_true, false_and, and_false, not_true_eq_false, not_false_eq_true, false_or, or_false])
          rw [g1, g2, and_self]
        have z1 : ((1 : Int32) = 0) = False := eq_false (by decide)
        conv => lhs; unfold xb_Mo_joinsTo_0
        simp only [xr_all, xf_all, if_true, if_false, true_or, or_true, eq_self, ite_not, Bool.false_eq_true, ite_self, and_self, true_and, and_true, false_and, and_false, not_true_eq_false, not_false_eq_true, xj_Mo_joinsTo, xb_Mo_joinsTo_20, hs, xq_Mo_in, g, z1, k1]
    · rw [if_neg c] at hj
      cases hj
      have g : (30 ≤ nI s ∧ nI s ≤ nI w) = False := by
        apply eq_false
        rintro ⟨g1, g2⟩
        have g1' : ¬ ((30 : Int32) ≤ nI s) ∨ 30 ≤ s := by
          by_cases q : 30 ≤ s
          · exact Or.inr q
          · left
            have : (30 ≤ nI s) = False := by (simp (disch := omega) only [vz_all, if_true, if_false, true_or, or_true, eq_self, ite_not, Bool.false_eq_true, ite_self, and_self, true_and, and_true, false_and, and_false, not_true_eq_false, not_false_eq_true, false_or, or_false])
            rw [this]; exact id
        have g2' : ¬ (nI s ≤ nI w) ∨ s ≤ w := by
          by_cases q : s ≤ w
          · exact Or.inr q
          · left
            have : (nI s ≤ nI w) = False := by (simp (disch := omega) only [vz_all, if_true, if_false, true_or, or_true, eq_self, ite_not, Bool.false_eq_true, ite_self, and_self, true_and, and_true, false_and, and_false, not_true_eq_false, not_false_eq_true, false_or, or_false])
            rw [this]; exact id
        rcases g1' with q | q
        · exact q g1
        · rcases g2' with q2 | q2
          · exact q2 g2
          · exact c ⟨q, q2⟩
      refine ⟨M, J, ?_, h, q_fr M J⟩
      conv => lhs; unfold xb_Mo_joinsTo_0
      simp only [xr_all, xf_all, if_true, if_false, true_or, or_true, eq_self, ite_not, Bool.false_eq_true, ite_self, and_self, true_and, and_true, false_and, and_false, not_true_eq_false, not_false_eq_true, xj_Mo_joinsTo, xb_Mo_joinsTo_20, hs, xq_Mo_in, g]
theorem xq_endsTruth (ro : xv_Ro) (d : Nat) (z : Nat × Nat) {T : List Int32} : ∀ (S : List Nat) (x : Int32) (M : Nat → Nat → Int32) (J : Nat → Nat → Int64), q_s M J S (x :: T) → M 167 34 = nI (op_c S) → ∃ V K, xv_ev ro (d + 1) xm_Mo_endsTruth xb_Mo_endsTruth_0 [some (.ref 167)] [] (z, xv_mk M J) = some (none, (z, xv_mk V K)) ∧ q_s V K (q_E S x).1 ((q_E S x).2 :: T) ∧ V 167 34 = nI (op_c (q_E S x).1) ∧ V 167 35 = 0 ∧ (∀ a, a ≠ 167 → V a = M a) ∧ (∀ j, j ≠ 32 → j ≠ 33 → j ≠ 34 → j ≠ 35 → V 167 j = M 167 j) ∧ ∀ a, a ≠ 188 → K a = J a := by
  have q35 : ∀ {M : Nat → Nat → Int32} {J : Nat → Nat → Int64} {S : List Nat} {T : List Int32}, q_s M J S T → q_s (xv_u2 M 167 35 0) J S T := by
    intro M J S T h
    obtain ⟨h1, h2, h3, h4, h5, h6, h7⟩ := h
    exact ⟨by (repeat (first | rw [xu_ne2 (by omega)] | rw [xu_ne (by omega)] | rw [xu_eq])); exact h1, by (repeat (first | rw [xu_ne2 (by omega)] | rw [xu_ne (by omega)] | rw [xu_eq])); exact h2, by (repeat (first | rw [xu_ne2 (by omega)] | rw [xu_ne (by omega)] | rw [xu_eq])); exact h3, h4, h5, h6, h7⟩
  intro S
  induction S with
  | nil =>
    intro x M J h h34
    have hs := xq_lastSign ro d z M J h
    dsimp only at hs
    have g : ((-1 : Int32) = 33) = False := eq_false (by decide)
    refine ⟨xv_u2 M 167 35 0, J, ?_, q35 h, by (repeat (first | rw [xu_ne2 (by omega)] | rw [xu_ne (by omega)] | rw [xu_eq])); exact h34, xu_eq, fun a q => by (repeat (first | rw [xu_ne2 (by omega)] | rw [xu_ne (by omega)] | rw [xu_eq])), fun j q1 q2 q3 q4 => by (repeat (first | rw [xu_ne2 (by omega)] | rw [xu_ne (by omega)] | rw [xu_eq])), fun _ _ => rfl⟩
    conv => lhs; unfold xb_Mo_endsTruth_0
    simp only [xr_all, xf_all, if_true, if_false, true_or, or_true, eq_self, ite_not, Bool.false_eq_true, ite_self, and_self, true_and, and_true, false_and, and_false, not_true_eq_false, not_false_eq_true, xj_Mo_endsTruth, xb_Mo_endsTruth_26, hs, g]
  | cons s S ih =>
    intro x M J h h34
    have hs := xq_lastSign ro d z M J h
    dsimp only at hs
    have hs100 := h.2.2.2.2.2.2 s (List.mem_cons_self)
    by_cases c : s = 33
    · subst c
      obtain ⟨V, K, k1, k2, k3⟩ := xq_joinsLast_no ro d z M J h
      have e34 : V 167 34 = nI (op_c S + 1) := by
        rw [k3.2.1 34 (by omega) (by omega), h34]
        show nI ((if 33 = 33 ∨ 33 = 90 then 1 else 0) + op_c S) = _
        rw [if_pos (Or.inl rfl), Nat.add_comm]
      have hq : q_s (xv_u2 V 167 34 (nI (op_c S))) K S ((x ^^^ -1) :: T) := by
        obtain ⟨h1, h2, h3, h4, h5, h6, h7⟩ := k2
        exact ⟨by (repeat (first | rw [xu_ne2 (by omega)] | rw [xu_ne (by omega)] | rw [xu_eq])); exact h1, by (repeat (first | rw [xu_ne2 (by omega)] | rw [xu_ne (by omega)] | rw [xu_eq])); exact h2, by (repeat (first | rw [xu_ne2 (by omega)] | rw [xu_ne (by omega)] | rw [xu_eq])); exact h3, h4, h5, h6, h7⟩
      obtain ⟨V2, K2, l1, l2, l3, l4, l5, l6, l7⟩ := ih (x ^^^ -1) (xv_u2 V 167 34 (nI (op_c S))) K hq xu_eq
      have eE : q_E (33 :: S) x = q_E S (x ^^^ -1) := if_pos rfl
      rw [eE]
      refine ⟨V2, K2, ?_, l2, l3, l4, fun a q => by rw [l5 a q, xu_ne q]; exact k3.1 a q, fun j q1 q2 q3 q4 => by rw [l6 j q1 q2 q3 q4, xu_ne2 (by omega)]; exact k3.2.1 j q1 q2, fun a q => (l7 a q).trans (k3.2.2 a q)⟩
      rw [← l1]
      have g : (nI 33 = 33) = True := eq_true rfl
      conv => lhs; unfold xb_Mo_endsTruth_0
      simp only [xr_all, xf_all, if_true, if_false, true_or, or_true, eq_self, ite_not, Bool.false_eq_true, ite_self, and_self, true_and, and_true, false_and, and_false, not_true_eq_false, not_false_eq_true, xj_Mo_endsTruth, xb_Mo_endsTruth_26, hs, g, k1, e34, nI_pred]
    · have g : (nI s = 33) = False := by (simp (disch := omega) only [vz_all, if_true, if_false, true_or, or_true, eq_self, ite_not, Bool.false_eq_true, ite_self, and_self, true_and, and_true, false_and, and_false, not_true_eq_false, not_false_eq_true, false_or, or_false])
      have eE : q_E (s :: S) x = (s :: S, x) := if_neg c
      rw [eE]
      refine ⟨xv_u2 M 167 35 0, J, ?_, q35 h, by (repeat (first | rw [xu_ne2 (by omega)] | rw [xu_ne (by omega)] | rw [xu_eq])); exact h34, xu_eq, fun a q => by (repeat (first | rw [xu_ne2 (by omega)] | rw [xu_ne (by omega)] | rw [xu_eq])), fun j q1 q2 q3 q4 => by (repeat (first | rw [xu_ne2 (by omega)] | rw [xu_ne (by omega)] | rw [xu_eq])), fun _ _ => rfl⟩
      conv => lhs; unfold xb_Mo_endsTruth_0
      simp only [xr_all, xf_all, if_true, if_false, true_or, or_true, eq_self, ite_not, Bool.false_eq_true, ite_self, and_self, true_and, and_true, false_and, and_false, not_true_eq_false, not_false_eq_true, xj_Mo_endsTruth, xb_Mo_endsTruth_26, hs, g]
