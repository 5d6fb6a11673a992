/-! question: the model's steps -/
noncomputable def q_H (ro : xv_Ro) (x1 x2 : Int32) (M : Nat → Nat → Int32) (J : Nat → Nat → Int64) : Option (Option Value × xv_S) := xv_ev ro 199 xm_Mo_question xb_Mo_question_67 [some (.ref 167), some (.int x1), some (.int x2), some (.int 1)] [] (xv_SZ, xv_mk M J)
def q_m (M : Nat → Nat → Int32) (J : Nat → Nat → Int64) (b : Nat → Nat) (n p : Nat) (S : List Nat) (T : List Int32) (nx : Nat) : Prop := tp_M b n p M ∧ q_s M J S T ∧ M 167 34 = nI (op_c S) ∧ M 167 35 = nI nx ∧ S.length ≤ p ∧ T.length ≤ p
def q_g (M : Nat → Nat → Int32) (J : Nat → Nat → Int64) (V : Nat → Nat → Int32) (K : Nat → Nat → Int64) : Prop := (∀ a, a ≠ 167 → a ≠ 187 → V a = M a) ∧ (∀ j, j ≠ 8 → j ≠ 10 → j ≠ 32 → j ≠ 33 → j ≠ 34 → j ≠ 35 → V 167 j = M 167 j) ∧ ∀ a, a ≠ 188 → K a = J a
theorem q_gr (M : Nat → Nat → Int32) (J : Nat → Nat → Int64) : q_g M J M J := ⟨fun _ _ _ => rfl, fun _ _ _ _ _ _ _ => rfl, fun _ _ => rfl⟩
theorem q_gt {M V W : Nat → Nat → Int32} {J K L : Nat → Nat → Int64} (h1 : q_g M J V K) (h2 : q_g V K W L) : q_g M J W L := ⟨fun a q1 q2 => (h2.1 a q1 q2).trans (h1.1 a q1 q2), fun j q1 q2 q3 q4 q5 q6 => (h2.2.1 j q1 q2 q3 q4 q5 q6).trans (h1.2.1 j q1 q2 q3 q4 q5 q6), fun a q => (h2.2.2 a q).trans (h1.2.2 a q)⟩
theorem q_g10 (M : Nat → Nat → Int32) (J : Nat → Nat → Int64) (x : Int32) : q_g M J (xv_u2 M 167 10 x) J := ⟨fun a q1 _ => xu_ne q1, fun j _ q _ _ _ _ => xu_ne2 (fun g => q g.2), fun _ _ => rfl⟩
/-- a fault -/
def q_B (ro : xv_Ro) (x1 x2 : Int32) (M : Nat → Nat → Int32) (J : Nat → Nat → Int64) (f q : Nat) : Prop := ∃ V K, q_H ro x1 x2 M J = some (some (.int (-1000 * nI f - nI q)), (xv_SZ, xv_mk V K)) ∧ q_g M J V K
theorem q_hT {ro : xv_Ro} {x1 x2 : Int32} {M V : Nat → Nat → Int32} {J K : Nat → Nat → Int64} {b : Nat → Nat} {n p : Nat} {S : List Nat} {T : List Int32} (h : q_m M J b n p S T 1) (hp : p < n) : (xv_evm ro 198 88 [.ref 167] (xv_SZ, xv_mk M J) = some (some (.int 1), (xv_SZ, xv_mk V K)) → q_H ro x1 x2 M J = q_H ro x1 x2 V K) ∧ (xv_evm ro 198 88 [.ref 167] (xv_SZ, xv_mk M J) = some (some (.int 0), (xv_SZ, xv_mk V K)) → q_H ro x1 x2 M J = some (some (.int (V 167 10)), (xv_SZ, xv_mk V K))) := by
  obtain ⟨⟨t1, t2, t3, t4, t5⟩, h2, h3, h4, h5, h6⟩ := h
  have e35 : M 167 35 = 1 := h4
  have z1 : ((1 : Int32) = 0) = False := eq_false (by decide)
  have gp : (nI n ≤ nI p) = False := by (simp (disch := omega) only [vz_all, if_true, if_false, true_or, or_true, eq_self, ite_not, Bool.false_eq_true, ite_self, and_self, true_and, and_true, false_and, and_false, not_true_eq_false, not_false_eq_true, false_or, or_false])
  refine ⟨fun hr => ?_, fun hr => ?_⟩
  · conv => lhs; unfold q_H xb_Mo_question_67
    unfold q_H
    simp only [xr_all, xf_all, if_true, if_false, true_or, or_true, eq_self, ite_not, Bool.false_eq_true, ite_self, and_self, true_and, and_true, false_and, and_false, not_true_eq_false, not_false_eq_true, xj_Mo_question, xb_Mo_question_0, xb_Mo_question_28, xb_Mo_question_30, xb_Mo_question_96, xb_Mo_question_100, xb_Mo_question_104, xb_Mo_question_113, xb_Mo_question_126, xb_Mo_question_140, xb_Mo_question_155, z1, t3, t4, gp, e35, hr]
  · conv => lhs; unfold q_H xb_Mo_question_67
    simp only [xr_all, xf_all, if_true, if_false, true_or, or_true, eq_self, ite_not, Bool.false_eq_true, ite_self, and_self, true_and, and_true, false_and, and_false, not_true_eq_false, not_false_eq_true, xj_Mo_question, xb_Mo_question_0, xb_Mo_question_28, xb_Mo_question_30, xb_Mo_question_96, xb_Mo_question_100, xb_Mo_question_104, xb_Mo_question_113, xb_Mo_question_126, xb_Mo_question_140, xb_Mo_question_155, z1, t3, t4, gp, e35, hr]
    conv => lhs; unfold xb_Mo_question_67
    simp only [xr_all, xf_all, if_true, if_false, true_or, or_true, eq_self, ite_not, Bool.false_eq_true, ite_self, and_self, true_and, and_true, false_and, and_false, not_true_eq_false, not_false_eq_true, xj_Mo_question, xb_Mo_question_0, xb_Mo_question_28, xb_Mo_question_30, xb_Mo_question_96, xb_Mo_question_100, xb_Mo_question_104, xb_Mo_question_113, xb_Mo_question_126, xb_Mo_question_140, xb_Mo_question_155]
theorem q_hS {ro : xv_Ro} {x1 x2 : Int32} {M V : Nat → Nat → Int32} {J K : Nat → Nat → Int64} {b : Nat → Nat} {n p : Nat} {S : List Nat} {T : List Int32} (h : q_m M J b n p S T 0) (hp : p < n) : (xv_evm ro 198 89 [.ref 167] (xv_SZ, xv_mk M J) = some (some (.int 1), (xv_SZ, xv_mk V K)) → q_H ro x1 x2 M J = q_H ro x1 x2 V K) ∧ (xv_evm ro 198 89 [.ref 167] (xv_SZ, xv_mk M J) = some (some (.int 0), (xv_SZ, xv_mk V K)) → q_H ro x1 x2 M J = some (some (.int (V 167 10)), (xv_SZ, xv_mk V K))) := by
  obtain ⟨⟨t1, t2, t3, t4, t5⟩, h2, h3, h4, h5, h6⟩ := h
  have e35 : M 167 35 = 0 := h4
  have z1 : ((1 : Int32) = 0) = False := eq_false (by decide)
  have gp : (nI n ≤ nI p) = False := by (simp (disch := omega) only [vz_all, if_true, if_false, true_or, or_true, eq_self, ite_not, Bool.false_eq_true, ite_self, and_self, true_and, and_true, false_and, and_false, not_true_eq_false, not_false_eq_true, false_or, or_false])
  refine ⟨fun hr => ?_, fun hr => ?_⟩
  · conv => lhs; unfold q_H xb_Mo_question_67
    unfold q_H
    simp only [xr_all, xf_all, if_true, if_false, true_or, or_true, eq_self, ite_not, Bool.false_eq_true, ite_self, and_self, true_and, and_true, false_and, and_false, not_true_eq_false, not_false_eq_true, xj_Mo_question, xb_Mo_question_0, xb_Mo_question_28, xb_Mo_question_30, xb_Mo_question_96, xb_Mo_question_100, xb_Mo_question_104, xb_Mo_question_113, xb_Mo_question_126, xb_Mo_question_140, xb_Mo_question_155, z1, t3, t4, gp, e35, hr]
  · conv => lhs; unfold q_H xb_Mo_question_67
    simp only [xr_all, xf_all, if_true, if_false, true_or, or_true, eq_self, ite_not, Bool.false_eq_true, ite_self, and_self, true_and, and_true, false_and, and_false, not_true_eq_false, not_false_eq_true, xj_Mo_question, xb_Mo_question_0, xb_Mo_question_28, xb_Mo_question_30, xb_Mo_question_96, xb_Mo_question_100, xb_Mo_question_104, xb_Mo_question_113, xb_Mo_question_126, xb_Mo_question_140, xb_Mo_question_155, z1, t3, t4, gp, e35, hr]
    conv => lhs; unfold xb_Mo_question_67
    simp only [xr_all, xf_all, if_true, if_false, true_or, or_true, eq_self, ite_not, Bool.false_eq_true, ite_self, and_self, true_and, and_true, false_and, and_false, not_true_eq_false, not_false_eq_true, xj_Mo_question, xb_Mo_question_0, xb_Mo_question_28, xb_Mo_question_30, xb_Mo_question_96, xb_Mo_question_100, xb_Mo_question_104, xb_Mo_question_113, xb_Mo_question_126, xb_Mo_question_140, xb_Mo_question_155]
def q_at (c : Nat) : Option Int32 := if 97 ≤ c ∧ c ≤ 101 then some (xv_wof (c - 97)) else if c = 49 then some (-1) else if c = 48 then some 0 else none
theorem xq_worldsOf2 (ro : xv_Ro) (d : Nat) (σ : xv_S) {c : Nat} {x : Int32} (h : q_at c = some x) : xv_evm ro (d + 1) 87 [.int (nI c)] σ = some (some (.long (vq_L x)), σ) ∧ (97 ≤ c ∧ c ≤ 101 ∨ c = 48 ∨ c = 49) := by
  unfold q_at at h
  by_cases c1 : 97 ≤ c ∧ c ≤ 101
  · rw [if_pos c1] at h
    cases h
    have := xq_worldsOf ro d σ (f := c - 97) (by omega)
    rw [show 97 + (c - 97) = c by omega] at this
    exact ⟨this, Or.inl c1⟩
  · rw [if_neg c1] at h
    by_cases c2 : c = 49
    · rw [if_pos c2] at h
      cases h
      subst c2
      refine ⟨?_, Or.inr (Or.inr rfl)⟩
      have g1 : (nI 49 = 48) = False := eq_false (by decide)
      have g2 : (nI 49 = 49) = True := eq_true rfl
      rw [xe_Mo_worldsOf]
      simp only [xr_all, xf_all, if_true, if_false, true_or, or_true, eq_self, ite_not, Bool.false_eq_true, ite_self, and_self, true_and, and_true, false_and, and_false, not_true_eq_false, not_false_eq_true, xj_Mo_worldsOf, xb_Mo_worldsOf_0, xb_Mo_worldsOf_8, xb_Mo_worldsOf_18, xb_Mo_worldsOf_46, xb_Mo_worldsOf_52, g1, g2]
      rw [vq_E]
    · rw [if_neg c2] at h
      by_cases c3 : c = 48
      · rw [if_pos c3] at h
        cases h
        subst c3
        refine ⟨?_, Or.inr (Or.inl rfl)⟩
        have g1 : (nI 48 = 48) = True := eq_true rfl
        rw [xe_Mo_worldsOf]
        simp only [xr_all, xf_all, if_true, if_false, true_or, or_true, eq_self, ite_not, Bool.false_eq_true, ite_self, and_self, true_and, and_true, false_and, and_false, not_true_eq_false, not_false_eq_true, xj_Mo_worldsOf, xb_Mo_worldsOf_0, xb_Mo_worldsOf_8, xb_Mo_worldsOf_18, xb_Mo_worldsOf_46, xb_Mo_worldsOf_52, g1]
        rfl
      · rw [if_neg c3] at h; cases h
theorem q_at_no {c : Nat} (h : q_at c = none) : ¬ (97 ≤ c ∧ c ≤ 101) ∧ c ≠ 49 ∧ c ≠ 48 := by
  unfold q_at at h
  by_cases c1 : 97 ≤ c ∧ c ≤ 101
  · rw [if_pos c1] at h; cases h
  · rw [if_neg c1] at h
    by_cases c2 : c = 49
    · rw [if_pos c2] at h; cases h
    · rw [if_neg c2] at h
      by_cases c3 : c = 48
      · rw [if_pos c3] at h; cases h
      · exact ⟨c1, c2, c3⟩
theorem q_inae {c : Nat} (hc : c < 256) : (97 ≤ nI c ∧ nI c ≤ 101) = (97 ≤ c ∧ c ≤ 101) := by
  have e1 : (97 ≤ nI c) = (97 ≤ c) := propext (nI_leI (a := 97) (b := c) (by omega) (by omega))
  have e2 : (nI c ≤ 101) = (c ≤ 101) := propext (nI_leI (a := c) (b := 101) (by omega) (by omega))
  rw [e1, e2]
/-- an atom -/
theorem q_sA {ro : xv_Ro} {x1 x2 : Int32} {M : Nat → Nat → Int32} {J : Nat → Nat → Int64} {b : Nat → Nat} {n p : Nat} {S : List Nat} {T : List Int32} {x : Int32} (hn : n ≤ 60) (h : q_m M J b n p S T 1) (hp : p < n) (ha : q_at (b p) = some x) : ∃ V K, q_H ro x1 x2 M J = q_H ro x1 x2 V K ∧ q_m V K b n (p + 1) (q_E S x).1 ((q_E S x).2 :: T) 0 ∧ q_g M J V K := by
  have hM := h.1
  obtain ⟨-, ⟨h1, h2, h3, h4, h5, h6, h7⟩, h34, h35, hS, hT⟩ := id h
  have hb := (hM.2.2.2.2 p hp).1
  have hh := xq_here ro 197 xv_SZ M J hM
  have ev : tp_c b n p = nI (b p) := if_pos hp
  rw [ev] at hh
  obtain ⟨hw, hc⟩ := xq_worldsOf2 ro 196 (xv_SZ, xv_mk M J) ha
  have g3 : xv_inB (nI T.length) 60 = true := by (simp (disch := omega) only [vz_all, if_true, if_false, true_or, or_true, eq_self, ite_not, Bool.false_eq_true, ite_self, and_self, true_and, and_true, false_and, and_false, not_true_eq_false, not_false_eq_true, false_or, or_false])
  have hp8 := hM.2.2.2.1
  have q1 : q_s (xv_u2 (xv_u2 M 167 33 (nI (T.length + 1))) 167 8 (nI (p + 1))) (xv_u2 J 188 T.length (vq_L x)) S (x :: T) := ⟨by (repeat (first | rw [xu_ne2 (by omega)] | rw [xu_ne (by omega)] | rw [xu_eq])); exact h1, by (repeat (first | rw [xu_ne2 (by omega)] | rw [xu_ne (by omega)] | rw [xu_eq])); exact h2, by (repeat (first | rw [xu_ne2 (by omega)] | rw [xu_ne (by omega)] | rw [xu_eq])); rfl, ⟨xu_eq, st_T_c T h4 (fun i hi => xu_ne2 (by omega))⟩, h5, by show T.length + 1 ≤ 60; omega, h7⟩
  obtain ⟨V, K, k1, k2, k3, k4, k5, k6, k7⟩ := xq_endsTruth ro 196 xv_SZ S x _ _ q1 (by (repeat (first | rw [xu_ne2 (by omega)] | rw [xu_ne (by omega)] | rw [xu_eq])); exact h34)
  have hlen : ∀ (S : List Nat) (x : Int32), (q_E S x).1.length ≤ S.length := by
    intro S
    induction S with
    | nil => intro x; exact Nat.le_refl _
    | cons s S ih =>
      intro x
      unfold q_E
      by_cases c : s = 33
      · rw [if_pos c]; exact Nat.le_trans (ih _) (Nat.le_succ _)
      · rw [if_neg c]; exact Nat.le_refl _
  refine ⟨V, K, (q_hT (V := V) (K := K) h hp).1 ?_, ⟨?_, k2, k3, k4, Nat.le_trans (hlen S x) (by omega), by show T.length + 1 ≤ p + 1; omega⟩, fun a q1 q2 => by rw [k5 a q1]; (repeat (first | rw [xu_ne2 (by omega)] | rw [xu_ne (by omega)] | rw [xu_eq])), fun j q1 q2 q3 q4 q5 q6 => by rw [k6 j q3 q4 q5 q6]; (repeat (first | rw [xu_ne2 (by omega)] | rw [xu_ne (by omega)] | rw [xu_eq])), fun a q => by rw [k7 a q, xu_ne q]⟩
  · have e34 : ∀ y, xv_u2 M 167 33 y 167 8 = nI p := fun y => by rw [xu_ne2 (by omega)]; exact hp8
    have gin := q_inae hb
    have hex : xv_evm ro 197 86 [.ref 167] (xv_SZ, xv_mk (xv_u2 (xv_u2 M 167 33 (nI (T.length + 1))) 167 8 (nI (p + 1))) (xv_u2 J 188 T.length (vq_L x))) = some (none, (xv_SZ, xv_mk V K)) := by
      rw [xe_Mo_endsTruth]; exact k1
    have z1 : ((1 : Int32) = 0) = False := eq_false (by decide)
    rw [xe_Mo_readsTruth]
    rcases hc with c | c | c
    · have gi := gin.trans (eq_true c)
      simp only [xr_all, xf_all, if_true, if_false, true_or, or_true, eq_self, ite_not, Bool.false_eq_true, ite_self, and_self, true_and, and_true, false_and, and_false, not_true_eq_false, not_false_eq_true, xj_Mo_readsTruth, xb_Mo_readsTruth_0, xb_Mo_readsTruth_28, xb_Mo_readsTruth_67, xb_Mo_readsTruth_89, xb_Mo_readsTruth_108, xb_Mo_readsTruth_130, xb_Mo_readsTruth_132, hh, xq_Mo_in, gi, z1, h3, g3, nI_clamp (show T.length < 2 ^ 31 by omega), hw, nI_1, e34, hex]
    · have gi := gin.trans (eq_false (by omega))
      have g48 : (nI (b p) = 48) = True := by (simp (disch := omega) only [vz_all, if_true, if_false, true_or, or_true, eq_self, ite_not, Bool.false_eq_true, ite_self, and_self, true_and, and_true, false_and, and_false, not_true_eq_false, not_false_eq_true, false_or, or_false])
      simp only [xr_all, xf_all, if_true, if_false, true_or, or_true, eq_self, ite_not, Bool.false_eq_true, ite_self, and_self, true_and, and_true, false_and, and_false, not_true_eq_false, not_false_eq_true, xj_Mo_readsTruth, xb_Mo_readsTruth_0, xb_Mo_readsTruth_28, xb_Mo_readsTruth_67, xb_Mo_readsTruth_89, xb_Mo_readsTruth_108, xb_Mo_readsTruth_130, xb_Mo_readsTruth_132, hh, xq_Mo_in, gi, g48, h3, g3, nI_clamp (show T.length < 2 ^ 31 by omega), hw, nI_1, e34, hex]
    · have gi := gin.trans (eq_false (by omega))
      have g48 : (nI (b p) = 48) = False := by (simp (disch := omega) only [vz_all, if_true, if_false, true_or, or_true, eq_self, ite_not, Bool.false_eq_true, ite_self, and_self, true_and, and_true, false_and, and_false, not_true_eq_false, not_false_eq_true, false_or, or_false])
      have g49 : (nI (b p) = 49) = True := by (simp (disch := omega) only [vz_all, if_true, if_false, true_or, or_true, eq_self, ite_not, Bool.false_eq_true, ite_self, and_self, true_and, and_true, false_and, and_false, not_true_eq_false, not_false_eq_true, false_or, or_false])
      simp only [xr_all, xf_all, if_true, if_false, true_or, or_true, eq_self, ite_not, Bool.false_eq_true, ite_self, and_self, true_and, and_true, false_and, and_false, not_true_eq_false, not_false_eq_true, xj_Mo_readsTruth, xb_Mo_readsTruth_0, xb_Mo_readsTruth_28, xb_Mo_readsTruth_67, xb_Mo_readsTruth_89, xb_Mo_readsTruth_108, xb_Mo_readsTruth_130, xb_Mo_readsTruth_132, hh, xq_Mo_in, gi, g48, g49, h3, g3, nI_clamp (show T.length < 2 ^ 31 by omega), hw, nI_1, e34, hex]
  · have hq : tp_M b n (p + 1) (xv_u2 (xv_u2 M 167 33 (nI (T.length + 1))) 167 8 (nI (p + 1))) := tp_Ms (tp_Mc hM (by (repeat (first | rw [xu_ne2 (by omega)] | rw [xu_ne (by omega)] | rw [xu_eq]))) (by (repeat (first | rw [xu_ne2 (by omega)] | rw [xu_ne (by omega)] | rw [xu_eq]))) (by (repeat (first | rw [xu_ne2 (by omega)] | rw [xu_ne (by omega)] | rw [xu_eq])))) hp
    exact tp_Mc hq (k6 9 (by omega) (by omega) (by omega) (by omega)) (k6 8 (by omega) (by omega) (by omega) (by omega)) (k5 173 (by omega))
/-- ! or ( -/
theorem q_sO {ro : xv_Ro} {x1 x2 : Int32} {M : Nat → Nat → Int32} {J : Nat → Nat → Int64} {b : Nat → Nat} {n p : Nat} {S : List Nat} {T : List Int32} {w : Nat} (hn : n ≤ 60) (h : q_m M J b n p S T 1) (hp : p < n) (hw : (b p = 33 ∧ w = 33) ∨ (b p = 40 ∧ w = 90)) (hop : op_c S < 6) : ∃ V K, q_H ro x1 x2 M J = q_H ro x1 x2 V K ∧ q_m V K b n (p + 1) (w :: S) T 1 ∧ q_g M J V K := by
  have hM := h.1
  obtain ⟨-, ⟨h1, h2, h3, h4, h5, h6, h7⟩, h34, h35, hS, hT⟩ := id h
  have hb := (hM.2.2.2.2 p hp).1
  have hh := xq_here ro 197 xv_SZ M J hM
  have ev : tp_c b n p = nI (b p) := if_pos hp
  rw [ev] at hh
  have hp8 := hM.2.2.2.1
  have q1 : q_s (xv_u2 M 167 34 (nI (op_c S + 1))) J S T := ⟨by (repeat (first | rw [xu_ne2 (by omega)] | rw [xu_ne (by omega)] | rw [xu_eq])); exact h1, by (repeat (first | rw [xu_ne2 (by omega)] | rw [xu_ne (by omega)] | rw [xu_eq])); exact h2, by (repeat (first | rw [xu_ne2 (by omega)] | rw [xu_ne (by omega)] | rw [xu_eq])); exact h3, h4, h5, h6, h7⟩
  obtain ⟨V, k1, k2, k3, k4⟩ := xq_waitsFor ro 197 xv_SZ _ J (w := w) q1 (by omega) (by omega)
  have e8 : V 167 8 = nI p := by rw [k4 8 (by omega), xu_ne2 (by omega)]; exact hp8
  have hVM : tp_M b n p V := tp_Mc hM (by rw [k4 9 (by omega)]; (repeat (first | rw [xu_ne2 (by omega)] | rw [xu_ne (by omega)] | rw [xu_eq]))) (by rw [k4 8 (by omega)]; (repeat (first | rw [xu_ne2 (by omega)] | rw [xu_ne (by omega)] | rw [xu_eq]))) (by rw [k3 173 (by omega) (by omega)]; (repeat (first | rw [xu_ne2 (by omega)] | rw [xu_ne (by omega)] | rw [xu_eq])))
  have opc : op_c (w :: S) = op_c S + 1 := by
    show (if w = 33 ∨ w = 90 then 1 else 0) + op_c S = _
    rw [if_pos (by omega), Nat.add_comm]
  obtain ⟨l1, l2, l3, l4, l5, l6, l7⟩ := k2
  refine ⟨xv_u2 V 167 8 (nI (p + 1)), J, (q_hT h hp).1 ?_, ⟨tp_Ms hVM hp, ⟨by (repeat (first | rw [xu_ne2 (by omega)] | rw [xu_ne (by omega)] | rw [xu_eq])); exact l1, by (repeat (first | rw [xu_ne2 (by omega)] | rw [xu_ne (by omega)] | rw [xu_eq])); exact l2, by (repeat (first | rw [xu_ne2 (by omega)] | rw [xu_ne (by omega)] | rw [xu_eq])); exact l3, l4, l5, l6, l7⟩, ?_, ?_, by show S.length + 1 ≤ p + 1; omega, by omega⟩, fun a q1 q2 => by rw [xu_ne q1, k3 a q1 q2, xu_ne q1], fun j q1 q2 q3 q4 q5 q6 => by rw [xu_ne2 (by omega), k4 j q3, xu_ne2 (by omega)], fun _ _ => rfl⟩
  · have gin := (q_inae hb).trans (eq_false (by omega))
    have g48 : (nI (b p) = 48) = False := by (simp (disch := omega) only [vz_all, if_true, if_false, true_or, or_true, eq_self, ite_not, Bool.false_eq_true, ite_self, and_self, true_and, and_true, false_and, and_false, not_true_eq_false, not_false_eq_true, false_or, or_false])
    have g49 : (nI (b p) = 49) = False := by (simp (disch := omega) only [vz_all, if_true, if_false, true_or, or_true, eq_self, ite_not, Bool.false_eq_true, ite_self, and_self, true_and, and_true, false_and, and_false, not_true_eq_false, not_false_eq_true, false_or, or_false])
    have g6 : (nI (op_c S) = 6) = False := by (simp (disch := omega) only [vz_all, if_true, if_false, true_or, or_true, eq_self, ite_not, Bool.false_eq_true, ite_self, and_self, true_and, and_true, false_and, and_false, not_true_eq_false, not_false_eq_true, false_or, or_false])
    rw [xe_Mo_readsTruth]
    rcases hw with ⟨c, rfl⟩ | ⟨c, rfl⟩
    · have g33 : (nI (b p) = 33) = True := by (simp (disch := omega) only [vz_all, if_true, if_false, true_or, or_true, eq_self, ite_not, Bool.false_eq_true, ite_self, and_self, true_and, and_true, false_and, and_false, not_true_eq_false, not_false_eq_true, false_or, or_false])
      rw [show nI 33 = (33 : Int32) from rfl] at k1
      simp only [xr_all, xf_all, if_true, if_false, true_or, or_true, eq_self, ite_not, Bool.false_eq_true, ite_self, and_self, true_and, and_true, false_and, and_false, not_true_eq_false, not_false_eq_true, xj_Mo_readsTruth, xb_Mo_readsTruth_0, xb_Mo_readsTruth_28, xb_Mo_readsTruth_67, xb_Mo_readsTruth_89, xb_Mo_readsTruth_108, xb_Mo_readsTruth_130, xb_Mo_readsTruth_132, hh, xq_Mo_in, gin, g48, g49, g33, h34, g6, nI_1, k1, e8]
    · have g33 : (nI (b p) = 33) = False := by (simp (disch := omega) only [vz_all, if_true, if_false, true_or, or_true, eq_self, ite_not, Bool.false_eq_true, ite_self, and_self, true_and, and_true, false_and, and_false, not_true_eq_false, not_false_eq_true, false_or, or_false])
      have g40 : (nI (b p) = 40) = True := by (simp (disch := omega) only [vz_all, if_true, if_false, true_or, or_true, eq_self, ite_not, Bool.false_eq_true, ite_self, and_self, true_and, and_true, false_and, and_false, not_true_eq_false, not_false_eq_true, false_or, or_false])
      rw [show nI 90 = (90 : Int32) from rfl] at k1
      simp only [xr_all, xf_all, if_true, if_false, true_or, or_true, eq_self, ite_not, Bool.false_eq_true, ite_self, and_self, true_and, and_true, false_and, and_false, not_true_eq_false, not_false_eq_true, xj_Mo_readsTruth, xb_Mo_readsTruth_0, xb_Mo_readsTruth_28, xb_Mo_readsTruth_67, xb_Mo_readsTruth_89, xb_Mo_readsTruth_108, xb_Mo_readsTruth_130, xb_Mo_readsTruth_132, hh, xq_Mo_in, gin, g48, g49, g33, g40, h34, g6, nI_1, k1, e8]
  · rw [xu_ne2 (by omega), k4 34 (by omega), xu_eq, opc]
  · rw [xu_ne2 (by omega), k4 35 (by omega), xu_ne2 (by omega)]; exact h35
/-- what can't stand there -/
theorem q_sX {ro : xv_Ro} {x1 x2 : Int32} {M : Nat → Nat → Int32} {J : Nat → Nat → Int64} {b : Nat → Nat} {n p : Nat} {S : List Nat} {T : List Int32} (h : q_m M J b n p S T 1) (hp : p < n) {f : Nat} (hf : (f = 1 ∧ q_at (b p) = none ∧ b p ≠ 33 ∧ b p ≠ 40) ∨ (f = 5 ∧ (b p = 33 ∨ b p = 40) ∧ op_c S = 6)) : q_B ro x1 x2 M J f p := by
  have hM := h.1
  obtain ⟨-, ⟨h1, h2, h3, h4, h5, h6, h7⟩, h34, h35, hS, hT⟩ := id h
  have hb := (hM.2.2.2.2 p hp).1
  have hh := xq_here ro 197 xv_SZ M J hM
  have ev : tp_c b n p = nI (b p) := if_pos hp
  rw [ev] at hh
  have hp8 := hM.2.2.2.1
  refine ⟨xv_u2 M 167 10 (-1000 * nI f - nI p), J, ?_, q_g10 M J _⟩
  have key : xv_evm ro 198 88 [.ref 167] (xv_SZ, xv_mk M J) = some (some (.int 0), (xv_SZ, xv_mk (xv_u2 M 167 10 (-1000 * nI f - nI p)) J)) := by
    rw [xe_Mo_readsTruth]
    rcases hf with ⟨rfl, ha, c1, c2⟩ | ⟨rfl, c, h6⟩
    · obtain ⟨a1, a2, a3⟩ := q_at_no ha
      have gin := (q_inae hb).trans (eq_false a1)
      have g48 : (nI (b p) = 48) = False := by (simp (disch := omega) only [vz_all, if_true, if_false, true_or, or_true, eq_self, ite_not, Bool.false_eq_true, ite_self, and_self, true_and, and_true, false_and, and_false, not_true_eq_false, not_false_eq_true, false_or, or_false])
      have g49 : (nI (b p) = 49) = False := by (simp (disch := omega) only [vz_all, if_true, if_false, true_or, or_true, eq_self, ite_not, Bool.false_eq_true, ite_self, and_self, true_and, and_true, false_and, and_false, not_true_eq_false, not_false_eq_true, false_or, or_false])
      have g33 : (nI (b p) = 33) = False := by (simp (disch := omega) only [vz_all, if_true, if_false, true_or, or_true, eq_self, ite_not, Bool.false_eq_true, ite_self, and_self, true_and, and_true, false_and, and_false, not_true_eq_false, not_false_eq_true, false_or, or_false])
      have g40 : (nI (b p) = 40) = False := by (simp (disch := omega) only [vz_all, if_true, if_false, true_or, or_true, eq_self, ite_not, Bool.false_eq_true, ite_self, and_self, true_and, and_true, false_and, and_false, not_true_eq_false, not_false_eq_true, false_or, or_false])
      have hw := xq_wrongAt ro 197 xv_SZ M J 1 (nI p)
      simp only [xr_all, xf_all, if_true, if_false, true_or, or_true, eq_self, ite_not, Bool.false_eq_true, ite_self, and_self, true_and, and_true, false_and, and_false, not_true_eq_false, not_false_eq_true, xj_Mo_readsTruth, xb_Mo_readsTruth_0, xb_Mo_readsTruth_28, xb_Mo_readsTruth_67, xb_Mo_readsTruth_89, xb_Mo_readsTruth_108, xb_Mo_readsTruth_130, xb_Mo_readsTruth_132, hh, xq_Mo_in, gin, g48, g49, g33, g40, hp8, hw]
      rfl
    · have gin := (q_inae hb).trans (eq_false (by omega))
      have g48 : (nI (b p) = 48) = False := by (simp (disch := omega) only [vz_all, if_true, if_false, true_or, or_true, eq_self, ite_not, Bool.false_eq_true, ite_self, and_self, true_and, and_true, false_and, and_false, not_true_eq_false, not_false_eq_true, false_or, or_false])
      have g49 : (nI (b p) = 49) = False := by (simp (disch := omega) only [vz_all, if_true, if_false, true_or, or_true, eq_self, ite_not, Bool.false_eq_true, ite_self, and_self, true_and, and_true, false_and, and_false, not_true_eq_false, not_false_eq_true, false_or, or_false])
      have g6 : (nI (op_c S) = 6) = True := by (simp (disch := omega) only [vz_all, if_true, if_false, true_or, or_true, eq_self, ite_not, Bool.false_eq_true, ite_self, and_self, true_and, and_true, false_and, and_false, not_true_eq_false, not_false_eq_true, false_or, or_false])
      have hw := xq_wrongAt ro 197 xv_SZ M J 5 (nI p)
      rcases c with c | c
      · have g33 : (nI (b p) = 33) = True := by (simp (disch := omega) only [vz_all, if_true, if_false, true_or, or_true, eq_self, ite_not, Bool.false_eq_true, ite_self, and_self, true_and, and_true, false_and, and_false, not_true_eq_false, not_false_eq_true, false_or, or_false])
        simp only [xr_all, xf_all, if_true, if_false, true_or, or_true, eq_self, ite_not, Bool.false_eq_true, ite_self, and_self, true_and, and_true, false_and, and_false, not_true_eq_false, not_false_eq_true, xj_Mo_readsTruth, xb_Mo_readsTruth_0, xb_Mo_readsTruth_28, xb_Mo_readsTruth_67, xb_Mo_readsTruth_89, xb_Mo_readsTruth_108, xb_Mo_readsTruth_130, xb_Mo_readsTruth_132, hh, xq_Mo_in, gin, g48, g49, g33, h34, g6, hp8, hw]
        rfl
      · have g33 : (nI (b p) = 33) = False := by (simp (disch := omega) only [vz_all, if_true, if_false, true_or, or_true, eq_self, ite_not, Bool.false_eq_true, ite_self, and_self, true_and, and_true, false_and, and_false, not_true_eq_false, not_false_eq_true, false_or, or_false])
        have g40 : (nI (b p) = 40) = True := by (simp (disch := omega) only [vz_all, if_true, if_false, true_or, or_true, eq_self, ite_not, Bool.false_eq_true, ite_self, and_self, true_and, and_true, false_and, and_false, not_true_eq_false, not_false_eq_true, false_or, or_false])
        simp only [xr_all, xf_all, if_true, if_false, true_or, or_true, eq_self, ite_not, Bool.false_eq_true, ite_self, and_self, true_and, and_true, false_and, and_false, not_true_eq_false, not_false_eq_true, xj_Mo_readsTruth, xb_Mo_readsTruth_0, xb_Mo_readsTruth_28, xb_Mo_readsTruth_67, xb_Mo_readsTruth_89, xb_Mo_readsTruth_108, xb_Mo_readsTruth_130, xb_Mo_readsTruth_132, hh, xq_Mo_in, gin, g48, g49, g33, g40, h34, g6, hp8, hw]
        rfl
  rw [(q_hT (x1 := x1) (x2 := x2) h hp).2 key, xu_eq]
