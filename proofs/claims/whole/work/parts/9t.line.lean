/-! transcript: a line, the class's small steps -/
theorem xu_id {α : Type} (I : Nat → Nat → α) (o a : Nat) : xv_u2 I o a (I o a) = I := by
  funext a' j'
  unfold xv_u2
  by_cases c : a' = o ∧ j' = a
  · rw [if_pos c, c.1, c.2]
  · rw [if_neg c]
theorem xu_uu {α : Type} (I : Nat → Nat → α) (o a : Nat) (x y : α) : xv_u2 (xv_u2 I o a x) o a y = xv_u2 I o a y := by
  funext a' j'
  unfold xv_u2
  by_cases c : a' = o ∧ j' = a
  · rw [if_pos c, if_pos c]
  · rw [if_neg c, if_neg c, if_neg c]
theorem xq_step_any (ro : xv_Ro) (d : Nat) (z : Nat × Nat) (I : Nat → Nat → Int32) (J : Nat → Nat → Int64) : ∃ x, xv_evm ro d 253 [.ref 1] (z, xv_mk I J) = some (none, (z, xv_mk (xv_u2 I 1 3 x) J)) := by
  rw [xe_Tape_step]
  by_cases c : I 1 2 ≤ I 1 3
  · refine ⟨I 1 3, ?_⟩
    rw [xu_id]
    simp only [xr_all, xf_all, if_true, if_false, true_or, or_true, eq_self, ite_not, Bool.false_eq_true, ite_self, and_self, true_and, and_true, false_and, and_false, not_true_eq_false, not_false_eq_true, xj_Tape_step, xb_Tape_step_0, xb_Tape_step_21, c]
  · refine ⟨I 1 3 + 1, ?_⟩
    simp only [xr_all, xf_all, if_true, if_false, true_or, or_true, eq_self, ite_not, Bool.false_eq_true, ite_self, and_self, true_and, and_true, false_and, and_false, not_true_eq_false, not_false_eq_true, xj_Tape_step, xb_Tape_step_0, xb_Tape_step_21, c]
theorem xq_step (ro : xv_Ro) (d : Nat) (z : Nat × Nat) (I : Nat → Nat → Int32) (J : Nat → Nat → Int64) {b : Nat → Nat} {n p : Nat} (h : tp_C b n p I) (c : p < n) : xv_evm ro d 253 [.ref 1] (z, xv_mk I J) = some (none, (z, xv_mk (xv_u2 I 1 3 (nI (p + 1))) J)) := by
  have h3 := h.2.2.1
  have h4 := h.2.2.2.1
  have hn := h.1
  have g1 : (nI n ≤ nI p) = False := by (simp (disch := omega) only [vz_all, if_true, if_false, true_or, or_true, eq_self, ite_not, Bool.false_eq_true, ite_self, and_self, true_and, and_true, false_and, and_false, not_true_eq_false, not_false_eq_true, false_or, or_false])
  rw [xe_Tape_step]
  simp only [xr_all, xf_all, if_true, if_false, true_or, or_true, eq_self, ite_not, Bool.false_eq_true, ite_self, and_self, true_and, and_true, false_and, and_false, not_true_eq_false, not_false_eq_true, xj_Tape_step, xb_Tape_step_0, xb_Tape_step_21, h3, h4, g1, nI_1]
theorem xq_expect (ro : xv_Ro) (d : Nat) (z : Nat × Nat) (I : Nat → Nat → Int32) (J : Nat → Nat → Int64) {b : Nat → Nat} {n p c : Nat} (h : tp_C b n p I) (hc : c < 256) : xv_evm ro (d + 2) 255 [.ref 1, .int (nI c)] (z, xv_mk I J) = some (none, (z, xv_mk (if p < n ∧ b p = c then xv_u2 I 1 3 (nI (p + 1)) else xv_u2 I 1 4 (-1000 * 1 - nI p)) J)) := by
  have ht := xq_take ro d z I J h hc
  have h4 := h.2.2.2.1
  have hr := xq_refuse ro (d + 1) z I J 1 (nI p) h.2.2.2.2.1
  have z1 : ((1 : Int32) = 0) = False := eq_false (by decide)
  rw [xe_Tape_expect]
  by_cases q : p < n ∧ b p = c
  · rw [if_pos q] at ht ⊢
    simp only [xr_all, xf_all, if_true, if_false, true_or, or_true, eq_self, ite_not, Bool.false_eq_true, ite_self, and_self, true_and, and_true, false_and, and_false, not_true_eq_false, not_false_eq_true, xj_Tape_expect, xb_Tape_expect_0, xb_Tape_expect_17, ht, z1]
  · rw [if_neg q] at ht ⊢
    simp only [xr_all, xf_all, if_true, if_false, true_or, or_true, eq_self, ite_not, Bool.false_eq_true, ite_self, and_self, true_and, and_true, false_and, and_false, not_true_eq_false, not_false_eq_true, xj_Tape_expect, xb_Tape_expect_0, xb_Tape_expect_17, ht, h4, hr]
theorem xq_expect_x (ro : xv_Ro) (d : Nat) (z : Nat × Nat) (I : Nat → Nat → Int32) (J : Nat → Nat → Int64) {c : Nat} (h : (I 1 4 = 0) = False) (hc : c < 256) : xv_evm ro (d + 2) 255 [.ref 1, .int (nI c)] (z, xv_mk I J) = some (none, (z, xv_mk I J)) := by
  have ht := xq_take_x ro d z I J h hc
  have hr := xq_refuse_x ro (d + 1) z I J 1 (I 1 3) h
  rw [xe_Tape_expect]
  simp only [xr_all, xf_all, if_true, if_false, true_or, or_true, eq_self, ite_not, Bool.false_eq_true, ite_self, and_self, true_and, and_true, false_and, and_false, not_true_eq_false, not_false_eq_true, xj_Tape_expect, xb_Tape_expect_0, xb_Tape_expect_17, ht, hr]
theorem xq_Arefuse (ro : xv_Ro) (d : Nat) (z : Nat × Nat) (I : Nat → Nat → Int32) (J : Nat → Nat → Int64) {w : Int32} (h : I 1 4 = 0) (hw : (w = 0) = False) : xv_evm ro (d + 1) 174 [.ref 1, .int w] (z, xv_mk I J) = some (none, (z, xv_mk (xv_u2 I 1 4 (-1000 * w - I 1 3)) J)) := by
  have hp := xq_Tape_place ro d z I J
  have hr := xq_refuse ro d z I J w (I 1 3) h
  rw [xe_Archive_refuse]
  simp only [xr_all, xf_all, if_true, if_false, true_or, or_true, eq_self, ite_not, Bool.false_eq_true, ite_self, and_self, true_and, and_true, false_and, and_false, not_true_eq_false, not_false_eq_true, xj_Archive_refuse, xb_Archive_refuse_0, xb_Archive_refuse_13, hw, hp, hr]
theorem xq_Arefuse_x (ro : xv_Ro) (d : Nat) (z : Nat × Nat) (I : Nat → Nat → Int32) (J : Nat → Nat → Int64) {w : Int32} (h : (I 1 4 = 0) = False) (hw : (w = 0) = False) : xv_evm ro (d + 1) 174 [.ref 1, .int w] (z, xv_mk I J) = some (none, (z, xv_mk I J)) := by
  have hp := xq_Tape_place ro d z I J
  have hr := xq_refuse_x ro d z I J w (I 1 3) h
  rw [xe_Archive_refuse]
  simp only [xr_all, xf_all, if_true, if_false, true_or, or_true, eq_self, ite_not, Bool.false_eq_true, ite_self, and_self, true_and, and_true, false_and, and_false, not_true_eq_false, not_false_eq_true, xj_Archive_refuse, xb_Archive_refuse_0, xb_Archive_refuse_13, hw, hp, hr]
theorem xq_Arefuse_0 (ro : xv_Ro) (d : Nat) (z : Nat × Nat) (I : Nat → Nat → Int32) (J : Nat → Nat → Int64) : xv_evm ro (d + 1) 174 [.ref 1, .int 0] (z, xv_mk I J) = some (none, (z, xv_mk I J)) := by
  rw [xe_Archive_refuse]
  simp only [xr_all, xf_all, if_true, if_false, true_or, or_true, eq_self, ite_not, Bool.false_eq_true, ite_self, and_self, true_and, and_true, false_and, and_false, not_true_eq_false, not_false_eq_true, xj_Archive_refuse, xb_Archive_refuse_0, xb_Archive_refuse_13]
def tl_fr (I W : Nat → Nat → Int32) : Prop := (∀ a, a ≠ 1 → W a = I a) ∧ ∀ j, j ≠ 3 → j ≠ 4 → W 1 j = I 1 j
theorem tl_frr (I : Nat → Nat → Int32) : tl_fr I I := ⟨fun _ _ => rfl, fun _ _ _ => rfl⟩
theorem tl_frt {I W V : Nat → Nat → Int32} (h1 : tl_fr I W) (h2 : tl_fr W V) : tl_fr I V := ⟨fun a q => (h2.1 a q).trans (h1.1 a q), fun j q1 q2 => (h2.2 j q1 q2).trans (h1.2 j q1 q2)⟩
theorem tl_fr3 (I : Nat → Nat → Int32) (x : Int32) : tl_fr I (xv_u2 I 1 3 x) := ⟨fun a q => xu_ne q, fun j q _ => xu_ne2 (fun g => q g.2)⟩
theorem tl_fr4 (I : Nat → Nat → Int32) (x : Int32) : tl_fr I (xv_u2 I 1 4 x) := ⟨fun a q => xu_ne q, fun j _ q => xu_ne2 (fun g => q g.2)⟩
def tl_f (sd : Nat) (tb : Bool) (l : Nat) : Nat := if sd = 20 then 4 else if tb = false then 7 else if l = 0 then 8 else 0
theorem xq_wrong_no (ro : xv_Ro) (d : Nat) (σ : xv_S) {x : Int32} (h : (x < 0) = True ∨ ((x < 0) = False ∧ (x < 10) = False)) : xv_evm ro d 173 [.ref 111, .int x] σ = some (some (.int 1), σ) := by
  rw [xe_Archive_whatIsWrongWith]
  rcases h with h | ⟨h1, h2⟩
  · simp only [xr_all, xf_all, if_true, if_false, true_or, or_true, eq_self, ite_not, Bool.false_eq_true, ite_self, and_self, true_and, and_true, false_and, and_false, not_true_eq_false, not_false_eq_true, xj_Archive_whatIsWrongWith, xb_Archive_whatIsWrongWith_0, xb_Archive_whatIsWrongWith_10, xb_Archive_whatIsWrongWith_12, xb_Archive_whatIsWrongWith_23, xb_Archive_whatIsWrongWith_36, xb_Archive_whatIsWrongWith_48, xb_Archive_whatIsWrongWith_49, h]
  · simp only [xr_all, xf_all, if_true, if_false, true_or, or_true, eq_self, ite_not, Bool.false_eq_true, ite_self, and_self, true_and, and_true, false_and, and_false, not_true_eq_false, not_false_eq_true, xj_Archive_whatIsWrongWith, xb_Archive_whatIsWrongWith_0, xb_Archive_whatIsWrongWith_10, xb_Archive_whatIsWrongWith_12, xb_Archive_whatIsWrongWith_23, xb_Archive_whatIsWrongWith_36, xb_Archive_whatIsWrongWith_48, xb_Archive_whatIsWrongWith_49, h1, h2]
theorem xq_wrong (ro : xv_Ro) (d : Nat) (z : Nat × Nat) (I : Nat → Nat → Int32) (J : Nat → Nat → Int64) {w sd l : Nat} {tb : Bool} (hw : w < 10) (hs : I 111 2 = nI sd) (hs2 : sd ≤ 20) (ht : I (111 + 3 + 2 * w) 3 = if tb = true then 1 else 0) (hl : I (111 + 3 + 2 * w) 1 = nI l) (hl2 : l ≤ 12) : xv_evm ro (d + 2) 173 [.ref 111, .int (nI w)] (z, xv_mk I J) = some (some (.int (nI (tl_f sd tb l))), (z, xv_mk I J)) := by
  have hA : vAr 111 := Or.inr (Or.inr rfl)
  have e1 : (nI w < 0) = False := by (simp (disch := omega) only [vz_all, if_true, if_false, true_or, or_true, eq_self, ite_not, Bool.false_eq_true, ite_self, and_self, true_and, and_true, false_and, and_false, not_true_eq_false, not_false_eq_true, false_or, or_false])
  have e2 : (nI w < 10) = True := by (simp (disch := omega) only [vz_all, if_true, if_false, true_or, or_true, eq_self, ite_not, Bool.false_eq_true, ite_self, and_self, true_and, and_true, false_and, and_false, not_true_eq_false, not_false_eq_true, false_or, or_false])
  unfold tl_f
  rw [xe_Archive_whatIsWrongWith]
  by_cases c : sd = 20
  · have g : (nI sd < 20) = False := by (simp (disch := omega) only [vz_all, if_true, if_false, true_or, or_true, eq_self, ite_not, Bool.false_eq_true, ite_self, and_self, true_and, and_true, false_and, and_false, not_true_eq_false, not_false_eq_true, false_or, or_false])
    rw [if_pos c]
    simp only [xr_all, xf_all, if_true, if_false, true_or, or_true, eq_self, ite_not, Bool.false_eq_true, ite_self, and_self, true_and, and_true, false_and, and_false, not_true_eq_false, not_false_eq_true, xj_Archive_whatIsWrongWith, xb_Archive_whatIsWrongWith_0, xb_Archive_whatIsWrongWith_10, xb_Archive_whatIsWrongWith_12, xb_Archive_whatIsWrongWith_23, xb_Archive_whatIsWrongWith_36, xb_Archive_whatIsWrongWith_48, xb_Archive_whatIsWrongWith_49, e1, e2, hs, g]
    rfl
  · have g : (nI sd < 20) = True := by (simp (disch := omega) only [vz_all, if_true, if_false, true_or, or_true, eq_self, ite_not, Bool.false_eq_true, ite_self, and_self, true_and, and_true, false_and, and_false, not_true_eq_false, not_false_eq_true, false_or, or_false])
    rw [if_neg c]
    cases tb with
    | false =>
      rw [if_pos rfl]
      have htold := xq_told_no ro d z I J hA (nI w) (fun v hv q => by
        have : v = w := ((nI_eq (by omega) (by omega)).mp q).symm
        rw [this, ht, if_neg (by decide)])
      simp only [xr_all, xf_all, if_true, if_false, true_or, or_true, eq_self, ite_not, Bool.false_eq_true, ite_self, and_self, true_and, and_true, false_and, and_false, not_true_eq_false, not_false_eq_true, xj_Archive_whatIsWrongWith, xb_Archive_whatIsWrongWith_0, xb_Archive_whatIsWrongWith_10, xb_Archive_whatIsWrongWith_12, xb_Archive_whatIsWrongWith_23, xb_Archive_whatIsWrongWith_36, xb_Archive_whatIsWrongWith_48, xb_Archive_whatIsWrongWith_49, e1, e2, hs, g, htold]
      rfl
    | true =>
      rw [if_neg (by decide)]
      have htold := xq_told ro d z I J hA hw (by rw [ht, if_pos rfl])
      have hW := vAr_W hA hw
      have hly := xq_Witness_layers ro (d + 1) z I J hW
      rw [hl] at hly
      by_cases c2 : l = 0
      · have g2 : (nI l = 0) = True := by (simp (disch := omega) only [vz_all, if_true, if_false, true_or, or_true, eq_self, ite_not, Bool.false_eq_true, ite_self, and_self, true_and, and_true, false_and, and_false, not_true_eq_false, not_false_eq_true, false_or, or_false])
        rw [if_pos c2]
        simp only [xr_all, xf_all, if_true, if_false, true_or, or_true, eq_self, ite_not, Bool.false_eq_true, ite_self, and_self, true_and, and_true, false_and, and_false, not_true_eq_false, not_false_eq_true, xj_Archive_whatIsWrongWith, xb_Archive_whatIsWrongWith_0, xb_Archive_whatIsWrongWith_10, xb_Archive_whatIsWrongWith_12, xb_Archive_whatIsWrongWith_23, xb_Archive_whatIsWrongWith_36, xb_Archive_whatIsWrongWith_48, xb_Archive_whatIsWrongWith_49, e1, e2, hs, g, htold, hly, g2, vW_f hW]
        rfl
      · have g2 : (nI l = 0) = False := by (simp (disch := omega) only [vz_all, if_true, if_false, true_or, or_true, eq_self, ite_not, Bool.false_eq_true, ite_self, and_self, true_and, and_true, false_and, and_false, not_true_eq_false, not_false_eq_true, false_or, or_false])
        rw [if_neg c2]
        simp only [xr_all, xf_all, if_true, if_false, true_or, or_true, eq_self, ite_not, Bool.false_eq_true, ite_self, and_self, true_and, and_true, false_and, and_false, not_true_eq_false, not_false_eq_true, xj_Archive_whatIsWrongWith, xb_Archive_whatIsWrongWith_0, xb_Archive_whatIsWrongWith_10, xb_Archive_whatIsWrongWith_12, xb_Archive_whatIsWrongWith_23, xb_Archive_whatIsWrongWith_36, xb_Archive_whatIsWrongWith_48, xb_Archive_whatIsWrongWith_49, e1, e2, hs, g, htold, hly, g2, vW_f hW]
        rfl
/-- behind a fault the rest of a line only steps -/
theorem xl_ln61x (ro : xv_Ro) (d : Nat) (z : Nat × Nat) (I : Nat → Nat → Int32) (J : Nat → Nat → Int64) (x3 x4 : Int32) (h : (I 1 4 = 0) = False) : ∃ W, xv_ev ro (d + 4) xm_Archive_line xb_Archive_line_61 [some (.ref 111), some (.ref 1), some (.ref 3), some (.int x3), some (.int x4), none, none] [] (z, xv_mk I J) = some (none, (z, xv_mk W J)) ∧ tl_fr I W ∧ W 1 4 = I 1 4 := by
  obtain ⟨x, hst⟩ := xq_step_any ro (d + 3) z I J
  have h' : (xv_u2 I 1 3 x 1 4 = 0) = False := by rw [xu_ne2 (by omega)]; exact h
  have h43 := xq_take_x ro (d + 2) z _ J (c := 43) h' (by omega)
  have h42 := xq_take_x ro (d + 2) z _ J (c := 42) h' (by omega)
  have h45 := xq_expect_x ro (d + 1) z _ J (c := 45) h' (by omega)
  have hf := xl_onI ro (d + 3) z _ J (v := 1) (Or.inr ⟨h', rfl⟩)
  rw [show nI 43 = (43 : Int32) from rfl] at h43
  rw [show nI 42 = (42 : Int32) from rfl] at h42
  rw [show nI 45 = (45 : Int32) from rfl] at h45
  have z1 : ((1 : Int32) = 0) = False := eq_false (by decide)
  refine ⟨xv_u2 I 1 3 x, ?_, tl_fr3 I x, xu_ne2 (by omega)⟩
  simp only [xr_all, xf_all, if_true, if_false, true_or, or_true, eq_self, ite_not, Bool.false_eq_true, ite_self, and_self, true_and, and_true, false_and, and_false, not_true_eq_false, not_false_eq_true, xj_Archive_line, xb_Archive_line_0, xb_Archive_line_52, xb_Archive_line_56, xb_Archive_line_58, xb_Archive_line_61, xb_Archive_line_84, xb_Archive_line_111, hst, h43, h42, h45, hf, z1]
theorem tl_66 : (¬ ∃ j : Nat, j ≤ 7 ∧ (-1 : Int32) - 65 = nI j) ∧ ((-1 : Int32) - 65 < 0) = True := by
  refine ⟨?_, eq_true (by decide)⟩
  rintro ⟨j, hj, q⟩
  have := congrArg Int32.toInt q
  rw [nI_toInt (by omega)] at this
  have e : ((-1 : Int32) - 65).toInt = -66 := by decide
  omega
/-- a fault at the witness -/
theorem xl_ln0 (ro : xv_Ro) (d : Nat) (z : Nat × Nat) (I : Nat → Nat → Int32) (J : Nat → Nat → Int64) {b : Nat → Nat} {n p f : Nat} (h : tp_C b n p I) (hf1 : 1 ≤ f) (hf : f ≤ 9) (hw : xv_evm ro (d + 3) 173 [.ref 111, .int (tp_c b n p - 48)] (z, xv_mk I J) = some (some (.int (nI f)), (z, xv_mk I J))) : ∃ W, xv_evm ro (d + 4) 172 [.ref 111, .ref 1, .ref 3] (z, xv_mk I J) = some (none, (z, xv_mk W J)) ∧ tl_fr I W ∧ W 1 4 = -1000 * nI f - nI p := by
  have hn := h.1
  have hpn := h.2.1
  have hs := xq_sign ro (d + 3) z I J h
  have hf0 : (nI f = 0) = False := by (simp (disch := omega) only [vz_all, if_true, if_false, true_or, or_true, eq_self, ite_not, Bool.false_eq_true, ite_self, and_self, true_and, and_true, false_and, and_false, not_true_eq_false, not_false_eq_true, false_or, or_false])
  have hr := xq_Arefuse ro (d + 2) z I J h.2.2.2.2.1 hf0
  rw [h.2.2.2.1] at hr
  have hd : (xv_u2 I 1 4 (-1000 * nI f - nI p) 1 4 = 0) = False := by rw [xu_eq]; exact tp_f f hf1 hf (by omega)
  have hd4 : xv_u2 I 1 4 (-1000 * nI f - nI p) 1 4 = -1000 * nI f - nI p := xu_eq
  have hfr := tl_fr4 I (-1000 * nI f - nI p)
  generalize xv_u2 I 1 4 (-1000 * nI f - nI p) = D at *
  obtain ⟨x, hst⟩ := xq_step_any ro (d + 3) z D J
  have hd' : (xv_u2 D 1 3 x 1 4 = 0) = False := by rw [xu_ne2 (by omega)]; exact hd
  have hs2 := xq_sign_x ro (d + 3) z _ J hd'
  have hT := xq_Questions_isTold_no ro (d + 3) (z, xv_mk (xv_u2 D 1 3 x) J) tl_66.1
  have hr2 := xq_Arefuse_x ro (d + 2) z (xv_u2 D 1 3 x) J (w := 1) hd' (eq_false (by decide))
  obtain ⟨W, a1, a2, a3⟩ := xl_ln61x ro d z (xv_u2 D 1 3 x) J (tp_c b n p - 48) (-1 - 65) hd'
  refine ⟨W, ?_, tl_frt hfr (tl_frt (tl_fr3 D x) a2), by rw [a3, xu_ne2 (by omega)]; exact hd4⟩
  rw [← a1, xe_Archive_line]
  simp only [xr_all, xf_all, if_true, if_false, true_or, or_true, eq_self, ite_not, Bool.false_eq_true, ite_self, and_self, true_and, and_true, false_and, and_false, not_true_eq_false, not_false_eq_true, xj_Archive_line, xb_Archive_line_0, xb_Archive_line_52, xb_Archive_line_56, xb_Archive_line_58, xb_Archive_line_84, xb_Archive_line_111, hs, hw, hr, hst, hs2, hT, tl_66.2, hr2]
/-- a fault at the question -/
theorem xl_ln1 (ro : xv_Ro) (d : Nat) (z : Nat × Nat) (I : Nat → Nat → Int32) (J : Nat → Nat → Int64) {b : Nat → Nat} {n p f : Nat} (h : tp_C b n p I) (hp : p < n) (hw : xv_evm ro (d + 3) 173 [.ref 111, .int (tp_c b n p - 48)] (z, xv_mk I J) = some (some (.int 0), (z, xv_mk I J))) (hT : ∀ V, V 3 1 = I 3 1 → xv_evm ro (d + 3) 223 [.ref 3, .int (tp_c b n (p + 1) - 65)] (z, xv_mk V J) = some (some (.int 0), (z, xv_mk V J))) (hk : (f = 1 ∧ ((tp_c b n (p + 1) - 65 < 0) = True ∨ ((tp_c b n (p + 1) - 65 < 0) = False ∧ (tp_c b n (p + 1) - 65 < 8) = False))) ∨ (f = 7 ∧ (tp_c b n (p + 1) - 65 < 0) = False ∧ (tp_c b n (p + 1) - 65 < 8) = True)) : ∃ W, xv_evm ro (d + 4) 172 [.ref 111, .ref 1, .ref 3] (z, xv_mk I J) = some (none, (z, xv_mk W J)) ∧ tl_fr I W ∧ W 1 4 = -1000 * nI f - nI (p + 1) := by
  have hn := h.1
  have hf : 1 ≤ f ∧ f ≤ 9 := by rcases hk with ⟨hk, -⟩ | ⟨hk, -⟩ <;> omega
  have hs := xq_sign ro (d + 3) z I J h
  have hr0 := xq_Arefuse_0 ro (d + 2) z I J
  have hst := xq_step ro (d + 3) z I J h hp
  have h1 := tp_Cs h hp
  have hs1 := xq_sign ro (d + 3) z _ J h1
  have hT1 := hT (xv_u2 I 1 3 (nI (p + 1))) (xu_ne2 (by omega))
  have hf0 : (nI f = 0) = False := by (simp (disch := omega) only [vz_all, if_true, if_false, true_or, or_true, eq_self, ite_not, Bool.false_eq_true, ite_self, and_self, true_and, and_true, false_and, and_false, not_true_eq_false, not_false_eq_true, false_or, or_false])
  have hr := xq_Arefuse ro (d + 2) z _ J h1.2.2.2.2.1 hf0
  rw [h1.2.2.2.1] at hr
  have hfr := tl_frt (tl_fr3 I (nI (p + 1))) (tl_fr4 _ (-1000 * nI f - nI (p + 1)))
  have hd4 : xv_u2 (xv_u2 I 1 3 (nI (p + 1))) 1 4 (-1000 * nI f - nI (p + 1)) 1 4 = -1000 * nI f - nI (p + 1) := xu_eq
  generalize xv_u2 (xv_u2 I 1 3 (nI (p + 1))) 1 4 (-1000 * nI f - nI (p + 1)) = D at *
  have hd : (D 1 4 = 0) = False := by rw [hd4]; exact tp_f f hf.1 hf.2 (by omega)
  obtain ⟨W, a1, a2, a3⟩ := xl_ln61x ro d z D J (tp_c b n p - 48) (tp_c b n (p + 1) - 65) hd
  refine ⟨W, ?_, tl_frt hfr a2, by rw [a3]; exact hd4⟩
  rw [← a1, xe_Archive_line]
  rcases hk with ⟨rfl, g | ⟨g1, g2⟩⟩ | ⟨rfl, g1, g2⟩
  · rw [show nI 1 = (1 : Int32) from rfl] at hr
    simp only [xr_all, xf_all, if_true, if_false, true_or, or_true, eq_self, ite_not, Bool.false_eq_true, ite_self, and_self, true_and, and_true, false_and, and_false, not_true_eq_false, not_false_eq_true, xj_Archive_line, xb_Archive_line_0, xb_Archive_line_52, xb_Archive_line_56, xb_Archive_line_58, xb_Archive_line_84, xb_Archive_line_111, hs, hw, hr0, hst, hs1, hT1, g, hr]
  · rw [show nI 1 = (1 : Int32) from rfl] at hr
    simp only [xr_all, xf_all, if_true, if_false, true_or, or_true, eq_self, ite_not, Bool.false_eq_true, ite_self, and_self, true_and, and_true, false_and, and_false, not_true_eq_false, not_false_eq_true, xj_Archive_line, xb_Archive_line_0, xb_Archive_line_52, xb_Archive_line_56, xb_Archive_line_58, xb_Archive_line_84, xb_Archive_line_111, hs, hw, hr0, hst, hs1, hT1, g1, g2, hr]
  · rw [show nI 7 = (7 : Int32) from rfl] at hr
    simp only [xr_all, xf_all, if_true, if_false, true_or, or_true, eq_self, ite_not, Bool.false_eq_true, ite_self, and_self, true_and, and_true, false_and, and_false, not_true_eq_false, not_false_eq_true, xj_Archive_line, xb_Archive_line_0, xb_Archive_line_52, xb_Archive_line_56, xb_Archive_line_58, xb_Archive_line_84, xb_Archive_line_111, hs, hw, hr0, hst, hs1, hT1, g1, g2, hr]
/-- neither + nor - -/
theorem xl_ln2 (ro : xv_Ro) (d : Nat) (z : Nat × Nat) (I : Nat → Nat → Int32) (J : Nat → Nat → Int64) {b : Nat → Nat} {n p : Nat} (x3 x4 : Int32) (h : tp_C b n p I) (hp : p < n) (h43 : ¬ (p + 1 < n ∧ b (p + 1) = 43)) (h45 : ¬ (p + 1 < n ∧ b (p + 1) = 45)) : ∃ W, xv_ev ro (d + 4) xm_Archive_line xb_Archive_line_61 [some (.ref 111), some (.ref 1), some (.ref 3), some (.int x3), some (.int x4), none, none] [] (z, xv_mk I J) = some (none, (z, xv_mk W J)) ∧ tl_fr I W ∧ W 1 4 = -1000 * nI 1 - nI (p + 1) := by
  have hn := h.1
  have hst := xq_step ro (d + 3) z I J h hp
  have h1 := tp_Cs h hp
  have t43 := xq_take ro (d + 2) z _ J (c := 43) h1 (by omega)
  rw [if_neg h43, show nI 43 = (43 : Int32) from rfl] at t43
  have t45 := xq_expect ro (d + 1) z _ J (c := 45) h1 (by omega)
  rw [if_neg h45, show nI 45 = (45 : Int32) from rfl] at t45
  have hd' : (xv_u2 (xv_u2 I 1 3 (nI (p + 1))) 1 4 (-1000 * 1 - nI (p + 1)) 1 4 = 0) = False := by rw [xu_eq]; exact tp_f 1 (by omega) (by omega) (by omega)
  have t42 := xq_take_x ro (d + 2) z _ J (c := 42) hd' (by omega)
  rw [show nI 42 = (42 : Int32) from rfl] at t42
  have hf := xl_onI ro (d + 3) z _ J (v := 1) (Or.inr ⟨hd', rfl⟩)
  have z1 : ((1 : Int32) = 0) = False := eq_false (by decide)
  refine ⟨_, ?_, tl_frt (tl_fr3 I (nI (p + 1))) (tl_fr4 _ (-1000 * 1 - nI (p + 1))), xu_eq⟩
  simp only [xr_all, xf_all, if_true, if_false, true_or, or_true, eq_self, ite_not, Bool.false_eq_true, ite_self, and_self, true_and, and_true, false_and, and_false, not_true_eq_false, not_false_eq_true, xj_Archive_line, xb_Archive_line_0, xb_Archive_line_52, xb_Archive_line_56, xb_Archive_line_58, xb_Archive_line_61, xb_Archive_line_84, xb_Archive_line_111, hst, t43, t45, t42, hf, z1]
/-- what is said -/
theorem xl_ln3 (ro : xv_Ro) (d : Nat) (z : Nat × Nat) (I W : Nat → Nat → Int32) (J : Nat → Nat → Int64) {b : Nat → Nat} {n p p' y c : Nat} (x3 x4 s : Int32) (h : tp_C b n p I) (hp : p + 1 < n) (hy : (y = 1 ∧ b (p + 1) = 43) ∨ (y = 0 ∧ b (p + 1) = 45)) (hc : (c = 1 ∧ (p + 2 < n ∧ b (p + 2) = 42) ∧ p' = p + 3) ∨ (c = 0 ∧ ¬ (p + 2 < n ∧ b (p + 2) = 42) ∧ p' = p + 2)) (hsay : xv_evm ro (d + 3) 169 [.ref 111, .int x3, .int x4, .int (nI y), .int (nI c)] (z, xv_mk (xv_u2 I 1 3 (nI p')) J) = some (some (.int s), (z, xv_mk W J))) : xv_ev ro (d + 4) xm_Archive_line xb_Archive_line_61 [some (.ref 111), some (.ref 1), some (.ref 3), some (.int x3), some (.int x4), none, none] [] (z, xv_mk I J) = some (none, (z, xv_mk W J)) := by
  have hn := h.1
  have hst := xq_step ro (d + 3) z I J h (by omega)
  have h1 := tp_Cs h (show p < n by omega)
  have h2 := tp_Cs h1 hp
  have h4 := h.2.2.2.2.1
  have t43 := xq_take ro (d + 2) z _ J (c := 43) h1 (by omega)
  rw [show nI 43 = (43 : Int32) from rfl] at t43
  have t45 := xq_expect ro (d + 1) z _ J (c := 45) h1 (by omega)
  rw [show nI 45 = (45 : Int32) from rfl] at t45
  have t42 := xq_take ro (d + 2) z _ J (c := 42) h2 (by omega)
  rw [show nI 42 = (42 : Int32) from rfl] at t42
  simp only [xu_uu] at t43 t45 t42
  have e4 : ∀ x, xv_u2 I 1 3 x 1 4 = 0 := fun x => by rw [xu_ne2 (by omega)]; exact h4
  have hf := fun x => xl_onI ro (d + 3) z (xv_u2 I 1 3 x) J (v := 0) (Or.inl ⟨e4 x, rfl⟩)
  have z1 : ((1 : Int32) = 0) = False := eq_false (by decide)
  have fin : ∀ (x5 : Int32), x5 = nI y → xv_ev ro (d + 4) xm_Archive_line xb_Archive_line_84 [some (.ref 111), some (.ref 1), some (.ref 3), some (.int x3), some (.int x4), some (.int x5), none] [] (z, xv_mk (xv_u2 I 1 3 (nI (p + 1 + 1))) J) = some (none, (z, xv_mk W J)) := by
    intro x5 hx5
    subst hx5
    rcases hc with ⟨rfl, hc, rfl⟩ | ⟨rfl, hc, rfl⟩
    · rw [if_pos hc] at t42
      rw [show nI 1 = (1 : Int32) from rfl, show p + 3 = p + 1 + 1 + 1 by omega] at hsay
      simp only [xr_all, xf_all, if_true, if_false, true_or, or_true, eq_self, ite_not, Bool.false_eq_true, ite_self, and_self, true_and, and_true, false_and, and_false, not_true_eq_false, not_false_eq_true, xj_Archive_line, xb_Archive_line_0, xb_Archive_line_52, xb_Archive_line_56, xb_Archive_line_58, xb_Archive_line_61, xb_Archive_line_84, xb_Archive_line_111, t42, hf, hsay]
    · rw [if_neg hc] at t42
      rw [show nI 0 = (0 : Int32) from rfl, show p + 2 = p + 1 + 1 by omega] at hsay
      simp only [xr_all, xf_all, if_true, if_false, true_or, or_true, eq_self, ite_not, Bool.false_eq_true, ite_self, and_self, true_and, and_true, false_and, and_false, not_true_eq_false, not_false_eq_true, xj_Archive_line, xb_Archive_line_0, xb_Archive_line_52, xb_Archive_line_56, xb_Archive_line_58, xb_Archive_line_61, xb_Archive_line_84, xb_Archive_line_111, t42, hf, hsay]
  rcases hy with ⟨rfl, hy⟩ | ⟨rfl, hy⟩
  · rw [if_pos ⟨hp, hy⟩] at t43
    rw [← fin 1 rfl]
    simp only [xr_all, xf_all, if_true, if_false, true_or, or_true, eq_self, ite_not, Bool.false_eq_true, ite_self, and_self, true_and, and_true, false_and, and_false, not_true_eq_false, not_false_eq_true, xj_Archive_line, xb_Archive_line_0, xb_Archive_line_52, xb_Archive_line_56, xb_Archive_line_58, xb_Archive_line_61, xb_Archive_line_111, hst, t43, z1]
  · rw [if_neg (fun q => by omega)] at t43
    rw [if_pos ⟨hp, hy⟩] at t45
    rw [← fin 0 rfl]
    simp only [xr_all, xf_all, if_true, if_false, true_or, or_true, eq_self, ite_not, Bool.false_eq_true, ite_self, and_self, true_and, and_true, false_and, and_false, not_true_eq_false, not_false_eq_true, xj_Archive_line, xb_Archive_line_0, xb_Archive_line_52, xb_Archive_line_56, xb_Archive_line_58, xb_Archive_line_61, xb_Archive_line_111, hst, t43, t45]
