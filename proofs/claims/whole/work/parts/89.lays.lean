/-! skins in boxes: the model's search -/
/-- how many boxes the first i have begun -/
def bz_g (row : Nat → Nat) : Nat → Nat
  | 0 => 0
  | i + 1 => max (bz_g row i) (row i + 1)
theorem bz_gc {r s : Nat → Nat} : ∀ {i : Nat}, (∀ j, j < i → r j = s j) → bz_g r i = bz_g s i := by
  intro i
  induction i with
  | zero => intro _; rfl
  | succ i ih =>
    intro h
    show max (bz_g r i) (r i + 1) = max (bz_g s i) (s i + 1)
    rw [ih (fun j hj => h j (by omega)), h i (by omega)]
theorem xq_skinOf (ro : xv_Ro) (d : Nat) (z : Nat × Nat) (M : Nat → Nat → Int32) (J : Nat → Nat → Int64) {i : Nat} (hi : i < 260) : xv_evm ro d 131 [.ref 167, .int (nI i)] (z, xv_mk M J) = some (some (.int (M 173 i &&& 255)), (z, xv_mk M J)) := by
  rw [xe_Mo_skinOf]
  have g : xv_inB (nI i) 260 = true := by (simp (disch := omega) only [vz_all, if_true, if_false, true_or, or_true, eq_self, ite_not, Bool.false_eq_true, ite_self, and_self, true_and, and_true, false_and, and_false, not_true_eq_false, not_false_eq_true, false_or, or_false])
  simp only [xr_all, xf_all, if_true, if_false, true_or, or_true, eq_self, ite_not, Bool.false_eq_true, ite_self, and_self, true_and, and_true, false_and, and_false, not_true_eq_false, not_false_eq_true, xj_Mo_skinOf, xb_Mo_skinOf_0, g, nI_clamp (show i < 2 ^ 31 by omega)]
theorem xq_begunBy (ro : xv_Ro) (d : Nat) (z : Nat × Nat) (M : Nat → Nat → Int32) (J : Nat → Nat → Int64) {row : Nat → Nat} {i : Nat} (hi : i ≤ 10) (hr : ∀ j, j < i → row j < 10 ∧ M 195 j = nI (row j)) : xv_evm ro (d + 1) 132 [.ref 167, .int (nI i)] (z, xv_mk M J) = some (some (.int (nI (bz_g row i))), (z, xv_mk M J)) := by
  have hle : ∀ j, j ≤ i → bz_g row j ≤ 10 := by
    intro j
    induction j with
    | zero => intro _; exact Nat.zero_le _
    | succ j ih =>
      intro h
      have h1 := ih (by omega)
      have h2 := (hr j (by omega)).1
      show max (bz_g row j) (row j + 1) ≤ 10
      omega
  rw [xe_Mo_begunBy]
  simp only [xr_all, xf_all, if_true, if_false, true_or, or_true, eq_self, ite_not, Bool.false_eq_true, ite_self, and_self, true_and, and_true, false_and, and_false, not_true_eq_false, not_false_eq_true, xj_Mo_begunBy, xb_Mo_begunBy_0, xb_Mo_begunBy_28]
  have hl := vz_iter (fun j => xv_ev ro (d + 1) xm_Mo_begunBy xb_Mo_begunBy_4 [some (.ref 167), some (.int (nI i)), some (.int (nI (bz_g row j))), some (.int (nI j))] [] (z, xv_mk M J)) i (fun j hj => by
    have hs : bz_g row (j + 1) = max (bz_g row j) (row j + 1) := rfl
    have h1 := hle j (by omega)
    obtain ⟨h2, h3⟩ := hr j hj
    have g1 : (nI i ≤ nI j) = False := by (simp (disch := omega) only [vz_all, if_true, if_false, true_or, or_true, eq_self, ite_not, Bool.false_eq_true, ite_self, and_self, true_and, and_true, false_and, and_false, not_true_eq_false, not_false_eq_true, false_or, or_false])
    have g2 : xv_inB (nI j) 10 = true := by (simp (disch := omega) only [vz_all, if_true, if_false, true_or, or_true, eq_self, ite_not, Bool.false_eq_true, ite_self, and_self, true_and, and_true, false_and, and_false, not_true_eq_false, not_false_eq_true, false_or, or_false])
    rw [hs]
    have gm : (if nI (row j + 1) < nI (bz_g row j) then nI (bz_g row j) else nI (row j + 1)) = nI (max (bz_g row j) (row j + 1)) := by
      by_cases c : row j + 1 < bz_g row j
      · rw [if_pos (nI_lt c (by omega)), show max (bz_g row j) (row j + 1) = bz_g row j by omega]
      · rw [if_neg (nI_nlt (by omega) (by omega)), show max (bz_g row j) (row j + 1) = row j + 1 by omega]
    conv => lhs; unfold xb_Mo_begunBy_4
    simp only [xr_all, xf_all, if_true, if_false, true_or, or_true, eq_self, ite_not, Bool.false_eq_true, ite_self, and_self, true_and, and_true, false_and, and_false, not_true_eq_false, not_false_eq_true, xj_Mo_begunBy, xb_Mo_begunBy_0, xb_Mo_begunBy_28, g1, g2, nI_clamp (show j < 2 ^ 31 by omega), h3, nI_1, xq_Mo_max, gm])
  have e0 : bz_g row 0 = 0 := rfl
  rw [e0, show nI 0 = (0 : Int32) from rfl] at hl
  rw [hl]
  have g1 : (nI i ≤ nI i) = True := by (simp (disch := omega) only [vz_all, if_true, if_false, true_or, or_true, eq_self, ite_not, Bool.false_eq_true, ite_self, and_self, true_and, and_true, false_and, and_false, not_true_eq_false, not_false_eq_true, false_or, or_false])
  conv => lhs; unfold xb_Mo_begunBy_4
  simp only [xr_all, xf_all, if_true, if_false, true_or, or_true, eq_self, ite_not, Bool.false_eq_true, ite_self, and_self, true_and, and_true, false_and, and_false, not_true_eq_false, not_false_eq_true, xj_Mo_begunBy, xb_Mo_begunBy_0, xb_Mo_begunBy_28, g1]
/-- what the search finds, as the model's loop comes to it: an end, or back behind i -/
def bz_R (ro : xv_Ro) (d : Nat) (z : Nat × Nat) (J : Nat → Nat → Int64) (n B R i : Nat) (ld row : Nat → Nat) (M : Nat → Nat → Int32) (x : Option (Option Value × xv_S)) (s : Option (Nat → Nat)) : Prop :=
  ∃ M1 : Nat → Nat → Int32, (∀ a, a ≠ 195 → a ≠ 196 → M1 a = M a) ∧ (∀ j, j < i → M1 195 j = nI (row j)) ∧ ((∃ r, s = some r ∧ x = some (some (.int 1), (z, xv_mk M1 J)) ∧ ∀ j, j < n → M1 195 j = nI (r j)) ∨ (s = none ∧ (∃ u v y : Option Value, x = xv_ev ro d xm_Mo_laysBoxes xb_Mo_laysBoxes_136 [some (.ref 167), some (.int (nI n)), some (.int (nI B)), some (.int (nI R)), some (.int (nI i)), u, v, y] [] (z, xv_mk M1 J)) ∧ ∀ b, b < B → M1 196 b = nI (ld b)))
theorem xl_lays (ro : xv_Ro) (d : Nat) (z : Nat × Nat) (J : Nat → Nat → Int64) {w : Nat → Nat} {R B n : Nat} (hn : n ≤ 10) (hB1 : 1 ≤ B) (hB : B ≤ 10) (hR : R ≤ 255) (hw : ∀ i, i < n → w i ≤ 99) : ∀ (k i : Nat) (ld row : Nat → Nat) (M : Nat → Nat → Int32) (v y : Option Value), i + k = n → (∀ b, ld b ≤ 255) → (∀ j, j < i → row j < B) → bz_g row i ≤ i → (∀ j, j < n → M 173 j &&& 255 = nI (w j)) → (∀ b, b < B → M 196 b = nI (ld b)) → (∀ j, j < i → M 195 j = nI (row j)) → bz_R ro (d + 2) z J n B R i ld row M (xv_ev ro (d + 2) xm_Mo_laysBoxes xb_Mo_laysBoxes_29 [some (.ref 167), some (.int (nI n)), some (.int (nI B)), some (.int (nI R)), some (.int (nI i)), some (.int 0), v, y] [] (z, xv_mk M J)) (bz_p w R B k i (bz_g row i) ld row) := by
  intro k
  induction k with
  | zero =>
    intro i ld row M v y hi hld hr hg h5 h6 h7
    obtain rfl : i = n := by omega
    refine ⟨M, fun _ _ _ => rfl, h7, Or.inl ⟨row, rfl, ?_, h7⟩⟩
    have g1 : (nI i ≤ nI i) = True := by (simp (disch := omega) only [vz_all, if_true, if_false, true_or, or_true, eq_self, ite_not, Bool.false_eq_true, ite_self, and_self, true_and, and_true, false_and, and_false, not_true_eq_false, not_false_eq_true, false_or, or_false])
    conv => lhs; unfold xb_Mo_laysBoxes_29
    simp only [xr_all, xf_all, if_true, if_false, true_or, or_true, eq_self, ite_not, Bool.false_eq_true, ite_self, and_self, true_and, and_true, false_and, and_false, not_true_eq_false, not_false_eq_true, xj_Mo_laysBoxes, xb_Mo_laysBoxes_0, xb_Mo_laysBoxes_3, xb_Mo_laysBoxes_23, xb_Mo_laysBoxes_87, xb_Mo_laysBoxes_143, xb_Mo_laysBoxes_194, g1]
  | succ k ih =>
    intro i ld row M v y hi hld hr hg h5 h6 h7
    have hmn : (if nI (B - 1) < nI (bz_g row i) then nI (B - 1) else nI (bz_g row i)) = nI (min (B - 1) (bz_g row i)) := by
      by_cases c : B - 1 < bz_g row i
      · rw [if_pos (nI_lt c (by omega)), show min (B - 1) (bz_g row i) = B - 1 by omega]
      · rw [if_neg (nI_nlt (by omega) (by omega)), show min (B - 1) (bz_g row i) = bz_g row i by omega]
    have gn : (nI n ≤ nI i) = False := by (simp (disch := omega) only [vz_all, if_true, if_false, true_or, or_true, eq_self, ite_not, Bool.false_eq_true, ite_self, and_self, true_and, and_true, false_and, and_false, not_true_eq_false, not_false_eq_true, false_or, or_false])
    have gB : nI B - 1 = nI (B - 1) := by (simp (disch := omega) only [vz_all, if_true, if_false, true_or, or_true, eq_self, ite_not, Bool.false_eq_true, ite_self, and_self, true_and, and_true, false_and, and_false, not_true_eq_false, not_false_eq_true, false_or, or_false])
    have h29 : ∀ (c : Nat) (M : Nat → Nat → Int32) (v y : Option Value), (∀ j, j < i → M 195 j = nI (row j)) → xv_ev ro (d + 2) xm_Mo_laysBoxes xb_Mo_laysBoxes_29 [some (.ref 167), some (.int (nI n)), some (.int (nI B)), some (.int (nI R)), some (.int (nI i)), some (.int (nI c)), v, y] [] (z, xv_mk M J) = xv_ev ro (d + 2) xm_Mo_laysBoxes xb_Mo_laysBoxes_53 [some (.ref 167), some (.int (nI n)), some (.int (nI B)), some (.int (nI R)), some (.int (nI i)), some (.int (nI c)), some (.int (nI (min (B - 1) (bz_g row i)))), some (.int (nI c))] [] (z, xv_mk M J) := by
      intro c M v y hrow
      have hbb := xq_begunBy ro d z M J (row := row) (i := i) (by omega) (fun j hj => ⟨by have := hr j hj; omega, hrow j hj⟩)
      conv => lhs; unfold xb_Mo_laysBoxes_29
      simp only [xr_all, xf_all, if_true, if_false, true_or, or_true, eq_self, ite_not, Bool.false_eq_true, ite_self, and_self, true_and, and_true, false_and, and_false, not_true_eq_false, not_false_eq_true, xj_Mo_laysBoxes, xb_Mo_laysBoxes_0, xb_Mo_laysBoxes_3, xb_Mo_laysBoxes_23, xb_Mo_laysBoxes_87, xb_Mo_laysBoxes_143, xb_Mo_laysBoxes_194, gn, gB, hbb, xq_Mo_min, hmn]
    have inner : ∀ (m c f : Nat) (M : Nat → Nat → Int32), c + m = min (bz_g row i + 1) B → (∀ j, j < n → M 173 j &&& 255 = nI (w j)) → (∀ b, b < B → M 196 b = nI (ld b)) → (∀ j, j < i → M 195 j = nI (row j)) → bz_R ro (d + 2) z J n B R i ld row M (xv_ev ro (d + 2) xm_Mo_laysBoxes xb_Mo_laysBoxes_53 [some (.ref 167), some (.int (nI n)), some (.int (nI B)), some (.int (nI R)), some (.int (nI i)), some (.int (nI f)), some (.int (nI (min (B - 1) (bz_g row i)))), some (.int (nI c))] [] (z, xv_mk M J)) (bz_l (bz_f w R B k i (bz_g row i) ld row) m c) := by
      intro m
      induction m with
      | zero =>
        intro c f M hc k5 k6 k7
        refine ⟨M, fun _ _ _ => rfl, k7, Or.inr ⟨rfl, ⟨some (.int (nI f)), some (.int (nI (min (B - 1) (bz_g row i)))), some (.int (nI c)), ?_⟩, k6⟩⟩
        have g1 : (nI (min (B - 1) (bz_g row i)) < nI c) = True := by (simp (disch := omega) only [vz_all, if_true, if_false, true_or, or_true, eq_self, ite_not, Bool.false_eq_true, ite_self, and_self, true_and, and_true, false_and, and_false, not_true_eq_false, not_false_eq_true, false_or, or_false])
        conv => lhs; unfold xb_Mo_laysBoxes_53
        simp only [xr_all, xf_all, if_true, if_false, true_or, or_true, eq_self, ite_not, Bool.false_eq_true, ite_self, and_self, true_and, and_true, false_and, and_false, not_true_eq_false, not_false_eq_true, xj_Mo_laysBoxes, xb_Mo_laysBoxes_0, xb_Mo_laysBoxes_3, xb_Mo_laysBoxes_23, xb_Mo_laysBoxes_87, xb_Mo_laysBoxes_143, xb_Mo_laysBoxes_194, g1]
      | succ m ihm =>
        intro c f M hc k5 k6 k7
        have g1 : (nI (min (B - 1) (bz_g row i)) < nI c) = False := by (simp (disch := omega) only [vz_all, if_true, if_false, true_or, or_true, eq_self, ite_not, Bool.false_eq_true, ite_self, and_self, true_and, and_true, false_and, and_false, not_true_eq_false, not_false_eq_true, false_or, or_false])
        have g2 : xv_inB (nI c) 11 = true := by (simp (disch := omega) only [vz_all, if_true, if_false, true_or, or_true, eq_self, ite_not, Bool.false_eq_true, ite_self, and_self, true_and, and_true, false_and, and_false, not_true_eq_false, not_false_eq_true, false_or, or_false])
        have g3 : xv_inB (nI i) 10 = true := by (simp (disch := omega) only [vz_all, if_true, if_false, true_or, or_true, eq_self, ite_not, Bool.false_eq_true, ite_self, and_self, true_and, and_true, false_and, and_false, not_true_eq_false, not_false_eq_true, false_or, or_false])
        have cc := nI_clamp (show c < 2 ^ 31 by omega)
        have ci := nI_clamp (show i < 2 ^ 31 by omega)
        have hwi := hw i (by omega)
        have hlc := hld c
        have hsk := xq_skinOf ro (d + 1) z M J (i := i) (by omega)
        rw [k5 i (by omega)] at hsk
        have elc := k6 c (by omega)
        rw [bz_ls]
        by_cases cf : ld c + w i ≤ R
        · have g6 : (nI (ld c + w i) ≤ nI R) = True := by (simp (disch := omega) only [vz_all, if_true, if_false, true_or, or_true, eq_self, ite_not, Bool.false_eq_true, ite_self, and_self, true_and, and_true, false_and, and_false, not_true_eq_false, not_false_eq_true, false_or, or_false])
          have hf : bz_f w R B k i (bz_g row i) ld row c = bz_p w R B k (i + 1) (max (bz_g row i) (c + 1)) (vx_q ld c (ld c + w i)) (vx_q row i c) := by unfold bz_f; rw [if_pos cf]
          have hgs : bz_g (vx_q row i c) (i + 1) = max (bz_g row i) (c + 1) := by
            show max (bz_g (vx_q row i c) i) (vx_q row i c i + 1) = _
            rw [bz_gc (s := row) (fun j hj => by unfold vx_q; rw [if_neg (by omega)])]
            unfold vx_q
            rw [if_pos rfl]
          have hld2 : ∀ q, vx_q ld c (ld c + w i) q ≤ 255 := by
            intro q
            unfold vx_q
            by_cases e : q = c
            · rw [if_pos e]; omega
            · rw [if_neg e]; exact hld q
          have hskM : xv_evm ro (d + 1) 131 [.ref 167, .int (nI i)] (z, xv_mk (xv_u2 M 195 i (nI c)) J) = some (some (.int (nI (w i))), (z, xv_mk (xv_u2 M 195 i (nI c)) J)) := by
            rw [xq_skinOf ro (d + 1) z _ J (i := i) (by omega), xu_ne (by omega), k5 i (by omega)]
          have e196 : xv_u2 M 195 i (nI c) 196 c = nI (ld c) := by rw [xu_ne (by omega)]; exact elc
          obtain ⟨M1, w1, w2, w3⟩ := ih (i + 1) (vx_q ld c (ld c + w i)) (vx_q row i c) (xv_u2 (xv_u2 M 195 i (nI c)) 196 c (nI (ld c + w i))) (some (.int (nI (min (B - 1) (bz_g row i))))) (some (.int (nI c))) (by omega) hld2 (fun j hj => by
            unfold vx_q
            by_cases e : j = i
            · rw [if_pos e]; omega
            · rw [if_neg e]; exact hr j (by omega)) (by rw [hgs]; omega) (fun j hj => by rw [xu_ne (by omega), xu_ne (by omega)]; exact k5 j hj) (fun q hq => by
            unfold vx_q
            by_cases e : q = c
            · rw [e, xu_eq, if_pos rfl]
            · rw [xu_ne2 (by omega), xu_ne (by omega), if_neg e]; exact k6 q hq) (fun j hj => by
            unfold vx_q
            rw [xu_ne (by omega)]
            by_cases e : j = i
            · rw [e, xu_eq, if_pos rfl]
            · rw [xu_ne2 (by omega), if_neg e]; exact k7 j (by omega))
          rw [hgs] at w3
          have ev : xv_ev ro (d + 2) xm_Mo_laysBoxes xb_Mo_laysBoxes_53 [some (.ref 167), some (.int (nI n)), some (.int (nI B)), some (.int (nI R)), some (.int (nI i)), some (.int (nI f)), some (.int (nI (min (B - 1) (bz_g row i)))), some (.int (nI c))] [] (z, xv_mk M J) = xv_ev ro (d + 2) xm_Mo_laysBoxes xb_Mo_laysBoxes_29 [some (.ref 167), some (.int (nI n)), some (.int (nI B)), some (.int (nI R)), some (.int (nI (i + 1))), some (.int 0), some (.int (nI (min (B - 1) (bz_g row i)))), some (.int (nI c))] [] (z, xv_mk (xv_u2 (xv_u2 M 195 i (nI c)) 196 c (nI (ld c + w i))) J) := by
            conv => lhs; unfold xb_Mo_laysBoxes_53
            simp only [xr_all, xf_all, if_true, if_false, true_or, or_true, eq_self, ite_not, Bool.false_eq_true, ite_self, and_self, true_and, and_true, false_and, and_false, not_true_eq_false, not_false_eq_true, xj_Mo_laysBoxes, xb_Mo_laysBoxes_0, xb_Mo_laysBoxes_3, xb_Mo_laysBoxes_23, xb_Mo_laysBoxes_87, xb_Mo_laysBoxes_143, xb_Mo_laysBoxes_194, g1, g2, cc, elc, hsk, nI_add, g6, g3, ci, e196, hskM, nI_1]
          rw [hf, ev]
          rcases w3 with ⟨r, r1, r2, r3⟩ | ⟨r1, ⟨u, v', y', r2⟩, r3⟩
          · rw [r1]
            refine ⟨M1, fun a q1 q2 => by rw [w1 a q1 q2, xu_ne q2, xu_ne q1], fun j hj => ?_, Or.inl ⟨r, rfl, r2, r3⟩⟩
            rw [w2 j (by omega)]; unfold vx_q; rw [if_neg (by omega)]
          · rw [r1, r2]
            have q0 : (nI (i + 1) = 0) = False := by (simp (disch := omega) only [vz_all, if_true, if_false, true_or, or_true, eq_self, ite_not, Bool.false_eq_true, ite_self, and_self, true_and, and_true, false_and, and_false, not_true_eq_false, not_false_eq_true, false_or, or_false])
            have q1 : nI (i + 1) - 1 = nI i := nI_pred i
            have m195 : M1 195 i = nI c := by rw [w2 i (by omega)]; unfold vx_q; rw [if_pos rfl]
            have m196 : M1 196 c = nI (ld c + w i) := by rw [r3 c (by omega)]; unfold vx_q; rw [if_pos rfl]
            have m173 : ∀ j, j < n → M1 173 j &&& 255 = nI (w j) := fun j hj => by rw [w1 173 (by omega) (by omega), xu_ne (by omega), xu_ne (by omega)]; exact k5 j hj
            have hsk1 := xq_skinOf ro (d + 1) z M1 J (i := i) (by omega)
            rw [m173 i (by omega)] at hsk1
            have esub : nI (ld c + w i) - nI (w i) = nI (ld c) := by rw [pk_sub (by omega), Nat.add_sub_cancel]
            have m195b : xv_u2 M1 196 c (nI (ld c)) 195 i = nI c := by rw [xu_ne (by omega)]; exact m195
            have ev2 : xv_ev ro (d + 2) xm_Mo_laysBoxes xb_Mo_laysBoxes_136 [some (.ref 167), some (.int (nI n)), some (.int (nI B)), some (.int (nI R)), some (.int (nI (i + 1))), u, v', y'] [] (z, xv_mk M1 J) = xv_ev ro (d + 2) xm_Mo_laysBoxes xb_Mo_laysBoxes_29 [some (.ref 167), some (.int (nI n)), some (.int (nI B)), some (.int (nI R)), some (.int (nI i)), some (.int (nI (c + 1))), v', y'] [] (z, xv_mk (xv_u2 M1 196 c (nI (ld c))) J) := by
              conv => lhs; unfold xb_Mo_laysBoxes_136
              simp only [xr_all, xf_all, if_true, if_false, true_or, or_true, eq_self, ite_not, Bool.false_eq_true, ite_self, and_self, true_and, and_true, false_and, and_false, not_true_eq_false, not_false_eq_true, xj_Mo_laysBoxes, xb_Mo_laysBoxes_0, xb_Mo_laysBoxes_3, xb_Mo_laysBoxes_23, xb_Mo_laysBoxes_87, xb_Mo_laysBoxes_143, xb_Mo_laysBoxes_194, q0, q1, g3, ci, m195, g2, cc, m196, hsk1, esub, m195b, nI_1]
            rw [ev2, h29 (c + 1) (xv_u2 M1 196 c (nI (ld c))) v' y' (fun j hj => by rw [xu_ne (by omega), w2 j (by omega)]; unfold vx_q; rw [if_neg (by omega)])]
            obtain ⟨M2, v1, v2, v3⟩ := ihm (c + 1) (c + 1) (xv_u2 M1 196 c (nI (ld c))) (by omega) (fun j hj => by rw [xu_ne (by omega)]; exact m173 j hj) (fun q hq => by
              by_cases e : q = c
              · rw [e, xu_eq]
              · rw [xu_ne2 (by omega), r3 q hq]; unfold vx_q; rw [if_neg e]) (fun j hj => by rw [xu_ne (by omega), w2 j (by omega)]; unfold vx_q; rw [if_neg (by omega)])
            exact ⟨M2, fun a q1 q2 => by rw [v1 a q1 q2, xu_ne q2, w1 a q1 q2, xu_ne q2, xu_ne q1], v2, v3⟩
        · have g6 : (nI (ld c + w i) ≤ nI R) = False := by (simp (disch := omega) only [vz_all, if_true, if_false, true_or, or_true, eq_self, ite_not, Bool.false_eq_true, ite_self, and_self, true_and, and_true, false_and, and_false, not_true_eq_false, not_false_eq_true, false_or, or_false])
          have hf : bz_f w R B k i (bz_g row i) ld row c = none := by unfold bz_f; rw [if_neg cf]
          have ev : xv_ev ro (d + 2) xm_Mo_laysBoxes xb_Mo_laysBoxes_53 [some (.ref 167), some (.int (nI n)), some (.int (nI B)), some (.int (nI R)), some (.int (nI i)), some (.int (nI f)), some (.int (nI (min (B - 1) (bz_g row i)))), some (.int (nI c))] [] (z, xv_mk M J) = xv_ev ro (d + 2) xm_Mo_laysBoxes xb_Mo_laysBoxes_53 [some (.ref 167), some (.int (nI n)), some (.int (nI B)), some (.int (nI R)), some (.int (nI i)), some (.int (nI f)), some (.int (nI (min (B - 1) (bz_g row i)))), some (.int (nI (c + 1)))] [] (z, xv_mk M J) := by
            conv => lhs; unfold xb_Mo_laysBoxes_53
            simp only [xr_all, xf_all, if_true, if_false, true_or, or_true, eq_self, ite_not, Bool.false_eq_true, ite_self, and_self, true_and, and_true, false_and, and_false, not_true_eq_false, not_false_eq_true, xj_Mo_laysBoxes, xb_Mo_laysBoxes_0, xb_Mo_laysBoxes_3, xb_Mo_laysBoxes_23, xb_Mo_laysBoxes_87, xb_Mo_laysBoxes_143, xb_Mo_laysBoxes_194, g1, g2, cc, elc, hsk, nI_add, g6, nI_1]
          rw [hf, ev]
          exact ihm (c + 1) f M (by omega) k5 k6 k7
    rw [bz_ps, show (0 : Int32) = nI 0 from rfl, h29 0 M v y h7]
    exact inner (min (bz_g row i + 1) B) 0 0 M (by omega) h5 h6 h7
