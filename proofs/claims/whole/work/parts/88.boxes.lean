/-! skins in boxes: the search -/
def bz_l (f : Nat → Option (Nat → Nat)) : Nat → Nat → Option (Nat → Nat)
  | 0, _ => none
  | m + 1, b => match f b with
    | some r => some r
    | none => bz_l f m (b + 1)
def bz_p (w : Nat → Nat) (R B : Nat) : Nat → Nat → Nat → (Nat → Nat) → (Nat → Nat) → Option (Nat → Nat)
  | 0, _, _, _, row => some row
  | k + 1, i, g, ld, row => bz_l (fun b => if ld b + w i ≤ R then bz_p w R B k (i + 1) (max g (b + 1)) (vx_q ld b (ld b + w i)) (vx_q row i b) else none) (min (g + 1) B) 0
def bz_f (w : Nat → Nat) (R B k i g : Nat) (ld row : Nat → Nat) (b : Nat) : Option (Nat → Nat) := if ld b + w i ≤ R then bz_p w R B k (i + 1) (max g (b + 1)) (vx_q ld b (ld b + w i)) (vx_q row i b) else none
theorem bz_ps (w : Nat → Nat) (R B k i g : Nat) (ld row : Nat → Nat) : bz_p w R B (k + 1) i g ld row = bz_l (bz_f w R B k i g ld row) (min (g + 1) B) 0 := rfl
theorem bz_ls (f : Nat → Option (Nat → Nat)) (m b : Nat) : bz_l f (m + 1) b = match f b with
    | some r => some r
    | none => bz_l f m (b + 1) := rfl
/-- r is a row from i on -/
def bz_v (w : Nat → Nat) (R B : Nat) : Nat → Nat → Nat → (Nat → Nat) → (Nat → Nat) → Prop
  | 0, _, _, _, _ => True
  | k + 1, i, g, ld, r => r i ≤ g ∧ r i < B ∧ ld (r i) + w i ≤ R ∧ bz_v w R B k (i + 1) (max g (r i + 1)) (vx_q ld (r i) (ld (r i) + w i)) r
theorem bz_lsome {f : Nat → Option (Nat → Nat)} : ∀ {m b : Nat} {r : Nat → Nat}, bz_l f m b = some r → ∃ c, b ≤ c ∧ c < b + m ∧ f c = some r := by
  intro m
  induction m with
  | zero => intro b r h; cases h
  | succ m ih =>
    intro b r h
    rw [bz_ls] at h
    cases hf : f b with
    | some r' =>
      rw [hf] at h
      exact ⟨b, Nat.le_refl b, by omega, by rw [hf]; exact h⟩
    | none =>
      rw [hf] at h
      obtain ⟨c, c1, c2, c3⟩ := ih h
      exact ⟨c, by omega, by omega, c3⟩
theorem bz_lnone {f : Nat → Option (Nat → Nat)} : ∀ {m b : Nat}, bz_l f m b = none → ∀ c, b ≤ c → c < b + m → f c = none := by
  intro m
  induction m with
  | zero => intro b _ c h1 h2; omega
  | succ m ih =>
    intro b h c h1 h2
    rw [bz_ls] at h
    cases hf : f b with
    | some r' => rw [hf] at h; cases h
    | none =>
      rw [hf] at h
      by_cases e : c = b
      · rw [e]; exact hf
      · exact ih h c (by omega) (by omega)
theorem bz_sound (w : Nat → Nat) (R B : Nat) : ∀ (k i g : Nat) (ld row r : Nat → Nat), bz_p w R B k i g ld row = some r → bz_v w R B k i g ld r ∧ ∀ j, j < i → r j = row j := by
  intro k
  induction k with
  | zero =>
    intro i g ld row r h
    have h : some row = some r := h
    have := Option.some.inj h
    exact ⟨trivial, fun j _ => by rw [this]⟩
  | succ k ih =>
    intro i g ld row r h
    rw [bz_ps] at h
    obtain ⟨c, c1, c2, c3⟩ := bz_lsome h
    unfold bz_f at c3
    by_cases hc : ld c + w i ≤ R
    · rw [if_pos hc] at c3
      obtain ⟨h1, h2⟩ := ih _ _ _ _ _ c3
      have e : r i = c := by rw [h2 i (by omega)]; unfold vx_q; rw [if_pos rfl]
      refine ⟨⟨by omega, by omega, by rw [e]; exact hc, by rw [e]; exact h1⟩, fun j hj => ?_⟩
      rw [h2 j (by omega)]; unfold vx_q; rw [if_neg (by omega)]
    · rw [if_neg hc] at c3; cases c3
theorem bz_vc {w : Nat → Nat} {R B : Nat} : ∀ {k i g : Nat} {ld r : Nat → Nat}, bz_v w R B k i g ld r → ∀ row, bz_p w R B k i g ld row ≠ none := by
  intro k
  induction k with
  | zero => intro i g ld r _ row h; cases h
  | succ k ih =>
    intro i g ld r hv row h
    obtain ⟨h1, h2, h3, h4⟩ := hv
    rw [bz_ps] at h
    have h5 := bz_lnone h (r i) (Nat.zero_le _) (by omega)
    unfold bz_f at h5
    rw [if_pos h3] at h5
    exact ih h4 _ h5
/-- with a box for each: the row that is found is the plain one, unless fewer boxes do -/
theorem bz_vB {w : Nat → Nat} {R B B' : Nat} : ∀ {k i g : Nat} {ld r : Nat → Nat}, bz_v w R B k i g ld r → (∀ j, i ≤ j → j < i + k → r j < B') → bz_v w R B' k i g ld r := by
  intro k
  induction k with
  | zero => intro _ _ _ _ _ _; exact trivial
  | succ k ih =>
    intro i g ld r hv h
    obtain ⟨h1, h2, h3, h4⟩ := hv
    exact ⟨h1, h i (Nat.le_refl i) (by omega), h3, ih h4 (fun j q1 q2 => h j (by omega) (by omega))⟩
theorem bz_id {w : Nat → Nat} {R B : Nat} : ∀ {k i g : Nat} {ld r : Nat → Nat}, g ≤ i → bz_v w R B k i g ld r → ∀ j, i ≤ j → j < i + k → r j ≤ j ∧ (r j = j → g = i ∧ ∀ q, i ≤ q → q < j → r q = q) := by
  intro k
  induction k with
  | zero => intro i g ld r _ _ j h1 h2; omega
  | succ k ih =>
    intro i g ld r hg hv j h1 h2
    obtain ⟨v1, v2, v3, v4⟩ := hv
    by_cases e : j = i
    · rw [e]
      exact ⟨by omega, fun q => ⟨by omega, fun q' h3 h4 => by omega⟩⟩
    · obtain ⟨a1, a2⟩ := ih (g := max g (r i + 1)) (by omega) v4 j (by omega) (by omega)
      refine ⟨a1, fun q => ?_⟩
      obtain ⟨b1, b2⟩ := a2 q
      have hri : r i = i := by omega
      refine ⟨by omega, fun q' h3 h4 => ?_⟩
      by_cases e2 : q' = i
      · rw [e2]; exact hri
      · exact b2 q' (by omega) h4
theorem bz_vid {w : Nat → Nat} {R n : Nat} (hw : ∀ i, i < n → w i ≤ R) : ∀ (k i : Nat) (ld : Nat → Nat), i + k = n → (∀ b, i ≤ b → ld b = 0) → bz_v w R n k i i ld (fun j => j) := by
  intro k
  induction k with
  | zero => intro _ _ _ _; exact trivial
  | succ k ih =>
    intro i ld hi hl
    show i ≤ i ∧ i < n ∧ ld i + w i ≤ R ∧ bz_v w R n k (i + 1) (max i (i + 1)) (vx_q ld i (ld i + w i)) (fun j => j)
    refine ⟨Nat.le_refl i, by omega, by rw [hl i (Nat.le_refl i), Nat.zero_add]; exact hw i (by omega), ?_⟩
    rw [show max i (i + 1) = i + 1 by omega]
    exact ih (i + 1) _ (by omega) (fun b hb => by unfold vx_q; rw [if_neg (by omega)]; exact hl b (by omega))
theorem bz_last {w : Nat → Nat} {R n : Nat} (hn : 1 ≤ n) (hw : ∀ i, i < n → w i ≤ R) (row : Nat → Nat) (hno : 2 ≤ n → bz_p w R (n - 1) n 0 0 (fun _ => 0) row = none) : ∃ r, bz_p w R n n 0 0 (fun _ => 0) row = some r ∧ ∀ j, j < n → r j = j := by
  have hv := bz_vid hw n 0 (fun _ => 0) (by omega) (fun _ _ => rfl)
  have hne := bz_vc hv row
  cases hr : bz_p w R n n 0 0 (fun _ => 0) row with
  | none => exact absurd hr hne
  | some r =>
    refine ⟨r, rfl, ?_⟩
    obtain ⟨s1, -⟩ := bz_sound w R n n 0 0 _ _ _ hr
    have hid := fun j hj => bz_id (Nat.le_refl 0) s1 j (Nat.zero_le j) (show j < 0 + n by omega)
    by_cases hall : ∀ j, 0 ≤ j → j < 0 + n → r j < n - 1
    · by_cases h2 : 2 ≤ n
      · exact absurd (hno h2) (bz_vc (bz_vB s1 hall) row)
      · have := hall 0 (Nat.le_refl 0) (by omega)
        omega
    · have hlast : r (n - 1) = n - 1 := by
        have h1 := (hid (n - 1) (by omega)).1
        by_cases c : r (n - 1) = n - 1
        · exact c
        · exfalso
          apply hall
          intro j _ hj
          have := (hid j hj).1
          by_cases e : j = n - 1
          · rw [e]; omega
          · omega
      intro j hj
      by_cases e : j = n - 1
      · rw [e]; exact hlast
      · exact ((hid (n - 1) (by omega)).2 hlast).2 j (Nat.zero_le j) (by omega)
/-- the class places -/
theorem xq_place (ro : xv_Ro) (d : Nat) (z : Nat × Nat) (J : Nat → Nat → Int64) {w : Nat → Nat} {R B n : Nat} (hn : n ≤ 10) (hB : B ≤ 10) (hR : R ≤ 255) (hw : ∀ i, i < n → w i ≤ 99) : ∀ (k i g : Nat) (ld row : Nat → Nat) (W : Nat → Nat → Int32), i + k = n → g ≤ i → (∀ b, ld b ≤ 255) → W 156 3 = nI n → W 156 4 = nI R → (∀ j, j < n → W 157 j = nI (w j)) → (∀ b, b < 10 → W 159 b = nI (ld b)) → (∀ j, j < i → W 158 j = nI (row j)) → ∃ W1 : Nat → Nat → Int32, (∀ a, a ≠ 158 → a ≠ 159 → W1 a = W a) ∧ (∀ j, j < i → W1 158 j = nI (row j)) ∧ ((∃ r, bz_p w R B k i g ld row = some r ∧ xv_evm ro (d + k) 185 [.ref 156, .int (nI i), .int (nI g), .int (nI B)] (z, xv_mk W J) = some (some (.int 1), (z, xv_mk W1 J)) ∧ ∀ j, j < n → W1 158 j = nI (r j)) ∨ (bz_p w R B k i g ld row = none ∧ xv_evm ro (d + k) 185 [.ref 156, .int (nI i), .int (nI g), .int (nI B)] (z, xv_mk W J) = some (some (.int 0), (z, xv_mk W1 J)) ∧ ∀ b, b < 10 → W1 159 b = nI (ld b))) := by
  intro k
  induction k with
  | zero =>
    intro i g ld row W hi hg hld h3 h4 h5 h6 h7
    obtain rfl : i = n := by omega
    refine ⟨W, fun _ _ _ => rfl, h7, Or.inl ⟨row, rfl, ?_, h7⟩⟩
    rw [xe_Boxes_place]
    have g1 : (nI i < 0) = False := by (simp (disch := omega) only [vz_all, if_true, if_false, true_or, or_true, eq_self, ite_not, Bool.false_eq_true, ite_self, and_self, true_and, and_true, false_and, and_false, not_true_eq_false, not_false_eq_true, false_or, or_false])
    have g2 : (nI i < nI i) = False := by (simp (disch := omega) only [vz_all, if_true, if_false, true_or, or_true, eq_self, ite_not, Bool.false_eq_true, ite_self, and_self, true_and, and_true, false_and, and_false, not_true_eq_false, not_false_eq_true, false_or, or_false])
    have g3 : (nI i ≤ nI i) = True := by (simp (disch := omega) only [vz_all, if_true, if_false, true_or, or_true, eq_self, ite_not, Bool.false_eq_true, ite_self, and_self, true_and, and_true, false_and, and_false, not_true_eq_false, not_false_eq_true, false_or, or_false])
    simp only [xr_all, xf_all, if_true, if_false, true_or, or_true, eq_self, ite_not, Bool.false_eq_true, ite_self, and_self, true_and, and_true, false_and, and_false, not_true_eq_false, not_false_eq_true, xj_Boxes_place, xb_Boxes_place_0, xb_Boxes_place_18, xb_Boxes_place_20, xb_Boxes_place_108, xb_Boxes_place_124, xb_Boxes_place_130, g1, h3, g2, g3]
  | succ k ih =>
    intro i g ld row W hi hg hld h3 h4 h5 h6 h7
    have inner : ∀ (m b : Nat) (W : Nat → Nat → Int32), b + m = min (g + 1) B → W 156 3 = nI n → W 156 4 = nI R → (∀ j, j < n → W 157 j = nI (w j)) → (∀ b, b < 10 → W 159 b = nI (ld b)) → (∀ j, j < i → W 158 j = nI (row j)) → ∃ W1 : Nat → Nat → Int32, (∀ a, a ≠ 158 → a ≠ 159 → W1 a = W a) ∧ (∀ j, j < i → W1 158 j = nI (row j)) ∧ ((∃ r, bz_l (bz_f w R B k i g ld row) m b = some r ∧ xv_ev ro (d + k + 1) xm_Boxes_place xb_Boxes_place_23 [some (.ref 156), some (.int (nI i)), some (.int (nI g)), some (.int (nI B)), some (.int (nI b))] [] (z, xv_mk W J) = some (some (.int 1), (z, xv_mk W1 J)) ∧ ∀ j, j < n → W1 158 j = nI (r j)) ∨ (bz_l (bz_f w R B k i g ld row) m b = none ∧ xv_ev ro (d + k + 1) xm_Boxes_place xb_Boxes_place_23 [some (.ref 156), some (.int (nI i)), some (.int (nI g)), some (.int (nI B)), some (.int (nI b))] [] (z, xv_mk W J) = some (some (.int 0), (z, xv_mk W1 J)) ∧ ∀ b, b < 10 → W1 159 b = nI (ld b))) := by
      intro m
      induction m with
      | zero =>
        intro b W hb k3 k4 k5 k6 k7
        refine ⟨W, fun _ _ _ => rfl, k7, Or.inr ⟨rfl, ?_, k6⟩⟩
        conv => lhs; unfold xb_Boxes_place_23
        by_cases c : g < b
        · have g1 : (nI g < nI b) = True := by (simp (disch := omega) only [vz_all, if_true, if_false, true_or, or_true, eq_self, ite_not, Bool.false_eq_true, ite_self, and_self, true_and, and_true, false_and, and_false, not_true_eq_false, not_false_eq_true, false_or, or_false])
          simp only [xr_all, xf_all, if_true, if_false, true_or, or_true, eq_self, ite_not, Bool.false_eq_true, ite_self, and_self, true_and, and_true, false_and, and_false, not_true_eq_false, not_false_eq_true, xj_Boxes_place, xb_Boxes_place_0, xb_Boxes_place_18, xb_Boxes_place_20, xb_Boxes_place_108, xb_Boxes_place_124, xb_Boxes_place_130, g1]
        · have g1 : (nI g < nI b) = False := by (simp (disch := omega) only [vz_all, if_true, if_false, true_or, or_true, eq_self, ite_not, Bool.false_eq_true, ite_self, and_self, true_and, and_true, false_and, and_false, not_true_eq_false, not_false_eq_true, false_or, or_false])
          have g2 : (nI B ≤ nI b) = True := by (simp (disch := omega) only [vz_all, if_true, if_false, true_or, or_true, eq_self, ite_not, Bool.false_eq_true, ite_self, and_self, true_and, and_true, false_and, and_false, not_true_eq_false, not_false_eq_true, false_or, or_false])
          simp only [xr_all, xf_all, if_true, if_false, true_or, or_true, eq_self, ite_not, Bool.false_eq_true, ite_self, and_self, true_and, and_true, false_and, and_false, not_true_eq_false, not_false_eq_true, xj_Boxes_place, xb_Boxes_place_0, xb_Boxes_place_18, xb_Boxes_place_20, xb_Boxes_place_108, xb_Boxes_place_124, xb_Boxes_place_130, g1, g2]
      | succ m ihm =>
        intro b W hb k3 k4 k5 k6 k7
        have g1 : (nI g < nI b) = False := by (simp (disch := omega) only [vz_all, if_true, if_false, true_or, or_true, eq_self, ite_not, Bool.false_eq_true, ite_self, and_self, true_and, and_true, false_and, and_false, not_true_eq_false, not_false_eq_true, false_or, or_false])
        have g2 : (nI B ≤ nI b) = False := by (simp (disch := omega) only [vz_all, if_true, if_false, true_or, or_true, eq_self, ite_not, Bool.false_eq_true, ite_self, and_self, true_and, and_true, false_and, and_false, not_true_eq_false, not_false_eq_true, false_or, or_false])
        have g3 : (10 ≤ nI b) = False := by (simp (disch := omega) only [vz_all, if_true, if_false, true_or, or_true, eq_self, ite_not, Bool.false_eq_true, ite_self, and_self, true_and, and_true, false_and, and_false, not_true_eq_false, not_false_eq_true, false_or, or_false])
        have g4 : xv_inB (nI b) 10 = true := by (simp (disch := omega) only [vz_all, if_true, if_false, true_or, or_true, eq_self, ite_not, Bool.false_eq_true, ite_self, and_self, true_and, and_true, false_and, and_false, not_true_eq_false, not_false_eq_true, false_or, or_false])
        have g5 : xv_inB (nI i) 10 = true := by (simp (disch := omega) only [vz_all, if_true, if_false, true_or, or_true, eq_self, ite_not, Bool.false_eq_true, ite_self, and_self, true_and, and_true, false_and, and_false, not_true_eq_false, not_false_eq_true, false_or, or_false])
        have cb := nI_clamp (show b < 2 ^ 31 by omega)
        have ci := nI_clamp (show i < 2 ^ 31 by omega)
        have hwi := hw i (by omega)
        have hlb := hld b
        have ewi := k5 i (by omega)
        have elb := k6 b (by omega)
        rw [bz_ls]
        by_cases c : ld b + w i ≤ R
        · have g6 : (nI R < nI (ld b + w i)) = False := by (simp (disch := omega) only [vz_all, if_true, if_false, true_or, or_true, eq_self, ite_not, Bool.false_eq_true, ite_self, and_self, true_and, and_true, false_and, and_false, not_true_eq_false, not_false_eq_true, false_or, or_false])
          have hf : bz_f w R B k i g ld row b = bz_p w R B k (i + 1) (max g (b + 1)) (vx_q ld b (ld b + w i)) (vx_q row i b) := by unfold bz_f; rw [if_pos c]
          have gmx : (if nI g < nI (b + 1) then nI (b + 1) else nI g) = nI (max g (b + 1)) := by
            by_cases cm : g < b + 1
            · rw [if_pos (nI_lt cm (by omega)), show max g (b + 1) = b + 1 by omega]
            · rw [if_neg (nI_nlt (by omega) (by omega)), show max g (b + 1) = g by omega]
          have hld2 : ∀ q, vx_q ld b (ld b + w i) q ≤ 255 := by
            intro q
            unfold vx_q
            by_cases e : q = b
            · rw [if_pos e]; omega
            · rw [if_neg e]; exact hld q
          obtain ⟨W1, w1, w2, w3⟩ := ih (i + 1) (max g (b + 1)) (vx_q ld b (ld b + w i)) (vx_q row i b) (xv_u2 (xv_u2 W 159 b (nI (ld b + w i))) 158 i (nI b)) (by omega) (by omega) hld2 (by (repeat (first | rw [xu_ne2 (by omega)] | rw [xu_ne (by omega)] | rw [xu_eq])); exact k3) (by (repeat (first | rw [xu_ne2 (by omega)] | rw [xu_ne (by omega)] | rw [xu_eq])); exact k4) (fun j hj => by (repeat (first | rw [xu_ne2 (by omega)] | rw [xu_ne (by omega)] | rw [xu_eq])); exact k5 j hj) (fun q hq => by
            unfold vx_q
            rw [xu_ne2 (by omega)]
            by_cases e : q = b
            · rw [e, xu_eq, if_pos rfl]
            · rw [xu_ne2 (by omega), if_neg e]; exact k6 q hq) (fun j hj => by
            unfold vx_q
            by_cases e : j = i
            · rw [e, xu_eq, if_pos rfl]
            · rw [xu_ne2 (by omega), xu_ne2 (by omega), if_neg e]; exact k7 j (by omega))
          rw [hf]
          rcases w3 with ⟨r, r1, r2, r3⟩ | ⟨r1, r2, r3⟩
          · refine ⟨W1, fun a q1 q2 => by rw [w1 a q1 q2, xu_ne q1, xu_ne q2], fun j hj => ?_, Or.inl ⟨r, by rw [r1], ?_, r3⟩⟩
            · rw [w2 j (by omega)]; unfold vx_q; rw [if_neg (by omega)]
            · have z1 : ((1 : Int32) = 0) = False := eq_false (by decide)
              conv => lhs; unfold xb_Boxes_place_23
              simp only [xr_all, xf_all, if_true, if_false, true_or, or_true, eq_self, ite_not, Bool.false_eq_true, ite_self, and_self, true_and, and_true, false_and, and_false, not_true_eq_false, not_false_eq_true, xj_Boxes_place, xb_Boxes_place_0, xb_Boxes_place_18, xb_Boxes_place_20, xb_Boxes_place_108, xb_Boxes_place_124, xb_Boxes_place_130, g1, g2, g3, g4, g5, cb, ci, elb, ewi, k4, nI_add, g6, xu_xu, nI_1, gmx, r2, z1]
          · have e159 : W1 159 b = nI (ld b + w i) := by rw [r3 b (by omega)]; unfold vx_q; rw [if_pos rfl]
            obtain ⟨W2, v1, v2, v3⟩ := ihm (b + 1) (xv_u2 W1 159 b (nI (ld b))) (by omega) (by rw [xu_ne (by omega), w1 156 (by omega) (by omega)]; (repeat (first | rw [xu_ne2 (by omega)] | rw [xu_ne (by omega)] | rw [xu_eq])); exact k3) (by rw [xu_ne (by omega), w1 156 (by omega) (by omega)]; (repeat (first | rw [xu_ne2 (by omega)] | rw [xu_ne (by omega)] | rw [xu_eq])); exact k4) (fun j hj => by rw [xu_ne (by omega), w1 157 (by omega) (by omega)]; (repeat (first | rw [xu_ne2 (by omega)] | rw [xu_ne (by omega)] | rw [xu_eq])); exact k5 j hj) (fun q hq => by
              by_cases e : q = b
              · rw [e, xu_eq]
              · rw [xu_ne2 (by omega), r3 q hq]; unfold vx_q; rw [if_neg e]) (fun j hj => by
              rw [xu_ne (by omega), w2 j (by omega)]; unfold vx_q; rw [if_neg (by omega)])
            have ewi2 : W1 157 i = nI (w i) := by rw [w1 157 (by omega) (by omega)]; (repeat (first | rw [xu_ne2 (by omega)] | rw [xu_ne (by omega)] | rw [xu_eq])); exact ewi
            have esub : nI (ld b + w i) - nI (w i) = nI (ld b) := by rw [pk_sub (by omega), Nat.add_sub_cancel]
            have ev : xv_ev ro (d + k + 1) xm_Boxes_place xb_Boxes_place_23 [some (.ref 156), some (.int (nI i)), some (.int (nI g)), some (.int (nI B)), some (.int (nI b))] [] (z, xv_mk W J) = xv_ev ro (d + k + 1) xm_Boxes_place xb_Boxes_place_23 [some (.ref 156), some (.int (nI i)), some (.int (nI g)), some (.int (nI B)), some (.int (nI (b + 1)))] [] (z, xv_mk (xv_u2 W1 159 b (nI (ld b))) J) := by
              conv => lhs; unfold xb_Boxes_place_23
              simp only [xr_all, xf_all, if_true, if_false, true_or, or_true, eq_self, ite_not, Bool.false_eq_true, ite_self, and_self, true_and, and_true, false_and, and_false, not_true_eq_false, not_false_eq_true, xj_Boxes_place, xb_Boxes_place_0, xb_Boxes_place_18, xb_Boxes_place_20, xb_Boxes_place_108, xb_Boxes_place_124, xb_Boxes_place_130, g1, g2, g3, g4, g5, cb, ci, elb, ewi, k4, nI_add, g6, xu_xu, nI_1, gmx, r2, e159, ewi2, esub]
            rw [r1, ev]
            exact ⟨W2, fun a q1 q2 => by rw [v1 a q1 q2, xu_ne q2, w1 a q1 q2, xu_ne q1, xu_ne q2], v2, v3⟩
        · have g6 : (nI R < nI (ld b + w i)) = True := by (simp (disch := omega) only [vz_all, if_true, if_false, true_or, or_true, eq_self, ite_not, Bool.false_eq_true, ite_self, and_self, true_and, and_true, false_and, and_false, not_true_eq_false, not_false_eq_true, false_or, or_false])
          have hf : bz_f w R B k i g ld row b = none := by unfold bz_f; rw [if_neg c]
          have ev : xv_ev ro (d + k + 1) xm_Boxes_place xb_Boxes_place_23 [some (.ref 156), some (.int (nI i)), some (.int (nI g)), some (.int (nI B)), some (.int (nI b))] [] (z, xv_mk W J) = xv_ev ro (d + k + 1) xm_Boxes_place xb_Boxes_place_23 [some (.ref 156), some (.int (nI i)), some (.int (nI g)), some (.int (nI B)), some (.int (nI (b + 1)))] [] (z, xv_mk W J) := by
            conv => lhs; unfold xb_Boxes_place_23
            simp only [xr_all, xf_all, if_true, if_false, true_or, or_true, eq_self, ite_not, Bool.false_eq_true, ite_self, and_self, true_and, and_true, false_and, and_false, not_true_eq_false, not_false_eq_true, xj_Boxes_place, xb_Boxes_place_0, xb_Boxes_place_18, xb_Boxes_place_20, xb_Boxes_place_108, xb_Boxes_place_124, xb_Boxes_place_130, g1, g2, g3, g4, g5, cb, ci, elb, ewi, k4, nI_add, g6, nI_1]
          rw [hf, ev]
          exact ihm (b + 1) W (by omega) k3 k4 k5 k6 k7
    obtain ⟨W1, w1, w2, w3⟩ := inner (min (g + 1) B) 0 W (by omega) h3 h4 h5 h6 h7
    rw [← bz_ps] at w3
    refine ⟨W1, w1, w2, ?_⟩
    have g1 : (nI i < 0) = False := by (simp (disch := omega) only [vz_all, if_true, if_false, true_or, or_true, eq_self, ite_not, Bool.false_eq_true, ite_self, and_self, true_and, and_true, false_and, and_false, not_true_eq_false, not_false_eq_true, false_or, or_false])
    have g2 : (nI n ≤ nI i) = False := by (simp (disch := omega) only [vz_all, if_true, if_false, true_or, or_true, eq_self, ite_not, Bool.false_eq_true, ite_self, and_self, true_and, and_true, false_and, and_false, not_true_eq_false, not_false_eq_true, false_or, or_false])
    have g3 : (nI i < 10) = True := by (simp (disch := omega) only [vz_all, if_true, if_false, true_or, or_true, eq_self, ite_not, Bool.false_eq_true, ite_self, and_self, true_and, and_true, false_and, and_false, not_true_eq_false, not_false_eq_true, false_or, or_false])
    have he : xv_evm ro (d + (k + 1)) 185 [.ref 156, .int (nI i), .int (nI g), .int (nI B)] (z, xv_mk W J) = xv_ev ro (d + k + 1) xm_Boxes_place xb_Boxes_place_23 [some (.ref 156), some (.int (nI i)), some (.int (nI g)), some (.int (nI B)), some (.int (nI 0))] [] (z, xv_mk W J) := by
      rw [xe_Boxes_place, show nI 0 = (0 : Int32) from rfl, show d + (k + 1) = d + k + 1 by omega]
      simp only [xr_all, xf_all, if_true, if_false, true_or, or_true, eq_self, ite_not, Bool.false_eq_true, ite_self, and_self, true_and, and_true, false_and, and_false, not_true_eq_false, not_false_eq_true, xj_Boxes_place, xb_Boxes_place_0, xb_Boxes_place_18, xb_Boxes_place_20, xb_Boxes_place_108, xb_Boxes_place_124, xb_Boxes_place_130, g1, h3, g2, g3]
    rw [he]
    exact w3
