/-! onion: an item, the class (the end) -/
def oi_D (I W : Nat → Nat → Int32) (w q : Nat) : Prop := 1 ≤ w ∧ w ≤ 9 ∧ q ≤ 260 ∧ W 1 4 = -1000 * nI w - nI q ∧ oi_fr I W ∧ ∃ L' : Nat, L' ≤ 12 ∧ W 154 1 = nI L'
def oi_A (b : Nat → Nat) (n L : Nat) (I W : Nat → Nat → Int32) (v t p : Nat) : Prop := tp_C b n p W ∧ oi_fr I W ∧ L + t ≤ 12 ∧ W 154 1 = nI (L + t) ∧ (∀ j, j < L → W 155 j = I 155 j) ∧ ∀ j, L ≤ j → j < L + t → W 155 j = nI v
def oi_O (b : Nat → Nat) (n L : Nat) (I W : Nat → Nat → Int32) : oi_S → Prop
  | .inl (w, q) => oi_D I W w q
  | .inr (v, t, p) => oi_A b n L I W v t p
theorem oi_D_t {I V W : Nat → Nat → Int32} {w q : Nat} (h1 : oi_fr I V) (h2 : oi_D V W w q) : oi_D I W w q := by
  obtain ⟨a1, a2, a3, a4, a5, a6⟩ := h2
  exact ⟨a1, a2, a3, a4, oi_frt h1 a5, a6⟩
theorem oi_O_t {b : Nat → Nat} {n L : Nat} {I V W : Nat → Nat → Int32} {o : oi_S} (h1 : oi_fr I V) (h3 : V 155 = I 155) (h2 : oi_O b n L V W o) : oi_O b n L I W o := by
  match o, h2 with
  | .inl (w, q), h2 => exact oi_D_t h1 h2
  | .inr (v, t, p), h2 =>
    obtain ⟨a1, a2, a3, a4, a5, a6⟩ := h2
    exact ⟨a1, oi_frt h1 a2, a3, a4, fun j hj => by rw [a5 j hj, h3], a6⟩
theorem oi_L1 : ∀ L : Nat, L < 13 → (nI L + -1 ≤ 12) := by decide
theorem xl_item77x (ro : xv_Ro) (d : Nat) (z : Nat × Nat) (J : Nat → Nat → Int64) (x2 x3 x4 : Int32) {t L : Nat} (ht : t ≤ 9) (hL : L ≤ 12) (I : Nat → Nat → Int32) (h1 : I 154 1 = nI L) : ∃ W : Nat → Nat → Int32, xv_ev ro d xm_Witness_item xb_Witness_item_77 [some (.ref 154), some (.ref 1), some (.int x2), some (.int x3), some (.int x4), some (.int (nI t)), some (.int 0)] [] (z, xv_mk I J) = some (none, (z, xv_mk W J)) ∧ oi_fr I W ∧ W 1 = I 1 ∧ (∃ L' : Nat, L' ≤ 12 ∧ W 154 1 = nI L') ∧ (∀ a, a ≠ 154 → a ≠ 155 → W a = I a) ∧ (L + t ≤ 12 → W 154 1 = nI (L + t) ∧ (∀ j, j < L → W 155 j = I 155 j) ∧ ∀ j, L ≤ j → j < L + t → W 155 j = x3) := by
  obtain ⟨W, a1, a2, a3, a4, a5⟩ := xl_item77 ro d z J x2 x3 x4 ht t 0 L I (by omega) hL h1
  exact ⟨W, a1, ⟨fun a q1 q2 q3 => a2 a q2 q3, fun j _ _ => by rw [a2 1 (by omega) (by omega)], a3⟩, a2 1 (by omega) (by omega), a4, a2, a5⟩
theorem xl_item49x (ro : xv_Ro) (d : Nat) (z : Nat × Nat) (J : Nat → Nat → Int64) (x2 x3 x4 : Int32) {L : Nat} (hL : L ≤ 12) (I : Nat → Nat → Int32) (h1 : I 154 1 = nI L) (h : (I 1 4 = 0) = False) : ∃ W : Nat → Nat → Int32, xv_ev ro (d + 3) xm_Witness_item xb_Witness_item_49 [some (.ref 154), some (.ref 1), some (.int x2), some (.int x3), some (.int x4), none, none] [] (z, xv_mk I J) = some (none, (z, xv_mk W J)) ∧ oi_fr I W ∧ W 1 = I 1 ∧ ∃ L' : Nat, L' ≤ 12 ∧ W 154 1 = nI L' := by
  have hw : vW 154 := ⟨rfl, rfl⟩
  have ht := xq_times_x ro d z I J h
  have hr := xq_refuse_x ro (d + 2) z I J 6 x2 h
  obtain ⟨W, a1, a2, a3, a4, -⟩ := xl_item77x ro (d + 3) z J x2 x3 x4 (t := 1) (by omega) hL I h1
  refine ⟨W, ?_, a2, a3, a4⟩
  rw [← a1, show nI 1 = (1 : Int32) from rfl]
  have e : nI L + 1 = nI (L + 1) := nI_1 L
  conv => lhs; unfold xb_Witness_item_49
  by_cases c : L + 1 ≤ 12
  · have g : (nI (L + 1) ≤ 12) = True := by (simp (disch := omega) only [vz_all, if_true, if_false, true_or, or_true, eq_self, ite_not, Bool.false_eq_true, ite_self, and_self, true_and, and_true, false_and, and_false, not_true_eq_false, not_false_eq_true, false_or, or_false])
    simp only [xr_all, xf_all, if_true, if_false, true_or, or_true, eq_self, ite_not, Bool.false_eq_true, ite_self, and_self, true_and, and_true, false_and, and_false, not_true_eq_false, not_false_eq_true, xj_Witness_item, xb_Witness_item_0, xb_Witness_item_20, xb_Witness_item_39, xb_Witness_item_74, xb_Witness_item_126, vW_f hw, ht, h1, e, g]
  · have g : (nI (L + 1) ≤ 12) = False := by (simp (disch := omega) only [vz_all, if_true, if_false, true_or, or_true, eq_self, ite_not, Bool.false_eq_true, ite_self, and_self, true_and, and_true, false_and, and_false, not_true_eq_false, not_false_eq_true, false_or, or_false])
    simp only [xr_all, xf_all, if_true, if_false, true_or, or_true, eq_self, ite_not, Bool.false_eq_true, ite_self, and_self, true_and, and_true, false_and, and_false, not_true_eq_false, not_false_eq_true, xj_Witness_item, xb_Witness_item_0, xb_Witness_item_20, xb_Witness_item_39, xb_Witness_item_74, xb_Witness_item_126, vW_f hw, ht, h1, e, g, hr]
theorem xl_item49 (ro : xv_Ro) (d : Nat) (z : Nat × Nat) (J : Nat → Nat → Int64) (x4 : Int32) {b : Nat → Nat} {n p p1 v L : Nat} (hL : L ≤ 12) (hp : p ≤ 260) (hv : v ≠ 0) (I : Nat → Nat → Int32) (h1 : I 154 1 = nI L) (h : tp_C b n p1 I) : ∃ W : Nat → Nat → Int32, xv_ev ro (d + 3) xm_Witness_item xb_Witness_item_49 [some (.ref 154), some (.ref 1), some (.int (nI p)), some (.int (nI v)), some (.int x4), none, none] [] (z, xv_mk I J) = some (none, (z, xv_mk W J)) ∧ oi_O b n L I W (oi_2 b n p L v p1) := by
  have hw : vW 154 := ⟨rfl, rfl⟩
  have fin : ∀ (t p2 : Nat) (V : Nat → Nat → Int32), t ≤ 9 → xv_evm ro (d + 2) 273 [.ref 1] (z, xv_mk I J) = some (some (.int (nI t)), (z, xv_mk V J)) → tp_C b n p2 V → oi_fr I V → V 154 = I 154 → V 155 = I 155 → ∃ W : Nat → Nat → Int32, xv_ev ro (d + 3) xm_Witness_item xb_Witness_item_49 [some (.ref 154), some (.ref 1), some (.int (nI p)), some (.int (nI v)), some (.int x4), none, none] [] (z, xv_mk I J) = some (none, (z, xv_mk W J)) ∧ oi_O b n L I W (if 12 < L + t then .inl (6, p) else .inr (v, t, p2)) := by
    intro t p2 V ht hti hC hf h154 h155
    have hV1 : V 154 1 = nI L := by rw [h154]; exact h1
    by_cases c : 12 < L + t
    · rw [if_pos c]
      have g : (nI (L + t) ≤ 12) = False := by (simp (disch := omega) only [vz_all, if_true, if_false, true_or, or_true, eq_self, ite_not, Bool.false_eq_true, ite_self, and_self, true_and, and_true, false_and, and_false, not_true_eq_false, not_false_eq_true, false_or, or_false])
      have hr := xq_refuse ro (d + 2) z V J 6 (nI p) hC.2.2.2.2.1
      obtain ⟨W, a1, a2, a3, a4, -⟩ := xl_item77x ro (d + 3) z J (nI p) (nI v) x4 ht hL (xv_u2 V 1 4 (-1000 * 6 - nI p)) (by rw [xu_ne (by omega)]; exact hV1)
      refine ⟨W, ?_, by omega, by omega, hp, by rw [a3, xu_eq]; rfl, oi_frt hf (oi_frt (oi_fr4 V _) a2), a4⟩
      rw [← a1]
      conv => lhs; unfold xb_Witness_item_49
      simp only [xr_all, xf_all, if_true, if_false, true_or, or_true, eq_self, ite_not, Bool.false_eq_true, ite_self, and_self, true_and, and_true, false_and, and_false, not_true_eq_false, not_false_eq_true, xj_Witness_item, xb_Witness_item_0, xb_Witness_item_20, xb_Witness_item_39, xb_Witness_item_74, xb_Witness_item_126, vW_f hw, hti, hV1, nI_add, g, hr]
    · rw [if_neg c]
      have g : (nI (L + t) ≤ 12) = True := by (simp (disch := omega) only [vz_all, if_true, if_false, true_or, or_true, eq_self, ite_not, Bool.false_eq_true, ite_self, and_self, true_and, and_true, false_and, and_false, not_true_eq_false, not_false_eq_true, false_or, or_false])
      obtain ⟨W, a1, a2, a3, a4, a5, a6⟩ := xl_item77x ro (d + 3) z J (nI p) (nI v) x4 ht hL V hV1
      obtain ⟨b1, b2, b3⟩ := a6 (by omega)
      refine ⟨W, ?_, tp_Cc hC (fun j _ => by rw [a3]) (a5 2 (by omega) (by omega)), oi_frt hf a2, by omega, b1, fun j hj => by rw [b2 j hj, h155], b3⟩
      rw [← a1]
      conv => lhs; unfold xb_Witness_item_49
      simp only [xr_all, xf_all, if_true, if_false, true_or, or_true, eq_self, ite_not, Bool.false_eq_true, ite_self, and_self, true_and, and_true, false_and, and_false, not_true_eq_false, not_false_eq_true, xj_Witness_item, xb_Witness_item_0, xb_Witness_item_20, xb_Witness_item_39, xb_Witness_item_74, xb_Witness_item_126, vW_f hw, hti, hV1, nI_add, g]
  unfold oi_2
  rw [if_neg hv]
  by_cases hx : p1 < n ∧ b p1 = 120
  · rw [if_pos hx]
    have hC1 := tp_Cs h hx.1
    have hn := h.1
    cases hd : tp_d b n (p1 + 1) with
    | none =>
      dsimp only
      have hti := xq_times_n ro d z I J h hx hd
      have hV1 : xv_u2 (xv_u2 I 1 3 (nI (p1 + 1))) 1 4 (-1000 * 1 - nI (p1 + 1)) 154 1 = nI L := by (repeat (first | rw [xu_ne2 (by omega)] | rw [xu_ne (by omega)] | rw [xu_eq])); exact h1
      refine ⟨_, ?_, by omega, by omega, (by omega : p1 + 1 ≤ 260), xu_eq, oi_frt (oi_fr3 I _) (oi_fr4 _ _), L, hL, hV1⟩
      have g := eq_true (oi_L1 L (by omega))
      have g2 : ((-1 : Int32) ≤ 0) = True := eq_true (by decide)
      conv => lhs; unfold xb_Witness_item_49
      simp only [xr_all, xf_all, if_true, if_false, true_or, or_true, eq_self, ite_not, Bool.false_eq_true, ite_self, and_self, true_and, and_true, false_and, and_false, not_true_eq_false, not_false_eq_true, xj_Witness_item, xb_Witness_item_0, xb_Witness_item_20, xb_Witness_item_39, xb_Witness_item_74, xb_Witness_item_126, vW_f hw, hti, hV1, g]
      conv => lhs; unfold xb_Witness_item_77
      simp only [xr_all, xf_all, if_true, if_false, true_or, or_true, eq_self, ite_not, Bool.false_eq_true, ite_self, and_self, true_and, and_true, false_and, and_false, not_true_eq_false, not_false_eq_true, xj_Witness_item, xb_Witness_item_0, xb_Witness_item_20, xb_Witness_item_39, xb_Witness_item_74, xb_Witness_item_126, g2]
      rw [show nI 1 = (1 : Int32) from rfl]
    | some t =>
      dsimp only
      have hti := xq_times_s ro d z I J h hx hd
      obtain ⟨d1, d2, d3⟩ := tp_d_s hd
      have hC2 := tp_Cs hC1 d1
      by_cases c : t < 2
      · rw [if_pos c] at hti ⊢
        have hf := oi_frt (oi_frt (oi_fr3 I (nI (p1 + 1))) (oi_fr3 _ (nI (p1 + 1 + 1)))) (oi_fr4 _ (-1000 * 1 - nI (p1 + 1)))
        have hV1 : xv_u2 (xv_u2 (xv_u2 I 1 3 (nI (p1 + 1))) 1 3 (nI (p1 + 1 + 1))) 1 4 (-1000 * 1 - nI (p1 + 1)) 154 1 = nI L := by (repeat (first | rw [xu_ne2 (by omega)] | rw [xu_ne (by omega)] | rw [xu_eq])); exact h1
        have hV4 : xv_u2 (xv_u2 (xv_u2 I 1 3 (nI (p1 + 1))) 1 3 (nI (p1 + 1 + 1))) 1 4 (-1000 * 1 - nI (p1 + 1)) 1 4 = -1000 * 1 - nI (p1 + 1) := xu_eq
        generalize xv_u2 (xv_u2 (xv_u2 I 1 3 (nI (p1 + 1))) 1 3 (nI (p1 + 1 + 1))) 1 4 (-1000 * 1 - nI (p1 + 1)) = V at *
        have hdead : (V 1 4 = 0) = False := by rw [hV4]; exact tp_f 1 (by omega) (by omega) (by omega)
        have hr := xq_refuse_x ro (d + 2) z V J 6 (nI p) hdead
        obtain ⟨W, a1, a2, a3, a4, -⟩ := xl_item77x ro (d + 3) z J (nI p) (nI v) x4 (t := t) (by omega) hL V hV1
        refine ⟨W, ?_, by omega, by omega, (by omega : p1 + 1 ≤ 260), by rw [a3, hV4]; rfl, oi_frt hf a2, a4⟩
        rw [← a1]
        conv => lhs; unfold xb_Witness_item_49
        by_cases c2 : L + t ≤ 12
        · have g : (nI (L + t) ≤ 12) = True := by (simp (disch := omega) only [vz_all, if_true, if_false, true_or, or_true, eq_self, ite_not, Bool.false_eq_true, ite_self, and_self, true_and, and_true, false_and, and_false, not_true_eq_false, not_false_eq_true, false_or, or_false])
          simp only [xr_all, xf_all, if_true, if_false, true_or, or_true, eq_self, ite_not, Bool.false_eq_true, ite_self, and_self, true_and, and_true, false_and, and_false, not_true_eq_false, not_false_eq_true, xj_Witness_item, xb_Witness_item_0, xb_Witness_item_20, xb_Witness_item_39, xb_Witness_item_74, xb_Witness_item_126, vW_f hw, hti, hV1, nI_add, g]
        · have g : (nI (L + t) ≤ 12) = False := by (simp (disch := omega) only [vz_all, if_true, if_false, true_or, or_true, eq_self, ite_not, Bool.false_eq_true, ite_self, and_self, true_and, and_true, false_and, and_false, not_true_eq_false, not_false_eq_true, false_or, or_false])
          simp only [xr_all, xf_all, if_true, if_false, true_or, or_true, eq_self, ite_not, Bool.false_eq_true, ite_self, and_self, true_and, and_true, false_and, and_false, not_true_eq_false, not_false_eq_true, xj_Witness_item, xb_Witness_item_0, xb_Witness_item_20, xb_Witness_item_39, xb_Witness_item_74, xb_Witness_item_126, vW_f hw, hti, hV1, nI_add, g, hr]
      · rw [if_neg c] at hti ⊢
        exact fin t (p1 + 2) _ d2 hti hC2 (oi_frt (oi_fr3 I _) (oi_fr3 _ _)) (by rw [xu_ne (by omega), xu_ne (by omega)]) (by rw [xu_ne (by omega), xu_ne (by omega)])
  · rw [if_neg hx]
    have hti := xq_times_1 ro d z I J h hx
    exact fin 1 p1 I (by omega) hti h (oi_frr I) rfl rfl
