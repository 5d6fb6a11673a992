/-! onion: an item, both -/
theorem xq_item (ro : xv_Ro) (d : Nat) (z : Nat × Nat) (I : Nat → Nat → Int32) (J : Nat → Nat → Int64) {b : Nat → Nat} {n p L : Nat} (hL : L ≤ 12) (h1 : I 154 1 = nI L) (h : tp_C b n p I) : ∃ W : Nat → Nat → Int32, xv_evm ro (d + 3) 272 [.ref 154, .ref 1] (z, xv_mk I J) = some (none, (z, xv_mk W J)) ∧ oi_O b n L I W (oi_1 b n p L) := by
  have hn := h.1
  have hpn := h.2.1
  have hpl := xq_Tape_place ro (d + 2) z I J
  rw [h.2.2.2.1] at hpl
  have fin : ∀ (v p1 : Nat) (V : Nat → Nat → Int32) (x4 : Int32), tp_C b n p1 V → oi_fr I V → V 155 = I 155 → V 154 1 = nI L → v ≤ 99 → ∃ W : Nat → Nat → Int32, xv_ev ro (d + 3) xm_Witness_item xb_Witness_item_39 [some (.ref 154), some (.ref 1), some (.int (nI p)), some (.int (nI v)), some (.int x4), none, none] [] (z, xv_mk V J) = some (none, (z, xv_mk W J)) ∧ oi_O b n L I W (oi_2 b n p L v p1) := by
    intro v p1 V x4 hC hf h155 hV1 hv
    by_cases c : v = 0
    · have e : oi_2 b n p L v p1 = .inl (3, p) := if_pos c
      rw [e]
      have hr := xq_refuse ro (d + 2) z V J 3 (nI p) hC.2.2.2.2.1
      obtain ⟨W, a1, a2, a3, a4⟩ := xl_item49x ro d z J (nI p) (nI v) x4 hL (xv_u2 V 1 4 (-1000 * 3 - nI p)) (by rw [xu_ne (by omega)]; exact hV1) (by rw [xu_eq]; exact tp_f 3 (by omega) (by omega) (by omega))
      refine ⟨W, ?_, by omega, by omega, by omega, by rw [a3, xu_eq]; rfl, oi_frt hf (oi_frt (oi_fr4 V _) a2), a4⟩
      rw [← a1]
      have g : (nI v = 0) = True := by (simp (disch := omega) only [vz_all, if_true, if_false, true_or, or_true, eq_self, ite_not, Bool.false_eq_true, ite_self, and_self, true_and, and_true, false_and, and_false, not_true_eq_false, not_false_eq_true, false_or, or_false])
      conv => lhs; unfold xb_Witness_item_39
      simp only [xr_all, xf_all, if_true, if_false, true_or, or_true, eq_self, ite_not, Bool.false_eq_true, ite_self, and_self, true_and, and_true, false_and, and_false, not_true_eq_false, not_false_eq_true, xj_Witness_item, xb_Witness_item_0, xb_Witness_item_20, xb_Witness_item_39, xb_Witness_item_74, xb_Witness_item_126, g, hr]
    · obtain ⟨W, a1, a2⟩ := xl_item49 ro d z J x4 (p := p) (v := v) hL (by omega) c V hV1 hC
      refine ⟨W, ?_, oi_O_t hf h155 a2⟩
      rw [← a1]
      have g : (nI v = 0) = False := by (simp (disch := omega) only [vz_all, if_true, if_false, true_or, or_true, eq_self, ite_not, Bool.false_eq_true, ite_self, and_self, true_and, and_true, false_and, and_false, not_true_eq_false, not_false_eq_true, false_or, or_false])
      conv => lhs; unfold xb_Witness_item_39
      simp only [xr_all, xf_all, if_true, if_false, true_or, or_true, eq_self, ite_not, Bool.false_eq_true, ite_self, and_self, true_and, and_true, false_and, and_false, not_true_eq_false, not_false_eq_true, xj_Witness_item, xb_Witness_item_0, xb_Witness_item_20, xb_Witness_item_39, xb_Witness_item_74, xb_Witness_item_126, g]
  have hd0 := xq_digit ro (d + 1) z I J h
  rw [xe_Witness_item]
  unfold oi_1
  cases hd : tp_d b n p with
  | none =>
    rw [hd] at hd0
    dsimp only at hd0 ⊢
    have hr := xq_refuse ro (d + 2) z I J 1 (nI p) h.2.2.2.2.1
    have hdead : (xv_u2 I 1 4 (-1000 * 1 - nI p) 1 4 = 0) = False := by rw [xu_eq]; exact tp_f 1 (by omega) (by omega) (by omega)
    have hdx := xq_digit_x ro (d + 1) z _ J hdead
    obtain ⟨W, a1, a2, a3, a4⟩ := xl_item49x ro d z J (nI p) (-1) (-1) hL (xv_u2 I 1 4 (-1000 * 1 - nI p)) (by rw [xu_ne (by omega)]; exact h1) hdead
    refine ⟨W, ?_, by omega, by omega, (by omega : p ≤ 260), by rw [a3, xu_eq]; rfl, oi_frt (oi_fr4 I _) a2, a4⟩
    rw [← a1]
    have g1 : ((-1 : Int32) < 0) = True := eq_true (by decide)
    have g1' : (0 ≤ (-1 : Int32)) = False := eq_false (by decide)
    have g2 : ((-1 : Int32) = 0) = False := eq_false (by decide)
    simp only [xr_all, xf_all, if_true, if_false, true_or, or_true, eq_self, ite_not, Bool.false_eq_true, ite_self, and_self, true_and, and_true, false_and, and_false, not_true_eq_false, not_false_eq_true, xj_Witness_item, xb_Witness_item_0, xb_Witness_item_20, xb_Witness_item_39, xb_Witness_item_74, xb_Witness_item_126, hpl, hd0, g1, g1', hr, hdx, g2]
  | some a =>
    rw [hd] at hd0
    dsimp only at hd0 ⊢
    obtain ⟨c1, c2, c3⟩ := tp_d_s hd
    have hC1 := tp_Cs h c1
    have hd1 := xq_digit ro (d + 1) z _ J hC1
    have g1 : (nI a < 0) = False := by (simp (disch := omega) only [vz_all, if_true, if_false, true_or, or_true, eq_self, ite_not, Bool.false_eq_true, ite_self, and_self, true_and, and_true, false_and, and_false, not_true_eq_false, not_false_eq_true, false_or, or_false])
    have g1' : (0 ≤ nI a) = True := by (simp (disch := omega) only [vz_all, if_true, if_false, true_or, or_true, eq_self, ite_not, Bool.false_eq_true, ite_self, and_self, true_and, and_true, false_and, and_false, not_true_eq_false, not_false_eq_true, false_or, or_false])
    cases he : tp_d b n (p + 1) with
    | none =>
      rw [he] at hd1
      dsimp only at hd1 ⊢
      obtain ⟨W, a1, a2⟩ := fin a (p + 1) _ (-1) hC1 (oi_fr3 I _) (by rw [xu_ne (by omega)]) (by rw [xu_ne (by omega)]; exact h1) (by omega)
      refine ⟨W, ?_, a2⟩
      rw [← a1]
      have g2 : ((-1 : Int32) < 0) = True := eq_true (by decide)
      simp only [xr_all, xf_all, if_true, if_false, true_or, or_true, eq_self, ite_not, Bool.false_eq_true, ite_self, and_self, true_and, and_true, false_and, and_false, not_true_eq_false, not_false_eq_true, xj_Witness_item, xb_Witness_item_0, xb_Witness_item_20, xb_Witness_item_74, xb_Witness_item_126, hpl, hd0, g1, g1', hd1, g2]
    | some c =>
      rw [he] at hd1
      dsimp only at hd1 ⊢
      obtain ⟨e1, e2, e3⟩ := tp_d_s he
      have hC2 := tp_Cs hC1 e1
      obtain ⟨W, a1, a2⟩ := fin (10 * a + c) (p + 2) _ (nI c) hC2 (oi_frt (oi_fr3 I _) (oi_fr3 _ _)) (by rw [xu_ne (by omega), xu_ne (by omega)]) (by rw [xu_ne (by omega), xu_ne (by omega)]; exact h1) (by omega)
      refine ⟨W, ?_, a2⟩
      rw [← a1]
      have g2 : (nI c < 0) = False := by (simp (disch := omega) only [vz_all, if_true, if_false, true_or, or_true, eq_self, ite_not, Bool.false_eq_true, ite_self, and_self, true_and, and_true, false_and, and_false, not_true_eq_false, not_false_eq_true, false_or, or_false])
      have e : 10 * nI a + nI c = nI (10 * a + c) := by (simp (disch := omega) only [vz_all, if_true, if_false, true_or, or_true, eq_self, ite_not, Bool.false_eq_true, ite_self, and_self, true_and, and_true, false_and, and_false, not_true_eq_false, not_false_eq_true, false_or, or_false])
      simp only [xr_all, xf_all, if_true, if_false, true_or, or_true, eq_self, ite_not, Bool.false_eq_true, ite_self, and_self, true_and, and_true, false_and, and_false, not_true_eq_false, not_false_eq_true, xj_Witness_item, xb_Witness_item_0, xb_Witness_item_20, xb_Witness_item_74, xb_Witness_item_126, hpl, hd0, g1, g1', hd1, g2, e]
theorem tp_in {b : Nat → Nat} {n p : Nat} (hb : p < n → b p < 256) : (50 ≤ tp_c b n p ∧ tp_c b n p ≤ 57) = (∃ t, tp_d b n p = some t ∧ 2 ≤ t) := by
  apply propext
  unfold tp_c tp_d
  by_cases c : p < n
  · have hb := hb c
    rw [if_pos c]
    have e1 : (50 ≤ nI (b p)) = (50 ≤ b p) := propext (nI_leI (a := 50) (b := b p) (by omega) (by omega))
    have e2 : (nI (b p) ≤ 57) = (b p ≤ 57) := propext (nI_leI (a := b p) (b := 57) (by omega) (by omega))
    rw [e1, e2]
    constructor
    · rintro ⟨q1, q2⟩
      exact ⟨b p - 48, by rw [if_pos ⟨c, by omega, q2⟩], by omega⟩
    · rintro ⟨t, q1, q2⟩
      by_cases c2 : p < n ∧ 48 ≤ b p ∧ b p ≤ 57
      · rw [if_pos c2] at q1
        have := Option.some.inj q1
        omega
      · rw [if_neg c2] at q1; cases q1
  · rw [if_neg c, if_neg (fun q => c q.1)]
    constructor
    · intro q; exact absurd q.1 (by decide)
    · rintro ⟨t, q, -⟩; cases q
