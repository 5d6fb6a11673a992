/-! onion: the items, both (the end) -/
/-- layers that agree -/
def oi_rw (W M : Nat → Nat → Int32) (L : Nat) : Prop := L ≤ 12 ∧ W 154 1 = nI L ∧ M 167 37 = nI L ∧ ∀ j, j < L → ∃ s : Nat, 1 ≤ s ∧ s ≤ 99 ∧ W 155 j = nI s ∧ M 189 j = nI s
/-- the ends agree: a fault, or layers -/
def oi_E (W M : Nat → Nat → Int32) (r : Int32) : Prop := (r = 0 ∧ (W 1 4 = 0) = False ∧ M 167 10 = W 1 4) ∨ (r = 1 ∧ W 1 4 = 0 ∧ ∃ L, oi_rw W M L)
theorem oi_step {b : Nat → Nat} {n p L : Nat} {I W M V : Nat → Nat → Int32} {r : Int32} {o : oi_S} (hrw : oi_rw I M L) (ho : oi_1 b n p L = o) (h1 : oi_O b n L I W o) (h2 : oi_N b n L M V r o) : oi_fr I W ∧ oi_g M V ∧ ((r = 0 ∧ (W 1 4 = 0) = False ∧ V 167 10 = W 1 4) ∨ (r = 1 ∧ ∃ p' L', p < p' ∧ tp_C b n p' W ∧ tp_M b n p' V ∧ oi_rw W V L')) := by
  match o, ho, h1, h2 with
  | .inl (w, q), _, h1, h2 =>
    obtain ⟨a1, a2, a3, a4, a5, -⟩ := h1
    obtain ⟨b1, b2, b3⟩ := h2
    exact ⟨a5, b3, Or.inl ⟨b1, by rw [a4]; exact tp_f w a1 a2 a3, by rw [b2, a4]⟩⟩
  | .inr (v, t, p'), ho, h1, h2 =>
    obtain ⟨a1, a2, a3, a4, a5, a6⟩ := h1
    obtain ⟨b1, b2, b3, b4, b5, b6⟩ := h2
    obtain ⟨c1, c2, c3⟩ := oi_1p ho
    obtain ⟨k1, k2, k3, k4⟩ := hrw
    refine ⟨a2, b3, Or.inr ⟨b1, p', L + t, c1, a1, b2, a3, a4, b4, fun j hj => ?_⟩⟩
    by_cases e : j < L
    · obtain ⟨s, s1, s2, s3, s4⟩ := k4 j e
      exact ⟨s, s1, s2, by rw [a5 j e]; exact s3, by rw [b5 j e]; exact s4⟩
    · exact ⟨v, c2, c3, a6 j (by omega) hj, b6 j (by omega) hj⟩
theorem xl_read12x (ro : xv_Ro) (d : Nat) (z : Nat × Nat) (I : Nat → Nat → Int32) (J : Nat → Nat → Int64) {i : Nat} (hi : i ≤ 60) (h : (I 1 4 = 0) = False) : xv_ev ro (d + 2) xm_Witness_read xb_Witness_read_12 [some (.ref 154), some (.ref 1), some (.int (nI i))] [] (z, xv_mk I J) = some (none, (z, xv_mk I J)) := by
  have ht := xq_take_x ro d z I J (c := 44) h (by omega)
  rw [show nI 44 = (44 : Int32) from rfl] at ht
  have he := xq_expectEnd_x ro d z I J h
  conv => lhs; unfold xb_Witness_read_12
  by_cases c : i < 60
  · have g : (60 ≤ nI i) = False := by (simp (disch := omega) only [vz_all, if_true, if_false, true_or, or_true, eq_self, ite_not, Bool.false_eq_true, ite_self, and_self, true_and, and_true, false_and, and_false, not_true_eq_false, not_false_eq_true, false_or, or_false])
    simp only [xr_all, xf_all, if_true, if_false, true_or, or_true, eq_self, ite_not, Bool.false_eq_true, ite_self, and_self, true_and, and_true, false_and, and_false, not_true_eq_false, not_false_eq_true, xj_Witness_read, xb_Witness_read_0, xb_Witness_read_38, g, ht, he]
  · have g : (60 ≤ nI i) = True := by (simp (disch := omega) only [vz_all, if_true, if_false, true_or, or_true, eq_self, ite_not, Bool.false_eq_true, ite_self, and_self, true_and, and_true, false_and, and_false, not_true_eq_false, not_false_eq_true, false_or, or_false])
    simp only [xr_all, xf_all, if_true, if_false, true_or, or_true, eq_self, ite_not, Bool.false_eq_true, ite_self, and_self, true_and, and_true, false_and, and_false, not_true_eq_false, not_false_eq_true, xj_Witness_read, xb_Witness_read_0, xb_Witness_read_38, g, he]
theorem xl_on43x (ro : xv_Ro) (d : Nat) (z : Nat × Nat) (M : Nat → Nat → Int32) (J : Nat → Nat → Int64) (x1 x2 : Int32) : xv_ev ro d xm_Mo_onion xb_Mo_onion_43 [some (.ref 167), some (.int x1), some (.int x2), some (.int 0), none] [] (z, xv_mk M J) = xv_ev ro d xm_Mo_onion xb_Mo_onion_83 [some (.ref 167), some (.int x1), some (.int x2), some (.int 0), none] [] (z, xv_mk M J) := by
  conv => lhs; unfold xb_Mo_onion_43
  simp only [xr_all, xf_all, if_true, if_false, true_or, or_true, eq_self, ite_not, Bool.false_eq_true, ite_self, and_self, true_and, and_true, false_and, and_false, not_true_eq_false, not_false_eq_true, xj_Mo_onion, xb_Mo_onion_0, xb_Mo_onion_26, xb_Mo_onion_28, xb_Mo_onion_78, xb_Mo_onion_79, xb_Mo_onion_97, xb_Mo_onion_149]
theorem xl_list (ro : xv_Ro) (d e : Nat) (z : Nat × Nat) (JC JM : Nat → Nat → Int64) (x1 x2 : Int32) {b : Nat → Nat} {n : Nat} (hn : n ≤ 60) : ∀ (k p L i : Nat) (I M : Nat → Nat → Int32), n - p < k → i ≤ p → tp_C b n p I → tp_M b n p M → oi_rw I M L → ∃ (W V : Nat → Nat → Int32) (r : Int32), xv_ev ro (d + 4) xm_Witness_read xb_Witness_read_12 [some (.ref 154), some (.ref 1), some (.int (nI i))] [] (z, xv_mk I JC) = some (none, (z, xv_mk W JC)) ∧ xv_ev ro (e + 4) xm_Mo_onion xb_Mo_onion_43 [some (.ref 167), some (.int x1), some (.int x2), some (.int 1), none] [] (z, xv_mk M JM) = xv_ev ro (e + 4) xm_Mo_onion xb_Mo_onion_83 [some (.ref 167), some (.int x1), some (.int x2), some (.int r), none] [] (z, xv_mk V JM) ∧ oi_fr I W ∧ oi_g M V ∧ oi_E W V r := by
  intro k
  induction k with
  | zero => intro p L i I M hk; omega
  | succ k ih =>
    intro p L i I M hk hi hC hM hrw
    have hpn := hC.2.1
    have z1 : ((1 : Int32) = 0) = False := eq_false (by decide)
    have ht := xq_take ro (d + 2) z I JC (c := 44) hC (by omega)
    have hm := xq_takes ro (e + 2) z M JM (c := 44) hM (by omega)
    have he := xq_expectEnd ro (d + 2) z I JC hC
    rw [show nI 44 = (44 : Int32) from rfl] at ht hm
    have hp8 := hM.2.2.2.1
    have hn9 := hM.2.2.1
    by_cases c : p < n
    · have gi : (60 ≤ nI i) = False := by (simp (disch := omega) only [vz_all, if_true, if_false, true_or, or_true, eq_self, ite_not, Bool.false_eq_true, ite_self, and_self, true_and, and_true, false_and, and_false, not_true_eq_false, not_false_eq_true, false_or, or_false])
      have gp : (nI n ≤ nI p) = False := by (simp (disch := omega) only [vz_all, if_true, if_false, true_or, or_true, eq_self, ite_not, Bool.false_eq_true, ite_self, and_self, true_and, and_true, false_and, and_false, not_true_eq_false, not_false_eq_true, false_or, or_false])
      rw [if_pos c] at he
      by_cases cc : b p = 44
      · rw [if_pos ⟨c, cc⟩] at ht hm
        have hC1 := tp_Cs hC c
        have hM1 := tp_Ms hM c
        have hrw1 : oi_rw (xv_u2 I 1 3 (nI (p + 1))) (xv_u2 M 167 8 (nI (p + 1))) L := by
          obtain ⟨k1, k2, k3, k4⟩ := hrw
          exact ⟨k1, by rw [xu_ne (by omega)]; exact k2, by rw [xu_ne2 (by omega)]; exact k3, fun j hj => by rw [xu_ne (by omega), xu_ne (by omega)]; exact k4 j hj⟩
        obtain ⟨W, a1, a2⟩ := xq_item ro d z _ JC hrw1.1 hrw1.2.1 hC1
        obtain ⟨V, r, b1, b2⟩ := xq_readsItem ro (e + 1) z _ JM hrw1.1 hrw1.2.2.1 hM1
        obtain ⟨f1, f2, f3⟩ := oi_step hrw1 rfl a2 b2
        have f1 := oi_frt (oi_fr3 I _) f1
        have f2 := oi_gt (oi_g8 M _) f2
        have cls : xv_ev ro (d + 4) xm_Witness_read xb_Witness_read_12 [some (.ref 154), some (.ref 1), some (.int (nI i))] [] (z, xv_mk I JC) = xv_ev ro (d + 4) xm_Witness_read xb_Witness_read_12 [some (.ref 154), some (.ref 1), some (.int (nI (i + 1)))] [] (z, xv_mk W JC) := by
          conv => lhs; unfold xb_Witness_read_12
          simp only [xr_all, xf_all, if_true, if_false, true_or, or_true, eq_self, ite_not, Bool.false_eq_true, ite_self, and_self, true_and, and_true, false_and, and_false, not_true_eq_false, not_false_eq_true, xj_Witness_read, xb_Witness_read_0, xb_Witness_read_38, gi, ht, z1, a1, nI_1]
        rcases f3 with ⟨r0, g1, g2⟩ | ⟨r1, p', L', g1, g2, g3, g4⟩
        · subst r0
          refine ⟨W, V, 0, cls.trans (xl_read12x ro (d + 2) z W JC (by omega) g1), ?_, f1, f2, Or.inl ⟨rfl, g1, g2⟩⟩
          rw [← xl_on43x]
          conv => lhs; unfold xb_Mo_onion_43
          simp only [xr_all, xf_all, if_true, if_false, true_or, or_true, eq_self, ite_not, Bool.false_eq_true, ite_self, and_self, true_and, and_true, false_and, and_false, not_true_eq_false, not_false_eq_true, xj_Mo_onion, xb_Mo_onion_0, xb_Mo_onion_26, xb_Mo_onion_28, xb_Mo_onion_78, xb_Mo_onion_79, xb_Mo_onion_97, xb_Mo_onion_149, z1, hp8, hn9, gp, hm, b1]
        · subst r1
          obtain ⟨W2, V2, r, i1, i2, i3, i4, i5⟩ := ih p' L' (i + 1) W V (by omega) (by omega) g2 g3 g4
          refine ⟨W2, V2, r, cls.trans i1, ?_, oi_frt f1 i3, oi_gt f2 i4, i5⟩
          rw [← i2]
          conv => lhs; unfold xb_Mo_onion_43
          simp only [xr_all, xf_all, if_true, if_false, true_or, or_true, eq_self, ite_not, Bool.false_eq_true, ite_self, and_self, true_and, and_true, false_and, and_false, not_true_eq_false, not_false_eq_true, xj_Mo_onion, xb_Mo_onion_0, xb_Mo_onion_26, xb_Mo_onion_28, xb_Mo_onion_78, xb_Mo_onion_79, xb_Mo_onion_97, xb_Mo_onion_149, z1, hp8, hn9, gp, hm, b1]
      · have hno : ¬ (p < n ∧ b p = 44) := fun q => cc q.2
        rw [if_neg hno] at ht hm
        refine ⟨xv_u2 I 1 4 (-1000 * 1 - nI p), xv_u2 M 167 10 (-1000 * 1 - nI p), 0, ?_, ?_, oi_fr4 I _, oi_g10 M _, Or.inl ⟨rfl, by rw [xu_eq]; exact tp_f 1 (by omega) (by omega) (by omega), by rw [xu_eq, xu_eq]⟩⟩
        · conv => lhs; unfold xb_Witness_read_12
          simp only [xr_all, xf_all, if_true, if_false, true_or, or_true, eq_self, ite_not, Bool.false_eq_true, ite_self, and_self, true_and, and_true, false_and, and_false, not_true_eq_false, not_false_eq_true, xj_Witness_read, xb_Witness_read_0, xb_Witness_read_38, gi, ht, he]
        · rw [← xl_on43x]
          conv => lhs; unfold xb_Mo_onion_43
          simp only [xr_all, xf_all, if_true, if_false, true_or, or_true, eq_self, ite_not, Bool.false_eq_true, ite_self, and_self, true_and, and_true, false_and, and_false, not_true_eq_false, not_false_eq_true, xj_Mo_onion, xb_Mo_onion_0, xb_Mo_onion_26, xb_Mo_onion_28, xb_Mo_onion_78, xb_Mo_onion_79, xb_Mo_onion_97, xb_Mo_onion_149, z1, hp8, hn9, gp, hm]
    · have hno : ¬ (p < n ∧ b p = 44) := fun q => c q.1
      rw [if_neg hno] at ht
      rw [if_neg c] at he
      have gp : (nI n ≤ nI p) = True := by (simp (disch := omega) only [vz_all, if_true, if_false, true_or, or_true, eq_self, ite_not, Bool.false_eq_true, ite_self, and_self, true_and, and_true, false_and, and_false, not_true_eq_false, not_false_eq_true, false_or, or_false])
      refine ⟨I, M, 1, ?_, ?_, oi_frr I, oi_gr M, Or.inr ⟨rfl, hC.2.2.2.2.1, L, hrw⟩⟩
      · conv => lhs; unfold xb_Witness_read_12
        by_cases ci : i < 60
        · have gi : (60 ≤ nI i) = False := by (simp (disch := omega) only [vz_all, if_true, if_false, true_or, or_true, eq_self, ite_not, Bool.false_eq_true, ite_self, and_self, true_and, and_true, false_and, and_false, not_true_eq_false, not_false_eq_true, false_or, or_false])
          simp only [xr_all, xf_all, if_true, if_false, true_or, or_true, eq_self, ite_not, Bool.false_eq_true, ite_self, and_self, true_and, and_true, false_and, and_false, not_true_eq_false, not_false_eq_true, xj_Witness_read, xb_Witness_read_0, xb_Witness_read_38, gi, ht, he]
        · have gi : (60 ≤ nI i) = True := by (simp (disch := omega) only [vz_all, if_true, if_false, true_or, or_true, eq_self, ite_not, Bool.false_eq_true, ite_self, and_self, true_and, and_true, false_and, and_false, not_true_eq_false, not_false_eq_true, false_or, or_false])
          simp only [xr_all, xf_all, if_true, if_false, true_or, or_true, eq_self, ite_not, Bool.false_eq_true, ite_self, and_self, true_and, and_true, false_and, and_false, not_true_eq_false, not_false_eq_true, xj_Witness_read, xb_Witness_read_0, xb_Witness_read_38, gi, he]
      · conv => lhs; unfold xb_Mo_onion_43
        simp only [xr_all, xf_all, if_true, if_false, true_or, or_true, eq_self, ite_not, Bool.false_eq_true, ite_self, and_self, true_and, and_true, false_and, and_false, not_true_eq_false, not_false_eq_true, xj_Mo_onion, xb_Mo_onion_0, xb_Mo_onion_26, xb_Mo_onion_28, xb_Mo_onion_78, xb_Mo_onion_79, xb_Mo_onion_97, xb_Mo_onion_149, z1, hp8, hn9, gp]
