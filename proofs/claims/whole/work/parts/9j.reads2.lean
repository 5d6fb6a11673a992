/-! onion: the reading, the class first -/
theorem oi_step2 {b : Nat → Nat} {n p L v t p' : Nat} {I W M V : Nat → Nat → Int32} {r : Int32} (hrw : oi_rw I M L) (ho : oi_1 b n p L = .inr (v, t, p')) (h1 : oi_A b n L I W v t p') (h2 : oi_N b n L M V r (.inr (v, t, p'))) : oi_g M V ∧ r = 1 ∧ tp_M b n p' V ∧ oi_rw W V (L + t) := by
  obtain ⟨a1, a2, a3, a4, a5, a6⟩ := h1
  obtain ⟨b1, b2, b3, b4, b5, b6⟩ := h2
  obtain ⟨c1, c2, c3⟩ := oi_1p ho
  obtain ⟨k1, k2, k3, k4⟩ := hrw
  refine ⟨b3, b1, b2, a3, a4, b4, fun j hj => ?_⟩
  by_cases e : j < L
  · obtain ⟨s, s1, s2, s3, s4⟩ := k4 j e
    exact ⟨s, s1, s2, by rw [a5 j e]; exact s3, by rw [b5 j e]; exact s4⟩
  · exact ⟨v, c2, c3, a6 j (by omega) hj, b6 j (by omega) hj⟩
theorem xl_list2 (ro : xv_Ro) (d e : Nat) (z : Nat × Nat) (JC : Nat → Nat → Int64) {b : Nat → Nat} {n : Nat} (hn : n ≤ 60) : ∀ (k p L i : Nat) (I : Nat → Nat → Int32), n - p < k → i ≤ p → tp_C b n p I → L ≤ 12 → I 154 1 = nI L → ∃ W : Nat → Nat → Int32, xv_ev ro (d + 4) xm_Witness_read xb_Witness_read_12 [some (.ref 154), some (.ref 1), some (.int (nI i))] [] (z, xv_mk I JC) = some (none, (z, xv_mk W JC)) ∧ oi_fr I W ∧ ∀ (M : Nat → Nat → Int32) (JM : Nat → Nat → Int64) (x1 x2 : Int32), tp_M b n p M → oi_rw I M L → ∃ (V : Nat → Nat → Int32) (r : Int32), xv_ev ro (e + 4) xm_Mo_onion xb_Mo_onion_43 [some (.ref 167), some (.int x1), some (.int x2), some (.int 1), none] [] (z, xv_mk M JM) = xv_ev ro (e + 4) xm_Mo_onion xb_Mo_onion_83 [some (.ref 167), some (.int x1), some (.int x2), some (.int r), none] [] (z, xv_mk V JM) ∧ oi_g M V ∧ oi_E W V r := by
  intro k
  induction k with
  | zero => intro p L i I hk; omega
  | succ k ih =>
    intro p L i I hk hi hC hL hI1
    have hpn := hC.2.1
    have z1 : ((1 : Int32) = 0) = False := eq_false (by decide)
    have ht := xq_take ro (d + 2) z I JC (c := 44) hC (by omega)
    have he := xq_expectEnd ro (d + 2) z I JC hC
    rw [show nI 44 = (44 : Int32) from rfl] at ht
    by_cases c : p < n
    · have gi : (60 ≤ nI i) = False := by (simp (disch := omega) only [vz_all, if_true, if_false, true_or, or_true, eq_self, ite_not, Bool.false_eq_true, ite_self, and_self, true_and, and_true, false_and, and_false, not_true_eq_false, not_false_eq_true, false_or, or_false])
      have gp : (nI n ≤ nI p) = False := by (simp (disch := omega) only [vz_all, if_true, if_false, true_or, or_true, eq_self, ite_not, Bool.false_eq_true, ite_self, and_self, true_and, and_true, false_and, and_false, not_true_eq_false, not_false_eq_true, false_or, or_false])
      rw [if_pos c] at he
      by_cases cc : b p = 44
      · rw [if_pos ⟨c, cc⟩] at ht
        have hC1 := tp_Cs hC c
        have hI11 : xv_u2 I 1 3 (nI (p + 1)) 154 1 = nI L := by rw [xu_ne (by omega)]; exact hI1
        obtain ⟨W, a1, a2⟩ := xq_item ro d z _ JC hL hI11 hC1
        have cls : xv_ev ro (d + 4) xm_Witness_read xb_Witness_read_12 [some (.ref 154), some (.ref 1), some (.int (nI i))] [] (z, xv_mk I JC) = xv_ev ro (d + 4) xm_Witness_read xb_Witness_read_12 [some (.ref 154), some (.ref 1), some (.int (nI (i + 1)))] [] (z, xv_mk W JC) := by
          conv => lhs; unfold xb_Witness_read_12
          simp only [xr_all, xf_all, if_true, if_false, true_or, or_true, eq_self, ite_not, Bool.false_eq_true, ite_self, and_self, true_and, and_true, false_and, and_false, not_true_eq_false, not_false_eq_true, xj_Witness_read, xb_Witness_read_0, xb_Witness_read_38, gi, ht, z1, a1, nI_1]
        have mod : ∀ (M : Nat → Nat → Int32) (JM : Nat → Nat → Int64) (x1 x2 : Int32), tp_M b n p M → oi_rw I M L → tp_M b n (p + 1) (xv_u2 M 167 8 (nI (p + 1))) ∧ oi_rw (xv_u2 I 1 3 (nI (p + 1))) (xv_u2 M 167 8 (nI (p + 1))) L ∧ ∀ (r : Int32) (V : Nat → Nat → Int32), xv_evm ro (e + 3) 91 [.ref 167] (z, xv_mk (xv_u2 M 167 8 (nI (p + 1))) JM) = some (some (.int r), (z, xv_mk V JM)) → r = 0 ∨ r = 1 → xv_ev ro (e + 4) xm_Mo_onion xb_Mo_onion_43 [some (.ref 167), some (.int x1), some (.int x2), some (.int 1), none] [] (z, xv_mk M JM) = xv_ev ro (e + 4) xm_Mo_onion xb_Mo_onion_43 [some (.ref 167), some (.int x1), some (.int x2), some (.int r), none] [] (z, xv_mk V JM) := by
          intro M JM x1 x2 hM hrw
          have hm := xq_takes ro (e + 2) z M JM (c := 44) hM (by omega)
          rw [if_pos ⟨c, cc⟩, show nI 44 = (44 : Int32) from rfl] at hm
          have hp8 := hM.2.2.2.1
          have hn9 := hM.2.2.1
          refine ⟨tp_Ms hM c, ?_, fun r V hV hr => ?_⟩
          · obtain ⟨k1, k2, k3, k4⟩ := hrw
            exact ⟨k1, by rw [xu_ne (by omega)]; exact k2, by rw [xu_ne2 (by omega)]; exact k3, fun j hj => by rw [xu_ne (by omega), xu_ne (by omega)]; exact k4 j hj⟩
          · conv => lhs; unfold xb_Mo_onion_43
            rcases hr with hr | hr
            · subst hr
              simp only [xr_all, xf_all, if_true, if_false, true_or, or_true, eq_self, ite_not, Bool.false_eq_true, ite_self, and_self, true_and, and_true, false_and, and_false, not_true_eq_false, not_false_eq_true, xj_Mo_onion, xb_Mo_onion_0, xb_Mo_onion_26, xb_Mo_onion_28, xb_Mo_onion_78, xb_Mo_onion_79, xb_Mo_onion_97, xb_Mo_onion_149, z1, hp8, hn9, gp, hm, hV]
            · subst hr
              simp only [xr_all, xf_all, if_true, if_false, true_or, or_true, eq_self, ite_not, Bool.false_eq_true, ite_self, and_self, true_and, and_true, false_and, and_false, not_true_eq_false, not_false_eq_true, xj_Mo_onion, xb_Mo_onion_0, xb_Mo_onion_26, xb_Mo_onion_28, xb_Mo_onion_78, xb_Mo_onion_79, xb_Mo_onion_97, xb_Mo_onion_149, z1, hp8, hn9, gp, hm, hV]
        cases ho : oi_1 b n (p + 1) L with
        | inl f =>
          obtain ⟨w, q⟩ := f
          rw [ho] at a2
          obtain ⟨d1, d2, d3, d4, d5, d6⟩ := a2
          have hdead : (W 1 4 = 0) = False := by rw [d4]; exact tp_f w d1 d2 d3
          refine ⟨W, cls.trans (xl_read12x ro (d + 2) z W JC (by omega) hdead), oi_frt (oi_fr3 I _) d5, fun M JM x1 x2 hM hrw => ?_⟩
          obtain ⟨m1, m2, m3⟩ := mod M JM x1 x2 hM hrw
          obtain ⟨V, r, b1, b2⟩ := xq_readsItem ro (e + 1) z _ JM hL m2.2.2.1 m1
          rw [ho] at b2
          obtain ⟨b3, b4, b5⟩ := b2
          subst b3
          exact ⟨V, 0, (m3 0 V b1 (Or.inl rfl)).trans (xl_on43x ro (e + 4) z V JM x1 x2), oi_gt (oi_g8 M _) b5, Or.inl ⟨rfl, hdead, by rw [b4, d4]⟩⟩
        | inr f =>
          obtain ⟨v, t, p'⟩ := f
          rw [ho] at a2
          have hp' := (oi_1p ho).1
          obtain ⟨W2, i1, i2, i3⟩ := ih p' (L + t) (i + 1) W (by omega) (by omega) a2.1 a2.2.2.1 a2.2.2.2.1
          refine ⟨W2, cls.trans i1, oi_frt (oi_frt (oi_fr3 I _) a2.2.1) i2, fun M JM x1 x2 hM hrw => ?_⟩
          obtain ⟨m1, m2, m3⟩ := mod M JM x1 x2 hM hrw
          obtain ⟨V, r, b1, b2⟩ := xq_readsItem ro (e + 1) z _ JM hL m2.2.2.1 m1
          rw [ho] at b2
          obtain ⟨s1, s2, s3, s4⟩ := oi_step2 m2 ho a2 b2
          subst s2
          obtain ⟨V2, r, j1, j2, j3⟩ := i3 V JM x1 x2 s3 s4
          exact ⟨V2, r, (m3 1 V b1 (Or.inr rfl)).trans j1, oi_gt (oi_gt (oi_g8 M _) s1) j2, j3⟩
      · have hno : ¬ (p < n ∧ b p = 44) := fun q => cc q.2
        rw [if_neg hno] at ht
        refine ⟨xv_u2 I 1 4 (-1000 * 1 - nI p), ?_, oi_fr4 I _, fun M JM x1 x2 hM hrw => ⟨xv_u2 M 167 10 (-1000 * 1 - nI p), 0, ?_, oi_g10 M _, Or.inl ⟨rfl, by rw [xu_eq]; exact tp_f 1 (by omega) (by omega) (by omega), by rw [xu_eq, xu_eq]⟩⟩⟩
        · conv => lhs; unfold xb_Witness_read_12
          simp only [xr_all, xf_all, if_true, if_false, true_or, or_true, eq_self, ite_not, Bool.false_eq_true, ite_self, and_self, true_and, and_true, false_and, and_false, not_true_eq_false, not_false_eq_true, xj_Witness_read, xb_Witness_read_0, xb_Witness_read_38, gi, ht, he]
        · have hm := xq_takes ro (e + 2) z M JM (c := 44) hM (by omega)
          rw [if_neg hno, show nI 44 = (44 : Int32) from rfl] at hm
          have hp8 := hM.2.2.2.1
          have hn9 := hM.2.2.1
          rw [← xl_on43x]
          conv => lhs; unfold xb_Mo_onion_43
          simp only [xr_all, xf_all, if_true, if_false, true_or, or_true, eq_self, ite_not, Bool.false_eq_true, ite_self, and_self, true_and, and_true, false_and, and_false, not_true_eq_false, not_false_eq_true, xj_Mo_onion, xb_Mo_onion_0, xb_Mo_onion_26, xb_Mo_onion_28, xb_Mo_onion_78, xb_Mo_onion_79, xb_Mo_onion_97, xb_Mo_onion_149, z1, hp8, hn9, gp, hm]
    · have hno : ¬ (p < n ∧ b p = 44) := fun q => c q.1
      rw [if_neg hno] at ht
      rw [if_neg c] at he
      have gp : (nI n ≤ nI p) = True := by (simp (disch := omega) only [vz_all, if_true, if_false, true_or, or_true, eq_self, ite_not, Bool.false_eq_true, ite_self, and_self, true_and, and_true, false_and, and_false, not_true_eq_false, not_false_eq_true, false_or, or_false])
      refine ⟨I, ?_, oi_frr I, fun M JM x1 x2 hM hrw => ⟨M, 1, ?_, oi_gr M, Or.inr ⟨rfl, hC.2.2.2.2.1, L, hrw⟩⟩⟩
      · conv => lhs; unfold xb_Witness_read_12
        by_cases ci : i < 60
        · have gi : (60 ≤ nI i) = False := by (simp (disch := omega) only [vz_all, if_true, if_false, true_or, or_true, eq_self, ite_not, Bool.false_eq_true, ite_self, and_self, true_and, and_true, false_and, and_false, not_true_eq_false, not_false_eq_true, false_or, or_false])
          simp only [xr_all, xf_all, if_true, if_false, true_or, or_true, eq_self, ite_not, Bool.false_eq_true, ite_self, and_self, true_and, and_true, false_and, and_false, not_true_eq_false, not_false_eq_true, xj_Witness_read, xb_Witness_read_0, xb_Witness_read_38, gi, ht, he]
        · have gi : (60 ≤ nI i) = True := by (simp (disch := omega) only [vz_all, if_true, if_false, true_or, or_true, eq_self, ite_not, Bool.false_eq_true, ite_self, and_self, true_and, and_true, false_and, and_false, not_true_eq_false, not_false_eq_true, false_or, or_false])
          simp only [xr_all, xf_all, if_true, if_false, true_or, or_true, eq_self, ite_not, Bool.false_eq_true, ite_self, and_self, true_and, and_true, false_and, and_false, not_true_eq_false, not_false_eq_true, xj_Witness_read, xb_Witness_read_0, xb_Witness_read_38, gi, he]
      · have hp8 := hM.2.2.2.1
        have hn9 := hM.2.2.1
        conv => lhs; unfold xb_Mo_onion_43
        simp only [xr_all, xf_all, if_true, if_false, true_or, or_true, eq_self, ite_not, Bool.false_eq_true, ite_self, and_self, true_and, and_true, false_and, and_false, not_true_eq_false, not_false_eq_true, xj_Mo_onion, xb_Mo_onion_0, xb_Mo_onion_26, xb_Mo_onion_28, xb_Mo_onion_78, xb_Mo_onion_79, xb_Mo_onion_97, xb_Mo_onion_149, z1, hp8, hn9, gp]
theorem xl_reads2 (ro : xv_Ro) (z : Nat × Nat) (JC : Nat → Nat → Int64) {b : Nat → Nat} {n : Nat} (hn : n ≤ 60) (I : Nat → Nat → Int32) (hC : tp_C b n 0 I) : ∃ W : Nat → Nat → Int32, xv_evm ro 198 271 [.ref 154, .ref 1] (z, xv_mk I JC) = some (none, (z, xv_mk W JC)) ∧ oi_fr I W ∧ ∀ (M : Nat → Nat → Int32) (JM : Nat → Nat → Int64) (x1 x2 : Int32), tp_M b n 0 M → M 167 37 = 0 → ∃ (V0 V : Nat → Nat → Int32) (r0 r : Int32), xv_evm ro 198 91 [.ref 167] (z, xv_mk M JM) = some (some (.int r0), (z, xv_mk V0 JM)) ∧ xv_ev ro 199 xm_Mo_onion xb_Mo_onion_43 [some (.ref 167), some (.int x1), some (.int x2), some (.int r0), none] [] (z, xv_mk V0 JM) = xv_ev ro 199 xm_Mo_onion xb_Mo_onion_83 [some (.ref 167), some (.int x1), some (.int x2), some (.int r), none] [] (z, xv_mk V JM) ∧ oi_g M V ∧ oi_E W V r := by
  have hw : vW 154 := ⟨rfl, rfl⟩
  have hC0 : tp_C b n 0 (xv_u2 I 154 1 0) := tp_Cc hC (fun j _ => by rw [xu_ne (by omega)]) (by rw [xu_ne (by omega)])
  have hf0 : oi_fr I (xv_u2 I 154 1 0) := ⟨fun a _ q _ => xu_ne q, fun j _ _ => by rw [xu_ne (by omega)], fun j q => xu_ne2 (fun g => q g.2)⟩
  have hrw : ∀ M : Nat → Nat → Int32, M 167 37 = 0 → oi_rw (xv_u2 I 154 1 0) M 0 := fun M h37 => ⟨by omega, xu_eq, h37, fun j hj => absurd hj (Nat.not_lt_zero j)⟩
  obtain ⟨W, a1, a2⟩ := xq_item ro 194 z _ JC (Nat.zero_le 12) (xu_eq : xv_u2 I 154 1 0 154 1 = nI 0) hC0
  have cls : xv_evm ro 198 271 [.ref 154, .ref 1] (z, xv_mk I JC) = xv_ev ro 198 xm_Witness_read xb_Witness_read_12 [some (.ref 154), some (.ref 1), some (.int (nI 0))] [] (z, xv_mk W JC) := by
    rw [xe_Witness_read, show nI 0 = (0 : Int32) from rfl]
    simp only [xr_all, xf_all, if_true, if_false, true_or, or_true, eq_self, ite_not, Bool.false_eq_true, ite_self, and_self, true_and, and_true, false_and, and_false, not_true_eq_false, not_false_eq_true, xj_Witness_read, xb_Witness_read_0, xb_Witness_read_38, vW_f hw, a1]
  cases ho : oi_1 b n 0 0 with
  | inl f =>
    obtain ⟨w, q⟩ := f
    rw [ho] at a2
    obtain ⟨d1, d2, d3, d4, d5, d6⟩ := a2
    have hdead : (W 1 4 = 0) = False := by rw [d4]; exact tp_f w d1 d2 d3
    refine ⟨W, cls.trans (xl_read12x ro 196 z W JC (by omega) hdead), oi_frt hf0 d5, fun M JM x1 x2 hM h37 => ?_⟩
    obtain ⟨V, r, b1, b2⟩ := xq_readsItem ro 196 z M JM (Nat.zero_le 12) (h37 : M 167 37 = nI 0) hM
    rw [ho] at b2
    obtain ⟨b3, b4, b5⟩ := b2
    subst b3
    exact ⟨V, V, 0, 0, b1, xl_on43x ro 199 z V JM x1 x2, b5, Or.inl ⟨rfl, hdead, by rw [b4, d4]⟩⟩
  | inr f =>
    obtain ⟨v, t, p'⟩ := f
    rw [ho] at a2
    obtain ⟨W2, i1, i2, i3⟩ := xl_list2 ro 194 195 z JC hn (n + 1) p' (0 + t) 0 W (by omega) (by omega) a2.1 a2.2.2.1 a2.2.2.2.1
    refine ⟨W2, cls.trans i1, oi_frt (oi_frt hf0 a2.2.1) i2, fun M JM x1 x2 hM h37 => ?_⟩
    obtain ⟨V, r, b1, b2⟩ := xq_readsItem ro 196 z M JM (Nat.zero_le 12) (h37 : M 167 37 = nI 0) hM
    rw [ho] at b2
    obtain ⟨s1, s2, s3, s4⟩ := oi_step2 (hrw M h37) ho a2 b2
    subst s2
    obtain ⟨V2, r, j1, j2, j3⟩ := i3 V JM x1 x2 s3 s4
    exact ⟨V, V2, 1, r, b1, j1, oi_gt s1 j2, j3⟩
