/-! onion: the reading, both -/
theorem xl_reads (ro : xv_Ro) (z : Nat × Nat) (JC JM : Nat → Nat → Int64) (x1 x2 : Int32) {b : Nat → Nat} {n : Nat} (hn : n ≤ 60) (I M : Nat → Nat → Int32) (hC : tp_C b n 0 I) (hM : tp_M b n 0 M) (h37 : M 167 37 = 0) : ∃ (W V0 V : Nat → Nat → Int32) (r0 r : Int32), xv_evm ro 198 271 [.ref 154, .ref 1] (z, xv_mk I JC) = some (none, (z, xv_mk W JC)) ∧ xv_evm ro 198 91 [.ref 167] (z, xv_mk M JM) = some (some (.int r0), (z, xv_mk V0 JM)) ∧ xv_ev ro 199 xm_Mo_onion xb_Mo_onion_43 [some (.ref 167), some (.int x1), some (.int x2), some (.int r0), none] [] (z, xv_mk V0 JM) = xv_ev ro 199 xm_Mo_onion xb_Mo_onion_83 [some (.ref 167), some (.int x1), some (.int x2), some (.int r), none] [] (z, xv_mk V JM) ∧ oi_fr I W ∧ oi_g M V ∧ oi_E W V r := by
  have hw : vW 154 := ⟨rfl, rfl⟩
  have hC0 : tp_C b n 0 (xv_u2 I 154 1 0) := tp_Cc hC (fun j _ => by rw [xu_ne (by omega)]) (by rw [xu_ne (by omega)])
  have hf0 : oi_fr I (xv_u2 I 154 1 0) := ⟨fun a _ q _ => xu_ne q, fun j _ _ => by rw [xu_ne (by omega)], fun j q => xu_ne2 (fun g => q g.2)⟩
  have hrw : oi_rw (xv_u2 I 154 1 0) M 0 := ⟨by omega, xu_eq, h37, fun j hj => absurd hj (Nat.not_lt_zero j)⟩
  obtain ⟨W, a1, a2⟩ := xq_item ro 194 z _ JC hrw.1 hrw.2.1 hC0
  obtain ⟨V, r, b1, b2⟩ := xq_readsItem ro 196 z M JM hrw.1 hrw.2.2.1 hM
  obtain ⟨f1, f2, f3⟩ := oi_step hrw rfl a2 b2
  have f1 := oi_frt hf0 f1
  have cls : xv_evm ro 198 271 [.ref 154, .ref 1] (z, xv_mk I JC) = xv_ev ro 198 xm_Witness_read xb_Witness_read_12 [some (.ref 154), some (.ref 1), some (.int (nI 0))] [] (z, xv_mk W JC) := by
    rw [xe_Witness_read, show nI 0 = (0 : Int32) from rfl]
    simp only [xr_all, xf_all, if_true, if_false, true_or, or_true, eq_self, ite_not, Bool.false_eq_true, ite_self, and_self, true_and, and_true, false_and, and_false, not_true_eq_false, not_false_eq_true, xj_Witness_read, xb_Witness_read_0, xb_Witness_read_38, vW_f hw, a1]
  rcases f3 with ⟨r0, g1, g2⟩ | ⟨r1, p', L', g1, g2, g3, g4⟩
  · subst r0
    exact ⟨W, V, V, 0, 0, cls.trans (xl_read12x ro 196 z W JC (by omega) g1), b1, xl_on43x ro 199 z V JM x1 x2, f1, f2, Or.inl ⟨rfl, g1, g2⟩⟩
  · subst r1
    obtain ⟨W2, V2, r, i1, i2, i3, i4, i5⟩ := xl_list ro 194 195 z JC JM x1 x2 hn (n + 1) p' L' 0 W V (by omega) (by omega) g2 g3 g4
    exact ⟨W2, V, V2, 1, r, cls.trans i1, b1, i2, oi_frt f1 i3, oi_gt f2 i4, i5⟩
