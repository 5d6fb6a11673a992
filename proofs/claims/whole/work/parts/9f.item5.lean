/-! onion: an item, the model (the end) -/
theorem xl_ri24 (ro : xv_Ro) (d : Nat) (z : Nat × Nat) (J : Nat → Nat → Int64) {b : Nat → Nat} {n p q v a : Nat} (M : Nat → Nat → Int32) (h : tp_M b n q M) (hd : tp_d b n q = some a) (hq : q < p + 2) (hp : p ≤ 260) (hv : v ≤ 9) : xv_ev ro (d + 2) xm_Mo_readsItem xb_Mo_readsItem_24 [some (.ref 167), some (.int (nI p)), some (.int (nI v)), none, none] [] (z, xv_mk M J) = xv_ev ro (d + 2) xm_Mo_readsItem xb_Mo_readsItem_24 [some (.ref 167), some (.int (nI p)), some (.int (nI (10 * v + a))), none, none] [] (z, xv_mk (xv_u2 M 167 8 (nI (q + 1))) J) := by
  have his := xq_isDigit ro d z M J h
  rw [hd, if_pos (show (some a).isSome = true from rfl)] at his
  obtain ⟨c1, c2, c3⟩ := tp_d_s hd
  have hh := xq_here ro (d + 1) z M J h
  have ev : tp_c b n q = nI (a + 48) := by unfold tp_c; rw [if_pos c1, c3]
  rw [ev] at hh
  have h4 := h.2.2.2.1
  have e2 : nI p + 2 = nI (p + 2) := by (simp (disch := omega) only [vz_all, if_true, if_false, true_or, or_true, eq_self, ite_not, Bool.false_eq_true, ite_self, and_self, true_and, and_true, false_and, and_false, not_true_eq_false, not_false_eq_true, false_or, or_false])
  have g2 : (nI (p + 2) ≤ nI q) = False := by (simp (disch := omega) only [vz_all, if_true, if_false, true_or, or_true, eq_self, ite_not, Bool.false_eq_true, ite_self, and_self, true_and, and_true, false_and, and_false, not_true_eq_false, not_false_eq_true, false_or, or_false])
  have e : 10 * nI v + nI (a + 48) - 48 = nI (10 * v + a) := by (simp (disch := omega) only [vz_all, if_true, if_false, true_or, or_true, eq_self, ite_not, Bool.false_eq_true, ite_self, and_self, true_and, and_true, false_and, and_false, not_true_eq_false, not_false_eq_true, false_or, or_false])
  have z1 : ((1 : Int32) = 0) = False := eq_false (by decide)
  conv => lhs; unfold xb_Mo_readsItem_24
  simp only [xr_all, xf_all, if_true, if_false, true_or, or_true, eq_self, ite_not, Bool.false_eq_true, ite_self, and_self, true_and, and_true, false_and, and_false, not_true_eq_false, not_false_eq_true, xj_Mo_readsItem, xb_Mo_readsItem_0, xb_Mo_readsItem_78, xb_Mo_readsItem_123, xb_Mo_readsItem_141, xb_Mo_readsItem_160, xb_Mo_readsItem_188, his, z1, h4, e2, g2, hh, e, nI_1]
theorem xl_ri24e (ro : xv_Ro) (d : Nat) (z : Nat × Nat) (J : Nat → Nat → Int64) {b : Nat → Nat} {n p q v : Nat} (M : Nat → Nat → Int32) (h : tp_M b n q M) (hp : p ≤ 260) (hd : tp_d b n q = none ∨ q = p + 2) : xv_ev ro (d + 2) xm_Mo_readsItem xb_Mo_readsItem_24 [some (.ref 167), some (.int (nI p)), some (.int (nI v)), none, none] [] (z, xv_mk M J) = xv_ev ro (d + 2) xm_Mo_readsItem xb_Mo_readsItem_67 [some (.ref 167), some (.int (nI p)), some (.int (nI v)), none, none] [] (z, xv_mk M J) := by
  have his := xq_isDigit ro d z M J h
  have h4 := h.2.2.2.1
  have z1 : ((1 : Int32) = 0) = False := eq_false (by decide)
  cases hc : tp_d b n q with
  | none =>
    rw [hc, if_neg (by decide)] at his
    conv => lhs; unfold xb_Mo_readsItem_24
    simp only [xr_all, xf_all, if_true, if_false, true_or, or_true, eq_self, ite_not, Bool.false_eq_true, ite_self, and_self, true_and, and_true, false_and, and_false, not_true_eq_false, not_false_eq_true, xj_Mo_readsItem, xb_Mo_readsItem_0, xb_Mo_readsItem_78, xb_Mo_readsItem_123, xb_Mo_readsItem_141, xb_Mo_readsItem_160, xb_Mo_readsItem_188, his]
  | some a =>
    rw [hc, if_pos (show (some a).isSome = true from rfl)] at his
    rcases hd with hd | hd
    · rw [hd] at hc; cases hc
    · have e2 : nI p + 2 = nI (p + 2) := by (simp (disch := omega) only [vz_all, if_true, if_false, true_or, or_true, eq_self, ite_not, Bool.false_eq_true, ite_self, and_self, true_and, and_true, false_and, and_false, not_true_eq_false, not_false_eq_true, false_or, or_false])
      have g2 : (nI (p + 2) ≤ nI q) = True := by (simp (disch := omega) only [vz_all, if_true, if_false, true_or, or_true, eq_self, ite_not, Bool.false_eq_true, ite_self, and_self, true_and, and_true, false_and, and_false, not_true_eq_false, not_false_eq_true, false_or, or_false])
      conv => lhs; unfold xb_Mo_readsItem_24
      simp only [xr_all, xf_all, if_true, if_false, true_or, or_true, eq_self, ite_not, Bool.false_eq_true, ite_self, and_self, true_and, and_true, false_and, and_false, not_true_eq_false, not_false_eq_true, xj_Mo_readsItem, xb_Mo_readsItem_0, xb_Mo_readsItem_78, xb_Mo_readsItem_123, xb_Mo_readsItem_141, xb_Mo_readsItem_160, xb_Mo_readsItem_188, his, z1, h4, e2, g2]
theorem xq_readsItem (ro : xv_Ro) (d : Nat) (z : Nat × Nat) (M : Nat → Nat → Int32) (J : Nat → Nat → Int64) {b : Nat → Nat} {n p L : Nat} (hL : L ≤ 12) (h37 : M 167 37 = nI L) (h : tp_M b n p M) : ∃ (W : Nat → Nat → Int32) (r : Int32), xv_evm ro (d + 2) 91 [.ref 167] (z, xv_mk M J) = some (some (.int r), (z, xv_mk W J)) ∧ oi_N b n L M W r (oi_1 b n p L) := by
  have hn := h.1
  have hpn := h.2.1
  have hp : p ≤ 260 := by omega
  have h4 := h.2.2.2.1
  have his := xq_isDigit ro d z M J h
  have z1 : ((1 : Int32) = 0) = False := eq_false (by decide)
  rw [xe_Mo_readsItem]
  unfold oi_1
  cases hd : tp_d b n p with
  | none =>
    dsimp only
    rw [hd, if_neg (by decide)] at his
    have hw := xq_wrongAt ro (d + 1) z M J 1 (nI p)
    refine ⟨xv_u2 M 167 10 (-1000 * 1 - nI p), 0, ?_, rfl, xu_eq, oi_g10 M _⟩
    simp only [xr_all, xf_all, if_true, if_false, true_or, or_true, eq_self, ite_not, Bool.false_eq_true, ite_self, and_self, true_and, and_true, false_and, and_false, not_true_eq_false, not_false_eq_true, xj_Mo_readsItem, xb_Mo_readsItem_0, xb_Mo_readsItem_78, xb_Mo_readsItem_123, xb_Mo_readsItem_141, xb_Mo_readsItem_160, xb_Mo_readsItem_188, h4, his, hw]
  | some a =>
    dsimp only
    rw [hd, if_pos (show (some a).isSome = true from rfl)] at his
    obtain ⟨c1, c2, c3⟩ := tp_d_s hd
    have hM1 := tp_Ms h c1
    have s1 := xl_ri24 ro d z J (p := p) (v := 0) M h hd (by omega) hp (by omega)
    rw [show 10 * 0 + a = a by omega, show nI 0 = (0 : Int32) from rfl] at s1
    have e371 : xv_u2 M 167 8 (nI (p + 1)) 167 37 = nI L := by rw [xu_ne2 (by omega)]; exact h37
    have start : ∀ R, xv_ev ro (d + 2) xm_Mo_readsItem xb_Mo_readsItem_24 [some (.ref 167), some (.int (nI p)), some (.int (nI a)), none, none] [] (z, xv_mk (xv_u2 M 167 8 (nI (p + 1))) J) = R → xv_ev ro (d + 2) xm_Mo_readsItem xb_Mo_readsItem_24 [some (.ref 167), some (.int (nI p)), some (.int 0), none, none] [] (z, xv_mk M J) = R := fun R hR => s1.trans hR
    cases he : tp_d b n (p + 1) with
    | none =>
      dsimp only
      have s2 := xl_ri24e ro d z J (p := p) (v := a) _ hM1 hp (Or.inl he)
      obtain ⟨W, r, a1, a2⟩ := xl_ri67 ro d z J (p := p) (v := a) hL hp (by omega) _ e371 hM1
      refine ⟨W, r, ?_, oi_N_t (oi_g8 M _) (by rw [xu_ne (by omega)]) a2⟩
      have := start _ (s2.trans a1)
      simp only [xr_all, xf_all, if_true, if_false, true_or, or_true, eq_self, ite_not, Bool.false_eq_true, ite_self, and_self, true_and, and_true, false_and, and_false, not_true_eq_false, not_false_eq_true, xj_Mo_readsItem, xb_Mo_readsItem_0, xb_Mo_readsItem_78, xb_Mo_readsItem_123, xb_Mo_readsItem_141, xb_Mo_readsItem_160, xb_Mo_readsItem_188, h4, his, z1]
      exact this
    | some c =>
      dsimp only
      obtain ⟨e1, e2, e3⟩ := tp_d_s he
      have hM2 := tp_Ms hM1 e1
      have s2 := xl_ri24 ro d z J (p := p) (v := a) _ hM1 he (by omega) hp c2
      have s3 := xl_ri24e ro d z J (p := p) (v := 10 * a + c) _ hM2 hp (Or.inr rfl)
      have e372 : xv_u2 (xv_u2 M 167 8 (nI (p + 1))) 167 8 (nI (p + 1 + 1)) 167 37 = nI L := by rw [xu_ne2 (by omega)]; exact e371
      obtain ⟨W, r, a1, a2⟩ := xl_ri67 ro d z J (p := p) (v := 10 * a + c) hL hp (by omega) _ e372 hM2
      refine ⟨W, r, ?_, oi_N_t (oi_gt (oi_g8 M _) (oi_g8 _ _)) (by rw [xu_ne (by omega), xu_ne (by omega)]) a2⟩
      have := start _ (s2.trans (s3.trans a1))
      simp only [xr_all, xf_all, if_true, if_false, true_or, or_true, eq_self, ite_not, Bool.false_eq_true, ite_self, and_self, true_and, and_true, false_and, and_false, not_true_eq_false, not_false_eq_true, xj_Mo_readsItem, xb_Mo_readsItem_0, xb_Mo_readsItem_78, xb_Mo_readsItem_123, xb_Mo_readsItem_141, xb_Mo_readsItem_160, xb_Mo_readsItem_188, h4, his, z1]
      exact this
