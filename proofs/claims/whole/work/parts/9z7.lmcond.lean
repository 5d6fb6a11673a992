/-! law: the model's conditions, step by step -/
noncomputable def l_C1 (ro : xv_Ro) (d : Nat) (z : Nat × Nat) (J : Nat → Nat → Int64) (M : Nat → Nat → Int32) : Option (Option Value × xv_S) := xv_ev ro (d + 6) xm_Mo_readsCondition xb_Mo_readsCondition_40 [some (.ref 167)] [] (z, xv_mk M J)
noncomputable def l_C2 (ro : xv_Ro) (d : Nat) (z : Nat × Nat) (J : Nat → Nat → Int64) (M : Nat → Nat → Int32) : Option (Option Value × xv_S) := xv_ev ro (d + 6) xm_Mo_readsCondition xb_Mo_readsCondition_92 [some (.ref 167)] [] (z, xv_mk M J)
theorem k_sO {ro : xv_Ro} {d : Nat} {z : Nat × Nat} {J : Nat → Nat → Int64} {M : Nat → Nat → Int32} {b : Nat → Nat} {n p c o : Nat} {W : List (Nat × Nat)} (h : l_s M b n p W c) (hp : p < n) (hb : (b p = 33 ∧ o = 10) ∨ (b p = 40 ∧ o = 13)) (ho : l_oc W < 6) : ∃ V, l_C1 ro d z J M = l_C1 ro d z J V ∧ l_s V b n (p + 1) ((o, 0) :: W) c ∧ V 174 = M 174 ∧ l_g M V := by
  obtain ⟨V, v1, v2, v3, v4⟩ := xq_opens ro (d + 4) z M J (o := o) h hp (by omega) ho
  have hh := xq_here ro (d + 5) z M J h.2.1
  have z1 : ((1 : Int32) = 0) = False := eq_false (by decide)
  refine ⟨V, ?_, v2, v3, v4⟩
  unfold l_C1
  conv => lhs; unfold xb_Mo_readsCondition_40
  rcases hb with ⟨hb, rfl⟩ | ⟨hb, rfl⟩
  · rw [show tp_c b n p = nI (b p) from if_pos hp, hb] at hh
    rw [show nI 10 = (10 : Int32) from rfl] at v1
    have g1 : (nI 33 = 33) = True := eq_true rfl
    simp only [xr_all, xf_all, if_true, if_false, true_or, or_true, eq_self, ite_not, Bool.false_eq_true, ite_self, and_self, true_and, and_true, false_and, and_false, not_true_eq_false, not_false_eq_true, xj_Mo_readsCondition, xb_Mo_readsCondition_0, xb_Mo_readsCondition_19, xb_Mo_readsCondition_58, xb_Mo_readsCondition_73, xb_Mo_readsCondition_75, xb_Mo_readsCondition_83, xb_Mo_readsCondition_92, xb_Mo_readsCondition_145, xb_Mo_readsCondition_152, xb_Mo_readsCondition_180, xb_Mo_readsCondition_194, xb_Mo_readsCondition_195, xb_Mo_readsCondition_213, xb_Mo_readsCondition_215, hh, g1, v1, z1]
  · rw [show tp_c b n p = nI (b p) from if_pos hp, hb] at hh
    rw [show nI 13 = (13 : Int32) from rfl] at v1
    have g1 : (nI 40 = 33) = False := eq_false (by decide)
    have g2 : (nI 40 = 40) = True := eq_true rfl
    simp only [xr_all, xf_all, if_true, if_false, true_or, or_true, eq_self, ite_not, Bool.false_eq_true, ite_self, and_self, true_and, and_true, false_and, and_false, not_true_eq_false, not_false_eq_true, xj_Mo_readsCondition, xb_Mo_readsCondition_0, xb_Mo_readsCondition_19, xb_Mo_readsCondition_58, xb_Mo_readsCondition_73, xb_Mo_readsCondition_75, xb_Mo_readsCondition_83, xb_Mo_readsCondition_92, xb_Mo_readsCondition_145, xb_Mo_readsCondition_152, xb_Mo_readsCondition_180, xb_Mo_readsCondition_194, xb_Mo_readsCondition_195, xb_Mo_readsCondition_213, xb_Mo_readsCondition_215, hh, g1, g2, v1, z1]
theorem k_sX {ro : xv_Ro} {d : Nat} {z : Nat × Nat} {J : Nat → Nat → Int64} {M : Nat → Nat → Int32} {b : Nat → Nat} {n p c : Nat} {W : List (Nat × Nat)} (h : l_s M b n p W c) (hp : p < n) (hb : b p = 33 ∨ b p = 40) (ho : l_oc W = 6) : l_B z J M (l_C1 ro d z J M) 5 p := by
  have hh := xq_here ro (d + 5) z M J h.2.1
  refine ⟨xv_u2 M 167 10 (-1000 * 5 - nI p), ?_, xu_eq, l_g10 M _⟩
  unfold l_C1
  conv => lhs; unfold xb_Mo_readsCondition_40
  rcases hb with hb | hb
  · have v1 := xq_opens_x ro (d + 4) z M J (o := 10) h ho
    rw [show tp_c b n p = nI (b p) from if_pos hp, hb] at hh
    rw [show nI 10 = (10 : Int32) from rfl] at v1
    have g1 : (nI 33 = 33) = True := eq_true rfl
    simp only [xr_all, xf_all, if_true, if_false, true_or, or_true, eq_self, ite_not, Bool.false_eq_true, ite_self, and_self, true_and, and_true, false_and, and_false, not_true_eq_false, not_false_eq_true, xj_Mo_readsCondition, xb_Mo_readsCondition_0, xb_Mo_readsCondition_19, xb_Mo_readsCondition_58, xb_Mo_readsCondition_73, xb_Mo_readsCondition_75, xb_Mo_readsCondition_83, xb_Mo_readsCondition_92, xb_Mo_readsCondition_145, xb_Mo_readsCondition_152, xb_Mo_readsCondition_180, xb_Mo_readsCondition_194, xb_Mo_readsCondition_195, xb_Mo_readsCondition_213, xb_Mo_readsCondition_215, hh, g1, v1]
  · have v1 := xq_opens_x ro (d + 4) z M J (o := 13) h ho
    rw [show tp_c b n p = nI (b p) from if_pos hp, hb] at hh
    rw [show nI 13 = (13 : Int32) from rfl] at v1
    have g1 : (nI 40 = 33) = False := eq_false (by decide)
    have g2 : (nI 40 = 40) = True := eq_true rfl
    simp only [xr_all, xf_all, if_true, if_false, true_or, or_true, eq_self, ite_not, Bool.false_eq_true, ite_self, and_self, true_and, and_true, false_and, and_false, not_true_eq_false, not_false_eq_true, xj_Mo_readsCondition, xb_Mo_readsCondition_0, xb_Mo_readsCondition_19, xb_Mo_readsCondition_58, xb_Mo_readsCondition_73, xb_Mo_readsCondition_75, xb_Mo_readsCondition_83, xb_Mo_readsCondition_92, xb_Mo_readsCondition_145, xb_Mo_readsCondition_152, xb_Mo_readsCondition_180, xb_Mo_readsCondition_194, xb_Mo_readsCondition_195, xb_Mo_readsCondition_213, xb_Mo_readsCondition_215, hh, g1, g2, v1]
theorem k_cmp {ro : xv_Ro} {d : Nat} {z : Nat × Nat} {J : Nat → Nat → Int64} {M V : Nat → Nat → Int32} {b : Nat → Nat} {n p c : Nat} {W : List (Nat × Nat)} (h : l_s M b n p W c) (hb : p < n → b p ≠ 33 ∧ b p ≠ 40) : (xv_evm ro (d + 5) 73 [.ref 167] (z, xv_mk M J) = some (some (.int 1), (z, xv_mk V J)) → l_C1 ro d z J M = l_C2 ro d z J V) ∧ (xv_evm ro (d + 5) 73 [.ref 167] (z, xv_mk M J) = some (some (.int 0), (z, xv_mk V J)) → l_C1 ro d z J M = some (some (.int 0), (z, xv_mk V J))) := by
  have hbb := fun hp : p < n => (h.2.1.2.2.2.2 p hp).1
  have hh := xq_here ro (d + 5) z M J h.2.1
  have g1 := l_ne_c (c := 33) hbb (by omega) (fun q => (hb q).1)
  have g2 := l_ne_c (c := 40) hbb (by omega) (fun q => (hb q).2)
  rw [show nI 33 = (33 : Int32) from rfl] at g1
  rw [show nI 40 = (40 : Int32) from rfl] at g2
  have z1 : ((1 : Int32) = 0) = False := eq_false (by decide)
  refine ⟨fun hr => ?_, fun hr => ?_⟩
  · unfold l_C1 l_C2
    conv => lhs; unfold xb_Mo_readsCondition_40
    simp only [xr_all, xf_all, if_true, if_false, true_or, or_true, eq_self, ite_not, Bool.false_eq_true, ite_self, and_self, true_and, and_true, false_and, and_false, not_true_eq_false, not_false_eq_true, xj_Mo_readsCondition, xb_Mo_readsCondition_0, xb_Mo_readsCondition_19, xb_Mo_readsCondition_58, xb_Mo_readsCondition_73, xb_Mo_readsCondition_75, xb_Mo_readsCondition_83, xb_Mo_readsCondition_145, xb_Mo_readsCondition_152, xb_Mo_readsCondition_180, xb_Mo_readsCondition_194, xb_Mo_readsCondition_195, xb_Mo_readsCondition_213, xb_Mo_readsCondition_215, hh, g1, g2, hr, z1]
  · unfold l_C1
    conv => lhs; unfold xb_Mo_readsCondition_40
    simp only [xr_all, xf_all, if_true, if_false, true_or, or_true, eq_self, ite_not, Bool.false_eq_true, ite_self, and_self, true_and, and_true, false_and, and_false, not_true_eq_false, not_false_eq_true, xj_Mo_readsCondition, xb_Mo_readsCondition_0, xb_Mo_readsCondition_19, xb_Mo_readsCondition_58, xb_Mo_readsCondition_73, xb_Mo_readsCondition_75, xb_Mo_readsCondition_83, xb_Mo_readsCondition_145, xb_Mo_readsCondition_152, xb_Mo_readsCondition_180, xb_Mo_readsCondition_194, xb_Mo_readsCondition_195, xb_Mo_readsCondition_213, xb_Mo_readsCondition_215, hh, g1, g2, hr]
theorem k_ca {ro : xv_Ro} {d : Nat} {z : Nat × Nat} {J : Nat → Nat → Int64} {M V : Nat → Nat → Int32} (hr : xv_evm ro (d + 4) 69 [.ref 167] (z, xv_mk M J) = some (some (.int 0), (z, xv_mk V J))) : xv_evm ro (d + 5) 73 [.ref 167] (z, xv_mk M J) = some (some (.int 0), (z, xv_mk V J)) := by
  rw [xe_Mo_readsCompared]
  simp only [xr_all, xf_all, if_true, if_false, true_or, or_true, eq_self, ite_not, Bool.false_eq_true, ite_self, and_self, true_and, and_true, false_and, and_false, not_true_eq_false, not_false_eq_true, xj_Mo_readsCompared, xb_Mo_readsCompared_0, xb_Mo_readsCompared_9, xb_Mo_readsCompared_23, xb_Mo_readsCompared_37, xb_Mo_readsCompared_51, xb_Mo_readsCompared_52, xb_Mo_readsCompared_68, xb_Mo_readsCompared_87, hr]
theorem k_cb {ro : xv_Ro} {d : Nat} {z : Nat × Nat} {J : Nat → Nat → Int64} {M V : Nat → Nat → Int32} {b : Nat → Nat} {n p c : Nat} {W : List (Nat × Nat)} (hr : xv_evm ro (d + 4) 69 [.ref 167] (z, xv_mk M J) = some (some (.int 1), (z, xv_mk V J))) (h : l_s V b n p W c) (hb : p < n → b p ≠ 60 ∧ b p ≠ 62 ∧ b p ≠ 61) : xv_evm ro (d + 5) 73 [.ref 167] (z, xv_mk M J) = some (some (.int 0), (z, xv_mk (xv_u2 V 167 10 (-1000 * 1 - nI p)) J)) := by
  have hbb := fun hp : p < n => (h.2.1.2.2.2.2 p hp).1
  have hh := xq_here ro (d + 4) z V J h.2.1
  have g1 := l_ne_c (c := 60) hbb (by omega) (fun q => (hb q).1)
  have g2 := l_ne_c (c := 62) hbb (by omega) (fun q => (hb q).2.1)
  have g3 := l_ne_c (c := 61) hbb (by omega) (fun q => (hb q).2.2)
  rw [show nI 60 = (60 : Int32) from rfl] at g1
  rw [show nI 62 = (62 : Int32) from rfl] at g2
  rw [show nI 61 = (61 : Int32) from rfl] at g3
  have z1 : ((1 : Int32) = 0) = False := eq_false (by decide)
  have hw := xq_wrongAt ro (d + 4) z V J 1 (nI p)
  rw [xe_Mo_readsCompared]
  simp only [xr_all, xf_all, if_true, if_false, true_or, or_true, eq_self, ite_not, Bool.false_eq_true, ite_self, and_self, true_and, and_true, false_and, and_false, not_true_eq_false, not_false_eq_true, xj_Mo_readsCompared, xb_Mo_readsCompared_0, xb_Mo_readsCompared_9, xb_Mo_readsCompared_23, xb_Mo_readsCompared_37, xb_Mo_readsCompared_51, xb_Mo_readsCompared_52, xb_Mo_readsCompared_68, xb_Mo_readsCompared_87, hr, z1, hh, g1, g2, g3, h.2.1.2.2.2.1, hw]
/-- a comparison's sign has been read -/
theorem k_cc {ro : xv_Ro} {d : Nat} {z : Nat × Nat} {J : Nat → Nat → Int64} {M V : Nat → Nat → Int32} {b : Nat → Nat} {n p c w : Nat} {W : List (Nat × Nat)} (hr : xv_evm ro (d + 4) 69 [.ref 167] (z, xv_mk M J) = some (some (.int 1), (z, xv_mk V J))) (h : l_s V b n p W c) (hp : p < n) (hw : (b p = 60 ∧ w = 7) ∨ (b p = 62 ∧ w = 8) ∨ (b p = 61 ∧ w = 9)) : xv_evm ro (d + 5) 73 [.ref 167] (z, xv_mk M J) = xv_ev ro (d + 5) xm_Mo_readsCompared xb_Mo_readsCompared_68 [some (.ref 167), some (.int (nI w))] [] (z, xv_mk V J) := by
  have hh := xq_here ro (d + 4) z V J h.2.1
  rw [show tp_c b n p = nI (b p) from if_pos hp] at hh
  have z1 : ((1 : Int32) = 0) = False := eq_false (by decide)
  rw [xe_Mo_readsCompared]
  rcases hw with ⟨hb, rfl⟩ | ⟨hb, rfl⟩ | ⟨hb, rfl⟩
  · rw [hb] at hh
    have g1 : (nI 60 = 60) = True := eq_true rfl
    have m : ((7 : Int32) = -1) = False := eq_false (by decide)
    simp only [xr_all, xf_all, if_true, if_false, true_or, or_true, eq_self, ite_not, Bool.false_eq_true, ite_self, and_self, true_and, and_true, false_and, and_false, not_true_eq_false, not_false_eq_true, xj_Mo_readsCompared, xb_Mo_readsCompared_0, xb_Mo_readsCompared_9, xb_Mo_readsCompared_23, xb_Mo_readsCompared_37, xb_Mo_readsCompared_51, xb_Mo_readsCompared_52, xb_Mo_readsCompared_87, hr, z1, hh, g1, m]
    rfl
  · rw [hb] at hh
    have g1 : (nI 62 = 60) = False := eq_false (by decide)
    have g2 : (nI 62 = 62) = True := eq_true rfl
    have m : ((8 : Int32) = -1) = False := eq_false (by decide)
    simp only [xr_all, xf_all, if_true, if_false, true_or, or_true, eq_self, ite_not, Bool.false_eq_true, ite_self, and_self, true_and, and_true, false_and, and_false, not_true_eq_false, not_false_eq_true, xj_Mo_readsCompared, xb_Mo_readsCompared_0, xb_Mo_readsCompared_9, xb_Mo_readsCompared_23, xb_Mo_readsCompared_37, xb_Mo_readsCompared_51, xb_Mo_readsCompared_52, xb_Mo_readsCompared_87, hr, z1, hh, g1, g2, m]
    rfl
  · rw [hb] at hh
    have g1 : (nI 61 = 60) = False := eq_false (by decide)
    have g2 : (nI 61 = 62) = False := eq_false (by decide)
    have g3 : (nI 61 = 61) = True := eq_true rfl
    have m : ((9 : Int32) = -1) = False := eq_false (by decide)
    simp only [xr_all, xf_all, if_true, if_false, true_or, or_true, eq_self, ite_not, Bool.false_eq_true, ite_self, and_self, true_and, and_true, false_and, and_false, not_true_eq_false, not_false_eq_true, xj_Mo_readsCompared, xb_Mo_readsCompared_0, xb_Mo_readsCompared_9, xb_Mo_readsCompared_23, xb_Mo_readsCompared_37, xb_Mo_readsCompared_51, xb_Mo_readsCompared_52, xb_Mo_readsCompared_87, hr, z1, hh, g1, g2, g3, m]
    rfl
theorem k_cd {ro : xv_Ro} {d : Nat} {z : Nat × Nat} {J : Nat → Nat → Int64} {V V2 : Nat → Nat → Int32} {b : Nat → Nat} {n p c w : Nat} {W : List (Nat × Nat)} (h : l_s V b n p W c) (hp : p < n) : l_s (xv_u2 V 167 8 (nI (p + 1))) b n (p + 1) W c ∧ l_g V (xv_u2 V 167 8 (nI (p + 1))) ∧ (xv_evm ro (d + 4) 69 [.ref 167] (z, xv_mk (xv_u2 V 167 8 (nI (p + 1))) J) = some (some (.int 0), (z, xv_mk V2 J)) → xv_ev ro (d + 5) xm_Mo_readsCompared xb_Mo_readsCompared_68 [some (.ref 167), some (.int (nI w))] [] (z, xv_mk V J) = some (some (.int 0), (z, xv_mk V2 J))) ∧ (∀ V3 V4, xv_evm ro (d + 4) 69 [.ref 167] (z, xv_mk (xv_u2 V 167 8 (nI (p + 1))) J) = some (some (.int 1), (z, xv_mk V2 J)) → xv_evm ro (d + 4) 61 [.ref 167, .int (nI w), .int 0] (z, xv_mk V2 J) = some (none, (z, xv_mk V3 J)) → xv_evm ro (d + 4) 70 [.ref 167] (z, xv_mk V3 J) = some (none, (z, xv_mk V4 J)) → xv_ev ro (d + 5) xm_Mo_readsCompared xb_Mo_readsCompared_68 [some (.ref 167), some (.int (nI w))] [] (z, xv_mk V J) = some (some (.int 1), (z, xv_mk V4 J))) := by
  obtain ⟨h0, h1, h2, h3, h4, h5, h6, h7⟩ := h
  have hp8 := h1.2.2.2.1
  have z1 : ((1 : Int32) = 0) = False := eq_false (by decide)
  refine ⟨⟨h0, tp_Ms h1 hp, by (repeat (first | rw [xu_ne2 (by omega)] | rw [xu_ne (by omega)] | rw [xu_eq])); exact h2, by (repeat (first | rw [xu_ne2 (by omega)] | rw [xu_ne (by omega)] | rw [xu_eq])); exact h3, by (repeat (first | rw [xu_ne2 (by omega)] | rw [xu_ne (by omega)] | rw [xu_eq])); exact h4, l_W_c W c c h5 (Nat.le_refl _) (fun i hi => by (repeat (first | rw [xu_ne2 (by omega)] | rw [xu_ne (by omega)] | rw [xu_eq]))) (fun i hi => by (repeat (first | rw [xu_ne2 (by omega)] | rw [xu_ne (by omega)] | rw [xu_eq]))), by omega, by omega⟩, ⟨fun a q1 q2 q3 => by (repeat (first | rw [xu_ne2 (by omega)] | rw [xu_ne (by omega)] | rw [xu_eq])), fun j q1 q2 q3 q4 q5 q6 => by (repeat (first | rw [xu_ne2 (by omega)] | rw [xu_ne (by omega)] | rw [xu_eq]))⟩, fun hr => ?_, fun V3 V4 hr hn he => ?_⟩
  · conv => lhs; unfold xb_Mo_readsCompared_68
    simp only [xr_all, xf_all, if_true, if_false, true_or, or_true, eq_self, ite_not, Bool.false_eq_true, ite_self, and_self, true_and, and_true, false_and, and_false, not_true_eq_false, not_false_eq_true, xj_Mo_readsCompared, xb_Mo_readsCompared_0, xb_Mo_readsCompared_9, xb_Mo_readsCompared_23, xb_Mo_readsCompared_37, xb_Mo_readsCompared_51, xb_Mo_readsCompared_52, xb_Mo_readsCompared_87, hp8, nI_1, hr]
  · conv => lhs; unfold xb_Mo_readsCompared_68
    simp only [xr_all, xf_all, if_true, if_false, true_or, or_true, eq_self, ite_not, Bool.false_eq_true, ite_self, and_self, true_and, and_true, false_and, and_false, not_true_eq_false, not_false_eq_true, xj_Mo_readsCompared, xb_Mo_readsCompared_0, xb_Mo_readsCompared_9, xb_Mo_readsCompared_23, xb_Mo_readsCompared_37, xb_Mo_readsCompared_51, xb_Mo_readsCompared_52, xb_Mo_readsCompared_87, hp8, nI_1, hr, z1, hn, he]
theorem k_sJ {ro : xv_Ro} {d : Nat} {z : Nat × Nat} {J : Nat → Nat → Int64} {M : Nat → Nat → Int32} {b : Nat → Nat} {n p c c0 c1 o : Nat} {al : Bool} {W W0 : List (Nat × Nat)} {T T0 : List (l_D × Nat)} {D0 acc : l_D} (h : l_s M b n p W0 c1) (hp : p < n) (hb : (b p = 38 ∧ o = 11 ∧ al = false) ∨ (b p = 124 ∧ o = 12 ∧ al = true)) (hT : l_CT (M 174) W0 T0 c0) (hD : l_mS (M 174) c0 c1 D0) (hL : l_Ln al W0 T0 D0 c0 = some (W, T, acc, c)) : ∃ V, l_C2 ro d z J M = l_C1 ro d z J V ∧ l_s V b n (p + 1) ((o, c1) :: W) (c1 + 1) ∧ l_CT (V 174) ((o, c1) :: W) ((acc, c) :: T) (c1 + 1) ∧ (∀ j, j < c → V 174 j = M 174 j) ∧ l_g M V ∧ c < c1 := by
  obtain ⟨U, u1, u2, u3, u4, u5, u6, u7⟩ := xq_lands ro (d + 4) z J al rfl W0 T0 D0 c0 W T acc c M h hT hD hL
  obtain ⟨V, v1, v2, v3, v4, v5⟩ := xq_jumps ro (d + 4) z U J (o := o) u2 hp (by omega) u3 u4
  have hh := xq_here ro (d + 5) z M J h.2.1
  have hh2 := xq_here ro (d + 5) z U J u2.2.1
  rw [show tp_c b n p = nI (b p) from if_pos hp] at hh hh2
  refine ⟨V, ?_, v2, v3, fun j hj => by rw [v4 j (by have := u4.1; omega), u6 j hj], l_gt u7 v5, u4.1⟩
  unfold l_C1 l_C2
  conv => lhs; unfold xb_Mo_readsCondition_92
  rcases hb with ⟨hb, rfl, rfl⟩ | ⟨hb, rfl, rfl⟩
  · rw [hb] at hh hh2
    rw [if_neg (by decide)] at u1
    rw [show nI 11 = (11 : Int32) from rfl] at v1
    have g1 : (nI 38 = 41) = False := eq_false (by decide)
    have g2 : (nI 38 = 38) = True := eq_true rfl
    have g3 : (nI 38 = 124) = False := eq_false (by decide)
    simp only [xr_all, xf_all, if_true, if_false, true_or, or_true, eq_self, ite_not, Bool.false_eq_true, ite_self, and_self, true_and, and_true, false_and, and_false, not_true_eq_false, not_false_eq_true, xj_Mo_readsCondition, xb_Mo_readsCondition_0, xb_Mo_readsCondition_19, xb_Mo_readsCondition_58, xb_Mo_readsCondition_73, xb_Mo_readsCondition_75, xb_Mo_readsCondition_83, xb_Mo_readsCondition_145, xb_Mo_readsCondition_152, xb_Mo_readsCondition_180, xb_Mo_readsCondition_194, xb_Mo_readsCondition_195, xb_Mo_readsCondition_213, xb_Mo_readsCondition_215, hh, g1, g2, g3, u1, hh2, v1]
  · rw [hb] at hh hh2
    rw [if_pos rfl] at u1
    rw [show nI 12 = (12 : Int32) from rfl] at v1
    have g1 : (nI 124 = 41) = False := eq_false (by decide)
    have g2 : (nI 124 = 38) = False := eq_false (by decide)
    have g3 : (nI 124 = 124) = True := eq_true rfl
    simp only [xr_all, xf_all, if_true, if_false, true_or, or_true, eq_self, ite_not, Bool.false_eq_true, ite_self, and_self, true_and, and_true, false_and, and_false, not_true_eq_false, not_false_eq_true, xj_Mo_readsCondition, xb_Mo_readsCondition_0, xb_Mo_readsCondition_19, xb_Mo_readsCondition_58, xb_Mo_readsCondition_73, xb_Mo_readsCondition_75, xb_Mo_readsCondition_83, xb_Mo_readsCondition_145, xb_Mo_readsCondition_152, xb_Mo_readsCondition_180, xb_Mo_readsCondition_194, xb_Mo_readsCondition_195, xb_Mo_readsCondition_213, xb_Mo_readsCondition_215, hh, g1, g2, g3, u1, hh2, v1]
theorem k_sY {ro : xv_Ro} {d : Nat} {z : Nat × Nat} {J : Nat → Nat → Int64} {M : Nat → Nat → Int32} {b : Nat → Nat} {n p c : Nat} {W : List (Nat × Nat)} (h : l_s M b n p W c) (hb : p < n → b p ≠ 41 ∧ b p ≠ 38 ∧ b p ≠ 124) : l_B z J M (l_C2 ro d z J M) 1 p := by
  have hbb := fun hp : p < n => (h.2.1.2.2.2.2 p hp).1
  have hh := xq_here ro (d + 5) z M J h.2.1
  have g1 := l_ne_c (c := 41) hbb (by omega) (fun q => (hb q).1)
  have g2 := l_ne_c (c := 38) hbb (by omega) (fun q => (hb q).2.1)
  have g3 := l_ne_c (c := 124) hbb (by omega) (fun q => (hb q).2.2)
  rw [show nI 41 = (41 : Int32) from rfl] at g1
  rw [show nI 38 = (38 : Int32) from rfl] at g2
  rw [show nI 124 = (124 : Int32) from rfl] at g3
  have hw := xq_wrongAt ro (d + 5) z M J 1 (nI p)
  refine ⟨xv_u2 M 167 10 (-1000 * 1 - nI p), ?_, xu_eq, l_g10 M _⟩
  unfold l_C2
  conv => lhs; unfold xb_Mo_readsCondition_92
  simp only [xr_all, xf_all, if_true, if_false, true_or, or_true, eq_self, ite_not, Bool.false_eq_true, ite_self, and_self, true_and, and_true, false_and, and_false, not_true_eq_false, not_false_eq_true, xj_Mo_readsCondition, xb_Mo_readsCondition_0, xb_Mo_readsCondition_19, xb_Mo_readsCondition_58, xb_Mo_readsCondition_73, xb_Mo_readsCondition_75, xb_Mo_readsCondition_83, xb_Mo_readsCondition_145, xb_Mo_readsCondition_152, xb_Mo_readsCondition_180, xb_Mo_readsCondition_194, xb_Mo_readsCondition_195, xb_Mo_readsCondition_213, xb_Mo_readsCondition_215, hh, g1, g2, g3, h.2.1.2.2.2.1, hw]
theorem k_sC {ro : xv_Ro} {d : Nat} {z : Nat × Nat} {J : Nat → Nat → Int64} {M : Nat → Nat → Int32} {b : Nat → Nat} {n p c c0 c1 : Nat} {W W0 : List (Nat × Nat)} {T T0 : List (l_D × Nat)} {D0 D : l_D} (h : l_s M b n p W0 c1) (hp : p < n) (hb : b p = 41) (hT : l_CT (M 174) W0 T0 c0) (hD : l_mS (M 174) c0 c1 D0) (hL : l_Ln true W0 T0 D0 c0 = some ((13, 0) :: W, T, D, c)) : (W ≠ [] → ∃ V c', l_C2 ro d z J M = l_C2 ro d z J V ∧ l_s V b n (p + 1) (l_E W D).1 c' ∧ l_mS (V 174) c c' (l_E W D).2 ∧ (∀ j, j < c → V 174 j = M 174 j) ∧ l_g M V) ∧ (W = [] → ∃ V, l_C2 ro d z J M = some (some (.int 1), (z, xv_mk V J)) ∧ l_s V b n (p + 1) [] c1 ∧ l_mS (V 174) c c1 D ∧ (∀ j, j < c → V 174 j = M 174 j) ∧ l_g M V) := by
  obtain ⟨U, u1, u2, u3, u4, u5, u6, u7⟩ := xq_lands ro (d + 4) z J true rfl W0 T0 D0 c0 ((13, 0) :: W) T D c M h hT hD hL
  rw [if_pos rfl] at u1
  have hh := xq_here ro (d + 5) z M J h.2.1
  rw [show tp_c b n p = nI (b p) from if_pos hp, hb] at hh
  have g1 : (nI 41 = 41) = True := eq_true rfl
  obtain ⟨h0, h1, h2, h3, h4, h5, h6, h7⟩ := u2
  have hpn := h1.2.1
  have h4' : U 167 14 = nI (W.length + 1) := h4
  have h2' : U 167 12 = nI (l_oc W + 1) := by
    have : U 167 12 = nI ((if 13 = 10 ∨ 13 = 13 ∨ 13 = 14 then 1 else 0) + l_oc W) := h2
    rw [if_pos (by omega), Nat.add_comm] at this; exact this
  have h6' : c1 + (1 + l_pc W) + b 1000 ≤ p := by
    have : c1 + ((if 13 = 11 ∨ 13 = 12 then 0 else 1) + l_pc W) + b 1000 ≤ p := h6
    rw [if_neg (by omega)] at this; exact this
  have h7' : W.length + 1 ≤ p := h7
  obtain ⟨w1, w2, w3⟩ := h5
  have w3' : l_W (U 174) (U 175) W c1 := by
    rcases w3 with ⟨q, -⟩ | ⟨-, -, q2⟩
    · omega
    · exact q2
  have r1 : ∀ y, xv_u2 U 167 14 y 167 12 = nI (l_oc W + 1) := fun y => by rw [xu_ne2 (by omega)]; exact h2'
  have r2 : ∀ y y2, xv_u2 (xv_u2 U 167 14 y) 167 12 y2 167 8 = nI p := fun y y2 => by rw [xu_ne2 (by omega), xu_ne2 (by omega)]; exact h1.2.2.2.1
  have r3 : ∀ y y2 y3, xv_u2 (xv_u2 (xv_u2 U 167 14 y) 167 12 y2) 167 8 y3 167 14 = y := fun y y2 y3 => by rw [xu_ne2 (by omega), xu_ne2 (by omega), xu_eq]
  have hq : l_s (xv_u2 (xv_u2 (xv_u2 U 167 14 (nI W.length)) 167 12 (nI (l_oc W))) 167 8 (nI (p + 1))) b n (p + 1) W c1 := ⟨h0, tp_Ms (tp_Mc h1 (by (repeat (first | rw [xu_ne2 (by omega)] | rw [xu_ne (by omega)] | rw [xu_eq]))) (by (repeat (first | rw [xu_ne2 (by omega)] | rw [xu_ne (by omega)] | rw [xu_eq]))) (by (repeat (first | rw [xu_ne2 (by omega)] | rw [xu_ne (by omega)] | rw [xu_eq])))) hp, by (repeat (first | rw [xu_ne2 (by omega)] | rw [xu_ne (by omega)] | rw [xu_eq])), by (repeat (first | rw [xu_ne2 (by omega)] | rw [xu_ne (by omega)] | rw [xu_eq])); exact h3, by (repeat (first | rw [xu_ne2 (by omega)] | rw [xu_ne (by omega)] | rw [xu_eq])), l_W_c W c1 c1 w3' (Nat.le_refl _) (fun i hi => by (repeat (first | rw [xu_ne2 (by omega)] | rw [xu_ne (by omega)] | rw [xu_eq]))) (fun i hi => by (repeat (first | rw [xu_ne2 (by omega)] | rw [xu_ne (by omega)] | rw [xu_eq]))), by omega, by omega⟩
  have hK : ∀ j, xv_u2 (xv_u2 (xv_u2 U 167 14 (nI W.length)) 167 12 (nI (l_oc W))) 167 8 (nI (p + 1)) 174 j = U 174 j := fun j => by (repeat (first | rw [xu_ne2 (by omega)] | rw [xu_ne (by omega)] | rw [xu_eq]))
  have hg : l_g U (xv_u2 (xv_u2 (xv_u2 U 167 14 (nI W.length)) 167 12 (nI (l_oc W))) 167 8 (nI (p + 1))) := ⟨fun a q1 q2 q3 => by (repeat (first | rw [xu_ne2 (by omega)] | rw [xu_ne (by omega)] | rw [xu_eq])), fun j q1 q2 q3 q4 q5 q6 => by (repeat (first | rw [xu_ne2 (by omega)] | rw [xu_ne (by omega)] | rw [xu_eq]))⟩
  have hDm := l_mS_c u4 (fun i _ _ => hK i)
  refine ⟨fun hne => ?_, fun he => ?_⟩
  · obtain ⟨V, c', v1, v2, v3, v4, v5, v6⟩ := xq_ends ro (d + 4) z J W D c1 _ hq hDm
    have hl : 1 ≤ W.length := by
      cases W with
      | nil => exact absurd rfl hne
      | cons a W => exact Nat.succ_le_succ (Nat.zero_le _)
    have gl : (nI W.length = 0) = False := by (simp (disch := omega) only [vz_all, if_true, if_false, true_or, or_true, eq_self, ite_not, Bool.false_eq_true, ite_self, and_self, true_and, and_true, false_and, and_false, not_true_eq_false, not_false_eq_true, false_or, or_false])
    refine ⟨V, c', ?_, v2, v3, fun j hj => by rw [v5 j (by have := u4.1; omega), hK, u6 j hj], l_gt u7 (l_gt hg v6)⟩
    unfold l_C2
    conv => lhs; unfold xb_Mo_readsCondition_92
    simp only [xr_all, xf_all, if_true, if_false, true_or, or_true, eq_self, ite_not, Bool.false_eq_true, ite_self, and_self, true_and, and_true, false_and, and_false, not_true_eq_false, not_false_eq_true, xj_Mo_readsCondition, xb_Mo_readsCondition_0, xb_Mo_readsCondition_19, xb_Mo_readsCondition_58, xb_Mo_readsCondition_73, xb_Mo_readsCondition_75, xb_Mo_readsCondition_83, xb_Mo_readsCondition_145, xb_Mo_readsCondition_152, xb_Mo_readsCondition_180, xb_Mo_readsCondition_194, xb_Mo_readsCondition_195, xb_Mo_readsCondition_213, xb_Mo_readsCondition_215, hh, g1, u1, h4', nI_pred, r1, r2, r3, nI_1, gl, v1]
  · subst he
    refine ⟨_, ?_, hq, hDm, fun j hj => by rw [hK, u6 j hj], l_gt u7 hg⟩
    have h4'' : U 167 14 = nI (0 + 1) := h4'
    have g0 : (nI 0 = 0) = True := eq_true rfl
    unfold l_C2
    conv => lhs; unfold xb_Mo_readsCondition_92
    simp only [xr_all, xf_all, if_true, if_false, true_or, or_true, eq_self, ite_not, Bool.false_eq_true, ite_self, and_self, true_and, and_true, false_and, and_false, not_true_eq_false, not_false_eq_true, xj_Mo_readsCondition, xb_Mo_readsCondition_0, xb_Mo_readsCondition_19, xb_Mo_readsCondition_58, xb_Mo_readsCondition_73, xb_Mo_readsCondition_75, xb_Mo_readsCondition_83, xb_Mo_readsCondition_145, xb_Mo_readsCondition_152, xb_Mo_readsCondition_180, xb_Mo_readsCondition_194, xb_Mo_readsCondition_195, xb_Mo_readsCondition_213, xb_Mo_readsCondition_215, hh, g1, u1, h4'', nI_pred, r1, r2, r3, nI_1, g0]
    rfl
