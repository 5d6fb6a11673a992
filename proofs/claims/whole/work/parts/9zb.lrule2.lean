/-! law: a whole rule, in both -/
theorem l_x_end (ro : xv_Ro) (e : Nat) (z : Nat × Nat) (J : Nat → Nat → Int64) (W2 : Nat → Nat → Int32) (h : (W2 1 4 = 0) = False) (k s t : Int32) : ∃ W3, xv_evm ro (e + 8) 255 [.ref 1, .int 41] (z, xv_mk W2 J) = some (none, (z, xv_mk W2 J)) ∧ xv_evm ro (e + 8) 208 [.ref 13, .int k, .int s, .int t] (z, xv_mk W2 J) = some (none, (z, xv_mk W3 J)) ∧ xv_evm ro (e + 8) 254 [.ref 1, .int 59] (z, xv_mk W3 J) = some (some (.int 0), (z, xv_mk W3 J)) ∧ l_rf W2 W3 ∧ W3 1 4 = W2 1 4 := by
  obtain ⟨W3, v1, v2, v3⟩ := xq_addRule_any ro (e + 8) z W2 J k s t
  have h3 : (W3 1 4 = 0) = False := by rw [v3]; exact h
  exact ⟨W3, xq_expect_x ro (e + 6) z W2 J (c := 41) h (by omega), v1, xq_take_x ro (e + 7) z W3 J (c := 59) h3 (by omega), v2, by rw [v3]⟩
theorem l_rm2 {ro : xv_Ro} {b : Nat → Nat} {n p r c : Nat} {d : Nat} {z : Nat × Nat} {J : Nat → Nat → Int64} {V : Nat → Nat → Int32} (x1 : Option Value) (h : l_s V b n p [] c) (h15 : V 167 15 = nI r) (hr : r < 16) : l_s (xv_u2 V 178 r (nI c)) b n p [] c ∧ (∀ V3, xv_evm ro (d + 6) 74 [.ref 167] (z, xv_mk (xv_u2 V 178 r (nI c)) J) = some (some (.int 0), (z, xv_mk V3 J)) → xv_ev ro (d + 7) xm_Mo_readsRule xb_Mo_readsRule_116 [some (.ref 167), x1] [] (z, xv_mk V J) = some (some (.int 0), (z, xv_mk V3 J))) ∧ (∀ V3 c2, xv_evm ro (d + 6) 74 [.ref 167] (z, xv_mk (xv_u2 V 178 r (nI c)) J) = some (some (.int 1), (z, xv_mk V3 J)) → V3 167 13 = nI c2 → V3 167 15 = nI r → xv_ev ro (d + 7) xm_Mo_readsRule xb_Mo_readsRule_116 [some (.ref 167), x1] [] (z, xv_mk V J) = some (some (.int 1), (z, xv_mk (xv_u2 (xv_u2 V3 179 r (nI c2)) 167 15 (nI (r + 1))) J))) := by
  have h13 := h.2.2.2.1
  have ir : xv_inB (nI r) 16 = true := by (simp (disch := omega) only [vz_all, if_true, if_false, true_or, or_true, eq_self, ite_not, Bool.false_eq_true, ite_self, and_self, true_and, and_true, false_and, and_false, not_true_eq_false, not_false_eq_true, false_or, or_false])
  have z1 : ((1 : Int32) = 0) = False := eq_false (by decide)
  refine ⟨l_sc h (by (repeat (first | rw [xu_ne2 (by omega)] | rw [xu_ne (by omega)] | rw [xu_eq]))) (by (repeat (first | rw [xu_ne2 (by omega)] | rw [xu_ne (by omega)] | rw [xu_eq]))) (by (repeat (first | rw [xu_ne2 (by omega)] | rw [xu_ne (by omega)] | rw [xu_eq]))) (fun j _ _ => by (repeat (first | rw [xu_ne2 (by omega)] | rw [xu_ne (by omega)] | rw [xu_eq]))), fun V3 hV => ?_, fun V3 c2 hV q1 q2 => ?_⟩
  · conv => lhs; unfold xb_Mo_readsRule_116
    simp only [xr_all, xf_all, if_true, if_false, true_or, or_true, eq_self, ite_not, Bool.false_eq_true, ite_self, and_self, true_and, and_true, false_and, and_false, not_true_eq_false, not_false_eq_true, xj_Mo_readsRule, xb_Mo_readsRule_0, xb_Mo_readsRule_45, xb_Mo_readsRule_64, xb_Mo_readsRule_138, h15, ir, nI_clamp (show r < 2 ^ 31 by omega), h13, hV]
  · have e1 : ∀ y, xv_u2 V3 179 r y 167 15 = nI r := fun y => by rw [← q2]; (repeat (first | rw [xu_ne2 (by omega)] | rw [xu_ne (by omega)] | rw [xu_eq]))
    conv => lhs; unfold xb_Mo_readsRule_116
    simp only [xr_all, xf_all, if_true, if_false, true_or, or_true, eq_self, ite_not, Bool.false_eq_true, ite_self, and_self, true_and, and_true, false_and, and_false, not_true_eq_false, not_false_eq_true, xj_Mo_readsRule, xb_Mo_readsRule_0, xb_Mo_readsRule_45, xb_Mo_readsRule_64, xb_Mo_readsRule_138, h15, ir, nI_clamp (show r < 2 ^ 31 by omega), h13, hV, z1, q1, q2, e1, nI_1]
def l_RC (ro : xv_Ro) (e : Nat) (z : Nat × Nat) (J : Nat → Nat → Int64) (b : Nat → Nat) (n p i s : Nat) (x4 x5 x6 : Option Value) (I W : Nat → Nat → Int32) : l_Q → Prop
  | .inl (f, q) => l_RH ro e z J i 1 x4 x5 x6 I = some (none, (z, xv_mk W J)) ∧ 1 ≤ f ∧ f ≤ 9 ∧ q ≤ 260 ∧ W 1 4 = -1000 * nI f - nI q
  | .inr (k, E, D, p') => i < 16 ∧ vl_ok k ∧ p < p' ∧ tp_C b n p' W ∧ ∃ (s1 s2 : Nat) (y4 y5 y6 : Option Value), W 13 7 = nI s2 ∧ W 13 8 = nI (i + 1) ∧ s2 ≤ p' ∧ W 16 i = nI k ∧ W 17 i = nI s ∧ W 18 i = nI s1 ∧ W 19 i = nI s2 ∧ l_cS (W 14) (W 15) s s1 32 E ∧ l_cS (W 14) (W 15) s1 s2 32 D ∧ (∀ x, x < s → W 14 x = I 14 x ∧ W 15 x = I 15 x) ∧ (∀ a j, 16 ≤ a → a ≤ 19 → j < i → W a j = I a j) ∧ ∀ more U, xv_evm ro (e + 8) 254 [.ref 1, .int 59] (z, xv_mk W J) = some (some (.int more), (z, xv_mk U J)) → l_RH ro e z J i 1 x4 x5 x6 I = l_RH ro e z J (i + 1) more y4 y5 y6 U
theorem l_rule {ro : xv_Ro} {b : Nat → Nat} {n : Nat} (hn : n ≤ 240) (e : Nat) (he : 15 ≤ e) (z : Nat × Nat) (J : Nat → Nat → Int64) (p i s : Nat) (x4 x5 x6 : Option Value) (I : Nat → Nat → Int32) (hi : i ≤ 16) (hC : tp_C b n p I) (h7 : I 13 7 = nI s) (h8 : I 13 8 = nI i) (hsp : s ≤ p) : ∃ (r : l_Q) (W : Nat → Nat → Int32), l_rf I W ∧ l_RC ro e z J b n p i s x4 x5 x6 I W r ∧ l_RM ro b n p i r := by
  have hpn := hC.2.1
  have hbb := fun hp : p < n => (hC.2.2.2.2.2 p hp).1
  obtain ⟨rk1, rk2, rk3⟩ := l_RKs (ro := ro) (e := e) (z := z) (J := J) (x4 := x4) (x5 := x5) (x6 := x6) hi hC h8
  obtain ⟨m1, m4⟩ := l_rmK (ro := ro) (b := b) (n := n) (p := p) hi
  by_cases hk : p < n ∧ vl_ok (b p)
  rotate_left
  · have hnk : l_nk b n p := fun q1 q2 => hk ⟨q1, q2⟩
    have hdd : (xv_u2 I 1 4 (-1000 * 1 - nI p) 1 4 = 0) = False := by rw [xu_eq]; exact tp_f 1 (by omega) (by omega) (by omega)
    obtain ⟨W, w1, w2, w3⟩ := l_RKd ro e z J i (tp_c b n p) x5 x6 _ hdd
    exact ⟨.inl (1, p), W, l_rft (l_rfc (l_cf4 I _)) w2, ⟨(rk2 hnk).trans w1, by omega, by omega, by omega, by rw [w3, xu_eq]; rfl⟩, m1 hnk⟩
  obtain ⟨hp, hk⟩ := hk
  by_cases h16 : i = 16
  · have hdd : (xv_u2 I 1 4 (-1000 * 4 - nI p) 1 4 = 0) = False := by rw [xu_eq]; exact tp_f 4 (by omega) (by omega) (by omega)
    obtain ⟨W, w1, w2, w3⟩ := l_RKd ro e z J i (nI (b p)) x5 x6 _ hdd
    exact ⟨.inl (4, p), W, l_rft (l_rfc (l_cf4 I _)) w2, ⟨(rk3 h16 hp hk).trans w1, by omega, by omega, by omega, by rw [w3, xu_eq]; rfl⟩, m4 h16 hp hk⟩
  have i16 : i < 16 := by omega
  have hrk := rk1 i16 hp hk
  have hst := xq_step ro (e + 8) z I J hC hp
  have hC1 := tp_Cs hC hp
  have hz1 := xq_Law_size ro (e + 8) z (xv_u2 I 1 3 (nI (p + 1))) J
  have h71 : xv_u2 I 1 3 (nI (p + 1)) 13 7 = nI s := by rw [← h7]; (repeat (first | rw [xu_ne2 (by omega)] | rw [xu_ne (by omega)] | rw [xu_eq]))
  rw [h71] at hz1
  obtain ⟨r1, W1, k1, k2, k3⟩ := l_suma ro hn (p + 1) 0 s _ z J (e + 8) (by omega) hC1 h71 (by omega) (by omega)
  rw [show nI 0 = (0 : Int32) from rfl] at k1
  have hz2 := xq_Law_size ro (e + 8) z W1 J
  match r1, k2, k3 with
  | .inl (f, q), k2, k3 =>
    obtain ⟨a1, a2, a3, a4, a5⟩ := k2
    have hdd : (W1 1 4 = 0) = False := by rw [a5]; exact tp_f f a1 a2 a3
    obtain ⟨W2, W3, u1, u2, u3, u4, u5, u6, u7⟩ := l_x_cond ro e z J W1 hdd (nI (b p)) (nI s) (W1 13 7)
    have hd := l_RHd ro e z J (i + 1) (some (.int (nI (b p)))) (some (.int (nI s))) (some (.int (W1 13 7))) W3 (by rw [u7]; exact hdd)
    refine ⟨.inl (f, q), W3, l_rft (l_rfc (l_cft (l_cf3 I _) a4)) u6, ⟨?_, a1, a2, a3, by rw [u7]; exact a5⟩, ?_⟩
    · rw [hrk, ← hd]
      unfold l_RK l_RH
      conv => lhs; unfold xb_LawReader_read_60
      simp only [xr_all, xf_all, if_true, if_false, true_or, or_true, eq_self, ite_not, Bool.false_eq_true, ite_self, and_self, true_and, and_true, false_and, and_false, not_true_eq_false, not_false_eq_true, xj_LawReader_read, xb_LawReader_read_0, xb_LawReader_read_44, xb_LawReader_read_123, hst, hz1, k1, hz2, u1, u2, u3, u4, u5, nI_1]
    · intro d z J M c hm
      obtain ⟨U, t1, t2, t3, t4, t5, t6, t7, t8, t9⟩ := l_rm1 (ro := ro) (d := d) (z := z) (J := J) hm hp hk i16
      obtain ⟨V, v1, v2, v3⟩ := k3 (d + 2) z J U [] c t1 rfl (fun o v W' q => by cases q)
      exact ⟨V, t8 V v1, v2, l_mgt t7 (l_mgg v3)⟩
  | .inr (E, p1, s1), k2, k3 =>
    obtain ⟨a1, a2, a3, a4, a5, a6, a7⟩ := k2
    have p1n := a2.2.1
    rw [a4] at hz2
    have hx := xq_expect ro (e + 6) z W1 J (c := 40) a2 (by omega)
    rw [show nI 40 = (40 : Int32) from rfl] at hx
    by_cases c40 : p1 < n ∧ b p1 = 40
    rotate_left
    · rw [if_neg c40] at hx
      have hn2 := a2.1
      have hdd : (xv_u2 W1 1 4 (-1000 * 1 - nI p1) 1 4 = 0) = False := by rw [xu_eq]; exact tp_f 1 (by omega) (by omega) (by omega)
      obtain ⟨W2, W3, -, u2, u3, u4, u5, u6, u7⟩ := l_x_cond ro e z J _ hdd (nI (b p)) (nI s) (nI s1)
      have hd := l_RHd ro e z J (i + 1) (some (.int (nI (b p)))) (some (.int (nI s))) (some (.int (nI s1))) W3 (by rw [u7]; exact hdd)
      refine ⟨.inl (1, p1), W3, l_rft (l_rfc (l_cft (l_cf3 I _) (l_cft a3 (l_cf4 W1 _)))) u6, ⟨?_, by omega, by omega, by omega, by rw [u7, xu_eq]; rfl⟩, ?_⟩
      · rw [hrk, ← hd]
        unfold l_RK l_RH
        conv => lhs; unfold xb_LawReader_read_60
        simp only [xr_all, xf_all, if_true, if_false, true_or, or_true, eq_self, ite_not, Bool.false_eq_true, ite_self, and_self, true_and, and_true, false_and, and_false, not_true_eq_false, not_false_eq_true, xj_LawReader_read, xb_LawReader_read_0, xb_LawReader_read_44, xb_LawReader_read_123, hst, hz1, k1, hz2, hx, u2, u3, u4, u5, nI_1]
      · intro d z J M c hm
        obtain ⟨U, t1, t2, t3, t4, t5, t6, t7, t8, t9⟩ := l_rm1 (ro := ro) (d := d) (z := z) (J := J) hm hp hk i16
        obtain ⟨V, c1, v1, v2, v3, v4, v5⟩ := k3.1 (d + 2) z J U [] c t1 rfl (fun o v W' q => by cases q)
        have v15 : V 167 15 = nI i := by rw [v5.2 15 (by omega) (by omega) (by omega) (by omega) (by omega) (by omega)]; exact t2
        obtain ⟨y1, y2, y3⟩ := l_rm2 (ro := ro) (d := d) (z := z) (J := J) (some (.int (nI (b p)))) v2 v15 i16
        refine ⟨xv_u2 (xv_u2 V 178 i (nI c1)) 167 10 (-1000 * 1 - nI p1), (t9 V v1).trans (y2 _ ((l_cE y1).1 (fun q1 q2 => c40 ⟨q1, q2⟩))), xu_eq, l_mgt t7 (l_mgt (l_mgg v5) ⟨fun a q1 q2 => by (repeat (first | rw [xu_ne2 (by omega)] | rw [xu_ne (by omega)] | rw [xu_eq])), fun j q => by (repeat (first | rw [xu_ne2 (by omega)] | rw [xu_ne (by omega)] | rw [xu_eq]))⟩)⟩
    · rw [if_pos c40] at hx
      have hC2 := tp_Cs a2 c40.1
      have h72 : xv_u2 W1 1 3 (nI (p1 + 1)) 13 7 = nI s1 := by rw [← a4]; (repeat (first | rw [xu_ne2 (by omega)] | rw [xu_ne (by omega)] | rw [xu_eq]))
      obtain ⟨r2, W2, l1, l2, lb, l3⟩ := (l_conds (ro := ro) (b := b) hn (n + 1)).2 (p1 + 1) 1 s1 _ z J (e + 8) (by omega) (by omega) (by omega) hC2 h72 (by omega) (by omega)
      rw [show nI 1 = (1 : Int32) from rfl] at l1
      match r2, l2, l3 with
      | .inl (f, q), l2, l3 =>
        obtain ⟨b1, b2, b3, b4, b5⟩ := l2
        have hdd : (W2 1 4 = 0) = False := by rw [b5]; exact tp_f f b1 b2 b3
        obtain ⟨W3, u3, u4, u5, u6, u7⟩ := l_x_end ro e z J W2 hdd (nI (b p)) (nI s) (nI s1)
        have hd := l_RHd ro e z J (i + 1) (some (.int (nI (b p)))) (some (.int (nI s))) (some (.int (nI s1))) W3 (by rw [u7]; exact hdd)
        refine ⟨.inl (f, q), W3, l_rft (l_rfc (l_cft (l_cf3 I _) (l_cft a3 (l_cft (l_cf3 W1 _) b4)))) u6, ⟨?_, b1, b2, b3, by rw [u7]; exact b5⟩, ?_⟩
        · rw [hrk, ← hd]
          unfold l_RK l_RH
          conv => lhs; unfold xb_LawReader_read_60
          simp only [xr_all, xf_all, if_true, if_false, true_or, or_true, eq_self, ite_not, Bool.false_eq_true, ite_self, and_self, true_and, and_true, false_and, and_false, not_true_eq_false, not_false_eq_true, xj_LawReader_read, xb_LawReader_read_0, xb_LawReader_read_44, xb_LawReader_read_123, hst, hz1, k1, hz2, hx, l1, u3, u4, u5, nI_1]
        · intro d z J M c hm
          obtain ⟨U, t1, t2, t3, t4, t5, t6, t7, t8, t9⟩ := l_rm1 (ro := ro) (d := d) (z := z) (J := J) hm hp hk i16
          obtain ⟨V, c1, v1, v2, v3, v4, v5⟩ := k3.1 (d + 2) z J U [] c t1 rfl (fun o v W' q => by cases q)
          have v15 : V 167 15 = nI i := by rw [v5.2 15 (by omega) (by omega) (by omega) (by omega) (by omega) (by omega)]; exact t2
          obtain ⟨y1, y2, y3⟩ := l_rm2 (ro := ro) (d := d) (z := z) (J := J) (some (.int (nI (b p)))) v2 v15 i16
          obtain ⟨V2, q1, q2, q3, q4⟩ := (l_cE (ro := ro) (d := d) (z := z) (J := J) y1).2 c40.1 c40.2
          obtain ⟨V3, g1, g2, g3⟩ := l3 d z J V2 [(13, 0)] [] c1 q2 trivial rfl (fun o v W' q => by cases q; rfl) (fun o v W' q => by cases q; exact ⟨rfl, by omega⟩)
          exact ⟨V3, (t9 V v1).trans (y2 _ (q1.trans g1)), g2, l_mgt t7 (l_mgt (l_mgg v5) (l_mgt ⟨fun a q1 q2 => by (repeat (first | rw [xu_ne2 (by omega)] | rw [xu_ne (by omega)] | rw [xu_eq])), fun j q => by (repeat (first | rw [xu_ne2 (by omega)] | rw [xu_ne (by omega)] | rw [xu_eq]))⟩ (l_mgt (l_mgg q4) (l_mgg g3))))⟩
      | .inr (D, p2, s2), l2, l3 =>
        obtain ⟨b1, b2, b3, b4, b5, b6, b7⟩ := l2
        have p2n := b2.2.1
        have hx2 := xq_expect ro (e + 6) z W2 J (c := 41) b2 (by omega)
        rw [show nI 41 = (41 : Int32) from rfl] at hx2
        by_cases c41 : p2 < n ∧ b p2 = 41
        rotate_left
        · rw [if_neg c41] at hx2
          have hn2 := b2.1
          have hdd : (xv_u2 W2 1 4 (-1000 * 1 - nI p2) 1 4 = 0) = False := by rw [xu_eq]; exact tp_f 1 (by omega) (by omega) (by omega)
          obtain ⟨W3, -, u4, u5, u6, u7⟩ := l_x_end ro e z J _ hdd (nI (b p)) (nI s) (nI s1)
          have hd := l_RHd ro e z J (i + 1) (some (.int (nI (b p)))) (some (.int (nI s))) (some (.int (nI s1))) W3 (by rw [u7]; exact hdd)
          refine ⟨.inl (1, p2), W3, l_rft (l_rfc (l_cft (l_cf3 I _) (l_cft a3 (l_cft (l_cf3 W1 _) (l_cft b3 (l_cf4 W2 _)))))) u6, ⟨?_, by omega, by omega, by omega, by rw [u7, xu_eq]; rfl⟩, ?_⟩
          · rw [hrk, ← hd]
            unfold l_RK l_RH
            conv => lhs; unfold xb_LawReader_read_60
            simp only [xr_all, xf_all, if_true, if_false, true_or, or_true, eq_self, ite_not, Bool.false_eq_true, ite_self, and_self, true_and, and_true, false_and, and_false, not_true_eq_false, not_false_eq_true, xj_LawReader_read, xb_LawReader_read_0, xb_LawReader_read_44, xb_LawReader_read_123, hst, hz1, k1, hz2, hx, l1, hx2, u4, u5, nI_1]
          · intro d z J M c hm
            obtain ⟨U, t1, t2, t3, t4, t5, t6, t7, t8, t9⟩ := l_rm1 (ro := ro) (d := d) (z := z) (J := J) hm hp hk i16
            obtain ⟨V, c1, v1, v2, v3, v4, v5⟩ := k3.1 (d + 2) z J U [] c t1 rfl (fun o v W' q => by cases q)
            have v15 : V 167 15 = nI i := by rw [v5.2 15 (by omega) (by omega) (by omega) (by omega) (by omega) (by omega)]; exact t2
            obtain ⟨y1, y2, y3⟩ := l_rm2 (ro := ro) (d := d) (z := z) (J := J) (some (.int (nI (b p)))) v2 v15 i16
            obtain ⟨V2, q1, q2, q3, q4⟩ := (l_cE (ro := ro) (d := d) (z := z) (J := J) y1).2 c40.1 c40.2
            obtain ⟨V3, W4, T4, D4, c4, c5, g1, g2, g3, g4, g5, g6, g7⟩ := l3.1 d z J V2 [(13, 0)] [] c1 q2 trivial rfl (fun o v W' q => by cases q; rfl) (fun o v W' q => by cases q; exact ⟨rfl, by omega⟩)
            obtain ⟨V5, f1, f2, f3⟩ := k_sY (ro := ro) (d := d) (z := z) (J := J) g2 (fun q1 => ⟨fun q2 => c41 ⟨q1, q2⟩, (l3.2 q1).1, (l3.2 q1).2⟩)
            exact ⟨V5, (t9 V v1).trans (y2 _ (q1.trans (g1.trans f1))), f2, l_mgt t7 (l_mgt (l_mgg v5) (l_mgt ⟨fun a q1 q2 => by (repeat (first | rw [xu_ne2 (by omega)] | rw [xu_ne (by omega)] | rw [xu_eq])), fun j q => by (repeat (first | rw [xu_ne2 (by omega)] | rw [xu_ne (by omega)] | rw [xu_eq]))⟩ (l_mgt (l_mgg q4) (l_mgt (l_mgg g7) (l_mgg f3)))))⟩
        · rw [if_pos c41] at hx2
          have hcf : l_cf I (xv_u2 W2 1 3 (nI (p2 + 1))) := l_cft (l_cf3 I _) (l_cft a3 (l_cft (l_cf3 W1 _) (l_cft b3 (l_cf3 W2 _))))
          have h82 : xv_u2 W2 1 3 (nI (p2 + 1)) 13 8 = nI i := by rw [hcf.2.2 8 (by omega)]; exact h8
          have har := xq_addRule ro (e + 8) z _ J h82 i16 (nI (b p)) (nI s) (nI s1)
          have h73 : xv_u2 W2 1 3 (nI (p2 + 1)) 13 7 = nI s2 := by rw [← b4]; (repeat (first | rw [xu_ne2 (by omega)] | rw [xu_ne (by omega)] | rw [xu_eq]))
          rw [h73] at har
          have s1s := a7.1
          have s2s := b7.1
          have hpre : ∀ x, x < s1 → W2 14 x = W1 14 x ∧ W2 15 x = W1 15 x := fun x hx => by
            obtain ⟨q1, q2⟩ := b6 x hx
            exact ⟨by rw [q1, xu_ne (by omega)], by rw [q2, xu_ne (by omega)]⟩
          have hpre0 : ∀ x, x < s → W2 14 x = I 14 x ∧ W2 15 x = I 15 x := fun x hx => by
            obtain ⟨q1, q2⟩ := a6 x hx
            obtain ⟨q3, q4⟩ := hpre x (by omega)
            exact ⟨by rw [q3, q1, xu_ne (by omega)], by rw [q4, q2, xu_ne (by omega)]⟩
          refine ⟨.inr (b p, E, D, p2 + 1), xv_u2 (xv_u2 (xv_u2 (xv_u2 (xv_u2 (xv_u2 W2 1 3 (nI (p2 + 1))) 16 i (nI (b p))) 17 i (nI s)) 18 i (nI s1)) 19 i (nI s2)) 13 8 (nI (i + 1)), l_rft (l_rfc hcf) ⟨fun a q1 q2 => by (repeat (first | rw [xu_ne2 (by omega)] | rw [xu_ne (by omega)] | rw [xu_eq])), fun j q1 q2 => by (repeat (first | rw [xu_ne2 (by omega)] | rw [xu_ne (by omega)] | rw [xu_eq]))⟩, ⟨i16, hk, by omega, tp_Cc (tp_Cs b2 c41.1) (fun j _ => by (repeat (first | rw [xu_ne2 (by omega)] | rw [xu_ne (by omega)] | rw [xu_eq]))) (by (repeat (first | rw [xu_ne2 (by omega)] | rw [xu_ne (by omega)] | rw [xu_eq]))), s1, s2, some (.int (nI (b p))), some (.int (nI s)), some (.int (nI s1)), by (repeat (first | rw [xu_ne2 (by omega)] | rw [xu_ne (by omega)] | rw [xu_eq])); exact b4, xu_eq, by omega, by (repeat (first | rw [xu_ne2 (by omega)] | rw [xu_ne (by omega)] | rw [xu_eq])), by (repeat (first | rw [xu_ne2 (by omega)] | rw [xu_ne (by omega)] | rw [xu_eq])), by (repeat (first | rw [xu_ne2 (by omega)] | rw [xu_ne (by omega)] | rw [xu_eq])), by (repeat (first | rw [xu_ne2 (by omega)] | rw [xu_ne (by omega)] | rw [xu_eq])), ?_, ?_, fun x hx => ?_, fun a j q1 q2 q3 => ?_, fun more U hU => ?_⟩, ?_⟩
          · exact l_cS_c a7 (fun x _ q => ⟨by rw [xu_ne (by omega), xu_ne (by omega), xu_ne (by omega), xu_ne (by omega), xu_ne (by omega), xu_ne (by omega)]; exact (hpre x q).1, by rw [xu_ne (by omega), xu_ne (by omega), xu_ne (by omega), xu_ne (by omega), xu_ne (by omega), xu_ne (by omega)]; exact (hpre x q).2⟩) (by omega)
          · exact l_cS_c b7 (fun x _ q => ⟨by rw [xu_ne (by omega), xu_ne (by omega), xu_ne (by omega), xu_ne (by omega), xu_ne (by omega), xu_ne (by omega)], by rw [xu_ne (by omega), xu_ne (by omega), xu_ne (by omega), xu_ne (by omega), xu_ne (by omega), xu_ne (by omega)]⟩) (by omega)
          · exact ⟨by rw [xu_ne (by omega), xu_ne (by omega), xu_ne (by omega), xu_ne (by omega), xu_ne (by omega), xu_ne (by omega)]; exact (hpre0 x hx).1, by rw [xu_ne (by omega), xu_ne (by omega), xu_ne (by omega), xu_ne (by omega), xu_ne (by omega), xu_ne (by omega)]; exact (hpre0 x hx).2⟩
          · rw [← hcf.1 a (by omega) (by omega) (by omega) (by omega)]
            (repeat (first | rw [xu_ne2 (by omega)] | rw [xu_ne (by omega)] | rw [xu_eq]))
          · rw [hrk]
            unfold l_RK l_RH
            conv => lhs; unfold xb_LawReader_read_60
            simp only [xr_all, xf_all, if_true, if_false, true_or, or_true, eq_self, ite_not, Bool.false_eq_true, ite_self, and_self, true_and, and_true, false_and, and_false, not_true_eq_false, not_false_eq_true, xj_LawReader_read, xb_LawReader_read_0, xb_LawReader_read_44, xb_LawReader_read_123, hst, hz1, k1, hz2, hx, l1, hx2, har, hU, nI_1]
          · intro d z J M c hm
            obtain ⟨U, t1, t2, t3, t4, t5, t6, t7, t8, t9⟩ := l_rm1 (ro := ro) (d := d) (z := z) (J := J) hm hp hk i16
            obtain ⟨V, c1, v1, v2, v3, v4, v5⟩ := k3.1 (d + 2) z J U [] c t1 rfl (fun o v W' q => by cases q)
            have v15 : V 167 15 = nI i := by rw [v5.2 15 (by omega) (by omega) (by omega) (by omega) (by omega) (by omega)]; exact t2
            obtain ⟨y1, y2, y3⟩ := l_rm2 (ro := ro) (d := d) (z := z) (J := J) (some (.int (nI (b p)))) v2 v15 i16
            obtain ⟨V2, q1, q2, q3, q4⟩ := (l_cE (ro := ro) (d := d) (z := z) (J := J) y1).2 c40.1 c40.2
            obtain ⟨V3, W4, T4, D4, c4, c5, g1, g2, g3, g4, g5, g6, g7⟩ := l3.1 d z J V2 [(13, 0)] [] c1 q2 trivial rfl (fun o v W' q => by cases q; rfl) (fun o v W' q => by cases q; exact ⟨rfl, by omega⟩)
            obtain ⟨V5, f1, f2, f3, f4, f5⟩ := (k_sC (ro := ro) (d := d) (z := z) (J := J) g2 c41.1 c41.2 g3 g4 g5).2 rfl
            have cc := v3.1
            have cc2 := f3.1
            have G : l_g V2 V5 := l_gt g7 f5
            have v215 : V5 167 15 = nI i := by rw [G.2 15 (by omega) (by omega) (by omega) (by omega) (by omega) (by omega), q4.2 15 (by omega) (by omega) (by omega) (by omega) (by omega) (by omega), xu_ne (by omega)]; exact v15
            have hs5 := f2
            obtain ⟨h0, h1, h2, h3, h4, h5, h6, h7'⟩ := hs5
            have K5 : ∀ x, x < c1 → V5 174 x = V 174 x := fun x hx => by rw [f4 x hx, g6 x hx, q3, xu_ne (by omega)]
            have hrow : ∀ a j, 176 ≤ a → a ≤ 179 → V5 a j = xv_u2 V 178 i (nI c1) a j := fun a j q1 q2 => by rw [G.1 a (by omega) (by omega) (by omega), q4.1 a (by omega) (by omega) (by omega)]
            have hVU : ∀ a, 176 ≤ a → a ≤ 179 → V a = U a := fun a q1 q2 => v5.1 a (by omega) (by omega) (by omega)
            refine ⟨xv_u2 (xv_u2 V5 179 i (nI c5)) 167 15 (nI (i + 1)), c1, c5, (t9 V v1).trans (y3 V5 c5 (q1.trans (g1.trans f1)) h3 v215), ⟨h0, tp_Mc h1 (by (repeat (first | rw [xu_ne2 (by omega)] | rw [xu_ne (by omega)] | rw [xu_eq]))) (by (repeat (first | rw [xu_ne2 (by omega)] | rw [xu_ne (by omega)] | rw [xu_eq]))) (by (repeat (first | rw [xu_ne2 (by omega)] | rw [xu_ne (by omega)] | rw [xu_eq]))), by (repeat (first | rw [xu_ne2 (by omega)] | rw [xu_ne (by omega)] | rw [xu_eq])); exact h3, xu_eq, ?_⟩, ?_, ?_, ?_, ?_, ?_, ?_, fun j hj => ?_, fun a j q1 q2 q3 => ?_, ?_⟩
            · have : c5 + 0 + b 1000 ≤ p2 + 1 := h6
              omega
            · exact l_mS_c v3 (fun x _ q => by rw [xu_ne (by omega), xu_ne (by omega)]; exact K5 x q)
            · exact l_mS_c f3 (fun x _ q => by rw [xu_ne (by omega), xu_ne (by omega)])
            · rw [xu_ne (by omega), xu_ne (by omega), hrow 176 i (by omega) (by omega), xu_ne (by omega), hVU 176 (by omega) (by omega)]; exact t3
            · rw [xu_ne (by omega), xu_ne (by omega), hrow 177 i (by omega) (by omega), xu_ne (by omega), hVU 177 (by omega) (by omega)]; exact t4
            · rw [xu_ne (by omega), xu_ne (by omega), hrow 178 i (by omega) (by omega), xu_eq]
            · rw [xu_ne (by omega), xu_eq]
            · rw [xu_ne (by omega), xu_ne (by omega), K5 j (by omega), v4 j hj, t5]
            · rw [← t6 a j q1 q2 q3, ← hVU a q1 q2, xu_ne (by omega), xu_ne2 (by omega), hrow a j q1 q2, xu_ne2 (by omega)]
            · exact l_mgt t7 (l_mgt (l_mgg v5) (l_mgt ⟨fun a q1 q2 => by (repeat (first | rw [xu_ne2 (by omega)] | rw [xu_ne (by omega)] | rw [xu_eq])), fun j q => by (repeat (first | rw [xu_ne2 (by omega)] | rw [xu_ne (by omega)] | rw [xu_eq]))⟩ (l_mgt (l_mgg q4) (l_mgt (l_mgg G) ⟨fun a q1 q2 => by (repeat (first | rw [xu_ne2 (by omega)] | rw [xu_ne (by omega)] | rw [xu_eq])), fun j q => by (repeat (first | rw [xu_ne2 (by omega)] | rw [xu_ne (by omega)] | rw [xu_eq]))⟩))))
