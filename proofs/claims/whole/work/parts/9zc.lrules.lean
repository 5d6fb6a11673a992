/-! law: all rules, in both -/
abbrev l_G : Type := (Nat × Nat) ⊕ (Nat × (Nat → Nat × l_D × l_D))
def l_kc (W : Nat → Nat → Int32) (j : Nat) (g : Nat × l_D × l_D) : Prop := ∃ s0 s1 s2 : Nat, s2 ≤ 240 ∧ W 16 j = nI g.1 ∧ W 17 j = nI s0 ∧ W 18 j = nI s1 ∧ W 19 j = nI s2 ∧ l_cS (W 14) (W 15) s0 s1 32 g.2.1 ∧ l_cS (W 14) (W 15) s1 s2 32 g.2.2
def l_km (V : Nat → Nat → Int32) (cc j : Nat) (g : Nat × l_D × l_D) : Prop := ∃ c0 c1 c2 : Nat, c2 ≤ cc ∧ V 176 j = nI g.1 ∧ V 177 j = nI c0 ∧ V 178 j = nI c1 ∧ V 179 j = nI c2 ∧ l_mS (V 174) c0 c1 g.2.1 ∧ l_mS (V 174) c1 c2 g.2.2
noncomputable def l_LH (ro : xv_Ro) (z : Nat × Nat) (J : Nat → Nat → Int64) (x1 g : Int32) (M : Nat → Nat → Int32) : Option (Option Value × xv_S) := xv_ev ro 199 xm_Mo_law xb_Mo_law_31 [some (.ref 167), some (.int x1), some (.int g), none] [] (z, xv_mk M J)
def l_LR (ro : xv_Ro) (z : Nat × Nat) (J : Nat → Nat → Int64) (x1 : Int32) (R : Option (Option Value × xv_S)) (M : Nat → Nat → Int32) : Prop := ∀ V, (xv_evm ro 198 75 [.ref 167] (z, xv_mk M J) = some (some (.int 1), (z, xv_mk V J)) → R = l_LH ro z J x1 1 V) ∧ (xv_evm ro 198 75 [.ref 167] (z, xv_mk M J) = some (some (.int 0), (z, xv_mk V J)) → R = l_LH ro z J x1 0 V)
def l_GC (I W : Nat → Nat → Int32) (s i : Nat) : l_G → Prop
  | .inl (f, q) => 1 ≤ f ∧ f ≤ 9 ∧ q ≤ 260 ∧ W 1 4 = -1000 * nI f - nI q
  | .inr (m, G) => W 1 4 = 0 ∧ i < m ∧ m ≤ 16 ∧ W 13 8 = nI m ∧ (∀ j, i ≤ j → j < m → vl_ok (G j).1 ∧ l_kc W j (G j)) ∧ (∀ x, x < s → W 14 x = I 14 x ∧ W 15 x = I 15 x) ∧ (∀ a j, 16 ≤ a → a ≤ 19 → j < i → W a j = I a j)
def l_GM (ro : xv_Ro) (b : Nat → Nat) (n p i : Nat) : l_G → Prop
  | .inl (f, q) => ∀ (z : Nat × Nat) (J : Nat → Nat → Int64) (x1 : Int32) (R : Option (Option Value × xv_S)) (M : Nat → Nat → Int32) (c : Nat), l_LR ro z J x1 R M → l_ms M b n p i c → ∃ V, R = l_LH ro z J x1 0 V ∧ V 167 10 = -1000 * nI f - nI q ∧ l_mg M V
  | .inr (m, G) => ∀ (z : Nat × Nat) (J : Nat → Nat → Int64) (x1 : Int32) (R : Option (Option Value × xv_S)) (M : Nat → Nat → Int32) (c : Nat), l_LR ro z J x1 R M → l_ms M b n p i c → ∃ V c', R = l_LH ro z J x1 1 V ∧ l_ms V b n n m c' ∧ c ≤ c' ∧ (∀ j, i ≤ j → j < m → l_km V c' j (G j)) ∧ (∀ x, x < c → V 174 x = M 174 x) ∧ (∀ a j, 176 ≤ a → a ≤ 179 → j < i → V a j = M a j) ∧ l_mg M V
/-- the law's loop goes on behind a ; -/
theorem l_lhS {ro : xv_Ro} {z : Nat × Nat} {J : Nat → Nat → Int64} {x1 : Int32} {b : Nat → Nat} {n p r c : Nat} {V : Nat → Nat → Int32} (h : l_ms V b n p r c) (hp : p < n) : (b p = 59 → l_LR ro z J x1 (l_LH ro z J x1 1 V) (xv_u2 V 167 8 (nI (p + 1))) ∧ l_ms (xv_u2 V 167 8 (nI (p + 1))) b n (p + 1) r c) ∧ (b p ≠ 59 → l_LH ro z J x1 1 V = l_LH ro z J x1 0 (xv_u2 V 167 10 (-1000 * 1 - nI p))) := by
  obtain ⟨h0, h1, h2, h3, h4⟩ := h
  have ht := xq_takes ro 197 z V J (c := 59) h1 (by omega)
  rw [show nI 59 = (59 : Int32) from rfl] at ht
  have z1 : ((1 : Int32) = 0) = False := eq_false (by decide)
  have gp : (nI n ≤ nI p) = False := by (simp (disch := omega) only [vz_all, if_true, if_false, true_or, or_true, eq_self, ite_not, Bool.false_eq_true, ite_self, and_self, true_and, and_true, false_and, and_false, not_true_eq_false, not_false_eq_true, false_or, or_false])
  have gp2 : (nI p < nI n) = True := by (simp (disch := omega) only [vz_all, if_true, if_false, true_or, or_true, eq_self, ite_not, Bool.false_eq_true, ite_self, and_self, true_and, and_true, false_and, and_false, not_true_eq_false, not_false_eq_true, false_or, or_false])
  refine ⟨fun hb => ⟨fun W => ⟨fun hr => ?_, fun hr => ?_⟩, h0, tp_Ms h1 hp, by (repeat (first | rw [xu_ne2 (by omega)] | rw [xu_ne (by omega)] | rw [xu_eq])); exact h2, by (repeat (first | rw [xu_ne2 (by omega)] | rw [xu_ne (by omega)] | rw [xu_eq])); exact h3, by omega⟩, fun hb => ?_⟩
  · rw [if_pos ⟨hp, hb⟩] at ht
    unfold l_LH
    conv => lhs; unfold xb_Mo_law_31
    simp only [xr_all, xf_all, if_true, if_false, true_or, or_true, eq_self, ite_not, Bool.false_eq_true, ite_self, and_self, true_and, and_true, false_and, and_false, not_true_eq_false, not_false_eq_true, xj_Mo_law, xb_Mo_law_0, xb_Mo_law_19, xb_Mo_law_21, xb_Mo_law_66, xb_Mo_law_67, xb_Mo_law_85, xb_Mo_law_121, xb_Mo_law_185, z1, h1.2.2.1, h1.2.2.2.1, gp, ht, hr]
  · rw [if_pos ⟨hp, hb⟩] at ht
    unfold l_LH
    conv => lhs; unfold xb_Mo_law_31
    simp only [xr_all, xf_all, if_true, if_false, true_or, or_true, eq_self, ite_not, Bool.false_eq_true, ite_self, and_self, true_and, and_true, false_and, and_false, not_true_eq_false, not_false_eq_true, xj_Mo_law, xb_Mo_law_0, xb_Mo_law_19, xb_Mo_law_21, xb_Mo_law_66, xb_Mo_law_67, xb_Mo_law_85, xb_Mo_law_121, xb_Mo_law_185, z1, h1.2.2.1, h1.2.2.2.1, gp, ht, hr]
  · rw [if_neg (fun q => hb q.2)] at ht
    unfold l_LH
    conv => lhs; unfold xb_Mo_law_31
    simp only [xr_all, xf_all, if_true, if_false, true_or, or_true, eq_self, ite_not, Bool.false_eq_true, ite_self, and_self, true_and, and_true, false_and, and_false, not_true_eq_false, not_false_eq_true, xj_Mo_law, xb_Mo_law_0, xb_Mo_law_19, xb_Mo_law_21, xb_Mo_law_66, xb_Mo_law_67, xb_Mo_law_85, xb_Mo_law_121, xb_Mo_law_185, z1, h1.2.2.1, h1.2.2.2.1, gp, ht]
theorem l_RH0 (ro : xv_Ro) (e : Nat) (z : Nat × Nat) (J : Nat → Nat → Int64) (i : Nat) (x4 x5 x6 : Option Value) (I : Nat → Nat → Int32) {b : Nat → Nat} {n p : Nat} (h : tp_C b n p I) : l_RH ro e z J i 0 x4 x5 x6 I = some (none, (z, xv_mk (if p < n then xv_u2 I 1 4 (-1000 * 1 - nI p) else I) J)) := by
  have he := xq_expectEnd ro (e + 7) z I J h
  unfold l_RH
  conv => lhs; unfold xb_LawReader_read_8
  by_cases c : 16 < nI i
  · simp only [xr_all, xf_all, if_true, if_false, true_or, or_true, eq_self, ite_not, Bool.false_eq_true, ite_self, and_self, true_and, and_true, false_and, and_false, not_true_eq_false, not_false_eq_true, xj_LawReader_read, xb_LawReader_read_0, xb_LawReader_read_44, xb_LawReader_read_123, c, he]
  · have c2 : (nI i ≤ 16) = True := eq_true (Int32.not_lt.mp c)
    simp only [xr_all, xf_all, if_true, if_false, true_or, or_true, eq_self, ite_not, Bool.false_eq_true, ite_self, and_self, true_and, and_true, false_and, and_false, not_true_eq_false, not_false_eq_true, xj_LawReader_read, xb_LawReader_read_0, xb_LawReader_read_44, xb_LawReader_read_123, c, c2, he]
theorem l_rules {ro : xv_Ro} {b : Nat → Nat} {n : Nat} (hn : n ≤ 240) (e : Nat) (he : 15 ≤ e) (z : Nat × Nat) (J : Nat → Nat → Int64) : ∀ (k p i s : Nat) (x4 x5 x6 : Option Value) (I : Nat → Nat → Int32), n - p < k → i ≤ 16 → tp_C b n p I → I 13 7 = nI s → I 13 8 = nI i → s ≤ p → ∃ (r : l_G) (W : Nat → Nat → Int32), l_RH ro e z J i 1 x4 x5 x6 I = some (none, (z, xv_mk W J)) ∧ l_rf I W ∧ l_GC I W s i r ∧ l_GM ro b n p i r := by
  intro k
  induction k with
  | zero => intro p i s x4 x5 x6 I hk; omega
  | succ k ih =>
    intro p i s x4 x5 x6 I hk hi hC h7 h8 hsp
    obtain ⟨r1, W1, w1, w2, w3⟩ := l_rule (ro := ro) hn e he z J p i s x4 x5 x6 I hi hC h7 h8 hsp
    match r1, w2, w3 with
    | .inl (f, q), w2, w3 =>
      obtain ⟨a1, a2, a3, a4, a5⟩ := w2
      refine ⟨.inl (f, q), W1, a1, w1, ⟨a2, a3, a4, a5⟩, fun z J x1 R M c hR hm => ?_⟩
      obtain ⟨V, v1, v2, v3⟩ := w3 191 z J M c hm
      exact ⟨V, (hR V).2 v1, v2, v3⟩
    | .inr (kd, E, D, p'), w2, w3 =>
      obtain ⟨i16, a1, a2, a3, s1, s2, y4, y5, y6, a4, a5, a6, a7, a8, a9, a10, a11, a12, a13, a14, a15⟩ := w2
      have p'n := a3.2.1
      have ht := xq_take ro (e + 7) z W1 J (c := 59) a3 (by omega)
      rw [show nI 59 = (59 : Int32) from rfl] at ht
      have s01 := a11.1
      have s12 := a12.1
      have hkc : l_kc W1 i (kd, E, D) := ⟨s, s1, s2, by omega, a7, a8, a9, a10, a11, a12⟩
      by_cases c59 : p' < n ∧ b p' = 59
      · rw [if_pos c59] at ht
        have hstep := a15 1 _ ht
        have hC2 := tp_Cs a3 c59.1
        obtain ⟨r2, W2, u1, u2, u3, u4⟩ := ih (p' + 1) (i + 1) s2 y4 y5 y6 _ (by omega) (by omega) hC2 (by (repeat (first | rw [xu_ne2 (by omega)] | rw [xu_ne (by omega)] | rw [xu_eq])); exact a4) (by (repeat (first | rw [xu_ne2 (by omega)] | rw [xu_ne (by omega)] | rw [xu_eq])); exact a5) (by omega)
        have hrf : l_rf I W2 := l_rft w1 (l_rft (l_rfc (l_cf3 W1 _)) u2)
        match r2, u3, u4 with
        | .inl (f, q), u3, u4 =>
          obtain ⟨b1, b2, b3, b4⟩ := u3
          refine ⟨.inl (f, q), W2, hstep.trans u1, hrf, ⟨b1, b2, b3, b4⟩, fun z J x1 R M c hR hm => ?_⟩
          obtain ⟨V, c1, c2, v1, v2, v3, v4, v5, v6, v7, v8, v9, v10, v11⟩ := w3 191 z J M c hm
          obtain ⟨t1, t2⟩ := (l_lhS (ro := ro) (z := z) (J := J) (x1 := x1) v2 c59.1).1 c59.2
          obtain ⟨V2, q1, q2, q3⟩ := u4 z J x1 _ _ c2 t1 t2
          exact ⟨V2, ((hR V).1 v1).trans q1, q2, l_mgt v11 (l_mgt ⟨fun a g1 g2 => by (repeat (first | rw [xu_ne2 (by omega)] | rw [xu_ne (by omega)] | rw [xu_eq])), fun j g => by (repeat (first | rw [xu_ne2 (by omega)] | rw [xu_ne (by omega)] | rw [xu_eq]))⟩ q3)⟩
        | .inr (m, G), u3, u4 =>
          obtain ⟨b1, b2, b3, b4, b5, b6, b7⟩ := u3
          have hst : ∀ x, x < s2 → W2 14 x = W1 14 x ∧ W2 15 x = W1 15 x := fun x hx => by
            obtain ⟨g1, g2⟩ := b6 x hx
            exact ⟨by rw [g1, xu_ne (by omega)], by rw [g2, xu_ne (by omega)]⟩
          have hrow : ∀ a j, 16 ≤ a → a ≤ 19 → j < i + 1 → W2 a j = W1 a j := fun a j g1 g2 g3 => by rw [b7 a j g1 g2 g3, xu_ne (by omega)]
          refine ⟨.inr (m, fun j => if j = i then (kd, E, D) else G j), W2, hstep.trans u1, hrf, ⟨b1, by omega, b3, b4, fun j j1 j2 => ?_, fun x hx => ?_, fun a j g1 g2 g3 => by rw [hrow a j g1 g2 (by omega), a14 a j g1 g2 g3]⟩, fun z J x1 R M c hR hm => ?_⟩
          · dsimp only
            by_cases cj : j = i
            · rw [if_pos cj, cj]
              exact ⟨a1, s, s1, s2, by omega, by rw [hrow 16 i (by omega) (by omega) (by omega)]; exact a7, by rw [hrow 17 i (by omega) (by omega) (by omega)]; exact a8, by rw [hrow 18 i (by omega) (by omega) (by omega)]; exact a9, by rw [hrow 19 i (by omega) (by omega) (by omega)]; exact a10, l_cS_c a11 (fun x _ q => hst x (by omega)) (Nat.le_refl _), l_cS_c a12 (fun x _ q => hst x q) (Nat.le_refl _)⟩
            · rw [if_neg cj]
              exact b5 j (by omega) j2
          · obtain ⟨g1, g2⟩ := hst x (by omega)
            obtain ⟨g3, g4⟩ := a13 x hx
            exact ⟨g1.trans g3, g2.trans g4⟩
          · obtain ⟨V, c1, c2, v1, v2, v3, v4, v5, v6, v7, v8, v9, v10, v11⟩ := w3 191 z J M c hm
            obtain ⟨t1, t2⟩ := (l_lhS (ro := ro) (z := z) (J := J) (x1 := x1) v2 c59.1).1 c59.2
            obtain ⟨V2, c3, q1, q2, qle, q3, q4, q5, q6⟩ := u4 z J x1 _ _ c2 t1 t2
            have m1 := v3.1
            have m2 := v4.1
            have hc2 : c2 ≤ 240 := by
              have := v2.2.2.2.2
              omega
            have K : ∀ x, x < c2 → V2 174 x = V 174 x := fun x hx => by rw [q4 x hx, xu_ne (by omega)]
            have hr2 : ∀ a j, 176 ≤ a → a ≤ 179 → j < i + 1 → V2 a j = V a j := fun a j g1 g2 g3 => by rw [q5 a j g1 g2 g3, xu_ne (by omega)]
            refine ⟨V2, c3, ((hR V).1 v1).trans q1, q2, by omega, fun j j1 j2 => ?_, fun x hx => by rw [K x (by omega), v9 x hx], fun a j g1 g2 g3 => by rw [hr2 a j g1 g2 (by omega), v10 a j g1 g2 g3], l_mgt v11 (l_mgt ⟨fun a g1 g2 => by (repeat (first | rw [xu_ne2 (by omega)] | rw [xu_ne (by omega)] | rw [xu_eq])), fun j g => by (repeat (first | rw [xu_ne2 (by omega)] | rw [xu_ne (by omega)] | rw [xu_eq]))⟩ q6)⟩
            dsimp only
            by_cases cj : j = i
            · rw [if_pos cj, cj]
              exact ⟨c, c1, c2, qle, by rw [hr2 176 i (by omega) (by omega) (by omega)]; exact v5, by rw [hr2 177 i (by omega) (by omega) (by omega)]; exact v6, by rw [hr2 178 i (by omega) (by omega) (by omega)]; exact v7, by rw [hr2 179 i (by omega) (by omega) (by omega)]; exact v8, l_mS_c v3 (fun x _ q => K x (by omega)), l_mS_c v4 (fun x _ q => K x q)⟩
            · rw [if_neg cj]
              exact q3 j (by omega) j2
      · rw [if_neg c59] at ht
        have hstep := a15 0 _ ht
        have h0 := l_RH0 ro e z J (i + 1) y4 y5 y6 W1 a3
        by_cases cp : p' < n
        · rw [if_pos cp] at h0
          have hb : b p' ≠ 59 := fun q => c59 ⟨cp, q⟩
          refine ⟨.inl (1, p'), _, hstep.trans h0, l_rft w1 (l_rfc (l_cf4 W1 _)), ⟨by omega, by omega, by omega, xu_eq⟩, fun z J x1 R M c hR hm => ?_⟩
          obtain ⟨V, c1, c2, v1, v2, v3, v4, v5, v6, v7, v8, v9, v10, v11⟩ := w3 191 z J M c hm
          have t1 := (l_lhS (ro := ro) (z := z) (J := J) (x1 := x1) v2 cp).2 hb
          exact ⟨xv_u2 V 167 10 (-1000 * 1 - nI p'), ((hR V).1 v1).trans t1, xu_eq, l_mgt v11 ⟨fun a g1 g2 => by (repeat (first | rw [xu_ne2 (by omega)] | rw [xu_ne (by omega)] | rw [xu_eq])), fun j g => by (repeat (first | rw [xu_ne2 (by omega)] | rw [xu_ne (by omega)] | rw [xu_eq]))⟩⟩
        · rw [if_neg cp] at h0
          obtain rfl : p' = n := by omega
          refine ⟨.inr (i + 1, fun _ => (kd, E, D)), W1, hstep.trans h0, w1, ⟨a3.2.2.2.2.1, by omega, by omega, a5, fun j j1 j2 => ?_, a13, a14⟩, fun z J x1 R M c hR hm => ?_⟩
          · obtain rfl : j = i := by omega
            exact ⟨a1, hkc⟩
          · obtain ⟨V, c1, c2, v1, v2, v3, v4, v5, v6, v7, v8, v9, v10, v11⟩ := w3 191 z J M c hm
            have hc2 : c2 ≤ 240 := by
              have := v2.2.2.2.2
              omega
            have m1 := v3.1
            have m2 := v4.1
            refine ⟨V, c2, (hR V).1 v1, v2, by omega, fun j j1 j2 => ?_, v9, v10, v11⟩
            obtain rfl : j = i := by omega
            exact ⟨c, c1, c2, Nat.le_refl _, v5, v6, v7, v8, v3, v4⟩
