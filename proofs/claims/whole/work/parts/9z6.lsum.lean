/-! law: the class's factor, factors, terms beside the model's sum -/
def l_C (b : Nat → Nat) (n p s0 s h : Nat) (I W : Nat → Nat → Int32) : l_R → Prop
  | .inl (f, q) => 1 ≤ f ∧ f ≤ 9 ∧ q ≤ 260 ∧ l_cf I W ∧ W 1 4 = -1000 * nI f - nI q
  | .inr (D, p', s') => p ≤ p' ∧ tp_C b n p' W ∧ l_cf I W ∧ W 13 7 = nI s' ∧ s' + p ≤ s + p' ∧ (∀ i, i < s0 → W 14 i = I 14 i ∧ W 15 i = I 15 i) ∧ l_cS (W 14) (W 15) s0 s' h D
def l_MS (ro : xv_Ro) (b : Nat → Nat) (n p o : Nat) (H : List (Nat × Nat) → Prop) (Jf : List (Nat × Nat) → List (l_D × Nat) → Option (List (Nat × Nat) × List (l_D × Nat))) (X : Nat → Prop) : l_R → Prop
  | .inl (f, q) => ∀ (d : Nat) (z : Nat × Nat) (J : Nat → Nat → Int64) (bs : Nat) (x2 : Option Value) (R : Option (Option Value × xv_S)) (M : Nat → Nat → Int32) (W : List (Nat × Nat)) (T : List (l_D × Nat)) (c : Nat), l_F ro d z J bs x2 R M → l_s M b n p W c → l_T (M 174) T c → l_oc W = o → bs ≤ W.length → H W → l_B z J M R f q
  | .inr (D, p', _) => (∀ (d : Nat) (z : Nat × Nat) (J : Nat → Nat → Int64) (bs : Nat) (x2 : Option Value) (R : Option (Option Value × xv_S)) (M : Nat → Nat → Int32) (W : List (Nat × Nat)) (T : List (l_D × Nat)) (c : Nat), l_F ro d z J bs x2 R M → l_s M b n p W c → l_T (M 174) T c → l_oc W = o → bs ≤ W.length → H W → ∃ (V : Nat → Nat → Int32) (x2' : Option Value) (W1 : List (Nat × Nat)) (T1 : List (l_D × Nat)) (c1 : Nat), R = l_HL ro d z J bs x2' V ∧ l_s V b n p' W1 c1 ∧ l_T (V 174) T1 c1 ∧ Jf W1 T1 = some (W, (D, c) :: T) ∧ c ≤ c1 ∧ (∀ j, j < c → V 174 j = M 174 j) ∧ l_g M V) ∧ X p'
def l_ML (ro : xv_Ro) (b : Nat → Nat) (n p o : Nat) (H : List (Nat × Nat) → Prop) (Jf : List (Nat × Nat) → List (l_D × Nat) → Option (List (Nat × Nat) × List (l_D × Nat))) (X : Nat → Prop) (acc : l_D) : l_R → Prop
  | .inl (f, q) => ∀ (d : Nat) (z : Nat × Nat) (J : Nat → Nat → Int64) (bs : Nat) (x2 : Option Value) (M : Nat → Nat → Int32) (W : List (Nat × Nat)) (T : List (l_D × Nat)) (c : Nat) (W0 : List (Nat × Nat)) (T0 : List (l_D × Nat)) (c0 : Nat), l_s M b n p W0 c0 → l_T (M 174) T0 c0 → Jf W0 T0 = some (W, (acc, c) :: T) → l_oc W = o → bs ≤ W.length → H W → l_B z J M (l_HL ro d z J bs x2 M) f q
  | .inr (D, p', _) => (∀ (d : Nat) (z : Nat × Nat) (J : Nat → Nat → Int64) (bs : Nat) (x2 : Option Value) (M : Nat → Nat → Int32) (W : List (Nat × Nat)) (T : List (l_D × Nat)) (c : Nat) (W0 : List (Nat × Nat)) (T0 : List (l_D × Nat)) (c0 : Nat), l_s M b n p W0 c0 → l_T (M 174) T0 c0 → Jf W0 T0 = some (W, (acc, c) :: T) → l_oc W = o → bs ≤ W.length → H W → ∃ (V : Nat → Nat → Int32) (x2' : Option Value) (W1 : List (Nat × Nat)) (T1 : List (l_D × Nat)) (c1 : Nat), l_HL ro d z J bs x2 M = l_HL ro d z J bs x2' V ∧ l_s V b n p' W1 c1 ∧ l_T (V 174) T1 c1 ∧ Jf W1 T1 = some (W, (D, c) :: T) ∧ c0 ≤ c1 ∧ (∀ j, j < c0 → V 174 j = M 174 j) ∧ l_g M V) ∧ X p'
def l_lv (ro : xv_Ro) (kk : Nat) (H : List (Nat × Nat) → Prop) (Jf : List (Nat × Nat) → List (l_D × Nat) → Option (List (Nat × Nat) × List (l_D × Nat))) (X : Nat → Prop) (rq hh : Nat) (b : Nat → Nat) (n K : Nat) : Prop := ∀ (p o s : Nat) (I : Nat → Nat → Int32) (z : Nat × Nat) (J : Nat → Nat → Int64) (d : Nat), n - p < K → o ≤ 6 → tp_C b n p I → I 13 7 = nI s → s ≤ p → rq + 3 * (6 - o) ≤ d → ∃ (r : l_R) (W : Nat → Nat → Int32), xv_evm ro d kk [.ref 1, .ref 13, .int (nI o)] (z, xv_mk I J) = some (none, (z, xv_mk W J)) ∧ l_C b n p s s (hh + 2 * (6 - o)) I W r ∧ l_MS ro b n p o H Jf X r
def l_e1 (b : Nat → Nat) (n p : Nat) : Prop := p < n → b p ≠ 42 ∧ b p ≠ 47 ∧ b p ≠ 37
theorem l_pft (o : Nat) (h : l_pop false o = true) : l_pop true o = true := by
  obtain ⟨h1, h2, h3⟩ := l_pop_t h
  unfold l_pop
  rcases h3 with h3 | ⟨h3, -⟩
  · simp; omega
  · cases h3
theorem l_hft {W : List (Nat × Nat)} (h : l_hs true W) : l_hs false W := by
  intro o v W' q
  have := h o v W' q
  cases c : l_pop false o with
  | true => rw [l_pft o c] at this; cases this
  | false => rfl
theorem l_addW (ro : xv_Ro) (d : Nat) (z : Nat × Nat) (I : Nat → Nat → Int32) (J : Nat → Nat → Int64) {s : Nat} (hs : I 13 7 = nI s) (h : s < 240) (a a2 : Int32) : ∃ W, xv_evm ro d 207 [.ref 13, .int a, .int a2] (z, xv_mk I J) = some (none, (z, xv_mk W J)) ∧ W 13 7 = nI (s + 1) ∧ (∀ i, i < s → W 14 i = I 14 i ∧ W 15 i = I 15 i) ∧ W 14 s = a ∧ W 15 s = a2 ∧ W 1 = I 1 ∧ W 2 = I 2 ∧ l_cf I W := by
  refine ⟨_, xq_ladd ro d z I J hs h a a2, xu_eq, fun i hi => ⟨by (repeat (first | rw [xu_ne2 (by omega)] | rw [xu_ne (by omega)] | rw [xu_eq])), by (repeat (first | rw [xu_ne2 (by omega)] | rw [xu_ne (by omega)] | rw [xu_eq]))⟩, by (repeat (first | rw [xu_ne2 (by omega)] | rw [xu_ne (by omega)] | rw [xu_eq])), by (repeat (first | rw [xu_ne2 (by omega)] | rw [xu_ne (by omega)] | rw [xu_eq])), by (repeat (first | rw [xu_ne2 (by omega)] | rw [xu_ne (by omega)] | rw [xu_eq])), by (repeat (first | rw [xu_ne2 (by omega)] | rw [xu_ne (by omega)] | rw [xu_eq])), fun a q1 q2 q3 q4 => by (repeat (first | rw [xu_ne2 (by omega)] | rw [xu_ne (by omega)] | rw [xu_eq])), fun j q1 q2 => by (repeat (first | rw [xu_ne2 (by omega)] | rw [xu_ne (by omega)] | rw [xu_eq])), fun j q => by (repeat (first | rw [xu_ne2 (by omega)] | rw [xu_ne (by omega)] | rw [xu_eq]))⟩
theorem xq_canOpen (ro : xv_Ro) (d : Nat) (z : Nat × Nat) (I : Nat → Nat → Int32) (J : Nat → Nat → Int64) {b : Nat → Nat} {n p o : Nat} (hC : tp_C b n p I) (ho : o ≤ 6) : xv_evm ro (d + 1) 221 [.ref 1, .int (nI o)] (z, xv_mk I J) = if o < 6 then some (some (.int 1), (z, xv_mk I J)) else some (some (.int 0), (z, xv_mk (xv_u2 I 1 4 (-1000 * 5 - nI p)) J)) := by
  have hp := xq_Tape_place ro d z I J
  rw [hC.2.2.2.1] at hp
  have hr := xq_refuse ro d z I J 5 (nI p) hC.2.2.2.2.1
  rw [xe_LawReader_canOpen]
  by_cases c : o < 6
  · have g : (nI o < 6) = True := by (simp (disch := omega) only [vz_all, if_true, if_false, true_or, or_true, eq_self, ite_not, Bool.false_eq_true, ite_self, and_self, true_and, and_true, false_and, and_false, not_true_eq_false, not_false_eq_true, false_or, or_false])
    have g2 : (6 ≤ nI o) = False := by (simp (disch := omega) only [vz_all, if_true, if_false, true_or, or_true, eq_self, ite_not, Bool.false_eq_true, ite_self, and_self, true_and, and_true, false_and, and_false, not_true_eq_false, not_false_eq_true, false_or, or_false])
    rw [if_pos c]
    simp only [xr_all, xf_all, if_true, if_false, true_or, or_true, eq_self, ite_not, Bool.false_eq_true, ite_self, and_self, true_and, and_true, false_and, and_false, not_true_eq_false, not_false_eq_true, xj_LawReader_canOpen, xb_LawReader_canOpen_0, xb_LawReader_canOpen_15, xb_LawReader_canOpen_25, xb_LawReader_canOpen_26, g, g2]
  · have g : (nI o < 6) = False := by (simp (disch := omega) only [vz_all, if_true, if_false, true_or, or_true, eq_self, ite_not, Bool.false_eq_true, ite_self, and_self, true_and, and_true, false_and, and_false, not_true_eq_false, not_false_eq_true, false_or, or_false])
    have g2 : (6 ≤ nI o) = True := by (simp (disch := omega) only [vz_all, if_true, if_false, true_or, or_true, eq_self, ite_not, Bool.false_eq_true, ite_self, and_self, true_and, and_true, false_and, and_false, not_true_eq_false, not_false_eq_true, false_or, or_false])
    rw [if_neg c]
    simp only [xr_all, xf_all, if_true, if_false, true_or, or_true, eq_self, ite_not, Bool.false_eq_true, ite_self, and_self, true_and, and_true, false_and, and_false, not_true_eq_false, not_false_eq_true, xj_LawReader_canOpen, xb_LawReader_canOpen_0, xb_LawReader_canOpen_15, xb_LawReader_canOpen_25, xb_LawReader_canOpen_26, g, g2, hp, hr]
theorem l_factor {ro : xv_Ro} {b : Nat → Nat} {n K : Nat} (hn : n ≤ 240) (hT : l_lv ro 217 (l_hs true) (l_J true) (l_ns b n) 5 3 b n K) : l_lv ro 219 (fun _ => True) (fun W T => some (W, T)) (fun _ => True) 3 1 b n (K + 1) := by
  intro p o s I z J d hk ho hC hs hsp hd
  obtain ⟨e, rfl⟩ : ∃ e, d = e + 3 := ⟨d - 3, by omega⟩
  have hpn := hC.2.1
  have hbb := fun hp : p < n => (hC.2.2.2.2.2 p hp).1
  have hsg := xq_sign ro (e + 2) z I J hC
  have z1 : ((1 : Int32) = 0) = False := eq_false (by decide)
  by_cases c91 : p < n ∧ b p = 91
  · obtain ⟨hp, hb⟩ := c91
    have ev : tp_c b n p = nI 91 := by rw [show tp_c b n p = nI (b p) from if_pos hp, hb]
    rw [ev] at hsg
    have g91 : (nI 91 = 91) = True := eq_true rfl
    have hco := xq_canOpen ro (e + 1) z I J hC ho
    by_cases c6 : o < 6
    · rw [if_pos c6] at hco
      have hst := xq_step ro (e + 2) z I J hC hp
      have hC1 := tp_Cs hC hp
      obtain ⟨r1, W1, k1, k2, k3⟩ := hT (p + 1) (o + 1) s _ z J (e + 2) (by omega) (by omega) hC1 (by (repeat (first | rw [xu_ne2 (by omega)] | rw [xu_ne (by omega)] | rw [xu_eq])); exact hs) (by omega) (by omega)
      have hh6 : 3 + 2 * (6 - (o + 1)) = 1 + 2 * (6 - o) := by omega
      rw [hh6] at k2
      have hpush : l_hs true ((14, 0) :: ([] : List (Nat × Nat))) := fun o v W' q => by cases q; rfl
      have hpu : ∀ W : List (Nat × Nat), l_hs true ((14, 0) :: W) := fun W o v W' q => by cases q; rfl
      have hou : ∀ W : List (Nat × Nat), l_oc ((14, 0) :: W) = l_oc W + 1 := fun W => by
        show (if 14 = 10 ∨ 14 = 13 ∨ 14 = 14 then 1 else 0) + l_oc W = _
        rw [if_pos (by omega), Nat.add_comm]
      have cls : ∀ W2, xv_evm ro (e + 2) 255 [.ref 1, .int 93] (z, xv_mk W1 J) = some (none, (z, xv_mk W2 J)) → xv_evm ro (e + 3) 219 [.ref 1, .ref 13, .int (nI o)] (z, xv_mk I J) = some (none, (z, xv_mk W2 J)) := by
        intro W2 hx
        rw [xe_LawReader_factor]
        simp only [xr_all, xf_all, if_true, if_false, true_or, or_true, eq_self, ite_not, Bool.false_eq_true, ite_self, and_self, true_and, and_true, false_and, and_false, not_true_eq_false, not_false_eq_true, xj_LawReader_factor, xb_LawReader_factor_0, xb_LawReader_factor_40, xb_LawReader_factor_60, xb_LawReader_factor_70, hsg, g91, hco, z1, hst, nI_1, k1, hx]
      match r1, k2, k3 with
      | .inl (f, q), k2, k3 =>
        obtain ⟨a1, a2, a3, a4, a5⟩ := k2
        have hdd : (W1 1 4 = 0) = False := by rw [a5]; exact tp_f f a1 a2 a3
        have hx := xq_expect_x ro e z W1 J (c := 93) hdd (by omega)
        rw [show nI 93 = (93 : Int32) from rfl] at hx
        refine ⟨.inl (f, q), W1, cls W1 hx, ⟨a1, a2, a3, l_cft (l_cf3 I _) a4, a5⟩, ?_⟩
        intro d z J bs x2 R M W T c hF hm hTT hop hbs _
        obtain ⟨V, s1, s2, s3, s4⟩ := l_sOpen hF hm hp hb (by omega)
        have := k3 d z J bs x2 R V ((14, 0) :: W) T c s1 s2 (by rw [s3]; exact hTT) (by rw [hou]; omega) (by show bs ≤ W.length + 1; omega) (hpu W)
        exact l_Bg s4 this
      | .inr (D, p2, s2), k2, k3 =>
        obtain ⟨a1, a2, a3, a4, a5, a6, a7⟩ := k2
        have hx := xq_expect ro e z W1 J (c := 93) a2 (by omega)
        rw [show nI 93 = (93 : Int32) from rfl] at hx
        by_cases c93 : p2 < n ∧ b p2 = 93
        · rw [if_pos c93] at hx
          refine ⟨.inr (D, p2 + 1, s2), _, cls _ hx, ⟨by omega, tp_Cs a2 c93.1, l_cft (l_cf3 I _) (l_cft a3 (l_cf3 W1 _)), by (repeat (first | rw [xu_ne2 (by omega)] | rw [xu_ne (by omega)] | rw [xu_eq])); exact a4, by omega, fun i hi => ?_, ?_⟩, ?_⟩
          · obtain ⟨q1, q2⟩ := a6 i hi
            exact ⟨by rw [xu_ne (by omega), q1, xu_ne (by omega)], by rw [xu_ne (by omega), q2, xu_ne (by omega)]⟩
          · rw [xu_ne (by omega), xu_ne (by omega)]; exact a7
          · refine ⟨?_, trivial⟩
            intro d z J bs x2 R M W T c hF hm hTT hop hbs _
            obtain ⟨V, t1, t2, t3, t4⟩ := l_sOpen hF hm hp hb (by omega)
            obtain ⟨V2, y2, W2, T2, c2, u1, u2, u3, u4, u5, u6, u7⟩ := k3.1 d z J bs x2 R V ((14, 0) :: W) T c t1 t2 (by rw [t3]; exact hTT) (by rw [hou]; omega) (by show bs ≤ W.length + 1; omega) (hpu W)
            obtain ⟨V3, c3, y3, v1, v2, v3, v4, v5, v6⟩ := l_sC (ro := ro) (d := d) (z := z) (J := J) (bs := bs) (x2 := y2) u2 c93.1 c93.2 u3 u4 hbs
            exact ⟨V3, y3, W, (D, c) :: T, c3, u1.trans v1, v2, v3, rfl, by omega, fun j hj => by rw [v5 j (by omega), u6 j hj, t3], l_gt t4 (l_gt u7 v6)⟩
        · rw [if_neg c93] at hx
          refine ⟨.inl (1, p2), _, cls _ hx, ⟨by omega, by omega, by have := a2.2.1; omega, l_cft (l_cf3 I _) (l_cft a3 (l_cf4 W1 _)), xu_eq⟩, ?_⟩
          intro d z J bs x2 R M W T c hF hm hTT hop hbs _
          obtain ⟨V, t1, t2, t3, t4⟩ := l_sOpen hF hm hp hb (by omega)
          obtain ⟨V2, y2, W2, T2, c2, u1, u2, u3, u4, u5, u6, u7⟩ := k3.1 d z J bs x2 R V ((14, 0) :: W) T c t1 t2 (by rw [t3]; exact hTT) (by rw [hou]; omega) (by show bs ≤ W.length + 1; omega) (hpu W)
          have := l_sE (ro := ro) (d := d) (z := z) (J := J) (bs := bs) (x2 := y2) u2 k3.2 (fun q1 q2 => c93 ⟨q1, q2⟩) u4 hbs
          rw [u1]
          exact l_Bg (l_gt t4 u7) this
    · rw [if_neg c6] at hco
      refine ⟨.inl (5, p), _, ?_, ⟨by omega, by omega, by have := hC.1; omega, l_cf4 I (-1000 * 5 - nI p), xu_eq⟩, ?_⟩
      · rw [xe_LawReader_factor]
        simp only [xr_all, xf_all, if_true, if_false, true_or, or_true, eq_self, ite_not, Bool.false_eq_true, ite_self, and_self, true_and, and_true, false_and, and_false, not_true_eq_false, not_false_eq_true, xj_LawReader_factor, xb_LawReader_factor_0, xb_LawReader_factor_40, xb_LawReader_factor_60, xb_LawReader_factor_70, hsg, g91, hco]
      · intro d z J bs x2 R M W T c hF hm hTT hop hbs _
        exact l_sXo hF hm hp hb (by omega)
  · have g91 := l_ne_c (c := 91) hbb (by omega) (fun q1 q2 => c91 ⟨q1, q2⟩)
    rw [show nI 91 = (91 : Int32) from rfl] at g91
    by_cases cl : p < n ∧ (l_let (b p)).isSome = true
    · obtain ⟨hp, hl⟩ := cl
      obtain ⟨f, hf⟩ : ∃ f, l_let (b p) = some f := by
        cases q : l_let (b p) with
        | none => rw [q] at hl; cases hl
        | some f => exact ⟨f, rfl⟩
      have hil := xq_isLetter ro (e + 2) (z, xv_mk I J) (c := b p) (hbb hp)
      rw [if_pos hl] at hil
      have ev : tp_c b n p = nI (b p) := if_pos hp
      rw [ev] at hsg g91
      have hst := xq_step ro (e + 2) z I J hC hp
      obtain ⟨W, w1, w2, w3, w4, w5, w6, w7, w8⟩ := l_addW ro (e + 2) z (xv_u2 I 1 3 (nI (p + 1))) J (s := s) (by (repeat (first | rw [xu_ne2 (by omega)] | rw [xu_ne (by omega)] | rw [xu_eq])); exact hs) (by omega) (nI (b p)) 0
      refine ⟨.inr (fun F => some (F f), p + 1, s + 1), W, ?_, ⟨by omega, tp_Cc (tp_Cs hC hp) (fun j _ => by rw [w6]) w7, l_cft (l_cf3 I _) w8, w2, by omega, fun i hi => ?_, l_cS_c (l_c_let w4 hf) (fun _ _ _ => ⟨rfl, rfl⟩) (by omega)⟩, ?_⟩
      · rw [xe_LawReader_factor]
        simp only [xr_all, xf_all, if_true, if_false, true_or, or_true, eq_self, ite_not, Bool.false_eq_true, ite_self, and_self, true_and, and_true, false_and, and_false, not_true_eq_false, not_false_eq_true, xj_LawReader_factor, xb_LawReader_factor_0, xb_LawReader_factor_40, xb_LawReader_factor_60, xb_LawReader_factor_70, hsg, g91, hil, z1, hst, w1]
      · obtain ⟨q1, q2⟩ := w3 i hi
        exact ⟨by rw [q1, xu_ne (by omega)], by rw [q2, xu_ne (by omega)]⟩
      · refine ⟨?_, trivial⟩
        intro d z J bs x2 R M W T c hF hm hTT hop hbs _
        obtain ⟨V, x2', c', v1, v2, v3, v4, v5, v6⟩ := l_sLet hF hm hp hf hTT
        exact ⟨V, x2', W, _, c', v1, v2, v3, rfl, v4, v5, v6⟩
    · have hil : xv_evm ro (e + 2) 192 [.int (tp_c b n p)] (z, xv_mk I J) = some (some (.int 0), (z, xv_mk I J)) := by
        by_cases hp : p < n
        · have := xq_isLetter ro (e + 2) (z, xv_mk I J) (c := b p) (hbb hp)
          rw [if_neg (fun q => cl ⟨hp, q⟩)] at this
          rw [show tp_c b n p = nI (b p) from if_pos hp]
          exact this
        · rw [show tp_c b n p = -1 from if_neg hp]
          exact xq_isLetter_x ro (e + 2) (z, xv_mk I J)
      obtain ⟨W1, v, k1, k2, k3, k4⟩ := l_cnum ro e z J I hC
      have hs1 : W1 13 7 = nI s := by rw [k2.1 13 (by omega)]; exact hs
      cases hd1 : tp_d b n p with
      | none =>
        obtain ⟨W2, w1, w2, w3⟩ := xq_ladd_any ro (e + 2) z W1 J 48 v
        refine ⟨.inl (1, p), W2, ?_, ⟨by omega, by omega, by have := hC.1; omega, l_cft (l_cf_t k2) w2, by rw [w3]; exact k3 hd1⟩, ?_⟩
        · rw [xe_LawReader_factor]
          simp only [xr_all, xf_all, if_true, if_false, true_or, or_true, eq_self, ite_not, Bool.false_eq_true, ite_self, and_self, true_and, and_true, false_and, and_false, not_true_eq_false, not_false_eq_true, xj_LawReader_factor, xb_LawReader_factor_0, xb_LawReader_factor_40, xb_LawReader_factor_60, xb_LawReader_factor_70, hsg, g91, hil, k1, w1]
        · intro d z J bs x2 R M W T c hF hm hTT hop hbs _
          refine l_sX1 hF hm (fun hp => ⟨fun q => c91 ⟨hp, q⟩, ?_, fun q => ?_⟩)
          · cases q : l_let (b p) with
            | none => rfl
            | some f => exact absurd ⟨hp, by rw [q]; rfl⟩ cl
          · unfold tp_d at hd1
            rw [if_pos ⟨hp, q.1, q.2⟩] at hd1; cases hd1
      | some v0 =>
        have hd2 : (tp_d b n p).isSome = true := by rw [hd1]; rfl
        obtain ⟨m1, m2⟩ := k4 hd2
        have hp := (tp_d_s hd1).1
        cases hnu : l_nu b n 5 p 0 with
        | inl fq =>
          obtain ⟨f, q⟩ := fq
          obtain ⟨f2, qn⟩ := l_nu_q 5 p 0 f q hnu
          obtain ⟨W2, w1, w2, w3⟩ := xq_ladd_any ro (e + 2) z W1 J 48 v
          have hn2 := hC.1
          refine ⟨.inl (f, q), W2, ?_, ⟨by omega, by omega, by omega, l_cft (l_cf_t k2) w2, by rw [w3]; exact m1 f q hnu⟩, ?_⟩
          · rw [xe_LawReader_factor]
            simp only [xr_all, xf_all, if_true, if_false, true_or, or_true, eq_self, ite_not, Bool.false_eq_true, ite_self, and_self, true_and, and_true, false_and, and_false, not_true_eq_false, not_false_eq_true, xj_LawReader_factor, xb_LawReader_factor_0, xb_LawReader_factor_40, xb_LawReader_factor_60, xb_LawReader_factor_70, hsg, g91, hil, k1, w1]
          · intro d z J bs x2 R M W T c hF hm hTT hop hbs _
            exact (l_sNum hF hm hd2).1 f q hnu
        | inr ap =>
          obtain ⟨a, p'⟩ := ap
          obtain ⟨n1, n2⟩ := m2 a p' hnu
          obtain ⟨n3, n4⟩ := l_nu_b 5 p 0 a p' hnu
          have n5 : p < p' := by
            rcases Nat.lt_or_eq_of_le n4 with q | q
            · exact q
            · exfalso
              unfold l_nu at hnu
              rw [hd1] at hnu
              have := (l_nu_b 4 (p + 1) _ a p' hnu).2
              omega
          obtain ⟨W2, w1, w2, w3, w4, w5, w6, w7, w8⟩ := l_addW ro (e + 2) z W1 J (s := s) hs1 (by omega) 48 v
          refine ⟨.inr (fun _ => some (nI a), p', s + 1), W2, ?_, ⟨n4, tp_Cc n2 (fun j _ => by rw [w6]) w7, l_cft (l_cf_t k2) w8, w2, by omega, fun i hi => ?_, l_cS_c (l_c_num w4 (w5.trans n1)) (fun _ _ _ => ⟨rfl, rfl⟩) (by omega)⟩, ?_⟩
          · rw [xe_LawReader_factor]
            simp only [xr_all, xf_all, if_true, if_false, true_or, or_true, eq_self, ite_not, Bool.false_eq_true, ite_self, and_self, true_and, and_true, false_and, and_false, not_true_eq_false, not_false_eq_true, xj_LawReader_factor, xb_LawReader_factor_0, xb_LawReader_factor_40, xb_LawReader_factor_60, xb_LawReader_factor_70, hsg, g91, hil, k1, w1]
          · obtain ⟨q1, q2⟩ := w3 i hi
            exact ⟨by rw [q1, k2.1 14 (by omega)], by rw [q2, k2.1 15 (by omega)]⟩
          · refine ⟨?_, trivial⟩
            intro d z J bs x2 R M W T c hF hm hTT hop hbs _
            obtain ⟨V, x2', c', v1, v2, v3, v4, v5, v6⟩ := (l_sNum hF hm hd2).2 a p' T hnu hTT
            exact ⟨V, x2', W, _, c', v1, v2, v3, rfl, v4, v5, v6⟩
def l_q_factors (b : Nat → Nat) (p w : Nat) : Prop := (b p = 42 ∧ w = 4) ∨ (b p = 47 ∧ w = 5) ∨ (b p = 37 ∧ w = 6)
theorem l_lp_factors {ro : xv_Ro} {b : Nat → Nat} {n K : Nat} (hn : n ≤ 240) (hY : l_lv ro 219 (fun _ => True) (fun W T => some (W, T)) (fun _ => True) 3 1 b n K) : ∀ (k p i o s0 s : Nat) (acc : l_D) (I : Nat → Nat → Int32) (J : Nat → Nat → Int64) (z : Nat × Nat) (e : Nat), n - p < k → i ≤ p → k ≤ K → o ≤ 6 → tp_C b n p I → I 13 7 = nI s → s ≤ p → 3 + 3 * (6 - o) ≤ e + 3 → l_cS (I 14) (I 15) s0 s (2 + 2 * (6 - o)) acc → (fun _ => True) p → ∃ (r : l_R) (W : Nat → Nat → Int32), xv_ev ro (e + 4) xm_LawReader_factors xb_LawReader_factors_14 [some (.ref 1), some (.ref 13), some (.int (nI o)), some (.int (tp_c b n p)), some (.int (nI i))] [] (z, xv_mk I J) = some (none, (z, xv_mk W J)) ∧ l_C b n p s0 s (2 + 2 * (6 - o)) I W r ∧ l_ML ro b n p o (l_hs false) (l_J false) (l_e1 b n) acc r := by
  intro k
  induction k with
  | zero => intro p i o s0 s acc I J z e hk; omega
  | succ k ih =>
    intro p i o s0 s acc I J z e hk hi hkK ho hC hs hsp he hcS hex
    have hpn := hC.2.1
    have hbb := fun hp : p < n => (hC.2.2.2.2.2 p hp).1
    have s0s := hcS.1
    by_cases c : p < n ∧ ∃ w, l_q_factors b p w
    · obtain ⟨hp, w, hw⟩ := c
      have gi : (240 ≤ nI i) = False := by (simp (disch := omega) only [vz_all, if_true, if_false, true_or, or_true, eq_self, ite_not, Bool.false_eq_true, ite_self, and_self, true_and, and_true, false_and, and_false, not_true_eq_false, not_false_eq_true, false_or, or_false])
      have hw2 : 2 ≤ w ∧ w ≤ 6 := by unfold l_q_factors at hw; omega
      have hchw : b p = l_ch w := by
        unfold l_q_factors at hw
        rcases hw with ⟨h1, rfl⟩ | ⟨h1, rfl⟩ | ⟨h1, rfl⟩ <;> exact h1
      have hpop : l_pop false w = true := by
        unfold l_q_factors at hw
        rcases hw with ⟨h1, rfl⟩ | ⟨h1, rfl⟩ | ⟨h1, rfl⟩ <;> rfl
      have hdec : decide (w < 4) = false := by
        unfold l_q_factors at hw
        rcases hw with ⟨h1, rfl⟩ | ⟨h1, rfl⟩ | ⟨h1, rfl⟩ <;> rfl
      have ev : tp_c b n p = nI (b p) := if_pos hp
      have hst := xq_step ro (e + 3) z I J hC hp
      have hC1 := tp_Cs hC hp
      obtain ⟨r1, W1, k1, k2, k3⟩ := hY (p + 1) o s _ z J (e + 3) (by omega) ho hC1 (by (repeat (first | rw [xu_ne2 (by omega)] | rw [xu_ne (by omega)] | rw [xu_eq])); exact hs) (by omega) (by omega)
      have hou : ∀ W : List (Nat × Nat), l_oc ((w, 0) :: W) = l_oc W := fun W => by
        show (if w = 10 ∨ w = 13 ∨ w = 14 then 1 else 0) + l_oc W = _
        rw [if_neg (by omega), Nat.zero_add]
      have hpu : ∀ W : List (Nat × Nat), (fun _ => True) ((w, 0) :: W) := fun _ => trivial
      have cls : ∀ W2 sg, xv_evm ro (e + 3) 207 [.ref 13, .int (nI (b p)), .int 0] (z, xv_mk W1 J) = some (none, (z, xv_mk W2 J)) → xv_evm ro (e + 3) 251 [.ref 1] (z, xv_mk W2 J) = some (some (.int sg), (z, xv_mk W2 J)) → xv_ev ro (e + 4) xm_LawReader_factors xb_LawReader_factors_14 [some (.ref 1), some (.ref 13), some (.int (nI o)), some (.int (tp_c b n p)), some (.int (nI i))] [] (z, xv_mk I J) = xv_ev ro (e + 4) xm_LawReader_factors xb_LawReader_factors_14 [some (.ref 1), some (.ref 13), some (.int (nI o)), some (.int (sg)), some (.int (nI (i + 1)))] [] (z, xv_mk W2 J) := by
        intro W2 sg hx hx2
        rw [ev]
        conv => lhs; unfold xb_LawReader_factors_14
        unfold l_q_factors at hw
        rcases hw with ⟨h1, rfl⟩ | ⟨h1, rfl⟩ | ⟨h1, rfl⟩
        · rw [h1] at hx ⊢
          have g42 : (nI 42 = 42) = True := eq_true rfl
          simp only [xr_all, xf_all, if_true, if_false, true_or, or_true, eq_self, ite_not, Bool.false_eq_true, ite_self, and_self, true_and, and_true, false_and, and_false, not_true_eq_false, not_false_eq_true, xj_LawReader_factors, xb_LawReader_factors_0, xb_LawReader_factors_40, xb_LawReader_factors_67, gi, g42, hst, k1, hx, hx2, nI_1]
        · rw [h1] at hx ⊢
          have g42 : (nI 47 = 42) = False := eq_false (by decide)
          have g47 : (nI 47 = 47) = True := eq_true rfl
          simp only [xr_all, xf_all, if_true, if_false, true_or, or_true, eq_self, ite_not, Bool.false_eq_true, ite_self, and_self, true_and, and_true, false_and, and_false, not_true_eq_false, not_false_eq_true, xj_LawReader_factors, xb_LawReader_factors_0, xb_LawReader_factors_40, xb_LawReader_factors_67, gi, g42, g47, hst, k1, hx, hx2, nI_1]
        · rw [h1] at hx ⊢
          have g42 : (nI 37 = 42) = False := eq_false (by decide)
          have g47 : (nI 37 = 47) = False := eq_false (by decide)
          have g37 : (nI 37 = 37) = True := eq_true rfl
          simp only [xr_all, xf_all, if_true, if_false, true_or, or_true, eq_self, ite_not, Bool.false_eq_true, ite_self, and_self, true_and, and_true, false_and, and_false, not_true_eq_false, not_false_eq_true, xj_LawReader_factors, xb_LawReader_factors_0, xb_LawReader_factors_40, xb_LawReader_factors_67, gi, g42, g47, g37, hst, k1, hx, hx2, nI_1]
      match r1, k2, k3 with
      | .inl (f, q), k2, k3 =>
        obtain ⟨a1, a2, a3, a4, a5⟩ := k2
        have hd : (W1 1 4 = 0) = False := by rw [a5]; exact tp_f f a1 a2 a3
        obtain ⟨W2, w1, w2, w3⟩ := xq_ladd_any ro (e + 3) z W1 J (nI (b p)) 0
        have hsx := xq_sign_x ro (e + 3) z W2 J (by rw [w3]; exact hd)
        refine ⟨.inl (f, q), W2, (cls W2 (-1) w1 hsx).trans (l_d_factors ro e z W2 J (nI o) _), ⟨a1, a2, a3, l_cft (l_cf3 I _) (l_cft a4 w2), by rw [w3]; exact a5⟩, ?_⟩
        intro d z J bs x2 M W T c W0 T0 c0 hm hTT hj hop hbs hH
        obtain ⟨V, c', x2', t1, t2, t3, t4, t5, t6⟩ := l_sP (ro := ro) (d := d) (z := z) (J := J) (bs := bs) (x2 := x2) (w := w) hm hp hw2 hchw hTT (by rw [hdec]; exact hj)
        exact l_Bg t6 (k3 d z J bs x2' _ V ((w, 0) :: W) _ c' t1 t2 t3 (by rw [hou]; exact hop) (by show bs ≤ W.length + 1; omega) (hpu W))
      | .inr (D2, p2, s2), k2, k3 =>
        obtain ⟨a1, a2, a3, a4, a5, a6, a7⟩ := k2
        have p2n := a2.2.1
        obtain ⟨W2, w1, w2, w3, w4, w5, w6, w7, w8⟩ := l_addW ro (e + 3) z W1 J (s := s2) a4 (by omega) (nI (b p)) 0
        have hC2 : tp_C b n p2 W2 := tp_Cc a2 (fun j _ => by rw [w6]) w7
        have hsx := xq_sign ro (e + 3) z W2 J hC2
        have s2s := a7.1
        have hpre : ∀ i, i < s → W2 14 i = I 14 i ∧ W2 15 i = I 15 i := fun i hi => by
          obtain ⟨q1, q2⟩ := a6 i hi
          obtain ⟨q3, q4⟩ := w3 i (by omega)
          exact ⟨by rw [q3, q1, xu_ne (by omega)], by rw [q4, q2, xu_ne (by omega)]⟩
        have hcS2 : l_cS (W2 14) (W2 15) s0 (s2 + 1) (2 + 2 * (6 - o)) (l_bin w acc D2) := l_c_op (l_cS_c hcS (fun i _ q => hpre i q) (Nat.le_refl _)) (l_cS_c a7 (fun i _ q => w3 i q) (Nat.le_refl _)) (by omega) (by rw [← hchw]; exact w4) (Nat.le_refl _) (by omega)
        obtain ⟨r, W, l1, l2, l3⟩ := ih p2 (i + 1) o s0 (s2 + 1) (l_bin w acc D2) W2 J z e (by omega) (by omega) (by omega) ho hC2 w2 (by omega) he hcS2 k3.2
        refine ⟨r, W, (cls W2 _ w1 hsx).trans l1, ?_, ?_⟩
        · have hcf : l_cf I W2 := l_cft (l_cf3 I _) (l_cft a3 w8)
          match r, l2 with
          | .inl (f, q), l2 =>
            obtain ⟨b1, b2, b3, b4, b5⟩ := l2
            exact ⟨b1, b2, b3, l_cft hcf b4, b5⟩
          | .inr (D, p', s'), l2 =>
            obtain ⟨b1, b2, b3, b4, b5, b6, b7⟩ := l2
            exact ⟨by omega, b2, l_cft hcf b3, b4, by omega, fun i hi => ⟨(b6 i hi).1.trans (hpre i (by omega)).1, (b6 i hi).2.trans (hpre i (by omega)).2⟩, b7⟩
        · have step : ∀ (d : Nat) (z : Nat × Nat) (J : Nat → Nat → Int64) (bs : Nat) (x2 : Option Value) (M : Nat → Nat → Int32) (W : List (Nat × Nat)) (T : List (l_D × Nat)) (c : Nat) (W0 : List (Nat × Nat)) (T0 : List (l_D × Nat)) (c0 : Nat), l_s M b n p W0 c0 → l_T (M 174) T0 c0 → l_J false W0 T0 = some (W, (acc, c) :: T) → l_oc W = o → bs ≤ W.length → l_hs false W → ∃ (V : Nat → Nat → Int32) (x2' : Option Value) (W1 : List (Nat × Nat)) (T1 : List (l_D × Nat)) (c1 : Nat), l_HL ro d z J bs x2 M = l_HL ro d z J bs x2' V ∧ l_s V b n p2 W1 c1 ∧ l_T (V 174) T1 c1 ∧ l_J false W1 T1 = some (W, (l_bin w acc D2, c) :: T) ∧ c0 ≤ c1 ∧ (∀ j, j < c0 → V 174 j = M 174 j) ∧ l_g M V := by
            intro d z J bs x2 M W T c W0 T0 c0 hm hTT hj hop hbs hH
            obtain ⟨V, c', x2', t1, t2, t3, t4, t5, t6⟩ := l_sP (ro := ro) (d := d) (z := z) (J := J) (bs := bs) (x2 := x2) (w := w) hm hp hw2 hchw hTT (by rw [hdec]; exact hj)
            obtain ⟨V2, x3, W3, T3, c3, u1, u2, u3, u4, u5, u6, u7⟩ := k3.1 d z J bs x2' _ V ((w, 0) :: W) _ c' t1 t2 t3 (by rw [hou]; exact hop) (by show bs ≤ W.length + 1; omega) (hpu W)
            refine ⟨V2, x3, W3, T3, c3, u1, u2, u3, ?_, by omega, fun j hj => by rw [u6 j (by omega), t5 j hj], l_gt t6 u7⟩
            cases u4; exact l_Jo hpop hH
          match r, l3 with
          | .inl (f, q), l3 =>
            intro d z J bs x2 M W T c W0 T0 c0 hm hTT hj hop hbs hH
            obtain ⟨V, x3, W3, T3, c3, u1, u2, u3, u4, u5, u6, u7⟩ := step d z J bs x2 M W T c W0 T0 c0 hm hTT hj hop hbs hH
            rw [u1]
            exact l_Bg u7 (l3 d z J bs x3 V W T c W3 T3 c3 u2 u3 u4 hop hbs hH)
          | .inr (D, p', s'), l3 =>
            refine ⟨?_, l3.2⟩
            intro d z J bs x2 M W T c W0 T0 c0 hm hTT hj hop hbs hH
            obtain ⟨V, x3, W3, T3, c3, u1, u2, u3, u4, u5, u6, u7⟩ := step d z J bs x2 M W T c W0 T0 c0 hm hTT hj hop hbs hH
            obtain ⟨V4, x4, W4, T4, c4, v1, v2, v3, v4, v5, v6, v7⟩ := l3.1 d z J bs x3 V W T c W3 T3 c3 u2 u3 u4 hop hbs hH
            exact ⟨V4, x4, W4, T4, c4, u1.trans v1, v2, v3, v4, by omega, fun j hj => by rw [v6 j (by omega), u6 j hj], l_gt u7 v7⟩
    · have hno : p < n → b p ≠ 42 ∧ b p ≠ 47 ∧ b p ≠ 37 := by
        refine fun q1 => ⟨fun q2 => c ⟨q1, 4, Or.inl (⟨q2, rfl⟩)⟩, fun q2 => c ⟨q1, 5, Or.inr (Or.inl (⟨q2, rfl⟩))⟩, fun q2 => c ⟨q1, 6, Or.inr (Or.inr (⟨q2, rfl⟩))⟩⟩
      have g := hno
      have g42 := l_ne_c (c := 42) hbb (by omega) (fun q => (hno q).1)
      rw [show nI 42 = (42 : Int32) from rfl] at g42
      have g47 := l_ne_c (c := 47) hbb (by omega) (fun q => (hno q).2.1)
      rw [show nI 47 = (47 : Int32) from rfl] at g47
      have g37 := l_ne_c (c := 37) hbb (by omega) (fun q => (hno q).2.2)
      rw [show nI 37 = (37 : Int32) from rfl] at g37
      refine ⟨.inr (acc, p, s), I, ?_, ⟨Nat.le_refl _, hC, l_cfr I, hs, Nat.le_refl _, fun _ _ => ⟨rfl, rfl⟩, hcS⟩, ?_⟩
      · conv => lhs; unfold xb_LawReader_factors_14
        by_cases ci : i < 240
        · have g : (240 ≤ nI i) = False := by (simp (disch := omega) only [vz_all, if_true, if_false, true_or, or_true, eq_self, ite_not, Bool.false_eq_true, ite_self, and_self, true_and, and_true, false_and, and_false, not_true_eq_false, not_false_eq_true, false_or, or_false])
          simp only [xr_all, xf_all, if_true, if_false, true_or, or_true, eq_self, ite_not, Bool.false_eq_true, ite_self, and_self, true_and, and_true, false_and, and_false, not_true_eq_false, not_false_eq_true, xj_LawReader_factors, xb_LawReader_factors_0, xb_LawReader_factors_40, xb_LawReader_factors_67, g, g42, g47, g37]
        · have g : (240 ≤ nI i) = True := by (simp (disch := omega) only [vz_all, if_true, if_false, true_or, or_true, eq_self, ite_not, Bool.false_eq_true, ite_self, and_self, true_and, and_true, false_and, and_false, not_true_eq_false, not_false_eq_true, false_or, or_false])
          simp only [xr_all, xf_all, if_true, if_false, true_or, or_true, eq_self, ite_not, Bool.false_eq_true, ite_self, and_self, true_and, and_true, false_and, and_false, not_true_eq_false, not_false_eq_true, xj_LawReader_factors, xb_LawReader_factors_0, xb_LawReader_factors_40, xb_LawReader_factors_67, g]
      · refine ⟨?_, ?_⟩
        · intro d z J bs x2 M W T c W0 T0 c0 hm hTT hj hop hbs hH
          exact ⟨M, x2, W0, T0, c0, rfl, hm, hTT, hj, Nat.le_refl _, fun _ _ => rfl, l_gr M⟩
        · exact hno
theorem l_lv_factors {ro : xv_Ro} {b : Nat → Nat} {n K : Nat} (hn : n ≤ 240) (hY : l_lv ro 219 (fun _ => True) (fun W T => some (W, T)) (fun _ => True) 3 1 b n K) : l_lv ro 218 (l_hs false) (l_J false) (l_e1 b n) 4 2 b n K := by
  intro p o s I z J d hk ho hC hs hsp hd
  obtain ⟨e, rfl⟩ : ∃ e, d = e + 4 := ⟨d - 4, by omega⟩
  have hpn := hC.2.1
  obtain ⟨r1, W1, k1, k2, k3⟩ := hY p o s I z J (e + 3) hk ho hC hs hsp (by omega)
  have cls : ∀ sg, xv_evm ro (e + 3) 251 [.ref 1] (z, xv_mk W1 J) = some (some (.int sg), (z, xv_mk W1 J)) → xv_evm ro (e + 4) 218 [.ref 1, .ref 13, .int (nI o)] (z, xv_mk I J) = xv_ev ro (e + 4) xm_LawReader_factors xb_LawReader_factors_14 [some (.ref 1), some (.ref 13), some (.int (nI o)), some (.int (sg)), some (.int (nI 0))] [] (z, xv_mk W1 J) := by
    intro sg hx
    rw [xe_LawReader_factors, show nI 0 = (0 : Int32) from rfl]
    simp only [xr_all, xf_all, if_true, if_false, true_or, or_true, eq_self, ite_not, Bool.false_eq_true, ite_self, and_self, true_and, and_true, false_and, and_false, not_true_eq_false, not_false_eq_true, xj_LawReader_factors, xb_LawReader_factors_0, xb_LawReader_factors_40, xb_LawReader_factors_67, k1, hx]
  have hHH : ∀ W : List (Nat × Nat), l_hs false W → (fun _ => True) W := fun _ _ => trivial
  match r1, k2, k3 with
  | .inl (f, q), k2, k3 =>
    obtain ⟨a1, a2, a3, a4, a5⟩ := k2
    have hdd : (W1 1 4 = 0) = False := by rw [a5]; exact tp_f f a1 a2 a3
    have hsx := xq_sign_x ro (e + 3) z W1 J hdd
    exact ⟨.inl (f, q), W1, (cls (-1) hsx).trans (l_d_factors ro e z W1 J (nI o) _), ⟨a1, a2, a3, a4, a5⟩, fun d z J bs x2 R M W T c hF hm hTT hop hbs hH => k3 d z J bs x2 R M W T c hF hm hTT hop hbs (hHH W hH)⟩
  | .inr (D2, p2, s2), k2, k3 =>
    obtain ⟨a1, a2, a3, a4, a5, a6, a7⟩ := k2
    have hsx := xq_sign ro (e + 3) z W1 J a2
    have p2n := a2.2.1
    obtain ⟨r, W, l1, l2, l3⟩ := l_lp_factors hn hY K p2 0 o s s2 D2 W1 J z e (by omega) (by omega) (Nat.le_refl _) ho a2 a4 (by omega) (by omega) (l_cS_c a7 (fun _ _ _ => ⟨rfl, rfl⟩) (by omega)) k3.2
    refine ⟨r, W, (cls _ hsx).trans l1, ?_, ?_⟩
    · match r, l2 with
      | .inl (f, q), l2 =>
        obtain ⟨b1, b2, b3, b4, b5⟩ := l2
        exact ⟨b1, b2, b3, l_cft a3 b4, b5⟩
      | .inr (D, p', s'), l2 =>
        obtain ⟨b1, b2, b3, b4, b5, b6, b7⟩ := l2
        exact ⟨by omega, b2, l_cft a3 b3, b4, by omega, fun i hi => ⟨(b6 i hi).1.trans (a6 i hi).1, (b6 i hi).2.trans (a6 i hi).2⟩, b7⟩
    · have step : ∀ (d : Nat) (z : Nat × Nat) (J : Nat → Nat → Int64) (bs : Nat) (x2 : Option Value) (R : Option (Option Value × xv_S)) (M : Nat → Nat → Int32) (W : List (Nat × Nat)) (T : List (l_D × Nat)) (c : Nat), l_F ro d z J bs x2 R M → l_s M b n p W c → l_T (M 174) T c → l_oc W = o → bs ≤ W.length → l_hs false W → ∃ (V : Nat → Nat → Int32) (x2' : Option Value) (W1 : List (Nat × Nat)) (T1 : List (l_D × Nat)) (c1 : Nat), R = l_HL ro d z J bs x2' V ∧ l_s V b n p2 W1 c1 ∧ l_T (V 174) T1 c1 ∧ l_J false W1 T1 = some (W, (D2, c) :: T) ∧ c ≤ c1 ∧ (∀ j, j < c → V 174 j = M 174 j) ∧ l_g M V := by
        intro d z J bs x2 R M W T c hF hm hTT hop hbs hH
        obtain ⟨V2, x3, W3, T3, c3, u1, u2, u3, u4, u5, u6, u7⟩ := k3.1 d z J bs x2 R M W T c hF hm hTT hop hbs (hHH W hH)
        refine ⟨V2, x3, W3, T3, c3, u1, u2, u3, ?_, u5, u6, u7⟩
        cases u4; exact l_Jh hH _
      match r, l3 with
      | .inl (f, q), l3 =>
        intro d z J bs x2 R M W T c hF hm hTT hop hbs hH
        obtain ⟨V, x3, W3, T3, c3, u1, u2, u3, u4, u5, u6, u7⟩ := step d z J bs x2 R M W T c hF hm hTT hop hbs hH
        rw [u1]
        exact l_Bg u7 (l3 d z J bs x3 V W T c W3 T3 c3 u2 u3 u4 hop hbs hH)
      | .inr (D, p', s'), l3 =>
        refine ⟨?_, l3.2⟩
        intro d z J bs x2 R M W T c hF hm hTT hop hbs hH
        obtain ⟨V, x3, W3, T3, c3, u1, u2, u3, u4, u5, u6, u7⟩ := step d z J bs x2 R M W T c hF hm hTT hop hbs hH
        obtain ⟨V4, x4, W4, T4, c4, v1, v2, v3, v4, v5, v6, v7⟩ := l3.1 d z J bs x3 V W T c W3 T3 c3 u2 u3 u4 hop hbs hH
        exact ⟨V4, x4, W4, T4, c4, u1.trans v1, v2, v3, v4, by omega, fun j hj => by rw [v6 j (by omega), u6 j hj], l_gt u7 v7⟩
def l_q_terms (b : Nat → Nat) (p w : Nat) : Prop := (b p = 43 ∧ w = 2) ∨ (b p = 45 ∧ w = 3)
theorem l_lp_terms {ro : xv_Ro} {b : Nat → Nat} {n K : Nat} (hn : n ≤ 240) (hY : l_lv ro 218 (l_hs false) (l_J false) (l_e1 b n) 4 2 b n K) : ∀ (k p i o s0 s : Nat) (acc : l_D) (I : Nat → Nat → Int32) (J : Nat → Nat → Int64) (z : Nat × Nat) (e : Nat), n - p < k → i ≤ p → k ≤ K → o ≤ 6 → tp_C b n p I → I 13 7 = nI s → s ≤ p → 4 + 3 * (6 - o) ≤ e + 4 → l_cS (I 14) (I 15) s0 s (3 + 2 * (6 - o)) acc → (l_e1 b n) p → ∃ (r : l_R) (W : Nat → Nat → Int32), xv_ev ro (e + 5) xm_LawReader_terms xb_LawReader_terms_14 [some (.ref 1), some (.ref 13), some (.int (nI o)), some (.int (tp_c b n p)), some (.int (nI i))] [] (z, xv_mk I J) = some (none, (z, xv_mk W J)) ∧ l_C b n p s0 s (3 + 2 * (6 - o)) I W r ∧ l_ML ro b n p o (l_hs true) (l_J true) (l_ns b n) acc r := by
  intro k
  induction k with
  | zero => intro p i o s0 s acc I J z e hk; omega
  | succ k ih =>
    intro p i o s0 s acc I J z e hk hi hkK ho hC hs hsp he hcS hex
    have hpn := hC.2.1
    have hbb := fun hp : p < n => (hC.2.2.2.2.2 p hp).1
    have s0s := hcS.1
    by_cases c : p < n ∧ ∃ w, l_q_terms b p w
    · obtain ⟨hp, w, hw⟩ := c
      have gi : (240 ≤ nI i) = False := by (simp (disch := omega) only [vz_all, if_true, if_false, true_or, or_true, eq_self, ite_not, Bool.false_eq_true, ite_self, and_self, true_and, and_true, false_and, and_false, not_true_eq_false, not_false_eq_true, false_or, or_false])
      have hw2 : 2 ≤ w ∧ w ≤ 6 := by unfold l_q_terms at hw; omega
      have hchw : b p = l_ch w := by
        unfold l_q_terms at hw
        rcases hw with ⟨h1, rfl⟩ | ⟨h1, rfl⟩ <;> exact h1
      have hpop : l_pop true w = true := by
        unfold l_q_terms at hw
        rcases hw with ⟨h1, rfl⟩ | ⟨h1, rfl⟩ <;> rfl
      have hdec : decide (w < 4) = true := by
        unfold l_q_terms at hw
        rcases hw with ⟨h1, rfl⟩ | ⟨h1, rfl⟩ <;> rfl
      have ev : tp_c b n p = nI (b p) := if_pos hp
      have hst := xq_step ro (e + 4) z I J hC hp
      have hC1 := tp_Cs hC hp
      obtain ⟨r1, W1, k1, k2, k3⟩ := hY (p + 1) o s _ z J (e + 4) (by omega) ho hC1 (by (repeat (first | rw [xu_ne2 (by omega)] | rw [xu_ne (by omega)] | rw [xu_eq])); exact hs) (by omega) (by omega)
      have hou : ∀ W : List (Nat × Nat), l_oc ((w, 0) :: W) = l_oc W := fun W => by
        show (if w = 10 ∨ w = 13 ∨ w = 14 then 1 else 0) + l_oc W = _
        rw [if_neg (by omega), Nat.zero_add]
      have hpu : ∀ W : List (Nat × Nat), (l_hs false) ((w, 0) :: W) := fun W o v W' q => by
        cases q
        unfold l_q_terms at hw
        rcases hw with ⟨h1, rfl⟩ | ⟨h1, rfl⟩ <;> rfl
      have cls : ∀ W2 sg, xv_evm ro (e + 4) 207 [.ref 13, .int (nI (b p)), .int 0] (z, xv_mk W1 J) = some (none, (z, xv_mk W2 J)) → xv_evm ro (e + 4) 251 [.ref 1] (z, xv_mk W2 J) = some (some (.int sg), (z, xv_mk W2 J)) → xv_ev ro (e + 5) xm_LawReader_terms xb_LawReader_terms_14 [some (.ref 1), some (.ref 13), some (.int (nI o)), some (.int (tp_c b n p)), some (.int (nI i))] [] (z, xv_mk I J) = xv_ev ro (e + 5) xm_LawReader_terms xb_LawReader_terms_14 [some (.ref 1), some (.ref 13), some (.int (nI o)), some (.int (sg)), some (.int (nI (i + 1)))] [] (z, xv_mk W2 J) := by
        intro W2 sg hx hx2
        rw [ev]
        conv => lhs; unfold xb_LawReader_terms_14
        unfold l_q_terms at hw
        rcases hw with ⟨h1, rfl⟩ | ⟨h1, rfl⟩
        · rw [h1] at hx ⊢
          have g43 : (nI 43 = 43) = True := eq_true rfl
          simp only [xr_all, xf_all, if_true, if_false, true_or, or_true, eq_self, ite_not, Bool.false_eq_true, ite_self, and_self, true_and, and_true, false_and, and_false, not_true_eq_false, not_false_eq_true, xj_LawReader_terms, xb_LawReader_terms_0, xb_LawReader_terms_34, xb_LawReader_terms_61, gi, g43, hst, k1, hx, hx2, nI_1]
        · rw [h1] at hx ⊢
          have g43 : (nI 45 = 43) = False := eq_false (by decide)
          have g45 : (nI 45 = 45) = True := eq_true rfl
          simp only [xr_all, xf_all, if_true, if_false, true_or, or_true, eq_self, ite_not, Bool.false_eq_true, ite_self, and_self, true_and, and_true, false_and, and_false, not_true_eq_false, not_false_eq_true, xj_LawReader_terms, xb_LawReader_terms_0, xb_LawReader_terms_34, xb_LawReader_terms_61, gi, g43, g45, hst, k1, hx, hx2, nI_1]
      match r1, k2, k3 with
      | .inl (f, q), k2, k3 =>
        obtain ⟨a1, a2, a3, a4, a5⟩ := k2
        have hd : (W1 1 4 = 0) = False := by rw [a5]; exact tp_f f a1 a2 a3
        obtain ⟨W2, w1, w2, w3⟩ := xq_ladd_any ro (e + 4) z W1 J (nI (b p)) 0
        have hsx := xq_sign_x ro (e + 4) z W2 J (by rw [w3]; exact hd)
        refine ⟨.inl (f, q), W2, (cls W2 (-1) w1 hsx).trans (l_d_terms ro e z W2 J (nI o) _), ⟨a1, a2, a3, l_cft (l_cf3 I _) (l_cft a4 w2), by rw [w3]; exact a5⟩, ?_⟩
        intro d z J bs x2 M W T c W0 T0 c0 hm hTT hj hop hbs hH
        obtain ⟨V, c', x2', t1, t2, t3, t4, t5, t6⟩ := l_sP (ro := ro) (d := d) (z := z) (J := J) (bs := bs) (x2 := x2) (w := w) hm hp hw2 hchw hTT (by rw [hdec]; exact hj)
        exact l_Bg t6 (k3 d z J bs x2' _ V ((w, 0) :: W) _ c' t1 t2 t3 (by rw [hou]; exact hop) (by show bs ≤ W.length + 1; omega) (hpu W))
      | .inr (D2, p2, s2), k2, k3 =>
        obtain ⟨a1, a2, a3, a4, a5, a6, a7⟩ := k2
        have p2n := a2.2.1
        obtain ⟨W2, w1, w2, w3, w4, w5, w6, w7, w8⟩ := l_addW ro (e + 4) z W1 J (s := s2) a4 (by omega) (nI (b p)) 0
        have hC2 : tp_C b n p2 W2 := tp_Cc a2 (fun j _ => by rw [w6]) w7
        have hsx := xq_sign ro (e + 4) z W2 J hC2
        have s2s := a7.1
        have hpre : ∀ i, i < s → W2 14 i = I 14 i ∧ W2 15 i = I 15 i := fun i hi => by
          obtain ⟨q1, q2⟩ := a6 i hi
          obtain ⟨q3, q4⟩ := w3 i (by omega)
          exact ⟨by rw [q3, q1, xu_ne (by omega)], by rw [q4, q2, xu_ne (by omega)]⟩
        have hcS2 : l_cS (W2 14) (W2 15) s0 (s2 + 1) (3 + 2 * (6 - o)) (l_bin w acc D2) := l_c_op (l_cS_c hcS (fun i _ q => hpre i q) (Nat.le_refl _)) (l_cS_c a7 (fun i _ q => w3 i q) (Nat.le_refl _)) (by omega) (by rw [← hchw]; exact w4) (Nat.le_refl _) (by omega)
        obtain ⟨r, W, l1, l2, l3⟩ := ih p2 (i + 1) o s0 (s2 + 1) (l_bin w acc D2) W2 J z e (by omega) (by omega) (by omega) ho hC2 w2 (by omega) he hcS2 k3.2
        refine ⟨r, W, (cls W2 _ w1 hsx).trans l1, ?_, ?_⟩
        · have hcf : l_cf I W2 := l_cft (l_cf3 I _) (l_cft a3 w8)
          match r, l2 with
          | .inl (f, q), l2 =>
            obtain ⟨b1, b2, b3, b4, b5⟩ := l2
            exact ⟨b1, b2, b3, l_cft hcf b4, b5⟩
          | .inr (D, p', s'), l2 =>
            obtain ⟨b1, b2, b3, b4, b5, b6, b7⟩ := l2
            exact ⟨by omega, b2, l_cft hcf b3, b4, by omega, fun i hi => ⟨(b6 i hi).1.trans (hpre i (by omega)).1, (b6 i hi).2.trans (hpre i (by omega)).2⟩, b7⟩
        · have step : ∀ (d : Nat) (z : Nat × Nat) (J : Nat → Nat → Int64) (bs : Nat) (x2 : Option Value) (M : Nat → Nat → Int32) (W : List (Nat × Nat)) (T : List (l_D × Nat)) (c : Nat) (W0 : List (Nat × Nat)) (T0 : List (l_D × Nat)) (c0 : Nat), l_s M b n p W0 c0 → l_T (M 174) T0 c0 → l_J true W0 T0 = some (W, (acc, c) :: T) → l_oc W = o → bs ≤ W.length → l_hs true W → ∃ (V : Nat → Nat → Int32) (x2' : Option Value) (W1 : List (Nat × Nat)) (T1 : List (l_D × Nat)) (c1 : Nat), l_HL ro d z J bs x2 M = l_HL ro d z J bs x2' V ∧ l_s V b n p2 W1 c1 ∧ l_T (V 174) T1 c1 ∧ l_J true W1 T1 = some (W, (l_bin w acc D2, c) :: T) ∧ c0 ≤ c1 ∧ (∀ j, j < c0 → V 174 j = M 174 j) ∧ l_g M V := by
            intro d z J bs x2 M W T c W0 T0 c0 hm hTT hj hop hbs hH
            obtain ⟨V, c', x2', t1, t2, t3, t4, t5, t6⟩ := l_sP (ro := ro) (d := d) (z := z) (J := J) (bs := bs) (x2 := x2) (w := w) hm hp hw2 hchw hTT (by rw [hdec]; exact hj)
            obtain ⟨V2, x3, W3, T3, c3, u1, u2, u3, u4, u5, u6, u7⟩ := k3.1 d z J bs x2' _ V ((w, 0) :: W) _ c' t1 t2 t3 (by rw [hou]; exact hop) (by show bs ≤ W.length + 1; omega) (hpu W)
            refine ⟨V2, x3, W3, T3, c3, u1, u2, u3, ?_, by omega, fun j hj => by rw [u6 j (by omega), t5 j hj], l_gt t6 u7⟩
            rw [l_Jc l_pft _ _ _ _ u4]; exact l_Jo hpop hH
          match r, l3 with
          | .inl (f, q), l3 =>
            intro d z J bs x2 M W T c W0 T0 c0 hm hTT hj hop hbs hH
            obtain ⟨V, x3, W3, T3, c3, u1, u2, u3, u4, u5, u6, u7⟩ := step d z J bs x2 M W T c W0 T0 c0 hm hTT hj hop hbs hH
            rw [u1]
            exact l_Bg u7 (l3 d z J bs x3 V W T c W3 T3 c3 u2 u3 u4 hop hbs hH)
          | .inr (D, p', s'), l3 =>
            refine ⟨?_, l3.2⟩
            intro d z J bs x2 M W T c W0 T0 c0 hm hTT hj hop hbs hH
            obtain ⟨V, x3, W3, T3, c3, u1, u2, u3, u4, u5, u6, u7⟩ := step d z J bs x2 M W T c W0 T0 c0 hm hTT hj hop hbs hH
            obtain ⟨V4, x4, W4, T4, c4, v1, v2, v3, v4, v5, v6, v7⟩ := l3.1 d z J bs x3 V W T c W3 T3 c3 u2 u3 u4 hop hbs hH
            exact ⟨V4, x4, W4, T4, c4, u1.trans v1, v2, v3, v4, by omega, fun j hj => by rw [v6 j (by omega), u6 j hj], l_gt u7 v7⟩
    · have hno : p < n → b p ≠ 43 ∧ b p ≠ 45 := by
        refine fun q1 => ⟨fun q2 => c ⟨q1, 2, Or.inl (⟨q2, rfl⟩)⟩, fun q2 => c ⟨q1, 3, Or.inr (⟨q2, rfl⟩)⟩⟩
      have g := hno
      have g43 := l_ne_c (c := 43) hbb (by omega) (fun q => (hno q).1)
      rw [show nI 43 = (43 : Int32) from rfl] at g43
      have g45 := l_ne_c (c := 45) hbb (by omega) (fun q => (hno q).2)
      rw [show nI 45 = (45 : Int32) from rfl] at g45
      refine ⟨.inr (acc, p, s), I, ?_, ⟨Nat.le_refl _, hC, l_cfr I, hs, Nat.le_refl _, fun _ _ => ⟨rfl, rfl⟩, hcS⟩, ?_⟩
      · conv => lhs; unfold xb_LawReader_terms_14
        by_cases ci : i < 240
        · have g : (240 ≤ nI i) = False := by (simp (disch := omega) only [vz_all, if_true, if_false, true_or, or_true, eq_self, ite_not, Bool.false_eq_true, ite_self, and_self, true_and, and_true, false_and, and_false, not_true_eq_false, not_false_eq_true, false_or, or_false])
          simp only [xr_all, xf_all, if_true, if_false, true_or, or_true, eq_self, ite_not, Bool.false_eq_true, ite_self, and_self, true_and, and_true, false_and, and_false, not_true_eq_false, not_false_eq_true, xj_LawReader_terms, xb_LawReader_terms_0, xb_LawReader_terms_34, xb_LawReader_terms_61, g, g43, g45]
        · have g : (240 ≤ nI i) = True := by (simp (disch := omega) only [vz_all, if_true, if_false, true_or, or_true, eq_self, ite_not, Bool.false_eq_true, ite_self, and_self, true_and, and_true, false_and, and_false, not_true_eq_false, not_false_eq_true, false_or, or_false])
          simp only [xr_all, xf_all, if_true, if_false, true_or, or_true, eq_self, ite_not, Bool.false_eq_true, ite_self, and_self, true_and, and_true, false_and, and_false, not_true_eq_false, not_false_eq_true, xj_LawReader_terms, xb_LawReader_terms_0, xb_LawReader_terms_34, xb_LawReader_terms_61, g]
      · refine ⟨?_, ?_⟩
        · intro d z J bs x2 M W T c W0 T0 c0 hm hTT hj hop hbs hH
          exact ⟨M, x2, W0, T0, c0, rfl, hm, hTT, hj, Nat.le_refl _, fun _ _ => rfl, l_gr M⟩
        · exact fun q => ⟨(hno q).1, (hno q).2, (hex q).1, (hex q).2.1, (hex q).2.2⟩
theorem l_lv_terms {ro : xv_Ro} {b : Nat → Nat} {n K : Nat} (hn : n ≤ 240) (hY : l_lv ro 218 (l_hs false) (l_J false) (l_e1 b n) 4 2 b n K) : l_lv ro 217 (l_hs true) (l_J true) (l_ns b n) 5 3 b n K := by
  intro p o s I z J d hk ho hC hs hsp hd
  obtain ⟨e, rfl⟩ : ∃ e, d = e + 5 := ⟨d - 5, by omega⟩
  have hpn := hC.2.1
  obtain ⟨r1, W1, k1, k2, k3⟩ := hY p o s I z J (e + 4) hk ho hC hs hsp (by omega)
  have cls : ∀ sg, xv_evm ro (e + 4) 251 [.ref 1] (z, xv_mk W1 J) = some (some (.int sg), (z, xv_mk W1 J)) → xv_evm ro (e + 5) 217 [.ref 1, .ref 13, .int (nI o)] (z, xv_mk I J) = xv_ev ro (e + 5) xm_LawReader_terms xb_LawReader_terms_14 [some (.ref 1), some (.ref 13), some (.int (nI o)), some (.int (sg)), some (.int (nI 0))] [] (z, xv_mk W1 J) := by
    intro sg hx
    rw [xe_LawReader_terms, show nI 0 = (0 : Int32) from rfl]
    simp only [xr_all, xf_all, if_true, if_false, true_or, or_true, eq_self, ite_not, Bool.false_eq_true, ite_self, and_self, true_and, and_true, false_and, and_false, not_true_eq_false, not_false_eq_true, xj_LawReader_terms, xb_LawReader_terms_0, xb_LawReader_terms_34, xb_LawReader_terms_61, k1, hx]
  have hHH : ∀ W : List (Nat × Nat), l_hs true W → (l_hs false) W := fun _ h => l_hft h
  match r1, k2, k3 with
  | .inl (f, q), k2, k3 =>
    obtain ⟨a1, a2, a3, a4, a5⟩ := k2
    have hdd : (W1 1 4 = 0) = False := by rw [a5]; exact tp_f f a1 a2 a3
    have hsx := xq_sign_x ro (e + 4) z W1 J hdd
    exact ⟨.inl (f, q), W1, (cls (-1) hsx).trans (l_d_terms ro e z W1 J (nI o) _), ⟨a1, a2, a3, a4, a5⟩, fun d z J bs x2 R M W T c hF hm hTT hop hbs hH => k3 d z J bs x2 R M W T c hF hm hTT hop hbs (hHH W hH)⟩
  | .inr (D2, p2, s2), k2, k3 =>
    obtain ⟨a1, a2, a3, a4, a5, a6, a7⟩ := k2
    have hsx := xq_sign ro (e + 4) z W1 J a2
    have p2n := a2.2.1
    obtain ⟨r, W, l1, l2, l3⟩ := l_lp_terms hn hY K p2 0 o s s2 D2 W1 J z e (by omega) (by omega) (Nat.le_refl _) ho a2 a4 (by omega) (by omega) (l_cS_c a7 (fun _ _ _ => ⟨rfl, rfl⟩) (by omega)) k3.2
    refine ⟨r, W, (cls _ hsx).trans l1, ?_, ?_⟩
    · match r, l2 with
      | .inl (f, q), l2 =>
        obtain ⟨b1, b2, b3, b4, b5⟩ := l2
        exact ⟨b1, b2, b3, l_cft a3 b4, b5⟩
      | .inr (D, p', s'), l2 =>
        obtain ⟨b1, b2, b3, b4, b5, b6, b7⟩ := l2
        exact ⟨by omega, b2, l_cft a3 b3, b4, by omega, fun i hi => ⟨(b6 i hi).1.trans (a6 i hi).1, (b6 i hi).2.trans (a6 i hi).2⟩, b7⟩
    · have step : ∀ (d : Nat) (z : Nat × Nat) (J : Nat → Nat → Int64) (bs : Nat) (x2 : Option Value) (R : Option (Option Value × xv_S)) (M : Nat → Nat → Int32) (W : List (Nat × Nat)) (T : List (l_D × Nat)) (c : Nat), l_F ro d z J bs x2 R M → l_s M b n p W c → l_T (M 174) T c → l_oc W = o → bs ≤ W.length → l_hs true W → ∃ (V : Nat → Nat → Int32) (x2' : Option Value) (W1 : List (Nat × Nat)) (T1 : List (l_D × Nat)) (c1 : Nat), R = l_HL ro d z J bs x2' V ∧ l_s V b n p2 W1 c1 ∧ l_T (V 174) T1 c1 ∧ l_J true W1 T1 = some (W, (D2, c) :: T) ∧ c ≤ c1 ∧ (∀ j, j < c → V 174 j = M 174 j) ∧ l_g M V := by
        intro d z J bs x2 R M W T c hF hm hTT hop hbs hH
        obtain ⟨V2, x3, W3, T3, c3, u1, u2, u3, u4, u5, u6, u7⟩ := k3.1 d z J bs x2 R M W T c hF hm hTT hop hbs (hHH W hH)
        refine ⟨V2, x3, W3, T3, c3, u1, u2, u3, ?_, u5, u6, u7⟩
        rw [l_Jc l_pft _ _ _ _ u4]; exact l_Jh hH _
      match r, l3 with
      | .inl (f, q), l3 =>
        intro d z J bs x2 R M W T c hF hm hTT hop hbs hH
        obtain ⟨V, x3, W3, T3, c3, u1, u2, u3, u4, u5, u6, u7⟩ := step d z J bs x2 R M W T c hF hm hTT hop hbs hH
        rw [u1]
        exact l_Bg u7 (l3 d z J bs x3 V W T c W3 T3 c3 u2 u3 u4 hop hbs hH)
      | .inr (D, p', s'), l3 =>
        refine ⟨?_, l3.2⟩
        intro d z J bs x2 R M W T c hF hm hTT hop hbs hH
        obtain ⟨V, x3, W3, T3, c3, u1, u2, u3, u4, u5, u6, u7⟩ := step d z J bs x2 R M W T c hF hm hTT hop hbs hH
        obtain ⟨V4, x4, W4, T4, c4, v1, v2, v3, v4, v5, v6, v7⟩ := l3.1 d z J bs x3 V W T c W3 T3 c3 u2 u3 u4 hop hbs hH
        exact ⟨V4, x4, W4, T4, c4, u1.trans v1, v2, v3, v4, by omega, fun j hj => by rw [v6 j (by omega), u6 j hj], l_gt u7 v7⟩
theorem l_sums {ro : xv_Ro} {b : Nat → Nat} {n : Nat} (hn : n ≤ 240) : ∀ K, l_lv ro 217 (l_hs true) (l_J true) (l_ns b n) 5 3 b n K := by
  intro K
  induction K with
  | zero => intro p o s I z J d hk; omega
  | succ K ih => exact l_lv_terms hn (l_lv_factors hn (l_factor hn ih))
/-- a whole sum -/
def l_XS (ro : xv_Ro) (b : Nat → Nat) (n p o : Nat) : l_R → Prop
  | .inl (f, q) => ∀ (d : Nat) (z : Nat × Nat) (J : Nat → Nat → Int64) (M : Nat → Nat → Int32) (W : List (Nat × Nat)) (c : Nat), l_s M b n p W c → l_oc W = o → l_hs true W → l_B z J M (xv_evm ro (d + 4) 69 [.ref 167] (z, xv_mk M J)) f q
  | .inr (D, p', _) => (∀ (d : Nat) (z : Nat × Nat) (J : Nat → Nat → Int64) (M : Nat → Nat → Int32) (W : List (Nat × Nat)) (c : Nat), l_s M b n p W c → l_oc W = o → l_hs true W → ∃ (V : Nat → Nat → Int32) (c' : Nat), xv_evm ro (d + 4) 69 [.ref 167] (z, xv_mk M J) = some (some (.int 1), (z, xv_mk V J)) ∧ l_s V b n p' W c' ∧ l_mS (V 174) c c' D ∧ (∀ j, j < c → V 174 j = M 174 j) ∧ l_g M V) ∧ l_ns b n p'
theorem l_suma (ro : xv_Ro) {b : Nat → Nat} {n : Nat} (hn : n ≤ 240) (p o s : Nat) (I : Nat → Nat → Int32) (z : Nat × Nat) (J : Nat → Nat → Int64) (d : Nat) (ho : o ≤ 6) (hC : tp_C b n p I) (hs : I 13 7 = nI s) (hsp : s ≤ p) (hd : 5 + 3 * (6 - o) ≤ d) : ∃ (r : l_R) (W : Nat → Nat → Int32), xv_evm ro d 217 [.ref 1, .ref 13, .int (nI o)] (z, xv_mk I J) = some (none, (z, xv_mk W J)) ∧ l_C b n p s s (3 + 2 * (6 - o)) I W r ∧ l_XS ro b n p o r := by
  obtain ⟨r, W, k1, k2, k3⟩ := l_sums (ro := ro) (b := b) hn (n + 1) p o s I z J d (by omega) ho hC hs hsp hd
  refine ⟨r, W, k1, k2, ?_⟩
  match r, k3 with
  | .inl (f, q), k3 => exact fun d z J M W c hm hop hH => k3 d z J W.length none _ M W [] c (l_sB hm) hm trivial hop (Nat.le_refl _) hH
  | .inr (D, p', s'), k3 =>
    refine ⟨fun d z J M W c hm hop hH => ?_, k3.2⟩
    obtain ⟨V, x2, W1, T1, c1, u1, u2, u3, u4, u5, u6, u7⟩ := k3.1 d z J W.length none _ M W [] c (l_sB hm) hm trivial hop (Nat.le_refl _) hH
    obtain ⟨V2, c2, v1, v2, v3, v4, v5, v6⟩ := l_sR (ro := ro) (d := d) (z := z) (J := J) (bs := W.length) (x2 := x2) u2 k3.2 u3 u4 rfl
    exact ⟨V2, c2, u1.trans v1, v2, v3.1, fun j hj => by rw [v5 j (by omega), u6 j hj], l_gt u7 v6⟩
