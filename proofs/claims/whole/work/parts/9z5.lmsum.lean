/-! law: the model's sums, step by step -/
abbrev l_R : Type := (Nat × Nat) ⊕ (l_D × Nat × Nat)
noncomputable def l_HL (ro : xv_Ro) (d : Nat) (z : Nat × Nat) (J : Nat → Nat → Int64) (bs : Nat) (x2 : Option Value) (M : Nat → Nat → Int32) : Option (Option Value × xv_S) := xv_ev ro (d + 4) xm_Mo_readsSum xb_Mo_readsSum_14 [some (.ref 167), some (.int (nI bs)), x2] [] (z, xv_mk M J)
def l_F (ro : xv_Ro) (d : Nat) (z : Nat × Nat) (J : Nat → Nat → Int64) (bs : Nat) (x2 : Option Value) (R : Option (Option Value × xv_S)) (M : Nat → Nat → Int32) : Prop := ∀ V, (xv_evm ro (d + 3) 67 [.ref 167] (z, xv_mk M J) = some (some (.int 1), (z, xv_mk V J)) → R = l_HL ro d z J bs x2 V) ∧ (xv_evm ro (d + 3) 67 [.ref 167] (z, xv_mk M J) = some (some (.int 0), (z, xv_mk V J)) → R = some (some (.int 0), (z, xv_mk V J)))
def l_B (z : Nat × Nat) (J : Nat → Nat → Int64) (M : Nat → Nat → Int32) (R : Option (Option Value × xv_S)) (f q : Nat) : Prop := ∃ V, R = some (some (.int 0), (z, xv_mk V J)) ∧ V 167 10 = -1000 * nI f - nI q ∧ l_g M V
theorem l_Bg {z : Nat × Nat} {J : Nat → Nat → Int64} {M V : Nat → Nat → Int32} {R : Option (Option Value × xv_S)} {f q : Nat} (h1 : l_g M V) (h : l_B z J V R f q) : l_B z J M R f q := by
  obtain ⟨U, u1, u2, u3⟩ := h
  exact ⟨U, u1, u2, l_gt h1 u3⟩
def l_hs (al : Bool) (W : List (Nat × Nat)) : Prop := ∀ o v W', W = (o, v) :: W' → l_pop al o = false
theorem l_Jh {al : Bool} {W : List (Nat × Nat)} (h : l_hs al W) (T : List (l_D × Nat)) : l_J al W T = some (W, T) := by
  cases W with
  | nil => rfl
  | cons a W =>
    obtain ⟨o, v⟩ := a
    unfold l_J
    rw [h o v W rfl, if_neg (by decide)]
theorem l_Jc {al al' : Bool} (hal : ∀ o, l_pop al' o = true → l_pop al o = true) : ∀ (W : List (Nat × Nat)) (T : List (l_D × Nat)) (W1 : List (Nat × Nat)) (T1 : List (l_D × Nat)), l_J al' W T = some (W1, T1) → l_J al W T = l_J al W1 T1 := by
  intro W
  induction W with
  | nil => intro T W1 T1 h; cases h; rfl
  | cons a W ih =>
    obtain ⟨o, v⟩ := a
    intro T W1 T1 h
    unfold l_J at h
    cases c : l_pop al' o with
    | true =>
      rw [if_pos c] at h
      match T, h with
      | [], h => cases h
      | [a], h => cases h
      | (B, s2) :: (A, s1) :: T, h =>
        dsimp only at h
        rw [← ih _ _ _ h]
        conv => lhs; unfold l_J
        rw [if_pos (hal o c)]
    | false =>
      rw [if_neg (by rw [c]; decide)] at h
      cases h
      rfl
theorem l_Jo {al : Bool} {W : List (Nat × Nat)} {T : List (l_D × Nat)} {A B : l_D} {s1 s2 o v : Nat} (ho : l_pop al o = true) (h : l_hs al W) : l_J al ((o, v) :: W) ((B, s2) :: (A, s1) :: T) = some (W, (l_bin o A B, s1) :: T) := by
  unfold l_J
  rw [if_pos ho]
  exact l_Jh h _
theorem l_Jl {al : Bool} : ∀ (W : List (Nat × Nat)) (T : List (l_D × Nat)) (W1 : List (Nat × Nat)) (T1 : List (l_D × Nat)), l_J al W T = some (W1, T1) → W1.length ≤ W.length ∧ (∀ k, k < W1.length → l_at W k = l_at W1 k) ∧ (∀ k, W1.length ≤ k → k < W.length → l_at W k ≠ 14) := by
  intro W
  induction W with
  | nil => intro T W1 T1 h; cases h; exact ⟨Nat.le_refl _, fun _ _ => rfl, fun k h1 h2 => absurd h2 (Nat.not_lt_zero k)⟩
  | cons a W ih =>
    obtain ⟨o, v⟩ := a
    intro T W1 T1 h
    unfold l_J at h
    cases c : l_pop al o with
    | true =>
      rw [if_pos c] at h
      have ho := l_pop_t c
      match T, h with
      | [], h => cases h
      | [a], h => cases h
      | (B, s2) :: (A, s1) :: T, h =>
        dsimp only at h
        obtain ⟨i1, i2, i3⟩ := ih _ _ _ h
        refine ⟨Nat.le_succ_of_le i1, fun k hk => ?_, fun k h1 h2 => ?_⟩
        · rw [← i2 k hk]
          conv => lhs; unfold l_at
          rw [if_neg (by omega)]
        · have h2 : k < W.length + 1 := h2
          by_cases q : k = W.length
          · unfold l_at
            rw [if_pos q]; omega
          · unfold l_at
            rw [if_neg q]; exact i3 k h1 (by omega)
    | false =>
      rw [if_neg (by rw [c]; decide)] at h
      cases h
      exact ⟨Nat.le_refl _, fun _ _ => rfl, fun k h1 h2 => by omega⟩
/-- no factor's first sign -/
def l_nf (b : Nat → Nat) (n p : Nat) : Prop := p < n → b p ≠ 91 ∧ l_let (b p) = none ∧ ¬ (48 ≤ b p ∧ b p ≤ 57)
theorem l_nf_d {b : Nat → Nat} {n p : Nat} (h : p < n → ¬ (48 ≤ b p ∧ b p ≤ 57)) : tp_d b n p = none := by
  unfold tp_d
  by_cases c : p < n ∧ 48 ≤ b p ∧ b p ≤ 57
  · exact absurd ⟨c.2.1, c.2.2⟩ (h c.1)
  · rw [if_neg c]
theorem l_ne_c {b : Nat → Nat} {n p c : Nat} (hb : p < n → b p < 256) (hc : c < 256) (h : p < n → b p ≠ c) : (tp_c b n p = nI c) = False := by
  rw [tp_ceq hb hc]
  exact eq_false (fun q => h q.1 q.2)
theorem l_sLet {ro : xv_Ro} {d : Nat} {z : Nat × Nat} {J : Nat → Nat → Int64} {bs : Nat} {x2 : Option Value} {R : Option (Option Value × xv_S)} {M : Nat → Nat → Int32} {b : Nat → Nat} {n p c f : Nat} {W : List (Nat × Nat)} {T : List (l_D × Nat)} (hF : l_F ro d z J bs x2 R M) (h : l_s M b n p W c) (hp : p < n) (hl : l_let (b p) = some f) (hT : l_T (M 174) T c) : ∃ V x2' c', R = l_HL ro d z J bs x2' V ∧ l_s V b n (p + 1) W c' ∧ l_T (V 174) ((fun F => some (F f), c) :: T) c' ∧ c ≤ c' ∧ (∀ j, j < c → V 174 j = M 174 j) ∧ l_g M V := by
  obtain ⟨h0, h1, h2, h3, h4, h5, h6, h7⟩ := id h
  obtain ⟨hf8, hlc⟩ := l_let_lt hl
  have hb := (h1.2.2.2.2 p hp).1
  have ev : tp_c b n p = nI (b p) := if_pos hp
  have hh := xq_here ro (d + 2) z M J h1
  rw [ev] at hh
  have g91 : (nI (b p) = 91) = False := by (simp (disch := omega) only [vz_all, if_true, if_false, true_or, or_true, eq_self, ite_not, Bool.false_eq_true, ite_self, and_self, true_and, and_true, false_and, and_false, not_true_eq_false, not_false_eq_true, false_or, or_false])
  have hid := xq_isDigit ro (d + 1) z M J h1
  rw [l_nf_d (fun _ q => by omega), if_neg (by decide)] at hid
  have hfo := xq_factOf ro (d + 2) (z, xv_mk M J) (c := b p) hb
  rw [hl] at hfo
  dsimp only at hfo
  have gm : (nI f = -1) = False := vz_m1 (by omega)
  have hnt := xq_notes ro (d + 2) z M J (o := 1) (v := f) h3 (by omega)
  rw [show nI 1 = (1 : Int32) from rfl] at hnt
  have r1 : ∀ y y2, xv_u2 (xv_u2 M 174 c y) 167 13 y2 167 8 = nI p := fun y y2 => by rw [xu_ne2 (by omega), xu_ne (by omega)]; exact h1.2.2.2.1
  have hK : ∀ j, j < c → xv_u2 (xv_u2 (xv_u2 M 174 c (nI (1048576 * 1 + f))) 167 13 (nI (c + 1))) 167 8 (nI (p + 1)) 174 j = M 174 j := fun j hj => by (repeat (first | rw [xu_ne2 (by omega)] | rw [xu_ne (by omega)] | rw [xu_eq]))
  have hKc : xv_u2 (xv_u2 (xv_u2 M 174 c (nI (1048576 * 1 + f))) 167 13 (nI (c + 1))) 167 8 (nI (p + 1)) 174 c = nI (1048576 * 1 + f) := by (repeat (first | rw [xu_ne2 (by omega)] | rw [xu_ne (by omega)] | rw [xu_eq]))
  refine ⟨xv_u2 (xv_u2 (xv_u2 M 174 c (nI (1048576 * 1 + f))) 167 13 (nI (c + 1))) 167 8 (nI (p + 1)), x2, c + 1, (hF _).1 ?_, ⟨h0, tp_Ms (tp_Mc h1 (by (repeat (first | rw [xu_ne2 (by omega)] | rw [xu_ne (by omega)] | rw [xu_eq]))) (by (repeat (first | rw [xu_ne2 (by omega)] | rw [xu_ne (by omega)] | rw [xu_eq]))) (by (repeat (first | rw [xu_ne2 (by omega)] | rw [xu_ne (by omega)] | rw [xu_eq])))) hp, by (repeat (first | rw [xu_ne2 (by omega)] | rw [xu_ne (by omega)] | rw [xu_eq])); exact h2, by (repeat (first | rw [xu_ne2 (by omega)] | rw [xu_ne (by omega)] | rw [xu_eq])), by (repeat (first | rw [xu_ne2 (by omega)] | rw [xu_ne (by omega)] | rw [xu_eq])); exact h4, l_W_c W c (c + 1) h5 (Nat.le_succ _) (fun i hi => by (repeat (first | rw [xu_ne2 (by omega)] | rw [xu_ne (by omega)] | rw [xu_eq]))) (fun i hi => by (repeat (first | rw [xu_ne2 (by omega)] | rw [xu_ne (by omega)] | rw [xu_eq]))), by omega, by omega⟩, ⟨l_m_let hf8 hKc, l_T_c T c hT (fun i hi => hK i hi)⟩, Nat.le_succ _, hK, fun a q1 q2 q3 => by (repeat (first | rw [xu_ne2 (by omega)] | rw [xu_ne (by omega)] | rw [xu_eq])), fun j q1 q2 q3 q4 q5 q6 => by (repeat (first | rw [xu_ne2 (by omega)] | rw [xu_ne (by omega)] | rw [xu_eq]))⟩
  rw [xe_Mo_readsFactor]
  simp only [xr_all, xf_all, if_true, if_false, true_or, or_true, eq_self, ite_not, Bool.false_eq_true, ite_self, and_self, true_and, and_true, false_and, and_false, not_true_eq_false, not_false_eq_true, xj_Mo_readsFactor, xb_Mo_readsFactor_0, xb_Mo_readsFactor_20, xb_Mo_readsFactor_36, xb_Mo_readsFactor_47, xb_Mo_readsFactor_70, hh, g91, hid, hfo, gm, hnt, r1, nI_1]
theorem l_sNum {ro : xv_Ro} {d : Nat} {z : Nat × Nat} {J : Nat → Nat → Int64} {bs : Nat} {x2 : Option Value} {R : Option (Option Value × xv_S)} {M : Nat → Nat → Int32} {b : Nat → Nat} {n p c : Nat} {W : List (Nat × Nat)} (hF : l_F ro d z J bs x2 R M) (h : l_s M b n p W c) (hd : (tp_d b n p).isSome = true) : (∀ f q, l_nu b n 5 p 0 = .inl (f, q) → l_B z J M R f q) ∧ (∀ a p' T, l_nu b n 5 p 0 = .inr (a, p') → l_T (M 174) T c → ∃ V x2' c', R = l_HL ro d z J bs x2' V ∧ l_s V b n p' W c' ∧ l_T (V 174) ((fun _ => some (nI a), c) :: T) c' ∧ c ≤ c' ∧ (∀ j, j < c → V 174 j = M 174 j) ∧ l_g M V) := by
  obtain ⟨h0, h1, h2, h3, h4, h5, h6, h7⟩ := id h
  obtain ⟨v, hv⟩ : ∃ v, tp_d b n p = some v := by
    cases q : tp_d b n p with
    | none => rw [q] at hd; cases hd
    | some v => exact ⟨v, rfl⟩
  obtain ⟨q1, q2, q3⟩ := tp_d_s hv
  have hh := xq_here ro (d + 2) z M J h1
  rw [show tp_c b n p = nI (v + 48) by unfold tp_c; rw [if_pos q1, q3]] at hh
  have g91 : (nI (v + 48) = 91) = False := by (simp (disch := omega) only [vz_all, if_true, if_false, true_or, or_true, eq_self, ite_not, Bool.false_eq_true, ite_self, and_self, true_and, and_true, false_and, and_false, not_true_eq_false, not_false_eq_true, false_or, or_false])
  have hid := xq_isDigit ro (d + 1) z M J h1
  rw [if_pos hd] at hid
  have z1 : ((1 : Int32) = 0) = False := eq_false (by decide)
  obtain ⟨V, k1, k2, k3, k4⟩ := xq_readsNumber ro d z M J h0 h1
  refine ⟨fun f q hq => ?_, fun a p' T hq hT => ?_⟩
  · obtain ⟨m1, m2⟩ := k3 f q hq
    refine ⟨V, (hF _).2 ?_, m2, fun a q1 q2 q3 => k1 a q1, fun j q1 q2 q3 q4 q5 q6 => k2 j q1 q2 q3⟩
    rw [xe_Mo_readsFactor]
    simp only [xr_all, xf_all, if_true, if_false, true_or, or_true, eq_self, ite_not, Bool.false_eq_true, ite_self, and_self, true_and, and_true, false_and, and_false, not_true_eq_false, not_false_eq_true, xj_Mo_readsFactor, xb_Mo_readsFactor_0, xb_Mo_readsFactor_20, xb_Mo_readsFactor_36, xb_Mo_readsFactor_47, xb_Mo_readsFactor_70, hh, g91, hid, z1, m1]
  · obtain ⟨m1, m2, m3⟩ := k4 a p' hq
    obtain ⟨ab, pp0⟩ := l_nu_b 5 p 0 a p' hq
    have pp : p + 1 ≤ p' := by
      have hq := hq
      unfold l_nu at hq
      rw [hv] at hq
      exact (l_nu_b 4 (p + 1) _ a p' hq).2
    have p'n := m3.2.1
    have v13 : V 167 13 = nI c := by rw [k2 13 (by omega) (by omega) (by omega)]; exact h3
    have hnt := xq_notes ro (d + 2) z V J (o := 0) (v := a) v13 (by omega)
    rw [show nI 0 = (0 : Int32) from rfl] at hnt
    have hK : ∀ j, j < c → xv_u2 (xv_u2 V 174 c (nI (1048576 * 0 + a))) 167 13 (nI (c + 1)) 174 j = M 174 j := fun j hj => by rw [← k1 174 (by omega)]; (repeat (first | rw [xu_ne2 (by omega)] | rw [xu_ne (by omega)] | rw [xu_eq]))
    have hKc : xv_u2 (xv_u2 V 174 c (nI (1048576 * 0 + a))) 167 13 (nI (c + 1)) 174 c = nI (1048576 * 0 + a) := by (repeat (first | rw [xu_ne2 (by omega)] | rw [xu_ne (by omega)] | rw [xu_eq]))
    have hR : ∀ j, xv_u2 (xv_u2 V 174 c (nI (1048576 * 0 + a))) 167 13 (nI (c + 1)) 175 j = M 175 j := fun j => by rw [← k1 175 (by omega)]; (repeat (first | rw [xu_ne2 (by omega)] | rw [xu_ne (by omega)] | rw [xu_eq]))
    have hab : a < 1048576 := by
      rw [Nat.zero_add, Nat.one_mul] at ab
      have : (10 : Nat) ^ 5 = 100000 := rfl
      omega
    refine ⟨xv_u2 (xv_u2 V 174 c (nI (1048576 * 0 + a))) 167 13 (nI (c + 1)), x2, c + 1, (hF _).1 ?_, ⟨h0, tp_Mc m3 (by (repeat (first | rw [xu_ne2 (by omega)] | rw [xu_ne (by omega)] | rw [xu_eq]))) (by (repeat (first | rw [xu_ne2 (by omega)] | rw [xu_ne (by omega)] | rw [xu_eq]))) (by (repeat (first | rw [xu_ne2 (by omega)] | rw [xu_ne (by omega)] | rw [xu_eq]))), by (repeat (first | rw [xu_ne2 (by omega)] | rw [xu_ne (by omega)] | rw [xu_eq])); rw [k2 12 (by omega) (by omega) (by omega)]; exact h2, by (repeat (first | rw [xu_ne2 (by omega)] | rw [xu_ne (by omega)] | rw [xu_eq])), by (repeat (first | rw [xu_ne2 (by omega)] | rw [xu_ne (by omega)] | rw [xu_eq])); rw [k2 14 (by omega) (by omega) (by omega)]; exact h4, l_W_c W c (c + 1) h5 (Nat.le_succ _) (fun i hi => hK i hi) (fun i hi => hR i), by omega, by omega⟩, ⟨l_m_num hab hKc, l_T_c T c hT (fun i hi => hK i hi)⟩, Nat.le_succ _, hK, fun a q1 q2 q3 => by rw [← k1 a q1]; (repeat (first | rw [xu_ne2 (by omega)] | rw [xu_ne (by omega)] | rw [xu_eq])), fun j q1 q2 q3 q4 q5 q6 => by rw [← k2 j q1 q2 q3]; (repeat (first | rw [xu_ne2 (by omega)] | rw [xu_ne (by omega)] | rw [xu_eq]))⟩
    rw [xe_Mo_readsFactor]
    simp only [xr_all, xf_all, if_true, if_false, true_or, or_true, eq_self, ite_not, Bool.false_eq_true, ite_self, and_self, true_and, and_true, false_and, and_false, not_true_eq_false, not_false_eq_true, xj_Mo_readsFactor, xb_Mo_readsFactor_0, xb_Mo_readsFactor_20, xb_Mo_readsFactor_36, xb_Mo_readsFactor_47, xb_Mo_readsFactor_70, hh, g91, hid, z1, m1, m2, hnt]
theorem l_sOpen {ro : xv_Ro} {d : Nat} {z : Nat × Nat} {J : Nat → Nat → Int64} {bs : Nat} {x2 : Option Value} {R : Option (Option Value × xv_S)} {M : Nat → Nat → Int32} {b : Nat → Nat} {n p c : Nat} {W : List (Nat × Nat)} (hF : l_F ro d z J bs x2 R M) (h : l_s M b n p W c) (hp : p < n) (hb : b p = 91) (ho : l_oc W < 6) : ∃ V, l_F ro d z J bs x2 R V ∧ l_s V b n (p + 1) ((14, 0) :: W) c ∧ V 174 = M 174 ∧ l_g M V := by
  obtain ⟨V, v1, v2, v3, v4⟩ := xq_opens ro (d + 1) z M J (o := 14) h hp (by omega) ho
  have hh := xq_here ro (d + 2) z M J h.2.1
  rw [show tp_c b n p = nI (b p) from if_pos hp, hb] at hh
  rw [show nI 14 = (14 : Int32) from rfl] at v1
  have g91 : (nI 91 = 91) = True := eq_true rfl
  have z1 : ((1 : Int32) = 0) = False := eq_false (by decide)
  have st : xv_evm ro (d + 3) 67 [.ref 167] (z, xv_mk M J) = xv_evm ro (d + 3) 67 [.ref 167] (z, xv_mk V J) := by
    rw [xe_Mo_readsFactor, xe_Mo_readsFactor]
    conv => lhs; unfold xb_Mo_readsFactor_0
    simp only [xr_all, xf_all, if_true, if_false, true_or, or_true, eq_self, ite_not, Bool.false_eq_true, ite_self, and_self, true_and, and_true, false_and, and_false, not_true_eq_false, not_false_eq_true, xj_Mo_readsFactor, xb_Mo_readsFactor_20, xb_Mo_readsFactor_36, xb_Mo_readsFactor_47, xb_Mo_readsFactor_70, hh, g91, v1, z1]
  refine ⟨V, fun U => ?_, v2, v3, v4⟩
  have := hF U
  rw [st] at this
  exact this
theorem l_sXo {ro : xv_Ro} {d : Nat} {z : Nat × Nat} {J : Nat → Nat → Int64} {bs : Nat} {x2 : Option Value} {R : Option (Option Value × xv_S)} {M : Nat → Nat → Int32} {b : Nat → Nat} {n p c : Nat} {W : List (Nat × Nat)} (hF : l_F ro d z J bs x2 R M) (h : l_s M b n p W c) (hp : p < n) (hb : b p = 91) (ho : l_oc W = 6) : l_B z J M R 5 p := by
  have v1 := xq_opens_x ro (d + 1) z M J (o := 14) h ho
  have hh := xq_here ro (d + 2) z M J h.2.1
  rw [show tp_c b n p = nI (b p) from if_pos hp, hb] at hh
  rw [show nI 14 = (14 : Int32) from rfl] at v1
  have g91 : (nI 91 = 91) = True := eq_true rfl
  refine ⟨xv_u2 M 167 10 (-1000 * 5 - nI p), (hF _).2 ?_, xu_eq, l_g10 M _⟩
  rw [xe_Mo_readsFactor]
  simp only [xr_all, xf_all, if_true, if_false, true_or, or_true, eq_self, ite_not, Bool.false_eq_true, ite_self, and_self, true_and, and_true, false_and, and_false, not_true_eq_false, not_false_eq_true, xj_Mo_readsFactor, xb_Mo_readsFactor_0, xb_Mo_readsFactor_20, xb_Mo_readsFactor_36, xb_Mo_readsFactor_47, xb_Mo_readsFactor_70, hh, g91, v1]
theorem l_sX1 {ro : xv_Ro} {d : Nat} {z : Nat × Nat} {J : Nat → Nat → Int64} {bs : Nat} {x2 : Option Value} {R : Option (Option Value × xv_S)} {M : Nat → Nat → Int32} {b : Nat → Nat} {n p c : Nat} {W : List (Nat × Nat)} (hF : l_F ro d z J bs x2 R M) (h : l_s M b n p W c) (hn : l_nf b n p) : l_B z J M R 1 p := by
  have h1 := h.2.1
  have hb := fun hp : p < n => (h1.2.2.2.2 p hp).1
  have hh := xq_here ro (d + 2) z M J h1
  have g91 := l_ne_c (c := 91) hb (by omega) (fun q => (hn q).1)
  rw [show nI 91 = (91 : Int32) from rfl] at g91
  have hid := xq_isDigit ro (d + 1) z M J h1
  rw [l_nf_d (fun q => (hn q).2.2), if_neg (by decide)] at hid
  have hfo : xv_evm ro (d + 2) 64 [.int (tp_c b n p)] (z, xv_mk M J) = some (some (.int (-1)), (z, xv_mk M J)) := by
    by_cases hp : p < n
    · rw [show tp_c b n p = nI (b p) from if_pos hp]
      have := xq_factOf ro (d + 2) (z, xv_mk M J) (c := b p) (hb hp)
      rw [(hn hp).2.1] at this
      exact this
    · rw [show tp_c b n p = -1 from if_neg hp]
      exact xq_factOf_x ro (d + 2) (z, xv_mk M J)
  have hw := xq_wrongAt ro (d + 2) z M J 1 (nI p)
  refine ⟨xv_u2 M 167 10 (-1000 * 1 - nI p), (hF _).2 ?_, xu_eq, l_g10 M _⟩
  rw [xe_Mo_readsFactor]
  simp only [xr_all, xf_all, if_true, if_false, true_or, or_true, eq_self, ite_not, Bool.false_eq_true, ite_self, and_self, true_and, and_true, false_and, and_false, not_true_eq_false, not_false_eq_true, xj_Mo_readsFactor, xb_Mo_readsFactor_0, xb_Mo_readsFactor_20, xb_Mo_readsFactor_36, xb_Mo_readsFactor_47, xb_Mo_readsFactor_70, hh, g91, hid, hfo, h1.2.2.2.1, hw]
theorem xq_closesM (ro : xv_Ro) (d : Nat) (z : Nat × Nat) (J : Nat → Nat → Int64) {b : Nat → Nat} {n p c : Nat} (al : Bool) {ai : Int32} (hai : ai = if al = true then 1 else 0) {W : List (Nat × Nat)} {T : List (l_D × Nat)} {W' : List (Nat × Nat)} {T' : List (l_D × Nat)} {M : Nat → Nat → Int32} (h : l_s M b n p W c) (hT : l_T (M 174) T c) (hj : l_J al W T = some (W', T')) : ∃ (V : Nat → Nat → Int32) (c' : Nat), xv_evm ro (d + 1) 66 [.ref 167, .int ai] (z, xv_mk M J) = some (none, (z, xv_mk V J)) ∧ l_s V b n p W' c' ∧ l_T (V 174) T' c' ∧ c ≤ c' ∧ (∀ j, j < c → V 174 j = M 174 j) ∧ l_g M V := by
  obtain ⟨V, c', k1, k2⟩ := xq_closes ro d z J al hai W T W' T' c M h hT hj
  refine ⟨V, c', ?_, k2⟩
  rw [← k1, xe_Mo_closesSums]
theorem l_sP {ro : xv_Ro} {d : Nat} {z : Nat × Nat} {J : Nat → Nat → Int64} {bs : Nat} {x2 : Option Value} {M : Nat → Nat → Int32} {b : Nat → Nat} {n p c w : Nat} {W W' : List (Nat × Nat)} {T T' : List (l_D × Nat)} (h : l_s M b n p W c) (hp : p < n) (hw : 2 ≤ w ∧ w ≤ 6) (hb : b p = l_ch w) (hT : l_T (M 174) T c) (hj : l_J (decide (w < 4)) W T = some (W', T')) : ∃ V c' x2', l_F ro d z J bs x2' (l_HL ro d z J bs x2 M) V ∧ l_s V b n (p + 1) ((w, 0) :: W') c' ∧ l_T (V 174) T' c' ∧ c ≤ c' ∧ (∀ j, j < c → V 174 j = M 174 j) ∧ l_g M V := by
  have h1 := h.2.1
  have hh := xq_here ro (d + 3) z M J h1
  rw [show tp_c b n p = nI (b p) from if_pos hp, hb] at hh
  have hsg := xq_sumSign ro (d + 3) (z, xv_mk M J) hw
  have gm : (nI w = -1) = False := vz_m1 (by omega)
  obtain ⟨U, c', u1, u2, u3, u4, u5, u6⟩ := xq_closesM ro (d + 2) z J (decide (w < 4)) rfl h hT hj
  obtain ⟨h0, h1', h2, h3, h4, h5, h6, h7⟩ := u2
  have hpn := h1'.2.1
  have g1 : xv_inB (nI W'.length) 260 = true := by (simp (disch := omega) only [vz_all, if_true, if_false, true_or, or_true, eq_self, ite_not, Bool.false_eq_true, ite_self, and_self, true_and, and_true, false_and, and_false, not_true_eq_false, not_false_eq_true, false_or, or_false])
  have e1 : 1048576 * nI w = nI (1048576 * w) := by rw [show (1048576 : Int32) = nI 1048576 from rfl, pk_mul]
  have r1 : ∀ y, xv_u2 U 175 W'.length y 167 14 = nI W'.length := fun y => by rw [xu_ne (by omega)]; exact h4
  have r2 : ∀ y y2, xv_u2 (xv_u2 U 175 W'.length y) 167 14 y2 167 8 = nI p := fun y y2 => by rw [xu_ne2 (by omega), xu_ne (by omega)]; exact h1'.2.2.2.1
  have hoc : l_oc ((w, 0) :: W') = l_oc W' := by
    show (if w = 10 ∨ w = 13 ∨ w = 14 then 1 else 0) + l_oc W' = _
    rw [if_neg (by omega), Nat.zero_add]
  have hpc : l_pc ((w, 0) :: W') = 1 + l_pc W' := by
    show (if w = 11 ∨ w = 12 then 0 else 1) + l_pc W' = _
    rw [if_neg (by omega)]
  refine ⟨xv_u2 (xv_u2 (xv_u2 U 175 W'.length (nI (1048576 * w))) 167 14 (nI (W'.length + 1))) 167 8 (nI (p + 1)), c', some (.int (nI w)), fun V => ⟨fun hr => ?_, fun hr => ?_⟩, ⟨h0, tp_Ms (tp_Mc h1' (by (repeat (first | rw [xu_ne2 (by omega)] | rw [xu_ne (by omega)] | rw [xu_eq]))) (by (repeat (first | rw [xu_ne2 (by omega)] | rw [xu_ne (by omega)] | rw [xu_eq]))) (by (repeat (first | rw [xu_ne2 (by omega)] | rw [xu_ne (by omega)] | rw [xu_eq])))) hp, by rw [hoc]; (repeat (first | rw [xu_ne2 (by omega)] | rw [xu_ne (by omega)] | rw [xu_eq])); exact h2, by (repeat (first | rw [xu_ne2 (by omega)] | rw [xu_ne (by omega)] | rw [xu_eq])); exact h3, by (repeat (first | rw [xu_ne2 (by omega)] | rw [xu_ne (by omega)] | rw [xu_eq])); rfl, ⟨by (repeat (first | rw [xu_ne2 (by omega)] | rw [xu_ne (by omega)] | rw [xu_eq])); rfl, by omega, Or.inr ⟨by omega, rfl, l_W_c W' c' c' h5 (Nat.le_refl _) (fun i hi => by (repeat (first | rw [xu_ne2 (by omega)] | rw [xu_ne (by omega)] | rw [xu_eq]))) (fun i hi => by (repeat (first | rw [xu_ne2 (by omega)] | rw [xu_ne (by omega)] | rw [xu_eq])))⟩⟩, by rw [hpc]; omega, by show W'.length + 1 ≤ p + 1; omega⟩, l_T_c T' c' u3 (fun i hi => by (repeat (first | rw [xu_ne2 (by omega)] | rw [xu_ne (by omega)] | rw [xu_eq]))), u4, fun j hj => by rw [← u5 j hj]; (repeat (first | rw [xu_ne2 (by omega)] | rw [xu_ne (by omega)] | rw [xu_eq])), l_gt u6 ⟨fun a q1 q2 q3 => by (repeat (first | rw [xu_ne2 (by omega)] | rw [xu_ne (by omega)] | rw [xu_eq])), fun j q1 q2 q3 q4 q5 q6 => by (repeat (first | rw [xu_ne2 (by omega)] | rw [xu_ne (by omega)] | rw [xu_eq]))⟩⟩
  · unfold l_HL
    conv => lhs; unfold xb_Mo_readsSum_14
    by_cases c4 : w < 4
    · rw [decide_eq_true c4, if_pos rfl] at u1
      have g4 : (4 ≤ nI w) = False := by (simp (disch := omega) only [vz_all, if_true, if_false, true_or, or_true, eq_self, ite_not, Bool.false_eq_true, ite_self, and_self, true_and, and_true, false_and, and_false, not_true_eq_false, not_false_eq_true, false_or, or_false])
      simp only [xr_all, xf_all, if_true, if_false, true_or, or_true, eq_self, ite_not, Bool.false_eq_true, ite_self, and_self, true_and, and_true, false_and, and_false, not_true_eq_false, not_false_eq_true, xj_Mo_readsSum, xb_Mo_readsSum_0, xb_Mo_readsSum_37, xb_Mo_readsSum_38, xb_Mo_readsSum_83, xb_Mo_readsSum_138, xb_Mo_readsSum_156, xb_Mo_readsSum_163, hh, hsg, gm, g4, u1, h4, g1, nI_clamp (show W'.length < 2 ^ 31 by omega), e1, r1, r2, nI_1, hr, show ((1 : Int32) = 0) = False from eq_false (by decide)]
    · rw [decide_eq_false c4, if_neg (by decide)] at u1
      have g4 : (4 ≤ nI w) = True := by (simp (disch := omega) only [vz_all, if_true, if_false, true_or, or_true, eq_self, ite_not, Bool.false_eq_true, ite_self, and_self, true_and, and_true, false_and, and_false, not_true_eq_false, not_false_eq_true, false_or, or_false])
      simp only [xr_all, xf_all, if_true, if_false, true_or, or_true, eq_self, ite_not, Bool.false_eq_true, ite_self, and_self, true_and, and_true, false_and, and_false, not_true_eq_false, not_false_eq_true, xj_Mo_readsSum, xb_Mo_readsSum_0, xb_Mo_readsSum_37, xb_Mo_readsSum_38, xb_Mo_readsSum_83, xb_Mo_readsSum_138, xb_Mo_readsSum_156, xb_Mo_readsSum_163, hh, hsg, gm, g4, u1, h4, g1, nI_clamp (show W'.length < 2 ^ 31 by omega), e1, r1, r2, nI_1, hr, show ((1 : Int32) = 0) = False from eq_false (by decide)]
  · unfold l_HL
    conv => lhs; unfold xb_Mo_readsSum_14
    by_cases c4 : w < 4
    · rw [decide_eq_true c4, if_pos rfl] at u1
      have g4 : (4 ≤ nI w) = False := by (simp (disch := omega) only [vz_all, if_true, if_false, true_or, or_true, eq_self, ite_not, Bool.false_eq_true, ite_self, and_self, true_and, and_true, false_and, and_false, not_true_eq_false, not_false_eq_true, false_or, or_false])
      simp only [xr_all, xf_all, if_true, if_false, true_or, or_true, eq_self, ite_not, Bool.false_eq_true, ite_self, and_self, true_and, and_true, false_and, and_false, not_true_eq_false, not_false_eq_true, xj_Mo_readsSum, xb_Mo_readsSum_0, xb_Mo_readsSum_37, xb_Mo_readsSum_38, xb_Mo_readsSum_83, xb_Mo_readsSum_138, xb_Mo_readsSum_156, xb_Mo_readsSum_163, hh, hsg, gm, g4, u1, h4, g1, nI_clamp (show W'.length < 2 ^ 31 by omega), e1, r1, r2, nI_1, hr]
    · rw [decide_eq_false c4, if_neg (by decide)] at u1
      have g4 : (4 ≤ nI w) = True := by (simp (disch := omega) only [vz_all, if_true, if_false, true_or, or_true, eq_self, ite_not, Bool.false_eq_true, ite_self, and_self, true_and, and_true, false_and, and_false, not_true_eq_false, not_false_eq_true, false_or, or_false])
      simp only [xr_all, xf_all, if_true, if_false, true_or, or_true, eq_self, ite_not, Bool.false_eq_true, ite_self, and_self, true_and, and_true, false_and, and_false, not_true_eq_false, not_false_eq_true, xj_Mo_readsSum, xb_Mo_readsSum_0, xb_Mo_readsSum_37, xb_Mo_readsSum_38, xb_Mo_readsSum_83, xb_Mo_readsSum_138, xb_Mo_readsSum_156, xb_Mo_readsSum_163, hh, hsg, gm, g4, u1, h4, g1, nI_clamp (show W'.length < 2 ^ 31 by omega), e1, r1, r2, nI_1, hr]
theorem l_ns93 {b : Nat → Nat} {n p : Nat} (h : p < n → b p = 93) : l_ns b n p := fun q => by rw [h q]; omega
/-- an opened sum is closed -/
theorem l_sC {ro : xv_Ro} {d : Nat} {z : Nat × Nat} {J : Nat → Nat → Int64} {bs : Nat} {x2 : Option Value} {M : Nat → Nat → Int32} {b : Nat → Nat} {n p c : Nat} {W W' : List (Nat × Nat)} {T T' : List (l_D × Nat)} (h : l_s M b n p W c) (hp : p < n) (hb : b p = 93) (hT : l_T (M 174) T c) (hj : l_J true W T = some ((14, 0) :: W', T')) (hbs : bs ≤ W'.length) : ∃ V c' x2', l_HL ro d z J bs x2 M = l_HL ro d z J bs x2' V ∧ l_s V b n (p + 1) W' c' ∧ l_T (V 174) T' c' ∧ c ≤ c' ∧ (∀ j, j < c → V 174 j = M 174 j) ∧ l_g M V := by
  have h1 := h.2.1
  have hb2 := fun hp : p < n => (h1.2.2.2.2 p hp).1
  have hh := xq_here ro (d + 3) z M J h1
  have hsg := xq_sumSign_no ro (d + 3) (z, xv_mk M J) hb2 (l_ns93 (fun _ => hb))
  rw [show tp_c b n p = nI (b p) from if_pos hp, hb] at hh hsg
  have g93 : (nI 93 = 93) = True := eq_true rfl
  have z1 : ((1 : Int32) = 0) = False := eq_false (by decide)
  obtain ⟨i1, i2, i3⟩ := l_Jl _ _ _ _ hj
  have i1 : W'.length + 1 ≤ W.length := i1
  have hho := (xq_hasOpen ro (d + 3) z M J (bs := bs) h (by omega)).1 ⟨W'.length, hbs, by omega, by rw [i2 W'.length (Nat.lt_succ_self _)]; unfold l_at; rw [if_pos rfl]⟩
  obtain ⟨U, c', u1, u2, u3, u4, u5, u6⟩ := xq_closesM ro (d + 2) z J true rfl h hT hj
  rw [if_pos rfl] at u1
  obtain ⟨h0, h1', h2, h3, h4, h5, h6, h7⟩ := u2
  have h4' : U 167 14 = nI (W'.length + 1) := h4
  have h2' : U 167 12 = nI (l_oc W' + 1) := by
    have : U 167 12 = nI ((if 14 = 10 ∨ 14 = 13 ∨ 14 = 14 then 1 else 0) + l_oc W') := h2
    rw [if_pos (by omega), Nat.add_comm] at this; exact this
  have h6' : c' + (1 + l_pc W') + b 1000 ≤ p := by
    have : c' + ((if 14 = 11 ∨ 14 = 12 then 0 else 1) + l_pc W') + b 1000 ≤ p := h6
    rw [if_neg (by omega)] at this; exact this
  have h7' : W'.length + 1 ≤ p := h7
  obtain ⟨w1, w2, w3⟩ := h5
  have w3' : l_W (U 174) (U 175) W' c' := by
    rcases w3 with ⟨q, -⟩ | ⟨-, -, q2⟩
    · omega
    · exact q2
  have r1 : ∀ y, xv_u2 U 167 14 y 167 12 = nI (l_oc W' + 1) := fun y => by rw [xu_ne2 (by omega)]; exact h2'
  have r2 : ∀ y y2, xv_u2 (xv_u2 U 167 14 y) 167 12 y2 167 8 = nI p := fun y y2 => by rw [xu_ne2 (by omega), xu_ne2 (by omega)]; exact h1'.2.2.2.1
  refine ⟨xv_u2 (xv_u2 (xv_u2 U 167 14 (nI W'.length)) 167 12 (nI (l_oc W'))) 167 8 (nI (p + 1)), c', some (.int (-1)), ?_, ⟨h0, tp_Ms (tp_Mc h1' (by (repeat (first | rw [xu_ne2 (by omega)] | rw [xu_ne (by omega)] | rw [xu_eq]))) (by (repeat (first | rw [xu_ne2 (by omega)] | rw [xu_ne (by omega)] | rw [xu_eq]))) (by (repeat (first | rw [xu_ne2 (by omega)] | rw [xu_ne (by omega)] | rw [xu_eq])))) hp, by (repeat (first | rw [xu_ne2 (by omega)] | rw [xu_ne (by omega)] | rw [xu_eq])), by (repeat (first | rw [xu_ne2 (by omega)] | rw [xu_ne (by omega)] | rw [xu_eq])); exact h3, by (repeat (first | rw [xu_ne2 (by omega)] | rw [xu_ne (by omega)] | rw [xu_eq])), l_W_c W' c' c' w3' (Nat.le_refl _) (fun i hi => by (repeat (first | rw [xu_ne2 (by omega)] | rw [xu_ne (by omega)] | rw [xu_eq]))) (fun i hi => by (repeat (first | rw [xu_ne2 (by omega)] | rw [xu_ne (by omega)] | rw [xu_eq]))), by omega, by omega⟩, l_T_c T' c' u3 (fun i hi => by (repeat (first | rw [xu_ne2 (by omega)] | rw [xu_ne (by omega)] | rw [xu_eq]))), u4, fun j hj => by rw [← u5 j hj]; (repeat (first | rw [xu_ne2 (by omega)] | rw [xu_ne (by omega)] | rw [xu_eq])), l_gt u6 ⟨fun a q1 q2 q3 => by (repeat (first | rw [xu_ne2 (by omega)] | rw [xu_ne (by omega)] | rw [xu_eq])), fun j q1 q2 q3 q4 q5 q6 => by (repeat (first | rw [xu_ne2 (by omega)] | rw [xu_ne (by omega)] | rw [xu_eq]))⟩⟩
  unfold l_HL
  conv => lhs; unfold xb_Mo_readsSum_14
  simp only [xr_all, xf_all, if_true, if_false, true_or, or_true, eq_self, ite_not, Bool.false_eq_true, ite_self, and_self, true_and, and_true, false_and, and_false, not_true_eq_false, not_false_eq_true, xj_Mo_readsSum, xb_Mo_readsSum_0, xb_Mo_readsSum_37, xb_Mo_readsSum_38, xb_Mo_readsSum_83, xb_Mo_readsSum_138, xb_Mo_readsSum_156, xb_Mo_readsSum_163, hh, hsg, g93, hho, z1, u1, h4', nI_pred, r1, r2, nI_1]
/-- a sum that is still open can't end -/
theorem l_sE {ro : xv_Ro} {d : Nat} {z : Nat × Nat} {J : Nat → Nat → Int64} {bs : Nat} {x2 : Option Value} {M : Nat → Nat → Int32} {b : Nat → Nat} {n p c : Nat} {W W' : List (Nat × Nat)} {T T' : List (l_D × Nat)} (h : l_s M b n p W c) (hns : l_ns b n p) (hb : p < n → b p ≠ 93) (hj : l_J true W T = some ((14, 0) :: W', T')) (hbs : bs ≤ W'.length) : l_B z J M (l_HL ro d z J bs x2 M) 1 p := by
  have h1 := h.2.1
  have hb2 := fun hp : p < n => (h1.2.2.2.2 p hp).1
  have hh := xq_here ro (d + 3) z M J h1
  have hsg := xq_sumSign_no ro (d + 3) (z, xv_mk M J) hb2 hns
  have g93 := l_ne_c (c := 93) hb2 (by omega) hb
  rw [show nI 93 = (93 : Int32) from rfl] at g93
  have z1 : ((1 : Int32) = 0) = False := eq_false (by decide)
  obtain ⟨i1, i2, i3⟩ := l_Jl _ _ _ _ hj
  have i1 : W'.length + 1 ≤ W.length := i1
  have hho := (xq_hasOpen ro (d + 3) z M J (bs := bs) h (by omega)).1 ⟨W'.length, hbs, by omega, by rw [i2 W'.length (Nat.lt_succ_self _)]; unfold l_at; rw [if_pos rfl]⟩
  have hw := xq_wrongAt ro (d + 3) z M J 1 (nI p)
  refine ⟨xv_u2 M 167 10 (-1000 * 1 - nI p), ?_, xu_eq, l_g10 M _⟩
  unfold l_HL
  conv => lhs; unfold xb_Mo_readsSum_14
  simp only [xr_all, xf_all, if_true, if_false, true_or, or_true, eq_self, ite_not, Bool.false_eq_true, ite_self, and_self, true_and, and_true, false_and, and_false, not_true_eq_false, not_false_eq_true, xj_Mo_readsSum, xb_Mo_readsSum_0, xb_Mo_readsSum_37, xb_Mo_readsSum_38, xb_Mo_readsSum_83, xb_Mo_readsSum_138, xb_Mo_readsSum_156, xb_Mo_readsSum_163, hh, hsg, g93, hho, z1, h1.2.2.2.1, hw]
/-- a sum ends -/
theorem l_sR {ro : xv_Ro} {d : Nat} {z : Nat × Nat} {J : Nat → Nat → Int64} {bs : Nat} {x2 : Option Value} {M : Nat → Nat → Int32} {b : Nat → Nat} {n p c : Nat} {W W' : List (Nat × Nat)} {T T' : List (l_D × Nat)} (h : l_s M b n p W c) (hns : l_ns b n p) (hT : l_T (M 174) T c) (hj : l_J true W T = some (W', T')) (hbs : bs = W'.length) : ∃ V c', l_HL ro d z J bs x2 M = some (some (.int 1), (z, xv_mk V J)) ∧ l_s V b n p W' c' ∧ l_T (V 174) T' c' ∧ c ≤ c' ∧ (∀ j, j < c → V 174 j = M 174 j) ∧ l_g M V := by
  have h1 := h.2.1
  have hb2 := fun hp : p < n => (h1.2.2.2.2 p hp).1
  have hh := xq_here ro (d + 3) z M J h1
  have hsg := xq_sumSign_no ro (d + 3) (z, xv_mk M J) hb2 hns
  obtain ⟨i1, i2, i3⟩ := l_Jl _ _ _ _ hj
  have hho := (xq_hasOpen ro (d + 3) z M J (bs := bs) h (by omega)).2 (fun k0 q1 q2 => i3 k0 (by omega) q2)
  obtain ⟨U, c', u1, u2, u3, u4, u5, u6⟩ := xq_closesM ro (d + 2) z J true rfl h hT hj
  rw [if_pos rfl] at u1
  refine ⟨U, c', ?_, u2, u3, u4, u5, u6⟩
  unfold l_HL
  conv => lhs; unfold xb_Mo_readsSum_14
  by_cases g : tp_c b n p = 93
  · have g93 := eq_true g
    simp only [xr_all, xf_all, if_true, if_false, true_or, or_true, eq_self, ite_not, Bool.false_eq_true, ite_self, and_self, true_and, and_true, false_and, and_false, not_true_eq_false, not_false_eq_true, xj_Mo_readsSum, xb_Mo_readsSum_0, xb_Mo_readsSum_37, xb_Mo_readsSum_38, xb_Mo_readsSum_83, xb_Mo_readsSum_138, xb_Mo_readsSum_156, xb_Mo_readsSum_163, hh, hsg, g93, hho, u1]
  · have g93 := eq_false g
    simp only [xr_all, xf_all, if_true, if_false, true_or, or_true, eq_self, ite_not, Bool.false_eq_true, ite_self, and_self, true_and, and_true, false_and, and_false, not_true_eq_false, not_false_eq_true, xj_Mo_readsSum, xb_Mo_readsSum_0, xb_Mo_readsSum_37, xb_Mo_readsSum_38, xb_Mo_readsSum_83, xb_Mo_readsSum_138, xb_Mo_readsSum_156, xb_Mo_readsSum_163, hh, hsg, g93, hho, u1]
theorem l_sB {ro : xv_Ro} {d : Nat} {z : Nat × Nat} {J : Nat → Nat → Int64} {M : Nat → Nat → Int32} {b : Nat → Nat} {n p c : Nat} {W : List (Nat × Nat)} (h : l_s M b n p W c) : l_F ro d z J W.length none (xv_evm ro (d + 4) 69 [.ref 167] (z, xv_mk M J)) M := by
  have h4 := h.2.2.2.2.1
  have z1 : ((1 : Int32) = 0) = False := eq_false (by decide)
  refine fun V => ⟨fun hr => ?_, fun hr => ?_⟩
  · unfold l_HL
    rw [xe_Mo_readsSum]
    simp only [xr_all, xf_all, if_true, if_false, true_or, or_true, eq_self, ite_not, Bool.false_eq_true, ite_self, and_self, true_and, and_true, false_and, and_false, not_true_eq_false, not_false_eq_true, xj_Mo_readsSum, xb_Mo_readsSum_0, xb_Mo_readsSum_37, xb_Mo_readsSum_38, xb_Mo_readsSum_83, xb_Mo_readsSum_138, xb_Mo_readsSum_156, xb_Mo_readsSum_163, h4, hr, z1]
  · rw [xe_Mo_readsSum]
    simp only [xr_all, xf_all, if_true, if_false, true_or, or_true, eq_self, ite_not, Bool.false_eq_true, ite_self, and_self, true_and, and_true, false_and, and_false, not_true_eq_false, not_false_eq_true, xj_Mo_readsSum, xb_Mo_readsSum_0, xb_Mo_readsSum_37, xb_Mo_readsSum_38, xb_Mo_readsSum_83, xb_Mo_readsSum_138, xb_Mo_readsSum_156, xb_Mo_readsSum_163, h4, hr]
