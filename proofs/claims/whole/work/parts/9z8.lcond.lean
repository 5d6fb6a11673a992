/-! law: the class's test, tests, parts beside the model's condition -/
def l_Rb : l_R → Prop
  | .inl _ => True
  | .inr (D, _, _) => l_bo D
def l_lt (ro : xv_Ro) (kk : Nat) (Q : Nat → Nat → l_R → Prop) (rq hh : Nat) (b : Nat → Nat) (n K : Nat) : Prop := ∀ (p o s : Nat) (I : Nat → Nat → Int32) (z : Nat × Nat) (J : Nat → Nat → Int64) (d : Nat), n - p < K → 1 ≤ o → o ≤ 6 → tp_C b n p I → I 13 7 = nI s → s ≤ p → rq + 3 * (6 - o) ≤ d → ∃ (r : l_R) (W : Nat → Nat → Int32), xv_evm ro d kk [.ref 1, .ref 13, .int (nI o)] (z, xv_mk I J) = some (none, (z, xv_mk W J)) ∧ l_C b n p s s (hh + 2 * (6 - o)) I W r ∧ l_Rb r ∧ Q p o r
def l_MT (ro : xv_Ro) (b : Nat → Nat) (n p o : Nat) : l_R → Prop
  | .inl (f, q) => ∀ (d : Nat) (z : Nat × Nat) (J : Nat → Nat → Int64) (M : Nat → Nat → Int32) (W : List (Nat × Nat)) (T : List (l_D × Nat)) (c : Nat), l_s M b n p W c → l_CT (M 174) W T c → l_oc W = o → l_hs true W → l_B z J M (l_C1 ro d z J M) f q
  | .inr (D, p', _) => ∀ (d : Nat) (z : Nat × Nat) (J : Nat → Nat → Int64) (M : Nat → Nat → Int32) (W : List (Nat × Nat)) (T : List (l_D × Nat)) (c : Nat), l_s M b n p W c → l_CT (M 174) W T c → l_oc W = o → l_hs true W → ∃ (V : Nat → Nat → Int32) (c' : Nat), l_C1 ro d z J M = l_C2 ro d z J V ∧ l_s V b n p' (l_E W D).1 c' ∧ l_mS (V 174) c c' (l_E W D).2 ∧ (∀ j, j < c → V 174 j = M 174 j) ∧ l_g M V
def l_h2 (al : Bool) (W : List (Nat × Nat)) : Prop := ∀ o v W', W = (o, v) :: W' → l_ld al o = false ∧ o ≠ 10
def l_MK (ro : xv_Ro) (b : Nat → Nat) (n p o : Nat) (al : Bool) (X : Nat → Prop) : l_R → Prop
  | .inl (f, q) => ∀ (d : Nat) (z : Nat × Nat) (J : Nat → Nat → Int64) (M : Nat → Nat → Int32) (W : List (Nat × Nat)) (T : List (l_D × Nat)) (c : Nat), l_s M b n p W c → l_CT (M 174) W T c → l_oc W = o → l_hs true W → l_h2 al W → l_B z J M (l_C1 ro d z J M) f q
  | .inr (D, p', _) => (∀ (d : Nat) (z : Nat × Nat) (J : Nat → Nat → Int64) (M : Nat → Nat → Int32) (W : List (Nat × Nat)) (T : List (l_D × Nat)) (c : Nat), l_s M b n p W c → l_CT (M 174) W T c → l_oc W = o → l_hs true W → l_h2 al W → ∃ (V : Nat → Nat → Int32) (W1 : List (Nat × Nat)) (T1 : List (l_D × Nat)) (D1 : l_D) (c0 c1 : Nat), l_C1 ro d z J M = l_C2 ro d z J V ∧ l_s V b n p' W1 c1 ∧ l_CT (V 174) W1 T1 c0 ∧ l_mS (V 174) c0 c1 D1 ∧ l_Ln al W1 T1 D1 c0 = some (W, T, D, c) ∧ (∀ j, j < c → V 174 j = M 174 j) ∧ l_g M V) ∧ X p'
def l_MQ (ro : xv_Ro) (b : Nat → Nat) (n p o : Nat) (al : Bool) (X : Nat → Prop) (acc : l_D) : l_R → Prop
  | .inl (f, q) => ∀ (d : Nat) (z : Nat × Nat) (J : Nat → Nat → Int64) (M : Nat → Nat → Int32) (W : List (Nat × Nat)) (T : List (l_D × Nat)) (c : Nat) (W0 : List (Nat × Nat)) (T0 : List (l_D × Nat)) (D0 : l_D) (c0 c1 : Nat), l_s M b n p W0 c1 → l_CT (M 174) W0 T0 c0 → l_mS (M 174) c0 c1 D0 → l_Ln al W0 T0 D0 c0 = some (W, T, acc, c) → l_oc W = o → l_hs true W → l_h2 al W → l_B z J M (l_C2 ro d z J M) f q
  | .inr (D, p', _) => (∀ (d : Nat) (z : Nat × Nat) (J : Nat → Nat → Int64) (M : Nat → Nat → Int32) (W : List (Nat × Nat)) (T : List (l_D × Nat)) (c : Nat) (W0 : List (Nat × Nat)) (T0 : List (l_D × Nat)) (D0 : l_D) (c0 c1 : Nat), l_s M b n p W0 c1 → l_CT (M 174) W0 T0 c0 → l_mS (M 174) c0 c1 D0 → l_Ln al W0 T0 D0 c0 = some (W, T, acc, c) → l_oc W = o → l_hs true W → l_h2 al W → ∃ (V : Nat → Nat → Int32) (W1 : List (Nat × Nat)) (T1 : List (l_D × Nat)) (D1 : l_D) (c2 c3 : Nat), l_C2 ro d z J M = l_C2 ro d z J V ∧ l_s V b n p' W1 c3 ∧ l_CT (V 174) W1 T1 c2 ∧ l_mS (V 174) c2 c3 D1 ∧ l_Ln al W1 T1 D1 c2 = some (W, T, D, c) ∧ (∀ j, j < c → V 174 j = M 174 j) ∧ l_g M V) ∧ X p'
theorem l_Lh {al : Bool} {W : List (Nat × Nat)} (h : l_h2 al W) (T : List (l_D × Nat)) (D : l_D) (s : Nat) : l_Ln al W T D s = some (W, T, D, s) := by
  cases W with
  | nil => rfl
  | cons a W =>
    obtain ⟨o, v⟩ := a
    unfold l_Ln
    rw [(h o v W rfl).1, if_neg (by decide)]
theorem l_Eh {al : Bool} {W : List (Nat × Nat)} (h : l_h2 al W) (D : l_D) : l_E W D = (W, D) := by
  cases W with
  | nil => rfl
  | cons a W =>
    obtain ⟨o, v⟩ := a
    unfold l_E
    rw [if_neg (h o v W rfl).2]
theorem l_Lc : ∀ (W : List (Nat × Nat)) (T : List (l_D × Nat)) (D : l_D) (s : Nat) (W1 : List (Nat × Nat)) (T1 : List (l_D × Nat)) (D1 : l_D) (s1 : Nat), l_Ln false W T D s = some (W1, T1, D1, s1) → l_Ln true W T D s = l_Ln true W1 T1 D1 s1 := by
  intro W
  induction W with
  | nil => intro T D s W1 T1 D1 s1 h; cases h; rfl
  | cons a W ih =>
    obtain ⟨o, v⟩ := a
    intro T D s W1 T1 D1 s1 h
    unfold l_Ln at h
    cases c : l_ld false o with
    | true =>
      rw [if_pos c] at h
      have ho := l_ld_t c
      have ho : o = 11 := by
        rcases ho with q | ⟨q, -⟩
        · exact q
        · cases q
      match T, h with
      | [], h => cases h
      | (A, s') :: T, h =>
        dsimp only at h
        rw [← ih _ _ _ _ _ _ _ h]
        conv => lhs; unfold l_Ln
        rw [if_pos (by rw [ho]; rfl)]
    | false =>
      rw [if_neg (by rw [c]; decide)] at h
      cases h
      rfl
theorem l_h2ft {W : List (Nat × Nat)} (h : l_h2 true W) : l_h2 false W := by
  intro o v W' q
  obtain ⟨h1, h2⟩ := h o v W' q
  refine ⟨?_, h2⟩
  obtain ⟨h3, h4⟩ := l_ld_f h1
  unfold l_ld
  simp; exact h3
theorem l_CTo {K : Nat → Int32} {W : List (Nat × Nat)} {T : List (l_D × Nat)} {c o v : Nat} (h : l_CT K W T c) (ho : ¬ (o = 11 ∨ o = 12)) : l_CT K ((o, v) :: W) T c := by
  unfold l_CT
  rw [if_neg ho]
  exact h
theorem l_bo_not {A : l_D} (h : l_bo A) : l_bo (l_not A) := by
  intro F
  unfold l_not
  rcases h F with q | q | q
  · rw [q]; exact Or.inl rfl
  · rw [q]; exact Or.inr (Or.inr rfl)
  · rw [q]; exact Or.inr (Or.inl rfl)
theorem l_bo_and {A B : l_D} (h : l_bo A) (h2 : l_bo B) : l_bo (l_and A B) := by
  intro F
  unfold l_and
  rcases h F with q | q | q
  · rw [q]; exact Or.inl rfl
  · rw [q]; exact Or.inr (Or.inl rfl)
  · rw [q]; exact h2 F
theorem l_bo_or {A B : l_D} (h : l_bo A) (h2 : l_bo B) : l_bo (l_or A B) := by
  intro F
  unfold l_or
  rcases h F with q | q | q
  · rw [q]; exact Or.inl rfl
  · rw [q]; exact h2 F
  · rw [q]; exact Or.inr (Or.inr rfl)
theorem l_bo_cmp {A B : l_D} {w : Nat} (hw : 7 ≤ w ∧ w ≤ 9) : l_bo (l_bin w A B) := by
  intro F
  unfold l_bin
  cases A F with
  | none => exact Or.inl rfl
  | some x =>
    cases B F with
    | none => exact Or.inl rfl
    | some y =>
      have hw2 : w = 7 ∨ w = 8 ∨ w = 9 := by omega
      rcases hw2 with rfl | rfl | rfl
      · show some (if x < y then (1 : Int32) else 0) = none ∨ some (if x < y then (1 : Int32) else 0) = some 0 ∨ some (if x < y then (1 : Int32) else 0) = some 1
        by_cases q : x < y
        · rw [if_pos q]; exact Or.inr (Or.inr rfl)
        · rw [if_neg q]; exact Or.inr (Or.inl rfl)
      · show some (if y < x then (1 : Int32) else 0) = none ∨ some (if y < x then (1 : Int32) else 0) = some 0 ∨ some (if y < x then (1 : Int32) else 0) = some 1
        by_cases q : y < x
        · rw [if_pos q]; exact Or.inr (Or.inr rfl)
        · rw [if_neg q]; exact Or.inr (Or.inl rfl)
      · show some (if x = y then (1 : Int32) else 0) = none ∨ some (if x = y then (1 : Int32) else 0) = some 0 ∨ some (if x = y then (1 : Int32) else 0) = some 1
        by_cases q : x = y
        · rw [if_pos q]; exact Or.inr (Or.inr rfl)
        · rw [if_neg q]; exact Or.inr (Or.inl rfl)
def l_X2 (b : Nat → Nat) (n p : Nat) : Prop := p < n → b p ≠ 38 ∧ b p ≠ 124
def l_X1 (b : Nat → Nat) (n p : Nat) : Prop := p < n → b p ≠ 38
/-- one byte more is kept free -/
def l_bs (b : Nat → Nat) : Nat → Nat := fun j => if j = 1000 then b 1000 + 1 else b j
theorem l_bse (b : Nat → Nat) {j : Nat} (h : j ≠ 1000) : l_bs b j = b j := if_neg h
theorem l_bsC {b : Nat → Nat} {n p : Nat} {I : Nat → Nat → Int32} (hn : n ≤ 240) (h : tp_C b n p I) : tp_C (l_bs b) n p I := by
  obtain ⟨h1, h2, h3, h4, h5, h6⟩ := h
  exact ⟨h1, h2, h3, h4, h5, fun j hj => by rw [l_bse b (by omega)]; exact h6 j hj⟩
theorem l_bsC' {b : Nat → Nat} {n p : Nat} {I : Nat → Nat → Int32} (hn : n ≤ 240) (h : tp_C (l_bs b) n p I) : tp_C b n p I := by
  obtain ⟨h1, h2, h3, h4, h5, h6⟩ := h
  exact ⟨h1, h2, h3, h4, h5, fun j hj => by rw [← l_bse b (show j ≠ 1000 by omega)]; exact h6 j hj⟩
theorem l_bsM {b : Nat → Nat} {n p : Nat} {I : Nat → Nat → Int32} (hn : n ≤ 240) (h : tp_M b n p I) : tp_M (l_bs b) n p I := by
  obtain ⟨h1, h2, h3, h4, h6⟩ := h
  exact ⟨h1, h2, h3, h4, fun j hj => by rw [l_bse b (by omega)]; exact h6 j hj⟩
theorem l_bsM' {b : Nat → Nat} {n p : Nat} {I : Nat → Nat → Int32} (hn : n ≤ 240) (h : tp_M (l_bs b) n p I) : tp_M b n p I := by
  obtain ⟨h1, h2, h3, h4, h6⟩ := h
  exact ⟨h1, h2, h3, h4, fun j hj => by rw [← l_bse b (show j ≠ 1000 by omega)]; exact h6 j hj⟩
theorem l_bsS {M : Nat → Nat → Int32} {b : Nat → Nat} {n p c : Nat} {W : List (Nat × Nat)} (hp : p < n) (h : l_s M b n p W c) : l_s (xv_u2 M 167 8 (nI (p + 1))) (l_bs b) n (p + 1) W c := by
  obtain ⟨h0, h1, h2, h3, h4, h5, h6, h7⟩ := h
  have e1000 : l_bs b 1000 = b 1000 + 1 := if_pos rfl
  exact ⟨h0, l_bsM h0 (tp_Ms h1 hp), by (repeat (first | rw [xu_ne2 (by omega)] | rw [xu_ne (by omega)] | rw [xu_eq])); exact h2, by (repeat (first | rw [xu_ne2 (by omega)] | rw [xu_ne (by omega)] | rw [xu_eq])); exact h3, by (repeat (first | rw [xu_ne2 (by omega)] | rw [xu_ne (by omega)] | rw [xu_eq])); exact h4, l_W_c W c c h5 (Nat.le_refl _) (fun i hi => by (repeat (first | rw [xu_ne2 (by omega)] | rw [xu_ne (by omega)] | rw [xu_eq]))) (fun i hi => by (repeat (first | rw [xu_ne2 (by omega)] | rw [xu_ne (by omega)] | rw [xu_eq]))), by rw [e1000]; omega, by omega⟩
/-- a comparison -/
theorem l_test_cmp {ro : xv_Ro} {b : Nat → Nat} {n : Nat} (hn : n ≤ 240) (p o s : Nat) (I : Nat → Nat → Int32) (z : Nat × Nat) (J : Nat → Nat → Int64) (e : Nat) (ho : o ≤ 6) (hC : tp_C b n p I) (hs : I 13 7 = nI s) (hsp : s ≤ p) (hd : 6 + 3 * (6 - o) ≤ e + 6) (hb : p < n → b p ≠ 33 ∧ b p ≠ 40) : ∃ (r : l_R) (W : Nat → Nat → Int32), xv_evm ro (e + 6) 216 [.ref 1, .ref 13, .int (nI o)] (z, xv_mk I J) = some (none, (z, xv_mk W J)) ∧ l_C b n p s s (4 + 2 * (6 - o)) I W r ∧ l_Rb r ∧ l_MT ro b n p o r := by
  have hpn := hC.2.1
  have hbb := fun hp : p < n => (hC.2.2.2.2.2 p hp).1
  have hsg := xq_sign ro (e + 5) z I J hC
  have g33 := l_ne_c (c := 33) hbb (by omega) (fun q => (hb q).1)
  have g40 := l_ne_c (c := 40) hbb (by omega) (fun q => (hb q).2)
  rw [show nI 33 = (33 : Int32) from rfl] at g33
  rw [show nI 40 = (40 : Int32) from rfl] at g40
  obtain ⟨r1, W1, k1, k2, k3⟩ := l_suma ro hn p o s I z J (e + 5) ho hC hs hsp (by omega)
  match r1, k2, k3 with
  | .inl (f, q), k2, k3 =>
    obtain ⟨a1, a2, a3, a4, a5⟩ := k2
    have hdd : (W1 1 4 = 0) = False := by rw [a5]; exact tp_f f a1 a2 a3
    have hsx := xq_sign_x ro (e + 5) z W1 J hdd
    have hpl := xq_Tape_place ro (e + 5) z W1 J
    have hrf := xq_refuse_x ro (e + 5) z W1 J 1 (W1 1 3) hdd
    obtain ⟨V, v1, v2, v3⟩ := l_x_test59 ro e z W1 J (nI o) (tp_c b n p) (-1) hdd
    have m3 : ((-1 : Int32) = 60) = False := eq_false (by decide)
    have m4 : ((-1 : Int32) = 62) = False := eq_false (by decide)
    have m5 : ((-1 : Int32) = 61) = False := eq_false (by decide)
    refine ⟨.inl (f, q), V, ?_, ⟨a1, a2, a3, l_cft a4 v2, by rw [v3]; exact a5⟩, trivial, ?_⟩
    · rw [xe_LawReader_test]
      simp only [xr_all, xf_all, if_true, if_false, true_or, or_true, eq_self, ite_not, Bool.false_eq_true, ite_self, and_self, true_and, and_true, false_and, and_false, not_true_eq_false, not_false_eq_true, xj_LawReader_test, xb_LawReader_test_0, xb_LawReader_test_79, xb_LawReader_test_115, xb_LawReader_test_129, hsg, g33, g40, k1, hsx, m3, m4, m5, hpl, hrf, v1]
    · intro d z J M W T c hm hTT hop hH
      obtain ⟨U, u1, u2, u3⟩ := k3 d z J M W c hm hop hH
      exact ⟨U, (k_cmp hm hb).2 (k_ca u1), u2, u3⟩
  | .inr (D1, p1, s1), k2, k3 =>
    obtain ⟨a1, a2, a3, a4, a5, a6, a7⟩ := k2
    have p1n := a2.2.1
    have hbb1 := fun hp : p1 < n => (a2.2.2.2.2.2 p1 hp).1
    have hsx := xq_sign ro (e + 5) z W1 J a2
    by_cases cw : p1 < n ∧ ∃ w, (b p1 = 60 ∧ w = 7) ∨ (b p1 = 62 ∧ w = 8) ∨ (b p1 = 61 ∧ w = 9)
    · obtain ⟨hp1, w, hw⟩ := cw
      have ev : tp_c b n p1 = nI (b p1) := if_pos hp1
      have hchw : b p1 = l_ch w := by
        rcases hw with ⟨h1, rfl⟩ | ⟨h1, rfl⟩ | ⟨h1, rfl⟩ <;> exact h1
      have hst := xq_step ro (e + 5) z W1 J a2 hp1
      have hC1 := tp_Cs a2 hp1
      obtain ⟨r2, W2, m1, m2, m3⟩ := l_suma ro (b := l_bs b) hn (p1 + 1) o s1 _ z J (e + 5) ho (l_bsC hn hC1) (by (repeat (first | rw [xu_ne2 (by omega)] | rw [xu_ne (by omega)] | rw [xu_eq])); exact a4) (by omega) (by omega)
      have cls : ∀ W3, xv_evm ro (e + 5) 207 [.ref 13, .int (nI (b p1)), .int 0] (z, xv_mk W2 J) = some (none, (z, xv_mk W3 J)) → xv_evm ro (e + 6) 216 [.ref 1, .ref 13, .int (nI o)] (z, xv_mk I J) = some (none, (z, xv_mk W3 J)) := by
        intro W3 hx
        rw [ev] at hsx
        rw [xe_LawReader_test]
        rcases hw with ⟨h1, rfl⟩ | ⟨h1, rfl⟩ | ⟨h1, rfl⟩
        · rw [h1] at hx hsx
          have y1 : (nI 60 = 60) = True := eq_true rfl
          simp only [xr_all, xf_all, if_true, if_false, true_or, or_true, eq_self, ite_not, Bool.false_eq_true, ite_self, and_self, true_and, and_true, false_and, and_false, not_true_eq_false, not_false_eq_true, xj_LawReader_test, xb_LawReader_test_0, xb_LawReader_test_59, xb_LawReader_test_79, xb_LawReader_test_115, xb_LawReader_test_129, hsg, g33, g40, k1, hsx, y1, hst, m1, hx]
        · rw [h1] at hx hsx
          have y1 : (nI 62 = 60) = False := eq_false (by decide)
          have y2 : (nI 62 = 62) = True := eq_true rfl
          simp only [xr_all, xf_all, if_true, if_false, true_or, or_true, eq_self, ite_not, Bool.false_eq_true, ite_self, and_self, true_and, and_true, false_and, and_false, not_true_eq_false, not_false_eq_true, xj_LawReader_test, xb_LawReader_test_0, xb_LawReader_test_59, xb_LawReader_test_79, xb_LawReader_test_115, xb_LawReader_test_129, hsg, g33, g40, k1, hsx, y1, y2, hst, m1, hx]
        · rw [h1] at hx hsx
          have y1 : (nI 61 = 60) = False := eq_false (by decide)
          have y2 : (nI 61 = 62) = False := eq_false (by decide)
          have y3 : (nI 61 = 61) = True := eq_true rfl
          simp only [xr_all, xf_all, if_true, if_false, true_or, or_true, eq_self, ite_not, Bool.false_eq_true, ite_self, and_self, true_and, and_true, false_and, and_false, not_true_eq_false, not_false_eq_true, xj_LawReader_test, xb_LawReader_test_0, xb_LawReader_test_59, xb_LawReader_test_79, xb_LawReader_test_115, xb_LawReader_test_129, hsg, g33, g40, k1, hsx, y1, y2, y3, hst, m1, hx]
      match r2, m2, m3 with
      | .inl (f, q), m2, m3 =>
        obtain ⟨b1, b2, b3, b4, b5⟩ := m2
        obtain ⟨W3, w1, w2, w3⟩ := xq_ladd_any ro (e + 5) z W2 J (nI (b p1)) 0
        refine ⟨.inl (f, q), W3, cls W3 w1, ⟨b1, b2, b3, l_cft a3 (l_cft (l_cf3 W1 _) (l_cft b4 w2)), by rw [w3]; exact b5⟩, trivial, ?_⟩
        intro d z J M W T c hm hTT hop hH
        obtain ⟨U, c1, u1, u2, u3, u4, u5⟩ := k3.1 d z J M W c hm hop hH
        obtain ⟨t1, t2, -, -⟩ := k_cd (ro := ro) (d := d) (z := z) (J := J) (V2 := U) (w := w) u2 hp1
        obtain ⟨U2, x1, x2, x3⟩ := m3 d z J _ W c1 (l_bsS hp1 u2) hop hH
        obtain ⟨-, -, t3, -⟩ := k_cd (ro := ro) (d := d) (z := z) (J := J) (V2 := U2) (w := w) u2 hp1
        exact ⟨U2, (k_cmp hm hb).2 ((k_cc u1 u2 hp1 hw).trans (t3 x1)), x2, l_gt u5 (l_gt t2 x3)⟩
      | .inr (D2, p2, s2), m2, m3 =>
        obtain ⟨b1, b2, b3, b4, b5, b6, b7⟩ := m2
        have b2 := l_bsC' hn b2
        have p2n := b2.2.1
        have s1s := a7.1
        have s2s := b7.1
        obtain ⟨W3, w1, w2, w3, w4, w5, w6, w7, w8⟩ := l_addW ro (e + 5) z W2 J (s := s2) b4 (by omega) (nI (b p1)) 0
        have hpre : ∀ i, i < s1 → W3 14 i = W1 14 i ∧ W3 15 i = W1 15 i := fun i hi => by
          obtain ⟨q1, q2⟩ := b6 i hi
          obtain ⟨q3, q4⟩ := w3 i (by omega)
          exact ⟨by rw [q3, q1, xu_ne (by omega)], by rw [q4, q2, xu_ne (by omega)]⟩
        refine ⟨.inr (l_bin w D1 D2, p2, s2 + 1), W3, cls W3 w1, ⟨by omega, tp_Cc b2 (fun j _ => by rw [w6]) w7, l_cft a3 (l_cft (l_cf3 W1 _) (l_cft b3 w8)), w2, by omega, fun i hi => ⟨(hpre i (by omega)).1.trans (a6 i hi).1, (hpre i (by omega)).2.trans (a6 i hi).2⟩, l_c_op (l_cS_c a7 (fun i _ q => hpre i q) (Nat.le_refl _)) (l_cS_c b7 (fun i _ q => w3 i q) (Nat.le_refl _)) (by omega) (by rw [← hchw]; exact w4) (by omega) (by omega)⟩, l_bo_cmp (by omega), ?_⟩
        intro d z J M W T c hm hTT hop hH
        obtain ⟨U, c1, u1, u2, u3, u4, u5⟩ := k3.1 d z J M W c hm hop hH
        obtain ⟨t1, t2, -, -⟩ := k_cd (ro := ro) (d := d) (z := z) (J := J) (V2 := U) (w := w) u2 hp1
        obtain ⟨U2, c2, x1, x2, x3, x4, x5⟩ := m3.1 d z J _ W c1 (l_bsS hp1 u2) hop hH
        obtain ⟨-, -, -, t3⟩ := k_cd (ro := ro) (d := d) (z := z) (J := J) (V2 := U2) (w := w) u2 hp1
        obtain ⟨h0, h1, h2, h3, h4, h5, h6, h7⟩ := id x2
        have h1 := l_bsM' hn h1
        have e1000 : l_bs b 1000 = b 1000 + 1 := if_pos rfl
        rw [e1000] at h6
        have c1c := u3.1
        have c2c := x3.1
        have hnt := xq_notes ro (d + 4) z U2 J (o := w) (v := 0) h3 (by omega)
        rw [show nI 0 = (0 : Int32) from rfl] at hnt
        have hK : ∀ j, j < c2 → xv_u2 (xv_u2 U2 174 c2 (nI (1048576 * w + 0))) 167 13 (nI (c2 + 1)) 174 j = U2 174 j := fun j hj => by (repeat (first | rw [xu_ne2 (by omega)] | rw [xu_ne (by omega)] | rw [xu_eq]))
        have hKc : xv_u2 (xv_u2 U2 174 c2 (nI (1048576 * w + 0))) 167 13 (nI (c2 + 1)) 174 c2 = nI (1048576 * w + 0) := by (repeat (first | rw [xu_ne2 (by omega)] | rw [xu_ne (by omega)] | rw [xu_eq]))
        have hpU : ∀ j, j < c1 → U2 174 j = U 174 j := fun j hj => by rw [x4 j hj, xu_ne (by omega)]
        have hmS : l_mS (xv_u2 (xv_u2 U2 174 c2 (nI (1048576 * w + 0))) 167 13 (nI (c2 + 1)) 174) c (c2 + 1) (l_bin w D1 D2) := l_m_op (l_mS_c u3 (fun i _ q => by rw [hK i (by omega), hpU i q])) (l_mS_c x3 (fun i _ q => hK i q)) (by omega) hKc
        have hroom : c2 + 1 + l_pc W + b 1000 ≤ p2 := by omega
        have hq : l_s (xv_u2 (xv_u2 U2 174 c2 (nI (1048576 * w + 0))) 167 13 (nI (c2 + 1))) b n p2 W (c2 + 1) := ⟨h0, tp_Mc h1 (by (repeat (first | rw [xu_ne2 (by omega)] | rw [xu_ne (by omega)] | rw [xu_eq]))) (by (repeat (first | rw [xu_ne2 (by omega)] | rw [xu_ne (by omega)] | rw [xu_eq]))) (by (repeat (first | rw [xu_ne2 (by omega)] | rw [xu_ne (by omega)] | rw [xu_eq]))), by (repeat (first | rw [xu_ne2 (by omega)] | rw [xu_ne (by omega)] | rw [xu_eq])); exact h2, by (repeat (first | rw [xu_ne2 (by omega)] | rw [xu_ne (by omega)] | rw [xu_eq])), by (repeat (first | rw [xu_ne2 (by omega)] | rw [xu_ne (by omega)] | rw [xu_eq])); exact h4, l_W_c W c2 (c2 + 1) h5 (Nat.le_succ _) (fun i hi => hK i hi) (fun i hi => by (repeat (first | rw [xu_ne2 (by omega)] | rw [xu_ne (by omega)] | rw [xu_eq]))), hroom, h7⟩
        obtain ⟨U4, c4, y1, y2, y3, y4, y5, y6⟩ := xq_ends ro (d + 3) z J W (l_bin w D1 D2) (c2 + 1) _ hq hmS
        refine ⟨U4, c4, (k_cmp hm hb).1 ((k_cc u1 u2 hp1 hw).trans (t3 _ _ x1 hnt y1)), y2, y3, fun j hj => by rw [y5 j (by omega), hK j (by omega), hpU j (by omega), u4 j hj], l_gt u5 (l_gt t2 (l_gt x5 (l_gt ⟨fun a q1 q2 q3 => by (repeat (first | rw [xu_ne2 (by omega)] | rw [xu_ne (by omega)] | rw [xu_eq])), fun j q1 q2 q3 q4 q5 q6 => by (repeat (first | rw [xu_ne2 (by omega)] | rw [xu_ne (by omega)] | rw [xu_eq]))⟩ y6)))⟩
    · have hno : p1 < n → b p1 ≠ 60 ∧ b p1 ≠ 62 ∧ b p1 ≠ 61 := fun q1 => ⟨fun q2 => cw ⟨q1, 7, Or.inl ⟨q2, rfl⟩⟩, fun q2 => cw ⟨q1, 8, Or.inr (Or.inl ⟨q2, rfl⟩)⟩, fun q2 => cw ⟨q1, 9, Or.inr (Or.inr ⟨q2, rfl⟩)⟩⟩
      have y1 := l_ne_c (c := 60) hbb1 (by omega) (fun q => (hno q).1)
      have y2 := l_ne_c (c := 62) hbb1 (by omega) (fun q => (hno q).2.1)
      have y3 := l_ne_c (c := 61) hbb1 (by omega) (fun q => (hno q).2.2)
      rw [show nI 60 = (60 : Int32) from rfl] at y1
      rw [show nI 62 = (62 : Int32) from rfl] at y2
      rw [show nI 61 = (61 : Int32) from rfl] at y3
      have hpl := xq_Tape_place ro (e + 5) z W1 J
      rw [a2.2.2.2.1] at hpl
      have hrf := xq_refuse ro (e + 5) z W1 J 1 (nI p1) a2.2.2.2.2.1
      have hn2 := a2.1
      have hdd : (xv_u2 W1 1 4 (-1000 * 1 - nI p1) 1 4 = 0) = False := by rw [xu_eq]; exact tp_f 1 (by omega) (by omega) (by omega)
      obtain ⟨V, v1, v2, v3⟩ := l_x_test59 ro e z (xv_u2 W1 1 4 (-1000 * 1 - nI p1)) J (nI o) (tp_c b n p) (tp_c b n p1) hdd
      refine ⟨.inl (1, p1), V, ?_, ⟨by omega, by omega, by omega, l_cft a3 (l_cft (l_cf4 W1 _) v2), by rw [v3, xu_eq]; rfl⟩, trivial, ?_⟩
      · rw [xe_LawReader_test]
        simp only [xr_all, xf_all, if_true, if_false, true_or, or_true, eq_self, ite_not, Bool.false_eq_true, ite_self, and_self, true_and, and_true, false_and, and_false, not_true_eq_false, not_false_eq_true, xj_LawReader_test, xb_LawReader_test_0, xb_LawReader_test_79, xb_LawReader_test_115, xb_LawReader_test_129, hsg, g33, g40, k1, hsx, y1, y2, y3, hpl, hrf, v1]
      · intro d z J M W T c hm hTT hop hH
        obtain ⟨U, c1, u1, u2, u3, u4, u5⟩ := k3.1 d z J M W c hm hop hH
        exact ⟨_, (k_cmp hm hb).2 (k_cb u1 u2 hno), xu_eq, l_gt u5 (l_g10 U _)⟩
theorem l_test {ro : xv_Ro} {b : Nat → Nat} {n K : Nat} (hn : n ≤ 240) (hT : l_lt ro 216 (l_MT ro b n) 6 4 b n K) (hP : l_lt ro 214 (fun p o r => l_MK ro b n p o true (l_X2 b n) r) 8 6 b n K) : l_lt ro 216 (l_MT ro b n) 6 4 b n (K + 1) := by
  intro p o s I z J d hk ho1 ho hC hs hsp hd
  obtain ⟨e, rfl⟩ : ∃ e, d = e + 6 := ⟨d - 6, by omega⟩
  have hpn := hC.2.1
  have hbb := fun hp : p < n => (hC.2.2.2.2.2 p hp).1
  by_cases cp : p < n ∧ (b p = 33 ∨ b p = 40)
  rotate_left
  · exact l_test_cmp hn p o s I z J e ho hC hs hsp hd (fun hp => ⟨fun q => cp ⟨hp, Or.inl q⟩, fun q => cp ⟨hp, Or.inr q⟩⟩)
  · obtain ⟨hp, hb⟩ := cp
    have ev : tp_c b n p = nI (b p) := if_pos hp
    have hsg := xq_sign ro (e + 5) z I J hC
    rw [ev] at hsg
    have hco := xq_canOpen ro (e + 4) z I J hC ho
    have z1 : ((1 : Int32) = 0) = False := eq_false (by decide)
    by_cases c6 : o < 6
    rotate_left
    · rw [if_neg c6] at hco
      have hn2 := hC.1
      refine ⟨.inl (5, p), _, ?_, ⟨by omega, by omega, by omega, l_cf4 I (-1000 * 5 - nI p), xu_eq⟩, trivial, ?_⟩
      · rw [xe_LawReader_test]
        rcases hb with hb | hb
        · rw [hb] at hsg
          have g1 : (nI 33 = 33) = True := eq_true rfl
          simp only [xr_all, xf_all, if_true, if_false, true_or, or_true, eq_self, ite_not, Bool.false_eq_true, ite_self, and_self, true_and, and_true, false_and, and_false, not_true_eq_false, not_false_eq_true, xj_LawReader_test, xb_LawReader_test_0, xb_LawReader_test_59, xb_LawReader_test_79, xb_LawReader_test_115, xb_LawReader_test_129, hsg, g1, hco]
        · rw [hb] at hsg
          have g1 : (nI 40 = 33) = False := eq_false (by decide)
          have g2 : (nI 40 = 40) = True := eq_true rfl
          simp only [xr_all, xf_all, if_true, if_false, true_or, or_true, eq_self, ite_not, Bool.false_eq_true, ite_self, and_self, true_and, and_true, false_and, and_false, not_true_eq_false, not_false_eq_true, xj_LawReader_test, xb_LawReader_test_0, xb_LawReader_test_59, xb_LawReader_test_79, xb_LawReader_test_115, xb_LawReader_test_129, hsg, g1, g2, hco]
      · intro d z J M W T c hm hTT hop hH
        exact k_sX hm hp hb (by omega)
    · rw [if_pos c6] at hco
      have hst := xq_step ro (e + 5) z I J hC hp
      have hC1 := tp_Cs hC hp
      rcases hb with hb | hb
      · rw [hb] at hsg
        have g1 : (nI 33 = 33) = True := eq_true rfl
        obtain ⟨r1, W1, k1, k2, kb, k3⟩ := hT (p + 1) (o + 1) s _ z J (e + 5) (by omega) (by omega) (by omega) hC1 (by (repeat (first | rw [xu_ne2 (by omega)] | rw [xu_ne (by omega)] | rw [xu_eq])); exact hs) (by omega) (by omega)
        have cls : ∀ W2, xv_evm ro (e + 5) 207 [.ref 13, .int 33, .int 0] (z, xv_mk W1 J) = some (none, (z, xv_mk W2 J)) → xv_evm ro (e + 6) 216 [.ref 1, .ref 13, .int (nI o)] (z, xv_mk I J) = some (none, (z, xv_mk W2 J)) := by
          intro W2 hx
          rw [xe_LawReader_test]
          simp only [xr_all, xf_all, if_true, if_false, true_or, or_true, eq_self, ite_not, Bool.false_eq_true, ite_self, and_self, true_and, and_true, false_and, and_false, not_true_eq_false, not_false_eq_true, xj_LawReader_test, xb_LawReader_test_0, xb_LawReader_test_59, xb_LawReader_test_79, xb_LawReader_test_115, xb_LawReader_test_129, hsg, g1, hco, z1, hst, nI_1, k1, hx]
        have hou : ∀ W : List (Nat × Nat), l_oc ((10, 0) :: W) = l_oc W + 1 := fun W => by
          show (if 10 = 10 ∨ 10 = 13 ∨ 10 = 14 then 1 else 0) + l_oc W = _
          rw [if_pos (by omega), Nat.add_comm]
        have hpu : ∀ W : List (Nat × Nat), l_hs true ((10, 0) :: W) := fun W o v W' q => by cases q; rfl
        have hE : ∀ (W : List (Nat × Nat)) (D : l_D), l_E ((10, 0) :: W) D = l_E W (l_not D) := fun W D => by
          conv => lhs; unfold l_E
          rw [if_pos rfl]
        match r1, k2, kb, k3 with
        | .inl (f, q), k2, kb, k3 =>
          obtain ⟨a1, a2, a3, a4, a5⟩ := k2
          obtain ⟨W2, w1, w2, w3⟩ := xq_ladd_any ro (e + 5) z W1 J 33 0
          refine ⟨.inl (f, q), W2, cls W2 w1, ⟨a1, a2, a3, l_cft (l_cf3 I _) (l_cft a4 w2), by rw [w3]; exact a5⟩, trivial, ?_⟩
          intro d z J M W T c hm hTT hop hH
          obtain ⟨V, t1, t2, t3, t4⟩ := k_sO (ro := ro) (d := d) (z := z) (J := J) (o := 10) hm hp (Or.inl ⟨hb, rfl⟩) (by omega)
          rw [t1]
          exact l_Bg t4 (k3 d z J V ((10, 0) :: W) T c t2 (l_CTo (by rw [t3]; exact hTT) (by omega)) (by rw [hou]; omega) (hpu W))
        | .inr (D, p2, s2), k2, kb, k3 =>
          obtain ⟨a1, a2, a3, a4, a5, a6, a7⟩ := k2
          have p2n := a2.2.1
          obtain ⟨W2, w1, w2, w3, w4, w5, w6, w7, w8⟩ := l_addW ro (e + 5) z W1 J (s := s2) a4 (by omega) 33 0
          refine ⟨.inr (l_not D, p2, s2 + 1), W2, cls W2 w1, ⟨by omega, tp_Cc a2 (fun j _ => by rw [w6]) w7, l_cft (l_cf3 I _) (l_cft a3 w8), w2, by omega, fun i hi => ?_, l_c_not (l_cS_c a7 (fun i _ q => w3 i q) (by omega)) kb w4 (by omega)⟩, l_bo_not kb, ?_⟩
          · obtain ⟨q1, q2⟩ := a6 i hi
            have := a7.1
            obtain ⟨q3, q4⟩ := w3 i (by omega)
            exact ⟨by rw [q3, q1, xu_ne (by omega)], by rw [q4, q2, xu_ne (by omega)]⟩
          · intro d z J M W T c hm hTT hop hH
            obtain ⟨V, t1, t2, t3, t4⟩ := k_sO (ro := ro) (d := d) (z := z) (J := J) (o := 10) hm hp (Or.inl ⟨hb, rfl⟩) (by omega)
            obtain ⟨V2, c', u1, u2, u3, u4, u5⟩ := k3 d z J V ((10, 0) :: W) T c t2 (l_CTo (by rw [t3]; exact hTT) (by omega)) (by rw [hou]; omega) (hpu W)
            rw [hE] at u2 u3
            exact ⟨V2, c', t1.trans u1, u2, u3, fun j hj => by rw [u4 j hj, t3], l_gt t4 u5⟩
      · rw [hb] at hsg
        have g1 : (nI 40 = 33) = False := eq_false (by decide)
        have g2 : (nI 40 = 40) = True := eq_true rfl
        obtain ⟨r1, W1, k1, k2, kb, k3⟩ := hP (p + 1) (o + 1) s _ z J (e + 5) (by omega) (by omega) (by omega) hC1 (by (repeat (first | rw [xu_ne2 (by omega)] | rw [xu_ne (by omega)] | rw [xu_eq])); exact hs) (by omega) (by omega)
        have hh6 : 6 + 2 * (6 - (o + 1)) = 4 + 2 * (6 - o) := by omega
        rw [hh6] at k2
        have cls : ∀ W2, xv_evm ro (e + 5) 255 [.ref 1, .int 41] (z, xv_mk W1 J) = some (none, (z, xv_mk W2 J)) → xv_evm ro (e + 6) 216 [.ref 1, .ref 13, .int (nI o)] (z, xv_mk I J) = some (none, (z, xv_mk W2 J)) := by
          intro W2 hx
          rw [xe_LawReader_test]
          simp only [xr_all, xf_all, if_true, if_false, true_or, or_true, eq_self, ite_not, Bool.false_eq_true, ite_self, and_self, true_and, and_true, false_and, and_false, not_true_eq_false, not_false_eq_true, xj_LawReader_test, xb_LawReader_test_0, xb_LawReader_test_59, xb_LawReader_test_79, xb_LawReader_test_115, xb_LawReader_test_129, hsg, g1, g2, hco, z1, hst, nI_1, k1, hx]
        have hou : ∀ W : List (Nat × Nat), l_oc ((13, 0) :: W) = l_oc W + 1 := fun W => by
          show (if 13 = 10 ∨ 13 = 13 ∨ 13 = 14 then 1 else 0) + l_oc W = _
          rw [if_pos (by omega), Nat.add_comm]
        have hpu : ∀ W : List (Nat × Nat), l_hs true ((13, 0) :: W) := fun W o v W' q => by cases q; rfl
        have hp2 : ∀ W : List (Nat × Nat), l_h2 true ((13, 0) :: W) := fun W o v W' q => by cases q; exact ⟨rfl, by omega⟩
        match r1, k2, kb, k3 with
        | .inl (f, q), k2, kb, k3 =>
          obtain ⟨a1, a2, a3, a4, a5⟩ := k2
          have hdd : (W1 1 4 = 0) = False := by rw [a5]; exact tp_f f a1 a2 a3
          have hx := xq_expect_x ro (e + 3) z W1 J (c := 41) hdd (by omega)
          rw [show nI 41 = (41 : Int32) from rfl] at hx
          refine ⟨.inl (f, q), W1, cls W1 hx, ⟨a1, a2, a3, l_cft (l_cf3 I _) a4, a5⟩, trivial, ?_⟩
          intro d z J M W T c hm hTT hop hH
          obtain ⟨V, t1, t2, t3, t4⟩ := k_sO (ro := ro) (d := d) (z := z) (J := J) (o := 13) hm hp (Or.inr ⟨hb, rfl⟩) (by omega)
          rw [t1]
          exact l_Bg t4 (k3 d z J V ((13, 0) :: W) T c t2 (l_CTo (by rw [t3]; exact hTT) (by omega)) (by rw [hou]; omega) (hpu W) (hp2 W))
        | .inr (D, p2, s2), k2, kb, k3 =>
          obtain ⟨a1, a2, a3, a4, a5, a6, a7⟩ := k2
          have p2n := a2.2.1
          have hn2 := a2.1
          have hx := xq_expect ro (e + 3) z W1 J (c := 41) a2 (by omega)
          rw [show nI 41 = (41 : Int32) from rfl] at hx
          by_cases c41 : p2 < n ∧ b p2 = 41
          · rw [if_pos c41] at hx
            refine ⟨.inr (D, p2 + 1, s2), _, cls _ hx, ⟨by omega, tp_Cs a2 c41.1, l_cft (l_cf3 I _) (l_cft a3 (l_cf3 W1 _)), by (repeat (first | rw [xu_ne2 (by omega)] | rw [xu_ne (by omega)] | rw [xu_eq])); exact a4, by omega, fun i hi => ?_, ?_⟩, kb, ?_⟩
            · obtain ⟨q1, q2⟩ := a6 i hi
              exact ⟨by rw [xu_ne (by omega), q1, xu_ne (by omega)], by rw [xu_ne (by omega), q2, xu_ne (by omega)]⟩
            · rw [xu_ne (by omega), xu_ne (by omega)]; exact a7
            · intro d z J M W T c hm hTT hop hH
              obtain ⟨V, t1, t2, t3, t4⟩ := k_sO (ro := ro) (d := d) (z := z) (J := J) (o := 13) hm hp (Or.inr ⟨hb, rfl⟩) (by omega)
              obtain ⟨V2, W2, T2, D2, c2, c3, u1, u2, u3, u4, u5, u6, u7⟩ := k3.1 d z J V ((13, 0) :: W) T c t2 (l_CTo (by rw [t3]; exact hTT) (by omega)) (by rw [hou]; omega) (hpu W) (hp2 W)
              have hne : W ≠ [] := by
                intro q
                rw [q] at hop
                have : l_oc [] = 0 := rfl
                omega
              obtain ⟨V3, c4, v1, v2, v3, v4, v5⟩ := (k_sC (ro := ro) (d := d) (z := z) (J := J) u2 c41.1 c41.2 u3 u4 u5).1 hne
              exact ⟨V3, c4, t1.trans (u1.trans v1), v2, v3, fun j hj => by rw [v4 j hj, u6 j hj, t3], l_gt t4 (l_gt u7 v5)⟩
          · rw [if_neg c41] at hx
            refine ⟨.inl (1, p2), _, cls _ hx, ⟨by omega, by omega, by omega, l_cft (l_cf3 I _) (l_cft a3 (l_cf4 W1 _)), xu_eq⟩, trivial, ?_⟩
            intro d z J M W T c hm hTT hop hH
            obtain ⟨V, t1, t2, t3, t4⟩ := k_sO (ro := ro) (d := d) (z := z) (J := J) (o := 13) hm hp (Or.inr ⟨hb, rfl⟩) (by omega)
            obtain ⟨V2, W2, T2, D2, c2, c3, u1, u2, u3, u4, u5, u6, u7⟩ := k3.1 d z J V ((13, 0) :: W) T c t2 (l_CTo (by rw [t3]; exact hTT) (by omega)) (by rw [hou]; omega) (hpu W) (hp2 W)
            have := k_sY (ro := ro) (d := d) (z := z) (J := J) u2 (fun q1 => ⟨fun q2 => c41 ⟨q1, q2⟩, (k3.2 q1).1, (k3.2 q1).2⟩)
            rw [t1, u1]
            exact l_Bg (l_gt t4 u7) this
theorem l_lp_tests {ro : xv_Ro} {b : Nat → Nat} {n K : Nat} (hn : n ≤ 240) (hY : l_lt ro 216 (l_MT ro b n) 6 4 b n K) : ∀ (k p i o s0 s : Nat) (acc : l_D) (I : Nat → Nat → Int32) (J : Nat → Nat → Int64) (z : Nat × Nat) (e : Nat), n - p < k → i ≤ p → k ≤ K → 1 ≤ o → o ≤ 6 → tp_C b n p I → I 13 7 = nI s → s ≤ p → 6 + 3 * (6 - o) ≤ e + 6 → l_cS (I 14) (I 15) s0 s (5 + 2 * (6 - o)) acc → l_bo acc → (fun _ => True) p → ∃ (r : l_R) (W : Nat → Nat → Int32), xv_ev ro (e + 7) xm_LawReader_tests xb_LawReader_tests_8 [some (.ref 1), some (.ref 13), some (.int (nI o)), some (.int (nI i))] [] (z, xv_mk I J) = some (none, (z, xv_mk W J)) ∧ l_C b n p s0 s (5 + 2 * (6 - o)) I W r ∧ l_Rb r ∧ l_MQ ro b n p o false (l_X1 b n) acc r := by
  intro k
  induction k with
  | zero => intro p i o s0 s acc I J z e hk; omega
  | succ k ih =>
    intro p i o s0 s acc I J z e hk hi hkK ho1 ho hC hs hsp he hcS hbo hex
    have hpn := hC.2.1
    have s0s := hcS.1
    have ht := xq_take ro (e + 5) z I J (c := 38) hC (by omega)
    rw [show nI 38 = (38 : Int32) from rfl] at ht
    have z1 : ((1 : Int32) = 0) = False := eq_false (by decide)
    by_cases cc : p < n ∧ b p = 38
    · rw [if_pos cc] at ht
      obtain ⟨hp, hb⟩ := cc
      have gi : (240 ≤ nI i) = False := by (simp (disch := omega) only [vz_all, if_true, if_false, true_or, or_true, eq_self, ite_not, Bool.false_eq_true, ite_self, and_self, true_and, and_true, false_and, and_false, not_true_eq_false, not_false_eq_true, false_or, or_false])
      have hC1 := tp_Cs hC hp
      obtain ⟨r1, W1, k1, k2, kb, k3⟩ := hY (p + 1) o s _ z J (e + 6) (by omega) ho1 ho hC1 (by (repeat (first | rw [xu_ne2 (by omega)] | rw [xu_ne (by omega)] | rw [xu_eq])); exact hs) (by omega) (by omega)
      have hou : ∀ (c1 : Nat) (W : List (Nat × Nat)), l_oc ((11, c1) :: W) = l_oc W := fun c1 W => by
        show (if 11 = 10 ∨ 11 = 13 ∨ 11 = 14 then 1 else 0) + l_oc W = _
        rw [if_neg (by omega), Nat.zero_add]
      have hpu : ∀ (c1 : Nat) (W : List (Nat × Nat)), l_hs true ((11, c1) :: W) := fun c1 W o v W' q => by cases q; rfl
      have hE : ∀ (c1 : Nat) (W : List (Nat × Nat)) (D : l_D), l_E ((11, c1) :: W) D = ((11, c1) :: W, D) := fun c1 W D => by
        conv => lhs; unfold l_E
        rw [if_neg (by omega)]
      have cls : ∀ W2, xv_evm ro (e + 6) 207 [.ref 13, .int 38, .int 0] (z, xv_mk W1 J) = some (none, (z, xv_mk W2 J)) → xv_ev ro (e + 7) xm_LawReader_tests xb_LawReader_tests_8 [some (.ref 1), some (.ref 13), some (.int (nI o)), some (.int (nI i))] [] (z, xv_mk I J) = xv_ev ro (e + 7) xm_LawReader_tests xb_LawReader_tests_8 [some (.ref 1), some (.ref 13), some (.int (nI o)), some (.int (nI (i + 1)))] [] (z, xv_mk W2 J) := by
        intro W2 hx
        conv => lhs; unfold xb_LawReader_tests_8
        simp only [xr_all, xf_all, if_true, if_false, true_or, or_true, eq_self, ite_not, Bool.false_eq_true, ite_self, and_self, true_and, and_true, false_and, and_false, not_true_eq_false, not_false_eq_true, xj_LawReader_tests, xb_LawReader_tests_0, xb_LawReader_tests_43, gi, ht, z1, k1, hx, nI_1]
      match r1, k2, kb, k3 with
      | .inl (f, q), k2, kb, k3 =>
        obtain ⟨a1, a2, a3, a4, a5⟩ := k2
        obtain ⟨W2, w1, w2, w3⟩ := xq_ladd_any ro (e + 6) z W1 J 38 0
        have hd : (W2 1 4 = 0) = False := by rw [w3, a5]; exact tp_f f a1 a2 a3
        refine ⟨.inl (f, q), W2, (cls W2 w1).trans (l_d_tests ro e z W2 J (nI o) _ hd), ⟨a1, a2, a3, l_cft (l_cf3 I _) (l_cft a4 w2), by rw [w3]; exact a5⟩, trivial, ?_⟩
        intro d z J M W T c W0 T0 D0 c0 c1 hm hTT hD hL hop hH hH2
        obtain ⟨V, t1, t2, t3, t4, t5, t6⟩ := k_sJ (ro := ro) (d := d) (z := z) (J := J) hm hp (Or.inl ⟨hb, rfl, rfl⟩) hTT hD hL
        rw [t1]
        exact l_Bg t5 (k3 d z J V ((11, c1) :: W) ((acc, c) :: T) (c1 + 1) t2 t3 (by rw [hou]; exact hop) (hpu _ W))
      | .inr (D2, p2, s2), k2, kb, k3 =>
        obtain ⟨a1, a2, a3, a4, a5, a6, a7⟩ := k2
        have p2n := a2.2.1
        obtain ⟨W2, w1, w2, w3, w4, w5, w6, w7, w8⟩ := l_addW ro (e + 6) z W1 J (s := s2) a4 (by omega) 38 0
        have hC2 : tp_C b n p2 W2 := tp_Cc a2 (fun j _ => by rw [w6]) w7
        have s2s := a7.1
        have hpre : ∀ i, i < s → W2 14 i = I 14 i ∧ W2 15 i = I 15 i := fun i hi => by
          obtain ⟨q1, q2⟩ := a6 i hi
          obtain ⟨q3, q4⟩ := w3 i (by omega)
          exact ⟨by rw [q3, q1, xu_ne (by omega)], by rw [q4, q2, xu_ne (by omega)]⟩
        have hcS2 : l_cS (W2 14) (W2 15) s0 (s2 + 1) (5 + 2 * (6 - o)) (l_and acc D2) := l_c_and (l_cS_c hcS (fun i _ q => hpre i q) (Nat.le_refl _)) (l_cS_c a7 (fun i _ q => w3 i q) (Nat.le_refl _)) w4 (Nat.le_refl _) (by omega)
        obtain ⟨r, W, l1, l2, lb, l3⟩ := ih p2 (i + 1) o s0 (s2 + 1) (l_and acc D2) W2 J z e (by omega) (by omega) (by omega) ho1 ho hC2 w2 (by omega) he hcS2 (l_bo_and hbo kb) trivial
        refine ⟨r, W, (cls W2 w1).trans l1, ?_, lb, ?_⟩
        · have hcf : l_cf I W2 := l_cft (l_cf3 I _) (l_cft a3 w8)
          match r, l2 with
          | .inl (f, q), l2 =>
            obtain ⟨b1, b2, b3, b4, b5⟩ := l2
            exact ⟨b1, b2, b3, l_cft hcf b4, b5⟩
          | .inr (D, p', s'), l2 =>
            obtain ⟨b1, b2, b3, b4, b5, b6, b7⟩ := l2
            exact ⟨by omega, b2, l_cft hcf b3, b4, by omega, fun i hi => ⟨(b6 i hi).1.trans (hpre i (by omega)).1, (b6 i hi).2.trans (hpre i (by omega)).2⟩, b7⟩
        · have step : ∀ (d : Nat) (z : Nat × Nat) (J : Nat → Nat → Int64) (M : Nat → Nat → Int32) (W : List (Nat × Nat)) (T : List (l_D × Nat)) (c : Nat) (W0 : List (Nat × Nat)) (T0 : List (l_D × Nat)) (D0 : l_D) (c0 c1 : Nat), l_s M b n p W0 c1 → l_CT (M 174) W0 T0 c0 → l_mS (M 174) c0 c1 D0 → l_Ln false W0 T0 D0 c0 = some (W, T, acc, c) → l_oc W = o → l_hs true W → l_h2 false W → ∃ (V : Nat → Nat → Int32) (W1 : List (Nat × Nat)) (T1 : List (l_D × Nat)) (D1 : l_D) (c2 c3 : Nat), l_C2 ro d z J M = l_C2 ro d z J V ∧ l_s V b n p2 W1 c3 ∧ l_CT (V 174) W1 T1 c2 ∧ l_mS (V 174) c2 c3 D1 ∧ l_Ln false W1 T1 D1 c2 = some (W, T, l_and acc D2, c) ∧ (∀ j, j < c → V 174 j = M 174 j) ∧ l_g M V := by
            intro d z J M W T c W0 T0 D0 c0 c1 hm hTT hD hL hop hH hH2
            obtain ⟨V, t1, t2, t3, t4, t5, t6⟩ := k_sJ (ro := ro) (d := d) (z := z) (J := J) hm hp (Or.inl ⟨hb, rfl, rfl⟩) hTT hD hL
            obtain ⟨V2, c4, u1, u2, u3, u6, u7⟩ := k3 d z J V ((11, c1) :: W) ((acc, c) :: T) (c1 + 1) t2 t3 (by rw [hou]; exact hop) (hpu _ W)
            rw [hE] at u2 u3
            refine ⟨V2, (11, c1) :: W, (acc, c) :: T, D2, c1 + 1, c4, t1.trans u1, u2, l_CT_c _ _ _ t3 (fun i hi => u6 i hi), u3, ?_, fun j hj => by rw [u6 j (by omega), t4 j hj], l_gt t5 u7⟩
            conv => lhs; unfold l_Ln
            rw [if_pos (show l_ld false 11 = true from rfl)]
            show l_Ln false W T (l_and acc D2) c = some (W, T, l_and acc D2, c)
            exact l_Lh hH2 _ _ _
          match r, l3 with
          | .inl (f, q), l3 =>
            intro d z J M W T c W0 T0 D0 c0 c1 hm hTT hD hL hop hH hH2
            obtain ⟨V, W3, T3, D3, c3, c4, u1, u2, u3, u4, u5, u6, u7⟩ := step d z J M W T c W0 T0 D0 c0 c1 hm hTT hD hL hop hH hH2
            rw [u1]
            exact l_Bg u7 (l3 d z J V W T c W3 T3 D3 c3 c4 u2 u3 u4 u5 hop hH hH2)
          | .inr (D, p', s'), l3 =>
            refine ⟨?_, l3.2⟩
            intro d z J M W T c W0 T0 D0 c0 c1 hm hTT hD hL hop hH hH2
            obtain ⟨V, W3, T3, D3, c3, c4, u1, u2, u3, u4, u5, u6, u7⟩ := step d z J M W T c W0 T0 D0 c0 c1 hm hTT hD hL hop hH hH2
            obtain ⟨V4, W4, T4, D4, c5, c6, v1, v2, v3, v4, v5, v6, v7⟩ := l3.1 d z J V W T c W3 T3 D3 c3 c4 u2 u3 u4 u5 hop hH hH2
            exact ⟨V4, W4, T4, D4, c5, c6, u1.trans v1, v2, v3, v4, v5, fun j hj => by rw [v6 j hj, u6 j hj], l_gt u7 v7⟩
    · rw [if_neg cc] at ht
      have hno : p < n → b p ≠ 38 := fun q1 q2 => cc ⟨q1, q2⟩
      refine ⟨.inr (acc, p, s), I, ?_, ⟨Nat.le_refl _, hC, l_cfr I, hs, Nat.le_refl _, fun _ _ => ⟨rfl, rfl⟩, hcS⟩, hbo, ?_⟩
      · conv => lhs; unfold xb_LawReader_tests_8
        by_cases ci : i < 240
        · have g : (240 ≤ nI i) = False := by (simp (disch := omega) only [vz_all, if_true, if_false, true_or, or_true, eq_self, ite_not, Bool.false_eq_true, ite_self, and_self, true_and, and_true, false_and, and_false, not_true_eq_false, not_false_eq_true, false_or, or_false])
          simp only [xr_all, xf_all, if_true, if_false, true_or, or_true, eq_self, ite_not, Bool.false_eq_true, ite_self, and_self, true_and, and_true, false_and, and_false, not_true_eq_false, not_false_eq_true, xj_LawReader_tests, xb_LawReader_tests_0, xb_LawReader_tests_43, g, ht]
        · have g : (240 ≤ nI i) = True := by (simp (disch := omega) only [vz_all, if_true, if_false, true_or, or_true, eq_self, ite_not, Bool.false_eq_true, ite_self, and_self, true_and, and_true, false_and, and_false, not_true_eq_false, not_false_eq_true, false_or, or_false])
          simp only [xr_all, xf_all, if_true, if_false, true_or, or_true, eq_self, ite_not, Bool.false_eq_true, ite_self, and_self, true_and, and_true, false_and, and_false, not_true_eq_false, not_false_eq_true, xj_LawReader_tests, xb_LawReader_tests_0, xb_LawReader_tests_43, g]
      · refine ⟨?_, ?_⟩
        · intro d z J M W T c W0 T0 D0 c0 c1 hm hTT hD hL hop hH hH2
          exact ⟨M, W0, T0, D0, c0, c1, rfl, hm, hTT, hD, hL, fun _ _ => rfl, l_gr M⟩
        · exact hno
theorem l_lv_tests {ro : xv_Ro} {b : Nat → Nat} {n K : Nat} (hn : n ≤ 240) (hY : l_lt ro 216 (l_MT ro b n) 6 4 b n K) : l_lt ro 215 (fun p o r => l_MK ro b n p o false (l_X1 b n) r) 7 5 b n K := by
  intro p o s I z J d hk ho1 ho hC hs hsp hd
  obtain ⟨e, rfl⟩ : ∃ e, d = e + 7 := ⟨d - 7, by omega⟩
  have hpn := hC.2.1
  obtain ⟨r1, W1, k1, k2, kb, k3⟩ := hY p o s I z J (e + 6) hk ho1 ho hC hs hsp (by omega)
  have cls : xv_evm ro (e + 7) 215 [.ref 1, .ref 13, .int (nI o)] (z, xv_mk I J) = xv_ev ro (e + 7) xm_LawReader_tests xb_LawReader_tests_8 [some (.ref 1), some (.ref 13), some (.int (nI o)), some (.int (nI 0))] [] (z, xv_mk W1 J) := by
    rw [xe_LawReader_tests, show nI 0 = (0 : Int32) from rfl]
    simp only [xr_all, xf_all, if_true, if_false, true_or, or_true, eq_self, ite_not, Bool.false_eq_true, ite_self, and_self, true_and, and_true, false_and, and_false, not_true_eq_false, not_false_eq_true, xj_LawReader_tests, xb_LawReader_tests_0, xb_LawReader_tests_43, k1]
  match r1, k2, kb, k3 with
  | .inl (f, q), k2, kb, k3 =>
    obtain ⟨a1, a2, a3, a4, a5⟩ := k2
    have hdd : (W1 1 4 = 0) = False := by rw [a5]; exact tp_f f a1 a2 a3
    refine ⟨.inl (f, q), W1, cls.trans (l_d_tests ro e z W1 J (nI o) _ hdd), ⟨a1, a2, a3, a4, a5⟩, trivial, ?_⟩
    intro d z J M W T c hm hTT hop hH hH2
    exact k3 d z J M W T c hm hTT hop hH
  | .inr (D2, p2, s2), k2, kb, k3 =>
    obtain ⟨a1, a2, a3, a4, a5, a6, a7⟩ := k2
    have p2n := a2.2.1
    obtain ⟨r, W, l1, l2, lb, l3⟩ := l_lp_tests hn hY K p2 0 o s s2 D2 W1 J z e (by omega) (by omega) (Nat.le_refl _) ho1 ho a2 a4 (by omega) (by omega) (l_cS_c a7 (fun _ _ _ => ⟨rfl, rfl⟩) (by omega)) kb trivial
    refine ⟨r, W, cls.trans l1, ?_, lb, ?_⟩
    · match r, l2 with
      | .inl (f, q), l2 =>
        obtain ⟨b1, b2, b3, b4, b5⟩ := l2
        exact ⟨b1, b2, b3, l_cft a3 b4, b5⟩
      | .inr (D, p', s'), l2 =>
        obtain ⟨b1, b2, b3, b4, b5, b6, b7⟩ := l2
        exact ⟨by omega, b2, l_cft a3 b3, b4, by omega, fun i hi => ⟨(b6 i hi).1.trans (a6 i hi).1, (b6 i hi).2.trans (a6 i hi).2⟩, b7⟩
    · have step : ∀ (d : Nat) (z : Nat × Nat) (J : Nat → Nat → Int64) (M : Nat → Nat → Int32) (W : List (Nat × Nat)) (T : List (l_D × Nat)) (c : Nat), l_s M b n p W c → l_CT (M 174) W T c → l_oc W = o → l_hs true W → l_h2 false W → ∃ (V : Nat → Nat → Int32) (W1 : List (Nat × Nat)) (T1 : List (l_D × Nat)) (D1 : l_D) (c0 c1 : Nat), l_C1 ro d z J M = l_C2 ro d z J V ∧ l_s V b n p2 W1 c1 ∧ l_CT (V 174) W1 T1 c0 ∧ l_mS (V 174) c0 c1 D1 ∧ l_Ln false W1 T1 D1 c0 = some (W, T, D2, c) ∧ (∀ j, j < c → V 174 j = M 174 j) ∧ l_g M V := by
        intro d z J M W T c hm hTT hop hH hH2
        obtain ⟨V2, c4, u1, u2, u3, u6, u7⟩ := k3 d z J M W T c hm hTT hop hH
        rw [l_Eh hH2] at u2 u3
        exact ⟨V2, W, T, D2, c, c4, u1, u2, l_CT_c _ _ _ hTT (fun i hi => u6 i hi), u3, l_Lh hH2 _ _ _, u6, u7⟩
      match r, l3 with
      | .inl (f, q), l3 =>
        intro d z J M W T c hm hTT hop hH hH2
        obtain ⟨V, W3, T3, D3, c3, c4, u1, u2, u3, u4, u5, u6, u7⟩ := step d z J M W T c hm hTT hop hH hH2
        rw [u1]
        exact l_Bg u7 (l3 d z J V W T c W3 T3 D3 c3 c4 u2 u3 u4 u5 hop hH hH2)
      | .inr (D, p', s'), l3 =>
        refine ⟨?_, l3.2⟩
        intro d z J M W T c hm hTT hop hH hH2
        obtain ⟨V, W3, T3, D3, c3, c4, u1, u2, u3, u4, u5, u6, u7⟩ := step d z J M W T c hm hTT hop hH hH2
        obtain ⟨V4, W4, T4, D4, c5, c6, v1, v2, v3, v4, v5, v6, v7⟩ := l3.1 d z J V W T c W3 T3 D3 c3 c4 u2 u3 u4 u5 hop hH hH2
        exact ⟨V4, W4, T4, D4, c5, c6, u1.trans v1, v2, v3, v4, v5, fun j hj => by rw [v6 j hj, u6 j hj], l_gt u7 v7⟩
theorem l_lp_parts {ro : xv_Ro} {b : Nat → Nat} {n K : Nat} (hn : n ≤ 240) (hY : l_lt ro 215 (fun p o r => l_MK ro b n p o false (l_X1 b n) r) 7 5 b n K) : ∀ (k p i o s0 s : Nat) (acc : l_D) (I : Nat → Nat → Int32) (J : Nat → Nat → Int64) (z : Nat × Nat) (e : Nat), n - p < k → i ≤ p → k ≤ K → 1 ≤ o → o ≤ 6 → tp_C b n p I → I 13 7 = nI s → s ≤ p → 7 + 3 * (6 - o) ≤ e + 7 → l_cS (I 14) (I 15) s0 s (6 + 2 * (6 - o)) acc → l_bo acc → (l_X1 b n) p → ∃ (r : l_R) (W : Nat → Nat → Int32), xv_ev ro (e + 8) xm_LawReader_parts xb_LawReader_parts_8 [some (.ref 1), some (.ref 13), some (.int (nI o)), some (.int (nI i))] [] (z, xv_mk I J) = some (none, (z, xv_mk W J)) ∧ l_C b n p s0 s (6 + 2 * (6 - o)) I W r ∧ l_Rb r ∧ l_MQ ro b n p o true (l_X2 b n) acc r := by
  intro k
  induction k with
  | zero => intro p i o s0 s acc I J z e hk; omega
  | succ k ih =>
    intro p i o s0 s acc I J z e hk hi hkK ho1 ho hC hs hsp he hcS hbo hex
    have hpn := hC.2.1
    have s0s := hcS.1
    have ht := xq_take ro (e + 6) z I J (c := 124) hC (by omega)
    rw [show nI 124 = (124 : Int32) from rfl] at ht
    have z1 : ((1 : Int32) = 0) = False := eq_false (by decide)
    by_cases cc : p < n ∧ b p = 124
    · rw [if_pos cc] at ht
      obtain ⟨hp, hb⟩ := cc
      have gi : (240 ≤ nI i) = False := by (simp (disch := omega) only [vz_all, if_true, if_false, true_or, or_true, eq_self, ite_not, Bool.false_eq_true, ite_self, and_self, true_and, and_true, false_and, and_false, not_true_eq_false, not_false_eq_true, false_or, or_false])
      have hC1 := tp_Cs hC hp
      obtain ⟨r1, W1, k1, k2, kb, k3⟩ := hY (p + 1) o s _ z J (e + 7) (by omega) ho1 ho hC1 (by (repeat (first | rw [xu_ne2 (by omega)] | rw [xu_ne (by omega)] | rw [xu_eq])); exact hs) (by omega) (by omega)
      have hou : ∀ (c1 : Nat) (W : List (Nat × Nat)), l_oc ((12, c1) :: W) = l_oc W := fun c1 W => by
        show (if 12 = 10 ∨ 12 = 13 ∨ 12 = 14 then 1 else 0) + l_oc W = _
        rw [if_neg (by omega), Nat.zero_add]
      have hpu : ∀ (c1 : Nat) (W : List (Nat × Nat)), l_hs true ((12, c1) :: W) := fun c1 W o v W' q => by cases q; rfl
      have hp2 : ∀ (c1 : Nat) (W : List (Nat × Nat)), l_h2 false ((12, c1) :: W) := fun c1 W o v W' q => by cases q; exact ⟨rfl, by omega⟩
      have cls : ∀ W2, xv_evm ro (e + 7) 207 [.ref 13, .int 124, .int 0] (z, xv_mk W1 J) = some (none, (z, xv_mk W2 J)) → xv_ev ro (e + 8) xm_LawReader_parts xb_LawReader_parts_8 [some (.ref 1), some (.ref 13), some (.int (nI o)), some (.int (nI i))] [] (z, xv_mk I J) = xv_ev ro (e + 8) xm_LawReader_parts xb_LawReader_parts_8 [some (.ref 1), some (.ref 13), some (.int (nI o)), some (.int (nI (i + 1)))] [] (z, xv_mk W2 J) := by
        intro W2 hx
        conv => lhs; unfold xb_LawReader_parts_8
        simp only [xr_all, xf_all, if_true, if_false, true_or, or_true, eq_self, ite_not, Bool.false_eq_true, ite_self, and_self, true_and, and_true, false_and, and_false, not_true_eq_false, not_false_eq_true, xj_LawReader_parts, xb_LawReader_parts_0, xb_LawReader_parts_43, gi, ht, z1, k1, hx, nI_1]
      match r1, k2, kb, k3 with
      | .inl (f, q), k2, kb, k3 =>
        obtain ⟨a1, a2, a3, a4, a5⟩ := k2
        obtain ⟨W2, w1, w2, w3⟩ := xq_ladd_any ro (e + 7) z W1 J 124 0
        have hd : (W2 1 4 = 0) = False := by rw [w3, a5]; exact tp_f f a1 a2 a3
        refine ⟨.inl (f, q), W2, (cls W2 w1).trans (l_d_parts ro e z W2 J (nI o) _ hd), ⟨a1, a2, a3, l_cft (l_cf3 I _) (l_cft a4 w2), by rw [w3]; exact a5⟩, trivial, ?_⟩
        intro d z J M W T c W0 T0 D0 c0 c1 hm hTT hD hL hop hH hH2
        obtain ⟨V, t1, t2, t3, t4, t5, t6⟩ := k_sJ (ro := ro) (d := d) (z := z) (J := J) hm hp (Or.inr ⟨hb, rfl, rfl⟩) hTT hD hL
        rw [t1]
        exact l_Bg t5 (k3 d z J V ((12, c1) :: W) ((acc, c) :: T) (c1 + 1) t2 t3 (by rw [hou]; exact hop) (hpu _ W) (hp2 _ W))
      | .inr (D2, p2, s2), k2, kb, k3 =>
        obtain ⟨a1, a2, a3, a4, a5, a6, a7⟩ := k2
        have p2n := a2.2.1
        obtain ⟨W2, w1, w2, w3, w4, w5, w6, w7, w8⟩ := l_addW ro (e + 7) z W1 J (s := s2) a4 (by omega) 124 0
        have hC2 : tp_C b n p2 W2 := tp_Cc a2 (fun j _ => by rw [w6]) w7
        have s2s := a7.1
        have hpre : ∀ i, i < s → W2 14 i = I 14 i ∧ W2 15 i = I 15 i := fun i hi => by
          obtain ⟨q1, q2⟩ := a6 i hi
          obtain ⟨q3, q4⟩ := w3 i (by omega)
          exact ⟨by rw [q3, q1, xu_ne (by omega)], by rw [q4, q2, xu_ne (by omega)]⟩
        have hcS2 : l_cS (W2 14) (W2 15) s0 (s2 + 1) (6 + 2 * (6 - o)) (l_or acc D2) := l_c_or (l_cS_c hcS (fun i _ q => hpre i q) (Nat.le_refl _)) (l_cS_c a7 (fun i _ q => w3 i q) (Nat.le_refl _)) w4 (Nat.le_refl _) (by omega)
        obtain ⟨r, W, l1, l2, lb, l3⟩ := ih p2 (i + 1) o s0 (s2 + 1) (l_or acc D2) W2 J z e (by omega) (by omega) (by omega) ho1 ho hC2 w2 (by omega) he hcS2 (l_bo_or hbo kb) k3.2
        refine ⟨r, W, (cls W2 w1).trans l1, ?_, lb, ?_⟩
        · have hcf : l_cf I W2 := l_cft (l_cf3 I _) (l_cft a3 w8)
          match r, l2 with
          | .inl (f, q), l2 =>
            obtain ⟨b1, b2, b3, b4, b5⟩ := l2
            exact ⟨b1, b2, b3, l_cft hcf b4, b5⟩
          | .inr (D, p', s'), l2 =>
            obtain ⟨b1, b2, b3, b4, b5, b6, b7⟩ := l2
            exact ⟨by omega, b2, l_cft hcf b3, b4, by omega, fun i hi => ⟨(b6 i hi).1.trans (hpre i (by omega)).1, (b6 i hi).2.trans (hpre i (by omega)).2⟩, b7⟩
        · have step : ∀ (d : Nat) (z : Nat × Nat) (J : Nat → Nat → Int64) (M : Nat → Nat → Int32) (W : List (Nat × Nat)) (T : List (l_D × Nat)) (c : Nat) (W0 : List (Nat × Nat)) (T0 : List (l_D × Nat)) (D0 : l_D) (c0 c1 : Nat), l_s M b n p W0 c1 → l_CT (M 174) W0 T0 c0 → l_mS (M 174) c0 c1 D0 → l_Ln true W0 T0 D0 c0 = some (W, T, acc, c) → l_oc W = o → l_hs true W → l_h2 true W → ∃ (V : Nat → Nat → Int32) (W1 : List (Nat × Nat)) (T1 : List (l_D × Nat)) (D1 : l_D) (c2 c3 : Nat), l_C2 ro d z J M = l_C2 ro d z J V ∧ l_s V b n p2 W1 c3 ∧ l_CT (V 174) W1 T1 c2 ∧ l_mS (V 174) c2 c3 D1 ∧ l_Ln true W1 T1 D1 c2 = some (W, T, l_or acc D2, c) ∧ (∀ j, j < c → V 174 j = M 174 j) ∧ l_g M V := by
            intro d z J M W T c W0 T0 D0 c0 c1 hm hTT hD hL hop hH hH2
            obtain ⟨V, t1, t2, t3, t4, t5, t6⟩ := k_sJ (ro := ro) (d := d) (z := z) (J := J) hm hp (Or.inr ⟨hb, rfl, rfl⟩) hTT hD hL
            obtain ⟨V2, W3, T3, D3, c3, c4, u1, u2, u3, u4, u5, u6, u7⟩ := k3.1 d z J V ((12, c1) :: W) ((acc, c) :: T) (c1 + 1) t2 t3 (by rw [hou]; exact hop) (hpu _ W) (hp2 _ W)
            refine ⟨V2, W3, T3, D3, c3, c4, t1.trans u1, u2, u3, u4, ?_, fun j hj => by rw [u6 j (by omega), t4 j hj], l_gt t5 u7⟩
            rw [l_Lc _ _ _ _ _ _ _ _ u5]
            conv => lhs; unfold l_Ln
            rw [if_pos (show l_ld true 12 = true from rfl)]
            show l_Ln true W T (l_or acc D2) c = some (W, T, l_or acc D2, c)
            exact l_Lh hH2 _ _ _
          match r, l3 with
          | .inl (f, q), l3 =>
            intro d z J M W T c W0 T0 D0 c0 c1 hm hTT hD hL hop hH hH2
            obtain ⟨V, W3, T3, D3, c3, c4, u1, u2, u3, u4, u5, u6, u7⟩ := step d z J M W T c W0 T0 D0 c0 c1 hm hTT hD hL hop hH hH2
            rw [u1]
            exact l_Bg u7 (l3 d z J V W T c W3 T3 D3 c3 c4 u2 u3 u4 u5 hop hH hH2)
          | .inr (D, p', s'), l3 =>
            refine ⟨?_, l3.2⟩
            intro d z J M W T c W0 T0 D0 c0 c1 hm hTT hD hL hop hH hH2
            obtain ⟨V, W3, T3, D3, c3, c4, u1, u2, u3, u4, u5, u6, u7⟩ := step d z J M W T c W0 T0 D0 c0 c1 hm hTT hD hL hop hH hH2
            obtain ⟨V4, W4, T4, D4, c5, c6, v1, v2, v3, v4, v5, v6, v7⟩ := l3.1 d z J V W T c W3 T3 D3 c3 c4 u2 u3 u4 u5 hop hH hH2
            exact ⟨V4, W4, T4, D4, c5, c6, u1.trans v1, v2, v3, v4, v5, fun j hj => by rw [v6 j hj, u6 j hj], l_gt u7 v7⟩
    · rw [if_neg cc] at ht
      have hno : p < n → b p ≠ 124 := fun q1 q2 => cc ⟨q1, q2⟩
      refine ⟨.inr (acc, p, s), I, ?_, ⟨Nat.le_refl _, hC, l_cfr I, hs, Nat.le_refl _, fun _ _ => ⟨rfl, rfl⟩, hcS⟩, hbo, ?_⟩
      · conv => lhs; unfold xb_LawReader_parts_8
        by_cases ci : i < 240
        · have g : (240 ≤ nI i) = False := by (simp (disch := omega) only [vz_all, if_true, if_false, true_or, or_true, eq_self, ite_not, Bool.false_eq_true, ite_self, and_self, true_and, and_true, false_and, and_false, not_true_eq_false, not_false_eq_true, false_or, or_false])
          simp only [xr_all, xf_all, if_true, if_false, true_or, or_true, eq_self, ite_not, Bool.false_eq_true, ite_self, and_self, true_and, and_true, false_and, and_false, not_true_eq_false, not_false_eq_true, xj_LawReader_parts, xb_LawReader_parts_0, xb_LawReader_parts_43, g, ht]
        · have g : (240 ≤ nI i) = True := by (simp (disch := omega) only [vz_all, if_true, if_false, true_or, or_true, eq_self, ite_not, Bool.false_eq_true, ite_self, and_self, true_and, and_true, false_and, and_false, not_true_eq_false, not_false_eq_true, false_or, or_false])
          simp only [xr_all, xf_all, if_true, if_false, true_or, or_true, eq_self, ite_not, Bool.false_eq_true, ite_self, and_self, true_and, and_true, false_and, and_false, not_true_eq_false, not_false_eq_true, xj_LawReader_parts, xb_LawReader_parts_0, xb_LawReader_parts_43, g]
      · refine ⟨?_, ?_⟩
        · intro d z J M W T c W0 T0 D0 c0 c1 hm hTT hD hL hop hH hH2
          exact ⟨M, W0, T0, D0, c0, c1, rfl, hm, hTT, hD, hL, fun _ _ => rfl, l_gr M⟩
        · exact fun q => ⟨hex q, hno q⟩
theorem l_lv_parts {ro : xv_Ro} {b : Nat → Nat} {n K : Nat} (hn : n ≤ 240) (hY : l_lt ro 215 (fun p o r => l_MK ro b n p o false (l_X1 b n) r) 7 5 b n K) : l_lt ro 214 (fun p o r => l_MK ro b n p o true (l_X2 b n) r) 8 6 b n K := by
  intro p o s I z J d hk ho1 ho hC hs hsp hd
  obtain ⟨e, rfl⟩ : ∃ e, d = e + 8 := ⟨d - 8, by omega⟩
  have hpn := hC.2.1
  obtain ⟨r1, W1, k1, k2, kb, k3⟩ := hY p o s I z J (e + 7) hk ho1 ho hC hs hsp (by omega)
  have cls : xv_evm ro (e + 8) 214 [.ref 1, .ref 13, .int (nI o)] (z, xv_mk I J) = xv_ev ro (e + 8) xm_LawReader_parts xb_LawReader_parts_8 [some (.ref 1), some (.ref 13), some (.int (nI o)), some (.int (nI 0))] [] (z, xv_mk W1 J) := by
    rw [xe_LawReader_parts, show nI 0 = (0 : Int32) from rfl]
    simp only [xr_all, xf_all, if_true, if_false, true_or, or_true, eq_self, ite_not, Bool.false_eq_true, ite_self, and_self, true_and, and_true, false_and, and_false, not_true_eq_false, not_false_eq_true, xj_LawReader_parts, xb_LawReader_parts_0, xb_LawReader_parts_43, k1]
  match r1, k2, kb, k3 with
  | .inl (f, q), k2, kb, k3 =>
    obtain ⟨a1, a2, a3, a4, a5⟩ := k2
    have hdd : (W1 1 4 = 0) = False := by rw [a5]; exact tp_f f a1 a2 a3
    refine ⟨.inl (f, q), W1, cls.trans (l_d_parts ro e z W1 J (nI o) _ hdd), ⟨a1, a2, a3, a4, a5⟩, trivial, ?_⟩
    intro d z J M W T c hm hTT hop hH hH2
    exact k3 d z J M W T c hm hTT hop hH (l_h2ft hH2)
  | .inr (D2, p2, s2), k2, kb, k3 =>
    obtain ⟨a1, a2, a3, a4, a5, a6, a7⟩ := k2
    have p2n := a2.2.1
    obtain ⟨r, W, l1, l2, lb, l3⟩ := l_lp_parts hn hY K p2 0 o s s2 D2 W1 J z e (by omega) (by omega) (Nat.le_refl _) ho1 ho a2 a4 (by omega) (by omega) (l_cS_c a7 (fun _ _ _ => ⟨rfl, rfl⟩) (by omega)) kb k3.2
    refine ⟨r, W, cls.trans l1, ?_, lb, ?_⟩
    · match r, l2 with
      | .inl (f, q), l2 =>
        obtain ⟨b1, b2, b3, b4, b5⟩ := l2
        exact ⟨b1, b2, b3, l_cft a3 b4, b5⟩
      | .inr (D, p', s'), l2 =>
        obtain ⟨b1, b2, b3, b4, b5, b6, b7⟩ := l2
        exact ⟨by omega, b2, l_cft a3 b3, b4, by omega, fun i hi => ⟨(b6 i hi).1.trans (a6 i hi).1, (b6 i hi).2.trans (a6 i hi).2⟩, b7⟩
    · have step : ∀ (d : Nat) (z : Nat × Nat) (J : Nat → Nat → Int64) (M : Nat → Nat → Int32) (W : List (Nat × Nat)) (T : List (l_D × Nat)) (c : Nat), l_s M b n p W c → l_CT (M 174) W T c → l_oc W = o → l_hs true W → l_h2 true W → ∃ (V : Nat → Nat → Int32) (W1 : List (Nat × Nat)) (T1 : List (l_D × Nat)) (D1 : l_D) (c0 c1 : Nat), l_C1 ro d z J M = l_C2 ro d z J V ∧ l_s V b n p2 W1 c1 ∧ l_CT (V 174) W1 T1 c0 ∧ l_mS (V 174) c0 c1 D1 ∧ l_Ln true W1 T1 D1 c0 = some (W, T, D2, c) ∧ (∀ j, j < c → V 174 j = M 174 j) ∧ l_g M V := by
        intro d z J M W T c hm hTT hop hH hH2
        obtain ⟨V2, W3, T3, D3, c3, c4, u1, u2, u3, u4, u5, u6, u7⟩ := k3.1 d z J M W T c hm hTT hop hH (l_h2ft hH2)
        refine ⟨V2, W3, T3, D3, c3, c4, u1, u2, u3, u4, ?_, u6, u7⟩
        rw [l_Lc _ _ _ _ _ _ _ _ u5]
        exact l_Lh hH2 _ _ _
      match r, l3 with
      | .inl (f, q), l3 =>
        intro d z J M W T c hm hTT hop hH hH2
        obtain ⟨V, W3, T3, D3, c3, c4, u1, u2, u3, u4, u5, u6, u7⟩ := step d z J M W T c hm hTT hop hH hH2
        rw [u1]
        exact l_Bg u7 (l3 d z J V W T c W3 T3 D3 c3 c4 u2 u3 u4 u5 hop hH hH2)
      | .inr (D, p', s'), l3 =>
        refine ⟨?_, l3.2⟩
        intro d z J M W T c hm hTT hop hH hH2
        obtain ⟨V, W3, T3, D3, c3, c4, u1, u2, u3, u4, u5, u6, u7⟩ := step d z J M W T c hm hTT hop hH hH2
        obtain ⟨V4, W4, T4, D4, c5, c6, v1, v2, v3, v4, v5, v6, v7⟩ := l3.1 d z J V W T c W3 T3 D3 c3 c4 u2 u3 u4 u5 hop hH hH2
        exact ⟨V4, W4, T4, D4, c5, c6, u1.trans v1, v2, v3, v4, v5, fun j hj => by rw [v6 j hj, u6 j hj], l_gt u7 v7⟩
theorem l_conds {ro : xv_Ro} {b : Nat → Nat} {n : Nat} (hn : n ≤ 240) : ∀ K, l_lt ro 216 (l_MT ro b n) 6 4 b n K ∧ l_lt ro 214 (fun p o r => l_MK ro b n p o true (l_X2 b n) r) 8 6 b n K := by
  intro K
  induction K with
  | zero => exact ⟨fun p o s I z J d hk => by omega, fun p o s I z J d hk => by omega⟩
  | succ K ih =>
    have h1 := l_test hn ih.1 ih.2
    exact ⟨h1, l_lv_parts hn (l_lv_tests hn h1)⟩
