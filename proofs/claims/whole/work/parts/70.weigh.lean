/-! what is said is weighed: the class's weigh, the model's weighs -/
/-- the answers in both, as the invariant has them -/
def vh_4 (I : Nat → Nat → Int32) (n : Nat) : Prop := ∀ i, i < n → (∀ f, f < 8 → I (25 + 23 + i) f = I 168 (140 + 20 * f + i)) ∧ (∃ w : Nat, w < 10 ∧ I 168 (140 + i) = nI w) ∧ (∃ k : Nat, k < 8 ∧ I 168 (160 + i) = nI k) ∧ (I 168 (180 + i) = 0 ∨ I 168 (180 + i) = 1) ∧ (I 168 (200 + i) = 0 ∨ I 168 (200 + i) = 1)
def vg_b (I : Nat → Nat → Int32) (i v : Nat) : Int32 := if (vq_N (I 4 (I (25 + 23 + i) 1).toNatClampNeg)).testBit v = true then 1 else 0
def vg_w (fn : Nat → (Nat → Int32) → Nat) (I : Nat → Nat → Int32) (p : Nat → Nat) (s v : Nat) : Nat → Nat
  | 0 => vg_Pk p v 5
  | i + 1 => if s.testBit i = true then vg_w fn I p s v i * vg_W fn I (25 + 23 + i) (vg_b I i v) else vg_w fn I p s v i
theorem vg_Pk_le {p : Nat → Nat} (hp : ∀ f, f < 5 → p f ≤ 10) (v : Nat) : ∀ f, f ≤ 5 → vg_Pk p v f ≤ 10 ^ f := by
  intro f
  induction f with
  | zero => intro _; exact Nat.le_refl _
  | succ f ih =>
    intro h
    have h1 := ih (by omega)
    have h2 := hp f (by omega)
    have h3 : (if v.testBit f = true then p f else 10 - p f) ≤ 10 := by split <;> omega
    show vg_Pk p v f * (if v.testBit f = true then p f else 10 - p f) ≤ 10 ^ (f + 1)
    rw [Nat.pow_succ]
    exact Nat.mul_le_mul h1 h3
theorem vg_w_le {I0 : Nat → Nat → Int32} {fn : Nat → (Nat → Int32) → Nat} (hf : vl_fn I0 fn) (I : Nat → Nat → Int32) {p : Nat → Nat} (hp : ∀ f, f < 5 → p f ≤ 10) (s v : Nat) : ∀ i, vg_w fn I p s v i ≤ 100000 * 100 ^ vb_ct s i := by
  intro i
  induction i with
  | zero => have := vg_Pk_le hp v 5 (Nat.le_refl 5); exact this
  | succ i ih =>
    show (if s.testBit i = true then vg_w fn I p s v i * vg_W fn I (25 + 23 + i) (vg_b I i v) else vg_w fn I p s v i) ≤ 100000 * 100 ^ (vb_ct s i + (if s.testBit i = true then 1 else 0))
    by_cases c : s.testBit i = true
    · rw [if_pos c, if_pos c, Nat.pow_succ, ← Nat.mul_assoc]
      exact Nat.mul_le_mul ih (vg_W_le hf I _ _)
    · rw [if_neg c, if_neg c]
      exact ih
theorem xq_weigh (ro : xv_Ro) (d : Nat) (z : Nat × Nat) (I : Nat → Nat → Int32) (J : Nat → Nat → Int64) {fn : Nat → (Nat → Int32) → Nat} (hf : vl_fn I fn) {n s : Nat} (hn : I 25 2 = nI n) (hn2 : n ≤ 20) (h4 : vh_4 I n) (hs : s < 2 ^ n) {p : Nat → Nat} (hp : ∀ f, f < 5 → p f ≤ 10 ∧ I 23 f = nI (p f)) : ∃ (C1 : Nat → Nat → Int32) (J1 : Nat → Nat → Int64), (∀ a, a ≠ 21 → C1 a = I a) ∧ (∀ a, a ≠ 12 → a ≠ 24 → J1 a = J a) ∧ (∀ v, v < 32 → J1 24 v = lN (vg_w fn I p s v 20)) ∧ xv_evm ro (d + 6) 34 [.ref 0, .int (nI s)] (z, xv_mk I J) = some (none, (z, xv_mk C1 J1)) := by
  have hp20 : 2 ^ n ≤ 2 ^ 20 := Nat.pow_le_pow_right (by omega) hn2
  have step : ∀ i, i ≤ 20 → ∃ (C1 : Nat → Nat → Int32) (J1 : Nat → Nat → Int64) (u : Option Value), (∀ a, a ≠ 21 → C1 a = I a) ∧ (∀ a, a ≠ 12 → a ≠ 24 → J1 a = J a) ∧ (∀ v, v < 32 → J1 24 v = lN (vg_w fn I p s v i)) ∧ xv_evm ro (d + 6) 34 [.ref 0, .int (nI s)] (z, xv_mk I J) = xv_ev ro (d + 6) xm_Ct_weigh xb_Ct_weigh_9 [some (.ref 0), some (.int (nI s)), some (.int (nI i)), u] [] (z, xv_mk C1 J1) := by
    intro i
    induction i with
    | zero =>
      intro _
      refine ⟨I, vg_J J 24 (fun v => vg_Pk p v 5) 32, none, fun _ _ => rfl, fun a _ ha => vg_Jo _ _ _ ha, fun v hv => vg_Ji _ _ _ hv, ?_⟩
      rw [xe_Ct_weigh]
      have h0 := xq_Scales_start ro (d + 5) z I J hp
      simp only [xr_all, xf_all, if_true, if_false, true_or, or_true, eq_self, ite_not, Bool.false_eq_true, ite_self, and_self, true_and, and_true, false_and, and_false, not_true_eq_false, not_false_eq_true, xj_Ct_weigh, xb_Ct_weigh_0, xb_Ct_weigh_64, xb_Ct_weigh_70, h0]
      rfl
    | succ i ih =>
      intro hi
      obtain ⟨C1, J1, u, a1, a2, a3, a4⟩ := ih (by omega)
      rw [a4]
      have hn' : C1 25 2 = nI n := by rw [a1 25 (by omega)]; exact hn
      have g1 : (20 ≤ nI i) = False := by (simp (disch := omega) only [vz_all, if_true, if_false, true_or, or_true, eq_self, ite_not, Bool.false_eq_true, ite_self, and_self, true_and, and_true, false_and, and_false, not_true_eq_false, not_false_eq_true, false_or, or_false])
      have g2 := vb_bit1 (m := s) (k := i) (by omega) (by omega)
      by_cases c : s.testBit i = true
      · have hin : i < n := by
          rcases Nat.lt_or_ge i n with q | q
          · exact q
          · rw [Nat.testBit_lt_two_pow (Nat.lt_of_lt_of_le hs (Nat.pow_le_pow_right (by omega) q))] at c; cases c
        have c2 := g2.trans (eq_true c)
        have hans := xq_Archive_answer ro (d + 5) z C1 J1 (A := 25) (Or.inl rfl) hn' hn2 hin
        have hN := vAr_N (A := 25) (Or.inl rfl) (show i < 20 by omega)
        obtain ⟨e1, -, ⟨k, k1, k2⟩, e2, e3⟩ := h4 i hin
        have eo : C1 (25 + 23 + i) = I (25 + 23 + i) := a1 _ (by omega)
        have ek : I (25 + 23 + i) 1 = nI k := (e1 1 (by omega)).trans k2
        have has := xq_Answer_asked ro (d + 5) z C1 J1 hN
        rw [eo, ek] at has
        have hho := xq_Questions_holds ro (d + 5) z C1 J1 k1
        rw [a1 4 (by omega)] at hho
        have y2 : C1 (25 + 23 + i) 2 = 0 ∨ C1 (25 + 23 + i) 2 = 1 := by rw [eo, e1 2 (by omega)]; exact e2
        have y3 : C1 (25 + 23 + i) 3 = 0 ∨ C1 (25 + 23 + i) 3 = 1 := by rw [eo, e1 3 (by omega)]; exact e3
        obtain ⟨C2, J2, b1, b2, b3, b4⟩ := xq_Scales_add ro d z C1 J1 hf (fun a q1 q2 => a1 a (by omega)) hN y2 y3 (I 4 k) a3
        refine ⟨C2, J2, some (.ref (25 + 23 + i)), fun a ha => by rw [b1 a ha, a1 a ha], fun a q1 q2 => by rw [b2 a q1 q2, a2 a q1 q2], fun v hv => ?_, ?_⟩
        · rw [b3 v hv]
          have hw : vg_w fn I p s v (i + 1) = if s.testBit i = true then vg_w fn I p s v i * vg_W fn I (25 + 23 + i) (vg_b I i v) else vg_w fn I p s v i := rfl
          have hb : vg_b I i v = if (vq_N (I 4 k)).testBit v = true then 1 else 0 := by unfold vg_b; rw [ek, nI_clamp (by omega)]
          rw [hw, if_pos c, hb, vg_W_c fn eo, vg_W_c fn eo]
          split <;> rfl
        · conv => lhs; unfold xb_Ct_weigh_9
          simp only [xr_all, xf_all, if_true, if_false, true_or, or_true, eq_self, ite_not, Bool.false_eq_true, ite_self, and_self, true_and, and_true, false_and, and_false, not_true_eq_false, not_false_eq_true, xj_Ct_weigh, xb_Ct_weigh_0, xb_Ct_weigh_64, xb_Ct_weigh_70, g1, hans, c2, vN_f hN, has, hho, b4, nI_1]
      · have c2 := g2.trans (eq_false c)
        have hw : ∀ v, vg_w fn I p s v (i + 1) = vg_w fn I p s v i := fun v => by
          show (if s.testBit i = true then vg_w fn I p s v i * vg_W fn I (25 + 23 + i) (vg_b I i v) else vg_w fn I p s v i) = _
          rw [if_neg c]
        rcases Nat.lt_or_ge i n with q | q
        · have hans := xq_Archive_answer ro (d + 5) z C1 J1 (A := 25) (Or.inl rfl) hn' hn2 q
          have hN := vAr_N (A := 25) (Or.inl rfl) (show i < 20 by omega)
          refine ⟨C1, J1, some (.ref (25 + 23 + i)), a1, a2, fun v hv => by rw [hw v]; exact a3 v hv, ?_⟩
          conv => lhs; unfold xb_Ct_weigh_9
          simp only [xr_all, xf_all, if_true, if_false, true_or, or_true, eq_self, ite_not, Bool.false_eq_true, ite_self, and_self, true_and, and_true, false_and, and_false, not_true_eq_false, not_false_eq_true, xj_Ct_weigh, xb_Ct_weigh_0, xb_Ct_weigh_64, xb_Ct_weigh_70, g1, hans, c2, vN_f hN, nI_1]
        · have hans := xq_Archive_answer_no ro (d + 5) z C1 J1 (A := 25) (Or.inl rfl) hn' hn2 (x := nI i) (by rintro ⟨j, hj, e⟩; have := (nI_eq (by omega) (by omega)).mp e; omega)
          refine ⟨C1, J1, some .null, a1, a2, fun v hv => by rw [hw v]; exact a3 v hv, ?_⟩
          conv => lhs; unfold xb_Ct_weigh_9
          simp only [xr_all, xf_all, if_true, if_false, true_or, or_true, eq_self, ite_not, Bool.false_eq_true, ite_self, and_self, true_and, and_true, false_and, and_false, not_true_eq_false, not_false_eq_true, xj_Ct_weigh, xb_Ct_weigh_0, xb_Ct_weigh_64, xb_Ct_weigh_70, g1, hans, c2, nI_1]
  obtain ⟨C1, J1, u, a1, a2, a3, a4⟩ := step 20 (Nat.le_refl 20)
  refine ⟨C1, J1, a1, a2, a3, ?_⟩
  rw [a4]
  conv => lhs; unfold xb_Ct_weigh_9
  have g1 : (20 ≤ nI 20) = True := eq_true (by decide)
  simp only [xr_all, xf_all, if_true, if_false, true_or, or_true, eq_self, ite_not, Bool.false_eq_true, ite_self, and_self, true_and, and_true, false_and, and_false, not_true_eq_false, not_false_eq_true, xj_Ct_weigh, xb_Ct_weigh_0, xb_Ct_weigh_64, xb_Ct_weigh_70, g1]
/-! the model -/
def vh_K (C : Nat → Nat → Int32) (g : Nat → Int32) : Nat → Nat → Int32 := fun a => if a = 186 then g else C a
theorem vh_Ks (C : Nat → Nat → Int32) : vh_K C (C 186) = C := by
  funext a
  unfold vh_K
  by_cases h : a = 186
  · rw [if_pos h, h]
  · rw [if_neg h]
theorem vh_Ku (C : Nat → Nat → Int32) (g : Nat → Int32) (k : Nat) (x : Int32) : xv_u2 (vh_K C g) 186 k x = vh_K C (vg_u g k x) := by
  funext a j
  unfold xv_u2 vh_K vg_u
  by_cases h : a = 186
  · by_cases h2 : j = k
    · rw [if_pos ⟨h, h2⟩, if_pos h, if_pos h2]
    · rw [if_neg (by omega), if_pos h, if_pos h, if_neg h2]
  · rw [if_neg (by omega), if_neg h, if_neg h]
theorem vh_Ko (C : Nat → Nat → Int32) (g : Nat → Int32) {a : Nat} (h : a ≠ 186) : vh_K C g a = C a := if_neg h
theorem vh_Ki (C : Nat → Nat → Int32) (g : Nat → Int32) : vh_K C g 186 = g := if_pos rfl
def vh_z (g : Nat → Int32) (i : Nat) : Nat → Int32 := fun j => if j < i then 0 else g j
theorem vh_zs (g : Nat → Int32) (i : Nat) : vg_u (vh_z g i) i 0 = vh_z g (i + 1) := by
  funext j
  unfold vg_u vh_z
  by_cases h : j = i
  · rw [if_pos h, if_pos (by omega)]
  · rw [if_neg h]
    by_cases h2 : j < i
    · rw [if_pos h2, if_pos (by omega)]
    · rw [if_neg h2, if_neg (by omega)]
theorem vh_z0 (g : Nat → Int32) : vh_z g 0 = g := by
  funext j
  unfold vh_z
  rw [if_neg (by omega)]
theorem xq_feels (ro : xv_Ro) (d : Nat) (z : Nat × Nat) (M : Nat → Nat → Int32) (J : Nat → Nat → Int64) (w h s l t : Int32) : xv_evm ro d 81 [.ref 167, .int w, .int h, .int s, .int l, .int t] (z, xv_mk M J) = some (none, (z, xv_mk (vh_K M (vg_u (vg_u (vg_u (vg_u (vg_u (vh_z (M 186) 8) 0 w) 1 h) 2 s) 3 l) 7 t)) J)) := by
  rw [xe_Mo_feels]
  simp only [xr_all, xf_all, if_true, if_false, true_or, or_true, eq_self, ite_not, Bool.false_eq_true, ite_self, and_self, true_and, and_true, false_and, and_false, not_true_eq_false, not_false_eq_true, xj_Mo_feels, xb_Mo_feels_0, xb_Mo_feels_24]
  have hl := vz_iter (fun i => xv_ev ro d xm_Mo_feels xb_Mo_feels_3 [some (.ref 167), some (.int w), some (.int h), some (.int s), some (.int l), some (.int t), some (.int (nI i))] [] (z, xv_mk (vh_K M (vh_z (M 186) i)) J)) 8 (fun i hi => by
    have g1 : (8 ≤ nI i) = False := by (simp (disch := omega) only [vz_all, if_true, if_false, true_or, or_true, eq_self, ite_not, Bool.false_eq_true, ite_self, and_self, true_and, and_true, false_and, and_false, not_true_eq_false, not_false_eq_true, false_or, or_false])
    have g3 : xv_inB (nI i) 8 = true := by (simp (disch := omega) only [vz_all, if_true, if_false, true_or, or_true, eq_self, ite_not, Bool.false_eq_true, ite_self, and_self, true_and, and_true, false_and, and_false, not_true_eq_false, not_false_eq_true, false_or, or_false])
    have c2 := nI_clamp (show i < 2 ^ 31 by omega)
    conv => lhs; unfold xb_Mo_feels_3
    simp only [xr_all, xf_all, if_true, if_false, true_or, or_true, eq_self, ite_not, Bool.false_eq_true, ite_self, and_self, true_and, and_true, false_and, and_false, not_true_eq_false, not_false_eq_true, xj_Mo_feels, xb_Mo_feels_0, xb_Mo_feels_24, g1, g3, c2, vh_Ku, vh_zs, nI_1])
  rw [vh_z0, vh_Ks, show nI 0 = (0 : Int32) from rfl] at hl
  rw [hl]
  conv => lhs; unfold xb_Mo_feels_3
  have g1 : (8 ≤ nI 8) = True := eq_true (by decide)
  have i0 : xv_inB 0 8 = true := by decide
  have i1 : xv_inB 1 8 = true := by decide
  have i2 : xv_inB 2 8 = true := by decide
  have i3 : xv_inB 3 8 = true := by decide
  have i7 : xv_inB 7 8 = true := by decide
  simp only [xr_all, xf_all, if_true, if_false, true_or, or_true, eq_self, ite_not, Bool.false_eq_true, ite_self, and_self, true_and, and_true, false_and, and_false, not_true_eq_false, not_false_eq_true, xj_Mo_feels, xb_Mo_feels_0, xb_Mo_feels_24, g1, i0, i1, i2, i3, i7, vh_Ku]
