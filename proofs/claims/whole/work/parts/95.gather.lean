/-! onions for witnesses: the class gathers and settles -/
theorem vb_mono (s : Nat) : ∀ {w v : Nat}, w ≤ v → vb_ct s w ≤ vb_ct s v := by
  intro w v h
  induction h with
  | refl => exact Nat.le_refl _
  | step _ ih => rw [vb_cts]; split <;> omega
/-- who there is, and what their onions come to -/
def ox_A (I : Nat → Nat → Int32) (m : Nat) (hh oo : Nat → Nat) : Prop := m < 1024 ∧ I 168 300 = nI m ∧ ∀ w, w < 10 → hh w ≤ 9 ∧ oo w ≤ 1188 ∧ I (25 + 3 + 2 * w) 3 = (if m.testBit w then 1 else 0) ∧ I (25 + 3 + 2 * w) 2 = nI (hh w) ∧ I 168 (130 + w) = nI (hh w) ∧ (∃ l : Nat, l ≤ 12 ∧ I (25 + 3 + 2 * w) 1 = nI l ∧ I 168 (120 + w) = nI l ∧ vs_sum (fun i => I 168 (12 * w + i)) l = nI (oo w) ∧ vs_sum (fun i => I (25 + 3 + 2 * w + 1) i) l = nI (oo w))
def ox_s (f : Nat → Nat) : Nat → Nat
  | 0 => 0
  | n + 1 => ox_s f n + f n
theorem ox_sI (f : Nat → Nat) (n : Nat) : vs_sum (fun i => nI (f i)) n = nI (ox_s f n) := by
  induction n with
  | zero => rfl
  | succ n ih =>
    show vs_sum (fun i => nI (f i)) n + nI (f n) = nI (ox_s f n + f n)
    rw [ih, nI_add]
theorem ox_sle {f : Nat → Nat} {n : Nat} (h : ∀ i, i < n → f i ≤ 99) : ox_s f n ≤ n * 99 := by
  induction n with
  | zero => exact Nat.zero_le _
  | succ n ih =>
    show ox_s f n + f n ≤ (n + 1) * 99
    have h1 := ih (fun i hi => h i (by omega))
    have h2 := h n (by omega)
    rw [Nat.succ_mul]; omega
theorem ox_Aex {I : Nat → Nat → Int32} (h : vi_A I 25 168) : ∃ (m : Nat) (hh oo : Nat → Nat), ox_A I m hh oo := by
  obtain ⟨-, -, ⟨m, m1, m2, m3⟩, g4⟩ := h
  refine ⟨m, fun w => (I 168 (130 + w)).toNatClampNeg, fun w => ox_s (fun i => (I 168 (12 * w + i)).toNatClampNeg) (I 168 (120 + w)).toNatClampNeg, m1, m2, fun w hw => ?_⟩
  obtain ⟨⟨a, a1, a2, a3⟩, l, b1, b2, b3, b4⟩ := g4 w hw
  dsimp only
  rw [a3, b3, nI_clamp (show a < 2 ^ 31 by omega), nI_clamp (show l < 2 ^ 31 by omega)]
  have key : ∀ i, i < l → (I 168 (12 * w + i)).toNatClampNeg ≤ 99 ∧ I 168 (12 * w + i) = nI (I 168 (12 * w + i)).toNatClampNeg ∧ I (25 + 3 + 2 * w + 1) i = nI (I 168 (12 * w + i)).toNatClampNeg := by
    intro i hi
    obtain ⟨q, q1, q2, q3, q4⟩ := b4 i hi
    rw [q4, nI_clamp (show q < 2 ^ 31 by omega)]
    exact ⟨q2, rfl, by rw [show 25 + 3 + 2 * w + 1 = 25 + 4 + 2 * w by omega]; exact q3⟩
  have hle := ox_sle (f := fun i => (I 168 (12 * w + i)).toNatClampNeg) (n := l) (fun i hi => (key i hi).1)
  have hl99 : l * 99 ≤ 12 * 99 := Nat.mul_le_mul_right _ b1
  refine ⟨a1, by omega, m3 w hw, a2, rfl, l, b1, b2, rfl, ?_, ?_⟩
  · rw [vs_sum_c (g := fun i => nI (I 168 (12 * w + i)).toNatClampNeg) (fun i hi => (key i hi).2.1)]
    exact ox_sI (fun i => (I 168 (12 * w + i)).toNatClampNeg) l
  · rw [vs_sum_c (g := fun i => nI (I 168 (12 * w + i)).toNatClampNeg) (fun i hi => (key i hi).2.2)]
    exact ox_sI (fun i => (I 168 (12 * w + i)).toNatClampNeg) l
theorem ox_first (ro : xv_Ro) (d : Nat) (z : Nat × Nat) (I : Nat → Nat → Int32) (J : Nat → Nat → Int64) {p l q : Nat} (hp : vW p) (hl : I p 1 = nI l) (hl2 : l ≤ 12) (hs : vs_sum (fun i => I (p + 1) i) l = nI q) : xv_evm ro (d + 1) 267 [.ref p, .int 12] (z, xv_mk I J) = some (some (.int (nI q)), (z, xv_mk I J)) := by
  have hfi := xq_Witness_first ro d z I J hp hl hl2 (m := 12) (by omega)
  have hcut := vs_sum_cut (f := fun i => I (p + 1) i) (n := l) (12 - l)
  rw [show l + (12 - l) = 12 by omega] at hcut
  rw [hcut, hs, show nI 12 = (12 : Int32) from rfl] at hfi
  exact hfi
theorem xq_gather (ro : xv_Ro) (d : Nat) (z : Nat × Nat) (I : Nat → Nat → Int32) (J : Nat → Nat → Int64) {m s : Nat} {hh oo : Nat → Nat} (hA : ox_A I m hh oo) (hs : s < 1024) (hsub : ∀ i, s.testBit i = true → m.testBit i = true) (h2 : 2 ≤ vb_ct s 32) (h5 : vb_ct s 32 ≤ 5) : ∃ W : Nat → Nat → Int32, xv_evm ro (d + 3) 195 [.ref 160, .int (nI s), .ref 25] (z, xv_mk I J) = some (some (.int 1), (z, xv_mk W J)) ∧ W 160 5 = nI (vb_ct s 10) ∧ (∀ j, j < vb_ct s 10 → W 161 j = nI (ox_mem s 10 j) ∧ W 162 j = nI (hh (ox_mem s 10 j)) ∧ W 163 j = nI (oo (ox_mem s 10 j))) ∧ ∀ a, a < 160 ∨ 163 < a → W a = I a := by
  obtain ⟨m1, m2, mw⟩ := hA
  have e32 : vb_ct s 32 = vb_ct s 10 := by
    have : ∀ k, vb_ct s (10 + k) = vb_ct s 10 := by
      intro k
      induction k with
      | zero => rfl
      | succ k ih =>
        show vb_ct s (10 + k) + (if s.testBit (10 + k) = true then 1 else 0) = _
        rw [Nat.testBit_lt_two_pow (Nat.lt_of_lt_of_le (show s < 2 ^ 10 by omega) (Nat.pow_le_pow_right (by omega) (by omega))), ih]
        rfl
    exact this 22
  have hto := xq_toldOnes ro d z (xv_u2 I 160 5 0) J (A := 25) (m := m) (Or.inl rfl) m1 (fun w hw => by rw [xu_ne (by omega)]; exact (mw w hw).2.2.1)
  have step : ∀ w, w ≤ 10 → ∃ (W : Nat → Nat → Int32) (u : Option Value), xv_evm ro (d + 3) 195 [.ref 160, .int (nI s), .ref 25] (z, xv_mk I J) = xv_ev ro (d + 3) xm_Exchange_gather xb_Exchange_gather_36 [some (.ref 160), some (.int (nI s)), some (.ref 25), some (.int (nI w)), u] [] (z, xv_mk W J) ∧ W 160 5 = nI (vb_ct s w) ∧ (∀ j, j < vb_ct s w → W 161 j = nI (ox_mem s w j) ∧ W 162 j = nI (hh (ox_mem s w j)) ∧ W 163 j = nI (oo (ox_mem s w j))) ∧ ∀ a, a < 160 ∨ 163 < a → W a = I a := by
    intro w
    induction w with
    | zero =>
      intro _
      refine ⟨xv_u2 I 160 5 0, none, ?_, by rw [xu_eq]; rfl, fun j hj => absurd hj (Nat.not_lt_zero j), fun a ha => xu_ne (by omega)⟩
      have q1 : (nI s &&& (nI m ^^^ -1) = 0) = True := eq_true ((vy_sub (by omega) (by omega)).mpr hsub)
      have q2 : (nI (vb_ct s 32) < 2) = False := by (simp (disch := omega) only [vz_all, if_true, if_false, true_or, or_true, eq_self, ite_not, Bool.false_eq_true, ite_self, and_self, true_and, and_true, false_and, and_false, not_true_eq_false, not_false_eq_true, false_or, or_false])
      have q3 : (nI (vb_ct s 32) ≤ 5) = True := by (simp (disch := omega) only [vz_all, if_true, if_false, true_or, or_true, eq_self, ite_not, Bool.false_eq_true, ite_self, and_self, true_and, and_true, false_and, and_false, not_true_eq_false, not_false_eq_true, false_or, or_false])
      rw [xe_Exchange_gather]
      simp only [xr_all, xf_all, if_true, if_false, true_or, or_true, eq_self, ite_not, Bool.false_eq_true, ite_self, and_self, true_and, and_true, false_and, and_false, not_true_eq_false, not_false_eq_true, xj_Exchange_gather, xb_Exchange_gather_0, xb_Exchange_gather_32, xb_Exchange_gather_34, xb_Exchange_gather_121, xb_Exchange_gather_127, hto, q1, xq_bitCount, vq_NnI (show s < 2 ^ 32 by omega), q2, q3]
      rfl
    | succ w ih =>
      intro hw
      obtain ⟨W, u, a1, a2, a3, a4⟩ := ih (by omega)
      obtain ⟨k1, k2, k3, k4, k5, l, l1, l2, l3, l4, l5⟩ := mw w (by omega)
      have hp := vAr_W (A := 25) (Or.inl rfl) (show w < 10 by omega)
      have g10 : (10 ≤ nI w) = False := by (simp (disch := omega) only [vz_all, if_true, if_false, true_or, or_true, eq_self, ite_not, Bool.false_eq_true, ite_self, and_self, true_and, and_true, false_and, and_false, not_true_eq_false, not_false_eq_true, false_or, or_false])
      have hbit := vb_bit1 (m := s) (k := w) (by omega) (by omega)
      rw [a1, vb_cts, ox_mem_s]
      by_cases c : s.testBit w = true
      · rw [if_pos c, if_pos c]
        have hmt := hsub w c
        have htold := xq_told ro (d + 1) z W J (A := 25) (Or.inl rfl) (show w < 10 by omega) (by rw [a4 _ (by omega), k3, if_pos hmt])
        have hb := hbit.trans (eq_true c)
        have hcw : vb_ct s w + 1 ≤ vb_ct s 10 := by
          have := vb_mono s (w := w + 1) (v := 10) (by omega)
          rw [vb_cts, if_pos c] at this
          exact this
        have g5 : (5 ≤ nI (vb_ct s w)) = False := by (simp (disch := omega) only [vz_all, if_true, if_false, true_or, or_true, eq_self, ite_not, Bool.false_eq_true, ite_self, and_self, true_and, and_true, false_and, and_false, not_true_eq_false, not_false_eq_true, false_or, or_false])
        have gi : xv_inB (nI (vb_ct s w)) 5 = true := by (simp (disch := omega) only [vz_all, if_true, if_false, true_or, or_true, eq_self, ite_not, Bool.false_eq_true, ite_self, and_self, true_and, and_true, false_and, and_false, not_true_eq_false, not_false_eq_true, false_or, or_false])
        have cc := nI_clamp (show vb_ct s w < 2 ^ 31 by omega)
        have hho := xq_Witness_honesty ro (d + 2) z (xv_u2 W 161 (vb_ct s w) (nI w)) J hp
        rw [xu_ne (by omega), a4 _ (by omega), k4] at hho
        have hfi := ox_first ro (d + 1) z (xv_u2 (xv_u2 W 161 (vb_ct s w) (nI w)) 162 (vb_ct s w) (nI (hh w))) J (l := l) (q := oo w) hp (by rw [xu_ne (by omega), xu_ne (by omega), a4 _ (by omega)]; exact l2) l1 (by rw [xu_ne (by omega), xu_ne (by omega), a4 _ (by omega)]; exact l5)
        have e1 : xv_u2 W 161 (vb_ct s w) (nI w) 160 5 = nI (vb_ct s w) := by rw [xu_ne (by omega)]; exact a2
        have e2 : xv_u2 (xv_u2 W 161 (vb_ct s w) (nI w)) 162 (vb_ct s w) (nI (hh w)) 160 5 = nI (vb_ct s w) := by rw [xu_ne (by omega)]; exact e1
        have e3 : xv_u2 (xv_u2 (xv_u2 W 161 (vb_ct s w) (nI w)) 162 (vb_ct s w) (nI (hh w))) 163 (vb_ct s w) (nI (oo w)) 160 5 = nI (vb_ct s w) := by rw [xu_ne (by omega)]; exact e2
        refine ⟨xv_u2 (xv_u2 (xv_u2 (xv_u2 W 161 (vb_ct s w) (nI w)) 162 (vb_ct s w) (nI (hh w))) 163 (vb_ct s w) (nI (oo w))) 160 5 (nI (vb_ct s w + 1)), some (.ref (25 + 3 + 2 * w)), ?_, xu_eq, fun j hj => ?_, fun a ha => by rw [xu_ne (by omega), xu_ne (by omega), xu_ne (by omega), xu_ne (by omega)]; exact a4 a ha⟩
        · conv => lhs; unfold xb_Exchange_gather_36
          simp only [xr_all, xf_all, if_true, if_false, true_or, or_true, eq_self, ite_not, Bool.false_eq_true, ite_self, and_self, true_and, and_true, false_and, and_false, not_true_eq_false, not_false_eq_true, xj_Exchange_gather, xb_Exchange_gather_0, xb_Exchange_gather_32, xb_Exchange_gather_34, xb_Exchange_gather_121, xb_Exchange_gather_127, g10, htold, hb, a2, g5, gi, cc, vW_f hp, e1, hho, e2, hfi, e3, nI_1]
        · unfold vx_q
          by_cases e : j = vb_ct s w
          · rw [if_pos e, e]
            refine ⟨?_, ?_, ?_⟩
            · rw [xu_ne (by omega), xu_ne (by omega), xu_ne (by omega), xu_eq]
            · rw [xu_ne (by omega), xu_ne (by omega), xu_eq]
            · rw [xu_ne (by omega), xu_eq]
          · rw [if_neg e]
            obtain ⟨y1, y2, y3⟩ := a3 j (by omega)
            refine ⟨?_, ?_, ?_⟩
            · rw [xu_ne (by omega), xu_ne (by omega), xu_ne (by omega), xu_ne2 (by omega)]; exact y1
            · rw [xu_ne (by omega), xu_ne (by omega), xu_ne2 (by omega), xu_ne (by omega)]; exact y2
            · rw [xu_ne (by omega), xu_ne2 (by omega), xu_ne (by omega), xu_ne (by omega)]; exact y3
      · rw [if_neg c, if_neg c, Nat.add_zero]
        have hb := hbit.trans (eq_false c)
        by_cases cm : m.testBit w = true
        · have htold := xq_told ro (d + 1) z W J (A := 25) (Or.inl rfl) (show w < 10 by omega) (by rw [a4 _ (by omega), k3, if_pos cm])
          refine ⟨W, some (.ref (25 + 3 + 2 * w)), ?_, a2, a3, a4⟩
          conv => lhs; unfold xb_Exchange_gather_36
          simp only [xr_all, xf_all, if_true, if_false, true_or, or_true, eq_self, ite_not, Bool.false_eq_true, ite_self, and_self, true_and, and_true, false_and, and_false, not_true_eq_false, not_false_eq_true, xj_Exchange_gather, xb_Exchange_gather_0, xb_Exchange_gather_32, xb_Exchange_gather_34, xb_Exchange_gather_121, xb_Exchange_gather_127, g10, htold, hb, nI_1]
        · have htold := xq_told_no ro (d + 1) z W J (A := 25) (Or.inl rfl) (nI w) (fun v hv q => by
            have : v = w := ((nI_eq (by omega) (by omega)).mp q).symm
            rw [this, a4 _ (by omega), k3, if_neg cm])
          refine ⟨W, some .null, ?_, a2, a3, a4⟩
          conv => lhs; unfold xb_Exchange_gather_36
          simp only [xr_all, xf_all, if_true, if_false, true_or, or_true, eq_self, ite_not, Bool.false_eq_true, ite_self, and_self, true_and, and_true, false_and, and_false, not_true_eq_false, not_false_eq_true, xj_Exchange_gather, xb_Exchange_gather_0, xb_Exchange_gather_32, xb_Exchange_gather_34, xb_Exchange_gather_121, xb_Exchange_gather_127, g10, htold, nI_1]
  obtain ⟨W, u, a1, a2, a3, a4⟩ := step 10 (Nat.le_refl 10)
  refine ⟨W, ?_, a2, a3, a4⟩
  rw [a1]
  have g10 : (10 ≤ nI 10) = True := eq_true (by decide)
  conv => lhs; unfold xb_Exchange_gather_36
  simp only [xr_all, xf_all, if_true, if_false, true_or, or_true, eq_self, ite_not, Bool.false_eq_true, ite_self, and_self, true_and, and_true, false_and, and_false, not_true_eq_false, not_false_eq_true, xj_Exchange_gather, xb_Exchange_gather_0, xb_Exchange_gather_32, xb_Exchange_gather_34, xb_Exchange_gather_121, xb_Exchange_gather_127, g10]
theorem xq_gather_no (ro : xv_Ro) (d : Nat) (z : Nat × Nat) (I : Nat → Nat → Int32) (J : Nat → Nat → Int64) {m : Nat} {hh oo : Nat → Nat} (hA : ox_A I m hh oo) (x : Int32) (h : ¬ ((x &&& (nI m ^^^ -1) = 0) ∧ 2 ≤ vb_ct (vq_N x) 32 ∧ vb_ct (vq_N x) 32 ≤ 5)) : xv_evm ro (d + 3) 195 [.ref 160, .int x, .ref 25] (z, xv_mk I J) = some (some (.int 0), (z, xv_mk (xv_u2 I 160 5 0) J)) := by
  obtain ⟨m1, m2, mw⟩ := hA
  have hto := xq_toldOnes ro d z (xv_u2 I 160 5 0) J (A := 25) (m := m) (Or.inl rfl) m1 (fun w hw => by rw [xu_ne (by omega)]; exact (mw w hw).2.2.1)
  have hle := vb_ct_le (vq_N x) 32
  rw [xe_Exchange_gather]
  by_cases c1 : x &&& (nI m ^^^ -1) = 0
  · by_cases c2 : 2 ≤ vb_ct (vq_N x) 32
    · have c3 : ¬ vb_ct (vq_N x) 32 ≤ 5 := fun q => h ⟨c1, c2, q⟩
      have q2 : (nI (vb_ct (vq_N x) 32) < 2) = False := by (simp (disch := omega) only [vz_all, if_true, if_false, true_or, or_true, eq_self, ite_not, Bool.false_eq_true, ite_self, and_self, true_and, and_true, false_and, and_false, not_true_eq_false, not_false_eq_true, false_or, or_false])
      have q3 : (nI (vb_ct (vq_N x) 32) ≤ 5) = False := by (simp (disch := omega) only [vz_all, if_true, if_false, true_or, or_true, eq_self, ite_not, Bool.false_eq_true, ite_self, and_self, true_and, and_true, false_and, and_false, not_true_eq_false, not_false_eq_true, false_or, or_false])
      simp only [xr_all, xf_all, if_true, if_false, true_or, or_true, eq_self, ite_not, Bool.false_eq_true, ite_self, and_self, true_and, and_true, false_and, and_false, not_true_eq_false, not_false_eq_true, xj_Exchange_gather, xb_Exchange_gather_0, xb_Exchange_gather_32, xb_Exchange_gather_34, xb_Exchange_gather_121, xb_Exchange_gather_127, hto, c1, xq_bitCount, q2, q3]
    · have q2 : (nI (vb_ct (vq_N x) 32) < 2) = True := by (simp (disch := omega) only [vz_all, if_true, if_false, true_or, or_true, eq_self, ite_not, Bool.false_eq_true, ite_self, and_self, true_and, and_true, false_and, and_false, not_true_eq_false, not_false_eq_true, false_or, or_false])
      simp only [xr_all, xf_all, if_true, if_false, true_or, or_true, eq_self, ite_not, Bool.false_eq_true, ite_self, and_self, true_and, and_true, false_and, and_false, not_true_eq_false, not_false_eq_true, xj_Exchange_gather, xb_Exchange_gather_0, xb_Exchange_gather_32, xb_Exchange_gather_34, xb_Exchange_gather_121, xb_Exchange_gather_127, hto, c1, xq_bitCount, q2]
  · simp only [xr_all, xf_all, if_true, if_false, true_or, or_true, eq_self, ite_not, Bool.false_eq_true, ite_self, and_self, true_and, and_true, false_and, and_false, not_true_eq_false, not_false_eq_true, xj_Exchange_gather, xb_Exchange_gather_0, xb_Exchange_gather_32, xb_Exchange_gather_34, xb_Exchange_gather_121, xb_Exchange_gather_127, hto, c1]
theorem xq_settle (ro : xv_Ro) (d : Nat) (z : Nat × Nat) (W : Nat → Nat → Int32) (J : Nat → Nat → Int64) {h o : Nat → Nat} {n : Nat} (hn : n ≤ 5) (h5 : W 160 5 = nI n) (hho : ∀ j, j < n → h j ≤ 9 ∧ o j ≤ 1188 ∧ W 162 j = nI (h j) ∧ W 163 j = nI (o j)) : ∃ W1 : Nat → Nat → Int32, xv_evm ro (d + n + 2) 196 [.ref 160] (z, xv_mk W J) = some (none, (z, xv_mk W1 J)) ∧ ox_R W1 n (ox_G h o n n 0 0 0 (fun _ => 0) (0, fun _ => 0)) ∧ (∀ a, a ≠ 160 → a ≠ 164 → a ≠ 165 → W1 a = W a) ∧ ∀ j, j ≠ 6 → W1 160 j = W 160 j := by
  obtain ⟨W1, a1, a2, a3, a4, -⟩ := xq_give ro d z J hn (fun j hj => ⟨(hho j hj).1, (hho j hj).2.1⟩) n 0 0 0 (fun _ => 0) (0, fun _ => 0) (xv_u2 W 160 6 (-1)) (by omega) (by omega) (by omega) (by rw [xu_ne2 (by omega)]; exact h5) (fun j hj => by rw [xu_ne (by omega), xu_ne (by omega)]; exact (hho j hj).2.2) (fun j hj => by omega) ⟨by rw [xu_eq]; rfl, by omega, fun q => by omega⟩
  refine ⟨W1, ?_, a2, fun a q1 q2 q3 => by rw [a3 a q1 q2 q3, xu_ne q1], fun j hj => by rw [a4 j hj, xu_ne2 (by omega)]⟩
  rw [xe_Exchange_settle]
  rw [show nI 0 = (0 : Int32) from rfl] at a1
  simp only [xr_all, xf_all, if_true, if_false, true_or, or_true, eq_self, ite_not, Bool.false_eq_true, ite_self, and_self, true_and, and_true, false_and, and_false, not_true_eq_false, not_false_eq_true, xj_Exchange_settle, xb_Exchange_settle_0, a1]
