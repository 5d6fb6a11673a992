/-! onions for witnesses: the class gives -/
theorem ox_c {s m : Nat} (hs : s < 2 ^ 30) (hm : m < 2 ^ 30) : (nI s ≤ nI m - 1) = (s < m) := by
  apply propext
  have e : (nI m - 1).toInt = (m : Int) - 1 := pk_sub_toInt (b := 1) (by omega) (by omega)
  rw [Int32.le_iff_toInt_le, e, nI_toInt (by omega)]
  omega
def ox_R (W : Nat → Nat → Int32) (n : Nat) (st : ox_S) : Prop := W 160 6 = nI st.1 - 1 ∧ st.1 ≤ 100000 ∧ (1 ≤ st.1 → ∀ j, j < n → W 165 j = nI (st.2 j))
theorem xq_note (ro : xv_Ro) (d : Nat) (z : Nat × Nat) (W : Nat → Nat → Int32) (J : Nat → Nat → Int64) {n sum : Nat} {row : Nat → Nat} {st : ox_S} (hn : n ≤ 5) (hs : sum < 100000) (hr : ∀ j, j < n → W 164 j = nI (row j)) (hR : ox_R W n st) : ∃ W1 : Nat → Nat → Int32, xv_evm ro d 198 [.ref 160, .int (nI sum)] (z, xv_mk W J) = some (none, (z, xv_mk W1 J)) ∧ ox_R W1 n (ox_n st sum row) ∧ (∀ a, a ≠ 160 → a ≠ 165 → W1 a = W a) ∧ ∀ j, j ≠ 6 → W1 160 j = W 160 j := by
  obtain ⟨r1, r2, r3⟩ := hR
  have hc := ox_c (s := sum) (m := st.1) (by omega) (by omega)
  by_cases c : st.1 ≤ sum
  · have e : ox_n st sum row = (sum + 1, row) := if_pos c
    rw [e]
    have g1 := hc.trans (eq_false (show ¬ sum < st.1 by omega))
    have hl := vz_iter (fun i => xv_ev ro d xm_Exchange_note xb_Exchange_note_15 [some (.ref 160), some (.int (nI sum)), some (.int (nI i))] [] (z, xv_mk (vz_w (xv_u2 W 160 6 (nI sum)) 165 (fun j => W 164 j) i) J)) 5 (fun i hi => by
      have q1 : (5 ≤ nI i) = False := by (simp (disch := omega) only [vz_all, if_true, if_false, true_or, or_true, eq_self, ite_not, Bool.false_eq_true, ite_self, and_self, true_and, and_true, false_and, and_false, not_true_eq_false, not_false_eq_true, false_or, or_false])
      have q2 : xv_inB (nI i) 5 = true := by (simp (disch := omega) only [vz_all, if_true, if_false, true_or, or_true, eq_self, ite_not, Bool.false_eq_true, ite_self, and_self, true_and, and_true, false_and, and_false, not_true_eq_false, not_false_eq_true, false_or, or_false])
      have e2 := vz_ws (xv_u2 W 160 6 (nI sum)) 165 (fun j => W 164 j) i
      have e3 : vz_w (xv_u2 W 160 6 (nI sum)) 165 (fun j => W 164 j) i 164 i = W 164 i := by rw [vz_wo _ _ _ (by omega), xu_ne (by omega)]
      conv => lhs; unfold xb_Exchange_note_15
      simp only [xr_all, xf_all, if_true, if_false, true_or, or_true, eq_self, ite_not, Bool.false_eq_true, ite_self, and_self, true_and, and_true, false_and, and_false, not_true_eq_false, not_false_eq_true, xj_Exchange_note, xb_Exchange_note_0, xb_Exchange_note_38, q1, q2, nI_clamp (show i < 2 ^ 31 by omega), e3, e2, nI_1])
    rw [vz_w0, show nI 0 = (0 : Int32) from rfl] at hl
    refine ⟨vz_w (xv_u2 W 160 6 (nI sum)) 165 (fun j => W 164 j) 5, ?_, ⟨?_, by show sum + 1 ≤ 100000; omega, fun _ j hj => ?_⟩, fun a q1 q2 => by rw [vz_wo _ _ _ q2, xu_ne q1], fun j hj => by rw [vz_wo _ _ _ (by omega), xu_ne2 (by omega)]⟩
    · rw [xe_Exchange_note]
      simp only [xr_all, xf_all, if_true, if_false, true_or, or_true, eq_self, ite_not, Bool.false_eq_true, ite_self, and_self, true_and, and_true, false_and, and_false, not_true_eq_false, not_false_eq_true, xj_Exchange_note, xb_Exchange_note_0, xb_Exchange_note_38, r1, g1]
      rw [hl]
      have q1 : (5 ≤ nI 5) = True := eq_true (by decide)
      conv => lhs; unfold xb_Exchange_note_15
      simp only [xr_all, xf_all, if_true, if_false, true_or, or_true, eq_self, ite_not, Bool.false_eq_true, ite_self, and_self, true_and, and_true, false_and, and_false, not_true_eq_false, not_false_eq_true, xj_Exchange_note, xb_Exchange_note_0, xb_Exchange_note_38, q1]
    · rw [vz_wo _ _ _ (by omega), xu_eq]; exact (nI_pred sum).symm
    · rw [vz_wi _ _ _ (by omega)]; exact hr j hj
  · have e : ox_n st sum row = st := if_neg c
    rw [e]
    have g1 := hc.trans (eq_true (show sum < st.1 by omega))
    refine ⟨W, ?_, ⟨r1, r2, r3⟩, fun _ _ _ => rfl, fun _ _ => rfl⟩
    rw [xe_Exchange_note]
    simp only [xr_all, xf_all, if_true, if_false, true_or, or_true, eq_self, ite_not, Bool.false_eq_true, ite_self, and_self, true_and, and_true, false_and, and_false, not_true_eq_false, not_false_eq_true, xj_Exchange_note, xb_Exchange_note_0, xb_Exchange_note_38, r1, g1]
theorem ox_bit0 {tk j : Nat} (ht : tk < 2 ^ 31) (hj : j < 32) : ((nI tk >>> (nI j &&& 31)) &&& 1 = 0) = (¬ tk.testBit j = true) := by
  rw [vb_bit ht hj, vb_tb]
  have h := Nat.mod_two_eq_zero_or_one (tk / 2 ^ j)
  apply propext
  rcases h with h | h
  · rw [h]; exact ⟨fun _ => by omega, fun _ => rfl⟩
  · rw [h]
    constructor
    · intro q; exact absurd q (by decide)
    · intro q; exact absurd rfl q
theorem xq_give (ro : xv_Ro) (d : Nat) (z : Nat × Nat) (J : Nat → Nat → Int64) {h o : Nat → Nat} {n : Nat} (hn : n ≤ 5) (hh : ∀ j, j < n → h j ≤ 9 ∧ o j ≤ 1188) : ∀ (k i tk sum : Nat) (row : Nat → Nat) (st : ox_S) (W : Nat → Nat → Int32), i + k = n → tk < 32 → sum ≤ i * 10692 → W 160 5 = nI n → (∀ j, j < n → W 162 j = nI (h j) ∧ W 163 j = nI (o j)) → (∀ j, j < i → W 164 j = nI (row j)) → ox_R W n st → ∃ W1 : Nat → Nat → Int32, xv_evm ro (d + k + 1) 197 [.ref 160, .int (nI i), .int (nI tk), .int (nI sum)] (z, xv_mk W J) = some (none, (z, xv_mk W1 J)) ∧ ox_R W1 n (ox_G h o n k i tk sum row st) ∧ (∀ a, a ≠ 160 → a ≠ 164 → a ≠ 165 → W1 a = W a) ∧ (∀ j, j ≠ 6 → W1 160 j = W 160 j) ∧ ∀ j, j < i → W1 164 j = nI (row j) := by
  intro k
  induction k with
  | zero =>
    intro i tk sum row st W hi htk hs h5 hho hrow hR
    obtain rfl : i = n := by omega
    have hsl : i * 10692 ≤ 5 * 10692 := Nat.mul_le_mul_right _ hn
    obtain ⟨W1, a1, a2, a3, a4⟩ := xq_note ro d z W J (n := i) (sum := sum) (row := row) (st := st) hn (by omega) hrow hR
    refine ⟨W1, ?_, a2, fun a q1 q2 q3 => a3 a q1 q3, a4, fun j hj => by rw [a3 164 (by omega) (by omega)]; exact hrow j hj⟩
    rw [xe_Exchange_give, Nat.add_zero]
    have g1 : (nI i < 0) = False := by (simp (disch := omega) only [vz_all, if_true, if_false, true_or, or_true, eq_self, ite_not, Bool.false_eq_true, ite_self, and_self, true_and, and_true, false_and, and_false, not_true_eq_false, not_false_eq_true, false_or, or_false])
    have g2 : (nI i ≤ nI i) = True := by (simp (disch := omega) only [vz_all, if_true, if_false, true_or, or_true, eq_self, ite_not, Bool.false_eq_true, ite_self, and_self, true_and, and_true, false_and, and_false, not_true_eq_false, not_false_eq_true, false_or, or_false])
    simp only [xr_all, xf_all, if_true, if_false, true_or, or_true, eq_self, ite_not, Bool.false_eq_true, ite_self, and_self, true_and, and_true, false_and, and_false, not_true_eq_false, not_false_eq_true, xj_Exchange_give, xb_Exchange_give_0, xb_Exchange_give_17, xb_Exchange_give_23, xb_Exchange_give_87, xb_Exchange_give_93, g1, h5, g2, a1]
  | succ k ih =>
    intro i tk sum row st W hi htk hs h5 hho hrow hR
    have inner : ∀ (m j : Nat) (st : ox_S) (W : Nat → Nat → Int32), j + m = n → W 160 5 = nI n → (∀ j, j < n → W 162 j = nI (h j) ∧ W 163 j = nI (o j)) → (∀ j, j < i → W 164 j = nI (row j)) → ox_R W n st → ∃ W1 : Nat → Nat → Int32, xv_ev ro (d + k + 1 + 1) xm_Exchange_give xb_Exchange_give_26 [some (.ref 160), some (.int (nI i)), some (.int (nI tk)), some (.int (nI sum)), some (.int (nI j))] [] (z, xv_mk W J) = some (none, (z, xv_mk W1 J)) ∧ ox_R W1 n (ox_l (ox_f h o n k i tk sum row) m j st) ∧ (∀ a, a ≠ 160 → a ≠ 164 → a ≠ 165 → W1 a = W a) ∧ (∀ j, j ≠ 6 → W1 160 j = W 160 j) ∧ ∀ j, j < i → W1 164 j = nI (row j) := by
      intro m
      induction m with
      | zero =>
        intro j st W hj k5 kho krow kR
        refine ⟨W, ?_, kR, fun _ _ _ _ => rfl, fun _ _ => rfl, krow⟩
        have g2 : (nI n ≤ nI j) = True := by (simp (disch := omega) only [vz_all, if_true, if_false, true_or, or_true, eq_self, ite_not, Bool.false_eq_true, ite_self, and_self, true_and, and_true, false_and, and_false, not_true_eq_false, not_false_eq_true, false_or, or_false])
        conv => lhs; unfold xb_Exchange_give_26
        simp only [xr_all, xf_all, if_true, if_false, true_or, or_true, eq_self, ite_not, Bool.false_eq_true, ite_self, and_self, true_and, and_true, false_and, and_false, not_true_eq_false, not_false_eq_true, xj_Exchange_give, xb_Exchange_give_0, xb_Exchange_give_17, xb_Exchange_give_23, xb_Exchange_give_87, xb_Exchange_give_93, k5, g2]
      | succ m ihm =>
        intro j st W hj k5 kho krow kR
        have g2 : (nI n ≤ nI j) = False := by (simp (disch := omega) only [vz_all, if_true, if_false, true_or, or_true, eq_self, ite_not, Bool.false_eq_true, ite_self, and_self, true_and, and_true, false_and, and_false, not_true_eq_false, not_false_eq_true, false_or, or_false])
        have g3 : (5 ≤ nI j) = False := by (simp (disch := omega) only [vz_all, if_true, if_false, true_or, or_true, eq_self, ite_not, Bool.false_eq_true, ite_self, and_self, true_and, and_true, false_and, and_false, not_true_eq_false, not_false_eq_true, false_or, or_false])
        have g4 := ox_bit0 (tk := tk) (j := j) (by omega) (by omega)
        rw [ox_ls]
        unfold ox_f
        by_cases c : tk.testBit j = true
        · rw [if_pos c]
          have g5 := g4.trans (eq_false (fun q => q c))
          obtain ⟨W1, b1, b2, b3⟩ := ihm (j + 1) st W (by omega) k5 kho krow kR
          refine ⟨W1, ?_, b2, b3⟩
          rw [← b1]
          conv => lhs; unfold xb_Exchange_give_26
          simp only [xr_all, xf_all, if_true, if_false, true_or, or_true, eq_self, ite_not, Bool.false_eq_true, ite_self, and_self, true_and, and_true, false_and, and_false, not_true_eq_false, not_false_eq_true, xj_Exchange_give, xb_Exchange_give_0, xb_Exchange_give_17, xb_Exchange_give_23, xb_Exchange_give_87, xb_Exchange_give_93, k5, g2, g3, g5, nI_1]
        · rw [if_neg c]
          have g5 := g4.trans (eq_true c)
          have g6 : xv_inB (nI i) 5 = true := by (simp (disch := omega) only [vz_all, if_true, if_false, true_or, or_true, eq_self, ite_not, Bool.false_eq_true, ite_self, and_self, true_and, and_true, false_and, and_false, not_true_eq_false, not_false_eq_true, false_or, or_false])
          have g7 : xv_inB (nI j) 5 = true := by (simp (disch := omega) only [vz_all, if_true, if_false, true_or, or_true, eq_self, ite_not, Bool.false_eq_true, ite_self, and_self, true_and, and_true, false_and, and_false, not_true_eq_false, not_false_eq_true, false_or, or_false])
          have ci := nI_clamp (show i < 2 ^ 31 by omega)
          have cj := nI_clamp (show j < 2 ^ 31 by omega)
          have eor : nI tk ||| ((1 : Int32) <<< (nI j &&& 31)) = nI (tk ||| 2 ^ j) := by rw [vh_sh j (by omega), vb_nor]
          have hor : tk ||| 2 ^ j < 32 := by
            have h1 : 2 ^ j < 2 ^ 5 := Nat.pow_lt_pow_right (by omega) (by omega)
            exact Nat.or_lt_two_pow (n := 5) htk h1
          have hhi := (hh i (by omega)).1
          have hoj := (hh j (by omega)).2
          have hmul : h i * o j ≤ 9 * 1188 := Nat.mul_le_mul hhi hoj
          have e162 : xv_u2 W 164 i (nI j) 162 i = nI (h i) := by rw [xu_ne (by omega)]; exact (kho i (by omega)).1
          have e163 : xv_u2 W 164 i (nI j) 163 j = nI (o j) := by rw [xu_ne (by omega)]; exact (kho j (by omega)).2
          obtain ⟨W1, b1, b2, b3, b4, b5⟩ := ih (i + 1) (tk ||| 2 ^ j) (sum + h i * o j) (vx_q row i j) st (xv_u2 W 164 i (nI j)) (by omega) hor (by rw [Nat.succ_mul]; omega) (by rw [xu_ne (by omega)]; exact k5) (fun q hq => by rw [xu_ne (by omega), xu_ne (by omega)]; exact kho q hq) (fun q hq => by
            unfold vx_q
            by_cases e : q = i
            · rw [e, xu_eq, if_pos rfl]
            · rw [xu_ne2 (by omega), if_neg e]; exact krow q (by omega)) ⟨by rw [xu_ne (by omega)]; exact kR.1, kR.2.1, fun q j hj => by rw [xu_ne (by omega)]; exact kR.2.2 q j hj⟩
          obtain ⟨W2, c1, c2, c3, c4, c5⟩ := ihm (j + 1) _ W1 (by omega) (by rw [b4 5 (by omega), xu_ne (by omega)]; exact k5) (fun q hq => by rw [b3 162 (by omega) (by omega) (by omega), b3 163 (by omega) (by omega) (by omega), xu_ne (by omega), xu_ne (by omega)]; exact kho q hq) (fun q hq => by rw [b5 q (by omega)]; unfold vx_q; rw [if_neg (by omega)]) b2
          refine ⟨W2, ?_, c2, fun a q1 q2 q3 => by rw [c3 a q1 q2 q3, b3 a q1 q2 q3, xu_ne q2], fun q hq => by rw [c4 q hq, b4 q hq, xu_ne (by omega)], c5⟩
          rw [← c1]
          conv => lhs; unfold xb_Exchange_give_26
          simp only [xr_all, xf_all, if_true, if_false, true_or, or_true, eq_self, ite_not, Bool.false_eq_true, ite_self, and_self, true_and, and_true, false_and, and_false, not_true_eq_false, not_false_eq_true, xj_Exchange_give, xb_Exchange_give_0, xb_Exchange_give_17, xb_Exchange_give_23, xb_Exchange_give_87, xb_Exchange_give_93, k5, g2, g3, g5, g6, g7, ci, cj, eor, e162, e163, pk_mul, nI_add, nI_1, b1]
    obtain ⟨W1, b1, b2⟩ := inner n 0 st W (by omega) h5 hho hrow hR
    rw [← ox_Gs] at b2
    refine ⟨W1, ?_, b2⟩
    rw [← b1, show nI 0 = (0 : Int32) from rfl, show d + (k + 1) + 1 = d + k + 1 + 1 by omega, xe_Exchange_give]
    have g1 : (nI i < 0) = False := by (simp (disch := omega) only [vz_all, if_true, if_false, true_or, or_true, eq_self, ite_not, Bool.false_eq_true, ite_self, and_self, true_and, and_true, false_and, and_false, not_true_eq_false, not_false_eq_true, false_or, or_false])
    have g2 : (nI n ≤ nI i) = False := by (simp (disch := omega) only [vz_all, if_true, if_false, true_or, or_true, eq_self, ite_not, Bool.false_eq_true, ite_self, and_self, true_and, and_true, false_and, and_false, not_true_eq_false, not_false_eq_true, false_or, or_false])
    have g3 : (nI i < 5) = True := by (simp (disch := omega) only [vz_all, if_true, if_false, true_or, or_true, eq_self, ite_not, Bool.false_eq_true, ite_self, and_self, true_and, and_true, false_and, and_false, not_true_eq_false, not_false_eq_true, false_or, or_false])
    simp only [xr_all, xf_all, if_true, if_false, true_or, or_true, eq_self, ite_not, Bool.false_eq_true, ite_self, and_self, true_and, and_true, false_and, and_false, not_true_eq_false, not_false_eq_true, xj_Exchange_give, xb_Exchange_give_0, xb_Exchange_give_17, xb_Exchange_give_23, xb_Exchange_give_87, xb_Exchange_give_93, g1, h5, g2, g3]
/-- the members: who is the j-th of the set -/
def ox_mem (s : Nat) : Nat → Nat → Nat
  | 0 => fun _ => 0
  | w + 1 => if s.testBit w = true then vx_q (ox_mem s w) (vb_ct s w) w else ox_mem s w
theorem vb_cts (s w : Nat) : vb_ct s (w + 1) = vb_ct s w + (if s.testBit w = true then 1 else 0) := rfl
theorem ox_mem_s (s w : Nat) : ox_mem s (w + 1) = if s.testBit w = true then vx_q (ox_mem s w) (vb_ct s w) w else ox_mem s w := rfl
theorem ox_mem_p (s : Nat) : ∀ w, (∀ j, j < vb_ct s w → ox_mem s w j < w ∧ s.testBit (ox_mem s w j) = true ∧ vb_ct s (ox_mem s w j) = j) ∧ ∀ v, v < w → s.testBit v = true → vb_ct s v < vb_ct s w ∧ ox_mem s w (vb_ct s v) = v := by
  intro w
  induction w with
  | zero => exact ⟨fun j hj => absurd hj (Nat.not_lt_zero j), fun v hv => by omega⟩
  | succ w ih =>
    obtain ⟨h1, h2⟩ := ih
    rw [vb_cts, ox_mem_s]
    by_cases c : s.testBit w = true
    · rw [if_pos c, if_pos c]
      unfold vx_q
      refine ⟨fun j hj => ?_, fun v hv hb => ?_⟩
      · by_cases e : j = vb_ct s w
        · rw [if_pos e]; exact ⟨by omega, c, e.symm⟩
        · rw [if_neg e]
          obtain ⟨a1, a2, a3⟩ := h1 j (by omega)
          exact ⟨by omega, a2, a3⟩
      · by_cases e : v = w
        · rw [e, if_pos rfl]; exact ⟨by omega, rfl⟩
        · obtain ⟨a1, a2⟩ := h2 v (by omega) hb
          rw [if_neg (by omega)]; exact ⟨by omega, a2⟩
    · rw [if_neg c, if_neg c, Nat.add_zero]
      refine ⟨fun j hj => ?_, fun v hv hb => ?_⟩
      · obtain ⟨a1, a2, a3⟩ := h1 j hj
        exact ⟨by omega, a2, a3⟩
      · exact h2 v (by have : v ≠ w := fun e => c (by rw [← e]; exact hb)
                       omega) hb
