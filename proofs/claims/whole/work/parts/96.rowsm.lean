/-! onions for witnesses: the model's rows -/
def ox_pd (row : Nat → Nat) : Nat → Nat → Bool
  | 0, _ => true
  | m + 1, seen => if seen.testBit (row m) = true then false else ox_pd row m (seen ||| 2 ^ row m)
theorem ox_pds (row : Nat → Nat) (m seen : Nat) : ox_pd row (m + 1) seen = if seen.testBit (row m) = true then false else ox_pd row m (seen ||| 2 ^ row m) := rfl
theorem ox_pdi (row : Nat → Nat) : ∀ m seen, ox_pd row m seen = true ↔ (ox_inj row m ∧ ∀ a, a < m → ¬ seen.testBit (row a) = true) := by
  intro m
  induction m with
  | zero => intro seen; exact ⟨fun _ => ⟨fun a b h1 h2 => by omega, fun a ha => by omega⟩, fun _ => rfl⟩
  | succ m ih =>
    intro seen
    rw [ox_pds]
    have hor : ∀ a, (seen ||| 2 ^ row m).testBit (row a) = true ↔ (seen.testBit (row a) = true ∨ row m = row a) := by
      intro a
      rw [Nat.testBit_or, Bool.or_eq_true, Nat.testBit_two_pow, decide_eq_true_eq]
    by_cases c : seen.testBit (row m) = true
    · rw [if_pos c]
      constructor
      · intro q; cases q
      · rintro ⟨-, q⟩; exact absurd c (q m (by omega))
    · rw [if_neg c, ih]
      constructor
      · rintro ⟨h1, h2⟩
        refine ⟨fun a b g1 g2 => ?_, fun a ha => ?_⟩
        · by_cases e : b = m
          · rw [e]
            intro q
            exact h2 a (by omega) ((hor a).mpr (Or.inr q.symm))
          · exact h1 a b g1 (by omega)
        · by_cases e : a = m
          · rw [e]; exact c
          · intro q; exact h2 a (by omega) ((hor a).mpr (Or.inl q))
      · rintro ⟨h1, h2⟩
        refine ⟨fun a b g1 g2 => h1 a b g1 (by omega), fun a ha q => ?_⟩
        rcases (hor a).mp q with q | q
        · exact h2 a (by omega) q
        · exact h1 a m ha (by omega) q.symm
def ox_pm (n : Nat) (row : Nat → Nat) : Bool := ox_pd row n 0
theorem ox_pmi (n : Nat) (row : Nat → Nat) : ox_pm n row = true ↔ ox_inj row n := by
  unfold ox_pm
  rw [ox_pdi]
  exact ⟨fun h => h.1, fun h => ⟨h, fun a _ => by rw [Nat.zero_testBit]; decide⟩⟩
theorem xq_readsRow (ro : xv_Ro) (d : Nat) (z : Nat × Nat) (M : Nat → Nat → Int32) (J : Nat → Nat → Int64) {n code : Nat} (hn1 : 1 ≤ n) (hn : n ≤ 5) (hc : code < 2 ^ 30) : ∃ M1 : Nat → Nat → Int32, xv_evm ro (d + 1) 135 [.ref 167, .int (nI code), .int (nI n)] (z, xv_mk M J) = some (some (.int (if ox_pm n (ox_r n code n) = true then 1 else 0)), (z, xv_mk M1 J)) ∧ (∀ a, a ≠ 198 → M1 a = M a) ∧ (ox_pm n (ox_r n code n) = true → ∀ j, j < n → M1 198 j = nI (ox_r n code n j)) := by
  have hrow : ∀ j, ox_r n code n j < n := by
    intro j
    unfold ox_r
    by_cases c : j < n
    · rw [if_pos c]; exact Nat.mod_lt _ (by omega)
    · rw [if_neg c]; omega
  have loop : ∀ (m seen : Nat) (M : Nat → Nat → Int32) (u : Int32), m ≤ n → seen < 32 → (∀ j, m ≤ j → j < n → M 198 j = nI (ox_r n code n j)) → ∃ M1 : Nat → Nat → Int32, xv_ev ro (d + 1) xm_Mo_readsRow xb_Mo_readsRow_10 [some (.ref 167), some (.int u), some (.int (nI n)), some (.int (nI (code / n ^ (n - m)))), some (.int (nI seen)), some (.int (nI m - 1))] [] (z, xv_mk M J) = some (some (.int (if ox_pd (ox_r n code n) m seen = true then 1 else 0)), (z, xv_mk M1 J)) ∧ (∀ a, a ≠ 198 → M1 a = M a) ∧ (ox_pd (ox_r n code n) m seen = true → ∀ j, j < n → M1 198 j = nI (ox_r n code n j)) := by
    intro m
    induction m with
    | zero =>
      intro seen M u hm hs hM
      refine ⟨M, ?_, fun _ _ => rfl, fun _ j hj => hM j (Nat.zero_le j) hj⟩
      rw [if_pos (show ox_pd (ox_r n code n) 0 seen = true from rfl)]
      have g1 : (nI 0 - 1 < 0) = True := eq_true (by decide)
      conv => lhs; unfold xb_Mo_readsRow_10
      simp only [xr_all, xf_all, if_true, if_false, true_or, or_true, eq_self, ite_not, Bool.false_eq_true, ite_self, and_self, true_and, and_true, false_and, and_false, not_true_eq_false, not_false_eq_true, xj_Mo_readsRow, xb_Mo_readsRow_0, xb_Mo_readsRow_47, xb_Mo_readsRow_67, g1]
    | succ m ih =>
      intro seen M u hm hs hM
      have hdig : ox_r n code n m = code / n ^ (n - (m + 1)) % n := by
        unfold ox_r
        rw [if_pos (by omega), show n - 1 - m = n - (m + 1) by omega]
      have hL : code / n ^ (n - (m + 1)) ≤ code := Nat.div_le_self _ _
      have hnext : code / n ^ (n - (m + 1)) / n = code / n ^ (n - m) := by
        rw [Nat.div_div_eq_div_mul, ← Nat.pow_succ, show (n - (m + 1)).succ = n - m by omega]
      have hr := hrow m
      rw [nI_pred, ox_pds]
      have g1 : (nI m < 0) = False := by (simp (disch := omega) only [vz_all, if_true, if_false, true_or, or_true, eq_self, ite_not, Bool.false_eq_true, ite_self, and_self, true_and, and_true, false_and, and_false, not_true_eq_false, not_false_eq_true, false_or, or_false])
      have g2 : xv_inB (nI m) 5 = true := by (simp (disch := omega) only [vz_all, if_true, if_false, true_or, or_true, eq_self, ite_not, Bool.false_eq_true, ite_self, and_self, true_and, and_true, false_and, and_false, not_true_eq_false, not_false_eq_true, false_or, or_false])
      have g3 : (nI n = 0) = False := by (simp (disch := omega) only [vz_all, if_true, if_false, true_or, or_true, eq_self, ite_not, Bool.false_eq_true, ite_self, and_self, true_and, and_true, false_and, and_false, not_true_eq_false, not_false_eq_true, false_or, or_false])
      have cm := nI_clamp (show m < 2 ^ 31 by omega)
      have e1 : nI (code / n ^ (n - (m + 1))) - nI (code / n ^ (n - (m + 1))) / nI n * nI n = nI (ox_r n code n m) := by rw [hdig]; exact pk_rem (by omega) (by omega) (by omega)
      have e2 : nI (code / n ^ (n - (m + 1))) / nI n = nI (code / n ^ (n - m)) := by rw [← hnext]; exact pk_div (by omega) (by omega) (by omega)
      have e1' := e1
      rw [e2] at e1'
      have hhas := xq_Mo_has ro d (z, xv_mk (xv_u2 M 198 m (nI (ox_r n code n m))) J) (m := seen) (s := ox_r n code n m) (by omega) (by omega)
      have lS := nI_l (show seen < 2 ^ 31 by omega)
      have e3 : nI m + -1 = nI m - 1 := (Int32.sub_eq_add_neg _ _).symm
      by_cases c : seen.testBit (ox_r n code n m) = true
      · rw [if_pos c, if_neg (by decide)]
        rw [vz_b1 c] at hhas
        have z1 : ((1 : Int32) = 0) = False := eq_false (by decide)
        refine ⟨xv_u2 M 198 m (nI (ox_r n code n m)), ?_, fun a ha => xu_ne ha, fun q => by cases q⟩
        conv => lhs; unfold xb_Mo_readsRow_10
        simp only [xr_all, xf_all, if_true, if_false, true_or, or_true, eq_self, ite_not, Bool.false_eq_true, ite_self, and_self, true_and, and_true, false_and, and_false, not_true_eq_false, not_false_eq_true, xj_Mo_readsRow, xb_Mo_readsRow_0, xb_Mo_readsRow_47, xb_Mo_readsRow_67, g1, g2, g3, cm, e1, e1', e2, xu_eq, lS, hhas, z1]
      · rw [if_neg c]
        rw [vz_b0 c] at hhas
        have hor : seen ||| 2 ^ ox_r n code n m < 32 := by
          have h1 : 2 ^ ox_r n code n m < 2 ^ 5 := Nat.pow_lt_pow_right (by omega) (by omega)
          exact Nat.or_lt_two_pow (n := 5) hs h1
        have eor : nI seen ||| ((1 : Int32) <<< (nI (ox_r n code n m) &&& 31)) = nI (seen ||| 2 ^ ox_r n code n m) := by rw [vh_sh _ (by omega), vb_nor]
        obtain ⟨M1, b1, b2, b3⟩ := ih (seen ||| 2 ^ ox_r n code n m) (xv_u2 M 198 m (nI (ox_r n code n m))) u (by omega) hor (fun j h1 h2 => by
          by_cases e : j = m
          · rw [e, xu_eq]
          · rw [xu_ne2 (by omega)]; exact hM j (by omega) h2)
        refine ⟨M1, ?_, fun a ha => by rw [b2 a ha, xu_ne ha], b3⟩
        rw [← b1]
        conv => lhs; unfold xb_Mo_readsRow_10
        simp only [xr_all, xf_all, if_true, if_false, true_or, or_true, eq_self, ite_not, Bool.false_eq_true, ite_self, and_self, true_and, and_true, false_and, and_false, not_true_eq_false, not_false_eq_true, xj_Mo_readsRow, xb_Mo_readsRow_0, xb_Mo_readsRow_47, xb_Mo_readsRow_67, g1, g2, g3, cm, e1, e1', e2, xu_eq, lS, hhas, eor, e3]
  obtain ⟨M1, b1, b2, b3⟩ := loop n 0 M (nI code) (Nat.le_refl n) (by omega) (fun j h1 h2 => by omega)
  refine ⟨M1, ?_, b2, b3⟩
  rw [Nat.sub_self, Nat.pow_zero, Nat.div_one, show nI 0 = (0 : Int32) from rfl] at b1
  rw [xe_Mo_readsRow]
  simp only [xr_all, xf_all, if_true, if_false, true_or, or_true, eq_self, ite_not, Bool.false_eq_true, ite_self, and_self, true_and, and_true, false_and, and_false, not_true_eq_false, not_false_eq_true, xj_Mo_readsRow, xb_Mo_readsRow_0, xb_Mo_readsRow_47, xb_Mo_readsRow_67]
  exact b1
theorem xq_worth (ro : xv_Ro) (d : Nat) (z : Nat × Nat) (M : Nat → Nat → Int32) (J : Nat → Nat → Int64) {n : Nat} {mem row hh oo : Nat → Nat} (hn : n ≤ 5) (hm : ∀ j, j < n → mem j < 10 ∧ M 197 j = nI (mem j)) (hr : ∀ j, j < n → row j < n ∧ M 198 j = nI (row j)) (hw : ∀ w, w < 10 → hh w ≤ 9 ∧ oo w ≤ 1188 ∧ M 168 (130 + w) = nI (hh w) ∧ ∃ l : Nat, l ≤ 12 ∧ M 168 (120 + w) = nI l ∧ vs_sum (fun i => M 168 (12 * w + i)) l = nI (oo w)) : xv_evm ro (d + 2) 136 [.ref 167, .int (nI n)] (z, xv_mk M J) = some (some (.int (nI (ox_w (fun j => hh (mem j)) (fun j => oo (mem j)) row n))), (z, xv_mk M J)) := by
  rw [xe_Mo_worthOfRow]
  simp only [xr_all, xf_all, if_true, if_false, true_or, or_true, eq_self, ite_not, Bool.false_eq_true, ite_self, and_self, true_and, and_true, false_and, and_false, not_true_eq_false, not_false_eq_true, xj_Mo_worthOfRow, xb_Mo_worthOfRow_0, xb_Mo_worthOfRow_49]
  have hl := vz_iter (fun i => xv_ev ro (d + 2) xm_Mo_worthOfRow xb_Mo_worthOfRow_4 [some (.ref 167), some (.int (nI n)), some (.int (nI (ox_w (fun j => hh (mem j)) (fun j => oo (mem j)) row i))), some (.int (nI i))] [] (z, xv_mk M J)) n (fun i hi => by
    have hs : ox_w (fun j => hh (mem j)) (fun j => oo (mem j)) row (i + 1) = ox_w (fun j => hh (mem j)) (fun j => oo (mem j)) row i + hh (mem i) * oo (mem (row i)) := rfl
    obtain ⟨m1, m2⟩ := hm i hi
    obtain ⟨r1, r2⟩ := hr i hi
    obtain ⟨m3, m4⟩ := hm (row i) r1
    obtain ⟨-, -, w3, -⟩ := hw (mem i) m1
    obtain ⟨-, -, -, l, l1, l2, l3⟩ := hw (mem (row i)) m3
    have g1 : (nI n ≤ nI i) = False := by (simp (disch := omega) only [vz_all, if_true, if_false, true_or, or_true, eq_self, ite_not, Bool.false_eq_true, ite_self, and_self, true_and, and_true, false_and, and_false, not_true_eq_false, not_false_eq_true, false_or, or_false])
    have g2 : xv_inB (nI i) 5 = true := by (simp (disch := omega) only [vz_all, if_true, if_false, true_or, or_true, eq_self, ite_not, Bool.false_eq_true, ite_self, and_self, true_and, and_true, false_and, and_false, not_true_eq_false, not_false_eq_true, false_or, or_false])
    have g3 : xv_inB (nI (row i)) 5 = true := by (simp (disch := omega) only [vz_all, if_true, if_false, true_or, or_true, eq_self, ite_not, Bool.false_eq_true, ite_self, and_self, true_and, and_true, false_and, and_false, not_true_eq_false, not_false_eq_true, false_or, or_false])
    have e1 : 130 + nI (mem i) = nI (130 + mem i) := by (simp (disch := omega) only [vz_all, if_true, if_false, true_or, or_true, eq_self, ite_not, Bool.false_eq_true, ite_self, and_self, true_and, and_true, false_and, and_false, not_true_eq_false, not_false_eq_true, false_or, or_false])
    have g4 : xv_inB (nI (130 + mem i)) 304 = true := by (simp (disch := omega) only [vz_all, if_true, if_false, true_or, or_true, eq_self, ite_not, Bool.false_eq_true, ite_self, and_self, true_and, and_true, false_and, and_false, not_true_eq_false, not_false_eq_true, false_or, or_false])
    have hto := xq_together ro d z M J m3 l2 l1
    rw [l3] at hto
    rw [hs]
    conv => lhs; unfold xb_Mo_worthOfRow_4
    simp only [xr_all, xf_all, if_true, if_false, true_or, or_true, eq_self, ite_not, Bool.false_eq_true, ite_self, and_self, true_and, and_true, false_and, and_false, not_true_eq_false, not_false_eq_true, xj_Mo_worthOfRow, xb_Mo_worthOfRow_0, xb_Mo_worthOfRow_49, g1, g2, g3, nI_clamp (show i < 2 ^ 31 by omega), nI_clamp (show row i < 2 ^ 31 by omega), m2, r2, m4, e1, g4, nI_clamp (show 130 + mem i < 2 ^ 31 by omega), w3, hto, pk_mul, nI_add, nI_1])
  have e0 : ox_w (fun j => hh (mem j)) (fun j => oo (mem j)) row 0 = 0 := rfl
  rw [e0, show nI 0 = (0 : Int32) from rfl] at hl
  rw [hl]
  have g1 : (nI n ≤ nI n) = True := by (simp (disch := omega) only [vz_all, if_true, if_false, true_or, or_true, eq_self, ite_not, Bool.false_eq_true, ite_self, and_self, true_and, and_true, false_and, and_false, not_true_eq_false, not_false_eq_true, false_or, or_false])
  conv => lhs; unfold xb_Mo_worthOfRow_4
  simp only [xr_all, xf_all, if_true, if_false, true_or, or_true, eq_self, ite_not, Bool.false_eq_true, ite_self, and_self, true_and, and_true, false_and, and_false, not_true_eq_false, not_false_eq_true, xj_Mo_worthOfRow, xb_Mo_worthOfRow_0, xb_Mo_worthOfRow_49, g1]
def ox_st (n : Nat) (h o : Nat → Nat) (q : Nat) (s : ox_S) : ox_S := if ox_pm n (ox_r n q n) = true then ox_n s (ox_w h o (ox_r n q n) n) (ox_r n q n) else s
theorem ox_w_le {h o row : Nat → Nat} {n : Nat} (hr : ∀ j, row j < n) (hh : ∀ j, j < n → h j ≤ 9 ∧ o j ≤ 1188) : ∀ i, i ≤ n → ox_w h o row i ≤ i * 10692 := by
  intro i
  induction i with
  | zero => intro _; exact Nat.zero_le _
  | succ i ih =>
    intro hi
    have h1 := ih (by omega)
    have h2 : h i * o (row i) ≤ 9 * 1188 := Nat.mul_le_mul (hh i (by omega)).1 (hh (row i) (hr i)).2
    show ox_w h o row i + h i * o (row i) ≤ (i + 1) * 10692
    rw [Nat.succ_mul]; omega
theorem xl_codes (ro : xv_Ro) (d : Nat) (z : Nat × Nat) (J : Nat → Nat → Int64) {n : Nat} {mem hh oo : Nat → Nat} (x1 x2 x4 : Int32) (hn1 : 1 ≤ n) (hn : n ≤ 5) (hmem : ∀ j, j < n → mem j < 10) : ∀ (k c : Nat) (st : ox_S) (M : Nat → Nat → Int32) (u : Option Value), c + k = n ^ n → (∀ j, j < n → M 197 j = nI (mem j)) → (∀ w, w < 10 → hh w ≤ 9 ∧ oo w ≤ 1188 ∧ M 168 (130 + w) = nI (hh w) ∧ ∃ l : Nat, l ≤ 12 ∧ M 168 (120 + w) = nI l ∧ vs_sum (fun i => M 168 (12 * w + i)) l = nI (oo w)) → st.1 ≤ 100000 → (1 ≤ st.1 → ∀ j, j < n → M 199 j = nI (mem (st.2 j))) → ∃ (M1 : Nat → Nat → Int32) (v : Option Value), xv_ev ro (d + 3) xm_Mo_onionsFor xb_Mo_onionsFor_153 [some (.ref 167), some (.int x1), some (.int x2), some (.int (nI n)), some (.int x4), some (.int (nI (n ^ n))), some (.int (nI st.1 - 1)), some (.int (nI c)), u] [] (z, xv_mk M J) = xv_ev ro (d + 3) xm_Mo_onionsFor xb_Mo_onionsFor_153 [some (.ref 167), some (.int x1), some (.int x2), some (.int (nI n)), some (.int x4), some (.int (nI (n ^ n))), some (.int (nI (ox_l (ox_st n (fun j => hh (mem j)) (fun j => oo (mem j))) k c st).1 - 1)), some (.int (nI (n ^ n))), v] [] (z, xv_mk M1 J) ∧ (∀ a, a ≠ 198 → a ≠ 199 → M1 a = M a) ∧ (1 ≤ (ox_l (ox_st n (fun j => hh (mem j)) (fun j => oo (mem j))) k c st).1 → ∀ j, j < n → M1 199 j = nI (mem ((ox_l (ox_st n (fun j => hh (mem j)) (fun j => oo (mem j))) k c st).2 j))) := by
  have hnn : n ^ n ≤ 3125 := by
    have : n = 1 ∨ n = 2 ∨ n = 3 ∨ n = 4 ∨ n = 5 := by omega
    rcases this with rfl | rfl | rfl | rfl | rfl <;> decide
  intro k
  induction k with
  | zero =>
    intro c st M u hc h197 hw hst hbest
    obtain rfl : c = n ^ n := by omega
    exact ⟨M, u, rfl, fun _ _ _ => rfl, hbest⟩
  | succ k ih =>
    intro c st M u hc h197 hw hst hbest
    rw [ox_ls]
    have hrow : ∀ j, ox_r n c n j < n := by
      intro j
      unfold ox_r
      by_cases cc : j < n
      · rw [if_pos cc]; exact Nat.mod_lt _ (by omega)
      · rw [if_neg cc]; omega
    have g1 : (nI (n ^ n) ≤ nI c) = False := by (simp (disch := omega) only [vz_all, if_true, if_false, true_or, or_true, eq_self, ite_not, Bool.false_eq_true, ite_self, and_self, true_and, and_true, false_and, and_false, not_true_eq_false, not_false_eq_true, false_or, or_false])
    obtain ⟨M1, b1, b2, b3⟩ := xq_readsRow ro (d + 1) z M J (n := n) (code := c) hn1 hn (by omega)
    have w1 : ∀ w, w < 10 → hh w ≤ 9 ∧ oo w ≤ 1188 ∧ M1 168 (130 + w) = nI (hh w) ∧ ∃ l : Nat, l ≤ 12 ∧ M1 168 (120 + w) = nI l ∧ vs_sum (fun i => M1 168 (12 * w + i)) l = nI (oo w) := by rw [b2 168 (by omega)]; exact hw
    by_cases hp : ox_pm n (ox_r n c n) = true
    · rw [if_pos hp] at b1
      have b3 := b3 hp
      have e1 : ox_st n (fun j => hh (mem j)) (fun j => oo (mem j)) c st = ox_n st (ox_w (fun j => hh (mem j)) (fun j => oo (mem j)) (ox_r n c n) n) (ox_r n c n) := if_pos hp
      rw [e1]
      have hwo := xq_worth ro d z M1 J (n := n) (mem := mem) (row := ox_r n c n) (hh := hh) (oo := oo) hn (fun j hj => ⟨hmem j hj, by rw [b2 197 (by omega)]; exact h197 j hj⟩) (fun j hj => ⟨hrow j, b3 j hj⟩) w1
      have hwl := ox_w_le (h := fun j => hh (mem j)) (o := fun j => oo (mem j)) (row := ox_r n c n) (n := n) hrow (fun j hj => ⟨(hw (mem j) (hmem j hj)).1, (hw (mem j) (hmem j hj)).2.1⟩) n (Nat.le_refl n)
      have hnl : n * 10692 ≤ 5 * 10692 := Nat.mul_le_mul_right _ hn
      have hcm : (nI (ox_w (fun j => hh (mem j)) (fun j => oo (mem j)) (ox_r n c n) n) ≤ nI st.1 - 1) = (ox_w (fun j => hh (mem j)) (fun j => oo (mem j)) (ox_r n c n) n < st.1) := ox_c (by omega) (by omega)
      have z1 : ((1 : Int32) = 0) = False := eq_false (by decide)
      generalize ox_w (fun j => hh (mem j)) (fun j => oo (mem j)) (ox_r n c n) n = S at *
      by_cases hs : st.1 ≤ S
      · have e2 : ox_n st S (ox_r n c n) = (S + 1, ox_r n c n) := if_pos hs
        rw [e2]
        have g3 := hcm.trans (eq_false (show ¬ S < st.1 by omega))
        have g3' : (nI st.1 - 1 < nI S) = True := eq_true (Int32.not_le.mp (fun q => by rw [g3] at q; exact q))
        have hl := vz_iter (fun i => xv_ev ro (d + 3) xm_Mo_onionsFor xb_Mo_onionsFor_193 [some (.ref 167), some (.int x1), some (.int x2), some (.int (nI n)), some (.int x4), some (.int (nI (n ^ n))), some (.int (nI S)), some (.int (nI c)), some (.int (nI i))] [] (z, xv_mk (vz_w M1 199 (fun j => nI (mem (ox_r n c n j))) i) J)) n (fun i hi => by
          have q1 : (nI n ≤ nI i) = False := by (simp (disch := omega) only [vz_all, if_true, if_false, true_or, or_true, eq_self, ite_not, Bool.false_eq_true, ite_self, and_self, true_and, and_true, false_and, and_false, not_true_eq_false, not_false_eq_true, false_or, or_false])
          have q2 : xv_inB (nI i) 5 = true := by (simp (disch := omega) only [vz_all, if_true, if_false, true_or, or_true, eq_self, ite_not, Bool.false_eq_true, ite_self, and_self, true_and, and_true, false_and, and_false, not_true_eq_false, not_false_eq_true, false_or, or_false])
          have hri := hrow i
          have q3 : xv_inB (nI (ox_r n c n i)) 5 = true := by (simp (disch := omega) only [vz_all, if_true, if_false, true_or, or_true, eq_self, ite_not, Bool.false_eq_true, ite_self, and_self, true_and, and_true, false_and, and_false, not_true_eq_false, not_false_eq_true, false_or, or_false])
          have e3 : vz_w M1 199 (fun j => nI (mem (ox_r n c n j))) i 198 i = nI (ox_r n c n i) := by rw [vz_wo _ _ _ (by omega)]; exact b3 i hi
          have e4 : vz_w M1 199 (fun j => nI (mem (ox_r n c n j))) i 197 (ox_r n c n i) = nI (mem (ox_r n c n i)) := by rw [vz_wo _ _ _ (by omega), b2 197 (by omega)]; exact h197 _ hri
          have e5 := vz_ws M1 199 (fun j => nI (mem (ox_r n c n j))) i
          conv => lhs; unfold xb_Mo_onionsFor_193
          simp only [xr_all, xf_all, if_true, if_false, true_or, or_true, eq_self, ite_not, Bool.false_eq_true, ite_self, and_self, true_and, and_true, false_and, and_false, not_true_eq_false, not_false_eq_true, xj_Mo_onionsFor, xb_Mo_onionsFor_0, xb_Mo_onionsFor_39, xb_Mo_onionsFor_41, xb_Mo_onionsFor_66, xb_Mo_onionsFor_68, xb_Mo_onionsFor_99, xb_Mo_onionsFor_108, xb_Mo_onionsFor_120, xb_Mo_onionsFor_126, xb_Mo_onionsFor_147, xb_Mo_onionsFor_183, xb_Mo_onionsFor_224, xb_Mo_onionsFor_230, xb_Mo_onionsFor_241, xb_Mo_onionsFor_248, q1, q2, q3, nI_clamp (show i < 2 ^ 31 by omega), nI_clamp (show ox_r n c n i < 2 ^ 31 by omega), e3, e4, e5, nI_1])
        rw [vz_w0, show nI 0 = (0 : Int32) from rfl] at hl
        obtain ⟨M2, v, c1, c2, c3⟩ := ih (c + 1) (S + 1, ox_r n c n) (vz_w M1 199 (fun j => nI (mem (ox_r n c n j))) n) (some (.int (nI n))) (by omega) (fun j hj => by rw [vz_wo _ _ _ (by omega), b2 197 (by omega)]; exact h197 j hj) (by rw [vz_wo _ _ _ (by omega)]; exact w1) (by show S + 1 ≤ 100000; omega) (fun _ j hj => vz_wi _ _ _ hj)
        refine ⟨M2, v, ?_, fun a q1 q2 => by rw [c2 a q1 q2, vz_wo _ _ _ q2, b2 a q1], c3⟩
        rw [← c1]
        have q1 : (nI n ≤ nI n) = True := by (simp (disch := omega) only [vz_all, if_true, if_false, true_or, or_true, eq_self, ite_not, Bool.false_eq_true, ite_self, and_self, true_and, and_true, false_and, and_false, not_true_eq_false, not_false_eq_true, false_or, or_false])
        have hend : xv_ev ro (d + 3) xm_Mo_onionsFor xb_Mo_onionsFor_193 [some (.ref 167), some (.int x1), some (.int x2), some (.int (nI n)), some (.int x4), some (.int (nI (n ^ n))), some (.int (nI S)), some (.int (nI c)), some (.int (nI n))] [] (z, xv_mk (vz_w M1 199 (fun j => nI (mem (ox_r n c n j))) n) J) = xv_ev ro (d + 3) xm_Mo_onionsFor xb_Mo_onionsFor_153 [some (.ref 167), some (.int x1), some (.int x2), some (.int (nI n)), some (.int x4), some (.int (nI (n ^ n))), some (.int (nI S)), some (.int (nI (c + 1))), some (.int (nI n))] [] (z, xv_mk (vz_w M1 199 (fun j => nI (mem (ox_r n c n j))) n) J) := by
          conv => lhs; unfold xb_Mo_onionsFor_193
          simp only [xr_all, xf_all, if_true, if_false, true_or, or_true, eq_self, ite_not, Bool.false_eq_true, ite_self, and_self, true_and, and_true, false_and, and_false, not_true_eq_false, not_false_eq_true, xj_Mo_onionsFor, xb_Mo_onionsFor_0, xb_Mo_onionsFor_39, xb_Mo_onionsFor_41, xb_Mo_onionsFor_66, xb_Mo_onionsFor_68, xb_Mo_onionsFor_99, xb_Mo_onionsFor_108, xb_Mo_onionsFor_120, xb_Mo_onionsFor_126, xb_Mo_onionsFor_147, xb_Mo_onionsFor_183, xb_Mo_onionsFor_224, xb_Mo_onionsFor_230, xb_Mo_onionsFor_241, xb_Mo_onionsFor_248, q1, nI_1]
        rw [hend] at hl
        have eS : nI (S + 1) - 1 = nI S := nI_pred S
        conv => lhs; unfold xb_Mo_onionsFor_153
        simp only [xr_all, xf_all, if_true, if_false, true_or, or_true, eq_self, ite_not, Bool.false_eq_true, ite_self, and_self, true_and, and_true, false_and, and_false, not_true_eq_false, not_false_eq_true, xj_Mo_onionsFor, xb_Mo_onionsFor_0, xb_Mo_onionsFor_39, xb_Mo_onionsFor_41, xb_Mo_onionsFor_66, xb_Mo_onionsFor_68, xb_Mo_onionsFor_99, xb_Mo_onionsFor_108, xb_Mo_onionsFor_120, xb_Mo_onionsFor_126, xb_Mo_onionsFor_147, xb_Mo_onionsFor_183, xb_Mo_onionsFor_224, xb_Mo_onionsFor_230, xb_Mo_onionsFor_241, xb_Mo_onionsFor_248, g1, b1, z1, hwo, g3, g3', hl, eS]
      · have e2 : ox_n st S (ox_r n c n) = st := if_neg hs
        rw [e2]
        have g3 := hcm.trans (eq_true (show S < st.1 by omega))
        have g3' : (nI st.1 - 1 < nI S) = False := eq_false (fun q => absurd (g3.mpr trivial) (Int32.not_le.mpr q))
        obtain ⟨M2, v, c1, c2, c3⟩ := ih (c + 1) st M1 u (by omega) (fun j hj => by rw [b2 197 (by omega)]; exact h197 j hj) w1 hst (fun q j hj => by rw [b2 199 (by omega)]; exact hbest q j hj)
        refine ⟨M2, v, ?_, fun a q1 q2 => by rw [c2 a q1 q2, b2 a q1], c3⟩
        rw [← c1]
        conv => lhs; unfold xb_Mo_onionsFor_153
        simp only [xr_all, xf_all, if_true, if_false, true_or, or_true, eq_self, ite_not, Bool.false_eq_true, ite_self, and_self, true_and, and_true, false_and, and_false, not_true_eq_false, not_false_eq_true, xj_Mo_onionsFor, xb_Mo_onionsFor_0, xb_Mo_onionsFor_39, xb_Mo_onionsFor_41, xb_Mo_onionsFor_66, xb_Mo_onionsFor_68, xb_Mo_onionsFor_99, xb_Mo_onionsFor_108, xb_Mo_onionsFor_120, xb_Mo_onionsFor_126, xb_Mo_onionsFor_147, xb_Mo_onionsFor_183, xb_Mo_onionsFor_224, xb_Mo_onionsFor_230, xb_Mo_onionsFor_241, xb_Mo_onionsFor_248, g1, b1, z1, hwo, g3, g3', nI_1]
    · rw [if_neg hp] at b1
      have e1 : ox_st n (fun j => hh (mem j)) (fun j => oo (mem j)) c st = st := if_neg hp
      rw [e1]
      obtain ⟨M2, v, c1, c2, c3⟩ := ih (c + 1) st M1 u (by omega) (fun j hj => by rw [b2 197 (by omega)]; exact h197 j hj) w1 hst (fun q j hj => by rw [b2 199 (by omega)]; exact hbest q j hj)
      refine ⟨M2, v, ?_, fun a q1 q2 => by rw [c2 a q1 q2, b2 a q1], c3⟩
      rw [← c1]
      conv => lhs; unfold xb_Mo_onionsFor_153
      simp only [xr_all, xf_all, if_true, if_false, true_or, or_true, eq_self, ite_not, Bool.false_eq_true, ite_self, and_self, true_and, and_true, false_and, and_false, not_true_eq_false, not_false_eq_true, xj_Mo_onionsFor, xb_Mo_onionsFor_0, xb_Mo_onionsFor_39, xb_Mo_onionsFor_41, xb_Mo_onionsFor_66, xb_Mo_onionsFor_68, xb_Mo_onionsFor_99, xb_Mo_onionsFor_108, xb_Mo_onionsFor_120, xb_Mo_onionsFor_126, xb_Mo_onionsFor_147, xb_Mo_onionsFor_183, xb_Mo_onionsFor_224, xb_Mo_onionsFor_230, xb_Mo_onionsFor_241, xb_Mo_onionsFor_248, g1, b1, nI_1]
