/-! PAIR: onionsFor -/
theorem ox_lp {f : Nat → ox_S → ox_S} {N : Nat} {P : ox_S → Prop} (hf : ∀ j s, j < N → P s → P (f j s)) : ∀ (m j : Nat) (st : ox_S), j + m ≤ N → P st → P (ox_l f m j st) := by
  intro m
  induction m with
  | zero => intro _ _ _ h; exact h
  | succ m ih => intro j st hj h; rw [ox_ls]; exact ih (j + 1) _ (by omega) (hf j st (by omega) h)
def ox_ok (n : Nat) (st : ox_S) : Prop := 1 ≤ st.1 → ∀ j, st.2 j < n
theorem ox_nr {n sum : Nat} {row : Nat → Nat} {st : ox_S} (hr : ∀ j, row j < n) (hs : ox_ok n st) : ox_ok n (ox_n st sum row) := by
  unfold ox_n
  by_cases c : st.1 ≤ sum
  · rw [if_pos c]; intro _ j; exact hr j
  · rw [if_neg c]; exact hs
theorem ox_Gr (h o : Nat → Nat) (n : Nat) : ∀ (k i tk sum : Nat) (row : Nat → Nat) (st : ox_S), (∀ j, row j < n) → ox_ok n st → ox_ok n (ox_G h o n k i tk sum row st) := by
  intro k
  induction k with
  | zero => intro i tk sum row st hr hs; exact ox_nr hr hs
  | succ k ih =>
    intro i tk sum row st hr hs
    rw [ox_Gs]
    refine ox_lp (N := n) (P := ox_ok n) (fun j s hj h => ?_) n 0 st (by omega) hs
    unfold ox_f
    by_cases c : tk.testBit j = true
    · rw [if_pos c]; exact h
    · rw [if_neg c]
      refine ih _ _ _ _ _ (fun q => ?_) h
      unfold vx_q
      by_cases e : q = i
      · rw [if_pos e]; exact hj
      · rw [if_neg e]; exact hr q
theorem ox_eq (h o : Nat → Nat) (n : Nat) (st : ox_S) : ox_l (ox_st n h o) (n ^ n) 0 st = ox_G h o n n 0 0 0 (fun _ => 0) st := by
  have h1 := ox_CT (n := n) (ox_pm n) (fun r => ox_w h o r n) n 0 0 st (by omega)
  have h2 := ox_TG (h := h) (o := o) (n := n) (pm := ox_pm n) (ox_pmi n) n 0 0 (ox_r n 0 0) st (by omega) (fun a b _ hb => by omega) (fun j _ => ⟨fun q => absurd (q.symm.trans (Nat.zero_testBit j)) (by decide), fun ⟨a, ha, _⟩ => by omega⟩)
  have e : ox_r n 0 0 = fun _ => 0 := by
    funext j
    unfold ox_r
    rw [if_neg (by omega)]
  rw [Nat.zero_mul] at h1
  rw [e] at h1 h2
  exact h1.trans h2
theorem xq_whoseFor (ro : xv_Ro) (d : Nat) (z : Nat × Nat) (W : Nat → Nat → Int32) (J : Nat → Nat → Int64) {n c q : Nat} {mem r : Nat → Nat} (hn : n ≤ 5) (hc : c < n) (h5 : W 160 5 = nI n) (hm : ∀ j, j < n → mem j < 10 ∧ W 161 j = nI (mem j)) (hr : ∀ j, j < n → r j < n ∧ W 165 j = nI (r j)) (hq : mem c = q) (hne : ∀ j, j < c → mem j ≠ q) : xv_evm ro d 200 [.ref 160, .int (nI q)] (z, xv_mk W J) = some (some (.int (nI (mem (r c)))), (z, xv_mk W J)) := by
  have hq10 : q < 10 := by rw [← hq]; exact (hm c hc).1
  have loop : ∀ k i, i + k = c → xv_ev ro d xm_Exchange_whoseFor xb_Exchange_whoseFor_2 [some (.ref 160), some (.int (nI q)), some (.int (nI i))] [] (z, xv_mk W J) = some (some (.int (nI (mem (r c)))), (z, xv_mk W J)) := by
    intro k
    induction k with
    | zero =>
      intro i hi
      obtain rfl : i = c := by omega
      obtain ⟨m1, m2⟩ := hm i hc
      obtain ⟨r1, r2⟩ := hr i hc
      obtain ⟨m3, m4⟩ := hm (r i) r1
      have g1 : (nI n ≤ nI i) = False := by (simp (disch := omega) only [vz_all, if_true, if_false, true_or, or_true, eq_self, ite_not, Bool.false_eq_true, ite_self, and_self, true_and, and_true, false_and, and_false, not_true_eq_false, not_false_eq_true, false_or, or_false])
      have g2 : (5 ≤ nI i) = False := by (simp (disch := omega) only [vz_all, if_true, if_false, true_or, or_true, eq_self, ite_not, Bool.false_eq_true, ite_self, and_self, true_and, and_true, false_and, and_false, not_true_eq_false, not_false_eq_true, false_or, or_false])
      have g3 : xv_inB (nI i) 5 = true := by (simp (disch := omega) only [vz_all, if_true, if_false, true_or, or_true, eq_self, ite_not, Bool.false_eq_true, ite_self, and_self, true_and, and_true, false_and, and_false, not_true_eq_false, not_false_eq_true, false_or, or_false])
      have g4 : (nI (r i) < 0) = False := by (simp (disch := omega) only [vz_all, if_true, if_false, true_or, or_true, eq_self, ite_not, Bool.false_eq_true, ite_self, and_self, true_and, and_true, false_and, and_false, not_true_eq_false, not_false_eq_true, false_or, or_false])
      have g5 : (5 ≤ nI (r i)) = False := by (simp (disch := omega) only [vz_all, if_true, if_false, true_or, or_true, eq_self, ite_not, Bool.false_eq_true, ite_self, and_self, true_and, and_true, false_and, and_false, not_true_eq_false, not_false_eq_true, false_or, or_false])
      have g6 : xv_inB (nI (r i)) 5 = true := by (simp (disch := omega) only [vz_all, if_true, if_false, true_or, or_true, eq_self, ite_not, Bool.false_eq_true, ite_self, and_self, true_and, and_true, false_and, and_false, not_true_eq_false, not_false_eq_true, false_or, or_false])
      rw [hq] at m2
      conv => lhs; unfold xb_Exchange_whoseFor_2
      simp only [xr_all, xf_all, if_true, if_false, true_or, or_true, eq_self, ite_not, Bool.false_eq_true, ite_self, and_self, true_and, and_true, false_and, and_false, not_true_eq_false, not_false_eq_true, xj_Exchange_whoseFor, xb_Exchange_whoseFor_0, xb_Exchange_whoseFor_56, xb_Exchange_whoseFor_62, h5, g1, g2, g3, nI_clamp (show i < 2 ^ 31 by omega), m2, r2, g4, g5, g6, nI_clamp (show r i < 2 ^ 31 by omega), m4]
    | succ k ih =>
      intro i hi
      obtain ⟨m1, m2⟩ := hm i (by omega)
      have hne' := hne i (by omega)
      have g1 : (nI n ≤ nI i) = False := by (simp (disch := omega) only [vz_all, if_true, if_false, true_or, or_true, eq_self, ite_not, Bool.false_eq_true, ite_self, and_self, true_and, and_true, false_and, and_false, not_true_eq_false, not_false_eq_true, false_or, or_false])
      have g2 : (5 ≤ nI i) = False := by (simp (disch := omega) only [vz_all, if_true, if_false, true_or, or_true, eq_self, ite_not, Bool.false_eq_true, ite_self, and_self, true_and, and_true, false_and, and_false, not_true_eq_false, not_false_eq_true, false_or, or_false])
      have g3 : xv_inB (nI i) 5 = true := by (simp (disch := omega) only [vz_all, if_true, if_false, true_or, or_true, eq_self, ite_not, Bool.false_eq_true, ite_self, and_self, true_and, and_true, false_and, and_false, not_true_eq_false, not_false_eq_true, false_or, or_false])
      have g4 : (nI (mem i) = nI q) = False := by (simp (disch := omega) only [vz_all, if_true, if_false, true_or, or_true, eq_self, ite_not, Bool.false_eq_true, ite_self, and_self, true_and, and_true, false_and, and_false, not_true_eq_false, not_false_eq_true, false_or, or_false])
      rw [← ih (i + 1) (by omega)]
      conv => lhs; unfold xb_Exchange_whoseFor_2
      simp only [xr_all, xf_all, if_true, if_false, true_or, or_true, eq_self, ite_not, Bool.false_eq_true, ite_self, and_self, true_and, and_true, false_and, and_false, not_true_eq_false, not_false_eq_true, xj_Exchange_whoseFor, xb_Exchange_whoseFor_0, xb_Exchange_whoseFor_56, xb_Exchange_whoseFor_62, h5, g1, g2, g3, nI_clamp (show i < 2 ^ 31 by omega), m2, g4, nI_1]
  have := loop c 0 (by omega)
  rw [show nI 0 = (0 : Int32) from rfl] at this
  rw [xe_Exchange_whoseFor]
  simp only [xr_all, xf_all, if_true, if_false, true_or, or_true, eq_self, ite_not, Bool.false_eq_true, ite_self, and_self, true_and, and_true, false_and, and_false, not_true_eq_false, not_false_eq_true, xj_Exchange_whoseFor, xb_Exchange_whoseFor_0, xb_Exchange_whoseFor_56, xb_Exchange_whoseFor_62]
  exact this
theorem xl_fill (ro : xv_Ro) (z : Nat × Nat) (M : Nat → Nat → Int32) (J : Nat → Nat → Int64) {s : Nat} (x2 : Int32) (hs : s < 1024) (h5 : vb_ct s 10 ≤ 5) : ∀ w, w ≤ 10 → ∃ (p : Nat) (M1 : Nat → Nat → Int32), xv_ev ro 199 xm_Mo_onionsFor xb_Mo_onionsFor_79 [some (.ref 167), some (.int (nI s)), some (.int x2), some (.int 0), some (.int 0), some (.int 1), some (.int 0), none, none] [] (z, xv_mk M J) = xv_ev ro 199 xm_Mo_onionsFor xb_Mo_onionsFor_79 [some (.ref 167), some (.int (nI s)), some (.int x2), some (.int (nI (vb_ct s w))), some (.int (nI p)), some (.int 1), some (.int (nI w)), none, none] [] (z, xv_mk M1 J) ∧ (∀ a, a ≠ 197 → M1 a = M a) ∧ (∀ j, j < vb_ct s w → M1 197 j = nI (ox_mem s w j)) ∧ ∀ q, q < w → s.testBit q = true → x2 = nI q → p = vb_ct s q := by
  intro w
  induction w with
  | zero => intro _; exact ⟨0, M, rfl, fun _ _ => rfl, fun j hj => absurd hj (Nat.not_lt_zero j), fun q hq => absurd hq (Nat.not_lt_zero q)⟩
  | succ w ih =>
    intro hw
    obtain ⟨p, M1, a1, a2, a3, a4⟩ := ih (by omega)
    rw [a1, vb_cts, ox_mem_s]
    have g10 : (10 ≤ nI w) = False := by (simp (disch := omega) only [vz_all, if_true, if_false, true_or, or_true, eq_self, ite_not, Bool.false_eq_true, ite_self, and_self, true_and, and_true, false_and, and_false, not_true_eq_false, not_false_eq_true, false_or, or_false])
    have lS := nI_l (show s < 2 ^ 31 by omega)
    have hhas := xq_Mo_has ro 198 (z, xv_mk M1 J) (m := s) (s := w) (by omega) (by omega)
    have z1 : ((1 : Int32) = 0) = False := eq_false (by decide)
    by_cases c : s.testBit w = true
    · rw [if_pos c, if_pos c]
      rw [vz_b1 c] at hhas
      have hcw : vb_ct s w + 1 ≤ vb_ct s 10 := by
        have := vb_mono s (w := w + 1) (v := 10) (by omega)
        rw [vb_cts, if_pos c] at this
        exact this
      have g5 : xv_inB (nI (vb_ct s w)) 5 = true := by (simp (disch := omega) only [vz_all, if_true, if_false, true_or, or_true, eq_self, ite_not, Bool.false_eq_true, ite_self, and_self, true_and, and_true, false_and, and_false, not_true_eq_false, not_false_eq_true, false_or, or_false])
      have cc := nI_clamp (show vb_ct s w < 2 ^ 31 by omega)
      have hMj : ∀ j, j < vb_ct s w + 1 → xv_u2 M1 197 (vb_ct s w) (nI w) 197 j = nI (vx_q (ox_mem s w) (vb_ct s w) w j) := by
        intro j hj
        unfold vx_q
        by_cases e : j = vb_ct s w
        · rw [if_pos e, e, xu_eq]
        · rw [if_neg e, xu_ne2 (by omega)]; exact a3 j (by omega)
      by_cases cx : x2 = nI w
      · refine ⟨vb_ct s w, xv_u2 M1 197 (vb_ct s w) (nI w), ?_, fun a ha => by rw [xu_ne ha]; exact a2 a ha, hMj, fun q hq hb hx => ?_⟩
        · have gx : (nI w = x2) = True := eq_true cx.symm
          conv => lhs; unfold xb_Mo_onionsFor_79
          simp only [xr_all, xf_all, if_true, if_false, true_or, or_true, eq_self, ite_not, Bool.false_eq_true, ite_self, and_self, true_and, and_true, false_and, and_false, not_true_eq_false, not_false_eq_true, xj_Mo_onionsFor, xb_Mo_onionsFor_0, xb_Mo_onionsFor_39, xb_Mo_onionsFor_41, xb_Mo_onionsFor_66, xb_Mo_onionsFor_68, xb_Mo_onionsFor_99, xb_Mo_onionsFor_108, xb_Mo_onionsFor_120, xb_Mo_onionsFor_126, xb_Mo_onionsFor_147, xb_Mo_onionsFor_183, xb_Mo_onionsFor_224, xb_Mo_onionsFor_230, xb_Mo_onionsFor_241, xb_Mo_onionsFor_248, g10, lS, hhas, z1, gx, g5, cc, nI_1]
        · have : q = w := (nI_eq (by omega) (by omega)).mp (hx.symm.trans cx)
          rw [this]
      · refine ⟨p, xv_u2 M1 197 (vb_ct s w) (nI w), ?_, fun a ha => by rw [xu_ne ha]; exact a2 a ha, hMj, fun q hq hb hx => ?_⟩
        · have gx : (nI w = x2) = False := eq_false (fun g => cx g.symm)
          conv => lhs; unfold xb_Mo_onionsFor_79
          simp only [xr_all, xf_all, if_true, if_false, true_or, or_true, eq_self, ite_not, Bool.false_eq_true, ite_self, and_self, true_and, and_true, false_and, and_false, not_true_eq_false, not_false_eq_true, xj_Mo_onionsFor, xb_Mo_onionsFor_0, xb_Mo_onionsFor_39, xb_Mo_onionsFor_41, xb_Mo_onionsFor_66, xb_Mo_onionsFor_68, xb_Mo_onionsFor_99, xb_Mo_onionsFor_108, xb_Mo_onionsFor_120, xb_Mo_onionsFor_126, xb_Mo_onionsFor_147, xb_Mo_onionsFor_183, xb_Mo_onionsFor_224, xb_Mo_onionsFor_230, xb_Mo_onionsFor_241, xb_Mo_onionsFor_248, g10, lS, hhas, z1, gx, g5, cc, nI_1]
        · by_cases e : q = w
          · rw [e] at hx; exact absurd hx cx
          · exact a4 q (by omega) hb hx
    · rw [if_neg c, if_neg c, Nat.add_zero]
      rw [vz_b0 c] at hhas
      refine ⟨p, M1, ?_, a2, a3, fun q hq hb hx => ?_⟩
      · conv => lhs; unfold xb_Mo_onionsFor_79
        simp only [xr_all, xf_all, if_true, if_false, true_or, or_true, eq_self, ite_not, Bool.false_eq_true, ite_self, and_self, true_and, and_true, false_and, and_false, not_true_eq_false, not_false_eq_true, xj_Mo_onionsFor, xb_Mo_onionsFor_0, xb_Mo_onionsFor_39, xb_Mo_onionsFor_41, xb_Mo_onionsFor_66, xb_Mo_onionsFor_68, xb_Mo_onionsFor_99, xb_Mo_onionsFor_108, xb_Mo_onionsFor_120, xb_Mo_onionsFor_126, xb_Mo_onionsFor_147, xb_Mo_onionsFor_183, xb_Mo_onionsFor_224, xb_Mo_onionsFor_230, xb_Mo_onionsFor_241, xb_Mo_onionsFor_248, g10, lS, hhas, nI_1]
      · by_cases e : q = w
        · rw [e] at hb; exact absurd hb c
        · exact a4 q (by omega) hb hx
