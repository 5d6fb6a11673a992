/-! onion: an item, the model -/
def oi_g (M W : Nat → Nat → Int32) : Prop := (∀ a, a ≠ 167 → a ≠ 189 → W a = M a) ∧ ∀ j, j ≠ 8 → j ≠ 10 → j ≠ 37 → W 167 j = M 167 j
theorem oi_gr (M : Nat → Nat → Int32) : oi_g M M := ⟨fun _ _ _ => rfl, fun _ _ _ _ => rfl⟩
theorem oi_gt {M V W : Nat → Nat → Int32} (h1 : oi_g M V) (h2 : oi_g V W) : oi_g M W := ⟨fun a q1 q2 => (h2.1 a q1 q2).trans (h1.1 a q1 q2), fun j q1 q2 q3 => (h2.2 j q1 q2 q3).trans (h1.2 j q1 q2 q3)⟩
theorem oi_g8 (M : Nat → Nat → Int32) (x : Int32) : oi_g M (xv_u2 M 167 8 x) := ⟨fun a q1 _ => xu_ne q1, fun j q _ _ => xu_ne2 (fun g => q g.2)⟩
theorem oi_g10 (M : Nat → Nat → Int32) (x : Int32) : oi_g M (xv_u2 M 167 10 x) := ⟨fun a q1 _ => xu_ne q1, fun j _ q _ => xu_ne2 (fun g => q g.2)⟩
theorem oi_g37 (M : Nat → Nat → Int32) (x : Int32) : oi_g M (xv_u2 M 167 37 x) := ⟨fun a q1 _ => xu_ne q1, fun j _ _ q => xu_ne2 (fun g => q g.2)⟩
theorem oi_g189 (M : Nat → Nat → Int32) (k : Nat) (x : Int32) : oi_g M (xv_u2 M 189 k x) := ⟨fun a _ q => xu_ne q, fun j _ _ _ => by rw [xu_ne (by omega)]⟩
/-- what comes out: the answer, the fault or the layers -/
def oi_N (b : Nat → Nat) (n L : Nat) (M W : Nat → Nat → Int32) (r : Int32) : oi_S → Prop
  | .inl (w, q) => r = 0 ∧ W 167 10 = -1000 * nI w - nI q ∧ oi_g M W
  | .inr (v, t, p) => r = 1 ∧ tp_M b n p W ∧ oi_g M W ∧ W 167 37 = nI (L + t) ∧ (∀ j, j < L → W 189 j = M 189 j) ∧ ∀ j, L ≤ j → j < L + t → W 189 j = nI v
theorem oi_N_t {b : Nat → Nat} {n L : Nat} {M V W : Nat → Nat → Int32} {r : Int32} {o : oi_S} (h1 : oi_g M V) (h3 : V 189 = M 189) (h2 : oi_N b n L V W r o) : oi_N b n L M W r o := by
  match o, h2 with
  | .inl (w, q), h2 => exact ⟨h2.1, h2.2.1, oi_gt h1 h2.2.2⟩
  | .inr (v, t, p), h2 =>
    obtain ⟨a1, a2, a3, a4, a5, a6⟩ := h2
    exact ⟨a1, a2, oi_gt h1 a3, a4, fun j hj => by rw [a5 j hj, h3], a6⟩
theorem xl_ri163 (ro : xv_Ro) (d : Nat) (z : Nat × Nat) (J : Nat → Nat → Int64) (x1 : Int32) {b : Nat → Nat} {n p v t L : Nat} (hLt : L + t ≤ 12) : ∀ (k i : Nat) (M : Nat → Nat → Int32), i + k = t → M 167 37 = nI L → tp_M b n p M → (∀ j, L ≤ j → j < L + i → M 189 j = nI v) → ∃ W : Nat → Nat → Int32, xv_ev ro d xm_Mo_readsItem xb_Mo_readsItem_163 [some (.ref 167), some (.int x1), some (.int (nI v)), some (.int (nI t)), some (.int (nI i))] [] (z, xv_mk M J) = some (some (.int 1), (z, xv_mk W J)) ∧ oi_N b n L M W 1 (.inr (v, t, p)) := by
  intro k
  induction k with
  | zero =>
    intro i M hi h37 hM h189
    obtain rfl : i = t := by omega
    have g1 : (nI i ≤ nI i) = True := by (simp (disch := omega) only [vz_all, if_true, if_false, true_or, or_true, eq_self, ite_not, Bool.false_eq_true, ite_self, and_self, true_and, and_true, false_and, and_false, not_true_eq_false, not_false_eq_true, false_or, or_false])
    refine ⟨xv_u2 M 167 37 (nI (L + i)), ?_, rfl, tp_Mc hM (by (repeat (first | rw [xu_ne2 (by omega)] | rw [xu_ne (by omega)] | rw [xu_eq]))) (by (repeat (first | rw [xu_ne2 (by omega)] | rw [xu_ne (by omega)] | rw [xu_eq]))) (by (repeat (first | rw [xu_ne2 (by omega)] | rw [xu_ne (by omega)] | rw [xu_eq]))), oi_g37 M _, xu_eq, fun j _ => by (repeat (first | rw [xu_ne2 (by omega)] | rw [xu_ne (by omega)] | rw [xu_eq])), fun j q1 q2 => by (repeat (first | rw [xu_ne2 (by omega)] | rw [xu_ne (by omega)] | rw [xu_eq])); exact h189 j q1 q2⟩
    conv => lhs; unfold xb_Mo_readsItem_163
    simp only [xr_all, xf_all, if_true, if_false, true_or, or_true, eq_self, ite_not, Bool.false_eq_true, ite_self, and_self, true_and, and_true, false_and, and_false, not_true_eq_false, not_false_eq_true, xj_Mo_readsItem, xb_Mo_readsItem_0, xb_Mo_readsItem_67, xb_Mo_readsItem_78, xb_Mo_readsItem_123, xb_Mo_readsItem_141, xb_Mo_readsItem_160, xb_Mo_readsItem_188, g1, h37, nI_add]
  | succ k ih =>
    intro i M hi h37 hM h189
    have g1 : (nI t ≤ nI i) = False := by (simp (disch := omega) only [vz_all, if_true, if_false, true_or, or_true, eq_self, ite_not, Bool.false_eq_true, ite_self, and_self, true_and, and_true, false_and, and_false, not_true_eq_false, not_false_eq_true, false_or, or_false])
    have g3 : xv_inB (nI (L + i)) 12 = true := by (simp (disch := omega) only [vz_all, if_true, if_false, true_or, or_true, eq_self, ite_not, Bool.false_eq_true, ite_self, and_self, true_and, and_true, false_and, and_false, not_true_eq_false, not_false_eq_true, false_or, or_false])
    have cc := nI_clamp (show L + i < 2 ^ 31 by omega)
    obtain ⟨W, a1, a2, a3, a4, a5, a6, a7⟩ := ih (i + 1) (xv_u2 M 189 (L + i) (nI v)) (by omega) (by rw [xu_ne (by omega)]; exact h37) (tp_Mc hM (by (repeat (first | rw [xu_ne2 (by omega)] | rw [xu_ne (by omega)] | rw [xu_eq]))) (by (repeat (first | rw [xu_ne2 (by omega)] | rw [xu_ne (by omega)] | rw [xu_eq]))) (by (repeat (first | rw [xu_ne2 (by omega)] | rw [xu_ne (by omega)] | rw [xu_eq])))) (fun j q1 q2 => by
      by_cases e : j = L + i
      · rw [e, xu_eq]
      · rw [xu_ne2 (by omega)]; exact h189 j q1 (by omega))
    refine ⟨W, ?_, rfl, a3, oi_gt (oi_g189 M _ _) a4, a5, fun j hj => by rw [a6 j hj, xu_ne2 (by omega)], a7⟩
    rw [← a1]
    conv => lhs; unfold xb_Mo_readsItem_163
    simp only [xr_all, xf_all, if_true, if_false, true_or, or_true, eq_self, ite_not, Bool.false_eq_true, ite_self, and_self, true_and, and_true, false_and, and_false, not_true_eq_false, not_false_eq_true, xj_Mo_readsItem, xb_Mo_readsItem_0, xb_Mo_readsItem_67, xb_Mo_readsItem_78, xb_Mo_readsItem_123, xb_Mo_readsItem_141, xb_Mo_readsItem_160, xb_Mo_readsItem_188, g1, h37, nI_add, g3, cc, nI_1]
theorem xl_ri67 (ro : xv_Ro) (d : Nat) (z : Nat × Nat) (J : Nat → Nat → Int64) {b : Nat → Nat} {n p p1 v L : Nat} (hL : L ≤ 12) (hp : p ≤ 260) (hv : v ≤ 99) (M : Nat → Nat → Int32) (h37 : M 167 37 = nI L) (h : tp_M b n p1 M) : ∃ (W : Nat → Nat → Int32) (r : Int32), xv_ev ro (d + 2) xm_Mo_readsItem xb_Mo_readsItem_67 [some (.ref 167), some (.int (nI p)), some (.int (nI v)), none, none] [] (z, xv_mk M J) = some (some (.int r), (z, xv_mk W J)) ∧ oi_N b n L M W r (oi_2 b n p L v p1) := by
  unfold oi_2
  by_cases c : v = 0
  · rw [if_pos c]
    have g : (nI v = 0) = True := by (simp (disch := omega) only [vz_all, if_true, if_false, true_or, or_true, eq_self, ite_not, Bool.false_eq_true, ite_self, and_self, true_and, and_true, false_and, and_false, not_true_eq_false, not_false_eq_true, false_or, or_false])
    have hw := xq_wrongAt ro (d + 1) z M J 3 (nI p)
    refine ⟨xv_u2 M 167 10 (-1000 * 3 - nI p), 0, ?_, rfl, xu_eq, oi_g10 M _⟩
    conv => lhs; unfold xb_Mo_readsItem_67
    simp only [xr_all, xf_all, if_true, if_false, true_or, or_true, eq_self, ite_not, Bool.false_eq_true, ite_self, and_self, true_and, and_true, false_and, and_false, not_true_eq_false, not_false_eq_true, xj_Mo_readsItem, xb_Mo_readsItem_0, xb_Mo_readsItem_67, xb_Mo_readsItem_78, xb_Mo_readsItem_123, xb_Mo_readsItem_141, xb_Mo_readsItem_160, xb_Mo_readsItem_188, g, hw]
  · rw [if_neg c]
    have g : (nI v = 0) = False := by (simp (disch := omega) only [vz_all, if_true, if_false, true_or, or_true, eq_self, ite_not, Bool.false_eq_true, ite_self, and_self, true_and, and_true, false_and, and_false, not_true_eq_false, not_false_eq_true, false_or, or_false])
    have hh := xq_here ro (d + 1) z M J h
    have he := tp_ceq (b := b) (n := n) (p := p1) (c := 120) (fun q => (h.2.2.2.2 p1 q).1) (by omega)
    rw [show nI 120 = (120 : Int32) from rfl] at he
    have hpl := h.2.2.2.1
    have hn := h.1
    have fin : ∀ (t p2 : Nat) (V : Nat → Nat → Int32), t ≤ 9 → V 167 37 = nI L → tp_M b n p2 V → oi_g M V → V 189 = M 189 → ∃ (W : Nat → Nat → Int32) (r : Int32), xv_ev ro (d + 2) xm_Mo_readsItem xb_Mo_readsItem_141 [some (.ref 167), some (.int (nI p)), some (.int (nI v)), some (.int (nI t)), none] [] (z, xv_mk V J) = some (some (.int r), (z, xv_mk W J)) ∧ oi_N b n L M W r (if 12 < L + t then .inl (6, p) else .inr (v, t, p2)) := by
      intro t p2 V ht h37 hV hg h189
      by_cases c : 12 < L + t
      · rw [if_pos c]
        have g : (nI (L + t) ≤ 12) = False := by (simp (disch := omega) only [vz_all, if_true, if_false, true_or, or_true, eq_self, ite_not, Bool.false_eq_true, ite_self, and_self, true_and, and_true, false_and, and_false, not_true_eq_false, not_false_eq_true, false_or, or_false])
        have hw := xq_wrongAt ro (d + 1) z V J 6 (nI p)
        refine ⟨xv_u2 V 167 10 (-1000 * 6 - nI p), 0, ?_, rfl, xu_eq, oi_gt hg (oi_g10 V _)⟩
        conv => lhs; unfold xb_Mo_readsItem_141
        simp only [xr_all, xf_all, if_true, if_false, true_or, or_true, eq_self, ite_not, Bool.false_eq_true, ite_self, and_self, true_and, and_true, false_and, and_false, not_true_eq_false, not_false_eq_true, xj_Mo_readsItem, xb_Mo_readsItem_0, xb_Mo_readsItem_67, xb_Mo_readsItem_78, xb_Mo_readsItem_123, xb_Mo_readsItem_141, xb_Mo_readsItem_160, xb_Mo_readsItem_188, h37, nI_add, g, hw]
      · rw [if_neg c]
        have g : (nI (L + t) ≤ 12) = True := by (simp (disch := omega) only [vz_all, if_true, if_false, true_or, or_true, eq_self, ite_not, Bool.false_eq_true, ite_self, and_self, true_and, and_true, false_and, and_false, not_true_eq_false, not_false_eq_true, false_or, or_false])
        obtain ⟨W, a1, a2⟩ := xl_ri163 ro (d + 2) z J (nI p) (b := b) (n := n) (p := p2) (v := v) (t := t) (L := L) (by omega) t 0 V (by omega) h37 hV (fun j q1 q2 => by omega)
        refine ⟨W, 1, ?_, oi_N_t hg h189 a2⟩
        rw [← a1, show nI 0 = (0 : Int32) from rfl]
        conv => lhs; unfold xb_Mo_readsItem_141
        simp only [xr_all, xf_all, if_true, if_false, true_or, or_true, eq_self, ite_not, Bool.false_eq_true, ite_self, and_self, true_and, and_true, false_and, and_false, not_true_eq_false, not_false_eq_true, xj_Mo_readsItem, xb_Mo_readsItem_0, xb_Mo_readsItem_67, xb_Mo_readsItem_78, xb_Mo_readsItem_123, xb_Mo_readsItem_141, xb_Mo_readsItem_160, xb_Mo_readsItem_188, h37, nI_add, g]
    by_cases hx : p1 < n ∧ b p1 = 120
    · rw [if_pos hx]
      have gx := he.trans (eq_true hx)
      have hM1 := tp_Ms h hx.1
      have hh1 := xq_here ro (d + 1) z _ J hM1
      have hin := tp_in (b := b) (n := n) (p := p1 + 1) (fun q => (h.2.2.2.2 (p1 + 1) q).1)
      have hpl1 := hM1.2.2.2.1
      have bad : (¬ ∃ t, tp_d b n (p1 + 1) = some t ∧ 2 ≤ t) → ∃ (W : Nat → Nat → Int32) (r : Int32), xv_ev ro (d + 2) xm_Mo_readsItem xb_Mo_readsItem_67 [some (.ref 167), some (.int (nI p)), some (.int (nI v)), none, none] [] (z, xv_mk M J) = some (some (.int r), (z, xv_mk W J)) ∧ oi_N b n L M W r (.inl (1, p1 + 1)) := by
        intro hno
        have gin := hin.trans (eq_false hno)
        have hw := xq_wrongAt ro (d + 1) z (xv_u2 M 167 8 (nI (p1 + 1))) J 1 (nI (p1 + 1))
        refine ⟨xv_u2 (xv_u2 M 167 8 (nI (p1 + 1))) 167 10 (-1000 * 1 - nI (p1 + 1)), 0, ?_, rfl, xu_eq, oi_gt (oi_g8 M _) (oi_g10 _ _)⟩
        conv => lhs; unfold xb_Mo_readsItem_67
        simp only [xr_all, xf_all, if_true, if_false, true_or, or_true, eq_self, ite_not, Bool.false_eq_true, ite_self, and_self, true_and, and_true, false_and, and_false, not_true_eq_false, not_false_eq_true, xj_Mo_readsItem, xb_Mo_readsItem_0, xb_Mo_readsItem_67, xb_Mo_readsItem_78, xb_Mo_readsItem_123, xb_Mo_readsItem_160, xb_Mo_readsItem_188, g, hh, gx, hpl, nI_1, hh1, xq_Mo_in, gin, hpl1, hw]
      cases hd : tp_d b n (p1 + 1) with
      | none =>
        dsimp only
        exact bad (fun ⟨t, q, _⟩ => by rw [hd] at q; cases q)
      | some t =>
        dsimp only
        by_cases ct : t < 2
        · rw [if_pos ct]
          exact bad (fun ⟨t', q, q2⟩ => by rw [hd] at q; have := Option.some.inj q; omega)
        · rw [if_neg ct]
          obtain ⟨d1, d2, d3⟩ := tp_d_s hd
          have gin := hin.trans (eq_true ⟨t, hd, by omega⟩)
          have hM2 := tp_Ms hM1 d1
          have ev : tp_c b n (p1 + 1) = nI (t + 48) := by unfold tp_c; rw [if_pos d1, d3]
          have es : nI (t + 48) - 48 = nI t := by (simp (disch := omega) only [vz_all, if_true, if_false, true_or, or_true, eq_self, ite_not, Bool.false_eq_true, ite_self, and_self, true_and, and_true, false_and, and_false, not_true_eq_false, not_false_eq_true, false_or, or_false])
          have z1 : ((1 : Int32) = 0) = False := eq_false (by decide)
          obtain ⟨W, r, a1, a2⟩ := fin t (p1 + 2) _ d2 (by rw [xu_ne2 (by omega), xu_ne2 (by omega)]; exact h37) hM2 (oi_gt (oi_g8 M _) (oi_g8 _ _)) (by rw [xu_ne (by omega), xu_ne (by omega)])
          refine ⟨W, r, ?_, a2⟩
          rw [← a1]
          rw [ev] at hh1 gin
          conv => lhs; unfold xb_Mo_readsItem_67
          simp only [xr_all, xf_all, if_true, if_false, true_or, or_true, eq_self, ite_not, Bool.false_eq_true, ite_self, and_self, true_and, and_true, false_and, and_false, not_true_eq_false, not_false_eq_true, xj_Mo_readsItem, xb_Mo_readsItem_0, xb_Mo_readsItem_67, xb_Mo_readsItem_78, xb_Mo_readsItem_123, xb_Mo_readsItem_160, xb_Mo_readsItem_188, g, hh, gx, hpl, nI_1, hh1, xq_Mo_in, gin, hpl1, z1, es]
    · rw [if_neg hx]
      have gx := he.trans (eq_false hx)
      obtain ⟨W, r, a1, a2⟩ := fin 1 p1 M (by omega) h37 h (oi_gr M) rfl
      refine ⟨W, r, ?_, a2⟩
      rw [← a1, show nI 1 = (1 : Int32) from rfl]
      conv => lhs; unfold xb_Mo_readsItem_67
      simp only [xr_all, xf_all, if_true, if_false, true_or, or_true, eq_self, ite_not, Bool.false_eq_true, ite_self, and_self, true_and, and_true, false_and, and_false, not_true_eq_false, not_false_eq_true, xj_Mo_readsItem, xb_Mo_readsItem_0, xb_Mo_readsItem_67, xb_Mo_readsItem_78, xb_Mo_readsItem_123, xb_Mo_readsItem_160, xb_Mo_readsItem_188, g, hh, gx]
