/-! weeks: a witness's week in the class -/
def vx_up (I : Nat → Nat → Int32) (q i : Nat) : Nat → Nat → Int32 := fun a j => if a = q ∧ i < j ∧ j < 12 then I q (j - 1) else I a j
theorem vx_up11 (I : Nat → Nat → Int32) (q : Nat) : vx_up I q 11 = I := by
  funext a j
  unfold vx_up
  rw [if_neg (by omega)]
theorem vx_ups (I : Nat → Nat → Int32) (q : Nat) {i : Nat} (h1 : 1 ≤ i) (h2 : i ≤ 11) : xv_u2 (vx_up I q i) q i (vx_up I q i q (i - 1)) = vx_up I q (i - 1) := by
  funext a j
  have e : vx_up I q i q (i - 1) = I q (i - 1) := by unfold vx_up; rw [if_neg (by omega)]
  rw [e]
  unfold xv_u2 vx_up
  by_cases c : a = q
  · by_cases c2 : j = i
    · rw [if_pos ⟨c, c2⟩, if_pos ⟨c, by omega, by omega⟩, c2]
    · rw [if_neg (by omega)]
      by_cases c3 : i < j ∧ j < 12
      · rw [if_pos ⟨c, c3⟩, if_pos ⟨c, by omega, by omega⟩]
      · rw [if_neg (by omega), if_neg (by omega)]
  · rw [if_neg (by omega), if_neg (by omega), if_neg (by omega)]
theorem xq_sprout (ro : xv_Ro) (d : Nat) (z : Nat × Nat) (C : Nat → Nat → Int32) (J : Nat → Nat → Int64) {p l : Nat} (hp : vW p) (hl : C p 1 = nI l) (h2 : l < 12) : xv_evm ro d 269 [.ref p] (z, xv_mk C J) = some (some (.int 1), (z, xv_mk (xv_u2 (xv_u2 (vx_up C (p + 1) 0) (p + 1) 0 50) p 1 (nI (l + 1))) J)) := by
  rw [xe_Witness_sprout]
  have g1 : (nI l < 12) = True := by (simp (disch := omega) only [vz_all, if_true, if_false, true_or, or_true, eq_self, ite_not, Bool.false_eq_true, ite_self, and_self, true_and, and_true, false_and, and_false, not_true_eq_false, not_false_eq_true, false_or, or_false])
  simp only [xr_all, xf_all, if_true, if_false, true_or, or_true, eq_self, ite_not, Bool.false_eq_true, ite_self, and_self, true_and, and_true, false_and, and_false, not_true_eq_false, not_false_eq_true, xj_Witness_sprout, xb_Witness_sprout_0, xb_Witness_sprout_11, xb_Witness_sprout_38, vW_f hp, hl, g1]
  have hl2 := vz_iter (fun k => xv_ev ro d xm_Witness_sprout xb_Witness_sprout_14 [some (.ref p), some (.int (nI (11 - k)))] [] (z, xv_mk (vx_up C (p + 1) (11 - k)) J)) 11 (fun k hk => by
    have e1 : (nI (11 - k) ≤ 0) = False := by rw [show (0 : Int32) = nI 0 from rfl]; (simp (disch := omega) only [vz_all, if_true, if_false, true_or, or_true, eq_self, ite_not, Bool.false_eq_true, ite_self, and_self, true_and, and_true, false_and, and_false, not_true_eq_false, not_false_eq_true, false_or, or_false])
    have e2 : xv_inB (nI (11 - k)) 12 = true := by (simp (disch := omega) only [vz_all, if_true, if_false, true_or, or_true, eq_self, ite_not, Bool.false_eq_true, ite_self, and_self, true_and, and_true, false_and, and_false, not_true_eq_false, not_false_eq_true, false_or, or_false])
    have e3 : nI (11 - k) - 1 = nI (11 - k - 1) := by (simp (disch := omega) only [vz_all, if_true, if_false, true_or, or_true, eq_self, ite_not, Bool.false_eq_true, ite_self, and_self, true_and, and_true, false_and, and_false, not_true_eq_false, not_false_eq_true, false_or, or_false])
    have e4 : xv_inB (nI (11 - k - 1)) 12 = true := by (simp (disch := omega) only [vz_all, if_true, if_false, true_or, or_true, eq_self, ite_not, Bool.false_eq_true, ite_self, and_self, true_and, and_true, false_and, and_false, not_true_eq_false, not_false_eq_true, false_or, or_false])
    have e5 : nI (11 - k) + -1 = nI (11 - k - 1) := vz_dec (by omega)
    have e6 := vx_ups C (p + 1) (i := 11 - k) (by omega) (by omega)
    rw [show 11 - (k + 1) = 11 - k - 1 by omega]
    conv => lhs; unfold xb_Witness_sprout_14
    simp only [xr_all, xf_all, if_true, if_false, true_or, or_true, eq_self, ite_not, Bool.false_eq_true, ite_self, and_self, true_and, and_true, false_and, and_false, not_true_eq_false, not_false_eq_true, xj_Witness_sprout, xb_Witness_sprout_0, xb_Witness_sprout_11, xb_Witness_sprout_38, e1, e2, e3, e4, vW_f hp, nI_clamp (show 11 - k < 2 ^ 31 by omega), nI_clamp (show 11 - k - 1 < 2 ^ 31 by omega), e6, e5])
  rw [show 11 - 0 = 11 from rfl, show 11 - 11 = 0 from rfl, vx_up11, show nI 11 = (11 : Int32) from rfl] at hl2
  rw [hl2]
  have e1 : (nI 0 ≤ 0) = True := eq_true (by decide)
  have e2 : xv_inB 0 12 = true := by decide
  have e3 : vx_up C (p + 1) 0 p 1 = nI l := by unfold vx_up; rw [if_neg (by omega)]; exact hl
  have e4 : xv_u2 (vx_up C (p + 1) 0) (p + 1) 0 50 p 1 = nI l := by rw [xu_ne2 (by omega)]; exact e3
  conv => lhs; unfold xb_Witness_sprout_14
  simp only [xr_all, xf_all, if_true, if_false, true_or, or_true, eq_self, ite_not, Bool.false_eq_true, ite_self, and_self, true_and, and_true, false_and, and_false, not_true_eq_false, not_false_eq_true, xj_Witness_sprout, xb_Witness_sprout_0, xb_Witness_sprout_11, xb_Witness_sprout_38, e1, e2, vW_f hp, e4, nI_1]
theorem xq_sprout_no (ro : xv_Ro) (d : Nat) (z : Nat × Nat) (C : Nat → Nat → Int32) (J : Nat → Nat → Int64) {p : Nat} (hp : vW p) (hl : C p 1 = nI 12) : xv_evm ro d 269 [.ref p] (z, xv_mk C J) = some (some (.int 0), (z, xv_mk C J)) := by
  rw [xe_Witness_sprout]
  have g1 : (nI 12 < 12) = False := eq_false (by decide)
  simp only [xr_all, xf_all, if_true, if_false, true_or, or_true, eq_self, ite_not, Bool.false_eq_true, ite_self, and_self, true_and, and_true, false_and, and_false, not_true_eq_false, not_false_eq_true, xj_Witness_sprout, xb_Witness_sprout_0, xb_Witness_sprout_11, xb_Witness_sprout_38, vW_f hp, hl, g1]
/-- lot, sprouted, gone, layers, strengths -/
abbrev vx_T : Type := Nat × Nat × Nat × (Nat → Nat) × (Nat → Nat → Nat)
def vx_n (lot : Nat) : Nat := (25173 * lot + 13849) % 65536
def vx_q {α : Type} (f : Nat → α) (w : Nat) (x : α) : Nat → α := fun v => if v = w then x else f v
def vx_p (fn : Nat → (Nat → Int32) → Nat) (hh : Nat → Nat) (t w : Nat) (T : vx_T) : Nat × (Nat → Nat) := vx_a fn w (hh w) t (T.2.2.2.1 w) (T.2.2.2.2 w) (T.2.2.2.1 w)
def vx_1 (fn : Nat → (Nat → Int32) → Nat) (m : Nat) (hh : Nat → Nat) (t w : Nat) (T : vx_T) : vx_T :=
  if m.testBit w = true then
    (if (vx_p fn hh t w T).1 = 0 then (T.1, T.2.1, T.2.2.1 + T.2.2.2.1 w, vx_q T.2.2.2.1 w 0, vx_q T.2.2.2.2 w (vx_p fn hh t w T).2)
    else if vx_n T.1 % 10 < fn 98 (vx_F w (hh w) t ((vx_p fn hh t w T).2 0) (vx_p fn hh t w T).1) ∧ (vx_p fn hh t w T).1 < 12 then
      (vx_n T.1, T.2.1 + 1, T.2.2.1 + (T.2.2.2.1 w - (vx_p fn hh t w T).1), vx_q T.2.2.2.1 w ((vx_p fn hh t w T).1 + 1), vx_q T.2.2.2.2 w (fun j => if j = 0 then 50 else (vx_p fn hh t w T).2 (j - 1)))
    else (vx_n T.1, T.2.1, T.2.2.1 + (T.2.2.2.1 w - (vx_p fn hh t w T).1), vx_q T.2.2.2.1 w (vx_p fn hh t w T).1, vx_q T.2.2.2.2 w (vx_p fn hh t w T).2))
  else T
def vx_C (C : Nat → Nat → Int32) (A m : Nat) (hh : Nat → Nat) (t : Nat) (T : vx_T) : Prop := C A 3 = nI t ∧ C A 4 = nI T.1 ∧ C A 5 = nI T.2.1 ∧ C A 6 = nI T.2.2.1 ∧ ∀ w, w < 10 → C (A + 3 + 2 * w) 3 = (if m.testBit w then 1 else 0) ∧ C (A + 3 + 2 * w) 2 = nI (hh w) ∧ C (A + 3 + 2 * w) 1 = nI (T.2.2.2.1 w) ∧ ∀ j, j < T.2.2.2.1 w → C (A + 4 + 2 * w) j = nI (T.2.2.2.2 w j)
def vx_W (hh : Nat → Nat) (T : vx_T) : Prop := T.1 < 65536 ∧ ∀ w, w < 10 → hh w ≤ 9 ∧ T.2.2.2.1 w ≤ 12 ∧ ∀ j, j < T.2.2.2.1 w → 1 ≤ T.2.2.2.2 w j ∧ T.2.2.2.2 w j ≤ 99
theorem vx_W1 (fn : Nat → (Nat → Int32) → Nat) (m : Nat) {hh : Nat → Nat} (t : Nat) {w : Nat} {T : vx_T} (hw : w < 10) (h : vx_W hh T) : vx_W hh (vx_1 fn m hh t w T) := by
  obtain ⟨h1, h2⟩ := h
  obtain ⟨a1, a2, a3⟩ := h2 w hw
  have hwf := vx_wf fn w (hh w) t (T.2.2.2.1 w) a3 (T.2.2.2.1 w)
  rw [show vx_a fn w (hh w) t (T.2.2.2.1 w) (T.2.2.2.2 w) (T.2.2.2.1 w) = vx_p fn hh t w T from rfl] at hwf
  have hn : vx_n T.1 < 65536 := Nat.mod_lt _ (by decide)
  unfold vx_1
  generalize vx_p fn hh t w T = p at *
  by_cases c1 : m.testBit w = true
  · rw [if_pos c1]
    by_cases c2 : p.1 = 0
    · rw [if_pos c2]
      refine ⟨h1, fun v hv => ?_⟩
      dsimp only
      unfold vx_q
      by_cases c : v = w
      · rw [if_pos c, if_pos c]; exact ⟨(h2 v hv).1, by omega, fun j hj => by omega⟩
      · rw [if_neg c, if_neg c]; exact h2 v hv
    · rw [if_neg c2]
      by_cases c3 : vx_n T.1 % 10 < fn 98 (vx_F w (hh w) t (p.2 0) p.1) ∧ p.1 < 12
      · rw [if_pos c3]
        refine ⟨hn, fun v hv => ?_⟩
        dsimp only
        unfold vx_q
        by_cases c : v = w
        · rw [if_pos c, if_pos c]
          refine ⟨(h2 v hv).1, by omega, fun j hj => ?_⟩
          try dsimp only
          by_cases c4 : j = 0
          · rw [if_pos c4]; omega
          · rw [if_neg c4]; exact hwf.2 (j - 1) (by omega)
        · rw [if_neg c, if_neg c]; exact h2 v hv
      · rw [if_neg c3]
        refine ⟨hn, fun v hv => ?_⟩
        dsimp only
        unfold vx_q
        by_cases c : v = w
        · rw [if_pos c, if_pos c]; exact ⟨(h2 v hv).1, by omega, fun j hj => hwf.2 j (by omega)⟩
        · rw [if_neg c, if_neg c]; exact h2 v hv
  · rw [if_neg c1]; exact ⟨h1, h2⟩
theorem xq_live (ro : xv_Ro) (d : Nat) (z : Nat × Nat) (C : Nat → Nat → Int32) (J : Nat → Nat → Int64) {I : Nat → Nat → Int32} {fn : Nat → (Nat → Int32) → Nat} (hf : vl_fn I fn) (hC : ∀ a, 5 ≤ a → a < 12 → C a = I a) {A m t w : Nat} {hh : Nat → Nat} {T : vx_T} (hA : vAr A) (hw : w < 10) (hR : vx_C C A m hh t T) (hW : vx_W hh T) : ∃ (C1 : Nat → Nat → Int32) (J1 : Nat → Nat → Int64), (∀ a, a ≠ 12 → J1 a = J a) ∧ xv_evm ro (d + 5) 176 [.ref A, .int (nI w), .ref 5, .ref 21] (z, xv_mk C J) = some (none, (z, xv_mk C1 J1)) ∧ vx_C C1 A m hh t (vx_1 fn m hh t w T) ∧ (∀ a, a ≠ 21 → a < A ∨ A + 23 ≤ a → C1 a = C a) ∧ ∀ k, k < 3 → C1 A k = C A k := by
  obtain ⟨r1, r2, r3, r4, r5⟩ := hR
  obtain ⟨b1, b2, b3, b4⟩ := r5 w hw
  obtain ⟨hn, hW2⟩ := hW
  obtain ⟨v1, v2, v3⟩ := hW2 w hw
  have hA25 : 25 ≤ A := by rcases hA with rfl | rfl | rfl <;> omega
  have hp := vAr_W hA hw
  by_cases ht : m.testBit w = true
  rotate_left
  · refine ⟨C, J, fun _ _ => rfl, ?_, ?_, fun _ _ _ => rfl, fun _ _ => rfl⟩
    · rw [xe_Archive_live]
      have htold := xq_told_no ro (d + 3) z C J hA (nI w) (fun v hv q => by
        have : v = w := ((nI_eq (by omega) (by omega)).mp q).symm
        rw [this, b1, if_neg ht])
      simp only [xr_all, xf_all, if_true, if_false, true_or, or_true, eq_self, ite_not, Bool.false_eq_true, ite_self, and_self, true_and, and_true, false_and, and_false, not_true_eq_false, not_false_eq_true, xj_Archive_live, xb_Archive_live_0, xb_Archive_live_13, xb_Archive_live_52, xb_Archive_live_121, vAr_f hA, htold]
    · unfold vx_1
      rw [if_neg ht]
      exact ⟨r1, r2, r3, r4, r5⟩
  · have htold := xq_told ro (d + 3) z C J hA hw (by rw [b1, if_pos ht])
    have hho := xq_Witness_honesty ro (d + 4) z C J hp
    rw [b2] at hho
    have hop := xq_Case_open ro (d + 4) z C (C 21) J (nI w) (nI (hh w)) (nI t)
    rw [vg_Ks] at hop
    have hrl : vx_a fn w (hh w) t (T.2.2.2.1 w) (T.2.2.2.2 w) (T.2.2.2.1 w) = vx_p fn hh t w T := rfl
    have hwf := vx_wf fn w (hh w) t (T.2.2.2.1 w) v3 (T.2.2.2.1 w)
    obtain ⟨C1, J1, c1, c2, c3, c4, c5, c6, c7⟩ := xq_age ro d z (vg_K C (vg_u (vg_u (vg_u (vg_u (vg_u (vg_u (C 21) 0 (nI w)) 1 (nI (hh w))) 7 (nI t)) 4 0) 5 0) 6 0)) J hf (fun a q1 q2 => by rw [vg_Ko C _ (by omega)]; exact hC a q1 q2) (w := w) (h := hh w) (t := t) (s := T.2.2.2.2 w) hp (by omega) (by rw [vg_Ko C _ (by omega)]; exact b3) v2 v3 (fun j hj => by rw [vg_Ko C _ (by omega), show A + 3 + 2 * w + 1 = A + 4 + 2 * w by omega]; exact b4 j hj) (by rw [vg_Ki]; rfl) (by rw [vg_Ki]; rfl) (by rw [vg_Ki]; rfl) (by rw [vg_Ki]; rfl) (by rw [vg_Ki]; rfl) (by rw [vg_Ki]; rfl)
    rw [hrl] at c2 c3 c4 hwf
    have e1 : vx_1 fn m hh t w T = (if (vx_p fn hh t w T).1 = 0 then (T.1, T.2.1, T.2.2.1 + T.2.2.2.1 w, vx_q T.2.2.2.1 w 0, vx_q T.2.2.2.2 w (vx_p fn hh t w T).2)
      else if vx_n T.1 % 10 < fn 98 (vx_F w (hh w) t ((vx_p fn hh t w T).2 0) (vx_p fn hh t w T).1) ∧ (vx_p fn hh t w T).1 < 12 then
        (vx_n T.1, T.2.1 + 1, T.2.2.1 + (T.2.2.2.1 w - (vx_p fn hh t w T).1), vx_q T.2.2.2.1 w ((vx_p fn hh t w T).1 + 1), vx_q T.2.2.2.2 w (fun j => if j = 0 then 50 else (vx_p fn hh t w T).2 (j - 1)))
      else (vx_n T.1, T.2.1, T.2.2.1 + (T.2.2.2.1 w - (vx_p fn hh t w T).1), vx_q T.2.2.2.1 w (vx_p fn hh t w T).1, vx_q T.2.2.2.2 w (vx_p fn hh t w T).2)) := by unfold vx_1; rw [if_pos ht]
    rw [e1]
    clear e1 hrl
    have o1 : ∀ k, C1 A k = C A k := fun k => by rw [c6 A (by omega) (by omega) (by omega), vg_Ko C _ (by omega)]
    have o2 : ∀ a, a ≠ 21 → a ≠ A + 3 + 2 * w → a ≠ A + 3 + 2 * w + 1 → C1 a = C a := fun a q1 q2 q3 => by rw [c6 a q1 q2 q3, vg_Ko C _ q1]
    have o3 : ∀ j, j ≠ 1 → C1 (A + 3 + 2 * w) j = C (A + 3 + 2 * w) j := fun j hj => by rw [c5 j hj, vg_Ko C _ (by omega)]
    have hb8 := hf.1 98 (vx_F w (hh w) t ((vx_p fn hh t w T).2 0) (vx_p fn hh t w T).1)
    rw [show vl_hi 98 = 10 from rfl] at hb8
    have ek7 : ∀ g, vg_K C g A 3 = nI t := fun g => by rw [vg_Ko C _ (by omega)]; exact r1
    have ek6 : ∀ g, vg_K C g A 6 = nI T.2.2.1 := fun g => by rw [vg_Ko C _ (by omega)]; exact r4
    have hl8 : xv_u2 C1 A 6 (nI (T.2.2.1 + (T.2.2.2.1 w - (vx_p fn hh t w T).1))) (A + 3 + 2 * w) 1 = nI (vx_p fn hh t w T).1 := by rw [xu_ne (by omega)]; exact c3
    have hly := xq_Witness_layers ro (d + 4) z (xv_u2 C1 A 6 (nI (T.2.2.1 + (T.2.2.2.1 w - (vx_p fn hh t w T).1)))) J1 hp
    rw [hl8] at hly
    have hlx := xq_Witness_layer ro (d + 4) z (xv_u2 C1 A 6 (nI (T.2.2.1 + (T.2.2.2.1 w - (vx_p fn hh t w T).1)))) J1 hp hl8 (by have := hwf.1; omega) (i := 0) (by omega)
    rw [show nI 0 = (0 : Int32) from rfl, xu_ne (I := C1) (by omega)] at hlx
    have fin : ∀ (D : Nat → Nat → Int32) (lot sp gn l2 : Nat) (s2 : Nat → Nat), (∀ a, a ≠ 21 → a ≠ A → a ≠ A + 3 + 2 * w → a ≠ A + 3 + 2 * w + 1 → D a = C a) → (∀ k, k < 4 → D A k = C A k) → D A 4 = nI lot → D A 5 = nI sp → D A 6 = nI gn → (∀ j, j ≠ 1 → D (A + 3 + 2 * w) j = C (A + 3 + 2 * w) j) → D (A + 3 + 2 * w) 1 = nI l2 → (∀ j, j < l2 → D (A + 3 + 2 * w + 1) j = nI (s2 j)) → vx_C D A m hh t (lot, sp, gn, vx_q T.2.2.2.1 w l2, vx_q T.2.2.2.2 w s2) ∧ (∀ a, a ≠ 21 → a < A ∨ A + 23 ≤ a → D a = C a) ∧ ∀ k, k < 3 → D A k = C A k := by
      intro D lot sp gn l2 s2 d1 d2 d3 d4 d5 d6 d7 d8
      refine ⟨⟨by rw [d2 3 (by omega)]; exact r1, d3, d4, d5, fun v hv => ?_⟩, fun a q1 q2 => d1 a q1 (by omega) (by omega) (by omega), fun k hk => d2 k (by omega)⟩
      dsimp only
      unfold vx_q
      by_cases c : v = w
      · rw [c, if_pos rfl, if_pos rfl, show A + 4 + 2 * w = A + 3 + 2 * w + 1 by omega]
        exact ⟨by rw [d6 3 (by omega)]; exact b1, by rw [d6 2 (by omega)]; exact b2, d7, d8⟩
      · rw [if_neg c, if_neg c, d1 (A + 3 + 2 * v) (by omega) (by omega) (by omega) (by omega), d1 (A + 4 + 2 * v) (by omega) (by omega) (by omega) (by omega)]
        exact r5 v hv
    have hgone : nI T.2.2.1 + nI (T.2.2.2.1 w - (vx_p fn hh t w T).1) = nI (T.2.2.1 + (T.2.2.2.1 w - (vx_p fn hh t w T).1)) := nI_add _ _
    by_cases k0 : (vx_p fn hh t w T).1 = 0
    · rw [if_pos k0]
      have q0 : (nI (vx_p fn hh t w T).1 = 0) = True := eq_true (by rw [k0]; rfl)
      obtain ⟨x1, x2, x3⟩ := fin (xv_u2 C1 A 6 (nI (T.2.2.1 + (T.2.2.2.1 w - (vx_p fn hh t w T).1)))) T.1 T.2.1 (T.2.2.1 + T.2.2.2.1 w) 0 (vx_p fn hh t w T).2
        (fun a q1 q2 q3 q4 => by rw [xu_ne q2]; exact o2 a q1 q3 q4) (fun k hk => by rw [xu_ne2 (by omega)]; exact o1 k) (by rw [xu_ne2 (by omega), o1]; exact r2) (by rw [xu_ne2 (by omega), o1]; exact r3) (by rw [xu_eq, k0, Nat.sub_zero]) (fun j hj => by rw [xu_ne (by omega)]; exact o3 j hj) (by rw [hl8, k0]) (fun j hj => by omega)
      refine ⟨_, J1, c1, ?_, x1, x2, x3⟩
      rw [xe_Archive_live]
      simp only [xr_all, xf_all, if_true, if_false, true_or, or_true, eq_self, ite_not, Bool.false_eq_true, ite_self, and_self, true_and, and_true, false_and, and_false, not_true_eq_false, not_false_eq_true, xj_Archive_live, xb_Archive_live_0, xb_Archive_live_13, xb_Archive_live_52, xb_Archive_live_121, htold, vW_f hp, hho, vAr_f hA, r1, hop, ek7, ek6, c2, hgone, hly, q0]
    · rw [if_neg k0]
      have q0 : (nI (vx_p fn hh t w T).1 = 0) = False := by
        apply eq_false
        intro q
        exact k0 ((nI_eq (b := 0) (by have := hwf.1; omega) (by omega)).mp q)
      rw [if_pos (by omega), c4 0 (by have := hwf.1; omega)] at hlx
      have hsh := xq_Case_show ro (d + 4) z (xv_u2 C1 A 6 (nI (T.2.2.1 + (T.2.2.2.1 w - (vx_p fn hh t w T).1)))) (xv_u2 C1 A 6 (nI (T.2.2.1 + (T.2.2.2.1 w - (vx_p fn hh t w T).1))) 21) J1 (nI ((vx_p fn hh t w T).2 0)) (nI (vx_p fn hh t w T).1)
      rw [vg_Ks] at hsh
      have h21 : xv_u2 C1 A 6 (nI (T.2.2.1 + (T.2.2.2.1 w - (vx_p fn hh t w T).1))) 21 = C1 21 := xu_ne (by omega)
      rw [h21] at hsh
      have hdr : 25173 * nI T.1 + 13849 &&& 65535 = nI (vx_n T.1) := by
        rw [show (25173 : Int32) = nI 25173 from rfl, pk_mul, show (13849 : Int32) = nI 13849 from rfl, nI_add, pk_andN (by omega) 16 (by decide)]
        rfl
      have k4 : vg_K (xv_u2 C1 A 6 (nI (T.2.2.1 + (T.2.2.2.1 w - (vx_p fn hh t w T).1)))) (vg_u (vg_u (C1 21) 2 (nI ((vx_p fn hh t w T).2 0))) 3 (nI (vx_p fn hh t w T).1)) A 4 = nI T.1 := by
        rw [vg_Ko _ _ (by omega), xu_ne2 (by omega), o1]; exact r2
      have hpp := hwf.1
      have hnb : vx_n T.1 < 65536 := Nat.mod_lt _ (by decide)
      have k5 : xv_u2 (vg_K (xv_u2 C1 A 6 (nI (T.2.2.1 + (T.2.2.2.1 w - (vx_p fn hh t w T).1)))) (vg_u (vg_u (C1 21) 2 (nI ((vx_p fn hh t w T).2 0))) 3 (nI (vx_p fn hh t w T).1))) A 4 (nI (vx_n T.1)) A 4 = nI (vx_n T.1) := xu_eq
      have hrem : nI (vx_n T.1) - nI (vx_n T.1) / 10 * 10 = nI (vx_n T.1 % 10) := pk_rem (d := 10) (by omega) (by omega) (by omega)
      have z10 : ((10 : Int32) = 0) = False := eq_false (by decide)
      obtain ⟨J2, y1, y2⟩ := hf.2.2.1 ro (d + 1) z (xv_u2 (vg_K (xv_u2 C1 A 6 (nI (T.2.2.1 + (T.2.2.2.1 w - (vx_p fn hh t w T).1)))) (vg_u (vg_u (C1 21) 2 (nI ((vx_p fn hh t w T).2 0))) 3 (nI (vx_p fn hh t w T).1))) A 4 (nI (vx_n T.1))) J1 98 (Or.inr (Or.inr (Or.inr (Or.inr rfl)))) (fun a q1 q2 => by
        rw [xu_ne (by omega), vg_Ko _ _ (by omega), xu_ne (by omega), o2 a (by omega) (by omega) (by omega)]; exact hC a q1 q2)
      have hG := vx_Fc (g := vg_u (vg_u (C1 21) 2 (nI ((vx_p fn hh t w T).2 0))) 3 (nI (vx_p fn hh t w T).1)) (w := w) (h := hh w) (t := t) (x := (vx_p fn hh t w T).2 0) (l := (vx_p fn hh t w T).1)
        (by simp [vg_u]; rw [c7 0 (by omega) (by omega), vg_Ki]; rfl) (by simp [vg_u]; rw [c7 1 (by omega) (by omega), vg_Ki]; rfl) (by simp [vg_u]) (by simp [vg_u]) (by simp [vg_u]; rw [c7 4 (by omega) (by omega), vg_Ki]; rfl) (by simp [vg_u]; rw [c7 5 (by omega) (by omega), vg_Ki]; rfl) (by simp [vg_u]; rw [c7 6 (by omega) (by omega), vg_Ki]; rfl) (by simp [vg_u]; rw [c7 7 (by omega) (by omega), vg_Ki]; rfl)
      rw [xu_ne (by omega), vg_Ki, hf.2.1 98 _ _ hG, show nI 98 = (98 : Int32) from rfl] at y2
      clear hG
      have hrd : ∀ a, a ≠ 21 → a ≠ A → xv_u2 (vg_K (xv_u2 C1 A 6 (nI (T.2.2.1 + (T.2.2.2.1 w - (vx_p fn hh t w T).1)))) (vg_u (vg_u (C1 21) 2 (nI ((vx_p fn hh t w T).2 0))) 3 (nI (vx_p fn hh t w T).1))) A 4 (nI (vx_n T.1)) a = C1 a := fun a q1 q2 => by rw [xu_ne q2, vg_Ko _ _ q1, xu_ne q2]
      have hrA : ∀ k, k ≠ 4 → k ≠ 6 → xv_u2 (vg_K (xv_u2 C1 A 6 (nI (T.2.2.1 + (T.2.2.2.1 w - (vx_p fn hh t w T).1)))) (vg_u (vg_u (C1 21) 2 (nI ((vx_p fn hh t w T).2 0))) 3 (nI (vx_p fn hh t w T).1))) A 4 (nI (vx_n T.1)) A k = C A k := fun k q1 q2 => by rw [xu_ne2 (by omega), vg_Ko _ _ (by omega), xu_ne2 (by omega), o1]
      have hrA6 : xv_u2 (vg_K (xv_u2 C1 A 6 (nI (T.2.2.1 + (T.2.2.2.1 w - (vx_p fn hh t w T).1)))) (vg_u (vg_u (C1 21) 2 (nI ((vx_p fn hh t w T).2 0))) 3 (nI (vx_p fn hh t w T).1))) A 4 (nI (vx_n T.1)) A 6 = nI (T.2.2.1 + (T.2.2.2.1 w - (vx_p fn hh t w T).1)) := by rw [xu_ne2 (by omega), vg_Ko _ _ (by omega), xu_eq]
      by_cases k1 : vx_n T.1 % 10 < fn 98 (vx_F w (hh w) t ((vx_p fn hh t w T).2 0) (vx_p fn hh t w T).1)
      · have q1 : (nI (fn 98 (vx_F w (hh w) t ((vx_p fn hh t w T).2 0) (vx_p fn hh t w T).1)) ≤ nI (vx_n T.1 % 10)) = False := by (simp (disch := omega) only [vz_all, if_true, if_false, true_or, or_true, eq_self, ite_not, Bool.false_eq_true, ite_self, and_self, true_and, and_true, false_and, and_false, not_true_eq_false, not_false_eq_true, false_or, or_false])
        by_cases k2 : (vx_p fn hh t w T).1 < 12
        · rw [if_pos ⟨k1, k2⟩]
          have hsp := xq_sprout ro (d + 4) z (xv_u2 (vg_K (xv_u2 C1 A 6 (nI (T.2.2.1 + (T.2.2.2.1 w - (vx_p fn hh t w T).1)))) (vg_u (vg_u (C1 21) 2 (nI ((vx_p fn hh t w T).2 0))) 3 (nI (vx_p fn hh t w T).1))) A 4 (nI (vx_n T.1))) J2 hp (by rw [hrd _ (by omega) (by omega)]; exact c3) k2
          have hA5 : xv_u2 (xv_u2 (vx_up (xv_u2 (vg_K (xv_u2 C1 A 6 (nI (T.2.2.1 + (T.2.2.2.1 w - (vx_p fn hh t w T).1)))) (vg_u (vg_u (C1 21) 2 (nI ((vx_p fn hh t w T).2 0))) 3 (nI (vx_p fn hh t w T).1))) A 4 (nI (vx_n T.1))) (A + 3 + 2 * w + 1) 0) (A + 3 + 2 * w + 1) 0 50) (A + 3 + 2 * w) 1 (nI ((vx_p fn hh t w T).1 + 1)) A 5 = nI T.2.1 := by
            rw [xu_ne2 (by omega), xu_ne2 (by omega)]
            unfold vx_up
            rw [if_neg (by omega), hrA 5 (by omega) (by omega)]; exact r3
          obtain ⟨x1, x2, x3⟩ := fin (xv_u2 (xv_u2 (xv_u2 (vx_up (xv_u2 (vg_K (xv_u2 C1 A 6 (nI (T.2.2.1 + (T.2.2.2.1 w - (vx_p fn hh t w T).1)))) (vg_u (vg_u (C1 21) 2 (nI ((vx_p fn hh t w T).2 0))) 3 (nI (vx_p fn hh t w T).1))) A 4 (nI (vx_n T.1))) (A + 3 + 2 * w + 1) 0) (A + 3 + 2 * w + 1) 0 50) (A + 3 + 2 * w) 1 (nI ((vx_p fn hh t w T).1 + 1))) A 5 (nI (T.2.1 + 1))) (vx_n T.1) (T.2.1 + 1) (T.2.2.1 + (T.2.2.2.1 w - (vx_p fn hh t w T).1)) ((vx_p fn hh t w T).1 + 1) (fun j => if j = 0 then 50 else (vx_p fn hh t w T).2 (j - 1))
            (fun a q1 q2 q3 q4 => by
              rw [xu_ne q2, xu_ne q3, xu_ne q4]
              funext j
              unfold vx_up
              rw [if_neg (by omega), hrd a q1 q2, o2 a q1 q3 q4])
            (fun k hk => by
              rw [xu_ne2 (by omega), xu_ne2 (by omega), xu_ne2 (by omega)]
              unfold vx_up
              rw [if_neg (by omega), hrA k (by omega) (by omega)])
            (by
              rw [xu_ne2 (by omega), xu_ne2 (by omega), xu_ne2 (by omega)]
              unfold vx_up
              rw [if_neg (by omega), xu_eq])
            (by rw [xu_eq])
            (by
              rw [xu_ne2 (by omega), xu_ne2 (by omega), xu_ne2 (by omega)]
              unfold vx_up
              rw [if_neg (by omega), hrA6])
            (fun j hj => by
              rw [xu_ne2 (by omega), xu_ne2 (by omega), xu_ne2 (by omega)]
              unfold vx_up
              rw [if_neg (by omega), hrd _ (by omega) (by omega)]; exact o3 j hj)
            (by rw [xu_ne2 (by omega), xu_eq])
            (fun j hj => by
              rw [xu_ne2 (by omega), xu_ne2 (by omega)]
              try dsimp only
              by_cases c : j = 0
              · rw [if_pos c, c, xu_eq]; rfl
              · rw [if_neg c, xu_ne2 (by omega)]
                unfold vx_up
                rw [if_pos ⟨rfl, by omega, by omega⟩, hrd _ (by omega) (by omega)]
                exact c4 (j - 1) (by omega))
          refine ⟨_, J2, fun a q => by rw [y1 a q, c1 a q], ?_, x1, x2, x3⟩
          have z1 : ((1 : Int32) = 0) = False := eq_false (by decide)
          rw [xe_Archive_live]
          simp only [xr_all, xf_all, if_true, if_false, true_or, or_true, eq_self, ite_not, Bool.false_eq_true, ite_self, and_self, true_and, and_true, false_and, and_false, not_true_eq_false, not_false_eq_true, xj_Archive_live, xb_Archive_live_0, xb_Archive_live_13, xb_Archive_live_52, xb_Archive_live_121, htold, vW_f hp, hho, vAr_f hA, r1, hop, ek7, ek6, c2, hgone, hly, q0, hlx, hsh, k4, hdr, k5, z10, hrem, y2, q1, hsp, z1, hA5, nI_1]
        · have k12 : (vx_p fn hh t w T).1 = 12 := by omega
          rw [if_neg (fun q => k2 q.2)]
          have hsp := xq_sprout_no ro (d + 4) z (xv_u2 (vg_K (xv_u2 C1 A 6 (nI (T.2.2.1 + (T.2.2.2.1 w - (vx_p fn hh t w T).1)))) (vg_u (vg_u (C1 21) 2 (nI ((vx_p fn hh t w T).2 0))) 3 (nI (vx_p fn hh t w T).1))) A 4 (nI (vx_n T.1))) J2 hp (by rw [hrd _ (by omega) (by omega), c3, k12])
          obtain ⟨x1, x2, x3⟩ := fin (xv_u2 (vg_K (xv_u2 C1 A 6 (nI (T.2.2.1 + (T.2.2.2.1 w - (vx_p fn hh t w T).1)))) (vg_u (vg_u (C1 21) 2 (nI ((vx_p fn hh t w T).2 0))) 3 (nI (vx_p fn hh t w T).1))) A 4 (nI (vx_n T.1))) (vx_n T.1) T.2.1 (T.2.2.1 + (T.2.2.2.1 w - (vx_p fn hh t w T).1)) (vx_p fn hh t w T).1 (vx_p fn hh t w T).2
            (fun a q1 q2 q3 q4 => by rw [hrd a q1 q2, o2 a q1 q3 q4]) (fun k hk => hrA k (by omega) (by omega)) k5 (by rw [hrA 5 (by omega) (by omega)]; exact r3) hrA6 (fun j hj => by rw [hrd _ (by omega) (by omega)]; exact o3 j hj) (by rw [hrd _ (by omega) (by omega)]; exact c3) (fun j hj => by rw [hrd _ (by omega) (by omega)]; exact c4 j (by omega))
          refine ⟨_, J2, fun a q => by rw [y1 a q, c1 a q], ?_, x1, x2, x3⟩
          rw [xe_Archive_live]
          simp only [xr_all, xf_all, if_true, if_false, true_or, or_true, eq_self, ite_not, Bool.false_eq_true, ite_self, and_self, true_and, and_true, false_and, and_false, not_true_eq_false, not_false_eq_true, xj_Archive_live, xb_Archive_live_0, xb_Archive_live_13, xb_Archive_live_52, xb_Archive_live_121, htold, vW_f hp, hho, vAr_f hA, r1, hop, ek7, ek6, c2, hgone, hly, q0, hlx, hsh, k4, hdr, k5, z10, hrem, y2, q1, hsp]
      · have q1 : (nI (fn 98 (vx_F w (hh w) t ((vx_p fn hh t w T).2 0) (vx_p fn hh t w T).1)) ≤ nI (vx_n T.1 % 10)) = True := by (simp (disch := omega) only [vz_all, if_true, if_false, true_or, or_true, eq_self, ite_not, Bool.false_eq_true, ite_self, and_self, true_and, and_true, false_and, and_false, not_true_eq_false, not_false_eq_true, false_or, or_false])
        rw [if_neg (fun q => k1 q.1)]
        obtain ⟨x1, x2, x3⟩ := fin (xv_u2 (vg_K (xv_u2 C1 A 6 (nI (T.2.2.1 + (T.2.2.2.1 w - (vx_p fn hh t w T).1)))) (vg_u (vg_u (C1 21) 2 (nI ((vx_p fn hh t w T).2 0))) 3 (nI (vx_p fn hh t w T).1))) A 4 (nI (vx_n T.1))) (vx_n T.1) T.2.1 (T.2.2.1 + (T.2.2.2.1 w - (vx_p fn hh t w T).1)) (vx_p fn hh t w T).1 (vx_p fn hh t w T).2
          (fun a q1 q2 q3 q4 => by rw [hrd a q1 q2, o2 a q1 q3 q4]) (fun k hk => hrA k (by omega) (by omega)) k5 (by rw [hrA 5 (by omega) (by omega)]; exact r3) hrA6 (fun j hj => by rw [hrd _ (by omega) (by omega)]; exact o3 j hj) (by rw [hrd _ (by omega) (by omega)]; exact c3) (fun j hj => by rw [hrd _ (by omega) (by omega)]; exact c4 j (by omega))
        refine ⟨_, J2, fun a q => by rw [y1 a q, c1 a q], ?_, x1, x2, x3⟩
        rw [xe_Archive_live]
        simp only [xr_all, xf_all, if_true, if_false, true_or, or_true, eq_self, ite_not, Bool.false_eq_true, ite_self, and_self, true_and, and_true, false_and, and_false, not_true_eq_false, not_false_eq_true, xj_Archive_live, xb_Archive_live_0, xb_Archive_live_13, xb_Archive_live_52, xb_Archive_live_121, htold, vW_f hp, hho, vAr_f hA, r1, hop, ek7, ek6, c2, hgone, hly, q0, hlx, hsh, k4, hdr, k5, z10, hrem, y2, q1]
