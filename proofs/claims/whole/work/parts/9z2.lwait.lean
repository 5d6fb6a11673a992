/-! law: what waits, in the model -/
def l_W (K R : Nat → Int32) : List (Nat × Nat) → Nat → Prop
  | [], _ => True
  | (o, v) :: W, c => R W.length = nI (1048576 * o + v) ∧ o ≤ 14 ∧ (((o = 11 ∨ o = 12) ∧ v < c ∧ K v = nI (1048576 * o + 0) ∧ l_W K R W v) ∨ (¬ (o = 11 ∨ o = 12) ∧ v = 0 ∧ l_W K R W c))
theorem l_W_c {K R K' R' : Nat → Int32} : ∀ (W : List (Nat × Nat)) (c c' : Nat), l_W K R W c → c ≤ c' → (∀ i, i < c → K' i = K i) → (∀ i, i < W.length → R' i = R i) → l_W K' R' W c' := by
  intro W
  induction W with
  | nil => intro c c' _ _ _ _; exact trivial
  | cons a W ih =>
    obtain ⟨o, v⟩ := a
    intro c c' h hc hK hR
    obtain ⟨h1, h2, h3⟩ := h
    have hR' : ∀ i, i < W.length → R' i = R i := fun i hi => hR i (by simp; omega)
    refine ⟨by rw [hR W.length (by simp)]; exact h1, h2, ?_⟩
    rcases h3 with ⟨a1, a2, a3, a4⟩ | ⟨a1, a2, a3⟩
    · exact Or.inl ⟨a1, by omega, by rw [hK v a2]; exact a3, ih v v a4 (Nat.le_refl _) (fun i hi => hK i (by omega)) hR'⟩
    · exact Or.inr ⟨a1, a2, ih c c' a3 hc hK hR'⟩
def l_oc : List (Nat × Nat) → Nat
  | [] => 0
  | (o, _) :: W => (if o = 10 ∨ o = 13 ∨ o = 14 then 1 else 0) + l_oc W
def l_pc : List (Nat × Nat) → Nat
  | [] => 0
  | (o, _) :: W => (if o = 11 ∨ o = 12 then 0 else 1) + l_pc W
theorem l_oc_le : ∀ W : List (Nat × Nat), l_oc W ≤ W.length := by
  intro W
  induction W with
  | nil => exact Nat.le_refl _
  | cons a W ih =>
    obtain ⟨o, v⟩ := a
    show (if o = 10 ∨ o = 13 ∨ o = 14 then 1 else 0) + l_oc W ≤ W.length + 1
    split <;> omega
def l_s (M : Nat → Nat → Int32) (b : Nat → Nat) (n p : Nat) (W : List (Nat × Nat)) (c : Nat) : Prop := n ≤ 240 ∧ tp_M b n p M ∧ M 167 12 = nI (l_oc W) ∧ M 167 13 = nI c ∧ M 167 14 = nI W.length ∧ l_W (M 174) (M 175) W c ∧ c + l_pc W + b 1000 ≤ p ∧ W.length ≤ p
def l_g (M V : Nat → Nat → Int32) : Prop := (∀ a, a ≠ 167 → a ≠ 174 → a ≠ 175 → V a = M a) ∧ ∀ j, j ≠ 8 → j ≠ 10 → j ≠ 11 → j ≠ 12 → j ≠ 13 → j ≠ 14 → V 167 j = M 167 j
theorem l_gr (M : Nat → Nat → Int32) : l_g M M := ⟨fun _ _ _ _ => rfl, fun _ _ _ _ _ _ _ => rfl⟩
theorem l_gt {M V W : Nat → Nat → Int32} (h1 : l_g M V) (h2 : l_g V W) : l_g M W := ⟨fun a q1 q2 q3 => (h2.1 a q1 q2 q3).trans (h1.1 a q1 q2 q3), fun j q1 q2 q3 q4 q5 q6 => (h2.2 j q1 q2 q3 q4 q5 q6).trans (h1.2 j q1 q2 q3 q4 q5 q6)⟩
theorem l_g10 (M : Nat → Nat → Int32) (x : Int32) : l_g M (xv_u2 M 167 10 x) := ⟨fun a q1 _ _ => xu_ne q1, fun j _ q _ _ _ _ => xu_ne2 (fun g => q g.2)⟩
/-- a stack of stretches -/
def l_T (K : Nat → Int32) : List (l_D × Nat) → Nat → Prop
  | [], _ => True
  | (D, s) :: T, c => l_mS K s c D ∧ l_T K T s
theorem l_T_c {K K' : Nat → Int32} : ∀ (T : List (l_D × Nat)) (c : Nat), l_T K T c → (∀ i, i < c → K' i = K i) → l_T K' T c := by
  intro T
  induction T with
  | nil => intro c _ _; exact trivial
  | cons a T ih =>
    obtain ⟨D, s⟩ := a
    intro c h hK
    exact ⟨l_mS_c h.1 (fun i _ q => hK i q), ih s h.2 (fun i hi => hK i (by have := h.1.1; omega))⟩
def l_pop (al : Bool) (o : Nat) : Bool := (decide (4 ≤ o) && decide (o ≤ 6)) || (al && (o == 2 || o == 3))
theorem l_pop_t {al : Bool} {o : Nat} (h : l_pop al o = true) : 2 ≤ o ∧ o ≤ 6 ∧ ((4 ≤ o ∧ o ≤ 6) ∨ (al = true ∧ (o = 2 ∨ o = 3))) := by
  unfold l_pop at h
  simp at h
  rcases h with h | ⟨ha, h⟩
  · exact ⟨by omega, by omega, Or.inl h⟩
  · exact ⟨by omega, by omega, Or.inr ⟨ha, h⟩⟩
theorem l_pop_f {al : Bool} {o : Nat} (h : l_pop al o = false) : ¬ (4 ≤ o ∧ o ≤ 6) ∧ (al = false ∨ (o ≠ 2 ∧ o ≠ 3)) := by
  unfold l_pop at h
  cases al with
  | false => simp at h; exact ⟨by omega, Or.inl rfl⟩
  | true => simp at h; exact ⟨by omega, Or.inr (by omega)⟩
def l_J (al : Bool) : List (Nat × Nat) → List (l_D × Nat) → Option (List (Nat × Nat) × List (l_D × Nat))
  | [], T => some ([], T)
  | (o, v) :: W, T => if l_pop al o = true then (match T with
    | (B, _) :: (A, s) :: T' => l_J al W ((l_bin o A B, s) :: T')
    | _ => none) else some ((o, v) :: W, T)
def l_E : List (Nat × Nat) → l_D → List (Nat × Nat) × l_D
  | [], D => ([], D)
  | (o, v) :: W, D => if o = 10 then l_E W (l_not D) else ((o, v) :: W, D)
def l_up (K : Nat → Int32) (v : Nat) (x : Int32) : Nat → Int32 := fun j => if j = v then x else K j
def l_ld (al : Bool) (o : Nat) : Bool := o == 11 || (al && o == 12)
def l_L (al : Bool) (c : Nat) : List (Nat × Nat) → (Nat → Int32) → List (Nat × Nat) × (Nat → Int32)
  | [], K => ([], K)
  | (o, v) :: W, K => if l_ld al o = true then l_L al c W (l_up K v (nI (1048576 * o + c))) else ((o, v) :: W, K)
theorem l_wt {K R : Nat → Int32} {o v c : Nat} {W : List (Nat × Nat)} (h : l_W K R ((o, v) :: W) c) (hc : c ≤ 260) : o ≤ 14 ∧ v < 1048576 ∧ R W.length = nI (1048576 * o + v) := by
  obtain ⟨h1, h2, h3⟩ := h
  refine ⟨h2, ?_, h1⟩
  rcases h3 with ⟨-, a2, -⟩ | ⟨-, a2, -⟩ <;> omega
theorem xq_waitTop (ro : xv_Ro) (d : Nat) (z : Nat × Nat) (M : Nat → Nat → Int32) (J : Nat → Nat → Int64) {b : Nat → Nat} {n p c : Nat} {W : List (Nat × Nat)} (h : l_s M b n p W c) : xv_evm ro d 63 [.ref 167] (z, xv_mk M J) = some (some (.int (match W with | [] => -1 | (o, _) :: _ => nI o)), (z, xv_mk M J)) := by
  obtain ⟨h0, h1, h2, h3, h4, h5, h6, h7⟩ := h
  have hpn := h1.2.1
  rw [xe_Mo_waitTop]
  cases W with
  | nil =>
    have e : M 167 14 = 0 := h4
    simp only [xr_all, xf_all, if_true, if_false, true_or, or_true, eq_self, ite_not, Bool.false_eq_true, ite_self, and_self, true_and, and_true, false_and, and_false, not_true_eq_false, not_false_eq_true, xj_Mo_waitTop, xb_Mo_waitTop_0, xb_Mo_waitTop_11, xb_Mo_waitTop_25, e]
  | cons a W =>
    obtain ⟨o, v⟩ := a
    have hl : W.length + 1 ≤ p := h7
    obtain ⟨q1, q2, q3⟩ := l_wt h5 (by omega)
    obtain ⟨u1, u2⟩ := l_U (w := o) (v := v) q1 q2
    have e : M 167 14 = nI (W.length + 1) := h4
    have g0 : (nI (W.length + 1) = 0) = False := by (simp (disch := omega) only [vz_all, if_true, if_false, true_or, or_true, eq_self, ite_not, Bool.false_eq_true, ite_self, and_self, true_and, and_true, false_and, and_false, not_true_eq_false, not_false_eq_true, false_or, or_false])
    have g1 : xv_inB (nI W.length) 260 = true := by (simp (disch := omega) only [vz_all, if_true, if_false, true_or, or_true, eq_self, ite_not, Bool.false_eq_true, ite_self, and_self, true_and, and_true, false_and, and_false, not_true_eq_false, not_false_eq_true, false_or, or_false])
    have z1 : ((1048576 : Int32) = 0) = False := eq_false (by decide)
    simp only [xr_all, xf_all, if_true, if_false, true_or, or_true, eq_self, ite_not, Bool.false_eq_true, ite_self, and_self, true_and, and_true, false_and, and_false, not_true_eq_false, not_false_eq_true, xj_Mo_waitTop, xb_Mo_waitTop_0, xb_Mo_waitTop_11, xb_Mo_waitTop_25, e, g0, nI_pred, g1, nI_clamp (show W.length < 2 ^ 31 by omega), q3, u1, z1]
theorem xq_notes (ro : xv_Ro) (d : Nat) (z : Nat × Nat) (M : Nat → Nat → Int32) (J : Nat → Nat → Int64) {c o v : Nat} (h13 : M 167 13 = nI c) (hc : c < 260) : xv_evm ro d 61 [.ref 167, .int (nI o), .int (nI v)] (z, xv_mk M J) = some (none, (z, xv_mk (xv_u2 (xv_u2 M 174 c (nI (1048576 * o + v))) 167 13 (nI (c + 1))) J)) := by
  have g1 : xv_inB (nI c) 260 = true := by (simp (disch := omega) only [vz_all, if_true, if_false, true_or, or_true, eq_self, ite_not, Bool.false_eq_true, ite_self, and_self, true_and, and_true, false_and, and_false, not_true_eq_false, not_false_eq_true, false_or, or_false])
  have e1 : 1048576 * nI o + nI v = nI (1048576 * o + v) := by rw [show (1048576 : Int32) = nI 1048576 from rfl, pk_mul, nI_add]
  have e2 : ∀ y, xv_u2 M 174 c y 167 13 = nI c := fun y => by rw [xu_ne (by omega)]; exact h13
  rw [xe_Mo_notes]
  simp only [xr_all, xf_all, if_true, if_false, true_or, or_true, eq_self, ite_not, Bool.false_eq_true, ite_self, and_self, true_and, and_true, false_and, and_false, not_true_eq_false, not_false_eq_true, xj_Mo_notes, xb_Mo_notes_0, h13, g1, nI_clamp (show c < 2 ^ 31 by omega), e1, e2, nI_1]
theorem l_sc {M V : Nat → Nat → Int32} {b : Nat → Nat} {n p c : Nat} {W : List (Nat × Nat)} (h : l_s M b n p W c) (h1 : V 174 = M 174) (h2 : V 175 = M 175) (h3 : V 173 = M 173) (h4 : ∀ j, j ≠ 10 → j ≠ 11 → V 167 j = M 167 j) : l_s V b n p W c := by
  obtain ⟨g0, g1, g2, g3, g4, g5, g6, g7⟩ := h
  exact ⟨g0, tp_Mc g1 (h4 9 (by omega) (by omega)) (h4 8 (by omega) (by omega)) h3, by rw [h4 12 (by omega) (by omega)]; exact g2, by rw [h4 13 (by omega) (by omega)]; exact g3, by rw [h4 14 (by omega) (by omega)]; exact g4, by rw [h1, h2]; exact g5, g6, g7⟩
theorem xq_opens (ro : xv_Ro) (d : Nat) (z : Nat × Nat) (M : Nat → Nat → Int32) (J : Nat → Nat → Int64) {b : Nat → Nat} {n p c o : Nat} {W : List (Nat × Nat)} (h : l_s M b n p W c) (hp : p < n) (ho : o = 10 ∨ o = 13 ∨ o = 14) (hop : l_oc W < 6) : ∃ V, xv_evm ro (d + 1) 62 [.ref 167, .int (nI o)] (z, xv_mk M J) = some (some (.int 1), (z, xv_mk V J)) ∧ l_s V b n (p + 1) ((o, 0) :: W) c ∧ V 174 = M 174 ∧ l_g M V := by
  obtain ⟨h0, h1, h2, h3, h4, h5, h6, h7⟩ := h
  have g6 : (nI (l_oc W) = 6) = False := by (simp (disch := omega) only [vz_all, if_true, if_false, true_or, or_true, eq_self, ite_not, Bool.false_eq_true, ite_self, and_self, true_and, and_true, false_and, and_false, not_true_eq_false, not_false_eq_true, false_or, or_false])
  have g1 : xv_inB (nI W.length) 260 = true := by (simp (disch := omega) only [vz_all, if_true, if_false, true_or, or_true, eq_self, ite_not, Bool.false_eq_true, ite_self, and_self, true_and, and_true, false_and, and_false, not_true_eq_false, not_false_eq_true, false_or, or_false])
  have e1 : 1048576 * nI o = nI (1048576 * o) := by rw [show (1048576 : Int32) = nI 1048576 from rfl, pk_mul]
  have hp8 := h1.2.2.2.1
  have r1 : ∀ y, xv_u2 M 167 12 y 167 14 = nI W.length := fun y => by rw [xu_ne2 (by omega)]; exact h4
  have r2 : ∀ y y2, xv_u2 (xv_u2 M 167 12 y) 175 W.length y2 167 14 = nI W.length := fun y y2 => by rw [xu_ne (by omega)]; exact r1 y
  have r3 : ∀ y y2 y3, xv_u2 (xv_u2 (xv_u2 M 167 12 y) 175 W.length y2) 167 14 y3 167 8 = nI p := fun y y2 y3 => by rw [xu_ne2 (by omega), xu_ne (by omega), xu_ne2 (by omega)]; exact hp8
  refine ⟨xv_u2 (xv_u2 (xv_u2 (xv_u2 M 167 12 (nI (l_oc W + 1))) 175 W.length (nI (1048576 * o))) 167 14 (nI (W.length + 1))) 167 8 (nI (p + 1)), ?_, ⟨h0, tp_Ms (tp_Mc h1 (by (repeat (first | rw [xu_ne2 (by omega)] | rw [xu_ne (by omega)] | rw [xu_eq]))) (by (repeat (first | rw [xu_ne2 (by omega)] | rw [xu_ne (by omega)] | rw [xu_eq]))) (by (repeat (first | rw [xu_ne2 (by omega)] | rw [xu_ne (by omega)] | rw [xu_eq])))) hp, ?_, by (repeat (first | rw [xu_ne2 (by omega)] | rw [xu_ne (by omega)] | rw [xu_eq])); exact h3, by (repeat (first | rw [xu_ne2 (by omega)] | rw [xu_ne (by omega)] | rw [xu_eq])); rfl, ⟨by (repeat (first | rw [xu_ne2 (by omega)] | rw [xu_ne (by omega)] | rw [xu_eq])); rfl, by omega, Or.inr ⟨by omega, rfl, l_W_c W c c h5 (Nat.le_refl _) (fun i hi => by (repeat (first | rw [xu_ne2 (by omega)] | rw [xu_ne (by omega)] | rw [xu_eq]))) (fun i hi => by (repeat (first | rw [xu_ne2 (by omega)] | rw [xu_ne (by omega)] | rw [xu_eq])))⟩⟩, ?_, by show W.length + 1 ≤ p + 1; omega⟩, by (repeat (first | rw [xu_ne2 (by omega)] | rw [xu_ne (by omega)] | rw [xu_eq])), fun a q1 q2 q3 => by (repeat (first | rw [xu_ne2 (by omega)] | rw [xu_ne (by omega)] | rw [xu_eq])), fun j q1 q2 q3 q4 q5 q6 => by (repeat (first | rw [xu_ne2 (by omega)] | rw [xu_ne (by omega)] | rw [xu_eq]))⟩
  · rw [xe_Mo_opens]
    simp only [xr_all, xf_all, if_true, if_false, true_or, or_true, eq_self, ite_not, Bool.false_eq_true, ite_self, and_self, true_and, and_true, false_and, and_false, not_true_eq_false, not_false_eq_true, xj_Mo_opens, xb_Mo_opens_0, xb_Mo_opens_19, h2, g6, nI_1, r1, r2, r3, g1, nI_clamp (show W.length < 2 ^ 31 by omega), e1]
  · rw [xu_ne2 (by omega), xu_ne2 (by omega), xu_ne (by omega), xu_eq]
    show nI (l_oc W + 1) = nI ((if o = 10 ∨ o = 13 ∨ o = 14 then 1 else 0) + l_oc W)
    rw [if_pos ho, Nat.add_comm]
  · show c + ((if o = 11 ∨ o = 12 then 0 else 1) + l_pc W) + b 1000 ≤ p + 1
    rw [if_neg (by omega)]; omega
theorem xq_opens_x (ro : xv_Ro) (d : Nat) (z : Nat × Nat) (M : Nat → Nat → Int32) (J : Nat → Nat → Int64) {b : Nat → Nat} {n p c o : Nat} {W : List (Nat × Nat)} (h : l_s M b n p W c) (hop : l_oc W = 6) : xv_evm ro (d + 1) 62 [.ref 167, .int (nI o)] (z, xv_mk M J) = some (some (.int 0), (z, xv_mk (xv_u2 M 167 10 (-1000 * 5 - nI p)) J)) := by
  obtain ⟨h0, h1, h2, h3, h4, h5, h6, h7⟩ := h
  rw [hop] at h2
  have g6 : (nI 6 = 6) = True := eq_true rfl
  have hp8 := h1.2.2.2.1
  have hw := xq_wrongAt ro d z M J 5 (nI p)
  rw [xe_Mo_opens]
  simp only [xr_all, xf_all, if_true, if_false, true_or, or_true, eq_self, ite_not, Bool.false_eq_true, ite_self, and_self, true_and, and_true, false_and, and_false, not_true_eq_false, not_false_eq_true, xj_Mo_opens, xb_Mo_opens_0, xb_Mo_opens_19, h2, g6, hp8, hw]
theorem xq_closes (ro : xv_Ro) (d : Nat) (z : Nat × Nat) (J : Nat → Nat → Int64) {b : Nat → Nat} {n p : Nat} (al : Bool) {ai : Int32} (hai : ai = if al = true then 1 else 0) : ∀ (W : List (Nat × Nat)) (T : List (l_D × Nat)) (W' : List (Nat × Nat)) (T' : List (l_D × Nat)) (c : Nat) (M : Nat → Nat → Int32), l_s M b n p W c → l_T (M 174) T c → l_J al W T = some (W', T') → ∃ (V : Nat → Nat → Int32) (c' : Nat), xv_ev ro (d + 1) xm_Mo_closesSums xb_Mo_closesSums_0 [some (.ref 167), some (.int ai)] [] (z, xv_mk M J) = some (none, (z, xv_mk V J)) ∧ l_s V b n p W' c' ∧ l_T (V 174) T' c' ∧ c ≤ c' ∧ (∀ j, j < c → V 174 j = M 174 j) ∧ l_g M V := by
  intro W
  induction W with
  | nil =>
    intro T W' T' c M h hT hj
    cases hj
    have hs := xq_waitTop ro d z M J h
    dsimp only at hs
    have g1 : (4 ≤ (-1 : Int32)) = False := eq_false (by decide)
    have g1' : ((-1 : Int32) < 4) = True := eq_true (by decide)
    have g2 : ((-1 : Int32) = 2) = False := eq_false (by decide)
    have g3 : ((-1 : Int32) = 3) = False := eq_false (by decide)
    have z1 : ((1 : Int32) = 0) = False := eq_false (by decide)
    refine ⟨M, c, ?_, h, hT, Nat.le_refl _, fun _ _ => rfl, l_gr M⟩
    conv => lhs; unfold xb_Mo_closesSums_0
    cases al with
    | true =>
      rw [if_pos rfl] at hai; subst hai
      simp only [xr_all, xf_all, if_true, if_false, true_or, or_true, eq_self, ite_not, Bool.false_eq_true, ite_self, and_self, true_and, and_true, false_and, and_false, not_true_eq_false, not_false_eq_true, xj_Mo_closesSums, xb_Mo_closesSums_17, xb_Mo_closesSums_37, xb_Mo_closesSums_59, hs, g1, g1', g2, g3, z1]
    | false =>
      rw [if_neg (by decide)] at hai; subst hai
      simp only [xr_all, xf_all, if_true, if_false, true_or, or_true, eq_self, ite_not, Bool.false_eq_true, ite_self, and_self, true_and, and_true, false_and, and_false, not_true_eq_false, not_false_eq_true, xj_Mo_closesSums, xb_Mo_closesSums_17, xb_Mo_closesSums_37, xb_Mo_closesSums_59, hs, g1, g1']
  | cons a W ih =>
    obtain ⟨o, v⟩ := a
    intro T W' T' c M h hT hj
    have hs := xq_waitTop ro d z M J h
    dsimp only at hs
    have z1 : ((1 : Int32) = 0) = False := eq_false (by decide)
    unfold l_J at hj
    cases hpp : l_pop al o with
    | true =>
      obtain ⟨o1, o2, o3⟩ := l_pop_t hpp
      rw [if_pos hpp] at hj
      match T, hT, hj with
      | [], _, hj => cases hj
      | [a], _, hj => cases hj
      | (B, s2) :: (A, s1) :: T, hT, hj =>
        dsimp only at hj
        obtain ⟨t1, t2, t3⟩ := hT
        obtain ⟨h0, h1, h2, h3, h4, h5, h6, h7⟩ := id h
        have h6' : c + (1 + l_pc W) + b 1000 ≤ p := by
          have : c + ((if o = 11 ∨ o = 12 then 0 else 1) + l_pc W) + b 1000 ≤ p := h6
          rw [if_neg (by omega)] at this; exact this
        have h7' : W.length + 1 ≤ p := h7
        have hpn := h1.2.1
        have h4' : M 167 14 = nI (W.length + 1) := h4
        obtain ⟨w1, w2, w3⟩ := h5
        have w3' : v = 0 ∧ l_W (M 174) (M 175) W c := by
          rcases w3 with ⟨q, -⟩ | ⟨-, q1, q2⟩
          · omega
          · exact ⟨q1, q2⟩
        have hoc : l_oc ((o, v) :: W) = l_oc W := by
          show (if o = 10 ∨ o = 13 ∨ o = 14 then 1 else 0) + l_oc W = _
          rw [if_neg (by omega), Nat.zero_add]
        have hnt := xq_notes ro d z M J (o := o) (v := 0) h3 (by omega)
        rw [show nI 0 = (0 : Int32) from rfl] at hnt
        have r1 : ∀ y y2, xv_u2 (xv_u2 M 174 c y) 167 13 y2 167 14 = nI (W.length + 1) := fun y y2 => by rw [xu_ne2 (by omega), xu_ne (by omega)]; exact h4'
        have hq : l_s (xv_u2 (xv_u2 (xv_u2 M 174 c (nI (1048576 * o + 0))) 167 13 (nI (c + 1))) 167 14 (nI W.length)) b n p W (c + 1) := ⟨h0, tp_Mc h1 (by (repeat (first | rw [xu_ne2 (by omega)] | rw [xu_ne (by omega)] | rw [xu_eq]))) (by (repeat (first | rw [xu_ne2 (by omega)] | rw [xu_ne (by omega)] | rw [xu_eq]))) (by (repeat (first | rw [xu_ne2 (by omega)] | rw [xu_ne (by omega)] | rw [xu_eq]))), by rw [← hoc]; (repeat (first | rw [xu_ne2 (by omega)] | rw [xu_ne (by omega)] | rw [xu_eq])); exact h2, by (repeat (first | rw [xu_ne2 (by omega)] | rw [xu_ne (by omega)] | rw [xu_eq])), xu_eq, l_W_c W c (c + 1) w3'.2 (Nat.le_succ _) (fun i hi => by (repeat (first | rw [xu_ne2 (by omega)] | rw [xu_ne (by omega)] | rw [xu_eq]))) (fun i hi => by (repeat (first | rw [xu_ne2 (by omega)] | rw [xu_ne (by omega)] | rw [xu_eq]))), by omega, by omega⟩
        have hK : ∀ j, j < c → xv_u2 (xv_u2 (xv_u2 M 174 c (nI (1048576 * o + 0))) 167 13 (nI (c + 1))) 167 14 (nI W.length) 174 j = M 174 j := fun j hj => by (repeat (first | rw [xu_ne2 (by omega)] | rw [xu_ne (by omega)] | rw [xu_eq]))
        have hKc : xv_u2 (xv_u2 (xv_u2 M 174 c (nI (1048576 * o + 0))) 167 13 (nI (c + 1))) 167 14 (nI W.length) 174 c = nI (1048576 * o + 0) := by (repeat (first | rw [xu_ne2 (by omega)] | rw [xu_ne (by omega)] | rw [xu_eq]))
        have s12 := t1.1
        have s11 := t2.1
        have hT2 : l_T (xv_u2 (xv_u2 (xv_u2 M 174 c (nI (1048576 * o + 0))) 167 13 (nI (c + 1))) 167 14 (nI W.length) 174) ((l_bin o A B, s1) :: T) (c + 1) := ⟨l_m_op (l_mS_c t2 (fun i _ q => hK i (by omega))) (l_mS_c t1 (fun i _ q => hK i q)) (by omega) hKc, l_T_c T s1 t3 (fun i hi => hK i (by omega))⟩
        obtain ⟨V, c', k1, k2, k3, k4, k5, k6⟩ := ih _ W' T' (c + 1) _ hq hT2 hj
        refine ⟨V, c', ?_, k2, k3, by omega, fun j q => by rw [k5 j (by omega), hK j q], l_gt ⟨fun a q1 q2 q3 => by (repeat (first | rw [xu_ne2 (by omega)] | rw [xu_ne (by omega)] | rw [xu_eq])), fun j q1 q2 q3 q4 q5 q6 => by (repeat (first | rw [xu_ne2 (by omega)] | rw [xu_ne (by omega)] | rw [xu_eq]))⟩ k6⟩
        rw [← k1]
        conv => lhs; unfold xb_Mo_closesSums_0
        rcases o3 with o3 | ⟨rfl, o3⟩
        · have g1 : (4 ≤ nI o) = True := by (simp (disch := omega) only [vz_all, if_true, if_false, true_or, or_true, eq_self, ite_not, Bool.false_eq_true, ite_self, and_self, true_and, and_true, false_and, and_false, not_true_eq_false, not_false_eq_true, false_or, or_false])
          have g1' : (nI o < 4) = False := by (simp (disch := omega) only [vz_all, if_true, if_false, true_or, or_true, eq_self, ite_not, Bool.false_eq_true, ite_self, and_self, true_and, and_true, false_and, and_false, not_true_eq_false, not_false_eq_true, false_or, or_false])
          have g2 : (nI o ≤ 6) = True := by (simp (disch := omega) only [vz_all, if_true, if_false, true_or, or_true, eq_self, ite_not, Bool.false_eq_true, ite_self, and_self, true_and, and_true, false_and, and_false, not_true_eq_false, not_false_eq_true, false_or, or_false])
          simp only [xr_all, xf_all, if_true, if_false, true_or, or_true, eq_self, ite_not, Bool.false_eq_true, ite_self, and_self, true_and, and_true, false_and, and_false, not_true_eq_false, not_false_eq_true, xj_Mo_closesSums, xb_Mo_closesSums_17, xb_Mo_closesSums_37, xb_Mo_closesSums_59, hs, g1, g1', g2, hnt, r1, nI_pred]
        · rw [if_pos rfl] at hai; subst hai
          have g1 : (4 ≤ nI o) = False := by (simp (disch := omega) only [vz_all, if_true, if_false, true_or, or_true, eq_self, ite_not, Bool.false_eq_true, ite_self, and_self, true_and, and_true, false_and, and_false, not_true_eq_false, not_false_eq_true, false_or, or_false])
          have g1' : (nI o < 4) = True := by (simp (disch := omega) only [vz_all, if_true, if_false, true_or, or_true, eq_self, ite_not, Bool.false_eq_true, ite_self, and_self, true_and, and_true, false_and, and_false, not_true_eq_false, not_false_eq_true, false_or, or_false])
          rcases o3 with o3 | o3
          · have g2 : (nI o = 2) = True := by (simp (disch := omega) only [vz_all, if_true, if_false, true_or, or_true, eq_self, ite_not, Bool.false_eq_true, ite_self, and_self, true_and, and_true, false_and, and_false, not_true_eq_false, not_false_eq_true, false_or, or_false])
            simp only [xr_all, xf_all, if_true, if_false, true_or, or_true, eq_self, ite_not, Bool.false_eq_true, ite_self, and_self, true_and, and_true, false_and, and_false, not_true_eq_false, not_false_eq_true, xj_Mo_closesSums, xb_Mo_closesSums_17, xb_Mo_closesSums_37, xb_Mo_closesSums_59, hs, g1, g1', g2, z1, hnt, r1, nI_pred]
          · have g2 : (nI o = 2) = False := by (simp (disch := omega) only [vz_all, if_true, if_false, true_or, or_true, eq_self, ite_not, Bool.false_eq_true, ite_self, and_self, true_and, and_true, false_and, and_false, not_true_eq_false, not_false_eq_true, false_or, or_false])
            have g3 : (nI o = 3) = True := by (simp (disch := omega) only [vz_all, if_true, if_false, true_or, or_true, eq_self, ite_not, Bool.false_eq_true, ite_self, and_self, true_and, and_true, false_and, and_false, not_true_eq_false, not_false_eq_true, false_or, or_false])
            simp only [xr_all, xf_all, if_true, if_false, true_or, or_true, eq_self, ite_not, Bool.false_eq_true, ite_self, and_self, true_and, and_true, false_and, and_false, not_true_eq_false, not_false_eq_true, xj_Mo_closesSums, xb_Mo_closesSums_17, xb_Mo_closesSums_37, xb_Mo_closesSums_59, hs, g1, g1', g2, g3, z1, hnt, r1, nI_pred]
    | false =>
      rw [if_neg (by rw [hpp]; decide)] at hj
      cases hj
      obtain ⟨o1, o2⟩ := l_pop_f hpp
      have o14 : o ≤ 14 := h.2.2.2.2.2.1.2.1
      refine ⟨M, c, ?_, h, hT, Nat.le_refl _, fun _ _ => rfl, l_gr M⟩
      conv => lhs; unfold xb_Mo_closesSums_0
      have ga : ((nI o < 4) = True ∧ (4 ≤ nI o) = False) ∨ ((nI o < 4) = False ∧ (4 ≤ nI o) = True ∧ (nI o ≤ 6) = False) := by
        by_cases q : o < 4
        · left; exact ⟨by (simp (disch := omega) only [vz_all, if_true, if_false, true_or, or_true, eq_self, ite_not, Bool.false_eq_true, ite_self, and_self, true_and, and_true, false_and, and_false, not_true_eq_false, not_false_eq_true, false_or, or_false]), by (simp (disch := omega) only [vz_all, if_true, if_false, true_or, or_true, eq_self, ite_not, Bool.false_eq_true, ite_self, and_self, true_and, and_true, false_and, and_false, not_true_eq_false, not_false_eq_true, false_or, or_false])⟩
        · right; exact ⟨by (simp (disch := omega) only [vz_all, if_true, if_false, true_or, or_true, eq_self, ite_not, Bool.false_eq_true, ite_self, and_self, true_and, and_true, false_and, and_false, not_true_eq_false, not_false_eq_true, false_or, or_false]), by (simp (disch := omega) only [vz_all, if_true, if_false, true_or, or_true, eq_self, ite_not, Bool.false_eq_true, ite_self, and_self, true_and, and_true, false_and, and_false, not_true_eq_false, not_false_eq_true, false_or, or_false]), by (simp (disch := omega) only [vz_all, if_true, if_false, true_or, or_true, eq_self, ite_not, Bool.false_eq_true, ite_self, and_self, true_and, and_true, false_and, and_false, not_true_eq_false, not_false_eq_true, false_or, or_false])⟩
      cases al with
      | false =>
        rw [if_neg (by decide)] at hai; subst hai
        rcases ga with ⟨g1, g2⟩ | ⟨g1, g2, g3⟩
        · simp only [xr_all, xf_all, if_true, if_false, true_or, or_true, eq_self, ite_not, Bool.false_eq_true, ite_self, and_self, true_and, and_true, false_and, and_false, not_true_eq_false, not_false_eq_true, xj_Mo_closesSums, xb_Mo_closesSums_17, xb_Mo_closesSums_37, xb_Mo_closesSums_59, hs, g1, g2]
        · simp only [xr_all, xf_all, if_true, if_false, true_or, or_true, eq_self, ite_not, Bool.false_eq_true, ite_self, and_self, true_and, and_true, false_and, and_false, not_true_eq_false, not_false_eq_true, xj_Mo_closesSums, xb_Mo_closesSums_17, xb_Mo_closesSums_37, xb_Mo_closesSums_59, hs, g1, g2, g3]
      | true =>
        rw [if_pos rfl] at hai; subst hai
        have o2' : o ≠ 2 ∧ o ≠ 3 := by
          rcases o2 with q | q
          · cases q
          · exact q
        have g4 : (nI o = 2) = False := by (simp (disch := omega) only [vz_all, if_true, if_false, true_or, or_true, eq_self, ite_not, Bool.false_eq_true, ite_self, and_self, true_and, and_true, false_and, and_false, not_true_eq_false, not_false_eq_true, false_or, or_false])
        have g5 : (nI o = 3) = False := by (simp (disch := omega) only [vz_all, if_true, if_false, true_or, or_true, eq_self, ite_not, Bool.false_eq_true, ite_self, and_self, true_and, and_true, false_and, and_false, not_true_eq_false, not_false_eq_true, false_or, or_false])
        rcases ga with ⟨g1, g2⟩ | ⟨g1, g2, g3⟩
        · simp only [xr_all, xf_all, if_true, if_false, true_or, or_true, eq_self, ite_not, Bool.false_eq_true, ite_self, and_self, true_and, and_true, false_and, and_false, not_true_eq_false, not_false_eq_true, xj_Mo_closesSums, xb_Mo_closesSums_17, xb_Mo_closesSums_37, xb_Mo_closesSums_59, hs, g1, g2, g4, g5, z1]
        · simp only [xr_all, xf_all, if_true, if_false, true_or, or_true, eq_self, ite_not, Bool.false_eq_true, ite_self, and_self, true_and, and_true, false_and, and_false, not_true_eq_false, not_false_eq_true, xj_Mo_closesSums, xb_Mo_closesSums_17, xb_Mo_closesSums_37, xb_Mo_closesSums_59, hs, g1, g2, g3, g4, g5, z1]
