/-! question: the model's steps behind a piece, and its ends -/
theorem q_Jl {w : Nat} : ∀ (S : List Nat) (T : List Int32) (S' : List Nat) (T' : List Int32), w ≤ 32 → q_J w S T = some (S', T') → S'.length ≤ S.length ∧ T'.length ≤ T.length ∧ op_c S' = op_c S := by
  intro S
  induction S with
  | nil => intro T S' T' hw h; cases h; exact ⟨Nat.le_refl _, Nat.le_refl _, rfl⟩
  | cons s S ih =>
    intro T S' T' hw h
    unfold q_J at h
    by_cases c : 30 ≤ s ∧ s ≤ w
    · rw [if_pos c] at h
      match T, h with
      | [], h => cases h
      | [a], h => cases h
      | b :: a :: T, h =>
        dsimp only at h
        obtain ⟨i1, i2, i3⟩ := ih _ _ _ hw h
        refine ⟨Nat.le_trans i1 (Nat.le_succ _), Nat.le_trans i2 (Nat.le_succ _), ?_⟩
        rw [i3]
        show op_c S = (if s = 33 ∨ s = 90 then 1 else 0) + op_c S
        rw [if_neg (by omega), Nat.zero_add]
    · rw [if_neg c] at h
      cases h
      exact ⟨Nat.le_refl _, Nat.le_refl _, rfl⟩
theorem q_El : ∀ (S : List Nat) (x : Int32), (q_E S x).1.length ≤ S.length := by
  intro S
  induction S with
  | nil => intro x; exact Nat.le_refl _
  | cons s S ih =>
    intro x
    unfold q_E
    by_cases c : s = 33
    · rw [if_pos c]; exact Nat.le_trans (ih _) (Nat.le_succ _)
    · rw [if_neg c]; exact Nat.le_refl _
theorem xq_joinsTo2 (ro : xv_Ro) (d : Nat) (z : Nat × Nat) {w : Nat} (hw : 30 ≤ w ∧ w ≤ 32) {S : List Nat} {T : List Int32} {S' : List Nat} {T' : List Int32} {M : Nat → Nat → Int32} {J : Nat → Nat → Int64} (h : q_s M J S T) (hj : q_J w S T = some (S', T')) : ∃ V K, xv_evm ro (d + 1) 85 [.ref 167, .int (nI w)] (z, xv_mk M J) = some (none, (z, xv_mk V K)) ∧ q_s V K S' T' ∧ q_f M J V K := by
  obtain ⟨V, K, k1, k2, k3⟩ := xq_joinsTo ro d z hw S T S' T' M J h hj
  refine ⟨V, K, ?_, k2, k3⟩
  rw [xe_Mo_joinsTo]; exact k1
/-- & ^ | -/
theorem q_sP {ro : xv_Ro} {x1 x2 : Int32} {M : Nat → Nat → Int32} {J : Nat → Nat → Int64} {b : Nat → Nat} {n p : Nat} {S S' : List Nat} {T T' : List Int32} {w : Nat} (hn : n ≤ 60) (h : q_m M J b n p S T 0) (hp : p < n) (hw : (b p = 38 ∧ w = 30) ∨ (b p = 94 ∧ w = 31) ∨ (b p = 124 ∧ w = 32)) (hj : q_J w S T = some (S', T')) : ∃ V K, q_H ro x1 x2 M J = q_H ro x1 x2 V K ∧ q_m V K b n (p + 1) (w :: S') T' 1 ∧ q_g M J V K := by
  have hM := h.1
  obtain ⟨-, hs, h34, h35, hS, hT⟩ := id h
  have hb := (hM.2.2.2.2 p hp).1
  have hh := xq_here ro 197 xv_SZ M J hM
  have ev : tp_c b n p = nI (b p) := if_pos hp
  rw [ev] at hh
  have hp8 := hM.2.2.2.1
  obtain ⟨V, K, k1, k2, k3⟩ := xq_joinsTo2 ro 196 xv_SZ (w := w) (by omega) hs hj
  obtain ⟨i1, i2, i3⟩ := q_Jl S T S' T' (by omega) hj
  obtain ⟨V2, l1, l2, l3, l4⟩ := xq_waitsFor ro 197 xv_SZ V K (w := w) k2 (by omega) (by omega)
  have e8 : V2 167 8 = nI p := by rw [l4 8 (by omega), k3.2.1 8 (by omega) (by omega)]; exact hp8
  have hVM : tp_M b n p V2 := tp_Mc hM (by rw [l4 9 (by omega), k3.2.1 9 (by omega) (by omega)]) (by rw [l4 8 (by omega), k3.2.1 8 (by omega) (by omega)]) (by rw [l3 173 (by omega) (by omega), k3.1 173 (by omega)])
  have opc : op_c (w :: S') = op_c S := by
    show (if w = 33 ∨ w = 90 then 1 else 0) + op_c S' = _
    rw [if_neg (by omega), Nat.zero_add, i3]
  obtain ⟨m1, m2, m3, m4, m5, m6, m7⟩ := l2
  refine ⟨xv_u2 (xv_u2 V2 167 8 (nI (p + 1))) 167 35 1, K, (q_hS h hp).1 ?_, ⟨tp_Mc (tp_Ms hVM hp) (by (repeat (first | rw [xu_ne2 (by omega)] | rw [xu_ne (by omega)] | rw [xu_eq]))) (by (repeat (first | rw [xu_ne2 (by omega)] | rw [xu_ne (by omega)] | rw [xu_eq]))) (by (repeat (first | rw [xu_ne2 (by omega)] | rw [xu_ne (by omega)] | rw [xu_eq]))), ⟨by (repeat (first | rw [xu_ne2 (by omega)] | rw [xu_ne (by omega)] | rw [xu_eq])); exact m1, by (repeat (first | rw [xu_ne2 (by omega)] | rw [xu_ne (by omega)] | rw [xu_eq])); exact m2, by (repeat (first | rw [xu_ne2 (by omega)] | rw [xu_ne (by omega)] | rw [xu_eq])); exact m3, m4, m5, m6, m7⟩, ?_, xu_eq, by show S'.length + 1 ≤ p + 1; omega, by omega⟩, fun a q1 q2 => by rw [xu_ne q1, xu_ne q1, l3 a q1 q2, k3.1 a q1], fun j q1 q2 q3 q4 q5 q6 => by rw [xu_ne2 (by omega), xu_ne2 (by omega), l4 j q3, k3.2.1 j q3 q4], fun a q => k3.2.2 a q⟩
  · rw [xe_Mo_readsSign]
    have g41 : (nI (b p) = 41) = False := by (simp (disch := omega) only [vz_all, if_true, if_false, true_or, or_true, eq_self, ite_not, Bool.false_eq_true, ite_self, and_self, true_and, and_true, false_and, and_false, not_true_eq_false, not_false_eq_true, false_or, or_false])
    rcases hw with ⟨c, rfl⟩ | ⟨c, rfl⟩ | ⟨c, rfl⟩
    · have g38 : (nI (b p) = 38) = True := by (simp (disch := omega) only [vz_all, if_true, if_false, true_or, or_true, eq_self, ite_not, Bool.false_eq_true, ite_self, and_self, true_and, and_true, false_and, and_false, not_true_eq_false, not_false_eq_true, false_or, or_false])
      have zm : ((30 : Int32) = -1) = False := eq_false (by decide)
      rw [show nI 30 = (30 : Int32) from rfl] at k1 l1
      simp only [xr_all, xf_all, if_true, if_false, true_or, or_true, eq_self, ite_not, Bool.false_eq_true, ite_self, and_self, true_and, and_true, false_and, and_false, not_true_eq_false, not_false_eq_true, xj_Mo_readsSign, xb_Mo_readsSign_0, xb_Mo_readsSign_36, xb_Mo_readsSign_72, xb_Mo_readsSign_83, xb_Mo_readsSign_94, xb_Mo_readsSign_105, xb_Mo_readsSign_106, xb_Mo_readsSign_122, hh, g41, g38, zm, k1, l1, e8, nI_1]
    · have g38 : (nI (b p) = 38) = False := by (simp (disch := omega) only [vz_all, if_true, if_false, true_or, or_true, eq_self, ite_not, Bool.false_eq_true, ite_self, and_self, true_and, and_true, false_and, and_false, not_true_eq_false, not_false_eq_true, false_or, or_false])
      have g94 : (nI (b p) = 94) = True := by (simp (disch := omega) only [vz_all, if_true, if_false, true_or, or_true, eq_self, ite_not, Bool.false_eq_true, ite_self, and_self, true_and, and_true, false_and, and_false, not_true_eq_false, not_false_eq_true, false_or, or_false])
      have zm : ((31 : Int32) = -1) = False := eq_false (by decide)
      rw [show nI 31 = (31 : Int32) from rfl] at k1 l1
      simp only [xr_all, xf_all, if_true, if_false, true_or, or_true, eq_self, ite_not, Bool.false_eq_true, ite_self, and_self, true_and, and_true, false_and, and_false, not_true_eq_false, not_false_eq_true, xj_Mo_readsSign, xb_Mo_readsSign_0, xb_Mo_readsSign_36, xb_Mo_readsSign_72, xb_Mo_readsSign_83, xb_Mo_readsSign_94, xb_Mo_readsSign_105, xb_Mo_readsSign_106, xb_Mo_readsSign_122, hh, g41, g38, g94, zm, k1, l1, e8, nI_1]
    · have g38 : (nI (b p) = 38) = False := by (simp (disch := omega) only [vz_all, if_true, if_false, true_or, or_true, eq_self, ite_not, Bool.false_eq_true, ite_self, and_self, true_and, and_true, false_and, and_false, not_true_eq_false, not_false_eq_true, false_or, or_false])
      have g94 : (nI (b p) = 94) = False := by (simp (disch := omega) only [vz_all, if_true, if_false, true_or, or_true, eq_self, ite_not, Bool.false_eq_true, ite_self, and_self, true_and, and_true, false_and, and_false, not_true_eq_false, not_false_eq_true, false_or, or_false])
      have g124 : (nI (b p) = 124) = True := by (simp (disch := omega) only [vz_all, if_true, if_false, true_or, or_true, eq_self, ite_not, Bool.false_eq_true, ite_self, and_self, true_and, and_true, false_and, and_false, not_true_eq_false, not_false_eq_true, false_or, or_false])
      have zm : ((32 : Int32) = -1) = False := eq_false (by decide)
      rw [show nI 32 = (32 : Int32) from rfl] at k1 l1
      simp only [xr_all, xf_all, if_true, if_false, true_or, or_true, eq_self, ite_not, Bool.false_eq_true, ite_self, and_self, true_and, and_true, false_and, and_false, not_true_eq_false, not_false_eq_true, xj_Mo_readsSign, xb_Mo_readsSign_0, xb_Mo_readsSign_36, xb_Mo_readsSign_72, xb_Mo_readsSign_83, xb_Mo_readsSign_94, xb_Mo_readsSign_105, xb_Mo_readsSign_106, xb_Mo_readsSign_122, hh, g41, g38, g94, g124, zm, k1, l1, e8, nI_1]
  · rw [xu_ne2 (by omega), xu_ne2 (by omega), l4 34 (by omega), k3.2.1 34 (by omega) (by omega), h34, opc]
/-- a ) that closes -/
theorem q_sC {ro : xv_Ro} {x1 x2 : Int32} {M : Nat → Nat → Int32} {J : Nat → Nat → Int64} {b : Nat → Nat} {n p : Nat} {S S' : List Nat} {T T' : List Int32} {x : Int32} (hn : n ≤ 60) (h : q_m M J b n p S T 0) (hp : p < n) (hb41 : b p = 41) (hj : q_J 32 S T = some (90 :: S', x :: T')) : ∃ V K, q_H ro x1 x2 M J = q_H ro x1 x2 V K ∧ q_m V K b n (p + 1) (q_E S' x).1 ((q_E S' x).2 :: T') 0 ∧ q_g M J V K := by
  have hM := h.1
  obtain ⟨-, hs, h34, h35, hS, hT⟩ := id h
  have hb := (hM.2.2.2.2 p hp).1
  have hh := xq_here ro 197 xv_SZ M J hM
  have ev : tp_c b n p = nI (b p) := if_pos hp
  rw [ev] at hh
  have hp8 := hM.2.2.2.1
  obtain ⟨V, K, k1, k2, k3⟩ := xq_joinsTo2 ro 196 xv_SZ (w := 32) (by omega) hs hj
  obtain ⟨i1, i2, i3⟩ := q_Jl S T _ _ (by omega) hj
  have i1' : S'.length + 1 ≤ S.length := i1
  have i2' : T'.length + 1 ≤ T.length := i2
  have opc : op_c S = op_c S' + 1 := by
    rw [← i3]
    show (if 90 = 33 ∨ 90 = 90 then 1 else 0) + op_c S' = _
    rw [if_pos (Or.inr rfl), Nat.add_comm]
  have hls := xq_lastSign ro 197 xv_SZ V K k2
  dsimp only at hls
  obtain ⟨m1, m2, m3, m4, m5, m6, m7⟩ := k2
  have m1' : V 167 32 = nI (S'.length + 1) := m1
  have e34 : V 167 34 = nI (op_c S' + 1) := by rw [k3.2.1 34 (by omega) (by omega), h34, opc]
  have e8 : V 167 8 = nI p := by rw [k3.2.1 8 (by omega) (by omega)]; exact hp8
  have q1 : q_s (xv_u2 (xv_u2 (xv_u2 V 167 32 (nI S'.length)) 167 34 (nI (op_c S'))) 167 8 (nI (p + 1))) K S' (x :: T') := ⟨by (repeat (first | rw [xu_ne2 (by omega)] | rw [xu_ne (by omega)] | rw [xu_eq])), by (repeat (first | rw [xu_ne2 (by omega)] | rw [xu_ne (by omega)] | rw [xu_eq])); exact m2.2, by (repeat (first | rw [xu_ne2 (by omega)] | rw [xu_ne (by omega)] | rw [xu_eq])); exact m3, m4, by omega, m6, fun s hs => m7 s (List.mem_cons_of_mem _ hs)⟩
  obtain ⟨W, L, r1, r2, r3, r4, r5, r6, r7⟩ := xq_endsTruth ro 196 xv_SZ S' x _ _ q1 (by (repeat (first | rw [xu_ne2 (by omega)] | rw [xu_ne (by omega)] | rw [xu_eq])))
  have hel := q_El S' x
  refine ⟨W, L, (q_hS h hp).1 ?_, ⟨?_, r2, r3, r4, by omega, by show T'.length + 1 ≤ p + 1; omega⟩, fun a q1 q2 => by rw [r5 a q1, xu_ne q1, xu_ne q1, xu_ne q1, k3.1 a q1], fun j q1 q2 q3 q4 q5 q6 => by rw [r6 j q3 q4 q5 q6, xu_ne2 (by omega), xu_ne2 (by omega), xu_ne2 (by omega), k3.2.1 j q3 q4], fun a q => (r7 a q).trans (k3.2.2 a q)⟩
  · have hex : xv_evm ro 197 86 [.ref 167] (xv_SZ, xv_mk (xv_u2 (xv_u2 (xv_u2 V 167 32 (nI S'.length)) 167 34 (nI (op_c S'))) 167 8 (nI (p + 1))) K) = some (none, (xv_SZ, xv_mk W L)) := by
      rw [xe_Mo_endsTruth]; exact r1
    have g41 : (nI (b p) = 41) = True := by (simp (disch := omega) only [vz_all, if_true, if_false, true_or, or_true, eq_self, ite_not, Bool.false_eq_true, ite_self, and_self, true_and, and_true, false_and, and_false, not_true_eq_false, not_false_eq_true, false_or, or_false])
    have g90 : (nI 90 = 90) = True := eq_true rfl
    have f34 : ∀ y, xv_u2 V 167 32 y 167 34 = nI (op_c S' + 1) := fun y => by rw [xu_ne2 (by omega)]; exact e34
    have f8 : ∀ y y2, xv_u2 (xv_u2 V 167 32 y) 167 34 y2 167 8 = nI p := fun y y2 => by rw [xu_ne2 (by omega), xu_ne2 (by omega)]; exact e8
    rw [show nI 32 = (32 : Int32) from rfl] at k1
    rw [xe_Mo_readsSign]
    simp only [xr_all, xf_all, if_true, if_false, true_or, or_true, eq_self, ite_not, Bool.false_eq_true, ite_self, and_self, true_and, and_true, false_and, and_false, not_true_eq_false, not_false_eq_true, xj_Mo_readsSign, xb_Mo_readsSign_0, xb_Mo_readsSign_36, xb_Mo_readsSign_72, xb_Mo_readsSign_83, xb_Mo_readsSign_94, xb_Mo_readsSign_105, xb_Mo_readsSign_106, xb_Mo_readsSign_122, hh, g41, k1, hls, g90, m1', nI_pred, f34, f8, nI_1, hex]
  · have hq : tp_M b n (p + 1) (xv_u2 (xv_u2 (xv_u2 V 167 32 (nI S'.length)) 167 34 (nI (op_c S'))) 167 8 (nI (p + 1))) := tp_Ms (tp_Mc hM (by rw [xu_ne2 (by omega), xu_ne2 (by omega), k3.2.1 9 (by omega) (by omega)]) (by rw [xu_ne2 (by omega), xu_ne2 (by omega), k3.2.1 8 (by omega) (by omega)]) (by rw [xu_ne (by omega), xu_ne (by omega), k3.1 173 (by omega)])) hp
    exact tp_Mc hq (r6 9 (by omega) (by omega) (by omega) (by omega)) (r6 8 (by omega) (by omega) (by omega) (by omega)) (r5 173 (by omega))
/-- what can't stand there, behind a piece -/
theorem q_sY {ro : xv_Ro} {x1 x2 : Int32} {M : Nat → Nat → Int32} {J : Nat → Nat → Int64} {b : Nat → Nat} {n p : Nat} {S : List Nat} {T : List Int32} (h : q_m M J b n p S T 0) (hp : p < n) (hf : (b p ≠ 41 ∧ b p ≠ 38 ∧ b p ≠ 94 ∧ b p ≠ 124) ∨ (b p = 41 ∧ ∃ T', q_J 32 S T = some ([], T'))) : q_B ro x1 x2 M J 1 p := by
  have hM := h.1
  obtain ⟨-, hs, h34, h35, hS, hT⟩ := id h
  have hb := (hM.2.2.2.2 p hp).1
  have hh := xq_here ro 197 xv_SZ M J hM
  have ev : tp_c b n p = nI (b p) := if_pos hp
  rw [ev] at hh
  have hp8 := hM.2.2.2.1
  rcases hf with ⟨c1, c2, c3, c4⟩ | ⟨c, T', hj⟩
  · refine ⟨xv_u2 M 167 10 (-1000 * 1 - nI p), J, ?_, q_g10 M J _⟩
    have g41 : (nI (b p) = 41) = False := by (simp (disch := omega) only [vz_all, if_true, if_false, true_or, or_true, eq_self, ite_not, Bool.false_eq_true, ite_self, and_self, true_and, and_true, false_and, and_false, not_true_eq_false, not_false_eq_true, false_or, or_false])
    have g38 : (nI (b p) = 38) = False := by (simp (disch := omega) only [vz_all, if_true, if_false, true_or, or_true, eq_self, ite_not, Bool.false_eq_true, ite_self, and_self, true_and, and_true, false_and, and_false, not_true_eq_false, not_false_eq_true, false_or, or_false])
    have g94 : (nI (b p) = 94) = False := by (simp (disch := omega) only [vz_all, if_true, if_false, true_or, or_true, eq_self, ite_not, Bool.false_eq_true, ite_self, and_self, true_and, and_true, false_and, and_false, not_true_eq_false, not_false_eq_true, false_or, or_false])
    have g124 : (nI (b p) = 124) = False := by (simp (disch := omega) only [vz_all, if_true, if_false, true_or, or_true, eq_self, ite_not, Bool.false_eq_true, ite_self, and_self, true_and, and_true, false_and, and_false, not_true_eq_false, not_false_eq_true, false_or, or_false])
    have hw := xq_wrongAt ro 197 xv_SZ M J 1 (nI p)
    have key : xv_evm ro 198 89 [.ref 167] (xv_SZ, xv_mk M J) = some (some (.int 0), (xv_SZ, xv_mk (xv_u2 M 167 10 (-1000 * 1 - nI p)) J)) := by
      rw [xe_Mo_readsSign]
      simp only [xr_all, xf_all, if_true, if_false, true_or, or_true, eq_self, ite_not, Bool.false_eq_true, ite_self, and_self, true_and, and_true, false_and, and_false, not_true_eq_false, not_false_eq_true, xj_Mo_readsSign, xb_Mo_readsSign_0, xb_Mo_readsSign_36, xb_Mo_readsSign_72, xb_Mo_readsSign_83, xb_Mo_readsSign_94, xb_Mo_readsSign_105, xb_Mo_readsSign_106, xb_Mo_readsSign_122, hh, g41, g38, g94, g124, hp8, hw]
    rw [(q_hS (x1 := x1) (x2 := x2) h hp).2 key, xu_eq]
    rfl
  · obtain ⟨V, K, k1, k2, k3⟩ := xq_joinsTo2 ro 196 xv_SZ (w := 32) (by omega) hs hj
    have hls := xq_lastSign ro 197 xv_SZ V K k2
    dsimp only at hls
    have e8 : V 167 8 = nI p := by rw [k3.2.1 8 (by omega) (by omega)]; exact hp8
    have g41 : (nI (b p) = 41) = True := by (simp (disch := omega) only [vz_all, if_true, if_false, true_or, or_true, eq_self, ite_not, Bool.false_eq_true, ite_self, and_self, true_and, and_true, false_and, and_false, not_true_eq_false, not_false_eq_true, false_or, or_false])
    have g90 : ((-1 : Int32) = 90) = False := eq_false (by decide)
    have hw := xq_wrongAt ro 197 xv_SZ V K 1 (nI p)
    rw [show nI 32 = (32 : Int32) from rfl] at k1
    have key : xv_evm ro 198 89 [.ref 167] (xv_SZ, xv_mk M J) = some (some (.int 0), (xv_SZ, xv_mk (xv_u2 V 167 10 (-1000 * 1 - nI p)) K)) := by
      rw [xe_Mo_readsSign]
      simp only [xr_all, xf_all, if_true, if_false, true_or, or_true, eq_self, ite_not, Bool.false_eq_true, ite_self, and_self, true_and, and_true, false_and, and_false, not_true_eq_false, not_false_eq_true, xj_Mo_readsSign, xb_Mo_readsSign_0, xb_Mo_readsSign_36, xb_Mo_readsSign_72, xb_Mo_readsSign_83, xb_Mo_readsSign_94, xb_Mo_readsSign_105, xb_Mo_readsSign_106, xb_Mo_readsSign_122, hh, g41, k1, hls, g90, e8, hw]
    refine ⟨_, K, by rw [(q_hS (x1 := x1) (x2 := x2) h hp).2 key, xu_eq]; rfl, fun a q1 q2 => by rw [xu_ne q1, k3.1 a q1], fun j q1 q2 q3 q4 q5 q6 => by rw [xu_ne2 (by omega), k3.2.1 j q3 q4], fun a q => k3.2.2 a q⟩
/-- the end, where more must come -/
theorem q_sN {ro : xv_Ro} {x1 x2 : Int32} {M : Nat → Nat → Int32} {J : Nat → Nat → Int64} {b : Nat → Nat} {n : Nat} {S : List Nat} {T : List Int32} {nx : Nat} (h : q_m M J b n n S T nx) (hf : nx = 1 ∨ (nx = 0 ∧ ∃ s S' T', q_J 32 S T = some (s :: S', T'))) : q_B ro x1 x2 M J 1 n := by
  have hM := h.1
  obtain ⟨-, hs, h34, h35, hS, hT⟩ := id h
  have hn := hM.1
  have hp8 := hM.2.2.2.1
  have hn9 := hM.2.2.1
  have z1 : ((1 : Int32) = 0) = False := eq_false (by decide)
  have gp : (nI n ≤ nI n) = True := by (simp (disch := omega) only [vz_all, if_true, if_false, true_or, or_true, eq_self, ite_not, Bool.false_eq_true, ite_self, and_self, true_and, and_true, false_and, and_false, not_true_eq_false, not_false_eq_true, false_or, or_false])
  rcases hf with rfl | ⟨rfl, s, S', T', hj⟩
  · have e35 : M 167 35 = 1 := h35
    have hw := xq_wrongAt ro 198 xv_SZ M J 1 (nI n)
    refine ⟨xv_u2 M 167 10 (-1000 * 1 - nI n), J, ?_, q_g10 M J _⟩
    have e10 : ∀ y, xv_u2 M 167 10 y 167 10 = y := fun y => xu_eq
    conv => lhs; unfold q_H xb_Mo_question_67
    simp only [xr_all, xf_all, if_true, if_false, true_or, or_true, eq_self, ite_not, Bool.false_eq_true, ite_self, and_self, true_and, and_true, false_and, and_false, not_true_eq_false, not_false_eq_true, xj_Mo_question, xb_Mo_question_0, xb_Mo_question_28, xb_Mo_question_30, xb_Mo_question_96, xb_Mo_question_100, xb_Mo_question_104, xb_Mo_question_113, xb_Mo_question_126, xb_Mo_question_140, xb_Mo_question_155, z1, hp8, hn9, gp, e35, hw, e10]
    rfl
  · have e35 : M 167 35 = 0 := h35
    obtain ⟨V, K, k1, k2, k3⟩ := xq_joinsTo2 ro 197 xv_SZ (w := 32) (by omega) hs hj
    have e8 : V 167 8 = nI n := by rw [k3.2.1 8 (by omega) (by omega)]; exact hp8
    have f35 : V 167 35 = 0 := by rw [k3.2.1 35 (by omega) (by omega)]; exact e35
    have e32 : V 167 32 = nI (S'.length + 1) := k2.1
    have hl : S'.length + 1 ≤ 60 := k2.2.2.2.2.1
    have g32 : (nI (S'.length + 1) ≤ 0) = False := by (simp (disch := omega) only [vz_all, if_true, if_false, true_or, or_true, eq_self, ite_not, Bool.false_eq_true, ite_self, and_self, true_and, and_true, false_and, and_false, not_true_eq_false, not_false_eq_true, false_or, or_false])
    have hw := xq_wrongAt ro 198 xv_SZ V K 1 (nI n)
    have e10 : ∀ y, xv_u2 V 167 10 y 167 10 = y := fun y => xu_eq
    rw [show nI 32 = (32 : Int32) from rfl] at k1
    refine ⟨xv_u2 V 167 10 (-1000 * 1 - nI n), K, ?_, fun a q1 q2 => by rw [xu_ne q1, k3.1 a q1], fun j q1 q2 q3 q4 q5 q6 => by rw [xu_ne2 (by omega), k3.2.1 j q3 q4], fun a q => k3.2.2 a q⟩
    conv => lhs; unfold q_H xb_Mo_question_67
    simp only [xr_all, xf_all, if_true, if_false, true_or, or_true, eq_self, ite_not, Bool.false_eq_true, ite_self, and_self, true_and, and_true, false_and, and_false, not_true_eq_false, not_false_eq_true, xj_Mo_question, xb_Mo_question_0, xb_Mo_question_28, xb_Mo_question_30, xb_Mo_question_96, xb_Mo_question_100, xb_Mo_question_104, xb_Mo_question_113, xb_Mo_question_126, xb_Mo_question_140, xb_Mo_question_155, z1, hp8, hn9, gp, e35, k1, f35, e32, g32, e8, hw, e10]
    rfl
/-- the end, all read -/
theorem q_sG {ro : xv_Ro} {x2 : Int32} {M : Nat → Nat → Int32} {J : Nat → Nat → Int64} {b : Nat → Nat} {n k qm : Nat} {S : List Nat} {T : List Int32} {x : Int32} (h : q_m M J b n n S T 0) (hj : q_J 32 S T = some ([], [x])) (hk : k < 8) (h5 : M 167 5 = nI qm) : ∃ V K, q_H ro (nI k) x2 M J = some (some (.int (nI (vb_ct (vq_N x) 32))), (xv_SZ, xv_mk (xv_u2 V 167 5 (nI (qm ||| 2 ^ k))) (xv_u2 K 172 k (vq_L x)))) ∧ q_g M J V K := by
  have hM := h.1
  obtain ⟨-, hs, h34, h35, hS, hT⟩ := id h
  have hn := hM.1
  have hp8 := hM.2.2.2.1
  have hn9 := hM.2.2.1
  have z1 : ((1 : Int32) = 0) = False := eq_false (by decide)
  have z00 : ((0 : Int32) ≤ 0) = True := eq_true (by decide)
  have gp : (nI n ≤ nI n) = True := by (simp (disch := omega) only [vz_all, if_true, if_false, true_or, or_true, eq_self, ite_not, Bool.false_eq_true, ite_self, and_self, true_and, and_true, false_and, and_false, not_true_eq_false, not_false_eq_true, false_or, or_false])
  have e35 : M 167 35 = 0 := h35
  obtain ⟨V, K, k1, k2, k3⟩ := xq_joinsTo2 ro 197 xv_SZ (w := 32) (by omega) hs hj
  have f35 : V 167 35 = 0 := by rw [k3.2.1 35 (by omega) (by omega)]; exact e35
  have f5 : V 167 5 = nI qm := by rw [k3.2.1 5 (by omega) (by omega)]; exact h5
  have e32 : V 167 32 = 0 := k2.1
  have e188 : K 188 0 = vq_L x := k2.2.2.2.1.1
  have ik : xv_inB (nI k) 8 = true := by (simp (disch := omega) only [vz_all, if_true, if_false, true_or, or_true, eq_self, ite_not, Bool.false_eq_true, ite_self, and_self, true_and, and_true, false_and, and_false, not_true_eq_false, not_false_eq_true, false_or, or_false])
  have i0 : xv_inB 0 60 = true := by decide
  have c0 : (0 : Int32).toNatClampNeg = 0 := by decide
  have eor : nI qm ||| ((1 : Int32) <<< (nI k &&& 31)) = nI (qm ||| 2 ^ k) := by rw [vh_sh k (by omega), vb_nor]
  have f188 : xv_u2 K 172 k (vq_L x) 188 0 = vq_L x := by rw [xu_ne (by omega)]; exact e188
  have hbits := vl_bits ro 197 (xv_SZ, xv_mk (xv_u2 V 167 5 (nI (qm ||| 2 ^ k))) (xv_u2 K 172 k (vq_L x))) (m := vq_N x) (by have := vq_N_lt x; omega)
  rw [show lN (vq_N x) = vq_L x from rfl] at hbits
  rw [show nI 32 = (32 : Int32) from rfl] at k1
  refine ⟨V, K, ?_, fun a q1 q2 => k3.1 a q1, fun j q1 q2 q3 q4 q5 q6 => k3.2.1 j q3 q4, fun a q => k3.2.2 a q⟩
  conv => lhs; unfold q_H xb_Mo_question_67
  simp only [xr_all, xf_all, if_true, if_false, true_or, or_true, eq_self, ite_not, Bool.false_eq_true, ite_self, and_self, true_and, and_true, false_and, and_false, not_true_eq_false, not_false_eq_true, xj_Mo_question, xb_Mo_question_0, xb_Mo_question_28, xb_Mo_question_30, xb_Mo_question_96, xb_Mo_question_100, xb_Mo_question_104, xb_Mo_question_113, xb_Mo_question_126, xb_Mo_question_140, xb_Mo_question_155, z1, hp8, hn9, gp, e35, k1, f35, e32, z00, f5, eor, ik, nI_clamp (show k < 2 ^ 31 by omega), i0, c0, e188, f188, hbits]
