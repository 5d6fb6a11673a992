/-! question: a piece -/
theorem q_pn {b : Nat → Nat} {n p : Nat} (hb : p < n → b p < 256) (h : p < n → ¬ (97 ≤ b p ∧ b p ≤ 101)) : (tp_c b n p - 97 < 0) = True ∨ ((tp_c b n p - 97 < 0) = False ∧ (tp_c b n p - 97 < 5) = False) := by
  obtain ⟨-, h2, -⟩ := tl_sub (b := b) (n := n) (p := p) 97 5 (by omega) (by omega) hb (fun q => h q.1 ⟨q.2.1, by omega⟩)
  rw [show nI 97 = (97 : Int32) from rfl, show nI 5 = (5 : Int32) from rfl] at h2
  exact h2
/-- the class's piece that is no opening sign -/
theorem q_pcA {ro : xv_Ro} (hro : ro 1000000 = some (5, xv_wof)) (e : Nat) (z : Nat × Nat) (I : Nat → Nat → Int32) (J : Nat → Nat → Int64) {b : Nat → Nat} {n p : Nat} {x : Int32} (x2 : Int32) (hC : tp_C b n p I) (hp : p < n) (ha : q_at (b p) = some x) : xv_evm ro (e + 4) 231 [.ref 1, .int x2] (z, xv_mk I J) = some (some (.int x), (z, xv_mk (xv_u2 I 1 3 (nI (p + 1))) J)) := by
  have hb := (hC.2.2.2.2.2 p hp).1
  have hs := xq_sign ro (e + 3) z I J hC
  have ev : tp_c b n p = nI (b p) := if_pos hp
  have hst := xq_step ro (e + 3) z I J hC hp
  have t49 := xq_take ro (e + 2) z I J (c := 49) hC (by omega)
  have t48 := xq_expect ro (e + 1) z I J (c := 48) hC (by omega)
  rw [show nI 49 = (49 : Int32) from rfl] at t49
  rw [show nI 48 = (48 : Int32) from rfl] at t48
  have z1 : ((1 : Int32) = 0) = False := eq_false (by decide)
  unfold q_at at ha
  rw [xe_Questions_piece]
  by_cases c1 : 97 ≤ b p ∧ b p ≤ 101
  · rw [if_pos c1] at ha
    cases ha
    rw [ev] at hs
    have g40 : (nI (b p) = 40) = False := by (simp (disch := omega) only [vz_all, if_true, if_false, true_or, or_true, eq_self, ite_not, Bool.false_eq_true, ite_self, and_self, true_and, and_true, false_and, and_false, not_true_eq_false, not_false_eq_true, false_or, or_false])
    have g33 : (nI (b p) = 33) = False := by (simp (disch := omega) only [vz_all, if_true, if_false, true_or, or_true, eq_self, ite_not, Bool.false_eq_true, ite_self, and_self, true_and, and_true, false_and, and_false, not_true_eq_false, not_false_eq_true, false_or, or_false])
    have es : nI (b p) - 97 = nI (b p - 97) := by (simp (disch := omega) only [vz_all, if_true, if_false, true_or, or_true, eq_self, ite_not, Bool.false_eq_true, ite_self, and_self, true_and, and_true, false_and, and_false, not_true_eq_false, not_false_eq_true, false_or, or_false])
    have g0 : (nI (b p - 97) < 0) = False := by (simp (disch := omega) only [vz_all, if_true, if_false, true_or, or_true, eq_self, ite_not, Bool.false_eq_true, ite_self, and_self, true_and, and_true, false_and, and_false, not_true_eq_false, not_false_eq_true, false_or, or_false])
    have g5 : (5 ≤ nI (b p - 97)) = False := by (simp (disch := omega) only [vz_all, if_true, if_false, true_or, or_true, eq_self, ite_not, Bool.false_eq_true, ite_self, and_self, true_and, and_true, false_and, and_false, not_true_eq_false, not_false_eq_true, false_or, or_false])
    have g5' : (Int32.ofNat 5 ≤ nI (b p - 97)) = False := g5
    have i5 : xv_inB (nI (b p - 97)) 5 = true := by (simp (disch := omega) only [vz_all, if_true, if_false, true_or, or_true, eq_self, ite_not, Bool.false_eq_true, ite_self, and_self, true_and, and_true, false_and, and_false, not_true_eq_false, not_false_eq_true, false_or, or_false])
    simp only [xr_all, xf_all, if_true, if_false, true_or, or_true, eq_self, ite_not, Bool.false_eq_true, ite_self, and_self, true_and, and_true, false_and, and_false, not_true_eq_false, not_false_eq_true, xj_Questions_piece, xb_Questions_piece_0, xb_Questions_piece_17, xb_Questions_piece_23, xb_Questions_piece_50, xb_Questions_piece_61, hs, g40, g33, es, g0, hro, Option.isSome_some, g5, g5', hst, i5, nI_clamp (show b p - 97 < 2 ^ 31 by omega)]
  · rw [if_neg c1] at ha
    have hfa := q_pn (b := b) (n := n) (p := p) (fun _ => hb) (fun _ => c1)
    have g5F : (tp_c b n p - 97 < 5) = False → (5 ≤ tp_c b n p - 97) = True := fun q => eq_true (Int32.not_lt.mp (fun g => by rw [q] at g; exact g))
    by_cases c2 : b p = 49
    · rw [if_pos c2] at ha
      cases ha
      have g40 : (tp_c b n p = 40) = False := by rw [ev]; (simp (disch := omega) only [vz_all, if_true, if_false, true_or, or_true, eq_self, ite_not, Bool.false_eq_true, ite_self, and_self, true_and, and_true, false_and, and_false, not_true_eq_false, not_false_eq_true, false_or, or_false])
      have g33 : (tp_c b n p = 33) = False := by rw [ev]; (simp (disch := omega) only [vz_all, if_true, if_false, true_or, or_true, eq_self, ite_not, Bool.false_eq_true, ite_self, and_self, true_and, and_true, false_and, and_false, not_true_eq_false, not_false_eq_true, false_or, or_false])
      rw [if_pos ⟨hp, c2⟩] at t49
      rcases hfa with g | ⟨g, g5⟩
      · simp only [xr_all, xf_all, if_true, if_false, true_or, or_true, eq_self, ite_not, Bool.false_eq_true, ite_self, and_self, true_and, and_true, false_and, and_false, not_true_eq_false, not_false_eq_true, xj_Questions_piece, xb_Questions_piece_0, xb_Questions_piece_17, xb_Questions_piece_23, xb_Questions_piece_50, xb_Questions_piece_61, hs, g40, g33, g, t49, z1]
      · have g5 := g5F g5
        have g5' : (Int32.ofNat 5 ≤ tp_c b n p - 97) = True := g5
        simp only [xr_all, xf_all, if_true, if_false, true_or, or_true, eq_self, ite_not, Bool.false_eq_true, ite_self, and_self, true_and, and_true, false_and, and_false, not_true_eq_false, not_false_eq_true, xj_Questions_piece, xb_Questions_piece_0, xb_Questions_piece_17, xb_Questions_piece_23, xb_Questions_piece_50, xb_Questions_piece_61, hs, g40, g33, g, hro, Option.isSome_some, g5, g5', t49, z1]
    · rw [if_neg c2] at ha
      by_cases c3 : b p = 48
      · rw [if_pos c3] at ha
        cases ha
        have g40 : (tp_c b n p = 40) = False := by rw [ev]; (simp (disch := omega) only [vz_all, if_true, if_false, true_or, or_true, eq_self, ite_not, Bool.false_eq_true, ite_self, and_self, true_and, and_true, false_and, and_false, not_true_eq_false, not_false_eq_true, false_or, or_false])
        have g33 : (tp_c b n p = 33) = False := by rw [ev]; (simp (disch := omega) only [vz_all, if_true, if_false, true_or, or_true, eq_self, ite_not, Bool.false_eq_true, ite_self, and_self, true_and, and_true, false_and, and_false, not_true_eq_false, not_false_eq_true, false_or, or_false])
        rw [if_neg (fun q => c2 q.2)] at t49
        rw [if_pos ⟨hp, c3⟩] at t48
        rcases hfa with g | ⟨g, g5⟩
        · simp only [xr_all, xf_all, if_true, if_false, true_or, or_true, eq_self, ite_not, Bool.false_eq_true, ite_self, and_self, true_and, and_true, false_and, and_false, not_true_eq_false, not_false_eq_true, xj_Questions_piece, xb_Questions_piece_0, xb_Questions_piece_17, xb_Questions_piece_23, xb_Questions_piece_50, xb_Questions_piece_61, hs, g40, g33, g, t49, t48]
        · have g5 := g5F g5
          have g5' : (Int32.ofNat 5 ≤ tp_c b n p - 97) = True := g5
          simp only [xr_all, xf_all, if_true, if_false, true_or, or_true, eq_self, ite_not, Bool.false_eq_true, ite_self, and_self, true_and, and_true, false_and, and_false, not_true_eq_false, not_false_eq_true, xj_Questions_piece, xb_Questions_piece_0, xb_Questions_piece_17, xb_Questions_piece_23, xb_Questions_piece_50, xb_Questions_piece_61, hs, g40, g33, g, hro, Option.isSome_some, g5, g5', t49, t48]
      · rw [if_neg c3] at ha; cases ha
theorem q_pcX {ro : xv_Ro} (hro : ro 1000000 = some (5, xv_wof)) (e : Nat) (z : Nat × Nat) (I : Nat → Nat → Int32) (J : Nat → Nat → Int64) {b : Nat → Nat} {n p : Nat} (x2 : Int32) (hC : tp_C b n p I) (ha : p < n → q_at (b p) = none ∧ b p ≠ 33 ∧ b p ≠ 40) : ∃ v, xv_evm ro (e + 4) 231 [.ref 1, .int x2] (z, xv_mk I J) = some (some (.int v), (z, xv_mk (xv_u2 I 1 4 (-1000 * 1 - nI p)) J)) := by
  have hb := fun hp : p < n => (hC.2.2.2.2.2 p hp).1
  have hs := xq_sign ro (e + 3) z I J hC
  have t49 := xq_take ro (e + 2) z I J (c := 49) hC (by omega)
  have t48 := xq_expect ro (e + 1) z I J (c := 48) hC (by omega)
  rw [show nI 49 = (49 : Int32) from rfl] at t49
  rw [show nI 48 = (48 : Int32) from rfl] at t48
  have hno : ∀ c, (c = 40 ∨ c = 33) → (tp_c b n p = nI c) = False := by
    intro c hc
    rw [tp_ceq hb (by omega)]
    apply eq_false
    rintro ⟨q1, q2⟩
    obtain ⟨-, e1, e2⟩ := ha q1
    omega
  have g40 := hno 40 (Or.inl rfl)
  have g33 := hno 33 (Or.inr rfl)
  rw [show nI 40 = (40 : Int32) from rfl] at g40
  rw [show nI 33 = (33 : Int32) from rfl] at g33
  have hfa := q_pn (b := b) (n := n) (p := p) hb (fun hp => (q_at_no (ha hp).1).1)
  rw [if_neg (fun q => (q_at_no (ha q.1).1).2.1 q.2)] at t49
  rw [if_neg (fun q => (q_at_no (ha q.1).1).2.2 q.2)] at t48
  have g5F : (tp_c b n p - 97 < 5) = False → (5 ≤ tp_c b n p - 97) = True := fun q => eq_true (Int32.not_lt.mp (fun g => by rw [q] at g; exact g))
  refine ⟨0, ?_⟩
  rw [xe_Questions_piece]
  rcases hfa with g | ⟨g, g5⟩
  · simp only [xr_all, xf_all, if_true, if_false, true_or, or_true, eq_self, ite_not, Bool.false_eq_true, ite_self, and_self, true_and, and_true, false_and, and_false, not_true_eq_false, not_false_eq_true, xj_Questions_piece, xb_Questions_piece_0, xb_Questions_piece_17, xb_Questions_piece_23, xb_Questions_piece_50, xb_Questions_piece_61, hs, g40, g33, g, t49, t48]
  · have g5 := g5F g5
    have g5' : (Int32.ofNat 5 ≤ tp_c b n p - 97) = True := g5
    simp only [xr_all, xf_all, if_true, if_false, true_or, or_true, eq_self, ite_not, Bool.false_eq_true, ite_self, and_self, true_and, and_true, false_and, and_false, not_true_eq_false, not_false_eq_true, xj_Questions_piece, xb_Questions_piece_0, xb_Questions_piece_17, xb_Questions_piece_23, xb_Questions_piece_50, xb_Questions_piece_61, hs, g40, g33, g, hro, Option.isSome_some, g5, g5', t49, t48]
theorem q_piece {ro : xv_Ro} (hro : ro 1000000 = some (5, xv_wof)) {b : Nat → Nat} {n K : Nat} (hn : n ≤ 60) (hP : q_pl ro b n K) (hS : q_lv ro 228 32 7 b n K) : q_pl ro b n (K + 1) := by
  intro p o I J d hk ho hC hd
  obtain ⟨e, rfl⟩ : ∃ e, d = e + 4 := ⟨d - 4, by omega⟩
  have hpn := hC.2.1
  by_cases hp : p < n
  rotate_left
  · obtain rfl : p = n := by omega
    obtain ⟨v, k1⟩ := q_pcX hro e xv_SZ I J (nI o) hC (fun q => absurd q hp)
    refine ⟨.inl (1, p), v, _, k1, ⟨by omega, by omega, by omega, tl_fr4 I _, xu_eq⟩, fun x1 x2 M JM S T hm hop => q_sN hm (Or.inl rfl)⟩
  have hb := (hC.2.2.2.2.2 p hp).1
  cases ha : q_at (b p) with
  | some x =>
    refine ⟨.inr (x, p + 1), x, _, q_pcA hro e xv_SZ I J (nI o) hC hp ha, ⟨rfl, Nat.le_refl _, tp_Cs hC hp, tl_fr3 I _⟩, fun x1 x2 M JM S T hm hop => q_sA hn hm hp ha⟩
  | none =>
    by_cases hop : b p = 33 ∨ b p = 40
    rotate_left
    · obtain ⟨v, k1⟩ := q_pcX hro e xv_SZ I J (nI o) hC (fun _ => ⟨ha, fun q => hop (Or.inl q), fun q => hop (Or.inr q)⟩)
      exact ⟨.inl (1, p), v, _, k1, ⟨by omega, by omega, by omega, tl_fr4 I _, xu_eq⟩, fun x1 x2 M JM S T hm ho => q_sX hm hp (Or.inl ⟨rfl, ha, fun q => hop (Or.inl q), fun q => hop (Or.inr q)⟩)⟩
    · have hs := xq_sign ro (e + 3) xv_SZ I J hC
      have ev : tp_c b n p = nI (b p) := if_pos hp
      rw [ev] at hs
      have cls : ∀ R, xv_evm ro (e + 3) 232 [.ref 1, .int (nI o)] (xv_SZ, xv_mk I J) = R → (∃ v σ, R = some (some (.int v), σ)) → xv_evm ro (e + 4) 231 [.ref 1, .int (nI o)] (xv_SZ, xv_mk I J) = R := by
        intro R hR hv
        obtain ⟨v, σ, rfl⟩ := hv
        rw [xe_Questions_piece]
        rcases hop with c | c
        · have g40 : (nI (b p) = 40) = False := by (simp (disch := omega) only [vz_all, if_true, if_false, true_or, or_true, eq_self, ite_not, Bool.false_eq_true, ite_self, and_self, true_and, and_true, false_and, and_false, not_true_eq_false, not_false_eq_true, false_or, or_false])
          have g33 : (nI (b p) = 33) = True := by (simp (disch := omega) only [vz_all, if_true, if_false, true_or, or_true, eq_self, ite_not, Bool.false_eq_true, ite_self, and_self, true_and, and_true, false_and, and_false, not_true_eq_false, not_false_eq_true, false_or, or_false])
          simp only [xr_all, xf_all, if_true, if_false, true_or, or_true, eq_self, ite_not, Bool.false_eq_true, ite_self, and_self, true_and, and_true, false_and, and_false, not_true_eq_false, not_false_eq_true, xj_Questions_piece, xb_Questions_piece_0, xb_Questions_piece_17, xb_Questions_piece_23, xb_Questions_piece_50, xb_Questions_piece_61, hs, g40, g33, hR]
        · have g40 : (nI (b p) = 40) = True := by (simp (disch := omega) only [vz_all, if_true, if_false, true_or, or_true, eq_self, ite_not, Bool.false_eq_true, ite_self, and_self, true_and, and_true, false_and, and_false, not_true_eq_false, not_false_eq_true, false_or, or_false])
          simp only [xr_all, xf_all, if_true, if_false, true_or, or_true, eq_self, ite_not, Bool.false_eq_true, ite_self, and_self, true_and, and_true, false_and, and_false, not_true_eq_false, not_false_eq_true, xj_Questions_piece, xb_Questions_piece_0, xb_Questions_piece_17, xb_Questions_piece_23, xb_Questions_piece_50, xb_Questions_piece_61, hs, g40, hR]
      by_cases h6 : o = 6
      · subst h6
        have hpl := xq_Tape_place ro (e + 2) xv_SZ I J
        rw [hC.2.2.2.1] at hpl
        have hr := xq_refuse ro (e + 2) xv_SZ I J 5 (nI p) hC.2.2.2.2.1
        have g6 : (nI 6 < 6) = False := eq_false (by decide)
        have hopn : xv_evm ro (e + 3) 232 [.ref 1, .int (nI 6)] (xv_SZ, xv_mk I J) = some (some (.int 0), (xv_SZ, xv_mk (xv_u2 I 1 4 (-1000 * 5 - nI p)) J)) := by
          rw [xe_Questions_opened]
          simp only [xr_all, xf_all, if_true, if_false, true_or, or_true, eq_self, ite_not, Bool.false_eq_true, ite_self, and_self, true_and, and_true, false_and, and_false, not_true_eq_false, not_false_eq_true, xj_Questions_opened, xb_Questions_opened_0, xb_Questions_opened_17, xb_Questions_opened_36, g6, hpl, hr]
        exact ⟨.inl (5, p), 0, _, cls _ hopn ⟨_, _, rfl⟩, ⟨by omega, by omega, by omega, tl_fr4 I _, xu_eq⟩, fun x1 x2 M JM S T hm ho => q_sX hm hp (Or.inr ⟨rfl, hop, ho⟩)⟩
      · have g6 : (nI o < 6) = True := by (simp (disch := omega) only [vz_all, if_true, if_false, true_or, or_true, eq_self, ite_not, Bool.false_eq_true, ite_self, and_self, true_and, and_true, false_and, and_false, not_true_eq_false, not_false_eq_true, false_or, or_false])
        have t33 := xq_take ro (e + 1) xv_SZ I J (c := 33) hC (by omega)
        rw [show nI 33 = (33 : Int32) from rfl] at t33
        have t40 := xq_expect ro e xv_SZ I J (c := 40) hC (by omega)
        rw [show nI 40 = (40 : Int32) from rfl] at t40
        have hC1 := tp_Cs hC hp
        have z1 : ((1 : Int32) = 0) = False := eq_false (by decide)
        rcases hop with c | c
        · rw [if_pos ⟨hp, c⟩] at t33
          obtain ⟨r, v, W, k1, k2, k3⟩ := hP (p + 1) (o + 1) _ J (e + 2) (by omega) (by omega) hC1 (by omega)
          have hopn : xv_evm ro (e + 3) 232 [.ref 1, .int (nI o)] (xv_SZ, xv_mk I J) = some (some (.int (v ^^^ -1)), (xv_SZ, xv_mk W J)) := by
            rw [xe_Questions_opened]
            simp only [xr_all, xf_all, if_true, if_false, true_or, or_true, eq_self, ite_not, Bool.false_eq_true, ite_self, and_self, true_and, and_true, false_and, and_false, not_true_eq_false, not_false_eq_true, xj_Questions_opened, xb_Questions_opened_0, xb_Questions_opened_17, xb_Questions_opened_36, g6, t33, z1, nI_1, k1]
          have opc : ∀ S : List Nat, op_c (33 :: S) = op_c S + 1 := fun S => by
            show (if 33 = 33 ∨ 33 = 90 then 1 else 0) + op_c S = _
            rw [if_pos (Or.inl rfl), Nat.add_comm]
          match r, k2, k3 with
          | .inl (f, q), k2, k3 =>
            obtain ⟨a1, a2, a3, a4, a5⟩ := k2
            refine ⟨.inl (f, q), _, W, cls _ hopn ⟨_, _, rfl⟩, ⟨a1, a2, a3, tl_frt (tl_fr3 I _) a4, a5⟩, fun x1 x2 M JM S T hm ho => ?_⟩
            obtain ⟨V, L, s1, s2, s3⟩ := q_sO (ro := ro) (x1 := x1) (x2 := x2) (w := 33) hn hm hp (Or.inl ⟨c, rfl⟩) (by omega)
            obtain ⟨V2, L2, t1, t2⟩ := k3 x1 x2 V L (33 :: S) T s2 (by rw [opc, ho])
            exact ⟨V2, L2, s1.trans t1, q_gt s3 t2⟩
          | .inr (y, p2), k2, k3 =>
            obtain ⟨a1, a2, a3, a4⟩ := k2
            subst a1
            refine ⟨.inr (v ^^^ -1, p2), _, W, cls _ hopn ⟨_, _, rfl⟩, ⟨rfl, by omega, a3, tl_frt (tl_fr3 I _) a4⟩, fun x1 x2 M JM S T hm ho => ?_⟩
            obtain ⟨V, L, s1, s2, s3⟩ := q_sO (ro := ro) (x1 := x1) (x2 := x2) (w := 33) hn hm hp (Or.inl ⟨c, rfl⟩) (by omega)
            obtain ⟨V2, L2, t1, t2, t3⟩ := k3 x1 x2 V L (33 :: S) T s2 (by rw [opc, ho])
            have eE : q_E (33 :: S) v = q_E S (v ^^^ -1) := if_pos rfl
            rw [eE] at t2
            exact ⟨V2, L2, s1.trans t1, t2, q_gt s3 t3⟩
        · rw [if_neg (fun q => by omega)] at t33
          rw [if_pos ⟨hp, c⟩] at t40
          obtain ⟨r, v, W, k1, k2, k3⟩ := hS (p + 1) (o + 1) _ J (e + 2) (by omega) (by omega) hC1 (by omega)
          have opc : ∀ S : List Nat, op_c (90 :: S) = op_c S + 1 := fun S => by
            show (if 90 = 33 ∨ 90 = 90 then 1 else 0) + op_c S = _
            rw [if_pos (Or.inr rfl), Nat.add_comm]
          have hhd : ∀ S : List Nat, q_hd 32 (90 :: S) := fun S s S' q => by cases q; exact ⟨by omega, by omega⟩
          match r, k2, k3 with
          | .inl (f, q), k2, k3 =>
            obtain ⟨a1, a2, a3, a4, a5⟩ := k2
            have hdd : (W 1 4 = 0) = False := by rw [a5]; exact tp_f f a1 a2 a3
            have t41 := xq_expect_x ro e xv_SZ W J (c := 41) hdd (by omega)
            rw [show nI 41 = (41 : Int32) from rfl] at t41
            have hopn : xv_evm ro (e + 3) 232 [.ref 1, .int (nI o)] (xv_SZ, xv_mk I J) = some (some (.int v), (xv_SZ, xv_mk W J)) := by
              rw [xe_Questions_opened]
              simp only [xr_all, xf_all, if_true, if_false, true_or, or_true, eq_self, ite_not, Bool.false_eq_true, ite_self, and_self, true_and, and_true, false_and, and_false, not_true_eq_false, not_false_eq_true, xj_Questions_opened, xb_Questions_opened_0, xb_Questions_opened_17, xb_Questions_opened_36, g6, t33, t40, nI_1, k1, t41]
            refine ⟨.inl (f, q), _, W, cls _ hopn ⟨_, _, rfl⟩, ⟨a1, a2, a3, tl_frt (tl_fr3 I _) a4, a5⟩, fun x1 x2 M JM S T hm ho => ?_⟩
            obtain ⟨V, L, s1, s2, s3⟩ := q_sO (ro := ro) (x1 := x1) (x2 := x2) (w := 90) hn hm hp (Or.inr ⟨c, rfl⟩) (by omega)
            obtain ⟨V2, L2, t1, t2⟩ := k3 x1 x2 V L (90 :: S) T s2 (by rw [opc, ho]) (hhd S)
            exact ⟨V2, L2, s1.trans t1, q_gt s3 t2⟩
          | .inr (y, p2), k2, k3 =>
            obtain ⟨a1, a2, a3, a4⟩ := k2
            subst a1
            have hp2 := a3.2.1
            have t41 := xq_expect ro e xv_SZ W J (c := 41) a3 (by omega)
            rw [show nI 41 = (41 : Int32) from rfl] at t41
            have hopn : xv_evm ro (e + 3) 232 [.ref 1, .int (nI o)] (xv_SZ, xv_mk I J) = some (some (.int v), (xv_SZ, xv_mk (if p2 < n ∧ b p2 = 41 then xv_u2 W 1 3 (nI (p2 + 1)) else xv_u2 W 1 4 (-1000 * 1 - nI p2)) J)) := by
              rw [xe_Questions_opened]
              simp only [xr_all, xf_all, if_true, if_false, true_or, or_true, eq_self, ite_not, Bool.false_eq_true, ite_self, and_self, true_and, and_true, false_and, and_false, not_true_eq_false, not_false_eq_true, xj_Questions_opened, xb_Questions_opened_0, xb_Questions_opened_17, xb_Questions_opened_36, g6, t33, t40, nI_1, k1, t41]
            by_cases c41 : p2 < n ∧ b p2 = 41
            · rw [if_pos c41] at hopn
              refine ⟨.inr (v, p2 + 1), v, _, cls _ hopn ⟨_, _, rfl⟩, ⟨rfl, by omega, tp_Cs a3 c41.1, tl_frt (tl_frt (tl_fr3 I _) a4) (tl_fr3 W _)⟩, fun x1 x2 M JM S T hm ho => ?_⟩
              obtain ⟨V, L, s1, s2, s3⟩ := q_sO (ro := ro) (x1 := x1) (x2 := x2) (w := 90) hn hm hp (Or.inr ⟨c, rfl⟩) (by omega)
              obtain ⟨V2, L2, S1, T1, t1, t2, t3, t4⟩ := k3.1 x1 x2 V L (90 :: S) T s2 (by rw [opc, ho]) (hhd S)
              obtain ⟨V3, L3, u1, u2, u3⟩ := q_sC (ro := ro) (x1 := x1) (x2 := x2) hn t2 c41.1 c41.2 t3
              exact ⟨V3, L3, (s1.trans t1).trans u1, u2, q_gt (q_gt s3 t4) u3⟩
            · rw [if_neg c41] at hopn
              refine ⟨.inl (1, p2), v, _, cls _ hopn ⟨_, _, rfl⟩, ⟨by omega, by omega, by omega, tl_frt (tl_frt (tl_fr3 I _) a4) (tl_fr4 W _), xu_eq⟩, fun x1 x2 M JM S T hm ho => ?_⟩
              obtain ⟨V, L, s1, s2, s3⟩ := q_sO (ro := ro) (x1 := x1) (x2 := x2) (w := 90) hn hm hp (Or.inr ⟨c, rfl⟩) (by omega)
              obtain ⟨V2, L2, S1, T1, t1, t2, t3, t4⟩ := k3.1 x1 x2 V L (90 :: S) T s2 (by rw [opc, ho]) (hhd S)
              have hfa : q_B ro x1 x2 V2 L2 1 p2 := by
                by_cases c2 : p2 < n
                · obtain ⟨e1, e2, e3⟩ := k3.2 c2
                  exact q_sY t2 c2 (Or.inl ⟨fun q => c41 ⟨c2, q⟩, e1 (by omega), e2 (by omega), e3 (by omega)⟩)
                · obtain rfl : p2 = n := by omega
                  exact q_sN t2 (Or.inr ⟨rfl, _, _, _, t3⟩)
              obtain ⟨V3, L3, u1, u2⟩ := hfa
              exact ⟨V3, L3, (s1.trans t1).trans u1, q_gt (q_gt s3 t4) u2⟩
theorem q_sides {ro : xv_Ro} (hro : ro 1000000 = some (5, xv_wof)) {b : Nat → Nat} {n : Nat} (hn : n ≤ 60) : ∀ K, q_pl ro b n K ∧ q_lv ro 228 32 7 b n K := by
  intro K
  induction K with
  | zero => exact ⟨fun p o I J d hk => by omega, fun p o I J d hk => by omega⟩
  | succ K ih =>
    have h := q_piece hro hn ih.1 ih.2
    exact ⟨h, q_lv_sides hn (q_lv_odds hn (q_lv_pieces hn (q_lv29 h)))⟩
