/-! PAIR: weeks -/
theorem vn_1N (N : Nat) (hN : N + 1 < 2 ^ 31) (x : Int32) : (∃ n : Nat, 1 ≤ n ∧ n ≤ N ∧ x = nI n ∧ (x < 1) = False ∧ (x ≤ nI N) = True ∧ (1 ≤ x ∧ x ≤ nI N) = True) ∨ (((x < 1) = True ∨ ((x < 1) = False ∧ (x ≤ nI N) = False)) ∧ (1 ≤ x ∧ x ≤ nI N) = False) := by
  rcases vn_cases x (N + 1) (by omega) with q | q | ⟨j, hj, rfl⟩
  · right
    have h1 : x < 1 := by (simp only [Int32.lt_iff_toInt_lt, Int32.le_iff_toInt_le, ← Int32.toInt_inj, vt_all] at *; omega)
    exact ⟨Or.inl (eq_true h1), eq_false (fun g => absurd h1 (Int32.not_lt.mpr g.1))⟩
  · right
    rw [← vn_gt hN] at q
    have h2 : ¬ x ≤ nI N := Int32.not_le.mpr q
    have h1 : ¬ x < 1 := by
      have h3 : (0 : Int32) ≤ nI N := nI_pos' (by omega)
      intro g
      (simp only [Int32.lt_iff_toInt_lt, Int32.le_iff_toInt_le, ← Int32.toInt_inj, vt_all] at *; omega)
    exact ⟨Or.inr ⟨eq_false h1, eq_false h2⟩, eq_false (fun g => h2 g.2)⟩
  · by_cases h0 : j = 0
    · right
      subst h0
      exact ⟨Or.inl (eq_true (by decide)), eq_false (fun g => absurd g.1 (by decide))⟩
    · left
      have e1 : (nI j < 1) = False := by (simp (disch := omega) only [vz_all, if_true, if_false, true_or, or_true, eq_self, ite_not, Bool.false_eq_true, ite_self, and_self, true_and, and_true, false_and, and_false, not_true_eq_false, not_false_eq_true, false_or, or_false])
      have e2 : (nI j ≤ nI N) = True := by (simp (disch := omega) only [vz_all, if_true, if_false, true_or, or_true, eq_self, ite_not, Bool.false_eq_true, ite_self, and_self, true_and, and_true, false_and, and_false, not_true_eq_false, not_false_eq_true, false_or, or_false])
      exact ⟨j, by omega, by omega, rfl, e1, e2, eq_true ⟨Int32.not_lt.mp (fun g => by rw [e1] at g; exact g), by rw [e2]; trivial⟩⟩
theorem vx_Cc {C M : Nat → Nat → Int32} {A m t : Nat} {hh : Nat → Nat} {T : vx_T} (hA : A ≤ 111) (h : ∀ a, a < 167 → M a = C a) (hC : vx_C C A m hh t T) : vx_C M A m hh t T := by
  obtain ⟨c1, c2, c3, c4, c5⟩ := hC
  refine ⟨by rw [h A (by omega)]; exact c1, by rw [h A (by omega)]; exact c2, by rw [h A (by omega)]; exact c3, by rw [h A (by omega)]; exact c4, fun w hw => ?_⟩
  rw [h (A + 3 + 2 * w) (by omega), h (A + 4 + 2 * w) (by omega)]
  exact c5 w hw
theorem vx_oc25 : ∀ a, a < 48 → 25 ≤ a → (xv_oc a = some 8 → ∃ w : Nat, w < 10 ∧ a = 25 + 3 + 2 * w) ∧ xv_oc a ≠ some 9 := by
  intro a h1 h2
  have h := (by decide : ∀ a, a < 48 → 25 ≤ a → (xv_oc a = some 8 → a % 2 = 0 ∧ 28 ≤ a) ∧ xv_oc a ≠ some 9) a h1 h2
  refine ⟨fun g => ?_, h.2⟩
  have := h.1 g
  exact ⟨(a - 28) / 2, by omega, by omega⟩
theorem xq_pass (ro : xv_Ro) (d : Nat) (z : Nat × Nat) {I : Nat → Nat → Int32} {fn : Nat → (Nat → Int32) → Nat} (hf : vl_fn I fn) {A m n t : Nat} {hh : Nat → Nat} {T : vx_T} (hA : vAr A) (hn : n ≤ 60) (C : Nat → Nat → Int32) (J : Nat → Nat → Int64) (ht : t ≤ 999) (hC : ∀ a, 5 ≤ a → a < 12 → C a = I a) (hR : vx_C (xv_u2 (xv_u2 C A 5 0) A 6 0) A m hh t T) (hW : vx_W hh T) : ∃ (C1 : Nat → Nat → Int32) (J1 : Nat → Nat → Int64), (∀ a, a ≠ 12 → J1 a = J a) ∧ xv_evm ro (d + 6) 175 [.ref A, .int (nI n), .ref 5, .ref 21] (z, xv_mk C J) = some (none, (z, xv_mk C1 J1)) ∧ vx_C C1 A m hh (vx_wk fn m hh n t T).1 (vx_wk fn m hh n t T).2 ∧ vx_fC C C1 A := by
  have hA25 : 25 ≤ A := by rcases hA with rfl | rfl | rfl <;> omega
  obtain ⟨C1, J1, a1, a2, a3, a4⟩ := xq_passW ro d z hf hA hn n 0 t T (xv_u2 (xv_u2 C A 5 0) A 6 0) J none (by omega) ht (fun a q1 q2 => by rw [xu_ne (by omega), xu_ne (by omega)]; exact hC a q1 q2) hR hW
  refine ⟨C1, J1, a1, ?_, a3, vx_fCt ⟨fun a q1 q2 => by rw [xu_ne (by omega), xu_ne (by omega)], fun k hk => by rw [xu_ne2 (by omega), xu_ne2 (by omega)]⟩ a4⟩
  rw [xe_Archive_pass]
  rw [show nI 0 = (0 : Int32) from rfl] at a2
  simp only [xr_all, xf_all, if_true, if_false, true_or, or_true, eq_self, ite_not, Bool.false_eq_true, ite_self, and_self, true_and, and_true, false_and, and_false, not_true_eq_false, not_false_eq_true, xj_Archive_pass, xb_Archive_pass_0, xb_Archive_pass_53, xb_Archive_pass_69, vAr_f hA]
  exact a2
theorem xq_weeksGo (ro : xv_Ro) (d : Nat) (z : Nat × Nat) {I : Nat → Nat → Int32} {fn : Nat → (Nat → Int32) → Nat} (hf : vl_fn I fn) {m n t : Nat} {hh : Nat → Nat} {T : vx_T} (hm : m < 1024) (hn : n ≤ 60) (M : Nat → Nat → Int32) (J : Nat → Nat → Int64) (ht : t ≤ 999) (h16 : M 167 16 = I 167 16) (h180 : ∀ a, 180 ≤ a → a < 185 → M a = I a) (hR : vx_M (xv_u2 (xv_u2 M 167 43 0) 167 44 0) m hh t T) (hW : vx_W hh T) : ∃ M1 : Nat → Nat → Int32, xv_evm ro (d + 6) 101 [.ref 167, .int (nI n)] (z, xv_mk M J) = some (none, (z, xv_mk M1 J)) ∧ vx_M M1 m hh (vx_wk fn m hh n t T).1 (vx_wk fn m hh n t T).2 ∧ vx_fr M M1 := by
  obtain ⟨M1, a1, a2, a3⟩ := xq_weeksGoW ro d z J hf hm hn n 0 t T (xv_u2 (xv_u2 M 167 43 0) 167 44 0) (by omega) ht (by rw [xu_ne2 (by omega), xu_ne2 (by omega)]; exact h16) (fun a q1 q2 => by rw [xu_ne (by omega), xu_ne (by omega)]; exact h180 a q1 q2) hR hW
  refine ⟨M1, ?_, a2, vx_frt ⟨fun j q1 q2 => by rw [xu_ne (by omega), xu_ne (by omega)], fun k q1 q2 => by rw [xu_ne2 (by omega), xu_ne2 (by omega)], fun a q1 q2 q3 q4 => by rw [xu_ne q1, xu_ne q1]⟩ a3⟩
  rw [xe_Mo_weeksGo]
  rw [show nI 0 = (0 : Int32) from rfl] at a1
  simp only [xr_all, xf_all, if_true, if_false, true_or, or_true, eq_self, ite_not, Bool.false_eq_true, ite_self, and_self, true_and, and_true, false_and, and_false, not_true_eq_false, not_false_eq_true, xj_Mo_weeksGo, xb_Mo_weeksGo_0, xb_Mo_weeksGo_41]
  exact a1
theorem xp_9 (VL : xv_LP) (hV : vi_Lc VL) (hAs : vl_hA VL) : xl_P9 (vi_all VL) := by
  intro x ro I J hro hI
  obtain ⟨a1, a2, a3, aA, a5, a6, a7⟩ := id hI
  obtain ⟨fn, hf⟩ := hAs I a6
  rcases vn_1N 60 (by omega) x with ⟨n, n1, n2, rfl, e1, e2, e3⟩ | ⟨e1, e2⟩
  · rw [show nI 60 = (60 : Int32) from rfl] at e2 e3
    obtain ⟨m, hh, t, lot, L, S, hm, ht, hW, hC, hM⟩ := vx_ex aA
    obtain ⟨C1, J1, c1, c2, c3, c4⟩ := xq_pass ro 192 xv_SZ hf (A := 25) (Or.inl rfl) n2 I J ht (fun _ _ _ => rfl) hC hW
    have hC1 : ∀ a, 167 ≤ a → C1 a = I a := fun a ha => c4.1 a (by omega) (Or.inr (by omega))
    obtain ⟨M1, d1, d2, d3⟩ := xq_weeksGo ro 192 xv_SZ hf hm n2 C1 J1 ht (by rw [hC1 167 (by omega)]) (fun a q1 q2 => hC1 a (by omega)) (hM C1 (fun j hj => by rw [hC1 168 (by omega)])) hW
    obtain ⟨w1, w2⟩ := vx_Wwk fn m n t _ ht hW
    have hs1 : C1 25 5 = nI (vx_wk fn m hh n t (lot, 0, 0, L, S)).2.2.1 := c3.2.2.1
    have hs2 : M1 167 43 = nI (vx_wk fn m hh n t (lot, 0, 0, L, S)).2.2.1 := d2.2.2.1
    have hMC : ∀ a, a < 167 → M1 a = C1 a := fun a ha => d3.2.2 a (by omega) (by omega) (by omega) (by omega)
    have hMI : ∀ a, a ≠ 21 → a < 25 ∨ 48 ≤ a → a ≠ 167 → a ≠ 168 → a ≠ 185 → a ≠ 186 → M1 a = I a := fun a q1 q2 q3 q4 q5 q6 => by rw [d3.2.2 a q3 q4 q5 q6]; exact c4.1 a q1 (by omega)
    have hM7 : ∀ k, k ≠ 43 → k ≠ 44 → M1 167 k = I 167 k := fun k q1 q2 => by rw [d3.2.1 k q1 q2, hC1 167 (by omega)]
    have hCM : vx_C M1 25 m hh (vx_wk fn m hh n t (lot, 0, 0, L, S)).1 (vx_wk fn m hh n t (lot, 0, 0, L, S)).2 := vx_Cc (by omega) hMC c3
    refine ⟨nI (vx_wk fn m hh n t (lot, 0, 0, L, S)).2.2.1, C1, J1, M1, J1, ?_, ?_, ?_⟩
    · rw [xe_Ct_weeks]
      have hsp : xv_evm ro 198 166 [.ref 25] (xv_SZ, xv_mk C1 J1) = some (some (.int (C1 25 5)), (xv_SZ, xv_mk C1 J1)) := by
        rw [xe_Archive_sprouted]
        simp only [xr_all, xf_all, if_true, if_false, true_or, or_true, eq_self, ite_not, Bool.false_eq_true, ite_self, and_self, true_and, and_true, false_and, and_false, not_true_eq_false, not_false_eq_true, xj_Archive_sprouted, xb_Archive_sprouted_0]
      simp only [xr_all, xf_all, if_true, if_false, true_or, or_true, eq_self, ite_not, Bool.false_eq_true, ite_self, and_self, true_and, and_true, false_and, and_false, not_true_eq_false, not_false_eq_true, xj_Ct_weeks, xb_Ct_weeks_0, xb_Ct_weeks_11, xb_Ct_weeks_13, e1, e2, c2, hsp, hs1]
    · rw [xe_Mo_weeks]
      simp only [xr_all, xf_all, if_true, if_false, true_or, or_true, eq_self, ite_not, Bool.false_eq_true, ite_self, and_self, true_and, and_true, false_and, and_false, not_true_eq_false, not_false_eq_true, xj_Mo_weeks, xb_Mo_weeks_0, xb_Mo_weeks_12, xq_Mo_in, e3, d1, hs2]
    · refine ⟨vi_T_c a1 (by rw [hMI 1 (by omega) (by omega) (by omega) (by omega) (by omega) (by omega)]) (hMI 2 (by omega) (by omega) (by omega) (by omega) (by omega) (by omega)) (hM7 7 (by omega) (by omega)) (hMI 173 (by omega) (by omega) (by omega) (by omega) (by omega) (by omega)), vi_P_c a2 (hMI 23 (by omega) (by omega) (by omega) (by omega) (by omega) (by omega)) (hMI 171 (by omega) (by omega) (by omega) (by omega) (by omega) (by omega)), vi_Q_c a3 (by rw [hMI 3 (by omega) (by omega) (by omega) (by omega) (by omega) (by omega)]) (hMI 4 (by omega) (by omega) (by omega) (by omega) (by omega) (by omega)) (hM7 5 (by omega) (by omega)) (c1 172 (by omega)), vx_back hm w1 w2 hCM d2 (vi_A1_c aA.1 ?_ ?_ ?_), vi_K_c a5 (by rw [hMI 0 (by omega) (by omega) (by omega) (by omega) (by omega) (by omega)]) (hM7 51 (by omega) (by omega)) (fun f hf => by rw [hMI 68 (by omega) (by omega) (by omega) (by omega) (by omega) (by omega)]) (fun a b1 b2 => hMI a (by omega) (by omega) (by omega) (by omega) (by omega) (by omega)) (hMI 170 (by omega) (by omega) (by omega) (by omega) (by omega) (by omega)), hV I M1 (fun a b1 b2 => hMI a (by omega) (by omega) (by omega) (by omega) (by omega) (by omega)) (hM7 16 (by omega) (by omega)) (fun a b1 b2 => hMI a (by omega) (by omega) (by omega) (by omega) (by omega) (by omega)) a6, ?_⟩
      · rw [hMC 25 (by omega)]; exact c4.2 2 (by omega)
      · intro a q1 q2
        exact hMI a (by omega) (by omega) (by omega) (by omega) (by omega) (by omega)
      · intro j q1 q2 q3
        rw [d3.1 j q1 q2, hC1 168 (by omega)]
      · intro a
        by_cases ha : 25 ≤ a ∧ a < 48
        · obtain ⟨o1, o2⟩ := vx_oc25 a ha.2 ha.1
          refine ⟨fun g => ?_, fun g => absurd g o2⟩
          obtain ⟨w, hw, rfl⟩ := o1 g
          rw [(hCM.2.2.2.2 w hw).1]
          split
          · exact Or.inr rfl
          · exact Or.inl rfl
        · have h21 : xv_oc 21 = some 5 := rfl
          have h167 : xv_oc 167 ≠ some 8 ∧ xv_oc 167 ≠ some 9 := by decide
          have h168 : xv_oc 168 ≠ some 8 ∧ xv_oc 168 ≠ some 9 := by decide
          have h185 : xv_oc 185 ≠ some 8 ∧ xv_oc 185 ≠ some 9 := by decide
          have h186 : xv_oc 186 ≠ some 8 ∧ xv_oc 186 ≠ some 9 := by decide
          have same : xv_oc a = some 8 ∨ xv_oc a = some 9 → M1 a = I a := by
            intro g
            refine hMI a (fun q => ?_) (by omega) (fun q => ?_) (fun q => ?_) (fun q => ?_) (fun q => ?_)
            · rw [q, h21] at g; rcases g with g | g <;> cases g
            · rw [q] at g; rcases g with g | g; exact h167.1 g; exact h167.2 g
            · rw [q] at g; rcases g with g | g; exact h168.1 g; exact h168.2 g
            · rw [q] at g; rcases g with g | g; exact h185.1 g; exact h185.2 g
            · rw [q] at g; rcases g with g | g; exact h186.1 g; exact h186.2 g
          exact ⟨fun g => by rw [same (Or.inl g)]; exact (a7 a).1 g, fun g => by rw [same (Or.inr g)]; exact (a7 a).2 g⟩
  · rw [show nI 60 = (60 : Int32) from rfl] at e1 e2
    refine ⟨-1, I, J, I, J, ?_, ?_, hI⟩
    · rw [xe_Ct_weeks]
      rcases e1 with e1 | ⟨e1, e3⟩
      · simp only [xr_all, xf_all, if_true, if_false, true_or, or_true, eq_self, ite_not, Bool.false_eq_true, ite_self, and_self, true_and, and_true, false_and, and_false, not_true_eq_false, not_false_eq_true, xj_Ct_weeks, xb_Ct_weeks_0, xb_Ct_weeks_11, xb_Ct_weeks_13, e1]
      · simp only [xr_all, xf_all, if_true, if_false, true_or, or_true, eq_self, ite_not, Bool.false_eq_true, ite_self, and_self, true_and, and_true, false_and, and_false, not_true_eq_false, not_false_eq_true, xj_Ct_weeks, xb_Ct_weeks_0, xb_Ct_weeks_11, xb_Ct_weeks_13, e1, e3]
    · rw [xe_Mo_weeks]
      simp only [xr_all, xf_all, if_true, if_false, true_or, or_true, eq_self, ite_not, Bool.false_eq_true, ite_self, and_self, true_and, and_true, false_and, and_false, not_true_eq_false, not_false_eq_true, xj_Mo_weeks, xb_Mo_weeks_0, xb_Mo_weeks_12, xq_Mo_in, e2]
