/-! PAIRS: likely, lie -/
def vl_hA (VL : xv_LP) : Prop := ∀ I, VL I → ∃ fn, vl_fn I fn
theorem vh_wpack {VL : xv_LP} (hA : vl_hA VL) {I : Nat → Nat → Int32} {J : Nat → Nat → Int64} (hI : vi_all VL I J) {n s : Nat} (hn : I 25 2 = nI n) (hn2 : n ≤ 20) (h4 : vh_4 I n) (hs : s < 2 ^ n) (h6 : vb_ct s 20 ≤ 6) : ∃ X : Nat → Nat, (∀ v, X v ≤ 100000000000000000) ∧ ∀ (ro : xv_Ro) (z : Nat × Nat), ∃ (C1 : Nat → Nat → Int32) (J1 : Nat → Nat → Int64), (∀ a, a ≠ 21 → C1 a = I a) ∧ (∀ a, a ≠ 12 → a ≠ 24 → J1 a = J a) ∧ (∀ v, v < 32 → J1 24 v = lN (X v)) ∧ xv_evm ro 198 34 [.ref 0, .int (nI s)] (z, xv_mk I J) = some (none, (z, xv_mk C1 J1)) ∧ ∀ d : Nat, ∃ M1 : Nat → Nat → Int32, (∀ a, a ≠ 185 → a ≠ 186 → M1 a = C1 a) ∧ xv_evm ro (d + 5) 109 [.ref 167, .int (nI s)] (z, xv_mk C1 J1) = some (some (.long (lN (vg_S X (fun _ => true) 32))), (z, xv_mk M1 (vg_J J1 194 X 32))) := by
  obtain ⟨a1, a2, ⟨-, q4⟩, aA, a5, a6, a7⟩ := id hI
  obtain ⟨fn, hf⟩ := hA I a6
  have hp : ∀ f, f < 5 → (I 23 f).toNatClampNeg ≤ 10 ∧ I 23 f = nI ((I 23 f).toNatClampNeg) ∧ I 171 f = nI ((I 23 f).toNatClampNeg) := by
    intro f hf5
    obtain ⟨m, m1, m2, m3⟩ := a2 f hf5
    rw [m2, m3, nI_clamp (show m < 2 ^ 31 by omega)]
    exact ⟨m1, rfl, rfl⟩
  refine ⟨fun v => vg_w fn I (fun f => (I 23 f).toNatClampNeg) s v 20, fun v => ?_, fun ro z => ?_⟩
  · have h1 := vg_w_le hf I (p := fun f => (I 23 f).toNatClampNeg) (fun f hf5 => (hp f hf5).1) s v 20
    have h2 : 100 ^ vb_ct s 20 ≤ 100 ^ 6 := Nat.pow_le_pow_right (by omega) h6
    have h3 : 100 ^ 6 = 1000000000000 := by decide
    rw [h3] at h2
    have h5 : 100000 * 100 ^ vb_ct s 20 ≤ 100000 * 1000000000000 := Nat.mul_le_mul_left _ h2
    exact Nat.le_trans h1 (Nat.le_trans h5 (by decide))
  · obtain ⟨C1, J1, b1, b2, b3, b4⟩ := xq_weigh ro 192 z I J hf hn hn2 h4 hs (p := fun f => (I 23 f).toNatClampNeg) (fun f hf5 => ⟨(hp f hf5).1, (hp f hf5).2.1⟩)
    refine ⟨C1, J1, b1, b2, b3, b4, fun d => ?_⟩
    exact xq_weighs ro d z I C1 J1 hf hn2 h4 hs (p := fun f => (I 23 f).toNatClampNeg) (fun f hf5 => ⟨(hp f hf5).1, (hp f hf5).2.2⟩) (fun a q1 q2 q3 => b1 a q1) (fun k hk => by rw [b2 172 (by omega) (by omega)]; exact q4 k hk)
theorem vg_S_lt {X : Nat → Nat} (h : ∀ v, X v ≤ 100000000000000000) (b : Nat → Bool) : vg_S X b 32 ≤ 3200000000000000000 := vg_S_le (n := 32) (fun v _ => h v)
def vg_od (X : Nat → Nat) (x t : Int32) : Int64 := if vg_S X (fun _ => true) 32 = 0 then -2 else lN ((if t = 0 then vg_S X (fun v => (vq_N x).testBit v) 32 else vg_S X (fun _ => true) 32) / Nat.gcd (vg_S X (fun _ => true) 32) (vg_S X (fun v => (vq_N x).testBit v) 32))
theorem xq_part0 (ro : xv_Ro) (d : Nat) (z : Nat × Nat) (C : Nat → Nat → Int32) (J : Nat → Nat → Int64) (x : Int32) {X : Nat → Nat} (hX : ∀ v, v < 32 → J 24 v = lN (X v)) (hb : vg_S X (fun _ => true) 32 < 2 ^ 63) : xv_evm ro (d + 2) 240 [.ref 22, .int x, .int 1] (z, xv_mk C J) = some (some (.long (vg_od X x 0)), (z, xv_mk C J)) := by
  rw [xq_part ro d z C J x 1 hX hb]
  unfold vg_od
  rw [if_neg (show ¬ (1 : Int32) = 0 by decide), if_pos (rfl : (0 : Int32) = 0)]
theorem xq_part1 (ro : xv_Ro) (d : Nat) (z : Nat × Nat) (C : Nat → Nat → Int32) (J : Nat → Nat → Int64) (x : Int32) {X : Nat → Nat} (hX : ∀ v, v < 32 → J 24 v = lN (X v)) (hb : vg_S X (fun _ => true) 32 < 2 ^ 63) : xv_evm ro (d + 2) 240 [.ref 22, .int x, .int 0] (z, xv_mk C J) = some (some (.long (vg_od X x 1)), (z, xv_mk C J)) := by
  rw [xq_part ro d z C J x 0 hX hb]
  unfold vg_od
  rw [if_neg (show ¬ (1 : Int32) = 0 by decide), if_pos (rfl : (0 : Int32) = 0)]
theorem xq_oddsOf (ro : xv_Ro) (d : Nat) (z : Nat × Nat) (C1 M1 : Nat → Nat → Int32) (J1 : Nat → Nat → Int64) {X : Nat → Nat} {s : Nat} (x t : Int32) (hX : ∀ v, X v ≤ 100000000000000000) (hw : xv_evm ro (d + 5) 109 [.ref 167, .int (nI s)] (z, xv_mk C1 J1) = some (some (.long (lN (vg_S X (fun _ => true) 32))), (z, xv_mk M1 (vg_J J1 194 X 32)))) : xv_evm ro (d + 6) 113 [.ref 167, .long (vq_L x), .int (nI s), .int t] (z, xv_mk C1 J1) = some (some (.long (vg_od X x t)), (z, xv_mk M1 (vg_J J1 194 X 32))) := by
  rw [xe_Mo_oddsOf]
  unfold vg_od
  have h1 := xq_weightIn ro (d + 4) z M1 (vg_J J1 194 X 32) x (X := X) (fun v hv => vg_Ji _ _ _ hv)
  have hle := vg_S_mono (X := X) (b := fun v => (vq_N x).testBit v) 32
  have hb := vg_S_lt hX (fun _ => true)
  generalize vg_S X (fun _ => true) 32 = B at *
  generalize vg_S X (fun v => (vq_N x).testBit v) 32 = A at *
  have g1 := vl_c0 (show B < 2 ^ 63 by omega)
  have z0 : (lg_cmp (lN 0) 0 = 0) = True := eq_true (by decide)
  by_cases c : B = 0
  · rw [if_pos c]
    subst c
    simp only [xr_all, xf_all, if_true, if_false, true_or, or_true, eq_self, ite_not, Bool.false_eq_true, ite_self, and_self, true_and, and_true, false_and, and_false, not_true_eq_false, not_false_eq_true, xj_Mo_oddsOf, xb_Mo_oddsOf_0, xb_Mo_oddsOf_18, xb_Mo_oddsOf_47, xb_Mo_oddsOf_52, hw, z0]
  · rw [if_neg c]
    have h3 := xq_Mo_gcd ro (d + 5) (z, xv_mk M1 (vg_J J1 194 X 32)) (a := B) (b := A) (by omega) (by omega)
    have hg0 : 0 < Nat.gcd B A := Nat.gcd_pos_of_pos_left A (by omega)
    have hg1 : Nat.gcd B A ≤ B := Nat.gcd_le_left A (by omega)
    generalize Nat.gcd B A = G at *
    have g4 := vl_n0 (show G < 2 ^ 63 by omega)
    have c2 : ¬ G = 0 := by omega
    have d1 := pk_lDiv (a := A) (b := G) (by omega) hg0 (by omega)
    have d2 := pk_lDiv (a := B) (b := G) (by omega) hg0 (by omega)
    by_cases ct : t = 0
    · simp only [xr_all, xf_all, if_true, if_false, true_or, or_true, eq_self, ite_not, Bool.false_eq_true, ite_self, and_self, true_and, and_true, false_and, and_false, not_true_eq_false, not_false_eq_true, xj_Mo_oddsOf, xb_Mo_oddsOf_0, xb_Mo_oddsOf_18, xb_Mo_oddsOf_47, xb_Mo_oddsOf_52, hw, h1, g1, c, h3, g4, c2, ct, d1]
    · simp only [xr_all, xf_all, if_true, if_false, true_or, or_true, eq_self, ite_not, Bool.false_eq_true, ite_self, and_self, true_and, and_true, false_and, and_false, not_true_eq_false, not_false_eq_true, xj_Mo_oddsOf, xb_Mo_oddsOf_0, xb_Mo_oddsOf_18, xb_Mo_oddsOf_47, xb_Mo_oddsOf_52, hw, h1, g1, c, h3, g4, c2, ct, d2]
theorem vs_wf (j : Nat) : vs_r 21 j = false ∧ vs_r 185 j = false ∧ vs_r 186 j = false := ⟨rfl, rfl, rfl⟩
theorem vh_back {VL : xv_LP} (hV : vi_Lc VL) {I C1 M1 : Nat → Nat → Int32} {J J1 : Nat → Nat → Int64} {X : Nat → Nat} (hI : vi_all VL I J) (b1 : ∀ a, a ≠ 21 → C1 a = I a) (b2 : ∀ a, a ≠ 12 → a ≠ 24 → J1 a = J a) (b3 : ∀ a, a ≠ 185 → a ≠ 186 → M1 a = C1 a) : vi_all VL M1 (vg_J J1 194 X 32) := by
  refine vi_all_s hV (fun a j haj => ?_) (by rw [vg_Jo _ _ _ (by omega), b2 172 (by omega) (by omega)]) hI
  have h := vs_wf j
  have h1 : a ≠ 21 := fun q => by rw [q, h.1] at haj; cases haj
  have h2 : a ≠ 185 := fun q => by rw [q, h.2.1] at haj; cases haj
  have h3 : a ≠ 186 := fun q => by rw [q, h.2.2] at haj; cases haj
  rw [b3 a h2 h3, b1 a h1]
theorem vh_backC {VL : xv_LP} (hV : vi_Lc VL) {I C1 : Nat → Nat → Int32} {J J1 : Nat → Nat → Int64} (hI : vi_all VL I J) (b1 : ∀ a, a ≠ 21 → C1 a = I a) (b2 : ∀ a, a ≠ 12 → a ≠ 24 → J1 a = J a) : vi_all VL C1 J1 := by
  refine vi_all_s hV (fun a j haj => ?_) (b2 172 (by omega) (by omega)) hI
  have h1 : a ≠ 21 := fun q => by rw [q, (vs_wf j).1] at haj; cases haj
  rw [b1 a h1]
theorem xp_13 (VL : xv_LP) (hV : vi_Lc VL) (hA : vl_hA VL) : xl_P13 (vi_all VL) := by
  intro x0 x1 x2 ro I J hro hI
  obtain ⟨n, n1, n2, n3, n4, n5, q4, q, q1, q2, q3⟩ := vh_A hI
  have z1 : ((1 : Int32) = 0) = False := eq_false (by decide)
  by_cases hk : ∃ k : Nat, k ≤ 7 ∧ x0 = nI k
  rotate_left
  · refine ⟨-1, I, J, I, J, ?_, ?_, hI⟩
    · rw [xe_Ct_likely]
      simp only [xr_all, xf_all, if_true, if_false, true_or, or_true, eq_self, ite_not, Bool.false_eq_true, ite_self, and_self, true_and, and_true, false_and, and_false, not_true_eq_false, not_false_eq_true, xj_Ct_likely, xb_Ct_likely_0, xb_Ct_likely_28, xb_Ct_likely_32, xb_Ct_likely_57, xb_Ct_likely_58, xq_Questions_isTold_no ro 198 (xv_SZ, xv_mk I J) hk]
    · rw [xe_Mo_likely]
      simp only [xr_all, xf_all, if_true, if_false, true_or, or_true, eq_self, ite_not, Bool.false_eq_true, ite_self, and_self, true_and, and_true, false_and, and_false, not_true_eq_false, not_false_eq_true, xj_Mo_likely, xb_Mo_likely_0, xb_Mo_likely_40, xb_Mo_likely_43, xq_Mo_isQuestion_no ro 197 (xv_SZ, xv_mk I J) hk]
  · obtain ⟨k, hk, rfl⟩ := hk
    have t1 := xq_Questions_isTold ro 198 xv_SZ I J q2 q1 (k := k) (by omega)
    have t2 := fun (M : Nat → Nat → Int32) (J : Nat → Nat → Int64) (h : M 167 5 = nI q) => xq_Mo_isQuestion ro 197 xv_SZ M J h q1 (w := k) (by omega)
    by_cases hb : q.testBit k = true
    rotate_left
    · rw [vz_b0 hb] at t1
      have t2 := t2 I J q3
      rw [vz_b0 hb] at t2
      refine ⟨-1, I, J, I, J, ?_, ?_, hI⟩
      · rw [xe_Ct_likely]
        simp only [xr_all, xf_all, if_true, if_false, true_or, or_true, eq_self, ite_not, Bool.false_eq_true, ite_self, and_self, true_and, and_true, false_and, and_false, not_true_eq_false, not_false_eq_true, xj_Ct_likely, xb_Ct_likely_0, xb_Ct_likely_28, xb_Ct_likely_32, xb_Ct_likely_57, xb_Ct_likely_58, t1]
      · rw [xe_Mo_likely]
        simp only [xr_all, xf_all, if_true, if_false, true_or, or_true, eq_self, ite_not, Bool.false_eq_true, ite_self, and_self, true_and, and_true, false_and, and_false, not_true_eq_false, not_false_eq_true, xj_Mo_likely, xb_Mo_likely_0, xb_Mo_likely_40, xb_Mo_likely_43, t2]
    · rw [vz_b1 hb] at t1 t2
      rcases vh_can n n1 x1 with ⟨s, hs, hs2, h6, rfl, c1, c2⟩ | ⟨c1, c2⟩
      rotate_left
      · have c1 := c1 ro 196 xv_SZ I J n2
        have c2 := c2 ro 195 xv_SZ I J n3
        refine ⟨-1, I, J, I, J, ?_, ?_, hI⟩
        · rw [xe_Ct_likely]
          simp only [xr_all, xf_all, if_true, if_false, true_or, or_true, eq_self, ite_not, Bool.false_eq_true, ite_self, and_self, true_and, and_true, false_and, and_false, not_true_eq_false, not_false_eq_true, xj_Ct_likely, xb_Ct_likely_0, xb_Ct_likely_28, xb_Ct_likely_32, xb_Ct_likely_57, xb_Ct_likely_58, t1, z1, c1]
        · rw [xe_Mo_likely]
          simp only [xr_all, xf_all, if_true, if_false, true_or, or_true, eq_self, ite_not, Bool.false_eq_true, ite_self, and_self, true_and, and_true, false_and, and_false, not_true_eq_false, not_false_eq_true, xj_Mo_likely, xb_Mo_likely_0, xb_Mo_likely_40, xb_Mo_likely_43, t2 I J q3, z1, c2]
      · have c1 := c1 ro 196 xv_SZ I J n2
        have c2 := fun (M : Nat → Nat → Int32) (J : Nat → Nat → Int64) (h : M 168 301 = nI n) => c2 ro 195 xv_SZ M J h
        have hin3 := vn_01 x2
        by_cases h01 : x2 = 0 ∨ x2 = 1
        rotate_left
        · have z2 : (x2 = 0) = False := eq_false (fun q => h01 (Or.inl q))
          have z3 : (x2 = 1) = False := eq_false (fun q => h01 (Or.inr q))
          have hin : (0 ≤ x2 ∧ x2 ≤ 1) = False := by
            rcases hin3 with ⟨h, -⟩ | ⟨h, -⟩ | ⟨-, -, h⟩
            · exact absurd (Or.inl h) h01
            · exact absurd (Or.inr h) h01
            · exact h
          refine ⟨-1, I, J, I, J, ?_, ?_, hI⟩
          · rw [xe_Ct_likely]
            simp only [xr_all, xf_all, if_true, if_false, true_or, or_true, eq_self, ite_not, Bool.false_eq_true, ite_self, and_self, true_and, and_true, false_and, and_false, not_true_eq_false, not_false_eq_true, xj_Ct_likely, xb_Ct_likely_0, xb_Ct_likely_28, xb_Ct_likely_32, xb_Ct_likely_57, xb_Ct_likely_58, t1, z1, c1, z2, z3]
          · rw [xe_Mo_likely]
            simp only [xr_all, xf_all, if_true, if_false, true_or, or_true, eq_self, ite_not, Bool.false_eq_true, ite_self, and_self, true_and, and_true, false_and, and_false, not_true_eq_false, not_false_eq_true, xj_Mo_likely, xb_Mo_likely_0, xb_Mo_likely_40, xb_Mo_likely_43, t2 I J q3, z1, c2 I J n3, xq_Mo_in, hin]
        · have hin : (0 ≤ x2 ∧ x2 ≤ 1) = True := by
            rcases hin3 with ⟨-, h⟩ | ⟨-, h⟩ | ⟨g1, g2, -⟩
            · exact h
            · exact h
            · rcases h01 with h | h
              · exact absurd h g1.mp
              · exact absurd h g2.mp
          obtain ⟨X, hX, hpk⟩ := vh_wpack hA hI n2 n1 n4 hs h6
          obtain ⟨C1, J1, b1, b2, b3, b4, b5⟩ := hpk ro xv_SZ
          obtain ⟨M1, b6, b7⟩ := b5 192
          have hho := xq_Questions_holds ro 198 xv_SZ C1 J1 (show k < 8 by omega)
          rw [b1 4 (by omega)] at hho
          have hbd := vg_S_lt hX (fun _ => true)
          have hod := xq_oddsOf ro 192 xv_SZ C1 M1 J1 (I 4 k) x2 hX b7
          have t3 := t2 C1 J1 (by rw [b1 167 (by omega)]; exact q3)
          have c3 := c2 C1 J1 (by rw [b1 168 (by omega)]; exact n3)
          have i8 : xv_inB (nI k) 8 = true := by (simp (disch := omega) only [vz_all, if_true, if_false, true_or, or_true, eq_self, ite_not, Bool.false_eq_true, ite_self, and_self, true_and, and_true, false_and, and_false, not_true_eq_false, not_false_eq_true, false_or, or_false])
          have j172 : J1 172 k = vq_L (I 4 k) := by rw [b2 172 (by omega) (by omega)]; exact q4 k (by omega)
          have z2 : ((0 : Int32) = 1) = False := eq_false (by decide)
          refine ⟨vg_od X (I 4 k) x2, C1, J1, M1, vg_J J1 194 X 32, ?_, ?_, vh_back hV hI b1 b2 b6⟩
          rotate_left
          · rw [xe_Mo_likely]
            simp only [xr_all, xf_all, if_true, if_false, true_or, or_true, eq_self, ite_not, Bool.false_eq_true, ite_self, and_self, true_and, and_true, false_and, and_false, not_true_eq_false, not_false_eq_true, xj_Mo_likely, xb_Mo_likely_0, xb_Mo_likely_40, xb_Mo_likely_43, t3, z1, c3, xq_Mo_in, hin, i8, nI_clamp (show k < 2 ^ 31 by omega), j172, hod]
          · rw [xe_Ct_likely]
            rcases h01 with h | h
            · have hpa := xq_part0 ro 196 xv_SZ C1 J1 (I 4 k) b3 (by omega)
              simp only [xr_all, xf_all, if_true, if_false, true_or, or_true, eq_self, ite_not, Bool.false_eq_true, ite_self, and_self, true_and, and_true, false_and, and_false, not_true_eq_false, not_false_eq_true, xj_Ct_likely, xb_Ct_likely_0, xb_Ct_likely_28, xb_Ct_likely_32, xb_Ct_likely_57, xb_Ct_likely_58, t1, z1, c1, h, b4, hho, hpa]
            · have hpa := xq_part1 ro 196 xv_SZ C1 J1 (I 4 k) b3 (by omega)
              simp only [xr_all, xf_all, if_true, if_false, true_or, or_true, eq_self, ite_not, Bool.false_eq_true, ite_self, and_self, true_and, and_true, false_and, and_false, not_true_eq_false, not_false_eq_true, xj_Ct_likely, xb_Ct_likely_0, xb_Ct_likely_28, xb_Ct_likely_32, xb_Ct_likely_57, xb_Ct_likely_58, t1, z1, c1, h, b4, hho, hpa]
