/-! PAIRS: against, liars -/
theorem vf_w_2 (I : Nat → Nat → Int32) {i j n s : Nat} (hj : j < i) (hi : i < n) (hs : ∀ k, k < n → s.testBit k = (decide (k = i) || decide (k = j))) : vf_w I (fun k => s.testBit k) n = vf_f I j &&& vf_f I i := by
  have h1 : ∀ k, k ≤ j → vf_w I (fun k => s.testBit k) k = -1 := by
    intro k
    induction k with
    | zero => intro _; rfl
    | succ k ih =>
      intro hk
      show (if s.testBit k = true then vf_w I (fun k => s.testBit k) k &&& vf_f I k else vf_w I (fun k => s.testBit k) k) = -1
      rw [hs k (by omega), decide_eq_false (by omega), decide_eq_false (by omega), ih (by omega)]
      simp
  have h2 : ∀ k, j < k → k ≤ i → vf_w I (fun k => s.testBit k) k = vf_f I j := by
    intro k
    induction k with
    | zero => intro h; omega
    | succ k ih =>
      intro h h'
      show (if s.testBit k = true then vf_w I (fun k => s.testBit k) k &&& vf_f I k else vf_w I (fun k => s.testBit k) k) = _
      by_cases c : k = j
      · rw [hs k (by omega), decide_eq_true c, Bool.or_true, if_pos rfl, h1 k (by omega), c, Int32.neg_one_and]
      · rw [hs k (by omega), decide_eq_false c, decide_eq_false (by omega), ih (by omega) (by omega)]
        simp
  have h3 : ∀ k, i < k → k ≤ n → vf_w I (fun k => s.testBit k) k = vf_f I j &&& vf_f I i := by
    intro k
    induction k with
    | zero => intro h; omega
    | succ k ih =>
      intro h h'
      show (if s.testBit k = true then vf_w I (fun k => s.testBit k) k &&& vf_f I k else vf_w I (fun k => s.testBit k) k) = _
      by_cases c : k = i
      · rw [hs k (by omega), decide_eq_true c, Bool.true_or, if_pos rfl, h2 k (by omega) (by omega), c]
      · rw [hs k (by omega), decide_eq_false c, decide_eq_false (by omega), ih (by omega) (by omega)]
        simp
  exact h3 n hi (Nat.le_refl n)
theorem vb_pair : ∀ i, i < 20 → ∀ j, j < i → ((1 : Int32) <<< (nI i &&& 31)) ||| ((1 : Int32) <<< (nI j &&& 31)) = nI (2 ^ i + 2 ^ j) ∧ 2 ^ i + 2 ^ j < 2 ^ 31 ∧ ∀ k, k < 20 → (2 ^ i + 2 ^ j).testBit k = (decide (k = i) || decide (k = j)) := by decide +kernel
def vg_a (I : Nat → Nat → Int32) (i j : Nat) : Int32 := if vf_f I j &&& vf_f I i = 0 then 1 else 0
theorem vl_agnC (ro : xv_Ro) (z : Nat × Nat) (I : Nat → Nat → Int32) (J : Nat → Nat → Int64) {n : Nat} (hn : I 25 2 = nI n) (hn2 : n ≤ 20) (h : ∀ i, i < n → (∀ f, f < 8 → I (25 + 23 + i) f = I 168 (140 + 20 * f + i)) ∧ (∃ w : Nat, w < 10 ∧ I 168 (140 + i) = nI w) ∧ (∃ k : Nat, k < 8 ∧ I 168 (160 + i) = nI k) ∧ (I 168 (180 + i) = 0 ∨ I 168 (180 + i) = 1) ∧ (I 168 (200 + i) = 0 ∨ I 168 (200 + i) = 1)) (u : Option Value) : xv_ev ro 199 xm_Ct_against xb_Ct_against_4 [some (.ref 0), some (.int 0), some (.int 0), u] [] (z, xv_mk I J) = some (some (.int (vs_sum (fun i => vs_sum (vg_a I i) i) n)), (z, xv_mk I J)) := by
  have hin : ∀ i, i < n → ∀ (S : Int32), xv_ev ro 199 xm_Ct_against xb_Ct_against_17 [some (.ref 0), some (.int S), some (.int (nI i)), some (.int 0)] [] (z, xv_mk I J) = xv_ev ro 199 xm_Ct_against xb_Ct_against_4 [some (.ref 0), some (.int (S + vs_sum (vg_a I i) i)), some (.int (nI (i + 1))), some (.int (nI i))] [] (z, xv_mk I J) := by
    intro i hi S
    have hl := vz_iter (fun j => xv_ev ro 199 xm_Ct_against xb_Ct_against_17 [some (.ref 0), some (.int (S + vs_sum (vg_a I i) j)), some (.int (nI i)), some (.int (nI j))] [] (z, xv_mk I J)) i (fun j hj => by
      have hs : vs_sum (vg_a I i) (j + 1) = vs_sum (vg_a I i) j + vg_a I i j := rfl
      obtain ⟨p1, p2, p3⟩ := vb_pair i (by omega) j hj
      have hf := xq_fitting ro 196 z I J hn hn2 h p2
      rw [vf_w_2 I hj hi (fun k hk => p3 k (by omega))] at hf
      have h1 : (nI i ≤ nI j) = False := by (simp (disch := omega) only [vz_all, if_true, if_false, true_or, or_true, eq_self, ite_not, Bool.false_eq_true, ite_self, and_self, true_and, and_true, false_and, and_false, not_true_eq_false, not_false_eq_true, false_or, or_false])
      rw [hs]
      unfold vg_a
      rw [show (fun j => if vf_f I j &&& vf_f I i = 0 then (1 : Int32) else 0) = vg_a I i from rfl]
      generalize vs_sum (vg_a I i) j = T
      conv => lhs; unfold xb_Ct_against_17
      by_cases c : vf_f I j &&& vf_f I i = 0
      · simp only [xr_all, xf_all, if_true, if_false, true_or, or_true, eq_self, ite_not, Bool.false_eq_true, ite_self, and_self, true_and, and_true, false_and, and_false, not_true_eq_false, not_false_eq_true, xj_Ct_against, xb_Ct_against_0, xb_Ct_against_46, xb_Ct_against_52, xb_Ct_against_58, h1, p1, hf, c, nI_1, Int32.add_assoc]
      · simp only [xr_all, xf_all, if_true, if_false, true_or, or_true, eq_self, ite_not, Bool.false_eq_true, ite_self, and_self, true_and, and_true, false_and, and_false, not_true_eq_false, not_false_eq_true, xj_Ct_against, xb_Ct_against_0, xb_Ct_against_46, xb_Ct_against_52, xb_Ct_against_58, h1, p1, hf, c, nI_1, Int32.add_zero])
    have e0 : vs_sum (vg_a I i) 0 = 0 := rfl
    rw [e0, Int32.add_zero, show nI 0 = (0 : Int32) from rfl] at hl
    rw [hl]
    generalize vs_sum (vg_a I i) i = T
    conv => lhs; unfold xb_Ct_against_17
    have h1 : (nI i ≤ nI i) = True := by (simp (disch := omega) only [vz_all, if_true, if_false, true_or, or_true, eq_self, ite_not, Bool.false_eq_true, ite_self, and_self, true_and, and_true, false_and, and_false, not_true_eq_false, not_false_eq_true, false_or, or_false])
    simp only [xr_all, xf_all, if_true, if_false, true_or, or_true, eq_self, ite_not, Bool.false_eq_true, ite_self, and_self, true_and, and_true, false_and, and_false, not_true_eq_false, not_false_eq_true, xj_Ct_against, xb_Ct_against_0, xb_Ct_against_46, xb_Ct_against_52, xb_Ct_against_58, h1, nI_1]
  have hl := vz_down (fun i => ∀ u, xv_ev ro 199 xm_Ct_against xb_Ct_against_4 [some (.ref 0), some (.int (vs_sum (fun i => vs_sum (vg_a I i) i) i)), some (.int (nI i)), u] [] (z, xv_mk I J) = some (some (.int (vs_sum (fun i => vs_sum (vg_a I i) i) n)), (z, xv_mk I J))) n (fun i hi ih u => by
    have h1 : (nI n ≤ nI i) = False := by (simp (disch := omega) only [vz_all, if_true, if_false, true_or, or_true, eq_self, ite_not, Bool.false_eq_true, ite_self, and_self, true_and, and_true, false_and, and_false, not_true_eq_false, not_false_eq_true, false_or, or_false])
    have hs : vs_sum (fun i => vs_sum (vg_a I i) i) (i + 1) = vs_sum (fun i => vs_sum (vg_a I i) i) i + vs_sum (vg_a I i) i := rfl
    have hi2 := hin i hi (vs_sum (fun i => vs_sum (vg_a I i) i) i)
    rw [← hs] at hi2
    conv => lhs; unfold xb_Ct_against_4
    simp only [xr_all, xf_all, if_true, if_false, true_or, or_true, eq_self, ite_not, Bool.false_eq_true, ite_self, and_self, true_and, and_true, false_and, and_false, not_true_eq_false, not_false_eq_true, xj_Ct_against, xb_Ct_against_0, xb_Ct_against_46, xb_Ct_against_52, xb_Ct_against_58, xq_Archive_said ro 198 z I J, hn, h1, hi2, ih]) (fun u => by
    generalize vs_sum (fun i => vs_sum (vg_a I i) i) n = T
    conv => lhs; unfold xb_Ct_against_4
    have h1 : (nI n ≤ nI n) = True := by (simp (disch := omega) only [vz_all, if_true, if_false, true_or, or_true, eq_self, ite_not, Bool.false_eq_true, ite_self, and_self, true_and, and_true, false_and, and_false, not_true_eq_false, not_false_eq_true, false_or, or_false])
    simp only [xr_all, xf_all, if_true, if_false, true_or, or_true, eq_self, ite_not, Bool.false_eq_true, ite_self, and_self, true_and, and_true, false_and, and_false, not_true_eq_false, not_false_eq_true, xj_Ct_against, xb_Ct_against_0, xb_Ct_against_46, xb_Ct_against_52, xb_Ct_against_58, xq_Archive_said ro 198 z I J, hn, h1])
  exact hl u
theorem vl_agnM (ro : xv_Ro) (z : Nat × Nat) (I : Nat → Nat → Int32) (J : Nat → Nat → Int64) {n : Nat} (hn : I 168 301 = nI n) (hn2 : n ≤ 20) (h : ∀ i, i < n → (∃ k : Nat, k < 8 ∧ I 168 (160 + i) = nI k) ∧ (I 168 (180 + i) = 0 ∨ I 168 (180 + i) = 1)) (hq : ∀ k, k < 8 → J 172 k = vq_L (I 4 k)) (u v w : Option Value) : xv_ev ro 199 xm_Mo_against xb_Mo_against_4 [some (.ref 167), some (.int 0), some (.int 0), u, v, w] [] (z, xv_mk I J) = some (some (.int (vs_sum (fun i => vs_sum (vg_a I i) i) n)), (z, xv_mk I J)) := by
  have g4 : xv_inB 301 304 = true := by decide
  have g5 : (301 : Int32).toNatClampNeg = 301 := by decide
  have hin : ∀ i, i < n → ∀ (S : Int32) (v : Option Value), xv_ev ro 199 xm_Mo_against xb_Mo_against_25 [some (.ref 167), some (.int S), some (.int (nI i)), some (.long (vq_L (vf_f I i))), v, some (.int 0)] [] (z, xv_mk I J) = xv_ev ro 199 xm_Mo_against xb_Mo_against_4 [some (.ref 167), some (.int (S + vs_sum (vg_a I i) i)), some (.int (nI (i + 1))), some (.long (vq_L (vf_f I i))), v, some (.int (nI i))] [] (z, xv_mk I J) := by
    intro i hi S v
    have hl := vz_iter (fun j => xv_ev ro 199 xm_Mo_against xb_Mo_against_25 [some (.ref 167), some (.int (S + vs_sum (vg_a I i) j)), some (.int (nI i)), some (.long (vq_L (vf_f I i))), v, some (.int (nI j))] [] (z, xv_mk I J)) i (fun j hj => by
      have hs : vs_sum (vg_a I i) (j + 1) = vs_sum (vg_a I i) j + vg_a I i j := rfl
      have hf := xq_Mo_fitsOf ro 198 z I J (h j (by omega)) hq (show j < 20 by omega)
      have h1 : (nI i ≤ nI j) = False := by (simp (disch := omega) only [vz_all, if_true, if_false, true_or, or_true, eq_self, ite_not, Bool.false_eq_true, ite_self, and_self, true_and, and_true, false_and, and_false, not_true_eq_false, not_false_eq_true, false_or, or_false])
      have k1 := vq_cmp (vf_f I i &&& vf_f I j)
      have hc : vf_f I i &&& vf_f I j = vf_f I j &&& vf_f I i := Int32.and_comm _ _
      rw [hs]
      unfold vg_a
      rw [show (fun j => if vf_f I j &&& vf_f I i = 0 then (1 : Int32) else 0) = vg_a I i from rfl]
      generalize vs_sum (vg_a I i) j = T
      rw [hc] at k1
      conv => lhs; unfold xb_Mo_against_25
      by_cases c : vf_f I j &&& vf_f I i = 0
      · simp only [xr_all, xf_all, if_true, if_false, true_or, or_true, eq_self, ite_not, Bool.false_eq_true, ite_self, and_self, true_and, and_true, false_and, and_false, not_true_eq_false, not_false_eq_true, xj_Mo_against, xb_Mo_against_0, xb_Mo_against_48, xb_Mo_against_54, xb_Mo_against_60, h1, hf, vq_and, hc, k1, vq_z0, c, nI_1, Int32.add_assoc]
      · simp only [xr_all, xf_all, if_true, if_false, true_or, or_true, eq_self, ite_not, Bool.false_eq_true, ite_self, and_self, true_and, and_true, false_and, and_false, not_true_eq_false, not_false_eq_true, xj_Mo_against, xb_Mo_against_0, xb_Mo_against_48, xb_Mo_against_54, xb_Mo_against_60, h1, hf, vq_and, hc, k1, vq_z0, c, nI_1, Int32.add_zero])
    have e0 : vs_sum (vg_a I i) 0 = 0 := rfl
    rw [e0, Int32.add_zero, show nI 0 = (0 : Int32) from rfl] at hl
    rw [hl]
    generalize vs_sum (vg_a I i) i = T
    conv => lhs; unfold xb_Mo_against_25
    have h1 : (nI i ≤ nI i) = True := by (simp (disch := omega) only [vz_all, if_true, if_false, true_or, or_true, eq_self, ite_not, Bool.false_eq_true, ite_self, and_self, true_and, and_true, false_and, and_false, not_true_eq_false, not_false_eq_true, false_or, or_false])
    simp only [xr_all, xf_all, if_true, if_false, true_or, or_true, eq_self, ite_not, Bool.false_eq_true, ite_self, and_self, true_and, and_true, false_and, and_false, not_true_eq_false, not_false_eq_true, xj_Mo_against, xb_Mo_against_0, xb_Mo_against_48, xb_Mo_against_54, xb_Mo_against_60, h1, nI_1]
  have hl := vz_down (fun i => ∀ u v w, xv_ev ro 199 xm_Mo_against xb_Mo_against_4 [some (.ref 167), some (.int (vs_sum (fun i => vs_sum (vg_a I i) i) i)), some (.int (nI i)), u, v, w] [] (z, xv_mk I J) = some (some (.int (vs_sum (fun i => vs_sum (vg_a I i) i) n)), (z, xv_mk I J))) n (fun i hi ih u v w => by
    have h1 : (nI n ≤ nI i) = False := by (simp (disch := omega) only [vz_all, if_true, if_false, true_or, or_true, eq_self, ite_not, Bool.false_eq_true, ite_self, and_self, true_and, and_true, false_and, and_false, not_true_eq_false, not_false_eq_true, false_or, or_false])
    have hs : vs_sum (fun i => vs_sum (vg_a I i) i) (i + 1) = vs_sum (fun i => vs_sum (vg_a I i) i) i + vs_sum (vg_a I i) i := rfl
    have hi2 := hin i hi (vs_sum (fun i => vs_sum (vg_a I i) i) i)
    have hf := xq_Mo_fitsOf ro 198 z I J (h i (by omega)) hq (show i < 20 by omega)
    rw [← hs] at hi2
    conv => lhs; unfold xb_Mo_against_4
    simp only [xr_all, xf_all, if_true, if_false, true_or, or_true, eq_self, ite_not, Bool.false_eq_true, ite_self, and_self, true_and, and_true, false_and, and_false, not_true_eq_false, not_false_eq_true, xj_Mo_against, xb_Mo_against_0, xb_Mo_against_48, xb_Mo_against_54, xb_Mo_against_60, g4, g5, hn, h1, hf, hi2, ih]) (fun u v w => by
    generalize vs_sum (fun i => vs_sum (vg_a I i) i) n = T
    conv => lhs; unfold xb_Mo_against_4
    have h1 : (nI n ≤ nI n) = True := by (simp (disch := omega) only [vz_all, if_true, if_false, true_or, or_true, eq_self, ite_not, Bool.false_eq_true, ite_self, and_self, true_and, and_true, false_and, and_false, not_true_eq_false, not_false_eq_true, false_or, or_false])
    simp only [xr_all, xf_all, if_true, if_false, true_or, or_true, eq_self, ite_not, Bool.false_eq_true, ite_self, and_self, true_and, and_true, false_and, and_false, not_true_eq_false, not_false_eq_true, xj_Mo_against, xb_Mo_against_0, xb_Mo_against_48, xb_Mo_against_54, xb_Mo_against_60, g4, g5, hn, h1])
  exact hl u v w
theorem xp_19 (VL : xv_LP) (hV : vi_Lc VL) : xl_P19 (vi_all VL) := by
  intro ro I J hro hI
  obtain ⟨n, n1, n2, n3, n4, n5, q4, q, q1, q2, q3⟩ := vh_A hI
  refine ⟨vs_sum (fun i => vs_sum (vg_a I i) i) n, I, J, I, J, ?_, ?_, hI⟩
  · rw [xe_Ct_against]
    simp only [xr_all, xf_all, if_true, if_false, true_or, or_true, eq_self, ite_not, Bool.false_eq_true, ite_self, and_self, true_and, and_true, false_and, and_false, not_true_eq_false, not_false_eq_true, xj_Ct_against, xb_Ct_against_0, xb_Ct_against_46, xb_Ct_against_52, xb_Ct_against_58]
    exact vl_agnC ro xv_SZ I J n2 n1 n4 _
  · rw [xe_Mo_against]
    simp only [xr_all, xf_all, if_true, if_false, true_or, or_true, eq_self, ite_not, Bool.false_eq_true, ite_self, and_self, true_and, and_true, false_and, and_false, not_true_eq_false, not_false_eq_true, xj_Mo_against, xb_Mo_against_0, xb_Mo_against_48, xb_Mo_against_54, xb_Mo_against_60]
    exact vl_agnM ro xv_SZ I J n3 n1 n5 q4 _ _ _
