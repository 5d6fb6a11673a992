/-! PAIR: tears -/
theorem vb_bit {m k : Nat} (hm : m < 2 ^ 31) (hk : k < 32) : (nI m >>> (nI k &&& 31)) &&& 1 = nI (m / 2 ^ k % 2) := by
  have h2 : m / 2 ^ k ≤ m := Nat.div_le_self _ _
  rw [pk_shrN hm _ k (vb_sm32 k hk), pk_andN (n := m / 2 ^ k) (by omega) 1 (by decide)]
theorem vb_bit1 {m k : Nat} (hm : m < 2 ^ 31) (hk : k < 32) : ((nI m >>> (nI k &&& 31)) &&& 1 = 1) = (m.testBit k = true) := by
  rw [vb_bit hm hk, vb_tb, show (1 : Int32) = nI 1 from rfl]
  have := Nat.mod_two_eq_zero_or_one (m / 2 ^ k)
  exact propext (nI_eq (by omega) (by omega))
theorem xq_Questions_isTold (ro : xv_Ro) (d : Nat) (z : Nat × Nat) (I : Nat → Nat → Int32) (J : Nat → Nat → Int64) {q k : Nat} (hq : I 3 1 = nI q) (hq2 : q < 256) (hk : k < 8) : xv_evm ro d 223 [.ref 3, .int (nI k)] (z, xv_mk I J) = some (some (.int (xv_b (q.testBit k = true) inferInstance)), (z, xv_mk I J)) := by
  rw [xe_Questions_isTold]
  have h1 : (nI k < 0) = False := vn_lt0 (by omega)
  have h2 : (8 ≤ nI k) = False := by rw [show (8 : Int32) = nI 8 from rfl, vn_le (by omega) (by omega)]; simp; omega
  simp only [xr_all, xf_all, if_true, if_false, true_or, or_true, eq_self, ite_not, Bool.false_eq_true, ite_self, and_self, true_and, and_true, false_and, and_false, not_true_eq_false, not_false_eq_true, xj_Questions_isTold, xb_Questions_isTold_0, xb_Questions_isTold_26, xb_Questions_isTold_27, h1, h2, hq, vb_bit1 (show q < 2 ^ 31 by omega) (show k < 32 by omega)]
  unfold xv_b
  by_cases h : q.testBit k = true <;> simp only [h, if_true, if_false, Bool.false_eq_true]
theorem xq_Questions_isTold_no (ro : xv_Ro) (d : Nat) (σ : xv_S) {x : Int32} (h : ¬ ∃ j : Nat, j ≤ 7 ∧ x = nI j) : xv_evm ro d 223 [.ref 3, .int x] σ = some (some (.int 0), σ) := by
  rw [xe_Questions_isTold]
  rcases vn_cases x 8 (by omega) with q | q | ⟨j, hj, q⟩
  · simp only [xr_all, xf_all, if_true, if_false, true_or, or_true, eq_self, ite_not, Bool.false_eq_true, ite_self, and_self, true_and, and_true, false_and, and_false, not_true_eq_false, not_false_eq_true, xj_Questions_isTold, xb_Questions_isTold_0, xb_Questions_isTold_26, xb_Questions_isTold_27, q]
  · rw [show nI 8 = (8 : Int32) from rfl] at q
    by_cases h1 : x < 0
    · simp only [xr_all, xf_all, if_true, if_false, true_or, or_true, eq_self, ite_not, Bool.false_eq_true, ite_self, and_self, true_and, and_true, false_and, and_false, not_true_eq_false, not_false_eq_true, xj_Questions_isTold, xb_Questions_isTold_0, xb_Questions_isTold_26, xb_Questions_isTold_27, h1]
    · simp only [xr_all, xf_all, if_true, if_false, true_or, or_true, eq_self, ite_not, Bool.false_eq_true, ite_self, and_self, true_and, and_true, false_and, and_false, not_true_eq_false, not_false_eq_true, xj_Questions_isTold, xb_Questions_isTold_0, xb_Questions_isTold_26, xb_Questions_isTold_27, h1, q]
  · exact absurd ⟨j, by omega, q⟩ h
theorem xq_Answer_asked (ro : xv_Ro) (d : Nat) (z : Nat × Nat) (I : Nat → Nat → Int32) (J : Nat → Nat → Int64) {o : Nat} (ho : vN o) : xv_evm ro d 149 [.ref o] (z, xv_mk I J) = some (some (.int (I o 1)), (z, xv_mk I J)) := by
  rw [xe_Answer_asked]
  simp only [xr_all, xf_all, if_true, if_false, true_or, or_true, eq_self, ite_not, Bool.false_eq_true, ite_self, and_self, true_and, and_true, false_and, and_false, not_true_eq_false, not_false_eq_true, xj_Answer_asked, xb_Answer_asked_0, vN_f ho]
theorem xq_Answer_who (ro : xv_Ro) (d : Nat) (z : Nat × Nat) (I : Nat → Nat → Int32) (J : Nat → Nat → Int64) {o : Nat} (ho : vN o) : xv_evm ro d 148 [.ref o] (z, xv_mk I J) = some (some (.int (I o 0)), (z, xv_mk I J)) := by
  rw [xe_Answer_who]
  simp only [xr_all, xf_all, if_true, if_false, true_or, or_true, eq_self, ite_not, Bool.false_eq_true, ite_self, and_self, true_and, and_true, false_and, and_false, not_true_eq_false, not_false_eq_true, xj_Answer_who, xb_Answer_who_0, vN_f ho]
theorem xq_Answer_hasCried (ro : xv_Ro) (d : Nat) (z : Nat × Nat) (I : Nat → Nat → Int32) (J : Nat → Nat → Int64) {o : Nat} (ho : vN o) (h : I o 3 = 0 ∨ I o 3 = 1) : xv_evm ro d 150 [.ref o] (z, xv_mk I J) = some (some (.int (I o 3)), (z, xv_mk I J)) := by
  rw [xe_Answer_hasCried]
  rcases h with h | h <;> simp only [xr_all, xf_all, if_true, if_false, true_or, or_true, eq_self, ite_not, Bool.false_eq_true, ite_self, and_self, true_and, and_true, false_and, and_false, not_true_eq_false, not_false_eq_true, xj_Answer_hasCried, xb_Answer_hasCried_0, vN_f ho, h]
theorem vl_cried (ro : xv_Ro) (d : Nat) (z : Nat × Nat) (I : Nat → Nat → Int32) (J : Nat → Nat → Int64) {A n : Nat} (hA : vAr A) (hn : I A 2 = nI n) (hn2 : n ≤ 20) (hB : vi_B I) (x : Int32) : ∀ (k i : Nat), i + k = n → xv_ev ro (d + 1) xm_Archive_criedAt xb_Archive_criedAt_4 [some (.ref A), some (.int x), some (.int (vs_sum (fun i => if I (A + 23 + i) 1 = x then I (A + 23 + i) 3 else 0) i)), some (.int (nI i))] [] (z, xv_mk I J) = some (some (.int (vs_sum (fun i => if I (A + 23 + i) 1 = x then I (A + 23 + i) 3 else 0) n)), (z, xv_mk I J)) := by
  intro k
  induction k with
  | zero =>
    intro i hi
    obtain rfl : i = n := by omega
    conv => lhs; unfold xb_Archive_criedAt_4
    have h1 : (nI i ≤ nI i) = True := by rw [vn_le (by omega) (by omega)]; simp
    simp only [xr_all, xf_all, if_true, if_false, true_or, or_true, eq_self, ite_not, Bool.false_eq_true, ite_self, and_self, true_and, and_true, false_and, and_false, not_true_eq_false, not_false_eq_true, xj_Archive_criedAt, xb_Archive_criedAt_0, xb_Archive_criedAt_46, xb_Archive_criedAt_52, vAr_f hA, hn, h1]
  | succ k ih =>
    intro i hi
    rw [← ih (i + 1) (by omega)]
    conv => lhs; unfold xb_Archive_criedAt_4
    have h1 : (nI n ≤ nI i) = False := by rw [vn_le (by omega) (by omega)]; simp; omega
    have h2 : (20 ≤ nI i) = False := by rw [show (20 : Int32) = nI 20 from rfl, vn_le (by omega) (by omega)]; simp; omega
    have h4 : xv_inB (nI i) 20 = true := vn_inB (by omega) (by omega)
    have m1 : A + 23 + 1 * i = A + 23 + i := by omega
    have hN := vAr_N hA (show i < 20 by omega)
    have hb := ((hB (A + 23 + i)).2 (vN_f hN).2.2.2.2.2.2.2.2).2
    have hs : vs_sum (fun i => if I (A + 23 + i) 1 = x then I (A + 23 + i) 3 else 0) (i + 1) = vs_sum (fun i => if I (A + 23 + i) 1 = x then I (A + 23 + i) 3 else 0) i + (if I (A + 23 + i) 1 = x then I (A + 23 + i) 3 else 0) := rfl
    rw [hs]
    by_cases c1 : I (A + 23 + i) 1 = x
    · rw [if_pos c1]
      rcases id hb with c2 | c2
      · simp only [xr_all, xf_all, if_true, if_false, true_or, or_true, eq_self, ite_not, Bool.false_eq_true, ite_self, and_self, true_and, and_true, false_and, and_false, not_true_eq_false, not_false_eq_true, xj_Archive_criedAt, xb_Archive_criedAt_0, xb_Archive_criedAt_46, xb_Archive_criedAt_52, vAr_f hA, hn, h1, h2, h4, nI_clamp (show i < 2 ^ 31 by omega), m1, vN_f hN, xq_Answer_asked ro d z I J hN, xq_Answer_hasCried ro d z I J hN hb, c1, c2, nI_1, Int32.add_zero]
      · simp only [xr_all, xf_all, if_true, if_false, true_or, or_true, eq_self, ite_not, Bool.false_eq_true, ite_self, and_self, true_and, and_true, false_and, and_false, not_true_eq_false, not_false_eq_true, xj_Archive_criedAt, xb_Archive_criedAt_0, xb_Archive_criedAt_46, xb_Archive_criedAt_52, vAr_f hA, hn, h1, h2, h4, nI_clamp (show i < 2 ^ 31 by omega), m1, vN_f hN, xq_Answer_asked ro d z I J hN, xq_Answer_hasCried ro d z I J hN hb, c1, c2, nI_1]
    · rw [if_neg c1]
      simp only [xr_all, xf_all, if_true, if_false, true_or, or_true, eq_self, ite_not, Bool.false_eq_true, ite_self, and_self, true_and, and_true, false_and, and_false, not_true_eq_false, not_false_eq_true, xj_Archive_criedAt, xb_Archive_criedAt_0, xb_Archive_criedAt_46, xb_Archive_criedAt_52, vAr_f hA, hn, h1, h2, h4, nI_clamp (show i < 2 ^ 31 by omega), m1, vN_f hN, xq_Answer_asked ro d z I J hN, c1, nI_1, Int32.add_zero]
theorem vl_tears (ro : xv_Ro) (d : Nat) (z : Nat × Nat) (I : Nat → Nat → Int32) (J : Nat → Nat → Int64) {n f : Nat} (hn : I 168 301 = nI n) (hn2 : n ≤ 20) (hf : f ≤ 160) (x : Int32) : ∀ (k i : Nat), i + k = n → xv_ev ro d xm_Mo_tearsOf xb_Mo_tearsOf_5 [some (.ref 167), some (.int (nI f)), some (.int x), some (.int (vs_sum (fun i => if I 168 (f + i) = x then I 168 (200 + i) else 0) i)), some (.int (nI i))] [] (z, xv_mk I J) = some (some (.int (vs_sum (fun i => if I 168 (f + i) = x then I 168 (200 + i) else 0) n)), (z, xv_mk I J)) := by
  intro k
  have g4 : xv_inB 301 304 = true := by decide
  have g5 : (301 : Int32).toNatClampNeg = 301 := by decide
  induction k with
  | zero =>
    intro i hi
    obtain rfl : i = n := by omega
    conv => lhs; unfold xb_Mo_tearsOf_5
    have h1 : (nI i ≤ nI i) = True := by rw [vn_le (by omega) (by omega)]; simp
    simp only [xr_all, xf_all, if_true, if_false, true_or, or_true, eq_self, ite_not, Bool.false_eq_true, ite_self, and_self, true_and, and_true, false_and, and_false, not_true_eq_false, not_false_eq_true, xj_Mo_tearsOf, xb_Mo_tearsOf_0, xb_Mo_tearsOf_46, xb_Mo_tearsOf_47, xb_Mo_tearsOf_55, g4, g5, hn, h1]
  | succ k ih =>
    intro i hi
    rw [← ih (i + 1) (by omega)]
    conv => lhs; unfold xb_Mo_tearsOf_5
    have h1 : (nI n ≤ nI i) = False := by rw [vn_le (by omega) (by omega)]; simp; omega
    have e1 : 200 + nI i = nI (200 + i) := by rw [show (200 : Int32) = nI 200 from rfl, nI_add]
    have h2 : xv_inB (nI (f + i)) 304 = true := vn_inB (by omega) (by omega)
    have h3 : xv_inB (nI (200 + i)) 304 = true := vn_inB (by omega) (by omega)
    have hs : vs_sum (fun i => if I 168 (f + i) = x then I 168 (200 + i) else 0) (i + 1) = vs_sum (fun i => if I 168 (f + i) = x then I 168 (200 + i) else 0) i + (if I 168 (f + i) = x then I 168 (200 + i) else 0) := rfl
    rw [hs]
    by_cases c1 : I 168 (f + i) = x
    · rw [if_pos c1]
      simp only [xr_all, xf_all, if_true, if_false, true_or, or_true, eq_self, ite_not, Bool.false_eq_true, ite_self, and_self, true_and, and_true, false_and, and_false, not_true_eq_false, not_false_eq_true, xj_Mo_tearsOf, xb_Mo_tearsOf_0, xb_Mo_tearsOf_46, xb_Mo_tearsOf_47, xb_Mo_tearsOf_55, g4, g5, hn, h1, nI_add, h2, nI_clamp (show f + i < 2 ^ 31 by omega), c1, e1, h3, nI_clamp (show 200 + i < 2 ^ 31 by omega), nI_1]
    · rw [if_neg c1]
      simp only [xr_all, xf_all, if_true, if_false, true_or, or_true, eq_self, ite_not, Bool.false_eq_true, ite_self, and_self, true_and, and_true, false_and, and_false, not_true_eq_false, not_false_eq_true, xj_Mo_tearsOf, xb_Mo_tearsOf_0, xb_Mo_tearsOf_46, xb_Mo_tearsOf_47, xb_Mo_tearsOf_55, g4, g5, hn, h1, nI_add, h2, nI_clamp (show f + i < 2 ^ 31 by omega), c1, nI_1]
theorem xp_22 (VL : xv_LP) (hV : vi_Lc VL) : xl_P22 (vi_all VL) := by
  intro x0 ro I J hro hI
  obtain ⟨a1, a2, ⟨⟨q, q1, q2, q3⟩, -⟩, ⟨⟨n, n1, n2, n3, n4⟩, -⟩, a5, a6, a7⟩ := id hI
  by_cases hw : ∃ w : Nat, w ≤ 7 ∧ x0 = nI w
  · obtain ⟨k, hk, rfl⟩ := hw
    have hc := xq_Questions_isTold ro 198 xv_SZ I J q2 q1 (show k < 8 by omega)
    have hm := xq_Mo_isQuestion ro 197 xv_SZ I J q3 q1 (show k < 8 by omega)
    by_cases ht : q.testBit k = true
    · have hsum : vs_sum (fun i => if I (25 + 23 + i) 1 = nI k then I (25 + 23 + i) 3 else 0) n = vs_sum (fun i => if I 168 (160 + i) = nI k then I 168 (200 + i) else 0) n := vs_sum_c (fun i hi => by
        obtain ⟨b1, -⟩ := n4 i hi
        rw [b1 1 (by omega), b1 3 (by omega)])
      refine ⟨vs_sum (fun i => if I 168 (160 + i) = nI k then I 168 (200 + i) else 0) n, I, J, I, J, ?_, ?_, hI⟩
      · have hcr : xv_evm ro 198 178 [.ref 25, .int (nI k)] (xv_SZ, xv_mk I J) = some (some (.int (vs_sum (fun i => if I 168 (160 + i) = nI k then I 168 (200 + i) else 0) n)), (xv_SZ, xv_mk I J)) := by
          rw [xe_Archive_criedAt, ← hsum]
          simp only [xr_all, xf_all, if_true, if_false, true_or, or_true, eq_self, ite_not, Bool.false_eq_true, ite_self, and_self, true_and, and_true, false_and, and_false, not_true_eq_false, not_false_eq_true, xj_Archive_criedAt, xb_Archive_criedAt_0, xb_Archive_criedAt_46, xb_Archive_criedAt_52]
          exact vl_cried ro 197 xv_SZ I J (A := 25) (Or.inl rfl) n2 n1 a7 (nI k) n 0 (by omega)
        rw [xe_Ct_tears]
        simp only [xr_all, xf_all, if_true, if_false, true_or, or_true, eq_self, ite_not, Bool.false_eq_true, ite_self, and_self, true_and, and_true, false_and, and_false, not_true_eq_false, not_false_eq_true, xj_Ct_tears, xb_Ct_tears_0, xb_Ct_tears_22, xb_Ct_tears_23, hc, ht, hcr]
      · have hcr : xv_evm ro 198 104 [.ref 167, .int 160, .int (nI k)] (xv_SZ, xv_mk I J) = some (some (.int (vs_sum (fun i => if I 168 (160 + i) = nI k then I 168 (200 + i) else 0) n)), (xv_SZ, xv_mk I J)) := by
          rw [xe_Mo_tearsOf]
          simp only [xr_all, xf_all, if_true, if_false, true_or, or_true, eq_self, ite_not, Bool.false_eq_true, ite_self, and_self, true_and, and_true, false_and, and_false, not_true_eq_false, not_false_eq_true, xj_Mo_tearsOf, xb_Mo_tearsOf_0, xb_Mo_tearsOf_46, xb_Mo_tearsOf_47, xb_Mo_tearsOf_55]
          exact vl_tears ro 198 xv_SZ I J (f := 160) n3 n1 (by omega) (nI k) n 0 (by omega)
        rw [xe_Mo_tears]
        simp only [xr_all, xf_all, if_true, if_false, true_or, or_true, eq_self, ite_not, Bool.false_eq_true, ite_self, and_self, true_and, and_true, false_and, and_false, not_true_eq_false, not_false_eq_true, xj_Mo_tears, xb_Mo_tears_0, xb_Mo_tears_19, xb_Mo_tears_20, hm, ht, hcr]
    · refine ⟨-1, I, J, I, J, ?_, ?_, hI⟩
      · rw [xe_Ct_tears]
        simp only [xr_all, xf_all, if_true, if_false, true_or, or_true, eq_self, ite_not, Bool.false_eq_true, ite_self, and_self, true_and, and_true, false_and, and_false, not_true_eq_false, not_false_eq_true, xj_Ct_tears, xb_Ct_tears_0, xb_Ct_tears_22, xb_Ct_tears_23, hc, ht]
      · rw [xe_Mo_tears]
        simp only [xr_all, xf_all, if_true, if_false, true_or, or_true, eq_self, ite_not, Bool.false_eq_true, ite_self, and_self, true_and, and_true, false_and, and_false, not_true_eq_false, not_false_eq_true, xj_Mo_tears, xb_Mo_tears_0, xb_Mo_tears_19, xb_Mo_tears_20, hm, ht]
  · refine ⟨-1, I, J, I, J, ?_, ?_, hI⟩
    · rw [xe_Ct_tears]
      simp only [xr_all, xf_all, if_true, if_false, true_or, or_true, eq_self, ite_not, Bool.false_eq_true, ite_self, and_self, true_and, and_true, false_and, and_false, not_true_eq_false, not_false_eq_true, xj_Ct_tears, xb_Ct_tears_0, xb_Ct_tears_22, xb_Ct_tears_23, xq_Questions_isTold_no ro 198 (xv_SZ, xv_mk I J) hw]
    · rw [xe_Mo_tears]
      simp only [xr_all, xf_all, if_true, if_false, true_or, or_true, eq_self, ite_not, Bool.false_eq_true, ite_self, and_self, true_and, and_true, false_and, and_false, not_true_eq_false, not_false_eq_true, xj_Mo_tears, xb_Mo_tears_0, xb_Mo_tears_19, xb_Mo_tears_20, xq_Mo_isQuestion_no ro 197 (xv_SZ, xv_mk I J) hw]
