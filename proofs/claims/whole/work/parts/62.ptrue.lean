/-! PAIRS: ifTrue, follows, against -/
theorem vq_z0 : (lg_cmp (vq_L 0) 0 = 0) = True := eq_true (by decide)
/-- what the invariant says of the answers, where it is read -/
theorem vh_A {VL : xv_LP} {I : Nat → Nat → Int32} {J : Nat → Nat → Int64} (hI : vi_all VL I J) : ∃ n : Nat, n ≤ 20 ∧ I 25 2 = nI n ∧ I 168 301 = nI n ∧ (∀ i, i < n → (∀ f, f < 8 → I (25 + 23 + i) f = I 168 (140 + 20 * f + i)) ∧ (∃ w : Nat, w < 10 ∧ I 168 (140 + i) = nI w) ∧ (∃ k : Nat, k < 8 ∧ I 168 (160 + i) = nI k) ∧ (I 168 (180 + i) = 0 ∨ I 168 (180 + i) = 1) ∧ (I 168 (200 + i) = 0 ∨ I 168 (200 + i) = 1)) ∧ (∀ i, i < n → (∃ k : Nat, k < 8 ∧ I 168 (160 + i) = nI k) ∧ (I 168 (180 + i) = 0 ∨ I 168 (180 + i) = 1)) ∧ (∀ k, k < 8 → J 172 k = vq_L (I 4 k)) ∧ ∃ q : Nat, q < 256 ∧ I 3 1 = nI q ∧ I 167 5 = nI q := by
  obtain ⟨a1, a2, ⟨q, q4⟩, ⟨⟨n, n1, n2, n3, n4⟩, -⟩, -⟩ := hI
  exact ⟨n, n1, n2, n3, n4, fun i hi => ⟨(n4 i hi).2.2.1, (n4 i hi).2.2.2.1⟩, q4, q⟩
theorem xp_17 (VL : xv_LP) (hV : vi_Lc VL) : xl_P17 (vi_all VL) := by
  intro x ro I J hro hI
  obtain ⟨n, n1, n2, n3, n4, n5, q4, -⟩ := vh_A hI
  rcases vh_or ro 198 xv_SZ I J n2 n3 n1 x with ⟨s, hs, hs2, rfl, c1, c2⟩ | ⟨c1, c2⟩
  · refine ⟨vq_L (vf_w I (fun i => s.testBit i) n), I, J, I, J, ?_, ?_, hI⟩
    · rw [xe_Ct_ifTrue]
      simp only [xr_all, xf_all, if_true, if_false, true_or, or_true, eq_self, ite_not, Bool.false_eq_true, ite_self, and_self, true_and, and_true, false_and, and_false, not_true_eq_false, not_false_eq_true, xj_Ct_ifTrue, xb_Ct_ifTrue_0, xb_Ct_ifTrue_15, c1, xq_fitting ro 196 xv_SZ I J n2 n1 n4 (show s < 2 ^ 31 by omega), vq_l]
    · rw [xe_Mo_ifTrue]
      simp only [xr_all, xf_all, if_true, if_false, true_or, or_true, eq_self, ite_not, Bool.false_eq_true, ite_self, and_self, true_and, and_true, false_and, and_false, not_true_eq_false, not_false_eq_true, xj_Mo_ifTrue, xb_Mo_ifTrue_0, xb_Mo_ifTrue_16, xb_Mo_ifTrue_19, c2, xq_Mo_fitsAll ro 197 xv_SZ I J n3 n1 n5 q4 (show s < 2 ^ 31 by omega)]
  · refine ⟨-1, I, J, I, J, ?_, ?_, hI⟩
    · rw [xe_Ct_ifTrue]
      simp only [xr_all, xf_all, if_true, if_false, true_or, or_true, eq_self, ite_not, Bool.false_eq_true, ite_self, and_self, true_and, and_true, false_and, and_false, not_true_eq_false, not_false_eq_true, xj_Ct_ifTrue, xb_Ct_ifTrue_0, xb_Ct_ifTrue_15, c1]
    · rw [xe_Mo_ifTrue]
      simp only [xr_all, xf_all, if_true, if_false, true_or, or_true, eq_self, ite_not, Bool.false_eq_true, ite_self, and_self, true_and, and_true, false_and, and_false, not_true_eq_false, not_false_eq_true, xj_Mo_ifTrue, xb_Mo_ifTrue_0, xb_Mo_ifTrue_16, xb_Mo_ifTrue_19, c2]
/-- a set of the first n that p names -/
def vf_s (p : Nat → Bool) : Nat → Int32
  | 0 => 0
  | k + 1 => if p k = true then vf_s p k ||| ((1 : Int32) <<< (nI k &&& 31)) else vf_s p k
/-- 0 or 1 -/
theorem vn_01 (x : Int32) : (x = 0 ∧ (0 ≤ x ∧ x ≤ 1) = True) ∨ (x = 1 ∧ (0 ≤ x ∧ x ≤ 1) = True) ∨ ((x = 0) = False ∧ (x = 1) = False ∧ (0 ≤ x ∧ x ≤ 1) = False) := by
  by_cases h0 : x = 0
  · left; exact ⟨h0, eq_true (by rw [h0]; decide)⟩
  · right
    by_cases h1 : x = 1
    · left; exact ⟨h1, eq_true (by rw [h1]; decide)⟩
    · right
      refine ⟨eq_false h0, eq_false h1, eq_false ?_⟩
      intro q
      obtain ⟨j, hj, rfl⟩ := (vn_in (N := 1) (by omega)).mp q
      have : j = 0 ∨ j = 1 := by omega
      rcases this with rfl | rfl
      · exact h0 rfl
      · exact h1 rfl
def vf_c (I : Nat → Nat → Int32) (x : Int32) (k : Nat) : Int32 := if x = 0 then I 4 k ^^^ -1 else I 4 k
theorem vl_folC (ro : xv_Ro) (z : Nat × Nat) (I : Nat → Nat → Int32) (J : Nat → Nat → Int64) {q : Nat} (hq : I 3 1 = nI q) (hq2 : q < 256) (x0 x1 W : Int32) (hx : x1 = 0 ∨ x1 = 1) (u : Option Value) : xv_ev ro 199 xm_Ct_follows xb_Ct_follows_41 [some (.ref 0), some (.int x0), some (.int x1), some (.int W), some (.int 0), some (.int 0), u] [] (z, xv_mk I J) = some (some (.int (vf_s (fun k => q.testBit k && decide (W &&& vf_c I x1 k = 0)) 8)), (z, xv_mk I J)) := by
  have hl := vz_down (fun i => ∀ u, xv_ev ro 199 xm_Ct_follows xb_Ct_follows_41 [some (.ref 0), some (.int x0), some (.int x1), some (.int W), some (.int (vf_s (fun k => q.testBit k && decide (W &&& vf_c I x1 k = 0)) i)), some (.int (nI i)), u] [] (z, xv_mk I J) = some (some (.int (vf_s (fun k => q.testBit k && decide (W &&& vf_c I x1 k = 0)) 8)), (z, xv_mk I J))) 8 (fun i hi ih u => by
    have hs : vf_s (fun k => q.testBit k && decide (W &&& vf_c I x1 k = 0)) (i + 1) = if (q.testBit i && decide (W &&& vf_c I x1 i = 0)) = true then vf_s (fun k => q.testBit k && decide (W &&& vf_c I x1 k = 0)) i ||| ((1 : Int32) <<< (nI i &&& 31)) else vf_s (fun k => q.testBit k && decide (W &&& vf_c I x1 k = 0)) i := rfl
    have h1 : (8 ≤ nI i) = False := by (simp (disch := omega) only [vz_all, if_true, if_false, true_or, or_true, eq_self, ite_not, Bool.false_eq_true, ite_self, and_self, true_and, and_true, false_and, and_false, not_true_eq_false, not_false_eq_true, false_or, or_false])
    have h2 := xq_Questions_isTold ro 198 z I J hq hq2 hi
    have h3 := xq_Questions_holds ro 198 z I J hi
    have z1 : ((1 : Int32) = 0) = False := eq_false (by decide)
    have hc : vf_c I x1 i = if x1 = 0 then I 4 i ^^^ -1 else I 4 i := rfl
    rw [hs] at ih
    generalize vf_s (fun k => q.testBit k && decide (W &&& vf_c I x1 k = 0)) i = S at *
    conv => lhs; unfold xb_Ct_follows_41
    by_cases c : q.testBit i = true
    · rw [vz_b1 c] at h2
      by_cases c3 : W &&& vf_c I x1 i = 0
      · rw [if_pos (by rw [c, decide_eq_true c3]; rfl)] at ih
        rcases hx with hx | hx
        · rw [hx] at c3 hc ih ⊢
          rw [hc, if_pos rfl] at c3
          simp only [xr_all, xf_all, if_true, if_false, true_or, or_true, eq_self, ite_not, Bool.false_eq_true, ite_self, and_self, true_and, and_true, false_and, and_false, not_true_eq_false, not_false_eq_true, xj_Ct_follows, xb_Ct_follows_0, xb_Ct_follows_20, xb_Ct_follows_22, xb_Ct_follows_66, xb_Ct_follows_75, xb_Ct_follows_105, xb_Ct_follows_111, h1, h2, h3, c3, nI_1, ih]
        · rw [hx] at c3 hc ih ⊢
          rw [hc, if_neg (by decide)] at c3
          simp only [xr_all, xf_all, if_true, if_false, true_or, or_true, eq_self, ite_not, Bool.false_eq_true, ite_self, and_self, true_and, and_true, false_and, and_false, not_true_eq_false, not_false_eq_true, xj_Ct_follows, xb_Ct_follows_0, xb_Ct_follows_20, xb_Ct_follows_22, xb_Ct_follows_66, xb_Ct_follows_75, xb_Ct_follows_105, xb_Ct_follows_111, h1, h2, h3, z1, c3, nI_1, ih]
      · rw [if_neg (by rw [c, decide_eq_false c3]; decide)] at ih
        rcases hx with hx | hx
        · rw [hx] at c3 hc ih ⊢
          rw [hc, if_pos rfl] at c3
          simp only [xr_all, xf_all, if_true, if_false, true_or, or_true, eq_self, ite_not, Bool.false_eq_true, ite_self, and_self, true_and, and_true, false_and, and_false, not_true_eq_false, not_false_eq_true, xj_Ct_follows, xb_Ct_follows_0, xb_Ct_follows_20, xb_Ct_follows_22, xb_Ct_follows_66, xb_Ct_follows_75, xb_Ct_follows_105, xb_Ct_follows_111, h1, h2, h3, c3, nI_1, ih]
        · rw [hx] at c3 hc ih ⊢
          rw [hc, if_neg (by decide)] at c3
          simp only [xr_all, xf_all, if_true, if_false, true_or, or_true, eq_self, ite_not, Bool.false_eq_true, ite_self, and_self, true_and, and_true, false_and, and_false, not_true_eq_false, not_false_eq_true, xj_Ct_follows, xb_Ct_follows_0, xb_Ct_follows_20, xb_Ct_follows_22, xb_Ct_follows_66, xb_Ct_follows_75, xb_Ct_follows_105, xb_Ct_follows_111, h1, h2, h3, z1, c3, nI_1, ih]
    · rw [vz_b0 c] at h2
      rw [if_neg (by intro g; exact c (Bool.and_eq_true_iff.mp g).1)] at ih
      rcases hx with hx | hx
      · rw [hx] at ih ⊢
        simp only [xr_all, xf_all, if_true, if_false, true_or, or_true, eq_self, ite_not, Bool.false_eq_true, ite_self, and_self, true_and, and_true, false_and, and_false, not_true_eq_false, not_false_eq_true, xj_Ct_follows, xb_Ct_follows_0, xb_Ct_follows_20, xb_Ct_follows_22, xb_Ct_follows_66, xb_Ct_follows_75, xb_Ct_follows_105, xb_Ct_follows_111, h1, h2, h3, nI_1, ih]
      · rw [hx] at ih ⊢
        simp only [xr_all, xf_all, if_true, if_false, true_or, or_true, eq_self, ite_not, Bool.false_eq_true, ite_self, and_self, true_and, and_true, false_and, and_false, not_true_eq_false, not_false_eq_true, xj_Ct_follows, xb_Ct_follows_0, xb_Ct_follows_20, xb_Ct_follows_22, xb_Ct_follows_66, xb_Ct_follows_75, xb_Ct_follows_105, xb_Ct_follows_111, h1, h2, h3, z1, nI_1, ih]) (fun u => by
    generalize vf_s (fun k => q.testBit k && decide (W &&& vf_c I x1 k = 0)) 8 = S
    conv => lhs; unfold xb_Ct_follows_41
    have h1 : (8 ≤ nI 8) = True := eq_true (by decide)
    simp only [xr_all, xf_all, if_true, if_false, true_or, or_true, eq_self, ite_not, Bool.false_eq_true, ite_self, and_self, true_and, and_true, false_and, and_false, not_true_eq_false, not_false_eq_true, xj_Ct_follows, xb_Ct_follows_0, xb_Ct_follows_20, xb_Ct_follows_22, xb_Ct_follows_66, xb_Ct_follows_75, xb_Ct_follows_105, xb_Ct_follows_111, h1])
  exact hl u
theorem vl_folM (ro : xv_Ro) (z : Nat × Nat) (I : Nat → Nat → Int32) (J : Nat → Nat → Int64) {q : Nat} (hq : I 167 5 = nI q) (hq2 : q < 256) (hj : ∀ k, k < 8 → J 172 k = vq_L (I 4 k)) (x0 x1 W : Int32) (hx : x1 = 0 ∨ x1 = 1) (w0 u v : Option Value) : xv_ev ro 199 xm_Mo_follows xb_Mo_follows_31 [some (.ref 167), some (.int x0), some (.int x1), some (.long (vq_L W)), w0, some (.int 0), some (.int 0), u, v] [] (z, xv_mk I J) = some (some (.int (vf_s (fun k => q.testBit k && decide (W &&& vf_c I x1 k = 0)) 8)), (z, xv_mk I J)) := by
  have hl := vz_down (fun i => ∀ u v, xv_ev ro 199 xm_Mo_follows xb_Mo_follows_31 [some (.ref 167), some (.int x0), some (.int x1), some (.long (vq_L W)), w0, some (.int (vf_s (fun k => q.testBit k && decide (W &&& vf_c I x1 k = 0)) i)), some (.int (nI i)), u, v] [] (z, xv_mk I J) = some (some (.int (vf_s (fun k => q.testBit k && decide (W &&& vf_c I x1 k = 0)) 8)), (z, xv_mk I J))) 8 (fun i hi ih u v => by
    have hs : vf_s (fun k => q.testBit k && decide (W &&& vf_c I x1 k = 0)) (i + 1) = if (q.testBit i && decide (W &&& vf_c I x1 i = 0)) = true then vf_s (fun k => q.testBit k && decide (W &&& vf_c I x1 k = 0)) i ||| ((1 : Int32) <<< (nI i &&& 31)) else vf_s (fun k => q.testBit k && decide (W &&& vf_c I x1 k = 0)) i := rfl
    have h1 : (8 ≤ nI i) = False := by (simp (disch := omega) only [vz_all, if_true, if_false, true_or, or_true, eq_self, ite_not, Bool.false_eq_true, ite_self, and_self, true_and, and_true, false_and, and_false, not_true_eq_false, not_false_eq_true, false_or, or_false])
    have h2 := xq_Mo_isQuestion ro 197 z I J hq hq2 hi
    have h3 : xv_inB (nI i) 8 = true := by (simp (disch := omega) only [vz_all, if_true, if_false, true_or, or_true, eq_self, ite_not, Bool.false_eq_true, ite_self, and_self, true_and, and_true, false_and, and_false, not_true_eq_false, not_false_eq_true, false_or, or_false])
    have h4 := hj i hi
    have z1 : ((1 : Int32) = 0) = False := eq_false (by decide)
    have hc : vf_c I x1 i = if x1 = 0 then I 4 i ^^^ -1 else I 4 i := rfl
    have hn := vq_not (I 4 i)
    have hn2 := vq_andn W (I 4 i)
    have hn3 := vq_andn W (I 4 i ^^^ -1)
    rw [vq_nn] at hn3
    have k1 := vq_cmp (W &&& (I 4 i ^^^ -1))
    have k2 := vq_cmp (W &&& I 4 i)
    rw [hs] at ih
    generalize vf_s (fun k => q.testBit k && decide (W &&& vf_c I x1 k = 0)) i = S at *
    conv => lhs; unfold xb_Mo_follows_31
    by_cases c : q.testBit i = true
    · rw [vz_b1 c] at h2
      by_cases c3 : W &&& vf_c I x1 i = 0
      · rw [if_pos (by rw [c, decide_eq_true c3]; rfl)] at ih
        rcases hx with hx | hx
        · rw [hx] at c3 hc ih ⊢
          rw [hc, if_pos rfl] at c3
          simp only [xr_all, xf_all, if_true, if_false, true_or, or_true, eq_self, ite_not, Bool.false_eq_true, ite_self, and_self, true_and, and_true, false_and, and_false, not_true_eq_false, not_false_eq_true, xj_Mo_follows, xb_Mo_follows_0, xb_Mo_follows_17, xb_Mo_follows_19, xb_Mo_follows_52, xb_Mo_follows_67, xb_Mo_follows_100, xb_Mo_follows_106, h1, h2, h3, nI_clamp (show i < 2 ^ 31 by omega), h4, hn2, k1, vq_z0, c3, nI_1, ih]
        · rw [hx] at c3 hc ih ⊢
          rw [hc, if_neg (by decide)] at c3
          simp only [xr_all, xf_all, if_true, if_false, true_or, or_true, eq_self, ite_not, Bool.false_eq_true, ite_self, and_self, true_and, and_true, false_and, and_false, not_true_eq_false, not_false_eq_true, xj_Mo_follows, xb_Mo_follows_0, xb_Mo_follows_17, xb_Mo_follows_19, xb_Mo_follows_52, xb_Mo_follows_67, xb_Mo_follows_100, xb_Mo_follows_106, h1, h2, h3, nI_clamp (show i < 2 ^ 31 by omega), h4, z1, hn, hn3, k2, vq_z0, c3, nI_1, ih]
      · rw [if_neg (by rw [c, decide_eq_false c3]; decide)] at ih
        rcases hx with hx | hx
        · rw [hx] at c3 hc ih ⊢
          rw [hc, if_pos rfl] at c3
          simp only [xr_all, xf_all, if_true, if_false, true_or, or_true, eq_self, ite_not, Bool.false_eq_true, ite_self, and_self, true_and, and_true, false_and, and_false, not_true_eq_false, not_false_eq_true, xj_Mo_follows, xb_Mo_follows_0, xb_Mo_follows_17, xb_Mo_follows_19, xb_Mo_follows_52, xb_Mo_follows_67, xb_Mo_follows_100, xb_Mo_follows_106, h1, h2, h3, nI_clamp (show i < 2 ^ 31 by omega), h4, hn2, k1, vq_z0, c3, nI_1, ih]
        · rw [hx] at c3 hc ih ⊢
          rw [hc, if_neg (by decide)] at c3
          simp only [xr_all, xf_all, if_true, if_false, true_or, or_true, eq_self, ite_not, Bool.false_eq_true, ite_self, and_self, true_and, and_true, false_and, and_false, not_true_eq_false, not_false_eq_true, xj_Mo_follows, xb_Mo_follows_0, xb_Mo_follows_17, xb_Mo_follows_19, xb_Mo_follows_52, xb_Mo_follows_67, xb_Mo_follows_100, xb_Mo_follows_106, h1, h2, h3, nI_clamp (show i < 2 ^ 31 by omega), h4, z1, hn, hn3, k2, vq_z0, c3, nI_1, ih]
    · rw [vz_b0 c] at h2
      rw [if_neg (by intro g; exact c (Bool.and_eq_true_iff.mp g).1)] at ih
      rcases hx with hx | hx
      · rw [hx] at ih ⊢
        simp only [xr_all, xf_all, if_true, if_false, true_or, or_true, eq_self, ite_not, Bool.false_eq_true, ite_self, and_self, true_and, and_true, false_and, and_false, not_true_eq_false, not_false_eq_true, xj_Mo_follows, xb_Mo_follows_0, xb_Mo_follows_17, xb_Mo_follows_19, xb_Mo_follows_52, xb_Mo_follows_67, xb_Mo_follows_100, xb_Mo_follows_106, h1, h2, h3, nI_clamp (show i < 2 ^ 31 by omega), h4, nI_1, ih]
      · rw [hx] at ih ⊢
        simp only [xr_all, xf_all, if_true, if_false, true_or, or_true, eq_self, ite_not, Bool.false_eq_true, ite_self, and_self, true_and, and_true, false_and, and_false, not_true_eq_false, not_false_eq_true, xj_Mo_follows, xb_Mo_follows_0, xb_Mo_follows_17, xb_Mo_follows_19, xb_Mo_follows_52, xb_Mo_follows_67, xb_Mo_follows_100, xb_Mo_follows_106, h1, h2, h3, nI_clamp (show i < 2 ^ 31 by omega), h4, z1, nI_1, ih]) (fun u v => by
    generalize vf_s (fun k => q.testBit k && decide (W &&& vf_c I x1 k = 0)) 8 = S
    conv => lhs; unfold xb_Mo_follows_31
    have h1 : (8 ≤ nI 8) = True := eq_true (by decide)
    simp only [xr_all, xf_all, if_true, if_false, true_or, or_true, eq_self, ite_not, Bool.false_eq_true, ite_self, and_self, true_and, and_true, false_and, and_false, not_true_eq_false, not_false_eq_true, xj_Mo_follows, xb_Mo_follows_0, xb_Mo_follows_17, xb_Mo_follows_19, xb_Mo_follows_52, xb_Mo_follows_67, xb_Mo_follows_100, xb_Mo_follows_106, h1])
  exact hl u v
theorem xp_20 (VL : xv_LP) (hV : vi_Lc VL) : xl_P20 (vi_all VL) := by
  intro x0 x1 ro I J hro hI
  obtain ⟨n, n1, n2, n3, n4, n5, q4, q, q1, q2, q3⟩ := vh_A hI
  rcases vh_or ro 198 xv_SZ I J n2 n3 n1 x0 with ⟨s, hs, hs2, rfl, c1, c2⟩ | ⟨c1, c2⟩
  · have hf := xq_fitting ro 196 xv_SZ I J n2 n1 n4 (show s < 2 ^ 31 by omega)
    have hm := xq_Mo_fitsAll ro 197 xv_SZ I J n3 n1 n5 q4 (show s < 2 ^ 31 by omega)
    have z1 : ((1 : Int32) = 0) = False := eq_false (by decide)
    rcases vn_01 x1 with ⟨h, hin⟩ | ⟨h, hin⟩ | ⟨h0, h1, hin⟩
    · refine ⟨vf_s (fun k => q.testBit k && decide (vf_w I (fun i => s.testBit i) n &&& vf_c I x1 k = 0)) 8, I, J, I, J, ?_, ?_, hI⟩
      · rw [xe_Ct_follows]
        simp only [xr_all, xf_all, if_true, if_false, true_or, or_true, eq_self, ite_not, Bool.false_eq_true, ite_self, and_self, true_and, and_true, false_and, and_false, not_true_eq_false, not_false_eq_true, xj_Ct_follows, xb_Ct_follows_0, xb_Ct_follows_20, xb_Ct_follows_22, xb_Ct_follows_66, xb_Ct_follows_75, xb_Ct_follows_105, xb_Ct_follows_111, c1, eq_true h, hf]
        exact vl_folC ro xv_SZ I J q2 q1 _ x1 _ (Or.inl h) _
      · rw [xe_Mo_follows]
        simp only [xr_all, xf_all, if_true, if_false, true_or, or_true, eq_self, ite_not, Bool.false_eq_true, ite_self, and_self, true_and, and_true, false_and, and_false, not_true_eq_false, not_false_eq_true, xj_Mo_follows, xb_Mo_follows_0, xb_Mo_follows_17, xb_Mo_follows_19, xb_Mo_follows_52, xb_Mo_follows_67, xb_Mo_follows_100, xb_Mo_follows_106, c2, xq_Mo_in, hin, hm]
        exact vl_folM ro xv_SZ I J q3 q1 q4 _ x1 _ (Or.inl h) _ _ _
    · refine ⟨vf_s (fun k => q.testBit k && decide (vf_w I (fun i => s.testBit i) n &&& vf_c I x1 k = 0)) 8, I, J, I, J, ?_, ?_, hI⟩
      · rw [xe_Ct_follows]
        simp only [xr_all, xf_all, if_true, if_false, true_or, or_true, eq_self, ite_not, Bool.false_eq_true, ite_self, and_self, true_and, and_true, false_and, and_false, not_true_eq_false, not_false_eq_true, xj_Ct_follows, xb_Ct_follows_0, xb_Ct_follows_20, xb_Ct_follows_22, xb_Ct_follows_66, xb_Ct_follows_75, xb_Ct_follows_105, xb_Ct_follows_111, c1, eq_true h, hf]
        exact vl_folC ro xv_SZ I J q2 q1 _ x1 _ (Or.inr h) _
      · rw [xe_Mo_follows]
        simp only [xr_all, xf_all, if_true, if_false, true_or, or_true, eq_self, ite_not, Bool.false_eq_true, ite_self, and_self, true_and, and_true, false_and, and_false, not_true_eq_false, not_false_eq_true, xj_Mo_follows, xb_Mo_follows_0, xb_Mo_follows_17, xb_Mo_follows_19, xb_Mo_follows_52, xb_Mo_follows_67, xb_Mo_follows_100, xb_Mo_follows_106, c2, xq_Mo_in, hin, hm]
        exact vl_folM ro xv_SZ I J q3 q1 q4 _ x1 _ (Or.inr h) _ _ _
    · refine ⟨-1, I, J, I, J, ?_, ?_, hI⟩
      · rw [xe_Ct_follows]
        simp only [xr_all, xf_all, if_true, if_false, true_or, or_true, eq_self, ite_not, Bool.false_eq_true, ite_self, and_self, true_and, and_true, false_and, and_false, not_true_eq_false, not_false_eq_true, xj_Ct_follows, xb_Ct_follows_0, xb_Ct_follows_20, xb_Ct_follows_22, xb_Ct_follows_66, xb_Ct_follows_75, xb_Ct_follows_105, xb_Ct_follows_111, c1, h0, h1]
      · rw [xe_Mo_follows]
        simp only [xr_all, xf_all, if_true, if_false, true_or, or_true, eq_self, ite_not, Bool.false_eq_true, ite_self, and_self, true_and, and_true, false_and, and_false, not_true_eq_false, not_false_eq_true, xj_Mo_follows, xb_Mo_follows_0, xb_Mo_follows_17, xb_Mo_follows_19, xb_Mo_follows_52, xb_Mo_follows_67, xb_Mo_follows_100, xb_Mo_follows_106, c2, xq_Mo_in, hin]
  · refine ⟨-1, I, J, I, J, ?_, ?_, hI⟩
    · rw [xe_Ct_follows]
      simp only [xr_all, xf_all, if_true, if_false, true_or, or_true, eq_self, ite_not, Bool.false_eq_true, ite_self, and_self, true_and, and_true, false_and, and_false, not_true_eq_false, not_false_eq_true, xj_Ct_follows, xb_Ct_follows_0, xb_Ct_follows_20, xb_Ct_follows_22, xb_Ct_follows_66, xb_Ct_follows_75, xb_Ct_follows_105, xb_Ct_follows_111, c1]
    · rw [xe_Mo_follows]
      simp only [xr_all, xf_all, if_true, if_false, true_or, or_true, eq_self, ite_not, Bool.false_eq_true, ite_self, and_self, true_and, and_true, false_and, and_false, not_true_eq_false, not_false_eq_true, xj_Mo_follows, xb_Mo_follows_0, xb_Mo_follows_17, xb_Mo_follows_19, xb_Mo_follows_52, xb_Mo_follows_67, xb_Mo_follows_100, xb_Mo_follows_106, c2]
