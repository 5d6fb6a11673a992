/-! reading witnesses and answers; PAIRS: peeled, answerIs -/
def vs_sum (f : Nat → Int32) : Nat → Int32
  | 0 => 0
  | n + 1 => vs_sum f n + f n
theorem vs_sum_c {f g : Nat → Int32} {n : Nat} (h : ∀ i, i < n → f i = g i) : vs_sum f n = vs_sum g n := by
  induction n with
  | zero => rfl
  | succ n ih =>
    show vs_sum f n + f n = vs_sum g n + g n
    rw [ih (fun i hi => h i (by omega)), h n (by omega)]
theorem vs_sum_cut {f : Nat → Int32} {n : Nat} : ∀ m, vs_sum (fun i => if i < n then f i else 0) (n + m) = vs_sum f n := by
  intro m
  induction m with
  | zero => exact vs_sum_c (fun i hi => if_pos hi)
  | succ m ih =>
    show vs_sum _ (n + m) + (if n + m < n then f (n + m) else 0) = _
    rw [ih, if_neg (by omega), Int32.add_zero]
theorem xq_Witness_isTold (ro : xv_Ro) (d : Nat) (z : Nat × Nat) (I : Nat → Nat → Int32) (J : Nat → Nat → Int64) {o : Nat} (ho : vW o) (hb : I o 3 = 0 ∨ I o 3 = 1) : xv_evm ro d 263 [.ref o] (z, xv_mk I J) = some (some (.int (I o 3)), (z, xv_mk I J)) := by
  rw [xe_Witness_isTold]
  simp only [xr_all, xf_all, if_true, if_false, true_or, or_true, eq_self, ite_not, Bool.false_eq_true, ite_self, and_self, true_and, and_true, false_and, and_false, not_true_eq_false, not_false_eq_true, xj_Witness_isTold, xb_Witness_isTold_0, vW_f ho, hb]
theorem xq_Witness_honesty (ro : xv_Ro) (d : Nat) (z : Nat × Nat) (I : Nat → Nat → Int32) (J : Nat → Nat → Int64) {o : Nat} (ho : vW o) : xv_evm ro d 264 [.ref o] (z, xv_mk I J) = some (some (.int (I o 2)), (z, xv_mk I J)) := by
  rw [xe_Witness_honesty]
  simp only [xr_all, xf_all, if_true, if_false, true_or, or_true, eq_self, ite_not, Bool.false_eq_true, ite_self, and_self, true_and, and_true, false_and, and_false, not_true_eq_false, not_false_eq_true, xj_Witness_honesty, xb_Witness_honesty_0, vW_f ho]
theorem xq_Witness_layers (ro : xv_Ro) (d : Nat) (z : Nat × Nat) (I : Nat → Nat → Int32) (J : Nat → Nat → Int64) {o : Nat} (ho : vW o) : xv_evm ro d 265 [.ref o] (z, xv_mk I J) = some (some (.int (I o 1)), (z, xv_mk I J)) := by
  rw [xe_Witness_layers]
  simp only [xr_all, xf_all, if_true, if_false, true_or, or_true, eq_self, ite_not, Bool.false_eq_true, ite_self, and_self, true_and, and_true, false_and, and_false, not_true_eq_false, not_false_eq_true, xj_Witness_layers, xb_Witness_layers_0, vW_f ho]
theorem xq_told (ro : xv_Ro) (d : Nat) (z : Nat × Nat) (I : Nat → Nat → Int32) (J : Nat → Nat → Int64) {A w : Nat} (hA : vAr A) (hw : w < 10) (h : I (A + 3 + 2 * w) 3 = 1) : xv_evm ro (d + 1) 159 [.ref A, .int (nI w)] (z, xv_mk I J) = some (some (.ref (A + 3 + 2 * w)), (z, xv_mk I J)) := by
  rw [xe_Archive_told]
  have h1 : (nI w < 0) = False := vn_lt0 (by omega)
  have h2 : (10 ≤ nI w) = False := by rw [show (10 : Int32) = nI 10 from rfl, vn_le (by omega) (by omega)]; simp; omega
  have h3 : xv_inB (nI w) 10 = true := vn_inB hw (by omega)
  have hW := vAr_W hA hw
  simp only [xr_all, xf_all, if_true, if_false, true_or, or_true, eq_self, ite_not, Bool.false_eq_true, ite_self, and_self, true_and, and_true, false_and, and_false, not_true_eq_false, not_false_eq_true, xj_Archive_told, xb_Archive_told_0, xb_Archive_told_31, xb_Archive_told_32, h1, h2, h3, vAr_f hA, nI_clamp (show w < 2 ^ 31 by omega), vW_f hW, xq_Witness_isTold ro d z I J hW (Or.inr h), h]
theorem xq_told_no (ro : xv_Ro) (d : Nat) (z : Nat × Nat) (I : Nat → Nat → Int32) (J : Nat → Nat → Int64) {A : Nat} (hA : vAr A) (x : Int32) (h : ∀ w, w < 10 → x = nI w → I (A + 3 + 2 * w) 3 = 0) : xv_evm ro (d + 1) 159 [.ref A, .int x] (z, xv_mk I J) = some (some .null, (z, xv_mk I J)) := by
  rw [xe_Archive_told]
  rcases vn_cases x 10 (by omega) with q | q | ⟨w, hw, rfl⟩
  · simp only [xr_all, xf_all, if_true, if_false, true_or, or_true, eq_self, ite_not, Bool.false_eq_true, ite_self, and_self, true_and, and_true, false_and, and_false, not_true_eq_false, not_false_eq_true, xj_Archive_told, xb_Archive_told_0, xb_Archive_told_31, xb_Archive_told_32, q]
  · rw [show nI 10 = (10 : Int32) from rfl] at q
    simp only [xr_all, xf_all, if_true, if_false, true_or, or_true, eq_self, ite_not, Bool.false_eq_true, ite_self, and_self, true_and, and_true, false_and, and_false, not_true_eq_false, not_false_eq_true, xj_Archive_told, xb_Archive_told_0, xb_Archive_told_31, xb_Archive_told_32, q]
  · have h1 : (nI w < 0) = False := vn_lt0 (by omega)
    have h2 : (10 ≤ nI w) = False := by rw [show (10 : Int32) = nI 10 from rfl, vn_le (by omega) (by omega)]; simp; omega
    have h3 : xv_inB (nI w) 10 = true := vn_inB hw (by omega)
    have hW := vAr_W hA hw
    have h0 := h w hw rfl
    simp only [xr_all, xf_all, if_true, if_false, true_or, or_true, eq_self, ite_not, Bool.false_eq_true, ite_self, and_self, true_and, and_true, false_and, and_false, not_true_eq_false, not_false_eq_true, xj_Archive_told, xb_Archive_told_0, xb_Archive_told_31, xb_Archive_told_32, h1, h2, h3, vAr_f hA, nI_clamp (show w < 2 ^ 31 by omega), vW_f hW, xq_Witness_isTold ro d z I J hW (Or.inl h0), h0]
theorem xq_Witness_layer (ro : xv_Ro) (d : Nat) (z : Nat × Nat) (I : Nat → Nat → Int32) (J : Nat → Nat → Int64) {o n i : Nat} (ho : vW o) (hn : I o 1 = nI n) (hn2 : n ≤ 12) (hi : i < 2 ^ 31) : xv_evm ro d 266 [.ref o, .int (nI i)] (z, xv_mk I J) = some (some (.int (if i < n then I (o + 1) i else 0)), (z, xv_mk I J)) := by
  rw [xe_Witness_layer]
  have h1 : (nI i < 0) = False := vn_lt0 hi
  have h2 : (nI n ≤ nI i) = (n ≤ i) := vn_le (by omega) hi
  have h3 : (Int32.ofNat 12 ≤ nI i) = (12 ≤ i) := vn_le (a := 12) (by omega) hi
  by_cases hc : i < n
  · have c1 : (n ≤ i) = False := by simp; omega
    have c2 : (12 ≤ i) = False := by simp; omega
    have h4 : xv_inB (nI i) 12 = true := vn_inB (by omega) (by omega)
    simp only [xr_all, xf_all, if_true, if_false, true_or, or_true, eq_self, ite_not, Bool.false_eq_true, ite_self, and_self, true_and, and_true, false_and, and_false, not_true_eq_false, not_false_eq_true, xj_Witness_layer, xb_Witness_layer_0, xb_Witness_layer_30, xb_Witness_layer_31, vW_f ho, hn, h1, h2, h3, c1, c2, h4, hc, nI_clamp hi]
  · have c1 : (n ≤ i) = True := by simp; omega
    simp only [xr_all, xf_all, if_true, if_false, true_or, or_true, eq_self, ite_not, Bool.false_eq_true, ite_self, and_self, true_and, and_true, false_and, and_false, not_true_eq_false, not_false_eq_true, xj_Witness_layer, xb_Witness_layer_0, xb_Witness_layer_30, xb_Witness_layer_31, vW_f ho, hn, h1, h2, c1, hc]
theorem vw_first (ro : xv_Ro) (d : Nat) (z : Nat × Nat) (I : Nat → Nat → Int32) (J : Nat → Nat → Int64) {o n m : Nat} (ho : vW o) (hn : I o 1 = nI n) (hn2 : n ≤ 12) (hm : m ≤ 12) : ∀ (k i : Nat), i + k = m → xv_ev ro (d + 1) xm_Witness_first xb_Witness_first_4 [some (.ref o), some (.int (nI m)), some (.int (vs_sum (fun i => if i < n then I (o + 1) i else 0) i)), some (.int (nI i))] [] (z, xv_mk I J) = some (some (.int (vs_sum (fun i => if i < n then I (o + 1) i else 0) m)), (z, xv_mk I J)) := by
  intro k
  induction k with
  | zero =>
    intro i hi
    obtain rfl : i = m := by omega
    conv => lhs; unfold xb_Witness_first_4
    have h1 : (nI i ≤ nI i) = True := by rw [vn_le (by omega) (by omega)]; simp
    simp only [xr_all, xf_all, if_true, if_false, true_or, or_true, eq_self, ite_not, Bool.false_eq_true, ite_self, and_self, true_and, and_true, false_and, and_false, not_true_eq_false, not_false_eq_true, xj_Witness_first, xb_Witness_first_0, xb_Witness_first_29, h1]
  | succ k ih =>
    intro i hi
    rw [← ih (i + 1) (by omega)]
    conv => lhs; unfold xb_Witness_first_4
    have h1 : (nI m ≤ nI i) = False := by rw [vn_le (by omega) (by omega)]; simp; omega
    have h2 : (12 ≤ nI i) = False := by rw [show (12 : Int32) = nI 12 from rfl, vn_le (by omega) (by omega)]; simp; omega
    simp only [xr_all, xf_all, if_true, if_false, true_or, or_true, eq_self, ite_not, Bool.false_eq_true, ite_self, and_self, true_and, and_true, false_and, and_false, not_true_eq_false, not_false_eq_true, xj_Witness_first, xb_Witness_first_0, xb_Witness_first_29, h1, h2, vW_f ho, xq_Witness_layer ro d z I J ho hn hn2 (show i < 2 ^ 31 by omega), nI_1]
    rfl
theorem xq_Witness_first (ro : xv_Ro) (d : Nat) (z : Nat × Nat) (I : Nat → Nat → Int32) (J : Nat → Nat → Int64) {o n m : Nat} (ho : vW o) (hn : I o 1 = nI n) (hn2 : n ≤ 12) (hm : m ≤ 12) : xv_evm ro (d + 1) 267 [.ref o, .int (nI m)] (z, xv_mk I J) = some (some (.int (vs_sum (fun i => if i < n then I (o + 1) i else 0) m)), (z, xv_mk I J)) := by
  rw [xe_Witness_first]
  simp only [xr_all, xf_all, if_true, if_false, true_or, or_true, eq_self, ite_not, Bool.false_eq_true, ite_self, and_self, true_and, and_true, false_and, and_false, not_true_eq_false, not_false_eq_true, xj_Witness_first, xb_Witness_first_0, xb_Witness_first_29]
  exact vw_first ro d z I J ho hn hn2 hm m 0 (by omega)
theorem vm_peel (ro : xv_Ro) (d : Nat) (z : Nat × Nat) (I : Nat → Nat → Int32) (J : Nat → Nat → Int64) {w m : Nat} (hw : w < 10) (hm : m ≤ 12) : ∀ (k i : Nat), i + k = m → xv_ev ro (d + 1) xm_Mo_peeled xb_Mo_peeled_41 [some (.ref 167), some (.int (nI w)), some (.int (nI m)), some (.int (vs_sum (fun i => I 168 (12 * w + i)) i)), some (.int (nI i))] [] (z, xv_mk I J) = some (some (.int (vs_sum (fun i => I 168 (12 * w + i)) m)), (z, xv_mk I J)) := by
  intro k
  induction k with
  | zero =>
    intro i hi
    obtain rfl : i = m := by omega
    conv => lhs; unfold xb_Mo_peeled_41
    have h1 : (nI i ≤ nI i) = True := by rw [vn_le (by omega) (by omega)]; simp
    simp only [xr_all, xf_all, if_true, if_false, true_or, or_true, eq_self, ite_not, Bool.false_eq_true, ite_self, and_self, true_and, and_true, false_and, and_false, not_true_eq_false, not_false_eq_true, xj_Mo_peeled, xb_Mo_peeled_0, xb_Mo_peeled_18, xb_Mo_peeled_20, xb_Mo_peeled_36, xb_Mo_peeled_63, h1]
  | succ k ih =>
    intro i hi
    rw [← ih (i + 1) (by omega)]
    conv => lhs; unfold xb_Mo_peeled_41
    have h1 : (nI m ≤ nI i) = False := by rw [vn_le (by omega) (by omega)]; simp; omega
    simp only [xr_all, xf_all, if_true, if_false, true_or, or_true, eq_self, ite_not, Bool.false_eq_true, ite_self, and_self, true_and, and_true, false_and, and_false, not_true_eq_false, not_false_eq_true, xj_Mo_peeled, xb_Mo_peeled_0, xb_Mo_peeled_18, xb_Mo_peeled_20, xb_Mo_peeled_36, xb_Mo_peeled_63, h1, xq_Mo_layerOf ro d z I J (w := w) (i := i) (by omega), nI_1]
    rfl
theorem xp_26 (VL : xv_LP) (hV : vi_Lc VL) : xl_P26 (vi_all VL) := by
  intro x0 x1 ro I J hro hI
  obtain ⟨a1, a2, a3, ⟨-, -, ⟨mk, m1, m2, m3⟩, g4⟩, a5, a6, a7⟩ := id hI
  by_cases hw : ∃ w : Nat, w ≤ 9 ∧ x0 = nI w
  · obtain ⟨w, hw, rfl⟩ := hw
    obtain ⟨-, n, n1, n2, n3, n4⟩ := g4 w (by omega)
    have hmw := xq_Mo_isWitness ro 197 xv_SZ I J (m := mk) (w := w) m2 m1 (by omega)
    have h5 : 120 + nI w = nI (120 + w) := by rw [show (120 : Int32) = nI 120 from rfl, nI_add]
    have h6 : xv_inB (nI (120 + w)) 304 = true := vn_inB (by omega) (by omega)
    by_cases ht : mk.testBit w = true
    · have hI3 : I (25 + 3 + 2 * w) 3 = 1 := by rw [m3 w (by omega), if_pos ht]
      have htold := xq_told ro 197 xv_SZ I J (A := 25) (w := w) (Or.inl rfl) (by omega) hI3
      have hW := vAr_W (A := 25) (Or.inl rfl) (show w < 10 by omega)
      by_cases hm : ∃ m : Nat, m ≤ 11 ∧ x1 = nI (m + 1)
      · obtain ⟨m, hm, rfl⟩ := hm
        have c1 : (nI (m + 1) < 1) = False := by rw [show (1 : Int32) = nI 1 from rfl, vn_lt (by omega) (by omega)]; simp
        have c2 : (nI (m + 1) ≤ 12) = True := by rw [show (12 : Int32) = nI 12 from rfl, vn_le (by omega) (by omega)]; simp; omega
        have c3 : (1 ≤ nI (m + 1) ∧ nI (m + 1) ≤ 12) = True := by rw [c2]; simp; rw [show (1 : Int32) = nI 1 from rfl, nI_leI (by omega) (by omega)]; omega
        have c4 : (nI (m + 1) ≤ nI n) = (m + 1 ≤ n) := vn_le (by omega) (by omega)
        by_cases hmn : m + 1 ≤ n
        · refine ⟨vs_sum (fun i => I 168 (12 * w + i)) (m + 1), I, J, I, J, ?_, ?_, hI⟩
          · rw [xe_Ct_peeled]
            have hf := xq_Witness_first ro 197 xv_SZ I J hW n2 n1 (show m + 1 ≤ 12 by omega)
            rw [vs_sum_c (g := fun i => I 168 (12 * w + i)) (fun i hi => by rw [if_pos (by omega)]; obtain ⟨s, _, _, s3, s4⟩ := n4 i (by omega); rw [s4, show 25 + 3 + 2 * w + 1 = 25 + 4 + 2 * w by omega]; exact s3)] at hf
            have c5 : (m + 1 ≤ n) = True := eq_true hmn
            simp only [xr_all, xf_all, if_true, if_false, true_or, or_true, eq_self, ite_not, Bool.false_eq_true, ite_self, and_self, true_and, and_true, false_and, and_false, not_true_eq_false, not_false_eq_true, xj_Ct_peeled, xb_Ct_peeled_0, xb_Ct_peeled_24, xb_Ct_peeled_26, xb_Ct_peeled_39, xb_Ct_peeled_44, htold, c1, c2, vW_f hW, xq_Witness_layers ro 198 xv_SZ I J hW, n2, c4, c5, hf]
          · rw [xe_Mo_peeled]
            have c5 : (m + 1 ≤ n) = True := eq_true hmn
            simp only [xr_all, xf_all, if_true, if_false, true_or, or_true, eq_self, ite_not, Bool.false_eq_true, ite_self, and_self, true_and, and_true, false_and, and_false, not_true_eq_false, not_false_eq_true, xj_Mo_peeled, xb_Mo_peeled_0, xb_Mo_peeled_18, xb_Mo_peeled_20, xb_Mo_peeled_36, xb_Mo_peeled_63, hmw, ht, xq_Mo_in, c3, h5, h6, n3, c4, c5, nI_clamp (show 120 + w < 2 ^ 31 by omega)]
            exact vm_peel ro 198 xv_SZ I J (w := w) (by omega) (show m + 1 ≤ 12 by omega) (m + 1) 0 (by omega)
        · refine ⟨-2, I, J, I, J, ?_, ?_, hI⟩
          · rw [xe_Ct_peeled]
            simp only [xr_all, xf_all, if_true, if_false, true_or, or_true, eq_self, ite_not, Bool.false_eq_true, ite_self, and_self, true_and, and_true, false_and, and_false, not_true_eq_false, not_false_eq_true, xj_Ct_peeled, xb_Ct_peeled_0, xb_Ct_peeled_24, xb_Ct_peeled_26, xb_Ct_peeled_39, xb_Ct_peeled_44, htold, c1, c2, vW_f hW, xq_Witness_layers ro 198 xv_SZ I J hW, n2, c4, hmn]
          · rw [xe_Mo_peeled]
            simp only [xr_all, xf_all, if_true, if_false, true_or, or_true, eq_self, ite_not, Bool.false_eq_true, ite_self, and_self, true_and, and_true, false_and, and_false, not_true_eq_false, not_false_eq_true, xj_Mo_peeled, xb_Mo_peeled_0, xb_Mo_peeled_18, xb_Mo_peeled_20, xb_Mo_peeled_36, xb_Mo_peeled_63, hmw, ht, xq_Mo_in, c3, h5, h6, n3, c4, hmn, nI_clamp (show 120 + w < 2 ^ 31 by omega)]
      · have c3 : (1 ≤ x1 ∧ x1 ≤ 12) = False := by
          apply eq_false
          rintro ⟨q1, q2⟩
          obtain ⟨j, hj, rfl⟩ := (vn_in (N := 12) (by omega)).mp ⟨by (simp only [Int32.lt_iff_toInt_lt, Int32.le_iff_toInt_le, ← Int32.toInt_inj, vt_all] at *; omega), q2⟩
          rw [show (1 : Int32) = nI 1 from rfl, nI_leI (by omega) (by omega)] at q1
          exact hm ⟨j - 1, by omega, by rw [show j - 1 + 1 = j by omega]⟩
        refine ⟨-1, I, J, I, J, ?_, ?_, hI⟩
        · rw [xe_Ct_peeled]
          by_cases c1 : x1 < 1
          · simp only [xr_all, xf_all, if_true, if_false, true_or, or_true, eq_self, ite_not, Bool.false_eq_true, ite_self, and_self, true_and, and_true, false_and, and_false, not_true_eq_false, not_false_eq_true, xj_Ct_peeled, xb_Ct_peeled_0, xb_Ct_peeled_24, xb_Ct_peeled_26, xb_Ct_peeled_39, xb_Ct_peeled_44, htold, c1]
          · have c2 : (x1 ≤ 12) = False := by
              apply eq_false; intro q
              have : 1 ≤ x1 := Int32.not_lt.mp c1
              rw [eq_true this, eq_true q] at c3
              simp at c3
            simp only [xr_all, xf_all, if_true, if_false, true_or, or_true, eq_self, ite_not, Bool.false_eq_true, ite_self, and_self, true_and, and_true, false_and, and_false, not_true_eq_false, not_false_eq_true, xj_Ct_peeled, xb_Ct_peeled_0, xb_Ct_peeled_24, xb_Ct_peeled_26, xb_Ct_peeled_39, xb_Ct_peeled_44, htold, c1, c2]
        · rw [xe_Mo_peeled]
          simp only [xr_all, xf_all, if_true, if_false, true_or, or_true, eq_self, ite_not, Bool.false_eq_true, ite_self, and_self, true_and, and_true, false_and, and_false, not_true_eq_false, not_false_eq_true, xj_Mo_peeled, xb_Mo_peeled_0, xb_Mo_peeled_18, xb_Mo_peeled_20, xb_Mo_peeled_36, xb_Mo_peeled_63, hmw, ht, xq_Mo_in, c3]
    · refine ⟨-1, I, J, I, J, ?_, ?_, hI⟩
      · rw [xe_Ct_peeled]
        have htold := xq_told_no ro 197 xv_SZ I J (A := 25) (Or.inl rfl) (nI w) (fun v hv q => by
          have : v = w := ((nI_eq (by omega) (by omega)).mp q).symm
          rw [this, m3 w (by omega), if_neg ht])
        simp only [xr_all, xf_all, if_true, if_false, true_or, or_true, eq_self, ite_not, Bool.false_eq_true, ite_self, and_self, true_and, and_true, false_and, and_false, not_true_eq_false, not_false_eq_true, xj_Ct_peeled, xb_Ct_peeled_0, xb_Ct_peeled_24, xb_Ct_peeled_26, xb_Ct_peeled_39, xb_Ct_peeled_44, htold]
      · rw [xe_Mo_peeled]
        simp only [xr_all, xf_all, if_true, if_false, true_or, or_true, eq_self, ite_not, Bool.false_eq_true, ite_self, and_self, true_and, and_true, false_and, and_false, not_true_eq_false, not_false_eq_true, xj_Mo_peeled, xb_Mo_peeled_0, xb_Mo_peeled_18, xb_Mo_peeled_20, xb_Mo_peeled_36, xb_Mo_peeled_63, hmw, ht]
  · refine ⟨-1, I, J, I, J, ?_, ?_, hI⟩
    · rw [xe_Ct_peeled]
      have htold := xq_told_no ro 197 xv_SZ I J (A := 25) (Or.inl rfl) x0 (fun v hv q => absurd ⟨v, by omega, q⟩ hw)
      simp only [xr_all, xf_all, if_true, if_false, true_or, or_true, eq_self, ite_not, Bool.false_eq_true, ite_self, and_self, true_and, and_true, false_and, and_false, not_true_eq_false, not_false_eq_true, xj_Ct_peeled, xb_Ct_peeled_0, xb_Ct_peeled_24, xb_Ct_peeled_26, xb_Ct_peeled_39, xb_Ct_peeled_44, htold]
    · rw [xe_Mo_peeled]
      simp only [xr_all, xf_all, if_true, if_false, true_or, or_true, eq_self, ite_not, Bool.false_eq_true, ite_self, and_self, true_and, and_true, false_and, and_false, not_true_eq_false, not_false_eq_true, xj_Mo_peeled, xb_Mo_peeled_0, xb_Mo_peeled_18, xb_Mo_peeled_20, xb_Mo_peeled_36, xb_Mo_peeled_63, xq_Mo_isWitness_no ro 197 (xv_SZ, xv_mk I J) hw]
