/-! PAIR: check -/
/-- the first place from i on, among k, where f and g differ; -1 where there is none -/
def vk_s (f g : Nat → Int32) : Nat → Nat → Int32
  | 0, _ => -1
  | k + 1, i => if f i = g i then vk_s f g k (i + 1) else nI i
theorem vk_c {f g f' g' : Nat → Int32} : ∀ (k i : Nat), (∀ j, i ≤ j → j < i + k → f j = f' j ∧ g j = g' j) → vk_s f g k i = vk_s f' g' k i := by
  intro k
  induction k with
  | zero => intro i _; rfl
  | succ k ih =>
    intro i h
    show (if f i = g i then vk_s f g k (i + 1) else nI i) = (if f' i = g' i then vk_s f' g' k (i + 1) else nI i)
    obtain ⟨u, v⟩ := h i (by omega) (by omega)
    rw [u, v, ih (i + 1) (fun j a b => h j (by omega) (by omega))]
theorem xq_Tape_byteAt (ro : xv_Ro) (d : Nat) (z : Nat × Nat) (I : Nat → Nat → Int32) (J : Nat → Nat → Int64) {n i : Nat} (hn : I 1 2 = nI n) (hn2 : n ≤ 260) (hi : i < n) : xv_evm ro d 249 [.ref 1, .int (nI i)] (z, xv_mk I J) = some (some (.int (I 2 i)), (z, xv_mk I J)) := by
  rw [xe_Tape_byteAt]
  have h1 : (nI i < 0) = False := vn_lt0 (by omega)
  have h2 : (nI n ≤ nI i) = False := by rw [vn_le (by omega) (by omega)]; simp; omega
  have h3 : (nI 260 ≤ nI i) = False := by rw [vn_le (by omega) (by omega)]; simp; omega
  have h5 : (260 ≤ nI i) = False := h3
  have h6 : (Int32.ofNat 260 ≤ nI i) = False := h3
  have h4 : xv_inB (nI i) 260 = true := vn_inB (by omega) (by omega)
  simp only [xr_all, xf_all, if_true, if_false, true_or, or_true, eq_self, ite_not, Bool.false_eq_true, ite_self, and_self, true_and, and_true, false_and, and_false, not_true_eq_false, not_false_eq_true, xj_Tape_byteAt, xb_Tape_byteAt_0, xb_Tape_byteAt_30, xb_Tape_byteAt_31, h1, hn, h2, h3, h5, h6, h4, nI_clamp (show i < 2 ^ 31 by omega)]
theorem xq_Tape_cut12 (ro : xv_Ro) (d : Nat) (z : Nat × Nat) (I : Nat → Nat → Int32) (J : Nat → Nat → Int64) {n t : Nat} (ht : I 1 1 = nI t) (ht2 : t ≤ 260) (hn : n ≤ 12) (hnt : n ≤ t) : xv_evm ro d 248 [.ref 1, .int (nI n), .int 0, .int 12] (z, xv_mk I J) = some (some (.int 1), (z, xv_mk (xv_u2 (xv_u2 (xv_u2 (xv_u2 I 1 1 0) 1 2 (nI n)) 1 3 0) 1 4 0) J)) := by
  rw [xe_Tape_cut]
  have h1 : (nI n < 0) = False := vn_lt0 (by omega)
  have h2 : (nI n ≤ 12) = True := by rw [show (12 : Int32) = nI 12 from rfl, vn_le (by omega) (by omega)]; simp; omega
  have h3 : (12 < nI n) = False := by rw [show (12 : Int32) = nI 12 from rfl, vn_lt (by omega) (by omega)]; simp; omega
  have h4 : (nI n ≤ nI t) = True := by rw [vn_le (by omega) (by omega)]; simp; omega
  simp only [xr_all, xf_all, if_true, if_false, true_or, or_true, eq_self, ite_not, Bool.false_eq_true, ite_self, and_self, true_and, and_true, false_and, and_false, not_true_eq_false, not_false_eq_true, xj_Tape_cut, xb_Tape_cut_0, xb_Tape_cut_18, xb_Tape_cut_20, h1, h2, h3, ht, h4]
theorem vl_chkC (ro : xv_Ro) (z : Nat × Nat) (I : Nat → Nat → Int32) (J : Nat → Nat → Int64) {o l n : Nat} (x0 : Int32) (ho : vW o) (hl : I o 1 = nI l) (hl2 : l ≤ 12) (hn : I 1 2 = nI n) (hn2 : n ≤ 12) : ∀ (k i : Nat), i + k = n → xv_ev ro 199 xm_Ct_check xb_Ct_check_33 [some (.ref 0), some (.int x0), some (.int (nI n)), some (.ref o), some (.int (nI i))] [] (z, xv_mk I J) = some (some (.int (vk_s (I 2) (fun i => if i < l then I (o + 1) i else 0) k i)), (z, xv_mk I J)) := by
  intro k
  induction k with
  | zero =>
    intro i hi
    obtain rfl : i = n := by omega
    conv => lhs; unfold xb_Ct_check_33
    have h1 : (nI i ≤ nI i) = True := by rw [vn_le (by omega) (by omega)]; simp
    simp only [xr_all, xf_all, if_true, if_false, true_or, or_true, eq_self, ite_not, Bool.false_eq_true, ite_self, and_self, true_and, and_true, false_and, and_false, not_true_eq_false, not_false_eq_true, xj_Ct_check, xb_Ct_check_0, xb_Ct_check_27, xb_Ct_check_30, xb_Ct_check_60, xb_Ct_check_66, h1]
    rfl
  | succ k ih =>
    intro i hi
    have hs : vk_s (I 2) (fun i => if i < l then I (o + 1) i else 0) (k + 1) i = if I 2 i = (if i < l then I (o + 1) i else 0) then vk_s (I 2) (fun i => if i < l then I (o + 1) i else 0) k (i + 1) else nI i := rfl
    have h1 : (nI n ≤ nI i) = False := by rw [vn_le (by omega) (by omega)]; simp; omega
    have hb := xq_Tape_byteAt ro 198 z I J hn (by omega) (show i < n by omega)
    have hL := xq_Witness_layer ro 198 z I J ho hl hl2 (show i < 2 ^ 31 by omega)
    rw [hs]
    by_cases c : I 2 i = (if i < l then I (o + 1) i else 0)
    · rw [if_pos c, ← ih (i + 1) (by omega)]
      conv => lhs; unfold xb_Ct_check_33
      rw [← c] at hL
      simp only [xr_all, xf_all, if_true, if_false, true_or, or_true, eq_self, ite_not, Bool.false_eq_true, ite_self, and_self, true_and, and_true, false_and, and_false, not_true_eq_false, not_false_eq_true, xj_Ct_check, xb_Ct_check_0, xb_Ct_check_27, xb_Ct_check_30, xb_Ct_check_60, xb_Ct_check_66, h1, hb, hL, vW_f ho, nI_1]
    · rw [if_neg c]
      conv => lhs; unfold xb_Ct_check_33
      generalize (if i < l then I (o + 1) i else 0) = y at hL c
      simp only [xr_all, xf_all, if_true, if_false, true_or, or_true, eq_self, ite_not, Bool.false_eq_true, ite_self, and_self, true_and, and_true, false_and, and_false, not_true_eq_false, not_false_eq_true, xj_Ct_check, xb_Ct_check_0, xb_Ct_check_27, xb_Ct_check_30, xb_Ct_check_60, xb_Ct_check_66, h1, hb, hL, vW_f ho, c]
theorem vl_chkM (ro : xv_Ro) (z : Nat × Nat) (I : Nat → Nat → Int32) (J : Nat → Nat → Int64) {w l n : Nat} (hw : w < 10) (hl : I 168 (120 + w) = nI l) (hl2 : l ≤ 12) (hn2 : n ≤ 12) : ∀ (k i : Nat), i + k = n → xv_ev ro 199 xm_Mo_check xb_Mo_check_36 [some (.ref 167), some (.int (nI w)), some (.int (nI n)), some (.int (nI i))] [] (z, xv_mk I J) = some (some (.int (vk_s (fun i => I 173 i &&& 255) (fun i => if i < l then I 168 (12 * w + i) else 0) k i)), (z, xv_mk I J)) := by
  intro k
  have g1 : 120 + nI w = nI (120 + w) := by rw [show (120 : Int32) = nI 120 from rfl, nI_add]
  have g2 : xv_inB (nI (120 + w)) 304 = true := vn_inB (by omega) (by omega)
  have g3 := nI_clamp (show 120 + w < 2 ^ 31 by omega)
  induction k with
  | zero =>
    intro i hi
    obtain rfl : i = n := by omega
    conv => lhs; unfold xb_Mo_check_36
    have h1 : (nI i ≤ nI i) = True := by rw [vn_le (by omega) (by omega)]; simp
    simp only [xr_all, xf_all, if_true, if_false, true_or, or_true, eq_self, ite_not, Bool.false_eq_true, ite_self, and_self, true_and, and_true, false_and, and_false, not_true_eq_false, not_false_eq_true, xj_Mo_check, xb_Mo_check_0, xb_Mo_check_26, xb_Mo_check_29, xb_Mo_check_73, xb_Mo_check_74, xb_Mo_check_79, xb_Mo_check_85, h1]
    rfl
  | succ k ih =>
    intro i hi
    have hs : vk_s (fun i => I 173 i &&& 255) (fun i => if i < l then I 168 (12 * w + i) else 0) (k + 1) i = if I 173 i &&& 255 = (if i < l then I 168 (12 * w + i) else 0) then vk_s (fun i => I 173 i &&& 255) (fun i => if i < l then I 168 (12 * w + i) else 0) k (i + 1) else nI i := rfl
    have h1 : (nI n ≤ nI i) = False := by rw [vn_le (by omega) (by omega)]; simp; omega
    have h4 : xv_inB (nI i) 260 = true := vn_inB (by omega) (by omega)
    have hcl := nI_clamp (show i < 2 ^ 31 by omega)
    have hL := xq_Mo_layerOf ro 198 z I J (show 12 * w + i < 304 by omega)
    rw [hs]
    by_cases cl : i < l
    · have h5 : (nI l ≤ nI i) = False := by rw [vn_le (by omega) (by omega)]; simp; omega
      rw [if_pos cl]
      by_cases c : I 173 i &&& 255 = I 168 (12 * w + i)
      · rw [if_pos c, ← ih (i + 1) (by omega)]
        conv => lhs; unfold xb_Mo_check_36
        simp only [xr_all, xf_all, if_true, if_false, true_or, or_true, eq_self, ite_not, Bool.false_eq_true, ite_self, and_self, true_and, and_true, false_and, and_false, not_true_eq_false, not_false_eq_true, xj_Mo_check, xb_Mo_check_0, xb_Mo_check_26, xb_Mo_check_29, xb_Mo_check_73, xb_Mo_check_74, xb_Mo_check_79, xb_Mo_check_85, h1, h4, hcl, g1, g2, g3, hl, h5, hL, c, nI_1]
      · rw [if_neg c]
        conv => lhs; unfold xb_Mo_check_36
        simp only [xr_all, xf_all, if_true, if_false, true_or, or_true, eq_self, ite_not, Bool.false_eq_true, ite_self, and_self, true_and, and_true, false_and, and_false, not_true_eq_false, not_false_eq_true, xj_Mo_check, xb_Mo_check_0, xb_Mo_check_26, xb_Mo_check_29, xb_Mo_check_73, xb_Mo_check_74, xb_Mo_check_79, xb_Mo_check_85, h1, h4, hcl, g1, g2, g3, hl, h5, hL, c]
    · have h5 : (nI l ≤ nI i) = True := by rw [vn_le (by omega) (by omega)]; simp; omega
      rw [if_neg cl]
      by_cases c : I 173 i &&& 255 = 0
      · rw [if_pos c, ← ih (i + 1) (by omega)]
        conv => lhs; unfold xb_Mo_check_36
        simp only [xr_all, xf_all, if_true, if_false, true_or, or_true, eq_self, ite_not, Bool.false_eq_true, ite_self, and_self, true_and, and_true, false_and, and_false, not_true_eq_false, not_false_eq_true, xj_Mo_check, xb_Mo_check_0, xb_Mo_check_26, xb_Mo_check_29, xb_Mo_check_73, xb_Mo_check_74, xb_Mo_check_79, xb_Mo_check_85, h1, h4, hcl, g1, g2, g3, hl, h5, c, nI_1]
      · rw [if_neg c]
        conv => lhs; unfold xb_Mo_check_36
        simp only [xr_all, xf_all, if_true, if_false, true_or, or_true, eq_self, ite_not, Bool.false_eq_true, ite_self, and_self, true_and, and_true, false_and, and_false, not_true_eq_false, not_false_eq_true, xj_Mo_check, xb_Mo_check_0, xb_Mo_check_26, xb_Mo_check_29, xb_Mo_check_73, xb_Mo_check_74, xb_Mo_check_79, xb_Mo_check_85, h1, h4, hcl, g1, g2, g3, hl, h5, c]
