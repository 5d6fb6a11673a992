/-! PAIR: witnessIs -/
theorem vl_said1 (ro : xv_Ro) (d : Nat) (z : Nat × Nat) (I : Nat → Nat → Int32) (J : Nat → Nat → Int64) {A n : Nat} (hA : vAr A) (hn : I A 2 = nI n) (hn2 : n ≤ 20) (hB : vi_B I) (x : Int32) : ∀ (k i : Nat), i + k = n → xv_ev ro (d + 1) xm_Archive_saidBy xb_Archive_saidBy_5 [some (.ref A), some (.int x), some (.int 1), some (.int (vs_sum (fun i => if I (A + 23 + i) 0 = x then I (A + 23 + i) 3 else 0) i)), some (.int (nI i))] [] (z, xv_mk I J) = some (some (.int (vs_sum (fun i => if I (A + 23 + i) 0 = x then I (A + 23 + i) 3 else 0) n)), (z, xv_mk I J)) := by
  intro k
  induction k with
  | zero =>
    intro i hi
    obtain rfl : i = n := by omega
    conv => lhs; unfold xb_Archive_saidBy_5
    have h1 : (nI i ≤ nI i) = True := by rw [vn_le (by omega) (by omega)]; simp
    simp only [xr_all, xf_all, if_true, if_false, true_or, or_true, eq_self, ite_not, Bool.false_eq_true, ite_self, and_self, true_and, and_true, false_and, and_false, not_true_eq_false, not_false_eq_true, xj_Archive_saidBy, xb_Archive_saidBy_0, xb_Archive_saidBy_52, xb_Archive_saidBy_55, xb_Archive_saidBy_61, vAr_f hA, hn, h1]
  | succ k ih =>
    intro i hi
    rw [← ih (i + 1) (by omega)]
    conv => lhs; unfold xb_Archive_saidBy_5
    have h1 : (nI n ≤ nI i) = False := by rw [vn_le (by omega) (by omega)]; simp; omega
    have h2 : (20 ≤ nI i) = False := by rw [show (20 : Int32) = nI 20 from rfl, vn_le (by omega) (by omega)]; simp; omega
    have h4 : xv_inB (nI i) 20 = true := vn_inB (by omega) (by omega)
    have m1 : A + 23 + 1 * i = A + 23 + i := by omega
    have hN := vAr_N hA (show i < 20 by omega)
    have hb := ((hB (A + 23 + i)).2 (vN_f hN).2.2.2.2.2.2.2.2).2
    have hs : vs_sum (fun i => if I (A + 23 + i) 0 = x then I (A + 23 + i) 3 else 0) (i + 1) = vs_sum (fun i => if I (A + 23 + i) 0 = x then I (A + 23 + i) 3 else 0) i + (if I (A + 23 + i) 0 = x then I (A + 23 + i) 3 else 0) := rfl
    rw [hs]
    by_cases c1 : I (A + 23 + i) 0 = x
    · rw [if_pos c1]
      rcases id hb with c2 | c2
      · simp only [xr_all, xf_all, if_true, if_false, true_or, or_true, eq_self, ite_not, Bool.false_eq_true, ite_self, and_self, true_and, and_true, false_and, and_false, not_true_eq_false, not_false_eq_true, xj_Archive_saidBy, xb_Archive_saidBy_0, xb_Archive_saidBy_52, xb_Archive_saidBy_55, xb_Archive_saidBy_61, vAr_f hA, hn, h1, h2, h4, nI_clamp (show i < 2 ^ 31 by omega), m1, vN_f hN, xq_Answer_who ro d z I J hN, xq_Answer_hasCried ro d z I J hN hb, c1, c2, nI_1, Int32.add_zero]
      · simp only [xr_all, xf_all, if_true, if_false, true_or, or_true, eq_self, ite_not, Bool.false_eq_true, ite_self, and_self, true_and, and_true, false_and, and_false, not_true_eq_false, not_false_eq_true, xj_Archive_saidBy, xb_Archive_saidBy_0, xb_Archive_saidBy_52, xb_Archive_saidBy_55, xb_Archive_saidBy_61, vAr_f hA, hn, h1, h2, h4, nI_clamp (show i < 2 ^ 31 by omega), m1, vN_f hN, xq_Answer_who ro d z I J hN, xq_Answer_hasCried ro d z I J hN hb, c1, c2, nI_1]
    · rw [if_neg c1]
      simp only [xr_all, xf_all, if_true, if_false, true_or, or_true, eq_self, ite_not, Bool.false_eq_true, ite_self, and_self, true_and, and_true, false_and, and_false, not_true_eq_false, not_false_eq_true, xj_Archive_saidBy, xb_Archive_saidBy_0, xb_Archive_saidBy_52, xb_Archive_saidBy_55, xb_Archive_saidBy_61, vAr_f hA, hn, h1, h2, h4, nI_clamp (show i < 2 ^ 31 by omega), m1, vN_f hN, xq_Answer_who ro d z I J hN, c1, nI_1, Int32.add_zero]
theorem vl_said0 (ro : xv_Ro) (d : Nat) (z : Nat × Nat) (I : Nat → Nat → Int32) (J : Nat → Nat → Int64) {A n : Nat} (hA : vAr A) (hn : I A 2 = nI n) (hn2 : n ≤ 20) (hB : vi_B I) (x : Int32) : ∀ (k i : Nat), i + k = n → xv_ev ro (d + 1) xm_Archive_saidBy xb_Archive_saidBy_5 [some (.ref A), some (.int x), some (.int 0), some (.int (vs_sum (fun i => if I (A + 23 + i) 0 = x then 1 else 0) i)), some (.int (nI i))] [] (z, xv_mk I J) = some (some (.int (vs_sum (fun i => if I (A + 23 + i) 0 = x then 1 else 0) n)), (z, xv_mk I J)) := by
  intro k
  induction k with
  | zero =>
    intro i hi
    obtain rfl : i = n := by omega
    conv => lhs; unfold xb_Archive_saidBy_5
    have h1 : (nI i ≤ nI i) = True := by rw [vn_le (by omega) (by omega)]; simp
    simp only [xr_all, xf_all, if_true, if_false, true_or, or_true, eq_self, ite_not, Bool.false_eq_true, ite_self, and_self, true_and, and_true, false_and, and_false, not_true_eq_false, not_false_eq_true, xj_Archive_saidBy, xb_Archive_saidBy_0, xb_Archive_saidBy_52, xb_Archive_saidBy_55, xb_Archive_saidBy_61, vAr_f hA, hn, h1]
  | succ k ih =>
    intro i hi
    rw [← ih (i + 1) (by omega)]
    conv => lhs; unfold xb_Archive_saidBy_5
    have h1 : (nI n ≤ nI i) = False := by rw [vn_le (by omega) (by omega)]; simp; omega
    have h2 : (20 ≤ nI i) = False := by rw [show (20 : Int32) = nI 20 from rfl, vn_le (by omega) (by omega)]; simp; omega
    have h4 : xv_inB (nI i) 20 = true := vn_inB (by omega) (by omega)
    have m1 : A + 23 + 1 * i = A + 23 + i := by omega
    have hN := vAr_N hA (show i < 20 by omega)
    have hb := ((hB (A + 23 + i)).2 (vN_f hN).2.2.2.2.2.2.2.2).2
    have hs : vs_sum (fun i => if I (A + 23 + i) 0 = x then 1 else 0) (i + 1) = vs_sum (fun i => if I (A + 23 + i) 0 = x then 1 else 0) i + (if I (A + 23 + i) 0 = x then 1 else 0) := rfl
    rw [hs]
    by_cases c1 : I (A + 23 + i) 0 = x
    · rw [if_pos c1]
      rcases id hb with c2 | c2
      · simp only [xr_all, xf_all, if_true, if_false, true_or, or_true, eq_self, ite_not, Bool.false_eq_true, ite_self, and_self, true_and, and_true, false_and, and_false, not_true_eq_false, not_false_eq_true, xj_Archive_saidBy, xb_Archive_saidBy_0, xb_Archive_saidBy_52, xb_Archive_saidBy_55, xb_Archive_saidBy_61, vAr_f hA, hn, h1, h2, h4, nI_clamp (show i < 2 ^ 31 by omega), m1, vN_f hN, xq_Answer_who ro d z I J hN, xq_Answer_hasCried ro d z I J hN hb, c1, c2, nI_1]
      · simp only [xr_all, xf_all, if_true, if_false, true_or, or_true, eq_self, ite_not, Bool.false_eq_true, ite_self, and_self, true_and, and_true, false_and, and_false, not_true_eq_false, not_false_eq_true, xj_Archive_saidBy, xb_Archive_saidBy_0, xb_Archive_saidBy_52, xb_Archive_saidBy_55, xb_Archive_saidBy_61, vAr_f hA, hn, h1, h2, h4, nI_clamp (show i < 2 ^ 31 by omega), m1, vN_f hN, xq_Answer_who ro d z I J hN, xq_Answer_hasCried ro d z I J hN hb, c1, c2, nI_1]
    · rw [if_neg c1]
      simp only [xr_all, xf_all, if_true, if_false, true_or, or_true, eq_self, ite_not, Bool.false_eq_true, ite_self, and_self, true_and, and_true, false_and, and_false, not_true_eq_false, not_false_eq_true, xj_Archive_saidBy, xb_Archive_saidBy_0, xb_Archive_saidBy_52, xb_Archive_saidBy_55, xb_Archive_saidBy_61, vAr_f hA, hn, h1, h2, h4, nI_clamp (show i < 2 ^ 31 by omega), m1, vN_f hN, xq_Answer_who ro d z I J hN, c1, nI_1, Int32.add_zero]
theorem vl_aof (ro : xv_Ro) (d : Nat) (z : Nat × Nat) (I : Nat → Nat → Int32) (J : Nat → Nat → Int64) {n : Nat} (hn : I 168 301 = nI n) (hn2 : n ≤ 20) (x : Int32) : ∀ (k i : Nat), i + k = n → xv_ev ro d xm_Mo_answersOf xb_Mo_answersOf_4 [some (.ref 167), some (.int x), some (.int (vs_sum (fun i => if I 168 (140 + i) = x then 1 else 0) i)), some (.int (nI i))] [] (z, xv_mk I J) = some (some (.int (vs_sum (fun i => if I 168 (140 + i) = x then 1 else 0) n)), (z, xv_mk I J)) := by
  intro k
  have g4 : xv_inB 301 304 = true := by decide
  have g5 : (301 : Int32).toNatClampNeg = 301 := by decide
  induction k with
  | zero =>
    intro i hi
    obtain rfl : i = n := by omega
    conv => lhs; unfold xb_Mo_answersOf_4
    have h1 : (nI i ≤ nI i) = True := by rw [vn_le (by omega) (by omega)]; simp
    simp only [xr_all, xf_all, if_true, if_false, true_or, or_true, eq_self, ite_not, Bool.false_eq_true, ite_self, and_self, true_and, and_true, false_and, and_false, not_true_eq_false, not_false_eq_true, xj_Mo_answersOf, xb_Mo_answersOf_0, xb_Mo_answersOf_35, xb_Mo_answersOf_36, xb_Mo_answersOf_44, g4, g5, hn, h1]
  | succ k ih =>
    intro i hi
    rw [← ih (i + 1) (by omega)]
    conv => lhs; unfold xb_Mo_answersOf_4
    have h1 : (nI n ≤ nI i) = False := by rw [vn_le (by omega) (by omega)]; simp; omega
    have e1 : 140 + nI i = nI (140 + i) := by rw [show (140 : Int32) = nI 140 from rfl, nI_add]
    have h2 : xv_inB (nI (140 + i)) 304 = true := vn_inB (by omega) (by omega)
    have hs : vs_sum (fun i => if I 168 (140 + i) = x then 1 else 0) (i + 1) = vs_sum (fun i => if I 168 (140 + i) = x then 1 else 0) i + (if I 168 (140 + i) = x then 1 else 0) := rfl
    rw [hs]
    by_cases c1 : I 168 (140 + i) = x
    · rw [if_pos c1]
      simp only [xr_all, xf_all, if_true, if_false, true_or, or_true, eq_self, ite_not, Bool.false_eq_true, ite_self, and_self, true_and, and_true, false_and, and_false, not_true_eq_false, not_false_eq_true, xj_Mo_answersOf, xb_Mo_answersOf_0, xb_Mo_answersOf_35, xb_Mo_answersOf_36, xb_Mo_answersOf_44, g4, g5, hn, h1, e1, h2, nI_clamp (show 140 + i < 2 ^ 31 by omega), c1, nI_1]
    · rw [if_neg c1]
      simp only [xr_all, xf_all, if_true, if_false, true_or, or_true, eq_self, ite_not, Bool.false_eq_true, ite_self, and_self, true_and, and_true, false_and, and_false, not_true_eq_false, not_false_eq_true, xj_Mo_answersOf, xb_Mo_answersOf_0, xb_Mo_answersOf_35, xb_Mo_answersOf_36, xb_Mo_answersOf_44, g4, g5, hn, h1, e1, h2, nI_clamp (show 140 + i < 2 ^ 31 by omega), c1, nI_1]
theorem vl_tog (ro : xv_Ro) (d : Nat) (z : Nat × Nat) (I : Nat → Nat → Int32) (J : Nat → Nat → Int64) {w n : Nat} (hw : w < 10) (hn : I 168 (120 + w) = nI n) (hn2 : n ≤ 12) : ∀ (k i : Nat), i + k = n → xv_ev ro (d + 1) xm_Mo_together xb_Mo_together_4 [some (.ref 167), some (.int (nI w)), some (.int (vs_sum (fun i => I 168 (12 * w + i)) i)), some (.int (nI i))] [] (z, xv_mk I J) = some (some (.int (vs_sum (fun i => I 168 (12 * w + i)) n)), (z, xv_mk I J)) := by
  intro k
  have g1 : 120 + nI w = nI (120 + w) := by rw [show (120 : Int32) = nI 120 from rfl, nI_add]
  have g2 : xv_inB (nI (120 + w)) 304 = true := vn_inB (by omega) (by omega)
  have g3 := nI_clamp (show 120 + w < 2 ^ 31 by omega)
  induction k with
  | zero =>
    intro i hi
    obtain rfl : i = n := by omega
    conv => lhs; unfold xb_Mo_together_4
    have h1 : (nI i ≤ nI i) = True := by rw [vn_le (by omega) (by omega)]; simp
    simp only [xr_all, xf_all, if_true, if_false, true_or, or_true, eq_self, ite_not, Bool.false_eq_true, ite_self, and_self, true_and, and_true, false_and, and_false, not_true_eq_false, not_false_eq_true, xj_Mo_together, xb_Mo_together_0, xb_Mo_together_32, g1, g2, g3, hn, h1]
  | succ k ih =>
    intro i hi
    rw [← ih (i + 1) (by omega)]
    conv => lhs; unfold xb_Mo_together_4
    have h1 : (nI n ≤ nI i) = False := by rw [vn_le (by omega) (by omega)]; simp; omega
    have hs : vs_sum (fun i => I 168 (12 * w + i)) (i + 1) = vs_sum (fun i => I 168 (12 * w + i)) i + I 168 (12 * w + i) := rfl
    rw [hs]
    simp only [xr_all, xf_all, if_true, if_false, true_or, or_true, eq_self, ite_not, Bool.false_eq_true, ite_self, and_self, true_and, and_true, false_and, and_false, not_true_eq_false, not_false_eq_true, xj_Mo_together, xb_Mo_together_0, xb_Mo_together_32, g1, g2, g3, hn, h1, xq_Mo_layerOf ro d z I J (show 12 * w + i < 304 by omega), nI_1]
