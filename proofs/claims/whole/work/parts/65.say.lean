/-! an answer is given: the class's say, the model's answersNow -/
theorem vz_nF {a b : Nat} (h : a ≠ b) : (a = b) = False := eq_false h
theorem vz_nT {a b : Nat} (h : a = b) : (a = b) = True := eq_true h
/-- the class's cells from one world, the model's from another -/
def vz_mg (C M : Nat → Nat → Int32) : Nat → Nat → Int32 := fun a => if a < 167 then C a else M a
theorem vz_mgC (C M : Nat → Nat → Int32) {a : Nat} (h : a < 167) : vz_mg C M a = C a := if_pos h
theorem vz_mgM (C M : Nat → Nat → Int32) {a : Nat} (h : 167 ≤ a) : vz_mg C M a = M a := if_neg (by omega)
theorem vz_mgs {C M I : Nat → Nat → Int32} (h1 : ∀ a, a < 167 → C a = I a) (h2 : ∀ a, 167 ≤ a → M a = I a) : vz_mg C M = I := by
  funext a
  by_cases h : a < 167
  · rw [vz_mgC C M h, h1 a h]
  · rw [vz_mgM C M (by omega), h2 a (by omega)]
def vp_l (I : Nat → Nat → Int32) (q i : Nat) : Nat → Nat → Int32 := fun a j => if a = q ∧ j + 1 < i then I q (j + 1) else I a j
theorem vp_l1 (I : Nat → Nat → Int32) (q : Nat) : vp_l I q 1 = I := by
  funext a j
  unfold vp_l
  rw [if_neg (by omega)]
theorem vp_ls (I : Nat → Nat → Int32) (q : Nat) {i : Nat} (h : 1 ≤ i) : xv_u2 (vp_l I q i) q (i - 1) (vp_l I q i q i) = vp_l I q (i + 1) := by
  funext a j
  have e : vp_l I q i q i = I q i := by unfold vp_l; rw [if_neg (by omega)]
  rw [e]
  unfold xv_u2 vp_l
  by_cases c : a = q
  · by_cases c2 : j = i - 1
    · rw [if_pos ⟨c, c2⟩, if_pos ⟨c, by omega⟩, c2, show i - 1 + 1 = i by omega]
    · rw [if_neg (by omega)]
      by_cases c3 : j + 1 < i
      · rw [if_pos ⟨c, c3⟩, if_pos ⟨c, by omega⟩]
      · rw [if_neg (by omega), if_neg (by omega)]
  · rw [if_neg (by omega), if_neg (by omega), if_neg (by omega)]
theorem vp_lo (I : Nat → Nat → Int32) {q i a : Nat} (h : a ≠ q) : vp_l I q i a = I a := by
  funext j
  unfold vp_l
  rw [if_neg (by omega)]
theorem vp_li (I : Nat → Nat → Int32) {q i j : Nat} (h : j + 1 < i) : vp_l I q i q j = I q (j + 1) := by
  unfold vp_l
  rw [if_pos ⟨rfl, h⟩]
theorem xq_Witness_peel (ro : xv_Ro) (d : Nat) (z : Nat × Nat) (I : Nat → Nat → Int32) (J : Nat → Nat → Int64) {p l : Nat} (hp : vW p) (hl : I p 1 = nI l) (h1 : 1 ≤ l) (h2 : l ≤ 12) : xv_evm ro (d + 1) 268 [.ref p] (z, xv_mk I J) = some (some (.int (I (p + 1) 0)), (z, xv_mk (xv_u2 (vp_l I (p + 1) 12) p 1 (nI (l - 1))) J)) := by
  rw [xe_Witness_peel]
  have hy := xq_Witness_layer ro d z I J hp hl h2 (i := 0) (by omega)
  rw [if_pos (by omega), show nI 0 = (0 : Int32) from rfl] at hy
  simp only [xr_all, xf_all, if_true, if_false, true_or, or_true, eq_self, ite_not, Bool.false_eq_true, ite_self, and_self, true_and, and_true, false_and, and_false, not_true_eq_false, not_false_eq_true, xj_Witness_peel, xb_Witness_peel_0, xb_Witness_peel_34, vW_f hp, hy]
  have hl2 := vz_iter2 (fun i => xv_ev ro (d + 1) xm_Witness_peel xb_Witness_peel_8 [some (.ref p), some (.int (I (p + 1) 0)), some (.int (nI i))] [] (z, xv_mk (vp_l I (p + 1) i) J)) 1 12 (by omega) (fun i hi hi2 => by
    have g1 : (12 ≤ nI i) = False := by (simp (disch := omega) only [vz_all, if_true, if_false, true_or, or_true, eq_self, ite_not, Bool.false_eq_true, ite_self, and_self, true_and, and_true, false_and, and_false, not_true_eq_false, not_false_eq_true, false_or, or_false])
    have g2 : xv_inB (nI i) 12 = true := by (simp (disch := omega) only [vz_all, if_true, if_false, true_or, or_true, eq_self, ite_not, Bool.false_eq_true, ite_self, and_self, true_and, and_true, false_and, and_false, not_true_eq_false, not_false_eq_true, false_or, or_false])
    have g3 : nI i - 1 = nI (i - 1) := by (simp (disch := omega) only [vz_all, if_true, if_false, true_or, or_true, eq_self, ite_not, Bool.false_eq_true, ite_self, and_self, true_and, and_true, false_and, and_false, not_true_eq_false, not_false_eq_true, false_or, or_false])
    have g4 : xv_inB (nI (i - 1)) 12 = true := by (simp (disch := omega) only [vz_all, if_true, if_false, true_or, or_true, eq_self, ite_not, Bool.false_eq_true, ite_self, and_self, true_and, and_true, false_and, and_false, not_true_eq_false, not_false_eq_true, false_or, or_false])
    conv => lhs; unfold xb_Witness_peel_8
    simp only [xr_all, xf_all, if_true, if_false, true_or, or_true, eq_self, ite_not, Bool.false_eq_true, ite_self, and_self, true_and, and_true, false_and, and_false, not_true_eq_false, not_false_eq_true, xj_Witness_peel, xb_Witness_peel_0, xb_Witness_peel_34, g1, g2, g3, g4, vW_f hp, nI_clamp (show i < 2 ^ 31 by omega), nI_clamp (show i - 1 < 2 ^ 31 by omega), vp_ls I (p + 1) hi, nI_1])
  rw [vp_l1, show nI 1 = (1 : Int32) from rfl] at hl2
  rw [hl2]
  conv => lhs; unfold xb_Witness_peel_8
  have g1 : (12 ≤ nI 12) = True := eq_true (by decide)
  have g5 : vp_l I (p + 1) 12 p 1 = nI l := by rw [vp_lo I (by omega)]; exact hl
  have g6 : nI l - 1 = nI (l - 1) := by (simp (disch := omega) only [vz_all, if_true, if_false, true_or, or_true, eq_self, ite_not, Bool.false_eq_true, ite_self, and_self, true_and, and_true, false_and, and_false, not_true_eq_false, not_false_eq_true, false_or, or_false])
  have g7 : (if (0 : Int32) < nI (l - 1) then nI (l - 1) else 0) = nI (l - 1) := by
    by_cases c : l = 1
    · rw [c]; rfl
    · have : (0 : Int32) < nI (l - 1) := nI_lt (a := 0) (by omega) (by omega)
      rw [if_pos this]
  simp only [xr_all, xf_all, if_true, if_false, true_or, or_true, eq_self, ite_not, Bool.false_eq_true, ite_self, and_self, true_and, and_true, false_and, and_false, not_true_eq_false, not_false_eq_true, xj_Witness_peel, xb_Witness_peel_0, xb_Witness_peel_34, g1, vW_f hp, g5, g6, g7]
theorem xq_Answer_peel (ro : xv_Ro) (d : Nat) (z : Nat × Nat) (I : Nat → Nat → Int32) (J : Nat → Nat → Int64) {o p l : Nat} (x : Int32) (ho : vN o) (hp : vW p) (hl : I p 1 = nI l) (h1 : 1 ≤ l) (h2 : l ≤ 12) (n1 : o ≠ p) (n2 : o ≠ p + 1) : ∃ I1, xv_evm ro (d + 1 + 1) 146 [.ref o, .ref p, .int x] (z, xv_mk I J) = some (none, (z, xv_mk I1 J)) ∧ I1 o 4 = I (p + 1) 0 ∧ I1 o 5 = nI l ∧ I1 o 6 = x ∧ I1 o 7 = I p 2 ∧ I1 p 1 = nI (l - 1) ∧ (∀ j, j < 11 → I1 (p + 1) j = I (p + 1) (j + 1)) ∧ (∀ j, j < 4 → I1 o j = I o j) ∧ (∀ j, j ≠ 1 → I1 p j = I p j) ∧ ∀ a, a ≠ o → a ≠ p → a ≠ p + 1 → I1 a = I a := by
  have hpe := xq_Witness_peel ro d z (xv_u2 I o 5 (nI l)) J hp (by rw [xu_ne2 (by omega)]; exact hl) h1 h2
  rw [xu_ne2 (I := I) (by omega)] at hpe
  have hly := xq_Witness_layers ro (d + 1) z I J hp
  rw [hl] at hly
  refine ⟨xv_u2 (xv_u2 (xv_u2 (xv_u2 (vp_l (xv_u2 I o 5 (nI l)) (p + 1) 12) p 1 (nI (l - 1))) o 4 (I (p + 1) 0)) o 7 (I p 2)) o 6 x, ?_, ?_, ?_, ?_, ?_, ?_, ?_, ?_, ?_, ?_⟩
  · rw [xe_Answer_peel]
    have hho := xq_Witness_honesty ro (d + 1) z (xv_u2 (xv_u2 (vp_l (xv_u2 I o 5 (nI l)) (p + 1) 12) p 1 (nI (l - 1))) o 4 (I (p + 1) 0)) J hp
    have e : xv_u2 (xv_u2 (vp_l (xv_u2 I o 5 (nI l)) (p + 1) 12) p 1 (nI (l - 1))) o 4 (I (p + 1) 0) p 2 = I p 2 := by
      rw [xu_ne2 (by omega), xu_ne2 (by omega), vp_lo _ (by omega), xu_ne2 (by omega)]
    rw [e] at hho
    simp only [xr_all, xf_all, if_true, if_false, true_or, or_true, eq_self, ite_not, Bool.false_eq_true, ite_self, and_self, true_and, and_true, false_and, and_false, not_true_eq_false, not_false_eq_true, xj_Answer_peel, xb_Answer_peel_0, vN_f ho, vW_f hp, hly, hpe, hho]
  · rw [xu_ne2 (by omega), xu_ne2 (by omega), xu_eq]
  · rw [xu_ne2 (by omega), xu_ne2 (by omega), xu_ne2 (by omega), xu_ne2 (by omega), vp_lo _ n2, xu_eq]
  · rw [xu_eq]
  · rw [xu_ne2 (by omega), xu_eq]
  · rw [xu_ne2 (by omega), xu_ne2 (by omega), xu_ne2 (by omega), xu_eq]
  · intro j hj
    rw [xu_ne2 (by omega), xu_ne2 (by omega), xu_ne2 (by omega), xu_ne2 (by omega), vp_li _ (by omega), xu_ne2 (by omega)]
  · intro j hj
    rw [xu_ne2 (by omega), xu_ne2 (by omega), xu_ne2 (by omega), xu_ne2 (by omega), vp_lo _ n2, xu_ne2 (by omega)]
  · intro j hj
    rw [xu_ne2 (by omega), xu_ne2 (by omega), xu_ne2 (by omega), xu_ne2 (by omega), vp_lo _ (by omega), xu_ne2 (by omega)]
  · intro a b1 b2 b3
    rw [xu_ne (by omega), xu_ne (by omega), xu_ne (by omega), xu_ne (by omega), vp_lo _ (by omega), xu_ne (by omega)]
theorem xq_Answer_strength (ro : xv_Ro) (d : Nat) (z : Nat × Nat) (I : Nat → Nat → Int32) (J : Nat → Nat → Int64) {o : Nat} (ho : vN o) : xv_evm ro d 151 [.ref o] (z, xv_mk I J) = some (some (.int (I o 4)), (z, xv_mk I J)) := by
  rw [xe_Answer_strength]
  simp only [xr_all, xf_all, if_true, if_false, true_or, or_true, eq_self, ite_not, Bool.false_eq_true, ite_self, and_self, true_and, and_true, false_and, and_false, not_true_eq_false, not_false_eq_true, xj_Answer_strength, xb_Answer_strength_0, vN_f ho]
/-- what say leaves -/
def vy_C (I I1 : Nat → Nat → Int32) (A n w l : Nat) (k y c : Int32) : Prop :=
  I1 (A + 23 + n) 0 = nI w ∧ I1 (A + 23 + n) 1 = k ∧ I1 (A + 23 + n) 2 = y ∧ I1 (A + 23 + n) 3 = c ∧ I1 (A + 23 + n) 4 = I (A + 4 + 2 * w) 0 ∧ I1 (A + 23 + n) 5 = nI l ∧ I1 (A + 23 + n) 6 = I A 3 ∧ I1 (A + 23 + n) 7 = I (A + 3 + 2 * w) 2 ∧ I1 (A + 3 + 2 * w) 1 = nI (l - 1) ∧ (∀ j, j < 11 → I1 (A + 4 + 2 * w) j = I (A + 4 + 2 * w) (j + 1)) ∧ I1 A 2 = nI (n + 1) ∧ (∀ j, j ≠ 1 → I1 (A + 3 + 2 * w) j = I (A + 3 + 2 * w) j) ∧ (∀ j, j ≠ 2 → I1 A j = I A j) ∧ ∀ a, a ≠ A + 23 + n → a ≠ A + 3 + 2 * w → a ≠ A + 4 + 2 * w → a ≠ A → I1 a = I a
theorem xq_say (ro : xv_Ro) (d : Nat) (z : Nat × Nat) (I : Nat → Nat → Int32) (J : Nat → Nat → Int64) {A n w l : Nat} (k y c : Int32) (hA : vAr A) (hn : I A 2 = nI n) (hn2 : n < 20) (hw : w < 10) (ht : I (A + 3 + 2 * w) 3 = 1) (hl : I (A + 3 + 2 * w) 1 = nI l) (h1 : 1 ≤ l) (h2 : l ≤ 12) (hy : y = 0 ∨ y = 1) (hc : c = 0 ∨ c = 1) : ∃ I1, xv_evm ro (d + 1 + 1 + 1) 169 [.ref A, .int (nI w), .int k, .int y, .int c] (z, xv_mk I J) = some (some (.int (I (A + 4 + 2 * w) 0)), (z, xv_mk I1 J)) ∧ vy_C I I1 A n w l k y c := by
  have hp := vAr_W hA hw
  have ho := vAr_N hA hn2
  have htold := xq_told ro (d + 1) z I J hA hw ht
  have hly := xq_Witness_layers ro (d + 1 + 1) z I J hp
  rw [hl] at hly
  have ht1 := xq_Answer_tell ro (d + 1 + 1) z I J ho (nI w) k y c hy hc
  obtain ⟨I1, e0, e4, e5, e6, e7, e8, e9, e10, e11, e12⟩ := xq_Answer_peel ro d z (xv_u2 (xv_u2 (xv_u2 (xv_u2 I (A + 23 + n) 0 (nI w)) (A + 23 + n) 1 k) (A + 23 + n) 2 y) (A + 23 + n) 3 c) J (I A 3) ho hp (by rw [xu_ne (by omega), xu_ne (by omega), xu_ne (by omega), xu_ne (by omega)]; exact hl) h1 h2 (by omega) (by omega)
  have f1 : I1 A 2 = nI n := by rw [e12 A (by omega) (by omega) (by omega), xu_ne (by omega), xu_ne (by omega), xu_ne (by omega), xu_ne (by omega)]; exact hn
  have f4 : I1 (A + 23 + n) 4 = I (A + 3 + 2 * w + 1) 0 := by rw [e4, xu_ne (by omega), xu_ne (by omega), xu_ne (by omega), xu_ne (by omega)]
  refine ⟨xv_u2 I1 A 2 (nI (n + 1)), ?_, ?_, ?_, ?_, ?_, ?_, ?_, ?_, ?_, ?_, ?_, ?_, ?_, ?_, ?_⟩
  · rw [xe_Archive_say]
    have g0 : (nI l = 0) = False := by (simp (disch := omega) only [vz_all, if_true, if_false, true_or, or_true, eq_self, ite_not, Bool.false_eq_true, ite_self, and_self, true_and, and_true, false_and, and_false, not_true_eq_false, not_false_eq_true, false_or, or_false])
    have g1 : (nI n < 0) = False := by (simp (disch := omega) only [vz_all, if_true, if_false, true_or, or_true, eq_self, ite_not, Bool.false_eq_true, ite_self, and_self, true_and, and_true, false_and, and_false, not_true_eq_false, not_false_eq_true, false_or, or_false])
    have g2 : (nI n < 20) = True := by (simp (disch := omega) only [vz_all, if_true, if_false, true_or, or_true, eq_self, ite_not, Bool.false_eq_true, ite_self, and_self, true_and, and_true, false_and, and_false, not_true_eq_false, not_false_eq_true, false_or, or_false])
    have g3 : xv_inB (nI n) 20 = true := by (simp (disch := omega) only [vz_all, if_true, if_false, true_or, or_true, eq_self, ite_not, Bool.false_eq_true, ite_self, and_self, true_and, and_true, false_and, and_false, not_true_eq_false, not_false_eq_true, false_or, or_false])
    have g4 : A + 23 + 1 * n = A + 23 + n := by omega
    have g5 : nI (n + 1) - 1 = nI n := nI_pred n
    have hs := xq_Answer_strength ro (d + 1 + 1) z (xv_u2 I1 A 2 (nI (n + 1))) J ho
    rw [xu_ne (by omega), f4] at hs
    have n1 : (A = A + 23 + n) = False := by apply eq_false; omega
    have hT2 : xv_u2 (xv_u2 (xv_u2 (xv_u2 I (A + 23 + n) 0 (nI w)) (A + 23 + n) 1 k) (A + 23 + n) 2 y) (A + 23 + n) 3 c A 2 = nI n := by rw [xu_ne (by omega), xu_ne (by omega), xu_ne (by omega), xu_ne (by omega)]; exact hn
    have hT3 : xv_u2 (xv_u2 (xv_u2 (xv_u2 I (A + 23 + n) 0 (nI w)) (A + 23 + n) 1 k) (A + 23 + n) 2 y) (A + 23 + n) 3 c A 3 = I A 3 := by rw [xu_ne (by omega), xu_ne (by omega), xu_ne (by omega), xu_ne (by omega)]
    generalize xv_u2 (xv_u2 (xv_u2 (xv_u2 I (A + 23 + n) 0 (nI w)) (A + 23 + n) 1 k) (A + 23 + n) 2 y) (A + 23 + n) 3 c = T at *
    simp only [xr_all, xf_all, if_true, if_false, true_or, or_true, eq_self, ite_not, Bool.false_eq_true, ite_self, and_self, true_and, and_true, false_and, and_false, not_true_eq_false, not_false_eq_true, xj_Archive_say, xb_Archive_say_0, xb_Archive_say_36, xb_Archive_say_39, htold, vW_f hp, vAr_f hA, hly, g0, hn, g1, g2, g3, nI_clamp (show n < 2 ^ 31 by omega), g4, vN_f ho, ht1, hT2, hT3, e0, f1, nI_1, xu_eq, g5, hs]
    rw [show A + 3 + 2 * w + 1 = A + 4 + 2 * w by omega]
  · rw [xu_ne (by omega), e10 0 (by omega), xu_ne2 (by omega), xu_ne2 (by omega), xu_ne2 (by omega), xu_eq]
  · rw [xu_ne (by omega), e10 1 (by omega), xu_ne2 (by omega), xu_ne2 (by omega), xu_eq]
  · rw [xu_ne (by omega), e10 2 (by omega), xu_ne2 (by omega), xu_eq]
  · rw [xu_ne (by omega), e10 3 (by omega), xu_eq]
  · rw [xu_ne (by omega), f4, show A + 3 + 2 * w + 1 = A + 4 + 2 * w by omega]
  · rw [xu_ne (by omega), e5]
  · rw [xu_ne (by omega), e6]
  · rw [xu_ne (by omega), e7, xu_ne (by omega), xu_ne (by omega), xu_ne (by omega), xu_ne (by omega)]
  · rw [xu_ne (by omega), e8]
  · intro j hj
    have := e9 j hj
    rw [show A + 3 + 2 * w + 1 = A + 4 + 2 * w by omega] at this
    rw [xu_ne (by omega), this, xu_ne (by omega), xu_ne (by omega), xu_ne (by omega), xu_ne (by omega)]
  · rw [xu_eq]
  · intro j hj
    rw [xu_ne (by omega), e11 j hj, xu_ne (by omega), xu_ne (by omega), xu_ne (by omega), xu_ne (by omega)]
  · intro j hj
    rw [xu_ne2 (by omega), e12 A (by omega) (by omega) (by omega), xu_ne (by omega), xu_ne (by omega), xu_ne (by omega), xu_ne (by omega)]
  · intro a b1 b2 b3 b4
    rw [xu_ne (by omega), e12 a (by omega) (by omega) (by omega), xu_ne (by omega), xu_ne (by omega), xu_ne (by omega), xu_ne (by omega)]
