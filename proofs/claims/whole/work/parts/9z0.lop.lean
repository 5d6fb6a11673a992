/-! law: letters, operations, in the class and in the model -/
theorem xr_swl (ro : xv_Ro) (d : Nat) (M : xv_M) (a b w : Nat) (v : Value) (ops : List xv_Op) (ls : xv_L) (st : List Value) (σ : xv_S) (df lo hi : Int) (os : Array Int) (x : Int32) (k t : Nat) (o : Int) (hx : x.toInt = lo + k) (hh : lo + k ≤ hi) (ho : os[k]? = some o) (ht : ((a : Int) + o).toNat = t) : xv_ev ro d M ((.tableswitch df lo hi os, a, b, w, v) :: ops) ls (.int x :: st) σ = xv_ev ro d M (xv_at M.2.2.2.2.2.2 t) ls st σ := by
  rw [xr_tsw, hx, if_neg (by omega), show (lo + (k : Int) - lo).toNat = k by omega, ho, xr_tk, ht]
def l_let (c : Nat) : Option Nat := if c = 119 then some 0 else if c = 104 then some 1 else if c = 115 then some 2 else if c = 106 then some 3 else if c = 107 then some 4 else if c = 102 then some 5 else if c = 122 then some 6 else if c = 116 then some 7 else none
theorem l_let_lt {c f : Nat} (h : l_let c = some f) : f < 8 ∧ (c = 119 ∨ c = 104 ∨ c = 115 ∨ c = 106 ∨ c = 107 ∨ c = 102 ∨ c = 122 ∨ c = 116) := by
  unfold l_let at h
  repeat (first | (split at h; · cases h; exact ⟨by omega, by omega⟩) | cases h)
theorem xq_isLetter (ro : xv_Ro) (d : Nat) (σ : xv_S) {c : Nat} (hc : c < 256) : xv_evm ro d 192 [.int (nI c)] σ = some (some (.int (if (l_let c).isSome = true then 1 else 0)), σ) := by
  rw [xe_Case_isLetter]
  unfold xb_Case_isLetter_0
  by_cases h : 102 ≤ c ∧ c ≤ 122
  · have h2 : c = 102 ∨ c = 103 ∨ c = 104 ∨ c = 105 ∨ c = 106 ∨ c = 107 ∨ c = 108 ∨ c = 109 ∨ c = 110 ∨ c = 111 ∨ c = 112 ∨ c = 113 ∨ c = 114 ∨ c = 115 ∨ c = 116 ∨ c = 117 ∨ c = 118 ∨ c = 119 ∨ c = 120 ∨ c = 121 ∨ c = 122 := by omega
    rcases h2 with rfl | rfl | rfl | rfl | rfl | rfl | rfl | rfl | rfl | rfl | rfl | rfl | rfl | rfl | rfl | rfl | rfl | rfl | rfl | rfl | rfl
    · rw [xr_iload0, xr_swl ro d xm_Case_isLetter _ _ _ _ _ _ _ _ 101 102 122 _ (nI 102) 0 100 99 rfl (by decide) rfl rfl]
      simp only [xr_all, xf_all, if_true, if_false, true_or, or_true, eq_self, ite_not, Bool.false_eq_true, ite_self, and_self, true_and, and_true, false_and, and_false, not_true_eq_false, not_false_eq_true, xj_Case_isLetter, xb_Case_isLetter_100, xb_Case_isLetter_102]
      rfl
    · rw [xr_iload0, xr_swl ro d xm_Case_isLetter _ _ _ _ _ _ _ _ 101 102 122 _ (nI 103) 1 102 101 rfl (by decide) rfl rfl]
      simp only [xr_all, xf_all, if_true, if_false, true_or, or_true, eq_self, ite_not, Bool.false_eq_true, ite_self, and_self, true_and, and_true, false_and, and_false, not_true_eq_false, not_false_eq_true, xj_Case_isLetter, xb_Case_isLetter_100, xb_Case_isLetter_102]
      rfl
    · rw [xr_iload0, xr_swl ro d xm_Case_isLetter _ _ _ _ _ _ _ _ 101 102 122 _ (nI 104) 2 100 99 rfl (by decide) rfl rfl]
      simp only [xr_all, xf_all, if_true, if_false, true_or, or_true, eq_self, ite_not, Bool.false_eq_true, ite_self, and_self, true_and, and_true, false_and, and_false, not_true_eq_false, not_false_eq_true, xj_Case_isLetter, xb_Case_isLetter_100, xb_Case_isLetter_102]
      rfl
    · rw [xr_iload0, xr_swl ro d xm_Case_isLetter _ _ _ _ _ _ _ _ 101 102 122 _ (nI 105) 3 102 101 rfl (by decide) rfl rfl]
      simp only [xr_all, xf_all, if_true, if_false, true_or, or_true, eq_self, ite_not, Bool.false_eq_true, ite_self, and_self, true_and, and_true, false_and, and_false, not_true_eq_false, not_false_eq_true, xj_Case_isLetter, xb_Case_isLetter_100, xb_Case_isLetter_102]
      rfl
    · rw [xr_iload0, xr_swl ro d xm_Case_isLetter _ _ _ _ _ _ _ _ 101 102 122 _ (nI 106) 4 100 99 rfl (by decide) rfl rfl]
      simp only [xr_all, xf_all, if_true, if_false, true_or, or_true, eq_self, ite_not, Bool.false_eq_true, ite_self, and_self, true_and, and_true, false_and, and_false, not_true_eq_false, not_false_eq_true, xj_Case_isLetter, xb_Case_isLetter_100, xb_Case_isLetter_102]
      rfl
    · rw [xr_iload0, xr_swl ro d xm_Case_isLetter _ _ _ _ _ _ _ _ 101 102 122 _ (nI 107) 5 100 99 rfl (by decide) rfl rfl]
      simp only [xr_all, xf_all, if_true, if_false, true_or, or_true, eq_self, ite_not, Bool.false_eq_true, ite_self, and_self, true_and, and_true, false_and, and_false, not_true_eq_false, not_false_eq_true, xj_Case_isLetter, xb_Case_isLetter_100, xb_Case_isLetter_102]
      rfl
    · rw [xr_iload0, xr_swl ro d xm_Case_isLetter _ _ _ _ _ _ _ _ 101 102 122 _ (nI 108) 6 102 101 rfl (by decide) rfl rfl]
      simp only [xr_all, xf_all, if_true, if_false, true_or, or_true, eq_self, ite_not, Bool.false_eq_true, ite_self, and_self, true_and, and_true, false_and, and_false, not_true_eq_false, not_false_eq_true, xj_Case_isLetter, xb_Case_isLetter_100, xb_Case_isLetter_102]
      rfl
    · rw [xr_iload0, xr_swl ro d xm_Case_isLetter _ _ _ _ _ _ _ _ 101 102 122 _ (nI 109) 7 102 101 rfl (by decide) rfl rfl]
      simp only [xr_all, xf_all, if_true, if_false, true_or, or_true, eq_self, ite_not, Bool.false_eq_true, ite_self, and_self, true_and, and_true, false_and, and_false, not_true_eq_false, not_false_eq_true, xj_Case_isLetter, xb_Case_isLetter_100, xb_Case_isLetter_102]
      rfl
    · rw [xr_iload0, xr_swl ro d xm_Case_isLetter _ _ _ _ _ _ _ _ 101 102 122 _ (nI 110) 8 102 101 rfl (by decide) rfl rfl]
      simp only [xr_all, xf_all, if_true, if_false, true_or, or_true, eq_self, ite_not, Bool.false_eq_true, ite_self, and_self, true_and, and_true, false_and, and_false, not_true_eq_false, not_false_eq_true, xj_Case_isLetter, xb_Case_isLetter_100, xb_Case_isLetter_102]
      rfl
    · rw [xr_iload0, xr_swl ro d xm_Case_isLetter _ _ _ _ _ _ _ _ 101 102 122 _ (nI 111) 9 102 101 rfl (by decide) rfl rfl]
      simp only [xr_all, xf_all, if_true, if_false, true_or, or_true, eq_self, ite_not, Bool.false_eq_true, ite_self, and_self, true_and, and_true, false_and, and_false, not_true_eq_false, not_false_eq_true, xj_Case_isLetter, xb_Case_isLetter_100, xb_Case_isLetter_102]
      rfl
    · rw [xr_iload0, xr_swl ro d xm_Case_isLetter _ _ _ _ _ _ _ _ 101 102 122 _ (nI 112) 10 102 101 rfl (by decide) rfl rfl]
      simp only [xr_all, xf_all, if_true, if_false, true_or, or_true, eq_self, ite_not, Bool.false_eq_true, ite_self, and_self, true_and, and_true, false_and, and_false, not_true_eq_false, not_false_eq_true, xj_Case_isLetter, xb_Case_isLetter_100, xb_Case_isLetter_102]
      rfl
    · rw [xr_iload0, xr_swl ro d xm_Case_isLetter _ _ _ _ _ _ _ _ 101 102 122 _ (nI 113) 11 102 101 rfl (by decide) rfl rfl]
      simp only [xr_all, xf_all, if_true, if_false, true_or, or_true, eq_self, ite_not, Bool.false_eq_true, ite_self, and_self, true_and, and_true, false_and, and_false, not_true_eq_false, not_false_eq_true, xj_Case_isLetter, xb_Case_isLetter_100, xb_Case_isLetter_102]
      rfl
    · rw [xr_iload0, xr_swl ro d xm_Case_isLetter _ _ _ _ _ _ _ _ 101 102 122 _ (nI 114) 12 102 101 rfl (by decide) rfl rfl]
      simp only [xr_all, xf_all, if_true, if_false, true_or, or_true, eq_self, ite_not, Bool.false_eq_true, ite_self, and_self, true_and, and_true, false_and, and_false, not_true_eq_false, not_false_eq_true, xj_Case_isLetter, xb_Case_isLetter_100, xb_Case_isLetter_102]
      rfl
    · rw [xr_iload0, xr_swl ro d xm_Case_isLetter _ _ _ _ _ _ _ _ 101 102 122 _ (nI 115) 13 100 99 rfl (by decide) rfl rfl]
      simp only [xr_all, xf_all, if_true, if_false, true_or, or_true, eq_self, ite_not, Bool.false_eq_true, ite_self, and_self, true_and, and_true, false_and, and_false, not_true_eq_false, not_false_eq_true, xj_Case_isLetter, xb_Case_isLetter_100, xb_Case_isLetter_102]
      rfl
    · rw [xr_iload0, xr_swl ro d xm_Case_isLetter _ _ _ _ _ _ _ _ 101 102 122 _ (nI 116) 14 100 99 rfl (by decide) rfl rfl]
      simp only [xr_all, xf_all, if_true, if_false, true_or, or_true, eq_self, ite_not, Bool.false_eq_true, ite_self, and_self, true_and, and_true, false_and, and_false, not_true_eq_false, not_false_eq_true, xj_Case_isLetter, xb_Case_isLetter_100, xb_Case_isLetter_102]
      rfl
    · rw [xr_iload0, xr_swl ro d xm_Case_isLetter _ _ _ _ _ _ _ _ 101 102 122 _ (nI 117) 15 102 101 rfl (by decide) rfl rfl]
      simp only [xr_all, xf_all, if_true, if_false, true_or, or_true, eq_self, ite_not, Bool.false_eq_true, ite_self, and_self, true_and, and_true, false_and, and_false, not_true_eq_false, not_false_eq_true, xj_Case_isLetter, xb_Case_isLetter_100, xb_Case_isLetter_102]
      rfl
    · rw [xr_iload0, xr_swl ro d xm_Case_isLetter _ _ _ _ _ _ _ _ 101 102 122 _ (nI 118) 16 102 101 rfl (by decide) rfl rfl]
      simp only [xr_all, xf_all, if_true, if_false, true_or, or_true, eq_self, ite_not, Bool.false_eq_true, ite_self, and_self, true_and, and_true, false_and, and_false, not_true_eq_false, not_false_eq_true, xj_Case_isLetter, xb_Case_isLetter_100, xb_Case_isLetter_102]
      rfl
    · rw [xr_iload0, xr_swl ro d xm_Case_isLetter _ _ _ _ _ _ _ _ 101 102 122 _ (nI 119) 17 100 99 rfl (by decide) rfl rfl]
      simp only [xr_all, xf_all, if_true, if_false, true_or, or_true, eq_self, ite_not, Bool.false_eq_true, ite_self, and_self, true_and, and_true, false_and, and_false, not_true_eq_false, not_false_eq_true, xj_Case_isLetter, xb_Case_isLetter_100, xb_Case_isLetter_102]
      rfl
    · rw [xr_iload0, xr_swl ro d xm_Case_isLetter _ _ _ _ _ _ _ _ 101 102 122 _ (nI 120) 18 102 101 rfl (by decide) rfl rfl]
      simp only [xr_all, xf_all, if_true, if_false, true_or, or_true, eq_self, ite_not, Bool.false_eq_true, ite_self, and_self, true_and, and_true, false_and, and_false, not_true_eq_false, not_false_eq_true, xj_Case_isLetter, xb_Case_isLetter_100, xb_Case_isLetter_102]
      rfl
    · rw [xr_iload0, xr_swl ro d xm_Case_isLetter _ _ _ _ _ _ _ _ 101 102 122 _ (nI 121) 19 102 101 rfl (by decide) rfl rfl]
      simp only [xr_all, xf_all, if_true, if_false, true_or, or_true, eq_self, ite_not, Bool.false_eq_true, ite_self, and_self, true_and, and_true, false_and, and_false, not_true_eq_false, not_false_eq_true, xj_Case_isLetter, xb_Case_isLetter_100, xb_Case_isLetter_102]
      rfl
    · rw [xr_iload0, xr_swl ro d xm_Case_isLetter _ _ _ _ _ _ _ _ 101 102 122 _ (nI 122) 20 100 99 rfl (by decide) rfl rfl]
      simp only [xr_all, xf_all, if_true, if_false, true_or, or_true, eq_self, ite_not, Bool.false_eq_true, ite_self, and_self, true_and, and_true, false_and, and_false, not_true_eq_false, not_false_eq_true, xj_Case_isLetter, xb_Case_isLetter_100, xb_Case_isLetter_102]
      rfl
  · have hl : l_let c = none := by
      unfold l_let
      rw [if_neg (by omega), if_neg (by omega), if_neg (by omega), if_neg (by omega), if_neg (by omega), if_neg (by omega), if_neg (by omega), if_neg (by omega)]
    rw [xr_iload0, xr_swo ro d xm_Case_isLetter _ _ _ _ _ _ _ _ 101 102 122 _ (nI c) 102 (by rw [nI_toInt (by omega)]; omega) rfl, hl]
    simp only [xr_all, xf_all, if_true, if_false, true_or, or_true, eq_self, ite_not, Bool.false_eq_true, ite_self, and_self, true_and, and_true, false_and, and_false, not_true_eq_false, not_false_eq_true, xj_Case_isLetter, xb_Case_isLetter_100, xb_Case_isLetter_102]
    rfl
theorem xq_isLetter_x (ro : xv_Ro) (d : Nat) (σ : xv_S) : xv_evm ro d 192 [.int (-1)] σ = some (some (.int 0), σ) := by
  rw [xe_Case_isLetter]
  unfold xb_Case_isLetter_0
  rw [xr_iload0, xr_swo ro d xm_Case_isLetter _ _ _ _ _ _ _ _ 101 102 122 _ (-1) 102 (by decide) rfl]
  simp only [xr_all, xf_all, if_true, if_false, true_or, or_true, eq_self, ite_not, Bool.false_eq_true, ite_self, and_self, true_and, and_true, false_and, and_false, not_true_eq_false, not_false_eq_true, xj_Case_isLetter, xb_Case_isLetter_100, xb_Case_isLetter_102]
theorem xq_factOf (ro : xv_Ro) (d : Nat) (σ : xv_S) {c : Nat} (hc : c < 256) : xv_evm ro d 64 [.int (nI c)] σ = some (some (.int (match l_let c with | some f => nI f | none => -1)), σ) := by
  rw [xe_Mo_factOf]
  unfold xb_Mo_factOf_0
  by_cases h : 102 ≤ c ∧ c ≤ 122
  · have h2 : c = 102 ∨ c = 103 ∨ c = 104 ∨ c = 105 ∨ c = 106 ∨ c = 107 ∨ c = 108 ∨ c = 109 ∨ c = 110 ∨ c = 111 ∨ c = 112 ∨ c = 113 ∨ c = 114 ∨ c = 115 ∨ c = 116 ∨ c = 117 ∨ c = 118 ∨ c = 119 ∨ c = 120 ∨ c = 121 ∨ c = 122 := by omega
    rcases h2 with rfl | rfl | rfl | rfl | rfl | rfl | rfl | rfl | rfl | rfl | rfl | rfl | rfl | rfl | rfl | rfl | rfl | rfl | rfl | rfl | rfl
    · rw [xr_iload0, xr_swl ro d xm_Mo_factOf _ _ _ _ _ _ _ _ 117 102 122 _ (nI 102) 0 110 109 rfl (by decide) rfl rfl]
      simp only [xr_all, xf_all, if_true, if_false, true_or, or_true, eq_self, ite_not, Bool.false_eq_true, ite_self, and_self, true_and, and_true, false_and, and_false, not_true_eq_false, not_false_eq_true, xj_Mo_factOf, xb_Mo_factOf_100, xb_Mo_factOf_102, xb_Mo_factOf_104, xb_Mo_factOf_106, xb_Mo_factOf_108, xb_Mo_factOf_110, xb_Mo_factOf_112, xb_Mo_factOf_115, xb_Mo_factOf_118]
      rfl
    · rw [xr_iload0, xr_swl ro d xm_Mo_factOf _ _ _ _ _ _ _ _ 117 102 122 _ (nI 103) 1 118 117 rfl (by decide) rfl rfl]
      simp only [xr_all, xf_all, if_true, if_false, true_or, or_true, eq_self, ite_not, Bool.false_eq_true, ite_self, and_self, true_and, and_true, false_and, and_false, not_true_eq_false, not_false_eq_true, xj_Mo_factOf, xb_Mo_factOf_100, xb_Mo_factOf_102, xb_Mo_factOf_104, xb_Mo_factOf_106, xb_Mo_factOf_108, xb_Mo_factOf_110, xb_Mo_factOf_112, xb_Mo_factOf_115, xb_Mo_factOf_118]
      rfl
    · rw [xr_iload0, xr_swl ro d xm_Mo_factOf _ _ _ _ _ _ _ _ 117 102 122 _ (nI 104) 2 102 101 rfl (by decide) rfl rfl]
      simp only [xr_all, xf_all, if_true, if_false, true_or, or_true, eq_self, ite_not, Bool.false_eq_true, ite_self, and_self, true_and, and_true, false_and, and_false, not_true_eq_false, not_false_eq_true, xj_Mo_factOf, xb_Mo_factOf_100, xb_Mo_factOf_102, xb_Mo_factOf_104, xb_Mo_factOf_106, xb_Mo_factOf_108, xb_Mo_factOf_110, xb_Mo_factOf_112, xb_Mo_factOf_115, xb_Mo_factOf_118]
      rfl
    · rw [xr_iload0, xr_swl ro d xm_Mo_factOf _ _ _ _ _ _ _ _ 117 102 122 _ (nI 105) 3 118 117 rfl (by decide) rfl rfl]
      simp only [xr_all, xf_all, if_true, if_false, true_or, or_true, eq_self, ite_not, Bool.false_eq_true, ite_self, and_self, true_and, and_true, false_and, and_false, not_true_eq_false, not_false_eq_true, xj_Mo_factOf, xb_Mo_factOf_100, xb_Mo_factOf_102, xb_Mo_factOf_104, xb_Mo_factOf_106, xb_Mo_factOf_108, xb_Mo_factOf_110, xb_Mo_factOf_112, xb_Mo_factOf_115, xb_Mo_factOf_118]
      rfl
    · rw [xr_iload0, xr_swl ro d xm_Mo_factOf _ _ _ _ _ _ _ _ 117 102 122 _ (nI 106) 4 106 105 rfl (by decide) rfl rfl]
      simp only [xr_all, xf_all, if_true, if_false, true_or, or_true, eq_self, ite_not, Bool.false_eq_true, ite_self, and_self, true_and, and_true, false_and, and_false, not_true_eq_false, not_false_eq_true, xj_Mo_factOf, xb_Mo_factOf_100, xb_Mo_factOf_102, xb_Mo_factOf_104, xb_Mo_factOf_106, xb_Mo_factOf_108, xb_Mo_factOf_110, xb_Mo_factOf_112, xb_Mo_factOf_115, xb_Mo_factOf_118]
      rfl
    · rw [xr_iload0, xr_swl ro d xm_Mo_factOf _ _ _ _ _ _ _ _ 117 102 122 _ (nI 107) 5 108 107 rfl (by decide) rfl rfl]
      simp only [xr_all, xf_all, if_true, if_false, true_or, or_true, eq_self, ite_not, Bool.false_eq_true, ite_self, and_self, true_and, and_true, false_and, and_false, not_true_eq_false, not_false_eq_true, xj_Mo_factOf, xb_Mo_factOf_100, xb_Mo_factOf_102, xb_Mo_factOf_104, xb_Mo_factOf_106, xb_Mo_factOf_108, xb_Mo_factOf_110, xb_Mo_factOf_112, xb_Mo_factOf_115, xb_Mo_factOf_118]
      rfl
    · rw [xr_iload0, xr_swl ro d xm_Mo_factOf _ _ _ _ _ _ _ _ 117 102 122 _ (nI 108) 6 118 117 rfl (by decide) rfl rfl]
      simp only [xr_all, xf_all, if_true, if_false, true_or, or_true, eq_self, ite_not, Bool.false_eq_true, ite_self, and_self, true_and, and_true, false_and, and_false, not_true_eq_false, not_false_eq_true, xj_Mo_factOf, xb_Mo_factOf_100, xb_Mo_factOf_102, xb_Mo_factOf_104, xb_Mo_factOf_106, xb_Mo_factOf_108, xb_Mo_factOf_110, xb_Mo_factOf_112, xb_Mo_factOf_115, xb_Mo_factOf_118]
      rfl
    · rw [xr_iload0, xr_swl ro d xm_Mo_factOf _ _ _ _ _ _ _ _ 117 102 122 _ (nI 109) 7 118 117 rfl (by decide) rfl rfl]
      simp only [xr_all, xf_all, if_true, if_false, true_or, or_true, eq_self, ite_not, Bool.false_eq_true, ite_self, and_self, true_and, and_true, false_and, and_false, not_true_eq_false, not_false_eq_true, xj_Mo_factOf, xb_Mo_factOf_100, xb_Mo_factOf_102, xb_Mo_factOf_104, xb_Mo_factOf_106, xb_Mo_factOf_108, xb_Mo_factOf_110, xb_Mo_factOf_112, xb_Mo_factOf_115, xb_Mo_factOf_118]
      rfl
    · rw [xr_iload0, xr_swl ro d xm_Mo_factOf _ _ _ _ _ _ _ _ 117 102 122 _ (nI 110) 8 118 117 rfl (by decide) rfl rfl]
      simp only [xr_all, xf_all, if_true, if_false, true_or, or_true, eq_self, ite_not, Bool.false_eq_true, ite_self, and_self, true_and, and_true, false_and, and_false, not_true_eq_false, not_false_eq_true, xj_Mo_factOf, xb_Mo_factOf_100, xb_Mo_factOf_102, xb_Mo_factOf_104, xb_Mo_factOf_106, xb_Mo_factOf_108, xb_Mo_factOf_110, xb_Mo_factOf_112, xb_Mo_factOf_115, xb_Mo_factOf_118]
      rfl
    · rw [xr_iload0, xr_swl ro d xm_Mo_factOf _ _ _ _ _ _ _ _ 117 102 122 _ (nI 111) 9 118 117 rfl (by decide) rfl rfl]
      simp only [xr_all, xf_all, if_true, if_false, true_or, or_true, eq_self, ite_not, Bool.false_eq_true, ite_self, and_self, true_and, and_true, false_and, and_false, not_true_eq_false, not_false_eq_true, xj_Mo_factOf, xb_Mo_factOf_100, xb_Mo_factOf_102, xb_Mo_factOf_104, xb_Mo_factOf_106, xb_Mo_factOf_108, xb_Mo_factOf_110, xb_Mo_factOf_112, xb_Mo_factOf_115, xb_Mo_factOf_118]
      rfl
    · rw [xr_iload0, xr_swl ro d xm_Mo_factOf _ _ _ _ _ _ _ _ 117 102 122 _ (nI 112) 10 118 117 rfl (by decide) rfl rfl]
      simp only [xr_all, xf_all, if_true, if_false, true_or, or_true, eq_self, ite_not, Bool.false_eq_true, ite_self, and_self, true_and, and_true, false_and, and_false, not_true_eq_false, not_false_eq_true, xj_Mo_factOf, xb_Mo_factOf_100, xb_Mo_factOf_102, xb_Mo_factOf_104, xb_Mo_factOf_106, xb_Mo_factOf_108, xb_Mo_factOf_110, xb_Mo_factOf_112, xb_Mo_factOf_115, xb_Mo_factOf_118]
      rfl
    · rw [xr_iload0, xr_swl ro d xm_Mo_factOf _ _ _ _ _ _ _ _ 117 102 122 _ (nI 113) 11 118 117 rfl (by decide) rfl rfl]
      simp only [xr_all, xf_all, if_true, if_false, true_or, or_true, eq_self, ite_not, Bool.false_eq_true, ite_self, and_self, true_and, and_true, false_and, and_false, not_true_eq_false, not_false_eq_true, xj_Mo_factOf, xb_Mo_factOf_100, xb_Mo_factOf_102, xb_Mo_factOf_104, xb_Mo_factOf_106, xb_Mo_factOf_108, xb_Mo_factOf_110, xb_Mo_factOf_112, xb_Mo_factOf_115, xb_Mo_factOf_118]
      rfl
    · rw [xr_iload0, xr_swl ro d xm_Mo_factOf _ _ _ _ _ _ _ _ 117 102 122 _ (nI 114) 12 118 117 rfl (by decide) rfl rfl]
      simp only [xr_all, xf_all, if_true, if_false, true_or, or_true, eq_self, ite_not, Bool.false_eq_true, ite_self, and_self, true_and, and_true, false_and, and_false, not_true_eq_false, not_false_eq_true, xj_Mo_factOf, xb_Mo_factOf_100, xb_Mo_factOf_102, xb_Mo_factOf_104, xb_Mo_factOf_106, xb_Mo_factOf_108, xb_Mo_factOf_110, xb_Mo_factOf_112, xb_Mo_factOf_115, xb_Mo_factOf_118]
      rfl
    · rw [xr_iload0, xr_swl ro d xm_Mo_factOf _ _ _ _ _ _ _ _ 117 102 122 _ (nI 115) 13 104 103 rfl (by decide) rfl rfl]
      simp only [xr_all, xf_all, if_true, if_false, true_or, or_true, eq_self, ite_not, Bool.false_eq_true, ite_self, and_self, true_and, and_true, false_and, and_false, not_true_eq_false, not_false_eq_true, xj_Mo_factOf, xb_Mo_factOf_100, xb_Mo_factOf_102, xb_Mo_factOf_104, xb_Mo_factOf_106, xb_Mo_factOf_108, xb_Mo_factOf_110, xb_Mo_factOf_112, xb_Mo_factOf_115, xb_Mo_factOf_118]
      rfl
    · rw [xr_iload0, xr_swl ro d xm_Mo_factOf _ _ _ _ _ _ _ _ 117 102 122 _ (nI 116) 14 115 114 rfl (by decide) rfl rfl]
      simp only [xr_all, xf_all, if_true, if_false, true_or, or_true, eq_self, ite_not, Bool.false_eq_true, ite_self, and_self, true_and, and_true, false_and, and_false, not_true_eq_false, not_false_eq_true, xj_Mo_factOf, xb_Mo_factOf_100, xb_Mo_factOf_102, xb_Mo_factOf_104, xb_Mo_factOf_106, xb_Mo_factOf_108, xb_Mo_factOf_110, xb_Mo_factOf_112, xb_Mo_factOf_115, xb_Mo_factOf_118]
      rfl
    · rw [xr_iload0, xr_swl ro d xm_Mo_factOf _ _ _ _ _ _ _ _ 117 102 122 _ (nI 117) 15 118 117 rfl (by decide) rfl rfl]
      simp only [xr_all, xf_all, if_true, if_false, true_or, or_true, eq_self, ite_not, Bool.false_eq_true, ite_self, and_self, true_and, and_true, false_and, and_false, not_true_eq_false, not_false_eq_true, xj_Mo_factOf, xb_Mo_factOf_100, xb_Mo_factOf_102, xb_Mo_factOf_104, xb_Mo_factOf_106, xb_Mo_factOf_108, xb_Mo_factOf_110, xb_Mo_factOf_112, xb_Mo_factOf_115, xb_Mo_factOf_118]
      rfl
    · rw [xr_iload0, xr_swl ro d xm_Mo_factOf _ _ _ _ _ _ _ _ 117 102 122 _ (nI 118) 16 118 117 rfl (by decide) rfl rfl]
      simp only [xr_all, xf_all, if_true, if_false, true_or, or_true, eq_self, ite_not, Bool.false_eq_true, ite_self, and_self, true_and, and_true, false_and, and_false, not_true_eq_false, not_false_eq_true, xj_Mo_factOf, xb_Mo_factOf_100, xb_Mo_factOf_102, xb_Mo_factOf_104, xb_Mo_factOf_106, xb_Mo_factOf_108, xb_Mo_factOf_110, xb_Mo_factOf_112, xb_Mo_factOf_115, xb_Mo_factOf_118]
      rfl
    · rw [xr_iload0, xr_swl ro d xm_Mo_factOf _ _ _ _ _ _ _ _ 117 102 122 _ (nI 119) 17 100 99 rfl (by decide) rfl rfl]
      simp only [xr_all, xf_all, if_true, if_false, true_or, or_true, eq_self, ite_not, Bool.false_eq_true, ite_self, and_self, true_and, and_true, false_and, and_false, not_true_eq_false, not_false_eq_true, xj_Mo_factOf, xb_Mo_factOf_100, xb_Mo_factOf_102, xb_Mo_factOf_104, xb_Mo_factOf_106, xb_Mo_factOf_108, xb_Mo_factOf_110, xb_Mo_factOf_112, xb_Mo_factOf_115, xb_Mo_factOf_118]
      rfl
    · rw [xr_iload0, xr_swl ro d xm_Mo_factOf _ _ _ _ _ _ _ _ 117 102 122 _ (nI 120) 18 118 117 rfl (by decide) rfl rfl]
      simp only [xr_all, xf_all, if_true, if_false, true_or, or_true, eq_self, ite_not, Bool.false_eq_true, ite_self, and_self, true_and, and_true, false_and, and_false, not_true_eq_false, not_false_eq_true, xj_Mo_factOf, xb_Mo_factOf_100, xb_Mo_factOf_102, xb_Mo_factOf_104, xb_Mo_factOf_106, xb_Mo_factOf_108, xb_Mo_factOf_110, xb_Mo_factOf_112, xb_Mo_factOf_115, xb_Mo_factOf_118]
      rfl
    · rw [xr_iload0, xr_swl ro d xm_Mo_factOf _ _ _ _ _ _ _ _ 117 102 122 _ (nI 121) 19 118 117 rfl (by decide) rfl rfl]
      simp only [xr_all, xf_all, if_true, if_false, true_or, or_true, eq_self, ite_not, Bool.false_eq_true, ite_self, and_self, true_and, and_true, false_and, and_false, not_true_eq_false, not_false_eq_true, xj_Mo_factOf, xb_Mo_factOf_100, xb_Mo_factOf_102, xb_Mo_factOf_104, xb_Mo_factOf_106, xb_Mo_factOf_108, xb_Mo_factOf_110, xb_Mo_factOf_112, xb_Mo_factOf_115, xb_Mo_factOf_118]
      rfl
    · rw [xr_iload0, xr_swl ro d xm_Mo_factOf _ _ _ _ _ _ _ _ 117 102 122 _ (nI 122) 20 112 111 rfl (by decide) rfl rfl]
      simp only [xr_all, xf_all, if_true, if_false, true_or, or_true, eq_self, ite_not, Bool.false_eq_true, ite_self, and_self, true_and, and_true, false_and, and_false, not_true_eq_false, not_false_eq_true, xj_Mo_factOf, xb_Mo_factOf_100, xb_Mo_factOf_102, xb_Mo_factOf_104, xb_Mo_factOf_106, xb_Mo_factOf_108, xb_Mo_factOf_110, xb_Mo_factOf_112, xb_Mo_factOf_115, xb_Mo_factOf_118]
      rfl
  · have hl : l_let c = none := by
      unfold l_let
      rw [if_neg (by omega), if_neg (by omega), if_neg (by omega), if_neg (by omega), if_neg (by omega), if_neg (by omega), if_neg (by omega), if_neg (by omega)]
    rw [xr_iload0, xr_swo ro d xm_Mo_factOf _ _ _ _ _ _ _ _ 117 102 122 _ (nI c) 118 (by rw [nI_toInt (by omega)]; omega) rfl, hl]
    simp only [xr_all, xf_all, if_true, if_false, true_or, or_true, eq_self, ite_not, Bool.false_eq_true, ite_self, and_self, true_and, and_true, false_and, and_false, not_true_eq_false, not_false_eq_true, xj_Mo_factOf, xb_Mo_factOf_100, xb_Mo_factOf_102, xb_Mo_factOf_104, xb_Mo_factOf_106, xb_Mo_factOf_108, xb_Mo_factOf_110, xb_Mo_factOf_112, xb_Mo_factOf_115, xb_Mo_factOf_118]
theorem xq_factOf_x (ro : xv_Ro) (d : Nat) (σ : xv_S) : xv_evm ro d 64 [.int (-1)] σ = some (some (.int (-1)), σ) := by
  rw [xe_Mo_factOf]
  unfold xb_Mo_factOf_0
  rw [xr_iload0, xr_swo ro d xm_Mo_factOf _ _ _ _ _ _ _ _ 117 102 122 _ (-1) 118 (by decide) rfl]
  simp only [xr_all, xf_all, if_true, if_false, true_or, or_true, eq_self, ite_not, Bool.false_eq_true, ite_self, and_self, true_and, and_true, false_and, and_false, not_true_eq_false, not_false_eq_true, xj_Mo_factOf, xb_Mo_factOf_100, xb_Mo_factOf_102, xb_Mo_factOf_104, xb_Mo_factOf_106, xb_Mo_factOf_108, xb_Mo_factOf_110, xb_Mo_factOf_112, xb_Mo_factOf_115, xb_Mo_factOf_118]
theorem xq_Case_of (ro : xv_Ro) (d : Nat) (z : Nat × Nat) (I : Nat → Nat → Int32) (J : Nat → Nat → Int64) {c f : Nat} (h : l_let c = some f) : xv_evm ro d 193 [.ref 21, .int (nI c)] (z, xv_mk I J) = some (some (.int (I 21 f)), (z, xv_mk I J)) := by
  obtain ⟨-, h2⟩ := l_let_lt h
  rw [xe_Case_of]
  unfold xb_Case_of_0
  rcases h2 with rfl | rfl | rfl | rfl | rfl | rfl | rfl | rfl
  · cases h
    rw [xr_iload1, xr_swl ro d xm_Case_of _ _ _ _ _ _ _ _ 139 102 122 _ (nI 119) 17 100 99 rfl (by decide) rfl rfl]
    simp only [xr_all, xf_all, if_true, if_false, true_or, or_true, eq_self, ite_not, Bool.false_eq_true, ite_self, and_self, true_and, and_true, false_and, and_false, not_true_eq_false, not_false_eq_true, xj_Case_of, xb_Case_of_100, xb_Case_of_105, xb_Case_of_110, xb_Case_of_115, xb_Case_of_120, xb_Case_of_125, xb_Case_of_130, xb_Case_of_135, xb_Case_of_140]
  · cases h
    rw [xr_iload1, xr_swl ro d xm_Case_of _ _ _ _ _ _ _ _ 139 102 122 _ (nI 104) 2 105 104 rfl (by decide) rfl rfl]
    simp only [xr_all, xf_all, if_true, if_false, true_or, or_true, eq_self, ite_not, Bool.false_eq_true, ite_self, and_self, true_and, and_true, false_and, and_false, not_true_eq_false, not_false_eq_true, xj_Case_of, xb_Case_of_100, xb_Case_of_105, xb_Case_of_110, xb_Case_of_115, xb_Case_of_120, xb_Case_of_125, xb_Case_of_130, xb_Case_of_135, xb_Case_of_140]
  · cases h
    rw [xr_iload1, xr_swl ro d xm_Case_of _ _ _ _ _ _ _ _ 139 102 122 _ (nI 115) 13 110 109 rfl (by decide) rfl rfl]
    simp only [xr_all, xf_all, if_true, if_false, true_or, or_true, eq_self, ite_not, Bool.false_eq_true, ite_self, and_self, true_and, and_true, false_and, and_false, not_true_eq_false, not_false_eq_true, xj_Case_of, xb_Case_of_100, xb_Case_of_105, xb_Case_of_110, xb_Case_of_115, xb_Case_of_120, xb_Case_of_125, xb_Case_of_130, xb_Case_of_135, xb_Case_of_140]
  · cases h
    rw [xr_iload1, xr_swl ro d xm_Case_of _ _ _ _ _ _ _ _ 139 102 122 _ (nI 106) 4 115 114 rfl (by decide) rfl rfl]
    simp only [xr_all, xf_all, if_true, if_false, true_or, or_true, eq_self, ite_not, Bool.false_eq_true, ite_self, and_self, true_and, and_true, false_and, and_false, not_true_eq_false, not_false_eq_true, xj_Case_of, xb_Case_of_100, xb_Case_of_105, xb_Case_of_110, xb_Case_of_115, xb_Case_of_120, xb_Case_of_125, xb_Case_of_130, xb_Case_of_135, xb_Case_of_140]
  · cases h
    rw [xr_iload1, xr_swl ro d xm_Case_of _ _ _ _ _ _ _ _ 139 102 122 _ (nI 107) 5 120 119 rfl (by decide) rfl rfl]
    simp only [xr_all, xf_all, if_true, if_false, true_or, or_true, eq_self, ite_not, Bool.false_eq_true, ite_self, and_self, true_and, and_true, false_and, and_false, not_true_eq_false, not_false_eq_true, xj_Case_of, xb_Case_of_100, xb_Case_of_105, xb_Case_of_110, xb_Case_of_115, xb_Case_of_120, xb_Case_of_125, xb_Case_of_130, xb_Case_of_135, xb_Case_of_140]
  · cases h
    rw [xr_iload1, xr_swl ro d xm_Case_of _ _ _ _ _ _ _ _ 139 102 122 _ (nI 102) 0 125 124 rfl (by decide) rfl rfl]
    simp only [xr_all, xf_all, if_true, if_false, true_or, or_true, eq_self, ite_not, Bool.false_eq_true, ite_self, and_self, true_and, and_true, false_and, and_false, not_true_eq_false, not_false_eq_true, xj_Case_of, xb_Case_of_100, xb_Case_of_105, xb_Case_of_110, xb_Case_of_115, xb_Case_of_120, xb_Case_of_125, xb_Case_of_130, xb_Case_of_135, xb_Case_of_140]
  · cases h
    rw [xr_iload1, xr_swl ro d xm_Case_of _ _ _ _ _ _ _ _ 139 102 122 _ (nI 122) 20 130 129 rfl (by decide) rfl rfl]
    simp only [xr_all, xf_all, if_true, if_false, true_or, or_true, eq_self, ite_not, Bool.false_eq_true, ite_self, and_self, true_and, and_true, false_and, and_false, not_true_eq_false, not_false_eq_true, xj_Case_of, xb_Case_of_100, xb_Case_of_105, xb_Case_of_110, xb_Case_of_115, xb_Case_of_120, xb_Case_of_125, xb_Case_of_130, xb_Case_of_135, xb_Case_of_140]
  · cases h
    rw [xr_iload1, xr_swl ro d xm_Case_of _ _ _ _ _ _ _ _ 139 102 122 _ (nI 116) 14 135 134 rfl (by decide) rfl rfl]
    simp only [xr_all, xf_all, if_true, if_false, true_or, or_true, eq_self, ite_not, Bool.false_eq_true, ite_self, and_self, true_and, and_true, false_and, and_false, not_true_eq_false, not_false_eq_true, xj_Case_of, xb_Case_of_100, xb_Case_of_105, xb_Case_of_110, xb_Case_of_115, xb_Case_of_120, xb_Case_of_125, xb_Case_of_130, xb_Case_of_135, xb_Case_of_140]
/-- an operation by its number in the model; its sign -/
def l_op (w : Nat) (x y : Int32) : Option Int32 := if w = 2 then some (x + y) else if w = 3 then some (x - y) else if w = 4 then some (x * y) else if w = 5 then (if y = 0 then none else some (x / y)) else if w = 6 then (if y = 0 then none else some (x - x / y * y)) else if w = 7 then some (if x < y then 1 else 0) else if w = 8 then some (if y < x then 1 else 0) else some (if x = y then 1 else 0)
def l_ch (w : Nat) : Nat := if w = 2 then 43 else if w = 3 then 45 else if w = 4 then 42 else if w = 5 then 47 else if w = 6 then 37 else if w = 7 then 60 else if w = 8 then 62 else 61
def e64 : Option Int32 → Int64
  | none => 1099511627776
  | some x => x.toInt64
theorem e64_i (x : Int32) : x.toInt64.toInt32 = x := by
  apply Int32.toInt_inj.mp
  rw [Int64.toInt_toInt32, Int32.toInt_toInt64]
  have h1 := Int32.le_toInt x
  have h2 := Int32.toInt_lt x
  exact Int.bmod_eq_of_le (by omega) (by omega)
theorem e64_e {x y : Int32} : (x.toInt64 = y.toInt64) = (x = y) := propext ⟨fun h => by rw [← e64_i x, h, e64_i], fun h => by rw [h]⟩
theorem l_cmp {a b : Int64} : (lg_cmp a b = 0) = (a = b) := by
  unfold lg_cmp
  apply propext
  by_cases h : a > b
  · rw [if_pos h]
    constructor
    · intro q; exact absurd q (by decide)
    · intro q; rw [q] at h; exact absurd h Int64.lt_irrefl
  · rw [if_neg h]
    by_cases h2 : a = b
    · rw [if_pos h2]; exact ⟨fun _ => h2, fun _ => rfl⟩
    · rw [if_neg h2]
      exact ⟨fun q => absurd q (by decide), fun q => absurd q h2⟩
theorem e64_n (x : Int32) : (lg_cmp x.toInt64 1099511627776 = 0) = False := by
  rw [l_cmp]
  apply eq_false
  intro h
  have h1 := congrArg Int64.toInt h
  rw [Int32.toInt_toInt64] at h1
  have h2 := Int32.toInt_lt x
  have h3 : (1099511627776 : Int64).toInt = 1099511627776 := by decide
  omega
theorem e64_c (x y : Int32) : (lg_cmp x.toInt64 y.toInt64 = 0) = (x = y) := by rw [l_cmp, e64_e]
theorem e64_nn : (lg_cmp (1099511627776 : Int64) 1099511627776 = 0) = True := eq_true (by decide)
theorem xq_join (ro : xv_Ro) (d : Nat) (σ : xv_S) {w : Nat} (hw : 2 ≤ w ∧ w ≤ 9) (x y : Int32) : xv_evm ro d 212 [.int (nI (l_ch w)), .long x.toInt64, .long y.toInt64] σ = some (some (.long (e64 (l_op w x y))), σ) := by
  have hw2 : w = 2 ∨ w = 3 ∨ w = 4 ∨ w = 5 ∨ w = 6 ∨ w = 7 ∨ w = 8 ∨ w = 9 := by omega
  have n1 := e64_n x
  have n2 := e64_n y
  have i1 := e64_i x
  have i2 := e64_i y
  rw [xe_Law_join]
  rcases hw2 with rfl | rfl | rfl | rfl | rfl | rfl | rfl | rfl
  · have a1 : (nI (l_ch 2) = 38) = False := eq_false (by decide)
    have a2 : (nI (l_ch 2) = 124) = False := eq_false (by decide)
    have blk : xv_ev ro d xm_Law_join xb_Law_join_60 [some (.int (nI (l_ch 2))), some (.long x.toInt64), none, some (.long y.toInt64), none, none, none] [] σ = some (some (.long (e64 (l_op 2 x y))), σ) := by
      unfold xb_Law_join_60
      simp only [xr_lload1, xr_lload3, xr_l2i, xr_istore5, xr_istore6, xr_iload0, i1, i2]
      rw [xr_swl ro d xm_Law_join _ _ _ _ _ _ _ _ 215 37 62 _ (nI (l_ch 2)) 6 188 119 (by decide) (by decide) rfl rfl]
      simp only [xr_all, xf_all, if_true, if_false, true_or, or_true, eq_self, ite_not, Bool.false_eq_true, ite_self, and_self, true_and, and_true, false_and, and_false, not_true_eq_false, not_false_eq_true, xj_Law_join, xb_Law_join_0, xb_Law_join_12, xb_Law_join_28, xb_Law_join_29, xb_Law_join_30, xb_Law_join_46, xb_Law_join_47, xb_Law_join_48, xb_Law_join_188, xb_Law_join_195, xb_Law_join_202, xb_Law_join_209, xb_Law_join_220, xb_Law_join_226, xb_Law_join_227, xb_Law_join_238, xb_Law_join_244, xb_Law_join_245, xb_Law_join_256, xb_Law_join_257, xb_Law_join_258, xb_Law_join_269, xb_Law_join_270, xb_Law_join_271, xb_Law_join_282, xb_Law_join_283, xb_Law_join_284]
      rfl
    simp only [xr_all, xf_all, if_true, if_false, true_or, or_true, eq_self, ite_not, Bool.false_eq_true, ite_self, and_self, true_and, and_true, false_and, and_false, not_true_eq_false, not_false_eq_true, xj_Law_join, xb_Law_join_0, xb_Law_join_12, xb_Law_join_28, xb_Law_join_29, xb_Law_join_30, xb_Law_join_46, xb_Law_join_47, xb_Law_join_48, xb_Law_join_188, xb_Law_join_195, xb_Law_join_202, xb_Law_join_209, xb_Law_join_220, xb_Law_join_226, xb_Law_join_227, xb_Law_join_238, xb_Law_join_244, xb_Law_join_245, xb_Law_join_256, xb_Law_join_257, xb_Law_join_258, xb_Law_join_269, xb_Law_join_270, xb_Law_join_271, xb_Law_join_282, xb_Law_join_283, xb_Law_join_284, n1, n2, a1, a2]
    exact blk
  · have a1 : (nI (l_ch 3) = 38) = False := eq_false (by decide)
    have a2 : (nI (l_ch 3) = 124) = False := eq_false (by decide)
    have blk : xv_ev ro d xm_Law_join xb_Law_join_60 [some (.int (nI (l_ch 3))), some (.long x.toInt64), none, some (.long y.toInt64), none, none, none] [] σ = some (some (.long (e64 (l_op 3 x y))), σ) := by
      unfold xb_Law_join_60
      simp only [xr_lload1, xr_lload3, xr_l2i, xr_istore5, xr_istore6, xr_iload0, i1, i2]
      rw [xr_swl ro d xm_Law_join _ _ _ _ _ _ _ _ 215 37 62 _ (nI (l_ch 3)) 8 195 126 (by decide) (by decide) rfl rfl]
      simp only [xr_all, xf_all, if_true, if_false, true_or, or_true, eq_self, ite_not, Bool.false_eq_true, ite_self, and_self, true_and, and_true, false_and, and_false, not_true_eq_false, not_false_eq_true, xj_Law_join, xb_Law_join_0, xb_Law_join_12, xb_Law_join_28, xb_Law_join_29, xb_Law_join_30, xb_Law_join_46, xb_Law_join_47, xb_Law_join_48, xb_Law_join_188, xb_Law_join_195, xb_Law_join_202, xb_Law_join_209, xb_Law_join_220, xb_Law_join_226, xb_Law_join_227, xb_Law_join_238, xb_Law_join_244, xb_Law_join_245, xb_Law_join_256, xb_Law_join_257, xb_Law_join_258, xb_Law_join_269, xb_Law_join_270, xb_Law_join_271, xb_Law_join_282, xb_Law_join_283, xb_Law_join_284]
      rfl
    simp only [xr_all, xf_all, if_true, if_false, true_or, or_true, eq_self, ite_not, Bool.false_eq_true, ite_self, and_self, true_and, and_true, false_and, and_false, not_true_eq_false, not_false_eq_true, xj_Law_join, xb_Law_join_0, xb_Law_join_12, xb_Law_join_28, xb_Law_join_29, xb_Law_join_30, xb_Law_join_46, xb_Law_join_47, xb_Law_join_48, xb_Law_join_188, xb_Law_join_195, xb_Law_join_202, xb_Law_join_209, xb_Law_join_220, xb_Law_join_226, xb_Law_join_227, xb_Law_join_238, xb_Law_join_244, xb_Law_join_245, xb_Law_join_256, xb_Law_join_257, xb_Law_join_258, xb_Law_join_269, xb_Law_join_270, xb_Law_join_271, xb_Law_join_282, xb_Law_join_283, xb_Law_join_284, n1, n2, a1, a2]
    exact blk
  · have a1 : (nI (l_ch 4) = 38) = False := eq_false (by decide)
    have a2 : (nI (l_ch 4) = 124) = False := eq_false (by decide)
    have blk : xv_ev ro d xm_Law_join xb_Law_join_60 [some (.int (nI (l_ch 4))), some (.long x.toInt64), none, some (.long y.toInt64), none, none, none] [] σ = some (some (.long (e64 (l_op 4 x y))), σ) := by
      unfold xb_Law_join_60
      simp only [xr_lload1, xr_lload3, xr_l2i, xr_istore5, xr_istore6, xr_iload0, i1, i2]
      rw [xr_swl ro d xm_Law_join _ _ _ _ _ _ _ _ 215 37 62 _ (nI (l_ch 4)) 5 202 133 (by decide) (by decide) rfl rfl]
      simp only [xr_all, xf_all, if_true, if_false, true_or, or_true, eq_self, ite_not, Bool.false_eq_true, ite_self, and_self, true_and, and_true, false_and, and_false, not_true_eq_false, not_false_eq_true, xj_Law_join, xb_Law_join_0, xb_Law_join_12, xb_Law_join_28, xb_Law_join_29, xb_Law_join_30, xb_Law_join_46, xb_Law_join_47, xb_Law_join_48, xb_Law_join_188, xb_Law_join_195, xb_Law_join_202, xb_Law_join_209, xb_Law_join_220, xb_Law_join_226, xb_Law_join_227, xb_Law_join_238, xb_Law_join_244, xb_Law_join_245, xb_Law_join_256, xb_Law_join_257, xb_Law_join_258, xb_Law_join_269, xb_Law_join_270, xb_Law_join_271, xb_Law_join_282, xb_Law_join_283, xb_Law_join_284]
      rfl
    simp only [xr_all, xf_all, if_true, if_false, true_or, or_true, eq_self, ite_not, Bool.false_eq_true, ite_self, and_self, true_and, and_true, false_and, and_false, not_true_eq_false, not_false_eq_true, xj_Law_join, xb_Law_join_0, xb_Law_join_12, xb_Law_join_28, xb_Law_join_29, xb_Law_join_30, xb_Law_join_46, xb_Law_join_47, xb_Law_join_48, xb_Law_join_188, xb_Law_join_195, xb_Law_join_202, xb_Law_join_209, xb_Law_join_220, xb_Law_join_226, xb_Law_join_227, xb_Law_join_238, xb_Law_join_244, xb_Law_join_245, xb_Law_join_256, xb_Law_join_257, xb_Law_join_258, xb_Law_join_269, xb_Law_join_270, xb_Law_join_271, xb_Law_join_282, xb_Law_join_283, xb_Law_join_284, n1, n2, a1, a2]
    exact blk
  · have a1 : (nI (l_ch 5) = 38) = False := eq_false (by decide)
    have a2 : (nI (l_ch 5) = 124) = False := eq_false (by decide)
    have blk : xv_ev ro d xm_Law_join xb_Law_join_60 [some (.int (nI (l_ch 5))), some (.long x.toInt64), none, some (.long y.toInt64), none, none, none] [] σ = some (some (.long (e64 (l_op 5 x y))), σ) := by
      unfold xb_Law_join_60
      simp only [xr_lload1, xr_lload3, xr_l2i, xr_istore5, xr_istore6, xr_iload0, i1, i2]
      rw [xr_swl ro d xm_Law_join _ _ _ _ _ _ _ _ 215 37 62 _ (nI (l_ch 5)) 10 209 140 (by decide) (by decide) rfl rfl]
      by_cases c : y = 0
      · have e : l_op 5 x y = none := by
          show (if y = 0 then none else _) = none
          rw [if_pos c]
        rw [e]
        simp only [xr_all, xf_all, if_true, if_false, true_or, or_true, eq_self, ite_not, Bool.false_eq_true, ite_self, and_self, true_and, and_true, false_and, and_false, not_true_eq_false, not_false_eq_true, xj_Law_join, xb_Law_join_0, xb_Law_join_12, xb_Law_join_28, xb_Law_join_29, xb_Law_join_30, xb_Law_join_46, xb_Law_join_47, xb_Law_join_48, xb_Law_join_188, xb_Law_join_195, xb_Law_join_202, xb_Law_join_209, xb_Law_join_220, xb_Law_join_226, xb_Law_join_227, xb_Law_join_238, xb_Law_join_244, xb_Law_join_245, xb_Law_join_256, xb_Law_join_257, xb_Law_join_258, xb_Law_join_269, xb_Law_join_270, xb_Law_join_271, xb_Law_join_282, xb_Law_join_283, xb_Law_join_284, c]
        rfl
      · have e : l_op 5 x y = some (x / y) := by
          show (if y = 0 then none else _) = _
          rw [if_neg c]
        rw [e]
        simp only [xr_all, xf_all, if_true, if_false, true_or, or_true, eq_self, ite_not, Bool.false_eq_true, ite_self, and_self, true_and, and_true, false_and, and_false, not_true_eq_false, not_false_eq_true, xj_Law_join, xb_Law_join_0, xb_Law_join_12, xb_Law_join_28, xb_Law_join_29, xb_Law_join_30, xb_Law_join_46, xb_Law_join_47, xb_Law_join_48, xb_Law_join_188, xb_Law_join_195, xb_Law_join_202, xb_Law_join_209, xb_Law_join_220, xb_Law_join_226, xb_Law_join_227, xb_Law_join_238, xb_Law_join_244, xb_Law_join_245, xb_Law_join_256, xb_Law_join_257, xb_Law_join_258, xb_Law_join_269, xb_Law_join_270, xb_Law_join_271, xb_Law_join_282, xb_Law_join_283, xb_Law_join_284, c]
        rfl
    simp only [xr_all, xf_all, if_true, if_false, true_or, or_true, eq_self, ite_not, Bool.false_eq_true, ite_self, and_self, true_and, and_true, false_and, and_false, not_true_eq_false, not_false_eq_true, xj_Law_join, xb_Law_join_0, xb_Law_join_12, xb_Law_join_28, xb_Law_join_29, xb_Law_join_30, xb_Law_join_46, xb_Law_join_47, xb_Law_join_48, xb_Law_join_188, xb_Law_join_195, xb_Law_join_202, xb_Law_join_209, xb_Law_join_220, xb_Law_join_226, xb_Law_join_227, xb_Law_join_238, xb_Law_join_244, xb_Law_join_245, xb_Law_join_256, xb_Law_join_257, xb_Law_join_258, xb_Law_join_269, xb_Law_join_270, xb_Law_join_271, xb_Law_join_282, xb_Law_join_283, xb_Law_join_284, n1, n2, a1, a2]
    exact blk
  · have a1 : (nI (l_ch 6) = 38) = False := eq_false (by decide)
    have a2 : (nI (l_ch 6) = 124) = False := eq_false (by decide)
    have blk : xv_ev ro d xm_Law_join xb_Law_join_60 [some (.int (nI (l_ch 6))), some (.long x.toInt64), none, some (.long y.toInt64), none, none, none] [] σ = some (some (.long (e64 (l_op 6 x y))), σ) := by
      unfold xb_Law_join_60
      simp only [xr_lload1, xr_lload3, xr_l2i, xr_istore5, xr_istore6, xr_iload0, i1, i2]
      rw [xr_swl ro d xm_Law_join _ _ _ _ _ _ _ _ 215 37 62 _ (nI (l_ch 6)) 0 227 158 (by decide) (by decide) rfl rfl]
      by_cases c : y = 0
      · have e : l_op 6 x y = none := by
          show (if y = 0 then none else _) = none
          rw [if_pos c]
        rw [e]
        simp only [xr_all, xf_all, if_true, if_false, true_or, or_true, eq_self, ite_not, Bool.false_eq_true, ite_self, and_self, true_and, and_true, false_and, and_false, not_true_eq_false, not_false_eq_true, xj_Law_join, xb_Law_join_0, xb_Law_join_12, xb_Law_join_28, xb_Law_join_29, xb_Law_join_30, xb_Law_join_46, xb_Law_join_47, xb_Law_join_48, xb_Law_join_188, xb_Law_join_195, xb_Law_join_202, xb_Law_join_209, xb_Law_join_220, xb_Law_join_226, xb_Law_join_227, xb_Law_join_238, xb_Law_join_244, xb_Law_join_245, xb_Law_join_256, xb_Law_join_257, xb_Law_join_258, xb_Law_join_269, xb_Law_join_270, xb_Law_join_271, xb_Law_join_282, xb_Law_join_283, xb_Law_join_284, c]
        rfl
      · have e : l_op 6 x y = some (x - x / y * y) := by
          show (if y = 0 then none else _) = _
          rw [if_neg c]
        rw [e]
        simp only [xr_all, xf_all, if_true, if_false, true_or, or_true, eq_self, ite_not, Bool.false_eq_true, ite_self, and_self, true_and, and_true, false_and, and_false, not_true_eq_false, not_false_eq_true, xj_Law_join, xb_Law_join_0, xb_Law_join_12, xb_Law_join_28, xb_Law_join_29, xb_Law_join_30, xb_Law_join_46, xb_Law_join_47, xb_Law_join_48, xb_Law_join_188, xb_Law_join_195, xb_Law_join_202, xb_Law_join_209, xb_Law_join_220, xb_Law_join_226, xb_Law_join_227, xb_Law_join_238, xb_Law_join_244, xb_Law_join_245, xb_Law_join_256, xb_Law_join_257, xb_Law_join_258, xb_Law_join_269, xb_Law_join_270, xb_Law_join_271, xb_Law_join_282, xb_Law_join_283, xb_Law_join_284, c]
        rfl
    simp only [xr_all, xf_all, if_true, if_false, true_or, or_true, eq_self, ite_not, Bool.false_eq_true, ite_self, and_self, true_and, and_true, false_and, and_false, not_true_eq_false, not_false_eq_true, xj_Law_join, xb_Law_join_0, xb_Law_join_12, xb_Law_join_28, xb_Law_join_29, xb_Law_join_30, xb_Law_join_46, xb_Law_join_47, xb_Law_join_48, xb_Law_join_188, xb_Law_join_195, xb_Law_join_202, xb_Law_join_209, xb_Law_join_220, xb_Law_join_226, xb_Law_join_227, xb_Law_join_238, xb_Law_join_244, xb_Law_join_245, xb_Law_join_256, xb_Law_join_257, xb_Law_join_258, xb_Law_join_269, xb_Law_join_270, xb_Law_join_271, xb_Law_join_282, xb_Law_join_283, xb_Law_join_284, n1, n2, a1, a2]
    exact blk
  · have a1 : (nI (l_ch 7) = 38) = False := eq_false (by decide)
    have a2 : (nI (l_ch 7) = 124) = False := eq_false (by decide)
    have blk : xv_ev ro d xm_Law_join xb_Law_join_60 [some (.int (nI (l_ch 7))), some (.long x.toInt64), none, some (.long y.toInt64), none, none, none] [] σ = some (some (.long (e64 (l_op 7 x y))), σ) := by
      unfold xb_Law_join_60
      simp only [xr_lload1, xr_lload3, xr_l2i, xr_istore5, xr_istore6, xr_iload0, i1, i2]
      rw [xr_swl ro d xm_Law_join _ _ _ _ _ _ _ _ 215 37 62 _ (nI (l_ch 7)) 23 245 176 (by decide) (by decide) rfl rfl]
      have e : l_op 7 x y = some (if x < y then 1 else 0) := rfl
      rw [e]
      by_cases c : x < y
      · have c2 : ¬ y ≤ x := Int32.not_le.mpr c
        rw [if_pos c]
        simp only [xr_all, xf_all, if_true, if_false, true_or, or_true, eq_self, ite_not, Bool.false_eq_true, ite_self, and_self, true_and, and_true, false_and, and_false, not_true_eq_false, not_false_eq_true, xj_Law_join, xb_Law_join_0, xb_Law_join_12, xb_Law_join_28, xb_Law_join_29, xb_Law_join_30, xb_Law_join_46, xb_Law_join_47, xb_Law_join_48, xb_Law_join_188, xb_Law_join_195, xb_Law_join_202, xb_Law_join_209, xb_Law_join_220, xb_Law_join_226, xb_Law_join_227, xb_Law_join_238, xb_Law_join_244, xb_Law_join_245, xb_Law_join_256, xb_Law_join_257, xb_Law_join_258, xb_Law_join_269, xb_Law_join_270, xb_Law_join_271, xb_Law_join_282, xb_Law_join_283, xb_Law_join_284, c2]
        rfl
      · have c2 : y ≤ x := Int32.not_lt.mp c
        rw [if_neg c]
        simp only [xr_all, xf_all, if_true, if_false, true_or, or_true, eq_self, ite_not, Bool.false_eq_true, ite_self, and_self, true_and, and_true, false_and, and_false, not_true_eq_false, not_false_eq_true, xj_Law_join, xb_Law_join_0, xb_Law_join_12, xb_Law_join_28, xb_Law_join_29, xb_Law_join_30, xb_Law_join_46, xb_Law_join_47, xb_Law_join_48, xb_Law_join_188, xb_Law_join_195, xb_Law_join_202, xb_Law_join_209, xb_Law_join_220, xb_Law_join_226, xb_Law_join_227, xb_Law_join_238, xb_Law_join_244, xb_Law_join_245, xb_Law_join_256, xb_Law_join_257, xb_Law_join_258, xb_Law_join_269, xb_Law_join_270, xb_Law_join_271, xb_Law_join_282, xb_Law_join_283, xb_Law_join_284, c2]
        rfl
    simp only [xr_all, xf_all, if_true, if_false, true_or, or_true, eq_self, ite_not, Bool.false_eq_true, ite_self, and_self, true_and, and_true, false_and, and_false, not_true_eq_false, not_false_eq_true, xj_Law_join, xb_Law_join_0, xb_Law_join_12, xb_Law_join_28, xb_Law_join_29, xb_Law_join_30, xb_Law_join_46, xb_Law_join_47, xb_Law_join_48, xb_Law_join_188, xb_Law_join_195, xb_Law_join_202, xb_Law_join_209, xb_Law_join_220, xb_Law_join_226, xb_Law_join_227, xb_Law_join_238, xb_Law_join_244, xb_Law_join_245, xb_Law_join_256, xb_Law_join_257, xb_Law_join_258, xb_Law_join_269, xb_Law_join_270, xb_Law_join_271, xb_Law_join_282, xb_Law_join_283, xb_Law_join_284, n1, n2, a1, a2]
    exact blk
  · have a1 : (nI (l_ch 8) = 38) = False := eq_false (by decide)
    have a2 : (nI (l_ch 8) = 124) = False := eq_false (by decide)
    have blk : xv_ev ro d xm_Law_join xb_Law_join_60 [some (.int (nI (l_ch 8))), some (.long x.toInt64), none, some (.long y.toInt64), none, none, none] [] σ = some (some (.long (e64 (l_op 8 x y))), σ) := by
      unfold xb_Law_join_60
      simp only [xr_lload1, xr_lload3, xr_l2i, xr_istore5, xr_istore6, xr_iload0, i1, i2]
      rw [xr_swl ro d xm_Law_join _ _ _ _ _ _ _ _ 215 37 62 _ (nI (l_ch 8)) 25 258 189 (by decide) (by decide) rfl rfl]
      have e : l_op 8 x y = some (if y < x then 1 else 0) := rfl
      rw [e]
      by_cases c : y < x
      · have c2 : ¬ x ≤ y := Int32.not_le.mpr c
        rw [if_pos c]
        simp only [xr_all, xf_all, if_true, if_false, true_or, or_true, eq_self, ite_not, Bool.false_eq_true, ite_self, and_self, true_and, and_true, false_and, and_false, not_true_eq_false, not_false_eq_true, xj_Law_join, xb_Law_join_0, xb_Law_join_12, xb_Law_join_28, xb_Law_join_29, xb_Law_join_30, xb_Law_join_46, xb_Law_join_47, xb_Law_join_48, xb_Law_join_188, xb_Law_join_195, xb_Law_join_202, xb_Law_join_209, xb_Law_join_220, xb_Law_join_226, xb_Law_join_227, xb_Law_join_238, xb_Law_join_244, xb_Law_join_245, xb_Law_join_256, xb_Law_join_257, xb_Law_join_258, xb_Law_join_269, xb_Law_join_270, xb_Law_join_271, xb_Law_join_282, xb_Law_join_283, xb_Law_join_284, c2]
        rfl
      · have c2 : x ≤ y := Int32.not_lt.mp c
        rw [if_neg c]
        simp only [xr_all, xf_all, if_true, if_false, true_or, or_true, eq_self, ite_not, Bool.false_eq_true, ite_self, and_self, true_and, and_true, false_and, and_false, not_true_eq_false, not_false_eq_true, xj_Law_join, xb_Law_join_0, xb_Law_join_12, xb_Law_join_28, xb_Law_join_29, xb_Law_join_30, xb_Law_join_46, xb_Law_join_47, xb_Law_join_48, xb_Law_join_188, xb_Law_join_195, xb_Law_join_202, xb_Law_join_209, xb_Law_join_220, xb_Law_join_226, xb_Law_join_227, xb_Law_join_238, xb_Law_join_244, xb_Law_join_245, xb_Law_join_256, xb_Law_join_257, xb_Law_join_258, xb_Law_join_269, xb_Law_join_270, xb_Law_join_271, xb_Law_join_282, xb_Law_join_283, xb_Law_join_284, c2]
        rfl
    simp only [xr_all, xf_all, if_true, if_false, true_or, or_true, eq_self, ite_not, Bool.false_eq_true, ite_self, and_self, true_and, and_true, false_and, and_false, not_true_eq_false, not_false_eq_true, xj_Law_join, xb_Law_join_0, xb_Law_join_12, xb_Law_join_28, xb_Law_join_29, xb_Law_join_30, xb_Law_join_46, xb_Law_join_47, xb_Law_join_48, xb_Law_join_188, xb_Law_join_195, xb_Law_join_202, xb_Law_join_209, xb_Law_join_220, xb_Law_join_226, xb_Law_join_227, xb_Law_join_238, xb_Law_join_244, xb_Law_join_245, xb_Law_join_256, xb_Law_join_257, xb_Law_join_258, xb_Law_join_269, xb_Law_join_270, xb_Law_join_271, xb_Law_join_282, xb_Law_join_283, xb_Law_join_284, n1, n2, a1, a2]
    exact blk
  · have a1 : (nI (l_ch 9) = 38) = False := eq_false (by decide)
    have a2 : (nI (l_ch 9) = 124) = False := eq_false (by decide)
    have blk : xv_ev ro d xm_Law_join xb_Law_join_60 [some (.int (nI (l_ch 9))), some (.long x.toInt64), none, some (.long y.toInt64), none, none, none] [] σ = some (some (.long (e64 (l_op 9 x y))), σ) := by
      unfold xb_Law_join_60
      simp only [xr_lload1, xr_lload3, xr_l2i, xr_istore5, xr_istore6, xr_iload0, i1, i2]
      rw [xr_swl ro d xm_Law_join _ _ _ _ _ _ _ _ 215 37 62 _ (nI (l_ch 9)) 24 271 202 (by decide) (by decide) rfl rfl]
      have e : l_op 9 x y = some (if x = y then 1 else 0) := rfl
      rw [e]
      by_cases c : x = y
      · rw [if_pos c]
        simp only [xr_all, xf_all, if_true, if_false, true_or, or_true, eq_self, ite_not, Bool.false_eq_true, ite_self, and_self, true_and, and_true, false_and, and_false, not_true_eq_false, not_false_eq_true, xj_Law_join, xb_Law_join_0, xb_Law_join_12, xb_Law_join_28, xb_Law_join_29, xb_Law_join_30, xb_Law_join_46, xb_Law_join_47, xb_Law_join_48, xb_Law_join_188, xb_Law_join_195, xb_Law_join_202, xb_Law_join_209, xb_Law_join_220, xb_Law_join_226, xb_Law_join_227, xb_Law_join_238, xb_Law_join_244, xb_Law_join_245, xb_Law_join_256, xb_Law_join_257, xb_Law_join_258, xb_Law_join_269, xb_Law_join_270, xb_Law_join_271, xb_Law_join_282, xb_Law_join_283, xb_Law_join_284, c]
        rfl
      · rw [if_neg c]
        simp only [xr_all, xf_all, if_true, if_false, true_or, or_true, eq_self, ite_not, Bool.false_eq_true, ite_self, and_self, true_and, and_true, false_and, and_false, not_true_eq_false, not_false_eq_true, xj_Law_join, xb_Law_join_0, xb_Law_join_12, xb_Law_join_28, xb_Law_join_29, xb_Law_join_30, xb_Law_join_46, xb_Law_join_47, xb_Law_join_48, xb_Law_join_188, xb_Law_join_195, xb_Law_join_202, xb_Law_join_209, xb_Law_join_220, xb_Law_join_226, xb_Law_join_227, xb_Law_join_238, xb_Law_join_244, xb_Law_join_245, xb_Law_join_256, xb_Law_join_257, xb_Law_join_258, xb_Law_join_269, xb_Law_join_270, xb_Law_join_271, xb_Law_join_282, xb_Law_join_283, xb_Law_join_284, c]
        rfl
    simp only [xr_all, xf_all, if_true, if_false, true_or, or_true, eq_self, ite_not, Bool.false_eq_true, ite_self, and_self, true_and, and_true, false_and, and_false, not_true_eq_false, not_false_eq_true, xj_Law_join, xb_Law_join_0, xb_Law_join_12, xb_Law_join_28, xb_Law_join_29, xb_Law_join_30, xb_Law_join_46, xb_Law_join_47, xb_Law_join_48, xb_Law_join_188, xb_Law_join_195, xb_Law_join_202, xb_Law_join_209, xb_Law_join_220, xb_Law_join_226, xb_Law_join_227, xb_Law_join_238, xb_Law_join_244, xb_Law_join_245, xb_Law_join_256, xb_Law_join_257, xb_Law_join_258, xb_Law_join_269, xb_Law_join_270, xb_Law_join_271, xb_Law_join_282, xb_Law_join_283, xb_Law_join_284, n1, n2, a1, a2]
    exact blk
theorem xq_join_r (ro : xv_Ro) (d : Nat) (σ : xv_S) {w : Nat} (hw : 2 ≤ w ∧ w ≤ 9) (x : Int32) : xv_evm ro d 212 [.int (nI (l_ch w)), .long x.toInt64, .long 1099511627776] σ = some (some (.long 1099511627776), σ) := by
  have hw2 : w = 2 ∨ w = 3 ∨ w = 4 ∨ w = 5 ∨ w = 6 ∨ w = 7 ∨ w = 8 ∨ w = 9 := by omega
  have n1 := e64_n x
  have a : (nI (l_ch w) = 38) = False ∧ (nI (l_ch w) = 124) = False := by
    rcases hw2 with rfl | rfl | rfl | rfl | rfl | rfl | rfl | rfl <;> exact ⟨eq_false (by decide), eq_false (by decide)⟩
  obtain ⟨a1, a2⟩ := a
  rw [xe_Law_join]
  simp only [xr_all, xf_all, if_true, if_false, true_or, or_true, eq_self, ite_not, Bool.false_eq_true, ite_self, and_self, true_and, and_true, false_and, and_false, not_true_eq_false, not_false_eq_true, xj_Law_join, xb_Law_join_0, xb_Law_join_12, xb_Law_join_28, xb_Law_join_29, xb_Law_join_30, xb_Law_join_46, xb_Law_join_47, xb_Law_join_48, xb_Law_join_188, xb_Law_join_195, xb_Law_join_202, xb_Law_join_209, xb_Law_join_220, xb_Law_join_226, xb_Law_join_227, xb_Law_join_238, xb_Law_join_244, xb_Law_join_245, xb_Law_join_256, xb_Law_join_257, xb_Law_join_258, xb_Law_join_269, xb_Law_join_270, xb_Law_join_271, xb_Law_join_282, xb_Law_join_283, xb_Law_join_284, n1, e64_nn, a1, a2]
theorem xq_join_l (ro : xv_Ro) (d : Nat) (σ : xv_S) (x0 : Int32) (y : Int64) : xv_evm ro d 212 [.int x0, .long 1099511627776, .long y] σ = some (some (.long 1099511627776), σ) := by
  rw [xe_Law_join]
  simp only [xr_all, xf_all, if_true, if_false, true_or, or_true, eq_self, ite_not, Bool.false_eq_true, ite_self, and_self, true_and, and_true, false_and, and_false, not_true_eq_false, not_false_eq_true, xj_Law_join, xb_Law_join_0, xb_Law_join_12, xb_Law_join_28, xb_Law_join_29, xb_Law_join_30, xb_Law_join_46, xb_Law_join_47, xb_Law_join_48, xb_Law_join_188, xb_Law_join_195, xb_Law_join_202, xb_Law_join_209, xb_Law_join_220, xb_Law_join_226, xb_Law_join_227, xb_Law_join_238, xb_Law_join_244, xb_Law_join_245, xb_Law_join_256, xb_Law_join_257, xb_Law_join_258, xb_Law_join_269, xb_Law_join_270, xb_Law_join_271, xb_Law_join_282, xb_Law_join_283, xb_Law_join_284, e64_nn]
theorem xq_join_and (ro : xv_Ro) (d : Nat) (σ : xv_S) (x : Int32) (y : Int64) : xv_evm ro d 212 [.int 38, .long x.toInt64, .long y] σ = some (some (.long (if x = 0 then 0 else y)), σ) := by
  have n1 := e64_n x
  have n0 := e64_c x 0
  rw [show (0 : Int32).toInt64 = 0 from rfl] at n0
  rw [xe_Law_join]
  by_cases c : x = 0
  · have c2 := eq_true c
    simp only [xr_all, xf_all, if_true, if_false, true_or, or_true, eq_self, ite_not, Bool.false_eq_true, ite_self, and_self, true_and, and_true, false_and, and_false, not_true_eq_false, not_false_eq_true, xj_Law_join, xb_Law_join_0, xb_Law_join_12, xb_Law_join_28, xb_Law_join_29, xb_Law_join_30, xb_Law_join_46, xb_Law_join_47, xb_Law_join_48, xb_Law_join_188, xb_Law_join_195, xb_Law_join_202, xb_Law_join_209, xb_Law_join_220, xb_Law_join_226, xb_Law_join_227, xb_Law_join_238, xb_Law_join_244, xb_Law_join_245, xb_Law_join_256, xb_Law_join_257, xb_Law_join_258, xb_Law_join_269, xb_Law_join_270, xb_Law_join_271, xb_Law_join_282, xb_Law_join_283, xb_Law_join_284, n1, n0, c2]
  · simp only [xr_all, xf_all, if_true, if_false, true_or, or_true, eq_self, ite_not, Bool.false_eq_true, ite_self, and_self, true_and, and_true, false_and, and_false, not_true_eq_false, not_false_eq_true, xj_Law_join, xb_Law_join_0, xb_Law_join_12, xb_Law_join_28, xb_Law_join_29, xb_Law_join_30, xb_Law_join_46, xb_Law_join_47, xb_Law_join_48, xb_Law_join_188, xb_Law_join_195, xb_Law_join_202, xb_Law_join_209, xb_Law_join_220, xb_Law_join_226, xb_Law_join_227, xb_Law_join_238, xb_Law_join_244, xb_Law_join_245, xb_Law_join_256, xb_Law_join_257, xb_Law_join_258, xb_Law_join_269, xb_Law_join_270, xb_Law_join_271, xb_Law_join_282, xb_Law_join_283, xb_Law_join_284, n1, n0, c]
theorem xq_join_or (ro : xv_Ro) (d : Nat) (σ : xv_S) (x : Int32) (y : Int64) : xv_evm ro d 212 [.int 124, .long x.toInt64, .long y] σ = some (some (.long (if x = 1 then 1 else y)), σ) := by
  have n1 := e64_n x
  have n0 := e64_c x 1
  have a1 : ((124 : Int32) = 38) = False := eq_false (by decide)
  rw [show (1 : Int32).toInt64 = 1 from rfl] at n0
  rw [xe_Law_join]
  by_cases c : x = 1
  · have c2 := eq_true c
    simp only [xr_all, xf_all, if_true, if_false, true_or, or_true, eq_self, ite_not, Bool.false_eq_true, ite_self, and_self, true_and, and_true, false_and, and_false, not_true_eq_false, not_false_eq_true, xj_Law_join, xb_Law_join_0, xb_Law_join_12, xb_Law_join_28, xb_Law_join_29, xb_Law_join_30, xb_Law_join_46, xb_Law_join_47, xb_Law_join_48, xb_Law_join_188, xb_Law_join_195, xb_Law_join_202, xb_Law_join_209, xb_Law_join_220, xb_Law_join_226, xb_Law_join_227, xb_Law_join_238, xb_Law_join_244, xb_Law_join_245, xb_Law_join_256, xb_Law_join_257, xb_Law_join_258, xb_Law_join_269, xb_Law_join_270, xb_Law_join_271, xb_Law_join_282, xb_Law_join_283, xb_Law_join_284, n1, n0, a1, c2]
  · simp only [xr_all, xf_all, if_true, if_false, true_or, or_true, eq_self, ite_not, Bool.false_eq_true, ite_self, and_self, true_and, and_true, false_and, and_false, not_true_eq_false, not_false_eq_true, xj_Law_join, xb_Law_join_0, xb_Law_join_12, xb_Law_join_28, xb_Law_join_29, xb_Law_join_30, xb_Law_join_46, xb_Law_join_47, xb_Law_join_48, xb_Law_join_188, xb_Law_join_195, xb_Law_join_202, xb_Law_join_209, xb_Law_join_220, xb_Law_join_226, xb_Law_join_227, xb_Law_join_238, xb_Law_join_244, xb_Law_join_245, xb_Law_join_256, xb_Law_join_257, xb_Law_join_258, xb_Law_join_269, xb_Law_join_270, xb_Law_join_271, xb_Law_join_282, xb_Law_join_283, xb_Law_join_284, n1, n0, a1, c]
theorem xq_reckon (ro : xv_Ro) (d : Nat) (σ : xv_S) {w : Nat} (hw : 2 ≤ w ∧ w ≤ 9) (x y v : Int32) (h : l_op w x y = some v) : xv_evm ro d 78 [.int (nI w), .int x, .int y] σ = some (some (.int v), σ) := by
  have hw2 : w = 2 ∨ w = 3 ∨ w = 4 ∨ w = 5 ∨ w = 6 ∨ w = 7 ∨ w = 8 ∨ w = 9 := by omega
  rw [xe_Mo_reckon]
  unfold xb_Mo_reckon_0
  rcases hw2 with rfl | rfl | rfl | rfl | rfl | rfl | rfl | rfl
  · rw [xr_iload0, xr_swl ro d xm_Mo_reckon _ _ _ _ _ _ _ _ 85 2 8 _ (nI 2) 0 44 43 (by decide) (by decide) rfl rfl]
    cases h
    simp only [xr_all, xf_all, if_true, if_false, true_or, or_true, eq_self, ite_not, Bool.false_eq_true, ite_self, and_self, true_and, and_true, false_and, and_false, not_true_eq_false, not_false_eq_true, xj_Mo_reckon, xb_Mo_reckon_44, xb_Mo_reckon_48, xb_Mo_reckon_52, xb_Mo_reckon_56, xb_Mo_reckon_60, xb_Mo_reckon_64, xb_Mo_reckon_73, xb_Mo_reckon_74, xb_Mo_reckon_75, xb_Mo_reckon_84, xb_Mo_reckon_85, xb_Mo_reckon_86, xb_Mo_reckon_95, xb_Mo_reckon_96]
  · rw [xr_iload0, xr_swl ro d xm_Mo_reckon _ _ _ _ _ _ _ _ 85 2 8 _ (nI 3) 1 48 47 (by decide) (by decide) rfl rfl]
    cases h
    simp only [xr_all, xf_all, if_true, if_false, true_or, or_true, eq_self, ite_not, Bool.false_eq_true, ite_self, and_self, true_and, and_true, false_and, and_false, not_true_eq_false, not_false_eq_true, xj_Mo_reckon, xb_Mo_reckon_44, xb_Mo_reckon_48, xb_Mo_reckon_52, xb_Mo_reckon_56, xb_Mo_reckon_60, xb_Mo_reckon_64, xb_Mo_reckon_73, xb_Mo_reckon_74, xb_Mo_reckon_75, xb_Mo_reckon_84, xb_Mo_reckon_85, xb_Mo_reckon_86, xb_Mo_reckon_95, xb_Mo_reckon_96]
  · rw [xr_iload0, xr_swl ro d xm_Mo_reckon _ _ _ _ _ _ _ _ 85 2 8 _ (nI 4) 2 52 51 (by decide) (by decide) rfl rfl]
    cases h
    simp only [xr_all, xf_all, if_true, if_false, true_or, or_true, eq_self, ite_not, Bool.false_eq_true, ite_self, and_self, true_and, and_true, false_and, and_false, not_true_eq_false, not_false_eq_true, xj_Mo_reckon, xb_Mo_reckon_44, xb_Mo_reckon_48, xb_Mo_reckon_52, xb_Mo_reckon_56, xb_Mo_reckon_60, xb_Mo_reckon_64, xb_Mo_reckon_73, xb_Mo_reckon_74, xb_Mo_reckon_75, xb_Mo_reckon_84, xb_Mo_reckon_85, xb_Mo_reckon_86, xb_Mo_reckon_95, xb_Mo_reckon_96]
  · rw [xr_iload0, xr_swl ro d xm_Mo_reckon _ _ _ _ _ _ _ _ 85 2 8 _ (nI 5) 3 56 55 (by decide) (by decide) rfl rfl]
    have h : (if y = 0 then none else some (x / y)) = some v := h
    by_cases c : y = 0
    · rw [if_pos c] at h; cases h
    · rw [if_neg c] at h
      cases h
      simp only [xr_all, xf_all, if_true, if_false, true_or, or_true, eq_self, ite_not, Bool.false_eq_true, ite_self, and_self, true_and, and_true, false_and, and_false, not_true_eq_false, not_false_eq_true, xj_Mo_reckon, xb_Mo_reckon_44, xb_Mo_reckon_48, xb_Mo_reckon_52, xb_Mo_reckon_56, xb_Mo_reckon_60, xb_Mo_reckon_64, xb_Mo_reckon_73, xb_Mo_reckon_74, xb_Mo_reckon_75, xb_Mo_reckon_84, xb_Mo_reckon_85, xb_Mo_reckon_86, xb_Mo_reckon_95, xb_Mo_reckon_96, c]
  · rw [xr_iload0, xr_swl ro d xm_Mo_reckon _ _ _ _ _ _ _ _ 85 2 8 _ (nI 6) 4 60 59 (by decide) (by decide) rfl rfl]
    have h : (if y = 0 then none else some (x - x / y * y)) = some v := h
    by_cases c : y = 0
    · rw [if_pos c] at h; cases h
    · rw [if_neg c] at h
      cases h
      simp only [xr_all, xf_all, if_true, if_false, true_or, or_true, eq_self, ite_not, Bool.false_eq_true, ite_self, and_self, true_and, and_true, false_and, and_false, not_true_eq_false, not_false_eq_true, xj_Mo_reckon, xb_Mo_reckon_44, xb_Mo_reckon_48, xb_Mo_reckon_52, xb_Mo_reckon_56, xb_Mo_reckon_60, xb_Mo_reckon_64, xb_Mo_reckon_73, xb_Mo_reckon_74, xb_Mo_reckon_75, xb_Mo_reckon_84, xb_Mo_reckon_85, xb_Mo_reckon_86, xb_Mo_reckon_95, xb_Mo_reckon_96, c]
  · rw [xr_iload0, xr_swl ro d xm_Mo_reckon _ _ _ _ _ _ _ _ 85 2 8 _ (nI 7) 5 64 63 (by decide) (by decide) rfl rfl]
    have h : some (if x < y then (1 : Int32) else 0) = some v := h
    by_cases c : x < y
    · have c2 : ¬ y ≤ x := Int32.not_le.mpr c
      rw [if_pos c] at h
      cases h
      simp only [xr_all, xf_all, if_true, if_false, true_or, or_true, eq_self, ite_not, Bool.false_eq_true, ite_self, and_self, true_and, and_true, false_and, and_false, not_true_eq_false, not_false_eq_true, xj_Mo_reckon, xb_Mo_reckon_44, xb_Mo_reckon_48, xb_Mo_reckon_52, xb_Mo_reckon_56, xb_Mo_reckon_60, xb_Mo_reckon_64, xb_Mo_reckon_73, xb_Mo_reckon_74, xb_Mo_reckon_75, xb_Mo_reckon_84, xb_Mo_reckon_85, xb_Mo_reckon_86, xb_Mo_reckon_95, xb_Mo_reckon_96, c2]
    · have c2 : y ≤ x := Int32.not_lt.mp c
      rw [if_neg c] at h
      cases h
      simp only [xr_all, xf_all, if_true, if_false, true_or, or_true, eq_self, ite_not, Bool.false_eq_true, ite_self, and_self, true_and, and_true, false_and, and_false, not_true_eq_false, not_false_eq_true, xj_Mo_reckon, xb_Mo_reckon_44, xb_Mo_reckon_48, xb_Mo_reckon_52, xb_Mo_reckon_56, xb_Mo_reckon_60, xb_Mo_reckon_64, xb_Mo_reckon_73, xb_Mo_reckon_74, xb_Mo_reckon_75, xb_Mo_reckon_84, xb_Mo_reckon_85, xb_Mo_reckon_86, xb_Mo_reckon_95, xb_Mo_reckon_96, c2]
  · rw [xr_iload0, xr_swl ro d xm_Mo_reckon _ _ _ _ _ _ _ _ 85 2 8 _ (nI 8) 6 75 74 (by decide) (by decide) rfl rfl]
    have h : some (if y < x then (1 : Int32) else 0) = some v := h
    by_cases c : y < x
    · have c2 : ¬ x ≤ y := Int32.not_le.mpr c
      rw [if_pos c] at h
      cases h
      simp only [xr_all, xf_all, if_true, if_false, true_or, or_true, eq_self, ite_not, Bool.false_eq_true, ite_self, and_self, true_and, and_true, false_and, and_false, not_true_eq_false, not_false_eq_true, xj_Mo_reckon, xb_Mo_reckon_44, xb_Mo_reckon_48, xb_Mo_reckon_52, xb_Mo_reckon_56, xb_Mo_reckon_60, xb_Mo_reckon_64, xb_Mo_reckon_73, xb_Mo_reckon_74, xb_Mo_reckon_75, xb_Mo_reckon_84, xb_Mo_reckon_85, xb_Mo_reckon_86, xb_Mo_reckon_95, xb_Mo_reckon_96, c2]
    · have c2 : x ≤ y := Int32.not_lt.mp c
      rw [if_neg c] at h
      cases h
      simp only [xr_all, xf_all, if_true, if_false, true_or, or_true, eq_self, ite_not, Bool.false_eq_true, ite_self, and_self, true_and, and_true, false_and, and_false, not_true_eq_false, not_false_eq_true, xj_Mo_reckon, xb_Mo_reckon_44, xb_Mo_reckon_48, xb_Mo_reckon_52, xb_Mo_reckon_56, xb_Mo_reckon_60, xb_Mo_reckon_64, xb_Mo_reckon_73, xb_Mo_reckon_74, xb_Mo_reckon_75, xb_Mo_reckon_84, xb_Mo_reckon_85, xb_Mo_reckon_86, xb_Mo_reckon_95, xb_Mo_reckon_96, c2]
  · rw [xr_iload0, xr_swo ro d xm_Mo_reckon _ _ _ _ _ _ _ _ 85 2 8 _ (nI 9) 86 (by decide) rfl]
    have h : some (if x = y then (1 : Int32) else 0) = some v := h
    by_cases c : x = y
    · rw [if_pos c] at h
      cases h
      simp only [xr_all, xf_all, if_true, if_false, true_or, or_true, eq_self, ite_not, Bool.false_eq_true, ite_self, and_self, true_and, and_true, false_and, and_false, not_true_eq_false, not_false_eq_true, xj_Mo_reckon, xb_Mo_reckon_44, xb_Mo_reckon_48, xb_Mo_reckon_52, xb_Mo_reckon_56, xb_Mo_reckon_60, xb_Mo_reckon_64, xb_Mo_reckon_73, xb_Mo_reckon_74, xb_Mo_reckon_75, xb_Mo_reckon_84, xb_Mo_reckon_85, xb_Mo_reckon_86, xb_Mo_reckon_95, xb_Mo_reckon_96, c]
    · rw [if_neg c] at h
      cases h
      simp only [xr_all, xf_all, if_true, if_false, true_or, or_true, eq_self, ite_not, Bool.false_eq_true, ite_self, and_self, true_and, and_true, false_and, and_false, not_true_eq_false, not_false_eq_true, xj_Mo_reckon, xb_Mo_reckon_44, xb_Mo_reckon_48, xb_Mo_reckon_52, xb_Mo_reckon_56, xb_Mo_reckon_60, xb_Mo_reckon_64, xb_Mo_reckon_73, xb_Mo_reckon_74, xb_Mo_reckon_75, xb_Mo_reckon_84, xb_Mo_reckon_85, xb_Mo_reckon_86, xb_Mo_reckon_95, xb_Mo_reckon_96, c]
