/-! PAIR: askNext -/
def vw_D (X : Nat → Nat) (I : Nat → Nat → Int32) (k : Nat) : Nat := vw_d (2 * vg_S X (fun v => (vq_N (I 4 k)).testBit v) 32) (vg_S X (fun _ => true) 32)
theorem vw_D_lt {X : Nat → Nat} (hb : ∀ v, X v ≤ 100000000000000000) (I : Nat → Nat → Int32) (k : Nat) : vw_D X I k < 2 ^ 63 := by
  have b1 := vg_S_lt hb (fun v => (vq_N (I 4 k)).testBit v)
  have b2 := vg_S_lt hb (fun _ => true)
  unfold vw_D vw_d
  split <;> omega
theorem vl_askC (ro : xv_Ro) (d : Nat) (z : Nat × Nat) (I C : Nat → Nat → Int32) (J : Nat → Nat → Int64) {X : Nat → Nat} {q : Nat} (hX : ∀ v, v < 32 → J 24 v = lN (X v)) (hb : ∀ v, X v ≤ 100000000000000000) (hq : C 3 1 = nI q) (hq2 : q < 256) (h4 : C 4 = I 4) : xv_evm ro (d + 3) 35 [.ref 0] (z, xv_mk C J) = some (some (.int (vw_o1 (vw_o q (vw_D X I) 8))), (z, xv_mk C J)) := by
  rw [xe_Ct_mostOpen]
  simp only [xr_all, xf_all, if_true, if_false, true_or, or_true, eq_self, ite_not, Bool.false_eq_true, ite_self, and_self, true_and, and_true, false_and, and_false, not_true_eq_false, not_false_eq_true, xj_Ct_mostOpen, xb_Ct_mostOpen_0, xb_Ct_mostOpen_73, xb_Ct_mostOpen_79, xb_Ct_mostOpen_85]
  have hl := vz_down (fun k => ∀ u v, xv_ev ro (d + 3) xm_Ct_mostOpen xb_Ct_mostOpen_8 [some (.ref 0), some (.int (vw_o1 (vw_o q (vw_D X I) k))), some (.long (vw_o2 (vw_o q (vw_D X I) k))), none, some (.int (nI k)), u, v] [] (z, xv_mk C J) = some (some (.int (vw_o1 (vw_o q (vw_D X I) 8))), (z, xv_mk C J))) 8 (fun k hk ih u v => by
    have hs : vw_o q (vw_D X I) (k + 1) = if q.testBit k = true then (match vw_o q (vw_D X I) k with
      | none => some (k, vw_D X I k)
      | some (b, l) => if l ≤ vw_D X I k then some (b, l) else some (k, vw_D X I k)) else vw_o q (vw_D X I) k := rfl
    have h1 : (8 ≤ nI k) = False := by (simp (disch := omega) only [vz_all, if_true, if_false, true_or, or_true, eq_self, ite_not, Bool.false_eq_true, ite_self, and_self, true_and, and_true, false_and, and_false, not_true_eq_false, not_false_eq_true, false_or, or_false])
    have h2 := xq_Questions_isTold ro (d + 2) z C J hq hq2 hk
    have h3 := xq_Questions_holds ro (d + 2) z C J hk
    rw [h4] at h3
    have hw := xq_within ro (d + 2) z C J (I 4 k) hX
    have ha := xq_all ro (d + 1) z C J hX
    have b1 := vg_S_lt hb (fun v => (vq_N (I 4 k)).testBit v)
    have b2 := vg_S_lt hb (fun _ => true)
    have hab := vw_absC (a := 2 * vg_S X (fun v => (vq_N (I 4 k)).testBit v) 32) (b := vg_S X (fun _ => true) 32)
    have hlt := vw_o_lt q (vw_D X I) (vw_D_lt hb I) k
    have hDk := vw_D_lt hb I k
    have m2 : (2 : Int64) * lN (vg_S X (fun v => (vq_N (I 4 k)).testBit v) 32) = lN (2 * vg_S X (fun v => (vq_N (I 4 k)).testBit v) 32) := lN_mul 2 _
    rw [show vw_d (2 * vg_S X (fun v => (vq_N (I 4 k)).testBit v) 32) (vg_S X (fun _ => true) 32) = vw_D X I k from rfl] at hab
    rw [hs] at ih
    generalize vw_o q (vw_D X I) 8 = R at *
    generalize vw_D X I k = Dk at *
    generalize vg_S X (fun v => (vq_N (I 4 k)).testBit v) 32 = A at *
    generalize vg_S X (fun _ => true) 32 = B at *
    have hab := hab (by omega) (by omega)
    generalize vw_o q (vw_D X I) k = O at *
    conv => lhs; unfold xb_Ct_mostOpen_8
    by_cases c : q.testBit k = true
    · rw [vz_b1 c] at h2
      rw [if_pos c] at ih
      have z1 : ((1 : Int32) = 0) = False := eq_false (by decide)
      cases O with
      | none =>
        simp only [vw_o1, vw_o2] at ih
        simp only [xr_all, xf_all, if_true, if_false, true_or, or_true, eq_self, ite_not, Bool.false_eq_true, ite_self, and_self, true_and, and_true, false_and, and_false, not_true_eq_false, not_false_eq_true, xj_Ct_mostOpen, xb_Ct_mostOpen_0, xb_Ct_mostOpen_73, xb_Ct_mostOpen_79, xb_Ct_mostOpen_85, h1, h3, hw, m2, ha, hab, h2, z1, vw_o1, vw_o2, nI_1, ih]
      | some bl =>
        obtain ⟨b, l⟩ := bl
        obtain ⟨o1, o2⟩ := hlt b l rfl
        have m2' : (nI b = -2) = False := vz_m2 (by omega)
        have g := vl_cGe hDk o2
        simp only [vw_o1, vw_o2] at ih
        by_cases c2 : l ≤ Dk
        · simp only [c2, if_true] at ih
          simp only [xr_all, xf_all, if_true, if_false, true_or, or_true, eq_self, ite_not, Bool.false_eq_true, ite_self, and_self, true_and, and_true, false_and, and_false, not_true_eq_false, not_false_eq_true, xj_Ct_mostOpen, xb_Ct_mostOpen_0, xb_Ct_mostOpen_73, xb_Ct_mostOpen_79, xb_Ct_mostOpen_85, h1, h3, hw, m2, ha, hab, h2, z1, vw_o1, vw_o2, m2', g, c2, nI_1, ih]
        · simp only [c2, if_false] at ih
          simp only [xr_all, xf_all, if_true, if_false, true_or, or_true, eq_self, ite_not, Bool.false_eq_true, ite_self, and_self, true_and, and_true, false_and, and_false, not_true_eq_false, not_false_eq_true, xj_Ct_mostOpen, xb_Ct_mostOpen_0, xb_Ct_mostOpen_73, xb_Ct_mostOpen_79, xb_Ct_mostOpen_85, h1, h3, hw, m2, ha, hab, h2, z1, vw_o1, vw_o2, m2', g, c2, nI_1, ih]
    · rw [vz_b0 c] at h2
      rw [if_neg c] at ih
      simp only [xr_all, xf_all, if_true, if_false, true_or, or_true, eq_self, ite_not, Bool.false_eq_true, ite_self, and_self, true_and, and_true, false_and, and_false, not_true_eq_false, not_false_eq_true, xj_Ct_mostOpen, xb_Ct_mostOpen_0, xb_Ct_mostOpen_73, xb_Ct_mostOpen_79, xb_Ct_mostOpen_85, h1, h3, hw, m2, ha, hab, h2, nI_1, ih]) (fun u v => by
    generalize vw_o q (vw_D X I) 8 = R
    have h1 : (8 ≤ nI 8) = True := eq_true (by decide)
    conv => lhs; unfold xb_Ct_mostOpen_8
    cases R <;> simp only [xr_all, xf_all, if_true, if_false, true_or, or_true, eq_self, ite_not, Bool.false_eq_true, ite_self, and_self, true_and, and_true, false_and, and_false, not_true_eq_false, not_false_eq_true, xj_Ct_mostOpen, xb_Ct_mostOpen_0, xb_Ct_mostOpen_73, xb_Ct_mostOpen_79, xb_Ct_mostOpen_85, h1])
  exact hl none none
theorem vl_askM (ro : xv_Ro) (d : Nat) (z : Nat × Nat) (I M : Nat → Nat → Int32) (J : Nat → Nat → Int64) (x1 : Int32) {X : Nat → Nat} {q : Nat} (hX : ∀ v, v < 32 → J 194 v = lN (X v)) (hb : ∀ v, X v ≤ 100000000000000000) (hq : M 167 5 = nI q) (hq2 : q < 256) (h4 : ∀ k, k < 8 → J 172 k = vq_L (I 4 k)) (hB : vg_S X (fun _ => true) 32 ≠ 0) : xv_ev ro (d + 3) xm_Mo_askNext xb_Mo_askNext_26 [some (.ref 167), some (.int x1), some (.long (lN (vg_S X (fun _ => true) 32))), none, some (.int (-2)), some (.long 0), none, some (.int 0), none, none] [] (z, xv_mk M J) = some (some (.int (vw_o1 (vw_o q (vw_D X I) 8))), (z, xv_mk M J)) := by
  have hl := vz_down (fun k => ∀ u, xv_ev ro (d + 3) xm_Mo_askNext xb_Mo_askNext_26 [some (.ref 167), some (.int x1), some (.long (lN (vg_S X (fun _ => true) 32))), none, some (.int (vw_o1 (vw_o q (vw_D X I) k))), some (.long (vw_o2 (vw_o q (vw_D X I) k))), none, some (.int (nI k)), u, none] [] (z, xv_mk M J) = some (some (.int (vw_o1 (vw_o q (vw_D X I) 8))), (z, xv_mk M J))) 8 (fun k hk ih u => by
    have hs : vw_o q (vw_D X I) (k + 1) = if q.testBit k = true then (match vw_o q (vw_D X I) k with
      | none => some (k, vw_D X I k)
      | some (b, l) => if l ≤ vw_D X I k then some (b, l) else some (k, vw_D X I k)) else vw_o q (vw_D X I) k := rfl
    have h1 : (8 ≤ nI k) = False := by (simp (disch := omega) only [vz_all, if_true, if_false, true_or, or_true, eq_self, ite_not, Bool.false_eq_true, ite_self, and_self, true_and, and_true, false_and, and_false, not_true_eq_false, not_false_eq_true, false_or, or_false])
    have h2 := xq_Mo_isQuestion ro (d + 1) z M J hq hq2 hk
    have h3 : xv_inB (nI k) 8 = true := by (simp (disch := omega) only [vz_all, if_true, if_false, true_or, or_true, eq_self, ite_not, Bool.false_eq_true, ite_self, and_self, true_and, and_true, false_and, and_false, not_true_eq_false, not_false_eq_true, false_or, or_false])
    have hw := xq_weightIn ro (d + 1) z M J (I 4 k) hX
    have b1 := vg_S_lt hb (fun v => (vq_N (I 4 k)).testBit v)
    have b2 := vg_S_lt hb (fun _ => true)
    have hab := vw_absM (a := 2 * vg_S X (fun v => (vq_N (I 4 k)).testBit v) 32) (b := vg_S X (fun _ => true) 32)
    have hlt := vw_o_lt q (vw_D X I) (vw_D_lt hb I) k
    have hDk := vw_D_lt hb I k
    have m2 : (2 : Int64) * lN (vg_S X (fun v => (vq_N (I 4 k)).testBit v) 32) = lN (2 * vg_S X (fun v => (vq_N (I 4 k)).testBit v) 32) := lN_mul 2 _
    have hc0 := vl_cLe (a := vg_S X (fun _ => true) 32) (b := 0) (by omega) (by omega)
    rw [show lN 0 = (0 : Int64) from rfl] at hc0
    have hc1 := hc0.trans (eq_false (show ¬ vg_S X (fun _ => true) 32 ≤ 0 by omega))
    rw [show vw_d (2 * vg_S X (fun v => (vq_N (I 4 k)).testBit v) 32) (vg_S X (fun _ => true) 32) = vw_D X I k from rfl] at hab
    rw [hs] at ih
    generalize vw_o q (vw_D X I) 8 = R at *
    generalize vw_D X I k = Dk at *
    generalize vg_S X (fun v => (vq_N (I 4 k)).testBit v) 32 = A at *
    generalize vg_S X (fun _ => true) 32 = B at *
    have hab := hab (by omega) (by omega)
    generalize vw_o q (vw_D X I) k = O at *
    have e4 := h4 k hk
    have ck := nI_clamp (show k < 2 ^ 31 by omega)
    conv => lhs; unfold xb_Mo_askNext_26
    by_cases c : q.testBit k = true
    · rw [vz_b1 c] at h2
      rw [if_pos c] at ih
      have z1 : ((1 : Int32) = 0) = False := eq_false (by decide)
      cases O with
      | none =>
        simp only [vw_o1, vw_o2] at ih
        rcases hab with ⟨-, a1, a2⟩ | ⟨a1, a2⟩
        · simp only [xr_all, xf_all, if_true, if_false, true_or, or_true, eq_self, ite_not, Bool.false_eq_true, ite_self, and_self, true_and, and_true, false_and, and_false, not_true_eq_false, not_false_eq_true, xj_Mo_askNext, xb_Mo_askNext_0, xb_Mo_askNext_10, xb_Mo_askNext_51, xb_Mo_askNext_82, xb_Mo_askNext_100, xb_Mo_askNext_108, xb_Mo_askNext_114, h1, hc1, h2, z1, h3, ck, e4, hw, m2, a1, vw_o1, vw_o2, nI_1]
          rw [a2]
          exact ih _
        · simp only [xr_all, xf_all, if_true, if_false, true_or, or_true, eq_self, ite_not, Bool.false_eq_true, ite_self, and_self, true_and, and_true, false_and, and_false, not_true_eq_false, not_false_eq_true, xj_Mo_askNext, xb_Mo_askNext_0, xb_Mo_askNext_10, xb_Mo_askNext_51, xb_Mo_askNext_82, xb_Mo_askNext_100, xb_Mo_askNext_108, xb_Mo_askNext_114, h1, hc1, h2, z1, h3, ck, e4, hw, m2, a1, a2, vw_o1, vw_o2, nI_1, ih]
      | some bl =>
        obtain ⟨b, l⟩ := bl
        obtain ⟨o1, o2⟩ := hlt b l rfl
        have m2' : (nI b = -2) = False := vz_m2 (by omega)
        have g : (lg_cmp (lN Dk) (lN l) < 0) = (Dk < l) := by
          have := vl_cGe hDk o2
          apply propext
          rw [← Int32.not_le, this]
          omega
        simp only [vw_o1, vw_o2] at ih
        by_cases c2 : l ≤ Dk
        · simp only [c2, if_true] at ih
          have g2 := g.trans (eq_false (show ¬ Dk < l by omega))
          rcases hab with ⟨-, a1, a2⟩ | ⟨a1, a2⟩
          · rw [a2] at a1
            simp only [xr_all, xf_all, if_true, if_false, true_or, or_true, eq_self, ite_not, Bool.false_eq_true, ite_self, and_self, true_and, and_true, false_and, and_false, not_true_eq_false, not_false_eq_true, xj_Mo_askNext, xb_Mo_askNext_0, xb_Mo_askNext_10, xb_Mo_askNext_51, xb_Mo_askNext_82, xb_Mo_askNext_100, xb_Mo_askNext_108, xb_Mo_askNext_114, h1, hc1, h2, z1, h3, ck, e4, hw, m2, a2, a1, vw_o1, vw_o2, m2', g2, nI_1, ih]
          · simp only [xr_all, xf_all, if_true, if_false, true_or, or_true, eq_self, ite_not, Bool.false_eq_true, ite_self, and_self, true_and, and_true, false_and, and_false, not_true_eq_false, not_false_eq_true, xj_Mo_askNext, xb_Mo_askNext_0, xb_Mo_askNext_10, xb_Mo_askNext_51, xb_Mo_askNext_82, xb_Mo_askNext_100, xb_Mo_askNext_108, xb_Mo_askNext_114, h1, hc1, h2, z1, h3, ck, e4, hw, m2, a1, a2, vw_o1, vw_o2, m2', g2, nI_1, ih]
        · simp only [c2, if_false] at ih
          have g2 := g.trans (eq_true (show Dk < l by omega))
          rcases hab with ⟨-, a1, a2⟩ | ⟨a1, a2⟩
          · rw [a2] at a1
            simp only [xr_all, xf_all, if_true, if_false, true_or, or_true, eq_self, ite_not, Bool.false_eq_true, ite_self, and_self, true_and, and_true, false_and, and_false, not_true_eq_false, not_false_eq_true, xj_Mo_askNext, xb_Mo_askNext_0, xb_Mo_askNext_10, xb_Mo_askNext_51, xb_Mo_askNext_82, xb_Mo_askNext_100, xb_Mo_askNext_108, xb_Mo_askNext_114, h1, hc1, h2, z1, h3, ck, e4, hw, m2, a2, a1, vw_o1, vw_o2, m2', g2, nI_1, ih]
          · simp only [xr_all, xf_all, if_true, if_false, true_or, or_true, eq_self, ite_not, Bool.false_eq_true, ite_self, and_self, true_and, and_true, false_and, and_false, not_true_eq_false, not_false_eq_true, xj_Mo_askNext, xb_Mo_askNext_0, xb_Mo_askNext_10, xb_Mo_askNext_51, xb_Mo_askNext_82, xb_Mo_askNext_100, xb_Mo_askNext_108, xb_Mo_askNext_114, h1, hc1, h2, z1, h3, ck, e4, hw, m2, a1, a2, vw_o1, vw_o2, m2', g2, nI_1, ih]
    · rw [vz_b0 c] at h2
      rw [if_neg c] at ih
      simp only [xr_all, xf_all, if_true, if_false, true_or, or_true, eq_self, ite_not, Bool.false_eq_true, ite_self, and_self, true_and, and_true, false_and, and_false, not_true_eq_false, not_false_eq_true, xj_Mo_askNext, xb_Mo_askNext_0, xb_Mo_askNext_10, xb_Mo_askNext_51, xb_Mo_askNext_82, xb_Mo_askNext_100, xb_Mo_askNext_108, xb_Mo_askNext_114, h1, hc1, h2, nI_1, ih]) (fun u => by
    generalize vw_o q (vw_D X I) 8 = R
    have h1 : (8 ≤ nI 8) = True := eq_true (by decide)
    conv => lhs; unfold xb_Mo_askNext_26
    cases R <;> simp only [xr_all, xf_all, if_true, if_false, true_or, or_true, eq_self, ite_not, Bool.false_eq_true, ite_self, and_self, true_and, and_true, false_and, and_false, not_true_eq_false, not_false_eq_true, xj_Mo_askNext, xb_Mo_askNext_0, xb_Mo_askNext_10, xb_Mo_askNext_51, xb_Mo_askNext_82, xb_Mo_askNext_100, xb_Mo_askNext_108, xb_Mo_askNext_114, h1])
  exact hl none
theorem xp_16 (VL : xv_LP) (hV : vi_Lc VL) (hA : vl_hA VL) : xl_P16 (vi_all VL) := by
  intro x1 ro I J hro hI
  obtain ⟨n, n1, n2, n3, n4, n5, q4, q, q1, q2, q3⟩ := vh_A hI
  have z1 : ((1 : Int32) = 0) = False := eq_false (by decide)
  rcases vh_can n n1 x1 with ⟨s, hs, hs2, h6, rfl, c1, c2⟩ | ⟨c1, c2⟩
  rotate_left
  · have c1 := c1 ro 196 xv_SZ I J n2
    have c2 := c2 ro 195 xv_SZ I J n3
    refine ⟨-1, I, J, I, J, ?_, ?_, hI⟩
    · rw [xe_Ct_askNext]
      simp only [xr_all, xf_all, if_true, if_false, true_or, or_true, eq_self, ite_not, Bool.false_eq_true, ite_self, and_self, true_and, and_true, false_and, and_false, not_true_eq_false, not_false_eq_true, xj_Ct_askNext, xb_Ct_askNext_0, xb_Ct_askNext_10, xb_Ct_askNext_32, xb_Ct_askNext_36, c1]
    · rw [xe_Mo_askNext]
      simp only [xr_all, xf_all, if_true, if_false, true_or, or_true, eq_self, ite_not, Bool.false_eq_true, ite_self, and_self, true_and, and_true, false_and, and_false, not_true_eq_false, not_false_eq_true, xj_Mo_askNext, xb_Mo_askNext_0, xb_Mo_askNext_10, xb_Mo_askNext_51, xb_Mo_askNext_82, xb_Mo_askNext_100, xb_Mo_askNext_108, xb_Mo_askNext_114, c2]
  · have c1 := c1 ro 196 xv_SZ I J n2
    have c2 := fun (M : Nat → Nat → Int32) (J : Nat → Nat → Int64) (h : M 168 301 = nI n) => c2 ro 195 xv_SZ M J h
    obtain ⟨X, hX, hpk⟩ := vh_wpack hA hI n2 n1 n4 hs h6
    obtain ⟨C1, J1, b1, b2, b3, b4, b5⟩ := hpk ro xv_SZ
    obtain ⟨M1, b6, b7⟩ := b5 193
    have hbd := vg_S_lt hX (fun _ => true)
    have c3 := c2 C1 J1 (by rw [b1 168 (by omega)]; exact n3)
    have hal := xq_all ro 197 xv_SZ C1 J1 b3
    have hmo := vl_askC ro 195 xv_SZ I C1 J1 (q := q) b3 hX (by rw [b1 3 (by omega)]; exact q2) q1 (b1 4 (by omega))
    have hmm := vl_askM ro 196 xv_SZ I M1 (vg_J J1 194 X 32) (nI s) (X := X) (q := q) (fun v hv => vg_Ji _ _ _ hv) hX (by rw [b6 167 (by omega) (by omega), b1 167 (by omega)]; exact q3) q1 (fun k hk => by rw [vg_Jo _ _ _ (by omega), b2 172 (by omega) (by omega)]; exact q4 k hk)
    have g := vl_c0 (show vg_S X (fun _ => true) 32 < 2 ^ 63 by omega)
    have gl := vl_cLe (a := vg_S X (fun _ => true) 32) (b := 0) (by omega) (by omega)
    rw [show lN 0 = (0 : Int64) from rfl] at gl
    generalize vw_o q (vw_D X I) 8 = R at *
    generalize vg_S X (fun _ => true) 32 = B at *
    have z0 : (lg_cmp (lN 0) 0 = 0) = True := eq_true (by decide)
    have h0 : (8 ≤ (0 : Int32)) = False := eq_false (by decide)
    by_cases cB : B = 0
    · subst cB
      have z2 : (lg_cmp (lN 0) 0 ≤ 0) = True := eq_true (by decide)
      refine ⟨-2, C1, J1, M1, vg_J J1 194 X 32, ?_, ?_, vh_back hV hI b1 b2 b6⟩
      · rw [xe_Ct_askNext]
        simp only [xr_all, xf_all, if_true, if_false, true_or, or_true, eq_self, ite_not, Bool.false_eq_true, ite_self, and_self, true_and, and_true, false_and, and_false, not_true_eq_false, not_false_eq_true, xj_Ct_askNext, xb_Ct_askNext_0, xb_Ct_askNext_10, xb_Ct_askNext_32, xb_Ct_askNext_36, z1, c1, b4, hal, z0]
      · rw [xe_Mo_askNext]
        simp only [xr_all, xf_all, if_true, if_false, true_or, or_true, eq_self, ite_not, Bool.false_eq_true, ite_self, and_self, true_and, and_true, false_and, and_false, not_true_eq_false, not_false_eq_true, xj_Mo_askNext, xb_Mo_askNext_0, xb_Mo_askNext_10, xb_Mo_askNext_26, xb_Mo_askNext_51, xb_Mo_askNext_82, xb_Mo_askNext_100, xb_Mo_askNext_108, xb_Mo_askNext_114, z1, c3, b7, z2, h0]
    · refine ⟨vw_o1 R, C1, J1, M1, vg_J J1 194 X 32, ?_, ?_, vh_back hV hI b1 b2 b6⟩
      · rw [xe_Ct_askNext]
        simp only [xr_all, xf_all, if_true, if_false, true_or, or_true, eq_self, ite_not, Bool.false_eq_true, ite_self, and_self, true_and, and_true, false_and, and_false, not_true_eq_false, not_false_eq_true, xj_Ct_askNext, xb_Ct_askNext_0, xb_Ct_askNext_10, xb_Ct_askNext_32, xb_Ct_askNext_36, z1, c1, b4, hal, g, cB, hmo]
      · rw [xe_Mo_askNext]
        simp only [xr_all, xf_all, if_true, if_false, true_or, or_true, eq_self, ite_not, Bool.false_eq_true, ite_self, and_self, true_and, and_true, false_and, and_false, not_true_eq_false, not_false_eq_true, xj_Mo_askNext, xb_Mo_askNext_0, xb_Mo_askNext_10, xb_Mo_askNext_51, xb_Mo_askNext_82, xb_Mo_askNext_100, xb_Mo_askNext_108, xb_Mo_askNext_114, z1, c3, b7]
        exact hmm cB
