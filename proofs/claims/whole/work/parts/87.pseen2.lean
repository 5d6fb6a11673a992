/-! PAIR: seen (the pair) -/
theorem vs_r1 (j : Nat) : vs_r 1 j = (j == 1) := by
  have e8 : (xv_oc 1 == some 8) = false := rfl
  have e9 : (xv_oc 1 == some 9) = false := rfl
  simp [vs_r, e8, e9]
theorem xq_mostTrue (ro : xv_Ro) (d : Nat) (z : Nat × Nat) (I : Nat → Nat → Int32) (J : Nat → Nat → Int64) {b : Nat → Nat} {n sp : Nat} (hn : I 1 2 = nI (2 * n)) (hn1 : 1 ≤ n) (hn2 : n ≤ 12) (hb : ∀ j, j < 2 * n → b j < 256 ∧ I 2 j = nI (b j)) (hsp : sp ≤ 99) : xv_evm ro (d + 2) 36 [.ref 0, .int (nI n), .int (nI sp)] (z, xv_mk I J) = some (some (.int (nI (vy_G (fun s => vs_fr (vy_p (vy_X b sp n) s) n 0) (2 ^ n - 1)))), (z, xv_mk (vy_r I (vy_X b sp n) n) J)) := by
  have hpn : 2 ^ n ≤ 4096 := Nat.pow_le_pow_right (n := 2) (by omega) hn2
  have hp1 : 0 < 2 ^ n := Nat.two_pow_pos n
  have inner : ∀ i, i < n → xv_ev ro (d + 2) xm_Ct_mostTrue xb_Ct_mostTrue_26 [some (.ref 0), some (.int (nI n)), some (.int (nI sp)), some (.int (nI i)), some (.int 0)] [] (z, xv_mk (xv_u2 (vy_r I (vy_X b sp n) i) 166 i 0) J) = xv_ev ro (d + 2) xm_Ct_mostTrue xb_Ct_mostTrue_2 [some (.ref 0), some (.int (nI n)), some (.int (nI sp)), some (.int (nI (i + 1))), some (.int (nI n))] [] (z, xv_mk (vy_r I (vy_X b sp n) (i + 1)) J) := by
    intro i hi
    have hl := vz_iter (fun j => xv_ev ro (d + 2) xm_Ct_mostTrue xb_Ct_mostTrue_26 [some (.ref 0), some (.int (nI n)), some (.int (nI sp)), some (.int (nI i)), some (.int (nI j))] [] (z, xv_mk (xv_u2 (vy_r I (vy_X b sp n) i) 166 i (nI (vy_m (fun j => vy_ok b sp i j) j))) J)) n (fun j hj => by
      have hs : vy_m (fun j => vy_ok b sp i j) (j + 1) = if vy_ok b sp i j = true then vy_m (fun j => vy_ok b sp i j) j + 2 ^ j else vy_m (fun j => vy_ok b sp i j) j := rfl
      have g1 : (nI n ≤ nI j) = False := by (simp (disch := omega) only [vz_all, if_true, if_false, true_or, or_true, eq_self, ite_not, Bool.false_eq_true, ite_self, and_self, true_and, and_true, false_and, and_false, not_true_eq_false, not_false_eq_true, false_or, or_false])
      have g2 : xv_inB (nI i) 12 = true := by (simp (disch := omega) only [vz_all, if_true, if_false, true_or, or_true, eq_self, ite_not, Bool.false_eq_true, ite_self, and_self, true_and, and_true, false_and, and_false, not_true_eq_false, not_false_eq_true, false_or, or_false])
      have hcb := xq_canBoth ro d z (xv_u2 (vy_r I (vy_X b sp n) i) 166 i (nI (vy_m (fun j => vy_ok b sp i j) j))) J (b := b) (n := n) (sp := sp) (i := i) (j := j) (by rw [xu_ne (by omega), vy_ro _ _ _ (by omega)]; exact hn) hn2 (fun q hq => by rw [xu_ne (by omega), vy_ro _ _ _ (by omega)]; exact hb q hq) hi hj hsp
      have hset := vb_setI (vy_m_lt (fun j => vy_ok b sp i j) j) (show j ≤ 20 by omega)
      have z1 : ((1 : Int32) = 0) = False := eq_false (by decide)
      rw [hs]
      generalize vy_m (fun j => vy_ok b sp i j) j = m at *
      conv => lhs; unfold xb_Ct_mostTrue_26
      by_cases c : vy_ok b sp i j = true
      · rw [vz_b1 c] at hcb
        simp only [xr_all, xf_all, if_true, if_false, true_or, or_true, eq_self, ite_not, Bool.false_eq_true, ite_self, and_self, true_and, and_true, false_and, and_false, not_true_eq_false, not_false_eq_true, xj_Ct_mostTrue, xb_Ct_mostTrue_0, xb_Ct_mostTrue_56, xb_Ct_mostTrue_62, xb_Ct_mostTrue_68, xb_Ct_mostTrue_106, xb_Ct_mostTrue_112, g1, g2, hcb, z1, c, nI_clamp (show i < 2 ^ 31 by omega), xu_eq, hset, xu_xu, nI_1]
      · rw [vz_b0 c] at hcb
        simp only [xr_all, xf_all, if_true, if_false, true_or, or_true, eq_self, ite_not, Bool.false_eq_true, ite_self, and_self, true_and, and_true, false_and, and_false, not_true_eq_false, not_false_eq_true, xj_Ct_mostTrue, xb_Ct_mostTrue_0, xb_Ct_mostTrue_56, xb_Ct_mostTrue_62, xb_Ct_mostTrue_68, xb_Ct_mostTrue_106, xb_Ct_mostTrue_112, g1, hcb, c, nI_1])
    have e0 : vy_m (fun j => vy_ok b sp i j) 0 = 0 := rfl
    rw [e0, show nI 0 = (0 : Int32) from rfl] at hl
    rw [hl]
    have e1 := vy_rs I (vy_X b sp n) i
    rw [show vy_m (fun j => vy_ok b sp i j) n = vy_X b sp n i from rfl, e1]
    have g1 : (nI n ≤ nI n) = True := by (simp (disch := omega) only [vz_all, if_true, if_false, true_or, or_true, eq_self, ite_not, Bool.false_eq_true, ite_self, and_self, true_and, and_true, false_and, and_false, not_true_eq_false, not_false_eq_true, false_or, or_false])
    conv => lhs; unfold xb_Ct_mostTrue_26
    simp only [xr_all, xf_all, if_true, if_false, true_or, or_true, eq_self, ite_not, Bool.false_eq_true, ite_self, and_self, true_and, and_true, false_and, and_false, not_true_eq_false, not_false_eq_true, xj_Ct_mostTrue, xb_Ct_mostTrue_0, xb_Ct_mostTrue_56, xb_Ct_mostTrue_62, xb_Ct_mostTrue_68, xb_Ct_mostTrue_106, xb_Ct_mostTrue_112, g1, nI_1]
  have outer := vz_down (fun i => ∀ u R, (∀ u, xv_ev ro (d + 2) xm_Ct_mostTrue xb_Ct_mostTrue_2 [some (.ref 0), some (.int (nI n)), some (.int (nI sp)), some (.int (nI n)), u] [] (z, xv_mk (vy_r I (vy_X b sp n) n) J) = R) → xv_ev ro (d + 2) xm_Ct_mostTrue xb_Ct_mostTrue_2 [some (.ref 0), some (.int (nI n)), some (.int (nI sp)), some (.int (nI i)), u] [] (z, xv_mk (vy_r I (vy_X b sp n) i) J) = R) n (fun i hi ih u R hR => by
    have g1 : (nI n ≤ nI i) = False := by (simp (disch := omega) only [vz_all, if_true, if_false, true_or, or_true, eq_self, ite_not, Bool.false_eq_true, ite_self, and_self, true_and, and_true, false_and, and_false, not_true_eq_false, not_false_eq_true, false_or, or_false])
    have g2 : (Int32.ofNat 12 ≤ nI i) = False := by rw [show Int32.ofNat 12 = nI 12 from rfl]; (simp (disch := omega) only [vz_all, if_true, if_false, true_or, or_true, eq_self, ite_not, Bool.false_eq_true, ite_self, and_self, true_and, and_true, false_and, and_false, not_true_eq_false, not_false_eq_true, false_or, or_false])
    have g3 : xv_inB (nI i) 12 = true := by (simp (disch := omega) only [vz_all, if_true, if_false, true_or, or_true, eq_self, ite_not, Bool.false_eq_true, ite_self, and_self, true_and, and_true, false_and, and_false, not_true_eq_false, not_false_eq_true, false_or, or_false])
    have h1 := inner i hi
    have h2 := ih (some (.int (nI n))) R hR
    rw [h2] at h1
    conv => lhs; unfold xb_Ct_mostTrue_2
    simp only [xr_all, xf_all, if_true, if_false, true_or, or_true, eq_self, ite_not, Bool.false_eq_true, ite_self, and_self, true_and, and_true, false_and, and_false, not_true_eq_false, not_false_eq_true, xj_Ct_mostTrue, xb_Ct_mostTrue_0, xb_Ct_mostTrue_56, xb_Ct_mostTrue_62, xb_Ct_mostTrue_68, xb_Ct_mostTrue_106, xb_Ct_mostTrue_112, g1, g2, g3, nI_clamp (show i < 2 ^ 31 by omega), h1]) (fun u R hR => hR u)
  have sets := vz_iter (fun s => xv_ev ro (d + 2) xm_Ct_mostTrue xb_Ct_mostTrue_73 [some (.ref 0), some (.int (nI n)), some (.int (nI sp)), some (.int (nI (vy_G (fun s => vs_fr (vy_p (vy_X b sp n) s) n 0) s))), some (.int (nI (s + 1)))] [] (z, xv_mk (vy_r I (vy_X b sp n) n) J)) (2 ^ n - 1) (fun s hs => by
    have hG := vy_Gs (fun s => vs_fr (vy_p (vy_X b sp n) s) n 0) s
    have hle := vy_G_le (fun s => vs_fr (vy_p (vy_X b sp n) s) n 0) s
    have hto := xq_isTogether ro (d + 1) z I J (X := vy_X b sp n) (n := n) (s := s + 1) hn2 (by omega)
    rw [hG]
    generalize vy_G (fun s => vs_fr (vy_p (vy_X b sp n) s) n 0) s = G at *
    have g1 : (nI (2 ^ n) ≤ nI (s + 1)) = False := by (simp (disch := omega) only [vz_all, if_true, if_false, true_or, or_true, eq_self, ite_not, Bool.false_eq_true, ite_self, and_self, true_and, and_true, false_and, and_false, not_true_eq_false, not_false_eq_true, false_or, or_false])
    have g2 := vh_sh n (by omega)
    have e1 := vq_NnI (show s + 1 < 2 ^ 32 by omega)
    have e2 := vq_NnI (show G < 2 ^ 32 by omega)
    have l1 := vb_ct_le (s + 1) 32
    have l2 := vb_ct_le G 32
    have z1 : ((1 : Int32) = 0) = False := eq_false (by decide)
    conv => lhs; unfold xb_Ct_mostTrue_73
    by_cases c : vb_ct (s + 1) 32 ≤ vb_ct G 32
    · have c1 : (nI (vb_ct (s + 1) 32) ≤ nI (vb_ct G 32)) = True := by (simp (disch := omega) only [vz_all, if_true, if_false, true_or, or_true, eq_self, ite_not, Bool.false_eq_true, ite_self, and_self, true_and, and_true, false_and, and_false, not_true_eq_false, not_false_eq_true, false_or, or_false])
      simp only [xr_all, xf_all, if_true, if_false, true_or, or_true, eq_self, ite_not, Bool.false_eq_true, ite_self, and_self, true_and, and_true, false_and, and_false, not_true_eq_false, not_false_eq_true, xj_Ct_mostTrue, xb_Ct_mostTrue_0, xb_Ct_mostTrue_56, xb_Ct_mostTrue_62, xb_Ct_mostTrue_68, xb_Ct_mostTrue_106, xb_Ct_mostTrue_112, g2, g1, xq_bitCount, e1, e2, c1, c, nI_1]
    · have c1 : (nI (vb_ct (s + 1) 32) ≤ nI (vb_ct G 32)) = False := by (simp (disch := omega) only [vz_all, if_true, if_false, true_or, or_true, eq_self, ite_not, Bool.false_eq_true, ite_self, and_self, true_and, and_true, false_and, and_false, not_true_eq_false, not_false_eq_true, false_or, or_false])
      by_cases k : vs_fr (vy_p (vy_X b sp n) (s + 1)) n 0 = true
      · rw [if_pos k] at hto
        simp only [xr_all, xf_all, if_true, if_false, true_or, or_true, eq_self, ite_not, Bool.false_eq_true, ite_self, and_self, true_and, and_true, false_and, and_false, not_true_eq_false, not_false_eq_true, xj_Ct_mostTrue, xb_Ct_mostTrue_0, xb_Ct_mostTrue_56, xb_Ct_mostTrue_62, xb_Ct_mostTrue_68, xb_Ct_mostTrue_106, xb_Ct_mostTrue_112, g2, g1, xq_bitCount, e1, e2, c1, c, hto, z1, k, nI_1]
      · rw [if_neg k] at hto
        simp only [xr_all, xf_all, if_true, if_false, true_or, or_true, eq_self, ite_not, Bool.false_eq_true, ite_self, and_self, true_and, and_true, false_and, and_false, not_true_eq_false, not_false_eq_true, xj_Ct_mostTrue, xb_Ct_mostTrue_0, xb_Ct_mostTrue_56, xb_Ct_mostTrue_62, xb_Ct_mostTrue_68, xb_Ct_mostTrue_106, xb_Ct_mostTrue_112, g2, g1, xq_bitCount, e1, e2, c1, c, hto, k, nI_1])
  rw [xe_Ct_mostTrue]
  simp only [xr_all, xf_all, if_true, if_false, true_or, or_true, eq_self, ite_not, Bool.false_eq_true, ite_self, and_self, true_and, and_true, false_and, and_false, not_true_eq_false, not_false_eq_true, xj_Ct_mostTrue, xb_Ct_mostTrue_0, xb_Ct_mostTrue_56, xb_Ct_mostTrue_62, xb_Ct_mostTrue_68, xb_Ct_mostTrue_106, xb_Ct_mostTrue_112]
  have o := outer none
  rw [vy_r0, show nI 0 = (0 : Int32) from rfl] at o
  apply o
  intro u
  have g1 : (nI n ≤ nI n) = True := by (simp (disch := omega) only [vz_all, if_true, if_false, true_or, or_true, eq_self, ite_not, Bool.false_eq_true, ite_self, and_self, true_and, and_true, false_and, and_false, not_true_eq_false, not_false_eq_true, false_or, or_false])
  have e0 : vy_G (fun s => vs_fr (vy_p (vy_X b sp n) s) n 0) 0 = 0 := rfl
  rw [e0, show nI (0 + 1) = (1 : Int32) from rfl, show nI 0 = (0 : Int32) from rfl, show 2 ^ n - 1 + 1 = 2 ^ n by omega] at sets
  conv => lhs; unfold xb_Ct_mostTrue_2
  simp only [xr_all, xf_all, if_true, if_false, true_or, or_true, eq_self, ite_not, Bool.false_eq_true, ite_self, and_self, true_and, and_true, false_and, and_false, not_true_eq_false, not_false_eq_true, xj_Ct_mostTrue, xb_Ct_mostTrue_0, xb_Ct_mostTrue_56, xb_Ct_mostTrue_62, xb_Ct_mostTrue_68, xb_Ct_mostTrue_106, xb_Ct_mostTrue_112, g1, sets]
  generalize vy_G (fun s => vs_fr (vy_p (vy_X b sp n) s) n 0) (2 ^ n - 1) = G
  have g2 := vh_sh n (by omega)
  have g3 : (nI (2 ^ n) ≤ nI (2 ^ n)) = True := by (simp (disch := omega) only [vz_all, if_true, if_false, true_or, or_true, eq_self, ite_not, Bool.false_eq_true, ite_self, and_self, true_and, and_true, false_and, and_false, not_true_eq_false, not_false_eq_true, false_or, or_false])
  conv => lhs; unfold xb_Ct_mostTrue_73
  simp only [xr_all, xf_all, if_true, if_false, true_or, or_true, eq_self, ite_not, Bool.false_eq_true, ite_self, and_self, true_and, and_true, false_and, and_false, not_true_eq_false, not_false_eq_true, xj_Ct_mostTrue, xb_Ct_mostTrue_0, xb_Ct_mostTrue_56, xb_Ct_mostTrue_62, xb_Ct_mostTrue_68, xb_Ct_mostTrue_106, xb_Ct_mostTrue_112, g2, g3]
theorem vl_seenM (ro : xv_Ro) (d : Nat) (z : Nat × Nat) (I : Nat → Nat → Int32) (J : Nat → Nat → Int64) {b : Nat → Nat} {n sp : Nat} (x3 : Int32) (hn1 : 1 ≤ n) (hn2 : n ≤ 12) (hb : ∀ j, j < 2 * n → b j < 256 ∧ I 173 j &&& 255 = nI (b j)) (hsp : sp ≤ 99) : xv_ev ro (d + 3) xm_Mo_seen xb_Mo_seen_52 [some (.ref 167), some (.int (nI n)), some (.int (nI sp)), some (.int x3), some (.int 0), some (.int 1)] [] (z, xv_mk I J) = xv_ev ro (d + 3) xm_Mo_seen xb_Mo_seen_52 [some (.ref 167), some (.int (nI n)), some (.int (nI sp)), some (.int x3), some (.int (nI (vy_G (fun s => vs_fr (vy_p (vy_X b sp n) s) n 0) (2 ^ n - 1)))), some (.int (nI (2 ^ n)))] [] (z, xv_mk I J) := by
  have hpn : 2 ^ n ≤ 4096 := Nat.pow_le_pow_right (n := 2) (by omega) hn2
  have hp1 : 0 < 2 ^ n := Nat.two_pow_pos n
  have sets := vz_iter (fun s => xv_ev ro (d + 3) xm_Mo_seen xb_Mo_seen_52 [some (.ref 167), some (.int (nI n)), some (.int (nI sp)), some (.int x3), some (.int (nI (vy_G (fun s => vs_fr (fun i => vs_fr (vy_q b sp s i) i 0) n 0) s))), some (.int (nI (s + 1)))] [] (z, xv_mk I J)) (2 ^ n - 1) (fun s hs => by
    have hG := vy_Gs (fun s => vs_fr (fun i => vs_fr (vy_q b sp s i) i 0) n 0) s
    have hle := vy_G_le (fun s => vs_fr (fun i => vs_fr (vy_q b sp s i) i 0) n 0) s
    have hto := xq_areAll ro d z I J hn2 hb hsp (s := s + 1) (by omega)
    rw [hG]
    generalize vy_G (fun s => vs_fr (fun i => vs_fr (vy_q b sp s i) i 0) n 0) s = G at *
    have g1 : (nI (2 ^ n) ≤ nI (s + 1)) = False := by (simp (disch := omega) only [vz_all, if_true, if_false, true_or, or_true, eq_self, ite_not, Bool.false_eq_true, ite_self, and_self, true_and, and_true, false_and, and_false, not_true_eq_false, not_false_eq_true, false_or, or_false])
    have g2 := vh_sh n (by omega)
    have e1 := vl_bits ro (d + 1) (z, xv_mk I J) (m := s + 1) (by omega)
    have e2 := vl_bits ro (d + 1) (z, xv_mk I J) (m := G) (by omega)
    have n1 := nI_l (show s + 1 < 2 ^ 31 by omega)
    have n2 := nI_l (show G < 2 ^ 31 by omega)
    have l1 := vb_ct_le (s + 1) 32
    have l2 := vb_ct_le G 32
    have z1 : ((1 : Int32) = 0) = False := eq_false (by decide)
    conv => lhs; unfold xb_Mo_seen_52
    by_cases c : vb_ct (s + 1) 32 ≤ vb_ct G 32
    · have c1 : (nI (vb_ct (s + 1) 32) ≤ nI (vb_ct G 32)) = True := by (simp (disch := omega) only [vz_all, if_true, if_false, true_or, or_true, eq_self, ite_not, Bool.false_eq_true, ite_self, and_self, true_and, and_true, false_and, and_false, not_true_eq_false, not_false_eq_true, false_or, or_false])
      simp only [xr_all, xf_all, if_true, if_false, true_or, or_true, eq_self, ite_not, Bool.false_eq_true, ite_self, and_self, true_and, and_true, false_and, and_false, not_true_eq_false, not_false_eq_true, xj_Mo_seen, xb_Mo_seen_0, xb_Mo_seen_39, xb_Mo_seen_41, xb_Mo_seen_89, xb_Mo_seen_93, xb_Mo_seen_99, xb_Mo_seen_109, xb_Mo_seen_115, g2, g1, n1, n2, e1, e2, c1, c, nI_1]
    · have c1 : (nI (vb_ct (s + 1) 32) ≤ nI (vb_ct G 32)) = False := by (simp (disch := omega) only [vz_all, if_true, if_false, true_or, or_true, eq_self, ite_not, Bool.false_eq_true, ite_self, and_self, true_and, and_true, false_and, and_false, not_true_eq_false, not_false_eq_true, false_or, or_false])
      by_cases k : vs_fr (fun i => vs_fr (vy_q b sp (s + 1) i) i 0) n 0 = true
      · rw [if_pos k] at hto
        simp only [xr_all, xf_all, if_true, if_false, true_or, or_true, eq_self, ite_not, Bool.false_eq_true, ite_self, and_self, true_and, and_true, false_and, and_false, not_true_eq_false, not_false_eq_true, xj_Mo_seen, xb_Mo_seen_0, xb_Mo_seen_39, xb_Mo_seen_41, xb_Mo_seen_89, xb_Mo_seen_93, xb_Mo_seen_99, xb_Mo_seen_109, xb_Mo_seen_115, g2, g1, n1, n2, e1, e2, c1, c, hto, z1, k, nI_1]
      · rw [if_neg k] at hto
        simp only [xr_all, xf_all, if_true, if_false, true_or, or_true, eq_self, ite_not, Bool.false_eq_true, ite_self, and_self, true_and, and_true, false_and, and_false, not_true_eq_false, not_false_eq_true, xj_Mo_seen, xb_Mo_seen_0, xb_Mo_seen_39, xb_Mo_seen_41, xb_Mo_seen_89, xb_Mo_seen_93, xb_Mo_seen_99, xb_Mo_seen_109, xb_Mo_seen_115, g2, g1, n1, n2, e1, e2, c1, c, hto, k, nI_1])
  have e0 : vy_G (fun s => vs_fr (fun i => vs_fr (vy_q b sp s i) i 0) n 0) 0 = 0 := rfl
  rw [e0, show nI (0 + 1) = (1 : Int32) from rfl, show nI 0 = (0 : Int32) from rfl, show 2 ^ n - 1 + 1 = 2 ^ n by omega] at sets
  rw [sets, vy_G_c (ok := fun s => vs_fr (vy_p (vy_X b sp n) s) n 0) (ok' := fun s => vs_fr (fun i => vs_fr (vy_q b sp s i) i 0) n 0) (2 ^ n - 1) (fun q hq => vy_same b sp hn2 (by omega))]
theorem xp_23 (VL : xv_LP) (hV : vi_Lc VL) : xl_P23 (vi_all VL) := by
  intro x1 x2 x3 ro I J hro hI
  obtain ⟨t, t1, t2, t3, b, tb⟩ := vi_Tb hI.1
  have z1 : ((1 : Int32) = 0) = False := eq_false (by decide)
  rcases vn_1N 12 (by omega) x1 with ⟨n, n1, n2, rfl, e1, e2, e3⟩ | ⟨e1, e2⟩
  rotate_left
  · rw [show nI 12 = (12 : Int32) from rfl] at e1 e2
    refine ⟨-1, I, J, I, J, ?_, ?_, hI⟩
    · rw [xe_Ct_seen]
      rcases e1 with e1 | ⟨e1, e3⟩
      · simp only [xr_all, xf_all, if_true, if_false, true_or, or_true, eq_self, ite_not, Bool.false_eq_true, ite_self, and_self, true_and, and_true, false_and, and_false, not_true_eq_false, not_false_eq_true, xj_Ct_seen, xb_Ct_seen_0, xb_Ct_seen_30, xb_Ct_seen_32, xb_Ct_seen_50, xb_Ct_seen_70, xb_Ct_seen_72, e1]
      · have e4 : (12 < x1) = True := eq_true (Int32.not_le.mp (fun q => by rw [e3] at q; exact q))
        simp only [xr_all, xf_all, if_true, if_false, true_or, or_true, eq_self, ite_not, Bool.false_eq_true, ite_self, and_self, true_and, and_true, false_and, and_false, not_true_eq_false, not_false_eq_true, xj_Ct_seen, xb_Ct_seen_0, xb_Ct_seen_30, xb_Ct_seen_32, xb_Ct_seen_50, xb_Ct_seen_70, xb_Ct_seen_72, e1, e4]
    · rw [xe_Mo_seen]
      simp only [xr_all, xf_all, if_true, if_false, true_or, or_true, eq_self, ite_not, Bool.false_eq_true, ite_self, and_self, true_and, and_true, false_and, and_false, not_true_eq_false, not_false_eq_true, xj_Mo_seen, xb_Mo_seen_0, xb_Mo_seen_39, xb_Mo_seen_41, xb_Mo_seen_89, xb_Mo_seen_93, xb_Mo_seen_99, xb_Mo_seen_109, xb_Mo_seen_115, xq_Mo_in, e2]
  · rw [show nI 12 = (12 : Int32) from rfl] at e2 e3
    have e4 : (12 < nI n) = False := by (simp (disch := omega) only [vz_all, if_true, if_false, true_or, or_true, eq_self, ite_not, Bool.false_eq_true, ite_self, and_self, true_and, and_true, false_and, and_false, not_true_eq_false, not_false_eq_true, false_or, or_false])
    rcases vn_0N 99 (by omega) x2 with ⟨sp, s1, rfl, s2, s3, s4⟩ | ⟨s2, s3⟩
    rotate_left
    · rw [show nI 99 = (99 : Int32) from rfl] at s2 s3
      refine ⟨-1, I, J, I, J, ?_, ?_, hI⟩
      · rw [xe_Ct_seen]
        rcases s2 with s2 | ⟨s2, s4⟩
        · simp only [xr_all, xf_all, if_true, if_false, true_or, or_true, eq_self, ite_not, Bool.false_eq_true, ite_self, and_self, true_and, and_true, false_and, and_false, not_true_eq_false, not_false_eq_true, xj_Ct_seen, xb_Ct_seen_0, xb_Ct_seen_30, xb_Ct_seen_32, xb_Ct_seen_50, xb_Ct_seen_70, xb_Ct_seen_72, e1, e4, s2]
        · simp only [xr_all, xf_all, if_true, if_false, true_or, or_true, eq_self, ite_not, Bool.false_eq_true, ite_self, and_self, true_and, and_true, false_and, and_false, not_true_eq_false, not_false_eq_true, xj_Ct_seen, xb_Ct_seen_0, xb_Ct_seen_30, xb_Ct_seen_32, xb_Ct_seen_50, xb_Ct_seen_70, xb_Ct_seen_72, e1, e4, s2, s4]
      · rw [xe_Mo_seen]
        simp only [xr_all, xf_all, if_true, if_false, true_or, or_true, eq_self, ite_not, Bool.false_eq_true, ite_self, and_self, true_and, and_true, false_and, and_false, not_true_eq_false, not_false_eq_true, xj_Mo_seen, xb_Mo_seen_0, xb_Mo_seen_39, xb_Mo_seen_41, xb_Mo_seen_89, xb_Mo_seen_93, xb_Mo_seen_99, xb_Mo_seen_109, xb_Mo_seen_115, xq_Mo_in, e3, z1, s3]
    · rw [show nI 99 = (99 : Int32) from rfl] at s3 s4
      have e2n : 2 * nI n = nI (2 * n) := by (simp (disch := omega) only [vz_all, if_true, if_false, true_or, or_true, eq_self, ite_not, Bool.false_eq_true, ite_self, and_self, true_and, and_true, false_and, and_false, not_true_eq_false, not_false_eq_true, false_or, or_false])
      by_cases hgood : (x3 = 0 ∨ x3 = 1) ∧ 2 * n ≤ t
      rotate_left
      · by_cases h01 : x3 = 0 ∨ x3 = 1
        · have h2 : ¬ 2 * n ≤ t := fun q => hgood ⟨h01, q⟩
          have q1 : (nI (2 * n) < 2) = False := by (simp (disch := omega) only [vz_all, if_true, if_false, true_or, or_true, eq_self, ite_not, Bool.false_eq_true, ite_self, and_self, true_and, and_true, false_and, and_false, not_true_eq_false, not_false_eq_true, false_or, or_false])
          have q2 : (24 < nI (2 * n)) = False := by (simp (disch := omega) only [vz_all, if_true, if_false, true_or, or_true, eq_self, ite_not, Bool.false_eq_true, ite_self, and_self, true_and, and_true, false_and, and_false, not_true_eq_false, not_false_eq_true, false_or, or_false])
          have q3 : (nI (2 * n) ≤ I 1 1) = False := by rw [t2]; (simp (disch := omega) only [vz_all, if_true, if_false, true_or, or_true, eq_self, ite_not, Bool.false_eq_true, ite_self, and_self, true_and, and_true, false_and, and_false, not_true_eq_false, not_false_eq_true, false_or, or_false])
          have hcut := xq_cut_no ro 198 xv_SZ I J (nI (2 * n)) 2 24 (Or.inr (Or.inr ⟨q1, q2, q3⟩))
          have q4 : (nI (2 * n) ≤ nI t) = False := by (simp (disch := omega) only [vz_all, if_true, if_false, true_or, or_true, eq_self, ite_not, Bool.false_eq_true, ite_self, and_self, true_and, and_true, false_and, and_false, not_true_eq_false, not_false_eq_true, false_or, or_false])
          refine ⟨-1, I, J, I, J, ?_, ?_, hI⟩
          · rw [xe_Ct_seen]
            rcases h01 with h | h
            · simp only [xr_all, xf_all, if_true, if_false, true_or, or_true, eq_self, ite_not, Bool.false_eq_true, ite_self, and_self, true_and, and_true, false_and, and_false, not_true_eq_false, not_false_eq_true, xj_Ct_seen, xb_Ct_seen_0, xb_Ct_seen_30, xb_Ct_seen_32, xb_Ct_seen_50, xb_Ct_seen_70, xb_Ct_seen_72, e1, e4, s2, s3, h, e2n, hcut]
            · simp only [xr_all, xf_all, if_true, if_false, true_or, or_true, eq_self, ite_not, Bool.false_eq_true, ite_self, and_self, true_and, and_true, false_and, and_false, not_true_eq_false, not_false_eq_true, xj_Ct_seen, xb_Ct_seen_0, xb_Ct_seen_30, xb_Ct_seen_32, xb_Ct_seen_50, xb_Ct_seen_70, xb_Ct_seen_72, e1, e4, s2, s3, h, z1, e2n, hcut]
          · rw [xe_Mo_seen]
            have hin : (0 ≤ x3 ∧ x3 ≤ 1) = True := by rcases h01 with rfl | rfl <;> exact eq_true (by decide)
            simp only [xr_all, xf_all, if_true, if_false, true_or, or_true, eq_self, ite_not, Bool.false_eq_true, ite_self, and_self, true_and, and_true, false_and, and_false, not_true_eq_false, not_false_eq_true, xj_Mo_seen, xb_Mo_seen_0, xb_Mo_seen_39, xb_Mo_seen_41, xb_Mo_seen_89, xb_Mo_seen_93, xb_Mo_seen_99, xb_Mo_seen_109, xb_Mo_seen_115, xq_Mo_in, e3, z1, s4, hin, e2n, t3, q4]
        · have y0 : (x3 = 0) = False := eq_false (fun q => h01 (Or.inl q))
          have y1 : (x3 = 1) = False := eq_false (fun q => h01 (Or.inr q))
          have hin : (0 ≤ x3 ∧ x3 ≤ 1) = False := by
            rcases vn_01 x3 with ⟨h, -⟩ | ⟨h, -⟩ | ⟨-, -, h⟩
            · exact absurd (Or.inl h) h01
            · exact absurd (Or.inr h) h01
            · exact h
          refine ⟨-1, I, J, I, J, ?_, ?_, hI⟩
          · rw [xe_Ct_seen]
            simp only [xr_all, xf_all, if_true, if_false, true_or, or_true, eq_self, ite_not, Bool.false_eq_true, ite_self, and_self, true_and, and_true, false_and, and_false, not_true_eq_false, not_false_eq_true, xj_Ct_seen, xb_Ct_seen_0, xb_Ct_seen_30, xb_Ct_seen_32, xb_Ct_seen_50, xb_Ct_seen_70, xb_Ct_seen_72, e1, e4, s2, s3, y0, y1]
          · rw [xe_Mo_seen]
            simp only [xr_all, xf_all, if_true, if_false, true_or, or_true, eq_self, ite_not, Bool.false_eq_true, ite_self, and_self, true_and, and_true, false_and, and_false, not_true_eq_false, not_false_eq_true, xj_Mo_seen, xb_Mo_seen_0, xb_Mo_seen_39, xb_Mo_seen_41, xb_Mo_seen_89, xb_Mo_seen_93, xb_Mo_seen_99, xb_Mo_seen_109, xb_Mo_seen_115, xq_Mo_in, e3, z1, s4, hin]
      · obtain ⟨h01, h2⟩ := hgood
        have q1 : (nI (2 * n) < 2) = False := by (simp (disch := omega) only [vz_all, if_true, if_false, true_or, or_true, eq_self, ite_not, Bool.false_eq_true, ite_self, and_self, true_and, and_true, false_and, and_false, not_true_eq_false, not_false_eq_true, false_or, or_false])
        have q2 : (24 < nI (2 * n)) = False := by (simp (disch := omega) only [vz_all, if_true, if_false, true_or, or_true, eq_self, ite_not, Bool.false_eq_true, ite_self, and_self, true_and, and_true, false_and, and_false, not_true_eq_false, not_false_eq_true, false_or, or_false])
        have q3 : (nI (2 * n) ≤ I 1 1) = True := by rw [t2]; (simp (disch := omega) only [vz_all, if_true, if_false, true_or, or_true, eq_self, ite_not, Bool.false_eq_true, ite_self, and_self, true_and, and_true, false_and, and_false, not_true_eq_false, not_false_eq_true, false_or, or_false])
        have hcut := xq_cut ro 198 xv_SZ I J (nI (2 * n)) 2 24 q1 q2 q3
        have q4 : (nI (2 * n) ≤ nI t) = True := by (simp (disch := omega) only [vz_all, if_true, if_false, true_or, or_true, eq_self, ite_not, Bool.false_eq_true, ite_self, and_self, true_and, and_true, false_and, and_false, not_true_eq_false, not_false_eq_true, false_or, or_false])
        have hmt := xq_mostTrue ro 196 xv_SZ (xv_u2 (xv_u2 (xv_u2 (xv_u2 I 1 1 0) 1 2 (nI (2 * n))) 1 3 0) 1 4 0) J (b := b) (n := n) (sp := sp) (by (repeat (first | rw [xu_ne2 (by omega)] | rw [xu_ne (by omega)] | rw [xu_eq]))) n1 n2 (fun j hj => ⟨(tb j (by omega)).1, by (repeat (first | rw [xu_ne2 (by omega)] | rw [xu_ne (by omega)] | rw [xu_eq])); exact (tb j (by omega)).2.1⟩) s1
        have hW : ∀ a, a ≠ 1 → a ≠ 166 → vy_r (xv_u2 (xv_u2 (xv_u2 (xv_u2 I 1 1 0) 1 2 (nI (2 * n))) 1 3 0) 1 4 0) (vy_X b sp n) n a = I a := fun a b1 b2 => by rw [vy_ro _ _ _ b2]; (repeat (first | rw [xu_ne2 (by omega)] | rw [xu_ne (by omega)] | rw [xu_eq]))
        have hW1 : vy_r (xv_u2 (xv_u2 (xv_u2 (xv_u2 I 1 1 0) 1 2 (nI (2 * n))) 1 3 0) 1 4 0) (vy_X b sp n) n 1 1 = 0 := by rw [vy_ro _ _ _ (by omega)]; (repeat (first | rw [xu_ne2 (by omega)] | rw [xu_ne (by omega)] | rw [xu_eq]))
        have hWc : ∀ j, j ≠ 1 → j ≠ 2 → j ≠ 3 → j ≠ 4 → vy_r (xv_u2 (xv_u2 (xv_u2 (xv_u2 I 1 1 0) 1 2 (nI (2 * n))) 1 3 0) 1 4 0) (vy_X b sp n) n 1 j = I 1 j := fun j b1 b2 b3 b4 => by rw [vy_ro _ _ _ (by omega)]; (repeat (first | rw [xu_ne2 (by omega)] | rw [xu_ne (by omega)] | rw [xu_eq]))
        generalize vy_r (xv_u2 (xv_u2 (xv_u2 (xv_u2 I 1 1 0) 1 2 (nI (2 * n))) 1 3 0) 1 4 0) (vy_X b sp n) n = W at *
        have hsm := vl_seenM ro 196 xv_SZ (xv_u2 W 167 7 0) J (b := b) (n := n) (sp := sp) x3 n1 n2 (fun j hj => ⟨(tb j (by omega)).1, by rw [xu_ne (by omega), hW 173 (by omega) (by omega)]; exact (tb j (by omega)).2.2⟩) s1
        have hGl := vy_G_le (fun s => vs_fr (vy_p (vy_X b sp n) s) n 0) (2 ^ n - 1)
        have hpn : 2 ^ n ≤ 4096 := Nat.pow_le_pow_right (n := 2) (by omega) n2
        generalize vy_G (fun s => vs_fr (vy_p (vy_X b sp n) s) n 0) (2 ^ n - 1) = G at *
        have eG := vq_NnI (show G < 2 ^ 32 by omega)
        have hin : (0 ≤ x3 ∧ x3 ≤ 1) = True := by rcases h01 with rfl | rfl <;> exact eq_true (by decide)
        have hend : ∀ R, xv_ev ro 199 xm_Mo_seen xb_Mo_seen_52 [some (.ref 167), some (.int (nI n)), some (.int (nI sp)), some (.int x3), some (.int 0), some (.int 1)] [] (xv_SZ, xv_mk (xv_u2 W 167 7 0) J) = R → xv_evm ro 199 130 [.ref 167, .int (nI n), .int (nI sp), .int x3] (xv_SZ, xv_mk W J) = R := by
          intro R hR
          rw [xe_Mo_seen]
          have t3' : W 167 7 = nI t := by rw [hW 167 (by omega) (by omega)]; exact t3
          simp only [xr_all, xf_all, if_true, if_false, true_or, or_true, eq_self, ite_not, Bool.false_eq_true, ite_self, and_self, true_and, and_true, false_and, and_false, not_true_eq_false, not_false_eq_true, xj_Mo_seen, xb_Mo_seen_0, xb_Mo_seen_39, xb_Mo_seen_41, xb_Mo_seen_89, xb_Mo_seen_93, xb_Mo_seen_99, xb_Mo_seen_109, xb_Mo_seen_115, xq_Mo_in, e3, z1, s4, hin, e2n, t3', q4]
          exact hR
        have hfin : vi_all VL (xv_u2 W 167 7 0) J := by
          refine vi_all_cut hV hI (fun a j haj c1 c2 => ?_) (by rw [xu_ne (by omega)]; exact hW1) xu_eq rfl
          rw [xu_ne2 c2]
          by_cases ha1 : a = 1
          · rw [ha1] at haj ⊢
            have hj : j ≠ 1 := fun q => c1 ⟨ha1, q⟩
            rw [vs_r1] at haj
            exact absurd (by simpa using haj) hj
          · by_cases ha2 : a = 166
            · rw [ha2] at haj
              have : vs_r 166 j = false := rfl
              rw [this] at haj; cases haj
            · rw [hW a ha1 ha2]
        have g3 : (nI (2 ^ n) ≤ nI (2 ^ n)) = True := by (simp (disch := omega) only [vz_all, if_true, if_false, true_or, or_true, eq_self, ite_not, Bool.false_eq_true, ite_self, and_self, true_and, and_true, false_and, and_false, not_true_eq_false, not_false_eq_true, false_or, or_false])
        have g2 := vh_sh n (by omega)
        rcases h01 with h | h
        · refine ⟨nI (vb_ct G 32), W, J, xv_u2 W 167 7 0, J, ?_, hend _ ?_, hfin⟩
          · rw [xe_Ct_seen]
            simp only [xr_all, xf_all, if_true, if_false, true_or, or_true, eq_self, ite_not, Bool.false_eq_true, ite_self, and_self, true_and, and_true, false_and, and_false, not_true_eq_false, not_false_eq_true, xj_Ct_seen, xb_Ct_seen_0, xb_Ct_seen_30, xb_Ct_seen_32, xb_Ct_seen_50, xb_Ct_seen_70, xb_Ct_seen_72, e1, e4, s2, s3, h, e2n, hcut, z1, hmt, xq_bitCount, eG]
          · rw [hsm]
            have hbm := vl_bits ro 197 (xv_SZ, xv_mk (xv_u2 W 167 7 0) J) (m := G) (by omega)
            have l1 := nI_l (show G < 2 ^ 31 by omega)
            have z2 : ((0 : Int32) = 1) = False := eq_false (by decide)
            conv => lhs; unfold xb_Mo_seen_52
            simp only [xr_all, xf_all, if_true, if_false, true_or, or_true, eq_self, ite_not, Bool.false_eq_true, ite_self, and_self, true_and, and_true, false_and, and_false, not_true_eq_false, not_false_eq_true, xj_Mo_seen, xb_Mo_seen_0, xb_Mo_seen_39, xb_Mo_seen_41, xb_Mo_seen_89, xb_Mo_seen_93, xb_Mo_seen_99, xb_Mo_seen_109, xb_Mo_seen_115, g2, g3, h, z2, l1, hbm]
        · refine ⟨nI G, W, J, xv_u2 W 167 7 0, J, ?_, hend _ ?_, hfin⟩
          · rw [xe_Ct_seen]
            simp only [xr_all, xf_all, if_true, if_false, true_or, or_true, eq_self, ite_not, Bool.false_eq_true, ite_self, and_self, true_and, and_true, false_and, and_false, not_true_eq_false, not_false_eq_true, xj_Ct_seen, xb_Ct_seen_0, xb_Ct_seen_30, xb_Ct_seen_32, xb_Ct_seen_50, xb_Ct_seen_70, xb_Ct_seen_72, e1, e4, s2, s3, h, e2n, hcut, z1, hmt]
          · rw [hsm]
            conv => lhs; unfold xb_Mo_seen_52
            simp only [xr_all, xf_all, if_true, if_false, true_or, or_true, eq_self, ite_not, Bool.false_eq_true, ite_self, and_self, true_and, and_true, false_and, and_false, not_true_eq_false, not_false_eq_true, xj_Mo_seen, xb_Mo_seen_0, xb_Mo_seen_39, xb_Mo_seen_41, xb_Mo_seen_89, xb_Mo_seen_93, xb_Mo_seen_99, xb_Mo_seen_109, xb_Mo_seen_115, g2, g3, h]
