/-! THE LAW'S LOOP: an invariant that each pair of calls keeps, both with the same answer, gives the goal -/
abbrev xv_V : Type := (Nat → Nat → Int32) → (Nat → Nat → Int64) → Prop
def xl_pI (Inv : xv_V) (kx km : Nat) (ax : List Value) : Prop := ∀ (ro : xv_Ro) (I : Nat → Nat → Int32) (J : Nat → Nat → Int64), (∀ k, ro k = if k = 1000000 then some (5, xv_wof) else ro k) → Inv I J → ∃ (r : Int32) (I1 : Nat → Nat → Int32) (J1 : Nat → Nat → Int64) (I2 : Nat → Nat → Int32) (J2 : Nat → Nat → Int64),
  xv_evm ro 199 kx (.ref 0 :: ax) (xv_SZ, xv_mk I J) = some (some (.int r), (xv_SZ, xv_mk I1 J1)) ∧ xv_evm ro 199 km (.ref 167 :: ax) (xv_SZ, xv_mk I1 J1) = some (some (.int r), (xv_SZ, xv_mk I2 J2)) ∧ Inv I2 J2
def xl_pL (Inv : xv_V) (kx km : Nat) (ax : List Value) : Prop := ∀ (ro : xv_Ro) (I : Nat → Nat → Int32) (J : Nat → Nat → Int64), (∀ k, ro k = if k = 1000000 then some (5, xv_wof) else ro k) → Inv I J → ∃ (r : Int64) (I1 : Nat → Nat → Int32) (J1 : Nat → Nat → Int64) (I2 : Nat → Nat → Int32) (J2 : Nat → Nat → Int64),
  xv_evm ro 199 kx (.ref 0 :: ax) (xv_SZ, xv_mk I J) = some (some (.long r), (xv_SZ, xv_mk I1 J1)) ∧ xv_evm ro 199 km (.ref 167 :: ax) (xv_SZ, xv_mk I1 J1) = some (some (.long r), (xv_SZ, xv_mk I2 J2)) ∧ Inv I2 J2
def xl_P0 (Inv : xv_V) : Prop := ∀ x0 x1 : Int32, xl_pI Inv 1 52 [.int x0, .int x1]
def xl_P1 (Inv : xv_V) : Prop := ∀ x0 x1 : Int32, xl_pI Inv 2 53 [.int x0, .int x1]
def xl_P2 (Inv : xv_V) : Prop := ∀ x0 x1 x2 x3 x4 : Int32, xl_pI Inv 3 55 [.int x0, .int x1, .int x2, .int x3, .int x4]
def xl_P3 (Inv : xv_V) : Prop := ∀ x0 : Int32, xl_pI Inv 4 77 [.int x0]
def xl_P4 (Inv : xv_V) : Prop := ∀ x0 x1 : Int32, xl_pI Inv 5 90 [.int x0, .int x1]
def xl_P5 (Inv : xv_V) : Prop := ∀ x0 x1 : Int32, xl_pI Inv 6 92 [.int x0, .int x1]
def xl_P6 (Inv : xv_V) : Prop := ∀ x0 : Int32, xl_pI Inv 7 94 [.int x0]
def xl_P7 (Inv : xv_V) : Prop := ∀ x0 x1 x2 x3 : Int32, (x2 = 0 ∨ x2 = 1) → (x3 = 0 ∨ x3 = 1) → xl_pI Inv 8 96 [.int x0, .int x1, .int x2, .int x3]
def xl_P8 (Inv : xv_V) : Prop := xl_pI Inv 9 97 []
def xl_P9 (Inv : xv_V) : Prop := ∀ x0 : Int32, xl_pI Inv 10 102 [.int x0]
def xl_P10 (Inv : xv_V) : Prop := ∀ x0 x1 : Int32, xl_pI Inv 11 103 [.int x0, .int x1]
def xl_P11 (Inv : xv_V) : Prop := ∀ x0 x1 : Int32, xl_pI Inv 12 106 [.int x0, .int x1]
def xl_P12 (Inv : xv_V) : Prop := ∀ x0 x1 : Int32, xl_pI Inv 13 107 [.int x0, .int x1]
def xl_P13 (Inv : xv_V) : Prop := ∀ x0 x1 x2 : Int32, xl_pL Inv 14 114 [.int x0, .int x1, .int x2]
def xl_P14 (Inv : xv_V) : Prop := ∀ x0 x1 x2 : Int32, xl_pL Inv 15 115 [.int x0, .int x1, .int x2]
def xl_P15 (Inv : xv_V) : Prop := ∀ x0 x1 : Int32, xl_pI Inv 16 116 [.int x0, .int x1]
def xl_P16 (Inv : xv_V) : Prop := ∀ x0 : Int32, xl_pI Inv 17 117 [.int x0]
def xl_P17 (Inv : xv_V) : Prop := ∀ x0 : Int32, xl_pL Inv 18 120 [.int x0]
def xl_P18 (Inv : xv_V) : Prop := ∀ x0 : Int32, xl_pI Inv 19 122 [.int x0]
def xl_P19 (Inv : xv_V) : Prop := xl_pI Inv 20 123 []
def xl_P20 (Inv : xv_V) : Prop := ∀ x0 x1 : Int32, xl_pI Inv 21 124 [.int x0, .int x1]
def xl_P21 (Inv : xv_V) : Prop := ∀ x0 x1 x2 : Int32, xl_pI Inv 22 126 [.int x0, .int x1, .int x2]
def xl_P22 (Inv : xv_V) : Prop := ∀ x0 : Int32, xl_pI Inv 23 127 [.int x0]
def xl_P23 (Inv : xv_V) : Prop := ∀ x0 x1 x2 : Int32, xl_pI Inv 24 130 [.int x0, .int x1, .int x2]
def xl_P24 (Inv : xv_V) : Prop := ∀ x0 x1 x2 : Int32, xl_pI Inv 25 134 [.int x0, .int x1, .int x2]
def xl_P25 (Inv : xv_V) : Prop := ∀ x0 x1 : Int32, xl_pI Inv 26 137 [.int x0, .int x1]
def xl_P26 (Inv : xv_V) : Prop := ∀ x0 x1 : Int32, xl_pI Inv 27 138 [.int x0, .int x1]
def xl_P27 (Inv : xv_V) : Prop := ∀ x0 : Int32, xl_pI Inv 28 139 [.int x0]
def xl_P28 (Inv : xv_V) : Prop := xl_pI Inv 29 140 []
def xl_P29 (Inv : xv_V) : Prop := xl_pI Inv 30 141 []
def xl_P30 (Inv : xv_V) : Prop := ∀ x0 x1 : Int32, xl_pI Inv 31 142 [.int x0, .int x1]
def xl_P31 (Inv : xv_V) : Prop := ∀ x0 : Int32, xl_pI Inv 32 143 [.int x0]
def xl_all (Inv : xv_V) : Prop := xl_P0 Inv ∧ xl_P1 Inv ∧ xl_P2 Inv ∧ xl_P3 Inv ∧ xl_P4 Inv ∧ xl_P5 Inv ∧ xl_P6 Inv ∧ xl_P7 Inv ∧ xl_P8 Inv ∧ xl_P9 Inv ∧ xl_P10 Inv ∧ xl_P11 Inv ∧ xl_P12 Inv ∧ xl_P13 Inv ∧ xl_P14 Inv ∧ xl_P15 Inv ∧ xl_P16 Inv ∧ xl_P17 Inv ∧ xl_P18 Inv ∧ xl_P19 Inv ∧ xl_P20 Inv ∧ xl_P21 Inv ∧ xl_P22 Inv ∧ xl_P23 Inv ∧ xl_P24 Inv ∧ xl_P25 Inv ∧ xl_P26 Inv ∧ xl_P27 Inv ∧ xl_P28 Inv ∧ xl_P29 Inv ∧ xl_P30 Inv ∧ xl_P31 Inv
theorem xv_b01 (c : Prop) (h : Decidable c) : xv_b c h = 0 ∨ xv_b c h = 1 := by unfold xv_b; by_cases hc : c <;> simp [hc]
theorem xl_in {k j L : Nat} (h : 6 * k + 6 ≤ L) (hL : L ≤ 3072) (hj : j < 6) {x : Int32} (hx : x = nI j) : xv_inB (nI (6 * k) + x) L = true := by
  rw [hx, nI_add]
  have h1 := nI_toInt (n := 6 * k + j) (by omega)
  simp only [xv_inB, h1, Bool.and_eq_true, decide_eq_true_eq]
  omega
theorem xl_head {k L : Nat} (hL : L ≤ 3072) (hk : 6 * k ≤ 3078) : (Int32.ofNat L - 6 < nI (6 * k)) ↔ L < 6 * k + 6 := by
  rw [Int32.lt_iff_toInt_lt, nI_toInt (by omega)]
  have h1 : (Int32.ofNat L - 6).toInt = (L : Int) - 6 := pk_sub_toInt (a := L) (b := 6) (by omega) (by omega)
  rw [h1]
  omega
theorem xl_case (x : Int32) : ∃ j : Nat, j < 32 ∧ x &&& 31 = nI j := pk_andE x 5 (by decide)
theorem xl_loop (Inv : xv_V) (hall : xl_all Inv) {L : Nat} {xs : Nat → Int32} (hL : L ≤ 3072) : ∀ (n k : Nat) (I : Nat → Nat → Int32) (J : Nat → Nat → Int64), Inv I J → L ≤ 6 * k + 6 * n → 6 * k ≤ L + 5 →
    ∃ (I' : Nat → Nat → Int32) (J' : Nat → Nat → Int64), xv_ev (xv_ro L xs) (199 + 1) xm_Root_law xb_Root_law_18 [some (.ref 1000001), some (.ref 0), some (.ref 167), some (.int (nI (6 * k)))] [] (xv_SZ, xv_mk I J) = some (some (.int 1), (xv_SZ, xv_mk I' J')) := by
  have hro : (xv_ro L xs) 1000001 = some (L, xs) := rfl
  have hro0 : ∀ k, (xv_ro L xs) k = if k = 1000000 then some (5, xv_wof) else (xv_ro L xs) k := by
    intro k
    by_cases h : k = 1000000
    · rw [if_pos h, h]; rfl
    · rw [if_neg h]
  generalize hG : xv_ro L xs = ro at hro hro0 ⊢
  have hsome : (ro 1000001).isSome = true := by rw [hro]; rfl
  obtain ⟨p0, p1, p2, p3, p4, p5, p6, p7, p8, p9, p10, p11, p12, p13, p14, p15, p16, p17, p18, p19, p20, p21, p22, p23, p24, p25, p26, p27, p28, p29, p30, p31⟩ := hall
  intro n
  induction n with
  | zero =>
    intro k I J hI h1 h2
    refine ⟨I, J, ?_⟩
    have hc := (xl_head (L := L) (k := k) hL (by omega)).mpr (by omega)
    generalize 199 = d
    simp only [xr_all, xj_Root_law, xb_Root_law_18, xb_Root_law_1203, hro, hc, if_true, Option.isSome_some, true_or, or_true, eq_self]
  | succ n ih =>
    intro k I J hI h1 h2
    by_cases hlt : L < 6 * k + 6
    · refine ⟨I, J, ?_⟩
      have hc := (xl_head (L := L) (k := k) hL (by omega)).mpr hlt
      generalize 199 = d
      simp only [xr_all, xj_Root_law, xb_Root_law_18, xb_Root_law_1203, hro, hc, if_true, Option.isSome_some, true_or, or_true, eq_self]
    · have hc : ¬ (Int32.ofNat L - 6 < nI (6 * k)) := fun q => hlt ((xl_head hL (by omega)).mp q)
      have i0 : xv_inB (nI (6 * k)) L = true := by have := xl_in (k := k) (j := 0) (by omega) hL (by omega) (x := 0) rfl; rwa [Int32.add_zero] at this
      have i1 : xv_inB (nI (6 * k) + 1) L = true := xl_in (j := 1) (by omega) hL (by omega) rfl
      have i2 : xv_inB (nI (6 * k) + 2) L = true := xl_in (j := 2) (by omega) hL (by omega) rfl
      have i3 : xv_inB (nI (6 * k) + 3) L = true := xl_in (j := 3) (by omega) hL (by omega) rfl
      have i4 : xv_inB (nI (6 * k) + 4) L = true := xl_in (j := 4) (by omega) hL (by omega) rfl
      have i5 : xv_inB (nI (6 * k) + 5) L = true := xl_in (j := 5) (by omega) hL (by omega) rfl
      have e6 : nI (6 * k) + 6 = nI (6 * (k + 1)) := by rw [show (6 : Int32) = nI 6 from rfl, nI_add]; congr 1
      obtain ⟨j, hj, hjx⟩ := xl_case (xs (nI (6 * k)).toNatClampNeg)
      have jt : (nI j).toInt = j := nI_toInt (by omega)
      have hsw : xv_ev ro (199 + 1) xm_Root_law xb_Root_law_18 [some (.ref 1000001), some (.ref 0), some (.ref 167), some (.int (nI (6 * k)))] [] (xv_SZ, xv_mk I J) =
          xv_tk ((#[143, 176, 209, 272, 295, 328, 361, 384, 469, 482, 505, 538, 571, 604, 648, 692, 725, 748, 772, 795, 808, 841, 884, 907, 950, 993, 1026, 1059, 1082, 1095, 1108, 1141] : Array Int)[(j : Nat)]?) fun o => xv_ev ro (199 + 1) xm_Root_law (xv_at xm_Root_law.2.2.2.2.2.2 ((33 : Int) + o).toNat) [some (.ref 1000001), some (.ref 0), some (.ref 167), some (.int (nI (6 * k)))] [] (xv_SZ, xv_mk I J) := by
        generalize 199 = d
        have hb : ¬ ((j : Int) < 0 ∨ 31 < (j : Int)) := by omega
        simp only [xr_all, xj_Root_law, xb_Root_law_18, hro, hc, if_false, if_true, i0, hjx, Option.isSome_some, jt, hb]
        rw [Int.sub_zero, Int.toNat_natCast]
        rfl
      rw [hsw]
      match j, hj with
      | 0, _ =>
        obtain ⟨r, I1, J1, I2, J2, hx, hm, hI2⟩ := p0 (xs (nI (6 * k) + 1).toNatClampNeg) (xs (nI (6 * k) + 2).toNatClampNeg)  ro I J hro0 hI
        obtain ⟨I', J', h⟩ := ih (k + 1) I2 J2 hI2 (by omega) (by omega)
        refine ⟨I', J', ?_⟩
        show xv_ev ro (199 + 1) xm_Root_law xb_Root_law_176 _ _ _ = _
        rw [xl_c0 ro 199 L xs (nI (6 * k)) I I1 I2 J J1 J2 r hro i1 i2 hx hm, e6]
        exact h
      | 1, _ =>
        obtain ⟨r, I1, J1, I2, J2, hx, hm, hI2⟩ := p1 (xs (nI (6 * k) + 1).toNatClampNeg) (xs (nI (6 * k) + 2).toNatClampNeg)  ro I J hro0 hI
        obtain ⟨I', J', h⟩ := ih (k + 1) I2 J2 hI2 (by omega) (by omega)
        refine ⟨I', J', ?_⟩
        show xv_ev ro (199 + 1) xm_Root_law xb_Root_law_209 _ _ _ = _
        rw [xl_c1 ro 199 L xs (nI (6 * k)) I I1 I2 J J1 J2 r hro i1 i2 hx hm, e6]
        exact h
      | 2, _ =>
        obtain ⟨r, I1, J1, I2, J2, hx, hm, hI2⟩ := p2 (xs (nI (6 * k) + 1).toNatClampNeg) (xs (nI (6 * k) + 2).toNatClampNeg) (xs (nI (6 * k) + 3).toNatClampNeg) (xs (nI (6 * k) + 4).toNatClampNeg) (xs (nI (6 * k) + 5).toNatClampNeg)  ro I J hro0 hI
        obtain ⟨I', J', h⟩ := ih (k + 1) I2 J2 hI2 (by omega) (by omega)
        refine ⟨I', J', ?_⟩
        show xv_ev ro (199 + 1) xm_Root_law xb_Root_law_242 _ _ _ = _
        rw [xl_c2 ro 199 L xs (nI (6 * k)) I I1 I2 J J1 J2 r hro i1 i2 i3 i4 i5 hx hm, e6]
        exact h
      | 3, _ =>
        obtain ⟨r, I1, J1, I2, J2, hx, hm, hI2⟩ := p3 (xs (nI (6 * k) + 1).toNatClampNeg)  ro I J hro0 hI
        obtain ⟨I', J', h⟩ := ih (k + 1) I2 J2 hI2 (by omega) (by omega)
        refine ⟨I', J', ?_⟩
        show xv_ev ro (199 + 1) xm_Root_law xb_Root_law_305 _ _ _ = _
        rw [xl_c3 ro 199 L xs (nI (6 * k)) I I1 I2 J J1 J2 r hro i1 hx hm, e6]
        exact h
      | 4, _ =>
        obtain ⟨r, I1, J1, I2, J2, hx, hm, hI2⟩ := p4 (xs (nI (6 * k) + 1).toNatClampNeg) (xs (nI (6 * k) + 2).toNatClampNeg)  ro I J hro0 hI
        obtain ⟨I', J', h⟩ := ih (k + 1) I2 J2 hI2 (by omega) (by omega)
        refine ⟨I', J', ?_⟩
        show xv_ev ro (199 + 1) xm_Root_law xb_Root_law_328 _ _ _ = _
        rw [xl_c4 ro 199 L xs (nI (6 * k)) I I1 I2 J J1 J2 r hro i1 i2 hx hm, e6]
        exact h
      | 5, _ =>
        obtain ⟨r, I1, J1, I2, J2, hx, hm, hI2⟩ := p5 (xs (nI (6 * k) + 1).toNatClampNeg) (xs (nI (6 * k) + 2).toNatClampNeg)  ro I J hro0 hI
        obtain ⟨I', J', h⟩ := ih (k + 1) I2 J2 hI2 (by omega) (by omega)
        refine ⟨I', J', ?_⟩
        show xv_ev ro (199 + 1) xm_Root_law xb_Root_law_361 _ _ _ = _
        rw [xl_c5 ro 199 L xs (nI (6 * k)) I I1 I2 J J1 J2 r hro i1 i2 hx hm, e6]
        exact h
      | 6, _ =>
        obtain ⟨r, I1, J1, I2, J2, hx, hm, hI2⟩ := p6 (xs (nI (6 * k) + 1).toNatClampNeg)  ro I J hro0 hI
        obtain ⟨I', J', h⟩ := ih (k + 1) I2 J2 hI2 (by omega) (by omega)
        refine ⟨I', J', ?_⟩
        show xv_ev ro (199 + 1) xm_Root_law xb_Root_law_394 _ _ _ = _
        rw [xl_c6 ro 199 L xs (nI (6 * k)) I I1 I2 J J1 J2 r hro i1 hx hm, e6]
        exact h
      | 7, _ =>
        obtain ⟨r, I1, J1, I2, J2, hx, hm, hI2⟩ := p7 (xs (nI (6 * k) + 1).toNatClampNeg) (xs (nI (6 * k) + 2).toNatClampNeg) (xv_b (¬ xs (nI (6 * k) + 3).toNatClampNeg = 0) inferInstance) (xv_b (¬ xs (nI (6 * k) + 4).toNatClampNeg = 0) inferInstance) (xv_b01 _ _) (xv_b01 _ _) ro I J hro0 hI
        obtain ⟨I', J', h⟩ := ih (k + 1) I2 J2 hI2 (by omega) (by omega)
        refine ⟨I', J', ?_⟩
        show xv_ev ro (199 + 1) xm_Root_law xb_Root_law_417 _ _ _ = _
        rw [xl_c7 ro 199 L xs (nI (6 * k)) I I1 I2 J J1 J2 r hro i1 i2 i3 i4 hx hm, e6]
        exact h
      | 8, _ =>
        obtain ⟨r, I1, J1, I2, J2, hx, hm, hI2⟩ := p8   ro I J hro0 hI
        obtain ⟨I', J', h⟩ := ih (k + 1) I2 J2 hI2 (by omega) (by omega)
        refine ⟨I', J', ?_⟩
        show xv_ev ro (199 + 1) xm_Root_law xb_Root_law_502 _ _ _ = _
        rw [xl_c8 ro 199 L xs (nI (6 * k)) I I1 I2 J J1 J2 r hro  hx hm, e6]
        exact h
      | 9, _ =>
        obtain ⟨r, I1, J1, I2, J2, hx, hm, hI2⟩ := p9 (xs (nI (6 * k) + 1).toNatClampNeg)  ro I J hro0 hI
        obtain ⟨I', J', h⟩ := ih (k + 1) I2 J2 hI2 (by omega) (by omega)
        refine ⟨I', J', ?_⟩
        show xv_ev ro (199 + 1) xm_Root_law xb_Root_law_515 _ _ _ = _
        rw [xl_c9 ro 199 L xs (nI (6 * k)) I I1 I2 J J1 J2 r hro i1 hx hm, e6]
        exact h
      | 10, _ =>
        obtain ⟨r, I1, J1, I2, J2, hx, hm, hI2⟩ := p10 (xs (nI (6 * k) + 1).toNatClampNeg) (xs (nI (6 * k) + 2).toNatClampNeg)  ro I J hro0 hI
        obtain ⟨I', J', h⟩ := ih (k + 1) I2 J2 hI2 (by omega) (by omega)
        refine ⟨I', J', ?_⟩
        show xv_ev ro (199 + 1) xm_Root_law xb_Root_law_538 _ _ _ = _
        rw [xl_c10 ro 199 L xs (nI (6 * k)) I I1 I2 J J1 J2 r hro i1 i2 hx hm, e6]
        exact h
      | 11, _ =>
        obtain ⟨r, I1, J1, I2, J2, hx, hm, hI2⟩ := p11 (xs (nI (6 * k) + 1).toNatClampNeg) (xs (nI (6 * k) + 2).toNatClampNeg)  ro I J hro0 hI
        obtain ⟨I', J', h⟩ := ih (k + 1) I2 J2 hI2 (by omega) (by omega)
        refine ⟨I', J', ?_⟩
        show xv_ev ro (199 + 1) xm_Root_law xb_Root_law_571 _ _ _ = _
        rw [xl_c11 ro 199 L xs (nI (6 * k)) I I1 I2 J J1 J2 r hro i1 i2 hx hm, e6]
        exact h
      | 12, _ =>
        obtain ⟨r, I1, J1, I2, J2, hx, hm, hI2⟩ := p12 (xs (nI (6 * k) + 1).toNatClampNeg) (xs (nI (6 * k) + 2).toNatClampNeg)  ro I J hro0 hI
        obtain ⟨I', J', h⟩ := ih (k + 1) I2 J2 hI2 (by omega) (by omega)
        refine ⟨I', J', ?_⟩
        show xv_ev ro (199 + 1) xm_Root_law xb_Root_law_604 _ _ _ = _
        rw [xl_c12 ro 199 L xs (nI (6 * k)) I I1 I2 J J1 J2 r hro i1 i2 hx hm, e6]
        exact h
      | 13, _ =>
        obtain ⟨r, I1, J1, I2, J2, hx, hm, hI2⟩ := p13 (xs (nI (6 * k) + 1).toNatClampNeg) (xs (nI (6 * k) + 2).toNatClampNeg) (xs (nI (6 * k) + 3).toNatClampNeg)  ro I J hro0 hI
        obtain ⟨I', J', h⟩ := ih (k + 1) I2 J2 hI2 (by omega) (by omega)
        refine ⟨I', J', ?_⟩
        show xv_ev ro (199 + 1) xm_Root_law xb_Root_law_637 _ _ _ = _
        rw [xl_c13 ro 199 L xs (nI (6 * k)) I I1 I2 J J1 J2 r hro i1 i2 i3 hx hm, e6]
        exact h
      | 14, _ =>
        obtain ⟨r, I1, J1, I2, J2, hx, hm, hI2⟩ := p14 (xs (nI (6 * k) + 1).toNatClampNeg) (xs (nI (6 * k) + 2).toNatClampNeg) (xs (nI (6 * k) + 3).toNatClampNeg)  ro I J hro0 hI
        obtain ⟨I', J', h⟩ := ih (k + 1) I2 J2 hI2 (by omega) (by omega)
        refine ⟨I', J', ?_⟩
        show xv_ev ro (199 + 1) xm_Root_law xb_Root_law_681 _ _ _ = _
        rw [xl_c14 ro 199 L xs (nI (6 * k)) I I1 I2 J J1 J2 r hro i1 i2 i3 hx hm, e6]
        exact h
      | 15, _ =>
        obtain ⟨r, I1, J1, I2, J2, hx, hm, hI2⟩ := p15 (xs (nI (6 * k) + 1).toNatClampNeg) (xs (nI (6 * k) + 2).toNatClampNeg)  ro I J hro0 hI
        obtain ⟨I', J', h⟩ := ih (k + 1) I2 J2 hI2 (by omega) (by omega)
        refine ⟨I', J', ?_⟩
        show xv_ev ro (199 + 1) xm_Root_law xb_Root_law_725 _ _ _ = _
        rw [xl_c15 ro 199 L xs (nI (6 * k)) I I1 I2 J J1 J2 r hro i1 i2 hx hm, e6]
        exact h
      | 16, _ =>
        obtain ⟨r, I1, J1, I2, J2, hx, hm, hI2⟩ := p16 (xs (nI (6 * k) + 1).toNatClampNeg)  ro I J hro0 hI
        obtain ⟨I', J', h⟩ := ih (k + 1) I2 J2 hI2 (by omega) (by omega)
        refine ⟨I', J', ?_⟩
        show xv_ev ro (199 + 1) xm_Root_law xb_Root_law_758 _ _ _ = _
        rw [xl_c16 ro 199 L xs (nI (6 * k)) I I1 I2 J J1 J2 r hro i1 hx hm, e6]
        exact h
      | 17, _ =>
        obtain ⟨r, I1, J1, I2, J2, hx, hm, hI2⟩ := p17 (xs (nI (6 * k) + 1).toNatClampNeg)  ro I J hro0 hI
        obtain ⟨I', J', h⟩ := ih (k + 1) I2 J2 hI2 (by omega) (by omega)
        refine ⟨I', J', ?_⟩
        show xv_ev ro (199 + 1) xm_Root_law xb_Root_law_781 _ _ _ = _
        rw [xl_c17 ro 199 L xs (nI (6 * k)) I I1 I2 J J1 J2 r hro i1 hx hm, e6]
        exact h
      | 18, _ =>
        obtain ⟨r, I1, J1, I2, J2, hx, hm, hI2⟩ := p18 (xs (nI (6 * k) + 1).toNatClampNeg)  ro I J hro0 hI
        obtain ⟨I', J', h⟩ := ih (k + 1) I2 J2 hI2 (by omega) (by omega)
        refine ⟨I', J', ?_⟩
        show xv_ev ro (199 + 1) xm_Root_law xb_Root_law_805 _ _ _ = _
        rw [xl_c18 ro 199 L xs (nI (6 * k)) I I1 I2 J J1 J2 r hro i1 hx hm, e6]
        exact h
      | 19, _ =>
        obtain ⟨r, I1, J1, I2, J2, hx, hm, hI2⟩ := p19   ro I J hro0 hI
        obtain ⟨I', J', h⟩ := ih (k + 1) I2 J2 hI2 (by omega) (by omega)
        refine ⟨I', J', ?_⟩
        show xv_ev ro (199 + 1) xm_Root_law xb_Root_law_828 _ _ _ = _
        rw [xl_c19 ro 199 L xs (nI (6 * k)) I I1 I2 J J1 J2 r hro  hx hm, e6]
        exact h
      | 20, _ =>
        obtain ⟨r, I1, J1, I2, J2, hx, hm, hI2⟩ := p20 (xs (nI (6 * k) + 1).toNatClampNeg) (xs (nI (6 * k) + 2).toNatClampNeg)  ro I J hro0 hI
        obtain ⟨I', J', h⟩ := ih (k + 1) I2 J2 hI2 (by omega) (by omega)
        refine ⟨I', J', ?_⟩
        show xv_ev ro (199 + 1) xm_Root_law xb_Root_law_841 _ _ _ = _
        rw [xl_c20 ro 199 L xs (nI (6 * k)) I I1 I2 J J1 J2 r hro i1 i2 hx hm, e6]
        exact h
      | 21, _ =>
        obtain ⟨r, I1, J1, I2, J2, hx, hm, hI2⟩ := p21 (xs (nI (6 * k) + 1).toNatClampNeg) (xs (nI (6 * k) + 2).toNatClampNeg) (xs (nI (6 * k) + 3).toNatClampNeg)  ro I J hro0 hI
        obtain ⟨I', J', h⟩ := ih (k + 1) I2 J2 hI2 (by omega) (by omega)
        refine ⟨I', J', ?_⟩
        show xv_ev ro (199 + 1) xm_Root_law xb_Root_law_874 _ _ _ = _
        rw [xl_c21 ro 199 L xs (nI (6 * k)) I I1 I2 J J1 J2 r hro i1 i2 i3 hx hm, e6]
        exact h
      | 22, _ =>
        obtain ⟨r, I1, J1, I2, J2, hx, hm, hI2⟩ := p22 (xs (nI (6 * k) + 1).toNatClampNeg)  ro I J hro0 hI
        obtain ⟨I', J', h⟩ := ih (k + 1) I2 J2 hI2 (by omega) (by omega)
        refine ⟨I', J', ?_⟩
        show xv_ev ro (199 + 1) xm_Root_law xb_Root_law_917 _ _ _ = _
        rw [xl_c22 ro 199 L xs (nI (6 * k)) I I1 I2 J J1 J2 r hro i1 hx hm, e6]
        exact h
      | 23, _ =>
        obtain ⟨r, I1, J1, I2, J2, hx, hm, hI2⟩ := p23 (xs (nI (6 * k) + 1).toNatClampNeg) (xs (nI (6 * k) + 2).toNatClampNeg) (xs (nI (6 * k) + 3).toNatClampNeg)  ro I J hro0 hI
        obtain ⟨I', J', h⟩ := ih (k + 1) I2 J2 hI2 (by omega) (by omega)
        refine ⟨I', J', ?_⟩
        show xv_ev ro (199 + 1) xm_Root_law xb_Root_law_940 _ _ _ = _
        rw [xl_c23 ro 199 L xs (nI (6 * k)) I I1 I2 J J1 J2 r hro i1 i2 i3 hx hm, e6]
        exact h
      | 24, _ =>
        obtain ⟨r, I1, J1, I2, J2, hx, hm, hI2⟩ := p24 (xs (nI (6 * k) + 1).toNatClampNeg) (xs (nI (6 * k) + 2).toNatClampNeg) (xs (nI (6 * k) + 3).toNatClampNeg)  ro I J hro0 hI
        obtain ⟨I', J', h⟩ := ih (k + 1) I2 J2 hI2 (by omega) (by omega)
        refine ⟨I', J', ?_⟩
        show xv_ev ro (199 + 1) xm_Root_law xb_Root_law_983 _ _ _ = _
        rw [xl_c24 ro 199 L xs (nI (6 * k)) I I1 I2 J J1 J2 r hro i1 i2 i3 hx hm, e6]
        exact h
      | 25, _ =>
        obtain ⟨r, I1, J1, I2, J2, hx, hm, hI2⟩ := p25 (xs (nI (6 * k) + 1).toNatClampNeg) (xs (nI (6 * k) + 2).toNatClampNeg)  ro I J hro0 hI
        obtain ⟨I', J', h⟩ := ih (k + 1) I2 J2 hI2 (by omega) (by omega)
        refine ⟨I', J', ?_⟩
        show xv_ev ro (199 + 1) xm_Root_law xb_Root_law_1026 _ _ _ = _
        rw [xl_c25 ro 199 L xs (nI (6 * k)) I I1 I2 J J1 J2 r hro i1 i2 hx hm, e6]
        exact h
      | 26, _ =>
        obtain ⟨r, I1, J1, I2, J2, hx, hm, hI2⟩ := p26 (xs (nI (6 * k) + 1).toNatClampNeg) (xs (nI (6 * k) + 2).toNatClampNeg)  ro I J hro0 hI
        obtain ⟨I', J', h⟩ := ih (k + 1) I2 J2 hI2 (by omega) (by omega)
        refine ⟨I', J', ?_⟩
        show xv_ev ro (199 + 1) xm_Root_law xb_Root_law_1059 _ _ _ = _
        rw [xl_c26 ro 199 L xs (nI (6 * k)) I I1 I2 J J1 J2 r hro i1 i2 hx hm, e6]
        exact h
      | 27, _ =>
        obtain ⟨r, I1, J1, I2, J2, hx, hm, hI2⟩ := p27 (xs (nI (6 * k) + 1).toNatClampNeg)  ro I J hro0 hI
        obtain ⟨I', J', h⟩ := ih (k + 1) I2 J2 hI2 (by omega) (by omega)
        refine ⟨I', J', ?_⟩
        show xv_ev ro (199 + 1) xm_Root_law xb_Root_law_1092 _ _ _ = _
        rw [xl_c27 ro 199 L xs (nI (6 * k)) I I1 I2 J J1 J2 r hro i1 hx hm, e6]
        exact h
      | 28, _ =>
        obtain ⟨r, I1, J1, I2, J2, hx, hm, hI2⟩ := p28   ro I J hro0 hI
        obtain ⟨I', J', h⟩ := ih (k + 1) I2 J2 hI2 (by omega) (by omega)
        refine ⟨I', J', ?_⟩
        show xv_ev ro (199 + 1) xm_Root_law xb_Root_law_1115 _ _ _ = _
        rw [xl_c28 ro 199 L xs (nI (6 * k)) I I1 I2 J J1 J2 r hro  hx hm, e6]
        exact h
      | 29, _ =>
        obtain ⟨r, I1, J1, I2, J2, hx, hm, hI2⟩ := p29   ro I J hro0 hI
        obtain ⟨I', J', h⟩ := ih (k + 1) I2 J2 hI2 (by omega) (by omega)
        refine ⟨I', J', ?_⟩
        show xv_ev ro (199 + 1) xm_Root_law xb_Root_law_1128 _ _ _ = _
        rw [xl_c29 ro 199 L xs (nI (6 * k)) I I1 I2 J J1 J2 r hro  hx hm, e6]
        exact h
      | 30, _ =>
        obtain ⟨r, I1, J1, I2, J2, hx, hm, hI2⟩ := p30 (xs (nI (6 * k) + 1).toNatClampNeg) (xs (nI (6 * k) + 2).toNatClampNeg)  ro I J hro0 hI
        obtain ⟨I', J', h⟩ := ih (k + 1) I2 J2 hI2 (by omega) (by omega)
        refine ⟨I', J', ?_⟩
        show xv_ev ro (199 + 1) xm_Root_law xb_Root_law_1141 _ _ _ = _
        rw [xl_c30 ro 199 L xs (nI (6 * k)) I I1 I2 J J1 J2 r hro i1 i2 hx hm, e6]
        exact h
      | 31, _ =>
        obtain ⟨r, I1, J1, I2, J2, hx, hm, hI2⟩ := p31 (xs (nI (6 * k) + 1).toNatClampNeg)  ro I J hro0 hI
        obtain ⟨I', J', h⟩ := ih (k + 1) I2 J2 hI2 (by omega) (by omega)
        refine ⟨I', J', ?_⟩
        show xv_ev ro (199 + 1) xm_Root_law xb_Root_law_1174 _ _ _ = _
        rw [xl_c31 ro 199 L xs (nI (6 * k)) I I1 I2 J J1 J2 r hro i1 hx hm, e6]
        exact h
      | j + 32, hj => exact absurd hj (by omega)
theorem xl_goal_of (Inv : xv_V) (h0 : Inv xv_I0 xv_J0) (hall : xl_all Inv) : xv_goal := by
  intro L xs hL
  obtain ⟨I', J', h⟩ := xl_loop Inv hall (xs := xs) hL 600 0 xv_I0 xv_J0 h0 (by omega) (by omega)
  have h2 : xv_ev (xv_ro L xs) 200 xm_Root_law xb_Root_law_0 [some (.ref 1000001), none, none, none] [] xv_s0 = some (some (.int 1), (xv_SZ, xv_mk I' J')) := (xl_start _).trans h
  obtain ⟨n, hn⟩ := xv_ev_iff.mp h2
  exact ⟨n, _, hn, (by show (200 : Nat) ≤ 600000; omega), (by show (5355 : Nat) ≤ 7302250; omega)⟩
