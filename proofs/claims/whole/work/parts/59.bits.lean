/-! sets as numbers: bits, how many, Integer.bitCount and the model's bits -/
def vb_ct (m : Nat) : Nat → Nat
  | 0 => 0
  | n + 1 => vb_ct m n + (if m.testBit n = true then 1 else 0)
theorem vb_ct_le (m n : Nat) : vb_ct m n ≤ n := by
  induction n with
  | zero => exact Nat.le_refl _
  | succ n ih =>
    show vb_ct m n + (if m.testBit n = true then 1 else 0) ≤ n + 1
    split <;> omega
theorem vb_c_c {m q : Nat} : ∀ {n : Nat}, (∀ i, i < n → m.testBit i = q.testBit i) → vb_ct m n = vb_ct q n := by
  intro n
  induction n with
  | zero => intro _; rfl
  | succ n ih =>
    intro h
    show vb_ct m n + (if m.testBit n = true then 1 else 0) = vb_ct q n + (if q.testBit n = true then 1 else 0)
    rw [ih (fun i hi => h i (by omega)), h n (by omega)]
theorem vb_tb8 {a r : Nat} (ha : a < 256) (j : Nat) : (a + 256 * r).testBit j = if j < 8 then a.testBit j else r.testBit (j - 8) := by
  rw [show a + 256 * r = 2 ^ 8 * r + a by omega]
  exact Nat.testBit_two_pow_mul_add r (by omega) j
theorem vb_c8 {a r : Nat} (ha : a < 256) : ∀ k, vb_ct (a + 256 * r) (8 + k) = vb_ct a 8 + vb_ct r k := by
  intro k
  induction k with
  | zero =>
    show vb_ct (a + 256 * r) 8 = vb_ct a 8 + 0
    rw [Nat.add_zero]
    exact vb_c_c (fun i hi => by rw [vb_tb8 ha, if_pos hi])
  | succ k ih =>
    show vb_ct (a + 256 * r) (8 + k) + (if (a + 256 * r).testBit (8 + k) = true then 1 else 0) = vb_ct a 8 + (vb_ct r k + (if r.testBit k = true then 1 else 0))
    have e : (a + 256 * r).testBit (8 + k) = r.testBit k := by rw [vb_tb8 ha, if_neg (by omega), Nat.add_sub_cancel_left]
    rw [ih, e, Nat.add_assoc]
theorem vb_mask {a r m M : Nat} (s : Nat) (hs : s ≤ 8) (ha : a < 256) (hm : m < 2 ^ (8 - s)) : ((a + 256 * r) / 2 ^ s) &&& (m + 256 * M) = ((a / 2 ^ s) &&& m) + 256 * ((r / 2 ^ s) &&& M) := by
  have h1 : (a / 2 ^ s) &&& m < 256 := Nat.lt_of_le_of_lt Nat.and_le_left (Nat.lt_of_le_of_lt (Nat.div_le_self _ _) ha)
  have h2 : m < 256 := Nat.lt_of_lt_of_le hm (Nat.pow_le_pow_right (by omega) (by omega : 8 - s ≤ 8))
  apply Nat.eq_of_testBit_eq
  intro j
  rw [vb_tb8 h1, Nat.testBit_and, vb_tb8 h2, ← Nat.shiftRight_eq_div_pow, Nat.testBit_shiftRight, vb_tb8 ha, Nat.testBit_and, Nat.testBit_and, ← Nat.shiftRight_eq_div_pow, ← Nat.shiftRight_eq_div_pow, Nat.testBit_shiftRight, Nat.testBit_shiftRight]
  by_cases hj : j < 8
  · rw [if_pos hj, if_pos hj]
    by_cases h3 : s + j < 8
    · rw [if_pos h3]
    · have h4 : m.testBit j = false := Nat.testBit_lt_two_pow (Nat.lt_of_lt_of_le hm (Nat.pow_le_pow_right (by omega) (by omega)))
      rw [h4, Bool.and_false, Bool.and_false]
  · rw [if_neg hj, if_neg hj, if_neg (by omega), show s + (j - 8) = s + j - 8 by omega]
theorem vb_by8 : ∀ a, a < 256 → (a / 2 &&& 85) ≤ a ∧ ((a - (a / 2 &&& 85) &&& 51) + ((a - (a / 2 &&& 85)) / 4 &&& 51)) ≤ 68 ∧ a - (a / 2 &&& 85) < 256 ∧ ((a - (a / 2 &&& 85) &&& 51) + ((a - (a / 2 &&& 85)) / 4 &&& 51)) % 16 ≤ 4 ∧ (((a - (a / 2 &&& 85) &&& 51) + ((a - (a / 2 &&& 85)) / 4 &&& 51)) + ((a - (a / 2 &&& 85) &&& 51) + ((a - (a / 2 &&& 85)) / 4 &&& 51)) / 16) % 16 = vb_ct a 8 := by decide +kernel
theorem vb_g16 (A Y : Nat) : (A + 256 * Y) + (A + 256 * Y) / 2 ^ 4 = (A + A / 16 + 16 * (Y % 16)) + 256 * (Y + Y / 2 ^ 4) := by omega
theorem vb_end {p q r s : Nat} (hp : p < 16) (hq : q < 16) (hr : r < 16) (hs : s < 16) : (p + 256 * (q + 256 * (r + 256 * s))) + (p + 256 * (q + 256 * (r + 256 * s))) / 2 ^ 8 < 2 ^ 32 ∧ (((p + 256 * (q + 256 * (r + 256 * s))) + (p + 256 * (q + 256 * (r + 256 * s))) / 2 ^ 8) + ((p + 256 * (q + 256 * (r + 256 * s))) + (p + 256 * (q + 256 * (r + 256 * s))) / 2 ^ 8) / 2 ^ 16) % 64 = (p + q + r + s) % 64 := by
  have e1 : (p + 256 * (q + 256 * (r + 256 * s))) / 2 ^ 8 = q + 256 * (r + 256 * s) := by
    rw [Nat.add_comm, show 2 ^ 8 = 256 from rfl, Nat.mul_add_div (by decide), Nat.div_eq_of_lt (Nat.lt_trans hp (by decide)), Nat.add_zero]
  rw [e1]
  have e3 : p + 256 * (q + 256 * (r + 256 * s)) + (q + 256 * (r + 256 * s)) = 65536 * ((r + s) + 256 * s) + ((p + q) + 256 * (q + r)) := by omega
  have e4 : (p + q) + 256 * (q + r) < 65536 := by omega
  rw [e3, show 2 ^ 16 = 65536 from rfl, Nat.mul_add_div (by decide), Nat.div_eq_of_lt e4, Nat.add_zero]
  constructor
  · omega
  · have e5 : 65536 * (r + s + 256 * s) + (p + q + 256 * (q + r)) + (r + s + 256 * s) = 64 * (1024 * (r + s + 256 * s) + 4 * (q + r) + 4 * s) + (p + q + r + s) := by omega
    rw [e5, Nat.mul_add_mod]
theorem vb_m15 (t : Nat) : t &&& 15 = t % 16 := Nat.and_two_pow_sub_one_eq_mod t 4
theorem vb_sw3a {A Y : Nat} (hA : A ≤ 68) (hY : Y % 16 ≤ 4) : A + A / 16 + 16 * (Y % 16) < 256 := by omega
theorem vb_sw3b (B Y : Nat) : (B + 256 * Y) % 16 = B % 16 := by
  rw [show 256 * Y = 16 * (16 * Y) by omega, Nat.add_mul_mod_self_left]
theorem vb_sw3 {A B C D : Nat} (hA : A ≤ 68) (hB : B ≤ 68) (hC : C ≤ 68) (hD : D ≤ 68) (gB : B % 16 ≤ 4) (gC : C % 16 ≤ 4) (gD : D % 16 ≤ 4) : (A + 256 * (B + 256 * (C + 256 * D))) + (A + 256 * (B + 256 * (C + 256 * D))) / 2 ^ 4 < 2 ^ 32 ∧ (((A + 256 * (B + 256 * (C + 256 * D))) + (A + 256 * (B + 256 * (C + 256 * D))) / 2 ^ 4) &&& 252645135) = (A + A / 16) % 16 + 256 * ((B + B / 16) % 16 + 256 * ((C + C / 16) % 16 + 256 * ((D + D / 16) % 16))) := by
  have g1 := vb_g16 A (B + 256 * (C + 256 * D))
  have g2 := vb_g16 B (C + 256 * D)
  have g3 := vb_g16 C D
  rw [vb_sw3b] at g1 g2
  rw [g3] at g2
  rw [g2] at g1
  rw [g1]
  have b1 : A + A / 16 + 16 * (B % 16) < 256 := vb_sw3a hA gB
  have b2 : B + B / 16 + 16 * (C % 16) < 256 := vb_sw3a hB gC
  have b3 : C + C / 16 + 16 * (D % 16) < 256 := vb_sw3a hC gD
  have b4 : D + D / 2 ^ 4 < 256 := by clear g1 g2 g3 b1 b2 b3; omega
  have q1 := vb_mask (a := A + A / 16 + 16 * (B % 16)) (r := (B + B / 16 + 16 * (C % 16)) + 256 * ((C + C / 16 + 16 * (D % 16)) + 256 * (D + D / 2 ^ 4))) (m := 15) (M := 15 + 256 * (15 + 256 * 15)) 0 (by decide) b1 (by decide)
  have q2 := vb_mask (a := B + B / 16 + 16 * (C % 16)) (r := (C + C / 16 + 16 * (D % 16)) + 256 * (D + D / 2 ^ 4)) (m := 15) (M := 15 + 256 * 15) 0 (by decide) b2 (by decide)
  have q3 := vb_mask (a := C + C / 16 + 16 * (D % 16)) (r := D + D / 2 ^ 4) (m := 15) (M := 15) 0 (by decide) b3 (by decide)
  simp only [Nat.pow_zero, Nat.div_one, vb_m15] at q1 q2 q3
  rw [Nat.add_mul_mod_self_left] at q1 q2 q3
  constructor
  · clear q1 q2 q3 g1 g2 g3
    generalize A + A / 16 + 16 * (B % 16) = w1 at *
    generalize B + B / 16 + 16 * (C % 16) = w2 at *
    generalize C + C / 16 + 16 * (D % 16) = w3 at *
    generalize D + D / 2 ^ 4 = w4 at *
    omega
  · rw [show (252645135 : Nat) = 15 + 256 * (15 + 256 * (15 + 256 * 15)) from rfl, q1, q2, q3]
theorem vb_sw1 {a b c d : Nat} (ha : a < 256) (hb : b < 256) (hc : c < 256) : (a + 256 * (b + 256 * (c + 256 * d))) / 2 ^ 1 &&& 1431655765 = (a / 2 &&& 85) + 256 * ((b / 2 &&& 85) + 256 * ((c / 2 &&& 85) + 256 * (d / 2 &&& 85))) := by
  rw [show (1431655765 : Nat) = 85 + 256 * (85 + 256 * (85 + 256 * 85)) from rfl, vb_mask 1 (by omega) ha (by omega), vb_mask 1 (by omega) hb (by omega), vb_mask 1 (by omega) hc (by omega)]
theorem vb_sw2 {a b c d : Nat} (ha : a < 256) (hb : b < 256) (hc : c < 256) : (a + 256 * (b + 256 * (c + 256 * d)) &&& 858993459) = (a &&& 51) + 256 * ((b &&& 51) + 256 * ((c &&& 51) + 256 * (d &&& 51))) ∧ ((a + 256 * (b + 256 * (c + 256 * d))) / 2 ^ 2 &&& 858993459) = (a / 4 &&& 51) + 256 * ((b / 4 &&& 51) + 256 * ((c / 4 &&& 51) + 256 * (d / 4 &&& 51))) := by
  have q1 := vb_mask (a := a) (r := b + 256 * (c + 256 * d)) (m := 51) (M := 51 + 256 * (51 + 256 * 51)) 0 (by omega) ha (by omega)
  have q2 := vb_mask (a := b) (r := c + 256 * d) (m := 51) (M := 51 + 256 * 51) 0 (by omega) hb (by omega)
  have q3 := vb_mask (a := c) (r := d) (m := 51) (M := 51) 0 (by omega) hc (by omega)
  simp only [Nat.pow_zero, Nat.div_one] at q1 q2 q3
  rw [show (858993459 : Nat) = 51 + 256 * (51 + 256 * (51 + 256 * 51)) from rfl]
  constructor
  · rw [q1, q2, q3]
  · rw [vb_mask 2 (by omega) ha (by omega), vb_mask 2 (by omega) hb (by omega), vb_mask 2 (by omega) hc (by omega)]
theorem vb_sb1 {a b p q : Nat} (h1 : p ≤ a) (h2 : q ≤ b) : (a + 256 * b) - (p + 256 * q) = (a - p) + 256 * (b - q) := by omega
theorem vb_sb {a b c d p q r s : Nat} (h1 : p ≤ a) (h2 : q ≤ b) (h3 : r ≤ c) (h4 : s ≤ d) : (a + 256 * (b + 256 * (c + 256 * d))) - (p + 256 * (q + 256 * (r + 256 * s))) = (a - p) + 256 * ((b - q) + 256 * ((c - r) + 256 * (d - s))) := by
  have g3 : r + 256 * s ≤ c + 256 * d := by omega
  have g2 : q + 256 * (r + 256 * s) ≤ b + 256 * (c + 256 * d) := by omega
  rw [vb_sb1 h1 g2, vb_sb1 h2 g3, vb_sb1 h3 h4]
theorem vb_ad {a b c d p q r s : Nat} : (a + 256 * (b + 256 * (c + 256 * d))) + (p + 256 * (q + 256 * (r + 256 * s))) = (a + p) + 256 * ((b + q) + 256 * ((c + r) + 256 * (d + s))) := by omega
theorem vb_4 {p q r s : Nat} (hp : p ≤ 8) (hq : q ≤ 8) (hr : r ≤ 8) (hs : s ≤ 8) : (p + q + r + s) % 64 = p + (q + (r + s)) := by omega
theorem vb_4b {n : Nat} (hn : n < 2 ^ 32) : ∃ a b c d : Nat, a < 256 ∧ b < 256 ∧ c < 256 ∧ d < 256 ∧ n = a + 256 * (b + 256 * (c + 256 * d)) := by
  refine ⟨n % 256, n / 256 % 256, n / 256 / 256 % 256, n / 256 / 256 / 256, by omega, by omega, by omega, by omega, ?_⟩
  have h1 := Nat.mod_add_div n 256
  have h2 := Nat.mod_add_div (n / 256) 256
  have h3 := Nat.mod_add_div (n / 256 / 256) 256
  omega
theorem vb_swar {n : Nat} (hn : n < 2 ^ 32) : ∃ x1 x2 x3 : Nat, (n / 2 ^ 1 &&& 1431655765) ≤ n ∧ x1 = n - (n / 2 ^ 1 &&& 1431655765) ∧ x2 = (x1 &&& 858993459) + (x1 / 2 ^ 2 &&& 858993459) ∧ x2 + x2 / 2 ^ 4 < 2 ^ 32 ∧ x3 = (x2 + x2 / 2 ^ 4) &&& 252645135 ∧ x3 + x3 / 2 ^ 8 < 2 ^ 32 ∧ ((x3 + x3 / 2 ^ 8) + (x3 + x3 / 2 ^ 8) / 2 ^ 16) % 64 = vb_ct n 32 := by
  obtain ⟨a, b, c, d, ha, hb, hc, hd, hN⟩ := vb_4b hn
  have hv : vb_ct n 32 = vb_ct a 8 + (vb_ct b 8 + (vb_ct c 8 + vb_ct d 8)) := by
    have e1 := vb_c8 (r := b + 256 * (c + 256 * d)) ha 24
    have e2 := vb_c8 (r := c + 256 * d) hb 16
    have e3 := vb_c8 (r := d) hc 8
    rw [hN, e1, e2, e3]
  obtain ⟨a1, a2, a3, a5, a4⟩ := vb_by8 a ha
  obtain ⟨b1, b2, b3, b5, b4⟩ := vb_by8 b hb
  obtain ⟨c1, c2, c3, c5, c4⟩ := vb_by8 c hc
  obtain ⟨d1, d2, d3, d5, d4⟩ := vb_by8 d hd
  have m1 := vb_sw1 (d := d) ha hb hc
  rw [← hN] at m1
  have le1 : (n / 2 ^ 1 &&& 1431655765) ≤ n := Nat.le_trans Nat.and_le_left (Nat.div_le_self _ _)
  have x1 : n - (n / 2 ^ 1 &&& 1431655765) = (a - (a / 2 &&& 85)) + 256 * ((b - (b / 2 &&& 85)) + 256 * ((c - (c / 2 &&& 85)) + 256 * (d - (d / 2 &&& 85)))) := by rw [m1, hN]; exact vb_sb a1 b1 c1 d1
  obtain ⟨m2, m3⟩ := vb_sw2 (a := a - (a / 2 &&& 85)) (b := b - (b / 2 &&& 85)) (c := c - (c / 2 &&& 85)) (d := d - (d / 2 &&& 85)) a3 b3 c3
  rw [← x1] at m2 m3
  obtain ⟨n1, n2⟩ := vb_sw3 a2 b2 c2 d2 b5 c5 d5
  rw [a4, b4, c4, d4] at n2
  have x2 : (n - (n / 2 ^ 1 &&& 1431655765) &&& 858993459) + ((n - (n / 2 ^ 1 &&& 1431655765)) / 2 ^ 2 &&& 858993459) = ((a - (a / 2 &&& 85) &&& 51) + ((a - (a / 2 &&& 85)) / 4 &&& 51)) + 256 * (((b - (b / 2 &&& 85) &&& 51) + ((b - (b / 2 &&& 85)) / 4 &&& 51)) + 256 * (((c - (c / 2 &&& 85) &&& 51) + ((c - (c / 2 &&& 85)) / 4 &&& 51)) + 256 * ((d - (d / 2 &&& 85) &&& 51) + ((d - (d / 2 &&& 85)) / 4 &&& 51)))) := by rw [m2, m3]; exact vb_ad
  rw [← x2] at n1 n2
  have va := vb_ct_le a 8
  have vb := vb_ct_le b 8
  have vc := vb_ct_le c 8
  have vd := vb_ct_le d 8
  obtain ⟨e1, e2⟩ := vb_end (p := vb_ct a 8) (q := vb_ct b 8) (r := vb_ct c 8) (s := vb_ct d 8) (Nat.lt_of_le_of_lt va (by decide)) (Nat.lt_of_le_of_lt vb (by decide)) (Nat.lt_of_le_of_lt vc (by decide)) (Nat.lt_of_le_of_lt vd (by decide))
  rw [← n2] at e1 e2
  exact ⟨_, _, _, le1, rfl, rfl, n1, rfl, e1, by rw [e2, hv, vb_4 va vb vc vd]⟩
def vq_N (x : Int32) : Nat := x.toBitVec.toNat
theorem vq_N_lt (x : Int32) : vq_N x < 2 ^ 32 := x.toBitVec.isLt
theorem vq_nI (x : Int32) : x = nI (vq_N x) := by
  apply Int32.toBitVec_inj.mp
  apply BitVec.eq_of_toNat_eq
  show x.toBitVec.toNat = (BitVec.ofNat 32 _).toNat
  rw [BitVec.toNat_ofNat]
  exact (Nat.mod_eq_of_lt (vq_N_lt x)).symm
theorem vb_nand (a b : Nat) : nI a &&& nI b = nI (a &&& b) := by
  apply Int32.toBitVec_inj.1
  show BitVec.ofNat 32 a &&& BitVec.ofNat 32 b = BitVec.ofNat 32 (a &&& b)
  apply BitVec.eq_of_getLsbD_eq
  intro i hi
  simp [hi]
theorem xq_bitCount (ro : xv_Ro) (d : Nat) (σ : xv_S) (x : Int32) : xv_evm ro d 274 [.int x] σ = some (some (.int (nI (vb_ct (vq_N x) 32))), σ) := by
  rw [xe_Integer_bitCount]
  have hx := vq_nI x
  have hl := vq_N_lt x
  generalize vq_N x = n at *
  subst hx
  obtain ⟨x1, x2, x3, h1, h2, h3, h4, h5, h6, h7⟩ := vb_swar hl
  have hx1 : x1 < 2 ^ 32 := by rw [h2]; exact Nat.lt_of_le_of_lt (Nat.sub_le _ _) hl
  have s1 : ((nI n).toUInt32 >>> ((1 : Int32).toUInt32 &&& Int32.toUInt32 31)).toInt32 = nI (n / 2 ^ 1) := pk_ushrN hl 1 1 (by decide)
  have s2 : ((nI x1).toUInt32 >>> ((2 : Int32).toUInt32 &&& Int32.toUInt32 31)).toInt32 = nI (x1 / 2 ^ 2) := pk_ushrN hx1 2 2 (by decide)
  have s3 : ((nI x2).toUInt32 >>> ((4 : Int32).toUInt32 &&& Int32.toUInt32 31)).toInt32 = nI (x2 / 2 ^ 4) := pk_ushrN (by omega) 4 4 (by decide)
  have s4 : ((nI x3).toUInt32 >>> ((8 : Int32).toUInt32 &&& Int32.toUInt32 31)).toInt32 = nI (x3 / 2 ^ 8) := pk_ushrN (by omega) 8 8 (by decide)
  have s5 : ((nI (x3 + x3 / 2 ^ 8)).toUInt32 >>> ((16 : Int32).toUInt32 &&& Int32.toUInt32 31)).toInt32 = nI ((x3 + x3 / 2 ^ 8) / 2 ^ 16) := pk_ushrN h6 16 16 (by decide)
  have t1 : nI (n / 2 ^ 1) &&& 1431655765 = nI (n / 2 ^ 1 &&& 1431655765) := vb_nand _ 1431655765
  have t2 : nI x1 &&& 858993459 = nI (x1 &&& 858993459) := vb_nand _ 858993459
  have t3 : nI (x1 / 2 ^ 2) &&& 858993459 = nI (x1 / 2 ^ 2 &&& 858993459) := vb_nand _ 858993459
  have t4 : nI (x2 + x2 / 2 ^ 4) &&& 252645135 = nI x3 := by rw [h5]; exact vb_nand _ 252645135
  have t5 : nI ((x3 + x3 / 2 ^ 8) + (x3 + x3 / 2 ^ 8) / 2 ^ 16) &&& 63 = nI (vb_ct n 32) := by
    rw [← h7, ← Nat.and_two_pow_sub_one_eq_mod _ 6]; exact vb_nand _ 63
  have t6 : nI n - nI (n / 2 ^ 1 &&& 1431655765) = nI x1 := by rw [h2]; exact pk_sub h1
  have t7 : nI (x1 &&& 858993459) + nI (x1 / 2 ^ 2 &&& 858993459) = nI x2 := by rw [h3, nI_add]
  simp only [xr_all, xf_all, if_true, if_false, true_or, or_true, eq_self, ite_not, Bool.false_eq_true, ite_self, and_self, true_and, and_true, false_and, and_false, not_true_eq_false, not_false_eq_true, xj_Integer_bitCount, xb_Integer_bitCount_0, s1, t1, t6, t2, s2, t3, t7, s3, nI_add, t4, s4, s5, t5]
theorem vl_bits (ro : xv_Ro) (d : Nat) (σ : xv_S) {m : Nat} (hm : m < 2 ^ 63) : xv_evm ro (d + 1) 45 [.long (lN m)] σ = some (some (.int (nI (vb_ct m 32))), σ) := by
  rw [xe_Mo_bits]
  simp only [xr_all, xf_all, if_true, if_false, true_or, or_true, eq_self, ite_not, Bool.false_eq_true, ite_self, and_self, true_and, and_true, false_and, and_false, not_true_eq_false, not_false_eq_true, xj_Mo_bits, xb_Mo_bits_0, xb_Mo_bits_23, xb_Mo_bits_24, xb_Mo_bits_32]
  have h := vz_iter (fun i => xv_ev ro (d + 1) xm_Mo_bits xb_Mo_bits_4 [some (.long (lN m)), none, some (.int (nI (vb_ct m i))), some (.int (nI i))] [] σ) 32 (fun i hi => by
    have hs : vb_ct m (i + 1) = vb_ct m i + (if m.testBit i = true then 1 else 0) := rfl
    have hh := xq_Mo_has ro d σ hm (show i < 64 by omega)
    have h1 : (32 ≤ nI i) = False := by (simp (disch := omega) only [vz_all, if_true, if_false, true_or, or_true, eq_self, ite_not, Bool.false_eq_true, ite_self, and_self, true_and, and_true, false_and, and_false, not_true_eq_false, not_false_eq_true, false_or, or_false])
    conv => lhs; unfold xb_Mo_bits_4
    by_cases c : m.testBit i = true
    · rw [vz_b1 c] at hh
      rw [if_pos c] at hs
      simp only [xr_all, xf_all, if_true, if_false, true_or, or_true, eq_self, ite_not, Bool.false_eq_true, ite_self, and_self, true_and, and_true, false_and, and_false, not_true_eq_false, not_false_eq_true, xj_Mo_bits, xb_Mo_bits_0, xb_Mo_bits_23, xb_Mo_bits_24, xb_Mo_bits_32, h1, hh, nI_1, hs]
    · rw [vz_b0 c] at hh
      rw [if_neg c] at hs
      simp only [xr_all, xf_all, if_true, if_false, true_or, or_true, eq_self, ite_not, Bool.false_eq_true, ite_self, and_self, true_and, and_true, false_and, and_false, not_true_eq_false, not_false_eq_true, xj_Mo_bits, xb_Mo_bits_0, xb_Mo_bits_23, xb_Mo_bits_24, xb_Mo_bits_32, h1, hh, nI_1, hs, Int32.add_zero, Nat.add_zero])
  have h0 : (nI 0) = (0 : Int32) := rfl
  have c0 : vb_ct m 0 = 0 := rfl
  rw [c0, h0] at h
  rw [h]
  conv => lhs; unfold xb_Mo_bits_4
  have h1 : (32 ≤ nI 32) = True := eq_true (by decide)
  simp only [xr_all, xf_all, if_true, if_false, true_or, or_true, eq_self, ite_not, Bool.false_eq_true, ite_self, and_self, true_and, and_true, false_and, and_false, not_true_eq_false, not_false_eq_true, xj_Mo_bits, xb_Mo_bits_0, xb_Mo_bits_23, xb_Mo_bits_24, xb_Mo_bits_32, h1]
