/-! written numbers; the invariant as one -/
theorem vt_0 : (0 : Int32).toInt = 0 := by decide
theorem vt_1 : (1 : Int32).toInt = 1 := by decide
theorem vt_2 : (2 : Int32).toInt = 2 := by decide
theorem vt_3 : (3 : Int32).toInt = 3 := by decide
theorem vt_4 : (4 : Int32).toInt = 4 := by decide
theorem vt_5 : (5 : Int32).toInt = 5 := by decide
theorem vt_6 : (6 : Int32).toInt = 6 := by decide
theorem vt_7 : (7 : Int32).toInt = 7 := by decide
theorem vt_8 : (8 : Int32).toInt = 8 := by decide
theorem vt_9 : (9 : Int32).toInt = 9 := by decide
theorem vt_10 : (10 : Int32).toInt = 10 := by decide
theorem vt_11 : (11 : Int32).toInt = 11 := by decide
theorem vt_12 : (12 : Int32).toInt = 12 := by decide
theorem vt_13 : (13 : Int32).toInt = 13 := by decide
theorem vt_14 : (14 : Int32).toInt = 14 := by decide
theorem vt_15 : (15 : Int32).toInt = 15 := by decide
theorem vt_16 : (16 : Int32).toInt = 16 := by decide
theorem vt_17 : (17 : Int32).toInt = 17 := by decide
theorem vt_18 : (18 : Int32).toInt = 18 := by decide
theorem vt_19 : (19 : Int32).toInt = 19 := by decide
theorem vt_20 : (20 : Int32).toInt = 20 := by decide
theorem vt_21 : (21 : Int32).toInt = 21 := by decide
theorem vt_22 : (22 : Int32).toInt = 22 := by decide
theorem vt_23 : (23 : Int32).toInt = 23 := by decide
theorem vt_24 : (24 : Int32).toInt = 24 := by decide
theorem vt_25 : (25 : Int32).toInt = 25 := by decide
theorem vt_26 : (26 : Int32).toInt = 26 := by decide
theorem vt_27 : (27 : Int32).toInt = 27 := by decide
theorem vt_28 : (28 : Int32).toInt = 28 := by decide
theorem vt_29 : (29 : Int32).toInt = 29 := by decide
theorem vt_30 : (30 : Int32).toInt = 30 := by decide
theorem vt_31 : (31 : Int32).toInt = 31 := by decide
theorem vt_32 : (32 : Int32).toInt = 32 := by decide
theorem vt_48 : (48 : Int32).toInt = 48 := by decide
theorem vt_57 : (57 : Int32).toInt = 57 := by decide
theorem vt_60 : (60 : Int32).toInt = 60 := by decide
theorem vt_99 : (99 : Int32).toInt = 99 := by decide
theorem vt_100 : (100 : Int32).toInt = 100 := by decide
theorem vt_101 : (101 : Int32).toInt = 101 := by decide
theorem vt_120 : (120 : Int32).toInt = 120 := by decide
theorem vt_130 : (130 : Int32).toInt = 130 := by decide
theorem vt_140 : (140 : Int32).toInt = 140 := by decide
theorem vt_160 : (160 : Int32).toInt = 160 := by decide
theorem vt_180 : (180 : Int32).toInt = 180 := by decide
theorem vt_200 : (200 : Int32).toInt = 200 := by decide
theorem vt_220 : (220 : Int32).toInt = 220 := by decide
theorem vt_240 : (240 : Int32).toInt = 240 := by decide
theorem vt_250 : (250 : Int32).toInt = 250 := by decide
theorem vt_255 : (255 : Int32).toInt = 255 := by decide
theorem vt_256 : (256 : Int32).toInt = 256 := by decide
theorem vt_260 : (260 : Int32).toInt = 260 := by decide
theorem vt_280 : (280 : Int32).toInt = 280 := by decide
theorem vt_300 : (300 : Int32).toInt = 300 := by decide
theorem vt_301 : (301 : Int32).toInt = 301 := by decide
theorem vt_302 : (302 : Int32).toInt = 302 := by decide
theorem vt_303 : (303 : Int32).toInt = 303 := by decide
theorem vt_304 : (304 : Int32).toInt = 304 := by decide
theorem vt_999 : (999 : Int32).toInt = 999 := by decide
theorem vt_1000 : (1000 : Int32).toInt = 1000 := by decide
theorem vt_1023 : (1023 : Int32).toInt = 1023 := by decide
theorem vt_1024 : (1024 : Int32).toInt = 1024 := by decide
theorem vt_65535 : (65535 : Int32).toInt = 65535 := by decide
theorem vt_65536 : (65536 : Int32).toInt = 65536 := by decide
theorem vt_m1 : (-1 : Int32).toInt = -1 := by decide
theorem vt_m2 : (-2 : Int32).toInt = -2 := by decide
theorem vt_m3 : (-3 : Int32).toInt = -3 := by decide
theorem vt_m4 : (-4 : Int32).toInt = -4 := by decide
def vt_all := And.intro (And.intro (And.intro (And.intro (And.intro (And.intro (vt_0) (vt_1)) (And.intro (vt_2) (vt_3))) (And.intro (And.intro (vt_4) (vt_5)) (And.intro (vt_6) (vt_7)))) (And.intro (And.intro (And.intro (vt_8) (vt_9)) (And.intro (vt_10) (vt_11))) (And.intro (And.intro (vt_12) (vt_13)) (And.intro (vt_14) (vt_15))))) (And.intro (And.intro (And.intro (And.intro (vt_16) (vt_17)) (And.intro (vt_18) (vt_19))) (And.intro (And.intro (vt_20) (vt_21)) (And.intro (vt_22) (vt_23)))) (And.intro (And.intro (And.intro (vt_24) (vt_25)) (And.intro (vt_26) (vt_27))) (And.intro (And.intro (vt_28) (vt_29)) (And.intro (vt_30) (And.intro (vt_31) (vt_32))))))) (And.intro (And.intro (And.intro (And.intro (And.intro (vt_48) (vt_57)) (And.intro (vt_60) (vt_99))) (And.intro (And.intro (vt_100) (vt_101)) (And.intro (vt_120) (vt_130)))) (And.intro (And.intro (And.intro (vt_140) (vt_160)) (And.intro (vt_180) (vt_200))) (And.intro (And.intro (vt_220) (vt_240)) (And.intro (vt_250) (And.intro (vt_255) (vt_256)))))) (And.intro (And.intro (And.intro (And.intro (vt_260) (vt_280)) (And.intro (vt_300) (vt_301))) (And.intro (And.intro (vt_302) (vt_303)) (And.intro (vt_304) (vt_999)))) (And.intro (And.intro (And.intro (vt_1000) (vt_1023)) (And.intro (vt_1024) (vt_65535))) (And.intro (And.intro (vt_65536) (vt_m1)) (And.intro (vt_m2) (And.intro (vt_m3) (vt_m4)))))))
abbrev xv_LP : Type := (Nat → Nat → Int32) → Prop
/-- a predicate on the law's rows alone -/
def vi_Lc (VL : xv_LP) : Prop := ∀ I I' : Nat → Nat → Int32, (∀ a, 5 ≤ a → a < 12 → I' a = I a) → I' 167 16 = I 167 16 → (∀ a, 180 ≤ a → a < 185 → I' a = I a) → VL I → VL I'
def vi_all (VL : xv_LP) : xv_V := fun I J => vi_T I ∧ vi_P I ∧ vi_Q I J ∧ vi_A I 25 168 ∧ vi_K I ∧ VL I ∧ vi_B I
theorem vn_gt {N : Nat} (h : N + 1 < 2 ^ 31) (x : Int32) : (nI N < x) = (nI (N + 1) ≤ x) := by
  rw [Int32.lt_iff_toInt_lt, Int32.le_iff_toInt_le, nI_toInt (by omega), nI_toInt (by omega)]
  apply propext; omega
theorem vn_t {n : Nat} (h : n < 2 ^ 31) : (nI n).toInt = n := nI_toInt h
