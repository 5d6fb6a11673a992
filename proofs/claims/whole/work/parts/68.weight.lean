/-! what the law is asked; the weight of an answer, in the class -/
def vl_hi (k : Nat) : Nat := if k = 103 ∨ k = 121 then 20 else 10
def vl_ok (k : Nat) : Prop := k = 108 ∨ k = 99 ∨ k = 103 ∨ k = 121 ∨ k = 98
/-- the law in force as a function of the eight facts: so the class asks it and so the model -/
def vl_fn (I : Nat → Nat → Int32) (fn : Nat → (Nat → Int32) → Nat) : Prop :=
  (∀ k F, fn k F ≤ vl_hi k) ∧ (∀ k F F', (∀ f, f < 8 → F f = F' f) → fn k F = fn k F') ∧
  (∀ (ro : xv_Ro) (d : Nat) (z : Nat × Nat) (C : Nat → Nat → Int32) (J : Nat → Nat → Int64) (k : Nat), vl_ok k → (∀ a, 5 ≤ a → a < 12 → C a = I a) → ∃ J1 : Nat → Nat → Int64, (∀ a, a ≠ 12 → J1 a = J a) ∧ xv_evm ro (d + 3) 210 [.ref 5, .int (nI k), .ref 21] (z, xv_mk C J) = some (some (.int (nI (fn k (C 21)))), (z, xv_mk C J1))) ∧
  (∀ (ro : xv_Ro) (d : Nat) (z : Nat × Nat) (M : Nat → Nat → Int32) (J : Nat → Nat → Int64) (k : Nat), vl_ok k → M 167 16 = I 167 16 → (∀ a, 180 ≤ a → a < 185 → M a = I a) → ∃ M1 : Nat → Nat → Int32, (∀ a, a ≠ 185 → M1 a = M a) ∧ xv_evm ro (d + 3) 80 [.ref 167, .int (nI k), .int (nI (vl_hi k))] (z, xv_mk M J) = some (some (.int (nI (fn k (M 186)))), (z, xv_mk M1 J)))
def vg_u (g : Nat → Int32) (k : Nat) (x : Int32) : Nat → Int32 := fun j => if j = k then x else g j
def vg_K (C : Nat → Nat → Int32) (g : Nat → Int32) : Nat → Nat → Int32 := fun a => if a = 21 then g else C a
theorem vg_Ks (C : Nat → Nat → Int32) : vg_K C (C 21) = C := by
  funext a
  unfold vg_K
  by_cases h : a = 21
  · rw [if_pos h, h]
  · rw [if_neg h]
theorem vg_Ku (C : Nat → Nat → Int32) (g : Nat → Int32) (k : Nat) (x : Int32) : xv_u2 (vg_K C g) 21 k x = vg_K C (vg_u g k x) := by
  funext a j
  unfold xv_u2 vg_K vg_u
  by_cases h : a = 21
  · by_cases h2 : j = k
    · rw [if_pos ⟨h, h2⟩, if_pos h, if_pos h2]
    · rw [if_neg (by omega), if_pos h, if_pos h, if_neg h2]
  · rw [if_neg (by omega), if_neg h, if_neg h]
theorem vg_Ko (C : Nat → Nat → Int32) (g : Nat → Int32) {a : Nat} (h : a ≠ 21) : vg_K C g a = C a := if_neg h
theorem vg_Ki (C : Nat → Nat → Int32) (g : Nat → Int32) : vg_K C g 21 = g := if_pos rfl
theorem xq_Case_open (ro : xv_Ro) (d : Nat) (z : Nat × Nat) (C : Nat → Nat → Int32) (g : Nat → Int32) (J : Nat → Nat → Int64) (w h t : Int32) : xv_evm ro d 188 [.ref 21, .int w, .int h, .int t] (z, xv_mk (vg_K C g) J) = some (none, (z, xv_mk (vg_K C (vg_u (vg_u (vg_u (vg_u (vg_u (vg_u g 0 w) 1 h) 7 t) 4 0) 5 0) 6 0)) J)) := by
  rw [xe_Case_open]
  simp only [xr_all, xf_all, if_true, if_false, true_or, or_true, eq_self, ite_not, Bool.false_eq_true, ite_self, and_self, true_and, and_true, false_and, and_false, not_true_eq_false, not_false_eq_true, xj_Case_open, xb_Case_open_0, vg_Ku]
theorem xq_Case_show (ro : xv_Ro) (d : Nat) (z : Nat × Nat) (C : Nat → Nat → Int32) (g : Nat → Int32) (J : Nat → Nat → Int64) (s l : Int32) : xv_evm ro d 189 [.ref 21, .int s, .int l] (z, xv_mk (vg_K C g) J) = some (none, (z, xv_mk (vg_K C (vg_u (vg_u g 2 s) 3 l)) J)) := by
  rw [xe_Case_show]
  simp only [xr_all, xf_all, if_true, if_false, true_or, or_true, eq_self, ite_not, Bool.false_eq_true, ite_self, and_self, true_and, and_true, false_and, and_false, not_true_eq_false, not_false_eq_true, xj_Case_show, xb_Case_show_0, vg_Ku]
theorem xq_Case_hear (ro : xv_Ro) (d : Nat) (z : Nat × Nat) (C : Nat → Nat → Int32) (g : Nat → Int32) (J : Nat → Nat → Int64) (k h : Int32) (hh : h = 0 ∨ h = 1) : xv_evm ro d 190 [.ref 21, .int k, .int h] (z, xv_mk (vg_K C g) J) = some (none, (z, xv_mk (vg_K C (vg_u (vg_u g 4 k) 5 h)) J)) := by
  rw [xe_Case_hear]
  have z1 : ((1 : Int32) = 0) = False := eq_false (by decide)
  rcases hh with rfl | rfl <;> simp only [xr_all, xf_all, if_true, if_false, true_or, or_true, eq_self, ite_not, Bool.false_eq_true, ite_self, and_self, true_and, and_true, false_and, and_false, not_true_eq_false, not_false_eq_true, xj_Case_hear, xb_Case_hear_0, xb_Case_hear_14, xb_Case_hear_15, vg_Ku, z1]
theorem xq_Case_tellLie (ro : xv_Ro) (d : Nat) (z : Nat × Nat) (C : Nat → Nat → Int32) (g : Nat → Int32) (J : Nat → Nat → Int64) (h : Int32) (hh : h = 0 ∨ h = 1) : xv_evm ro d 191 [.ref 21, .int h] (z, xv_mk (vg_K C g) J) = some (none, (z, xv_mk (vg_K C (vg_u g 6 h)) J)) := by
  rw [xe_Case_tellLie]
  have z1 : ((1 : Int32) = 0) = False := eq_false (by decide)
  rcases hh with rfl | rfl <;> simp only [xr_all, xf_all, if_true, if_false, true_or, or_true, eq_self, ite_not, Bool.false_eq_true, ite_self, and_self, true_and, and_true, false_and, and_false, not_true_eq_false, not_false_eq_true, xj_Case_tellLie, xb_Case_tellLie_0, xb_Case_tellLie_9, xb_Case_tellLie_10, vg_Ku, z1]
def vg_F (C : Nat → Nat → Int32) (o : Nat) (h lies : Int32) : Nat → Int32
  | 0 => C o 0
  | 1 => C o 7
  | 2 => C o 4
  | 3 => C o 5
  | 4 => C o 1
  | 5 => h
  | 6 => lies
  | _ => C o 6
theorem lt8 {f : Nat} (h : f < 8) : f = 0 ∨ f = 1 ∨ f = 2 ∨ f = 3 ∨ f = 4 ∨ f = 5 ∨ f = 6 ∨ f = 7 := by omega
def vg_W (fn : Nat → (Nat → Int32) → Nat) (C : Nat → Nat → Int32) (o : Nat) (h : Int32) : Nat :=
  (if C o 2 = h then 10 - fn 108 (vg_F C o h 0) else fn 108 (vg_F C o h 0)) * (if C o 3 = 1 then fn 99 (vg_F C o h (if C o 2 = h then 0 else 1)) else 10 - fn 99 (vg_F C o h (if C o 2 = h then 0 else 1)))
theorem vg_W_le {I : Nat → Nat → Int32} {fn : Nat → (Nat → Int32) → Nat} (hf : vl_fn I fn) (C : Nat → Nat → Int32) (o : Nat) (h : Int32) : vg_W fn C o h ≤ 100 := by
  have h1 := hf.1 108 (vg_F C o h 0)
  have h2 := hf.1 99 (vg_F C o h (if C o 2 = h then 0 else 1))
  rw [show vl_hi 108 = 10 from rfl] at h1
  rw [show vl_hi 99 = 10 from rfl] at h2
  unfold vg_W
  generalize fn 108 (vg_F C o h 0) = r1 at *
  generalize fn 99 (vg_F C o h (if C o 2 = h then 0 else 1)) = r2 at *
  have e1 : (if C o 2 = h then 10 - r1 else r1) ≤ 10 := by split <;> omega
  have e2 : (if C o 3 = 1 then r2 else 10 - r2) ≤ 10 := by split <;> omega
  exact Nat.mul_le_mul e1 e2
theorem vg_W_c (fn : Nat → (Nat → Int32) → Nat) {C C' : Nat → Nat → Int32} {o : Nat} (h : C' o = C o) (x : Int32) : vg_W fn C' o x = vg_W fn C o x := by
  have e : ∀ y, vg_F C' o x y = vg_F C o x y := by
    intro y
    funext f
    unfold vg_F
    rw [h]
  unfold vg_W
  rw [h, e, e]
def vg_G (C : Nat → Nat → Int32) (o : Nat) (h : Int32) : Nat → Int32 := vg_u (vg_u (vg_u (vg_u (vg_u (vg_u (vg_u (vg_u (vg_u (vg_u (C 21) 0 (C o 0)) 1 (C o 7)) 7 (C o 6)) 4 0) 5 0) 6 0) 2 (C o 4)) 3 (C o 5)) 4 (C o 1)) 5 h
theorem xq_weight (ro : xv_Ro) (d : Nat) (z : Nat × Nat) (C : Nat → Nat → Int32) (J : Nat → Nat → Int64) {I : Nat → Nat → Int32} {fn : Nat → (Nat → Int32) → Nat} (hf : vl_fn I fn) (hC : ∀ a, 5 ≤ a → a < 12 → C a = I a) {o : Nat} (ho : vN o) (h2 : C o 2 = 0 ∨ C o 2 = 1) (h3 : C o 3 = 0 ∨ C o 3 = 1) (h : Int32) (hh : h = 0 ∨ h = 1) : ∃ (C1 : Nat → Nat → Int32) (J1 : Nat → Nat → Int64), (∀ a, a ≠ 21 → C1 a = C a) ∧ (∀ a, a ≠ 12 → J1 a = J a) ∧ xv_evm ro (d + 4) 155 [.ref o, .int h, .ref 5, .ref 21] (z, xv_mk C J) = some (some (.int (nI (vg_W fn C o h))), (z, xv_mk C1 J1)) := by
  obtain ⟨f1, f2, f3, -⟩ := hf
  have ho21 : o ≠ 21 := by
    intro q
    have := (vN_f ho).2.2.2.2.2.2.2.2
    rw [q] at this
    revert this; decide
  have hKC : ∀ g a, 5 ≤ a → a < 12 → vg_K C g a = I a := fun g a b1 b2 => by rw [vg_Ko C g (by omega)]; exact hC a b1 b2
  have rd : ∀ g, vg_K C g o = C o := fun g => vg_Ko C g ho21
  have z1 : ((1 : Int32) = 0) = False := eq_false (by decide)
  have key : ∀ lies : Int32, (lies = 0 ∨ lies = 1) → ∃ J2 : Nat → Nat → Int64, (∀ a, a ≠ 12 → J2 a = J a) ∧ ∃ J1 : Nat → Nat → Int64,
      xv_evm ro (d + 3) 210 [.ref 5, .int (nI 108), .ref 21] (z, xv_mk (vg_K C (vg_u (vg_u (vg_u (vg_u (vg_u (vg_u (vg_u (vg_u (vg_u (vg_u (C 21) 0 (C o 0)) 1 (C o 7)) 7 (C o 6)) 4 0) 5 0) 6 0) 2 (C o 4)) 3 (C o 5)) 4 (C o 1)) 5 h)) J) = some (some (.int (nI (fn 108 (vg_F C o h 0)))), (z, xv_mk (vg_K C (vg_u (vg_u (vg_u (vg_u (vg_u (vg_u (vg_u (vg_u (vg_u (vg_u (C 21) 0 (C o 0)) 1 (C o 7)) 7 (C o 6)) 4 0) 5 0) 6 0) 2 (C o 4)) 3 (C o 5)) 4 (C o 1)) 5 h)) J1)) ∧
      xv_evm ro (d + 3) 210 [.ref 5, .int (nI 99), .ref 21] (z, xv_mk (vg_K C (vg_u (vg_u (vg_u (vg_u (vg_u (vg_u (vg_u (vg_u (vg_u (vg_u (vg_u (C 21) 0 (C o 0)) 1 (C o 7)) 7 (C o 6)) 4 0) 5 0) 6 0) 2 (C o 4)) 3 (C o 5)) 4 (C o 1)) 5 h) 6 lies)) J1) = some (some (.int (nI (fn 99 (vg_F C o h lies)))), (z, xv_mk (vg_K C (vg_u (vg_u (vg_u (vg_u (vg_u (vg_u (vg_u (vg_u (vg_u (vg_u (vg_u (C 21) 0 (C o 0)) 1 (C o 7)) 7 (C o 6)) 4 0) 5 0) 6 0) 2 (C o 4)) 3 (C o 5)) 4 (C o 1)) 5 h) 6 lies)) J2)) := by
    intro lies hlies
    obtain ⟨J1, b1, b2⟩ := f3 ro d z (vg_K C (vg_u (vg_u (vg_u (vg_u (vg_u (vg_u (vg_u (vg_u (vg_u (vg_u (C 21) 0 (C o 0)) 1 (C o 7)) 7 (C o 6)) 4 0) 5 0) 6 0) 2 (C o 4)) 3 (C o 5)) 4 (C o 1)) 5 h)) J 108 (Or.inl rfl) (hKC _)
    obtain ⟨J2, b3, b4⟩ := f3 ro d z (vg_K C (vg_u (vg_u (vg_u (vg_u (vg_u (vg_u (vg_u (vg_u (vg_u (vg_u (vg_u (C 21) 0 (C o 0)) 1 (C o 7)) 7 (C o 6)) 4 0) 5 0) 6 0) 2 (C o 4)) 3 (C o 5)) 4 (C o 1)) 5 h) 6 lies)) J1 99 (Or.inr (Or.inl rfl)) (hKC _)
    rw [vg_Ki, f2 108 _ (vg_F C o h 0) (fun f hf => by rcases lt8 hf with rfl | rfl | rfl | rfl | rfl | rfl | rfl | rfl <;> simp [vg_u, vg_F])] at b2
    rw [vg_Ki, f2 99 _ (vg_F C o h lies) (fun f hf => by rcases lt8 hf with rfl | rfl | rfl | rfl | rfl | rfl | rfl | rfl <;> simp [vg_u, vg_F])] at b4
    exact ⟨J2, fun a ha => by rw [b3 a ha, b1 a ha], J1, b2, b4⟩
  have hb1 := f1 108 (vg_F C o h 0)
  have hb2 := f1 99 (vg_F C o h (if C o 2 = h then 0 else 1))
  rw [show vl_hi 108 = 10 from rfl] at hb1
  rw [show vl_hi 99 = 10 from rfl] at hb2
  rw [show nI 108 = (108 : Int32) from rfl, show nI 99 = (99 : Int32) from rfl] at key
  by_cases c : C o 2 = h
  · obtain ⟨J2, b1, J1, b2, b3⟩ := key 0 (Or.inl rfl)
    refine ⟨vg_K C (vg_u (vg_G C o h) 6 0), J2, fun a ha => vg_Ko C _ ha, b1, ?_⟩
    unfold vg_G
    have hw : vg_W fn C o h = (10 - fn 108 (vg_F C o h 0)) * (if C o 3 = 1 then fn 99 (vg_F C o h 0) else 10 - fn 99 (vg_F C o h 0)) := by unfold vg_W; rw [if_pos c, if_pos c]
    rw [if_pos c] at hb2
    rw [hw]
    generalize fn 108 (vg_F C o h 0) = r1 at *
    generalize fn 99 (vg_F C o h 0) = r2 at *
    have s1 : 10 - nI r1 = nI (10 - r1) := by (simp (disch := omega) only [vz_all, if_true, if_false, true_or, or_true, eq_self, ite_not, Bool.false_eq_true, ite_self, and_self, true_and, and_true, false_and, and_false, not_true_eq_false, not_false_eq_true, false_or, or_false])
    have s2 : 10 - nI r2 = nI (10 - r2) := by (simp (disch := omega) only [vz_all, if_true, if_false, true_or, or_true, eq_self, ite_not, Bool.false_eq_true, ite_self, and_self, true_and, and_true, false_and, and_false, not_true_eq_false, not_false_eq_true, false_or, or_false])
    have hlie := xq_Case_tellLie ro (d + 3) z C (vg_u (vg_u (vg_u (vg_u (vg_u (vg_u (vg_u (vg_u (vg_u (vg_u (C 21) 0 (C o 0)) 1 (C o 7)) 7 (C o 6)) 4 0) 5 0) 6 0) 2 (C o 4)) 3 (C o 5)) 4 (C o 1)) 5 h) J1 0 (Or.inl rfl)
    rw [xe_Answer_weight]
    conv => lhs; rw [← vg_Ks C]
    rcases h3 with h3 | h3
    · have z2 : ((0 : Int32) = 1) = False := eq_false (by decide)
      simp only [xr_all, xf_all, if_true, if_false, true_or, or_true, eq_self, ite_not, Bool.false_eq_true, ite_self, and_self, true_and, and_true, false_and, and_false, not_true_eq_false, not_false_eq_true, xj_Answer_weight, xb_Answer_weight_0, xb_Answer_weight_12, xb_Answer_weight_13, xb_Answer_weight_86, xb_Answer_weight_91, xb_Answer_weight_103, xb_Answer_weight_108, vN_f ho, rd, c, h3, xq_Case_open, xq_Case_show, xq_Case_hear ro (d + 3) z C _ J (C o 1) h hh, b2, hlie, b3, s1, s2, pk_mul, z2]
    · simp only [xr_all, xf_all, if_true, if_false, true_or, or_true, eq_self, ite_not, Bool.false_eq_true, ite_self, and_self, true_and, and_true, false_and, and_false, not_true_eq_false, not_false_eq_true, xj_Answer_weight, xb_Answer_weight_0, xb_Answer_weight_12, xb_Answer_weight_13, xb_Answer_weight_86, xb_Answer_weight_91, xb_Answer_weight_103, xb_Answer_weight_108, vN_f ho, rd, c, h3, z1, xq_Case_open, xq_Case_show, xq_Case_hear ro (d + 3) z C _ J (C o 1) h hh, b2, hlie, b3, s1, s2, pk_mul]
  · obtain ⟨J2, b1, J1, b2, b3⟩ := key 1 (Or.inr rfl)
    refine ⟨vg_K C (vg_u (vg_G C o h) 6 1), J2, fun a ha => vg_Ko C _ ha, b1, ?_⟩
    unfold vg_G
    have hw : vg_W fn C o h = (fn 108 (vg_F C o h 0)) * (if C o 3 = 1 then fn 99 (vg_F C o h 1) else 10 - fn 99 (vg_F C o h 1)) := by unfold vg_W; rw [if_neg c, if_neg c]
    rw [if_neg c] at hb2
    rw [hw]
    generalize fn 108 (vg_F C o h 0) = r1 at *
    generalize fn 99 (vg_F C o h 1) = r2 at *
    have s2 : 10 - nI r2 = nI (10 - r2) := by (simp (disch := omega) only [vz_all, if_true, if_false, true_or, or_true, eq_self, ite_not, Bool.false_eq_true, ite_self, and_self, true_and, and_true, false_and, and_false, not_true_eq_false, not_false_eq_true, false_or, or_false])
    have hlie := xq_Case_tellLie ro (d + 3) z C (vg_u (vg_u (vg_u (vg_u (vg_u (vg_u (vg_u (vg_u (vg_u (vg_u (C 21) 0 (C o 0)) 1 (C o 7)) 7 (C o 6)) 4 0) 5 0) 6 0) 2 (C o 4)) 3 (C o 5)) 4 (C o 1)) 5 h) J1 1 (Or.inr rfl)
    rw [xe_Answer_weight]
    conv => lhs; rw [← vg_Ks C]
    rcases h3 with h3 | h3
    · have z2 : ((0 : Int32) = 1) = False := eq_false (by decide)
      simp only [xr_all, xf_all, if_true, if_false, true_or, or_true, eq_self, ite_not, Bool.false_eq_true, ite_self, and_self, true_and, and_true, false_and, and_false, not_true_eq_false, not_false_eq_true, xj_Answer_weight, xb_Answer_weight_0, xb_Answer_weight_12, xb_Answer_weight_13, xb_Answer_weight_86, xb_Answer_weight_91, xb_Answer_weight_103, xb_Answer_weight_108, vN_f ho, rd, c, h3, z1, xq_Case_open, xq_Case_show, xq_Case_hear ro (d + 3) z C _ J (C o 1) h hh, b2, hlie, b3, s2, pk_mul, z2]
    · simp only [xr_all, xf_all, if_true, if_false, true_or, or_true, eq_self, ite_not, Bool.false_eq_true, ite_self, and_self, true_and, and_true, false_and, and_false, not_true_eq_false, not_false_eq_true, xj_Answer_weight, xb_Answer_weight_0, xb_Answer_weight_12, xb_Answer_weight_13, xb_Answer_weight_86, xb_Answer_weight_91, xb_Answer_weight_103, xb_Answer_weight_108, vN_f ho, rd, c, h3, z1, xq_Case_open, xq_Case_show, xq_Case_hear ro (d + 3) z C _ J (C o 1) h hh, b2, hlie, b3, s2, pk_mul]
