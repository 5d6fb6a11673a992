/-! the scales of the class -/
theorem vq_bit (x : Int32) {v : Nat} (hv : v < 32) : ((x >>> (nI v &&& 31)) &&& 1 = 1) = ((vq_N x).testBit v = true) := by
  have h1 : (x >>> (nI v &&& 31)) &&& 1 = nI ((x >>> (nI v &&& 31)).toBitVec.toNat % 2 ^ 1) := pk_and _ 1 (by decide)
  have h2 : ((x >>> (nI v &&& 31)).toBitVec.toNat).testBit 0 = (vq_N x).testBit v := by
    show (x >>> (nI v &&& 31)).toBitVec.getLsbD 0 = x.toBitVec.getLsbD v
    show (x.toBitVec.sshiftRight ((nI v &&& 31).toBitVec.smod 32).toNat).getLsbD 0 = _
    rw [vb_sm32 v hv, BitVec.getLsbD_sshiftRight]
    simp [hv]
  rw [h1]
  rw [Nat.testBit_zero] at h2
  have h3 := Nat.mod_two_eq_zero_or_one ((x >>> (nI v &&& 31)).toBitVec.toNat)
  rw [show 2 ^ 1 = 2 from rfl]
  generalize (x >>> (nI v &&& 31)).toBitVec.toNat % 2 = q at *
  rw [← h2]
  apply propext
  rcases h3 with h3 | h3
  · rw [h3]
    constructor
    · intro h; exact absurd h (by decide)
    · intro h; exact absurd h (by decide)
  · rw [h3]
    constructor
    · intro _; rfl
    · intro _; rfl
theorem xu_xu {α : Type} {I : Nat → Nat → α} {o a : Nat} {x y : α} : xv_u2 (xv_u2 I o a x) o a y = xv_u2 I o a y := by
  funext a' b'
  unfold xv_u2
  by_cases h : a' = o ∧ b' = a
  · rw [if_pos h, if_pos h]
  · rw [if_neg h, if_neg h, if_neg h]
/-- the first v weights in row r -/
def vg_J (J : Nat → Nat → Int64) (r : Nat) (X : Nat → Nat) (v : Nat) : Nat → Nat → Int64 := fun a j => if a = r ∧ j < v then lN (X j) else J a j
theorem vg_J0 (J : Nat → Nat → Int64) (r : Nat) (X : Nat → Nat) : vg_J J r X 0 = J := by
  funext a j
  unfold vg_J
  rw [if_neg (by omega)]
theorem vg_Js (J : Nat → Nat → Int64) (r : Nat) (X : Nat → Nat) (v : Nat) : xv_u2 (vg_J J r X v) r v (lN (X v)) = vg_J J r X (v + 1) := by
  funext a j
  unfold xv_u2 vg_J
  by_cases h : a = r
  · by_cases h2 : j = v
    · rw [if_pos ⟨h, h2⟩, if_pos ⟨h, by omega⟩, h2]
    · rw [if_neg (by omega)]
      by_cases h3 : j < v
      · rw [if_pos ⟨h, h3⟩, if_pos ⟨h, by omega⟩]
      · rw [if_neg (by omega), if_neg (by omega)]
  · rw [if_neg (by omega), if_neg (by omega), if_neg (by omega)]
theorem vg_Jo (J : Nat → Nat → Int64) {r : Nat} (X : Nat → Nat) (v : Nat) {a : Nat} (h : a ≠ r) : vg_J J r X v a = J a := by
  funext j
  unfold vg_J
  rw [if_neg (by omega)]
theorem vg_Ji (J : Nat → Nat → Int64) (r : Nat) (X : Nat → Nat) {v j : Nat} (h : j < v) : vg_J J r X v r j = lN (X j) := if_pos ⟨rfl, h⟩
theorem vg_Jr (J : Nat → Nat → Int64) (r : Nat) (X : Nat → Nat) {v j : Nat} (h : v ≤ j) : vg_J J r X v r j = J r j := if_neg (by omega)
def vg_Pk (p : Nat → Nat) (v : Nat) : Nat → Nat
  | 0 => 1
  | f + 1 => vg_Pk p v f * (if v.testBit f = true then p f else 10 - p f)
theorem xq_Scales_start (ro : xv_Ro) (d : Nat) (z : Nat × Nat) (C : Nat → Nat → Int32) (J : Nat → Nat → Int64) {p : Nat → Nat} (hp : ∀ f, f < 5 → p f ≤ 10 ∧ C 23 f = nI (p f)) : xv_evm ro d 236 [.ref 22] (z, xv_mk C J) = some (none, (z, xv_mk C (vg_J J 24 (fun v => vg_Pk p v 5) 32))) := by
  rw [xe_Scales_start]
  simp only [xr_all, xf_all, if_true, if_false, true_or, or_true, eq_self, ite_not, Bool.false_eq_true, ite_self, and_self, true_and, and_true, false_and, and_false, not_true_eq_false, not_false_eq_true, xj_Scales_start, xb_Scales_start_0, xb_Scales_start_48, xb_Scales_start_58, xb_Scales_start_66, xb_Scales_start_72]
  have hin : ∀ v, v < 32 → xv_ev ro d xm_Scales_start xb_Scales_start_17 [some (.ref 22), some (.int (nI v)), some (.int 0)] [] (z, xv_mk C (xv_u2 (vg_J J 24 (fun v => vg_Pk p v 5) v) 24 v (lN 1))) = xv_ev ro d xm_Scales_start xb_Scales_start_17 [some (.ref 22), some (.int (nI v)), some (.int (nI 5))] [] (z, xv_mk C (xv_u2 (vg_J J 24 (fun v => vg_Pk p v 5) v) 24 v (lN (vg_Pk p v 5)))) := by
    intro v hv
    have hl := vz_iter (fun f => xv_ev ro d xm_Scales_start xb_Scales_start_17 [some (.ref 22), some (.int (nI v)), some (.int (nI f))] [] (z, xv_mk C (xv_u2 (vg_J J 24 (fun v => vg_Pk p v 5) v) 24 v (lN (vg_Pk p v f))))) 5 (fun f hf => by
      obtain ⟨p1, p2⟩ := hp f hf
      have hs : vg_Pk p v (f + 1) = vg_Pk p v f * (if v.testBit f = true then p f else 10 - p f) := rfl
      have g1 : (5 ≤ nI f) = False := by (simp (disch := omega) only [vz_all, if_true, if_false, true_or, or_true, eq_self, ite_not, Bool.false_eq_true, ite_self, and_self, true_and, and_true, false_and, and_false, not_true_eq_false, not_false_eq_true, false_or, or_false])
      have g2 : xv_inB (nI f) 5 = true := by (simp (disch := omega) only [vz_all, if_true, if_false, true_or, or_true, eq_self, ite_not, Bool.false_eq_true, ite_self, and_self, true_and, and_true, false_and, and_false, not_true_eq_false, not_false_eq_true, false_or, or_false])
      have g3 : xv_inB (nI v) 32 = true := by (simp (disch := omega) only [vz_all, if_true, if_false, true_or, or_true, eq_self, ite_not, Bool.false_eq_true, ite_self, and_self, true_and, and_true, false_and, and_false, not_true_eq_false, not_false_eq_true, false_or, or_false])
      have g4 := vb_bit1 (m := v) (k := f) (by omega) (by omega)
      have g5 : 10 - nI (p f) = nI (10 - p f) := by (simp (disch := omega) only [vz_all, if_true, if_false, true_or, or_true, eq_self, ite_not, Bool.false_eq_true, ite_self, and_self, true_and, and_true, false_and, and_false, not_true_eq_false, not_false_eq_true, false_or, or_false])
      have c1 := nI_clamp (show f < 2 ^ 31 by omega)
      have c2 := nI_clamp (show v < 2 ^ 31 by omega)
      have l1 := nI_l (show p f < 2 ^ 31 by omega)
      have l2 := nI_l (show 10 - p f < 2 ^ 31 by omega)
      conv => lhs; unfold xb_Scales_start_17
      by_cases c : v.testBit f = true
      · rw [if_pos c] at hs
        have c4 := g4.trans (eq_true c)
        simp only [xr_all, xf_all, if_true, if_false, true_or, or_true, eq_self, ite_not, Bool.false_eq_true, ite_self, and_self, true_and, and_true, false_and, and_false, not_true_eq_false, not_false_eq_true, xj_Scales_start, xb_Scales_start_0, xb_Scales_start_48, xb_Scales_start_58, xb_Scales_start_66, xb_Scales_start_72, g1, g2, g3, c1, c2, c4, p2, l1, xu_eq, lN_mul, xu_xu, nI_1, hs]
      · rw [if_neg c] at hs
        have c4 := g4.trans (eq_false c)
        simp only [xr_all, xf_all, if_true, if_false, true_or, or_true, eq_self, ite_not, Bool.false_eq_true, ite_self, and_self, true_and, and_true, false_and, and_false, not_true_eq_false, not_false_eq_true, xj_Scales_start, xb_Scales_start_0, xb_Scales_start_48, xb_Scales_start_58, xb_Scales_start_66, xb_Scales_start_72, g1, g2, g3, c1, c2, c4, p2, g5, l2, xu_eq, lN_mul, xu_xu, nI_1, hs])
    exact hl
  have hl := vz_down (fun v => ∀ u, xv_ev ro d xm_Scales_start xb_Scales_start_2 [some (.ref 22), some (.int (nI v)), u] [] (z, xv_mk C (vg_J J 24 (fun v => vg_Pk p v 5) v)) = some (none, (z, xv_mk C (vg_J J 24 (fun v => vg_Pk p v 5) 32)))) 32 (fun v hv ih u => by
    have g1 : (32 ≤ nI v) = False := by (simp (disch := omega) only [vz_all, if_true, if_false, true_or, or_true, eq_self, ite_not, Bool.false_eq_true, ite_self, and_self, true_and, and_true, false_and, and_false, not_true_eq_false, not_false_eq_true, false_or, or_false])
    have g3 : xv_inB (nI v) 32 = true := by (simp (disch := omega) only [vz_all, if_true, if_false, true_or, or_true, eq_self, ite_not, Bool.false_eq_true, ite_self, and_self, true_and, and_true, false_and, and_false, not_true_eq_false, not_false_eq_true, false_or, or_false])
    have c2 := nI_clamp (show v < 2 ^ 31 by omega)
    have h1 := hin v hv
    have g5 : (5 ≤ nI 5) = True := eq_true (by decide)
    rw [show lN 1 = (1 : Int64) from rfl] at h1
    have h2 : xv_ev ro d xm_Scales_start xb_Scales_start_17 [some (.ref 22), some (.int (nI v)), some (.int (nI 5))] [] (z, xv_mk C (xv_u2 (vg_J J 24 (fun v => vg_Pk p v 5) v) 24 v (lN (vg_Pk p v 5)))) = some (none, (z, xv_mk C (vg_J J 24 (fun v => vg_Pk p v 5) 32))) := by
      rw [vg_Js J 24 (fun v => vg_Pk p v 5) v]
      conv => lhs; unfold xb_Scales_start_17
      simp only [xr_all, xf_all, if_true, if_false, true_or, or_true, eq_self, ite_not, Bool.false_eq_true, ite_self, and_self, true_and, and_true, false_and, and_false, not_true_eq_false, not_false_eq_true, xj_Scales_start, xb_Scales_start_0, xb_Scales_start_48, xb_Scales_start_58, xb_Scales_start_66, xb_Scales_start_72, g5, nI_1, ih]
    conv => lhs; unfold xb_Scales_start_2
    simp only [xr_all, xf_all, if_true, if_false, true_or, or_true, eq_self, ite_not, Bool.false_eq_true, ite_self, and_self, true_and, and_true, false_and, and_false, not_true_eq_false, not_false_eq_true, xj_Scales_start, xb_Scales_start_0, xb_Scales_start_48, xb_Scales_start_58, xb_Scales_start_66, xb_Scales_start_72, g1, g3, c2, h1, h2]) (fun u => by
    conv => lhs; unfold xb_Scales_start_2
    have g1 : (32 ≤ nI 32) = True := eq_true (by decide)
    simp only [xr_all, xf_all, if_true, if_false, true_or, or_true, eq_self, ite_not, Bool.false_eq_true, ite_self, and_self, true_and, and_true, false_and, and_false, not_true_eq_false, not_false_eq_true, xj_Scales_start, xb_Scales_start_0, xb_Scales_start_48, xb_Scales_start_58, xb_Scales_start_66, xb_Scales_start_72, g1])
  have h0 := hl none
  rw [vg_J0, show nI 0 = (0 : Int32) from rfl] at h0
  exact h0
theorem xq_Scales_add (ro : xv_Ro) (d : Nat) (z : Nat × Nat) (C : Nat → Nat → Int32) (J : Nat → Nat → Int64) {I : Nat → Nat → Int32} {fn : Nat → (Nat → Int32) → Nat} (hf : vl_fn I fn) (hC : ∀ a, 5 ≤ a → a < 12 → C a = I a) {o : Nat} (ho : vN o) (h2 : C o 2 = 0 ∨ C o 2 = 1) (h3 : C o 3 = 0 ∨ C o 3 = 1) (x : Int32) {X : Nat → Nat} (hX : ∀ v, v < 32 → J 24 v = lN (X v)) : ∃ (C1 : Nat → Nat → Int32) (J1 : Nat → Nat → Int64), (∀ a, a ≠ 21 → C1 a = C a) ∧ (∀ a, a ≠ 12 → a ≠ 24 → J1 a = J a) ∧ (∀ v, v < 32 → J1 24 v = lN (X v * (if (vq_N x).testBit v = true then vg_W fn C o 1 else vg_W fn C o 0))) ∧ xv_evm ro (d + 5) 237 [.ref 22, .ref o, .int x, .ref 5, .ref 21] (z, xv_mk C J) = some (none, (z, xv_mk C1 J1)) := by
  obtain ⟨C1, J1, a1, a2, a3⟩ := xq_weight ro d z C J hf hC ho h2 h3 1 (Or.inr rfl)
  have ho21 : o ≠ 21 := by
    intro q
    have := (vN_f ho).2.2.2.2.2.2.2.2
    rw [q] at this
    revert this; decide
  obtain ⟨C2, J2, b1, b2, b3⟩ := xq_weight ro d z C1 J1 hf (fun a q1 q2 => by rw [a1 a (by omega)]; exact hC a q1 q2) ho (by rw [a1 o ho21]; exact h2) (by rw [a1 o ho21]; exact h3) 0 (Or.inl rfl)
  rw [vg_W_c fn (a1 o ho21)] at b3
  have w1 := vg_W_le hf C o 1
  have w0 := vg_W_le hf C o 0
  refine ⟨C2, vg_J J2 24 (fun v => X v * (if (vq_N x).testBit v = true then vg_W fn C o 1 else vg_W fn C o 0)) 32, fun a ha => by rw [b1 a ha, a1 a ha], fun a q1 q2 => by rw [vg_Jo _ _ _ q2, b2 a q1, a2 a q1], fun v hv => vg_Ji _ _ _ hv, ?_⟩
  rw [xe_Scales_add]
  generalize vg_W fn C o 1 = W1 at *
  generalize vg_W fn C o 0 = W0 at *
  simp only [xr_all, xf_all, if_true, if_false, true_or, or_true, eq_self, ite_not, Bool.false_eq_true, ite_self, and_self, true_and, and_true, false_and, and_false, not_true_eq_false, not_false_eq_true, xj_Scales_add, xb_Scales_add_0, xb_Scales_add_54, xb_Scales_add_57, xb_Scales_add_65, vN_f ho, a3, b3]
  have hl := vz_iter (fun v => xv_ev ro (d + 5) xm_Scales_add xb_Scales_add_23 [some (.ref 22), some (.ref o), some (.int x), some (.ref 5), some (.ref 21), some (.int (nI W1)), some (.int (nI W0)), some (.int (nI v))] [] (z, xv_mk C2 (vg_J J2 24 (fun v => X v * (if (vq_N x).testBit v = true then W1 else W0)) v))) 32 (fun v hv => by
    have g1 : (32 ≤ nI v) = False := by (simp (disch := omega) only [vz_all, if_true, if_false, true_or, or_true, eq_self, ite_not, Bool.false_eq_true, ite_self, and_self, true_and, and_true, false_and, and_false, not_true_eq_false, not_false_eq_true, false_or, or_false])
    have g3 : xv_inB (nI v) 32 = true := by (simp (disch := omega) only [vz_all, if_true, if_false, true_or, or_true, eq_self, ite_not, Bool.false_eq_true, ite_self, and_self, true_and, and_true, false_and, and_false, not_true_eq_false, not_false_eq_true, false_or, or_false])
    have c2 := nI_clamp (show v < 2 ^ 31 by omega)
    have g4 := vq_bit x hv
    have e : vg_J J2 24 (fun v => X v * (if (vq_N x).testBit v = true then W1 else W0)) v 24 v = lN (X v) := by
      rw [vg_Jr _ _ _ (Nat.le_refl v), b2 24 (by omega), a2 24 (by omega)]; exact hX v hv
    have hs := vg_Js J2 24 (fun v => X v * (if (vq_N x).testBit v = true then W1 else W0)) v
    have l1 := nI_l (show W1 < 2 ^ 31 by omega)
    have l2 := nI_l (show W0 < 2 ^ 31 by omega)
    conv => lhs; unfold xb_Scales_add_23
    by_cases c : (vq_N x).testBit v = true
    · have c4 := g4.trans (eq_true c)
      have e5 : (if (vq_N x).testBit v = true then W1 else W0) = W1 := if_pos c
      rw [e5] at hs
      simp only [xr_all, xf_all, if_true, if_false, true_or, or_true, eq_self, ite_not, Bool.false_eq_true, ite_self, and_self, true_and, and_true, false_and, and_false, not_true_eq_false, not_false_eq_true, xj_Scales_add, xb_Scales_add_0, xb_Scales_add_54, xb_Scales_add_57, xb_Scales_add_65, g1, g3, c2, c4, e, l1, lN_mul, hs, nI_1]
    · have c4 := g4.trans (eq_false c)
      have e5 : (if (vq_N x).testBit v = true then W1 else W0) = W0 := if_neg c
      rw [e5] at hs
      simp only [xr_all, xf_all, if_true, if_false, true_or, or_true, eq_self, ite_not, Bool.false_eq_true, ite_self, and_self, true_and, and_true, false_and, and_false, not_true_eq_false, not_false_eq_true, xj_Scales_add, xb_Scales_add_0, xb_Scales_add_54, xb_Scales_add_57, xb_Scales_add_65, g1, g3, c2, c4, e, l2, lN_mul, hs, nI_1])
  rw [vg_J0, show nI 0 = (0 : Int32) from rfl] at hl
  rw [hl]
  conv => lhs; unfold xb_Scales_add_23
  have g1 : (32 ≤ nI 32) = True := eq_true (by decide)
  simp only [xr_all, xf_all, if_true, if_false, true_or, or_true, eq_self, ite_not, Bool.false_eq_true, ite_self, and_self, true_and, and_true, false_and, and_false, not_true_eq_false, not_false_eq_true, xj_Scales_add, xb_Scales_add_0, xb_Scales_add_54, xb_Scales_add_57, xb_Scales_add_65, g1]
def vg_S (X : Nat → Nat) (b : Nat → Bool) : Nat → Nat
  | 0 => 0
  | v + 1 => vg_S X b v + (if b v = true then X v else 0)
theorem vg_S_c {X Y : Nat → Nat} {b c : Nat → Bool} {n : Nat} (h : ∀ v, v < n → X v = Y v ∧ b v = c v) : vg_S X b n = vg_S Y c n := by
  induction n with
  | zero => rfl
  | succ n ih =>
    show vg_S X b n + (if b n = true then X n else 0) = vg_S Y c n + (if c n = true then Y n else 0)
    rw [ih (fun v hv => h v (by omega)), (h n (by omega)).1, (h n (by omega)).2]
theorem vg_S_le {X : Nat → Nat} {b : Nat → Bool} {n m : Nat} (h : ∀ v, v < n → X v ≤ m) : vg_S X b n ≤ n * m := by
  induction n with
  | zero => exact Nat.zero_le _
  | succ n ih =>
    show vg_S X b n + (if b n = true then X n else 0) ≤ (n + 1) * m
    have h1 := ih (fun v hv => h v (by omega))
    have h2 := h n (by omega)
    rw [Nat.succ_mul]
    split <;> omega
theorem vg_S_mono {X : Nat → Nat} {b : Nat → Bool} (n : Nat) : vg_S X b n ≤ vg_S X (fun _ => true) n := by
  induction n with
  | zero => exact Nat.le_refl _
  | succ n ih =>
    show vg_S X b n + (if b n = true then X n else 0) ≤ vg_S X (fun _ => true) n + (if true = true then X n else 0)
    rw [if_pos rfl]
    split <;> omega
theorem xq_within (ro : xv_Ro) (d : Nat) (z : Nat × Nat) (C : Nat → Nat → Int32) (J : Nat → Nat → Int64) (x : Int32) {X : Nat → Nat} (hX : ∀ v, v < 32 → J 24 v = lN (X v)) : xv_evm ro d 238 [.ref 22, .int x] (z, xv_mk C J) = some (some (.long (lN (vg_S X (fun v => (vq_N x).testBit v) 32))), (z, xv_mk C J)) := by
  rw [xe_Scales_within]
  simp only [xr_all, xf_all, if_true, if_false, true_or, or_true, eq_self, ite_not, Bool.false_eq_true, ite_self, and_self, true_and, and_true, false_and, and_false, not_true_eq_false, not_false_eq_true, xj_Scales_within, xb_Scales_within_0, xb_Scales_within_33, xb_Scales_within_34, xb_Scales_within_42]
  have hl := vz_iter (fun v => xv_ev ro d xm_Scales_within xb_Scales_within_5 [some (.ref 22), some (.int x), some (.long (lN (vg_S X (fun v => (vq_N x).testBit v) v))), none, some (.int (nI v))] [] (z, xv_mk C J)) 32 (fun v hv => by
    have hs : vg_S X (fun v => (vq_N x).testBit v) (v + 1) = vg_S X (fun v => (vq_N x).testBit v) v + (if (vq_N x).testBit v = true then X v else 0) := rfl
    have g1 : (32 ≤ nI v) = False := by (simp (disch := omega) only [vz_all, if_true, if_false, true_or, or_true, eq_self, ite_not, Bool.false_eq_true, ite_self, and_self, true_and, and_true, false_and, and_false, not_true_eq_false, not_false_eq_true, false_or, or_false])
    have g3 : xv_inB (nI v) 32 = true := by (simp (disch := omega) only [vz_all, if_true, if_false, true_or, or_true, eq_self, ite_not, Bool.false_eq_true, ite_self, and_self, true_and, and_true, false_and, and_false, not_true_eq_false, not_false_eq_true, false_or, or_false])
    have c2 := nI_clamp (show v < 2 ^ 31 by omega)
    have g4 := vq_bit x hv
    have e := hX v hv
    rw [hs]
    generalize vg_S X (fun v => (vq_N x).testBit v) v = S
    conv => lhs; unfold xb_Scales_within_5
    by_cases c : (vq_N x).testBit v = true
    · have c4 := g4.trans (eq_true c)
      simp only [xr_all, xf_all, if_true, if_false, true_or, or_true, eq_self, ite_not, Bool.false_eq_true, ite_self, and_self, true_and, and_true, false_and, and_false, not_true_eq_false, not_false_eq_true, xj_Scales_within, xb_Scales_within_0, xb_Scales_within_33, xb_Scales_within_34, xb_Scales_within_42, g1, g3, c2, c4, c, e, lN_add, nI_1]
    · have c4 := g4.trans (eq_false c)
      simp only [xr_all, xf_all, if_true, if_false, true_or, or_true, eq_self, ite_not, Bool.false_eq_true, ite_self, and_self, true_and, and_true, false_and, and_false, not_true_eq_false, not_false_eq_true, xj_Scales_within, xb_Scales_within_0, xb_Scales_within_33, xb_Scales_within_34, xb_Scales_within_42, g1, c4, c, nI_1, Int64.add_zero, Nat.add_zero])
  have e0 : vg_S X (fun v => (vq_N x).testBit v) 0 = 0 := rfl
  rw [e0, show nI 0 = (0 : Int32) from rfl, show lN 0 = (0 : Int64) from rfl] at hl
  rw [hl]
  generalize vg_S X (fun v => (vq_N x).testBit v) 32 = S
  conv => lhs; unfold xb_Scales_within_5
  have g1 : (32 ≤ nI 32) = True := eq_true (by decide)
  simp only [xr_all, xf_all, if_true, if_false, true_or, or_true, eq_self, ite_not, Bool.false_eq_true, ite_self, and_self, true_and, and_true, false_and, and_false, not_true_eq_false, not_false_eq_true, xj_Scales_within, xb_Scales_within_0, xb_Scales_within_33, xb_Scales_within_34, xb_Scales_within_42, g1]
theorem vq_m1b : ∀ v, v < 32 → (vq_N (-1)).testBit v = true := by decide +kernel
theorem xq_all (ro : xv_Ro) (d : Nat) (z : Nat × Nat) (C : Nat → Nat → Int32) (J : Nat → Nat → Int64) {X : Nat → Nat} (hX : ∀ v, v < 32 → J 24 v = lN (X v)) : xv_evm ro (d + 1) 239 [.ref 22] (z, xv_mk C J) = some (some (.long (lN (vg_S X (fun _ => true) 32))), (z, xv_mk C J)) := by
  rw [xe_Scales_all]
  have h := xq_within ro d z C J (-1) hX
  rw [vg_S_c (Y := X) (c := fun _ => true) (fun v hv => ⟨rfl, vq_m1b v hv⟩)] at h
  simp only [xr_all, xf_all, if_true, if_false, true_or, or_true, eq_self, ite_not, Bool.false_eq_true, ite_self, and_self, true_and, and_true, false_and, and_false, not_true_eq_false, not_false_eq_true, xj_Scales_all, xb_Scales_all_0, h]
