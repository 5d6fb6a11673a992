/-! PAIR: skins -/
theorem vs_fr_s {p : Nat → Bool} (i : Nat) : vs_fr p (i + 1) 0 = (vs_fr p i 0 && p i) := by
  cases h1 : (vs_fr p i 0 && p i) with
  | true =>
    rw [Bool.and_eq_true, vs_fri] at h1
    rw [vs_fri]
    intro j _ hj
    by_cases e : j = i
    · rw [e]; exact h1.2
    · exact h1.1 j (Nat.zero_le j) (by omega)
  | false =>
    cases h2 : vs_fr p (i + 1) 0 with
    | false => rfl
    | true =>
      rw [vs_fri] at h2
      have h3 : vs_fr p i 0 = true := by
        rw [vs_fri]
        intro j _ hj
        exact h2 j (Nat.zero_le j) (by omega)
      rw [h3, h2 i (Nat.zero_le i) (by omega)] at h1
      cases h1
def bz_o (w : Nat → Nat) (R : Nat) (i : Nat) : Bool := decide (1 ≤ w i ∧ w i ≤ min 99 R)
theorem xq_lay (ro : xv_Ro) (d : Nat) (z : Nat × Nat) (I : Nat → Nat → Int32) (J : Nat → Nat → Int64) {w : Nat → Nat} {n R : Nat} (hn : I 1 2 = nI n) (hn2 : n ≤ 10) (hR : R ≤ 255) (hb : ∀ j, j < n → w j < 256 ∧ I 2 j = nI (w j)) : ∃ W : Nat → Nat → Int32, xv_evm ro (d + 1) 183 [.ref 156, .ref 1, .int (nI n), .int (nI R)] (z, xv_mk I J) = some (some (.int (if vs_fr (bz_o w R) n 0 = true then 1 else 0)), (z, xv_mk W J)) ∧ W 156 3 = nI n ∧ W 156 4 = nI R ∧ (∀ j, j < n → W 157 j = nI (w j)) ∧ ∀ a, a ≠ 156 → a ≠ 157 → W a = I a := by
  have gm : (10 < nI n) = False := by (simp (disch := omega) only [vz_all, if_true, if_false, true_or, or_true, eq_self, ite_not, Bool.false_eq_true, ite_self, and_self, true_and, and_true, false_and, and_false, not_true_eq_false, not_false_eq_true, false_or, or_false])
  have step : ∀ i, i ≤ n → ∃ W : Nat → Nat → Int32, xv_evm ro (d + 1) 183 [.ref 156, .ref 1, .int (nI n), .int (nI R)] (z, xv_mk I J) = xv_ev ro (d + 1) xm_Boxes_lay xb_Boxes_lay_21 [some (.ref 156), some (.ref 1), some (.int (nI n)), some (.int (nI R)), some (.int (if vs_fr (bz_o w R) i 0 = true then 1 else 0)), some (.int (nI i))] [] (z, xv_mk W J) ∧ W 156 3 = nI n ∧ W 156 4 = nI R ∧ (∀ j, j < i → W 157 j = nI (w j)) ∧ ∀ a, a ≠ 156 → a ≠ 157 → W a = I a := by
    intro i
    induction i with
    | zero =>
      intro _
      refine ⟨xv_u2 (xv_u2 I 156 3 (nI n)) 156 4 (nI R), ?_, by (repeat (first | rw [xu_ne2 (by omega)] | rw [xu_ne (by omega)] | rw [xu_eq])), by (repeat (first | rw [xu_ne2 (by omega)] | rw [xu_ne (by omega)] | rw [xu_eq])), fun j hj => by omega, fun a q1 q2 => by (repeat (first | rw [xu_ne2 (by omega)] | rw [xu_ne (by omega)] | rw [xu_eq]))⟩
      rw [xe_Boxes_lay, if_pos (show vs_fr (bz_o w R) 0 0 = true from rfl)]
      simp only [xr_all, xf_all, if_true, if_false, true_or, or_true, eq_self, ite_not, Bool.false_eq_true, ite_self, and_self, true_and, and_true, false_and, and_false, not_true_eq_false, not_false_eq_true, xj_Boxes_lay, xb_Boxes_lay_0, xb_Boxes_lay_89, xb_Boxes_lay_90, xb_Boxes_lay_98, gm]
      rfl
    | succ i ih =>
      intro hi
      obtain ⟨W, a1, a2, a3, a4, a5⟩ := ih (by omega)
      obtain ⟨b1, b2⟩ := hb i (by omega)
      have hby := xq_Tape_byteAt ro d z W J (n := n) (i := i) (by rw [a5 1 (by omega) (by omega)]; exact hn) (by omega) (by omega)
      rw [a5 2 (by omega) (by omega), b2] at hby
      refine ⟨xv_u2 W 157 i (nI (w i)), ?_, by (repeat (first | rw [xu_ne2 (by omega)] | rw [xu_ne (by omega)] | rw [xu_eq])); exact a2, by (repeat (first | rw [xu_ne2 (by omega)] | rw [xu_ne (by omega)] | rw [xu_eq])); exact a3, fun j hj => ?_, fun a q1 q2 => by (repeat (first | rw [xu_ne2 (by omega)] | rw [xu_ne (by omega)] | rw [xu_eq])); exact a5 a q1 q2⟩
      · rw [a1, vs_fr_s]
        have g1 : (nI n ≤ nI i) = False := by (simp (disch := omega) only [vz_all, if_true, if_false, true_or, or_true, eq_self, ite_not, Bool.false_eq_true, ite_self, and_self, true_and, and_true, false_and, and_false, not_true_eq_false, not_false_eq_true, false_or, or_false])
        have g2 : (10 ≤ nI i) = False := by (simp (disch := omega) only [vz_all, if_true, if_false, true_or, or_true, eq_self, ite_not, Bool.false_eq_true, ite_self, and_self, true_and, and_true, false_and, and_false, not_true_eq_false, not_false_eq_true, false_or, or_false])
        have g3 : xv_inB (nI i) 10 = true := by (simp (disch := omega) only [vz_all, if_true, if_false, true_or, or_true, eq_self, ite_not, Bool.false_eq_true, ite_self, and_self, true_and, and_true, false_and, and_false, not_true_eq_false, not_false_eq_true, false_or, or_false])
        have ci := nI_clamp (show i < 2 ^ 31 by omega)
        have e4 : xv_u2 W 157 i (nI (w i)) 156 4 = nI R := by (repeat (first | rw [xu_ne2 (by omega)] | rw [xu_ne (by omega)] | rw [xu_eq])); exact a3
        have gmm : (if 99 < nI R then 99 else nI R) = nI (min 99 R) := by
          by_cases c : 99 < R
          · have q : (99 < nI R) = True := by (simp (disch := omega) only [vz_all, if_true, if_false, true_or, or_true, eq_self, ite_not, Bool.false_eq_true, ite_self, and_self, true_and, and_true, false_and, and_false, not_true_eq_false, not_false_eq_true, false_or, or_false])
            rw [if_pos (q.mpr trivial), show min 99 R = 99 by omega]; rfl
          · have q : (99 < nI R) = False := by (simp (disch := omega) only [vz_all, if_true, if_false, true_or, or_true, eq_self, ite_not, Bool.false_eq_true, ite_self, and_self, true_and, and_true, false_and, and_false, not_true_eq_false, not_false_eq_true, false_or, or_false])
            rw [if_neg (fun g => by rw [q] at g; exact g), show min 99 R = R by omega]
        have z1 : ((1 : Int32) = 0) = False := eq_false (by decide)
        conv => lhs; unfold xb_Boxes_lay_21
        cases hp : vs_fr (bz_o w R) i 0 with
        | false =>
          rw [Bool.false_and, if_neg (by decide)]
          simp only [xr_all, xf_all, if_true, if_false, true_or, or_true, eq_self, ite_not, Bool.false_eq_true, ite_self, and_self, true_and, and_true, false_and, and_false, not_true_eq_false, not_false_eq_true, xj_Boxes_lay, xb_Boxes_lay_0, xb_Boxes_lay_89, xb_Boxes_lay_90, xb_Boxes_lay_98, a2, g1, g2, g3, ci, hby, nI_1]
        | true =>
          rw [Bool.true_and, if_pos rfl]
          by_cases c1 : 1 ≤ w i
          · have q1 : (nI (w i) < 1) = False := by (simp (disch := omega) only [vz_all, if_true, if_false, true_or, or_true, eq_self, ite_not, Bool.false_eq_true, ite_self, and_self, true_and, and_true, false_and, and_false, not_true_eq_false, not_false_eq_true, false_or, or_false])
            by_cases c2 : w i ≤ min 99 R
            · have q2 : (nI (min 99 R) < nI (w i)) = False := by (simp (disch := omega) only [vz_all, if_true, if_false, true_or, or_true, eq_self, ite_not, Bool.false_eq_true, ite_self, and_self, true_and, and_true, false_and, and_false, not_true_eq_false, not_false_eq_true, false_or, or_false])
              have ho : bz_o w R i = true := decide_eq_true ⟨c1, c2⟩
              rw [ho, if_pos rfl]
              simp only [xr_all, xf_all, if_true, if_false, true_or, or_true, eq_self, ite_not, Bool.false_eq_true, ite_self, and_self, true_and, and_true, false_and, and_false, not_true_eq_false, not_false_eq_true, xj_Boxes_lay, xb_Boxes_lay_0, xb_Boxes_lay_89, xb_Boxes_lay_90, xb_Boxes_lay_98, a2, g1, g2, g3, ci, hby, z1, xu_eq, q1, e4, gmm, q2, nI_1]
            · have q2 : (nI (min 99 R) < nI (w i)) = True := by (simp (disch := omega) only [vz_all, if_true, if_false, true_or, or_true, eq_self, ite_not, Bool.false_eq_true, ite_self, and_self, true_and, and_true, false_and, and_false, not_true_eq_false, not_false_eq_true, false_or, or_false])
              have ho : bz_o w R i = false := decide_eq_false (fun q => c2 q.2)
              rw [ho, if_neg (by decide)]
              simp only [xr_all, xf_all, if_true, if_false, true_or, or_true, eq_self, ite_not, Bool.false_eq_true, ite_self, and_self, true_and, and_true, false_and, and_false, not_true_eq_false, not_false_eq_true, xj_Boxes_lay, xb_Boxes_lay_0, xb_Boxes_lay_89, xb_Boxes_lay_90, xb_Boxes_lay_98, a2, g1, g2, g3, ci, hby, z1, xu_eq, q1, e4, gmm, q2, nI_1]
          · have q1 : (nI (w i) < 1) = True := by (simp (disch := omega) only [vz_all, if_true, if_false, true_or, or_true, eq_self, ite_not, Bool.false_eq_true, ite_self, and_self, true_and, and_true, false_and, and_false, not_true_eq_false, not_false_eq_true, false_or, or_false])
            have ho : bz_o w R i = false := decide_eq_false (fun q => c1 q.1)
            rw [ho, if_neg (by decide)]
            simp only [xr_all, xf_all, if_true, if_false, true_or, or_true, eq_self, ite_not, Bool.false_eq_true, ite_self, and_self, true_and, and_true, false_and, and_false, not_true_eq_false, not_false_eq_true, xj_Boxes_lay, xb_Boxes_lay_0, xb_Boxes_lay_89, xb_Boxes_lay_90, xb_Boxes_lay_98, a2, g1, g2, g3, ci, hby, z1, xu_eq, q1, nI_1]
      · by_cases e : j = i
        · rw [e, xu_eq]
        · rw [xu_ne2 (by omega)]; exact a4 j (by omega)
  obtain ⟨W, a1, a2, a3, a4, a5⟩ := step n (Nat.le_refl n)
  refine ⟨W, ?_, a2, a3, a4, a5⟩
  rw [a1]
  have g1 : (nI n ≤ nI n) = True := by (simp (disch := omega) only [vz_all, if_true, if_false, true_or, or_true, eq_self, ite_not, Bool.false_eq_true, ite_self, and_self, true_and, and_true, false_and, and_false, not_true_eq_false, not_false_eq_true, false_or, or_false])
  conv => lhs; unfold xb_Boxes_lay_21
  cases vs_fr (bz_o w R) n 0 with
  | false => simp only [xr_all, xf_all, if_true, if_false, true_or, or_true, eq_self, ite_not, Bool.false_eq_true, ite_self, and_self, true_and, and_true, false_and, and_false, not_true_eq_false, not_false_eq_true, xj_Boxes_lay, xb_Boxes_lay_0, xb_Boxes_lay_89, xb_Boxes_lay_90, xb_Boxes_lay_98, a2, g1]
  | true => simp only [xr_all, xf_all, if_true, if_false, true_or, or_true, eq_self, ite_not, Bool.false_eq_true, ite_self, and_self, true_and, and_true, false_and, and_false, not_true_eq_false, not_false_eq_true, xj_Boxes_lay, xb_Boxes_lay_0, xb_Boxes_lay_89, xb_Boxes_lay_90, xb_Boxes_lay_98, a2, g1]
def vz_w (W : Nat → Nat → Int32) (r : Nat) (X : Nat → Int32) (i : Nat) : Nat → Nat → Int32 := fun a j => if a = r ∧ j < i then X j else W a j
theorem vz_w0 (W : Nat → Nat → Int32) (r : Nat) (X : Nat → Int32) : vz_w W r X 0 = W := by
  funext a j
  unfold vz_w
  rw [if_neg (by omega)]
theorem vz_ws (W : Nat → Nat → Int32) (r : Nat) (X : Nat → Int32) (i : Nat) : xv_u2 (vz_w W r X i) r i (X i) = vz_w W r X (i + 1) := by
  funext a j
  unfold xv_u2 vz_w
  by_cases h : a = r
  · by_cases h2 : j = i
    · rw [if_pos ⟨h, h2⟩, if_pos ⟨h, by omega⟩, h2]
    · rw [if_neg (by omega)]
      by_cases h3 : j < i
      · rw [if_pos ⟨h, h3⟩, if_pos ⟨h, by omega⟩]
      · rw [if_neg (by omega), if_neg (by omega)]
  · rw [if_neg (by omega), if_neg (by omega), if_neg (by omega)]
theorem vz_wo (W : Nat → Nat → Int32) {r : Nat} (X : Nat → Int32) (i : Nat) {a : Nat} (h : a ≠ r) : vz_w W r X i a = W a := by
  funext j
  unfold vz_w
  rw [if_neg (by omega)]
theorem vz_wi (W : Nat → Nat → Int32) (r : Nat) (X : Nat → Int32) {i j : Nat} (h : j < i) : vz_w W r X i r j = X j := if_pos ⟨rfl, h⟩
/-- the fewest boxes, and the row -/
def bz_k (w : Nat → Nat) (R n : Nat) : Nat → Nat → Nat × (Nat → Nat)
  | 0, B => (B, fun j => j)
  | m + 1, B => match bz_p w R B n 0 0 (fun _ => 0) (fun _ => 0) with
    | some r => (B, r)
    | none => bz_k w R n m (B + 1)
theorem bz_ks (w : Nat → Nat) (R n m B : Nat) : bz_k w R n (m + 1) B = match bz_p w R B n 0 0 (fun _ => 0) (fun _ => 0) with
    | some r => (B, r)
    | none => bz_k w R n m (B + 1) := rfl
theorem bz_k_le (w : Nat → Nat) (R n : Nat) : ∀ m B, (bz_k w R n m B).1 ≤ B + m := by
  intro m
  induction m with
  | zero => intro B; exact Nat.le_refl B
  | succ m ih =>
    intro B
    rw [bz_ks]
    cases bz_p w R B n 0 0 (fun _ => 0) (fun _ => 0) with
    | some r => dsimp only; omega
    | none => have := ih (B + 1); dsimp only; omega
theorem xq_packW (ro : xv_Ro) (z : Nat × Nat) (J : Nat → Nat → Int64) {w : Nat → Nat} {R n : Nat} (hn1 : 1 ≤ n) (hn : n ≤ 10) (hR : R ≤ 255) (hw : ∀ i, i < n → w i ≤ 99) : ∀ (m B : Nat) (W : Nat → Nat → Int32) (u : Option Value), B + m = n → 1 ≤ B → W 156 3 = nI n → W 156 4 = nI R → (∀ j, j < n → W 157 j = nI (w j)) → ∃ W1 : Nat → Nat → Int32, xv_ev ro 198 xm_Boxes_pack xb_Boxes_pack_2 [some (.ref 156), some (.int (nI B)), u] [] (z, xv_mk W J) = some (some (.int (nI (bz_k w R n m B).1)), (z, xv_mk W1 J)) ∧ (∀ j, j < n → W1 158 j = nI ((bz_k w R n m B).2 j)) ∧ ∀ a, a ≠ 158 → a ≠ 159 → W1 a = W a := by
  intro m
  induction m with
  | zero =>
    intro B W u hB hB1 h3 h4 h5
    obtain rfl : B = n := by omega
    have g1 : (nI B ≤ nI B) = True := by (simp (disch := omega) only [vz_all, if_true, if_false, true_or, or_true, eq_self, ite_not, Bool.false_eq_true, ite_self, and_self, true_and, and_true, false_and, and_false, not_true_eq_false, not_false_eq_true, false_or, or_false])
    have hl := vz_iter (fun i => xv_ev ro 198 xm_Boxes_pack xb_Boxes_pack_51 [some (.ref 156), some (.int (nI i)), u] [] (z, xv_mk (vz_w W 158 nI i) J)) 10 (fun i hi => by
      have q1 : (10 ≤ nI i) = False := by (simp (disch := omega) only [vz_all, if_true, if_false, true_or, or_true, eq_self, ite_not, Bool.false_eq_true, ite_self, and_self, true_and, and_true, false_and, and_false, not_true_eq_false, not_false_eq_true, false_or, or_false])
      have q2 : xv_inB (nI i) 10 = true := by (simp (disch := omega) only [vz_all, if_true, if_false, true_or, or_true, eq_self, ite_not, Bool.false_eq_true, ite_self, and_self, true_and, and_true, false_and, and_false, not_true_eq_false, not_false_eq_true, false_or, or_false])
      conv => lhs; unfold xb_Boxes_pack_51
      simp only [xr_all, xf_all, if_true, if_false, true_or, or_true, eq_self, ite_not, Bool.false_eq_true, ite_self, and_self, true_and, and_true, false_and, and_false, not_true_eq_false, not_false_eq_true, xj_Boxes_pack, xb_Boxes_pack_0, xb_Boxes_pack_31, xb_Boxes_pack_43, xb_Boxes_pack_49, xb_Boxes_pack_70, q1, q2, nI_clamp (show i < 2 ^ 31 by omega), vz_ws, nI_1])
    rw [vz_w0, show nI 0 = (0 : Int32) from rfl] at hl
    refine ⟨vz_w W 158 nI 10, ?_, fun j hj => vz_wi W 158 nI (by omega), fun a q1 q2 => vz_wo W nI 10 q1⟩
    have e3 : vz_w W 158 nI 10 156 3 = nI B := by rw [vz_wo W nI 10 (by omega)]; exact h3
    conv => lhs; unfold xb_Boxes_pack_2
    simp only [xr_all, xf_all, if_true, if_false, true_or, or_true, eq_self, ite_not, Bool.false_eq_true, ite_self, and_self, true_and, and_true, false_and, and_false, not_true_eq_false, not_false_eq_true, xj_Boxes_pack, xb_Boxes_pack_0, xb_Boxes_pack_31, xb_Boxes_pack_43, xb_Boxes_pack_49, xb_Boxes_pack_70, h3, g1]
    rw [hl]
    have q1 : (10 ≤ nI 10) = True := eq_true (by decide)
    conv => lhs; unfold xb_Boxes_pack_51
    simp only [xr_all, xf_all, if_true, if_false, true_or, or_true, eq_self, ite_not, Bool.false_eq_true, ite_self, and_self, true_and, and_true, false_and, and_false, not_true_eq_false, not_false_eq_true, xj_Boxes_pack, xb_Boxes_pack_0, xb_Boxes_pack_31, xb_Boxes_pack_43, xb_Boxes_pack_49, xb_Boxes_pack_70, q1, e3]
    rfl
  | succ m ih =>
    intro B W u hB hB1 h3 h4 h5
    have g1 : (nI n ≤ nI B) = False := by (simp (disch := omega) only [vz_all, if_true, if_false, true_or, or_true, eq_self, ite_not, Bool.false_eq_true, ite_self, and_self, true_and, and_true, false_and, and_false, not_true_eq_false, not_false_eq_true, false_or, or_false])
    have hl := vz_iter (fun i => xv_ev ro 198 xm_Boxes_pack xb_Boxes_pack_12 [some (.ref 156), some (.int (nI B)), some (.int (nI i))] [] (z, xv_mk (vz_w W 159 (fun _ => 0) i) J)) 10 (fun i hi => by
      have q1 : (10 ≤ nI i) = False := by (simp (disch := omega) only [vz_all, if_true, if_false, true_or, or_true, eq_self, ite_not, Bool.false_eq_true, ite_self, and_self, true_and, and_true, false_and, and_false, not_true_eq_false, not_false_eq_true, false_or, or_false])
      have q2 : xv_inB (nI i) 10 = true := by (simp (disch := omega) only [vz_all, if_true, if_false, true_or, or_true, eq_self, ite_not, Bool.false_eq_true, ite_self, and_self, true_and, and_true, false_and, and_false, not_true_eq_false, not_false_eq_true, false_or, or_false])
      have e := vz_ws W 159 (fun _ => 0) i
      conv => lhs; unfold xb_Boxes_pack_12
      simp only [xr_all, xf_all, if_true, if_false, true_or, or_true, eq_self, ite_not, Bool.false_eq_true, ite_self, and_self, true_and, and_true, false_and, and_false, not_true_eq_false, not_false_eq_true, xj_Boxes_pack, xb_Boxes_pack_0, xb_Boxes_pack_31, xb_Boxes_pack_43, xb_Boxes_pack_49, xb_Boxes_pack_70, q1, q2, nI_clamp (show i < 2 ^ 31 by omega), e, nI_1])
    rw [vz_w0, show nI 0 = (0 : Int32) from rfl] at hl
    have hZ : ∀ a, a ≠ 159 → vz_w W 159 (fun _ => 0) 10 a = W a := fun a q => vz_wo W (fun _ => 0) 10 q
    have hZ9 : ∀ b, b < 10 → vz_w W 159 (fun _ => 0) 10 159 b = nI ((fun _ => 0 : Nat → Nat) b) := fun b hb => vz_wi W 159 (fun _ => 0) hb
    generalize vz_w W 159 (fun _ => 0) 10 = V at *
    obtain ⟨W1, w1, w2, w3⟩ := xq_place ro (197 - n) z J (B := B) hn (by omega) hR hw n 0 0 (fun _ => 0) (fun _ => 0) V (by omega) (Nat.le_refl 0) (fun _ => Nat.zero_le _) (by rw [hZ 156 (by omega)]; exact h3) (by rw [hZ 156 (by omega)]; exact h4) (fun j hj => by rw [hZ 157 (by omega)]; exact h5 j hj) hZ9 (fun j hj => by omega)
    rw [show 197 - n + n = 197 by omega, show nI 0 = (0 : Int32) from rfl] at w3
    rw [bz_ks]
    have q10 : (10 ≤ nI 10) = True := eq_true (by decide)
    rcases w3 with ⟨r, r1, r2, r3⟩ | ⟨r1, r2, r3⟩
    · rw [r1]
      refine ⟨W1, ?_, r3, fun a q1 q2 => by rw [w1 a q1 q2, hZ a q2]⟩
      have z1 : ((1 : Int32) = 0) = False := eq_false (by decide)
      conv => lhs; unfold xb_Boxes_pack_2
      simp only [xr_all, xf_all, if_true, if_false, true_or, or_true, eq_self, ite_not, Bool.false_eq_true, ite_self, and_self, true_and, and_true, false_and, and_false, not_true_eq_false, not_false_eq_true, xj_Boxes_pack, xb_Boxes_pack_0, xb_Boxes_pack_31, xb_Boxes_pack_43, xb_Boxes_pack_49, xb_Boxes_pack_70, h3, g1]
      rw [hl]
      conv => lhs; unfold xb_Boxes_pack_12
      simp only [xr_all, xf_all, if_true, if_false, true_or, or_true, eq_self, ite_not, Bool.false_eq_true, ite_self, and_self, true_and, and_true, false_and, and_false, not_true_eq_false, not_false_eq_true, xj_Boxes_pack, xb_Boxes_pack_0, xb_Boxes_pack_31, xb_Boxes_pack_43, xb_Boxes_pack_49, xb_Boxes_pack_70, q10, r2, z1]
    · rw [r1]
      obtain ⟨W2, v1, v2, v3⟩ := ih (B + 1) W1 (some (.int (nI 10))) (by omega) (by omega) (by rw [w1 156 (by omega) (by omega), hZ 156 (by omega)]; exact h3) (by rw [w1 156 (by omega) (by omega), hZ 156 (by omega)]; exact h4) (fun j hj => by rw [w1 157 (by omega) (by omega), hZ 157 (by omega)]; exact h5 j hj)
      refine ⟨W2, ?_, v2, fun a q1 q2 => by rw [v3 a q1 q2, w1 a q1 q2, hZ a q2]⟩
      conv => lhs; unfold xb_Boxes_pack_2
      simp only [xr_all, xf_all, if_true, if_false, true_or, or_true, eq_self, ite_not, Bool.false_eq_true, ite_self, and_self, true_and, and_true, false_and, and_false, not_true_eq_false, not_false_eq_true, xj_Boxes_pack, xb_Boxes_pack_0, xb_Boxes_pack_31, xb_Boxes_pack_43, xb_Boxes_pack_49, xb_Boxes_pack_70, h3, g1]
      rw [hl]
      conv => lhs; unfold xb_Boxes_pack_12
      simp only [xr_all, xf_all, if_true, if_false, true_or, or_true, eq_self, ite_not, Bool.false_eq_true, ite_self, and_self, true_and, and_true, false_and, and_false, not_true_eq_false, not_false_eq_true, xj_Boxes_pack, xb_Boxes_pack_0, xb_Boxes_pack_31, xb_Boxes_pack_43, xb_Boxes_pack_49, xb_Boxes_pack_70, q10, r2, nI_1, v1]
