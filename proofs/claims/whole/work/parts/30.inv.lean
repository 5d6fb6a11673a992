/-! THE INVARIANT: the class's cells and the model's -/
/-- a set of worlds as the model holds it -/
def vq_L (x : Int32) : Int64 := Int64.ofNat x.toBitVec.toNat
def vi_T (I : Nat → Nat → Int32) : Prop := ∃ t : Nat, t ≤ 260 ∧ I 1 1 = nI t ∧ I 167 7 = nI t ∧ ∀ j, j < t → I 2 j = I 173 j &&& 255
def vi_P (I : Nat → Nat → Int32) : Prop := ∀ i, i < 5 → ∃ n : Nat, n ≤ 10 ∧ I 23 i = nI n ∧ I 171 i = nI n
def vi_Q (I : Nat → Nat → Int32) (J : Nat → Nat → Int64) : Prop := (∃ q : Nat, q < 256 ∧ I 3 1 = nI q ∧ I 167 5 = nI q) ∧ ∀ k, k < 8 → J 172 k = vq_L (I 4 k)
/-- the answers of an archive: class at A, model in row B -/
def vi_A1 (I : Nat → Nat → Int32) (A B : Nat) : Prop := ∃ n : Nat, n ≤ 20 ∧ I A 2 = nI n ∧ I B 301 = nI n ∧ ∀ i, i < n → (∀ f, f < 8 → I (A + 23 + i) f = I B (140 + 20 * f + i)) ∧ (∃ w : Nat, w < 10 ∧ I B (140 + i) = nI w) ∧ (∃ k : Nat, k < 8 ∧ I B (160 + i) = nI k) ∧ (I B (180 + i) = 0 ∨ I B (180 + i) = 1) ∧ (I B (200 + i) = 0 ∨ I B (200 + i) = 1)
def vi_A2 (I : Nat → Nat → Int32) (A B : Nat) : Prop := (∃ n : Nat, n ≤ 999 ∧ I A 3 = nI n ∧ I B 302 = nI n) ∧ ∃ n : Nat, n < 65536 ∧ I A 4 = nI n ∧ I B 303 = nI n
def vi_A3 (I : Nat → Nat → Int32) (A B : Nat) : Prop := ∃ m : Nat, m < 1024 ∧ I B 300 = nI m ∧ ∀ w, w < 10 → I (A + 3 + 2 * w) 3 = if m.testBit w then 1 else 0
def vi_A4 (I : Nat → Nat → Int32) (A B : Nat) : Prop := ∀ w, w < 10 → (∃ h : Nat, h ≤ 9 ∧ I (A + 3 + 2 * w) 2 = nI h ∧ I B (130 + w) = nI h) ∧ ∃ n : Nat, n ≤ 12 ∧ I (A + 3 + 2 * w) 1 = nI n ∧ I B (120 + w) = nI n ∧ ∀ i, i < n → ∃ s : Nat, 1 ≤ s ∧ s ≤ 99 ∧ I (A + 4 + 2 * w) i = nI s ∧ I B (12 * w + i) = nI s
def vi_A (I : Nat → Nat → Int32) (A B : Nat) : Prop := vi_A1 I A B ∧ vi_A2 I A B ∧ vi_A3 I A B ∧ vi_A4 I A B
def vi_K (I : Nat → Nat → Int32) : Prop := (I 0 9 = 0 ∧ I 167 51 = 0) ∨ (I 0 9 = 1 ∧ I 167 51 = 1 ∧ vi_A I 68 170)
theorem vi_T_c {I I' : Nat → Nat → Int32} (h : vi_T I) (h1 : I' 1 1 = I 1 1) (h2 : I' 2 = I 2) (h3 : I' 167 7 = I 167 7) (h4 : I' 173 = I 173) : vi_T I' := by
  unfold vi_T at h ⊢; rw [h1, h2, h3, h4]; exact h
theorem vi_P_c {I I' : Nat → Nat → Int32} (h : vi_P I) (h1 : I' 23 = I 23) (h2 : I' 171 = I 171) : vi_P I' := by
  unfold vi_P at h ⊢; rw [h1, h2]; exact h
theorem vi_Q_c {I I' : Nat → Nat → Int32} {J J' : Nat → Nat → Int64} (h : vi_Q I J) (h1 : I' 3 1 = I 3 1) (h2 : I' 4 = I 4) (h3 : I' 167 5 = I 167 5) (h4 : J' 172 = J 172) : vi_Q I' J' := by
  unfold vi_Q at h ⊢; rw [h1, h2, h3, h4]; exact h
theorem vi_A_c {I I' : Nat → Nat → Int32} {A B : Nat} (h : vi_A I A B) (h0 : ∀ f, f < 5 → I' A f = I A f) (h1 : ∀ a, A < a → a < A + 43 → I' a = I a) (h2 : I' B = I B) : vi_A I' A B := by
  obtain ⟨⟨n, a1, a2, a3, a4⟩, g2, g3, g4⟩ := h
  refine ⟨⟨n, a1, by rw [h0 2 (by omega)]; exact a2, by rw [h2]; exact a3, fun i hi => ?_⟩, ?_, ?_, ?_⟩
  · rw [h1 (A + 23 + i) (by omega) (by omega), h2]; exact a4 i hi
  · unfold vi_A2 at g2 ⊢; rw [h0 3 (by omega), h0 4 (by omega), h2]; exact g2
  · obtain ⟨m, b1, b2, b3⟩ := g3
    exact ⟨m, b1, by rw [h2]; exact b2, fun w hw => by rw [h1 (A + 3 + 2 * w) (by omega) (by omega)]; exact b3 w hw⟩
  · intro w hw
    rw [h1 (A + 3 + 2 * w) (by omega) (by omega), h1 (A + 4 + 2 * w) (by omega) (by omega), h2]
    exact g4 w hw
theorem vi_K_c {I I' : Nat → Nat → Int32} (h : vi_K I) (h0 : I' 0 9 = I 0 9) (h3 : I' 167 51 = I 167 51) (h4 : ∀ f, f < 5 → I' 68 f = I 68 f) (h1 : ∀ a, 68 < a → a < 111 → I' a = I a) (h2 : I' 170 = I 170) : vi_K I' := by
  unfold vi_K at h ⊢
  rw [h0, h3]
  rcases h with h | ⟨ha, hb, hc⟩
  · exact Or.inl h
  · exact Or.inr ⟨ha, hb, vi_A_c hc h4 (fun a x y => h1 a x (by omega)) h2⟩
theorem xu_ne {α : Type} {I : Nat → Nat → α} {o a o' : Nat} {x : α} (h : o' ≠ o) : xv_u2 I o a x o' = I o' := by
  funext j; simp [xv_u2, h]
theorem xu_ne2 {α : Type} {I : Nat → Nat → α} {o a o' a' : Nat} {x : α} (h : ¬ (o' = o ∧ a' = a)) : xv_u2 I o a x o' a' = I o' a' := if_neg h
theorem xu_eq {α : Type} {I : Nat → Nat → α} {o a : Nat} {x : α} : xv_u2 I o a x o a = x := if_pos ⟨rfl, rfl⟩
/-- an int argument: below 0, from N on, or a number below N -/
theorem vn_cases (x : Int32) (N : Nat) (hN : N < 2 ^ 31) : x < 0 ∨ nI N ≤ x ∨ ∃ j : Nat, j < N ∧ x = nI j := pk_ix x hN
theorem vn_lt0 {n : Nat} (h : n < 2 ^ 31) : (nI n < 0) = False := by simp [nI_pos h]
theorem vn_inB {n N : Nat} (h : n < N) (hN : N < 2 ^ 31) : xv_inB (nI n) N = true := by
  have h1 := nI_toInt (n := n) (by omega)
  simp only [xv_inB, h1, Bool.and_eq_true, decide_eq_true_eq]
  omega
theorem vn_lt {a b : Nat} (ha : a < 2 ^ 31) (hb : b < 2 ^ 31) : (nI a < nI b) = (a < b) := propext (nI_ltI ha hb)
theorem vn_le {a b : Nat} (ha : a < 2 ^ 31) (hb : b < 2 ^ 31) : (nI a ≤ nI b) = (a ≤ b) := propext (nI_leI ha hb)
theorem vn_eq {a b : Nat} (ha : a < 2 ^ 31) (hb : b < 2 ^ 31) : (nI a = nI b) = (a = b) := propext (nI_eq ha hb)
/-- what is a boolean in the class stays one, also where nobody looks -/
def vi_B (I : Nat → Nat → Int32) : Prop := ∀ a, (xv_oc a = some 8 → I a 3 = 0 ∨ I a 3 = 1) ∧ (xv_oc a = some 9 → (I a 2 = 0 ∨ I a 2 = 1) ∧ (I a 3 = 0 ∨ I a 3 = 1))
theorem vi_B_u {I : Nat → Nat → Int32} {o k : Nat} {x : Int32} (h : vi_B I) (hx : (xv_oc o = some 8 → k = 3 → x = 0 ∨ x = 1) ∧ (xv_oc o = some 9 → k = 2 ∨ k = 3 → x = 0 ∨ x = 1)) : vi_B (xv_u2 I o k x) := by
  intro a
  refine ⟨fun ha => ?_, fun ha => ⟨?_, ?_⟩⟩
  · by_cases hc : a = o ∧ 3 = k
    · obtain ⟨rfl, rfl⟩ := hc; rw [xu_eq]; exact hx.1 ha rfl
    · rw [xu_ne2 hc]; exact (h a).1 ha
  · by_cases hc : a = o ∧ 2 = k
    · obtain ⟨rfl, rfl⟩ := hc; rw [xu_eq]; exact hx.2 ha (Or.inl rfl)
    · rw [xu_ne2 hc]; exact ((h a).2 ha).1
  · by_cases hc : a = o ∧ 3 = k
    · obtain ⟨rfl, rfl⟩ := hc; rw [xu_eq]; exact hx.2 ha (Or.inr rfl)
    · rw [xu_ne2 hc]; exact ((h a).2 ha).2
theorem vi_B_n {I : Nat → Nat → Int32} {o k : Nat} {x : Int32} (h : vi_B I) (h8 : xv_oc o ≠ some 8) (h9 : xv_oc o ≠ some 9) : vi_B (xv_u2 I o k x) := vi_B_u h ⟨fun q => absurd q h8, fun q => absurd q h9⟩
theorem vi_B_c {I I' : Nat → Nat → Int32} (h : vi_B I) (hr : ∀ a, xv_oc a = some 8 ∨ xv_oc a = some 9 → I' a = I a) : vi_B I' := by
  intro a
  refine ⟨fun ha => ?_, fun ha => ?_⟩
  · rw [hr a (Or.inl ha)]; exact (h a).1 ha
  · rw [hr a (Or.inr ha)]; exact (h a).2 ha
