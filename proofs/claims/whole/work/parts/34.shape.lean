/-! witnesses and answers at any of their addresses; cells that the invariant doesn't look at -/
def vW (o : Nat) : Prop := xv_shl[o]? = some (.inr (8, [some (o + 1), none, none, none])) ∧ xv_shl[o + 1]? = some (.inl (0, 12, 0, 0))
def vN (o : Nat) : Prop := xv_shl[o]? = some (.inr (9, [none, none, none, none, none, none, none, none]))
theorem vW_now : ∀ w, w < 10 → xv_shl[28 + 2 * w]? = some (.inr (8, [some (28 + 2 * w + 1), none, none, none])) ∧ xv_shl[28 + 2 * w + 1]? = some (.inl (0, 12, 0, 0)) := by
  intro w hw
  match w, hw with
  | 0, _ => exact ⟨rfl, rfl⟩
  | 1, _ => exact ⟨rfl, rfl⟩
  | 2, _ => exact ⟨rfl, rfl⟩
  | 3, _ => exact ⟨rfl, rfl⟩
  | 4, _ => exact ⟨rfl, rfl⟩
  | 5, _ => exact ⟨rfl, rfl⟩
  | 6, _ => exact ⟨rfl, rfl⟩
  | 7, _ => exact ⟨rfl, rfl⟩
  | 8, _ => exact ⟨rfl, rfl⟩
  | 9, _ => exact ⟨rfl, rfl⟩
  | n + 10, h => exact absurd h (by omega)
theorem vW_kept : ∀ w, w < 10 → xv_shl[71 + 2 * w]? = some (.inr (8, [some (71 + 2 * w + 1), none, none, none])) ∧ xv_shl[71 + 2 * w + 1]? = some (.inl (0, 12, 0, 0)) := by
  intro w hw
  match w, hw with
  | 0, _ => exact ⟨rfl, rfl⟩
  | 1, _ => exact ⟨rfl, rfl⟩
  | 2, _ => exact ⟨rfl, rfl⟩
  | 3, _ => exact ⟨rfl, rfl⟩
  | 4, _ => exact ⟨rfl, rfl⟩
  | 5, _ => exact ⟨rfl, rfl⟩
  | 6, _ => exact ⟨rfl, rfl⟩
  | 7, _ => exact ⟨rfl, rfl⟩
  | 8, _ => exact ⟨rfl, rfl⟩
  | 9, _ => exact ⟨rfl, rfl⟩
  | n + 10, h => exact absurd h (by omega)
theorem vW_trial : ∀ w, w < 10 → xv_shl[114 + 2 * w]? = some (.inr (8, [some (114 + 2 * w + 1), none, none, none])) ∧ xv_shl[114 + 2 * w + 1]? = some (.inl (0, 12, 0, 0)) := by
  intro w hw
  match w, hw with
  | 0, _ => exact ⟨rfl, rfl⟩
  | 1, _ => exact ⟨rfl, rfl⟩
  | 2, _ => exact ⟨rfl, rfl⟩
  | 3, _ => exact ⟨rfl, rfl⟩
  | 4, _ => exact ⟨rfl, rfl⟩
  | 5, _ => exact ⟨rfl, rfl⟩
  | 6, _ => exact ⟨rfl, rfl⟩
  | 7, _ => exact ⟨rfl, rfl⟩
  | 8, _ => exact ⟨rfl, rfl⟩
  | 9, _ => exact ⟨rfl, rfl⟩
  | n + 10, h => exact absurd h (by omega)
theorem vN_now : ∀ i, i < 20 → xv_shl[48 + i]? = some (.inr (9, [none, none, none, none, none, none, none, none])) := by
  intro w hw
  match w, hw with
  | 0, _ => rfl
  | 1, _ => rfl
  | 2, _ => rfl
  | 3, _ => rfl
  | 4, _ => rfl
  | 5, _ => rfl
  | 6, _ => rfl
  | 7, _ => rfl
  | 8, _ => rfl
  | 9, _ => rfl
  | 10, _ => rfl
  | 11, _ => rfl
  | 12, _ => rfl
  | 13, _ => rfl
  | 14, _ => rfl
  | 15, _ => rfl
  | 16, _ => rfl
  | 17, _ => rfl
  | 18, _ => rfl
  | 19, _ => rfl
  | n + 20, h => exact absurd h (by omega)
theorem vN_kept : ∀ i, i < 20 → xv_shl[91 + i]? = some (.inr (9, [none, none, none, none, none, none, none, none])) := by
  intro w hw
  match w, hw with
  | 0, _ => rfl
  | 1, _ => rfl
  | 2, _ => rfl
  | 3, _ => rfl
  | 4, _ => rfl
  | 5, _ => rfl
  | 6, _ => rfl
  | 7, _ => rfl
  | 8, _ => rfl
  | 9, _ => rfl
  | 10, _ => rfl
  | 11, _ => rfl
  | 12, _ => rfl
  | 13, _ => rfl
  | 14, _ => rfl
  | 15, _ => rfl
  | 16, _ => rfl
  | 17, _ => rfl
  | 18, _ => rfl
  | 19, _ => rfl
  | n + 20, h => exact absurd h (by omega)
theorem vN_trial : ∀ i, i < 20 → xv_shl[134 + i]? = some (.inr (9, [none, none, none, none, none, none, none, none])) := by
  intro w hw
  match w, hw with
  | 0, _ => rfl
  | 1, _ => rfl
  | 2, _ => rfl
  | 3, _ => rfl
  | 4, _ => rfl
  | 5, _ => rfl
  | 6, _ => rfl
  | 7, _ => rfl
  | 8, _ => rfl
  | 9, _ => rfl
  | 10, _ => rfl
  | 11, _ => rfl
  | 12, _ => rfl
  | 13, _ => rfl
  | 14, _ => rfl
  | 15, _ => rfl
  | 16, _ => rfl
  | 17, _ => rfl
  | 18, _ => rfl
  | 19, _ => rfl
  | n + 20, h => exact absurd h (by omega)
/-- the archives: now, kept, trial -/
def vAr (A : Nat) : Prop := A = 25 ∨ A = 68 ∨ A = 111
theorem vAr_W {A w : Nat} (h : vAr A) (hw : w < 10) : vW (A + 3 + 2 * w) := by
  rcases h with rfl | rfl | rfl
  · exact vW_now w hw
  · exact vW_kept w hw
  · exact vW_trial w hw
theorem vAr_N {A i : Nat} (h : vAr A) (hi : i < 20) : vN (A + 23 + i) := by
  rcases h with rfl | rfl | rfl
  · exact vN_now i hi
  · exact vN_kept i hi
  · exact vN_trial i hi
theorem vW_154 : vW 154 := ⟨rfl, rfl⟩
theorem vAr_f {A : Nat} (h : vAr A) : xv_fv A 0 = some (7, some (A + 1)) ∧ xv_fv A 1 = some (7, some (A + 2)) ∧ xv_fv A 2 = some (7, none) ∧ xv_fv A 3 = some (7, none) ∧ xv_fv A 4 = some (7, none) ∧ xv_fv A 5 = some (7, none) ∧ xv_fv A 6 = some (7, none) ∧ xv_oc A = some 7 ∧
    xv_rr (A + 1) = some (10, A + 3, 2) ∧ xv_rr (A + 2) = some (20, A + 23, 1) := by
  rcases h with rfl | rfl | rfl <;> exact ⟨rfl, rfl, rfl, rfl, rfl, rfl, rfl, rfl, rfl, rfl⟩
theorem vW_f {o : Nat} (h : vW o) : xv_fv o 0 = some (8, some (o + 1)) ∧ xv_fv o 1 = some (8, none) ∧ xv_fv o 2 = some (8, none) ∧ xv_fv o 3 = some (8, none) ∧ xv_oc o = some 8 ∧ xv_ar (o + 1) = some (0, 12) := by
  unfold vW at h
  simp [xv_fv, xv_oc, xv_ar, h.1, h.2]
theorem vN_f {o : Nat} (h : vN o) : xv_fv o 0 = some (9, none) ∧ xv_fv o 1 = some (9, none) ∧ xv_fv o 2 = some (9, none) ∧ xv_fv o 3 = some (9, none) ∧ xv_fv o 4 = some (9, none) ∧ xv_fv o 5 = some (9, none) ∧ xv_fv o 6 = some (9, none) ∧ xv_fv o 7 = some (9, none) ∧ xv_oc o = some 9 := by
  unfold vN at h
  simp [xv_fv, xv_oc, h]
/-- the cells that the invariant looks at -/
def vs_r (a j : Nat) : Bool := (a == 0 && j == 9) || (a == 1 && j == 1) || a == 2 || a == 3 || a == 4 || (decide (5 ≤ a) && decide (a < 12)) || a == 23 || (a == 25 && decide (j < 5)) || (decide (25 < a) && decide (a < 68)) || (a == 68 && decide (j < 5)) || (decide (68 < a) && decide (a < 111)) || (a == 167 && (j == 5 || j == 7 || j == 16 || j == 51)) || a == 168 || a == 170 || a == 171 || a == 173 || (decide (180 ≤ a) && decide (a < 185)) || (xv_oc a == some 8 && j == 3) || (xv_oc a == some 9 && (j == 2 || j == 3))
def vs_e (I I' : Nat → Nat → Int32) : Prop := ∀ a j, vs_r a j = true → I' a j = I a j
theorem vs_row {I I' : Nat → Nat → Int32} (h : vs_e I I') {a : Nat} (ha : ∀ j, vs_r a j = true) : I' a = I a := funext fun j => h a j (ha j)
theorem vs_rfl (I : Nat → Nat → Int32) : vs_e I I := fun _ _ _ => rfl
theorem vs_u {I I' : Nat → Nat → Int32} {o k : Nat} {x : Int32} (h : vs_e I I') (hr : vs_r o k = false) : vs_e I (xv_u2 I' o k x) := by
  intro a j haj
  by_cases hc : a = o ∧ j = k
  · rw [hc.1, hc.2, hr] at haj; cases haj
  · rw [xu_ne2 hc]; exact h a j haj
theorem vs_t {I I' I'' : Nat → Nat → Int32} (h : vs_e I I') (h2 : vs_e I' I'') : vs_e I I'' := fun a j haj => (h2 a j haj).trans (h a j haj)
theorem vi_all_s {VL : xv_LP} (hV : vi_Lc VL) {I I' : Nat → Nat → Int32} {J J' : Nat → Nat → Int64} (hs : vs_e I I') (hJ : J' 172 = J 172) (h : vi_all VL I J) : vi_all VL I' J' := by
  obtain ⟨h1, h2, h3, h4, h5, h6⟩ := h
  refine ⟨vi_T_c h1 (hs _ _ rfl) (vs_row hs fun j => by simp [vs_r]) (hs _ _ rfl) (vs_row hs fun j => by simp [vs_r]), vi_P_c h2 (vs_row hs fun j => by simp [vs_r]) (vs_row hs fun j => by simp [vs_r]), vi_Q_c h3 (hs _ _ rfl) (vs_row hs fun j => by simp [vs_r]) (hs _ _ rfl) hJ,
    vi_A_c h4 (fun f hf => hs _ _ (by simp [vs_r, hf])) (fun a ha hb => vs_row hs fun j => ?_) (vs_row hs fun j => by simp [vs_r]), vi_K_c h5 (hs _ _ rfl) (hs _ _ rfl) (fun f hf => hs _ _ (by simp [vs_r, hf])) (fun a ha hb => vs_row hs fun j => ?_) (vs_row hs fun j => by simp [vs_r]), hV I I' (fun a ha hb => vs_row hs fun j => ?_) (hs _ _ rfl) (fun a ha hb => vs_row hs fun j => ?_) h6.1, fun a => ⟨fun ha => by rw [hs a 3 (by simp [vs_r, ha])]; exact (h6.2 a).1 ha, fun ha => by rw [hs a 2 (by simp [vs_r, ha]), hs a 3 (by simp [vs_r, ha])]; exact (h6.2 a).2 ha⟩⟩
  · have : decide (25 < a) = true := decide_eq_true (by omega)
    have : decide (a < 68) = true := decide_eq_true (by omega)
    simp [vs_r, *]
  · have : decide (68 < a) = true := decide_eq_true (by omega)
    have : decide (a < 111) = true := decide_eq_true (by omega)
    simp [vs_r, *]
  · have : decide (5 ≤ a) = true := decide_eq_true (by omega)
    have : decide (a < 12) = true := decide_eq_true (by omega)
    simp [vs_r, *]
  · have : decide (180 ≤ a) = true := decide_eq_true (by omega)
    have : decide (a < 185) = true := decide_eq_true (by omega)
    simp [vs_r, *]
