/-! the rest of the equations; the facts of the world -/
def xv_rk {α : Type} (i : Int32) (o : Option (Nat × Nat × Nat)) (f : Nat → Option α) : Option α := match o with
  | some (n, s, t) => if xv_inB i n = true then f (s + t * i.toNatClampNeg) else none
  | none => none
theorem xr_rk {α : Type} (i : Int32) (n s t : Nat) (f : Nat → Option α) : xv_rk i (some (n, s, t)) f = if xv_inB i n = true then f (s + t * i.toNatClampNeg) else none := rfl
theorem xr_aaloadk (ro : xv_Ro) (d : Nat) (M : xv_M) (a b w : Nat) (v : Value) (ops : List xv_Op) (ls : xv_L) (st : List Value) (z : Nat × Nat) (I : Nat → Nat → Int32) (J : Nat → Nat → Int64) (k : Nat) (i : Int32) : xv_ev ro d M ((.aaload, a, b, w, v) :: ops) ls (.int i :: .ref k :: st) (z, xv_mk I J) = xv_rk i (xv_rr k) fun r => xv_ev ro d M ops ls (.ref r :: st) (z, xv_mk I J) := by
  have key : xv_ald (xv_mk I J) (.int i :: .ref k :: st) = xv_rk i (xv_rr k) fun r => some (.ref r :: st) := by
    unfold xv_ald xv_rr xv_mk xv_rk
    dsimp only
    cases h : xv_shl[k]? with
    | none => rfl
    | some sp =>
      match sp with
      | .inr (ci, fl) => rfl
      | .inl (kd, n, s, t) =>
        dsimp only [xv_mkc]
        by_cases h1 : kd = 1
        · subst h1; simp
        · by_cases h34 : kd = 3 ∨ kd = 4
          · rw [if_neg h1, if_pos h34, if_pos h34]
            dsimp only
            by_cases hc : xv_inB i n = true
            · have hin := xv_inB_use hc
              have hlt : i.toNatClampNeg < n := Nat.not_le.mp fun q => hin (Or.inr q)
              rw [if_pos ⟨h34, hc⟩, if_pos hc, if_pos hlt]; rfl
            · rw [if_neg (fun h => hc h.2), if_neg hc]
          · rw [if_neg h1, if_neg h34, if_neg h34]
  unfold xv_rk at key ⊢
  cases hr : xv_rr k with
  | none => rw [hr] at key; exact xv_ev2n rfl (by simp [xv_hp]; exact key)
  | some q =>
    rw [hr] at key
    dsimp only at key ⊢
    by_cases hc : xv_inB i q.1 = true
    · rw [if_pos hc] at key ⊢; exact xv_ev2 rfl (by simp [xv_hp, key])
    · rw [if_neg hc] at key ⊢; exact xv_ev2n rfl (by simp [xv_hp]; exact key)
def xv_ri (i : Int32) (o : Option (Nat × Nat × Nat)) : Bool := match o with
  | some (n, _, _) => xv_inB i n
  | none => false
def xv_ra (i : Int32) (o : Option (Nat × Nat × Nat)) : Nat := match o with
  | some (_, s, t) => s + t * i.toNatClampNeg
  | none => 0
theorem xr_ri (i : Int32) (n s t : Nat) : xv_ri i (some (n, s, t)) = xv_inB i n := rfl
theorem xr_ra (i : Int32) (n s t : Nat) : xv_ra i (some (n, s, t)) = s + t * i.toNatClampNeg := rfl
theorem xr_aaload (ro : xv_Ro) (d : Nat) (M : xv_M) (a b w : Nat) (v : Value) (ops : List xv_Op) (ls : xv_L) (st : List Value) (z : Nat × Nat) (I : Nat → Nat → Int32) (J : Nat → Nat → Int64) (k : Nat) (i : Int32) : xv_ev ro d M ((.aaload, a, b, w, v) :: ops) ls (.int i :: .ref k :: st) (z, xv_mk I J) = if xv_ri i (xv_rr k) = true then xv_ev ro d M ops ls (.ref (xv_ra i (xv_rr k)) :: st) (z, xv_mk I J) else none := by
  rw [xr_aaloadk]
  cases hr : xv_rr k with
  | none => simp [xv_rk, xv_ri]
  | some q => rfl
def xv_nk {α : Type} (o : Option (Nat × Nat)) (f : Nat → Option α) : Option α := match o with
  | some (k, n) => if k < 5 then f n else none
  | none => none
theorem xr_nk0 {α : Type} (n : Nat) (f : Nat → Option α) : xv_nk (some (0, n)) f = f n := rfl
theorem xr_nk1 {α : Type} (n : Nat) (f : Nat → Option α) : xv_nk (some (1, n)) f = f n := rfl
theorem xr_alenk (ro : xv_Ro) (d : Nat) (M : xv_M) (a w : Nat) (v : Value) (ops : List xv_Op) (ls : xv_L) (st : List Value) (z : Nat × Nat) (I : Nat → Nat → Int32) (J : Nat → Nat → Int64) (k : Nat) : xv_ev ro d M ((.arraylength, a, 0, w, v) :: ops) ls (.ref k :: st) (z, xv_mk I J) = xv_nk (xv_ar k) fun n => xv_ev ro d M ops ls (.int (Int32.ofNat n) :: st) (z, xv_mk I J) := by
  have key : xv_len (xv_mk I J) (.ref k :: st) = xv_nk (xv_ar k) fun n => some (.int (Int32.ofNat n) :: st) := by
    unfold xv_len xv_ar xv_mk xv_nk
    dsimp only
    cases h : xv_shl[k]? with
    | none => rfl
    | some sp => match sp with
      | .inr (ci, fl) => rfl
      | .inl (kd, n, s, t) => rfl
  unfold xv_nk at key ⊢
  cases hr : xv_ar k with
  | none => rw [hr] at key; exact xv_ev2n rfl (by simp [xv_hp]; exact key)
  | some q =>
    rw [hr] at key
    dsimp only at key ⊢
    by_cases hc : q.1 < 5
    · rw [if_pos hc] at key ⊢; exact xv_ev2 rfl (by simp [xv_hp, key])
    · rw [if_neg hc] at key ⊢; exact xv_ev2n rfl (by simp [xv_hp]; exact key)
def xv_no (o : Option (Nat × Nat)) : Bool := match o with
  | some (k, _) => decide (k < 5)
  | none => false
def xv_nv (o : Option (Nat × Nat)) : Int32 := match o with
  | some (_, n) => Int32.ofNat n
  | none => 0
theorem xr_no0 (n : Nat) : xv_no (some (0, n)) = true := rfl
theorem xr_nv0 (k n : Nat) : xv_nv (some (k, n)) = Int32.ofNat n := rfl
theorem xr_alen (ro : xv_Ro) (d : Nat) (M : xv_M) (a w : Nat) (v : Value) (ops : List xv_Op) (ls : xv_L) (st : List Value) (z : Nat × Nat) (I : Nat → Nat → Int32) (J : Nat → Nat → Int64) (k : Nat) (h : xv_no (xv_ar k) = true) : xv_ev ro d M ((.arraylength, a, 0, w, v) :: ops) ls (.ref k :: st) (z, xv_mk I J) = xv_ev ro d M ops ls (.int (xv_nv (xv_ar k)) :: st) (z, xv_mk I J) := by
  rw [xr_alenk]
  cases hr : xv_ar k with
  | none => rw [hr] at h; cases h
  | some q =>
    rw [hr] at h
    have h2 : q.1 < 5 := of_decide_eq_true h
    show (if q.1 < 5 then _ else _) = _
    rw [if_pos h2]; rfl
theorem xr_getstatic (ro : xv_Ro) (d : Nat) (M : xv_M) (a b w : Nat) (v : Value) (ops : List xv_Op) (ls : xv_L) (st : List Value) (σ : xv_S) (n : Nat) : xv_ev ro d M ((.getstatic n, a, b, w, v) :: ops) ls st σ = xv_ev ro d M ops ls (.ref 1000000 :: st) σ := xv_ev2 rfl rfl
def xv_rq {α : Type} (o : Option (Nat × (Nat → Int32))) (f : Nat → (Nat → Int32) → Option α) : Option α := match o with
  | some (n, g) => f n g
  | none => none
theorem xr_rq {α : Type} (n : Nat) (g : Nat → Int32) (f : Nat → (Nat → Int32) → Option α) : xv_rq (some (n, g)) f = f n g := rfl
theorem xr_ialdrk (ro : xv_Ro) (d : Nat) (M : xv_M) (a w : Nat) (v : Value) (ops : List xv_Op) (ls : xv_L) (st : List Value) (σ : xv_S) (k : Nat) (i : Int32) : xv_ev ro d M ((.iaload, a, 1, w, v) :: ops) ls (.int i :: .ref k :: st) σ = xv_rq (ro k) fun n g => if xv_inB i n = true then xv_ev ro d M ops ls (.int (g i.toNatClampNeg) :: st) σ else none := by
  unfold xv_rq
  cases h : ro k with
  | none => exact xv_ev2n rfl (by simp [xv_hp, xv_ildr, h])
  | some q =>
    dsimp only
    by_cases hc : xv_inB i q.1 = true
    · rw [if_pos hc]; exact xv_ev2 rfl (by simp [xv_hp, xv_ildr, h, hc])
    · rw [if_neg hc]; exact xv_ev2n rfl (by simp [xv_hp, xv_ildr, h, hc])
theorem xr_alenrk (ro : xv_Ro) (d : Nat) (M : xv_M) (a w : Nat) (v : Value) (ops : List xv_Op) (ls : xv_L) (st : List Value) (σ : xv_S) (k : Nat) : xv_ev ro d M ((.arraylength, a, 1, w, v) :: ops) ls (.ref k :: st) σ = xv_rq (ro k) fun n g => xv_ev ro d M ops ls (.int (Int32.ofNat n) :: st) σ := by
  unfold xv_rq
  cases h : ro k with
  | none => exact xv_ev2n rfl (by simp [xv_hp, xv_lenr, h])
  | some q => exact xv_ev2 rfl (by simp [xv_hp, xv_lenr, h])
def xv_qi (i : Int32) (o : Option (Nat × (Nat → Int32))) : Bool := match o with
  | some (n, _) => xv_inB i n
  | none => false
def xv_qv (i : Int32) (o : Option (Nat × (Nat → Int32))) : Int32 := match o with
  | some (_, g) => g i.toNatClampNeg
  | none => 0
def xv_qn (o : Option (Nat × (Nat → Int32))) : Int32 := match o with
  | some (n, _) => Int32.ofNat n
  | none => 0
theorem xr_qi (i : Int32) (n : Nat) (g : Nat → Int32) : xv_qi i (some (n, g)) = xv_inB i n := rfl
theorem xr_qv (i : Int32) (n : Nat) (g : Nat → Int32) : xv_qv i (some (n, g)) = g i.toNatClampNeg := rfl
theorem xr_qn (n : Nat) (g : Nat → Int32) : xv_qn (some (n, g)) = Int32.ofNat n := rfl
theorem xr_ialdr (ro : xv_Ro) (d : Nat) (M : xv_M) (a w : Nat) (v : Value) (ops : List xv_Op) (ls : xv_L) (st : List Value) (σ : xv_S) (k : Nat) (i : Int32) : xv_ev ro d M ((.iaload, a, 1, w, v) :: ops) ls (.int i :: .ref k :: st) σ = if xv_qi i (ro k) = true then xv_ev ro d M ops ls (.int (xv_qv i (ro k)) :: st) σ else none := by
  rw [xr_ialdrk]
  cases hr : ro k with
  | none => simp [xv_rq, xv_qi]
  | some q => rfl
theorem xr_alenr (ro : xv_Ro) (d : Nat) (M : xv_M) (a w : Nat) (v : Value) (ops : List xv_Op) (ls : xv_L) (st : List Value) (σ : xv_S) (k : Nat) (h : (ro k).isSome = true) : xv_ev ro d M ((.arraylength, a, 1, w, v) :: ops) ls (.ref k :: st) σ = xv_ev ro d M ops ls (.int (xv_qn (ro k)) :: st) σ := by
  rw [xr_alenrk]
  cases hr : ro k with
  | none => rw [hr] at h; cases h
  | some q => rfl
theorem xr_bdi (c : Prop) (h : Decidable c) (x y : Option (Option Value × xv_S)) (f : Option Value → xv_S → Option (Option Value × xv_S)) : xv_bd (@ite _ c h x y) f = @ite _ c h (xv_bd x f) (xv_bd y f) := by
  by_cases hc : c <;> simp [hc]
/-- a truth as a number -/
def xv_b (c : Prop) (h : Decidable c) : Int32 := @ite _ c h 1 0
theorem xr_b0 (c : Prop) (h : Decidable c) : (xv_b c h = 0) = ¬ c := by
  unfold xv_b
  by_cases hc : c <;> simp [hc]
theorem xr_b1 (c : Prop) (h : Decidable c) : (xv_b c h = 0 ∨ xv_b c h = 1) = True := by
  unfold xv_b
  by_cases hc : c <;> simp [hc]
theorem xr_01 : ((0 : Int32) = 0 ∨ (0 : Int32) = 1) = True := by simp
theorem xr_11 : ((1 : Int32) = 0 ∨ (1 : Int32) = 1) = True := by simp
theorem xr_10 : ((1 : Int32) = 0) = False := by simp
theorem xr_01f : ((0 : Int32) = 1) = False := by simp
theorem xr_u2 {α : Type} (I : Nat → Nat → α) (o a : Nat) (x : α) (o' a' : Nat) : xv_u2 I o a x o' a' = if o' = o ∧ a' = a then x else I o' a' := rfl
def xv_l4 : List Value → Bool
  | [] => true
  | [_] => true
  | [_, _] => true
  | [_, _, _] => true
  | [_, _, _, _] => true
  | _ => false
theorem xv_l4_use {l : List Value} (h : xv_l4 l = true) : l.length ≤ 4 := by
  unfold xv_l4 at h
  split at h <;> simp_all
theorem xr_l40 : xv_l4 [] = true := rfl
theorem xr_l41 (a : Value) : xv_l4 [a] = true := rfl
theorem xr_l42 (a b : Value) : xv_l4 [a, b] = true := rfl
theorem xr_l43 (a b c : Value) : xv_l4 [a, b, c] = true := rfl
theorem xr_l44 (a b c d : Value) : xv_l4 [a, b, c, d] = true := rfl
theorem xv_oc_mk {I : Nat → Nat → Int32} {J : Nat → Nat → Int64} {r ci : Nat} (h : xv_oc r = some ci) : ∃ fs, xv_mk I J r = .inr (ci, fs) := by
  unfold xv_oc at h
  unfold xv_mk
  cases hq : xv_shl[r]? with
  | none => rw [hq] at h; cases h
  | some sp =>
    rw [hq] at h
    match sp, h with
    | .inr (c, fl), h => cases h; exact ⟨_, rfl⟩
def xv_ok {α : Type} (ci : Nat) (o : Option Nat) (g : Option α) : Option α := if o = some ci then g else none
theorem xr_ok {α : Type} (ci : Nat) (g : Option α) : xv_ok ci (some ci) g = g := if_pos rfl
theorem xr_invV0 (ro : xv_Ro) (d : Nat) (M : xv_M) (a w : Nat) (ci : Int32) (ops : List xv_Op) (ls : xv_L) (st : List Value) (z : Nat × Nat) (I : Nat → Nat → Int32) (J : Nat → Nat → Int64) (n r : Nat) (hl : xv_l4 st = true) (hc : xv_oc r = some ci.toNatClampNeg) : xv_ev ro (d + 1) M ((.invokevirtual n, a, 0, w, .int ci) :: ops) ls (.ref r :: st) (z, xv_mk I J) = xv_bd (xv_evm ro d a [.ref r] (z, xv_mk I J)) fun r σ => xv_ev ro (d + 1) M ops ls (r.toList ++ st) σ := by
  obtain ⟨fs, hm⟩ := xv_oc_mk (I := I) (J := J) hc
  refine xv_ev3 rfl (by simp) ?_ (xv_l4_use hl)
  simp [xv_call, xv_cv, hm]
theorem xr_invS0 (ro : xv_Ro) (d : Nat) (M : xv_M) (a w : Nat) (ci : Int32) (ops : List xv_Op) (ls : xv_L) (st : List Value) (σ : xv_S) (n : Nat) (hl : xv_l4 st = true) : xv_ev ro (d + 1) M ((.invokestatic n, a, 0, w, .int ci) :: ops) ls (st) σ = xv_bd (xv_evm ro d a [] σ) fun r σ => xv_ev ro (d + 1) M ops ls (r.toList ++ st) σ := xv_ev3 rfl (by simp) (by simp [xv_call]) (xv_l4_use hl)
theorem xr_invV1 (ro : xv_Ro) (d : Nat) (M : xv_M) (a w : Nat) (ci : Int32) (ops : List xv_Op) (ls : xv_L) (st : List Value) (z : Nat × Nat) (I : Nat → Nat → Int32) (J : Nat → Nat → Int64) (n r : Nat) (x1 : Value) (hl : xv_l4 st = true) (hc : xv_oc r = some ci.toNatClampNeg) : xv_ev ro (d + 1) M ((.invokevirtual n, a, 1, w, .int ci) :: ops) ls (x1 :: .ref r :: st) (z, xv_mk I J) = xv_bd (xv_evm ro d a [.ref r, x1] (z, xv_mk I J)) fun r σ => xv_ev ro (d + 1) M ops ls (r.toList ++ st) σ := by
  obtain ⟨fs, hm⟩ := xv_oc_mk (I := I) (J := J) hc
  refine xv_ev3 rfl (by simp) ?_ (xv_l4_use hl)
  simp [xv_call, xv_cv, hm]
theorem xr_invS1 (ro : xv_Ro) (d : Nat) (M : xv_M) (a w : Nat) (ci : Int32) (ops : List xv_Op) (ls : xv_L) (st : List Value) (σ : xv_S) (n : Nat) (x1 : Value) (hl : xv_l4 st = true) : xv_ev ro (d + 1) M ((.invokestatic n, a, 1, w, .int ci) :: ops) ls (x1 :: st) σ = xv_bd (xv_evm ro d a [x1] σ) fun r σ => xv_ev ro (d + 1) M ops ls (r.toList ++ st) σ := xv_ev3 rfl (by simp) (by simp [xv_call]) (xv_l4_use hl)
theorem xr_invV2 (ro : xv_Ro) (d : Nat) (M : xv_M) (a w : Nat) (ci : Int32) (ops : List xv_Op) (ls : xv_L) (st : List Value) (z : Nat × Nat) (I : Nat → Nat → Int32) (J : Nat → Nat → Int64) (n r : Nat) (x1 x2 : Value) (hl : xv_l4 st = true) (hc : xv_oc r = some ci.toNatClampNeg) : xv_ev ro (d + 1) M ((.invokevirtual n, a, 2, w, .int ci) :: ops) ls (x2 :: x1 :: .ref r :: st) (z, xv_mk I J) = xv_bd (xv_evm ro d a [.ref r, x1, x2] (z, xv_mk I J)) fun r σ => xv_ev ro (d + 1) M ops ls (r.toList ++ st) σ := by
  obtain ⟨fs, hm⟩ := xv_oc_mk (I := I) (J := J) hc
  refine xv_ev3 rfl (by simp) ?_ (xv_l4_use hl)
  simp [xv_call, xv_cv, hm]
theorem xr_invS2 (ro : xv_Ro) (d : Nat) (M : xv_M) (a w : Nat) (ci : Int32) (ops : List xv_Op) (ls : xv_L) (st : List Value) (σ : xv_S) (n : Nat) (x1 x2 : Value) (hl : xv_l4 st = true) : xv_ev ro (d + 1) M ((.invokestatic n, a, 2, w, .int ci) :: ops) ls (x2 :: x1 :: st) σ = xv_bd (xv_evm ro d a [x1, x2] σ) fun r σ => xv_ev ro (d + 1) M ops ls (r.toList ++ st) σ := xv_ev3 rfl (by simp) (by simp [xv_call]) (xv_l4_use hl)
theorem xr_invV3 (ro : xv_Ro) (d : Nat) (M : xv_M) (a w : Nat) (ci : Int32) (ops : List xv_Op) (ls : xv_L) (st : List Value) (z : Nat × Nat) (I : Nat → Nat → Int32) (J : Nat → Nat → Int64) (n r : Nat) (x1 x2 x3 : Value) (hl : xv_l4 st = true) (hc : xv_oc r = some ci.toNatClampNeg) : xv_ev ro (d + 1) M ((.invokevirtual n, a, 3, w, .int ci) :: ops) ls (x3 :: x2 :: x1 :: .ref r :: st) (z, xv_mk I J) = xv_bd (xv_evm ro d a [.ref r, x1, x2, x3] (z, xv_mk I J)) fun r σ => xv_ev ro (d + 1) M ops ls (r.toList ++ st) σ := by
  obtain ⟨fs, hm⟩ := xv_oc_mk (I := I) (J := J) hc
  refine xv_ev3 rfl (by simp) ?_ (xv_l4_use hl)
  simp [xv_call, xv_cv, hm]
theorem xr_invS3 (ro : xv_Ro) (d : Nat) (M : xv_M) (a w : Nat) (ci : Int32) (ops : List xv_Op) (ls : xv_L) (st : List Value) (σ : xv_S) (n : Nat) (x1 x2 x3 : Value) (hl : xv_l4 st = true) : xv_ev ro (d + 1) M ((.invokestatic n, a, 3, w, .int ci) :: ops) ls (x3 :: x2 :: x1 :: st) σ = xv_bd (xv_evm ro d a [x1, x2, x3] σ) fun r σ => xv_ev ro (d + 1) M ops ls (r.toList ++ st) σ := xv_ev3 rfl (by simp) (by simp [xv_call]) (xv_l4_use hl)
theorem xr_invV4 (ro : xv_Ro) (d : Nat) (M : xv_M) (a w : Nat) (ci : Int32) (ops : List xv_Op) (ls : xv_L) (st : List Value) (z : Nat × Nat) (I : Nat → Nat → Int32) (J : Nat → Nat → Int64) (n r : Nat) (x1 x2 x3 x4 : Value) (hl : xv_l4 st = true) (hc : xv_oc r = some ci.toNatClampNeg) : xv_ev ro (d + 1) M ((.invokevirtual n, a, 4, w, .int ci) :: ops) ls (x4 :: x3 :: x2 :: x1 :: .ref r :: st) (z, xv_mk I J) = xv_bd (xv_evm ro d a [.ref r, x1, x2, x3, x4] (z, xv_mk I J)) fun r σ => xv_ev ro (d + 1) M ops ls (r.toList ++ st) σ := by
  obtain ⟨fs, hm⟩ := xv_oc_mk (I := I) (J := J) hc
  refine xv_ev3 rfl (by simp) ?_ (xv_l4_use hl)
  simp [xv_call, xv_cv, hm]
theorem xr_invS4 (ro : xv_Ro) (d : Nat) (M : xv_M) (a w : Nat) (ci : Int32) (ops : List xv_Op) (ls : xv_L) (st : List Value) (σ : xv_S) (n : Nat) (x1 x2 x3 x4 : Value) (hl : xv_l4 st = true) : xv_ev ro (d + 1) M ((.invokestatic n, a, 4, w, .int ci) :: ops) ls (x4 :: x3 :: x2 :: x1 :: st) σ = xv_bd (xv_evm ro d a [x1, x2, x3, x4] σ) fun r σ => xv_ev ro (d + 1) M ops ls (r.toList ++ st) σ := xv_ev3 rfl (by simp) (by simp [xv_call]) (xv_l4_use hl)
theorem xr_invV5 (ro : xv_Ro) (d : Nat) (M : xv_M) (a w : Nat) (ci : Int32) (ops : List xv_Op) (ls : xv_L) (st : List Value) (z : Nat × Nat) (I : Nat → Nat → Int32) (J : Nat → Nat → Int64) (n r : Nat) (x1 x2 x3 x4 x5 : Value) (hl : xv_l4 st = true) (hc : xv_oc r = some ci.toNatClampNeg) : xv_ev ro (d + 1) M ((.invokevirtual n, a, 5, w, .int ci) :: ops) ls (x5 :: x4 :: x3 :: x2 :: x1 :: .ref r :: st) (z, xv_mk I J) = xv_bd (xv_evm ro d a [.ref r, x1, x2, x3, x4, x5] (z, xv_mk I J)) fun r σ => xv_ev ro (d + 1) M ops ls (r.toList ++ st) σ := by
  obtain ⟨fs, hm⟩ := xv_oc_mk (I := I) (J := J) hc
  refine xv_ev3 rfl (by simp) ?_ (xv_l4_use hl)
  simp [xv_call, xv_cv, hm]
theorem xr_invS5 (ro : xv_Ro) (d : Nat) (M : xv_M) (a w : Nat) (ci : Int32) (ops : List xv_Op) (ls : xv_L) (st : List Value) (σ : xv_S) (n : Nat) (x1 x2 x3 x4 x5 : Value) (hl : xv_l4 st = true) : xv_ev ro (d + 1) M ((.invokestatic n, a, 5, w, .int ci) :: ops) ls (x5 :: x4 :: x3 :: x2 :: x1 :: st) σ = xv_bd (xv_evm ro d a [x1, x2, x3, x4, x5] σ) fun r σ => xv_ev ro (d + 1) M ops ls (r.toList ++ st) σ := xv_ev3 rfl (by simp) (by simp [xv_call]) (xv_l4_use hl)
theorem xr_math0 (ro : xv_Ro) (d : Nat) (M : xv_M) (b w : Nat) (ops : List xv_Op) (ls : xv_L) (st : List Value) (σ : xv_S) (n : Nat) (x : Int32) (hl : xv_l4 st = true) : xv_ev ro (d + 1) M ((.invokestatic n, 0, b, w, .null) :: ops) ls (.int x :: st) σ = xv_ev ro (d + 1) M ops ls (.int (if 0 ≤ x then x else 0 - x) :: st) σ := xv_ev3n rfl rfl (xv_l4_use hl)
theorem xr_math1 (ro : xv_Ro) (d : Nat) (M : xv_M) (b w : Nat) (ops : List xv_Op) (ls : xv_L) (st : List Value) (σ : xv_S) (n : Nat) (x : Int64) (hl : xv_l4 st = true) : xv_ev ro (d + 1) M ((.invokestatic n, 1, b, w, .null) :: ops) ls (.long x :: st) σ = xv_ev ro (d + 1) M ops ls (.long (if 0 < x then x else -x) :: st) σ := xv_ev3n rfl rfl (xv_l4_use hl)
theorem xr_math2 (ro : xv_Ro) (d : Nat) (M : xv_M) (b w : Nat) (ops : List xv_Op) (ls : xv_L) (st : List Value) (σ : xv_S) (n : Nat) (x y : Int32) (hl : xv_l4 st = true) : xv_ev ro (d + 1) M ((.invokestatic n, 2, b, w, .null) :: ops) ls (.int y :: .int x :: st) σ = xv_ev ro (d + 1) M ops ls (.int (if x < y then y else x) :: st) σ := xv_ev3n rfl rfl (xv_l4_use hl)
theorem xr_math3 (ro : xv_Ro) (d : Nat) (M : xv_M) (b w : Nat) (ops : List xv_Op) (ls : xv_L) (st : List Value) (σ : xv_S) (n : Nat) (x y : Int64) (hl : xv_l4 st = true) : xv_ev ro (d + 1) M ((.invokestatic n, 3, b, w, .null) :: ops) ls (.long y :: .long x :: st) σ = xv_ev ro (d + 1) M ops ls (.long (if y < x then x else y) :: st) σ := xv_ev3n rfl rfl (xv_l4_use hl)
theorem xr_math4 (ro : xv_Ro) (d : Nat) (M : xv_M) (b w : Nat) (ops : List xv_Op) (ls : xv_L) (st : List Value) (σ : xv_S) (n : Nat) (x y : Int32) (hl : xv_l4 st = true) : xv_ev ro (d + 1) M ((.invokestatic n, 4, b, w, .null) :: ops) ls (.int y :: .int x :: st) σ = xv_ev ro (d + 1) M ops ls (.int (if y < x then y else x) :: st) σ := xv_ev3n rfl rfl (xv_l4_use hl)
theorem xr_math5 (ro : xv_Ro) (d : Nat) (M : xv_M) (b w : Nat) (ops : List xv_Op) (ls : xv_L) (st : List Value) (σ : xv_S) (n : Nat) (x y : Int64) (hl : xv_l4 st = true) : xv_ev ro (d + 1) M ((.invokestatic n, 5, b, w, .null) :: ops) ls (.long y :: .long x :: st) σ = xv_ev ro (d + 1) M ops ls (.long (if y < x then y else x) :: st) σ := xv_ev3n rfl rfl (xv_l4_use hl)
theorem xr_reti (ro : xv_Ro) (d : Nat) (M : xv_M) (a b w : Nat) (v : Value) (ops : List xv_Op) (ls : xv_L) (σ : xv_S) (x : Int32) (hr : M.2.2.2.1 = some .int) : xv_ev ro d M ((.ireturn, a, b, w, v) :: ops) ls [.int x] σ = some (some (.int x), σ) := xv_ev4 rfl (by simp [xv_ret, hr])
theorem xr_retz (ro : xv_Ro) (d : Nat) (M : xv_M) (a b w : Nat) (v : Value) (ops : List xv_Op) (ls : xv_L) (σ : xv_S) (x : Int32) (hr : M.2.2.2.1 = some .boolean) : xv_ev ro d M ((.ireturn, a, b, w, v) :: ops) ls [.int x] σ = if x = 0 ∨ x = 1 then some (some (.int x), σ) else none := by
  by_cases h : x = 0 ∨ x = 1
  · rw [if_pos h]; exact xv_ev4 rfl (by simp [xv_ret, hr, h])
  · rw [if_neg h]
    apply xv_opt_ext; intro r; rw [xv_ev_iff]
    constructor
    · rintro ⟨n, hn⟩
      cases n with
      | zero => unfold xv_exec at hn; cases hn
      | succ n =>
        obtain ⟨_, h1, _⟩ := xv_exec_4 rfl hn
        simp [xv_ret, hr, h] at h1
    · intro h; cases h
theorem xr_retl (ro : xv_Ro) (d : Nat) (M : xv_M) (a b w : Nat) (v : Value) (ops : List xv_Op) (ls : xv_L) (σ : xv_S) (x : Int64) : xv_ev ro d M ((.lreturn, a, b, w, v) :: ops) ls [.long x] σ = some (some (.long x), σ) := xv_ev4 rfl rfl
theorem xr_reta (ro : xv_Ro) (d : Nat) (M : xv_M) (a b w : Nat) (v : Value) (ops : List xv_Op) (ls : xv_L) (σ : xv_S) (x : Nat) : xv_ev ro d M ((.areturn, a, b, w, v) :: ops) ls [.ref x] σ = some (some (.ref x), σ) := xv_ev4 rfl rfl
theorem xr_retn (ro : xv_Ro) (d : Nat) (M : xv_M) (a b w : Nat) (v : Value) (ops : List xv_Op) (ls : xv_L) (σ : xv_S) : xv_ev ro d M ((.areturn, a, b, w, v) :: ops) ls [.null] σ = some (some .null, σ) := xv_ev4 rfl rfl
theorem xr_retv (ro : xv_Ro) (d : Nat) (M : xv_M) (a b w : Nat) (v : Value) (ops : List xv_Op) (ls : xv_L) (σ : xv_S) : xv_ev ro d M ((.return_, a, b, w, v) :: ops) ls [] σ = some (none, σ) := xv_ev4 rfl rfl
theorem xr_ci0 : (0 : Int32).toNatClampNeg = 0 := by decide
theorem xr_ci1 : (1 : Int32).toNatClampNeg = 1 := by decide
theorem xr_ci2 : (2 : Int32).toNatClampNeg = 2 := by decide
theorem xr_ci3 : (3 : Int32).toNatClampNeg = 3 := by decide
theorem xr_ci4 : (4 : Int32).toNatClampNeg = 4 := by decide
theorem xr_ci5 : (5 : Int32).toNatClampNeg = 5 := by decide
theorem xr_ci6 : (6 : Int32).toNatClampNeg = 6 := by decide
theorem xr_ci7 : (7 : Int32).toNatClampNeg = 7 := by decide
theorem xr_ci8 : (8 : Int32).toNatClampNeg = 8 := by decide
theorem xr_ci9 : (9 : Int32).toNatClampNeg = 9 := by decide
theorem xr_ci10 : (10 : Int32).toNatClampNeg = 10 := by decide
theorem xr_ci11 : (11 : Int32).toNatClampNeg = 11 := by decide
theorem xr_tl0 (l : List Value) : (none : Option Value).toList ++ l = l := rfl
theorem xr_tl1 (r : Value) (l : List Value) : (some r : Option Value).toList ++ l = r :: l := rfl
theorem xf_oc0 : xv_oc 0 = some 1 := rfl
theorem xf_0_0 : xv_fv 0 0 = some (1, some 1) := rfl
theorem xf_0_1 : xv_fv 0 1 = some (1, some 3) := rfl
theorem xf_0_2 : xv_fv 0 2 = some (1, some 5) := rfl
theorem xf_0_3 : xv_fv 0 3 = some (1, some 13) := rfl
theorem xf_0_4 : xv_fv 0 4 = some (1, some 21) := rfl
theorem xf_0_5 : xv_fv 0 5 = some (1, some 22) := rfl
theorem xf_0_6 : xv_fv 0 6 = some (1, some 25) := rfl
theorem xf_0_7 : xv_fv 0 7 = some (1, some 68) := rfl
theorem xf_0_8 : xv_fv 0 8 = some (1, some 111) := rfl
theorem xf_0_9 : xv_fv 0 9 = some (1, none) := rfl
theorem xf_0_10 : xv_fv 0 10 = some (1, some 154) := rfl
theorem xf_0_11 : xv_fv 0 11 = some (1, some 156) := rfl
theorem xf_0_12 : xv_fv 0 12 = some (1, some 160) := rfl
theorem xf_0_13 : xv_fv 0 13 = some (1, some 166) := rfl
theorem xf_oc1 : xv_oc 1 = some 2 := rfl
theorem xf_1_0 : xv_fv 1 0 = some (2, some 2) := rfl
theorem xf_1_1 : xv_fv 1 1 = some (2, none) := rfl
theorem xf_1_2 : xv_fv 1 2 = some (2, none) := rfl
theorem xf_1_3 : xv_fv 1 3 = some (2, none) := rfl
theorem xf_1_4 : xv_fv 1 4 = some (2, none) := rfl
theorem xf_ar2 : xv_ar 2 = some (0, 260) := rfl
theorem xf_oc3 : xv_oc 3 = some 3 := rfl
theorem xf_3_0 : xv_fv 3 0 = some (3, some 4) := rfl
theorem xf_3_1 : xv_fv 3 1 = some (3, none) := rfl
theorem xf_ar4 : xv_ar 4 = some (0, 8) := rfl
theorem xf_oc5 : xv_oc 5 = some 4 := rfl
theorem xf_5_0 : xv_fv 5 0 = some (4, some 6) := rfl
theorem xf_5_1 : xv_fv 5 1 = some (4, some 7) := rfl
theorem xf_5_2 : xv_fv 5 2 = some (4, some 8) := rfl
theorem xf_5_3 : xv_fv 5 3 = some (4, some 9) := rfl
theorem xf_5_4 : xv_fv 5 4 = some (4, some 10) := rfl
theorem xf_5_5 : xv_fv 5 5 = some (4, some 11) := rfl
theorem xf_5_6 : xv_fv 5 6 = some (4, some 12) := rfl
theorem xf_5_7 : xv_fv 5 7 = some (4, none) := rfl
theorem xf_5_8 : xv_fv 5 8 = some (4, none) := rfl
theorem xf_ar6 : xv_ar 6 = some (0, 240) := rfl
theorem xf_ar7 : xv_ar 7 = some (0, 240) := rfl
theorem xf_ar8 : xv_ar 8 = some (0, 16) := rfl
theorem xf_ar9 : xv_ar 9 = some (0, 16) := rfl
theorem xf_ar10 : xv_ar 10 = some (0, 16) := rfl
theorem xf_ar11 : xv_ar 11 = some (0, 16) := rfl
theorem xf_ar12 : xv_ar 12 = some (1, 32) := rfl
theorem xf_oc13 : xv_oc 13 = some 4 := rfl
theorem xf_13_0 : xv_fv 13 0 = some (4, some 14) := rfl
theorem xf_13_1 : xv_fv 13 1 = some (4, some 15) := rfl
theorem xf_13_2 : xv_fv 13 2 = some (4, some 16) := rfl
theorem xf_13_3 : xv_fv 13 3 = some (4, some 17) := rfl
theorem xf_13_4 : xv_fv 13 4 = some (4, some 18) := rfl
theorem xf_13_5 : xv_fv 13 5 = some (4, some 19) := rfl
theorem xf_13_6 : xv_fv 13 6 = some (4, some 20) := rfl
theorem xf_13_7 : xv_fv 13 7 = some (4, none) := rfl
theorem xf_13_8 : xv_fv 13 8 = some (4, none) := rfl
theorem xf_ar14 : xv_ar 14 = some (0, 240) := rfl
theorem xf_ar15 : xv_ar 15 = some (0, 240) := rfl
theorem xf_ar16 : xv_ar 16 = some (0, 16) := rfl
theorem xf_ar17 : xv_ar 17 = some (0, 16) := rfl
theorem xf_ar18 : xv_ar 18 = some (0, 16) := rfl
theorem xf_ar19 : xv_ar 19 = some (0, 16) := rfl
theorem xf_ar20 : xv_ar 20 = some (1, 32) := rfl
theorem xf_oc21 : xv_oc 21 = some 5 := rfl
theorem xf_21_0 : xv_fv 21 0 = some (5, none) := rfl
theorem xf_21_1 : xv_fv 21 1 = some (5, none) := rfl
theorem xf_21_2 : xv_fv 21 2 = some (5, none) := rfl
theorem xf_21_3 : xv_fv 21 3 = some (5, none) := rfl
theorem xf_21_4 : xv_fv 21 4 = some (5, none) := rfl
theorem xf_21_5 : xv_fv 21 5 = some (5, none) := rfl
theorem xf_21_6 : xv_fv 21 6 = some (5, none) := rfl
theorem xf_21_7 : xv_fv 21 7 = some (5, none) := rfl
theorem xf_oc22 : xv_oc 22 = some 6 := rfl
theorem xf_22_0 : xv_fv 22 0 = some (6, some 23) := rfl
theorem xf_22_1 : xv_fv 22 1 = some (6, some 24) := rfl
theorem xf_ar23 : xv_ar 23 = some (0, 5) := rfl
theorem xf_ar24 : xv_ar 24 = some (1, 32) := rfl
theorem xf_oc25 : xv_oc 25 = some 7 := rfl
theorem xf_25_0 : xv_fv 25 0 = some (7, some 26) := rfl
theorem xf_25_1 : xv_fv 25 1 = some (7, some 27) := rfl
theorem xf_25_2 : xv_fv 25 2 = some (7, none) := rfl
theorem xf_25_3 : xv_fv 25 3 = some (7, none) := rfl
theorem xf_25_4 : xv_fv 25 4 = some (7, none) := rfl
theorem xf_25_5 : xv_fv 25 5 = some (7, none) := rfl
theorem xf_25_6 : xv_fv 25 6 = some (7, none) := rfl
theorem xf_ar26 : xv_ar 26 = some (3, 10) := rfl
theorem xf_rr26 : xv_rr 26 = some (10, 28, 2) := rfl
theorem xf_ar27 : xv_ar 27 = some (4, 20) := rfl
theorem xf_rr27 : xv_rr 27 = some (20, 48, 1) := rfl
theorem xf_oc28 : xv_oc 28 = some 8 := rfl
theorem xf_ar29 : xv_ar 29 = some (0, 12) := rfl
theorem xf_oc30 : xv_oc 30 = some 8 := rfl
theorem xf_ar31 : xv_ar 31 = some (0, 12) := rfl
theorem xf_oc32 : xv_oc 32 = some 8 := rfl
theorem xf_ar33 : xv_ar 33 = some (0, 12) := rfl
theorem xf_oc34 : xv_oc 34 = some 8 := rfl
theorem xf_ar35 : xv_ar 35 = some (0, 12) := rfl
theorem xf_oc36 : xv_oc 36 = some 8 := rfl
theorem xf_ar37 : xv_ar 37 = some (0, 12) := rfl
theorem xf_oc38 : xv_oc 38 = some 8 := rfl
theorem xf_ar39 : xv_ar 39 = some (0, 12) := rfl
theorem xf_oc40 : xv_oc 40 = some 8 := rfl
theorem xf_ar41 : xv_ar 41 = some (0, 12) := rfl
theorem xf_oc42 : xv_oc 42 = some 8 := rfl
theorem xf_ar43 : xv_ar 43 = some (0, 12) := rfl
theorem xf_oc44 : xv_oc 44 = some 8 := rfl
theorem xf_ar45 : xv_ar 45 = some (0, 12) := rfl
theorem xf_oc46 : xv_oc 46 = some 8 := rfl
theorem xf_ar47 : xv_ar 47 = some (0, 12) := rfl
theorem xf_oc48 : xv_oc 48 = some 9 := rfl
theorem xf_oc49 : xv_oc 49 = some 9 := rfl
theorem xf_oc50 : xv_oc 50 = some 9 := rfl
theorem xf_oc51 : xv_oc 51 = some 9 := rfl
theorem xf_oc52 : xv_oc 52 = some 9 := rfl
theorem xf_oc53 : xv_oc 53 = some 9 := rfl
theorem xf_oc54 : xv_oc 54 = some 9 := rfl
theorem xf_oc55 : xv_oc 55 = some 9 := rfl
theorem xf_oc56 : xv_oc 56 = some 9 := rfl
theorem xf_oc57 : xv_oc 57 = some 9 := rfl
theorem xf_oc58 : xv_oc 58 = some 9 := rfl
theorem xf_oc59 : xv_oc 59 = some 9 := rfl
theorem xf_oc60 : xv_oc 60 = some 9 := rfl
theorem xf_oc61 : xv_oc 61 = some 9 := rfl
theorem xf_oc62 : xv_oc 62 = some 9 := rfl
theorem xf_oc63 : xv_oc 63 = some 9 := rfl
theorem xf_oc64 : xv_oc 64 = some 9 := rfl
theorem xf_oc65 : xv_oc 65 = some 9 := rfl
theorem xf_oc66 : xv_oc 66 = some 9 := rfl
theorem xf_oc67 : xv_oc 67 = some 9 := rfl
theorem xf_oc68 : xv_oc 68 = some 7 := rfl
theorem xf_68_0 : xv_fv 68 0 = some (7, some 69) := rfl
theorem xf_68_1 : xv_fv 68 1 = some (7, some 70) := rfl
theorem xf_68_2 : xv_fv 68 2 = some (7, none) := rfl
theorem xf_68_3 : xv_fv 68 3 = some (7, none) := rfl
theorem xf_68_4 : xv_fv 68 4 = some (7, none) := rfl
theorem xf_68_5 : xv_fv 68 5 = some (7, none) := rfl
theorem xf_68_6 : xv_fv 68 6 = some (7, none) := rfl
theorem xf_ar69 : xv_ar 69 = some (3, 10) := rfl
theorem xf_rr69 : xv_rr 69 = some (10, 71, 2) := rfl
theorem xf_ar70 : xv_ar 70 = some (4, 20) := rfl
theorem xf_rr70 : xv_rr 70 = some (20, 91, 1) := rfl
theorem xf_oc71 : xv_oc 71 = some 8 := rfl
theorem xf_ar72 : xv_ar 72 = some (0, 12) := rfl
theorem xf_oc73 : xv_oc 73 = some 8 := rfl
theorem xf_ar74 : xv_ar 74 = some (0, 12) := rfl
theorem xf_oc75 : xv_oc 75 = some 8 := rfl
theorem xf_ar76 : xv_ar 76 = some (0, 12) := rfl
theorem xf_oc77 : xv_oc 77 = some 8 := rfl
theorem xf_ar78 : xv_ar 78 = some (0, 12) := rfl
theorem xf_oc79 : xv_oc 79 = some 8 := rfl
theorem xf_ar80 : xv_ar 80 = some (0, 12) := rfl
theorem xf_oc81 : xv_oc 81 = some 8 := rfl
theorem xf_ar82 : xv_ar 82 = some (0, 12) := rfl
theorem xf_oc83 : xv_oc 83 = some 8 := rfl
theorem xf_ar84 : xv_ar 84 = some (0, 12) := rfl
theorem xf_oc85 : xv_oc 85 = some 8 := rfl
theorem xf_ar86 : xv_ar 86 = some (0, 12) := rfl
theorem xf_oc87 : xv_oc 87 = some 8 := rfl
theorem xf_ar88 : xv_ar 88 = some (0, 12) := rfl
theorem xf_oc89 : xv_oc 89 = some 8 := rfl
theorem xf_ar90 : xv_ar 90 = some (0, 12) := rfl
theorem xf_oc91 : xv_oc 91 = some 9 := rfl
theorem xf_oc92 : xv_oc 92 = some 9 := rfl
theorem xf_oc93 : xv_oc 93 = some 9 := rfl
theorem xf_oc94 : xv_oc 94 = some 9 := rfl
theorem xf_oc95 : xv_oc 95 = some 9 := rfl
theorem xf_oc96 : xv_oc 96 = some 9 := rfl
theorem xf_oc97 : xv_oc 97 = some 9 := rfl
theorem xf_oc98 : xv_oc 98 = some 9 := rfl
theorem xf_oc99 : xv_oc 99 = some 9 := rfl
theorem xf_oc100 : xv_oc 100 = some 9 := rfl
theorem xf_oc101 : xv_oc 101 = some 9 := rfl
theorem xf_oc102 : xv_oc 102 = some 9 := rfl
theorem xf_oc103 : xv_oc 103 = some 9 := rfl
theorem xf_oc104 : xv_oc 104 = some 9 := rfl
theorem xf_oc105 : xv_oc 105 = some 9 := rfl
theorem xf_oc106 : xv_oc 106 = some 9 := rfl
theorem xf_oc107 : xv_oc 107 = some 9 := rfl
theorem xf_oc108 : xv_oc 108 = some 9 := rfl
theorem xf_oc109 : xv_oc 109 = some 9 := rfl
theorem xf_oc110 : xv_oc 110 = some 9 := rfl
theorem xf_oc111 : xv_oc 111 = some 7 := rfl
theorem xf_111_0 : xv_fv 111 0 = some (7, some 112) := rfl
theorem xf_111_1 : xv_fv 111 1 = some (7, some 113) := rfl
theorem xf_111_2 : xv_fv 111 2 = some (7, none) := rfl
theorem xf_111_3 : xv_fv 111 3 = some (7, none) := rfl
theorem xf_111_4 : xv_fv 111 4 = some (7, none) := rfl
theorem xf_111_5 : xv_fv 111 5 = some (7, none) := rfl
theorem xf_111_6 : xv_fv 111 6 = some (7, none) := rfl
theorem xf_ar112 : xv_ar 112 = some (3, 10) := rfl
theorem xf_rr112 : xv_rr 112 = some (10, 114, 2) := rfl
theorem xf_ar113 : xv_ar 113 = some (4, 20) := rfl
theorem xf_rr113 : xv_rr 113 = some (20, 134, 1) := rfl
theorem xf_oc114 : xv_oc 114 = some 8 := rfl
theorem xf_ar115 : xv_ar 115 = some (0, 12) := rfl
theorem xf_oc116 : xv_oc 116 = some 8 := rfl
theorem xf_ar117 : xv_ar 117 = some (0, 12) := rfl
theorem xf_oc118 : xv_oc 118 = some 8 := rfl
theorem xf_ar119 : xv_ar 119 = some (0, 12) := rfl
theorem xf_oc120 : xv_oc 120 = some 8 := rfl
theorem xf_ar121 : xv_ar 121 = some (0, 12) := rfl
theorem xf_oc122 : xv_oc 122 = some 8 := rfl
theorem xf_ar123 : xv_ar 123 = some (0, 12) := rfl
theorem xf_oc124 : xv_oc 124 = some 8 := rfl
theorem xf_ar125 : xv_ar 125 = some (0, 12) := rfl
theorem xf_oc126 : xv_oc 126 = some 8 := rfl
theorem xf_ar127 : xv_ar 127 = some (0, 12) := rfl
theorem xf_oc128 : xv_oc 128 = some 8 := rfl
theorem xf_ar129 : xv_ar 129 = some (0, 12) := rfl
theorem xf_oc130 : xv_oc 130 = some 8 := rfl
theorem xf_ar131 : xv_ar 131 = some (0, 12) := rfl
theorem xf_oc132 : xv_oc 132 = some 8 := rfl
theorem xf_ar133 : xv_ar 133 = some (0, 12) := rfl
theorem xf_oc134 : xv_oc 134 = some 9 := rfl
theorem xf_oc135 : xv_oc 135 = some 9 := rfl
theorem xf_oc136 : xv_oc 136 = some 9 := rfl
theorem xf_oc137 : xv_oc 137 = some 9 := rfl
theorem xf_oc138 : xv_oc 138 = some 9 := rfl
theorem xf_oc139 : xv_oc 139 = some 9 := rfl
theorem xf_oc140 : xv_oc 140 = some 9 := rfl
theorem xf_oc141 : xv_oc 141 = some 9 := rfl
theorem xf_oc142 : xv_oc 142 = some 9 := rfl
theorem xf_oc143 : xv_oc 143 = some 9 := rfl
theorem xf_oc144 : xv_oc 144 = some 9 := rfl
theorem xf_oc145 : xv_oc 145 = some 9 := rfl
theorem xf_oc146 : xv_oc 146 = some 9 := rfl
theorem xf_oc147 : xv_oc 147 = some 9 := rfl
theorem xf_oc148 : xv_oc 148 = some 9 := rfl
theorem xf_oc149 : xv_oc 149 = some 9 := rfl
theorem xf_oc150 : xv_oc 150 = some 9 := rfl
theorem xf_oc151 : xv_oc 151 = some 9 := rfl
theorem xf_oc152 : xv_oc 152 = some 9 := rfl
theorem xf_oc153 : xv_oc 153 = some 9 := rfl
theorem xf_oc154 : xv_oc 154 = some 8 := rfl
theorem xf_ar155 : xv_ar 155 = some (0, 12) := rfl
theorem xf_oc156 : xv_oc 156 = some 10 := rfl
theorem xf_156_0 : xv_fv 156 0 = some (10, some 157) := rfl
theorem xf_156_1 : xv_fv 156 1 = some (10, some 158) := rfl
theorem xf_156_2 : xv_fv 156 2 = some (10, some 159) := rfl
theorem xf_156_3 : xv_fv 156 3 = some (10, none) := rfl
theorem xf_156_4 : xv_fv 156 4 = some (10, none) := rfl
theorem xf_ar157 : xv_ar 157 = some (0, 10) := rfl
theorem xf_ar158 : xv_ar 158 = some (0, 10) := rfl
theorem xf_ar159 : xv_ar 159 = some (0, 10) := rfl
theorem xf_oc160 : xv_oc 160 = some 11 := rfl
theorem xf_160_0 : xv_fv 160 0 = some (11, some 161) := rfl
theorem xf_160_1 : xv_fv 160 1 = some (11, some 162) := rfl
theorem xf_160_2 : xv_fv 160 2 = some (11, some 163) := rfl
theorem xf_160_3 : xv_fv 160 3 = some (11, some 164) := rfl
theorem xf_160_4 : xv_fv 160 4 = some (11, some 165) := rfl
theorem xf_160_5 : xv_fv 160 5 = some (11, none) := rfl
theorem xf_160_6 : xv_fv 160 6 = some (11, none) := rfl
theorem xf_ar161 : xv_ar 161 = some (0, 5) := rfl
theorem xf_ar162 : xv_ar 162 = some (0, 5) := rfl
theorem xf_ar163 : xv_ar 163 = some (0, 5) := rfl
theorem xf_ar164 : xv_ar 164 = some (0, 5) := rfl
theorem xf_ar165 : xv_ar 165 = some (0, 5) := rfl
theorem xf_ar166 : xv_ar 166 = some (0, 12) := rfl
theorem xf_oc167 : xv_oc 167 = some 0 := rfl
theorem xf_167_0 : xv_fv 167 0 = some (0, some 168) := rfl
theorem xf_167_1 : xv_fv 167 1 = some (0, some 169) := rfl
theorem xf_167_2 : xv_fv 167 2 = some (0, some 170) := rfl
theorem xf_167_3 : xv_fv 167 3 = some (0, some 171) := rfl
theorem xf_167_4 : xv_fv 167 4 = some (0, some 172) := rfl
theorem xf_167_5 : xv_fv 167 5 = some (0, none) := rfl
theorem xf_167_6 : xv_fv 167 6 = some (0, some 173) := rfl
theorem xf_167_7 : xv_fv 167 7 = some (0, none) := rfl
theorem xf_167_8 : xv_fv 167 8 = some (0, none) := rfl
theorem xf_167_9 : xv_fv 167 9 = some (0, none) := rfl
theorem xf_167_10 : xv_fv 167 10 = some (0, none) := rfl
theorem xf_167_11 : xv_fv 167 11 = some (0, none) := rfl
theorem xf_167_12 : xv_fv 167 12 = some (0, none) := rfl
theorem xf_167_13 : xv_fv 167 13 = some (0, none) := rfl
theorem xf_167_14 : xv_fv 167 14 = some (0, none) := rfl
theorem xf_167_15 : xv_fv 167 15 = some (0, none) := rfl
theorem xf_167_16 : xv_fv 167 16 = some (0, none) := rfl
theorem xf_167_17 : xv_fv 167 17 = some (0, some 174) := rfl
theorem xf_167_18 : xv_fv 167 18 = some (0, some 175) := rfl
theorem xf_167_19 : xv_fv 167 19 = some (0, some 176) := rfl
theorem xf_167_20 : xv_fv 167 20 = some (0, some 177) := rfl
theorem xf_167_21 : xv_fv 167 21 = some (0, some 178) := rfl
theorem xf_167_22 : xv_fv 167 22 = some (0, some 179) := rfl
theorem xf_167_23 : xv_fv 167 23 = some (0, some 180) := rfl
theorem xf_167_24 : xv_fv 167 24 = some (0, some 181) := rfl
theorem xf_167_25 : xv_fv 167 25 = some (0, some 182) := rfl
theorem xf_167_26 : xv_fv 167 26 = some (0, some 183) := rfl
theorem xf_167_27 : xv_fv 167 27 = some (0, some 184) := rfl
theorem xf_167_28 : xv_fv 167 28 = some (0, some 185) := rfl
theorem xf_167_29 : xv_fv 167 29 = some (0, some 186) := rfl
theorem xf_167_30 : xv_fv 167 30 = some (0, some 187) := rfl
theorem xf_167_31 : xv_fv 167 31 = some (0, some 188) := rfl
theorem xf_167_32 : xv_fv 167 32 = some (0, none) := rfl
theorem xf_167_33 : xv_fv 167 33 = some (0, none) := rfl
theorem xf_167_34 : xv_fv 167 34 = some (0, none) := rfl
theorem xf_167_35 : xv_fv 167 35 = some (0, none) := rfl
theorem xf_167_36 : xv_fv 167 36 = some (0, some 189) := rfl
theorem xf_167_37 : xv_fv 167 37 = some (0, none) := rfl
theorem xf_167_38 : xv_fv 167 38 = some (0, some 190) := rfl
theorem xf_167_39 : xv_fv 167 39 = some (0, some 191) := rfl
theorem xf_167_40 : xv_fv 167 40 = some (0, some 192) := rfl
theorem xf_167_41 : xv_fv 167 41 = some (0, some 193) := rfl
theorem xf_167_42 : xv_fv 167 42 = some (0, none) := rfl
theorem xf_167_43 : xv_fv 167 43 = some (0, none) := rfl
theorem xf_167_44 : xv_fv 167 44 = some (0, none) := rfl
theorem xf_167_45 : xv_fv 167 45 = some (0, some 194) := rfl
theorem xf_167_46 : xv_fv 167 46 = some (0, some 195) := rfl
theorem xf_167_47 : xv_fv 167 47 = some (0, some 196) := rfl
theorem xf_167_48 : xv_fv 167 48 = some (0, some 197) := rfl
theorem xf_167_49 : xv_fv 167 49 = some (0, some 198) := rfl
theorem xf_167_50 : xv_fv 167 50 = some (0, some 199) := rfl
theorem xf_167_51 : xv_fv 167 51 = some (0, none) := rfl
theorem xf_ar168 : xv_ar 168 = some (0, 304) := rfl
theorem xf_ar169 : xv_ar 169 = some (0, 304) := rfl
theorem xf_ar170 : xv_ar 170 = some (0, 304) := rfl
theorem xf_ar171 : xv_ar 171 = some (0, 5) := rfl
theorem xf_ar172 : xv_ar 172 = some (1, 8) := rfl
theorem xf_ar173 : xv_ar 173 = some (2, 260) := rfl
theorem xf_ar174 : xv_ar 174 = some (0, 260) := rfl
theorem xf_ar175 : xv_ar 175 = some (0, 260) := rfl
theorem xf_ar176 : xv_ar 176 = some (0, 16) := rfl
theorem xf_ar177 : xv_ar 177 = some (0, 16) := rfl
theorem xf_ar178 : xv_ar 178 = some (0, 16) := rfl
theorem xf_ar179 : xv_ar 179 = some (0, 16) := rfl
theorem xf_ar180 : xv_ar 180 = some (0, 260) := rfl
theorem xf_ar181 : xv_ar 181 = some (0, 16) := rfl
theorem xf_ar182 : xv_ar 182 = some (0, 16) := rfl
theorem xf_ar183 : xv_ar 183 = some (0, 16) := rfl
theorem xf_ar184 : xv_ar 184 = some (0, 16) := rfl
theorem xf_ar185 : xv_ar 185 = some (0, 260) := rfl
theorem xf_ar186 : xv_ar 186 = some (0, 8) := rfl
theorem xf_ar187 : xv_ar 187 = some (0, 60) := rfl
theorem xf_ar188 : xv_ar 188 = some (1, 60) := rfl
theorem xf_ar189 : xv_ar 189 = some (0, 12) := rfl
theorem xf_ar190 : xv_ar 190 = some (0, 20) := rfl
theorem xf_ar191 : xv_ar 191 = some (0, 20) := rfl
theorem xf_ar192 : xv_ar 192 = some (0, 20) := rfl
theorem xf_ar193 : xv_ar 193 = some (0, 10) := rfl
theorem xf_ar194 : xv_ar 194 = some (1, 32) := rfl
theorem xf_ar195 : xv_ar 195 = some (0, 10) := rfl
theorem xf_ar196 : xv_ar 196 = some (0, 11) := rfl
theorem xf_ar197 : xv_ar 197 = some (0, 5) := rfl
theorem xf_ar198 : xv_ar 198 = some (0, 5) := rfl
theorem xf_ar199 : xv_ar 199 = some (0, 5) := rfl
def xr_all := And.intro (And.intro (And.intro (And.intro (And.intro (And.intro (And.intro (@xr_null) (And.intro (@xr_iconst) (@xr_bipush))) (And.intro (And.intro (@xr_sipush) (@xr_lconst)) (And.intro (@xr_ldc) (@xr_ldc_w)))) (And.intro (And.intro (@xr_ldc2_w) (And.intro (@xr_iload0) (@xr_istore0))) (And.intro (And.intro (@xr_lload0) (@xr_lstore0)) (And.intro (@xr_aload0) (@xr_astore0))))) (And.intro (And.intro (And.intro (@xr_a0load0) (And.intro (@xr_a0store0) (@xr_iinc0))) (And.intro (And.intro (@xr_iload1) (@xr_istore1)) (And.intro (@xr_lload1) (@xr_lstore1)))) (And.intro (And.intro (And.intro (@xr_aload1) (@xr_astore1)) (And.intro (@xr_a0load1) (@xr_a0store1))) (And.intro (And.intro (@xr_iinc1) (@xr_iload2)) (And.intro (@xr_istore2) (@xr_lload2)))))) (And.intro (And.intro (And.intro (And.intro (@xr_lstore2) (And.intro (@xr_aload2) (@xr_astore2))) (And.intro (And.intro (@xr_a0load2) (@xr_a0store2)) (And.intro (@xr_iinc2) (@xr_iload3)))) (And.intro (And.intro (And.intro (@xr_istore3) (@xr_lload3)) (And.intro (@xr_lstore3) (@xr_aload3))) (And.intro (And.intro (@xr_astore3) (@xr_a0load3)) (And.intro (@xr_a0store3) (@xr_iinc3))))) (And.intro (And.intro (And.intro (@xr_iload4) (And.intro (@xr_istore4) (@xr_lload4))) (And.intro (And.intro (@xr_lstore4) (@xr_aload4)) (And.intro (@xr_astore4) (@xr_a0load4)))) (And.intro (And.intro (And.intro (@xr_a0store4) (@xr_iinc4)) (And.intro (@xr_iload5) (@xr_istore5))) (And.intro (And.intro (@xr_lload5) (@xr_lstore5)) (And.intro (@xr_aload5) (@xr_astore5))))))) (And.intro (And.intro (And.intro (And.intro (And.intro (@xr_a0load5) (And.intro (@xr_a0store5) (@xr_iinc5))) (And.intro (And.intro (@xr_iload6) (@xr_istore6)) (And.intro (@xr_lload6) (@xr_lstore6)))) (And.intro (And.intro (@xr_aload6) (And.intro (@xr_astore6) (@xr_a0load6))) (And.intro (And.intro (@xr_a0store6) (@xr_iinc6)) (And.intro (@xr_iload7) (@xr_istore7))))) (And.intro (And.intro (And.intro (@xr_lload7) (And.intro (@xr_lstore7) (@xr_aload7))) (And.intro (And.intro (@xr_astore7) (@xr_a0load7)) (And.intro (@xr_a0store7) (@xr_iinc7)))) (And.intro (And.intro (And.intro (@xr_iload8) (@xr_istore8)) (And.intro (@xr_lload8) (@xr_lstore8))) (And.intro (And.intro (@xr_aload8) (@xr_astore8)) (And.intro (@xr_a0load8) (@xr_a0store8)))))) (And.intro (And.intro (And.intro (And.intro (@xr_iinc8) (And.intro (@xr_iload9) (@xr_istore9))) (And.intro (And.intro (@xr_lload9) (@xr_lstore9)) (And.intro (@xr_aload9) (@xr_astore9)))) (And.intro (And.intro (And.intro (@xr_a0load9) (@xr_a0store9)) (And.intro (@xr_iinc9) (@xr_iload10))) (And.intro (And.intro (@xr_istore10) (@xr_lload10)) (And.intro (@xr_lstore10) (@xr_aload10))))) (And.intro (And.intro (And.intro (@xr_astore10) (And.intro (@xr_a0load10) (@xr_a0store10))) (And.intro (And.intro (@xr_iinc10) (@xr_dup_i)) (And.intro (@xr_dup_r) (@xr_dup2)))) (And.intro (And.intro (And.intro (@xr_pop_i) (@xr_pop_r)) (And.intro (@xr_iadd) (@xr_isub))) (And.intro (And.intro (@xr_imul) (@xr_iand)) (And.intro (@xr_ior) (@xr_ixor)))))))) (And.intro (And.intro (And.intro (And.intro (And.intro (And.intro (@xr_ishl) (And.intro (@xr_ishr) (@xr_iushr))) (And.intro (And.intro (@xr_ladd) (@xr_lsub)) (And.intro (@xr_lmul) (@xr_land)))) (And.intro (And.intro (@xr_lor) (And.intro (@xr_lxor) (@xr_lcmp))) (And.intro (And.intro (@xr_lshl) (@xr_lshr)) (And.intro (@xr_ineg) (@xr_i2l))))) (And.intro (And.intro (And.intro (@xr_i2b) (And.intro (@xr_l2i) (@xr_lneg))) (And.intro (And.intro (@xr_idiv) (@xr_irem)) (And.intro (@xr_ldiv) (@xr_lrem)))) (And.intro (And.intro (And.intro (@xr_icmp_eq) (@xr_icmp_lt)) (And.intro (@xr_icmp_ge) (@xr_icmp_gt))) (And.intro (And.intro (@xr_icmp_le) (@xr_if_eq)) (And.intro (@xr_if_lt) (@xr_if_ge)))))) (And.intro (And.intro (And.intro (And.intro (@xr_if_gt) (And.intro (@xr_if_le) (@xr_icmp_ne))) (And.intro (And.intro (@xr_if_ne) (@xr_goto)) (And.intro (@xr_nop) (@xr_ifnull_n)))) (And.intro (And.intro (And.intro (@xr_ifnull_r) (@xr_ifnonnull_n)) (And.intro (@xr_ifnonnull_r) (@xr_tsw))) (And.intro (And.intro (@xr_getf) (@xr_putf)) (And.intro (@xr_putfb) (@xr_iaload))))) (And.intro (And.intro (And.intro (@xr_baload) (And.intro (@xr_laload) (@xr_iastore))) (And.intro (And.intro (@xr_bastore) (@xr_lastore)) (And.intro (@xr_aaload) (@xr_alen)))) (And.intro (And.intro (And.intro (@xr_getstatic) (@xr_ialdr)) (And.intro (@xr_alenr) (@xr_invV0))) (And.intro (And.intro (@xr_invS0) (@xr_invV1)) (And.intro (@xr_invS1) (@xr_invV2))))))) (And.intro (And.intro (And.intro (And.intro (And.intro (@xr_invS2) (And.intro (@xr_invV3) (@xr_invS3))) (And.intro (And.intro (@xr_invV4) (@xr_invS4)) (And.intro (@xr_invV5) (@xr_invS5)))) (And.intro (And.intro (@xr_math0) (And.intro (@xr_math1) (@xr_math2))) (And.intro (And.intro (@xr_math3) (@xr_math4)) (And.intro (@xr_math5) (@xr_reti))))) (And.intro (And.intro (And.intro (@xr_retz) (And.intro (@xr_retl) (@xr_reta))) (And.intro (And.intro (@xr_retn) (@xr_retv)) (And.intro (@xr_fw1) (@xr_fw2)))) (And.intro (And.intro (And.intro (@xr_fo) (@xr_ak)) (And.intro (@xr_ri) (@xr_ra))) (And.intro (And.intro (@xr_no0) (@xr_nv0)) (And.intro (@xr_qi) (@xr_qv)))))) (And.intro (And.intro (And.intro (And.intro (@xr_qn) (And.intro (@xr_tk) (@xr_bdi))) (And.intro (And.intro (@xr_b0) (@xr_b1)) (And.intro (@xr_01) (@xr_11)))) (And.intro (And.intro (And.intro (@xr_10) (@xr_01f)) (And.intro (@xr_l40) (@xr_l41))) (And.intro (And.intro (@xr_l42) (@xr_l43)) (And.intro (@xr_l44) (@xr_ok))))) (And.intro (And.intro (And.intro (@xv_bd_some) (And.intro (@xr_ci0) (@xr_ci1))) (And.intro (And.intro (@xr_ci2) (@xr_ci3)) (And.intro (@xr_ci4) (@xr_ci5)))) (And.intro (And.intro (And.intro (@xr_ci6) (@xr_ci7)) (And.intro (@xr_ci8) (@xr_ci9))) (And.intro (And.intro (@xr_ci10) (@xr_ci11)) (And.intro (@xr_tl0) (@xr_tl1))))))))
def xf_all := And.intro (And.intro (And.intro (And.intro (And.intro (And.intro (And.intro (And.intro (@xf_oc0) (@xf_0_0)) (And.intro (@xf_0_1) (And.intro (@xf_0_2) (@xf_0_3)))) (And.intro (And.intro (@xf_0_4) (@xf_0_5)) (And.intro (@xf_0_6) (And.intro (@xf_0_7) (@xf_0_8))))) (And.intro (And.intro (And.intro (@xf_0_9) (@xf_0_10)) (And.intro (@xf_0_11) (And.intro (@xf_0_12) (@xf_0_13)))) (And.intro (And.intro (@xf_oc1) (And.intro (@xf_1_0) (@xf_1_1))) (And.intro (@xf_1_2) (And.intro (@xf_1_3) (@xf_1_4)))))) (And.intro (And.intro (And.intro (And.intro (@xf_ar2) (@xf_oc3)) (And.intro (@xf_3_0) (And.intro (@xf_3_1) (@xf_ar4)))) (And.intro (And.intro (@xf_oc5) (@xf_5_0)) (And.intro (@xf_5_1) (And.intro (@xf_5_2) (@xf_5_3))))) (And.intro (And.intro (And.intro (@xf_5_4) (@xf_5_5)) (And.intro (@xf_5_6) (And.intro (@xf_5_7) (@xf_5_8)))) (And.intro (And.intro (@xf_ar6) (And.intro (@xf_ar7) (@xf_ar8))) (And.intro (@xf_ar9) (And.intro (@xf_ar10) (@xf_ar11))))))) (And.intro (And.intro (And.intro (And.intro (And.intro (@xf_ar12) (@xf_oc13)) (And.intro (@xf_13_0) (And.intro (@xf_13_1) (@xf_13_2)))) (And.intro (And.intro (@xf_13_3) (@xf_13_4)) (And.intro (@xf_13_5) (And.intro (@xf_13_6) (@xf_13_7))))) (And.intro (And.intro (And.intro (@xf_13_8) (@xf_ar14)) (And.intro (@xf_ar15) (And.intro (@xf_ar16) (@xf_ar17)))) (And.intro (And.intro (@xf_ar18) (And.intro (@xf_ar19) (@xf_ar20))) (And.intro (@xf_oc21) (And.intro (@xf_21_0) (@xf_21_1)))))) (And.intro (And.intro (And.intro (And.intro (@xf_21_2) (@xf_21_3)) (And.intro (@xf_21_4) (And.intro (@xf_21_5) (@xf_21_6)))) (And.intro (And.intro (@xf_21_7) (And.intro (@xf_oc22) (@xf_22_0))) (And.intro (@xf_22_1) (And.intro (@xf_ar23) (@xf_ar24))))) (And.intro (And.intro (And.intro (@xf_oc25) (@xf_25_0)) (And.intro (@xf_25_1) (And.intro (@xf_25_2) (@xf_25_3)))) (And.intro (And.intro (@xf_25_4) (And.intro (@xf_25_5) (@xf_25_6))) (And.intro (@xf_ar26) (And.intro (@xf_rr26) (@xf_ar27)))))))) (And.intro (And.intro (And.intro (And.intro (And.intro (And.intro (@xf_rr27) (@xf_oc28)) (And.intro (@xf_ar29) (And.intro (@xf_oc30) (@xf_ar31)))) (And.intro (And.intro (@xf_oc32) (@xf_ar33)) (And.intro (@xf_oc34) (And.intro (@xf_ar35) (@xf_oc36))))) (And.intro (And.intro (And.intro (@xf_ar37) (@xf_oc38)) (And.intro (@xf_ar39) (And.intro (@xf_oc40) (@xf_ar41)))) (And.intro (And.intro (@xf_oc42) (And.intro (@xf_ar43) (@xf_oc44))) (And.intro (@xf_ar45) (And.intro (@xf_oc46) (@xf_ar47)))))) (And.intro (And.intro (And.intro (And.intro (@xf_oc48) (@xf_oc49)) (And.intro (@xf_oc50) (And.intro (@xf_oc51) (@xf_oc52)))) (And.intro (And.intro (@xf_oc53) (@xf_oc54)) (And.intro (@xf_oc55) (And.intro (@xf_oc56) (@xf_oc57))))) (And.intro (And.intro (And.intro (@xf_oc58) (@xf_oc59)) (And.intro (@xf_oc60) (And.intro (@xf_oc61) (@xf_oc62)))) (And.intro (And.intro (@xf_oc63) (And.intro (@xf_oc64) (@xf_oc65))) (And.intro (@xf_oc66) (And.intro (@xf_oc67) (@xf_oc68))))))) (And.intro (And.intro (And.intro (And.intro (And.intro (@xf_68_0) (@xf_68_1)) (And.intro (@xf_68_2) (And.intro (@xf_68_3) (@xf_68_4)))) (And.intro (And.intro (@xf_68_5) (@xf_68_6)) (And.intro (@xf_ar69) (And.intro (@xf_rr69) (@xf_ar70))))) (And.intro (And.intro (And.intro (@xf_rr70) (@xf_oc71)) (And.intro (@xf_ar72) (And.intro (@xf_oc73) (@xf_ar74)))) (And.intro (And.intro (@xf_oc75) (And.intro (@xf_ar76) (@xf_oc77))) (And.intro (@xf_ar78) (And.intro (@xf_oc79) (@xf_ar80)))))) (And.intro (And.intro (And.intro (And.intro (@xf_oc81) (@xf_ar82)) (And.intro (@xf_oc83) (And.intro (@xf_ar84) (@xf_oc85)))) (And.intro (And.intro (@xf_ar86) (And.intro (@xf_oc87) (@xf_ar88))) (And.intro (@xf_oc89) (And.intro (@xf_ar90) (@xf_oc91))))) (And.intro (And.intro (And.intro (@xf_oc92) (@xf_oc93)) (And.intro (@xf_oc94) (And.intro (@xf_oc95) (@xf_oc96)))) (And.intro (And.intro (@xf_oc97) (And.intro (@xf_oc98) (@xf_oc99))) (And.intro (@xf_oc100) (And.intro (@xf_oc101) (@xf_oc102))))))))) (And.intro (And.intro (And.intro (And.intro (And.intro (And.intro (And.intro (@xf_oc103) (@xf_oc104)) (And.intro (@xf_oc105) (And.intro (@xf_oc106) (@xf_oc107)))) (And.intro (And.intro (@xf_oc108) (@xf_oc109)) (And.intro (@xf_oc110) (And.intro (@xf_oc111) (@xf_111_0))))) (And.intro (And.intro (And.intro (@xf_111_1) (@xf_111_2)) (And.intro (@xf_111_3) (And.intro (@xf_111_4) (@xf_111_5)))) (And.intro (And.intro (@xf_111_6) (And.intro (@xf_ar112) (@xf_rr112))) (And.intro (@xf_ar113) (And.intro (@xf_rr113) (@xf_oc114)))))) (And.intro (And.intro (And.intro (And.intro (@xf_ar115) (@xf_oc116)) (And.intro (@xf_ar117) (And.intro (@xf_oc118) (@xf_ar119)))) (And.intro (And.intro (@xf_oc120) (@xf_ar121)) (And.intro (@xf_oc122) (And.intro (@xf_ar123) (@xf_oc124))))) (And.intro (And.intro (And.intro (@xf_ar125) (@xf_oc126)) (And.intro (@xf_ar127) (And.intro (@xf_oc128) (@xf_ar129)))) (And.intro (And.intro (@xf_oc130) (And.intro (@xf_ar131) (@xf_oc132))) (And.intro (@xf_ar133) (And.intro (@xf_oc134) (@xf_oc135))))))) (And.intro (And.intro (And.intro (And.intro (And.intro (@xf_oc136) (@xf_oc137)) (And.intro (@xf_oc138) (And.intro (@xf_oc139) (@xf_oc140)))) (And.intro (And.intro (@xf_oc141) (@xf_oc142)) (And.intro (@xf_oc143) (And.intro (@xf_oc144) (@xf_oc145))))) (And.intro (And.intro (And.intro (@xf_oc146) (@xf_oc147)) (And.intro (@xf_oc148) (And.intro (@xf_oc149) (@xf_oc150)))) (And.intro (And.intro (@xf_oc151) (And.intro (@xf_oc152) (@xf_oc153))) (And.intro (@xf_oc154) (And.intro (@xf_ar155) (@xf_oc156)))))) (And.intro (And.intro (And.intro (And.intro (@xf_156_0) (@xf_156_1)) (And.intro (@xf_156_2) (And.intro (@xf_156_3) (@xf_156_4)))) (And.intro (And.intro (@xf_ar157) (And.intro (@xf_ar158) (@xf_ar159))) (And.intro (@xf_oc160) (And.intro (@xf_160_0) (@xf_160_1))))) (And.intro (And.intro (And.intro (@xf_160_2) (@xf_160_3)) (And.intro (@xf_160_4) (And.intro (@xf_160_5) (@xf_160_6)))) (And.intro (And.intro (@xf_ar161) (And.intro (@xf_ar162) (@xf_ar163))) (And.intro (@xf_ar164) (And.intro (@xf_ar165) (@xf_ar166)))))))) (And.intro (And.intro (And.intro (And.intro (And.intro (And.intro (@xf_oc167) (@xf_167_0)) (And.intro (@xf_167_1) (And.intro (@xf_167_2) (@xf_167_3)))) (And.intro (And.intro (@xf_167_4) (@xf_167_5)) (And.intro (@xf_167_6) (And.intro (@xf_167_7) (@xf_167_8))))) (And.intro (And.intro (And.intro (@xf_167_9) (@xf_167_10)) (And.intro (@xf_167_11) (And.intro (@xf_167_12) (@xf_167_13)))) (And.intro (And.intro (@xf_167_14) (And.intro (@xf_167_15) (@xf_167_16))) (And.intro (@xf_167_17) (And.intro (@xf_167_18) (@xf_167_19)))))) (And.intro (And.intro (And.intro (And.intro (@xf_167_20) (@xf_167_21)) (And.intro (@xf_167_22) (And.intro (@xf_167_23) (@xf_167_24)))) (And.intro (And.intro (@xf_167_25) (@xf_167_26)) (And.intro (@xf_167_27) (And.intro (@xf_167_28) (@xf_167_29))))) (And.intro (And.intro (And.intro (@xf_167_30) (@xf_167_31)) (And.intro (@xf_167_32) (And.intro (@xf_167_33) (@xf_167_34)))) (And.intro (And.intro (@xf_167_35) (And.intro (@xf_167_36) (@xf_167_37))) (And.intro (@xf_167_38) (And.intro (@xf_167_39) (@xf_167_40))))))) (And.intro (And.intro (And.intro (And.intro (And.intro (@xf_167_41) (@xf_167_42)) (And.intro (@xf_167_43) (And.intro (@xf_167_44) (@xf_167_45)))) (And.intro (And.intro (@xf_167_46) (@xf_167_47)) (And.intro (@xf_167_48) (And.intro (@xf_167_49) (@xf_167_50))))) (And.intro (And.intro (And.intro (@xf_167_51) (@xf_ar168)) (And.intro (@xf_ar169) (And.intro (@xf_ar170) (@xf_ar171)))) (And.intro (And.intro (@xf_ar172) (And.intro (@xf_ar173) (@xf_ar174))) (And.intro (@xf_ar175) (And.intro (@xf_ar176) (@xf_ar177)))))) (And.intro (And.intro (And.intro (And.intro (@xf_ar178) (@xf_ar179)) (And.intro (@xf_ar180) (And.intro (@xf_ar181) (@xf_ar182)))) (And.intro (And.intro (@xf_ar183) (And.intro (@xf_ar184) (@xf_ar185))) (And.intro (@xf_ar186) (And.intro (@xf_ar187) (@xf_ar188))))) (And.intro (And.intro (And.intro (@xf_ar189) (@xf_ar190)) (And.intro (@xf_ar191) (And.intro (@xf_ar192) (@xf_ar193)))) (And.intro (And.intro (@xf_ar194) (And.intro (@xf_ar195) (@xf_ar196))) (And.intro (@xf_ar197) (And.intro (@xf_ar198) (@xf_ar199)))))))))
