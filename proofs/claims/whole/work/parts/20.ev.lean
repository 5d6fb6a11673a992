/-! THE SMALL MACHINE AS EQUATIONS: what it comes to with enough steps, and each instruction's equation -/
theorem xv_up0 {mt : Nat → Option xv_M} {ro : xv_Ro} {n d : Nat} {M : xv_M} {i : Instr} {a b w : Nat} {v : Value} {ops : List xv_Op} {ls ls' : xv_L} {st st' : List Value} {σ : xv_S} (hk : xv_kd i = 0) (h : xv_loc i v ls st = some (ls', st')) : xv_exec mt ro (n + 1) d M ((i, a, b, w, v) :: ops) ls st σ = xv_exec mt ro n d M ops ls' st' σ := by
  conv => lhs; unfold xv_exec
  rw [hk]; simp only [h]
theorem xv_up1 {mt : Nat → Option xv_M} {ro : xv_Ro} {n d c : Nat} {M : xv_M} {i : Instr} {a b w : Nat} {v : Value} {ops : List xv_Op} {ls : xv_L} {st st' : List Value} {σ : xv_S} (hk : xv_kd i = 1) (h : xv_jmp i a st = some (some c, st')) : xv_exec mt ro (n + 1) d M ((i, a, b, w, v) :: ops) ls st σ = xv_exec mt ro n d M (xv_at M.2.2.2.2.2.2 c) ls st' σ := by
  conv => lhs; unfold xv_exec
  rw [hk]; simp only [h]
theorem xv_up1n {mt : Nat → Option xv_M} {ro : xv_Ro} {n d : Nat} {M : xv_M} {i : Instr} {a b w : Nat} {v : Value} {ops : List xv_Op} {ls : xv_L} {st st' : List Value} {σ : xv_S} (hk : xv_kd i = 1) (h : xv_jmp i a st = some (none, st')) : xv_exec mt ro (n + 1) d M ((i, a, b, w, v) :: ops) ls st σ = xv_exec mt ro n d M ops ls st' σ := by
  conv => lhs; unfold xv_exec
  rw [hk]; simp only [h]
theorem xv_up2 {mt : Nat → Option xv_M} {ro : xv_Ro} {n d : Nat} {M : xv_M} {i : Instr} {a b w : Nat} {v : Value} {ops : List xv_Op} {ls : xv_L} {st st' : List Value} {σ σ' : xv_S} (hk : xv_kd i = 2) (h : xv_hp ro i a b v σ st = some (st', σ')) : xv_exec mt ro (n + 1) d M ((i, a, b, w, v) :: ops) ls st σ = xv_exec mt ro n d M ops ls st' σ' := by
  conv => lhs; unfold xv_exec
  rw [hk]; simp only [h]
theorem xv_up3n {mt : Nat → Option xv_M} {ro : xv_Ro} {n d : Nat} {M : xv_M} {i : Instr} {a b w : Nat} {ops : List xv_Op} {ls : xv_L} {st st' rest : List Value} {σ : xv_S} (hk : xv_kd i = 3) (h : xv_spc i a st = some (st', rest)) (hr : rest.length ≤ 4) : xv_exec mt ro (n + 1) (d + 1) M ((i, a, b, w, .null) :: ops) ls st σ = xv_exec mt ro n (d + 1) M ops ls st' σ := by
  conv => lhs; unfold xv_exec
  rw [hk]; simp only [h, if_pos hr, if_true]
theorem xv_up3 {mt : Nat → Option xv_M} {ro : xv_Ro} {n d k : Nat} {M M' : xv_M} {i : Instr} {a b w : Nat} {v : Value} {ops : List xv_Op} {ls ls0 : xv_L} {st as rest : List Value} {σ σ' : xv_S} {r : Option Value} (hk : xv_kd i = 3) (hv : ¬ v = .null) (h : xv_call i a b v σ.2 st = some (k, as, rest)) (hm : mt k = some M') (hi : xv_ini M' as = some ls0)
    (hr : rest.length ≤ 4 ∧ as.length = M'.2.2.2.2.1.2.2 + (if M'.2.2.2.2.1.2.1 = 0 then 0 else 1)) (he : xv_exec mt ro n d M' (xv_at M'.2.2.2.2.2.2 0) ls0 [] σ = some (r, σ')) : xv_exec mt ro (n + 1) (d + 1) M ((i, a, b, w, v) :: ops) ls st σ = xv_exec mt ro n (d + 1) M ops ls (r.toList ++ rest) σ' := by
  conv => lhs; unfold xv_exec
  rw [hk]; dsimp only; rw [if_neg hv]
  change (match xv_call i a b v σ.2 st with
          | some (k, as, rest) => _
          | none => none) = _
  rw [h]; dsimp only; rw [hm]; dsimp only; rw [hi]; dsimp only; rw [if_pos hr, he]
theorem xv_up4 {mt : Nat → Option xv_M} {ro : xv_Ro} {n d : Nat} {M : xv_M} {i : Instr} {a b w : Nat} {v : Value} {ops : List xv_Op} {ls : xv_L} {st : List Value} {σ : xv_S} {r : Option Value} (hk : xv_kd i = 4) (h : xv_ret M i st = some r) : xv_exec mt ro (n + 1) d M ((i, a, b, w, v) :: ops) ls st σ = some (r, σ) := by
  conv => lhs; unfold xv_exec
  rw [hk]; simp only [h]
/-- more steps change nothing -/
theorem xv_more {mt : Nat → Option xv_M} {ro : xv_Ro} : ∀ (n d : Nat) (M : xv_M) (ops : List xv_Op) (ls : xv_L) (st : List Value) (σ : xv_S) (res : Option Value × xv_S), xv_exec mt ro n d M ops ls st σ = some res → xv_exec mt ro (n + 1) d M ops ls st σ = some res := by
  intro n
  induction n with
  | zero => intro d M ops ls st σ res h; unfold xv_exec at h; cases h
  | succ n ih =>
    intro d M ops ls st σ res h
    cases ops with
    | nil => unfold xv_exec at h; cases h
    | cons op ops =>
      obtain ⟨i, a, b, w, v⟩ := op
      rcases xv_kd_lt i with hk | hk | hk | hk | hk
      · obtain ⟨ls', st', h1, h2⟩ := xv_exec_0 hk h
        rw [xv_up0 hk h1]; exact ih _ _ _ _ _ _ _ h2
      · obtain ⟨t, st', h1, h2, h3⟩ := xv_exec_1 hk h
        cases t with
        | none => rw [xv_up1n hk h1]; exact ih _ _ _ _ _ _ _ (h3 rfl)
        | some c => rw [xv_up1 hk h1]; exact ih _ _ _ _ _ _ _ (h2 c rfl)
      · obtain ⟨st', σ1, h1, h2⟩ := xv_exec_2 hk h
        rw [xv_up2 hk h1]; exact ih _ _ _ _ _ _ _ h2
      · obtain ⟨d', rfl, h2 | h2⟩ := xv_exec_3 hk h
        · obtain ⟨rfl, st', rest, h1, hr, h3⟩ := h2
          rw [xv_up3n hk h1 hr]; exact ih _ _ _ _ _ _ _ h3
        · obtain ⟨hv, k, as, rest, M', ls0, r1, σ1, h1, hm, hi, hr, hal, h3, h4⟩ := h2
          rw [xv_up3 hk hv h1 hm hi ⟨hr, hal⟩ (ih _ _ _ _ _ _ _ h3)]; exact ih _ _ _ _ _ _ _ h4
      · obtain ⟨r1, h1, h2⟩ := xv_exec_4 hk h
        subst h2
        rw [xv_up4 hk h1]
theorem xv_le {mt : Nat → Option xv_M} {ro : xv_Ro} {n m d : Nat} {M : xv_M} {ops : List xv_Op} {ls : xv_L} {st : List Value} {σ : xv_S} {res : Option Value × xv_S} (h : xv_exec mt ro n d M ops ls st σ = some res) (hnm : n ≤ m) : xv_exec mt ro m d M ops ls st σ = some res := by
  induction hnm with
  | refl => exact h
  | step _ ih => exact xv_more _ _ _ _ _ _ _ _ ih
noncomputable def xv_ev (ro : xv_Ro) (d : Nat) (M : xv_M) (ops : List xv_Op) (ls : xv_L) (st : List Value) (σ : xv_S) : Option (Option Value × xv_S) :=
  @dite _ (∃ res, ∃ n, xv_exec xv_mt ro n d M ops ls st σ = some res) (Classical.propDecidable _) (fun h => some (Classical.choose h)) (fun _ => none)
theorem xv_ev_iff {ro : xv_Ro} {d : Nat} {M : xv_M} {ops : List xv_Op} {ls : xv_L} {st : List Value} {σ : xv_S} {res : Option Value × xv_S} : xv_ev ro d M ops ls st σ = some res ↔ ∃ n, xv_exec xv_mt ro n d M ops ls st σ = some res := by
  have det : ∀ r1 r2 : Option Value × xv_S, (∃ n, xv_exec xv_mt ro n d M ops ls st σ = some r1) → (∃ n, xv_exec xv_mt ro n d M ops ls st σ = some r2) → r1 = r2 := by
    rintro r1 r2 ⟨n, hn⟩ ⟨m, hm⟩
    have h1 := xv_le hn (Nat.le_max_left n m)
    have h2 := xv_le hm (Nat.le_max_right n m)
    exact Option.some.inj (h1.symm.trans h2)
  unfold xv_ev
  by_cases h : ∃ res, ∃ n, xv_exec xv_mt ro n d M ops ls st σ = some res
  · rw [dif_pos h]
    constructor
    · intro h2; cases h2; exact Classical.choose_spec h
    · intro h2; rw [det _ _ (Classical.choose_spec h) h2]
  · rw [dif_neg h]
    constructor
    · intro h2; cases h2
    · intro h2; exact absurd ⟨res, h2⟩ h
noncomputable def xv_evm (ro : xv_Ro) (d k : Nat) (as : List Value) (σ : xv_S) : Option (Option Value × xv_S) :=
  match xv_mt k with
  | some M => if as.length = M.2.2.2.2.1.2.2 + (if M.2.2.2.2.1.2.1 = 0 then 0 else 1) then (match xv_ini M as with
    | some ls0 => xv_ev ro d M (xv_at M.2.2.2.2.2.2 0) ls0 [] σ
    | none => none) else none
  | none => none
theorem xv_opt_ext {α : Type} {x y : Option α} (h : ∀ r, x = some r ↔ y = some r) : x = y := by
  cases x with
  | none => cases y with
    | none => rfl
    | some r => exact absurd ((h r).mpr rfl) (by simp)
  | some r => exact ((h r).mp rfl).symm
section XVE
variable {ro : xv_Ro} {d : Nat} {M : xv_M} {i : Instr} {a b w : Nat} {v : Value} {ops : List xv_Op} {ls : xv_L} {st : List Value} {σ : xv_S}
theorem xv_ev0 (hk : xv_kd i = 0) {ls' : xv_L} {st' : List Value} (h : xv_loc i v ls st = some (ls', st')) : xv_ev ro d M ((i, a, b, w, v) :: ops) ls st σ = xv_ev ro d M ops ls' st' σ := by
  apply xv_opt_ext; intro r; rw [xv_ev_iff, xv_ev_iff]
  constructor
  · rintro ⟨n, hn⟩
    cases n with
    | zero => unfold xv_exec at hn; cases hn
    | succ n => rw [xv_up0 hk h] at hn; exact ⟨n, hn⟩
  · rintro ⟨n, hn⟩; exact ⟨n + 1, by rw [xv_up0 hk h]; exact hn⟩
theorem xv_ev0n (hk : xv_kd i = 0) (h : xv_loc i v ls st = none) : xv_ev ro d M ((i, a, b, w, v) :: ops) ls st σ = none := by
  apply xv_opt_ext; intro r; rw [xv_ev_iff]
  constructor
  · rintro ⟨n, hn⟩
    cases n with
    | zero => unfold xv_exec at hn; cases hn
    | succ n => obtain ⟨_, _, h1, _⟩ := xv_exec_0 hk hn; rw [h] at h1; cases h1
  · intro h; cases h
theorem xv_ev1 (hk : xv_kd i = 1) {c : Nat} {st' : List Value} (h : xv_jmp i a st = some (some c, st')) : xv_ev ro d M ((i, a, b, w, v) :: ops) ls st σ = xv_ev ro d M (xv_at M.2.2.2.2.2.2 c) ls st' σ := by
  apply xv_opt_ext; intro r; rw [xv_ev_iff, xv_ev_iff]
  constructor
  · rintro ⟨n, hn⟩
    cases n with
    | zero => unfold xv_exec at hn; cases hn
    | succ n => rw [xv_up1 hk h] at hn; exact ⟨n, hn⟩
  · rintro ⟨n, hn⟩; exact ⟨n + 1, by rw [xv_up1 hk h]; exact hn⟩
theorem xv_ev1n (hk : xv_kd i = 1) {st' : List Value} (h : xv_jmp i a st = some (none, st')) : xv_ev ro d M ((i, a, b, w, v) :: ops) ls st σ = xv_ev ro d M ops ls st' σ := by
  apply xv_opt_ext; intro r; rw [xv_ev_iff, xv_ev_iff]
  constructor
  · rintro ⟨n, hn⟩
    cases n with
    | zero => unfold xv_exec at hn; cases hn
    | succ n => rw [xv_up1n hk h] at hn; exact ⟨n, hn⟩
  · rintro ⟨n, hn⟩; exact ⟨n + 1, by rw [xv_up1n hk h]; exact hn⟩
theorem xv_ev2 (hk : xv_kd i = 2) {σ' : xv_S} {st' : List Value} (h : xv_hp ro i a b v σ st = some (st', σ')) : xv_ev ro d M ((i, a, b, w, v) :: ops) ls st σ = xv_ev ro d M ops ls st' σ' := by
  apply xv_opt_ext; intro r; rw [xv_ev_iff, xv_ev_iff]
  constructor
  · rintro ⟨n, hn⟩
    cases n with
    | zero => unfold xv_exec at hn; cases hn
    | succ n => rw [xv_up2 hk h] at hn; exact ⟨n, hn⟩
  · rintro ⟨n, hn⟩; exact ⟨n + 1, by rw [xv_up2 hk h]; exact hn⟩
theorem xv_ev2n (hk : xv_kd i = 2) (h : xv_hp ro i a b v σ st = none) : xv_ev ro d M ((i, a, b, w, v) :: ops) ls st σ = none := by
  apply xv_opt_ext; intro r; rw [xv_ev_iff]
  constructor
  · rintro ⟨n, hn⟩
    cases n with
    | zero => unfold xv_exec at hn; cases hn
    | succ n => obtain ⟨_, _, h1, _⟩ := xv_exec_2 hk hn; rw [h] at h1; cases h1
  · intro h; cases h
theorem xv_ev3n (hk : xv_kd i = 3) {st' rest : List Value} (h : xv_spc i a st = some (st', rest)) (hr : rest.length ≤ 4) : xv_ev ro (d + 1) M ((i, a, b, w, .null) :: ops) ls st σ = xv_ev ro (d + 1) M ops ls st' σ := by
  apply xv_opt_ext; intro r; rw [xv_ev_iff, xv_ev_iff]
  constructor
  · rintro ⟨n, hn⟩
    cases n with
    | zero => unfold xv_exec at hn; cases hn
    | succ n => rw [xv_up3n hk h hr] at hn; exact ⟨n, hn⟩
  · rintro ⟨n, hn⟩; exact ⟨n + 1, by rw [xv_up3n hk h hr]; exact hn⟩
/-- what goes on behind a call -/
noncomputable def xv_bd (x : Option (Option Value × xv_S)) (f : Option Value → xv_S → Option (Option Value × xv_S)) : Option (Option Value × xv_S) :=
  match x with
  | some (r, σ) => f r σ
  | none => none
theorem xv_bd_some (r : Option Value) (σ : xv_S) (f : Option Value → xv_S → Option (Option Value × xv_S)) : xv_bd (some (r, σ)) f = f r σ := rfl
theorem xv_ev3 (hk : xv_kd i = 3) (hv : ¬ v = .null) {k : Nat} {as rest : List Value} (h : xv_call i a b v σ.2 st = some (k, as, rest)) (hr : rest.length ≤ 4) :
    xv_ev ro (d + 1) M ((i, a, b, w, v) :: ops) ls st σ = xv_bd (xv_evm ro d k as σ) fun r σ' => xv_ev ro (d + 1) M ops ls (r.toList ++ rest) σ' := by
  apply xv_opt_ext; intro res
  constructor
  · rw [xv_ev_iff]
    rintro ⟨n, hn⟩
    cases n with
    | zero => unfold xv_exec at hn; cases hn
    | succ n =>
      obtain ⟨d', hd, h2 | h2⟩ := xv_exec_3 hk hn
      · exact absurd h2.1 hv
      · obtain ⟨-, k', as', rest', M', ls0, r1, σ1, h1, hm, hi, hr', hal, h3, h4⟩ := h2
        cases hd
        rw [h] at h1
        cases h1
        have he : xv_evm ro d k as σ = some (r1, σ1) := by
          unfold xv_evm
          rw [hm]; dsimp only; rw [if_pos hal, hi]; dsimp only
          exact xv_ev_iff.mpr ⟨n, h3⟩
        rw [he, xv_bd_some]
        exact xv_ev_iff.mpr ⟨n, h4⟩
  · intro h2
    cases he : xv_evm ro d k as σ with
    | none => rw [he] at h2; cases h2
    | some q =>
      obtain ⟨r1, σ1⟩ := q
      rw [he, xv_bd_some] at h2
      unfold xv_evm at he
      cases hm : xv_mt k with
      | none => rw [hm] at he; cases he
      | some M' =>
        rw [hm] at he
        dsimp only at he
        by_cases hal : as.length = M'.2.2.2.2.1.2.2 + (if M'.2.2.2.2.1.2.1 = 0 then 0 else 1)
        · rw [if_pos hal] at he
          cases hi : xv_ini M' as with
          | none => rw [hi] at he; cases he
          | some ls0 =>
            rw [hi] at he
            obtain ⟨n, hn⟩ := xv_ev_iff.mp he
            obtain ⟨m, hm2⟩ := xv_ev_iff.mp h2
            refine xv_ev_iff.mpr ⟨max n m + 1, ?_⟩
            rw [xv_up3 hk hv h hm hi ⟨hr, hal⟩ (xv_le hn (Nat.le_max_left n m))]
            exact xv_le hm2 (Nat.le_max_right n m)
        · rw [if_neg hal] at he; cases he
theorem xv_ev4 (hk : xv_kd i = 4) {r : Option Value} (h : xv_ret M i st = some r) : xv_ev ro d M ((i, a, b, w, v) :: ops) ls st σ = some (r, σ) := xv_ev_iff.mpr ⟨1, xv_up4 hk h⟩
end XVE
theorem xv_evm_of {ro : xv_Ro} {d k : Nat} {as : List Value} {σ : xv_S} {M : xv_M} {ls : xv_L} {ops : List xv_Op} (hk : xv_mt k = some M) (hal : as.length = M.2.2.2.2.1.2.2 + (if M.2.2.2.2.1.2.1 = 0 then 0 else 1)) (hi : xv_ini M as = some ls) (h0 : xv_at M.2.2.2.2.2.2 0 = ops) : xv_evm ro d k as σ = xv_ev ro d M ops ls [] σ := by
  unfold xv_evm
  rw [hk]; dsimp only; rw [if_pos hal, hi]; dsimp only; rw [h0]
