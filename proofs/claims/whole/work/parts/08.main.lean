theorem xv_hp_mono {ro : xv_Ro} {i : Instr} {a b : Nat} {v : Value} {σ σ' : xv_S} {st st' : List Value} (h : xv_hp ro i a b v σ st = some (st', σ')) : σ.1.1 ≤ σ'.1.1 ∧ σ.1.2 ≤ σ'.1.2 := by
  cases i with
  | getfield k => obtain ⟨z, -, hz⟩ := xv_opt_use h; cases hz; exact ⟨Nat.le_refl _, Nat.le_refl _⟩
  | putfield k =>
    cases v with
    | int t => obtain ⟨z, -, hz⟩ := xv_opt_use h; cases hz; exact ⟨Nat.le_refl _, Nat.le_refl _⟩
    | _ => cases h
  | iaload => obtain ⟨z, -, hz⟩ := xv_opt_use h; cases hz; exact ⟨Nat.le_refl _, Nat.le_refl _⟩
  | baload => obtain ⟨z, -, hz⟩ := xv_opt_use h; cases hz; exact ⟨Nat.le_refl _, Nat.le_refl _⟩
  | laload => obtain ⟨z, -, hz⟩ := xv_opt_use h; cases hz; exact ⟨Nat.le_refl _, Nat.le_refl _⟩
  | aaload => obtain ⟨z, -, hz⟩ := xv_opt_use h; cases hz; exact ⟨Nat.le_refl _, Nat.le_refl _⟩
  | iastore => obtain ⟨z, -, hz⟩ := xv_opt_use h; cases hz; exact ⟨Nat.le_refl _, Nat.le_refl _⟩
  | bastore => obtain ⟨z, -, hz⟩ := xv_opt_use h; cases hz; exact ⟨Nat.le_refl _, Nat.le_refl _⟩
  | lastore => obtain ⟨z, -, hz⟩ := xv_opt_use h; cases hz; exact ⟨Nat.le_refl _, Nat.le_refl _⟩
  | aastore => obtain ⟨z, -, hz⟩ := xv_opt_use h; cases hz; exact ⟨Nat.le_refl _, Nat.le_refl _⟩
  | arraylength => obtain ⟨z, -, hz⟩ := xv_opt_use h; cases hz; exact ⟨Nat.le_refl _, Nat.le_refl _⟩
  | getstatic k => cases h; exact ⟨Nat.le_refl _, Nat.le_refl _⟩
  | new k =>
    change xv_new a σ st = _ at h
    unfold xv_new at h
    by_cases hc : σ.1.1 < 1000000
    · rw [if_pos hc] at h; cases h; exact ⟨Nat.le_succ _, Nat.le_add_right _ _⟩
    · rw [if_neg hc] at h; cases h
  | newarray k =>
    change xv_newa a σ st = _ at h
    match st, h with
    | .int n :: st, h1 =>
      unfold xv_newa at h1
      by_cases hc : σ.1.1 < 1000000 ∧ 0 ≤ n ∧ n ≤ 100000
      · dsimp only at h1; rw [if_pos hc] at h1; cases h1; exact ⟨Nat.le_succ _, Nat.le_add_right _ _⟩
      · dsimp only at h1; rw [if_neg hc] at h1; cases h1
  | anewarray k =>
    change xv_newa a σ st = _ at h
    match st, h with
    | .int n :: st, h1 =>
      unfold xv_newa at h1
      by_cases hc : σ.1.1 < 1000000 ∧ 0 ≤ n ∧ n ≤ 100000
      · dsimp only at h1; rw [if_pos hc] at h1; cases h1; exact ⟨Nat.le_succ _, Nat.le_add_right _ _⟩
      · dsimp only at h1; rw [if_neg hc] at h1; cases h1
  | _ => cases h
/-- the call of an instruction: callee, arguments, rest -/
def xv_call (i : Instr) (a b : Nat) (v : Value) (h : xv_H) (st : List Value) : Option (Nat × List Value × List Value) :=
  match i with
  | .invokevirtual _ => xv_cv a b v h st
  | .invokespecial _ => xv_ci a b st
  | _ => some (a, (st.take b).reverse, st.drop b)
/-- one step, by the kind of its instruction -/
theorem xv_exec_0 {mt : Nat → Option xv_M} {ro : xv_Ro} {n d : Nat} {M : xv_M} {i : Instr} {a b w : Nat} {v : Value} {ops : List xv_Op} {ls : xv_L} {st : List Value} {σ : xv_S} {res : Option Value × xv_S} (hk : xv_kd i = 0) (h : xv_exec mt ro (n + 1) d M ((i, a, b, w, v) :: ops) ls st σ = some res) :
    ∃ ls' st', xv_loc i v ls st = some (ls', st') ∧ xv_exec mt ro n d M ops ls' st' σ = some res := by
  unfold xv_exec at h
  rw [hk] at h
  cases hl : xv_loc i v ls st with
  | none => rw [hl] at h; cases h
  | some q => rw [hl] at h; exact ⟨q.1, q.2, rfl, h⟩
theorem xv_exec_1 {mt : Nat → Option xv_M} {ro : xv_Ro} {n d : Nat} {M : xv_M} {i : Instr} {a b w : Nat} {v : Value} {ops : List xv_Op} {ls : xv_L} {st : List Value} {σ : xv_S} {res : Option Value × xv_S} (hk : xv_kd i = 1) (h : xv_exec mt ro (n + 1) d M ((i, a, b, w, v) :: ops) ls st σ = some res) :
    ∃ t st', xv_jmp i a st = some (t, st') ∧ (∀ c, t = some c → xv_exec mt ro n d M (xv_at M.2.2.2.2.2.2 c) ls st' σ = some res) ∧ (t = none → xv_exec mt ro n d M ops ls st' σ = some res) := by
  unfold xv_exec at h
  rw [hk] at h
  cases hl : xv_jmp i a st with
  | none => rw [hl] at h; cases h
  | some q =>
    rw [hl] at h
    obtain ⟨t, st'⟩ := q
    cases t with
    | none => exact ⟨none, st', rfl, fun c hc => (by cases hc), fun _ => h⟩
    | some c => exact ⟨some c, st', rfl, fun c2 hc => (by cases hc; exact h), fun hc => by cases hc⟩
theorem xv_exec_2 {mt : Nat → Option xv_M} {ro : xv_Ro} {n d : Nat} {M : xv_M} {i : Instr} {a b w : Nat} {v : Value} {ops : List xv_Op} {ls : xv_L} {st : List Value} {σ : xv_S} {res : Option Value × xv_S} (hk : xv_kd i = 2) (h : xv_exec mt ro (n + 1) d M ((i, a, b, w, v) :: ops) ls st σ = some res) :
    ∃ st' σ', xv_hp ro i a b v σ st = some (st', σ') ∧ xv_exec mt ro n d M ops ls st' σ' = some res := by
  unfold xv_exec at h
  rw [hk] at h
  cases hl : xv_hp ro i a b v σ st with
  | none => rw [hl] at h; cases h
  | some q => rw [hl] at h; exact ⟨q.1, q.2, rfl, h⟩
theorem xv_exec_3 {mt : Nat → Option xv_M} {ro : xv_Ro} {n d : Nat} {M : xv_M} {i : Instr} {a b w : Nat} {v : Value} {ops : List xv_Op} {ls : xv_L} {st : List Value} {σ : xv_S} {res : Option Value × xv_S} (hk : xv_kd i = 3) (h : xv_exec mt ro (n + 1) d M ((i, a, b, w, v) :: ops) ls st σ = some res) :
    ∃ d', d = d' + 1 ∧ ((v = .null ∧ ∃ st' rest, xv_spc i a st = some (st', rest) ∧ rest.length ≤ 4 ∧ xv_exec mt ro n d M ops ls st' σ = some res) ∨
      (¬ v = .null ∧ ∃ k as rest M' ls0 r σ', xv_call i a b v σ.2 st = some (k, as, rest) ∧ mt k = some M' ∧ xv_ini M' as = some ls0 ∧ rest.length ≤ 4 ∧ as.length = M'.2.2.2.2.1.2.2 + (if M'.2.2.2.2.1.2.1 = 0 then 0 else 1) ∧
        xv_exec mt ro n d' M' (xv_at M'.2.2.2.2.2.2 0) ls0 [] σ = some (r, σ') ∧ xv_exec mt ro n d M ops ls (r.toList ++ rest) σ' = some res)) := by
  unfold xv_exec at h
  rw [hk] at h
  cases d with
  | zero => cases h
  | succ d' =>
    refine ⟨d', rfl, ?_⟩
    dsimp only at h
    by_cases hv : v = .null
    · rw [if_pos hv] at h
      refine Or.inl ⟨hv, ?_⟩
      cases hq : xv_spc i a st with
      | none => rw [hq] at h; cases h
      | some q =>
        obtain ⟨st', rest⟩ := q
        rw [hq] at h
        dsimp only at h
        by_cases hr : rest.length ≤ 4
        · rw [if_pos hr] at h; exact ⟨st', rest, rfl, hr, h⟩
        · rw [if_neg hr] at h; cases h
    · rw [if_neg hv] at h
      refine Or.inr ⟨hv, ?_⟩
      change (match xv_call i a b v σ.2 st with
          | some (k, as, rest) => _
          | none => none) = _ at h
      cases hc : xv_call i a b v σ.2 st with
      | none => rw [hc] at h; cases h
      | some q =>
        obtain ⟨k, as, rest⟩ := q
        rw [hc] at h
        dsimp only at h
        cases hm : mt k with
        | none => rw [hm] at h; cases h
        | some M' =>
          rw [hm] at h
          dsimp only at h
          cases hi : xv_ini M' as with
          | none => rw [hi] at h; cases h
          | some ls0 =>
            rw [hi] at h
            dsimp only at h
            by_cases hr : rest.length ≤ 4 ∧ as.length = M'.2.2.2.2.1.2.2 + (if M'.2.2.2.2.1.2.1 = 0 then 0 else 1)
            · rw [if_pos hr] at h
              cases he : xv_exec mt ro n d' M' (xv_at M'.2.2.2.2.2.2 0) ls0 [] σ with
              | none => rw [he] at h; cases h
              | some q =>
                rw [he] at h
                exact ⟨k, as, rest, M', ls0, q.1, q.2, rfl, hm, hi, hr.1, hr.2, he, h⟩
            · rw [if_neg hr] at h; cases h
theorem xv_exec_4 {mt : Nat → Option xv_M} {ro : xv_Ro} {n d : Nat} {M : xv_M} {i : Instr} {a b w : Nat} {v : Value} {ops : List xv_Op} {ls : xv_L} {st : List Value} {σ : xv_S} {res : Option Value × xv_S} (hk : xv_kd i = 4) (h : xv_exec mt ro (n + 1) d M ((i, a, b, w, v) :: ops) ls st σ = some res) :
    ∃ r, xv_ret M i st = some r ∧ res = (r, σ) := by
  unfold xv_exec at h
  rw [hk] at h
  cases hl : xv_ret M i st with
  | none => rw [hl] at h; cases h
  | some r => rw [hl] at h; cases h; exact ⟨r, rfl, rfl⟩
theorem xv_kd_lt (i : Instr) : xv_kd i = 0 ∨ xv_kd i = 1 ∨ xv_kd i = 2 ∨ xv_kd i = 3 ∨ xv_kd i = 4 := by
  unfold xv_kd
  split <;> simp
theorem xv_mono {mt : Nat → Option xv_M} {ro : xv_Ro} : ∀ (n d : Nat) (M : xv_M) (ops : List xv_Op) (ls : xv_L) (st : List Value) (σ : xv_S) (r : Option Value) (σ' : xv_S), xv_exec mt ro n d M ops ls st σ = some (r, σ') → σ.1.1 ≤ σ'.1.1 ∧ σ.1.2 ≤ σ'.1.2 := by
  intro n
  induction n with
  | zero => intro d M ops ls st σ r σ' h; unfold xv_exec at h; cases h
  | succ n ih =>
    intro d M ops ls st σ r σ' h
    cases ops with
    | nil => unfold xv_exec at h; cases h
    | cons op ops =>
      obtain ⟨i, a, b, w, v⟩ := op
      rcases xv_kd_lt i with hk | hk | hk | hk | hk
      · obtain ⟨ls', st', -, h2⟩ := xv_exec_0 hk h
        exact ih _ _ _ _ _ _ _ _ h2
      · obtain ⟨t, st', -, h2, h3⟩ := xv_exec_1 hk h
        cases t with
        | none => exact ih _ _ _ _ _ _ _ _ (h3 rfl)
        | some c => exact ih _ _ _ _ _ _ _ _ (h2 c rfl)
      · obtain ⟨st', σ1, h1, h2⟩ := xv_exec_2 hk h
        have g1 := xv_hp_mono h1
        have g2 := ih _ _ _ _ _ _ _ _ h2
        exact ⟨Nat.le_trans g1.1 g2.1, Nat.le_trans g1.2 g2.2⟩
      · obtain ⟨d', -, h2 | h2⟩ := xv_exec_3 hk h
        · obtain ⟨-, st', rest, -, -, h3⟩ := h2
          exact ih _ _ _ _ _ _ _ _ h3
        · obtain ⟨-, k, as, rest, M', ls0, r1, σ1, -, -, -, -, -, h3, h4⟩ := h2
          have g1 := ih _ _ _ _ _ _ _ _ h3
          have g2 := ih _ _ _ _ _ _ _ _ h4
          exact ⟨Nat.le_trans g1.1 g2.1, Nat.le_trans g1.2 g2.2⟩
      · obtain ⟨r1, -, h2⟩ := xv_exec_4 hk h
        cases h2
        exact ⟨Nat.le_refl _, Nat.le_refl _⟩
