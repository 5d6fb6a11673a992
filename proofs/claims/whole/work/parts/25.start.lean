theorem xv_s0_ok2 : xv_ok2 xv_s0 := ⟨⟨Nat.zero_le _, fun _ _ => rfl⟩, fun k kd n f h => by cases h⟩
theorem xv_new_ok2 {a : Nat} {σ σ' : xv_S} {st st' : List Value} (h : xv_new a σ st = some (st', σ')) (h2 : xv_ok2 σ) : xv_ok2 σ' := xv_hp_ok2 (ro := xv_rn) (i := .new 0) (a := a) (b := 0) (v := .null) h h2
theorem xv_k0_new : xv_new 1 xv_s0 [] = some ([.ref 0], xv_k0) := rfl
theorem xv_kr1_eq : xv_kr1 = some (none, xv_k1) ∧ xv_k1.1.1 = 167 := by
  have h := xv_kr1_ok
  cases hq : xv_kr1 with
  | none => rw [hq] at h; cases h
  | some q =>
    rw [hq] at h
    have h1 := Option.some.inj h
    obtain ⟨r, σ⟩ := q
    have e1 : r = none := congrArg Prod.fst h1
    have e2 : σ.1.1 = 167 := congrArg Prod.snd h1
    subst e1
    have hk : xv_k1 = σ := by unfold xv_k1; rw [hq]; rfl
    exact ⟨by rw [hk], by rw [hk]; exact e2⟩
theorem xv_kr2_eq : xv_kr2 = some (none, xv_k2) ∧ xv_k2.1 = xv_SZ := by
  have h := xv_kr2_ok
  cases hq : xv_kr2 with
  | none => rw [hq] at h; cases h
  | some q =>
    rw [hq] at h
    have h1 := Option.some.inj h
    obtain ⟨r, σ⟩ := q
    have e1 : r = none := congrArg Prod.fst h1
    have e2 : σ.1 = xv_SZ := congrArg Prod.snd h1
    subst e1
    have hk : xv_k2 = σ := by unfold xv_k2; rw [hq]; rfl
    exact ⟨by rw [hk], by rw [hk]; exact e2⟩
theorem xv_k1_new (st : List Value) : xv_new 0 xv_k1 st = some (.ref 167 :: st, xv_k1b) := by
  unfold xv_new
  rw [if_pos (by rw [xv_kr1_eq.2]; decide)]
  unfold xv_k1b
  rw [xv_kr1_eq.2]
theorem xv_k2_ok2 : xv_ok2 xv_k2 := by
  have h0 : xv_ok2 xv_k0 := xv_new_ok2 xv_k0_new xv_s0_ok2
  have h1 : xv_ok2 xv_k1 := xv_exec_ok2 _ _ _ _ _ _ _ _ _ xv_kr1_eq.1 h0
  have h2 : xv_ok2 xv_k1b := xv_new_ok2 (xv_k1_new []) h1
  exact xv_exec_ok2 _ _ _ _ _ _ _ _ _ xv_kr2_eq.1 h2
theorem xv_k2_eq : xv_k2 = (xv_SZ, xv_mk xv_I0 xv_J0) := by
  refine Prod.ext xv_kr2_eq.2 ?_
  funext k
  show xv_k2.2 k = xv_mk xv_I0 xv_J0 k
  unfold xv_mk
  by_cases hk : k < 200
  · have h := List.all_eq_true.mp xv_k2_chk k (List.mem_range.mpr hk)
    cases hs : xv_shl[k]? with
    | none => rw [hs] at h; cases h
    | some sp =>
      rw [hs] at h
      exact (xv_cfm_use h (fun kd n f e => xv_k2_ok2.2 k kd n f e)).symm
  · have hs : xv_shl[k]? = none := List.getElem?_eq_none (by show 200 ≤ k; omega)
    rw [hs]
    exact xv_k2_ok2.1.2 k (by rw [xv_kr2_eq.2]; show 200 ≤ k; omega)
theorem xv_evm_Ct (ro : xv_Ro) : xv_evm ro 199 0 [.ref 0] xv_k0 = some (none, xv_k1) := by
  rw [xv_evm_of (M := xm_Ct_init) rfl rfl rfl rfl]
  exact xv_ev_iff.mpr ⟨3000, xv_exec_ro _ _ _ _ _ _ _ _ xv_kr1_eq.1⟩
theorem xv_evm_Mo (ro : xv_Ro) : xv_evm ro 199 39 [.ref 167] xv_k1b = some (none, (xv_SZ, xv_mk xv_I0 xv_J0)) := by
  rw [xv_evm_of (M := xm_Mo_init) rfl rfl rfl rfl, ← xv_k2_eq]
  exact xv_ev_iff.mpr ⟨3000, xv_exec_ro _ _ _ _ _ _ _ _ xv_kr2_eq.1⟩
theorem xl_start (ro : xv_Ro) : xv_ev ro 200 xm_Root_law xb_Root_law_0 [some (.ref 1000001), none, none, none] [] xv_s0 = xv_ev ro 200 xm_Root_law xb_Root_law_18 [some (.ref 1000001), some (.ref 0), some (.ref 167), some (.int 0)] [] (xv_SZ, xv_mk xv_I0 xv_J0) := by
  unfold xb_Root_law_0
  rw [xv_ev2 rfl (show xv_hp ro (.new 7) _ _ _ xv_s0 [] = some ([.ref 0], xv_k0) from rfl), xr_dup_r]
  rw [xv_ev3 (d := 199) rfl (by simp) (k := 0) (as := [.ref 0]) (rest := [.ref 0]) rfl (by simp), xv_evm_Ct, xv_bd_some]
  show xv_ev ro 200 xm_Root_law _ _ [.ref 0] xv_k1 = _
  rw [xr_astore1]
  rw [xv_ev2 rfl (show xv_hp ro (.new 10) _ _ _ xv_k1 [] = some ([.ref 167], xv_k1b) from xv_k1_new []), xr_dup_r]
  rw [xv_ev3 (d := 199) rfl (by simp) (k := 39) (as := [.ref 167]) (rest := [.ref 167]) rfl (by simp), xv_evm_Mo, xv_bd_some]
  show xv_ev ro 200 xm_Root_law _ _ [.ref 167] (xv_SZ, xv_mk xv_I0 xv_J0) = _
  rw [xr_astore2, xr_iconst, xr_istore3, xr_nop]
  rfl
